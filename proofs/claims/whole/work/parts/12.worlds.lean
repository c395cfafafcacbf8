/-! The two worlds: the class's thirty cells and the reference's thirteen, as they stand behind the constructors; no call makes a cell. -/
def wd (n : Nat) (ad : Nat → Nat) (ce : Nat → va_E) : va_W := (List.range n).map (fun k => (ad k, ce k))
theorem wd_get {n k : Nat} {ad : Nat → Nat} {ce : Nat → va_E} (hk : k < n) : (wd n ad ce)[k]? = some (ad k, ce k) := by simp [wd, hk]
theorem wd_set {n k : Nat} {ad : Nat → Nat} {ce ce1 : Nat → va_E} {x : va_E} (hx : x = ce1 k) (h : ∀ j, j ≠ k → ce1 j = ce j) : (wd n ad ce).set k (ad k, x) = wd n ad ce1 := by
  subst hx
  apply List.ext_getElem?
  intro i
  rw [List.getElem?_set]
  by_cases hi : k = i
  · subst hi
    by_cases hk : k < n
    · simp [wd, hk]
    · simp [wd, hk]
  · rw [if_neg hi]
    by_cases hk : i < n
    · rw [wd_get hk, wd_get hk, h i (fun q => hi q.symm)]
    · simp [wd, hk]
theorem hs_ne {h : HP} {a i k : Nat} {v : Int} (hk : k ≠ a) : (hs h a i v) k = h k := by funext b; simp [hs, hk]
theorem hs_eq {h : HP} {a i : Nat} {v : Int} : (hs h a i v) a = fun b => if b = i then v else h a b := by funext b; simp [hs]
theorem upd_of (r : Nat → Int) (i : Nat) (v : Int) : upd (fun j => Int32.ofInt (r j)) i (Int32.ofInt v) = fun j => Int32.ofInt (if j = i then v else r j) := by
  funext j
  unfold upd
  by_cases hj : j = i
  · simp [hj]
  · simp [hj]
def isArr (k : Nat) : Bool := decide (12 ≤ k ∧ k < 30 ∧ k ≠ 27)
def isSh (k : Nat) : Bool := decide (2 ≤ k ∧ k < 12)
def lnC (k : Nat) : Nat := if isArr k then (if k < 22 then 12 else if k < 27 then 9 else if k = 28 then 256 else 297) else 0
def ceC (ad : Nat → Nat) (cI cR : ClassId) (r : Nat → Int) (k : Nat) : va_E :=
  if k = 0 then .inr (2, [.ref (ad 1), vi (r 1), .ref (ad 22), .ref (ad 23), .ref (ad 24), .ref (ad 25), .ref (ad 26), .ref (ad 27), .ref (ad 29)])
  else if k = 1 then .inl (cR, 10, .inr (.inr (.inr (.inr (fun j => some (ad (2 + j)))))))
  else if k = 27 then .inr (0, [.ref (ad 28), vi (r 1)])
  else if isSh k then .inr (1, [.ref (ad (k + 10)), vi (r 1), vi (r 2)])
  else .inl (cI, lnC k, .inl (fun j => Int32.ofInt (r j)))
def lnM (k : Nat) : Nat := if k = 1 then 10 else if k = 2 then 10 else if k = 3 then 120 else if k = 4 then 12 else if k = 5 then 9 else if k = 6 then 9 else if k = 7 then 20 else if k = 8 then 10 else if k = 9 then 324 else if k = 10 then 12 else if k = 11 then 12 else if k = 12 then 297 else 0
def ceM (ad : Nat → Nat) (cI : ClassId) (r : Nat → Int) (k : Nat) : va_E :=
  if k = 0 then .inr (3, [.ref (ad 1), .ref (ad 2), .ref (ad 3), .ref (ad 4), vi (r 4), .ref (ad 5), vi (r 6), .ref (ad 6), vi (r 8), .ref (ad 7), vi (r 10), .ref (ad 8), .ref (ad 9), vi (r 13), .ref (ad 10), .ref (ad 11), .ref (ad 12)])
  else .inl (cI, lnM k, .inl (fun j => Int32.ofInt (r j)))
def sdC (l : Launch) (D : va_G) (ad : Nat → Nat) (cI cR : ClassId) : SD := (l, D, [(cI, .int), (cR, .object "FormsOfTwo$Sheet")], fun h => wd 30 ad (fun k => ceC ad cI cR (h k) k))
def sdM (l : Launch) (D : va_G) (ad : Nat → Nat) (cI : ClassId) : SD := (l, D, [(cI, .int)], fun h => wd 13 ad (fun k => ceM ad cI (h k) k))
theorem arr_of_ln {k : Nat} {z : Int} (h0 : 0 ≤ z) (h : z < lnC k) : isArr k = true := by
  by_cases hk : isArr k = true
  · exact hk
  · simp [lnC, hk] at h; omega
theorem arr_is {k : Nat} : isArr k = true ↔ 12 ≤ k ∧ k < 30 ∧ k ≠ 27 := by unfold isArr; exact decide_eq_true_iff
theorem sh_is {k : Nat} : isSh k = true ↔ 2 ≤ k ∧ k < 12 := by unfold isSh; exact decide_eq_true_iff
theorem arr_lt {k : Nat} (h : isArr k = true) : k < 30 := (arr_is.mp h).2.1
theorem sh_lt {k : Nat} (h : isSh k = true) : 2 ≤ k ∧ k < 12 := sh_is.mp h
theorem sh_arr {k : Nat} (h : isSh k = true) : isArr (k + 10) = true := by
  have h1 := sh_lt h
  exact arr_is.mpr (by omega)
theorem ceC_arr {ad : Nat → Nat} {cI cR : ClassId} {r : Nat → Int} {k : Nat} (h : isArr k = true) : ceC ad cI cR r k = .inl (cI, lnC k, .inl (fun j => Int32.ofInt (r j))) := by
  have h1 := arr_is.mp h
  have h2 : ¬ isSh k = true := fun q => by have := sh_lt q; omega
  unfold ceC
  rw [if_neg (by omega), if_neg (by omega), if_neg h1.2.2, if_neg h2]
theorem ceC_sh {ad : Nat → Nat} {cI cR : ClassId} {r : Nat → Int} {k : Nat} (h : isSh k = true) : ceC ad cI cR r k = .inr (1, [.ref (ad (k + 10)), vi (r 1), vi (r 2)]) := by
  have h1 := sh_lt h
  unfold ceC
  rw [if_neg (by omega), if_neg (by omega), if_neg (by omega), if_pos h]
section MEM
variable {l : Launch} {D : va_G} {ad : Nat → Nat} {cI cR : ClassId} {M : MD} {R : RS} {pc : Nat} {loc : List (Nat × Value)} {stk : List Value} {h : HP}
theorem ceC_hs {a i : Nat} {v : Int} (j : Nat) (hj : j ≠ a) : ceC ad cI cR ((hs h a i v) j) j = ceC ad cI cR (h j) j := by rw [hs_ne hj]
theorem ceM_hs {a i : Nat} {v : Int} (j : Nat) (hj : j ≠ a) : ceM ad cI ((hs h a i v) j) j = ceM ad cI (h j) j := by rw [hs_ne hj]
theorem wC_arr {a : Nat} (ha : isArr a = true) : ((sdC l D ad cI cR).2.2.2 h)[a]? = some (ad a, .inl (cI, lnC a, .inl (fun j => Int32.ofInt (h a j)))) := by
  show (wd 30 ad (fun k => ceC ad cI cR (h k) k))[a]? = _
  rw [wd_get (arr_lt ha), ceC_arr ha]
theorem wC_set {a i : Nat} {v : Int} (ha : isArr a = true) : ((sdC l D ad cI cR).2.2.2 h).set a (ad a, .inl (cI, lnC a, .inl (upd (fun j => Int32.ofInt (h a j)) i (Int32.ofInt v)))) = (sdC l D ad cI cR).2.2.2 (hs h a i v) := by
  show (wd 30 ad (fun k => ceC ad cI cR (h k) k)).set a _ = wd 30 ad (fun k => ceC ad cI cR ((hs h a i v) k) k)
  exact wd_set (by rw [ceC_arr ha, hs_eq, upd_of]) (fun j hj => ceC_hs j hj)
theorem ceM_arr {r : Nat → Int} {a : Nat} (ha : 1 ≤ a) : ceM ad cI r a = .inl (cI, lnM a, .inl (fun j => Int32.ofInt (r j))) := by unfold ceM; rw [if_neg (by omega)]
theorem wM_arr {a : Nat} (ha : 1 ≤ a ∧ a ≤ 12) : ((sdM l D ad cI).2.2.2 h)[a]? = some (ad a, .inl (cI, lnM a, .inl (fun j => Int32.ofInt (h a j)))) := by
  show (wd 13 ad (fun k => ceM ad cI (h k) k))[a]? = _
  rw [wd_get (by omega), ceM_arr ha.1]
theorem wM_set {a i : Nat} {v : Int} (ha : 1 ≤ a ∧ a ≤ 12) : ((sdM l D ad cI).2.2.2 h).set a (ad a, .inl (cI, lnM a, .inl (upd (fun j => Int32.ofInt (h a j)) i (Int32.ofInt v)))) = (sdM l D ad cI).2.2.2 (hs h a i v) := by
  show (wd 13 ad (fun k => ceM ad cI (h k) k)).set a _ = wd 13 ad (fun k => ceM ad cI ((hs h a i v) k) k)
  exact wd_set (by rw [ceM_arr ha.1, hs_eq, upd_of]) (fun j hj => ceM_hs j hj)
theorem C_ld {α : Type} {Z : α} {a : Nat} {i : Int} {kf : Int → Option α} (hf : ld (lnC a) (h a) i kf = some Z) (hd : decode M.2.1 pc = .ok (.iaload, 1)) (kk : ∀ v : Int, kf v = some Z → Rn (sdC l D ad cI cR) M R (pc + 1) loc (vi v :: stk) h) : Rn (sdC l D ad cI cR) M R pc loc (vi i :: .ref (ad a) :: stk) h := by
  unfold ld at hf
  split at hf
  · rename_i hi
    have ha := arr_of_ln hi.1 hi.2
    exact q_iald (S := sdC l D ad cI cR) (k := a) (n := lnC a) (cA := cI) (f := fun j => Int32.ofInt (h a j)) (wC_arr ha) rfl hi hd (kk _ hf)
  · cases hf
theorem C_st {α : Type} {Z : α} {a : Nat} {i v : Int} {kf : HP → Option α} (hf : sto (lnC a) h a i v kf = some Z) (hd : decode M.2.1 pc = .ok (.iastore, 1)) (kk : ∀ h1 : HP, kf h1 = some Z → Rn (sdC l D ad cI cR) M R (pc + 1) loc stk h1) : Rn (sdC l D ad cI cR) M R pc loc (vi v :: vi i :: .ref (ad a) :: stk) h := by
  unfold sto at hf
  split at hf
  · rename_i hi
    have ha := arr_of_ln hi.1 hi.2
    exact q_iast (S := sdC l D ad cI cR) (k := a) (n := lnC a) (cA := cI) (f := fun j => Int32.ofInt (h a j)) (h1 := hs h a (wi i).toNat v) (wC_arr ha) rfl hi (wC_set ha) hd (kk _ hf)
  · cases hf
theorem C_alen {a : Nat} (ha : isArr a = true) (hd : decode M.2.1 pc = .ok (.arraylength, 1)) (kk : Rn (sdC l D ad cI cR) M R (pc + 1) loc (vi (lnC a) :: stk) h) : Rn (sdC l D ad cI cR) M R pc loc (.ref (ad a) :: stk) h :=
  q_alen (S := sdC l D ad cI cR) (k := a) (n := lnC a) (cA := cI) (f := fun j => Int32.ofInt (h a j)) (wC_arr ha) rfl hd kk
theorem C_ald {α : Type} {Z : α} {i : Int} {kf : Nat → Option α} (hf : lda i kf = some Z) (hd : decode M.2.1 pc = .ok (.aaload, 1)) (kk : ∀ k : Nat, isSh k = true → kf k = some Z → Rn (sdC l D ad cI cR) M R (pc + 1) loc (.ref (ad k) :: stk) h) : Rn (sdC l D ad cI cR) M R pc loc (vi i :: .ref (ad 1) :: stk) h := by
  unfold lda at hf
  split at hf
  · rename_i hi
    exact q_aald (S := sdC l D ad cI cR) (k := 1) (n := 10) (t0 := 1) (cA := cR) (Cn := "FormsOfTwo$Sheet") (f := fun j => some (ad (2 + j))) (wd_get (by decide)) rfl hi rfl hd (kk _ (sh_is.mpr (by omega)) hf)
  · cases hf
theorem M_ld {α : Type} {Z : α} {a : Nat} {i : Int} {kf : Int → Option α} (ha : (Nat.ble 1 a && Nat.ble a 12) = true) (hf : ld (lnM a) (h a) i kf = some Z) (hd : decode M.2.1 pc = .ok (.iaload, 1)) (kk : ∀ v : Int, kf v = some Z → Rn (sdM l D ad cI) M R (pc + 1) loc (vi v :: stk) h) : Rn (sdM l D ad cI) M R pc loc (vi i :: .ref (ad a) :: stk) h := by
  simp only [Bool.and_eq_true, Nat.ble_eq] at ha
  unfold ld at hf
  split at hf
  · rename_i hi
    exact q_iald (S := sdM l D ad cI) (k := a) (n := lnM a) (cA := cI) (f := fun j => Int32.ofInt (h a j)) (wM_arr ha) rfl hi hd (kk _ hf)
  · cases hf
theorem M_st {α : Type} {Z : α} {a : Nat} {i v : Int} {kf : HP → Option α} (ha : (Nat.ble 1 a && Nat.ble a 12) = true) (hf : sto (lnM a) h a i v kf = some Z) (hd : decode M.2.1 pc = .ok (.iastore, 1)) (kk : ∀ h1 : HP, kf h1 = some Z → Rn (sdM l D ad cI) M R (pc + 1) loc stk h1) : Rn (sdM l D ad cI) M R pc loc (vi v :: vi i :: .ref (ad a) :: stk) h := by
  simp only [Bool.and_eq_true, Nat.ble_eq] at ha
  unfold sto at hf
  split at hf
  · rename_i hi
    exact q_iast (S := sdM l D ad cI) (k := a) (n := lnM a) (cA := cI) (f := fun j => Int32.ofInt (h a j)) (h1 := hs h a (wi i).toNat v) (wM_arr ha) rfl hi (wM_set ha) hd (kk _ hf)
  · cases hf
end MEM
