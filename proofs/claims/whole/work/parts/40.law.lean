/-! THE CLAIM OUT OF ONE WALK OF THE LAW'S BODY. Your part is whole_start (and what it stands on); all else here is the same for every law, but numbers. -/
def R_law : String := "FormsOfTwoLaw"
def lw_P (b : Addr) (xs : List Int32) (args : Array Value) (s : State) : Prop := args = #[.ref b] ∧ s.IntsAt b xs ∧ xs.length ≤ 3584 ∧ (Jvm.Cond.and given_1 narrow_1).before args s = true
def lw_Q (_ : Array Value) (s : State) (o : Outcome) (t : State) : Prop := o = .returned (some (.int 1)) ∧ Framed s o t [] 600000 7302250
def lw_Z (below : List Frame) (a : Array Value) (s : State) : State → Prop := fun t => ∃ o, t.status = .running ∧ Ended t below o ∧ lw_Q a s o t
/-- the law's own end, with 1 on the stack, nothing written that was there before, its room as the claim has it -/
theorem lw_ret {p : Program} {l : Launch} {e : Env} {s : State} {m : MethodId} {below : List Frame} {meth : Method} {c : Code} {b : Nat} (hx : p.tables.exec = Jvm.exec) (hb : c.code = code) (hr : meth.sig.returnType = ret) (hlocks : meth.locks = false) {pc : Nat} {H : Heap} {ls : Array Slot} (hdg : decode code pc = .ok (.ireturn, 1)) : W p l e room_1 s m #[Value.ref b] below meth c H [] 600000 7302250 (lw_Z below #[Value.ref b] s) (F0 m pc ls [.int 1]) := by
  intro T hT X
  obtain ⟨fs, hret, hrun, hended, hW, hframe⟩ := X.leave (v := some (.int 1)) (hlocks := hlocks) (fun h => by rw [hr] at h; cases h)
  have hmeth' : T.vm.method? m = some meth := X.method'
  refine ⟨T.setFrames fs, ?_, .returned (some (.int 1)), hrun, hended, rfl, ⟨_, rfl⟩, hW, hframe⟩
  jvm_step X.here [X.here.top, hx, hb, hdg, hmeth', hr, ret, narrow_b1]
  (try refine ⟨rfl, ?_⟩); (try refine ⟨rfl, ?_⟩)
  first | (intro acts; rw [hret _ acts rfl rfl rfl]) | rw [hret _ _ rfl rfl rfl]
  exact Steps.refl _
/-- what holds at the law's entry: the machine, the code, the tables' words (any of lw_tbl by 'hts w (by decide +kernel)'), the script of L ints xs at the cell b, what the Statement gives of the start (any of its parts by flat_of_before) -/
def lw_At (p : Program) (s : State) (m : MethodId) (meth : Method) (c : Code) (b L : Nat) (xs : Nat → Int32) : Prop :=
  p.tables.exec = Jvm.exec ∧ c.code = code ∧ meth.sig.returnType = ret ∧ c.maxLocals = 4 ∧ s.vm.findClass R_law = some m.cls ∧ (∀ w ∈ lw_tbl, w.before #[Value.ref b] s = true) ∧ va_X b L xs s s.heap ∧ b < s.heap.size ∧ meth.locks = false ∧ (Jvm.Cond.and given_1 narrow_1).before #[Value.ref b] s = true

theorem wd_D {n : Nat} {ad : Nat → Nat} {ce : Nat → va_E} {A : Nat → Prop} (h1 : ∀ i j, i < n → j < n → ad i = ad j → i = j) (h2 : ∀ i, i < n → A (ad i)) : va_D A (wd n ad ce) := by
  have key : ∀ (i : Nat) (q : Nat × va_E), (wd n ad ce)[i]? = some q → i < n ∧ q.1 = ad i := fun i q hq => by
    by_cases hi : i < n
    · rw [wd_get hi] at hq; cases hq; exact ⟨hi, rfl⟩
    · simp [wd, hi] at hq
  refine ⟨fun i j p q hp hq e => ?_, fun i q hq => ?_⟩
  · obtain ⟨a1, a2⟩ := key i p hp
    obtain ⟨b1, b2⟩ := key j q hq
    exact h1 i j a1 b1 (by rw [← a2, ← b2, e])
  · obtain ⟨a1, a2⟩ := key i q hq
    rw [a2]; exact h2 i a1
theorem wd_D1 {n : Nat} {ad : Nat → Nat} {ce : Nat → va_E} {A : Nat → Prop} (h : va_D A (wd n ad ce)) : (∀ i j, i < n → j < n → ad i = ad j → i = j) ∧ ∀ i, i < n → A (ad i) :=
  ⟨fun i j hi hj e => h.1 i j _ _ (wd_get hi) (wd_get hj) e, fun i hi => h.2 i _ (wd_get hi)⟩
theorem wd_P {n : Nat} {ad : Nat → Nat} {ce : Nat → va_E} {D : va_G} {H : Heap} (h : ∀ k, k < n → va_at D clz (ad k, ce k) H) : va_P D clz (wd n ad ce) H := fun k q hq => by
  by_cases hi : k < n
  · rw [wd_get hi] at hq; cases hq; exact h k hi
  · simp [wd, hi] at hq
theorem wd_P1 {n : Nat} {ad : Nat → Nat} {ce : Nat → va_E} {D : va_G} {H : Heap} (h : va_P D clz (wd n ad ce) H) : ∀ k, k < n → va_at D clz (ad k, ce k) H := fun k hk => h k _ (wd_get hk)
theorem arrV_cg {cA : ClassId} {n : Nat} {f g : Nat → Value} (h : ∀ j, j < n → f j = g j) : arrV cA n f = arrV cA n g := by
  unfold arrV
  congr 2
  funext j
  exact h j.val j.isLt
/-- what the law's walk stands on behind the constructors -/
def LX (p : Program) (l : Launch) (s : State) (m : MethodId) (meth : Method) (c : Code) (b L : Nat) (xs : Nat → Int32) (D : va_G) (a1 a2 : Nat → Nat) (cI cR cJ : ClassId) : Prop :=
  lw_At p s m meth c b L xs ∧ va_K D clz [(cI, .int), (cR, .object "FormsOfTwo$Sheet")] s ∧ va_K D clz [(cJ, .int)] s ∧ (∀ i j, i < 30 → j < 30 → a1 i = a1 j → i = j) ∧ (∀ i, i < 30 → s.heap.size ≤ a1 i) ∧ (∀ i j, i < 13 → j < 13 → a2 i = a2 j → i = j) ∧ (∀ i, i < 13 → s.heap.size ≤ a2 i) ∧ (∀ i j, i < 30 → j < 13 → a1 i ≠ a2 j)
def Lw (p : Program) (l : Launch) (e : Env) (s : State) (m : MethodId) (below : List Frame) (meth : Method) (c : Code) (b : Nat) (D : va_G) (a1 a2 : Nat → Nat) (cI cR cJ : ClassId) (pc t : Nat) (stk : List Value) (h1 h2 : HP) : Prop :=
  ∀ (H : Heap) (locs : List Loc) (ls : Array Slot), va_P D clz ((sdC l D a1 cI cR).2.2.2 h1) H → va_P D clz ((sdM l D a2 cJ).2.2.2 h2) H → va_S (fun q : Nat => s.heap.size ≤ q) s.heap H locs → lv_has ls 4 [(0, .ref b), (1, .ref (a1 0)), (2, .ref (a2 0)), (3, .int (nI t))] →
    W p l e room_1 s m #[Value.ref b] below meth c H locs 43 1631 (lw_Z below #[Value.ref b] s) (F0 m pc ls stk)
section LAW
variable {p : Program} {l : Launch} {e : Env} {s : State} {m : MethodId} {below : List Frame} {meth : Method} {c : Code} {b L : Nat} {xs : Nat → Int32} {D : va_G} {a1 a2 : Nat → Nat} {cI cR cJ : ClassId} {pc t : Nat} {stk rest : List Value} {h1 h2 : HP}
theorem l_a1 (C : LX p l s m meth c b L xs D a1 a2 cI cR cJ) (hd : decode code pc = .ok (.aload_n 1, 1)) (k : Lw p l e s m below meth c b D a1 a2 cI cR cJ (pc + 1) t (.ref (a1 0) :: stk) h1 h2) : Lw p l e s m below meth c b D a1 a2 cI cR cJ pc t stk h1 h2 := fun H locs ls hP1 hP2 hS hv => lv_aload_n C.1.1 C.1.2.1 hd rfl (lv_at hv 1 rfl) (k H locs ls hP1 hP2 hS hv)
theorem l_a2 (C : LX p l s m meth c b L xs D a1 a2 cI cR cJ) (hd : decode code pc = .ok (.aload_n 2, 1)) (k : Lw p l e s m below meth c b D a1 a2 cI cR cJ (pc + 1) t (.ref (a2 0) :: stk) h1 h2) : Lw p l e s m below meth c b D a1 a2 cI cR cJ pc t stk h1 h2 := fun H locs ls hP1 hP2 hS hv => lv_aload_n C.1.1 C.1.2.1 hd rfl (lv_at hv 2 rfl) (k H locs ls hP1 hP2 hS hv)
theorem l_bA (C : LX p l s m meth c b L xs D a1 a2 cI cR cJ) : ¬ (fun q : Nat => s.heap.size ≤ q) b := Nat.not_le.mpr C.1.2.2.2.2.2.2.2.1
theorem l_arg0 (C : LX p l s m meth c b L xs D a1 a2 cI cR cJ) (ht : t < L) (hL : L ≤ 3584) (d0 : decode code pc = .ok (.aload_n 0, 1)) (d1 : decode code (pc + 1) = .ok (.iload_n 3, 1)) (d2 : decode code (pc + 2) = .ok (.iaload, 1)) (k : Lw p l e s m below meth c b D a1 a2 cI cR cJ (pc + 3) t (.int (xs t) :: stk) h1 h2) : Lw p l e s m below meth c b D a1 a2 cI cR cJ pc t stk h1 h2 := fun H locs ls hP1 hP2 hS hv => by
  refine lv_aload_n C.1.1 C.1.2.1 d0 rfl (lv_at hv 0 rfl) ?_
  refine lv_iload_n C.1.1 C.1.2.1 d1 rfl (lv_at hv 3 rfl) ?_
  refine va_sld C.1.1 C.1.2.1 C.1.2.2.2.2.2.2.1 C.1.2.2.2.2.2.2.2.1 (l_bA C) hS (vp_in_nI ht (by omega)) d2 ?_
  rw [nI_clamp (by omega)]
  exact k H locs ls hP1 hP2 hS hv
theorem l_arg (C : LX p l s m meth c b L xs D a1 a2 cI cR cJ) (j : Nat) {z : Int} (hz : Int32.ofInt z = nI j) (ht : t + j < L) (hL : L ≤ 3584) (d0 : decode code pc = .ok (.aload_n 0, 1)) (d1 : decode code (pc + 1) = .ok (.iload_n 3, 1)) (d2 : decode code (pc + 2) = .ok (.iconst z, 1)) (d3 : decode code (pc + 3) = .ok (.iadd, 1)) (d4 : decode code (pc + 4) = .ok (.iaload, 1)) (k : Lw p l e s m below meth c b D a1 a2 cI cR cJ (pc + 5) t (vi (xs (t + j)).toInt :: stk) h1 h2) : Lw p l e s m below meth c b D a1 a2 cI cR cJ pc t stk h1 h2 := fun H locs ls hP1 hP2 hS hv => by
  refine lv_aload_n C.1.1 C.1.2.1 d0 rfl (lv_at hv 0 rfl) ?_
  refine lv_iload_n C.1.1 C.1.2.1 d1 rfl (lv_at hv 3 rfl) ?_
  refine lv_iconst C.1.1 C.1.2.1 d2 hz ?_
  refine lv_iadd C.1.1 C.1.2.1 d3 ?_
  rw [nI_add]
  refine va_sld C.1.1 C.1.2.1 C.1.2.2.2.2.2.2.1 C.1.2.2.2.2.2.2.2.1 (l_bA C) hS (vp_in_nI ht (by omega)) d4 ?_
  rw [nI_clamp (by omega)]
  have h := k H locs ls hP1 hP2 hS hv
  unfold vi at h
  rw [Int32.ofInt_toInt] at h
  exact h
theorem l_argb (C : LX p l s m meth c b L xs D a1 a2 cI cR cJ) (j : Nat) {z : Int} (hz : (Int8.ofInt z).toInt32 = nI j) (ht : t + j < L) (hL : L ≤ 3584) (d0 : decode code pc = .ok (.aload_n 0, 1)) (d1 : decode code (pc + 1) = .ok (.iload_n 3, 1)) (d2 : decode code (pc + 2) = .ok (.bipush z, 2)) (d3 : decode code (pc + 4) = .ok (.iadd, 1)) (d4 : decode code (pc + 5) = .ok (.iaload, 1)) (k : Lw p l e s m below meth c b D a1 a2 cI cR cJ (pc + 6) t (vi (xs (t + j)).toInt :: stk) h1 h2) : Lw p l e s m below meth c b D a1 a2 cI cR cJ pc t stk h1 h2 := fun H locs ls hP1 hP2 hS hv => by
  refine lv_aload_n C.1.1 C.1.2.1 d0 rfl (lv_at hv 0 rfl) ?_
  refine lv_iload_n C.1.1 C.1.2.1 d1 rfl (lv_at hv 3 rfl) ?_
  refine lv_bipush C.1.1 C.1.2.1 d2 hz ?_
  refine lv_iadd C.1.1 C.1.2.1 d3 ?_
  rw [nI_add]
  refine va_sld C.1.1 C.1.2.1 C.1.2.2.2.2.2.2.1 C.1.2.2.2.2.2.2.2.1 (l_bA C) hS (vp_in_nI ht (by omega)) d4 ?_
  rw [nI_clamp (by omega)]
  have h := k H locs ls hP1 hP2 hS hv
  unfold vi at h
  rw [Int32.ofInt_toInt] at h
  exact h
theorem l_cb (C : LX p l s m meth c b L xs D a1 a2 cI cR cJ) {M2 : MD} {n idx : Nat} (hm : MF M2 n) (hlk : Cond.methodLink RL idx M2.1 ∈ tbG) (hR : (Nat.ble (M2.2.2.2.2.1 + 1) 8 && Nat.ble (8 + (M2.2.2.1 + 11) + M2.2.2.2.2.2) 296) = true) : CallB room_1 s #[Value.ref b] R_law idx M2.1 M2.2.1 M2.2.2.1 M2.2.2.2.1 (wsOf M2) (rmOf M2) 0 0 n := by
  obtain ⟨m1, m2, m3⟩ := hm
  rw [Bool.and_eq_true] at hR
  have hts := C.1.2.2.2.2.2.1
  exact callB_of n hts (fun w hw => by
    have q1 : w ∈ tbG := (List.mem_cons.mp hw).elim (fun e => e ▸ m1) id
    exact ⟨tbG_lw q1, good_of_word (tbG_good q1)⟩) rfl rfl rfl (hts _ (tbG_lw m2)) (hts _ (tbG_lw hlk)) m3 ⟨Nat.le_of_ble_eq_true hR.1, Nat.le_of_ble_eq_true hR.2⟩
/-- a call on one side: its world goes on, the other's stays -/
theorem l_call {S : SD} {n n' : Nat} {ad ad' : Nat → Nat} {ce ce' : HP → Nat → va_E} {M2 : MD} {av : List Value} {R2 : RS} {idx ci : Nat} {fs : List Value} {q : vw_C} {g g' : HP} {H : Heap} {locs : List Loc} {ls : Array Slot} {Q : State → Prop} (hSw : S.2.2.2 = fun h => wd n ad (ce h)) (hS1 : S.1 = l) (hS2 : S.2.1 = D) (hKs : va_K D clz S.2.2.1 s) (hnz : 0 < n) (C : LX p l s m meth c b L xs D a1 a2 cI cR cJ)
    (hinj : ∀ i j, i < n → j < n → ad i = ad j → i = j) (hlo : ∀ i, i < n → s.heap.size ≤ ad i) (hx : ∀ i j, i < n → j < n' → ad i ≠ ad' j)
    (hct : Ct S M2 (.ref (ad 0) :: av) g R2) (hm : MF M2 av.length) (hin : Cond.instanceMethod M2.1 ∈ tbG) (hse : Cond.selects M2.1.cls M2.1 M2.1 ∈ tbG) (hlk : Cond.methodLink RL idx M2.1 ∈ tbG) (hR : (Nat.ble (M2.2.2.2.2.1 + 1) 8 && Nat.ble (8 + (M2.2.2.1 + 11) + M2.2.2.2.2.2) 296) = true) (hw : (S.2.2.2 g)[0]? = some (ad 0, .inr (ci, fs))) (hc : clz[ci]? = some q) (hq : q.1 = M2.1.cls)
    (hs : stk = av.reverse ++ .ref (ad 0) :: rest) (hrm : Nat.ble (rest.map fun v => v.category).sum 8 = true) (hd : decode code pc = .ok (.invokevirtual idx, 3))
    (hP1 : va_P D clz (S.2.2.2 g) H) (hP2 : va_P D clz (wd n' ad' (ce' g')) H) (hS : va_S (fun q : Nat => s.heap.size ≤ q) s.heap H locs) (hv : lv_has ls 4 [(0, .ref b), (1, .ref (a1 0)), (2, .ref (a2 0)), (3, .int (nI t))])
    (kk : ∀ (H1 : Heap) (locs1 : List Loc), va_P D clz (S.2.2.2 R2.2) H1 → va_P D clz (wd n' ad' (ce' g')) H1 → va_S (fun q : Nat => s.heap.size ≤ q) s.heap H1 locs1 → W p l e room_1 s m #[Value.ref b] below meth c H1 locs1 43 1631 Q (F0 m (pc + 3) ls (R2.1.toList ++ rest))) : W p l e room_1 s m #[Value.ref b] below meth c H locs 43 1631 Q (F0 m pc ls stk) := by
  subst hS1; subst hS2
  have hD : va_D (fun q : Nat => s.heap.size ≤ q) (S.2.2.2 g) := by rw [hSw]; exact wd_D hinj hlo
  have hA : ∀ x : Nat, va_A (S.2.2.2 g) H.size x → s.heap.size ≤ x := fun x hx => by
    rcases hx with ⟨k, en, hk⟩ | hx
    · exact hD.2 k (x, en) hk
    · exact Nat.le_trans hS.1 hx
  have hrun := va_runV (g := F0 m pc ls stk) (C := M2.1.cls) (As := av) (rest := rest) (cells := 43) (slots := 1631) (locs := locs) (below := below) (e := e) (meth := meth) (R := room_1) (args := #[Value.ref b]) ⟨C.1.1, C.1.2.1, C.1.2.2.2.1, C.1.2.2.2.2.1, C.1.2.2.2.2.2.1⟩ (hct H.size) ⟨l_cb C hm hlk hR, C.1.2.2.2.2.2.1 _ (tbG_lw hin), C.1.2.2.2.2.2.1 _ (tbG_lw hse)⟩ ⟨q_blind S (.ref (ad 0) :: av) g H.size, hq ▸ va_recv hKs hP1 hc hw, fun U hU hW => ⟨rfl, by rw [hU], by rw [hU]; exact hP1, va_K.moved hW.alike hKs, hD.weaken (fun _ _ _ _ => trivial)⟩⟩ rfl rfl hv.1 hs (lv_room (Nat.le_of_ble_eq_true hrm)) hd ⟨Nat.le_of_ble_eq_true rfl, Nat.le_of_ble_eq_true rfl⟩
  intro T hT X
  obtain ⟨v, st₀, t9, T', Ls, h0, X', hL, e1, e2, ⟨⟨hv2, hP3, hK3, hD3⟩, hz, hk⟩, st⟩ := hrun T hT X
  cases hv2
  rw [h0] at hz hk
  have hP4 : va_P S.2.1 clz (wd n' ad' (ce' g')) T'.heap := by
    refine wd_P fun j hj => ?_
    have h5 := wd_P1 hP2 j hj
    refine h5.kept ?_
    rw [e1]
    refine hk _ h5.lt (fun z => ?_)
    rcases z with ⟨i, en, hi⟩ | z
    · rw [hSw] at hi
      by_cases hi2 : i < n
      · rw [wd_get hi2] at hi
        have : ad i = ad' j := congrArg Prod.fst (Option.some.inj hi)
        exact hx i j hi2 hj this
      · simp [wd, hi2] at hi
    · have := h5.lt
      dsimp only at this z
      omega
  obtain ⟨t3, b1, b2⟩ := kk T'.heap (locs ++ Ls) (by rw [e1]; exact hP3) hP4
    ⟨Nat.le_trans hS.1 (by rw [e1]; exact hz), fun x y1 y2 => by rw [e1, hk x (Nat.lt_of_lt_of_le y1 hS.1) (fun z => y2 (hA x z))]; exact hS.2.1 x y1 y2, fun x hx => by
      rcases List.mem_append.mp hx with h | h
      · exact hS.2.2 x h
      · exact hA _ (hL x h)⟩ T' rfl X'
  exact ⟨t3, st t3 b1, b2⟩

theorem l_cCi (C : LX p l s m meth c b L xs D a1 a2 cI cR cJ) {M2 : MD} {av : List Value} {r : Int} {p1 : HP} {idx : Nat} (hct : Ct (sdC l D a1 cI cR) M2 (.ref (a1 0) :: av) h1 (ri (r, p1))) (hm : MF M2 av.length) (hin : Cond.instanceMethod M2.1 ∈ tbG) (hse : Cond.selects M2.1.cls M2.1 M2.1 ∈ tbG) (hlk : Cond.methodLink RL idx M2.1 ∈ tbG) (hR : (Nat.ble (M2.2.2.2.2.1 + 1) 8 && Nat.ble (8 + (M2.2.2.1 + 11) + M2.2.2.2.2.2) 296) = true) (hq : RX4 = M2.1.cls) (hs : stk = av.reverse ++ .ref (a1 0) :: rest) (hrm : Nat.ble (rest.map fun v => v.category).sum 8 = true) (hd : decode code pc = .ok (.invokevirtual idx, 3)) (k : Lw p l e s m below meth c b D a1 a2 cI cR cJ (pc + 3) t (vi r :: rest) p1 h2) : Lw p l e s m below meth c b D a1 a2 cI cR cJ pc t stk h1 h2 := fun H locs ls hP1 hP2 hS hv =>
  l_call (S := sdC l D a1 cI cR) (n := 30) (n' := 13) (ad := a1) (ad' := a2) (ce := fun h k => ceC a1 cI cR (h k) k) (ce' := fun h k => ceM a2 cJ (h k) k) (g := h1) (g' := h2) (ci := 2) rfl rfl rfl C.2.1 (by decide) C C.2.2.2.1 C.2.2.2.2.1 C.2.2.2.2.2.2.2 hct hm hin hse hlk hR wC_0 rfl hq hs hrm hd hP1 hP2 hS hv (fun H1 locs1 q1 q2 hS1 => k H1 locs1 ls q1 q2 hS1 hv)
theorem l_cCl (C : LX p l s m meth c b L xs D a1 a2 cI cR cJ) {M2 : MD} {av : List Value} {r : Int} {p1 : HP} {idx : Nat} (hct : Ct (sdC l D a1 cI cR) M2 (.ref (a1 0) :: av) h1 (rl (r, p1))) (hm : MF M2 av.length) (hin : Cond.instanceMethod M2.1 ∈ tbG) (hse : Cond.selects M2.1.cls M2.1 M2.1 ∈ tbG) (hlk : Cond.methodLink RL idx M2.1 ∈ tbG) (hR : (Nat.ble (M2.2.2.2.2.1 + 1) 8 && Nat.ble (8 + (M2.2.2.1 + 11) + M2.2.2.2.2.2) 296) = true) (hq : RX4 = M2.1.cls) (hs : stk = av.reverse ++ .ref (a1 0) :: rest) (hrm : Nat.ble (rest.map fun v => v.category).sum 8 = true) (hd : decode code pc = .ok (.invokevirtual idx, 3)) (k : Lw p l e s m below meth c b D a1 a2 cI cR cJ (pc + 3) t (vl r :: rest) p1 h2) : Lw p l e s m below meth c b D a1 a2 cI cR cJ pc t stk h1 h2 := fun H locs ls hP1 hP2 hS hv =>
  l_call (S := sdC l D a1 cI cR) (n := 30) (n' := 13) (ad := a1) (ad' := a2) (ce := fun h k => ceC a1 cI cR (h k) k) (ce' := fun h k => ceM a2 cJ (h k) k) (g := h1) (g' := h2) (ci := 2) rfl rfl rfl C.2.1 (by decide) C C.2.2.2.1 C.2.2.2.2.1 C.2.2.2.2.2.2.2 hct hm hin hse hlk hR wC_0 rfl hq hs hrm hd hP1 hP2 hS hv (fun H1 locs1 q1 q2 hS1 => k H1 locs1 ls q1 q2 hS1 hv)
theorem l_cMi (C : LX p l s m meth c b L xs D a1 a2 cI cR cJ) {M2 : MD} {av : List Value} {r : Int} {p1 : HP} {idx : Nat} (hct : Ct (sdM l D a2 cJ) M2 (.ref (a2 0) :: av) h2 (ri (r, p1))) (hm : MF M2 av.length) (hin : Cond.instanceMethod M2.1 ∈ tbG) (hse : Cond.selects M2.1.cls M2.1 M2.1 ∈ tbG) (hlk : Cond.methodLink RL idx M2.1 ∈ tbG) (hR : (Nat.ble (M2.2.2.2.2.1 + 1) 8 && Nat.ble (8 + (M2.2.2.1 + 11) + M2.2.2.2.2.2) 296) = true) (hq : RX5 = M2.1.cls) (hs : stk = av.reverse ++ .ref (a2 0) :: rest) (hrm : Nat.ble (rest.map fun v => v.category).sum 8 = true) (hd : decode code pc = .ok (.invokevirtual idx, 3)) (k : Lw p l e s m below meth c b D a1 a2 cI cR cJ (pc + 3) t (vi r :: rest) h1 p1) : Lw p l e s m below meth c b D a1 a2 cI cR cJ pc t stk h1 h2 := fun H locs ls hP1 hP2 hS hv =>
  l_call (S := sdM l D a2 cJ) (n := 13) (n' := 30) (ad := a2) (ad' := a1) (ce := fun h k => ceM a2 cJ (h k) k) (ce' := fun h k => ceC a1 cI cR (h k) k) (g := h2) (g' := h1) (ci := 3) rfl rfl rfl C.2.2.1 (by decide) C C.2.2.2.2.2.1 C.2.2.2.2.2.2.1 (fun i j hi hj q => C.2.2.2.2.2.2.2 j i hj hi q.symm) hct hm hin hse hlk hR wM_0 rfl hq hs hrm hd hP2 hP1 hS hv (fun H1 locs1 q1 q2 hS1 => k H1 locs1 ls q2 q1 hS1 hv)
theorem l_cMl (C : LX p l s m meth c b L xs D a1 a2 cI cR cJ) {M2 : MD} {av : List Value} {r : Int} {p1 : HP} {idx : Nat} (hct : Ct (sdM l D a2 cJ) M2 (.ref (a2 0) :: av) h2 (rl (r, p1))) (hm : MF M2 av.length) (hin : Cond.instanceMethod M2.1 ∈ tbG) (hse : Cond.selects M2.1.cls M2.1 M2.1 ∈ tbG) (hlk : Cond.methodLink RL idx M2.1 ∈ tbG) (hR : (Nat.ble (M2.2.2.2.2.1 + 1) 8 && Nat.ble (8 + (M2.2.2.1 + 11) + M2.2.2.2.2.2) 296) = true) (hq : RX5 = M2.1.cls) (hs : stk = av.reverse ++ .ref (a2 0) :: rest) (hrm : Nat.ble (rest.map fun v => v.category).sum 8 = true) (hd : decode code pc = .ok (.invokevirtual idx, 3)) (k : Lw p l e s m below meth c b D a1 a2 cI cR cJ (pc + 3) t (vl r :: rest) h1 p1) : Lw p l e s m below meth c b D a1 a2 cI cR cJ pc t stk h1 h2 := fun H locs ls hP1 hP2 hS hv =>
  l_call (S := sdM l D a2 cJ) (n := 13) (n' := 30) (ad := a2) (ad' := a1) (ce := fun h k => ceM a2 cJ (h k) k) (ce' := fun h k => ceC a1 cI cR (h k) k) (g := h2) (g' := h1) (ci := 3) rfl rfl rfl C.2.2.1 (by decide) C C.2.2.2.2.2.1 C.2.2.2.2.2.2.1 (fun i j hi hj q => C.2.2.2.2.2.2.2 j i hj hi q.symm) hct hm hin hse hlk hR wM_0 rfl hq hs hrm hd hP2 hP1 hS hv (fun H1 locs1 q1 q2 hS1 => k H1 locs1 ls q2 q1 hS1 hv)
theorem l_eq (C : LX p l s m meth c b L xs D a1 a2 cI cR cJ) {x y : Int} {off : Int} (hxy : wi x = wi y) (hd : decode code pc = .ok (.if_icmp .eq off, 3)) (ht : (pc : Int) + off = ((1186 : Nat) : Int)) (k : Lw p l e s m below meth c b D a1 a2 cI cR cJ 1186 t stk h1 h2) : Lw p l e s m below meth c b D a1 a2 cI cR cJ pc t (vi y :: vi x :: stk) h1 h2 := fun H locs ls hP1 hP2 hS hv => lv_icmp_eq C.1.1 C.1.2.1 hd ht (fun _ => k H locs ls hP1 hP2 hS hv) (fun q => absurd ((wi_eqI x y).mpr hxy) q)
theorem l_eql (C : LX p l s m meth c b L xs D a1 a2 cI cR cJ) {x y : Int} {off : Int} (hxy : wl x = wl y) (hd0 : decode code pc = .ok (.lcmp, 1)) (hd : decode code (pc + 1) = .ok (.ifCond .eq off, 3)) (ht : ((pc + 1 : Nat) : Int) + off = ((1186 : Nat) : Int)) (k : Lw p l e s m below meth c b D a1 a2 cI cR cJ 1186 t stk h1 h2) : Lw p l e s m below meth c b D a1 a2 cI cR cJ pc t (vl y :: vl x :: stk) h1 h2 := fun H locs ls hP1 hP2 hS hv => by
  refine W.lcmp C.1.1 C.1.2.1 hd0 ?_
  refine lv_if_eq C.1.1 C.1.2.1 hd ht (fun _ => k H locs ls hP1 hP2 hS hv) (fun q => absurd ?_ q)
  rw [lcmp_of]
  have : cpl x y = 0 := by unfold cpl; rw [hxy]; simp
  rw [this]; rfl

theorem wi_ti (x : Int32) : wi x.toInt = x.toInt := by unfold wi; rw [Int32.ofInt_toInt]
def G_sheet (J : HP → HP → Prop) : Prop := ∀ h1 h2 : HP, J h1 h2 → ∀ x1 x2 x3 : Int, wi x1 = x1 → wi x2 = x2 → wi x3 = x3 → ∃ (r1 r2 : Int) (p1 p2 : HP), fX4_sheet x1 x2 x3 h1 = some (r1, p1) ∧ fX5_sheet x1 x2 x3 h2 = some (r2, p2) ∧ wi r1 = wi r2 ∧ J p1 p2
set_option maxRecDepth 20000 in
theorem lcase_0 {J : HP → HP → Prop} (G : G_sheet J) (C : LX p l s m meth c b L xs D a1 a2 cI cR cJ) (ht : t + 7 ≤ L) (hL : L ≤ 3584) (hJ : J h1 h2) (hn : ∀ p1 p2 : HP, J p1 p2 → Lw p l e s m below meth c b D a1 a2 cI cR cJ 1186 t [] p1 p2) : Lw p l e s m below meth c b D a1 a2 cI cR cJ 148 t [] h1 h2 := by
  obtain ⟨r1, r2, p1, p2, e1, e2, e3, e4⟩ := G h1 h2 hJ (xs (t + 1)).toInt (xs (t + 2)).toInt (xs (t + 3)).toInt (wi_ti _) (wi_ti _) (wi_ti _)
  refine l_a1 C dL_law_148 ?_
  refine l_arg C 1 rfl (by omega) hL dL_law_149 dL_law_150 dL_law_151 dL_law_152 dL_law_153 ?_
  refine l_arg C 2 rfl (by omega) hL dL_law_154 dL_law_155 dL_law_156 dL_law_157 dL_law_158 ?_
  refine l_arg C 3 rfl (by omega) hL dL_law_159 dL_law_160 dL_law_161 dL_law_162 dL_law_163 ?_
  refine l_cCi (av := [vi (xs (t + 1)).toInt, vi (xs (t + 2)).toInt, vi (xs (t + 3)).toInt]) (rest := []) C (ctX4_sheet e1) kX4_sheet vX4_sheet zX4_sheet lkL_13 rfl rfl rfl rfl dL_law_164 ?_
  refine l_a2 C dL_law_167 ?_
  refine l_arg C 1 rfl (by omega) hL dL_law_168 dL_law_169 dL_law_170 dL_law_171 dL_law_172 ?_
  refine l_arg C 2 rfl (by omega) hL dL_law_173 dL_law_174 dL_law_175 dL_law_176 dL_law_177 ?_
  refine l_arg C 3 rfl (by omega) hL dL_law_178 dL_law_179 dL_law_180 dL_law_181 dL_law_182 ?_
  refine l_cMi (av := [vi (xs (t + 1)).toInt, vi (xs (t + 2)).toInt, vi (xs (t + 3)).toInt]) (rest := [vi r1]) C (ctX5_sheet e2) kX5_sheet vX5_sheet zX5_sheet lkL_17 rfl rfl rfl rfl dL_law_183 ?_
  exact l_eq C e3 dL_law_186 (by decide) (hn p1 p2 e4)
def G_lose (J : HP → HP → Prop) : Prop := ∀ h1 h2 : HP, J h1 h2 → ∀ x1 : Int, wi x1 = x1 → ∃ (r1 r2 : Int) (p1 p2 : HP), fX4_lose x1 h1 = some (r1, p1) ∧ fX5_lose x1 h2 = some (r2, p2) ∧ wi r1 = wi r2 ∧ J p1 p2
set_option maxRecDepth 20000 in
theorem lcase_1 {J : HP → HP → Prop} (G : G_lose J) (C : LX p l s m meth c b L xs D a1 a2 cI cR cJ) (ht : t + 7 ≤ L) (hL : L ≤ 3584) (hJ : J h1 h2) (hn : ∀ p1 p2 : HP, J p1 p2 → Lw p l e s m below meth c b D a1 a2 cI cR cJ 1186 t [] p1 p2) : Lw p l e s m below meth c b D a1 a2 cI cR cJ 191 t [] h1 h2 := by
  obtain ⟨r1, r2, p1, p2, e1, e2, e3, e4⟩ := G h1 h2 hJ (xs (t + 1)).toInt (wi_ti _)
  refine l_a1 C dL_law_191 ?_
  refine l_arg C 1 rfl (by omega) hL dL_law_192 dL_law_193 dL_law_194 dL_law_195 dL_law_196 ?_
  refine l_cCi (av := [vi (xs (t + 1)).toInt]) (rest := []) C (ctX4_lose e1) kX4_lose vX4_lose zX4_lose lkL_18 rfl rfl rfl rfl dL_law_197 ?_
  refine l_a2 C dL_law_200 ?_
  refine l_arg C 1 rfl (by omega) hL dL_law_201 dL_law_202 dL_law_203 dL_law_204 dL_law_205 ?_
  refine l_cMi (av := [vi (xs (t + 1)).toInt]) (rest := [vi r1]) C (ctX5_lose e2) kX5_lose vX5_lose zX5_lose lkL_22 rfl rfl rfl rfl dL_law_206 ?_
  exact l_eq C e3 dL_law_209 (by decide) (hn p1 p2 e4)
def G_put (J : HP → HP → Prop) : Prop := ∀ h1 h2 : HP, J h1 h2 → ∀ x1 x2 x3 x4 : Int, wi x1 = x1 → wi x2 = x2 → wi x3 = x3 → wi x4 = x4 → ∃ (r1 r2 : Int) (p1 p2 : HP), fX4_put x1 x2 x3 x4 h1 = some (r1, p1) ∧ fX5_put x1 x2 x3 x4 h2 = some (r2, p2) ∧ wi r1 = wi r2 ∧ J p1 p2
set_option maxRecDepth 20000 in
theorem lcase_2 {J : HP → HP → Prop} (G : G_put J) (C : LX p l s m meth c b L xs D a1 a2 cI cR cJ) (ht : t + 7 ≤ L) (hL : L ≤ 3584) (hJ : J h1 h2) (hn : ∀ p1 p2 : HP, J p1 p2 → Lw p l e s m below meth c b D a1 a2 cI cR cJ 1186 t [] p1 p2) : Lw p l e s m below meth c b D a1 a2 cI cR cJ 214 t [] h1 h2 := by
  obtain ⟨r1, r2, p1, p2, e1, e2, e3, e4⟩ := G h1 h2 hJ (xs (t + 1)).toInt (xs (t + 2)).toInt (xs (t + 3)).toInt (xs (t + 4)).toInt (wi_ti _) (wi_ti _) (wi_ti _) (wi_ti _)
  refine l_a1 C dL_law_214 ?_
  refine l_arg C 1 rfl (by omega) hL dL_law_215 dL_law_216 dL_law_217 dL_law_218 dL_law_219 ?_
  refine l_arg C 2 rfl (by omega) hL dL_law_220 dL_law_221 dL_law_222 dL_law_223 dL_law_224 ?_
  refine l_arg C 3 rfl (by omega) hL dL_law_225 dL_law_226 dL_law_227 dL_law_228 dL_law_229 ?_
  refine l_arg C 4 rfl (by omega) hL dL_law_230 dL_law_231 dL_law_232 dL_law_233 dL_law_234 ?_
  refine l_cCi (av := [vi (xs (t + 1)).toInt, vi (xs (t + 2)).toInt, vi (xs (t + 3)).toInt, vi (xs (t + 4)).toInt]) (rest := []) C (ctX4_put e1) kX4_put vX4_put zX4_put lkL_23 rfl rfl rfl rfl dL_law_235 ?_
  refine l_a2 C dL_law_238 ?_
  refine l_arg C 1 rfl (by omega) hL dL_law_239 dL_law_240 dL_law_241 dL_law_242 dL_law_243 ?_
  refine l_arg C 2 rfl (by omega) hL dL_law_244 dL_law_245 dL_law_246 dL_law_247 dL_law_248 ?_
  refine l_arg C 3 rfl (by omega) hL dL_law_249 dL_law_250 dL_law_251 dL_law_252 dL_law_253 ?_
  refine l_arg C 4 rfl (by omega) hL dL_law_254 dL_law_255 dL_law_256 dL_law_257 dL_law_258 ?_
  refine l_cMi (av := [vi (xs (t + 1)).toInt, vi (xs (t + 2)).toInt, vi (xs (t + 3)).toInt, vi (xs (t + 4)).toInt]) (rest := [vi r1]) C (ctX5_put e2) kX5_put vX5_put zX5_put lkL_27 rfl rfl rfl rfl dL_law_259 ?_
  exact l_eq C e3 dL_law_262 (by decide) (hn p1 p2 e4)
def G_get (J : HP → HP → Prop) : Prop := ∀ h1 h2 : HP, J h1 h2 → ∀ x1 x2 x3 : Int, wi x1 = x1 → wi x2 = x2 → wi x3 = x3 → ∃ (r1 r2 : Int) (p1 p2 : HP), fX4_get x1 x2 x3 h1 = some (r1, p1) ∧ fX5_get x1 x2 x3 h2 = some (r2, p2) ∧ wi r1 = wi r2 ∧ J p1 p2
set_option maxRecDepth 20000 in
theorem lcase_3 {J : HP → HP → Prop} (G : G_get J) (C : LX p l s m meth c b L xs D a1 a2 cI cR cJ) (ht : t + 7 ≤ L) (hL : L ≤ 3584) (hJ : J h1 h2) (hn : ∀ p1 p2 : HP, J p1 p2 → Lw p l e s m below meth c b D a1 a2 cI cR cJ 1186 t [] p1 p2) : Lw p l e s m below meth c b D a1 a2 cI cR cJ 267 t [] h1 h2 := by
  obtain ⟨r1, r2, p1, p2, e1, e2, e3, e4⟩ := G h1 h2 hJ (xs (t + 1)).toInt (xs (t + 2)).toInt (xs (t + 3)).toInt (wi_ti _) (wi_ti _) (wi_ti _)
  refine l_a1 C dL_law_267 ?_
  refine l_arg C 1 rfl (by omega) hL dL_law_268 dL_law_269 dL_law_270 dL_law_271 dL_law_272 ?_
  refine l_arg C 2 rfl (by omega) hL dL_law_273 dL_law_274 dL_law_275 dL_law_276 dL_law_277 ?_
  refine l_arg C 3 rfl (by omega) hL dL_law_278 dL_law_279 dL_law_280 dL_law_281 dL_law_282 ?_
  refine l_cCi (av := [vi (xs (t + 1)).toInt, vi (xs (t + 2)).toInt, vi (xs (t + 3)).toInt]) (rest := []) C (ctX4_get e1) kX4_get vX4_get zX4_get lkL_28 rfl rfl rfl rfl dL_law_283 ?_
  refine l_a2 C dL_law_286 ?_
  refine l_arg C 1 rfl (by omega) hL dL_law_287 dL_law_288 dL_law_289 dL_law_290 dL_law_291 ?_
  refine l_arg C 2 rfl (by omega) hL dL_law_292 dL_law_293 dL_law_294 dL_law_295 dL_law_296 ?_
  refine l_arg C 3 rfl (by omega) hL dL_law_297 dL_law_298 dL_law_299 dL_law_300 dL_law_301 ?_
  refine l_cMi (av := [vi (xs (t + 1)).toInt, vi (xs (t + 2)).toInt, vi (xs (t + 3)).toInt]) (rest := [vi r1]) C (ctX5_get e2) kX5_get vX5_get zX5_get lkL_31 rfl rfl rfl rfl dL_law_302 ?_
  exact l_eq C e3 dL_law_305 (by decide) (hn p1 p2 e4)
def G_copy (J : HP → HP → Prop) : Prop := ∀ h1 h2 : HP, J h1 h2 → ∀ x1 x2 x3 x4 x5 : Int, wi x1 = x1 → wi x2 = x2 → wi x3 = x3 → wi x4 = x4 → wi x5 = x5 → ∃ (r1 r2 : Int) (p1 p2 : HP), fX4_copy x1 x2 x3 x4 x5 h1 = some (r1, p1) ∧ fX5_copy x1 x2 x3 x4 x5 h2 = some (r2, p2) ∧ wi r1 = wi r2 ∧ J p1 p2
set_option maxRecDepth 20000 in
theorem lcase_4 {J : HP → HP → Prop} (G : G_copy J) (C : LX p l s m meth c b L xs D a1 a2 cI cR cJ) (ht : t + 7 ≤ L) (hL : L ≤ 3584) (hJ : J h1 h2) (hn : ∀ p1 p2 : HP, J p1 p2 → Lw p l e s m below meth c b D a1 a2 cI cR cJ 1186 t [] p1 p2) : Lw p l e s m below meth c b D a1 a2 cI cR cJ 310 t [] h1 h2 := by
  obtain ⟨r1, r2, p1, p2, e1, e2, e3, e4⟩ := G h1 h2 hJ (xs (t + 1)).toInt (xs (t + 2)).toInt (xs (t + 3)).toInt (xs (t + 4)).toInt (xs (t + 5)).toInt (wi_ti _) (wi_ti _) (wi_ti _) (wi_ti _) (wi_ti _)
  refine l_a1 C dL_law_310 ?_
  refine l_arg C 1 rfl (by omega) hL dL_law_311 dL_law_312 dL_law_313 dL_law_314 dL_law_315 ?_
  refine l_arg C 2 rfl (by omega) hL dL_law_316 dL_law_317 dL_law_318 dL_law_319 dL_law_320 ?_
  refine l_arg C 3 rfl (by omega) hL dL_law_321 dL_law_322 dL_law_323 dL_law_324 dL_law_325 ?_
  refine l_arg C 4 rfl (by omega) hL dL_law_326 dL_law_327 dL_law_328 dL_law_329 dL_law_330 ?_
  refine l_arg C 5 rfl (by omega) hL dL_law_331 dL_law_332 dL_law_333 dL_law_334 dL_law_335 ?_
  refine l_cCi (av := [vi (xs (t + 1)).toInt, vi (xs (t + 2)).toInt, vi (xs (t + 3)).toInt, vi (xs (t + 4)).toInt, vi (xs (t + 5)).toInt]) (rest := []) C (ctX4_copy e1) kX4_copy vX4_copy zX4_copy lkL_32 rfl rfl rfl rfl dL_law_336 ?_
  refine l_a2 C dL_law_339 ?_
  refine l_arg C 1 rfl (by omega) hL dL_law_340 dL_law_341 dL_law_342 dL_law_343 dL_law_344 ?_
  refine l_arg C 2 rfl (by omega) hL dL_law_345 dL_law_346 dL_law_347 dL_law_348 dL_law_349 ?_
  refine l_arg C 3 rfl (by omega) hL dL_law_350 dL_law_351 dL_law_352 dL_law_353 dL_law_354 ?_
  refine l_arg C 4 rfl (by omega) hL dL_law_355 dL_law_356 dL_law_357 dL_law_358 dL_law_359 ?_
  refine l_arg C 5 rfl (by omega) hL dL_law_360 dL_law_361 dL_law_362 dL_law_363 dL_law_364 ?_
  refine l_cMi (av := [vi (xs (t + 1)).toInt, vi (xs (t + 2)).toInt, vi (xs (t + 3)).toInt, vi (xs (t + 4)).toInt, vi (xs (t + 5)).toInt]) (rest := [vi r1]) C (ctX5_copy e2) kX5_copy vX5_copy zX5_copy lkL_36 rfl rfl rfl rfl dL_law_365 ?_
  exact l_eq C e3 dL_law_368 (by decide) (hn p1 p2 e4)
def G_term (J : HP → HP → Prop) : Prop := ∀ h1 h2 : HP, J h1 h2 → ∀ x1 x2 : Int, wi x1 = x1 → wi x2 = x2 → ∃ (r1 r2 : Int) (p1 p2 : HP), fX4_term x1 x2 h1 = some (r1, p1) ∧ fX5_term x1 x2 h2 = some (r2, p2) ∧ wi r1 = wi r2 ∧ J p1 p2
set_option maxRecDepth 20000 in
theorem lcase_5 {J : HP → HP → Prop} (G : G_term J) (C : LX p l s m meth c b L xs D a1 a2 cI cR cJ) (ht : t + 7 ≤ L) (hL : L ≤ 3584) (hJ : J h1 h2) (hn : ∀ p1 p2 : HP, J p1 p2 → Lw p l e s m below meth c b D a1 a2 cI cR cJ 1186 t [] p1 p2) : Lw p l e s m below meth c b D a1 a2 cI cR cJ 373 t [] h1 h2 := by
  obtain ⟨r1, r2, p1, p2, e1, e2, e3, e4⟩ := G h1 h2 hJ (xs (t + 1)).toInt (xs (t + 2)).toInt (wi_ti _) (wi_ti _)
  refine l_a1 C dL_law_373 ?_
  refine l_arg C 1 rfl (by omega) hL dL_law_374 dL_law_375 dL_law_376 dL_law_377 dL_law_378 ?_
  refine l_arg C 2 rfl (by omega) hL dL_law_379 dL_law_380 dL_law_381 dL_law_382 dL_law_383 ?_
  refine l_cCi (av := [vi (xs (t + 1)).toInt, vi (xs (t + 2)).toInt]) (rest := []) C (ctX4_term e1) kX4_term vX4_term zX4_term lkL_37 rfl rfl rfl rfl dL_law_384 ?_
  refine l_a2 C dL_law_387 ?_
  refine l_arg C 1 rfl (by omega) hL dL_law_388 dL_law_389 dL_law_390 dL_law_391 dL_law_392 ?_
  refine l_arg C 2 rfl (by omega) hL dL_law_393 dL_law_394 dL_law_395 dL_law_396 dL_law_397 ?_
  refine l_cMi (av := [vi (xs (t + 1)).toInt, vi (xs (t + 2)).toInt]) (rest := [vi r1]) C (ctX5_term e2) kX5_term vX5_term zX5_term lkL_41 rfl rfl rfl rfl dL_law_398 ?_
  exact l_eq C e3 dL_law_401 (by decide) (hn p1 p2 e4)
def G_degree (J : HP → HP → Prop) : Prop := ∀ h1 h2 : HP, J h1 h2 → ∀ x1 : Int, wi x1 = x1 → ∃ (r1 r2 : Int) (p1 p2 : HP), fX4_degree x1 h1 = some (r1, p1) ∧ fX5_degree x1 h2 = some (r2, p2) ∧ wi r1 = wi r2 ∧ J p1 p2
set_option maxRecDepth 20000 in
theorem lcase_6 {J : HP → HP → Prop} (G : G_degree J) (C : LX p l s m meth c b L xs D a1 a2 cI cR cJ) (ht : t + 7 ≤ L) (hL : L ≤ 3584) (hJ : J h1 h2) (hn : ∀ p1 p2 : HP, J p1 p2 → Lw p l e s m below meth c b D a1 a2 cI cR cJ 1186 t [] p1 p2) : Lw p l e s m below meth c b D a1 a2 cI cR cJ 406 t [] h1 h2 := by
  obtain ⟨r1, r2, p1, p2, e1, e2, e3, e4⟩ := G h1 h2 hJ (xs (t + 1)).toInt (wi_ti _)
  refine l_a1 C dL_law_406 ?_
  refine l_arg C 1 rfl (by omega) hL dL_law_407 dL_law_408 dL_law_409 dL_law_410 dL_law_411 ?_
  refine l_cCi (av := [vi (xs (t + 1)).toInt]) (rest := []) C (ctX4_degree e1) kX4_degree vX4_degree zX4_degree lkL_42 rfl rfl rfl rfl dL_law_412 ?_
  refine l_a2 C dL_law_415 ?_
  refine l_arg C 1 rfl (by omega) hL dL_law_416 dL_law_417 dL_law_418 dL_law_419 dL_law_420 ?_
  refine l_cMi (av := [vi (xs (t + 1)).toInt]) (rest := [vi r1]) C (ctX5_degree e2) kX5_degree vX5_degree zX5_degree lkL_45 rfl rfl rfl rfl dL_law_421 ?_
  exact l_eq C e3 dL_law_424 (by decide) (hn p1 p2 e4)
def G_value (J : HP → HP → Prop) : Prop := ∀ h1 h2 : HP, J h1 h2 → ∀ x1 x2 x3 : Int, wi x1 = x1 → wi x2 = x2 → wi x3 = x3 → ∃ (r1 r2 : Int) (p1 p2 : HP), fX4_value x1 x2 x3 h1 = some (r1, p1) ∧ fX5_value x1 x2 x3 h2 = some (r2, p2) ∧ wi r1 = wi r2 ∧ J p1 p2
set_option maxRecDepth 20000 in
theorem lcase_7 {J : HP → HP → Prop} (G : G_value J) (C : LX p l s m meth c b L xs D a1 a2 cI cR cJ) (ht : t + 7 ≤ L) (hL : L ≤ 3584) (hJ : J h1 h2) (hn : ∀ p1 p2 : HP, J p1 p2 → Lw p l e s m below meth c b D a1 a2 cI cR cJ 1186 t [] p1 p2) : Lw p l e s m below meth c b D a1 a2 cI cR cJ 429 t [] h1 h2 := by
  obtain ⟨r1, r2, p1, p2, e1, e2, e3, e4⟩ := G h1 h2 hJ (xs (t + 1)).toInt (xs (t + 2)).toInt (xs (t + 3)).toInt (wi_ti _) (wi_ti _) (wi_ti _)
  refine l_a1 C dL_law_429 ?_
  refine l_arg C 1 rfl (by omega) hL dL_law_430 dL_law_431 dL_law_432 dL_law_433 dL_law_434 ?_
  refine l_arg C 2 rfl (by omega) hL dL_law_435 dL_law_436 dL_law_437 dL_law_438 dL_law_439 ?_
  refine l_arg C 3 rfl (by omega) hL dL_law_440 dL_law_441 dL_law_442 dL_law_443 dL_law_444 ?_
  refine l_cCi (av := [vi (xs (t + 1)).toInt, vi (xs (t + 2)).toInt, vi (xs (t + 3)).toInt]) (rest := []) C (ctX4_value e1) kX4_value vX4_value zX4_value lkL_46 rfl rfl rfl rfl dL_law_445 ?_
  refine l_a2 C dL_law_448 ?_
  refine l_arg C 1 rfl (by omega) hL dL_law_449 dL_law_450 dL_law_451 dL_law_452 dL_law_453 ?_
  refine l_arg C 2 rfl (by omega) hL dL_law_454 dL_law_455 dL_law_456 dL_law_457 dL_law_458 ?_
  refine l_arg C 3 rfl (by omega) hL dL_law_459 dL_law_460 dL_law_461 dL_law_462 dL_law_463 ?_
  refine l_cMi (av := [vi (xs (t + 1)).toInt, vi (xs (t + 2)).toInt, vi (xs (t + 3)).toInt]) (rest := [vi r1]) C (ctX5_value e2) kX5_value vX5_value zX5_value lkL_49 rfl rfl rfl rfl dL_law_464 ?_
  exact l_eq C e3 dL_law_467 (by decide) (hn p1 p2 e4)
def G_join (J : HP → HP → Prop) : Prop := ∀ h1 h2 : HP, J h1 h2 → ∀ x1 x2 x3 x4 : Int, wi x1 = x1 → wi x2 = x2 → wi x3 = x3 → wi x4 = x4 → ∃ (r1 r2 : Int) (p1 p2 : HP), fX4_join x1 x2 x3 x4 h1 = some (r1, p1) ∧ fX5_join x1 x2 x3 x4 h2 = some (r2, p2) ∧ wi r1 = wi r2 ∧ J p1 p2
set_option maxRecDepth 20000 in
theorem lcase_8 {J : HP → HP → Prop} (G : G_join J) (C : LX p l s m meth c b L xs D a1 a2 cI cR cJ) (ht : t + 7 ≤ L) (hL : L ≤ 3584) (hJ : J h1 h2) (hn : ∀ p1 p2 : HP, J p1 p2 → Lw p l e s m below meth c b D a1 a2 cI cR cJ 1186 t [] p1 p2) : Lw p l e s m below meth c b D a1 a2 cI cR cJ 472 t [] h1 h2 := by
  obtain ⟨r1, r2, p1, p2, e1, e2, e3, e4⟩ := G h1 h2 hJ (xs (t + 1)).toInt (xs (t + 2)).toInt (xs (t + 3)).toInt (xs (t + 4)).toInt (wi_ti _) (wi_ti _) (wi_ti _) (wi_ti _)
  refine l_a1 C dL_law_472 ?_
  refine l_arg C 1 rfl (by omega) hL dL_law_473 dL_law_474 dL_law_475 dL_law_476 dL_law_477 ?_
  refine l_arg C 2 rfl (by omega) hL dL_law_478 dL_law_479 dL_law_480 dL_law_481 dL_law_482 ?_
  refine l_arg C 3 rfl (by omega) hL dL_law_483 dL_law_484 dL_law_485 dL_law_486 dL_law_487 ?_
  refine l_arg C 4 rfl (by omega) hL dL_law_488 dL_law_489 dL_law_490 dL_law_491 dL_law_492 ?_
  refine l_cCi (av := [vi (xs (t + 1)).toInt, vi (xs (t + 2)).toInt, vi (xs (t + 3)).toInt, vi (xs (t + 4)).toInt]) (rest := []) C (ctX4_join e1) kX4_join vX4_join zX4_join lkL_50 rfl rfl rfl rfl dL_law_493 ?_
  refine l_a2 C dL_law_496 ?_
  refine l_arg C 1 rfl (by omega) hL dL_law_497 dL_law_498 dL_law_499 dL_law_500 dL_law_501 ?_
  refine l_arg C 2 rfl (by omega) hL dL_law_502 dL_law_503 dL_law_504 dL_law_505 dL_law_506 ?_
  refine l_arg C 3 rfl (by omega) hL dL_law_507 dL_law_508 dL_law_509 dL_law_510 dL_law_511 ?_
  refine l_arg C 4 rfl (by omega) hL dL_law_512 dL_law_513 dL_law_514 dL_law_515 dL_law_516 ?_
  refine l_cMi (av := [vi (xs (t + 1)).toInt, vi (xs (t + 2)).toInt, vi (xs (t + 3)).toInt, vi (xs (t + 4)).toInt]) (rest := [vi r1]) C (ctX5_join e2) kX5_join vX5_join zX5_join lkL_53 rfl rfl rfl rfl dL_law_517 ?_
  exact l_eq C e3 dL_law_520 (by decide) (hn p1 p2 e4)
def G_mix (J : HP → HP → Prop) : Prop := ∀ h1 h2 : HP, J h1 h2 → ∀ x1 x2 x3 x4 x5 x6 : Int, wi x1 = x1 → wi x2 = x2 → wi x3 = x3 → wi x4 = x4 → wi x5 = x5 → wi x6 = x6 → ∃ (r1 r2 : Int) (p1 p2 : HP), fX4_mix x1 x2 x3 x4 x5 x6 h1 = some (r1, p1) ∧ fX5_mix x1 x2 x3 x4 x5 x6 h2 = some (r2, p2) ∧ wi r1 = wi r2 ∧ J p1 p2
set_option maxRecDepth 20000 in
theorem lcase_9 {J : HP → HP → Prop} (G : G_mix J) (C : LX p l s m meth c b L xs D a1 a2 cI cR cJ) (ht : t + 7 ≤ L) (hL : L ≤ 3584) (hJ : J h1 h2) (hn : ∀ p1 p2 : HP, J p1 p2 → Lw p l e s m below meth c b D a1 a2 cI cR cJ 1186 t [] p1 p2) : Lw p l e s m below meth c b D a1 a2 cI cR cJ 525 t [] h1 h2 := by
  obtain ⟨r1, r2, p1, p2, e1, e2, e3, e4⟩ := G h1 h2 hJ (xs (t + 1)).toInt (xs (t + 2)).toInt (xs (t + 3)).toInt (xs (t + 4)).toInt (xs (t + 5)).toInt (xs (t + 6)).toInt (wi_ti _) (wi_ti _) (wi_ti _) (wi_ti _) (wi_ti _) (wi_ti _)
  refine l_a1 C dL_law_525 ?_
  refine l_arg C 1 rfl (by omega) hL dL_law_526 dL_law_527 dL_law_528 dL_law_529 dL_law_530 ?_
  refine l_arg C 2 rfl (by omega) hL dL_law_531 dL_law_532 dL_law_533 dL_law_534 dL_law_535 ?_
  refine l_arg C 3 rfl (by omega) hL dL_law_536 dL_law_537 dL_law_538 dL_law_539 dL_law_540 ?_
  refine l_arg C 4 rfl (by omega) hL dL_law_541 dL_law_542 dL_law_543 dL_law_544 dL_law_545 ?_
  refine l_arg C 5 rfl (by omega) hL dL_law_546 dL_law_547 dL_law_548 dL_law_549 dL_law_550 ?_
  refine l_argb C 6 (by decide) (by omega) hL dL_law_551 dL_law_552 dL_law_553 dL_law_555 dL_law_556 ?_
  refine l_cCi (av := [vi (xs (t + 1)).toInt, vi (xs (t + 2)).toInt, vi (xs (t + 3)).toInt, vi (xs (t + 4)).toInt, vi (xs (t + 5)).toInt, vi (xs (t + 6)).toInt]) (rest := []) C (ctX4_mix e1) kX4_mix vX4_mix zX4_mix lkL_54 rfl rfl rfl rfl dL_law_557 ?_
  refine l_a2 C dL_law_560 ?_
  refine l_arg C 1 rfl (by omega) hL dL_law_561 dL_law_562 dL_law_563 dL_law_564 dL_law_565 ?_
  refine l_arg C 2 rfl (by omega) hL dL_law_566 dL_law_567 dL_law_568 dL_law_569 dL_law_570 ?_
  refine l_arg C 3 rfl (by omega) hL dL_law_571 dL_law_572 dL_law_573 dL_law_574 dL_law_575 ?_
  refine l_arg C 4 rfl (by omega) hL dL_law_576 dL_law_577 dL_law_578 dL_law_579 dL_law_580 ?_
  refine l_arg C 5 rfl (by omega) hL dL_law_581 dL_law_582 dL_law_583 dL_law_584 dL_law_585 ?_
  refine l_argb C 6 (by decide) (by omega) hL dL_law_586 dL_law_587 dL_law_588 dL_law_590 dL_law_591 ?_
  refine l_cMi (av := [vi (xs (t + 1)).toInt, vi (xs (t + 2)).toInt, vi (xs (t + 3)).toInt, vi (xs (t + 4)).toInt, vi (xs (t + 5)).toInt, vi (xs (t + 6)).toInt]) (rest := [vi r1]) C (ctX5_mix e2) kX5_mix vX5_mix zX5_mix lkL_58 rfl rfl rfl rfl dL_law_592 ?_
  exact l_eq C e3 dL_law_595 (by decide) (hn p1 p2 e4)
def G_change (J : HP → HP → Prop) : Prop := ∀ h1 h2 : HP, J h1 h2 → ∀ x1 x2 x3 : Int, wi x1 = x1 → wi x2 = x2 → wi x3 = x3 → ∃ (r1 r2 : Int) (p1 p2 : HP), fX4_change x1 x2 x3 h1 = some (r1, p1) ∧ fX5_change x1 x2 x3 h2 = some (r2, p2) ∧ wi r1 = wi r2 ∧ J p1 p2
set_option maxRecDepth 20000 in
theorem lcase_10 {J : HP → HP → Prop} (G : G_change J) (C : LX p l s m meth c b L xs D a1 a2 cI cR cJ) (ht : t + 7 ≤ L) (hL : L ≤ 3584) (hJ : J h1 h2) (hn : ∀ p1 p2 : HP, J p1 p2 → Lw p l e s m below meth c b D a1 a2 cI cR cJ 1186 t [] p1 p2) : Lw p l e s m below meth c b D a1 a2 cI cR cJ 600 t [] h1 h2 := by
  obtain ⟨r1, r2, p1, p2, e1, e2, e3, e4⟩ := G h1 h2 hJ (xs (t + 1)).toInt (xs (t + 2)).toInt (xs (t + 3)).toInt (wi_ti _) (wi_ti _) (wi_ti _)
  refine l_a1 C dL_law_600 ?_
  refine l_arg C 1 rfl (by omega) hL dL_law_601 dL_law_602 dL_law_603 dL_law_604 dL_law_605 ?_
  refine l_arg C 2 rfl (by omega) hL dL_law_606 dL_law_607 dL_law_608 dL_law_609 dL_law_610 ?_
  refine l_arg C 3 rfl (by omega) hL dL_law_611 dL_law_612 dL_law_613 dL_law_614 dL_law_615 ?_
  refine l_cCi (av := [vi (xs (t + 1)).toInt, vi (xs (t + 2)).toInt, vi (xs (t + 3)).toInt]) (rest := []) C (ctX4_change e1) kX4_change vX4_change zX4_change lkL_59 rfl rfl rfl rfl dL_law_616 ?_
  refine l_a2 C dL_law_619 ?_
  refine l_arg C 1 rfl (by omega) hL dL_law_620 dL_law_621 dL_law_622 dL_law_623 dL_law_624 ?_
  refine l_arg C 2 rfl (by omega) hL dL_law_625 dL_law_626 dL_law_627 dL_law_628 dL_law_629 ?_
  refine l_arg C 3 rfl (by omega) hL dL_law_630 dL_law_631 dL_law_632 dL_law_633 dL_law_634 ?_
  refine l_cMi (av := [vi (xs (t + 1)).toInt, vi (xs (t + 2)).toInt, vi (xs (t + 3)).toInt]) (rest := [vi r1]) C (ctX5_change e2) kX5_change vX5_change zX5_change lkL_62 rfl rfl rfl rfl dL_law_635 ?_
  exact l_eq C e3 dL_law_638 (by decide) (hn p1 p2 e4)
def G_overlap (J : HP → HP → Prop) : Prop := ∀ h1 h2 : HP, J h1 h2 → ∀ x1 x2 x3 x4 : Int, wi x1 = x1 → wi x2 = x2 → wi x3 = x3 → wi x4 = x4 → ∃ (r1 r2 : Int) (p1 p2 : HP), fX4_overlap x1 x2 x3 x4 h1 = some (r1, p1) ∧ fX5_overlap x1 x2 x3 x4 h2 = some (r2, p2) ∧ wi r1 = wi r2 ∧ J p1 p2
set_option maxRecDepth 20000 in
theorem lcase_11 {J : HP → HP → Prop} (G : G_overlap J) (C : LX p l s m meth c b L xs D a1 a2 cI cR cJ) (ht : t + 7 ≤ L) (hL : L ≤ 3584) (hJ : J h1 h2) (hn : ∀ p1 p2 : HP, J p1 p2 → Lw p l e s m below meth c b D a1 a2 cI cR cJ 1186 t [] p1 p2) : Lw p l e s m below meth c b D a1 a2 cI cR cJ 643 t [] h1 h2 := by
  obtain ⟨r1, r2, p1, p2, e1, e2, e3, e4⟩ := G h1 h2 hJ (xs (t + 1)).toInt (xs (t + 2)).toInt (xs (t + 3)).toInt (xs (t + 4)).toInt (wi_ti _) (wi_ti _) (wi_ti _) (wi_ti _)
  refine l_a1 C dL_law_643 ?_
  refine l_arg C 1 rfl (by omega) hL dL_law_644 dL_law_645 dL_law_646 dL_law_647 dL_law_648 ?_
  refine l_arg C 2 rfl (by omega) hL dL_law_649 dL_law_650 dL_law_651 dL_law_652 dL_law_653 ?_
  refine l_arg C 3 rfl (by omega) hL dL_law_654 dL_law_655 dL_law_656 dL_law_657 dL_law_658 ?_
  refine l_arg C 4 rfl (by omega) hL dL_law_659 dL_law_660 dL_law_661 dL_law_662 dL_law_663 ?_
  refine l_cCi (av := [vi (xs (t + 1)).toInt, vi (xs (t + 2)).toInt, vi (xs (t + 3)).toInt, vi (xs (t + 4)).toInt]) (rest := []) C (ctX4_overlap e1) kX4_overlap vX4_overlap zX4_overlap lkL_63 rfl rfl rfl rfl dL_law_664 ?_
  refine l_a2 C dL_law_667 ?_
  refine l_arg C 1 rfl (by omega) hL dL_law_668 dL_law_669 dL_law_670 dL_law_671 dL_law_672 ?_
  refine l_arg C 2 rfl (by omega) hL dL_law_673 dL_law_674 dL_law_675 dL_law_676 dL_law_677 ?_
  refine l_arg C 3 rfl (by omega) hL dL_law_678 dL_law_679 dL_law_680 dL_law_681 dL_law_682 ?_
  refine l_arg C 4 rfl (by omega) hL dL_law_683 dL_law_684 dL_law_685 dL_law_686 dL_law_687 ?_
  refine l_cMi (av := [vi (xs (t + 1)).toInt, vi (xs (t + 2)).toInt, vi (xs (t + 3)).toInt, vi (xs (t + 4)).toInt]) (rest := [vi r1]) C (ctX5_overlap e2) kX5_overlap vX5_overlap zX5_overlap lkL_66 rfl rfl rfl rfl dL_law_688 ?_
  exact l_eq C e3 dL_law_691 (by decide) (hn p1 p2 e4)
def G_alike (J : HP → HP → Prop) : Prop := ∀ h1 h2 : HP, J h1 h2 → ∀ x1 x2 : Int, wi x1 = x1 → wi x2 = x2 → ∃ (r1 r2 : Int) (p1 p2 : HP), fX4_alike x1 x2 h1 = some (r1, p1) ∧ fX5_alike x1 x2 h2 = some (r2, p2) ∧ wi r1 = wi r2 ∧ J p1 p2
set_option maxRecDepth 20000 in
theorem lcase_12 {J : HP → HP → Prop} (G : G_alike J) (C : LX p l s m meth c b L xs D a1 a2 cI cR cJ) (ht : t + 7 ≤ L) (hL : L ≤ 3584) (hJ : J h1 h2) (hn : ∀ p1 p2 : HP, J p1 p2 → Lw p l e s m below meth c b D a1 a2 cI cR cJ 1186 t [] p1 p2) : Lw p l e s m below meth c b D a1 a2 cI cR cJ 696 t [] h1 h2 := by
  obtain ⟨r1, r2, p1, p2, e1, e2, e3, e4⟩ := G h1 h2 hJ (xs (t + 1)).toInt (xs (t + 2)).toInt (wi_ti _) (wi_ti _)
  refine l_a1 C dL_law_696 ?_
  refine l_arg C 1 rfl (by omega) hL dL_law_697 dL_law_698 dL_law_699 dL_law_700 dL_law_701 ?_
  refine l_arg C 2 rfl (by omega) hL dL_law_702 dL_law_703 dL_law_704 dL_law_705 dL_law_706 ?_
  refine l_cCi (av := [vi (xs (t + 1)).toInt, vi (xs (t + 2)).toInt]) (rest := []) C (ctX4_alike e1) kX4_alike vX4_alike zX4_alike lkL_67 rfl rfl rfl rfl dL_law_707 ?_
  refine l_a2 C dL_law_710 ?_
  refine l_arg C 1 rfl (by omega) hL dL_law_711 dL_law_712 dL_law_713 dL_law_714 dL_law_715 ?_
  refine l_arg C 2 rfl (by omega) hL dL_law_716 dL_law_717 dL_law_718 dL_law_719 dL_law_720 ?_
  refine l_cMi (av := [vi (xs (t + 1)).toInt, vi (xs (t + 2)).toInt]) (rest := [vi r1]) C (ctX5_alike e2) kX5_alike vX5_alike zX5_alike lkL_70 rfl rfl rfl rfl dL_law_721 ?_
  exact l_eq C e3 dL_law_724 (by decide) (hn p1 p2 e4)
def G_roots (J : HP → HP → Prop) : Prop := ∀ h1 h2 : HP, J h1 h2 → ∀ x1 : Int, wi x1 = x1 → ∃ (r1 r2 : Int) (p1 p2 : HP), fX4_roots x1 h1 = some (r1, p1) ∧ fX5_roots x1 h2 = some (r2, p2) ∧ wi r1 = wi r2 ∧ J p1 p2
set_option maxRecDepth 20000 in
theorem lcase_13 {J : HP → HP → Prop} (G : G_roots J) (C : LX p l s m meth c b L xs D a1 a2 cI cR cJ) (ht : t + 7 ≤ L) (hL : L ≤ 3584) (hJ : J h1 h2) (hn : ∀ p1 p2 : HP, J p1 p2 → Lw p l e s m below meth c b D a1 a2 cI cR cJ 1186 t [] p1 p2) : Lw p l e s m below meth c b D a1 a2 cI cR cJ 729 t [] h1 h2 := by
  obtain ⟨r1, r2, p1, p2, e1, e2, e3, e4⟩ := G h1 h2 hJ (xs (t + 1)).toInt (wi_ti _)
  refine l_a1 C dL_law_729 ?_
  refine l_arg C 1 rfl (by omega) hL dL_law_730 dL_law_731 dL_law_732 dL_law_733 dL_law_734 ?_
  refine l_cCi (av := [vi (xs (t + 1)).toInt]) (rest := []) C (ctX4_roots e1) kX4_roots vX4_roots zX4_roots lkL_71 rfl rfl rfl rfl dL_law_735 ?_
  refine l_a2 C dL_law_738 ?_
  refine l_arg C 1 rfl (by omega) hL dL_law_739 dL_law_740 dL_law_741 dL_law_742 dL_law_743 ?_
  refine l_cMi (av := [vi (xs (t + 1)).toInt]) (rest := [vi r1]) C (ctX5_roots e2) kX5_roots vX5_roots zX5_roots lkL_74 rfl rfl rfl rfl dL_law_744 ?_
  exact l_eq C e3 dL_law_747 (by decide) (hn p1 p2 e4)
def G_root (J : HP → HP → Prop) : Prop := ∀ h1 h2 : HP, J h1 h2 → ∀ x1 x2 : Int, wi x1 = x1 → wi x2 = x2 → ∃ (r1 r2 : Int) (p1 p2 : HP), fX4_root x1 x2 h1 = some (r1, p1) ∧ fX5_root x1 x2 h2 = some (r2, p2) ∧ wi r1 = wi r2 ∧ J p1 p2
set_option maxRecDepth 20000 in
theorem lcase_14 {J : HP → HP → Prop} (G : G_root J) (C : LX p l s m meth c b L xs D a1 a2 cI cR cJ) (ht : t + 7 ≤ L) (hL : L ≤ 3584) (hJ : J h1 h2) (hn : ∀ p1 p2 : HP, J p1 p2 → Lw p l e s m below meth c b D a1 a2 cI cR cJ 1186 t [] p1 p2) : Lw p l e s m below meth c b D a1 a2 cI cR cJ 752 t [] h1 h2 := by
  obtain ⟨r1, r2, p1, p2, e1, e2, e3, e4⟩ := G h1 h2 hJ (xs (t + 1)).toInt (xs (t + 2)).toInt (wi_ti _) (wi_ti _)
  refine l_a1 C dL_law_752 ?_
  refine l_arg C 1 rfl (by omega) hL dL_law_753 dL_law_754 dL_law_755 dL_law_756 dL_law_757 ?_
  refine l_arg C 2 rfl (by omega) hL dL_law_758 dL_law_759 dL_law_760 dL_law_761 dL_law_762 ?_
  refine l_cCi (av := [vi (xs (t + 1)).toInt, vi (xs (t + 2)).toInt]) (rest := []) C (ctX4_root e1) kX4_root vX4_root zX4_root lkL_75 rfl rfl rfl rfl dL_law_763 ?_
  refine l_a2 C dL_law_766 ?_
  refine l_arg C 1 rfl (by omega) hL dL_law_767 dL_law_768 dL_law_769 dL_law_770 dL_law_771 ?_
  refine l_arg C 2 rfl (by omega) hL dL_law_772 dL_law_773 dL_law_774 dL_law_775 dL_law_776 ?_
  refine l_cMi (av := [vi (xs (t + 1)).toInt, vi (xs (t + 2)).toInt]) (rest := [vi r1]) C (ctX5_root e2) kX5_root vX5_root zX5_root lkL_78 rfl rfl rfl rfl dL_law_777 ?_
  exact l_eq C e3 dL_law_780 (by decide) (hn p1 p2 e4)
def G_common (J : HP → HP → Prop) : Prop := ∀ h1 h2 : HP, J h1 h2 → ∀ x1 x2 x3 : Int, wi x1 = x1 → wi x2 = x2 → wi x3 = x3 → ∃ (r1 r2 : Int) (p1 p2 : HP), fX4_common x1 x2 x3 h1 = some (r1, p1) ∧ fX5_common x1 x2 x3 h2 = some (r2, p2) ∧ wi r1 = wi r2 ∧ J p1 p2
set_option maxRecDepth 20000 in
theorem lcase_15 {J : HP → HP → Prop} (G : G_common J) (C : LX p l s m meth c b L xs D a1 a2 cI cR cJ) (ht : t + 7 ≤ L) (hL : L ≤ 3584) (hJ : J h1 h2) (hn : ∀ p1 p2 : HP, J p1 p2 → Lw p l e s m below meth c b D a1 a2 cI cR cJ 1186 t [] p1 p2) : Lw p l e s m below meth c b D a1 a2 cI cR cJ 785 t [] h1 h2 := by
  obtain ⟨r1, r2, p1, p2, e1, e2, e3, e4⟩ := G h1 h2 hJ (xs (t + 1)).toInt (xs (t + 2)).toInt (xs (t + 3)).toInt (wi_ti _) (wi_ti _) (wi_ti _)
  refine l_a1 C dL_law_785 ?_
  refine l_arg C 1 rfl (by omega) hL dL_law_786 dL_law_787 dL_law_788 dL_law_789 dL_law_790 ?_
  refine l_arg C 2 rfl (by omega) hL dL_law_791 dL_law_792 dL_law_793 dL_law_794 dL_law_795 ?_
  refine l_arg C 3 rfl (by omega) hL dL_law_796 dL_law_797 dL_law_798 dL_law_799 dL_law_800 ?_
  refine l_cCi (av := [vi (xs (t + 1)).toInt, vi (xs (t + 2)).toInt, vi (xs (t + 3)).toInt]) (rest := []) C (ctX4_common e1) kX4_common vX4_common zX4_common lkL_79 rfl rfl rfl rfl dL_law_801 ?_
  refine l_a2 C dL_law_804 ?_
  refine l_arg C 1 rfl (by omega) hL dL_law_805 dL_law_806 dL_law_807 dL_law_808 dL_law_809 ?_
  refine l_arg C 2 rfl (by omega) hL dL_law_810 dL_law_811 dL_law_812 dL_law_813 dL_law_814 ?_
  refine l_arg C 3 rfl (by omega) hL dL_law_815 dL_law_816 dL_law_817 dL_law_818 dL_law_819 ?_
  refine l_cMi (av := [vi (xs (t + 1)).toInt, vi (xs (t + 2)).toInt, vi (xs (t + 3)).toInt]) (rest := [vi r1]) C (ctX5_common e2) kX5_common vX5_common zX5_common lkL_82 rfl rfl rfl rfl dL_law_820 ?_
  exact l_eq C e3 dL_law_823 (by decide) (hn p1 p2 e4)
def G_result (J : HP → HP → Prop) : Prop := ∀ h1 h2 : HP, J h1 h2 → ∀ x1 x2 : Int, wi x1 = x1 → wi x2 = x2 → ∃ (r1 r2 : Int) (p1 p2 : HP), fX4_result x1 x2 h1 = some (r1, p1) ∧ fX5_result x1 x2 h2 = some (r2, p2) ∧ wi r1 = wi r2 ∧ J p1 p2
set_option maxRecDepth 20000 in
theorem lcase_16 {J : HP → HP → Prop} (G : G_result J) (C : LX p l s m meth c b L xs D a1 a2 cI cR cJ) (ht : t + 7 ≤ L) (hL : L ≤ 3584) (hJ : J h1 h2) (hn : ∀ p1 p2 : HP, J p1 p2 → Lw p l e s m below meth c b D a1 a2 cI cR cJ 1186 t [] p1 p2) : Lw p l e s m below meth c b D a1 a2 cI cR cJ 828 t [] h1 h2 := by
  obtain ⟨r1, r2, p1, p2, e1, e2, e3, e4⟩ := G h1 h2 hJ (xs (t + 1)).toInt (xs (t + 2)).toInt (wi_ti _) (wi_ti _)
  refine l_a1 C dL_law_828 ?_
  refine l_arg C 1 rfl (by omega) hL dL_law_829 dL_law_830 dL_law_831 dL_law_832 dL_law_833 ?_
  refine l_arg C 2 rfl (by omega) hL dL_law_834 dL_law_835 dL_law_836 dL_law_837 dL_law_838 ?_
  refine l_cCi (av := [vi (xs (t + 1)).toInt, vi (xs (t + 2)).toInt]) (rest := []) C (ctX4_result e1) kX4_result vX4_result zX4_result lkL_83 rfl rfl rfl rfl dL_law_839 ?_
  refine l_a2 C dL_law_842 ?_
  refine l_arg C 1 rfl (by omega) hL dL_law_843 dL_law_844 dL_law_845 dL_law_846 dL_law_847 ?_
  refine l_arg C 2 rfl (by omega) hL dL_law_848 dL_law_849 dL_law_850 dL_law_851 dL_law_852 ?_
  refine l_cMi (av := [vi (xs (t + 1)).toInt, vi (xs (t + 2)).toInt]) (rest := [vi r1]) C (ctX5_result e2) kX5_result vX5_result zX5_result lkL_86 rfl rfl rfl rfl dL_law_853 ?_
  exact l_eq C e3 dL_law_856 (by decide) (hn p1 p2 e4)
def G_powers (J : HP → HP → Prop) : Prop := ∀ h1 h2 : HP, J h1 h2 → ∀ x1 x2 x3 x4 : Int, wi x1 = x1 → wi x2 = x2 → wi x3 = x3 → wi x4 = x4 → ∃ (r1 r2 : Int) (p1 p2 : HP), fX4_powers x1 x2 x3 x4 h1 = some (r1, p1) ∧ fX5_powers x1 x2 x3 x4 h2 = some (r2, p2) ∧ wi r1 = wi r2 ∧ J p1 p2
set_option maxRecDepth 20000 in
theorem lcase_17 {J : HP → HP → Prop} (G : G_powers J) (C : LX p l s m meth c b L xs D a1 a2 cI cR cJ) (ht : t + 7 ≤ L) (hL : L ≤ 3584) (hJ : J h1 h2) (hn : ∀ p1 p2 : HP, J p1 p2 → Lw p l e s m below meth c b D a1 a2 cI cR cJ 1186 t [] p1 p2) : Lw p l e s m below meth c b D a1 a2 cI cR cJ 861 t [] h1 h2 := by
  obtain ⟨r1, r2, p1, p2, e1, e2, e3, e4⟩ := G h1 h2 hJ (xs (t + 1)).toInt (xs (t + 2)).toInt (xs (t + 3)).toInt (xs (t + 4)).toInt (wi_ti _) (wi_ti _) (wi_ti _) (wi_ti _)
  refine l_a1 C dL_law_861 ?_
  refine l_arg C 1 rfl (by omega) hL dL_law_862 dL_law_863 dL_law_864 dL_law_865 dL_law_866 ?_
  refine l_arg C 2 rfl (by omega) hL dL_law_867 dL_law_868 dL_law_869 dL_law_870 dL_law_871 ?_
  refine l_arg C 3 rfl (by omega) hL dL_law_872 dL_law_873 dL_law_874 dL_law_875 dL_law_876 ?_
  refine l_arg C 4 rfl (by omega) hL dL_law_877 dL_law_878 dL_law_879 dL_law_880 dL_law_881 ?_
  refine l_cCi (av := [vi (xs (t + 1)).toInt, vi (xs (t + 2)).toInt, vi (xs (t + 3)).toInt, vi (xs (t + 4)).toInt]) (rest := []) C (ctX4_powers e1) kX4_powers vX4_powers zX4_powers lkL_87 rfl rfl rfl rfl dL_law_882 ?_
  refine l_a2 C dL_law_885 ?_
  refine l_arg C 1 rfl (by omega) hL dL_law_886 dL_law_887 dL_law_888 dL_law_889 dL_law_890 ?_
  refine l_arg C 2 rfl (by omega) hL dL_law_891 dL_law_892 dL_law_893 dL_law_894 dL_law_895 ?_
  refine l_arg C 3 rfl (by omega) hL dL_law_896 dL_law_897 dL_law_898 dL_law_899 dL_law_900 ?_
  refine l_arg C 4 rfl (by omega) hL dL_law_901 dL_law_902 dL_law_903 dL_law_904 dL_law_905 ?_
  refine l_cMi (av := [vi (xs (t + 1)).toInt, vi (xs (t + 2)).toInt, vi (xs (t + 3)).toInt, vi (xs (t + 4)).toInt]) (rest := [vi r1]) C (ctX5_powers e2) kX5_powers vX5_powers zX5_powers lkL_90 rfl rfl rfl rfl dL_law_906 ?_
  exact l_eq C e3 dL_law_909 (by decide) (hn p1 p2 e4)
def G_build (J : HP → HP → Prop) : Prop := ∀ h1 h2 : HP, J h1 h2 → ∀ x1 x2 x3 x4 x5 : Int, wi x1 = x1 → wi x2 = x2 → wi x3 = x3 → wi x4 = x4 → wi x5 = x5 → ∃ (r1 r2 : Int) (p1 p2 : HP), fX4_build x1 x2 x3 x4 x5 h1 = some (r1, p1) ∧ fX5_build x1 x2 x3 x4 x5 h2 = some (r2, p2) ∧ wi r1 = wi r2 ∧ J p1 p2
set_option maxRecDepth 20000 in
theorem lcase_18 {J : HP → HP → Prop} (G : G_build J) (C : LX p l s m meth c b L xs D a1 a2 cI cR cJ) (ht : t + 7 ≤ L) (hL : L ≤ 3584) (hJ : J h1 h2) (hn : ∀ p1 p2 : HP, J p1 p2 → Lw p l e s m below meth c b D a1 a2 cI cR cJ 1186 t [] p1 p2) : Lw p l e s m below meth c b D a1 a2 cI cR cJ 914 t [] h1 h2 := by
  obtain ⟨r1, r2, p1, p2, e1, e2, e3, e4⟩ := G h1 h2 hJ (xs (t + 1)).toInt (xs (t + 2)).toInt (xs (t + 3)).toInt (xs (t + 4)).toInt (xs (t + 5)).toInt (wi_ti _) (wi_ti _) (wi_ti _) (wi_ti _) (wi_ti _)
  refine l_a1 C dL_law_914 ?_
  refine l_arg C 1 rfl (by omega) hL dL_law_915 dL_law_916 dL_law_917 dL_law_918 dL_law_919 ?_
  refine l_arg C 2 rfl (by omega) hL dL_law_920 dL_law_921 dL_law_922 dL_law_923 dL_law_924 ?_
  refine l_arg C 3 rfl (by omega) hL dL_law_925 dL_law_926 dL_law_927 dL_law_928 dL_law_929 ?_
  refine l_arg C 4 rfl (by omega) hL dL_law_930 dL_law_931 dL_law_932 dL_law_933 dL_law_934 ?_
  refine l_arg C 5 rfl (by omega) hL dL_law_935 dL_law_936 dL_law_937 dL_law_938 dL_law_939 ?_
  refine l_cCi (av := [vi (xs (t + 1)).toInt, vi (xs (t + 2)).toInt, vi (xs (t + 3)).toInt, vi (xs (t + 4)).toInt, vi (xs (t + 5)).toInt]) (rest := []) C (ctX4_build e1) kX4_build vX4_build zX4_build lkL_91 rfl rfl rfl rfl dL_law_940 ?_
  refine l_a2 C dL_law_943 ?_
  refine l_arg C 1 rfl (by omega) hL dL_law_944 dL_law_945 dL_law_946 dL_law_947 dL_law_948 ?_
  refine l_arg C 2 rfl (by omega) hL dL_law_949 dL_law_950 dL_law_951 dL_law_952 dL_law_953 ?_
  refine l_arg C 3 rfl (by omega) hL dL_law_954 dL_law_955 dL_law_956 dL_law_957 dL_law_958 ?_
  refine l_arg C 4 rfl (by omega) hL dL_law_959 dL_law_960 dL_law_961 dL_law_962 dL_law_963 ?_
  refine l_arg C 5 rfl (by omega) hL dL_law_964 dL_law_965 dL_law_966 dL_law_967 dL_law_968 ?_
  refine l_cMi (av := [vi (xs (t + 1)).toInt, vi (xs (t + 2)).toInt, vi (xs (t + 3)).toInt, vi (xs (t + 4)).toInt, vi (xs (t + 5)).toInt]) (rest := [vi r1]) C (ctX5_build e2) kX5_build vX5_build zX5_build lkL_94 rfl rfl rfl rfl dL_law_969 ?_
  exact l_eq C e3 dL_law_972 (by decide) (hn p1 p2 e4)
def G_rank (J : HP → HP → Prop) : Prop := ∀ h1 h2 : HP, J h1 h2 → ∀ x1 x2 : Int, wi x1 = x1 → wi x2 = x2 → ∃ (r1 r2 : Int) (p1 p2 : HP), fX4_rank x1 x2 h1 = some (r1, p1) ∧ fX5_rank x1 x2 h2 = some (r2, p2) ∧ wi r1 = wi r2 ∧ J p1 p2
set_option maxRecDepth 20000 in
theorem lcase_19 {J : HP → HP → Prop} (G : G_rank J) (C : LX p l s m meth c b L xs D a1 a2 cI cR cJ) (ht : t + 7 ≤ L) (hL : L ≤ 3584) (hJ : J h1 h2) (hn : ∀ p1 p2 : HP, J p1 p2 → Lw p l e s m below meth c b D a1 a2 cI cR cJ 1186 t [] p1 p2) : Lw p l e s m below meth c b D a1 a2 cI cR cJ 977 t [] h1 h2 := by
  obtain ⟨r1, r2, p1, p2, e1, e2, e3, e4⟩ := G h1 h2 hJ (xs (t + 1)).toInt (xs (t + 2)).toInt (wi_ti _) (wi_ti _)
  refine l_a1 C dL_law_977 ?_
  refine l_arg C 1 rfl (by omega) hL dL_law_978 dL_law_979 dL_law_980 dL_law_981 dL_law_982 ?_
  refine l_arg C 2 rfl (by omega) hL dL_law_983 dL_law_984 dL_law_985 dL_law_986 dL_law_987 ?_
  refine l_cCi (av := [vi (xs (t + 1)).toInt, vi (xs (t + 2)).toInt]) (rest := []) C (ctX4_rank e1) kX4_rank vX4_rank zX4_rank lkL_95 rfl rfl rfl rfl dL_law_988 ?_
  refine l_a2 C dL_law_991 ?_
  refine l_arg C 1 rfl (by omega) hL dL_law_992 dL_law_993 dL_law_994 dL_law_995 dL_law_996 ?_
  refine l_arg C 2 rfl (by omega) hL dL_law_997 dL_law_998 dL_law_999 dL_law_1000 dL_law_1001 ?_
  refine l_cMi (av := [vi (xs (t + 1)).toInt, vi (xs (t + 2)).toInt]) (rest := [vi r1]) C (ctX5_rank e2) kX5_rank vX5_rank zX5_rank lkL_98 rfl rfl rfl rfl dL_law_1002 ?_
  exact l_eq C e3 dL_law_1005 (by decide) (hn p1 p2 e4)
def G_leads (J : HP → HP → Prop) : Prop := ∀ h1 h2 : HP, J h1 h2 → ∀ x1 x2 x3 : Int, wi x1 = x1 → wi x2 = x2 → wi x3 = x3 → ∃ (r1 r2 : Int) (p1 p2 : HP), fX4_leads x1 x2 x3 h1 = some (r1, p1) ∧ fX5_leads x1 x2 x3 h2 = some (r2, p2) ∧ wi r1 = wi r2 ∧ J p1 p2
set_option maxRecDepth 20000 in
theorem lcase_20 {J : HP → HP → Prop} (G : G_leads J) (C : LX p l s m meth c b L xs D a1 a2 cI cR cJ) (ht : t + 7 ≤ L) (hL : L ≤ 3584) (hJ : J h1 h2) (hn : ∀ p1 p2 : HP, J p1 p2 → Lw p l e s m below meth c b D a1 a2 cI cR cJ 1186 t [] p1 p2) : Lw p l e s m below meth c b D a1 a2 cI cR cJ 1010 t [] h1 h2 := by
  obtain ⟨r1, r2, p1, p2, e1, e2, e3, e4⟩ := G h1 h2 hJ (xs (t + 1)).toInt (xs (t + 2)).toInt (xs (t + 3)).toInt (wi_ti _) (wi_ti _) (wi_ti _)
  refine l_a1 C dL_law_1010 ?_
  refine l_arg C 1 rfl (by omega) hL dL_law_1011 dL_law_1012 dL_law_1013 dL_law_1014 dL_law_1015 ?_
  refine l_arg C 2 rfl (by omega) hL dL_law_1016 dL_law_1017 dL_law_1018 dL_law_1019 dL_law_1020 ?_
  refine l_arg C 3 rfl (by omega) hL dL_law_1021 dL_law_1022 dL_law_1023 dL_law_1024 dL_law_1025 ?_
  refine l_cCi (av := [vi (xs (t + 1)).toInt, vi (xs (t + 2)).toInt, vi (xs (t + 3)).toInt]) (rest := []) C (ctX4_leads e1) kX4_leads vX4_leads zX4_leads lkL_99 rfl rfl rfl rfl dL_law_1026 ?_
  refine l_a2 C dL_law_1029 ?_
  refine l_arg C 1 rfl (by omega) hL dL_law_1030 dL_law_1031 dL_law_1032 dL_law_1033 dL_law_1034 ?_
  refine l_arg C 2 rfl (by omega) hL dL_law_1035 dL_law_1036 dL_law_1037 dL_law_1038 dL_law_1039 ?_
  refine l_arg C 3 rfl (by omega) hL dL_law_1040 dL_law_1041 dL_law_1042 dL_law_1043 dL_law_1044 ?_
  refine l_cMi (av := [vi (xs (t + 1)).toInt, vi (xs (t + 2)).toInt, vi (xs (t + 3)).toInt]) (rest := [vi r1]) C (ctX5_leads e2) kX5_leads vX5_leads zX5_leads lkL_102 rfl rfl rfl rfl dL_law_1045 ?_
  exact l_eq C e3 dL_law_1048 (by decide) (hn p1 p2 e4)
def G_lead (J : HP → HP → Prop) : Prop := ∀ h1 h2 : HP, J h1 h2 → ∀ x1 x2 x3 x4 : Int, wi x1 = x1 → wi x2 = x2 → wi x3 = x3 → wi x4 = x4 → ∃ (r1 r2 : Int) (p1 p2 : HP), fX4_lead x1 x2 x3 x4 h1 = some (r1, p1) ∧ fX5_lead x1 x2 x3 x4 h2 = some (r2, p2) ∧ wi r1 = wi r2 ∧ J p1 p2
set_option maxRecDepth 20000 in
theorem lcase_21 {J : HP → HP → Prop} (G : G_lead J) (C : LX p l s m meth c b L xs D a1 a2 cI cR cJ) (ht : t + 7 ≤ L) (hL : L ≤ 3584) (hJ : J h1 h2) (hn : ∀ p1 p2 : HP, J p1 p2 → Lw p l e s m below meth c b D a1 a2 cI cR cJ 1186 t [] p1 p2) : Lw p l e s m below meth c b D a1 a2 cI cR cJ 1053 t [] h1 h2 := by
  obtain ⟨r1, r2, p1, p2, e1, e2, e3, e4⟩ := G h1 h2 hJ (xs (t + 1)).toInt (xs (t + 2)).toInt (xs (t + 3)).toInt (xs (t + 4)).toInt (wi_ti _) (wi_ti _) (wi_ti _) (wi_ti _)
  refine l_a1 C dL_law_1053 ?_
  refine l_arg C 1 rfl (by omega) hL dL_law_1054 dL_law_1055 dL_law_1056 dL_law_1057 dL_law_1058 ?_
  refine l_arg C 2 rfl (by omega) hL dL_law_1059 dL_law_1060 dL_law_1061 dL_law_1062 dL_law_1063 ?_
  refine l_arg C 3 rfl (by omega) hL dL_law_1064 dL_law_1065 dL_law_1066 dL_law_1067 dL_law_1068 ?_
  refine l_arg C 4 rfl (by omega) hL dL_law_1069 dL_law_1070 dL_law_1071 dL_law_1072 dL_law_1073 ?_
  refine l_cCi (av := [vi (xs (t + 1)).toInt, vi (xs (t + 2)).toInt, vi (xs (t + 3)).toInt, vi (xs (t + 4)).toInt]) (rest := []) C (ctX4_lead e1) kX4_lead vX4_lead zX4_lead lkL_103 rfl rfl rfl rfl dL_law_1074 ?_
  refine l_a2 C dL_law_1077 ?_
  refine l_arg C 1 rfl (by omega) hL dL_law_1078 dL_law_1079 dL_law_1080 dL_law_1081 dL_law_1082 ?_
  refine l_arg C 2 rfl (by omega) hL dL_law_1083 dL_law_1084 dL_law_1085 dL_law_1086 dL_law_1087 ?_
  refine l_arg C 3 rfl (by omega) hL dL_law_1088 dL_law_1089 dL_law_1090 dL_law_1091 dL_law_1092 ?_
  refine l_arg C 4 rfl (by omega) hL dL_law_1093 dL_law_1094 dL_law_1095 dL_law_1096 dL_law_1097 ?_
  refine l_cMi (av := [vi (xs (t + 1)).toInt, vi (xs (t + 2)).toInt, vi (xs (t + 3)).toInt, vi (xs (t + 4)).toInt]) (rest := [vi r1]) C (ctX5_lead e2) kX5_lead vX5_lead zX5_lead lkL_106 rfl rfl rfl rfl dL_law_1098 ?_
  exact l_eq C e3 dL_law_1101 (by decide) (hn p1 p2 e4)
def G_staying (J : HP → HP → Prop) : Prop := ∀ h1 h2 : HP, J h1 h2 → ∀ x1 x2 x3 : Int, wi x1 = x1 → wi x2 = x2 → wi x3 = x3 → ∃ (r1 r2 : Int) (p1 p2 : HP), fX4_staying x1 x2 x3 h1 = some (r1, p1) ∧ fX5_staying x1 x2 x3 h2 = some (r2, p2) ∧ wi r1 = wi r2 ∧ J p1 p2
set_option maxRecDepth 20000 in
theorem lcase_22 {J : HP → HP → Prop} (G : G_staying J) (C : LX p l s m meth c b L xs D a1 a2 cI cR cJ) (ht : t + 7 ≤ L) (hL : L ≤ 3584) (hJ : J h1 h2) (hn : ∀ p1 p2 : HP, J p1 p2 → Lw p l e s m below meth c b D a1 a2 cI cR cJ 1186 t [] p1 p2) : Lw p l e s m below meth c b D a1 a2 cI cR cJ 1106 t [] h1 h2 := by
  obtain ⟨r1, r2, p1, p2, e1, e2, e3, e4⟩ := G h1 h2 hJ (xs (t + 1)).toInt (xs (t + 2)).toInt (xs (t + 3)).toInt (wi_ti _) (wi_ti _) (wi_ti _)
  refine l_a1 C dL_law_1106 ?_
  refine l_arg C 1 rfl (by omega) hL dL_law_1107 dL_law_1108 dL_law_1109 dL_law_1110 dL_law_1111 ?_
  refine l_arg C 2 rfl (by omega) hL dL_law_1112 dL_law_1113 dL_law_1114 dL_law_1115 dL_law_1116 ?_
  refine l_arg C 3 rfl (by omega) hL dL_law_1117 dL_law_1118 dL_law_1119 dL_law_1120 dL_law_1121 ?_
  refine l_cCi (av := [vi (xs (t + 1)).toInt, vi (xs (t + 2)).toInt, vi (xs (t + 3)).toInt]) (rest := []) C (ctX4_staying e1) kX4_staying vX4_staying zX4_staying lkL_107 rfl rfl rfl rfl dL_law_1122 ?_
  refine l_a2 C dL_law_1125 ?_
  refine l_arg C 1 rfl (by omega) hL dL_law_1126 dL_law_1127 dL_law_1128 dL_law_1129 dL_law_1130 ?_
  refine l_arg C 2 rfl (by omega) hL dL_law_1131 dL_law_1132 dL_law_1133 dL_law_1134 dL_law_1135 ?_
  refine l_arg C 3 rfl (by omega) hL dL_law_1136 dL_law_1137 dL_law_1138 dL_law_1139 dL_law_1140 ?_
  refine l_cMi (av := [vi (xs (t + 1)).toInt, vi (xs (t + 2)).toInt, vi (xs (t + 3)).toInt]) (rest := [vi r1]) C (ctX5_staying e2) kX5_staying vX5_staying zX5_staying lkL_110 rfl rfl rfl rfl dL_law_1141 ?_
  exact l_eq C e3 dL_law_1144 (by decide) (hn p1 p2 e4)
def G_count (J : HP → HP → Prop) : Prop := ∀ h1 h2 : HP, J h1 h2 → ∀ x1 : Int, wi x1 = x1 → ∃ (r1 r2 : Int) (p1 p2 : HP), fX4_count x1 h1 = some (r1, p1) ∧ fX5_count x1 h2 = some (r2, p2) ∧ wi r1 = wi r2 ∧ J p1 p2
set_option maxRecDepth 20000 in
theorem lcase_23 {J : HP → HP → Prop} (G : G_count J) (C : LX p l s m meth c b L xs D a1 a2 cI cR cJ) (ht : t + 7 ≤ L) (hL : L ≤ 3584) (hJ : J h1 h2) (hn : ∀ p1 p2 : HP, J p1 p2 → Lw p l e s m below meth c b D a1 a2 cI cR cJ 1186 t [] p1 p2) : Lw p l e s m below meth c b D a1 a2 cI cR cJ 1149 t [] h1 h2 := by
  obtain ⟨r1, r2, p1, p2, e1, e2, e3, e4⟩ := G h1 h2 hJ (xs (t + 1)).toInt (wi_ti _)
  refine l_a1 C dL_law_1149 ?_
  refine l_arg C 1 rfl (by omega) hL dL_law_1150 dL_law_1151 dL_law_1152 dL_law_1153 dL_law_1154 ?_
  refine l_cCi (av := [vi (xs (t + 1)).toInt]) (rest := []) C (ctX4_count e1) kX4_count vX4_count zX4_count lkL_111 rfl rfl rfl rfl dL_law_1155 ?_
  refine l_a2 C dL_law_1158 ?_
  refine l_arg C 1 rfl (by omega) hL dL_law_1159 dL_law_1160 dL_law_1161 dL_law_1162 dL_law_1163 ?_
  refine l_cMi (av := [vi (xs (t + 1)).toInt]) (rest := [vi r1]) C (ctX5_count e2) kX5_count vX5_count zX5_count lkL_114 rfl rfl rfl rfl dL_law_1164 ?_
  exact l_eq C e3 dL_law_1167 (by decide) (hn p1 p2 e4)
def G_digest (J : HP → HP → Prop) : Prop := ∀ h1 h2 : HP, J h1 h2 → ∃ (r1 r2 : Int) (p1 p2 : HP), fX4_digest h1 = some (r1, p1) ∧ fX5_digest h2 = some (r2, p2) ∧ wl r1 = wl r2 ∧ J p1 p2
set_option maxRecDepth 20000 in
theorem lcase_24 {J : HP → HP → Prop} (G : G_digest J) (C : LX p l s m meth c b L xs D a1 a2 cI cR cJ) (ht : t + 7 ≤ L) (hL : L ≤ 3584) (hJ : J h1 h2) (hn : ∀ p1 p2 : HP, J p1 p2 → Lw p l e s m below meth c b D a1 a2 cI cR cJ 1186 t [] p1 p2) : Lw p l e s m below meth c b D a1 a2 cI cR cJ 1172 t [] h1 h2 := by
  obtain ⟨r1, r2, p1, p2, e1, e2, e3, e4⟩ := G h1 h2 hJ
  refine l_a1 C dL_law_1172 ?_
  refine l_cCl (av := []) (rest := []) C (ctX4_digest e1) kX4_digest vX4_digest zX4_digest lkL_115 rfl rfl rfl rfl dL_law_1173 ?_
  refine l_a2 C dL_law_1176 ?_
  refine l_cMl (av := []) (rest := [vl r1]) C (ctX5_digest e2) kX5_digest vX5_digest zX5_digest lkL_119 rfl rfl rfl rfl dL_law_1177 ?_
  exact l_eql C e3 dL_law_1180 dL_law_1181 (by decide) (hn p1 p2 e4)
def Good (J : HP → HP → Prop) : Prop := G_sheet J ∧ G_lose J ∧ G_put J ∧ G_get J ∧ G_copy J ∧ G_term J ∧ G_degree J ∧ G_value J ∧ G_join J ∧ G_mix J ∧ G_change J ∧ G_overlap J ∧ G_alike J ∧ G_roots J ∧ G_root J ∧ G_common J ∧ G_result J ∧ G_powers J ∧ G_build J ∧ G_rank J ∧ G_leads J ∧ G_lead J ∧ G_staying J ∧ G_count J ∧ G_digest J
set_option maxRecDepth 20000 in
theorem law_sw {J : HP → HP → Prop} (G : Good J) (C : LX p l s m meth c b L xs D a1 a2 cI cR cJ) (ht : t + 7 ≤ L) (hL : L ≤ 3584) (hJ : J h1 h2) (hn : ∀ p1 p2 : HP, J p1 p2 → Lw p l e s m below meth c b D a1 a2 cI cR cJ 1186 t [] p1 p2) {j : Nat} (hj : j < 32) : Lw p l e s m below meth c b D a1 a2 cI cR cJ 33 t [.int (nI j)] h1 h2 := fun H locs ls hP1 hP2 hS hv => by
  have hj2 : (nI j).toInt = (j : Int) := nI_toInt (by omega)
  by_cases c0 : j = 0
  · subst c0
    exact lv_tableIn (tgt := 148) C.1.1 C.1.2.1 dL_law_33 (by decide) (by decide) (by rfl) (by decide) (lcase_0 G.1 C ht hL hJ hn H locs ls hP1 hP2 hS hv)
  by_cases c1 : j = 1
  · subst c1
    exact lv_tableIn (tgt := 191) C.1.1 C.1.2.1 dL_law_33 (by decide) (by decide) (by rfl) (by decide) (lcase_1 G.2.1 C ht hL hJ hn H locs ls hP1 hP2 hS hv)
  by_cases c2 : j = 2
  · subst c2
    exact lv_tableIn (tgt := 214) C.1.1 C.1.2.1 dL_law_33 (by decide) (by decide) (by rfl) (by decide) (lcase_2 G.2.2.1 C ht hL hJ hn H locs ls hP1 hP2 hS hv)
  by_cases c3 : j = 3
  · subst c3
    exact lv_tableIn (tgt := 267) C.1.1 C.1.2.1 dL_law_33 (by decide) (by decide) (by rfl) (by decide) (lcase_3 G.2.2.2.1 C ht hL hJ hn H locs ls hP1 hP2 hS hv)
  by_cases c4 : j = 4
  · subst c4
    exact lv_tableIn (tgt := 310) C.1.1 C.1.2.1 dL_law_33 (by decide) (by decide) (by rfl) (by decide) (lcase_4 G.2.2.2.2.1 C ht hL hJ hn H locs ls hP1 hP2 hS hv)
  by_cases c5 : j = 5
  · subst c5
    exact lv_tableIn (tgt := 373) C.1.1 C.1.2.1 dL_law_33 (by decide) (by decide) (by rfl) (by decide) (lcase_5 G.2.2.2.2.2.1 C ht hL hJ hn H locs ls hP1 hP2 hS hv)
  by_cases c6 : j = 6
  · subst c6
    exact lv_tableIn (tgt := 406) C.1.1 C.1.2.1 dL_law_33 (by decide) (by decide) (by rfl) (by decide) (lcase_6 G.2.2.2.2.2.2.1 C ht hL hJ hn H locs ls hP1 hP2 hS hv)
  by_cases c7 : j = 7
  · subst c7
    exact lv_tableIn (tgt := 429) C.1.1 C.1.2.1 dL_law_33 (by decide) (by decide) (by rfl) (by decide) (lcase_7 G.2.2.2.2.2.2.2.1 C ht hL hJ hn H locs ls hP1 hP2 hS hv)
  by_cases c8 : j = 8
  · subst c8
    exact lv_tableIn (tgt := 472) C.1.1 C.1.2.1 dL_law_33 (by decide) (by decide) (by rfl) (by decide) (lcase_8 G.2.2.2.2.2.2.2.2.1 C ht hL hJ hn H locs ls hP1 hP2 hS hv)
  by_cases c9 : j = 9
  · subst c9
    exact lv_tableIn (tgt := 525) C.1.1 C.1.2.1 dL_law_33 (by decide) (by decide) (by rfl) (by decide) (lcase_9 G.2.2.2.2.2.2.2.2.2.1 C ht hL hJ hn H locs ls hP1 hP2 hS hv)
  by_cases c10 : j = 10
  · subst c10
    exact lv_tableIn (tgt := 600) C.1.1 C.1.2.1 dL_law_33 (by decide) (by decide) (by rfl) (by decide) (lcase_10 G.2.2.2.2.2.2.2.2.2.2.1 C ht hL hJ hn H locs ls hP1 hP2 hS hv)
  by_cases c11 : j = 11
  · subst c11
    exact lv_tableIn (tgt := 643) C.1.1 C.1.2.1 dL_law_33 (by decide) (by decide) (by rfl) (by decide) (lcase_11 G.2.2.2.2.2.2.2.2.2.2.2.1 C ht hL hJ hn H locs ls hP1 hP2 hS hv)
  by_cases c12 : j = 12
  · subst c12
    exact lv_tableIn (tgt := 696) C.1.1 C.1.2.1 dL_law_33 (by decide) (by decide) (by rfl) (by decide) (lcase_12 G.2.2.2.2.2.2.2.2.2.2.2.2.1 C ht hL hJ hn H locs ls hP1 hP2 hS hv)
  by_cases c13 : j = 13
  · subst c13
    exact lv_tableIn (tgt := 729) C.1.1 C.1.2.1 dL_law_33 (by decide) (by decide) (by rfl) (by decide) (lcase_13 G.2.2.2.2.2.2.2.2.2.2.2.2.2.1 C ht hL hJ hn H locs ls hP1 hP2 hS hv)
  by_cases c14 : j = 14
  · subst c14
    exact lv_tableIn (tgt := 752) C.1.1 C.1.2.1 dL_law_33 (by decide) (by decide) (by rfl) (by decide) (lcase_14 G.2.2.2.2.2.2.2.2.2.2.2.2.2.2.1 C ht hL hJ hn H locs ls hP1 hP2 hS hv)
  by_cases c15 : j = 15
  · subst c15
    exact lv_tableIn (tgt := 785) C.1.1 C.1.2.1 dL_law_33 (by decide) (by decide) (by rfl) (by decide) (lcase_15 G.2.2.2.2.2.2.2.2.2.2.2.2.2.2.2.1 C ht hL hJ hn H locs ls hP1 hP2 hS hv)
  by_cases c16 : j = 16
  · subst c16
    exact lv_tableIn (tgt := 828) C.1.1 C.1.2.1 dL_law_33 (by decide) (by decide) (by rfl) (by decide) (lcase_16 G.2.2.2.2.2.2.2.2.2.2.2.2.2.2.2.2.1 C ht hL hJ hn H locs ls hP1 hP2 hS hv)
  by_cases c17 : j = 17
  · subst c17
    exact lv_tableIn (tgt := 861) C.1.1 C.1.2.1 dL_law_33 (by decide) (by decide) (by rfl) (by decide) (lcase_17 G.2.2.2.2.2.2.2.2.2.2.2.2.2.2.2.2.2.1 C ht hL hJ hn H locs ls hP1 hP2 hS hv)
  by_cases c18 : j = 18
  · subst c18
    exact lv_tableIn (tgt := 914) C.1.1 C.1.2.1 dL_law_33 (by decide) (by decide) (by rfl) (by decide) (lcase_18 G.2.2.2.2.2.2.2.2.2.2.2.2.2.2.2.2.2.2.1 C ht hL hJ hn H locs ls hP1 hP2 hS hv)
  by_cases c19 : j = 19
  · subst c19
    exact lv_tableIn (tgt := 977) C.1.1 C.1.2.1 dL_law_33 (by decide) (by decide) (by rfl) (by decide) (lcase_19 G.2.2.2.2.2.2.2.2.2.2.2.2.2.2.2.2.2.2.2.1 C ht hL hJ hn H locs ls hP1 hP2 hS hv)
  by_cases c20 : j = 20
  · subst c20
    exact lv_tableIn (tgt := 1010) C.1.1 C.1.2.1 dL_law_33 (by decide) (by decide) (by rfl) (by decide) (lcase_20 G.2.2.2.2.2.2.2.2.2.2.2.2.2.2.2.2.2.2.2.2.1 C ht hL hJ hn H locs ls hP1 hP2 hS hv)
  by_cases c21 : j = 21
  · subst c21
    exact lv_tableIn (tgt := 1053) C.1.1 C.1.2.1 dL_law_33 (by decide) (by decide) (by rfl) (by decide) (lcase_21 G.2.2.2.2.2.2.2.2.2.2.2.2.2.2.2.2.2.2.2.2.2.1 C ht hL hJ hn H locs ls hP1 hP2 hS hv)
  by_cases c22 : j = 22
  · subst c22
    exact lv_tableIn (tgt := 1106) C.1.1 C.1.2.1 dL_law_33 (by decide) (by decide) (by rfl) (by decide) (lcase_22 G.2.2.2.2.2.2.2.2.2.2.2.2.2.2.2.2.2.2.2.2.2.2.1 C ht hL hJ hn H locs ls hP1 hP2 hS hv)
  by_cases c23 : j = 23
  · subst c23
    exact lv_tableIn (tgt := 1149) C.1.1 C.1.2.1 dL_law_33 (by decide) (by decide) (by rfl) (by decide) (lcase_23 G.2.2.2.2.2.2.2.2.2.2.2.2.2.2.2.2.2.2.2.2.2.2.2.1 C ht hL hJ hn H locs ls hP1 hP2 hS hv)
  by_cases c24 : j = 24
  · subst c24
    exact lv_tableIn (tgt := 1172) C.1.1 C.1.2.1 dL_law_33 (by decide) (by decide) (by rfl) (by decide) (lcase_24 G.2.2.2.2.2.2.2.2.2.2.2.2.2.2.2.2.2.2.2.2.2.2.2.2 C ht hL hJ hn H locs ls hP1 hP2 hS hv)
  exact lv_tableOut (tgt := 1186) C.1.1 C.1.2.1 dL_law_33 (by rw [hj2]; omega) (by decide) (hn h1 h2 hJ H locs ls hP1 hP2 hS hv)
theorem law_loop {J : HP → HP → Prop} (G : Good J) (C : LX p l s m meth c b L xs D a1 a2 cI cR cJ) (hL : L ≤ 3584) : ∀ (n t : Nat) (h1 h2 : HP), L + 8 ≤ t + n → t ≤ L → J h1 h2 → Lw p l e s m below meth c b D a1 a2 cI cR cJ 18 t [] h1 h2 := by
  intro n
  induction n with
  | zero => intro t h1 h2 q1 q2; omega
  | succ n ih =>
    intro t h1 h2 q1 q2 hJ H locs ls hP1 hP2 hS hv
    refine lv_iload_n C.1.1 C.1.2.1 dL_law_18 rfl (lv_at hv 3 rfl) ?_
    refine lv_aload_n C.1.1 C.1.2.1 dL_law_19 rfl (lv_at hv 0 rfl) ?_
    refine va_slen C.1.1 C.1.2.1 C.1.2.2.2.2.2.2.1 C.1.2.2.2.2.2.2.2.1 (l_bA C) hS dL_law_20 ?_
    refine lv_bipush (v := nI 7) C.1.1 C.1.2.1 dL_law_21 (by decide) ?_
    refine lv_isub C.1.1 C.1.2.1 dL_law_23 ?_
    have e9 : (Int32.ofNat L - nI 7).toInt = (L : Int) - 7 := pk_sub_toInt (a := L) (b := 7) (by omega) (by omega)
    have e8 : (nI t).toInt = (t : Int) := nI_toInt (by omega)
    refine lv_icmp_gt (tgt := 1192) C.1.1 C.1.2.1 dL_law_24 (by decide) (fun q => ?_) (fun q => ?_)
    · refine lv_iconst (v := 1) C.1.1 C.1.2.1 dL_law_1192 (by decide) ?_
      refine va_forget (fun q hq => hS.2.2 q hq) ?_
      refine W.widen (k := 600000) (n := 7302250) (by omega) (by omega) ?_
      exact lw_ret C.1.1 C.1.2.1 C.1.2.2.1 C.1.2.2.2.2.2.2.2.2.1 dL_law_1193
    · have ht : t + 7 ≤ L := by
        rw [Int32.lt_iff_toInt_lt, e9, e8] at q
        omega
      refine l_arg0 (e := e) (below := below) (stk := []) C (by omega) hL dL_law_27 dL_law_28 dL_law_29 ?_ H locs ls hP1 hP2 hS hv
      intro H locs ls hP1 hP2 hS hv
      refine lv_bipush (v := 31) C.1.1 C.1.2.1 dL_law_30 (by decide) ?_
      refine lv_iand C.1.1 C.1.2.1 dL_law_32 ?_
      obtain ⟨j, hj, ej⟩ := pk_andE (xs t) (m := 31) 5 (by decide)
      rw [ej]
      refine law_sw G C ht hL hJ (fun p1 p2 hJ2 => ?_) (j := j) hj H locs ls hP1 hP2 hS hv
      intro H locs ls hP1 hP2 hS hv
      refine lv_iinc (v := nI (t + 7)) (lv' := [(3, .int (nI (t + 7))), (0, .ref b), (1, .ref (a1 0)), (2, .ref (a2 0))]) C.1.1 C.1.2.1 dL_law_1186 hv (k := 3) rfl (by rw [show Int32.ofInt 7 = nI 7 from rfl, nI_add]) (by decide) rfl (fun ls hv => ?_)
      refine lv_goto (tgt := 18) C.1.1 C.1.2.1 dL_law_1189 (by decide) ?_
      exact ih (t + 7) p1 p2 (by omega) (by omega) hJ2 H locs ls hP1 hP2 hS (lv_sub hv [1, 2, 3, 0] rfl)
end LAW
