/-! The class's grid: one step of clearing. -/
def cm (g : HP) (r k : Nat) : Int := g 28 (16 * r + k)
def sc (g : HP) (r k : Nat) (v : Int) : HP := hs g 28 (16 * r + k) v
theorem cm_s (g : HP) (r k : Nat) (v : Int) : cm (sc g r k v) r k = v := hs_s _ _ _ _
theorem cm_o {g : HP} {r k r' k' : Nat} {v : Int} (hk : k < 16) (hk' : k' < 16) (h : ¬ (r' = r ∧ k' = k)) : cm (sc g r k v) r' k' = cm g r' k' := hs_j (by omega)
theorem sc_a {g : HP} {r k a : Nat} {v : Int} (h : a ≠ 28) : sc g r k v a = g a := hs_ne h
theorem lnC28 : lnC 28 = 256 := rfl
theorem pAt {r k : Nat} (hr : r < 16) (hk : k < 16) (g : HP) : fX0_at r k g = some (cm g r k, g) := by
  unfold fX0_at cm
  rw [ld_t (by omega) (by rw [lnC28]; omega) (by rw [lnC28]; omega), show ((r : Int) * 16 + k).toNat = 16 * r + k by omega]
theorem pSe {r k : Nat} (hr : r < 16) (hk : k < 16) (v : Int) (g : HP) : fX0_set r k v g = some (0, sc g r k v) := by
  unfold fX0_set sc
  rw [sto_t (by omega) (by rw [lnC28]; omega) (by rw [lnC28]; omega), show ((r : Int) * 16 + k).toNat = 16 * r + k by omega]
def RB (f : Nat → Nat → Int) (R C : Nat) : Prop := ∀ r k, r < R → k < C → rs (f r k)
def sx (p q r : Nat) : Nat := if r = p then q else if r = q then p else r
theorem sx_p (p q : Nat) : sx p q p = q := by unfold sx; rw [if_pos rfl]
theorem sx_q {p q : Nat} (h : q ≠ p) : sx p q q = p := by unfold sx; rw [if_neg h, if_pos rfl]
theorem sx_o {p q r : Nat} (h : r ≠ p) (h' : r ≠ q) : sx p q r = r := by unfold sx; rw [if_neg h, if_neg h']
theorem sx_e (p r : Nat) : sx p p r = r := by
  unfold sx
  by_cases h : r = p
  · rw [if_pos h, h]
  · rw [if_neg h, if_neg h]
theorem sx_lt {p q r R : Nat} (hp : p < R) (hq : q < R) (hr : r < R) : sx p q r < R := by
  unfold sx
  split
  · exact hq
  · split
    · exact hp
    · exact hr
theorem pRW {R C : Nat} (hR : R ≤ 16) (hC : C ≤ 16) {c : Nat} (hc : c < C) {g : HP} (hb : RB (cm g) R C) : ∀ (d r n : Nat), R - r = d → r ≤ R → d < n → ((∀ j, r ≤ j → j < R → cm g j c = 0) → LX0_rowWith_3 n c R r g = some (-1, g)) ∧ ∀ q, r ≤ q → q < R → cm g q c ≠ 0 → (∀ j, r ≤ j → j < q → cm g j c = 0) → LX0_rowWith_3 n c R r g = some ((q : Int), g) := by
  intro d
  induction d with
  | zero =>
    intro r n q1 q2 q3
    obtain ⟨n, rfl⟩ : ∃ k, n = k + 1 := ⟨n - 1, by omega⟩
    refine ⟨fun _ => ?_, fun q a b => by omega⟩
    show bX0_rowWith_3 (LX0_rowWith_3 n) c R r g = _
    unfold bX0_rowWith_3
    rw [wi_id (z := (r : Int)) (by omega) (by omega), wi_id (z := (R : Int)) (by omega) (by omega), if_neg (by omega)]
  | succ d ih =>
    intro r n q1 q2 q3
    obtain ⟨n, rfl⟩ : ∃ k, n = k + 1 := ⟨n - 1, by omega⟩
    obtain ⟨i1, i2⟩ := ih (r + 1) n (by omega) (by omega) (by omega)
    have st : LX0_rowWith_3 (n + 1) c R r g = if cm g r c = 0 then LX0_rowWith_3 n c R (r + 1 : Nat) g else some ((r : Int), g) := by
      show bX0_rowWith_3 (LX0_rowWith_3 n) c R r g = _
      unfold bX0_rowWith_3
      rw [wi_id (z := (r : Int)) (by omega) (by omega), wi_id (z := (R : Int)) (by omega) (by omega), if_pos (by omega), pAt (by omega) (by omega), cl_some, rs_wi (hb r c (by omega) hc)]
      rfl
    rw [st]
    by_cases z : cm g r c = 0
    · rw [if_pos z]
      refine ⟨fun h => i1 (fun j a b => h j (by omega) b), fun q a b h1 h2 => i2 q ?_ b h1 (fun j x y => h2 j (by omega) y)⟩
      by_cases y : q = r
      · rw [y] at h1; exact absurd z h1
      · omega
    · rw [if_neg z]
      refine ⟨fun h => absurd (h r (by omega) (by omega)) z, fun q a b h1 h2 => ?_⟩
      by_cases y : q = r
      · rw [y]
      · exact absurd (h2 r (by omega) (by omega)) z
theorem pBU {q p : Nat} (hq : q < 16) (hp : p < 16) (hne : q ≠ p) {C : Nat} (hC : C ≤ 16) : ∀ (d k n : Nat) (g : HP), C - k = d → k ≤ C → d < n → ∃ g', LX0_bringUp_21 n q p C k g = some (0, g') ∧ (∀ a, a ≠ 28 → g' a = g a) ∧ (∀ r j, j < C → j < k → cm g' r j = cm g r j) ∧ ∀ r j, k ≤ j → j < C → cm g' r j = cm g (sx p q r) j := by
  intro d
  induction d with
  | zero =>
    intro k n g q1 q2 q3
    obtain ⟨n, rfl⟩ : ∃ k, n = k + 1 := ⟨n - 1, by omega⟩
    refine ⟨g, ?_, fun _ _ => rfl, fun _ _ _ _ => rfl, fun r j a b => by omega⟩
    show bX0_bringUp_21 (LX0_bringUp_21 n) q p C k g = _
    unfold bX0_bringUp_21
    rw [wi_id (z := (k : Int)) (by omega) (by omega), wi_id (z := (C : Int)) (by omega) (by omega), if_neg (by omega)]
  | succ d ih =>
    intro k n g q1 q2 q3
    obtain ⟨n, rfl⟩ : ∃ k, n = k + 1 := ⟨n - 1, by omega⟩
    obtain ⟨g', e1, e2, e3, e4⟩ := ih (k + 1) n (sc (sc g p k (cm g q k)) q k (cm g p k)) (by omega) (by omega) (by omega)
    refine ⟨g', ?_, fun a ha => by rw [e2 a ha, sc_a ha, sc_a ha], fun r j a b => by rw [e3 r j a (by omega), cm_o (by omega) (by omega) (by omega), cm_o (by omega) (by omega) (by omega)], fun r j a b => ?_⟩
    · show bX0_bringUp_21 (LX0_bringUp_21 n) q p C k g = _
      unfold bX0_bringUp_21
      rw [wi_id (z := (k : Int)) (by omega) (by omega), wi_id (z := (C : Int)) (by omega) (by omega), if_pos (by omega), pAt hp (by omega), cl_some, pAt hq (by omega), cl_some, pSe hp (by omega), cl_some, pSe hq (by omega), cl_some]
      exact e1
    · by_cases z : j = k
      · rw [z, e3 r k (by omega) (by omega)]
        by_cases y : r = q
        · rw [y, cm_s, sx_q hne]
        · rw [cm_o (by omega) (by omega) (by omega)]
          by_cases w : r = p
          · rw [w, cm_s, sx_p]
          · rw [cm_o (by omega) (by omega) (by omega), sx_o w y]
      · rw [e4 r j (by omega) b, cm_o (by omega) (by omega) (by omega), cm_o (by omega) (by omega) (by omega)]
theorem pDR {p : Nat} (hp : p < 16) {C : Nat} (hC : C ≤ 16) {f : Int} (hf : rs f) : ∀ (d k n : Nat) (g : HP), C - k = d → k ≤ C → d < n → (∀ j, j < C → rs (cm g p j)) → ∃ g', LX0_divideRow_33 n p C f k g = some (0, g') ∧ (∀ a, a ≠ 28 → g' a = g a) ∧ (∀ r j, j < C → (r ≠ p ∨ j < k) → cm g' r j = cm g r j) ∧ ∀ j, k ≤ j → j < C → cm g' p j = cm g p j * f % 10007 := by
  intro d
  induction d with
  | zero =>
    intro k n g q1 q2 q3 hb
    obtain ⟨n, rfl⟩ : ∃ k, n = k + 1 := ⟨n - 1, by omega⟩
    refine ⟨g, ?_, fun _ _ => rfl, fun _ _ _ _ => rfl, fun j a b => by omega⟩
    show bX0_divideRow_33 (LX0_divideRow_33 n) p C f k g = _
    unfold bX0_divideRow_33
    rw [wi_id (z := (k : Int)) (by omega) (by omega), wi_id (z := (C : Int)) (by omega) (by omega), if_neg (by omega)]
  | succ d ih =>
    intro k n g q1 q2 q3 hb
    obtain ⟨n, rfl⟩ : ∃ k, n = k + 1 := ⟨n - 1, by omega⟩
    have b1 := rs_mul (hb k (by omega)) hf
    obtain ⟨g', e1, e2, e3, e4⟩ := ih (k + 1) n (sc g p k (cm g p k * f % 10007)) (by omega) (by omega) (by omega) (fun j hj => by
      by_cases z : j = k
      · rw [z, cm_s]; exact rs_mod _
      · rw [cm_o (by omega) (by omega) (by omega)]; exact hb j hj)
    refine ⟨g', ?_, fun a ha => by rw [e2 a ha, sc_a ha], fun r j a b => by rw [e3 r j a (by omega), cm_o (by omega) (by omega) (by omega)], fun j a b => ?_⟩
    · show bX0_divideRow_33 (LX0_divideRow_33 n) p C f k g = _
      unfold bX0_divideRow_33
      rw [wi_id (z := (k : Int)) (by omega) (by omega), wi_id (z := (C : Int)) (by omega) (by omega), if_pos (by omega), pAt hp (by omega), cl_some, rm_e b1.1 (by omega), pSe hp (by omega), cl_some]
      exact e1
    · by_cases z : j = k
      · rw [z, e3 p k (by omega) (by omega), cm_s]
      · rw [e4 j (by omega) b, cm_o (by omega) (by omega) (by omega)]
theorem pCP1 {p r : Nat} (hp : p < 16) (hr : r < 16) (hne : r ≠ p) {C : Nat} (hC : C ≤ 16) {f x1 x3 : Int} (hf : 0 ≤ f ∧ f ≤ 10007) (K : Int → Int → Int → Int → Int → HP → Option (Int × HP)) : ∀ (d k n : Nat) (g : HP), C - k = d → k ≤ C → d < n → (∀ j, j < C → rs (cm g p j)) → (∀ j, j < C → rs (cm g r j)) → ∃ g', LX0_clearPlace_39 K n x1 p x3 C r f k g = K x1 p x3 C (r + 1) g' ∧ (∀ a, a ≠ 28 → g' a = g a) ∧ (∀ s j, j < C → (s ≠ r ∨ j < k) → cm g' s j = cm g s j) ∧ ∀ j, k ≤ j → j < C → cm g' r j = (cm g r j + f * cm g p j) % 10007 := by
  intro d
  induction d with
  | zero =>
    intro k n g q1 q2 q3 hb hb'
    obtain ⟨n, rfl⟩ : ∃ k, n = k + 1 := ⟨n - 1, by omega⟩
    refine ⟨g, ?_, fun _ _ => rfl, fun _ _ _ _ => rfl, fun j a b => by omega⟩
    show bX0_clearPlace_39 K (LX0_clearPlace_39 K n) x1 p x3 C r f k g = _
    unfold bX0_clearPlace_39
    rw [wi_id (z := (k : Int)) (by omega) (by omega), wi_id (z := (C : Int)) (by omega) (by omega), if_neg (by omega)]
  | succ d ih =>
    intro k n g q1 q2 q3 hb hb'
    obtain ⟨n, rfl⟩ : ∃ k, n = k + 1 := ⟨n - 1, by omega⟩
    have b1 := hb k (by omega)
    have b2 := hb' k (by omega)
    have b3 := b2.1; have b4 := b2.2
    have b5 : 0 ≤ f * cm g p k ∧ f * cm g p k ≤ 10007 * 10007 := ⟨Int.mul_nonneg hf.1 b1.1, Int.mul_le_mul hf.2 (by have := b1.2; omega) b1.1 (by decide)⟩
    obtain ⟨g', e1, e2, e3, e4⟩ := ih (k + 1) n (sc g r k ((cm g r k + f * cm g p k) % 10007)) (by omega) (by omega) (by omega) (fun j hj => by
      rw [cm_o (by omega) (by omega) (by omega)]; exact hb j hj) (fun j hj => by
      by_cases z : j = k
      · rw [z, cm_s]; exact rs_mod _
      · rw [cm_o (by omega) (by omega) (by omega)]; exact hb' j hj)
    refine ⟨g', ?_, fun a ha => by rw [e2 a ha, sc_a ha], fun s j a b => by rw [e3 s j a (by omega), cm_o (by omega) (by omega) (by omega)], fun j a b => ?_⟩
    · show bX0_clearPlace_39 K (LX0_clearPlace_39 K n) x1 p x3 C r f k g = _
      unfold bX0_clearPlace_39
      rw [wi_id (z := (k : Int)) (by omega) (by omega), wi_id (z := (C : Int)) (by omega) (by omega), if_pos (by omega), pAt hr (by omega), cl_some, pAt hp (by omega), cl_some, rm_e (by omega) (by omega), pSe hr (by omega), cl_some]
      exact e1
    · by_cases z : j = k
      · rw [z, e3 r k (by omega) (by omega), cm_s]
      · rw [e4 j (by omega) b, cm_o (by omega) (by omega) (by omega), cm_o (by omega) (by omega) (by omega)]
theorem pCP {R C p c : Nat} (hR : R ≤ 16) (hC : C ≤ 16) (hp : p < R) (hc : c < C) : ∀ (d r n : Nat) (g : HP), R - r = d → r ≤ R → d < n → RB (cm g) R C → ∃ g', LX0_clearPlace_3 n c p R C r g = some (0, g') ∧ (∀ a, a ≠ 28 → g' a = g a) ∧ RB (cm g') R C ∧ (∀ s j, s < R → j < C → (s < r ∨ s = p) → cm g' s j = cm g s j) ∧ ∀ s j, r ≤ s → s < R → s ≠ p → j < C → ep (cm g' s j) (cm g s j - cm g s c * cm g p j) := by
  intro d
  induction d with
  | zero =>
    intro r n g q1 q2 q3 hb
    obtain ⟨n, rfl⟩ : ∃ k, n = k + 1 := ⟨n - 1, by omega⟩
    refine ⟨g, ?_, fun _ _ => rfl, hb, fun _ _ _ _ _ => rfl, fun s j a b => by omega⟩
    show bX0_clearPlace_3 (LX0_clearPlace_3 n) c p R C r g = _
    unfold bX0_clearPlace_3
    rw [wi_id (z := (r : Int)) (by omega) (by omega), wi_id (z := (R : Int)) (by omega) (by omega), if_neg (by omega)]
  | succ d ih =>
    intro r n g q1 q2 q3 hb
    obtain ⟨n, rfl⟩ : ∃ k, n = k + 1 := ⟨n - 1, by omega⟩
    have b1 := hb r c (by omega) hc
    have b2 := b1.1; have b3 := b1.2
    have st : LX0_clearPlace_3 (n + 1) c p R C r g = if r = p ∨ cm g r c = 0 then LX0_clearPlace_3 n c p R C (r + 1 : Nat) g else LX0_clearPlace_39 (LX0_clearPlace_3 n) FU c p R C r (10007 - cm g r c) 0 g := by
      show bX0_clearPlace_3 (LX0_clearPlace_3 n) c p R C r g = _
      unfold bX0_clearPlace_3
      rw [wi_id (z := (r : Int)) (by omega) (by omega), wi_id (z := (R : Int)) (by omega) (by omega), if_pos (by omega), pAt (by omega) (by omega), cl_some, lt_d, wi_id (z := (p : Int)) (by omega) (by omega), wi_id (z := 10007 - cm g r c) (by omega) (by omega), show wi 10007 = 10007 from rfl]
      by_cases z : r = p
      · rw [if_pos (by omega), if_pos (Or.inl z)]
        rfl
      · rw [if_neg (by omega)]
        by_cases y : cm g r c = 0
        · rw [if_pos (by omega), if_pos (Or.inr y)]
          rfl
        · rw [if_neg (by omega), if_neg (by omega)]
    rw [st]
    by_cases z : r = p ∨ cm g r c = 0
    · rw [if_pos z]
      obtain ⟨g', e1, e2, e3, e4, e5⟩ := ih (r + 1) n g (by omega) (by omega) (by omega) hb
      refine ⟨g', e1, e2, e3, fun s j a b h => e4 s j a b (by omega), fun s j a b h x => ?_⟩
      by_cases y : s = r
      · rw [y] at h ⊢
        have z2 : cm g r c = 0 := by omega
        rw [e4 r j (by omega) x (by omega), z2, Int.zero_mul, Int.sub_zero]
        exact ep_r _
      · exact e5 s j (by omega) b h x
    · rw [if_neg z]
      obtain ⟨g1, f1, f2, f3, f4⟩ := pCP1 (p := p) (r := r) (by omega) (by omega) (by omega) hC (f := 10007 - cm g r c) (x1 := c) (x3 := R) (by omega) (LX0_clearPlace_3 n) C 0 FU g (by omega) (by omega) (fu_lt (by omega)) (fun j hj => hb p j hp hj) (fun j hj => hb r j (by omega) hj)
      have hb1 : RB (cm g1) R C := fun s j hs' hj => by
        by_cases y : s = r
        · rw [y, f4 j (by omega) hj]; exact rs_mod _
        · rw [f3 s j hj (by omega)]; exact hb s j hs' hj
      obtain ⟨g', e1, e2, e3, e4, e5⟩ := ih (r + 1) n g1 (by omega) (by omega) (by omega) hb1
      refine ⟨g', ?_, fun a ha => (e2 a ha).trans (f2 a ha), e3, fun s j a b h => by rw [e4 s j a b (by omega), f3 s j b (by omega)], fun s j a b h x => ?_⟩
      · rw [show ((0 : Nat) : Int) = 0 from rfl] at f1
        rw [f1]
        exact e1
      · by_cases y : s = r
        · rw [y, e4 r j (by omega) x (by omega), f4 j (by omega) x]
          refine ep_t (ep_m _) ?_
          rw [show cm g r j - cm g r c * cm g p j = cm g r j + -cm g r c * cm g p j by rw [Int.neg_mul]; omega]
          exact ep_a (ep_r _) (ep_u (ep_P _) (ep_r _))
        · have := e5 s j (by omega) b h x
          rw [f3 s j x (by omega), f3 s c hc (by omega), f3 p j x (by omega)] at this
          exact this
/-- one step of clearing, where there is no row for it -/
theorem pSt_n {R C Cl ρ c : Nat} (hR : R ≤ 16) (hC : C ≤ 16) (hCl : Cl ≤ C) (hρ : ρ < R) (hc : c < Cl) {g : HP} (hb : RB (cm g) R C) (hz : ∀ j, ρ ≤ j → j < R → cm g j c = 0) (n : Nat) : LX0_reduce_11 (n + 1) R C Cl ρ c g = LX0_reduce_11 n R C Cl ρ (c + 1 : Nat) g := by
  obtain ⟨i1, i2⟩ := pRW hR hC (c := c) (by omega) hb (R - ρ) ρ FU rfl (by omega) (fu_lt (by omega))
  show bX0_reduce_11 (LX0_reduce_11 n) R C Cl ρ c g = _
  unfold bX0_reduce_11 fX0_rowWith
  rw [wi_id (z := (c : Int)) (by omega) (by omega), wi_id (z := (Cl : Int)) (by omega) (by omega), if_pos (by omega), wi_id (z := (ρ : Int)) (by omega) (by omega), wi_id (z := (R : Int)) (by omega) (by omega), if_pos (by omega), i1 hz, cl_some, if_pos rfl]
  rfl
/-- one step of clearing -/
theorem pSt_y {R C Cl ρ c q : Nat} (hR : R ≤ 16) (hC : C ≤ 16) (hCl : Cl ≤ C) (hc : c < Cl) (hq : ρ ≤ q) (hq' : q < R) {g : HP} (hb : RB (cm g) R C) (h0 : cm g q c ≠ 0) (hz : ∀ j, ρ ≤ j → j < q → cm g j c = 0) (hp : rs (g 27 1)) (n : Nat) : ∃ g', LX0_reduce_11 (n + 1) R C Cl ρ c g = LX0_reduce_11 n R C Cl (ρ + 1 : Nat) (c + 1 : Nat) g' ∧ (∀ a, a ≠ 27 → a ≠ 28 → g' a = g a) ∧ RB (cm g') R C ∧ rs (g' 27 1) ∧ ep (g' 27 1) ((if q = ρ then g 27 1 else -(g 27 1)) * cm g q c) ∧ (∀ k, k < C → cm g' ρ k = cm g q k * pw (cm g q c) % 10007) ∧ ∀ r k, r < R → r ≠ ρ → k < C → ep (cm g' r k) (cm g (sx ρ q r) k - cm g (sx ρ q r) c * cm g' ρ k) := by
  obtain ⟨i1, i2⟩ := pRW hR hC (c := c) (by omega) hb (R - ρ) ρ FU rfl (by omega) (fu_lt (by omega))
  have p1 := hp.1; have p2 := hp.2
  -- rows are brought up
  have up : ∃ g1, fX0_bringUp q ρ C g = some (0, g1) ∧ (∀ a, a ≠ 27 → a ≠ 28 → g1 a = g a) ∧ (0 ≤ g1 27 1 ∧ g1 27 1 ≤ 10007) ∧ ep (g1 27 1) (if q = ρ then g 27 1 else -(g 27 1)) ∧ ∀ r k, k < C → cm g1 r k = cm g (sx ρ q r) k := by
    unfold fX0_bringUp
    rw [wi_id (z := (q : Int)) (by omega) (by omega), wi_id (z := (ρ : Int)) (by omega) (by omega)]
    by_cases z : q = ρ
    · rw [if_pos (by omega)]
      refine ⟨g, rfl, fun _ _ _ => rfl, by omega, by rw [if_pos z]; exact ep_r _, fun r k _ => ?_⟩
      rw [z, sx_e]
    · rw [if_neg (by omega), pf_d]
      obtain ⟨g1, e1, e2, e3, e4⟩ := pBU (q := q) (p := ρ) (by omega) (by omega) z hC C 0 FU (hs g 27 1 (10007 - g 27 1)) (by omega) (by omega) (fu_lt (by omega))
      refine ⟨g1, e1, fun a h1 h2 => by rw [e2 a h2, hs_ne h1], ?_, ?_, fun r k hk => ?_⟩
      · rw [e2 27 (by decide), hs_s]; omega
      · rw [e2 27 (by decide), hs_s, if_neg z]; exact ep_P _
      · rw [e4 r k (by omega) hk]
        show hs g 27 1 _ 28 _ = g 28 _
        rw [hs_k (by decide)]
  obtain ⟨g1, a1, a2, a3, a4, a5⟩ := up
  have hv : cm g1 ρ c = cm g q c := by rw [a5 ρ c (by omega), sx_p]
  have b1 := hb q c hq' (by omega)
  have b2 := b1.1; have b3 := b1.2
  have hb1 : RB (cm g1) R C := fun r k hr hk => by
    rw [a5 r k hk]
    exact hb _ k (sx_lt (by omega) hq' hr) hk
  have b5 : 0 ≤ g1 27 1 * cm g q c ∧ g1 27 1 * cm g q c ≤ 10007 * 10007 := ⟨Int.mul_nonneg a3.1 b2, Int.mul_le_mul a3.2 (by omega) b2 (by decide)⟩
  have cm2 : ∀ (v : Int) (r k : Nat), cm (hs g1 27 1 v) r k = cm g1 r k := fun v r k => hs_k (by decide)
  obtain ⟨g2, d1, d2, d3, d4⟩ := pDR (p := ρ) (by omega) hC (pw_rs (cm g q c)) C 0 FU (hs g1 27 1 (g1 27 1 * cm g q c % 10007)) (by omega) (by omega) (fu_lt (by omega)) (fun j hj => by rw [cm2]; exact hb1 ρ j (by omega) hj)
  have hb2 : RB (cm g2) R C := fun r k hr hk => by
    by_cases z : r = ρ
    · rw [z, d4 k (by omega) hk]; exact rs_mod _
    · rw [d3 r k hk (Or.inl z), cm2]; exact hb1 r k hr hk
  obtain ⟨g3, f1, f2, f3, f4, f5⟩ := pCP hR hC (p := ρ) (c := c) (by omega) (by omega) R 0 FU g2 (by omega) (by omega) (fu_lt (by omega)) hb2
  have k27 : g3 27 1 = g1 27 1 * cm g q c % 10007 := by rw [f2 27 (by decide), d2 27 (by decide), hs_s]
  have kρ : ∀ k, k < C → cm g3 ρ k = cm g q k * pw (cm g q c) % 10007 := fun k hk => by
    rw [f4 ρ k (by omega) hk (Or.inr rfl), d4 k (by omega) hk, cm2, a5 ρ k hk, sx_p]
  refine ⟨g3, ?_, fun a h1 h2 => by rw [f2 a h2, d2 a h2, hs_ne h1, a2 a h1 h2], f3, by rw [k27]; exact rs_mod _, by rw [k27]; exact ep_t (ep_m _) (ep_u a4 (ep_r _)), kρ, fun r k hr hne hk => ?_⟩
  · show bX0_reduce_11 (LX0_reduce_11 n) R C Cl ρ c g = _
    unfold bX0_reduce_11 fX0_rowWith
    rw [wi_id (z := (c : Int)) (by omega) (by omega), wi_id (z := (Cl : Int)) (by omega) (by omega), if_pos (by omega), wi_id (z := (ρ : Int)) (by omega) (by omega), wi_id (z := (R : Int)) (by omega) (by omega), if_pos (by omega), i2 q hq hq' h0 hz, cl_some, wi_id (z := (q : Int)) (by omega) (by omega), wi_m1, if_neg (by omega), a1, cl_some]
    unfold fX0_divideRow fX0_clearPlace
    rw [show ((0 : Nat) : Int) = 0 from rfl] at d1 f1
    rw [pAt (by omega) (by omega), cl_some, pf_d, hv, pInv b1, cl_some, rm_e b5.1 (by omega), d1, cl_some, f1, cl_some]
    rfl
  · have := f5 r k (by omega) hr hne hk
    rw [d3 r k hk (Or.inl hne), d3 r c (by omega) (Or.inl hne), cm2, cm2, a5 r k hk, a5 r c (by omega)] at this
    rw [f4 ρ k (by omega) hk (Or.inr rfl)]
    exact this
theorem pSt_e {R C Cl ρ c : Nat} (hR : R ≤ 16) (hCl : Cl ≤ 16) (hc' : c ≤ Cl) (hρ' : ρ ≤ R) (h : ρ = R ∨ c = Cl) (g : HP) (n : Nat) : LX0_reduce_11 (n + 1) R C Cl ρ c g = some ((ρ : Int), g) := by
  show bX0_reduce_11 (LX0_reduce_11 n) R C Cl ρ c g = _
  unfold bX0_reduce_11
  rw [wi_id (z := (c : Int)) (by omega) (by omega), wi_id (z := (Cl : Int)) (by omega) (by omega), wi_id (z := (ρ : Int)) (by omega) (by omega), wi_id (z := (R : Int)) (by omega) (by omega)]
  by_cases z : c = Cl
  · rw [if_neg (by omega)]
  · rw [if_pos (by omega), if_neg (by omega)]
