/-! The reference's table: one step of eliminating. -/
def mm (m : HP) (r k : Nat) : Int := m 9 (18 * r + k)
def mS (m : HP) (r k : Nat) (v : Int) : HP := hs m 9 (18 * r + k) v
theorem mm_s (m : HP) (r k : Nat) (v : Int) : mm (mS m r k v) r k = v := hs_s _ _ _ _
theorem mm_o {m : HP} {r k r' k' : Nat} {v : Int} (hk : k < 18) (hk' : k' < 18) (h : ¬ (r' = r ∧ k' = k)) : mm (mS m r k v) r' k' = mm m r' k' := hs_j (by omega)
theorem mS_a {m : HP} {r k a : Nat} {v : Int} (h : a ≠ 9) : mS m r k v a = m a := hs_ne h
theorem lnM9 : lnM 9 = 324 := rfl
theorem m9_ld {α : Type} {x y : Int} {r c : Nat} (hr : r < 18) (hc : c < 18) (hx : x = 18 * r + c) {m : HP} {k : Int → Option α} : ld (lnM 9) (m 9) x k = k (mm m r c) := by
  rw [ld_t (by omega) (by rw [lnM9]; omega) (by rw [lnM9]; omega), show x.toNat = 18 * r + c by omega]
  rfl
theorem m9_st {α : Type} {x v : Int} {r c : Nat} (hr : r < 18) (hc : c < 18) (hx : x = 18 * r + c) {m : HP} {k : HP → Option α} : sto (lnM 9) m 9 x v k = k (mS m r c v) := by
  rw [sto_t (by omega) (by rw [lnM9]; omega) (by rw [lnM9]; omega), show x.toNat = 18 * r + c by omega]
  rfl
theorem mPv {R C ρ c : Nat} (hR : R ≤ 18) (hC : C ≤ 18) (hc : c < C) {m : HP} (hb : RB (mm m) R C) (K : Int → Int → Int → Int → HP → Option (Int × HP)) : ∀ (d r n : Nat), R - r = d → r ≤ R → d < n → ((∀ j, r ≤ j → j < R → mm m j c = 0) → LX5_eliminate_19 K n R C ρ c r m = jX5_eliminate_47 K R C ρ c R m) ∧ ∀ q : Nat, r ≤ q → q < R → mm m q c ≠ 0 → (∀ j, r ≤ j → j < q → mm m j c = 0) → LX5_eliminate_19 K n R C ρ c r m = jX5_eliminate_47 K R C ρ c q m := by
  intro d
  induction d with
  | zero =>
    intro r n q1 q2 q3
    obtain ⟨n, rfl⟩ : ∃ k, n = k + 1 := ⟨n - 1, by omega⟩
    refine ⟨fun _ => ?_, fun q a b => by omega⟩
    have e : r = R := by omega
    subst e
    show bX5_eliminate_19 K (LX5_eliminate_19 K n) r C ρ c r m = _
    unfold bX5_eliminate_19
    rw [if_neg (by omega)]
  | succ d ih =>
    intro r n q1 q2 q3
    obtain ⟨n, rfl⟩ : ∃ k, n = k + 1 := ⟨n - 1, by omega⟩
    obtain ⟨i1, i2⟩ := ih (r + 1) n (by omega) (by omega) (by omega)
    have st : LX5_eliminate_19 K (n + 1) R C ρ c r m = if mm m r c = 0 then LX5_eliminate_19 K n R C ρ c (r + 1 : Nat) m else jX5_eliminate_47 K R C ρ c r m := by
      show bX5_eliminate_19 K (LX5_eliminate_19 K n) R C ρ c r m = _
      unfold bX5_eliminate_19
      rw [wi_id (z := (r : Int)) (by omega) (by omega), wi_id (z := (R : Int)) (by omega) (by omega), if_pos (by omega), m9_ld (y := 0) (r := r) (c := c) (by omega) (by omega) rfl, rs_wi (hb r c (by omega) hc)]
      rfl
    rw [st]
    by_cases z : mm m r c = 0
    · rw [if_pos z]
      refine ⟨fun h => i1 (fun j a b => h j (by omega) b), fun q a b h1 h2 => i2 q ?_ b h1 (fun j x y => h2 j (by omega) y)⟩
      by_cases y : q = r
      · rw [y] at h1; exact absurd z h1
      · omega
    · rw [if_neg z]
      refine ⟨fun h => absurd (h r (by omega) (by omega)) z, fun q a b h1 h2 => ?_⟩
      by_cases y : q = r
      · rw [y]
      · exact absurd (h2 r (by omega) (by omega)) z
theorem mSw {R C ρ c q : Nat} (hρ : ρ < 18) (hq : q < 18) (hne : q ≠ ρ) (hC : C ≤ 18) (K : Int → Int → Int → Int → HP → Option (Int × HP)) : ∀ (d k n : Nat) (m : HP), C - k = d → k ≤ C → d < n → ∃ m', LX5_eliminate_83 K n R C ρ c q k m = jX5_eliminate_149 K R C ρ c m' ∧ (∀ a, a ≠ 9 → m' a = m a) ∧ (∀ r j, j < C → j < k → mm m' r j = mm m r j) ∧ ∀ r j, k ≤ j → j < C → mm m' r j = mm m (sx ρ q r) j := by
  intro d
  induction d with
  | zero =>
    intro k n m q1 q2 q3
    obtain ⟨n, rfl⟩ : ∃ k, n = k + 1 := ⟨n - 1, by omega⟩
    refine ⟨m, ?_, fun _ _ => rfl, fun _ _ _ _ => rfl, fun r j a b => by omega⟩
    show bX5_eliminate_83 K (LX5_eliminate_83 K n) R C ρ c q k m = _
    unfold bX5_eliminate_83
    rw [wi_id (z := (k : Int)) (by omega) (by omega), wi_id (z := (C : Int)) (by omega) (by omega), if_neg (by omega)]
  | succ d ih =>
    intro k n m q1 q2 q3
    obtain ⟨n, rfl⟩ : ∃ k, n = k + 1 := ⟨n - 1, by omega⟩
    obtain ⟨m', e1, e2, e3, e4⟩ := ih (k + 1) n (mS (mS m q k (mm m ρ k)) ρ k (mm m q k)) (by omega) (by omega) (by omega)
    refine ⟨m', ?_, fun a ha => by rw [e2 a ha, mS_a ha, mS_a ha], fun r j a b => by rw [e3 r j a (by omega), mm_o (by omega) (by omega) (by omega), mm_o (by omega) (by omega) (by omega)], fun r j a b => ?_⟩
    · show bX5_eliminate_83 K (LX5_eliminate_83 K n) R C ρ c q k m = _
      unfold bX5_eliminate_83
      rw [wi_id (z := (k : Int)) (by omega) (by omega), wi_id (z := (C : Int)) (by omega) (by omega), if_pos (by omega), m9_ld (y := 0) (r := q) (c := k) hq (by omega) rfl, m9_ld (y := 0) (r := ρ) (c := k) hρ (by omega) rfl, m9_st (r := q) (c := k) hq (by omega) rfl, m9_st (r := ρ) (c := k) hρ (by omega) rfl]
      exact e1
    · by_cases z : j = k
      · rw [z, e3 r k (by omega) (by omega)]
        by_cases w : r = ρ
        · rw [w, mm_s, sx_p]
        · rw [mm_o (by omega) (by omega) (by omega)]
          by_cases y : r = q
          · rw [y, mm_s, sx_q hne]
          · rw [mm_o (by omega) (by omega) (by omega), sx_o w y]
      · rw [e4 r j (by omega) b, mm_o (by omega) (by omega) (by omega), mm_o (by omega) (by omega) (by omega)]
theorem mE1 {C ρ r : Nat} {c : Int} (hρ : ρ < 18) (hr : r < 18) (hne : r ≠ ρ) (hC : C ≤ 18) {x1 b f : Int} (hf : rs f) (K : Int → Int → Int → Int → Int → Int → HP → Option (Int × HP)) : ∀ (d k n : Nat) (m : HP), C - k = d → k ≤ C → d < n → (∀ j, j < C → rs (mm m ρ j)) → (∀ j, j < C → rs (mm m r j)) → ∃ m', LX5_eliminate_224 K n x1 C ρ c b r f k m = K x1 C ρ c b (r + 1) m' ∧ (∀ a, a ≠ 9 → m' a = m a) ∧ (∀ s j, j < C → (s ≠ r ∨ j < k) → mm m' s j = mm m s j) ∧ (∀ j, j < C → rs (mm m' r j)) ∧ ∀ j, k ≤ j → j < C → ep (mm m' r j) (mm m r j - f * mm m ρ j) := by
  intro d
  induction d with
  | zero =>
    intro k n m q1 q2 q3 hb hb'
    obtain ⟨n, rfl⟩ : ∃ k, n = k + 1 := ⟨n - 1, by omega⟩
    refine ⟨m, ?_, fun _ _ => rfl, fun _ _ _ _ => rfl, hb', fun j a b => by omega⟩
    show bX5_eliminate_224 K (LX5_eliminate_224 K n) x1 C ρ c b r f k m = _
    unfold bX5_eliminate_224
    rw [wi_id (z := (k : Int)) (by omega) (by omega), wi_id (z := (C : Int)) (by omega) (by omega), if_neg (by omega)]
  | succ d ih =>
    intro k n m q1 q2 q3 hb hb'
    obtain ⟨n, rfl⟩ : ∃ k, n = k + 1 := ⟨n - 1, by omega⟩
    by_cases z0 : f = 0
    · refine ⟨m, ?_, fun _ _ => rfl, fun _ _ _ _ => rfl, hb', fun j a b => by rw [z0, Int.zero_mul, Int.sub_zero]; exact ep_r _⟩
      show bX5_eliminate_224 K (LX5_eliminate_224 K n) x1 C ρ c b r f k m = _
      unfold bX5_eliminate_224
      rw [wi_id (z := (k : Int)) (by omega) (by omega), wi_id (z := (C : Int)) (by omega) (by omega), if_pos (by omega), rs_wi hf, if_pos z0]
    · have b1 := hb k (by omega)
      have b2 := hb' k (by omega)
      have b3 := b2.1; have b4 := b2.2
      have b5 := rs_mul hf b1
      obtain ⟨m', e1, e2, e3, e4, e5⟩ := ih (k + 1) n (mS m r k ((mm m r k - f * mm m ρ k) % 10007)) (by omega) (by omega) (by omega) (fun j hj => by
        rw [mm_o (by omega) (by omega) (by omega)]; exact hb j hj) (fun j hj => by
        by_cases z : j = k
        · rw [z, mm_s]; exact rs_mod _
        · rw [mm_o (by omega) (by omega) (by omega)]; exact hb' j hj)
      refine ⟨m', ?_, fun a ha => by rw [e2 a ha, mS_a ha], fun s j a b => by rw [e3 s j a (by omega), mm_o (by omega) (by omega) (by omega)], e4, fun j a b => ?_⟩
      · show bX5_eliminate_224 K (LX5_eliminate_224 K n) x1 C ρ c b r f k m = _
        unfold bX5_eliminate_224
        rw [wi_id (z := (k : Int)) (by omega) (by omega), wi_id (z := (C : Int)) (by omega) (by omega), if_pos (by omega), rs_wi hf, if_neg z0, m9_ld (y := 0) (r := r) (c := k) hr (by omega) rfl, m9_ld (y := 0) (r := ρ) (c := k) hρ (by omega) rfl, rs_wi b1, rs_wi b2, mMod (by omega) (by omega), cl_some, m9_st (r := r) (c := k) hr (by omega) rfl]
        exact e1
      · by_cases z : j = k
        · rw [z, e3 r k (by omega) (by omega), mm_s]
          exact ep_m _
        · have := e5 j (by omega) b
          rwa [mm_o (by omega) (by omega) (by omega), mm_o (by omega) (by omega) (by omega)] at this
theorem mE2 {R C ρ c : Nat} (hR : R ≤ 18) (hC : C ≤ 18) (hρ : ρ < R) (hc : c < C) {b : Int} (hb' : rs b) (K : Int → Int → Int → Int → HP → Option (Int × HP)) : ∀ (d r n : Nat) (m : HP), R - r = d → r ≤ R → ρ < r → d < n → RB (mm m) R C → ∃ m', LX5_eliminate_194 K n R C ρ c b r m = K R C (ρ + 1) (c + 1) m' ∧ (∀ a, a ≠ 9 → m' a = m a) ∧ RB (mm m') R C ∧ (∀ s j, s < R → j < C → (s < r ∨ j < c) → mm m' s j = mm m s j) ∧ ∀ s j, r ≤ s → s < R → c ≤ j → j < C → ep (mm m' s j) (mm m s j - mm m s c * b * mm m ρ j) := by
  intro d
  induction d with
  | zero =>
    intro r n m q1 q2 q3 q4 hb
    obtain ⟨n, rfl⟩ : ∃ k, n = k + 1 := ⟨n - 1, by omega⟩
    refine ⟨m, ?_, fun _ _ => rfl, hb, fun _ _ _ _ _ => rfl, fun s j a b => by omega⟩
    show bX5_eliminate_194 K (LX5_eliminate_194 K n) R C ρ c b r m = _
    unfold bX5_eliminate_194
    rw [wi_id (z := (r : Int)) (by omega) (by omega), wi_id (z := (R : Int)) (by omega) (by omega), if_neg (by omega)]
  | succ d ih =>
    intro r n m q1 q2 q3 q4 hb
    obtain ⟨n, rfl⟩ : ∃ k, n = k + 1 := ⟨n - 1, by omega⟩
    obtain ⟨m1, f1, f2, f3, f4, f5⟩ := mE1 (ρ := ρ) (r := r) (c := c) (x1 := R) (b := b) (by omega) (by omega) (by omega) hC (rs_mod (mm m r c * b)) (LX5_eliminate_194 K n) (C - c) c FU m rfl (by omega) (fu_lt (by omega)) (fun j hj => hb ρ j hρ hj) (fun j hj => hb r j (by omega) hj)
    have hb1 : RB (mm m1) R C := fun s j hs' hj => by
      by_cases y : s = r
      · rw [y]; exact f4 j hj
      · rw [f3 s j hj (by omega)]; exact hb s j hs' hj
    obtain ⟨m', e1, e2, e3, e4, e5⟩ := ih (r + 1) n m1 (by omega) (by omega) (by omega) (by omega) hb1
    refine ⟨m', ?_, fun a ha => (e2 a ha).trans (f2 a ha), e3, fun s j a b h => by rw [e4 s j a b (by omega), f3 s j b (by omega)], fun s j a b' h x => ?_⟩
    · show bX5_eliminate_194 K (LX5_eliminate_194 K n) R C ρ c b r m = _
      unfold bX5_eliminate_194
      rw [wi_id (z := (r : Int)) (by omega) (by omega), wi_id (z := (R : Int)) (by omega) (by omega), if_pos (by omega), m9_ld (y := 0) (r := r) (c := c) (by omega) (by omega) rfl, mTimes (hb r c (by omega) hc) hb', cl_some, f1]
      exact e1
    · by_cases y : s = r
      · rw [y, e4 r j (by omega) x (by omega)]
        exact ep_t (f5 j h x) (ep_b (ep_r _) (ep_u (ep_m _) (ep_r _)))
      · have := e5 s j (by omega) b' h x
        rwa [f3 s j x (by omega), f3 s c hc (by omega), f3 ρ j x (by omega)] at this
theorem mSt_n {R C ρ c : Nat} (hR : R ≤ 18) (hC : C ≤ 18) (hρ : ρ ≤ R) (hc : c < C) {m : HP} (hb : RB (mm m) R C) (hz : ∀ j, ρ ≤ j → j < R → mm m j c = 0) (n : Nat) : LX5_eliminate_10 (n + 1) R C ρ c m = LX5_eliminate_10 n R C ρ (c + 1 : Nat) (hs m 0 13 0) := by
  obtain ⟨i1, i2⟩ := mPv (ρ := ρ) hR hC hc hb (LX5_eliminate_10 n) (R - ρ) ρ FU rfl hρ (fu_lt (by omega))
  show bX5_eliminate_10 (LX5_eliminate_10 n) R C ρ c m = _
  unfold bX5_eliminate_10
  rw [wi_id (z := (c : Int)) (by omega) (by omega), wi_id (z := (C : Int)) (by omega) (by omega), if_pos (by omega), i1 hz]
  unfold jX5_eliminate_47
  rw [if_pos rfl, pf_d]
  rfl
theorem mSt_e {R C ρ : Nat} (m : HP) (n : Nat) : LX5_eliminate_10 (n + 1) R C ρ C m = some ((ρ : Int), m) := by
  show bX5_eliminate_10 (LX5_eliminate_10 n) R C ρ C m = _
  unfold bX5_eliminate_10
  rw [if_neg (by omega)]
theorem mSt_y {R C ρ c q : Nat} (hR : R ≤ 18) (hC : C ≤ 18) (hc : c < C) (hq : ρ ≤ q) (hq' : q < R) {m : HP} (hb : RB (mm m) R C) (h0 : mm m q c ≠ 0) (hz : ∀ j, ρ ≤ j → j < q → mm m j c = 0) (hp : rs (m 0 13)) (n : Nat) : ∃ m', LX5_eliminate_10 (n + 1) R C ρ c m = LX5_eliminate_10 n R C (ρ + 1 : Nat) (c + 1 : Nat) m' ∧ (∀ a, a ≠ 0 → a ≠ 9 → m' a = m a) ∧ (∀ j, j ≠ 13 → m' 0 j = m 0 j) ∧ RB (mm m') R C ∧ rs (m' 0 13) ∧ ep (m' 0 13) ((if q = ρ then m 0 13 else -(m 0 13)) * mm m q c) ∧ (∀ k, k < C → mm m' ρ k = mm m q k) ∧ (∀ r k, r < ρ → k < C → mm m' r k = mm m r k) ∧ (∀ r k, ρ < r → r < R → k < c → mm m' r k = mm m (sx ρ q r) k) ∧ ∀ r k, ρ < r → r < R → c ≤ k → k < C → ep (mm m' r k) (mm m (sx ρ q r) k - mm m (sx ρ q r) c * pw (mm m q c) * mm m q k) := by
  obtain ⟨i1, i2⟩ := mPv (ρ := ρ) hR hC hc hb (LX5_eliminate_10 n) (R - ρ) ρ FU rfl (by omega) (fu_lt (by omega))
  have p1 := hp.1; have p2 := hp.2
  have up : ∃ m1, jX5_eliminate_47 (LX5_eliminate_10 n) R C ρ c q m = jX5_eliminate_149 (LX5_eliminate_10 n) R C ρ c m1 ∧ (∀ a, a ≠ 0 → a ≠ 9 → m1 a = m a) ∧ (∀ j, j ≠ 13 → m1 0 j = m 0 j) ∧ rs (m1 0 13) ∧ ep (m1 0 13) (if q = ρ then m 0 13 else -(m 0 13)) ∧ ∀ r k, k < C → mm m1 r k = mm m (sx ρ q r) k := by
    unfold jX5_eliminate_47
    rw [wi_id (z := (q : Int)) (by omega) (by omega), wi_id (z := (ρ : Int)) (by omega) (by omega), wi_id (z := (R : Int)) (by omega) (by omega), if_neg (by omega)]
    by_cases z : q = ρ
    · rw [if_pos (by omega)]
      refine ⟨m, rfl, fun _ _ _ => rfl, fun _ _ => rfl, hp, by rw [if_pos z]; exact ep_r _, fun r k _ => ?_⟩
      rw [z, sx_e]
    · rw [if_neg (by omega), wi_id (z := -(m 0 13)) (by omega) (by omega), mMod (by omega) (by omega), cl_some, pf_d]
      obtain ⟨m1, e1, e2, e3, e4⟩ := mSw (R := R) (c := c) (q := q) (ρ := ρ) (by omega) (by omega) z hC (LX5_eliminate_10 n) C 0 FU (hs m 0 13 (-(m 0 13) % 10007)) (by omega) (by omega) (fu_lt (by omega))
      refine ⟨m1, e1, fun a h1 h2 => by rw [e2 a h2, hs_ne h1], fun j hj => by rw [e2 0 (by decide), hs_j hj], ?_, ?_, fun r k hk => ?_⟩
      · rw [e2 0 (by decide), hs_s]; exact rs_mod _
      · rw [e2 0 (by decide), hs_s, if_neg z]; exact ep_m _
      · rw [e4 r k (by omega) hk]
        show hs m 0 13 _ 9 _ = m 9 _
        rw [hs_k (by decide)]
  obtain ⟨m1, a1, a2, a2', a3, a4, a5⟩ := up
  have hv : mm m1 ρ c = mm m q c := by rw [a5 ρ c hc, sx_p]
  have b1 := hb q c hq' hc
  have hb1 : RB (mm m1) R C := fun r k hr hk => by
    rw [a5 r k hk]
    exact hb _ k (sx_lt (by omega) hq' hr) hk
  have mm2 : ∀ (v : Int) (r k : Nat), mm (hs m1 0 13 v) r k = mm m1 r k := fun v r k => hs_k (by decide)
  obtain ⟨m2, d1, d2, d3, d4, d5⟩ := mE2 (ρ := ρ) (c := c) hR hC (by omega) hc (pw_rs (mm m q c)) (LX5_eliminate_10 n) (R - (ρ + 1)) (ρ + 1) FU (hs m1 0 13 (m1 0 13 * mm m q c % 10007)) rfl (by omega) (by omega) (fu_lt (by omega)) (fun r k hr hk => by rw [mm2]; exact hb1 r k hr hk)
  have k13 : m2 0 13 = m1 0 13 * mm m q c % 10007 := by rw [d2 0 (by decide), hs_s]
  refine ⟨m2, ?_, fun a h1 h2 => by rw [d2 a h2, hs_ne h1, a2 a h1 h2], fun j hj => by rw [d2 0 (by decide), hs_j hj, a2' j hj], d3, by rw [k13]; exact rs_mod _, by rw [k13]; exact ep_t (ep_m _) (ep_u a4 (ep_r _)), fun k hk => ?_, fun r k hr hk => ?_, fun r k h1 h2 hk => ?_, fun r k h1 h2 h3 h4 => ?_⟩
  · show bX5_eliminate_10 (LX5_eliminate_10 n) R C ρ c m = _
    unfold bX5_eliminate_10
    rw [wi_id (z := (c : Int)) (by omega) (by omega), wi_id (z := (C : Int)) (by omega) (by omega), if_pos (by omega), i2 q hq hq' h0 hz, a1]
    unfold jX5_eliminate_149
    rw [m9_ld (y := 0) (r := ρ) (c := c) (by omega) (by omega) rfl, hv, mTimes a3 b1, cl_some, pf_d, m9_ld (y := 0) (r := ρ) (c := c) (by omega) (by omega) rfl, mm2, hv, mTurned b1, cl_some, lt_d]
    exact d1
  · rw [d4 ρ k (by omega) hk (by omega), mm2, a5 ρ k hk, sx_p]
  · rw [d4 r k (by omega) hk (by omega), mm2, a5 r k hk, sx_o (by omega) (by omega)]
  · rw [d4 r k h2 (by omega) (by omega), mm2, a5 r k (by omega)]
  · have := d5 r k (by omega) h2 h3 h4
    rw [mm2, mm2, mm2, a5 r k h4, a5 r c hc, a5 ρ k h4, sx_p] at this
    exact this
