/-! Letters mixed by a table. -/
theorem pol_lin : ∀ (n : Nat) (r q : Nat → Int) (a b v : Int), pol (fun i => a * r i + b * q i) n v = a * pol r n v + b * pol q n v
  | 0, _, _, _, _, _ => rfl
  | n + 1, r, q, a, b, v => by
    show a * r 0 + b * q 0 + v * pol (fun i => a * r (i + 1) + b * q (i + 1)) n v = a * (r 0 + v * pol (fun i => r (i + 1)) n v) + b * (q 0 + v * pol (fun i => q (i + 1)) n v)
    rw [pol_lin n (fun i => r (i + 1)) (fun i => q (i + 1)) a b v, Int.mul_add, Int.mul_add, Int.mul_add, Int.mul_left_comm v a, Int.mul_left_comm v b]; omega
theorem pol_z : ∀ (n : Nat) (v : Int), pol (fun _ => 0) n v = 0
  | 0, _ => rfl
  | n + 1, v => by
    show 0 + v * pol (fun _ => 0) n v = 0
    rw [pol_z n v, Int.mul_zero]; rfl
theorem pol_line {D : Nat} {r r' : Nat → Int} {a b : Int} (h0 : ep (r' 0) (a * r 0)) (h1 : ∀ i, i ≤ D → ep (r' (i + 1)) (a * r (i + 1) + b * r i)) (hz : ep (r (D + 1)) 0) (v : Int) : ep (pol r' (D + 1) v) (pol r D v * (a + b * v)) := by
  have e1 : ep (pol r' (D + 1) v) (a * r 0 + v * pol (fun i => a * r (i + 1) + b * r i) D v) := ep_a h0 (ep_u (ep_r v) (pol_cg D h1 (ep_r v)))
  rw [pol_lin D (fun i => r (i + 1)) r a b v] at e1
  have e2 : a * r 0 + v * (a * pol (fun i => r (i + 1)) D v + b * pol r D v) = a * pol r (D + 1) v + b * v * pol r D v := by
    show _ = a * (r 0 + v * pol (fun i => r (i + 1)) D v) + b * v * pol r D v
    rw [Int.mul_add, Int.mul_add, Int.mul_left_comm v a, Int.mul_left_comm v b, Int.mul_assoc b v]; omega
  rw [e2] at e1
  have e3 : ep (pol r (D + 1) v) (pol r D v) := by
    rw [pol_hi]
    have := ep_a (ep_r (pol r D v)) (ep_0n (v ^ (D + 1)) hz)
    rwa [Int.add_zero] at this
  refine ep_t e1 ?_
  rw [Int.mul_add, Int.mul_comm (pol r D v) a, Int.mul_comm (pol r D v) (b * v)]
  exact ep_a (ep_u (ep_r a) e3) (ep_r _)
theorem pLineL {c : Nat} (hc : 22 ≤ c ∧ c < 27) {A B : Int} (hA : rs A) (hB : rs B) : ∀ (i n : Nat) (g : HP), i ≤ 8 → i < n → R9 g c → ∃ g', LX2_timesLine_5 n c A B i g = some (0, g') ∧ (∀ k, k ≠ c → g' k = g k) ∧ R9 g' c ∧ g' c 0 = A * g c 0 % 10007 ∧ (∀ k, k < i → g' c (k + 1) = (A * g c (k + 1) + B * g c k) % 10007) ∧ ∀ k, i < k → g' c k = g c k := by
  intro i
  induction i with
  | zero =>
    intro n g q1 q3 hr
    obtain ⟨n, rfl⟩ : ∃ k, n = k + 1 := ⟨n - 1, by omega⟩
    have b1 := rs_mul hA (hr 0 (by omega))
    refine ⟨hs g c 0 (A * g c 0 % 10007), ?_, fun k hk => hs_ne hk, R9_hs hr (rs_mod _) c rfl, hs_s _ _ _ _, fun k hk => by omega, fun k hk => hs_j (by omega)⟩
    show bX2_timesLine_5 (LX2_timesLine_5 n) c A B (0 : Nat) g = _
    unfold bX2_timesLine_5
    rw [show ((0 : Nat) : Int) = 0 from rfl, if_neg (by decide), w_ld hc (by omega), w_st hc (by omega), rm_e (a := A * g c (Int.toNat 0)) b1.1 (by have := b1.2; exact Int.lt_of_le_of_lt this (by decide))]
    rfl
  | succ i ih =>
    intro n g q1 q3 hr
    obtain ⟨n, rfl⟩ : ∃ k, n = k + 1 := ⟨n - 1, by omega⟩
    have b1 := rs_mul hA (hr (i + 1) (by omega))
    have b2 := rs_mul hB (hr i (by omega))
    obtain ⟨g', e1, e2, e3, e4, e5, e6⟩ := ih n (hs g c (i + 1) ((A * g c (i + 1) + B * g c i) % 10007)) (by omega) (by omega) (R9_hs hr (rs_mod _) c rfl)
    refine ⟨g', ?_, fun k hk => (e2 k hk).trans (hs_ne hk), e3, by rw [e4, hs_j (by omega)], fun k hk => ?_, fun k hk => by rw [e6 k (by omega), hs_j (by omega)]⟩
    · show bX2_timesLine_5 (LX2_timesLine_5 n) c A B (i + 1 : Nat) g = _
      unfold bX2_timesLine_5
      rw [wi_id (z := ((i + 1 : Nat) : Int)) (by omega) (by omega), if_pos (by omega), w_ld hc (by omega), w_ld hc (by omega), w_st hc (by omega), show (((i + 1 : Nat) : Int) - 1).toNat = i by omega, Int.toNat_natCast, rm_e (by omega) (by omega), show ((i + 1 : Nat) : Int) + (-1) = i by omega]
      exact e1
    · by_cases z : k = i
      · rw [z, e6 (i + 1) (by omega), hs_s]
      · rw [e5 k (by omega), hs_j (by omega), hs_j (by omega)]
theorem pLine {c : Nat} (hc : 22 ≤ c ∧ c < 27) {A B : Int} (hA : rs A) (hB : rs B) {D : Nat} (hD : D ≤ 7) {x : Int} (hx : x = D) {g : HP} (hr : R9 g c) (hz : ∀ k, D < k → k < 9 → g c k = 0) : ∃ g', fX2_timesLine c x A B g = some (0, g') ∧ (∀ k, k ≠ c → g' k = g k) ∧ R9 g' c ∧ (∀ k, D + 1 < k → k < 9 → g' c k = 0) ∧ ∀ v : Int, ep (pol (g' c) (D + 1) v) (pol (g c) D v * (A + B * v)) := by
  obtain ⟨g', e1, e2, e3, e4, e5, e6⟩ := pLineL hc hA hB (D + 1) FU g (by omega) (fu_lt (by omega)) hr
  refine ⟨g', ?_, e2, e3, fun k h1 h2 => by rw [e6 k h1, hz k (by omega) h2], fun v => pol_line ?_ (fun i hi => ?_) ?_ v⟩
  · unfold fX2_timesLine
    rw [lt_d, hx]
    exact e1
  · rw [e4]; exact ep_m _
  · rw [e5 i (by omega)]; exact ep_m _
  · rw [hz (D + 1) (by omega) (by omega)]; exact ep_r 0
theorem pMixL {N a b c d : Int} (hN : 0 ≤ N ∧ N ≤ 8) (ha : rs a) (hb : rs b) (hc : rs c) (hd : rs d) (F : Nat → Int) (hF : ∀ j, j < 9 → rs (F j)) : ∀ (e j n : Nat) (g : HP), N - j = e → (j : Int) ≤ N → e < n → g 22 = F → R9 g 26 → R9 g 23 → (∀ k, j < k → k < 9 → g 26 k = 0) → (∀ k, j < k → k < 9 → g 23 k = 0) → (∀ v : Int, ep (pol (g 26) j v) (ev F (a + b * v) (c + d * v) j)) → (∀ v : Int, ep (pol (g 23) j v) ((c + d * v) ^ j)) → ∃ g', LX4_makeMixed_36 n N a b c d (j + 1 : Nat) g = some (0, g') ∧ (∀ k, k ≠ 26 → k ≠ 23 → g' k = g k) ∧ R9 g' 26 ∧ ∀ v : Int, ep (pol (g' 26) N.toNat v) (ev F (a + b * v) (c + d * v) N.toNat) := by
  intro e
  induction e with
  | zero =>
    intro j n g q1 q2 q3 h22 r1 r2 z1 z2 p1 p2
    obtain ⟨n, rfl⟩ : ∃ k, n = k + 1 := ⟨n - 1, by omega⟩
    refine ⟨g, ?_, fun _ _ _ => rfl, r1, fun v => by rw [show N.toNat = j by omega]; exact p1 v⟩
    show bX4_makeMixed_36 (LX4_makeMixed_36 n) N a b c d (j + 1 : Nat) g = _
    unfold bX4_makeMixed_36
    rw [wi_id (z := ((j + 1 : Nat) : Int)) (by omega) (by omega), wi_id (z := N) (by omega) (by omega), if_neg (by omega)]
  | succ e ih =>
    intro j n g q1 q2 q3 h22 r1 r2 z1 z2 p1 p2
    obtain ⟨n, rfl⟩ : ∃ k, n = k + 1 := ⟨n - 1, by omega⟩
    obtain ⟨g1, a1, a2, a3, a4, a5⟩ := pLine (c := 26) (by decide) ha hb (D := j) (by omega) (x := ((j + 1 : Nat) : Int) - 1) (by omega) r1 z1
    have k23 : g1 23 = g 23 := a2 23 (by decide)
    obtain ⟨g2, b1, b2, b3, b4, b5⟩ := pLine (c := 23) (by decide) hc hd (D := j) (by omega) (x := ((j + 1 : Nat) : Int) - 1) (by omega) (R9_k r2 k23) (by rw [k23]; exact z2)
    rw [k23] at b5
    have k26 : g2 26 = g1 26 := b2 26 (by decide)
    have k22 : g2 22 = F := by rw [b2 22 (by decide), a2 22 (by decide), h22]
    obtain ⟨g3, c1, c2, c3⟩ := pAddT (a := 26) (b := 23) (by decide) (by decide) (by decide) (hF (j + 1) (by omega)) (R9_k a3 k26) b3
    have l23 : g3 23 = g2 23 := c2 23 (by decide)
    obtain ⟨g', e1, e2, e3, e4⟩ := ih (j + 1) n g3 (by omega) (by omega) (by omega) ((c2 22 (by decide)).trans k22) (fun k hk => by rw [c3 k hk]; exact rs_mod _) (R9_k b3 l23) (fun k h1 h2 => by rw [c3 k h2, k26, a4 k h1 h2, b4 k h1 h2, Int.zero_mul]; rfl) (fun k h1 h2 => by rw [l23, b4 k h1 h2]) (fun v => by
      have t1 : ep (pol (g3 26) (j + 1) v) (pol (fun k => 1 * g1 26 k + F (j + 1) * g2 23 k) (j + 1) v) := pol_cg (j + 1) (fun k hk => by
        rw [c3 k (by omega), k26, Int.one_mul, Int.mul_comm (F (j + 1))]
        exact ep_m _) (ep_r v)
      rw [pol_lin, Int.one_mul] at t1
      refine ep_t t1 (ep_a (ep_t (a5 v) (ep_u (p1 v) (ep_r _))) (ep_u (ep_r _) (ep_t (b5 v) ?_)))
      rw [Int.pow_succ]
      exact ep_u (p2 v) (ep_r _)) (fun v => by
      rw [l23, Int.pow_succ]
      exact ep_t (b5 v) (ep_u (p2 v) (ep_r _)))
    refine ⟨g', ?_, fun k h1 h2 => by rw [e2 k h1 h2, c2 k h1, b2 k h2, a2 k h1], e3, e4⟩
    show bX4_makeMixed_36 (LX4_makeMixed_36 n) N a b c d (j + 1 : Nat) g = _
    unfold bX4_makeMixed_36
    rw [wi_id (z := ((j + 1 : Nat) : Int)) (by omega) (by omega), wi_id (z := N) (by omega) (by omega), if_pos (by omega), a1, cl_some, b1, cl_some, w_ld (by decide) (by omega), k22, Int.toNat_natCast, c1, cl_some]
    exact e1
theorem pMix {N a b c d : Int} (hN : 0 ≤ N ∧ N ≤ 8) (ha : rs a) (hb : rs b) (hc : rs c) (hd : rs d) {g : HP} (hF : R9 g 22) : ∃ g', fX4_makeMixed N a b c d g = some (0, g') ∧ (∀ k, k ≠ 26 → k ≠ 23 → g' k = g k) ∧ R9 g' 26 ∧ ∀ v : Int, ep (pol (g' 26) N.toNat v) (ev (g 22) (a + b * v) (c + d * v) N.toNat) := by
  obtain ⟨g1, a1, a2, a3⟩ := pClear l26 (by decide) g
  obtain ⟨g2, b1, b2, b3⟩ := pClear (a := 23) (LN := 9) rfl (by decide) g1
  have k22 : g2 22 = g 22 := by rw [b2 22 (by decide), a2 22 (by decide)]
  have k26 : g2 26 = g1 26 := b2 26 (by decide)
  have e22 : hs (hs g2 26 0 (g 22 0)) 23 0 1 22 = g 22 := by rw [hs_ne (by decide), hs_ne (by decide), k22]
  have e26 : hs (hs g2 26 0 (g 22 0)) 23 0 1 26 = hs g2 26 0 (g 22 0) 26 := hs_ne (by decide)
  have r1 : R9 (hs (hs g2 26 0 (g 22 0)) 23 0 1) 26 := R9_k (R9_hs (R9_k (R9_0 a3) k26) (hF 0 (by decide)) 26 rfl) e26
  have r2 : R9 (hs (hs g2 26 0 (g 22 0)) 23 0 1) 23 := R9_hs (R9_k (R9_0 b3) (hs_ne (by decide))) ⟨by decide, by decide⟩ 23 rfl
  obtain ⟨g', e1, e2, e3, e4⟩ := pMixL hN ha hb hc hd (g 22) hF N.toNat 0 FU (hs (hs g2 26 0 (g 22 0)) 23 0 1) (by omega) (by omega) (fu_lt (by omega)) e22 r1 r2 (fun k h1 h2 => by rw [e26, hs_j (by omega), k26, a3 k h2]) (fun k h1 h2 => by rw [hs_j (by omega), hs_k (by decide), b3 k h2]) (fun v => by
    show ep (hs (hs g2 26 0 (g 22 0)) 23 0 1 26 0) (g 22 0)
    rw [e26, hs_s]; exact ep_r _) (fun v => by
    rw [Int.pow_zero]
    show ep (hs (hs g2 26 0 (g 22 0)) 23 0 1 23 0) 1
    rw [hs_s]; exact ep_r _)
  refine ⟨g', ?_, fun k h1 h2 => by rw [e2 k h1 h2, hs_ne h2, hs_ne h1, b2 k h2, a2 k h1], e3, e4⟩
  unfold fX4_makeMixed
  rw [a1, cl_some, b1, cl_some, w_ld (by decide) (by omega), w_st (by decide) (by omega), w_st (by decide) (by omega), show Int.toNat 0 = 0 from rfl, k22]
  exact e1
-- the reference
theorem lnM8 : lnM 8 = 10 := rfl
theorem m8_ld {α : Type} {x : Int} (hx : 0 ≤ x ∧ x < 10) {row : Nat → Int} {k : Int → Option α} : ld (lnM 8) row x k = k (row x.toNat) := ld_t hx.1 (by rw [lnM8]; omega) (by rw [lnM8]; omega)
theorem m8_st {α : Type} {x v : Int} (hx : 0 ≤ x ∧ x < 10) {h : HP} {k : HP → Option α} : sto (lnM 8) h 8 x v k = k (hs h 8 x.toNat v) := sto_t hx.1 (by rw [lnM8]; omega) (by rw [lnM8]; omega)
def R10 (m : HP) : Prop := ∀ j : Nat, j < 10 → rs (m 8 j)
theorem R10_hs {m : HP} {i : Nat} {v : Int} (h : R10 m) (hv : rs v) : R10 (hs m 8 i v) := fun j hj => by
  by_cases c : j = i
  · rw [c, hs_s]; exact hv
  · rw [hs_j c]; exact h j hj
theorem mLineL {x1 x2 x3 x4 x5 x6 A B : Int} (hA : rs A) (hB : rs B) (K : Int → Int → Int → Int → Int → Int → HP → Option (Int × HP)) : ∀ (p n : Nat) (m : HP), p ≤ 10 → p < n → R10 m → ∃ m', LX5_mixes_116 K n x1 x2 x3 x4 x5 x6 A B ((p : Int) - 1) m = K x1 x2 x3 x4 x5 (x6 + 1) m' ∧ (∀ k, k ≠ 8 → m' k = m k) ∧ R10 m' ∧ (1 ≤ p → m' 8 0 = m 8 0 * A % 10007) ∧ (∀ k, k + 1 < p → m' 8 (k + 1) = (m 8 (k + 1) * A + m 8 k * B) % 10007) ∧ ∀ k, p ≤ k → m' 8 k = m 8 k := by
  intro p
  induction p with
  | zero =>
    intro n m q1 q3 hr
    obtain ⟨n, rfl⟩ : ∃ k, n = k + 1 := ⟨n - 1, by omega⟩
    refine ⟨m, ?_, fun _ _ => rfl, hr, fun h => by omega, fun k hk => by omega, fun _ _ => rfl⟩
    show bX5_mixes_116 K (LX5_mixes_116 K n) x1 x2 x3 x4 x5 x6 A B _ m = _
    unfold bX5_mixes_116
    rw [wi_id (z := ((0 : Nat) : Int) - 1) (by omega) (by omega), if_neg (by omega)]
  | succ p ih =>
    intro n m q1 q3 hr
    obtain ⟨n, rfl⟩ : ∃ k, n = k + 1 := ⟨n - 1, by omega⟩
    have b1 := rs_mul (hr p (by omega)) hA
    have e0 : ((p + 1 : Nat) : Int) - 1 = p := by omega
    by_cases c : p = 0
    · obtain ⟨m', e1, e2, e3, e4, e5, e6⟩ := ih n (hs m 8 0 (m 8 0 * A % 10007)) (by omega) (by omega) (R10_hs hr (rs_mod _))
      refine ⟨m', ?_, fun k hk => (e2 k hk).trans (hs_ne hk), e3, fun _ => by rw [e6 0 (by omega), hs_s], fun k hk => by omega, fun k hk => by rw [e6 k (by omega), hs_j (by omega)]⟩
      show bX5_mixes_116 K (LX5_mixes_116 K n) x1 x2 x3 x4 x5 x6 A B _ m = _
      unfold bX5_mixes_116
      rw [c] at e1 b1
      rw [e0, c, show ((0 : Nat) : Int) = 0 from rfl, if_pos (by decide), m8_ld (by omega), if_neg (by decide), show Int.toNat 0 = 0 from rfl, Int.add_zero, rs_wi (hr 0 (by omega)), rs_wi hA, mMod (by omega) (by omega), cl_some, m8_st (by omega)]
      exact e1
    · have b2 := rs_mul (hr (p - 1) (by omega)) hB
      obtain ⟨m', e1, e2, e3, e4, e5, e6⟩ := ih n (hs m 8 p ((m 8 p * A + m 8 (p - 1) * B) % 10007)) (by omega) (by omega) (R10_hs hr (rs_mod _))
      refine ⟨m', ?_, fun k hk => (e2 k hk).trans (hs_ne hk), e3, fun _ => by rw [e4 (by omega), hs_j (by omega)], fun k hk => ?_, fun k hk => by rw [e6 k (by omega), hs_j (by omega)]⟩
      · show bX5_mixes_116 K (LX5_mixes_116 K n) x1 x2 x3 x4 x5 x6 A B _ m = _
        unfold bX5_mixes_116
        rw [e0, wi_id (z := (p : Int)) (by omega) (by omega), if_pos (by omega), m8_ld (by omega), if_pos (by omega), m8_ld (by omega), Int.toNat_natCast, show ((p : Int) - 1).toNat = p - 1 by omega, rs_wi (hr p (by omega)), rs_wi (hr (p - 1) (by omega)), rs_wi hA, rs_wi hB, mMod (by omega) (by omega), cl_some, m8_st (by omega), Int.toNat_natCast]
        exact e1
      · by_cases z : k + 1 = p
        · rw [z, e6 p (by omega), hs_s, show k = p - 1 by omega]
        · rw [e5 k (by omega), hs_j (by omega), hs_j (by omega)]
theorem mLine {x1 x2 x3 x4 x5 x6 A B : Int} (hA : rs A) (hB : rs B) (K : Int → Int → Int → Int → Int → Int → HP → Option (Int × HP)) {D : Nat} (hD : D ≤ 7) {x : Int} (hx : x = D + 1) {m : HP} (hr : R10 m) (hz : ∀ k, D < k → k < 10 → m 8 k = 0) : ∃ m', LX5_mixes_116 K FU x1 x2 x3 x4 x5 x6 A B x m = K x1 x2 x3 x4 x5 (x6 + 1) m' ∧ (∀ k, k ≠ 8 → m' k = m k) ∧ R10 m' ∧ (∀ k, D + 1 < k → k < 10 → m' 8 k = 0) ∧ ∀ v : Int, ep (pol (m' 8) (D + 1) v) (pol (m 8) D v * (A + B * v)) := by
  obtain ⟨m', e1, e2, e3, e4, e5, e6⟩ := mLineL (x1 := x1) (x2 := x2) (x3 := x3) (x4 := x4) (x5 := x5) (x6 := x6) hA hB K (D + 2) FU m (by omega) (fu_lt (by omega)) hr
  refine ⟨m', ?_, e2, e3, fun k h1 h2 => by rw [e6 k (by omega), hz k (by omega) h2], fun v => pol_line ?_ (fun i hi => ?_) ?_ v⟩
  · rw [show x = ((D + 2 : Nat) : Int) - 1 by omega]
    exact e1
  · rw [e4 (by omega), Int.mul_comm]; exact ep_m _
  · rw [e5 i (by omega), Int.mul_comm A, Int.mul_comm B]; exact ep_m _
  · rw [hz (D + 1) (by omega) (by omega)]; exact ep_r 0
def lp (X Y f : Int) (N i k : Nat) : Int := f * X ^ (min k (N - i)) * Y ^ (k - (N - i))
theorem mMix1 {N a b c d : Int} (hN : 0 ≤ N ∧ N ≤ 8) (ha : rs a) (hb : rs b) (hc : rs c) (hd : rs d) {i : Nat} (hi : (i : Int) ≤ N) (f : Int) (K : Int → Int → Int → Int → Int → HP → Option (Int × HP)) : ∀ (e k n : Nat) (m : HP), N - k = e → (k : Int) ≤ N → e < n → m 0 6 = N → R10 m → (∀ t, k < t → t < 10 → m 8 t = 0) → (∀ v : Int, ep (pol (m 8) k v) (lp (a + b * v) (c + d * v) f N.toNat i k)) → ∃ m', LX5_mixes_62 K n a b c d i k m = LX5_mixes_182 K FU a b c d i 0 m' ∧ (∀ k, k ≠ 8 → m' k = m k) ∧ R10 m' ∧ (∀ v : Int, ep (pol (m' 8) N.toNat v) (lp (a + b * v) (c + d * v) f N.toNat i N.toNat)) := by
  intro e
  induction e with
  | zero =>
    intro k n m q1 q2 q3 h6 hr hz hp
    obtain ⟨n, rfl⟩ : ∃ z, n = z + 1 := ⟨n - 1, by omega⟩
    refine ⟨m, ?_, fun _ _ => rfl, hr, fun v => by rw [show N.toNat = k by omega]; rw [show N.toNat = k by omega] at hp; exact hp v⟩
    show bX5_mixes_62 K (LX5_mixes_62 K n) a b c d i k m = _
    unfold bX5_mixes_62
    rw [h6, wi_id (z := (k : Int)) (by omega) (by omega), wi_id (z := N) (by omega) (by omega), if_neg (by omega)]
  | succ e ih =>
    intro k n m q1 q2 q3 h6 hr hz hp
    obtain ⟨n, rfl⟩ : ∃ z, n = z + 1 := ⟨n - 1, by omega⟩
    by_cases y : (k : Int) < N - i
    · obtain ⟨m1, f1, f2, f3, f4, f5⟩ := mLine (x1 := a) (x2 := b) (x3 := c) (x4 := d) (x5 := i) (x6 := k) ha hb (LX5_mixes_62 K n) (D := k) (by omega) (x := k + 1) rfl hr hz
      obtain ⟨m', e1, e2, e3, e4⟩ := ih (k + 1) n m1 (by omega) (by omega) (by omega) (by rw [f2 0 (by decide)]; exact h6) f3 f4 (fun v => by
        refine ep_t (f5 v) (ep_t (ep_u (hp v) (ep_r _)) ?_)
        unfold lp
        rw [show min (k + 1) (N.toNat - i) = min k (N.toNat - i) + 1 by omega, show k + 1 - (N.toNat - i) = 0 by omega, show k - (N.toNat - i) = 0 by omega, Int.pow_zero, Int.mul_one, Int.mul_one, Int.pow_succ, Int.mul_assoc]
        exact ep_r _)
      refine ⟨m', ?_, fun k hk => (e2 k hk).trans (f2 k hk), e3, e4⟩
      show bX5_mixes_62 K (LX5_mixes_62 K n) a b c d i k m = _
      unfold bX5_mixes_62 jX5_mixes_88
      rw [h6, wi_id (z := (k : Int)) (by omega) (by omega), wi_id (z := N) (by omega) (by omega), if_pos (by omega), wi_id (z := N - i) (by omega) (by omega), if_pos y, if_pos y, lt_d, f1]
      exact e1
    · obtain ⟨m1, f1, f2, f3, f4, f5⟩ := mLine (x1 := a) (x2 := b) (x3 := c) (x4 := d) (x5 := i) (x6 := k) hc hd (LX5_mixes_62 K n) (D := k) (by omega) (x := k + 1) rfl hr hz
      obtain ⟨m', e1, e2, e3, e4⟩ := ih (k + 1) n m1 (by omega) (by omega) (by omega) (by rw [f2 0 (by decide)]; exact h6) f3 f4 (fun v => by
        refine ep_t (f5 v) (ep_t (ep_u (hp v) (ep_r _)) ?_)
        unfold lp
        rw [show min (k + 1) (N.toNat - i) = min k (N.toNat - i) by omega, show k + 1 - (N.toNat - i) = k - (N.toNat - i) + 1 by omega, Int.pow_succ, Int.mul_assoc]
        exact ep_r _)
      refine ⟨m', ?_, fun k hk => (e2 k hk).trans (f2 k hk), e3, e4⟩
      show bX5_mixes_62 K (LX5_mixes_62 K n) a b c d i k m = _
      unfold bX5_mixes_62 jX5_mixes_88
      rw [h6, wi_id (z := (k : Int)) (by omega) (by omega), wi_id (z := N) (by omega) (by omega), if_pos (by omega), wi_id (z := N - i) (by omega) (by omega), if_neg y, if_neg y, lt_d, f1]
      exact e1
theorem mMix2 {N a b c d : Int} (hN : 0 ≤ N ∧ N ≤ 8) {i : Int} (K : Int → Int → Int → Int → Int → HP → Option (Int × HP)) : ∀ (e k n : Nat) (m : HP), N + 1 - k = e → e < n → m 0 6 = N → R9 m 7 → R10 m → ∃ m', LX5_mixes_182 K n a b c d i k m = K a b c d (i + 1) m' ∧ (∀ t, t ≠ 7 → m' t = m t) ∧ R9 m' 7 ∧ (∀ t, t < k → m' 7 t = m 7 t) ∧ ∀ t : Nat, k ≤ t → (t : Int) ≤ N → m' 7 t = (m 7 t + m 8 t) % 10007 := by
  intro e
  induction e with
  | zero =>
    intro k n m q1 q3 h6 h7 hr
    obtain ⟨n, rfl⟩ : ∃ z, n = z + 1 := ⟨n - 1, by omega⟩
    refine ⟨m, ?_, fun _ _ => rfl, h7, fun _ _ => rfl, fun t a b => by omega⟩
    show bX5_mixes_182 K (LX5_mixes_182 K n) a b c d i k m = _
    unfold bX5_mixes_182
    rw [h6, wi_id (z := (k : Int)) (by omega) (by omega), wi_id (z := N) (by omega) (by omega), if_neg (by omega)]
  | succ e ih =>
    intro k n m q1 q3 h6 h7 hr
    obtain ⟨n, rfl⟩ : ∃ z, n = z + 1 := ⟨n - 1, by omega⟩
    have b1 := h7 k (by omega)
    have b2 := hr k (by omega)
    have b3 := b1.1; have b4 := b1.2; have b5 := b2.1; have b6 := b2.2
    have k8 : ∀ v, hs m 7 k v 8 = m 8 := fun v => hs_ne (by decide)
    obtain ⟨m', e1, e2, e3, e4, e5⟩ := ih (k + 1) n (hs m 7 k ((m 7 k + m 8 k) % 10007)) (by omega) (by omega) (by rw [hs_k (by decide)]; exact h6) (R9_hs h7 (rs_mod _) 7 rfl) (fun j hj => by rw [k8]; exact hr j hj)
    refine ⟨m', ?_, fun t ht => (e2 t ht).trans (hs_ne ht), e3, fun t ht => by rw [e4 t (by omega), hs_j (by omega)], fun t h1 h2 => ?_⟩
    · show bX5_mixes_182 K (LX5_mixes_182 K n) a b c d i k m = _
      unfold bX5_mixes_182
      rw [h6, wi_id (z := (k : Int)) (by omega) (by omega), wi_id (z := N) (by omega) (by omega), if_pos (by omega), m7_ld (by omega), m8_ld (by omega), Int.toNat_natCast, wi_id (z := m 7 k + m 8 k) (by omega) (by omega), mMod (by omega) (by omega), cl_some, m7_st (by omega), Int.toNat_natCast]
      exact e1
    · by_cases z : t = k
      · rw [z, e4 k (by omega), hs_s]
      · rw [e5 t (by omega) h2, hs_j z, k8]
theorem mMix3 {N a b c d : Int} (hN : 0 ≤ N ∧ N ≤ 8) {i : Nat} (hi : (i : Int) ≤ N) (K : Int → Int → Int → Int → Int → HP → Option (Int × HP)) : ∀ (e k n : Nat) (m : HP), 10 - (k : Int) = e → e < n → R9 m 5 → ∃ m', LX5_mixes_23 K n a b c d i k m = LX5_mixes_62 K FU a b c d i 0 m' ∧ (∀ t, t ≠ 8 → m' t = m t) ∧ (∀ t, t < k → m' 8 t = m 8 t) ∧ ∀ t, k ≤ t → t < 10 → m' 8 t = if t = 0 then m 5 i else 0 := by
  have k10 : wi 10 = 10 := rfl
  intro e
  induction e with
  | zero =>
    intro k n m q1 q3 h5
    obtain ⟨n, rfl⟩ : ∃ z, n = z + 1 := ⟨n - 1, by omega⟩
    refine ⟨m, ?_, fun _ _ => rfl, fun _ _ => rfl, fun t a b => by omega⟩
    show bX5_mixes_23 K (LX5_mixes_23 K n) a b c d i k m = _
    unfold bX5_mixes_23
    rw [k10, wi_id (z := (k : Int)) (by omega) (by omega), if_neg (by omega)]
  | succ e ih =>
    intro k n m q1 q3 h5
    obtain ⟨n, rfl⟩ : ∃ z, n = z + 1 := ⟨n - 1, by omega⟩
    have k5 : ∀ v, hs m 8 k v 5 = m 5 := fun v => hs_ne (by decide)
    obtain ⟨m', e1, e2, e3, e4⟩ := ih (k + 1) n (hs m 8 k (if k = 0 then m 5 i else 0)) (by omega) (by omega) (R9_k h5 (k5 _))
    refine ⟨m', ?_, fun t ht => (e2 t ht).trans (hs_ne ht), fun t ht => by rw [e3 t (by omega), hs_j (by omega)], fun t h1 h2 => ?_⟩
    · show bX5_mixes_23 K (LX5_mixes_23 K n) a b c d i k m = _
      unfold bX5_mixes_23
      rw [k10, wi_id (z := (k : Int)) (by omega) (by omega), if_pos (by omega)]
      by_cases z : k = 0
      · rw [if_pos z] at e1
        rw [if_pos (by omega), m5_ld (by omega), m8_st (by omega), Int.toNat_natCast, Int.toNat_natCast]
        exact e1
      · rw [if_neg z] at e1
        rw [if_neg (by omega), m8_st (by omega), Int.toNat_natCast]
        exact e1
    · by_cases z : t = k
      · rw [e3 t (by omega), z, hs_s]
      · rw [e4 t (by omega) h2, k5]
theorem mMix4 {N a b c d : Int} (hN : 0 ≤ N ∧ N ≤ 8) (ha : rs a) (hb : rs b) (hc : rs c) (hd : rs d) (F : Nat → Int) : ∀ (e i n : Nat) (m : HP), N + 1 - i = e → e < n → m 0 6 = N → m 5 = F → R9 m 5 → R9 m 7 → (∀ v : Int, ep (pol (m 7) N.toNat v) (sm (fun j => F j * (c + d * v) ^ j * (a + b * v) ^ (N.toNat - j)) i)) → ∃ m', LX5_mixes_11 n a b c d i m = some (0, m') ∧ (∀ t, t ≠ 7 → t ≠ 8 → m' t = m t) ∧ R9 m' 7 ∧ ∀ v : Int, ep (pol (m' 7) N.toNat v) (ev F (a + b * v) (c + d * v) N.toNat) := by
  intro e
  induction e with
  | zero =>
    intro i n m q1 q3 h6 h5 r5 r7 hp
    obtain ⟨n, rfl⟩ : ∃ z, n = z + 1 := ⟨n - 1, by omega⟩
    refine ⟨m, ?_, fun _ _ _ => rfl, r7, fun v => by rw [ev_sm, show N.toNat + 1 = i by omega]; exact hp v⟩
    show bX5_mixes_11 (LX5_mixes_11 n) a b c d i m = _
    unfold bX5_mixes_11
    rw [h6, wi_id (z := (i : Int)) (by omega) (by omega), wi_id (z := N) (by omega) (by omega), if_neg (by omega)]
  | succ e ih =>
    intro i n m q1 q3 h6 h5 r5 r7 hp
    obtain ⟨n, rfl⟩ : ∃ z, n = z + 1 := ⟨n - 1, by omega⟩
    obtain ⟨m1, a1, a2, a3, a4⟩ := mMix3 (a := a) (b := b) (c := c) (d := d) hN (i := i) (by omega) (LX5_mixes_11 n) 10 0 FU m (by omega) (by decide) r5
    have r8 : R10 m1 := fun j hj => by
      rw [a4 j (by omega) hj]
      by_cases z : j = 0
      · rw [if_pos z]; exact r5 i (by omega)
      · rw [if_neg z]; exact ⟨by decide, by decide⟩
    obtain ⟨m2, b1, b2, b3, b4⟩ := mMix1 hN ha hb hc hd (i := i) (by omega) (m 5 i) (LX5_mixes_11 n) N.toNat 0 FU m1 (by omega) (by omega) (fu_lt (by omega)) (by rw [a2 0 (by decide)]; exact h6) r8 (fun t h1 h2 => by rw [a4 t (by omega) h2, if_neg (by omega)]) (fun v => by
      show ep (m1 8 0) _
      rw [a4 0 (by omega) (by omega), if_pos rfl]
      unfold lp
      rw [Nat.zero_min, Nat.zero_sub, Int.pow_zero, Int.pow_zero, Int.mul_one, Int.mul_one]
      exact ep_r _)
    have k7 : m2 7 = m 7 := by rw [b2 7 (by decide), a2 7 (by decide)]
    obtain ⟨m3, c1, c2, c3, c4, c5⟩ := mMix2 (a := a) (b := b) (c := c) (d := d) hN (i := i) (LX5_mixes_11 n) (N + 1).toNat 0 FU m2 (by omega) (fu_lt (by omega)) (by rw [b2 0 (by decide), a2 0 (by decide)]; exact h6) (R9_k r7 k7) b3
    obtain ⟨m', e1, e2, e3, e4⟩ := ih (i + 1) n m3 (by omega) (by omega) (by rw [c2 0 (by decide), b2 0 (by decide), a2 0 (by decide)]; exact h6) (by rw [c2 5 (by decide), b2 5 (by decide), a2 5 (by decide)]; exact h5) (R9_k r5 (by rw [c2 5 (by decide), b2 5 (by decide), a2 5 (by decide)])) c3 (fun v => by
      have t1 : ep (pol (m3 7) N.toNat v) (pol (fun k => 1 * m 7 k + 1 * m2 8 k) N.toNat v) := pol_cg N.toNat (fun k hk => by
        rw [c5 k (by omega) (by omega), k7, Int.one_mul, Int.one_mul]
        exact ep_m _) (ep_r v)
      rw [pol_lin, Int.one_mul, Int.one_mul] at t1
      refine ep_t t1 (ep_a (hp v) (ep_t (b4 v) ?_))
      show ep _ (F i * (c + d * v) ^ i * (a + b * v) ^ (N.toNat - i))
      unfold lp
      rw [show min N.toNat (N.toNat - i) = N.toNat - i by omega, show N.toNat - (N.toNat - i) = i by omega, h5, Int.mul_assoc, Int.mul_assoc, Int.mul_comm ((a + b * v) ^ (N.toNat - i))]
      exact ep_r _)
    refine ⟨m', ?_, fun t h1 h2 => by rw [e2 t h1 h2, c2 t h1, b2 t h2, a2 t h2], e3, e4⟩
    show bX5_mixes_11 (LX5_mixes_11 n) a b c d i m = _
    unfold bX5_mixes_11
    rw [show ((0 : Nat) : Int) = 0 from rfl] at a1 b1 c1
    rw [h6, wi_id (z := (i : Int)) (by omega) (by omega), wi_id (z := N) (by omega) (by omega), if_pos (by omega), a1, b1, c1]
    exact e1
theorem mMix {N a b c d : Int} (hN : 0 ≤ N ∧ N ≤ 8) (ha : rs a) (hb : rs b) (hc : rs c) (hd : rs d) {m : HP} (h6 : m 0 6 = N) (r5 : R9 m 5) : ∃ m', fX5_mixes a b c d m = some (0, m') ∧ (∀ t, t ≠ 0 → t ≠ 7 → t ≠ 8 → m' t = m t) ∧ (∀ j, j ≠ 10 → m' 0 j = m 0 j) ∧ m' 0 10 = N ∧ R9 m' 7 ∧ ∀ v : Int, ep (pol (m' 7) N.toNat v) (ev (m 5) (a + b * v) (c + d * v) N.toNat) := by
  obtain ⟨m2, n1, n2, n3, n4, n5⟩ := mNou (n := N) m
  have k5 : m2 5 = m 5 := n2 5 (by decide) (by decide)
  obtain ⟨m', e1, e2, e3, e4⟩ := mMix4 hN ha hb hc hd (m 5) (N + 1).toNat 0 FU m2 (by omega) (fu_lt (by omega)) (by rw [n3 6 (by decide)]; exact h6) k5 (R9_k r5 k5) (R9_0' n5) (fun v => by
    have t1 : ep (pol (m2 7) N.toNat v) (pol (fun _ => 0) N.toNat v) := pol_cg N.toNat (fun k hk => by rw [n5 k (by omega)]; exact ep_r 0) (ep_r v)
    have t2 : pol (fun _ => 0) N.toNat v = 0 := pol_z _ _
    rw [t2] at t1
    exact t1)
  refine ⟨m', ?_, fun t h0 h1 h2 => by rw [e2 t h1 h2, n2 t h0 h1], fun j hj => by rw [e2 0 (by decide) (by decide), n3 j hj], by rw [e2 0 (by decide) (by decide), n4], e3, e4⟩
  unfold fX5_mixes
  rw [h6, n1, cl_some]
  exact e1
theorem g_mix : G_mix JJ := by
  intro g m hJ x1 x2 x3 x4 x5 x6 w1 w2 w3 w4 w5 w6
  by_cases c6 : 0 ≤ x6 ∧ x6 < 10
  · rcases one_form hJ w1 with ⟨c, e⟩ | ⟨c, r, g1, m1, r0, e, f, hJ1⟩ | ⟨c, hw, hf, e, m1, f1, f2, f3, f4, f5⟩
    · refine ⟨-2, -2, g, m, ?_, ?_, rfl, hJ⟩
      · unfold fX4_mix
        rw [pNS_ok c6.1 c6.2, cl_some, if_pos wi_0, e, cl_some, if_neg (by decide)]
      · unfold fX5_mix
        rw [mIS_bad w1 c, cl_some, if_pos wi_0]
    · refine ⟨r, r, g1, m1, ?_, ?_, rfl, hJ1⟩
      · unfold fX4_mix
        rw [pNS_ok c6.1 c6.2, cl_some, if_pos wi_0, e, cl_some, if_neg r0]
      · unfold fX5_mix
        rw [mIS_ok c.1 c.2, cl_some, if_neg (by decide), mIS_ok c6.1 c6.2, cl_some, if_neg (by decide), f, cl_some, if_neg r0]
    · have r2 := wi_rng w2; have r3 := wi_rng w3; have r4 := wi_rng w4; have r5 := wi_rng w5
      obtain ⟨g1, a1, a2, a3⟩ := pLoad c (a := 22) (by decide) hw
      have hc1 : sameC g g1 := sC_o (a := 22) (by decide) a2
      have R22 : R9 g1 22 := fun j hj => by rw [a3 j hj]; exact nb_rs _ _ _
      have R5 : R9 m1 5 := fun j hj => by rw [f5 j hj]; exact nb_rs _ _ _
      generalize hM : g (2 + x1.toNat) 2 - 1 = N at a1 f4
      have zN : 0 ≤ N ∧ N ≤ 8 := by omega
      obtain ⟨g2, b1, b2, b3, b4⟩ := pMix zN (rs_mod x2) (rs_mod x3) (rs_mod x4) (rs_mod x5) R22
      obtain ⟨m2, d1, d2, d3, d4, d5, d6⟩ := mMix zN (rs_mod x2) (rs_mod x3) (rs_mod x4) (rs_mod x5) f4 R5
      have hc2 : sameC g g2 := sC_t hc1 ⟨by rw [b2 0 (by decide) (by decide)], fun k h1 h2 => b2 k (by omega) (by omega)⟩
      have hm2 : sameM m m2 := sM_t (sM_1 f2 f3) ⟨d3 4 (by decide), d2 1 (by decide) (by decide) (by decide), d2 2 (by decide) (by decide) (by decide), d2 3 (by decide) (by decide) (by decide)⟩
      have eqs : ∀ i, i ≤ N.toNat → m2 7 i = g2 26 i := fun i hi => by
        refine ep_i (d5 i (by omega)) (b3 i (by omega)) (pol_i (n := N.toNat) (by omega) (fun v hv => ep_t (d6 v) (ep_s (ep_t (b4 v) ?_))) i hi)
        rw [ev_cg (q := m1 5) (fun i hi => by rw [a3 i (by omega), f5 i (by omega)])]
        exact ep_r _
      obtain ⟨g4, m4, p1, p2, hJ4⟩ := keep_form hJ hc2 hm2 c6 (n := N) zN d4 (fun i hi => ⟨b3 i (by omega), eqs i (by omega)⟩)
      have y1 := rs_mul (rs_mod x2) (rs_mod x5)
      have y2 := rs_mul (rs_mod x3) (rs_mod x4)
      refine ⟨(x2 % 10007 * (x5 % 10007) - x3 % 10007 * (x4 % 10007)) % 10007, (x2 % 10007 * (x5 % 10007) % 10007 - x3 % 10007 * (x4 % 10007) % 10007) % 10007, g4, m4, ?_, ?_, ?_, hJ4⟩
      · unfold fX4_mix
        rw [pNS_ok c6.1 c6.2, cl_some, if_pos wi_0, e, cl_some, if_pos wi_0, pRed w2, cl_some, pRed w3, cl_some, pRed w4, cl_some, pRed w5, cl_some, a1, cl_some, b1, cl_some, p1, cl_some, pRed (wi_id (by omega) (by omega)), cl_some]
      · have z1 := rs_mod (x2 % 10007 * (x5 % 10007))
        have z2 := rs_mod (x3 % 10007 * (x4 % 10007))
        have z3 := z1.1; have z4 := z1.2; have z5 := z2.1; have z6 := z2.2
        unfold fX5_mix
        rw [mIS_ok c.1 c.2, cl_some, if_neg (by decide), mIS_ok c6.1 c6.2, cl_some, if_neg (by decide), f1, cl_some, if_pos wi_0, w2, w3, w4, w5, mMod (by omega) (by omega), cl_some, mMod (by omega) (by omega), cl_some, mMod (by omega) (by omega), cl_some, mMod (by omega) (by omega), cl_some, d1, cl_some, p2, cl_some, mMod (by omega) (by omega), cl_some, mMod (by omega) (by omega), cl_some, mTimes (rs_mod _) (rs_mod _), cl_some, mMod (by omega) (by omega), cl_some, mMod (by omega) (by omega), cl_some, mTimes (rs_mod _) (rs_mod _), cl_some, rs_wi z1, rs_wi z2, mMod (by omega) (by omega), cl_some]
      · refine congrArg wi ?_
        exact ep_b (ep_s (ep_m _)) (ep_s (ep_m _))
  · refine ⟨-2, -2, g, m, ?_, ?_, rfl, hJ⟩
    · unfold fX4_mix
      rw [pNS_bad w6 c6, cl_some, if_neg (by decide)]
    · unfold fX5_mix
      by_cases c : 0 ≤ x1 ∧ x1 < 10
      · rw [mIS_ok c.1 c.2, cl_some, if_neg (by decide), mIS_bad w6 c6, cl_some, if_pos wi_0]
      · rw [mIS_bad w1 c, cl_some, if_pos wi_0]
