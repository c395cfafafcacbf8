/-! Sums of powers are built. -/
theorem pAddPL {a : Nat} (ha : 22 ≤ a ∧ a < 27) {N r c : Int} (hN : 0 ≤ N ∧ N ≤ 8) (hr' : rs r) : ∀ (d i n : Nat) (u : Int) (g : HP), N + 1 - i = d → d < n → rs u → ep u (c * r ^ i) → R9 g a → ∃ g', LX2_addPower_6 n a N r u i g = some (0, g') ∧ (∀ k, k ≠ a → g' k = g k) ∧ R9 g' a ∧ (∀ j : Nat, j < i → g' a j = g a j) ∧ ∀ j : Nat, i ≤ j → (j : Int) ≤ N → ep (g' a j) (g a j + c * r ^ j * chf N j) := by
  intro d
  induction d with
  | zero =>
    intro i n u g q1 q3 hu e hr
    obtain ⟨n, rfl⟩ : ∃ k, n = k + 1 := ⟨n - 1, by omega⟩
    refine ⟨g, ?_, fun _ _ => rfl, hr, fun _ _ => rfl, fun j p1 p2 => by omega⟩
    show bX2_addPower_6 (LX2_addPower_6 n) a N r u i g = _
    unfold bX2_addPower_6
    rw [wi_id (z := (i : Int)) (by omega) (by omega), wi_id (z := N) (by omega) (by omega), if_neg (by omega)]
  | succ d ih =>
    intro i n u g q1 q3 hu e hr
    obtain ⟨n, rfl⟩ : ∃ k, n = k + 1 := ⟨n - 1, by omega⟩
    have b1 := rs_mul hu (chf_rs hN (k := i) (by omega))
    have b2 := hr i (by omega)
    have b3 := b2.1; have b4 := b2.2
    have b5 := rs_mul hu hr'
    obtain ⟨g', e1, e2, e3, e4, e5⟩ := ih (i + 1) n (u * r % 10007) (hs g a i ((g a i + u * chf N i) % 10007)) (by omega) (by omega) (rs_mod _) (by rw [Int.pow_succ, ← Int.mul_assoc]; exact ep_t (ep_m _) (ep_u e (ep_r _))) (R9_hs hr (rs_mod _) a rfl)
    refine ⟨g', ?_, fun k hk => (e2 k hk).trans (hs_ne hk), e3, fun j hj => (e4 j (by omega)).trans (hs_j (by omega)), fun j p1 p2 => ?_⟩
    · show bX2_addPower_6 (LX2_addPower_6 n) a N r u i g = _
      unfold bX2_addPower_6
      rw [wi_id (z := (i : Int)) (by omega) (by omega), wi_id (z := N) (by omega) (by omega), if_pos (by omega), w_ld ha (by omega), pCh hN (by omega), cl_some, Int.toNat_natCast, w_st ha (by omega), Int.toNat_natCast, rm_e (a := g a i + u * chf N i) (by omega) (by omega), lt_d, rm_e (a := u * r) b5.1 (by omega)]
      exact e1
    · by_cases z : j = i
      · rw [e4 j (by omega), z, hs_s]
        exact ep_t (ep_m _) (ep_a (ep_r _) (ep_u e (ep_r _)))
      · have := e5 j (by omega) p2
        rwa [hs_j z] at this
theorem pAddP {a : Nat} (ha : 22 ≤ a ∧ a < 27) {N r c : Int} (hN : 0 ≤ N ∧ N ≤ 8) (hr' : rs r) (hc : rs c) {g : HP} (hr : R9 g a) : ∃ g', fX2_addPower a N r c g = some (0, g') ∧ (∀ k, k ≠ a → g' k = g k) ∧ R9 g' a ∧ ∀ j : Nat, (j : Int) ≤ N → ep (g' a j) (g a j + c * r ^ j * chf N j) := by
  obtain ⟨g', e1, e2, e3, e4, e5⟩ := pAddPL ha hN hr' (c := c) (N + 1).toNat 0 FU c g (by omega) (fu_lt (by omega)) hc (by rw [Int.pow_zero, Int.mul_one]; exact ep_r _) hr
  exact ⟨g', e1, e2, e3, fun j hj => e5 j (by omega) hj⟩
theorem mRai {r : Int} (hr : rs r) {x : Int} (hx : 0 ≤ x ∧ x ≤ 9) (m : HP) : fX5_raised r x m = some (r ^ x.toNat % 10007, m) := by
  have key : ∀ (d k n : Nat) (u : Int), x - k = d → d < n → rs u → ep u (r ^ k) → LX5_raised_4 n r x u k m = some (r ^ x.toNat % 10007, m) := by
    intro d
    induction d with
    | zero =>
      intro k n u q1 q3 hu e
      obtain ⟨n, rfl⟩ : ∃ z, n = z + 1 := ⟨n - 1, by omega⟩
      show bX5_raised_4 (LX5_raised_4 n) r x u k m = _
      unfold bX5_raised_4
      rw [wi_id (z := (k : Int)) (by omega) (by omega), wi_id (z := x) (by omega) (by omega), if_neg (by omega), show x.toNat = k by omega, ← e, rs_id hu]
    | succ d ih =>
      intro k n u q1 q3 hu e
      obtain ⟨n, rfl⟩ : ∃ z, n = z + 1 := ⟨n - 1, by omega⟩
      show bX5_raised_4 (LX5_raised_4 n) r x u k m = _
      unfold bX5_raised_4
      rw [wi_id (z := (k : Int)) (by omega) (by omega), wi_id (z := x) (by omega) (by omega), if_pos (by omega), mTimes hu hr, cl_some]
      exact ih (k + 1) n _ (by omega) (by omega) (rs_mod _) (by rw [Int.pow_succ]; exact ep_t (ep_m _) (ep_u e (ep_r _)))
  exact key x.toNat 0 FU 1 (by omega) (fu_lt (by omega)) ⟨by decide, by decide⟩ (by rw [Int.pow_zero]; exact ep_r 1)
/-- two sheets, as both sides have them -/
theorem two_sheet {g m : HP} (hJ : JJ g m) {x y : Int} (wx : wi x = x) (wy : wi y = y) :
    ((¬ (0 ≤ x ∧ x < 10) ∨ ¬ (0 ≤ y ∧ y < 10)) ∧ fX4_refuseSheets x y g = some (-2, g)) ∨
    ((0 ≤ x ∧ x < 10) ∧ (0 ≤ y ∧ y < 10) ∧ fX4_refuseSheets x y g = some (-11, hs g 0 1 1) ∧ (-1 ≤ m 1 x.toNat ∧ m 1 x.toNat ≤ 2) ∧ (-1 ≤ m 1 y.toNat ∧ m 1 y.toNat ≤ 2) ∧ (m 1 x.toNat = -1 ∨ m 1 y.toNat = -1)) ∨
    ((0 ≤ x ∧ x < 10) ∧ (0 ≤ y ∧ y < 10) ∧ WS g x.toNat ∧ WS g y.toNat ∧ fX4_refuseSheets x y g = some (0, g) ∧ WM m x.toNat ∧ WM m y.toNat ∧ (0 ≤ m 1 x.toNat ∧ m 1 x.toNat ≤ 2) ∧ (0 ≤ m 1 y.toNat ∧ m 1 y.toNat ≤ 2) ∧ m 2 x.toNat = g (2 + x.toNat) 2 ∧ m 2 y.toNat = g (2 + y.toNat) 2 ∧ nm m x.toNat = nb g x.toNat ∧ nm m y.toNat = nb g y.toNat) := by
  by_cases c : 0 ≤ x ∧ x < 10
  · by_cases d : 0 ≤ y ∧ y < 10
    · have hs1 : x.toNat < 10 := by omega
      have hs2 : y.toNat < 10 := by omega
      have z1 := J_sz hJ hs1
      have z2 := J_sz hJ hs2
      by_cases hl : g (2 + x.toNat) 2 = -1 ∨ g (2 + y.toNat) 2 = -1
      · refine Or.inr (Or.inl ⟨c, d, pRS_null c d g z1 z2 hl, J_k1 hJ hs1, J_k1 hJ hs2, ?_⟩)
        rcases hl with hl | hl
        · exact Or.inl (J_lost hJ hs1 hl)
        · exact Or.inr (J_lost hJ hs2 hl)
      · obtain ⟨hw, k1, k2, k3, k4⟩ := J_ws hJ hs1 (fun q => hl (Or.inl q))
        obtain ⟨hw', l1, l2, l3, l4⟩ := J_ws hJ hs2 (fun q => hl (Or.inr q))
        have hm := J_wm hJ hs1 (fun q => hl (Or.inl q))
        have hm' := J_wm hJ hs2 (fun q => hl (Or.inr q))
        exact Or.inr (Or.inr ⟨c, d, hw, hw', pRS_ok c d g ⟨hw.1, hw.2.1⟩ ⟨hw'.1, hw'.2.1⟩, hm, hm', ⟨k1, k2⟩, ⟨l1, l2⟩, k3, l3, nm_nb hJ hs1 (fun q => hl (Or.inl q)), nm_nb hJ hs2 (fun q => hl (Or.inr q))⟩)
    · exact Or.inl ⟨Or.inr d, pRS_bad wx wy (Or.inr d) g⟩
  · exact Or.inl ⟨Or.inl c, pRS_bad wx wy (Or.inl c) g⟩
def bt (R C : Nat → Int) (N : Int) (t j : Nat) : Int := C j * R j ^ t * chf N t
theorem pBuL {x1 x2 x3 x4 x5 : Int} (c1 : 0 ≤ x1 ∧ x1 < 10) (c2 : 0 ≤ x2 ∧ x2 < 10) (c3 : 0 ≤ x3 ∧ x3 ≤ 12) (c4 : 0 ≤ x4 ∧ x4 ≤ 8) (g0 : HP) (hw1 : WS g0 x1.toNat) (hw2 : WS g0 x2.toNat) : ∀ (d i n : Nat) (g : HP), x3 - i = d → d < n → sameC g0 g → R9 g 26 → (∀ t : Nat, (t : Int) ≤ x4 → ep (g 26 t) (sm (bt (nb g0 x1.toNat) (nb g0 x2.toNat) x4 t) i)) → ∃ g', LX4_build_91 n x1 x2 x3 x4 x5 i g = (cl (fX4_keepForm x5 x4 g') fun r139 h139 => some (r139, h139)) ∧ sameC g0 g' ∧ R9 g' 26 ∧ (∀ t : Nat, (t : Int) ≤ x4 → ep (g' 26 t) (sm (bt (nb g0 x1.toNat) (nb g0 x2.toNat) x4 t) x3.toNat)) := by
  intro d
  induction d with
  | zero =>
    intro i n g q1 q3 hc hr hk
    obtain ⟨n, rfl⟩ : ∃ k, n = k + 1 := ⟨n - 1, by omega⟩
    refine ⟨g, ?_, hc, hr, fun t ht => by rw [show x3.toNat = i by omega]; exact hk t ht⟩
    show bX4_build_91 (LX4_build_91 n) x1 x2 x3 x4 x5 i g = _
    unfold bX4_build_91
    rw [wi_id (z := (i : Int)) (by omega) (by omega), wi_id (z := x3) (by omega) (by omega), if_neg (by omega)]
  | succ d ih =>
    intro i n g q1 q3 hc hr hk
    obtain ⟨n, rfl⟩ : ∃ k, n = k + 1 := ⟨n - 1, by omega⟩
    have s1 : x1.toNat < 10 := by omega
    have s2 : x2.toNat < 10 := by omega
    obtain ⟨g1, a1, a2, a3, a4⟩ := pAddP (a := 26) (by decide) c4 (nb_rs g x1.toNat i) (nb_rs g x2.toNat i) hr
    obtain ⟨g', e1, e2, e3, e4⟩ := ih (i + 1) n g1 (by omega) (by omega) (sC_t hc (sC_o (a := 26) (by decide) a2)) a3 (fun t ht => by
      have := a4 t ht
      rw [nb_same s1 hc, nb_same s2 hc] at this
      exact ep_t this (ep_a (hk t ht) (ep_r _)))
    refine ⟨g', ?_, e2, e3, e4⟩
    show bX4_build_91 (LX4_build_91 n) x1 x2 x3 x4 x5 i g = _
    unfold bX4_build_91
    rw [wi_id (z := (i : Int)) (by omega) (by omega), wi_id (z := x3) (by omega) (by omega), if_pos (by omega), lda_t c1.1 c1.2, pNum s1 (WS_same s1 hw1 hc) (by omega) (wi_id (by omega) (by omega)), cl_some, lda_t c2.1 c2.2, pNum s2 (WS_same s2 hw2 hc) (by omega) (wi_id (by omega) (by omega)), cl_some, Int.toNat_natCast, a1, cl_some]
    exact e1
theorem mBu1 {x1 x2 x3 x4 x5 : Int} (c1 : 0 ≤ x1 ∧ x1 < 10) (c2 : 0 ≤ x2 ∧ x2 < 10) (c4 : 0 ≤ x4 ∧ x4 ≤ 8) {i : Nat} (hi : i < 12) (m0 : HP) (hw1 : wi (m0 3 (12 * x1.toNat + i)) = m0 3 (12 * x1.toNat + i)) (hw2 : wi (m0 3 (12 * x2.toNat + i)) = m0 3 (12 * x2.toNat + i)) (K : Int → Int → Int → Int → Int → Int → HP → Option (Int × HP)) : ∀ (d t n : Nat) (m : HP), x4 + 1 - t = d → d < n → m 3 = m0 3 → R9 m 7 → ∃ m', LX5_build_118 K n x1 x2 x3 x4 x5 i t m = K x1 x2 x3 x4 x5 (i + 1) m' ∧ (∀ k, k ≠ 7 → m' k = m k) ∧ R9 m' 7 ∧ (∀ j : Nat, j < t → m' 7 j = m 7 j) ∧ ∀ j : Nat, t ≤ j → (j : Int) ≤ x4 → ep (m' 7 j) (m 7 j + m0 3 (12 * x2.toNat + i) % 10007 * (m0 3 (12 * x1.toNat + i) % 10007) ^ j * chf x4 j) := by
  intro d
  induction d with
  | zero =>
    intro t n m q1 q3 h3 hr
    obtain ⟨n, rfl⟩ : ∃ k, n = k + 1 := ⟨n - 1, by omega⟩
    refine ⟨m, ?_, fun _ _ => rfl, hr, fun _ _ => rfl, fun j p1 p2 => by omega⟩
    show bX5_build_118 K (LX5_build_118 K n) x1 x2 x3 x4 x5 i t m = _
    unfold bX5_build_118
    rw [wi_id (z := (t : Int)) (by omega) (by omega), wi_id (z := x4) (by omega) (by omega), if_neg (by omega)]
  | succ d ih =>
    intro t n m q1 q3 h3 hr
    obtain ⟨n, rfl⟩ : ∃ k, n = k + 1 := ⟨n - 1, by omega⟩
    have b1 := rs_mul (rs_mod (m0 3 (12 * x2.toNat + i) % 10007 * ((m0 3 (12 * x1.toNat + i) % 10007) ^ t % 10007))) (chf_rs c4 (k := t) (by omega))
    have b2 := hr t (by omega)
    have b3 := b2.1; have b4 := b2.2
    have w1 := wi_rng hw1
    have w2 := wi_rng hw2
    obtain ⟨m', e1, e2, e3, e4, e5⟩ := ih (t + 1) n (hs m 7 t ((m 7 t + m0 3 (12 * x2.toNat + i) % 10007 * ((m0 3 (12 * x1.toNat + i) % 10007) ^ t % 10007) % 10007 * chf x4 t) % 10007)) (by omega) (by omega) (by rw [hs_ne (by decide)]; exact h3) (R9_hs hr (rs_mod _) 7 rfl)
    refine ⟨m', ?_, fun k hk => (e2 k hk).trans (hs_ne hk), e3, fun j hj => (e4 j (by omega)).trans (hs_j (by omega)), fun j p1 p2 => ?_⟩
    · show bX5_build_118 K (LX5_build_118 K n) x1 x2 x3 x4 x5 i t m = _
      unfold bX5_build_118
      rw [wi_id (z := (t : Int)) (by omega) (by omega), wi_id (z := x4) (by omega) (by omega), if_pos (by omega), mi_ld (by omega), show (12 * x2 + i).toNat = 12 * x2.toNat + i by omega, h3, hw2, mMod (by omega) (by omega), cl_some, mi_ld (by omega), show (12 * x1 + i).toNat = 12 * x1.toNat + i by omega, h3, hw1, mMod (by omega) (by omega), cl_some, mRai (rs_mod _) (by omega), cl_some, mTimes (rs_mod _) (rs_mod _), cl_some, m7_ld (by omega), mOv c4 (by omega), cl_some, Int.toNat_natCast, rs_wi b2, rs_wi (rs_mod _), rs_wi (chf_rs c4 (k := t) (by omega)), mMod (by omega) (by omega), cl_some, m7_st (by omega), Int.toNat_natCast]
      exact e1
    · by_cases z : j = t
      · rw [e4 j (by omega), z, hs_s]
        exact ep_t (ep_m _) (ep_a (ep_r _) (ep_u (ep_t (ep_m _) (ep_u (ep_r _) (ep_m _))) (ep_r _)))
      · have := e5 j (by omega) p2
        rwa [hs_j z] at this
theorem mBu2 {x1 x2 x3 x4 x5 : Int} (c1 : 0 ≤ x1 ∧ x1 < 10) (c2 : 0 ≤ x2 ∧ x2 < 10) (c3 : 0 ≤ x3 ∧ x3 ≤ 12) (c4 : 0 ≤ x4 ∧ x4 ≤ 8) (m0 : HP) (hw1 : WM m0 x1.toNat) (hw2 : WM m0 x2.toNat) (z1 : x3 ≤ m0 2 x1.toNat) (z2 : x3 ≤ m0 2 x2.toNat) : ∀ (d i n : Nat) (m : HP), x3 - i = d → d < n → m 3 = m0 3 → R9 m 7 → (∀ t : Nat, (t : Int) ≤ x4 → ep (m 7 t) (sm (bt (nm m0 x1.toNat) (nm m0 x2.toNat) x4 t) i)) → ∃ m', LX5_build_109 n x1 x2 x3 x4 x5 i m = (cl (fX5_lay x5 m') fun r213 h213 => some (r213, h213)) ∧ (∀ k, k ≠ 7 → m' k = m k) ∧ R9 m' 7 ∧ (∀ t : Nat, (t : Int) ≤ x4 → ep (m' 7 t) (sm (bt (nm m0 x1.toNat) (nm m0 x2.toNat) x4 t) x3.toNat)) := by
  intro d
  induction d with
  | zero =>
    intro i n m q1 q3 h3 hr hk
    obtain ⟨n, rfl⟩ : ∃ k, n = k + 1 := ⟨n - 1, by omega⟩
    refine ⟨m, ?_, fun _ _ => rfl, hr, fun t ht => by rw [show x3.toNat = i by omega]; exact hk t ht⟩
    show bX5_build_109 (LX5_build_109 n) x1 x2 x3 x4 x5 i m = _
    unfold bX5_build_109
    rw [wi_id (z := (i : Int)) (by omega) (by omega), wi_id (z := x3) (by omega) (by omega), if_neg (by omega)]
  | succ d ih =>
    intro i n m q1 q3 h3 hr hk
    obtain ⟨n, rfl⟩ : ∃ k, n = k + 1 := ⟨n - 1, by omega⟩
    obtain ⟨m1, f1, f2, f3, f4, f5⟩ := mBu1 (x3 := x3) (x5 := x5) c1 c2 c4 (i := i) (by omega) m0 (hw1.2.2 i (by omega)) (hw2.2.2 i (by omega)) (LX5_build_109 n) (x4 + 1).toNat 0 FU m (by omega) (fu_lt (by omega)) h3 hr
    obtain ⟨m', e1, e2, e3, e4⟩ := ih (i + 1) n m1 (by omega) (by omega) ((f2 3 (by decide)).trans h3) f3 (fun t ht => by
      have := f5 t (by omega) ht
      refine ep_t this (ep_a (hk t ht) ?_)
      unfold bt nm
      rw [if_pos (by omega), if_pos (by omega)]
      exact ep_r _)
    refine ⟨m', ?_, fun k hk => (e2 k hk).trans (f2 k hk), e3, e4⟩
    show bX5_build_109 (LX5_build_109 n) x1 x2 x3 x4 x5 i m = _
    unfold bX5_build_109
    rw [show ((0 : Nat) : Int) = 0 from rfl] at f1
    rw [wi_id (z := (i : Int)) (by omega) (by omega), wi_id (z := x3) (by omega) (by omega), if_pos (by omega), f1]
    exact e1
theorem R9_0' {m : HP} {a : Nat} (h : ∀ j, j < 20 → m a j = 0) : R9 m a := fun j hj => by rw [h j (by omega)]; exact ⟨by decide, by decide⟩
theorem mBu_bad {x1 x2 x3 x4 x5 : Int} (w1 : wi x1 = x1) (w2 : wi x2 = x2) (w3 : wi x3 = x3) (w4 : wi x4 = x4) (w5 : wi x5 = x5) (h : ¬ ((0 ≤ x1 ∧ x1 < 10) ∧ (0 ≤ x2 ∧ x2 < 10) ∧ (0 ≤ x3 ∧ x3 ≤ 12) ∧ (0 ≤ x4 ∧ x4 ≤ 8) ∧ (0 ≤ x5 ∧ x5 < 10))) (m : HP) : fX5_build x1 x2 x3 x4 x5 m = some (-2, m) := by
  unfold fX5_build
  by_cases c1 : 0 ≤ x1 ∧ x1 < 10
  · rw [mIS_ok c1.1 c1.2, cl_some, if_neg (by decide)]
    by_cases c2 : 0 ≤ x2 ∧ x2 < 10
    · rw [mIS_ok c2.1 c2.2, cl_some, if_neg (by decide)]
      by_cases c3 : 0 ≤ x3 ∧ x3 ≤ 12
      · rw [mIn_y w3 rfl rfl c3.1 c3.2, cl_some, if_neg (by decide)]
        by_cases c4 : 0 ≤ x4 ∧ x4 ≤ 8
        · rw [mIn_y w4 rfl rfl c4.1 c4.2, cl_some, if_neg (by decide), mIS_bad w5 (by omega), cl_some, if_pos wi_0]
        · rw [mIn_n w4 rfl rfl c4, cl_some, if_pos wi_0]
      · rw [mIn_n w3 rfl rfl c3, cl_some, if_pos wi_0]
    · rw [mIS_bad w2 c2, cl_some, if_pos wi_0]
  · rw [mIS_bad w1 c1, cl_some, if_pos wi_0]
theorem g_build : G_build JJ := by
  intro g m hJ x1 x2 x3 x4 x5 w1 w2 w3 w4 w5
  have k8 : wi 8 = 8 := rfl
  have k12 : wi 12 = 12 := rfl
  by_cases c5 : (0 ≤ x5 ∧ x5 < 10) ∧ (0 ≤ x3 ∧ x3 ≤ 12) ∧ (0 ≤ x4 ∧ x4 ≤ 8)
  · obtain ⟨c5, c3, c4⟩ := c5
    have cl0 : fX4_build x1 x2 x3 x4 x5 g = (cl (fX4_refuseSheets x1 x2 g) fun r36 h36 => if wi r36 = 0 then (lda x1 fun q54 => if wi x3 ≤ wi (h36 q54 2) then (lda x2 fun q67 => if wi (h36 q67 2) < wi x3 then (cl (fX4_found 2 h36) fun r77 h77 => some (r77, h77)) else (cl (fX2_clear 26 h36) fun _ h85 => LX4_build_91 FU x1 x2 x3 x4 x5 0 h85)) else (cl (fX4_found 2 h36) fun r77 h77 => some (r77, h77))) else (some (r36, h36))) := by
      unfold fX4_build
      rw [pNS_ok c5.1 c5.2, cl_some, if_pos wi_0, w3, w4, k8, k12, if_pos c3.1, if_pos c3.2, if_pos c4.1, if_neg (by omega)]
    rcases two_sheet hJ w1 w2 with ⟨c, e⟩ | ⟨c, d, e, k1, k2, hl⟩ | ⟨c, d, hw, hw', e, hm, hm', k1, k2, k3, k4, k5, k6⟩
    · refine ⟨-2, -2, g, m, ?_, mBu_bad w1 w2 w3 w4 w5 (by omega) m, rfl, hJ⟩
      rw [cl0, e, cl_some, if_neg (by decide)]
    · refine ⟨-11, -11, hs g 0 1 1, hs m 0 4 1, ?_, ?_, rfl, JJ_met hJ 1 (by decide) (by decide)⟩
      · rw [cl0, e, cl_some, if_neg (by decide)]
      · unfold fX5_build
        rw [mIS_ok c.1 c.2, cl_some, if_neg (by decide), mIS_ok d.1 d.2, cl_some, if_neg (by decide), mIn_y w3 rfl rfl c3.1 c3.2, cl_some, if_neg (by decide), mIn_y w4 rfl rfl c4.1 c4.2, cl_some, if_neg (by decide), mIS_ok c5.1 c5.2, cl_some, if_neg (by decide), mk_ld c, wi_id (z := m 1 x1.toNat) (by omega) (by omega)]
        by_cases z : 0 ≤ m 1 x1.toNat
        · rw [if_pos z, mk_ld d, wi_id (by omega) (by omega), if_pos (by omega), mMet]; rfl
        · rw [if_neg z, mMet]; rfl
    · have s1 : x1.toNat < 10 := by omega
      have s2 : x2.toNat < 10 := by omega
      have a1 := hw.1; have a2 := hw.2.1; have a3 := hw'.1; have a4 := hw'.2.1
      have ml0 : fX5_build x1 x2 x3 x4 x5 m = (if x3 ≤ m 2 x1.toNat then (if m 2 x2.toNat < x3 then (cl (fX5_met 2 m) fun r96 h96 => some (r96, h96)) else (cl (fX5_noughtH x4 m) fun _ h103 => LX5_build_109 FU x1 x2 x3 x4 x5 0 h103)) else (cl (fX5_met 2 m) fun r96 h96 => some (r96, h96))) := by
        unfold fX5_build
        rw [mIS_ok c.1 c.2, cl_some, if_neg (by decide), mIS_ok d.1 d.2, cl_some, if_neg (by decide), mIn_y w3 rfl rfl c3.1 c3.2, cl_some, if_neg (by decide), mIn_y w4 rfl rfl c4.1 c4.2, cl_some, if_neg (by decide), mIS_ok c5.1 c5.2, cl_some, if_neg (by decide), mk_ld c, wi_id (z := m 1 x1.toNat) (by omega) (by omega), if_pos k1.1, mk_ld d, wi_id (z := m 1 x2.toNat) (by omega) (by omega), if_neg (by omega), ms_ld c, ms_ld d, w3, wi_id (z := m 2 x1.toNat) (by omega) (by omega), wi_id (z := m 2 x2.toNat) (by omega) (by omega)]
      by_cases z : x3 ≤ g (2 + x1.toNat) 2 ∧ x3 ≤ g (2 + x2.toNat) 2
      · obtain ⟨gc, d1, d2, d3⟩ := pClear l26 (by decide) g
        obtain ⟨g3, o1, o2, o3, o4⟩ := pBuL (x5 := x5) c d c3 c4 g hw hw' x3.toNat 0 FU gc (by omega) (fu_lt (by omega)) (sC_o (a := 26) (by decide) d2) (R9_0 d3) (fun t ht => by rw [d3 t (by omega)]; exact ep_r 0)
        obtain ⟨m2, n1, n2, n3, n4, n5⟩ := mNou (n := x4) m
        obtain ⟨m3, q1, q2, q3, q4⟩ := mBu2 (x5 := x5) c d c3 c4 m hm hm' (by omega) (by omega) x3.toNat 0 FU m2 (by omega) (fu_lt (by omega)) (n2 3 (by decide) (by decide)) (R9_0' n5) (fun t ht => by rw [n5 t (by omega)]; exact ep_r 0)
        have hm3 : sameM m m3 := ⟨by rw [q2 0 (by decide), n3 4 (by decide)], (q2 1 (by decide)).trans (n2 1 (by decide) (by decide)), (q2 2 (by decide)).trans (n2 2 (by decide) (by decide)), (q2 3 (by decide)).trans (n2 3 (by decide) (by decide))⟩
        obtain ⟨g4, m4, p1, p2, hJ4⟩ := keep_form hJ o2 hm3 c5 (n := x4) c4 (by rw [q2 0 (by decide), n4]) (fun i hi => ⟨o3 i (by omega), ep_i (q3 i (by omega)) (o3 i (by omega)) (ep_t (q4 i hi) (ep_s (by
          have := o4 i hi
          rwa [← k5, ← k6] at this)))⟩)
        refine ⟨x4, x4, g4, m4, ?_, ?_, rfl, hJ4⟩
        · rw [cl0, e, cl_some, if_pos wi_0, lda_t c.1 c.2, lda_t d.1 d.2, w3, wi_id (z := g (2 + x1.toNat) 2) (by omega) (by omega), wi_id (z := g (2 + x2.toNat) 2) (by omega) (by omega), if_pos z.1, if_neg (by omega), d1, cl_some]
          rw [show ((0 : Nat) : Int) = 0 from rfl] at o1
          rw [o1, p1, cl_some]
        · rw [ml0, if_pos (by omega), if_neg (by omega), n1, cl_some]
          rw [show ((0 : Nat) : Int) = 0 from rfl] at q1
          rw [q1, p2, cl_some]
      · refine ⟨-12, -12, hs g 0 1 2, hs m 0 4 2, ?_, ?_, rfl, JJ_met hJ 2 (by decide) (by decide)⟩
        · rw [cl0, e, cl_some, if_pos wi_0, lda_t c.1 c.2, lda_t d.1 d.2, w3, wi_id (z := g (2 + x1.toNat) 2) (by omega) (by omega), wi_id (z := g (2 + x2.toNat) 2) (by omega) (by omega)]
          by_cases y : x3 ≤ g (2 + x1.toNat) 2
          · rw [if_pos y, if_pos (by omega), pFound]; rfl
          · rw [if_neg y, pFound]; rfl
        · rw [ml0]
          by_cases y : x3 ≤ m 2 x1.toNat
          · rw [if_pos y, if_pos (by omega), mMet]; rfl
          · rw [if_neg y, mMet]; rfl
  · refine ⟨-2, -2, g, m, ?_, mBu_bad w1 w2 w3 w4 w5 (by omega) m, rfl, hJ⟩
    unfold fX4_build
    by_cases z5 : 0 ≤ x5 ∧ x5 < 10
    · rw [pNS_ok z5.1 z5.2, cl_some, if_pos wi_0, w3, w4, k8, k12]
      by_cases z : 0 ≤ x3
      · rw [if_pos z]
        by_cases y : x3 ≤ 12
        · rw [if_pos y]
          by_cases x : 0 ≤ x4
          · rw [if_pos x, if_pos (by omega)]
          · rw [if_neg x]
        · rw [if_neg y]
      · rw [if_neg z]
    · rw [pNS_bad w5 z5, cl_some, if_neg (by decide)]
