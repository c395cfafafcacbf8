theorem one_form {g m : HP} (hJ : JJ g m) {x : Int} (wx : wi x = x) :
    (¬ (0 ≤ x ∧ x < 10) ∧ fX4_refuseForms x x g = some (-2, g)) ∨
    ((0 ≤ x ∧ x < 10) ∧ ∃ (r : Int) (g1 m1 : HP), wi r ≠ 0 ∧ fX4_refuseForms x x g = some (r, g1) ∧ fX5_lacksOne x m = some (r, m1) ∧ JJ g1 m1) ∨
    ((0 ≤ x ∧ x < 10) ∧ WS g x.toNat ∧ (1 ≤ g (2 + x.toNat) 2 ∧ g (2 + x.toNat) 2 ≤ 9) ∧ fX4_refuseForms x x g = some (0, g) ∧ ∃ m1 : HP, fX5_lacksOne x m = some (0, m1) ∧ (∀ k, k ≠ 5 → k ≠ 0 → m1 k = m k) ∧ (∀ j, j ≠ 6 → m1 0 j = m 0 j) ∧ m1 0 6 = g (2 + x.toNat) 2 - 1 ∧ ∀ j : Nat, j < 9 → m1 5 j = nb g x.toNat j) := by
  by_cases c : 0 ≤ x ∧ x < 10
  · have hs1 : x.toNat < 10 := by omega
    by_cases hl : g (2 + x.toNat) 2 = -1
    · refine Or.inr (Or.inl ⟨c, -11, hs g 0 1 1, hs m 0 4 1, by decide, pRF_null c c g (by omega) (by omega) (Or.inl hl), mLO_null c (J_lost hJ hs1 hl), JJ_met hJ 1 (by decide) (by decide)⟩)
    · obtain ⟨hw, k1, k2, k3, k4⟩ := J_ws hJ hs1 hl
      have hm := J_wm hJ hs1 hl
      have hw' := hw.1
      have hw2 := hw.2.1
      by_cases hf : 1 ≤ g (2 + x.toNat) 2 ∧ g (2 + x.toNat) 2 ≤ 9
      · obtain ⟨m1, e1, e2, e3, e4, e5⟩ := mLO_ok c ⟨k1, k2⟩ hm (by omega)
        exact Or.inr (Or.inr ⟨c, hw, hf, pRF_ok c c g hf hf, m1, e1, e2, e3, by rw [e4, k3], fun j hj => by rw [e5 j hj, nm_nb hJ hs1 hl]⟩)
      · exact Or.inr (Or.inl ⟨c, -3, g, m, by decide, pRF_not c c g ⟨hw', hw2⟩ ⟨hw', hw2⟩ (Or.inl hf), mLO_not c ⟨k1, k2⟩ (by omega) (by omega), hJ⟩)
  · exact Or.inl ⟨c, pRF_bad wx wx (Or.inl c) g⟩
theorem J_k1 {g m : HP} (hJ : JJ g m) {s : Nat} (hs' : s < 10) : -1 ≤ m 1 s ∧ m 1 s ≤ 2 := by
  rcases hJ.1 s hs' with h | h <;> omega
theorem two_form {g m : HP} (hJ : JJ g m) {x y : Int} (wx : wi x = x) (wy : wi y = y) :
    ((¬ (0 ≤ x ∧ x < 10) ∨ ¬ (0 ≤ y ∧ y < 10)) ∧ fX4_refuseForms x y g = some (-2, g)) ∨
    ((0 ≤ x ∧ x < 10) ∧ (0 ≤ y ∧ y < 10) ∧ ∃ (r : Int) (g1 m1 : HP), wi r ≠ 0 ∧ fX4_refuseForms x y g = some (r, g1) ∧ fX5_lacksTwo x y m = some (r, m1) ∧ JJ g1 m1) ∨
    ((0 ≤ x ∧ x < 10) ∧ (0 ≤ y ∧ y < 10) ∧ WS g x.toNat ∧ WS g y.toNat ∧ (1 ≤ g (2 + x.toNat) 2 ∧ g (2 + x.toNat) 2 ≤ 9) ∧ (1 ≤ g (2 + y.toNat) 2 ∧ g (2 + y.toNat) 2 ≤ 9) ∧ fX4_refuseForms x y g = some (0, g) ∧ ∃ m1 : HP, fX5_lacksTwo x y m = some (0, m1) ∧ (∀ k, k ≠ 5 → k ≠ 6 → k ≠ 0 → m1 k = m k) ∧ (∀ j, j ≠ 6 → j ≠ 8 → m1 0 j = m 0 j) ∧ m1 0 6 = g (2 + x.toNat) 2 - 1 ∧ m1 0 8 = g (2 + y.toNat) 2 - 1 ∧ (∀ j : Nat, j < 9 → m1 5 j = nb g x.toNat j) ∧ ∀ j : Nat, j < 9 → m1 6 j = nb g y.toNat j) := by
  by_cases c : 0 ≤ x ∧ x < 10
  · by_cases d : 0 ≤ y ∧ y < 10
    · have hs1 : x.toNat < 10 := by omega
      have hs2 : y.toNat < 10 := by omega
      have z1 := J_sz hJ hs1
      have z2 := J_sz hJ hs2
      by_cases hl : g (2 + x.toNat) 2 = -1 ∨ g (2 + y.toNat) 2 = -1
      · refine Or.inr (Or.inl ⟨c, d, -11, hs g 0 1 1, hs m 0 4 1, by decide, pRF_null c d g z1 z2 hl, mLT_null c d (J_k1 hJ hs1) (J_k1 hJ hs2) ?_, JJ_met hJ 1 (by decide) (by decide)⟩)
        rcases hl with hl | hl
        · exact Or.inl (J_lost hJ hs1 hl)
        · exact Or.inr (J_lost hJ hs2 hl)
      · obtain ⟨hw, k1, k2, k3, k4⟩ := J_ws hJ hs1 (fun q => hl (Or.inl q))
        obtain ⟨hw', l1, l2, l3, l4⟩ := J_ws hJ hs2 (fun q => hl (Or.inr q))
        have hm := J_wm hJ hs1 (fun q => hl (Or.inl q))
        have hm' := J_wm hJ hs2 (fun q => hl (Or.inr q))
        have a1 := hw.1; have a2 := hw.2.1; have a3 := hw'.1; have a4 := hw'.2.1
        by_cases hf : (1 ≤ g (2 + x.toNat) 2 ∧ g (2 + x.toNat) 2 ≤ 9) ∧ (1 ≤ g (2 + y.toNat) 2 ∧ g (2 + y.toNat) 2 ≤ 9)
        · obtain ⟨m1, e1, e2, e3, e4, e5, e6, e7⟩ := mLT_ok c d ⟨k1, k2⟩ ⟨l1, l2⟩ hm hm' (by omega) (by omega)
          exact Or.inr (Or.inr ⟨c, d, hw, hw', hf.1, hf.2, pRF_ok c d g hf.1 hf.2, m1, e1, e2, e3, by rw [e4, k3], by rw [e5, l3], fun j hj => by rw [e6 j hj, nm_nb hJ hs1 (fun q => hl (Or.inl q))], fun j hj => by rw [e7 j hj, nm_nb hJ hs2 (fun q => hl (Or.inr q))]⟩)
        · exact Or.inr (Or.inl ⟨c, d, -3, g, m, by decide, pRF_not c d g ⟨a1, a2⟩ ⟨a3, a4⟩ (by omega), mLT_not c d ⟨k1, k2⟩ ⟨l1, l2⟩ (by omega) (by omega) (by omega), hJ⟩)
    · exact Or.inl ⟨Or.inr d, pRF_bad wx wy (Or.inr d) g⟩
  · exact Or.inl ⟨Or.inl c, pRF_bad wx wy (Or.inl c) g⟩
theorem sM_1 {m m1 : HP} (h1 : ∀ k, k ≠ 5 → k ≠ 0 → m1 k = m k) (h2 : ∀ j, j ≠ 6 → m1 0 j = m 0 j) : sameM m m1 := ⟨h2 4 (by decide), h1 1 (by decide) (by decide), h1 2 (by decide) (by decide), h1 3 (by decide) (by decide)⟩
theorem sM_2 {m m1 : HP} (h1 : ∀ k, k ≠ 5 → k ≠ 6 → k ≠ 0 → m1 k = m k) (h2 : ∀ j, j ≠ 6 → j ≠ 8 → m1 0 j = m 0 j) : sameM m m1 := ⟨h2 4 (by decide) (by decide), h1 1 (by decide) (by decide) (by decide), h1 2 (by decide) (by decide) (by decide), h1 3 (by decide) (by decide) (by decide)⟩
theorem g_term : G_term JJ := by
  intro g m hJ x1 x2 w1 w2
  by_cases c2 : 0 ≤ x2 ∧ x2 ≤ 8
  · have e2 : wi 8 = 8 := rfl
    rcases one_form hJ w1 with ⟨c, e⟩ | ⟨c, r, g1, m1, r0, e, f, hJ1⟩ | ⟨c, hw, hf, e, m1, f1, f2, f3, f4, f5⟩
    · refine ⟨-2, -2, g, m, ?_, ?_, rfl, hJ⟩
      · unfold fX4_term
        rw [w2, e2, if_pos c2.1, if_neg (by omega), e, cl_some, if_neg (by decide)]
      · unfold fX5_term
        rw [mIS_bad w1 c, cl_some, if_pos wi_0]
    · refine ⟨r, r, g1, m1, ?_, ?_, rfl, hJ1⟩
      · unfold fX4_term
        rw [w2, e2, if_pos c2.1, if_neg (by omega), e, cl_some, if_neg r0]
      · unfold fX5_term
        rw [mIS_ok c.1 c.2, cl_some, if_neg (by decide), mIn_y w2 rfl rfl c2.1 c2.2, cl_some, if_neg (by decide), f, cl_some, if_neg r0]
    · refine ⟨nb g x1.toNat x2.toNat, nb g x1.toNat x2.toNat, g, m1, ?_, ?_, rfl, JJ_same hJ (sC_r g) (sM_1 f2 f3)⟩
      · unfold fX4_term
        rw [w2, e2, if_pos c2.1, if_neg (by omega), e, cl_some, if_pos wi_0, lda_t c.1 c.2, pNum (by omega) hw c2.1 w2]; rfl
      · unfold fX5_term
        rw [mIS_ok c.1 c.2, cl_some, if_neg (by decide), mIn_y w2 rfl rfl c2.1 c2.2, cl_some, if_neg (by decide), f1, cl_some, if_pos wi_0, m5_ld (by omega), f5 x2.toNat (by omega)]
  · have r2 := wi_rng w2
    refine ⟨-2, -2, g, m, ?_, ?_, rfl, hJ⟩
    · unfold fX4_term
      rw [w2, wi_id (z := 8) (by decide) (by decide)]
      by_cases d : 0 ≤ x2
      · rw [if_pos d, if_pos (by omega)]
      · rw [if_neg d]
    · unfold fX5_term
      by_cases c : 0 ≤ x1 ∧ x1 < 10
      · rw [mIS_ok c.1 c.2, cl_some, if_neg (by decide), mIn_n w2 rfl rfl c2, cl_some, if_pos wi_0]
      · rw [mIS_bad w1 c, cl_some, if_pos wi_0]
theorem g_degree : G_degree JJ := by
  intro g m hJ x1 w1
  rcases one_form hJ w1 with ⟨c, e⟩ | ⟨c, r, g1, m1, r0, e, f, hJ1⟩ | ⟨c, hw, hf, e, m1, f1, f2, f3, f4, f5⟩
  · refine ⟨-2, -2, g, m, ?_, ?_, rfl, hJ⟩
    · unfold fX4_degree
      rw [e, cl_some, if_neg (by decide)]
    · unfold fX5_degree
      rw [mIS_bad w1 c, cl_some, if_pos wi_0]
  · refine ⟨r, r, g1, m1, ?_, ?_, rfl, hJ1⟩
    · unfold fX4_degree
      rw [e, cl_some, if_neg r0]
    · unfold fX5_degree
      rw [mIS_ok c.1 c.2, cl_some, if_neg (by decide), f, cl_some, if_neg r0]
  · refine ⟨g (2 + x1.toNat) 2 - 1, g (2 + x1.toNat) 2 - 1, g, m1, ?_, ?_, rfl, JJ_same hJ (sC_r g) (sM_1 f2 f3)⟩
    · unfold fX4_degree
      rw [e, cl_some, if_pos wi_0, lda_t c.1 c.2]; rfl
    · unfold fX5_degree
      rw [mIS_ok c.1 c.2, cl_some, if_neg (by decide), f1, cl_some, if_pos wi_0, f4]
-- a form is kept
theorem pBecL {u : Nat} (hu : u < 10) {k : Int} (hk : 0 ≤ k ∧ k ≤ 9) : ∀ (d : Nat) (i : Int) (n : Nat) (g : HP), g (2 + u) 1 = 2 → g (2 + u) 2 = k → k - i = d → 0 ≤ i → d < n → ∃ g', LX3_become_8 n (2 + u) 26 k i g = some (0, g') ∧ (∀ c, c ≠ 2 + u + 10 → g' c = g c) ∧ (∀ j : Nat, (j : Int) < i → g' (2 + u + 10) j = g (2 + u + 10) j) ∧ ∀ j : Nat, i ≤ j → j < k → g' (2 + u + 10) j = g 26 j := by
  have l26 : ((lnC 26 : Nat) : Int) = 9 := rfl
  intro d
  induction d with
  | zero =>
    intro i n g g1 g2 q1 q2 q3
    obtain ⟨n, rfl⟩ : ∃ k, n = k + 1 := ⟨n - 1, by omega⟩
    refine ⟨g, ?_, fun _ _ => rfl, fun _ _ => rfl, fun j p1 p2 => by omega⟩
    show bX3_become_8 (LX3_become_8 n) (2 + u) 26 k i g = _
    unfold bX3_become_8
    rw [wi_id (z := i) (by omega) (by omega), wi_id (z := k) (by omega) (by omega), if_neg (by omega)]
  | succ d ih =>
    intro i n g g1 g2 q1 q2 q3
    obtain ⟨n, rfl⟩ : ∃ k, n = k + 1 := ⟨n - 1, by omega⟩
    have k1 : hs g (2 + u + 10) i.toNat (g 26 i.toNat) (2 + u) = g (2 + u) := hs_ne (by omega)
    obtain ⟨g', e1, e2, e3, e4⟩ := ih (i + 1) n (hs g (2 + u + 10) i.toNat (g 26 i.toNat)) (by rw [k1]; exact g1) (by rw [k1]; exact g2) (by omega) (by omega) (by omega)
    refine ⟨g', ?_, fun c hc => (e2 c hc).trans (hs_ne hc), fun j hj => (e3 j (by omega)).trans (hs_j (by omega)), fun j p1 p2 => ?_⟩
    · show bX3_become_8 (LX3_become_8 n) (2 + u) 26 k i g = _
      unfold bX3_become_8 fX3_store
      rw [l26, wi_id (z := i) (by omega) (by omega), wi_id (z := k) (by omega) (by omega), wi_id (z := 9) (by decide) (by decide), if_pos (by omega), if_pos (by omega), w_ld (by decide) (by omega), pHo_y q2 (by decide) (wi_id (by omega) (by omega)) wi_1 (by omega) (by omega), cl_some, if_neg (by decide), g1, if_neg (by decide), if_neg (by decide), sto_t q2 (by rw [lnS hu]; omega) (by rw [lnS hu]; omega), cl_some]
      exact e1
    · by_cases c : (j : Int) = i
      · rw [e3 j (by omega), show j = i.toNat by omega, hs_s]
      · rw [e4 j (by omega) p2, hs_k (by omega)]
theorem pBec {u : Nat} (hu : u < 10) {k : Int} (hk : 0 ≤ k ∧ k ≤ 9) (g : HP) : ∃ g', fX3_become (2 + u) 26 k g = some (0, g') ∧ g' (2 + u) 1 = 2 ∧ g' (2 + u) 2 = k ∧ (∀ c, c ≠ 2 + u → c ≠ 2 + u + 10 → g' c = g c) ∧ ∀ j : Nat, (j : Int) < k → g' (2 + u + 10) j = g 26 j := by
  obtain ⟨g1, e1, e2, e3, e4, e5⟩ := pRenew hu 2 k g
  obtain ⟨g2, f1, f2, f3, f4⟩ := pBecL hu hk k.toNat 0 FU g1 e2 e3 (by omega) (by omega) (fu_lt (by omega))
  refine ⟨g2, ?_, by rw [f2 _ (by omega), e2], by rw [f2 _ (by omega), e3], fun c h1 h2 => (f2 c h2).trans (e4 c h1 h2), fun j hj => by rw [f4 j (by omega) hj, e4 26 (by omega) (by omega)]⟩
  unfold fX3_become
  rw [e1, cl_some, f1]
theorem mLayL {x : Int} (hx : 0 ≤ x ∧ x < 10) {k : Int} (hk : 0 ≤ k ∧ k ≤ 9) : ∀ (d : Nat) (i : Int) (n : Nat) (m : HP), m 0 10 = k - 1 → k - i = d → 0 ≤ i → d < n → ∃ m', LX5_lay_21 n x i m = some (k - 1, m') ∧ (∀ c, c ≠ 3 → m' c = m c) ∧ (∀ j : Nat, ((j : Int) < 12 * x + i ∨ 12 * x + k ≤ j) → m' 3 j = m 3 j) ∧ ∀ j : Nat, i ≤ j → j < k → m' 3 (12 * x.toNat + j) = m 7 j := by
  intro d
  induction d with
  | zero =>
    intro i n m h0 q1 q2 q3
    obtain ⟨n, rfl⟩ : ∃ k, n = k + 1 := ⟨n - 1, by omega⟩
    refine ⟨m, ?_, fun _ _ => rfl, fun _ _ => rfl, fun j p1 p2 => by omega⟩
    show bX5_lay_21 (LX5_lay_21 n) x i m = _
    unfold bX5_lay_21
    rw [h0, wi_id (z := i) (by omega) (by omega), wi_id (z := k - 1) (by omega) (by omega), if_neg (by omega)]
  | succ d ih =>
    intro i n m h0 q1 q2 q3
    obtain ⟨n, rfl⟩ : ∃ k, n = k + 1 := ⟨n - 1, by omega⟩
    obtain ⟨m', e1, e2, e3, e4⟩ := ih (i + 1) n (hs m 3 (12 * x + i).toNat (m 7 i.toNat)) (by rw [hs_k (by decide)]; exact h0) (by omega) (by omega) (by omega)
    refine ⟨m', ?_, fun c hc => (e2 c hc).trans (hs_ne hc), fun j hj => (e3 j (by omega)).trans (hs_j (by omega)), fun j p1 p2 => ?_⟩
    · show bX5_lay_21 (LX5_lay_21 n) x i m = _
      unfold bX5_lay_21
      rw [h0, wi_id (z := i) (by omega) (by omega), wi_id (z := k - 1) (by omega) (by omega), if_pos (by omega), m7_ld (by omega), mi_st (by omega)]
      exact e1
    · by_cases c : (j : Int) = i
      · rw [e3 _ (by omega), show 12 * x.toNat + j = (12 * x + i).toNat by omega, hs_s]
        congr 1
        omega
      · rw [e4 j (by omega) p2, hs_k (by decide)]
theorem mLay {x : Int} (hx : 0 ≤ x ∧ x < 10) {k : Int} (hk : 1 ≤ k ∧ k ≤ 9) {m : HP} (h0 : m 0 10 = k - 1) : ∃ m', fX5_lay x m = some (k - 1, m') ∧ (∀ c, c ≠ 1 → c ≠ 2 → c ≠ 3 → m' c = m c) ∧ (∀ t, t ≠ x.toNat → m' 1 t = m 1 t ∧ m' 2 t = m 2 t) ∧ m' 1 x.toNat = 2 ∧ m' 2 x.toNat = k ∧ (∀ j : Nat, ((j : Int) < 12 * x ∨ 12 * x + k ≤ j) → m' 3 j = m 3 j) ∧ ∀ j : Nat, (j : Int) < k → m' 3 (12 * x.toNat + j) = m 7 j := by
  obtain ⟨m', e1, e2, e3, e4⟩ := mLayL hx (k := k) (by omega) k.toNat 0 FU (hs (hs m 1 x.toNat 2) 2 x.toNat k) (by rw [hs_k (by decide), hs_k (by decide)]; exact h0) (by omega) (by omega) (fu_lt (by omega))
  refine ⟨m', ?_, fun c c1 c2 c3 => by rw [e2 c c3, hs_ne c2, hs_ne c1], fun t ht => ⟨?_, ?_⟩, ?_, ?_, fun j hj => ?_, fun j hj => ?_⟩
  · unfold fX5_lay
    rw [mk_st hx, ms_st hx, hs_k (by decide), h0, show k - 1 + 1 = k by omega, e1]
  · rw [e2 1 (by decide), hs_k (by decide), hs_j ht]
  · rw [e2 2 (by decide), hs_j ht, hs_k (by decide)]
  · rw [e2 1 (by decide), hs_k (by decide), hs_s]
  · rw [e2 2 (by decide), hs_s]
  · rw [e3 j (by omega), hs_k (by decide), hs_k (by decide)]
  · rw [e4 j (by omega) hj, hs_k (by decide), hs_k (by decide)]
/-- the same row becomes a sheet on both sides -/
theorem keep_row {g0 m0 g m : HP} (hJ : JJ g0 m0) (hc : sameC g0 g) (hm : sameM m0 m) {x : Int} (hx : 0 ≤ x ∧ x < 10) {k : Int} (hk : 1 ≤ k ∧ k ≤ 9) (h0 : m 0 10 = k - 1) (hv : ∀ i : Nat, (i : Int) < k → rs (g 26 i) ∧ m 7 i = g 26 i) : ∃ g1 m1, fX3_become (2 + x.toNat) 26 k g = some (0, g1) ∧ fX5_lay x m = some (k - 1, m1) ∧ JJ g1 m1 := by
  have hu : x.toNat < 10 := by omega
  obtain ⟨g1, e1, e2, e3, e4, e5⟩ := pBec hu (k := k) (by omega) g
  obtain ⟨m1, f1, f2, f3, f4, f5, f6, f7⟩ := mLay hx hk h0
  refine ⟨g1, m1, e1, f1, JJ_set (JJ_same hJ hc hm) x.toNat (by rw [e4 0 (by omega) (by omega)]) (by rw [f2 0 (by decide) (by decide) (by decide)]) (fun t ht hne => ⟨e4 _ (by omega) (by omega), e4 _ (by omega) (by omega)⟩) (fun t ht hne => ⟨(f3 t hne).1, (f3 t hne).2, fun i hi => f6 _ (by omega)⟩) (Or.inr ⟨?_, ?_, ?_, ?_, ?_, ?_, fun i hi => ?_⟩)⟩
  · rw [e3]; omega
  · rw [e3]; omega
  · rw [e3, f5]
  · rw [e2]; decide
  · rw [e2]; decide
  · rw [e2, f4]
  · rw [e3] at hi
    obtain ⟨v1, v2⟩ := hv i hi
    rw [e5 i hi, f7 i hi]
    have := v1.1; have := v1.2
    exact ⟨wi_id (by omega) (by omega), v2⟩
theorem keep_form {g0 m0 g m : HP} (hJ : JJ g0 m0) (hc : sameC g0 g) (hm : sameM m0 m) {x : Int} (hx : 0 ≤ x ∧ x < 10) {n : Int} (hn : 0 ≤ n ∧ n ≤ 8) (h0 : m 0 10 = n) (hv : ∀ i : Nat, (i : Int) ≤ n → rs (g 26 i) ∧ m 7 i = g 26 i) : ∃ g1 m1, fX4_keepForm x n g = some (n, g1) ∧ fX5_lay x m = some (n, m1) ∧ JJ g1 m1 := by
  obtain ⟨g1, m1, e1, f1, hJ1⟩ := keep_row hJ hc hm hx (k := n + 1) (by omega) (by omega) (fun i hi => hv i (by omega))
  refine ⟨g1, m1, ?_, by rw [f1, show n + 1 - 1 = n by omega], hJ1⟩
  unfold fX4_keepForm
  rw [lda_t hx.1 hx.2, e1, cl_some]
theorem mNou {n : Int} (m : HP) : ∃ m', fX5_noughtH n m = some (0, m') ∧ (∀ c, c ≠ 0 → c ≠ 7 → m' c = m c) ∧ (∀ j, j ≠ 10 → m' 0 j = m 0 j) ∧ m' 0 10 = n ∧ ∀ j, j < 20 → m' 7 j = 0 := by
  have key : ∀ (d : Nat) (i : Int) (k : Nat) (m : HP), 20 - i = d → 0 ≤ i → d < k → ∃ m', LX5_noughtH_7 k i m = some (0, m') ∧ (∀ c, c ≠ 7 → m' c = m c) ∧ (∀ j : Nat, (j : Int) < i → m' 7 j = m 7 j) ∧ ∀ j : Nat, i ≤ j → j < 20 → m' 7 j = 0 := by
    intro d
    induction d with
    | zero =>
      intro i k m q1 q2 q3
      obtain ⟨k, rfl⟩ : ∃ z, k = z + 1 := ⟨k - 1, by omega⟩
      refine ⟨m, ?_, fun _ _ => rfl, fun _ _ => rfl, fun j p1 p2 => by omega⟩
      show bX5_noughtH_7 (LX5_noughtH_7 k) i m = _
      unfold bX5_noughtH_7
      rw [wi_id (z := i) (by omega) (by omega), wi_id (z := 20) (by decide) (by decide), if_neg (by omega)]
    | succ d ih =>
      intro i k m q1 q2 q3
      obtain ⟨k, rfl⟩ : ∃ z, k = z + 1 := ⟨k - 1, by omega⟩
      obtain ⟨m', e1, e2, e3, e4⟩ := ih (i + 1) k (hs m 7 i.toNat 0) (by omega) (by omega) (by omega)
      refine ⟨m', ?_, fun c hc => (e2 c hc).trans (hs_ne hc), fun j hj => (e3 j (by omega)).trans (hs_j (by omega)), fun j p1 p2 => ?_⟩
      · show bX5_noughtH_7 (LX5_noughtH_7 k) i m = _
        unfold bX5_noughtH_7
        rw [wi_id (z := i) (by omega) (by omega), wi_id (z := 20) (by decide) (by decide), if_pos (by omega), m7_st (by omega)]
        exact e1
      · by_cases c : (j : Int) = i
        · rw [e3 j (by omega), show j = i.toNat by omega, hs_s]
        · exact e4 j (by omega) p2
  obtain ⟨m', e1, e2, e3, e4⟩ := key 20 0 FU (hs m 0 10 n) (by omega) (by omega) (by decide)
  refine ⟨m', ?_, fun c c0 c7 => (e2 c c7).trans (hs_ne c0), fun j hj => ?_, ?_, fun j hj => e4 j (by omega) hj⟩
  · unfold fX5_noughtH
    rw [pf_d, e1]
  · rw [e2 0 (by decide), hs_j hj]
  · rw [e2 0 (by decide), hs_s]
