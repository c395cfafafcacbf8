theorem m4_ld {α : Type} {x : Int} (hx : 0 ≤ x ∧ x < 12) {row : Nat → Int} {k : Int → Option α} : ld (lnM 4) row x k = k (row x.toNat) := ld_t hx.1 (by rw [lnM4]; omega) (by rw [lnM4]; omega)
theorem m4_st {α : Type} {x v : Int} (hx : 0 ≤ x ∧ x < 12) {h : HP} {k : HP → Option α} : sto (lnM 4) h 4 x v k = k (hs h 4 x.toNat v) := sto_t hx.1 (by rw [lnM4]; omega) (by rw [lnM4]; omega)
theorem mCp1 {x1 x2 x3 x4 x5 : Int} (h1 : 0 ≤ x1 ∧ x1 < 10) (h2 : 0 ≤ x2) (h5 : 0 ≤ x5) (h25 : x2 + x5 ≤ 12) : ∀ (d : Nat) (a : Int) (n : Nat) (g : HP), x5 - a = d → 0 ≤ a → d < n → ∃ g', LX5_copy_120 n x1 x2 x3 x4 x5 a g = LX5_copy_157 FU x3 x4 x5 0 g' ∧ (∀ k, k ≠ 4 → g' k = g k) ∧ (∀ j : Nat, (j : Int) < a → g' 4 j = g 4 j) ∧ ∀ j : Nat, a ≤ j → j < x5 → g' 4 j = g 3 (12 * x1.toNat + x2.toNat + j) := by
  intro d
  induction d with
  | zero =>
    intro a n g q1 q2 q3
    obtain ⟨n, rfl⟩ : ∃ k, n = k + 1 := ⟨n - 1, by omega⟩
    refine ⟨g, ?_, fun _ _ => rfl, fun _ _ => rfl, fun j p1 p2 => by omega⟩
    show bX5_copy_120 (LX5_copy_120 n) x1 x2 x3 x4 x5 a g = _
    unfold bX5_copy_120
    rw [wi_id (z := a) (by omega) (by omega), wi_id (z := x5) (by omega) (by omega), if_neg (by omega)]
  | succ d ih =>
    intro a n g q1 q2 q3
    obtain ⟨n, rfl⟩ : ∃ k, n = k + 1 := ⟨n - 1, by omega⟩
    obtain ⟨g', e1, e2, e3, e4⟩ := ih (a + 1) n (hs g 4 a.toNat (g 3 (12 * x1 + x2 + a).toNat)) (by omega) (by omega) (by omega)
    refine ⟨g', ?_, fun k hk => (e2 k hk).trans (hs_ne hk), fun j hj => (e3 j (by omega)).trans (hs_j (by omega)), fun j p1 p2 => ?_⟩
    · show bX5_copy_120 (LX5_copy_120 n) x1 x2 x3 x4 x5 a g = _
      unfold bX5_copy_120
      rw [wi_id (z := a) (by omega) (by omega), wi_id (z := x5) (by omega) (by omega), if_pos (by omega), mi_ld (by omega), m4_st (by omega)]
      exact e1
    · by_cases c : (j : Int) = a
      · rw [e3 j (by omega), show j = a.toNat by omega, hs_s]
        congr 1
        omega
      · rw [e4 j (by omega) p2, hs_k (by decide)]
theorem mCp2 {x3 x4 x5 : Int} (h3 : 0 ≤ x3 ∧ x3 < 10) (h4 : 0 ≤ x4) (h5 : 0 ≤ x5) (h45 : x4 + x5 ≤ 12) : ∀ (d : Nat) (a : Int) (n : Nat) (g : HP), x5 - a = d → 0 ≤ a → d < n → ∃ g', LX5_copy_157 n x3 x4 x5 a g = some (1, g') ∧ (∀ k, k ≠ 3 → g' k = g k) ∧ (∀ j : Nat, ((j : Int) < 12 * x3 + x4 + a ∨ 12 * x3 + x4 + x5 ≤ j) → g' 3 j = g 3 j) ∧ ∀ j : Nat, a ≤ j → j < x5 → g' 3 (12 * x3.toNat + x4.toNat + j) = g 4 j := by
  intro d
  induction d with
  | zero =>
    intro a n g q1 q2 q3
    obtain ⟨n, rfl⟩ : ∃ k, n = k + 1 := ⟨n - 1, by omega⟩
    refine ⟨g, ?_, fun _ _ => rfl, fun _ _ => rfl, fun j p1 p2 => by omega⟩
    show bX5_copy_157 (LX5_copy_157 n) x3 x4 x5 a g = _
    unfold bX5_copy_157
    rw [wi_id (z := a) (by omega) (by omega), wi_id (z := x5) (by omega) (by omega), if_neg (by omega)]
  | succ d ih =>
    intro a n g q1 q2 q3
    obtain ⟨n, rfl⟩ : ∃ k, n = k + 1 := ⟨n - 1, by omega⟩
    obtain ⟨g', e1, e2, e3, e4⟩ := ih (a + 1) n (hs g 3 (12 * x3 + x4 + a).toNat (g 4 a.toNat)) (by omega) (by omega) (by omega)
    refine ⟨g', ?_, fun k hk => (e2 k hk).trans (hs_ne hk), fun j hj => (e3 j (by omega)).trans (hs_j (by omega)), fun j p1 p2 => ?_⟩
    · show bX5_copy_157 (LX5_copy_157 n) x3 x4 x5 a g = _
      unfold bX5_copy_157
      rw [wi_id (z := a) (by omega) (by omega), wi_id (z := x5) (by omega) (by omega), if_pos (by omega), m4_ld (by omega), mi_st (by omega)]
      exact e1
    · by_cases c : (j : Int) = a
      · rw [e3 _ (by omega), show 12 * x3.toNat + x4.toNat + j = (12 * x3 + x4 + a).toNat by omega, hs_s]
        congr 1
        omega
      · rw [e4 j (by omega) p2, hs_k (by decide)]
theorem g_copy : G_copy JJ := by
  intro g m hJ x1 x2 x3 x4 x5 w1 w2 w3 w4 w5
  have r2 := wi_rng w2
  have r4 := wi_rng w4
  have r5 := wi_rng w5
  by_cases c1 : 0 ≤ x1 ∧ x1 < 10
  · by_cases c3 : 0 ≤ x3 ∧ x3 < 10
    · have hs1 : x1.toNat < 10 := by omega
      have hs3 : x3.toNat < 10 := by omega
      have z1 := J_sz hJ hs1
      have z3 := J_sz hJ hs3
      by_cases cn : g (2 + x1.toNat) 2 = -1 ∨ g (2 + x3.toNat) 2 = -1
      · refine ⟨-11, -11, hs g 0 1 1, hs m 0 4 1, ?_, ?_, rfl, JJ_met hJ 1 (by decide) (by decide)⟩
        · unfold fX4_copy
          rw [pRS_null c1 c3 g z1 z3 cn, cl_some, if_neg (by decide)]
        · unfold fX5_copy
          rw [mIS_ok c1.1 c1.2, cl_some, if_neg (by decide), mIS_ok c3.1 c3.2, cl_some, if_neg (by decide), mk_ld c1]
          rcases hJ.1 x1.toNat hs1 with ⟨a1, a2⟩ | ⟨a1, a2, a3, a4, a5, a6, a7⟩
          · rw [a2, if_neg (by decide), mMet]; rfl
          · rw [a6, wi_id (by omega) (by omega), if_pos a4, mk_ld c3]
            rcases hJ.1 x3.toNat hs3 with ⟨b1, b2⟩ | ⟨b1, b2, b3, b4, b5, b6, b7⟩
            · rw [b2, if_pos (by decide), mMet]; rfl
            · omega
      · rcases hJ.1 x1.toNat hs1 with ⟨a1, a2⟩ | ⟨a1, a2, a3, a4, a5, a6, a7⟩
        · omega
        rcases hJ.1 x3.toNat hs3 with ⟨b1, b2⟩ | ⟨b1, b2, b3, b4, b5, b6, b7⟩
        · omega
        have mh : fX5_copy x1 x2 x3 x4 x5 m = if m 1 x1.toNat = m 1 x3.toNat then (if 0 ≤ x2 ∧ 0 ≤ x4 ∧ 0 ≤ x5 ∧ x2 + x5 ≤ m 2 x1.toNat ∧ x4 + x5 ≤ m 2 x3.toNat then LX5_copy_120 FU x1 x2 x3 x4 x5 0 m else some (-12, hs m 0 4 2)) else some (-14, hs m 0 4 4) := by
          unfold fX5_copy
          simp only [cpl_le, cpl_gt]
          have k1 : wi (m 1 x1.toNat) = m 1 x1.toNat := wi_id (by omega) (by omega)
          have k3 : wi (m 1 x3.toNat) = m 1 x3.toNat := wi_id (by omega) (by omega)
          have s1 : wi (m 2 x1.toNat) = m 2 x1.toNat := wi_id (by omega) (by omega)
          have s3 : wi (m 2 x3.toNat) = m 2 x3.toNat := wi_id (by omega) (by omega)
          rw [mIS_ok c1.1 c1.2, cl_some, if_neg (by decide), mIS_ok c3.1 c3.2, cl_some, if_neg (by decide)]
          simp only [mk_ld c1, mk_ld c3, ms_ld c1, ms_ld c3, k1, k3, s1, s3, w2, w4, w5]
          rw [wl_id (z := x2 + x5) (by omega) (by omega), wl_id (z := x4 + x5) (by omega) (by omega), wl_id (z := m 2 x1.toNat) (by omega) (by omega), wl_id (z := m 2 x3.toNat) (by omega) (by omega), if_pos (by omega), if_neg (by omega)]
          by_cases d0 : m 1 x1.toNat = m 1 x3.toNat
          · rw [if_pos d0, if_pos d0]
            by_cases d1 : 0 ≤ x2
            · rw [if_pos d1]
              by_cases d2 : 0 ≤ x4
              · rw [if_pos d2]
                by_cases d3 : 0 ≤ x5
                · rw [if_pos d3]
                  by_cases d4 : x2 + x5 ≤ m 2 x1.toNat
                  · rw [if_pos d4]
                    by_cases d5 : m 2 x3.toNat < x4 + x5
                    · rw [if_pos d5, if_neg (by omega), mMet]; rfl
                    · rw [if_neg d5, if_pos (by omega)]
                  · rw [if_neg d4, if_neg (by omega), mMet]; rfl
                · rw [if_neg d3, if_neg (by omega), mMet]; rfl
              · rw [if_neg d2, if_neg (by omega), mMet]; rfl
            · rw [if_neg d1, if_neg (by omega), mMet]; rfl
          · rw [if_neg d0, if_neg d0, mMet]; rfl
        by_cases ck : g (2 + x1.toNat) 1 = g (2 + x3.toNat) 1
        · by_cases ci : 0 ≤ x2 ∧ 0 ≤ x4 ∧ 0 ≤ x5 ∧ x2 + x5 ≤ g (2 + x1.toNat) 2 ∧ x4 + x5 ≤ g (2 + x3.toNat) 2
          · obtain ⟨i1, i2, i3, i4, i5⟩ := ci
            obtain ⟨m1, f1, f2, f3, f4⟩ := mCp1 (x1 := x1) (x2 := x2) (x3 := x3) (x4 := x4) (x5 := x5) c1 i1 i3 (by omega) x5.toNat 0 FU m (by omega) (by omega) (fu_lt (by omega))
            obtain ⟨m2, k1, k2, k3, k4⟩ := mCp2 (x3 := x3) (x4 := x4) (x5 := x5) c3 i2 i3 (by omega) x5.toNat 0 FU m1 (by omega) (by omega) (fu_lt (by omega))
            refine ⟨1, 1, hcp g (2 + x1.toNat + 10) x2.toNat (2 + x3.toNat + 10) x4.toNat x5.toNat, m2, ?_, ?_, rfl, ?_⟩
            · unfold fX4_copy
              rw [pRS_ok c1 c3 g ⟨a1, a2⟩ ⟨b1, b2⟩, cl_some, if_pos wi_0, lda_t c1.1 c1.2, lda_t c3.1 c3.2, ck, if_pos rfl, pHo_y i1 i3 w2 w5 z1 (by omega), cl_some, if_neg (by decide), pHo_y i2 i3 w4 w5 z3 (by omega), cl_some, if_neg (by decide)]
              unfold acp
              rw [w2, w4, w5, if_pos (by omega)]
            · rw [mh, if_pos (by omega), if_pos (by omega), f1, k1]
            · have hk : ∀ k, k ≠ 2 + x3.toNat + 10 → hcp g (2 + x1.toNat + 10) x2.toNat (2 + x3.toNat + 10) x4.toNat x5.toNat k = g k := fun k hk => by
                funext y
                unfold hcp
                rw [if_neg (fun z => hk z.1)]
              have mo : ∀ k, k ≠ 3 → k ≠ 4 → m2 k = m k := fun k q1 q2 => (k2 k q1).trans (f2 k q2)
              refine JJ_set hJ x3.toNat (by rw [hk 0 (by omega)]) (by rw [mo 0 (by decide) (by decide)]) (fun t ht hne => ⟨hk _ (by omega), hk _ (by omega)⟩) (fun t ht hne => ⟨by rw [mo 1 (by decide) (by decide)], by rw [mo 2 (by decide) (by decide)], fun i hi => by rw [k3 _ (by omega), f2 3 (by decide)]⟩) ?_
              have e9 := hk (2 + x3.toNat) (by omega)
              refine Or.inr ⟨by rw [e9]; exact b1, by rw [e9]; exact b2, by rw [e9, mo 2 (by decide) (by decide)]; exact b3, by rw [e9]; exact b4, by rw [e9]; exact b5, by rw [e9, mo 1 (by decide) (by decide)]; exact b6, fun i hi => ?_⟩
              rw [e9] at hi
              by_cases q : x4.toNat ≤ i ∧ i < x4.toNat + x5.toNat
              · have q1 : hcp g (2 + x1.toNat + 10) x2.toNat (2 + x3.toNat + 10) x4.toNat x5.toNat (2 + x3.toNat + 10) i = g (2 + x1.toNat + 10) (x2.toNat + (i - x4.toNat)) := by
                  unfold hcp
                  rw [if_pos ⟨rfl, q.1, q.2⟩]
                have q2 : m2 3 (12 * x3.toNat + i) = m 3 (12 * x1.toNat + (x2.toNat + (i - x4.toNat))) := by
                  have := k4 (i - x4.toNat) (by omega) (by omega)
                  rw [show 12 * x3.toNat + x4.toNat + (i - x4.toNat) = 12 * x3.toNat + i by omega] at this
                  rw [this, f4 _ (by omega) (by omega)]
                  congr 1
                  omega
                rw [q1, q2]
                exact a7 _ (by omega)
              · have q1 : hcp g (2 + x1.toNat + 10) x2.toNat (2 + x3.toNat + 10) x4.toNat x5.toNat (2 + x3.toNat + 10) i = g (2 + x3.toNat + 10) i := by
                  unfold hcp
                  rw [if_neg (fun z => q ⟨z.2.1, z.2.2⟩)]
                rw [q1, k3 _ (by omega), f2 3 (by decide)]
                exact b7 i hi
          · refine ⟨-12, -12, hs g 0 1 2, hs m 0 4 2, ?_, ?_, rfl, JJ_met hJ 2 (by decide) (by decide)⟩
            · unfold fX4_copy
              rw [pRS_ok c1 c3 g ⟨a1, a2⟩ ⟨b1, b2⟩, cl_some, if_pos wi_0, lda_t c1.1 c1.2, lda_t c3.1 c3.2, ck, if_pos rfl]
              by_cases d1 : 0 ≤ x2 ∧ 0 ≤ x5 ∧ x5 ≤ g (2 + x1.toNat) 2 - x2
              · rw [pHo_y d1.1 d1.2.1 w2 w5 z1 d1.2.2, cl_some, if_neg (by decide), pHo_n w4 w5 z3 (by omega), cl_some, if_pos wi_0, pFound]; rfl
              · rw [pHo_n w2 w5 z1 d1, cl_some, if_pos wi_0, pFound]; rfl
            · rw [mh, if_pos (by omega), if_neg (by omega)]
        · refine ⟨-14, -14, hs g 0 1 4, hs m 0 4 4, ?_, ?_, rfl, JJ_met hJ 4 (by decide) (by decide)⟩
          · unfold fX4_copy
            rw [pRS_ok c1 c3 g ⟨a1, a2⟩ ⟨b1, b2⟩, cl_some, if_pos wi_0, lda_t c1.1 c1.2, lda_t c3.1 c3.2, wi_id (by omega) (by omega), wi_id (by omega) (by omega), if_neg ck, pFound]; rfl
          · rw [mh, if_neg (by omega)]
    · refine ⟨-2, -2, g, m, ?_, ?_, rfl, hJ⟩
      · unfold fX4_copy
        rw [pRS_bad w1 w3 (Or.inr c3), cl_some, if_neg (by decide)]
      · unfold fX5_copy
        rw [mIS_ok c1.1 c1.2, cl_some, if_neg (by decide), mIS_bad w3 c3, cl_some, if_pos wi_0]
  · refine ⟨-2, -2, g, m, ?_, ?_, rfl, hJ⟩
    · unfold fX4_copy
      rw [pRS_bad w1 w3 (Or.inl c1), cl_some, if_neg (by decide)]
    · unfold fX5_copy
      rw [mIS_bad w1 c1, cl_some, if_pos wi_0]
