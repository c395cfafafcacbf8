theorem pHo_y {s : Nat} {x n : Int} {g : HP} (h0 : 0 ≤ x) (hn : 0 ≤ n) (wx : wi x = x) (wn : wi n = n) (h1 : -1 ≤ g (2 + s) 2 ∧ g (2 + s) 2 ≤ 12) (h2 : n ≤ g (2 + s) 2 - x) : fX3_holds (2 + s) x n g = some (1, g) := by
  have := wi_rng wx
  unfold fX3_holds
  rw [wx, wn, wi_id (z := g (2 + s) 2 - x) (by omega) (by omega), if_pos h0, if_pos hn, if_pos h2]
theorem pHo_n {s : Nat} {x n : Int} {g : HP} (wx : wi x = x) (wn : wi n = n) (h1 : -1 ≤ g (2 + s) 2 ∧ g (2 + s) 2 ≤ 12) (h2 : ¬ (0 ≤ x ∧ 0 ≤ n ∧ n ≤ g (2 + s) 2 - x)) : fX3_holds (2 + s) x n g = some (0, g) := by
  have := wi_rng wx
  unfold fX3_holds
  rw [wx, wn]
  by_cases c : 0 ≤ x
  · rw [if_pos c]
    by_cases d : 0 ≤ n
    · rw [if_pos d, wi_id (z := g (2 + s) 2 - x) (by omega) (by omega), if_neg (by omega)]
    · rw [if_neg d]
  · rw [if_neg c]
theorem pRI_bad {x k i : Int} (wx : wi x = x) (wk : wi k = k) (hb : ¬ (0 ≤ x ∧ x < 10) ∨ ¬ (0 ≤ k ∧ k ≤ 2)) (g : HP) : fX4_refuseItem x k i g = some (-2, g) := by
  unfold fX4_refuseItem
  by_cases c : 0 ≤ k ∧ k ≤ 2
  · rw [pNK_ok c.1 c.2, cl_some, if_pos wi_0, pRS_bad wx wx (by omega), cl_some, if_neg (by decide)]
  · rw [pNK_bad wk c, cl_some, if_neg (by decide)]
theorem pRI_null {x k i : Int} (hx : 0 ≤ x ∧ x < 10) (hk : 0 ≤ k ∧ k ≤ 2) {g : HP} (hl : g (2 + x.toNat) 2 = -1) : fX4_refuseItem x k i g = some (-11, hs g 0 1 1) := by
  unfold fX4_refuseItem
  rw [pNK_ok hk.1 hk.2, cl_some, if_pos wi_0, pRS_null hx hx g (by omega) (by omega) (Or.inl hl), cl_some, if_neg (by decide)]
theorem pRI_cast {x k i : Int} (hx : 0 ≤ x ∧ x < 10) (hk : 0 ≤ k ∧ k ≤ 2) {g : HP} (h1 : 0 ≤ g (2 + x.toNat) 2 ∧ g (2 + x.toNat) 2 ≤ 12) (h2 : 0 ≤ g (2 + x.toNat) 1 ∧ g (2 + x.toNat) 1 ≤ 2) (hc : g (2 + x.toNat) 1 ≠ k) : fX4_refuseItem x k i g = some (-13, hs g 0 1 3) := by
  unfold fX4_refuseItem
  rw [pNK_ok hk.1 hk.2, cl_some, if_pos wi_0, pRS_ok hx hx g h1 h1, cl_some, if_pos wi_0, lda_t hx.1 hx.2, wi_id (by omega) (by omega), wi_id (by omega) (by omega), if_neg hc, pFound]; rfl
theorem pRI_index {x k i : Int} (hx : 0 ≤ x ∧ x < 10) (hk : 0 ≤ k ∧ k ≤ 2) (wi' : wi i = i) {g : HP} (h1 : 0 ≤ g (2 + x.toNat) 2 ∧ g (2 + x.toNat) 2 ≤ 12) (hc : g (2 + x.toNat) 1 = k) (hi : ¬ (0 ≤ i ∧ i < g (2 + x.toNat) 2)) : fX4_refuseItem x k i g = some (-12, hs g 0 1 2) := by
  unfold fX4_refuseItem
  rw [pNK_ok hk.1 hk.2, cl_some, if_pos wi_0, pRS_ok hx hx g h1 h1, cl_some, if_pos wi_0, lda_t hx.1 hx.2, hc, if_pos rfl, lda_t hx.1 hx.2, pHo_n wi' wi_1 (by omega) (by omega), cl_some, if_pos wi_0, pFound]; rfl
theorem pRI_ok {x k i : Int} (hx : 0 ≤ x ∧ x < 10) (hk : 0 ≤ k ∧ k ≤ 2) (wi' : wi i = i) {g : HP} (h1 : 0 ≤ g (2 + x.toNat) 2 ∧ g (2 + x.toNat) 2 ≤ 12) (hc : g (2 + x.toNat) 1 = k) (hi : 0 ≤ i ∧ i < g (2 + x.toNat) 2) : fX4_refuseItem x k i g = some (0, g) := by
  unfold fX4_refuseItem
  rw [pNK_ok hk.1 hk.2, cl_some, if_pos wi_0, pRS_ok hx hx g h1 h1, cl_some, if_pos wi_0, lda_t hx.1 hx.2, hc, if_pos rfl, lda_t hx.1 hx.2, pHo_y hi.1 (by decide) wi' wi_1 (by omega) (by omega), cl_some, if_neg (by decide)]
theorem mLk_null {x k i : Int} (hx : 0 ≤ x ∧ x < 10) {m : HP} (hl : m 1 x.toNat = -1) : fX5_lacks x k i m = some (-11, hs m 0 4 1) := by
  unfold fX5_lacks
  rw [mk_ld hx, hl, if_pos (by decide), mMet]; rfl
theorem mLk_cast {x k i : Int} (hx : 0 ≤ x ∧ x < 10) (hk : 0 ≤ k ∧ k ≤ 2) {m : HP} (h2 : 0 ≤ m 1 x.toNat ∧ m 1 x.toNat ≤ 2) (hc : m 1 x.toNat ≠ k) : fX5_lacks x k i m = some (-13, hs m 0 4 3) := by
  unfold fX5_lacks
  rw [mk_ld hx, mk_ld hx, wi_id (z := m 1 x.toNat) (by omega) (by omega), wi_id (z := k) (by omega) (by omega), if_neg (by omega), if_neg hc, mMet]; rfl
theorem mLk_index {x k i : Int} (hx : 0 ≤ x ∧ x < 10) (hk : 0 ≤ k ∧ k ≤ 2) (wi' : wi i = i) {m : HP} (h1 : 0 ≤ m 2 x.toNat ∧ m 2 x.toNat ≤ 12) (hc : m 1 x.toNat = k) (hi : ¬ (0 ≤ i ∧ i < m 2 x.toNat)) : fX5_lacks x k i m = some (-12, hs m 0 4 2) := by
  unfold fX5_lacks
  have e : wi (m 2 x.toNat - 1) = m 2 x.toNat - 1 := wi_id (by omega) (by omega)
  rw [mk_ld hx, mk_ld hx, hc, wi_id (z := k) (by omega) (by omega), if_neg (by omega), if_pos rfl, ms_ld hx, e, mIn_n wi' wi_0 e (by omega), cl_some, if_pos wi_0, mMet]; rfl
theorem mLk_ok {x k i : Int} (hx : 0 ≤ x ∧ x < 10) (hk : 0 ≤ k ∧ k ≤ 2) (wi' : wi i = i) {m : HP} (h1 : 0 ≤ m 2 x.toNat ∧ m 2 x.toNat ≤ 12) (hc : m 1 x.toNat = k) (hi : 0 ≤ i ∧ i < m 2 x.toNat) : fX5_lacks x k i m = some (0, m) := by
  unfold fX5_lacks
  have e : wi (m 2 x.toNat - 1) = m 2 x.toNat - 1 := wi_id (by omega) (by omega)
  rw [mk_ld hx, mk_ld hx, hc, wi_id (z := k) (by omega) (by omega), if_neg (by omega), if_pos rfl, ms_ld hx, e, mIn_y wi' wi_0 e hi.1 (by omega), cl_some, if_neg (by decide)]
theorem g_lose : G_lose JJ := by
  intro g m hJ x1 w1
  have r1 := wi_rng w1
  by_cases c1 : 0 ≤ x1 ∧ x1 < 10
  · have hs1 : x1.toNat < 10 := by omega
    rcases hJ.1 x1.toNat hs1 with ⟨a1, a2⟩ | ⟨a1, a2, a3, a4, a5, a6, a7⟩
    · refine ⟨-11, -11, hs g 0 1 1, hs m 0 4 1, ?_, ?_, rfl, JJ_met hJ 1 (by decide) (by decide)⟩
      · unfold fX4_lose
        rw [pRS_null c1 c1 g (by omega) (by omega) (Or.inl a1), cl_some, if_neg (by decide)]
      · unfold fX5_lose
        rw [mIS_ok c1.1 c1.2, cl_some, if_neg (by decide), mk_ld c1, a2, if_pos (by decide), mMet]; rfl
    · refine ⟨g (2 + x1.toNat) 2, m 2 x1.toNat, hs g (2 + x1.toNat) 2 (-1), hs m 1 x1.toNat (-1), ?_, ?_, by rw [a3], ?_⟩
      · unfold fX4_lose
        rw [pRS_ok c1 c1 g ⟨a1, a2⟩ ⟨a1, a2⟩, cl_some, if_pos wi_0, lda_t c1.1 c1.2, lt_d, lda_t c1.1 c1.2]; rfl
      · unfold fX5_lose
        rw [mIS_ok c1.1 c1.2, cl_some, if_neg (by decide), mk_ld c1, a6, wi_id (by omega) (by omega), if_neg (by omega), mk_st c1, ms_ld c1, hs_k (by decide)]
      · refine JJ_set hJ x1.toNat (hs_k (by omega)) (hs_k (by decide)) (fun t ht hne => ⟨hs_ne (by omega), hs_ne (by omega)⟩) (fun t ht hne => ⟨hs_j hne, hs_k (by decide), fun i hi => hs_k (by decide)⟩) (Or.inl ⟨hs_s _ _ _ _, hs_s _ _ _ _⟩)
  · refine ⟨-2, -2, g, m, ?_, ?_, rfl, hJ⟩
    · unfold fX4_lose
      rw [pRS_bad w1 w1 (Or.inl c1), cl_some, if_neg (by decide)]
    · unfold fX5_lose
      rw [mIS_bad w1 c1, cl_some, if_pos wi_0]
theorem b8_rng (v : Int) : wi (b8 v) = b8 v := by unfold b8; exact wi_ti _
theorem b16_rng (v : Int) : wi (b16 v) = b16 v := by unfold b16; exact wi_ti _
/-- one item of one sheet becomes v on both sides -/
theorem JJ_item {g m : HP} (hJ : JJ g m) {s i : Nat} (hs' : s < 10) (a1 : 0 ≤ g (2 + s) 2) (hi : (i : Int) < g (2 + s) 2) {v : Int} (hv : wi v = v) : JJ (hs g (2 + s + 10) i v) (hs m 3 (12 * s + i) v) := by
  have hz := J_sz hJ hs'
  refine JJ_set hJ s (hs_k (by omega)) (hs_k (by decide)) (fun t ht hne => ⟨hs_ne (by omega), hs_ne (by omega)⟩) (fun t ht hne => ⟨hs_k (by decide), hs_k (by decide), fun j hj => hs_j (by omega)⟩) ?_
  rcases hJ.1 s hs' with ⟨b1, b2⟩ | ⟨b1, b2, b3, b4, b5, b6, b7⟩
  · omega
  · have e : hs g (2 + s + 10) i v (2 + s) = g (2 + s) := hs_ne (by omega)
    refine Or.inr ⟨by rw [e]; exact b1, by rw [e]; exact b2, by rw [e, hs_k (by decide)]; exact b3, by rw [e]; exact b4, by rw [e]; exact b5, by rw [e, hs_k (by decide)]; exact b6, fun j hj => ?_⟩
    rw [e] at hj
    by_cases c : j = i
    · subst c
      rw [hs_s, hs_s]
      exact ⟨hv, rfl⟩
    · rw [hs_j c, hs_j (by omega)]
      exact b7 j hj
theorem g_put : G_put JJ := by
  intro g m hJ x1 x2 x3 x4 w1 w2 w3 w4
  have r1 := wi_rng w1
  by_cases c1 : 0 ≤ x1 ∧ x1 < 10
  · by_cases c2 : 0 ≤ x2 ∧ x2 ≤ 2
    · have hs1 : x1.toNat < 10 := by omega
      rcases hJ.1 x1.toNat hs1 with ⟨a1, a2⟩ | ⟨a1, a2, a3, a4, a5, a6, a7⟩
      · refine ⟨-11, -11, hs g 0 1 1, hs m 0 4 1, ?_, ?_, rfl, JJ_met hJ 1 (by decide) (by decide)⟩
        · unfold fX4_put
          rw [pRI_null c1 c2 a1, cl_some, if_neg (by decide)]
        · unfold fX5_put
          rw [mIS_ok c1.1 c1.2, cl_some, if_neg (by decide), mIn_y w2 rfl rfl c2.1 c2.2, cl_some, if_neg (by decide), mLk_null c1 a2, cl_some, if_neg (by decide)]
      · by_cases c3 : g (2 + x1.toNat) 1 = x2
        · by_cases c4 : 0 ≤ x3 ∧ x3 < g (2 + x1.toNat) 2
          · have ei : (12 * x1 + x3).toNat = 12 * x1.toNat + x3.toNat := by omega
            have key : ∀ v : Int, wi v = v → JJ (hs g (2 + x1.toNat + 10) x3.toNat v) (hs m 3 (12 * x1.toNat + x3.toNat) v) := fun v hv => JJ_item hJ hs1 a1 (by omega) hv
            have hst : ∀ v : Int, ∀ k : HP → Option (Int × HP), sto (lnC (2 + x1.toNat + 10)) g (2 + x1.toNat + 10) x3 v k = k (hs g (2 + x1.toNat + 10) x3.toNat v) := fun v k => sto_t c4.1 (by rw [lnS hs1]; omega) (by rw [lnS hs1]; omega)
            have hp : ∀ v : Int, (v = if x2 = 0 then b8 x4 else if x2 = 1 then b16 x4 else x4) → fX4_put x1 x2 x3 x4 g = some (1, hs g (2 + x1.toNat + 10) x3.toNat v) ∧ fX5_put x1 x2 x3 x4 m = some (1, hs m 3 (12 * x1.toNat + x3.toNat) v) := by
              intro v hv
              constructor
              · unfold fX4_put fX3_store
                rw [pRI_ok c1 c2 w3 ⟨a1, a2⟩ c3 c4, cl_some, if_pos wi_0, lda_t c1.1 c1.2, pHo_y c4.1 (by decide) w3 wi_1 (by omega) (by omega), cl_some, if_neg (by decide), hst, hst, hst, c3, w2]
                by_cases d0 : x2 = 0
                · rw [if_pos d0] at hv ⊢; rw [cl_some, hv]
                · rw [if_neg d0] at hv ⊢
                  by_cases d1 : x2 = 1
                  · rw [if_pos d1] at hv ⊢; rw [cl_some, hv]
                  · rw [if_neg d1] at hv ⊢; rw [cl_some, hv]
              · unfold fX5_put
                rw [mIS_ok c1.1 c1.2, cl_some, if_neg (by decide), mIn_y w2 rfl rfl c2.1 c2.2, cl_some, if_neg (by decide), mLk_ok c1 c2 w3 (by omega) (by omega) (by omega), cl_some, if_pos wi_0, mi_st (by omega), mi_st (by omega), mi_st (by omega), ei, w2, wi_1]
                by_cases d0 : x2 = 0
                · rw [if_pos d0] at hv ⊢; rw [hv]
                · rw [if_neg d0] at hv ⊢
                  by_cases d1 : x2 = 1
                  · rw [if_pos d1] at hv ⊢; rw [hv]
                  · rw [if_neg d1] at hv ⊢; rw [hv]
            obtain ⟨q1, q2⟩ := hp _ rfl
            refine ⟨1, 1, _, _, q1, q2, rfl, key _ ?_⟩
            by_cases d0 : x2 = 0
            · rw [if_pos d0]; exact b8_rng _
            · rw [if_neg d0]
              by_cases d1 : x2 = 1
              · rw [if_pos d1]; exact b16_rng _
              · rw [if_neg d1]; exact w4
          · refine ⟨-12, -12, hs g 0 1 2, hs m 0 4 2, ?_, ?_, rfl, JJ_met hJ 2 (by decide) (by decide)⟩
            · unfold fX4_put
              rw [pRI_index c1 c2 w3 ⟨a1, a2⟩ c3 c4, cl_some, if_neg (by decide)]
            · unfold fX5_put
              rw [mIS_ok c1.1 c1.2, cl_some, if_neg (by decide), mIn_y w2 rfl rfl c2.1 c2.2, cl_some, if_neg (by decide), mLk_index c1 c2 w3 (by omega) (by omega) (by omega), cl_some, if_neg (by decide)]
        · refine ⟨-13, -13, hs g 0 1 3, hs m 0 4 3, ?_, ?_, rfl, JJ_met hJ 3 (by decide) (by decide)⟩
          · unfold fX4_put
            rw [pRI_cast c1 c2 ⟨a1, a2⟩ ⟨a4, a5⟩ c3, cl_some, if_neg (by decide)]
          · unfold fX5_put
            rw [mIS_ok c1.1 c1.2, cl_some, if_neg (by decide), mIn_y w2 rfl rfl c2.1 c2.2, cl_some, if_neg (by decide), mLk_cast c1 c2 (by omega) (by omega), cl_some, if_neg (by decide)]
    · refine ⟨-2, -2, g, m, ?_, ?_, rfl, hJ⟩
      · unfold fX4_put
        rw [pRI_bad w1 w2 (Or.inr c2), cl_some, if_neg (by decide)]
      · unfold fX5_put
        rw [mIS_ok c1.1 c1.2, cl_some, if_neg (by decide), mIn_n w2 rfl rfl (by omega), cl_some, if_pos wi_0]
  · refine ⟨-2, -2, g, m, ?_, ?_, rfl, hJ⟩
    · unfold fX4_put
      rw [pRI_bad w1 w2 (Or.inl c1), cl_some, if_neg (by decide)]
    · unfold fX5_put
      rw [mIS_bad w1 c1, cl_some, if_pos wi_0]
theorem g_get : G_get JJ := by
  intro g m hJ x1 x2 x3 w1 w2 w3
  have r1 := wi_rng w1
  by_cases c1 : 0 ≤ x1 ∧ x1 < 10
  · by_cases c2 : 0 ≤ x2 ∧ x2 ≤ 2
    · have hs1 : x1.toNat < 10 := by omega
      rcases hJ.1 x1.toNat hs1 with ⟨a1, a2⟩ | ⟨a1, a2, a3, a4, a5, a6, a7⟩
      · refine ⟨-2147483648, -2147483648, hs g 0 1 1, hs m 0 4 1, ?_, ?_, rfl, JJ_met hJ 1 (by decide) (by decide)⟩
        · unfold fX4_get
          rw [pRI_null c1 c2 a1, cl_some, if_neg (by decide)]
        · unfold fX5_get
          rw [mIS_ok c1.1 c1.2, cl_some, if_neg (by decide), mIn_y w2 rfl rfl c2.1 c2.2, cl_some, if_neg (by decide), mLk_null c1 a2, cl_some, if_neg (by decide)]
      · by_cases c3 : g (2 + x1.toNat) 1 = x2
        · by_cases c4 : 0 ≤ x3 ∧ x3 < g (2 + x1.toNat) 2
          · have ei : (12 * x1 + x3).toNat = 12 * x1.toNat + x3.toNat := by omega
            refine ⟨g (2 + x1.toNat + 10) x3.toNat, m 3 (12 * x1.toNat + x3.toNat), g, m, ?_, ?_, by rw [(a7 x3.toNat (by omega)).2], hJ⟩
            · unfold fX4_get
              rw [pRI_ok c1 c2 w3 ⟨a1, a2⟩ c3 c4, cl_some, if_pos wi_0, lda_t c1.1 c1.2, ld_t c4.1 (by rw [lnS hs1]; omega) (by rw [lnS hs1]; omega)]
            · unfold fX5_get
              rw [mIS_ok c1.1 c1.2, cl_some, if_neg (by decide), mIn_y w2 rfl rfl c2.1 c2.2, cl_some, if_neg (by decide), mLk_ok c1 c2 w3 (by omega) (by omega) (by omega), cl_some, if_pos wi_0, mi_ld (by omega), ei]
          · refine ⟨-2147483648, -2147483648, hs g 0 1 2, hs m 0 4 2, ?_, ?_, rfl, JJ_met hJ 2 (by decide) (by decide)⟩
            · unfold fX4_get
              rw [pRI_index c1 c2 w3 ⟨a1, a2⟩ c3 c4, cl_some, if_neg (by decide)]
            · unfold fX5_get
              rw [mIS_ok c1.1 c1.2, cl_some, if_neg (by decide), mIn_y w2 rfl rfl c2.1 c2.2, cl_some, if_neg (by decide), mLk_index c1 c2 w3 (by omega) (by omega) (by omega), cl_some, if_neg (by decide)]
        · refine ⟨-2147483648, -2147483648, hs g 0 1 3, hs m 0 4 3, ?_, ?_, rfl, JJ_met hJ 3 (by decide) (by decide)⟩
          · unfold fX4_get
            rw [pRI_cast c1 c2 ⟨a1, a2⟩ ⟨a4, a5⟩ c3, cl_some, if_neg (by decide)]
          · unfold fX5_get
            rw [mIS_ok c1.1 c1.2, cl_some, if_neg (by decide), mIn_y w2 rfl rfl c2.1 c2.2, cl_some, if_neg (by decide), mLk_cast c1 c2 (by omega) (by omega), cl_some, if_neg (by decide)]
    · refine ⟨-2147483648, -2147483648, g, m, ?_, ?_, rfl, hJ⟩
      · unfold fX4_get
        rw [pRI_bad w1 w2 (Or.inr c2), cl_some, if_neg (by decide)]
      · unfold fX5_get
        rw [mIS_ok c1.1 c1.2, cl_some, if_neg (by decide), mIn_n w2 rfl rfl (by omega), cl_some, if_pos wi_0]
  · refine ⟨-2147483648, -2147483648, g, m, ?_, ?_, rfl, hJ⟩
    · unfold fX4_get
      rw [pRI_bad w1 w2 (Or.inl c1), cl_some, if_neg (by decide)]
    · unfold fX5_get
      rw [mIS_bad w1 c1, cl_some, if_pos wi_0]
