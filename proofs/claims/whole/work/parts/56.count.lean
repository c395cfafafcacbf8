theorem rs_wi {a : Int} (h : rs a) : wi a = a := wi_id (by have := h.1; omega) (by have := h.2; omega)
theorem pLost {s : Nat} {g : HP} (hz : -1 ≤ g (2 + s) 2 ∧ g (2 + s) 2 ≤ 12) : fX3_isLost (2 + s) g = some (if g (2 + s) 2 = -1 then 1 else 0, g) := by
  unfold fX3_isLost
  rw [wi_id (z := g (2 + s) 2) (by omega) (by omega), wi_m1]
  by_cases c : g (2 + s) 2 = -1
  · rw [if_pos c, if_pos c]
  · rw [if_neg c, if_neg c]
theorem pForm {s : Nat} {g : HP} (hz : -1 ≤ g (2 + s) 2 ∧ g (2 + s) 2 ≤ 12) : fX3_isForm (2 + s) g = some (if 1 ≤ g (2 + s) 2 ∧ g (2 + s) 2 ≤ 9 then 1 else 0, g) := by
  by_cases c : 1 ≤ g (2 + s) 2 ∧ g (2 + s) 2 ≤ 9
  · rw [if_pos c, pIF_y c.1 c.2]
  · rw [if_neg c, pIF_n hz c]
theorem mForm {g m : HP} (hJ : JJ g m) {x : Int} (hx : 0 ≤ x ∧ x < 10) : fX5_isForm x m = some (if 1 ≤ g (2 + x.toNat) 2 ∧ g (2 + x.toNat) 2 ≤ 9 then 1 else 0, m) := by
  have hs1 : x.toNat < 10 := by omega
  by_cases hl : g (2 + x.toNat) 2 = -1
  · unfold fX5_isForm
    rw [mk_ld hx, J_lost hJ hs1 hl, if_neg (by decide), if_neg (by omega)]
  · obtain ⟨hw, k1, k2, k3, k4⟩ := J_ws hJ hs1 hl
    rw [mIF hx ⟨k1, k2⟩ (by have := hw.1; have := hw.2.1; omega), k3]
theorem cnt0 {g m : HP} (hJ : JJ g m) : ∀ (d : Nat) (i c : Int) (n n' : Nat), 10 - i = d → 0 ≤ i → d < n → d < n' → ∃ r : Int, LX4_countSheets_4 n 0 c i g = some (r, g) ∧ LX5_count_30 n' c i m = some (r, m) := by
  intro d
  induction d with
  | zero =>
    intro i c n n' q1 q2 q3 q4
    obtain ⟨n, rfl⟩ : ∃ k, n = k + 1 := ⟨n - 1, by omega⟩
    obtain ⟨n', rfl⟩ : ∃ k, n' = k + 1 := ⟨n' - 1, by omega⟩
    refine ⟨c, ?_, ?_⟩
    · show bX4_countSheets_4 (LX4_countSheets_4 n) 0 c i g = _
      unfold bX4_countSheets_4
      rw [wi_id (z := i) (by omega) (by omega), wi_id (z := 10) (by decide) (by decide), if_neg (by omega)]
    · show bX5_count_30 (LX5_count_30 n') c i m = _
      unfold bX5_count_30
      rw [wi_id (z := i) (by omega) (by omega), wi_id (z := 10) (by decide) (by decide), if_neg (by omega)]
  | succ d ih =>
    intro i c n n' q1 q2 q3 q4
    obtain ⟨n, rfl⟩ : ∃ k, n = k + 1 := ⟨n - 1, by omega⟩
    obtain ⟨n', rfl⟩ : ∃ k, n' = k + 1 := ⟨n' - 1, by omega⟩
    have hs1 : i.toNat < 10 := by omega
    have e1 : bX4_countSheets_4 (LX4_countSheets_4 n) 0 c i g = if g (2 + i.toNat) 2 = -1 then LX4_countSheets_4 n 0 c (i + 1) g else LX4_countSheets_4 n 0 (c + 1) (i + 1) g := by
      unfold bX4_countSheets_4
      rw [wi_id (z := i) (by omega) (by omega), wi_id (z := 10) (by decide) (by decide), if_pos (by omega), if_pos wi_0, lda_t q2 (by omega), pLost (J_sz hJ hs1), cl_some]
      by_cases z : g (2 + i.toNat) 2 = -1
      · simp only [if_pos z]; rw [if_neg (by decide)]
      · simp only [if_neg z]; rw [if_pos wi_0]
    have e2 : bX5_count_30 (LX5_count_30 n') c i m = if g (2 + i.toNat) 2 = -1 then LX5_count_30 n' c (i + 1) m else LX5_count_30 n' (c + 1) (i + 1) m := by
      unfold bX5_count_30
      rw [wi_id (z := i) (by omega) (by omega), wi_id (z := 10) (by decide) (by decide), if_pos (by omega), mk_ld (by omega)]
      by_cases z : g (2 + i.toNat) 2 = -1
      · rw [J_lost hJ hs1 z, if_pos z, if_pos (by decide), lt_d, Int.add_zero]
      · obtain ⟨hw, k1, k2, k3, k4⟩ := J_ws hJ hs1 z
        rw [wi_id (z := m 1 i.toNat) (by omega) (by omega), if_neg z, if_neg (by omega), lt_d]
    show ∃ r : Int, bX4_countSheets_4 (LX4_countSheets_4 n) 0 c i g = some (r, g) ∧ bX5_count_30 (LX5_count_30 n') c i m = some (r, m)
    rw [e1, e2]
    by_cases z : g (2 + i.toNat) 2 = -1
    · rw [if_pos z, if_pos z]
      exact ih (i + 1) c n n' (by omega) (by omega) (by omega) (by omega)
    · rw [if_neg z, if_neg z]
      exact ih (i + 1) (c + 1) n n' (by omega) (by omega) (by omega) (by omega)
theorem cnt2 {g m : HP} (hJ : JJ g m) : ∀ (d : Nat) (i c : Int) (n n' : Nat), 10 - i = d → 0 ≤ i → d < n → d < n' → ∃ r : Int, LX4_countSheets_4 n 1 c i g = some (r, g) ∧ LX5_count_68 n' c i m = some (r, m) := by
  intro d
  induction d with
  | zero =>
    intro i c n n' q1 q2 q3 q4
    obtain ⟨n, rfl⟩ : ∃ k, n = k + 1 := ⟨n - 1, by omega⟩
    obtain ⟨n', rfl⟩ : ∃ k, n' = k + 1 := ⟨n' - 1, by omega⟩
    refine ⟨c, ?_, ?_⟩
    · show bX4_countSheets_4 (LX4_countSheets_4 n) 1 c i g = _
      unfold bX4_countSheets_4
      rw [wi_id (z := i) (by omega) (by omega), wi_id (z := 10) (by decide) (by decide), if_neg (by omega)]
    · show bX5_count_68 (LX5_count_68 n') c i m = _
      unfold bX5_count_68
      rw [wi_id (z := i) (by omega) (by omega), wi_id (z := 10) (by decide) (by decide), if_neg (by omega)]
  | succ d ih =>
    intro i c n n' q1 q2 q3 q4
    obtain ⟨n, rfl⟩ : ∃ k, n = k + 1 := ⟨n - 1, by omega⟩
    obtain ⟨n', rfl⟩ : ∃ k, n' = k + 1 := ⟨n' - 1, by omega⟩
    have hs1 : i.toNat < 10 := by omega
    show ∃ r : Int, bX4_countSheets_4 (LX4_countSheets_4 n) 1 c i g = some (r, g) ∧ bX5_count_68 (LX5_count_68 n') c i m = some (r, m)
    unfold bX4_countSheets_4 bX5_count_68
    have hi : i < 10 := by omega
    have h1 : ¬ wi 1 = 0 := by decide
    rw [wi_id (z := i) (by omega) (by omega), wi_id (z := 10) (by decide) (by decide)]
    simp only [if_pos hi, if_neg h1]
    rw [lda_t q2 (by omega), pForm (J_sz hJ hs1), cl_some, mForm hJ (by omega), cl_some]
    by_cases z : 1 ≤ g (2 + i.toNat) 2 ∧ g (2 + i.toNat) 2 ≤ 9
    · simp only [if_pos z]
      rw [if_neg (by decide), if_neg (by decide), lt_d]
      exact ih (i + 1) (c + 1) n n' (by omega) (by omega) (by omega) (by omega)
    · simp only [if_neg z]
      rw [if_pos wi_0, if_pos wi_0, lt_d, Int.add_zero]
      exact ih (i + 1) c n n' (by omega) (by omega) (by omega) (by omega)
theorem cnts {g m : HP} (hJ : JJ g m) : ∃ r s : Int, fX4_countSheets 0 g = some (r, g) ∧ fX5_count 0 m = some (r, m) ∧ fX4_countSheets 1 g = some (s, g) ∧ fX5_count 2 m = some (s, m) := by
  obtain ⟨r, a1, a2⟩ := cnt0 hJ 10 0 0 FU FU (by omega) (by omega) (by decide) (by decide)
  obtain ⟨s, b1, b2⟩ := cnt2 hJ 10 0 0 FU FU (by omega) (by omega) (by decide) (by decide)
  refine ⟨r, s, a1, ?_, b1, ?_⟩
  · unfold fX5_count
    rw [if_pos wi_0, a2]
  · unfold fX5_count
    rw [if_neg (by decide), if_neg (by decide), if_pos (show wi 2 = 2 from rfl), b2]
theorem g_count : G_count JJ := by
  intro g m hJ x1 w1
  obtain ⟨r, s, a1, a2, b1, b2⟩ := cnts hJ
  by_cases c0 : x1 = 0
  · subst c0
    refine ⟨r, r, g, m, ?_, a2, rfl, hJ⟩
    unfold fX4_count
    rw [if_pos wi_0, a1, cl_some]
  · by_cases c1 : x1 = 1
    · subst c1
      refine ⟨g 0 1, m 0 4, g, m, ?_, ?_, by rw [hJ.2.1], hJ⟩
      · unfold fX4_count
        rw [if_neg (by decide), if_pos wi_1]
      · unfold fX5_count
        rw [if_neg (by decide), if_pos wi_1]
    · by_cases c2 : x1 = 2
      · subst c2
        refine ⟨s, s, g, m, ?_, b2, rfl, hJ⟩
        unfold fX4_count
        rw [if_neg (by decide), if_neg (by decide), if_pos (show wi 2 = 2 from rfl), b1, cl_some]
      · refine ⟨-2, -2, g, m, ?_, ?_, rfl, hJ⟩
        · unfold fX4_count
          rw [w1, if_neg c0, if_neg c1, if_neg c2]
        · unfold fX5_count
          rw [w1, if_neg c0, if_neg c1, if_neg c2]
theorem digI {g m : HP} {s : Nat} (hs' : s < 10) (hw : WS g s) (hz : g (2 + s) 2 ≤ 9) (hf : m 0 6 = g (2 + s) 2 - 1) (h5 : ∀ j : Nat, j < 9 → m 5 j = nb g s j) (K : Int → Int → HP → Option (Int × HP)) (x3 : Int) : ∀ (d : Nat) (i v : Int) (n n' : Nat), g (2 + s) 2 - i = d → 0 ≤ i → d < n → d < n' → ∃ r : Int, LX3_addTo_15 n (2 + s) v i g = some (r, g) ∧ LX5_digest_75 K n' v x3 i m = K r (x3 + 1) m := by
  have z1 := hw.1
  intro d
  induction d with
  | zero =>
    intro i v n n' q1 q2 q3 q4
    obtain ⟨n, rfl⟩ : ∃ k, n = k + 1 := ⟨n - 1, by omega⟩
    obtain ⟨n', rfl⟩ : ∃ k, n' = k + 1 := ⟨n' - 1, by omega⟩
    refine ⟨v, ?_, ?_⟩
    · show bX3_addTo_15 (LX3_addTo_15 n) (2 + s) v i g = _
      unfold bX3_addTo_15
      rw [wi_id (z := i) (by omega) (by omega), wi_id (z := g (2 + s) 2) (by omega) (by omega), if_neg (by omega)]
    · show bX5_digest_75 K (LX5_digest_75 K n') v x3 i m = _
      unfold bX5_digest_75
      rw [hf, wi_id (z := i) (by omega) (by omega), wi_id (z := g (2 + s) 2 - 1) (by omega) (by omega), if_neg (by omega)]
  | succ d ih =>
    intro i v n n' q1 q2 q3 q4
    obtain ⟨n, rfl⟩ : ∃ k, n = k + 1 := ⟨n - 1, by omega⟩
    obtain ⟨n', rfl⟩ : ∃ k, n' = k + 1 := ⟨n' - 1, by omega⟩
    obtain ⟨r, e1, e2⟩ := ih (i + 1) (31 * v + nb g s i.toNat) n n' (by omega) (by omega) (by omega) (by omega)
    refine ⟨r, ?_, ?_⟩
    · show bX3_addTo_15 (LX3_addTo_15 n) (2 + s) v i g = _
      unfold bX3_addTo_15
      rw [wi_id (z := i) (by omega) (by omega), wi_id (z := g (2 + s) 2) (by omega) (by omega), if_pos (by omega), pNum hs' hw q2 (wi_id (by omega) (by omega)), cl_some, lt_d, rs_wi (nb_rs _ _ _), e1]
    · show bX5_digest_75 K (LX5_digest_75 K n') v x3 i m = _
      unfold bX5_digest_75
      rw [hf, wi_id (z := i) (by omega) (by omega), wi_id (z := g (2 + s) 2 - 1) (by omega) (by omega), if_pos (by omega), m5_ld (by omega), h5 i.toNat (by omega), lt_d, rs_wi (nb_rs _ _ _), e2]
theorem digO {g : HP} : ∀ (d : Nat) (i v : Int) (n n' : Nat) (m : HP), JJ g m → 10 - i = d → 0 ≤ i → d < n → d < n' → ∃ (r : Int) (m' : HP), LX4_digest_32 n v i g = some (r, g) ∧ LX5_digest_32 n' v i m = some (r, m') ∧ JJ g m' := by
  intro d
  induction d with
  | zero =>
    intro i v n n' m hJ q1 q2 q3 q4
    obtain ⟨n, rfl⟩ : ∃ k, n = k + 1 := ⟨n - 1, by omega⟩
    obtain ⟨n', rfl⟩ : ∃ k, n' = k + 1 := ⟨n' - 1, by omega⟩
    refine ⟨v, m, ?_, ?_, hJ⟩
    · show bX4_digest_32 (LX4_digest_32 n) v i g = _
      unfold bX4_digest_32
      rw [wi_id (z := i) (by omega) (by omega), wi_id (z := 10) (by decide) (by decide), if_neg (by omega)]
    · show bX5_digest_32 (LX5_digest_32 n') v i m = _
      unfold bX5_digest_32
      rw [wi_id (z := i) (by omega) (by omega), wi_id (z := 10) (by decide) (by decide), if_neg (by omega)]
  | succ d ih =>
    intro i v n n' m hJ q1 q2 q3 q4
    obtain ⟨n, rfl⟩ : ∃ k, n = k + 1 := ⟨n - 1, by omega⟩
    obtain ⟨n', rfl⟩ : ∃ k, n' = k + 1 := ⟨n' - 1, by omega⟩
    have hs1 : i.toNat < 10 := by omega
    have hx : 0 ≤ i ∧ i < 10 := by omega
    show ∃ (r : Int) (m' : HP), bX4_digest_32 (LX4_digest_32 n) v i g = some (r, g) ∧ bX5_digest_32 (LX5_digest_32 n') v i m = some (r, m') ∧ JJ g m'
    unfold bX4_digest_32 bX5_digest_32
    have hi : i < 10 := by omega
    rw [wi_id (z := i) (by omega) (by omega), wi_id (z := 10) (by decide) (by decide)]
    simp only [if_pos hi]
    rw [lda_t q2 (by omega), pForm (J_sz hJ hs1), cl_some, mForm hJ hx, cl_some]
    by_cases z : 1 ≤ g (2 + i.toNat) 2 ∧ g (2 + i.toNat) 2 ≤ 9
    · simp only [if_pos z]
      rw [if_neg (by decide), if_neg (by decide)]
      obtain ⟨hw, k1, k2, k3, k4⟩ := J_ws hJ hs1 (by omega)
      obtain ⟨m1, e1, e2, e3, e4, e5⟩ := mTakeF hx (J_wm hJ hs1 (by omega))
      have hJ1 : JJ g m1 := JJ_same hJ (sC_r g) (sM_1 e2 e3)
      have hf : m1 0 6 = g (2 + i.toNat) 2 - 1 := by rw [e4, k3]
      obtain ⟨r, f1, f2⟩ := digI (m := m1) hs1 hw z.2 hf (fun j hj => by rw [e5 j hj, nm_nb hJ hs1 (by omega)]) (LX5_digest_32 n') i (g (2 + i.toNat) 2).toNat 0 (31 * (31 * v + i) + (g (2 + i.toNat) 2 - 1)) FU FU (by omega) (by omega) (fu_lt (by omega)) (fu_lt (by omega))
      rw [lt_d, lda_t q2 (by omega)]
      unfold fX3_addTo fX3_top
      rw [cl_some, lt_d, wi_id (z := g (2 + i.toNat) 2 - 1) (by omega) (by omega), f1, cl_some, e1, cl_some, lt_d, lt_d, hf, wi_id (z := g (2 + i.toNat) 2 - 1) (by omega) (by omega), f2]
      exact ih (i + 1) r n n' m1 hJ1 (by omega) (by omega) (by omega) (by omega)
    · simp only [if_neg z]
      rw [if_pos wi_0, if_pos wi_0]
      exact ih (i + 1) v n n' m hJ (by omega) (by omega) (by omega) (by omega)
theorem g_digest : G_digest JJ := by
  intro g m hJ
  obtain ⟨r, s, a1, a2, b1, b2⟩ := cnts hJ
  obtain ⟨v, m', e1, e2, hJ'⟩ := digO 10 0 (31 * (31 * 17 + wi r) + wi s) FU FU m hJ (by omega) (by omega) (by decide) (by decide)
  refine ⟨v, v, g, m', ?_, ?_, rfl, hJ'⟩
  · unfold fX4_digest
    rw [a1, cl_some, lt_d, b1, cl_some, lt_d, e1]
  · unfold fX5_digest
    rw [a2, cl_some, lt_d, b2, cl_some, lt_d, e2]
