def w4 (b : Int) : Int := (2 * b + 1) * (2 * b + 1) * (2 * b + 1) * (2 * b + 1)
theorem w4_r {b : Int} (hb : b = 1 ∨ b = 2) : 0 ≤ w4 b ∧ w4 b < 1000 := by
  rcases hb with h | h <;> (subst h; decide)
theorem lead_m {g m0 : HP} {N : Int} (hN : 0 ≤ N ∧ N ≤ 8) {b : Int} (hb : b = 1 ∨ b = 2) {x2 c x : Int} (hx : 0 ≤ x ∧ x < w4 b) {n : Nat} {m : HP} (h : LI g m0 m N) : ∃ r m', (r = 0 ∨ r = 1) ∧ LI g m0 m' N ∧ fX4_isLead N b x g = some (r, g) ∧ LX5_leadOf_12 (n + 1) b x2 c (2 * b + 1) x m = if r = 0 then LX5_leadOf_12 n b x2 c (2 * b + 1) (x + 1) m' else if wi c = wi x2 then some (1000 * (en b x 0 + 2) + 100 * (en b x 1 + 2) + 10 * (en b x 2 + 2) + en b x 3 + 2, m') else LX5_leadOf_12 n b x2 (c + 1) (2 * b + 1) (x + 1) m' := by
  have hw := w4_r hb
  obtain ⟨r, m', h1, h2, h3, h4⟩ := one_lead hN h hb (x := x) (by omega)
  refine ⟨r, m', h1, h4, h2, ?_⟩
  show bX5_leadOf_12 (LX5_leadOf_12 n) b x2 c (2 * b + 1) x m = _
  obtain ⟨t3, t2, t1, t0⟩ := mEn hb (w := 2 * b + 1) rfl (x := x) hx
  unfold bX5_leadOf_12
  have g1 : wi (2 * b + 1) ≠ 0 := by rcases hb with q | q <;> (subst q; decide)
  have g2 : wi ((2 * b + 1) * (2 * b + 1)) ≠ 0 := by rcases hb with q | q <;> (subst q; decide)
  have g3 : wi ((2 * b + 1) * (2 * b + 1) * (2 * b + 1)) ≠ 0 := by rcases hb with q | q <;> (subst q; decide)
  have g4 : wi x < wi ((2 * b + 1) * (2 * b + 1) * (2 * b + 1) * (2 * b + 1)) := by
    have e : (2 * b + 1) * (2 * b + 1) * (2 * b + 1) * (2 * b + 1) = w4 b := rfl
    rw [e, wi_id (z := x) (by omega) (by omega), wi_id (z := w4 b) (by omega) (by omega)]
    exact hx.2
  rw [if_pos g4, gd_t g1, lt_d, gd_t g1, gd_t g1, lt_d, gd_t g2, gd_t g1, lt_d, gd_t g3, lt_d, t0, t1, t2, t3, h3, cl_some]
  rcases h1 with h1 | h1
  · subst h1
    rw [if_pos wi_0, if_pos rfl]
  · subst h1
    rw [if_neg (show ¬ wi 1 = 0 by decide), if_neg (show ¬ (1 : Int) = 0 by decide)]
theorem lead_e {b : Int} (hb : b = 1 ∨ b = 2) {x2 c : Int} {n : Nat} (m : HP) : LX5_leadOf_12 (n + 1) b x2 c (2 * b + 1) (w4 b) m = some (-1 - c, m) := by
  show bX5_leadOf_12 (LX5_leadOf_12 n) b x2 c (2 * b + 1) (w4 b) m = _
  unfold bX5_leadOf_12
  have e : (2 * b + 1) * (2 * b + 1) * (2 * b + 1) * (2 * b + 1) = w4 b := rfl
  rw [e, if_neg (by omega)]
theorem leads_l {g m0 : HP} {N : Int} (hN : 0 ≤ N ∧ N ≤ 8) {b : Int} (hb : b = 1 ∨ b = 2) : ∀ (d n n' : Nat) (c x : Int) (m : HP), w4 b - x = d → d < n → d < n' → 0 ≤ x → 0 ≤ c → c ≤ x → LI g m0 m N → ∃ r m', LX4_leads_37 n b N (w4 b) c x g = some (r, g) ∧ LX5_leadOf_12 n' b 1000 c (2 * b + 1) x m = some (-1 - r, m') ∧ sameM m0 m' ∧ 0 ≤ r ∧ r < 1000 := by
  have hw := w4_r hb
  intro d
  induction d with
  | zero =>
    intro n n' c x m q1 q2 q3 hx hc hcx h
    obtain ⟨n, rfl⟩ : ∃ k, n = k + 1 := ⟨n - 1, by omega⟩
    obtain ⟨n', rfl⟩ : ∃ k, n' = k + 1 := ⟨n' - 1, by omega⟩
    have e : x = w4 b := by omega
    subst e
    refine ⟨c, m, ?_, lead_e hb m, h.2.2.2.2.2.2, hc, by omega⟩
    show bX4_leads_37 (LX4_leads_37 n) b N (w4 b) c (w4 b) g = _
    unfold bX4_leads_37
    rw [if_neg (by omega)]
  | succ d ih =>
    intro n n' c x m q1 q2 q3 hx hc hcx h
    obtain ⟨n, rfl⟩ : ∃ k, n = k + 1 := ⟨n - 1, by omega⟩
    obtain ⟨n', rfl⟩ : ∃ k, n' = k + 1 := ⟨n' - 1, by omega⟩
    obtain ⟨r, m', h1, h2, h3, h4⟩ := lead_m hN hb (x2 := 1000) (c := c) (x := x) (by omega) (n := n') h
    have st : LX4_leads_37 (n + 1) b N (w4 b) c x g = if r = 0 then LX4_leads_37 n b N (w4 b) c (x + 1) g else LX4_leads_37 n b N (w4 b) (c + 1) (x + 1) g := by
      show bX4_leads_37 (LX4_leads_37 n) b N (w4 b) c x g = _
      unfold bX4_leads_37
      rw [wi_id (z := x) (by omega) (by omega), wi_id (z := w4 b) (by omega) (by omega), if_pos (by omega), h3, cl_some]
      rcases h1 with h1 | h1
      · subst h1
        rw [if_pos wi_0, if_pos rfl]
      · subst h1
        rw [if_neg (by decide), if_neg (by decide)]
    rw [st, h4, wi_id (z := c) (by omega) (by omega), show wi 1000 = 1000 from rfl]
    rcases h1 with h1 | h1
    · rw [if_pos h1, if_pos h1]
      exact ih n n' c (x + 1) m' (by omega) (by omega) (by omega) (by omega) hc (by omega) h2
    · rw [if_neg (by omega), if_neg (by omega), if_neg (by omega)]
      exact ih n n' (c + 1) (x + 1) m' (by omega) (by omega) (by omega) (by omega) (by omega) (by omega) h2
theorem lead_l {g m0 : HP} {N : Int} (hN : 0 ≤ N ∧ N ≤ 8) {b : Int} (hb : b = 1 ∨ b = 2) {i : Int} (wi' : wi i = i) : ∀ (d n n' : Nat) (c x : Int) (m : HP), w4 b - x = d → d < n → d < n' → 0 ≤ x → 0 ≤ c → c ≤ x → LI g m0 m N → ∃ r r' m', LX4_lead_45 n b i N (w4 b) c x g = some (r, g) ∧ LX5_leadOf_12 n' b i c (2 * b + 1) x m = some (r', m') ∧ sameM m0 m' ∧ wi r' = r' ∧ ((r' < 0 ∧ r = -1) ∨ (0 ≤ r' ∧ r = r')) := by
  have hw := w4_r hb
  intro d
  induction d with
  | zero =>
    intro n n' c x m q1 q2 q3 hx hc hcx h
    obtain ⟨n, rfl⟩ : ∃ k, n = k + 1 := ⟨n - 1, by omega⟩
    obtain ⟨n', rfl⟩ : ∃ k, n' = k + 1 := ⟨n' - 1, by omega⟩
    have e : x = w4 b := by omega
    subst e
    refine ⟨-1, -1 - c, m, ?_, lead_e hb m, h.2.2.2.2.2.2, wi_id (by omega) (by omega), Or.inl ⟨by omega, rfl⟩⟩
    show bX4_lead_45 (LX4_lead_45 n) b i N (w4 b) c (w4 b) g = _
    unfold bX4_lead_45
    rw [if_neg (by omega)]
  | succ d ih =>
    intro n n' c x m q1 q2 q3 hx hc hcx h
    obtain ⟨n, rfl⟩ : ∃ k, n = k + 1 := ⟨n - 1, by omega⟩
    obtain ⟨n', rfl⟩ : ∃ k, n' = k + 1 := ⟨n' - 1, by omega⟩
    obtain ⟨r, m', h1, h2, h3, h4⟩ := lead_m hN hb (x2 := i) (c := c) (x := x) (by omega) (n := n') h
    have a0 := en_r hb hx 0
    have a1 := en_r hb hx 1
    have a2 := en_r hb hx 2
    have a3 := en_r hb hx 3
    have st : LX4_lead_45 (n + 1) b i N (w4 b) c x g = if r = 0 then LX4_lead_45 n b i N (w4 b) c (x + 1) g else if c = i then some (1000 * (en b x 0 + 2) + 100 * (en b x 1 + 2) + 10 * (en b x 2 + 2) + en b x 3 + 2, g) else LX4_lead_45 n b i N (w4 b) (c + 1) (x + 1) g := by
      show bX4_lead_45 (LX4_lead_45 n) b i N (w4 b) c x g = _
      unfold bX4_lead_45
      rw [wi_id (z := x) (by omega) (by omega), wi_id (z := w4 b) (by omega) (by omega), if_pos (by omega), h3, cl_some, wi_id (z := c) (by omega) (by omega), wi', pCode hb (by omega), cl_some]
      rcases h1 with h1 | h1
      · subst h1
        rw [if_pos wi_0, if_pos rfl]
      · subst h1
        rw [if_neg (show ¬ wi 1 = 0 by decide), if_neg (show ¬ (1 : Int) = 0 by decide)]
    rw [st, h4, wi_id (z := c) (by omega) (by omega), wi']
    rcases h1 with h1 | h1
    · rw [if_pos h1, if_pos h1]
      exact ih n n' c (x + 1) m' (by omega) (by omega) (by omega) (by omega) hc (by omega) h2
    · rw [if_neg (show ¬ r = 0 by omega), if_neg (show ¬ r = 0 by omega)]
      by_cases z : c = i
      · rw [if_pos z, if_pos z]
        exact ⟨_, _, m', rfl, rfl, h2.2.2.2.2.2.2, wi_id (by omega) (by omega), Or.inr ⟨by omega, rfl⟩⟩
      · rw [if_neg z, if_neg z]
        exact ih n n' (c + 1) (x + 1) m' (by omega) (by omega) (by omega) (by omega) (by omega) (by omega) h2
theorem two_lead {g m : HP} (hJ : JJ g m) {x y b : Int} (wx : wi x = x) (wy : wi y = y) (hb : b = 1 ∨ b = 2) :
    ((¬ (0 ≤ x ∧ x < 10) ∨ ¬ (0 ≤ y ∧ y < 10)) ∧ fX4_refuseLeads x y b g = some (-2, g)) ∨
    ((0 ≤ x ∧ x < 10) ∧ (0 ≤ y ∧ y < 10) ∧ ∃ (r : Int) (g1 m1 : HP), wi r ≠ 0 ∧ fX4_refuseLeads x y b g = some (r, g1) ∧ fX5_lacksLeads x y m = some (r, m1) ∧ JJ g1 m1) ∨
    ((0 ≤ x ∧ x < 10) ∧ (0 ≤ y ∧ y < 10) ∧ fX4_refuseLeads x y b g = some (0, g) ∧ ∃ (m1 g2 : HP) (N : Int), (0 ≤ N ∧ N ≤ 8) ∧ fX5_lacksLeads x y m = some (0, m1) ∧ fX4_loadLeads x y g = some (N, g2) ∧ sameC g g2 ∧ LI g2 m m1 N) := by
  have hr : fX4_refuseLeads x y b g = (cl (fX4_refuseForms x y g) fun r16 h16 => if wi r16 = 0 then (lda x fun q34 => lda y fun q43 => if wi (h16 q34 2) = wi (h16 q43 2) then (some (0, h16)) else (some ((-3), h16))) else (some (r16, h16))) := by
    unfold fX4_refuseLeads
    rw [show wi 1 = 1 from rfl, show wi 2 = 2 from rfl, wi_id (z := b) (by omega) (by omega), if_pos (by omega), if_neg (by omega)]
  rcases two_form hJ wx wy with ⟨c, e⟩ | ⟨c, d, r, g1, m1, r0, e, f, hJ1⟩ | ⟨c, d, hw, hw', hf, hf', e, m1, f1, f2, f3, f4, f5, f6, f7⟩
  · refine Or.inl ⟨c, ?_⟩
    rw [hr, e, cl_some, if_neg (by decide)]
  · refine Or.inr (Or.inl ⟨c, d, r, g1, m1, r0, ?_, ?_, hJ1⟩)
    · rw [hr, e, cl_some, if_neg r0]
    · unfold fX5_lacksLeads
      rw [f, cl_some, if_neg r0]
  · have s1 : x.toNat < 10 := by omega
    have s2 : y.toNat < 10 := by omega
    have z1 : wi (g (2 + x.toNat) 2) = g (2 + x.toNat) 2 := wi_id (by omega) (by omega)
    have z2 : wi (g (2 + y.toNat) 2) = g (2 + y.toNat) 2 := wi_id (by omega) (by omega)
    have z3 : wi (g (2 + x.toNat) 2 - 1) = g (2 + x.toNat) 2 - 1 := wi_id (by omega) (by omega)
    have z4 : wi (g (2 + y.toNat) 2 - 1) = g (2 + y.toNat) 2 - 1 := wi_id (by omega) (by omega)
    by_cases q : g (2 + x.toNat) 2 = g (2 + y.toNat) 2
    · obtain ⟨g1, a1, a2, a3⟩ := pLoad c (a := 22) (by decide) hw
      have hc1 : sameC g g1 := sC_o (a := 22) (by decide) a2
      obtain ⟨g2, b1, b2, b3⟩ := pLoad d (a := 23) (by decide) (WS_same s2 hw' hc1)
      have hc2 : sameC g g2 := sC_t hc1 (sC_o (a := 23) (by decide) b2)
      have v22 : ∀ j : Nat, j < 9 → g2 22 j = nb g x.toNat j := fun j hj => by rw [b2 22 (by decide), a3 j hj]
      have v23 : ∀ j : Nat, j < 9 → g2 23 j = nb g y.toNat j := fun j hj => by rw [b3 j hj, nb_same s2 hc1]
      have R22 : R9 g2 22 := fun j hj => by rw [v22 j hj]; exact nb_rs _ _ _
      have R23 : R9 g2 23 := fun j hj => by rw [v23 j hj]; exact nb_rs _ _ _
      generalize hN : g (2 + x.toNat) 2 - 1 = N at a1 f4 z3
      have zN : 0 ≤ N ∧ N ≤ 8 := by omega
      obtain ⟨g3, o1, o2, o3, o4⟩ := pLLL zN (g2 23) (N + 1).toNat 0 FU g2 (by omega) (fu_lt (by omega)) rfl R23
      have l22 : g3 22 = g2 22 := o2 22 (by decide)
      have l23 : g3 23 = g2 23 := o2 23 (by decide)
      refine Or.inr (Or.inr ⟨c, d, ?_, m1, g3, N, zN, ?_, ?_, sC_t hc2 (sC_o (a := 24) (by decide) o2), R9_k R22 l22, R9_k R23 l23, fun u hu => by rw [l23]; exact o4 u (by omega) hu, f4, fun j hj => by rw [l22, f6 j hj, v22 j hj], fun j hj => by rw [l23, f7 j hj, v23 j hj], sM_2 f2 f3⟩)
      · rw [hr, e, cl_some, if_pos wi_0, lda_t c.1 c.2, lda_t d.1 d.2, q, if_pos rfl]
      · unfold fX5_lacksLeads
        rw [f1, cl_some, if_pos wi_0, f4, f5, ← q, hN, if_pos rfl]
      · unfold fX4_loadLeads
        rw [a1, cl_some, b1, cl_some]
        exact o1
    · refine Or.inr (Or.inl ⟨c, d, -3, g, m1, by decide, ?_, ?_, JJ_same hJ (sC_r g) (sM_2 f2 f3)⟩)
      · rw [hr, e, cl_some, if_pos wi_0, lda_t c.1 c.2, lda_t d.1 d.2, z1, z2, if_neg q]
      · unfold fX5_lacksLeads
        rw [f1, cl_some, if_pos wi_0, f4, f5, z3, z4, if_neg (by omega)]
theorem rl_bad {x y b : Int} (wb : wi b = b) (hb : ¬ (b = 1 ∨ b = 2)) (g : HP) : fX4_refuseLeads x y b g = some (-2, g) := by
  unfold fX4_refuseLeads
  rw [wb, show wi 1 = 1 from rfl, show wi 2 = 2 from rfl]
  by_cases z : 1 ≤ b
  · rw [if_pos z, if_pos (by omega)]
  · rw [if_neg z]
theorem tw_e {b : Int} (g : HP) : fX4_tablesWithin b g = some (w4 b, g) := rfl
theorem mLs_bad {x1 x2 x3 : Int} (w1 : wi x1 = x1) (w2 : wi x2 = x2) (w3 : wi x3 = x3) (h : ¬ ((0 ≤ x1 ∧ x1 < 10) ∧ (0 ≤ x2 ∧ x2 < 10) ∧ (x3 = 1 ∨ x3 = 2))) (m : HP) : fX5_leads x1 x2 x3 m = some (-2, m) := by
  unfold fX5_leads
  by_cases c1 : 0 ≤ x1 ∧ x1 < 10
  · rw [mIS_ok c1.1 c1.2, cl_some, if_neg (by decide)]
    by_cases c2 : 0 ≤ x2 ∧ x2 < 10
    · rw [mIS_ok c2.1 c2.2, cl_some, if_neg (by decide), mIn_n w3 rfl rfl (by omega), cl_some, if_pos wi_0]
    · rw [mIS_bad w2 c2, cl_some, if_pos wi_0]
  · rw [mIS_bad w1 c1, cl_some, if_pos wi_0]
theorem mLd_bad {x1 x2 x3 x4 : Int} (w1 : wi x1 = x1) (w2 : wi x2 = x2) (w3 : wi x3 = x3) (w4' : wi x4 = x4) (h : ¬ ((0 ≤ x1 ∧ x1 < 10) ∧ (0 ≤ x2 ∧ x2 < 10) ∧ (x3 = 1 ∨ x3 = 2) ∧ 0 ≤ x4)) (m : HP) : fX5_lead x1 x2 x3 x4 m = some (-2, m) := by
  unfold fX5_lead
  by_cases c1 : 0 ≤ x1 ∧ x1 < 10
  · rw [mIS_ok c1.1 c1.2, cl_some, if_neg (by decide)]
    by_cases c2 : 0 ≤ x2 ∧ x2 < 10
    · rw [mIS_ok c2.1 c2.2, cl_some, if_neg (by decide)]
      by_cases c3 : x3 = 1 ∨ x3 = 2
      · rw [mIn_y w3 rfl rfl (by omega) (by omega), cl_some, if_neg (by decide), w4', if_pos (by omega)]
      · rw [mIn_n w3 rfl rfl (by omega), cl_some, if_pos wi_0]
    · rw [mIS_bad w2 c2, cl_some, if_pos wi_0]
  · rw [mIS_bad w1 c1, cl_some, if_pos wi_0]
theorem g_leads : G_leads JJ := by
  intro g m hJ x1 x2 x3 w1 w2 w3
  by_cases c3 : x3 = 1 ∨ x3 = 2
  · rcases two_lead hJ w1 w2 c3 with ⟨c, e⟩ | ⟨c, d, r, g1, m1, r0, e, f, hJ1⟩ | ⟨c, d, e, m1, g2, N, zN, f1, f2, hc, hI⟩
    · refine ⟨-2, -2, g, m, ?_, mLs_bad w1 w2 w3 (by omega) m, rfl, hJ⟩
      unfold fX4_leads
      rw [e, cl_some, if_neg (by decide)]
    · refine ⟨r, r, g1, m1, ?_, ?_, rfl, hJ1⟩
      · unfold fX4_leads
        rw [e, cl_some, if_neg r0]
      · unfold fX5_leads
        rw [mIS_ok c.1 c.2, cl_some, if_neg (by decide), mIS_ok d.1 d.2, cl_some, if_neg (by decide), mIn_y w3 rfl rfl (by omega) (by omega), cl_some, if_neg (by decide), f, cl_some, if_neg r0]
    · have hw := w4_r c3
      obtain ⟨r, m', l1, l2, l3, l4, l5⟩ := leads_l zN c3 (w4 x3).toNat FU FU 0 0 m1 (by omega) (fu_lt (by omega)) (fu_lt (by omega)) (by omega) (by omega) (by omega) hI
      refine ⟨r, -1 - (-1 - r), g2, m', ?_, ?_, by congr 1; omega, JJ_same hJ hc l3⟩
      · unfold fX4_leads
        rw [e, cl_some, if_pos wi_0, f2, cl_some, tw_e, cl_some, l1]
      · unfold fX5_leads fX5_leadOf
        rw [mIS_ok c.1 c.2, cl_some, if_neg (by decide), mIS_ok d.1 d.2, cl_some, if_neg (by decide), mIn_y w3 rfl rfl (by omega) (by omega), cl_some, if_neg (by decide), f1, cl_some, if_pos wi_0, lt_d, l2, cl_some]
  · refine ⟨-2, -2, g, m, ?_, mLs_bad w1 w2 w3 (by omega) m, rfl, hJ⟩
    unfold fX4_leads
    rw [rl_bad w3 c3, cl_some, if_neg (by decide)]
theorem g_lead : G_lead JJ := by
  intro g m hJ x1 x2 x3 x4 w1 w2 w3 w4'
  by_cases c4 : 0 ≤ x4
  · by_cases c3 : x3 = 1 ∨ x3 = 2
    · rcases two_lead hJ w1 w2 c3 with ⟨c, e⟩ | ⟨c, d, r, g1, m1, r0, e, f, hJ1⟩ | ⟨c, d, e, m1, g2, N, zN, f1, f2, hc, hI⟩
      · refine ⟨-2, -2, g, m, ?_, mLd_bad w1 w2 w3 w4' (by omega) m, rfl, hJ⟩
        unfold fX4_lead
        rw [w4', if_neg (by omega), e, cl_some, if_neg (by decide)]
      · refine ⟨r, r, g1, m1, ?_, ?_, rfl, hJ1⟩
        · unfold fX4_lead
          rw [w4', if_neg (by omega), e, cl_some, if_neg r0]
        · unfold fX5_lead
          rw [mIS_ok c.1 c.2, cl_some, if_neg (by decide), mIS_ok d.1 d.2, cl_some, if_neg (by decide), mIn_y w3 rfl rfl (by omega) (by omega), cl_some, if_neg (by decide), w4', if_neg (by omega), f, cl_some, if_neg r0]
      · have hw := w4_r c3
        obtain ⟨r, r', m', l1, l2, l3, l4, l5⟩ := lead_l zN c3 w4' (w4 x3).toNat FU FU 0 0 m1 (by omega) (fu_lt (by omega)) (fu_lt (by omega)) (by omega) (by omega) (by omega) hI
        refine ⟨r, r, g2, m', ?_, ?_, rfl, JJ_same hJ hc l3⟩
        · unfold fX4_lead
          rw [w4', if_neg (by omega), e, cl_some, if_pos wi_0, f2, cl_some, tw_e, cl_some, l1]
        · unfold fX5_lead fX5_leadOf
          rw [mIS_ok c.1 c.2, cl_some, if_neg (by decide), mIS_ok d.1 d.2, cl_some, if_neg (by decide), mIn_y w3 rfl rfl (by omega) (by omega), cl_some, if_neg (by decide), w4', if_neg (by omega), f1, cl_some, if_pos wi_0, lt_d, l2, cl_some, l4]
          rcases l5 with ⟨y1, y2⟩ | ⟨y1, y2⟩
          · rw [if_pos y1, y2]
          · rw [if_neg (by omega), y2]
    · refine ⟨-2, -2, g, m, ?_, mLd_bad w1 w2 w3 w4' (by omega) m, rfl, hJ⟩
      unfold fX4_lead
      rw [w4', if_neg (by omega), rl_bad w3 c3, cl_some, if_neg (by decide)]
  · refine ⟨-2, -2, g, m, ?_, mLd_bad w1 w2 w3 w4' (by omega) m, rfl, hJ⟩
    unfold fX4_lead
    rw [w4', if_pos (by omega)]
