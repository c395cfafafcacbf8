/-! What both sides share between calls, and the calls on sheets. -/
def JS (g m : HP) (s : Nat) : Prop := (g (2 + s) 2 = -1 ∧ m 1 s = -1) ∨ (0 ≤ g (2 + s) 2 ∧ g (2 + s) 2 ≤ 12 ∧ m 2 s = g (2 + s) 2 ∧ 0 ≤ g (2 + s) 1 ∧ g (2 + s) 1 ≤ 2 ∧ m 1 s = g (2 + s) 1 ∧ ∀ i : Nat, (i : Int) < g (2 + s) 2 → wi (g (2 + s + 10) i) = g (2 + s + 10) i ∧ m 3 (12 * s + i) = g (2 + s + 10) i)
def JJ (g m : HP) : Prop := (∀ s, s < 10 → JS g m s) ∧ g 0 1 = m 0 4 ∧ 0 ≤ g 0 1 ∧ g 0 1 ≤ 5
def sameC (g g' : HP) : Prop := g' 0 1 = g 0 1 ∧ ∀ k, 2 ≤ k → k < 22 → g' k = g k
def sameM (m m' : HP) : Prop := m' 0 4 = m 0 4 ∧ m' 1 = m 1 ∧ m' 2 = m 2 ∧ m' 3 = m 3
theorem sC_r (g : HP) : sameC g g := ⟨rfl, fun _ _ _ => rfl⟩
theorem sC_t {a b c : HP} (h : sameC a b) (k : sameC b c) : sameC a c := ⟨k.1.trans h.1, fun x h1 h2 => (k.2 x h1 h2).trans (h.2 x h1 h2)⟩
theorem sM_r (g : HP) : sameM g g := ⟨rfl, rfl, rfl, rfl⟩
theorem sM_t {a b c : HP} (h : sameM a b) (k : sameM b c) : sameM a c := ⟨k.1.trans h.1, k.2.1.trans h.2.1, k.2.2.1.trans h.2.2.1, k.2.2.2.trans h.2.2.2⟩
theorem JS_same {g m g' m' : HP} {s : Nat} (hs : s < 10) (h : JS g m s) (a : ∀ k, 2 ≤ k → k < 22 → g' k = g k) (b : m' 1 = m 1 ∧ m' 2 = m 2 ∧ m' 3 = m 3) : JS g' m' s := by
  unfold JS at *
  rw [a (2 + s) (by omega) (by omega), a (2 + s + 10) (by omega) (by omega), b.1, b.2.1, b.2.2]
  exact h
theorem JJ_same {g m g' m' : HP} (h : JJ g m) (a : sameC g g') (b : sameM m m') : JJ g' m' := by
  refine ⟨fun s hs => JS_same hs (h.1 s hs) a.2 b.2, ?_, ?_, ?_⟩
  · rw [a.1, b.1]; exact h.2.1
  · rw [a.1]; exact h.2.2.1
  · rw [a.1]; exact h.2.2.2
theorem JJ_met {g m : HP} (h : JJ g m) (k : Int) (h0 : 0 ≤ k) (h5 : k ≤ 5) : JJ (hs g 0 1 k) (hs m 0 4 k) := by
  refine ⟨fun s hs => JS_same hs (h.1 s hs) (fun k a _ => hs_ne (by omega)) ⟨hs_ne (by decide), hs_ne (by decide), hs_ne (by decide)⟩, ?_, ?_, ?_⟩
  · rw [hs_s, hs_s]
  · rw [hs_s]; exact h0
  · rw [hs_s]; exact h5
theorem JJ_set {g m g' m' : HP} (h : JJ g m) (s : Nat) (a0 : g' 0 1 = g 0 1) (b0 : m' 0 4 = m 0 4) (a : ∀ t, t < 10 → t ≠ s → g' (2 + t) = g (2 + t) ∧ g' (2 + t + 10) = g (2 + t + 10)) (b : ∀ t, t < 10 → t ≠ s → m' 1 t = m 1 t ∧ m' 2 t = m 2 t ∧ ∀ i, i < 12 → m' 3 (12 * t + i) = m 3 (12 * t + i)) (hn : JS g' m' s) : JJ g' m' := by
  refine ⟨fun t ht => ?_, by rw [a0, b0]; exact h.2.1, by rw [a0]; exact h.2.2.1, by rw [a0]; exact h.2.2.2⟩
  by_cases e : t = s
  · rw [e]; exact hn
  · have h1 := h.1 t ht
    obtain ⟨a1, a2⟩ := a t ht e
    obtain ⟨b1, b2, b3⟩ := b t ht e
    unfold JS at *
    rw [a1, a2, b1, b2]
    rcases h1 with h1 | ⟨c1, c2, c3, c4, c5, c6, c7⟩
    · exact Or.inl h1
    · exact Or.inr ⟨c1, c2, c3, c4, c5, c6, fun i hi => ⟨(c7 i hi).1, (b3 i (by omega)).trans (c7 i hi).2⟩⟩
-- ranges
theorem J_sz {g m : HP} (h : JJ g m) {s : Nat} (hs : s < 10) : -1 ≤ g (2 + s) 2 ∧ g (2 + s) 2 ≤ 12 := by
  rcases h.1 s hs with h1 | h1 <;> omega
-- the class's refusals
theorem pNS_ok {x : Int} (h0 : 0 ≤ x) (h1 : x < 10) (g : HP) : fX4_noSheet x g = some (0, g) := by
  unfold fX4_noSheet
  rw [wi_id (z := x) (by omega) (by omega), wi_id (z := 10) (by decide) (by decide), if_pos h0, if_neg (by omega)]
theorem pNS_bad {x : Int} (h : wi x = x) (hb : ¬ (0 ≤ x ∧ x < 10)) (g : HP) : fX4_noSheet x g = some (1, g) := by
  unfold fX4_noSheet
  rw [h, wi_id (z := 10) (by decide) (by decide)]
  by_cases c : 0 ≤ x
  · rw [if_pos c, if_pos (by omega)]
  · rw [if_neg c]
theorem pNK_ok {x : Int} (h0 : 0 ≤ x) (h1 : x ≤ 2) (g : HP) : fX4_noKind x g = some (0, g) := by
  unfold fX4_noKind
  rw [wi_id (z := x) (by omega) (by omega), wi_id (z := 2) (by decide) (by decide), if_pos h0, if_neg (by omega)]
theorem pNK_bad {x : Int} (h : wi x = x) (hb : ¬ (0 ≤ x ∧ x ≤ 2)) (g : HP) : fX4_noKind x g = some (1, g) := by
  unfold fX4_noKind
  rw [h, wi_id (z := 2) (by decide) (by decide)]
  by_cases c : 0 ≤ x
  · rw [if_pos c, if_pos (by omega)]
  · rw [if_neg c]
theorem pFound (k : Int) (g : HP) : fX4_found k g = some (-10 - k, hs g 0 1 k) := rfl
theorem mMet (k : Int) (g : HP) : fX5_met k g = some (-10 - k, hs g 0 4 k) := rfl
theorem wi_0 : wi 0 = 0 := rfl
theorem wi_1 : wi 1 = 1 := rfl
theorem wi_m1 : wi (-1) = -1 := rfl
theorem pRS_bad {x y : Int} (hx : wi x = x) (hy : wi y = y) (hb : ¬ (0 ≤ x ∧ x < 10) ∨ ¬ (0 ≤ y ∧ y < 10)) (g : HP) : fX4_refuseSheets x y g = some (-2, g) := by
  unfold fX4_refuseSheets
  by_cases c : 0 ≤ x ∧ x < 10
  · rw [pNS_ok c.1 c.2, cl_some, if_pos wi_0, pNS_bad hy (by omega), cl_some, if_neg (by decide)]
  · rw [pNS_bad hx c, cl_some, if_neg (by decide)]
theorem pRS_null {x y : Int} (hx : 0 ≤ x ∧ x < 10) (hy : 0 ≤ y ∧ y < 10) (g : HP) (h1 : -1 ≤ g (2 + x.toNat) 2 ∧ g (2 + x.toNat) 2 ≤ 12) (h2 : -1 ≤ g (2 + y.toNat) 2 ∧ g (2 + y.toNat) 2 ≤ 12) (hl : g (2 + x.toNat) 2 = -1 ∨ g (2 + y.toNat) 2 = -1) : fX4_refuseSheets x y g = some (-11, hs g 0 1 1) := by
  unfold fX4_refuseSheets fX3_isLost
  rw [pNS_ok hx.1 hx.2, cl_some, if_pos wi_0, pNS_ok hy.1 hy.2, cl_some, if_pos wi_0, lda_t hx.1 hx.2, wi_id (by omega) (by omega), wi_m1]
  by_cases c : g (2 + x.toNat) 2 = -1
  · rw [if_pos c, cl_some, if_neg (by decide), pFound]; rfl
  · rw [if_neg c, cl_some, if_pos wi_0, lda_t hy.1 hy.2, wi_id (by omega) (by omega), if_pos (by omega), cl_some, if_neg (by decide), pFound]; rfl
theorem pRS_ok {x y : Int} (hx : 0 ≤ x ∧ x < 10) (hy : 0 ≤ y ∧ y < 10) (g : HP) (h1 : 0 ≤ g (2 + x.toNat) 2 ∧ g (2 + x.toNat) 2 ≤ 12) (h2 : 0 ≤ g (2 + y.toNat) 2 ∧ g (2 + y.toNat) 2 ≤ 12) : fX4_refuseSheets x y g = some (0, g) := by
  unfold fX4_refuseSheets fX3_isLost
  rw [pNS_ok hx.1 hx.2, cl_some, if_pos wi_0, pNS_ok hy.1 hy.2, cl_some, if_pos wi_0, lda_t hx.1 hx.2, wi_id (by omega) (by omega), wi_m1, if_neg (by omega), cl_some, if_pos wi_0, lda_t hy.1 hy.2, wi_id (by omega) (by omega), if_neg (by omega), cl_some, if_pos wi_0]
-- the reference's
theorem mIS_ok {x : Int} (h0 : 0 ≤ x) (h1 : x < 10) (g : HP) : fX5_isSheet x g = some (1, g) := by
  unfold fX5_isSheet
  rw [mInI (wi_id (by omega) (by omega)) rfl rfl, if_pos (by omega), cl_some, gd_t (Or.inr rfl)]
theorem mIS_bad {x : Int} (h : wi x = x) (hb : ¬ (0 ≤ x ∧ x < 10)) (g : HP) : fX5_isSheet x g = some (0, g) := by
  unfold fX5_isSheet
  rw [mInI h rfl rfl, if_neg (by omega), cl_some, gd_t (Or.inl rfl)]
theorem mIn_y {x lo hi : Int} (h1 : wi x = x) (h2 : wi lo = lo) (h3 : wi hi = hi) (a : lo ≤ x) (b : x ≤ hi) (g : HP) : fX5_in (wi x) lo hi g = some (1, g) := by rw [mInI h1 h2 h3, if_pos ⟨a, b⟩]
theorem mIn_n {x lo hi : Int} (h1 : wi x = x) (h2 : wi lo = lo) (h3 : wi hi = hi) (a : ¬ (lo ≤ x ∧ x ≤ hi)) (g : HP) : fX5_in (wi x) lo hi g = some (0, g) := by rw [mInI h1 h2 h3, if_neg a]
theorem lnM1 : lnM 1 = 10 := rfl
theorem lnM2 : lnM 2 = 10 := rfl
theorem lnM3 : lnM 3 = 120 := rfl
theorem lnM4 : lnM 4 = 12 := rfl
theorem mk_ld {α : Type} {x : Int} (hx : 0 ≤ x ∧ x < 10) {row : Nat → Int} {k : Int → Option α} : ld (lnM 1) row x k = k (row x.toNat) := ld_t hx.1 (by rw [lnM1]; omega) (by rw [lnM1]; omega)
theorem ms_ld {α : Type} {x : Int} (hx : 0 ≤ x ∧ x < 10) {row : Nat → Int} {k : Int → Option α} : ld (lnM 2) row x k = k (row x.toNat) := ld_t hx.1 (by rw [lnM2]; omega) (by rw [lnM2]; omega)
theorem mi_ld {α : Type} {x : Int} (hx : 0 ≤ x ∧ x < 120) {row : Nat → Int} {k : Int → Option α} : ld (lnM 3) row x k = k (row x.toNat) := ld_t hx.1 (by rw [lnM3]; omega) (by rw [lnM3]; omega)
theorem mk_st {α : Type} {x v : Int} (hx : 0 ≤ x ∧ x < 10) {h : HP} {k : HP → Option α} : sto (lnM 1) h 1 x v k = k (hs h 1 x.toNat v) := sto_t hx.1 (by rw [lnM1]; omega) (by rw [lnM1]; omega)
theorem ms_st {α : Type} {x v : Int} (hx : 0 ≤ x ∧ x < 10) {h : HP} {k : HP → Option α} : sto (lnM 2) h 2 x v k = k (hs h 2 x.toNat v) := sto_t hx.1 (by rw [lnM2]; omega) (by rw [lnM2]; omega)
theorem mi_st {α : Type} {x v : Int} (hx : 0 ≤ x ∧ x < 120) {h : HP} {k : HP → Option α} : sto (lnM 3) h 3 x v k = k (hs h 3 x.toNat v) := sto_t hx.1 (by rw [lnM3]; omega) (by rw [lnM3]; omega)
theorem lnS {s : Nat} (hs : s < 10) : lnC (2 + s + 10) = 12 := by
  have : isArr (2 + s + 10) = true := arr_is.mpr (by omega)
  unfold lnC
  rw [if_pos this, if_pos (by omega)]
theorem fu_lt {n : Nat} (h : n < 20000) : n < FU := h
-- rows filled with one value
theorem pRenewL {s : Nat} (hs' : s < 10) : ∀ (d : Nat) (i : Int) (n : Nat) (g : HP), 12 - i = d → 0 ≤ i → d < n → ∃ g', LX3_renew_12 n (2 + s) i g = some (0, g') ∧ (∀ k, k ≠ 2 + s + 10 → g' k = g k) ∧ (∀ j : Nat, (j : Int) < i → g' (2 + s + 10) j = g (2 + s + 10) j) ∧ ∀ j : Nat, i ≤ j → j < 12 → g' (2 + s + 10) j = 0 := by
  intro d
  induction d with
  | zero =>
    intro i n g h1 h2 h3
    obtain ⟨n, rfl⟩ : ∃ k, n = k + 1 := ⟨n - 1, by omega⟩
    refine ⟨g, ?_, fun _ _ => rfl, fun _ _ => rfl, fun j q1 q2 => by omega⟩
    show bX3_renew_12 (LX3_renew_12 n) (2 + s) i g = _
    unfold bX3_renew_12
    rw [wi_id (z := i) (by omega) (by omega), wi_id (z := 12) (by decide) (by decide), if_neg (by omega)]
  | succ d ih =>
    intro i n g h1 h2 h3
    obtain ⟨n, rfl⟩ : ∃ k, n = k + 1 := ⟨n - 1, by omega⟩
    obtain ⟨g', e1, e2, e3, e4⟩ := ih (i + 1) n (hs g (2 + s + 10) i.toNat 0) (by omega) (by omega) (by omega)
    refine ⟨g', ?_, fun k hk => (e2 k hk).trans (hs_ne hk), fun j hj => (e3 j (by omega)).trans (hs_j (by omega)), fun j q1 q2 => ?_⟩
    · show bX3_renew_12 (LX3_renew_12 n) (2 + s) i g = _
      unfold bX3_renew_12
      rw [wi_id (z := i) (by omega) (by omega), wi_id (z := 12) (by decide) (by decide), if_pos (by omega), sto_t h2 (by rw [lnS hs']; omega) (by rw [lnS hs']; omega)]
      exact e1
    · by_cases c : (j : Int) = i
      · rw [e3 j (by omega), show j = i.toNat by omega, hs_s]
      · exact e4 j (by omega) q2
theorem pRenew {s : Nat} (hs' : s < 10) (kd n : Int) (g : HP) : ∃ g', fX3_renew (2 + s) kd n g = some (0, g') ∧ g' (2 + s) 1 = kd ∧ g' (2 + s) 2 = n ∧ (∀ k, k ≠ 2 + s → k ≠ 2 + s + 10 → g' k = g k) ∧ ∀ j : Nat, j < 12 → g' (2 + s + 10) j = 0 := by
  obtain ⟨g', e1, e2, e3, e4⟩ := pRenewL hs' 12 0 FU (hs (hs g (2 + s) 1 kd) (2 + s) 2 n) (by omega) (by omega) (by decide)
  refine ⟨g', ?_, ?_, ?_, fun k h1 h2 => ?_, fun j hj => e4 j (by omega) hj⟩
  · unfold fX3_renew
    rw [pf_d, pf_d]
    exact e1
  · rw [e2 (2 + s) (by omega), hs_j (by decide), hs_s]
  · rw [e2 (2 + s) (by omega), hs_s]
  · rw [e2 k h2, hs_ne h1, hs_ne h1]
theorem mZeroL (x : Int) (hx : 0 ≤ x ∧ x < 10) (e : Int) (he : 0 ≤ e ∧ e ≤ 12) : ∀ (d : Nat) (i : Int) (n : Nat) (g : HP), e - i = d → 0 ≤ i → d < n → ∃ g', LX5_sheet_55 n x e i g = some (e, g') ∧ (∀ k, k ≠ 3 → g' k = g k) ∧ (∀ j : Nat, ((j : Int) < 12 * x + i ∨ 12 * x + e ≤ j) → g' 3 j = g 3 j) ∧ ∀ j : Nat, i ≤ j → j < e → g' 3 (12 * x.toNat + j) = 0 := by
  intro d
  induction d with
  | zero =>
    intro i n g h1 h2 h3
    obtain ⟨n, rfl⟩ : ∃ k, n = k + 1 := ⟨n - 1, by omega⟩
    refine ⟨g, ?_, fun _ _ => rfl, fun _ _ => rfl, fun j q1 q2 => by omega⟩
    show bX5_sheet_55 (LX5_sheet_55 n) x e i g = _
    unfold bX5_sheet_55
    rw [wi_id (z := i) (by omega) (by omega), wi_id (z := e) (by omega) (by omega), if_neg (by omega)]
  | succ d ih =>
    intro i n g h1 h2 h3
    obtain ⟨n, rfl⟩ : ∃ k, n = k + 1 := ⟨n - 1, by omega⟩
    obtain ⟨g', e1, e2, e3, e4⟩ := ih (i + 1) n (hs g 3 (12 * x + i).toNat 0) (by omega) (by omega) (by omega)
    refine ⟨g', ?_, fun k hk => (e2 k hk).trans (hs_ne hk), fun j hj => (e3 j (by omega)).trans (hs_j (by omega)), fun j q1 q2 => ?_⟩
    · show bX5_sheet_55 (LX5_sheet_55 n) x e i g = _
      unfold bX5_sheet_55
      rw [wi_id (z := i) (by omega) (by omega), wi_id (z := e) (by omega) (by omega), if_pos (by omega), mi_st (by omega)]
      exact e1
    · by_cases c : (j : Int) = i
      · rw [e3 _ (by omega), show 12 * x.toNat + j = (12 * x + i).toNat by omega, hs_s]
      · exact e4 j (by omega) q2
theorem g_sheet : G_sheet JJ := by
  intro g m hJ x1 x2 x3 w1 w2 w3
  have r1 := wi_rng w1; have r2 := wi_rng w2; have r3 := wi_rng w3
  by_cases c1 : 0 ≤ x1 ∧ x1 < 10
  · by_cases c2 : 0 ≤ x2 ∧ x2 ≤ 2
    · by_cases c3 : x3 ≤ 12
      · by_cases c4 : x3 < 0
        · refine ⟨-15, -15, hs g 0 1 5, hs m 0 4 5, ?_, ?_, rfl, JJ_met hJ 5 (by decide) (by decide)⟩
          · unfold fX4_sheet
            rw [pNS_ok c1.1 c1.2, cl_some, if_pos wi_0, pNK_ok c2.1 c2.2, cl_some, if_pos wi_0, w3, wi_id (z := 12) (by decide) (by decide), if_neg (by omega), if_pos c4, pFound]; rfl
          · unfold fX5_sheet
            rw [mIS_ok c1.1 c1.2, cl_some, if_neg (by decide), mIn_y w2 rfl rfl c2.1 c2.2, cl_some, if_neg (by decide), w3, wi_id (z := 12) (by decide) (by decide), if_neg (by omega), if_pos c4, mMet]; rfl
        · obtain ⟨g', e1, e2, e3, e4, e5⟩ := pRenew (s := x1.toNat) (by omega) x2 x3 g
          obtain ⟨m', f1, f2, f3, f4⟩ := mZeroL x1 c1 x3 (by omega) x3.toNat 0 FU (hs (hs m 1 x1.toNat x2) 2 x1.toNat x3) (by omega) (by omega) (fu_lt (by omega))
          refine ⟨x3, x3, g', m', ?_, ?_, rfl, ?_⟩
          · unfold fX4_sheet
            rw [pNS_ok c1.1 c1.2, cl_some, if_pos wi_0, pNK_ok c2.1 c2.2, cl_some, if_pos wi_0, w3, wi_id (z := 12) (by decide) (by decide), if_neg (by omega), if_neg c4, lda_t c1.1 c1.2, e1]; rfl
          · unfold fX5_sheet
            rw [mIS_ok c1.1 c1.2, cl_some, if_neg (by decide), mIn_y w2 rfl rfl c2.1 c2.2, cl_some, if_neg (by decide), w3, wi_id (z := 12) (by decide) (by decide), if_neg (by omega), if_neg c4, mk_st c1, ms_st c1, f1]
          · refine JJ_set hJ x1.toNat ?_ ?_ (fun t ht hne => ⟨?_, ?_⟩) (fun t ht hne => ⟨?_, ?_, fun i hi => ?_⟩) (Or.inr ⟨?_, ?_, ?_, ?_, ?_, ?_, fun i hi => ?_⟩)
            · rw [e4 0 (by omega) (by omega)]
            · rw [f2 0 (by decide), hs_k (by decide), hs_k (by decide)]
            · exact e4 _ (by omega) (by omega)
            · exact e4 _ (by omega) (by omega)
            · rw [f2 1 (by decide), hs_k (by decide), hs_j hne]
            · rw [f2 2 (by decide), hs_j hne, hs_k (by decide)]
            · rw [f3 _ (by omega), hs_k (by decide), hs_k (by decide)]
            · rw [e3]; omega
            · rw [e3]; omega
            · rw [f2 2 (by decide), hs_s, e3]
            · rw [e2]; omega
            · rw [e2]; omega
            · rw [f2 1 (by decide), hs_k (by decide), hs_s, e2]
            · rw [e3] at hi
              rw [e5 i (by omega), f4 i (by omega) hi]
              exact ⟨rfl, rfl⟩
      · refine ⟨-2, -2, g, m, ?_, ?_, rfl, hJ⟩
        · unfold fX4_sheet
          rw [pNS_ok c1.1 c1.2, cl_some, if_pos wi_0, pNK_ok c2.1 c2.2, cl_some, if_pos wi_0, w3, wi_id (z := 12) (by decide) (by decide), if_pos (by omega)]
        · unfold fX5_sheet
          rw [mIS_ok c1.1 c1.2, cl_some, if_neg (by decide), mIn_y w2 rfl rfl c2.1 c2.2, cl_some, if_neg (by decide), w3, wi_id (z := 12) (by decide) (by decide), if_pos (by omega)]
    · refine ⟨-2, -2, g, m, ?_, ?_, rfl, hJ⟩
      · unfold fX4_sheet
        rw [pNS_ok c1.1 c1.2, cl_some, if_pos wi_0, pNK_bad w2 c2, cl_some, if_neg (by decide)]
      · unfold fX5_sheet
        rw [mIS_ok c1.1 c1.2, cl_some, if_neg (by decide), mIn_n w2 rfl rfl (by omega), cl_some, if_pos wi_0]
  · refine ⟨-2, -2, g, m, ?_, ?_, rfl, hJ⟩
    · unfold fX4_sheet
      rw [pNS_bad w1 c1, cl_some, if_neg (by decide)]
    · unfold fX5_sheet
      rw [mIS_bad w1 c1, cl_some, if_pos wi_0]
theorem J_start : JJ hC0 hM0 := by
  refine ⟨fun s hs => Or.inl ⟨?_, ?_⟩, rfl, by decide, by decide⟩
  · have : isSh (2 + s) = true := sh_is.mpr (by omega)
    unfold hC0
    rw [if_pos this]
    rfl
  · have : ∀ s, s < 10 → hM0 1 s = -1 := by decide
    exact this s hs
