/-! Forms on both sides: what is asked before, the rows that are loaded, the form that is kept. -/
def WS (g : HP) (s : Nat) : Prop := 0 ≤ g (2 + s) 2 ∧ g (2 + s) 2 ≤ 12 ∧ ∀ i : Nat, (i : Int) < g (2 + s) 2 → wi (g (2 + s + 10) i) = g (2 + s + 10) i
def nb (g : HP) (s i : Nat) : Int := if (i : Int) < g (2 + s) 2 then g (2 + s + 10) i % 10007 else 0
theorem nb_rs (g : HP) (s i : Nat) : rs (nb g s i) := by
  unfold nb
  split
  · exact rs_mod _
  · exact ⟨by decide, by decide⟩
theorem nb_hi {g : HP} {s i : Nat} (h : g (2 + s) 2 ≤ i) : nb g s i = 0 := by unfold nb; rw [if_neg (by omega)]
theorem WS_same {g g' : HP} {s : Nat} (hs' : s < 10) (h : WS g s) (a : sameC g g') : WS g' s := by
  unfold WS at *
  rw [a.2 (2 + s) (by omega) (by omega), a.2 (2 + s + 10) (by omega) (by omega)]
  exact h
theorem nb_same {g g' : HP} {s : Nat} (hs' : s < 10) (a : sameC g g') : nb g' s = nb g s := by
  funext i
  unfold nb
  rw [a.2 (2 + s) (by omega) (by omega), a.2 (2 + s + 10) (by omega) (by omega)]
theorem sz_same {g g' : HP} {s : Nat} (hs' : s < 10) (a : sameC g g') : g' (2 + s) 2 = g (2 + s) 2 := by rw [a.2 (2 + s) (by omega) (by omega)]
/-- a sheet, as both sides have it -/
theorem J_ws {g m : HP} (h : JJ g m) {s : Nat} (hs' : s < 10) (hl : g (2 + s) 2 ≠ -1) : WS g s ∧ 0 ≤ m 1 s ∧ m 1 s ≤ 2 ∧ m 2 s = g (2 + s) 2 ∧ ∀ i : Nat, (i : Int) < g (2 + s) 2 → m 3 (12 * s + i) = g (2 + s + 10) i := by
  rcases h.1 s hs' with ⟨a1, a2⟩ | ⟨a1, a2, a3, a4, a5, a6, a7⟩
  · exact absurd a1 hl
  · exact ⟨⟨a1, a2, fun i hi => (a7 i hi).1⟩, by omega, by omega, a3, fun i hi => (a7 i hi).2⟩
theorem J_lost {g m : HP} (h : JJ g m) {s : Nat} (hs' : s < 10) (hl : g (2 + s) 2 = -1) : m 1 s = -1 := by
  rcases h.1 s hs' with ⟨a1, a2⟩ | ⟨a1, a2, a3, a4, a5, a6, a7⟩
  · exact a2
  · omega
theorem pIF_y {s : Nat} {g : HP} (h1 : 1 ≤ g (2 + s) 2) (h2 : g (2 + s) 2 ≤ 9) : fX3_isForm (2 + s) g = some (1, g) := by
  unfold fX3_isForm
  rw [wi_id (z := g (2 + s) 2) (by omega) (by omega), wi_id (z := 9) (by decide) (by decide), wi_1, if_pos h1, if_pos h2]
theorem pIF_n {s : Nat} {g : HP} (hz : -1 ≤ g (2 + s) 2 ∧ g (2 + s) 2 ≤ 12) (h : ¬ (1 ≤ g (2 + s) 2 ∧ g (2 + s) 2 ≤ 9)) : fX3_isForm (2 + s) g = some (0, g) := by
  unfold fX3_isForm
  rw [wi_id (z := g (2 + s) 2) (by omega) (by omega), wi_id (z := 9) (by decide) (by decide), wi_1]
  by_cases c : 1 ≤ g (2 + s) 2
  · rw [if_pos c, if_neg (by omega)]
  · rw [if_neg c]
theorem pRF_bad {x y : Int} (hx : wi x = x) (hy : wi y = y) (hb : ¬ (0 ≤ x ∧ x < 10) ∨ ¬ (0 ≤ y ∧ y < 10)) (g : HP) : fX4_refuseForms x y g = some (-2, g) := by
  unfold fX4_refuseForms
  rw [pRS_bad hx hy hb, cl_some, if_neg (by decide)]
theorem pRF_null {x y : Int} (hx : 0 ≤ x ∧ x < 10) (hy : 0 ≤ y ∧ y < 10) (g : HP) (h1 : -1 ≤ g (2 + x.toNat) 2 ∧ g (2 + x.toNat) 2 ≤ 12) (h2 : -1 ≤ g (2 + y.toNat) 2 ∧ g (2 + y.toNat) 2 ≤ 12) (hl : g (2 + x.toNat) 2 = -1 ∨ g (2 + y.toNat) 2 = -1) : fX4_refuseForms x y g = some (-11, hs g 0 1 1) := by
  unfold fX4_refuseForms
  rw [pRS_null hx hy g h1 h2 hl, cl_some, if_neg (by decide)]
theorem pRF_not {x y : Int} (hx : 0 ≤ x ∧ x < 10) (hy : 0 ≤ y ∧ y < 10) (g : HP) (h1 : 0 ≤ g (2 + x.toNat) 2 ∧ g (2 + x.toNat) 2 ≤ 12) (h2 : 0 ≤ g (2 + y.toNat) 2 ∧ g (2 + y.toNat) 2 ≤ 12) (hl : ¬ (1 ≤ g (2 + x.toNat) 2 ∧ g (2 + x.toNat) 2 ≤ 9) ∨ ¬ (1 ≤ g (2 + y.toNat) 2 ∧ g (2 + y.toNat) 2 ≤ 9)) : fX4_refuseForms x y g = some (-3, g) := by
  unfold fX4_refuseForms
  rw [pRS_ok hx hy g h1 h2, cl_some, if_pos wi_0, lda_t hx.1 hx.2]
  by_cases c : 1 ≤ g (2 + x.toNat) 2 ∧ g (2 + x.toNat) 2 ≤ 9
  · rw [pIF_y c.1 c.2, cl_some, if_neg (by decide), lda_t hy.1 hy.2, pIF_n (by omega) (by omega), cl_some, if_pos wi_0]
  · rw [pIF_n (by omega) c, cl_some, if_pos wi_0]
theorem pRF_ok {x y : Int} (hx : 0 ≤ x ∧ x < 10) (hy : 0 ≤ y ∧ y < 10) (g : HP) (h1 : 1 ≤ g (2 + x.toNat) 2 ∧ g (2 + x.toNat) 2 ≤ 9) (h2 : 1 ≤ g (2 + y.toNat) 2 ∧ g (2 + y.toNat) 2 ≤ 9) : fX4_refuseForms x y g = some (0, g) := by
  unfold fX4_refuseForms
  rw [pRS_ok hx hy g (by omega) (by omega), cl_some, if_pos wi_0, lda_t hx.1 hx.2, pIF_y h1.1 h1.2, cl_some, if_neg (by decide), lda_t hy.1 hy.2, pIF_y h2.1 h2.2, cl_some, if_neg (by decide)]
theorem pNum {g : HP} {s : Nat} (hs' : s < 10) (h : WS g s) {x : Int} (h0 : 0 ≤ x) (wx : wi x = x) : fX3_number (2 + s) x g = some (nb g s x.toNat, g) := by
  unfold fX3_number nb
  obtain ⟨a1, a2, a3⟩ := h
  by_cases c : x < g (2 + s) 2
  · rw [pHo_y h0 (by decide) wx wi_1 (by omega) (by omega), cl_some, if_neg (by decide), ld_t h0 (by rw [lnS hs']; omega) (by rw [lnS hs']; omega), pRed (a3 x.toNat (by omega)), cl_some, if_pos (by omega)]
  · rw [pHo_n wx wi_1 (by omega) (by omega), cl_some, if_pos wi_0, if_neg (by omega)]
theorem lnW {a : Nat} (h : 22 ≤ a ∧ a < 27) : lnC a = 9 := by
  have : isArr a = true := arr_is.mpr (by omega)
  unfold lnC
  rw [if_pos this, if_neg (by omega), if_pos (by omega)]
theorem w_ld {α : Type} {a : Nat} {x : Int} (ha : 22 ≤ a ∧ a < 27) (hx : 0 ≤ x ∧ x < 9) {row : Nat → Int} {k : Int → Option α} : ld (lnC a) row x k = k (row x.toNat) := ld_t hx.1 (by rw [lnW ha]; omega) (by rw [lnW ha]; omega)
theorem w_st {α : Type} {a : Nat} {x v : Int} (ha : 22 ≤ a ∧ a < 27) (hx : 0 ≤ x ∧ x < 9) {h : HP} {k : HP → Option α} : sto (lnC a) h a x v k = k (hs h a x.toNat v) := sto_t hx.1 (by rw [lnW ha]; omega) (by rw [lnW ha]; omega)
theorem sC_w {g : HP} {a i : Nat} {v : Int} (ha : 22 ≤ a) : sameC g (hs g a i v) := ⟨hs_k (by omega), fun k _ _ => hs_ne (by omega)⟩
theorem sC_o {g g' : HP} {a : Nat} (ha : 22 ≤ a) (h : ∀ k, k ≠ a → g' k = g k) : sameC g g' := ⟨by rw [h 0 (by omega)], fun k _ _ => h k (by omega)⟩
theorem pLoadL {x : Int} (hx : 0 ≤ x ∧ x < 10) {a : Nat} (ha : 22 ≤ a ∧ a < 27) : ∀ (d : Nat) (i : Int) (n : Nat) (g : HP), WS g x.toNat → 9 - i = d → 0 ≤ i → d < n → ∃ g', LX4_load_2 n x a i g = some (g (2 + x.toNat) 2 - 1, g') ∧ (∀ k, k ≠ a → g' k = g k) ∧ (∀ j : Nat, (j : Int) < i → g' a j = g a j) ∧ ∀ j : Nat, i ≤ j → j < 9 → g' a j = nb g x.toNat j := by
  have hs' : x.toNat < 10 := by omega
  intro d
  induction d with
  | zero =>
    intro i n g hw q1 q2 q3
    obtain ⟨n, rfl⟩ : ∃ k, n = k + 1 := ⟨n - 1, by omega⟩
    refine ⟨g, ?_, fun _ _ => rfl, fun _ _ => rfl, fun j p1 p2 => by omega⟩
    show bX4_load_2 (LX4_load_2 n) x a i g = _
    unfold bX4_load_2
    rw [wi_id (z := i) (by omega) (by omega), wi_id (z := 9) (by decide) (by decide), if_neg (by omega), lda_t hx.1 hx.2]
    rfl
  | succ d ih =>
    intro i n g hw q1 q2 q3
    obtain ⟨n, rfl⟩ : ∃ k, n = k + 1 := ⟨n - 1, by omega⟩
    have hc : sameC g (hs g a i.toNat (nb g x.toNat i.toNat)) := sC_w ha.1
    obtain ⟨g', e1, e2, e3, e4⟩ := ih (i + 1) n (hs g a i.toNat (nb g x.toNat i.toNat)) (WS_same hs' hw hc) (by omega) (by omega) (by omega)
    refine ⟨g', ?_, fun k hk => (e2 k hk).trans (hs_ne hk), fun j hj => (e3 j (by omega)).trans (hs_j (by omega)), fun j p1 p2 => ?_⟩
    · show bX4_load_2 (LX4_load_2 n) x a i g = _
      unfold bX4_load_2
      rw [wi_id (z := i) (by omega) (by omega), wi_id (z := 9) (by decide) (by decide), if_pos (by omega), lda_t hx.1 hx.2, pNum hs' hw q2 (wi_id (by omega) (by omega)), cl_some, w_st ha (by omega), e1, sz_same hs' hc]
    · by_cases c : (j : Int) = i
      · rw [e3 j (by omega), show j = i.toNat by omega, hs_s]
      · rw [e4 j (by omega) p2, nb_same hs' hc]
theorem pLoad {x : Int} (hx : 0 ≤ x ∧ x < 10) {a : Nat} (ha : 22 ≤ a ∧ a < 27) {g : HP} (hw : WS g x.toNat) : ∃ g', fX4_load x a g = some (g (2 + x.toNat) 2 - 1, g') ∧ (∀ k, k ≠ a → g' k = g k) ∧ ∀ j : Nat, j < 9 → g' a j = nb g x.toNat j := by
  obtain ⟨g', e1, e2, e3, e4⟩ := pLoadL hx ha 9 0 FU g hw (by omega) (by omega) (by decide)
  exact ⟨g', e1, e2, fun j hj => e4 j (by omega) hj⟩
-- the reference
def nm (m : HP) (s i : Nat) : Int := if (i : Int) < m 2 s then m 3 (12 * s + i) % 10007 else 0
theorem nm_nb {g m : HP} (h : JJ g m) {s : Nat} (hs' : s < 10) (hl : g (2 + s) 2 ≠ -1) : nm m s = nb g s := by
  obtain ⟨h1, h2, h3, h4, h5⟩ := J_ws h hs' hl
  funext i
  unfold nm nb
  rw [h4]
  by_cases c : (i : Int) < g (2 + s) 2
  · rw [if_pos c, if_pos c, h5 i c]
  · rw [if_neg c, if_neg c]
theorem lnM5 : lnM 5 = 9 := rfl
theorem lnM6 : lnM 6 = 9 := rfl
theorem lnM7 : lnM 7 = 20 := rfl
theorem m5_ld {α : Type} {x : Int} (hx : 0 ≤ x ∧ x < 9) {row : Nat → Int} {k : Int → Option α} : ld (lnM 5) row x k = k (row x.toNat) := ld_t hx.1 (by rw [lnM5]; omega) (by rw [lnM5]; omega)
theorem m6_ld {α : Type} {x : Int} (hx : 0 ≤ x ∧ x < 9) {row : Nat → Int} {k : Int → Option α} : ld (lnM 6) row x k = k (row x.toNat) := ld_t hx.1 (by rw [lnM6]; omega) (by rw [lnM6]; omega)
theorem m7_ld {α : Type} {x : Int} (hx : 0 ≤ x ∧ x < 20) {row : Nat → Int} {k : Int → Option α} : ld (lnM 7) row x k = k (row x.toNat) := ld_t hx.1 (by rw [lnM7]; omega) (by rw [lnM7]; omega)
theorem m5_st {α : Type} {x v : Int} (hx : 0 ≤ x ∧ x < 9) {h : HP} {k : HP → Option α} : sto (lnM 5) h 5 x v k = k (hs h 5 x.toNat v) := sto_t hx.1 (by rw [lnM5]; omega) (by rw [lnM5]; omega)
theorem m6_st {α : Type} {x v : Int} (hx : 0 ≤ x ∧ x < 9) {h : HP} {k : HP → Option α} : sto (lnM 6) h 6 x v k = k (hs h 6 x.toNat v) := sto_t hx.1 (by rw [lnM6]; omega) (by rw [lnM6]; omega)
theorem m7_st {α : Type} {x v : Int} (hx : 0 ≤ x ∧ x < 20) {h : HP} {k : HP → Option α} : sto (lnM 7) h 7 x v k = k (hs h 7 x.toNat v) := sto_t hx.1 (by rw [lnM7]; omega) (by rw [lnM7]; omega)
def WM (m : HP) (s : Nat) : Prop := 0 ≤ m 2 s ∧ m 2 s ≤ 12 ∧ ∀ i : Nat, (i : Int) < m 2 s → wi (m 3 (12 * s + i)) = m 3 (12 * s + i)
theorem J_wm {g m : HP} (h : JJ g m) {s : Nat} (hs' : s < 10) (hl : g (2 + s) 2 ≠ -1) : WM m s := by
  obtain ⟨⟨a1, a2, a3⟩, h2, h3, h4, h5⟩ := J_ws h hs' hl
  refine ⟨by omega, by omega, fun i hi => ?_⟩
  rw [h5 i (by omega)]
  exact a3 i (by omega)
theorem mTakeFL {x : Int} (hx : 0 ≤ x ∧ x < 10) : ∀ (d : Nat) (i : Int) (n : Nat) (m : HP), WM m x.toNat → m 0 6 = m 2 x.toNat - 1 → 9 - i = d → 0 ≤ i → d < n → ∃ m', LX5_takeF_14 n x i m = some (0, m') ∧ (∀ k, k ≠ 5 → m' k = m k) ∧ (∀ j : Nat, (j : Int) < i → m' 5 j = m 5 j) ∧ ∀ j : Nat, i ≤ j → j < 9 → m' 5 j = nm m x.toNat j := by
  intro d
  induction d with
  | zero =>
    intro i n m hw hf q1 q2 q3
    obtain ⟨n, rfl⟩ : ∃ k, n = k + 1 := ⟨n - 1, by omega⟩
    refine ⟨m, ?_, fun _ _ => rfl, fun _ _ => rfl, fun j p1 p2 => by omega⟩
    show bX5_takeF_14 (LX5_takeF_14 n) x i m = _
    unfold bX5_takeF_14
    rw [wi_id (z := i) (by omega) (by omega), wi_id (z := 9) (by decide) (by decide), if_neg (by omega)]
  | succ d ih =>
    intro i n m hw hf q1 q2 q3
    obtain ⟨n, rfl⟩ : ∃ k, n = k + 1 := ⟨n - 1, by omega⟩
    obtain ⟨a1, a2, a3⟩ := id hw
    have k2 : ∀ v : Int, hs m 5 i.toNat v 2 = m 2 := fun v => hs_ne (by decide)
    have k3 : ∀ v : Int, hs m 5 i.toNat v 3 = m 3 := fun v => hs_ne (by decide)
    have kn : ∀ v : Int, nm (hs m 5 i.toNat v) x.toNat = nm m x.toNat := fun v => by funext j; unfold nm; rw [k2, k3]
    obtain ⟨m', e1, e2, e3, e4⟩ := ih (i + 1) n (hs m 5 i.toNat (nm m x.toNat i.toNat)) (by unfold WM; rw [k2, k3]; exact hw) (by rw [k2, hs_k (by decide)]; exact hf) (by omega) (by omega) (by omega)
    refine ⟨m', ?_, fun k hk => (e2 k hk).trans (hs_ne hk), fun j hj => (e3 j (by omega)).trans (hs_j (by omega)), fun j p1 p2 => ?_⟩
    · show bX5_takeF_14 (LX5_takeF_14 n) x i m = _
      unfold bX5_takeF_14
      rw [wi_id (z := i) (by omega) (by omega), wi_id (z := 9) (by decide) (by decide), if_pos (by omega), hf, wi_id (z := m 2 x.toNat - 1) (by omega) (by omega)]
      by_cases c : i ≤ m 2 x.toNat - 1
      · have e9 := wi_rng (a3 i.toNat (by omega))
        have e8 : (12 * x + i).toNat = 12 * x.toNat + i.toNat := by omega
        rw [if_pos c, mi_ld (by omega), e8, a3 i.toNat (by omega), mMod (by omega) (by omega), cl_some, m5_st (by omega)]
        have : nm m x.toNat i.toNat = m 3 (12 * x.toNat + i.toNat) % 10007 := by unfold nm; rw [if_pos (by omega)]
        rw [← this]
        exact e1
      · rw [if_neg c, m5_st (by omega)]
        have : nm m x.toNat i.toNat = 0 := by unfold nm; rw [if_neg (by omega)]
        rw [this] at e1
        exact e1
    · by_cases c : (j : Int) = i
      · rw [e3 j (by omega), show j = i.toNat by omega, hs_s]
      · rw [e4 j (by omega) p2, kn]
theorem mTakeGL {x : Int} (hx : 0 ≤ x ∧ x < 10) : ∀ (d : Nat) (i : Int) (n : Nat) (m : HP), WM m x.toNat → m 0 8 = m 2 x.toNat - 1 → 9 - i = d → 0 ≤ i → d < n → ∃ m', LX5_takeG_14 n x i m = some (0, m') ∧ (∀ k, k ≠ 6 → m' k = m k) ∧ (∀ j : Nat, (j : Int) < i → m' 6 j = m 6 j) ∧ ∀ j : Nat, i ≤ j → j < 9 → m' 6 j = nm m x.toNat j := by
  intro d
  induction d with
  | zero =>
    intro i n m hw hf q1 q2 q3
    obtain ⟨n, rfl⟩ : ∃ k, n = k + 1 := ⟨n - 1, by omega⟩
    refine ⟨m, ?_, fun _ _ => rfl, fun _ _ => rfl, fun j p1 p2 => by omega⟩
    show bX5_takeG_14 (LX5_takeG_14 n) x i m = _
    unfold bX5_takeG_14
    rw [wi_id (z := i) (by omega) (by omega), wi_id (z := 9) (by decide) (by decide), if_neg (by omega)]
  | succ d ih =>
    intro i n m hw hf q1 q2 q3
    obtain ⟨n, rfl⟩ : ∃ k, n = k + 1 := ⟨n - 1, by omega⟩
    obtain ⟨a1, a2, a3⟩ := id hw
    have k2 : ∀ v : Int, hs m 6 i.toNat v 2 = m 2 := fun v => hs_ne (by decide)
    have k3 : ∀ v : Int, hs m 6 i.toNat v 3 = m 3 := fun v => hs_ne (by decide)
    have kn : ∀ v : Int, nm (hs m 6 i.toNat v) x.toNat = nm m x.toNat := fun v => by funext j; unfold nm; rw [k2, k3]
    obtain ⟨m', e1, e2, e3, e4⟩ := ih (i + 1) n (hs m 6 i.toNat (nm m x.toNat i.toNat)) (by unfold WM; rw [k2, k3]; exact hw) (by rw [k2, hs_k (by decide)]; exact hf) (by omega) (by omega) (by omega)
    refine ⟨m', ?_, fun k hk => (e2 k hk).trans (hs_ne hk), fun j hj => (e3 j (by omega)).trans (hs_j (by omega)), fun j p1 p2 => ?_⟩
    · show bX5_takeG_14 (LX5_takeG_14 n) x i m = _
      unfold bX5_takeG_14
      rw [wi_id (z := i) (by omega) (by omega), wi_id (z := 9) (by decide) (by decide), if_pos (by omega), hf, wi_id (z := m 2 x.toNat - 1) (by omega) (by omega)]
      by_cases c : i ≤ m 2 x.toNat - 1
      · have e9 := wi_rng (a3 i.toNat (by omega))
        have e8 : (12 * x + i).toNat = 12 * x.toNat + i.toNat := by omega
        rw [if_pos c, mi_ld (by omega), e8, a3 i.toNat (by omega), mMod (by omega) (by omega), cl_some, m6_st (by omega)]
        have : nm m x.toNat i.toNat = m 3 (12 * x.toNat + i.toNat) % 10007 := by unfold nm; rw [if_pos (by omega)]
        rw [← this]
        exact e1
      · rw [if_neg c, m6_st (by omega)]
        have : nm m x.toNat i.toNat = 0 := by unfold nm; rw [if_neg (by omega)]
        rw [this] at e1
        exact e1
    · by_cases c : (j : Int) = i
      · rw [e3 j (by omega), show j = i.toNat by omega, hs_s]
      · rw [e4 j (by omega) p2, kn]
theorem mTakeF {x : Int} (hx : 0 ≤ x ∧ x < 10) {m : HP} (hw : WM m x.toNat) : ∃ m', fX5_takeF x m = some (0, m') ∧ (∀ k, k ≠ 5 → k ≠ 0 → m' k = m k) ∧ (∀ j, j ≠ 6 → m' 0 j = m 0 j) ∧ m' 0 6 = m 2 x.toNat - 1 ∧ ∀ j : Nat, j < 9 → m' 5 j = nm m x.toNat j := by
  have k2 : ∀ v : Int, hs m 0 6 v 2 = m 2 := fun v => hs_ne (by decide)
  have k3 : ∀ v : Int, hs m 0 6 v 3 = m 3 := fun v => hs_ne (by decide)
  obtain ⟨m', e1, e2, e3, e4⟩ := mTakeFL hx 9 0 FU (hs m 0 6 (m 2 x.toNat - 1)) (by unfold WM; rw [k2, k3]; exact hw) (by rw [hs_s, k2]) (by omega) (by omega) (by decide)
  refine ⟨m', ?_, fun k h1 h2 => (e2 k h1).trans (hs_ne h2), fun j hj => ?_, ?_, fun j hj => ?_⟩
  · unfold fX5_takeF
    rw [ms_ld hx, pf_d, e1]
  · rw [e2 0 (by decide), hs_j hj]
  · rw [e2 0 (by decide), hs_s]
  · rw [e4 j (by omega) hj]
    unfold nm
    rw [k2, k3]
theorem mTakeG {x : Int} (hx : 0 ≤ x ∧ x < 10) {m : HP} (hw : WM m x.toNat) : ∃ m', fX5_takeG x m = some (0, m') ∧ (∀ k, k ≠ 6 → k ≠ 0 → m' k = m k) ∧ (∀ j, j ≠ 8 → m' 0 j = m 0 j) ∧ m' 0 8 = m 2 x.toNat - 1 ∧ ∀ j : Nat, j < 9 → m' 6 j = nm m x.toNat j := by
  have k2 : ∀ v : Int, hs m 0 8 v 2 = m 2 := fun v => hs_ne (by decide)
  have k3 : ∀ v : Int, hs m 0 8 v 3 = m 3 := fun v => hs_ne (by decide)
  obtain ⟨m', e1, e2, e3, e4⟩ := mTakeGL hx 9 0 FU (hs m 0 8 (m 2 x.toNat - 1)) (by unfold WM; rw [k2, k3]; exact hw) (by rw [hs_s, k2]) (by omega) (by omega) (by decide)
  refine ⟨m', ?_, fun k h1 h2 => (e2 k h1).trans (hs_ne h2), fun j hj => ?_, ?_, fun j hj => ?_⟩
  · unfold fX5_takeG
    rw [ms_ld hx, pf_d, e1]
  · rw [e2 0 (by decide), hs_j hj]
  · rw [e2 0 (by decide), hs_s]
  · rw [e4 j (by omega) hj]
    unfold nm
    rw [k2, k3]
theorem mIF {x : Int} (hx : 0 ≤ x ∧ x < 10) {m : HP} (h1 : 0 ≤ m 1 x.toNat ∧ m 1 x.toNat ≤ 2) (h2 : 0 ≤ m 2 x.toNat ∧ m 2 x.toNat ≤ 12) : fX5_isForm x m = some (if 1 ≤ m 2 x.toNat ∧ m 2 x.toNat ≤ 9 then 1 else 0, m) := by
  unfold fX5_isForm
  rw [mk_ld hx, wi_id (z := m 1 x.toNat) (by omega) (by omega), if_pos h1.1, ms_ld hx, mInI (wi_id (by omega) (by omega)) rfl rfl, cl_some]
  by_cases c : 1 ≤ m 2 x.toNat ∧ m 2 x.toNat ≤ 9
  · rw [if_pos c, if_neg (by decide)]
  · rw [if_neg c, if_pos wi_0]
theorem mLO_null {x : Int} (hx : 0 ≤ x ∧ x < 10) {m : HP} (hl : m 1 x.toNat = -1) : fX5_lacksOne x m = some (-11, hs m 0 4 1) := by
  unfold fX5_lacksOne
  rw [mk_ld hx, hl, if_pos (by decide), mMet]; rfl
theorem mLO_not {x : Int} (hx : 0 ≤ x ∧ x < 10) {m : HP} (h1 : 0 ≤ m 1 x.toNat ∧ m 1 x.toNat ≤ 2) (h2 : 0 ≤ m 2 x.toNat ∧ m 2 x.toNat ≤ 12) (hn : ¬ (1 ≤ m 2 x.toNat ∧ m 2 x.toNat ≤ 9)) : fX5_lacksOne x m = some (-3, m) := by
  unfold fX5_lacksOne
  rw [mk_ld hx, wi_id (z := m 1 x.toNat) (by omega) (by omega), if_neg (by omega), mIF hx h1 h2, if_neg hn, cl_some, if_pos wi_0]
theorem mLO_ok {x : Int} (hx : 0 ≤ x ∧ x < 10) {m : HP} (h1 : 0 ≤ m 1 x.toNat ∧ m 1 x.toNat ≤ 2) (hw : WM m x.toNat) (hn : 1 ≤ m 2 x.toNat ∧ m 2 x.toNat ≤ 9) : ∃ m', fX5_lacksOne x m = some (0, m') ∧ (∀ k, k ≠ 5 → k ≠ 0 → m' k = m k) ∧ (∀ j, j ≠ 6 → m' 0 j = m 0 j) ∧ m' 0 6 = m 2 x.toNat - 1 ∧ ∀ j : Nat, j < 9 → m' 5 j = nm m x.toNat j := by
  obtain ⟨m', e1, e2⟩ := mTakeF hx hw
  refine ⟨m', ?_, e2⟩
  unfold fX5_lacksOne
  rw [mk_ld hx, wi_id (z := m 1 x.toNat) (by omega) (by omega), if_neg (by omega), mIF hx h1 ⟨hw.1, hw.2.1⟩, if_pos hn, cl_some, if_neg (by decide), e1, cl_some]
theorem mLT_null {x y : Int} (hx : 0 ≤ x ∧ x < 10) (hy : 0 ≤ y ∧ y < 10) {m : HP} (h1 : -1 ≤ m 1 x.toNat ∧ m 1 x.toNat ≤ 2) (h2 : -1 ≤ m 1 y.toNat ∧ m 1 y.toNat ≤ 2) (hl : m 1 x.toNat = -1 ∨ m 1 y.toNat = -1) : fX5_lacksTwo x y m = some (-11, hs m 0 4 1) := by
  unfold fX5_lacksTwo
  rw [mk_ld hx, wi_id (z := m 1 x.toNat) (by omega) (by omega)]
  by_cases c : 0 ≤ m 1 x.toNat
  · rw [if_pos c, mk_ld hy, wi_id (by omega) (by omega), if_pos (by omega), mMet]; rfl
  · rw [if_neg c, mMet]; rfl
theorem mLT_not {x y : Int} (hx : 0 ≤ x ∧ x < 10) (hy : 0 ≤ y ∧ y < 10) {m : HP} (h1 : 0 ≤ m 1 x.toNat ∧ m 1 x.toNat ≤ 2) (h2 : 0 ≤ m 1 y.toNat ∧ m 1 y.toNat ≤ 2) (h3 : 0 ≤ m 2 x.toNat ∧ m 2 x.toNat ≤ 12) (h4 : 0 ≤ m 2 y.toNat ∧ m 2 y.toNat ≤ 12) (hn : ¬ (1 ≤ m 2 x.toNat ∧ m 2 x.toNat ≤ 9) ∨ ¬ (1 ≤ m 2 y.toNat ∧ m 2 y.toNat ≤ 9)) : fX5_lacksTwo x y m = some (-3, m) := by
  unfold fX5_lacksTwo
  rw [mk_ld hx, wi_id (z := m 1 x.toNat) (by omega) (by omega), if_pos h1.1, mk_ld hy, wi_id (z := m 1 y.toNat) (by omega) (by omega), if_neg (by omega), mIF hx h1 h3]
  by_cases c : 1 ≤ m 2 x.toNat ∧ m 2 x.toNat ≤ 9
  · rw [if_pos c, cl_some, if_neg (by decide), mIF hy h2 h4, if_neg (by omega), cl_some, if_pos wi_0]
  · rw [if_neg c, cl_some, if_pos wi_0]
theorem mLT_ok {x y : Int} (hx : 0 ≤ x ∧ x < 10) (hy : 0 ≤ y ∧ y < 10) {m : HP} (h1 : 0 ≤ m 1 x.toNat ∧ m 1 x.toNat ≤ 2) (h2 : 0 ≤ m 1 y.toNat ∧ m 1 y.toNat ≤ 2) (hw : WM m x.toNat) (hv : WM m y.toNat) (h5 : 1 ≤ m 2 x.toNat ∧ m 2 x.toNat ≤ 9) (h6 : 1 ≤ m 2 y.toNat ∧ m 2 y.toNat ≤ 9) : ∃ m', fX5_lacksTwo x y m = some (0, m') ∧ (∀ k, k ≠ 5 → k ≠ 6 → k ≠ 0 → m' k = m k) ∧ (∀ j, j ≠ 6 → j ≠ 8 → m' 0 j = m 0 j) ∧ m' 0 6 = m 2 x.toNat - 1 ∧ m' 0 8 = m 2 y.toNat - 1 ∧ (∀ j : Nat, j < 9 → m' 5 j = nm m x.toNat j) ∧ ∀ j : Nat, j < 9 → m' 6 j = nm m y.toNat j := by
  obtain ⟨m1, e1, e2, e3, e4, e5⟩ := mTakeF hx hw
  have k2 : m1 2 = m 2 := e2 2 (by decide) (by decide)
  have k3 : m1 3 = m 3 := e2 3 (by decide) (by decide)
  obtain ⟨m2, f1, f2, f3, f4, f5⟩ := mTakeG hy (m := m1) (by unfold WM; rw [k2, k3]; exact hv)
  refine ⟨m2, ?_, fun k a b c => (f2 k b c).trans (e2 k a c), fun j a b => (f3 j b).trans (e3 j a), ?_, ?_, fun j hj => ?_, fun j hj => ?_⟩
  · unfold fX5_lacksTwo
    rw [mk_ld hx, wi_id (z := m 1 x.toNat) (by omega) (by omega), if_pos h1.1, mk_ld hy, wi_id (z := m 1 y.toNat) (by omega) (by omega), if_neg (by omega), mIF hx h1 ⟨hw.1, hw.2.1⟩, if_pos h5, cl_some, if_neg (by decide), mIF hy h2 ⟨hv.1, hv.2.1⟩, if_pos h6, cl_some, if_neg (by decide), e1, cl_some, f1, cl_some]
  · rw [f3 6 (by decide), e4]
  · rw [f4, k2]
  · rw [f2 5 (by decide) (by decide), e5 j hj]
  · rw [f5 j hj]
    unfold nm
    rw [k2, k3]
