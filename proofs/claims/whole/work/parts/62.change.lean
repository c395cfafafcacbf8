/-! Changes by x and by y. -/
theorem pChYL {a : Nat} (ha : 22 ≤ a ∧ a < 27) {D : Int} (hD : 0 ≤ D ∧ D ≤ 8) : ∀ (d : Nat) (i : Int) (n : Nat) (g : HP), D + 1 - i = d → 1 ≤ i → d < n → R9 g a → ∃ g', LX2_changeByY_2 n a D i g = some (0, g') ∧ (∀ k, k ≠ a → g' k = g k) ∧ R9 g' a ∧ (∀ j : Nat, ((j : Int) + 1 < i ∨ D < j) → g' a j = g a j) ∧ (∀ j : Nat, i ≤ (j : Int) + 1 → (j : Int) < D → g' a j = g a (j + 1) * (j + 1) % 10007) ∧ g' a D.toNat = 0 := by
  intro d
  induction d with
  | zero =>
    intro i n g q1 q2 q3 hr
    obtain ⟨n, rfl⟩ : ∃ k, n = k + 1 := ⟨n - 1, by omega⟩
    refine ⟨hs g a D.toNat 0, ?_, fun k hk => hs_ne hk, R9_hs hr ⟨by decide, by decide⟩ a rfl, fun j hj => hs_j (by omega), fun j p1 p2 => by omega, hs_s _ _ _ _⟩
    show bX2_changeByY_2 (LX2_changeByY_2 n) a D i g = _
    unfold bX2_changeByY_2
    rw [wi_id (z := i) (by omega) (by omega), wi_id (z := D) (by omega) (by omega), if_neg (by omega), if_pos hD.1, w_st ha (by omega)]
  | succ d ih =>
    intro i n g q1 q2 q3 hr
    obtain ⟨n, rfl⟩ : ∃ k, n = k + 1 := ⟨n - 1, by omega⟩
    have b1 := rs_mul (hr i.toNat (by omega)) (b := i) ⟨by omega, by omega⟩
    obtain ⟨g', e1, e2, e3, e4, e5, e6⟩ := ih (i + 1) n (hs g a (i - 1).toNat (g a i.toNat * i % 10007)) (by omega) (by omega) (by omega) (R9_hs hr (rs_mod _) a rfl)
    refine ⟨g', ?_, fun k hk => (e2 k hk).trans (hs_ne hk), e3, fun j hj => (e4 j (by omega)).trans (hs_j (by omega)), fun j p1 p2 => ?_, e6⟩
    · show bX2_changeByY_2 (LX2_changeByY_2 n) a D i g = _
      unfold bX2_changeByY_2
      rw [wi_id (z := i) (by omega) (by omega), wi_id (z := D) (by omega) (by omega), if_pos (by omega), w_ld ha (by omega), w_st ha (by omega), rm_e b1.1 (by omega)]
      exact e1
    · by_cases c : (j : Int) + 1 = i
      · rw [e4 j (by omega), show j = (i - 1).toNat by omega, hs_s, show (i - 1).toNat + 1 = i.toNat by omega, show (((i - 1).toNat : Nat) : Int) + 1 = i by omega]
      · rw [e5 j (by omega) p2, hs_j (by omega)]
theorem pChY {a : Nat} (ha : 22 ≤ a ∧ a < 27) {D : Int} (hD : 0 ≤ D ∧ D ≤ 8) {g : HP} (hr : R9 g a) : ∃ g', fX2_changeByY a D g = some (0, g') ∧ (∀ k, k ≠ a → g' k = g k) ∧ R9 g' a ∧ (∀ j : Nat, D < j → g' a j = g a j) ∧ (∀ j : Nat, (j : Int) < D → g' a j = g a (j + 1) * (j + 1) % 10007) ∧ g' a D.toNat = 0 := by
  obtain ⟨g', e1, e2, e3, e4, e5, e6⟩ := pChYL ha hD D.toNat 1 FU g (by omega) (by omega) (fu_lt (by omega)) hr
  exact ⟨g', e1, e2, e3, fun j hj => e4 j (by omega), fun j hj => e5 j (by omega) hj, e6⟩
def fl (a : Int) : Nat → Int
  | 0 => 1
  | k + 1 => fl a k * (a - k)
/-- a falling product with a factor 0 -/
theorem fl_0 {a : Nat} : ∀ {k : Nat}, a < k → fl a k = 0
  | 0, h => by omega
  | k + 1, h => by
    show fl a k * ((a : Int) - k) = 0
    by_cases c : a = k
    · rw [c, Int.sub_self, Int.mul_zero]
    · rw [fl_0 (k := k) (by omega), Int.zero_mul]
theorem fl_s (a : Int) : ∀ k : Nat, fl a (k + 1) = a * fl (a - 1) k
  | 0 => by show 1 * (a - ((0 : Nat) : Int)) = a * 1; omega
  | k + 1 => by
    show fl a (k + 1) * (a - ((k + 1 : Nat) : Int)) = a * (fl (a - 1) k * (a - 1 - k))
    rw [fl_s a k, Int.mul_assoc, show a - ((k + 1 : Nat) : Int) = a - 1 - k by omega]
/-- after the changes by x -/
theorem pCgX {b : Nat} (hb : 22 ≤ b ∧ b < 27) {N : Int} (hN : 0 ≤ N ∧ N ≤ 8) {X Y : Int} (hX : 0 ≤ X) (hXN : X ≤ N) (F : Nat → Int) : ∀ (d i n : Nat) (g : HP), X - i = d → d < n → R9 g b → (∀ j : Nat, N - i < j → j < 9 → g b j = 0) → (∀ j : Nat, (j : Int) ≤ N → ep (g b j) (F j * fl (N - j) i)) → ∃ g', LX2_changed_42 n X Y b (N - i) i g = LX2_changed_67 FU Y b (N - X) 0 g' ∧ (∀ k, k ≠ b → g' k = g k) ∧ R9 g' b ∧ (∀ j : Nat, N - X < j → j < 9 → g' b j = 0) ∧ ∀ j : Nat, (j : Int) ≤ N → ep (g' b j) (F j * fl (N - j) X.toNat) := by
  intro d
  induction d with
  | zero =>
    intro i n g q1 q3 hr hz hk
    obtain ⟨n, rfl⟩ : ∃ k, n = k + 1 := ⟨n - 1, by omega⟩
    have ei : (i : Int) = X := by omega
    refine ⟨g, ?_, fun _ _ => rfl, hr, fun j h1 h2 => hz j (by omega) h2, fun j hj => by rw [show X.toNat = i by omega]; exact hk j hj⟩
    show bX2_changed_42 (LX2_changed_42 n) X Y b (N - i) i g = _
    unfold bX2_changed_42
    rw [wi_id (z := (i : Int)) (by omega) (by omega), wi_id (z := X) (by omega) (by omega), if_neg (by omega), ei]
  | succ d ih =>
    intro i n g q1 q3 hr hz hk
    obtain ⟨n, rfl⟩ : ∃ k, n = k + 1 := ⟨n - 1, by omega⟩
    obtain ⟨g1, f1, f2, f3, f4⟩ := pChX hb (N := N - i) (by omega) hr
    have hr1 : R9 g1 b := fun j hj => by
      by_cases c : (j : Int) ≤ N - i
      · rw [f4 j c]; exact rs_mod _
      · rw [f3 j (by omega)]; exact hr j hj
    obtain ⟨g', e1, e2, e3, e4, e5⟩ := ih (i + 1) n g1 (by omega) (by omega) hr1 (fun j h1 h2 => by
      by_cases c : (j : Int) ≤ N - i
      · have : (j : Int) = N - i := by omega
        rw [f4 j c, this, Int.sub_self, Int.mul_zero]; rfl
      · rw [f3 j (by omega)]; exact hz j (by omega) h2) (fun j hj => by
      show ep (g1 b j) (F j * (fl (N - j) i * (N - j - i)))
      rw [← Int.mul_assoc]
      by_cases c : (j : Int) ≤ N - i
      · rw [f4 j c, show N - i - (j : Int) = N - j - i by omega]
        exact ep_t (ep_m _) (ep_u (hk j hj) (ep_r _))
      · have h0 : fl (N - j) i = 0 := by
          have := fl_0 (a := (N - j).toNat) (k := i) (by omega)
          rw [show (((N - j).toNat : Nat) : Int) = N - j by omega] at this
          exact this
        rw [f3 j (by omega), h0, Int.mul_zero, Int.zero_mul, hz j (by omega) (by omega)]
        exact ep_r 0)
    refine ⟨g', ?_, fun k hk => (e2 k hk).trans (f2 k hk), e3, e4, e5⟩
    show bX2_changed_42 (LX2_changed_42 n) X Y b (N - i) i g = _
    unfold bX2_changed_42
    rw [wi_id (z := (i : Int)) (by omega) (by omega), wi_id (z := X) (by omega) (by omega), if_pos (by omega), f1, cl_some, show N - (i : Int) + -1 = N - ((i + 1 : Nat) : Int) by omega]
    exact e1
/-- after the changes by y -/
theorem pCgY {b : Nat} (hb : 22 ≤ b ∧ b < 27) {D : Int} (hD : 0 ≤ D ∧ D ≤ 8) {Y : Int} (hY : 0 ≤ Y) (hYD : Y ≤ D) (F : Nat → Int) : ∀ (d i n : Nat) (g : HP), Y - i = d → d < n → R9 g b → (∀ j : Nat, D - i < j → j < 9 → g b j = 0) → (∀ j : Nat, (j : Int) ≤ D - i → ep (g b j) (F (j + i) * fl (j + i) i)) → ∃ g', LX2_changed_67 n Y b (D - i) i g = some (0, g') ∧ (∀ k, k ≠ b → g' k = g k) ∧ R9 g' b ∧ (∀ j : Nat, D - Y < j → j < 9 → g' b j = 0) ∧ ∀ j : Nat, (j : Int) ≤ D - Y → ep (g' b j) (F (j + Y.toNat) * fl (j + Y) Y.toNat) := by
  intro d
  induction d with
  | zero =>
    intro i n g q1 q3 hr hz hk
    obtain ⟨n, rfl⟩ : ∃ k, n = k + 1 := ⟨n - 1, by omega⟩
    have ei : (i : Int) = Y := by omega
    refine ⟨g, ?_, fun _ _ => rfl, hr, fun j h1 h2 => hz j (by omega) h2, fun j hj => by rw [show Y.toNat = i by omega, ← ei]; exact hk j (by omega)⟩
    show bX2_changed_67 (LX2_changed_67 n) Y b (D - i) i g = _
    unfold bX2_changed_67
    rw [wi_id (z := (i : Int)) (by omega) (by omega), wi_id (z := Y) (by omega) (by omega), if_neg (by omega)]
  | succ d ih =>
    intro i n g q1 q3 hr hz hk
    obtain ⟨n, rfl⟩ : ∃ k, n = k + 1 := ⟨n - 1, by omega⟩
    obtain ⟨g1, f1, f2, f3, f4, f5, f6⟩ := pChY hb (D := D - i) (by omega) hr
    obtain ⟨g', e1, e2, e3, e4, e5⟩ := ih (i + 1) n g1 (by omega) (by omega) f3 (fun j h1 h2 => by
      by_cases c : (j : Int) = D - i
      · rw [show j = (D - i).toNat by omega]; exact f6
      · rw [f4 j (by omega)]; exact hz j (by omega) h2) (fun j hj => by
      rw [f5 j (by omega)]
      refine ep_t (ep_m _) ?_
      have h1 := hk (j + 1) (by omega)
      have e9 : fl ((j : Int) + ((i + 1 : Nat) : Int)) (i + 1) = fl (((j + 1 : Nat) : Int) + i) i * (j + 1) := by
        rw [show (j : Int) + ((i + 1 : Nat) : Int) = ((j + 1 : Nat) : Int) + i by omega]
        show fl (((j + 1 : Nat) : Int) + i) i * (((j + 1 : Nat) : Int) + i - i) = _
        rw [show (((j + 1 : Nat) : Int) + i - i) = (j : Int) + 1 by omega]
      rw [e9, ← Int.mul_assoc, show j + (i + 1) = j + 1 + i by omega]
      exact ep_u h1 (ep_r _))
    refine ⟨g', ?_, fun k hk => (e2 k hk).trans (f2 k hk), e3, e4, e5⟩
    show bX2_changed_67 (LX2_changed_67 n) Y b (D - i) i g = _
    unfold bX2_changed_67
    rw [wi_id (z := (i : Int)) (by omega) (by omega), wi_id (z := Y) (by omega) (by omega), if_pos (by omega), f1, cl_some, show D - (i : Int) + -1 = D - ((i + 1 : Nat) : Int) by omega]
    exact e1
theorem pCgC {a b : Nat} (ha : 22 ≤ a ∧ a < 27) (hb : 22 ≤ b ∧ b < 27) (hab : a ≠ b) {N X Y : Int} (hN : 0 ≤ N ∧ N ≤ 8) : ∀ (d : Nat) (i : Int) (n : Nat) (g : HP), 9 - i = d → 0 ≤ i → d < n → ∃ g', LX2_changed_3 n a N X Y b i g = LX2_changed_42 FU X Y b N 0 g' ∧ (∀ k, k ≠ b → g' k = g k) ∧ (∀ j : Nat, (j : Int) < i → g' b j = g b j) ∧ ∀ j : Nat, i ≤ j → j < 9 → g' b j = if (j : Int) ≤ N then g a j else 0 := by
  have hl : ((lnC b : Nat) : Int) = 9 := by rw [lnW hb]; rfl
  intro d
  induction d with
  | zero =>
    intro i n g q1 q2 q3
    obtain ⟨n, rfl⟩ : ∃ k, n = k + 1 := ⟨n - 1, by omega⟩
    refine ⟨g, ?_, fun _ _ => rfl, fun _ _ => rfl, fun j p1 p2 => by omega⟩
    show bX2_changed_3 (LX2_changed_3 n) a N X Y b i g = _
    unfold bX2_changed_3
    rw [hl, wi_id (z := i) (by omega) (by omega), wi_id (z := 9) (by decide) (by decide), if_neg (by omega)]
  | succ d ih =>
    intro i n g q1 q2 q3
    obtain ⟨n, rfl⟩ : ∃ k, n = k + 1 := ⟨n - 1, by omega⟩
    obtain ⟨g', e1, e2, e3, e4⟩ := ih (i + 1) n (hs g b i.toNat (if i ≤ N then g a i.toNat else 0)) (by omega) (by omega) (by omega)
    refine ⟨g', ?_, fun k hk => (e2 k hk).trans (hs_ne hk), fun j hj => (e3 j (by omega)).trans (hs_j (by omega)), fun j p1 p2 => ?_⟩
    · show bX2_changed_3 (LX2_changed_3 n) a N X Y b i g = _
      unfold bX2_changed_3
      rw [hl, wi_id (z := i) (by omega) (by omega), wi_id (z := 9) (by decide) (by decide), wi_id (z := N) (by omega) (by omega), if_pos (by omega)]
      by_cases c : i ≤ N
      · rw [if_pos c] at e1 ⊢
        rw [w_ld ha (by omega), w_st hb (by omega)]
        exact e1
      · rw [if_neg c] at e1 ⊢
        rw [w_st hb (by omega)]
        exact e1
    · by_cases c : (j : Int) = i
      · rw [e3 j (by omega), show j = i.toNat by omega, hs_s, show ((i.toNat : Nat) : Int) = i by omega]
      · rw [e4 j (by omega) p2, hs_k hab]
theorem pCg {a b : Nat} (ha : 22 ≤ a ∧ a < 27) (hb : 22 ≤ b ∧ b < 27) (hab : a ≠ b) {N X Y : Int} (hN : 0 ≤ N ∧ N ≤ 8) (hX : 0 ≤ X) (hY : 0 ≤ Y) (hXY : X + Y ≤ N) {g : HP} (hr : R9 g a) : ∃ g', fX2_changed a N X Y b g = some (0, g') ∧ (∀ k, k ≠ b → g' k = g k) ∧ R9 g' b ∧ (∀ j : Nat, N - X - Y < j → j < 9 → g' b j = 0) ∧ ∀ j : Nat, (j : Int) ≤ N - X - Y → ep (g' b j) (g a (j + Y.toNat) * fl (N - (j + Y)) X.toNat * fl (j + Y) Y.toNat) := by
  obtain ⟨g1, a1, a2, a3, a4⟩ := pCgC (X := X) (Y := Y) ha hb hab hN 9 0 FU g (by omega) (by omega) (by decide)
  have v1 : ∀ j : Nat, j < 9 → g1 b j = if (j : Int) ≤ N then g a j else 0 := fun j hj => a4 j (by omega) (by omega)
  have r1 : R9 g1 b := fun j hj => by
    rw [v1 j hj]
    by_cases c : (j : Int) ≤ N
    · rw [if_pos c]; exact hr j hj
    · rw [if_neg c]; exact ⟨by decide, by decide⟩
  obtain ⟨g2, b1, b2, b3, b4, b5⟩ := pCgX (Y := Y) hb hN hX (by omega) (g a) X.toNat 0 FU g1 (by omega) (fu_lt (by omega)) r1 (fun j h1 h2 => by rw [v1 j h2, if_neg (by omega)]) (fun j hj => by
    show ep (g1 b j) (g a j * 1)
    rw [v1 j (by omega), if_pos hj, Int.mul_one]; exact ep_r _)
  obtain ⟨g3, c1, c2, c3, c4, c5⟩ := pCgY hb (D := N - X) (by omega) hY (by omega) (fun j => g a j * fl (N - j) X.toNat) Y.toNat 0 FU g2 (by omega) (fu_lt (by omega)) b3 (fun j h1 h2 => b4 j (by omega) h2) (fun j hj => by
    show ep (g2 b j) (g a (j + 0) * fl (N - ((j + 0 : Nat) : Int)) X.toNat * 1)
    rw [Int.mul_one]
    exact b5 j (by omega))
  refine ⟨g3, ?_, fun k hk => (c2 k hk).trans ((b2 k hk).trans (a2 k hk)), c3, fun j h1 h2 => c4 j (by omega) h2, fun j hj => ?_⟩
  · unfold fX2_changed
    rw [a1]
    have b1' : LX2_changed_42 FU X Y b N 0 g1 = LX2_changed_67 FU Y b (N - X) 0 g2 := by
      rw [show N - ((0 : Nat) : Int) = N by omega] at b1; exact b1
    have c1' : LX2_changed_67 FU Y b (N - X) 0 g2 = some (0, g3) := by
      rw [show N - X - ((0 : Nat) : Int) = N - X by omega] at c1; exact c1
    rw [b1', c1']
  · have := c5 j (by omega)
    rw [show (((j + Y.toNat : Nat)) : Int) = (j : Int) + Y by omega] at this
    exact this
-- the call change
theorem mChL {x2 x3 M : Int} (hM : 1 ≤ M ∧ M ≤ 8) (h2 : x2 = 0 ∨ x2 = 1) (F : Nat → Int) : ∀ (d : Nat) (i : Int) (n : Nat) (m : HP), M - i = d → 0 ≤ i → d < n → m 0 6 = M → R9 m 5 → m 5 = F → ∃ m', LX5_change_65 n x2 x3 i m = (cl (fX5_lay x3 m') fun r129 h129 => some (r129, h129)) ∧ (∀ k, k ≠ 7 → m' k = m k) ∧ (∀ j : Nat, ((j : Int) < i ∨ M ≤ j) → m' 7 j = m 7 j) ∧ ∀ j : Nat, i ≤ j → j < M → m' 7 j = if x2 = 0 then F j * (M - j) % 10007 else F (j + 1) * (j + 1) % 10007 := by
  have w2 : wi x2 = x2 := by rcases h2 with h | h <;> (rw [h]; rfl)
  intro d
  induction d with
  | zero =>
    intro i n m q1 q2 q3 h6 h5 eF
    obtain ⟨n, rfl⟩ : ∃ k, n = k + 1 := ⟨n - 1, by omega⟩
    refine ⟨m, ?_, fun _ _ => rfl, fun _ _ => rfl, fun j p1 p2 => by omega⟩
    show bX5_change_65 (LX5_change_65 n) x2 x3 i m = _
    unfold bX5_change_65
    rw [h6, wi_id (z := i) (by omega) (by omega), wi_id (z := M) (by omega) (by omega), if_neg (by omega)]
  | succ d ih =>
    intro i n m q1 q2 q3 h6 h5 eF
    obtain ⟨n, rfl⟩ : ∃ k, n = k + 1 := ⟨n - 1, by omega⟩
    obtain ⟨m', e1, e2, e3, e4⟩ := ih (i + 1) n (hs m 7 i.toNat (if x2 = 0 then F i.toNat * (M - i) % 10007 else F (i.toNat + 1) * (i + 1) % 10007)) (by omega) (by omega) (by omega) (by rw [hs_k (by decide)]; exact h6) (R9_k h5 (hs_ne (by decide))) ((hs_ne (by decide)).trans eF)
    refine ⟨m', ?_, fun k hk => (e2 k hk).trans (hs_ne hk), fun j hj => (e3 j (by omega)).trans (hs_j (by omega)), fun j p1 p2 => ?_⟩
    · show bX5_change_65 (LX5_change_65 n) x2 x3 i m = _
      unfold bX5_change_65
      rw [h6, wi_id (z := i) (by omega) (by omega), wi_id (z := M) (by omega) (by omega), if_pos (by omega), w2]
      by_cases c : x2 = 0
      · rw [if_pos c] at e1 ⊢
        rw [m5_ld (by omega), mTimes (h5 i.toNat (by omega)) ⟨by omega, by omega⟩, cl_some, m7_st (by omega), eF]
        exact e1
      · rw [if_neg c] at e1 ⊢
        rw [m5_ld (by omega), show (i + 1).toNat = i.toNat + 1 by omega, mTimes (h5 (i.toNat + 1) (by omega)) ⟨by omega, by omega⟩, cl_some, m7_st (by omega), eF]
        exact e1
    · by_cases c : (j : Int) = i
      · rw [e3 j (by omega), show j = i.toNat by omega, hs_s, show ((i.toNat : Nat) : Int) = i by omega]
      · exact e4 j (by omega) p2
theorem mChg_bad {x1 x2 x3 : Int} (w1 : wi x1 = x1) (w2 : wi x2 = x2) (w3 : wi x3 = x3) (h : ¬ ((0 ≤ x1 ∧ x1 < 10) ∧ (0 ≤ x2 ∧ x2 ≤ 1) ∧ (0 ≤ x3 ∧ x3 < 10))) (m : HP) : fX5_change x1 x2 x3 m = some (-2, m) := by
  unfold fX5_change
  by_cases c1 : 0 ≤ x1 ∧ x1 < 10
  · rw [mIS_ok c1.1 c1.2, cl_some, if_neg (by decide)]
    by_cases c2 : 0 ≤ x2 ∧ x2 ≤ 1
    · rw [mIn_y w2 rfl rfl c2.1 c2.2, cl_some, if_neg (by decide), mIS_bad w3 (by omega), cl_some, if_pos wi_0]
    · rw [mIn_n w2 rfl rfl c2, cl_some, if_pos wi_0]
  · rw [mIS_bad w1 c1, cl_some, if_pos wi_0]
theorem g_change : G_change JJ := by
  intro g m hJ x1 x2 x3 w1 w2 w3
  by_cases c3 : 0 ≤ x3 ∧ x3 < 10
  · by_cases c2 : 0 ≤ x2 ∧ x2 ≤ 1
    · have cl0 : fX4_change x1 x2 x3 g = (cl (fX4_refuseForms x1 x1 g) fun r22 h22 => if wi r22 = 0 then (cl (fX4_load x1 22 h22) fun r41 h41 => if wi r41 = 0 then (some ((-3), h41)) else (if x2 = 1 then (jX4_change_64 x3 r41 1 h41) else (jX4_change_64 x3 r41 0 h41))) else (some (r22, h22))) := by
        unfold fX4_change
        rw [pNS_ok c3.1 c3.2, cl_some, if_pos wi_0, w2, wi_1, if_pos c2.1, if_neg (by omega)]
      rcases one_form hJ w1 with ⟨c, e⟩ | ⟨c, r, g1, m1, r0, e, f, hJ1⟩ | ⟨c, hw, hf, e, m1, f1, f2, f3, f4, f5⟩
      · refine ⟨-2, -2, g, m, ?_, mChg_bad w1 w2 w3 (by omega) m, rfl, hJ⟩
        rw [cl0, e, cl_some, if_neg (by decide)]
      · refine ⟨r, r, g1, m1, ?_, ?_, rfl, hJ1⟩
        · rw [cl0, e, cl_some, if_neg r0]
        · unfold fX5_change
          rw [mIS_ok c.1 c.2, cl_some, if_neg (by decide), mIn_y w2 rfl rfl c2.1 c2.2, cl_some, if_neg (by decide), mIS_ok c3.1 c3.2, cl_some, if_neg (by decide), f, cl_some, if_neg r0]
      · obtain ⟨g1, a1, a2, a3⟩ := pLoad c (a := 22) (by decide) hw
        have hc1 : sameC g g1 := sC_o (a := 22) (by decide) a2
        generalize hM : g (2 + x1.toNat) 2 - 1 = M at a1 f4
        have zM : 0 ≤ M ∧ M ≤ 8 := by omega
        have wM : wi M = M := wi_id (by omega) (by omega)
        have hml : fX5_change x1 x2 x3 m = if M = 0 then some (-3, m1) else (cl (fX5_noughtH (M - 1) m1) fun _ h59 => LX5_change_65 FU x2 x3 0 h59) := by
          unfold fX5_change
          rw [mIS_ok c.1 c.2, cl_some, if_neg (by decide), mIn_y w2 rfl rfl c2.1 c2.2, cl_some, if_neg (by decide), mIS_ok c3.1 c3.2, cl_some, if_neg (by decide), f1, cl_some, if_pos wi_0, f4, wM]
        by_cases y0 : M = 0
        · refine ⟨-3, -3, g1, m1, ?_, ?_, rfl, JJ_same hJ hc1 (sM_1 f2 f3)⟩
          · rw [cl0, e, cl_some, if_pos wi_0, a1, cl_some, wM, if_pos y0]
          · rw [hml, if_pos y0]
        · have R22 : R9 g1 22 := fun j hj => by rw [a3 j hj]; exact nb_rs _ _ _
          have R5 : R9 m1 5 := fun j hj => by rw [f5 j hj]; exact nb_rs _ _ _
          obtain ⟨m2, n1, n2, n3, n4, n5⟩ := mNou (n := M - 1) m1
          obtain ⟨m3, o1, o2, o3, o4⟩ := mChL (x2 := x2) (x3 := x3) (M := M) (by omega) (by omega) (m1 5) M.toNat 0 FU m2 (by omega) (by omega) (fu_lt (by omega)) (by rw [n3 6 (by decide), f4]) (R9_k R5 (n2 5 (by decide) (by decide))) (n2 5 (by decide) (by decide))
          have hm3 : sameM m m3 := sM_t (sM_1 f2 f3) ⟨by rw [o2 0 (by decide), n3 4 (by decide)], (o2 1 (by decide)).trans (n2 1 (by decide) (by decide)), (o2 2 (by decide)).trans (n2 2 (by decide) (by decide)), (o2 3 (by decide)).trans (n2 3 (by decide) (by decide))⟩
          obtain ⟨g2, d1, d2, d3, d4, d5⟩ := pCg (a := 22) (b := 26) (by decide) (by decide) (by decide) (N := M) (X := 1 - x2) (Y := x2) zM (by omega) (by omega) (by omega) R22
          obtain ⟨g4, m4, p1, p2, hJ4⟩ := keep_form hJ (sC_t hc1 (sC_o (a := 26) (by decide) d2)) hm3 c3 (n := M - 1) (by omega) (by rw [o2 0 (by decide), n4]) (fun i hi => by
            have v := d5 i (by omega)
            have u := o4 i (by omega) (by omega)
            refine ⟨d3 i (by omega), ?_⟩
            rw [u]
            by_cases c0 : x2 = 0
            · rw [if_pos c0]
              refine ep_i (rs_mod _) (d3 i (by omega)) (ep_t (ep_m _) (ep_s (ep_t v ?_)))
              rw [c0, f5 i (by omega), show ((0 : Int).toNat) = 0 from rfl, show (1 - (0 : Int)).toNat = 1 from rfl, Nat.add_zero, a3 i (by omega)]
              show ep (nb g x1.toNat i * (1 * (M - (↑i + 0) - ((0 : Nat) : Int))) * 1) _
              rw [Int.one_mul, Int.mul_one, show M - ((i : Int) + 0) - ((0 : Nat) : Int) = M - i by omega]
              exact ep_r _
            · have c1 : x2 = 1 := by omega
              rw [if_neg c0]
              refine ep_i (rs_mod _) (d3 i (by omega)) (ep_t (ep_m _) (ep_s (ep_t v ?_)))
              rw [c1, f5 (i + 1) (by omega), show ((1 : Int).toNat) = 1 from rfl, show (1 - (1 : Int)).toNat = 0 from rfl, a3 (i + 1) (by omega)]
              show ep (nb g x1.toNat (i + 1) * 1 * (1 * (↑i + 1 - ((0 : Nat) : Int)))) _
              rw [Int.one_mul, Int.mul_one, show (i : Int) + 1 - ((0 : Nat) : Int) = i + 1 by omega]
              exact ep_r _)
          refine ⟨M - 1, M - 1, g4, m4, ?_, ?_, rfl, hJ4⟩
          · rw [cl0, e, cl_some, if_pos wi_0, a1, cl_some, wM, if_neg y0]
            unfold jX4_change_64
            by_cases c1 : x2 = 1
            · rw [c1] at d1
              rw [if_pos c1, d1, cl_some, p1, cl_some]
            · have c0 : x2 = 0 := by omega
              rw [c0] at d1
              rw [if_neg c1, d1, cl_some, p1, cl_some]
          · rw [hml, if_neg y0, n1, cl_some, o1, p2, cl_some]
    · refine ⟨-2, -2, g, m, ?_, mChg_bad w1 w2 w3 (by omega) m, rfl, hJ⟩
      unfold fX4_change
      rw [pNS_ok c3.1 c3.2, cl_some, if_pos wi_0, w2, wi_1]
      by_cases z : 0 ≤ x2
      · rw [if_pos z, if_pos (by omega)]
      · rw [if_neg z]
  · refine ⟨-2, -2, g, m, ?_, mChg_bad w1 w2 w3 (by omega) m, rfl, hJ⟩
    unfold fX4_change
    rw [pNS_bad w3 c3, cl_some, if_neg (by decide)]
