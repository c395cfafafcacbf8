/-! What is left of two forms where letters go: the determinant. -/
theorem pLS1 {a : Nat} (ha : 22 ≤ a ∧ a < 27) {D fr rw' r : Nat} (hD : D ≤ 8) (hr : r < rw') (hrD : rw' + D ≤ 16) (hfr : fr + rw' ≤ 16) (F : Nat → Int) (K : Nat → Int → Int → Int → Int → HP → Option (Int × HP)) : ∀ (d i n : Nat) (g : HP), D + 1 - i = d → i ≤ D + 1 → d < n → g a = F → ∃ g', LX0_layStairs_13 K n a D fr rw' r i g = K a D fr rw' (r + 1) g' ∧ (∀ b, b ≠ 28 → g' b = g b) ∧ (∀ s k, k < 16 → ¬ (s = fr + r ∧ r + i ≤ k ∧ k ≤ r + D) → cm g' s k = cm g s k) ∧ ∀ k, r + i ≤ k → k ≤ r + D → cm g' (fr + r) k = F (k - r) := by
  intro d
  induction d with
  | zero =>
    intro i n g q1 q2 q3 h
    obtain ⟨n, rfl⟩ : ∃ k, n = k + 1 := ⟨n - 1, by omega⟩
    refine ⟨g, ?_, fun _ _ => rfl, fun _ _ _ _ => rfl, fun k a b => by omega⟩
    show bX0_layStairs_13 K (LX0_layStairs_13 K n) a D fr rw' r i g = _
    unfold bX0_layStairs_13
    rw [wi_id (z := (i : Int)) (by omega) (by omega), wi_id (z := (D : Int)) (by omega) (by omega), if_neg (by omega)]
  | succ d ih =>
    intro i n g q1 q2 q3 h
    obtain ⟨n, rfl⟩ : ∃ k, n = k + 1 := ⟨n - 1, by omega⟩
    obtain ⟨g', e1, e2, e3, e4⟩ := ih (i + 1) n (sc g (fr + r) (r + i) (F i)) (by omega) (by omega) (by omega) (by rw [sc_a (by omega)]; exact h)
    refine ⟨g', ?_, fun b hb => by rw [e2 b hb, sc_a hb], fun s k hk hn => by rw [e3 s k hk (by omega), cm_o (by omega) hk (by omega)], fun k x y => ?_⟩
    · show bX0_layStairs_13 K (LX0_layStairs_13 K n) a D fr rw' r i g = _
      unfold bX0_layStairs_13
      rw [wi_id (z := (i : Int)) (by omega) (by omega), wi_id (z := (D : Int)) (by omega) (by omega), if_pos (by omega), w_ld ha (by omega), h, Int.toNat_natCast, show (fr : Int) + r = ((fr + r : Nat) : Int) by omega, show (r : Int) + i = ((r + i : Nat) : Int) by omega, pSe (by omega) (by omega), cl_some]
      exact e1
    · by_cases z : k = r + i
      · rw [z, e3 (fr + r) (r + i) (by omega) (by omega), cm_s, show r + i - r = i by omega]
      · exact e4 k (by omega) y
theorem pLS {a : Nat} (ha : 22 ≤ a ∧ a < 27) {D fr rw' : Nat} (hD : D ≤ 8) (hrD : rw' + D ≤ 16) (hfr : fr + rw' ≤ 16) (F : Nat → Int) : ∀ (d r n : Nat) (g : HP), rw' - r = d → r ≤ rw' → d < n → g a = F → ∃ g', LX0_layStairs_3 n a D fr rw' r g = some (0, g') ∧ (∀ b, b ≠ 28 → g' b = g b) ∧ (∀ s k, k < 16 → ¬ (fr + r ≤ s ∧ s < fr + rw' ∧ s ≤ k + fr ∧ k + fr ≤ s + D) → cm g' s k = cm g s k) ∧ ∀ s k, fr + r ≤ s → s < fr + rw' → s ≤ k + fr → k + fr ≤ s + D → cm g' s k = F (k + fr - s) := by
  intro d
  induction d with
  | zero =>
    intro r n g q1 q2 q3 h
    obtain ⟨n, rfl⟩ : ∃ k, n = k + 1 := ⟨n - 1, by omega⟩
    refine ⟨g, ?_, fun _ _ => rfl, fun _ _ _ _ => rfl, fun s k a b => by omega⟩
    show bX0_layStairs_3 (LX0_layStairs_3 n) a D fr rw' r g = _
    unfold bX0_layStairs_3
    rw [wi_id (z := (r : Int)) (by omega) (by omega), wi_id (z := (rw' : Int)) (by omega) (by omega), if_neg (by omega)]
  | succ d ih =>
    intro r n g q1 q2 q3 h
    obtain ⟨n, rfl⟩ : ∃ k, n = k + 1 := ⟨n - 1, by omega⟩
    obtain ⟨g1, f1, f2, f3, f4⟩ := pLS1 ha hD (r := r) (by omega) hrD hfr F (LX0_layStairs_3 n) (D + 1) 0 FU g (by omega) (by omega) (fu_lt (by omega)) h
    obtain ⟨g', e1, e2, e3, e4⟩ := ih (r + 1) n g1 (by omega) (by omega) (by omega) (by rw [f2 a (by omega)]; exact h)
    refine ⟨g', ?_, fun b hb => (e2 b hb).trans (f2 b hb), fun s k hk hn => by rw [e3 s k hk (by omega), f3 s k hk (by omega)], fun s k x y w v => ?_⟩
    · show bX0_layStairs_3 (LX0_layStairs_3 n) a D fr rw' r g = _
      unfold bX0_layStairs_3
      rw [show ((0 : Nat) : Int) = 0 from rfl] at f1
      rw [wi_id (z := (r : Int)) (by omega) (by omega), wi_id (z := (rw' : Int)) (by omega) (by omega), if_pos (by omega), f1]
      exact e1
    · by_cases z : s = fr + r
      · rw [z, e3 (fr + r) k (by omega) (by omega), f4 k (by omega) (by omega), show k + fr - (fr + r) = k - r by omega]
      · exact e4 s k (by omega) y w v
def sy (F G : Nat → Int) (M N r k : Nat) : Int := if r < N then (if r ≤ k ∧ k ≤ r + M then F (k - r) else 0) else (if r ≤ k + N ∧ k ≤ r then G (k + N - r) else 0)
theorem sy_rs {F G : Nat → Int} {M N r k : Nat} (hM : M ≤ 8) (hN : N ≤ 8) (hF : ∀ j, j < 9 → rs (F j)) (hG : ∀ j, j < 9 → rs (G j)) : rs (sy F G M N r k) := by
  have r0 : rs 0 := ⟨by decide, by decide⟩
  unfold sy
  by_cases a : r < N
  · rw [if_pos a]
    by_cases b : r ≤ k ∧ k ≤ r + M
    · rw [if_pos b]; exact hF _ (by omega)
    · rw [if_neg b]; exact r0
  · rw [if_neg a]
    by_cases b : r ≤ k + N ∧ k ≤ r
    · rw [if_pos b]; exact hG _ (by omega)
    · rw [if_neg b]; exact r0
theorem mRe1 {M N T r : Nat} (hM : M ≤ 8) (hN : N ≤ 8) (hT : T = M + N) (hr : r < T) (F G : Nat → Int) (K : Int → Int → HP → Option (Int × HP)) : ∀ (d k n : Nat) (m : HP), T - k = d → k ≤ T → d < n → m 5 = F → m 6 = G → m 0 6 = M → m 0 8 = N → ∃ m', LX5_result_71 K n T r k m = K T (r + 1) m' ∧ (∀ a, a ≠ 9 → m' a = m a) ∧ (∀ s j, j < 18 → ¬ (s = r ∧ k ≤ j ∧ j < T) → mm m' s j = mm m s j) ∧ ∀ j, k ≤ j → j < T → mm m' r j = sy F G M N r j := by
  intro d
  induction d with
  | zero =>
    intro k n m q1 q2 q3 h5 h6 h7 h8
    obtain ⟨n, rfl⟩ : ∃ k, n = k + 1 := ⟨n - 1, by omega⟩
    refine ⟨m, ?_, fun _ _ => rfl, fun _ _ _ _ => rfl, fun j a b => by omega⟩
    show bX5_result_71 K (LX5_result_71 K n) T r k m = _
    unfold bX5_result_71
    rw [wi_id (z := (k : Int)) (by omega) (by omega), wi_id (z := (T : Int)) (by omega) (by omega), if_neg (by omega)]
  | succ d ih =>
    intro k n m q1 q2 q3 h5 h6 h7 h8
    obtain ⟨n, rfl⟩ : ∃ k, n = k + 1 := ⟨n - 1, by omega⟩
    obtain ⟨m', e1, e2, e3, e4⟩ := ih (k + 1) n (mS m r k (sy F G M N r k)) (by omega) (by omega) (by omega) (by rw [mS_a (by decide)]; exact h5) (by rw [mS_a (by decide)]; exact h6) (by rw [mS_a (by decide)]; exact h7) (by rw [mS_a (by decide)]; exact h8)
    refine ⟨m', ?_, fun a ha => by rw [e2 a ha, mS_a ha], fun s j hj hn => by rw [e3 s j hj (by omega), mm_o (by omega) hj (by omega)], fun j x y => ?_⟩
    · show bX5_result_71 K (LX5_result_71 K n) T r k m = _
      unfold bX5_result_71 jX5_result_105
      unfold sy at e1
      rw [h7, h8, wi_id (z := (k : Int)) (by omega) (by omega), wi_id (z := (T : Int)) (by omega) (by omega), if_pos (show (k : Int) < T by omega), wi_id (z := (r : Int)) (by omega) (by omega), wi_id (z := (N : Int)) (by omega) (by omega), wi_id (z := (M : Int)) (by omega) (by omega)]
      by_cases a : r < N
      · rw [if_pos a] at e1
        rw [if_pos (show (r : Int) < N by omega), wi_id (z := (k : Int) - r) (by omega) (by omega)]
        by_cases b : r ≤ k
        · rw [if_neg (show ¬ (k : Int) - r < 0 by omega), if_pos (show (r : Int) < N by omega)]
          by_cases c : k ≤ r + M
          · rw [if_pos ⟨b, c⟩] at e1
            rw [if_pos (show (k : Int) - r ≤ M by omega), m5_ld (by omega), h5, show ((k : Int) - r).toNat = k - r by omega, m9_st (r := r) (c := k) (by omega) (by omega) rfl]
            exact e1
          · rw [if_neg (fun q => c q.2)] at e1
            rw [if_neg (show ¬ (k : Int) - r ≤ M by omega), m9_st (r := r) (c := k) (by omega) (by omega) rfl]
            exact e1
        · rw [if_neg (fun q => b q.1)] at e1
          rw [if_pos (show (k : Int) - r < 0 by omega), m9_st (r := r) (c := k) (by omega) (by omega) rfl]
          exact e1
      · rw [if_neg a] at e1
        rw [if_neg (show ¬ (r : Int) < N by omega), wi_id (z := (k : Int) - (r - N)) (by omega) (by omega)]
        by_cases b : r ≤ k + N
        · rw [if_neg (show ¬ (k : Int) - (r - N) < 0 by omega), if_neg (show ¬ (r : Int) < N by omega)]
          by_cases c : k ≤ r
          · rw [if_pos ⟨b, c⟩] at e1
            rw [if_pos (show (k : Int) - (r - N) ≤ N by omega), m6_ld (by omega), h6, show ((k : Int) - (r - N)).toNat = k + N - r by omega, m9_st (r := r) (c := k) (by omega) (by omega) rfl]
            exact e1
          · rw [if_neg (fun q => c q.2)] at e1
            rw [if_neg (show ¬ (k : Int) - (r - N) ≤ N by omega), m9_st (r := r) (c := k) (by omega) (by omega) rfl]
            exact e1
        · rw [if_neg (fun q => b q.1)] at e1
          rw [if_pos (show (k : Int) - (r - N) < 0 by omega), m9_st (r := r) (c := k) (by omega) (by omega) rfl]
          exact e1
    · by_cases z : j = k
      · rw [z, e3 r k (by omega) (by omega), mm_s]
      · exact e4 j (by omega) y
theorem mRe2 {M N T : Nat} (hM : M ≤ 8) (hN : N ≤ 8) (hT : T = M + N) (F G : Nat → Int) : ∀ (d r n : Nat) (m : HP), T - r = d → r ≤ T → d < n → m 5 = F → m 6 = G → m 0 6 = M → m 0 8 = N → ∃ m', LX5_result_61 n T r m = (cl (fX5_eliminate T T m') fun r198 h198 => some (h198 0 13, h198)) ∧ (∀ a, a ≠ 9 → m' a = m a) ∧ (∀ s j, j < 18 → ¬ (r ≤ s ∧ s < T ∧ j < T) → mm m' s j = mm m s j) ∧ ∀ s j, r ≤ s → s < T → j < T → mm m' s j = sy F G M N s j := by
  intro d
  induction d with
  | zero =>
    intro r n m q1 q2 q3 h5 h6 h7 h8
    obtain ⟨n, rfl⟩ : ∃ k, n = k + 1 := ⟨n - 1, by omega⟩
    refine ⟨m, ?_, fun _ _ => rfl, fun _ _ _ _ => rfl, fun s j a b => by omega⟩
    show bX5_result_61 (LX5_result_61 n) T r m = _
    unfold bX5_result_61
    rw [wi_id (z := (r : Int)) (by omega) (by omega), wi_id (z := (T : Int)) (by omega) (by omega), if_neg (by omega)]
  | succ d ih =>
    intro r n m q1 q2 q3 h5 h6 h7 h8
    obtain ⟨n, rfl⟩ : ∃ k, n = k + 1 := ⟨n - 1, by omega⟩
    obtain ⟨m1, f1, f2, f3, f4⟩ := mRe1 hM hN hT (r := r) (by omega) F G (LX5_result_61 n) T 0 FU m (by omega) (by omega) (fu_lt (by omega)) h5 h6 h7 h8
    obtain ⟨m', e1, e2, e3, e4⟩ := ih (r + 1) n m1 (by omega) (by omega) (by omega) (by rw [f2 5 (by decide)]; exact h5) (by rw [f2 6 (by decide)]; exact h6) (by rw [f2 0 (by decide)]; exact h7) (by rw [f2 0 (by decide)]; exact h8)
    refine ⟨m', ?_, fun a ha => (e2 a ha).trans (f2 a ha), fun s j hj hn => by rw [e3 s j hj (by omega), f3 s j hj (by omega)], fun s j x y w => ?_⟩
    · show bX5_result_61 (LX5_result_61 n) T r m = _
      unfold bX5_result_61
      rw [show ((0 : Nat) : Int) = 0 from rfl] at f1
      rw [wi_id (z := (r : Int)) (by omega) (by omega), wi_id (z := (T : Int)) (by omega) (by omega), if_pos (by omega), f1]
      exact e1
    · by_cases z : s = r
      · rw [z, e3 r j (by omega) (by omega), f4 j (by omega) w]
      · exact e4 s j (by omega) y w
theorem g_result : G_result JJ := by
  intro g m hJ x1 x2 w1 w2
  rcases two_form hJ w1 w2 with ⟨c, e⟩ | ⟨c, d, r, g1, m1, r0, e, f, hJ1⟩ | ⟨c, d, hw, hw', hf, hf', e, m1, f1, f2, f3, f4, f5, f6, f7⟩
  · refine ⟨-2, -2, g, m, ?_, ?_, rfl, hJ⟩
    · unfold fX4_result
      rw [e, cl_some, if_neg (by decide)]
    · unfold fX5_result
      by_cases c1 : 0 ≤ x1 ∧ x1 < 10
      · rw [mIS_ok c1.1 c1.2, cl_some, if_neg (by decide), mIS_bad w2 (by omega), cl_some, if_pos wi_0]
      · rw [mIS_bad w1 c1, cl_some, if_pos wi_0]
  · refine ⟨r, r, g1, m1, ?_, ?_, rfl, hJ1⟩
    · unfold fX4_result
      rw [e, cl_some, if_neg r0]
    · unfold fX5_result
      rw [mIS_ok c.1 c.2, cl_some, if_neg (by decide), mIS_ok d.1 d.2, cl_some, if_neg (by decide), f, cl_some, if_neg r0]
  · have s1 : x1.toNat < 10 := by omega
    have s2 : x2.toNat < 10 := by omega
    obtain ⟨g1, a1, a2, a3⟩ := pLoad c (a := 22) (by decide) hw
    have hc1 : sameC g g1 := sC_o (a := 22) (by decide) a2
    obtain ⟨g2, b1, b2, b3⟩ := pLoad d (a := 23) (by decide) (WS_same s2 hw' hc1)
    have hc2 : sameC g g2 := sC_t hc1 (sC_o (a := 23) (by decide) b2)
    rw [sz_same s2 hc1] at b1
    have v22 : ∀ j : Nat, j < 9 → g2 22 j = nb g x1.toNat j := fun j hj => by rw [b2 22 (by decide), a3 j hj]
    have v23 : ∀ j : Nat, j < 9 → g2 23 j = nb g x2.toNat j := fun j hj => by rw [b3 j hj, nb_same s2 hc1]
    have R5 : ∀ j, j < 9 → rs (m1 5 j) := fun j hj => by rw [f6 j hj]; exact nb_rs _ _ _
    have R6 : ∀ j, j < 9 → rs (m1 6 j) := fun j hj => by rw [f7 j hj]; exact nb_rs _ _ _
    obtain ⟨M, hM⟩ : ∃ M : Nat, g (2 + x1.toNat) 2 - 1 = M := ⟨(g (2 + x1.toNat) 2 - 1).toNat, by omega⟩
    obtain ⟨N, hN⟩ : ∃ N : Nat, g (2 + x2.toNat) 2 - 1 = N := ⟨(g (2 + x2.toNat) 2 - 1).toNat, by omega⟩
    rw [hM] at a1 f4
    rw [hN] at b1 f5
    have zM : M ≤ 8 := by omega
    have zN : N ≤ 8 := by omega
    have wM : wi (M : Int) = M := wi_id (by omega) (by omega)
    have wN : wi (N : Int) = N := wi_id (by omega) (by omega)
    have hm1 : sameM m m1 := sM_2 f2 f3
    by_cases y : M = 0 ∨ N = 0
    · refine ⟨-3, -3, g2, m1, ?_, ?_, rfl, JJ_same hJ hc2 hm1⟩
      · unfold fX4_result
        rw [e, cl_some, if_pos wi_0, a1, cl_some, b1, cl_some, wM, wN]
        by_cases z : (M : Int) = 0
        · rw [if_pos z]
        · rw [if_neg z, if_pos (by omega)]
      · unfold fX5_result
        rw [mIS_ok c.1 c.2, cl_some, if_neg (by decide), mIS_ok d.1 d.2, cl_some, if_neg (by decide), f1, cl_some, if_pos wi_0, f4, f5, wM, wN]
        by_cases z : (M : Int) = 0
        · rw [if_pos z]
        · rw [if_neg z, if_pos (by omega)]
    · obtain ⟨g3, d1, d2, d3⟩ := pClr g2
      obtain ⟨g4, o1, o2, o3, o4⟩ := pLS (a := 22) (by decide) (D := M) (fr := 0) (rw' := N) zM (by omega) (by omega) (g2 22) N 0 FU g3 (by omega) (by omega) (fu_lt (by omega)) (d2 22 (by decide))
      obtain ⟨g5, p1, p2, p3, p4⟩ := pLS (a := 23) (by decide) (D := N) (fr := N) (rw' := M) zN (by omega) (by omega) (g2 23) M 0 FU g4 (by omega) (by omega) (fu_lt (by omega)) (by rw [o2 23 (by decide), d2 23 (by decide)])
      obtain ⟨m2, q1, q2, q3, q4⟩ := mRe2 zM zN (T := M + N) rfl (m1 5) (m1 6) (M + N) 0 FU m1 (by omega) (by omega) (fu_lt (by omega)) rfl rfl f4 f5
      have hag : ∀ r k, r < M + N → k < M + N → cm g5 r k = mm m2 r k := fun r k hr hk => by
        rw [q4 r k (by omega) hr hk]
        unfold sy
        by_cases z : r < N
        · rw [if_pos z, p3 r k (by omega) (by omega)]
          by_cases y1 : r ≤ k ∧ k ≤ r + M
          · rw [if_pos y1, o4 r k (by omega) (by omega) (by omega) (by omega), show k + 0 - r = k - r by omega, v22 _ (by omega), f6 _ (by omega)]
          · rw [if_neg y1, o3 r k (by omega) (by omega), d3 r k (by omega) (by omega)]
        · rw [if_neg z]
          by_cases y1 : r ≤ k + N ∧ k ≤ r
          · rw [if_pos y1, p4 r k (by omega) (by omega) (by omega) (by omega), v23 _ (by omega), f7 _ (by omega)]
          · rw [if_neg y1, p3 r k (by omega) (by omega), o3 r k (by omega) (by omega), d3 r k (by omega) (by omega)]
      obtain ⟨ρ, g6, m6, t1, t2, t3, t4, t5, t6, t7, t8⟩ := el_all (R := M + N) (C := M + N) (by omega) (by omega) (g := g5) (m := m2) (fun r k hr hk => by rw [hag r k hr hk, q4 r k (by omega) hr hk]; exact sy_rs zM zN R5 R6) hag
      have hc6 : sameC g g6 := sC_t hc2 (sC_t (sC_o (a := 28) (by decide) d2) (sC_t (sC_o (a := 28) (by decide) o2) (sC_t (sC_o (a := 28) (by decide) p2) (sC_g t3))))
      have hm6 : sameM m m6 := sM_t hm1 (sM_t ⟨by rw [q2 0 (by decide)], q2 1 (by decide), q2 2 (by decide), q2 3 (by decide)⟩ (sM_g t4 t5))
      refine ⟨m6 0 13, m6 0 13, g6, m6, ?_, ?_, rfl, JJ_same hJ hc6 hm6⟩
      · rw [show ((0 : Nat) : Int) = 0 from rfl] at o1 p1
        unfold fX4_result fX0_layStairs fX0_determinant
        rw [e, cl_some, if_pos wi_0, a1, cl_some, b1, cl_some, wM, wN, if_neg (by omega), if_neg (by omega), d1, cl_some, o1, cl_some, p1, cl_some, show (M : Int) + N = ((M + N : Nat) : Int) by omega, t1, cl_some, wi_id (z := (ρ : Int)) (by omega) (by omega), wi_id (z := ((M + N : Nat) : Int)) (by omega) (by omega)]
        rcases t8 with ⟨u1, u2⟩ | ⟨u1, u2⟩
        · rw [if_pos (by omega), u2, cl_some]
        · rw [if_neg (by omega), u2, cl_some]
      · rw [show ((0 : Nat) : Int) = 0 from rfl] at q1
        unfold fX5_result
        rw [mIS_ok c.1 c.2, cl_some, if_neg (by decide), mIS_ok d.1 d.2, cl_some, if_neg (by decide), f1, cl_some, if_pos wi_0, f4, f5, wM, wN, if_neg (by omega), if_neg (by omega), lt_d, show (M : Int) + N = ((M + N : Nat) : Int) by omega, q1, t2, cl_some]
