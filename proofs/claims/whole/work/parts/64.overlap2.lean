def xX (F G : Nat → Int) (M N K : Int) (t i u : Nat) : Int := if u ≤ t ∧ (t : Int) + K ≤ N + (u + i) then mO F M K i (u + i) * mT G N K i (t + K.toNat - (u + i)) else 0
theorem mOv2 {M N K : Int} (hM : 0 ≤ M ∧ M ≤ 8) (hN : 0 ≤ N ∧ N ≤ 8) (hK : 0 ≤ K) (hKM : K ≤ M) (hKN : K ≤ N) {x4 by' : Int} (hb : rs by') {i : Nat} (hi : (i : Int) ≤ K) (F G B : Nat → Int) (C : Int → Int → Int → HP → Option (Int × HP)) : ∀ (d u n : Nat) (m : HP), M + 1 - (u + i) = d → d < n → m 0 6 = M → m 0 8 = N → R9 m 5 → R9 m 6 → R20 m → m 5 = F → m 6 = G → (∀ t : Nat, t < 20 → ep (m 7 t) (B t + by' * sm (xX F G M N K t i) u)) → ∃ m', LX5_overlap_148 C n K x4 i by' (u + i : Nat) m = C K x4 (i + 1) m' ∧ (∀ k, k ≠ 7 → m' k = m k) ∧ R20 m' ∧ ∀ t : Nat, t < 20 → ep (m' 7 t) (B t + by' * sm (xX F G M N K t i) (M.toNat + 1 - i)) := by
  intro d
  induction d with
  | zero =>
    intro u n m q1 q3 h6 h8 r5 r6 r7 eF eG hk
    obtain ⟨n, rfl⟩ : ∃ z, n = z + 1 := ⟨n - 1, by omega⟩
    refine ⟨m, ?_, fun _ _ => rfl, r7, fun t ht => by rw [show M.toNat + 1 - i = u by omega]; exact hk t ht⟩
    show bX5_overlap_148 C (LX5_overlap_148 C n) K x4 i by' (u + i : Nat) m = _
    unfold bX5_overlap_148
    rw [h6, wi_id (z := ((u + i : Nat) : Int)) (by omega) (by omega), wi_id (z := M) (by omega) (by omega), if_neg (by omega)]
  | succ d ih =>
    intro u n m q1 q3 h6 h8 r5 r6 r7 eF eG hk
    obtain ⟨n, rfl⟩ : ∃ z, n = z + 1 := ⟨n - 1, by omega⟩
    obtain ⟨m1, f1, f2, f3, f4⟩ := mOv3 hM hN hK hKM hKN (x4 := x4) hb hi (p := u + i) (by omega) (by omega) F G (LX5_overlap_148 C n) (N + 1 - (K - i)).toNat (K - i).toNat FU m (by omega) (by omega) (fu_lt (by omega)) h6 h8 r5 r6 r7 eF eG
    obtain ⟨m', e1, e2, e3, e4⟩ := ih (u + 1) n m1 (by omega) (by omega) (by rw [f2 0 (by decide)]; exact h6) (by rw [f2 0 (by decide)]; exact h8) (R9_k r5 (f2 5 (by decide))) (R9_k r6 (f2 6 (by decide))) f3 ((f2 5 (by decide)).trans eF) ((f2 6 (by decide)).trans eG) (fun t ht => by
      show ep (m1 7 t) (B t + by' * (sm (xX F G M N K t i) u + xX F G M N K t i u))
      rw [Int.mul_add, ← Int.add_assoc]
      refine ep_t (f4 t ht) (ep_a (hk t ht) (ep_u (ep_r _) ?_))
      unfold xX
      by_cases y : u ≤ t ∧ (t : Int) + K ≤ N + (u + i)
      · rw [if_pos y, if_pos (by omega)]; exact ep_r _
      · rw [if_neg y, if_neg (by omega)]; exact ep_r _)
    refine ⟨m', ?_, fun k hk => (e2 k hk).trans (f2 k hk), e3, e4⟩
    show bX5_overlap_148 C (LX5_overlap_148 C n) K x4 i by' (u + i : Nat) m = _
    unfold bX5_overlap_148
    rw [h6, wi_id (z := ((u + i : Nat) : Int)) (by omega) (by omega), wi_id (z := M) (by omega) (by omega), if_pos (by omega), lt_d]
    rw [show (((K - i).toNat : Nat) : Int) = K - i by omega] at f1
    rw [f1, show ((u + i : Nat) : Int) + 1 = ((u + 1 + i : Nat) : Int) by omega]
    exact e1
theorem mOvE {x4 s : Int} (hs' : rs s) {H : Int} (hH : 0 ≤ H ∧ H ≤ 8) : ∀ (d : Nat) (i : Int) (n : Nat) (m : HP), H + 1 - i = d → 0 ≤ i → d < n → m 0 10 = H → R20 m → ∃ m', LX5_overlap_344 n x4 s i m = (cl (fX5_lay x4 m') fun r381 h381 => some (r381, h381)) ∧ (∀ k, k ≠ 7 → m' k = m k) ∧ (∀ j : Nat, (j : Int) < i → m' 7 j = m 7 j) ∧ ∀ j : Nat, i ≤ j → j ≤ H → m' 7 j = m 7 j * s % 10007 := by
  intro d
  induction d with
  | zero =>
    intro i n m q1 q2 q3 h10 r7
    obtain ⟨n, rfl⟩ : ∃ z, n = z + 1 := ⟨n - 1, by omega⟩
    refine ⟨m, ?_, fun _ _ => rfl, fun _ _ => rfl, fun j p1 p2 => by omega⟩
    show bX5_overlap_344 (LX5_overlap_344 n) x4 s i m = _
    unfold bX5_overlap_344
    rw [h10, wi_id (z := i) (by omega) (by omega), wi_id (z := H) (by omega) (by omega), if_neg (by omega)]
  | succ d ih =>
    intro i n m q1 q2 q3 h10 r7
    obtain ⟨n, rfl⟩ : ∃ z, n = z + 1 := ⟨n - 1, by omega⟩
    obtain ⟨m', e1, e2, e3, e4⟩ := ih (i + 1) n (hs m 7 i.toNat (m 7 i.toNat * s % 10007)) (by omega) (by omega) (by omega) (by rw [hs_k (by decide)]; exact h10) (fun j hj => by
      by_cases y : j = i.toNat
      · rw [y, hs_s]; exact rs_mod _
      · rw [hs_j y]; exact r7 j hj)
    refine ⟨m', ?_, fun k hk => (e2 k hk).trans (hs_ne hk), fun j hj => (e3 j (by omega)).trans (hs_j (by omega)), fun j p1 p2 => ?_⟩
    · show bX5_overlap_344 (LX5_overlap_344 n) x4 s i m = _
      unfold bX5_overlap_344
      rw [h10, wi_id (z := i) (by omega) (by omega), wi_id (z := H) (by omega) (by omega), if_pos (by omega), m7_ld (by omega), mTimes (r7 i.toNat (by omega)) hs', cl_some, m7_st (by omega)]
      exact e1
    · by_cases c : (j : Int) = i
      · rw [e3 j (by omega), show j = i.toNat by omega, hs_s]
      · rw [e4 j (by omega) p2, hs_j (by omega)]
theorem mOv1 {M N K : Int} (hM : 0 ≤ M ∧ M ≤ 8) (hN : 0 ≤ N ∧ N ≤ 8) (hK : 0 ≤ K) (hKM : K ≤ M) (hKN : K ≤ N) (h8 : M + N - 2 * K ≤ 8) {x4 : Int} (F G : Nat → Int) : ∀ (d i n : Nat) (m : HP), K + 1 - i = d → d < n → m 0 6 = M → m 0 8 = N → m 0 10 = M + N - 2 * K → R9 m 5 → R9 m 6 → R20 m → m 5 = F → m 6 = G → (∀ t : Nat, t < 20 → ep (m 7 t) (sm (fun i => fk K i * sm (xX F G M N K t i) (M.toNat + 1 - i)) i)) → ∃ m1 m', LX5_overlap_110 n K x4 i m = (cl (fX5_lay x4 m') fun r381 h381 => some (r381, h381)) ∧ (∀ k, k ≠ 7 → m' k = m k) ∧ R20 m1 ∧ (∀ t : Nat, (t : Int) ≤ M + N - 2 * K → m' 7 t = m1 7 t * (fcm (M - K).toNat * fcm (N - K).toNat % 10007 * pw (fcm M.toNat * fcm N.toNat % 10007) % 10007) % 10007) ∧ ∀ t : Nat, t < 20 → ep (m1 7 t) (sm (fun i => fk K i * sm (xX F G M N K t i) (M.toNat + 1 - i)) (K.toNat + 1)) := by
  have hK8 : 0 ≤ K ∧ K ≤ 8 := by omega
  intro d
  induction d with
  | zero =>
    intro i n m q1 q3 h6 h8' h10 r5 r6 r7 eF eG hk
    obtain ⟨n, rfl⟩ : ∃ z, n = z + 1 := ⟨n - 1, by omega⟩
    obtain ⟨m', e1, e2, e3, e4⟩ := mOvE (x4 := x4) (rs_mod (fcm (M - K).toNat * fcm (N - K).toNat % 10007 * pw (fcm M.toNat * fcm N.toNat % 10007))) (H := M + N - 2 * K) (by omega) (M + N - 2 * K + 1).toNat 0 FU m (by omega) (by omega) (fu_lt (by omega)) h10 r7
    refine ⟨m, m', ?_, e2, r7, fun t ht => e4 t (by omega) ht, fun t ht => by rw [show K.toNat + 1 = i by omega]; exact hk t ht⟩
    show bX5_overlap_110 (LX5_overlap_110 n) K x4 i m = _
    unfold bX5_overlap_110
    rw [wi_id (z := (i : Int)) (by omega) (by omega), wi_id (z := K) (by omega) (by omega), if_neg (by omega), h6, mFac (by omega), cl_some, h8', mFac (by omega), cl_some, mTimes (fcm_rs _) (fcm_rs _), cl_some, h6, mFac hM, cl_some, h8', mFac hN, cl_some, mTimes (fcm_rs _) (fcm_rs _), cl_some, mTurned (rs_mod _), cl_some, mTimes (rs_mod _) (pw_rs _), cl_some]
    exact e1
  | succ d ih =>
    intro i n m q1 q3 h6 h8' h10 r5 r6 r7 eF eG hk
    obtain ⟨n, rfl⟩ : ∃ z, n = z + 1 := ⟨n - 1, by omega⟩
    obtain ⟨m1, f1, f2, f3, f4⟩ := mOv2 hM hN hK hKM hKN (x4 := x4) (fk_rs hK8 (i := i) (by omega)) (i := i) (by omega) F G (fun t => sm (fun i => fk K i * sm (xX F G M N K t i) (M.toNat + 1 - i)) i) (LX5_overlap_110 n) (M + 1 - i).toNat 0 FU m (by omega) (fu_lt (by omega)) h6 h8' r5 r6 r7 eF eG (fun t ht => by
      show ep (m 7 t) (_ + fk K i * 0)
      rw [Int.mul_zero, Int.add_zero]; exact hk t ht)
    obtain ⟨m5, m', e1, e2, e3, e4, e5⟩ := ih (i + 1) n m1 (by omega) (by omega) (by rw [f2 0 (by decide)]; exact h6) (by rw [f2 0 (by decide)]; exact h8') (by rw [f2 0 (by decide)]; exact h10) (R9_k r5 (f2 5 (by decide))) (R9_k r6 (f2 6 (by decide))) f3 ((f2 5 (by decide)).trans eF) ((f2 6 (by decide)).trans eG) f4
    refine ⟨m5, m', ?_, fun k hk => (e2 k hk).trans (f2 k hk), e3, e4, e5⟩
    show bX5_overlap_110 (LX5_overlap_110 n) K x4 i m = _
    unfold bX5_overlap_110
    have t1 : Int.tmod (i : Int) 2 = ((i % 2 : Nat) : Int) := by rw [Int.tmod_eq_emod_of_nonneg (by omega)]; rfl
    rw [Nat.zero_add] at f1
    rw [wi_id (z := (i : Int)) (by omega) (by omega), wi_id (z := K) (by omega) (by omega), if_pos (by omega), mOv hK8 (by omega), cl_some, cl_some, show ((i : Int).toNat) = i from rfl, wi_id (z := 2) (by decide) (by decide), t1, wi_id (z := ((i % 2 : Nat) : Int)) (by omega) (by omega)]
    unfold fk at f1
    by_cases z : i % 2 = 0
    · rw [if_pos z] at f1
      rw [if_pos (by omega), f1]
      exact e1
    · rw [if_neg z] at f1
      rw [if_neg (by omega), lt_d, f1]
      exact e1
theorem sm_ext {f : Nat → Int} {n : Nat} : ∀ r : Nat, (∀ i, n ≤ i → i < n + r → f i = 0) → sm f (n + r) = sm f n
  | 0, _ => rfl
  | r + 1, h => by
    show sm f (n + r) + f (n + r) = sm f n
    rw [sm_ext r (fun i h1 h2 => h i h1 (by omega)), h (n + r) (by omega) (by omega), Int.add_zero]
/-- both ways to add up an overlap's number give the same -/
theorem ov_eq {M N K : Int} (hK : 0 ≤ K) (hKM : K ≤ M) (hKN : K ≤ N) (F G : Nat → Int) {t i : Nat} (hi : (i : Int) ≤ K) : sm (xX F G M N K t i) (M.toNat + 1 - i) = sm (tm (oA F M K i) (oB G N K i) (N - K).toNat t) ((M - K).toNat + 1) := by
  rw [show M.toNat + 1 - i = (M - K).toNat + 1 + (K.toNat - i) by omega, sm_ext]
  · refine sm_cg (fun u hu => ?_)
    unfold xX tm
    by_cases c : u ≤ t ∧ t - u ≤ (N - K).toNat
    · rw [if_pos c, if_pos (by omega)]
      unfold mO mT oA oB
      rw [show t - u + (K - i).toNat = t + K.toNat - (u + i) by omega, show N - (((t - u : Nat) : Int) + (K - i)) = N - ((t + K.toNat - (u + i) : Nat) : Int) by omega, show ((t - u : Nat) : Int) + (K - i) = ((t + K.toNat - (u + i) : Nat) : Int) by omega, show ((u : Int) + i) = ((u + i : Nat) : Int) by omega]
      simp only [Int.mul_assoc]
    · rw [if_neg c]
      by_cases c2 : u ≤ t ∧ (t : Int) + K ≤ N + (u + i)
      · rw [if_pos c2]
        have h0 : fl (N - ((t + K.toNat - (u + i) : Nat) : Int)) i = 0 := by
          have := fl_0 (a := (N - ((t + K.toNat - (u + i) : Nat) : Int)).toNat) (k := i) (by omega)
          rw [show (((N - ((t + K.toNat - (u + i) : Nat) : Int)).toNat : Nat) : Int) = N - ((t + K.toNat - (u + i) : Nat) : Int) by omega] at this
          exact this
        unfold mT
        rw [h0, Int.zero_mul, Int.mul_zero, Int.mul_zero]
      · rw [if_neg c2]
  · intro u h1 h2
    unfold xX
    have h0 : fl (M - ((u + i : Nat) : Int)) (K - i).toNat = 0 := by
      have := fl_0 (a := (M - ((u + i : Nat) : Int)).toNat) (k := (K - i).toNat) (by omega)
      rw [show (((M - ((u + i : Nat) : Int)).toNat : Nat) : Int) = M - ((u + i : Nat) : Int) by omega] at this
      exact this
    have : mO F M K i (u + i) = 0 := by unfold mO; rw [h0, Int.zero_mul, Int.mul_zero]
    rw [this, Int.zero_mul]
    split <;> rfl
theorem mOvl_bad {x1 x2 x3 x4 : Int} (w1 : wi x1 = x1) (w2 : wi x2 = x2) (w3 : wi x3 = x3) (w4 : wi x4 = x4) (h : ¬ ((0 ≤ x1 ∧ x1 < 10) ∧ (0 ≤ x2 ∧ x2 < 10) ∧ (0 ≤ x3 ∧ x3 ≤ 8) ∧ (0 ≤ x4 ∧ x4 < 10))) (m : HP) : fX5_overlap x1 x2 x3 x4 m = some (-2, m) := by
  unfold fX5_overlap
  by_cases c1 : 0 ≤ x1 ∧ x1 < 10
  · rw [mIS_ok c1.1 c1.2, cl_some, if_neg (by decide)]
    by_cases c2 : 0 ≤ x2 ∧ x2 < 10
    · rw [mIS_ok c2.1 c2.2, cl_some, if_neg (by decide)]
      by_cases c3 : 0 ≤ x3 ∧ x3 ≤ 8
      · rw [mIn_y w3 rfl rfl c3.1 c3.2, cl_some, if_neg (by decide), mIS_bad w4 (by omega), cl_some, if_pos wi_0]
      · rw [mIn_n w3 rfl rfl c3, cl_some, if_pos wi_0]
    · rw [mIS_bad w2 c2, cl_some, if_pos wi_0]
  · rw [mIS_bad w1 c1, cl_some, if_pos wi_0]
theorem g_overlap : G_overlap JJ := by
  intro g m hJ x1 x2 x3 x4 w1 w2 w3 w4
  have k8 : wi 8 = 8 := rfl
  by_cases c4 : 0 ≤ x4 ∧ x4 < 10
  · by_cases c3 : 0 ≤ x3 ∧ x3 ≤ 8
    · have cl0 : fX4_overlap x1 x2 x3 x4 g = (cl (fX4_refuseForms x1 x2 g) fun r24 h24 => if wi r24 = 0 then (cl (fX4_load x1 22 h24) fun r43 h43 => cl (fX4_load x2 23 h43) fun r54 h54 => if wi x3 ≤ wi r43 then (if wi x3 ≤ wi r54 then (if wi 8 < wi ((r43 + r54) - (2 * x3)) then (some ((-3), h54)) else (cl (fX4_makeOverlap r43 r54 x3 h54) fun _ h94 => cl (fX4_keepForm x4 ((r43 + r54) - (2 * x3)) h94) fun r109 h109 => some (r109, h109))) else (some ((-3), h54))) else (some ((-3), h54))) else (some (r24, h24))) := by
        unfold fX4_overlap
        rw [pNS_ok c4.1 c4.2, cl_some, if_pos wi_0, if_pos (by rw [w3]; exact c3.1), if_neg (by rw [w3, k8]; omega)]
      rcases two_form hJ w1 w2 with ⟨c, e⟩ | ⟨c, d, r, g1, m1, r0, e, f, hJ1⟩ | ⟨c, d, hw, hw', hf, hf', e, m1, f1, f2, f3, f4, f5, f6, f7⟩
      · refine ⟨-2, -2, g, m, ?_, mOvl_bad w1 w2 w3 w4 (by omega) m, rfl, hJ⟩
        rw [cl0, e, cl_some, if_neg (by decide)]
      · refine ⟨r, r, g1, m1, ?_, ?_, rfl, hJ1⟩
        · rw [cl0, e, cl_some, if_neg r0]
        · unfold fX5_overlap
          rw [mIS_ok c.1 c.2, cl_some, if_neg (by decide), mIS_ok d.1 d.2, cl_some, if_neg (by decide), mIn_y w3 rfl rfl c3.1 c3.2, cl_some, if_neg (by decide), mIS_ok c4.1 c4.2, cl_some, if_neg (by decide), f, cl_some, if_neg r0]
      · have s1 : x1.toNat < 10 := by omega
        have s2 : x2.toNat < 10 := by omega
        obtain ⟨g1, a1, a2, a3⟩ := pLoad c (a := 22) (by decide) hw
        have hc1 : sameC g g1 := sC_o (a := 22) (by decide) a2
        obtain ⟨g2, b1, b2, b3⟩ := pLoad d (a := 23) (by decide) (WS_same s2 hw' hc1)
        have hc2 : sameC g g2 := sC_t hc1 (sC_o (a := 23) (by decide) b2)
        rw [sz_same s2 hc1] at b1
        have v22 : ∀ j : Nat, j < 9 → g2 22 j = nb g x1.toNat j := fun j hj => by rw [b2 22 (by decide), a3 j hj]
        have v23 : ∀ j : Nat, j < 9 → g2 23 j = nb g x2.toNat j := fun j hj => by rw [b3 j hj, nb_same s2 hc1]
        have R22 : R9 g2 22 := fun j hj => by rw [v22 j hj]; exact nb_rs _ _ _
        have R23 : R9 g2 23 := fun j hj => by rw [v23 j hj]; exact nb_rs _ _ _
        have R5 : R9 m1 5 := fun j hj => by rw [f6 j hj]; exact nb_rs _ _ _
        have R6 : R9 m1 6 := fun j hj => by rw [f7 j hj]; exact nb_rs _ _ _
        generalize hM : g (2 + x1.toNat) 2 - 1 = M at a1 f4
        generalize hN : g (2 + x2.toNat) 2 - 1 = N at b1 f5
        have zM : 0 ≤ M ∧ M ≤ 8 := by omega
        have zN : 0 ≤ N ∧ N ≤ 8 := by omega
        have wM : wi M = M := wi_id (by omega) (by omega)
        have wN : wi N = N := wi_id (by omega) (by omega)
        have wD : wi (M + N - 2 * x3) = M + N - 2 * x3 := wi_id (by omega) (by omega)
        have hm1 : sameM m m1 := sM_2 f2 f3
        have hcl : fX4_overlap x1 x2 x3 x4 g = if x3 ≤ M ∧ x3 ≤ N ∧ M + N - 2 * x3 ≤ 8 then (cl (fX4_makeOverlap M N x3 g2) fun _ h94 => cl (fX4_keepForm x4 (M + N - 2 * x3) h94) fun r109 h109 => some (r109, h109)) else some (-3, g2) := by
          rw [cl0, e, cl_some, if_pos wi_0, a1, cl_some, b1, cl_some, w3, wM, wN, wD, k8]
          by_cases y1 : x3 ≤ M
          · rw [if_pos y1]
            by_cases y2 : x3 ≤ N
            · rw [if_pos y2]
              by_cases y3 : 8 < M + N - 2 * x3
              · rw [if_pos y3, if_neg (by omega)]
              · rw [if_neg y3, if_pos (by omega)]
            · rw [if_neg y2, if_neg (by omega)]
          · rw [if_neg y1, if_neg (by omega)]
        have hml : fX5_overlap x1 x2 x3 x4 m = if x3 ≤ M ∧ x3 ≤ N ∧ M + N - 2 * x3 ≤ 8 then (cl (fX5_noughtH (M + N - 2 * x3) m1) fun _ h104 => LX5_overlap_110 FU x3 x4 0 h104) else some (-3, m1) := by
          unfold fX5_overlap
          rw [mIS_ok c.1 c.2, cl_some, if_neg (by decide), mIS_ok d.1 d.2, cl_some, if_neg (by decide), mIn_y w3 rfl rfl c3.1 c3.2, cl_some, if_neg (by decide), mIS_ok c4.1 c4.2, cl_some, if_neg (by decide), f1, cl_some, if_pos wi_0, f4, f5, w3, wM, wN, wD, k8]
          by_cases y1 : x3 ≤ M
          · rw [if_pos y1]
            by_cases y2 : x3 ≤ N
            · rw [if_pos y2]
              by_cases y3 : 8 < M + N - 2 * x3
              · rw [if_pos y3, if_neg (by omega)]
              · rw [if_neg y3, if_pos (by omega)]
            · rw [if_neg y2, if_neg (by omega)]
          · rw [if_neg y1, if_neg (by omega)]
        by_cases y : x3 ≤ M ∧ x3 ≤ N ∧ M + N - 2 * x3 ≤ 8
        · obtain ⟨y1, y2, y3⟩ := id y
          obtain ⟨gc, d1, d2, d3⟩ := pClear l26 (by decide) g2
          obtain ⟨gx, g3, o1, o2, o3, o4, o5⟩ := pOvL zM zN c3.1 y1 y2 y3 (g2 22) (g2 23) (x3 + 1).toNat 0 FU gc (by omega) (fu_lt (by omega)) (R9_k R22 (d2 22 (by decide))) (R9_k R23 (d2 23 (by decide))) (R9_0 d3) (d2 22 (by decide)) (d2 23 (by decide)) (fun t ht => by rw [d3 t ht]; exact ep_r 0)
          obtain ⟨m2, n1, n2, n3, n4, n5⟩ := mNou (n := M + N - 2 * x3) m1
          obtain ⟨mx, m3, q1, q2, q3, q4, q5⟩ := mOv1 zM zN c3.1 y1 y2 y3 (x4 := x4) (m1 5) (m1 6) (x3 + 1).toNat 0 FU m2 (by omega) (fu_lt (by omega)) (by rw [n3 6 (by decide), f4]) (by rw [n3 8 (by decide), f5]) n4 (R9_k R5 (n2 5 (by decide) (by decide))) (R9_k R6 (n2 6 (by decide) (by decide))) (fun j hj => by rw [n5 j hj]; exact ⟨by decide, by decide⟩) (n2 5 (by decide) (by decide)) (n2 6 (by decide) (by decide)) (fun t ht => by rw [n5 t ht]; exact ep_r 0)
          have hm3 : sameM m m3 := sM_t hm1 ⟨by rw [q2 0 (by decide), n3 4 (by decide)], (q2 1 (by decide)).trans (n2 1 (by decide) (by decide)), (q2 2 (by decide)).trans (n2 2 (by decide) (by decide)), (q2 3 (by decide)).trans (n2 3 (by decide) (by decide))⟩
          have hc3 : sameC g g3 := sC_t hc2 ⟨by rw [o2 0 (by decide) (by decide) (by decide), d2 0 (by decide)], fun k h1 h2 => by rw [o2 k (by omega) (by omega) (by omega), d2 k (by omega)]⟩
          have eqs : ∀ t : Nat, t < 9 → gx 26 t = mx 7 t := fun t ht => by
            refine ep_i (o3 t ht) (q3 t (by omega)) (ep_t (o5 t ht) (ep_s (ep_t (q5 t (by omega)) ?_)))
            refine ep_sm (fun i hi => ep_u (ep_r _) ?_)
            rw [ov_eq c3.1 y1 y2 _ _ (by omega)]
            refine ep_sm (fun u hu => tm_ep ?_ (fun h1 h2 => ?_))
            · unfold oA
              rw [v22 (u + i) (by omega), f6 (u + i) (by omega)]
              exact ep_r _
            · unfold oB
              rw [v23 (t - u + (x3 - i).toNat) (by omega), f7 (t - u + (x3 - i).toNat) (by omega)]
              exact ep_r _
          obtain ⟨g4, m4, p1, p2, hJ4⟩ := keep_form hJ hc3 hm3 c4 (n := M + N - 2 * x3) (by omega) (by rw [q2 0 (by decide), n4]) (fun i hi => by
            rw [o4 i (by omega), q4 i hi, eqs i (by omega)]
            exact ⟨rs_mod _, rfl⟩)
          refine ⟨M + N - 2 * x3, M + N - 2 * x3, g4, m4, ?_, ?_, rfl, hJ4⟩
          · rw [hcl, if_pos y]
            unfold fX4_makeOverlap
            rw [d1, cl_some]
            rw [show ((0 : Nat) : Int) = 0 from rfl] at o1
            rw [o1, cl_some, p1, cl_some]
          · rw [hml, if_pos y, n1, cl_some]
            rw [show ((0 : Nat) : Int) = 0 from rfl] at q1
            rw [q1, p2, cl_some]
        · refine ⟨-3, -3, g2, m1, ?_, ?_, rfl, JJ_same hJ hc2 hm1⟩
          · rw [hcl, if_neg y]
          · rw [hml, if_neg y]
    · refine ⟨-2, -2, g, m, ?_, mOvl_bad w1 w2 w3 w4 (by omega) m, rfl, hJ⟩
      unfold fX4_overlap
      rw [pNS_ok c4.1 c4.2, cl_some, if_pos wi_0, w3, k8]
      by_cases z : 0 ≤ x3
      · rw [if_pos z, if_pos (by omega)]
      · rw [if_neg z]
  · refine ⟨-2, -2, g, m, ?_, mOvl_bad w1 w2 w3 w4 (by omega) m, rfl, hJ⟩
    unfold fX4_overlap
    rw [pNS_bad w4 c4, cl_some, if_neg (by decide)]
