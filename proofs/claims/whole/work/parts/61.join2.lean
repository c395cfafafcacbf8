theorem l26 : lnC 26 = 9 := rfl
theorem R9_0 {g : HP} {a : Nat} (h : ∀ j : Nat, j < 9 → g a j = 0) : R9 g a := fun j hj => by rw [h j hj]; exact ⟨by decide, by decide⟩
theorem one_rs : rs 1 := ⟨by decide, by decide⟩
theorem m1_rs : rs 10006 := ⟨by decide, by decide⟩
theorem pMJ {M N w : Int} (hw : w = 0 ∨ w = 1 ∨ w = 3) {g : HP} (h2 : R9 g 22) (h3 : R9 g 23) : ∃ g', fX4_makeJoined M N w g = some (0, g') ∧ (∀ k, k ≠ 26 → g' k = g k) ∧ ∀ j : Nat, j < 9 → g' 26 j = jv w (g 22) (g 23) j := by
  obtain ⟨g1, a1, a2, a3⟩ := pClear l26 (by decide) g
  have k2 : g1 22 = g 22 := a2 22 (by decide)
  have k3 : g1 23 = g 23 := a2 23 (by decide)
  have z1 : R9 g1 26 := R9_0 a3
  by_cases c3 : w = 3
  · have v0 := h3 0 (by decide)
    obtain ⟨g2, b1, b2, b3⟩ := pAddT (a := 26) (by decide) (b := 22) (by decide) (by decide) v0 z1 (R9_k h2 k2)
    refine ⟨g2, ?_, fun k hk => (b2 k hk).trans (a2 k hk), fun j hj => ?_⟩
    · unfold fX4_makeJoined
      rw [a1, cl_some, c3, if_neg (by decide), if_neg (by decide), if_neg (by decide), w_ld (by decide) (by decide), k3]
      rw [show ((0 : Int).toNat) = 0 from rfl, b1, cl_some]
    · rw [b3 j hj, a3 j hj, Int.zero_add, k2]
      unfold jv
      rw [if_neg (by omega), if_neg (by omega)]
  · obtain ⟨g2, b1, b2, b3⟩ := pAddT (a := 26) (by decide) (b := 22) (by decide) (by decide) one_rs z1 (R9_k h2 k2)
    have v2 : ∀ j : Nat, j < 9 → g2 26 j = g 22 j := fun j hj => by rw [b3 j hj, a3 j hj, Int.zero_add, Int.mul_one, k2, rs_id (h2 j hj)]
    have z2 : R9 g2 26 := fun j hj => by rw [v2 j hj]; exact h2 j hj
    have k4 : g2 23 = g 23 := (b2 23 (by decide)).trans k3
    by_cases c0 : w = 0
    · obtain ⟨g3, d1, d2, d3⟩ := pAddT (a := 26) (by decide) (b := 23) (by decide) (by decide) one_rs z2 (R9_k h3 k4)
      refine ⟨g3, ?_, fun k hk => (d2 k hk).trans ((b2 k hk).trans (a2 k hk)), fun j hj => ?_⟩
      · unfold fX4_makeJoined
        rw [a1, cl_some, c0, if_pos wi_0, b1, cl_some, d1, cl_some]
      · rw [d3 j hj, v2 j hj, Int.mul_one, k4]
        unfold jv
        rw [if_pos c0]
    · have c1 : w = 1 := by omega
      obtain ⟨g3, d1, d2, d3⟩ := pAddT (a := 26) (by decide) (b := 23) (by decide) (by decide) m1_rs z2 (R9_k h3 k4)
      refine ⟨g3, ?_, fun k hk => (d2 k hk).trans ((b2 k hk).trans (a2 k hk)), fun j hj => ?_⟩
      · unfold fX4_makeJoined
        rw [a1, cl_some, c1, if_neg (by decide), if_pos wi_1, b1, cl_some, d1, cl_some]
      · rw [d3 j hj, v2 j hj, k4]
        unfold jv
        rw [if_neg c0, if_pos c1]
        have : ep (g 22 j + g 23 j * 10006) (g 22 j - g 23 j) := ep_of (k := g 23 j) (by omega)
        exact this
theorem pMJ2 {M N : Int} (hM : 0 ≤ M) (hN : 0 ≤ N) (hMN : M + N ≤ 8) {g : HP} (h2 : R9 g 22) (h3 : R9 g 23) : ∃ g', fX4_makeJoined M N 2 g = some (0, g') ∧ (∀ k, k ≠ 26 → g' k = g k) ∧ R9 g' 26 ∧ ∀ k : Nat, k < 9 → ep (g' 26 k) (sm (tm (g 22) (g 23) N.toNat k) (M.toNat + 1)) := by
  obtain ⟨g1, a1, a2, a3⟩ := pClear l26 (by decide) g
  have k2 : g1 22 = g 22 := a2 22 (by decide)
  have k3 : g1 23 = g 23 := a2 23 (by decide)
  obtain ⟨g2, b1, b2, b3, b4⟩ := pAP (row := 26) (a := 22) (b := 23) (by decide) (by decide) (by decide) (by decide) (by decide) hM hN hMN one_rs (R9_0 a3) (R9_k h2 k2) (R9_k h3 k3)
  refine ⟨g2, ?_, fun k hk => (b2 k hk).trans (a2 k hk), b3, fun k hk => ?_⟩
  · unfold fX4_makeJoined
    rw [a1, cl_some, if_neg (by decide), if_neg (by decide), if_pos (show wi 2 = 2 from rfl), b1, cl_some]
  · have := b4 k hk
    rw [a3 k hk, Int.zero_add, Int.one_mul, k2, k3] at this
    exact this
theorem mJoin_bad {x1 x2 x3 x4 : Int} (w1 : wi x1 = x1) (w2 : wi x2 = x2) (w3 : wi x3 = x3) (w4 : wi x4 = x4) (h : ¬ ((0 ≤ x1 ∧ x1 < 10) ∧ (0 ≤ x2 ∧ x2 < 10) ∧ (0 ≤ x3 ∧ x3 < 10) ∧ (0 ≤ x4 ∧ x4 ≤ 3))) (m : HP) : fX5_join x1 x2 x3 x4 m = some (-2, m) := by
  unfold fX5_join
  by_cases c1 : 0 ≤ x1 ∧ x1 < 10
  · rw [mIS_ok c1.1 c1.2, cl_some, if_neg (by decide)]
    by_cases c2 : 0 ≤ x2 ∧ x2 < 10
    · rw [mIS_ok c2.1 c2.2, cl_some, if_neg (by decide)]
      by_cases c3 : 0 ≤ x3 ∧ x3 < 10
      · rw [mIS_ok c3.1 c3.2, cl_some, if_neg (by decide), mIn_n w4 rfl rfl (by omega), cl_some, if_pos wi_0]
      · rw [mIS_bad w3 c3, cl_some, if_pos wi_0]
    · rw [mIS_bad w2 c2, cl_some, if_pos wi_0]
  · rw [mIS_bad w1 c1, cl_some, if_pos wi_0]
theorem g_join : G_join JJ := by
  intro g m hJ x1 x2 x3 x4 w1 w2 w3 w4
  have r4 := wi_rng w4
  have k3 : wi 3 = 3 := rfl
  have k2 : wi 2 = 2 := rfl
  have k8 : wi 8 = 8 := rfl
  by_cases c3 : 0 ≤ x3 ∧ x3 < 10
  · by_cases c4 : 0 ≤ x4 ∧ x4 ≤ 3
    · have cl0 : ∀ r, fX4_join x1 x2 x3 x4 g = r ↔ (cl (fX4_refuseForms x1 x2 g) fun r24 h24 => if wi r24 = 0 then (cl (fX4_load x1 22 h24) fun r43 h43 => cl (fX4_load x2 23 h43) fun r54 h54 => cl (fX4_canJoin r43 r54 x4 h54) fun r65 h65 => if wi r65 = 0 then (some ((-3), h65)) else (cl (fX4_makeJoined r43 r54 x4 h65) fun _ h81 => if wi x4 = wi 2 then (cl (fX4_keepForm x3 (r43 + r54) h81) fun r102 h102 => some (r102, h102)) else (cl (fX4_keepForm x3 r43 h81) fun r102 h102 => some (r102, h102)))) else (some (r24, h24))) = r := by
        intro r
        unfold fX4_join
        rw [pNS_ok c3.1 c3.2, cl_some, if_pos wi_0, w4, k3, if_pos c4.1, if_neg (by omega)]
      rcases two_form hJ w1 w2 with ⟨c, e⟩ | ⟨c, d, r, g1, m1, r0, e, f, hJ1⟩ | ⟨c, d, hw, hw', hf, hf', e, m1, f1, f2, f3, f4, f5, f6, f7⟩
      · refine ⟨-2, -2, g, m, (cl0 _).mpr ?_, mJoin_bad w1 w2 w3 w4 (by omega) m, rfl, hJ⟩
        rw [e, cl_some, if_neg (by decide)]
      · refine ⟨r, r, g1, m1, (cl0 _).mpr ?_, ?_, rfl, hJ1⟩
        · rw [e, cl_some, if_neg r0]
        · unfold fX5_join
          rw [mIS_ok c.1 c.2, cl_some, if_neg (by decide), mIS_ok d.1 d.2, cl_some, if_neg (by decide), mIS_ok c3.1 c3.2, cl_some, if_neg (by decide), mIn_y w4 rfl rfl c4.1 c4.2, cl_some, if_neg (by decide), f, cl_some, if_neg r0]
      · have s1 : x1.toNat < 10 := by omega
        have s2 : x2.toNat < 10 := by omega
        obtain ⟨g1, a1, a2, a3⟩ := pLoad c (a := 22) (by decide) hw
        have hc1 : sameC g g1 := sC_o (a := 22) (by decide) a2
        obtain ⟨g2, b1, b2, b3⟩ := pLoad d (a := 23) (by decide) (WS_same s2 hw' hc1)
        have hc2 : sameC g g2 := sC_t hc1 (sC_o (a := 23) (by decide) b2)
        rw [sz_same s2 hc1] at b1
        have v22 : ∀ j : Nat, j < 9 → g2 22 j = nb g x1.toNat j := fun j hj => by rw [b2 22 (by decide), a3 j hj]
        have v23 : ∀ j : Nat, j < 9 → g2 23 j = nb g x2.toNat j := fun j hj => by rw [b3 j hj, nb_same s2 hc1]
        have R22 : R9 g2 22 := fun j hj => by rw [v22 j hj]; exact nb_rs _ _ _
        have R23 : R9 g2 23 := fun j hj => by rw [v23 j hj]; exact nb_rs _ _ _
        have R5 : R9 m1 5 := fun j hj => by rw [f6 j hj]; exact nb_rs _ _ _
        have R6 : R9 m1 6 := fun j hj => by rw [f7 j hj]; exact nb_rs _ _ _
        generalize hM : g (2 + x1.toNat) 2 - 1 = M at a1 f4
        generalize hN : g (2 + x2.toNat) 2 - 1 = N at b1 f5
        have zM : 0 ≤ M ∧ M ≤ 8 := by omega
        have zN : 0 ≤ N ∧ N ≤ 8 := by omega
        have wM : wi M = M := wi_id (by omega) (by omega)
        have wN : wi N = N := wi_id (by omega) (by omega)
        have wMN : wi (M + N) = M + N := wi_id (by omega) (by omega)
        have hm1 : sameM m m1 := sM_2 f2 f3
        have hcl : fX4_join x1 x2 x3 x4 g = (cl (fX4_canJoin M N x4 g2) fun r65 h65 => if wi r65 = 0 then (some ((-3), h65)) else (cl (fX4_makeJoined M N x4 h65) fun _ h81 => if x4 = 2 then (cl (fX4_keepForm x3 (M + N) h81) fun r102 h102 => some (r102, h102)) else (cl (fX4_keepForm x3 M h81) fun r102 h102 => some (r102, h102)))) := by
          refine (cl0 _).mpr ?_
          rw [e, cl_some, if_pos wi_0, a1, cl_some, b1, cl_some, w4, k2]
        have hml : fX5_join x1 x2 x3 x4 m = if x4 < 2 ∧ M ≠ N then some (-3, m1) else if x4 = 2 ∧ 8 < M + N then some (-3, m1) else jX5_join_93 x3 x4 m1 := by
          unfold fX5_join
          rw [mIS_ok c.1 c.2, cl_some, if_neg (by decide), mIS_ok d.1 d.2, cl_some, if_neg (by decide), mIS_ok c3.1 c3.2, cl_some, if_neg (by decide), mIn_y w4 rfl rfl c4.1 c4.2, cl_some, if_neg (by decide), f1, cl_some, if_pos wi_0, f4, f5, w4, k2, k8, wM, wN, wMN]
          by_cases y1 : x4 < 2
          · rw [if_pos y1]
            by_cases y2 : M = N
            · rw [if_pos y2, if_neg (by omega), if_neg (by omega), if_neg (by omega)]
            · rw [if_neg y2, if_pos ⟨y1, y2⟩]
          · rw [if_neg y1, if_neg (show ¬ (x4 < 2 ∧ M ≠ N) from fun q => y1 q.1)]
            by_cases y3 : x4 = 2
            · rw [if_pos y3]
              by_cases y4 : 8 < M + N
              · rw [if_pos y4, if_pos ⟨y3, y4⟩]
              · rw [if_neg y4, if_neg (fun q => y4 q.2)]
            · rw [if_neg y3, if_neg (fun q => y3 q.1)]
        by_cases y2 : x4 = 2
        · subst y2
          by_cases y4 : 8 < M + N
          · refine ⟨-3, -3, g2, m1, ?_, ?_, rfl, JJ_same hJ hc2 hm1⟩
            · rw [hcl]
              unfold fX4_canJoin
              rw [if_neg (by decide), if_neg (by decide), if_pos (show wi 2 = 2 from rfl), wMN, k8, if_neg (by omega), cl_some, if_pos wi_0]
            · rw [hml, if_neg (by omega), if_pos ⟨rfl, y4⟩]
          · obtain ⟨g3, d1, d2, d3, d4⟩ := pMJ2 (M := M) (N := N) zM.1 zN.1 (by omega) R22 R23
            obtain ⟨m2, n1, n2, n3, n4, n5⟩ := mNou (n := M + N) m1
            obtain ⟨m3, o1, o2, o3, o4⟩ := mJp (x3 := x3) zM.1 zN.1 (by omega) (m1 5) (m1 6) (M.toNat + 1) 0 FU m2 (by omega) (fu_lt (by omega)) (by rw [n3 6 (by decide), f4]) (by rw [n3 8 (by decide), f5]) (R9_k R5 (n2 5 (by decide) (by decide))) (R9_k R6 (n2 6 (by decide) (by decide))) (fun j hj => by rw [n5 j (by omega)]; exact ⟨by decide, by decide⟩) (n2 5 (by decide) (by decide)) (n2 6 (by decide) (by decide)) (fun k hk => by rw [n5 k (by omega)]; exact ep_r 0)
            have hm3 : sameM m m3 := sM_t hm1 ⟨by rw [o2 0 (by decide), n3 4 (by decide)], (o2 1 (by decide)).trans (n2 1 (by decide) (by decide)), (o2 2 (by decide)).trans (n2 2 (by decide) (by decide)), (o2 3 (by decide)).trans (n2 3 (by decide) (by decide))⟩
            obtain ⟨g4, m4, p1, p2, hJ4⟩ := keep_form hJ (sC_t hc2 (sC_o (a := 26) (by decide) d2)) hm3 c3 (n := M + N) (by omega) (by rw [o2 0 (by decide), n4]) (fun i hi => by
              refine ⟨d3 i (by omega), ep_i (o3 i (by omega)) (d3 i (by omega)) (ep_t (o4 i (by omega)) (ep_s (ep_t (d4 i (by omega)) ?_)))⟩
              rw [sm_cg (g := tm (m1 5) (m1 6) N.toNat i) (fun t ht => by
                unfold tm
                by_cases q : t ≤ i ∧ i - t ≤ N.toNat
                · rw [if_pos q, if_pos q, v22 t (by omega), v23 (i - t) (by omega), f6 t (by omega), f7 (i - t) (by omega)]
                · rw [if_neg q, if_neg q])]
              exact ep_r _)
            refine ⟨M + N, M + N, g4, m4, ?_, ?_, rfl, hJ4⟩
            · rw [hcl]
              unfold fX4_canJoin
              rw [if_neg (by decide), if_neg (by decide), if_pos (show wi 2 = 2 from rfl), wMN, k8, if_pos (by omega), cl_some, if_neg (by decide), d1, cl_some, if_pos rfl, p1, cl_some]
            · rw [hml, if_neg (by omega), if_neg (by omega)]
              unfold jX5_join_93
              rw [if_pos rfl, f4, f5, n1, cl_some]
              rw [show ((0 : Nat) : Int) = 0 from rfl] at o1
              rw [o1, p2, cl_some]
        · by_cases y3 : x4 < 2 ∧ M ≠ N
          · refine ⟨-3, -3, g2, m1, ?_, ?_, rfl, JJ_same hJ hc2 hm1⟩
            · rw [hcl]
              unfold fX4_canJoin
              rw [w4, wM, wN]
              by_cases z0 : x4 = 0
              · rw [if_pos z0, if_neg y3.2, cl_some, if_pos wi_0]
              · rw [if_neg z0, if_pos (by omega), if_neg y3.2, cl_some, if_pos wi_0]
            · rw [hml, if_pos y3]
          · have hv4 : x4 = 0 ∨ x4 = 1 ∨ x4 = 3 := by omega
            obtain ⟨g3, d1, d2, d3⟩ := pMJ (M := M) (N := N) hv4 R22 R23
            obtain ⟨m2, n1, n2, n3, n4, n5⟩ := mNou (n := M) m1
            obtain ⟨m3, o1, o2, o3, o4⟩ := mJq (x3 := x3) (w := x4) zM hv4 (m1 5) (m1 6) (M.toNat + 1) 0 FU m2 (by omega) (by omega) (fu_lt (by omega)) (by rw [n3 6 (by decide), f4]) (R9_k R5 (n2 5 (by decide) (by decide))) (R9_k R6 (n2 6 (by decide) (by decide))) (n2 5 (by decide) (by decide)) (n2 6 (by decide) (by decide))
            have hm3 : sameM m m3 := sM_t hm1 ⟨by rw [o2 0 (by decide), n3 4 (by decide)], (o2 1 (by decide)).trans (n2 1 (by decide) (by decide)), (o2 2 (by decide)).trans (n2 2 (by decide) (by decide)), (o2 3 (by decide)).trans (n2 3 (by decide) (by decide))⟩
            have jrs : ∀ F G : Nat → Int, ∀ j, rs (jv x4 F G j) := fun F G j => by
              unfold jv
              split
              · exact rs_mod _
              · split
                · exact rs_mod _
                · exact rs_mod _
            obtain ⟨g4, m4, p1, p2, hJ4⟩ := keep_form hJ (sC_t hc2 (sC_o (a := 26) (by decide) d2)) hm3 c3 (n := M) zM (by rw [o2 0 (by decide), n4]) (fun i hi => by
              rw [d3 i (by omega), o4 i (by omega) (by omega)]
              refine ⟨jrs _ _ _, ?_⟩
              unfold jv
              rw [v22 i (by omega), v23 i (by omega), v23 0 (by omega), f6 i (by omega), f7 i (by omega), f7 0 (by omega)])
            refine ⟨M, M, g4, m4, ?_, ?_, rfl, hJ4⟩
            · rw [hcl]
              have : fX4_canJoin M N x4 g2 = some (1, g2) := by
                unfold fX4_canJoin
                rw [w4, wM, wN]
                by_cases z0 : x4 = 0
                · rw [if_pos z0, if_pos (by omega)]
                · rw [if_neg z0]
                  by_cases z1 : x4 = 1
                  · rw [if_pos z1, if_pos (by omega)]
                  · rw [if_neg z1, if_neg y2]
              rw [this, cl_some, if_neg (by decide), d1, cl_some, if_neg y2, p1, cl_some]
            · rw [hml, if_neg y3, if_neg (fun q => y2 q.1)]
              unfold jX5_join_93
              rw [w4, k2, if_neg y2, f4, n1, cl_some, o1, p2, cl_some]
    · refine ⟨-2, -2, g, m, ?_, mJoin_bad w1 w2 w3 w4 (by omega) m, rfl, hJ⟩
      unfold fX4_join
      rw [pNS_ok c3.1 c3.2, cl_some, if_pos wi_0, w4, k3]
      by_cases z : 0 ≤ x4
      · rw [if_pos z, if_pos (by omega)]
      · rw [if_neg z]
  · refine ⟨-2, -2, g, m, ?_, mJoin_bad w1 w2 w3 w4 (by omega) m, rfl, hJ⟩
    unfold fX4_join
    rw [pNS_bad w3 c3, cl_some, if_neg (by decide)]
