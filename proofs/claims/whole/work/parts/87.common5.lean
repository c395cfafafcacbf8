/-! What two forms have together. -/
theorem nb_fm {g : HP} {s M : Nat} (h : g (2 + s) 2 - 1 = M) : fm (nb g s) M := ⟨fun k => nb_rs _ _ _, fun k hk => by unfold nb; rw [if_neg (by omega)]⟩
theorem g_common : G_common JJ := by
  intro g m hJ x1 x2 x3 w1 w2 w3
  by_cases c3 : 0 ≤ x3 ∧ x3 < 10
  · rcases two_form hJ w1 w2 with ⟨c, e⟩ | ⟨c, d, r, g1, m1, r0, e, f, hJ1⟩ | ⟨c, d, hw, hw', hf, hf', e, m1, f1, f2, f3, f4, f5, f6, f7⟩
    · refine ⟨-2, -2, g, m, ?_, ?_, rfl, hJ⟩
      · unfold fX4_common fX4_refuseRoots
        rw [pNS_ok c3.1 c3.2, cl_some, if_pos wi_0, e, cl_some, if_neg (show ¬ wi (-2) = 0 by decide), cl_some, if_neg (show ¬ wi (-2) = 0 by decide)]
      · unfold fX5_common
        by_cases c1 : 0 ≤ x1 ∧ x1 < 10
        · rw [mIS_ok c1.1 c1.2, cl_some, if_neg (show ¬ wi 1 = 0 by decide), mIS_bad w2 (by omega), cl_some, if_pos wi_0]
        · rw [mIS_bad w1 c1, cl_some, if_pos wi_0]
    · refine ⟨r, r, g1, m1, ?_, ?_, rfl, hJ1⟩
      · unfold fX4_common fX4_refuseRoots
        rw [pNS_ok c3.1 c3.2, cl_some, if_pos wi_0, e, cl_some, if_neg r0, cl_some, if_neg r0]
      · unfold fX5_common
        rw [mIS_ok c.1 c.2, cl_some, if_neg (show ¬ wi 1 = 0 by decide), mIS_ok d.1 d.2, cl_some, if_neg (show ¬ wi 1 = 0 by decide), mIS_ok c3.1 c3.2, cl_some, if_neg (show ¬ wi 1 = 0 by decide), f, cl_some, if_neg r0]
    · have s1 : x1.toNat < 10 := by omega
      have s2 : x2.toNat < 10 := by omega
      have R5 : R9 m1 5 := fun j hj => by rw [f6 j hj]; exact nb_rs _ _ _
      have R6 : R9 m1 6 := fun j hj => by rw [f7 j hj]; exact nb_rs _ _ _
      obtain ⟨M, hM⟩ : ∃ M : Nat, g (2 + x1.toNat) 2 - 1 = M := ⟨(g (2 + x1.toNat) 2 - 1).toNat, by omega⟩
      obtain ⟨N, hN⟩ : ∃ N : Nat, g (2 + x2.toNat) 2 - 1 = N := ⟨(g (2 + x2.toNat) 2 - 1).toNat, by omega⟩
      rw [hM] at f4
      rw [hN] at f5
      have zM : M ≤ 8 := by omega
      have zN : N ≤ 8 := by omega
      have hm1 : sameM m m1 := sM_2 f2 f3
      have n1 : ((∃ j, nb g x1.toNat j ≠ 0) ∧ fX3_isNought (2 + x1.toNat) g = some (0, g) ∧ fX5_isNoughtF m1 = some (0, m1)) ∨ (fX3_isNought (2 + x1.toNat) g = some (1, g) ∧ fX5_isNoughtF m1 = some (1, m1)) := by
        rcases pNot s1 hw with ⟨n1, e1⟩ | ⟨⟨i, i1, i2⟩, e1⟩
        · rcases mNF (N := (M : Int)) (by omega) f4 R5 with ⟨n2, e2⟩ | ⟨⟨j, j1, j2⟩, e2⟩
          · exact Or.inr ⟨e1, e2⟩
          · exact absurd ((f6 j (by omega)).trans (n1 j (by omega))) j2
        · rcases mNF (N := (M : Int)) (by omega) f4 R5 with ⟨n2, e2⟩ | ⟨n2, e2⟩
          · exact absurd ((f6 i (by omega)).symm.trans (n2 i (by omega))) i2
          · exact Or.inl ⟨⟨i, i2⟩, e1, e2⟩
      have n2 : ((∃ j, nb g x2.toNat j ≠ 0) ∧ fX3_isNought (2 + x2.toNat) g = some (0, g) ∧ fX5_isNoughtG m1 = some (0, m1)) ∨ (fX3_isNought (2 + x2.toNat) g = some (1, g) ∧ fX5_isNoughtG m1 = some (1, m1)) := by
        rcases pNot s2 hw' with ⟨n1, e1⟩ | ⟨⟨i, i1, i2⟩, e1⟩
        · rcases mNG (N := (N : Int)) (by omega) f5 R6 with ⟨n2, e2⟩ | ⟨⟨j, j1, j2⟩, e2⟩
          · exact Or.inr ⟨e1, e2⟩
          · exact absurd ((f7 j (by omega)).trans (n1 j (by omega))) j2
        · rcases mNG (N := (N : Int)) (by omega) f5 R6 with ⟨n2, e2⟩ | ⟨n2, e2⟩
          · exact absurd ((f7 i (by omega)).symm.trans (n2 i (by omega))) i2
          · exact Or.inl ⟨⟨i, i2⟩, e1, e2⟩
      have rr : fX4_refuseRoots x1 x2 g = (cl (fX3_isNought (2 + x1.toNat) g) fun r19 h19 => if wi r19 = 0 then (lda x2 fun q30 => cl (fX3_isNought q30 h19) fun r31 h31 => if wi r31 = 0 then (some (0, h31)) else (some ((-3), h31))) else (some ((-3), h19))) := by
        unfold fX4_refuseRoots
        rw [e, cl_some, if_pos wi_0, lda_t c.1 c.2]
      have mm' : fX5_common x1 x2 x3 m = (cl (fX5_isNoughtF m1) fun r41 h41 => if wi r41 = 0 then (cl (fX5_isNoughtG h41) fun r48 h48 => if wi r48 = 0 then (lt (h48 0 6) fun x5_61 => LX5_common_63 FU x3 x5_61 h48) else (some ((-3), h48))) else (some ((-3), h41))) := by
        unfold fX5_common
        rw [mIS_ok c.1 c.2, cl_some, if_neg (show ¬ wi 1 = 0 by decide), mIS_ok d.1 d.2, cl_some, if_neg (show ¬ wi 1 = 0 by decide), mIS_ok c3.1 c3.2, cl_some, if_neg (show ¬ wi 1 = 0 by decide), f1, cl_some, if_pos wi_0]
      rcases n1 with ⟨nF, p1, p2⟩ | ⟨p1, p2⟩
      · rcases n2 with ⟨nG, q1, q2⟩ | ⟨q1, q2⟩
        · obtain ⟨g1, a1, a2, a3⟩ := pLoad c (a := 22) (by decide) hw
          have hc1 : sameC g g1 := sC_o (a := 22) (by decide) a2
          obtain ⟨g2, b1, b2, b3⟩ := pLoad d (a := 23) (by decide) (WS_same s2 hw' hc1)
          have hc2 : sameC g g2 := sC_t hc1 (sC_o (a := 23) (by decide) b2)
          rw [sz_same s2 hc1, hN] at b1
          rw [hM] at a1
          have v22 : ho g2 22 (nb g x1.toNat) := fun j hj => by rw [b2 22 (by decide), a3 j hj]
          have v23 : ho g2 23 (nb g x2.toNat) := fun j hj => by rw [b3 j hj, nb_same s2 hc1]
          obtain ⟨dd, D, g3, t1, t2, t3, t4, t5, t6, t7⟩ := pMake zM zN (nb_fm hM) (nb_fm hN) nF nG v22 v23
          obtain ⟨dd', D', m2, u1, u2, u3, u4, u5, u6, u7, u8⟩ := mMake (x3 := x3) zM zN (nb_fm hM) (nb_fm hN) nF nG f4 f5 f6 f7
          obtain ⟨k1, k2⟩ := gc_eq (fun k hk => by rw [t3.2 k hk]; exact ep_r 0) (fun k hk => by rw [u3.2 k hk]; exact ep_r 0) t5 u6 t6 u7
          have hc3 : sameC g g3 := sC_t hc2 ⟨by rw [t7 0 (by decide) (by decide) (by decide)], fun k x y => t7 k (by omega) (by omega) (by omega)⟩
          obtain ⟨g4, m4, y1, y2, y3⟩ := keep_form hJ hc3 (sM_t hm1 u8) c3 (n := (dd : Int)) (by omega) (by rw [u4, k1]) (fun i hi => by
            rw [t4 i (by omega), u5 i (by omega)]
            exact ⟨t3.1 i, (ep_i (t3.1 i) (u3.1 i) (k2 i)).symm⟩)
          refine ⟨dd, dd, g4, m4, ?_, ?_, rfl, y3⟩
          · unfold fX4_common
            rw [pNS_ok c3.1 c3.2, cl_some, if_pos wi_0, rr, p1, cl_some, if_pos wi_0, lda_t d.1 d.2, q1, cl_some, if_pos wi_0, cl_some, if_pos wi_0, a1, cl_some, b1, cl_some, t1, cl_some, y1, cl_some]
          · rw [mm', p2, cl_some, if_pos wi_0, q2, cl_some, if_pos wi_0, lt_d, f4, u1, y2, cl_some]
        · refine ⟨-3, -3, g, m1, ?_, ?_, rfl, JJ_same hJ (sC_r g) hm1⟩
          · unfold fX4_common
            rw [pNS_ok c3.1 c3.2, cl_some, if_pos wi_0, rr, p1, cl_some, if_pos wi_0, lda_t d.1 d.2, q1, cl_some, if_neg (show ¬ wi 1 = 0 by decide), cl_some, if_neg (show ¬ wi (-3) = 0 by decide)]
          · rw [mm', p2, cl_some, if_pos wi_0, q2, cl_some, if_neg (show ¬ wi 1 = 0 by decide)]
      · refine ⟨-3, -3, g, m1, ?_, ?_, rfl, JJ_same hJ (sC_r g) hm1⟩
        · unfold fX4_common
          rw [pNS_ok c3.1 c3.2, cl_some, if_pos wi_0, rr, p1, cl_some, if_neg (show ¬ wi 1 = 0 by decide), cl_some, if_neg (show ¬ wi (-3) = 0 by decide)]
        · rw [mm', p2, cl_some, if_neg (show ¬ wi 1 = 0 by decide)]
  · refine ⟨-2, -2, g, m, ?_, ?_, rfl, hJ⟩
    · unfold fX4_common
      rw [pNS_bad w3 c3, cl_some, if_neg (show ¬ wi 1 = 0 by decide)]
    · unfold fX5_common
      by_cases c1 : 0 ≤ x1 ∧ x1 < 10
      · rw [mIS_ok c1.1 c1.2, cl_some, if_neg (show ¬ wi 1 = 0 by decide)]
        by_cases c2 : 0 ≤ x2 ∧ x2 < 10
        · rw [mIS_ok c2.1 c2.2, cl_some, if_neg (show ¬ wi 1 = 0 by decide), mIS_bad w3 c3, cl_some, if_pos wi_0]
        · rw [mIS_bad w2 c2, cl_some, if_pos wi_0]
      · rw [mIS_bad w1 c1, cl_some, if_pos wi_0]
