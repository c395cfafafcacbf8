def fX4_keepForm (x1 : Int) (x2 : Int) (h : HP) : Option (Int × HP) :=
  lda x1 fun q5 => cl (fX3_become q5 26 (x2 + 1) h) fun _ h13 => some (x2, h13)
set_option maxRecDepth 20000 in
theorem ctX4_keepForm {l : Launch} {D : va_G} {ad : Nat → Nat} {cI cR : ClassId} {x1 : Int} {x2 : Int} {h : HP} {Z : Int × HP} (hf : fX4_keepForm x1 x2 h = some Z) : Ct (sdC l D ad cI cR) mX4_keepForm [.ref (ad 0), vi x1, vi x2] h (ri Z) := by
  refine Ct.ofF nX4_keepForm rfl (loc := [(0, .ref (ad 0)), (1, vi x1), (2, vi x2)]) rfl ?_
  unfold fX4_keepForm at hf
  refine q_aloadn dX4_keepForm_0 0 rfl ?_
  refine C_g4_0 flX4_11 dX4_keepForm_1 ?_
  refine q_iloadn dX4_keepForm_4 1 rfl ?_
  refine C_ald hf dX4_keepForm_5 (fun q5 p5 hf => ?_)
  refine q_aloadn dX4_keepForm_6 0 rfl ?_
  refine C_g4_6 flX4_32 dX4_keepForm_7 ?_
  refine q_iloadn dX4_keepForm_10 2 rfl ?_
  refine q_iconst dX4_keepForm_11 ?_
  refine q_iadd dX4_keepForm_12 ?_
  obtain ⟨r13, h13, e13, hf⟩ := q_cl hf
  refine q_cVv (av := [.ref (ad 26), vi (x2 + 1)]) (rest := []) (wC_sh p5) (ctX3_become p5 rfl e13) kX3_become vX3_become zX3_become lkX4_176 rfl rfl rfl rfl rfl dX4_keepForm_13 ?_
  refine q_iloadn dX4_keepForm_16 2 rfl ?_
  exact q_iret hf rfl dX4_keepForm_17
def fX4_join (x1 : Int) (x2 : Int) (x3 : Int) (x4 : Int) (h : HP) : Option (Int × HP) :=
  cl (fX4_noSheet x3 h) fun r1 h1 => if wi r1 = 0 then (if 0 ≤ wi x4 then (if wi 3 < wi x4 then (some ((-2), h1)) else (cl (fX4_refuseForms x1 x2 h1) fun r24 h24 => if wi r24 = 0 then (cl (fX4_load x1 22 h24) fun r43 h43 => cl (fX4_load x2 23 h43) fun r54 h54 => cl (fX4_canJoin r43 r54 x4 h54) fun r65 h65 => if wi r65 = 0 then (some ((-3), h65)) else (cl (fX4_makeJoined r43 r54 x4 h65) fun _ h81 => if wi x4 = wi 2 then (cl (fX4_keepForm x3 (r43 + r54) h81) fun r102 h102 => some (r102, h102)) else (cl (fX4_keepForm x3 r43 h81) fun r102 h102 => some (r102, h102)))) else (some (r24, h24)))) else (some ((-2), h1))) else (some ((-2), h1))
set_option maxRecDepth 20000 in
theorem ctX4_join {l : Launch} {D : va_G} {ad : Nat → Nat} {cI cR : ClassId} {x1 : Int} {x2 : Int} {x3 : Int} {x4 : Int} {h : HP} {Z : Int × HP} (hf : fX4_join x1 x2 x3 x4 h = some Z) : Ct (sdC l D ad cI cR) mX4_join [.ref (ad 0), vi x1, vi x2, vi x3, vi x4] h (ri Z) := by
  refine Ct.ofF nX4_join rfl (loc := [(0, .ref (ad 0)), (1, vi x1), (2, vi x2), (3, vi x3), (4, vi x4)]) rfl ?_
  unfold fX4_join at hf
  refine q_iloadn dX4_join_0 3 rfl ?_
  obtain ⟨r1, h1, e1, hf⟩ := q_cl hf
  refine q_cSi (av := [vi x3]) (rest := []) (ctX4_noSheet e1) kX4_noSheet uX4_noSheet lkX4_46 rfl rfl rfl dX4_join_1 ?_
  refine q_if_ne hf dX4_join_4 18 (by decide) (fun hf => ?_) (fun hf => ?_)
  · refine q_bipush dX4_join_18 (by decide) ?_
    exact q_iret hf rfl dX4_join_20
  · refine q_iload dX4_join_7 4 rfl ?_
    refine q_if_lt hf dX4_join_9 18 (by decide) (fun hf => ?_) (fun hf => ?_)
    · refine q_bipush dX4_join_18 (by decide) ?_
      exact q_iret hf rfl dX4_join_20
    · refine q_iload dX4_join_12 4 rfl ?_
      refine q_iconst dX4_join_14 ?_
      refine q_icmp_le hf dX4_join_15 21 (by decide) (fun hf => ?_) (fun hf => ?_)
      · refine q_aloadn dX4_join_21 0 rfl ?_
        refine q_iloadn dX4_join_22 1 rfl ?_
        refine q_iloadn dX4_join_23 2 rfl ?_
        obtain ⟨r24, h24, e24, hf⟩ := q_cl hf
        refine q_cVi (av := [vi x1, vi x2]) (rest := []) wC_0 (ctX4_refuseForms e24) kX4_refuseForms vX4_refuseForms zX4_refuseForms lkX4_95 rfl rfl rfl rfl rfl dX4_join_24 ?_
        refine q_istore dX4_join_27 rfl (loc' := [(5, vi r24), (0, .ref (ad 0)), (1, vi x1), (2, vi x2), (3, vi x3), (4, vi x4)]) rfl ?_
        refine q_iload dX4_join_29 0 rfl ?_
        refine q_if_eq hf dX4_join_31 37 (by decide) (fun hf => ?_) (fun hf => ?_)
        · refine q_aloadn dX4_join_37 1 rfl ?_
          refine q_iloadn dX4_join_38 2 rfl ?_
          refine q_aloadn dX4_join_39 1 rfl ?_
          refine C_g4_2 flX4_19 dX4_join_40 ?_
          obtain ⟨r43, h43, e43, hf⟩ := q_cl hf
          refine q_cVi (av := [vi x1, .ref (ad 22)]) (rest := []) wC_0 (ctX4_load rfl e43) kX4_load vX4_load zX4_load lkX4_105 rfl rfl rfl rfl rfl dX4_join_43 ?_
          refine q_istore dX4_join_46 rfl (loc' := [(6, vi r43), (5, vi r24), (0, .ref (ad 0)), (1, vi x1), (2, vi x2), (3, vi x3), (4, vi x4)]) rfl ?_
          refine q_aloadn dX4_join_48 2 rfl ?_
          refine q_iloadn dX4_join_49 4 rfl ?_
          refine q_aloadn dX4_join_50 2 rfl ?_
          refine C_g4_3 flX4_23 dX4_join_51 ?_
          obtain ⟨r54, h54, e54, hf⟩ := q_cl hf
          refine q_cVi (av := [vi x2, .ref (ad 23)]) (rest := []) wC_0 (ctX4_load rfl e54) kX4_load vX4_load zX4_load lkX4_105 rfl rfl rfl rfl rfl dX4_join_54 ?_
          refine q_istore dX4_join_57 rfl (loc' := [(7, vi r54), (6, vi r43), (5, vi r24), (0, .ref (ad 0)), (1, vi x1), (2, vi x2), (3, vi x3), (4, vi x4)]) rfl ?_
          refine q_iload dX4_join_59 1 rfl ?_
          refine q_iload dX4_join_61 0 rfl ?_
          refine q_iload dX4_join_63 7 rfl ?_
          obtain ⟨r65, h65, e65, hf⟩ := q_cl hf
          refine q_cSi (av := [vi r43, vi r54, vi x4]) (rest := []) (ctX4_canJoin e65) kX4_canJoin uX4_canJoin lkX4_120 rfl rfl rfl dX4_join_65 ?_
          refine q_if_ne hf dX4_join_68 74 (by decide) (fun hf => ?_) (fun hf => ?_)
          · refine q_aloadn dX4_join_74 3 rfl ?_
            refine q_iload dX4_join_75 1 rfl ?_
            refine q_iload dX4_join_77 0 rfl ?_
            refine q_iload dX4_join_79 7 rfl ?_
            obtain ⟨r81, h81, e81, hf⟩ := q_cl hf
            refine q_cVv (av := [vi r43, vi r54, vi x4]) (rest := []) wC_0 (ctX4_makeJoined e81) kX4_makeJoined vX4_makeJoined zX4_makeJoined lkX4_124 rfl rfl rfl rfl rfl dX4_join_81 ?_
            refine q_aloadn dX4_join_84 3 rfl ?_
            refine q_iloadn dX4_join_85 6 rfl ?_
            refine q_iload dX4_join_86 7 rfl ?_
            refine q_iconst dX4_join_88 ?_
            refine q_icmp_ne hf dX4_join_89 100 (by decide) (fun hf => ?_) (fun hf => ?_)
            · refine q_iload dX4_join_100 1 rfl ?_
              obtain ⟨r102, h102, e102, hf⟩ := q_cl hf
              refine q_cVi (av := [vi x3, vi r43]) (rest := []) wC_0 (ctX4_keepForm e102) kX4_keepForm vX4_keepForm zX4_keepForm lkX4_128 rfl rfl rfl rfl rfl dX4_join_102 ?_
              exact q_iret hf rfl dX4_join_105
            · refine q_iload dX4_join_92 1 rfl ?_
              refine q_iload dX4_join_94 0 rfl ?_
              refine q_iadd dX4_join_96 ?_
              refine q_goto dX4_join_97 102 (by decide) ?_
              obtain ⟨r102, h102, e102, hf⟩ := q_cl hf
              refine q_cVi (av := [vi x3, vi (r43 + r54)]) (rest := []) wC_0 (ctX4_keepForm e102) kX4_keepForm vX4_keepForm zX4_keepForm lkX4_128 rfl rfl rfl rfl rfl dX4_join_102 ?_
              exact q_iret hf rfl dX4_join_105
          · refine q_bipush dX4_join_71 (by decide) ?_
            exact q_iret hf rfl dX4_join_73
        · refine q_iload dX4_join_34 0 rfl ?_
          exact q_iret hf rfl dX4_join_36
      · refine q_bipush dX4_join_18 (by decide) ?_
        exact q_iret hf rfl dX4_join_20
def bX4_makeMixed_36 (self : Int → Int → Int → Int → Int → Int → HP → Option (Int × HP)) (x1 : Int) (x2 : Int) (x3 : Int) (x4 : Int) (x5 : Int) (x6 : Int) (h : HP) : Option (Int × HP) :=
  if wi x6 ≤ wi x1 then (cl (fX2_timesLine 26 (x6 - 1) x2 x3 h) fun _ h52 => cl (fX2_timesLine 23 (x6 - 1) x4 x5 h52) fun _ h67 => ld (lnC 22) (h67 22) x6 fun v84 => cl (fX2_addTimes 26 23 v84 h67) fun _ h85 => self x1 x2 x3 x4 x5 (x6 + 1) h85) else (some (0, h))
def LX4_makeMixed_36 : Nat → Int → Int → Int → Int → Int → Int → HP → Option (Int × HP)
  | 0 => fun _ _ _ _ _ _ _ => none
  | n + 1 => bX4_makeMixed_36 (LX4_makeMixed_36 n)
set_option maxRecDepth 20000 in
theorem tX4_makeMixed_36 {l : Launch} {D : va_G} {ad : Nat → Nat} {cI cR : ClassId} {Z : Int × HP} : ∀ (n : Nat) (x1 : Int) (x2 : Int) (x3 : Int) (x4 : Int) (x5 : Int) (x6 : Int) (h : HP), LX4_makeMixed_36 n x1 x2 x3 x4 x5 x6 h = some Z → Rn (sdC l D ad cI cR) mX4_makeMixed (rv Z) 36 [(0, .ref (ad 0)), (1, vi x1), (2, vi x2), (3, vi x3), (4, vi x4), (5, vi x5), (6, vi x6)] [] h := by
  intro n
  induction n with
  | zero => intro x1 x2 x3 x4 x5 x6 h hf; cases hf
  | succ n ih =>
    intro x1 x2 x3 x4 x5 x6 h hf
    replace hf : bX4_makeMixed_36 (LX4_makeMixed_36 n) x1 x2 x3 x4 x5 x6 h = some Z := hf
    unfold bX4_makeMixed_36 at hf
    refine q_iload dX4_makeMixed_36 6 rfl ?_
    refine q_iloadn dX4_makeMixed_38 1 rfl ?_
    refine q_icmp_gt hf dX4_makeMixed_39 94 (by decide) (fun hf => ?_) (fun hf => ?_)
    · exact q_vret hf rfl dX4_makeMixed_94
    · refine q_aloadn dX4_makeMixed_42 0 rfl ?_
      refine C_g4_6 flX4_32 dX4_makeMixed_43 ?_
      refine q_iload dX4_makeMixed_46 6 rfl ?_
      refine q_iconst dX4_makeMixed_48 ?_
      refine q_isub dX4_makeMixed_49 ?_
      refine q_iloadn dX4_makeMixed_50 2 rfl ?_
      refine q_iloadn dX4_makeMixed_51 3 rfl ?_
      obtain ⟨r52, h52, e52, hf⟩ := q_cl hf
      refine q_cSv (av := [.ref (ad 26), vi (x6 - 1), vi x2, vi x3]) (rest := []) (ctX2_timesLine rfl e52) kX2_timesLine uX2_timesLine lkX4_240 rfl rfl rfl dX4_makeMixed_52 ?_
      refine q_aloadn dX4_makeMixed_55 0 rfl ?_
      refine C_g4_3 flX4_23 dX4_makeMixed_56 ?_
      refine q_iload dX4_makeMixed_59 6 rfl ?_
      refine q_iconst dX4_makeMixed_61 ?_
      refine q_isub dX4_makeMixed_62 ?_
      refine q_iload dX4_makeMixed_63 4 rfl ?_
      refine q_iload dX4_makeMixed_65 5 rfl ?_
      obtain ⟨r67, h67, e67, hf⟩ := q_cl hf
      refine q_cSv (av := [.ref (ad 23), vi (x6 - 1), vi x4, vi x5]) (rest := []) (ctX2_timesLine rfl e67) kX2_timesLine uX2_timesLine lkX4_240 rfl rfl rfl dX4_makeMixed_67 ?_
      refine q_aloadn dX4_makeMixed_70 0 rfl ?_
      refine C_g4_6 flX4_32 dX4_makeMixed_71 ?_
      refine q_aloadn dX4_makeMixed_74 0 rfl ?_
      refine C_g4_3 flX4_23 dX4_makeMixed_75 ?_
      refine q_aloadn dX4_makeMixed_78 0 rfl ?_
      refine C_g4_2 flX4_19 dX4_makeMixed_79 ?_
      refine q_iload dX4_makeMixed_82 6 rfl ?_
      refine C_ld hf dX4_makeMixed_84 (fun v84 hf => ?_)
      obtain ⟨r85, h85, e85, hf⟩ := q_cl hf
      refine q_cSv (av := [.ref (ad 26), .ref (ad 23), vi v84]) (rest := []) (ctX2_addTimes rfl rfl e85) kX2_addTimes uX2_addTimes lkX4_232 rfl rfl rfl dX4_makeMixed_85 ?_
      refine q_iinc dX4_makeMixed_88 6 rfl rfl (loc' := [(6, vi (x6 + 1)), (0, .ref (ad 0)), (1, vi x1), (2, vi x2), (3, vi x3), (4, vi x4), (5, vi x5)]) rfl ?_
      refine q_goto dX4_makeMixed_91 36 (by decide) ?_
      refine q_loc (loc' := [(0, .ref (ad 0)), (1, vi x1), (2, vi x2), (3, vi x3), (4, vi x4), (5, vi x5), (6, vi (x6 + 1))]) [1, 2, 3, 4, 5, 6, 0] rfl ?_
      exact ih x1 x2 x3 x4 x5 (x6 + 1) h85 hf
def fX4_makeMixed (x1 : Int) (x2 : Int) (x3 : Int) (x4 : Int) (x5 : Int) (h : HP) : Option (Int × HP) :=
  cl (fX2_clear 26 h) fun _ h4 => cl (fX2_clear 23 h4) fun _ h11 => ld (lnC 22) (h11 22) 0 fun v24 => sto (lnC 26) h11 26 0 v24 fun h25 => sto (lnC 23) h25 23 0 1 fun h32 => LX4_makeMixed_36 FU x1 x2 x3 x4 x5 1 h32
set_option maxRecDepth 20000 in
theorem ctX4_makeMixed {l : Launch} {D : va_G} {ad : Nat → Nat} {cI cR : ClassId} {x1 : Int} {x2 : Int} {x3 : Int} {x4 : Int} {x5 : Int} {h : HP} {Z : Int × HP} (hf : fX4_makeMixed x1 x2 x3 x4 x5 h = some Z) : Ct (sdC l D ad cI cR) mX4_makeMixed [.ref (ad 0), vi x1, vi x2, vi x3, vi x4, vi x5] h (rv Z) := by
  refine Ct.ofF nX4_makeMixed rfl (loc := [(0, .ref (ad 0)), (1, vi x1), (2, vi x2), (3, vi x3), (4, vi x4), (5, vi x5)]) rfl ?_
  unfold fX4_makeMixed at hf
  refine q_aloadn dX4_makeMixed_0 0 rfl ?_
  refine C_g4_6 flX4_32 dX4_makeMixed_1 ?_
  obtain ⟨r4, h4, e4, hf⟩ := q_cl hf
  refine q_cSv (av := [.ref (ad 26)]) (rest := []) (ctX2_clear rfl e4) kX2_clear uX2_clear lkX4_180 rfl rfl rfl dX4_makeMixed_4 ?_
  refine q_aloadn dX4_makeMixed_7 0 rfl ?_
  refine C_g4_3 flX4_23 dX4_makeMixed_8 ?_
  obtain ⟨r11, h11, e11, hf⟩ := q_cl hf
  refine q_cSv (av := [.ref (ad 23)]) (rest := []) (ctX2_clear rfl e11) kX2_clear uX2_clear lkX4_180 rfl rfl rfl dX4_makeMixed_11 ?_
  refine q_aloadn dX4_makeMixed_14 0 rfl ?_
  refine C_g4_6 flX4_32 dX4_makeMixed_15 ?_
  refine q_iconst dX4_makeMixed_18 ?_
  refine q_aloadn dX4_makeMixed_19 0 rfl ?_
  refine C_g4_2 flX4_19 dX4_makeMixed_20 ?_
  refine q_iconst dX4_makeMixed_23 ?_
  refine C_ld hf dX4_makeMixed_24 (fun v24 hf => ?_)
  refine C_st hf dX4_makeMixed_25 (fun h25 hf => ?_)
  refine q_aloadn dX4_makeMixed_26 0 rfl ?_
  refine C_g4_3 flX4_23 dX4_makeMixed_27 ?_
  refine q_iconst dX4_makeMixed_30 ?_
  refine q_iconst dX4_makeMixed_31 ?_
  refine C_st hf dX4_makeMixed_32 (fun h32 hf => ?_)
  refine q_iconst dX4_makeMixed_33 ?_
  refine q_istore dX4_makeMixed_34 rfl (loc' := [(6, vi 1), (0, .ref (ad 0)), (1, vi x1), (2, vi x2), (3, vi x3), (4, vi x4), (5, vi x5)]) rfl ?_
  refine q_loc (loc' := [(0, .ref (ad 0)), (1, vi x1), (2, vi x2), (3, vi x3), (4, vi x4), (5, vi x5), (6, vi 1)]) [1, 2, 3, 4, 5, 6, 0] rfl ?_
  exact tX4_makeMixed_36 FU x1 x2 x3 x4 x5 1 h32 hf
def fX4_mix (x1 : Int) (x2 : Int) (x3 : Int) (x4 : Int) (x5 : Int) (x6 : Int) (h : HP) : Option (Int × HP) :=
  cl (fX4_noSheet x6 h) fun r2 h2 => if wi r2 = 0 then (cl (fX4_refuseForms x1 x1 h2) fun r14 h14 => if wi r14 = 0 then (cl (fX1_reduced x2 h14) fun r28 h28 => cl (fX1_reduced x3 h28) fun r34 h34 => cl (fX1_reduced x4 h34) fun r41 h41 => cl (fX1_reduced x5 h41) fun r48 h48 => cl (fX4_load x1 22 h48) fun r59 h59 => cl (fX4_makeMixed r59 r28 r34 r41 r48 h59) fun _ h75 => cl (fX4_keepForm x6 r59 h75) fun r83 h83 => cl (fX1_reduced ((r28 * r48) - (r34 * r41)) h83) fun r98 h98 => some (r98, h98)) else (some (r14, h14))) else (some ((-2), h2))
set_option maxRecDepth 20000 in
theorem ctX4_mix {l : Launch} {D : va_G} {ad : Nat → Nat} {cI cR : ClassId} {x1 : Int} {x2 : Int} {x3 : Int} {x4 : Int} {x5 : Int} {x6 : Int} {h : HP} {Z : Int × HP} (hf : fX4_mix x1 x2 x3 x4 x5 x6 h = some Z) : Ct (sdC l D ad cI cR) mX4_mix [.ref (ad 0), vi x1, vi x2, vi x3, vi x4, vi x5, vi x6] h (ri Z) := by
  refine Ct.ofF nX4_mix rfl (loc := [(0, .ref (ad 0)), (1, vi x1), (2, vi x2), (3, vi x3), (4, vi x4), (5, vi x5), (6, vi x6)]) rfl ?_
  unfold fX4_mix at hf
  refine q_iload dX4_mix_0 6 rfl ?_
  obtain ⟨r2, h2, e2, hf⟩ := q_cl hf
  refine q_cSi (av := [vi x6]) (rest := []) (ctX4_noSheet e2) kX4_noSheet uX4_noSheet lkX4_46 rfl rfl rfl dX4_mix_2 ?_
  refine q_if_eq hf dX4_mix_5 11 (by decide) (fun hf => ?_) (fun hf => ?_)
  · refine q_aloadn dX4_mix_11 0 rfl ?_
    refine q_iloadn dX4_mix_12 1 rfl ?_
    refine q_iloadn dX4_mix_13 1 rfl ?_
    obtain ⟨r14, h14, e14, hf⟩ := q_cl hf
    refine q_cVi (av := [vi x1, vi x1]) (rest := []) wC_0 (ctX4_refuseForms e14) kX4_refuseForms vX4_refuseForms zX4_refuseForms lkX4_95 rfl rfl rfl rfl rfl dX4_mix_14 ?_
    refine q_istore dX4_mix_17 rfl (loc' := [(7, vi r14), (0, .ref (ad 0)), (1, vi x1), (2, vi x2), (3, vi x3), (4, vi x4), (5, vi x5), (6, vi x6)]) rfl ?_
    refine q_iload dX4_mix_19 0 rfl ?_
    refine q_if_eq hf dX4_mix_21 27 (by decide) (fun hf => ?_) (fun hf => ?_)
    · refine q_iloadn dX4_mix_27 3 rfl ?_
      obtain ⟨r28, h28, e28, hf⟩ := q_cl hf
      refine q_cSi (av := [vi x2]) (rest := []) (ctX1_reduced e28) kX1_reduced uX1_reduced lkX4_109 rfl rfl rfl dX4_mix_28 ?_
      refine q_istore dX4_mix_31 rfl (loc' := [(8, vi r28), (7, vi r14), (0, .ref (ad 0)), (1, vi x1), (2, vi x2), (3, vi x3), (4, vi x4), (5, vi x5), (6, vi x6)]) rfl ?_
      refine q_iloadn dX4_mix_33 5 rfl ?_
      obtain ⟨r34, h34, e34, hf⟩ := q_cl hf
      refine q_cSi (av := [vi x3]) (rest := []) (ctX1_reduced e34) kX1_reduced uX1_reduced lkX4_109 rfl rfl rfl dX4_mix_34 ?_
      refine q_istore dX4_mix_37 rfl (loc' := [(9, vi r34), (8, vi r28), (7, vi r14), (0, .ref (ad 0)), (1, vi x1), (2, vi x2), (3, vi x3), (4, vi x4), (5, vi x5), (6, vi x6)]) rfl ?_
      refine q_iload dX4_mix_39 7 rfl ?_
      obtain ⟨r41, h41, e41, hf⟩ := q_cl hf
      refine q_cSi (av := [vi x4]) (rest := []) (ctX1_reduced e41) kX1_reduced uX1_reduced lkX4_109 rfl rfl rfl dX4_mix_41 ?_
      refine q_istore dX4_mix_44 rfl (loc' := [(10, vi r41), (9, vi r34), (8, vi r28), (7, vi r14), (0, .ref (ad 0)), (1, vi x1), (2, vi x2), (3, vi x3), (4, vi x4), (5, vi x5), (6, vi x6)]) rfl ?_
      refine q_iload dX4_mix_46 9 rfl ?_
      obtain ⟨r48, h48, e48, hf⟩ := q_cl hf
      refine q_cSi (av := [vi x5]) (rest := []) (ctX1_reduced e48) kX1_reduced uX1_reduced lkX4_109 rfl rfl rfl dX4_mix_48 ?_
      refine q_istore dX4_mix_51 rfl (loc' := [(11, vi r48), (10, vi r41), (9, vi r34), (8, vi r28), (7, vi r14), (0, .ref (ad 0)), (1, vi x1), (2, vi x2), (3, vi x3), (4, vi x4), (5, vi x5), (6, vi x6)]) rfl ?_
      refine q_aloadn dX4_mix_53 5 rfl ?_
      refine q_iloadn dX4_mix_54 6 rfl ?_
      refine q_aloadn dX4_mix_55 5 rfl ?_
      refine C_g4_2 flX4_19 dX4_mix_56 ?_
      obtain ⟨r59, h59, e59, hf⟩ := q_cl hf
      refine q_cVi (av := [vi x1, .ref (ad 22)]) (rest := []) wC_0 (ctX4_load rfl e59) kX4_load vX4_load zX4_load lkX4_105 rfl rfl rfl rfl rfl dX4_mix_59 ?_
      refine q_istore dX4_mix_62 rfl (loc' := [(12, vi r59), (11, vi r48), (10, vi r41), (9, vi r34), (8, vi r28), (7, vi r14), (0, .ref (ad 0)), (1, vi x1), (2, vi x2), (3, vi x3), (4, vi x4), (5, vi x5), (6, vi x6)]) rfl ?_
      refine q_aloadn dX4_mix_64 6 rfl ?_
      refine q_iload dX4_mix_65 0 rfl ?_
      refine q_iload dX4_mix_67 4 rfl ?_
      refine q_iload dX4_mix_69 3 rfl ?_
      refine q_iload dX4_mix_71 2 rfl ?_
      refine q_iload dX4_mix_73 1 rfl ?_
      obtain ⟨r75, h75, e75, hf⟩ := q_cl hf
      refine q_cVv (av := [vi r59, vi r28, vi r34, vi r41, vi r48]) (rest := []) wC_0 (ctX4_makeMixed e75) kX4_makeMixed vX4_makeMixed zX4_makeMixed lkX4_131 rfl rfl rfl rfl rfl dX4_mix_75 ?_
      refine q_aloadn dX4_mix_78 6 rfl ?_
      refine q_iload dX4_mix_79 12 rfl ?_
      refine q_iload dX4_mix_81 0 rfl ?_
      obtain ⟨r83, h83, e83, hf⟩ := q_cl hf
      refine q_cVi (av := [vi x6, vi r59]) (rest := []) wC_0 (ctX4_keepForm e83) kX4_keepForm vX4_keepForm zX4_keepForm lkX4_128 rfl rfl rfl rfl rfl dX4_mix_83 ?_
      refine q_pop dX4_mix_86 rfl ?_
      refine q_iload dX4_mix_87 4 rfl ?_
      refine q_iload dX4_mix_89 1 rfl ?_
      refine q_imul dX4_mix_91 ?_
      refine q_iload dX4_mix_92 3 rfl ?_
      refine q_iload dX4_mix_94 2 rfl ?_
      refine q_imul dX4_mix_96 ?_
      refine q_isub dX4_mix_97 ?_
      obtain ⟨r98, h98, e98, hf⟩ := q_cl hf
      refine q_cSi (av := [vi ((r28 * r48) - (r34 * r41))]) (rest := []) (ctX1_reduced e98) kX1_reduced uX1_reduced lkX4_109 rfl rfl rfl dX4_mix_98 ?_
      exact q_iret hf rfl dX4_mix_101
    · refine q_iload dX4_mix_24 0 rfl ?_
      exact q_iret hf rfl dX4_mix_26
  · refine q_bipush dX4_mix_8 (by decide) ?_
    exact q_iret hf rfl dX4_mix_10
def jX4_change_64 (x3 : Int) (x5 : Int) (s0 : Int) (h : HP) : Option (Int × HP) :=
  cl (fX2_changed 22 x5 (1 - s0) s0 26 h) fun _ h82 => cl (fX4_keepForm x3 (x5 - 1) h82) fun r91 h91 => some (r91, h91)
set_option maxRecDepth 20000 in
theorem tX4_change_64 {l : Launch} {D : va_G} {ad : Nat → Nat} {cI cR : ClassId} {Z : Int × HP} (x3 : Int) (x5 : Int) (s0 : Int) (h : HP) (hf : jX4_change_64 x3 x5 s0 h = some Z) : Rn (sdC l D ad cI cR) mX4_change (ri Z) 64 [(0, .ref (ad 0)), (3, vi x3), (5, vi x5)] [vi s0] h := by
  unfold jX4_change_64 at hf
  refine q_istore dX4_change_64 rfl (loc' := [(6, vi s0), (0, .ref (ad 0)), (3, vi x3), (5, vi x5)]) rfl ?_
  refine q_aloadn dX4_change_66 1 rfl ?_
  refine C_g4_2 flX4_19 dX4_change_67 ?_
  refine q_iload dX4_change_70 3 rfl ?_
  refine q_iconst dX4_change_72 ?_
  refine q_iload dX4_change_73 0 rfl ?_
  refine q_isub dX4_change_75 ?_
  refine q_iload dX4_change_76 0 rfl ?_
  refine q_aloadn dX4_change_78 1 rfl ?_
  refine C_g4_6 flX4_32 dX4_change_79 ?_
  obtain ⟨r82, h82, e82, hf⟩ := q_cl hf
  refine q_cSv (av := [.ref (ad 22), vi x5, vi (1 - s0), vi s0, .ref (ad 26)]) (rest := []) (ctX2_changed rfl rfl e82) kX2_changed uX2_changed lkX4_135 rfl rfl rfl dX4_change_82 ?_
  refine q_aloadn dX4_change_85 1 rfl ?_
  refine q_iloadn dX4_change_86 2 rfl ?_
  refine q_iload dX4_change_87 3 rfl ?_
  refine q_iconst dX4_change_89 ?_
  refine q_isub dX4_change_90 ?_
  obtain ⟨r91, h91, e91, hf⟩ := q_cl hf
  refine q_cVi (av := [vi x3, vi (x5 - 1)]) (rest := []) wC_0 (ctX4_keepForm e91) kX4_keepForm vX4_keepForm zX4_keepForm lkX4_128 rfl rfl rfl rfl rfl dX4_change_91 ?_
  exact q_iret hf rfl dX4_change_94
def fX4_change (x1 : Int) (x2 : Int) (x3 : Int) (h : HP) : Option (Int × HP) :=
  cl (fX4_noSheet x3 h) fun r1 h1 => if wi r1 = 0 then (if 0 ≤ wi x2 then (if wi 1 < wi x2 then (some ((-2), h1)) else (cl (fX4_refuseForms x1 x1 h1) fun r22 h22 => if wi r22 = 0 then (cl (fX4_load x1 22 h22) fun r41 h41 => if wi r41 = 0 then (some ((-3), h41)) else (if wi x2 = wi 1 then (jX4_change_64 x3 r41 1 h41) else (jX4_change_64 x3 r41 0 h41))) else (some (r22, h22)))) else (some ((-2), h1))) else (some ((-2), h1))
set_option maxRecDepth 20000 in
theorem ctX4_change {l : Launch} {D : va_G} {ad : Nat → Nat} {cI cR : ClassId} {x1 : Int} {x2 : Int} {x3 : Int} {h : HP} {Z : Int × HP} (hf : fX4_change x1 x2 x3 h = some Z) : Ct (sdC l D ad cI cR) mX4_change [.ref (ad 0), vi x1, vi x2, vi x3] h (ri Z) := by
  refine Ct.ofF nX4_change rfl (loc := [(0, .ref (ad 0)), (1, vi x1), (2, vi x2), (3, vi x3)]) rfl ?_
  unfold fX4_change at hf
  refine q_iloadn dX4_change_0 3 rfl ?_
  obtain ⟨r1, h1, e1, hf⟩ := q_cl hf
  refine q_cSi (av := [vi x3]) (rest := []) (ctX4_noSheet e1) kX4_noSheet uX4_noSheet lkX4_46 rfl rfl rfl dX4_change_1 ?_
  refine q_if_ne hf dX4_change_4 16 (by decide) (fun hf => ?_) (fun hf => ?_)
  · refine q_bipush dX4_change_16 (by decide) ?_
    exact q_iret hf rfl dX4_change_18
  · refine q_iloadn dX4_change_7 2 rfl ?_
    refine q_if_lt hf dX4_change_8 16 (by decide) (fun hf => ?_) (fun hf => ?_)
    · refine q_bipush dX4_change_16 (by decide) ?_
      exact q_iret hf rfl dX4_change_18
    · refine q_iloadn dX4_change_11 2 rfl ?_
      refine q_iconst dX4_change_12 ?_
      refine q_icmp_le hf dX4_change_13 19 (by decide) (fun hf => ?_) (fun hf => ?_)
      · refine q_aloadn dX4_change_19 0 rfl ?_
        refine q_iloadn dX4_change_20 1 rfl ?_
        refine q_iloadn dX4_change_21 1 rfl ?_
        obtain ⟨r22, h22, e22, hf⟩ := q_cl hf
        refine q_cVi (av := [vi x1, vi x1]) (rest := []) wC_0 (ctX4_refuseForms e22) kX4_refuseForms vX4_refuseForms zX4_refuseForms lkX4_95 rfl rfl rfl rfl rfl dX4_change_22 ?_
        refine q_istore dX4_change_25 rfl (loc' := [(4, vi r22), (0, .ref (ad 0)), (1, vi x1), (2, vi x2), (3, vi x3)]) rfl ?_
        refine q_iload dX4_change_27 0 rfl ?_
        refine q_if_eq hf dX4_change_29 35 (by decide) (fun hf => ?_) (fun hf => ?_)
        · refine q_aloadn dX4_change_35 1 rfl ?_
          refine q_iloadn dX4_change_36 2 rfl ?_
          refine q_aloadn dX4_change_37 1 rfl ?_
          refine C_g4_2 flX4_19 dX4_change_38 ?_
          obtain ⟨r41, h41, e41, hf⟩ := q_cl hf
          refine q_cVi (av := [vi x1, .ref (ad 22)]) (rest := []) wC_0 (ctX4_load rfl e41) kX4_load vX4_load zX4_load lkX4_105 rfl rfl rfl rfl rfl dX4_change_41 ?_
          refine q_istore dX4_change_44 rfl (loc' := [(5, vi r41), (4, vi r22), (0, .ref (ad 0)), (1, vi x1), (2, vi x2), (3, vi x3)]) rfl ?_
          refine q_iload dX4_change_46 0 rfl ?_
          refine q_if_ne hf dX4_change_48 54 (by decide) (fun hf => ?_) (fun hf => ?_)
          · refine q_iloadn dX4_change_54 4 rfl ?_
            refine q_iconst dX4_change_55 ?_
            refine q_icmp_ne hf dX4_change_56 63 (by decide) (fun hf => ?_) (fun hf => ?_)
            · refine q_iconst dX4_change_63 ?_
              refine q_loc (loc' := [(0, .ref (ad 0)), (3, vi x3), (5, vi r41)]) [2, 5, 0] rfl ?_
              exact tX4_change_64 x3 r41 0 h41 hf
            · refine q_iconst dX4_change_59 ?_
              refine q_goto dX4_change_60 64 (by decide) ?_
              refine q_loc (loc' := [(0, .ref (ad 0)), (3, vi x3), (5, vi r41)]) [2, 5, 0] rfl ?_
              exact tX4_change_64 x3 r41 1 h41 hf
          · refine q_bipush dX4_change_51 (by decide) ?_
            exact q_iret hf rfl dX4_change_53
        · refine q_iload dX4_change_32 0 rfl ?_
          exact q_iret hf rfl dX4_change_34
      · refine q_bipush dX4_change_16 (by decide) ?_
        exact q_iret hf rfl dX4_change_18
def jX4_makeOverlap_78 (k10 : Int → Int → Int → Int → HP → Option (Int × HP)) (x1 : Int) (x2 : Int) (x3 : Int) (x4 : Int) (s0 : Int) (h : HP) : Option (Int × HP) :=
  cl (fX2_addProduct 26 24 (x1 - x3) 25 (x2 - x3) s0 h) fun _ h100 => k10 x1 x2 x3 (x4 + 1) h100
set_option maxRecDepth 20000 in
theorem tX4_makeOverlap_78 {l : Launch} {D : va_G} {ad : Nat → Nat} {cI cR : ClassId} {Z : Int × HP} {k10 : Int → Int → Int → Int → HP → Option (Int × HP)} (hk10 : ∀ (x1 : Int) (x2 : Int) (x3 : Int) (x4 : Int) (h : HP), k10 x1 x2 x3 x4 h = some Z → Rn (sdC l D ad cI cR) mX4_makeOverlap (rv Z) 10 [(0, .ref (ad 0)), (1, vi x1), (2, vi x2), (3, vi x3), (4, vi x4)] [] h) (x1 : Int) (x2 : Int) (x3 : Int) (x4 : Int) (s0 : Int) (h : HP) (hf : jX4_makeOverlap_78 k10 x1 x2 x3 x4 s0 h = some Z) : Rn (sdC l D ad cI cR) mX4_makeOverlap (rv Z) 78 [(0, .ref (ad 0)), (1, vi x1), (2, vi x2), (3, vi x3), (4, vi x4)] [vi s0] h := by
  unfold jX4_makeOverlap_78 at hf
  refine q_istore dX4_makeOverlap_78 rfl (loc' := [(6, vi s0), (0, .ref (ad 0)), (1, vi x1), (2, vi x2), (3, vi x3), (4, vi x4)]) rfl ?_
  refine q_aloadn dX4_makeOverlap_80 1 rfl ?_
  refine C_g4_6 flX4_32 dX4_makeOverlap_81 ?_
  refine q_aloadn dX4_makeOverlap_84 1 rfl ?_
  refine C_g4_4 flX4_26 dX4_makeOverlap_85 ?_
  refine q_iloadn dX4_makeOverlap_88 2 rfl ?_
  refine q_iloadn dX4_makeOverlap_89 4 rfl ?_
  refine q_isub dX4_makeOverlap_90 ?_
  refine q_aloadn dX4_makeOverlap_91 1 rfl ?_
  refine C_g4_5 flX4_29 dX4_makeOverlap_92 ?_
  refine q_iloadn dX4_makeOverlap_95 3 rfl ?_
  refine q_iloadn dX4_makeOverlap_96 4 rfl ?_
  refine q_isub dX4_makeOverlap_97 ?_
  refine q_iload dX4_makeOverlap_98 0 rfl ?_
  obtain ⟨r100, h100, e100, hf⟩ := q_cl hf
  refine q_cSv (av := [.ref (ad 26), .ref (ad 24), vi (x1 - x3), .ref (ad 25), vi (x2 - x3), vi s0]) (rest := []) (ctX2_addProduct rfl rfl rfl e100) kX2_addProduct uX2_addProduct lkX4_236 rfl rfl rfl dX4_makeOverlap_100 ?_
  refine q_iinc dX4_makeOverlap_103 5 rfl rfl (loc' := [(4, vi (x4 + 1)), (6, vi s0), (0, .ref (ad 0)), (1, vi x1), (2, vi x2), (3, vi x3)]) rfl ?_
  refine q_goto dX4_makeOverlap_106 10 (by decide) ?_
  refine q_loc (loc' := [(0, .ref (ad 0)), (1, vi x1), (2, vi x2), (3, vi x3), (4, vi (x4 + 1))]) [2, 3, 4, 5, 0] rfl ?_
  exact hk10 x1 x2 x3 (x4 + 1) h100 hf
def bX4_makeOverlap_10 (self : Int → Int → Int → Int → HP → Option (Int × HP)) (x1 : Int) (x2 : Int) (x3 : Int) (x4 : Int) (h : HP) : Option (Int × HP) :=
  if wi x4 ≤ wi x3 then (cl (fX2_changed 22 x1 (x3 - x4) x4 24 h) fun _ h31 => cl (fX2_changed 23 x2 x4 (x3 - x4) 25 h31) fun _ h49 => cl (fX1_choose x3 x4 h49) fun r55 h55 => if wi (Int.tmod (wi x4) (wi 2)) = 0 then (jX4_makeOverlap_78 self x1 x2 x3 x4 r55 h55) else (jX4_makeOverlap_78 self x1 x2 x3 x4 (10007 - r55) h55)) else (cl (fX1_factorial (x1 - x3) h) fun r112 h112 => cl (fX1_factorial (x2 - x3) h112) fun r118 h118 => lt (rm (r112 * r118)) fun x4_126 => cl (fX1_factorial x1 h118) fun r129 h129 => cl (fX1_factorial x2 h129) fun r133 h133 => lt (rm (r129 * r133)) fun x5_141 => cl (fX1_inverse x5_141 h133) fun r151 h151 => cl (fX2_multiply 26 (rm (x4_126 * r151)) h151) fun _ h159 => some (0, h159))
def LX4_makeOverlap_10 : Nat → Int → Int → Int → Int → HP → Option (Int × HP)
  | 0 => fun _ _ _ _ _ => none
  | n + 1 => bX4_makeOverlap_10 (LX4_makeOverlap_10 n)
set_option maxRecDepth 20000 in
theorem tX4_makeOverlap_10 {l : Launch} {D : va_G} {ad : Nat → Nat} {cI cR : ClassId} {Z : Int × HP} : ∀ (n : Nat) (x1 : Int) (x2 : Int) (x3 : Int) (x4 : Int) (h : HP), LX4_makeOverlap_10 n x1 x2 x3 x4 h = some Z → Rn (sdC l D ad cI cR) mX4_makeOverlap (rv Z) 10 [(0, .ref (ad 0)), (1, vi x1), (2, vi x2), (3, vi x3), (4, vi x4)] [] h := by
  intro n
  induction n with
  | zero => intro x1 x2 x3 x4 h hf; cases hf
  | succ n ih =>
    intro x1 x2 x3 x4 h hf
    replace hf : bX4_makeOverlap_10 (LX4_makeOverlap_10 n) x1 x2 x3 x4 h = some Z := hf
    unfold bX4_makeOverlap_10 at hf
    refine q_iload dX4_makeOverlap_10 4 rfl ?_
    refine q_iloadn dX4_makeOverlap_12 3 rfl ?_
    refine q_icmp_gt hf dX4_makeOverlap_13 109 (by decide) (fun hf => ?_) (fun hf => ?_)
    · refine q_iloadn dX4_makeOverlap_109 1 rfl ?_
      refine q_iloadn dX4_makeOverlap_110 3 rfl ?_
      refine q_isub dX4_makeOverlap_111 ?_
      obtain ⟨r112, h112, e112, hf⟩ := q_cl hf
      refine q_cSi (av := [vi (x1 - x3)]) (rest := []) (ctX1_factorial e112) kX1_factorial uX1_factorial lkX4_246 rfl rfl rfl dX4_makeOverlap_112 ?_
      refine q_iloadn dX4_makeOverlap_115 2 rfl ?_
      refine q_iloadn dX4_makeOverlap_116 3 rfl ?_
      refine q_isub dX4_makeOverlap_117 ?_
      obtain ⟨r118, h118, e118, hf⟩ := q_cl hf
      refine q_cSi (av := [vi (x2 - x3)]) (rest := [vi r112]) (ctX1_factorial e118) kX1_factorial uX1_factorial lkX4_246 rfl rfl rfl dX4_makeOverlap_118 ?_
      refine q_imul dX4_makeOverlap_121 ?_
      refine q_sipush dX4_makeOverlap_122 (by decide) ?_
      refine q_irmP dX4_makeOverlap_125 ?_
      refine q_lt hf (fun x4_126 hf => ?_)
      refine q_istore dX4_makeOverlap_126 rfl (loc' := [(4, vi x4_126), (0, .ref (ad 0)), (1, vi x1), (2, vi x2), (3, vi x3)]) rfl ?_
      refine q_iloadn dX4_makeOverlap_128 2 rfl ?_
      obtain ⟨r129, h129, e129, hf⟩ := q_cl hf
      refine q_cSi (av := [vi x1]) (rest := []) (ctX1_factorial e129) kX1_factorial uX1_factorial lkX4_246 rfl rfl rfl dX4_makeOverlap_129 ?_
      refine q_iloadn dX4_makeOverlap_132 3 rfl ?_
      obtain ⟨r133, h133, e133, hf⟩ := q_cl hf
      refine q_cSi (av := [vi x2]) (rest := [vi r129]) (ctX1_factorial e133) kX1_factorial uX1_factorial lkX4_246 rfl rfl rfl dX4_makeOverlap_133 ?_
      refine q_imul dX4_makeOverlap_136 ?_
      refine q_sipush dX4_makeOverlap_137 (by decide) ?_
      refine q_irmP dX4_makeOverlap_140 ?_
      refine q_lt hf (fun x5_141 hf => ?_)
      refine q_istore dX4_makeOverlap_141 rfl (loc' := [(5, vi x5_141), (4, vi x4_126), (0, .ref (ad 0)), (1, vi x1), (2, vi x2), (3, vi x3)]) rfl ?_
      refine q_aloadn dX4_makeOverlap_143 2 rfl ?_
      refine C_g4_6 flX4_32 dX4_makeOverlap_144 ?_
      refine q_iload dX4_makeOverlap_147 1 rfl ?_
      refine q_iload dX4_makeOverlap_149 0 rfl ?_
      obtain ⟨r151, h151, e151, hf⟩ := q_cl hf
      refine q_cSi (av := [vi x5_141]) (rest := [vi x4_126, .ref (ad 26)]) (ctX1_inverse e151) kX1_inverse uX1_inverse lkX4_249 rfl rfl rfl dX4_makeOverlap_151 ?_
      refine q_imul dX4_makeOverlap_154 ?_
      refine q_sipush dX4_makeOverlap_155 (by decide) ?_
      refine q_irmP dX4_makeOverlap_158 ?_
      obtain ⟨r159, h159, e159, hf⟩ := q_cl hf
      refine q_cSv (av := [.ref (ad 26), vi (rm (x4_126 * r151))]) (rest := []) (ctX2_multiply rfl e159) kX2_multiply uX2_multiply lkX4_252 rfl rfl rfl dX4_makeOverlap_159 ?_
      exact q_vret hf rfl dX4_makeOverlap_162
    · refine q_aloadn dX4_makeOverlap_16 0 rfl ?_
      refine C_g4_2 flX4_19 dX4_makeOverlap_17 ?_
      refine q_iloadn dX4_makeOverlap_20 1 rfl ?_
      refine q_iloadn dX4_makeOverlap_21 3 rfl ?_
      refine q_iload dX4_makeOverlap_22 4 rfl ?_
      refine q_isub dX4_makeOverlap_24 ?_
      refine q_iload dX4_makeOverlap_25 4 rfl ?_
      refine q_aloadn dX4_makeOverlap_27 0 rfl ?_
      refine C_g4_4 flX4_26 dX4_makeOverlap_28 ?_
      obtain ⟨r31, h31, e31, hf⟩ := q_cl hf
      refine q_cSv (av := [.ref (ad 22), vi x1, vi (x3 - x4), vi x4, .ref (ad 24)]) (rest := []) (ctX2_changed rfl rfl e31) kX2_changed uX2_changed lkX4_135 rfl rfl rfl dX4_makeOverlap_31 ?_
      refine q_aloadn dX4_makeOverlap_34 0 rfl ?_
      refine C_g4_3 flX4_23 dX4_makeOverlap_35 ?_
      refine q_iloadn dX4_makeOverlap_38 2 rfl ?_
      refine q_iload dX4_makeOverlap_39 4 rfl ?_
      refine q_iloadn dX4_makeOverlap_41 3 rfl ?_
      refine q_iload dX4_makeOverlap_42 4 rfl ?_
      refine q_isub dX4_makeOverlap_44 ?_
      refine q_aloadn dX4_makeOverlap_45 0 rfl ?_
      refine C_g4_5 flX4_29 dX4_makeOverlap_46 ?_
      obtain ⟨r49, h49, e49, hf⟩ := q_cl hf
      refine q_cSv (av := [.ref (ad 23), vi x2, vi x4, vi (x3 - x4), .ref (ad 25)]) (rest := []) (ctX2_changed rfl rfl e49) kX2_changed uX2_changed lkX4_135 rfl rfl rfl dX4_makeOverlap_49 ?_
      refine q_iloadn dX4_makeOverlap_52 3 rfl ?_
      refine q_iload dX4_makeOverlap_53 4 rfl ?_
      obtain ⟨r55, h55, e55, hf⟩ := q_cl hf
      refine q_cSi (av := [vi x3, vi x4]) (rest := []) (ctX1_choose e55) kX1_choose uX1_choose lkX4_243 rfl rfl rfl dX4_makeOverlap_55 ?_
      refine q_istore dX4_makeOverlap_58 rfl (loc' := [(5, vi r55), (0, .ref (ad 0)), (1, vi x1), (2, vi x2), (3, vi x3), (4, vi x4)]) rfl ?_
      refine q_iload dX4_makeOverlap_60 5 rfl ?_
      refine q_iconst dX4_makeOverlap_62 ?_
      refine q_irem dX4_makeOverlap_63 nz2 ?_
      refine q_if_ne hf dX4_makeOverlap_64 72 (by decide) (fun hf => ?_) (fun hf => ?_)
      · refine q_sipush dX4_makeOverlap_72 (by decide) ?_
        refine q_iload dX4_makeOverlap_75 0 rfl ?_
        refine q_isub dX4_makeOverlap_77 ?_
        refine q_loc (loc' := [(0, .ref (ad 0)), (1, vi x1), (2, vi x2), (3, vi x3), (4, vi x4)]) [1, 2, 3, 4, 5] rfl ?_
        exact tX4_makeOverlap_78 ih x1 x2 x3 x4 (10007 - r55) h55 hf
      · refine q_iload dX4_makeOverlap_67 0 rfl ?_
        refine q_goto dX4_makeOverlap_69 78 (by decide) ?_
        refine q_loc (loc' := [(0, .ref (ad 0)), (1, vi x1), (2, vi x2), (3, vi x3), (4, vi x4)]) [1, 2, 3, 4, 5] rfl ?_
        exact tX4_makeOverlap_78 ih x1 x2 x3 x4 r55 h55 hf
def fX4_makeOverlap (x1 : Int) (x2 : Int) (x3 : Int) (h : HP) : Option (Int × HP) :=
  cl (fX2_clear 26 h) fun _ h4 => LX4_makeOverlap_10 FU x1 x2 x3 0 h4
set_option maxRecDepth 20000 in
theorem ctX4_makeOverlap {l : Launch} {D : va_G} {ad : Nat → Nat} {cI cR : ClassId} {x1 : Int} {x2 : Int} {x3 : Int} {h : HP} {Z : Int × HP} (hf : fX4_makeOverlap x1 x2 x3 h = some Z) : Ct (sdC l D ad cI cR) mX4_makeOverlap [.ref (ad 0), vi x1, vi x2, vi x3] h (rv Z) := by
  refine Ct.ofF nX4_makeOverlap rfl (loc := [(0, .ref (ad 0)), (1, vi x1), (2, vi x2), (3, vi x3)]) rfl ?_
  unfold fX4_makeOverlap at hf
  refine q_aloadn dX4_makeOverlap_0 0 rfl ?_
  refine C_g4_6 flX4_32 dX4_makeOverlap_1 ?_
  obtain ⟨r4, h4, e4, hf⟩ := q_cl hf
  refine q_cSv (av := [.ref (ad 26)]) (rest := []) (ctX2_clear rfl e4) kX2_clear uX2_clear lkX4_180 rfl rfl rfl dX4_makeOverlap_4 ?_
  refine q_iconst dX4_makeOverlap_7 ?_
  refine q_istore dX4_makeOverlap_8 rfl (loc' := [(4, vi 0), (0, .ref (ad 0)), (1, vi x1), (2, vi x2), (3, vi x3)]) rfl ?_
  refine q_loc (loc' := [(0, .ref (ad 0)), (1, vi x1), (2, vi x2), (3, vi x3), (4, vi 0)]) [1, 2, 3, 4, 0] rfl ?_
  exact tX4_makeOverlap_10 FU x1 x2 x3 0 h4 hf
def fX4_overlap (x1 : Int) (x2 : Int) (x3 : Int) (x4 : Int) (h : HP) : Option (Int × HP) :=
  cl (fX4_noSheet x4 h) fun r2 h2 => if wi r2 = 0 then (if 0 ≤ wi x3 then (if wi 8 < wi x3 then (some ((-2), h2)) else (cl (fX4_refuseForms x1 x2 h2) fun r24 h24 => if wi r24 = 0 then (cl (fX4_load x1 22 h24) fun r43 h43 => cl (fX4_load x2 23 h43) fun r54 h54 => if wi x3 ≤ wi r43 then (if wi x3 ≤ wi r54 then (if wi 8 < wi ((r43 + r54) - (2 * x3)) then (some ((-3), h54)) else (cl (fX4_makeOverlap r43 r54 x3 h54) fun _ h94 => cl (fX4_keepForm x4 ((r43 + r54) - (2 * x3)) h94) fun r109 h109 => some (r109, h109))) else (some ((-3), h54))) else (some ((-3), h54))) else (some (r24, h24)))) else (some ((-2), h2))) else (some ((-2), h2))
set_option maxRecDepth 20000 in
theorem ctX4_overlap {l : Launch} {D : va_G} {ad : Nat → Nat} {cI cR : ClassId} {x1 : Int} {x2 : Int} {x3 : Int} {x4 : Int} {h : HP} {Z : Int × HP} (hf : fX4_overlap x1 x2 x3 x4 h = some Z) : Ct (sdC l D ad cI cR) mX4_overlap [.ref (ad 0), vi x1, vi x2, vi x3, vi x4] h (ri Z) := by
  refine Ct.ofF nX4_overlap rfl (loc := [(0, .ref (ad 0)), (1, vi x1), (2, vi x2), (3, vi x3), (4, vi x4)]) rfl ?_
  unfold fX4_overlap at hf
  refine q_iload dX4_overlap_0 4 rfl ?_
  obtain ⟨r2, h2, e2, hf⟩ := q_cl hf
  refine q_cSi (av := [vi x4]) (rest := []) (ctX4_noSheet e2) kX4_noSheet uX4_noSheet lkX4_46 rfl rfl rfl dX4_overlap_2 ?_
  refine q_if_ne hf dX4_overlap_5 18 (by decide) (fun hf => ?_) (fun hf => ?_)
  · refine q_bipush dX4_overlap_18 (by decide) ?_
    exact q_iret hf rfl dX4_overlap_20
  · refine q_iloadn dX4_overlap_8 3 rfl ?_
    refine q_if_lt hf dX4_overlap_9 18 (by decide) (fun hf => ?_) (fun hf => ?_)
    · refine q_bipush dX4_overlap_18 (by decide) ?_
      exact q_iret hf rfl dX4_overlap_20
    · refine q_iloadn dX4_overlap_12 3 rfl ?_
      refine q_bipush dX4_overlap_13 (by decide) ?_
      refine q_icmp_le hf dX4_overlap_15 21 (by decide) (fun hf => ?_) (fun hf => ?_)
      · refine q_aloadn dX4_overlap_21 0 rfl ?_
        refine q_iloadn dX4_overlap_22 1 rfl ?_
        refine q_iloadn dX4_overlap_23 2 rfl ?_
        obtain ⟨r24, h24, e24, hf⟩ := q_cl hf
        refine q_cVi (av := [vi x1, vi x2]) (rest := []) wC_0 (ctX4_refuseForms e24) kX4_refuseForms vX4_refuseForms zX4_refuseForms lkX4_95 rfl rfl rfl rfl rfl dX4_overlap_24 ?_
        refine q_istore dX4_overlap_27 rfl (loc' := [(5, vi r24), (0, .ref (ad 0)), (1, vi x1), (2, vi x2), (3, vi x3), (4, vi x4)]) rfl ?_
        refine q_iload dX4_overlap_29 0 rfl ?_
        refine q_if_eq hf dX4_overlap_31 37 (by decide) (fun hf => ?_) (fun hf => ?_)
        · refine q_aloadn dX4_overlap_37 1 rfl ?_
          refine q_iloadn dX4_overlap_38 2 rfl ?_
          refine q_aloadn dX4_overlap_39 1 rfl ?_
          refine C_g4_2 flX4_19 dX4_overlap_40 ?_
          obtain ⟨r43, h43, e43, hf⟩ := q_cl hf
          refine q_cVi (av := [vi x1, .ref (ad 22)]) (rest := []) wC_0 (ctX4_load rfl e43) kX4_load vX4_load zX4_load lkX4_105 rfl rfl rfl rfl rfl dX4_overlap_43 ?_
          refine q_istore dX4_overlap_46 rfl (loc' := [(6, vi r43), (5, vi r24), (0, .ref (ad 0)), (1, vi x1), (2, vi x2), (3, vi x3), (4, vi x4)]) rfl ?_
          refine q_aloadn dX4_overlap_48 2 rfl ?_
          refine q_iloadn dX4_overlap_49 4 rfl ?_
          refine q_aloadn dX4_overlap_50 2 rfl ?_
          refine C_g4_3 flX4_23 dX4_overlap_51 ?_
          obtain ⟨r54, h54, e54, hf⟩ := q_cl hf
          refine q_cVi (av := [vi x2, .ref (ad 23)]) (rest := []) wC_0 (ctX4_load rfl e54) kX4_load vX4_load zX4_load lkX4_105 rfl rfl rfl rfl rfl dX4_overlap_54 ?_
          refine q_istore dX4_overlap_57 rfl (loc' := [(7, vi r54), (6, vi r43), (5, vi r24), (0, .ref (ad 0)), (1, vi x1), (2, vi x2), (3, vi x3), (4, vi x4)]) rfl ?_
          refine q_iloadn dX4_overlap_59 6 rfl ?_
          refine q_iload dX4_overlap_60 1 rfl ?_
          refine q_icmp_gt hf dX4_overlap_62 85 (by decide) (fun hf => ?_) (fun hf => ?_)
          · refine q_bipush dX4_overlap_85 (by decide) ?_
            exact q_iret hf rfl dX4_overlap_87
          · refine q_iloadn dX4_overlap_65 6 rfl ?_
            refine q_iload dX4_overlap_66 0 rfl ?_
            refine q_icmp_gt hf dX4_overlap_68 85 (by decide) (fun hf => ?_) (fun hf => ?_)
            · refine q_bipush dX4_overlap_85 (by decide) ?_
              exact q_iret hf rfl dX4_overlap_87
            · refine q_iload dX4_overlap_71 1 rfl ?_
              refine q_iload dX4_overlap_73 0 rfl ?_
              refine q_iadd dX4_overlap_75 ?_
              refine q_iconst dX4_overlap_76 ?_
              refine q_iloadn dX4_overlap_77 6 rfl ?_
              refine q_imul dX4_overlap_78 ?_
              refine q_isub dX4_overlap_79 ?_
              refine q_bipush dX4_overlap_80 (by decide) ?_
              refine q_icmp_le hf dX4_overlap_82 88 (by decide) (fun hf => ?_) (fun hf => ?_)
              · refine q_aloadn dX4_overlap_88 3 rfl ?_
                refine q_iload dX4_overlap_89 1 rfl ?_
                refine q_iload dX4_overlap_91 0 rfl ?_
                refine q_iloadn dX4_overlap_93 6 rfl ?_
                obtain ⟨r94, h94, e94, hf⟩ := q_cl hf
                refine q_cVv (av := [vi r43, vi r54, vi x3]) (rest := []) wC_0 (ctX4_makeOverlap e94) kX4_makeOverlap vX4_makeOverlap zX4_makeOverlap lkX4_139 rfl rfl rfl rfl rfl dX4_overlap_94 ?_
                refine q_aloadn dX4_overlap_97 3 rfl ?_
                refine q_iload dX4_overlap_98 7 rfl ?_
                refine q_iload dX4_overlap_100 1 rfl ?_
                refine q_iload dX4_overlap_102 0 rfl ?_
                refine q_iadd dX4_overlap_104 ?_
                refine q_iconst dX4_overlap_105 ?_
                refine q_iloadn dX4_overlap_106 6 rfl ?_
                refine q_imul dX4_overlap_107 ?_
                refine q_isub dX4_overlap_108 ?_
                obtain ⟨r109, h109, e109, hf⟩ := q_cl hf
                refine q_cVi (av := [vi x4, vi ((r43 + r54) - (2 * x3))]) (rest := []) wC_0 (ctX4_keepForm e109) kX4_keepForm vX4_keepForm zX4_keepForm lkX4_128 rfl rfl rfl rfl rfl dX4_overlap_109 ?_
                exact q_iret hf rfl dX4_overlap_112
              · refine q_bipush dX4_overlap_85 (by decide) ?_
                exact q_iret hf rfl dX4_overlap_87
        · refine q_iload dX4_overlap_34 0 rfl ?_
          exact q_iret hf rfl dX4_overlap_36
      · refine q_bipush dX4_overlap_18 (by decide) ?_
        exact q_iret hf rfl dX4_overlap_20
def fX4_alike (x1 : Int) (x2 : Int) (h : HP) : Option (Int × HP) :=
  cl (fX4_refuseForms x1 x2 h) fun r3 h3 => if wi r3 = 0 then (cl (fX4_load x1 22 h3) fun r19 h19 => cl (fX4_load x2 23 h19) fun r30 h30 => if wi r19 = wi r30 then (cl (fX2_ratio 22 23 r30 h30) fun r52 h52 => some (r52, h52)) else (some (0, h30))) else (some (r3, h3))
set_option maxRecDepth 20000 in
theorem ctX4_alike {l : Launch} {D : va_G} {ad : Nat → Nat} {cI cR : ClassId} {x1 : Int} {x2 : Int} {h : HP} {Z : Int × HP} (hf : fX4_alike x1 x2 h = some Z) : Ct (sdC l D ad cI cR) mX4_alike [.ref (ad 0), vi x1, vi x2] h (ri Z) := by
  refine Ct.ofF nX4_alike rfl (loc := [(0, .ref (ad 0)), (1, vi x1), (2, vi x2)]) rfl ?_
  unfold fX4_alike at hf
  refine q_aloadn dX4_alike_0 0 rfl ?_
  refine q_iloadn dX4_alike_1 1 rfl ?_
  refine q_iloadn dX4_alike_2 2 rfl ?_
  obtain ⟨r3, h3, e3, hf⟩ := q_cl hf
  refine q_cVi (av := [vi x1, vi x2]) (rest := []) wC_0 (ctX4_refuseForms e3) kX4_refuseForms vX4_refuseForms zX4_refuseForms lkX4_95 rfl rfl rfl rfl rfl dX4_alike_3 ?_
  refine q_istoren dX4_alike_6 rfl (loc' := [(3, vi r3), (0, .ref (ad 0)), (1, vi x1), (2, vi x2)]) rfl ?_
  refine q_iloadn dX4_alike_7 0 rfl ?_
  refine q_if_eq hf dX4_alike_8 13 (by decide) (fun hf => ?_) (fun hf => ?_)
  · refine q_aloadn dX4_alike_13 1 rfl ?_
    refine q_iloadn dX4_alike_14 2 rfl ?_
    refine q_aloadn dX4_alike_15 1 rfl ?_
    refine C_g4_2 flX4_19 dX4_alike_16 ?_
    obtain ⟨r19, h19, e19, hf⟩ := q_cl hf
    refine q_cVi (av := [vi x1, .ref (ad 22)]) (rest := []) wC_0 (ctX4_load rfl e19) kX4_load vX4_load zX4_load lkX4_105 rfl rfl rfl rfl rfl dX4_alike_19 ?_
    refine q_istore dX4_alike_22 rfl (loc' := [(4, vi r19), (3, vi r3), (0, .ref (ad 0)), (1, vi x1), (2, vi x2)]) rfl ?_
    refine q_aloadn dX4_alike_24 2 rfl ?_
    refine q_iloadn dX4_alike_25 4 rfl ?_
    refine q_aloadn dX4_alike_26 2 rfl ?_
    refine C_g4_3 flX4_23 dX4_alike_27 ?_
    obtain ⟨r30, h30, e30, hf⟩ := q_cl hf
    refine q_cVi (av := [vi x2, .ref (ad 23)]) (rest := []) wC_0 (ctX4_load rfl e30) kX4_load vX4_load zX4_load lkX4_105 rfl rfl rfl rfl rfl dX4_alike_30 ?_
    refine q_istore dX4_alike_33 rfl (loc' := [(5, vi r30), (4, vi r19), (3, vi r3), (0, .ref (ad 0)), (1, vi x1), (2, vi x2)]) rfl ?_
    refine q_iload dX4_alike_35 1 rfl ?_
    refine q_iload dX4_alike_37 0 rfl ?_
    refine q_icmp_ne hf dX4_alike_39 58 (by decide) (fun hf => ?_) (fun hf => ?_)
    · refine q_iconst dX4_alike_58 ?_
      exact q_iret hf rfl dX4_alike_59
    · refine q_aloadn dX4_alike_42 3 rfl ?_
      refine C_g4_2 flX4_19 dX4_alike_43 ?_
      refine q_aloadn dX4_alike_46 3 rfl ?_
      refine C_g4_3 flX4_23 dX4_alike_47 ?_
      refine q_iload dX4_alike_50 0 rfl ?_
      obtain ⟨r52, h52, e52, hf⟩ := q_cl hf
      refine q_cSi (av := [.ref (ad 22), .ref (ad 23), vi r30]) (rest := []) (ctX2_ratio rfl rfl e52) kX2_ratio uX2_ratio lkX4_142 rfl rfl rfl dX4_alike_52 ?_
      refine q_goto dX4_alike_55 59 (by decide) ?_
      exact q_iret hf rfl dX4_alike_59
  · refine q_iloadn dX4_alike_11 0 rfl ?_
    exact q_iret hf rfl dX4_alike_12
def fX4_refuseRoots (x1 : Int) (x2 : Int) (h : HP) : Option (Int × HP) :=
  cl (fX4_refuseForms x1 x2 h) fun r3 h3 => if wi r3 = 0 then (lda x1 fun q18 => cl (fX3_isNought q18 h3) fun r19 h19 => if wi r19 = 0 then (lda x2 fun q30 => cl (fX3_isNought q30 h19) fun r31 h31 => if wi r31 = 0 then (some (0, h31)) else (some ((-3), h31))) else (some ((-3), h19))) else (some (r3, h3))
set_option maxRecDepth 20000 in
theorem ctX4_refuseRoots {l : Launch} {D : va_G} {ad : Nat → Nat} {cI cR : ClassId} {x1 : Int} {x2 : Int} {h : HP} {Z : Int × HP} (hf : fX4_refuseRoots x1 x2 h = some Z) : Ct (sdC l D ad cI cR) mX4_refuseRoots [.ref (ad 0), vi x1, vi x2] h (ri Z) := by
  refine Ct.ofF nX4_refuseRoots rfl (loc := [(0, .ref (ad 0)), (1, vi x1), (2, vi x2)]) rfl ?_
  unfold fX4_refuseRoots at hf
  refine q_aloadn dX4_refuseRoots_0 0 rfl ?_
  refine q_iloadn dX4_refuseRoots_1 1 rfl ?_
  refine q_iloadn dX4_refuseRoots_2 2 rfl ?_
  obtain ⟨r3, h3, e3, hf⟩ := q_cl hf
  refine q_cVi (av := [vi x1, vi x2]) (rest := []) wC_0 (ctX4_refuseForms e3) kX4_refuseForms vX4_refuseForms zX4_refuseForms lkX4_95 rfl rfl rfl rfl rfl dX4_refuseRoots_3 ?_
  refine q_istoren dX4_refuseRoots_6 rfl (loc' := [(3, vi r3), (0, .ref (ad 0)), (1, vi x1), (2, vi x2)]) rfl ?_
  refine q_iloadn dX4_refuseRoots_7 0 rfl ?_
  refine q_if_eq hf dX4_refuseRoots_8 13 (by decide) (fun hf => ?_) (fun hf => ?_)
  · refine q_aloadn dX4_refuseRoots_13 1 rfl ?_
    refine C_g4_0 flX4_11 dX4_refuseRoots_14 ?_
    refine q_iloadn dX4_refuseRoots_17 2 rfl ?_
    refine C_ald hf dX4_refuseRoots_18 (fun q18 p18 hf => ?_)
    obtain ⟨r19, h19, e19, hf⟩ := q_cl hf
    refine q_cVi (av := []) (rest := []) (wC_sh p18) (ctX3_isNought p18 e19) kX3_isNought vX3_isNought zX3_isNought lkX4_229 rfl rfl rfl rfl rfl dX4_refuseRoots_19 ?_
    refine q_if_ne hf dX4_refuseRoots_22 37 (by decide) (fun hf => ?_) (fun hf => ?_)
    · refine q_bipush dX4_refuseRoots_37 (by decide) ?_
      refine q_goto dX4_refuseRoots_39 43 (by decide) ?_
      exact q_iret hf rfl dX4_refuseRoots_43
    · refine q_aloadn dX4_refuseRoots_25 1 rfl ?_
      refine C_g4_0 flX4_11 dX4_refuseRoots_26 ?_
      refine q_iloadn dX4_refuseRoots_29 3 rfl ?_
      refine C_ald hf dX4_refuseRoots_30 (fun q30 p30 hf => ?_)
      obtain ⟨r31, h31, e31, hf⟩ := q_cl hf
      refine q_cVi (av := []) (rest := []) (wC_sh p30) (ctX3_isNought p30 e31) kX3_isNought vX3_isNought zX3_isNought lkX4_229 rfl rfl rfl rfl rfl dX4_refuseRoots_31 ?_
      refine q_if_eq hf dX4_refuseRoots_34 42 (by decide) (fun hf => ?_) (fun hf => ?_)
      · refine q_iconst dX4_refuseRoots_42 ?_
        exact q_iret hf rfl dX4_refuseRoots_43
      · refine q_bipush dX4_refuseRoots_37 (by decide) ?_
        refine q_goto dX4_refuseRoots_39 43 (by decide) ?_
        exact q_iret hf rfl dX4_refuseRoots_43
  · refine q_iloadn dX4_refuseRoots_11 0 rfl ?_
    exact q_iret hf rfl dX4_refuseRoots_12
def bX4_findRoots_15 (self : Int → Int → Int → HP → Option (Int × HP)) (x2 : Int) (x3 : Int) (x4 : Int) (h : HP) : Option (Int × HP) :=
  if wi x4 ≤ wi 10007 then (if wi x3 < wi x2 then (cl (fX2_valueAtPlace 22 x2 x4 h) fun r35 h35 => if wi r35 = 0 then (sto (lnC 24) h35 24 x3 x4 fun h48 => self x2 (x3 + 1) (x4 + 1) h48) else (self x2 x3 (x4 + 1) h35)) else (some (x3, h))) else (some (x3, h))
def LX4_findRoots_15 : Nat → Int → Int → Int → HP → Option (Int × HP)
  | 0 => fun _ _ _ _ => none
  | n + 1 => bX4_findRoots_15 (LX4_findRoots_15 n)
set_option maxRecDepth 20000 in
theorem tX4_findRoots_15 {l : Launch} {D : va_G} {ad : Nat → Nat} {cI cR : ClassId} {Z : Int × HP} : ∀ (n : Nat) (x2 : Int) (x3 : Int) (x4 : Int) (h : HP), LX4_findRoots_15 n x2 x3 x4 h = some Z → Rn (sdC l D ad cI cR) mX4_findRoots (ri Z) 15 [(0, .ref (ad 0)), (2, vi x2), (3, vi x3), (4, vi x4)] [] h := by
  intro n
  induction n with
  | zero => intro x2 x3 x4 h hf; cases hf
  | succ n ih =>
    intro x2 x3 x4 h hf
    replace hf : bX4_findRoots_15 (LX4_findRoots_15 n) x2 x3 x4 h = some Z := hf
    unfold bX4_findRoots_15 at hf
    refine q_iload dX4_findRoots_15 3 rfl ?_
    refine q_sipush dX4_findRoots_17 (by decide) ?_
    refine q_icmp_gt hf dX4_findRoots_20 58 (by decide) (fun hf => ?_) (fun hf => ?_)
    · refine q_iloadn dX4_findRoots_58 2 rfl ?_
      exact q_iret hf rfl dX4_findRoots_59
    · refine q_iloadn dX4_findRoots_23 2 rfl ?_
      refine q_iloadn dX4_findRoots_24 1 rfl ?_
      refine q_icmp_ge hf dX4_findRoots_25 58 (by decide) (fun hf => ?_) (fun hf => ?_)
      · refine q_iloadn dX4_findRoots_58 2 rfl ?_
        exact q_iret hf rfl dX4_findRoots_59
      · refine q_aloadn dX4_findRoots_28 0 rfl ?_
        refine C_g4_2 flX4_19 dX4_findRoots_29 ?_
        refine q_iloadn dX4_findRoots_32 1 rfl ?_
        refine q_iload dX4_findRoots_33 3 rfl ?_
        obtain ⟨r35, h35, e35, hf⟩ := q_cl hf
        refine q_cSi (av := [.ref (ad 22), vi x2, vi x4]) (rest := []) (ctX2_valueAtPlace rfl e35) kX2_valueAtPlace uX2_valueAtPlace lkX4_255 rfl rfl rfl dX4_findRoots_35 ?_
        refine q_if_ne hf dX4_findRoots_38 52 (by decide) (fun hf => ?_) (fun hf => ?_)
        · refine q_iinc dX4_findRoots_52 3 rfl rfl (loc' := [(4, vi (x4 + 1)), (0, .ref (ad 0)), (2, vi x2), (3, vi x3)]) rfl ?_
          refine q_goto dX4_findRoots_55 15 (by decide) ?_
          refine q_loc (loc' := [(0, .ref (ad 0)), (2, vi x2), (3, vi x3), (4, vi (x4 + 1))]) [1, 2, 3, 0] rfl ?_
          exact ih x2 x3 (x4 + 1) h35 hf
        · refine q_aloadn dX4_findRoots_41 0 rfl ?_
          refine C_g4_4 flX4_26 dX4_findRoots_42 ?_
          refine q_iloadn dX4_findRoots_45 2 rfl ?_
          refine q_iload dX4_findRoots_46 3 rfl ?_
          refine C_st hf dX4_findRoots_48 (fun h48 hf => ?_)
          refine q_iinc dX4_findRoots_49 2 rfl rfl (loc' := [(3, vi (x3 + 1)), (0, .ref (ad 0)), (2, vi x2), (4, vi x4)]) rfl ?_
          refine q_iinc dX4_findRoots_52 3 rfl rfl (loc' := [(4, vi (x4 + 1)), (3, vi (x3 + 1)), (0, .ref (ad 0)), (2, vi x2)]) rfl ?_
          refine q_goto dX4_findRoots_55 15 (by decide) ?_
          refine q_loc (loc' := [(0, .ref (ad 0)), (2, vi x2), (3, vi (x3 + 1)), (4, vi (x4 + 1))]) [2, 3, 1, 0] rfl ?_
          exact ih x2 (x3 + 1) (x4 + 1) h48 hf
def fX4_findRoots (x1 : Int) (h : HP) : Option (Int × HP) :=
  cl (fX4_load x1 22 h) fun r6 h6 => LX4_findRoots_15 FU r6 0 0 h6
set_option maxRecDepth 20000 in
theorem ctX4_findRoots {l : Launch} {D : va_G} {ad : Nat → Nat} {cI cR : ClassId} {x1 : Int} {h : HP} {Z : Int × HP} (hf : fX4_findRoots x1 h = some Z) : Ct (sdC l D ad cI cR) mX4_findRoots [.ref (ad 0), vi x1] h (ri Z) := by
  refine Ct.ofF nX4_findRoots rfl (loc := [(0, .ref (ad 0)), (1, vi x1)]) rfl ?_
  unfold fX4_findRoots at hf
  refine q_aloadn dX4_findRoots_0 0 rfl ?_
  refine q_iloadn dX4_findRoots_1 1 rfl ?_
  refine q_aloadn dX4_findRoots_2 0 rfl ?_
  refine C_g4_2 flX4_19 dX4_findRoots_3 ?_
  obtain ⟨r6, h6, e6, hf⟩ := q_cl hf
  refine q_cVi (av := [vi x1, .ref (ad 22)]) (rest := []) wC_0 (ctX4_load rfl e6) kX4_load vX4_load zX4_load lkX4_105 rfl rfl rfl rfl rfl dX4_findRoots_6 ?_
  refine q_istoren dX4_findRoots_9 rfl (loc' := [(2, vi r6), (0, .ref (ad 0)), (1, vi x1)]) rfl ?_
  refine q_iconst dX4_findRoots_10 ?_
  refine q_istoren dX4_findRoots_11 rfl (loc' := [(3, vi 0), (2, vi r6), (0, .ref (ad 0)), (1, vi x1)]) rfl ?_
  refine q_iconst dX4_findRoots_12 ?_
  refine q_istore dX4_findRoots_13 rfl (loc' := [(4, vi 0), (3, vi 0), (2, vi r6), (0, .ref (ad 0)), (1, vi x1)]) rfl ?_
  refine q_loc (loc' := [(0, .ref (ad 0)), (2, vi r6), (3, vi 0), (4, vi 0)]) [3, 2, 1, 0] rfl ?_
  exact tX4_findRoots_15 FU r6 0 0 h6 hf
def fX4_roots (x1 : Int) (h : HP) : Option (Int × HP) :=
  cl (fX4_refuseRoots x1 x1 h) fun r3 h3 => if wi r3 = 0 then (cl (fX4_findRoots x1 h3) fun r17 h17 => some (r17, h17)) else (some (r3, h3))
set_option maxRecDepth 20000 in
theorem ctX4_roots {l : Launch} {D : va_G} {ad : Nat → Nat} {cI cR : ClassId} {x1 : Int} {h : HP} {Z : Int × HP} (hf : fX4_roots x1 h = some Z) : Ct (sdC l D ad cI cR) mX4_roots [.ref (ad 0), vi x1] h (ri Z) := by
  refine Ct.ofF nX4_roots rfl (loc := [(0, .ref (ad 0)), (1, vi x1)]) rfl ?_
  unfold fX4_roots at hf
  refine q_aloadn dX4_roots_0 0 rfl ?_
  refine q_iloadn dX4_roots_1 1 rfl ?_
  refine q_iloadn dX4_roots_2 1 rfl ?_
  obtain ⟨r3, h3, e3, hf⟩ := q_cl hf
  refine q_cVi (av := [vi x1, vi x1]) (rest := []) wC_0 (ctX4_refuseRoots e3) kX4_refuseRoots vX4_refuseRoots zX4_refuseRoots lkX4_146 rfl rfl rfl rfl rfl dX4_roots_3 ?_
  refine q_istoren dX4_roots_6 rfl (loc' := [(2, vi r3), (0, .ref (ad 0)), (1, vi x1)]) rfl ?_
  refine q_iloadn dX4_roots_7 0 rfl ?_
  refine q_if_eq hf dX4_roots_8 15 (by decide) (fun hf => ?_) (fun hf => ?_)
  · refine q_aloadn dX4_roots_15 1 rfl ?_
    refine q_iloadn dX4_roots_16 2 rfl ?_
    obtain ⟨r17, h17, e17, hf⟩ := q_cl hf
    refine q_cVi (av := [vi x1]) (rest := []) wC_0 (ctX4_findRoots e17) kX4_findRoots vX4_findRoots zX4_findRoots lkX4_149 rfl rfl rfl rfl rfl dX4_roots_17 ?_
    exact q_iret hf rfl dX4_roots_20
  · refine q_iloadn dX4_roots_11 0 rfl ?_
    refine q_goto dX4_roots_12 20 (by decide) ?_
    exact q_iret hf rfl dX4_roots_20
def fX4_root (x1 : Int) (x2 : Int) (h : HP) : Option (Int × HP) :=
  if wi x2 < 0 then (some ((-2), h)) else (cl (fX4_refuseRoots x1 x1 h) fun r10 h10 => if wi r10 = 0 then (cl (fX4_findRoots x1 h10) fun r23 h23 => if wi x2 < wi r23 then (ld (lnC 24) (h23 24) x2 fun v34 => some (v34, h23)) else (some ((-1), h23))) else (some (r10, h10)))
set_option maxRecDepth 20000 in
theorem ctX4_root {l : Launch} {D : va_G} {ad : Nat → Nat} {cI cR : ClassId} {x1 : Int} {x2 : Int} {h : HP} {Z : Int × HP} (hf : fX4_root x1 x2 h = some Z) : Ct (sdC l D ad cI cR) mX4_root [.ref (ad 0), vi x1, vi x2] h (ri Z) := by
  refine Ct.ofF nX4_root rfl (loc := [(0, .ref (ad 0)), (1, vi x1), (2, vi x2)]) rfl ?_
  unfold fX4_root at hf
  refine q_iloadn dX4_root_0 2 rfl ?_
  refine q_if_ge hf dX4_root_1 7 (by decide) (fun hf => ?_) (fun hf => ?_)
  · refine q_aloadn dX4_root_7 0 rfl ?_
    refine q_iloadn dX4_root_8 1 rfl ?_
    refine q_iloadn dX4_root_9 1 rfl ?_
    obtain ⟨r10, h10, e10, hf⟩ := q_cl hf
    refine q_cVi (av := [vi x1, vi x1]) (rest := []) wC_0 (ctX4_refuseRoots e10) kX4_refuseRoots vX4_refuseRoots zX4_refuseRoots lkX4_146 rfl rfl rfl rfl rfl dX4_root_10 ?_
    refine q_istoren dX4_root_13 rfl (loc' := [(3, vi r10), (0, .ref (ad 0)), (1, vi x1), (2, vi x2)]) rfl ?_
    refine q_iloadn dX4_root_14 0 rfl ?_
    refine q_if_eq hf dX4_root_15 20 (by decide) (fun hf => ?_) (fun hf => ?_)
    · refine q_iloadn dX4_root_20 3 rfl ?_
      refine q_aloadn dX4_root_21 1 rfl ?_
      refine q_iloadn dX4_root_22 2 rfl ?_
      obtain ⟨r23, h23, e23, hf⟩ := q_cl hf
      refine q_cVi (av := [vi x1]) (rest := [vi x2]) wC_0 (ctX4_findRoots e23) kX4_findRoots vX4_findRoots zX4_findRoots lkX4_149 rfl rfl rfl rfl rfl dX4_root_23 ?_
      refine q_icmp_ge hf dX4_root_26 38 (by decide) (fun hf => ?_) (fun hf => ?_)
      · refine q_iconst dX4_root_38 ?_
        exact q_iret hf rfl dX4_root_39
      · refine q_aloadn dX4_root_29 1 rfl ?_
        refine C_g4_4 flX4_26 dX4_root_30 ?_
        refine q_iloadn dX4_root_33 3 rfl ?_
        refine C_ld hf dX4_root_34 (fun v34 hf => ?_)
        refine q_goto dX4_root_35 39 (by decide) ?_
        exact q_iret hf rfl dX4_root_39
    · refine q_iloadn dX4_root_18 0 rfl ?_
      exact q_iret hf rfl dX4_root_19
  · refine q_bipush dX4_root_4 (by decide) ?_
    exact q_iret hf rfl dX4_root_6
def bX4_makeCommon_143 (self : Int → Nat → Int → Int → HP → Option (Int × HP)) (x5 : Int) (a6 : Nat) (x7 : Int) (x8 : Int) (h : HP) : Option (Int × HP) :=
  if wi x8 ≤ wi x7 then (if wi (x5 + x8) < wi 9 then (ld (lnC a6) (h a6) x8 fun v173 => sto (lnC 26) h 26 (x5 + x8) v173 fun h174 => self x5 a6 x7 (x8 + 1) h174) else (some (x5 + x7, h))) else (some (x5 + x7, h))
def LX4_makeCommon_143 : Nat → Int → Nat → Int → Int → HP → Option (Int × HP)
  | 0 => fun _ _ _ _ _ => none
  | n + 1 => bX4_makeCommon_143 (LX4_makeCommon_143 n)
set_option maxRecDepth 20000 in
theorem tX4_makeCommon_143 {l : Launch} {D : va_G} {ad : Nat → Nat} {cI cR : ClassId} {Z : Int × HP} : ∀ (n : Nat) (x5 : Int) (a6 : Nat) (x7 : Int) (x8 : Int) (h : HP), isArr a6 = true → LX4_makeCommon_143 n x5 a6 x7 x8 h = some Z → Rn (sdC l D ad cI cR) mX4_makeCommon (ri Z) 143 [(0, .ref (ad 0)), (5, vi x5), (6, .ref (ad a6)), (7, vi x7), (8, vi x8)] [] h := by
  intro n
  induction n with
  | zero => intro x5 a6 x7 x8 h ha6 hf; cases hf
  | succ n ih =>
    intro x5 a6 x7 x8 h ha6 hf
    replace hf : bX4_makeCommon_143 (LX4_makeCommon_143 n) x5 a6 x7 x8 h = some Z := hf
    unfold bX4_makeCommon_143 at hf
    refine q_iload dX4_makeCommon_143 4 rfl ?_
    refine q_iload dX4_makeCommon_145 3 rfl ?_
    refine q_icmp_gt hf dX4_makeCommon_147 181 (by decide) (fun hf => ?_) (fun hf => ?_)
    · refine q_iload dX4_makeCommon_181 1 rfl ?_
      refine q_iload dX4_makeCommon_183 3 rfl ?_
      refine q_iadd dX4_makeCommon_185 ?_
      exact q_iret hf rfl dX4_makeCommon_186
    · refine q_iload dX4_makeCommon_150 1 rfl ?_
      refine q_iload dX4_makeCommon_152 4 rfl ?_
      refine q_iadd dX4_makeCommon_154 ?_
      refine q_bipush dX4_makeCommon_155 (by decide) ?_
      refine q_icmp_ge hf dX4_makeCommon_157 181 (by decide) (fun hf => ?_) (fun hf => ?_)
      · refine q_iload dX4_makeCommon_181 1 rfl ?_
        refine q_iload dX4_makeCommon_183 3 rfl ?_
        refine q_iadd dX4_makeCommon_185 ?_
        exact q_iret hf rfl dX4_makeCommon_186
      · refine q_aloadn dX4_makeCommon_160 0 rfl ?_
        refine C_g4_6 flX4_32 dX4_makeCommon_161 ?_
        refine q_iload dX4_makeCommon_164 1 rfl ?_
        refine q_iload dX4_makeCommon_166 4 rfl ?_
        refine q_iadd dX4_makeCommon_168 ?_
        refine q_aload dX4_makeCommon_169 2 rfl ?_
        refine q_iload dX4_makeCommon_171 4 rfl ?_
        refine C_ld hf dX4_makeCommon_173 (fun v173 hf => ?_)
        refine C_st hf dX4_makeCommon_174 (fun h174 hf => ?_)
        refine q_iinc dX4_makeCommon_175 4 rfl rfl (loc' := [(8, vi (x8 + 1)), (0, .ref (ad 0)), (5, vi x5), (6, .ref (ad a6)), (7, vi x7)]) rfl ?_
        refine q_goto dX4_makeCommon_178 143 (by decide) ?_
        refine q_loc (loc' := [(0, .ref (ad 0)), (5, vi x5), (6, .ref (ad a6)), (7, vi x7), (8, vi (x8 + 1))]) [1, 2, 3, 4, 0] rfl ?_
        exact ih x5 a6 x7 (x8 + 1) h174 ha6 hf
def jX4_makeCommon_111 (x3 : Int) (x4 : Int) (x5 : Int) (b0 : Nat) (h : HP) : Option (Int × HP) :=
  cl (fJ9_max_7cf53 x3 x4 h) fun r116 h116 => ld (lnC b0) (h116 b0) 0 fun v126 => cl (fX1_inverse v126 h116) fun r127 h127 => cl (fX2_multiply b0 r127 h127) fun _ h130 => cl (fX2_clear 26 h130) fun _ h137 => LX4_makeCommon_143 FU x5 b0 r116 0 h137
set_option maxRecDepth 20000 in
theorem tX4_makeCommon_111 {l : Launch} {D : va_G} {ad : Nat → Nat} {cI cR : ClassId} {Z : Int × HP} (x3 : Int) (x4 : Int) (x5 : Int) (b0 : Nat) (h : HP) (hb0 : isArr b0 = true) (hf : jX4_makeCommon_111 x3 x4 x5 b0 h = some Z) : Rn (sdC l D ad cI cR) mX4_makeCommon (ri Z) 111 [(0, .ref (ad 0)), (3, vi x3), (4, vi x4), (5, vi x5)] [.ref (ad b0)] h := by
  unfold jX4_makeCommon_111 at hf
  refine q_astore dX4_makeCommon_111 rfl (loc' := [(6, .ref (ad b0)), (0, .ref (ad 0)), (3, vi x3), (4, vi x4), (5, vi x5)]) rfl ?_
  refine q_iloadn dX4_makeCommon_113 2 rfl ?_
  refine q_iload dX4_makeCommon_114 3 rfl ?_
  obtain ⟨r116, h116, e116, hf⟩ := q_cl hf
  refine q_cSi (av := [vi x3, vi x4]) (rest := []) (ctJ9_max_7cf53 e116) kJ9_max_7cf53 uJ9_max_7cf53 lkX4_272 rfl rfl rfl dX4_makeCommon_116 ?_
  refine q_istore dX4_makeCommon_119 rfl (loc' := [(7, vi r116), (6, .ref (ad b0)), (0, .ref (ad 0)), (3, vi x3), (4, vi x4), (5, vi x5)]) rfl ?_
  refine q_aload dX4_makeCommon_121 1 rfl ?_
  refine q_aload dX4_makeCommon_123 1 rfl ?_
  refine q_iconst dX4_makeCommon_125 ?_
  refine C_ld hf dX4_makeCommon_126 (fun v126 hf => ?_)
  obtain ⟨r127, h127, e127, hf⟩ := q_cl hf
  refine q_cSi (av := [vi v126]) (rest := [.ref (ad b0)]) (ctX1_inverse e127) kX1_inverse uX1_inverse lkX4_249 rfl rfl rfl dX4_makeCommon_127 ?_
  obtain ⟨r130, h130, e130, hf⟩ := q_cl hf
  refine q_cSv (av := [.ref (ad b0), vi r127]) (rest := []) (ctX2_multiply hb0 e130) kX2_multiply uX2_multiply lkX4_252 rfl rfl rfl dX4_makeCommon_130 ?_
  refine q_aloadn dX4_makeCommon_133 2 rfl ?_
  refine C_g4_6 flX4_32 dX4_makeCommon_134 ?_
  obtain ⟨r137, h137, e137, hf⟩ := q_cl hf
  refine q_cSv (av := [.ref (ad 26)]) (rest := []) (ctX2_clear rfl e137) kX2_clear uX2_clear lkX4_180 rfl rfl rfl dX4_makeCommon_137 ?_
  refine q_iconst dX4_makeCommon_140 ?_
  refine q_istore dX4_makeCommon_141 rfl (loc' := [(8, vi 0), (7, vi r116), (6, .ref (ad b0)), (0, .ref (ad 0)), (3, vi x3), (4, vi x4), (5, vi x5)]) rfl ?_
  refine q_loc (loc' := [(0, .ref (ad 0)), (5, vi x5), (6, .ref (ad b0)), (7, vi r116), (8, vi 0)]) [3, 6, 2, 1, 0] rfl ?_
  exact tX4_makeCommon_143 FU x5 b0 r116 0 h137 hb0 hf
def bX4_makeCommon_34 (self : Int → Int → Int → Int → HP → Option (Int × HP)) (x3 : Int) (x4 : Int) (x5 : Int) (x6 : Int) (h : HP) : Option (Int × HP) :=
  if wi x6 < wi 18 then (if 0 ≤ wi x3 then (if 0 ≤ wi x4 then (if wi x4 ≤ wi x3 then (cl (fX2_lower 22 x3 23 x4 h) fun r67 h67 => self r67 x4 x5 (x6 + 1) h67) else (cl (fX2_lower 23 x4 22 x3 h) fun r85 h85 => self x3 r85 x5 (x6 + 1) h85)) else (if 0 ≤ wi x3 then (jX4_makeCommon_111 x3 x4 x5 22 h) else (jX4_makeCommon_111 x3 x4 x5 23 h))) else (if 0 ≤ wi x3 then (jX4_makeCommon_111 x3 x4 x5 22 h) else (jX4_makeCommon_111 x3 x4 x5 23 h))) else (if 0 ≤ wi x3 then (jX4_makeCommon_111 x3 x4 x5 22 h) else (jX4_makeCommon_111 x3 x4 x5 23 h))
def LX4_makeCommon_34 : Nat → Int → Int → Int → Int → HP → Option (Int × HP)
  | 0 => fun _ _ _ _ _ => none
  | n + 1 => bX4_makeCommon_34 (LX4_makeCommon_34 n)
set_option maxRecDepth 20000 in
theorem tX4_makeCommon_34 {l : Launch} {D : va_G} {ad : Nat → Nat} {cI cR : ClassId} {Z : Int × HP} : ∀ (n : Nat) (x3 : Int) (x4 : Int) (x5 : Int) (x6 : Int) (h : HP), LX4_makeCommon_34 n x3 x4 x5 x6 h = some Z → Rn (sdC l D ad cI cR) mX4_makeCommon (ri Z) 34 [(0, .ref (ad 0)), (3, vi x3), (4, vi x4), (5, vi x5), (6, vi x6)] [] h := by
  intro n
  induction n with
  | zero => intro x3 x4 x5 x6 h hf; cases hf
  | succ n ih =>
    intro x3 x4 x5 x6 h hf
    replace hf : bX4_makeCommon_34 (LX4_makeCommon_34 n) x3 x4 x5 x6 h = some Z := hf
    unfold bX4_makeCommon_34 at hf
    refine q_iload dX4_makeCommon_34 4 rfl ?_
    refine q_bipush dX4_makeCommon_36 (by decide) ?_
    refine q_icmp_ge hf dX4_makeCommon_38 96 (by decide) (fun hf => ?_) (fun hf => ?_)
    · refine q_iloadn dX4_makeCommon_96 1 rfl ?_
      refine q_if_lt hf dX4_makeCommon_97 107 (by decide) (fun hf => ?_) (fun hf => ?_)
      · refine q_aloadn dX4_makeCommon_107 0 rfl ?_
        refine C_g4_3 flX4_23 dX4_makeCommon_108 ?_
        refine q_loc (loc' := [(0, .ref (ad 0)), (3, vi x3), (4, vi x4), (5, vi x5)]) [0, 1, 2, 3] rfl ?_
        exact tX4_makeCommon_111 x3 x4 x5 23 h rfl hf
      · refine q_aloadn dX4_makeCommon_100 0 rfl ?_
        refine C_g4_2 flX4_19 dX4_makeCommon_101 ?_
        refine q_goto dX4_makeCommon_104 111 (by decide) ?_
        refine q_loc (loc' := [(0, .ref (ad 0)), (3, vi x3), (4, vi x4), (5, vi x5)]) [0, 1, 2, 3] rfl ?_
        exact tX4_makeCommon_111 x3 x4 x5 22 h rfl hf
    · refine q_iloadn dX4_makeCommon_41 1 rfl ?_
      refine q_if_lt hf dX4_makeCommon_42 96 (by decide) (fun hf => ?_) (fun hf => ?_)
      · refine q_iloadn dX4_makeCommon_96 1 rfl ?_
        refine q_if_lt hf dX4_makeCommon_97 107 (by decide) (fun hf => ?_) (fun hf => ?_)
        · refine q_aloadn dX4_makeCommon_107 0 rfl ?_
          refine C_g4_3 flX4_23 dX4_makeCommon_108 ?_
          refine q_loc (loc' := [(0, .ref (ad 0)), (3, vi x3), (4, vi x4), (5, vi x5)]) [0, 1, 2, 3] rfl ?_
          exact tX4_makeCommon_111 x3 x4 x5 23 h rfl hf
        · refine q_aloadn dX4_makeCommon_100 0 rfl ?_
          refine C_g4_2 flX4_19 dX4_makeCommon_101 ?_
          refine q_goto dX4_makeCommon_104 111 (by decide) ?_
          refine q_loc (loc' := [(0, .ref (ad 0)), (3, vi x3), (4, vi x4), (5, vi x5)]) [0, 1, 2, 3] rfl ?_
          exact tX4_makeCommon_111 x3 x4 x5 22 h rfl hf
      · refine q_iload dX4_makeCommon_45 2 rfl ?_
        refine q_if_lt hf dX4_makeCommon_47 96 (by decide) (fun hf => ?_) (fun hf => ?_)
        · refine q_iloadn dX4_makeCommon_96 1 rfl ?_
          refine q_if_lt hf dX4_makeCommon_97 107 (by decide) (fun hf => ?_) (fun hf => ?_)
          · refine q_aloadn dX4_makeCommon_107 0 rfl ?_
            refine C_g4_3 flX4_23 dX4_makeCommon_108 ?_
            refine q_loc (loc' := [(0, .ref (ad 0)), (3, vi x3), (4, vi x4), (5, vi x5)]) [0, 1, 2, 3] rfl ?_
            exact tX4_makeCommon_111 x3 x4 x5 23 h rfl hf
          · refine q_aloadn dX4_makeCommon_100 0 rfl ?_
            refine C_g4_2 flX4_19 dX4_makeCommon_101 ?_
            refine q_goto dX4_makeCommon_104 111 (by decide) ?_
            refine q_loc (loc' := [(0, .ref (ad 0)), (3, vi x3), (4, vi x4), (5, vi x5)]) [0, 1, 2, 3] rfl ?_
            exact tX4_makeCommon_111 x3 x4 x5 22 h rfl hf
        · refine q_iloadn dX4_makeCommon_50 1 rfl ?_
          refine q_iload dX4_makeCommon_51 2 rfl ?_
          refine q_icmp_lt hf dX4_makeCommon_53 74 (by decide) (fun hf => ?_) (fun hf => ?_)
          · refine q_aloadn dX4_makeCommon_74 0 rfl ?_
            refine C_g4_3 flX4_23 dX4_makeCommon_75 ?_
            refine q_iload dX4_makeCommon_78 2 rfl ?_
            refine q_aloadn dX4_makeCommon_80 0 rfl ?_
            refine C_g4_2 flX4_19 dX4_makeCommon_81 ?_
            refine q_iloadn dX4_makeCommon_84 1 rfl ?_
            obtain ⟨r85, h85, e85, hf⟩ := q_cl hf
            refine q_cSi (av := [.ref (ad 23), vi x4, .ref (ad 22), vi x3]) (rest := []) (ctX2_lower rfl rfl e85) kX2_lower uX2_lower lkX4_268 rfl rfl rfl dX4_makeCommon_85 ?_
            refine q_istore dX4_makeCommon_88 rfl (loc' := [(4, vi r85), (0, .ref (ad 0)), (3, vi x3), (5, vi x5), (6, vi x6)]) rfl ?_
            refine q_iinc dX4_makeCommon_90 4 rfl rfl (loc' := [(6, vi (x6 + 1)), (4, vi r85), (0, .ref (ad 0)), (3, vi x3), (5, vi x5)]) rfl ?_
            refine q_goto dX4_makeCommon_93 34 (by decide) ?_
            refine q_loc (loc' := [(0, .ref (ad 0)), (3, vi x3), (4, vi r85), (5, vi x5), (6, vi (x6 + 1))]) [2, 3, 1, 4, 0] rfl ?_
            exact ih x3 r85 x5 (x6 + 1) h85 hf
          · refine q_aloadn dX4_makeCommon_56 0 rfl ?_
            refine C_g4_2 flX4_19 dX4_makeCommon_57 ?_
            refine q_iloadn dX4_makeCommon_60 1 rfl ?_
            refine q_aloadn dX4_makeCommon_61 0 rfl ?_
            refine C_g4_3 flX4_23 dX4_makeCommon_62 ?_
            refine q_iload dX4_makeCommon_65 2 rfl ?_
            obtain ⟨r67, h67, e67, hf⟩ := q_cl hf
            refine q_cSi (av := [.ref (ad 22), vi x3, .ref (ad 23), vi x4]) (rest := []) (ctX2_lower rfl rfl e67) kX2_lower uX2_lower lkX4_268 rfl rfl rfl dX4_makeCommon_67 ?_
            refine q_istoren dX4_makeCommon_70 rfl (loc' := [(3, vi r67), (0, .ref (ad 0)), (4, vi x4), (5, vi x5), (6, vi x6)]) rfl ?_
            refine q_goto dX4_makeCommon_71 90 (by decide) ?_
            refine q_iinc dX4_makeCommon_90 4 rfl rfl (loc' := [(6, vi (x6 + 1)), (3, vi r67), (0, .ref (ad 0)), (4, vi x4), (5, vi x5)]) rfl ?_
            refine q_goto dX4_makeCommon_93 34 (by decide) ?_
            refine q_loc (loc' := [(0, .ref (ad 0)), (3, vi r67), (4, vi x4), (5, vi x5), (6, vi (x6 + 1))]) [2, 1, 3, 4, 0] rfl ?_
            exact ih r67 x4 x5 (x6 + 1) h67 hf
def fX4_makeCommon (x1 : Int) (x2 : Int) (h : HP) : Option (Int × HP) :=
  cl (fX2_strip 22 x1 h) fun r5 h5 => cl (fX2_strip 23 x2 h5) fun r14 h14 => cl (fJ9_min_7cf53 (x1 - r5) (x2 - r14) h14) fun r26 h26 => LX4_makeCommon_34 FU r5 r14 r26 0 h26
set_option maxRecDepth 20000 in
theorem ctX4_makeCommon {l : Launch} {D : va_G} {ad : Nat → Nat} {cI cR : ClassId} {x1 : Int} {x2 : Int} {h : HP} {Z : Int × HP} (hf : fX4_makeCommon x1 x2 h = some Z) : Ct (sdC l D ad cI cR) mX4_makeCommon [.ref (ad 0), vi x1, vi x2] h (ri Z) := by
  refine Ct.ofF nX4_makeCommon rfl (loc := [(0, .ref (ad 0)), (1, vi x1), (2, vi x2)]) rfl ?_
  unfold fX4_makeCommon at hf
  refine q_aloadn dX4_makeCommon_0 0 rfl ?_
  refine C_g4_2 flX4_19 dX4_makeCommon_1 ?_
  refine q_iloadn dX4_makeCommon_4 1 rfl ?_
  obtain ⟨r5, h5, e5, hf⟩ := q_cl hf
  refine q_cSi (av := [.ref (ad 22), vi x1]) (rest := []) (ctX2_strip rfl e5) kX2_strip uX2_strip lkX4_259 rfl rfl rfl dX4_makeCommon_5 ?_
  refine q_istoren dX4_makeCommon_8 rfl (loc' := [(3, vi r5), (0, .ref (ad 0)), (1, vi x1), (2, vi x2)]) rfl ?_
  refine q_aloadn dX4_makeCommon_9 1 rfl ?_
  refine C_g4_3 flX4_23 dX4_makeCommon_10 ?_
  refine q_iloadn dX4_makeCommon_13 3 rfl ?_
  obtain ⟨r14, h14, e14, hf⟩ := q_cl hf
  refine q_cSi (av := [.ref (ad 23), vi x2]) (rest := []) (ctX2_strip rfl e14) kX2_strip uX2_strip lkX4_259 rfl rfl rfl dX4_makeCommon_14 ?_
  refine q_istore dX4_makeCommon_17 rfl (loc' := [(4, vi r14), (3, vi r5), (0, .ref (ad 0)), (1, vi x1), (2, vi x2)]) rfl ?_
  refine q_iloadn dX4_makeCommon_19 3 rfl ?_
  refine q_iloadn dX4_makeCommon_20 1 rfl ?_
  refine q_isub dX4_makeCommon_21 ?_
  refine q_iloadn dX4_makeCommon_22 4 rfl ?_
  refine q_iload dX4_makeCommon_23 0 rfl ?_
  refine q_isub dX4_makeCommon_25 ?_
  obtain ⟨r26, h26, e26, hf⟩ := q_cl hf
  refine q_cSi (av := [vi (x1 - r5), vi (x2 - r14)]) (rest := []) (ctJ9_min_7cf53 e26) kJ9_min_7cf53 uJ9_min_7cf53 lkX4_263 rfl rfl rfl dX4_makeCommon_26 ?_
  refine q_istore dX4_makeCommon_29 rfl (loc' := [(5, vi r26), (4, vi r14), (3, vi r5), (0, .ref (ad 0)), (1, vi x1), (2, vi x2)]) rfl ?_
  refine q_iconst dX4_makeCommon_31 ?_
  refine q_istore dX4_makeCommon_32 rfl (loc' := [(6, vi 0), (5, vi r26), (4, vi r14), (3, vi r5), (0, .ref (ad 0)), (1, vi x1), (2, vi x2)]) rfl ?_
  refine q_loc (loc' := [(0, .ref (ad 0)), (3, vi r5), (4, vi r14), (5, vi r26), (6, vi 0)]) [4, 3, 2, 1, 0] rfl ?_
  exact tX4_makeCommon_34 FU r5 r14 r26 0 h26 hf
def fX4_common (x1 : Int) (x2 : Int) (x3 : Int) (h : HP) : Option (Int × HP) :=
  cl (fX4_noSheet x3 h) fun r1 h1 => if wi r1 = 0 then (cl (fX4_refuseRoots x1 x2 h1) fun r13 h13 => if wi r13 = 0 then (cl (fX4_load x1 22 h13) fun r32 h32 => cl (fX4_load x2 23 h32) fun r43 h43 => cl (fX4_makeCommon r32 r43 h43) fun r55 h55 => cl (fX4_keepForm x3 r55 h55) fun r58 h58 => some (r58, h58)) else (some (r13, h13))) else (some ((-2), h1))
set_option maxRecDepth 20000 in
theorem ctX4_common {l : Launch} {D : va_G} {ad : Nat → Nat} {cI cR : ClassId} {x1 : Int} {x2 : Int} {x3 : Int} {h : HP} {Z : Int × HP} (hf : fX4_common x1 x2 x3 h = some Z) : Ct (sdC l D ad cI cR) mX4_common [.ref (ad 0), vi x1, vi x2, vi x3] h (ri Z) := by
  refine Ct.ofF nX4_common rfl (loc := [(0, .ref (ad 0)), (1, vi x1), (2, vi x2), (3, vi x3)]) rfl ?_
  unfold fX4_common at hf
  refine q_iloadn dX4_common_0 3 rfl ?_
  obtain ⟨r1, h1, e1, hf⟩ := q_cl hf
  refine q_cSi (av := [vi x3]) (rest := []) (ctX4_noSheet e1) kX4_noSheet uX4_noSheet lkX4_46 rfl rfl rfl dX4_common_1 ?_
  refine q_if_eq hf dX4_common_4 10 (by decide) (fun hf => ?_) (fun hf => ?_)
  · refine q_aloadn dX4_common_10 0 rfl ?_
    refine q_iloadn dX4_common_11 1 rfl ?_
    refine q_iloadn dX4_common_12 2 rfl ?_
    obtain ⟨r13, h13, e13, hf⟩ := q_cl hf
    refine q_cVi (av := [vi x1, vi x2]) (rest := []) wC_0 (ctX4_refuseRoots e13) kX4_refuseRoots vX4_refuseRoots zX4_refuseRoots lkX4_146 rfl rfl rfl rfl rfl dX4_common_13 ?_
    refine q_istore dX4_common_16 rfl (loc' := [(4, vi r13), (0, .ref (ad 0)), (1, vi x1), (2, vi x2), (3, vi x3)]) rfl ?_
    refine q_iload dX4_common_18 0 rfl ?_
    refine q_if_eq hf dX4_common_20 26 (by decide) (fun hf => ?_) (fun hf => ?_)
    · refine q_aloadn dX4_common_26 1 rfl ?_
      refine q_iloadn dX4_common_27 2 rfl ?_
      refine q_aloadn dX4_common_28 1 rfl ?_
      refine C_g4_2 flX4_19 dX4_common_29 ?_
      obtain ⟨r32, h32, e32, hf⟩ := q_cl hf
      refine q_cVi (av := [vi x1, .ref (ad 22)]) (rest := []) wC_0 (ctX4_load rfl e32) kX4_load vX4_load zX4_load lkX4_105 rfl rfl rfl rfl rfl dX4_common_32 ?_
      refine q_istore dX4_common_35 rfl (loc' := [(5, vi r32), (4, vi r13), (0, .ref (ad 0)), (1, vi x1), (2, vi x2), (3, vi x3)]) rfl ?_
      refine q_aloadn dX4_common_37 2 rfl ?_
      refine q_iloadn dX4_common_38 4 rfl ?_
      refine q_aloadn dX4_common_39 2 rfl ?_
      refine C_g4_3 flX4_23 dX4_common_40 ?_
      obtain ⟨r43, h43, e43, hf⟩ := q_cl hf
      refine q_cVi (av := [vi x2, .ref (ad 23)]) (rest := []) wC_0 (ctX4_load rfl e43) kX4_load vX4_load zX4_load lkX4_105 rfl rfl rfl rfl rfl dX4_common_43 ?_
      refine q_istore dX4_common_46 rfl (loc' := [(6, vi r43), (5, vi r32), (4, vi r13), (0, .ref (ad 0)), (1, vi x1), (2, vi x2), (3, vi x3)]) rfl ?_
      refine q_aloadn dX4_common_48 3 rfl ?_
      refine q_iloadn dX4_common_49 6 rfl ?_
      refine q_aloadn dX4_common_50 3 rfl ?_
      refine q_iload dX4_common_51 1 rfl ?_
      refine q_iload dX4_common_53 0 rfl ?_
      obtain ⟨r55, h55, e55, hf⟩ := q_cl hf
      refine q_cVi (av := [vi r32, vi r43]) (rest := [vi x3, .ref (ad 0)]) wC_0 (ctX4_makeCommon e55) kX4_makeCommon vX4_makeCommon zX4_makeCommon lkX4_152 rfl rfl rfl rfl rfl dX4_common_55 ?_
      obtain ⟨r58, h58, e58, hf⟩ := q_cl hf
      refine q_cVi (av := [vi x3, vi r55]) (rest := []) wC_0 (ctX4_keepForm e58) kX4_keepForm vX4_keepForm zX4_keepForm lkX4_128 rfl rfl rfl rfl rfl dX4_common_58 ?_
      exact q_iret hf rfl dX4_common_61
    · refine q_iload dX4_common_23 0 rfl ?_
      exact q_iret hf rfl dX4_common_25
  · refine q_bipush dX4_common_7 (by decide) ?_
    exact q_iret hf rfl dX4_common_9
def fX4_result (x1 : Int) (x2 : Int) (h : HP) : Option (Int × HP) :=
  cl (fX4_refuseForms x1 x2 h) fun r3 h3 => if wi r3 = 0 then (cl (fX4_load x1 22 h3) fun r19 h19 => cl (fX4_load x2 23 h19) fun r30 h30 => if wi r19 = 0 then (some ((-3), h30)) else (if wi r30 = 0 then (some ((-3), h30)) else (cl (fX0_clear h30) fun _ h52 => cl (fX0_layStairs 22 r19 0 r30 h52) fun _ h68 => cl (fX0_layStairs 23 r30 r30 r19 h68) fun _ h85 => cl (fX0_determinant (r19 + r30) h85) fun r97 h97 => some (r97, h97)))) else (some (r3, h3))
set_option maxRecDepth 20000 in
theorem ctX4_result {l : Launch} {D : va_G} {ad : Nat → Nat} {cI cR : ClassId} {x1 : Int} {x2 : Int} {h : HP} {Z : Int × HP} (hf : fX4_result x1 x2 h = some Z) : Ct (sdC l D ad cI cR) mX4_result [.ref (ad 0), vi x1, vi x2] h (ri Z) := by
  refine Ct.ofF nX4_result rfl (loc := [(0, .ref (ad 0)), (1, vi x1), (2, vi x2)]) rfl ?_
  unfold fX4_result at hf
  refine q_aloadn dX4_result_0 0 rfl ?_
  refine q_iloadn dX4_result_1 1 rfl ?_
  refine q_iloadn dX4_result_2 2 rfl ?_
  obtain ⟨r3, h3, e3, hf⟩ := q_cl hf
  refine q_cVi (av := [vi x1, vi x2]) (rest := []) wC_0 (ctX4_refuseForms e3) kX4_refuseForms vX4_refuseForms zX4_refuseForms lkX4_95 rfl rfl rfl rfl rfl dX4_result_3 ?_
  refine q_istoren dX4_result_6 rfl (loc' := [(3, vi r3), (0, .ref (ad 0)), (1, vi x1), (2, vi x2)]) rfl ?_
  refine q_iloadn dX4_result_7 0 rfl ?_
  refine q_if_eq hf dX4_result_8 13 (by decide) (fun hf => ?_) (fun hf => ?_)
  · refine q_aloadn dX4_result_13 1 rfl ?_
    refine q_iloadn dX4_result_14 2 rfl ?_
    refine q_aloadn dX4_result_15 1 rfl ?_
    refine C_g4_2 flX4_19 dX4_result_16 ?_
    obtain ⟨r19, h19, e19, hf⟩ := q_cl hf
    refine q_cVi (av := [vi x1, .ref (ad 22)]) (rest := []) wC_0 (ctX4_load rfl e19) kX4_load vX4_load zX4_load lkX4_105 rfl rfl rfl rfl rfl dX4_result_19 ?_
    refine q_istore dX4_result_22 rfl (loc' := [(4, vi r19), (3, vi r3), (0, .ref (ad 0)), (1, vi x1), (2, vi x2)]) rfl ?_
    refine q_aloadn dX4_result_24 2 rfl ?_
    refine q_iloadn dX4_result_25 4 rfl ?_
    refine q_aloadn dX4_result_26 2 rfl ?_
    refine C_g4_3 flX4_23 dX4_result_27 ?_
    obtain ⟨r30, h30, e30, hf⟩ := q_cl hf
    refine q_cVi (av := [vi x2, .ref (ad 23)]) (rest := []) wC_0 (ctX4_load rfl e30) kX4_load vX4_load zX4_load lkX4_105 rfl rfl rfl rfl rfl dX4_result_30 ?_
    refine q_istore dX4_result_33 rfl (loc' := [(5, vi r30), (4, vi r19), (3, vi r3), (0, .ref (ad 0)), (1, vi x1), (2, vi x2)]) rfl ?_
    refine q_iload dX4_result_35 1 rfl ?_
    refine q_if_eq hf dX4_result_37 45 (by decide) (fun hf => ?_) (fun hf => ?_)
    · refine q_bipush dX4_result_45 (by decide) ?_
      exact q_iret hf rfl dX4_result_47
    · refine q_iload dX4_result_40 0 rfl ?_
      refine q_if_ne hf dX4_result_42 48 (by decide) (fun hf => ?_) (fun hf => ?_)
      · refine q_aloadn dX4_result_48 3 rfl ?_
        refine C_g4_7 flX4_38 dX4_result_49 ?_
        obtain ⟨r52, h52, e52, hf⟩ := q_cl hf
        refine q_cVv (av := []) (rest := []) wC_27 (ctX0_clear e52) kX0_clear vX0_clear zX0_clear lkX4_155 rfl rfl rfl rfl rfl dX4_result_52 ?_
        refine q_aloadn dX4_result_55 3 rfl ?_
        refine C_g4_7 flX4_38 dX4_result_56 ?_
        refine q_aloadn dX4_result_59 3 rfl ?_
        refine C_g4_2 flX4_19 dX4_result_60 ?_
        refine q_iload dX4_result_63 1 rfl ?_
        refine q_iconst dX4_result_65 ?_
        refine q_iload dX4_result_66 0 rfl ?_
        obtain ⟨r68, h68, e68, hf⟩ := q_cl hf
        refine q_cVv (av := [.ref (ad 22), vi r19, vi 0, vi r30]) (rest := []) wC_27 (ctX0_layStairs rfl e68) kX0_layStairs vX0_layStairs zX0_layStairs lkX4_158 rfl rfl rfl rfl rfl dX4_result_68 ?_
        refine q_aloadn dX4_result_71 3 rfl ?_
        refine C_g4_7 flX4_38 dX4_result_72 ?_
        refine q_aloadn dX4_result_75 3 rfl ?_
        refine C_g4_3 flX4_23 dX4_result_76 ?_
        refine q_iload dX4_result_79 0 rfl ?_
        refine q_iload dX4_result_81 0 rfl ?_
        refine q_iload dX4_result_83 1 rfl ?_
        obtain ⟨r85, h85, e85, hf⟩ := q_cl hf
        refine q_cVv (av := [.ref (ad 23), vi r30, vi r30, vi r19]) (rest := []) wC_27 (ctX0_layStairs rfl e85) kX0_layStairs vX0_layStairs zX0_layStairs lkX4_158 rfl rfl rfl rfl rfl dX4_result_85 ?_
        refine q_aloadn dX4_result_88 3 rfl ?_
        refine C_g4_7 flX4_38 dX4_result_89 ?_
        refine q_iload dX4_result_92 1 rfl ?_
        refine q_iload dX4_result_94 0 rfl ?_
        refine q_iadd dX4_result_96 ?_
        obtain ⟨r97, h97, e97, hf⟩ := q_cl hf
        refine q_cVi (av := [vi (r19 + r30)]) (rest := []) wC_27 (ctX0_determinant e97) kX0_determinant vX0_determinant zX0_determinant lkX4_162 rfl rfl rfl rfl rfl dX4_result_97 ?_
        exact q_iret hf rfl dX4_result_100
      · refine q_bipush dX4_result_45 (by decide) ?_
        exact q_iret hf rfl dX4_result_47
  · refine q_iloadn dX4_result_11 0 rfl ?_
    exact q_iret hf rfl dX4_result_12
def bX4_makePowers_84 (self : Int → Int → HP → Option (Int × HP)) (x3 : Int) (x4 : Int) (h : HP) : Option (Int × HP) :=
  if wi x4 < wi x3 then (cl (fX0_at x4 x3 h) fun r103 h103 => sto (lnC 26) h103 26 x4 r103 fun h106 => self x3 (x4 + 1) h106) else (some (1, h))
def LX4_makePowers_84 : Nat → Int → Int → HP → Option (Int × HP)
  | 0 => fun _ _ _ => none
  | n + 1 => bX4_makePowers_84 (LX4_makePowers_84 n)
set_option maxRecDepth 20000 in
theorem tX4_makePowers_84 {l : Launch} {D : va_G} {ad : Nat → Nat} {cI cR : ClassId} {Z : Int × HP} : ∀ (n : Nat) (x3 : Int) (x4 : Int) (h : HP), LX4_makePowers_84 n x3 x4 h = some Z → Rn (sdC l D ad cI cR) mX4_makePowers (ri Z) 84 [(0, .ref (ad 0)), (3, vi x3), (4, vi x4)] [] h := by
  intro n
  induction n with
  | zero => intro x3 x4 h hf; cases hf
  | succ n ih =>
    intro x3 x4 h hf
    replace hf : bX4_makePowers_84 (LX4_makePowers_84 n) x3 x4 h = some Z := hf
    unfold bX4_makePowers_84 at hf
    refine q_iload dX4_makePowers_84 2 rfl ?_
    refine q_iloadn dX4_makePowers_86 1 rfl ?_
    refine q_icmp_ge hf dX4_makePowers_87 113 (by decide) (fun hf => ?_) (fun hf => ?_)
    · refine q_iconst dX4_makePowers_113 ?_
      exact q_zret hf rfl rfl dX4_makePowers_114
    · refine q_aloadn dX4_makePowers_90 0 rfl ?_
      refine C_g4_6 flX4_32 dX4_makePowers_91 ?_
      refine q_iload dX4_makePowers_94 2 rfl ?_
      refine q_aloadn dX4_makePowers_96 0 rfl ?_
      refine C_g4_7 flX4_38 dX4_makePowers_97 ?_
      refine q_iload dX4_makePowers_100 2 rfl ?_
      refine q_iloadn dX4_makePowers_102 1 rfl ?_
      obtain ⟨r103, h103, e103, hf⟩ := q_cl hf
      refine q_cVi (av := [vi x4, vi x3]) (rest := [vi x4, .ref (ad 26)]) wC_27 (ctX0_at e103) kX0_at vX0_at zX0_at lkX4_279 rfl rfl rfl rfl rfl dX4_makePowers_103 ?_
      refine C_st hf dX4_makePowers_106 (fun h106 hf => ?_)
      refine q_iinc dX4_makePowers_107 2 rfl rfl (loc' := [(4, vi (x4 + 1)), (0, .ref (ad 0)), (3, vi x3)]) rfl ?_
      refine q_goto dX4_makePowers_110 84 (by decide) ?_
      refine q_loc (loc' := [(0, .ref (ad 0)), (3, vi x3), (4, vi (x4 + 1))]) [1, 2, 0] rfl ?_
      exact ih x3 (x4 + 1) h106 hf
def bX4_makePowers_47 (self : Int → Int → Int → HP → Option (Int × HP)) (x1 : Int) (x3 : Int) (x4 : Int) (h : HP) : Option (Int × HP) :=
  if wi x4 ≤ wi x1 then (cl (fX0_at x4 x3 h) fun r60 h60 => if wi r60 = 0 then (self x1 x3 (x4 + 1) h60) else (some (0, h60))) else (cl (fX2_clear 26 h) fun _ h78 => LX4_makePowers_84 FU x3 0 h78)
def LX4_makePowers_47 : Nat → Int → Int → Int → HP → Option (Int × HP)
  | 0 => fun _ _ _ _ => none
  | n + 1 => bX4_makePowers_47 (LX4_makePowers_47 n)
set_option maxRecDepth 20000 in
theorem tX4_makePowers_47 {l : Launch} {D : va_G} {ad : Nat → Nat} {cI cR : ClassId} {Z : Int × HP} : ∀ (n : Nat) (x1 : Int) (x3 : Int) (x4 : Int) (h : HP), LX4_makePowers_47 n x1 x3 x4 h = some Z → Rn (sdC l D ad cI cR) mX4_makePowers (ri Z) 47 [(0, .ref (ad 0)), (1, vi x1), (3, vi x3), (4, vi x4)] [] h := by
  intro n
  induction n with
  | zero => intro x1 x3 x4 h hf; cases hf
  | succ n ih =>
    intro x1 x3 x4 h hf
    replace hf : bX4_makePowers_47 (LX4_makePowers_47 n) x1 x3 x4 h = some Z := hf
    unfold bX4_makePowers_47 at hf
    refine q_iload dX4_makePowers_47 3 rfl ?_
    refine q_iloadn dX4_makePowers_49 1 rfl ?_
    refine q_icmp_gt hf dX4_makePowers_50 74 (by decide) (fun hf => ?_) (fun hf => ?_)
    · refine q_aloadn dX4_makePowers_74 0 rfl ?_
      refine C_g4_6 flX4_32 dX4_makePowers_75 ?_
      obtain ⟨r78, h78, e78, hf⟩ := q_cl hf
      refine q_cSv (av := [.ref (ad 26)]) (rest := []) (ctX2_clear rfl e78) kX2_clear uX2_clear lkX4_180 rfl rfl rfl dX4_makePowers_78 ?_
      refine q_iconst dX4_makePowers_81 ?_
      refine q_istore dX4_makePowers_82 rfl (loc' := [(4, vi 0), (0, .ref (ad 0)), (1, vi x1), (3, vi x3)]) rfl ?_
      refine q_loc (loc' := [(0, .ref (ad 0)), (3, vi x3), (4, vi 0)]) [1, 3, 0] rfl ?_
      exact tX4_makePowers_84 FU x3 0 h78 hf
    · refine q_aloadn dX4_makePowers_53 0 rfl ?_
      refine C_g4_7 flX4_38 dX4_makePowers_54 ?_
      refine q_iload dX4_makePowers_57 3 rfl ?_
      refine q_iloadn dX4_makePowers_59 2 rfl ?_
      obtain ⟨r60, h60, e60, hf⟩ := q_cl hf
      refine q_cVi (av := [vi x4, vi x3]) (rest := []) wC_27 (ctX0_at e60) kX0_at vX0_at zX0_at lkX4_279 rfl rfl rfl rfl rfl dX4_makePowers_60 ?_
      refine q_if_eq hf dX4_makePowers_63 68 (by decide) (fun hf => ?_) (fun hf => ?_)
      · refine q_iinc dX4_makePowers_68 3 rfl rfl (loc' := [(4, vi (x4 + 1)), (0, .ref (ad 0)), (1, vi x1), (3, vi x3)]) rfl ?_
        refine q_goto dX4_makePowers_71 47 (by decide) ?_
        refine q_loc (loc' := [(0, .ref (ad 0)), (1, vi x1), (3, vi x3), (4, vi (x4 + 1))]) [1, 2, 3, 0] rfl ?_
        exact ih x1 x3 (x4 + 1) h60 hf
      · refine q_iconst dX4_makePowers_66 ?_
        exact q_zret hf rfl rfl dX4_makePowers_67
def fX4_makePowers (x1 : Int) (a2 : Nat) (x3 : Int) (h : HP) : Option (Int × HP) :=
  cl (fX2_divideByChoices 22 x1 h) fun _ h5 => cl (fX0_clear h5) fun _ h12 => cl (fX0_layPowers a2 x3 22 x1 h12) fun _ h26 => cl (fX0_reduce (x1 + 1) (x3 + 1) x3 h26) fun r40 h40 => LX4_makePowers_47 FU x1 x3 x3 h40
set_option maxRecDepth 20000 in
theorem ctX4_makePowers {l : Launch} {D : va_G} {ad : Nat → Nat} {cI cR : ClassId} {x1 : Int} {a2 : Nat} {x3 : Int} {h : HP} {Z : Int × HP} (ha2 : isSh a2 = true) (hf : fX4_makePowers x1 a2 x3 h = some Z) : Ct (sdC l D ad cI cR) mX4_makePowers [.ref (ad 0), vi x1, .ref (ad a2), vi x3] h (ri Z) := by
  refine Ct.ofF nX4_makePowers rfl (loc := [(0, .ref (ad 0)), (1, vi x1), (2, .ref (ad a2)), (3, vi x3)]) rfl ?_
  unfold fX4_makePowers at hf
  refine q_aloadn dX4_makePowers_0 0 rfl ?_
  refine C_g4_2 flX4_19 dX4_makePowers_1 ?_
  refine q_iloadn dX4_makePowers_4 1 rfl ?_
  obtain ⟨r5, h5, e5, hf⟩ := q_cl hf
  refine q_cSv (av := [.ref (ad 22), vi x1]) (rest := []) (ctX2_divideByChoices rfl e5) kX2_divideByChoices uX2_divideByChoices lkX4_186 rfl rfl rfl dX4_makePowers_5 ?_
  refine q_aloadn dX4_makePowers_8 0 rfl ?_
  refine C_g4_7 flX4_38 dX4_makePowers_9 ?_
  obtain ⟨r12, h12, e12, hf⟩ := q_cl hf
  refine q_cVv (av := []) (rest := []) wC_27 (ctX0_clear e12) kX0_clear vX0_clear zX0_clear lkX4_155 rfl rfl rfl rfl rfl dX4_makePowers_12 ?_
  refine q_aloadn dX4_makePowers_15 0 rfl ?_
  refine C_g4_7 flX4_38 dX4_makePowers_16 ?_
  refine q_aloadn dX4_makePowers_19 2 rfl ?_
  refine q_iloadn dX4_makePowers_20 3 rfl ?_
  refine q_aloadn dX4_makePowers_21 0 rfl ?_
  refine C_g4_2 flX4_19 dX4_makePowers_22 ?_
  refine q_iloadn dX4_makePowers_25 1 rfl ?_
  obtain ⟨r26, h26, e26, hf⟩ := q_cl hf
  refine q_cVv (av := [.ref (ad a2), vi x3, .ref (ad 22), vi x1]) (rest := []) wC_27 (ctX0_layPowers ha2 rfl e26) kX0_layPowers vX0_layPowers zX0_layPowers lkX4_275 rfl rfl rfl rfl rfl dX4_makePowers_26 ?_
  refine q_aloadn dX4_makePowers_29 0 rfl ?_
  refine C_g4_7 flX4_38 dX4_makePowers_30 ?_
  refine q_iloadn dX4_makePowers_33 1 rfl ?_
  refine q_iconst dX4_makePowers_34 ?_
  refine q_iadd dX4_makePowers_35 ?_
  refine q_iloadn dX4_makePowers_36 3 rfl ?_
  refine q_iconst dX4_makePowers_37 ?_
  refine q_iadd dX4_makePowers_38 ?_
  refine q_iloadn dX4_makePowers_39 3 rfl ?_
  obtain ⟨r40, h40, e40, hf⟩ := q_cl hf
  refine q_cVi (av := [vi (x1 + 1), vi (x3 + 1), vi x3]) (rest := []) wC_27 (ctX0_reduce e40) kX0_reduce vX0_reduce zX0_reduce lkX4_193 rfl rfl rfl rfl rfl dX4_makePowers_40 ?_
  refine q_pop dX4_makePowers_43 rfl ?_
  refine q_iloadn dX4_makePowers_44 3 rfl ?_
  refine q_istore dX4_makePowers_45 rfl (loc' := [(4, vi x3), (0, .ref (ad 0)), (1, vi x1), (2, .ref (ad a2)), (3, vi x3)]) rfl ?_
  refine q_loc (loc' := [(0, .ref (ad 0)), (1, vi x1), (3, vi x3), (4, vi x3)]) [1, 2, 4, 0] rfl ?_
  exact tX4_makePowers_47 FU x1 x3 x3 h40 hf
def fX4_powers (x1 : Int) (x2 : Int) (x3 : Int) (x4 : Int) (h : HP) : Option (Int × HP) :=
  cl (fX4_noSheet x4 h) fun r2 h2 => if wi r2 = 0 then (if wi 1 ≤ wi x3 then (if wi 9 < wi x3 then (some ((-2), h2)) else (cl (fX4_refuseSheets x1 x2 h2) fun r25 h25 => if wi r25 = 0 then (lda x1 fun q43 => cl (fX3_isForm q43 h25) fun r44 h44 => if wi r44 = 0 then (some ((-3), h44)) else (lda x1 fun q56 => if wi (h44 q56 2) < wi x3 then (some ((-3), h44)) else (lda x2 fun q71 => if wi (h44 q71 2) < wi x3 then (cl (fX4_found 2 h44) fun r81 h81 => some (r81, h81)) else (cl (fX4_load x1 22 h44) fun r91 h91 => lda x2 fun q101 => cl (fX3_startsUnlike q101 x3 h91) fun r103 h103 => if wi r103 = 0 then (some ((-3), h103)) else (lda x2 fun q117 => cl (fX4_makePowers r91 q117 x3 h103) fun r119 h119 => if wi r119 = 0 then (some ((-3), h119)) else (lda x4 fun q134 => cl (fX3_become q134 26 x3 h119) fun _ h140 => some (x3, h140))))))) else (some (r25, h25)))) else (some ((-2), h2))) else (some ((-2), h2))
set_option maxRecDepth 20000 in
theorem ctX4_powers {l : Launch} {D : va_G} {ad : Nat → Nat} {cI cR : ClassId} {x1 : Int} {x2 : Int} {x3 : Int} {x4 : Int} {h : HP} {Z : Int × HP} (hf : fX4_powers x1 x2 x3 x4 h = some Z) : Ct (sdC l D ad cI cR) mX4_powers [.ref (ad 0), vi x1, vi x2, vi x3, vi x4] h (ri Z) := by
  refine Ct.ofF nX4_powers rfl (loc := [(0, .ref (ad 0)), (1, vi x1), (2, vi x2), (3, vi x3), (4, vi x4)]) rfl ?_
  unfold fX4_powers at hf
  refine q_iload dX4_powers_0 4 rfl ?_
  obtain ⟨r2, h2, e2, hf⟩ := q_cl hf
  refine q_cSi (av := [vi x4]) (rest := []) (ctX4_noSheet e2) kX4_noSheet uX4_noSheet lkX4_46 rfl rfl rfl dX4_powers_2 ?_
  refine q_if_ne hf dX4_powers_5 19 (by decide) (fun hf => ?_) (fun hf => ?_)
  · refine q_bipush dX4_powers_19 (by decide) ?_
    exact q_iret hf rfl dX4_powers_21
  · refine q_iloadn dX4_powers_8 3 rfl ?_
    refine q_iconst dX4_powers_9 ?_
    refine q_icmp_lt hf dX4_powers_10 19 (by decide) (fun hf => ?_) (fun hf => ?_)
    · refine q_bipush dX4_powers_19 (by decide) ?_
      exact q_iret hf rfl dX4_powers_21
    · refine q_iloadn dX4_powers_13 3 rfl ?_
      refine q_bipush dX4_powers_14 (by decide) ?_
      refine q_icmp_le hf dX4_powers_16 22 (by decide) (fun hf => ?_) (fun hf => ?_)
      · refine q_aloadn dX4_powers_22 0 rfl ?_
        refine q_iloadn dX4_powers_23 1 rfl ?_
        refine q_iloadn dX4_powers_24 2 rfl ?_
        obtain ⟨r25, h25, e25, hf⟩ := q_cl hf
        refine q_cVi (av := [vi x1, vi x2]) (rest := []) wC_0 (ctX4_refuseSheets e25) kX4_refuseSheets vX4_refuseSheets zX4_refuseSheets lkX4_61 rfl rfl rfl rfl rfl dX4_powers_25 ?_
        refine q_istore dX4_powers_28 rfl (loc' := [(5, vi r25), (0, .ref (ad 0)), (1, vi x1), (2, vi x2), (3, vi x3), (4, vi x4)]) rfl ?_
        refine q_iload dX4_powers_30 0 rfl ?_
        refine q_if_eq hf dX4_powers_32 38 (by decide) (fun hf => ?_) (fun hf => ?_)
        · refine q_aloadn dX4_powers_38 1 rfl ?_
          refine C_g4_0 flX4_11 dX4_powers_39 ?_
          refine q_iloadn dX4_powers_42 2 rfl ?_
          refine C_ald hf dX4_powers_43 (fun q43 p43 hf => ?_)
          obtain ⟨r44, h44, e44, hf⟩ := q_cl hf
          refine q_cVi (av := []) (rest := []) (wC_sh p43) (ctX3_isForm p43 e44) kX3_isForm vX3_isForm zX3_isForm lkX4_165 rfl rfl rfl rfl rfl dX4_powers_44 ?_
          refine q_if_eq hf dX4_powers_47 63 (by decide) (fun hf => ?_) (fun hf => ?_)
          · refine q_bipush dX4_powers_63 (by decide) ?_
            exact q_iret hf rfl dX4_powers_65
          · refine q_iloadn dX4_powers_50 4 rfl ?_
            refine q_aloadn dX4_powers_51 1 rfl ?_
            refine C_g4_0 flX4_11 dX4_powers_52 ?_
            refine q_iloadn dX4_powers_55 2 rfl ?_
            refine C_ald hf dX4_powers_56 (fun q56 p56 hf => ?_)
            refine C_g3_2 p56 flX4_65 dX4_powers_57 ?_
            refine q_icmp_le hf dX4_powers_60 66 (by decide) (fun hf => ?_) (fun hf => ?_)
            · refine q_aloadn dX4_powers_66 1 rfl ?_
              refine C_g4_0 flX4_11 dX4_powers_67 ?_
              refine q_iloadn dX4_powers_70 3 rfl ?_
              refine C_ald hf dX4_powers_71 (fun q71 p71 hf => ?_)
              refine C_g3_2 p71 flX4_65 dX4_powers_72 ?_
              refine q_iloadn dX4_powers_75 4 rfl ?_
              refine q_icmp_ge hf dX4_powers_76 85 (by decide) (fun hf => ?_) (fun hf => ?_)
              · refine q_aloadn dX4_powers_85 1 rfl ?_
                refine q_iloadn dX4_powers_86 2 rfl ?_
                refine q_aloadn dX4_powers_87 1 rfl ?_
                refine C_g4_2 flX4_19 dX4_powers_88 ?_
                obtain ⟨r91, h91, e91, hf⟩ := q_cl hf
                refine q_cVi (av := [vi x1, .ref (ad 22)]) (rest := []) wC_0 (ctX4_load rfl e91) kX4_load vX4_load zX4_load lkX4_105 rfl rfl rfl rfl rfl dX4_powers_91 ?_
                refine q_istore dX4_powers_94 rfl (loc' := [(6, vi r91), (5, vi r25), (0, .ref (ad 0)), (1, vi x1), (2, vi x2), (3, vi x3), (4, vi x4)]) rfl ?_
                refine q_aloadn dX4_powers_96 2 rfl ?_
                refine C_g4_0 flX4_11 dX4_powers_97 ?_
                refine q_iloadn dX4_powers_100 4 rfl ?_
                refine C_ald hf dX4_powers_101 (fun q101 p101 hf => ?_)
                refine q_iloadn dX4_powers_102 5 rfl ?_
                obtain ⟨r103, h103, e103, hf⟩ := q_cl hf
                refine q_cVi (av := [vi x3]) (rest := []) (wC_sh p101) (ctX3_startsUnlike p101 e103) kX3_startsUnlike vX3_startsUnlike zX3_startsUnlike lkX4_169 rfl rfl rfl rfl rfl dX4_powers_103 ?_
                refine q_if_eq hf dX4_powers_106 125 (by decide) (fun hf => ?_) (fun hf => ?_)
                · refine q_bipush dX4_powers_125 (by decide) ?_
                  exact q_iret hf rfl dX4_powers_127
                · refine q_aloadn dX4_powers_109 2 rfl ?_
                  refine q_iload dX4_powers_110 0 rfl ?_
                  refine q_aloadn dX4_powers_112 2 rfl ?_
                  refine C_g4_0 flX4_11 dX4_powers_113 ?_
                  refine q_iloadn dX4_powers_116 4 rfl ?_
                  refine C_ald hf dX4_powers_117 (fun q117 p117 hf => ?_)
                  refine q_iloadn dX4_powers_118 5 rfl ?_
                  obtain ⟨r119, h119, e119, hf⟩ := q_cl hf
                  refine q_cVi (av := [vi r91, .ref (ad q117), vi x3]) (rest := []) wC_0 (ctX4_makePowers p117 e119) kX4_makePowers vX4_makePowers zX4_makePowers lkX4_172 rfl rfl rfl rfl rfl dX4_powers_119 ?_
                  refine q_if_ne hf dX4_powers_122 128 (by decide) (fun hf => ?_) (fun hf => ?_)
                  · refine q_aloadn dX4_powers_128 2 rfl ?_
                    refine C_g4_0 flX4_11 dX4_powers_129 ?_
                    refine q_iload dX4_powers_132 6 rfl ?_
                    refine C_ald hf dX4_powers_134 (fun q134 p134 hf => ?_)
                    refine q_aloadn dX4_powers_135 2 rfl ?_
                    refine C_g4_6 flX4_32 dX4_powers_136 ?_
                    refine q_iloadn dX4_powers_139 5 rfl ?_
                    obtain ⟨r140, h140, e140, hf⟩ := q_cl hf
                    refine q_cVv (av := [.ref (ad 26), vi x3]) (rest := []) (wC_sh p134) (ctX3_become p134 rfl e140) kX3_become vX3_become zX3_become lkX4_176 rfl rfl rfl rfl rfl dX4_powers_140 ?_
                    refine q_iloadn dX4_powers_143 5 rfl ?_
                    exact q_iret hf rfl dX4_powers_144
                  · refine q_bipush dX4_powers_125 (by decide) ?_
                    exact q_iret hf rfl dX4_powers_127
              · refine q_aloadn dX4_powers_79 1 rfl ?_
                refine q_iconst dX4_powers_80 ?_
                obtain ⟨r81, h81, e81, hf⟩ := q_cl hf
                refine q_cVi (av := [vi 2]) (rest := []) wC_0 (ctX4_found e81) kX4_found vX4_found zX4_found lkX4_53 rfl rfl rfl rfl rfl dX4_powers_81 ?_
                exact q_iret hf rfl dX4_powers_84
            · refine q_bipush dX4_powers_63 (by decide) ?_
              exact q_iret hf rfl dX4_powers_65
        · refine q_iload dX4_powers_35 0 rfl ?_
          exact q_iret hf rfl dX4_powers_37
      · refine q_bipush dX4_powers_19 (by decide) ?_
        exact q_iret hf rfl dX4_powers_21
