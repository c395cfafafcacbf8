def bX4_build_91 (self : Int → Int → Int → Int → Int → Int → HP → Option (Int × HP)) (x1 : Int) (x2 : Int) (x3 : Int) (x4 : Int) (x5 : Int) (x7 : Int) (h : HP) : Option (Int × HP) :=
  if wi x7 < wi x3 then (lda x1 fun q108 => cl (fX3_number q108 x7 h) fun r111 h111 => lda x2 fun q119 => cl (fX3_number q119 x7 h111) fun r122 h122 => cl (fX2_addPower 26 x4 r111 r122 h122) fun _ h125 => self x1 x2 x3 x4 x5 (x7 + 1) h125) else (cl (fX4_keepForm x5 x4 h) fun r139 h139 => some (r139, h139))
def LX4_build_91 : Nat → Int → Int → Int → Int → Int → Int → HP → Option (Int × HP)
  | 0 => fun _ _ _ _ _ _ _ => none
  | n + 1 => bX4_build_91 (LX4_build_91 n)
set_option maxRecDepth 20000 in
theorem tX4_build_91 {l : Launch} {D : va_G} {ad : Nat → Nat} {cI cR : ClassId} {Z : Int × HP} : ∀ (n : Nat) (x1 : Int) (x2 : Int) (x3 : Int) (x4 : Int) (x5 : Int) (x7 : Int) (h : HP), LX4_build_91 n x1 x2 x3 x4 x5 x7 h = some Z → Rn (sdC l D ad cI cR) mX4_build (ri Z) 91 [(0, .ref (ad 0)), (1, vi x1), (2, vi x2), (3, vi x3), (4, vi x4), (5, vi x5), (7, vi x7)] [] h := by
  intro n
  induction n with
  | zero => intro x1 x2 x3 x4 x5 x7 h hf; cases hf
  | succ n ih =>
    intro x1 x2 x3 x4 x5 x7 h hf
    replace hf : bX4_build_91 (LX4_build_91 n) x1 x2 x3 x4 x5 x7 h = some Z := hf
    unfold bX4_build_91 at hf
    refine q_iload dX4_build_91 6 rfl ?_
    refine q_iloadn dX4_build_93 3 rfl ?_
    refine q_icmp_ge hf dX4_build_94 134 (by decide) (fun hf => ?_) (fun hf => ?_)
    · refine q_aloadn dX4_build_134 0 rfl ?_
      refine q_iload dX4_build_135 5 rfl ?_
      refine q_iload dX4_build_137 4 rfl ?_
      obtain ⟨r139, h139, e139, hf⟩ := q_cl hf
      refine q_cVi (av := [vi x5, vi x4]) (rest := []) wC_0 (ctX4_keepForm e139) kX4_keepForm vX4_keepForm zX4_keepForm lkX4_128 rfl rfl rfl rfl rfl dX4_build_139 ?_
      exact q_iret hf rfl dX4_build_142
    · refine q_aloadn dX4_build_97 0 rfl ?_
      refine C_g4_6 flX4_32 dX4_build_98 ?_
      refine q_iload dX4_build_101 4 rfl ?_
      refine q_aloadn dX4_build_103 0 rfl ?_
      refine C_g4_0 flX4_11 dX4_build_104 ?_
      refine q_iloadn dX4_build_107 1 rfl ?_
      refine C_ald hf dX4_build_108 (fun q108 p108 hf => ?_)
      refine q_iload dX4_build_109 6 rfl ?_
      obtain ⟨r111, h111, e111, hf⟩ := q_cl hf
      refine q_cVi (av := [vi x7]) (rest := [vi x4, .ref (ad 26)]) (wC_sh p108) (ctX3_number p108 e111) kX3_number vX3_number zX3_number lkX4_98 rfl rfl rfl rfl rfl dX4_build_111 ?_
      refine q_aloadn dX4_build_114 0 rfl ?_
      refine C_g4_0 flX4_11 dX4_build_115 ?_
      refine q_iloadn dX4_build_118 2 rfl ?_
      refine C_ald hf dX4_build_119 (fun q119 p119 hf => ?_)
      refine q_iload dX4_build_120 6 rfl ?_
      obtain ⟨r122, h122, e122, hf⟩ := q_cl hf
      refine q_cVi (av := [vi x7]) (rest := [vi r111, vi x4, .ref (ad 26)]) (wC_sh p119) (ctX3_number p119 e122) kX3_number vX3_number zX3_number lkX4_98 rfl rfl rfl rfl rfl dX4_build_122 ?_
      obtain ⟨r125, h125, e125, hf⟩ := q_cl hf
      refine q_cSv (av := [.ref (ad 26), vi x4, vi r111, vi r122]) (rest := []) (ctX2_addPower rfl e125) kX2_addPower uX2_addPower lkX4_183 rfl rfl rfl dX4_build_125 ?_
      refine q_iinc dX4_build_128 6 rfl rfl (loc' := [(7, vi (x7 + 1)), (0, .ref (ad 0)), (1, vi x1), (2, vi x2), (3, vi x3), (4, vi x4), (5, vi x5)]) rfl ?_
      refine q_goto dX4_build_131 91 (by decide) ?_
      refine q_loc (loc' := [(0, .ref (ad 0)), (1, vi x1), (2, vi x2), (3, vi x3), (4, vi x4), (5, vi x5), (7, vi (x7 + 1))]) [1, 2, 3, 4, 5, 6, 0] rfl ?_
      exact ih x1 x2 x3 x4 x5 (x7 + 1) h125 hf
def fX4_build (x1 : Int) (x2 : Int) (x3 : Int) (x4 : Int) (x5 : Int) (h : HP) : Option (Int × HP) :=
  cl (fX4_noSheet x5 h) fun r2 h2 => if wi r2 = 0 then (if 0 ≤ wi x3 then (if wi x3 ≤ wi 12 then (if 0 ≤ wi x4 then (if wi 8 < wi x4 then (some ((-2), h2)) else (cl (fX4_refuseSheets x1 x2 h2) fun r36 h36 => if wi r36 = 0 then (lda x1 fun q54 => if wi x3 ≤ wi (h36 q54 2) then (lda x2 fun q67 => if wi (h36 q67 2) < wi x3 then (cl (fX4_found 2 h36) fun r77 h77 => some (r77, h77)) else (cl (fX2_clear 26 h36) fun _ h85 => LX4_build_91 FU x1 x2 x3 x4 x5 0 h85)) else (cl (fX4_found 2 h36) fun r77 h77 => some (r77, h77))) else (some (r36, h36)))) else (some ((-2), h2))) else (some ((-2), h2))) else (some ((-2), h2))) else (some ((-2), h2))
set_option maxRecDepth 20000 in
theorem ctX4_build {l : Launch} {D : va_G} {ad : Nat → Nat} {cI cR : ClassId} {x1 : Int} {x2 : Int} {x3 : Int} {x4 : Int} {x5 : Int} {h : HP} {Z : Int × HP} (hf : fX4_build x1 x2 x3 x4 x5 h = some Z) : Ct (sdC l D ad cI cR) mX4_build [.ref (ad 0), vi x1, vi x2, vi x3, vi x4, vi x5] h (ri Z) := by
  refine Ct.ofF nX4_build rfl (loc := [(0, .ref (ad 0)), (1, vi x1), (2, vi x2), (3, vi x3), (4, vi x4), (5, vi x5)]) rfl ?_
  unfold fX4_build at hf
  refine q_iload dX4_build_0 5 rfl ?_
  obtain ⟨r2, h2, e2, hf⟩ := q_cl hf
  refine q_cSi (av := [vi x5]) (rest := []) (ctX4_noSheet e2) kX4_noSheet uX4_noSheet lkX4_46 rfl rfl rfl dX4_build_2 ?_
  refine q_if_ne hf dX4_build_5 30 (by decide) (fun hf => ?_) (fun hf => ?_)
  · refine q_bipush dX4_build_30 (by decide) ?_
    exact q_iret hf rfl dX4_build_32
  · refine q_iloadn dX4_build_8 3 rfl ?_
    refine q_if_lt hf dX4_build_9 30 (by decide) (fun hf => ?_) (fun hf => ?_)
    · refine q_bipush dX4_build_30 (by decide) ?_
      exact q_iret hf rfl dX4_build_32
    · refine q_iloadn dX4_build_12 3 rfl ?_
      refine q_bipush dX4_build_13 (by decide) ?_
      refine q_icmp_gt hf dX4_build_15 30 (by decide) (fun hf => ?_) (fun hf => ?_)
      · refine q_bipush dX4_build_30 (by decide) ?_
        exact q_iret hf rfl dX4_build_32
      · refine q_iload dX4_build_18 4 rfl ?_
        refine q_if_lt hf dX4_build_20 30 (by decide) (fun hf => ?_) (fun hf => ?_)
        · refine q_bipush dX4_build_30 (by decide) ?_
          exact q_iret hf rfl dX4_build_32
        · refine q_iload dX4_build_23 4 rfl ?_
          refine q_bipush dX4_build_25 (by decide) ?_
          refine q_icmp_le hf dX4_build_27 33 (by decide) (fun hf => ?_) (fun hf => ?_)
          · refine q_aloadn dX4_build_33 0 rfl ?_
            refine q_iloadn dX4_build_34 1 rfl ?_
            refine q_iloadn dX4_build_35 2 rfl ?_
            obtain ⟨r36, h36, e36, hf⟩ := q_cl hf
            refine q_cVi (av := [vi x1, vi x2]) (rest := []) wC_0 (ctX4_refuseSheets e36) kX4_refuseSheets vX4_refuseSheets zX4_refuseSheets lkX4_61 rfl rfl rfl rfl rfl dX4_build_36 ?_
            refine q_istore dX4_build_39 rfl (loc' := [(6, vi r36), (0, .ref (ad 0)), (1, vi x1), (2, vi x2), (3, vi x3), (4, vi x4), (5, vi x5)]) rfl ?_
            refine q_iload dX4_build_41 0 rfl ?_
            refine q_if_eq hf dX4_build_43 49 (by decide) (fun hf => ?_) (fun hf => ?_)
            · refine q_aloadn dX4_build_49 1 rfl ?_
              refine C_g4_0 flX4_11 dX4_build_50 ?_
              refine q_iloadn dX4_build_53 2 rfl ?_
              refine C_ald hf dX4_build_54 (fun q54 p54 hf => ?_)
              refine C_g3_2 p54 flX4_65 dX4_build_55 ?_
              refine q_iloadn dX4_build_58 4 rfl ?_
              refine q_icmp_lt hf dX4_build_59 75 (by decide) (fun hf => ?_) (fun hf => ?_)
              · refine q_aloadn dX4_build_75 1 rfl ?_
                refine q_iconst dX4_build_76 ?_
                obtain ⟨r77, h77, e77, hf⟩ := q_cl hf
                refine q_cVi (av := [vi 2]) (rest := []) wC_0 (ctX4_found e77) kX4_found vX4_found zX4_found lkX4_53 rfl rfl rfl rfl rfl dX4_build_77 ?_
                exact q_iret hf rfl dX4_build_80
              · refine q_aloadn dX4_build_62 1 rfl ?_
                refine C_g4_0 flX4_11 dX4_build_63 ?_
                refine q_iloadn dX4_build_66 3 rfl ?_
                refine C_ald hf dX4_build_67 (fun q67 p67 hf => ?_)
                refine C_g3_2 p67 flX4_65 dX4_build_68 ?_
                refine q_iloadn dX4_build_71 4 rfl ?_
                refine q_icmp_ge hf dX4_build_72 81 (by decide) (fun hf => ?_) (fun hf => ?_)
                · refine q_aloadn dX4_build_81 1 rfl ?_
                  refine C_g4_6 flX4_32 dX4_build_82 ?_
                  obtain ⟨r85, h85, e85, hf⟩ := q_cl hf
                  refine q_cSv (av := [.ref (ad 26)]) (rest := []) (ctX2_clear rfl e85) kX2_clear uX2_clear lkX4_180 rfl rfl rfl dX4_build_85 ?_
                  refine q_iconst dX4_build_88 ?_
                  refine q_istore dX4_build_89 rfl (loc' := [(7, vi 0), (6, vi r36), (0, .ref (ad 0)), (1, vi x1), (2, vi x2), (3, vi x3), (4, vi x4), (5, vi x5)]) rfl ?_
                  refine q_loc (loc' := [(0, .ref (ad 0)), (1, vi x1), (2, vi x2), (3, vi x3), (4, vi x4), (5, vi x5), (7, vi 0)]) [2, 3, 4, 5, 6, 7, 0] rfl ?_
                  exact tX4_build_91 FU x1 x2 x3 x4 x5 0 h85 hf
                · refine q_aloadn dX4_build_75 1 rfl ?_
                  refine q_iconst dX4_build_76 ?_
                  obtain ⟨r77, h77, e77, hf⟩ := q_cl hf
                  refine q_cVi (av := [vi 2]) (rest := []) wC_0 (ctX4_found e77) kX4_found vX4_found zX4_found lkX4_53 rfl rfl rfl rfl rfl dX4_build_77 ?_
                  exact q_iret hf rfl dX4_build_80
            · refine q_iload dX4_build_46 0 rfl ?_
              exact q_iret hf rfl dX4_build_48
          · refine q_bipush dX4_build_30 (by decide) ?_
            exact q_iret hf rfl dX4_build_32
def fX4_rank (x1 : Int) (x2 : Int) (h : HP) : Option (Int × HP) :=
  if wi x2 < 0 then (some ((-2), h)) else (cl (fX4_refuseForms x1 x1 h) fun r10 h10 => if wi r10 = 0 then (cl (fX4_load x1 22 h10) fun r26 h26 => if wi r26 < wi x2 then (some ((-3), h26)) else (cl (fX2_divideByChoices 22 r26 h26) fun _ h46 => cl (fX0_clear h46) fun _ h53 => cl (fX0_laySquare 22 r26 x2 h53) fun _ h67 => cl (fX0_reduce (x2 + 1) ((r26 - x2) + 1) ((r26 - x2) + 1) h67) fun r89 h89 => some (r89, h89))) else (some (r10, h10)))
set_option maxRecDepth 20000 in
theorem ctX4_rank {l : Launch} {D : va_G} {ad : Nat → Nat} {cI cR : ClassId} {x1 : Int} {x2 : Int} {h : HP} {Z : Int × HP} (hf : fX4_rank x1 x2 h = some Z) : Ct (sdC l D ad cI cR) mX4_rank [.ref (ad 0), vi x1, vi x2] h (ri Z) := by
  refine Ct.ofF nX4_rank rfl (loc := [(0, .ref (ad 0)), (1, vi x1), (2, vi x2)]) rfl ?_
  unfold fX4_rank at hf
  refine q_iloadn dX4_rank_0 2 rfl ?_
  refine q_if_ge hf dX4_rank_1 7 (by decide) (fun hf => ?_) (fun hf => ?_)
  · refine q_aloadn dX4_rank_7 0 rfl ?_
    refine q_iloadn dX4_rank_8 1 rfl ?_
    refine q_iloadn dX4_rank_9 1 rfl ?_
    obtain ⟨r10, h10, e10, hf⟩ := q_cl hf
    refine q_cVi (av := [vi x1, vi x1]) (rest := []) wC_0 (ctX4_refuseForms e10) kX4_refuseForms vX4_refuseForms zX4_refuseForms lkX4_95 rfl rfl rfl rfl rfl dX4_rank_10 ?_
    refine q_istoren dX4_rank_13 rfl (loc' := [(3, vi r10), (0, .ref (ad 0)), (1, vi x1), (2, vi x2)]) rfl ?_
    refine q_iloadn dX4_rank_14 0 rfl ?_
    refine q_if_eq hf dX4_rank_15 20 (by decide) (fun hf => ?_) (fun hf => ?_)
    · refine q_aloadn dX4_rank_20 1 rfl ?_
      refine q_iloadn dX4_rank_21 2 rfl ?_
      refine q_aloadn dX4_rank_22 1 rfl ?_
      refine C_g4_2 flX4_19 dX4_rank_23 ?_
      obtain ⟨r26, h26, e26, hf⟩ := q_cl hf
      refine q_cVi (av := [vi x1, .ref (ad 22)]) (rest := []) wC_0 (ctX4_load rfl e26) kX4_load vX4_load zX4_load lkX4_105 rfl rfl rfl rfl rfl dX4_rank_26 ?_
      refine q_istore dX4_rank_29 rfl (loc' := [(4, vi r26), (3, vi r10), (0, .ref (ad 0)), (1, vi x1), (2, vi x2)]) rfl ?_
      refine q_iloadn dX4_rank_31 4 rfl ?_
      refine q_iload dX4_rank_32 0 rfl ?_
      refine q_icmp_le hf dX4_rank_34 40 (by decide) (fun hf => ?_) (fun hf => ?_)
      · refine q_aloadn dX4_rank_40 2 rfl ?_
        refine C_g4_2 flX4_19 dX4_rank_41 ?_
        refine q_iload dX4_rank_44 0 rfl ?_
        obtain ⟨r46, h46, e46, hf⟩ := q_cl hf
        refine q_cSv (av := [.ref (ad 22), vi r26]) (rest := []) (ctX2_divideByChoices rfl e46) kX2_divideByChoices uX2_divideByChoices lkX4_186 rfl rfl rfl dX4_rank_46 ?_
        refine q_aloadn dX4_rank_49 2 rfl ?_
        refine C_g4_7 flX4_38 dX4_rank_50 ?_
        obtain ⟨r53, h53, e53, hf⟩ := q_cl hf
        refine q_cVv (av := []) (rest := []) wC_27 (ctX0_clear e53) kX0_clear vX0_clear zX0_clear lkX4_155 rfl rfl rfl rfl rfl dX4_rank_53 ?_
        refine q_aloadn dX4_rank_56 2 rfl ?_
        refine C_g4_7 flX4_38 dX4_rank_57 ?_
        refine q_aloadn dX4_rank_60 2 rfl ?_
        refine C_g4_2 flX4_19 dX4_rank_61 ?_
        refine q_iload dX4_rank_64 0 rfl ?_
        refine q_iloadn dX4_rank_66 4 rfl ?_
        obtain ⟨r67, h67, e67, hf⟩ := q_cl hf
        refine q_cVv (av := [.ref (ad 22), vi r26, vi x2]) (rest := []) wC_27 (ctX0_laySquare rfl e67) kX0_laySquare vX0_laySquare zX0_laySquare lkX4_189 rfl rfl rfl rfl rfl dX4_rank_67 ?_
        refine q_aloadn dX4_rank_70 2 rfl ?_
        refine C_g4_7 flX4_38 dX4_rank_71 ?_
        refine q_iloadn dX4_rank_74 4 rfl ?_
        refine q_iconst dX4_rank_75 ?_
        refine q_iadd dX4_rank_76 ?_
        refine q_iload dX4_rank_77 0 rfl ?_
        refine q_iloadn dX4_rank_79 4 rfl ?_
        refine q_isub dX4_rank_80 ?_
        refine q_iconst dX4_rank_81 ?_
        refine q_iadd dX4_rank_82 ?_
        refine q_iload dX4_rank_83 0 rfl ?_
        refine q_iloadn dX4_rank_85 4 rfl ?_
        refine q_isub dX4_rank_86 ?_
        refine q_iconst dX4_rank_87 ?_
        refine q_iadd dX4_rank_88 ?_
        obtain ⟨r89, h89, e89, hf⟩ := q_cl hf
        refine q_cVi (av := [vi (x2 + 1), vi ((r26 - x2) + 1), vi ((r26 - x2) + 1)]) (rest := []) wC_27 (ctX0_reduce e89) kX0_reduce vX0_reduce zX0_reduce lkX4_193 rfl rfl rfl rfl rfl dX4_rank_89 ?_
        exact q_iret hf rfl dX4_rank_92
      · refine q_bipush dX4_rank_37 (by decide) ?_
        exact q_iret hf rfl dX4_rank_39
    · refine q_iloadn dX4_rank_18 0 rfl ?_
      exact q_iret hf rfl dX4_rank_19
  · refine q_bipush dX4_rank_4 (by decide) ?_
    exact q_iret hf rfl dX4_rank_6
def fX4_refuseLeads (x1 : Int) (x2 : Int) (x3 : Int) (h : HP) : Option (Int × HP) :=
  if wi 1 ≤ wi x3 then (if wi 2 < wi x3 then (some ((-2), h)) else (cl (fX4_refuseForms x1 x2 h) fun r16 h16 => if wi r16 = 0 then (lda x1 fun q34 => lda x2 fun q43 => if wi (h16 q34 2) = wi (h16 q43 2) then (some (0, h16)) else (some ((-3), h16))) else (some (r16, h16)))) else (some ((-2), h))
set_option maxRecDepth 20000 in
theorem ctX4_refuseLeads {l : Launch} {D : va_G} {ad : Nat → Nat} {cI cR : ClassId} {x1 : Int} {x2 : Int} {x3 : Int} {h : HP} {Z : Int × HP} (hf : fX4_refuseLeads x1 x2 x3 h = some Z) : Ct (sdC l D ad cI cR) mX4_refuseLeads [.ref (ad 0), vi x1, vi x2, vi x3] h (ri Z) := by
  refine Ct.ofF nX4_refuseLeads rfl (loc := [(0, .ref (ad 0)), (1, vi x1), (2, vi x2), (3, vi x3)]) rfl ?_
  unfold fX4_refuseLeads at hf
  refine q_iloadn dX4_refuseLeads_0 3 rfl ?_
  refine q_iconst dX4_refuseLeads_1 ?_
  refine q_icmp_lt hf dX4_refuseLeads_2 10 (by decide) (fun hf => ?_) (fun hf => ?_)
  · refine q_bipush dX4_refuseLeads_10 (by decide) ?_
    exact q_iret hf rfl dX4_refuseLeads_12
  · refine q_iloadn dX4_refuseLeads_5 3 rfl ?_
    refine q_iconst dX4_refuseLeads_6 ?_
    refine q_icmp_le hf dX4_refuseLeads_7 13 (by decide) (fun hf => ?_) (fun hf => ?_)
    · refine q_aloadn dX4_refuseLeads_13 0 rfl ?_
      refine q_iloadn dX4_refuseLeads_14 1 rfl ?_
      refine q_iloadn dX4_refuseLeads_15 2 rfl ?_
      obtain ⟨r16, h16, e16, hf⟩ := q_cl hf
      refine q_cVi (av := [vi x1, vi x2]) (rest := []) wC_0 (ctX4_refuseForms e16) kX4_refuseForms vX4_refuseForms zX4_refuseForms lkX4_95 rfl rfl rfl rfl rfl dX4_refuseLeads_16 ?_
      refine q_istore dX4_refuseLeads_19 rfl (loc' := [(4, vi r16), (0, .ref (ad 0)), (1, vi x1), (2, vi x2), (3, vi x3)]) rfl ?_
      refine q_iload dX4_refuseLeads_21 0 rfl ?_
      refine q_if_eq hf dX4_refuseLeads_23 29 (by decide) (fun hf => ?_) (fun hf => ?_)
      · refine q_aloadn dX4_refuseLeads_29 1 rfl ?_
        refine C_g4_0 flX4_11 dX4_refuseLeads_30 ?_
        refine q_iloadn dX4_refuseLeads_33 2 rfl ?_
        refine C_ald hf dX4_refuseLeads_34 (fun q34 p34 hf => ?_)
        refine C_g3_2 p34 flX4_65 dX4_refuseLeads_35 ?_
        refine q_aloadn dX4_refuseLeads_38 1 rfl ?_
        refine C_g4_0 flX4_11 dX4_refuseLeads_39 ?_
        refine q_iloadn dX4_refuseLeads_42 3 rfl ?_
        refine C_ald hf dX4_refuseLeads_43 (fun q43 p43 hf => ?_)
        refine C_g3_2 p43 flX4_65 dX4_refuseLeads_44 ?_
        refine q_icmp_ne hf dX4_refuseLeads_47 54 (by decide) (fun hf => ?_) (fun hf => ?_)
        · refine q_bipush dX4_refuseLeads_54 (by decide) ?_
          exact q_iret hf rfl dX4_refuseLeads_56
        · refine q_iconst dX4_refuseLeads_50 ?_
          refine q_goto dX4_refuseLeads_51 56 (by decide) ?_
          exact q_iret hf rfl dX4_refuseLeads_56
      · refine q_iload dX4_refuseLeads_26 0 rfl ?_
        exact q_iret hf rfl dX4_refuseLeads_28
    · refine q_bipush dX4_refuseLeads_10 (by decide) ?_
      exact q_iret hf rfl dX4_refuseLeads_12
def bX4_loadLeads_23 (self : Int → Int → HP → Option (Int × HP)) (x3 : Int) (x4 : Int) (h : HP) : Option (Int × HP) :=
  if wi x4 ≤ wi x3 then (cl (fX2_valueAtPlace 23 x3 x4 h) fun r42 h42 => sto (lnC 24) h42 24 x4 r42 fun h45 => self x3 (x4 + 1) h45) else (some (x3, h))
def LX4_loadLeads_23 : Nat → Int → Int → HP → Option (Int × HP)
  | 0 => fun _ _ _ => none
  | n + 1 => bX4_loadLeads_23 (LX4_loadLeads_23 n)
set_option maxRecDepth 20000 in
theorem tX4_loadLeads_23 {l : Launch} {D : va_G} {ad : Nat → Nat} {cI cR : ClassId} {Z : Int × HP} : ∀ (n : Nat) (x3 : Int) (x4 : Int) (h : HP), LX4_loadLeads_23 n x3 x4 h = some Z → Rn (sdC l D ad cI cR) mX4_loadLeads (ri Z) 23 [(0, .ref (ad 0)), (3, vi x3), (4, vi x4)] [] h := by
  intro n
  induction n with
  | zero => intro x3 x4 h hf; cases hf
  | succ n ih =>
    intro x3 x4 h hf
    replace hf : bX4_loadLeads_23 (LX4_loadLeads_23 n) x3 x4 h = some Z := hf
    unfold bX4_loadLeads_23 at hf
    refine q_iload dX4_loadLeads_23 2 rfl ?_
    refine q_iloadn dX4_loadLeads_25 1 rfl ?_
    refine q_icmp_gt hf dX4_loadLeads_26 52 (by decide) (fun hf => ?_) (fun hf => ?_)
    · refine q_iloadn dX4_loadLeads_52 1 rfl ?_
      exact q_iret hf rfl dX4_loadLeads_53
    · refine q_aloadn dX4_loadLeads_29 0 rfl ?_
      refine C_g4_4 flX4_26 dX4_loadLeads_30 ?_
      refine q_iload dX4_loadLeads_33 2 rfl ?_
      refine q_aloadn dX4_loadLeads_35 0 rfl ?_
      refine C_g4_3 flX4_23 dX4_loadLeads_36 ?_
      refine q_iloadn dX4_loadLeads_39 1 rfl ?_
      refine q_iload dX4_loadLeads_40 2 rfl ?_
      obtain ⟨r42, h42, e42, hf⟩ := q_cl hf
      refine q_cSi (av := [.ref (ad 23), vi x3, vi x4]) (rest := [vi x4, .ref (ad 24)]) (ctX2_valueAtPlace rfl e42) kX2_valueAtPlace uX2_valueAtPlace lkX4_255 rfl rfl rfl dX4_loadLeads_42 ?_
      refine C_st hf dX4_loadLeads_45 (fun h45 hf => ?_)
      refine q_iinc dX4_loadLeads_46 2 rfl rfl (loc' := [(4, vi (x4 + 1)), (0, .ref (ad 0)), (3, vi x3)]) rfl ?_
      refine q_goto dX4_loadLeads_49 23 (by decide) ?_
      refine q_loc (loc' := [(0, .ref (ad 0)), (3, vi x3), (4, vi (x4 + 1))]) [1, 2, 0] rfl ?_
      exact ih x3 (x4 + 1) h45 hf
def fX4_loadLeads (x1 : Int) (x2 : Int) (h : HP) : Option (Int × HP) :=
  cl (fX4_load x1 22 h) fun r6 h6 => cl (fX4_load x2 23 h6) fun r16 h16 => LX4_loadLeads_23 FU r6 0 h16
set_option maxRecDepth 20000 in
theorem ctX4_loadLeads {l : Launch} {D : va_G} {ad : Nat → Nat} {cI cR : ClassId} {x1 : Int} {x2 : Int} {h : HP} {Z : Int × HP} (hf : fX4_loadLeads x1 x2 h = some Z) : Ct (sdC l D ad cI cR) mX4_loadLeads [.ref (ad 0), vi x1, vi x2] h (ri Z) := by
  refine Ct.ofF nX4_loadLeads rfl (loc := [(0, .ref (ad 0)), (1, vi x1), (2, vi x2)]) rfl ?_
  unfold fX4_loadLeads at hf
  refine q_aloadn dX4_loadLeads_0 0 rfl ?_
  refine q_iloadn dX4_loadLeads_1 1 rfl ?_
  refine q_aloadn dX4_loadLeads_2 0 rfl ?_
  refine C_g4_2 flX4_19 dX4_loadLeads_3 ?_
  obtain ⟨r6, h6, e6, hf⟩ := q_cl hf
  refine q_cVi (av := [vi x1, .ref (ad 22)]) (rest := []) wC_0 (ctX4_load rfl e6) kX4_load vX4_load zX4_load lkX4_105 rfl rfl rfl rfl rfl dX4_loadLeads_6 ?_
  refine q_istoren dX4_loadLeads_9 rfl (loc' := [(3, vi r6), (0, .ref (ad 0)), (1, vi x1), (2, vi x2)]) rfl ?_
  refine q_aloadn dX4_loadLeads_10 1 rfl ?_
  refine q_iloadn dX4_loadLeads_11 3 rfl ?_
  refine q_aloadn dX4_loadLeads_12 1 rfl ?_
  refine C_g4_3 flX4_23 dX4_loadLeads_13 ?_
  obtain ⟨r16, h16, e16, hf⟩ := q_cl hf
  refine q_cVi (av := [vi x2, .ref (ad 23)]) (rest := []) wC_0 (ctX4_load rfl e16) kX4_load vX4_load zX4_load lkX4_105 rfl rfl rfl rfl rfl dX4_loadLeads_16 ?_
  refine q_pop dX4_loadLeads_19 rfl ?_
  refine q_iconst dX4_loadLeads_20 ?_
  refine q_istore dX4_loadLeads_21 rfl (loc' := [(4, vi 0), (3, vi r6), (0, .ref (ad 0)), (1, vi x1), (2, vi x2)]) rfl ?_
  refine q_loc (loc' := [(0, .ref (ad 0)), (3, vi r6), (4, vi 0)]) [2, 1, 0] rfl ?_
  exact tX4_loadLeads_23 FU r6 0 h16 hf
def fX4_tablesWithin (x0 : Int) (h : HP) : Option (Int × HP) :=
  lt ((2 * x0) + 1) fun x1_5 => some (((x1_5 * x1_5) * x1_5) * x1_5, h)
set_option maxRecDepth 20000 in
theorem ctX4_tablesWithin {l : Launch} {D : va_G} {ad : Nat → Nat} {cI cR : ClassId} {x0 : Int} {h : HP} {Z : Int × HP} (hf : fX4_tablesWithin x0 h = some Z) : Ct (sdC l D ad cI cR) mX4_tablesWithin [vi x0] h (ri Z) := by
  refine Ct.ofF nX4_tablesWithin rfl (loc := [(0, vi x0)]) rfl ?_
  unfold fX4_tablesWithin at hf
  refine q_iconst dX4_tablesWithin_0 ?_
  refine q_iloadn dX4_tablesWithin_1 0 rfl ?_
  refine q_imul dX4_tablesWithin_2 ?_
  refine q_iconst dX4_tablesWithin_3 ?_
  refine q_iadd dX4_tablesWithin_4 ?_
  refine q_lt hf (fun x1_5 hf => ?_)
  refine q_istoren dX4_tablesWithin_5 rfl (loc' := [(1, vi x1_5), (0, vi x0)]) rfl ?_
  refine q_iloadn dX4_tablesWithin_6 0 rfl ?_
  refine q_iloadn dX4_tablesWithin_7 0 rfl ?_
  refine q_imul dX4_tablesWithin_8 ?_
  refine q_iloadn dX4_tablesWithin_9 0 rfl ?_
  refine q_imul dX4_tablesWithin_10 ?_
  refine q_iloadn dX4_tablesWithin_11 0 rfl ?_
  refine q_imul dX4_tablesWithin_12 ?_
  exact q_iret hf rfl dX4_tablesWithin_13
def bX4_entry_12 (self : Int → Int → Int → Int → HP → Option (Int × HP)) (x0 : Int) (x3 : Int) (x4 : Int) (x5 : Int) (h : HP) : Option (Int × HP) :=
  if wi x5 < wi 3 then (gd (wi x3 ≠ 0) (lt (Int.tdiv (wi x4) (wi x3)) fun x4_22 => self x0 x3 x4_22 (x5 + 1) h)) else (gd (wi x3 ≠ 0) (some ((Int.tmod (wi x4) (wi x3)) - x0, h)))
def LX4_entry_12 : Nat → Int → Int → Int → Int → HP → Option (Int × HP)
  | 0 => fun _ _ _ _ _ => none
  | n + 1 => bX4_entry_12 (LX4_entry_12 n)
set_option maxRecDepth 20000 in
theorem tX4_entry_12 {l : Launch} {D : va_G} {ad : Nat → Nat} {cI cR : ClassId} {Z : Int × HP} : ∀ (n : Nat) (x0 : Int) (x3 : Int) (x4 : Int) (x5 : Int) (h : HP), LX4_entry_12 n x0 x3 x4 x5 h = some Z → Rn (sdC l D ad cI cR) mX4_entry (ri Z) 12 [(0, vi x0), (3, vi x3), (4, vi x4), (5, vi x5)] [] h := by
  intro n
  induction n with
  | zero => intro x0 x3 x4 x5 h hf; cases hf
  | succ n ih =>
    intro x0 x3 x4 x5 h hf
    replace hf : bX4_entry_12 (LX4_entry_12 n) x0 x3 x4 x5 h = some Z := hf
    unfold bX4_entry_12 at hf
    refine q_iload dX4_entry_12 3 rfl ?_
    refine q_iconst dX4_entry_14 ?_
    refine q_icmp_ge hf dX4_entry_15 30 (by decide) (fun hf => ?_) (fun hf => ?_)
    · refine q_iload dX4_entry_30 2 rfl ?_
      refine q_iloadn dX4_entry_32 1 rfl ?_
      obtain ⟨g33, hf⟩ := q_gd hf
      refine q_irem dX4_entry_33 g33 ?_
      refine q_iloadn dX4_entry_34 0 rfl ?_
      refine q_isub dX4_entry_35 ?_
      exact q_iret hf rfl dX4_entry_36
    · refine q_iload dX4_entry_18 2 rfl ?_
      refine q_iloadn dX4_entry_20 1 rfl ?_
      obtain ⟨g21, hf⟩ := q_gd hf
      refine q_idiv dX4_entry_21 g21 ?_
      refine q_lt hf (fun x4_22 hf => ?_)
      refine q_istore dX4_entry_22 rfl (loc' := [(4, vi x4_22), (0, vi x0), (3, vi x3), (5, vi x5)]) rfl ?_
      refine q_iinc dX4_entry_24 3 rfl rfl (loc' := [(5, vi (x5 + 1)), (4, vi x4_22), (0, vi x0), (3, vi x3)]) rfl ?_
      refine q_goto dX4_entry_27 12 (by decide) ?_
      refine q_loc (loc' := [(0, vi x0), (3, vi x3), (4, vi x4_22), (5, vi (x5 + 1))]) [2, 3, 1, 0] rfl ?_
      exact ih x0 x3 x4_22 (x5 + 1) h hf
def fX4_entry (x0 : Int) (x1 : Int) (x2 : Int) (h : HP) : Option (Int × HP) :=
  lt ((2 * x0) + 1) fun x3_5 => LX4_entry_12 FU x0 x3_5 x1 x2 h
set_option maxRecDepth 20000 in
theorem ctX4_entry {l : Launch} {D : va_G} {ad : Nat → Nat} {cI cR : ClassId} {x0 : Int} {x1 : Int} {x2 : Int} {h : HP} {Z : Int × HP} (hf : fX4_entry x0 x1 x2 h = some Z) : Ct (sdC l D ad cI cR) mX4_entry [vi x0, vi x1, vi x2] h (ri Z) := by
  refine Ct.ofF nX4_entry rfl (loc := [(0, vi x0), (1, vi x1), (2, vi x2)]) rfl ?_
  unfold fX4_entry at hf
  refine q_iconst dX4_entry_0 ?_
  refine q_iloadn dX4_entry_1 0 rfl ?_
  refine q_imul dX4_entry_2 ?_
  refine q_iconst dX4_entry_3 ?_
  refine q_iadd dX4_entry_4 ?_
  refine q_lt hf (fun x3_5 hf => ?_)
  refine q_istoren dX4_entry_5 rfl (loc' := [(3, vi x3_5), (0, vi x0), (1, vi x1), (2, vi x2)]) rfl ?_
  refine q_iloadn dX4_entry_6 2 rfl ?_
  refine q_istore dX4_entry_7 rfl (loc' := [(4, vi x1), (3, vi x3_5), (0, vi x0), (1, vi x1), (2, vi x2)]) rfl ?_
  refine q_iloadn dX4_entry_9 4 rfl ?_
  refine q_istore dX4_entry_10 rfl (loc' := [(5, vi x2), (4, vi x1), (3, vi x3_5), (0, vi x0), (1, vi x1), (2, vi x2)]) rfl ?_
  refine q_loc (loc' := [(0, vi x0), (3, vi x3_5), (4, vi x1), (5, vi x2)]) [3, 2, 1, 0] rfl ?_
  exact tX4_entry_12 FU x0 x3_5 x1 x2 h hf
def bX4_isLead_50 (self : Int → Int → Int → Int → Int → Int → HP → Option (Int × HP)) (x1 : Int) (x4 : Int) (x5 : Int) (x6 : Int) (x7 : Int) (x8 : Int) (h : HP) : Option (Int × HP) :=
  if wi x8 ≤ wi x1 then (cl (fX1_reduced (x4 + (x5 * x8)) h) fun r64 h64 => cl (fX1_reduced (x6 + (x7 * x8)) h64) fun r77 h77 => cl (fX2_valueAt 22 x1 r64 r77 h77) fun r91 h91 => ld (lnC 24) (h91 24) x8 fun v100 => if wi r91 = wi v100 then (self x1 x4 x5 x6 x7 (x8 + 1) h91) else (some (0, h91))) else (some (1, h))
def LX4_isLead_50 : Nat → Int → Int → Int → Int → Int → Int → HP → Option (Int × HP)
  | 0 => fun _ _ _ _ _ _ _ => none
  | n + 1 => bX4_isLead_50 (LX4_isLead_50 n)
set_option maxRecDepth 20000 in
theorem tX4_isLead_50 {l : Launch} {D : va_G} {ad : Nat → Nat} {cI cR : ClassId} {Z : Int × HP} : ∀ (n : Nat) (x1 : Int) (x4 : Int) (x5 : Int) (x6 : Int) (x7 : Int) (x8 : Int) (h : HP), LX4_isLead_50 n x1 x4 x5 x6 x7 x8 h = some Z → Rn (sdC l D ad cI cR) mX4_isLead (ri Z) 50 [(0, .ref (ad 0)), (1, vi x1), (4, vi x4), (5, vi x5), (6, vi x6), (7, vi x7), (8, vi x8)] [] h := by
  intro n
  induction n with
  | zero => intro x1 x4 x5 x6 x7 x8 h hf; cases hf
  | succ n ih =>
    intro x1 x4 x5 x6 x7 x8 h hf
    replace hf : bX4_isLead_50 (LX4_isLead_50 n) x1 x4 x5 x6 x7 x8 h = some Z := hf
    unfold bX4_isLead_50 at hf
    refine q_iload dX4_isLead_50 6 rfl ?_
    refine q_iloadn dX4_isLead_52 1 rfl ?_
    refine q_icmp_gt hf dX4_isLead_53 112 (by decide) (fun hf => ?_) (fun hf => ?_)
    · refine q_iconst dX4_isLead_112 ?_
      exact q_zret hf rfl rfl dX4_isLead_113
    · refine q_iload dX4_isLead_56 2 rfl ?_
      refine q_iload dX4_isLead_58 3 rfl ?_
      refine q_iload dX4_isLead_60 6 rfl ?_
      refine q_imul dX4_isLead_62 ?_
      refine q_iadd dX4_isLead_63 ?_
      obtain ⟨r64, h64, e64, hf⟩ := q_cl hf
      refine q_cSi (av := [vi (x4 + (x5 * x8))]) (rest := []) (ctX1_reduced e64) kX1_reduced uX1_reduced lkX4_109 rfl rfl rfl dX4_isLead_64 ?_
      refine q_istore dX4_isLead_67 rfl (loc' := [(9, vi r64), (0, .ref (ad 0)), (1, vi x1), (4, vi x4), (5, vi x5), (6, vi x6), (7, vi x7), (8, vi x8)]) rfl ?_
      refine q_iload dX4_isLead_69 5 rfl ?_
      refine q_iload dX4_isLead_71 6 rfl ?_
      refine q_iload dX4_isLead_73 7 rfl ?_
      refine q_imul dX4_isLead_75 ?_
      refine q_iadd dX4_isLead_76 ?_
      obtain ⟨r77, h77, e77, hf⟩ := q_cl hf
      refine q_cSi (av := [vi (x6 + (x7 * x8))]) (rest := []) (ctX1_reduced e77) kX1_reduced uX1_reduced lkX4_109 rfl rfl rfl dX4_isLead_77 ?_
      refine q_istore dX4_isLead_80 rfl (loc' := [(10, vi r77), (9, vi r64), (0, .ref (ad 0)), (1, vi x1), (4, vi x4), (5, vi x5), (6, vi x6), (7, vi x7), (8, vi x8)]) rfl ?_
      refine q_aloadn dX4_isLead_82 2 rfl ?_
      refine C_g4_2 flX4_19 dX4_isLead_83 ?_
      refine q_iloadn dX4_isLead_86 3 rfl ?_
      refine q_iload dX4_isLead_87 1 rfl ?_
      refine q_iload dX4_isLead_89 0 rfl ?_
      obtain ⟨r91, h91, e91, hf⟩ := q_cl hf
      refine q_cSi (av := [.ref (ad 22), vi x1, vi r64, vi r77]) (rest := []) (ctX2_valueAt rfl e91) kX2_valueAt uX2_valueAt lkX4_114 rfl rfl rfl dX4_isLead_91 ?_
      refine q_aloadn dX4_isLead_94 2 rfl ?_
      refine C_g4_4 flX4_26 dX4_isLead_95 ?_
      refine q_iload dX4_isLead_98 8 rfl ?_
      refine C_ld hf dX4_isLead_100 (fun v100 hf => ?_)
      refine q_icmp_eq hf dX4_isLead_101 106 (by decide) (fun hf => ?_) (fun hf => ?_)
      · refine q_iinc dX4_isLead_106 8 rfl rfl (loc' := [(8, vi (x8 + 1)), (10, vi r77), (9, vi r64), (0, .ref (ad 0)), (1, vi x1), (4, vi x4), (5, vi x5), (6, vi x6), (7, vi x7)]) rfl ?_
        refine q_goto dX4_isLead_109 50 (by decide) ?_
        refine q_loc (loc' := [(0, .ref (ad 0)), (1, vi x1), (4, vi x4), (5, vi x5), (6, vi x6), (7, vi x7), (8, vi (x8 + 1))]) [3, 4, 5, 6, 7, 8, 0] rfl ?_
        exact ih x1 x4 x5 x6 x7 (x8 + 1) h91 hf
      · refine q_iconst dX4_isLead_104 ?_
        exact q_zret hf rfl rfl dX4_isLead_105
def fX4_isLead (x1 : Int) (x2 : Int) (x3 : Int) (h : HP) : Option (Int × HP) :=
  cl (fX4_entry x2 x3 0 h) fun r3 h3 => cl (fX4_entry x2 x3 1 h3) fun r11 h11 => cl (fX4_entry x2 x3 2 h11) fun r19 h19 => cl (fX4_entry x2 x3 3 h19) fun r27 h27 => if wi (r3 * r27) = wi (r11 * r19) then (some (0, h27)) else (LX4_isLead_50 FU x1 r3 r11 r19 r27 0 h27)
set_option maxRecDepth 20000 in
theorem ctX4_isLead {l : Launch} {D : va_G} {ad : Nat → Nat} {cI cR : ClassId} {x1 : Int} {x2 : Int} {x3 : Int} {h : HP} {Z : Int × HP} (hf : fX4_isLead x1 x2 x3 h = some Z) : Ct (sdC l D ad cI cR) mX4_isLead [.ref (ad 0), vi x1, vi x2, vi x3] h (ri Z) := by
  refine Ct.ofF nX4_isLead rfl (loc := [(0, .ref (ad 0)), (1, vi x1), (2, vi x2), (3, vi x3)]) rfl ?_
  unfold fX4_isLead at hf
  refine q_iloadn dX4_isLead_0 2 rfl ?_
  refine q_iloadn dX4_isLead_1 3 rfl ?_
  refine q_iconst dX4_isLead_2 ?_
  obtain ⟨r3, h3, e3, hf⟩ := q_cl hf
  refine q_cSi (av := [vi x2, vi x3, vi 0]) (rest := []) (ctX4_entry e3) kX4_entry uX4_entry lkX4_282 rfl rfl rfl dX4_isLead_3 ?_
  refine q_istore dX4_isLead_6 rfl (loc' := [(4, vi r3), (0, .ref (ad 0)), (1, vi x1), (2, vi x2), (3, vi x3)]) rfl ?_
  refine q_iloadn dX4_isLead_8 3 rfl ?_
  refine q_iloadn dX4_isLead_9 4 rfl ?_
  refine q_iconst dX4_isLead_10 ?_
  obtain ⟨r11, h11, e11, hf⟩ := q_cl hf
  refine q_cSi (av := [vi x2, vi x3, vi 1]) (rest := []) (ctX4_entry e11) kX4_entry uX4_entry lkX4_282 rfl rfl rfl dX4_isLead_11 ?_
  refine q_istore dX4_isLead_14 rfl (loc' := [(5, vi r11), (4, vi r3), (0, .ref (ad 0)), (1, vi x1), (2, vi x2), (3, vi x3)]) rfl ?_
  refine q_iloadn dX4_isLead_16 4 rfl ?_
  refine q_iloadn dX4_isLead_17 5 rfl ?_
  refine q_iconst dX4_isLead_18 ?_
  obtain ⟨r19, h19, e19, hf⟩ := q_cl hf
  refine q_cSi (av := [vi x2, vi x3, vi 2]) (rest := []) (ctX4_entry e19) kX4_entry uX4_entry lkX4_282 rfl rfl rfl dX4_isLead_19 ?_
  refine q_istore dX4_isLead_22 rfl (loc' := [(6, vi r19), (5, vi r11), (4, vi r3), (0, .ref (ad 0)), (1, vi x1), (2, vi x2), (3, vi x3)]) rfl ?_
  refine q_iloadn dX4_isLead_24 5 rfl ?_
  refine q_iloadn dX4_isLead_25 6 rfl ?_
  refine q_iconst dX4_isLead_26 ?_
  obtain ⟨r27, h27, e27, hf⟩ := q_cl hf
  refine q_cSi (av := [vi x2, vi x3, vi 3]) (rest := []) (ctX4_entry e27) kX4_entry uX4_entry lkX4_282 rfl rfl rfl dX4_isLead_27 ?_
  refine q_istore dX4_isLead_30 rfl (loc' := [(7, vi r27), (6, vi r19), (5, vi r11), (4, vi r3), (0, .ref (ad 0)), (1, vi x1), (2, vi x2), (3, vi x3)]) rfl ?_
  refine q_iload dX4_isLead_32 3 rfl ?_
  refine q_iload dX4_isLead_34 0 rfl ?_
  refine q_imul dX4_isLead_36 ?_
  refine q_iload dX4_isLead_37 2 rfl ?_
  refine q_iload dX4_isLead_39 1 rfl ?_
  refine q_imul dX4_isLead_41 ?_
  refine q_icmp_ne hf dX4_isLead_42 47 (by decide) (fun hf => ?_) (fun hf => ?_)
  · refine q_iconst dX4_isLead_47 ?_
    refine q_istore dX4_isLead_48 rfl (loc' := [(8, vi 0), (7, vi r27), (6, vi r19), (5, vi r11), (4, vi r3), (0, .ref (ad 0)), (1, vi x1), (2, vi x2), (3, vi x3)]) rfl ?_
    refine q_loc (loc' := [(0, .ref (ad 0)), (1, vi x1), (4, vi r3), (5, vi r11), (6, vi r19), (7, vi r27), (8, vi 0)]) [5, 6, 4, 3, 2, 1, 0] rfl ?_
    exact tX4_isLead_50 FU x1 r3 r11 r19 r27 0 h27 hf
  · refine q_iconst dX4_isLead_45 ?_
    exact q_zret hf rfl rfl dX4_isLead_46
def bX4_leads_37 (self : Int → Int → Int → Int → Int → HP → Option (Int × HP)) (x3 : Int) (x5 : Int) (x6 : Int) (x7 : Int) (x8 : Int) (h : HP) : Option (Int × HP) :=
  if wi x8 < wi x6 then (cl (fX4_isLead x5 x3 x8 h) fun r50 h50 => if wi r50 = 0 then (self x3 x5 x6 x7 (x8 + 1) h50) else (self x3 x5 x6 (x7 + 1) (x8 + 1) h50)) else (some (x7, h))
def LX4_leads_37 : Nat → Int → Int → Int → Int → Int → HP → Option (Int × HP)
  | 0 => fun _ _ _ _ _ _ => none
  | n + 1 => bX4_leads_37 (LX4_leads_37 n)
set_option maxRecDepth 20000 in
theorem tX4_leads_37 {l : Launch} {D : va_G} {ad : Nat → Nat} {cI cR : ClassId} {Z : Int × HP} : ∀ (n : Nat) (x3 : Int) (x5 : Int) (x6 : Int) (x7 : Int) (x8 : Int) (h : HP), LX4_leads_37 n x3 x5 x6 x7 x8 h = some Z → Rn (sdC l D ad cI cR) mX4_leads (ri Z) 37 [(0, .ref (ad 0)), (3, vi x3), (5, vi x5), (6, vi x6), (7, vi x7), (8, vi x8)] [] h := by
  intro n
  induction n with
  | zero => intro x3 x5 x6 x7 x8 h hf; cases hf
  | succ n ih =>
    intro x3 x5 x6 x7 x8 h hf
    replace hf : bX4_leads_37 (LX4_leads_37 n) x3 x5 x6 x7 x8 h = some Z := hf
    unfold bX4_leads_37 at hf
    refine q_iload dX4_leads_37 5 rfl ?_
    refine q_iload dX4_leads_39 3 rfl ?_
    refine q_icmp_ge hf dX4_leads_41 65 (by decide) (fun hf => ?_) (fun hf => ?_)
    · refine q_iload dX4_leads_65 4 rfl ?_
      exact q_iret hf rfl dX4_leads_67
    · refine q_aloadn dX4_leads_44 0 rfl ?_
      refine q_iload dX4_leads_45 2 rfl ?_
      refine q_iloadn dX4_leads_47 1 rfl ?_
      refine q_iload dX4_leads_48 5 rfl ?_
      obtain ⟨r50, h50, e50, hf⟩ := q_cl hf
      refine q_cVi (av := [vi x5, vi x3, vi x8]) (rest := []) wC_0 (ctX4_isLead e50) kX4_isLead vX4_isLead zX4_isLead lkX4_205 rfl rfl rfl rfl rfl dX4_leads_50 ?_
      refine q_if_eq hf dX4_leads_53 59 (by decide) (fun hf => ?_) (fun hf => ?_)
      · refine q_iinc dX4_leads_59 5 rfl rfl (loc' := [(8, vi (x8 + 1)), (0, .ref (ad 0)), (3, vi x3), (5, vi x5), (6, vi x6), (7, vi x7)]) rfl ?_
        refine q_goto dX4_leads_62 37 (by decide) ?_
        refine q_loc (loc' := [(0, .ref (ad 0)), (3, vi x3), (5, vi x5), (6, vi x6), (7, vi x7), (8, vi (x8 + 1))]) [1, 2, 3, 4, 5, 0] rfl ?_
        exact ih x3 x5 x6 x7 (x8 + 1) h50 hf
      · refine q_iinc dX4_leads_56 4 rfl rfl (loc' := [(7, vi (x7 + 1)), (0, .ref (ad 0)), (3, vi x3), (5, vi x5), (6, vi x6), (8, vi x8)]) rfl ?_
        refine q_iinc dX4_leads_59 5 rfl rfl (loc' := [(8, vi (x8 + 1)), (7, vi (x7 + 1)), (0, .ref (ad 0)), (3, vi x3), (5, vi x5), (6, vi x6)]) rfl ?_
        refine q_goto dX4_leads_62 37 (by decide) ?_
        refine q_loc (loc' := [(0, .ref (ad 0)), (3, vi x3), (5, vi x5), (6, vi x6), (7, vi (x7 + 1)), (8, vi (x8 + 1))]) [2, 3, 4, 5, 1, 0] rfl ?_
        exact ih x3 x5 x6 (x7 + 1) (x8 + 1) h50 hf
def fX4_leads (x1 : Int) (x2 : Int) (x3 : Int) (h : HP) : Option (Int × HP) :=
  cl (fX4_refuseLeads x1 x2 x3 h) fun r4 h4 => if wi r4 = 0 then (cl (fX4_loadLeads x1 x2 h4) fun r20 h20 => cl (fX4_tablesWithin x3 h20) fun r26 h26 => LX4_leads_37 FU x3 r20 r26 0 0 h26) else (some (r4, h4))
set_option maxRecDepth 20000 in
theorem ctX4_leads {l : Launch} {D : va_G} {ad : Nat → Nat} {cI cR : ClassId} {x1 : Int} {x2 : Int} {x3 : Int} {h : HP} {Z : Int × HP} (hf : fX4_leads x1 x2 x3 h = some Z) : Ct (sdC l D ad cI cR) mX4_leads [.ref (ad 0), vi x1, vi x2, vi x3] h (ri Z) := by
  refine Ct.ofF nX4_leads rfl (loc := [(0, .ref (ad 0)), (1, vi x1), (2, vi x2), (3, vi x3)]) rfl ?_
  unfold fX4_leads at hf
  refine q_aloadn dX4_leads_0 0 rfl ?_
  refine q_iloadn dX4_leads_1 1 rfl ?_
  refine q_iloadn dX4_leads_2 2 rfl ?_
  refine q_iloadn dX4_leads_3 3 rfl ?_
  obtain ⟨r4, h4, e4, hf⟩ := q_cl hf
  refine q_cVi (av := [vi x1, vi x2, vi x3]) (rest := []) wC_0 (ctX4_refuseLeads e4) kX4_refuseLeads vX4_refuseLeads zX4_refuseLeads lkX4_196 rfl rfl rfl rfl rfl dX4_leads_4 ?_
  refine q_istore dX4_leads_7 rfl (loc' := [(4, vi r4), (0, .ref (ad 0)), (1, vi x1), (2, vi x2), (3, vi x3)]) rfl ?_
  refine q_iload dX4_leads_9 0 rfl ?_
  refine q_if_eq hf dX4_leads_11 17 (by decide) (fun hf => ?_) (fun hf => ?_)
  · refine q_aloadn dX4_leads_17 1 rfl ?_
    refine q_iloadn dX4_leads_18 2 rfl ?_
    refine q_iloadn dX4_leads_19 3 rfl ?_
    obtain ⟨r20, h20, e20, hf⟩ := q_cl hf
    refine q_cVi (av := [vi x1, vi x2]) (rest := []) wC_0 (ctX4_loadLeads e20) kX4_loadLeads vX4_loadLeads zX4_loadLeads lkX4_199 rfl rfl rfl rfl rfl dX4_leads_20 ?_
    refine q_istore dX4_leads_23 rfl (loc' := [(5, vi r20), (4, vi r4), (0, .ref (ad 0)), (1, vi x1), (2, vi x2), (3, vi x3)]) rfl ?_
    refine q_iloadn dX4_leads_25 5 rfl ?_
    obtain ⟨r26, h26, e26, hf⟩ := q_cl hf
    refine q_cSi (av := [vi x3]) (rest := []) (ctX4_tablesWithin e26) kX4_tablesWithin uX4_tablesWithin lkX4_202 rfl rfl rfl dX4_leads_26 ?_
    refine q_istore dX4_leads_29 rfl (loc' := [(6, vi r26), (5, vi r20), (4, vi r4), (0, .ref (ad 0)), (1, vi x1), (2, vi x2), (3, vi x3)]) rfl ?_
    refine q_iconst dX4_leads_31 ?_
    refine q_istore dX4_leads_32 rfl (loc' := [(7, vi 0), (6, vi r26), (5, vi r20), (4, vi r4), (0, .ref (ad 0)), (1, vi x1), (2, vi x2), (3, vi x3)]) rfl ?_
    refine q_iconst dX4_leads_34 ?_
    refine q_istore dX4_leads_35 rfl (loc' := [(8, vi 0), (7, vi 0), (6, vi r26), (5, vi r20), (4, vi r4), (0, .ref (ad 0)), (1, vi x1), (2, vi x2), (3, vi x3)]) rfl ?_
    refine q_loc (loc' := [(0, .ref (ad 0)), (3, vi x3), (5, vi r20), (6, vi r26), (7, vi 0), (8, vi 0)]) [5, 8, 3, 2, 1, 0] rfl ?_
    exact tX4_leads_37 FU x3 r20 r26 0 0 h26 hf
  · refine q_iload dX4_leads_14 0 rfl ?_
    exact q_iret hf rfl dX4_leads_16
def bX4_codeOf_4 (self : Int → Int → Int → Int → HP → Option (Int × HP)) (x0 : Int) (x1 : Int) (x2 : Int) (x3 : Int) (h : HP) : Option (Int × HP) :=
  if wi x3 < wi 4 then (cl (fX4_entry x0 x1 x3 h) fun r16 h16 => lt (((10 * x2) + r16) + 2) fun x2_22 => self x0 x1 x2_22 (x3 + 1) h16) else (some (x2, h))
def LX4_codeOf_4 : Nat → Int → Int → Int → Int → HP → Option (Int × HP)
  | 0 => fun _ _ _ _ _ => none
  | n + 1 => bX4_codeOf_4 (LX4_codeOf_4 n)
set_option maxRecDepth 20000 in
theorem tX4_codeOf_4 {l : Launch} {D : va_G} {ad : Nat → Nat} {cI cR : ClassId} {Z : Int × HP} : ∀ (n : Nat) (x0 : Int) (x1 : Int) (x2 : Int) (x3 : Int) (h : HP), LX4_codeOf_4 n x0 x1 x2 x3 h = some Z → Rn (sdC l D ad cI cR) mX4_codeOf (ri Z) 4 [(0, vi x0), (1, vi x1), (2, vi x2), (3, vi x3)] [] h := by
  intro n
  induction n with
  | zero => intro x0 x1 x2 x3 h hf; cases hf
  | succ n ih =>
    intro x0 x1 x2 x3 h hf
    replace hf : bX4_codeOf_4 (LX4_codeOf_4 n) x0 x1 x2 x3 h = some Z := hf
    unfold bX4_codeOf_4 at hf
    refine q_iloadn dX4_codeOf_4 3 rfl ?_
    refine q_iconst dX4_codeOf_5 ?_
    refine q_icmp_ge hf dX4_codeOf_6 29 (by decide) (fun hf => ?_) (fun hf => ?_)
    · refine q_iloadn dX4_codeOf_29 2 rfl ?_
      exact q_iret hf rfl dX4_codeOf_30
    · refine q_bipush dX4_codeOf_9 (by decide) ?_
      refine q_iloadn dX4_codeOf_11 2 rfl ?_
      refine q_imul dX4_codeOf_12 ?_
      refine q_iloadn dX4_codeOf_13 0 rfl ?_
      refine q_iloadn dX4_codeOf_14 1 rfl ?_
      refine q_iloadn dX4_codeOf_15 3 rfl ?_
      obtain ⟨r16, h16, e16, hf⟩ := q_cl hf
      refine q_cSi (av := [vi x0, vi x1, vi x3]) (rest := [vi (10 * x2)]) (ctX4_entry e16) kX4_entry uX4_entry lkX4_282 rfl rfl rfl dX4_codeOf_16 ?_
      refine q_iadd dX4_codeOf_19 ?_
      refine q_iconst dX4_codeOf_20 ?_
      refine q_iadd dX4_codeOf_21 ?_
      refine q_lt hf (fun x2_22 hf => ?_)
      refine q_istoren dX4_codeOf_22 rfl (loc' := [(2, vi x2_22), (0, vi x0), (1, vi x1), (3, vi x3)]) rfl ?_
      refine q_iinc dX4_codeOf_23 3 rfl rfl (loc' := [(3, vi (x3 + 1)), (2, vi x2_22), (0, vi x0), (1, vi x1)]) rfl ?_
      refine q_goto dX4_codeOf_26 4 (by decide) ?_
      refine q_loc (loc' := [(0, vi x0), (1, vi x1), (2, vi x2_22), (3, vi (x3 + 1))]) [2, 3, 1, 0] rfl ?_
      exact ih x0 x1 x2_22 (x3 + 1) h16 hf
def fX4_codeOf (x0 : Int) (x1 : Int) (h : HP) : Option (Int × HP) :=
  LX4_codeOf_4 FU x0 x1 0 0 h
set_option maxRecDepth 20000 in
theorem ctX4_codeOf {l : Launch} {D : va_G} {ad : Nat → Nat} {cI cR : ClassId} {x0 : Int} {x1 : Int} {h : HP} {Z : Int × HP} (hf : fX4_codeOf x0 x1 h = some Z) : Ct (sdC l D ad cI cR) mX4_codeOf [vi x0, vi x1] h (ri Z) := by
  refine Ct.ofF nX4_codeOf rfl (loc := [(0, vi x0), (1, vi x1)]) rfl ?_
  unfold fX4_codeOf at hf
  refine q_iconst dX4_codeOf_0 ?_
  refine q_istoren dX4_codeOf_1 rfl (loc' := [(2, vi 0), (0, vi x0), (1, vi x1)]) rfl ?_
  refine q_iconst dX4_codeOf_2 ?_
  refine q_istoren dX4_codeOf_3 rfl (loc' := [(3, vi 0), (2, vi 0), (0, vi x0), (1, vi x1)]) rfl ?_
  refine q_loc (loc' := [(0, vi x0), (1, vi x1), (2, vi 0), (3, vi 0)]) [2, 3, 1, 0] rfl ?_
  exact tX4_codeOf_4 FU x0 x1 0 0 h hf
def bX4_lead_45 (self : Int → Int → Int → Int → Int → Int → HP → Option (Int × HP)) (x3 : Int) (x4 : Int) (x6 : Int) (x7 : Int) (x8 : Int) (x9 : Int) (h : HP) : Option (Int × HP) :=
  if wi x9 < wi x7 then (cl (fX4_isLead x6 x3 x9 h) fun r58 h58 => if wi r58 = 0 then (self x3 x4 x6 x7 x8 (x9 + 1) h58) else (if wi x8 = wi x4 then (cl (fX4_codeOf x3 x9 h58) fun r74 h74 => some (r74, h74)) else (self x3 x4 x6 x7 (x8 + 1) (x9 + 1) h58))) else (some ((-1), h))
def LX4_lead_45 : Nat → Int → Int → Int → Int → Int → Int → HP → Option (Int × HP)
  | 0 => fun _ _ _ _ _ _ _ => none
  | n + 1 => bX4_lead_45 (LX4_lead_45 n)
set_option maxRecDepth 20000 in
theorem tX4_lead_45 {l : Launch} {D : va_G} {ad : Nat → Nat} {cI cR : ClassId} {Z : Int × HP} : ∀ (n : Nat) (x3 : Int) (x4 : Int) (x6 : Int) (x7 : Int) (x8 : Int) (x9 : Int) (h : HP), LX4_lead_45 n x3 x4 x6 x7 x8 x9 h = some Z → Rn (sdC l D ad cI cR) mX4_lead (ri Z) 45 [(0, .ref (ad 0)), (3, vi x3), (4, vi x4), (6, vi x6), (7, vi x7), (8, vi x8), (9, vi x9)] [] h := by
  intro n
  induction n with
  | zero => intro x3 x4 x6 x7 x8 x9 h hf; cases hf
  | succ n ih =>
    intro x3 x4 x6 x7 x8 x9 h hf
    replace hf : bX4_lead_45 (LX4_lead_45 n) x3 x4 x6 x7 x8 x9 h = some Z := hf
    unfold bX4_lead_45 at hf
    refine q_iload dX4_lead_45 6 rfl ?_
    refine q_iload dX4_lead_47 4 rfl ?_
    refine q_icmp_ge hf dX4_lead_49 87 (by decide) (fun hf => ?_) (fun hf => ?_)
    · refine q_iconst dX4_lead_87 ?_
      exact q_iret hf rfl dX4_lead_88
    · refine q_aloadn dX4_lead_52 0 rfl ?_
      refine q_iload dX4_lead_53 3 rfl ?_
      refine q_iloadn dX4_lead_55 1 rfl ?_
      refine q_iload dX4_lead_56 6 rfl ?_
      obtain ⟨r58, h58, e58, hf⟩ := q_cl hf
      refine q_cVi (av := [vi x6, vi x3, vi x9]) (rest := []) wC_0 (ctX4_isLead e58) kX4_isLead vX4_isLead zX4_isLead lkX4_205 rfl rfl rfl rfl rfl dX4_lead_58 ?_
      refine q_if_eq hf dX4_lead_61 81 (by decide) (fun hf => ?_) (fun hf => ?_)
      · refine q_iinc dX4_lead_81 6 rfl rfl (loc' := [(9, vi (x9 + 1)), (0, .ref (ad 0)), (3, vi x3), (4, vi x4), (6, vi x6), (7, vi x7), (8, vi x8)]) rfl ?_
        refine q_goto dX4_lead_84 45 (by decide) ?_
        refine q_loc (loc' := [(0, .ref (ad 0)), (3, vi x3), (4, vi x4), (6, vi x6), (7, vi x7), (8, vi x8), (9, vi (x9 + 1))]) [1, 2, 3, 4, 5, 6, 0] rfl ?_
        exact ih x3 x4 x6 x7 x8 (x9 + 1) h58 hf
      · refine q_iload dX4_lead_64 5 rfl ?_
        refine q_iload dX4_lead_66 2 rfl ?_
        refine q_icmp_ne hf dX4_lead_68 78 (by decide) (fun hf => ?_) (fun hf => ?_)
        · refine q_iinc dX4_lead_78 5 rfl rfl (loc' := [(8, vi (x8 + 1)), (0, .ref (ad 0)), (3, vi x3), (4, vi x4), (6, vi x6), (7, vi x7), (9, vi x9)]) rfl ?_
          refine q_iinc dX4_lead_81 6 rfl rfl (loc' := [(9, vi (x9 + 1)), (8, vi (x8 + 1)), (0, .ref (ad 0)), (3, vi x3), (4, vi x4), (6, vi x6), (7, vi x7)]) rfl ?_
          refine q_goto dX4_lead_84 45 (by decide) ?_
          refine q_loc (loc' := [(0, .ref (ad 0)), (3, vi x3), (4, vi x4), (6, vi x6), (7, vi x7), (8, vi (x8 + 1)), (9, vi (x9 + 1))]) [2, 3, 4, 5, 6, 1, 0] rfl ?_
          exact ih x3 x4 x6 x7 (x8 + 1) (x9 + 1) h58 hf
        · refine q_iloadn dX4_lead_71 1 rfl ?_
          refine q_iload dX4_lead_72 6 rfl ?_
          obtain ⟨r74, h74, e74, hf⟩ := q_cl hf
          refine q_cSi (av := [vi x3, vi x9]) (rest := []) (ctX4_codeOf e74) kX4_codeOf uX4_codeOf lkX4_208 rfl rfl rfl dX4_lead_74 ?_
          exact q_iret hf rfl dX4_lead_77
def fX4_lead (x1 : Int) (x2 : Int) (x3 : Int) (x4 : Int) (h : HP) : Option (Int × HP) :=
  if wi x4 < 0 then (some ((-2), h)) else (cl (fX4_refuseLeads x1 x2 x3 h) fun r12 h12 => if wi r12 = 0 then (cl (fX4_loadLeads x1 x2 h12) fun r28 h28 => cl (fX4_tablesWithin x3 h28) fun r34 h34 => LX4_lead_45 FU x3 x4 r28 r34 0 0 h34) else (some (r12, h12)))
set_option maxRecDepth 20000 in
theorem ctX4_lead {l : Launch} {D : va_G} {ad : Nat → Nat} {cI cR : ClassId} {x1 : Int} {x2 : Int} {x3 : Int} {x4 : Int} {h : HP} {Z : Int × HP} (hf : fX4_lead x1 x2 x3 x4 h = some Z) : Ct (sdC l D ad cI cR) mX4_lead [.ref (ad 0), vi x1, vi x2, vi x3, vi x4] h (ri Z) := by
  refine Ct.ofF nX4_lead rfl (loc := [(0, .ref (ad 0)), (1, vi x1), (2, vi x2), (3, vi x3), (4, vi x4)]) rfl ?_
  unfold fX4_lead at hf
  refine q_iload dX4_lead_0 4 rfl ?_
  refine q_if_ge hf dX4_lead_2 8 (by decide) (fun hf => ?_) (fun hf => ?_)
  · refine q_aloadn dX4_lead_8 0 rfl ?_
    refine q_iloadn dX4_lead_9 1 rfl ?_
    refine q_iloadn dX4_lead_10 2 rfl ?_
    refine q_iloadn dX4_lead_11 3 rfl ?_
    obtain ⟨r12, h12, e12, hf⟩ := q_cl hf
    refine q_cVi (av := [vi x1, vi x2, vi x3]) (rest := []) wC_0 (ctX4_refuseLeads e12) kX4_refuseLeads vX4_refuseLeads zX4_refuseLeads lkX4_196 rfl rfl rfl rfl rfl dX4_lead_12 ?_
    refine q_istore dX4_lead_15 rfl (loc' := [(5, vi r12), (0, .ref (ad 0)), (1, vi x1), (2, vi x2), (3, vi x3), (4, vi x4)]) rfl ?_
    refine q_iload dX4_lead_17 0 rfl ?_
    refine q_if_eq hf dX4_lead_19 25 (by decide) (fun hf => ?_) (fun hf => ?_)
    · refine q_aloadn dX4_lead_25 1 rfl ?_
      refine q_iloadn dX4_lead_26 2 rfl ?_
      refine q_iloadn dX4_lead_27 3 rfl ?_
      obtain ⟨r28, h28, e28, hf⟩ := q_cl hf
      refine q_cVi (av := [vi x1, vi x2]) (rest := []) wC_0 (ctX4_loadLeads e28) kX4_loadLeads vX4_loadLeads zX4_loadLeads lkX4_199 rfl rfl rfl rfl rfl dX4_lead_28 ?_
      refine q_istore dX4_lead_31 rfl (loc' := [(6, vi r28), (5, vi r12), (0, .ref (ad 0)), (1, vi x1), (2, vi x2), (3, vi x3), (4, vi x4)]) rfl ?_
      refine q_iloadn dX4_lead_33 5 rfl ?_
      obtain ⟨r34, h34, e34, hf⟩ := q_cl hf
      refine q_cSi (av := [vi x3]) (rest := []) (ctX4_tablesWithin e34) kX4_tablesWithin uX4_tablesWithin lkX4_202 rfl rfl rfl dX4_lead_34 ?_
      refine q_istore dX4_lead_37 rfl (loc' := [(7, vi r34), (6, vi r28), (5, vi r12), (0, .ref (ad 0)), (1, vi x1), (2, vi x2), (3, vi x3), (4, vi x4)]) rfl ?_
      refine q_iconst dX4_lead_39 ?_
      refine q_istore dX4_lead_40 rfl (loc' := [(8, vi 0), (7, vi r34), (6, vi r28), (5, vi r12), (0, .ref (ad 0)), (1, vi x1), (2, vi x2), (3, vi x3), (4, vi x4)]) rfl ?_
      refine q_iconst dX4_lead_42 ?_
      refine q_istore dX4_lead_43 rfl (loc' := [(9, vi 0), (8, vi 0), (7, vi r34), (6, vi r28), (5, vi r12), (0, .ref (ad 0)), (1, vi x1), (2, vi x2), (3, vi x3), (4, vi x4)]) rfl ?_
      refine q_loc (loc' := [(0, .ref (ad 0)), (3, vi x3), (4, vi x4), (6, vi r28), (7, vi r34), (8, vi 0), (9, vi 0)]) [5, 8, 9, 3, 2, 1, 0] rfl ?_
      exact tX4_lead_45 FU x3 x4 r28 r34 0 0 h34 hf
    · refine q_iload dX4_lead_22 0 rfl ?_
      exact q_iret hf rfl dX4_lead_24
  · refine q_bipush dX4_lead_5 (by decide) ?_
    exact q_iret hf rfl dX4_lead_7
def bX4_countWays_12 (k3 : Int → Int → Int → Int → HP → Option (Int × HP)) (self : Int → Int → Int → Int → Int → HP → Option (Int × HP)) (x1 : Int) (x2 : Int) (x3 : Int) (x4 : Int) (x5 : Int) (h : HP) : Option (Int × HP) :=
  if wi x5 ≤ wi x3 then (if wi x5 = 0 then (sto (lnC 29) h 29 ((x4 * 33) + x5) 1 fun h40 => self x1 x2 x3 x4 (x5 + 1) h40) else (sto (lnC 29) h 29 ((x4 * 33) + x5) 0 fun h40 => self x1 x2 x3 x4 (x5 + 1) h40)) else (k3 x1 x2 x3 (x4 + 1) h)
def LX4_countWays_12 (k3 : Int → Int → Int → Int → HP → Option (Int × HP)) : Nat → Int → Int → Int → Int → Int → HP → Option (Int × HP)
  | 0 => fun _ _ _ _ _ _ => none
  | n + 1 => bX4_countWays_12 k3 (LX4_countWays_12 k3 n)
set_option maxRecDepth 20000 in
theorem tX4_countWays_12 {l : Launch} {D : va_G} {ad : Nat → Nat} {cI cR : ClassId} {Z : Int × HP} {k3 : Int → Int → Int → Int → HP → Option (Int × HP)} (hk3 : ∀ (x1 : Int) (x2 : Int) (x3 : Int) (x4 : Int) (h : HP), k3 x1 x2 x3 x4 h = some Z → Rn (sdC l D ad cI cR) mX4_countWays (rv Z) 3 [(0, .ref (ad 0)), (1, vi x1), (2, vi x2), (3, vi x3), (4, vi x4)] [] h) : ∀ (n : Nat) (x1 : Int) (x2 : Int) (x3 : Int) (x4 : Int) (x5 : Int) (h : HP), LX4_countWays_12 k3 n x1 x2 x3 x4 x5 h = some Z → Rn (sdC l D ad cI cR) mX4_countWays (rv Z) 12 [(0, .ref (ad 0)), (1, vi x1), (2, vi x2), (3, vi x3), (4, vi x4), (5, vi x5)] [] h := by
  intro n
  induction n with
  | zero => intro x1 x2 x3 x4 x5 h hf; cases hf
  | succ n ih =>
    intro x1 x2 x3 x4 x5 h hf
    replace hf : bX4_countWays_12 k3 (LX4_countWays_12 k3 n) x1 x2 x3 x4 x5 h = some Z := hf
    unfold bX4_countWays_12 at hf
    refine q_iload dX4_countWays_12 5 rfl ?_
    refine q_iloadn dX4_countWays_14 3 rfl ?_
    refine q_icmp_gt hf dX4_countWays_15 47 (by decide) (fun hf => ?_) (fun hf => ?_)
    · refine q_iinc dX4_countWays_47 4 rfl rfl (loc' := [(4, vi (x4 + 1)), (0, .ref (ad 0)), (1, vi x1), (2, vi x2), (3, vi x3), (5, vi x5)]) rfl ?_
      refine q_goto dX4_countWays_50 3 (by decide) ?_
      refine q_loc (loc' := [(0, .ref (ad 0)), (1, vi x1), (2, vi x2), (3, vi x3), (4, vi (x4 + 1))]) [1, 2, 3, 4, 0] rfl ?_
      exact hk3 x1 x2 x3 (x4 + 1) h hf
    · refine q_aloadn dX4_countWays_18 0 rfl ?_
      refine C_g4_8 flX4_42 dX4_countWays_19 ?_
      refine q_iload dX4_countWays_22 4 rfl ?_
      refine q_bipush dX4_countWays_24 (by decide) ?_
      refine q_imul dX4_countWays_26 ?_
      refine q_iload dX4_countWays_27 5 rfl ?_
      refine q_iadd dX4_countWays_29 ?_
      refine q_iload dX4_countWays_30 5 rfl ?_
      refine q_if_ne hf dX4_countWays_32 39 (by decide) (fun hf => ?_) (fun hf => ?_)
      · refine q_iconst dX4_countWays_39 ?_
        refine C_st hf dX4_countWays_40 (fun h40 hf => ?_)
        refine q_iinc dX4_countWays_41 5 rfl rfl (loc' := [(5, vi (x5 + 1)), (0, .ref (ad 0)), (1, vi x1), (2, vi x2), (3, vi x3), (4, vi x4)]) rfl ?_
        refine q_goto dX4_countWays_44 12 (by decide) ?_
        refine q_loc (loc' := [(0, .ref (ad 0)), (1, vi x1), (2, vi x2), (3, vi x3), (4, vi x4), (5, vi (x5 + 1))]) [1, 2, 3, 4, 5, 0] rfl ?_
        exact ih x1 x2 x3 x4 (x5 + 1) h40 hf
      · refine q_iconst dX4_countWays_35 ?_
        refine q_goto dX4_countWays_36 40 (by decide) ?_
        refine C_st hf dX4_countWays_40 (fun h40 hf => ?_)
        refine q_iinc dX4_countWays_41 5 rfl rfl (loc' := [(5, vi (x5 + 1)), (0, .ref (ad 0)), (1, vi x1), (2, vi x2), (3, vi x3), (4, vi x4)]) rfl ?_
        refine q_goto dX4_countWays_44 12 (by decide) ?_
        refine q_loc (loc' := [(0, .ref (ad 0)), (1, vi x1), (2, vi x2), (3, vi x3), (4, vi x4), (5, vi (x5 + 1))]) [1, 2, 3, 4, 5, 0] rfl ?_
        exact ih x1 x2 x3 x4 (x5 + 1) h40 hf
def bX4_countWays_75 (k65 : Int → Int → Int → Int → Int → HP → Option (Int × HP)) (self : Int → Int → Int → Int → Int → Int → HP → Option (Int × HP)) (x1 : Int) (x2 : Int) (x3 : Int) (x4 : Int) (x5 : Int) (x6 : Int) (h : HP) : Option (Int × HP) :=
  if wi x6 ≤ wi x3 then (ld (lnC 29) (h 29) ((x5 * 33) + x6) fun v94 => ld (lnC 29) (h 29) ((((x5 - 1) * 33) + x6) - x4) fun v112 => sto (lnC 29) h 29 ((x5 * 33) + x6) (v94 + v112) fun h114 => self x1 x2 x3 x4 x5 (x6 + 1) h114) else (k65 x1 x2 x3 x4 (x5 + 1) h)
def LX4_countWays_75 (k65 : Int → Int → Int → Int → Int → HP → Option (Int × HP)) : Nat → Int → Int → Int → Int → Int → Int → HP → Option (Int × HP)
  | 0 => fun _ _ _ _ _ _ _ => none
  | n + 1 => bX4_countWays_75 k65 (LX4_countWays_75 k65 n)
set_option maxRecDepth 20000 in
theorem tX4_countWays_75 {l : Launch} {D : va_G} {ad : Nat → Nat} {cI cR : ClassId} {Z : Int × HP} {k65 : Int → Int → Int → Int → Int → HP → Option (Int × HP)} (hk65 : ∀ (x1 : Int) (x2 : Int) (x3 : Int) (x4 : Int) (x5 : Int) (h : HP), k65 x1 x2 x3 x4 x5 h = some Z → Rn (sdC l D ad cI cR) mX4_countWays (rv Z) 65 [(0, .ref (ad 0)), (1, vi x1), (2, vi x2), (3, vi x3), (4, vi x4), (5, vi x5)] [] h) : ∀ (n : Nat) (x1 : Int) (x2 : Int) (x3 : Int) (x4 : Int) (x5 : Int) (x6 : Int) (h : HP), LX4_countWays_75 k65 n x1 x2 x3 x4 x5 x6 h = some Z → Rn (sdC l D ad cI cR) mX4_countWays (rv Z) 75 [(0, .ref (ad 0)), (1, vi x1), (2, vi x2), (3, vi x3), (4, vi x4), (5, vi x5), (6, vi x6)] [] h := by
  intro n
  induction n with
  | zero => intro x1 x2 x3 x4 x5 x6 h hf; cases hf
  | succ n ih =>
    intro x1 x2 x3 x4 x5 x6 h hf
    replace hf : bX4_countWays_75 k65 (LX4_countWays_75 k65 n) x1 x2 x3 x4 x5 x6 h = some Z := hf
    unfold bX4_countWays_75 at hf
    refine q_iload dX4_countWays_75 6 rfl ?_
    refine q_iloadn dX4_countWays_77 3 rfl ?_
    refine q_icmp_gt hf dX4_countWays_78 121 (by decide) (fun hf => ?_) (fun hf => ?_)
    · refine q_iinc dX4_countWays_121 5 rfl rfl (loc' := [(5, vi (x5 + 1)), (0, .ref (ad 0)), (1, vi x1), (2, vi x2), (3, vi x3), (4, vi x4), (6, vi x6)]) rfl ?_
      refine q_goto dX4_countWays_124 65 (by decide) ?_
      refine q_loc (loc' := [(0, .ref (ad 0)), (1, vi x1), (2, vi x2), (3, vi x3), (4, vi x4), (5, vi (x5 + 1))]) [1, 2, 3, 4, 5, 0] rfl ?_
      exact hk65 x1 x2 x3 x4 (x5 + 1) h hf
    · refine q_aloadn dX4_countWays_81 0 rfl ?_
      refine C_g4_8 flX4_42 dX4_countWays_82 ?_
      refine q_iload dX4_countWays_85 5 rfl ?_
      refine q_bipush dX4_countWays_87 (by decide) ?_
      refine q_imul dX4_countWays_89 ?_
      refine q_iload dX4_countWays_90 6 rfl ?_
      refine q_iadd dX4_countWays_92 ?_
      refine q_dup2 dX4_countWays_93 rfl rfl ?_
      refine C_ld hf dX4_countWays_94 (fun v94 hf => ?_)
      refine q_aloadn dX4_countWays_95 0 rfl ?_
      refine C_g4_8 flX4_42 dX4_countWays_96 ?_
      refine q_iload dX4_countWays_99 5 rfl ?_
      refine q_iconst dX4_countWays_101 ?_
      refine q_isub dX4_countWays_102 ?_
      refine q_bipush dX4_countWays_103 (by decide) ?_
      refine q_imul dX4_countWays_105 ?_
      refine q_iload dX4_countWays_106 6 rfl ?_
      refine q_iadd dX4_countWays_108 ?_
      refine q_iload dX4_countWays_109 4 rfl ?_
      refine q_isub dX4_countWays_111 ?_
      refine C_ld hf dX4_countWays_112 (fun v112 hf => ?_)
      refine q_iadd dX4_countWays_113 ?_
      refine C_st hf dX4_countWays_114 (fun h114 hf => ?_)
      refine q_iinc dX4_countWays_115 6 rfl rfl (loc' := [(6, vi (x6 + 1)), (0, .ref (ad 0)), (1, vi x1), (2, vi x2), (3, vi x3), (4, vi x4), (5, vi x5)]) rfl ?_
      refine q_goto dX4_countWays_118 75 (by decide) ?_
      refine q_loc (loc' := [(0, .ref (ad 0)), (1, vi x1), (2, vi x2), (3, vi x3), (4, vi x4), (5, vi x5), (6, vi (x6 + 1))]) [1, 2, 3, 4, 5, 6, 0] rfl ?_
      exact ih x1 x2 x3 x4 x5 (x6 + 1) h114 hf
def bX4_countWays_65 (k56 : Int → Int → Int → Int → HP → Option (Int × HP)) (self : Int → Int → Int → Int → Int → HP → Option (Int × HP)) (x1 : Int) (x2 : Int) (x3 : Int) (x4 : Int) (x5 : Int) (h : HP) : Option (Int × HP) :=
  if wi x5 ≤ wi x2 then (LX4_countWays_75 self FU x1 x2 x3 x4 x5 x4 h) else (k56 x1 x2 x3 (x4 + 1) h)
def LX4_countWays_65 (k56 : Int → Int → Int → Int → HP → Option (Int × HP)) : Nat → Int → Int → Int → Int → Int → HP → Option (Int × HP)
  | 0 => fun _ _ _ _ _ _ => none
  | n + 1 => bX4_countWays_65 k56 (LX4_countWays_65 k56 n)
set_option maxRecDepth 20000 in
theorem tX4_countWays_65 {l : Launch} {D : va_G} {ad : Nat → Nat} {cI cR : ClassId} {Z : Int × HP} {k56 : Int → Int → Int → Int → HP → Option (Int × HP)} (hk56 : ∀ (x1 : Int) (x2 : Int) (x3 : Int) (x4 : Int) (h : HP), k56 x1 x2 x3 x4 h = some Z → Rn (sdC l D ad cI cR) mX4_countWays (rv Z) 56 [(0, .ref (ad 0)), (1, vi x1), (2, vi x2), (3, vi x3), (4, vi x4)] [] h) : ∀ (n : Nat) (x1 : Int) (x2 : Int) (x3 : Int) (x4 : Int) (x5 : Int) (h : HP), LX4_countWays_65 k56 n x1 x2 x3 x4 x5 h = some Z → Rn (sdC l D ad cI cR) mX4_countWays (rv Z) 65 [(0, .ref (ad 0)), (1, vi x1), (2, vi x2), (3, vi x3), (4, vi x4), (5, vi x5)] [] h := by
  intro n
  induction n with
  | zero => intro x1 x2 x3 x4 x5 h hf; cases hf
  | succ n ih =>
    intro x1 x2 x3 x4 x5 h hf
    replace hf : bX4_countWays_65 k56 (LX4_countWays_65 k56 n) x1 x2 x3 x4 x5 h = some Z := hf
    unfold bX4_countWays_65 at hf
    refine q_iload dX4_countWays_65 5 rfl ?_
    refine q_iloadn dX4_countWays_67 2 rfl ?_
    refine q_icmp_gt hf dX4_countWays_68 127 (by decide) (fun hf => ?_) (fun hf => ?_)
    · refine q_iinc dX4_countWays_127 4 rfl rfl (loc' := [(4, vi (x4 + 1)), (0, .ref (ad 0)), (1, vi x1), (2, vi x2), (3, vi x3), (5, vi x5)]) rfl ?_
      refine q_goto dX4_countWays_130 56 (by decide) ?_
      refine q_loc (loc' := [(0, .ref (ad 0)), (1, vi x1), (2, vi x2), (3, vi x3), (4, vi (x4 + 1))]) [1, 2, 3, 4, 0] rfl ?_
      exact hk56 x1 x2 x3 (x4 + 1) h hf
    · refine q_iload dX4_countWays_71 4 rfl ?_
      refine q_istore dX4_countWays_73 rfl (loc' := [(6, vi x4), (0, .ref (ad 0)), (1, vi x1), (2, vi x2), (3, vi x3), (4, vi x4), (5, vi x5)]) rfl ?_
      refine q_loc (loc' := [(0, .ref (ad 0)), (1, vi x1), (2, vi x2), (3, vi x3), (4, vi x4), (5, vi x5), (6, vi x4)]) [1, 2, 3, 4, 5, 6, 0] rfl ?_
      exact tX4_countWays_75 ih FU x1 x2 x3 x4 x5 x4 h hf
def bX4_countWays_56 (self : Int → Int → Int → Int → HP → Option (Int × HP)) (x1 : Int) (x2 : Int) (x3 : Int) (x4 : Int) (h : HP) : Option (Int × HP) :=
  if wi x4 ≤ wi x1 then (LX4_countWays_65 self FU x1 x2 x3 x4 1 h) else (some (0, h))
def LX4_countWays_56 : Nat → Int → Int → Int → Int → HP → Option (Int × HP)
  | 0 => fun _ _ _ _ _ => none
  | n + 1 => bX4_countWays_56 (LX4_countWays_56 n)
set_option maxRecDepth 20000 in
theorem tX4_countWays_56 {l : Launch} {D : va_G} {ad : Nat → Nat} {cI cR : ClassId} {Z : Int × HP} : ∀ (n : Nat) (x1 : Int) (x2 : Int) (x3 : Int) (x4 : Int) (h : HP), LX4_countWays_56 n x1 x2 x3 x4 h = some Z → Rn (sdC l D ad cI cR) mX4_countWays (rv Z) 56 [(0, .ref (ad 0)), (1, vi x1), (2, vi x2), (3, vi x3), (4, vi x4)] [] h := by
  intro n
  induction n with
  | zero => intro x1 x2 x3 x4 h hf; cases hf
  | succ n ih =>
    intro x1 x2 x3 x4 h hf
    replace hf : bX4_countWays_56 (LX4_countWays_56 n) x1 x2 x3 x4 h = some Z := hf
    unfold bX4_countWays_56 at hf
    refine q_iload dX4_countWays_56 4 rfl ?_
    refine q_iloadn dX4_countWays_58 1 rfl ?_
    refine q_icmp_gt hf dX4_countWays_59 133 (by decide) (fun hf => ?_) (fun hf => ?_)
    · exact q_vret hf rfl dX4_countWays_133
    · refine q_iconst dX4_countWays_62 ?_
      refine q_istore dX4_countWays_63 rfl (loc' := [(5, vi 1), (0, .ref (ad 0)), (1, vi x1), (2, vi x2), (3, vi x3), (4, vi x4)]) rfl ?_
      refine q_loc (loc' := [(0, .ref (ad 0)), (1, vi x1), (2, vi x2), (3, vi x3), (4, vi x4), (5, vi 1)]) [1, 2, 3, 4, 5, 0] rfl ?_
      exact tX4_countWays_65 ih FU x1 x2 x3 x4 1 h hf
def bX4_countWays_3 (self : Int → Int → Int → Int → HP → Option (Int × HP)) (x1 : Int) (x2 : Int) (x3 : Int) (x4 : Int) (h : HP) : Option (Int × HP) :=
  if wi x4 ≤ wi x2 then (LX4_countWays_12 self FU x1 x2 x3 x4 0 h) else (LX4_countWays_56 FU x1 x2 x3 1 h)
def LX4_countWays_3 : Nat → Int → Int → Int → Int → HP → Option (Int × HP)
  | 0 => fun _ _ _ _ _ => none
  | n + 1 => bX4_countWays_3 (LX4_countWays_3 n)
set_option maxRecDepth 20000 in
theorem tX4_countWays_3 {l : Launch} {D : va_G} {ad : Nat → Nat} {cI cR : ClassId} {Z : Int × HP} : ∀ (n : Nat) (x1 : Int) (x2 : Int) (x3 : Int) (x4 : Int) (h : HP), LX4_countWays_3 n x1 x2 x3 x4 h = some Z → Rn (sdC l D ad cI cR) mX4_countWays (rv Z) 3 [(0, .ref (ad 0)), (1, vi x1), (2, vi x2), (3, vi x3), (4, vi x4)] [] h := by
  intro n
  induction n with
  | zero => intro x1 x2 x3 x4 h hf; cases hf
  | succ n ih =>
    intro x1 x2 x3 x4 h hf
    replace hf : bX4_countWays_3 (LX4_countWays_3 n) x1 x2 x3 x4 h = some Z := hf
    unfold bX4_countWays_3 at hf
    refine q_iload dX4_countWays_3 4 rfl ?_
    refine q_iloadn dX4_countWays_5 2 rfl ?_
    refine q_icmp_gt hf dX4_countWays_6 53 (by decide) (fun hf => ?_) (fun hf => ?_)
    · refine q_iconst dX4_countWays_53 ?_
      refine q_istore dX4_countWays_54 rfl (loc' := [(4, vi 1), (0, .ref (ad 0)), (1, vi x1), (2, vi x2), (3, vi x3)]) rfl ?_
      refine q_loc (loc' := [(0, .ref (ad 0)), (1, vi x1), (2, vi x2), (3, vi x3), (4, vi 1)]) [1, 2, 3, 4, 0] rfl ?_
      exact tX4_countWays_56 FU x1 x2 x3 1 h hf
    · refine q_iconst dX4_countWays_9 ?_
      refine q_istore dX4_countWays_10 rfl (loc' := [(5, vi 0), (0, .ref (ad 0)), (1, vi x1), (2, vi x2), (3, vi x3), (4, vi x4)]) rfl ?_
      refine q_loc (loc' := [(0, .ref (ad 0)), (1, vi x1), (2, vi x2), (3, vi x3), (4, vi x4), (5, vi 0)]) [1, 2, 3, 4, 5, 0] rfl ?_
      exact tX4_countWays_12 ih FU x1 x2 x3 x4 0 h hf
def fX4_countWays (x1 : Int) (x2 : Int) (x3 : Int) (h : HP) : Option (Int × HP) :=
  LX4_countWays_3 FU x1 x2 x3 0 h
set_option maxRecDepth 20000 in
theorem ctX4_countWays {l : Launch} {D : va_G} {ad : Nat → Nat} {cI cR : ClassId} {x1 : Int} {x2 : Int} {x3 : Int} {h : HP} {Z : Int × HP} (hf : fX4_countWays x1 x2 x3 h = some Z) : Ct (sdC l D ad cI cR) mX4_countWays [.ref (ad 0), vi x1, vi x2, vi x3] h (rv Z) := by
  refine Ct.ofF nX4_countWays rfl (loc := [(0, .ref (ad 0)), (1, vi x1), (2, vi x2), (3, vi x3)]) rfl ?_
  unfold fX4_countWays at hf
  refine q_iconst dX4_countWays_0 ?_
  refine q_istore dX4_countWays_1 rfl (loc' := [(4, vi 0), (0, .ref (ad 0)), (1, vi x1), (2, vi x2), (3, vi x3)]) rfl ?_
  refine q_loc (loc' := [(0, .ref (ad 0)), (1, vi x1), (2, vi x2), (3, vi x3), (4, vi 0)]) [1, 2, 3, 4, 0] rfl ?_
  exact tX4_countWays_3 FU x1 x2 x3 0 h hf
def fX4_staying (x1 : Int) (x2 : Int) (x3 : Int) (h : HP) : Option (Int × HP) :=
  if wi 1 ≤ wi x1 then (if wi x1 ≤ wi 8 then (if 0 ≤ wi x2 then (if wi x2 ≤ wi 8 then (if 0 ≤ wi x3 then (if wi (x1 * x2) < wi x3 then (some ((-2), h)) else (lt ((x1 * x2) - x3) fun x4_40 => if wi (Int.tmod (wi x4_40) (wi 2)) = 0 then (lt (Int.tdiv (wi x4_40) (wi 2)) fun x5_55 => cl (fX4_countWays x1 x2 x5_55 h) fun _ h62 => ld (lnC 29) (h62 29) ((x2 * 33) + x5_55) fun v76 => if wi x5_55 = 0 then (some (v76, h62)) else (ld (lnC 29) (h62 29) (((x2 * 33) + x5_55) - 1) fun v104 => some (v76 - v104, h62))) else (some (0, h)))) else (some ((-2), h))) else (some ((-2), h))) else (some ((-2), h))) else (some ((-2), h))) else (some ((-2), h))
set_option maxRecDepth 20000 in
theorem ctX4_staying {l : Launch} {D : va_G} {ad : Nat → Nat} {cI cR : ClassId} {x1 : Int} {x2 : Int} {x3 : Int} {h : HP} {Z : Int × HP} (hf : fX4_staying x1 x2 x3 h = some Z) : Ct (sdC l D ad cI cR) mX4_staying [.ref (ad 0), vi x1, vi x2, vi x3] h (ri Z) := by
  refine Ct.ofF nX4_staying rfl (loc := [(0, .ref (ad 0)), (1, vi x1), (2, vi x2), (3, vi x3)]) rfl ?_
  unfold fX4_staying at hf
  refine q_iloadn dX4_staying_0 1 rfl ?_
  refine q_iconst dX4_staying_1 ?_
  refine q_icmp_lt hf dX4_staying_2 32 (by decide) (fun hf => ?_) (fun hf => ?_)
  · refine q_bipush dX4_staying_32 (by decide) ?_
    exact q_iret hf rfl dX4_staying_34
  · refine q_iloadn dX4_staying_5 1 rfl ?_
    refine q_bipush dX4_staying_6 (by decide) ?_
    refine q_icmp_gt hf dX4_staying_8 32 (by decide) (fun hf => ?_) (fun hf => ?_)
    · refine q_bipush dX4_staying_32 (by decide) ?_
      exact q_iret hf rfl dX4_staying_34
    · refine q_iloadn dX4_staying_11 2 rfl ?_
      refine q_if_lt hf dX4_staying_12 32 (by decide) (fun hf => ?_) (fun hf => ?_)
      · refine q_bipush dX4_staying_32 (by decide) ?_
        exact q_iret hf rfl dX4_staying_34
      · refine q_iloadn dX4_staying_15 2 rfl ?_
        refine q_bipush dX4_staying_16 (by decide) ?_
        refine q_icmp_gt hf dX4_staying_18 32 (by decide) (fun hf => ?_) (fun hf => ?_)
        · refine q_bipush dX4_staying_32 (by decide) ?_
          exact q_iret hf rfl dX4_staying_34
        · refine q_iloadn dX4_staying_21 3 rfl ?_
          refine q_if_lt hf dX4_staying_22 32 (by decide) (fun hf => ?_) (fun hf => ?_)
          · refine q_bipush dX4_staying_32 (by decide) ?_
            exact q_iret hf rfl dX4_staying_34
          · refine q_iloadn dX4_staying_25 3 rfl ?_
            refine q_iloadn dX4_staying_26 1 rfl ?_
            refine q_iloadn dX4_staying_27 2 rfl ?_
            refine q_imul dX4_staying_28 ?_
            refine q_icmp_le hf dX4_staying_29 35 (by decide) (fun hf => ?_) (fun hf => ?_)
            · refine q_iloadn dX4_staying_35 1 rfl ?_
              refine q_iloadn dX4_staying_36 2 rfl ?_
              refine q_imul dX4_staying_37 ?_
              refine q_iloadn dX4_staying_38 3 rfl ?_
              refine q_isub dX4_staying_39 ?_
              refine q_lt hf (fun x4_40 hf => ?_)
              refine q_istore dX4_staying_40 rfl (loc' := [(4, vi x4_40), (0, .ref (ad 0)), (1, vi x1), (2, vi x2), (3, vi x3)]) rfl ?_
              refine q_iload dX4_staying_42 0 rfl ?_
              refine q_iconst dX4_staying_44 ?_
              refine q_irem dX4_staying_45 nz2 ?_
              refine q_if_eq hf dX4_staying_46 51 (by decide) (fun hf => ?_) (fun hf => ?_)
              · refine q_iload dX4_staying_51 0 rfl ?_
                refine q_iconst dX4_staying_53 ?_
                refine q_idiv dX4_staying_54 nz2 ?_
                refine q_lt hf (fun x5_55 hf => ?_)
                refine q_istore dX4_staying_55 rfl (loc' := [(5, vi x5_55), (4, vi x4_40), (0, .ref (ad 0)), (1, vi x1), (2, vi x2), (3, vi x3)]) rfl ?_
                refine q_aloadn dX4_staying_57 2 rfl ?_
                refine q_iloadn dX4_staying_58 3 rfl ?_
                refine q_iloadn dX4_staying_59 4 rfl ?_
                refine q_iload dX4_staying_60 0 rfl ?_
                obtain ⟨r62, h62, e62, hf⟩ := q_cl hf
                refine q_cVv (av := [vi x1, vi x2, vi x5_55]) (rest := []) wC_0 (ctX4_countWays e62) kX4_countWays vX4_countWays zX4_countWays lkX4_211 rfl rfl rfl rfl rfl dX4_staying_62 ?_
                refine q_aloadn dX4_staying_65 2 rfl ?_
                refine C_g4_8 flX4_42 dX4_staying_66 ?_
                refine q_iloadn dX4_staying_69 4 rfl ?_
                refine q_bipush dX4_staying_70 (by decide) ?_
                refine q_imul dX4_staying_72 ?_
                refine q_iload dX4_staying_73 0 rfl ?_
                refine q_iadd dX4_staying_75 ?_
                refine C_ld hf dX4_staying_76 (fun v76 hf => ?_)
                refine q_istore dX4_staying_77 rfl (loc' := [(6, vi v76), (5, vi x5_55), (4, vi x4_40), (0, .ref (ad 0)), (1, vi x1), (2, vi x2), (3, vi x3)]) rfl ?_
                refine q_iload dX4_staying_79 1 rfl ?_
                refine q_if_ne hf dX4_staying_81 89 (by decide) (fun hf => ?_) (fun hf => ?_)
                · refine q_iload dX4_staying_89 0 rfl ?_
                  refine q_aloadn dX4_staying_91 3 rfl ?_
                  refine C_g4_8 flX4_42 dX4_staying_92 ?_
                  refine q_iloadn dX4_staying_95 5 rfl ?_
                  refine q_bipush dX4_staying_96 (by decide) ?_
                  refine q_imul dX4_staying_98 ?_
                  refine q_iload dX4_staying_99 1 rfl ?_
                  refine q_iadd dX4_staying_101 ?_
                  refine q_iconst dX4_staying_102 ?_
                  refine q_isub dX4_staying_103 ?_
                  refine C_ld hf dX4_staying_104 (fun v104 hf => ?_)
                  refine q_isub dX4_staying_105 ?_
                  exact q_iret hf rfl dX4_staying_106
                · refine q_iload dX4_staying_84 0 rfl ?_
                  refine q_goto dX4_staying_86 106 (by decide) ?_
                  exact q_iret hf rfl dX4_staying_106
              · refine q_iconst dX4_staying_49 ?_
                exact q_iret hf rfl dX4_staying_50
            · refine q_bipush dX4_staying_32 (by decide) ?_
              exact q_iret hf rfl dX4_staying_34
def bX4_countSheets_4 (self : Int → Int → Int → HP → Option (Int × HP)) (x1 : Int) (x2 : Int) (x3 : Int) (h : HP) : Option (Int × HP) :=
  if wi x3 < wi 10 then (if wi x1 = 0 then (lda x3 fun q34 => cl (fX3_isLost q34 h) fun r35 h35 => if wi r35 = 0 then (self x1 (x2 + 1) (x3 + 1) h35) else (self x1 x2 (x3 + 1) h35)) else (lda x3 fun q19 => cl (fX3_isForm q19 h) fun r20 h20 => if wi r20 = 0 then (self x1 x2 (x3 + 1) h20) else (self x1 (x2 + 1) (x3 + 1) h20))) else (some (x2, h))
def LX4_countSheets_4 : Nat → Int → Int → Int → HP → Option (Int × HP)
  | 0 => fun _ _ _ _ => none
  | n + 1 => bX4_countSheets_4 (LX4_countSheets_4 n)
set_option maxRecDepth 20000 in
theorem tX4_countSheets_4 {l : Launch} {D : va_G} {ad : Nat → Nat} {cI cR : ClassId} {Z : Int × HP} : ∀ (n : Nat) (x1 : Int) (x2 : Int) (x3 : Int) (h : HP), LX4_countSheets_4 n x1 x2 x3 h = some Z → Rn (sdC l D ad cI cR) mX4_countSheets (ri Z) 4 [(0, .ref (ad 0)), (1, vi x1), (2, vi x2), (3, vi x3)] [] h := by
  intro n
  induction n with
  | zero => intro x1 x2 x3 h hf; cases hf
  | succ n ih =>
    intro x1 x2 x3 h hf
    replace hf : bX4_countSheets_4 (LX4_countSheets_4 n) x1 x2 x3 h = some Z := hf
    unfold bX4_countSheets_4 at hf
    refine q_iloadn dX4_countSheets_4 3 rfl ?_
    refine q_bipush dX4_countSheets_5 (by decide) ?_
    refine q_icmp_ge hf dX4_countSheets_7 50 (by decide) (fun hf => ?_) (fun hf => ?_)
    · refine q_iloadn dX4_countSheets_50 2 rfl ?_
      exact q_iret hf rfl dX4_countSheets_51
    · refine q_iloadn dX4_countSheets_10 1 rfl ?_
      refine q_if_eq hf dX4_countSheets_11 29 (by decide) (fun hf => ?_) (fun hf => ?_)
      · refine q_aloadn dX4_countSheets_29 0 rfl ?_
        refine C_g4_0 flX4_11 dX4_countSheets_30 ?_
        refine q_iloadn dX4_countSheets_33 3 rfl ?_
        refine C_ald hf dX4_countSheets_34 (fun q34 p34 hf => ?_)
        obtain ⟨r35, h35, e35, hf⟩ := q_cl hf
        refine q_cVi (av := []) (rest := []) (wC_sh p34) (ctX3_isLost p34 e35) kX3_isLost vX3_isLost zX3_isLost lkX4_226 rfl rfl rfl rfl rfl dX4_countSheets_35 ?_
        refine q_if_ne hf dX4_countSheets_38 44 (by decide) (fun hf => ?_) (fun hf => ?_)
        · refine q_iinc dX4_countSheets_44 3 rfl rfl (loc' := [(3, vi (x3 + 1)), (0, .ref (ad 0)), (1, vi x1), (2, vi x2)]) rfl ?_
          refine q_goto dX4_countSheets_47 4 (by decide) ?_
          refine q_loc (loc' := [(0, .ref (ad 0)), (1, vi x1), (2, vi x2), (3, vi (x3 + 1))]) [1, 2, 3, 0] rfl ?_
          exact ih x1 x2 (x3 + 1) h35 hf
        · refine q_iinc dX4_countSheets_41 2 rfl rfl (loc' := [(2, vi (x2 + 1)), (0, .ref (ad 0)), (1, vi x1), (3, vi x3)]) rfl ?_
          refine q_iinc dX4_countSheets_44 3 rfl rfl (loc' := [(3, vi (x3 + 1)), (2, vi (x2 + 1)), (0, .ref (ad 0)), (1, vi x1)]) rfl ?_
          refine q_goto dX4_countSheets_47 4 (by decide) ?_
          refine q_loc (loc' := [(0, .ref (ad 0)), (1, vi x1), (2, vi (x2 + 1)), (3, vi (x3 + 1))]) [2, 3, 1, 0] rfl ?_
          exact ih x1 (x2 + 1) (x3 + 1) h35 hf
      · refine q_aloadn dX4_countSheets_14 0 rfl ?_
        refine C_g4_0 flX4_11 dX4_countSheets_15 ?_
        refine q_iloadn dX4_countSheets_18 3 rfl ?_
        refine C_ald hf dX4_countSheets_19 (fun q19 p19 hf => ?_)
        obtain ⟨r20, h20, e20, hf⟩ := q_cl hf
        refine q_cVi (av := []) (rest := []) (wC_sh p19) (ctX3_isForm p19 e20) kX3_isForm vX3_isForm zX3_isForm lkX4_165 rfl rfl rfl rfl rfl dX4_countSheets_20 ?_
        refine q_if_eq hf dX4_countSheets_23 44 (by decide) (fun hf => ?_) (fun hf => ?_)
        · refine q_iinc dX4_countSheets_44 3 rfl rfl (loc' := [(3, vi (x3 + 1)), (0, .ref (ad 0)), (1, vi x1), (2, vi x2)]) rfl ?_
          refine q_goto dX4_countSheets_47 4 (by decide) ?_
          refine q_loc (loc' := [(0, .ref (ad 0)), (1, vi x1), (2, vi x2), (3, vi (x3 + 1))]) [1, 2, 3, 0] rfl ?_
          exact ih x1 x2 (x3 + 1) h20 hf
        · refine q_goto dX4_countSheets_26 41 (by decide) ?_
          refine q_iinc dX4_countSheets_41 2 rfl rfl (loc' := [(2, vi (x2 + 1)), (0, .ref (ad 0)), (1, vi x1), (3, vi x3)]) rfl ?_
          refine q_iinc dX4_countSheets_44 3 rfl rfl (loc' := [(3, vi (x3 + 1)), (2, vi (x2 + 1)), (0, .ref (ad 0)), (1, vi x1)]) rfl ?_
          refine q_goto dX4_countSheets_47 4 (by decide) ?_
          refine q_loc (loc' := [(0, .ref (ad 0)), (1, vi x1), (2, vi (x2 + 1)), (3, vi (x3 + 1))]) [2, 3, 1, 0] rfl ?_
          exact ih x1 (x2 + 1) (x3 + 1) h20 hf
def fX4_countSheets (x1 : Int) (h : HP) : Option (Int × HP) :=
  LX4_countSheets_4 FU x1 0 0 h
set_option maxRecDepth 20000 in
theorem ctX4_countSheets {l : Launch} {D : va_G} {ad : Nat → Nat} {cI cR : ClassId} {x1 : Int} {h : HP} {Z : Int × HP} (hf : fX4_countSheets x1 h = some Z) : Ct (sdC l D ad cI cR) mX4_countSheets [.ref (ad 0), vi x1] h (ri Z) := by
  refine Ct.ofF nX4_countSheets rfl (loc := [(0, .ref (ad 0)), (1, vi x1)]) rfl ?_
  unfold fX4_countSheets at hf
  refine q_iconst dX4_countSheets_0 ?_
  refine q_istoren dX4_countSheets_1 rfl (loc' := [(2, vi 0), (0, .ref (ad 0)), (1, vi x1)]) rfl ?_
  refine q_iconst dX4_countSheets_2 ?_
  refine q_istoren dX4_countSheets_3 rfl (loc' := [(3, vi 0), (2, vi 0), (0, .ref (ad 0)), (1, vi x1)]) rfl ?_
  refine q_loc (loc' := [(0, .ref (ad 0)), (1, vi x1), (2, vi 0), (3, vi 0)]) [2, 3, 1, 0] rfl ?_
  exact tX4_countSheets_4 FU x1 0 0 h hf
def fX4_count (x1 : Int) (h : HP) : Option (Int × HP) :=
  if wi x1 = 0 then (cl (fX4_countSheets 0 h) fun r30 h30 => some (r30, h30)) else (if wi x1 = 1 then (some (h 0 1, h)) else (if wi x1 = 2 then (cl (fX4_countSheets 1 h) fun r41 h41 => some (r41, h41)) else (some ((-2), h))))
set_option maxRecDepth 20000 in
theorem ctX4_count {l : Launch} {D : va_G} {ad : Nat → Nat} {cI cR : ClassId} {x1 : Int} {h : HP} {Z : Int × HP} (hf : fX4_count x1 h = some Z) : Ct (sdC l D ad cI cR) mX4_count [.ref (ad 0), vi x1] h (ri Z) := by
  refine Ct.ofF nX4_count rfl (loc := [(0, .ref (ad 0)), (1, vi x1)]) rfl ?_
  unfold fX4_count at hf
  refine q_iloadn dX4_count_0 1 rfl ?_
  by_cases c1_0 : wi x1 = 0
  · rw [if_pos c1_0] at hf
    refine q_tswIn 0 c1_0 dX4_count_1 (by decide) (by decide) rfl 28 (by decide) ?_
    refine q_aloadn dX4_count_28 0 rfl ?_
    refine q_iconst dX4_count_29 ?_
    obtain ⟨r30, h30, e30, hf⟩ := q_cl hf
    refine q_cVi (av := [vi 0]) (rest := []) wC_0 (ctX4_countSheets e30) kX4_countSheets vX4_countSheets zX4_countSheets lkX4_214 rfl rfl rfl rfl rfl dX4_count_30 ?_
    exact q_iret hf rfl dX4_count_33
  · rw [if_neg c1_0] at hf
    by_cases c1_1 : wi x1 = 1
    · rw [if_pos c1_1] at hf
      refine q_tswIn 1 c1_1 dX4_count_1 (by decide) (by decide) rfl 34 (by decide) ?_
      refine q_aloadn dX4_count_34 0 rfl ?_
      refine C_g4_1 flX4_15 dX4_count_35 ?_
      exact q_iret hf rfl dX4_count_38
    · rw [if_neg c1_1] at hf
      by_cases c1_2 : wi x1 = 2
      · rw [if_pos c1_2] at hf
        refine q_tswIn 2 c1_2 dX4_count_1 (by decide) (by decide) rfl 39 (by decide) ?_
        refine q_aloadn dX4_count_39 0 rfl ?_
        refine q_iconst dX4_count_40 ?_
        obtain ⟨r41, h41, e41, hf⟩ := q_cl hf
        refine q_cVi (av := [vi 1]) (rest := []) wC_0 (ctX4_countSheets e41) kX4_countSheets vX4_countSheets zX4_countSheets lkX4_214 rfl rfl rfl rfl rfl dX4_count_41 ?_
        exact q_iret hf rfl dX4_count_44
      · rw [if_neg c1_2] at hf
        refine q_tswOut (by omega) dX4_count_1 45 (by decide) ?_
        refine q_bipush dX4_count_45 (by decide) ?_
        exact q_iret hf rfl dX4_count_47
def bX4_digest_32 (self : Int → Int → HP → Option (Int × HP)) (x1 : Int) (x3 : Int) (h : HP) : Option (Int × HP) :=
  if wi x3 < wi 10 then (lda x3 fun q43 => cl (fX3_isForm q43 h) fun r44 h44 => if wi r44 = 0 then (self x1 (x3 + 1) h44) else (lt ((31 * x1) + (wi x3)) fun x1_58 => lda x3 fun q64 => cl (fX3_addTo q64 x1_58 h44) fun r66 h66 => self r66 (x3 + 1) h66)) else (some (x1, h))
def LX4_digest_32 : Nat → Int → Int → HP → Option (Int × HP)
  | 0 => fun _ _ _ => none
  | n + 1 => bX4_digest_32 (LX4_digest_32 n)
set_option maxRecDepth 20000 in
theorem tX4_digest_32 {l : Launch} {D : va_G} {ad : Nat → Nat} {cI cR : ClassId} {Z : Int × HP} : ∀ (n : Nat) (x1 : Int) (x3 : Int) (h : HP), LX4_digest_32 n x1 x3 h = some Z → Rn (sdC l D ad cI cR) mX4_digest (rl Z) 32 [(0, .ref (ad 0)), (1, vl x1), (3, vi x3)] [] h := by
  intro n
  induction n with
  | zero => intro x1 x3 h hf; cases hf
  | succ n ih =>
    intro x1 x3 h hf
    replace hf : bX4_digest_32 (LX4_digest_32 n) x1 x3 h = some Z := hf
    unfold bX4_digest_32 at hf
    refine q_iloadn dX4_digest_32 2 rfl ?_
    refine q_bipush dX4_digest_33 (by decide) ?_
    refine q_icmp_ge hf dX4_digest_35 76 (by decide) (fun hf => ?_) (fun hf => ?_)
    · refine q_lloadn dX4_digest_76 1 rfl ?_
      exact q_lret hf rfl dX4_digest_77
    · refine q_aloadn dX4_digest_38 0 rfl ?_
      refine C_g4_0 flX4_11 dX4_digest_39 ?_
      refine q_iloadn dX4_digest_42 2 rfl ?_
      refine C_ald hf dX4_digest_43 (fun q43 p43 hf => ?_)
      obtain ⟨r44, h44, e44, hf⟩ := q_cl hf
      refine q_cVi (av := []) (rest := []) (wC_sh p43) (ctX3_isForm p43 e44) kX3_isForm vX3_isForm zX3_isForm lkX4_165 rfl rfl rfl rfl rfl dX4_digest_44 ?_
      refine q_if_eq hf dX4_digest_47 70 (by decide) (fun hf => ?_) (fun hf => ?_)
      · refine q_iinc dX4_digest_70 2 rfl rfl (loc' := [(3, vi (x3 + 1)), (0, .ref (ad 0)), (1, vl x1)]) rfl ?_
        refine q_goto dX4_digest_73 32 (by decide) ?_
        refine q_loc (loc' := [(0, .ref (ad 0)), (1, vl x1), (3, vi (x3 + 1))]) [1, 2, 0] rfl ?_
        exact ih x1 (x3 + 1) h44 hf
      · refine q_ldc2 (n := 31) dX4_digest_50 kcX4_220 ?_
        refine q_lloadn dX4_digest_53 1 rfl ?_
        refine q_lmul dX4_digest_54 ?_
        refine q_iloadn dX4_digest_55 2 rfl ?_
        refine q_i2l dX4_digest_56 ?_
        refine q_ladd dX4_digest_57 ?_
        refine q_ltl hf (fun x1_58 hf => ?_)
        refine q_lstoren dX4_digest_58 rfl (loc' := [(1, vl x1_58), (0, .ref (ad 0)), (3, vi x3)]) rfl ?_
        refine q_aloadn dX4_digest_59 1 rfl ?_
        refine C_g4_0 flX4_11 dX4_digest_60 ?_
        refine q_iloadn dX4_digest_63 2 rfl ?_
        refine C_ald hf dX4_digest_64 (fun q64 p64 hf => ?_)
        refine q_lloadn dX4_digest_65 0 rfl ?_
        obtain ⟨r66, h66, e66, hf⟩ := q_cl hf
        refine q_cVl (av := [vl x1_58]) (rest := []) (wC_sh p64) (ctX3_addTo p64 e66) kX3_addTo vX3_addTo zX3_addTo lkX4_222 rfl rfl rfl rfl rfl dX4_digest_66 ?_
        refine q_lstoren dX4_digest_69 rfl (loc' := [(1, vl r66), (0, .ref (ad 0)), (3, vi x3)]) rfl ?_
        refine q_iinc dX4_digest_70 2 rfl rfl (loc' := [(3, vi (x3 + 1)), (1, vl r66), (0, .ref (ad 0))]) rfl ?_
        refine q_goto dX4_digest_73 32 (by decide) ?_
        refine q_loc (loc' := [(0, .ref (ad 0)), (1, vl r66), (3, vi (x3 + 1))]) [2, 1, 0] rfl ?_
        exact ih r66 (x3 + 1) h66 hf
def fX4_digest (h : HP) : Option (Int × HP) :=
  cl (fX4_countSheets 0 h) fun r11 h11 => lt ((31 * 17) + (wi r11)) fun x1_16 => cl (fX4_countSheets 1 h11) fun r24 h24 => lt ((31 * x1_16) + (wi r24)) fun x1_29 => LX4_digest_32 FU x1_29 0 h24
set_option maxRecDepth 20000 in
theorem ctX4_digest {l : Launch} {D : va_G} {ad : Nat → Nat} {cI cR : ClassId} {h : HP} {Z : Int × HP} (hf : fX4_digest h = some Z) : Ct (sdC l D ad cI cR) mX4_digest [.ref (ad 0)] h (rl Z) := by
  refine Ct.ofF nX4_digest rfl (loc := [(0, .ref (ad 0))]) rfl ?_
  unfold fX4_digest at hf
  refine q_ldc2 (n := 17) dX4_digest_0 kcX4_218 ?_
  refine q_lstoren dX4_digest_3 rfl (loc' := [(1, vl 17), (0, .ref (ad 0))]) rfl ?_
  refine q_ldc2 (n := 31) dX4_digest_4 kcX4_220 ?_
  refine q_lloadn dX4_digest_7 0 rfl ?_
  refine q_lmul dX4_digest_8 ?_
  refine q_aloadn dX4_digest_9 1 rfl ?_
  refine q_iconst dX4_digest_10 ?_
  obtain ⟨r11, h11, e11, hf⟩ := q_cl hf
  refine q_cVi (av := [vi 0]) (rest := [vl (31 * 17)]) wC_0 (ctX4_countSheets e11) kX4_countSheets vX4_countSheets zX4_countSheets lkX4_214 rfl rfl rfl rfl rfl dX4_digest_11 ?_
  refine q_i2l dX4_digest_14 ?_
  refine q_ladd dX4_digest_15 ?_
  refine q_ltl hf (fun x1_16 hf => ?_)
  refine q_lstoren dX4_digest_16 rfl (loc' := [(1, vl x1_16), (0, .ref (ad 0))]) rfl ?_
  refine q_ldc2 (n := 31) dX4_digest_17 kcX4_220 ?_
  refine q_lloadn dX4_digest_20 0 rfl ?_
  refine q_lmul dX4_digest_21 ?_
  refine q_aloadn dX4_digest_22 1 rfl ?_
  refine q_iconst dX4_digest_23 ?_
  obtain ⟨r24, h24, e24, hf⟩ := q_cl hf
  refine q_cVi (av := [vi 1]) (rest := [vl (31 * x1_16)]) wC_0 (ctX4_countSheets e24) kX4_countSheets vX4_countSheets zX4_countSheets lkX4_214 rfl rfl rfl rfl rfl dX4_digest_24 ?_
  refine q_i2l dX4_digest_27 ?_
  refine q_ladd dX4_digest_28 ?_
  refine q_ltl hf (fun x1_29 hf => ?_)
  refine q_lstoren dX4_digest_29 rfl (loc' := [(1, vl x1_29), (0, .ref (ad 0))]) rfl ?_
  refine q_iconst dX4_digest_30 ?_
  refine q_istoren dX4_digest_31 rfl (loc' := [(3, vi 0), (1, vl x1_29), (0, .ref (ad 0))]) rfl ?_
  refine q_loc (loc' := [(0, .ref (ad 0)), (1, vl x1_29), (3, vi 0)]) [2, 1, 0] rfl ?_
  exact tX4_digest_32 FU x1_29 0 h24 hf
