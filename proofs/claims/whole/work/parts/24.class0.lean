def fX4_noSheet (x0 : Int) (h : HP) : Option (Int × HP) :=
  if 0 ≤ wi x0 then (if wi 10 ≤ wi x0 then (some (1, h)) else (some (0, h))) else (some (1, h))
set_option maxRecDepth 20000 in
theorem ctX4_noSheet {l : Launch} {D : va_G} {ad : Nat → Nat} {cI cR : ClassId} {x0 : Int} {h : HP} {Z : Int × HP} (hf : fX4_noSheet x0 h = some Z) : Ct (sdC l D ad cI cR) mX4_noSheet [vi x0] h (ri Z) := by
  refine Ct.ofF nX4_noSheet rfl (loc := [(0, vi x0)]) rfl ?_
  unfold fX4_noSheet at hf
  refine q_iloadn dX4_noSheet_0 0 rfl ?_
  refine q_if_lt hf dX4_noSheet_1 10 (by decide) (fun hf => ?_) (fun hf => ?_)
  · refine q_iconst dX4_noSheet_10 ?_
    refine q_goto dX4_noSheet_11 15 (by decide) ?_
    exact q_zret hf rfl rfl dX4_noSheet_15
  · refine q_iloadn dX4_noSheet_4 0 rfl ?_
    refine q_bipush dX4_noSheet_5 (by decide) ?_
    refine q_icmp_lt hf dX4_noSheet_7 14 (by decide) (fun hf => ?_) (fun hf => ?_)
    · refine q_iconst dX4_noSheet_14 ?_
      exact q_zret hf rfl rfl dX4_noSheet_15
    · refine q_iconst dX4_noSheet_10 ?_
      refine q_goto dX4_noSheet_11 15 (by decide) ?_
      exact q_zret hf rfl rfl dX4_noSheet_15
def fX4_noKind (x0 : Int) (h : HP) : Option (Int × HP) :=
  if 0 ≤ wi x0 then (if wi 2 < wi x0 then (some (1, h)) else (some (0, h))) else (some (1, h))
set_option maxRecDepth 20000 in
theorem ctX4_noKind {l : Launch} {D : va_G} {ad : Nat → Nat} {cI cR : ClassId} {x0 : Int} {h : HP} {Z : Int × HP} (hf : fX4_noKind x0 h = some Z) : Ct (sdC l D ad cI cR) mX4_noKind [vi x0] h (ri Z) := by
  refine Ct.ofF nX4_noKind rfl (loc := [(0, vi x0)]) rfl ?_
  unfold fX4_noKind at hf
  refine q_iloadn dX4_noKind_0 0 rfl ?_
  refine q_if_lt hf dX4_noKind_1 9 (by decide) (fun hf => ?_) (fun hf => ?_)
  · refine q_iconst dX4_noKind_9 ?_
    refine q_goto dX4_noKind_10 14 (by decide) ?_
    exact q_zret hf rfl rfl dX4_noKind_14
  · refine q_iloadn dX4_noKind_4 0 rfl ?_
    refine q_iconst dX4_noKind_5 ?_
    refine q_icmp_le hf dX4_noKind_6 13 (by decide) (fun hf => ?_) (fun hf => ?_)
    · refine q_iconst dX4_noKind_13 ?_
      exact q_zret hf rfl rfl dX4_noKind_14
    · refine q_iconst dX4_noKind_9 ?_
      refine q_goto dX4_noKind_10 14 (by decide) ?_
      exact q_zret hf rfl rfl dX4_noKind_14
def fX4_found (x1 : Int) (h : HP) : Option (Int × HP) :=
  pf h 0 1 x1 fun h2 => some ((-10) - x1, h2)
set_option maxRecDepth 20000 in
theorem ctX4_found {l : Launch} {D : va_G} {ad : Nat → Nat} {cI cR : ClassId} {x1 : Int} {h : HP} {Z : Int × HP} (hf : fX4_found x1 h = some Z) : Ct (sdC l D ad cI cR) mX4_found [.ref (ad 0), vi x1] h (ri Z) := by
  refine Ct.ofF nX4_found rfl (loc := [(0, .ref (ad 0)), (1, vi x1)]) rfl ?_
  unfold fX4_found at hf
  refine q_aloadn dX4_found_0 0 rfl ?_
  refine q_iloadn dX4_found_1 1 rfl ?_
  refine C_p4_1 hf flX4_15 dX4_found_2 (fun h2 hf => ?_)
  refine q_bipush dX4_found_5 (by decide) ?_
  refine q_iloadn dX4_found_7 1 rfl ?_
  refine q_isub dX4_found_8 ?_
  exact q_iret hf rfl dX4_found_9
def fX4_sheet (x1 : Int) (x2 : Int) (x3 : Int) (h : HP) : Option (Int × HP) :=
  cl (fX4_noSheet x1 h) fun r1 h1 => if wi r1 = 0 then (cl (fX4_noKind x2 h1) fun r8 h8 => if wi r8 = 0 then (if wi 12 < wi x3 then (some ((-2), h8)) else (if wi x3 < 0 then (cl (fX4_found 5 h8) fun r29 h29 => some (r29, h29)) else (lda x1 fun q38 => cl (fX3_renew q38 x2 x3 h8) fun _ h41 => some (x3, h41)))) else (some ((-2), h8))) else (some ((-2), h1))
set_option maxRecDepth 20000 in
theorem ctX4_sheet {l : Launch} {D : va_G} {ad : Nat → Nat} {cI cR : ClassId} {x1 : Int} {x2 : Int} {x3 : Int} {h : HP} {Z : Int × HP} (hf : fX4_sheet x1 x2 x3 h = some Z) : Ct (sdC l D ad cI cR) mX4_sheet [.ref (ad 0), vi x1, vi x2, vi x3] h (ri Z) := by
  refine Ct.ofF nX4_sheet rfl (loc := [(0, .ref (ad 0)), (1, vi x1), (2, vi x2), (3, vi x3)]) rfl ?_
  unfold fX4_sheet at hf
  refine q_iloadn dX4_sheet_0 1 rfl ?_
  obtain ⟨r1, h1, e1, hf⟩ := q_cl hf
  refine q_cSi (av := [vi x1]) (rest := []) (ctX4_noSheet e1) kX4_noSheet uX4_noSheet lkX4_46 rfl rfl rfl dX4_sheet_1 ?_
  refine q_if_ne hf dX4_sheet_4 20 (by decide) (fun hf => ?_) (fun hf => ?_)
  · refine q_bipush dX4_sheet_20 (by decide) ?_
    exact q_iret hf rfl dX4_sheet_22
  · refine q_iloadn dX4_sheet_7 2 rfl ?_
    obtain ⟨r8, h8, e8, hf⟩ := q_cl hf
    refine q_cSi (av := [vi x2]) (rest := []) (ctX4_noKind e8) kX4_noKind uX4_noKind lkX4_50 rfl rfl rfl dX4_sheet_8 ?_
    refine q_if_ne hf dX4_sheet_11 20 (by decide) (fun hf => ?_) (fun hf => ?_)
    · refine q_bipush dX4_sheet_20 (by decide) ?_
      exact q_iret hf rfl dX4_sheet_22
    · refine q_iloadn dX4_sheet_14 3 rfl ?_
      refine q_bipush dX4_sheet_15 (by decide) ?_
      refine q_icmp_le hf dX4_sheet_17 23 (by decide) (fun hf => ?_) (fun hf => ?_)
      · refine q_iloadn dX4_sheet_23 3 rfl ?_
        refine q_if_ge hf dX4_sheet_24 33 (by decide) (fun hf => ?_) (fun hf => ?_)
        · refine q_aloadn dX4_sheet_33 0 rfl ?_
          refine C_g4_0 flX4_11 dX4_sheet_34 ?_
          refine q_iloadn dX4_sheet_37 1 rfl ?_
          refine C_ald hf dX4_sheet_38 (fun q38 p38 hf => ?_)
          refine q_iloadn dX4_sheet_39 2 rfl ?_
          refine q_iloadn dX4_sheet_40 3 rfl ?_
          obtain ⟨r41, h41, e41, hf⟩ := q_cl hf
          refine q_cVv (av := [vi x2, vi x3]) (rest := []) (wC_sh p38) (ctX3_renew p38 e41) kX3_renew vX3_renew zX3_renew lkX4_57 rfl rfl rfl rfl rfl dX4_sheet_41 ?_
          refine q_iloadn dX4_sheet_44 3 rfl ?_
          exact q_iret hf rfl dX4_sheet_45
        · refine q_aloadn dX4_sheet_27 0 rfl ?_
          refine q_iconst dX4_sheet_28 ?_
          obtain ⟨r29, h29, e29, hf⟩ := q_cl hf
          refine q_cVi (av := [vi 5]) (rest := []) wC_0 (ctX4_found e29) kX4_found vX4_found zX4_found lkX4_53 rfl rfl rfl rfl rfl dX4_sheet_29 ?_
          exact q_iret hf rfl dX4_sheet_32
      · refine q_bipush dX4_sheet_20 (by decide) ?_
        exact q_iret hf rfl dX4_sheet_22
def fX4_refuseSheets (x1 : Int) (x2 : Int) (h : HP) : Option (Int × HP) :=
  cl (fX4_noSheet x1 h) fun r1 h1 => if wi r1 = 0 then (cl (fX4_noSheet x2 h1) fun r8 h8 => if wi r8 = 0 then (lda x1 fun q22 => cl (fX3_isLost q22 h8) fun r23 h23 => if wi r23 = 0 then (lda x2 fun q34 => cl (fX3_isLost q34 h23) fun r35 h35 => if wi r35 = 0 then (some (0, h35)) else (cl (fX4_found 1 h35) fun r43 h43 => some (r43, h43))) else (cl (fX4_found 1 h23) fun r43 h43 => some (r43, h43))) else (some ((-2), h8))) else (some ((-2), h1))
set_option maxRecDepth 20000 in
theorem ctX4_refuseSheets {l : Launch} {D : va_G} {ad : Nat → Nat} {cI cR : ClassId} {x1 : Int} {x2 : Int} {h : HP} {Z : Int × HP} (hf : fX4_refuseSheets x1 x2 h = some Z) : Ct (sdC l D ad cI cR) mX4_refuseSheets [.ref (ad 0), vi x1, vi x2] h (ri Z) := by
  refine Ct.ofF nX4_refuseSheets rfl (loc := [(0, .ref (ad 0)), (1, vi x1), (2, vi x2)]) rfl ?_
  unfold fX4_refuseSheets at hf
  refine q_iloadn dX4_refuseSheets_0 1 rfl ?_
  obtain ⟨r1, h1, e1, hf⟩ := q_cl hf
  refine q_cSi (av := [vi x1]) (rest := []) (ctX4_noSheet e1) kX4_noSheet uX4_noSheet lkX4_46 rfl rfl rfl dX4_refuseSheets_1 ?_
  refine q_if_ne hf dX4_refuseSheets_4 14 (by decide) (fun hf => ?_) (fun hf => ?_)
  · refine q_bipush dX4_refuseSheets_14 (by decide) ?_
    exact q_iret hf rfl dX4_refuseSheets_16
  · refine q_iloadn dX4_refuseSheets_7 2 rfl ?_
    obtain ⟨r8, h8, e8, hf⟩ := q_cl hf
    refine q_cSi (av := [vi x2]) (rest := []) (ctX4_noSheet e8) kX4_noSheet uX4_noSheet lkX4_46 rfl rfl rfl dX4_refuseSheets_8 ?_
    refine q_if_eq hf dX4_refuseSheets_11 17 (by decide) (fun hf => ?_) (fun hf => ?_)
    · refine q_aloadn dX4_refuseSheets_17 0 rfl ?_
      refine C_g4_0 flX4_11 dX4_refuseSheets_18 ?_
      refine q_iloadn dX4_refuseSheets_21 1 rfl ?_
      refine C_ald hf dX4_refuseSheets_22 (fun q22 p22 hf => ?_)
      obtain ⟨r23, h23, e23, hf⟩ := q_cl hf
      refine q_cVi (av := []) (rest := []) (wC_sh p22) (ctX3_isLost p22 e23) kX3_isLost vX3_isLost zX3_isLost lkX4_226 rfl rfl rfl rfl rfl dX4_refuseSheets_23 ?_
      refine q_if_ne hf dX4_refuseSheets_26 41 (by decide) (fun hf => ?_) (fun hf => ?_)
      · refine q_aloadn dX4_refuseSheets_41 0 rfl ?_
        refine q_iconst dX4_refuseSheets_42 ?_
        obtain ⟨r43, h43, e43, hf⟩ := q_cl hf
        refine q_cVi (av := [vi 1]) (rest := []) wC_0 (ctX4_found e43) kX4_found vX4_found zX4_found lkX4_53 rfl rfl rfl rfl rfl dX4_refuseSheets_43 ?_
        refine q_goto dX4_refuseSheets_46 50 (by decide) ?_
        exact q_iret hf rfl dX4_refuseSheets_50
      · refine q_aloadn dX4_refuseSheets_29 0 rfl ?_
        refine C_g4_0 flX4_11 dX4_refuseSheets_30 ?_
        refine q_iloadn dX4_refuseSheets_33 2 rfl ?_
        refine C_ald hf dX4_refuseSheets_34 (fun q34 p34 hf => ?_)
        obtain ⟨r35, h35, e35, hf⟩ := q_cl hf
        refine q_cVi (av := []) (rest := []) (wC_sh p34) (ctX3_isLost p34 e35) kX3_isLost vX3_isLost zX3_isLost lkX4_226 rfl rfl rfl rfl rfl dX4_refuseSheets_35 ?_
        refine q_if_eq hf dX4_refuseSheets_38 49 (by decide) (fun hf => ?_) (fun hf => ?_)
        · refine q_iconst dX4_refuseSheets_49 ?_
          exact q_iret hf rfl dX4_refuseSheets_50
        · refine q_aloadn dX4_refuseSheets_41 0 rfl ?_
          refine q_iconst dX4_refuseSheets_42 ?_
          obtain ⟨r43, h43, e43, hf⟩ := q_cl hf
          refine q_cVi (av := [vi 1]) (rest := []) wC_0 (ctX4_found e43) kX4_found vX4_found zX4_found lkX4_53 rfl rfl rfl rfl rfl dX4_refuseSheets_43 ?_
          refine q_goto dX4_refuseSheets_46 50 (by decide) ?_
          exact q_iret hf rfl dX4_refuseSheets_50
    · refine q_bipush dX4_refuseSheets_14 (by decide) ?_
      exact q_iret hf rfl dX4_refuseSheets_16
def fX4_lose (x1 : Int) (h : HP) : Option (Int × HP) :=
  cl (fX4_refuseSheets x1 x1 h) fun r3 h3 => if wi r3 = 0 then (lda x1 fun q18 => lt (h3 q18 2) fun x3_22 => lda x1 fun q28 => cl (fX3_forget q28 h3) fun _ h29 => some (x3_22, h29)) else (some (r3, h3))
set_option maxRecDepth 20000 in
theorem ctX4_lose {l : Launch} {D : va_G} {ad : Nat → Nat} {cI cR : ClassId} {x1 : Int} {h : HP} {Z : Int × HP} (hf : fX4_lose x1 h = some Z) : Ct (sdC l D ad cI cR) mX4_lose [.ref (ad 0), vi x1] h (ri Z) := by
  refine Ct.ofF nX4_lose rfl (loc := [(0, .ref (ad 0)), (1, vi x1)]) rfl ?_
  unfold fX4_lose at hf
  refine q_aloadn dX4_lose_0 0 rfl ?_
  refine q_iloadn dX4_lose_1 1 rfl ?_
  refine q_iloadn dX4_lose_2 1 rfl ?_
  obtain ⟨r3, h3, e3, hf⟩ := q_cl hf
  refine q_cVi (av := [vi x1, vi x1]) (rest := []) wC_0 (ctX4_refuseSheets e3) kX4_refuseSheets vX4_refuseSheets zX4_refuseSheets lkX4_61 rfl rfl rfl rfl rfl dX4_lose_3 ?_
  refine q_istoren dX4_lose_6 rfl (loc' := [(2, vi r3), (0, .ref (ad 0)), (1, vi x1)]) rfl ?_
  refine q_iloadn dX4_lose_7 0 rfl ?_
  refine q_if_eq hf dX4_lose_8 13 (by decide) (fun hf => ?_) (fun hf => ?_)
  · refine q_aloadn dX4_lose_13 1 rfl ?_
    refine C_g4_0 flX4_11 dX4_lose_14 ?_
    refine q_iloadn dX4_lose_17 2 rfl ?_
    refine C_ald hf dX4_lose_18 (fun q18 p18 hf => ?_)
    refine C_g3_2 p18 flX4_65 dX4_lose_19 ?_
    refine q_lt hf (fun x3_22 hf => ?_)
    refine q_istoren dX4_lose_22 rfl (loc' := [(3, vi x3_22), (2, vi r3), (0, .ref (ad 0)), (1, vi x1)]) rfl ?_
    refine q_aloadn dX4_lose_23 2 rfl ?_
    refine C_g4_0 flX4_11 dX4_lose_24 ?_
    refine q_iloadn dX4_lose_27 3 rfl ?_
    refine C_ald hf dX4_lose_28 (fun q28 p28 hf => ?_)
    obtain ⟨r29, h29, e29, hf⟩ := q_cl hf
    refine q_cVv (av := []) (rest := []) (wC_sh p28) (ctX3_forget p28 e29) kX3_forget vX3_forget zX3_forget lkX4_68 rfl rfl rfl rfl rfl dX4_lose_29 ?_
    refine q_iloadn dX4_lose_32 0 rfl ?_
    exact q_iret hf rfl dX4_lose_33
  · refine q_iloadn dX4_lose_11 0 rfl ?_
    exact q_iret hf rfl dX4_lose_12
def fX4_refuseItem (x1 : Int) (x2 : Int) (x3 : Int) (h : HP) : Option (Int × HP) :=
  cl (fX4_noKind x2 h) fun r1 h1 => if wi r1 = 0 then (cl (fX4_refuseSheets x1 x1 h1) fun r13 h13 => if wi r13 = 0 then (lda x1 fun q31 => if wi (h13 q31 1) = wi x2 then (lda x1 fun q50 => cl (fX3_holds q50 x3 1 h13) fun r53 h53 => if wi r53 = 0 then (cl (fX4_found 2 h53) fun r65 h65 => some (r65, h65)) else (some (0, h53))) else (cl (fX4_found 3 h13) fun r41 h41 => some (r41, h41))) else (some (r13, h13))) else (some ((-2), h1))
set_option maxRecDepth 20000 in
theorem ctX4_refuseItem {l : Launch} {D : va_G} {ad : Nat → Nat} {cI cR : ClassId} {x1 : Int} {x2 : Int} {x3 : Int} {h : HP} {Z : Int × HP} (hf : fX4_refuseItem x1 x2 x3 h = some Z) : Ct (sdC l D ad cI cR) mX4_refuseItem [.ref (ad 0), vi x1, vi x2, vi x3] h (ri Z) := by
  refine Ct.ofF nX4_refuseItem rfl (loc := [(0, .ref (ad 0)), (1, vi x1), (2, vi x2), (3, vi x3)]) rfl ?_
  unfold fX4_refuseItem at hf
  refine q_iloadn dX4_refuseItem_0 2 rfl ?_
  obtain ⟨r1, h1, e1, hf⟩ := q_cl hf
  refine q_cSi (av := [vi x2]) (rest := []) (ctX4_noKind e1) kX4_noKind uX4_noKind lkX4_50 rfl rfl rfl dX4_refuseItem_1 ?_
  refine q_if_eq hf dX4_refuseItem_4 10 (by decide) (fun hf => ?_) (fun hf => ?_)
  · refine q_aloadn dX4_refuseItem_10 0 rfl ?_
    refine q_iloadn dX4_refuseItem_11 1 rfl ?_
    refine q_iloadn dX4_refuseItem_12 1 rfl ?_
    obtain ⟨r13, h13, e13, hf⟩ := q_cl hf
    refine q_cVi (av := [vi x1, vi x1]) (rest := []) wC_0 (ctX4_refuseSheets e13) kX4_refuseSheets vX4_refuseSheets zX4_refuseSheets lkX4_61 rfl rfl rfl rfl rfl dX4_refuseItem_13 ?_
    refine q_istore dX4_refuseItem_16 rfl (loc' := [(4, vi r13), (0, .ref (ad 0)), (1, vi x1), (2, vi x2), (3, vi x3)]) rfl ?_
    refine q_iload dX4_refuseItem_18 0 rfl ?_
    refine q_if_eq hf dX4_refuseItem_20 26 (by decide) (fun hf => ?_) (fun hf => ?_)
    · refine q_aloadn dX4_refuseItem_26 1 rfl ?_
      refine C_g4_0 flX4_11 dX4_refuseItem_27 ?_
      refine q_iloadn dX4_refuseItem_30 2 rfl ?_
      refine C_ald hf dX4_refuseItem_31 (fun q31 p31 hf => ?_)
      refine C_g3_1 p31 flX4_82 dX4_refuseItem_32 ?_
      refine q_iloadn dX4_refuseItem_35 3 rfl ?_
      refine q_icmp_eq hf dX4_refuseItem_36 45 (by decide) (fun hf => ?_) (fun hf => ?_)
      · refine q_aloadn dX4_refuseItem_45 1 rfl ?_
        refine C_g4_0 flX4_11 dX4_refuseItem_46 ?_
        refine q_iloadn dX4_refuseItem_49 2 rfl ?_
        refine C_ald hf dX4_refuseItem_50 (fun q50 p50 hf => ?_)
        refine q_iloadn dX4_refuseItem_51 4 rfl ?_
        refine q_iconst dX4_refuseItem_52 ?_
        obtain ⟨r53, h53, e53, hf⟩ := q_cl hf
        refine q_cVi (av := [vi x3, vi 1]) (rest := []) (wC_sh p50) (ctX3_holds p50 e53) kX3_holds vX3_holds zX3_holds lkX4_85 rfl rfl rfl rfl rfl dX4_refuseItem_53 ?_
        refine q_if_eq hf dX4_refuseItem_56 63 (by decide) (fun hf => ?_) (fun hf => ?_)
        · refine q_aloadn dX4_refuseItem_63 1 rfl ?_
          refine q_iconst dX4_refuseItem_64 ?_
          obtain ⟨r65, h65, e65, hf⟩ := q_cl hf
          refine q_cVi (av := [vi 2]) (rest := []) wC_0 (ctX4_found e65) kX4_found vX4_found zX4_found lkX4_53 rfl rfl rfl rfl rfl dX4_refuseItem_65 ?_
          exact q_iret hf rfl dX4_refuseItem_68
        · refine q_iconst dX4_refuseItem_59 ?_
          refine q_goto dX4_refuseItem_60 68 (by decide) ?_
          exact q_iret hf rfl dX4_refuseItem_68
      · refine q_aloadn dX4_refuseItem_39 1 rfl ?_
        refine q_iconst dX4_refuseItem_40 ?_
        obtain ⟨r41, h41, e41, hf⟩ := q_cl hf
        refine q_cVi (av := [vi 3]) (rest := []) wC_0 (ctX4_found e41) kX4_found vX4_found zX4_found lkX4_53 rfl rfl rfl rfl rfl dX4_refuseItem_41 ?_
        exact q_iret hf rfl dX4_refuseItem_44
    · refine q_iload dX4_refuseItem_23 0 rfl ?_
      exact q_iret hf rfl dX4_refuseItem_25
  · refine q_bipush dX4_refuseItem_7 (by decide) ?_
    exact q_iret hf rfl dX4_refuseItem_9
def fX4_put (x1 : Int) (x2 : Int) (x3 : Int) (x4 : Int) (h : HP) : Option (Int × HP) :=
  cl (fX4_refuseItem x1 x2 x3 h) fun r4 h4 => if wi r4 = 0 then (lda x1 fun q22 => cl (fX3_store q22 x3 x4 h4) fun _ h26 => some (1, h26)) else (some (r4, h4))
set_option maxRecDepth 20000 in
theorem ctX4_put {l : Launch} {D : va_G} {ad : Nat → Nat} {cI cR : ClassId} {x1 : Int} {x2 : Int} {x3 : Int} {x4 : Int} {h : HP} {Z : Int × HP} (hf : fX4_put x1 x2 x3 x4 h = some Z) : Ct (sdC l D ad cI cR) mX4_put [.ref (ad 0), vi x1, vi x2, vi x3, vi x4] h (ri Z) := by
  refine Ct.ofF nX4_put rfl (loc := [(0, .ref (ad 0)), (1, vi x1), (2, vi x2), (3, vi x3), (4, vi x4)]) rfl ?_
  unfold fX4_put at hf
  refine q_aloadn dX4_put_0 0 rfl ?_
  refine q_iloadn dX4_put_1 1 rfl ?_
  refine q_iloadn dX4_put_2 2 rfl ?_
  refine q_iloadn dX4_put_3 3 rfl ?_
  obtain ⟨r4, h4, e4, hf⟩ := q_cl hf
  refine q_cVi (av := [vi x1, vi x2, vi x3]) (rest := []) wC_0 (ctX4_refuseItem e4) kX4_refuseItem vX4_refuseItem zX4_refuseItem lkX4_71 rfl rfl rfl rfl rfl dX4_put_4 ?_
  refine q_istore dX4_put_7 rfl (loc' := [(5, vi r4), (0, .ref (ad 0)), (1, vi x1), (2, vi x2), (3, vi x3), (4, vi x4)]) rfl ?_
  refine q_iload dX4_put_9 0 rfl ?_
  refine q_if_eq hf dX4_put_11 17 (by decide) (fun hf => ?_) (fun hf => ?_)
  · refine q_aloadn dX4_put_17 1 rfl ?_
    refine C_g4_0 flX4_11 dX4_put_18 ?_
    refine q_iloadn dX4_put_21 2 rfl ?_
    refine C_ald hf dX4_put_22 (fun q22 p22 hf => ?_)
    refine q_iloadn dX4_put_23 4 rfl ?_
    refine q_iload dX4_put_24 5 rfl ?_
    obtain ⟨r26, h26, e26, hf⟩ := q_cl hf
    refine q_cVv (av := [vi x3, vi x4]) (rest := []) (wC_sh p22) (ctX3_store p22 e26) kX3_store vX3_store zX3_store lkX4_75 rfl rfl rfl rfl rfl dX4_put_26 ?_
    refine q_iconst dX4_put_29 ?_
    exact q_iret hf rfl dX4_put_30
  · refine q_iload dX4_put_14 0 rfl ?_
    exact q_iret hf rfl dX4_put_16
def fX4_get (x1 : Int) (x2 : Int) (x3 : Int) (h : HP) : Option (Int × HP) :=
  cl (fX4_refuseItem x1 x2 x3 h) fun r4 h4 => if wi r4 = 0 then (lda x1 fun q15 => ld (lnC (q15 + 10)) (h4 (q15 + 10)) x3 fun v20 => some (v20, h4)) else (some ((-2147483648), h4))
set_option maxRecDepth 20000 in
theorem ctX4_get {l : Launch} {D : va_G} {ad : Nat → Nat} {cI cR : ClassId} {x1 : Int} {x2 : Int} {x3 : Int} {h : HP} {Z : Int × HP} (hf : fX4_get x1 x2 x3 h = some Z) : Ct (sdC l D ad cI cR) mX4_get [.ref (ad 0), vi x1, vi x2, vi x3] h (ri Z) := by
  refine Ct.ofF nX4_get rfl (loc := [(0, .ref (ad 0)), (1, vi x1), (2, vi x2), (3, vi x3)]) rfl ?_
  unfold fX4_get at hf
  refine q_aloadn dX4_get_0 0 rfl ?_
  refine q_iloadn dX4_get_1 1 rfl ?_
  refine q_iloadn dX4_get_2 2 rfl ?_
  refine q_iloadn dX4_get_3 3 rfl ?_
  obtain ⟨r4, h4, e4, hf⟩ := q_cl hf
  refine q_cVi (av := [vi x1, vi x2, vi x3]) (rest := []) wC_0 (ctX4_refuseItem e4) kX4_refuseItem vX4_refuseItem zX4_refuseItem lkX4_71 rfl rfl rfl rfl rfl dX4_get_4 ?_
  refine q_if_ne hf dX4_get_7 24 (by decide) (fun hf => ?_) (fun hf => ?_)
  · refine q_ldc (n := (-2147483648)) dX4_get_24 kcX4_81 ?_
    exact q_iret hf rfl dX4_get_26
  · refine q_aloadn dX4_get_10 0 rfl ?_
    refine C_g4_0 flX4_11 dX4_get_11 ?_
    refine q_iloadn dX4_get_14 1 rfl ?_
    refine C_ald hf dX4_get_15 (fun q15 p15 hf => ?_)
    refine C_g3_0 p15 flX4_78 dX4_get_16 ?_
    refine q_iloadn dX4_get_19 3 rfl ?_
    refine C_ld hf dX4_get_20 (fun v20 hf => ?_)
    refine q_goto dX4_get_21 26 (by decide) ?_
    exact q_iret hf rfl dX4_get_26
def fX4_copy (x1 : Int) (x2 : Int) (x3 : Int) (x4 : Int) (x5 : Int) (h : HP) : Option (Int × HP) :=
  cl (fX4_refuseSheets x1 x3 h) fun r3 h3 => if wi r3 = 0 then (lda x1 fun q21 => lda x3 fun q29 => if wi (h3 q21 1) = wi (h3 q29 1) then (cl (fX3_holds q21 x2 x5 h3) fun r56 h56 => if wi r56 = 0 then (cl (fX4_found 2 h56) fun r76 h76 => some (r76, h76)) else (cl (fX3_holds q29 x4 x5 h56) fun r68 h68 => if wi r68 = 0 then (cl (fX4_found 2 h68) fun r76 h76 => some (r76, h76)) else (acp h68 (q21 + 10) x2 (q29 + 10) x4 x5 fun h95 => some (1, h95)))) else (cl (fX4_found 4 h3) fun r47 h47 => some (r47, h47))) else (some (r3, h3))
set_option maxRecDepth 20000 in
theorem ctX4_copy {l : Launch} {D : va_G} {ad : Nat → Nat} {cI cR : ClassId} {x1 : Int} {x2 : Int} {x3 : Int} {x4 : Int} {x5 : Int} {h : HP} {Z : Int × HP} (hf : fX4_copy x1 x2 x3 x4 x5 h = some Z) : Ct (sdC l D ad cI cR) mX4_copy [.ref (ad 0), vi x1, vi x2, vi x3, vi x4, vi x5] h (ri Z) := by
  refine Ct.ofF nX4_copy rfl (loc := [(0, .ref (ad 0)), (1, vi x1), (2, vi x2), (3, vi x3), (4, vi x4), (5, vi x5)]) rfl ?_
  unfold fX4_copy at hf
  refine q_aloadn dX4_copy_0 0 rfl ?_
  refine q_iloadn dX4_copy_1 1 rfl ?_
  refine q_iloadn dX4_copy_2 3 rfl ?_
  obtain ⟨r3, h3, e3, hf⟩ := q_cl hf
  refine q_cVi (av := [vi x1, vi x3]) (rest := []) wC_0 (ctX4_refuseSheets e3) kX4_refuseSheets vX4_refuseSheets zX4_refuseSheets lkX4_61 rfl rfl rfl rfl rfl dX4_copy_3 ?_
  refine q_istore dX4_copy_6 rfl (loc' := [(6, vi r3), (0, .ref (ad 0)), (1, vi x1), (2, vi x2), (3, vi x3), (4, vi x4), (5, vi x5)]) rfl ?_
  refine q_iload dX4_copy_8 0 rfl ?_
  refine q_if_eq hf dX4_copy_10 16 (by decide) (fun hf => ?_) (fun hf => ?_)
  · refine q_aloadn dX4_copy_16 1 rfl ?_
    refine C_g4_0 flX4_11 dX4_copy_17 ?_
    refine q_iloadn dX4_copy_20 2 rfl ?_
    refine C_ald hf dX4_copy_21 (fun q21 p21 hf => ?_)
    refine q_astore dX4_copy_22 rfl (loc' := [(7, .ref (ad q21)), (6, vi r3), (0, .ref (ad 0)), (1, vi x1), (2, vi x2), (3, vi x3), (4, vi x4), (5, vi x5)]) rfl ?_
    refine q_aloadn dX4_copy_24 2 rfl ?_
    refine C_g4_0 flX4_11 dX4_copy_25 ?_
    refine q_iloadn dX4_copy_28 5 rfl ?_
    refine C_ald hf dX4_copy_29 (fun q29 p29 hf => ?_)
    refine q_astore dX4_copy_30 rfl (loc' := [(8, .ref (ad q29)), (7, .ref (ad q21)), (6, vi r3), (0, .ref (ad 0)), (1, vi x1), (2, vi x2), (3, vi x3), (4, vi x4), (5, vi x5)]) rfl ?_
    refine q_aload dX4_copy_32 1 rfl ?_
    refine C_g3_1 p21 flX4_82 dX4_copy_34 ?_
    refine q_aload dX4_copy_37 0 rfl ?_
    refine C_g3_1 p29 flX4_82 dX4_copy_39 ?_
    refine q_icmp_eq hf dX4_copy_42 51 (by decide) (fun hf => ?_) (fun hf => ?_)
    · refine q_aload dX4_copy_51 1 rfl ?_
      refine q_iloadn dX4_copy_53 5 rfl ?_
      refine q_iload dX4_copy_54 8 rfl ?_
      obtain ⟨r56, h56, e56, hf⟩ := q_cl hf
      refine q_cVi (av := [vi x2, vi x5]) (rest := []) (wC_sh p21) (ctX3_holds p21 e56) kX3_holds vX3_holds zX3_holds lkX4_85 rfl rfl rfl rfl rfl dX4_copy_56 ?_
      refine q_if_eq hf dX4_copy_59 74 (by decide) (fun hf => ?_) (fun hf => ?_)
      · refine q_aloadn dX4_copy_74 3 rfl ?_
        refine q_iconst dX4_copy_75 ?_
        obtain ⟨r76, h76, e76, hf⟩ := q_cl hf
        refine q_cVi (av := [vi 2]) (rest := []) wC_0 (ctX4_found e76) kX4_found vX4_found zX4_found lkX4_53 rfl rfl rfl rfl rfl dX4_copy_76 ?_
        exact q_iret hf rfl dX4_copy_79
      · refine q_aload dX4_copy_62 0 rfl ?_
        refine q_iload dX4_copy_64 7 rfl ?_
        refine q_iload dX4_copy_66 8 rfl ?_
        obtain ⟨r68, h68, e68, hf⟩ := q_cl hf
        refine q_cVi (av := [vi x4, vi x5]) (rest := []) (wC_sh p29) (ctX3_holds p29 e68) kX3_holds vX3_holds zX3_holds lkX4_85 rfl rfl rfl rfl rfl dX4_copy_68 ?_
        refine q_if_ne hf dX4_copy_71 80 (by decide) (fun hf => ?_) (fun hf => ?_)
        · refine q_aload dX4_copy_80 1 rfl ?_
          refine C_g3_0 p21 flX4_78 dX4_copy_82 ?_
          refine q_iloadn dX4_copy_85 5 rfl ?_
          refine q_aload dX4_copy_86 0 rfl ?_
          refine C_g3_0 p29 flX4_78 dX4_copy_88 ?_
          refine q_iload dX4_copy_91 7 rfl ?_
          refine q_iload dX4_copy_93 8 rfl ?_
          refine C_cp p21 p29 hf lkX4_89 rfl dX4_copy_95 (fun h95 hf => ?_)
          refine q_iconst dX4_copy_98 ?_
          exact q_iret hf rfl dX4_copy_99
        · refine q_aloadn dX4_copy_74 3 rfl ?_
          refine q_iconst dX4_copy_75 ?_
          obtain ⟨r76, h76, e76, hf⟩ := q_cl hf
          refine q_cVi (av := [vi 2]) (rest := []) wC_0 (ctX4_found e76) kX4_found vX4_found zX4_found lkX4_53 rfl rfl rfl rfl rfl dX4_copy_76 ?_
          exact q_iret hf rfl dX4_copy_79
    · refine q_aloadn dX4_copy_45 3 rfl ?_
      refine q_iconst dX4_copy_46 ?_
      obtain ⟨r47, h47, e47, hf⟩ := q_cl hf
      refine q_cVi (av := [vi 4]) (rest := []) wC_0 (ctX4_found e47) kX4_found vX4_found zX4_found lkX4_53 rfl rfl rfl rfl rfl dX4_copy_47 ?_
      exact q_iret hf rfl dX4_copy_50
  · refine q_iload dX4_copy_13 0 rfl ?_
    exact q_iret hf rfl dX4_copy_15
def fX4_refuseForms (x1 : Int) (x2 : Int) (h : HP) : Option (Int × HP) :=
  cl (fX4_refuseSheets x1 x2 h) fun r3 h3 => if wi r3 = 0 then (lda x1 fun q18 => cl (fX3_isForm q18 h3) fun r19 h19 => if wi r19 = 0 then (some ((-3), h19)) else (lda x2 fun q30 => cl (fX3_isForm q30 h19) fun r31 h31 => if wi r31 = 0 then (some ((-3), h31)) else (some (0, h31)))) else (some (r3, h3))
set_option maxRecDepth 20000 in
theorem ctX4_refuseForms {l : Launch} {D : va_G} {ad : Nat → Nat} {cI cR : ClassId} {x1 : Int} {x2 : Int} {h : HP} {Z : Int × HP} (hf : fX4_refuseForms x1 x2 h = some Z) : Ct (sdC l D ad cI cR) mX4_refuseForms [.ref (ad 0), vi x1, vi x2] h (ri Z) := by
  refine Ct.ofF nX4_refuseForms rfl (loc := [(0, .ref (ad 0)), (1, vi x1), (2, vi x2)]) rfl ?_
  unfold fX4_refuseForms at hf
  refine q_aloadn dX4_refuseForms_0 0 rfl ?_
  refine q_iloadn dX4_refuseForms_1 1 rfl ?_
  refine q_iloadn dX4_refuseForms_2 2 rfl ?_
  obtain ⟨r3, h3, e3, hf⟩ := q_cl hf
  refine q_cVi (av := [vi x1, vi x2]) (rest := []) wC_0 (ctX4_refuseSheets e3) kX4_refuseSheets vX4_refuseSheets zX4_refuseSheets lkX4_61 rfl rfl rfl rfl rfl dX4_refuseForms_3 ?_
  refine q_istoren dX4_refuseForms_6 rfl (loc' := [(3, vi r3), (0, .ref (ad 0)), (1, vi x1), (2, vi x2)]) rfl ?_
  refine q_iloadn dX4_refuseForms_7 0 rfl ?_
  refine q_if_eq hf dX4_refuseForms_8 13 (by decide) (fun hf => ?_) (fun hf => ?_)
  · refine q_aloadn dX4_refuseForms_13 1 rfl ?_
    refine C_g4_0 flX4_11 dX4_refuseForms_14 ?_
    refine q_iloadn dX4_refuseForms_17 2 rfl ?_
    refine C_ald hf dX4_refuseForms_18 (fun q18 p18 hf => ?_)
    obtain ⟨r19, h19, e19, hf⟩ := q_cl hf
    refine q_cVi (av := []) (rest := []) (wC_sh p18) (ctX3_isForm p18 e19) kX3_isForm vX3_isForm zX3_isForm lkX4_165 rfl rfl rfl rfl rfl dX4_refuseForms_19 ?_
    refine q_if_eq hf dX4_refuseForms_22 41 (by decide) (fun hf => ?_) (fun hf => ?_)
    · refine q_bipush dX4_refuseForms_41 (by decide) ?_
      exact q_iret hf rfl dX4_refuseForms_43
    · refine q_aloadn dX4_refuseForms_25 1 rfl ?_
      refine C_g4_0 flX4_11 dX4_refuseForms_26 ?_
      refine q_iloadn dX4_refuseForms_29 3 rfl ?_
      refine C_ald hf dX4_refuseForms_30 (fun q30 p30 hf => ?_)
      obtain ⟨r31, h31, e31, hf⟩ := q_cl hf
      refine q_cVi (av := []) (rest := []) (wC_sh p30) (ctX3_isForm p30 e31) kX3_isForm vX3_isForm zX3_isForm lkX4_165 rfl rfl rfl rfl rfl dX4_refuseForms_31 ?_
      refine q_if_eq hf dX4_refuseForms_34 41 (by decide) (fun hf => ?_) (fun hf => ?_)
      · refine q_bipush dX4_refuseForms_41 (by decide) ?_
        exact q_iret hf rfl dX4_refuseForms_43
      · refine q_iconst dX4_refuseForms_37 ?_
        refine q_goto dX4_refuseForms_38 43 (by decide) ?_
        exact q_iret hf rfl dX4_refuseForms_43
  · refine q_iloadn dX4_refuseForms_11 0 rfl ?_
    exact q_iret hf rfl dX4_refuseForms_12
def fX4_term (x1 : Int) (x2 : Int) (h : HP) : Option (Int × HP) :=
  if 0 ≤ wi x2 then (if wi 8 < wi x2 then (some ((-2), h)) else (cl (fX4_refuseForms x1 x1 h) fun r16 h16 => if wi r16 = 0 then (lda x1 fun q33 => cl (fX3_number q33 x2 h16) fun r35 h35 => some (r35, h35)) else (some (r16, h16)))) else (some ((-2), h))
set_option maxRecDepth 20000 in
theorem ctX4_term {l : Launch} {D : va_G} {ad : Nat → Nat} {cI cR : ClassId} {x1 : Int} {x2 : Int} {h : HP} {Z : Int × HP} (hf : fX4_term x1 x2 h = some Z) : Ct (sdC l D ad cI cR) mX4_term [.ref (ad 0), vi x1, vi x2] h (ri Z) := by
  refine Ct.ofF nX4_term rfl (loc := [(0, .ref (ad 0)), (1, vi x1), (2, vi x2)]) rfl ?_
  unfold fX4_term at hf
  refine q_iloadn dX4_term_0 2 rfl ?_
  refine q_if_lt hf dX4_term_1 10 (by decide) (fun hf => ?_) (fun hf => ?_)
  · refine q_bipush dX4_term_10 (by decide) ?_
    exact q_iret hf rfl dX4_term_12
  · refine q_iloadn dX4_term_4 2 rfl ?_
    refine q_bipush dX4_term_5 (by decide) ?_
    refine q_icmp_le hf dX4_term_7 13 (by decide) (fun hf => ?_) (fun hf => ?_)
    · refine q_aloadn dX4_term_13 0 rfl ?_
      refine q_iloadn dX4_term_14 1 rfl ?_
      refine q_iloadn dX4_term_15 1 rfl ?_
      obtain ⟨r16, h16, e16, hf⟩ := q_cl hf
      refine q_cVi (av := [vi x1, vi x1]) (rest := []) wC_0 (ctX4_refuseForms e16) kX4_refuseForms vX4_refuseForms zX4_refuseForms lkX4_95 rfl rfl rfl rfl rfl dX4_term_16 ?_
      refine q_istoren dX4_term_19 rfl (loc' := [(3, vi r16), (0, .ref (ad 0)), (1, vi x1), (2, vi x2)]) rfl ?_
      refine q_iloadn dX4_term_20 0 rfl ?_
      refine q_if_eq hf dX4_term_21 28 (by decide) (fun hf => ?_) (fun hf => ?_)
      · refine q_aloadn dX4_term_28 1 rfl ?_
        refine C_g4_0 flX4_11 dX4_term_29 ?_
        refine q_iloadn dX4_term_32 2 rfl ?_
        refine C_ald hf dX4_term_33 (fun q33 p33 hf => ?_)
        refine q_iloadn dX4_term_34 3 rfl ?_
        obtain ⟨r35, h35, e35, hf⟩ := q_cl hf
        refine q_cVi (av := [vi x2]) (rest := []) (wC_sh p33) (ctX3_number p33 e35) kX3_number vX3_number zX3_number lkX4_98 rfl rfl rfl rfl rfl dX4_term_35 ?_
        exact q_iret hf rfl dX4_term_38
      · refine q_iloadn dX4_term_24 0 rfl ?_
        refine q_goto dX4_term_25 38 (by decide) ?_
        exact q_iret hf rfl dX4_term_38
    · refine q_bipush dX4_term_10 (by decide) ?_
      exact q_iret hf rfl dX4_term_12
def fX4_degree (x1 : Int) (h : HP) : Option (Int × HP) :=
  cl (fX4_refuseForms x1 x1 h) fun r3 h3 => if wi r3 = 0 then (lda x1 fun q20 => cl (fX3_top q20 h3) fun r21 h21 => some (r21, h21)) else (some (r3, h3))
set_option maxRecDepth 20000 in
theorem ctX4_degree {l : Launch} {D : va_G} {ad : Nat → Nat} {cI cR : ClassId} {x1 : Int} {h : HP} {Z : Int × HP} (hf : fX4_degree x1 h = some Z) : Ct (sdC l D ad cI cR) mX4_degree [.ref (ad 0), vi x1] h (ri Z) := by
  refine Ct.ofF nX4_degree rfl (loc := [(0, .ref (ad 0)), (1, vi x1)]) rfl ?_
  unfold fX4_degree at hf
  refine q_aloadn dX4_degree_0 0 rfl ?_
  refine q_iloadn dX4_degree_1 1 rfl ?_
  refine q_iloadn dX4_degree_2 1 rfl ?_
  obtain ⟨r3, h3, e3, hf⟩ := q_cl hf
  refine q_cVi (av := [vi x1, vi x1]) (rest := []) wC_0 (ctX4_refuseForms e3) kX4_refuseForms vX4_refuseForms zX4_refuseForms lkX4_95 rfl rfl rfl rfl rfl dX4_degree_3 ?_
  refine q_istoren dX4_degree_6 rfl (loc' := [(2, vi r3), (0, .ref (ad 0)), (1, vi x1)]) rfl ?_
  refine q_iloadn dX4_degree_7 0 rfl ?_
  refine q_if_eq hf dX4_degree_8 15 (by decide) (fun hf => ?_) (fun hf => ?_)
  · refine q_aloadn dX4_degree_15 1 rfl ?_
    refine C_g4_0 flX4_11 dX4_degree_16 ?_
    refine q_iloadn dX4_degree_19 2 rfl ?_
    refine C_ald hf dX4_degree_20 (fun q20 p20 hf => ?_)
    obtain ⟨r21, h21, e21, hf⟩ := q_cl hf
    refine q_cVi (av := []) (rest := []) (wC_sh p20) (ctX3_top p20 e21) kX3_top vX3_top zX3_top lkX4_101 rfl rfl rfl rfl rfl dX4_degree_21 ?_
    exact q_iret hf rfl dX4_degree_24
  · refine q_iloadn dX4_degree_11 0 rfl ?_
    refine q_goto dX4_degree_12 24 (by decide) ?_
    exact q_iret hf rfl dX4_degree_24
def bX4_load_2 (self : Int → Nat → Int → HP → Option (Int × HP)) (x1 : Int) (a2 : Nat) (x3 : Int) (h : HP) : Option (Int × HP) :=
  if wi x3 < wi 9 then (lda x1 fun q15 => cl (fX3_number q15 x3 h) fun r17 h17 => sto (lnC a2) h17 a2 x3 r17 fun h20 => self x1 a2 (x3 + 1) h20) else (lda x1 fun q32 => cl (fX3_top q32 h) fun r33 h33 => some (r33, h33))
def LX4_load_2 : Nat → Int → Nat → Int → HP → Option (Int × HP)
  | 0 => fun _ _ _ _ => none
  | n + 1 => bX4_load_2 (LX4_load_2 n)
set_option maxRecDepth 20000 in
theorem tX4_load_2 {l : Launch} {D : va_G} {ad : Nat → Nat} {cI cR : ClassId} {Z : Int × HP} : ∀ (n : Nat) (x1 : Int) (a2 : Nat) (x3 : Int) (h : HP), isArr a2 = true → LX4_load_2 n x1 a2 x3 h = some Z → Rn (sdC l D ad cI cR) mX4_load (ri Z) 2 [(0, .ref (ad 0)), (1, vi x1), (2, .ref (ad a2)), (3, vi x3)] [] h := by
  intro n
  induction n with
  | zero => intro x1 a2 x3 h ha2 hf; cases hf
  | succ n ih =>
    intro x1 a2 x3 h ha2 hf
    replace hf : bX4_load_2 (LX4_load_2 n) x1 a2 x3 h = some Z := hf
    unfold bX4_load_2 at hf
    refine q_iloadn dX4_load_2 3 rfl ?_
    refine q_bipush dX4_load_3 (by decide) ?_
    refine q_icmp_ge hf dX4_load_5 27 (by decide) (fun hf => ?_) (fun hf => ?_)
    · refine q_aloadn dX4_load_27 0 rfl ?_
      refine C_g4_0 flX4_11 dX4_load_28 ?_
      refine q_iloadn dX4_load_31 1 rfl ?_
      refine C_ald hf dX4_load_32 (fun q32 p32 hf => ?_)
      obtain ⟨r33, h33, e33, hf⟩ := q_cl hf
      refine q_cVi (av := []) (rest := []) (wC_sh p32) (ctX3_top p32 e33) kX3_top vX3_top zX3_top lkX4_101 rfl rfl rfl rfl rfl dX4_load_33 ?_
      exact q_iret hf rfl dX4_load_36
    · refine q_aloadn dX4_load_8 2 rfl ?_
      refine q_iloadn dX4_load_9 3 rfl ?_
      refine q_aloadn dX4_load_10 0 rfl ?_
      refine C_g4_0 flX4_11 dX4_load_11 ?_
      refine q_iloadn dX4_load_14 1 rfl ?_
      refine C_ald hf dX4_load_15 (fun q15 p15 hf => ?_)
      refine q_iloadn dX4_load_16 3 rfl ?_
      obtain ⟨r17, h17, e17, hf⟩ := q_cl hf
      refine q_cVi (av := [vi x3]) (rest := [vi x3, .ref (ad a2)]) (wC_sh p15) (ctX3_number p15 e17) kX3_number vX3_number zX3_number lkX4_98 rfl rfl rfl rfl rfl dX4_load_17 ?_
      refine C_st hf dX4_load_20 (fun h20 hf => ?_)
      refine q_iinc dX4_load_21 3 rfl rfl (loc' := [(3, vi (x3 + 1)), (0, .ref (ad 0)), (1, vi x1), (2, .ref (ad a2))]) rfl ?_
      refine q_goto dX4_load_24 2 (by decide) ?_
      refine q_loc (loc' := [(0, .ref (ad 0)), (1, vi x1), (2, .ref (ad a2)), (3, vi (x3 + 1))]) [1, 2, 3, 0] rfl ?_
      exact ih x1 a2 (x3 + 1) h20 ha2 hf
def fX4_load (x1 : Int) (a2 : Nat) (h : HP) : Option (Int × HP) :=
  LX4_load_2 FU x1 a2 0 h
set_option maxRecDepth 20000 in
theorem ctX4_load {l : Launch} {D : va_G} {ad : Nat → Nat} {cI cR : ClassId} {x1 : Int} {a2 : Nat} {h : HP} {Z : Int × HP} (ha2 : isArr a2 = true) (hf : fX4_load x1 a2 h = some Z) : Ct (sdC l D ad cI cR) mX4_load [.ref (ad 0), vi x1, .ref (ad a2)] h (ri Z) := by
  refine Ct.ofF nX4_load rfl (loc := [(0, .ref (ad 0)), (1, vi x1), (2, .ref (ad a2))]) rfl ?_
  unfold fX4_load at hf
  refine q_iconst dX4_load_0 ?_
  refine q_istoren dX4_load_1 rfl (loc' := [(3, vi 0), (0, .ref (ad 0)), (1, vi x1), (2, .ref (ad a2))]) rfl ?_
  refine q_loc (loc' := [(0, .ref (ad 0)), (1, vi x1), (2, .ref (ad a2)), (3, vi 0)]) [1, 2, 3, 0] rfl ?_
  exact tX4_load_2 FU x1 a2 0 h ha2 hf
def fX4_value (x1 : Int) (x2 : Int) (x3 : Int) (h : HP) : Option (Int × HP) :=
  cl (fX4_refuseForms x1 x1 h) fun r3 h3 => if wi r3 = 0 then (cl (fX4_load x1 22 h3) fun r22 h22 => cl (fX1_reduced x2 h22) fun r34 h34 => cl (fX1_reduced x3 h34) fun r38 h38 => cl (fX2_valueAt 22 r22 r34 r38 h38) fun r41 h41 => some (r41, h41)) else (some (r3, h3))
set_option maxRecDepth 20000 in
theorem ctX4_value {l : Launch} {D : va_G} {ad : Nat → Nat} {cI cR : ClassId} {x1 : Int} {x2 : Int} {x3 : Int} {h : HP} {Z : Int × HP} (hf : fX4_value x1 x2 x3 h = some Z) : Ct (sdC l D ad cI cR) mX4_value [.ref (ad 0), vi x1, vi x2, vi x3] h (ri Z) := by
  refine Ct.ofF nX4_value rfl (loc := [(0, .ref (ad 0)), (1, vi x1), (2, vi x2), (3, vi x3)]) rfl ?_
  unfold fX4_value at hf
  refine q_aloadn dX4_value_0 0 rfl ?_
  refine q_iloadn dX4_value_1 1 rfl ?_
  refine q_iloadn dX4_value_2 1 rfl ?_
  obtain ⟨r3, h3, e3, hf⟩ := q_cl hf
  refine q_cVi (av := [vi x1, vi x1]) (rest := []) wC_0 (ctX4_refuseForms e3) kX4_refuseForms vX4_refuseForms zX4_refuseForms lkX4_95 rfl rfl rfl rfl rfl dX4_value_3 ?_
  refine q_istore dX4_value_6 rfl (loc' := [(4, vi r3), (0, .ref (ad 0)), (1, vi x1), (2, vi x2), (3, vi x3)]) rfl ?_
  refine q_iload dX4_value_8 0 rfl ?_
  refine q_if_eq hf dX4_value_10 16 (by decide) (fun hf => ?_) (fun hf => ?_)
  · refine q_aloadn dX4_value_16 1 rfl ?_
    refine q_iloadn dX4_value_17 2 rfl ?_
    refine q_aloadn dX4_value_18 1 rfl ?_
    refine C_g4_2 flX4_19 dX4_value_19 ?_
    obtain ⟨r22, h22, e22, hf⟩ := q_cl hf
    refine q_cVi (av := [vi x1, .ref (ad 22)]) (rest := []) wC_0 (ctX4_load rfl e22) kX4_load vX4_load zX4_load lkX4_105 rfl rfl rfl rfl rfl dX4_value_22 ?_
    refine q_istore dX4_value_25 rfl (loc' := [(5, vi r22), (4, vi r3), (0, .ref (ad 0)), (1, vi x1), (2, vi x2), (3, vi x3)]) rfl ?_
    refine q_aloadn dX4_value_27 2 rfl ?_
    refine C_g4_2 flX4_19 dX4_value_28 ?_
    refine q_iload dX4_value_31 0 rfl ?_
    refine q_iloadn dX4_value_33 4 rfl ?_
    obtain ⟨r34, h34, e34, hf⟩ := q_cl hf
    refine q_cSi (av := [vi x2]) (rest := [vi r22, .ref (ad 22)]) (ctX1_reduced e34) kX1_reduced uX1_reduced lkX4_109 rfl rfl rfl dX4_value_34 ?_
    refine q_iloadn dX4_value_37 5 rfl ?_
    obtain ⟨r38, h38, e38, hf⟩ := q_cl hf
    refine q_cSi (av := [vi x3]) (rest := [vi r34, vi r22, .ref (ad 22)]) (ctX1_reduced e38) kX1_reduced uX1_reduced lkX4_109 rfl rfl rfl dX4_value_38 ?_
    obtain ⟨r41, h41, e41, hf⟩ := q_cl hf
    refine q_cSi (av := [.ref (ad 22), vi r22, vi r34, vi r38]) (rest := []) (ctX2_valueAt rfl e41) kX2_valueAt uX2_valueAt lkX4_114 rfl rfl rfl dX4_value_41 ?_
    exact q_iret hf rfl dX4_value_44
  · refine q_iload dX4_value_13 0 rfl ?_
    exact q_iret hf rfl dX4_value_15
def fX4_canJoin (x0 : Int) (x1 : Int) (x2 : Int) (h : HP) : Option (Int × HP) :=
  if wi x2 = 0 then (if wi x0 = wi x1 then (some (1, h)) else (some (0, h))) else (if wi x2 = 1 then (if wi x0 = wi x1 then (some (1, h)) else (some (0, h))) else (if wi x2 = 2 then (if wi (x0 + x1) ≤ wi 8 then (some (1, h)) else (some (0, h))) else (some (1, h))))
set_option maxRecDepth 20000 in
theorem ctX4_canJoin {l : Launch} {D : va_G} {ad : Nat → Nat} {cI cR : ClassId} {x0 : Int} {x1 : Int} {x2 : Int} {h : HP} {Z : Int × HP} (hf : fX4_canJoin x0 x1 x2 h = some Z) : Ct (sdC l D ad cI cR) mX4_canJoin [vi x0, vi x1, vi x2] h (ri Z) := by
  refine Ct.ofF nX4_canJoin rfl (loc := [(0, vi x0), (1, vi x1), (2, vi x2)]) rfl ?_
  unfold fX4_canJoin at hf
  refine q_iloadn dX4_canJoin_0 2 rfl ?_
  by_cases c1_0 : wi x2 = 0
  · rw [if_pos c1_0] at hf
    refine q_tswIn 0 c1_0 dX4_canJoin_1 (by decide) (by decide) rfl 28 (by decide) ?_
    refine q_iloadn dX4_canJoin_28 0 rfl ?_
    refine q_iloadn dX4_canJoin_29 1 rfl ?_
    refine q_icmp_ne hf dX4_canJoin_30 37 (by decide) (fun hf => ?_) (fun hf => ?_)
    · refine q_iconst dX4_canJoin_37 ?_
      exact q_zret hf rfl rfl dX4_canJoin_38
    · refine q_iconst dX4_canJoin_33 ?_
      refine q_goto dX4_canJoin_34 38 (by decide) ?_
      exact q_zret hf rfl rfl dX4_canJoin_38
  · rw [if_neg c1_0] at hf
    by_cases c1_1 : wi x2 = 1
    · rw [if_pos c1_1] at hf
      refine q_tswIn 1 c1_1 dX4_canJoin_1 (by decide) (by decide) rfl 28 (by decide) ?_
      refine q_iloadn dX4_canJoin_28 0 rfl ?_
      refine q_iloadn dX4_canJoin_29 1 rfl ?_
      refine q_icmp_ne hf dX4_canJoin_30 37 (by decide) (fun hf => ?_) (fun hf => ?_)
      · refine q_iconst dX4_canJoin_37 ?_
        exact q_zret hf rfl rfl dX4_canJoin_38
      · refine q_iconst dX4_canJoin_33 ?_
        refine q_goto dX4_canJoin_34 38 (by decide) ?_
        exact q_zret hf rfl rfl dX4_canJoin_38
    · rw [if_neg c1_1] at hf
      by_cases c1_2 : wi x2 = 2
      · rw [if_pos c1_2] at hf
        refine q_tswIn 2 c1_2 dX4_canJoin_1 (by decide) (by decide) rfl 39 (by decide) ?_
        refine q_iloadn dX4_canJoin_39 0 rfl ?_
        refine q_iloadn dX4_canJoin_40 1 rfl ?_
        refine q_iadd dX4_canJoin_41 ?_
        refine q_bipush dX4_canJoin_42 (by decide) ?_
        refine q_icmp_gt hf dX4_canJoin_44 51 (by decide) (fun hf => ?_) (fun hf => ?_)
        · refine q_iconst dX4_canJoin_51 ?_
          exact q_zret hf rfl rfl dX4_canJoin_52
        · refine q_iconst dX4_canJoin_47 ?_
          refine q_goto dX4_canJoin_48 52 (by decide) ?_
          exact q_zret hf rfl rfl dX4_canJoin_52
      · rw [if_neg c1_2] at hf
        refine q_tswOut (by omega) dX4_canJoin_1 53 (by decide) ?_
        refine q_iconst dX4_canJoin_53 ?_
        exact q_zret hf rfl rfl dX4_canJoin_54
def fX4_makeJoined (x1 : Int) (x2 : Int) (x3 : Int) (h : HP) : Option (Int × HP) :=
  cl (fX2_clear 26 h) fun _ h4 => if wi x3 = 0 then (cl (fX2_addTimes 26 22 1 h4) fun _ h45 => cl (fX2_addTimes 26 23 1 h45) fun _ h57 => some (0, h57)) else (if wi x3 = 1 then (cl (fX2_addTimes 26 22 1 h4) fun _ h72 => cl (fX2_addTimes 26 23 10006 h72) fun _ h86 => some (0, h86)) else (if wi x3 = 2 then (cl (fX2_addProduct 26 22 x1 23 x2 1 h4) fun _ h107 => some (0, h107)) else (ld (lnC 23) (h4 23) 0 fun v126 => cl (fX2_addTimes 26 22 v126 h4) fun _ h127 => some (0, h127))))
set_option maxRecDepth 20000 in
theorem ctX4_makeJoined {l : Launch} {D : va_G} {ad : Nat → Nat} {cI cR : ClassId} {x1 : Int} {x2 : Int} {x3 : Int} {h : HP} {Z : Int × HP} (hf : fX4_makeJoined x1 x2 x3 h = some Z) : Ct (sdC l D ad cI cR) mX4_makeJoined [.ref (ad 0), vi x1, vi x2, vi x3] h (rv Z) := by
  refine Ct.ofF nX4_makeJoined rfl (loc := [(0, .ref (ad 0)), (1, vi x1), (2, vi x2), (3, vi x3)]) rfl ?_
  unfold fX4_makeJoined at hf
  refine q_aloadn dX4_makeJoined_0 0 rfl ?_
  refine C_g4_6 flX4_32 dX4_makeJoined_1 ?_
  obtain ⟨r4, h4, e4, hf⟩ := q_cl hf
  refine q_cSv (av := [.ref (ad 26)]) (rest := []) (ctX2_clear rfl e4) kX2_clear uX2_clear lkX4_180 rfl rfl rfl dX4_makeJoined_4 ?_
  refine q_iloadn dX4_makeJoined_7 3 rfl ?_
  by_cases c8_0 : wi x3 = 0
  · rw [if_pos c8_0] at hf
    refine q_tswIn 0 c8_0 dX4_makeJoined_8 (by decide) (by decide) rfl 36 (by decide) ?_
    refine q_aloadn dX4_makeJoined_36 0 rfl ?_
    refine C_g4_6 flX4_32 dX4_makeJoined_37 ?_
    refine q_aloadn dX4_makeJoined_40 0 rfl ?_
    refine C_g4_2 flX4_19 dX4_makeJoined_41 ?_
    refine q_iconst dX4_makeJoined_44 ?_
    obtain ⟨r45, h45, e45, hf⟩ := q_cl hf
    refine q_cSv (av := [.ref (ad 26), .ref (ad 22), vi 1]) (rest := []) (ctX2_addTimes rfl rfl e45) kX2_addTimes uX2_addTimes lkX4_232 rfl rfl rfl dX4_makeJoined_45 ?_
    refine q_aloadn dX4_makeJoined_48 0 rfl ?_
    refine C_g4_6 flX4_32 dX4_makeJoined_49 ?_
    refine q_aloadn dX4_makeJoined_52 0 rfl ?_
    refine C_g4_3 flX4_23 dX4_makeJoined_53 ?_
    refine q_iconst dX4_makeJoined_56 ?_
    obtain ⟨r57, h57, e57, hf⟩ := q_cl hf
    refine q_cSv (av := [.ref (ad 26), .ref (ad 23), vi 1]) (rest := []) (ctX2_addTimes rfl rfl e57) kX2_addTimes uX2_addTimes lkX4_232 rfl rfl rfl dX4_makeJoined_57 ?_
    refine q_goto dX4_makeJoined_60 130 (by decide) ?_
    exact q_vret hf rfl dX4_makeJoined_130
  · rw [if_neg c8_0] at hf
    by_cases c8_1 : wi x3 = 1
    · rw [if_pos c8_1] at hf
      refine q_tswIn 1 c8_1 dX4_makeJoined_8 (by decide) (by decide) rfl 63 (by decide) ?_
      refine q_aloadn dX4_makeJoined_63 0 rfl ?_
      refine C_g4_6 flX4_32 dX4_makeJoined_64 ?_
      refine q_aloadn dX4_makeJoined_67 0 rfl ?_
      refine C_g4_2 flX4_19 dX4_makeJoined_68 ?_
      refine q_iconst dX4_makeJoined_71 ?_
      obtain ⟨r72, h72, e72, hf⟩ := q_cl hf
      refine q_cSv (av := [.ref (ad 26), .ref (ad 22), vi 1]) (rest := []) (ctX2_addTimes rfl rfl e72) kX2_addTimes uX2_addTimes lkX4_232 rfl rfl rfl dX4_makeJoined_72 ?_
      refine q_aloadn dX4_makeJoined_75 0 rfl ?_
      refine C_g4_6 flX4_32 dX4_makeJoined_76 ?_
      refine q_aloadn dX4_makeJoined_79 0 rfl ?_
      refine C_g4_3 flX4_23 dX4_makeJoined_80 ?_
      refine q_sipush dX4_makeJoined_83 (by decide) ?_
      obtain ⟨r86, h86, e86, hf⟩ := q_cl hf
      refine q_cSv (av := [.ref (ad 26), .ref (ad 23), vi 10006]) (rest := []) (ctX2_addTimes rfl rfl e86) kX2_addTimes uX2_addTimes lkX4_232 rfl rfl rfl dX4_makeJoined_86 ?_
      refine q_goto dX4_makeJoined_89 130 (by decide) ?_
      exact q_vret hf rfl dX4_makeJoined_130
    · rw [if_neg c8_1] at hf
      by_cases c8_2 : wi x3 = 2
      · rw [if_pos c8_2] at hf
        refine q_tswIn 2 c8_2 dX4_makeJoined_8 (by decide) (by decide) rfl 92 (by decide) ?_
        refine q_aloadn dX4_makeJoined_92 0 rfl ?_
        refine C_g4_6 flX4_32 dX4_makeJoined_93 ?_
        refine q_aloadn dX4_makeJoined_96 0 rfl ?_
        refine C_g4_2 flX4_19 dX4_makeJoined_97 ?_
        refine q_iloadn dX4_makeJoined_100 1 rfl ?_
        refine q_aloadn dX4_makeJoined_101 0 rfl ?_
        refine C_g4_3 flX4_23 dX4_makeJoined_102 ?_
        refine q_iloadn dX4_makeJoined_105 2 rfl ?_
        refine q_iconst dX4_makeJoined_106 ?_
        obtain ⟨r107, h107, e107, hf⟩ := q_cl hf
        refine q_cSv (av := [.ref (ad 26), .ref (ad 22), vi x1, .ref (ad 23), vi x2, vi 1]) (rest := []) (ctX2_addProduct rfl rfl rfl e107) kX2_addProduct uX2_addProduct lkX4_236 rfl rfl rfl dX4_makeJoined_107 ?_
        refine q_goto dX4_makeJoined_110 130 (by decide) ?_
        exact q_vret hf rfl dX4_makeJoined_130
      · rw [if_neg c8_2] at hf
        refine q_tswOut (by omega) dX4_makeJoined_8 113 (by decide) ?_
        refine q_aloadn dX4_makeJoined_113 0 rfl ?_
        refine C_g4_6 flX4_32 dX4_makeJoined_114 ?_
        refine q_aloadn dX4_makeJoined_117 0 rfl ?_
        refine C_g4_2 flX4_19 dX4_makeJoined_118 ?_
        refine q_aloadn dX4_makeJoined_121 0 rfl ?_
        refine C_g4_3 flX4_23 dX4_makeJoined_122 ?_
        refine q_iconst dX4_makeJoined_125 ?_
        refine C_ld hf dX4_makeJoined_126 (fun v126 hf => ?_)
        obtain ⟨r127, h127, e127, hf⟩ := q_cl hf
        refine q_cSv (av := [.ref (ad 26), .ref (ad 22), vi v126]) (rest := []) (ctX2_addTimes rfl rfl e127) kX2_addTimes uX2_addTimes lkX4_232 rfl rfl rfl dX4_makeJoined_127 ?_
        exact q_vret hf rfl dX4_makeJoined_130
