def fX5_isForm (x1 : Int) (h : HP) : Option (Int × HP) :=
  ld (lnM 1) (h 1) x1 fun v5 => if 0 ≤ wi v5 then (ld (lnM 2) (h 2) x1 fun v14 => cl (fX5_in (wi v14) 1 9 h) fun r20 h20 => if wi r20 = 0 then (some (0, h20)) else (some (1, h20))) else (some (0, h))
set_option maxRecDepth 20000 in
theorem ctX5_isForm {l : Launch} {D : va_G} {ad : Nat → Nat} {cI : ClassId} {x1 : Int} {h : HP} {Z : Int × HP} (hf : fX5_isForm x1 h = some Z) : Ct (sdM l D ad cI) mX5_isForm [.ref (ad 0), vi x1] h (ri Z) := by
  refine Ct.ofF nX5_isForm rfl (loc := [(0, .ref (ad 0)), (1, vi x1)]) rfl ?_
  unfold fX5_isForm at hf
  refine q_aloadn dX5_isForm_0 0 rfl ?_
  refine M_g5_0 flX5_7 dX5_isForm_1 ?_
  refine q_iloadn dX5_isForm_4 1 rfl ?_
  refine M_ld rfl hf dX5_isForm_5 (fun v5 hf => ?_)
  refine q_if_lt hf dX5_isForm_6 30 (by decide) (fun hf => ?_) (fun hf => ?_)
  · refine q_iconst dX5_isForm_30 ?_
    exact q_zret hf rfl rfl dX5_isForm_31
  · refine q_aloadn dX5_isForm_9 0 rfl ?_
    refine M_g5_1 flX5_13 dX5_isForm_10 ?_
    refine q_iloadn dX5_isForm_13 1 rfl ?_
    refine M_ld rfl hf dX5_isForm_14 (fun v14 hf => ?_)
    refine q_i2l dX5_isForm_15 ?_
    refine q_lconst (n := 1) dX5_isForm_16 (by decide) ?_
    refine q_ldc2 (n := 9) dX5_isForm_17 kcX5_60 ?_
    obtain ⟨r20, h20, e20, hf⟩ := q_cl hf
    refine q_cSi (av := [vl (wi v14), vl 1, vl 9]) (rest := []) (ctX5_in e20) kX5_in uX5_in lkX5_62 rfl rfl rfl dX5_isForm_20 ?_
    refine q_if_eq hf dX5_isForm_23 30 (by decide) (fun hf => ?_) (fun hf => ?_)
    · refine q_iconst dX5_isForm_30 ?_
      exact q_zret hf rfl rfl dX5_isForm_31
    · refine q_iconst dX5_isForm_26 ?_
      refine q_goto dX5_isForm_27 31 (by decide) ?_
      exact q_zret hf rfl rfl dX5_isForm_31
def bX5_takeF_14 (self : Int → Int → HP → Option (Int × HP)) (x1 : Int) (x2 : Int) (h : HP) : Option (Int × HP) :=
  if wi x2 < wi 9 then (if wi x2 ≤ wi (h 0 6) then (ld (lnM 3) (h 3) ((12 * x1) + x2) fun v43 => cl (fX5_mod (wi v43) h) fun r45 h45 => sto (lnM 5) h45 5 x2 r45 fun h52 => self x1 (x2 + 1) h52) else (sto (lnM 5) h 5 x2 0 fun h52 => self x1 (x2 + 1) h52)) else (some (0, h))
def LX5_takeF_14 : Nat → Int → Int → HP → Option (Int × HP)
  | 0 => fun _ _ _ => none
  | n + 1 => bX5_takeF_14 (LX5_takeF_14 n)
set_option maxRecDepth 20000 in
theorem tX5_takeF_14 {l : Launch} {D : va_G} {ad : Nat → Nat} {cI : ClassId} {Z : Int × HP} : ∀ (n : Nat) (x1 : Int) (x2 : Int) (h : HP), LX5_takeF_14 n x1 x2 h = some Z → Rn (sdM l D ad cI) mX5_takeF (rv Z) 14 [(0, .ref (ad 0)), (1, vi x1), (2, vi x2)] [] h := by
  intro n
  induction n with
  | zero => intro x1 x2 h hf; cases hf
  | succ n ih =>
    intro x1 x2 h hf
    replace hf : bX5_takeF_14 (LX5_takeF_14 n) x1 x2 h = some Z := hf
    unfold bX5_takeF_14 at hf
    refine q_iloadn dX5_takeF_14 2 rfl ?_
    refine q_bipush dX5_takeF_15 (by decide) ?_
    refine q_icmp_ge hf dX5_takeF_17 59 (by decide) (fun hf => ?_) (fun hf => ?_)
    · exact q_vret hf rfl dX5_takeF_59
    · refine q_aloadn dX5_takeF_20 0 rfl ?_
      refine M_g5_5 flX5_22 dX5_takeF_21 ?_
      refine q_iloadn dX5_takeF_24 2 rfl ?_
      refine q_iloadn dX5_takeF_25 2 rfl ?_
      refine q_aloadn dX5_takeF_26 0 rfl ?_
      refine M_g5_6 flX5_81 dX5_takeF_27 ?_
      refine q_icmp_gt hf dX5_takeF_30 51 (by decide) (fun hf => ?_) (fun hf => ?_)
      · refine q_iconst dX5_takeF_51 ?_
        refine M_st rfl hf dX5_takeF_52 (fun h52 hf => ?_)
        refine q_iinc dX5_takeF_53 2 rfl rfl (loc' := [(2, vi (x2 + 1)), (0, .ref (ad 0)), (1, vi x1)]) rfl ?_
        refine q_goto dX5_takeF_56 14 (by decide) ?_
        refine q_loc (loc' := [(0, .ref (ad 0)), (1, vi x1), (2, vi (x2 + 1))]) [1, 2, 0] rfl ?_
        exact ih x1 (x2 + 1) h52 hf
      · refine q_aloadn dX5_takeF_33 0 rfl ?_
        refine M_g5_2 flX5_16 dX5_takeF_34 ?_
        refine q_bipush dX5_takeF_37 (by decide) ?_
        refine q_iloadn dX5_takeF_39 1 rfl ?_
        refine q_imul dX5_takeF_40 ?_
        refine q_iloadn dX5_takeF_41 2 rfl ?_
        refine q_iadd dX5_takeF_42 ?_
        refine M_ld rfl hf dX5_takeF_43 (fun v43 hf => ?_)
        refine q_i2l dX5_takeF_44 ?_
        obtain ⟨r45, h45, e45, hf⟩ := q_cl hf
        refine q_cSi (av := [vl (wi v43)]) (rest := [vi x2, .ref (ad 5)]) (ctX5_mod e45) kX5_mod uX5_mod lkX5_48 rfl rfl rfl dX5_takeF_45 ?_
        refine q_goto dX5_takeF_48 52 (by decide) ?_
        refine M_st rfl hf dX5_takeF_52 (fun h52 hf => ?_)
        refine q_iinc dX5_takeF_53 2 rfl rfl (loc' := [(2, vi (x2 + 1)), (0, .ref (ad 0)), (1, vi x1)]) rfl ?_
        refine q_goto dX5_takeF_56 14 (by decide) ?_
        refine q_loc (loc' := [(0, .ref (ad 0)), (1, vi x1), (2, vi (x2 + 1))]) [1, 2, 0] rfl ?_
        exact ih x1 (x2 + 1) h52 hf
def fX5_takeF (x1 : Int) (h : HP) : Option (Int × HP) :=
  ld (lnM 2) (h 2) x1 fun v6 => pf h 0 6 (v6 - 1) fun h9 => LX5_takeF_14 FU x1 0 h9
set_option maxRecDepth 20000 in
theorem ctX5_takeF {l : Launch} {D : va_G} {ad : Nat → Nat} {cI : ClassId} {x1 : Int} {h : HP} {Z : Int × HP} (hf : fX5_takeF x1 h = some Z) : Ct (sdM l D ad cI) mX5_takeF [.ref (ad 0), vi x1] h (rv Z) := by
  refine Ct.ofF nX5_takeF rfl (loc := [(0, .ref (ad 0)), (1, vi x1)]) rfl ?_
  unfold fX5_takeF at hf
  refine q_aloadn dX5_takeF_0 0 rfl ?_
  refine q_aloadn dX5_takeF_1 0 rfl ?_
  refine M_g5_1 flX5_13 dX5_takeF_2 ?_
  refine q_iloadn dX5_takeF_5 1 rfl ?_
  refine M_ld rfl hf dX5_takeF_6 (fun v6 hf => ?_)
  refine q_iconst dX5_takeF_7 ?_
  refine q_isub dX5_takeF_8 ?_
  refine M_p5_6 hf flX5_81 dX5_takeF_9 (fun h9 hf => ?_)
  refine q_iconst dX5_takeF_12 ?_
  refine q_istoren dX5_takeF_13 rfl (loc' := [(2, vi 0), (0, .ref (ad 0)), (1, vi x1)]) rfl ?_
  refine q_loc (loc' := [(0, .ref (ad 0)), (1, vi x1), (2, vi 0)]) [1, 2, 0] rfl ?_
  exact tX5_takeF_14 FU x1 0 h9 hf
def bX5_takeG_14 (self : Int → Int → HP → Option (Int × HP)) (x1 : Int) (x2 : Int) (h : HP) : Option (Int × HP) :=
  if wi x2 < wi 9 then (if wi x2 ≤ wi (h 0 8) then (ld (lnM 3) (h 3) ((12 * x1) + x2) fun v43 => cl (fX5_mod (wi v43) h) fun r45 h45 => sto (lnM 6) h45 6 x2 r45 fun h52 => self x1 (x2 + 1) h52) else (sto (lnM 6) h 6 x2 0 fun h52 => self x1 (x2 + 1) h52)) else (some (0, h))
def LX5_takeG_14 : Nat → Int → Int → HP → Option (Int × HP)
  | 0 => fun _ _ _ => none
  | n + 1 => bX5_takeG_14 (LX5_takeG_14 n)
set_option maxRecDepth 20000 in
theorem tX5_takeG_14 {l : Launch} {D : va_G} {ad : Nat → Nat} {cI : ClassId} {Z : Int × HP} : ∀ (n : Nat) (x1 : Int) (x2 : Int) (h : HP), LX5_takeG_14 n x1 x2 h = some Z → Rn (sdM l D ad cI) mX5_takeG (rv Z) 14 [(0, .ref (ad 0)), (1, vi x1), (2, vi x2)] [] h := by
  intro n
  induction n with
  | zero => intro x1 x2 h hf; cases hf
  | succ n ih =>
    intro x1 x2 h hf
    replace hf : bX5_takeG_14 (LX5_takeG_14 n) x1 x2 h = some Z := hf
    unfold bX5_takeG_14 at hf
    refine q_iloadn dX5_takeG_14 2 rfl ?_
    refine q_bipush dX5_takeG_15 (by decide) ?_
    refine q_icmp_ge hf dX5_takeG_17 59 (by decide) (fun hf => ?_) (fun hf => ?_)
    · exact q_vret hf rfl dX5_takeG_59
    · refine q_aloadn dX5_takeG_20 0 rfl ?_
      refine M_g5_7 flX5_25 dX5_takeG_21 ?_
      refine q_iloadn dX5_takeG_24 2 rfl ?_
      refine q_iloadn dX5_takeG_25 2 rfl ?_
      refine q_aloadn dX5_takeG_26 0 rfl ?_
      refine M_g5_8 flX5_84 dX5_takeG_27 ?_
      refine q_icmp_gt hf dX5_takeG_30 51 (by decide) (fun hf => ?_) (fun hf => ?_)
      · refine q_iconst dX5_takeG_51 ?_
        refine M_st rfl hf dX5_takeG_52 (fun h52 hf => ?_)
        refine q_iinc dX5_takeG_53 2 rfl rfl (loc' := [(2, vi (x2 + 1)), (0, .ref (ad 0)), (1, vi x1)]) rfl ?_
        refine q_goto dX5_takeG_56 14 (by decide) ?_
        refine q_loc (loc' := [(0, .ref (ad 0)), (1, vi x1), (2, vi (x2 + 1))]) [1, 2, 0] rfl ?_
        exact ih x1 (x2 + 1) h52 hf
      · refine q_aloadn dX5_takeG_33 0 rfl ?_
        refine M_g5_2 flX5_16 dX5_takeG_34 ?_
        refine q_bipush dX5_takeG_37 (by decide) ?_
        refine q_iloadn dX5_takeG_39 1 rfl ?_
        refine q_imul dX5_takeG_40 ?_
        refine q_iloadn dX5_takeG_41 2 rfl ?_
        refine q_iadd dX5_takeG_42 ?_
        refine M_ld rfl hf dX5_takeG_43 (fun v43 hf => ?_)
        refine q_i2l dX5_takeG_44 ?_
        obtain ⟨r45, h45, e45, hf⟩ := q_cl hf
        refine q_cSi (av := [vl (wi v43)]) (rest := [vi x2, .ref (ad 6)]) (ctX5_mod e45) kX5_mod uX5_mod lkX5_48 rfl rfl rfl dX5_takeG_45 ?_
        refine q_goto dX5_takeG_48 52 (by decide) ?_
        refine M_st rfl hf dX5_takeG_52 (fun h52 hf => ?_)
        refine q_iinc dX5_takeG_53 2 rfl rfl (loc' := [(2, vi (x2 + 1)), (0, .ref (ad 0)), (1, vi x1)]) rfl ?_
        refine q_goto dX5_takeG_56 14 (by decide) ?_
        refine q_loc (loc' := [(0, .ref (ad 0)), (1, vi x1), (2, vi (x2 + 1))]) [1, 2, 0] rfl ?_
        exact ih x1 (x2 + 1) h52 hf
def fX5_takeG (x1 : Int) (h : HP) : Option (Int × HP) :=
  ld (lnM 2) (h 2) x1 fun v6 => pf h 0 8 (v6 - 1) fun h9 => LX5_takeG_14 FU x1 0 h9
set_option maxRecDepth 20000 in
theorem ctX5_takeG {l : Launch} {D : va_G} {ad : Nat → Nat} {cI : ClassId} {x1 : Int} {h : HP} {Z : Int × HP} (hf : fX5_takeG x1 h = some Z) : Ct (sdM l D ad cI) mX5_takeG [.ref (ad 0), vi x1] h (rv Z) := by
  refine Ct.ofF nX5_takeG rfl (loc := [(0, .ref (ad 0)), (1, vi x1)]) rfl ?_
  unfold fX5_takeG at hf
  refine q_aloadn dX5_takeG_0 0 rfl ?_
  refine q_aloadn dX5_takeG_1 0 rfl ?_
  refine M_g5_1 flX5_13 dX5_takeG_2 ?_
  refine q_iloadn dX5_takeG_5 1 rfl ?_
  refine M_ld rfl hf dX5_takeG_6 (fun v6 hf => ?_)
  refine q_iconst dX5_takeG_7 ?_
  refine q_isub dX5_takeG_8 ?_
  refine M_p5_8 hf flX5_84 dX5_takeG_9 (fun h9 hf => ?_)
  refine q_iconst dX5_takeG_12 ?_
  refine q_istoren dX5_takeG_13 rfl (loc' := [(2, vi 0), (0, .ref (ad 0)), (1, vi x1)]) rfl ?_
  refine q_loc (loc' := [(0, .ref (ad 0)), (1, vi x1), (2, vi 0)]) [1, 2, 0] rfl ?_
  exact tX5_takeG_14 FU x1 0 h9 hf
def bX5_lay_21 (self : Int → Int → HP → Option (Int × HP)) (x1 : Int) (x2 : Int) (h : HP) : Option (Int × HP) :=
  if wi x2 ≤ wi (h 0 10) then (ld (lnM 7) (h 7) x2 fun v44 => sto (lnM 3) h 3 ((12 * x1) + x2) v44 fun h45 => self x1 (x2 + 1) h45) else (some (h 0 10, h))
def LX5_lay_21 : Nat → Int → Int → HP → Option (Int × HP)
  | 0 => fun _ _ _ => none
  | n + 1 => bX5_lay_21 (LX5_lay_21 n)
set_option maxRecDepth 20000 in
theorem tX5_lay_21 {l : Launch} {D : va_G} {ad : Nat → Nat} {cI : ClassId} {Z : Int × HP} : ∀ (n : Nat) (x1 : Int) (x2 : Int) (h : HP), LX5_lay_21 n x1 x2 h = some Z → Rn (sdM l D ad cI) mX5_lay (ri Z) 21 [(0, .ref (ad 0)), (1, vi x1), (2, vi x2)] [] h := by
  intro n
  induction n with
  | zero => intro x1 x2 h hf; cases hf
  | succ n ih =>
    intro x1 x2 h hf
    replace hf : bX5_lay_21 (LX5_lay_21 n) x1 x2 h = some Z := hf
    unfold bX5_lay_21 at hf
    refine q_iloadn dX5_lay_21 2 rfl ?_
    refine q_aloadn dX5_lay_22 0 rfl ?_
    refine M_g5_10 flX5_87 dX5_lay_23 ?_
    refine q_icmp_gt hf dX5_lay_26 52 (by decide) (fun hf => ?_) (fun hf => ?_)
    · refine q_aloadn dX5_lay_52 0 rfl ?_
      refine M_g5_10 flX5_87 dX5_lay_53 ?_
      exact q_iret hf rfl dX5_lay_56
    · refine q_aloadn dX5_lay_29 0 rfl ?_
      refine M_g5_2 flX5_16 dX5_lay_30 ?_
      refine q_bipush dX5_lay_33 (by decide) ?_
      refine q_iloadn dX5_lay_35 1 rfl ?_
      refine q_imul dX5_lay_36 ?_
      refine q_iloadn dX5_lay_37 2 rfl ?_
      refine q_iadd dX5_lay_38 ?_
      refine q_aloadn dX5_lay_39 0 rfl ?_
      refine M_g5_9 flX5_28 dX5_lay_40 ?_
      refine q_iloadn dX5_lay_43 2 rfl ?_
      refine M_ld rfl hf dX5_lay_44 (fun v44 hf => ?_)
      refine M_st rfl hf dX5_lay_45 (fun h45 hf => ?_)
      refine q_iinc dX5_lay_46 2 rfl rfl (loc' := [(2, vi (x2 + 1)), (0, .ref (ad 0)), (1, vi x1)]) rfl ?_
      refine q_goto dX5_lay_49 21 (by decide) ?_
      refine q_loc (loc' := [(0, .ref (ad 0)), (1, vi x1), (2, vi (x2 + 1))]) [1, 2, 0] rfl ?_
      exact ih x1 (x2 + 1) h45 hf
def fX5_lay (x1 : Int) (h : HP) : Option (Int × HP) :=
  sto (lnM 1) h 1 x1 2 fun h6 => sto (lnM 2) h6 2 x1 ((h6 0 10) + 1) fun h18 => LX5_lay_21 FU x1 0 h18
set_option maxRecDepth 20000 in
theorem ctX5_lay {l : Launch} {D : va_G} {ad : Nat → Nat} {cI : ClassId} {x1 : Int} {h : HP} {Z : Int × HP} (hf : fX5_lay x1 h = some Z) : Ct (sdM l D ad cI) mX5_lay [.ref (ad 0), vi x1] h (ri Z) := by
  refine Ct.ofF nX5_lay rfl (loc := [(0, .ref (ad 0)), (1, vi x1)]) rfl ?_
  unfold fX5_lay at hf
  refine q_aloadn dX5_lay_0 0 rfl ?_
  refine M_g5_0 flX5_7 dX5_lay_1 ?_
  refine q_iloadn dX5_lay_4 1 rfl ?_
  refine q_iconst dX5_lay_5 ?_
  refine M_st rfl hf dX5_lay_6 (fun h6 hf => ?_)
  refine q_aloadn dX5_lay_7 0 rfl ?_
  refine M_g5_1 flX5_13 dX5_lay_8 ?_
  refine q_iloadn dX5_lay_11 1 rfl ?_
  refine q_aloadn dX5_lay_12 0 rfl ?_
  refine M_g5_10 flX5_87 dX5_lay_13 ?_
  refine q_iconst dX5_lay_16 ?_
  refine q_iadd dX5_lay_17 ?_
  refine M_st rfl hf dX5_lay_18 (fun h18 hf => ?_)
  refine q_iconst dX5_lay_19 ?_
  refine q_istoren dX5_lay_20 rfl (loc' := [(2, vi 0), (0, .ref (ad 0)), (1, vi x1)]) rfl ?_
  refine q_loc (loc' := [(0, .ref (ad 0)), (1, vi x1), (2, vi 0)]) [1, 2, 0] rfl ?_
  exact tX5_lay_21 FU x1 0 h18 hf
def bX5_noughtH_7 (self : Int → HP → Option (Int × HP)) (x2 : Int) (h : HP) : Option (Int × HP) :=
  if wi x2 < wi 20 then (sto (lnM 7) h 7 x2 0 fun h19 => self (x2 + 1) h19) else (some (0, h))
def LX5_noughtH_7 : Nat → Int → HP → Option (Int × HP)
  | 0 => fun _ _ => none
  | n + 1 => bX5_noughtH_7 (LX5_noughtH_7 n)
set_option maxRecDepth 20000 in
theorem tX5_noughtH_7 {l : Launch} {D : va_G} {ad : Nat → Nat} {cI : ClassId} {Z : Int × HP} : ∀ (n : Nat) (x2 : Int) (h : HP), LX5_noughtH_7 n x2 h = some Z → Rn (sdM l D ad cI) mX5_noughtH (rv Z) 7 [(0, .ref (ad 0)), (2, vi x2)] [] h := by
  intro n
  induction n with
  | zero => intro x2 h hf; cases hf
  | succ n ih =>
    intro x2 h hf
    replace hf : bX5_noughtH_7 (LX5_noughtH_7 n) x2 h = some Z := hf
    unfold bX5_noughtH_7 at hf
    refine q_iloadn dX5_noughtH_7 1 rfl ?_
    refine q_bipush dX5_noughtH_8 (by decide) ?_
    refine q_icmp_ge hf dX5_noughtH_10 26 (by decide) (fun hf => ?_) (fun hf => ?_)
    · exact q_vret hf rfl dX5_noughtH_26
    · refine q_aloadn dX5_noughtH_13 0 rfl ?_
      refine M_g5_9 flX5_28 dX5_noughtH_14 ?_
      refine q_iloadn dX5_noughtH_17 1 rfl ?_
      refine q_iconst dX5_noughtH_18 ?_
      refine M_st rfl hf dX5_noughtH_19 (fun h19 hf => ?_)
      refine q_iinc dX5_noughtH_20 1 rfl rfl (loc' := [(2, vi (x2 + 1)), (0, .ref (ad 0))]) rfl ?_
      refine q_goto dX5_noughtH_23 7 (by decide) ?_
      refine q_loc (loc' := [(0, .ref (ad 0)), (2, vi (x2 + 1))]) [1, 0] rfl ?_
      exact ih (x2 + 1) h19 hf
def fX5_noughtH (x1 : Int) (h : HP) : Option (Int × HP) :=
  pf h 0 10 x1 fun h2 => LX5_noughtH_7 FU 0 h2
set_option maxRecDepth 20000 in
theorem ctX5_noughtH {l : Launch} {D : va_G} {ad : Nat → Nat} {cI : ClassId} {x1 : Int} {h : HP} {Z : Int × HP} (hf : fX5_noughtH x1 h = some Z) : Ct (sdM l D ad cI) mX5_noughtH [.ref (ad 0), vi x1] h (rv Z) := by
  refine Ct.ofF nX5_noughtH rfl (loc := [(0, .ref (ad 0)), (1, vi x1)]) rfl ?_
  unfold fX5_noughtH at hf
  refine q_aloadn dX5_noughtH_0 0 rfl ?_
  refine q_iloadn dX5_noughtH_1 1 rfl ?_
  refine M_p5_10 hf flX5_87 dX5_noughtH_2 (fun h2 hf => ?_)
  refine q_iconst dX5_noughtH_5 ?_
  refine q_istoren dX5_noughtH_6 rfl (loc' := [(2, vi 0), (0, .ref (ad 0)), (1, vi x1)]) rfl ?_
  refine q_loc (loc' := [(0, .ref (ad 0)), (2, vi 0)]) [1, 0] rfl ?_
  exact tX5_noughtH_7 FU 0 h2 hf
def fX5_lacksOne (x1 : Int) (h : HP) : Option (Int × HP) :=
  ld (lnM 1) (h 1) x1 fun v5 => if wi v5 < 0 then (cl (fX5_met 1 h) fun r11 h11 => some (r11, h11)) else (cl (fX5_isForm x1 h) fun r17 h17 => if wi r17 = 0 then (some ((-3), h17)) else (cl (fX5_takeF x1 h17) fun _ h28 => some (0, h28)))
set_option maxRecDepth 20000 in
theorem ctX5_lacksOne {l : Launch} {D : va_G} {ad : Nat → Nat} {cI : ClassId} {x1 : Int} {h : HP} {Z : Int × HP} (hf : fX5_lacksOne x1 h = some Z) : Ct (sdM l D ad cI) mX5_lacksOne [.ref (ad 0), vi x1] h (ri Z) := by
  refine Ct.ofF nX5_lacksOne rfl (loc := [(0, .ref (ad 0)), (1, vi x1)]) rfl ?_
  unfold fX5_lacksOne at hf
  refine q_aloadn dX5_lacksOne_0 0 rfl ?_
  refine M_g5_0 flX5_7 dX5_lacksOne_1 ?_
  refine q_iloadn dX5_lacksOne_4 1 rfl ?_
  refine M_ld rfl hf dX5_lacksOne_5 (fun v5 hf => ?_)
  refine q_if_ge hf dX5_lacksOne_6 15 (by decide) (fun hf => ?_) (fun hf => ?_)
  · refine q_aloadn dX5_lacksOne_15 0 rfl ?_
    refine q_iloadn dX5_lacksOne_16 1 rfl ?_
    obtain ⟨r17, h17, e17, hf⟩ := q_cl hf
    refine q_cVi (av := [vi x1]) (rest := []) wM_0 (ctX5_isForm e17) kX5_isForm vX5_isForm zX5_isForm lkX5_90 rfl rfl rfl rfl rfl dX5_lacksOne_17 ?_
    refine q_if_ne hf dX5_lacksOne_20 26 (by decide) (fun hf => ?_) (fun hf => ?_)
    · refine q_aloadn dX5_lacksOne_26 0 rfl ?_
      refine q_iloadn dX5_lacksOne_27 1 rfl ?_
      obtain ⟨r28, h28, e28, hf⟩ := q_cl hf
      refine q_cVv (av := [vi x1]) (rest := []) wM_0 (ctX5_takeF e28) kX5_takeF vX5_takeF zX5_takeF lkX5_93 rfl rfl rfl rfl rfl dX5_lacksOne_28 ?_
      refine q_iconst dX5_lacksOne_31 ?_
      exact q_iret hf rfl dX5_lacksOne_32
    · refine q_bipush dX5_lacksOne_23 (by decide) ?_
      exact q_iret hf rfl dX5_lacksOne_25
  · refine q_aloadn dX5_lacksOne_9 0 rfl ?_
    refine q_iconst dX5_lacksOne_10 ?_
    obtain ⟨r11, h11, e11, hf⟩ := q_cl hf
    refine q_cVi (av := [vi 1]) (rest := []) wM_0 (ctX5_met e11) kX5_met vX5_met zX5_met lkX5_72 rfl rfl rfl rfl rfl dX5_lacksOne_11 ?_
    exact q_iret hf rfl dX5_lacksOne_14
def fX5_lacksTwo (x1 : Int) (x2 : Int) (h : HP) : Option (Int × HP) :=
  ld (lnM 1) (h 1) x1 fun v5 => if 0 ≤ wi v5 then (ld (lnM 1) (h 1) x2 fun v14 => if wi v14 < 0 then (cl (fX5_met 1 h) fun r20 h20 => some (r20, h20)) else (cl (fX5_isForm x1 h) fun r26 h26 => if wi r26 = 0 then (some ((-3), h26)) else (cl (fX5_isForm x2 h26) fun r34 h34 => if wi r34 = 0 then (some ((-3), h34)) else (cl (fX5_takeF x1 h34) fun _ h45 => cl (fX5_takeG x2 h45) fun _ h50 => some (0, h50))))) else (cl (fX5_met 1 h) fun r20 h20 => some (r20, h20))
set_option maxRecDepth 20000 in
theorem ctX5_lacksTwo {l : Launch} {D : va_G} {ad : Nat → Nat} {cI : ClassId} {x1 : Int} {x2 : Int} {h : HP} {Z : Int × HP} (hf : fX5_lacksTwo x1 x2 h = some Z) : Ct (sdM l D ad cI) mX5_lacksTwo [.ref (ad 0), vi x1, vi x2] h (ri Z) := by
  refine Ct.ofF nX5_lacksTwo rfl (loc := [(0, .ref (ad 0)), (1, vi x1), (2, vi x2)]) rfl ?_
  unfold fX5_lacksTwo at hf
  refine q_aloadn dX5_lacksTwo_0 0 rfl ?_
  refine M_g5_0 flX5_7 dX5_lacksTwo_1 ?_
  refine q_iloadn dX5_lacksTwo_4 1 rfl ?_
  refine M_ld rfl hf dX5_lacksTwo_5 (fun v5 hf => ?_)
  refine q_if_lt hf dX5_lacksTwo_6 18 (by decide) (fun hf => ?_) (fun hf => ?_)
  · refine q_aloadn dX5_lacksTwo_18 0 rfl ?_
    refine q_iconst dX5_lacksTwo_19 ?_
    obtain ⟨r20, h20, e20, hf⟩ := q_cl hf
    refine q_cVi (av := [vi 1]) (rest := []) wM_0 (ctX5_met e20) kX5_met vX5_met zX5_met lkX5_72 rfl rfl rfl rfl rfl dX5_lacksTwo_20 ?_
    exact q_iret hf rfl dX5_lacksTwo_23
  · refine q_aloadn dX5_lacksTwo_9 0 rfl ?_
    refine M_g5_0 flX5_7 dX5_lacksTwo_10 ?_
    refine q_iloadn dX5_lacksTwo_13 2 rfl ?_
    refine M_ld rfl hf dX5_lacksTwo_14 (fun v14 hf => ?_)
    refine q_if_ge hf dX5_lacksTwo_15 24 (by decide) (fun hf => ?_) (fun hf => ?_)
    · refine q_aloadn dX5_lacksTwo_24 0 rfl ?_
      refine q_iloadn dX5_lacksTwo_25 1 rfl ?_
      obtain ⟨r26, h26, e26, hf⟩ := q_cl hf
      refine q_cVi (av := [vi x1]) (rest := []) wM_0 (ctX5_isForm e26) kX5_isForm vX5_isForm zX5_isForm lkX5_90 rfl rfl rfl rfl rfl dX5_lacksTwo_26 ?_
      refine q_if_eq hf dX5_lacksTwo_29 40 (by decide) (fun hf => ?_) (fun hf => ?_)
      · refine q_bipush dX5_lacksTwo_40 (by decide) ?_
        exact q_iret hf rfl dX5_lacksTwo_42
      · refine q_aloadn dX5_lacksTwo_32 0 rfl ?_
        refine q_iloadn dX5_lacksTwo_33 2 rfl ?_
        obtain ⟨r34, h34, e34, hf⟩ := q_cl hf
        refine q_cVi (av := [vi x2]) (rest := []) wM_0 (ctX5_isForm e34) kX5_isForm vX5_isForm zX5_isForm lkX5_90 rfl rfl rfl rfl rfl dX5_lacksTwo_34 ?_
        refine q_if_ne hf dX5_lacksTwo_37 43 (by decide) (fun hf => ?_) (fun hf => ?_)
        · refine q_aloadn dX5_lacksTwo_43 0 rfl ?_
          refine q_iloadn dX5_lacksTwo_44 1 rfl ?_
          obtain ⟨r45, h45, e45, hf⟩ := q_cl hf
          refine q_cVv (av := [vi x1]) (rest := []) wM_0 (ctX5_takeF e45) kX5_takeF vX5_takeF zX5_takeF lkX5_93 rfl rfl rfl rfl rfl dX5_lacksTwo_45 ?_
          refine q_aloadn dX5_lacksTwo_48 0 rfl ?_
          refine q_iloadn dX5_lacksTwo_49 2 rfl ?_
          obtain ⟨r50, h50, e50, hf⟩ := q_cl hf
          refine q_cVv (av := [vi x2]) (rest := []) wM_0 (ctX5_takeG e50) kX5_takeG vX5_takeG zX5_takeG lkX5_97 rfl rfl rfl rfl rfl dX5_lacksTwo_50 ?_
          refine q_iconst dX5_lacksTwo_53 ?_
          exact q_iret hf rfl dX5_lacksTwo_54
        · refine q_bipush dX5_lacksTwo_40 (by decide) ?_
          exact q_iret hf rfl dX5_lacksTwo_42
    · refine q_aloadn dX5_lacksTwo_18 0 rfl ?_
      refine q_iconst dX5_lacksTwo_19 ?_
      obtain ⟨r20, h20, e20, hf⟩ := q_cl hf
      refine q_cVi (av := [vi 1]) (rest := []) wM_0 (ctX5_met e20) kX5_met vX5_met zX5_met lkX5_72 rfl rfl rfl rfl rfl dX5_lacksTwo_20 ?_
      exact q_iret hf rfl dX5_lacksTwo_23
def bX5_isNoughtF_4 (self : Int → Int → HP → Option (Int × HP)) (x1 : Int) (x2 : Int) (h : HP) : Option (Int × HP) :=
  if wi x2 ≤ wi (h 0 6) then (if wi x1 = 0 then (self 0 (x2 + 1) h) else (ld (lnM 5) (h 5) x2 fun v21 => if wi v21 = 0 then (self 1 (x2 + 1) h) else (self 0 (x2 + 1) h))) else (gd (x1 = 0 ∨ x1 = 1) (some (x1, h)))
def LX5_isNoughtF_4 : Nat → Int → Int → HP → Option (Int × HP)
  | 0 => fun _ _ _ => none
  | n + 1 => bX5_isNoughtF_4 (LX5_isNoughtF_4 n)
set_option maxRecDepth 20000 in
theorem tX5_isNoughtF_4 {l : Launch} {D : va_G} {ad : Nat → Nat} {cI : ClassId} {Z : Int × HP} : ∀ (n : Nat) (x1 : Int) (x2 : Int) (h : HP), LX5_isNoughtF_4 n x1 x2 h = some Z → Rn (sdM l D ad cI) mX5_isNoughtF (ri Z) 4 [(0, .ref (ad 0)), (1, vi x1), (2, vi x2)] [] h := by
  intro n
  induction n with
  | zero => intro x1 x2 h hf; cases hf
  | succ n ih =>
    intro x1 x2 h hf
    replace hf : bX5_isNoughtF_4 (LX5_isNoughtF_4 n) x1 x2 h = some Z := hf
    unfold bX5_isNoughtF_4 at hf
    refine q_iloadn dX5_isNoughtF_4 2 rfl ?_
    refine q_aloadn dX5_isNoughtF_5 0 rfl ?_
    refine M_g5_6 flX5_81 dX5_isNoughtF_6 ?_
    refine q_icmp_gt hf dX5_isNoughtF_9 37 (by decide) (fun hf => ?_) (fun hf => ?_)
    · refine q_iloadn dX5_isNoughtF_37 1 rfl ?_
      obtain ⟨g38, hf⟩ := q_gd hf
      exact q_zret hf rfl (by rcases g38 with q | q <;> rw [q] <;> rfl) dX5_isNoughtF_38
    · refine q_iloadn dX5_isNoughtF_12 1 rfl ?_
      refine q_if_eq hf dX5_isNoughtF_13 29 (by decide) (fun hf => ?_) (fun hf => ?_)
      · refine q_iconst dX5_isNoughtF_29 ?_
        refine q_istoren dX5_isNoughtF_30 rfl (loc' := [(1, vi 0), (0, .ref (ad 0)), (2, vi x2)]) rfl ?_
        refine q_iinc dX5_isNoughtF_31 2 rfl rfl (loc' := [(2, vi (x2 + 1)), (1, vi 0), (0, .ref (ad 0))]) rfl ?_
        refine q_goto dX5_isNoughtF_34 4 (by decide) ?_
        refine q_loc (loc' := [(0, .ref (ad 0)), (1, vi 0), (2, vi (x2 + 1))]) [2, 1, 0] rfl ?_
        exact ih 0 (x2 + 1) h hf
      · refine q_aloadn dX5_isNoughtF_16 0 rfl ?_
        refine M_g5_5 flX5_22 dX5_isNoughtF_17 ?_
        refine q_iloadn dX5_isNoughtF_20 2 rfl ?_
        refine M_ld rfl hf dX5_isNoughtF_21 (fun v21 hf => ?_)
        refine q_if_ne hf dX5_isNoughtF_22 29 (by decide) (fun hf => ?_) (fun hf => ?_)
        · refine q_iconst dX5_isNoughtF_29 ?_
          refine q_istoren dX5_isNoughtF_30 rfl (loc' := [(1, vi 0), (0, .ref (ad 0)), (2, vi x2)]) rfl ?_
          refine q_iinc dX5_isNoughtF_31 2 rfl rfl (loc' := [(2, vi (x2 + 1)), (1, vi 0), (0, .ref (ad 0))]) rfl ?_
          refine q_goto dX5_isNoughtF_34 4 (by decide) ?_
          refine q_loc (loc' := [(0, .ref (ad 0)), (1, vi 0), (2, vi (x2 + 1))]) [2, 1, 0] rfl ?_
          exact ih 0 (x2 + 1) h hf
        · refine q_iconst dX5_isNoughtF_25 ?_
          refine q_goto dX5_isNoughtF_26 30 (by decide) ?_
          refine q_istoren dX5_isNoughtF_30 rfl (loc' := [(1, vi 1), (0, .ref (ad 0)), (2, vi x2)]) rfl ?_
          refine q_iinc dX5_isNoughtF_31 2 rfl rfl (loc' := [(2, vi (x2 + 1)), (1, vi 1), (0, .ref (ad 0))]) rfl ?_
          refine q_goto dX5_isNoughtF_34 4 (by decide) ?_
          refine q_loc (loc' := [(0, .ref (ad 0)), (1, vi 1), (2, vi (x2 + 1))]) [2, 1, 0] rfl ?_
          exact ih 1 (x2 + 1) h hf
def fX5_isNoughtF (h : HP) : Option (Int × HP) :=
  LX5_isNoughtF_4 FU 1 0 h
set_option maxRecDepth 20000 in
theorem ctX5_isNoughtF {l : Launch} {D : va_G} {ad : Nat → Nat} {cI : ClassId} {h : HP} {Z : Int × HP} (hf : fX5_isNoughtF h = some Z) : Ct (sdM l D ad cI) mX5_isNoughtF [.ref (ad 0)] h (ri Z) := by
  refine Ct.ofF nX5_isNoughtF rfl (loc := [(0, .ref (ad 0))]) rfl ?_
  unfold fX5_isNoughtF at hf
  refine q_iconst dX5_isNoughtF_0 ?_
  refine q_istoren dX5_isNoughtF_1 rfl (loc' := [(1, vi 1), (0, .ref (ad 0))]) rfl ?_
  refine q_iconst dX5_isNoughtF_2 ?_
  refine q_istoren dX5_isNoughtF_3 rfl (loc' := [(2, vi 0), (1, vi 1), (0, .ref (ad 0))]) rfl ?_
  refine q_loc (loc' := [(0, .ref (ad 0)), (1, vi 1), (2, vi 0)]) [2, 1, 0] rfl ?_
  exact tX5_isNoughtF_4 FU 1 0 h hf
def bX5_isNoughtG_4 (self : Int → Int → HP → Option (Int × HP)) (x1 : Int) (x2 : Int) (h : HP) : Option (Int × HP) :=
  if wi x2 ≤ wi (h 0 8) then (if wi x1 = 0 then (self 0 (x2 + 1) h) else (ld (lnM 6) (h 6) x2 fun v21 => if wi v21 = 0 then (self 1 (x2 + 1) h) else (self 0 (x2 + 1) h))) else (gd (x1 = 0 ∨ x1 = 1) (some (x1, h)))
def LX5_isNoughtG_4 : Nat → Int → Int → HP → Option (Int × HP)
  | 0 => fun _ _ _ => none
  | n + 1 => bX5_isNoughtG_4 (LX5_isNoughtG_4 n)
set_option maxRecDepth 20000 in
theorem tX5_isNoughtG_4 {l : Launch} {D : va_G} {ad : Nat → Nat} {cI : ClassId} {Z : Int × HP} : ∀ (n : Nat) (x1 : Int) (x2 : Int) (h : HP), LX5_isNoughtG_4 n x1 x2 h = some Z → Rn (sdM l D ad cI) mX5_isNoughtG (ri Z) 4 [(0, .ref (ad 0)), (1, vi x1), (2, vi x2)] [] h := by
  intro n
  induction n with
  | zero => intro x1 x2 h hf; cases hf
  | succ n ih =>
    intro x1 x2 h hf
    replace hf : bX5_isNoughtG_4 (LX5_isNoughtG_4 n) x1 x2 h = some Z := hf
    unfold bX5_isNoughtG_4 at hf
    refine q_iloadn dX5_isNoughtG_4 2 rfl ?_
    refine q_aloadn dX5_isNoughtG_5 0 rfl ?_
    refine M_g5_8 flX5_84 dX5_isNoughtG_6 ?_
    refine q_icmp_gt hf dX5_isNoughtG_9 37 (by decide) (fun hf => ?_) (fun hf => ?_)
    · refine q_iloadn dX5_isNoughtG_37 1 rfl ?_
      obtain ⟨g38, hf⟩ := q_gd hf
      exact q_zret hf rfl (by rcases g38 with q | q <;> rw [q] <;> rfl) dX5_isNoughtG_38
    · refine q_iloadn dX5_isNoughtG_12 1 rfl ?_
      refine q_if_eq hf dX5_isNoughtG_13 29 (by decide) (fun hf => ?_) (fun hf => ?_)
      · refine q_iconst dX5_isNoughtG_29 ?_
        refine q_istoren dX5_isNoughtG_30 rfl (loc' := [(1, vi 0), (0, .ref (ad 0)), (2, vi x2)]) rfl ?_
        refine q_iinc dX5_isNoughtG_31 2 rfl rfl (loc' := [(2, vi (x2 + 1)), (1, vi 0), (0, .ref (ad 0))]) rfl ?_
        refine q_goto dX5_isNoughtG_34 4 (by decide) ?_
        refine q_loc (loc' := [(0, .ref (ad 0)), (1, vi 0), (2, vi (x2 + 1))]) [2, 1, 0] rfl ?_
        exact ih 0 (x2 + 1) h hf
      · refine q_aloadn dX5_isNoughtG_16 0 rfl ?_
        refine M_g5_7 flX5_25 dX5_isNoughtG_17 ?_
        refine q_iloadn dX5_isNoughtG_20 2 rfl ?_
        refine M_ld rfl hf dX5_isNoughtG_21 (fun v21 hf => ?_)
        refine q_if_ne hf dX5_isNoughtG_22 29 (by decide) (fun hf => ?_) (fun hf => ?_)
        · refine q_iconst dX5_isNoughtG_29 ?_
          refine q_istoren dX5_isNoughtG_30 rfl (loc' := [(1, vi 0), (0, .ref (ad 0)), (2, vi x2)]) rfl ?_
          refine q_iinc dX5_isNoughtG_31 2 rfl rfl (loc' := [(2, vi (x2 + 1)), (1, vi 0), (0, .ref (ad 0))]) rfl ?_
          refine q_goto dX5_isNoughtG_34 4 (by decide) ?_
          refine q_loc (loc' := [(0, .ref (ad 0)), (1, vi 0), (2, vi (x2 + 1))]) [2, 1, 0] rfl ?_
          exact ih 0 (x2 + 1) h hf
        · refine q_iconst dX5_isNoughtG_25 ?_
          refine q_goto dX5_isNoughtG_26 30 (by decide) ?_
          refine q_istoren dX5_isNoughtG_30 rfl (loc' := [(1, vi 1), (0, .ref (ad 0)), (2, vi x2)]) rfl ?_
          refine q_iinc dX5_isNoughtG_31 2 rfl rfl (loc' := [(2, vi (x2 + 1)), (1, vi 1), (0, .ref (ad 0))]) rfl ?_
          refine q_goto dX5_isNoughtG_34 4 (by decide) ?_
          refine q_loc (loc' := [(0, .ref (ad 0)), (1, vi 1), (2, vi (x2 + 1))]) [2, 1, 0] rfl ?_
          exact ih 1 (x2 + 1) h hf
def fX5_isNoughtG (h : HP) : Option (Int × HP) :=
  LX5_isNoughtG_4 FU 1 0 h
set_option maxRecDepth 20000 in
theorem ctX5_isNoughtG {l : Launch} {D : va_G} {ad : Nat → Nat} {cI : ClassId} {h : HP} {Z : Int × HP} (hf : fX5_isNoughtG h = some Z) : Ct (sdM l D ad cI) mX5_isNoughtG [.ref (ad 0)] h (ri Z) := by
  refine Ct.ofF nX5_isNoughtG rfl (loc := [(0, .ref (ad 0))]) rfl ?_
  unfold fX5_isNoughtG at hf
  refine q_iconst dX5_isNoughtG_0 ?_
  refine q_istoren dX5_isNoughtG_1 rfl (loc' := [(1, vi 1), (0, .ref (ad 0))]) rfl ?_
  refine q_iconst dX5_isNoughtG_2 ?_
  refine q_istoren dX5_isNoughtG_3 rfl (loc' := [(2, vi 0), (1, vi 1), (0, .ref (ad 0))]) rfl ?_
  refine q_loc (loc' := [(0, .ref (ad 0)), (1, vi 1), (2, vi 0)]) [2, 1, 0] rfl ?_
  exact tX5_isNoughtG_4 FU 1 0 h hf
def fX5_term (x1 : Int) (x2 : Int) (h : HP) : Option (Int × HP) :=
  cl (fX5_isSheet x1 h) fun r1 h1 => if wi r1 = 0 then (some ((-2), h1)) else (cl (fX5_in (wi x2) 0 8 h1) fun r13 h13 => if wi r13 = 0 then (some ((-2), h13)) else (cl (fX5_lacksOne x1 h13) fun r24 h24 => if wi r24 = 0 then (ld (lnM 5) (h24 5) x2 fun v41 => some (v41, h24)) else (some (r24, h24))))
set_option maxRecDepth 20000 in
theorem ctX5_term {l : Launch} {D : va_G} {ad : Nat → Nat} {cI : ClassId} {x1 : Int} {x2 : Int} {h : HP} {Z : Int × HP} (hf : fX5_term x1 x2 h = some Z) : Ct (sdM l D ad cI) mX5_term [.ref (ad 0), vi x1, vi x2] h (ri Z) := by
  refine Ct.ofF nX5_term rfl (loc := [(0, .ref (ad 0)), (1, vi x1), (2, vi x2)]) rfl ?_
  unfold fX5_term at hf
  refine q_iloadn dX5_term_0 1 rfl ?_
  obtain ⟨r1, h1, e1, hf⟩ := q_cl hf
  refine q_cSi (av := [vi x1]) (rest := []) (ctX5_isSheet e1) kX5_isSheet uX5_isSheet lkX5_66 rfl rfl rfl dX5_term_1 ?_
  refine q_if_eq hf dX5_term_4 19 (by decide) (fun hf => ?_) (fun hf => ?_)
  · refine q_bipush dX5_term_19 (by decide) ?_
    exact q_iret hf rfl dX5_term_21
  · refine q_iloadn dX5_term_7 2 rfl ?_
    refine q_i2l dX5_term_8 ?_
    refine q_lconst (n := 0) dX5_term_9 (by decide) ?_
    refine q_ldc2 (n := 8) dX5_term_10 kcX5_100 ?_
    obtain ⟨r13, h13, e13, hf⟩ := q_cl hf
    refine q_cSi (av := [vl (wi x2), vl 0, vl 8]) (rest := []) (ctX5_in e13) kX5_in uX5_in lkX5_62 rfl rfl rfl dX5_term_13 ?_
    refine q_if_ne hf dX5_term_16 22 (by decide) (fun hf => ?_) (fun hf => ?_)
    · refine q_aloadn dX5_term_22 0 rfl ?_
      refine q_iloadn dX5_term_23 1 rfl ?_
      obtain ⟨r24, h24, e24, hf⟩ := q_cl hf
      refine q_cVi (av := [vi x1]) (rest := []) wM_0 (ctX5_lacksOne e24) kX5_lacksOne vX5_lacksOne zX5_lacksOne lkX5_102 rfl rfl rfl rfl rfl dX5_term_24 ?_
      refine q_istoren dX5_term_27 rfl (loc' := [(3, vi r24), (0, .ref (ad 0)), (1, vi x1), (2, vi x2)]) rfl ?_
      refine q_iloadn dX5_term_28 0 rfl ?_
      refine q_if_eq hf dX5_term_29 36 (by decide) (fun hf => ?_) (fun hf => ?_)
      · refine q_aloadn dX5_term_36 1 rfl ?_
        refine M_g5_5 flX5_22 dX5_term_37 ?_
        refine q_iloadn dX5_term_40 3 rfl ?_
        refine M_ld rfl hf dX5_term_41 (fun v41 hf => ?_)
        exact q_iret hf rfl dX5_term_42
      · refine q_iloadn dX5_term_32 0 rfl ?_
        refine q_goto dX5_term_33 42 (by decide) ?_
        exact q_iret hf rfl dX5_term_42
    · refine q_bipush dX5_term_19 (by decide) ?_
      exact q_iret hf rfl dX5_term_21
def fX5_degree (x1 : Int) (h : HP) : Option (Int × HP) :=
  cl (fX5_isSheet x1 h) fun r1 h1 => if wi r1 = 0 then (some ((-2), h1)) else (cl (fX5_lacksOne x1 h1) fun r12 h12 => if wi r12 = 0 then (some (h12 0 6, h12)) else (some (r12, h12)))
set_option maxRecDepth 20000 in
theorem ctX5_degree {l : Launch} {D : va_G} {ad : Nat → Nat} {cI : ClassId} {x1 : Int} {h : HP} {Z : Int × HP} (hf : fX5_degree x1 h = some Z) : Ct (sdM l D ad cI) mX5_degree [.ref (ad 0), vi x1] h (ri Z) := by
  refine Ct.ofF nX5_degree rfl (loc := [(0, .ref (ad 0)), (1, vi x1)]) rfl ?_
  unfold fX5_degree at hf
  refine q_iloadn dX5_degree_0 1 rfl ?_
  obtain ⟨r1, h1, e1, hf⟩ := q_cl hf
  refine q_cSi (av := [vi x1]) (rest := []) (ctX5_isSheet e1) kX5_isSheet uX5_isSheet lkX5_66 rfl rfl rfl dX5_degree_1 ?_
  refine q_if_ne hf dX5_degree_4 10 (by decide) (fun hf => ?_) (fun hf => ?_)
  · refine q_aloadn dX5_degree_10 0 rfl ?_
    refine q_iloadn dX5_degree_11 1 rfl ?_
    obtain ⟨r12, h12, e12, hf⟩ := q_cl hf
    refine q_cVi (av := [vi x1]) (rest := []) wM_0 (ctX5_lacksOne e12) kX5_lacksOne vX5_lacksOne zX5_lacksOne lkX5_102 rfl rfl rfl rfl rfl dX5_degree_12 ?_
    refine q_istoren dX5_degree_15 rfl (loc' := [(2, vi r12), (0, .ref (ad 0)), (1, vi x1)]) rfl ?_
    refine q_iloadn dX5_degree_16 0 rfl ?_
    refine q_if_eq hf dX5_degree_17 24 (by decide) (fun hf => ?_) (fun hf => ?_)
    · refine q_aloadn dX5_degree_24 1 rfl ?_
      refine M_g5_6 flX5_81 dX5_degree_25 ?_
      exact q_iret hf rfl dX5_degree_28
    · refine q_iloadn dX5_degree_20 0 rfl ?_
      refine q_goto dX5_degree_21 28 (by decide) ?_
      exact q_iret hf rfl dX5_degree_28
  · refine q_bipush dX5_degree_7 (by decide) ?_
    exact q_iret hf rfl dX5_degree_9
def bX5_valueF_35 (k8 : Int → Int → Int → Int → Int → HP → Option (Int × HP)) (self : Int → Int → Int → Int → Int → Int → Int → HP → Option (Int × HP)) (x1 : Int) (x2 : Int) (x3 : Int) (x4 : Int) (x5 : Int) (x6 : Int) (x7 : Int) (h : HP) : Option (Int × HP) :=
  if wi x7 < wi (h 0 6) then (cl (fX5_times x6 x1 h) fun r47 h47 => self x1 x2 x3 x4 x5 r47 (x7 + 1) h47) else (cl (fX5_mod ((wi x3) + (wi x6)) h) fun r64 h64 => cl (fX5_times x4 x2 h64) fun r71 h71 => k8 x1 x2 r64 r71 (x5 + 1) h71)
def LX5_valueF_35 (k8 : Int → Int → Int → Int → Int → HP → Option (Int × HP)) : Nat → Int → Int → Int → Int → Int → Int → Int → HP → Option (Int × HP)
  | 0 => fun _ _ _ _ _ _ _ _ => none
  | n + 1 => bX5_valueF_35 k8 (LX5_valueF_35 k8 n)
set_option maxRecDepth 20000 in
theorem tX5_valueF_35 {l : Launch} {D : va_G} {ad : Nat → Nat} {cI : ClassId} {Z : Int × HP} {k8 : Int → Int → Int → Int → Int → HP → Option (Int × HP)} (hk8 : ∀ (x1 : Int) (x2 : Int) (x3 : Int) (x4 : Int) (x5 : Int) (h : HP), k8 x1 x2 x3 x4 x5 h = some Z → Rn (sdM l D ad cI) mX5_valueF (ri Z) 8 [(0, .ref (ad 0)), (1, vi x1), (2, vi x2), (3, vi x3), (4, vi x4), (5, vi x5)] [] h) : ∀ (n : Nat) (x1 : Int) (x2 : Int) (x3 : Int) (x4 : Int) (x5 : Int) (x6 : Int) (x7 : Int) (h : HP), LX5_valueF_35 k8 n x1 x2 x3 x4 x5 x6 x7 h = some Z → Rn (sdM l D ad cI) mX5_valueF (ri Z) 35 [(0, .ref (ad 0)), (1, vi x1), (2, vi x2), (3, vi x3), (4, vi x4), (5, vi x5), (6, vi x6), (7, vi x7)] [] h := by
  intro n
  induction n with
  | zero => intro x1 x2 x3 x4 x5 x6 x7 h hf; cases hf
  | succ n ih =>
    intro x1 x2 x3 x4 x5 x6 x7 h hf
    replace hf : bX5_valueF_35 k8 (LX5_valueF_35 k8 n) x1 x2 x3 x4 x5 x6 x7 h = some Z := hf
    unfold bX5_valueF_35 at hf
    refine q_iload dX5_valueF_35 7 rfl ?_
    refine q_aloadn dX5_valueF_37 0 rfl ?_
    refine M_g5_6 flX5_81 dX5_valueF_38 ?_
    refine q_icmp_ge hf dX5_valueF_41 58 (by decide) (fun hf => ?_) (fun hf => ?_)
    · refine q_iloadn dX5_valueF_58 3 rfl ?_
      refine q_i2l dX5_valueF_59 ?_
      refine q_iload dX5_valueF_60 6 rfl ?_
      refine q_i2l dX5_valueF_62 ?_
      refine q_ladd dX5_valueF_63 ?_
      obtain ⟨r64, h64, e64, hf⟩ := q_cl hf
      refine q_cSi (av := [vl ((wi x3) + (wi x6))]) (rest := []) (ctX5_mod e64) kX5_mod uX5_mod lkX5_48 rfl rfl rfl dX5_valueF_64 ?_
      refine q_istoren dX5_valueF_67 rfl (loc' := [(3, vi r64), (0, .ref (ad 0)), (1, vi x1), (2, vi x2), (4, vi x4), (5, vi x5), (6, vi x6), (7, vi x7)]) rfl ?_
      refine q_iload dX5_valueF_68 4 rfl ?_
      refine q_iloadn dX5_valueF_70 3 rfl ?_
      obtain ⟨r71, h71, e71, hf⟩ := q_cl hf
      refine q_cSi (av := [vi x4, vi x2]) (rest := []) (ctX5_times e71) kX5_times uX5_times lkX5_52 rfl rfl rfl dX5_valueF_71 ?_
      refine q_istore dX5_valueF_74 rfl (loc' := [(4, vi r71), (3, vi r64), (0, .ref (ad 0)), (1, vi x1), (2, vi x2), (5, vi x5), (6, vi x6), (7, vi x7)]) rfl ?_
      refine q_iinc dX5_valueF_76 5 rfl rfl (loc' := [(5, vi (x5 + 1)), (4, vi r71), (3, vi r64), (0, .ref (ad 0)), (1, vi x1), (2, vi x2), (6, vi x6), (7, vi x7)]) rfl ?_
      refine q_goto dX5_valueF_79 8 (by decide) ?_
      refine q_loc (loc' := [(0, .ref (ad 0)), (1, vi x1), (2, vi x2), (3, vi r64), (4, vi r71), (5, vi (x5 + 1))]) [3, 4, 5, 2, 1, 0] rfl ?_
      exact hk8 x1 x2 r64 r71 (x5 + 1) h71 hf
    · refine q_iload dX5_valueF_44 6 rfl ?_
      refine q_iloadn dX5_valueF_46 1 rfl ?_
      obtain ⟨r47, h47, e47, hf⟩ := q_cl hf
      refine q_cSi (av := [vi x6, vi x1]) (rest := []) (ctX5_times e47) kX5_times uX5_times lkX5_52 rfl rfl rfl dX5_valueF_47 ?_
      refine q_istore dX5_valueF_50 rfl (loc' := [(6, vi r47), (0, .ref (ad 0)), (1, vi x1), (2, vi x2), (3, vi x3), (4, vi x4), (5, vi x5), (7, vi x7)]) rfl ?_
      refine q_iinc dX5_valueF_52 7 rfl rfl (loc' := [(7, vi (x7 + 1)), (6, vi r47), (0, .ref (ad 0)), (1, vi x1), (2, vi x2), (3, vi x3), (4, vi x4), (5, vi x5)]) rfl ?_
      refine q_goto dX5_valueF_55 35 (by decide) ?_
      refine q_loc (loc' := [(0, .ref (ad 0)), (1, vi x1), (2, vi x2), (3, vi x3), (4, vi x4), (5, vi x5), (6, vi r47), (7, vi (x7 + 1))]) [2, 3, 4, 5, 6, 7, 1, 0] rfl ?_
      exact ih x1 x2 x3 x4 x5 r47 (x7 + 1) h47 hf
def bX5_valueF_8 (self : Int → Int → Int → Int → Int → HP → Option (Int × HP)) (x1 : Int) (x2 : Int) (x3 : Int) (x4 : Int) (x5 : Int) (h : HP) : Option (Int × HP) :=
  if wi x5 ≤ wi (h 0 6) then (ld (lnM 5) (h 5) x5 fun v23 => cl (fX5_times v23 x4 h) fun r26 h26 => LX5_valueF_35 self FU x1 x2 x3 x4 x5 r26 x5 h26) else (some (x3, h))
def LX5_valueF_8 : Nat → Int → Int → Int → Int → Int → HP → Option (Int × HP)
  | 0 => fun _ _ _ _ _ _ => none
  | n + 1 => bX5_valueF_8 (LX5_valueF_8 n)
set_option maxRecDepth 20000 in
theorem tX5_valueF_8 {l : Launch} {D : va_G} {ad : Nat → Nat} {cI : ClassId} {Z : Int × HP} : ∀ (n : Nat) (x1 : Int) (x2 : Int) (x3 : Int) (x4 : Int) (x5 : Int) (h : HP), LX5_valueF_8 n x1 x2 x3 x4 x5 h = some Z → Rn (sdM l D ad cI) mX5_valueF (ri Z) 8 [(0, .ref (ad 0)), (1, vi x1), (2, vi x2), (3, vi x3), (4, vi x4), (5, vi x5)] [] h := by
  intro n
  induction n with
  | zero => intro x1 x2 x3 x4 x5 h hf; cases hf
  | succ n ih =>
    intro x1 x2 x3 x4 x5 h hf
    replace hf : bX5_valueF_8 (LX5_valueF_8 n) x1 x2 x3 x4 x5 h = some Z := hf
    unfold bX5_valueF_8 at hf
    refine q_iload dX5_valueF_8 5 rfl ?_
    refine q_aloadn dX5_valueF_10 0 rfl ?_
    refine M_g5_6 flX5_81 dX5_valueF_11 ?_
    refine q_icmp_gt hf dX5_valueF_14 82 (by decide) (fun hf => ?_) (fun hf => ?_)
    · refine q_iloadn dX5_valueF_82 3 rfl ?_
      exact q_iret hf rfl dX5_valueF_83
    · refine q_aloadn dX5_valueF_17 0 rfl ?_
      refine M_g5_5 flX5_22 dX5_valueF_18 ?_
      refine q_iload dX5_valueF_21 5 rfl ?_
      refine M_ld rfl hf dX5_valueF_23 (fun v23 hf => ?_)
      refine q_iload dX5_valueF_24 4 rfl ?_
      obtain ⟨r26, h26, e26, hf⟩ := q_cl hf
      refine q_cSi (av := [vi v23, vi x4]) (rest := []) (ctX5_times e26) kX5_times uX5_times lkX5_52 rfl rfl rfl dX5_valueF_26 ?_
      refine q_istore dX5_valueF_29 rfl (loc' := [(6, vi r26), (0, .ref (ad 0)), (1, vi x1), (2, vi x2), (3, vi x3), (4, vi x4), (5, vi x5)]) rfl ?_
      refine q_iload dX5_valueF_31 6 rfl ?_
      refine q_istore dX5_valueF_33 rfl (loc' := [(7, vi x5), (6, vi r26), (0, .ref (ad 0)), (1, vi x1), (2, vi x2), (3, vi x3), (4, vi x4), (5, vi x5)]) rfl ?_
      refine q_loc (loc' := [(0, .ref (ad 0)), (1, vi x1), (2, vi x2), (3, vi x3), (4, vi x4), (5, vi x5), (6, vi r26), (7, vi x5)]) [2, 3, 4, 5, 6, 7, 1, 0] rfl ?_
      exact tX5_valueF_35 ih FU x1 x2 x3 x4 x5 r26 x5 h26 hf
def fX5_valueF (x1 : Int) (x2 : Int) (h : HP) : Option (Int × HP) :=
  LX5_valueF_8 FU x1 x2 0 1 0 h
set_option maxRecDepth 20000 in
theorem ctX5_valueF {l : Launch} {D : va_G} {ad : Nat → Nat} {cI : ClassId} {x1 : Int} {x2 : Int} {h : HP} {Z : Int × HP} (hf : fX5_valueF x1 x2 h = some Z) : Ct (sdM l D ad cI) mX5_valueF [.ref (ad 0), vi x1, vi x2] h (ri Z) := by
  refine Ct.ofF nX5_valueF rfl (loc := [(0, .ref (ad 0)), (1, vi x1), (2, vi x2)]) rfl ?_
  unfold fX5_valueF at hf
  refine q_iconst dX5_valueF_0 ?_
  refine q_istoren dX5_valueF_1 rfl (loc' := [(3, vi 0), (0, .ref (ad 0)), (1, vi x1), (2, vi x2)]) rfl ?_
  refine q_iconst dX5_valueF_2 ?_
  refine q_istore dX5_valueF_3 rfl (loc' := [(4, vi 1), (3, vi 0), (0, .ref (ad 0)), (1, vi x1), (2, vi x2)]) rfl ?_
  refine q_iconst dX5_valueF_5 ?_
  refine q_istore dX5_valueF_6 rfl (loc' := [(5, vi 0), (4, vi 1), (3, vi 0), (0, .ref (ad 0)), (1, vi x1), (2, vi x2)]) rfl ?_
  refine q_loc (loc' := [(0, .ref (ad 0)), (1, vi x1), (2, vi x2), (3, vi 0), (4, vi 1), (5, vi 0)]) [3, 4, 5, 2, 1, 0] rfl ?_
  exact tX5_valueF_8 FU x1 x2 0 1 0 h hf
def fX5_value (x1 : Int) (x2 : Int) (x3 : Int) (h : HP) : Option (Int × HP) :=
  cl (fX5_isSheet x1 h) fun r1 h1 => if wi r1 = 0 then (some ((-2), h1)) else (cl (fX5_lacksOne x1 h1) fun r12 h12 => if wi r12 = 0 then (cl (fX5_mod (wi x2) h12) fun r30 h30 => cl (fX5_mod (wi x3) h30) fun r35 h35 => cl (fX5_valueF r30 r35 h35) fun r38 h38 => some (r38, h38)) else (some (r12, h12)))
set_option maxRecDepth 20000 in
theorem ctX5_value {l : Launch} {D : va_G} {ad : Nat → Nat} {cI : ClassId} {x1 : Int} {x2 : Int} {x3 : Int} {h : HP} {Z : Int × HP} (hf : fX5_value x1 x2 x3 h = some Z) : Ct (sdM l D ad cI) mX5_value [.ref (ad 0), vi x1, vi x2, vi x3] h (ri Z) := by
  refine Ct.ofF nX5_value rfl (loc := [(0, .ref (ad 0)), (1, vi x1), (2, vi x2), (3, vi x3)]) rfl ?_
  unfold fX5_value at hf
  refine q_iloadn dX5_value_0 1 rfl ?_
  obtain ⟨r1, h1, e1, hf⟩ := q_cl hf
  refine q_cSi (av := [vi x1]) (rest := []) (ctX5_isSheet e1) kX5_isSheet uX5_isSheet lkX5_66 rfl rfl rfl dX5_value_1 ?_
  refine q_if_ne hf dX5_value_4 10 (by decide) (fun hf => ?_) (fun hf => ?_)
  · refine q_aloadn dX5_value_10 0 rfl ?_
    refine q_iloadn dX5_value_11 1 rfl ?_
    obtain ⟨r12, h12, e12, hf⟩ := q_cl hf
    refine q_cVi (av := [vi x1]) (rest := []) wM_0 (ctX5_lacksOne e12) kX5_lacksOne vX5_lacksOne zX5_lacksOne lkX5_102 rfl rfl rfl rfl rfl dX5_value_12 ?_
    refine q_istore dX5_value_15 rfl (loc' := [(4, vi r12), (0, .ref (ad 0)), (1, vi x1), (2, vi x2), (3, vi x3)]) rfl ?_
    refine q_iload dX5_value_17 0 rfl ?_
    refine q_if_eq hf dX5_value_19 27 (by decide) (fun hf => ?_) (fun hf => ?_)
    · refine q_aloadn dX5_value_27 1 rfl ?_
      refine q_iloadn dX5_value_28 3 rfl ?_
      refine q_i2l dX5_value_29 ?_
      obtain ⟨r30, h30, e30, hf⟩ := q_cl hf
      refine q_cSi (av := [vl (wi x2)]) (rest := [.ref (ad 0)]) (ctX5_mod e30) kX5_mod uX5_mod lkX5_48 rfl rfl rfl dX5_value_30 ?_
      refine q_iloadn dX5_value_33 4 rfl ?_
      refine q_i2l dX5_value_34 ?_
      obtain ⟨r35, h35, e35, hf⟩ := q_cl hf
      refine q_cSi (av := [vl (wi x3)]) (rest := [vi r30, .ref (ad 0)]) (ctX5_mod e35) kX5_mod uX5_mod lkX5_48 rfl rfl rfl dX5_value_35 ?_
      obtain ⟨r38, h38, e38, hf⟩ := q_cl hf
      refine q_cVi (av := [vi r30, vi r35]) (rest := []) wM_0 (ctX5_valueF e38) kX5_valueF vX5_valueF zX5_valueF lkX5_105 rfl rfl rfl rfl rfl dX5_value_38 ?_
      exact q_iret hf rfl dX5_value_41
    · refine q_iload dX5_value_22 0 rfl ?_
      refine q_goto dX5_value_24 41 (by decide) ?_
      exact q_iret hf rfl dX5_value_41
  · refine q_bipush dX5_value_7 (by decide) ?_
    exact q_iret hf rfl dX5_value_9
def bX5_join_140 (k122 : Int → Int → Int → HP → Option (Int × HP)) (self : Int → Int → Int → Int → HP → Option (Int × HP)) (x3 : Int) (x4 : Int) (x6 : Int) (x7 : Int) (h : HP) : Option (Int × HP) :=
  if wi x7 ≤ wi (h 0 8) then (ld (lnM 7) (h 7) (x6 + x7) fun v167 => ld (lnM 5) (h 5) x6 fun v175 => ld (lnM 6) (h 6) x7 fun v183 => cl (fX5_mod ((wi v167) + ((wi v175) * (wi v183))) h) fun r187 h187 => sto (lnM 7) h187 7 (x6 + x7) r187 fun h190 => self x3 x4 x6 (x7 + 1) h190) else (k122 x3 x4 (x6 + 1) h)
def LX5_join_140 (k122 : Int → Int → Int → HP → Option (Int × HP)) : Nat → Int → Int → Int → Int → HP → Option (Int × HP)
  | 0 => fun _ _ _ _ _ => none
  | n + 1 => bX5_join_140 k122 (LX5_join_140 k122 n)
set_option maxRecDepth 20000 in
theorem tX5_join_140 {l : Launch} {D : va_G} {ad : Nat → Nat} {cI : ClassId} {Z : Int × HP} {k122 : Int → Int → Int → HP → Option (Int × HP)} (hk122 : ∀ (x3 : Int) (x4 : Int) (x6 : Int) (h : HP), k122 x3 x4 x6 h = some Z → Rn (sdM l D ad cI) mX5_join (ri Z) 122 [(0, .ref (ad 0)), (3, vi x3), (4, vi x4), (6, vi x6)] [] h) : ∀ (n : Nat) (x3 : Int) (x4 : Int) (x6 : Int) (x7 : Int) (h : HP), LX5_join_140 k122 n x3 x4 x6 x7 h = some Z → Rn (sdM l D ad cI) mX5_join (ri Z) 140 [(0, .ref (ad 0)), (3, vi x3), (4, vi x4), (6, vi x6), (7, vi x7)] [] h := by
  intro n
  induction n with
  | zero => intro x3 x4 x6 x7 h hf; cases hf
  | succ n ih =>
    intro x3 x4 x6 x7 h hf
    replace hf : bX5_join_140 k122 (LX5_join_140 k122 n) x3 x4 x6 x7 h = some Z := hf
    unfold bX5_join_140 at hf
    refine q_iload dX5_join_140 4 rfl ?_
    refine q_aloadn dX5_join_142 0 rfl ?_
    refine M_g5_8 flX5_84 dX5_join_143 ?_
    refine q_icmp_gt hf dX5_join_146 197 (by decide) (fun hf => ?_) (fun hf => ?_)
    · refine q_goto dX5_join_197 278 (by decide) ?_
      refine q_iinc dX5_join_278 3 rfl rfl (loc' := [(6, vi (x6 + 1)), (0, .ref (ad 0)), (3, vi x3), (4, vi x4), (7, vi x7)]) rfl ?_
      refine q_goto dX5_join_281 122 (by decide) ?_
      refine q_loc (loc' := [(0, .ref (ad 0)), (3, vi x3), (4, vi x4), (6, vi (x6 + 1))]) [1, 2, 3, 0] rfl ?_
      exact hk122 x3 x4 (x6 + 1) h hf
    · refine q_aloadn dX5_join_149 0 rfl ?_
      refine M_g5_9 flX5_28 dX5_join_150 ?_
      refine q_iload dX5_join_153 3 rfl ?_
      refine q_iload dX5_join_155 4 rfl ?_
      refine q_iadd dX5_join_157 ?_
      refine q_aloadn dX5_join_158 0 rfl ?_
      refine M_g5_9 flX5_28 dX5_join_159 ?_
      refine q_iload dX5_join_162 3 rfl ?_
      refine q_iload dX5_join_164 4 rfl ?_
      refine q_iadd dX5_join_166 ?_
      refine M_ld rfl hf dX5_join_167 (fun v167 hf => ?_)
      refine q_i2l dX5_join_168 ?_
      refine q_aloadn dX5_join_169 0 rfl ?_
      refine M_g5_5 flX5_22 dX5_join_170 ?_
      refine q_iload dX5_join_173 3 rfl ?_
      refine M_ld rfl hf dX5_join_175 (fun v175 hf => ?_)
      refine q_i2l dX5_join_176 ?_
      refine q_aloadn dX5_join_177 0 rfl ?_
      refine M_g5_7 flX5_25 dX5_join_178 ?_
      refine q_iload dX5_join_181 4 rfl ?_
      refine M_ld rfl hf dX5_join_183 (fun v183 hf => ?_)
      refine q_i2l dX5_join_184 ?_
      refine q_lmul dX5_join_185 ?_
      refine q_ladd dX5_join_186 ?_
      obtain ⟨r187, h187, e187, hf⟩ := q_cl hf
      refine q_cSi (av := [vl ((wi v167) + ((wi v175) * (wi v183)))]) (rest := [vi (x6 + x7), .ref (ad 7)]) (ctX5_mod e187) kX5_mod uX5_mod lkX5_48 rfl rfl rfl dX5_join_187 ?_
      refine M_st rfl hf dX5_join_190 (fun h190 hf => ?_)
      refine q_iinc dX5_join_191 4 rfl rfl (loc' := [(7, vi (x7 + 1)), (0, .ref (ad 0)), (3, vi x3), (4, vi x4), (6, vi x6)]) rfl ?_
      refine q_goto dX5_join_194 140 (by decide) ?_
      refine q_loc (loc' := [(0, .ref (ad 0)), (3, vi x3), (4, vi x4), (6, vi x6), (7, vi (x7 + 1))]) [1, 2, 3, 4, 0] rfl ?_
      exact ih x3 x4 x6 (x7 + 1) h190 hf
def bX5_join_122 (self : Int → Int → Int → HP → Option (Int × HP)) (x3 : Int) (x4 : Int) (x6 : Int) (h : HP) : Option (Int × HP) :=
  if wi x6 ≤ wi (h 0 6) then (if wi x4 = wi 2 then (LX5_join_140 self FU x3 x4 x6 0 h) else (if wi x4 = 0 then (ld (lnM 5) (h 5) x6 fun v217 => ld (lnM 6) (h 6) x6 fun v224 => cl (fX5_mod (wi (v217 + v224)) h) fun r227 h227 => sto (lnM 7) h227 7 x6 r227 fun h277 => self x3 x4 (x6 + 1) h277) else (if wi x4 = wi 1 then (ld (lnM 5) (h 5) x6 fun v245 => ld (lnM 6) (h 6) x6 fun v252 => cl (fX5_mod (wi (v245 - v252)) h) fun r255 h255 => sto (lnM 7) h255 7 x6 r255 fun h277 => self x3 x4 (x6 + 1) h277) else (ld (lnM 5) (h 5) x6 fun v267 => ld (lnM 6) (h 6) 0 fun v273 => cl (fX5_times v267 v273 h) fun r274 h274 => sto (lnM 7) h274 7 x6 r274 fun h277 => self x3 x4 (x6 + 1) h277)))) else (cl (fX5_lay x3 h) fun r286 h286 => some (r286, h286))
def LX5_join_122 : Nat → Int → Int → Int → HP → Option (Int × HP)
  | 0 => fun _ _ _ _ => none
  | n + 1 => bX5_join_122 (LX5_join_122 n)
set_option maxRecDepth 20000 in
theorem tX5_join_122 {l : Launch} {D : va_G} {ad : Nat → Nat} {cI : ClassId} {Z : Int × HP} : ∀ (n : Nat) (x3 : Int) (x4 : Int) (x6 : Int) (h : HP), LX5_join_122 n x3 x4 x6 h = some Z → Rn (sdM l D ad cI) mX5_join (ri Z) 122 [(0, .ref (ad 0)), (3, vi x3), (4, vi x4), (6, vi x6)] [] h := by
  intro n
  induction n with
  | zero => intro x3 x4 x6 h hf; cases hf
  | succ n ih =>
    intro x3 x4 x6 h hf
    replace hf : bX5_join_122 (LX5_join_122 n) x3 x4 x6 h = some Z := hf
    unfold bX5_join_122 at hf
    refine q_iload dX5_join_122 3 rfl ?_
    refine q_aloadn dX5_join_124 0 rfl ?_
    refine M_g5_6 flX5_81 dX5_join_125 ?_
    refine q_icmp_gt hf dX5_join_128 284 (by decide) (fun hf => ?_) (fun hf => ?_)
    · refine q_aloadn dX5_join_284 0 rfl ?_
      refine q_iloadn dX5_join_285 1 rfl ?_
      obtain ⟨r286, h286, e286, hf⟩ := q_cl hf
      refine q_cVi (av := [vi x3]) (rest := []) wM_0 (ctX5_lay e286) kX5_lay vX5_lay zX5_lay lkX5_116 rfl rfl rfl rfl rfl dX5_join_286 ?_
      exact q_iret hf rfl dX5_join_289
    · refine q_iload dX5_join_131 2 rfl ?_
      refine q_iconst dX5_join_133 ?_
      refine q_icmp_ne hf dX5_join_134 200 (by decide) (fun hf => ?_) (fun hf => ?_)
      · refine q_aloadn dX5_join_200 0 rfl ?_
        refine M_g5_9 flX5_28 dX5_join_201 ?_
        refine q_iload dX5_join_204 3 rfl ?_
        refine q_iload dX5_join_206 2 rfl ?_
        refine q_if_ne hf dX5_join_208 233 (by decide) (fun hf => ?_) (fun hf => ?_)
        · refine q_iload dX5_join_233 2 rfl ?_
          refine q_iconst dX5_join_235 ?_
          refine q_icmp_ne hf dX5_join_236 261 (by decide) (fun hf => ?_) (fun hf => ?_)
          · refine q_aloadn dX5_join_261 0 rfl ?_
            refine M_g5_5 flX5_22 dX5_join_262 ?_
            refine q_iload dX5_join_265 3 rfl ?_
            refine M_ld rfl hf dX5_join_267 (fun v267 hf => ?_)
            refine q_aloadn dX5_join_268 0 rfl ?_
            refine M_g5_7 flX5_25 dX5_join_269 ?_
            refine q_iconst dX5_join_272 ?_
            refine M_ld rfl hf dX5_join_273 (fun v273 hf => ?_)
            obtain ⟨r274, h274, e274, hf⟩ := q_cl hf
            refine q_cSi (av := [vi v267, vi v273]) (rest := [vi x6, .ref (ad 7)]) (ctX5_times e274) kX5_times uX5_times lkX5_52 rfl rfl rfl dX5_join_274 ?_
            refine M_st rfl hf dX5_join_277 (fun h277 hf => ?_)
            refine q_iinc dX5_join_278 3 rfl rfl (loc' := [(6, vi (x6 + 1)), (0, .ref (ad 0)), (3, vi x3), (4, vi x4)]) rfl ?_
            refine q_goto dX5_join_281 122 (by decide) ?_
            refine q_loc (loc' := [(0, .ref (ad 0)), (3, vi x3), (4, vi x4), (6, vi (x6 + 1))]) [1, 2, 3, 0] rfl ?_
            exact ih x3 x4 (x6 + 1) h277 hf
          · refine q_aloadn dX5_join_239 0 rfl ?_
            refine M_g5_5 flX5_22 dX5_join_240 ?_
            refine q_iload dX5_join_243 3 rfl ?_
            refine M_ld rfl hf dX5_join_245 (fun v245 hf => ?_)
            refine q_aloadn dX5_join_246 0 rfl ?_
            refine M_g5_7 flX5_25 dX5_join_247 ?_
            refine q_iload dX5_join_250 3 rfl ?_
            refine M_ld rfl hf dX5_join_252 (fun v252 hf => ?_)
            refine q_isub dX5_join_253 ?_
            refine q_i2l dX5_join_254 ?_
            obtain ⟨r255, h255, e255, hf⟩ := q_cl hf
            refine q_cSi (av := [vl (wi (v245 - v252))]) (rest := [vi x6, .ref (ad 7)]) (ctX5_mod e255) kX5_mod uX5_mod lkX5_48 rfl rfl rfl dX5_join_255 ?_
            refine q_goto dX5_join_258 277 (by decide) ?_
            refine M_st rfl hf dX5_join_277 (fun h277 hf => ?_)
            refine q_iinc dX5_join_278 3 rfl rfl (loc' := [(6, vi (x6 + 1)), (0, .ref (ad 0)), (3, vi x3), (4, vi x4)]) rfl ?_
            refine q_goto dX5_join_281 122 (by decide) ?_
            refine q_loc (loc' := [(0, .ref (ad 0)), (3, vi x3), (4, vi x4), (6, vi (x6 + 1))]) [1, 2, 3, 0] rfl ?_
            exact ih x3 x4 (x6 + 1) h277 hf
        · refine q_aloadn dX5_join_211 0 rfl ?_
          refine M_g5_5 flX5_22 dX5_join_212 ?_
          refine q_iload dX5_join_215 3 rfl ?_
          refine M_ld rfl hf dX5_join_217 (fun v217 hf => ?_)
          refine q_aloadn dX5_join_218 0 rfl ?_
          refine M_g5_7 flX5_25 dX5_join_219 ?_
          refine q_iload dX5_join_222 3 rfl ?_
          refine M_ld rfl hf dX5_join_224 (fun v224 hf => ?_)
          refine q_iadd dX5_join_225 ?_
          refine q_i2l dX5_join_226 ?_
          obtain ⟨r227, h227, e227, hf⟩ := q_cl hf
          refine q_cSi (av := [vl (wi (v217 + v224))]) (rest := [vi x6, .ref (ad 7)]) (ctX5_mod e227) kX5_mod uX5_mod lkX5_48 rfl rfl rfl dX5_join_227 ?_
          refine q_goto dX5_join_230 277 (by decide) ?_
          refine M_st rfl hf dX5_join_277 (fun h277 hf => ?_)
          refine q_iinc dX5_join_278 3 rfl rfl (loc' := [(6, vi (x6 + 1)), (0, .ref (ad 0)), (3, vi x3), (4, vi x4)]) rfl ?_
          refine q_goto dX5_join_281 122 (by decide) ?_
          refine q_loc (loc' := [(0, .ref (ad 0)), (3, vi x3), (4, vi x4), (6, vi (x6 + 1))]) [1, 2, 3, 0] rfl ?_
          exact ih x3 x4 (x6 + 1) h277 hf
      · refine q_iconst dX5_join_137 ?_
        refine q_istore dX5_join_138 rfl (loc' := [(7, vi 0), (0, .ref (ad 0)), (3, vi x3), (4, vi x4), (6, vi x6)]) rfl ?_
        refine q_loc (loc' := [(0, .ref (ad 0)), (3, vi x3), (4, vi x4), (6, vi x6), (7, vi 0)]) [1, 2, 3, 4, 0] rfl ?_
        exact tX5_join_140 ih FU x3 x4 x6 0 h hf
def jX5_join_93 (x3 : Int) (x4 : Int) (h : HP) : Option (Int × HP) :=
  if wi x4 = wi 2 then (cl (fX5_noughtH ((h 0 6) + (h 0 8)) h) fun _ h116 => LX5_join_122 FU x3 x4 0 h116) else (cl (fX5_noughtH (h 0 6) h) fun _ h116 => LX5_join_122 FU x3 x4 0 h116)
set_option maxRecDepth 20000 in
theorem tX5_join_93 {l : Launch} {D : va_G} {ad : Nat → Nat} {cI : ClassId} {Z : Int × HP} (x3 : Int) (x4 : Int) (h : HP) (hf : jX5_join_93 x3 x4 h = some Z) : Rn (sdM l D ad cI) mX5_join (ri Z) 93 [(0, .ref (ad 0)), (3, vi x3), (4, vi x4)] [] h := by
  unfold jX5_join_93 at hf
  refine q_aloadn dX5_join_93 0 rfl ?_
  refine q_iload dX5_join_94 2 rfl ?_
  refine q_iconst dX5_join_96 ?_
  refine q_icmp_ne hf dX5_join_97 112 (by decide) (fun hf => ?_) (fun hf => ?_)
  · refine q_aloadn dX5_join_112 0 rfl ?_
    refine M_g5_6 flX5_81 dX5_join_113 ?_
    obtain ⟨r116, h116, e116, hf⟩ := q_cl hf
    refine q_cVv (av := [vi (h 0 6)]) (rest := []) wM_0 (ctX5_noughtH e116) kX5_noughtH vX5_noughtH zX5_noughtH lkX5_113 rfl rfl rfl rfl rfl dX5_join_116 ?_
    refine q_iconst dX5_join_119 ?_
    refine q_istore dX5_join_120 rfl (loc' := [(6, vi 0), (0, .ref (ad 0)), (3, vi x3), (4, vi x4)]) rfl ?_
    refine q_loc (loc' := [(0, .ref (ad 0)), (3, vi x3), (4, vi x4), (6, vi 0)]) [1, 2, 3, 0] rfl ?_
    exact tX5_join_122 FU x3 x4 0 h116 hf
  · refine q_aloadn dX5_join_100 0 rfl ?_
    refine M_g5_6 flX5_81 dX5_join_101 ?_
    refine q_aloadn dX5_join_104 0 rfl ?_
    refine M_g5_8 flX5_84 dX5_join_105 ?_
    refine q_iadd dX5_join_108 ?_
    refine q_goto dX5_join_109 116 (by decide) ?_
    obtain ⟨r116, h116, e116, hf⟩ := q_cl hf
    refine q_cVv (av := [vi ((h 0 6) + (h 0 8))]) (rest := []) wM_0 (ctX5_noughtH e116) kX5_noughtH vX5_noughtH zX5_noughtH lkX5_113 rfl rfl rfl rfl rfl dX5_join_116 ?_
    refine q_iconst dX5_join_119 ?_
    refine q_istore dX5_join_120 rfl (loc' := [(6, vi 0), (0, .ref (ad 0)), (3, vi x3), (4, vi x4)]) rfl ?_
    refine q_loc (loc' := [(0, .ref (ad 0)), (3, vi x3), (4, vi x4), (6, vi 0)]) [1, 2, 3, 0] rfl ?_
    exact tX5_join_122 FU x3 x4 0 h116 hf
def fX5_join (x1 : Int) (x2 : Int) (x3 : Int) (x4 : Int) (h : HP) : Option (Int × HP) :=
  cl (fX5_isSheet x1 h) fun r1 h1 => if wi r1 = 0 then (some ((-2), h1)) else (cl (fX5_isSheet x2 h1) fun r8 h8 => if wi r8 = 0 then (some ((-2), h8)) else (cl (fX5_isSheet x3 h8) fun r15 h15 => if wi r15 = 0 then (some ((-2), h15)) else (cl (fX5_in (wi x4) 0 3 h15) fun r28 h28 => if wi r28 = 0 then (some ((-2), h28)) else (cl (fX5_lacksTwo x1 x2 h28) fun r40 h40 => if wi r40 = 0 then (if wi x4 < wi 2 then (if wi (h40 0 6) = wi (h40 0 8) then (if wi x4 = wi 2 then (if wi 8 < wi ((h40 0 6) + (h40 0 8)) then (some ((-3), h40)) else (jX5_join_93 x3 x4 h40)) else (jX5_join_93 x3 x4 h40)) else (some ((-3), h40))) else (if wi x4 = wi 2 then (if wi 8 < wi ((h40 0 6) + (h40 0 8)) then (some ((-3), h40)) else (jX5_join_93 x3 x4 h40)) else (jX5_join_93 x3 x4 h40))) else (some (r40, h40))))))
set_option maxRecDepth 20000 in
theorem ctX5_join {l : Launch} {D : va_G} {ad : Nat → Nat} {cI : ClassId} {x1 : Int} {x2 : Int} {x3 : Int} {x4 : Int} {h : HP} {Z : Int × HP} (hf : fX5_join x1 x2 x3 x4 h = some Z) : Ct (sdM l D ad cI) mX5_join [.ref (ad 0), vi x1, vi x2, vi x3, vi x4] h (ri Z) := by
  refine Ct.ofF nX5_join rfl (loc := [(0, .ref (ad 0)), (1, vi x1), (2, vi x2), (3, vi x3), (4, vi x4)]) rfl ?_
  unfold fX5_join at hf
  refine q_iloadn dX5_join_0 1 rfl ?_
  obtain ⟨r1, h1, e1, hf⟩ := q_cl hf
  refine q_cSi (av := [vi x1]) (rest := []) (ctX5_isSheet e1) kX5_isSheet uX5_isSheet lkX5_66 rfl rfl rfl dX5_join_1 ?_
  refine q_if_eq hf dX5_join_4 34 (by decide) (fun hf => ?_) (fun hf => ?_)
  · refine q_bipush dX5_join_34 (by decide) ?_
    exact q_iret hf rfl dX5_join_36
  · refine q_iloadn dX5_join_7 2 rfl ?_
    obtain ⟨r8, h8, e8, hf⟩ := q_cl hf
    refine q_cSi (av := [vi x2]) (rest := []) (ctX5_isSheet e8) kX5_isSheet uX5_isSheet lkX5_66 rfl rfl rfl dX5_join_8 ?_
    refine q_if_eq hf dX5_join_11 34 (by decide) (fun hf => ?_) (fun hf => ?_)
    · refine q_bipush dX5_join_34 (by decide) ?_
      exact q_iret hf rfl dX5_join_36
    · refine q_iloadn dX5_join_14 3 rfl ?_
      obtain ⟨r15, h15, e15, hf⟩ := q_cl hf
      refine q_cSi (av := [vi x3]) (rest := []) (ctX5_isSheet e15) kX5_isSheet uX5_isSheet lkX5_66 rfl rfl rfl dX5_join_15 ?_
      refine q_if_eq hf dX5_join_18 34 (by decide) (fun hf => ?_) (fun hf => ?_)
      · refine q_bipush dX5_join_34 (by decide) ?_
        exact q_iret hf rfl dX5_join_36
      · refine q_iload dX5_join_21 4 rfl ?_
        refine q_i2l dX5_join_23 ?_
        refine q_lconst (n := 0) dX5_join_24 (by decide) ?_
        refine q_ldc2 (n := 3) dX5_join_25 kcX5_108 ?_
        obtain ⟨r28, h28, e28, hf⟩ := q_cl hf
        refine q_cSi (av := [vl (wi x4), vl 0, vl 3]) (rest := []) (ctX5_in e28) kX5_in uX5_in lkX5_62 rfl rfl rfl dX5_join_28 ?_
        refine q_if_ne hf dX5_join_31 37 (by decide) (fun hf => ?_) (fun hf => ?_)
        · refine q_aloadn dX5_join_37 0 rfl ?_
          refine q_iloadn dX5_join_38 1 rfl ?_
          refine q_iloadn dX5_join_39 2 rfl ?_
          obtain ⟨r40, h40, e40, hf⟩ := q_cl hf
          refine q_cVi (av := [vi x1, vi x2]) (rest := []) wM_0 (ctX5_lacksTwo e40) kX5_lacksTwo vX5_lacksTwo zX5_lacksTwo lkX5_110 rfl rfl rfl rfl rfl dX5_join_40 ?_
          refine q_istore dX5_join_43 rfl (loc' := [(5, vi r40), (0, .ref (ad 0)), (1, vi x1), (2, vi x2), (3, vi x3), (4, vi x4)]) rfl ?_
          refine q_iload dX5_join_45 0 rfl ?_
          refine q_if_eq hf dX5_join_47 53 (by decide) (fun hf => ?_) (fun hf => ?_)
          · refine q_iload dX5_join_53 5 rfl ?_
            refine q_iconst dX5_join_55 ?_
            refine q_icmp_ge hf dX5_join_56 70 (by decide) (fun hf => ?_) (fun hf => ?_)
            · refine q_iload dX5_join_70 5 rfl ?_
              refine q_iconst dX5_join_72 ?_
              refine q_icmp_ne hf dX5_join_73 93 (by decide) (fun hf => ?_) (fun hf => ?_)
              · refine q_loc (loc' := [(0, .ref (ad 0)), (3, vi x3), (4, vi x4)]) [1, 4, 5] rfl ?_
                exact tX5_join_93 x3 x4 h40 hf
              · refine q_aloadn dX5_join_76 1 rfl ?_
                refine M_g5_6 flX5_81 dX5_join_77 ?_
                refine q_aloadn dX5_join_80 1 rfl ?_
                refine M_g5_8 flX5_84 dX5_join_81 ?_
                refine q_iadd dX5_join_84 ?_
                refine q_bipush dX5_join_85 (by decide) ?_
                refine q_icmp_le hf dX5_join_87 93 (by decide) (fun hf => ?_) (fun hf => ?_)
                · refine q_loc (loc' := [(0, .ref (ad 0)), (3, vi x3), (4, vi x4)]) [1, 4, 5] rfl ?_
                  exact tX5_join_93 x3 x4 h40 hf
                · refine q_bipush dX5_join_90 (by decide) ?_
                  exact q_iret hf rfl dX5_join_92
            · refine q_aloadn dX5_join_59 1 rfl ?_
              refine M_g5_6 flX5_81 dX5_join_60 ?_
              refine q_aloadn dX5_join_63 1 rfl ?_
              refine M_g5_8 flX5_84 dX5_join_64 ?_
              refine q_icmp_ne hf dX5_join_67 90 (by decide) (fun hf => ?_) (fun hf => ?_)
              · refine q_bipush dX5_join_90 (by decide) ?_
                exact q_iret hf rfl dX5_join_92
              · refine q_iload dX5_join_70 5 rfl ?_
                refine q_iconst dX5_join_72 ?_
                refine q_icmp_ne hf dX5_join_73 93 (by decide) (fun hf => ?_) (fun hf => ?_)
                · refine q_loc (loc' := [(0, .ref (ad 0)), (3, vi x3), (4, vi x4)]) [1, 4, 5] rfl ?_
                  exact tX5_join_93 x3 x4 h40 hf
                · refine q_aloadn dX5_join_76 1 rfl ?_
                  refine M_g5_6 flX5_81 dX5_join_77 ?_
                  refine q_aloadn dX5_join_80 1 rfl ?_
                  refine M_g5_8 flX5_84 dX5_join_81 ?_
                  refine q_iadd dX5_join_84 ?_
                  refine q_bipush dX5_join_85 (by decide) ?_
                  refine q_icmp_le hf dX5_join_87 93 (by decide) (fun hf => ?_) (fun hf => ?_)
                  · refine q_loc (loc' := [(0, .ref (ad 0)), (3, vi x3), (4, vi x4)]) [1, 4, 5] rfl ?_
                    exact tX5_join_93 x3 x4 h40 hf
                  · refine q_bipush dX5_join_90 (by decide) ?_
                    exact q_iret hf rfl dX5_join_92
          · refine q_iload dX5_join_50 0 rfl ?_
            exact q_iret hf rfl dX5_join_52
        · refine q_bipush dX5_join_34 (by decide) ?_
          exact q_iret hf rfl dX5_join_36
