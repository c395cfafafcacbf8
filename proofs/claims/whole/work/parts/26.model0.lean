def fX5_in (x0 : Int) (x2 : Int) (x4 : Int) (h : HP) : Option (Int × HP) :=
  if 0 ≤ wi (cpl x0 x2) then (if wi (cpl x0 x4) ≤ 0 then (some (1, h)) else (some (0, h))) else (some (0, h))
set_option maxRecDepth 20000 in
theorem ctX5_in {l : Launch} {D : va_G} {ad : Nat → Nat} {cI : ClassId} {x0 : Int} {x2 : Int} {x4 : Int} {h : HP} {Z : Int × HP} (hf : fX5_in x0 x2 x4 h = some Z) : Ct (sdM l D ad cI) mX5_in [vl x0, vl x2, vl x4] h (ri Z) := by
  refine Ct.ofF nX5_in rfl (loc := [(0, vl x0), (2, vl x2), (4, vl x4)]) rfl ?_
  unfold fX5_in at hf
  refine q_lloadn dX5_in_0 0 rfl ?_
  refine q_lloadn dX5_in_1 1 rfl ?_
  refine q_lcmp dX5_in_2 ?_
  refine q_if_lt hf dX5_in_3 17 (by decide) (fun hf => ?_) (fun hf => ?_)
  · refine q_iconst dX5_in_17 ?_
    exact q_zret hf rfl rfl dX5_in_18
  · refine q_lloadn dX5_in_6 0 rfl ?_
    refine q_lload dX5_in_7 2 rfl ?_
    refine q_lcmp dX5_in_9 ?_
    refine q_if_gt hf dX5_in_10 17 (by decide) (fun hf => ?_) (fun hf => ?_)
    · refine q_iconst dX5_in_17 ?_
      exact q_zret hf rfl rfl dX5_in_18
    · refine q_iconst dX5_in_13 ?_
      refine q_goto dX5_in_14 18 (by decide) ?_
      exact q_zret hf rfl rfl dX5_in_18
def fX5_mod (x0 : Int) (h : HP) : Option (Int × HP) :=
  lt (Int.tmod (wl x0) (wl 10007)) fun x2_5 => if wi (cpl x2_5 0) < 0 then (some (x2_5 + 10007, h)) else (some (x2_5, h))
set_option maxRecDepth 20000 in
theorem ctX5_mod {l : Launch} {D : va_G} {ad : Nat → Nat} {cI : ClassId} {x0 : Int} {h : HP} {Z : Int × HP} (hf : fX5_mod x0 h = some Z) : Ct (sdM l D ad cI) mX5_mod [vl x0] h (ri Z) := by
  refine Ct.ofF nX5_mod rfl (loc := [(0, vl x0)]) rfl ?_
  unfold fX5_mod at hf
  refine q_lloadn dX5_mod_0 0 rfl ?_
  refine q_ldc2 (n := 10007) dX5_mod_1 kcX5_46 ?_
  refine q_lrem dX5_mod_4 nzPl ?_
  refine q_ltl hf (fun x2_5 hf => ?_)
  refine q_lstoren dX5_mod_5 rfl (loc' := [(2, vl x2_5), (0, vl x0)]) rfl ?_
  refine q_lloadn dX5_mod_6 0 rfl ?_
  refine q_lconst (n := 0) dX5_mod_7 (by decide) ?_
  refine q_lcmp dX5_mod_8 ?_
  refine q_if_ge hf dX5_mod_9 20 (by decide) (fun hf => ?_) (fun hf => ?_)
  · refine q_lloadn dX5_mod_20 0 rfl ?_
    refine q_l2i dX5_mod_21 ?_
    exact q_iret hf rfl dX5_mod_22
  · refine q_lloadn dX5_mod_12 0 rfl ?_
    refine q_ldc2 (n := 10007) dX5_mod_13 kcX5_46 ?_
    refine q_ladd dX5_mod_16 ?_
    refine q_goto dX5_mod_17 21 (by decide) ?_
    refine q_l2i dX5_mod_21 ?_
    exact q_iret hf rfl dX5_mod_22
def fX5_times (x0 : Int) (x1 : Int) (h : HP) : Option (Int × HP) :=
  cl (fX5_mod ((wi x0) * (wi x1)) h) fun r5 h5 => some (r5, h5)
set_option maxRecDepth 20000 in
theorem ctX5_times {l : Launch} {D : va_G} {ad : Nat → Nat} {cI : ClassId} {x0 : Int} {x1 : Int} {h : HP} {Z : Int × HP} (hf : fX5_times x0 x1 h = some Z) : Ct (sdM l D ad cI) mX5_times [vi x0, vi x1] h (ri Z) := by
  refine Ct.ofF nX5_times rfl (loc := [(0, vi x0), (1, vi x1)]) rfl ?_
  unfold fX5_times at hf
  refine q_iloadn dX5_times_0 0 rfl ?_
  refine q_i2l dX5_times_1 ?_
  refine q_iloadn dX5_times_2 1 rfl ?_
  refine q_i2l dX5_times_3 ?_
  refine q_lmul dX5_times_4 ?_
  obtain ⟨r5, h5, e5, hf⟩ := q_cl hf
  refine q_cSi (av := [vl ((wi x0) * (wi x1))]) (rest := []) (ctX5_mod e5) kX5_mod uX5_mod lkX5_48 rfl rfl rfl dX5_times_5 ?_
  exact q_iret hf rfl dX5_times_8
def bX5_turned_8 (self : Int → Int → Int → HP → Option (Int × HP)) (x1 : Int) (x2 : Int) (x3 : Int) (h : HP) : Option (Int × HP) :=
  if 0 < wi x3 then (if wi (Int.tmod (wi x3) (wi 2)) = wi 1 then (cl (fX5_times x1 x2 h) fun r21 h21 => cl (fX5_times x2 x2 h21) fun r27 h27 => lt (Int.tdiv (wi x3) (wi 2)) fun x3_34 => self r21 r27 x3_34 h27) else (cl (fX5_times x2 x2 h) fun r27 h27 => lt (Int.tdiv (wi x3) (wi 2)) fun x3_34 => self x1 r27 x3_34 h27)) else (some (x1, h))
def LX5_turned_8 : Nat → Int → Int → Int → HP → Option (Int × HP)
  | 0 => fun _ _ _ _ => none
  | n + 1 => bX5_turned_8 (LX5_turned_8 n)
set_option maxRecDepth 20000 in
theorem tX5_turned_8 {l : Launch} {D : va_G} {ad : Nat → Nat} {cI : ClassId} {Z : Int × HP} : ∀ (n : Nat) (x1 : Int) (x2 : Int) (x3 : Int) (h : HP), LX5_turned_8 n x1 x2 x3 h = some Z → Rn (sdM l D ad cI) mX5_turned (ri Z) 8 [(1, vi x1), (2, vi x2), (3, vi x3)] [] h := by
  intro n
  induction n with
  | zero => intro x1 x2 x3 h hf; cases hf
  | succ n ih =>
    intro x1 x2 x3 h hf
    replace hf : bX5_turned_8 (LX5_turned_8 n) x1 x2 x3 h = some Z := hf
    unfold bX5_turned_8 at hf
    refine q_iloadn dX5_turned_8 2 rfl ?_
    refine q_if_le hf dX5_turned_9 38 (by decide) (fun hf => ?_) (fun hf => ?_)
    · refine q_iloadn dX5_turned_38 0 rfl ?_
      exact q_iret hf rfl dX5_turned_39
    · refine q_iloadn dX5_turned_12 2 rfl ?_
      refine q_iconst dX5_turned_13 ?_
      refine q_irem dX5_turned_14 nz2 ?_
      refine q_iconst dX5_turned_15 ?_
      refine q_icmp_ne hf dX5_turned_16 25 (by decide) (fun hf => ?_) (fun hf => ?_)
      · refine q_iloadn dX5_turned_25 1 rfl ?_
        refine q_iloadn dX5_turned_26 1 rfl ?_
        obtain ⟨r27, h27, e27, hf⟩ := q_cl hf
        refine q_cSi (av := [vi x2, vi x2]) (rest := []) (ctX5_times e27) kX5_times uX5_times lkX5_52 rfl rfl rfl dX5_turned_27 ?_
        refine q_istoren dX5_turned_30 rfl (loc' := [(2, vi r27), (1, vi x1), (3, vi x3)]) rfl ?_
        refine q_iloadn dX5_turned_31 2 rfl ?_
        refine q_iconst dX5_turned_32 ?_
        refine q_idiv dX5_turned_33 nz2 ?_
        refine q_lt hf (fun x3_34 hf => ?_)
        refine q_istoren dX5_turned_34 rfl (loc' := [(3, vi x3_34), (2, vi r27), (1, vi x1)]) rfl ?_
        refine q_goto dX5_turned_35 8 (by decide) ?_
        refine q_loc (loc' := [(1, vi x1), (2, vi r27), (3, vi x3_34)]) [2, 1, 0] rfl ?_
        exact ih x1 r27 x3_34 h27 hf
      · refine q_iloadn dX5_turned_19 0 rfl ?_
        refine q_iloadn dX5_turned_20 1 rfl ?_
        obtain ⟨r21, h21, e21, hf⟩ := q_cl hf
        refine q_cSi (av := [vi x1, vi x2]) (rest := []) (ctX5_times e21) kX5_times uX5_times lkX5_52 rfl rfl rfl dX5_turned_21 ?_
        refine q_istoren dX5_turned_24 rfl (loc' := [(1, vi r21), (2, vi x2), (3, vi x3)]) rfl ?_
        refine q_iloadn dX5_turned_25 1 rfl ?_
        refine q_iloadn dX5_turned_26 1 rfl ?_
        obtain ⟨r27, h27, e27, hf⟩ := q_cl hf
        refine q_cSi (av := [vi x2, vi x2]) (rest := []) (ctX5_times e27) kX5_times uX5_times lkX5_52 rfl rfl rfl dX5_turned_27 ?_
        refine q_istoren dX5_turned_30 rfl (loc' := [(2, vi r27), (1, vi r21), (3, vi x3)]) rfl ?_
        refine q_iloadn dX5_turned_31 2 rfl ?_
        refine q_iconst dX5_turned_32 ?_
        refine q_idiv dX5_turned_33 nz2 ?_
        refine q_lt hf (fun x3_34 hf => ?_)
        refine q_istoren dX5_turned_34 rfl (loc' := [(3, vi x3_34), (2, vi r27), (1, vi r21)]) rfl ?_
        refine q_goto dX5_turned_35 8 (by decide) ?_
        refine q_loc (loc' := [(1, vi r21), (2, vi r27), (3, vi x3_34)]) [2, 1, 0] rfl ?_
        exact ih r21 r27 x3_34 h27 hf
def fX5_turned (x0 : Int) (h : HP) : Option (Int × HP) :=
  LX5_turned_8 FU 1 x0 10005 h
set_option maxRecDepth 20000 in
theorem ctX5_turned {l : Launch} {D : va_G} {ad : Nat → Nat} {cI : ClassId} {x0 : Int} {h : HP} {Z : Int × HP} (hf : fX5_turned x0 h = some Z) : Ct (sdM l D ad cI) mX5_turned [vi x0] h (ri Z) := by
  refine Ct.ofF nX5_turned rfl (loc := [(0, vi x0)]) rfl ?_
  unfold fX5_turned at hf
  refine q_iconst dX5_turned_0 ?_
  refine q_istoren dX5_turned_1 rfl (loc' := [(1, vi 1), (0, vi x0)]) rfl ?_
  refine q_iloadn dX5_turned_2 1 rfl ?_
  refine q_istoren dX5_turned_3 rfl (loc' := [(2, vi x0), (1, vi 1), (0, vi x0)]) rfl ?_
  refine q_sipush dX5_turned_4 (by decide) ?_
  refine q_istoren dX5_turned_7 rfl (loc' := [(3, vi 10005), (2, vi x0), (1, vi 1), (0, vi x0)]) rfl ?_
  refine q_loc (loc' := [(1, vi 1), (2, vi x0), (3, vi 10005)]) [2, 1, 0] rfl ?_
  exact tX5_turned_8 FU 1 x0 10005 h hf
def bX5_over_4 (self : Int → Int → Int → Int → HP → Option (Int × HP)) (x0 : Int) (x1 : Int) (x2 : Int) (x3 : Int) (h : HP) : Option (Int × HP) :=
  if wi x3 < wi x1 then (gd (wi (x3 + 1) ≠ 0) (lt (Int.tdiv (wi (x2 * (x0 - x3))) (wi (x3 + 1))) fun x2_18 => self x0 x1 x2_18 (x3 + 1) h)) else (some (x2, h))
def LX5_over_4 : Nat → Int → Int → Int → Int → HP → Option (Int × HP)
  | 0 => fun _ _ _ _ _ => none
  | n + 1 => bX5_over_4 (LX5_over_4 n)
set_option maxRecDepth 20000 in
theorem tX5_over_4 {l : Launch} {D : va_G} {ad : Nat → Nat} {cI : ClassId} {Z : Int × HP} : ∀ (n : Nat) (x0 : Int) (x1 : Int) (x2 : Int) (x3 : Int) (h : HP), LX5_over_4 n x0 x1 x2 x3 h = some Z → Rn (sdM l D ad cI) mX5_over (ri Z) 4 [(0, vi x0), (1, vi x1), (2, vi x2), (3, vi x3)] [] h := by
  intro n
  induction n with
  | zero => intro x0 x1 x2 x3 h hf; cases hf
  | succ n ih =>
    intro x0 x1 x2 x3 h hf
    replace hf : bX5_over_4 (LX5_over_4 n) x0 x1 x2 x3 h = some Z := hf
    unfold bX5_over_4 at hf
    refine q_iloadn dX5_over_4 3 rfl ?_
    refine q_iloadn dX5_over_5 1 rfl ?_
    refine q_icmp_ge hf dX5_over_6 25 (by decide) (fun hf => ?_) (fun hf => ?_)
    · refine q_iloadn dX5_over_25 2 rfl ?_
      exact q_iret hf rfl dX5_over_26
    · refine q_iloadn dX5_over_9 2 rfl ?_
      refine q_iloadn dX5_over_10 0 rfl ?_
      refine q_iloadn dX5_over_11 3 rfl ?_
      refine q_isub dX5_over_12 ?_
      refine q_imul dX5_over_13 ?_
      refine q_iloadn dX5_over_14 3 rfl ?_
      refine q_iconst dX5_over_15 ?_
      refine q_iadd dX5_over_16 ?_
      obtain ⟨g17, hf⟩ := q_gd hf
      refine q_idiv dX5_over_17 g17 ?_
      refine q_lt hf (fun x2_18 hf => ?_)
      refine q_istoren dX5_over_18 rfl (loc' := [(2, vi x2_18), (0, vi x0), (1, vi x1), (3, vi x3)]) rfl ?_
      refine q_iinc dX5_over_19 3 rfl rfl (loc' := [(3, vi (x3 + 1)), (2, vi x2_18), (0, vi x0), (1, vi x1)]) rfl ?_
      refine q_goto dX5_over_22 4 (by decide) ?_
      refine q_loc (loc' := [(0, vi x0), (1, vi x1), (2, vi x2_18), (3, vi (x3 + 1))]) [2, 3, 1, 0] rfl ?_
      exact ih x0 x1 x2_18 (x3 + 1) h hf
def fX5_over (x0 : Int) (x1 : Int) (h : HP) : Option (Int × HP) :=
  LX5_over_4 FU x0 x1 1 0 h
set_option maxRecDepth 20000 in
theorem ctX5_over {l : Launch} {D : va_G} {ad : Nat → Nat} {cI : ClassId} {x0 : Int} {x1 : Int} {h : HP} {Z : Int × HP} (hf : fX5_over x0 x1 h = some Z) : Ct (sdM l D ad cI) mX5_over [vi x0, vi x1] h (ri Z) := by
  refine Ct.ofF nX5_over rfl (loc := [(0, vi x0), (1, vi x1)]) rfl ?_
  unfold fX5_over at hf
  refine q_iconst dX5_over_0 ?_
  refine q_istoren dX5_over_1 rfl (loc' := [(2, vi 1), (0, vi x0), (1, vi x1)]) rfl ?_
  refine q_iconst dX5_over_2 ?_
  refine q_istoren dX5_over_3 rfl (loc' := [(3, vi 0), (2, vi 1), (0, vi x0), (1, vi x1)]) rfl ?_
  refine q_loc (loc' := [(0, vi x0), (1, vi x1), (2, vi 1), (3, vi 0)]) [2, 3, 1, 0] rfl ?_
  exact tX5_over_4 FU x0 x1 1 0 h hf
def bX5_factorial_4 (self : Int → Int → Int → HP → Option (Int × HP)) (x0 : Int) (x1 : Int) (x2 : Int) (h : HP) : Option (Int × HP) :=
  if wi x2 ≤ wi x0 then (cl (fX5_times x1 x2 h) fun r11 h11 => self x0 r11 (x2 + 1) h11) else (some (x1, h))
def LX5_factorial_4 : Nat → Int → Int → Int → HP → Option (Int × HP)
  | 0 => fun _ _ _ _ => none
  | n + 1 => bX5_factorial_4 (LX5_factorial_4 n)
set_option maxRecDepth 20000 in
theorem tX5_factorial_4 {l : Launch} {D : va_G} {ad : Nat → Nat} {cI : ClassId} {Z : Int × HP} : ∀ (n : Nat) (x0 : Int) (x1 : Int) (x2 : Int) (h : HP), LX5_factorial_4 n x0 x1 x2 h = some Z → Rn (sdM l D ad cI) mX5_factorial (ri Z) 4 [(0, vi x0), (1, vi x1), (2, vi x2)] [] h := by
  intro n
  induction n with
  | zero => intro x0 x1 x2 h hf; cases hf
  | succ n ih =>
    intro x0 x1 x2 h hf
    replace hf : bX5_factorial_4 (LX5_factorial_4 n) x0 x1 x2 h = some Z := hf
    unfold bX5_factorial_4 at hf
    refine q_iloadn dX5_factorial_4 2 rfl ?_
    refine q_iloadn dX5_factorial_5 0 rfl ?_
    refine q_icmp_gt hf dX5_factorial_6 21 (by decide) (fun hf => ?_) (fun hf => ?_)
    · refine q_iloadn dX5_factorial_21 1 rfl ?_
      exact q_iret hf rfl dX5_factorial_22
    · refine q_iloadn dX5_factorial_9 1 rfl ?_
      refine q_iloadn dX5_factorial_10 2 rfl ?_
      obtain ⟨r11, h11, e11, hf⟩ := q_cl hf
      refine q_cSi (av := [vi x1, vi x2]) (rest := []) (ctX5_times e11) kX5_times uX5_times lkX5_52 rfl rfl rfl dX5_factorial_11 ?_
      refine q_istoren dX5_factorial_14 rfl (loc' := [(1, vi r11), (0, vi x0), (2, vi x2)]) rfl ?_
      refine q_iinc dX5_factorial_15 2 rfl rfl (loc' := [(2, vi (x2 + 1)), (1, vi r11), (0, vi x0)]) rfl ?_
      refine q_goto dX5_factorial_18 4 (by decide) ?_
      refine q_loc (loc' := [(0, vi x0), (1, vi r11), (2, vi (x2 + 1))]) [2, 1, 0] rfl ?_
      exact ih x0 r11 (x2 + 1) h11 hf
def fX5_factorial (x0 : Int) (h : HP) : Option (Int × HP) :=
  LX5_factorial_4 FU x0 1 2 h
set_option maxRecDepth 20000 in
theorem ctX5_factorial {l : Launch} {D : va_G} {ad : Nat → Nat} {cI : ClassId} {x0 : Int} {h : HP} {Z : Int × HP} (hf : fX5_factorial x0 h = some Z) : Ct (sdM l D ad cI) mX5_factorial [vi x0] h (ri Z) := by
  refine Ct.ofF nX5_factorial rfl (loc := [(0, vi x0)]) rfl ?_
  unfold fX5_factorial at hf
  refine q_iconst dX5_factorial_0 ?_
  refine q_istoren dX5_factorial_1 rfl (loc' := [(1, vi 1), (0, vi x0)]) rfl ?_
  refine q_iconst dX5_factorial_2 ?_
  refine q_istoren dX5_factorial_3 rfl (loc' := [(2, vi 2), (1, vi 1), (0, vi x0)]) rfl ?_
  refine q_loc (loc' := [(0, vi x0), (1, vi 1), (2, vi 2)]) [2, 1, 0] rfl ?_
  exact tX5_factorial_4 FU x0 1 2 h hf
def fX5_met (x1 : Int) (h : HP) : Option (Int × HP) :=
  pf h 0 4 x1 fun h2 => some ((-10) - x1, h2)
set_option maxRecDepth 20000 in
theorem ctX5_met {l : Launch} {D : va_G} {ad : Nat → Nat} {cI : ClassId} {x1 : Int} {h : HP} {Z : Int × HP} (hf : fX5_met x1 h = some Z) : Ct (sdM l D ad cI) mX5_met [.ref (ad 0), vi x1] h (ri Z) := by
  refine Ct.ofF nX5_met rfl (loc := [(0, .ref (ad 0)), (1, vi x1)]) rfl ?_
  unfold fX5_met at hf
  refine q_aloadn dX5_met_0 0 rfl ?_
  refine q_iloadn dX5_met_1 1 rfl ?_
  refine M_p5_4 hf flX5_56 dX5_met_2 (fun h2 hf => ?_)
  refine q_bipush dX5_met_5 (by decide) ?_
  refine q_iloadn dX5_met_7 1 rfl ?_
  refine q_isub dX5_met_8 ?_
  exact q_iret hf rfl dX5_met_9
def fX5_isSheet (x0 : Int) (h : HP) : Option (Int × HP) :=
  cl (fX5_in (wi x0) 0 9 h) fun r6 h6 => gd (r6 = 0 ∨ r6 = 1) (some (r6, h6))
set_option maxRecDepth 20000 in
theorem ctX5_isSheet {l : Launch} {D : va_G} {ad : Nat → Nat} {cI : ClassId} {x0 : Int} {h : HP} {Z : Int × HP} (hf : fX5_isSheet x0 h = some Z) : Ct (sdM l D ad cI) mX5_isSheet [vi x0] h (ri Z) := by
  refine Ct.ofF nX5_isSheet rfl (loc := [(0, vi x0)]) rfl ?_
  unfold fX5_isSheet at hf
  refine q_iloadn dX5_isSheet_0 0 rfl ?_
  refine q_i2l dX5_isSheet_1 ?_
  refine q_lconst (n := 0) dX5_isSheet_2 (by decide) ?_
  refine q_ldc2 (n := 9) dX5_isSheet_3 kcX5_60 ?_
  obtain ⟨r6, h6, e6, hf⟩ := q_cl hf
  refine q_cSi (av := [vl (wi x0), vl 0, vl 9]) (rest := []) (ctX5_in e6) kX5_in uX5_in lkX5_62 rfl rfl rfl dX5_isSheet_6 ?_
  obtain ⟨g9, hf⟩ := q_gd hf
  exact q_zret hf rfl (by rcases g9 with q | q <;> rw [q] <;> rfl) dX5_isSheet_9
def bX5_sheet_55 (self : Int → Int → Int → HP → Option (Int × HP)) (x1 : Int) (x3 : Int) (x4 : Int) (h : HP) : Option (Int × HP) :=
  if wi x4 < wi x3 then (sto (lnM 3) h 3 ((12 * x1) + x4) 0 fun h73 => self x1 x3 (x4 + 1) h73) else (some (x3, h))
def LX5_sheet_55 : Nat → Int → Int → Int → HP → Option (Int × HP)
  | 0 => fun _ _ _ _ => none
  | n + 1 => bX5_sheet_55 (LX5_sheet_55 n)
set_option maxRecDepth 20000 in
theorem tX5_sheet_55 {l : Launch} {D : va_G} {ad : Nat → Nat} {cI : ClassId} {Z : Int × HP} : ∀ (n : Nat) (x1 : Int) (x3 : Int) (x4 : Int) (h : HP), LX5_sheet_55 n x1 x3 x4 h = some Z → Rn (sdM l D ad cI) mX5_sheet (ri Z) 55 [(0, .ref (ad 0)), (1, vi x1), (3, vi x3), (4, vi x4)] [] h := by
  intro n
  induction n with
  | zero => intro x1 x3 x4 h hf; cases hf
  | succ n ih =>
    intro x1 x3 x4 h hf
    replace hf : bX5_sheet_55 (LX5_sheet_55 n) x1 x3 x4 h = some Z := hf
    unfold bX5_sheet_55 at hf
    refine q_iload dX5_sheet_55 3 rfl ?_
    refine q_iloadn dX5_sheet_57 2 rfl ?_
    refine q_icmp_ge hf dX5_sheet_58 80 (by decide) (fun hf => ?_) (fun hf => ?_)
    · refine q_iloadn dX5_sheet_80 2 rfl ?_
      exact q_iret hf rfl dX5_sheet_81
    · refine q_aloadn dX5_sheet_61 0 rfl ?_
      refine M_g5_2 flX5_16 dX5_sheet_62 ?_
      refine q_bipush dX5_sheet_65 (by decide) ?_
      refine q_iloadn dX5_sheet_67 1 rfl ?_
      refine q_imul dX5_sheet_68 ?_
      refine q_iload dX5_sheet_69 3 rfl ?_
      refine q_iadd dX5_sheet_71 ?_
      refine q_iconst dX5_sheet_72 ?_
      refine M_st rfl hf dX5_sheet_73 (fun h73 hf => ?_)
      refine q_iinc dX5_sheet_74 3 rfl rfl (loc' := [(4, vi (x4 + 1)), (0, .ref (ad 0)), (1, vi x1), (3, vi x3)]) rfl ?_
      refine q_goto dX5_sheet_77 55 (by decide) ?_
      refine q_loc (loc' := [(0, .ref (ad 0)), (1, vi x1), (3, vi x3), (4, vi (x4 + 1))]) [1, 2, 3, 0] rfl ?_
      exact ih x1 x3 (x4 + 1) h73 hf
def fX5_sheet (x1 : Int) (x2 : Int) (x3 : Int) (h : HP) : Option (Int × HP) :=
  cl (fX5_isSheet x1 h) fun r1 h1 => if wi r1 = 0 then (some ((-2), h1)) else (cl (fX5_in (wi x2) 0 2 h1) fun r13 h13 => if wi r13 = 0 then (some ((-2), h13)) else (if wi 12 < wi x3 then (some ((-2), h13)) else (if wi x3 < 0 then (cl (fX5_met 5 h13) fun r34 h34 => some (r34, h34)) else (sto (lnM 1) h13 1 x1 x2 fun h44 => sto (lnM 2) h44 2 x1 x3 fun h51 => LX5_sheet_55 FU x1 x3 0 h51))))
set_option maxRecDepth 20000 in
theorem ctX5_sheet {l : Launch} {D : va_G} {ad : Nat → Nat} {cI : ClassId} {x1 : Int} {x2 : Int} {x3 : Int} {h : HP} {Z : Int × HP} (hf : fX5_sheet x1 x2 x3 h = some Z) : Ct (sdM l D ad cI) mX5_sheet [.ref (ad 0), vi x1, vi x2, vi x3] h (ri Z) := by
  refine Ct.ofF nX5_sheet rfl (loc := [(0, .ref (ad 0)), (1, vi x1), (2, vi x2), (3, vi x3)]) rfl ?_
  unfold fX5_sheet at hf
  refine q_iloadn dX5_sheet_0 1 rfl ?_
  obtain ⟨r1, h1, e1, hf⟩ := q_cl hf
  refine q_cSi (av := [vi x1]) (rest := []) (ctX5_isSheet e1) kX5_isSheet uX5_isSheet lkX5_66 rfl rfl rfl dX5_sheet_1 ?_
  refine q_if_eq hf dX5_sheet_4 25 (by decide) (fun hf => ?_) (fun hf => ?_)
  · refine q_bipush dX5_sheet_25 (by decide) ?_
    exact q_iret hf rfl dX5_sheet_27
  · refine q_iloadn dX5_sheet_7 2 rfl ?_
    refine q_i2l dX5_sheet_8 ?_
    refine q_lconst (n := 0) dX5_sheet_9 (by decide) ?_
    refine q_ldc2 (n := 2) dX5_sheet_10 kcX5_70 ?_
    obtain ⟨r13, h13, e13, hf⟩ := q_cl hf
    refine q_cSi (av := [vl (wi x2), vl 0, vl 2]) (rest := []) (ctX5_in e13) kX5_in uX5_in lkX5_62 rfl rfl rfl dX5_sheet_13 ?_
    refine q_if_eq hf dX5_sheet_16 25 (by decide) (fun hf => ?_) (fun hf => ?_)
    · refine q_bipush dX5_sheet_25 (by decide) ?_
      exact q_iret hf rfl dX5_sheet_27
    · refine q_iloadn dX5_sheet_19 3 rfl ?_
      refine q_bipush dX5_sheet_20 (by decide) ?_
      refine q_icmp_le hf dX5_sheet_22 28 (by decide) (fun hf => ?_) (fun hf => ?_)
      · refine q_iloadn dX5_sheet_28 3 rfl ?_
        refine q_if_ge hf dX5_sheet_29 38 (by decide) (fun hf => ?_) (fun hf => ?_)
        · refine q_aloadn dX5_sheet_38 0 rfl ?_
          refine M_g5_0 flX5_7 dX5_sheet_39 ?_
          refine q_iloadn dX5_sheet_42 1 rfl ?_
          refine q_iloadn dX5_sheet_43 2 rfl ?_
          refine M_st rfl hf dX5_sheet_44 (fun h44 hf => ?_)
          refine q_aloadn dX5_sheet_45 0 rfl ?_
          refine M_g5_1 flX5_13 dX5_sheet_46 ?_
          refine q_iloadn dX5_sheet_49 1 rfl ?_
          refine q_iloadn dX5_sheet_50 3 rfl ?_
          refine M_st rfl hf dX5_sheet_51 (fun h51 hf => ?_)
          refine q_iconst dX5_sheet_52 ?_
          refine q_istore dX5_sheet_53 rfl (loc' := [(4, vi 0), (0, .ref (ad 0)), (1, vi x1), (2, vi x2), (3, vi x3)]) rfl ?_
          refine q_loc (loc' := [(0, .ref (ad 0)), (1, vi x1), (3, vi x3), (4, vi 0)]) [1, 2, 4, 0] rfl ?_
          exact tX5_sheet_55 FU x1 x3 0 h51 hf
        · refine q_aloadn dX5_sheet_32 0 rfl ?_
          refine q_iconst dX5_sheet_33 ?_
          obtain ⟨r34, h34, e34, hf⟩ := q_cl hf
          refine q_cVi (av := [vi 5]) (rest := []) wM_0 (ctX5_met e34) kX5_met vX5_met zX5_met lkX5_72 rfl rfl rfl rfl rfl dX5_sheet_34 ?_
          exact q_iret hf rfl dX5_sheet_37
      · refine q_bipush dX5_sheet_25 (by decide) ?_
        exact q_iret hf rfl dX5_sheet_27
def fX5_lose (x1 : Int) (h : HP) : Option (Int × HP) :=
  cl (fX5_isSheet x1 h) fun r1 h1 => if wi r1 = 0 then (some ((-2), h1)) else (ld (lnM 1) (h1 1) x1 fun v15 => if wi v15 < 0 then (cl (fX5_met 1 h1) fun r21 h21 => some (r21, h21)) else (sto (lnM 1) h1 1 x1 (-1) fun h31 => ld (lnM 2) (h31 2) x1 fun v37 => some (v37, h31)))
set_option maxRecDepth 20000 in
theorem ctX5_lose {l : Launch} {D : va_G} {ad : Nat → Nat} {cI : ClassId} {x1 : Int} {h : HP} {Z : Int × HP} (hf : fX5_lose x1 h = some Z) : Ct (sdM l D ad cI) mX5_lose [.ref (ad 0), vi x1] h (ri Z) := by
  refine Ct.ofF nX5_lose rfl (loc := [(0, .ref (ad 0)), (1, vi x1)]) rfl ?_
  unfold fX5_lose at hf
  refine q_iloadn dX5_lose_0 1 rfl ?_
  obtain ⟨r1, h1, e1, hf⟩ := q_cl hf
  refine q_cSi (av := [vi x1]) (rest := []) (ctX5_isSheet e1) kX5_isSheet uX5_isSheet lkX5_66 rfl rfl rfl dX5_lose_1 ?_
  refine q_if_ne hf dX5_lose_4 10 (by decide) (fun hf => ?_) (fun hf => ?_)
  · refine q_aloadn dX5_lose_10 0 rfl ?_
    refine M_g5_0 flX5_7 dX5_lose_11 ?_
    refine q_iloadn dX5_lose_14 1 rfl ?_
    refine M_ld rfl hf dX5_lose_15 (fun v15 hf => ?_)
    refine q_if_ge hf dX5_lose_16 25 (by decide) (fun hf => ?_) (fun hf => ?_)
    · refine q_aloadn dX5_lose_25 0 rfl ?_
      refine M_g5_0 flX5_7 dX5_lose_26 ?_
      refine q_iloadn dX5_lose_29 1 rfl ?_
      refine q_iconst dX5_lose_30 ?_
      refine M_st rfl hf dX5_lose_31 (fun h31 hf => ?_)
      refine q_aloadn dX5_lose_32 0 rfl ?_
      refine M_g5_1 flX5_13 dX5_lose_33 ?_
      refine q_iloadn dX5_lose_36 1 rfl ?_
      refine M_ld rfl hf dX5_lose_37 (fun v37 hf => ?_)
      exact q_iret hf rfl dX5_lose_38
    · refine q_aloadn dX5_lose_19 0 rfl ?_
      refine q_iconst dX5_lose_20 ?_
      obtain ⟨r21, h21, e21, hf⟩ := q_cl hf
      refine q_cVi (av := [vi 1]) (rest := []) wM_0 (ctX5_met e21) kX5_met vX5_met zX5_met lkX5_72 rfl rfl rfl rfl rfl dX5_lose_21 ?_
      exact q_iret hf rfl dX5_lose_24
  · refine q_bipush dX5_lose_7 (by decide) ?_
    exact q_iret hf rfl dX5_lose_9
def fX5_lacks (x1 : Int) (x2 : Int) (x3 : Int) (h : HP) : Option (Int × HP) :=
  ld (lnM 1) (h 1) x1 fun v5 => if wi v5 < 0 then (cl (fX5_met 1 h) fun r11 h11 => some (r11, h11)) else (ld (lnM 1) (h 1) x1 fun v20 => if wi v20 = wi x2 then (ld (lnM 2) (h 2) x1 fun v39 => cl (fX5_in (wi x3) 0 (wi (v39 - 1)) h) fun r43 h43 => if wi r43 = 0 then (cl (fX5_met 2 h43) fun r55 h55 => some (r55, h55)) else (some (0, h43))) else (cl (fX5_met 3 h) fun r27 h27 => some (r27, h27)))
set_option maxRecDepth 20000 in
theorem ctX5_lacks {l : Launch} {D : va_G} {ad : Nat → Nat} {cI : ClassId} {x1 : Int} {x2 : Int} {x3 : Int} {h : HP} {Z : Int × HP} (hf : fX5_lacks x1 x2 x3 h = some Z) : Ct (sdM l D ad cI) mX5_lacks [.ref (ad 0), vi x1, vi x2, vi x3] h (ri Z) := by
  refine Ct.ofF nX5_lacks rfl (loc := [(0, .ref (ad 0)), (1, vi x1), (2, vi x2), (3, vi x3)]) rfl ?_
  unfold fX5_lacks at hf
  refine q_aloadn dX5_lacks_0 0 rfl ?_
  refine M_g5_0 flX5_7 dX5_lacks_1 ?_
  refine q_iloadn dX5_lacks_4 1 rfl ?_
  refine M_ld rfl hf dX5_lacks_5 (fun v5 hf => ?_)
  refine q_if_ge hf dX5_lacks_6 15 (by decide) (fun hf => ?_) (fun hf => ?_)
  · refine q_aloadn dX5_lacks_15 0 rfl ?_
    refine M_g5_0 flX5_7 dX5_lacks_16 ?_
    refine q_iloadn dX5_lacks_19 1 rfl ?_
    refine M_ld rfl hf dX5_lacks_20 (fun v20 hf => ?_)
    refine q_iloadn dX5_lacks_21 2 rfl ?_
    refine q_icmp_eq hf dX5_lacks_22 31 (by decide) (fun hf => ?_) (fun hf => ?_)
    · refine q_iloadn dX5_lacks_31 3 rfl ?_
      refine q_i2l dX5_lacks_32 ?_
      refine q_lconst (n := 0) dX5_lacks_33 (by decide) ?_
      refine q_aloadn dX5_lacks_34 0 rfl ?_
      refine M_g5_1 flX5_13 dX5_lacks_35 ?_
      refine q_iloadn dX5_lacks_38 1 rfl ?_
      refine M_ld rfl hf dX5_lacks_39 (fun v39 hf => ?_)
      refine q_iconst dX5_lacks_40 ?_
      refine q_isub dX5_lacks_41 ?_
      refine q_i2l dX5_lacks_42 ?_
      obtain ⟨r43, h43, e43, hf⟩ := q_cl hf
      refine q_cSi (av := [vl (wi x3), vl 0, vl (wi (v39 - 1))]) (rest := []) (ctX5_in e43) kX5_in uX5_in lkX5_62 rfl rfl rfl dX5_lacks_43 ?_
      refine q_if_eq hf dX5_lacks_46 53 (by decide) (fun hf => ?_) (fun hf => ?_)
      · refine q_aloadn dX5_lacks_53 0 rfl ?_
        refine q_iconst dX5_lacks_54 ?_
        obtain ⟨r55, h55, e55, hf⟩ := q_cl hf
        refine q_cVi (av := [vi 2]) (rest := []) wM_0 (ctX5_met e55) kX5_met vX5_met zX5_met lkX5_72 rfl rfl rfl rfl rfl dX5_lacks_55 ?_
        exact q_iret hf rfl dX5_lacks_58
      · refine q_iconst dX5_lacks_49 ?_
        refine q_goto dX5_lacks_50 58 (by decide) ?_
        exact q_iret hf rfl dX5_lacks_58
    · refine q_aloadn dX5_lacks_25 0 rfl ?_
      refine q_iconst dX5_lacks_26 ?_
      obtain ⟨r27, h27, e27, hf⟩ := q_cl hf
      refine q_cVi (av := [vi 3]) (rest := []) wM_0 (ctX5_met e27) kX5_met vX5_met zX5_met lkX5_72 rfl rfl rfl rfl rfl dX5_lacks_27 ?_
      exact q_iret hf rfl dX5_lacks_30
  · refine q_aloadn dX5_lacks_9 0 rfl ?_
    refine q_iconst dX5_lacks_10 ?_
    obtain ⟨r11, h11, e11, hf⟩ := q_cl hf
    refine q_cVi (av := [vi 1]) (rest := []) wM_0 (ctX5_met e11) kX5_met vX5_met zX5_met lkX5_72 rfl rfl rfl rfl rfl dX5_lacks_11 ?_
    exact q_iret hf rfl dX5_lacks_14
def fX5_put (x1 : Int) (x2 : Int) (x3 : Int) (x4 : Int) (h : HP) : Option (Int × HP) :=
  cl (fX5_isSheet x1 h) fun r1 h1 => if wi r1 = 0 then (some ((-2), h1)) else (cl (fX5_in (wi x2) 0 2 h1) fun r13 h13 => if wi r13 = 0 then (some ((-2), h13)) else (cl (fX5_lacks x1 x2 x3 h13) fun r26 h26 => if wi r26 = 0 then (if wi x2 = 0 then (sto (lnM 3) h26 3 ((12 * x1) + x3) (b8 x4) fun h72 => some (1, h72)) else (if wi x2 = wi 1 then (sto (lnM 3) h26 3 ((12 * x1) + x3) (b16 x4) fun h72 => some (1, h72)) else (sto (lnM 3) h26 3 ((12 * x1) + x3) x4 fun h72 => some (1, h72)))) else (some (r26, h26))))
set_option maxRecDepth 20000 in
theorem ctX5_put {l : Launch} {D : va_G} {ad : Nat → Nat} {cI : ClassId} {x1 : Int} {x2 : Int} {x3 : Int} {x4 : Int} {h : HP} {Z : Int × HP} (hf : fX5_put x1 x2 x3 x4 h = some Z) : Ct (sdM l D ad cI) mX5_put [.ref (ad 0), vi x1, vi x2, vi x3, vi x4] h (ri Z) := by
  refine Ct.ofF nX5_put rfl (loc := [(0, .ref (ad 0)), (1, vi x1), (2, vi x2), (3, vi x3), (4, vi x4)]) rfl ?_
  unfold fX5_put at hf
  refine q_iloadn dX5_put_0 1 rfl ?_
  obtain ⟨r1, h1, e1, hf⟩ := q_cl hf
  refine q_cSi (av := [vi x1]) (rest := []) (ctX5_isSheet e1) kX5_isSheet uX5_isSheet lkX5_66 rfl rfl rfl dX5_put_1 ?_
  refine q_if_eq hf dX5_put_4 19 (by decide) (fun hf => ?_) (fun hf => ?_)
  · refine q_bipush dX5_put_19 (by decide) ?_
    exact q_iret hf rfl dX5_put_21
  · refine q_iloadn dX5_put_7 2 rfl ?_
    refine q_i2l dX5_put_8 ?_
    refine q_lconst (n := 0) dX5_put_9 (by decide) ?_
    refine q_ldc2 (n := 2) dX5_put_10 kcX5_70 ?_
    obtain ⟨r13, h13, e13, hf⟩ := q_cl hf
    refine q_cSi (av := [vl (wi x2), vl 0, vl 2]) (rest := []) (ctX5_in e13) kX5_in uX5_in lkX5_62 rfl rfl rfl dX5_put_13 ?_
    refine q_if_ne hf dX5_put_16 22 (by decide) (fun hf => ?_) (fun hf => ?_)
    · refine q_aloadn dX5_put_22 0 rfl ?_
      refine q_iloadn dX5_put_23 1 rfl ?_
      refine q_iloadn dX5_put_24 2 rfl ?_
      refine q_iloadn dX5_put_25 3 rfl ?_
      obtain ⟨r26, h26, e26, hf⟩ := q_cl hf
      refine q_cVi (av := [vi x1, vi x2, vi x3]) (rest := []) wM_0 (ctX5_lacks e26) kX5_lacks vX5_lacks zX5_lacks lkX5_76 rfl rfl rfl rfl rfl dX5_put_26 ?_
      refine q_istore dX5_put_29 rfl (loc' := [(5, vi r26), (0, .ref (ad 0)), (1, vi x1), (2, vi x2), (3, vi x3), (4, vi x4)]) rfl ?_
      refine q_iload dX5_put_31 0 rfl ?_
      refine q_if_eq hf dX5_put_33 39 (by decide) (fun hf => ?_) (fun hf => ?_)
      · refine q_aloadn dX5_put_39 1 rfl ?_
        refine M_g5_2 flX5_16 dX5_put_40 ?_
        refine q_bipush dX5_put_43 (by decide) ?_
        refine q_iloadn dX5_put_45 2 rfl ?_
        refine q_imul dX5_put_46 ?_
        refine q_iloadn dX5_put_47 4 rfl ?_
        refine q_iadd dX5_put_48 ?_
        refine q_iloadn dX5_put_49 3 rfl ?_
        refine q_if_ne hf dX5_put_50 59 (by decide) (fun hf => ?_) (fun hf => ?_)
        · refine q_iloadn dX5_put_59 3 rfl ?_
          refine q_iconst dX5_put_60 ?_
          refine q_icmp_ne hf dX5_put_61 70 (by decide) (fun hf => ?_) (fun hf => ?_)
          · refine q_iload dX5_put_70 5 rfl ?_
            refine M_st rfl hf dX5_put_72 (fun h72 hf => ?_)
            refine q_iconst dX5_put_73 ?_
            exact q_iret hf rfl dX5_put_74
          · refine q_iload dX5_put_64 5 rfl ?_
            refine q_i2s dX5_put_66 ?_
            refine q_goto dX5_put_67 72 (by decide) ?_
            refine M_st rfl hf dX5_put_72 (fun h72 hf => ?_)
            refine q_iconst dX5_put_73 ?_
            exact q_iret hf rfl dX5_put_74
        · refine q_iload dX5_put_53 5 rfl ?_
          refine q_i2b dX5_put_55 ?_
          refine q_goto dX5_put_56 72 (by decide) ?_
          refine M_st rfl hf dX5_put_72 (fun h72 hf => ?_)
          refine q_iconst dX5_put_73 ?_
          exact q_iret hf rfl dX5_put_74
      · refine q_iload dX5_put_36 0 rfl ?_
        exact q_iret hf rfl dX5_put_38
    · refine q_bipush dX5_put_19 (by decide) ?_
      exact q_iret hf rfl dX5_put_21
def fX5_get (x1 : Int) (x2 : Int) (x3 : Int) (h : HP) : Option (Int × HP) :=
  cl (fX5_isSheet x1 h) fun r1 h1 => if wi r1 = 0 then (some ((-2147483648), h1)) else (cl (fX5_in (wi x2) 0 2 h1) fun r13 h13 => if wi r13 = 0 then (some ((-2147483648), h13)) else (cl (fX5_lacks x1 x2 x3 h13) fun r23 h23 => if wi r23 = 0 then (ld (lnM 3) (h23 3) ((12 * x1) + x3) fun v42 => some (v42, h23)) else (some ((-2147483648), h23))))
set_option maxRecDepth 20000 in
theorem ctX5_get {l : Launch} {D : va_G} {ad : Nat → Nat} {cI : ClassId} {x1 : Int} {x2 : Int} {x3 : Int} {h : HP} {Z : Int × HP} (hf : fX5_get x1 x2 x3 h = some Z) : Ct (sdM l D ad cI) mX5_get [.ref (ad 0), vi x1, vi x2, vi x3] h (ri Z) := by
  refine Ct.ofF nX5_get rfl (loc := [(0, .ref (ad 0)), (1, vi x1), (2, vi x2), (3, vi x3)]) rfl ?_
  unfold fX5_get at hf
  refine q_iloadn dX5_get_0 1 rfl ?_
  obtain ⟨r1, h1, e1, hf⟩ := q_cl hf
  refine q_cSi (av := [vi x1]) (rest := []) (ctX5_isSheet e1) kX5_isSheet uX5_isSheet lkX5_66 rfl rfl rfl dX5_get_1 ?_
  refine q_if_eq hf dX5_get_4 29 (by decide) (fun hf => ?_) (fun hf => ?_)
  · refine q_ldc (n := (-2147483648)) dX5_get_29 kcX5_80 ?_
    exact q_iret hf rfl dX5_get_31
  · refine q_iloadn dX5_get_7 2 rfl ?_
    refine q_i2l dX5_get_8 ?_
    refine q_lconst (n := 0) dX5_get_9 (by decide) ?_
    refine q_ldc2 (n := 2) dX5_get_10 kcX5_70 ?_
    obtain ⟨r13, h13, e13, hf⟩ := q_cl hf
    refine q_cSi (av := [vl (wi x2), vl 0, vl 2]) (rest := []) (ctX5_in e13) kX5_in uX5_in lkX5_62 rfl rfl rfl dX5_get_13 ?_
    refine q_if_eq hf dX5_get_16 29 (by decide) (fun hf => ?_) (fun hf => ?_)
    · refine q_ldc (n := (-2147483648)) dX5_get_29 kcX5_80 ?_
      exact q_iret hf rfl dX5_get_31
    · refine q_aloadn dX5_get_19 0 rfl ?_
      refine q_iloadn dX5_get_20 1 rfl ?_
      refine q_iloadn dX5_get_21 2 rfl ?_
      refine q_iloadn dX5_get_22 3 rfl ?_
      obtain ⟨r23, h23, e23, hf⟩ := q_cl hf
      refine q_cVi (av := [vi x1, vi x2, vi x3]) (rest := []) wM_0 (ctX5_lacks e23) kX5_lacks vX5_lacks zX5_lacks lkX5_76 rfl rfl rfl rfl rfl dX5_get_23 ?_
      refine q_if_eq hf dX5_get_26 32 (by decide) (fun hf => ?_) (fun hf => ?_)
      · refine q_aloadn dX5_get_32 0 rfl ?_
        refine M_g5_2 flX5_16 dX5_get_33 ?_
        refine q_bipush dX5_get_36 (by decide) ?_
        refine q_iloadn dX5_get_38 1 rfl ?_
        refine q_imul dX5_get_39 ?_
        refine q_iloadn dX5_get_40 3 rfl ?_
        refine q_iadd dX5_get_41 ?_
        refine M_ld rfl hf dX5_get_42 (fun v42 hf => ?_)
        exact q_iret hf rfl dX5_get_43
      · refine q_ldc (n := (-2147483648)) dX5_get_29 kcX5_80 ?_
        exact q_iret hf rfl dX5_get_31
def bX5_copy_157 (self : Int → Int → Int → Int → HP → Option (Int × HP)) (x3 : Int) (x4 : Int) (x5 : Int) (x6 : Int) (h : HP) : Option (Int × HP) :=
  if wi x6 < wi x5 then (ld (lnM 4) (h 4) x6 fun v184 => sto (lnM 3) h 3 (((12 * x3) + x4) + x6) v184 fun h185 => self x3 x4 x5 (x6 + 1) h185) else (some (1, h))
def LX5_copy_157 : Nat → Int → Int → Int → Int → HP → Option (Int × HP)
  | 0 => fun _ _ _ _ _ => none
  | n + 1 => bX5_copy_157 (LX5_copy_157 n)
set_option maxRecDepth 20000 in
theorem tX5_copy_157 {l : Launch} {D : va_G} {ad : Nat → Nat} {cI : ClassId} {Z : Int × HP} : ∀ (n : Nat) (x3 : Int) (x4 : Int) (x5 : Int) (x6 : Int) (h : HP), LX5_copy_157 n x3 x4 x5 x6 h = some Z → Rn (sdM l D ad cI) mX5_copy (ri Z) 157 [(0, .ref (ad 0)), (3, vi x3), (4, vi x4), (5, vi x5), (6, vi x6)] [] h := by
  intro n
  induction n with
  | zero => intro x3 x4 x5 x6 h hf; cases hf
  | succ n ih =>
    intro x3 x4 x5 x6 h hf
    replace hf : bX5_copy_157 (LX5_copy_157 n) x3 x4 x5 x6 h = some Z := hf
    unfold bX5_copy_157 at hf
    refine q_iload dX5_copy_157 4 rfl ?_
    refine q_iload dX5_copy_159 3 rfl ?_
    refine q_icmp_ge hf dX5_copy_161 192 (by decide) (fun hf => ?_) (fun hf => ?_)
    · refine q_iconst dX5_copy_192 ?_
      exact q_iret hf rfl dX5_copy_193
    · refine q_aloadn dX5_copy_164 0 rfl ?_
      refine M_g5_2 flX5_16 dX5_copy_165 ?_
      refine q_bipush dX5_copy_168 (by decide) ?_
      refine q_iloadn dX5_copy_170 1 rfl ?_
      refine q_imul dX5_copy_171 ?_
      refine q_iload dX5_copy_172 2 rfl ?_
      refine q_iadd dX5_copy_174 ?_
      refine q_iload dX5_copy_175 4 rfl ?_
      refine q_iadd dX5_copy_177 ?_
      refine q_aloadn dX5_copy_178 0 rfl ?_
      refine M_g5_3 flX5_19 dX5_copy_179 ?_
      refine q_iload dX5_copy_182 4 rfl ?_
      refine M_ld rfl hf dX5_copy_184 (fun v184 hf => ?_)
      refine M_st rfl hf dX5_copy_185 (fun h185 hf => ?_)
      refine q_iinc dX5_copy_186 4 rfl rfl (loc' := [(6, vi (x6 + 1)), (0, .ref (ad 0)), (3, vi x3), (4, vi x4), (5, vi x5)]) rfl ?_
      refine q_goto dX5_copy_189 157 (by decide) ?_
      refine q_loc (loc' := [(0, .ref (ad 0)), (3, vi x3), (4, vi x4), (5, vi x5), (6, vi (x6 + 1))]) [1, 2, 3, 4, 0] rfl ?_
      exact ih x3 x4 x5 (x6 + 1) h185 hf
def bX5_copy_120 (self : Int → Int → Int → Int → Int → Int → HP → Option (Int × HP)) (x1 : Int) (x2 : Int) (x3 : Int) (x4 : Int) (x5 : Int) (x6 : Int) (h : HP) : Option (Int × HP) :=
  if wi x6 < wi x5 then (ld (lnM 3) (h 3) (((12 * x1) + x2) + x6) fun v146 => sto (lnM 4) h 4 x6 v146 fun h147 => self x1 x2 x3 x4 x5 (x6 + 1) h147) else (LX5_copy_157 FU x3 x4 x5 0 h)
def LX5_copy_120 : Nat → Int → Int → Int → Int → Int → Int → HP → Option (Int × HP)
  | 0 => fun _ _ _ _ _ _ _ => none
  | n + 1 => bX5_copy_120 (LX5_copy_120 n)
set_option maxRecDepth 20000 in
theorem tX5_copy_120 {l : Launch} {D : va_G} {ad : Nat → Nat} {cI : ClassId} {Z : Int × HP} : ∀ (n : Nat) (x1 : Int) (x2 : Int) (x3 : Int) (x4 : Int) (x5 : Int) (x6 : Int) (h : HP), LX5_copy_120 n x1 x2 x3 x4 x5 x6 h = some Z → Rn (sdM l D ad cI) mX5_copy (ri Z) 120 [(0, .ref (ad 0)), (1, vi x1), (2, vi x2), (3, vi x3), (4, vi x4), (5, vi x5), (6, vi x6)] [] h := by
  intro n
  induction n with
  | zero => intro x1 x2 x3 x4 x5 x6 h hf; cases hf
  | succ n ih =>
    intro x1 x2 x3 x4 x5 x6 h hf
    replace hf : bX5_copy_120 (LX5_copy_120 n) x1 x2 x3 x4 x5 x6 h = some Z := hf
    unfold bX5_copy_120 at hf
    refine q_iload dX5_copy_120 6 rfl ?_
    refine q_iload dX5_copy_122 5 rfl ?_
    refine q_icmp_ge hf dX5_copy_124 154 (by decide) (fun hf => ?_) (fun hf => ?_)
    · refine q_iconst dX5_copy_154 ?_
      refine q_istore dX5_copy_155 rfl (loc' := [(6, vi 0), (0, .ref (ad 0)), (1, vi x1), (2, vi x2), (3, vi x3), (4, vi x4), (5, vi x5)]) rfl ?_
      refine q_loc (loc' := [(0, .ref (ad 0)), (3, vi x3), (4, vi x4), (5, vi x5), (6, vi 0)]) [1, 4, 5, 6, 0] rfl ?_
      exact tX5_copy_157 FU x3 x4 x5 0 h hf
    · refine q_aloadn dX5_copy_127 0 rfl ?_
      refine M_g5_3 flX5_19 dX5_copy_128 ?_
      refine q_iload dX5_copy_131 6 rfl ?_
      refine q_aloadn dX5_copy_133 0 rfl ?_
      refine M_g5_2 flX5_16 dX5_copy_134 ?_
      refine q_bipush dX5_copy_137 (by decide) ?_
      refine q_iloadn dX5_copy_139 1 rfl ?_
      refine q_imul dX5_copy_140 ?_
      refine q_iloadn dX5_copy_141 2 rfl ?_
      refine q_iadd dX5_copy_142 ?_
      refine q_iload dX5_copy_143 6 rfl ?_
      refine q_iadd dX5_copy_145 ?_
      refine M_ld rfl hf dX5_copy_146 (fun v146 hf => ?_)
      refine M_st rfl hf dX5_copy_147 (fun h147 hf => ?_)
      refine q_iinc dX5_copy_148 6 rfl rfl (loc' := [(6, vi (x6 + 1)), (0, .ref (ad 0)), (1, vi x1), (2, vi x2), (3, vi x3), (4, vi x4), (5, vi x5)]) rfl ?_
      refine q_goto dX5_copy_151 120 (by decide) ?_
      refine q_loc (loc' := [(0, .ref (ad 0)), (1, vi x1), (2, vi x2), (3, vi x3), (4, vi x4), (5, vi x5), (6, vi (x6 + 1))]) [1, 2, 3, 4, 5, 6, 0] rfl ?_
      exact ih x1 x2 x3 x4 x5 (x6 + 1) h147 hf
def fX5_copy (x1 : Int) (x2 : Int) (x3 : Int) (x4 : Int) (x5 : Int) (h : HP) : Option (Int × HP) :=
  cl (fX5_isSheet x1 h) fun r1 h1 => if wi r1 = 0 then (some ((-2), h1)) else (cl (fX5_isSheet x3 h1) fun r8 h8 => if wi r8 = 0 then (some ((-2), h8)) else (ld (lnM 1) (h8 1) x1 fun v22 => if 0 ≤ wi v22 then (ld (lnM 1) (h8 1) x3 fun v31 => if wi v31 < 0 then (cl (fX5_met 1 h8) fun r37 h37 => some (r37, h37)) else (ld (lnM 1) (h8 1) x1 fun v46 => ld (lnM 1) (h8 1) x3 fun v52 => if wi v46 = wi v52 then (if 0 ≤ wi x2 then (if 0 ≤ wi x4 then (if 0 ≤ wi x5 then (ld (lnM 2) (h8 2) x1 fun v87 => if wi (cpl ((wi x2) + (wi x5)) (wi v87)) ≤ 0 then (ld (lnM 2) (h8 2) x3 fun v105 => if 0 < wi (cpl ((wi x4) + (wi x5)) (wi v105)) then (cl (fX5_met 2 h8) fun r113 h113 => some (r113, h113)) else (LX5_copy_120 FU x1 x2 x3 x4 x5 0 h8)) else (cl (fX5_met 2 h8) fun r113 h113 => some (r113, h113))) else (cl (fX5_met 2 h8) fun r113 h113 => some (r113, h113))) else (cl (fX5_met 2 h8) fun r113 h113 => some (r113, h113))) else (cl (fX5_met 2 h8) fun r113 h113 => some (r113, h113))) else (cl (fX5_met 4 h8) fun r58 h58 => some (r58, h58)))) else (cl (fX5_met 1 h8) fun r37 h37 => some (r37, h37))))
set_option maxRecDepth 20000 in
theorem ctX5_copy {l : Launch} {D : va_G} {ad : Nat → Nat} {cI : ClassId} {x1 : Int} {x2 : Int} {x3 : Int} {x4 : Int} {x5 : Int} {h : HP} {Z : Int × HP} (hf : fX5_copy x1 x2 x3 x4 x5 h = some Z) : Ct (sdM l D ad cI) mX5_copy [.ref (ad 0), vi x1, vi x2, vi x3, vi x4, vi x5] h (ri Z) := by
  refine Ct.ofF nX5_copy rfl (loc := [(0, .ref (ad 0)), (1, vi x1), (2, vi x2), (3, vi x3), (4, vi x4), (5, vi x5)]) rfl ?_
  unfold fX5_copy at hf
  refine q_iloadn dX5_copy_0 1 rfl ?_
  obtain ⟨r1, h1, e1, hf⟩ := q_cl hf
  refine q_cSi (av := [vi x1]) (rest := []) (ctX5_isSheet e1) kX5_isSheet uX5_isSheet lkX5_66 rfl rfl rfl dX5_copy_1 ?_
  refine q_if_eq hf dX5_copy_4 14 (by decide) (fun hf => ?_) (fun hf => ?_)
  · refine q_bipush dX5_copy_14 (by decide) ?_
    exact q_iret hf rfl dX5_copy_16
  · refine q_iloadn dX5_copy_7 3 rfl ?_
    obtain ⟨r8, h8, e8, hf⟩ := q_cl hf
    refine q_cSi (av := [vi x3]) (rest := []) (ctX5_isSheet e8) kX5_isSheet uX5_isSheet lkX5_66 rfl rfl rfl dX5_copy_8 ?_
    refine q_if_ne hf dX5_copy_11 17 (by decide) (fun hf => ?_) (fun hf => ?_)
    · refine q_aloadn dX5_copy_17 0 rfl ?_
      refine M_g5_0 flX5_7 dX5_copy_18 ?_
      refine q_iloadn dX5_copy_21 1 rfl ?_
      refine M_ld rfl hf dX5_copy_22 (fun v22 hf => ?_)
      refine q_if_lt hf dX5_copy_23 35 (by decide) (fun hf => ?_) (fun hf => ?_)
      · refine q_aloadn dX5_copy_35 0 rfl ?_
        refine q_iconst dX5_copy_36 ?_
        obtain ⟨r37, h37, e37, hf⟩ := q_cl hf
        refine q_cVi (av := [vi 1]) (rest := []) wM_0 (ctX5_met e37) kX5_met vX5_met zX5_met lkX5_72 rfl rfl rfl rfl rfl dX5_copy_37 ?_
        exact q_iret hf rfl dX5_copy_40
      · refine q_aloadn dX5_copy_26 0 rfl ?_
        refine M_g5_0 flX5_7 dX5_copy_27 ?_
        refine q_iloadn dX5_copy_30 3 rfl ?_
        refine M_ld rfl hf dX5_copy_31 (fun v31 hf => ?_)
        refine q_if_ge hf dX5_copy_32 41 (by decide) (fun hf => ?_) (fun hf => ?_)
        · refine q_aloadn dX5_copy_41 0 rfl ?_
          refine M_g5_0 flX5_7 dX5_copy_42 ?_
          refine q_iloadn dX5_copy_45 1 rfl ?_
          refine M_ld rfl hf dX5_copy_46 (fun v46 hf => ?_)
          refine q_aloadn dX5_copy_47 0 rfl ?_
          refine M_g5_0 flX5_7 dX5_copy_48 ?_
          refine q_iloadn dX5_copy_51 3 rfl ?_
          refine M_ld rfl hf dX5_copy_52 (fun v52 hf => ?_)
          refine q_icmp_eq hf dX5_copy_53 62 (by decide) (fun hf => ?_) (fun hf => ?_)
          · refine q_iloadn dX5_copy_62 2 rfl ?_
            refine q_if_lt hf dX5_copy_63 111 (by decide) (fun hf => ?_) (fun hf => ?_)
            · refine q_aloadn dX5_copy_111 0 rfl ?_
              refine q_iconst dX5_copy_112 ?_
              obtain ⟨r113, h113, e113, hf⟩ := q_cl hf
              refine q_cVi (av := [vi 2]) (rest := []) wM_0 (ctX5_met e113) kX5_met vX5_met zX5_met lkX5_72 rfl rfl rfl rfl rfl dX5_copy_113 ?_
              exact q_iret hf rfl dX5_copy_116
            · refine q_iload dX5_copy_66 4 rfl ?_
              refine q_if_lt hf dX5_copy_68 111 (by decide) (fun hf => ?_) (fun hf => ?_)
              · refine q_aloadn dX5_copy_111 0 rfl ?_
                refine q_iconst dX5_copy_112 ?_
                obtain ⟨r113, h113, e113, hf⟩ := q_cl hf
                refine q_cVi (av := [vi 2]) (rest := []) wM_0 (ctX5_met e113) kX5_met vX5_met zX5_met lkX5_72 rfl rfl rfl rfl rfl dX5_copy_113 ?_
                exact q_iret hf rfl dX5_copy_116
              · refine q_iload dX5_copy_71 5 rfl ?_
                refine q_if_lt hf dX5_copy_73 111 (by decide) (fun hf => ?_) (fun hf => ?_)
                · refine q_aloadn dX5_copy_111 0 rfl ?_
                  refine q_iconst dX5_copy_112 ?_
                  obtain ⟨r113, h113, e113, hf⟩ := q_cl hf
                  refine q_cVi (av := [vi 2]) (rest := []) wM_0 (ctX5_met e113) kX5_met vX5_met zX5_met lkX5_72 rfl rfl rfl rfl rfl dX5_copy_113 ?_
                  exact q_iret hf rfl dX5_copy_116
                · refine q_iloadn dX5_copy_76 2 rfl ?_
                  refine q_i2l dX5_copy_77 ?_
                  refine q_iload dX5_copy_78 5 rfl ?_
                  refine q_i2l dX5_copy_80 ?_
                  refine q_ladd dX5_copy_81 ?_
                  refine q_aloadn dX5_copy_82 0 rfl ?_
                  refine M_g5_1 flX5_13 dX5_copy_83 ?_
                  refine q_iloadn dX5_copy_86 1 rfl ?_
                  refine M_ld rfl hf dX5_copy_87 (fun v87 hf => ?_)
                  refine q_i2l dX5_copy_88 ?_
                  refine q_lcmp dX5_copy_89 ?_
                  refine q_if_gt hf dX5_copy_90 111 (by decide) (fun hf => ?_) (fun hf => ?_)
                  · refine q_aloadn dX5_copy_111 0 rfl ?_
                    refine q_iconst dX5_copy_112 ?_
                    obtain ⟨r113, h113, e113, hf⟩ := q_cl hf
                    refine q_cVi (av := [vi 2]) (rest := []) wM_0 (ctX5_met e113) kX5_met vX5_met zX5_met lkX5_72 rfl rfl rfl rfl rfl dX5_copy_113 ?_
                    exact q_iret hf rfl dX5_copy_116
                  · refine q_iload dX5_copy_93 4 rfl ?_
                    refine q_i2l dX5_copy_95 ?_
                    refine q_iload dX5_copy_96 5 rfl ?_
                    refine q_i2l dX5_copy_98 ?_
                    refine q_ladd dX5_copy_99 ?_
                    refine q_aloadn dX5_copy_100 0 rfl ?_
                    refine M_g5_1 flX5_13 dX5_copy_101 ?_
                    refine q_iloadn dX5_copy_104 3 rfl ?_
                    refine M_ld rfl hf dX5_copy_105 (fun v105 hf => ?_)
                    refine q_i2l dX5_copy_106 ?_
                    refine q_lcmp dX5_copy_107 ?_
                    refine q_if_le hf dX5_copy_108 117 (by decide) (fun hf => ?_) (fun hf => ?_)
                    · refine q_iconst dX5_copy_117 ?_
                      refine q_istore dX5_copy_118 rfl (loc' := [(6, vi 0), (0, .ref (ad 0)), (1, vi x1), (2, vi x2), (3, vi x3), (4, vi x4), (5, vi x5)]) rfl ?_
                      refine q_loc (loc' := [(0, .ref (ad 0)), (1, vi x1), (2, vi x2), (3, vi x3), (4, vi x4), (5, vi x5), (6, vi 0)]) [1, 2, 3, 4, 5, 6, 0] rfl ?_
                      exact tX5_copy_120 FU x1 x2 x3 x4 x5 0 h8 hf
                    · refine q_aloadn dX5_copy_111 0 rfl ?_
                      refine q_iconst dX5_copy_112 ?_
                      obtain ⟨r113, h113, e113, hf⟩ := q_cl hf
                      refine q_cVi (av := [vi 2]) (rest := []) wM_0 (ctX5_met e113) kX5_met vX5_met zX5_met lkX5_72 rfl rfl rfl rfl rfl dX5_copy_113 ?_
                      exact q_iret hf rfl dX5_copy_116
          · refine q_aloadn dX5_copy_56 0 rfl ?_
            refine q_iconst dX5_copy_57 ?_
            obtain ⟨r58, h58, e58, hf⟩ := q_cl hf
            refine q_cVi (av := [vi 4]) (rest := []) wM_0 (ctX5_met e58) kX5_met vX5_met zX5_met lkX5_72 rfl rfl rfl rfl rfl dX5_copy_58 ?_
            exact q_iret hf rfl dX5_copy_61
        · refine q_aloadn dX5_copy_35 0 rfl ?_
          refine q_iconst dX5_copy_36 ?_
          obtain ⟨r37, h37, e37, hf⟩ := q_cl hf
          refine q_cVi (av := [vi 1]) (rest := []) wM_0 (ctX5_met e37) kX5_met vX5_met zX5_met lkX5_72 rfl rfl rfl rfl rfl dX5_copy_37 ?_
          exact q_iret hf rfl dX5_copy_40
    · refine q_bipush dX5_copy_14 (by decide) ?_
      exact q_iret hf rfl dX5_copy_16
