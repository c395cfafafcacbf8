def fJ9_floorMod_7cf53 (x0 : Int) (x1 : Int) (h : HP) : Option (Int × HP) :=
  gd (wi x1 ≠ 0) (lt (Int.tmod (wi x0) (wi x1)) fun x2_3 => if wi (xi x0 x1) < 0 then (if wi x2_3 = 0 then (some (x2_3, h)) else (some (x2_3 + x1, h))) else (some (x2_3, h)))
set_option maxRecDepth 20000 in
theorem ctJ9_floorMod_7cf53 {l : Launch} {D : va_G} {ad : Nat → Nat} {cI cR : ClassId} {x0 : Int} {x1 : Int} {h : HP} {Z : Int × HP} (hf : fJ9_floorMod_7cf53 x0 x1 h = some Z) : Ct (sdC l D ad cI cR) mJ9_floorMod_7cf53 [vi x0, vi x1] h (ri Z) := by
  refine Ct.ofF nJ9_floorMod_7cf53 rfl (loc := [(0, vi x0), (1, vi x1)]) rfl ?_
  unfold fJ9_floorMod_7cf53 at hf
  refine q_iloadn dJ9_floorMod_7cf53_0 0 rfl ?_
  refine q_iloadn dJ9_floorMod_7cf53_1 1 rfl ?_
  obtain ⟨g2, hf⟩ := q_gd hf
  refine q_irem dJ9_floorMod_7cf53_2 g2 ?_
  refine q_lt hf (fun x2_3 hf => ?_)
  refine q_istoren dJ9_floorMod_7cf53_3 rfl (loc' := [(2, vi x2_3), (0, vi x0), (1, vi x1)]) rfl ?_
  refine q_iloadn dJ9_floorMod_7cf53_4 1 rfl ?_
  refine q_iloadn dJ9_floorMod_7cf53_5 2 rfl ?_
  refine q_ixor dJ9_floorMod_7cf53_6 ?_
  refine q_if_ge hf dJ9_floorMod_7cf53_7 18 (by decide) (fun hf => ?_) (fun hf => ?_)
  · refine q_iloadn dJ9_floorMod_7cf53_18 0 rfl ?_
    exact q_iret hf rfl dJ9_floorMod_7cf53_19
  · refine q_iloadn dJ9_floorMod_7cf53_10 0 rfl ?_
    refine q_if_eq hf dJ9_floorMod_7cf53_11 18 (by decide) (fun hf => ?_) (fun hf => ?_)
    · refine q_iloadn dJ9_floorMod_7cf53_18 0 rfl ?_
      exact q_iret hf rfl dJ9_floorMod_7cf53_19
    · refine q_iloadn dJ9_floorMod_7cf53_14 0 rfl ?_
      refine q_iloadn dJ9_floorMod_7cf53_15 2 rfl ?_
      refine q_iadd dJ9_floorMod_7cf53_16 ?_
      exact q_iret hf rfl dJ9_floorMod_7cf53_17
def fX1_reduced (x0 : Int) (h : HP) : Option (Int × HP) :=
  cl (fJ9_floorMod_7cf53 x0 10007 h) fun r4 h4 => some (r4, h4)
set_option maxRecDepth 20000 in
theorem ctX1_reduced {l : Launch} {D : va_G} {ad : Nat → Nat} {cI cR : ClassId} {x0 : Int} {h : HP} {Z : Int × HP} (hf : fX1_reduced x0 h = some Z) : Ct (sdC l D ad cI cR) mX1_reduced [vi x0] h (ri Z) := by
  refine Ct.ofF nX1_reduced rfl (loc := [(0, vi x0)]) rfl ?_
  unfold fX1_reduced at hf
  refine q_iloadn dX1_reduced_0 0 rfl ?_
  refine q_sipush dX1_reduced_1 (by decide) ?_
  obtain ⟨r4, h4, e4, hf⟩ := q_cl hf
  refine q_cSi (av := [vi x0, vi 10007]) (rest := []) (ctJ9_floorMod_7cf53 e4) kJ9_floorMod_7cf53 uJ9_floorMod_7cf53 lkX1_9 rfl rfl rfl dX1_reduced_4 ?_
  exact q_iret hf rfl dX1_reduced_7
def bX1_power_7 (self : Int → Int → Int → HP → Option (Int × HP)) (x2 : Int) (x3 : Int) (x4 : Int) (h : HP) : Option (Int × HP) :=
  if 0 < wi x4 then (if wi (Int.tmod (wi x4) (wi 2)) = wi 1 then (lt (rm (x2 * x3)) fun x2_27 => lt (rm (x3 * x3)) fun x3_35 => lt (Int.tdiv (wi x4) (wi 2)) fun x4_40 => self x2_27 x3_35 x4_40 h) else (lt (rm (x3 * x3)) fun x3_35 => lt (Int.tdiv (wi x4) (wi 2)) fun x4_40 => self x2 x3_35 x4_40 h)) else (some (x2, h))
def LX1_power_7 : Nat → Int → Int → Int → HP → Option (Int × HP)
  | 0 => fun _ _ _ _ => none
  | n + 1 => bX1_power_7 (LX1_power_7 n)
set_option maxRecDepth 20000 in
theorem tX1_power_7 {l : Launch} {D : va_G} {ad : Nat → Nat} {cI cR : ClassId} {Z : Int × HP} : ∀ (n : Nat) (x2 : Int) (x3 : Int) (x4 : Int) (h : HP), LX1_power_7 n x2 x3 x4 h = some Z → Rn (sdC l D ad cI cR) mX1_power (ri Z) 7 [(2, vi x2), (3, vi x3), (4, vi x4)] [] h := by
  intro n
  induction n with
  | zero => intro x2 x3 x4 h hf; cases hf
  | succ n ih =>
    intro x2 x3 x4 h hf
    replace hf : bX1_power_7 (LX1_power_7 n) x2 x3 x4 h = some Z := hf
    unfold bX1_power_7 at hf
    refine q_iload dX1_power_7 2 rfl ?_
    refine q_if_le hf dX1_power_9 45 (by decide) (fun hf => ?_) (fun hf => ?_)
    · refine q_iloadn dX1_power_45 0 rfl ?_
      exact q_iret hf rfl dX1_power_46
    · refine q_iload dX1_power_12 2 rfl ?_
      refine q_iconst dX1_power_14 ?_
      refine q_irem dX1_power_15 nz2 ?_
      refine q_iconst dX1_power_16 ?_
      refine q_icmp_ne hf dX1_power_17 28 (by decide) (fun hf => ?_) (fun hf => ?_)
      · refine q_iloadn dX1_power_28 1 rfl ?_
        refine q_iloadn dX1_power_29 1 rfl ?_
        refine q_imul dX1_power_30 ?_
        refine q_sipush dX1_power_31 (by decide) ?_
        refine q_irmP dX1_power_34 ?_
        refine q_lt hf (fun x3_35 hf => ?_)
        refine q_istoren dX1_power_35 rfl (loc' := [(3, vi x3_35), (2, vi x2), (4, vi x4)]) rfl ?_
        refine q_iload dX1_power_36 2 rfl ?_
        refine q_iconst dX1_power_38 ?_
        refine q_idiv dX1_power_39 nz2 ?_
        refine q_lt hf (fun x4_40 hf => ?_)
        refine q_istore dX1_power_40 rfl (loc' := [(4, vi x4_40), (3, vi x3_35), (2, vi x2)]) rfl ?_
        refine q_goto dX1_power_42 7 (by decide) ?_
        refine q_loc (loc' := [(2, vi x2), (3, vi x3_35), (4, vi x4_40)]) [2, 1, 0] rfl ?_
        exact ih x2 x3_35 x4_40 h hf
      · refine q_iloadn dX1_power_20 0 rfl ?_
        refine q_iloadn dX1_power_21 1 rfl ?_
        refine q_imul dX1_power_22 ?_
        refine q_sipush dX1_power_23 (by decide) ?_
        refine q_irmP dX1_power_26 ?_
        refine q_lt hf (fun x2_27 hf => ?_)
        refine q_istoren dX1_power_27 rfl (loc' := [(2, vi x2_27), (3, vi x3), (4, vi x4)]) rfl ?_
        refine q_iloadn dX1_power_28 1 rfl ?_
        refine q_iloadn dX1_power_29 1 rfl ?_
        refine q_imul dX1_power_30 ?_
        refine q_sipush dX1_power_31 (by decide) ?_
        refine q_irmP dX1_power_34 ?_
        refine q_lt hf (fun x3_35 hf => ?_)
        refine q_istoren dX1_power_35 rfl (loc' := [(3, vi x3_35), (2, vi x2_27), (4, vi x4)]) rfl ?_
        refine q_iload dX1_power_36 2 rfl ?_
        refine q_iconst dX1_power_38 ?_
        refine q_idiv dX1_power_39 nz2 ?_
        refine q_lt hf (fun x4_40 hf => ?_)
        refine q_istore dX1_power_40 rfl (loc' := [(4, vi x4_40), (3, vi x3_35), (2, vi x2_27)]) rfl ?_
        refine q_goto dX1_power_42 7 (by decide) ?_
        refine q_loc (loc' := [(2, vi x2_27), (3, vi x3_35), (4, vi x4_40)]) [2, 1, 0] rfl ?_
        exact ih x2_27 x3_35 x4_40 h hf
def fX1_power (x0 : Int) (x1 : Int) (h : HP) : Option (Int × HP) :=
  LX1_power_7 FU 1 x0 x1 h
set_option maxRecDepth 20000 in
theorem ctX1_power {l : Launch} {D : va_G} {ad : Nat → Nat} {cI cR : ClassId} {x0 : Int} {x1 : Int} {h : HP} {Z : Int × HP} (hf : fX1_power x0 x1 h = some Z) : Ct (sdC l D ad cI cR) mX1_power [vi x0, vi x1] h (ri Z) := by
  refine Ct.ofF nX1_power rfl (loc := [(0, vi x0), (1, vi x1)]) rfl ?_
  unfold fX1_power at hf
  refine q_iconst dX1_power_0 ?_
  refine q_istoren dX1_power_1 rfl (loc' := [(2, vi 1), (0, vi x0), (1, vi x1)]) rfl ?_
  refine q_iloadn dX1_power_2 1 rfl ?_
  refine q_istoren dX1_power_3 rfl (loc' := [(3, vi x0), (2, vi 1), (0, vi x0), (1, vi x1)]) rfl ?_
  refine q_iloadn dX1_power_4 3 rfl ?_
  refine q_istore dX1_power_5 rfl (loc' := [(4, vi x1), (3, vi x0), (2, vi 1), (0, vi x0), (1, vi x1)]) rfl ?_
  refine q_loc (loc' := [(2, vi 1), (3, vi x0), (4, vi x1)]) [2, 1, 0] rfl ?_
  exact tX1_power_7 FU 1 x0 x1 h hf
def fX1_inverse (x0 : Int) (h : HP) : Option (Int × HP) :=
  cl (fX1_power x0 10005 h) fun r4 h4 => some (r4, h4)
set_option maxRecDepth 20000 in
theorem ctX1_inverse {l : Launch} {D : va_G} {ad : Nat → Nat} {cI cR : ClassId} {x0 : Int} {h : HP} {Z : Int × HP} (hf : fX1_inverse x0 h = some Z) : Ct (sdC l D ad cI cR) mX1_inverse [vi x0] h (ri Z) := by
  refine Ct.ofF nX1_inverse rfl (loc := [(0, vi x0)]) rfl ?_
  unfold fX1_inverse at hf
  refine q_iloadn dX1_inverse_0 0 rfl ?_
  refine q_sipush dX1_inverse_1 (by decide) ?_
  obtain ⟨r4, h4, e4, hf⟩ := q_cl hf
  refine q_cSi (av := [vi x0, vi 10005]) (rest := []) (ctX1_power e4) kX1_power uX1_power lkX1_15 rfl rfl rfl dX1_inverse_4 ?_
  exact q_iret hf rfl dX1_inverse_7
def bX1_factorial_4 (self : Int → Int → Int → HP → Option (Int × HP)) (x0 : Int) (x1 : Int) (x2 : Int) (h : HP) : Option (Int × HP) :=
  if wi x2 ≤ wi x0 then (lt (rm (x1 * x2)) fun x1_16 => self x0 x1_16 (x2 + 1) h) else (some (x1, h))
def LX1_factorial_4 : Nat → Int → Int → Int → HP → Option (Int × HP)
  | 0 => fun _ _ _ _ => none
  | n + 1 => bX1_factorial_4 (LX1_factorial_4 n)
set_option maxRecDepth 20000 in
theorem tX1_factorial_4 {l : Launch} {D : va_G} {ad : Nat → Nat} {cI cR : ClassId} {Z : Int × HP} : ∀ (n : Nat) (x0 : Int) (x1 : Int) (x2 : Int) (h : HP), LX1_factorial_4 n x0 x1 x2 h = some Z → Rn (sdC l D ad cI cR) mX1_factorial (ri Z) 4 [(0, vi x0), (1, vi x1), (2, vi x2)] [] h := by
  intro n
  induction n with
  | zero => intro x0 x1 x2 h hf; cases hf
  | succ n ih =>
    intro x0 x1 x2 h hf
    replace hf : bX1_factorial_4 (LX1_factorial_4 n) x0 x1 x2 h = some Z := hf
    unfold bX1_factorial_4 at hf
    refine q_iloadn dX1_factorial_4 2 rfl ?_
    refine q_iloadn dX1_factorial_5 0 rfl ?_
    refine q_icmp_gt hf dX1_factorial_6 23 (by decide) (fun hf => ?_) (fun hf => ?_)
    · refine q_iloadn dX1_factorial_23 1 rfl ?_
      exact q_iret hf rfl dX1_factorial_24
    · refine q_iloadn dX1_factorial_9 1 rfl ?_
      refine q_iloadn dX1_factorial_10 2 rfl ?_
      refine q_imul dX1_factorial_11 ?_
      refine q_sipush dX1_factorial_12 (by decide) ?_
      refine q_irmP dX1_factorial_15 ?_
      refine q_lt hf (fun x1_16 hf => ?_)
      refine q_istoren dX1_factorial_16 rfl (loc' := [(1, vi x1_16), (0, vi x0), (2, vi x2)]) rfl ?_
      refine q_iinc dX1_factorial_17 2 rfl rfl (loc' := [(2, vi (x2 + 1)), (1, vi x1_16), (0, vi x0)]) rfl ?_
      refine q_goto dX1_factorial_20 4 (by decide) ?_
      refine q_loc (loc' := [(0, vi x0), (1, vi x1_16), (2, vi (x2 + 1))]) [2, 1, 0] rfl ?_
      exact ih x0 x1_16 (x2 + 1) h hf
def fX1_factorial (x0 : Int) (h : HP) : Option (Int × HP) :=
  LX1_factorial_4 FU x0 1 2 h
set_option maxRecDepth 20000 in
theorem ctX1_factorial {l : Launch} {D : va_G} {ad : Nat → Nat} {cI cR : ClassId} {x0 : Int} {h : HP} {Z : Int × HP} (hf : fX1_factorial x0 h = some Z) : Ct (sdC l D ad cI cR) mX1_factorial [vi x0] h (ri Z) := by
  refine Ct.ofF nX1_factorial rfl (loc := [(0, vi x0)]) rfl ?_
  unfold fX1_factorial at hf
  refine q_iconst dX1_factorial_0 ?_
  refine q_istoren dX1_factorial_1 rfl (loc' := [(1, vi 1), (0, vi x0)]) rfl ?_
  refine q_iconst dX1_factorial_2 ?_
  refine q_istoren dX1_factorial_3 rfl (loc' := [(2, vi 2), (1, vi 1), (0, vi x0)]) rfl ?_
  refine q_loc (loc' := [(0, vi x0), (1, vi 1), (2, vi 2)]) [2, 1, 0] rfl ?_
  exact tX1_factorial_4 FU x0 1 2 h hf
def bX1_choose_4 (self : Int → Int → Int → Int → HP → Option (Int × HP)) (x0 : Int) (x1 : Int) (x2 : Int) (x3 : Int) (h : HP) : Option (Int × HP) :=
  if wi x3 ≤ wi x1 then (gd (wi x3 ≠ 0) (lt (Int.tdiv (wi (x2 * ((x0 - x3) + 1))) (wi x3)) fun x2_18 => self x0 x1 x2_18 (x3 + 1) h)) else (some (x2, h))
def LX1_choose_4 : Nat → Int → Int → Int → Int → HP → Option (Int × HP)
  | 0 => fun _ _ _ _ _ => none
  | n + 1 => bX1_choose_4 (LX1_choose_4 n)
set_option maxRecDepth 20000 in
theorem tX1_choose_4 {l : Launch} {D : va_G} {ad : Nat → Nat} {cI cR : ClassId} {Z : Int × HP} : ∀ (n : Nat) (x0 : Int) (x1 : Int) (x2 : Int) (x3 : Int) (h : HP), LX1_choose_4 n x0 x1 x2 x3 h = some Z → Rn (sdC l D ad cI cR) mX1_choose (ri Z) 4 [(0, vi x0), (1, vi x1), (2, vi x2), (3, vi x3)] [] h := by
  intro n
  induction n with
  | zero => intro x0 x1 x2 x3 h hf; cases hf
  | succ n ih =>
    intro x0 x1 x2 x3 h hf
    replace hf : bX1_choose_4 (LX1_choose_4 n) x0 x1 x2 x3 h = some Z := hf
    unfold bX1_choose_4 at hf
    refine q_iloadn dX1_choose_4 3 rfl ?_
    refine q_iloadn dX1_choose_5 1 rfl ?_
    refine q_icmp_gt hf dX1_choose_6 25 (by decide) (fun hf => ?_) (fun hf => ?_)
    · refine q_iloadn dX1_choose_25 2 rfl ?_
      exact q_iret hf rfl dX1_choose_26
    · refine q_iloadn dX1_choose_9 2 rfl ?_
      refine q_iloadn dX1_choose_10 0 rfl ?_
      refine q_iloadn dX1_choose_11 3 rfl ?_
      refine q_isub dX1_choose_12 ?_
      refine q_iconst dX1_choose_13 ?_
      refine q_iadd dX1_choose_14 ?_
      refine q_imul dX1_choose_15 ?_
      refine q_iloadn dX1_choose_16 3 rfl ?_
      obtain ⟨g17, hf⟩ := q_gd hf
      refine q_idiv dX1_choose_17 g17 ?_
      refine q_lt hf (fun x2_18 hf => ?_)
      refine q_istoren dX1_choose_18 rfl (loc' := [(2, vi x2_18), (0, vi x0), (1, vi x1), (3, vi x3)]) rfl ?_
      refine q_iinc dX1_choose_19 3 rfl rfl (loc' := [(3, vi (x3 + 1)), (2, vi x2_18), (0, vi x0), (1, vi x1)]) rfl ?_
      refine q_goto dX1_choose_22 4 (by decide) ?_
      refine q_loc (loc' := [(0, vi x0), (1, vi x1), (2, vi x2_18), (3, vi (x3 + 1))]) [2, 3, 1, 0] rfl ?_
      exact ih x0 x1 x2_18 (x3 + 1) h hf
def fX1_choose (x0 : Int) (x1 : Int) (h : HP) : Option (Int × HP) :=
  LX1_choose_4 FU x0 x1 1 1 h
set_option maxRecDepth 20000 in
theorem ctX1_choose {l : Launch} {D : va_G} {ad : Nat → Nat} {cI cR : ClassId} {x0 : Int} {x1 : Int} {h : HP} {Z : Int × HP} (hf : fX1_choose x0 x1 h = some Z) : Ct (sdC l D ad cI cR) mX1_choose [vi x0, vi x1] h (ri Z) := by
  refine Ct.ofF nX1_choose rfl (loc := [(0, vi x0), (1, vi x1)]) rfl ?_
  unfold fX1_choose at hf
  refine q_iconst dX1_choose_0 ?_
  refine q_istoren dX1_choose_1 rfl (loc' := [(2, vi 1), (0, vi x0), (1, vi x1)]) rfl ?_
  refine q_iconst dX1_choose_2 ?_
  refine q_istoren dX1_choose_3 rfl (loc' := [(3, vi 1), (2, vi 1), (0, vi x0), (1, vi x1)]) rfl ?_
  refine q_loc (loc' := [(0, vi x0), (1, vi x1), (2, vi 1), (3, vi 1)]) [2, 3, 1, 0] rfl ?_
  exact tX1_choose_4 FU x0 x1 1 1 h hf
def fJ9_max_7cf53 (x0 : Int) (x1 : Int) (h : HP) : Option (Int × HP) :=
  if wi x1 ≤ wi x0 then (some (x0, h)) else (some (x1, h))
set_option maxRecDepth 20000 in
theorem ctJ9_max_7cf53 {l : Launch} {D : va_G} {ad : Nat → Nat} {cI cR : ClassId} {x0 : Int} {x1 : Int} {h : HP} {Z : Int × HP} (hf : fJ9_max_7cf53 x0 x1 h = some Z) : Ct (sdC l D ad cI cR) mJ9_max_7cf53 [vi x0, vi x1] h (ri Z) := by
  refine Ct.ofF nJ9_max_7cf53 rfl (loc := [(0, vi x0), (1, vi x1)]) rfl ?_
  unfold fJ9_max_7cf53 at hf
  refine q_iloadn dJ9_max_7cf53_0 0 rfl ?_
  refine q_iloadn dJ9_max_7cf53_1 1 rfl ?_
  refine q_icmp_lt hf dJ9_max_7cf53_2 9 (by decide) (fun hf => ?_) (fun hf => ?_)
  · refine q_iloadn dJ9_max_7cf53_9 1 rfl ?_
    exact q_iret hf rfl dJ9_max_7cf53_10
  · refine q_iloadn dJ9_max_7cf53_5 0 rfl ?_
    refine q_goto dJ9_max_7cf53_6 10 (by decide) ?_
    exact q_iret hf rfl dJ9_max_7cf53_10
def fJ9_min_7cf53 (x0 : Int) (x1 : Int) (h : HP) : Option (Int × HP) :=
  if wi x0 ≤ wi x1 then (some (x0, h)) else (some (x1, h))
set_option maxRecDepth 20000 in
theorem ctJ9_min_7cf53 {l : Launch} {D : va_G} {ad : Nat → Nat} {cI cR : ClassId} {x0 : Int} {x1 : Int} {h : HP} {Z : Int × HP} (hf : fJ9_min_7cf53 x0 x1 h = some Z) : Ct (sdC l D ad cI cR) mJ9_min_7cf53 [vi x0, vi x1] h (ri Z) := by
  refine Ct.ofF nJ9_min_7cf53 rfl (loc := [(0, vi x0), (1, vi x1)]) rfl ?_
  unfold fJ9_min_7cf53 at hf
  refine q_iloadn dJ9_min_7cf53_0 0 rfl ?_
  refine q_iloadn dJ9_min_7cf53_1 1 rfl ?_
  refine q_icmp_gt hf dJ9_min_7cf53_2 9 (by decide) (fun hf => ?_) (fun hf => ?_)
  · refine q_iloadn dJ9_min_7cf53_9 1 rfl ?_
    exact q_iret hf rfl dJ9_min_7cf53_10
  · refine q_iloadn dJ9_min_7cf53_5 0 rfl ?_
    refine q_goto dJ9_min_7cf53_6 10 (by decide) ?_
    exact q_iret hf rfl dJ9_min_7cf53_10
