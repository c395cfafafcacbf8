def bX2_clear_2 (self : Nat → Int → HP → Option (Int × HP)) (a0 : Nat) (x1 : Int) (h : HP) : Option (Int × HP) :=
  if wi x1 < wi (((lnC a0 : Nat) : Int)) then (sto (lnC a0) h a0 x1 0 fun h11 => self a0 (x1 + 1) h11) else (some (0, h))
def LX2_clear_2 : Nat → Nat → Int → HP → Option (Int × HP)
  | 0 => fun _ _ _ => none
  | n + 1 => bX2_clear_2 (LX2_clear_2 n)
set_option maxRecDepth 20000 in
theorem tX2_clear_2 {l : Launch} {D : va_G} {ad : Nat → Nat} {cI cR : ClassId} {Z : Int × HP} : ∀ (n : Nat) (a0 : Nat) (x1 : Int) (h : HP), isArr a0 = true → LX2_clear_2 n a0 x1 h = some Z → Rn (sdC l D ad cI cR) mX2_clear (rv Z) 2 [(0, .ref (ad a0)), (1, vi x1)] [] h := by
  intro n
  induction n with
  | zero => intro a0 x1 h ha0 hf; cases hf
  | succ n ih =>
    intro a0 x1 h ha0 hf
    replace hf : bX2_clear_2 (LX2_clear_2 n) a0 x1 h = some Z := hf
    unfold bX2_clear_2 at hf
    refine q_iloadn dX2_clear_2 1 rfl ?_
    refine q_aloadn dX2_clear_3 0 rfl ?_
    refine C_alen ha0 dX2_clear_4 ?_
    refine q_icmp_ge hf dX2_clear_5 18 (by decide) (fun hf => ?_) (fun hf => ?_)
    · exact q_vret hf rfl dX2_clear_18
    · refine q_aloadn dX2_clear_8 0 rfl ?_
      refine q_iloadn dX2_clear_9 1 rfl ?_
      refine q_iconst dX2_clear_10 ?_
      refine C_st hf dX2_clear_11 (fun h11 hf => ?_)
      refine q_iinc dX2_clear_12 1 rfl rfl (loc' := [(1, vi (x1 + 1)), (0, .ref (ad a0))]) rfl ?_
      refine q_goto dX2_clear_15 2 (by decide) ?_
      refine q_loc (loc' := [(0, .ref (ad a0)), (1, vi (x1 + 1))]) [1, 0] rfl ?_
      exact ih a0 (x1 + 1) h11 ha0 hf
def fX2_clear (a0 : Nat) (h : HP) : Option (Int × HP) :=
  LX2_clear_2 FU a0 0 h
set_option maxRecDepth 20000 in
theorem ctX2_clear {l : Launch} {D : va_G} {ad : Nat → Nat} {cI cR : ClassId} {a0 : Nat} {h : HP} {Z : Int × HP} (ha0 : isArr a0 = true) (hf : fX2_clear a0 h = some Z) : Ct (sdC l D ad cI cR) mX2_clear [.ref (ad a0)] h (rv Z) := by
  refine Ct.ofF nX2_clear rfl (loc := [(0, .ref (ad a0))]) rfl ?_
  unfold fX2_clear at hf
  refine q_iconst dX2_clear_0 ?_
  refine q_istoren dX2_clear_1 rfl (loc' := [(1, vi 0), (0, .ref (ad a0))]) rfl ?_
  refine q_loc (loc' := [(0, .ref (ad a0)), (1, vi 0)]) [1, 0] rfl ?_
  exact tX2_clear_2 FU a0 0 h ha0 hf
def bX2_multiply_2 (self : Nat → Int → Int → HP → Option (Int × HP)) (a0 : Nat) (x1 : Int) (x2 : Int) (h : HP) : Option (Int × HP) :=
  if wi x2 < wi (((lnC a0 : Nat) : Int)) then (ld (lnC a0) (h a0) x2 fun v12 => sto (lnC a0) h a0 x2 (rm (v12 * x1)) fun h19 => self a0 x1 (x2 + 1) h19) else (some (0, h))
def LX2_multiply_2 : Nat → Nat → Int → Int → HP → Option (Int × HP)
  | 0 => fun _ _ _ _ => none
  | n + 1 => bX2_multiply_2 (LX2_multiply_2 n)
set_option maxRecDepth 20000 in
theorem tX2_multiply_2 {l : Launch} {D : va_G} {ad : Nat → Nat} {cI cR : ClassId} {Z : Int × HP} : ∀ (n : Nat) (a0 : Nat) (x1 : Int) (x2 : Int) (h : HP), isArr a0 = true → LX2_multiply_2 n a0 x1 x2 h = some Z → Rn (sdC l D ad cI cR) mX2_multiply (rv Z) 2 [(0, .ref (ad a0)), (1, vi x1), (2, vi x2)] [] h := by
  intro n
  induction n with
  | zero => intro a0 x1 x2 h ha0 hf; cases hf
  | succ n ih =>
    intro a0 x1 x2 h ha0 hf
    replace hf : bX2_multiply_2 (LX2_multiply_2 n) a0 x1 x2 h = some Z := hf
    unfold bX2_multiply_2 at hf
    refine q_iloadn dX2_multiply_2 2 rfl ?_
    refine q_aloadn dX2_multiply_3 0 rfl ?_
    refine C_alen ha0 dX2_multiply_4 ?_
    refine q_icmp_ge hf dX2_multiply_5 26 (by decide) (fun hf => ?_) (fun hf => ?_)
    · exact q_vret hf rfl dX2_multiply_26
    · refine q_aloadn dX2_multiply_8 0 rfl ?_
      refine q_iloadn dX2_multiply_9 2 rfl ?_
      refine q_aloadn dX2_multiply_10 0 rfl ?_
      refine q_iloadn dX2_multiply_11 2 rfl ?_
      refine C_ld hf dX2_multiply_12 (fun v12 hf => ?_)
      refine q_iloadn dX2_multiply_13 1 rfl ?_
      refine q_imul dX2_multiply_14 ?_
      refine q_sipush dX2_multiply_15 (by decide) ?_
      refine q_irmP dX2_multiply_18 ?_
      refine C_st hf dX2_multiply_19 (fun h19 hf => ?_)
      refine q_iinc dX2_multiply_20 2 rfl rfl (loc' := [(2, vi (x2 + 1)), (0, .ref (ad a0)), (1, vi x1)]) rfl ?_
      refine q_goto dX2_multiply_23 2 (by decide) ?_
      refine q_loc (loc' := [(0, .ref (ad a0)), (1, vi x1), (2, vi (x2 + 1))]) [1, 2, 0] rfl ?_
      exact ih a0 x1 (x2 + 1) h19 ha0 hf
def fX2_multiply (a0 : Nat) (x1 : Int) (h : HP) : Option (Int × HP) :=
  LX2_multiply_2 FU a0 x1 0 h
set_option maxRecDepth 20000 in
theorem ctX2_multiply {l : Launch} {D : va_G} {ad : Nat → Nat} {cI cR : ClassId} {a0 : Nat} {x1 : Int} {h : HP} {Z : Int × HP} (ha0 : isArr a0 = true) (hf : fX2_multiply a0 x1 h = some Z) : Ct (sdC l D ad cI cR) mX2_multiply [.ref (ad a0), vi x1] h (rv Z) := by
  refine Ct.ofF nX2_multiply rfl (loc := [(0, .ref (ad a0)), (1, vi x1)]) rfl ?_
  unfold fX2_multiply at hf
  refine q_iconst dX2_multiply_0 ?_
  refine q_istoren dX2_multiply_1 rfl (loc' := [(2, vi 0), (0, .ref (ad a0)), (1, vi x1)]) rfl ?_
  refine q_loc (loc' := [(0, .ref (ad a0)), (1, vi x1), (2, vi 0)]) [1, 2, 0] rfl ?_
  exact tX2_multiply_2 FU a0 x1 0 h ha0 hf
def bX2_addTimes_2 (self : Nat → Nat → Int → Int → HP → Option (Int × HP)) (a0 : Nat) (a1 : Nat) (x2 : Int) (x3 : Int) (h : HP) : Option (Int × HP) :=
  if wi x3 < wi (((lnC a0 : Nat) : Int)) then (if wi x3 < wi (((lnC a1 : Nat) : Int)) then (ld (lnC a0) (h a0) x3 fun v18 => ld (lnC a1) (h a1) x3 fun v21 => sto (lnC a0) h a0 x3 (rm (v18 + (v21 * x2))) fun h29 => self a0 a1 x2 (x3 + 1) h29) else (some (0, h))) else (some (0, h))
def LX2_addTimes_2 : Nat → Nat → Nat → Int → Int → HP → Option (Int × HP)
  | 0 => fun _ _ _ _ _ => none
  | n + 1 => bX2_addTimes_2 (LX2_addTimes_2 n)
set_option maxRecDepth 20000 in
theorem tX2_addTimes_2 {l : Launch} {D : va_G} {ad : Nat → Nat} {cI cR : ClassId} {Z : Int × HP} : ∀ (n : Nat) (a0 : Nat) (a1 : Nat) (x2 : Int) (x3 : Int) (h : HP), isArr a0 = true → isArr a1 = true → LX2_addTimes_2 n a0 a1 x2 x3 h = some Z → Rn (sdC l D ad cI cR) mX2_addTimes (rv Z) 2 [(0, .ref (ad a0)), (1, .ref (ad a1)), (2, vi x2), (3, vi x3)] [] h := by
  intro n
  induction n with
  | zero => intro a0 a1 x2 x3 h ha0 ha1 hf; cases hf
  | succ n ih =>
    intro a0 a1 x2 x3 h ha0 ha1 hf
    replace hf : bX2_addTimes_2 (LX2_addTimes_2 n) a0 a1 x2 x3 h = some Z := hf
    unfold bX2_addTimes_2 at hf
    refine q_iloadn dX2_addTimes_2 3 rfl ?_
    refine q_aloadn dX2_addTimes_3 0 rfl ?_
    refine C_alen ha0 dX2_addTimes_4 ?_
    refine q_icmp_ge hf dX2_addTimes_5 36 (by decide) (fun hf => ?_) (fun hf => ?_)
    · exact q_vret hf rfl dX2_addTimes_36
    · refine q_iloadn dX2_addTimes_8 3 rfl ?_
      refine q_aloadn dX2_addTimes_9 1 rfl ?_
      refine C_alen ha1 dX2_addTimes_10 ?_
      refine q_icmp_ge hf dX2_addTimes_11 36 (by decide) (fun hf => ?_) (fun hf => ?_)
      · exact q_vret hf rfl dX2_addTimes_36
      · refine q_aloadn dX2_addTimes_14 0 rfl ?_
        refine q_iloadn dX2_addTimes_15 3 rfl ?_
        refine q_aloadn dX2_addTimes_16 0 rfl ?_
        refine q_iloadn dX2_addTimes_17 3 rfl ?_
        refine C_ld hf dX2_addTimes_18 (fun v18 hf => ?_)
        refine q_aloadn dX2_addTimes_19 1 rfl ?_
        refine q_iloadn dX2_addTimes_20 3 rfl ?_
        refine C_ld hf dX2_addTimes_21 (fun v21 hf => ?_)
        refine q_iloadn dX2_addTimes_22 2 rfl ?_
        refine q_imul dX2_addTimes_23 ?_
        refine q_iadd dX2_addTimes_24 ?_
        refine q_sipush dX2_addTimes_25 (by decide) ?_
        refine q_irmP dX2_addTimes_28 ?_
        refine C_st hf dX2_addTimes_29 (fun h29 hf => ?_)
        refine q_iinc dX2_addTimes_30 3 rfl rfl (loc' := [(3, vi (x3 + 1)), (0, .ref (ad a0)), (1, .ref (ad a1)), (2, vi x2)]) rfl ?_
        refine q_goto dX2_addTimes_33 2 (by decide) ?_
        refine q_loc (loc' := [(0, .ref (ad a0)), (1, .ref (ad a1)), (2, vi x2), (3, vi (x3 + 1))]) [1, 2, 3, 0] rfl ?_
        exact ih a0 a1 x2 (x3 + 1) h29 ha0 ha1 hf
def fX2_addTimes (a0 : Nat) (a1 : Nat) (x2 : Int) (h : HP) : Option (Int × HP) :=
  LX2_addTimes_2 FU a0 a1 x2 0 h
set_option maxRecDepth 20000 in
theorem ctX2_addTimes {l : Launch} {D : va_G} {ad : Nat → Nat} {cI cR : ClassId} {a0 : Nat} {a1 : Nat} {x2 : Int} {h : HP} {Z : Int × HP} (ha0 : isArr a0 = true) (ha1 : isArr a1 = true) (hf : fX2_addTimes a0 a1 x2 h = some Z) : Ct (sdC l D ad cI cR) mX2_addTimes [.ref (ad a0), .ref (ad a1), vi x2] h (rv Z) := by
  refine Ct.ofF nX2_addTimes rfl (loc := [(0, .ref (ad a0)), (1, .ref (ad a1)), (2, vi x2)]) rfl ?_
  unfold fX2_addTimes at hf
  refine q_iconst dX2_addTimes_0 ?_
  refine q_istoren dX2_addTimes_1 rfl (loc' := [(3, vi 0), (0, .ref (ad a0)), (1, .ref (ad a1)), (2, vi x2)]) rfl ?_
  refine q_loc (loc' := [(0, .ref (ad a0)), (1, .ref (ad a1)), (2, vi x2), (3, vi 0)]) [1, 2, 3, 0] rfl ?_
  exact tX2_addTimes_2 FU a0 a1 x2 0 h ha0 ha1 hf
def bX2_addProduct_25 (k3 : Nat → Nat → Int → Nat → Int → Int → Int → HP → Option (Int × HP)) (self : Nat → Nat → Int → Nat → Int → Int → Int → Int → Int → HP → Option (Int × HP)) (a0 : Nat) (a1 : Nat) (x2 : Int) (a3 : Nat) (x4 : Int) (x5 : Int) (x6 : Int) (x7 : Int) (x8 : Int) (h : HP) : Option (Int × HP) :=
  if wi x8 ≤ wi x4 then (if wi (x6 + x8) < wi (((lnC a0 : Nat) : Int)) then (ld (lnC a0) (h a0) (x6 + x8) fun v54 => ld (lnC a3) (h a3) x8 fun v60 => sto (lnC a0) h a0 (x6 + x8) (rm (v54 + (x7 * v60))) fun h67 => self a0 a1 x2 a3 x4 x5 x6 x7 (x8 + 1) h67) else (k3 a0 a1 x2 a3 x4 x5 (x6 + 1) h)) else (k3 a0 a1 x2 a3 x4 x5 (x6 + 1) h)
def LX2_addProduct_25 (k3 : Nat → Nat → Int → Nat → Int → Int → Int → HP → Option (Int × HP)) : Nat → Nat → Nat → Int → Nat → Int → Int → Int → Int → Int → HP → Option (Int × HP)
  | 0 => fun _ _ _ _ _ _ _ _ _ _ => none
  | n + 1 => bX2_addProduct_25 k3 (LX2_addProduct_25 k3 n)
set_option maxRecDepth 20000 in
theorem tX2_addProduct_25 {l : Launch} {D : va_G} {ad : Nat → Nat} {cI cR : ClassId} {Z : Int × HP} {k3 : Nat → Nat → Int → Nat → Int → Int → Int → HP → Option (Int × HP)} (hk3 : ∀ (a0 : Nat) (a1 : Nat) (x2 : Int) (a3 : Nat) (x4 : Int) (x5 : Int) (x6 : Int) (h : HP), isArr a0 = true → isArr a1 = true → isArr a3 = true → k3 a0 a1 x2 a3 x4 x5 x6 h = some Z → Rn (sdC l D ad cI cR) mX2_addProduct (rv Z) 3 [(0, .ref (ad a0)), (1, .ref (ad a1)), (2, vi x2), (3, .ref (ad a3)), (4, vi x4), (5, vi x5), (6, vi x6)] [] h) : ∀ (n : Nat) (a0 : Nat) (a1 : Nat) (x2 : Int) (a3 : Nat) (x4 : Int) (x5 : Int) (x6 : Int) (x7 : Int) (x8 : Int) (h : HP), isArr a0 = true → isArr a1 = true → isArr a3 = true → LX2_addProduct_25 k3 n a0 a1 x2 a3 x4 x5 x6 x7 x8 h = some Z → Rn (sdC l D ad cI cR) mX2_addProduct (rv Z) 25 [(0, .ref (ad a0)), (1, .ref (ad a1)), (2, vi x2), (3, .ref (ad a3)), (4, vi x4), (5, vi x5), (6, vi x6), (7, vi x7), (8, vi x8)] [] h := by
  intro n
  induction n with
  | zero => intro a0 a1 x2 a3 x4 x5 x6 x7 x8 h ha0 ha1 ha3 hf; cases hf
  | succ n ih =>
    intro a0 a1 x2 a3 x4 x5 x6 x7 x8 h ha0 ha1 ha3 hf
    replace hf : bX2_addProduct_25 k3 (LX2_addProduct_25 k3 n) a0 a1 x2 a3 x4 x5 x6 x7 x8 h = some Z := hf
    unfold bX2_addProduct_25 at hf
    refine q_iload dX2_addProduct_25 8 rfl ?_
    refine q_iload dX2_addProduct_27 4 rfl ?_
    refine q_icmp_gt hf dX2_addProduct_29 74 (by decide) (fun hf => ?_) (fun hf => ?_)
    · refine q_iinc dX2_addProduct_74 6 rfl rfl (loc' := [(6, vi (x6 + 1)), (0, .ref (ad a0)), (1, .ref (ad a1)), (2, vi x2), (3, .ref (ad a3)), (4, vi x4), (5, vi x5), (7, vi x7), (8, vi x8)]) rfl ?_
      refine q_goto dX2_addProduct_77 3 (by decide) ?_
      refine q_loc (loc' := [(0, .ref (ad a0)), (1, .ref (ad a1)), (2, vi x2), (3, .ref (ad a3)), (4, vi x4), (5, vi x5), (6, vi (x6 + 1))]) [1, 2, 3, 4, 5, 6, 0] rfl ?_
      exact hk3 a0 a1 x2 a3 x4 x5 (x6 + 1) h ha0 ha1 ha3 hf
    · refine q_iload dX2_addProduct_32 6 rfl ?_
      refine q_iload dX2_addProduct_34 8 rfl ?_
      refine q_iadd dX2_addProduct_36 ?_
      refine q_aloadn dX2_addProduct_37 0 rfl ?_
      refine C_alen ha0 dX2_addProduct_38 ?_
      refine q_icmp_ge hf dX2_addProduct_39 74 (by decide) (fun hf => ?_) (fun hf => ?_)
      · refine q_iinc dX2_addProduct_74 6 rfl rfl (loc' := [(6, vi (x6 + 1)), (0, .ref (ad a0)), (1, .ref (ad a1)), (2, vi x2), (3, .ref (ad a3)), (4, vi x4), (5, vi x5), (7, vi x7), (8, vi x8)]) rfl ?_
        refine q_goto dX2_addProduct_77 3 (by decide) ?_
        refine q_loc (loc' := [(0, .ref (ad a0)), (1, .ref (ad a1)), (2, vi x2), (3, .ref (ad a3)), (4, vi x4), (5, vi x5), (6, vi (x6 + 1))]) [1, 2, 3, 4, 5, 6, 0] rfl ?_
        exact hk3 a0 a1 x2 a3 x4 x5 (x6 + 1) h ha0 ha1 ha3 hf
      · refine q_aloadn dX2_addProduct_42 0 rfl ?_
        refine q_iload dX2_addProduct_43 6 rfl ?_
        refine q_iload dX2_addProduct_45 8 rfl ?_
        refine q_iadd dX2_addProduct_47 ?_
        refine q_aloadn dX2_addProduct_48 0 rfl ?_
        refine q_iload dX2_addProduct_49 6 rfl ?_
        refine q_iload dX2_addProduct_51 8 rfl ?_
        refine q_iadd dX2_addProduct_53 ?_
        refine C_ld hf dX2_addProduct_54 (fun v54 hf => ?_)
        refine q_iload dX2_addProduct_55 7 rfl ?_
        refine q_aloadn dX2_addProduct_57 3 rfl ?_
        refine q_iload dX2_addProduct_58 8 rfl ?_
        refine C_ld hf dX2_addProduct_60 (fun v60 hf => ?_)
        refine q_imul dX2_addProduct_61 ?_
        refine q_iadd dX2_addProduct_62 ?_
        refine q_sipush dX2_addProduct_63 (by decide) ?_
        refine q_irmP dX2_addProduct_66 ?_
        refine C_st hf dX2_addProduct_67 (fun h67 hf => ?_)
        refine q_iinc dX2_addProduct_68 8 rfl rfl (loc' := [(8, vi (x8 + 1)), (0, .ref (ad a0)), (1, .ref (ad a1)), (2, vi x2), (3, .ref (ad a3)), (4, vi x4), (5, vi x5), (6, vi x6), (7, vi x7)]) rfl ?_
        refine q_goto dX2_addProduct_71 25 (by decide) ?_
        refine q_loc (loc' := [(0, .ref (ad a0)), (1, .ref (ad a1)), (2, vi x2), (3, .ref (ad a3)), (4, vi x4), (5, vi x5), (6, vi x6), (7, vi x7), (8, vi (x8 + 1))]) [1, 2, 3, 4, 5, 6, 7, 8, 0] rfl ?_
        exact ih a0 a1 x2 a3 x4 x5 x6 x7 (x8 + 1) h67 ha0 ha1 ha3 hf
def bX2_addProduct_3 (self : Nat → Nat → Int → Nat → Int → Int → Int → HP → Option (Int × HP)) (a0 : Nat) (a1 : Nat) (x2 : Int) (a3 : Nat) (x4 : Int) (x5 : Int) (x6 : Int) (h : HP) : Option (Int × HP) :=
  if wi x6 ≤ wi x2 then (ld (lnC a1) (h a1) x6 fun v12 => lt (rm (v12 * x5)) fun x7_20 => LX2_addProduct_25 self FU a0 a1 x2 a3 x4 x5 x6 x7_20 0 h) else (some (0, h))
def LX2_addProduct_3 : Nat → Nat → Nat → Int → Nat → Int → Int → Int → HP → Option (Int × HP)
  | 0 => fun _ _ _ _ _ _ _ _ => none
  | n + 1 => bX2_addProduct_3 (LX2_addProduct_3 n)
set_option maxRecDepth 20000 in
theorem tX2_addProduct_3 {l : Launch} {D : va_G} {ad : Nat → Nat} {cI cR : ClassId} {Z : Int × HP} : ∀ (n : Nat) (a0 : Nat) (a1 : Nat) (x2 : Int) (a3 : Nat) (x4 : Int) (x5 : Int) (x6 : Int) (h : HP), isArr a0 = true → isArr a1 = true → isArr a3 = true → LX2_addProduct_3 n a0 a1 x2 a3 x4 x5 x6 h = some Z → Rn (sdC l D ad cI cR) mX2_addProduct (rv Z) 3 [(0, .ref (ad a0)), (1, .ref (ad a1)), (2, vi x2), (3, .ref (ad a3)), (4, vi x4), (5, vi x5), (6, vi x6)] [] h := by
  intro n
  induction n with
  | zero => intro a0 a1 x2 a3 x4 x5 x6 h ha0 ha1 ha3 hf; cases hf
  | succ n ih =>
    intro a0 a1 x2 a3 x4 x5 x6 h ha0 ha1 ha3 hf
    replace hf : bX2_addProduct_3 (LX2_addProduct_3 n) a0 a1 x2 a3 x4 x5 x6 h = some Z := hf
    unfold bX2_addProduct_3 at hf
    refine q_iload dX2_addProduct_3 6 rfl ?_
    refine q_iloadn dX2_addProduct_5 2 rfl ?_
    refine q_icmp_gt hf dX2_addProduct_6 80 (by decide) (fun hf => ?_) (fun hf => ?_)
    · exact q_vret hf rfl dX2_addProduct_80
    · refine q_aloadn dX2_addProduct_9 1 rfl ?_
      refine q_iload dX2_addProduct_10 6 rfl ?_
      refine C_ld hf dX2_addProduct_12 (fun v12 hf => ?_)
      refine q_iload dX2_addProduct_13 5 rfl ?_
      refine q_imul dX2_addProduct_15 ?_
      refine q_sipush dX2_addProduct_16 (by decide) ?_
      refine q_irmP dX2_addProduct_19 ?_
      refine q_lt hf (fun x7_20 hf => ?_)
      refine q_istore dX2_addProduct_20 rfl (loc' := [(7, vi x7_20), (0, .ref (ad a0)), (1, .ref (ad a1)), (2, vi x2), (3, .ref (ad a3)), (4, vi x4), (5, vi x5), (6, vi x6)]) rfl ?_
      refine q_iconst dX2_addProduct_22 ?_
      refine q_istore dX2_addProduct_23 rfl (loc' := [(8, vi 0), (7, vi x7_20), (0, .ref (ad a0)), (1, .ref (ad a1)), (2, vi x2), (3, .ref (ad a3)), (4, vi x4), (5, vi x5), (6, vi x6)]) rfl ?_
      refine q_loc (loc' := [(0, .ref (ad a0)), (1, .ref (ad a1)), (2, vi x2), (3, .ref (ad a3)), (4, vi x4), (5, vi x5), (6, vi x6), (7, vi x7_20), (8, vi 0)]) [2, 3, 4, 5, 6, 7, 8, 1, 0] rfl ?_
      exact tX2_addProduct_25 ih FU a0 a1 x2 a3 x4 x5 x6 x7_20 0 h ha0 ha1 ha3 hf
def fX2_addProduct (a0 : Nat) (a1 : Nat) (x2 : Int) (a3 : Nat) (x4 : Int) (x5 : Int) (h : HP) : Option (Int × HP) :=
  LX2_addProduct_3 FU a0 a1 x2 a3 x4 x5 0 h
set_option maxRecDepth 20000 in
theorem ctX2_addProduct {l : Launch} {D : va_G} {ad : Nat → Nat} {cI cR : ClassId} {a0 : Nat} {a1 : Nat} {x2 : Int} {a3 : Nat} {x4 : Int} {x5 : Int} {h : HP} {Z : Int × HP} (ha0 : isArr a0 = true) (ha1 : isArr a1 = true) (ha3 : isArr a3 = true) (hf : fX2_addProduct a0 a1 x2 a3 x4 x5 h = some Z) : Ct (sdC l D ad cI cR) mX2_addProduct [.ref (ad a0), .ref (ad a1), vi x2, .ref (ad a3), vi x4, vi x5] h (rv Z) := by
  refine Ct.ofF nX2_addProduct rfl (loc := [(0, .ref (ad a0)), (1, .ref (ad a1)), (2, vi x2), (3, .ref (ad a3)), (4, vi x4), (5, vi x5)]) rfl ?_
  unfold fX2_addProduct at hf
  refine q_iconst dX2_addProduct_0 ?_
  refine q_istore dX2_addProduct_1 rfl (loc' := [(6, vi 0), (0, .ref (ad a0)), (1, .ref (ad a1)), (2, vi x2), (3, .ref (ad a3)), (4, vi x4), (5, vi x5)]) rfl ?_
  refine q_loc (loc' := [(0, .ref (ad a0)), (1, .ref (ad a1)), (2, vi x2), (3, .ref (ad a3)), (4, vi x4), (5, vi x5), (6, vi 0)]) [1, 2, 3, 4, 5, 6, 0] rfl ?_
  exact tX2_addProduct_3 FU a0 a1 x2 a3 x4 x5 0 h ha0 ha1 ha3 hf
def bX2_timesLine_5 (self : Nat → Int → Int → Int → HP → Option (Int × HP)) (a0 : Nat) (x2 : Int) (x3 : Int) (x4 : Int) (h : HP) : Option (Int × HP) :=
  if 0 < wi x4 then (ld (lnC a0) (h a0) x4 fun v17 => ld (lnC a0) (h a0) (x4 - 1) fun v25 => sto (lnC a0) h a0 x4 (rm ((x2 * v17) + (x3 * v25))) fun h32 => self a0 x2 x3 (x4 + (-1)) h32) else (ld (lnC a0) (h a0) 0 fun v44 => sto (lnC a0) h a0 0 (rm (x2 * v44)) fun h50 => some (0, h50))
def LX2_timesLine_5 : Nat → Nat → Int → Int → Int → HP → Option (Int × HP)
  | 0 => fun _ _ _ _ _ => none
  | n + 1 => bX2_timesLine_5 (LX2_timesLine_5 n)
set_option maxRecDepth 20000 in
theorem tX2_timesLine_5 {l : Launch} {D : va_G} {ad : Nat → Nat} {cI cR : ClassId} {Z : Int × HP} : ∀ (n : Nat) (a0 : Nat) (x2 : Int) (x3 : Int) (x4 : Int) (h : HP), isArr a0 = true → LX2_timesLine_5 n a0 x2 x3 x4 h = some Z → Rn (sdC l D ad cI cR) mX2_timesLine (rv Z) 5 [(0, .ref (ad a0)), (2, vi x2), (3, vi x3), (4, vi x4)] [] h := by
  intro n
  induction n with
  | zero => intro a0 x2 x3 x4 h ha0 hf; cases hf
  | succ n ih =>
    intro a0 x2 x3 x4 h ha0 hf
    replace hf : bX2_timesLine_5 (LX2_timesLine_5 n) a0 x2 x3 x4 h = some Z := hf
    unfold bX2_timesLine_5 at hf
    refine q_iload dX2_timesLine_5 3 rfl ?_
    refine q_if_le hf dX2_timesLine_7 39 (by decide) (fun hf => ?_) (fun hf => ?_)
    · refine q_aloadn dX2_timesLine_39 0 rfl ?_
      refine q_iconst dX2_timesLine_40 ?_
      refine q_iloadn dX2_timesLine_41 1 rfl ?_
      refine q_aloadn dX2_timesLine_42 0 rfl ?_
      refine q_iconst dX2_timesLine_43 ?_
      refine C_ld hf dX2_timesLine_44 (fun v44 hf => ?_)
      refine q_imul dX2_timesLine_45 ?_
      refine q_sipush dX2_timesLine_46 (by decide) ?_
      refine q_irmP dX2_timesLine_49 ?_
      refine C_st hf dX2_timesLine_50 (fun h50 hf => ?_)
      exact q_vret hf rfl dX2_timesLine_51
    · refine q_aloadn dX2_timesLine_10 0 rfl ?_
      refine q_iload dX2_timesLine_11 3 rfl ?_
      refine q_iloadn dX2_timesLine_13 1 rfl ?_
      refine q_aloadn dX2_timesLine_14 0 rfl ?_
      refine q_iload dX2_timesLine_15 3 rfl ?_
      refine C_ld hf dX2_timesLine_17 (fun v17 hf => ?_)
      refine q_imul dX2_timesLine_18 ?_
      refine q_iloadn dX2_timesLine_19 2 rfl ?_
      refine q_aloadn dX2_timesLine_20 0 rfl ?_
      refine q_iload dX2_timesLine_21 3 rfl ?_
      refine q_iconst dX2_timesLine_23 ?_
      refine q_isub dX2_timesLine_24 ?_
      refine C_ld hf dX2_timesLine_25 (fun v25 hf => ?_)
      refine q_imul dX2_timesLine_26 ?_
      refine q_iadd dX2_timesLine_27 ?_
      refine q_sipush dX2_timesLine_28 (by decide) ?_
      refine q_irmP dX2_timesLine_31 ?_
      refine C_st hf dX2_timesLine_32 (fun h32 hf => ?_)
      refine q_iinc dX2_timesLine_33 3 rfl rfl (loc' := [(4, vi (x4 + (-1))), (0, .ref (ad a0)), (2, vi x2), (3, vi x3)]) rfl ?_
      refine q_goto dX2_timesLine_36 5 (by decide) ?_
      refine q_loc (loc' := [(0, .ref (ad a0)), (2, vi x2), (3, vi x3), (4, vi (x4 + (-1)))]) [1, 2, 3, 0] rfl ?_
      exact ih a0 x2 x3 (x4 + (-1)) h32 ha0 hf
def fX2_timesLine (a0 : Nat) (x1 : Int) (x2 : Int) (x3 : Int) (h : HP) : Option (Int × HP) :=
  lt (x1 + 1) fun x4_3 => LX2_timesLine_5 FU a0 x2 x3 x4_3 h
set_option maxRecDepth 20000 in
theorem ctX2_timesLine {l : Launch} {D : va_G} {ad : Nat → Nat} {cI cR : ClassId} {a0 : Nat} {x1 : Int} {x2 : Int} {x3 : Int} {h : HP} {Z : Int × HP} (ha0 : isArr a0 = true) (hf : fX2_timesLine a0 x1 x2 x3 h = some Z) : Ct (sdC l D ad cI cR) mX2_timesLine [.ref (ad a0), vi x1, vi x2, vi x3] h (rv Z) := by
  refine Ct.ofF nX2_timesLine rfl (loc := [(0, .ref (ad a0)), (1, vi x1), (2, vi x2), (3, vi x3)]) rfl ?_
  unfold fX2_timesLine at hf
  refine q_iloadn dX2_timesLine_0 1 rfl ?_
  refine q_iconst dX2_timesLine_1 ?_
  refine q_iadd dX2_timesLine_2 ?_
  refine q_lt hf (fun x4_3 hf => ?_)
  refine q_istore dX2_timesLine_3 rfl (loc' := [(4, vi x4_3), (0, .ref (ad a0)), (1, vi x1), (2, vi x2), (3, vi x3)]) rfl ?_
  refine q_loc (loc' := [(0, .ref (ad a0)), (2, vi x2), (3, vi x3), (4, vi x4_3)]) [1, 3, 4, 0] rfl ?_
  exact tX2_timesLine_5 FU a0 x2 x3 x4_3 h ha0 hf
def bX2_addPower_6 (self : Nat → Int → Int → Int → Int → HP → Option (Int × HP)) (a0 : Nat) (x1 : Int) (x2 : Int) (x4 : Int) (x5 : Int) (h : HP) : Option (Int × HP) :=
  if wi x5 ≤ wi x1 then (ld (lnC a0) (h a0) x5 fun v18 => cl (fX1_choose x1 x5 h) fun r24 h24 => sto (lnC a0) h24 a0 x5 (rm (v18 + (x4 * r24))) fun h33 => lt (rm (x4 * x2)) fun x4_42 => self a0 x1 x2 x4_42 (x5 + 1) h33) else (some (0, h))
def LX2_addPower_6 : Nat → Nat → Int → Int → Int → Int → HP → Option (Int × HP)
  | 0 => fun _ _ _ _ _ _ => none
  | n + 1 => bX2_addPower_6 (LX2_addPower_6 n)
set_option maxRecDepth 20000 in
theorem tX2_addPower_6 {l : Launch} {D : va_G} {ad : Nat → Nat} {cI cR : ClassId} {Z : Int × HP} : ∀ (n : Nat) (a0 : Nat) (x1 : Int) (x2 : Int) (x4 : Int) (x5 : Int) (h : HP), isArr a0 = true → LX2_addPower_6 n a0 x1 x2 x4 x5 h = some Z → Rn (sdC l D ad cI cR) mX2_addPower (rv Z) 6 [(0, .ref (ad a0)), (1, vi x1), (2, vi x2), (4, vi x4), (5, vi x5)] [] h := by
  intro n
  induction n with
  | zero => intro a0 x1 x2 x4 x5 h ha0 hf; cases hf
  | succ n ih =>
    intro a0 x1 x2 x4 x5 h ha0 hf
    replace hf : bX2_addPower_6 (LX2_addPower_6 n) a0 x1 x2 x4 x5 h = some Z := hf
    unfold bX2_addPower_6 at hf
    refine q_iload dX2_addPower_6 4 rfl ?_
    refine q_iloadn dX2_addPower_8 1 rfl ?_
    refine q_icmp_gt hf dX2_addPower_9 50 (by decide) (fun hf => ?_) (fun hf => ?_)
    · exact q_vret hf rfl dX2_addPower_50
    · refine q_aloadn dX2_addPower_12 0 rfl ?_
      refine q_iload dX2_addPower_13 4 rfl ?_
      refine q_aloadn dX2_addPower_15 0 rfl ?_
      refine q_iload dX2_addPower_16 4 rfl ?_
      refine C_ld hf dX2_addPower_18 (fun v18 hf => ?_)
      refine q_iload dX2_addPower_19 3 rfl ?_
      refine q_iloadn dX2_addPower_21 1 rfl ?_
      refine q_iload dX2_addPower_22 4 rfl ?_
      obtain ⟨r24, h24, e24, hf⟩ := q_cl hf
      refine q_cSi (av := [vi x1, vi x5]) (rest := [vi x4, vi v18, vi x5, .ref (ad a0)]) (ctX1_choose e24) kX1_choose uX1_choose lkX2_9 rfl rfl rfl dX2_addPower_24 ?_
      refine q_imul dX2_addPower_27 ?_
      refine q_iadd dX2_addPower_28 ?_
      refine q_sipush dX2_addPower_29 (by decide) ?_
      refine q_irmP dX2_addPower_32 ?_
      refine C_st hf dX2_addPower_33 (fun h33 hf => ?_)
      refine q_iload dX2_addPower_34 3 rfl ?_
      refine q_iloadn dX2_addPower_36 2 rfl ?_
      refine q_imul dX2_addPower_37 ?_
      refine q_sipush dX2_addPower_38 (by decide) ?_
      refine q_irmP dX2_addPower_41 ?_
      refine q_lt hf (fun x4_42 hf => ?_)
      refine q_istore dX2_addPower_42 rfl (loc' := [(4, vi x4_42), (0, .ref (ad a0)), (1, vi x1), (2, vi x2), (5, vi x5)]) rfl ?_
      refine q_iinc dX2_addPower_44 4 rfl rfl (loc' := [(5, vi (x5 + 1)), (4, vi x4_42), (0, .ref (ad a0)), (1, vi x1), (2, vi x2)]) rfl ?_
      refine q_goto dX2_addPower_47 6 (by decide) ?_
      refine q_loc (loc' := [(0, .ref (ad a0)), (1, vi x1), (2, vi x2), (4, vi x4_42), (5, vi (x5 + 1))]) [2, 3, 4, 1, 0] rfl ?_
      exact ih a0 x1 x2 x4_42 (x5 + 1) h33 ha0 hf
def fX2_addPower (a0 : Nat) (x1 : Int) (x2 : Int) (x3 : Int) (h : HP) : Option (Int × HP) :=
  LX2_addPower_6 FU a0 x1 x2 x3 0 h
set_option maxRecDepth 20000 in
theorem ctX2_addPower {l : Launch} {D : va_G} {ad : Nat → Nat} {cI cR : ClassId} {a0 : Nat} {x1 : Int} {x2 : Int} {x3 : Int} {h : HP} {Z : Int × HP} (ha0 : isArr a0 = true) (hf : fX2_addPower a0 x1 x2 x3 h = some Z) : Ct (sdC l D ad cI cR) mX2_addPower [.ref (ad a0), vi x1, vi x2, vi x3] h (rv Z) := by
  refine Ct.ofF nX2_addPower rfl (loc := [(0, .ref (ad a0)), (1, vi x1), (2, vi x2), (3, vi x3)]) rfl ?_
  unfold fX2_addPower at hf
  refine q_iloadn dX2_addPower_0 3 rfl ?_
  refine q_istore dX2_addPower_1 rfl (loc' := [(4, vi x3), (0, .ref (ad a0)), (1, vi x1), (2, vi x2), (3, vi x3)]) rfl ?_
  refine q_iconst dX2_addPower_3 ?_
  refine q_istore dX2_addPower_4 rfl (loc' := [(5, vi 0), (4, vi x3), (0, .ref (ad a0)), (1, vi x1), (2, vi x2), (3, vi x3)]) rfl ?_
  refine q_loc (loc' := [(0, .ref (ad a0)), (1, vi x1), (2, vi x2), (4, vi x3), (5, vi 0)]) [2, 3, 4, 1, 0] rfl ?_
  exact tX2_addPower_6 FU a0 x1 x2 x3 0 h ha0 hf
def bX2_divideByChoices_2 (self : Nat → Int → Int → HP → Option (Int × HP)) (a0 : Nat) (x1 : Int) (x2 : Int) (h : HP) : Option (Int × HP) :=
  if wi x2 ≤ wi x1 then (ld (lnC a0) (h a0) x2 fun v11 => cl (fX1_choose x1 x2 h) fun r14 h14 => cl (fX1_inverse r14 h14) fun r17 h17 => sto (lnC a0) h17 a0 x2 (rm (v11 * r17)) fun h25 => self a0 x1 (x2 + 1) h25) else (some (0, h))
def LX2_divideByChoices_2 : Nat → Nat → Int → Int → HP → Option (Int × HP)
  | 0 => fun _ _ _ _ => none
  | n + 1 => bX2_divideByChoices_2 (LX2_divideByChoices_2 n)
set_option maxRecDepth 20000 in
theorem tX2_divideByChoices_2 {l : Launch} {D : va_G} {ad : Nat → Nat} {cI cR : ClassId} {Z : Int × HP} : ∀ (n : Nat) (a0 : Nat) (x1 : Int) (x2 : Int) (h : HP), isArr a0 = true → LX2_divideByChoices_2 n a0 x1 x2 h = some Z → Rn (sdC l D ad cI cR) mX2_divideByChoices (rv Z) 2 [(0, .ref (ad a0)), (1, vi x1), (2, vi x2)] [] h := by
  intro n
  induction n with
  | zero => intro a0 x1 x2 h ha0 hf; cases hf
  | succ n ih =>
    intro a0 x1 x2 h ha0 hf
    replace hf : bX2_divideByChoices_2 (LX2_divideByChoices_2 n) a0 x1 x2 h = some Z := hf
    unfold bX2_divideByChoices_2 at hf
    refine q_iloadn dX2_divideByChoices_2 2 rfl ?_
    refine q_iloadn dX2_divideByChoices_3 1 rfl ?_
    refine q_icmp_gt hf dX2_divideByChoices_4 32 (by decide) (fun hf => ?_) (fun hf => ?_)
    · exact q_vret hf rfl dX2_divideByChoices_32
    · refine q_aloadn dX2_divideByChoices_7 0 rfl ?_
      refine q_iloadn dX2_divideByChoices_8 2 rfl ?_
      refine q_aloadn dX2_divideByChoices_9 0 rfl ?_
      refine q_iloadn dX2_divideByChoices_10 2 rfl ?_
      refine C_ld hf dX2_divideByChoices_11 (fun v11 hf => ?_)
      refine q_iloadn dX2_divideByChoices_12 1 rfl ?_
      refine q_iloadn dX2_divideByChoices_13 2 rfl ?_
      obtain ⟨r14, h14, e14, hf⟩ := q_cl hf
      refine q_cSi (av := [vi x1, vi x2]) (rest := [vi v11, vi x2, .ref (ad a0)]) (ctX1_choose e14) kX1_choose uX1_choose lkX2_9 rfl rfl rfl dX2_divideByChoices_14 ?_
      obtain ⟨r17, h17, e17, hf⟩ := q_cl hf
      refine q_cSi (av := [vi r14]) (rest := [vi v11, vi x2, .ref (ad a0)]) (ctX1_inverse e17) kX1_inverse uX1_inverse lkX2_15 rfl rfl rfl dX2_divideByChoices_17 ?_
      refine q_imul dX2_divideByChoices_20 ?_
      refine q_sipush dX2_divideByChoices_21 (by decide) ?_
      refine q_irmP dX2_divideByChoices_24 ?_
      refine C_st hf dX2_divideByChoices_25 (fun h25 hf => ?_)
      refine q_iinc dX2_divideByChoices_26 2 rfl rfl (loc' := [(2, vi (x2 + 1)), (0, .ref (ad a0)), (1, vi x1)]) rfl ?_
      refine q_goto dX2_divideByChoices_29 2 (by decide) ?_
      refine q_loc (loc' := [(0, .ref (ad a0)), (1, vi x1), (2, vi (x2 + 1))]) [1, 2, 0] rfl ?_
      exact ih a0 x1 (x2 + 1) h25 ha0 hf
def fX2_divideByChoices (a0 : Nat) (x1 : Int) (h : HP) : Option (Int × HP) :=
  LX2_divideByChoices_2 FU a0 x1 0 h
set_option maxRecDepth 20000 in
theorem ctX2_divideByChoices {l : Launch} {D : va_G} {ad : Nat → Nat} {cI cR : ClassId} {a0 : Nat} {x1 : Int} {h : HP} {Z : Int × HP} (ha0 : isArr a0 = true) (hf : fX2_divideByChoices a0 x1 h = some Z) : Ct (sdC l D ad cI cR) mX2_divideByChoices [.ref (ad a0), vi x1] h (rv Z) := by
  refine Ct.ofF nX2_divideByChoices rfl (loc := [(0, .ref (ad a0)), (1, vi x1)]) rfl ?_
  unfold fX2_divideByChoices at hf
  refine q_iconst dX2_divideByChoices_0 ?_
  refine q_istoren dX2_divideByChoices_1 rfl (loc' := [(2, vi 0), (0, .ref (ad a0)), (1, vi x1)]) rfl ?_
  refine q_loc (loc' := [(0, .ref (ad a0)), (1, vi x1), (2, vi 0)]) [1, 2, 0] rfl ?_
  exact tX2_divideByChoices_2 FU a0 x1 0 h ha0 hf
def bX2_changeByX_2 (self : Nat → Int → Int → HP → Option (Int × HP)) (a0 : Nat) (x1 : Int) (x2 : Int) (h : HP) : Option (Int × HP) :=
  if wi x2 ≤ wi x1 then (ld (lnC a0) (h a0) x2 fun v11 => sto (lnC a0) h a0 x2 (rm (v11 * (x1 - x2))) fun h20 => self a0 x1 (x2 + 1) h20) else (some (0, h))
def LX2_changeByX_2 : Nat → Nat → Int → Int → HP → Option (Int × HP)
  | 0 => fun _ _ _ _ => none
  | n + 1 => bX2_changeByX_2 (LX2_changeByX_2 n)
set_option maxRecDepth 20000 in
theorem tX2_changeByX_2 {l : Launch} {D : va_G} {ad : Nat → Nat} {cI cR : ClassId} {Z : Int × HP} : ∀ (n : Nat) (a0 : Nat) (x1 : Int) (x2 : Int) (h : HP), isArr a0 = true → LX2_changeByX_2 n a0 x1 x2 h = some Z → Rn (sdC l D ad cI cR) mX2_changeByX (rv Z) 2 [(0, .ref (ad a0)), (1, vi x1), (2, vi x2)] [] h := by
  intro n
  induction n with
  | zero => intro a0 x1 x2 h ha0 hf; cases hf
  | succ n ih =>
    intro a0 x1 x2 h ha0 hf
    replace hf : bX2_changeByX_2 (LX2_changeByX_2 n) a0 x1 x2 h = some Z := hf
    unfold bX2_changeByX_2 at hf
    refine q_iloadn dX2_changeByX_2 2 rfl ?_
    refine q_iloadn dX2_changeByX_3 1 rfl ?_
    refine q_icmp_gt hf dX2_changeByX_4 27 (by decide) (fun hf => ?_) (fun hf => ?_)
    · exact q_vret hf rfl dX2_changeByX_27
    · refine q_aloadn dX2_changeByX_7 0 rfl ?_
      refine q_iloadn dX2_changeByX_8 2 rfl ?_
      refine q_aloadn dX2_changeByX_9 0 rfl ?_
      refine q_iloadn dX2_changeByX_10 2 rfl ?_
      refine C_ld hf dX2_changeByX_11 (fun v11 hf => ?_)
      refine q_iloadn dX2_changeByX_12 1 rfl ?_
      refine q_iloadn dX2_changeByX_13 2 rfl ?_
      refine q_isub dX2_changeByX_14 ?_
      refine q_imul dX2_changeByX_15 ?_
      refine q_sipush dX2_changeByX_16 (by decide) ?_
      refine q_irmP dX2_changeByX_19 ?_
      refine C_st hf dX2_changeByX_20 (fun h20 hf => ?_)
      refine q_iinc dX2_changeByX_21 2 rfl rfl (loc' := [(2, vi (x2 + 1)), (0, .ref (ad a0)), (1, vi x1)]) rfl ?_
      refine q_goto dX2_changeByX_24 2 (by decide) ?_
      refine q_loc (loc' := [(0, .ref (ad a0)), (1, vi x1), (2, vi (x2 + 1))]) [1, 2, 0] rfl ?_
      exact ih a0 x1 (x2 + 1) h20 ha0 hf
def fX2_changeByX (a0 : Nat) (x1 : Int) (h : HP) : Option (Int × HP) :=
  LX2_changeByX_2 FU a0 x1 0 h
set_option maxRecDepth 20000 in
theorem ctX2_changeByX {l : Launch} {D : va_G} {ad : Nat → Nat} {cI cR : ClassId} {a0 : Nat} {x1 : Int} {h : HP} {Z : Int × HP} (ha0 : isArr a0 = true) (hf : fX2_changeByX a0 x1 h = some Z) : Ct (sdC l D ad cI cR) mX2_changeByX [.ref (ad a0), vi x1] h (rv Z) := by
  refine Ct.ofF nX2_changeByX rfl (loc := [(0, .ref (ad a0)), (1, vi x1)]) rfl ?_
  unfold fX2_changeByX at hf
  refine q_iconst dX2_changeByX_0 ?_
  refine q_istoren dX2_changeByX_1 rfl (loc' := [(2, vi 0), (0, .ref (ad a0)), (1, vi x1)]) rfl ?_
  refine q_loc (loc' := [(0, .ref (ad a0)), (1, vi x1), (2, vi 0)]) [1, 2, 0] rfl ?_
  exact tX2_changeByX_2 FU a0 x1 0 h ha0 hf
def bX2_changeByY_2 (self : Nat → Int → Int → HP → Option (Int × HP)) (a0 : Nat) (x1 : Int) (x2 : Int) (h : HP) : Option (Int × HP) :=
  if wi x2 ≤ wi x1 then (ld (lnC a0) (h a0) x2 fun v13 => sto (lnC a0) h a0 (x2 - 1) (rm (v13 * x2)) fun h20 => self a0 x1 (x2 + 1) h20) else (if 0 ≤ wi x1 then (sto (lnC a0) h a0 x1 0 fun h34 => some (0, h34)) else (some (0, h)))
def LX2_changeByY_2 : Nat → Nat → Int → Int → HP → Option (Int × HP)
  | 0 => fun _ _ _ _ => none
  | n + 1 => bX2_changeByY_2 (LX2_changeByY_2 n)
set_option maxRecDepth 20000 in
theorem tX2_changeByY_2 {l : Launch} {D : va_G} {ad : Nat → Nat} {cI cR : ClassId} {Z : Int × HP} : ∀ (n : Nat) (a0 : Nat) (x1 : Int) (x2 : Int) (h : HP), isArr a0 = true → LX2_changeByY_2 n a0 x1 x2 h = some Z → Rn (sdC l D ad cI cR) mX2_changeByY (rv Z) 2 [(0, .ref (ad a0)), (1, vi x1), (2, vi x2)] [] h := by
  intro n
  induction n with
  | zero => intro a0 x1 x2 h ha0 hf; cases hf
  | succ n ih =>
    intro a0 x1 x2 h ha0 hf
    replace hf : bX2_changeByY_2 (LX2_changeByY_2 n) a0 x1 x2 h = some Z := hf
    unfold bX2_changeByY_2 at hf
    refine q_iloadn dX2_changeByY_2 2 rfl ?_
    refine q_iloadn dX2_changeByY_3 1 rfl ?_
    refine q_icmp_gt hf dX2_changeByY_4 27 (by decide) (fun hf => ?_) (fun hf => ?_)
    · refine q_iloadn dX2_changeByY_27 1 rfl ?_
      refine q_if_lt hf dX2_changeByY_28 35 (by decide) (fun hf => ?_) (fun hf => ?_)
      · exact q_vret hf rfl dX2_changeByY_35
      · refine q_aloadn dX2_changeByY_31 0 rfl ?_
        refine q_iloadn dX2_changeByY_32 1 rfl ?_
        refine q_iconst dX2_changeByY_33 ?_
        refine C_st hf dX2_changeByY_34 (fun h34 hf => ?_)
        exact q_vret hf rfl dX2_changeByY_35
    · refine q_aloadn dX2_changeByY_7 0 rfl ?_
      refine q_iloadn dX2_changeByY_8 2 rfl ?_
      refine q_iconst dX2_changeByY_9 ?_
      refine q_isub dX2_changeByY_10 ?_
      refine q_aloadn dX2_changeByY_11 0 rfl ?_
      refine q_iloadn dX2_changeByY_12 2 rfl ?_
      refine C_ld hf dX2_changeByY_13 (fun v13 hf => ?_)
      refine q_iloadn dX2_changeByY_14 2 rfl ?_
      refine q_imul dX2_changeByY_15 ?_
      refine q_sipush dX2_changeByY_16 (by decide) ?_
      refine q_irmP dX2_changeByY_19 ?_
      refine C_st hf dX2_changeByY_20 (fun h20 hf => ?_)
      refine q_iinc dX2_changeByY_21 2 rfl rfl (loc' := [(2, vi (x2 + 1)), (0, .ref (ad a0)), (1, vi x1)]) rfl ?_
      refine q_goto dX2_changeByY_24 2 (by decide) ?_
      refine q_loc (loc' := [(0, .ref (ad a0)), (1, vi x1), (2, vi (x2 + 1))]) [1, 2, 0] rfl ?_
      exact ih a0 x1 (x2 + 1) h20 ha0 hf
def fX2_changeByY (a0 : Nat) (x1 : Int) (h : HP) : Option (Int × HP) :=
  LX2_changeByY_2 FU a0 x1 1 h
set_option maxRecDepth 20000 in
theorem ctX2_changeByY {l : Launch} {D : va_G} {ad : Nat → Nat} {cI cR : ClassId} {a0 : Nat} {x1 : Int} {h : HP} {Z : Int × HP} (ha0 : isArr a0 = true) (hf : fX2_changeByY a0 x1 h = some Z) : Ct (sdC l D ad cI cR) mX2_changeByY [.ref (ad a0), vi x1] h (rv Z) := by
  refine Ct.ofF nX2_changeByY rfl (loc := [(0, .ref (ad a0)), (1, vi x1)]) rfl ?_
  unfold fX2_changeByY at hf
  refine q_iconst dX2_changeByY_0 ?_
  refine q_istoren dX2_changeByY_1 rfl (loc' := [(2, vi 1), (0, .ref (ad a0)), (1, vi x1)]) rfl ?_
  refine q_loc (loc' := [(0, .ref (ad a0)), (1, vi x1), (2, vi 1)]) [1, 2, 0] rfl ?_
  exact tX2_changeByY_2 FU a0 x1 1 h ha0 hf
def bX2_changed_67 (self : Int → Nat → Int → Int → HP → Option (Int × HP)) (x3 : Int) (a4 : Nat) (x5 : Int) (x6 : Int) (h : HP) : Option (Int × HP) :=
  if wi x6 < wi x3 then (cl (fX2_changeByY a4 x5 h) fun _ h77 => self x3 a4 (x5 + (-1)) (x6 + 1) h77) else (some (0, h))
def LX2_changed_67 : Nat → Int → Nat → Int → Int → HP → Option (Int × HP)
  | 0 => fun _ _ _ _ _ => none
  | n + 1 => bX2_changed_67 (LX2_changed_67 n)
set_option maxRecDepth 20000 in
theorem tX2_changed_67 {l : Launch} {D : va_G} {ad : Nat → Nat} {cI cR : ClassId} {Z : Int × HP} : ∀ (n : Nat) (x3 : Int) (a4 : Nat) (x5 : Int) (x6 : Int) (h : HP), isArr a4 = true → LX2_changed_67 n x3 a4 x5 x6 h = some Z → Rn (sdC l D ad cI cR) mX2_changed (rv Z) 67 [(3, vi x3), (4, .ref (ad a4)), (5, vi x5), (6, vi x6)] [] h := by
  intro n
  induction n with
  | zero => intro x3 a4 x5 x6 h ha4 hf; cases hf
  | succ n ih =>
    intro x3 a4 x5 x6 h ha4 hf
    replace hf : bX2_changed_67 (LX2_changed_67 n) x3 a4 x5 x6 h = some Z := hf
    unfold bX2_changed_67 at hf
    refine q_iload dX2_changed_67 3 rfl ?_
    refine q_iloadn dX2_changed_69 0 rfl ?_
    refine q_icmp_ge hf dX2_changed_70 89 (by decide) (fun hf => ?_) (fun hf => ?_)
    · exact q_vret hf rfl dX2_changed_89
    · refine q_aload dX2_changed_73 1 rfl ?_
      refine q_iload dX2_changed_75 2 rfl ?_
      obtain ⟨r77, h77, e77, hf⟩ := q_cl hf
      refine q_cSv (av := [.ref (ad a4), vi x5]) (rest := []) (ctX2_changeByY ha4 e77) kX2_changeByY uX2_changeByY lkX2_25 rfl rfl rfl dX2_changed_77 ?_
      refine q_iinc dX2_changed_80 2 rfl rfl (loc' := [(5, vi (x5 + (-1))), (3, vi x3), (4, .ref (ad a4)), (6, vi x6)]) rfl ?_
      refine q_iinc dX2_changed_83 3 rfl rfl (loc' := [(6, vi (x6 + 1)), (5, vi (x5 + (-1))), (3, vi x3), (4, .ref (ad a4))]) rfl ?_
      refine q_goto dX2_changed_86 67 (by decide) ?_
      refine q_loc (loc' := [(3, vi x3), (4, .ref (ad a4)), (5, vi (x5 + (-1))), (6, vi (x6 + 1))]) [2, 3, 1, 0] rfl ?_
      exact ih x3 a4 (x5 + (-1)) (x6 + 1) h77 ha4 hf
def bX2_changed_42 (self : Int → Int → Nat → Int → Int → HP → Option (Int × HP)) (x2 : Int) (x3 : Int) (a4 : Nat) (x5 : Int) (x6 : Int) (h : HP) : Option (Int × HP) :=
  if wi x6 < wi x2 then (cl (fX2_changeByX a4 x5 h) fun _ h52 => self x2 x3 a4 (x5 + (-1)) (x6 + 1) h52) else (LX2_changed_67 FU x3 a4 x5 0 h)
def LX2_changed_42 : Nat → Int → Int → Nat → Int → Int → HP → Option (Int × HP)
  | 0 => fun _ _ _ _ _ _ => none
  | n + 1 => bX2_changed_42 (LX2_changed_42 n)
set_option maxRecDepth 20000 in
theorem tX2_changed_42 {l : Launch} {D : va_G} {ad : Nat → Nat} {cI cR : ClassId} {Z : Int × HP} : ∀ (n : Nat) (x2 : Int) (x3 : Int) (a4 : Nat) (x5 : Int) (x6 : Int) (h : HP), isArr a4 = true → LX2_changed_42 n x2 x3 a4 x5 x6 h = some Z → Rn (sdC l D ad cI cR) mX2_changed (rv Z) 42 [(2, vi x2), (3, vi x3), (4, .ref (ad a4)), (5, vi x5), (6, vi x6)] [] h := by
  intro n
  induction n with
  | zero => intro x2 x3 a4 x5 x6 h ha4 hf; cases hf
  | succ n ih =>
    intro x2 x3 a4 x5 x6 h ha4 hf
    replace hf : bX2_changed_42 (LX2_changed_42 n) x2 x3 a4 x5 x6 h = some Z := hf
    unfold bX2_changed_42 at hf
    refine q_iload dX2_changed_42 4 rfl ?_
    refine q_iloadn dX2_changed_44 0 rfl ?_
    refine q_icmp_ge hf dX2_changed_45 64 (by decide) (fun hf => ?_) (fun hf => ?_)
    · refine q_iconst dX2_changed_64 ?_
      refine q_istore dX2_changed_65 rfl (loc' := [(6, vi 0), (2, vi x2), (3, vi x3), (4, .ref (ad a4)), (5, vi x5)]) rfl ?_
      refine q_loc (loc' := [(3, vi x3), (4, .ref (ad a4)), (5, vi x5), (6, vi 0)]) [2, 3, 4, 0] rfl ?_
      exact tX2_changed_67 FU x3 a4 x5 0 h ha4 hf
    · refine q_aload dX2_changed_48 2 rfl ?_
      refine q_iload dX2_changed_50 3 rfl ?_
      obtain ⟨r52, h52, e52, hf⟩ := q_cl hf
      refine q_cSv (av := [.ref (ad a4), vi x5]) (rest := []) (ctX2_changeByX ha4 e52) kX2_changeByX uX2_changeByX lkX2_19 rfl rfl rfl dX2_changed_52 ?_
      refine q_iinc dX2_changed_55 3 rfl rfl (loc' := [(5, vi (x5 + (-1))), (2, vi x2), (3, vi x3), (4, .ref (ad a4)), (6, vi x6)]) rfl ?_
      refine q_iinc dX2_changed_58 4 rfl rfl (loc' := [(6, vi (x6 + 1)), (5, vi (x5 + (-1))), (2, vi x2), (3, vi x3), (4, .ref (ad a4))]) rfl ?_
      refine q_goto dX2_changed_61 42 (by decide) ?_
      refine q_loc (loc' := [(2, vi x2), (3, vi x3), (4, .ref (ad a4)), (5, vi (x5 + (-1))), (6, vi (x6 + 1))]) [2, 3, 4, 1, 0] rfl ?_
      exact ih x2 x3 a4 (x5 + (-1)) (x6 + 1) h52 ha4 hf
def bX2_changed_3 (self : Nat → Int → Int → Int → Nat → Int → HP → Option (Int × HP)) (a0 : Nat) (x1 : Int) (x2 : Int) (x3 : Int) (a4 : Nat) (x5 : Int) (h : HP) : Option (Int × HP) :=
  if wi x5 < wi (((lnC a4 : Nat) : Int)) then (if wi x5 ≤ wi x1 then (ld (lnC a0) (h a0) x5 fun v24 => sto (lnC a4) h a4 x5 v24 fun h29 => self a0 x1 x2 x3 a4 (x5 + 1) h29) else (sto (lnC a4) h a4 x5 0 fun h29 => self a0 x1 x2 x3 a4 (x5 + 1) h29)) else (LX2_changed_42 FU x2 x3 a4 x1 0 h)
def LX2_changed_3 : Nat → Nat → Int → Int → Int → Nat → Int → HP → Option (Int × HP)
  | 0 => fun _ _ _ _ _ _ _ => none
  | n + 1 => bX2_changed_3 (LX2_changed_3 n)
set_option maxRecDepth 20000 in
theorem tX2_changed_3 {l : Launch} {D : va_G} {ad : Nat → Nat} {cI cR : ClassId} {Z : Int × HP} : ∀ (n : Nat) (a0 : Nat) (x1 : Int) (x2 : Int) (x3 : Int) (a4 : Nat) (x5 : Int) (h : HP), isArr a0 = true → isArr a4 = true → LX2_changed_3 n a0 x1 x2 x3 a4 x5 h = some Z → Rn (sdC l D ad cI cR) mX2_changed (rv Z) 3 [(0, .ref (ad a0)), (1, vi x1), (2, vi x2), (3, vi x3), (4, .ref (ad a4)), (5, vi x5)] [] h := by
  intro n
  induction n with
  | zero => intro a0 x1 x2 x3 a4 x5 h ha0 ha4 hf; cases hf
  | succ n ih =>
    intro a0 x1 x2 x3 a4 x5 h ha0 ha4 hf
    replace hf : bX2_changed_3 (LX2_changed_3 n) a0 x1 x2 x3 a4 x5 h = some Z := hf
    unfold bX2_changed_3 at hf
    refine q_iload dX2_changed_3 5 rfl ?_
    refine q_aload dX2_changed_5 4 rfl ?_
    refine C_alen ha4 dX2_changed_7 ?_
    refine q_icmp_ge hf dX2_changed_8 36 (by decide) (fun hf => ?_) (fun hf => ?_)
    · refine q_iloadn dX2_changed_36 1 rfl ?_
      refine q_istore dX2_changed_37 rfl (loc' := [(5, vi x1), (0, .ref (ad a0)), (1, vi x1), (2, vi x2), (3, vi x3), (4, .ref (ad a4))]) rfl ?_
      refine q_iconst dX2_changed_39 ?_
      refine q_istore dX2_changed_40 rfl (loc' := [(6, vi 0), (5, vi x1), (0, .ref (ad a0)), (1, vi x1), (2, vi x2), (3, vi x3), (4, .ref (ad a4))]) rfl ?_
      refine q_loc (loc' := [(2, vi x2), (3, vi x3), (4, .ref (ad a4)), (5, vi x1), (6, vi 0)]) [4, 5, 6, 1, 0] rfl ?_
      exact tX2_changed_42 FU x2 x3 a4 x1 0 h ha4 hf
    · refine q_aload dX2_changed_11 4 rfl ?_
      refine q_iload dX2_changed_13 5 rfl ?_
      refine q_iload dX2_changed_15 5 rfl ?_
      refine q_iloadn dX2_changed_17 1 rfl ?_
      refine q_icmp_gt hf dX2_changed_18 28 (by decide) (fun hf => ?_) (fun hf => ?_)
      · refine q_iconst dX2_changed_28 ?_
        refine C_st hf dX2_changed_29 (fun h29 hf => ?_)
        refine q_iinc dX2_changed_30 5 rfl rfl (loc' := [(5, vi (x5 + 1)), (0, .ref (ad a0)), (1, vi x1), (2, vi x2), (3, vi x3), (4, .ref (ad a4))]) rfl ?_
        refine q_goto dX2_changed_33 3 (by decide) ?_
        refine q_loc (loc' := [(0, .ref (ad a0)), (1, vi x1), (2, vi x2), (3, vi x3), (4, .ref (ad a4)), (5, vi (x5 + 1))]) [1, 2, 3, 4, 5, 0] rfl ?_
        exact ih a0 x1 x2 x3 a4 (x5 + 1) h29 ha0 ha4 hf
      · refine q_aloadn dX2_changed_21 0 rfl ?_
        refine q_iload dX2_changed_22 5 rfl ?_
        refine C_ld hf dX2_changed_24 (fun v24 hf => ?_)
        refine q_goto dX2_changed_25 29 (by decide) ?_
        refine C_st hf dX2_changed_29 (fun h29 hf => ?_)
        refine q_iinc dX2_changed_30 5 rfl rfl (loc' := [(5, vi (x5 + 1)), (0, .ref (ad a0)), (1, vi x1), (2, vi x2), (3, vi x3), (4, .ref (ad a4))]) rfl ?_
        refine q_goto dX2_changed_33 3 (by decide) ?_
        refine q_loc (loc' := [(0, .ref (ad a0)), (1, vi x1), (2, vi x2), (3, vi x3), (4, .ref (ad a4)), (5, vi (x5 + 1))]) [1, 2, 3, 4, 5, 0] rfl ?_
        exact ih a0 x1 x2 x3 a4 (x5 + 1) h29 ha0 ha4 hf
def fX2_changed (a0 : Nat) (x1 : Int) (x2 : Int) (x3 : Int) (a4 : Nat) (h : HP) : Option (Int × HP) :=
  LX2_changed_3 FU a0 x1 x2 x3 a4 0 h
set_option maxRecDepth 20000 in
theorem ctX2_changed {l : Launch} {D : va_G} {ad : Nat → Nat} {cI cR : ClassId} {a0 : Nat} {x1 : Int} {x2 : Int} {x3 : Int} {a4 : Nat} {h : HP} {Z : Int × HP} (ha0 : isArr a0 = true) (ha4 : isArr a4 = true) (hf : fX2_changed a0 x1 x2 x3 a4 h = some Z) : Ct (sdC l D ad cI cR) mX2_changed [.ref (ad a0), vi x1, vi x2, vi x3, .ref (ad a4)] h (rv Z) := by
  refine Ct.ofF nX2_changed rfl (loc := [(0, .ref (ad a0)), (1, vi x1), (2, vi x2), (3, vi x3), (4, .ref (ad a4))]) rfl ?_
  unfold fX2_changed at hf
  refine q_iconst dX2_changed_0 ?_
  refine q_istore dX2_changed_1 rfl (loc' := [(5, vi 0), (0, .ref (ad a0)), (1, vi x1), (2, vi x2), (3, vi x3), (4, .ref (ad a4))]) rfl ?_
  refine q_loc (loc' := [(0, .ref (ad a0)), (1, vi x1), (2, vi x2), (3, vi x3), (4, .ref (ad a4)), (5, vi 0)]) [1, 2, 3, 4, 5, 0] rfl ?_
  exact tX2_changed_3 FU a0 x1 x2 x3 a4 0 h ha0 ha4 hf
def bX2_valueAt_11 (self : Nat → Int → Int → Int → Int → Int → Int → HP → Option (Int × HP)) (a0 : Nat) (x1 : Int) (x2 : Int) (x3 : Int) (x4 : Int) (x5 : Int) (x6 : Int) (h : HP) : Option (Int × HP) :=
  if wi x6 ≤ wi x1 then (lt (rm (x5 * x3)) fun x5_25 => ld (lnC a0) (h a0) x6 fun v34 => lt (rm ((x4 * x2) + (v34 * x5_25))) fun x4_43 => self a0 x1 x2 x3 x4_43 x5_25 (x6 + 1) h) else (some (x4, h))
def LX2_valueAt_11 : Nat → Nat → Int → Int → Int → Int → Int → Int → HP → Option (Int × HP)
  | 0 => fun _ _ _ _ _ _ _ _ => none
  | n + 1 => bX2_valueAt_11 (LX2_valueAt_11 n)
set_option maxRecDepth 20000 in
theorem tX2_valueAt_11 {l : Launch} {D : va_G} {ad : Nat → Nat} {cI cR : ClassId} {Z : Int × HP} : ∀ (n : Nat) (a0 : Nat) (x1 : Int) (x2 : Int) (x3 : Int) (x4 : Int) (x5 : Int) (x6 : Int) (h : HP), isArr a0 = true → LX2_valueAt_11 n a0 x1 x2 x3 x4 x5 x6 h = some Z → Rn (sdC l D ad cI cR) mX2_valueAt (ri Z) 11 [(0, .ref (ad a0)), (1, vi x1), (2, vi x2), (3, vi x3), (4, vi x4), (5, vi x5), (6, vi x6)] [] h := by
  intro n
  induction n with
  | zero => intro a0 x1 x2 x3 x4 x5 x6 h ha0 hf; cases hf
  | succ n ih =>
    intro a0 x1 x2 x3 x4 x5 x6 h ha0 hf
    replace hf : bX2_valueAt_11 (LX2_valueAt_11 n) a0 x1 x2 x3 x4 x5 x6 h = some Z := hf
    unfold bX2_valueAt_11 at hf
    refine q_iload dX2_valueAt_11 6 rfl ?_
    refine q_iloadn dX2_valueAt_13 1 rfl ?_
    refine q_icmp_gt hf dX2_valueAt_14 51 (by decide) (fun hf => ?_) (fun hf => ?_)
    · refine q_iload dX2_valueAt_51 4 rfl ?_
      exact q_iret hf rfl dX2_valueAt_53
    · refine q_iload dX2_valueAt_17 5 rfl ?_
      refine q_iloadn dX2_valueAt_19 3 rfl ?_
      refine q_imul dX2_valueAt_20 ?_
      refine q_sipush dX2_valueAt_21 (by decide) ?_
      refine q_irmP dX2_valueAt_24 ?_
      refine q_lt hf (fun x5_25 hf => ?_)
      refine q_istore dX2_valueAt_25 rfl (loc' := [(5, vi x5_25), (0, .ref (ad a0)), (1, vi x1), (2, vi x2), (3, vi x3), (4, vi x4), (6, vi x6)]) rfl ?_
      refine q_iload dX2_valueAt_27 5 rfl ?_
      refine q_iloadn dX2_valueAt_29 3 rfl ?_
      refine q_imul dX2_valueAt_30 ?_
      refine q_aloadn dX2_valueAt_31 1 rfl ?_
      refine q_iload dX2_valueAt_32 6 rfl ?_
      refine C_ld hf dX2_valueAt_34 (fun v34 hf => ?_)
      refine q_iload dX2_valueAt_35 0 rfl ?_
      refine q_imul dX2_valueAt_37 ?_
      refine q_iadd dX2_valueAt_38 ?_
      refine q_sipush dX2_valueAt_39 (by decide) ?_
      refine q_irmP dX2_valueAt_42 ?_
      refine q_lt hf (fun x4_43 hf => ?_)
      refine q_istore dX2_valueAt_43 rfl (loc' := [(4, vi x4_43), (5, vi x5_25), (0, .ref (ad a0)), (1, vi x1), (2, vi x2), (3, vi x3), (6, vi x6)]) rfl ?_
      refine q_iinc dX2_valueAt_45 6 rfl rfl (loc' := [(6, vi (x6 + 1)), (4, vi x4_43), (5, vi x5_25), (0, .ref (ad a0)), (1, vi x1), (2, vi x2), (3, vi x3)]) rfl ?_
      refine q_goto dX2_valueAt_48 11 (by decide) ?_
      refine q_loc (loc' := [(0, .ref (ad a0)), (1, vi x1), (2, vi x2), (3, vi x3), (4, vi x4_43), (5, vi x5_25), (6, vi (x6 + 1))]) [3, 4, 5, 6, 1, 2, 0] rfl ?_
      exact ih a0 x1 x2 x3 x4_43 x5_25 (x6 + 1) h ha0 hf
def fX2_valueAt (a0 : Nat) (x1 : Int) (x2 : Int) (x3 : Int) (h : HP) : Option (Int × HP) :=
  ld (lnC a0) (h a0) 0 fun v2 => LX2_valueAt_11 FU a0 x1 x2 x3 v2 1 1 h
set_option maxRecDepth 20000 in
theorem ctX2_valueAt {l : Launch} {D : va_G} {ad : Nat → Nat} {cI cR : ClassId} {a0 : Nat} {x1 : Int} {x2 : Int} {x3 : Int} {h : HP} {Z : Int × HP} (ha0 : isArr a0 = true) (hf : fX2_valueAt a0 x1 x2 x3 h = some Z) : Ct (sdC l D ad cI cR) mX2_valueAt [.ref (ad a0), vi x1, vi x2, vi x3] h (ri Z) := by
  refine Ct.ofF nX2_valueAt rfl (loc := [(0, .ref (ad a0)), (1, vi x1), (2, vi x2), (3, vi x3)]) rfl ?_
  unfold fX2_valueAt at hf
  refine q_aloadn dX2_valueAt_0 0 rfl ?_
  refine q_iconst dX2_valueAt_1 ?_
  refine C_ld hf dX2_valueAt_2 (fun v2 hf => ?_)
  refine q_istore dX2_valueAt_3 rfl (loc' := [(4, vi v2), (0, .ref (ad a0)), (1, vi x1), (2, vi x2), (3, vi x3)]) rfl ?_
  refine q_iconst dX2_valueAt_5 ?_
  refine q_istore dX2_valueAt_6 rfl (loc' := [(5, vi 1), (4, vi v2), (0, .ref (ad a0)), (1, vi x1), (2, vi x2), (3, vi x3)]) rfl ?_
  refine q_iconst dX2_valueAt_8 ?_
  refine q_istore dX2_valueAt_9 rfl (loc' := [(6, vi 1), (5, vi 1), (4, vi v2), (0, .ref (ad a0)), (1, vi x1), (2, vi x2), (3, vi x3)]) rfl ?_
  refine q_loc (loc' := [(0, .ref (ad a0)), (1, vi x1), (2, vi x2), (3, vi x3), (4, vi v2), (5, vi 1), (6, vi 1)]) [3, 4, 5, 6, 2, 1, 0] rfl ?_
  exact tX2_valueAt_11 FU a0 x1 x2 x3 v2 1 1 h ha0 hf
def bX2_ratio_47 (self : Nat → Nat → Int → Int → Int → HP → Option (Int × HP)) (a0 : Nat) (a1 : Nat) (x2 : Int) (x3 : Int) (x4 : Int) (h : HP) : Option (Int × HP) :=
  if wi x4 ≤ wi x2 then (ld (lnC a0) (h a0) x4 fun v56 => ld (lnC a1) (h a1) x4 fun v66 => if wi (rm (v56 * x3)) = wi v66 then (self a0 a1 x2 x3 (x4 + 1) h) else (some (0, h))) else (some (x3, h))
def LX2_ratio_47 : Nat → Nat → Nat → Int → Int → Int → HP → Option (Int × HP)
  | 0 => fun _ _ _ _ _ _ => none
  | n + 1 => bX2_ratio_47 (LX2_ratio_47 n)
set_option maxRecDepth 20000 in
theorem tX2_ratio_47 {l : Launch} {D : va_G} {ad : Nat → Nat} {cI cR : ClassId} {Z : Int × HP} : ∀ (n : Nat) (a0 : Nat) (a1 : Nat) (x2 : Int) (x3 : Int) (x4 : Int) (h : HP), isArr a0 = true → isArr a1 = true → LX2_ratio_47 n a0 a1 x2 x3 x4 h = some Z → Rn (sdC l D ad cI cR) mX2_ratio (ri Z) 47 [(0, .ref (ad a0)), (1, .ref (ad a1)), (2, vi x2), (3, vi x3), (4, vi x4)] [] h := by
  intro n
  induction n with
  | zero => intro a0 a1 x2 x3 x4 h ha0 ha1 hf; cases hf
  | succ n ih =>
    intro a0 a1 x2 x3 x4 h ha0 ha1 hf
    replace hf : bX2_ratio_47 (LX2_ratio_47 n) a0 a1 x2 x3 x4 h = some Z := hf
    unfold bX2_ratio_47 at hf
    refine q_iload dX2_ratio_47 4 rfl ?_
    refine q_iloadn dX2_ratio_49 2 rfl ?_
    refine q_icmp_gt hf dX2_ratio_50 78 (by decide) (fun hf => ?_) (fun hf => ?_)
    · refine q_iloadn dX2_ratio_78 3 rfl ?_
      exact q_iret hf rfl dX2_ratio_79
    · refine q_aloadn dX2_ratio_53 0 rfl ?_
      refine q_iload dX2_ratio_54 4 rfl ?_
      refine C_ld hf dX2_ratio_56 (fun v56 hf => ?_)
      refine q_iloadn dX2_ratio_57 3 rfl ?_
      refine q_imul dX2_ratio_58 ?_
      refine q_sipush dX2_ratio_59 (by decide) ?_
      refine q_irmP dX2_ratio_62 ?_
      refine q_aloadn dX2_ratio_63 1 rfl ?_
      refine q_iload dX2_ratio_64 4 rfl ?_
      refine C_ld hf dX2_ratio_66 (fun v66 hf => ?_)
      refine q_icmp_eq hf dX2_ratio_67 72 (by decide) (fun hf => ?_) (fun hf => ?_)
      · refine q_iinc dX2_ratio_72 4 rfl rfl (loc' := [(4, vi (x4 + 1)), (0, .ref (ad a0)), (1, .ref (ad a1)), (2, vi x2), (3, vi x3)]) rfl ?_
        refine q_goto dX2_ratio_75 47 (by decide) ?_
        refine q_loc (loc' := [(0, .ref (ad a0)), (1, .ref (ad a1)), (2, vi x2), (3, vi x3), (4, vi (x4 + 1))]) [1, 2, 3, 4, 0] rfl ?_
        exact ih a0 a1 x2 x3 (x4 + 1) h ha0 ha1 hf
      · refine q_iconst dX2_ratio_70 ?_
        exact q_iret hf rfl dX2_ratio_71
def bX2_ratio_5 (self : Nat → Nat → Int → Int → Int → HP → Option (Int × HP)) (a0 : Nat) (a1 : Nat) (x2 : Int) (x3 : Int) (x4 : Int) (h : HP) : Option (Int × HP) :=
  if wi x4 ≤ wi x2 then (ld (lnC a0) (h a0) x4 fun v14 => if wi v14 = 0 then (self a0 a1 x2 x3 (x4 + 1) h) else (ld (lnC a1) (h a1) x4 fun v21 => ld (lnC a0) (h a0) x4 fun v25 => cl (fX1_inverse v25 h) fun r26 h26 => lt (rm (v21 * r26)) fun x3_34 => LX2_ratio_47 FU a0 a1 x2 x3_34 0 h26)) else (LX2_ratio_47 FU a0 a1 x2 x3 0 h)
def LX2_ratio_5 : Nat → Nat → Nat → Int → Int → Int → HP → Option (Int × HP)
  | 0 => fun _ _ _ _ _ _ => none
  | n + 1 => bX2_ratio_5 (LX2_ratio_5 n)
set_option maxRecDepth 20000 in
theorem tX2_ratio_5 {l : Launch} {D : va_G} {ad : Nat → Nat} {cI cR : ClassId} {Z : Int × HP} : ∀ (n : Nat) (a0 : Nat) (a1 : Nat) (x2 : Int) (x3 : Int) (x4 : Int) (h : HP), isArr a0 = true → isArr a1 = true → LX2_ratio_5 n a0 a1 x2 x3 x4 h = some Z → Rn (sdC l D ad cI cR) mX2_ratio (ri Z) 5 [(0, .ref (ad a0)), (1, .ref (ad a1)), (2, vi x2), (3, vi x3), (4, vi x4)] [] h := by
  intro n
  induction n with
  | zero => intro a0 a1 x2 x3 x4 h ha0 ha1 hf; cases hf
  | succ n ih =>
    intro a0 a1 x2 x3 x4 h ha0 ha1 hf
    replace hf : bX2_ratio_5 (LX2_ratio_5 n) a0 a1 x2 x3 x4 h = some Z := hf
    unfold bX2_ratio_5 at hf
    refine q_iload dX2_ratio_5 4 rfl ?_
    refine q_iloadn dX2_ratio_7 2 rfl ?_
    refine q_icmp_gt hf dX2_ratio_8 44 (by decide) (fun hf => ?_) (fun hf => ?_)
    · refine q_iconst dX2_ratio_44 ?_
      refine q_istore dX2_ratio_45 rfl (loc' := [(4, vi 0), (0, .ref (ad a0)), (1, .ref (ad a1)), (2, vi x2), (3, vi x3)]) rfl ?_
      refine q_loc (loc' := [(0, .ref (ad a0)), (1, .ref (ad a1)), (2, vi x2), (3, vi x3), (4, vi 0)]) [1, 2, 3, 4, 0] rfl ?_
      exact tX2_ratio_47 FU a0 a1 x2 x3 0 h ha0 ha1 hf
    · refine q_aloadn dX2_ratio_11 0 rfl ?_
      refine q_iload dX2_ratio_12 4 rfl ?_
      refine C_ld hf dX2_ratio_14 (fun v14 hf => ?_)
      refine q_if_eq hf dX2_ratio_15 38 (by decide) (fun hf => ?_) (fun hf => ?_)
      · refine q_iinc dX2_ratio_38 4 rfl rfl (loc' := [(4, vi (x4 + 1)), (0, .ref (ad a0)), (1, .ref (ad a1)), (2, vi x2), (3, vi x3)]) rfl ?_
        refine q_goto dX2_ratio_41 5 (by decide) ?_
        refine q_loc (loc' := [(0, .ref (ad a0)), (1, .ref (ad a1)), (2, vi x2), (3, vi x3), (4, vi (x4 + 1))]) [1, 2, 3, 4, 0] rfl ?_
        exact ih a0 a1 x2 x3 (x4 + 1) h ha0 ha1 hf
      · refine q_aloadn dX2_ratio_18 1 rfl ?_
        refine q_iload dX2_ratio_19 4 rfl ?_
        refine C_ld hf dX2_ratio_21 (fun v21 hf => ?_)
        refine q_aloadn dX2_ratio_22 0 rfl ?_
        refine q_iload dX2_ratio_23 4 rfl ?_
        refine C_ld hf dX2_ratio_25 (fun v25 hf => ?_)
        obtain ⟨r26, h26, e26, hf⟩ := q_cl hf
        refine q_cSi (av := [vi v25]) (rest := [vi v21]) (ctX1_inverse e26) kX1_inverse uX1_inverse lkX2_15 rfl rfl rfl dX2_ratio_26 ?_
        refine q_imul dX2_ratio_29 ?_
        refine q_sipush dX2_ratio_30 (by decide) ?_
        refine q_irmP dX2_ratio_33 ?_
        refine q_lt hf (fun x3_34 hf => ?_)
        refine q_istoren dX2_ratio_34 rfl (loc' := [(3, vi x3_34), (0, .ref (ad a0)), (1, .ref (ad a1)), (2, vi x2), (4, vi x4)]) rfl ?_
        refine q_goto dX2_ratio_35 44 (by decide) ?_
        refine q_iconst dX2_ratio_44 ?_
        refine q_istore dX2_ratio_45 rfl (loc' := [(4, vi 0), (3, vi x3_34), (0, .ref (ad a0)), (1, .ref (ad a1)), (2, vi x2)]) rfl ?_
        refine q_loc (loc' := [(0, .ref (ad a0)), (1, .ref (ad a1)), (2, vi x2), (3, vi x3_34), (4, vi 0)]) [2, 3, 4, 1, 0] rfl ?_
        exact tX2_ratio_47 FU a0 a1 x2 x3_34 0 h26 ha0 ha1 hf
def fX2_ratio (a0 : Nat) (a1 : Nat) (x2 : Int) (h : HP) : Option (Int × HP) :=
  LX2_ratio_5 FU a0 a1 x2 1 0 h
set_option maxRecDepth 20000 in
theorem ctX2_ratio {l : Launch} {D : va_G} {ad : Nat → Nat} {cI cR : ClassId} {a0 : Nat} {a1 : Nat} {x2 : Int} {h : HP} {Z : Int × HP} (ha0 : isArr a0 = true) (ha1 : isArr a1 = true) (hf : fX2_ratio a0 a1 x2 h = some Z) : Ct (sdC l D ad cI cR) mX2_ratio [.ref (ad a0), .ref (ad a1), vi x2] h (ri Z) := by
  refine Ct.ofF nX2_ratio rfl (loc := [(0, .ref (ad a0)), (1, .ref (ad a1)), (2, vi x2)]) rfl ?_
  unfold fX2_ratio at hf
  refine q_iconst dX2_ratio_0 ?_
  refine q_istoren dX2_ratio_1 rfl (loc' := [(3, vi 1), (0, .ref (ad a0)), (1, .ref (ad a1)), (2, vi x2)]) rfl ?_
  refine q_iconst dX2_ratio_2 ?_
  refine q_istore dX2_ratio_3 rfl (loc' := [(4, vi 0), (3, vi 1), (0, .ref (ad a0)), (1, .ref (ad a1)), (2, vi x2)]) rfl ?_
  refine q_loc (loc' := [(0, .ref (ad a0)), (1, .ref (ad a1)), (2, vi x2), (3, vi 1), (4, vi 0)]) [2, 3, 4, 1, 0] rfl ?_
  exact tX2_ratio_5 FU a0 a1 x2 1 0 h ha0 ha1 hf
def bX2_valueAtPlace_20 (self : Nat → Int → Int → Int → HP → Option (Int × HP)) (a0 : Nat) (x2 : Int) (x3 : Int) (x4 : Int) (h : HP) : Option (Int × HP) :=
  if 0 ≤ wi x4 then (ld (lnC a0) (h a0) x4 fun v31 => lt (rm ((x3 * x2) + v31)) fun x3_37 => self a0 x2 x3_37 (x4 + (-1)) h) else (some (x3, h))
def LX2_valueAtPlace_20 : Nat → Nat → Int → Int → Int → HP → Option (Int × HP)
  | 0 => fun _ _ _ _ _ => none
  | n + 1 => bX2_valueAtPlace_20 (LX2_valueAtPlace_20 n)
set_option maxRecDepth 20000 in
theorem tX2_valueAtPlace_20 {l : Launch} {D : va_G} {ad : Nat → Nat} {cI cR : ClassId} {Z : Int × HP} : ∀ (n : Nat) (a0 : Nat) (x2 : Int) (x3 : Int) (x4 : Int) (h : HP), isArr a0 = true → LX2_valueAtPlace_20 n a0 x2 x3 x4 h = some Z → Rn (sdC l D ad cI cR) mX2_valueAtPlace (ri Z) 20 [(0, .ref (ad a0)), (2, vi x2), (3, vi x3), (4, vi x4)] [] h := by
  intro n
  induction n with
  | zero => intro a0 x2 x3 x4 h ha0 hf; cases hf
  | succ n ih =>
    intro a0 x2 x3 x4 h ha0 hf
    replace hf : bX2_valueAtPlace_20 (LX2_valueAtPlace_20 n) a0 x2 x3 x4 h = some Z := hf
    unfold bX2_valueAtPlace_20 at hf
    refine q_iload dX2_valueAtPlace_20 3 rfl ?_
    refine q_if_lt hf dX2_valueAtPlace_22 44 (by decide) (fun hf => ?_) (fun hf => ?_)
    · refine q_iloadn dX2_valueAtPlace_44 2 rfl ?_
      exact q_iret hf rfl dX2_valueAtPlace_45
    · refine q_iloadn dX2_valueAtPlace_25 2 rfl ?_
      refine q_iloadn dX2_valueAtPlace_26 1 rfl ?_
      refine q_imul dX2_valueAtPlace_27 ?_
      refine q_aloadn dX2_valueAtPlace_28 0 rfl ?_
      refine q_iload dX2_valueAtPlace_29 3 rfl ?_
      refine C_ld hf dX2_valueAtPlace_31 (fun v31 hf => ?_)
      refine q_iadd dX2_valueAtPlace_32 ?_
      refine q_sipush dX2_valueAtPlace_33 (by decide) ?_
      refine q_irmP dX2_valueAtPlace_36 ?_
      refine q_lt hf (fun x3_37 hf => ?_)
      refine q_istoren dX2_valueAtPlace_37 rfl (loc' := [(3, vi x3_37), (0, .ref (ad a0)), (2, vi x2), (4, vi x4)]) rfl ?_
      refine q_iinc dX2_valueAtPlace_38 3 rfl rfl (loc' := [(4, vi (x4 + (-1))), (3, vi x3_37), (0, .ref (ad a0)), (2, vi x2)]) rfl ?_
      refine q_goto dX2_valueAtPlace_41 20 (by decide) ?_
      refine q_loc (loc' := [(0, .ref (ad a0)), (2, vi x2), (3, vi x3_37), (4, vi (x4 + (-1)))]) [2, 3, 1, 0] rfl ?_
      exact ih a0 x2 x3_37 (x4 + (-1)) h ha0 hf
def fX2_valueAtPlace (a0 : Nat) (x1 : Int) (x2 : Int) (h : HP) : Option (Int × HP) :=
  if wi x2 = wi 10007 then (ld (lnC a0) (h a0) x1 fun v9 => some (v9, h)) else (ld (lnC a0) (h a0) x1 fun v13 => lt (x1 - 1) fun x4_18 => LX2_valueAtPlace_20 FU a0 x2 v13 x4_18 h)
set_option maxRecDepth 20000 in
theorem ctX2_valueAtPlace {l : Launch} {D : va_G} {ad : Nat → Nat} {cI cR : ClassId} {a0 : Nat} {x1 : Int} {x2 : Int} {h : HP} {Z : Int × HP} (ha0 : isArr a0 = true) (hf : fX2_valueAtPlace a0 x1 x2 h = some Z) : Ct (sdC l D ad cI cR) mX2_valueAtPlace [.ref (ad a0), vi x1, vi x2] h (ri Z) := by
  refine Ct.ofF nX2_valueAtPlace rfl (loc := [(0, .ref (ad a0)), (1, vi x1), (2, vi x2)]) rfl ?_
  unfold fX2_valueAtPlace at hf
  refine q_iloadn dX2_valueAtPlace_0 2 rfl ?_
  refine q_sipush dX2_valueAtPlace_1 (by decide) ?_
  refine q_icmp_ne hf dX2_valueAtPlace_4 11 (by decide) (fun hf => ?_) (fun hf => ?_)
  · refine q_aloadn dX2_valueAtPlace_11 0 rfl ?_
    refine q_iloadn dX2_valueAtPlace_12 1 rfl ?_
    refine C_ld hf dX2_valueAtPlace_13 (fun v13 hf => ?_)
    refine q_istoren dX2_valueAtPlace_14 rfl (loc' := [(3, vi v13), (0, .ref (ad a0)), (1, vi x1), (2, vi x2)]) rfl ?_
    refine q_iloadn dX2_valueAtPlace_15 2 rfl ?_
    refine q_iconst dX2_valueAtPlace_16 ?_
    refine q_isub dX2_valueAtPlace_17 ?_
    refine q_lt hf (fun x4_18 hf => ?_)
    refine q_istore dX2_valueAtPlace_18 rfl (loc' := [(4, vi x4_18), (3, vi v13), (0, .ref (ad a0)), (1, vi x1), (2, vi x2)]) rfl ?_
    refine q_loc (loc' := [(0, .ref (ad a0)), (2, vi x2), (3, vi v13), (4, vi x4_18)]) [2, 4, 1, 0] rfl ?_
    exact tX2_valueAtPlace_20 FU a0 x2 v13 x4_18 h ha0 hf
  · refine q_aloadn dX2_valueAtPlace_7 0 rfl ?_
    refine q_iloadn dX2_valueAtPlace_8 1 rfl ?_
    refine C_ld hf dX2_valueAtPlace_9 (fun v9 hf => ?_)
    exact q_iret hf rfl dX2_valueAtPlace_10
def bX2_strip_21 (self : Nat → Int → Int → Int → HP → Option (Int × HP)) (a0 : Nat) (x1 : Int) (x2 : Int) (x3 : Int) (h : HP) : Option (Int × HP) :=
  if wi x3 < wi (((lnC a0 : Nat) : Int)) then (if wi (x3 + x2) ≤ wi x1 then (ld (lnC a0) (h a0) (x3 + x2) fun v40 => sto (lnC a0) h a0 x3 v40 fun h45 => self a0 x1 x2 (x3 + 1) h45) else (sto (lnC a0) h a0 x3 0 fun h45 => self a0 x1 x2 (x3 + 1) h45)) else (some (x1 - x2, h))
def LX2_strip_21 : Nat → Nat → Int → Int → Int → HP → Option (Int × HP)
  | 0 => fun _ _ _ _ _ => none
  | n + 1 => bX2_strip_21 (LX2_strip_21 n)
set_option maxRecDepth 20000 in
theorem tX2_strip_21 {l : Launch} {D : va_G} {ad : Nat → Nat} {cI cR : ClassId} {Z : Int × HP} : ∀ (n : Nat) (a0 : Nat) (x1 : Int) (x2 : Int) (x3 : Int) (h : HP), isArr a0 = true → LX2_strip_21 n a0 x1 x2 x3 h = some Z → Rn (sdC l D ad cI cR) mX2_strip (ri Z) 21 [(0, .ref (ad a0)), (1, vi x1), (2, vi x2), (3, vi x3)] [] h := by
  intro n
  induction n with
  | zero => intro a0 x1 x2 x3 h ha0 hf; cases hf
  | succ n ih =>
    intro a0 x1 x2 x3 h ha0 hf
    replace hf : bX2_strip_21 (LX2_strip_21 n) a0 x1 x2 x3 h = some Z := hf
    unfold bX2_strip_21 at hf
    refine q_iloadn dX2_strip_21 3 rfl ?_
    refine q_aloadn dX2_strip_22 0 rfl ?_
    refine C_alen ha0 dX2_strip_23 ?_
    refine q_icmp_ge hf dX2_strip_24 52 (by decide) (fun hf => ?_) (fun hf => ?_)
    · refine q_iloadn dX2_strip_52 1 rfl ?_
      refine q_iloadn dX2_strip_53 2 rfl ?_
      refine q_isub dX2_strip_54 ?_
      exact q_iret hf rfl dX2_strip_55
    · refine q_aloadn dX2_strip_27 0 rfl ?_
      refine q_iloadn dX2_strip_28 3 rfl ?_
      refine q_iloadn dX2_strip_29 3 rfl ?_
      refine q_iloadn dX2_strip_30 2 rfl ?_
      refine q_iadd dX2_strip_31 ?_
      refine q_iloadn dX2_strip_32 1 rfl ?_
      refine q_icmp_gt hf dX2_strip_33 44 (by decide) (fun hf => ?_) (fun hf => ?_)
      · refine q_iconst dX2_strip_44 ?_
        refine C_st hf dX2_strip_45 (fun h45 hf => ?_)
        refine q_iinc dX2_strip_46 3 rfl rfl (loc' := [(3, vi (x3 + 1)), (0, .ref (ad a0)), (1, vi x1), (2, vi x2)]) rfl ?_
        refine q_goto dX2_strip_49 21 (by decide) ?_
        refine q_loc (loc' := [(0, .ref (ad a0)), (1, vi x1), (2, vi x2), (3, vi (x3 + 1))]) [1, 2, 3, 0] rfl ?_
        exact ih a0 x1 x2 (x3 + 1) h45 ha0 hf
      · refine q_aloadn dX2_strip_36 0 rfl ?_
        refine q_iloadn dX2_strip_37 3 rfl ?_
        refine q_iloadn dX2_strip_38 2 rfl ?_
        refine q_iadd dX2_strip_39 ?_
        refine C_ld hf dX2_strip_40 (fun v40 hf => ?_)
        refine q_goto dX2_strip_41 45 (by decide) ?_
        refine C_st hf dX2_strip_45 (fun h45 hf => ?_)
        refine q_iinc dX2_strip_46 3 rfl rfl (loc' := [(3, vi (x3 + 1)), (0, .ref (ad a0)), (1, vi x1), (2, vi x2)]) rfl ?_
        refine q_goto dX2_strip_49 21 (by decide) ?_
        refine q_loc (loc' := [(0, .ref (ad a0)), (1, vi x1), (2, vi x2), (3, vi (x3 + 1))]) [1, 2, 3, 0] rfl ?_
        exact ih a0 x1 x2 (x3 + 1) h45 ha0 hf
def bX2_strip_2 (self : Nat → Int → Int → HP → Option (Int × HP)) (a0 : Nat) (x1 : Int) (x2 : Int) (h : HP) : Option (Int × HP) :=
  if wi x2 ≤ wi x1 then (ld (lnC a0) (h a0) x2 fun v9 => if wi v9 = 0 then (self a0 x1 (x2 + 1) h) else (LX2_strip_21 FU a0 x1 x2 0 h)) else (LX2_strip_21 FU a0 x1 x2 0 h)
def LX2_strip_2 : Nat → Nat → Int → Int → HP → Option (Int × HP)
  | 0 => fun _ _ _ _ => none
  | n + 1 => bX2_strip_2 (LX2_strip_2 n)
set_option maxRecDepth 20000 in
theorem tX2_strip_2 {l : Launch} {D : va_G} {ad : Nat → Nat} {cI cR : ClassId} {Z : Int × HP} : ∀ (n : Nat) (a0 : Nat) (x1 : Int) (x2 : Int) (h : HP), isArr a0 = true → LX2_strip_2 n a0 x1 x2 h = some Z → Rn (sdC l D ad cI cR) mX2_strip (ri Z) 2 [(0, .ref (ad a0)), (1, vi x1), (2, vi x2)] [] h := by
  intro n
  induction n with
  | zero => intro a0 x1 x2 h ha0 hf; cases hf
  | succ n ih =>
    intro a0 x1 x2 h ha0 hf
    replace hf : bX2_strip_2 (LX2_strip_2 n) a0 x1 x2 h = some Z := hf
    unfold bX2_strip_2 at hf
    refine q_iloadn dX2_strip_2 2 rfl ?_
    refine q_iloadn dX2_strip_3 1 rfl ?_
    refine q_icmp_gt hf dX2_strip_4 19 (by decide) (fun hf => ?_) (fun hf => ?_)
    · refine q_iconst dX2_strip_19 ?_
      refine q_istoren dX2_strip_20 rfl (loc' := [(3, vi 0), (0, .ref (ad a0)), (1, vi x1), (2, vi x2)]) rfl ?_
      refine q_loc (loc' := [(0, .ref (ad a0)), (1, vi x1), (2, vi x2), (3, vi 0)]) [1, 2, 3, 0] rfl ?_
      exact tX2_strip_21 FU a0 x1 x2 0 h ha0 hf
    · refine q_aloadn dX2_strip_7 0 rfl ?_
      refine q_iloadn dX2_strip_8 2 rfl ?_
      refine C_ld hf dX2_strip_9 (fun v9 hf => ?_)
      refine q_if_ne hf dX2_strip_10 19 (by decide) (fun hf => ?_) (fun hf => ?_)
      · refine q_iconst dX2_strip_19 ?_
        refine q_istoren dX2_strip_20 rfl (loc' := [(3, vi 0), (0, .ref (ad a0)), (1, vi x1), (2, vi x2)]) rfl ?_
        refine q_loc (loc' := [(0, .ref (ad a0)), (1, vi x1), (2, vi x2), (3, vi 0)]) [1, 2, 3, 0] rfl ?_
        exact tX2_strip_21 FU a0 x1 x2 0 h ha0 hf
      · refine q_iinc dX2_strip_13 2 rfl rfl (loc' := [(2, vi (x2 + 1)), (0, .ref (ad a0)), (1, vi x1)]) rfl ?_
        refine q_goto dX2_strip_16 2 (by decide) ?_
        refine q_loc (loc' := [(0, .ref (ad a0)), (1, vi x1), (2, vi (x2 + 1))]) [1, 2, 0] rfl ?_
        exact ih a0 x1 (x2 + 1) h ha0 hf
def fX2_strip (a0 : Nat) (x1 : Int) (h : HP) : Option (Int × HP) :=
  LX2_strip_2 FU a0 x1 0 h
set_option maxRecDepth 20000 in
theorem ctX2_strip {l : Launch} {D : va_G} {ad : Nat → Nat} {cI cR : ClassId} {a0 : Nat} {x1 : Int} {h : HP} {Z : Int × HP} (ha0 : isArr a0 = true) (hf : fX2_strip a0 x1 h = some Z) : Ct (sdC l D ad cI cR) mX2_strip [.ref (ad a0), vi x1] h (ri Z) := by
  refine Ct.ofF nX2_strip rfl (loc := [(0, .ref (ad a0)), (1, vi x1)]) rfl ?_
  unfold fX2_strip at hf
  refine q_iconst dX2_strip_0 ?_
  refine q_istoren dX2_strip_1 rfl (loc' := [(2, vi 0), (0, .ref (ad a0)), (1, vi x1)]) rfl ?_
  refine q_loc (loc' := [(0, .ref (ad a0)), (1, vi x1), (2, vi 0)]) [1, 2, 0] rfl ?_
  exact tX2_strip_2 FU a0 x1 0 h ha0 hf
def bX2_lower_23 (self : Nat → Int → Nat → Int → Int → Int → HP → Option (Int × HP)) (a0 : Nat) (x1 : Int) (a2 : Nat) (x3 : Int) (x4 : Int) (x5 : Int) (h : HP) : Option (Int × HP) :=
  if wi x5 ≤ wi x3 then (ld (lnC a0) (h a0) x5 fun v35 => ld (lnC a2) (h a2) x5 fun v41 => sto (lnC a0) h a0 x5 (rm (v35 + (x4 * v41))) fun h48 => self a0 x1 a2 x3 x4 (x5 + 1) h48) else (cl (fX2_strip a0 x1 h) fun r57 h57 => some (r57, h57))
def LX2_lower_23 : Nat → Nat → Int → Nat → Int → Int → Int → HP → Option (Int × HP)
  | 0 => fun _ _ _ _ _ _ _ => none
  | n + 1 => bX2_lower_23 (LX2_lower_23 n)
set_option maxRecDepth 20000 in
theorem tX2_lower_23 {l : Launch} {D : va_G} {ad : Nat → Nat} {cI cR : ClassId} {Z : Int × HP} : ∀ (n : Nat) (a0 : Nat) (x1 : Int) (a2 : Nat) (x3 : Int) (x4 : Int) (x5 : Int) (h : HP), isArr a0 = true → isArr a2 = true → LX2_lower_23 n a0 x1 a2 x3 x4 x5 h = some Z → Rn (sdC l D ad cI cR) mX2_lower (ri Z) 23 [(0, .ref (ad a0)), (1, vi x1), (2, .ref (ad a2)), (3, vi x3), (4, vi x4), (5, vi x5)] [] h := by
  intro n
  induction n with
  | zero => intro a0 x1 a2 x3 x4 x5 h ha0 ha2 hf; cases hf
  | succ n ih =>
    intro a0 x1 a2 x3 x4 x5 h ha0 ha2 hf
    replace hf : bX2_lower_23 (LX2_lower_23 n) a0 x1 a2 x3 x4 x5 h = some Z := hf
    unfold bX2_lower_23 at hf
    refine q_iload dX2_lower_23 5 rfl ?_
    refine q_iloadn dX2_lower_25 3 rfl ?_
    refine q_icmp_gt hf dX2_lower_26 55 (by decide) (fun hf => ?_) (fun hf => ?_)
    · refine q_aloadn dX2_lower_55 0 rfl ?_
      refine q_iloadn dX2_lower_56 1 rfl ?_
      obtain ⟨r57, h57, e57, hf⟩ := q_cl hf
      refine q_cSi (av := [.ref (ad a0), vi x1]) (rest := []) (ctX2_strip ha0 e57) kX2_strip uX2_strip lkX2_28 rfl rfl rfl dX2_lower_57 ?_
      exact q_iret hf rfl dX2_lower_60
    · refine q_aloadn dX2_lower_29 0 rfl ?_
      refine q_iload dX2_lower_30 5 rfl ?_
      refine q_aloadn dX2_lower_32 0 rfl ?_
      refine q_iload dX2_lower_33 5 rfl ?_
      refine C_ld hf dX2_lower_35 (fun v35 hf => ?_)
      refine q_iload dX2_lower_36 4 rfl ?_
      refine q_aloadn dX2_lower_38 2 rfl ?_
      refine q_iload dX2_lower_39 5 rfl ?_
      refine C_ld hf dX2_lower_41 (fun v41 hf => ?_)
      refine q_imul dX2_lower_42 ?_
      refine q_iadd dX2_lower_43 ?_
      refine q_sipush dX2_lower_44 (by decide) ?_
      refine q_irmP dX2_lower_47 ?_
      refine C_st hf dX2_lower_48 (fun h48 hf => ?_)
      refine q_iinc dX2_lower_49 5 rfl rfl (loc' := [(5, vi (x5 + 1)), (0, .ref (ad a0)), (1, vi x1), (2, .ref (ad a2)), (3, vi x3), (4, vi x4)]) rfl ?_
      refine q_goto dX2_lower_52 23 (by decide) ?_
      refine q_loc (loc' := [(0, .ref (ad a0)), (1, vi x1), (2, .ref (ad a2)), (3, vi x3), (4, vi x4), (5, vi (x5 + 1))]) [1, 2, 3, 4, 5, 0] rfl ?_
      exact ih a0 x1 a2 x3 x4 (x5 + 1) h48 ha0 ha2 hf
def fX2_lower (a0 : Nat) (x1 : Int) (a2 : Nat) (x3 : Int) (h : HP) : Option (Int × HP) :=
  ld (lnC a0) (h a0) 0 fun v5 => ld (lnC a2) (h a2) 0 fun v8 => cl (fX1_inverse v8 h) fun r9 h9 => lt (10007 - (rm (v5 * r9))) fun x4_18 => LX2_lower_23 FU a0 x1 a2 x3 x4_18 0 h9
set_option maxRecDepth 20000 in
theorem ctX2_lower {l : Launch} {D : va_G} {ad : Nat → Nat} {cI cR : ClassId} {a0 : Nat} {x1 : Int} {a2 : Nat} {x3 : Int} {h : HP} {Z : Int × HP} (ha0 : isArr a0 = true) (ha2 : isArr a2 = true) (hf : fX2_lower a0 x1 a2 x3 h = some Z) : Ct (sdC l D ad cI cR) mX2_lower [.ref (ad a0), vi x1, .ref (ad a2), vi x3] h (ri Z) := by
  refine Ct.ofF nX2_lower rfl (loc := [(0, .ref (ad a0)), (1, vi x1), (2, .ref (ad a2)), (3, vi x3)]) rfl ?_
  unfold fX2_lower at hf
  refine q_sipush dX2_lower_0 (by decide) ?_
  refine q_aloadn dX2_lower_3 0 rfl ?_
  refine q_iconst dX2_lower_4 ?_
  refine C_ld hf dX2_lower_5 (fun v5 hf => ?_)
  refine q_aloadn dX2_lower_6 2 rfl ?_
  refine q_iconst dX2_lower_7 ?_
  refine C_ld hf dX2_lower_8 (fun v8 hf => ?_)
  obtain ⟨r9, h9, e9, hf⟩ := q_cl hf
  refine q_cSi (av := [vi v8]) (rest := [vi v5, vi 10007]) (ctX1_inverse e9) kX1_inverse uX1_inverse lkX2_15 rfl rfl rfl dX2_lower_9 ?_
  refine q_imul dX2_lower_12 ?_
  refine q_sipush dX2_lower_13 (by decide) ?_
  refine q_irmP dX2_lower_16 ?_
  refine q_isub dX2_lower_17 ?_
  refine q_lt hf (fun x4_18 hf => ?_)
  refine q_istore dX2_lower_18 rfl (loc' := [(4, vi x4_18), (0, .ref (ad a0)), (1, vi x1), (2, .ref (ad a2)), (3, vi x3)]) rfl ?_
  refine q_iconst dX2_lower_20 ?_
  refine q_istore dX2_lower_21 rfl (loc' := [(5, vi 0), (4, vi x4_18), (0, .ref (ad a0)), (1, vi x1), (2, .ref (ad a2)), (3, vi x3)]) rfl ?_
  refine q_loc (loc' := [(0, .ref (ad a0)), (1, vi x1), (2, .ref (ad a2)), (3, vi x3), (4, vi x4_18), (5, vi 0)]) [2, 3, 4, 5, 1, 0] rfl ?_
  exact tX2_lower_23 FU a0 x1 a2 x3 x4_18 0 h9 ha0 ha2 hf
