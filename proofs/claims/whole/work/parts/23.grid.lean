def fX0_at (x1 : Int) (x2 : Int) (h : HP) : Option (Int × HP) :=
  ld (lnC 28) (h 28) ((x1 * 16) + x2) fun v10 => some (v10, h)
set_option maxRecDepth 20000 in
theorem ctX0_at {l : Launch} {D : va_G} {ad : Nat → Nat} {cI cR : ClassId} {x1 : Int} {x2 : Int} {h : HP} {Z : Int × HP} (hf : fX0_at x1 x2 h = some Z) : Ct (sdC l D ad cI cR) mX0_at [.ref (ad 27), vi x1, vi x2] h (ri Z) := by
  refine Ct.ofF nX0_at rfl (loc := [(0, .ref (ad 27)), (1, vi x1), (2, vi x2)]) rfl ?_
  unfold fX0_at at hf
  refine q_aloadn dX0_at_0 0 rfl ?_
  refine C_g0_0 flX0_11 dX0_at_1 ?_
  refine q_iloadn dX0_at_4 1 rfl ?_
  refine q_bipush dX0_at_5 (by decide) ?_
  refine q_imul dX0_at_7 ?_
  refine q_iloadn dX0_at_8 2 rfl ?_
  refine q_iadd dX0_at_9 ?_
  refine C_ld hf dX0_at_10 (fun v10 hf => ?_)
  exact q_iret hf rfl dX0_at_11
def fX0_set (x1 : Int) (x2 : Int) (x3 : Int) (h : HP) : Option (Int × HP) :=
  sto (lnC 28) h 28 ((x1 * 16) + x2) x3 fun h11 => some (0, h11)
set_option maxRecDepth 20000 in
theorem ctX0_set {l : Launch} {D : va_G} {ad : Nat → Nat} {cI cR : ClassId} {x1 : Int} {x2 : Int} {x3 : Int} {h : HP} {Z : Int × HP} (hf : fX0_set x1 x2 x3 h = some Z) : Ct (sdC l D ad cI cR) mX0_set [.ref (ad 27), vi x1, vi x2, vi x3] h (rv Z) := by
  refine Ct.ofF nX0_set rfl (loc := [(0, .ref (ad 27)), (1, vi x1), (2, vi x2), (3, vi x3)]) rfl ?_
  unfold fX0_set at hf
  refine q_aloadn dX0_set_0 0 rfl ?_
  refine C_g0_0 flX0_11 dX0_set_1 ?_
  refine q_iloadn dX0_set_4 1 rfl ?_
  refine q_bipush dX0_set_5 (by decide) ?_
  refine q_imul dX0_set_7 ?_
  refine q_iloadn dX0_set_8 2 rfl ?_
  refine q_iadd dX0_set_9 ?_
  refine q_iloadn dX0_set_10 3 rfl ?_
  refine C_st hf dX0_set_11 (fun h11 hf => ?_)
  exact q_vret hf rfl dX0_set_12
def fX0_clear (h : HP) : Option (Int × HP) :=
  cl (fX2_clear 28 h) fun _ h4 => some (0, h4)
set_option maxRecDepth 20000 in
theorem ctX0_clear {l : Launch} {D : va_G} {ad : Nat → Nat} {cI cR : ClassId} {h : HP} {Z : Int × HP} (hf : fX0_clear h = some Z) : Ct (sdC l D ad cI cR) mX0_clear [.ref (ad 27)] h (rv Z) := by
  refine Ct.ofF nX0_clear rfl (loc := [(0, .ref (ad 27))]) rfl ?_
  unfold fX0_clear at hf
  refine q_aloadn dX0_clear_0 0 rfl ?_
  refine C_g0_0 flX0_11 dX0_clear_1 ?_
  obtain ⟨r4, h4, e4, hf⟩ := q_cl hf
  refine q_cSv (av := [.ref (ad 28)]) (rest := []) (ctX2_clear rfl e4) kX2_clear uX2_clear lkX0_19 rfl rfl rfl dX0_clear_4 ?_
  exact q_vret hf rfl dX0_clear_7
def bX0_layStairs_13 (k3 : Nat → Int → Int → Int → Int → HP → Option (Int × HP)) (self : Nat → Int → Int → Int → Int → Int → HP → Option (Int × HP)) (a1 : Nat) (x2 : Int) (x3 : Int) (x4 : Int) (x5 : Int) (x6 : Int) (h : HP) : Option (Int × HP) :=
  if wi x6 ≤ wi x2 then (ld (lnC a1) (h a1) x6 fun v32 => cl (fX0_set (x3 + x5) (x5 + x6) v32 h) fun _ h33 => self a1 x2 x3 x4 x5 (x6 + 1) h33) else (k3 a1 x2 x3 x4 (x5 + 1) h)
def LX0_layStairs_13 (k3 : Nat → Int → Int → Int → Int → HP → Option (Int × HP)) : Nat → Nat → Int → Int → Int → Int → Int → HP → Option (Int × HP)
  | 0 => fun _ _ _ _ _ _ _ => none
  | n + 1 => bX0_layStairs_13 k3 (LX0_layStairs_13 k3 n)
set_option maxRecDepth 20000 in
theorem tX0_layStairs_13 {l : Launch} {D : va_G} {ad : Nat → Nat} {cI cR : ClassId} {Z : Int × HP} {k3 : Nat → Int → Int → Int → Int → HP → Option (Int × HP)} (hk3 : ∀ (a1 : Nat) (x2 : Int) (x3 : Int) (x4 : Int) (x5 : Int) (h : HP), isArr a1 = true → k3 a1 x2 x3 x4 x5 h = some Z → Rn (sdC l D ad cI cR) mX0_layStairs (rv Z) 3 [(0, .ref (ad 27)), (1, .ref (ad a1)), (2, vi x2), (3, vi x3), (4, vi x4), (5, vi x5)] [] h) : ∀ (n : Nat) (a1 : Nat) (x2 : Int) (x3 : Int) (x4 : Int) (x5 : Int) (x6 : Int) (h : HP), isArr a1 = true → LX0_layStairs_13 k3 n a1 x2 x3 x4 x5 x6 h = some Z → Rn (sdC l D ad cI cR) mX0_layStairs (rv Z) 13 [(0, .ref (ad 27)), (1, .ref (ad a1)), (2, vi x2), (3, vi x3), (4, vi x4), (5, vi x5), (6, vi x6)] [] h := by
  intro n
  induction n with
  | zero => intro a1 x2 x3 x4 x5 x6 h ha1 hf; cases hf
  | succ n ih =>
    intro a1 x2 x3 x4 x5 x6 h ha1 hf
    replace hf : bX0_layStairs_13 k3 (LX0_layStairs_13 k3 n) a1 x2 x3 x4 x5 x6 h = some Z := hf
    unfold bX0_layStairs_13 at hf
    refine q_iload dX0_layStairs_13 6 rfl ?_
    refine q_iloadn dX0_layStairs_15 2 rfl ?_
    refine q_icmp_gt hf dX0_layStairs_16 42 (by decide) (fun hf => ?_) (fun hf => ?_)
    · refine q_iinc dX0_layStairs_42 5 rfl rfl (loc' := [(5, vi (x5 + 1)), (0, .ref (ad 27)), (1, .ref (ad a1)), (2, vi x2), (3, vi x3), (4, vi x4), (6, vi x6)]) rfl ?_
      refine q_goto dX0_layStairs_45 3 (by decide) ?_
      refine q_loc (loc' := [(0, .ref (ad 27)), (1, .ref (ad a1)), (2, vi x2), (3, vi x3), (4, vi x4), (5, vi (x5 + 1))]) [1, 2, 3, 4, 5, 0] rfl ?_
      exact hk3 a1 x2 x3 x4 (x5 + 1) h ha1 hf
    · refine q_aloadn dX0_layStairs_19 0 rfl ?_
      refine q_iloadn dX0_layStairs_20 3 rfl ?_
      refine q_iload dX0_layStairs_21 5 rfl ?_
      refine q_iadd dX0_layStairs_23 ?_
      refine q_iload dX0_layStairs_24 5 rfl ?_
      refine q_iload dX0_layStairs_26 6 rfl ?_
      refine q_iadd dX0_layStairs_28 ?_
      refine q_aloadn dX0_layStairs_29 1 rfl ?_
      refine q_iload dX0_layStairs_30 6 rfl ?_
      refine C_ld hf dX0_layStairs_32 (fun v32 hf => ?_)
      obtain ⟨r33, h33, e33, hf⟩ := q_cl hf
      refine q_cVv (av := [vi (x3 + x5), vi (x5 + x6), vi v32]) (rest := []) wC_27 (ctX0_set e33) kX0_set vX0_set zX0_set lkX0_25 rfl rfl rfl rfl rfl dX0_layStairs_33 ?_
      refine q_iinc dX0_layStairs_36 6 rfl rfl (loc' := [(6, vi (x6 + 1)), (0, .ref (ad 27)), (1, .ref (ad a1)), (2, vi x2), (3, vi x3), (4, vi x4), (5, vi x5)]) rfl ?_
      refine q_goto dX0_layStairs_39 13 (by decide) ?_
      refine q_loc (loc' := [(0, .ref (ad 27)), (1, .ref (ad a1)), (2, vi x2), (3, vi x3), (4, vi x4), (5, vi x5), (6, vi (x6 + 1))]) [1, 2, 3, 4, 5, 6, 0] rfl ?_
      exact ih a1 x2 x3 x4 x5 (x6 + 1) h33 ha1 hf
def bX0_layStairs_3 (self : Nat → Int → Int → Int → Int → HP → Option (Int × HP)) (a1 : Nat) (x2 : Int) (x3 : Int) (x4 : Int) (x5 : Int) (h : HP) : Option (Int × HP) :=
  if wi x5 < wi x4 then (LX0_layStairs_13 self FU a1 x2 x3 x4 x5 0 h) else (some (0, h))
def LX0_layStairs_3 : Nat → Nat → Int → Int → Int → Int → HP → Option (Int × HP)
  | 0 => fun _ _ _ _ _ _ => none
  | n + 1 => bX0_layStairs_3 (LX0_layStairs_3 n)
set_option maxRecDepth 20000 in
theorem tX0_layStairs_3 {l : Launch} {D : va_G} {ad : Nat → Nat} {cI cR : ClassId} {Z : Int × HP} : ∀ (n : Nat) (a1 : Nat) (x2 : Int) (x3 : Int) (x4 : Int) (x5 : Int) (h : HP), isArr a1 = true → LX0_layStairs_3 n a1 x2 x3 x4 x5 h = some Z → Rn (sdC l D ad cI cR) mX0_layStairs (rv Z) 3 [(0, .ref (ad 27)), (1, .ref (ad a1)), (2, vi x2), (3, vi x3), (4, vi x4), (5, vi x5)] [] h := by
  intro n
  induction n with
  | zero => intro a1 x2 x3 x4 x5 h ha1 hf; cases hf
  | succ n ih =>
    intro a1 x2 x3 x4 x5 h ha1 hf
    replace hf : bX0_layStairs_3 (LX0_layStairs_3 n) a1 x2 x3 x4 x5 h = some Z := hf
    unfold bX0_layStairs_3 at hf
    refine q_iload dX0_layStairs_3 5 rfl ?_
    refine q_iload dX0_layStairs_5 4 rfl ?_
    refine q_icmp_ge hf dX0_layStairs_7 48 (by decide) (fun hf => ?_) (fun hf => ?_)
    · exact q_vret hf rfl dX0_layStairs_48
    · refine q_iconst dX0_layStairs_10 ?_
      refine q_istore dX0_layStairs_11 rfl (loc' := [(6, vi 0), (0, .ref (ad 27)), (1, .ref (ad a1)), (2, vi x2), (3, vi x3), (4, vi x4), (5, vi x5)]) rfl ?_
      refine q_loc (loc' := [(0, .ref (ad 27)), (1, .ref (ad a1)), (2, vi x2), (3, vi x3), (4, vi x4), (5, vi x5), (6, vi 0)]) [1, 2, 3, 4, 5, 6, 0] rfl ?_
      exact tX0_layStairs_13 ih FU a1 x2 x3 x4 x5 0 h ha1 hf
def fX0_layStairs (a1 : Nat) (x2 : Int) (x3 : Int) (x4 : Int) (h : HP) : Option (Int × HP) :=
  LX0_layStairs_3 FU a1 x2 x3 x4 0 h
set_option maxRecDepth 20000 in
theorem ctX0_layStairs {l : Launch} {D : va_G} {ad : Nat → Nat} {cI cR : ClassId} {a1 : Nat} {x2 : Int} {x3 : Int} {x4 : Int} {h : HP} {Z : Int × HP} (ha1 : isArr a1 = true) (hf : fX0_layStairs a1 x2 x3 x4 h = some Z) : Ct (sdC l D ad cI cR) mX0_layStairs [.ref (ad 27), .ref (ad a1), vi x2, vi x3, vi x4] h (rv Z) := by
  refine Ct.ofF nX0_layStairs rfl (loc := [(0, .ref (ad 27)), (1, .ref (ad a1)), (2, vi x2), (3, vi x3), (4, vi x4)]) rfl ?_
  unfold fX0_layStairs at hf
  refine q_iconst dX0_layStairs_0 ?_
  refine q_istore dX0_layStairs_1 rfl (loc' := [(5, vi 0), (0, .ref (ad 27)), (1, .ref (ad a1)), (2, vi x2), (3, vi x3), (4, vi x4)]) rfl ?_
  refine q_loc (loc' := [(0, .ref (ad 27)), (1, .ref (ad a1)), (2, vi x2), (3, vi x3), (4, vi x4), (5, vi 0)]) [1, 2, 3, 4, 5, 0] rfl ?_
  exact tX0_layStairs_3 FU a1 x2 x3 x4 0 h ha1 hf
def bX0_laySquare_12 (k3 : Nat → Int → Int → Int → HP → Option (Int × HP)) (self : Nat → Int → Int → Int → Int → HP → Option (Int × HP)) (a1 : Nat) (x2 : Int) (x3 : Int) (x4 : Int) (x5 : Int) (h : HP) : Option (Int × HP) :=
  if wi x5 ≤ wi (x2 - x3) then (ld (lnC a1) (h a1) (x4 + x5) fun v31 => cl (fX0_set x4 x5 v31 h) fun _ h32 => self a1 x2 x3 x4 (x5 + 1) h32) else (k3 a1 x2 x3 (x4 + 1) h)
def LX0_laySquare_12 (k3 : Nat → Int → Int → Int → HP → Option (Int × HP)) : Nat → Nat → Int → Int → Int → Int → HP → Option (Int × HP)
  | 0 => fun _ _ _ _ _ _ => none
  | n + 1 => bX0_laySquare_12 k3 (LX0_laySquare_12 k3 n)
set_option maxRecDepth 20000 in
theorem tX0_laySquare_12 {l : Launch} {D : va_G} {ad : Nat → Nat} {cI cR : ClassId} {Z : Int × HP} {k3 : Nat → Int → Int → Int → HP → Option (Int × HP)} (hk3 : ∀ (a1 : Nat) (x2 : Int) (x3 : Int) (x4 : Int) (h : HP), isArr a1 = true → k3 a1 x2 x3 x4 h = some Z → Rn (sdC l D ad cI cR) mX0_laySquare (rv Z) 3 [(0, .ref (ad 27)), (1, .ref (ad a1)), (2, vi x2), (3, vi x3), (4, vi x4)] [] h) : ∀ (n : Nat) (a1 : Nat) (x2 : Int) (x3 : Int) (x4 : Int) (x5 : Int) (h : HP), isArr a1 = true → LX0_laySquare_12 k3 n a1 x2 x3 x4 x5 h = some Z → Rn (sdC l D ad cI cR) mX0_laySquare (rv Z) 12 [(0, .ref (ad 27)), (1, .ref (ad a1)), (2, vi x2), (3, vi x3), (4, vi x4), (5, vi x5)] [] h := by
  intro n
  induction n with
  | zero => intro a1 x2 x3 x4 x5 h ha1 hf; cases hf
  | succ n ih =>
    intro a1 x2 x3 x4 x5 h ha1 hf
    replace hf : bX0_laySquare_12 k3 (LX0_laySquare_12 k3 n) a1 x2 x3 x4 x5 h = some Z := hf
    unfold bX0_laySquare_12 at hf
    refine q_iload dX0_laySquare_12 5 rfl ?_
    refine q_iloadn dX0_laySquare_14 2 rfl ?_
    refine q_iloadn dX0_laySquare_15 3 rfl ?_
    refine q_isub dX0_laySquare_16 ?_
    refine q_icmp_gt hf dX0_laySquare_17 41 (by decide) (fun hf => ?_) (fun hf => ?_)
    · refine q_iinc dX0_laySquare_41 4 rfl rfl (loc' := [(4, vi (x4 + 1)), (0, .ref (ad 27)), (1, .ref (ad a1)), (2, vi x2), (3, vi x3), (5, vi x5)]) rfl ?_
      refine q_goto dX0_laySquare_44 3 (by decide) ?_
      refine q_loc (loc' := [(0, .ref (ad 27)), (1, .ref (ad a1)), (2, vi x2), (3, vi x3), (4, vi (x4 + 1))]) [1, 2, 3, 4, 0] rfl ?_
      exact hk3 a1 x2 x3 (x4 + 1) h ha1 hf
    · refine q_aloadn dX0_laySquare_20 0 rfl ?_
      refine q_iload dX0_laySquare_21 4 rfl ?_
      refine q_iload dX0_laySquare_23 5 rfl ?_
      refine q_aloadn dX0_laySquare_25 1 rfl ?_
      refine q_iload dX0_laySquare_26 4 rfl ?_
      refine q_iload dX0_laySquare_28 5 rfl ?_
      refine q_iadd dX0_laySquare_30 ?_
      refine C_ld hf dX0_laySquare_31 (fun v31 hf => ?_)
      obtain ⟨r32, h32, e32, hf⟩ := q_cl hf
      refine q_cVv (av := [vi x4, vi x5, vi v31]) (rest := []) wC_27 (ctX0_set e32) kX0_set vX0_set zX0_set lkX0_25 rfl rfl rfl rfl rfl dX0_laySquare_32 ?_
      refine q_iinc dX0_laySquare_35 5 rfl rfl (loc' := [(5, vi (x5 + 1)), (0, .ref (ad 27)), (1, .ref (ad a1)), (2, vi x2), (3, vi x3), (4, vi x4)]) rfl ?_
      refine q_goto dX0_laySquare_38 12 (by decide) ?_
      refine q_loc (loc' := [(0, .ref (ad 27)), (1, .ref (ad a1)), (2, vi x2), (3, vi x3), (4, vi x4), (5, vi (x5 + 1))]) [1, 2, 3, 4, 5, 0] rfl ?_
      exact ih a1 x2 x3 x4 (x5 + 1) h32 ha1 hf
def bX0_laySquare_3 (self : Nat → Int → Int → Int → HP → Option (Int × HP)) (a1 : Nat) (x2 : Int) (x3 : Int) (x4 : Int) (h : HP) : Option (Int × HP) :=
  if wi x4 ≤ wi x3 then (LX0_laySquare_12 self FU a1 x2 x3 x4 0 h) else (some (0, h))
def LX0_laySquare_3 : Nat → Nat → Int → Int → Int → HP → Option (Int × HP)
  | 0 => fun _ _ _ _ _ => none
  | n + 1 => bX0_laySquare_3 (LX0_laySquare_3 n)
set_option maxRecDepth 20000 in
theorem tX0_laySquare_3 {l : Launch} {D : va_G} {ad : Nat → Nat} {cI cR : ClassId} {Z : Int × HP} : ∀ (n : Nat) (a1 : Nat) (x2 : Int) (x3 : Int) (x4 : Int) (h : HP), isArr a1 = true → LX0_laySquare_3 n a1 x2 x3 x4 h = some Z → Rn (sdC l D ad cI cR) mX0_laySquare (rv Z) 3 [(0, .ref (ad 27)), (1, .ref (ad a1)), (2, vi x2), (3, vi x3), (4, vi x4)] [] h := by
  intro n
  induction n with
  | zero => intro a1 x2 x3 x4 h ha1 hf; cases hf
  | succ n ih =>
    intro a1 x2 x3 x4 h ha1 hf
    replace hf : bX0_laySquare_3 (LX0_laySquare_3 n) a1 x2 x3 x4 h = some Z := hf
    unfold bX0_laySquare_3 at hf
    refine q_iload dX0_laySquare_3 4 rfl ?_
    refine q_iloadn dX0_laySquare_5 3 rfl ?_
    refine q_icmp_gt hf dX0_laySquare_6 47 (by decide) (fun hf => ?_) (fun hf => ?_)
    · exact q_vret hf rfl dX0_laySquare_47
    · refine q_iconst dX0_laySquare_9 ?_
      refine q_istore dX0_laySquare_10 rfl (loc' := [(5, vi 0), (0, .ref (ad 27)), (1, .ref (ad a1)), (2, vi x2), (3, vi x3), (4, vi x4)]) rfl ?_
      refine q_loc (loc' := [(0, .ref (ad 27)), (1, .ref (ad a1)), (2, vi x2), (3, vi x3), (4, vi x4), (5, vi 0)]) [1, 2, 3, 4, 5, 0] rfl ?_
      exact tX0_laySquare_12 ih FU a1 x2 x3 x4 0 h ha1 hf
def fX0_laySquare (a1 : Nat) (x2 : Int) (x3 : Int) (h : HP) : Option (Int × HP) :=
  LX0_laySquare_3 FU a1 x2 x3 0 h
set_option maxRecDepth 20000 in
theorem ctX0_laySquare {l : Launch} {D : va_G} {ad : Nat → Nat} {cI cR : ClassId} {a1 : Nat} {x2 : Int} {x3 : Int} {h : HP} {Z : Int × HP} (ha1 : isArr a1 = true) (hf : fX0_laySquare a1 x2 x3 h = some Z) : Ct (sdC l D ad cI cR) mX0_laySquare [.ref (ad 27), .ref (ad a1), vi x2, vi x3] h (rv Z) := by
  refine Ct.ofF nX0_laySquare rfl (loc := [(0, .ref (ad 27)), (1, .ref (ad a1)), (2, vi x2), (3, vi x3)]) rfl ?_
  unfold fX0_laySquare at hf
  refine q_iconst dX0_laySquare_0 ?_
  refine q_istore dX0_laySquare_1 rfl (loc' := [(4, vi 0), (0, .ref (ad 27)), (1, .ref (ad a1)), (2, vi x2), (3, vi x3)]) rfl ?_
  refine q_loc (loc' := [(0, .ref (ad 27)), (1, .ref (ad a1)), (2, vi x2), (3, vi x3), (4, vi 0)]) [1, 2, 3, 4, 0] rfl ?_
  exact tX0_laySquare_3 FU a1 x2 x3 0 h ha1 hf
def bX0_layPowers_15 (k3 : Nat → Int → Nat → Int → Int → HP → Option (Int × HP)) (self : Nat → Int → Nat → Int → Int → Int → Int → HP → Option (Int × HP)) (a1 : Nat) (x2 : Int) (a3 : Nat) (x4 : Int) (x5 : Int) (x6 : Int) (x7 : Int) (h : HP) : Option (Int × HP) :=
  if wi x7 ≤ wi x4 then (cl (fX0_set x7 x5 x6 h) fun _ h29 => cl (fX3_number a1 x5 h29) fun r37 h37 => lt (rm (x6 * r37)) fun x6_45 => self a1 x2 a3 x4 x5 x6_45 (x7 + 1) h37) else (k3 a1 x2 a3 x4 (x5 + 1) h)
def LX0_layPowers_15 (k3 : Nat → Int → Nat → Int → Int → HP → Option (Int × HP)) : Nat → Nat → Int → Nat → Int → Int → Int → Int → HP → Option (Int × HP)
  | 0 => fun _ _ _ _ _ _ _ _ => none
  | n + 1 => bX0_layPowers_15 k3 (LX0_layPowers_15 k3 n)
set_option maxRecDepth 20000 in
theorem tX0_layPowers_15 {l : Launch} {D : va_G} {ad : Nat → Nat} {cI cR : ClassId} {Z : Int × HP} {k3 : Nat → Int → Nat → Int → Int → HP → Option (Int × HP)} (hk3 : ∀ (a1 : Nat) (x2 : Int) (a3 : Nat) (x4 : Int) (x5 : Int) (h : HP), isSh a1 = true → isArr a3 = true → k3 a1 x2 a3 x4 x5 h = some Z → Rn (sdC l D ad cI cR) mX0_layPowers (rv Z) 3 [(0, .ref (ad 27)), (1, .ref (ad a1)), (2, vi x2), (3, .ref (ad a3)), (4, vi x4), (5, vi x5)] [] h) : ∀ (n : Nat) (a1 : Nat) (x2 : Int) (a3 : Nat) (x4 : Int) (x5 : Int) (x6 : Int) (x7 : Int) (h : HP), isSh a1 = true → isArr a3 = true → LX0_layPowers_15 k3 n a1 x2 a3 x4 x5 x6 x7 h = some Z → Rn (sdC l D ad cI cR) mX0_layPowers (rv Z) 15 [(0, .ref (ad 27)), (1, .ref (ad a1)), (2, vi x2), (3, .ref (ad a3)), (4, vi x4), (5, vi x5), (6, vi x6), (7, vi x7)] [] h := by
  intro n
  induction n with
  | zero => intro a1 x2 a3 x4 x5 x6 x7 h ha1 ha3 hf; cases hf
  | succ n ih =>
    intro a1 x2 a3 x4 x5 x6 x7 h ha1 ha3 hf
    replace hf : bX0_layPowers_15 k3 (LX0_layPowers_15 k3 n) a1 x2 a3 x4 x5 x6 x7 h = some Z := hf
    unfold bX0_layPowers_15 at hf
    refine q_iload dX0_layPowers_15 7 rfl ?_
    refine q_iload dX0_layPowers_17 4 rfl ?_
    refine q_icmp_gt hf dX0_layPowers_19 53 (by decide) (fun hf => ?_) (fun hf => ?_)
    · refine q_iinc dX0_layPowers_53 5 rfl rfl (loc' := [(5, vi (x5 + 1)), (0, .ref (ad 27)), (1, .ref (ad a1)), (2, vi x2), (3, .ref (ad a3)), (4, vi x4), (6, vi x6), (7, vi x7)]) rfl ?_
      refine q_goto dX0_layPowers_56 3 (by decide) ?_
      refine q_loc (loc' := [(0, .ref (ad 27)), (1, .ref (ad a1)), (2, vi x2), (3, .ref (ad a3)), (4, vi x4), (5, vi (x5 + 1))]) [1, 2, 3, 4, 5, 0] rfl ?_
      exact hk3 a1 x2 a3 x4 (x5 + 1) h ha1 ha3 hf
    · refine q_aloadn dX0_layPowers_22 0 rfl ?_
      refine q_iload dX0_layPowers_23 7 rfl ?_
      refine q_iload dX0_layPowers_25 5 rfl ?_
      refine q_iload dX0_layPowers_27 6 rfl ?_
      obtain ⟨r29, h29, e29, hf⟩ := q_cl hf
      refine q_cVv (av := [vi x7, vi x5, vi x6]) (rest := []) wC_27 (ctX0_set e29) kX0_set vX0_set zX0_set lkX0_25 rfl rfl rfl rfl rfl dX0_layPowers_29 ?_
      refine q_iload dX0_layPowers_32 6 rfl ?_
      refine q_aloadn dX0_layPowers_34 1 rfl ?_
      refine q_iload dX0_layPowers_35 5 rfl ?_
      obtain ⟨r37, h37, e37, hf⟩ := q_cl hf
      refine q_cVi (av := [vi x5]) (rest := [vi x6]) (wC_sh ha1) (ctX3_number ha1 e37) kX3_number vX3_number zX3_number lkX0_29 rfl rfl rfl rfl rfl dX0_layPowers_37 ?_
      refine q_imul dX0_layPowers_40 ?_
      refine q_sipush dX0_layPowers_41 (by decide) ?_
      refine q_irmP dX0_layPowers_44 ?_
      refine q_lt hf (fun x6_45 hf => ?_)
      refine q_istore dX0_layPowers_45 rfl (loc' := [(6, vi x6_45), (0, .ref (ad 27)), (1, .ref (ad a1)), (2, vi x2), (3, .ref (ad a3)), (4, vi x4), (5, vi x5), (7, vi x7)]) rfl ?_
      refine q_iinc dX0_layPowers_47 7 rfl rfl (loc' := [(7, vi (x7 + 1)), (6, vi x6_45), (0, .ref (ad 27)), (1, .ref (ad a1)), (2, vi x2), (3, .ref (ad a3)), (4, vi x4), (5, vi x5)]) rfl ?_
      refine q_goto dX0_layPowers_50 15 (by decide) ?_
      refine q_loc (loc' := [(0, .ref (ad 27)), (1, .ref (ad a1)), (2, vi x2), (3, .ref (ad a3)), (4, vi x4), (5, vi x5), (6, vi x6_45), (7, vi (x7 + 1))]) [2, 3, 4, 5, 6, 7, 1, 0] rfl ?_
      exact ih a1 x2 a3 x4 x5 x6_45 (x7 + 1) h37 ha1 ha3 hf
def bX0_layPowers_62 (self : Int → Nat → Int → Int → HP → Option (Int × HP)) (x2 : Int) (a3 : Nat) (x4 : Int) (x5 : Int) (h : HP) : Option (Int × HP) :=
  if wi x5 ≤ wi x4 then (ld (lnC a3) (h a3) x5 fun v76 => cl (fX0_set x5 x2 v76 h) fun _ h77 => self x2 a3 x4 (x5 + 1) h77) else (some (0, h))
def LX0_layPowers_62 : Nat → Int → Nat → Int → Int → HP → Option (Int × HP)
  | 0 => fun _ _ _ _ _ => none
  | n + 1 => bX0_layPowers_62 (LX0_layPowers_62 n)
set_option maxRecDepth 20000 in
theorem tX0_layPowers_62 {l : Launch} {D : va_G} {ad : Nat → Nat} {cI cR : ClassId} {Z : Int × HP} : ∀ (n : Nat) (x2 : Int) (a3 : Nat) (x4 : Int) (x5 : Int) (h : HP), isArr a3 = true → LX0_layPowers_62 n x2 a3 x4 x5 h = some Z → Rn (sdC l D ad cI cR) mX0_layPowers (rv Z) 62 [(0, .ref (ad 27)), (2, vi x2), (3, .ref (ad a3)), (4, vi x4), (5, vi x5)] [] h := by
  intro n
  induction n with
  | zero => intro x2 a3 x4 x5 h ha3 hf; cases hf
  | succ n ih =>
    intro x2 a3 x4 x5 h ha3 hf
    replace hf : bX0_layPowers_62 (LX0_layPowers_62 n) x2 a3 x4 x5 h = some Z := hf
    unfold bX0_layPowers_62 at hf
    refine q_iload dX0_layPowers_62 4 rfl ?_
    refine q_iload dX0_layPowers_64 3 rfl ?_
    refine q_icmp_gt hf dX0_layPowers_66 86 (by decide) (fun hf => ?_) (fun hf => ?_)
    · exact q_vret hf rfl dX0_layPowers_86
    · refine q_aloadn dX0_layPowers_69 0 rfl ?_
      refine q_iload dX0_layPowers_70 4 rfl ?_
      refine q_iloadn dX0_layPowers_72 1 rfl ?_
      refine q_aloadn dX0_layPowers_73 2 rfl ?_
      refine q_iload dX0_layPowers_74 4 rfl ?_
      refine C_ld hf dX0_layPowers_76 (fun v76 hf => ?_)
      obtain ⟨r77, h77, e77, hf⟩ := q_cl hf
      refine q_cVv (av := [vi x5, vi x2, vi v76]) (rest := []) wC_27 (ctX0_set e77) kX0_set vX0_set zX0_set lkX0_25 rfl rfl rfl rfl rfl dX0_layPowers_77 ?_
      refine q_iinc dX0_layPowers_80 4 rfl rfl (loc' := [(5, vi (x5 + 1)), (0, .ref (ad 27)), (2, vi x2), (3, .ref (ad a3)), (4, vi x4)]) rfl ?_
      refine q_goto dX0_layPowers_83 62 (by decide) ?_
      refine q_loc (loc' := [(0, .ref (ad 27)), (2, vi x2), (3, .ref (ad a3)), (4, vi x4), (5, vi (x5 + 1))]) [1, 2, 3, 4, 0] rfl ?_
      exact ih x2 a3 x4 (x5 + 1) h77 ha3 hf
def bX0_layPowers_3 (self : Nat → Int → Nat → Int → Int → HP → Option (Int × HP)) (a1 : Nat) (x2 : Int) (a3 : Nat) (x4 : Int) (x5 : Int) (h : HP) : Option (Int × HP) :=
  if wi x5 < wi x2 then (LX0_layPowers_15 self FU a1 x2 a3 x4 x5 1 0 h) else (LX0_layPowers_62 FU x2 a3 x4 0 h)
def LX0_layPowers_3 : Nat → Nat → Int → Nat → Int → Int → HP → Option (Int × HP)
  | 0 => fun _ _ _ _ _ _ => none
  | n + 1 => bX0_layPowers_3 (LX0_layPowers_3 n)
set_option maxRecDepth 20000 in
theorem tX0_layPowers_3 {l : Launch} {D : va_G} {ad : Nat → Nat} {cI cR : ClassId} {Z : Int × HP} : ∀ (n : Nat) (a1 : Nat) (x2 : Int) (a3 : Nat) (x4 : Int) (x5 : Int) (h : HP), isSh a1 = true → isArr a3 = true → LX0_layPowers_3 n a1 x2 a3 x4 x5 h = some Z → Rn (sdC l D ad cI cR) mX0_layPowers (rv Z) 3 [(0, .ref (ad 27)), (1, .ref (ad a1)), (2, vi x2), (3, .ref (ad a3)), (4, vi x4), (5, vi x5)] [] h := by
  intro n
  induction n with
  | zero => intro a1 x2 a3 x4 x5 h ha1 ha3 hf; cases hf
  | succ n ih =>
    intro a1 x2 a3 x4 x5 h ha1 ha3 hf
    replace hf : bX0_layPowers_3 (LX0_layPowers_3 n) a1 x2 a3 x4 x5 h = some Z := hf
    unfold bX0_layPowers_3 at hf
    refine q_iload dX0_layPowers_3 5 rfl ?_
    refine q_iloadn dX0_layPowers_5 2 rfl ?_
    refine q_icmp_ge hf dX0_layPowers_6 59 (by decide) (fun hf => ?_) (fun hf => ?_)
    · refine q_iconst dX0_layPowers_59 ?_
      refine q_istore dX0_layPowers_60 rfl (loc' := [(5, vi 0), (0, .ref (ad 27)), (1, .ref (ad a1)), (2, vi x2), (3, .ref (ad a3)), (4, vi x4)]) rfl ?_
      refine q_loc (loc' := [(0, .ref (ad 27)), (2, vi x2), (3, .ref (ad a3)), (4, vi x4), (5, vi 0)]) [1, 3, 4, 5, 0] rfl ?_
      exact tX0_layPowers_62 FU x2 a3 x4 0 h ha3 hf
    · refine q_iconst dX0_layPowers_9 ?_
      refine q_istore dX0_layPowers_10 rfl (loc' := [(6, vi 1), (0, .ref (ad 27)), (1, .ref (ad a1)), (2, vi x2), (3, .ref (ad a3)), (4, vi x4), (5, vi x5)]) rfl ?_
      refine q_iconst dX0_layPowers_12 ?_
      refine q_istore dX0_layPowers_13 rfl (loc' := [(7, vi 0), (6, vi 1), (0, .ref (ad 27)), (1, .ref (ad a1)), (2, vi x2), (3, .ref (ad a3)), (4, vi x4), (5, vi x5)]) rfl ?_
      refine q_loc (loc' := [(0, .ref (ad 27)), (1, .ref (ad a1)), (2, vi x2), (3, .ref (ad a3)), (4, vi x4), (5, vi x5), (6, vi 1), (7, vi 0)]) [2, 3, 4, 5, 6, 7, 1, 0] rfl ?_
      exact tX0_layPowers_15 ih FU a1 x2 a3 x4 x5 1 0 h ha1 ha3 hf
def fX0_layPowers (a1 : Nat) (x2 : Int) (a3 : Nat) (x4 : Int) (h : HP) : Option (Int × HP) :=
  LX0_layPowers_3 FU a1 x2 a3 x4 0 h
set_option maxRecDepth 20000 in
theorem ctX0_layPowers {l : Launch} {D : va_G} {ad : Nat → Nat} {cI cR : ClassId} {a1 : Nat} {x2 : Int} {a3 : Nat} {x4 : Int} {h : HP} {Z : Int × HP} (ha1 : isSh a1 = true) (ha3 : isArr a3 = true) (hf : fX0_layPowers a1 x2 a3 x4 h = some Z) : Ct (sdC l D ad cI cR) mX0_layPowers [.ref (ad 27), .ref (ad a1), vi x2, .ref (ad a3), vi x4] h (rv Z) := by
  refine Ct.ofF nX0_layPowers rfl (loc := [(0, .ref (ad 27)), (1, .ref (ad a1)), (2, vi x2), (3, .ref (ad a3)), (4, vi x4)]) rfl ?_
  unfold fX0_layPowers at hf
  refine q_iconst dX0_layPowers_0 ?_
  refine q_istore dX0_layPowers_1 rfl (loc' := [(5, vi 0), (0, .ref (ad 27)), (1, .ref (ad a1)), (2, vi x2), (3, .ref (ad a3)), (4, vi x4)]) rfl ?_
  refine q_loc (loc' := [(0, .ref (ad 27)), (1, .ref (ad a1)), (2, vi x2), (3, .ref (ad a3)), (4, vi x4), (5, vi 0)]) [1, 2, 3, 4, 5, 0] rfl ?_
  exact tX0_layPowers_3 FU a1 x2 a3 x4 0 h ha1 ha3 hf
def bX0_rowWith_3 (self : Int → Int → Int → HP → Option (Int × HP)) (x1 : Int) (x3 : Int) (x4 : Int) (h : HP) : Option (Int × HP) :=
  if wi x4 < wi x3 then (cl (fX0_at x4 x1 h) fun r13 h13 => if wi r13 = 0 then (self x1 x3 (x4 + 1) h13) else (some (x4, h13))) else (some ((-1), h))
def LX0_rowWith_3 : Nat → Int → Int → Int → HP → Option (Int × HP)
  | 0 => fun _ _ _ _ => none
  | n + 1 => bX0_rowWith_3 (LX0_rowWith_3 n)
set_option maxRecDepth 20000 in
theorem tX0_rowWith_3 {l : Launch} {D : va_G} {ad : Nat → Nat} {cI cR : ClassId} {Z : Int × HP} : ∀ (n : Nat) (x1 : Int) (x3 : Int) (x4 : Int) (h : HP), LX0_rowWith_3 n x1 x3 x4 h = some Z → Rn (sdC l D ad cI cR) mX0_rowWith (ri Z) 3 [(0, .ref (ad 27)), (1, vi x1), (3, vi x3), (4, vi x4)] [] h := by
  intro n
  induction n with
  | zero => intro x1 x3 x4 h hf; cases hf
  | succ n ih =>
    intro x1 x3 x4 h hf
    replace hf : bX0_rowWith_3 (LX0_rowWith_3 n) x1 x3 x4 h = some Z := hf
    unfold bX0_rowWith_3 at hf
    refine q_iload dX0_rowWith_3 3 rfl ?_
    refine q_iloadn dX0_rowWith_5 2 rfl ?_
    refine q_icmp_ge hf dX0_rowWith_6 28 (by decide) (fun hf => ?_) (fun hf => ?_)
    · refine q_iconst dX0_rowWith_28 ?_
      exact q_iret hf rfl dX0_rowWith_29
    · refine q_aloadn dX0_rowWith_9 0 rfl ?_
      refine q_iload dX0_rowWith_10 3 rfl ?_
      refine q_iloadn dX0_rowWith_12 1 rfl ?_
      obtain ⟨r13, h13, e13, hf⟩ := q_cl hf
      refine q_cVi (av := [vi x4, vi x1]) (rest := []) wC_27 (ctX0_at e13) kX0_at vX0_at zX0_at lkX0_52 rfl rfl rfl rfl rfl dX0_rowWith_13 ?_
      refine q_if_eq hf dX0_rowWith_16 22 (by decide) (fun hf => ?_) (fun hf => ?_)
      · refine q_iinc dX0_rowWith_22 3 rfl rfl (loc' := [(4, vi (x4 + 1)), (0, .ref (ad 27)), (1, vi x1), (3, vi x3)]) rfl ?_
        refine q_goto dX0_rowWith_25 3 (by decide) ?_
        refine q_loc (loc' := [(0, .ref (ad 27)), (1, vi x1), (3, vi x3), (4, vi (x4 + 1))]) [1, 2, 3, 0] rfl ?_
        exact ih x1 x3 (x4 + 1) h13 hf
      · refine q_iload dX0_rowWith_19 3 rfl ?_
        exact q_iret hf rfl dX0_rowWith_21
def fX0_rowWith (x1 : Int) (x2 : Int) (x3 : Int) (h : HP) : Option (Int × HP) :=
  LX0_rowWith_3 FU x1 x3 x2 h
set_option maxRecDepth 20000 in
theorem ctX0_rowWith {l : Launch} {D : va_G} {ad : Nat → Nat} {cI cR : ClassId} {x1 : Int} {x2 : Int} {x3 : Int} {h : HP} {Z : Int × HP} (hf : fX0_rowWith x1 x2 x3 h = some Z) : Ct (sdC l D ad cI cR) mX0_rowWith [.ref (ad 27), vi x1, vi x2, vi x3] h (ri Z) := by
  refine Ct.ofF nX0_rowWith rfl (loc := [(0, .ref (ad 27)), (1, vi x1), (2, vi x2), (3, vi x3)]) rfl ?_
  unfold fX0_rowWith at hf
  refine q_iloadn dX0_rowWith_0 2 rfl ?_
  refine q_istore dX0_rowWith_1 rfl (loc' := [(4, vi x2), (0, .ref (ad 27)), (1, vi x1), (2, vi x2), (3, vi x3)]) rfl ?_
  refine q_loc (loc' := [(0, .ref (ad 27)), (1, vi x1), (3, vi x3), (4, vi x2)]) [1, 2, 4, 0] rfl ?_
  exact tX0_rowWith_3 FU x1 x3 x2 h hf
def bX0_bringUp_21 (self : Int → Int → Int → Int → HP → Option (Int × HP)) (x1 : Int) (x2 : Int) (x3 : Int) (x4 : Int) (h : HP) : Option (Int × HP) :=
  if wi x4 < wi x3 then (cl (fX0_at x2 x4 h) fun r31 h31 => cl (fX0_at x1 x4 h31) fun r44 h44 => cl (fX0_set x2 x4 r44 h44) fun _ h47 => cl (fX0_set x1 x4 r31 h47) fun _ h56 => self x1 x2 x3 (x4 + 1) h56) else (some (0, h))
def LX0_bringUp_21 : Nat → Int → Int → Int → Int → HP → Option (Int × HP)
  | 0 => fun _ _ _ _ _ => none
  | n + 1 => bX0_bringUp_21 (LX0_bringUp_21 n)
set_option maxRecDepth 20000 in
theorem tX0_bringUp_21 {l : Launch} {D : va_G} {ad : Nat → Nat} {cI cR : ClassId} {Z : Int × HP} : ∀ (n : Nat) (x1 : Int) (x2 : Int) (x3 : Int) (x4 : Int) (h : HP), LX0_bringUp_21 n x1 x2 x3 x4 h = some Z → Rn (sdC l D ad cI cR) mX0_bringUp (rv Z) 21 [(0, .ref (ad 27)), (1, vi x1), (2, vi x2), (3, vi x3), (4, vi x4)] [] h := by
  intro n
  induction n with
  | zero => intro x1 x2 x3 x4 h hf; cases hf
  | succ n ih =>
    intro x1 x2 x3 x4 h hf
    replace hf : bX0_bringUp_21 (LX0_bringUp_21 n) x1 x2 x3 x4 h = some Z := hf
    unfold bX0_bringUp_21 at hf
    refine q_iload dX0_bringUp_21 4 rfl ?_
    refine q_iloadn dX0_bringUp_23 3 rfl ?_
    refine q_icmp_ge hf dX0_bringUp_24 65 (by decide) (fun hf => ?_) (fun hf => ?_)
    · exact q_vret hf rfl dX0_bringUp_65
    · refine q_aloadn dX0_bringUp_27 0 rfl ?_
      refine q_iloadn dX0_bringUp_28 2 rfl ?_
      refine q_iload dX0_bringUp_29 4 rfl ?_
      obtain ⟨r31, h31, e31, hf⟩ := q_cl hf
      refine q_cVi (av := [vi x2, vi x4]) (rest := []) wC_27 (ctX0_at e31) kX0_at vX0_at zX0_at lkX0_52 rfl rfl rfl rfl rfl dX0_bringUp_31 ?_
      refine q_istore dX0_bringUp_34 rfl (loc' := [(5, vi r31), (0, .ref (ad 27)), (1, vi x1), (2, vi x2), (3, vi x3), (4, vi x4)]) rfl ?_
      refine q_aloadn dX0_bringUp_36 1 rfl ?_
      refine q_iloadn dX0_bringUp_37 3 rfl ?_
      refine q_iload dX0_bringUp_38 5 rfl ?_
      refine q_aloadn dX0_bringUp_40 1 rfl ?_
      refine q_iloadn dX0_bringUp_41 2 rfl ?_
      refine q_iload dX0_bringUp_42 5 rfl ?_
      obtain ⟨r44, h44, e44, hf⟩ := q_cl hf
      refine q_cVi (av := [vi x1, vi x4]) (rest := [vi x4, vi x2, .ref (ad 27)]) wC_27 (ctX0_at e44) kX0_at vX0_at zX0_at lkX0_52 rfl rfl rfl rfl rfl dX0_bringUp_44 ?_
      obtain ⟨r47, h47, e47, hf⟩ := q_cl hf
      refine q_cVv (av := [vi x2, vi x4, vi r44]) (rest := []) wC_27 (ctX0_set e47) kX0_set vX0_set zX0_set lkX0_25 rfl rfl rfl rfl rfl dX0_bringUp_47 ?_
      refine q_aloadn dX0_bringUp_50 1 rfl ?_
      refine q_iloadn dX0_bringUp_51 2 rfl ?_
      refine q_iload dX0_bringUp_52 5 rfl ?_
      refine q_iload dX0_bringUp_54 0 rfl ?_
      obtain ⟨r56, h56, e56, hf⟩ := q_cl hf
      refine q_cVv (av := [vi x1, vi x4, vi r31]) (rest := []) wC_27 (ctX0_set e56) kX0_set vX0_set zX0_set lkX0_25 rfl rfl rfl rfl rfl dX0_bringUp_56 ?_
      refine q_iinc dX0_bringUp_59 5 rfl rfl (loc' := [(4, vi (x4 + 1)), (5, vi r31), (0, .ref (ad 27)), (1, vi x1), (2, vi x2), (3, vi x3)]) rfl ?_
      refine q_goto dX0_bringUp_62 21 (by decide) ?_
      refine q_loc (loc' := [(0, .ref (ad 27)), (1, vi x1), (2, vi x2), (3, vi x3), (4, vi (x4 + 1))]) [2, 3, 4, 5, 0] rfl ?_
      exact ih x1 x2 x3 (x4 + 1) h56 hf
def fX0_bringUp (x1 : Int) (x2 : Int) (x3 : Int) (h : HP) : Option (Int × HP) :=
  if wi x1 = wi x2 then (some (0, h)) else (pf h 27 1 (10007 - (h 27 1)) fun h15 => LX0_bringUp_21 FU x1 x2 x3 0 h15)
set_option maxRecDepth 20000 in
theorem ctX0_bringUp {l : Launch} {D : va_G} {ad : Nat → Nat} {cI cR : ClassId} {x1 : Int} {x2 : Int} {x3 : Int} {h : HP} {Z : Int × HP} (hf : fX0_bringUp x1 x2 x3 h = some Z) : Ct (sdC l D ad cI cR) mX0_bringUp [.ref (ad 27), vi x1, vi x2, vi x3] h (rv Z) := by
  refine Ct.ofF nX0_bringUp rfl (loc := [(0, .ref (ad 27)), (1, vi x1), (2, vi x2), (3, vi x3)]) rfl ?_
  unfold fX0_bringUp at hf
  refine q_iloadn dX0_bringUp_0 1 rfl ?_
  refine q_iloadn dX0_bringUp_1 2 rfl ?_
  refine q_icmp_ne hf dX0_bringUp_2 6 (by decide) (fun hf => ?_) (fun hf => ?_)
  · refine q_aloadn dX0_bringUp_6 0 rfl ?_
    refine q_sipush dX0_bringUp_7 (by decide) ?_
    refine q_aloadn dX0_bringUp_10 0 rfl ?_
    refine C_g0_1 flX0_15 dX0_bringUp_11 ?_
    refine q_isub dX0_bringUp_14 ?_
    refine C_p0_1 hf flX0_15 dX0_bringUp_15 (fun h15 hf => ?_)
    refine q_iconst dX0_bringUp_18 ?_
    refine q_istore dX0_bringUp_19 rfl (loc' := [(4, vi 0), (0, .ref (ad 27)), (1, vi x1), (2, vi x2), (3, vi x3)]) rfl ?_
    refine q_loc (loc' := [(0, .ref (ad 27)), (1, vi x1), (2, vi x2), (3, vi x3), (4, vi 0)]) [1, 2, 3, 4, 0] rfl ?_
    exact tX0_bringUp_21 FU x1 x2 x3 0 h15 hf
  · exact q_vret hf rfl dX0_bringUp_5
def bX0_divideRow_33 (self : Int → Int → Int → Int → HP → Option (Int × HP)) (x1 : Int) (x3 : Int) (x5 : Int) (x6 : Int) (h : HP) : Option (Int × HP) :=
  if wi x6 < wi x3 then (cl (fX0_at x1 x6 h) fun r47 h47 => cl (fX0_set x1 x6 (rm (r47 * x5)) h47) fun _ h57 => self x1 x3 x5 (x6 + 1) h57) else (some (0, h))
def LX0_divideRow_33 : Nat → Int → Int → Int → Int → HP → Option (Int × HP)
  | 0 => fun _ _ _ _ _ => none
  | n + 1 => bX0_divideRow_33 (LX0_divideRow_33 n)
set_option maxRecDepth 20000 in
theorem tX0_divideRow_33 {l : Launch} {D : va_G} {ad : Nat → Nat} {cI cR : ClassId} {Z : Int × HP} : ∀ (n : Nat) (x1 : Int) (x3 : Int) (x5 : Int) (x6 : Int) (h : HP), LX0_divideRow_33 n x1 x3 x5 x6 h = some Z → Rn (sdC l D ad cI cR) mX0_divideRow (rv Z) 33 [(0, .ref (ad 27)), (1, vi x1), (3, vi x3), (5, vi x5), (6, vi x6)] [] h := by
  intro n
  induction n with
  | zero => intro x1 x3 x5 x6 h hf; cases hf
  | succ n ih =>
    intro x1 x3 x5 x6 h hf
    replace hf : bX0_divideRow_33 (LX0_divideRow_33 n) x1 x3 x5 x6 h = some Z := hf
    unfold bX0_divideRow_33 at hf
    refine q_iload dX0_divideRow_33 4 rfl ?_
    refine q_iloadn dX0_divideRow_35 2 rfl ?_
    refine q_icmp_ge hf dX0_divideRow_36 66 (by decide) (fun hf => ?_) (fun hf => ?_)
    · exact q_vret hf rfl dX0_divideRow_66
    · refine q_aloadn dX0_divideRow_39 0 rfl ?_
      refine q_iloadn dX0_divideRow_40 1 rfl ?_
      refine q_iload dX0_divideRow_41 4 rfl ?_
      refine q_aloadn dX0_divideRow_43 0 rfl ?_
      refine q_iloadn dX0_divideRow_44 1 rfl ?_
      refine q_iload dX0_divideRow_45 4 rfl ?_
      obtain ⟨r47, h47, e47, hf⟩ := q_cl hf
      refine q_cVi (av := [vi x1, vi x6]) (rest := [vi x6, vi x1, .ref (ad 27)]) wC_27 (ctX0_at e47) kX0_at vX0_at zX0_at lkX0_52 rfl rfl rfl rfl rfl dX0_divideRow_47 ?_
      refine q_iload dX0_divideRow_50 3 rfl ?_
      refine q_imul dX0_divideRow_52 ?_
      refine q_sipush dX0_divideRow_53 (by decide) ?_
      refine q_irmP dX0_divideRow_56 ?_
      obtain ⟨r57, h57, e57, hf⟩ := q_cl hf
      refine q_cVv (av := [vi x1, vi x6, vi (rm (r47 * x5))]) (rest := []) wC_27 (ctX0_set e57) kX0_set vX0_set zX0_set lkX0_25 rfl rfl rfl rfl rfl dX0_divideRow_57 ?_
      refine q_iinc dX0_divideRow_60 4 rfl rfl (loc' := [(6, vi (x6 + 1)), (0, .ref (ad 27)), (1, vi x1), (3, vi x3), (5, vi x5)]) rfl ?_
      refine q_goto dX0_divideRow_63 33 (by decide) ?_
      refine q_loc (loc' := [(0, .ref (ad 27)), (1, vi x1), (3, vi x3), (5, vi x5), (6, vi (x6 + 1))]) [1, 2, 3, 4, 0] rfl ?_
      exact ih x1 x3 x5 (x6 + 1) h57 hf
def fX0_divideRow (x1 : Int) (x2 : Int) (x3 : Int) (h : HP) : Option (Int × HP) :=
  cl (fX0_at x1 x2 h) fun r3 h3 => pf h3 27 1 (rm ((h3 27 1) * r3)) fun h20 => cl (fX1_inverse r3 h20) fun r25 h25 => LX0_divideRow_33 FU x1 x3 r25 0 h25
set_option maxRecDepth 20000 in
theorem ctX0_divideRow {l : Launch} {D : va_G} {ad : Nat → Nat} {cI cR : ClassId} {x1 : Int} {x2 : Int} {x3 : Int} {h : HP} {Z : Int × HP} (hf : fX0_divideRow x1 x2 x3 h = some Z) : Ct (sdC l D ad cI cR) mX0_divideRow [.ref (ad 27), vi x1, vi x2, vi x3] h (rv Z) := by
  refine Ct.ofF nX0_divideRow rfl (loc := [(0, .ref (ad 27)), (1, vi x1), (2, vi x2), (3, vi x3)]) rfl ?_
  unfold fX0_divideRow at hf
  refine q_aloadn dX0_divideRow_0 0 rfl ?_
  refine q_iloadn dX0_divideRow_1 1 rfl ?_
  refine q_iloadn dX0_divideRow_2 2 rfl ?_
  obtain ⟨r3, h3, e3, hf⟩ := q_cl hf
  refine q_cVi (av := [vi x1, vi x2]) (rest := []) wC_27 (ctX0_at e3) kX0_at vX0_at zX0_at lkX0_52 rfl rfl rfl rfl rfl dX0_divideRow_3 ?_
  refine q_istore dX0_divideRow_6 rfl (loc' := [(4, vi r3), (0, .ref (ad 27)), (1, vi x1), (2, vi x2), (3, vi x3)]) rfl ?_
  refine q_aloadn dX0_divideRow_8 1 rfl ?_
  refine q_aloadn dX0_divideRow_9 1 rfl ?_
  refine C_g0_1 flX0_15 dX0_divideRow_10 ?_
  refine q_iload dX0_divideRow_13 0 rfl ?_
  refine q_imul dX0_divideRow_15 ?_
  refine q_sipush dX0_divideRow_16 (by decide) ?_
  refine q_irmP dX0_divideRow_19 ?_
  refine C_p0_1 hf flX0_15 dX0_divideRow_20 (fun h20 hf => ?_)
  refine q_iload dX0_divideRow_23 0 rfl ?_
  obtain ⟨r25, h25, e25, hf⟩ := q_cl hf
  refine q_cSi (av := [vi r3]) (rest := []) (ctX1_inverse e25) kX1_inverse uX1_inverse lkX0_56 rfl rfl rfl dX0_divideRow_25 ?_
  refine q_istore dX0_divideRow_28 rfl (loc' := [(5, vi r25), (4, vi r3), (0, .ref (ad 27)), (1, vi x1), (2, vi x2), (3, vi x3)]) rfl ?_
  refine q_iconst dX0_divideRow_30 ?_
  refine q_istore dX0_divideRow_31 rfl (loc' := [(6, vi 0), (5, vi r25), (4, vi r3), (0, .ref (ad 27)), (1, vi x1), (2, vi x2), (3, vi x3)]) rfl ?_
  refine q_loc (loc' := [(0, .ref (ad 27)), (1, vi x1), (3, vi x3), (5, vi r25), (6, vi 0)]) [3, 4, 6, 1, 0] rfl ?_
  exact tX0_divideRow_33 FU x1 x3 r25 0 h25 hf
def bX0_clearPlace_39 (k3 : Int → Int → Int → Int → Int → HP → Option (Int × HP)) (self : Int → Int → Int → Int → Int → Int → Int → HP → Option (Int × HP)) (x1 : Int) (x2 : Int) (x3 : Int) (x4 : Int) (x5 : Int) (x6 : Int) (x7 : Int) (h : HP) : Option (Int × HP) :=
  if wi x7 < wi x4 then (cl (fX0_at x5 x7 h) fun r56 h56 => cl (fX0_at x2 x7 h56) fun r65 h65 => cl (fX0_set x5 x7 (rm (r56 + (x6 * r65))) h65) fun _ h74 => self x1 x2 x3 x4 x5 x6 (x7 + 1) h74) else (k3 x1 x2 x3 x4 (x5 + 1) h)
def LX0_clearPlace_39 (k3 : Int → Int → Int → Int → Int → HP → Option (Int × HP)) : Nat → Int → Int → Int → Int → Int → Int → Int → HP → Option (Int × HP)
  | 0 => fun _ _ _ _ _ _ _ _ => none
  | n + 1 => bX0_clearPlace_39 k3 (LX0_clearPlace_39 k3 n)
set_option maxRecDepth 20000 in
theorem tX0_clearPlace_39 {l : Launch} {D : va_G} {ad : Nat → Nat} {cI cR : ClassId} {Z : Int × HP} {k3 : Int → Int → Int → Int → Int → HP → Option (Int × HP)} (hk3 : ∀ (x1 : Int) (x2 : Int) (x3 : Int) (x4 : Int) (x5 : Int) (h : HP), k3 x1 x2 x3 x4 x5 h = some Z → Rn (sdC l D ad cI cR) mX0_clearPlace (rv Z) 3 [(0, .ref (ad 27)), (1, vi x1), (2, vi x2), (3, vi x3), (4, vi x4), (5, vi x5)] [] h) : ∀ (n : Nat) (x1 : Int) (x2 : Int) (x3 : Int) (x4 : Int) (x5 : Int) (x6 : Int) (x7 : Int) (h : HP), LX0_clearPlace_39 k3 n x1 x2 x3 x4 x5 x6 x7 h = some Z → Rn (sdC l D ad cI cR) mX0_clearPlace (rv Z) 39 [(0, .ref (ad 27)), (1, vi x1), (2, vi x2), (3, vi x3), (4, vi x4), (5, vi x5), (6, vi x6), (7, vi x7)] [] h := by
  intro n
  induction n with
  | zero => intro x1 x2 x3 x4 x5 x6 x7 h hf; cases hf
  | succ n ih =>
    intro x1 x2 x3 x4 x5 x6 x7 h hf
    replace hf : bX0_clearPlace_39 k3 (LX0_clearPlace_39 k3 n) x1 x2 x3 x4 x5 x6 x7 h = some Z := hf
    unfold bX0_clearPlace_39 at hf
    refine q_iload dX0_clearPlace_39 7 rfl ?_
    refine q_iload dX0_clearPlace_41 4 rfl ?_
    refine q_icmp_ge hf dX0_clearPlace_43 83 (by decide) (fun hf => ?_) (fun hf => ?_)
    · refine q_iinc dX0_clearPlace_83 5 rfl rfl (loc' := [(5, vi (x5 + 1)), (0, .ref (ad 27)), (1, vi x1), (2, vi x2), (3, vi x3), (4, vi x4), (6, vi x6), (7, vi x7)]) rfl ?_
      refine q_goto dX0_clearPlace_86 3 (by decide) ?_
      refine q_loc (loc' := [(0, .ref (ad 27)), (1, vi x1), (2, vi x2), (3, vi x3), (4, vi x4), (5, vi (x5 + 1))]) [1, 2, 3, 4, 5, 0] rfl ?_
      exact hk3 x1 x2 x3 x4 (x5 + 1) h hf
    · refine q_aloadn dX0_clearPlace_46 0 rfl ?_
      refine q_iload dX0_clearPlace_47 5 rfl ?_
      refine q_iload dX0_clearPlace_49 7 rfl ?_
      refine q_aloadn dX0_clearPlace_51 0 rfl ?_
      refine q_iload dX0_clearPlace_52 5 rfl ?_
      refine q_iload dX0_clearPlace_54 7 rfl ?_
      obtain ⟨r56, h56, e56, hf⟩ := q_cl hf
      refine q_cVi (av := [vi x5, vi x7]) (rest := [vi x7, vi x5, .ref (ad 27)]) wC_27 (ctX0_at e56) kX0_at vX0_at zX0_at lkX0_52 rfl rfl rfl rfl rfl dX0_clearPlace_56 ?_
      refine q_iload dX0_clearPlace_59 6 rfl ?_
      refine q_aloadn dX0_clearPlace_61 0 rfl ?_
      refine q_iloadn dX0_clearPlace_62 2 rfl ?_
      refine q_iload dX0_clearPlace_63 7 rfl ?_
      obtain ⟨r65, h65, e65, hf⟩ := q_cl hf
      refine q_cVi (av := [vi x2, vi x7]) (rest := [vi x6, vi r56, vi x7, vi x5, .ref (ad 27)]) wC_27 (ctX0_at e65) kX0_at vX0_at zX0_at lkX0_52 rfl rfl rfl rfl rfl dX0_clearPlace_65 ?_
      refine q_imul dX0_clearPlace_68 ?_
      refine q_iadd dX0_clearPlace_69 ?_
      refine q_sipush dX0_clearPlace_70 (by decide) ?_
      refine q_irmP dX0_clearPlace_73 ?_
      obtain ⟨r74, h74, e74, hf⟩ := q_cl hf
      refine q_cVv (av := [vi x5, vi x7, vi (rm (r56 + (x6 * r65)))]) (rest := []) wC_27 (ctX0_set e74) kX0_set vX0_set zX0_set lkX0_25 rfl rfl rfl rfl rfl dX0_clearPlace_74 ?_
      refine q_iinc dX0_clearPlace_77 7 rfl rfl (loc' := [(7, vi (x7 + 1)), (0, .ref (ad 27)), (1, vi x1), (2, vi x2), (3, vi x3), (4, vi x4), (5, vi x5), (6, vi x6)]) rfl ?_
      refine q_goto dX0_clearPlace_80 39 (by decide) ?_
      refine q_loc (loc' := [(0, .ref (ad 27)), (1, vi x1), (2, vi x2), (3, vi x3), (4, vi x4), (5, vi x5), (6, vi x6), (7, vi (x7 + 1))]) [1, 2, 3, 4, 5, 6, 7, 0] rfl ?_
      exact ih x1 x2 x3 x4 x5 x6 (x7 + 1) h74 hf
def bX0_clearPlace_3 (self : Int → Int → Int → Int → Int → HP → Option (Int × HP)) (x1 : Int) (x2 : Int) (x3 : Int) (x4 : Int) (x5 : Int) (h : HP) : Option (Int × HP) :=
  if wi x5 < wi x3 then (cl (fX0_at x5 x1 h) fun r16 h16 => lt (10007 - r16) fun x6_20 => if wi x5 = wi x2 then (self x1 x2 x3 x4 (x5 + 1) h16) else (if wi x6_20 = wi 10007 then (self x1 x2 x3 x4 (x5 + 1) h16) else (LX0_clearPlace_39 self FU x1 x2 x3 x4 x5 x6_20 0 h16))) else (some (0, h))
def LX0_clearPlace_3 : Nat → Int → Int → Int → Int → Int → HP → Option (Int × HP)
  | 0 => fun _ _ _ _ _ _ => none
  | n + 1 => bX0_clearPlace_3 (LX0_clearPlace_3 n)
set_option maxRecDepth 20000 in
theorem tX0_clearPlace_3 {l : Launch} {D : va_G} {ad : Nat → Nat} {cI cR : ClassId} {Z : Int × HP} : ∀ (n : Nat) (x1 : Int) (x2 : Int) (x3 : Int) (x4 : Int) (x5 : Int) (h : HP), LX0_clearPlace_3 n x1 x2 x3 x4 x5 h = some Z → Rn (sdC l D ad cI cR) mX0_clearPlace (rv Z) 3 [(0, .ref (ad 27)), (1, vi x1), (2, vi x2), (3, vi x3), (4, vi x4), (5, vi x5)] [] h := by
  intro n
  induction n with
  | zero => intro x1 x2 x3 x4 x5 h hf; cases hf
  | succ n ih =>
    intro x1 x2 x3 x4 x5 h hf
    replace hf : bX0_clearPlace_3 (LX0_clearPlace_3 n) x1 x2 x3 x4 x5 h = some Z := hf
    unfold bX0_clearPlace_3 at hf
    refine q_iload dX0_clearPlace_3 5 rfl ?_
    refine q_iloadn dX0_clearPlace_5 3 rfl ?_
    refine q_icmp_ge hf dX0_clearPlace_6 89 (by decide) (fun hf => ?_) (fun hf => ?_)
    · exact q_vret hf rfl dX0_clearPlace_89
    · refine q_sipush dX0_clearPlace_9 (by decide) ?_
      refine q_aloadn dX0_clearPlace_12 0 rfl ?_
      refine q_iload dX0_clearPlace_13 5 rfl ?_
      refine q_iloadn dX0_clearPlace_15 1 rfl ?_
      obtain ⟨r16, h16, e16, hf⟩ := q_cl hf
      refine q_cVi (av := [vi x5, vi x1]) (rest := [vi 10007]) wC_27 (ctX0_at e16) kX0_at vX0_at zX0_at lkX0_52 rfl rfl rfl rfl rfl dX0_clearPlace_16 ?_
      refine q_isub dX0_clearPlace_19 ?_
      refine q_lt hf (fun x6_20 hf => ?_)
      refine q_istore dX0_clearPlace_20 rfl (loc' := [(6, vi x6_20), (0, .ref (ad 27)), (1, vi x1), (2, vi x2), (3, vi x3), (4, vi x4), (5, vi x5)]) rfl ?_
      refine q_iload dX0_clearPlace_22 6 rfl ?_
      refine q_iloadn dX0_clearPlace_24 3 rfl ?_
      refine q_icmp_eq hf dX0_clearPlace_25 83 (by decide) (fun hf => ?_) (fun hf => ?_)
      · refine q_iinc dX0_clearPlace_83 6 rfl rfl (loc' := [(5, vi (x5 + 1)), (6, vi x6_20), (0, .ref (ad 27)), (1, vi x1), (2, vi x2), (3, vi x3), (4, vi x4)]) rfl ?_
        refine q_goto dX0_clearPlace_86 3 (by decide) ?_
        refine q_loc (loc' := [(0, .ref (ad 27)), (1, vi x1), (2, vi x2), (3, vi x3), (4, vi x4), (5, vi (x5 + 1))]) [2, 3, 4, 5, 6, 0] rfl ?_
        exact ih x1 x2 x3 x4 (x5 + 1) h16 hf
      · refine q_iload dX0_clearPlace_28 0 rfl ?_
        refine q_sipush dX0_clearPlace_30 (by decide) ?_
        refine q_icmp_eq hf dX0_clearPlace_33 83 (by decide) (fun hf => ?_) (fun hf => ?_)
        · refine q_iinc dX0_clearPlace_83 6 rfl rfl (loc' := [(5, vi (x5 + 1)), (6, vi x6_20), (0, .ref (ad 27)), (1, vi x1), (2, vi x2), (3, vi x3), (4, vi x4)]) rfl ?_
          refine q_goto dX0_clearPlace_86 3 (by decide) ?_
          refine q_loc (loc' := [(0, .ref (ad 27)), (1, vi x1), (2, vi x2), (3, vi x3), (4, vi x4), (5, vi (x5 + 1))]) [2, 3, 4, 5, 6, 0] rfl ?_
          exact ih x1 x2 x3 x4 (x5 + 1) h16 hf
        · refine q_iconst dX0_clearPlace_36 ?_
          refine q_istore dX0_clearPlace_37 rfl (loc' := [(7, vi 0), (6, vi x6_20), (0, .ref (ad 27)), (1, vi x1), (2, vi x2), (3, vi x3), (4, vi x4), (5, vi x5)]) rfl ?_
          refine q_loc (loc' := [(0, .ref (ad 27)), (1, vi x1), (2, vi x2), (3, vi x3), (4, vi x4), (5, vi x5), (6, vi x6_20), (7, vi 0)]) [2, 3, 4, 5, 6, 7, 1, 0] rfl ?_
          exact tX0_clearPlace_39 ih FU x1 x2 x3 x4 x5 x6_20 0 h16 hf
def fX0_clearPlace (x1 : Int) (x2 : Int) (x3 : Int) (x4 : Int) (h : HP) : Option (Int × HP) :=
  LX0_clearPlace_3 FU x1 x2 x3 x4 0 h
set_option maxRecDepth 20000 in
theorem ctX0_clearPlace {l : Launch} {D : va_G} {ad : Nat → Nat} {cI cR : ClassId} {x1 : Int} {x2 : Int} {x3 : Int} {x4 : Int} {h : HP} {Z : Int × HP} (hf : fX0_clearPlace x1 x2 x3 x4 h = some Z) : Ct (sdC l D ad cI cR) mX0_clearPlace [.ref (ad 27), vi x1, vi x2, vi x3, vi x4] h (rv Z) := by
  refine Ct.ofF nX0_clearPlace rfl (loc := [(0, .ref (ad 27)), (1, vi x1), (2, vi x2), (3, vi x3), (4, vi x4)]) rfl ?_
  unfold fX0_clearPlace at hf
  refine q_iconst dX0_clearPlace_0 ?_
  refine q_istore dX0_clearPlace_1 rfl (loc' := [(5, vi 0), (0, .ref (ad 27)), (1, vi x1), (2, vi x2), (3, vi x3), (4, vi x4)]) rfl ?_
  refine q_loc (loc' := [(0, .ref (ad 27)), (1, vi x1), (2, vi x2), (3, vi x3), (4, vi x4), (5, vi 0)]) [1, 2, 3, 4, 5, 0] rfl ?_
  exact tX0_clearPlace_3 FU x1 x2 x3 x4 0 h hf
def bX0_reduce_11 (self : Int → Int → Int → Int → Int → HP → Option (Int × HP)) (x1 : Int) (x2 : Int) (x3 : Int) (x4 : Int) (x5 : Int) (h : HP) : Option (Int × HP) :=
  if wi x5 < wi x3 then (if wi x4 < wi x1 then (cl (fX0_rowWith x5 x4 x1 h) fun r29 h29 => if wi r29 = wi (-1) then (self x1 x2 x3 x4 (x5 + 1) h29) else (cl (fX0_bringUp r29 x4 x2 h29) fun _ h46 => cl (fX0_divideRow x4 x5 x2 h46) fun _ h55 => cl (fX0_clearPlace x5 x4 x1 x2 h55) fun _ h65 => self x1 x2 x3 (x4 + 1) (x5 + 1) h65)) else (some (x4, h))) else (some (x4, h))
def LX0_reduce_11 : Nat → Int → Int → Int → Int → Int → HP → Option (Int × HP)
  | 0 => fun _ _ _ _ _ _ => none
  | n + 1 => bX0_reduce_11 (LX0_reduce_11 n)
set_option maxRecDepth 20000 in
theorem tX0_reduce_11 {l : Launch} {D : va_G} {ad : Nat → Nat} {cI cR : ClassId} {Z : Int × HP} : ∀ (n : Nat) (x1 : Int) (x2 : Int) (x3 : Int) (x4 : Int) (x5 : Int) (h : HP), LX0_reduce_11 n x1 x2 x3 x4 x5 h = some Z → Rn (sdC l D ad cI cR) mX0_reduce (ri Z) 11 [(0, .ref (ad 27)), (1, vi x1), (2, vi x2), (3, vi x3), (4, vi x4), (5, vi x5)] [] h := by
  intro n
  induction n with
  | zero => intro x1 x2 x3 x4 x5 h hf; cases hf
  | succ n ih =>
    intro x1 x2 x3 x4 x5 h hf
    replace hf : bX0_reduce_11 (LX0_reduce_11 n) x1 x2 x3 x4 x5 h = some Z := hf
    unfold bX0_reduce_11 at hf
    refine q_iload dX0_reduce_11 5 rfl ?_
    refine q_iloadn dX0_reduce_13 3 rfl ?_
    refine q_icmp_ge hf dX0_reduce_14 77 (by decide) (fun hf => ?_) (fun hf => ?_)
    · refine q_iload dX0_reduce_77 4 rfl ?_
      exact q_iret hf rfl dX0_reduce_79
    · refine q_iload dX0_reduce_17 4 rfl ?_
      refine q_iloadn dX0_reduce_19 1 rfl ?_
      refine q_icmp_ge hf dX0_reduce_20 77 (by decide) (fun hf => ?_) (fun hf => ?_)
      · refine q_iload dX0_reduce_77 4 rfl ?_
        exact q_iret hf rfl dX0_reduce_79
      · refine q_aloadn dX0_reduce_23 0 rfl ?_
        refine q_iload dX0_reduce_24 5 rfl ?_
        refine q_iload dX0_reduce_26 4 rfl ?_
        refine q_iloadn dX0_reduce_28 1 rfl ?_
        obtain ⟨r29, h29, e29, hf⟩ := q_cl hf
        refine q_cVi (av := [vi x5, vi x4, vi x1]) (rest := []) wC_27 (ctX0_rowWith e29) kX0_rowWith vX0_rowWith zX0_rowWith lkX0_39 rfl rfl rfl rfl rfl dX0_reduce_29 ?_
        refine q_istore dX0_reduce_32 rfl (loc' := [(6, vi r29), (0, .ref (ad 27)), (1, vi x1), (2, vi x2), (3, vi x3), (4, vi x4), (5, vi x5)]) rfl ?_
        refine q_iload dX0_reduce_34 0 rfl ?_
        refine q_iconst dX0_reduce_36 ?_
        refine q_icmp_eq hf dX0_reduce_37 71 (by decide) (fun hf => ?_) (fun hf => ?_)
        · refine q_iinc dX0_reduce_71 6 rfl rfl (loc' := [(5, vi (x5 + 1)), (6, vi r29), (0, .ref (ad 27)), (1, vi x1), (2, vi x2), (3, vi x3), (4, vi x4)]) rfl ?_
          refine q_goto dX0_reduce_74 11 (by decide) ?_
          refine q_loc (loc' := [(0, .ref (ad 27)), (1, vi x1), (2, vi x2), (3, vi x3), (4, vi x4), (5, vi (x5 + 1))]) [2, 3, 4, 5, 6, 0] rfl ?_
          exact ih x1 x2 x3 x4 (x5 + 1) h29 hf
        · refine q_aloadn dX0_reduce_40 1 rfl ?_
          refine q_iload dX0_reduce_41 0 rfl ?_
          refine q_iload dX0_reduce_43 5 rfl ?_
          refine q_iloadn dX0_reduce_45 3 rfl ?_
          obtain ⟨r46, h46, e46, hf⟩ := q_cl hf
          refine q_cVv (av := [vi r29, vi x4, vi x2]) (rest := []) wC_27 (ctX0_bringUp e46) kX0_bringUp vX0_bringUp zX0_bringUp lkX0_42 rfl rfl rfl rfl rfl dX0_reduce_46 ?_
          refine q_aloadn dX0_reduce_49 1 rfl ?_
          refine q_iload dX0_reduce_50 5 rfl ?_
          refine q_iload dX0_reduce_52 6 rfl ?_
          refine q_iloadn dX0_reduce_54 3 rfl ?_
          obtain ⟨r55, h55, e55, hf⟩ := q_cl hf
          refine q_cVv (av := [vi x4, vi x5, vi x2]) (rest := []) wC_27 (ctX0_divideRow e55) kX0_divideRow vX0_divideRow zX0_divideRow lkX0_45 rfl rfl rfl rfl rfl dX0_reduce_55 ?_
          refine q_aloadn dX0_reduce_58 1 rfl ?_
          refine q_iload dX0_reduce_59 6 rfl ?_
          refine q_iload dX0_reduce_61 5 rfl ?_
          refine q_iloadn dX0_reduce_63 2 rfl ?_
          refine q_iloadn dX0_reduce_64 3 rfl ?_
          obtain ⟨r65, h65, e65, hf⟩ := q_cl hf
          refine q_cVv (av := [vi x5, vi x4, vi x1, vi x2]) (rest := []) wC_27 (ctX0_clearPlace e65) kX0_clearPlace vX0_clearPlace zX0_clearPlace lkX0_48 rfl rfl rfl rfl rfl dX0_reduce_65 ?_
          refine q_iinc dX0_reduce_68 5 rfl rfl (loc' := [(4, vi (x4 + 1)), (6, vi r29), (0, .ref (ad 27)), (1, vi x1), (2, vi x2), (3, vi x3), (5, vi x5)]) rfl ?_
          refine q_iinc dX0_reduce_71 6 rfl rfl (loc' := [(5, vi (x5 + 1)), (4, vi (x4 + 1)), (6, vi r29), (0, .ref (ad 27)), (1, vi x1), (2, vi x2), (3, vi x3)]) rfl ?_
          refine q_goto dX0_reduce_74 11 (by decide) ?_
          refine q_loc (loc' := [(0, .ref (ad 27)), (1, vi x1), (2, vi x2), (3, vi x3), (4, vi (x4 + 1)), (5, vi (x5 + 1))]) [3, 4, 5, 6, 1, 0] rfl ?_
          exact ih x1 x2 x3 (x4 + 1) (x5 + 1) h65 hf
def fX0_reduce (x1 : Int) (x2 : Int) (x3 : Int) (h : HP) : Option (Int × HP) :=
  pf h 27 1 1 fun h2 => LX0_reduce_11 FU x1 x2 x3 0 0 h2
set_option maxRecDepth 20000 in
theorem ctX0_reduce {l : Launch} {D : va_G} {ad : Nat → Nat} {cI cR : ClassId} {x1 : Int} {x2 : Int} {x3 : Int} {h : HP} {Z : Int × HP} (hf : fX0_reduce x1 x2 x3 h = some Z) : Ct (sdC l D ad cI cR) mX0_reduce [.ref (ad 27), vi x1, vi x2, vi x3] h (ri Z) := by
  refine Ct.ofF nX0_reduce rfl (loc := [(0, .ref (ad 27)), (1, vi x1), (2, vi x2), (3, vi x3)]) rfl ?_
  unfold fX0_reduce at hf
  refine q_aloadn dX0_reduce_0 0 rfl ?_
  refine q_iconst dX0_reduce_1 ?_
  refine C_p0_1 hf flX0_15 dX0_reduce_2 (fun h2 hf => ?_)
  refine q_iconst dX0_reduce_5 ?_
  refine q_istore dX0_reduce_6 rfl (loc' := [(4, vi 0), (0, .ref (ad 27)), (1, vi x1), (2, vi x2), (3, vi x3)]) rfl ?_
  refine q_iconst dX0_reduce_8 ?_
  refine q_istore dX0_reduce_9 rfl (loc' := [(5, vi 0), (4, vi 0), (0, .ref (ad 27)), (1, vi x1), (2, vi x2), (3, vi x3)]) rfl ?_
  refine q_loc (loc' := [(0, .ref (ad 27)), (1, vi x1), (2, vi x2), (3, vi x3), (4, vi 0), (5, vi 0)]) [2, 3, 4, 5, 1, 0] rfl ?_
  exact tX0_reduce_11 FU x1 x2 x3 0 0 h2 hf
def fX0_determinant (x1 : Int) (h : HP) : Option (Int × HP) :=
  cl (fX0_reduce x1 x1 x1 h) fun r4 h4 => if wi r4 = wi x1 then (some (h4 27 1, h4)) else (some (0, h4))
set_option maxRecDepth 20000 in
theorem ctX0_determinant {l : Launch} {D : va_G} {ad : Nat → Nat} {cI cR : ClassId} {x1 : Int} {h : HP} {Z : Int × HP} (hf : fX0_determinant x1 h = some Z) : Ct (sdC l D ad cI cR) mX0_determinant [.ref (ad 27), vi x1] h (ri Z) := by
  refine Ct.ofF nX0_determinant rfl (loc := [(0, .ref (ad 27)), (1, vi x1)]) rfl ?_
  unfold fX0_determinant at hf
  refine q_aloadn dX0_determinant_0 0 rfl ?_
  refine q_iloadn dX0_determinant_1 1 rfl ?_
  refine q_iloadn dX0_determinant_2 1 rfl ?_
  refine q_iloadn dX0_determinant_3 1 rfl ?_
  obtain ⟨r4, h4, e4, hf⟩ := q_cl hf
  refine q_cVi (av := [vi x1, vi x1, vi x1]) (rest := []) wC_27 (ctX0_reduce e4) kX0_reduce vX0_reduce zX0_reduce lkX0_35 rfl rfl rfl rfl rfl dX0_determinant_4 ?_
  refine q_iloadn dX0_determinant_7 1 rfl ?_
  refine q_icmp_ne hf dX0_determinant_8 18 (by decide) (fun hf => ?_) (fun hf => ?_)
  · refine q_iconst dX0_determinant_18 ?_
    exact q_iret hf rfl dX0_determinant_19
  · refine q_aloadn dX0_determinant_11 0 rfl ?_
    refine C_g0_1 flX0_15 dX0_determinant_12 ?_
    refine q_goto dX0_determinant_15 19 (by decide) ?_
    exact q_iret hf rfl dX0_determinant_19
