def fX3_isLost (a0 : Nat) (h : HP) : Option (Int × HP) :=
  if wi (h a0 2) = wi (-1) then (some (1, h)) else (some (0, h))
set_option maxRecDepth 20000 in
theorem ctX3_isLost {l : Launch} {D : va_G} {ad : Nat → Nat} {cI cR : ClassId} {a0 : Nat} {h : HP} {Z : Int × HP} (ha0 : isSh a0 = true) (hf : fX3_isLost a0 h = some Z) : Ct (sdC l D ad cI cR) mX3_isLost [.ref (ad a0)] h (ri Z) := by
  refine Ct.ofF nX3_isLost rfl (loc := [(0, .ref (ad a0))]) rfl ?_
  unfold fX3_isLost at hf
  refine q_aloadn dX3_isLost_0 0 rfl ?_
  refine C_g3_2 ha0 flX3_19 dX3_isLost_1 ?_
  refine q_iconst dX3_isLost_4 ?_
  refine q_icmp_ne hf dX3_isLost_5 12 (by decide) (fun hf => ?_) (fun hf => ?_)
  · refine q_iconst dX3_isLost_12 ?_
    exact q_zret hf rfl rfl dX3_isLost_13
  · refine q_iconst dX3_isLost_8 ?_
    refine q_goto dX3_isLost_9 13 (by decide) ?_
    exact q_zret hf rfl rfl dX3_isLost_13
def fX3_isForm (a0 : Nat) (h : HP) : Option (Int × HP) :=
  if wi 1 ≤ wi (h a0 2) then (if wi (h a0 2) ≤ wi 9 then (some (1, h)) else (some (0, h))) else (some (0, h))
set_option maxRecDepth 20000 in
theorem ctX3_isForm {l : Launch} {D : va_G} {ad : Nat → Nat} {cI cR : ClassId} {a0 : Nat} {h : HP} {Z : Int × HP} (ha0 : isSh a0 = true) (hf : fX3_isForm a0 h = some Z) : Ct (sdC l D ad cI cR) mX3_isForm [.ref (ad a0)] h (ri Z) := by
  refine Ct.ofF nX3_isForm rfl (loc := [(0, .ref (ad a0))]) rfl ?_
  unfold fX3_isForm at hf
  refine q_aloadn dX3_isForm_0 0 rfl ?_
  refine C_g3_2 ha0 flX3_19 dX3_isForm_1 ?_
  refine q_iconst dX3_isForm_4 ?_
  refine q_icmp_lt hf dX3_isForm_5 21 (by decide) (fun hf => ?_) (fun hf => ?_)
  · refine q_iconst dX3_isForm_21 ?_
    exact q_zret hf rfl rfl dX3_isForm_22
  · refine q_aloadn dX3_isForm_8 0 rfl ?_
    refine C_g3_2 ha0 flX3_19 dX3_isForm_9 ?_
    refine q_bipush dX3_isForm_12 (by decide) ?_
    refine q_icmp_gt hf dX3_isForm_14 21 (by decide) (fun hf => ?_) (fun hf => ?_)
    · refine q_iconst dX3_isForm_21 ?_
      exact q_zret hf rfl rfl dX3_isForm_22
    · refine q_iconst dX3_isForm_17 ?_
      refine q_goto dX3_isForm_18 22 (by decide) ?_
      exact q_zret hf rfl rfl dX3_isForm_22
def fX3_holds (a0 : Nat) (x1 : Int) (x2 : Int) (h : HP) : Option (Int × HP) :=
  if 0 ≤ wi x1 then (if 0 ≤ wi x2 then (if wi x2 ≤ wi ((h a0 2) - x1) then (some (1, h)) else (some (0, h))) else (some (0, h))) else (some (0, h))
set_option maxRecDepth 20000 in
theorem ctX3_holds {l : Launch} {D : va_G} {ad : Nat → Nat} {cI cR : ClassId} {a0 : Nat} {x1 : Int} {x2 : Int} {h : HP} {Z : Int × HP} (ha0 : isSh a0 = true) (hf : fX3_holds a0 x1 x2 h = some Z) : Ct (sdC l D ad cI cR) mX3_holds [.ref (ad a0), vi x1, vi x2] h (ri Z) := by
  refine Ct.ofF nX3_holds rfl (loc := [(0, .ref (ad a0)), (1, vi x1), (2, vi x2)]) rfl ?_
  unfold fX3_holds at hf
  refine q_iloadn dX3_holds_0 1 rfl ?_
  refine q_if_lt hf dX3_holds_1 22 (by decide) (fun hf => ?_) (fun hf => ?_)
  · refine q_iconst dX3_holds_22 ?_
    exact q_zret hf rfl rfl dX3_holds_23
  · refine q_iloadn dX3_holds_4 2 rfl ?_
    refine q_if_lt hf dX3_holds_5 22 (by decide) (fun hf => ?_) (fun hf => ?_)
    · refine q_iconst dX3_holds_22 ?_
      exact q_zret hf rfl rfl dX3_holds_23
    · refine q_iloadn dX3_holds_8 2 rfl ?_
      refine q_aloadn dX3_holds_9 0 rfl ?_
      refine C_g3_2 ha0 flX3_19 dX3_holds_10 ?_
      refine q_iloadn dX3_holds_13 1 rfl ?_
      refine q_isub dX3_holds_14 ?_
      refine q_icmp_gt hf dX3_holds_15 22 (by decide) (fun hf => ?_) (fun hf => ?_)
      · refine q_iconst dX3_holds_22 ?_
        exact q_zret hf rfl rfl dX3_holds_23
      · refine q_iconst dX3_holds_18 ?_
        refine q_goto dX3_holds_19 23 (by decide) ?_
        exact q_zret hf rfl rfl dX3_holds_23
def fX3_number (a0 : Nat) (x1 : Int) (h : HP) : Option (Int × HP) :=
  cl (fX3_holds a0 x1 1 h) fun r3 h3 => if wi r3 = 0 then (some (0, h3)) else (ld (lnC (a0 + 10)) (h3 (a0 + 10)) x1 fun v14 => cl (fX1_reduced v14 h3) fun r15 h15 => some (r15, h15))
set_option maxRecDepth 20000 in
theorem ctX3_number {l : Launch} {D : va_G} {ad : Nat → Nat} {cI cR : ClassId} {a0 : Nat} {x1 : Int} {h : HP} {Z : Int × HP} (ha0 : isSh a0 = true) (hf : fX3_number a0 x1 h = some Z) : Ct (sdC l D ad cI cR) mX3_number [.ref (ad a0), vi x1] h (ri Z) := by
  refine Ct.ofF nX3_number rfl (loc := [(0, .ref (ad a0)), (1, vi x1)]) rfl ?_
  unfold fX3_number at hf
  refine q_aloadn dX3_number_0 0 rfl ?_
  refine q_iloadn dX3_number_1 1 rfl ?_
  refine q_iconst dX3_number_2 ?_
  obtain ⟨r3, h3, e3, hf⟩ := q_cl hf
  refine q_cVi (av := [vi x1, vi 1]) (rest := []) (wC_sh ha0) (ctX3_holds ha0 e3) kX3_holds vX3_holds zX3_holds lkX3_26 rfl rfl rfl rfl rfl dX3_number_3 ?_
  refine q_if_eq hf dX3_number_6 21 (by decide) (fun hf => ?_) (fun hf => ?_)
  · refine q_iconst dX3_number_21 ?_
    exact q_iret hf rfl dX3_number_22
  · refine q_aloadn dX3_number_9 0 rfl ?_
    refine C_g3_0 ha0 flX3_9 dX3_number_10 ?_
    refine q_iloadn dX3_number_13 1 rfl ?_
    refine C_ld hf dX3_number_14 (fun v14 hf => ?_)
    obtain ⟨r15, h15, e15, hf⟩ := q_cl hf
    refine q_cSi (av := [vi v14]) (rest := []) (ctX1_reduced e15) kX1_reduced uX1_reduced lkX3_30 rfl rfl rfl dX3_number_15 ?_
    refine q_goto dX3_number_18 22 (by decide) ?_
    exact q_iret hf rfl dX3_number_22
def bX3_isNought_2 (self : Nat → Int → HP → Option (Int × HP)) (a0 : Nat) (x1 : Int) (h : HP) : Option (Int × HP) :=
  if wi x1 < wi (h a0 2) then (cl (fX3_number a0 x1 h) fun r12 h12 => if wi r12 = 0 then (self a0 (x1 + 1) h12) else (some (0, h12))) else (some (1, h))
def LX3_isNought_2 : Nat → Nat → Int → HP → Option (Int × HP)
  | 0 => fun _ _ _ => none
  | n + 1 => bX3_isNought_2 (LX3_isNought_2 n)
set_option maxRecDepth 20000 in
theorem tX3_isNought_2 {l : Launch} {D : va_G} {ad : Nat → Nat} {cI cR : ClassId} {Z : Int × HP} : ∀ (n : Nat) (a0 : Nat) (x1 : Int) (h : HP), isSh a0 = true → LX3_isNought_2 n a0 x1 h = some Z → Rn (sdC l D ad cI cR) mX3_isNought (ri Z) 2 [(0, .ref (ad a0)), (1, vi x1)] [] h := by
  intro n
  induction n with
  | zero => intro a0 x1 h ha0 hf; cases hf
  | succ n ih =>
    intro a0 x1 h ha0 hf
    replace hf : bX3_isNought_2 (LX3_isNought_2 n) a0 x1 h = some Z := hf
    unfold bX3_isNought_2 at hf
    refine q_iloadn dX3_isNought_2 1 rfl ?_
    refine q_aloadn dX3_isNought_3 0 rfl ?_
    refine C_g3_2 ha0 flX3_19 dX3_isNought_4 ?_
    refine q_icmp_ge hf dX3_isNought_7 26 (by decide) (fun hf => ?_) (fun hf => ?_)
    · refine q_iconst dX3_isNought_26 ?_
      exact q_zret hf rfl rfl dX3_isNought_27
    · refine q_aloadn dX3_isNought_10 0 rfl ?_
      refine q_iloadn dX3_isNought_11 1 rfl ?_
      obtain ⟨r12, h12, e12, hf⟩ := q_cl hf
      refine q_cVi (av := [vi x1]) (rest := []) (wC_sh ha0) (ctX3_number ha0 e12) kX3_number vX3_number zX3_number lkX3_22 rfl rfl rfl rfl rfl dX3_isNought_12 ?_
      refine q_if_eq hf dX3_isNought_15 20 (by decide) (fun hf => ?_) (fun hf => ?_)
      · refine q_iinc dX3_isNought_20 1 rfl rfl (loc' := [(1, vi (x1 + 1)), (0, .ref (ad a0))]) rfl ?_
        refine q_goto dX3_isNought_23 2 (by decide) ?_
        refine q_loc (loc' := [(0, .ref (ad a0)), (1, vi (x1 + 1))]) [1, 0] rfl ?_
        exact ih a0 (x1 + 1) h12 ha0 hf
      · refine q_iconst dX3_isNought_18 ?_
        exact q_zret hf rfl rfl dX3_isNought_19
def fX3_isNought (a0 : Nat) (h : HP) : Option (Int × HP) :=
  LX3_isNought_2 FU a0 0 h
set_option maxRecDepth 20000 in
theorem ctX3_isNought {l : Launch} {D : va_G} {ad : Nat → Nat} {cI cR : ClassId} {a0 : Nat} {h : HP} {Z : Int × HP} (ha0 : isSh a0 = true) (hf : fX3_isNought a0 h = some Z) : Ct (sdC l D ad cI cR) mX3_isNought [.ref (ad a0)] h (ri Z) := by
  refine Ct.ofF nX3_isNought rfl (loc := [(0, .ref (ad a0))]) rfl ?_
  unfold fX3_isNought at hf
  refine q_iconst dX3_isNought_0 ?_
  refine q_istoren dX3_isNought_1 rfl (loc' := [(1, vi 0), (0, .ref (ad a0))]) rfl ?_
  refine q_loc (loc' := [(0, .ref (ad a0)), (1, vi 0)]) [1, 0] rfl ?_
  exact tX3_isNought_2 FU a0 0 h ha0 hf
def fX3_top (a0 : Nat) (h : HP) : Option (Int × HP) :=
  some ((h a0 2) - 1, h)
set_option maxRecDepth 20000 in
theorem ctX3_top {l : Launch} {D : va_G} {ad : Nat → Nat} {cI cR : ClassId} {a0 : Nat} {h : HP} {Z : Int × HP} (ha0 : isSh a0 = true) (hf : fX3_top a0 h = some Z) : Ct (sdC l D ad cI cR) mX3_top [.ref (ad a0)] h (ri Z) := by
  refine Ct.ofF nX3_top rfl (loc := [(0, .ref (ad a0))]) rfl ?_
  unfold fX3_top at hf
  refine q_aloadn dX3_top_0 0 rfl ?_
  refine C_g3_2 ha0 flX3_19 dX3_top_1 ?_
  refine q_iconst dX3_top_4 ?_
  refine q_isub dX3_top_5 ?_
  exact q_iret hf rfl dX3_top_6
def bX3_startsUnlike_9 (k2 : Nat → Int → Int → HP → Option (Int × HP)) (self : Nat → Int → Int → Int → HP → Option (Int × HP)) (a0 : Nat) (x1 : Int) (x2 : Int) (x3 : Int) (h : HP) : Option (Int × HP) :=
  if wi x3 < wi x2 then (cl (fX3_number a0 x2 h) fun r16 h16 => cl (fX3_number a0 x3 h16) fun r21 h21 => if wi r16 = wi r21 then (some (0, h21)) else (self a0 x1 x2 (x3 + 1) h21)) else (k2 a0 x1 (x2 + 1) h)
def LX3_startsUnlike_9 (k2 : Nat → Int → Int → HP → Option (Int × HP)) : Nat → Nat → Int → Int → Int → HP → Option (Int × HP)
  | 0 => fun _ _ _ _ _ => none
  | n + 1 => bX3_startsUnlike_9 k2 (LX3_startsUnlike_9 k2 n)
set_option maxRecDepth 20000 in
theorem tX3_startsUnlike_9 {l : Launch} {D : va_G} {ad : Nat → Nat} {cI cR : ClassId} {Z : Int × HP} {k2 : Nat → Int → Int → HP → Option (Int × HP)} (hk2 : ∀ (a0 : Nat) (x1 : Int) (x2 : Int) (h : HP), isSh a0 = true → k2 a0 x1 x2 h = some Z → Rn (sdC l D ad cI cR) mX3_startsUnlike (ri Z) 2 [(0, .ref (ad a0)), (1, vi x1), (2, vi x2)] [] h) : ∀ (n : Nat) (a0 : Nat) (x1 : Int) (x2 : Int) (x3 : Int) (h : HP), isSh a0 = true → LX3_startsUnlike_9 k2 n a0 x1 x2 x3 h = some Z → Rn (sdC l D ad cI cR) mX3_startsUnlike (ri Z) 9 [(0, .ref (ad a0)), (1, vi x1), (2, vi x2), (3, vi x3)] [] h := by
  intro n
  induction n with
  | zero => intro a0 x1 x2 x3 h ha0 hf; cases hf
  | succ n ih =>
    intro a0 x1 x2 x3 h ha0 hf
    replace hf : bX3_startsUnlike_9 k2 (LX3_startsUnlike_9 k2 n) a0 x1 x2 x3 h = some Z := hf
    unfold bX3_startsUnlike_9 at hf
    refine q_iloadn dX3_startsUnlike_9 3 rfl ?_
    refine q_iloadn dX3_startsUnlike_10 2 rfl ?_
    refine q_icmp_ge hf dX3_startsUnlike_11 35 (by decide) (fun hf => ?_) (fun hf => ?_)
    · refine q_iinc dX3_startsUnlike_35 2 rfl rfl (loc' := [(2, vi (x2 + 1)), (0, .ref (ad a0)), (1, vi x1), (3, vi x3)]) rfl ?_
      refine q_goto dX3_startsUnlike_38 2 (by decide) ?_
      refine q_loc (loc' := [(0, .ref (ad a0)), (1, vi x1), (2, vi (x2 + 1))]) [1, 2, 0] rfl ?_
      exact hk2 a0 x1 (x2 + 1) h ha0 hf
    · refine q_aloadn dX3_startsUnlike_14 0 rfl ?_
      refine q_iloadn dX3_startsUnlike_15 2 rfl ?_
      obtain ⟨r16, h16, e16, hf⟩ := q_cl hf
      refine q_cVi (av := [vi x2]) (rest := []) (wC_sh ha0) (ctX3_number ha0 e16) kX3_number vX3_number zX3_number lkX3_22 rfl rfl rfl rfl rfl dX3_startsUnlike_16 ?_
      refine q_aloadn dX3_startsUnlike_19 0 rfl ?_
      refine q_iloadn dX3_startsUnlike_20 3 rfl ?_
      obtain ⟨r21, h21, e21, hf⟩ := q_cl hf
      refine q_cVi (av := [vi x3]) (rest := [vi r16]) (wC_sh ha0) (ctX3_number ha0 e21) kX3_number vX3_number zX3_number lkX3_22 rfl rfl rfl rfl rfl dX3_startsUnlike_21 ?_
      refine q_icmp_ne hf dX3_startsUnlike_24 29 (by decide) (fun hf => ?_) (fun hf => ?_)
      · refine q_iinc dX3_startsUnlike_29 3 rfl rfl (loc' := [(3, vi (x3 + 1)), (0, .ref (ad a0)), (1, vi x1), (2, vi x2)]) rfl ?_
        refine q_goto dX3_startsUnlike_32 9 (by decide) ?_
        refine q_loc (loc' := [(0, .ref (ad a0)), (1, vi x1), (2, vi x2), (3, vi (x3 + 1))]) [1, 2, 3, 0] rfl ?_
        exact ih a0 x1 x2 (x3 + 1) h21 ha0 hf
      · refine q_iconst dX3_startsUnlike_27 ?_
        exact q_zret hf rfl rfl dX3_startsUnlike_28
def bX3_startsUnlike_2 (self : Nat → Int → Int → HP → Option (Int × HP)) (a0 : Nat) (x1 : Int) (x2 : Int) (h : HP) : Option (Int × HP) :=
  if wi x2 < wi x1 then (LX3_startsUnlike_9 self FU a0 x1 x2 0 h) else (some (1, h))
def LX3_startsUnlike_2 : Nat → Nat → Int → Int → HP → Option (Int × HP)
  | 0 => fun _ _ _ _ => none
  | n + 1 => bX3_startsUnlike_2 (LX3_startsUnlike_2 n)
set_option maxRecDepth 20000 in
theorem tX3_startsUnlike_2 {l : Launch} {D : va_G} {ad : Nat → Nat} {cI cR : ClassId} {Z : Int × HP} : ∀ (n : Nat) (a0 : Nat) (x1 : Int) (x2 : Int) (h : HP), isSh a0 = true → LX3_startsUnlike_2 n a0 x1 x2 h = some Z → Rn (sdC l D ad cI cR) mX3_startsUnlike (ri Z) 2 [(0, .ref (ad a0)), (1, vi x1), (2, vi x2)] [] h := by
  intro n
  induction n with
  | zero => intro a0 x1 x2 h ha0 hf; cases hf
  | succ n ih =>
    intro a0 x1 x2 h ha0 hf
    replace hf : bX3_startsUnlike_2 (LX3_startsUnlike_2 n) a0 x1 x2 h = some Z := hf
    unfold bX3_startsUnlike_2 at hf
    refine q_iloadn dX3_startsUnlike_2 2 rfl ?_
    refine q_iloadn dX3_startsUnlike_3 1 rfl ?_
    refine q_icmp_ge hf dX3_startsUnlike_4 41 (by decide) (fun hf => ?_) (fun hf => ?_)
    · refine q_iconst dX3_startsUnlike_41 ?_
      exact q_zret hf rfl rfl dX3_startsUnlike_42
    · refine q_iconst dX3_startsUnlike_7 ?_
      refine q_istoren dX3_startsUnlike_8 rfl (loc' := [(3, vi 0), (0, .ref (ad a0)), (1, vi x1), (2, vi x2)]) rfl ?_
      refine q_loc (loc' := [(0, .ref (ad a0)), (1, vi x1), (2, vi x2), (3, vi 0)]) [1, 2, 3, 0] rfl ?_
      exact tX3_startsUnlike_9 ih FU a0 x1 x2 0 h ha0 hf
def fX3_startsUnlike (a0 : Nat) (x1 : Int) (h : HP) : Option (Int × HP) :=
  LX3_startsUnlike_2 FU a0 x1 0 h
set_option maxRecDepth 20000 in
theorem ctX3_startsUnlike {l : Launch} {D : va_G} {ad : Nat → Nat} {cI cR : ClassId} {a0 : Nat} {x1 : Int} {h : HP} {Z : Int × HP} (ha0 : isSh a0 = true) (hf : fX3_startsUnlike a0 x1 h = some Z) : Ct (sdC l D ad cI cR) mX3_startsUnlike [.ref (ad a0), vi x1] h (ri Z) := by
  refine Ct.ofF nX3_startsUnlike rfl (loc := [(0, .ref (ad a0)), (1, vi x1)]) rfl ?_
  unfold fX3_startsUnlike at hf
  refine q_iconst dX3_startsUnlike_0 ?_
  refine q_istoren dX3_startsUnlike_1 rfl (loc' := [(2, vi 0), (0, .ref (ad a0)), (1, vi x1)]) rfl ?_
  refine q_loc (loc' := [(0, .ref (ad a0)), (1, vi x1), (2, vi 0)]) [1, 2, 0] rfl ?_
  exact tX3_startsUnlike_2 FU a0 x1 0 h ha0 hf
def fX3_forget (a0 : Nat) (h : HP) : Option (Int × HP) :=
  pf h a0 2 (-1) fun h2 => some (0, h2)
set_option maxRecDepth 20000 in
theorem ctX3_forget {l : Launch} {D : va_G} {ad : Nat → Nat} {cI cR : ClassId} {a0 : Nat} {h : HP} {Z : Int × HP} (ha0 : isSh a0 = true) (hf : fX3_forget a0 h = some Z) : Ct (sdC l D ad cI cR) mX3_forget [.ref (ad a0)] h (rv Z) := by
  refine Ct.ofF nX3_forget rfl (loc := [(0, .ref (ad a0))]) rfl ?_
  unfold fX3_forget at hf
  refine q_aloadn dX3_forget_0 0 rfl ?_
  refine q_iconst dX3_forget_1 ?_
  refine C_p3_2 ha0 hf flX3_19 dX3_forget_2 (fun h2 hf => ?_)
  exact q_vret hf rfl dX3_forget_5
def bX3_renew_12 (self : Nat → Int → HP → Option (Int × HP)) (a0 : Nat) (x3 : Int) (h : HP) : Option (Int × HP) :=
  if wi x3 < wi 12 then (sto (lnC (a0 + 10)) h (a0 + 10) x3 0 fun h24 => self a0 (x3 + 1) h24) else (some (0, h))
def LX3_renew_12 : Nat → Nat → Int → HP → Option (Int × HP)
  | 0 => fun _ _ _ => none
  | n + 1 => bX3_renew_12 (LX3_renew_12 n)
set_option maxRecDepth 20000 in
theorem tX3_renew_12 {l : Launch} {D : va_G} {ad : Nat → Nat} {cI cR : ClassId} {Z : Int × HP} : ∀ (n : Nat) (a0 : Nat) (x3 : Int) (h : HP), isSh a0 = true → LX3_renew_12 n a0 x3 h = some Z → Rn (sdC l D ad cI cR) mX3_renew (rv Z) 12 [(0, .ref (ad a0)), (3, vi x3)] [] h := by
  intro n
  induction n with
  | zero => intro a0 x3 h ha0 hf; cases hf
  | succ n ih =>
    intro a0 x3 h ha0 hf
    replace hf : bX3_renew_12 (LX3_renew_12 n) a0 x3 h = some Z := hf
    unfold bX3_renew_12 at hf
    refine q_iloadn dX3_renew_12 1 rfl ?_
    refine q_bipush dX3_renew_13 (by decide) ?_
    refine q_icmp_ge hf dX3_renew_15 31 (by decide) (fun hf => ?_) (fun hf => ?_)
    · exact q_vret hf rfl dX3_renew_31
    · refine q_aloadn dX3_renew_18 0 rfl ?_
      refine C_g3_0 ha0 flX3_9 dX3_renew_19 ?_
      refine q_iloadn dX3_renew_22 1 rfl ?_
      refine q_iconst dX3_renew_23 ?_
      refine C_st hf dX3_renew_24 (fun h24 hf => ?_)
      refine q_iinc dX3_renew_25 1 rfl rfl (loc' := [(3, vi (x3 + 1)), (0, .ref (ad a0))]) rfl ?_
      refine q_goto dX3_renew_28 12 (by decide) ?_
      refine q_loc (loc' := [(0, .ref (ad a0)), (3, vi (x3 + 1))]) [1, 0] rfl ?_
      exact ih a0 (x3 + 1) h24 ha0 hf
def fX3_renew (a0 : Nat) (x1 : Int) (x2 : Int) (h : HP) : Option (Int × HP) :=
  pf h a0 1 x1 fun h2 => pf h2 a0 2 x2 fun h7 => LX3_renew_12 FU a0 0 h7
set_option maxRecDepth 20000 in
theorem ctX3_renew {l : Launch} {D : va_G} {ad : Nat → Nat} {cI cR : ClassId} {a0 : Nat} {x1 : Int} {x2 : Int} {h : HP} {Z : Int × HP} (ha0 : isSh a0 = true) (hf : fX3_renew a0 x1 x2 h = some Z) : Ct (sdC l D ad cI cR) mX3_renew [.ref (ad a0), vi x1, vi x2] h (rv Z) := by
  refine Ct.ofF nX3_renew rfl (loc := [(0, .ref (ad a0)), (1, vi x1), (2, vi x2)]) rfl ?_
  unfold fX3_renew at hf
  refine q_aloadn dX3_renew_0 0 rfl ?_
  refine q_iloadn dX3_renew_1 1 rfl ?_
  refine C_p3_1 ha0 hf flX3_15 dX3_renew_2 (fun h2 hf => ?_)
  refine q_aloadn dX3_renew_5 0 rfl ?_
  refine q_iloadn dX3_renew_6 2 rfl ?_
  refine C_p3_2 ha0 hf flX3_19 dX3_renew_7 (fun h7 hf => ?_)
  refine q_iconst dX3_renew_10 ?_
  refine q_istoren dX3_renew_11 rfl (loc' := [(3, vi 0), (0, .ref (ad a0)), (1, vi x1), (2, vi x2)]) rfl ?_
  refine q_loc (loc' := [(0, .ref (ad a0)), (3, vi 0)]) [1, 0] rfl ?_
  exact tX3_renew_12 FU a0 0 h7 ha0 hf
def fX3_store (a0 : Nat) (x1 : Int) (x2 : Int) (h : HP) : Option (Int × HP) :=
  cl (fX3_holds a0 x1 1 h) fun r3 h3 => if wi r3 = 0 then (some (0, h3)) else (if wi (h3 a0 1) = 0 then (sto (lnC (a0 + 10)) h3 (a0 + 10) x1 (b8 x2) fun h47 => some (0, h47)) else (if wi (h3 a0 1) = 1 then (sto (lnC (a0 + 10)) h3 (a0 + 10) x1 (b16 x2) fun h58 => some (0, h58)) else (sto (lnC (a0 + 10)) h3 (a0 + 10) x1 x2 fun h68 => some (0, h68))))
set_option maxRecDepth 20000 in
theorem ctX3_store {l : Launch} {D : va_G} {ad : Nat → Nat} {cI cR : ClassId} {a0 : Nat} {x1 : Int} {x2 : Int} {h : HP} {Z : Int × HP} (ha0 : isSh a0 = true) (hf : fX3_store a0 x1 x2 h = some Z) : Ct (sdC l D ad cI cR) mX3_store [.ref (ad a0), vi x1, vi x2] h (rv Z) := by
  refine Ct.ofF nX3_store rfl (loc := [(0, .ref (ad a0)), (1, vi x1), (2, vi x2)]) rfl ?_
  unfold fX3_store at hf
  refine q_aloadn dX3_store_0 0 rfl ?_
  refine q_iloadn dX3_store_1 1 rfl ?_
  refine q_iconst dX3_store_2 ?_
  obtain ⟨r3, h3, e3, hf⟩ := q_cl hf
  refine q_cVi (av := [vi x1, vi 1]) (rest := []) (wC_sh ha0) (ctX3_holds ha0 e3) kX3_holds vX3_holds zX3_holds lkX3_26 rfl rfl rfl rfl rfl dX3_store_3 ?_
  refine q_if_ne hf dX3_store_6 10 (by decide) (fun hf => ?_) (fun hf => ?_)
  · refine q_aloadn dX3_store_10 0 rfl ?_
    refine C_g3_1 ha0 flX3_15 dX3_store_11 ?_
    by_cases c14_0 : wi (h3 a0 1) = 0
    · rw [if_pos c14_0] at hf
      refine q_lsw (off := 26) dX3_store_14 rfl (by rw [c14_0]; first | done | rfl) 40 (by decide) ?_
      refine q_aloadn dX3_store_40 0 rfl ?_
      refine C_g3_0 ha0 flX3_9 dX3_store_41 ?_
      refine q_iloadn dX3_store_44 1 rfl ?_
      refine q_iloadn dX3_store_45 2 rfl ?_
      refine q_i2b dX3_store_46 ?_
      refine C_st hf dX3_store_47 (fun h47 hf => ?_)
      refine q_goto dX3_store_48 69 (by decide) ?_
      exact q_vret hf rfl dX3_store_69
    · rw [if_neg c14_0] at hf
      by_cases c14_1 : wi (h3 a0 1) = 1
      · rw [if_pos c14_1] at hf
        refine q_lsw (off := 37) dX3_store_14 rfl (by rw [c14_1]; first | done | rfl) 51 (by decide) ?_
        refine q_aloadn dX3_store_51 0 rfl ?_
        refine C_g3_0 ha0 flX3_9 dX3_store_52 ?_
        refine q_iloadn dX3_store_55 1 rfl ?_
        refine q_iloadn dX3_store_56 2 rfl ?_
        refine q_i2s dX3_store_57 ?_
        refine C_st hf dX3_store_58 (fun h58 hf => ?_)
        refine q_goto dX3_store_59 69 (by decide) ?_
        exact q_vret hf rfl dX3_store_69
      · rw [if_neg c14_1] at hf
        refine q_lsw (off := 48) dX3_store_14 rfl (by simp [Op.lookupswitch.offset, Ne.symm c14_0, Ne.symm c14_1]) 62 (by decide) ?_
        refine q_aloadn dX3_store_62 0 rfl ?_
        refine C_g3_0 ha0 flX3_9 dX3_store_63 ?_
        refine q_iloadn dX3_store_66 1 rfl ?_
        refine q_iloadn dX3_store_67 2 rfl ?_
        refine C_st hf dX3_store_68 (fun h68 hf => ?_)
        exact q_vret hf rfl dX3_store_69
  · exact q_vret hf rfl dX3_store_9
def bX3_become_8 (self : Nat → Nat → Int → Int → HP → Option (Int × HP)) (a0 : Nat) (a1 : Nat) (x2 : Int) (x3 : Int) (h : HP) : Option (Int × HP) :=
  if wi x3 < wi x2 then (if wi x3 < wi (((lnC a1 : Nat) : Int)) then (ld (lnC a1) (h a1) x3 fun v23 => cl (fX3_store a0 x3 v23 h) fun _ h24 => self a0 a1 x2 (x3 + 1) h24) else (some (0, h))) else (some (0, h))
def LX3_become_8 : Nat → Nat → Nat → Int → Int → HP → Option (Int × HP)
  | 0 => fun _ _ _ _ _ => none
  | n + 1 => bX3_become_8 (LX3_become_8 n)
set_option maxRecDepth 20000 in
theorem tX3_become_8 {l : Launch} {D : va_G} {ad : Nat → Nat} {cI cR : ClassId} {Z : Int × HP} : ∀ (n : Nat) (a0 : Nat) (a1 : Nat) (x2 : Int) (x3 : Int) (h : HP), isSh a0 = true → isArr a1 = true → LX3_become_8 n a0 a1 x2 x3 h = some Z → Rn (sdC l D ad cI cR) mX3_become (rv Z) 8 [(0, .ref (ad a0)), (1, .ref (ad a1)), (2, vi x2), (3, vi x3)] [] h := by
  intro n
  induction n with
  | zero => intro a0 a1 x2 x3 h ha0 ha1 hf; cases hf
  | succ n ih =>
    intro a0 a1 x2 x3 h ha0 ha1 hf
    replace hf : bX3_become_8 (LX3_become_8 n) a0 a1 x2 x3 h = some Z := hf
    unfold bX3_become_8 at hf
    refine q_iloadn dX3_become_8 3 rfl ?_
    refine q_iloadn dX3_become_9 2 rfl ?_
    refine q_icmp_ge hf dX3_become_10 33 (by decide) (fun hf => ?_) (fun hf => ?_)
    · exact q_vret hf rfl dX3_become_33
    · refine q_iloadn dX3_become_13 3 rfl ?_
      refine q_aloadn dX3_become_14 1 rfl ?_
      refine C_alen ha1 dX3_become_15 ?_
      refine q_icmp_ge hf dX3_become_16 33 (by decide) (fun hf => ?_) (fun hf => ?_)
      · exact q_vret hf rfl dX3_become_33
      · refine q_aloadn dX3_become_19 0 rfl ?_
        refine q_iloadn dX3_become_20 3 rfl ?_
        refine q_aloadn dX3_become_21 1 rfl ?_
        refine q_iloadn dX3_become_22 3 rfl ?_
        refine C_ld hf dX3_become_23 (fun v23 hf => ?_)
        obtain ⟨r24, h24, e24, hf⟩ := q_cl hf
        refine q_cVv (av := [vi x3, vi v23]) (rest := []) (wC_sh ha0) (ctX3_store ha0 e24) kX3_store vX3_store zX3_store lkX3_39 rfl rfl rfl rfl rfl dX3_become_24 ?_
        refine q_iinc dX3_become_27 3 rfl rfl (loc' := [(3, vi (x3 + 1)), (0, .ref (ad a0)), (1, .ref (ad a1)), (2, vi x2)]) rfl ?_
        refine q_goto dX3_become_30 8 (by decide) ?_
        refine q_loc (loc' := [(0, .ref (ad a0)), (1, .ref (ad a1)), (2, vi x2), (3, vi (x3 + 1))]) [1, 2, 3, 0] rfl ?_
        exact ih a0 a1 x2 (x3 + 1) h24 ha0 ha1 hf
def fX3_become (a0 : Nat) (a1 : Nat) (x2 : Int) (h : HP) : Option (Int × HP) :=
  cl (fX3_renew a0 2 x2 h) fun _ h3 => LX3_become_8 FU a0 a1 x2 0 h3
set_option maxRecDepth 20000 in
theorem ctX3_become {l : Launch} {D : va_G} {ad : Nat → Nat} {cI cR : ClassId} {a0 : Nat} {a1 : Nat} {x2 : Int} {h : HP} {Z : Int × HP} (ha0 : isSh a0 = true) (ha1 : isArr a1 = true) (hf : fX3_become a0 a1 x2 h = some Z) : Ct (sdC l D ad cI cR) mX3_become [.ref (ad a0), .ref (ad a1), vi x2] h (rv Z) := by
  refine Ct.ofF nX3_become rfl (loc := [(0, .ref (ad a0)), (1, .ref (ad a1)), (2, vi x2)]) rfl ?_
  unfold fX3_become at hf
  refine q_aloadn dX3_become_0 0 rfl ?_
  refine q_iconst dX3_become_1 ?_
  refine q_iloadn dX3_become_2 2 rfl ?_
  obtain ⟨r3, h3, e3, hf⟩ := q_cl hf
  refine q_cVv (av := [vi 2, vi x2]) (rest := []) (wC_sh ha0) (ctX3_renew ha0 e3) kX3_renew vX3_renew zX3_renew lkX3_35 rfl rfl rfl rfl rfl dX3_become_3 ?_
  refine q_iconst dX3_become_6 ?_
  refine q_istoren dX3_become_7 rfl (loc' := [(3, vi 0), (0, .ref (ad a0)), (1, .ref (ad a1)), (2, vi x2)]) rfl ?_
  refine q_loc (loc' := [(0, .ref (ad a0)), (1, .ref (ad a1)), (2, vi x2), (3, vi 0)]) [1, 2, 3, 0] rfl ?_
  exact tX3_become_8 FU a0 a1 x2 0 h3 ha0 ha1 hf
def bX3_addTo_15 (self : Nat → Int → Int → HP → Option (Int × HP)) (a0 : Nat) (x3 : Int) (x5 : Int) (h : HP) : Option (Int × HP) :=
  if wi x5 < wi (h a0 2) then (cl (fX3_number a0 x5 h) fun r32 h32 => lt ((31 * x3) + (wi r32)) fun x3_37 => self a0 x3_37 (x5 + 1) h32) else (some (x3, h))
def LX3_addTo_15 : Nat → Nat → Int → Int → HP → Option (Int × HP)
  | 0 => fun _ _ _ _ => none
  | n + 1 => bX3_addTo_15 (LX3_addTo_15 n)
set_option maxRecDepth 20000 in
theorem tX3_addTo_15 {l : Launch} {D : va_G} {ad : Nat → Nat} {cI cR : ClassId} {Z : Int × HP} : ∀ (n : Nat) (a0 : Nat) (x3 : Int) (x5 : Int) (h : HP), isSh a0 = true → LX3_addTo_15 n a0 x3 x5 h = some Z → Rn (sdC l D ad cI cR) mX3_addTo (rl Z) 15 [(0, .ref (ad a0)), (3, vl x3), (5, vi x5)] [] h := by
  intro n
  induction n with
  | zero => intro a0 x3 x5 h ha0 hf; cases hf
  | succ n ih =>
    intro a0 x3 x5 h ha0 hf
    replace hf : bX3_addTo_15 (LX3_addTo_15 n) a0 x3 x5 h = some Z := hf
    unfold bX3_addTo_15 at hf
    refine q_iload dX3_addTo_15 2 rfl ?_
    refine q_aloadn dX3_addTo_17 0 rfl ?_
    refine C_g3_2 ha0 flX3_19 dX3_addTo_18 ?_
    refine q_icmp_ge hf dX3_addTo_21 44 (by decide) (fun hf => ?_) (fun hf => ?_)
    · refine q_lloadn dX3_addTo_44 1 rfl ?_
      exact q_lret hf rfl dX3_addTo_45
    · refine q_ldc2 (n := 31) dX3_addTo_24 kcX3_42 ?_
      refine q_lloadn dX3_addTo_27 1 rfl ?_
      refine q_lmul dX3_addTo_28 ?_
      refine q_aloadn dX3_addTo_29 0 rfl ?_
      refine q_iload dX3_addTo_30 2 rfl ?_
      obtain ⟨r32, h32, e32, hf⟩ := q_cl hf
      refine q_cVi (av := [vi x5]) (rest := [vl (31 * x3)]) (wC_sh ha0) (ctX3_number ha0 e32) kX3_number vX3_number zX3_number lkX3_22 rfl rfl rfl rfl rfl dX3_addTo_32 ?_
      refine q_i2l dX3_addTo_35 ?_
      refine q_ladd dX3_addTo_36 ?_
      refine q_ltl hf (fun x3_37 hf => ?_)
      refine q_lstoren dX3_addTo_37 rfl (loc' := [(3, vl x3_37), (0, .ref (ad a0)), (5, vi x5)]) rfl ?_
      refine q_iinc dX3_addTo_38 2 rfl rfl (loc' := [(5, vi (x5 + 1)), (3, vl x3_37), (0, .ref (ad a0))]) rfl ?_
      refine q_goto dX3_addTo_41 15 (by decide) ?_
      refine q_loc (loc' := [(0, .ref (ad a0)), (3, vl x3_37), (5, vi (x5 + 1))]) [2, 1, 0] rfl ?_
      exact ih a0 x3_37 (x5 + 1) h32 ha0 hf
def fX3_addTo (a0 : Nat) (x1 : Int) (h : HP) : Option (Int × HP) :=
  cl (fX3_top a0 h) fun r6 h6 => lt ((31 * x1) + (wi r6)) fun x3_11 => LX3_addTo_15 FU a0 x3_11 0 h6
set_option maxRecDepth 20000 in
theorem ctX3_addTo {l : Launch} {D : va_G} {ad : Nat → Nat} {cI cR : ClassId} {a0 : Nat} {x1 : Int} {h : HP} {Z : Int × HP} (ha0 : isSh a0 = true) (hf : fX3_addTo a0 x1 h = some Z) : Ct (sdC l D ad cI cR) mX3_addTo [.ref (ad a0), vl x1] h (rl Z) := by
  refine Ct.ofF nX3_addTo rfl (loc := [(0, .ref (ad a0)), (1, vl x1)]) rfl ?_
  unfold fX3_addTo at hf
  refine q_ldc2 (n := 31) dX3_addTo_0 kcX3_42 ?_
  refine q_lloadn dX3_addTo_3 1 rfl ?_
  refine q_lmul dX3_addTo_4 ?_
  refine q_aloadn dX3_addTo_5 0 rfl ?_
  obtain ⟨r6, h6, e6, hf⟩ := q_cl hf
  refine q_cVi (av := []) (rest := [vl (31 * x1)]) (wC_sh ha0) (ctX3_top ha0 e6) kX3_top vX3_top zX3_top lkX3_44 rfl rfl rfl rfl rfl dX3_addTo_6 ?_
  refine q_i2l dX3_addTo_9 ?_
  refine q_ladd dX3_addTo_10 ?_
  refine q_ltl hf (fun x3_11 hf => ?_)
  refine q_lstoren dX3_addTo_11 rfl (loc' := [(3, vl x3_11), (0, .ref (ad a0)), (1, vl x1)]) rfl ?_
  refine q_iconst dX3_addTo_12 ?_
  refine q_istore dX3_addTo_13 rfl (loc' := [(5, vi 0), (3, vl x3_11), (0, .ref (ad a0)), (1, vl x1)]) rfl ?_
  refine q_loc (loc' := [(0, .ref (ad a0)), (3, vl x3_11), (5, vi 0)]) [2, 1, 0] rfl ?_
  exact tX3_addTo_15 FU a0 x3_11 0 h6 ha0 hf
