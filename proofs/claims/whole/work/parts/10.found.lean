/-! A layer over the kit's rows: values are Ints (an int's value is read modulo 2^32 where it is compared, divided or used as an index), a side's heap is a function of cell and slot, and a walk speaks of a method, its end, a place, locals, operand stack and heap alone. -/
def tbG : List Cond := lw_tbl.filter goodWord
theorem tbG_in {w : Cond} (h : w ∈ lw_tbl) (hg : goodWord w = true) : w ∈ tbG := List.mem_filter.mpr ⟨h, hg⟩
theorem tbG_good {w : Cond} (h : w ∈ tbG) : goodWord w = true := (List.mem_filter.mp h).2
theorem tbG_lw {w : Cond} (h : w ∈ tbG) : w ∈ lw_tbl := (List.mem_filter.mp h).1
theorem tbG_t {w : Cond} (i : Nat) (h : tables_1[i]? = some w) (hg : goodWord w = true) : w ∈ tbG := tbG_in (List.mem_append_right _ (List.mem_of_getElem? h)) hg
theorem tbG_s {w : Cond} (i : Nat) (h : (k2_sels lw_privs)[i]? = some w) (hg : goodWord w = true) : w ∈ tbG := tbG_in (List.mem_append_left _ (List.mem_of_getElem? h)) hg
abbrev HP : Type := Nat → Nat → Int
def wi (z : Int) : Int := (Int32.ofInt z).toInt
def wl (z : Int) : Int := (Int64.ofInt z).toInt
def vi (z : Int) : Value := .int (Int32.ofInt z)
def vl (z : Int) : Value := .long (Int64.ofInt z)
def hs (h : HP) (k j : Nat) (v : Int) : HP := fun a b => if a = k ∧ b = j then v else h a b
def xi (a b : Int) : Int := (Int32.ofInt a ^^^ Int32.ofInt b).toInt
def ai (a b : Int) : Int := (Int32.ofInt a &&& Int32.ofInt b).toInt
def b8 (a : Int) : Int := (Int32.ofInt a).toInt8.toInt32.toInt
def b16 (a : Int) : Int := (Int32.ofInt a).toInt16.toInt32.toInt
def cpl (a b : Int) : Int := if wl b < wl a then 1 else if wl a = wl b then 0 else -1
/-- a row of items copied: n of cell k from i on to cell t from j on -/
def hcp (h : HP) (k i t j n : Nat) : HP := fun a b => if a = t ∧ j ≤ b ∧ b < j + n then h k (i + (b - j)) else h a b
abbrev MD : Type := MethodName × ByteArray × Nat × Option FieldType × Nat × Nat
def rmOf (M : MD) : Room := { frames := M.2.2.2.2.1, cells := 0, slots := 0, locals := M.2.2.2.2.2 }
def wsOf (M : MD) : List Cond := Cond.code M.1 M.2.1 M.2.2.1 M.2.2.2.1 :: tbG
def clz : List vw_C := [(RX0, TX0, 2), (RX3, TX3, 3), (RX4, TX4, 9), (RX5, TX5, 17)]
abbrev SD : Type := Launch × va_G × List (ClassId × FieldType) × (HP → va_W)
abbrev RS : Type := Option Value × HP
def Qz (S : SD) (R : RS) (A : Nat → Prop) : Array Value → State → Outcome → State → Prop := fun _ st oc t => (oc = .returned R.1 ∧ va_P S.2.1 clz (S.2.2.2 R.2) t.heap ∧ va_K S.2.1 clz S.2.2.1 t ∧ va_D A (S.2.2.2 R.2)) ∧ va_F A st t
def Ct (S : SD) (M : MD) (av : List Value) (h : HP) (R : RS) : Prop := ∀ sz : Nat, Met S.1 M.1 (wsOf M) (rmOf M) (va_Pc av (fun U => U.heap.size = sz ∧ va_P S.2.1 clz (S.2.2.2 h) U.heap ∧ va_K S.2.1 clz S.2.2.1 U ∧ va_D (fun _ => True) (S.2.2.2 h))) (Qz S R (va_A (S.2.2.2 h) sz)) 0 0 (va_A (S.2.2.2 h) sz)
def Cx (S : SD) (M : MD) (p : Program) (s : State) (m : MethodId) (args : Array Value) (meth : Method) (c : Code) (A : Nat → Prop) : Prop :=
  p.tables.exec = Jvm.exec ∧ c.code = M.2.1 ∧ c.maxLocals = M.2.2.1 ∧ s.vm.findClass M.1.cls = some m.cls ∧ (∀ w ∈ wsOf M, w.before args s = true) ∧ meth.sig.returnType = M.2.2.2.1 ∧ meth.locks = false ∧ (∀ q : Nat, s.heap.size ≤ q → A q) ∧ va_K S.2.1 clz S.2.2.1 s
def Rn (S : SD) (M : MD) (R : RS) (pc : Nat) (loc : List (Nat × Value)) (stk : List Value) (h : HP) : Prop :=
  ∀ (p : Program) (e : Env) (s : State) (m : MethodId) (args : Array Value) (below : List Frame) (meth : Method) (c : Code) (H : Heap) (locs : List Loc) (A : Nat → Prop) (ls : Array Slot),
    Cx S M p s m args meth c A → va_P S.2.1 clz (S.2.2.2 h) H → va_D A (S.2.2.2 h) → va_S A s.heap H locs → lv_has ls M.2.2.1 loc →
    W p S.1 e (rmOf M) s m args below meth c H locs 0 0 (MQ below (Qz S R A) args s 0 0 A) (F0 m pc ls stk)
theorem Ct.of {S : SD} {M : MD} {av : List Value} {h : HP} {R : RS} (hy : plainName M.1.cls = true) (hav : Nat.ble (lg_sl av).length M.2.2.1 = true) {loc : List (Nat × Value)} (hloc : lv_args 0 av = loc) (body : Rn S M R 0 loc [] h) : Ct S M av h R := by
  intro sz
  refine Met.ofW (cc := M.2.1) (maxL := M.2.2.1) (ret := M.2.2.2.1) hy rfl ?_
  intro p e s m args below meth c s₁ B hml hv
  obtain ⟨rfl, hsz, hP, hK, hD0⟩ := hv
  subst hsz; subst hloc
  have hl := lv_entry av (n := M.2.2.1) (Nat.le_of_ble_eq_true hav)
  rw [lg_entry_eq]
  exact body p e s m av.toArray below meth c s.heap [] (va_A (S.2.2.2 h) s.heap.size) _ ⟨B.exec, B.bytes, hml, findClass_of_methodNamed B.named, atoms_spec (ws := wsOf M) B.pre, B.returns, B.notSynchronized, fun q hq => Or.inr hq, hK⟩ hP hD0.self va_S.rf hl
section RN
variable {S : SD} {M : MD} {R : RS} {pc : Nat} {loc loc' : List (Nat × Value)} {stk : List Value} {h : HP}
theorem q_loc (ks : List Nat) (hl : lv_pick loc ks = loc') (k : Rn S M R pc loc' stk h) : Rn S M R pc loc stk h := fun p e s m args below meth c H locs A ls C hP hD hS hv => k p e s m args below meth c H locs A ls C hP hD hS (lv_sub hv ks hl)
theorem q_hts {p : Program} {s : State} {m : MethodId} {args : Array Value} {meth : Method} {c : Code} {A : Nat → Prop} (C : Cx S M p s m args meth c A) {w : Cond} (hw : w ∈ tbG) : w.before args s = true := C.2.2.2.2.1 w (List.mem_cons_of_mem _ hw)
theorem q_iload {i : Nat} {x : Int} (hd : decode M.2.1 pc = .ok (.iload i, 2)) (j : Nat) (hj : loc[j]? = some (i, vi x)) (k : Rn S M R (pc + 2) loc (vi x :: stk) h) : Rn S M R pc loc stk h := fun p e s m args below meth c H locs A ls C hP hD hS hv => lv_iload C.1 C.2.1 hd (lv_at hv j hj) (k p e s m args below meth c H locs A ls C hP hD hS hv)
theorem q_iloadn {i : Fin 4} {x : Int} (hd : decode M.2.1 pc = .ok (.iload_n i, 1)) (j : Nat) (hj : loc[j]? = some (i.val, vi x)) (k : Rn S M R (pc + 1) loc (vi x :: stk) h) : Rn S M R pc loc stk h := fun p e s m args below meth c H locs A ls C hP hD hS hv => lv_iload_n C.1 C.2.1 hd rfl (lv_at hv j hj) (k p e s m args below meth c H locs A ls C hP hD hS hv)
theorem q_lload {i : Nat} {x : Int} (hd : decode M.2.1 pc = .ok (.lload i, 2)) (j : Nat) (hj : loc[j]? = some (i, vl x)) (k : Rn S M R (pc + 2) loc (vl x :: stk) h) : Rn S M R pc loc stk h := fun p e s m args below meth c H locs A ls C hP hD hS hv => lv_lload C.1 C.2.1 hd (lv_at hv j hj) (k p e s m args below meth c H locs A ls C hP hD hS hv)
theorem q_lloadn {i : Fin 4} {x : Int} (hd : decode M.2.1 pc = .ok (.lload_n i, 1)) (j : Nat) (hj : loc[j]? = some (i.val, vl x)) (k : Rn S M R (pc + 1) loc (vl x :: stk) h) : Rn S M R pc loc stk h := fun p e s m args below meth c H locs A ls C hP hD hS hv => lv_lload_n C.1 C.2.1 hd rfl (lv_at hv j hj) (k p e s m args below meth c H locs A ls C hP hD hS hv)
theorem q_aload {i : Nat} {x : Nat} (hd : decode M.2.1 pc = .ok (.aload i, 2)) (j : Nat) (hj : loc[j]? = some (i, .ref x)) (k : Rn S M R (pc + 2) loc (.ref x :: stk) h) : Rn S M R pc loc stk h := fun p e s m args below meth c H locs A ls C hP hD hS hv => lv_aload C.1 C.2.1 hd (lv_at hv j hj) (k p e s m args below meth c H locs A ls C hP hD hS hv)
theorem q_aloadn {i : Fin 4} {x : Nat} (hd : decode M.2.1 pc = .ok (.aload_n i, 1)) (j : Nat) (hj : loc[j]? = some (i.val, .ref x)) (k : Rn S M R (pc + 1) loc (.ref x :: stk) h) : Rn S M R pc loc stk h := fun p e s m args below meth c H locs A ls C hP hD hS hv => lv_aload_n C.1 C.2.1 hd rfl (lv_at hv j hj) (k p e s m args below meth c H locs A ls C hP hD hS hv)
theorem q_istore {i : Nat} {x : Int} (hd : decode M.2.1 pc = .ok (.istore i, 2)) (hn : Nat.ble (i + 1) M.2.2.1 = true) (hl : (i, vi x) :: loc.filter (fun q => !(q.1 == i) && !(q.1 + 1 == i && q.2.category == 2)) = loc') (k : Rn S M R (pc + 2) loc' stk h) : Rn S M R pc loc (vi x :: stk) h := fun p e s m args below meth c H locs A ls C hP hD hS hv => lv_istore C.1 C.2.1 hd hv (Nat.le_of_ble_eq_true hn) hl (fun ls' hv' => k p e s m args below meth c H locs A ls' C hP hD hS hv')
theorem q_istoren {i : Fin 4} {x : Int} (hd : decode M.2.1 pc = .ok (.istore_n i, 1)) (hn : Nat.ble (i.val + 1) M.2.2.1 = true) (hl : (i.val, vi x) :: loc.filter (fun q => !(q.1 == i.val) && !(q.1 + 1 == i.val && q.2.category == 2)) = loc') (k : Rn S M R (pc + 1) loc' stk h) : Rn S M R pc loc (vi x :: stk) h := fun p e s m args below meth c H locs A ls C hP hD hS hv => lv_istore_n C.1 C.2.1 hd rfl hv (Nat.le_of_ble_eq_true hn) hl (fun ls' hv' => k p e s m args below meth c H locs A ls' C hP hD hS hv')
theorem q_astore {i : Nat} {x : Nat} (hd : decode M.2.1 pc = .ok (.astore i, 2)) (hn : Nat.ble (i + 1) M.2.2.1 = true) (hl : (i, .ref x) :: loc.filter (fun q => !(q.1 == i) && !(q.1 + 1 == i && q.2.category == 2)) = loc') (k : Rn S M R (pc + 2) loc' stk h) : Rn S M R pc loc (.ref x :: stk) h := fun p e s m args below meth c H locs A ls C hP hD hS hv => lv_astore C.1 C.2.1 hd hv (Nat.le_of_ble_eq_true hn) hl (fun ls' hv' => k p e s m args below meth c H locs A ls' C hP hD hS hv')
theorem q_astoren {i : Fin 4} {x : Nat} (hd : decode M.2.1 pc = .ok (.astore_n i, 1)) (hn : Nat.ble (i.val + 1) M.2.2.1 = true) (hl : (i.val, .ref x) :: loc.filter (fun q => !(q.1 == i.val) && !(q.1 + 1 == i.val && q.2.category == 2)) = loc') (k : Rn S M R (pc + 1) loc' stk h) : Rn S M R pc loc (.ref x :: stk) h := fun p e s m args below meth c H locs A ls C hP hD hS hv => lv_astore_n C.1 C.2.1 hd rfl hv (Nat.le_of_ble_eq_true hn) hl (fun ls' hv' => k p e s m args below meth c H locs A ls' C hP hD hS hv')
theorem q_lstore {i : Nat} {x : Int} (hd : decode M.2.1 pc = .ok (.lstore i, 2)) (hn : Nat.ble (i + 2) M.2.2.1 = true) (hl : (i, vl x) :: loc.filter (fun q => !(q.1 == i) && (!(q.1 == i + 1) && !(q.1 + 1 == i && q.2.category == 2))) = loc') (k : Rn S M R (pc + 2) loc' stk h) : Rn S M R pc loc (vl x :: stk) h := fun p e s m args below meth c H locs A ls C hP hD hS hv => lv_lstore C.1 C.2.1 hd hv (Nat.le_of_ble_eq_true hn) hl (fun ls' hv' => k p e s m args below meth c H locs A ls' C hP hD hS hv')
theorem q_lstoren {i : Fin 4} {x : Int} (hd : decode M.2.1 pc = .ok (.lstore_n i, 1)) (hn : Nat.ble (i.val + 2) M.2.2.1 = true) (hl : (i.val, vl x) :: loc.filter (fun q => !(q.1 == i.val) && (!(q.1 == i.val + 1) && !(q.1 + 1 == i.val && q.2.category == 2))) = loc') (k : Rn S M R (pc + 1) loc' stk h) : Rn S M R pc loc (vl x :: stk) h := fun p e s m args below meth c H locs A ls C hP hD hS hv => lv_lstore_n C.1 C.2.1 hd rfl hv (Nat.le_of_ble_eq_true hn) hl (fun ls' hv' => k p e s m args below meth c H locs A ls' C hP hD hS hv')
theorem q_iinc {i : Nat} {x n : Int} (hd : decode M.2.1 pc = .ok (.iinc i n, 3)) (j : Nat) (hj : loc[j]? = some (i, vi x)) (hn : Nat.ble (i + 1) M.2.2.1 = true) (hl : (i, vi (x + n)) :: loc.filter (fun q => !(q.1 == i) && !(q.1 + 1 == i && q.2.category == 2)) = loc') (k : Rn S M R (pc + 3) loc' stk h) : Rn S M R pc loc stk h := fun p e s m args below meth c H locs A ls C hP hD hS hv => lv_iinc C.1 C.2.1 hd hv hj (Int32.ofInt_add x n).symm (Nat.le_of_ble_eq_true hn) hl (fun ls' hv' => k p e s m args below meth c H locs A ls' C hP hD hS hv')
theorem q_iconst {n : Int} (hd : decode M.2.1 pc = .ok (.iconst n, 1)) (k : Rn S M R (pc + 1) loc (vi n :: stk) h) : Rn S M R pc loc stk h := fun p e s m args below meth c H locs A ls C hP hD hS hv => lv_iconst C.1 C.2.1 hd rfl (k p e s m args below meth c H locs A ls C hP hD hS hv)
theorem q_bipush {n : Int} (hd : decode M.2.1 pc = .ok (.bipush n, 2)) (hn : (Int8.ofInt n).toInt32 = Int32.ofInt n) (k : Rn S M R (pc + 2) loc (vi n :: stk) h) : Rn S M R pc loc stk h := fun p e s m args below meth c H locs A ls C hP hD hS hv => lv_bipush C.1 C.2.1 hd hn (k p e s m args below meth c H locs A ls C hP hD hS hv)
theorem q_sipush {n : Int} (hd : decode M.2.1 pc = .ok (.sipush n, 3)) (hn : (Int16.ofInt n).toInt32 = Int32.ofInt n) (k : Rn S M R (pc + 3) loc (vi n :: stk) h) : Rn S M R pc loc stk h := fun p e s m args below meth c H locs A ls C hP hD hS hv => lv_sipush C.1 C.2.1 hd hn (k p e s m args below meth c H locs A ls C hP hD hS hv)
theorem q_ldc {i : Nat} {n : Int} (hd : decode M.2.1 pc = .ok (.ldc i, 2)) (hc : Cond.constant M.1.cls i (Int32.ofInt n) ∈ tbG) (k : Rn S M R (pc + 2) loc (vi n :: stk) h) : Rn S M R pc loc stk h := fun p e s m args below meth c H locs A ls C hP hD hS hv => lv_ldc C.1 C.2.1 C.2.2.2.1 (q_hts C hc) hd (k p e s m args below meth c H locs A ls C hP hD hS hv)
theorem q_ldc2 {i : Nat} {n : Int} (hd : decode M.2.1 pc = .ok (.ldc2_w i, 3)) (hc : Cond.constantLong M.1.cls i (Int64.ofInt n) ∈ tbG) (k : Rn S M R (pc + 3) loc (vl n :: stk) h) : Rn S M R pc loc stk h := fun p e s m args below meth c H locs A ls C hP hD hS hv => lv_ldc2 C.1 C.2.1 C.2.2.2.1 (q_hts C hc) hd (k p e s m args below meth c H locs A ls C hP hD hS hv)
theorem q_lconst {i : Fin 2} {n : Int} (hd : decode M.2.1 pc = .ok (.lconst i, 1)) (hn : Int64.ofNat i.val = Int64.ofInt n) (k : Rn S M R (pc + 1) loc (vl n :: stk) h) : Rn S M R pc loc stk h := fun p e s m args below meth c H locs A ls C hP hD hS hv => lv_lconst C.1 C.2.1 hd hn (k p e s m args below meth c H locs A ls C hP hD hS hv)
theorem q_iadd {a b : Int} (hd : decode M.2.1 pc = .ok (.iadd, 1)) (k : Rn S M R (pc + 1) loc (vi (a + b) :: stk) h) : Rn S M R pc loc (vi b :: vi a :: stk) h := fun p e s m args below meth c H locs A ls C hP hD hS hv => lv_iadd C.1 C.2.1 hd (by rw [← Int32.ofInt_add]; exact k p e s m args below meth c H locs A ls C hP hD hS hv)
theorem q_isub {a b : Int} (hd : decode M.2.1 pc = .ok (.isub, 1)) (k : Rn S M R (pc + 1) loc (vi (a - b) :: stk) h) : Rn S M R pc loc (vi b :: vi a :: stk) h := fun p e s m args below meth c H locs A ls C hP hD hS hv => lv_isub C.1 C.2.1 hd (by rw [← Int32.ofInt_sub]; exact k p e s m args below meth c H locs A ls C hP hD hS hv)
theorem q_imul {a b : Int} (hd : decode M.2.1 pc = .ok (.imul, 1)) (k : Rn S M R (pc + 1) loc (vi (a * b) :: stk) h) : Rn S M R pc loc (vi b :: vi a :: stk) h := fun p e s m args below meth c H locs A ls C hP hD hS hv => lv_imul C.1 C.2.1 hd (by rw [← Int32.ofInt_mul]; exact k p e s m args below meth c H locs A ls C hP hD hS hv)
theorem q_ineg {a : Int} (hd : decode M.2.1 pc = .ok (.ineg, 1)) (k : Rn S M R (pc + 1) loc (vi (-a) :: stk) h) : Rn S M R pc loc (vi a :: stk) h := fun p e s m args below meth c H locs A ls C hP hD hS hv => lv_ineg C.1 C.2.1 hd (by rw [← Int32.ofInt_neg]; exact k p e s m args below meth c H locs A ls C hP hD hS hv)
theorem q_ixor {a b : Int} (hd : decode M.2.1 pc = .ok (.ixor, 1)) (k : Rn S M R (pc + 1) loc (vi (xi a b) :: stk) h) : Rn S M R pc loc (vi b :: vi a :: stk) h := fun p e s m args below meth c H locs A ls C hP hD hS hv => lv_ixor C.1 C.2.1 hd (by have h1 := k p e s m args below meth c H locs A ls C hP hD hS hv; unfold vi xi at h1; rw [Int32.ofInt_toInt] at h1; exact h1)
theorem q_iand {a b : Int} (hd : decode M.2.1 pc = .ok (.iand, 1)) (k : Rn S M R (pc + 1) loc (vi (ai a b) :: stk) h) : Rn S M R pc loc (vi b :: vi a :: stk) h := fun p e s m args below meth c H locs A ls C hP hD hS hv => lv_iand C.1 C.2.1 hd (by have h1 := k p e s m args below meth c H locs A ls C hP hD hS hv; unfold vi ai at h1; rw [Int32.ofInt_toInt] at h1; exact h1)
theorem q_i2b {a : Int} (hd : decode M.2.1 pc = .ok (.i2b, 1)) (k : Rn S M R (pc + 1) loc (vi (b8 a) :: stk) h) : Rn S M R pc loc (vi a :: stk) h := fun p e s m args below meth c H locs A ls C hP hD hS hv => lv_i2b C.1 C.2.1 hd rfl (by have h1 := k p e s m args below meth c H locs A ls C hP hD hS hv; unfold vi b8 at h1; rw [Int32.ofInt_toInt] at h1; exact h1)
theorem q_i2s {a : Int} (hd : decode M.2.1 pc = .ok (.i2s, 1)) (k : Rn S M R (pc + 1) loc (vi (b16 a) :: stk) h) : Rn S M R pc loc (vi a :: stk) h := fun p e s m args below meth c H locs A ls C hP hD hS hv => lv_i2s C.1 C.2.1 hd rfl (by have h1 := k p e s m args below meth c H locs A ls C hP hD hS hv; unfold vi b16 at h1; rw [Int32.ofInt_toInt] at h1; exact h1)
theorem wi_ne {b : Int} (h : wi b ≠ 0) : ¬ Int32.ofInt b = 0 := fun q => h (by unfold wi; rw [q]; rfl)
theorem wl_ne {b : Int} (h : wl b ≠ 0) : ¬ Int64.ofInt b = 0 := fun q => h (by unfold wl; rw [q]; rfl)
theorem wi_lo (a : Int) : -2147483648 ≤ wi a := Int32.le_toInt _
theorem wi_hi (a : Int) : wi a < 2147483648 := Int32.toInt_lt _
theorem wl_lo (a : Int) : -9223372036854775808 ≤ wl a := Int64.le_toInt _
theorem wl_hi (a : Int) : wl a < 9223372036854775808 := Int64.toInt_lt _
theorem of_wi (a : Int) : Int32.ofInt (wi a) = Int32.ofInt a := Int32.ofInt_toInt _
theorem of_wl (a : Int) : Int64.ofInt (wl a) = Int64.ofInt a := Int64.ofInt_toInt _
theorem wi_div (a b : Int) : Int32.ofInt a / Int32.ofInt b = Int32.ofInt (Int.tdiv (wi a) (wi b)) := by
  rw [Int32.ofInt_tdiv (by have := wi_lo a; simpa using this) (by have := wi_hi a; have : Int32.maxValue.toInt = 2147483647 := by decide
                                                                  omega) (by have := wi_lo b; simpa using this) (by have := wi_hi b; have : Int32.maxValue.toInt = 2147483647 := by decide
                                                                                                                    omega), of_wi, of_wi]
theorem wl_div (a b : Int) : Int64.ofInt a / Int64.ofInt b = Int64.ofInt (Int.tdiv (wl a) (wl b)) := by
  rw [Int64.ofInt_tdiv (by have := wl_lo a; simpa using this) (by have := wl_hi a; have : Int64.maxValue.toInt = 9223372036854775807 := by decide
                                                                  omega) (by have := wl_lo b; simpa using this) (by have := wl_hi b; have : Int64.maxValue.toInt = 9223372036854775807 := by decide
                                                                                                                    omega), of_wl, of_wl]
theorem wi_rem (a b : Int) : Int32.ofInt a - Int32.ofInt a / Int32.ofInt b * Int32.ofInt b = Int32.ofInt (Int.tmod (wi a) (wi b)) := by
  rw [wi_div, Int.tmod_def, Int32.ofInt_sub, Int32.ofInt_mul, of_wi, of_wi, Int32.mul_comm]
theorem wl_rem (a b : Int) : Int64.ofInt a - Int64.ofInt a / Int64.ofInt b * Int64.ofInt b = Int64.ofInt (Int.tmod (wl a) (wl b)) := by
  rw [wl_div, Int.tmod_def, Int64.ofInt_sub, Int64.ofInt_mul, of_wl, of_wl, Int64.mul_comm]
theorem q_idiv {a b : Int} (hd : decode M.2.1 pc = .ok (.idiv, 1)) (hb : wi b ≠ 0) (k : Rn S M R (pc + 1) loc (vi (Int.tdiv (wi a) (wi b)) :: stk) h) : Rn S M R pc loc (vi b :: vi a :: stk) h := fun p e s m args below meth c H locs A ls C hP hD hS hv => lv_idiv C.1 C.2.1 hd (wi_ne hb) (by rw [wi_div]; exact k p e s m args below meth c H locs A ls C hP hD hS hv)
theorem q_irem {a b : Int} (hd : decode M.2.1 pc = .ok (.irem, 1)) (hb : wi b ≠ 0) (k : Rn S M R (pc + 1) loc (vi (Int.tmod (wi a) (wi b)) :: stk) h) : Rn S M R pc loc (vi b :: vi a :: stk) h := fun p e s m args below meth c H locs A ls C hP hD hS hv => lv_irem C.1 C.2.1 hd (wi_ne hb) (by rw [wi_rem]; exact k p e s m args below meth c H locs A ls C hP hD hS hv)
theorem q_lrem {a b : Int} (hd : decode M.2.1 pc = .ok (.lrem, 1)) (hb : wl b ≠ 0) (k : Rn S M R (pc + 1) loc (vl (Int.tmod (wl a) (wl b)) :: stk) h) : Rn S M R pc loc (vl b :: vl a :: stk) h := fun p e s m args below meth c H locs A ls C hP hD hS hv => lv_lrem C.1 C.2.1 hd (wl_ne hb) (by rw [wl_rem]; exact k p e s m args below meth c H locs A ls C hP hD hS hv)
theorem q_ladd {a b : Int} (hd : decode M.2.1 pc = .ok (.ladd, 1)) (k : Rn S M R (pc + 1) loc (vl (a + b) :: stk) h) : Rn S M R pc loc (vl b :: vl a :: stk) h := fun p e s m args below meth c H locs A ls C hP hD hS hv => lv_ladd C.1 C.2.1 hd (by rw [← Int64.ofInt_add]; exact k p e s m args below meth c H locs A ls C hP hD hS hv)
theorem q_lsub {a b : Int} (hd : decode M.2.1 pc = .ok (.lsub, 1)) (k : Rn S M R (pc + 1) loc (vl (a - b) :: stk) h) : Rn S M R pc loc (vl b :: vl a :: stk) h := fun p e s m args below meth c H locs A ls C hP hD hS hv => lv_lsub C.1 C.2.1 hd (by rw [← Int64.ofInt_sub]; exact k p e s m args below meth c H locs A ls C hP hD hS hv)
theorem q_lmul {a b : Int} (hd : decode M.2.1 pc = .ok (.lmul, 1)) (k : Rn S M R (pc + 1) loc (vl (a * b) :: stk) h) : Rn S M R pc loc (vl b :: vl a :: stk) h := fun p e s m args below meth c H locs A ls C hP hD hS hv => lv_lmul C.1 C.2.1 hd (by rw [← Int64.ofInt_mul]; exact k p e s m args below meth c H locs A ls C hP hD hS hv)
theorem q_i2l {a : Int} (hd : decode M.2.1 pc = .ok (.i2l, 1)) (k : Rn S M R (pc + 1) loc (vl (wi a) :: stk) h) : Rn S M R pc loc (vi a :: stk) h := fun p e s m args below meth c H locs A ls C hP hD hS hv => lv_i2l C.1 C.2.1 hd (v := Int64.ofInt (wi a)) (by unfold wi; exact (Int64.ofInt_int32ToInt _).symm) (k p e s m args below meth c H locs A ls C hP hD hS hv)
theorem l2i_of (a : Int) : (Int64.ofInt a).toInt32 = Int32.ofInt a := Int64.toInt32_ofInt
theorem q_l2i {a : Int} (hd : decode M.2.1 pc = .ok (.l2i, 1)) (k : Rn S M R (pc + 1) loc (vi a :: stk) h) : Rn S M R pc loc (vl a :: stk) h := fun p e s m args below meth c H locs A ls C hP hD hS hv => lv_l2i C.1 C.2.1 hd (l2i_of a) (k p e s m args below meth c H locs A ls C hP hD hS hv)
theorem lcmp_of (a b : Int) : lg_cmp (Int64.ofInt a) (Int64.ofInt b) = Int32.ofInt (cpl a b) := by
  unfold lg_cmp cpl wl
  simp only [gt_iff_lt, Int64.lt_iff_toInt_lt, ← Int64.toInt_inj]
  repeat' split
  all_goals rfl
theorem q_lcmp {a b : Int} (hd : decode M.2.1 pc = .ok (.lcmp, 1)) (k : Rn S M R (pc + 1) loc (vi (cpl a b) :: stk) h) : Rn S M R pc loc (vl b :: vl a :: stk) h := fun p e s m args below meth c H locs A ls C hP hD hS hv => W.lcmp C.1 C.2.1 hd (by rw [lcmp_of]; exact k p e s m args below meth c H locs A ls C hP hD hS hv)
theorem q_dup {v : Value} (hd : decode M.2.1 pc = .ok (.dup, 1)) (hv1 : v.category = 1) (k : Rn S M R (pc + 1) loc (v :: v :: stk) h) : Rn S M R pc loc (v :: stk) h := fun p e s m args below meth c H locs A ls C hP hD hS hv => lv_dup C.1 C.2.1 hd hv1 (k p e s m args below meth c H locs A ls C hP hD hS hv)
theorem q_dup2 {v w : Value} (hd : decode M.2.1 pc = .ok (.dup2, 1)) (hv1 : v.category = 1) (hw1 : w.category = 1) (k : Rn S M R (pc + 1) loc (v :: w :: v :: w :: stk) h) : Rn S M R pc loc (v :: w :: stk) h := fun p e s m args below meth c H locs A ls C hP hD hS hv => lv_dup2_11 C.1 C.2.1 hd hv1 hw1 (k p e s m args below meth c H locs A ls C hP hD hS hv)
theorem q_pop {v : Value} (hd : decode M.2.1 pc = .ok (.pop, 1)) (hv1 : v.category = 1) (k : Rn S M R (pc + 1) loc stk h) : Rn S M R pc loc (v :: stk) h := fun p e s m args below meth c H locs A ls C hP hD hS hv => lv_pop C.1 C.2.1 hd hv1 (k p e s m args below meth c H locs A ls C hP hD hS hv)
theorem q_goto {off : Int} (hd : decode M.2.1 pc = .ok (.goto off, 3)) (tgt : Nat) (ht : (pc : Int) + off = (tgt : Int)) (k : Rn S M R tgt loc stk h) : Rn S M R pc loc stk h := fun p e s m args below meth c H locs A ls C hP hD hS hv => lv_goto C.1 C.2.1 hd ht (k p e s m args below meth c H locs A ls C hP hD hS hv)
end RN
