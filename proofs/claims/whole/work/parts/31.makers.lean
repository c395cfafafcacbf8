theorem fa_int : Cond.arrayClass .int ∈ tbG := tbG_t 32 (by decide +kernel) rfl
theorem fa_oin : Cond.instanceMethod objectInit ∈ tbG := tbG_t 15 (by decide +kernel) rfl
theorem fa_oco : Cond.code objectInit ⟨#[0xb1]⟩ 1 none ∈ tbG := tbG_t 16 (by decide +kernel) rfl
theorem foX0_3 : Cond.methodLink RX0 3 objectInit ∈ tbG := tbG_t 24 (by decide +kernel) rfl
theorem foX3_3 : Cond.methodLink RX3 3 objectInit ∈ tbG := tbG_t 37 (by decide +kernel) rfl
theorem foX4_3 : Cond.methodLink RX4 3 objectInit ∈ tbG := tbG_t 14 (by decide +kernel) rfl
theorem foX5_1 : Cond.methodLink RX5 1 objectInit ∈ tbG := tbG_t 460 (by decide +kernel) rfl
theorem fkL_7 : Cond.classLink RL 7 "FormsOfTwo" ∈ tbG := tbG_t 9 (by decide +kernel) rfl
theorem fiX4 : Cond.instantiable RX4 9 ∈ tbG := tbG_t 10 (by decide +kernel) rfl
theorem fkX4_9 : Cond.classLink RX4 9 "FormsOfTwo$Sheet" ∈ tbG := tbG_t 17 (by decide +kernel) rfl
theorem fkX4_35 : Cond.classLink RX4 35 "FormsOfTwo$Grid" ∈ tbG := tbG_t 19 (by decide +kernel) rfl
theorem fiX0 : Cond.instantiable RX0 2 ∈ tbG := tbG_t 20 (by decide +kernel) rfl
theorem fiX3 : Cond.instantiable RX3 3 ∈ tbG := tbG_t 33 (by decide +kernel) rfl
theorem fkL_10 : Cond.classLink RL 10 "FormsOfTwoModel" ∈ tbG := tbG_t 455 (by decide +kernel) rfl
theorem fiX5 : Cond.instantiable RX5 17 ∈ tbG := tbG_t 456 (by decide +kernel) rfl
abbrev mX0_init : MD := (yX0_init, cX0_init, 1, none, 1, 20)
theorem kX0_init : MF mX0_init 0 := ⟨tbG_t 23 (by decide +kernel) rfl, tbG_t 2 (by decide +kernel) rfl, by decide +kernel, by decide +kernel, by decide +kernel⟩
theorem vX0_init : Cond.instanceMethod yX0_init ∈ tbG := tbG_t 22 (by decide +kernel) rfl
theorem nX0_init : plainFor yX0_init = true := by decide +kernel
abbrev mX3_init : MD := (yX3_init, cX3_init, 1, none, 1, 20)
theorem kX3_init : MF mX3_init 0 := ⟨tbG_t 36 (by decide +kernel) rfl, tbG_t 3 (by decide +kernel) rfl, by decide +kernel, by decide +kernel, by decide +kernel⟩
theorem vX3_init : Cond.instanceMethod yX3_init ∈ tbG := tbG_t 35 (by decide +kernel) rfl
theorem nX3_init : plainFor yX3_init = true := by decide +kernel
abbrev mX4_init : MD := (yX4_init, cX4_init, 2, none, 2, 40)
theorem kX4_init : MF mX4_init 0 := ⟨tbG_t 13 (by decide +kernel) rfl, tbG_t 1 (by decide +kernel) rfl, by decide +kernel, by decide +kernel, by decide +kernel⟩
theorem vX4_init : Cond.instanceMethod yX4_init ∈ tbG := tbG_t 12 (by decide +kernel) rfl
theorem nX4_init : plainFor yX4_init = true := by decide +kernel
abbrev mX5_init : MD := (yX5_init, cX5_init, 2, none, 1, 20)
theorem kX5_init : MF mX5_init 0 := ⟨tbG_t 459 (by decide +kernel) rfl, tbG_t 4 (by decide +kernel) rfl, by decide +kernel, by decide +kernel, by decide +kernel⟩
theorem vX5_init : Cond.instanceMethod yX5_init ∈ tbG := tbG_t 458 (by decide +kernel) rfl
theorem nX5_init : plainFor yX5_init = true := by decide +kernel
theorem fjX0 : Cond.initialized RX0 ∈ tbG := tbG_t 2 (by decide +kernel) rfl
theorem fjX3 : Cond.initialized RX3 ∈ tbG := tbG_t 3 (by decide +kernel) rfl
theorem fjX4 : Cond.initialized RX4 ∈ tbG := tbG_t 1 (by decide +kernel) rfl
theorem fjX5 : Cond.initialized RX5 ∈ tbG := tbG_t 4 (by decide +kernel) rfl
-- lkL_9 stands
-- lkL_12 stands
def BX4 (s : State) : Prop := va_AO "FormsOfTwo$Sheet" s ∧ va_Nw (.methodLinkNest RX4 37 yX0_init "FormsOfTwo") s ∧ va_Nw (.methodLinkNest RX4 45 yX3_init "FormsOfTwo") s
theorem fv_sh (s : State) (h : BX4 s) : va_AO "FormsOfTwo$Sheet" s := h.1
theorem fnX4_37 (s : State) (h : BX4 s) : va_Nw (.methodLinkNest RX4 37 yX0_init "FormsOfTwo") s := h.2.1
theorem fnX4_45 (s : State) (h : BX4 s) : va_Nw (.methodLinkNest RX4 45 yX3_init "FormsOfTwo") s := h.2.2
def hC0 : HP := fun k j => if isSh k then (if j = 1 then 2 else if j = 2 then -1 else 0) else if k = 27 ∧ j = 1 then 1 else 0
set_option maxHeartbeats 4000000 in
set_option maxRecDepth 100000 in
theorem mkX3_init {l : Launch} {D : va_G} (h0 : Nat) : Kt l D mX3_init 1 12 h0 (.inr (1, [.null, .int 0, .int 0])) (fun ws tys => ∃ (q : Nat) (cA : ClassId), ws = [(h0, .inr (1, [.ref q, vi 2, vi (-1)])), (q, .inl (cA, 12, .inl (fun _ => 0)))] ∧ tys = [(cA, .int)]) (fun _ => True) := by
  refine Kt.of nX3_init rfl rfl rfl ?_
  refine k_aload dX3_init_0 0 rfl ?_
  refine k_obj foX3_3 fa_oin fa_oco rfl rfl dX3_init_1 ?_
  refine k_aload dX3_init_4 0 rfl ?_
  refine k_bipush (Int32.ofInt 12) dX3_init_5 (by decide) ?_
  refine k_newa 12 fa_int (by decide) (by decide) rfl rfl dX3_init_7 (fun q7 c7 => ?_)
  refine k_putF (q := 0) (ci := 1) (j := 0) (ty := .array .int) (ws' := [(h0, .inr (1, [.ref q7, .int 0, .int 0])), (q7, .inl (c7, 12, .inl (fun _ => 0)))]) tyX3 tyX3_ok nmX3 rfl rfl inGX3 (by decide) flX3_9 rfl rfl (by decide +kernel) rfl rfl (Nat.le_of_ble_eq_true rfl) rfl dX3_init_9 ?_
  refine k_aload dX3_init_12 0 rfl ?_
  refine k_iconst (Int32.ofInt 2) dX3_init_13 rfl ?_
  refine k_put (q := 0) (ci := 1) (j := 1) (ty := .int) (ws' := [(h0, .inr (1, [.ref q7, .int (Int32.ofInt 2), .int 0])), (q7, .inl (c7, 12, .inl (fun _ => 0)))]) tyX3 tyX3_ok nmX3 rfl rfl inGX3 (by decide) flX3_15 rfl (by decide +kernel) rfl rfl (Nat.le_of_ble_eq_true rfl) rfl dX3_init_14 ?_
  refine k_aload dX3_init_17 0 rfl ?_
  refine k_iconst (Int32.ofInt (-1)) dX3_init_18 rfl ?_
  refine k_put (q := 0) (ci := 1) (j := 2) (ty := .int) (ws' := [(h0, .inr (1, [.ref q7, .int (Int32.ofInt 2), .int (Int32.ofInt (-1))])), (q7, .inl (c7, 12, .inl (fun _ => 0)))]) tyX3 tyX3_ok nmX3 rfl rfl inGX3 (by decide) flX3_19 rfl (by decide +kernel) rfl rfl (Nat.le_of_ble_eq_true rfl) rfl dX3_init_19 ?_
  exact k_ret ⟨q7, c7, rfl, rfl⟩ rfl rfl dX3_init_22
set_option maxHeartbeats 4000000 in
set_option maxRecDepth 100000 in
theorem mkX0_init {l : Launch} {D : va_G} (h0 : Nat) : Kt l D mX0_init 1 256 h0 (.inr (0, [.null, .int 0])) (fun ws tys => ∃ (q : Nat) (cA : ClassId), ws = [(h0, .inr (0, [.ref q, vi 1])), (q, .inl (cA, 256, .inl (fun _ => 0)))] ∧ tys = [(cA, .int)]) (fun _ => True) := by
  refine Kt.of nX0_init rfl rfl rfl ?_
  refine k_aload dX0_init_0 0 rfl ?_
  refine k_obj foX0_3 fa_oin fa_oco rfl rfl dX0_init_1 ?_
  refine k_aload dX0_init_4 0 rfl ?_
  refine k_sipush (Int32.ofInt 256) dX0_init_5 (by decide) ?_
  refine k_newa 256 fa_int (by decide) (by decide) rfl rfl dX0_init_8 (fun q8 c8 => ?_)
  refine k_putF (q := 0) (ci := 0) (j := 0) (ty := .array .int) (ws' := [(h0, .inr (0, [.ref q8, .int 0])), (q8, .inl (c8, 256, .inl (fun _ => 0)))]) tyX0 tyX0_ok nmX0 rfl rfl inGX0 (by decide) flX0_11 rfl rfl (by decide +kernel) rfl rfl (Nat.le_of_ble_eq_true rfl) rfl dX0_init_10 ?_
  refine k_aload dX0_init_13 0 rfl ?_
  refine k_iconst (Int32.ofInt 1) dX0_init_14 rfl ?_
  refine k_put (q := 0) (ci := 0) (j := 1) (ty := .int) (ws' := [(h0, .inr (0, [.ref q8, .int (Int32.ofInt 1)])), (q8, .inl (c8, 256, .inl (fun _ => 0)))]) tyX0 tyX0_ok nmX0 rfl rfl inGX0 (by decide) flX0_15 rfl (by decide +kernel) rfl rfl (Nat.le_of_ble_eq_true rfl) rfl dX0_init_15 ?_
  exact k_ret ⟨q8, c8, rfl, rfl⟩ rfl rfl dX0_init_18
