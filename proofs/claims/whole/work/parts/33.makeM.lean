def hM0r : Nat → Int32 := upd (upd (upd (upd (upd (upd (upd (upd (upd (upd (fun _ => 0) 0 (Int32.ofInt (-1))) 1 (Int32.ofInt (-1))) 2 (Int32.ofInt (-1))) 3 (Int32.ofInt (-1))) 4 (Int32.ofInt (-1))) 5 (Int32.ofInt (-1))) 6 (Int32.ofInt (-1))) 7 (Int32.ofInt (-1))) 8 (Int32.ofInt (-1))) 9 (Int32.ofInt (-1))
def hM0 : HP := fun k j => if k = 1 then (hM0r j).toInt else 0
set_option maxHeartbeats 4000000 in
set_option maxRecDepth 100000 in
theorem mkX5_init {l : Launch} {D : va_G} (h0 : Nat) : Kt l D mX5_init 12 845 h0 (.inr (3, [.null, .null, .null, .null, .int 0, .null, .int 0, .null, .int 0, .null, .int 0, .null, .null, .int 0, .null, .null, .null])) (fun ws tys => ∃ (ad : Nat → Nat) (cI : ClassId), ad 0 = h0 ∧ ws = wd 13 ad (fun k => if k = 1 then .inl (cI, 10, .inl hM0r) else ceM ad cI (hM0 k) k) ∧ tys = [(cI, .int)]) (fun _ => True) := by
  refine Kt.of nX5_init rfl rfl rfl ?_
  refine k_aload dX5_init_0 0 rfl ?_
  refine k_obj foX5_1 fa_oin fa_oco rfl rfl dX5_init_1 ?_
  refine k_aload dX5_init_4 0 rfl ?_
  refine k_bipush (Int32.ofInt 10) dX5_init_5 (by decide) ?_
  refine k_newa 10 fa_int (by decide) (by decide) rfl rfl dX5_init_7 (fun q7 c7 => ?_)
  refine k_putF (q := 0) (ci := 3) (j := 0) (ty := .array .int) (ws' := [(h0, .inr (3, [.ref q7, .null, .null, .null, .int 0, .null, .int 0, .null, .int 0, .null, .int 0, .null, .null, .int 0, .null, .null, .null])), (q7, .inl (c7, 10, .inl (fun _ => 0)))]) tyX5 tyX5_ok nmX5 rfl rfl inGX5 (by decide) flX5_7 rfl rfl (by decide +kernel) rfl rfl (Nat.le_of_ble_eq_true rfl) rfl dX5_init_9 ?_
  refine k_aload dX5_init_12 0 rfl ?_
  refine k_bipush (Int32.ofInt 10) dX5_init_13 (by decide) ?_
  refine k_newa 10 fa_int (by decide) (by decide) rfl rfl dX5_init_15 (fun q15 c15 => ?_)
  refine k_same 0 1 rfl rfl (fun z => ?_)
  subst z
  refine k_sub (ws' := [(h0, .inr (3, [.ref q7, .null, .null, .null, .int 0, .null, .int 0, .null, .int 0, .null, .int 0, .null, .null, .int 0, .null, .null, .null])), (q7, .inl (c7, 10, .inl (fun _ => 0))), (q15, .inl (c7, 10, .inl (fun _ => 0)))]) [0, 1, 2] [0] (tys' := [(c7, .int)]) rfl rfl rfl rfl ?_
  refine k_putF (q := 0) (ci := 3) (j := 1) (ty := .array .int) (ws' := [(h0, .inr (3, [.ref q7, .ref q15, .null, .null, .int 0, .null, .int 0, .null, .int 0, .null, .int 0, .null, .null, .int 0, .null, .null, .null])), (q7, .inl (c7, 10, .inl (fun _ => 0))), (q15, .inl (c7, 10, .inl (fun _ => 0)))]) tyX5 tyX5_ok nmX5 rfl rfl inGX5 (by decide) flX5_13 rfl rfl (by decide +kernel) rfl rfl (Nat.le_of_ble_eq_true rfl) rfl dX5_init_17 ?_
  refine k_aload dX5_init_20 0 rfl ?_
  refine k_bipush (Int32.ofInt 120) dX5_init_21 (by decide) ?_
  refine k_newa 120 fa_int (by decide) (by decide) rfl rfl dX5_init_23 (fun q23 c23 => ?_)
  refine k_same 0 1 rfl rfl (fun z => ?_)
  subst z
  refine k_sub (ws' := [(h0, .inr (3, [.ref q7, .ref q15, .null, .null, .int 0, .null, .int 0, .null, .int 0, .null, .int 0, .null, .null, .int 0, .null, .null, .null])), (q7, .inl (c7, 10, .inl (fun _ => 0))), (q15, .inl (c7, 10, .inl (fun _ => 0))), (q23, .inl (c7, 120, .inl (fun _ => 0)))]) [0, 1, 2, 3] [0] (tys' := [(c7, .int)]) rfl rfl rfl rfl ?_
  refine k_putF (q := 0) (ci := 3) (j := 2) (ty := .array .int) (ws' := [(h0, .inr (3, [.ref q7, .ref q15, .ref q23, .null, .int 0, .null, .int 0, .null, .int 0, .null, .int 0, .null, .null, .int 0, .null, .null, .null])), (q7, .inl (c7, 10, .inl (fun _ => 0))), (q15, .inl (c7, 10, .inl (fun _ => 0))), (q23, .inl (c7, 120, .inl (fun _ => 0)))]) tyX5 tyX5_ok nmX5 rfl rfl inGX5 (by decide) flX5_16 rfl rfl (by decide +kernel) rfl rfl (Nat.le_of_ble_eq_true rfl) rfl dX5_init_25 ?_
  refine k_aload dX5_init_28 0 rfl ?_
  refine k_bipush (Int32.ofInt 12) dX5_init_29 (by decide) ?_
  refine k_newa 12 fa_int (by decide) (by decide) rfl rfl dX5_init_31 (fun q31 c31 => ?_)
  refine k_same 0 1 rfl rfl (fun z => ?_)
  subst z
  refine k_sub (ws' := [(h0, .inr (3, [.ref q7, .ref q15, .ref q23, .null, .int 0, .null, .int 0, .null, .int 0, .null, .int 0, .null, .null, .int 0, .null, .null, .null])), (q7, .inl (c7, 10, .inl (fun _ => 0))), (q15, .inl (c7, 10, .inl (fun _ => 0))), (q23, .inl (c7, 120, .inl (fun _ => 0))), (q31, .inl (c7, 12, .inl (fun _ => 0)))]) [0, 1, 2, 3, 4] [0] (tys' := [(c7, .int)]) rfl rfl rfl rfl ?_
  refine k_putF (q := 0) (ci := 3) (j := 3) (ty := .array .int) (ws' := [(h0, .inr (3, [.ref q7, .ref q15, .ref q23, .ref q31, .int 0, .null, .int 0, .null, .int 0, .null, .int 0, .null, .null, .int 0, .null, .null, .null])), (q7, .inl (c7, 10, .inl (fun _ => 0))), (q15, .inl (c7, 10, .inl (fun _ => 0))), (q23, .inl (c7, 120, .inl (fun _ => 0))), (q31, .inl (c7, 12, .inl (fun _ => 0)))]) tyX5 tyX5_ok nmX5 rfl rfl inGX5 (by decide) flX5_19 rfl rfl (by decide +kernel) rfl rfl (Nat.le_of_ble_eq_true rfl) rfl dX5_init_33 ?_
  refine k_aload dX5_init_36 0 rfl ?_
  refine k_bipush (Int32.ofInt 9) dX5_init_37 (by decide) ?_
  refine k_newa 9 fa_int (by decide) (by decide) rfl rfl dX5_init_39 (fun q39 c39 => ?_)
  refine k_same 0 1 rfl rfl (fun z => ?_)
  subst z
  refine k_sub (ws' := [(h0, .inr (3, [.ref q7, .ref q15, .ref q23, .ref q31, .int 0, .null, .int 0, .null, .int 0, .null, .int 0, .null, .null, .int 0, .null, .null, .null])), (q7, .inl (c7, 10, .inl (fun _ => 0))), (q15, .inl (c7, 10, .inl (fun _ => 0))), (q23, .inl (c7, 120, .inl (fun _ => 0))), (q31, .inl (c7, 12, .inl (fun _ => 0))), (q39, .inl (c7, 9, .inl (fun _ => 0)))]) [0, 1, 2, 3, 4, 5] [0] (tys' := [(c7, .int)]) rfl rfl rfl rfl ?_
  refine k_putF (q := 0) (ci := 3) (j := 5) (ty := .array .int) (ws' := [(h0, .inr (3, [.ref q7, .ref q15, .ref q23, .ref q31, .int 0, .ref q39, .int 0, .null, .int 0, .null, .int 0, .null, .null, .int 0, .null, .null, .null])), (q7, .inl (c7, 10, .inl (fun _ => 0))), (q15, .inl (c7, 10, .inl (fun _ => 0))), (q23, .inl (c7, 120, .inl (fun _ => 0))), (q31, .inl (c7, 12, .inl (fun _ => 0))), (q39, .inl (c7, 9, .inl (fun _ => 0)))]) tyX5 tyX5_ok nmX5 rfl rfl inGX5 (by decide) flX5_22 rfl rfl (by decide +kernel) rfl rfl (Nat.le_of_ble_eq_true rfl) rfl dX5_init_41 ?_
  refine k_aload dX5_init_44 0 rfl ?_
  refine k_bipush (Int32.ofInt 9) dX5_init_45 (by decide) ?_
  refine k_newa 9 fa_int (by decide) (by decide) rfl rfl dX5_init_47 (fun q47 c47 => ?_)
  refine k_same 0 1 rfl rfl (fun z => ?_)
  subst z
  refine k_sub (ws' := [(h0, .inr (3, [.ref q7, .ref q15, .ref q23, .ref q31, .int 0, .ref q39, .int 0, .null, .int 0, .null, .int 0, .null, .null, .int 0, .null, .null, .null])), (q7, .inl (c7, 10, .inl (fun _ => 0))), (q15, .inl (c7, 10, .inl (fun _ => 0))), (q23, .inl (c7, 120, .inl (fun _ => 0))), (q31, .inl (c7, 12, .inl (fun _ => 0))), (q39, .inl (c7, 9, .inl (fun _ => 0))), (q47, .inl (c7, 9, .inl (fun _ => 0)))]) [0, 1, 2, 3, 4, 5, 6] [0] (tys' := [(c7, .int)]) rfl rfl rfl rfl ?_
  refine k_putF (q := 0) (ci := 3) (j := 7) (ty := .array .int) (ws' := [(h0, .inr (3, [.ref q7, .ref q15, .ref q23, .ref q31, .int 0, .ref q39, .int 0, .ref q47, .int 0, .null, .int 0, .null, .null, .int 0, .null, .null, .null])), (q7, .inl (c7, 10, .inl (fun _ => 0))), (q15, .inl (c7, 10, .inl (fun _ => 0))), (q23, .inl (c7, 120, .inl (fun _ => 0))), (q31, .inl (c7, 12, .inl (fun _ => 0))), (q39, .inl (c7, 9, .inl (fun _ => 0))), (q47, .inl (c7, 9, .inl (fun _ => 0)))]) tyX5 tyX5_ok nmX5 rfl rfl inGX5 (by decide) flX5_25 rfl rfl (by decide +kernel) rfl rfl (Nat.le_of_ble_eq_true rfl) rfl dX5_init_49 ?_
  refine k_aload dX5_init_52 0 rfl ?_
  refine k_bipush (Int32.ofInt 20) dX5_init_53 (by decide) ?_
  refine k_newa 20 fa_int (by decide) (by decide) rfl rfl dX5_init_55 (fun q55 c55 => ?_)
  refine k_same 0 1 rfl rfl (fun z => ?_)
  subst z
  refine k_sub (ws' := [(h0, .inr (3, [.ref q7, .ref q15, .ref q23, .ref q31, .int 0, .ref q39, .int 0, .ref q47, .int 0, .null, .int 0, .null, .null, .int 0, .null, .null, .null])), (q7, .inl (c7, 10, .inl (fun _ => 0))), (q15, .inl (c7, 10, .inl (fun _ => 0))), (q23, .inl (c7, 120, .inl (fun _ => 0))), (q31, .inl (c7, 12, .inl (fun _ => 0))), (q39, .inl (c7, 9, .inl (fun _ => 0))), (q47, .inl (c7, 9, .inl (fun _ => 0))), (q55, .inl (c7, 20, .inl (fun _ => 0)))]) [0, 1, 2, 3, 4, 5, 6, 7] [0] (tys' := [(c7, .int)]) rfl rfl rfl rfl ?_
  refine k_putF (q := 0) (ci := 3) (j := 9) (ty := .array .int) (ws' := [(h0, .inr (3, [.ref q7, .ref q15, .ref q23, .ref q31, .int 0, .ref q39, .int 0, .ref q47, .int 0, .ref q55, .int 0, .null, .null, .int 0, .null, .null, .null])), (q7, .inl (c7, 10, .inl (fun _ => 0))), (q15, .inl (c7, 10, .inl (fun _ => 0))), (q23, .inl (c7, 120, .inl (fun _ => 0))), (q31, .inl (c7, 12, .inl (fun _ => 0))), (q39, .inl (c7, 9, .inl (fun _ => 0))), (q47, .inl (c7, 9, .inl (fun _ => 0))), (q55, .inl (c7, 20, .inl (fun _ => 0)))]) tyX5 tyX5_ok nmX5 rfl rfl inGX5 (by decide) flX5_28 rfl rfl (by decide +kernel) rfl rfl (Nat.le_of_ble_eq_true rfl) rfl dX5_init_57 ?_
  refine k_aload dX5_init_60 0 rfl ?_
  refine k_bipush (Int32.ofInt 10) dX5_init_61 (by decide) ?_
  refine k_newa 10 fa_int (by decide) (by decide) rfl rfl dX5_init_63 (fun q63 c63 => ?_)
  refine k_same 0 1 rfl rfl (fun z => ?_)
  subst z
  refine k_sub (ws' := [(h0, .inr (3, [.ref q7, .ref q15, .ref q23, .ref q31, .int 0, .ref q39, .int 0, .ref q47, .int 0, .ref q55, .int 0, .null, .null, .int 0, .null, .null, .null])), (q7, .inl (c7, 10, .inl (fun _ => 0))), (q15, .inl (c7, 10, .inl (fun _ => 0))), (q23, .inl (c7, 120, .inl (fun _ => 0))), (q31, .inl (c7, 12, .inl (fun _ => 0))), (q39, .inl (c7, 9, .inl (fun _ => 0))), (q47, .inl (c7, 9, .inl (fun _ => 0))), (q55, .inl (c7, 20, .inl (fun _ => 0))), (q63, .inl (c7, 10, .inl (fun _ => 0)))]) [0, 1, 2, 3, 4, 5, 6, 7, 8] [0] (tys' := [(c7, .int)]) rfl rfl rfl rfl ?_
  refine k_putF (q := 0) (ci := 3) (j := 11) (ty := .array .int) (ws' := [(h0, .inr (3, [.ref q7, .ref q15, .ref q23, .ref q31, .int 0, .ref q39, .int 0, .ref q47, .int 0, .ref q55, .int 0, .ref q63, .null, .int 0, .null, .null, .null])), (q7, .inl (c7, 10, .inl (fun _ => 0))), (q15, .inl (c7, 10, .inl (fun _ => 0))), (q23, .inl (c7, 120, .inl (fun _ => 0))), (q31, .inl (c7, 12, .inl (fun _ => 0))), (q39, .inl (c7, 9, .inl (fun _ => 0))), (q47, .inl (c7, 9, .inl (fun _ => 0))), (q55, .inl (c7, 20, .inl (fun _ => 0))), (q63, .inl (c7, 10, .inl (fun _ => 0)))]) tyX5 tyX5_ok nmX5 rfl rfl inGX5 (by decide) flX5_31 rfl rfl (by decide +kernel) rfl rfl (Nat.le_of_ble_eq_true rfl) rfl dX5_init_65 ?_
  refine k_aload dX5_init_68 0 rfl ?_
  refine k_sipush (Int32.ofInt 324) dX5_init_69 (by decide) ?_
  refine k_newa 324 fa_int (by decide) (by decide) rfl rfl dX5_init_72 (fun q72 c72 => ?_)
  refine k_same 0 1 rfl rfl (fun z => ?_)
  subst z
  refine k_sub (ws' := [(h0, .inr (3, [.ref q7, .ref q15, .ref q23, .ref q31, .int 0, .ref q39, .int 0, .ref q47, .int 0, .ref q55, .int 0, .ref q63, .null, .int 0, .null, .null, .null])), (q7, .inl (c7, 10, .inl (fun _ => 0))), (q15, .inl (c7, 10, .inl (fun _ => 0))), (q23, .inl (c7, 120, .inl (fun _ => 0))), (q31, .inl (c7, 12, .inl (fun _ => 0))), (q39, .inl (c7, 9, .inl (fun _ => 0))), (q47, .inl (c7, 9, .inl (fun _ => 0))), (q55, .inl (c7, 20, .inl (fun _ => 0))), (q63, .inl (c7, 10, .inl (fun _ => 0))), (q72, .inl (c7, 324, .inl (fun _ => 0)))]) [0, 1, 2, 3, 4, 5, 6, 7, 8, 9] [0] (tys' := [(c7, .int)]) rfl rfl rfl rfl ?_
  refine k_putF (q := 0) (ci := 3) (j := 12) (ty := .array .int) (ws' := [(h0, .inr (3, [.ref q7, .ref q15, .ref q23, .ref q31, .int 0, .ref q39, .int 0, .ref q47, .int 0, .ref q55, .int 0, .ref q63, .ref q72, .int 0, .null, .null, .null])), (q7, .inl (c7, 10, .inl (fun _ => 0))), (q15, .inl (c7, 10, .inl (fun _ => 0))), (q23, .inl (c7, 120, .inl (fun _ => 0))), (q31, .inl (c7, 12, .inl (fun _ => 0))), (q39, .inl (c7, 9, .inl (fun _ => 0))), (q47, .inl (c7, 9, .inl (fun _ => 0))), (q55, .inl (c7, 20, .inl (fun _ => 0))), (q63, .inl (c7, 10, .inl (fun _ => 0))), (q72, .inl (c7, 324, .inl (fun _ => 0)))]) tyX5 tyX5_ok nmX5 rfl rfl inGX5 (by decide) flX5_34 rfl rfl (by decide +kernel) rfl rfl (Nat.le_of_ble_eq_true rfl) rfl dX5_init_74 ?_
  refine k_aload dX5_init_77 0 rfl ?_
  refine k_bipush (Int32.ofInt 12) dX5_init_78 (by decide) ?_
  refine k_newa 12 fa_int (by decide) (by decide) rfl rfl dX5_init_80 (fun q80 c80 => ?_)
  refine k_same 0 1 rfl rfl (fun z => ?_)
  subst z
  refine k_sub (ws' := [(h0, .inr (3, [.ref q7, .ref q15, .ref q23, .ref q31, .int 0, .ref q39, .int 0, .ref q47, .int 0, .ref q55, .int 0, .ref q63, .ref q72, .int 0, .null, .null, .null])), (q7, .inl (c7, 10, .inl (fun _ => 0))), (q15, .inl (c7, 10, .inl (fun _ => 0))), (q23, .inl (c7, 120, .inl (fun _ => 0))), (q31, .inl (c7, 12, .inl (fun _ => 0))), (q39, .inl (c7, 9, .inl (fun _ => 0))), (q47, .inl (c7, 9, .inl (fun _ => 0))), (q55, .inl (c7, 20, .inl (fun _ => 0))), (q63, .inl (c7, 10, .inl (fun _ => 0))), (q72, .inl (c7, 324, .inl (fun _ => 0))), (q80, .inl (c7, 12, .inl (fun _ => 0)))]) [0, 1, 2, 3, 4, 5, 6, 7, 8, 9, 10] [0] (tys' := [(c7, .int)]) rfl rfl rfl rfl ?_
  refine k_putF (q := 0) (ci := 3) (j := 14) (ty := .array .int) (ws' := [(h0, .inr (3, [.ref q7, .ref q15, .ref q23, .ref q31, .int 0, .ref q39, .int 0, .ref q47, .int 0, .ref q55, .int 0, .ref q63, .ref q72, .int 0, .ref q80, .null, .null])), (q7, .inl (c7, 10, .inl (fun _ => 0))), (q15, .inl (c7, 10, .inl (fun _ => 0))), (q23, .inl (c7, 120, .inl (fun _ => 0))), (q31, .inl (c7, 12, .inl (fun _ => 0))), (q39, .inl (c7, 9, .inl (fun _ => 0))), (q47, .inl (c7, 9, .inl (fun _ => 0))), (q55, .inl (c7, 20, .inl (fun _ => 0))), (q63, .inl (c7, 10, .inl (fun _ => 0))), (q72, .inl (c7, 324, .inl (fun _ => 0))), (q80, .inl (c7, 12, .inl (fun _ => 0)))]) tyX5 tyX5_ok nmX5 rfl rfl inGX5 (by decide) flX5_37 rfl rfl (by decide +kernel) rfl rfl (Nat.le_of_ble_eq_true rfl) rfl dX5_init_82 ?_
  refine k_aload dX5_init_85 0 rfl ?_
  refine k_bipush (Int32.ofInt 12) dX5_init_86 (by decide) ?_
  refine k_newa 12 fa_int (by decide) (by decide) rfl rfl dX5_init_88 (fun q88 c88 => ?_)
  refine k_same 0 1 rfl rfl (fun z => ?_)
  subst z
  refine k_sub (ws' := [(h0, .inr (3, [.ref q7, .ref q15, .ref q23, .ref q31, .int 0, .ref q39, .int 0, .ref q47, .int 0, .ref q55, .int 0, .ref q63, .ref q72, .int 0, .ref q80, .null, .null])), (q7, .inl (c7, 10, .inl (fun _ => 0))), (q15, .inl (c7, 10, .inl (fun _ => 0))), (q23, .inl (c7, 120, .inl (fun _ => 0))), (q31, .inl (c7, 12, .inl (fun _ => 0))), (q39, .inl (c7, 9, .inl (fun _ => 0))), (q47, .inl (c7, 9, .inl (fun _ => 0))), (q55, .inl (c7, 20, .inl (fun _ => 0))), (q63, .inl (c7, 10, .inl (fun _ => 0))), (q72, .inl (c7, 324, .inl (fun _ => 0))), (q80, .inl (c7, 12, .inl (fun _ => 0))), (q88, .inl (c7, 12, .inl (fun _ => 0)))]) [0, 1, 2, 3, 4, 5, 6, 7, 8, 9, 10, 11] [0] (tys' := [(c7, .int)]) rfl rfl rfl rfl ?_
  refine k_putF (q := 0) (ci := 3) (j := 15) (ty := .array .int) (ws' := [(h0, .inr (3, [.ref q7, .ref q15, .ref q23, .ref q31, .int 0, .ref q39, .int 0, .ref q47, .int 0, .ref q55, .int 0, .ref q63, .ref q72, .int 0, .ref q80, .ref q88, .null])), (q7, .inl (c7, 10, .inl (fun _ => 0))), (q15, .inl (c7, 10, .inl (fun _ => 0))), (q23, .inl (c7, 120, .inl (fun _ => 0))), (q31, .inl (c7, 12, .inl (fun _ => 0))), (q39, .inl (c7, 9, .inl (fun _ => 0))), (q47, .inl (c7, 9, .inl (fun _ => 0))), (q55, .inl (c7, 20, .inl (fun _ => 0))), (q63, .inl (c7, 10, .inl (fun _ => 0))), (q72, .inl (c7, 324, .inl (fun _ => 0))), (q80, .inl (c7, 12, .inl (fun _ => 0))), (q88, .inl (c7, 12, .inl (fun _ => 0)))]) tyX5 tyX5_ok nmX5 rfl rfl inGX5 (by decide) flX5_40 rfl rfl (by decide +kernel) rfl rfl (Nat.le_of_ble_eq_true rfl) rfl dX5_init_90 ?_
  refine k_aload dX5_init_93 0 rfl ?_
  refine k_sipush (Int32.ofInt 297) dX5_init_94 (by decide) ?_
  refine k_newa 297 fa_int (by decide) (by decide) rfl rfl dX5_init_97 (fun q97 c97 => ?_)
  refine k_same 0 1 rfl rfl (fun z => ?_)
  subst z
  refine k_sub (ws' := [(h0, .inr (3, [.ref q7, .ref q15, .ref q23, .ref q31, .int 0, .ref q39, .int 0, .ref q47, .int 0, .ref q55, .int 0, .ref q63, .ref q72, .int 0, .ref q80, .ref q88, .null])), (q7, .inl (c7, 10, .inl (fun _ => 0))), (q15, .inl (c7, 10, .inl (fun _ => 0))), (q23, .inl (c7, 120, .inl (fun _ => 0))), (q31, .inl (c7, 12, .inl (fun _ => 0))), (q39, .inl (c7, 9, .inl (fun _ => 0))), (q47, .inl (c7, 9, .inl (fun _ => 0))), (q55, .inl (c7, 20, .inl (fun _ => 0))), (q63, .inl (c7, 10, .inl (fun _ => 0))), (q72, .inl (c7, 324, .inl (fun _ => 0))), (q80, .inl (c7, 12, .inl (fun _ => 0))), (q88, .inl (c7, 12, .inl (fun _ => 0))), (q97, .inl (c7, 297, .inl (fun _ => 0)))]) [0, 1, 2, 3, 4, 5, 6, 7, 8, 9, 10, 11, 12] [0] (tys' := [(c7, .int)]) rfl rfl rfl rfl ?_
  refine k_putF (q := 0) (ci := 3) (j := 16) (ty := .array .int) (ws' := [(h0, .inr (3, [.ref q7, .ref q15, .ref q23, .ref q31, .int 0, .ref q39, .int 0, .ref q47, .int 0, .ref q55, .int 0, .ref q63, .ref q72, .int 0, .ref q80, .ref q88, .ref q97])), (q7, .inl (c7, 10, .inl (fun _ => 0))), (q15, .inl (c7, 10, .inl (fun _ => 0))), (q23, .inl (c7, 120, .inl (fun _ => 0))), (q31, .inl (c7, 12, .inl (fun _ => 0))), (q39, .inl (c7, 9, .inl (fun _ => 0))), (q47, .inl (c7, 9, .inl (fun _ => 0))), (q55, .inl (c7, 20, .inl (fun _ => 0))), (q63, .inl (c7, 10, .inl (fun _ => 0))), (q72, .inl (c7, 324, .inl (fun _ => 0))), (q80, .inl (c7, 12, .inl (fun _ => 0))), (q88, .inl (c7, 12, .inl (fun _ => 0))), (q97, .inl (c7, 297, .inl (fun _ => 0)))]) tyX5 tyX5_ok nmX5 rfl rfl inGX5 (by decide) flX5_43 rfl rfl (by decide +kernel) rfl rfl (Nat.le_of_ble_eq_true rfl) rfl dX5_init_99 ?_
  refine k_iconst (Int32.ofInt 0) dX5_init_102 rfl ?_
  refine k_istore dX5_init_103 rfl (loc' := [(1, .int (Int32.ofInt 0)), (0, .ref h0)]) rfl ?_
  refine k_iload dX5_init_104 0 rfl ?_
  refine k_bipush (Int32.ofInt 10) dX5_init_105 (by decide) ?_
  refine k_geN dX5_init_107 123 (by decide) (by decide) ?_
  refine k_aload dX5_init_110 1 rfl ?_
  refine k_get (q := 0) (ci := 3) (j := 0) rfl rfl inGX5 (by decide) flX5_7 rfl dX5_init_111 ?_
  refine k_iload dX5_init_114 0 rfl ?_
  refine k_iconst (Int32.ofInt (-1)) dX5_init_115 rfl ?_
  refine k_iast (q := 1) (t0 := 0) (ws' := [(h0, .inr (3, [.ref q7, .ref q15, .ref q23, .ref q31, .int 0, .ref q39, .int 0, .ref q47, .int 0, .ref q55, .int 0, .ref q63, .ref q72, .int 0, .ref q80, .ref q88, .ref q97])), (q7, .inl (c7, 10, .inl (upd (fun _ => 0) 0 (Int32.ofInt (-1))))), (q15, .inl (c7, 10, .inl (fun _ => 0))), (q23, .inl (c7, 120, .inl (fun _ => 0))), (q31, .inl (c7, 12, .inl (fun _ => 0))), (q39, .inl (c7, 9, .inl (fun _ => 0))), (q47, .inl (c7, 9, .inl (fun _ => 0))), (q55, .inl (c7, 20, .inl (fun _ => 0))), (q63, .inl (c7, 10, .inl (fun _ => 0))), (q72, .inl (c7, 324, .inl (fun _ => 0))), (q80, .inl (c7, 12, .inl (fun _ => 0))), (q88, .inl (c7, 12, .inl (fun _ => 0))), (q97, .inl (c7, 297, .inl (fun _ => 0)))]) rfl rfl (by unfold vp_in; decide) rfl dX5_init_116 ?_
  refine k_iinc (Int32.ofInt 1) dX5_init_117 0 rfl (by decide) rfl (loc' := [(1, .int (Int32.ofInt 1)), (0, .ref h0)]) rfl ?_
  refine k_goto dX5_init_120 104 (by decide) ?_
  refine k_iload dX5_init_104 0 rfl ?_
  refine k_bipush (Int32.ofInt 10) dX5_init_105 (by decide) ?_
  refine k_geN dX5_init_107 123 (by decide) (by decide) ?_
  refine k_aload dX5_init_110 1 rfl ?_
  refine k_get (q := 0) (ci := 3) (j := 0) rfl rfl inGX5 (by decide) flX5_7 rfl dX5_init_111 ?_
  refine k_iload dX5_init_114 0 rfl ?_
  refine k_iconst (Int32.ofInt (-1)) dX5_init_115 rfl ?_
  refine k_iast (q := 1) (t0 := 0) (ws' := [(h0, .inr (3, [.ref q7, .ref q15, .ref q23, .ref q31, .int 0, .ref q39, .int 0, .ref q47, .int 0, .ref q55, .int 0, .ref q63, .ref q72, .int 0, .ref q80, .ref q88, .ref q97])), (q7, .inl (c7, 10, .inl (upd (upd (fun _ => 0) 0 (Int32.ofInt (-1))) 1 (Int32.ofInt (-1))))), (q15, .inl (c7, 10, .inl (fun _ => 0))), (q23, .inl (c7, 120, .inl (fun _ => 0))), (q31, .inl (c7, 12, .inl (fun _ => 0))), (q39, .inl (c7, 9, .inl (fun _ => 0))), (q47, .inl (c7, 9, .inl (fun _ => 0))), (q55, .inl (c7, 20, .inl (fun _ => 0))), (q63, .inl (c7, 10, .inl (fun _ => 0))), (q72, .inl (c7, 324, .inl (fun _ => 0))), (q80, .inl (c7, 12, .inl (fun _ => 0))), (q88, .inl (c7, 12, .inl (fun _ => 0))), (q97, .inl (c7, 297, .inl (fun _ => 0)))]) rfl rfl (by unfold vp_in; decide) rfl dX5_init_116 ?_
  refine k_iinc (Int32.ofInt 2) dX5_init_117 0 rfl (by decide) rfl (loc' := [(1, .int (Int32.ofInt 2)), (0, .ref h0)]) rfl ?_
  refine k_goto dX5_init_120 104 (by decide) ?_
  refine k_iload dX5_init_104 0 rfl ?_
  refine k_bipush (Int32.ofInt 10) dX5_init_105 (by decide) ?_
  refine k_geN dX5_init_107 123 (by decide) (by decide) ?_
  refine k_aload dX5_init_110 1 rfl ?_
  refine k_get (q := 0) (ci := 3) (j := 0) rfl rfl inGX5 (by decide) flX5_7 rfl dX5_init_111 ?_
  refine k_iload dX5_init_114 0 rfl ?_
  refine k_iconst (Int32.ofInt (-1)) dX5_init_115 rfl ?_
  refine k_iast (q := 1) (t0 := 0) (ws' := [(h0, .inr (3, [.ref q7, .ref q15, .ref q23, .ref q31, .int 0, .ref q39, .int 0, .ref q47, .int 0, .ref q55, .int 0, .ref q63, .ref q72, .int 0, .ref q80, .ref q88, .ref q97])), (q7, .inl (c7, 10, .inl (upd (upd (upd (fun _ => 0) 0 (Int32.ofInt (-1))) 1 (Int32.ofInt (-1))) 2 (Int32.ofInt (-1))))), (q15, .inl (c7, 10, .inl (fun _ => 0))), (q23, .inl (c7, 120, .inl (fun _ => 0))), (q31, .inl (c7, 12, .inl (fun _ => 0))), (q39, .inl (c7, 9, .inl (fun _ => 0))), (q47, .inl (c7, 9, .inl (fun _ => 0))), (q55, .inl (c7, 20, .inl (fun _ => 0))), (q63, .inl (c7, 10, .inl (fun _ => 0))), (q72, .inl (c7, 324, .inl (fun _ => 0))), (q80, .inl (c7, 12, .inl (fun _ => 0))), (q88, .inl (c7, 12, .inl (fun _ => 0))), (q97, .inl (c7, 297, .inl (fun _ => 0)))]) rfl rfl (by unfold vp_in; decide) rfl dX5_init_116 ?_
  refine k_iinc (Int32.ofInt 3) dX5_init_117 0 rfl (by decide) rfl (loc' := [(1, .int (Int32.ofInt 3)), (0, .ref h0)]) rfl ?_
  refine k_goto dX5_init_120 104 (by decide) ?_
  refine k_iload dX5_init_104 0 rfl ?_
  refine k_bipush (Int32.ofInt 10) dX5_init_105 (by decide) ?_
  refine k_geN dX5_init_107 123 (by decide) (by decide) ?_
  refine k_aload dX5_init_110 1 rfl ?_
  refine k_get (q := 0) (ci := 3) (j := 0) rfl rfl inGX5 (by decide) flX5_7 rfl dX5_init_111 ?_
  refine k_iload dX5_init_114 0 rfl ?_
  refine k_iconst (Int32.ofInt (-1)) dX5_init_115 rfl ?_
  refine k_iast (q := 1) (t0 := 0) (ws' := [(h0, .inr (3, [.ref q7, .ref q15, .ref q23, .ref q31, .int 0, .ref q39, .int 0, .ref q47, .int 0, .ref q55, .int 0, .ref q63, .ref q72, .int 0, .ref q80, .ref q88, .ref q97])), (q7, .inl (c7, 10, .inl (upd (upd (upd (upd (fun _ => 0) 0 (Int32.ofInt (-1))) 1 (Int32.ofInt (-1))) 2 (Int32.ofInt (-1))) 3 (Int32.ofInt (-1))))), (q15, .inl (c7, 10, .inl (fun _ => 0))), (q23, .inl (c7, 120, .inl (fun _ => 0))), (q31, .inl (c7, 12, .inl (fun _ => 0))), (q39, .inl (c7, 9, .inl (fun _ => 0))), (q47, .inl (c7, 9, .inl (fun _ => 0))), (q55, .inl (c7, 20, .inl (fun _ => 0))), (q63, .inl (c7, 10, .inl (fun _ => 0))), (q72, .inl (c7, 324, .inl (fun _ => 0))), (q80, .inl (c7, 12, .inl (fun _ => 0))), (q88, .inl (c7, 12, .inl (fun _ => 0))), (q97, .inl (c7, 297, .inl (fun _ => 0)))]) rfl rfl (by unfold vp_in; decide) rfl dX5_init_116 ?_
  refine k_iinc (Int32.ofInt 4) dX5_init_117 0 rfl (by decide) rfl (loc' := [(1, .int (Int32.ofInt 4)), (0, .ref h0)]) rfl ?_
  refine k_goto dX5_init_120 104 (by decide) ?_
  refine k_iload dX5_init_104 0 rfl ?_
  refine k_bipush (Int32.ofInt 10) dX5_init_105 (by decide) ?_
  refine k_geN dX5_init_107 123 (by decide) (by decide) ?_
  refine k_aload dX5_init_110 1 rfl ?_
  refine k_get (q := 0) (ci := 3) (j := 0) rfl rfl inGX5 (by decide) flX5_7 rfl dX5_init_111 ?_
  refine k_iload dX5_init_114 0 rfl ?_
  refine k_iconst (Int32.ofInt (-1)) dX5_init_115 rfl ?_
  refine k_iast (q := 1) (t0 := 0) (ws' := [(h0, .inr (3, [.ref q7, .ref q15, .ref q23, .ref q31, .int 0, .ref q39, .int 0, .ref q47, .int 0, .ref q55, .int 0, .ref q63, .ref q72, .int 0, .ref q80, .ref q88, .ref q97])), (q7, .inl (c7, 10, .inl (upd (upd (upd (upd (upd (fun _ => 0) 0 (Int32.ofInt (-1))) 1 (Int32.ofInt (-1))) 2 (Int32.ofInt (-1))) 3 (Int32.ofInt (-1))) 4 (Int32.ofInt (-1))))), (q15, .inl (c7, 10, .inl (fun _ => 0))), (q23, .inl (c7, 120, .inl (fun _ => 0))), (q31, .inl (c7, 12, .inl (fun _ => 0))), (q39, .inl (c7, 9, .inl (fun _ => 0))), (q47, .inl (c7, 9, .inl (fun _ => 0))), (q55, .inl (c7, 20, .inl (fun _ => 0))), (q63, .inl (c7, 10, .inl (fun _ => 0))), (q72, .inl (c7, 324, .inl (fun _ => 0))), (q80, .inl (c7, 12, .inl (fun _ => 0))), (q88, .inl (c7, 12, .inl (fun _ => 0))), (q97, .inl (c7, 297, .inl (fun _ => 0)))]) rfl rfl (by unfold vp_in; decide) rfl dX5_init_116 ?_
  refine k_iinc (Int32.ofInt 5) dX5_init_117 0 rfl (by decide) rfl (loc' := [(1, .int (Int32.ofInt 5)), (0, .ref h0)]) rfl ?_
  refine k_goto dX5_init_120 104 (by decide) ?_
  refine k_iload dX5_init_104 0 rfl ?_
  refine k_bipush (Int32.ofInt 10) dX5_init_105 (by decide) ?_
  refine k_geN dX5_init_107 123 (by decide) (by decide) ?_
  refine k_aload dX5_init_110 1 rfl ?_
  refine k_get (q := 0) (ci := 3) (j := 0) rfl rfl inGX5 (by decide) flX5_7 rfl dX5_init_111 ?_
  refine k_iload dX5_init_114 0 rfl ?_
  refine k_iconst (Int32.ofInt (-1)) dX5_init_115 rfl ?_
  refine k_iast (q := 1) (t0 := 0) (ws' := [(h0, .inr (3, [.ref q7, .ref q15, .ref q23, .ref q31, .int 0, .ref q39, .int 0, .ref q47, .int 0, .ref q55, .int 0, .ref q63, .ref q72, .int 0, .ref q80, .ref q88, .ref q97])), (q7, .inl (c7, 10, .inl (upd (upd (upd (upd (upd (upd (fun _ => 0) 0 (Int32.ofInt (-1))) 1 (Int32.ofInt (-1))) 2 (Int32.ofInt (-1))) 3 (Int32.ofInt (-1))) 4 (Int32.ofInt (-1))) 5 (Int32.ofInt (-1))))), (q15, .inl (c7, 10, .inl (fun _ => 0))), (q23, .inl (c7, 120, .inl (fun _ => 0))), (q31, .inl (c7, 12, .inl (fun _ => 0))), (q39, .inl (c7, 9, .inl (fun _ => 0))), (q47, .inl (c7, 9, .inl (fun _ => 0))), (q55, .inl (c7, 20, .inl (fun _ => 0))), (q63, .inl (c7, 10, .inl (fun _ => 0))), (q72, .inl (c7, 324, .inl (fun _ => 0))), (q80, .inl (c7, 12, .inl (fun _ => 0))), (q88, .inl (c7, 12, .inl (fun _ => 0))), (q97, .inl (c7, 297, .inl (fun _ => 0)))]) rfl rfl (by unfold vp_in; decide) rfl dX5_init_116 ?_
  refine k_iinc (Int32.ofInt 6) dX5_init_117 0 rfl (by decide) rfl (loc' := [(1, .int (Int32.ofInt 6)), (0, .ref h0)]) rfl ?_
  refine k_goto dX5_init_120 104 (by decide) ?_
  refine k_iload dX5_init_104 0 rfl ?_
  refine k_bipush (Int32.ofInt 10) dX5_init_105 (by decide) ?_
  refine k_geN dX5_init_107 123 (by decide) (by decide) ?_
  refine k_aload dX5_init_110 1 rfl ?_
  refine k_get (q := 0) (ci := 3) (j := 0) rfl rfl inGX5 (by decide) flX5_7 rfl dX5_init_111 ?_
  refine k_iload dX5_init_114 0 rfl ?_
  refine k_iconst (Int32.ofInt (-1)) dX5_init_115 rfl ?_
  refine k_iast (q := 1) (t0 := 0) (ws' := [(h0, .inr (3, [.ref q7, .ref q15, .ref q23, .ref q31, .int 0, .ref q39, .int 0, .ref q47, .int 0, .ref q55, .int 0, .ref q63, .ref q72, .int 0, .ref q80, .ref q88, .ref q97])), (q7, .inl (c7, 10, .inl (upd (upd (upd (upd (upd (upd (upd (fun _ => 0) 0 (Int32.ofInt (-1))) 1 (Int32.ofInt (-1))) 2 (Int32.ofInt (-1))) 3 (Int32.ofInt (-1))) 4 (Int32.ofInt (-1))) 5 (Int32.ofInt (-1))) 6 (Int32.ofInt (-1))))), (q15, .inl (c7, 10, .inl (fun _ => 0))), (q23, .inl (c7, 120, .inl (fun _ => 0))), (q31, .inl (c7, 12, .inl (fun _ => 0))), (q39, .inl (c7, 9, .inl (fun _ => 0))), (q47, .inl (c7, 9, .inl (fun _ => 0))), (q55, .inl (c7, 20, .inl (fun _ => 0))), (q63, .inl (c7, 10, .inl (fun _ => 0))), (q72, .inl (c7, 324, .inl (fun _ => 0))), (q80, .inl (c7, 12, .inl (fun _ => 0))), (q88, .inl (c7, 12, .inl (fun _ => 0))), (q97, .inl (c7, 297, .inl (fun _ => 0)))]) rfl rfl (by unfold vp_in; decide) rfl dX5_init_116 ?_
  refine k_iinc (Int32.ofInt 7) dX5_init_117 0 rfl (by decide) rfl (loc' := [(1, .int (Int32.ofInt 7)), (0, .ref h0)]) rfl ?_
  refine k_goto dX5_init_120 104 (by decide) ?_
  refine k_iload dX5_init_104 0 rfl ?_
  refine k_bipush (Int32.ofInt 10) dX5_init_105 (by decide) ?_
  refine k_geN dX5_init_107 123 (by decide) (by decide) ?_
  refine k_aload dX5_init_110 1 rfl ?_
  refine k_get (q := 0) (ci := 3) (j := 0) rfl rfl inGX5 (by decide) flX5_7 rfl dX5_init_111 ?_
  refine k_iload dX5_init_114 0 rfl ?_
  refine k_iconst (Int32.ofInt (-1)) dX5_init_115 rfl ?_
  refine k_iast (q := 1) (t0 := 0) (ws' := [(h0, .inr (3, [.ref q7, .ref q15, .ref q23, .ref q31, .int 0, .ref q39, .int 0, .ref q47, .int 0, .ref q55, .int 0, .ref q63, .ref q72, .int 0, .ref q80, .ref q88, .ref q97])), (q7, .inl (c7, 10, .inl (upd (upd (upd (upd (upd (upd (upd (upd (fun _ => 0) 0 (Int32.ofInt (-1))) 1 (Int32.ofInt (-1))) 2 (Int32.ofInt (-1))) 3 (Int32.ofInt (-1))) 4 (Int32.ofInt (-1))) 5 (Int32.ofInt (-1))) 6 (Int32.ofInt (-1))) 7 (Int32.ofInt (-1))))), (q15, .inl (c7, 10, .inl (fun _ => 0))), (q23, .inl (c7, 120, .inl (fun _ => 0))), (q31, .inl (c7, 12, .inl (fun _ => 0))), (q39, .inl (c7, 9, .inl (fun _ => 0))), (q47, .inl (c7, 9, .inl (fun _ => 0))), (q55, .inl (c7, 20, .inl (fun _ => 0))), (q63, .inl (c7, 10, .inl (fun _ => 0))), (q72, .inl (c7, 324, .inl (fun _ => 0))), (q80, .inl (c7, 12, .inl (fun _ => 0))), (q88, .inl (c7, 12, .inl (fun _ => 0))), (q97, .inl (c7, 297, .inl (fun _ => 0)))]) rfl rfl (by unfold vp_in; decide) rfl dX5_init_116 ?_
  refine k_iinc (Int32.ofInt 8) dX5_init_117 0 rfl (by decide) rfl (loc' := [(1, .int (Int32.ofInt 8)), (0, .ref h0)]) rfl ?_
  refine k_goto dX5_init_120 104 (by decide) ?_
  refine k_iload dX5_init_104 0 rfl ?_
  refine k_bipush (Int32.ofInt 10) dX5_init_105 (by decide) ?_
  refine k_geN dX5_init_107 123 (by decide) (by decide) ?_
  refine k_aload dX5_init_110 1 rfl ?_
  refine k_get (q := 0) (ci := 3) (j := 0) rfl rfl inGX5 (by decide) flX5_7 rfl dX5_init_111 ?_
  refine k_iload dX5_init_114 0 rfl ?_
  refine k_iconst (Int32.ofInt (-1)) dX5_init_115 rfl ?_
  refine k_iast (q := 1) (t0 := 0) (ws' := [(h0, .inr (3, [.ref q7, .ref q15, .ref q23, .ref q31, .int 0, .ref q39, .int 0, .ref q47, .int 0, .ref q55, .int 0, .ref q63, .ref q72, .int 0, .ref q80, .ref q88, .ref q97])), (q7, .inl (c7, 10, .inl (upd (upd (upd (upd (upd (upd (upd (upd (upd (fun _ => 0) 0 (Int32.ofInt (-1))) 1 (Int32.ofInt (-1))) 2 (Int32.ofInt (-1))) 3 (Int32.ofInt (-1))) 4 (Int32.ofInt (-1))) 5 (Int32.ofInt (-1))) 6 (Int32.ofInt (-1))) 7 (Int32.ofInt (-1))) 8 (Int32.ofInt (-1))))), (q15, .inl (c7, 10, .inl (fun _ => 0))), (q23, .inl (c7, 120, .inl (fun _ => 0))), (q31, .inl (c7, 12, .inl (fun _ => 0))), (q39, .inl (c7, 9, .inl (fun _ => 0))), (q47, .inl (c7, 9, .inl (fun _ => 0))), (q55, .inl (c7, 20, .inl (fun _ => 0))), (q63, .inl (c7, 10, .inl (fun _ => 0))), (q72, .inl (c7, 324, .inl (fun _ => 0))), (q80, .inl (c7, 12, .inl (fun _ => 0))), (q88, .inl (c7, 12, .inl (fun _ => 0))), (q97, .inl (c7, 297, .inl (fun _ => 0)))]) rfl rfl (by unfold vp_in; decide) rfl dX5_init_116 ?_
  refine k_iinc (Int32.ofInt 9) dX5_init_117 0 rfl (by decide) rfl (loc' := [(1, .int (Int32.ofInt 9)), (0, .ref h0)]) rfl ?_
  refine k_goto dX5_init_120 104 (by decide) ?_
  refine k_iload dX5_init_104 0 rfl ?_
  refine k_bipush (Int32.ofInt 10) dX5_init_105 (by decide) ?_
  refine k_geN dX5_init_107 123 (by decide) (by decide) ?_
  refine k_aload dX5_init_110 1 rfl ?_
  refine k_get (q := 0) (ci := 3) (j := 0) rfl rfl inGX5 (by decide) flX5_7 rfl dX5_init_111 ?_
  refine k_iload dX5_init_114 0 rfl ?_
  refine k_iconst (Int32.ofInt (-1)) dX5_init_115 rfl ?_
  refine k_iast (q := 1) (t0 := 0) (ws' := [(h0, .inr (3, [.ref q7, .ref q15, .ref q23, .ref q31, .int 0, .ref q39, .int 0, .ref q47, .int 0, .ref q55, .int 0, .ref q63, .ref q72, .int 0, .ref q80, .ref q88, .ref q97])), (q7, .inl (c7, 10, .inl (upd (upd (upd (upd (upd (upd (upd (upd (upd (upd (fun _ => 0) 0 (Int32.ofInt (-1))) 1 (Int32.ofInt (-1))) 2 (Int32.ofInt (-1))) 3 (Int32.ofInt (-1))) 4 (Int32.ofInt (-1))) 5 (Int32.ofInt (-1))) 6 (Int32.ofInt (-1))) 7 (Int32.ofInt (-1))) 8 (Int32.ofInt (-1))) 9 (Int32.ofInt (-1))))), (q15, .inl (c7, 10, .inl (fun _ => 0))), (q23, .inl (c7, 120, .inl (fun _ => 0))), (q31, .inl (c7, 12, .inl (fun _ => 0))), (q39, .inl (c7, 9, .inl (fun _ => 0))), (q47, .inl (c7, 9, .inl (fun _ => 0))), (q55, .inl (c7, 20, .inl (fun _ => 0))), (q63, .inl (c7, 10, .inl (fun _ => 0))), (q72, .inl (c7, 324, .inl (fun _ => 0))), (q80, .inl (c7, 12, .inl (fun _ => 0))), (q88, .inl (c7, 12, .inl (fun _ => 0))), (q97, .inl (c7, 297, .inl (fun _ => 0)))]) rfl rfl (by unfold vp_in; decide) rfl dX5_init_116 ?_
  refine k_iinc (Int32.ofInt 10) dX5_init_117 0 rfl (by decide) rfl (loc' := [(1, .int (Int32.ofInt 10)), (0, .ref h0)]) rfl ?_
  refine k_goto dX5_init_120 104 (by decide) ?_
  refine k_iload dX5_init_104 0 rfl ?_
  refine k_bipush (Int32.ofInt 10) dX5_init_105 (by decide) ?_
  refine k_geY dX5_init_107 123 (by decide) (by decide) ?_
  refine k_sub (ws' := wd 13 (fun k => [h0, q7, q15, q23, q31, q39, q47, q55, q63, q72, q80, q88, q97].getD k 0) (fun k => if k = 1 then .inl (c7, 10, .inl hM0r) else ceM (fun k => [h0, q7, q15, q23, q31, q39, q47, q55, q63, q72, q80, q88, q97].getD k 0) c7 (hM0 k) k)) [0, 1, 2, 3, 4, 5, 6, 7, 8, 9, 10, 11, 12] [0] (tys' := [(c7, .int)]) rfl rfl rfl rfl ?_
  exact k_ret ⟨fun k => [h0, q7, q15, q23, q31, q39, q47, q55, q63, q72, q80, q88, q97].getD k 0, c7, rfl, rfl, rfl⟩ rfl rfl dX5_init_123
