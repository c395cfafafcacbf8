theorem BX4_same {u U : State} (h : u.vm = U.vm) (hB : BX4 u) : BX4 U := ⟨va_AO.moved (by rw [h]; exact Vm.Alike.refl U.vm) hB.1, va_Nw.same rfl h hB.2.1, va_Nw.same rfl h hB.2.2⟩
section WS
variable {p : Program} {l : Launch} {e : Env} {s : State} {m : MethodId} {below : List Frame} {meth : Method} {c : Code} {b L : Nat} {xs : Nat → Int32} {D : va_G} {pc : Nat} {stk : List Value} {H : Heap} {locs : List Loc} {ls : Array Slot} {cells slots : Nat} {Q : State → Prop}
/-- a constructor, called by the law on the cell that was made last -/
theorem w_make (C0 : lw_At p s m meth c b L xs) {M2 : MD} {idx q rc2 rs2 : Nat} {e0 : va_E} {E2 : KE} {B2 : State → Prop} {pre : va_W} {tys : List (ClassId × FieldType)} (hct : Kt l D M2 rc2 rs2 q e0 E2 B2) (hB : ∀ U : State, s.WarmedH U.vm → B2 U) (hBm : ∀ u U : State, u.vm = U.vm → B2 u → B2 U) (hm : MF M2 0) (hname : M2.1.name = "<init>") (hret : M2.2.2.2.1 = none) (hin : Cond.instanceMethod M2.1 ∈ tbG) (hlk : Cond.methodLink RL idx M2.1 ∈ tbG) (hR : (Nat.ble (M2.2.2.2.2.1 + 1) 8 && Nat.ble (8 + (M2.2.2.1 + 11) + M2.2.2.2.2.2) 296) = true) (hR2 : (Nat.ble (cells + rc2) 600000 && Nat.ble (slots + rs2) 7302250) = true) (hrm : Nat.ble (stk.map fun v => v.category).sum 8 = true) (hd : decode code pc = .ok (.invokespecial idx, 3)) (hls : ls.size = 4)
    (hK : va_K D clz tys s) (hP : va_P D clz (pre ++ [(q, e0)]) H) (hD : va_D (fun q : Nat => s.heap.size ≤ q) (pre ++ [(q, e0)])) (hS : va_S (fun q : Nat => s.heap.size ≤ q) s.heap H locs)
    (kk : ∀ (w2 : va_W) (t2 : List (ClassId × FieldType)) (H1 : Heap) (locs1 : List Loc), E2 w2 t2 → va_K D clz (tys ++ t2) s → va_P D clz (pre ++ w2) H1 → va_D (fun q : Nat => s.heap.size ≤ q) (pre ++ w2) → va_S (fun q : Nat => s.heap.size ≤ q) s.heap H1 locs1 → W p l e room_1 s m #[Value.ref b] below meth c H1 locs1 (cells + rc2) (slots + rs2) Q (F0 m (pc + 3) ls stk)) : W p l e room_1 s m #[Value.ref b] below meth c H locs cells slots Q (F0 m pc ls (.ref q :: stk)) := by
  obtain ⟨hx, hb, hr, hml, hown, hts, hX, hbl, hlocks, hgv⟩ := C0
  have hA : ∀ x : Nat, s.heap.size ≤ x → (fun q : Nat => s.heap.size ≤ q) x := fun _ h => h
  rw [Bool.and_eq_true] at hR hR2
  obtain ⟨m1, m2, m3⟩ := hm
  have hC1 : [pre.length].map (fun i => (pre ++ [(q, e0)])[i]?) = [(q, e0)].map some := by simp
  have hPc : va_P D clz [(q, e0)] H := hP.sub [pre.length] (by simp)
  have hDc : va_D (fun q : Nat => s.heap.size ≤ q) [(q, e0)] := hD.sub [pre.length] rfl hC1
  have hFc : ∀ x, va_A [(q, e0)] H.size x → s.heap.size ≤ x := va_free (wc := [(q, e0)]) hD hS hA [pre.length] hC1
  have hcb : CallB room_1 s #[Value.ref b] R_law idx M2.1 M2.2.1 M2.2.2.1 none (wsOf M2) (rmK M2 rc2 rs2) rc2 rs2 0 := callB_of 0 hts (fun w hw => by
    have q1 : w ∈ tbG := (List.mem_cons.mp hw).elim (fun e => e ▸ m1) id
    exact ⟨tbG_lw q1, good_of_word (tbG_good q1)⟩) (by rw [← hret]; rfl) rfl rfl (hts _ (tbG_lw m2)) (hts _ (tbG_lw hlk)) m3 ⟨Nat.le_of_ble_eq_true hR.1, Nat.le_of_ble_eq_true hR.2⟩
  have hrun := va_runI (g := F0 m pc ls (.ref q :: stk)) (As := []) (rest := stk) (cells := cells) (slots := slots) (locs := locs) (below := below) (e := e) (meth := meth) ⟨hx, hb, hml, hown, hts⟩ (hct H.size) ⟨hcb, hname, hts _ (tbG_lw hin)⟩ ⟨fun a U g mk z => by
    obtain ⟨q0, q1, qP, qK, qD, qB⟩ := z
    exact ⟨q0, q1, qP, va_K.moved (u := U) (U := U.calling g mk a) (Vm.Alike.refl U.vm) qK, qD, hBm U (U.calling g mk a) rfl qB⟩, fun U hU hW => ⟨rfl, by rw [hU], by rw [hU]; exact hPc, va_K.moved hW.alike (hK.sub (tys' := []) [] rfl), hDc.weaken (fun _ _ _ _ => trivial), hB U hW⟩⟩ rfl rfl hls rfl (lv_room (Nat.le_of_ble_eq_true hrm)) hd ⟨Nat.le_of_ble_eq_true hR2.1, Nat.le_of_ble_eq_true hR2.2⟩
  intro T hT X
  obtain ⟨v, st₀, t, T', Ls, h0, X', hL, e1, e2, ⟨⟨hv2, w2, t2, hE2, hP2, hK2, hD2⟩, hz, hk⟩, st⟩ := hrun T hT X
  cases hv2
  rw [h0] at hz hk
  have hK3 : va_K D clz (tys ++ t2) s := hK.app (va_K.moved (by rw [← e2]; exact X'.warmed.alike.symm) hK2)
  obtain ⟨hP3, hD3⟩ := va_join (wr := pre) (w1 := w2) hP hD [pre.length] (List.range pre.length) hC1 (k_rest pre (q, e0)) (by rw [List.range_eq_range']; exact va_nd_range _ _) (fun i hi => by simp at hi ⊢; omega) hk hFc hP2 hD2
  obtain ⟨t3, a1, b1⟩ := kk w2 t2 T'.heap (locs ++ Ls) hE2 hK3 (by rw [e1]; exact hP3) hD3
    ⟨Nat.le_trans hS.1 (by rw [e1]; exact hz), fun x h1 h2 => by rw [e1, hk x (Nat.lt_of_lt_of_le h1 hS.1) (fun z => h2 (hFc x z))]; exact hS.2.1 x h1 h2, fun x hx => by
      rcases List.mem_append.mp hx with h | h
      · exact hS.2.2 x h
      · exact hFc _ (hL x h)⟩ T' rfl X'
  exact ⟨t3, st t3 a1, b1⟩
end WS
theorem start_C {l : Launch} {D : va_G} {H : Heap} {ad : Nat → Nat} {cI cR : ClassId} {f : Nat → Option Nat} (hf : ∀ j, j < 10 → f j = some (ad (2 + j))) (h : va_P D clz (wd 30 ad (fun k => if k = 1 then .inl (cR, 10, .inr (.inr (.inr (.inr f)))) else ceC ad cI cR (hC0 k) k)) H) : va_P D clz ((sdC l D ad cI cR).2.2.2 hC0) H := by
  show va_P D clz (wd 30 ad (fun k => ceC ad cI cR (hC0 k) k)) H
  refine wd_P fun k hk => ?_
  have h1 := wd_P1 h k hk
  by_cases e : k = 1
  · subst e
    rw [if_pos rfl] at h1
    show H[ad 1]? = some (vp_cell cR (10, .inr (.inr (.inr (.inr (fun j => some (ad (2 + j))))))))
    have h2 : H[ad 1]? = some (vp_cell cR (10, .inr (.inr (.inr (.inr f))))) := h1
    rw [h2]
    show some (arrV cR 10 (fun j => va_rf (f j))) = some (arrV cR 10 (fun j => va_rf (some (ad (2 + j)))))
    exact congrArg some (arrV_cg (fun j hj => by rw [hf j hj]))
  · rw [if_neg e] at h1
    exact h1
theorem start_M {l : Launch} {D : va_G} {H : Heap} {ad : Nat → Nat} {cI : ClassId} (h : va_P D clz (wd 13 ad (fun k => if k = 1 then .inl (cI, 10, .inl hM0r) else ceM ad cI (hM0 k) k)) H) : va_P D clz ((sdM l D ad cI).2.2.2 hM0) H := by
  show va_P D clz (wd 13 ad (fun k => ceM ad cI (hM0 k) k)) H
  refine wd_P fun k hk => ?_
  have h1 := wd_P1 h k hk
  by_cases e : k = 1
  · subst e
    rw [if_pos rfl] at h1
    show H[ad 1]? = some (vp_cell cI (10, .inl (fun j => Int32.ofInt (hM0 1 j))))
    have h2 : H[ad 1]? = some (vp_cell cI (10, .inl hM0r)) := h1
    rw [h2]
    have e3 : (fun j => Int32.ofInt (hM0 1 j)) = hM0r := by
      funext j
      show Int32.ofInt (if (1 : Nat) = 1 then (hM0r j).toInt else 0) = hM0r j
      rw [if_pos rfl, Int32.ofInt_toInt]
    rw [e3]
  · rw [if_neg e] at h1
    exact h1
set_option maxHeartbeats 4000000 in
set_option maxRecDepth 100000 in
theorem whole_startJ {J : HP → HP → Prop} (G : Good J) (hJ0 : J hC0 hM0) {p : Program} {e : Env} {s : State} {m : MethodId} {below : List Frame} {meth : Method} {c : Code} (l : Launch) {b L : Nat} {xs : Nat → Int32} (hL : L ≤ 3584) (C0 : lw_At p s m meth c b L xs) : W p l e room_1 s m #[Value.ref b] below meth c s.heap [] 0 0 (lw_Z below #[Value.ref b] s) (entryFrame m ([Value.ref b] : List Value).toArray 4) := by
  obtain ⟨hx, hb, hr, hml, hown, hts, hX, hbl, hlocks, hgv⟩ := id C0
  have hA : ∀ q : Nat, s.heap.size ≤ q → (fun q : Nat => s.heap.size ≤ q) q := fun _ h => h
  have tl : ∀ {w : Cond}, w ∈ tbG → w.before #[Value.ref b] s = true := fun h => hts _ (tbG_lw h)
  obtain ⟨c0, iS0, hKn0⟩ := u_known (C := RX0) (T := TX0) (N := 2) (n := 2) hts inlX0 (tl fiX0)
  obtain ⟨c1, iS1, hKn1⟩ := u_known (C := RX3) (T := TX3) (N := 3) (n := 3) hts inlX3 (tl fiX3)
  obtain ⟨c2, iS2, hKn2⟩ := u_known (C := RX4) (T := TX4) (N := 9) (n := 9) hts inlX4 (tl fiX4)
  obtain ⟨c3, iS3, hKn3⟩ := u_known (C := RX5) (T := TX5) (N := 17) (n := 17) hts inlX5 (tl fiX5)
  obtain ⟨dC, dI, hKc⟩ : ∃ (dC : Nat → ClassId) (dI : Nat → Nat → Nat), ∀ (k : Nat) (q : vw_C), clz[k]? = some q → u_Kn s q.1 q.2.1 q.2.2 (dC k) (dI k) := by
    refine ⟨fun k => if k = 0 then c0 else if k = 1 then c1 else if k = 2 then c2 else c3, fun k => if k = 0 then iS0 else if k = 1 then iS1 else if k = 2 then iS2 else iS3, ?_⟩
    intro k q hq
    match k, hq with
    | 0, hq => cases hq; exact hKn0
    | 1, hq => cases hq; exact hKn1
    | 2, hq => cases hq; exact hKn2
    | 3, hq => cases hq; exact hKn3
    | k + 4, hq => simp [clz] at hq
  have hS : va_S (fun q : Nat => s.heap.size ≤ q) s.heap s.heap [] := va_S.rf
  have hK : va_K (dC, dI) clz [] s := ⟨hKc, fun k q h => by simp at h⟩
  have hP : va_P (dC, dI) clz [] s.heap := fun k q h => by simp at h
  have hD : va_D (fun q : Nat => s.heap.size ≤ q) [] := ⟨fun i j p q h => by simp at h, fun k q h => by simp at h⟩
  have hl := lv_entry ([.ref b]) (n := 4) (Nat.le_of_ble_eq_true rfl)
  rw [lg_entry_eq]
  generalize (lg_sl ([.ref b]) ++ List.replicate (4 - (lg_sl ([.ref b])).length) Slot.unset).toArray = ls at hl ⊢
  have hl : lv_has ls 4 [(0, .ref b)] := hl
  have hBX : ∀ U : State, s.WarmedH U.vm → BX4 U := fun U hW => ⟨va_AO.moved hW.alike (va_AO.of (hts _ (List.mem_append_right _ (List.mem_of_getElem? (i := 18) (by decide +kernel))))), va_Nw.warmM hW (va_Nw.of rfl (hts _ (List.mem_append_right _ (List.mem_of_getElem? (i := 21) (by decide +kernel))))), va_Nw.warmM hW (va_Nw.of rfl (hts _ (List.mem_append_right _ (List.mem_of_getElem? (i := 34) (by decide +kernel)))))⟩
  refine va_new (ci := 2) (fs := [.null, .int 0, .null, .null, .null, .null, .null, .null, .null]) (C := RX4) (T := TX4) (N := 9) hx hb hts inlX4 tyX4 tyX4_ok hown (tl fkL_7) (tl fiX4) (tl fjX4) hK hP hD hS hA rfl (fun j hj => by rcases (show j = 0 ∨ j = 1 ∨ j = 2 ∨ j = 3 ∨ j = 4 ∨ j = 5 ∨ j = 6 ∨ j = 7 ∨ j = 8 by omega) with rfl | rfl | rfl | rfl | rfl | rfl | rfl | rfl | rfl <;> rfl) (Nat.le_of_ble_eq_true rfl) (Nat.le_of_ble_eq_true rfl) dL_law_0 (fun q0 H hP hD hS => ?_)
  refine lv_dup hx hb dL_law_3 rfl ?_
  refine w_make C0 (pre := []) (mkX4_init q0) hBX (fun u U h hB => BX4_same h hB) kX4_init rfl rfl vX4_init lkL_9 rfl rfl rfl dL_law_4 hl.1 hK hP hD hS (fun w2 t2 H locs hE hK1 hP hD hS => ?_)
  obtain ⟨a1, cI, cR, f, ea, hf, rfl, rfl⟩ := hE
  have hK1 : va_K (dC, dI) clz [(cI, .int), (cR, .object "FormsOfTwo$Sheet")] s := hK1
  have hP : va_P (dC, dI) clz (wd 30 a1 (fun k => if k = 1 then .inl (cR, 10, .inr (.inr (.inr (.inr f)))) else ceC a1 cI cR (hC0 k) k)) H := hP
  have hD : va_D (fun q : Nat => s.heap.size ≤ q) (wd 30 a1 (fun k => if k = 1 then .inl (cR, 10, .inr (.inr (.inr (.inr f)))) else ceC a1 cI cR (hC0 k) k)) := hD
  refine lv_astore_n (lv' := [(1, .ref q0), (0, .ref b)]) hx hb dL_law_7 rfl hl (by decide) rfl (fun ls hl => ?_)
  refine va_new (ci := 3) (fs := [.null, .null, .null, .null, .int 0, .null, .int 0, .null, .int 0, .null, .int 0, .null, .null, .int 0, .null, .null, .null]) (C := RX5) (T := TX5) (N := 17) hx hb hts inlX5 tyX5 tyX5_ok hown (tl fkL_10) (tl fiX5) (tl fjX5) hK1 hP hD hS hA rfl (fun j hj => by rcases (show j = 0 ∨ j = 1 ∨ j = 2 ∨ j = 3 ∨ j = 4 ∨ j = 5 ∨ j = 6 ∨ j = 7 ∨ j = 8 ∨ j = 9 ∨ j = 10 ∨ j = 11 ∨ j = 12 ∨ j = 13 ∨ j = 14 ∨ j = 15 ∨ j = 16 by omega) with rfl | rfl | rfl | rfl | rfl | rfl | rfl | rfl | rfl | rfl | rfl | rfl | rfl | rfl | rfl | rfl | rfl <;> rfl) (Nat.le_of_ble_eq_true rfl) (Nat.le_of_ble_eq_true rfl) dL_law_8 (fun q1 H hP hD hS => ?_)
  refine lv_dup hx hb dL_law_11 rfl ?_
  refine w_make C0 (mkX5_init q1) (fun _ _ => trivial) (fun _ _ _ _ => trivial) kX5_init rfl rfl vX5_init lkL_12 rfl rfl rfl dL_law_12 hl.1 hK1 hP hD hS (fun w2 t2 H locs hE hK2 hP hD hS => ?_)
  obtain ⟨a2, cJ, eb, rfl, rfl⟩ := hE
  refine lv_astore_n (lv' := [(2, .ref q1), (1, .ref q0), (0, .ref b)]) hx hb dL_law_15 rfl hl (by decide) rfl (fun ls hl => ?_)
  refine lv_iconst (v := nI 0) hx hb dL_law_16 rfl ?_
  refine lv_istore_n (lv' := [(3, .int (nI 0)), (2, .ref q1), (1, .ref q0), (0, .ref b)]) hx hb dL_law_17 rfl hl (by decide) rfl (fun ls hl => ?_)
  have len1 : (wd 30 a1 (fun k => if k = 1 then (.inl (cR, 10, .inr (.inr (.inr (.inr f)))) : va_E) else ceC a1 cI cR (hC0 k) k)).length = 30 := by simp [wd]
  have gL : ∀ (x y : va_W) (k : Nat) (q : Nat × va_E), x[k]? = some q → (x ++ y)[k]? = some q := fun x y k q h => by rw [List.getElem?_append_left (List.getElem?_eq_some_iff.mp h).1]; exact h
  have gR : ∀ (x y : va_W) (k : Nat) (q : Nat × va_E), y[k]? = some q → (x ++ y)[x.length + k]? = some q := fun x y k q h => by rw [List.getElem?_append_right (by omega), Nat.add_sub_cancel_left]; exact h
  have hP1 : va_P (dC, dI) clz (wd 30 a1 (fun k => if k = 1 then .inl (cR, 10, .inr (.inr (.inr (.inr f)))) else ceC a1 cI cR (hC0 k) k)) H := fun k q hk => hP k q (gL _ _ k q hk)
  have hP2 : va_P (dC, dI) clz (wd 13 a2 (fun k => if k = 1 then .inl (cJ, 10, .inl hM0r) else ceM a2 cJ (hM0 k) k)) H := fun k q hk => hP _ q (gR _ _ k q hk)
  have hD1 : va_D (fun q : Nat => s.heap.size ≤ q) (wd 30 a1 (fun k => if k = 1 then .inl (cR, 10, .inr (.inr (.inr (.inr f)))) else ceC a1 cI cR (hC0 k) k)) := ⟨fun i j x y hi hj => hD.1 i j x y (gL _ _ i x hi) (gL _ _ j y hj), fun k q hk => hD.2 k q (gL _ _ k q hk)⟩
  have hD2 : va_D (fun q : Nat => s.heap.size ≤ q) (wd 13 a2 (fun k => if k = 1 then .inl (cJ, 10, .inl hM0r) else ceM a2 cJ (hM0 k) k)) := ⟨fun i j x y hi hj h => by have := hD.1 _ _ x y (gR _ _ i x hi) (gR _ _ j y hj) h; omega, fun k q hk => hD.2 _ q (gR _ _ k q hk)⟩
  have hXX : ∀ i j, i < 30 → j < 13 → a1 i ≠ a2 j := fun i j hi hj h => by
    have := hD.1 _ _ _ _ (gL _ _ i _ (wd_get hi)) (gR _ _ j _ (wd_get hj)) h
    rw [len1] at this
    omega
  have C : LX p l s m meth c b L xs (dC, dI) a1 a2 cI cR cJ := ⟨C0, hK1, hK2.sub [2] rfl, (wd_D1 hD1).1, (wd_D1 hD1).2, (wd_D1 hD2).1, (wd_D1 hD2).2, hXX⟩
  have hl : lv_has ls 4 [(0, .ref b), (1, .ref (a1 0)), (2, .ref (a2 0)), (3, .int (nI 0))] := by rw [ea, eb]; exact lv_sub hl [3, 2, 1, 0] rfl
  exact law_loop G C hL (L + 8) 0 hC0 hM0 (by omega) (by omega) hJ0 H _ ls (start_C hf hP1) (start_M hP2) hS hl
