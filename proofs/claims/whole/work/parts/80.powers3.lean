def pB (r F : Nat → Int) (N : Int) (k i j : Nat) : Int := if j < k then chf N i * r j ^ i else F i
theorem pB_sm (r F z : Nat → Int) (N : Int) (k i : Nat) : sm (fun j => pB r F N k i j * z j) (k + 1) = chf N i * sm (fun j => z j * r j ^ i) k + F i * z k := by
  show sm (fun j => pB r F N k i j * z j) k + pB r F N k i k * z k = _
  have e : pB r F N k i k = F i := by unfold pB; rw [if_neg (Nat.lt_irrefl k)]
  rw [e, Int.mul_comm (chf N i), ← sm_mul]
  refine congrArg (fun y => y + F i * z k) (sm_cg (fun j hj => ?_))
  unfold pB
  rw [if_pos hj, Int.mul_assoc, Int.mul_comm (chf N i), Int.mul_comm (r j ^ i)]
theorem chf_nz {N : Int} (hN : 0 ≤ N ∧ N ≤ 8) {i : Nat} (hi : (i : Int) ≤ N) : nz (chf N i) := by
  have h1 := chf_p hN hi
  exact (nz_rs (chf_rs hN (by omega))).mpr (by omega)
theorem pB_v {r F : Nat → Int} {N : Int} {k : Nat} (hN : 0 ≤ N ∧ N ≤ 8) (hk : (k : Int) ≤ N + 1) (hd : ds r k) : ∀ z, kr (pB r F N k) k (k + 1) z → z k = 0 → ∀ j, j < k → ep (z j) 0 := fun z hz h0 j hj =>
  vdm k r z hd (fun i hi => by
    have := hz i hi
    rw [pB_sm, h0, Int.mul_zero, Int.add_zero] at this
    exact ep_z (chf_nz hN (by omega)) this) j hj
theorem cond_dc {F : Nat → Int} {N : Int} (hN : 0 ≤ N ∧ N ≤ 8) {i : Nat} (hi : (i : Int) ≤ N) {S : Int} : ep (S * chf N i) (F i) ↔ ep S (dc F N i) := by
  have inv : ep (chf N i * pw (chf N i)) 1 := fer (chf_rs hN (by omega)) (by have := chf_p hN hi; omega)
  constructor
  · intro h
    have t1 := ep_u h (ep_r (pw (chf N i)))
    rw [Int.mul_assoc] at t1
    have t2 := ep_u (ep_r S) inv
    rw [Int.mul_one] at t2
    exact ep_t (ep_s t2) (ep_t t1 (ep_s (ep_m _)))
  · intro h
    have t1 := ep_u (ep_t h (ep_m _)) (ep_r (chf N i))
    rw [Int.mul_assoc, Int.mul_comm (pw (chf N i))] at t1
    have t2 := ep_u (ep_r (F i)) inv
    rw [Int.mul_one] at t2
    exact ep_t t1 t2
theorem mPW {x4 : Int} {k N : Nat} (hk : k ≤ 9) (hN : N ≤ 8) (hkN : k ≤ N + 1) {m : HP} (h6 : m 0 6 = N) (r F : Nat → Int) (hr : ∀ l, rs (r l)) (h10 : ∀ l, l < k → m 10 l = r l) (h5 : m 5 = F) (hF : ∀ j, j < 9 → rs (F j)) (hd : ds r k) : ∃ m', (∀ a, a ≠ 0 → a ≠ 9 → a ≠ 11 → m' a = m a) ∧ (∀ j, j ≠ 13 → m' 0 j = m 0 j) ∧ (∀ l, l < k → rs (m' 11 l)) ∧ (∀ i, i < k → ep (sm (fun l => m' 11 l * r l ^ i) k) (dc F N i)) ∧ ((∀ i, i < N + 1 → ep (sm (fun l => m' 11 l * r l ^ i) k) (dc F N i)) → LX5_powers_180 FU k x4 0 m = (cl (fX5_noughtH ((k : Int) - 1) m') fun _ h479 => LX5_powers_485 FU k x4 0 h479)) ∧ ((¬ ∀ i, i < N + 1 → ep (sm (fun l => m' 11 l * r l ^ i) k) (dc F N i)) → LX5_powers_180 FU k x4 0 m = some (-3, m')) := by
  have zN : 0 ≤ (N : Int) ∧ (N : Int) ≤ 8 := by omega
  obtain ⟨m1, a1, a2, a3, a4⟩ := mPf2 (x4 := x4) hk hN hkN r F (fun l _ => hr l) hF k 0 FU m (by omega) (by omega) (fu_lt (by omega)) h6 h10 h5 (fun s l hs' => by omega) (fun s hs' => by omega)
  have mm1 : ∀ s l, mm (hs m1 0 13 1) s l = mm m1 s l := fun s l => hs_k (by decide)
  have hb1 : RB (mm (hs m1 0 13 1)) k (k + 1) := fun s l hs' hl => by
    rw [mm1]
    by_cases z : l = k
    · rw [z, a4 s hs']; exact hF s (by omega)
    · exact (a3 s l hs' (by omega)).1
  obtain ⟨m2, b1, b2, b3, b4, b5, b6, b7⟩ := mEk (k := k) (by omega) (pB_v (F := F) zN (by omega) hd) k 0 FU (hs m1 0 13 1) (by omega) (by omega) (fu_lt (by omega)) hb1 (by rw [hs_s]; exact ⟨by decide, by decide⟩) (fun s l _ hl => by omega) (fun s hs' => by omega) (fun z hz => (kr_e (T' := pB r F N k) (fun i j hi hj => by
    rw [mm1]
    unfold pB
    by_cases y : j < k
    · rw [if_pos y]; exact (a3 i j hi y).2
    · rw [if_neg y, show j = k by omega, a4 i hi]; exact ep_r _) z).mp hz)
  obtain ⟨m3, c1, c2, c3, c4⟩ := mBs2 (x4 := x4) hk k FU m2 (Nat.le_refl _) (fu_lt (by omega)) b4 b6 (fun l x y => by omega) (fun s x y => by omega)
  have fr : ∀ a, a ≠ 0 → a ≠ 9 → a ≠ 11 → m3 a = m a := fun a x y w => by rw [c2 a w, b2 a x y, hs_ne x, a2 a y]
  have fr0 : ∀ j, j ≠ 13 → m3 0 j = m 0 j := fun j x => by rw [c2 0 (by decide), b3 j x, hs_j x, a2 0 (by decide)]
  have hkr : kr (mm m2) k (k + 1) (zc (m3 11) k) := fun i hi => by
    show ep (sm (fun j => mm m2 i j * zc (m3 11) k j) k + mm m2 i k * zc (m3 11) k k) 0
    have e1 : zc (m3 11) k k = -1 := by unfold zc; rw [if_neg (Nat.lt_irrefl k)]
    have e2 : sm (fun j => mm m2 i j * zc (m3 11) k j) k = sm (fun l => mm m2 i l * (if l < i then 0 else m3 11 l)) k := sm_cg (fun l hl => by
      unfold zc
      rw [if_pos hl]
      by_cases y : l < i
      · rw [if_pos y, b5 i l hi y, Int.zero_mul, Int.zero_mul]
      · rw [if_neg y])
    rw [e1, e2, Int.mul_neg, Int.mul_one, ← Int.sub_eq_add_neg]
    exact ep_b0.mpr (c4 i hi)
  have first : ∀ i, i < k → ep (sm (fun l => m3 11 l * r l ^ i) k) (dc F N i) := fun i hi => by
    have h := b7 _ hkr i hi
    rw [pB_sm] at h
    have e1 : zc (m3 11) k k = -1 := by unfold zc; rw [if_neg (Nat.lt_irrefl k)]
    have e2 : sm (fun j => zc (m3 11) k j * r j ^ i) k = sm (fun l => m3 11 l * r l ^ i) k := sm_cg (fun l hl => by unfold zc; rw [if_pos hl])
    rw [e1, e2, Int.mul_neg, Int.mul_one, ← Int.sub_eq_add_neg, Int.mul_comm] at h
    exact (cond_dc zN (by omega)).mp (ep_b0.mp h)
  obtain ⟨k1, k2⟩ := mCk2 (x4 := x4) hk hN (m := m3) (by rw [fr0 6 (by decide)]; exact h6) r (m3 11) F (fun l _ => hr l) c3 hF (fun l hl => by rw [fr 10 (by decide) (by decide) (by decide)]; exact h10 l hl) (fun _ _ => rfl) (by rw [fr 5 (by decide) (by decide) (by decide)]; exact h5) (N + 1) 0 FU (by omega) (by omega) (fu_lt (by omega))
  have start : LX5_powers_180 FU k x4 0 m = LX5_powers_384 FU k x4 0 m3 := by
    rw [show ((0 : Nat) : Int) = 0 from rfl] at a1 b1
    rw [a1]
    unfold fX5_eliminate
    rw [pf_d, b1, cl_some, lt_d]
    exact c1
  rw [show ((0 : Nat) : Int) = 0 from rfl] at k1 k2
  refine ⟨m3, fr, fr0, c3, first, fun h => ?_, fun h => ?_⟩
  · rw [start]
    exact k1 (fun s _ hs' => ep_i (rs_mod _) (hF s (by omega)) (ep_t (ep_m _) ((cond_dc zN (by omega)).mpr (h s (by omega)))))
  · rw [start]
    refine k2 ?_
    by_cases y : ∃ s, 0 ≤ s ∧ s ≤ N ∧ sm (fun l => m3 11 l * r l ^ s) k * chf N s % 10007 ≠ F s
    · exact y
    · refine absurd (fun i hi => (cond_dc zN (by omega)).mp ?_) h
      by_cases w : sm (fun l => m3 11 l * r l ^ i) k * chf N i % 10007 = F i
      · rw [← w]; exact ep_s (ep_m _)
      · exact absurd ⟨i, by omega, by omega, w⟩ y
theorem So_u {r b c d : Nat → Int} {k : Nat} (hd : ds r k) (h1 : ∀ i, i < k → ep (sm (fun l => c l * r l ^ i) k) (b i)) (h2 : ∀ i, i < k → ep (sm (fun l => d l * r l ^ i) k) (b i)) : ∀ j, j < k → ep (c j) (d j) := fun j hj =>
  ep_b0.mp (vdm k r (fun j => c j - d j) hd (fun i hi => by
    have e : sm (fun l => (c l - d l) * r l ^ i) k = sm (fun l => c l * r l ^ i) k - sm (fun l => d l * r l ^ i) k := by
      have t := sm_lin (fun l => c l * r l ^ i) (fun l => d l * r l ^ i) 1 (-1) k
      rw [Int.one_mul, Int.neg_mul, Int.one_mul, ← Int.sub_eq_add_neg] at t
      rw [← t]
      exact sm_cg (fun l _ => by rw [Int.one_mul, Int.neg_mul, Int.one_mul, Int.sub_mul, Int.sub_eq_add_neg])
    show ep (sm (fun l => (c l - d l) * r l ^ i) k) 0
    rw [e]
    exact ep_b0.mpr (ep_t (h1 i hi) (ep_s (h2 i hi)))) j hj)
theorem mPo_bad {x1 x2 x3 x4 : Int} (w1 : wi x1 = x1) (w2 : wi x2 = x2) (w3 : wi x3 = x3) (w4' : wi x4 = x4) (h : ¬ ((0 ≤ x1 ∧ x1 < 10) ∧ (0 ≤ x2 ∧ x2 < 10) ∧ (1 ≤ x3 ∧ x3 ≤ 9) ∧ (0 ≤ x4 ∧ x4 < 10))) (m : HP) : fX5_powers x1 x2 x3 x4 m = some (-2, m) := by
  unfold fX5_powers
  by_cases c1 : 0 ≤ x1 ∧ x1 < 10
  · rw [mIS_ok c1.1 c1.2, cl_some, if_neg (by decide)]
    by_cases c2 : 0 ≤ x2 ∧ x2 < 10
    · rw [mIS_ok c2.1 c2.2, cl_some, if_neg (by decide)]
      by_cases c3 : 1 ≤ x3 ∧ x3 ≤ 9
      · rw [mIn_y w3 rfl rfl c3.1 c3.2, cl_some, if_neg (by decide), mIS_bad w4' (by omega), cl_some, if_pos wi_0]
      · rw [mIn_n w3 rfl rfl c3, cl_some, if_pos wi_0]
    · rw [mIS_bad w2 c2, cl_some, if_pos wi_0]
  · rw [mIS_bad w1 c1, cl_some, if_pos wi_0]
theorem g_powers : G_powers JJ := by
  intro g m hJ x1 x2 x3 x4 w1 w2 w3 w4'
  have k9 : wi 9 = 9 := rfl
  by_cases c5 : (0 ≤ x4 ∧ x4 < 10) ∧ (1 ≤ x3 ∧ x3 ≤ 9)
  · obtain ⟨c4, c3⟩ := c5
    have cl0 : fX4_powers x1 x2 x3 x4 g = (cl (fX4_refuseSheets x1 x2 g) fun r25 h25 => if wi r25 = 0 then (lda x1 fun q43 => cl (fX3_isForm q43 h25) fun r44 h44 => if wi r44 = 0 then (some ((-3), h44)) else (lda x1 fun q56 => if wi (h44 q56 2) < wi x3 then (some ((-3), h44)) else (lda x2 fun q71 => if wi (h44 q71 2) < wi x3 then (cl (fX4_found 2 h44) fun r81 h81 => some (r81, h81)) else (cl (fX4_load x1 22 h44) fun r91 h91 => lda x2 fun q101 => cl (fX3_startsUnlike q101 x3 h91) fun r103 h103 => if wi r103 = 0 then (some ((-3), h103)) else (lda x2 fun q117 => cl (fX4_makePowers r91 q117 x3 h103) fun r119 h119 => if wi r119 = 0 then (some ((-3), h119)) else (lda x4 fun q134 => cl (fX3_become q134 26 x3 h119) fun _ h140 => some (x3, h140))))))) else (some (r25, h25))) := by
      unfold fX4_powers
      rw [pNS_ok c4.1 c4.2, cl_some, if_pos wi_0, w3, wi_1, k9, if_pos c3.1, if_neg (by omega)]
    rcases two_sheet hJ w1 w2 with ⟨c, e⟩ | ⟨c, d, e, k1, k2, hl⟩ | ⟨c, d, hw, hw', e, hm, hm', k1, k2, k3, k4, k5, k6⟩
    · refine ⟨-2, -2, g, m, ?_, mPo_bad w1 w2 w3 w4' (by omega) m, rfl, hJ⟩
      rw [cl0, e, cl_some, if_neg (by decide)]
    · refine ⟨-11, -11, hs g 0 1 1, hs m 0 4 1, ?_, ?_, rfl, JJ_met hJ 1 (by decide) (by decide)⟩
      · rw [cl0, e, cl_some, if_neg (by decide)]
      · unfold fX5_powers
        rw [mIS_ok c.1 c.2, cl_some, if_neg (by decide), mIS_ok d.1 d.2, cl_some, if_neg (by decide), mIn_y w3 rfl rfl c3.1 c3.2, cl_some, if_neg (by decide), mIS_ok c4.1 c4.2, cl_some, if_neg (by decide), mk_ld c, wi_id (z := m 1 x1.toNat) (by omega) (by omega)]
        by_cases z : 0 ≤ m 1 x1.toNat
        · rw [if_pos z, mk_ld d, wi_id (by omega) (by omega), if_pos (by omega), mMet]; rfl
        · rw [if_neg z, mMet]; rfl
    · have s1 : x1.toNat < 10 := by omega
      have s2 : x2.toNat < 10 := by omega
      have a1 := hw.1; have a2 := hw.2.1; have a3 := hw'.1; have a4 := hw'.2.1
      have z1 : wi (g (2 + x1.toNat) 2) = g (2 + x1.toNat) 2 := wi_id (by omega) (by omega)
      have z2 : wi (g (2 + x2.toNat) 2) = g (2 + x2.toNat) 2 := wi_id (by omega) (by omega)
      have ml0 : fX5_powers x1 x2 x3 x4 m = (cl (fX5_isForm x1 m) fun r63 h63 => if wi r63 = 0 then (some ((-3), h63)) else (ld (lnM 2) (h63 2) x1 fun v75 => if wi v75 < wi x3 then (some ((-3), h63)) else (ld (lnM 2) (h63 2) x2 fun v87 => if wi v87 < wi x3 then (cl (fX5_met 2 h63) fun r94 h94 => some (r94, h94)) else (cl (fX5_takeF x1 h63) fun _ h100 => LX5_powers_106 FU x2 x3 x4 0 h100)))) := by
        unfold fX5_powers
        rw [mIS_ok c.1 c.2, cl_some, if_neg (by decide), mIS_ok d.1 d.2, cl_some, if_neg (by decide), mIn_y w3 rfl rfl c3.1 c3.2, cl_some, if_neg (by decide), mIS_ok c4.1 c4.2, cl_some, if_neg (by decide), mk_ld c, wi_id (z := m 1 x1.toNat) (by omega) (by omega), if_pos k1.1, mk_ld d, wi_id (z := m 1 x2.toNat) (by omega) (by omega), if_neg (by omega)]
      by_cases y1 : (1 ≤ g (2 + x1.toNat) 2 ∧ g (2 + x1.toNat) 2 ≤ 9) ∧ x3 ≤ g (2 + x1.toNat) 2
      · obtain ⟨y1, y2⟩ := y1
        have cl1 : fX4_powers x1 x2 x3 x4 g = if g (2 + x2.toNat) 2 < x3 then (cl (fX4_found 2 g) fun r81 h81 => some (r81, h81)) else (cl (fX4_load x1 22 g) fun r91 h91 => cl (fX3_startsUnlike (2 + x2.toNat) x3 h91) fun r103 h103 => if wi r103 = 0 then (some ((-3), h103)) else (cl (fX4_makePowers r91 (2 + x2.toNat) x3 h103) fun r119 h119 => if wi r119 = 0 then (some ((-3), h119)) else (cl (fX3_become (2 + x4.toNat) 26 x3 h119) fun _ h140 => some (x3, h140)))) := by
          rw [cl0, e, cl_some, if_pos wi_0, lda_t c.1 c.2, pIF_y y1.1 y1.2, cl_some, if_neg (by decide), lda_t c.1 c.2, w3, z1, if_neg (by omega), lda_t d.1 d.2, z2]
          simp only [lda_t d.1 d.2, lda_t c4.1 c4.2]
        have ml1 : fX5_powers x1 x2 x3 x4 m = if g (2 + x2.toNat) 2 < x3 then (cl (fX5_met 2 m) fun r94 h94 => some (r94, h94)) else (cl (fX5_takeF x1 m) fun _ h100 => LX5_powers_106 FU x2 x3 x4 0 h100) := by
          rw [ml0, mIF c k1 ⟨hm.1, hm.2.1⟩, if_pos (by omega), cl_some, if_neg (by decide), ms_ld c, ms_ld d, k3, k4, w3, z1, z2, if_neg (by omega)]
        by_cases y3 : g (2 + x2.toNat) 2 < x3
        · refine ⟨-12, -12, hs g 0 1 2, hs m 0 4 2, ?_, ?_, rfl, JJ_met hJ 2 (by decide) (by decide)⟩
          · rw [cl1, if_pos y3, pFound]; rfl
          · rw [ml1, if_pos y3, mMet]; rfl
        · rw [if_neg y3] at cl1 ml1
          obtain ⟨k, hk⟩ : ∃ k : Nat, x3 = k := ⟨x3.toNat, by omega⟩
          subst hk
          obtain ⟨N, hN⟩ : ∃ N : Nat, g (2 + x1.toNat) 2 - 1 = N := ⟨(g (2 + x1.toNat) 2 - 1).toNat, by omega⟩
          obtain ⟨g1, b1, b2, b3⟩ := pLoad c (a := 22) (by decide) hw
          rw [hN] at b1
          have hc1 : sameC g g1 := sC_o (a := 22) (by decide) b2
          have R22 : R9 g1 22 := fun j hj => by rw [b3 j hj]; exact nb_rs _ _ _
          have hw1 : WS g1 x2.toNat := WS_same s2 hw' hc1
          have nb1 : nb g1 x2.toNat = nb g x2.toNat := nb_same s2 hc1
          obtain ⟨m1, d1, d2, d3, d4, d5⟩ := mTakeF c hm
          have d4' : m1 0 6 = N := by rw [d4, k3, hN]
          have hm1 : sameM m m1 := ⟨d3 4 (by decide), d2 1 (by decide) (by decide), d2 2 (by decide) (by decide), d2 3 (by decide) (by decide)⟩
          have r0 : ∀ s, s < k → m 3 (12 * x2.toNat + s) % 10007 = nb g x2.toNat s := fun s hs' => by
            rw [← k6]
            unfold nm
            rw [if_pos (by omega)]
          obtain ⟨u1, u2⟩ := pSU s2 hw1 (k := k) (by omega) k 0 FU (by omega) (by omega) (fu_lt (by omega))
          obtain ⟨v1, v2⟩ := mPd2 (x4 := x4) d (k := k) (by omega) m (fun i hi => hm'.2.2 i (by omega)) k 0 FU m1 (by omega) (by omega) (fu_lt (by omega)) (d2 3 (by decide) (by decide)) (fun s hs' => by omega)
          rw [show ((0 : Nat) : Int) = 0 from rfl] at u1 u2 v1 v2
          by_cases y4 : ∃ a b, 0 ≤ a ∧ a < k ∧ b < a ∧ nb g x2.toNat a = nb g x2.toNat b
          · obtain ⟨m2, q1, q2⟩ := v2 (by
              obtain ⟨a, b, x, y, w, e⟩ := y4
              exact ⟨a, b, x, y, w, by rw [r0 a y, r0 b (by omega)]; exact e⟩)
            refine ⟨-3, -3, g1, m2, ?_, ?_, rfl, JJ_same hJ hc1 (sM_t hm1 ⟨by rw [q2 0 (by decide)], q2 1 (by decide), q2 2 (by decide), q2 3 (by decide)⟩)⟩
            · rw [cl1, b1, cl_some]
              unfold fX3_startsUnlike
              rw [u2 (by rw [nb1]; exact y4), cl_some, if_pos wi_0]
            · rw [ml1, d1, cl_some, q1]
          · have dqx : dq (nb g x2.toNat) k := fun i j hi hj q => y4 ⟨i, j, by omega, hi, hj, q⟩
            have dsx : ds (nb g x2.toNat) k := dq_ds (fun i => nb_rs _ _ _) dqx
            obtain ⟨m2, q1, q2, q3⟩ := v1 (fun a b _ y w => by rw [r0 a y, r0 b (by omega)]; exact dqx a b y w)
            have hm2 : sameM m m2 := sM_t hm1 ⟨by rw [q2 0 (by decide)], q2 1 (by decide), q2 2 (by decide), q2 3 (by decide)⟩
            have F5 : ∀ j, j < 9 → m2 5 j = g1 22 j := fun j hj => by rw [q2 5 (by decide), d5 j hj, b3 j hj, k5]
            have dce : ∀ i, i < N + 1 → dc (m2 5) N i = dc (g1 22) N i := fun i hi => by unfold dc; rw [F5 i (by omega)]
            obtain ⟨m3, p1, p2, p3, p4, p5, p6⟩ := mPW (x4 := x4) (k := k) (N := N) (by omega) (by omega) (by omega) (m := m2) (by rw [q2 0 (by decide)]; exact d4') (nb g x2.toNat) (m2 5) (fun l => nb_rs _ _ _) (fun l hl => by rw [q3 l hl, r0 l hl]) rfl (fun j hj => by rw [F5 j hj]; exact R22 j hj) dsx
            have hm3 : sameM m m3 := sM_t hm2 ⟨p2 4 (by decide), p1 1 (by decide) (by decide) (by decide), p1 2 (by decide) (by decide) (by decide), p1 3 (by decide) (by decide) (by decide)⟩
            have clA : fX4_powers x1 x2 (k : Int) x4 g = (cl (fX4_makePowers N (2 + x2.toNat) k g1) fun r119 h119 => if wi r119 = 0 then (some ((-3), h119)) else (cl (fX3_become (2 + x4.toNat) 26 k h119) fun _ h140 => some ((k : Int), h140))) := by
              rw [cl1, b1, cl_some]
              unfold fX3_startsUnlike
              rw [u1 (fun a b _ y w => by rw [nb1]; exact dqx a b y w), cl_some, if_neg (by decide)]
            have mlA : fX5_powers x1 x2 (k : Int) x4 m = LX5_powers_180 FU k x4 0 m2 := by
              rw [ml1, d1, cl_some, q1]
            rcases pMP s2 (k := k) (N := N) (by omega) (by omega) (by omega) hw1 R22 (by rw [nb1]; exact dsx) with ⟨g2, t1, t2, t3, t4⟩ | ⟨g2, t1, t2, t3⟩
            · rw [nb1] at t4
              have eqs : ∀ j, j < k → g2 26 j = m3 11 j := fun j hj => ep_i (t3 j hj) (p3 j hj) (So_u dsx (fun i hi => t4 i (by omega)) (fun i hi => by
                have := p4 i hi
                rwa [dce i (by omega)] at this) j hj)
              have all : ∀ i, i < N + 1 → ep (sm (fun l => m3 11 l * nb g x2.toNat l ^ i) k) (dc (m2 5) N i) := fun i hi => by
                rw [dce i hi, sm_cg (g := fun l => g2 26 l * nb g x2.toNat l ^ i) (fun l hl => by rw [eqs l hl])]
                exact t4 i hi
              obtain ⟨m4, n1, n2, n3, n4, n5⟩ := mNou (n := (k : Int) - 1) m3
              obtain ⟨m5, l1, l2, l3, l4⟩ := mHj (x4 := x4) (k := k) (by omega) k 0 FU m4 (by omega) (by omega) (fu_lt (by omega))
              have hm5 : sameM m m5 := sM_t hm3 ⟨by rw [l2 0 (by decide), n3 4 (by decide)], (l2 1 (by decide)).trans (n2 1 (by decide) (by decide)), (l2 2 (by decide)).trans (n2 2 (by decide) (by decide)), (l2 3 (by decide)).trans (n2 3 (by decide) (by decide))⟩
              obtain ⟨g6, m6, h1, h2, hJ6⟩ := keep_row hJ (sC_t hc1 t2) hm5 c4 (k := k) c3 (by rw [l2 0 (by decide), n4]) (fun i hi => ⟨t3 i (by omega), by rw [l4 i (by omega) (by omega), n2 11 (by decide) (by decide), eqs i (by omega)]⟩)
              refine ⟨k, k, g6, m6, ?_, ?_, rfl, hJ6⟩
              · rw [clA, t1, cl_some, if_neg (by decide), h1, cl_some]
              · rw [show ((0 : Nat) : Int) = 0 from rfl] at l1
                rw [mlA, p5 all, n1, cl_some, l1, h2, cl_some]
            · rw [nb1] at t3
              refine ⟨-3, -3, g2, m3, ?_, ?_, rfl, JJ_same hJ (sC_t hc1 t2) hm3⟩
              · rw [clA, t1, cl_some, if_pos wi_0]
              · rw [mlA]
                exact p6 (fun h => t3 (m3 11) (fun i hi => by
                  have := h i hi
                  rwa [dce i hi] at this))
      · refine ⟨-3, -3, g, m, ?_, ?_, rfl, hJ⟩
        · rw [cl0, e, cl_some, if_pos wi_0, lda_t c.1 c.2]
          by_cases y2 : 1 ≤ g (2 + x1.toNat) 2 ∧ g (2 + x1.toNat) 2 ≤ 9
          · rw [pIF_y y2.1 y2.2, cl_some, if_neg (by decide), lda_t c.1 c.2, w3, z1, if_pos (by omega)]
          · rw [pIF_n (by omega) y2, cl_some, if_pos wi_0]
        · rw [ml0, mIF c k1 ⟨hm.1, hm.2.1⟩]
          by_cases y2 : 1 ≤ m 2 x1.toNat ∧ m 2 x1.toNat ≤ 9
          · rw [if_pos y2, cl_some, if_neg (by decide), ms_ld c, w3, wi_id (z := m 2 x1.toNat) (by omega) (by omega), if_pos (by omega)]
          · rw [if_neg y2, cl_some, if_pos wi_0]
  · refine ⟨-2, -2, g, m, ?_, mPo_bad w1 w2 w3 w4' (by omega) m, rfl, hJ⟩
    unfold fX4_powers
    by_cases z5 : 0 ≤ x4 ∧ x4 < 10
    · rw [pNS_ok z5.1 z5.2, cl_some, if_pos wi_0, w3, wi_1, k9]
      by_cases z : 1 ≤ x3
      · rw [if_pos z, if_pos (by omega)]
      · rw [if_neg z]
    · rw [pNS_bad w4' z5, cl_some, if_neg (by decide)]
