/-! What two forms have together: the class's loop. -/
theorem fm_0 {F : Nat → Int} (h : fm F (-1)) : F = fun _ => 0 := by
  funext k
  exact h.2 k (by omega)
theorem fm_dv {F : Nat → Int} (h : fm F (-1)) (q : Nat → Int) (e m : Int) : dv q e F m := by
  rw [fm_0 h]; exact dv_0 q e m
theorem pMC {s : Int} {F1 G1 : Nat → Int} {m1 n1 : Int} (hm1 : m1 ≤ 8) (hn1 : n1 ≤ 8) : ∀ (d w : Nat) (m n : Int) (F G : Nat → Int) (x : Int) (g : HP), m + n + 2 = d → d < w → -1 ≤ m → -1 ≤ n → m ≤ m1 → n ≤ n1 → 0 ≤ x → x ≤ 16 - (m + n) → fm F m → fm G n → (0 ≤ m → F 0 ≠ 0) → (0 ≤ n → G 0 ≠ 0) → (0 ≤ m ∨ 0 ≤ n) →
    (∀ (h : Nat → Int) (e : Int), dv h e F m → dv h e G n → dv h e F1 m1 ∧ dv h e G1 n1) → (∀ (h : Nat → Int) (e : Int), nz (h 0) → dv h e F1 m1 → dv h e G1 n1 → dv h e F m ∧ dv h e G n) → ho g 22 F → ho g 23 G →
    ∃ (y v : Int) (b : Nat) (g' : HP) (A : Nat → Int) (e : Nat), LX4_makeCommon_34 w m n s x g = jX4_makeCommon_111 y v s b g' ∧ fJ9_max_7cf53 y v g' = some ((e : Int), g') ∧ (b = 22 ∨ b = 23) ∧ fm A e ∧ A 0 ≠ 0 ∧ ((e : Int) ≤ m1 ∨ (e : Int) ≤ n1) ∧ (∀ (h : Nat → Int) (k : Int), dv h k A e → dv h k F1 m1 ∧ dv h k G1 n1) ∧ (∀ (h : Nat → Int) (k : Int), nz (h 0) → dv h k F1 m1 → dv h k G1 n1 → dv h k A e) ∧ ho g' b A ∧ ∀ k, k ≠ 22 → k ≠ 23 → g' k = g k := by
  intro d
  induction d using Nat.strongRecOn with
  | _ d ih =>
    intro w m n F G x g q1 q2 q3 q4 q5 q6 q7 q8 hF hG f0 g0 hor bk fo h22 h23
    obtain ⟨w, rfl⟩ : ∃ k, w = k + 1 := ⟨w - 1, by omega⟩
    have wx : wi x = x := wi_id (by omega) (by omega)
    have wm : wi m = m := wi_id (by omega) (by omega)
    have wn : wi n = n := wi_id (by omega) (by omega)
    have st : LX4_makeCommon_34 (w + 1) m n s x g = if 0 ≤ m then (if 0 ≤ n then (if n ≤ m then (cl (fX2_lower 22 m 23 n g) fun r67 h67 => LX4_makeCommon_34 w r67 n s (x + 1) h67) else (cl (fX2_lower 23 n 22 m g) fun r85 h85 => LX4_makeCommon_34 w m r85 s (x + 1) h85)) else jX4_makeCommon_111 m n s 22 g) else jX4_makeCommon_111 m n s 23 g := by
      show bX4_makeCommon_34 (LX4_makeCommon_34 w) m n s x g = _
      unfold bX4_makeCommon_34
      rw [wx, wm, wn, wi_id (z := 18) (by decide) (by decide), if_pos (by omega)]
      by_cases c : 0 ≤ m
      · by_cases c' : 0 ≤ n
        · simp only [if_pos c, if_pos c']
        · simp only [if_pos c, if_neg c']
      · simp only [if_neg c]
    rw [st]
    by_cases c : 0 ≤ m
    · rw [if_pos c]
      by_cases c' : 0 ≤ n
      · rw [if_pos c']
        by_cases c3 : n ≤ m
        · rw [if_pos c3]
          obtain ⟨k, z, g', E, e1, e2, e3, e4, e5, e6, e7, e8⟩ := pLo (a := 22) (b := 23) (by decide) (by decide) (by decide) c' c3 (by omega) hF hG (g0 c') h22 h23
          rw [e1, cl_some]
          obtain ⟨y, v, b, g'', A, e, t1, t2, t3, t4, t5, t6, t7, t8, t9, t10⟩ := ih (m - z + n + 2).toNat (by omega) w (m - z) n E G (x + 1) g' (by omega) (by omega) (by omega) q4 (by omega) q6 (by omega) (by omega) e4 hG (fun q => e5 (by omega)) g0 (Or.inr c')
            (fun h e d1 d2 => bk h e ((st_eq c3 e6 d2).1 d1) d2)
            (fun h e hz d1 d2 => by
              obtain ⟨u1, u2⟩ := fo h e hz d1 d2
              exact ⟨(st_eq c3 e6 u2).2 hz u1, u2⟩)
            e8 (fun j hj => by rw [e7 23 (by decide)]; exact h23 j hj)
          exact ⟨y, v, b, g'', A, e, t1, t2, t3, t4, t5, t6, t7, t8, t9, fun j a b => by rw [t10 j a b, e7 j a]⟩
        · rw [if_neg c3]
          obtain ⟨k, z, g', E, e1, e2, e3, e4, e5, e6, e7, e8⟩ := pLo (a := 23) (b := 22) (by decide) (by decide) (by decide) c (show m ≤ n by omega) (by omega) hG hF (f0 c) h23 h22
          rw [e1, cl_some]
          obtain ⟨y, v, b, g'', A, e, t1, t2, t3, t4, t5, t6, t7, t8, t9, t10⟩ := ih (m + (n - z) + 2).toNat (by omega) w m (n - z) F E (x + 1) g' (by omega) (by omega) q3 (by omega) q5 (by omega) (by omega) (by omega) hF e4 f0 (fun q => e5 (by omega)) (Or.inl c)
            (fun h e d1 d2 => bk h e d1 ((st_eq (show m ≤ n by omega) e6 d1).1 d2))
            (fun h e hz d1 d2 => by
              obtain ⟨u1, u2⟩ := fo h e hz d1 d2
              exact ⟨u1, (st_eq (show m ≤ n by omega) e6 u1).2 hz u2⟩)
            (fun j hj => by rw [e7 22 (by decide)]; exact h22 j hj) e8
          exact ⟨y, v, b, g'', A, e, t1, t2, t3, t4, t5, t6, t7, t8, t9, fun j a b => by rw [t10 j a b, e7 j b]⟩
      · rw [if_neg c']
        obtain ⟨e, he⟩ : ∃ e : Nat, m = e := ⟨m.toNat, by omega⟩
        have hn : n = -1 := by omega
        rw [he] at bk fo hF q5 f0
        rw [hn] at bk fo hG
        refine ⟨m, n, 22, g, F, e, rfl, ?_, Or.inl rfl, hF, f0 (by omega), Or.inl q5, fun h k d1 => bk h k d1 (fm_dv hG h k _), fun h k hz d1 d2 => (fo h k hz d1 d2).1, h22, fun _ _ _ => rfl⟩
        unfold fJ9_max_7cf53
        rw [wm, wn, if_pos (by omega), he]
    · rw [if_neg c]
      obtain ⟨e, he⟩ : ∃ e : Nat, n = e := ⟨n.toNat, by omega⟩
      have hn : m = -1 := by omega
      rw [he] at bk fo hG q6 g0
      rw [hn] at bk fo hF
      refine ⟨m, n, 23, g, G, e, rfl, ?_, Or.inr rfl, hG, g0 (by omega), Or.inr q6, fun h k d1 => bk h k (fm_dv hF h k _) d1, fun h k hz d1 d2 => (fo h k hz d1 d2).2, h23, fun _ _ _ => rfl⟩
      unfold fJ9_max_7cf53
      rw [wm, wn, if_neg (by omega), he]
theorem pCo {b : Nat} (hb : b = 22 ∨ b = 23) {s e : Nat} (h8 : s + e ≤ 8) {B : Nat → Int} (hB : ∀ k : Nat, e < k → B k = 0) : ∀ (d i n : Nat) (g : HP), e + 1 - i = d → i ≤ e + 1 → d < n → ho g b B → (∀ k, k < s + i → g 26 k = sh s B k) → (∀ k, s + i ≤ k → k < 9 → g 26 k = 0) → ∃ g', LX4_makeCommon_143 n s b e i g = some ((s : Int) + e, g') ∧ (∀ k, k ≠ 26 → g' k = g k) ∧ ∀ k, k < 9 → g' 26 k = sh s B k := by
  have hb' : 22 ≤ b ∧ b < 27 := by omega
  intro d
  induction d with
  | zero =>
    intro i n g q1 q2 q3 h1 h2 h3
    obtain ⟨n, rfl⟩ : ∃ k, n = k + 1 := ⟨n - 1, by omega⟩
    refine ⟨g, ?_, fun _ _ => rfl, fun k hk => ?_⟩
    · show bX4_makeCommon_143 (LX4_makeCommon_143 n) s b e i g = _
      unfold bX4_makeCommon_143
      rw [wi_id (z := (i : Int)) (by omega) (by omega), wi_id (z := (e : Int)) (by omega) (by omega), if_neg (by omega)]
    · by_cases c : k < s + i
      · exact h2 k c
      · rw [h3 k (by omega) hk, sh_hi (by omega), hB _ (by omega)]
  | succ d ih =>
    intro i n g q1 q2 q3 h1 h2 h3
    obtain ⟨n, rfl⟩ : ∃ k, n = k + 1 := ⟨n - 1, by omega⟩
    obtain ⟨g', e1, e2, e3⟩ := ih (i + 1) n (hs g 26 (s + i) (B i)) (by omega) (by omega) (by omega) (fun k hk => by rw [hs_k (by omega)]; exact h1 k hk) (fun k hk => by
      by_cases c : k = s + i
      · rw [c, hs_s, sh_hi (by omega), show s + i - s = i by omega]
      · rw [hs_j c]; exact h2 k (by omega)) (fun k hk hk' => by rw [hs_j (by omega)]; exact h3 k (by omega) hk')
    refine ⟨g', ?_, fun k hk => by rw [e2 k hk, hs_ne hk], e3⟩
    show bX4_makeCommon_143 (LX4_makeCommon_143 n) s b e i g = _
    unfold bX4_makeCommon_143
    rw [wi_id (z := (i : Int)) (by omega) (by omega), wi_id (z := (e : Int)) (by omega) (by omega), if_pos (by omega), wi_id (z := (s : Int) + i) (by omega) (by omega), wi_id (z := 9) (by decide) (by decide), if_pos (by omega), w_ld hb' (by omega), w_st (by decide) (by omega), Int.toNat_natCast, h1 i (by omega), show ((s : Int) + i).toNat = s + i by omega]
    exact e1
theorem pMake {M N : Nat} (hM : M ≤ 8) (hN : N ≤ 8) {F G : Nat → Int} (hF : fm F M) (hG : fm G N) (nF : ∃ j, F j ≠ 0) (nG : ∃ j, G j ≠ 0) {g : HP} (h22 : ho g 22 F) (h23 : ho g 23 G) : ∃ (d : Nat) (D : Nat → Int) (g' : HP), fX4_makeCommon M N g = some ((d : Int), g') ∧ d ≤ 8 ∧ fm D d ∧ ho g' 26 D ∧ (∃ p, ep (D p) 1 ∧ ∀ k, k < p → ep (D k) 0) ∧ gc F M G N D d ∧ ∀ k, k ≠ 22 → k ≠ 23 → k ≠ 26 → g' k = g k := by
  obtain ⟨z1, g1, F1, a1, a2, a3, a4, a5, a6, a7⟩ := pSt (a := 22) (by decide) (D := (M : Int)) (by omega) hF h22
  obtain ⟨z2, g2, G1, b1, b2, b3, b4, b5, b6, b7⟩ := pSt (a := 23) (by decide) (D := (N : Int)) (by omega) hG (g := g1) (fun k hk => by rw [a6 23 (by decide)]; exact h23 k hk)
  have y1 : (z1 : Int) ≤ M := by
    by_cases c : (z1 : Int) ≤ M
    · exact c
    · obtain ⟨j, hj⟩ := nF
      exfalso
      refine hj ((a3 j).trans ?_)
      unfold sh
      by_cases y : j < z1
      · rw [if_pos y]
      · rw [if_neg y, a5.2 _ (by omega)]
  have y2 : (z2 : Int) ≤ N := by
    by_cases c : (z2 : Int) ≤ N
    · exact c
    · obtain ⟨j, hj⟩ := nG
      exfalso
      refine hj ((b3 j).trans ?_)
      unfold sh
      by_cases y : j < z2
      · rw [if_pos y]
      · rw [if_neg y, b5.2 _ (by omega)]
  obtain ⟨s, hs1, hs2⟩ : ∃ s : Nat, ((s = z1 ∧ z1 ≤ z2) ∨ (s = z2 ∧ z2 ≤ z1)) ∧ fJ9_min_7cf53 ((M : Int) - (M - z1)) ((N : Int) - (N - z2)) g2 = some ((s : Int), g2) := by
    unfold fJ9_min_7cf53
    rw [wi_id (z := (M : Int) - (M - z1)) (by omega) (by omega), wi_id (z := (N : Int) - (N - z2)) (by omega) (by omega)]
    by_cases c : z1 ≤ z2
    · refine ⟨z1, Or.inl ⟨rfl, c⟩, ?_⟩
      rw [if_pos (by omega), show (M : Int) - (M - z1) = z1 by omega]
    · refine ⟨z2, Or.inr ⟨rfl, by omega⟩, ?_⟩
      rw [if_neg (by omega), show (N : Int) - (N - z2) = z2 by omega]
  obtain ⟨y, v, b, g3, A, e, t1, t2, t3, t4, t5, t6, t7, t8, t9, t10⟩ := pMC (s := (s : Int)) (F1 := F1) (G1 := G1) (m1 := (M : Int) - z1) (n1 := (N : Int) - z2) (by omega) (by omega) ((M : Int) - z1 + (N - z2) + 2).toNat FU (M - z1) (N - z2) F1 G1 0 g2 (by omega) (fu_lt (by omega)) (by omega) (by omega) (by omega) (by omega) (by omega) (by omega) a5 b5 (fun q => a4 (by omega)) (fun q => b4 (by omega)) (Or.inl (by omega)) (fun h k d1 d2 => ⟨d1, d2⟩) (fun h k _ d1 d2 => ⟨d1, d2⟩) (fun k hk => by rw [b6 22 (by decide)]; exact a7 k hk) b7
  have hb' : 22 ≤ b ∧ b < 27 := by omega
  have se : s + e ≤ 8 := by omega
  have r3 : R9 g3 b := fun j hj => by rw [t9 j hj]; exact t4.1 j
  obtain ⟨g4, u1, u2, u3⟩ := pMul hb' (pw_rs (A 0)) r3
  obtain ⟨g5, v1, v2, v3⟩ := pClear (a := 26) (LN := 9) (lnW (by decide)) (by decide) g4
  have hB : ∀ k : Nat, e < k → (fun k => A k * pw (A 0) % 10007) k = 0 := fun k hk => by
    show A k * pw (A 0) % 10007 = 0
    rw [t4.2 k (by omega), Int.zero_mul]; rfl
  obtain ⟨g6, w1, w2, w3⟩ := pCo t3 se hB (e + 1) 0 FU g5 (by omega) (by omega) (fu_lt (by omega)) (fun k hk => by rw [v2 b (by omega), u3 k hk, t9 k hk]) (fun k hk => by rw [v3 k (by omega), sh_lo (by omega)]) (fun k _ hk => v3 k hk)
  have hfm : fm (sh s (fun k => A k * pw (A 0) % 10007)) ((s + e : Nat) : Int) := by
    refine ⟨fun k => ?_, fun k hk => ?_⟩
    · unfold sh
      split
      · exact ⟨by decide, by decide⟩
      · exact rs_mod _
    · rw [sh_hi (by omega)]; exact hB _ (by omega)
  refine ⟨s + e, sh s (fun k => A k * pw (A 0) % 10007), g6, ?_, se, hfm, w3, ⟨s, ?_, fun k hk => by rw [sh_lo hk]; exact ep_r 0⟩, ?_, fun k k1 k2 k3 => ?_⟩
  · rw [show ((0 : Nat) : Int) = 0 from rfl] at w1
    unfold fX4_makeCommon
    rw [a1, cl_some, b1, cl_some, hs2, cl_some, t1]
    unfold jX4_makeCommon_111
    rw [t2, cl_some, w_ld hb' (by omega), show (0 : Int).toNat = 0 from rfl, t9 0 (by omega), pInv (t4.1 0), cl_some, u1, cl_some, v1, cl_some, w1, show (s : Int) + e = ((s + e : Nat) : Int) by omega]
  · rw [sh_hi (by omega), Nat.sub_self]
    exact ep_t (ep_m _) (fer (t4.1 0) t5)
  · refine gc_cl a3 b3 ((nz_rs (a5.1 0)).mpr (a4 y1)) ((nz_rs (b5.1 0)).mpr (b4 y2)) rfl rfl hs1 (fun h k d1 => t7 h k ?_) (fun h k hz d1 d2 => ?_)
    · refine dv_cg (fun j => ?_) (dv_sc (A 0) d1)
      refine ep_t (ep_u (ep_r (A 0)) (ep_m _)) ?_
      have := ep_u (ep_r (A j)) (fer (t4.1 0) t5)
      rw [Int.mul_one] at this
      rw [Int.mul_left_comm]
      exact this
    · refine dv_cg (fun j => ?_) (dv_sc (pw (A 0)) (t8 h k hz d1 d2))
      rw [Int.mul_comm]
      exact ep_s (ep_m _)
  · rw [w2 k k3, v2 k k3, u2 k (by omega), t10 k k1 k2, b6 k k2, a6 k k1]
