/-! Both sides clear alike: determinants and ranks. -/
theorem el_sim {R C : Nat} (hR : R ≤ 16) (hC : C ≤ 16) : ∀ (d c ρ n n' : Nat) (g m : HP), C - c = d → c ≤ C → d < n → d < n' → ρ ≤ R → ρ ≤ c → RB (cm g) R C → RB (mm m) R C → rs (g 27 1) → rs (m 0 13) → (∀ r k, ρ ≤ r → r < R → c ≤ k → k < C → cm g r k = mm m r k) → ((ρ = c ∧ g 27 1 = m 0 13) ∨ (ρ < c ∧ m 0 13 = 0)) → ∃ (ρ' : Nat) (g' m' : HP), LX0_reduce_11 n R C C ρ c g = some ((ρ' : Int), g') ∧ LX5_eliminate_10 n' R C ρ c m = some ((ρ' : Int), m') ∧ (∀ a, a ≠ 27 → a ≠ 28 → g' a = g a) ∧ (∀ a, a ≠ 0 → a ≠ 9 → m' a = m a) ∧ (∀ j, j ≠ 13 → m' 0 j = m 0 j) ∧ rs (g' 27 1) ∧ ρ' ≤ R ∧ ((ρ' = C ∧ g' 27 1 = m' 0 13) ∨ (ρ' < C ∧ m' 0 13 = 0)) := by
  intro d
  induction d with
  | zero =>
    intro c ρ n n' g m q1 q2 q3 q4 hρ hρc hb hb' hp hp' hag hd
    obtain ⟨n, rfl⟩ : ∃ k, n = k + 1 := ⟨n - 1, by omega⟩
    obtain ⟨n', rfl⟩ : ∃ k, n' = k + 1 := ⟨n' - 1, by omega⟩
    have e : c = C := by omega
    subst e
    exact ⟨ρ, g, m, pSt_e hR hC (by omega) hρ (Or.inr rfl) g n, mSt_e m n', fun _ _ _ => rfl, fun _ _ _ => rfl, fun _ _ => rfl, hp, hρ, hd⟩
  | succ d ih =>
    intro c ρ n n' g m q1 q2 q3 q4 hρ hρc hb hb' hp hp' hag hd
    obtain ⟨n, rfl⟩ : ∃ k, n = k + 1 := ⟨n - 1, by omega⟩
    obtain ⟨n', rfl⟩ : ∃ k, n' = k + 1 := ⟨n' - 1, by omega⟩
    by_cases z : ∃ j, j ≤ R ∧ (if ρ + j < R then cm g (ρ + j) c else 0) ≠ 0
    · obtain ⟨p, h1, h2, h3⟩ := fnz (F := fun j => if ρ + j < R then cm g (ρ + j) c else 0) z
      have h4 : ρ + p < R := by
        by_cases y : ρ + p < R
        · exact y
        · rw [if_neg y] at h2; exact absurd rfl h2
      rw [if_pos h4] at h2
      have h5 : ∀ j, ρ ≤ j → j < ρ + p → cm g j c = 0 := fun j a b => by
        have := h3 (j - ρ) (by omega)
        rw [if_pos (by omega), show ρ + (j - ρ) = j by omega] at this
        exact this
      obtain ⟨g', a1, a2, a3, a4, a5, a6, a7⟩ := pSt_y hR hC (Cl := C) (Nat.le_refl _) (c := c) (by omega) (q := ρ + p) (by omega) h4 hb h2 h5 hp n
      have eq' : ∀ r k, ρ ≤ r → r < R → c ≤ k → k < C → mm m r k = cm g r k := fun r k x y w v => (hag r k x y w v).symm
      obtain ⟨m', b1, b2, b3, b4, b5, b6, b7, b8, b9, b10⟩ := mSt_y (R := R) (C := C) (ρ := ρ) (c := c) (q := ρ + p) (by omega) (by omega) (by omega) (by omega) h4 hb' (by rw [eq' (ρ + p) c (by omega) h4 (by omega) (by omega)]; exact h2) (fun j x y => by rw [eq' j c x (by omega) (by omega) (by omega)]; exact h5 j x y) hp' n'
      have eqc := eq' (ρ + p) c (by omega) h4 (by omega) (by omega)
      have hρ' : ρ < R := by omega
      obtain ⟨ρ', g2, m2, e1, e2, e3, e4, e5, e6, e7, e8⟩ := ih (c + 1) (ρ + 1) n n' g' m' (by omega) (by omega) (by omega) (by omega) (by omega) (by omega) a3 b4 a4 b5 (fun r k x y w v => by
        refine ep_i (a3 r k y v) (b4 r k y v) (ep_t (a7 r k y (by omega) v) (ep_s (ep_t (b10 r k (by omega) y (by omega) v) ?_)))
        have s1 : ρ ≤ sx ρ (ρ + p) r := by
          unfold sx
          split
          · omega
          · split <;> omega
        have s2 : sx ρ (ρ + p) r < R := sx_lt hρ' h4 y
        rw [eq' _ k s1 s2 (by omega) v, eq' _ c s1 s2 (by omega) (by omega), eqc, eq' (ρ + p) k (by omega) h4 (by omega) v, a6 k v]
        refine ep_b (ep_r _) ?_
        rw [Int.mul_assoc, Int.mul_comm (pw (cm g (ρ + p) c))]
        exact ep_u (ep_r _) (ep_s (ep_m _))) (by
        rcases hd with ⟨d1, d2⟩ | ⟨d1, d2⟩
        · refine Or.inl ⟨by omega, ep_i a4 b5 (ep_t a5 (ep_s (ep_t b6 ?_)))⟩
          rw [eqc, d2]
          exact ep_r _
        · refine Or.inr ⟨by omega, (ep_0 b5).mp (ep_t b6 ?_)⟩
          rw [d2]
          by_cases y : ρ + p = ρ
          · rw [if_pos y, Int.zero_mul]; exact ep_r _
          · rw [if_neg y, Int.neg_zero, Int.zero_mul]; exact ep_r _)
      exact ⟨ρ', g2, m2, by rw [a1]; exact e1, by rw [b1]; exact e2, fun a x y => (e3 a x y).trans (a2 a x y), fun a x y => (e4 a x y).trans (b2 a x y), fun j x => (e5 j x).trans (b3 j x), e6, e7, e8⟩
    · have hz : ∀ j, ρ ≤ j → j < R → cm g j c = 0 := fun j x y => by
        by_cases w : cm g j c = 0
        · exact w
        · refine absurd ⟨j - ρ, by omega, ?_⟩ z
          rw [if_pos (by omega), show ρ + (j - ρ) = j by omega]
          exact w
      have st : LX0_reduce_11 (n + 1) R C C ρ c g = LX0_reduce_11 n R C C ρ (c + 1 : Nat) g := by
        by_cases y : ρ = R
        · obtain ⟨k, rfl⟩ : ∃ k, n = k + 1 := ⟨n - 1, by omega⟩
          rw [pSt_e hR hC (by omega) hρ (Or.inl y) g, pSt_e hR hC (by omega) hρ (Or.inl y) g]
        · exact pSt_n hR hC (Nat.le_refl _) (by omega) (by omega) hb hz n
      have mm2 : ∀ (r k : Nat), mm (hs m 0 13 0) r k = mm m r k := fun r k => hs_k (by decide)
      obtain ⟨ρ', g2, m2, e1, e2, e3, e4, e5, e6, e7, e8⟩ := ih (c + 1) ρ n n' g (hs m 0 13 0) (by omega) (by omega) (by omega) (by omega) hρ (by omega) hb (fun r k x y => by rw [mm2]; exact hb' r k x y) hp (by rw [hs_s]; exact ⟨by decide, by decide⟩) (fun r k x y w v => by rw [mm2]; exact hag r k x y (by omega) v) (Or.inr ⟨by omega, hs_s _ _ _ _⟩)
      refine ⟨ρ', g2, m2, by rw [st]; exact e1, ?_, e3, fun a x y => by rw [e4 a x y, hs_ne x], fun j x => by rw [e5 j x, hs_j x], e6, e7, e8⟩
      rw [mSt_n (by omega) (by omega) hρ (by omega) hb' (fun j x y => by rw [← hag j c x y (by omega) (by omega)]; exact hz j x y) n']
      exact e2
theorem el_all {R C : Nat} (hR : R ≤ 16) (hC : C ≤ 16) {g m : HP} (hb : RB (cm g) R C) (hag : ∀ r k, r < R → k < C → cm g r k = mm m r k) : ∃ (ρ' : Nat) (g' m' : HP), fX0_reduce R C C g = some ((ρ' : Int), g') ∧ fX5_eliminate R C m = some ((ρ' : Int), m') ∧ (∀ a, a ≠ 27 → a ≠ 28 → g' a = g a) ∧ (∀ a, a ≠ 0 → a ≠ 9 → m' a = m a) ∧ (∀ j, j ≠ 13 → m' 0 j = m 0 j) ∧ rs (g' 27 1) ∧ ρ' ≤ R ∧ ((ρ' = C ∧ g' 27 1 = m' 0 13) ∨ (ρ' < C ∧ m' 0 13 = 0)) := by
  have c1 : ∀ r k, cm (hs g 27 1 1) r k = cm g r k := fun r k => hs_k (by decide)
  have m1 : ∀ r k, mm (hs m 0 13 1) r k = mm m r k := fun r k => hs_k (by decide)
  obtain ⟨ρ', g', m', e1, e2, e3, e4, e5, e6, e7, e8⟩ := el_sim hR hC C 0 0 FU FU (hs g 27 1 1) (hs m 0 13 1) (by omega) (by omega) (fu_lt (by omega)) (fu_lt (by omega)) (by omega) (by omega) (fun r k x y => by rw [c1]; exact hb r k x y) (fun r k x y => by rw [m1, ← hag r k x y]; exact hb r k x y) (by rw [hs_s]; exact ⟨by decide, by decide⟩) (by rw [hs_s]; exact ⟨by decide, by decide⟩) (fun r k _ x _ y => by rw [c1, m1]; exact hag r k x y) (Or.inl ⟨rfl, by rw [hs_s, hs_s]⟩)
  refine ⟨ρ', g', m', ?_, ?_, fun a x y => by rw [e3 a x y, hs_ne x], fun a x y => by rw [e4 a x y, hs_ne x], fun j x => by rw [e5 j x, hs_j x], e6, e7, e8⟩
  · unfold fX0_reduce
    rw [pf_d]
    exact e1
  · unfold fX5_eliminate
    rw [pf_d]
    exact e2
theorem pClr (g : HP) : ∃ g', fX0_clear g = some (0, g') ∧ (∀ k, k ≠ 28 → g' k = g k) ∧ ∀ r k, r < 16 → k < 16 → cm g' r k = 0 := by
  obtain ⟨g', e1, e2, e3⟩ := pClear (a := 28) (LN := 256) lnC28 (by decide) g
  refine ⟨g', ?_, e2, fun r k hr hk => e3 _ (by omega)⟩
  unfold fX0_clear
  rw [e1, cl_some]
-- ranks
def dc (F : Nat → Int) (N : Int) (i : Nat) : Int := F i * pw (chf N i) % 10007
theorem pDC {a : Nat} (ha : 22 ≤ a ∧ a < 27) {N : Int} (hN : 0 ≤ N ∧ N ≤ 8) : ∀ (d i n : Nat) (g : HP), N + 1 - i = d → d < n → R9 g a → ∃ g', LX2_divideByChoices_2 n a N i g = some (0, g') ∧ (∀ k, k ≠ a → g' k = g k) ∧ (∀ j, j < i → g' a j = g a j) ∧ ∀ j : Nat, i ≤ j → (j : Int) ≤ N → g' a j = dc (g a) N j := by
  intro d
  induction d with
  | zero =>
    intro i n g q1 q3 hr
    obtain ⟨n, rfl⟩ : ∃ k, n = k + 1 := ⟨n - 1, by omega⟩
    refine ⟨g, ?_, fun _ _ => rfl, fun _ _ => rfl, fun j p1 p2 => by omega⟩
    show bX2_divideByChoices_2 (LX2_divideByChoices_2 n) a N i g = _
    unfold bX2_divideByChoices_2
    rw [wi_id (z := (i : Int)) (by omega) (by omega), wi_id (z := N) (by omega) (by omega), if_neg (by omega)]
  | succ d ih =>
    intro i n g q1 q3 hr
    obtain ⟨n, rfl⟩ : ∃ k, n = k + 1 := ⟨n - 1, by omega⟩
    have b1 := rs_mul (hr i (by omega)) (pw_rs (chf N i))
    obtain ⟨g', e1, e2, e3, e4⟩ := ih (i + 1) n (hs g a i (dc (g a) N i)) (by omega) (by omega) (R9_hs hr (rs_mod _) a rfl)
    refine ⟨g', ?_, fun k hk => (e2 k hk).trans (hs_ne hk), fun j hj => (e3 j (by omega)).trans (hs_j (by omega)), fun j p1 p2 => ?_⟩
    · show bX2_divideByChoices_2 (LX2_divideByChoices_2 n) a N i g = _
      unfold bX2_divideByChoices_2
      rw [wi_id (z := (i : Int)) (by omega) (by omega), wi_id (z := N) (by omega) (by omega), if_pos (by omega), w_ld ha (by omega), pCh hN (by omega), cl_some, pInv (chf_rs hN (by omega)), cl_some, Int.toNat_natCast, w_st ha (by omega), Int.toNat_natCast, rm_e b1.1 (by omega)]
      exact e1
    · by_cases z : j = i
      · rw [e3 j (by omega), z, hs_s]
      · rw [e4 j (by omega) p2]
        unfold dc
        rw [hs_j z]
theorem pSq1 {N k : Nat} (hk : k ≤ N) (hN : N ≤ 8) {i : Nat} (hi : i ≤ k) (F : Nat → Int) (K : Nat → Int → Int → Int → HP → Option (Int × HP)) : ∀ (d j n : Nat) (g : HP), N - k + 1 - j = d → j ≤ N - k + 1 → d < n → g 22 = F → ∃ g', LX0_laySquare_12 K n 22 N k i j g = K 22 N k (i + 1) g' ∧ (∀ a, a ≠ 28 → g' a = g a) ∧ (∀ s t, t < 16 → ¬ (s = i ∧ j ≤ t ∧ t ≤ N - k) → cm g' s t = cm g s t) ∧ ∀ t, j ≤ t → t ≤ N - k → cm g' i t = F (i + t) := by
  intro d
  induction d with
  | zero =>
    intro j n g q1 q2 q3 h
    obtain ⟨n, rfl⟩ : ∃ k, n = k + 1 := ⟨n - 1, by omega⟩
    refine ⟨g, ?_, fun _ _ => rfl, fun _ _ _ _ => rfl, fun t a b => by omega⟩
    show bX0_laySquare_12 K (LX0_laySquare_12 K n) 22 N k i j g = _
    unfold bX0_laySquare_12
    rw [wi_id (z := (j : Int)) (by omega) (by omega), wi_id (z := (N : Int) - k) (by omega) (by omega), if_neg (by omega)]
  | succ d ih =>
    intro j n g q1 q2 q3 h
    obtain ⟨n, rfl⟩ : ∃ k, n = k + 1 := ⟨n - 1, by omega⟩
    obtain ⟨g', e1, e2, e3, e4⟩ := ih (j + 1) n (sc g i j (F (i + j))) (by omega) (by omega) (by omega) (by rw [sc_a (by decide)]; exact h)
    refine ⟨g', ?_, fun a ha => by rw [e2 a ha, sc_a ha], fun s t ht hn => by rw [e3 s t ht (by omega), cm_o (by omega) ht (by omega)], fun t a b => ?_⟩
    · show bX0_laySquare_12 K (LX0_laySquare_12 K n) 22 N k i j g = _
      unfold bX0_laySquare_12
      rw [wi_id (z := (j : Int)) (by omega) (by omega), wi_id (z := (N : Int) - k) (by omega) (by omega), if_pos (by omega), w_ld (by decide) (by omega), h, show ((i : Int) + j).toNat = i + j by omega, pSe (by omega) (by omega), cl_some]
      exact e1
    · by_cases z : t = j
      · rw [z, e3 i j (by omega) (by omega), cm_s]
      · exact e4 t (by omega) b
theorem pSq {N k : Nat} (hk : k ≤ N) (hN : N ≤ 8) (F : Nat → Int) : ∀ (d i n : Nat) (g : HP), k + 1 - i = d → i ≤ k + 1 → d < n → g 22 = F → ∃ g', LX0_laySquare_3 n 22 N k i g = some (0, g') ∧ (∀ a, a ≠ 28 → g' a = g a) ∧ (∀ s t, t < 16 → ¬ (i ≤ s ∧ s ≤ k ∧ t ≤ N - k) → cm g' s t = cm g s t) ∧ ∀ s t, i ≤ s → s ≤ k → t ≤ N - k → cm g' s t = F (s + t) := by
  intro d
  induction d with
  | zero =>
    intro i n g q1 q2 q3 h
    obtain ⟨n, rfl⟩ : ∃ k, n = k + 1 := ⟨n - 1, by omega⟩
    refine ⟨g, ?_, fun _ _ => rfl, fun _ _ _ _ => rfl, fun s t a b => by omega⟩
    show bX0_laySquare_3 (LX0_laySquare_3 n) 22 N k i g = _
    unfold bX0_laySquare_3
    rw [wi_id (z := (i : Int)) (by omega) (by omega), wi_id (z := (k : Int)) (by omega) (by omega), if_neg (by omega)]
  | succ d ih =>
    intro i n g q1 q2 q3 h
    obtain ⟨n, rfl⟩ : ∃ k, n = k + 1 := ⟨n - 1, by omega⟩
    obtain ⟨g1, f1, f2, f3, f4⟩ := pSq1 hk hN (i := i) (by omega) F (LX0_laySquare_3 n) (N - k + 1) 0 FU g (by omega) (by omega) (fu_lt (by omega)) h
    obtain ⟨g', e1, e2, e3, e4⟩ := ih (i + 1) n g1 (by omega) (by omega) (by omega) (by rw [f2 22 (by decide)]; exact h)
    refine ⟨g', ?_, fun a ha => (e2 a ha).trans (f2 a ha), fun s t ht hn => by rw [e3 s t ht (by omega), f3 s t ht (by omega)], fun s t a b c => ?_⟩
    · show bX0_laySquare_3 (LX0_laySquare_3 n) 22 N k i g = _
      unfold bX0_laySquare_3
      rw [show ((0 : Nat) : Int) = 0 from rfl] at f1
      rw [wi_id (z := (i : Int)) (by omega) (by omega), wi_id (z := (k : Int)) (by omega) (by omega), if_pos (by omega), f1]
      exact e1
    · by_cases z : s = i
      · rw [z, e3 i t (by omega) (by omega), f4 t (by omega) c]
      · exact e4 s t (by omega) b c
theorem mSq1 {N k : Nat} (hk : k ≤ N) (hN : N ≤ 8) {i : Nat} (hi : i ≤ k) (F : Nat → Int) (hF : ∀ j, j < 9 → rs (F j)) (K : Int → Int → HP → Option (Int × HP)) : ∀ (d j n : Nat) (m : HP), N - k + 1 - j = d → j ≤ N - k + 1 → d < n → m 5 = F → m 0 6 = N → ∃ m', LX5_rank_49 K n k i j m = K k (i + 1) m' ∧ (∀ a, a ≠ 9 → m' a = m a) ∧ (∀ s t, t < 18 → ¬ (s = i ∧ j ≤ t ∧ t ≤ N - k) → mm m' s t = mm m s t) ∧ ∀ t, j ≤ t → t ≤ N - k → mm m' i t = dc F N (i + t) := by
  intro d
  induction d with
  | zero =>
    intro j n m q1 q2 q3 h h6
    obtain ⟨n, rfl⟩ : ∃ k, n = k + 1 := ⟨n - 1, by omega⟩
    refine ⟨m, ?_, fun _ _ => rfl, fun _ _ _ _ => rfl, fun t a b => by omega⟩
    show bX5_rank_49 K (LX5_rank_49 K n) k i j m = _
    unfold bX5_rank_49
    rw [h6, wi_id (z := (j : Int)) (by omega) (by omega), wi_id (z := (N : Int) - k) (by omega) (by omega), if_neg (by omega)]
  | succ d ih =>
    intro j n m q1 q2 q3 h h6
    obtain ⟨n, rfl⟩ : ∃ k, n = k + 1 := ⟨n - 1, by omega⟩
    obtain ⟨m', e1, e2, e3, e4⟩ := ih (j + 1) n (mS m i j (dc F N (i + j))) (by omega) (by omega) (by omega) (by rw [mS_a (by decide)]; exact h) (by rw [mS_a (by decide)]; exact h6)
    refine ⟨m', ?_, fun a ha => by rw [e2 a ha, mS_a ha], fun s t ht hn => by rw [e3 s t ht (by omega), mm_o (by omega) ht (by omega)], fun t a b => ?_⟩
    · show bX5_rank_49 K (LX5_rank_49 K n) k i j m = _
      unfold bX5_rank_49
      rw [h6, wi_id (z := (j : Int)) (by omega) (by omega), wi_id (z := (N : Int) - k) (by omega) (by omega), if_pos (by omega), m5_ld (by omega), h, mOv (by omega) (by omega), cl_some, show ((i : Int) + j).toNat = i + j by omega, mTurned (chf_rs (by omega) (by omega)), cl_some, mTimes (hF _ (by omega)) (pw_rs _), cl_some, m9_st (r := i) (c := j) (by omega) (by omega) rfl]
      exact e1
    · by_cases z : t = j
      · rw [z, e3 i j (by omega) (by omega), mm_s]
      · exact e4 t (by omega) b
theorem mSq {N k : Nat} (hk : k ≤ N) (hN : N ≤ 8) (F : Nat → Int) (hF : ∀ j, j < 9 → rs (F j)) : ∀ (d i n : Nat) (m : HP), k + 1 - i = d → i ≤ k + 1 → d < n → m 5 = F → m 0 6 = N → ∃ m', LX5_rank_40 n k i m = (cl (fX5_eliminate (k + 1 : Nat) (N - k + 1 : Nat) m') fun r125 h125 => some (r125, h125)) ∧ (∀ a, a ≠ 9 → m' a = m a) ∧ (∀ s t, t < 18 → ¬ (i ≤ s ∧ s ≤ k ∧ t ≤ N - k) → mm m' s t = mm m s t) ∧ ∀ s t, i ≤ s → s ≤ k → t ≤ N - k → mm m' s t = dc F N (s + t) := by
  intro d
  induction d with
  | zero =>
    intro i n m q1 q2 q3 h h6
    obtain ⟨n, rfl⟩ : ∃ k, n = k + 1 := ⟨n - 1, by omega⟩
    refine ⟨m, ?_, fun _ _ => rfl, fun _ _ _ _ => rfl, fun s t a b => by omega⟩
    show bX5_rank_40 (LX5_rank_40 n) k i m = _
    unfold bX5_rank_40
    rw [wi_id (z := (i : Int)) (by omega) (by omega), wi_id (z := (k : Int)) (by omega) (by omega), if_neg (by omega), h6, show ((N : Int) - k + 1) = ((N - k + 1 : Nat) : Int) by omega]
    rfl
  | succ d ih =>
    intro i n m q1 q2 q3 h h6
    obtain ⟨n, rfl⟩ : ∃ k, n = k + 1 := ⟨n - 1, by omega⟩
    obtain ⟨m1, f1, f2, f3, f4⟩ := mSq1 hk hN (i := i) (by omega) F hF (LX5_rank_40 n) (N - k + 1) 0 FU m (by omega) (by omega) (fu_lt (by omega)) h h6
    obtain ⟨m', e1, e2, e3, e4⟩ := ih (i + 1) n m1 (by omega) (by omega) (by omega) (by rw [f2 5 (by decide)]; exact h) (by rw [f2 0 (by decide)]; exact h6)
    refine ⟨m', ?_, fun a ha => (e2 a ha).trans (f2 a ha), fun s t ht hn => by rw [e3 s t ht (by omega), f3 s t ht (by omega)], fun s t a b c => ?_⟩
    · show bX5_rank_40 (LX5_rank_40 n) k i m = _
      unfold bX5_rank_40
      rw [show ((0 : Nat) : Int) = 0 from rfl] at f1
      rw [wi_id (z := (i : Int)) (by omega) (by omega), wi_id (z := (k : Int)) (by omega) (by omega), if_pos (by omega), f1]
      exact e1
    · by_cases z : s = i
      · rw [z, e3 i t (by omega) (by omega), f4 t (by omega) c]
      · exact e4 s t (by omega) b c
theorem sC_g {g g' : HP} (h : ∀ a, a ≠ 27 → a ≠ 28 → g' a = g a) : sameC g g' := ⟨by rw [h 0 (by decide) (by decide)], fun k _ _ => h k (by omega) (by omega)⟩
theorem sM_g {m m' : HP} (h : ∀ a, a ≠ 0 → a ≠ 9 → m' a = m a) (h' : ∀ j, j ≠ 13 → m' 0 j = m 0 j) : sameM m m' := ⟨h' 4 (by decide), h 1 (by decide) (by decide), h 2 (by decide) (by decide), h 3 (by decide) (by decide)⟩
theorem g_rank : G_rank JJ := by
  intro g m hJ x1 x2 w1 w2
  by_cases c2 : 0 ≤ x2
  · rcases one_form hJ w1 with ⟨c, e⟩ | ⟨c, r, g1, m1, r0, e, f, hJ1⟩ | ⟨c, hw, hf, e, m1, f1, f2, f3, f4, f5⟩
    · refine ⟨-2, -2, g, m, ?_, ?_, rfl, hJ⟩
      · unfold fX4_rank
        rw [w2, if_neg (by omega), e, cl_some, if_neg (by decide)]
      · unfold fX5_rank
        rw [mIS_bad w1 c, cl_some, if_pos wi_0]
    · refine ⟨r, r, g1, m1, ?_, ?_, rfl, hJ1⟩
      · unfold fX4_rank
        rw [w2, if_neg (by omega), e, cl_some, if_neg r0]
      · unfold fX5_rank
        rw [mIS_ok c.1 c.2, cl_some, if_neg (by decide), w2, if_neg (by omega), f, cl_some, if_neg r0]
    · obtain ⟨g1, a1, a2, a3⟩ := pLoad c (a := 22) (by decide) hw
      have hc1 : sameC g g1 := sC_o (a := 22) (by decide) a2
      have R22 : R9 g1 22 := fun j hj => by rw [a3 j hj]; exact nb_rs _ _ _
      have R5 : R9 m1 5 := fun j hj => by rw [f5 j hj]; exact nb_rs _ _ _
      obtain ⟨N, hN⟩ : ∃ N : Nat, g (2 + x1.toNat) 2 - 1 = N := ⟨(g (2 + x1.toNat) 2 - 1).toNat, by omega⟩
      rw [hN] at a1 f4
      have zN : N ≤ 8 := by omega
      have wN : wi (N : Int) = N := wi_id (by omega) (by omega)
      have hcl : fX4_rank x1 x2 g = if (N : Int) < x2 then some (-3, g1) else (cl (fX2_divideByChoices 22 N g1) fun _ h46 => cl (fX0_clear h46) fun _ h53 => cl (fX0_laySquare 22 N x2 h53) fun _ h67 => cl (fX0_reduce (x2 + 1) (((N : Int) - x2) + 1) (((N : Int) - x2) + 1) h67) fun r89 h89 => some (r89, h89)) := by
        unfold fX4_rank
        rw [w2, if_neg (by omega), e, cl_some, if_pos wi_0, a1, cl_some, wN]
      have hml : fX5_rank x1 x2 m = if (N : Int) < x2 then some (-3, m1) else LX5_rank_40 FU x2 0 m1 := by
        unfold fX5_rank
        rw [mIS_ok c.1 c.2, cl_some, if_neg (by decide), w2, if_neg (by omega), f1, cl_some, if_pos wi_0, f4, wN]
      by_cases y : (N : Int) < x2
      · exact ⟨-3, -3, g1, m1, by rw [hcl, if_pos y], by rw [hml, if_pos y], rfl, JJ_same hJ hc1 (sM_1 f2 f3)⟩
      · obtain ⟨k, hk⟩ : ∃ k : Nat, x2 = k := ⟨x2.toNat, by omega⟩
        subst hk
        rw [if_neg y] at hcl hml
        have hkN : k ≤ N := by omega
        obtain ⟨g2, b1, b2, b3, b4⟩ := pDC (a := 22) (by decide) (N := N) (by omega) (N + 1) 0 FU g1 (by omega) (fu_lt (by omega)) R22
        obtain ⟨g3, d1, d2, d3⟩ := pClr g2
        have e22 : g3 22 = g2 22 := d2 22 (by decide)
        obtain ⟨g4, o1, o2, o3, o4⟩ := pSq hkN zN (g2 22) (k + 1) 0 FU g3 (by omega) (by omega) (fu_lt (by omega)) e22
        obtain ⟨m2, q1, q2, q3, q4⟩ := mSq hkN zN (m1 5) R5 (k + 1) 0 FU m1 (by omega) (by omega) (fu_lt (by omega)) rfl f4
        have hag : ∀ r t, r < k + 1 → t < N - k + 1 → cm g4 r t = mm m2 r t := fun r t hr ht => by
          rw [o4 r t (by omega) (by omega) (by omega), q4 r t (by omega) (by omega) (by omega), b4 (r + t) (by omega) (by omega)]
          unfold dc
          rw [a3 (r + t) (by omega), f5 (r + t) (by omega)]
        obtain ⟨ρ, g5, m5, p1, p2, p3, p4, p5, p6, p7, p8⟩ := el_all (R := k + 1) (C := N - k + 1) (by omega) (by omega) (g := g4) (m := m2) (fun r t hr ht => by rw [hag r t hr ht, q4 r t (by omega) (by omega) (by omega)]; exact rs_mod _) hag
        refine ⟨ρ, ρ, g5, m5, ?_, ?_, rfl, JJ_same hJ (sC_t hc1 (sC_t (sC_o (a := 22) (by decide) b2) (sC_t (sC_o (a := 28) (by decide) d2) (sC_t (sC_o (a := 28) (by decide) o2) (sC_g p3))))) (sM_t (sM_1 f2 f3) (sM_t ⟨by rw [q2 0 (by decide)], q2 1 (by decide), q2 2 (by decide), q2 3 (by decide)⟩ (sM_g p4 p5)))⟩
        · rw [show ((0 : Nat) : Int) = 0 from rfl] at b1 o1
          rw [hcl]
          unfold fX2_divideByChoices fX0_laySquare
          rw [b1, cl_some, d1, cl_some, o1, cl_some, show ((k : Int) + 1) = ((k + 1 : Nat) : Int) by omega, show ((N : Int) - k + 1) = ((N - k + 1 : Nat) : Int) by omega, p1, cl_some]
        · rw [show ((0 : Nat) : Int) = 0 from rfl] at q1
          rw [hml, q1, p2, cl_some]
  · refine ⟨-2, -2, g, m, ?_, ?_, rfl, hJ⟩
    · unfold fX4_rank
      rw [w2, if_pos (by omega)]
    · unfold fX5_rank
      by_cases c : 0 ≤ x1 ∧ x1 < 10
      · rw [mIS_ok c.1 c.2, cl_some, if_neg (by decide), w2, if_pos (by omega)]
      · rw [mIS_bad w1 c, cl_some, if_pos wi_0]
