/-! Sums of powers: the class. -/
def pA (r b : Nat → Int) (k i j : Nat) : Int := if j < k then r j ^ i else b i
def So (r b : Nat → Int) (k R : Nat) (c : Nat → Int) : Prop := ∀ i, i < R → ep (sm (fun j => c j * r j ^ i) k) (b i)
def zc (c : Nat → Int) (k j : Nat) : Int := if j < k then c j else -1
theorem pA_sm (r b z : Nat → Int) (k i : Nat) : sm (fun j => pA r b k i j * z j) (k + 1) = sm (fun j => z j * r j ^ i) k + b i * z k := by
  show sm (fun j => pA r b k i j * z j) k + pA r b k i k * z k = _
  have e : pA r b k i k = b i := by unfold pA; rw [if_neg (Nat.lt_irrefl k)]
  rw [e]
  refine congrArg (fun y => y + b i * z k) (sm_cg (fun j hj => ?_))
  unfold pA
  rw [if_pos hj, Int.mul_comm]
theorem So_kr (r b c : Nat → Int) (k R : Nat) : So r b k R c ↔ kr (pA r b k) R (k + 1) (zc c k) := by
  have e : ∀ i, sm (fun j => pA r b k i j * zc c k j) (k + 1) = sm (fun j => c j * r j ^ i) k - b i := fun i => by
    rw [pA_sm]
    have e1 : zc c k k = -1 := by unfold zc; rw [if_neg (Nat.lt_irrefl k)]
    have e2 : sm (fun j => zc c k j * r j ^ i) k = sm (fun j => c j * r j ^ i) k := sm_cg (fun j hj => by unfold zc; rw [if_pos hj])
    rw [e1, e2, Int.mul_neg, Int.mul_one]; omega
  constructor
  · intro h i hi
    rw [e i]
    exact ep_b0.mpr (h i hi)
  · intro h i hi
    have := h i hi
    rw [e i] at this
    exact ep_b0.mp this
theorem pA_v {r b : Nat → Int} {k R : Nat} (hd : ds r k) (hkR : k ≤ R) : ∀ z, kr (pA r b k) R (k + 1) z → z k = 0 → ∀ j, j < k → ep (z j) 0 := fun z hz h0 j hj =>
  vdm k r z hd (fun i hi => by
    have := hz i (by omega)
    rw [pA_sm, h0, Int.mul_zero, Int.add_zero] at this
    exact this) j hj
theorem kr_e {T T' : Nat → Nat → Int} {R C : Nat} (h : ∀ i j, i < R → j < C → ep (T i j) (T' i j)) (z : Nat → Int) : kr T R C z ↔ kr T' R C z := by
  constructor
  · exact kr_c (fun s hs' => ⟨s, s, 1, 0, hs', hs', fun j hj => by rw [Int.one_mul, Int.zero_mul, Int.add_zero]; exact ep_s (h s j hs' hj)⟩)
  · exact kr_c (fun s hs' => ⟨s, s, 1, 0, hs', hs', fun j hj => by rw [Int.one_mul, Int.zero_mul, Int.add_zero]; exact h s j hs' hj⟩)
theorem sm_dl (z : Nat → Int) (i : Nat) : ∀ k, sm (fun j => (if i = j then 1 else 0) * z j) k = if i < k then z i else 0
  | 0 => by rw [if_neg (by omega)]; rfl
  | k + 1 => by
    show sm (fun j => (if i = j then 1 else 0) * z j) k + (if i = k then 1 else 0) * z k = _
    rw [sm_dl z i k]
    by_cases c : i = k
    · rw [if_neg (by omega), if_pos c, if_pos (by omega), Int.one_mul, c]; omega
    · by_cases d : i < k
      · rw [if_pos d, if_neg c, if_pos (by omega), Int.zero_mul]; omega
      · rw [if_neg d, if_neg c, if_neg (by omega), Int.zero_mul]; rfl
-- rows are laid
theorem pLP1 {t : Nat} (ht : t < 10) {k N j : Nat} (hk : k ≤ 9) (hN : N ≤ 8) (hj : j < k) (K : Nat → Int → Nat → Int → Int → HP → Option (Int × HP)) (r : Int) : ∀ (d i n : Nat) (u : Int) (g : HP), N + 1 - i = d → i ≤ N + 1 → d < n → WS g t → nb g t j = r → rs u → ep u (r ^ i) → ∃ g', LX0_layPowers_15 K n (2 + t) k 22 N j u i g = K (2 + t) k 22 N (j + 1) g' ∧ (∀ a, a ≠ 28 → g' a = g a) ∧ (∀ s l, l < 16 → ¬ (l = j ∧ i ≤ s ∧ s ≤ N) → cm g' s l = cm g s l) ∧ ∀ s, i ≤ s → s ≤ N → rs (cm g' s j) ∧ ep (cm g' s j) (r ^ s) := by
  intro d
  induction d with
  | zero =>
    intro i n u g q1 q2 q3 hw hr hu he
    obtain ⟨n, rfl⟩ : ∃ k, n = k + 1 := ⟨n - 1, by omega⟩
    refine ⟨g, ?_, fun _ _ => rfl, fun _ _ _ _ => rfl, fun s a b => by omega⟩
    show bX0_layPowers_15 K (LX0_layPowers_15 K n) (2 + t) k 22 N j u i g = _
    unfold bX0_layPowers_15
    rw [wi_id (z := (i : Int)) (by omega) (by omega), wi_id (z := (N : Int)) (by omega) (by omega), if_neg (by omega)]
  | succ d ih =>
    intro i n u g q1 q2 q3 hw hr hu he
    obtain ⟨n, rfl⟩ : ∃ k, n = k + 1 := ⟨n - 1, by omega⟩
    have hc : sameC g (sc g i j u) := sC_o (a := 28) (by decide) (fun a ha => sc_a ha)
    have b1 := rs_mul hu (nb_rs g t j)
    rw [hr] at b1
    obtain ⟨g', e1, e2, e3, e4⟩ := ih (i + 1) n (u * r % 10007) (sc g i j u) (by omega) (by omega) (by omega) (WS_same ht hw hc) (by rw [nb_same ht hc]; exact hr) (rs_mod _) (by rw [Int.pow_succ]; exact ep_t (ep_m _) (ep_u he (ep_r _)))
    refine ⟨g', ?_, fun a ha => by rw [e2 a ha, sc_a ha], fun s l hl hn => by rw [e3 s l hl (by omega), cm_o (by omega) hl (by omega)], fun s a b => ?_⟩
    · show bX0_layPowers_15 K (LX0_layPowers_15 K n) (2 + t) k 22 N j u i g = _
      unfold bX0_layPowers_15
      rw [wi_id (z := (i : Int)) (by omega) (by omega), wi_id (z := (N : Int)) (by omega) (by omega), if_pos (by omega), pSe (by omega) (by omega), cl_some, pNum ht (WS_same ht hw hc) (by omega) (wi_id (by omega) (by omega)), cl_some, Int.toNat_natCast, nb_same ht hc, hr, lt_d, rm_e b1.1 (by omega)]
      exact e1
    · by_cases z : s = i
      · rw [z, e3 i j (by omega) (by omega), cm_s]
        exact ⟨hu, he⟩
      · exact e4 s (by omega) b
theorem pLP2 {k N : Nat} (hk : k ≤ 9) (hN : N ≤ 8) (F : Nat → Int) : ∀ (d i n : Nat) (g : HP), N + 1 - i = d → i ≤ N + 1 → d < n → g 22 = F → ∃ g', LX0_layPowers_62 n k 22 N i g = some (0, g') ∧ (∀ a, a ≠ 28 → g' a = g a) ∧ (∀ s l, l < 16 → ¬ (l = k ∧ i ≤ s ∧ s ≤ N) → cm g' s l = cm g s l) ∧ ∀ s, i ≤ s → s ≤ N → cm g' s k = F s := by
  intro d
  induction d with
  | zero =>
    intro i n g q1 q2 q3 h
    obtain ⟨n, rfl⟩ : ∃ k, n = k + 1 := ⟨n - 1, by omega⟩
    refine ⟨g, ?_, fun _ _ => rfl, fun _ _ _ _ => rfl, fun s a b => by omega⟩
    show bX0_layPowers_62 (LX0_layPowers_62 n) k 22 N i g = _
    unfold bX0_layPowers_62
    rw [wi_id (z := (i : Int)) (by omega) (by omega), wi_id (z := (N : Int)) (by omega) (by omega), if_neg (by omega)]
  | succ d ih =>
    intro i n g q1 q2 q3 h
    obtain ⟨n, rfl⟩ : ∃ k, n = k + 1 := ⟨n - 1, by omega⟩
    obtain ⟨g', e1, e2, e3, e4⟩ := ih (i + 1) n (sc g i k (F i)) (by omega) (by omega) (by omega) (by rw [sc_a (by decide)]; exact h)
    refine ⟨g', ?_, fun a ha => by rw [e2 a ha, sc_a ha], fun s l hl hn => by rw [e3 s l hl (by omega), cm_o (by omega) hl (by omega)], fun s a b => ?_⟩
    · show bX0_layPowers_62 (LX0_layPowers_62 n) k 22 N i g = _
      unfold bX0_layPowers_62
      rw [wi_id (z := (i : Int)) (by omega) (by omega), wi_id (z := (N : Int)) (by omega) (by omega), if_pos (by omega), w_ld (by decide) (by omega), h, Int.toNat_natCast, pSe (by omega) (by omega), cl_some]
      exact e1
    · by_cases z : s = i
      · rw [z, e3 i k (by omega) (by omega), cm_s]
      · exact e4 s (by omega) b
theorem pLP {t : Nat} (ht : t < 10) {k N : Nat} (hk : k ≤ 9) (hN : N ≤ 8) (F r : Nat → Int) : ∀ (d j n : Nat) (g : HP), k - j = d → j ≤ k → d < n → WS g t → nb g t = r → g 22 = F → (∀ s l, s ≤ N → l < j → rs (cm g s l) ∧ ep (cm g s l) (r l ^ s)) → ∃ g', LX0_layPowers_3 n (2 + t) k 22 N j g = some (0, g') ∧ (∀ a, a ≠ 28 → g' a = g a) ∧ (∀ s l, s ≤ N → l < k → rs (cm g' s l) ∧ ep (cm g' s l) (r l ^ s)) ∧ ∀ s, s ≤ N → cm g' s k = F s := by
  intro d
  induction d with
  | zero =>
    intro j n g q1 q2 q3 hw hr h hd
    obtain ⟨n, rfl⟩ : ∃ k, n = k + 1 := ⟨n - 1, by omega⟩
    have e : j = k := by omega
    subst e
    obtain ⟨g', e1, e2, e3, e4⟩ := pLP2 hk hN F (N + 1) 0 FU g (by omega) (by omega) (fu_lt (by omega)) h
    refine ⟨g', ?_, e2, fun s l hs' hl => by rw [e3 s l (by omega) (by omega)]; exact hd s l hs' hl, fun s hs' => e4 s (by omega) hs'⟩
    show bX0_layPowers_3 (LX0_layPowers_3 n) (2 + t) j 22 N j g = _
    unfold bX0_layPowers_3
    rw [if_neg (by omega)]
    exact e1
  | succ d ih =>
    intro j n g q1 q2 q3 hw hr h hd
    obtain ⟨n, rfl⟩ : ∃ k, n = k + 1 := ⟨n - 1, by omega⟩
    obtain ⟨g1, f1, f2, f3, f4⟩ := pLP1 ht (k := k) (N := N) (j := j) hk hN (by omega) (LX0_layPowers_3 n) (r j) (N + 1) 0 FU 1 g (by omega) (by omega) (fu_lt (by omega)) hw (by rw [hr]) ⟨by decide, by decide⟩ (by rw [Int.pow_zero]; exact ep_r 1)
    have hc : sameC g g1 := sC_o (a := 28) (by decide) f2
    obtain ⟨g', e1, e2, e3, e4⟩ := ih (j + 1) n g1 (by omega) (by omega) (by omega) (WS_same ht hw hc) (by rw [nb_same ht hc]; exact hr) (by rw [f2 22 (by decide)]; exact h) (fun s l hs' hl => by
      by_cases z : l = j
      · rw [z]; exact f4 s (by omega) hs'
      · rw [f3 s l (by omega) (by omega)]; exact hd s l hs' (by omega))
    refine ⟨g', ?_, fun a ha => (e2 a ha).trans (f2 a ha), e3, e4⟩
    show bX0_layPowers_3 (LX0_layPowers_3 n) (2 + t) k 22 N j g = _
    unfold bX0_layPowers_3
    rw [show ((0 : Nat) : Int) = 0 from rfl] at f1
    rw [wi_id (z := (j : Int)) (by omega) (by omega), wi_id (z := (k : Int)) (by omega) (by omega), if_pos (by omega), f1]
    exact e1
theorem pMk1 {N k : Nat} (hN : N ≤ 8) (hk : k ≤ 9) {g : HP} (hb : RB (cm g) (N + 1) (k + 1)) : ∀ (d i n : Nat), N + 1 - i = d → i ≤ N + 1 → d < n → ((∀ s, i ≤ s → s < N + 1 → cm g s k = 0) → LX4_makePowers_47 n N k i g = (cl (fX2_clear 26 g) fun _ h78 => LX4_makePowers_84 FU k 0 h78)) ∧ ((∃ s, i ≤ s ∧ s < N + 1 ∧ cm g s k ≠ 0) → LX4_makePowers_47 n N k i g = some (0, g)) := by
  intro d
  induction d with
  | zero =>
    intro i n q1 q2 q3
    obtain ⟨n, rfl⟩ : ∃ k, n = k + 1 := ⟨n - 1, by omega⟩
    refine ⟨fun _ => ?_, fun ⟨s, a, b, _⟩ => by omega⟩
    show bX4_makePowers_47 (LX4_makePowers_47 n) N k i g = _
    unfold bX4_makePowers_47
    rw [wi_id (z := (i : Int)) (by omega) (by omega), wi_id (z := (N : Int)) (by omega) (by omega), if_neg (by omega)]
  | succ d ih =>
    intro i n q1 q2 q3
    obtain ⟨n, rfl⟩ : ∃ k, n = k + 1 := ⟨n - 1, by omega⟩
    obtain ⟨i1, i2⟩ := ih (i + 1) n (by omega) (by omega) (by omega)
    have st : LX4_makePowers_47 (n + 1) N k i g = if cm g i k = 0 then LX4_makePowers_47 n N k (i + 1 : Nat) g else some (0, g) := by
      show bX4_makePowers_47 (LX4_makePowers_47 n) N k i g = _
      unfold bX4_makePowers_47
      rw [wi_id (z := (i : Int)) (by omega) (by omega), wi_id (z := (N : Int)) (by omega) (by omega), if_pos (by omega), pAt (by omega) (by omega), cl_some, rs_wi (hb i k (by omega) (by omega))]
      rfl
    rw [st]
    by_cases z : cm g i k = 0
    · rw [if_pos z]
      refine ⟨fun h => i1 (fun s a b => h s (by omega) b), fun ⟨s, a, b, e⟩ => i2 ⟨s, ?_, b, e⟩⟩
      by_cases y : s = i
      · rw [y] at e; exact absurd z e
      · omega
    · rw [if_neg z]
      exact ⟨fun h => absurd (h i (by omega) (by omega)) z, fun _ => rfl⟩
theorem pMk2 {k : Nat} (hk : k ≤ 9) (T : Nat → Int) : ∀ (d j n : Nat) (g : HP), k - j = d → j ≤ k → d < n → (∀ s, s < k → cm g s k = T s) → ∃ g', LX4_makePowers_84 n k j g = some (1, g') ∧ (∀ a, a ≠ 26 → g' a = g a) ∧ (∀ s, s < j → g' 26 s = g 26 s) ∧ ∀ s, j ≤ s → s < k → g' 26 s = T s := by
  intro d
  induction d with
  | zero =>
    intro j n g q1 q2 q3 h
    obtain ⟨n, rfl⟩ : ∃ k, n = k + 1 := ⟨n - 1, by omega⟩
    refine ⟨g, ?_, fun _ _ => rfl, fun _ _ => rfl, fun s a b => by omega⟩
    show bX4_makePowers_84 (LX4_makePowers_84 n) k j g = _
    unfold bX4_makePowers_84
    rw [wi_id (z := (j : Int)) (by omega) (by omega), wi_id (z := (k : Int)) (by omega) (by omega), if_neg (by omega)]
  | succ d ih =>
    intro j n g q1 q2 q3 h
    obtain ⟨n, rfl⟩ : ∃ k, n = k + 1 := ⟨n - 1, by omega⟩
    obtain ⟨g', e1, e2, e3, e4⟩ := ih (j + 1) n (hs g 26 j (T j)) (by omega) (by omega) (by omega) (fun s hs' => by
      show hs g 26 j (T j) 28 _ = _
      rw [hs_k (by decide)]
      exact h s hs')
    refine ⟨g', ?_, fun a ha => (e2 a ha).trans (hs_ne ha), fun s hs' => by rw [e3 s (by omega), hs_j (by omega)], fun s a b => ?_⟩
    · show bX4_makePowers_84 (LX4_makePowers_84 n) k j g = _
      unfold bX4_makePowers_84
      rw [wi_id (z := (j : Int)) (by omega) (by omega), wi_id (z := (k : Int)) (by omega) (by omega), if_pos (by omega), pAt (by omega) (by omega), cl_some, h j (by omega), w_st (by decide) (by omega), Int.toNat_natCast]
      exact e1
    · by_cases z : s = j
      · rw [z, e3 j (by omega), hs_s]
      · exact e4 s (by omega) b
theorem pMP {t : Nat} (ht : t < 10) {k N : Nat} (hk : k ≤ 9) (hN : N ≤ 8) (hkN : k ≤ N + 1) {g : HP} (hw : WS g t) (h22 : R9 g 22) (hd : ds (nb g t) k) : (∃ g', fX4_makePowers N (2 + t) k g = some (1, g') ∧ sameC g g' ∧ (∀ j, j < k → rs (g' 26 j)) ∧ So (nb g t) (dc (g 22) N) k (N + 1) (g' 26)) ∨ (∃ g', fX4_makePowers N (2 + t) k g = some (0, g') ∧ sameC g g' ∧ ∀ c, ¬ So (nb g t) (dc (g 22) N) k (N + 1) c) := by
  obtain ⟨g1, a1, a2, a3, a4⟩ := pDC (a := 22) (by decide) (N := N) (by omega) (N + 1) 0 FU g (by omega) (fu_lt (by omega)) h22
  have hc1 : sameC g g1 := sC_o (a := 22) (by decide) a2
  obtain ⟨g2, b1, b2, b3⟩ := pClr g1
  have hc2 : sameC g g2 := sC_t hc1 (sC_o (a := 28) (by decide) b2)
  obtain ⟨g3, d1, d2, d3, d4⟩ := pLP ht hk hN (g2 22) (nb g t) k 0 FU g2 (by omega) (by omega) (fu_lt (by omega)) (WS_same ht hw hc2) (nb_same ht hc2) rfl (fun s l _ hl => by omega)
  have hc3 : sameC g g3 := sC_t hc2 (sC_o (a := 28) (by decide) d2)
  have cm4 : ∀ r j, cm (hs g3 27 1 1) r j = cm g3 r j := fun r j => hs_k (by decide)
  have last : ∀ s, s < N + 1 → cm g3 s k = dc (g 22) N s := fun s hs' => by rw [d4 s (by omega), b2 22 (by decide), a4 s (by omega) (by omega)]
  have hb3 : RB (cm (hs g3 27 1 1)) (N + 1) (k + 1) := fun r j hr hj => by
    rw [cm4]
    by_cases z : j = k
    · rw [z, last r hr]; exact rs_mod _
    · exact (d3 r j (by omega) (by omega)).1
  have hkr : ∀ z, kr (cm (hs g3 27 1 1)) (N + 1) (k + 1) z ↔ kr (pA (nb g t) (dc (g 22) N) k) (N + 1) (k + 1) z := kr_e (fun i j hi hj => by
    rw [cm4]
    unfold pA
    by_cases z : j < k
    · rw [if_pos z]; exact (d3 i j (by omega) z).2
    · rw [if_neg z, show j = k by omega, last i hi]; exact ep_r _)
  obtain ⟨g4, e1, e2, e3, e4, e5⟩ := pRd (R := N + 1) (k := k) (by omega) (by omega) hkN (pA_v hd hkN) k 0 FU (hs g3 27 1 1) (by omega) (by omega) (fu_lt (by omega)) hb3 (by rw [hs_s]; exact ⟨by decide, by decide⟩) (fun r j _ hj => by omega) hkr
  have hc4 : sameC g g4 := sC_t hc3 (sC_g (fun a x y => by rw [e2 a x y, hs_ne x]))
  have fm : ∀ (z : Nat → Int) (i : Nat), i < N + 1 → sm (fun j => cm g4 i j * z j) (k + 1) = (if i < k then z i else 0) + cm g4 i k * z k := fun z i hi => by
    show sm (fun j => cm g4 i j * z j) k + cm g4 i k * z k = _
    rw [← sm_dl z i k]
    refine congrArg (fun y => y + cm g4 i k * z k) (sm_cg (fun j hj => ?_))
    rw [e4 i j hi hj]
  obtain ⟨k1, k2⟩ := pMk1 hN hk e3 (N + 1 - k) k FU rfl hkN (fu_lt (by omega))
  have start : fX4_makePowers N (2 + t) k g = LX4_makePowers_47 FU N k k g4 := by
    unfold fX4_makePowers fX2_divideByChoices fX0_layPowers fX0_reduce
    rw [show ((0 : Nat) : Int) = 0 from rfl] at a1 d1 e1
    rw [a1, cl_some, b1, cl_some, d1, cl_some, pf_d, show ((N : Int) + 1) = ((N + 1 : Nat) : Int) by omega, show ((k : Int) + 1) = ((k + 1 : Nat) : Int) by omega, e1, cl_some]
  have zk : ∀ c, zc c k k = -1 := fun c => by unfold zc; rw [if_neg (Nat.lt_irrefl k)]
  by_cases y : ∃ s, k ≤ s ∧ s < N + 1 ∧ cm g4 s k ≠ 0
  · refine Or.inr ⟨g4, by rw [start]; exact k2 y, hc4, fun c hc => ?_⟩
    obtain ⟨s, s1, s2, s3⟩ := y
    have h1 := (e5 _).mpr ((So_kr _ _ c k (N + 1)).mp hc) s s2
    rw [fm _ s s2, if_neg (by omega), zk, Int.mul_neg, Int.mul_one, Int.zero_add] at h1
    have h2 := ep_n h1
    rw [Int.neg_neg, Int.neg_zero] at h2
    exact s3 ((ep_0 (e3 s k s2 (by omega))).mp h2)
  · have y2 : ∀ s, k ≤ s → s < N + 1 → cm g4 s k = 0 := fun s s1 s2 => by
      by_cases w : cm g4 s k = 0
      · exact w
      · exact absurd ⟨s, s1, s2, w⟩ y
    obtain ⟨g5, o1, o2, o3⟩ := pClear l26 (by decide) g4
    obtain ⟨g6, p1, p2, p3, p4⟩ := pMk2 hk (fun s => cm g4 s k) k 0 FU g5 (by omega) (by omega) (fu_lt (by omega)) (fun s hs' => by
      show g5 28 _ = g4 28 _
      rw [o2 28 (by decide)])
    refine Or.inl ⟨g6, ?_, sC_t hc4 (sC_t (sC_o (a := 26) (by decide) o2) (sC_o (a := 26) (by decide) p2)), fun j hj => by rw [p4 j (by omega) hj]; exact e3 j k (by omega) (by omega), ?_⟩
    · rw [show ((0 : Nat) : Int) = 0 from rfl] at p1
      rw [start, k1 y2, o1, cl_some, p1]
    · refine (So_kr _ _ _ k (N + 1)).mpr ((e5 _).mp (fun i hi => ?_))
      rw [fm _ i hi, zk, Int.mul_neg, Int.mul_one]
      by_cases w : i < k
      · rw [if_pos w]
        have : zc (g6 26) k i = cm g4 i k := by unfold zc; rw [if_pos w, p4 i (by omega) w]
        rw [this, Int.add_right_neg]
        exact ep_r 0
      · rw [if_neg w, y2 i (by omega) hi]
        exact ep_r 0
def dq (r : Nat → Int) (k : Nat) : Prop := ∀ i j, i < k → j < i → r i ≠ r j
theorem dq_ds {r : Nat → Int} (hr : ∀ i, rs (r i)) {k : Nat} (h : dq r k) : ds r k := fun i j hi hj q => h i j hi hj (ep_i (hr i) (hr j) q)
theorem pSU1 {t : Nat} (ht : t < 10) {g : HP} (hw : WS g t) {k i : Nat} (hi : i < 9) (K : Nat → Int → Int → HP → Option (Int × HP)) : ∀ (d j n : Nat), i - j = d → j ≤ i → d < n → ((∀ s, j ≤ s → s < i → nb g t i ≠ nb g t s) → LX3_startsUnlike_9 K n (2 + t) k i j g = K (2 + t) k (i + 1) g) ∧ ((∃ s, j ≤ s ∧ s < i ∧ nb g t i = nb g t s) → LX3_startsUnlike_9 K n (2 + t) k i j g = some (0, g)) := by
  intro d
  induction d with
  | zero =>
    intro j n q1 q2 q3
    obtain ⟨n, rfl⟩ : ∃ k, n = k + 1 := ⟨n - 1, by omega⟩
    refine ⟨fun _ => ?_, fun ⟨s, a, b, _⟩ => by omega⟩
    show bX3_startsUnlike_9 K (LX3_startsUnlike_9 K n) (2 + t) k i j g = _
    unfold bX3_startsUnlike_9
    rw [wi_id (z := (i : Int)) (by omega) (by omega), wi_id (z := (j : Int)) (by omega) (by omega), if_neg (by omega)]
  | succ d ih =>
    intro j n q1 q2 q3
    obtain ⟨n, rfl⟩ : ∃ k, n = k + 1 := ⟨n - 1, by omega⟩
    obtain ⟨i1, i2⟩ := ih (j + 1) n (by omega) (by omega) (by omega)
    have st : LX3_startsUnlike_9 K (n + 1) (2 + t) k i j g = if nb g t i = nb g t j then some (0, g) else LX3_startsUnlike_9 K n (2 + t) k i (j + 1 : Nat) g := by
      show bX3_startsUnlike_9 K (LX3_startsUnlike_9 K n) (2 + t) k i j g = _
      unfold bX3_startsUnlike_9
      rw [wi_id (z := (i : Int)) (by omega) (by omega), wi_id (z := (j : Int)) (by omega) (by omega), if_pos (by omega), pNum ht hw (by omega) (wi_id (by omega) (by omega)), cl_some, pNum ht hw (by omega) (wi_id (by omega) (by omega)), cl_some, Int.toNat_natCast, Int.toNat_natCast, rs_wi (nb_rs _ _ _), rs_wi (nb_rs _ _ _)]
      rfl
    rw [st]
    by_cases z : nb g t i = nb g t j
    · rw [if_pos z]
      exact ⟨fun h => absurd z (h j (by omega) (by omega)), fun _ => rfl⟩
    · rw [if_neg z]
      refine ⟨fun h => i1 (fun s a b => h s (by omega) b), fun ⟨s, a, b, e⟩ => i2 ⟨s, ?_, b, e⟩⟩
      by_cases y : s = j
      · rw [y] at e; exact absurd e z
      · omega
theorem pSU {t : Nat} (ht : t < 10) {g : HP} (hw : WS g t) {k : Nat} (hk : k ≤ 9) : ∀ (d i n : Nat), k - i = d → i ≤ k → d < n → ((∀ a b, i ≤ a → a < k → b < a → nb g t a ≠ nb g t b) → LX3_startsUnlike_2 n (2 + t) k i g = some (1, g)) ∧ ((∃ a b, i ≤ a ∧ a < k ∧ b < a ∧ nb g t a = nb g t b) → LX3_startsUnlike_2 n (2 + t) k i g = some (0, g)) := by
  intro d
  induction d with
  | zero =>
    intro i n q1 q2 q3
    obtain ⟨n, rfl⟩ : ∃ k, n = k + 1 := ⟨n - 1, by omega⟩
    refine ⟨fun _ => ?_, fun ⟨a, b, x, y, _⟩ => by omega⟩
    show bX3_startsUnlike_2 (LX3_startsUnlike_2 n) (2 + t) k i g = _
    unfold bX3_startsUnlike_2
    rw [wi_id (z := (i : Int)) (by omega) (by omega), wi_id (z := (k : Int)) (by omega) (by omega), if_neg (by omega)]
  | succ d ih =>
    intro i n q1 q2 q3
    obtain ⟨n, rfl⟩ : ∃ k, n = k + 1 := ⟨n - 1, by omega⟩
    obtain ⟨i1, i2⟩ := ih (i + 1) n (by omega) (by omega) (by omega)
    obtain ⟨j1, j2⟩ := pSU1 ht hw (k := k) (i := i) (by omega) (LX3_startsUnlike_2 n) i 0 FU (by omega) (by omega) (fu_lt (by omega))
    have st : LX3_startsUnlike_2 (n + 1) (2 + t) k i g = LX3_startsUnlike_9 (LX3_startsUnlike_2 n) FU (2 + t) k i 0 g := by
      show bX3_startsUnlike_2 (LX3_startsUnlike_2 n) (2 + t) k i g = _
      unfold bX3_startsUnlike_2
      rw [wi_id (z := (i : Int)) (by omega) (by omega), wi_id (z := (k : Int)) (by omega) (by omega), if_pos (by omega)]
    rw [show ((0 : Nat) : Int) = 0 from rfl] at j1 j2
    rw [st]
    by_cases z : ∃ s, 0 ≤ s ∧ s < i ∧ nb g t i = nb g t s
    · rw [j2 z]
      obtain ⟨s, _, s2, s3⟩ := z
      exact ⟨fun h => absurd s3 (h i s (by omega) (by omega) s2), fun _ => rfl⟩
    · have z2 : ∀ s, 0 ≤ s → s < i → nb g t i ≠ nb g t s := fun s a b e => z ⟨s, a, b, e⟩
      rw [j1 z2]
      refine ⟨fun h => i1 (fun a b x y w => h a b (by omega) y w), fun ⟨a, b, x, y, w, e⟩ => i2 ⟨a, b, ?_, y, w, e⟩⟩
      by_cases v : a = i
      · rw [v] at e w; exact absurd e (z2 b (by omega) w)
      · omega
