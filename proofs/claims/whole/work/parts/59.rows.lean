/-! The class's work on rows. -/
def R9 (g : HP) (a : Nat) : Prop := ∀ j : Nat, j < 9 → rs (g a j)
theorem R9_hs {g : HP} {a i : Nat} {v : Int} (h : R9 g a) (hv : rs v) (b : Nat) (hb : b = a) : R9 (hs g b i v) a := by
  subst hb
  intro j hj
  by_cases c : j = i
  · rw [c, hs_s]; exact hv
  · rw [hs_j c]; exact h j hj
theorem R9_k {g g' : HP} {a : Nat} (h : R9 g a) (e : g' a = g a) : R9 g' a := fun j hj => by rw [e]; exact h j hj
def chf (n : Int) : Nat → Int
  | 0 => 1
  | k + 1 => Int.tdiv (chf n k * (n - k)) (k + 1)
theorem chf_tab : ∀ n : Nat, n < 9 → ∀ k : Nat, k < 10 → 0 ≤ chf n k ∧ chf n k ≤ 70 ∧ (k ≤ n → 1 ≤ chf n k) := by decide +kernel
theorem chf_r {n : Int} (hn : 0 ≤ n ∧ n ≤ 8) {k : Nat} (hk : k ≤ 9) : 0 ≤ chf n k ∧ chf n k ≤ 70 := by
  have := chf_tab n.toNat (by omega) k (by omega)
  rw [show ((n.toNat : Nat) : Int) = n by omega] at this
  exact ⟨this.1, this.2.1⟩
theorem chf_p {n : Int} (hn : 0 ≤ n ∧ n ≤ 8) {k : Nat} (hk : (k : Int) ≤ n) : 1 ≤ chf n k := by
  have := chf_tab n.toNat (by omega) k (by omega)
  rw [show ((n.toNat : Nat) : Int) = n by omega] at this
  exact this.2.2 (by omega)
theorem chf_rs {n : Int} (hn : 0 ≤ n ∧ n ≤ 8) {k : Nat} (hk : k ≤ 9) : rs (chf n k) := by
  have := chf_r hn hk
  exact ⟨this.1, by omega⟩
theorem pCh {N x : Int} (hN : 0 ≤ N ∧ N ≤ 8) (hx : 0 ≤ x ∧ x ≤ 8) (g : HP) : fX1_choose N x g = some (chf N x.toNat, g) := by
  have key : ∀ (d k n : Nat), x - k = d → d < n → LX1_choose_4 n N x (chf N k) (k + 1 : Nat) g = some (chf N x.toNat, g) := by
    intro d
    induction d with
    | zero =>
      intro k n q1 q3
      obtain ⟨n, rfl⟩ : ∃ z, n = z + 1 := ⟨n - 1, by omega⟩
      show bX1_choose_4 (LX1_choose_4 n) N x (chf N k) (k + 1 : Nat) g = _
      unfold bX1_choose_4
      rw [wi_id (z := ((k + 1 : Nat) : Int)) (by omega) (by omega), wi_id (z := x) (by omega) (by omega), if_neg (by omega), show k = x.toNat by omega]
    | succ d ih =>
      intro k n q1 q3
      obtain ⟨n, rfl⟩ : ∃ z, n = z + 1 := ⟨n - 1, by omega⟩
      have hc := chf_r hN (k := k) (by omega)
      have e : N - ((k + 1 : Nat) : Int) + 1 = N - k := by omega
      have hb : -1000 ≤ chf N k * (N - k) ∧ chf N k * (N - k) ≤ 1000 := by
        have q : (chf N k * (N - k)).natAbs ≤ 70 * 9 := by rw [Int.natAbs_mul]; exact Nat.mul_le_mul (by omega) (by omega)
        omega
      show bX1_choose_4 (LX1_choose_4 n) N x (chf N k) (k + 1 : Nat) g = _
      unfold bX1_choose_4
      rw [wi_id (z := ((k + 1 : Nat) : Int)) (by omega) (by omega), wi_id (z := x) (by omega) (by omega), if_pos (by omega), gd_t (by omega), lt_d, e, wi_id (by omega) (by omega)]
      exact ih (k + 1) n (by omega) (by omega)
  exact key x.toNat 0 FU (by omega) (fu_lt (by omega))
theorem mOv {N x : Int} (hN : 0 ≤ N ∧ N ≤ 8) (hx : 0 ≤ x ∧ x ≤ 8) (g : HP) : fX5_over N x g = some (chf N x.toNat, g) := by
  have key : ∀ (d k n : Nat), x - k = d → d < n → LX5_over_4 n N x (chf N k) k g = some (chf N x.toNat, g) := by
    intro d
    induction d with
    | zero =>
      intro k n q1 q3
      obtain ⟨n, rfl⟩ : ∃ z, n = z + 1 := ⟨n - 1, by omega⟩
      show bX5_over_4 (LX5_over_4 n) N x (chf N k) k g = _
      unfold bX5_over_4
      rw [wi_id (z := (k : Int)) (by omega) (by omega), wi_id (z := x) (by omega) (by omega), if_neg (by omega), show k = x.toNat by omega]
    | succ d ih =>
      intro k n q1 q3
      obtain ⟨n, rfl⟩ : ∃ z, n = z + 1 := ⟨n - 1, by omega⟩
      have hc := chf_r hN (k := k) (by omega)
      have hb : -1000 ≤ chf N k * (N - k) ∧ chf N k * (N - k) ≤ 1000 := by
        have q : (chf N k * (N - k)).natAbs ≤ 70 * 9 := by rw [Int.natAbs_mul]; exact Nat.mul_le_mul (by omega) (by omega)
        omega
      show bX5_over_4 (LX5_over_4 n) N x (chf N k) k g = _
      unfold bX5_over_4
      rw [wi_id (z := (k : Int)) (by omega) (by omega), wi_id (z := x) (by omega) (by omega), if_pos (by omega), wi_id (z := (k : Int) + 1) (by omega) (by omega), gd_t (by omega), lt_d, wi_id (by omega) (by omega)]
      exact ih (k + 1) n (by omega) (by omega)
  exact key x.toNat 0 FU (by omega) (fu_lt (by omega))
theorem pClearL {a LN : Nat} (ha : lnC a = LN) (hL : LN ≤ 300) : ∀ (d : Nat) (i : Int) (n : Nat) (g : HP), (LN : Int) - i = d → 0 ≤ i → d < n → ∃ g', LX2_clear_2 n a i g = some (0, g') ∧ (∀ k, k ≠ a → g' k = g k) ∧ (∀ j : Nat, ((j : Int) < i ∨ (LN : Int) ≤ j) → g' a j = g a j) ∧ ∀ j : Nat, i ≤ j → j < (LN : Int) → g' a j = 0 := by
  intro d
  induction d with
  | zero =>
    intro i n g q1 q2 q3
    obtain ⟨n, rfl⟩ : ∃ k, n = k + 1 := ⟨n - 1, by omega⟩
    refine ⟨g, ?_, fun _ _ => rfl, fun _ _ => rfl, fun j p1 p2 => by omega⟩
    show bX2_clear_2 (LX2_clear_2 n) a i g = _
    unfold bX2_clear_2
    rw [ha, wi_id (z := i) (by omega) (by omega), wi_id (z := (LN : Int)) (by omega) (by omega), if_neg (by omega)]
  | succ d ih =>
    intro i n g q1 q2 q3
    obtain ⟨n, rfl⟩ : ∃ k, n = k + 1 := ⟨n - 1, by omega⟩
    obtain ⟨g', e1, e2, e3, e4⟩ := ih (i + 1) n (hs g a i.toNat (0)) (by omega) (by omega) (by omega)
    refine ⟨g', ?_, fun k hk => (e2 k hk).trans (hs_ne hk), fun j hj => (e3 j (by omega)).trans (hs_j (by omega)), fun j p1 p2 => ?_⟩
    · show bX2_clear_2 (LX2_clear_2 n) a i g = _
      unfold bX2_clear_2
      rw [ha, wi_id (z := i) (by omega) (by omega), wi_id (z := (LN : Int)) (by omega) (by omega), if_pos (by omega), sto_t q2 (by omega) (by omega)]
      exact e1
    · by_cases c : (j : Int) = i
      · rw [e3 j (by omega), show j = i.toNat by omega, hs_s]
      · rw [e4 j (by omega) p2]

theorem pClear {a LN : Nat} (ha : lnC a = LN) (hL : LN ≤ 300) (g : HP) : ∃ g', fX2_clear a g = some (0, g') ∧ (∀ k, k ≠ a → g' k = g k) ∧ ∀ j : Nat, j < LN → g' a j = 0 := by
  obtain ⟨g', e1, e2, e3, e4⟩ := pClearL ha hL LN 0 FU g (by omega) (by omega) (fu_lt (by omega))
  exact ⟨g', e1, e2, fun j hj => e4 j (by omega) (by omega)⟩
theorem pMulL {a : Nat} (ha : 22 ≤ a ∧ a < 27) {x : Int} (hx : rs x) : ∀ (d : Nat) (i : Int) (n : Nat) (g : HP), 9 - i = d → 0 ≤ i → d < n → R9 g a → ∃ g', LX2_multiply_2 n a x i g = some (0, g') ∧ (∀ k, k ≠ a → g' k = g k) ∧ (∀ j : Nat, ((j : Int) < i ∨ 9 ≤ j) → g' a j = g a j) ∧ ∀ j : Nat, i ≤ j → j < 9 → g' a j = g a j * x % 10007 := by
  have hl : ((lnC a : Nat) : Int) = 9 := by rw [lnW ha]; rfl
  intro d
  induction d with
  | zero =>
    intro i n g q1 q2 q3 hr
    obtain ⟨n, rfl⟩ : ∃ k, n = k + 1 := ⟨n - 1, by omega⟩
    refine ⟨g, ?_, fun _ _ => rfl, fun _ _ => rfl, fun j p1 p2 => by omega⟩
    show bX2_multiply_2 (LX2_multiply_2 n) a x i g = _
    unfold bX2_multiply_2
    rw [hl, wi_id (z := i) (by omega) (by omega), wi_id (z := 9) (by omega) (by omega), if_neg (by omega)]
  | succ d ih =>
    intro i n g q1 q2 q3 hr
    obtain ⟨n, rfl⟩ : ∃ k, n = k + 1 := ⟨n - 1, by omega⟩
    obtain ⟨g', e1, e2, e3, e4⟩ := ih (i + 1) n (hs g a i.toNat (g a i.toNat * x % 10007)) (by omega) (by omega) (by omega) (R9_hs hr (rs_mod _) a rfl)
    refine ⟨g', ?_, fun k hk => (e2 k hk).trans (hs_ne hk), fun j hj => (e3 j (by omega)).trans (hs_j (by omega)), fun j p1 p2 => ?_⟩
    · show bX2_multiply_2 (LX2_multiply_2 n) a x i g = _
      unfold bX2_multiply_2
      have b1 := rs_mul (hr i.toNat (by omega)) hx
      rw [hl, wi_id (z := i) (by omega) (by omega), wi_id (z := 9) (by omega) (by omega), if_pos (by omega), w_ld ha (by omega), w_st ha (by omega), rm_e b1.1 (by omega)]
      exact e1
    · by_cases c : (j : Int) = i
      · rw [e3 j (by omega), show j = i.toNat by omega, hs_s]
      · rw [e4 j (by omega) p2, hs_j (by omega)]

theorem pMul {a : Nat} (ha : 22 ≤ a ∧ a < 27) {x : Int} (hx : rs x) {g : HP} (hr : R9 g a) : ∃ g', fX2_multiply a x g = some (0, g') ∧ (∀ k, k ≠ a → g' k = g k) ∧ ∀ j : Nat, j < 9 → g' a j = g a j * x % 10007 := by
  obtain ⟨g', e1, e2, e3, e4⟩ := pMulL ha hx 9 0 FU g (by omega) (by omega) (by decide) hr
  exact ⟨g', e1, e2, fun j hj => e4 j (by omega) (by omega)⟩
theorem pAddTL {a : Nat} (ha : 22 ≤ a ∧ a < 27) {b : Nat} (hb : 22 ≤ b ∧ b < 27) (hab : b ≠ a) {x : Int} (hx : rs x) : ∀ (d : Nat) (i : Int) (n : Nat) (g : HP), 9 - i = d → 0 ≤ i → d < n → R9 g a → R9 g b → ∃ g', LX2_addTimes_2 n a b x i g = some (0, g') ∧ (∀ k, k ≠ a → g' k = g k) ∧ (∀ j : Nat, ((j : Int) < i ∨ 9 ≤ j) → g' a j = g a j) ∧ ∀ j : Nat, i ≤ j → j < 9 → g' a j = (g a j + g b j * x) % 10007 := by
  have hl : ((lnC a : Nat) : Int) = 9 := by rw [lnW ha]; rfl
  have hl2 : ((lnC b : Nat) : Int) = 9 := by rw [lnW hb]; rfl
  intro d
  induction d with
  | zero =>
    intro i n g q1 q2 q3 hr hq
    obtain ⟨n, rfl⟩ : ∃ k, n = k + 1 := ⟨n - 1, by omega⟩
    refine ⟨g, ?_, fun _ _ => rfl, fun _ _ => rfl, fun j p1 p2 => by omega⟩
    show bX2_addTimes_2 (LX2_addTimes_2 n) a b x i g = _
    unfold bX2_addTimes_2
    rw [hl, hl2, wi_id (z := i) (by omega) (by omega), wi_id (z := 9) (by omega) (by omega), if_neg (by omega)]
  | succ d ih =>
    intro i n g q1 q2 q3 hr hq
    obtain ⟨n, rfl⟩ : ∃ k, n = k + 1 := ⟨n - 1, by omega⟩
    obtain ⟨g', e1, e2, e3, e4⟩ := ih (i + 1) n (hs g a i.toNat ((g a i.toNat + g b i.toNat * x) % 10007)) (by omega) (by omega) (by omega) (R9_hs hr (rs_mod _) a rfl) (R9_k hq (hs_ne hab))
    refine ⟨g', ?_, fun k hk => (e2 k hk).trans (hs_ne hk), fun j hj => (e3 j (by omega)).trans (hs_j (by omega)), fun j p1 p2 => ?_⟩
    · show bX2_addTimes_2 (LX2_addTimes_2 n) a b x i g = _
      unfold bX2_addTimes_2
      have b1 := rs_mul (hq i.toNat (by omega)) hx
      have b2 := hr i.toNat (by omega)
      have b3 := b2.1; have b4 := b2.2
      rw [hl, hl2, wi_id (z := i) (by omega) (by omega), wi_id (z := 9) (by omega) (by omega), if_pos (by omega), if_pos (by omega), w_ld ha (by omega), w_ld hb (by omega), w_st ha (by omega), rm_e (by omega) (by omega)]
      exact e1
    · by_cases c : (j : Int) = i
      · rw [e3 j (by omega), show j = i.toNat by omega, hs_s]
      · rw [e4 j (by omega) p2, hs_j (by omega), hs_k hab]

theorem pAddT {a : Nat} (ha : 22 ≤ a ∧ a < 27) {b : Nat} (hb : 22 ≤ b ∧ b < 27) (hab : b ≠ a) {x : Int} (hx : rs x) {g : HP} (hr : R9 g a) (hq : R9 g b) : ∃ g', fX2_addTimes a b x g = some (0, g') ∧ (∀ k, k ≠ a → g' k = g k) ∧ ∀ j : Nat, j < 9 → g' a j = (g a j + g b j * x) % 10007 := by
  obtain ⟨g', e1, e2, e3, e4⟩ := pAddTL ha hb hab hx 9 0 FU g (by omega) (by omega) (by decide) hr hq
  exact ⟨g', e1, e2, fun j hj => e4 j (by omega) (by omega)⟩
theorem pChXL {a : Nat} (ha : 22 ≤ a ∧ a < 27) {N : Int} (hN : -1 ≤ N ∧ N ≤ 8) : ∀ (d : Nat) (i : Int) (n : Nat) (g : HP), (N + 1) - i = d → 0 ≤ i → d < n → R9 g a → ∃ g', LX2_changeByX_2 n a N i g = some (0, g') ∧ (∀ k, k ≠ a → g' k = g k) ∧ (∀ j : Nat, ((j : Int) < i ∨ (N + 1) ≤ j) → g' a j = g a j) ∧ ∀ j : Nat, i ≤ j → j < (N + 1) → g' a j = g a (j) * (N - (j : Nat)) % 10007 := by
  have e5 : ∀ i : Int, 0 ≤ i → ((i.toNat : Nat) : Int) = i := fun i h => by omega
  intro d
  induction d with
  | zero =>
    intro i n g q1 q2 q3 hr
    obtain ⟨n, rfl⟩ : ∃ k, n = k + 1 := ⟨n - 1, by omega⟩
    refine ⟨g, ?_, fun _ _ => rfl, fun _ _ => rfl, fun j p1 p2 => by omega⟩
    show bX2_changeByX_2 (LX2_changeByX_2 n) a N i g = _
    unfold bX2_changeByX_2
    rw [wi_id (z := i) (by omega) (by omega), wi_id (z := N) (by omega) (by omega), if_neg (by omega)]
  | succ d ih =>
    intro i n g q1 q2 q3 hr
    obtain ⟨n, rfl⟩ : ∃ k, n = k + 1 := ⟨n - 1, by omega⟩
    obtain ⟨g', e1, e2, e3, e4⟩ := ih (i + 1) n (hs g a i.toNat (g a (i.toNat) * (N - (i.toNat : Nat)) % 10007)) (by omega) (by omega) (by omega) (R9_hs hr (rs_mod _) a rfl)
    refine ⟨g', ?_, fun k hk => (e2 k hk).trans (hs_ne hk), fun j hj => (e3 j (by omega)).trans (hs_j (by omega)), fun j p1 p2 => ?_⟩
    · show bX2_changeByX_2 (LX2_changeByX_2 n) a N i g = _
      unfold bX2_changeByX_2
      have b1 := rs_mul (hr i.toNat (by omega)) (b := N - i) ⟨by omega, by omega⟩
      rw [wi_id (z := i) (by omega) (by omega), wi_id (z := N) (by omega) (by omega), if_pos (by omega), w_ld ha (by omega), w_st ha (by omega), rm_e b1.1 (by omega), ← e5 i q2]
      rw [e5 i q2] at e1 ⊢
      exact e1
    · by_cases c : (j : Int) = i
      · rw [e3 j (by omega), show j = i.toNat by omega, hs_s]
      · rw [e4 j (by omega) p2, hs_j (by omega)]

theorem pChX {a : Nat} (ha : 22 ≤ a ∧ a < 27) {N : Int} (hN : -1 ≤ N ∧ N ≤ 8) {g : HP} (hr : R9 g a) : ∃ g', fX2_changeByX a N g = some (0, g') ∧ (∀ k, k ≠ a → g' k = g k) ∧ (∀ j : Nat, N < j → g' a j = g a j) ∧ ∀ j : Nat, (j : Int) ≤ N → g' a j = g a j * (N - j) % 10007 := by
  obtain ⟨g', e1, e2, e3, e4⟩ := pChXL ha hN (N + 1).toNat 0 FU g (by omega) (by omega) (fu_lt (by omega)) hr
  exact ⟨g', e1, e2, fun j hj => e3 j (by omega), fun j hj => e4 j (by omega) (by omega)⟩
