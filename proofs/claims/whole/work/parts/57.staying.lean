/-- one more size of parts: of each number of parts and each sum -/
def stp (F : Nat → Nat → Int) (v : Nat) : Nat → Nat → Int
  | 0 => F 0
  | p + 1 => fun s => F (p + 1) s + if v ≤ s then stp F v p (s - v) else 0
def wy (B : Nat → Nat → Int) : Nat → Nat → Nat → Int
  | 0 => B
  | v + 1 => stp (wy B v) (v + 1)
def bC : Nat → Nat → Int := fun _ s => if s = 0 then 1 else 0
def bM : Nat → Nat → Int := fun p s => if p = 0 ∧ s = 0 then 1 else 0
def sm (f : Nat → Int) : Nat → Int
  | 0 => 0
  | n + 1 => sm f n + f n
theorem sm_add (f g : Nat → Int) : ∀ n, sm (fun i => f i + g i) n = sm f n + sm g n
  | 0 => rfl
  | n + 1 => by
    show sm (fun i => f i + g i) n + (f n + g n) = sm f n + f n + (sm g n + g n)
    rw [sm_add f g n]; omega
theorem sm_cg {f g : Nat → Int} : ∀ {n : Nat}, (∀ i, i < n → f i = g i) → sm f n = sm g n
  | 0, _ => rfl
  | n + 1, h => by
    show sm f n + f n = sm g n + g n
    rw [sm_cg (fun i hi => h i (by omega)), h n (by omega)]
theorem sm_0 (n : Nat) : sm (fun _ => 0) n = 0 := by
  induction n with
  | zero => rfl
  | succ n ih => show sm (fun _ => 0) n + 0 = 0; rw [ih]; rfl
theorem sm_head (f : Nat → Int) : ∀ n, sm f (n + 1) = f 0 + sm (fun i => f (i + 1)) n
  | 0 => by show 0 + f 0 = f 0 + 0; omega
  | n + 1 => by
    show sm f (n + 1) + f (n + 1) = f 0 + (sm (fun i => f (i + 1)) n + f (n + 1))
    rw [sm_head f n]; omega
/-- rows that begin with 1 count the sums of at most so many parts -/
theorem wy_sum : ∀ (v p s : Nat), wy bC v p s = sm (fun q => wy bM v q s) (p + 1)
  | 0, p, s => by
    rw [sm_head]
    show (if s = 0 then 1 else 0) = (if (0 : Nat) = 0 ∧ s = 0 then 1 else 0) + sm (fun i => if i + 1 = 0 ∧ s = 0 then 1 else 0) p
    have : sm (fun i => if i + 1 = 0 ∧ s = 0 then (1 : Int) else 0) p = 0 := by
      rw [sm_cg (g := fun _ => 0) (fun i _ => if_neg (by omega)), sm_0]
    rw [this]
    by_cases c : s = 0
    · rw [if_pos c, if_pos ⟨rfl, c⟩]; rfl
    · rw [if_neg c, if_neg (fun q => c q.2)]; rfl
  | v + 1, p, s => by
    have ih := wy_sum v
    have key : ∀ p s, stp (wy bC v) (v + 1) p s = sm (fun q => stp (wy bM v) (v + 1) q s) (p + 1) := by
      intro p
      induction p with
      | zero =>
        intro s
        show wy bC v 0 s = sm (fun q => stp (wy bM v) (v + 1) q s) 0 + wy bM v 0 s
        rw [ih 0 s]; rfl
      | succ p ihp =>
        intro s
        rw [sm_head]
        show wy bC v (p + 1) s + (if v + 1 ≤ s then stp (wy bC v) (v + 1) p (s - (v + 1)) else 0) = wy bM v 0 s + sm (fun i => wy bM v (i + 1) s + if v + 1 ≤ s then stp (wy bM v) (v + 1) i (s - (v + 1)) else 0) (p + 1)
        rw [sm_add, ih (p + 1) s, sm_head]
        by_cases c : v + 1 ≤ s
        · simp only [if_pos c]
          rw [ihp (s - (v + 1))]; omega
        · simp only [if_neg c]
          rw [sm_0]; omega
    exact key p s
theorem pW3 {x1 x2 x3 : Int} (hW : 0 ≤ x3 ∧ x3 ≤ 32) {v p : Nat} (hv : 1 ≤ v ∧ v ≤ 8) (hp : 1 ≤ p ∧ p ≤ 8) (K : Int → Int → Int → Int → Int → HP → Option (Int × HP)) : ∀ (dd : Nat) (i : Int) (n : Nat) (g : HP), x3 + 1 - i ≤ dd → (v : Int) ≤ i ∧ i ≤ 100 → dd < n → ∃ g', LX4_countWays_75 K n x1 x2 x3 v p i g = K x1 x2 x3 v (p + 1) g' ∧ (∀ k, k ≠ 29 → g' k = g k) ∧ (∀ j : Nat, ((j : Int) < 33 * p + i ∨ 33 * p + x3 < j) → g' 29 j = g 29 j) ∧ ∀ s : Nat, i ≤ s → s ≤ x3 → g' 29 (33 * p + s) = g 29 (33 * p + s) + g 29 (33 * (p - 1) + (s - v)) := by
  have l9 : lnC 29 = 297 := rfl
  intro dd
  induction dd with
  | zero =>
    intro i n g q1 q2 q3
    obtain ⟨n, rfl⟩ : ∃ k, n = k + 1 := ⟨n - 1, by omega⟩
    refine ⟨g, ?_, fun _ _ => rfl, fun _ _ => rfl, fun j p1 p2 => by omega⟩
    show bX4_countWays_75 K (LX4_countWays_75 K n) x1 x2 x3 v p i g = _
    unfold bX4_countWays_75
    rw [wi_id (z := i) (by omega) (by omega), wi_id (z := x3) (by omega) (by omega), if_neg (by omega)]
  | succ dd ih =>
    intro i n g q1 q2 q3
    obtain ⟨n, rfl⟩ : ∃ k, n = k + 1 := ⟨n - 1, by omega⟩
    by_cases c : i ≤ x3
    · have i1 : ((p : Int) * 33 + i).toNat = 33 * p + i.toNat := by omega
      have i2 : (((p : Int) - 1) * 33 + i - v).toNat = 33 * (p - 1) + (i.toNat - v) := by omega
      obtain ⟨g', e1, e2, e3, e4⟩ := ih (i + 1) n (hs g 29 (33 * p + i.toNat) (g 29 (33 * p + i.toNat) + g 29 (33 * (p - 1) + (i.toNat - v)))) (by omega) (by omega) (by omega)
      refine ⟨g', ?_, fun k hk => (e2 k hk).trans (hs_ne hk), fun j hj => (e3 j (by omega)).trans (hs_j (by omega)), fun s p1 p2 => ?_⟩
      · show bX4_countWays_75 K (LX4_countWays_75 K n) x1 x2 x3 v p i g = _
        unfold bX4_countWays_75
        rw [wi_id (z := i) (by omega) (by omega), wi_id (z := x3) (by omega) (by omega), if_pos c, ld_t (by omega) (by rw [l9]; omega) (by rw [l9]; omega), ld_t (by omega) (by rw [l9]; omega) (by rw [l9]; omega), sto_t (by omega) (by rw [l9]; omega) (by rw [l9]; omega), i1, i2]
        exact e1
      · by_cases cs : (s : Int) = i
        · have es : s = i.toNat := by omega
          rw [e3 _ (by omega), es, hs_s]
        · rw [e4 s (by omega) p2, hs_j (by omega), hs_j (by omega)]
    · refine ⟨g, ?_, fun _ _ => rfl, fun _ _ => rfl, fun j p1 p2 => by omega⟩
      show bX4_countWays_75 K (LX4_countWays_75 K n) x1 x2 x3 v p i g = _
      unfold bX4_countWays_75
      rw [wi_id (z := i) (by omega) (by omega), wi_id (z := x3) (by omega) (by omega), if_neg c]
theorem pW2 {x1 x2 x3 : Int} (hW : 0 ≤ x3 ∧ x3 ≤ 32) (hd : 0 ≤ x2 ∧ x2 ≤ 8) {v : Nat} (hv : 1 ≤ v ∧ v ≤ 8) (K : Int → Int → Int → Int → HP → Option (Int × HP)) (F : Nat → Nat → Int) : ∀ (dd : Nat) (p n : Nat) (g : HP), x2 + 1 - p = dd → 1 ≤ p → dd < n → (∀ q s : Nat, (q : Int) ≤ x2 → (s : Int) ≤ x3 → g 29 (33 * q + s) = if q < p then stp F v q s else F q s) → ∃ g', LX4_countWays_65 K n x1 x2 x3 v p g = K x1 x2 x3 (v + 1) g' ∧ (∀ k, k ≠ 29 → g' k = g k) ∧ ∀ q s : Nat, (q : Int) ≤ x2 → (s : Int) ≤ x3 → g' 29 (33 * q + s) = stp F v q s := by
  intro dd
  induction dd with
  | zero =>
    intro p n g q1 q2 q3 hg
    obtain ⟨n, rfl⟩ : ∃ k, n = k + 1 := ⟨n - 1, by omega⟩
    refine ⟨g, ?_, fun _ _ => rfl, fun q s h1 h2 => by rw [hg q s h1 h2, if_pos (by omega)]⟩
    show bX4_countWays_65 K (LX4_countWays_65 K n) x1 x2 x3 v p g = _
    unfold bX4_countWays_65
    rw [wi_id (z := (p : Int)) (by omega) (by omega), wi_id (z := x2) (by omega) (by omega), if_neg (by omega)]
  | succ dd ih =>
    intro p n g q1 q2 q3 hg
    obtain ⟨n, rfl⟩ : ∃ k, n = k + 1 := ⟨n - 1, by omega⟩
    obtain ⟨g1, f1, f2, f3, f4⟩ := pW3 (x1 := x1) (x2 := x2) (x3 := x3) hW hv (p := p) (by omega) (LX4_countWays_65 K n) 33 v FU g (by omega) (by omega) (by decide)
    obtain ⟨g', e1, e2, e3⟩ := ih (p + 1) n g1 (by omega) (by omega) (by omega) (fun q s h1 h2 => by
      by_cases c : q = p
      · subst c
        rw [if_pos (by omega)]
        obtain ⟨q, rfl⟩ : ∃ k, q = k + 1 := ⟨q - 1, by omega⟩
        show _ = F (q + 1) s + if v ≤ s then stp F v q (s - v) else 0
        by_cases cs : v ≤ s
        · rw [f4 s (by omega) h2, if_pos cs, hg (q + 1) s h1 h2, if_neg (by omega), show q + 1 - 1 = q from rfl, hg q (s - v) (by omega) (by omega), if_pos (by omega)]
        · rw [f3 _ (by omega), if_neg cs, hg (q + 1) s h1 h2, if_neg (by omega), Int.add_zero]
      · rw [f3 _ (by omega), hg q s h1 h2]
        by_cases c2 : q < p
        · rw [if_pos c2, if_pos (by omega)]
        · rw [if_neg c2, if_neg (by omega)])
    refine ⟨g', ?_, fun k hk => (e2 k hk).trans (f2 k hk), e3⟩
    show bX4_countWays_65 K (LX4_countWays_65 K n) x1 x2 x3 v p g = _
    unfold bX4_countWays_65
    rw [wi_id (z := (p : Int)) (by omega) (by omega), wi_id (z := x2) (by omega) (by omega), if_pos (by omega), f1]
    exact e1
theorem pW1 {x1 x2 x3 : Int} (hW : 0 ≤ x3 ∧ x3 ≤ 32) (hd : 0 ≤ x2 ∧ x2 ≤ 8) (hn : 1 ≤ x1 ∧ x1 ≤ 8) (B : Nat → Nat → Int) : ∀ (dd : Nat) (v n : Nat) (g : HP), x1 + 1 - v = dd → 1 ≤ v → dd < n → (∀ q s : Nat, (q : Int) ≤ x2 → (s : Int) ≤ x3 → g 29 (33 * q + s) = wy B (v - 1) q s) → ∃ g', LX4_countWays_56 n x1 x2 x3 v g = some (0, g') ∧ (∀ k, k ≠ 29 → g' k = g k) ∧ ∀ q s : Nat, (q : Int) ≤ x2 → (s : Int) ≤ x3 → g' 29 (33 * q + s) = wy B x1.toNat q s := by
  intro dd
  induction dd with
  | zero =>
    intro v n g q1 q2 q3 hg
    obtain ⟨n, rfl⟩ : ∃ k, n = k + 1 := ⟨n - 1, by omega⟩
    refine ⟨g, ?_, fun _ _ => rfl, fun q s h1 h2 => by rw [hg q s h1 h2, show v - 1 = x1.toNat by omega]⟩
    show bX4_countWays_56 (LX4_countWays_56 n) x1 x2 x3 v g = _
    unfold bX4_countWays_56
    rw [wi_id (z := (v : Int)) (by omega) (by omega), wi_id (z := x1) (by omega) (by omega), if_neg (by omega)]
  | succ dd ih =>
    intro v n g q1 q2 q3 hg
    obtain ⟨n, rfl⟩ : ∃ k, n = k + 1 := ⟨n - 1, by omega⟩
    obtain ⟨g1, f1, f2, f3⟩ := pW2 (x1 := x1) (x2 := x2) (x3 := x3) hW hd (v := v) (by omega) (LX4_countWays_56 n) (wy B (v - 1)) x2.toNat 1 FU g (by omega) (by omega) (fu_lt (by omega)) (fun q s h1 h2 => by
      rw [hg q s h1 h2]
      by_cases c : q < 1
      · have : q = 0 := by omega
        subst this
        rw [if_pos c]; rfl
      · rw [if_neg c])
    obtain ⟨g', e1, e2, e3⟩ := ih (v + 1) n g1 (by omega) (by omega) (by omega) (fun q s h1 h2 => by
      rw [f3 q s h1 h2]
      obtain ⟨w, rfl⟩ : ∃ k, v = k + 1 := ⟨v - 1, by omega⟩
      rfl)
    refine ⟨g', ?_, fun k hk => (e2 k hk).trans (f2 k hk), e3⟩
    show bX4_countWays_56 (LX4_countWays_56 n) x1 x2 x3 v g = _
    unfold bX4_countWays_56
    rw [wi_id (z := (v : Int)) (by omega) (by omega), wi_id (z := x1) (by omega) (by omega), if_pos (by omega)]
    rw [show ((1 : Nat) : Int) = 1 from rfl] at f1
    rw [f1]
    exact e1
theorem mW3 {x1 x2 x3 : Int} (hW : 0 ≤ x1 ∧ x1 ≤ 32) {v p : Nat} (hv : 1 ≤ v ∧ v ≤ 8) (hp : 1 ≤ p ∧ p ≤ 8) (K : Int → Int → Int → Int → Int → HP → Option (Int × HP)) : ∀ (dd : Nat) (i : Int) (n : Nat) (g : HP), x1 + 1 - i ≤ dd → (v : Int) ≤ i ∧ i ≤ 100 → dd < n → ∃ g', LX5_waysOf_62 K n x1 x2 x3 v p i g = K x1 x2 x3 v (p + 1) g' ∧ (∀ k, k ≠ 12 → g' k = g k) ∧ (∀ j : Nat, ((j : Int) < 33 * p + i ∨ 33 * p + x1 < j) → g' 12 j = g 12 j) ∧ ∀ s : Nat, i ≤ s → s ≤ x1 → g' 12 (33 * p + s) = g 12 (33 * p + s) + g 12 (33 * (p - 1) + (s - v)) := by
  have l9 : lnM 12 = 297 := rfl
  intro dd
  induction dd with
  | zero =>
    intro i n g q1 q2 q3
    obtain ⟨n, rfl⟩ : ∃ k, n = k + 1 := ⟨n - 1, by omega⟩
    refine ⟨g, ?_, fun _ _ => rfl, fun _ _ => rfl, fun j p1 p2 => by omega⟩
    show bX5_waysOf_62 K (LX5_waysOf_62 K n) x1 x2 x3 v p i g = _
    unfold bX5_waysOf_62
    rw [wi_id (z := i) (by omega) (by omega), wi_id (z := x1) (by omega) (by omega), if_neg (by omega)]
  | succ dd ih =>
    intro i n g q1 q2 q3
    obtain ⟨n, rfl⟩ : ∃ k, n = k + 1 := ⟨n - 1, by omega⟩
    by_cases c : i ≤ x1
    · have i1 : (33 * (p : Int) + i).toNat = 33 * p + i.toNat := by omega
      have i2 : (33 * ((p : Int) - 1) + i - v).toNat = 33 * (p - 1) + (i.toNat - v) := by omega
      obtain ⟨g', e1, e2, e3, e4⟩ := ih (i + 1) n (hs g 12 (33 * p + i.toNat) (g 12 (33 * p + i.toNat) + g 12 (33 * (p - 1) + (i.toNat - v)))) (by omega) (by omega) (by omega)
      refine ⟨g', ?_, fun k hk => (e2 k hk).trans (hs_ne hk), fun j hj => (e3 j (by omega)).trans (hs_j (by omega)), fun s p1 p2 => ?_⟩
      · show bX5_waysOf_62 K (LX5_waysOf_62 K n) x1 x2 x3 v p i g = _
        unfold bX5_waysOf_62
        rw [wi_id (z := i) (by omega) (by omega), wi_id (z := x1) (by omega) (by omega), if_pos c, ld_t (by omega) (by rw [l9]; omega) (by rw [l9]; omega), ld_t (by omega) (by rw [l9]; omega) (by rw [l9]; omega), sto_t (by omega) (by rw [l9]; omega) (by rw [l9]; omega), i1, i2]
        exact e1
      · by_cases cs : (s : Int) = i
        · have es : s = i.toNat := by omega
          rw [e3 _ (by omega), es, hs_s]
        · rw [e4 s (by omega) p2, hs_j (by omega), hs_j (by omega)]
    · refine ⟨g, ?_, fun _ _ => rfl, fun _ _ => rfl, fun j p1 p2 => by omega⟩
      show bX5_waysOf_62 K (LX5_waysOf_62 K n) x1 x2 x3 v p i g = _
      unfold bX5_waysOf_62
      rw [wi_id (z := i) (by omega) (by omega), wi_id (z := x1) (by omega) (by omega), if_neg c]
theorem mW2 {x1 x2 x3 : Int} (hW : 0 ≤ x1 ∧ x1 ≤ 32) (hd : 0 ≤ x3 ∧ x3 ≤ 8) {v : Nat} (hv : 1 ≤ v ∧ v ≤ 8) (K : Int → Int → Int → Int → HP → Option (Int × HP)) (F : Nat → Nat → Int) : ∀ (dd : Nat) (p n : Nat) (g : HP), x3 + 1 - p = dd → 1 ≤ p → dd < n → (∀ q s : Nat, (q : Int) ≤ x3 → (s : Int) ≤ x1 → g 12 (33 * q + s) = if q < p then stp F v q s else F q s) → ∃ g', LX5_waysOf_52 K n x1 x2 x3 v p g = K x1 x2 x3 (v + 1) g' ∧ (∀ k, k ≠ 12 → g' k = g k) ∧ ∀ q s : Nat, (q : Int) ≤ x3 → (s : Int) ≤ x1 → g' 12 (33 * q + s) = stp F v q s := by
  intro dd
  induction dd with
  | zero =>
    intro p n g q1 q2 q3 hg
    obtain ⟨n, rfl⟩ : ∃ k, n = k + 1 := ⟨n - 1, by omega⟩
    refine ⟨g, ?_, fun _ _ => rfl, fun q s h1 h2 => by rw [hg q s h1 h2, if_pos (by omega)]⟩
    show bX5_waysOf_52 K (LX5_waysOf_52 K n) x1 x2 x3 v p g = _
    unfold bX5_waysOf_52
    rw [wi_id (z := (p : Int)) (by omega) (by omega), wi_id (z := x3) (by omega) (by omega), if_neg (by omega)]
  | succ dd ih =>
    intro p n g q1 q2 q3 hg
    obtain ⟨n, rfl⟩ : ∃ k, n = k + 1 := ⟨n - 1, by omega⟩
    obtain ⟨g1, f1, f2, f3, f4⟩ := mW3 (x1 := x1) (x2 := x2) (x3 := x3) hW hv (p := p) (by omega) (LX5_waysOf_52 K n) 33 v FU g (by omega) (by omega) (by decide)
    obtain ⟨g', e1, e2, e3⟩ := ih (p + 1) n g1 (by omega) (by omega) (by omega) (fun q s h1 h2 => by
      by_cases c : q = p
      · subst c
        rw [if_pos (by omega)]
        obtain ⟨q, rfl⟩ : ∃ k, q = k + 1 := ⟨q - 1, by omega⟩
        show _ = F (q + 1) s + if v ≤ s then stp F v q (s - v) else 0
        by_cases cs : v ≤ s
        · rw [f4 s (by omega) h2, if_pos cs, hg (q + 1) s h1 h2, if_neg (by omega), show q + 1 - 1 = q from rfl, hg q (s - v) (by omega) (by omega), if_pos (by omega)]
        · rw [f3 _ (by omega), if_neg cs, hg (q + 1) s h1 h2, if_neg (by omega), Int.add_zero]
      · rw [f3 _ (by omega), hg q s h1 h2]
        by_cases c2 : q < p
        · rw [if_pos c2, if_pos (by omega)]
        · rw [if_neg c2, if_neg (by omega)])
    refine ⟨g', ?_, fun k hk => (e2 k hk).trans (f2 k hk), e3⟩
    show bX5_waysOf_52 K (LX5_waysOf_52 K n) x1 x2 x3 v p g = _
    unfold bX5_waysOf_52
    rw [wi_id (z := (p : Int)) (by omega) (by omega), wi_id (z := x3) (by omega) (by omega), if_pos (by omega), f1]
    exact e1
theorem mW1 {x1 x2 x3 : Int} (hW : 0 ≤ x1 ∧ x1 ≤ 32) (hd : 0 ≤ x3 ∧ x3 ≤ 8) (hn : 1 ≤ x2 ∧ x2 ≤ 8) (B : Nat → Nat → Int) : ∀ (dd : Nat) (v n : Nat) (g : HP), x2 + 1 - v = dd → 1 ≤ v → dd < n → (∀ q s : Nat, (q : Int) ≤ x3 → (s : Int) ≤ x1 → g 12 (33 * q + s) = wy B (v - 1) q s) → ∃ g', LX5_waysOf_43 n x1 x2 x3 v g = LX5_waysOf_126 FU x1 x3 0 0 g' ∧ (∀ k, k ≠ 12 → g' k = g k) ∧ ∀ q s : Nat, (q : Int) ≤ x3 → (s : Int) ≤ x1 → g' 12 (33 * q + s) = wy B x2.toNat q s := by
  intro dd
  induction dd with
  | zero =>
    intro v n g q1 q2 q3 hg
    obtain ⟨n, rfl⟩ : ∃ k, n = k + 1 := ⟨n - 1, by omega⟩
    refine ⟨g, ?_, fun _ _ => rfl, fun q s h1 h2 => by rw [hg q s h1 h2, show v - 1 = x2.toNat by omega]⟩
    show bX5_waysOf_43 (LX5_waysOf_43 n) x1 x2 x3 v g = _
    unfold bX5_waysOf_43
    rw [wi_id (z := (v : Int)) (by omega) (by omega), wi_id (z := x2) (by omega) (by omega), if_neg (by omega)]
  | succ dd ih =>
    intro v n g q1 q2 q3 hg
    obtain ⟨n, rfl⟩ : ∃ k, n = k + 1 := ⟨n - 1, by omega⟩
    obtain ⟨g1, f1, f2, f3⟩ := mW2 (x1 := x1) (x2 := x2) (x3 := x3) hW hd (v := v) (by omega) (LX5_waysOf_43 n) (wy B (v - 1)) x3.toNat 1 FU g (by omega) (by omega) (fu_lt (by omega)) (fun q s h1 h2 => by
      rw [hg q s h1 h2]
      by_cases c : q < 1
      · have : q = 0 := by omega
        subst this
        rw [if_pos c]; rfl
      · rw [if_neg c])
    obtain ⟨g', e1, e2, e3⟩ := ih (v + 1) n g1 (by omega) (by omega) (by omega) (fun q s h1 h2 => by
      rw [f3 q s h1 h2]
      obtain ⟨w, rfl⟩ : ∃ k, v = k + 1 := ⟨v - 1, by omega⟩
      rfl)
    refine ⟨g', ?_, fun k hk => (e2 k hk).trans (f2 k hk), e3⟩
    show bX5_waysOf_43 (LX5_waysOf_43 n) x1 x2 x3 v g = _
    unfold bX5_waysOf_43
    rw [wi_id (z := (v : Int)) (by omega) (by omega), wi_id (z := x2) (by omega) (by omega), if_pos (by omega)]
    rw [show ((1 : Nat) : Int) = 1 from rfl] at f1
    rw [f1]
    exact e1
theorem pWi {x1 x2 x3 : Int} (hW : 0 ≤ x3 ∧ x3 ≤ 32) (K : Int → Int → Int → Int → HP → Option (Int × HP)) {p : Nat} (hp : p ≤ 8) : ∀ (dd : Nat) (i : Int) (n : Nat) (g : HP), x3 + 1 - i = dd → 0 ≤ i → dd < n → ∃ g', LX4_countWays_12 K n x1 x2 x3 p i g = K x1 x2 x3 (p + 1) g' ∧ (∀ k, k ≠ 29 → g' k = g k) ∧ (∀ j : Nat, ((j : Int) < 33 * p + i ∨ 33 * p + x3 < j) → g' 29 j = g 29 j) ∧ ∀ s : Nat, i ≤ s → s ≤ x3 → g' 29 (33 * p + s) = bC p s := by
  have l9 : lnC 29 = 297 := rfl
  intro dd
  induction dd with
  | zero =>
    intro i n g q1 q2 q3
    obtain ⟨n, rfl⟩ : ∃ k, n = k + 1 := ⟨n - 1, by omega⟩
    refine ⟨g, ?_, fun _ _ => rfl, fun _ _ => rfl, fun j p1 p2 => by omega⟩
    show bX4_countWays_12 K (LX4_countWays_12 K n) x1 x2 x3 p i g = _
    unfold bX4_countWays_12
    rw [wi_id (z := i) (by omega) (by omega), wi_id (z := x3) (by omega) (by omega), if_neg (by omega)]
  | succ dd ih =>
    intro i n g q1 q2 q3
    obtain ⟨n, rfl⟩ : ∃ k, n = k + 1 := ⟨n - 1, by omega⟩
    have i1 : ((p : Int) * 33 + i).toNat = 33 * p + i.toNat := by omega
    obtain ⟨g', e1, e2, e3, e4⟩ := ih (i + 1) n (hs g 29 (33 * p + i.toNat) (bC p i.toNat)) (by omega) (by omega) (by omega)
    refine ⟨g', ?_, fun k hk => (e2 k hk).trans (hs_ne hk), fun j hj => (e3 j (by omega)).trans (hs_j (by omega)), fun s p1 p2 => ?_⟩
    · show bX4_countWays_12 K (LX4_countWays_12 K n) x1 x2 x3 p i g = _
      unfold bX4_countWays_12
      rw [wi_id (z := i) (by omega) (by omega), wi_id (z := x3) (by omega) (by omega), if_pos (by omega), sto_t (by omega) (by rw [l9]; omega) (by rw [l9]; omega), sto_t (by omega) (by rw [l9]; omega) (by rw [l9]; omega), i1]
      by_cases z : i = 0
      · rw [if_pos z]
        have : bC p i.toNat = 1 := by unfold bC; rw [if_pos (by omega)]
        rw [this] at e1
        exact e1
      · rw [if_neg z]
        have : bC p i.toNat = 0 := by unfold bC; rw [if_neg (by omega)]
        rw [this] at e1
        exact e1
    · by_cases cs : (s : Int) = i
      · have es : s = i.toNat := by omega
        rw [e3 _ (by omega), es, hs_s]
      · exact e4 s (by omega) p2
theorem pWo {x1 x2 x3 : Int} (hW : 0 ≤ x3 ∧ x3 ≤ 32) (hd : 0 ≤ x2 ∧ x2 ≤ 8) : ∀ (dd : Nat) (p n : Nat) (g : HP), x2 + 1 - p = dd → dd < n → (∀ q s : Nat, q < p → (s : Int) ≤ x3 → g 29 (33 * q + s) = bC q s) → ∃ g', LX4_countWays_3 n x1 x2 x3 p g = LX4_countWays_56 FU x1 x2 x3 1 g' ∧ (∀ k, k ≠ 29 → g' k = g k) ∧ ∀ q s : Nat, (q : Int) ≤ x2 → (s : Int) ≤ x3 → g' 29 (33 * q + s) = bC q s := by
  intro dd
  induction dd with
  | zero =>
    intro p n g q1 q3 hg
    obtain ⟨n, rfl⟩ : ∃ k, n = k + 1 := ⟨n - 1, by omega⟩
    refine ⟨g, ?_, fun _ _ => rfl, fun q s h1 h2 => hg q s (by omega) h2⟩
    show bX4_countWays_3 (LX4_countWays_3 n) x1 x2 x3 p g = _
    unfold bX4_countWays_3
    rw [wi_id (z := (p : Int)) (by omega) (by omega), wi_id (z := x2) (by omega) (by omega), if_neg (by omega)]
  | succ dd ih =>
    intro p n g q1 q3 hg
    obtain ⟨n, rfl⟩ : ∃ k, n = k + 1 := ⟨n - 1, by omega⟩
    obtain ⟨g1, f1, f2, f3, f4⟩ := pWi (x1 := x1) (x2 := x2) hW (LX4_countWays_3 n) (p := p) (by omega) (x3.toNat + 1) 0 FU g (by omega) (by omega) (fu_lt (by omega))
    obtain ⟨g', e1, e2, e3⟩ := ih (p + 1) n g1 (by omega) (by omega) (fun q s h1 h2 => by
      by_cases c : q = p
      · subst c
        exact f4 s (by omega) h2
      · rw [f3 _ (by omega), hg q s (by omega) h2])
    refine ⟨g', ?_, fun k hk => (e2 k hk).trans (f2 k hk), e3⟩
    show bX4_countWays_3 (LX4_countWays_3 n) x1 x2 x3 p g = _
    unfold bX4_countWays_3
    rw [wi_id (z := (p : Int)) (by omega) (by omega), wi_id (z := x2) (by omega) (by omega), if_pos (by omega), f1]
    exact e1
theorem pWays {n d w : Int} (hn : 1 ≤ n ∧ n ≤ 8) (hd : 0 ≤ d ∧ d ≤ 8) (hw : 0 ≤ w ∧ w ≤ 32) (g : HP) : ∃ g', fX4_countWays n d w g = some (0, g') ∧ (∀ k, k ≠ 29 → g' k = g k) ∧ ∀ q s : Nat, (q : Int) ≤ d → (s : Int) ≤ w → g' 29 (33 * q + s) = wy bC n.toNat q s := by
  obtain ⟨g1, e1, e2, e3⟩ := pWo (x1 := n) hw hd (d.toNat + 1) 0 FU g (by omega) (fu_lt (by omega)) (fun q s h1 => by omega)
  obtain ⟨g2, f1, f2, f3⟩ := pW1 (x1 := n) hw hd hn bC n.toNat 1 FU g1 (by omega) (by omega) (fu_lt (by omega)) e3
  refine ⟨g2, ?_, fun k hk => (f2 k hk).trans (e2 k hk), f3⟩
  unfold fX4_countWays
  rw [show ((0 : Nat) : Int) = 0 from rfl] at e1
  rw [show ((1 : Nat) : Int) = 1 from rfl] at f1
  rw [e1, f1]
theorem mWi {x1 x2 x3 : Int} : ∀ (dd : Nat) (i : Int) (n : Nat) (g : HP), 297 - i = dd → 0 ≤ i → dd < n → ∃ g', LX5_waysOf_9 n x1 x2 x3 i g = LX5_waysOf_43 FU x1 x2 x3 1 g' ∧ (∀ k, k ≠ 12 → g' k = g k) ∧ (∀ j : Nat, (j : Int) < i → g' 12 j = g 12 j) ∧ ∀ s : Nat, i ≤ s → s < 297 → g' 12 s = if s = 0 then 1 else 0 := by
  have l9 : lnM 12 = 297 := rfl
  intro dd
  induction dd with
  | zero =>
    intro i n g q1 q2 q3
    obtain ⟨n, rfl⟩ : ∃ k, n = k + 1 := ⟨n - 1, by omega⟩
    refine ⟨g, ?_, fun _ _ => rfl, fun _ _ => rfl, fun j p1 p2 => by omega⟩
    show bX5_waysOf_9 (LX5_waysOf_9 n) x1 x2 x3 i g = _
    unfold bX5_waysOf_9
    rw [wi_id (z := i) (by omega) (by omega), wi_id (z := 297) (by decide) (by decide), if_neg (by omega)]
  | succ dd ih =>
    intro i n g q1 q2 q3
    obtain ⟨n, rfl⟩ : ∃ k, n = k + 1 := ⟨n - 1, by omega⟩
    obtain ⟨g', e1, e2, e3, e4⟩ := ih (i + 1) n (hs g 12 i.toNat (if i = 0 then 1 else 0)) (by omega) (by omega) (by omega)
    refine ⟨g', ?_, fun k hk => (e2 k hk).trans (hs_ne hk), fun j hj => (e3 j (by omega)).trans (hs_j (by omega)), fun s p1 p2 => ?_⟩
    · show bX5_waysOf_9 (LX5_waysOf_9 n) x1 x2 x3 i g = _
      unfold bX5_waysOf_9
      rw [wi_id (z := i) (by omega) (by omega), wi_id (z := 297) (by decide) (by decide), if_pos (by omega), sto_t (by omega) (by rw [l9]; omega) (by rw [l9]; omega), sto_t (by omega) (by rw [l9]; omega) (by rw [l9]; omega)]
      by_cases z : i = 0
      · rw [if_pos z] at e1 ⊢
        exact e1
      · rw [if_neg z] at e1 ⊢
        exact e1
    · by_cases cs : (s : Int) = i
      · have es : s = i.toNat := by omega
        rw [e3 _ (by omega), es, hs_s]
        by_cases z : i = 0
        · rw [if_pos z, if_pos (by omega)]
        · rw [if_neg z, if_neg (by omega)]
      · exact e4 s (by omega) p2
theorem mWs {x1 x3 : Int} (hW : 0 ≤ x1 ∧ x1 ≤ 32) (hd : 0 ≤ x3 ∧ x3 ≤ 8) (g : HP) : ∀ (dd : Nat) (p n : Nat), x3 + 1 - p = dd → dd < n → LX5_waysOf_126 n x1 x3 (sm (fun q => g 12 (33 * q + x1.toNat)) p) p g = some (sm (fun q => g 12 (33 * q + x1.toNat)) (x3.toNat + 1), g) := by
  have l9 : lnM 12 = 297 := rfl
  intro dd
  induction dd with
  | zero =>
    intro p n q1 q3
    obtain ⟨n, rfl⟩ : ∃ k, n = k + 1 := ⟨n - 1, by omega⟩
    show bX5_waysOf_126 (LX5_waysOf_126 n) x1 x3 _ p g = _
    unfold bX5_waysOf_126
    rw [wi_id (z := (p : Int)) (by omega) (by omega), wi_id (z := x3) (by omega) (by omega), if_neg (by omega), show p = x3.toNat + 1 by omega]
  | succ dd ih =>
    intro p n q1 q3
    obtain ⟨n, rfl⟩ : ∃ k, n = k + 1 := ⟨n - 1, by omega⟩
    show bX5_waysOf_126 (LX5_waysOf_126 n) x1 x3 _ p g = _
    unfold bX5_waysOf_126
    rw [wi_id (z := (p : Int)) (by omega) (by omega), wi_id (z := x3) (by omega) (by omega), if_pos (by omega), ld_t (by omega) (by rw [l9]; omega) (by rw [l9]; omega), lt_d, show (33 * (p : Int) + x1).toNat = 33 * p + x1.toNat by omega]
    exact ih (p + 1) n (by omega) (by omega)
theorem mWays {n d w : Int} (hn : 1 ≤ n ∧ n ≤ 8) (hd : 0 ≤ d ∧ d ≤ 8) (hw : 0 ≤ w ∧ w ≤ 32) (g : HP) : ∃ g', fX5_waysOf w n d g = some (wy bC n.toNat d.toNat w.toNat, g') ∧ ∀ k, k ≠ 12 → g' k = g k := by
  obtain ⟨g1, e1, e2, e3, e4⟩ := mWi (x1 := w) (x2 := n) (x3 := d) 297 0 FU g (by omega) (by omega) (by decide)
  obtain ⟨g2, f1, f2, f3⟩ := mW1 (x1 := w) (x2 := n) (x3 := d) hw hd hn bM n.toNat 1 FU g1 (by omega) (by omega) (fu_lt (by omega)) (fun q s h1 h2 => by
    rw [e4 _ (by omega) (by omega)]
    show _ = if q = 0 ∧ s = 0 then 1 else 0
    by_cases c : q = 0 ∧ s = 0
    · rw [if_pos c, if_pos (by omega)]
    · rw [if_neg c, if_neg (by omega)])
  have f4 := mWs hw hd g2 (d.toNat + 1) 0 FU (by omega) (fu_lt (by omega))
  refine ⟨g2, ?_, fun k hk => (f2 k hk).trans (e2 k hk)⟩
  unfold fX5_waysOf
  rw [show ((1 : Nat) : Int) = 1 from rfl] at f1
  have f5 : LX5_waysOf_126 FU w d 0 0 g2 = some (sm (fun q => g2 12 (33 * q + w.toNat)) (d.toNat + 1), g2) := f4
  rw [wi_id (z := w) (by omega) (by omega), if_neg (by omega), e1, f1, f5, wy_sum]
  rw [sm_cg (f := fun q => g2 12 (33 * q + w.toNat)) (fun q hq => f3 q w.toNat (by omega) (by omega))]
theorem g_staying : G_staying JJ := by
  intro g m hJ x1 x2 x3 w1 w2 w3
  have r1 := wi_rng w1; have r2 := wi_rng w2; have r3 := wi_rng w3
  have k8 : wi 8 = 8 := rfl
  by_cases c1 : 1 ≤ x1 ∧ x1 ≤ 8
  · by_cases c2 : 0 ≤ x2 ∧ x2 ≤ 8
    · have pr : 0 ≤ x1 * x2 ∧ x1 * x2 ≤ 64 := by
        have h1 : x1 * x2 ≤ 8 * 8 := Int.mul_le_mul c1.2 c2.2 c2.1 (by decide)
        exact ⟨Int.mul_nonneg (by omega) c2.1, by omega⟩
      generalize hq : x1 * x2 = q at pr
      have wq : wi q = q := wi_id (by omega) (by omega)
      by_cases c3 : 0 ≤ x3 ∧ x3 ≤ q
      · have wd : wi (q - x3) = q - x3 := wi_id (by omega) (by omega)
        have t1 : Int.tmod (q - x3) 2 = (q - x3) % 2 := Int.tmod_eq_emod_of_nonneg (by omega)
        have t2 : Int.tdiv (q - x3) 2 = (q - x3) / 2 := Int.tdiv_eq_ediv_of_nonneg (by omega)
        have e0 : fX4_staying x1 x2 x3 g = if (q - x3) % 2 = 0 then (cl (fX4_countWays x1 x2 ((q - x3) / 2) g) fun _ h62 => ld (lnC 29) (h62 29) ((x2 * 33) + (q - x3) / 2) fun v76 => if (q - x3) / 2 = 0 then (some (v76, h62)) else (ld (lnC 29) (h62 29) (((x2 * 33) + (q - x3) / 2) - 1) fun v104 => some (v76 - v104, h62))) else some (0, g) := by
          unfold fX4_staying
          rw [hq, w1, w2, w3, wq, wi_1, k8, if_pos c1.1, if_pos c1.2, if_pos c2.1, if_pos c2.2, if_pos c3.1, if_neg (by omega), lt_d, wd, wi_id (z := 2) (by decide) (by decide), t1, t2, wi_id (z := (q - x3) % 2) (by omega) (by omega)]
          by_cases z : (q - x3) % 2 = 0
          · rw [if_pos z, if_pos z, lt_d, wi_id (z := (q - x3) / 2) (by omega) (by omega)]
          · rw [if_neg z, if_neg z]
        have e9 : fX5_staying x1 x2 x3 m = if (q - x3) % 2 = 0 then (cl (fX5_waysOf ((q - x3) / 2) x1 x2 m) fun r66 h66 => cl (fX5_waysOf ((q - x3) / 2 - 1) x1 x2 h66) fun r76 h76 => some (r66 - r76, h76)) else some (0, m) := by
          unfold fX5_staying
          rw [mIn_y w1 rfl rfl c1.1 c1.2, cl_some, if_neg (by decide), mIn_y w2 rfl rfl c2.1 c2.2, cl_some, if_neg (by decide), hq, wq, mIn_y w3 rfl wq c3.1 c3.2, cl_some, if_neg (by decide), wd, wi_id (z := 2) (by decide) (by decide), t1, t2, wi_id (z := (q - x3) % 2) (by omega) (by omega)]
          by_cases z : (q - x3) % 2 = 0
          · rw [if_pos z, if_pos z, lt_d]
          · rw [if_neg z, if_neg z]
        by_cases z : (q - x3) % 2 = 0
        · generalize hw : (q - x3) / 2 = w at e0 e9
          have hw2 : 0 ≤ w ∧ w ≤ 32 := by omega
          have l9 : lnC 29 = 297 := rfl
          obtain ⟨g1, a1, a2, a3⟩ := pWays c1 c2 hw2 g
          obtain ⟨m1, b1, b2⟩ := mWays c1 c2 hw2 m
          rw [if_pos z, a1, cl_some, ld_t (by omega) (by rw [l9]; omega) (by rw [l9]; omega)] at e0
          rw [if_pos z, b1, cl_some] at e9
          have v1 : g1 29 (x2 * 33 + w).toNat = wy bC x1.toNat x2.toNat w.toNat := by
            rw [show (x2 * 33 + w).toNat = 33 * x2.toNat + w.toNat by omega]
            exact a3 _ _ (by omega) (by omega)
          by_cases y : w = 0
          · rw [if_pos y, v1] at e0
            have : fX5_waysOf (w - 1) x1 x2 m1 = some (0, m1) := by
              unfold fX5_waysOf
              rw [wi_id (z := w - 1) (by omega) (by omega), if_pos (by omega)]
            rw [this, cl_some, Int.sub_zero] at e9
            exact ⟨_, _, g1, m1, e0, e9, rfl, JJ_same hJ (sC_o (a := 29) (by decide) a2) ⟨by rw [b2 0 (by decide)], b2 1 (by decide), b2 2 (by decide), b2 3 (by decide)⟩⟩
          · obtain ⟨m2, d1, d2⟩ := mWays (w := w - 1) c1 c2 (by omega) m1
            have v2 : g1 29 (x2 * 33 + w - 1).toNat = wy bC x1.toNat x2.toNat (w - 1).toNat := by
              rw [show (x2 * 33 + w - 1).toNat = 33 * x2.toNat + (w - 1).toNat by omega]
              exact a3 _ _ (by omega) (by omega)
            rw [if_neg y, ld_t (by omega) (by rw [l9]; omega) (by rw [l9]; omega), v1, v2] at e0
            rw [d1, cl_some] at e9
            exact ⟨_, _, g1, m2, e0, e9, rfl, JJ_same hJ (sC_o (a := 29) (by decide) a2) ⟨by rw [d2 0 (by decide), b2 0 (by decide)], (d2 1 (by decide)).trans (b2 1 (by decide)), (d2 2 (by decide)).trans (b2 2 (by decide)), (d2 3 (by decide)).trans (b2 3 (by decide))⟩⟩
        · rw [if_neg z] at e0 e9
          exact ⟨0, 0, g, m, e0, e9, rfl, hJ⟩
      · refine ⟨-2, -2, g, m, ?_, ?_, rfl, hJ⟩
        · unfold fX4_staying
          rw [hq, w1, w2, w3, wq, wi_1, k8, if_pos c1.1, if_pos c1.2, if_pos c2.1, if_pos c2.2]
          by_cases z : 0 ≤ x3
          · rw [if_pos z, if_pos (by omega)]
          · rw [if_neg z]
        · unfold fX5_staying
          rw [mIn_y w1 rfl rfl c1.1 c1.2, cl_some, if_neg (by decide), mIn_y w2 rfl rfl c2.1 c2.2, cl_some, if_neg (by decide), hq, wq, mIn_n w3 rfl wq c3, cl_some, if_pos wi_0]
    · refine ⟨-2, -2, g, m, ?_, ?_, rfl, hJ⟩
      · unfold fX4_staying
        rw [w1, w2, wi_1, k8, if_pos c1.1, if_pos c1.2]
        by_cases z : 0 ≤ x2
        · rw [if_pos z, if_neg (by omega)]
        · rw [if_neg z]
      · unfold fX5_staying
        rw [mIn_y w1 rfl rfl c1.1 c1.2, cl_some, if_neg (by decide), mIn_n w2 rfl rfl c2, cl_some, if_pos wi_0]
  · refine ⟨-2, -2, g, m, ?_, ?_, rfl, hJ⟩
    · unfold fX4_staying
      rw [w1, wi_1, k8]
      by_cases z : 1 ≤ x1
      · rw [if_pos z, if_neg (by omega)]
      · rw [if_neg z]
    · unfold fX5_staying
      rw [mIn_n w1 rfl rfl c1, cl_some, if_pos wi_0]
