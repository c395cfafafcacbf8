/-! Whether a form is nought; what makes one form of another. -/
theorem fnz {F : Nat → Int} : ∀ {n : Nat}, (∃ j, j ≤ n ∧ F j ≠ 0) → ∃ p, p ≤ n ∧ F p ≠ 0 ∧ ∀ j, j < p → F j = 0
  | 0, ⟨j, hj, h⟩ => ⟨0, by omega, by rw [show 0 = j by omega]; exact h, fun j hj => by omega⟩
  | n + 1, ⟨j, hj, h⟩ => by
    by_cases c : ∃ j, j ≤ n ∧ F j ≠ 0
    · obtain ⟨p, a, b⟩ := fnz c
      exact ⟨p, by omega, b⟩
    · refine ⟨n + 1, by omega, ?_, fun k hk => ?_⟩
      · by_cases d : j = n + 1
        · rw [← d]; exact h
        · exact absurd ⟨j, by omega, h⟩ c
      · by_cases d : F k = 0
        · exact d
        · exact absurd ⟨k, by omega, d⟩ c
theorem mNF0 {m : HP} {N : Int} (hN : 0 ≤ N ∧ N ≤ 8) (h6 : m 0 6 = N) : ∀ (d i n : Nat), N + 1 - i = d → d < n → LX5_isNoughtF_4 n 0 i m = some (0, m) := by
  intro d
  induction d with
  | zero =>
    intro i n q1 q3
    obtain ⟨n, rfl⟩ : ∃ k, n = k + 1 := ⟨n - 1, by omega⟩
    show bX5_isNoughtF_4 (LX5_isNoughtF_4 n) 0 i m = _
    unfold bX5_isNoughtF_4
    rw [h6, wi_id (z := (i : Int)) (by omega) (by omega), wi_id (z := N) (by omega) (by omega), if_neg (by omega), gd_t (Or.inl rfl)]
  | succ d ih =>
    intro i n q1 q3
    obtain ⟨n, rfl⟩ : ∃ k, n = k + 1 := ⟨n - 1, by omega⟩
    show bX5_isNoughtF_4 (LX5_isNoughtF_4 n) 0 i m = _
    unfold bX5_isNoughtF_4
    rw [h6, wi_id (z := (i : Int)) (by omega) (by omega), wi_id (z := N) (by omega) (by omega), if_pos (by omega), if_pos wi_0]
    exact ih (i + 1) n (by omega) (by omega)
theorem mNF1 {m : HP} {N : Int} (hN : 0 ≤ N ∧ N ≤ 8) (h6 : m 0 6 = N) (hr : R9 m 5) : ∀ (d i n : Nat), N + 1 - i = d → d < n → ((∀ j : Nat, i ≤ j → (j : Int) ≤ N → m 5 j = 0) → LX5_isNoughtF_4 n 1 i m = some (1, m)) ∧ ((∃ j : Nat, i ≤ j ∧ (j : Int) ≤ N ∧ m 5 j ≠ 0) → LX5_isNoughtF_4 n 1 i m = some (0, m)) := by
  intro d
  induction d with
  | zero =>
    intro i n q1 q3
    obtain ⟨n, rfl⟩ : ∃ k, n = k + 1 := ⟨n - 1, by omega⟩
    refine ⟨fun _ => ?_, fun ⟨j, a, b, _⟩ => by omega⟩
    show bX5_isNoughtF_4 (LX5_isNoughtF_4 n) 1 i m = _
    unfold bX5_isNoughtF_4
    rw [h6, wi_id (z := (i : Int)) (by omega) (by omega), wi_id (z := N) (by omega) (by omega), if_neg (by omega), gd_t (Or.inr rfl)]
  | succ d ih =>
    intro i n q1 q3
    obtain ⟨n, rfl⟩ : ∃ k, n = k + 1 := ⟨n - 1, by omega⟩
    obtain ⟨i1, i2⟩ := ih (i + 1) n (by omega) (by omega)
    have st : LX5_isNoughtF_4 (n + 1) 1 i m = if m 5 i = 0 then LX5_isNoughtF_4 n 1 (i + 1 : Nat) m else LX5_isNoughtF_4 n 0 (i + 1 : Nat) m := by
      show bX5_isNoughtF_4 (LX5_isNoughtF_4 n) 1 i m = _
      unfold bX5_isNoughtF_4
      rw [h6, wi_id (z := (i : Int)) (by omega) (by omega), wi_id (z := N) (by omega) (by omega), if_pos (by omega), if_neg (by decide), m5_ld (by omega), Int.toNat_natCast, rs_wi (hr i (by omega))]
      rfl
    rw [st]
    by_cases c : m 5 i = 0
    · rw [if_pos c]
      refine ⟨fun h => i1 (fun j a b => h j (by omega) b), fun ⟨j, a, b, e⟩ => i2 ⟨j, ?_, b, e⟩⟩
      by_cases z : j = i
      · rw [z] at e; exact absurd c e
      · omega
    · rw [if_neg c]
      exact ⟨fun h => absurd (h i (by omega) (by omega)) c, fun _ => mNF0 hN h6 d (i + 1) n (by omega) (by omega)⟩
theorem mNG0 {m : HP} {N : Int} (hN : 0 ≤ N ∧ N ≤ 8) (h6 : m 0 8 = N) : ∀ (d i n : Nat), N + 1 - i = d → d < n → LX5_isNoughtG_4 n 0 i m = some (0, m) := by
  intro d
  induction d with
  | zero =>
    intro i n q1 q3
    obtain ⟨n, rfl⟩ : ∃ k, n = k + 1 := ⟨n - 1, by omega⟩
    show bX5_isNoughtG_4 (LX5_isNoughtG_4 n) 0 i m = _
    unfold bX5_isNoughtG_4
    rw [h6, wi_id (z := (i : Int)) (by omega) (by omega), wi_id (z := N) (by omega) (by omega), if_neg (by omega), gd_t (Or.inl rfl)]
  | succ d ih =>
    intro i n q1 q3
    obtain ⟨n, rfl⟩ : ∃ k, n = k + 1 := ⟨n - 1, by omega⟩
    show bX5_isNoughtG_4 (LX5_isNoughtG_4 n) 0 i m = _
    unfold bX5_isNoughtG_4
    rw [h6, wi_id (z := (i : Int)) (by omega) (by omega), wi_id (z := N) (by omega) (by omega), if_pos (by omega), if_pos wi_0]
    exact ih (i + 1) n (by omega) (by omega)
theorem mNG1 {m : HP} {N : Int} (hN : 0 ≤ N ∧ N ≤ 8) (h6 : m 0 8 = N) (hr : R9 m 6) : ∀ (d i n : Nat), N + 1 - i = d → d < n → ((∀ j : Nat, i ≤ j → (j : Int) ≤ N → m 6 j = 0) → LX5_isNoughtG_4 n 1 i m = some (1, m)) ∧ ((∃ j : Nat, i ≤ j ∧ (j : Int) ≤ N ∧ m 6 j ≠ 0) → LX5_isNoughtG_4 n 1 i m = some (0, m)) := by
  intro d
  induction d with
  | zero =>
    intro i n q1 q3
    obtain ⟨n, rfl⟩ : ∃ k, n = k + 1 := ⟨n - 1, by omega⟩
    refine ⟨fun _ => ?_, fun ⟨j, a, b, _⟩ => by omega⟩
    show bX5_isNoughtG_4 (LX5_isNoughtG_4 n) 1 i m = _
    unfold bX5_isNoughtG_4
    rw [h6, wi_id (z := (i : Int)) (by omega) (by omega), wi_id (z := N) (by omega) (by omega), if_neg (by omega), gd_t (Or.inr rfl)]
  | succ d ih =>
    intro i n q1 q3
    obtain ⟨n, rfl⟩ : ∃ k, n = k + 1 := ⟨n - 1, by omega⟩
    obtain ⟨i1, i2⟩ := ih (i + 1) n (by omega) (by omega)
    have st : LX5_isNoughtG_4 (n + 1) 1 i m = if m 6 i = 0 then LX5_isNoughtG_4 n 1 (i + 1 : Nat) m else LX5_isNoughtG_4 n 0 (i + 1 : Nat) m := by
      show bX5_isNoughtG_4 (LX5_isNoughtG_4 n) 1 i m = _
      unfold bX5_isNoughtG_4
      rw [h6, wi_id (z := (i : Int)) (by omega) (by omega), wi_id (z := N) (by omega) (by omega), if_pos (by omega), if_neg (by decide), m6_ld (by omega), Int.toNat_natCast, rs_wi (hr i (by omega))]
      rfl
    rw [st]
    by_cases c : m 6 i = 0
    · rw [if_pos c]
      refine ⟨fun h => i1 (fun j a b => h j (by omega) b), fun ⟨j, a, b, e⟩ => i2 ⟨j, ?_, b, e⟩⟩
      by_cases z : j = i
      · rw [z] at e; exact absurd c e
      · omega
    · rw [if_neg c]
      exact ⟨fun h => absurd (h i (by omega) (by omega)) c, fun _ => mNG0 hN h6 d (i + 1) n (by omega) (by omega)⟩
theorem mNF {m : HP} {N : Int} (hN : 0 ≤ N ∧ N ≤ 8) (h6 : m 0 6 = N) (hr : R9 m 5) : ((∀ j : Nat, (j : Int) ≤ N → m 5 j = 0) ∧ fX5_isNoughtF m = some (1, m)) ∨ ((∃ j : Nat, (j : Int) ≤ N ∧ m 5 j ≠ 0) ∧ fX5_isNoughtF m = some (0, m)) := by
  obtain ⟨a, b⟩ := mNF1 hN h6 hr (N + 1).toNat 0 FU (by omega) (fu_lt (by omega))
  by_cases c : ∃ j : Nat, (j : Int) ≤ N ∧ m 5 j ≠ 0
  · obtain ⟨j, h1, h2⟩ := c
    exact Or.inr ⟨⟨j, h1, h2⟩, b ⟨j, by omega, h1, h2⟩⟩
  · have d : ∀ j : Nat, (j : Int) ≤ N → m 5 j = 0 := fun j h => by
      by_cases z : m 5 j = 0
      · exact z
      · exact absurd ⟨j, h, z⟩ c
    exact Or.inl ⟨d, a (fun j _ h => d j h)⟩
theorem mNG {m : HP} {N : Int} (hN : 0 ≤ N ∧ N ≤ 8) (h6 : m 0 8 = N) (hr : R9 m 6) : ((∀ j : Nat, (j : Int) ≤ N → m 6 j = 0) ∧ fX5_isNoughtG m = some (1, m)) ∨ ((∃ j : Nat, (j : Int) ≤ N ∧ m 6 j ≠ 0) ∧ fX5_isNoughtG m = some (0, m)) := by
  obtain ⟨a, b⟩ := mNG1 hN h6 hr (N + 1).toNat 0 FU (by omega) (fu_lt (by omega))
  by_cases c : ∃ j : Nat, (j : Int) ≤ N ∧ m 6 j ≠ 0
  · obtain ⟨j, h1, h2⟩ := c
    exact Or.inr ⟨⟨j, h1, h2⟩, b ⟨j, by omega, h1, h2⟩⟩
  · have d : ∀ j : Nat, (j : Int) ≤ N → m 6 j = 0 := fun j h => by
      by_cases z : m 6 j = 0
      · exact z
      · exact absurd ⟨j, h, z⟩ c
    exact Or.inl ⟨d, a (fun j _ h => d j h)⟩
-- the class's ratio
theorem pRatB {g : HP} {N f : Int} (hN : 0 ≤ N ∧ N ≤ 8) (hf : rs f) (r1 : R9 g 22) (r2 : R9 g 23) : ∀ (d i n : Nat), N + 1 - i = d → d < n → ((∀ j : Nat, i ≤ j → (j : Int) ≤ N → g 22 j * f % 10007 = g 23 j) → LX2_ratio_47 n 22 23 N f i g = some (f, g)) ∧ ((∃ j : Nat, i ≤ j ∧ (j : Int) ≤ N ∧ g 22 j * f % 10007 ≠ g 23 j) → LX2_ratio_47 n 22 23 N f i g = some (0, g)) := by
  intro d
  induction d with
  | zero =>
    intro i n q1 q3
    obtain ⟨n, rfl⟩ : ∃ k, n = k + 1 := ⟨n - 1, by omega⟩
    refine ⟨fun _ => ?_, fun ⟨j, a, b, _⟩ => by omega⟩
    show bX2_ratio_47 (LX2_ratio_47 n) 22 23 N f i g = _
    unfold bX2_ratio_47
    rw [wi_id (z := (i : Int)) (by omega) (by omega), wi_id (z := N) (by omega) (by omega), if_neg (by omega)]
  | succ d ih =>
    intro i n q1 q3
    obtain ⟨n, rfl⟩ : ∃ k, n = k + 1 := ⟨n - 1, by omega⟩
    obtain ⟨i1, i2⟩ := ih (i + 1) n (by omega) (by omega)
    have st : LX2_ratio_47 (n + 1) 22 23 N f i g = if g 22 i * f % 10007 = g 23 i then LX2_ratio_47 n 22 23 N f (i + 1 : Nat) g else some (0, g) := by
      have b1 := rs_mul (r1 i (by omega)) hf
      show bX2_ratio_47 (LX2_ratio_47 n) 22 23 N f i g = _
      unfold bX2_ratio_47
      rw [wi_id (z := (i : Int)) (by omega) (by omega), wi_id (z := N) (by omega) (by omega), if_pos (by omega), w_ld (by decide) (by omega), w_ld (by decide) (by omega), Int.toNat_natCast, rm_e b1.1 (by omega), rs_wi (rs_mod _), rs_wi (r2 i (by omega))]
      rfl
    rw [st]
    by_cases c : g 22 i * f % 10007 = g 23 i
    · rw [if_pos c]
      refine ⟨fun h => i1 (fun j a b => h j (by omega) b), fun ⟨j, a, b, e⟩ => i2 ⟨j, ?_, b, e⟩⟩
      by_cases z : j = i
      · rw [z] at e; exact absurd c e
      · omega
    · rw [if_neg c]
      exact ⟨fun h => absurd (h i (by omega) (by omega)) c, fun _ => rfl⟩
theorem mRatB {m : HP} {N f : Int} (hN : 0 ≤ N ∧ N ≤ 8) (hf : rs f) (h6 : m 0 6 = N) (r1 : R9 m 5) (r2 : R9 m 6) : ∀ (d i n : Nat), N + 1 - i = d → d < n → ((∀ j : Nat, i ≤ j → (j : Int) ≤ N → m 5 j * f % 10007 = m 6 j) → LX5_alike_121 n f i m = some (f, m)) ∧ ((∃ j : Nat, i ≤ j ∧ (j : Int) ≤ N ∧ m 5 j * f % 10007 ≠ m 6 j) → LX5_alike_121 n f i m = some (0, m)) := by
  intro d
  induction d with
  | zero =>
    intro i n q1 q3
    obtain ⟨n, rfl⟩ : ∃ k, n = k + 1 := ⟨n - 1, by omega⟩
    refine ⟨fun _ => ?_, fun ⟨j, a, b, _⟩ => by omega⟩
    show bX5_alike_121 (LX5_alike_121 n) f i m = _
    unfold bX5_alike_121
    rw [h6, wi_id (z := (i : Int)) (by omega) (by omega), wi_id (z := N) (by omega) (by omega), if_neg (by omega)]
  | succ d ih =>
    intro i n q1 q3
    obtain ⟨n, rfl⟩ : ∃ k, n = k + 1 := ⟨n - 1, by omega⟩
    obtain ⟨i1, i2⟩ := ih (i + 1) n (by omega) (by omega)
    have st : LX5_alike_121 (n + 1) f i m = if m 6 i = m 5 i * f % 10007 then LX5_alike_121 n f (i + 1 : Nat) m else some (0, m) := by
      show bX5_alike_121 (LX5_alike_121 n) f i m = _
      unfold bX5_alike_121
      rw [h6, wi_id (z := (i : Int)) (by omega) (by omega), wi_id (z := N) (by omega) (by omega), if_pos (by omega), m6_ld (by omega), m5_ld (by omega), Int.toNat_natCast, mTimes hf (r1 i (by omega)), cl_some, rs_wi (rs_mod _), rs_wi (r2 i (by omega)), Int.mul_comm f]
      rfl
    rw [st]
    by_cases c : m 6 i = m 5 i * f % 10007
    · rw [if_pos c]
      refine ⟨fun h => i1 (fun j a b => h j (by omega) b), fun ⟨j, a, b, e⟩ => i2 ⟨j, ?_, b, e⟩⟩
      by_cases z : j = i
      · rw [z] at e; exact absurd c.symm e
      · omega
    · rw [if_neg c]
      exact ⟨fun h => absurd (h i (by omega) (by omega)).symm c, fun _ => rfl⟩
theorem pRat_z {g : HP} {N : Int} (hN : 0 ≤ N ∧ N ≤ 8) (r1 : R9 g 22) (hz : ∀ j : Nat, (j : Int) ≤ N → g 22 j = 0) : ∀ (d i n : Nat), N + 1 - i = d → d < n → LX2_ratio_5 n 22 23 N 1 i g = LX2_ratio_47 FU 22 23 N 1 0 g := by
  intro d
  induction d with
  | zero =>
    intro i n q1 q3
    obtain ⟨n, rfl⟩ : ∃ k, n = k + 1 := ⟨n - 1, by omega⟩
    show bX2_ratio_5 (LX2_ratio_5 n) 22 23 N 1 i g = _
    unfold bX2_ratio_5
    rw [wi_id (z := (i : Int)) (by omega) (by omega), wi_id (z := N) (by omega) (by omega), if_neg (by omega)]
  | succ d ih =>
    intro i n q1 q3
    obtain ⟨n, rfl⟩ : ∃ k, n = k + 1 := ⟨n - 1, by omega⟩
    show bX2_ratio_5 (LX2_ratio_5 n) 22 23 N 1 i g = _
    unfold bX2_ratio_5
    rw [wi_id (z := (i : Int)) (by omega) (by omega), wi_id (z := N) (by omega) (by omega), if_pos (by omega), w_ld (by decide) (by omega), Int.toNat_natCast, hz i (by omega), if_pos wi_0]
    exact ih (i + 1) n (by omega) (by omega)
theorem pRat_p {g : HP} {N : Int} (hN : 0 ≤ N ∧ N ≤ 8) (r1 : R9 g 22) (r2 : R9 g 23) {p : Nat} (hp : (p : Int) ≤ N) (h0 : g 22 p ≠ 0) (hz : ∀ j : Nat, j < p → g 22 j = 0) : ∀ (d i n : Nat), p - i = d → i ≤ p → d < n → LX2_ratio_5 n 22 23 N 1 i g = LX2_ratio_47 FU 22 23 N (g 23 p * pw (g 22 p) % 10007) 0 g := by
  intro d
  induction d with
  | zero =>
    intro i n q1 q2 q3
    obtain ⟨n, rfl⟩ : ∃ k, n = k + 1 := ⟨n - 1, by omega⟩
    obtain rfl : i = p := by omega
    have b1 := rs_mul (r2 i (by omega)) (pw_rs (g 22 i))
    show bX2_ratio_5 (LX2_ratio_5 n) 22 23 N 1 i g = _
    unfold bX2_ratio_5
    rw [wi_id (z := (i : Int)) (by omega) (by omega), wi_id (z := N) (by omega) (by omega), if_pos (by omega), w_ld (by decide) (by omega), Int.toNat_natCast, rs_wi (r1 i (by omega)), if_neg h0, w_ld (by decide) (by omega), w_ld (by decide) (by omega), Int.toNat_natCast, pInv (r1 i (by omega)), cl_some, lt_d, rm_e b1.1 (by omega)]
  | succ d ih =>
    intro i n q1 q2 q3
    obtain ⟨n, rfl⟩ : ∃ k, n = k + 1 := ⟨n - 1, by omega⟩
    show bX2_ratio_5 (LX2_ratio_5 n) 22 23 N 1 i g = _
    unfold bX2_ratio_5
    rw [wi_id (z := (i : Int)) (by omega) (by omega), wi_id (z := N) (by omega) (by omega), if_pos (by omega), w_ld (by decide) (by omega), Int.toNat_natCast, hz i (by omega), if_pos wi_0]
    exact ih (i + 1) n (by omega) (by omega) (by omega)
theorem mRat_p {m : HP} {N : Int} (hN : 0 ≤ N ∧ N ≤ 8) (r1 : R9 m 5) (r2 : R9 m 6) {p : Nat} (hp : (p : Int) ≤ N) (h0 : m 5 p ≠ 0) (hz : ∀ j : Nat, j < p → m 5 j = 0) : ∀ (d i n : Nat), p - i = d → i ≤ p → d < n → LX5_alike_80 n i m = LX5_alike_121 FU (m 6 p * pw (m 5 p) % 10007) 0 m := by
  intro d
  induction d with
  | zero =>
    intro i n q1 q2 q3
    obtain ⟨n, rfl⟩ : ∃ k, n = k + 1 := ⟨n - 1, by omega⟩
    obtain rfl : i = p := by omega
    show bX5_alike_80 (LX5_alike_80 n) i m = _
    unfold bX5_alike_80
    rw [m5_ld (by omega), Int.toNat_natCast, rs_wi (r1 i (by omega)), if_neg h0, m6_ld (by omega), m5_ld (by omega), Int.toNat_natCast, mTurned (r1 i (by omega)), cl_some, mTimes (r2 i (by omega)) (pw_rs _), cl_some]
  | succ d ih =>
    intro i n q1 q2 q3
    obtain ⟨n, rfl⟩ : ∃ k, n = k + 1 := ⟨n - 1, by omega⟩
    show bX5_alike_80 (LX5_alike_80 n) i m = _
    unfold bX5_alike_80
    rw [m5_ld (by omega), Int.toNat_natCast, hz i (by omega), if_pos wi_0]
    exact ih (i + 1) n (by omega) (by omega) (by omega)
theorem g_alike : G_alike JJ := by
  intro g m hJ x1 x2 w1 w2
  rcases two_form hJ w1 w2 with ⟨c, e⟩ | ⟨c, d, r, g1, m1, r0, e, f, hJ1⟩ | ⟨c, d, hw, hw', hf, hf', e, m1, f1, f2, f3, f4, f5, f6, f7⟩
  · refine ⟨-2, -2, g, m, ?_, ?_, rfl, hJ⟩
    · unfold fX4_alike
      rw [e, cl_some, if_neg (by decide)]
    · unfold fX5_alike
      by_cases c1 : 0 ≤ x1 ∧ x1 < 10
      · rw [mIS_ok c1.1 c1.2, cl_some, if_neg (by decide), mIS_bad w2 (by omega), cl_some, if_pos wi_0]
      · rw [mIS_bad w1 c1, cl_some, if_pos wi_0]
  · refine ⟨r, r, g1, m1, ?_, ?_, rfl, hJ1⟩
    · unfold fX4_alike
      rw [e, cl_some, if_neg r0]
    · unfold fX5_alike
      rw [mIS_ok c.1 c.2, cl_some, if_neg (by decide), mIS_ok d.1 d.2, cl_some, if_neg (by decide), f, cl_some, if_neg r0]
  · have s1 : x1.toNat < 10 := by omega
    have s2 : x2.toNat < 10 := by omega
    obtain ⟨g1, a1, a2, a3⟩ := pLoad c (a := 22) (by decide) hw
    have hc1 : sameC g g1 := sC_o (a := 22) (by decide) a2
    obtain ⟨g2, b1, b2, b3⟩ := pLoad d (a := 23) (by decide) (WS_same s2 hw' hc1)
    have hc2 : sameC g g2 := sC_t hc1 (sC_o (a := 23) (by decide) b2)
    rw [sz_same s2 hc1] at b1
    have v22 : ∀ j : Nat, j < 9 → g2 22 j = nb g x1.toNat j := fun j hj => by rw [b2 22 (by decide), a3 j hj]
    have v23 : ∀ j : Nat, j < 9 → g2 23 j = nb g x2.toNat j := fun j hj => by rw [b3 j hj, nb_same s2 hc1]
    have R22 : R9 g2 22 := fun j hj => by rw [v22 j hj]; exact nb_rs _ _ _
    have R23 : R9 g2 23 := fun j hj => by rw [v23 j hj]; exact nb_rs _ _ _
    have R5 : R9 m1 5 := fun j hj => by rw [f6 j hj]; exact nb_rs _ _ _
    have R6 : R9 m1 6 := fun j hj => by rw [f7 j hj]; exact nb_rs _ _ _
    have u5 : ∀ j : Nat, j < 9 → m1 5 j = g2 22 j := fun j hj => by rw [f6 j hj, v22 j hj]
    have u6 : ∀ j : Nat, j < 9 → m1 6 j = g2 23 j := fun j hj => by rw [f7 j hj, v23 j hj]
    generalize hM : g (2 + x1.toNat) 2 - 1 = M at a1 f4
    generalize hN : g (2 + x2.toNat) 2 - 1 = N at b1 f5
    have zM : 0 ≤ M ∧ M ≤ 8 := by omega
    have zN : 0 ≤ N ∧ N ≤ 8 := by omega
    have wM : wi M = M := wi_id (by omega) (by omega)
    have wN : wi N = N := wi_id (by omega) (by omega)
    have hm1 : sameM m m1 := sM_2 f2 f3
    have hcl : fX4_alike x1 x2 g = if M = N then (cl (fX2_ratio 22 23 N g2) fun r52 h52 => some (r52, h52)) else some (0, g2) := by
      unfold fX4_alike
      rw [e, cl_some, if_pos wi_0, a1, cl_some, b1, cl_some, wM, wN]
    have hml : fX5_alike x1 x2 m = if M = N then (cl (fX5_isNoughtF m1) fun r44 h44 => if wi r44 = 0 then (cl (fX5_isNoughtG h44) fun r51 h51 => if wi r51 = 0 then (LX5_alike_80 FU 0 h51) else (jX5_alike_57 h51)) else (jX5_alike_57 h44)) else some (0, m1) := by
      unfold fX5_alike
      rw [mIS_ok c.1 c.2, cl_some, if_neg (by decide), mIS_ok d.1 d.2, cl_some, if_neg (by decide), f1, cl_some, if_pos wi_0, f4, f5, wM, wN]
    by_cases y : M = N
    · have hJ2 := JJ_same hJ hc2 hm1
      rw [if_pos y] at hcl hml
      suffices h : ∃ r, fX2_ratio 22 23 N g2 = some (r, g2) ∧ fX5_alike x1 x2 m = some (r, m1) by
        obtain ⟨r, h1, h2⟩ := h
        exact ⟨r, r, g2, m1, by rw [hcl, h1, cl_some], h2, rfl, hJ2⟩
      rw [hml]
      have f4' : m1 0 6 = N := by rw [f4, y]
      unfold fX2_ratio jX5_alike_57
      rcases mNF zN f4' R5 with ⟨hF, eF⟩ | ⟨hF, eF⟩
      · have hz : ∀ j : Nat, (j : Int) ≤ N → g2 22 j = 0 := fun j hj => by rw [← u5 j (by omega)]; exact hF j hj
        have z1 := pRat_z zN R22 hz (N + 1).toNat 0 FU (by omega) (fu_lt (by omega))
        rw [show ((0 : Nat) : Int) = 0 from rfl] at z1
        obtain ⟨k1, k2⟩ := pRatB zN (f := 1) ⟨by decide, by decide⟩ R22 R23 (N + 1).toNat 0 FU (by omega) (fu_lt (by omega))
        rw [show ((0 : Nat) : Int) = 0 from rfl] at k1 k2
        rw [z1, eF, cl_some, if_neg (by decide), eF, cl_some, if_neg (by decide)]
        rcases mNG zN f5 R6 with ⟨hG, eG⟩ | ⟨hG, eG⟩
        · refine ⟨1, k1 (fun j _ hj => ?_), ?_⟩
          · rw [hz j hj, ← u6 j (by omega), hG j hj]; rfl
          · rw [eG, cl_some, if_neg (by decide)]
        · obtain ⟨j, hj, h0⟩ := hG
          refine ⟨0, k2 ⟨j, by omega, hj, ?_⟩, ?_⟩
          · rw [hz j hj, ← u6 j (by omega)]; exact fun q => h0 q.symm
          · rw [eG, cl_some, if_pos wi_0]
      · obtain ⟨j, hj, h0⟩ := hF
        obtain ⟨p, p1, p2, p3⟩ := fnz (F := m1 5) (n := N.toNat) ⟨j, by omega, h0⟩
        have z1 := pRat_p zN R22 R23 (p := p) (by omega) (by rw [← u5 p (by omega)]; exact p2) (fun j hj => by rw [← u5 j (by omega)]; exact p3 j hj) p 0 FU (by omega) (by omega) (fu_lt (by omega))
        have z2 := mRat_p zN R5 R6 (p := p) (by omega) p2 p3 p 0 FU (by omega) (by omega) (fu_lt (by omega))
        rw [show ((0 : Nat) : Int) = 0 from rfl] at z1 z2
        have eb : m1 6 p * pw (m1 5 p) % 10007 = g2 23 p * pw (g2 22 p) % 10007 := by rw [u5 p (by omega), u6 p (by omega)]
        rw [eb] at z2
        obtain ⟨k1, k2⟩ := pRatB zN (rs_mod (g2 23 p * pw (g2 22 p))) R22 R23 (N + 1).toNat 0 FU (by omega) (fu_lt (by omega))
        obtain ⟨l1, l2⟩ := mRatB zN (rs_mod (g2 23 p * pw (g2 22 p))) f4' R5 R6 (N + 1).toNat 0 FU (by omega) (fu_lt (by omega))
        rw [show ((0 : Nat) : Int) = 0 from rfl] at k1 k2 l1 l2
        rw [z1, eF, cl_some, if_pos wi_0]
        rcases mNG zN f5 R6 with ⟨hG, eG⟩ | ⟨hG, eG⟩
        · have e0 : g2 23 p * pw (g2 22 p) % 10007 = 0 := by rw [← u6 p (by omega), hG p (by omega), Int.zero_mul]; rfl
          refine ⟨0, ?_, ?_⟩
          · rw [k1 (fun j _ hj => by rw [e0, Int.mul_zero, ← u6 j (by omega), hG j hj]; rfl), e0]
          · rw [eG, cl_some, if_neg (by decide), eF, cl_some, if_pos wi_0]
        · rw [eG, cl_some, if_pos wi_0, z2]
          by_cases q : ∃ j : Nat, 0 ≤ j ∧ (j : Int) ≤ N ∧ g2 22 j * (g2 23 p * pw (g2 22 p) % 10007) % 10007 ≠ g2 23 j
          · refine ⟨0, k2 q, l2 ?_⟩
            obtain ⟨j, j1, j2, j3⟩ := q
            exact ⟨j, j1, j2, by rw [u5 j (by omega), u6 j (by omega)]; exact j3⟩
          · have q2 : ∀ j : Nat, 0 ≤ j → (j : Int) ≤ N → g2 22 j * (g2 23 p * pw (g2 22 p) % 10007) % 10007 = g2 23 j := fun j j1 j2 => by
              by_cases z : g2 22 j * (g2 23 p * pw (g2 22 p) % 10007) % 10007 = g2 23 j
              · exact z
              · exact absurd ⟨j, j1, j2, z⟩ q
            exact ⟨_, k1 q2, l1 (fun j j1 j2 => by rw [u5 j (by omega), u6 j (by omega)]; exact q2 j j1 j2)⟩
    · refine ⟨0, 0, g2, m1, by rw [hcl, if_neg y], by rw [hml, if_neg y], rfl, JJ_same hJ hc2 hm1⟩
