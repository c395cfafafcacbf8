/-! What two forms have together: the reference's steps. -/
theorem mL1a {x3 x7 c : Int} {a b : Nat} (hab : b ≤ a) (ha : a ≤ 8) {F G : Nat → Int} (hF : fm F a) (hG : fm G b) (hc : rs c) (K : Int → Int → Int → Int → HP → Option (Int × HP)) : ∀ (d i n : Nat) (m : HP), b + 1 - i = d → i ≤ b + 1 → d < n → (∀ k, k < a - b + i → m 5 k = (F k - c * sh (a - b) G k) % 10007) → (∀ k, a - b + i ≤ k → k < 9 → m 5 k = F k) → ho m 6 G → ∃ m', LX5_common_179 K n x3 a b x7 c i m = LX5_common_235 K FU x3 a b x7 m' ∧ (∀ k, k ≠ 5 → m' k = m k) ∧ ho m' 5 (fun k => (F k - c * sh (a - b) G k) % 10007) := by
  intro d
  induction d with
  | zero =>
    intro i n m q1 q2 q3 h1 h2 h3
    obtain ⟨n, rfl⟩ : ∃ k, n = k + 1 := ⟨n - 1, by omega⟩
    refine ⟨m, ?_, fun _ _ => rfl, fun k hk => ?_⟩
    · show bX5_common_179 K (LX5_common_179 K n) x3 a b x7 c i m = _
      unfold bX5_common_179
      rw [wi_id (z := (i : Int)) (by omega) (by omega), wi_id (z := (b : Int)) (by omega) (by omega), if_neg (by omega)]
    · show m 5 k = (F k - c * sh (a - b) G k) % 10007
      by_cases y : k < a - b + i
      · exact h1 k y
      · rw [h2 k (by omega) hk, sh_hi (by omega), hG.2 (k - (a - b)) (by omega), Int.mul_zero, Int.sub_zero, rs_id (hF.1 k)]
  | succ d ih =>
    intro i n m q1 q2 q3 h1 h2 h3
    obtain ⟨n, rfl⟩ : ∃ k, n = k + 1 := ⟨n - 1, by omega⟩
    obtain ⟨m', e1, e2, e3⟩ := ih (i + 1) n (hs m 5 (a - b + i) ((F (a - b + i) - c * G i) % 10007)) (by omega) (by omega) (by omega) (fun k hk => by
      by_cases y : k = a - b + i
      · rw [y, hs_s, sh_hi (by omega), show a - b + i - (a - b) = i by omega]
      · rw [hs_j y]; exact h1 k (by omega)) (fun k hk hk' => by rw [hs_j (by omega)]; exact h2 k (by omega) hk') (fun k hk => by rw [hs_k (by decide)]; exact h3 k hk)
    refine ⟨m', ?_, fun k hk => by rw [e2 k hk, hs_ne hk], e3⟩
    have b1 := hF.1 (a - b + i); have b2 := hG.1 i
    have b3 := b1.1; have b4 := b1.2
    have b5 := rs_mul hc b2
    show bX5_common_179 K (LX5_common_179 K n) x3 a b x7 c i m = _
    unfold bX5_common_179
    rw [wi_id (z := (i : Int)) (by omega) (by omega), wi_id (z := (b : Int)) (by omega) (by omega), if_pos (by omega), m5_ld (by omega), m6_ld (by omega), show ((a : Int) - b + i).toNat = a - b + i by omega, Int.toNat_natCast, h2 (a - b + i) (by omega) (by omega), h3 i (by omega), rs_wi b1, rs_wi hc, rs_wi b2, mMod (by omega) (by omega), cl_some, m5_st (by omega), show ((a : Int) - b + i).toNat = a - b + i by omega]
    exact e1
theorem mL2a {x3 y x7 : Int} {E : Nat → Int} (hE : ∀ k, rs (E k)) (K : Int → Int → Int → Int → HP → Option (Int × HP)) : ∀ (i n : Nat) (m : HP), i ≤ 9 → i < n → ho m 5 E → ∃ a' : Int, -1 ≤ a' ∧ a' ≤ (i : Int) - 1 ∧ (0 ≤ a' → E a'.toNat ≠ 0) ∧ (∀ k : Nat, a' < k → k < i → E k = 0) ∧ LX5_common_235 K n x3 ((i : Int) - 1) y x7 m = K x3 a' y x7 m := by
  intro i
  induction i with
  | zero =>
    intro n m q1 q2 h
    obtain ⟨n, rfl⟩ : ∃ k, n = k + 1 := ⟨n - 1, by omega⟩
    refine ⟨-1, by omega, by omega, fun q => by omega, fun k a b => by omega, ?_⟩
    show bX5_common_235 K (LX5_common_235 K n) x3 (((0 : Nat) : Int) - 1) y x7 m = _
    unfold bX5_common_235
    rw [show ((0 : Nat) : Int) - 1 = -1 by omega, wi_id (z := (-1 : Int)) (by omega) (by omega), if_neg (by omega)]
  | succ i ih =>
    intro n m q1 q2 h
    obtain ⟨n, rfl⟩ : ∃ k, n = k + 1 := ⟨n - 1, by omega⟩
    have st : LX5_common_235 K (n + 1) x3 (((i + 1 : Nat) : Int) - 1) y x7 m = if E i = 0 then LX5_common_235 K n x3 ((i : Int) - 1) y x7 m else K x3 i y x7 m := by
      show bX5_common_235 K (LX5_common_235 K n) x3 (((i + 1 : Nat) : Int) - 1) y x7 m = _
      unfold bX5_common_235
      rw [show ((i + 1 : Nat) : Int) - 1 = i by omega, wi_id (z := (i : Int)) (by omega) (by omega), if_pos (by omega), m5_ld (by omega), Int.toNat_natCast, h i (by omega), rs_wi (hE i)]
      rfl
    rw [st]
    by_cases c : E i = 0
    · rw [if_pos c]
      obtain ⟨a', e1, e2, e3, e4, e5⟩ := ih n m (by omega) (by omega) h
      refine ⟨a', e1, by omega, e3, fun k a b => ?_, e5⟩
      by_cases z : k = i
      · rw [z]; exact c
      · exact e4 k a (by omega)
    · rw [if_neg c]
      exact ⟨i, by omega, by omega, fun _ => by rw [Int.toNat_natCast]; exact c, fun k a b => by omega, rfl⟩
/-- one step -/
theorem mLa {x3 x7 : Int} {a b : Nat} (hab : b ≤ a) (ha : a ≤ 8) {F G : Nat → Int} (hF : fm F a) (hG : fm G b) (hb : G b ≠ 0) (K : Int → Int → Int → Int → HP → Option (Int × HP)) {m : HP} (h1 : ho m 5 F) (h2 : ho m 6 G) : ∃ (c a' : Int) (m' : HP) (E : Nat → Int), (ld (lnM 5) (m 5) a fun v160 => ld (lnM 6) (m 6) b fun v167 => cl (fX5_turned v167 m) fun r168 h168 => cl (fX5_times v160 r168 h168) fun r171 h171 => LX5_common_179 K FU x3 a b x7 r171 0 h171) = K x3 a' b x7 m' ∧ -1 ≤ a' ∧ a' < a ∧ fm E a' ∧ (0 ≤ a' → E a'.toNat ≠ 0) ∧ (∀ k, ep (E k) (F k + c * sh (a - b) G k)) ∧ (∀ k, k ≠ 5 → m' k = m k) ∧ ho m' 5 E := by
  obtain ⟨c, hc⟩ : ∃ c, c = F a * pw (G b) % 10007 := ⟨_, rfl⟩
  have rc' : rs c := by rw [hc]; exact rs_mod _
  obtain ⟨m', e1, e2, e3⟩ := mL1a (x3 := x3) (x7 := x7) hab ha hF hG rc' K (b + 1) 0 FU m (by omega) (by omega) (fu_lt (by omega)) (fun k hk => by rw [h1 k (by omega), sh_lo (by omega), Int.mul_zero, Int.sub_zero, rs_id (hF.1 k)]) (fun k _ hk => h1 k hk) h2
  have hE : ∀ k, rs ((fun k => (F k - c * sh (a - b) G k) % 10007) k) := fun k => rs_mod _
  obtain ⟨a', f1, f2, f3, f4, f5⟩ := mL2a (x3 := x3) (y := (b : Int)) (x7 := x7) hE K (a + 1) FU m' (by omega) (fu_lt (by omega)) e3
  have z0 : (F a - c * sh (a - b) G a) % 10007 = 0 := by
    rw [sh_hi (by omega), show a - (a - b) = b by omega]
    have : ep (F a - c * G b) (F a - F a) := by
      refine ep_b (ep_r _) ?_
      rw [hc]
      refine ep_t (ep_u (ep_m _) (ep_r (G b))) ?_
      have h3 := ep_u (ep_r (F a)) (fer (hG.1 b) hb)
      rw [Int.mul_one] at h3
      rw [Int.mul_assoc, Int.mul_comm (pw (G b))]
      exact h3
    rw [Int.sub_self] at this
    exact this
  have al : a' < a := by
    by_cases y : a' < a
    · exact y
    · exfalso
      have := f3 (by omega)
      rw [show a'.toNat = a by omega] at this
      exact this z0
  refine ⟨-c, a', m', fun k => (F k - c * sh (a - b) G k) % 10007, ?_, f1, al, ⟨hE, fun k hk => ?_⟩, f3, fun k => ?_, e2, e3⟩
  · rw [show ((0 : Nat) : Int) = 0 from rfl] at e1
    rw [show ((a + 1 : Nat) : Int) - 1 = a by omega] at f5
    rw [m5_ld (by omega), m6_ld (by omega), Int.toNat_natCast, Int.toNat_natCast, h1 a (by omega), h2 b (by omega), mTurned (hG.1 b), cl_some, mTimes (hF.1 a) (pw_rs _), cl_some, ← hc, e1, f5]
  · show (F k - c * sh (a - b) G k) % 10007 = 0
    by_cases y : k < a + 1
    · exact f4 k hk y
    · rw [hF.2 k (by omega), sh_hi (by omega), hG.2 _ (by omega), Int.mul_zero]; rfl
  · refine ep_t (ep_m _) ?_
    rw [Int.neg_mul, ← Int.sub_eq_add_neg]
    exact ep_r _
theorem mL1b {x3 x7 c : Int} {a b : Nat} (hab : b ≤ a) (ha : a ≤ 8) {F G : Nat → Int} (hF : fm F a) (hG : fm G b) (hc : rs c) (K : Int → Int → Int → Int → HP → Option (Int × HP)) : ∀ (d i n : Nat) (m : HP), b + 1 - i = d → i ≤ b + 1 → d < n → (∀ k, k < a - b + i → m 6 k = (F k - c * sh (a - b) G k) % 10007) → (∀ k, a - b + i ≤ k → k < 9 → m 6 k = F k) → ho m 5 G → ∃ m', LX5_common_284 K n x3 b a x7 c i m = LX5_common_340 K FU x3 b a x7 m' ∧ (∀ k, k ≠ 6 → m' k = m k) ∧ ho m' 6 (fun k => (F k - c * sh (a - b) G k) % 10007) := by
  intro d
  induction d with
  | zero =>
    intro i n m q1 q2 q3 h1 h2 h3
    obtain ⟨n, rfl⟩ : ∃ k, n = k + 1 := ⟨n - 1, by omega⟩
    refine ⟨m, ?_, fun _ _ => rfl, fun k hk => ?_⟩
    · show bX5_common_284 K (LX5_common_284 K n) x3 b a x7 c i m = _
      unfold bX5_common_284
      rw [wi_id (z := (i : Int)) (by omega) (by omega), wi_id (z := (b : Int)) (by omega) (by omega), if_neg (by omega)]
    · show m 6 k = (F k - c * sh (a - b) G k) % 10007
      by_cases y : k < a - b + i
      · exact h1 k y
      · rw [h2 k (by omega) hk, sh_hi (by omega), hG.2 (k - (a - b)) (by omega), Int.mul_zero, Int.sub_zero, rs_id (hF.1 k)]
  | succ d ih =>
    intro i n m q1 q2 q3 h1 h2 h3
    obtain ⟨n, rfl⟩ : ∃ k, n = k + 1 := ⟨n - 1, by omega⟩
    obtain ⟨m', e1, e2, e3⟩ := ih (i + 1) n (hs m 6 (a - b + i) ((F (a - b + i) - c * G i) % 10007)) (by omega) (by omega) (by omega) (fun k hk => by
      by_cases y : k = a - b + i
      · rw [y, hs_s, sh_hi (by omega), show a - b + i - (a - b) = i by omega]
      · rw [hs_j y]; exact h1 k (by omega)) (fun k hk hk' => by rw [hs_j (by omega)]; exact h2 k (by omega) hk') (fun k hk => by rw [hs_k (by decide)]; exact h3 k hk)
    refine ⟨m', ?_, fun k hk => by rw [e2 k hk, hs_ne hk], e3⟩
    have b1 := hF.1 (a - b + i); have b2 := hG.1 i
    have b3 := b1.1; have b4 := b1.2
    have b5 := rs_mul hc b2
    show bX5_common_284 K (LX5_common_284 K n) x3 b a x7 c i m = _
    unfold bX5_common_284
    rw [wi_id (z := (i : Int)) (by omega) (by omega), wi_id (z := (b : Int)) (by omega) (by omega), if_pos (by omega), m6_ld (by omega), m5_ld (by omega), show ((a : Int) - b + i).toNat = a - b + i by omega, Int.toNat_natCast, h2 (a - b + i) (by omega) (by omega), h3 i (by omega), rs_wi b1, rs_wi hc, rs_wi b2, mMod (by omega) (by omega), cl_some, m6_st (by omega), show ((a : Int) - b + i).toNat = a - b + i by omega]
    exact e1
theorem mL2b {x3 y x7 : Int} {E : Nat → Int} (hE : ∀ k, rs (E k)) (K : Int → Int → Int → Int → HP → Option (Int × HP)) : ∀ (i n : Nat) (m : HP), i ≤ 9 → i < n → ho m 6 E → ∃ a' : Int, -1 ≤ a' ∧ a' ≤ (i : Int) - 1 ∧ (0 ≤ a' → E a'.toNat ≠ 0) ∧ (∀ k : Nat, a' < k → k < i → E k = 0) ∧ LX5_common_340 K n x3 y ((i : Int) - 1) x7 m = K x3 y a' x7 m := by
  intro i
  induction i with
  | zero =>
    intro n m q1 q2 h
    obtain ⟨n, rfl⟩ : ∃ k, n = k + 1 := ⟨n - 1, by omega⟩
    refine ⟨-1, by omega, by omega, fun q => by omega, fun k a b => by omega, ?_⟩
    show bX5_common_340 K (LX5_common_340 K n) x3 y (((0 : Nat) : Int) - 1) x7 m = _
    unfold bX5_common_340
    rw [show ((0 : Nat) : Int) - 1 = -1 by omega, wi_id (z := (-1 : Int)) (by omega) (by omega), if_neg (by omega)]
  | succ i ih =>
    intro n m q1 q2 h
    obtain ⟨n, rfl⟩ : ∃ k, n = k + 1 := ⟨n - 1, by omega⟩
    have st : LX5_common_340 K (n + 1) x3 y (((i + 1 : Nat) : Int) - 1) x7 m = if E i = 0 then LX5_common_340 K n x3 y ((i : Int) - 1) x7 m else K x3 y i x7 m := by
      show bX5_common_340 K (LX5_common_340 K n) x3 y (((i + 1 : Nat) : Int) - 1) x7 m = _
      unfold bX5_common_340
      rw [show ((i + 1 : Nat) : Int) - 1 = i by omega, wi_id (z := (i : Int)) (by omega) (by omega), if_pos (by omega), m6_ld (by omega), Int.toNat_natCast, h i (by omega), rs_wi (hE i)]
      rfl
    rw [st]
    by_cases c : E i = 0
    · rw [if_pos c]
      obtain ⟨a', e1, e2, e3, e4, e5⟩ := ih n m (by omega) (by omega) h
      refine ⟨a', e1, by omega, e3, fun k a b => ?_, e5⟩
      by_cases z : k = i
      · rw [z]; exact c
      · exact e4 k a (by omega)
    · rw [if_neg c]
      exact ⟨i, by omega, by omega, fun _ => by rw [Int.toNat_natCast]; exact c, fun k a b => by omega, rfl⟩
/-- one step -/
theorem mLb {x3 x7 : Int} {a b : Nat} (hab : b ≤ a) (ha : a ≤ 8) {F G : Nat → Int} (hF : fm F a) (hG : fm G b) (hb : G b ≠ 0) (K : Int → Int → Int → Int → HP → Option (Int × HP)) {m : HP} (h1 : ho m 6 F) (h2 : ho m 5 G) : ∃ (c a' : Int) (m' : HP) (E : Nat → Int), (ld (lnM 6) (m 6) a fun v160 => ld (lnM 5) (m 5) b fun v167 => cl (fX5_turned v167 m) fun r168 h168 => cl (fX5_times v160 r168 h168) fun r171 h171 => LX5_common_284 K FU x3 b a x7 r171 0 h171) = K x3 b a' x7 m' ∧ -1 ≤ a' ∧ a' < a ∧ fm E a' ∧ (0 ≤ a' → E a'.toNat ≠ 0) ∧ (∀ k, ep (E k) (F k + c * sh (a - b) G k)) ∧ (∀ k, k ≠ 6 → m' k = m k) ∧ ho m' 6 E := by
  obtain ⟨c, hc⟩ : ∃ c, c = F a * pw (G b) % 10007 := ⟨_, rfl⟩
  have rc' : rs c := by rw [hc]; exact rs_mod _
  obtain ⟨m', e1, e2, e3⟩ := mL1b (x3 := x3) (x7 := x7) hab ha hF hG rc' K (b + 1) 0 FU m (by omega) (by omega) (fu_lt (by omega)) (fun k hk => by rw [h1 k (by omega), sh_lo (by omega), Int.mul_zero, Int.sub_zero, rs_id (hF.1 k)]) (fun k _ hk => h1 k hk) h2
  have hE : ∀ k, rs ((fun k => (F k - c * sh (a - b) G k) % 10007) k) := fun k => rs_mod _
  obtain ⟨a', f1, f2, f3, f4, f5⟩ := mL2b (x3 := x3) (y := (b : Int)) (x7 := x7) hE K (a + 1) FU m' (by omega) (fu_lt (by omega)) e3
  have z0 : (F a - c * sh (a - b) G a) % 10007 = 0 := by
    rw [sh_hi (by omega), show a - (a - b) = b by omega]
    have : ep (F a - c * G b) (F a - F a) := by
      refine ep_b (ep_r _) ?_
      rw [hc]
      refine ep_t (ep_u (ep_m _) (ep_r (G b))) ?_
      have h3 := ep_u (ep_r (F a)) (fer (hG.1 b) hb)
      rw [Int.mul_one] at h3
      rw [Int.mul_assoc, Int.mul_comm (pw (G b))]
      exact h3
    rw [Int.sub_self] at this
    exact this
  have al : a' < a := by
    by_cases y : a' < a
    · exact y
    · exfalso
      have := f3 (by omega)
      rw [show a'.toNat = a by omega] at this
      exact this z0
  refine ⟨-c, a', m', fun k => (F k - c * sh (a - b) G k) % 10007, ?_, f1, al, ⟨hE, fun k hk => ?_⟩, f3, fun k => ?_, e2, e3⟩
  · rw [show ((0 : Nat) : Int) = 0 from rfl] at e1
    rw [show ((a + 1 : Nat) : Int) - 1 = a by omega] at f5
    rw [m6_ld (by omega), m5_ld (by omega), Int.toNat_natCast, Int.toNat_natCast, h1 a (by omega), h2 b (by omega), mTurned (hG.1 b), cl_some, mTimes (hF.1 a) (pw_rs _), cl_some, ← hc, e1, f5]
  · show (F k - c * sh (a - b) G k) % 10007 = 0
    by_cases y : k < a + 1
    · exact f4 k hk y
    · rw [hF.2 k (by omega), sh_hi (by omega), hG.2 _ (by omega), Int.mul_zero]; rfl
  · refine ep_t (ep_m _) ?_
    rw [Int.neg_mul, ← Int.sub_eq_add_neg]
    exact ep_r _
