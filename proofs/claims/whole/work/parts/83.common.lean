/-! What two forms have together: the class. -/
theorem pSt2 {a : Nat} (ha : 22 ≤ a ∧ a < 27) {D : Int} (hD : -1 ≤ D ∧ D ≤ 8) {z : Nat} (hz : (z : Int) ≤ D + 1) {F : Nat → Int} (hF : fm F D) : ∀ (d i n : Nat) (g : HP), 9 - i = d → i ≤ 9 → d < n → (∀ k, k < i → g a k = F (k + z)) → (∀ k, i ≤ k → k < 9 → g a k = F k) → ∃ g', LX2_strip_21 n a D z i g = some (D - z, g') ∧ (∀ k, k ≠ a → g' k = g k) ∧ ∀ k, k < 9 → g' a k = F (k + z) := by
  have hl : ((lnC a : Nat) : Int) = 9 := by rw [lnW ha]; rfl
  intro d
  induction d with
  | zero =>
    intro i n g q1 q2 q3 h1 h2
    obtain ⟨n, rfl⟩ : ∃ k, n = k + 1 := ⟨n - 1, by omega⟩
    refine ⟨g, ?_, fun _ _ => rfl, fun k hk => h1 k (by omega)⟩
    show bX2_strip_21 (LX2_strip_21 n) a D z i g = _
    unfold bX2_strip_21
    rw [hl, wi_id (z := (i : Int)) (by omega) (by omega), wi_id (z := 9) (by omega) (by omega), if_neg (by omega)]
  | succ d ih =>
    intro i n g q1 q2 q3 h1 h2
    obtain ⟨n, rfl⟩ : ∃ k, n = k + 1 := ⟨n - 1, by omega⟩
    obtain ⟨g', e1, e2, e3⟩ := ih (i + 1) n (hs g a i (F (i + z))) (by omega) (by omega) (by omega) (fun k hk => by
      by_cases c : k = i
      · rw [c, hs_s]
      · rw [hs_j c]; exact h1 k (by omega)) (fun k hk hk' => by rw [hs_j (by omega)]; exact h2 k (by omega) hk')
    refine ⟨g', ?_, fun k hk => by rw [e2 k hk, hs_ne hk], e3⟩
    show bX2_strip_21 (LX2_strip_21 n) a D z i g = _
    unfold bX2_strip_21
    rw [hl, wi_id (z := (i : Int)) (by omega) (by omega), wi_id (z := 9) (by omega) (by omega), if_pos (show (i : Int) < 9 by omega), wi_id (z := (i : Int) + z) (by omega) (by omega), wi_id (z := D) (by omega) (by omega)]
    by_cases c : (i : Int) + z ≤ D
    · rw [if_pos c, w_ld ha (by omega), w_st ha (by omega), show ((i : Int) + z).toNat = i + z by omega, Int.toNat_natCast, h2 (i + z) (by omega) (by omega)]
      exact e1
    · rw [if_neg c, w_st ha (by omega), Int.toNat_natCast]
      rw [hF.2 (i + z) (by omega)] at e1
      exact e1
theorem pSt1 {a : Nat} (ha : 22 ≤ a ∧ a < 27) {D : Int} (hD : -1 ≤ D ∧ D ≤ 8) {F : Nat → Int} (hF : fm F D) : ∀ (d i n : Nat) (g : HP), D + 1 - i = d → d < n → (∀ k, k < i → F k = 0) → ho g a F → ∃ (z : Nat) (g' : HP), LX2_strip_2 n a D i g = some (D - z, g') ∧ (z : Int) ≤ D + 1 ∧ (∀ k, k < z → F k = 0) ∧ ((z : Int) ≤ D → F z ≠ 0) ∧ (∀ k, k ≠ a → g' k = g k) ∧ ∀ k, k < 9 → g' a k = F (k + z) := by
  intro d
  induction d with
  | zero =>
    intro i n g q1 q3 h1 h2
    obtain ⟨n, rfl⟩ : ∃ k, n = k + 1 := ⟨n - 1, by omega⟩
    obtain ⟨g', e1, e2, e3⟩ := pSt2 ha hD (z := i) (by omega) hF 9 0 FU g (by omega) (by omega) (by decide) (fun k hk => by omega) (fun k _ hk => h2 k hk)
    refine ⟨i, g', ?_, by omega, h1, fun q => by omega, e2, e3⟩
    rw [show ((0 : Nat) : Int) = 0 from rfl] at e1
    show bX2_strip_2 (LX2_strip_2 n) a D i g = _
    unfold bX2_strip_2
    rw [wi_id (z := (i : Int)) (by omega) (by omega), wi_id (z := D) (by omega) (by omega), if_neg (by omega)]
    exact e1
  | succ d ih =>
    intro i n g q1 q3 h1 h2
    obtain ⟨n, rfl⟩ : ∃ k, n = k + 1 := ⟨n - 1, by omega⟩
    have st : LX2_strip_2 (n + 1) a D i g = if F i = 0 then LX2_strip_2 n a D (i + 1 : Nat) g else LX2_strip_21 FU a D i 0 g := by
      show bX2_strip_2 (LX2_strip_2 n) a D i g = _
      unfold bX2_strip_2
      rw [wi_id (z := (i : Int)) (by omega) (by omega), wi_id (z := D) (by omega) (by omega), if_pos (by omega), w_ld ha (by omega), Int.toNat_natCast, h2 i (by omega), rs_wi (hF.1 i)]
      rfl
    rw [st]
    by_cases c : F i = 0
    · rw [if_pos c]
      exact ih (i + 1) n g (by omega) (by omega) (fun k hk => by
        by_cases y : k = i
        · rw [y]; exact c
        · exact h1 k (by omega)) h2
    · rw [if_neg c]
      obtain ⟨g', e1, e2, e3⟩ := pSt2 ha hD (z := i) (by omega) hF 9 0 FU g (by omega) (by omega) (by decide) (fun k hk => by omega) (fun k _ hk => h2 k hk)
      rw [show ((0 : Nat) : Int) = 0 from rfl] at e1
      exact ⟨i, g', e1, by omega, h1, fun _ => c, e2, e3⟩
theorem pSt {a : Nat} (ha : 22 ≤ a ∧ a < 27) {D : Int} (hD : -1 ≤ D ∧ D ≤ 8) {F : Nat → Int} (hF : fm F D) {g : HP} (hg : ho g a F) : ∃ (z : Nat) (g' : HP) (E : Nat → Int), fX2_strip a D g = some (D - z, g') ∧ (z : Int) ≤ D + 1 ∧ (∀ k, F k = sh z E k) ∧ ((z : Int) ≤ D → E 0 ≠ 0) ∧ fm E (D - z) ∧ (∀ k, k ≠ a → g' k = g k) ∧ ho g' a E := by
  obtain ⟨z, g', e1, e2, e3, e4, e5, e6⟩ := pSt1 ha hD hF (D + 1).toNat 0 FU g (by omega) (fu_lt (by omega)) (fun k hk => by omega) hg
  refine ⟨z, g', fun k => F (k + z), e1, e2, fun k => ?_, fun q => ?_, ⟨fun k => hF.1 _, fun k hk => hF.2 _ (by omega)⟩, e5, e6⟩
  · unfold sh
    by_cases c : k < z
    · rw [if_pos c]; exact e3 k c
    · rw [if_neg c]
      show F k = F (k - z + z)
      rw [show k - z + z = k by omega]
  · show F (0 + z) ≠ 0
    rw [Nat.zero_add]; exact e4 q
theorem pLo1 {a b : Nat} (ha : 22 ≤ a ∧ a < 27) (hb : 22 ≤ b ∧ b < 27) (hab : b ≠ a) {m n : Int} (hn : 0 ≤ n) (hm : n ≤ m) (h8 : m ≤ 8) {F G : Nat → Int} (hF : fm F m) (hG : fm G n) {c : Int} (hc : 0 ≤ c ∧ c ≤ 10007) : ∀ (d i w : Nat) (g : HP), n + 1 - i = d → d < w → (∀ k, k < i → g a k = (F k + c * G k) % 10007) → (∀ k, i ≤ k → k < 9 → g a k = F k) → ho g b G → ∃ g', LX2_lower_23 w a m b n c i g = (cl (fX2_strip a m g') fun r57 h57 => some (r57, h57)) ∧ (∀ k, k ≠ a → g' k = g k) ∧ ho g' a (fun k => (F k + c * G k) % 10007) := by
  intro d
  induction d with
  | zero =>
    intro i w g q1 q3 h1 h2 h3
    obtain ⟨w, rfl⟩ : ∃ k, w = k + 1 := ⟨w - 1, by omega⟩
    refine ⟨g, ?_, fun _ _ => rfl, fun k hk => ?_⟩
    · show bX2_lower_23 (LX2_lower_23 w) a m b n c i g = _
      unfold bX2_lower_23
      rw [wi_id (z := (i : Int)) (by omega) (by omega), wi_id (z := n) (by omega) (by omega), if_neg (by omega)]
    · show g a k = (F k + c * G k) % 10007
      by_cases y : k < i
      · exact h1 k y
      · rw [h2 k (by omega) hk, hG.2 k (by omega), Int.mul_zero, Int.add_zero, rs_id (hF.1 k)]
  | succ d ih =>
    intro i w g q1 q3 h1 h2 h3
    obtain ⟨w, rfl⟩ : ∃ k, w = k + 1 := ⟨w - 1, by omega⟩
    obtain ⟨g', e1, e2, e3⟩ := ih (i + 1) w (hs g a i ((F i + c * G i) % 10007)) (by omega) (by omega) (fun k hk => by
      by_cases y : k = i
      · rw [y, hs_s]
      · rw [hs_j y]; exact h1 k (by omega)) (fun k hk hk' => by rw [hs_j (by omega)]; exact h2 k (by omega) hk') (fun k hk => by rw [hs_k hab]; exact h3 k hk)
    refine ⟨g', ?_, fun k hk => by rw [e2 k hk, hs_ne hk], e3⟩
    have b1 := hF.1 i; have b2 := hG.1 i
    have b3 := b1.1; have b4 := b1.2
    have b5 : 0 ≤ c * G i := Int.mul_nonneg hc.1 b2.1
    have b6 : c * G i ≤ 10007 * 10007 := Int.mul_le_mul hc.2 (by have := b2.2; omega) b2.1 (by decide)
    show bX2_lower_23 (LX2_lower_23 w) a m b n c i g = _
    unfold bX2_lower_23
    rw [wi_id (z := (i : Int)) (by omega) (by omega), wi_id (z := n) (by omega) (by omega), if_pos (by omega), w_ld ha (by omega), w_ld hb (by omega), w_st ha (by omega), Int.toNat_natCast, h2 i (by omega) (by omega), h3 i (by omega), rm_e (a := F i + c * G i) (by omega) (by omega)]
    exact e1
theorem pLo {a b : Nat} (ha : 22 ≤ a ∧ a < 27) (hb : 22 ≤ b ∧ b < 27) (hab : b ≠ a) {m n : Int} (hn : 0 ≤ n) (hm : n ≤ m) (h8 : m ≤ 8) {F G : Nat → Int} (hF : fm F m) (hG : fm G n) (h0 : G 0 ≠ 0) {g : HP} (hf : ho g a F) (hg : ho g b G) : ∃ (c : Int) (z : Nat) (g' : HP) (E : Nat → Int), fX2_lower a m b n g = some (m - z, g') ∧ 1 ≤ z ∧ (z : Int) ≤ m + 1 ∧ fm E (m - z) ∧ ((z : Int) ≤ m → E 0 ≠ 0) ∧ (∀ k, ep (sh z E k) (F k + c * G k)) ∧ (∀ k, k ≠ a → g' k = g k) ∧ ho g' a E := by
  have r1 := rs_mod (F 0 * pw (G 0))
  obtain ⟨c, hc⟩ : ∃ c, c = 10007 - F 0 * pw (G 0) % 10007 := ⟨_, rfl⟩
  have c1 := r1.1; have c2 := r1.2
  obtain ⟨g1, e1, e2, e3⟩ := pLo1 ha hb hab hn hm h8 hF hG (c := c) (by omega) (n + 1).toNat 0 FU g (by omega) (fu_lt (by omega)) (fun k hk => by omega) (fun k _ hk => hf k hk) hg
  have hE : fm (fun k => (F k + c * G k) % 10007) m := ⟨fun k => rs_mod _, fun k hk => by
    show (F k + c * G k) % 10007 = 0
    rw [hF.2 k hk, hG.2 k (by omega), Int.mul_zero]; rfl⟩
  obtain ⟨z, g', E, f1, f2, f3, f4, f5, f6, f7⟩ := pSt ha ⟨by omega, h8⟩ hE e3
  have z0 : ep (F 0 + c * G 0) 0 := by
    have h1 : ep c (-(F 0 * pw (G 0))) := by rw [hc]; exact ep_t (ep_P _) (ep_n (ep_m _))
    have h2 : ep (c * G 0) (-(F 0)) := by
      refine ep_t (ep_u h1 (ep_r (G 0))) ?_
      have h3 := ep_n (ep_u (ep_r (F 0)) (fer (hG.1 0) h0))
      rw [Int.mul_one] at h3
      rw [Int.neg_mul, Int.mul_assoc, Int.mul_comm (pw (G 0))]
      exact h3
    have := ep_a (ep_r (F 0)) h2
    rwa [show F 0 + -(F 0) = 0 by omega] at this
  refine ⟨c, z, g', E, ?_, ?_, f2, f5, f4, fun k => ?_, fun k hk => by rw [f6 k hk, e2 k hk], f7⟩
  · rw [show ((0 : Nat) : Int) = 0 from rfl] at e1
    have b1 := rs_mul (hF.1 0) (pw_rs (G 0))
    unfold fX2_lower
    rw [w_ld ha (by omega), w_ld hb (by omega), show (0 : Int).toNat = 0 from rfl, hf 0 (by omega), hg 0 (by omega), pInv (hG.1 0), cl_some, lt_d, rm_e b1.1 (by omega), ← hc, e1, f1]
    rfl
  · by_cases y : 1 ≤ z
    · exact y
    · exfalso
      have y0 : z = 0 := by omega
      have := f4 (by omega)
      have h3 := f3 0
      rw [y0, sh_hi (by omega)] at h3
      exact this (h3.symm.trans z0)
  · rw [← f3 k]
    exact ep_m _
