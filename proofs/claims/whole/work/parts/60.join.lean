/-! Products and joins. -/
def tm (F G : Nat → Int) (N k t : Nat) : Int := if t ≤ k ∧ k - t ≤ N then F t * G (k - t) else 0
theorem pAPi {row b a1 : Nat} (hw : 22 ≤ row ∧ row < 27) (hb : 22 ≤ b ∧ b < 27) (hne : b ≠ row) {x2 N x5 x7 : Int} {i : Nat} (hN : 0 ≤ N) (hiN : i + N ≤ 8) (h7 : rs x7) (K : Nat → Nat → Int → Nat → Int → Int → Int → HP → Option (Int × HP)) : ∀ (d : Nat) (j : Int) (n : Nat) (g : HP), N + 1 - j = d → 0 ≤ j → d < n → R9 g row → R9 g b → ∃ g', LX2_addProduct_25 K n row a1 x2 b N x5 i x7 j g = K row a1 x2 b N x5 (i + 1) g' ∧ (∀ k, k ≠ row → g' k = g k) ∧ (∀ k : Nat, ((k : Int) < i + j ∨ i + N < k) → g' row k = g row k) ∧ ∀ k : Nat, (i + j ≤ k ∧ (k : Int) ≤ i + N) → g' row k = (g row k + x7 * g b (k - i)) % 10007 := by
  have hl : ((lnC row : Nat) : Int) = 9 := by rw [lnW hw]; rfl
  intro d
  induction d with
  | zero =>
    intro j n g q1 q2 q3 hr hq
    obtain ⟨n, rfl⟩ : ∃ k, n = k + 1 := ⟨n - 1, by omega⟩
    refine ⟨g, ?_, fun _ _ => rfl, fun _ _ => rfl, fun k p => by omega⟩
    show bX2_addProduct_25 K (LX2_addProduct_25 K n) row a1 x2 b N x5 i x7 j g = _
    unfold bX2_addProduct_25
    rw [wi_id (z := j) (by omega) (by omega), wi_id (z := N) (by omega) (by omega), if_neg (by omega)]
  | succ d ih =>
    intro j n g q1 q2 q3 hr hq
    obtain ⟨n, rfl⟩ : ∃ k, n = k + 1 := ⟨n - 1, by omega⟩
    have e5 : ((i : Int) + j).toNat = i + j.toNat := by omega
    have b1 := rs_mul h7 (hq j.toNat (by omega))
    have b2 := hr (i + j.toNat) (by omega)
    have b3 := b2.1; have b4 := b2.2
    obtain ⟨g', e1, e2, e3, e4⟩ := ih (j + 1) n (hs g row (i + j.toNat) ((g row (i + j.toNat) + x7 * g b j.toNat) % 10007)) (by omega) (by omega) (by omega) (R9_hs hr (rs_mod _) row rfl) (R9_k hq (hs_ne hne))
    refine ⟨g', ?_, fun k hk => (e2 k hk).trans (hs_ne hk), fun k hk => (e3 k (by omega)).trans (hs_j (by omega)), fun k p => ?_⟩
    · show bX2_addProduct_25 K (LX2_addProduct_25 K n) row a1 x2 b N x5 i x7 j g = _
      unfold bX2_addProduct_25
      rw [hl, wi_id (z := j) (by omega) (by omega), wi_id (z := N) (by omega) (by omega), wi_id (z := (i : Int) + j) (by omega) (by omega), wi_id (z := 9) (by decide) (by decide), if_pos (by omega), if_pos (by omega), w_ld hw (by omega), w_ld hb (by omega), w_st hw (by omega), e5, rm_e (by omega) (by omega)]
      exact e1
    · by_cases c : (k : Int) = i + j
      · rw [e3 k (by omega), show k = i + j.toNat by omega, hs_s, show i + j.toNat - i = j.toNat by omega]
      · rw [e4 k (by omega), hs_j (by omega), hs_k hne]
theorem pAPo {row a b : Nat} (hw : 22 ≤ row ∧ row < 27) (ha : 22 ≤ a ∧ a < 27) (hb : 22 ≤ b ∧ b < 27) (hna : a ≠ row) (hnb : b ≠ row) {M N f : Int} (hM : 0 ≤ M) (hN : 0 ≤ N) (hMN : M + N ≤ 8) (hf : rs f) (F G B : Nat → Int) : ∀ (d i n : Nat) (g : HP), M + 1 - i = d → d < n → R9 g row → R9 g a → R9 g b → g a = F → g b = G → (∀ k : Nat, k < 9 → ep (g row k) (B k + f * sm (tm F G N.toNat k) i)) → ∃ g', LX2_addProduct_3 n row a M b N f i g = some (0, g') ∧ (∀ k, k ≠ row → g' k = g k) ∧ R9 g' row ∧ ∀ k : Nat, k < 9 → ep (g' row k) (B k + f * sm (tm F G N.toNat k) (M.toNat + 1)) := by
  intro d
  induction d with
  | zero =>
    intro i n g q1 q3 hr hp hq eF eG hk
    obtain ⟨n, rfl⟩ : ∃ k, n = k + 1 := ⟨n - 1, by omega⟩
    refine ⟨g, ?_, fun _ _ => rfl, hr, fun k h => by rw [show M.toNat + 1 = i by omega]; exact hk k h⟩
    show bX2_addProduct_3 (LX2_addProduct_3 n) row a M b N f i g = _
    unfold bX2_addProduct_3
    rw [wi_id (z := (i : Int)) (by omega) (by omega), wi_id (z := M) (by omega) (by omega), if_neg (by omega)]
  | succ d ih =>
    intro i n g q1 q3 hr hp hq eF eG hk
    obtain ⟨n, rfl⟩ : ∃ k, n = k + 1 := ⟨n - 1, by omega⟩
    have b1 := rs_mul (hp i (by omega)) hf
    obtain ⟨g1, f1, f2, f3, f4⟩ := pAPi (a1 := a) (x2 := M) (x5 := f) hw hb hnb (i := i) hN (by omega) (rs_mod (g a i * f)) (LX2_addProduct_3 n) (N.toNat + 1) 0 FU g (by omega) (by omega) (fu_lt (by omega)) hr hq
    have hr1 : R9 g1 row := fun j hj => by
      by_cases c : (i : Int) + 0 ≤ j ∧ (j : Int) ≤ i + N
      · rw [f4 j c]; exact rs_mod _
      · rw [f3 j (by omega)]; exact hr j hj
    obtain ⟨g', e1, e2, e3, e4⟩ := ih (i + 1) n g1 (by omega) (by omega) hr1 (R9_k hp (f2 a hna)) (R9_k hq (f2 b hnb)) ((f2 a hna).trans eF) ((f2 b hnb).trans eG) (fun k h => by
      show ep (g1 row k) (B k + f * (sm (tm F G N.toNat k) i + tm F G N.toNat k i))
      have hk1 := hk k h
      rw [Int.mul_add, ← Int.add_assoc]
      by_cases c : (i : Int) + 0 ≤ k ∧ (k : Int) ≤ i + N
      · rw [f4 k c]
        refine ep_t (ep_m _) (ep_a hk1 ?_)
        unfold tm
        rw [if_pos (by omega), ← eF, ← eG, ← Int.mul_assoc, Int.mul_comm f]
        exact ep_u (ep_m _) (ep_r _)
      · rw [f3 k (by omega)]
        unfold tm
        rw [if_neg (by omega), Int.mul_zero, Int.add_zero]
        exact hk1)
    refine ⟨g', ?_, fun k hk => (e2 k hk).trans (f2 k hk), e3, e4⟩
    show bX2_addProduct_3 (LX2_addProduct_3 n) row a M b N f i g = _
    unfold bX2_addProduct_3
    rw [wi_id (z := (i : Int)) (by omega) (by omega), wi_id (z := M) (by omega) (by omega), if_pos (by omega), w_ld ha (by omega), Int.toNat_natCast, lt_d, rm_e b1.1 (by omega), f1]
    exact e1
theorem pAP {row a b : Nat} (hw : 22 ≤ row ∧ row < 27) (ha : 22 ≤ a ∧ a < 27) (hb : 22 ≤ b ∧ b < 27) (hna : a ≠ row) (hnb : b ≠ row) {M N f : Int} (hM : 0 ≤ M) (hN : 0 ≤ N) (hMN : M + N ≤ 8) (hf : rs f) {g : HP} (hr : R9 g row) (hp : R9 g a) (hq : R9 g b) : ∃ g', fX2_addProduct row a M b N f g = some (0, g') ∧ (∀ k, k ≠ row → g' k = g k) ∧ R9 g' row ∧ ∀ k : Nat, k < 9 → ep (g' row k) (g row k + f * sm (tm (g a) (g b) N.toNat k) (M.toNat + 1)) :=
  pAPo hw ha hb hna hnb hM hN hMN hf (g a) (g b) (g row) (M.toNat + 1) 0 FU g (by omega) (fu_lt (by omega)) hr hp hq rfl rfl (fun k _ => by show ep (g row k) (g row k + f * 0); rw [Int.mul_zero, Int.add_zero]; exact ep_r _)
-- the reference's joins
theorem mJi {m0 : HP} {x3 x4 N M : Int} {i : Nat} (hN : 0 ≤ N) (hM : (i : Int) ≤ M) (hMN : M + N ≤ 8) (K : Int → Int → Int → HP → Option (Int × HP)) : ∀ (d : Nat) (j : Int) (n : Nat) (m : HP), N + 1 - j = d → 0 ≤ j → d < n → m 0 8 = N → R9 m 5 → R9 m 6 → R9 m 7 → ∃ m', LX5_join_140 K n x3 x4 i j m = K x3 x4 (i + 1) m' ∧ (∀ k, k ≠ 7 → m' k = m k) ∧ (∀ k : Nat, ((k : Int) < i + j ∨ i + N < k) → m' 7 k = m 7 k) ∧ ∀ k : Nat, (i + j ≤ k ∧ (k : Int) ≤ i + N) → m' 7 k = (m 7 k + m 5 i * m 6 (k - i)) % 10007 := by
  intro d
  induction d with
  | zero =>
    intro j n m q1 q2 q3 h8 h5 h6 h7
    obtain ⟨n, rfl⟩ : ∃ k, n = k + 1 := ⟨n - 1, by omega⟩
    refine ⟨m, ?_, fun _ _ => rfl, fun _ _ => rfl, fun k p => by omega⟩
    show bX5_join_140 K (LX5_join_140 K n) x3 x4 i j m = _
    unfold bX5_join_140
    rw [h8, wi_id (z := j) (by omega) (by omega), wi_id (z := N) (by omega) (by omega), if_neg (by omega)]
  | succ d ih =>
    intro j n m q1 q2 q3 h8 h5 h6 h7
    obtain ⟨n, rfl⟩ : ∃ k, n = k + 1 := ⟨n - 1, by omega⟩
    have e5 : ((i : Int) + j).toNat = i + j.toNat := by omega
    have b1 := rs_mul (h5 i (by omega)) (h6 j.toNat (by omega))
    have b2 := h7 (i + j.toNat) (by omega)
    have b3 := b2.1; have b4 := b2.2
    obtain ⟨m', e1, e2, e3, e4⟩ := ih (j + 1) n (hs m 7 (i + j.toNat) ((m 7 (i + j.toNat) + m 5 i * m 6 j.toNat) % 10007)) (by omega) (by omega) (by omega) (by rw [hs_k (by decide)]; exact h8) (R9_k h5 (hs_ne (by decide))) (R9_k h6 (hs_ne (by decide))) (R9_hs h7 (rs_mod _) 7 rfl)
    refine ⟨m', ?_, fun k hk => (e2 k hk).trans (hs_ne hk), fun k hk => (e3 k (by omega)).trans (hs_j (by omega)), fun k p => ?_⟩
    · show bX5_join_140 K (LX5_join_140 K n) x3 x4 i j m = _
      unfold bX5_join_140
      rw [h8, wi_id (z := j) (by omega) (by omega), wi_id (z := N) (by omega) (by omega), if_pos (by omega), m7_ld (by omega), m5_ld (by omega), m6_ld (by omega), e5, Int.toNat_natCast, rs_wi b2, rs_wi (h5 i (by omega)), rs_wi (h6 j.toNat (by omega)), mMod (by omega) (by omega), cl_some, m7_st (by omega), e5]
      exact e1
    · by_cases c : (k : Int) = i + j
      · rw [e3 k (by omega), show k = i + j.toNat by omega, hs_s, show i + j.toNat - i = j.toNat by omega]
      · rw [e4 k (by omega), hs_j (by omega), hs_k (by decide), hs_k (by decide)]
theorem mJp {x3 M N : Int} (hM : 0 ≤ M) (hN : 0 ≤ N) (hMN : M + N ≤ 8) (F G : Nat → Int) : ∀ (d i n : Nat) (m : HP), M + 1 - i = d → d < n → m 0 6 = M → m 0 8 = N → R9 m 5 → R9 m 6 → R9 m 7 → m 5 = F → m 6 = G → (∀ k : Nat, k < 9 → ep (m 7 k) (sm (tm F G N.toNat k) i)) → ∃ m', LX5_join_122 n x3 2 i m = (cl (fX5_lay x3 m') fun r286 h286 => some (r286, h286)) ∧ (∀ k, k ≠ 7 → m' k = m k) ∧ R9 m' 7 ∧ ∀ k : Nat, k < 9 → ep (m' 7 k) (sm (tm F G N.toNat k) (M.toNat + 1)) := by
  intro d
  induction d with
  | zero =>
    intro i n m q1 q3 h6' h8' h5 h6 h7 eF eG hk
    obtain ⟨n, rfl⟩ : ∃ k, n = k + 1 := ⟨n - 1, by omega⟩
    refine ⟨m, ?_, fun _ _ => rfl, h7, fun k h => by rw [show M.toNat + 1 = i by omega]; exact hk k h⟩
    show bX5_join_122 (LX5_join_122 n) x3 2 i m = _
    unfold bX5_join_122
    rw [h6', wi_id (z := (i : Int)) (by omega) (by omega), wi_id (z := M) (by omega) (by omega), if_neg (by omega)]
  | succ d ih =>
    intro i n m q1 q3 h6' h8' h5 h6 h7 eF eG hk
    obtain ⟨n, rfl⟩ : ∃ k, n = k + 1 := ⟨n - 1, by omega⟩
    obtain ⟨m1, f1, f2, f3, f4⟩ := mJi (m0 := m) (x3 := x3) (x4 := 2) (i := i) hN (M := M) (by omega) hMN (LX5_join_122 n) (N.toNat + 1) 0 FU m (by omega) (by omega) (fu_lt (by omega)) h8' h5 h6 h7
    have hr1 : R9 m1 7 := fun j hj => by
      by_cases c : (i : Int) + 0 ≤ j ∧ (j : Int) ≤ i + N
      · rw [f4 j c]; exact rs_mod _
      · rw [f3 j (by omega)]; exact h7 j hj
    obtain ⟨m', e1, e2, e3, e4⟩ := ih (i + 1) n m1 (by omega) (by omega) (by rw [f2 0 (by decide)]; exact h6') (by rw [f2 0 (by decide)]; exact h8') (R9_k h5 (f2 5 (by decide))) (R9_k h6 (f2 6 (by decide))) hr1 ((f2 5 (by decide)).trans eF) ((f2 6 (by decide)).trans eG) (fun k h => by
      show ep (m1 7 k) (sm (tm F G N.toNat k) i + tm F G N.toNat k i)
      have hk1 := hk k h
      by_cases c : (i : Int) + 0 ≤ k ∧ (k : Int) ≤ i + N
      · rw [f4 k c]
        refine ep_t (ep_m _) (ep_a hk1 ?_)
        unfold tm
        rw [if_pos (by omega), ← eF, ← eG]
        exact ep_r _
      · rw [f3 k (by omega)]
        unfold tm
        rw [if_neg (by omega), Int.add_zero]
        exact hk1)
    refine ⟨m', ?_, fun k hk => (e2 k hk).trans (f2 k hk), e3, e4⟩
    show bX5_join_122 (LX5_join_122 n) x3 2 i m = _
    unfold bX5_join_122
    rw [h6', wi_id (z := (i : Int)) (by omega) (by omega), wi_id (z := M) (by omega) (by omega), if_pos (by omega), if_pos rfl, f1]
    exact e1
def jv (w : Int) (F G : Nat → Int) (j : Nat) : Int := if w = 0 then (F j + G j) % 10007 else if w = 1 then (F j - G j) % 10007 else F j * G 0 % 10007
theorem mJq {x3 w M : Int} (hM : 0 ≤ M ∧ M ≤ 8) (hw : w = 0 ∨ w = 1 ∨ w = 3) (F G : Nat → Int) : ∀ (d : Nat) (i : Int) (n : Nat) (m : HP), M + 1 - i = d → 0 ≤ i → d < n → m 0 6 = M → R9 m 5 → R9 m 6 → m 5 = F → m 6 = G → ∃ m', LX5_join_122 n x3 w i m = (cl (fX5_lay x3 m') fun r286 h286 => some (r286, h286)) ∧ (∀ k, k ≠ 7 → m' k = m k) ∧ (∀ j : Nat, ((j : Int) < i ∨ M + 1 ≤ j) → m' 7 j = m 7 j) ∧ ∀ j : Nat, i ≤ j → j < M + 1 → m' 7 j = jv w F G j := by
  have ww : wi w = w := by rcases hw with h | h | h <;> (rw [h]; rfl)
  have wn : ¬ w = wi 2 := by
    rw [wi_id (z := 2) (by decide) (by decide)]
    omega
  intro d
  induction d with
  | zero =>
    intro i n m q1 q2 q3 h6' h5 h6 eF eG
    obtain ⟨n, rfl⟩ : ∃ k, n = k + 1 := ⟨n - 1, by omega⟩
    refine ⟨m, ?_, fun _ _ => rfl, fun _ _ => rfl, fun j p1 p2 => by omega⟩
    show bX5_join_122 (LX5_join_122 n) x3 w i m = _
    unfold bX5_join_122
    rw [h6', wi_id (z := i) (by omega) (by omega), wi_id (z := M) (by omega) (by omega), if_neg (by omega)]
  | succ d ih =>
    intro i n m q1 q2 q3 h6' h5 h6 eF eG
    obtain ⟨n, rfl⟩ : ∃ k, n = k + 1 := ⟨n - 1, by omega⟩
    obtain ⟨m', e1, e2, e3, e4⟩ := ih (i + 1) n (hs m 7 i.toNat (jv w F G i.toNat)) (by omega) (by omega) (by omega) (by rw [hs_k (by decide)]; exact h6') (R9_k h5 (hs_ne (by decide))) (R9_k h6 (hs_ne (by decide))) ((hs_ne (by decide)).trans eF) ((hs_ne (by decide)).trans eG)
    refine ⟨m', ?_, fun k hk => (e2 k hk).trans (hs_ne hk), fun j hj => (e3 j (by omega)).trans (hs_j (by omega)), fun j p1 p2 => ?_⟩
    · have a5 := h5 i.toNat (by omega)
      have a6 := h6 i.toNat (by omega)
      have r1 := a5.1; have r2 := a5.2; have r3 := a6.1; have r4 := a6.2
      show bX5_join_122 (LX5_join_122 n) x3 w i m = _
      unfold bX5_join_122
      rw [h6', wi_id (z := i) (by omega) (by omega), wi_id (z := M) (by omega) (by omega), if_pos (by omega), ww, if_neg wn]
      unfold jv at e1
      by_cases c0 : w = 0
      · rw [if_pos c0] at e1 ⊢
        rw [m5_ld (by omega), m6_ld (by omega), wi_id (z := m 5 i.toNat + m 6 i.toNat) (by omega) (by omega), mMod (by omega) (by omega), cl_some, m7_st (by omega), eF, eG]
        exact e1
      · rw [if_neg c0] at e1 ⊢
        by_cases c1 : w = 1
        · rw [if_pos c1] at e1
          rw [if_pos (show w = wi 1 from c1), m5_ld (by omega), m6_ld (by omega), wi_id (z := m 5 i.toNat - m 6 i.toNat) (by omega) (by omega), mMod (by omega) (by omega), cl_some, m7_st (by omega), eF, eG]
          exact e1
        · rw [if_neg c1] at e1
          rw [if_neg (show ¬ w = wi 1 from c1), m5_ld (by omega), m6_ld (by omega), mTimes a5 (h6 _ (by decide)), cl_some, m7_st (by omega), eF, eG]
          exact e1
    · by_cases c : (j : Int) = i
      · rw [e3 j (by omega), show j = i.toNat by omega, hs_s]
      · exact e4 j (by omega) p2
