/-! Sums of powers: the reference. -/
theorem lnM10 : lnM 10 = 12 := rfl
theorem lnM11 : lnM 11 = 12 := rfl
theorem m10_ld {α : Type} {x : Int} (hx : 0 ≤ x ∧ x < 12) {row : Nat → Int} {k : Int → Option α} : ld (lnM 10) row x k = k (row x.toNat) := ld_t hx.1 (by rw [lnM10]; omega) (by rw [lnM10]; omega)
theorem m11_ld {α : Type} {x : Int} (hx : 0 ≤ x ∧ x < 12) {row : Nat → Int} {k : Int → Option α} : ld (lnM 11) row x k = k (row x.toNat) := ld_t hx.1 (by rw [lnM11]; omega) (by rw [lnM11]; omega)
theorem m10_st {α : Type} {x v : Int} (hx : 0 ≤ x ∧ x < 12) {h : HP} {k : HP → Option α} : sto (lnM 10) h 10 x v k = k (hs h 10 x.toNat v) := sto_t hx.1 (by rw [lnM10]; omega) (by rw [lnM10]; omega)
theorem m11_st {α : Type} {x v : Int} (hx : 0 ≤ x ∧ x < 12) {h : HP} {k : HP → Option α} : sto (lnM 11) h 11 x v k = k (hs h 11 x.toNat v) := sto_t hx.1 (by rw [lnM11]; omega) (by rw [lnM11]; omega)
theorem mPd1 {x2 x4 : Int} {k j : Nat} (hj : j < 9) {m : HP} {r : Nat → Int} (hr : ∀ i, rs (r i)) (h10 : ∀ s, s ≤ j → m 10 s = r s) (K : Int → Int → Int → Int → HP → Option (Int × HP)) : ∀ (d i n : Nat), j - i = d → i ≤ j → d < n → ((∀ s, i ≤ s → s < j → r j ≠ r s) → LX5_powers_138 K n x2 k x4 j i m = K x2 k x4 (j + 1) m) ∧ ((∃ s, i ≤ s ∧ s < j ∧ r j = r s) → LX5_powers_138 K n x2 k x4 j i m = some (-3, m)) := by
  intro d
  induction d with
  | zero =>
    intro i n q1 q2 q3
    obtain ⟨n, rfl⟩ : ∃ k, n = k + 1 := ⟨n - 1, by omega⟩
    refine ⟨fun _ => ?_, fun ⟨s, a, b, _⟩ => by omega⟩
    show bX5_powers_138 K (LX5_powers_138 K n) x2 k x4 j i m = _
    unfold bX5_powers_138
    rw [wi_id (z := (i : Int)) (by omega) (by omega), wi_id (z := (j : Int)) (by omega) (by omega), if_neg (by omega)]
  | succ d ih =>
    intro i n q1 q2 q3
    obtain ⟨n, rfl⟩ : ∃ k, n = k + 1 := ⟨n - 1, by omega⟩
    obtain ⟨i1, i2⟩ := ih (i + 1) n (by omega) (by omega) (by omega)
    have st : LX5_powers_138 K (n + 1) x2 k x4 j i m = if r i = r j then some (-3, m) else LX5_powers_138 K n x2 k x4 j (i + 1 : Nat) m := by
      show bX5_powers_138 K (LX5_powers_138 K n) x2 k x4 j i m = _
      unfold bX5_powers_138
      rw [wi_id (z := (i : Int)) (by omega) (by omega), wi_id (z := (j : Int)) (by omega) (by omega), if_pos (by omega), m10_ld (by omega), m10_ld (by omega), Int.toNat_natCast, Int.toNat_natCast, h10 i (by omega), h10 j (by omega), rs_wi (hr i), rs_wi (hr j)]
      rfl
    rw [st]
    by_cases z : r i = r j
    · rw [if_pos z]
      exact ⟨fun h => absurd z.symm (h i (by omega) (by omega)), fun _ => rfl⟩
    · rw [if_neg z]
      refine ⟨fun h => i1 (fun s a b => h s (by omega) b), fun ⟨s, a, b, e⟩ => i2 ⟨s, ?_, b, e⟩⟩
      by_cases y : s = i
      · rw [y] at e; exact absurd e.symm z
      · omega
theorem mPd2 {x2 x4 : Int} (c2 : 0 ≤ x2 ∧ x2 < 10) {k : Nat} (hk : k ≤ 9) (m0 : HP) (hw : ∀ i : Nat, i < k → wi (m0 3 (12 * x2.toNat + i)) = m0 3 (12 * x2.toNat + i)) : ∀ (d j n : Nat) (m : HP), k - j = d → j ≤ k → d < n → m 3 = m0 3 → (∀ s, s < j → m 10 s = m0 3 (12 * x2.toNat + s) % 10007) → ((∀ a b, j ≤ a → a < k → b < a → m0 3 (12 * x2.toNat + a) % 10007 ≠ m0 3 (12 * x2.toNat + b) % 10007) → ∃ m', LX5_powers_106 n x2 k x4 j m = LX5_powers_180 FU k x4 0 m' ∧ (∀ a, a ≠ 10 → m' a = m a) ∧ ∀ s, s < k → m' 10 s = m0 3 (12 * x2.toNat + s) % 10007) ∧ ((∃ a b, j ≤ a ∧ a < k ∧ b < a ∧ m0 3 (12 * x2.toNat + a) % 10007 = m0 3 (12 * x2.toNat + b) % 10007) → ∃ m', LX5_powers_106 n x2 k x4 j m = some (-3, m') ∧ ∀ a, a ≠ 10 → m' a = m a) := by
  intro d
  induction d with
  | zero =>
    intro j n m q1 q2 q3 h3 h10
    obtain ⟨n, rfl⟩ : ∃ k, n = k + 1 := ⟨n - 1, by omega⟩
    have e : j = k := by omega
    subst e
    refine ⟨fun _ => ⟨m, ?_, fun _ _ => rfl, h10⟩, fun ⟨a, b, x, y, _⟩ => by omega⟩
    show bX5_powers_106 (LX5_powers_106 n) x2 j x4 j m = _
    unfold bX5_powers_106
    rw [if_neg (by omega)]
  | succ d ih =>
    intro j n m q1 q2 q3 h3 h10
    obtain ⟨n, rfl⟩ : ∃ k, n = k + 1 := ⟨n - 1, by omega⟩
    have w1 := wi_rng (hw j (by omega))
    have h10' : ∀ s, s < j + 1 → hs m 10 j (m0 3 (12 * x2.toNat + j) % 10007) 10 s = m0 3 (12 * x2.toNat + s) % 10007 := fun s hs' => by
      by_cases z : s = j
      · rw [z, hs_s]
      · rw [hs_j z]; exact h10 s (by omega)
    obtain ⟨j1, j2⟩ := mPd1 (x2 := x2) (x4 := x4) (k := k) (j := j) (by omega) (m := hs m 10 j (m0 3 (12 * x2.toNat + j) % 10007)) (r := fun s => m0 3 (12 * x2.toNat + s) % 10007) (fun i => rs_mod _) (fun s hs' => h10' s (by omega)) (LX5_powers_106 n) j 0 FU (by omega) (by omega) (fu_lt (by omega))
    rw [show ((0 : Nat) : Int) = 0 from rfl] at j1 j2
    obtain ⟨i1, i2⟩ := ih (j + 1) n (hs m 10 j (m0 3 (12 * x2.toNat + j) % 10007)) (by omega) (by omega) (by omega) (by rw [hs_ne (by decide)]; exact h3) h10'
    have st : LX5_powers_106 (n + 1) x2 k x4 j m = LX5_powers_138 (LX5_powers_106 n) FU x2 k x4 j 0 (hs m 10 j (m0 3 (12 * x2.toNat + j) % 10007)) := by
      show bX5_powers_106 (LX5_powers_106 n) x2 k x4 j m = _
      unfold bX5_powers_106
      rw [wi_id (z := (j : Int)) (by omega) (by omega), wi_id (z := (k : Int)) (by omega) (by omega), if_pos (by omega), mi_ld (by omega), h3, show (12 * x2 + j).toNat = 12 * x2.toNat + j by omega, hw j (by omega), mMod (by omega) (by omega), cl_some, m10_st (by omega), Int.toNat_natCast]
    rw [st]
    by_cases z : ∃ s, 0 ≤ s ∧ s < j ∧ m0 3 (12 * x2.toNat + j) % 10007 = m0 3 (12 * x2.toNat + s) % 10007
    · rw [j2 z]
      obtain ⟨s, _, s2, s3⟩ := z
      exact ⟨fun h => absurd s3 (h j s (by omega) (by omega) s2), fun _ => ⟨_, rfl, fun a ha => hs_ne ha⟩⟩
    · have z2 : ∀ s, 0 ≤ s → s < j → m0 3 (12 * x2.toNat + j) % 10007 ≠ m0 3 (12 * x2.toNat + s) % 10007 := fun s a b e => z ⟨s, a, b, e⟩
      rw [j1 z2]
      constructor
      · intro h
        obtain ⟨m', e1, e2, e3⟩ := i1 (fun a b x y w => h a b (by omega) y w)
        exact ⟨m', e1, fun a ha => (e2 a ha).trans (hs_ne ha), e3⟩
      · intro ⟨a, b, x, y, w, e⟩
        obtain ⟨m', e1, e2⟩ := i2 ⟨a, b, by
          by_cases v : a = j
          · rw [v] at e w; exact absurd e (z2 b (by omega) w)
          · omega, y, w, e⟩
        exact ⟨m', e1, fun a ha => (e2 a ha).trans (hs_ne ha)⟩
theorem mPf1 {x4 : Int} {k N i : Nat} (hk : k ≤ 9) (hN : N ≤ 8) (hi : i < k) (hiN : i ≤ N) (r F : Nat → Int) (hr : ∀ l, l < k → rs (r l)) (hF : ∀ j, j < 9 → rs (F j)) (K : Int → Int → Int → HP → Option (Int × HP)) : ∀ (d j n : Nat) (m : HP), k - j = d → j ≤ k → d < n → m 0 6 = N → (∀ l, l < k → m 10 l = r l) → m 5 = F → ∃ m', LX5_powers_189 K n k x4 i j m = K k x4 (i + 1) m' ∧ (∀ a, a ≠ 9 → m' a = m a) ∧ (∀ s l, l < 18 → ¬ (s = i ∧ j ≤ l ∧ l ≤ k) → mm m' s l = mm m s l) ∧ (∀ l, j ≤ l → l < k → rs (mm m' i l) ∧ ep (mm m' i l) (chf N i * r l ^ i)) ∧ mm m' i k = F i := by
  intro d
  induction d with
  | zero =>
    intro j n m q1 q2 q3 h6 h10 h5
    obtain ⟨n, rfl⟩ : ∃ k, n = k + 1 := ⟨n - 1, by omega⟩
    refine ⟨mS m i k (F i), ?_, fun a ha => mS_a ha, fun s l hl hn => mm_o (by omega) hl (by omega), fun l a b => by omega, mm_s _ _ _ _⟩
    show bX5_powers_189 K (LX5_powers_189 K n) k x4 i j m = _
    unfold bX5_powers_189
    rw [wi_id (z := (j : Int)) (by omega) (by omega), wi_id (z := (k : Int)) (by omega) (by omega), if_neg (by omega), m5_ld (by omega), h5, Int.toNat_natCast, m9_st (r := i) (c := k) (by omega) (by omega) rfl]
  | succ d ih =>
    intro j n m q1 q2 q3 h6 h10 h5
    obtain ⟨n, rfl⟩ : ∃ k, n = k + 1 := ⟨n - 1, by omega⟩
    obtain ⟨m', e1, e2, e3, e4, e5⟩ := ih (j + 1) n (mS m i j (chf N i * (r j ^ i % 10007) % 10007)) (by omega) (by omega) (by omega) (by rw [mS_a (by decide)]; exact h6) (fun l hl => by rw [mS_a (by decide)]; exact h10 l hl) (by rw [mS_a (by decide)]; exact h5)
    refine ⟨m', ?_, fun a ha => by rw [e2 a ha, mS_a ha], fun s l hl hn => by rw [e3 s l hl (by omega), mm_o (by omega) hl (by omega)], fun l a b => ?_, e5⟩
    · show bX5_powers_189 K (LX5_powers_189 K n) k x4 i j m = _
      unfold bX5_powers_189
      rw [wi_id (z := (j : Int)) (by omega) (by omega), wi_id (z := (k : Int)) (by omega) (by omega), if_pos (by omega), h6, mOv (by omega) (by omega), cl_some, m10_ld (by omega), Int.toNat_natCast, h10 j (by omega), mRai (hr j (by omega)) (by omega), cl_some, Int.toNat_natCast, mTimes (chf_rs (by omega) (by omega)) (rs_mod _), cl_some, m9_st (r := i) (c := j) (by omega) (by omega) rfl]
      exact e1
    · by_cases z : l = j
      · rw [z, e3 i j (by omega) (by omega), mm_s]
        exact ⟨rs_mod _, ep_t (ep_m _) (ep_u (ep_r _) (ep_m _))⟩
      · exact e4 l (by omega) b
theorem mPf2 {x4 : Int} {k N : Nat} (hk : k ≤ 9) (hN : N ≤ 8) (hkN : k ≤ N + 1) (r F : Nat → Int) (hr : ∀ l, l < k → rs (r l)) (hF : ∀ j, j < 9 → rs (F j)) : ∀ (d i n : Nat) (m : HP), k - i = d → i ≤ k → d < n → m 0 6 = N → (∀ l, l < k → m 10 l = r l) → m 5 = F → (∀ s l, s < i → l < k → rs (mm m s l) ∧ ep (mm m s l) (chf N s * r l ^ s)) → (∀ s, s < i → mm m s k = F s) → ∃ m', LX5_powers_180 n k x4 i m = (cl (fX5_eliminate k (k + 1 : Nat) m') fun r268 h268 => lt ((k : Int) - 1) fun x6_276 => LX5_powers_278 FU k x4 x6_276 h268) ∧ (∀ a, a ≠ 9 → m' a = m a) ∧ (∀ s l, s < k → l < k → rs (mm m' s l) ∧ ep (mm m' s l) (chf N s * r l ^ s)) ∧ (∀ s, s < k → mm m' s k = F s) := by
  intro d
  induction d with
  | zero =>
    intro i n m q1 q2 q3 h6 h10 h5 hd he
    obtain ⟨n, rfl⟩ : ∃ k, n = k + 1 := ⟨n - 1, by omega⟩
    have e : i = k := by omega
    subst e
    refine ⟨m, ?_, fun _ _ => rfl, hd, he⟩
    show bX5_powers_180 (LX5_powers_180 n) i x4 i m = _
    unfold bX5_powers_180
    rw [if_neg (by omega)]
    rfl
  | succ d ih =>
    intro i n m q1 q2 q3 h6 h10 h5 hd he
    obtain ⟨n, rfl⟩ : ∃ k, n = k + 1 := ⟨n - 1, by omega⟩
    obtain ⟨m1, f1, f2, f3, f4, f5⟩ := mPf1 (x4 := x4) hk hN (i := i) (by omega) (by omega) r F hr hF (LX5_powers_180 n) k 0 FU m (by omega) (by omega) (fu_lt (by omega)) h6 h10 h5
    obtain ⟨m', e1, e2, e3, e4⟩ := ih (i + 1) n m1 (by omega) (by omega) (by omega) (by rw [f2 0 (by decide)]; exact h6) (fun l hl => by rw [f2 10 (by decide)]; exact h10 l hl) (by rw [f2 5 (by decide)]; exact h5) (fun s l hs' hl => by
      by_cases z : s = i
      · rw [z]; exact f4 l (by omega) hl
      · rw [f3 s l (by omega) (by omega)]; exact hd s l (by omega) hl) (fun s hs' => by
      by_cases z : s = i
      · rw [z]; exact f5
      · rw [f3 s k (by omega) (by omega)]; exact he s (by omega))
    refine ⟨m', ?_, fun a ha => (e2 a ha).trans (f2 a ha), e3, e4⟩
    show bX5_powers_180 (LX5_powers_180 n) k x4 i m = _
    unfold bX5_powers_180
    rw [show ((0 : Nat) : Int) = 0 from rfl] at f1
    rw [wi_id (z := (i : Int)) (by omega) (by omega), wi_id (z := (k : Int)) (by omega) (by omega), if_pos (by omega), f1]
    exact e1
-- from the last row up
theorem sm_zz {f : Nat → Int} {n : Nat} (h : ∀ l, l < n → f l = 0) : sm f n = 0 := by
  rw [sm_cg (g := fun _ => 0) h, sm_0]
theorem mBs1 {x4 : Int} {k i : Nat} (hk : k ≤ 9) (hi : i < k) (K : Int → Int → Int → HP → Option (Int × HP)) : ∀ (d j n : Nat) (u : Int) (m : HP), k - j = d → j ≤ k → i < j → d < n → RB (mm m) k (k + 1) → (∀ l, i < l → l < k → rs (m 11 l)) → u = mm m i k - sm (fun l => mm m i l * (if l ≤ i then 0 else m 11 l)) j → (-(200000000 * ((j : Int) + 1)) ≤ u ∧ u ≤ 200000000 * ((j : Int) + 1)) → ∃ v, rs v ∧ ep v ((mm m i k - sm (fun l => mm m i l * (if l ≤ i then 0 else m 11 l)) k) * pw (mm m i i)) ∧ LX5_powers_304 K n k x4 i u j m = K k x4 ((i : Int) + (-1)) (hs m 11 i v) := by
  intro d
  induction d with
  | zero =>
    intro j n u m q1 q2 q3 q4 hb h11 hu hb2
    obtain ⟨n, rfl⟩ : ∃ k, n = k + 1 := ⟨n - 1, by omega⟩
    have e : j = k := by omega
    subst e
    refine ⟨u % 10007 * pw (mm m i i) % 10007, rs_mod _, ?_, ?_⟩
    · rw [← hu]; exact ep_t (ep_m _) (ep_u (ep_m _) (ep_r _))
    · show bX5_powers_304 K (LX5_powers_304 K n) j x4 i u j m = _
      unfold bX5_powers_304
      rw [if_neg (by omega), mMod (by omega) (by omega), cl_some, m9_ld (y := 0) (r := i) (c := i) (by omega) (by omega) rfl, mTurned (hb i i hi (by omega)), cl_some, mTimes (rs_mod _) (pw_rs _), cl_some, m11_st (by omega), Int.toNat_natCast]
  | succ d ih =>
    intro j n u m q1 q2 q3 q4 hb h11 hu hb2
    obtain ⟨n, rfl⟩ : ∃ k, n = k + 1 := ⟨n - 1, by omega⟩
    have b1 := hb i j hi (by omega)
    have b2 := h11 j q3 (by omega)
    have b3 := rs_mul b1 b2
    obtain ⟨v, v1, v2, v3⟩ := ih (j + 1) n (u - mm m i j * m 11 j) m (by omega) (by omega) (by omega) (by omega) hb h11 (by
      show _ = mm m i k - (sm (fun l => mm m i l * (if l ≤ i then 0 else m 11 l)) j + mm m i j * (if j ≤ i then 0 else m 11 j))
      rw [if_neg (by omega), hu]; omega) (by omega)
    refine ⟨v, v1, v2, ?_⟩
    show bX5_powers_304 K (LX5_powers_304 K n) k x4 i u j m = _
    unfold bX5_powers_304
    rw [wi_id (z := (j : Int)) (by omega) (by omega), wi_id (z := (k : Int)) (by omega) (by omega), if_pos (by omega), m9_ld (y := 0) (r := i) (c := j) (by omega) (by omega) rfl, m11_ld (by omega), Int.toNat_natCast, rs_wi b1, rs_wi b2, lt_d]
    exact v3
theorem mBs2 {x4 : Int} {k : Nat} (hk : k ≤ 9) : ∀ (i n : Nat) (m : HP), i ≤ k → i < n → RB (mm m) k (k + 1) → (∀ r, r < k → mm m r r ≠ 0) → (∀ l, i ≤ l → l < k → rs (m 11 l)) → (∀ s, i ≤ s → s < k → ep (sm (fun l => mm m s l * (if l < s then 0 else m 11 l)) k) (mm m s k)) → ∃ m', LX5_powers_278 n k x4 ((i : Int) - 1) m = LX5_powers_384 FU k x4 0 m' ∧ (∀ a, a ≠ 11 → m' a = m a) ∧ (∀ l, l < k → rs (m' 11 l)) ∧ (∀ s, s < k → ep (sm (fun l => mm m s l * (if l < s then 0 else m' 11 l)) k) (mm m s k)) := by
  intro i
  induction i with
  | zero =>
    intro n m q1 q3 hb hd h11 hs'
    obtain ⟨n, rfl⟩ : ∃ k, n = k + 1 := ⟨n - 1, by omega⟩
    refine ⟨m, ?_, fun _ _ => rfl, fun l hl => h11 l (by omega) hl, fun s hs2 => hs' s (by omega) hs2⟩
    show bX5_powers_278 (LX5_powers_278 n) k x4 _ m = _
    unfold bX5_powers_278
    rw [wi_id (z := ((0 : Nat) : Int) - 1) (by omega) (by omega), if_neg (by omega)]
  | succ i ih =>
    intro n m q1 q3 hb hd h11 hs'
    obtain ⟨n, rfl⟩ : ∃ k, n = k + 1 := ⟨n - 1, by omega⟩
    have bk := hb i k (by omega) (by omega)
    have bk1 := bk.1; have bk2 := bk.2
    obtain ⟨v, v1, v2, v3⟩ := mBs1 (x4 := x4) hk (i := i) (by omega) (LX5_powers_278 n) (k - (i + 1)) (i + 1) FU (mm m i k) m rfl (by omega) (by omega) (fu_lt (by omega)) hb (fun l a b => h11 l (by omega) b) (by
      rw [sm_zz (fun l hl => by rw [if_pos (by omega), Int.mul_zero]), Int.sub_zero]) (by omega)
    have mm2 : ∀ s l, mm (hs m 11 i v) s l = mm m s l := fun s l => hs_k (by decide)
    have mm3 : mm (hs m 11 i v) = mm m := by funext s l; exact mm2 s l
    obtain ⟨m', e1, e2, e3, e4⟩ := ih n (hs m 11 i v) (by omega) (by omega) (by rw [mm3]; exact hb) (fun r hr => by rw [mm2]; exact hd r hr) (fun l a b => by
      by_cases z : l = i
      · rw [z, hs_s]; exact v1
      · rw [hs_j z]; exact h11 l (by omega) b) (fun s a b => by
      rw [mm3]
      by_cases z : s = i
      · subst z
        have t1 : sm (fun l => mm m s l * (if l < s then 0 else hs m 11 s v 11 l)) k = sm (fun l => mm m s l * (if l ≤ s then 0 else m 11 l)) k + mm m s s * v := by
          have t2 := sm_dl (fun l => mm m s l * v) s k
          rw [if_pos (by omega)] at t2
          have t2' : sm (fun l => (if s = l then 1 else 0) * (mm m s l * v)) k = mm m s s * v := t2
          rw [← t2', ← sm_add]
          refine sm_cg (fun l _ => ?_)
          by_cases y : l = s
          · rw [y, if_neg (Nat.lt_irrefl s), if_pos (Nat.le_refl s), if_pos rfl, hs_s, Int.mul_zero, Int.one_mul, Int.zero_add]
          · rw [hs_j y, if_neg (show ¬ s = l by omega), Int.zero_mul, Int.add_zero]
            by_cases w : l < s
            · rw [if_pos w, if_pos (by omega)]
            · rw [if_neg w, if_neg (by omega)]
        rw [t1]
        have inv := fer (hb s s (by omega) (by omega)) (hd s (by omega))
        have t3 := ep_u (ep_r (mm m s s)) v2
        generalize sm (fun l => mm m s l * (if l ≤ s then 0 else m 11 l)) k = S at t3 ⊢
        have t4 : mm m s s * ((mm m s k - S) * pw (mm m s s)) = mm m s s * pw (mm m s s) * (mm m s k - S) := by rw [Int.mul_comm (mm m s k - S), Int.mul_assoc]
        rw [t4] at t3
        have t5 := ep_u inv (ep_r (mm m s k - S))
        rw [Int.one_mul] at t5
        have t6 := ep_a (ep_r S) (ep_t t3 t5)
        rwa [show S + (mm m s k - S) = mm m s k by omega] at t6
      · have t1 : sm (fun l => mm m s l * (if l < s then 0 else hs m 11 i v 11 l)) k = sm (fun l => mm m s l * (if l < s then 0 else m 11 l)) k := sm_cg (fun l _ => by
          by_cases y : l < s
          · rw [if_pos y, if_pos y]
          · rw [if_neg y, if_neg y, hs_j (by omega)])
        rw [t1]
        exact hs' s (by omega) b)
    rw [mm3] at e4
    refine ⟨m', ?_, fun a ha => (e2 a ha).trans (hs_ne ha), e3, e4⟩
    show bX5_powers_278 (LX5_powers_278 n) k x4 _ m = _
    unfold bX5_powers_278
    rw [show ((i + 1 : Nat) : Int) - 1 = i by omega, wi_id (z := (i : Int)) (by omega) (by omega), if_pos (by omega), m9_ld (y := 0) (r := i) (c := k) (by omega) (by omega) rfl, rs_wi bk, lt_d, lt_d]
    have v3' : LX5_powers_304 (LX5_powers_278 n) FU k x4 i (mm m i k) ((i : Int) + 1) m = LX5_powers_278 n k x4 ((i : Int) + (-1)) (hs m 11 i v) := v3
    rw [v3', show (i : Int) + (-1) = (i : Int) - 1 by omega]
    exact e1
-- the check
theorem mCk1 {x4 : Int} {k N i : Nat} (hk : k ≤ 9) (hN : N ≤ 8) (hi : i ≤ N) {m : HP} (h6 : m 0 6 = N) (r c F : Nat → Int) (hr : ∀ l, l < k → rs (r l)) (hc : ∀ l, l < k → rs (c l)) (hF : ∀ j, j < 9 → rs (F j)) (h10 : ∀ l, l < k → m 10 l = r l) (h11 : ∀ l, l < k → m 11 l = c l) (h5 : m 5 = F) (K : Int → Int → Int → HP → Option (Int × HP)) : ∀ (d j n : Nat) (u : Int), k - j = d → j ≤ k → d < n → rs u → ep u (sm (fun l => c l * r l ^ i) j) → LX5_powers_399 K n k x4 i u j m = if sm (fun l => c l * r l ^ i) k * chf N i % 10007 = F i then K k x4 (i + 1) m else some (-3, m) := by
  intro d
  induction d with
  | zero =>
    intro j n u q1 q2 q3 hu he
    obtain ⟨n, rfl⟩ : ∃ k, n = k + 1 := ⟨n - 1, by omega⟩
    have e : j = k := by omega
    subst e
    show bX5_powers_399 K (LX5_powers_399 K n) j x4 i u j m = _
    unfold bX5_powers_399
    have e2 : u * chf N i % 10007 = sm (fun l => c l * r l ^ i) j * chf N i % 10007 := ep_u he (ep_r _)
    rw [if_neg (by omega), h6, mOv (by omega) (by omega), cl_some, Int.toNat_natCast, mTimes hu (chf_rs (by omega) (by omega)), cl_some, m5_ld (by omega), h5, Int.toNat_natCast, rs_wi (rs_mod _), rs_wi (hF i (by omega)), e2]
  | succ d ih =>
    intro j n u q1 q2 q3 hu he
    obtain ⟨n, rfl⟩ : ∃ k, n = k + 1 := ⟨n - 1, by omega⟩
    have b1 := rs_mul (hc j (by omega)) (rs_mod (r j ^ i))
    have b2 := hu.1; have b3 := hu.2
    show bX5_powers_399 K (LX5_powers_399 K n) k x4 i u j m = _
    unfold bX5_powers_399
    rw [wi_id (z := (j : Int)) (by omega) (by omega), wi_id (z := (k : Int)) (by omega) (by omega), if_pos (by omega), m11_ld (by omega), m10_ld (by omega), Int.toNat_natCast, h11 j (by omega), h10 j (by omega), mRai (hr j (by omega)) (by omega), cl_some, Int.toNat_natCast, rs_wi hu, rs_wi (hc j (by omega)), rs_wi (rs_mod _), mMod (by omega) (by omega), cl_some]
    exact ih (j + 1) n _ (by omega) (by omega) (by omega) (rs_mod _) (ep_t (ep_m _) (ep_a he (ep_u (ep_r _) (ep_m _))))
theorem mCk2 {x4 : Int} {k N : Nat} (hk : k ≤ 9) (hN : N ≤ 8) {m : HP} (h6 : m 0 6 = N) (r c F : Nat → Int) (hr : ∀ l, l < k → rs (r l)) (hc : ∀ l, l < k → rs (c l)) (hF : ∀ j, j < 9 → rs (F j)) (h10 : ∀ l, l < k → m 10 l = r l) (h11 : ∀ l, l < k → m 11 l = c l) (h5 : m 5 = F) : ∀ (d i n : Nat), N + 1 - i = d → i ≤ N + 1 → d < n → ((∀ s, i ≤ s → s ≤ N → sm (fun l => c l * r l ^ s) k * chf N s % 10007 = F s) → LX5_powers_384 n k x4 i m = (cl (fX5_noughtH ((k : Int) - 1) m) fun _ h479 => LX5_powers_485 FU k x4 0 h479)) ∧ ((∃ s, i ≤ s ∧ s ≤ N ∧ sm (fun l => c l * r l ^ s) k * chf N s % 10007 ≠ F s) → LX5_powers_384 n k x4 i m = some (-3, m)) := by
  intro d
  induction d with
  | zero =>
    intro i n q1 q2 q3
    obtain ⟨n, rfl⟩ : ∃ k, n = k + 1 := ⟨n - 1, by omega⟩
    refine ⟨fun _ => ?_, fun ⟨s, a, b, _⟩ => by omega⟩
    show bX5_powers_384 (LX5_powers_384 n) k x4 i m = _
    unfold bX5_powers_384
    rw [h6, wi_id (z := (i : Int)) (by omega) (by omega), wi_id (z := (N : Int)) (by omega) (by omega), if_neg (by omega)]
  | succ d ih =>
    intro i n q1 q2 q3
    obtain ⟨n, rfl⟩ : ∃ k, n = k + 1 := ⟨n - 1, by omega⟩
    obtain ⟨i1, i2⟩ := ih (i + 1) n (by omega) (by omega) (by omega)
    have c1 := mCk1 (x4 := x4) hk hN (i := i) (by omega) h6 r c F hr hc hF h10 h11 h5 (LX5_powers_384 n) k 0 FU 0 (by omega) (by omega) (fu_lt (by omega)) ⟨by decide, by decide⟩ (ep_r _)
    rw [show ((0 : Nat) : Int) = 0 from rfl] at c1
    have st : LX5_powers_384 (n + 1) k x4 i m = if sm (fun l => c l * r l ^ i) k * chf N i % 10007 = F i then LX5_powers_384 n k x4 (i + 1 : Nat) m else some (-3, m) := by
      show bX5_powers_384 (LX5_powers_384 n) k x4 i m = _
      unfold bX5_powers_384
      rw [h6, wi_id (z := (i : Int)) (by omega) (by omega), wi_id (z := (N : Int)) (by omega) (by omega), if_pos (by omega), c1]
      rfl
    rw [st]
    by_cases z : sm (fun l => c l * r l ^ i) k * chf N i % 10007 = F i
    · rw [if_pos z]
      refine ⟨fun h => i1 (fun s a b => h s (by omega) b), fun ⟨s, a, b, e⟩ => i2 ⟨s, ?_, b, e⟩⟩
      by_cases y : s = i
      · rw [y] at e; exact absurd z e
      · omega
    · rw [if_neg z]
      exact ⟨fun h => absurd (h i (by omega) (by omega)) z, fun _ => rfl⟩
theorem mHj {x4 : Int} {k : Nat} (hk : k ≤ 9) : ∀ (d j n : Nat) (m : HP), k - j = d → j ≤ k → d < n → ∃ m', LX5_powers_485 n k x4 j m = (cl (fX5_lay x4 m') fun r514 h514 => some ((k : Int), h514)) ∧ (∀ a, a ≠ 7 → m' a = m a) ∧ (∀ s, s < j → m' 7 s = m 7 s) ∧ ∀ s, j ≤ s → s < k → m' 7 s = m 11 s := by
  intro d
  induction d with
  | zero =>
    intro j n m q1 q2 q3
    obtain ⟨n, rfl⟩ : ∃ k, n = k + 1 := ⟨n - 1, by omega⟩
    refine ⟨m, ?_, fun _ _ => rfl, fun _ _ => rfl, fun s a b => by omega⟩
    show bX5_powers_485 (LX5_powers_485 n) k x4 j m = _
    unfold bX5_powers_485
    rw [wi_id (z := (j : Int)) (by omega) (by omega), wi_id (z := (k : Int)) (by omega) (by omega), if_neg (by omega)]
  | succ d ih =>
    intro j n m q1 q2 q3
    obtain ⟨n, rfl⟩ : ∃ k, n = k + 1 := ⟨n - 1, by omega⟩
    obtain ⟨m', e1, e2, e3, e4⟩ := ih (j + 1) n (hs m 7 j (m 11 j)) (by omega) (by omega) (by omega)
    refine ⟨m', ?_, fun a ha => (e2 a ha).trans (hs_ne ha), fun s hs' => by rw [e3 s (by omega), hs_j (by omega)], fun s a b => ?_⟩
    · show bX5_powers_485 (LX5_powers_485 n) k x4 j m = _
      unfold bX5_powers_485
      rw [wi_id (z := (j : Int)) (by omega) (by omega), wi_id (z := (k : Int)) (by omega) (by omega), if_pos (by omega), m11_ld (by omega), m7_st (by omega), Int.toNat_natCast]
      exact e1
    · by_cases z : s = j
      · rw [z, e3 j (by omega), hs_s]
      · rw [e4 s (by omega) b, hs_k (by decide)]
