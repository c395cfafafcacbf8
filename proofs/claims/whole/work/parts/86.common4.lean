/-! What two forms have together: the reference. -/
theorem mT1 {x3 : Int} {F : Nat → Int} (hF : ∀ k, rs (F k)) : ∀ (i n : Nat) (m : HP), i ≤ 8 → i < n → ho m 5 F → (∃ j, j ≤ i ∧ F j ≠ 0) → ∃ a : Nat, a ≤ i ∧ F a ≠ 0 ∧ (∀ j, a < j → j ≤ i → F j = 0) ∧ LX5_common_63 n x3 i m = LX5_common_85 FU x3 a (m 0 8) m := by
  intro i
  induction i with
  | zero =>
    intro n m q1 q2 h ⟨j, j1, j2⟩
    obtain ⟨n, rfl⟩ : ∃ k, n = k + 1 := ⟨n - 1, by omega⟩
    have f0 : F 0 ≠ 0 := by rw [show 0 = j by omega]; exact j2
    refine ⟨0, by omega, f0, fun j a b => by omega, ?_⟩
    show bX5_common_63 (LX5_common_63 n) x3 ((0 : Nat) : Int) m = _
    unfold bX5_common_63
    rw [m5_ld (by omega), Int.toNat_natCast, h 0 (by omega), rs_wi (hF 0), if_neg f0, lt_d]
  | succ i ih =>
    intro n m q1 q2 h ⟨j, j1, j2⟩
    obtain ⟨n, rfl⟩ : ∃ k, n = k + 1 := ⟨n - 1, by omega⟩
    have st : LX5_common_63 (n + 1) x3 ((i + 1 : Nat) : Int) m = if F (i + 1) = 0 then LX5_common_63 n x3 i m else LX5_common_85 FU x3 ((i + 1 : Nat) : Int) (m 0 8) m := by
      show bX5_common_63 (LX5_common_63 n) x3 ((i + 1 : Nat) : Int) m = _
      unfold bX5_common_63
      rw [m5_ld (by omega), Int.toNat_natCast, h (i + 1) (by omega), rs_wi (hF (i + 1)), lt_d, show ((i + 1 : Nat) : Int) + (-1) = i by omega]
    rw [st]
    by_cases c : F (i + 1) = 0
    · rw [if_pos c]
      have jn : j ≠ i + 1 := fun q => j2 (by rw [q]; exact c)
      obtain ⟨a, a1, a2, a3, a4⟩ := ih n m (by omega) (by omega) h ⟨j, by omega, j2⟩
      refine ⟨a, by omega, a2, fun k x y => ?_, a4⟩
      by_cases z : k = i + 1
      · rw [z]; exact c
      · exact a3 k x (by omega)
    · rw [if_neg c]
      exact ⟨i + 1, by omega, c, fun j a b => by omega, rfl⟩
theorem mT2 {x3 : Int} {a M N : Nat} (hM : M ≤ 8) (hN : N ≤ 8) (ha : a ≤ M) {G : Nat → Int} (hG : ∀ k, rs (G k)) : ∀ (i n : Nat) (m : HP), i ≤ N → i < n → m 0 6 = M → m 0 8 = N → ho m 6 G → (∃ j, j ≤ i ∧ G j ≠ 0) → ∃ b o : Nat, b ≤ i ∧ G b ≠ 0 ∧ (∀ j, b < j → j ≤ i → G j = 0) ∧ (((o : Int) = (M : Int) - a ∧ (M : Int) - a ≤ (N : Int) - b) ∨ ((o : Int) = (N : Int) - b ∧ (N : Int) - b ≤ (M : Int) - a)) ∧ LX5_common_85 n x3 a i m = LX5_common_137 FU x3 a b o m := by
  have fin : ∀ (i : Nat) (m : HP), i ≤ N → m 0 6 = M → m 0 8 = N → ∃ o : Nat, (((o : Int) = (M : Int) - a ∧ (M : Int) - a ≤ (N : Int) - i) ∨ ((o : Int) = (N : Int) - i ∧ (N : Int) - i ≤ (M : Int) - a)) ∧ (if wi ((m 0 6) - (a : Int)) < wi ((m 0 8) - (i : Int)) then (lt ((m 0 6) - (a : Int)) fun x7_135 => LX5_common_137 FU x3 a i x7_135 m) else (lt ((m 0 8) - (i : Int)) fun x7_135 => LX5_common_137 FU x3 a i x7_135 m)) = LX5_common_137 FU x3 a i o m := fun i m hi h6 h8 => by
    rw [h6, h8, wi_id (z := (M : Int) - a) (by omega) (by omega), wi_id (z := (N : Int) - i) (by omega) (by omega), lt_d, lt_d]
    by_cases c : (M : Int) - a < (N : Int) - i
    · refine ⟨M - a, Or.inl ⟨by omega, by omega⟩, ?_⟩
      rw [if_pos c, show (M : Int) - a = ((M - a : Nat) : Int) by omega]
    · refine ⟨N - i, Or.inr ⟨by omega, by omega⟩, ?_⟩
      rw [if_neg c, show (N : Int) - i = ((N - i : Nat) : Int) by omega]
  intro i
  induction i with
  | zero =>
    intro n m q1 q2 h6 h8 h ⟨j, j1, j2⟩
    obtain ⟨n, rfl⟩ : ∃ k, n = k + 1 := ⟨n - 1, by omega⟩
    have f0 : G 0 ≠ 0 := by rw [show 0 = j by omega]; exact j2
    obtain ⟨o, o1, o2⟩ := fin 0 m (by omega) h6 h8
    refine ⟨0, o, by omega, f0, fun j a b => by omega, o1, ?_⟩
    show bX5_common_85 (LX5_common_85 n) x3 a ((0 : Nat) : Int) m = _
    unfold bX5_common_85
    rw [m6_ld (by omega), Int.toNat_natCast, h 0 (by omega), rs_wi (hG 0), if_neg f0, o2]
  | succ i ih =>
    intro n m q1 q2 h6 h8 h ⟨j, j1, j2⟩
    obtain ⟨n, rfl⟩ : ∃ k, n = k + 1 := ⟨n - 1, by omega⟩
    obtain ⟨o, o1, o2⟩ := fin (i + 1) m (by omega) h6 h8
    have st : LX5_common_85 (n + 1) x3 a ((i + 1 : Nat) : Int) m = if G (i + 1) = 0 then LX5_common_85 n x3 a i m else LX5_common_137 FU x3 a ((i + 1 : Nat) : Int) o m := by
      show bX5_common_85 (LX5_common_85 n) x3 a ((i + 1 : Nat) : Int) m = _
      unfold bX5_common_85
      rw [m6_ld (by omega), Int.toNat_natCast, h (i + 1) (by omega), rs_wi (hG (i + 1)), o2, show ((i + 1 : Nat) : Int) + (-1) = i by omega]
    rw [st]
    by_cases c : G (i + 1) = 0
    · rw [if_pos c]
      have jn : j ≠ i + 1 := fun q => j2 (by rw [q]; exact c)
      obtain ⟨b, p, a1, a2, a3, a4, a5⟩ := ih n m (by omega) (by omega) h6 h8 h ⟨j, by omega, j2⟩
      refine ⟨b, p, by omega, a2, fun k x y => ?_, a4, a5⟩
      by_cases z : k = i + 1
      · rw [z]; exact c
      · exact a3 k x (by omega)
    · rw [if_neg c]
      exact ⟨i + 1, o, by omega, c, fun j a b => by omega, o1, rfl⟩
theorem mMC {x3 o : Int} {F0 G0 : Nat → Int} {a0 b0 : Int} (ha0 : a0 ≤ 8) (hb0 : b0 ≤ 8) : ∀ (d w : Nat) (a b : Int) (F G : Nat → Int) (m : HP), a + b + 2 = d → d < w → -1 ≤ a → -1 ≤ b → a ≤ a0 → b ≤ b0 → fm F a → fm G b → (0 ≤ a → F a.toNat ≠ 0) → (0 ≤ b → G b.toNat ≠ 0) → (0 ≤ a ∨ 0 ≤ b) →
    (∀ (h : Nat → Int) (e : Int), dv h e F a → dv h e G b → dv h e F0 a0 ∧ dv h e G0 b0) → (∀ (h : Nat → Int) (e : Nat), (∀ k : Nat, e < k → ep (h k) 0) → nz (h e) → dv h e F0 a0 → dv h e G0 b0 → dv h e F a ∧ dv h e G b) → ho m 5 F → ho m 6 G →
    ∃ (y v : Int) (m' : HP) (A : Nat → Int) (e : Nat), LX5_common_137 w x3 a b o m = jX5_common_364 x3 y v o m' ∧ ((y = e ∧ ho m' 5 A) ∨ (y = -1 ∧ v = e ∧ ho m' 6 A)) ∧ fm A e ∧ A e ≠ 0 ∧ ((e : Int) ≤ a0 ∨ (e : Int) ≤ b0) ∧ (∀ (h : Nat → Int) (k : Int), dv h k A e → dv h k F0 a0 ∧ dv h k G0 b0) ∧ (∀ (h : Nat → Int) (k : Nat), (∀ j : Nat, k < j → ep (h j) 0) → nz (h k) → dv h k F0 a0 → dv h k G0 b0 → dv h k A e) ∧ ∀ k, k ≠ 5 → k ≠ 6 → m' k = m k := by
  intro d
  induction d using Nat.strongRecOn with
  | _ d ih =>
    intro w a b F G m q1 q2 q3 q4 q5 q6 hF hG f0 g0 hor bk fo h5 h6
    obtain ⟨w, rfl⟩ : ∃ k, w = k + 1 := ⟨w - 1, by omega⟩
    have wa : wi a = a := wi_id (by omega) (by omega)
    have wb : wi b = b := wi_id (by omega) (by omega)
    show ∃ (y v : Int) (m' : HP) (A : Nat → Int) (e : Nat), bX5_common_137 (LX5_common_137 w) x3 a b o m = jX5_common_364 x3 y v o m' ∧ _
    unfold bX5_common_137
    rw [wa, wb]
    by_cases c : 0 ≤ a
    · rw [if_pos c]
      obtain ⟨p, hp⟩ : ∃ p : Nat, a = p := ⟨a.toNat, by omega⟩
      by_cases c' : 0 ≤ b
      · obtain ⟨r, hr⟩ : ∃ r : Nat, b = r := ⟨b.toNat, by omega⟩
        have fp : F p ≠ 0 := by have := f0 c; rw [hp, Int.toNat_natCast] at this; exact this
        have gr : G r ≠ 0 := by have := g0 c'; rw [hr, Int.toNat_natCast] at this; exact this
        rw [if_pos c']
        rw [hp] at hF
        rw [hr] at hG
        by_cases c3 : b ≤ a
        · rw [if_pos c3, hp, hr]
          obtain ⟨k, a', m', E, e1, e2, e3, e4, e5, e6, e7, e8⟩ := mLa (x3 := x3) (x7 := o) (a := p) (b := r) (by omega) (by omega) hF hG gr (LX5_common_137 w) h5 h6
          rw [e1]
          have ez : ∀ k : Nat, a' < k → ep (E k) 0 := fun k hk => by rw [e4.2 k hk]; exact ep_r 0
          have sq : ∀ (h : Nat → Int) (e : Int), dv h e G b → (dv h e E a' → dv h e F a) ∧ (∀ e' : Nat, e = e' → (∀ k : Nat, e' < k → ep (h k) 0) → nz (h e') → dv h e F a → dv h e E a') := fun h e dG => st_eq2 (t := p - r) (by omega) e2 (by omega) e6 ez dG
          obtain ⟨y, v, m'', A, e, t1, t2, t3, t4, t5, t6, t7, t8⟩ := ih (a' + b + 2).toNat (by omega) w a' b E G m' (by omega) (by omega) e2 q4 (by omega) q6 e4 (by rw [hr]; exact hG) e5 g0 (Or.inr c')
            (fun h e d1 d2 => bk h e ((sq h e d2).1 d1) d2)
            (fun h e hz hn d1 d2 => by
              obtain ⟨u1, u2⟩ := fo h e hz hn d1 d2
              exact ⟨(sq h e u2).2 e rfl hz hn u1, u2⟩)
            e8 (fun j hj => by rw [e7 6 (by decide)]; exact h6 j hj)
          rw [hr] at t1
          exact ⟨y, v, m'', A, e, t1, t2, t3, t4, t5, t6, t7, fun j x z => by rw [t8 j x z, e7 j x]⟩
        · rw [if_neg c3, hp, hr]
          obtain ⟨k, a', m', E, e1, e2, e3, e4, e5, e6, e7, e8⟩ := mLb (x3 := x3) (x7 := o) (a := r) (b := p) (by omega) (by omega) hG hF fp (LX5_common_137 w) h6 h5
          rw [e1]
          have ez : ∀ k : Nat, a' < k → ep (E k) 0 := fun k hk => by rw [e4.2 k hk]; exact ep_r 0
          have sq : ∀ (h : Nat → Int) (e : Int), dv h e F a → (dv h e E a' → dv h e G b) ∧ (∀ e' : Nat, e = e' → (∀ k : Nat, e' < k → ep (h k) 0) → nz (h e') → dv h e G b → dv h e E a') := fun h e dG => st_eq2 (t := r - p) (by omega) e2 (by omega) e6 ez dG
          obtain ⟨y, v, m'', A, e, t1, t2, t3, t4, t5, t6, t7, t8⟩ := ih (a + a' + 2).toNat (by omega) w a a' F E m' (by omega) (by omega) q3 e2 q5 (by omega) (by rw [hp]; exact hF) e4 f0 e5 (Or.inl c)
            (fun h e d1 d2 => bk h e d1 ((sq h e d1).1 d2))
            (fun h e hz hn d1 d2 => by
              obtain ⟨u1, u2⟩ := fo h e hz hn d1 d2
              exact ⟨u1, (sq h e u1).2 e rfl hz hn u2⟩)
            (fun j hj => by rw [e7 5 (by decide)]; exact h5 j hj) e8
          rw [hp] at t1
          exact ⟨y, v, m'', A, e, t1, t2, t3, t4, t5, t6, t7, fun j x z => by rw [t8 j x z, e7 j z]⟩
      · rw [if_neg c']
        have hn : b = -1 := by omega
        have fp : F p ≠ 0 := by have := f0 c; rw [hp, Int.toNat_natCast] at this; exact this
        rw [hp] at bk fo hF q5
        rw [hn] at bk fo hG
        exact ⟨a, b, m, F, p, rfl, Or.inl ⟨hp, h5⟩, hF, fp, Or.inl q5, fun h k d1 => bk h k d1 (fm_dv hG h k _), fun h k hz hn d1 d2 => (fo h k hz hn d1 d2).1, fun _ _ _ => rfl⟩
    · rw [if_neg c]
      obtain ⟨r, hr⟩ : ∃ r : Nat, b = r := ⟨b.toNat, by omega⟩
      have hn : a = -1 := by omega
      have gr : G r ≠ 0 := by have := g0 (by omega); rw [hr, Int.toNat_natCast] at this; exact this
      rw [hr] at bk fo hG q6
      rw [hn] at bk fo hF
      exact ⟨a, b, m, G, r, rfl, Or.inr ⟨hn, hr, h6⟩, hG, gr, Or.inr q6, fun h k d1 => bk h k (fm_dv hF h k _) d1, fun h k hz hn d1 d2 => (fo h k hz hn d1 d2).2, fun _ _ _ => rfl⟩
theorem mCp {x3 x5 : Int} {e : Nat} (he : e ≤ 8) {A : Nat → Int} : ∀ (d i n : Nat) (m : HP), e + 1 - i = d → i ≤ e + 1 → d < n → ((0 ≤ x5 ∧ x5 ≤ 8 ∧ ho m 5 A) ∨ (x5 = -1 ∧ ho m 6 A)) → (∀ k, k < i → m 7 k = A k) → (∀ k, i ≤ k → k < 20 → m 7 k = 0) → ∃ m', LX5_common_390 n x3 x5 e i m = LX5_common_435 FU x3 0 m' ∧ (∀ k, k ≠ 7 → m' k = m k) ∧ (∀ k, k ≤ e → m' 7 k = A k) ∧ (∀ k, e < k → k < 20 → m' 7 k = 0) := by
  intro d
  induction d with
  | zero =>
    intro i n m q1 q2 q3 h1 h2 h3
    obtain ⟨n, rfl⟩ : ∃ k, n = k + 1 := ⟨n - 1, by omega⟩
    refine ⟨m, ?_, fun _ _ => rfl, fun k hk => h2 k (by omega), fun k hk hk' => h3 k (by omega) hk'⟩
    show bX5_common_390 (LX5_common_390 n) x3 x5 e i m = _
    unfold bX5_common_390
    rw [wi_id (z := (i : Int)) (by omega) (by omega), wi_id (z := (e : Int)) (by omega) (by omega), if_neg (by omega)]
  | succ d ih =>
    intro i n m q1 q2 q3 h1 h2 h3
    obtain ⟨n, rfl⟩ : ∃ k, n = k + 1 := ⟨n - 1, by omega⟩
    obtain ⟨m', e1, e2, e3, e4⟩ := ih (i + 1) n (hs m 7 i (A i)) (by omega) (by omega) (by omega) (by
      rcases h1 with ⟨a, b, c⟩ | ⟨a, c⟩
      · exact Or.inl ⟨a, b, fun k hk => by rw [hs_k (by decide)]; exact c k hk⟩
      · exact Or.inr ⟨a, fun k hk => by rw [hs_k (by decide)]; exact c k hk⟩) (fun k hk => by
      by_cases c : k = i
      · rw [c, hs_s]
      · rw [hs_j c]; exact h2 k (by omega)) (fun k hk hk' => by rw [hs_j (by omega)]; exact h3 k (by omega) hk')
    refine ⟨m', ?_, fun k hk => by rw [e2 k hk, hs_ne hk], e3, e4⟩
    show bX5_common_390 (LX5_common_390 n) x3 x5 e i m = _
    unfold bX5_common_390
    rw [wi_id (z := (i : Int)) (by omega) (by omega), wi_id (z := (e : Int)) (by omega) (by omega), if_pos (show (i : Int) ≤ e by omega), wi_id (z := x5) (by omega) (by omega)]
    rcases h1 with ⟨a, b, c⟩ | ⟨a, c⟩
    · rw [if_pos a, m5_ld (by omega), m7_st (by omega), Int.toNat_natCast, c i (by omega)]
      exact e1
    · rw [if_neg (by omega), m6_ld (by omega), m7_st (by omega), Int.toNat_natCast, c i (by omega)]
      exact e1
theorem mFi {x3 : Int} {A : Nat → Int} (hA : ∀ k, rs (A k)) {p : Nat} (hp : p ≤ 8) (h1 : A p ≠ 0) (h2 : ∀ k, k < p → A k = 0) : ∀ (d i n : Nat) (m : HP), p - i = d → i ≤ p → d < n → (∀ k, k < 20 → m 7 k = A k) → LX5_common_435 n x3 i m = LX5_common_466 FU x3 (pw (A p)) 0 m := by
  intro d
  induction d with
  | zero =>
    intro i n m q1 q2 q3 h
    obtain ⟨n, rfl⟩ : ∃ k, n = k + 1 := ⟨n - 1, by omega⟩
    have ip : i = p := by omega
    show bX5_common_435 (LX5_common_435 n) x3 i m = _
    unfold bX5_common_435
    rw [m7_ld (by omega), m7_ld (by omega), Int.toNat_natCast, h i (by omega), rs_wi (hA i), ip, if_neg h1, mTurned (hA p), cl_some]
  | succ d ih =>
    intro i n m q1 q2 q3 h
    obtain ⟨n, rfl⟩ : ∃ k, n = k + 1 := ⟨n - 1, by omega⟩
    show bX5_common_435 (LX5_common_435 n) x3 i m = _
    unfold bX5_common_435
    rw [m7_ld (by omega), Int.toNat_natCast, h i (by omega), rs_wi (hA i), if_pos (h2 i (by omega))]
    exact ih (i + 1) n m (by omega) (by omega) (by omega) h
theorem mSc {x3 c : Int} (hc : rs c) {N : Nat} (hN : N ≤ 8) {A : Nat → Int} (hA : ∀ k, rs (A k)) : ∀ (d i n : Nat) (m : HP), N + 1 - i = d → i ≤ N + 1 → d < n → m 0 10 = N → (∀ k, k < i → m 7 k = A k * c % 10007) → (∀ k, i ≤ k → k ≤ N → m 7 k = A k) → ∃ m', LX5_common_466 n x3 c i m = (cl (fX5_lay x3 m') fun r502 h502 => some (r502, h502)) ∧ (∀ k, k ≠ 7 → m' k = m k) ∧ ∀ k, k ≤ N → m' 7 k = A k * c % 10007 := by
  intro d
  induction d with
  | zero =>
    intro i n m q1 q2 q3 h0 h1 h2
    obtain ⟨n, rfl⟩ : ∃ k, n = k + 1 := ⟨n - 1, by omega⟩
    refine ⟨m, ?_, fun _ _ => rfl, fun k hk => h1 k (by omega)⟩
    show bX5_common_466 (LX5_common_466 n) x3 c i m = _
    unfold bX5_common_466
    rw [h0, wi_id (z := (i : Int)) (by omega) (by omega), wi_id (z := (N : Int)) (by omega) (by omega), if_neg (by omega)]
  | succ d ih =>
    intro i n m q1 q2 q3 h0 h1 h2
    obtain ⟨n, rfl⟩ : ∃ k, n = k + 1 := ⟨n - 1, by omega⟩
    obtain ⟨m', e1, e2, e3⟩ := ih (i + 1) n (hs m 7 i (A i * c % 10007)) (by omega) (by omega) (by omega) (by rw [hs_k (by decide)]; exact h0) (fun k hk => by
      by_cases y : k = i
      · rw [y, hs_s]
      · rw [hs_j y]; exact h1 k (by omega)) (fun k hk hk' => by rw [hs_j (by omega)]; exact h2 k (by omega) hk')
    refine ⟨m', ?_, fun k hk => by rw [e2 k hk, hs_ne hk], e3⟩
    show bX5_common_466 (LX5_common_466 n) x3 c i m = _
    unfold bX5_common_466
    rw [h0, wi_id (z := (i : Int)) (by omega) (by omega), wi_id (z := (N : Int)) (by omega) (by omega), if_pos (by omega), m7_ld (by omega), Int.toNat_natCast, h2 i (by omega) (by omega), mTimes (hA i) hc, cl_some, m7_st (by omega), Int.toNat_natCast]
    exact e1
theorem mMake {x3 : Int} {M N : Nat} (hM : M ≤ 8) (hN : N ≤ 8) {F G : Nat → Int} (hF : fm F M) (hG : fm G N) (nF : ∃ j, F j ≠ 0) (nG : ∃ j, G j ≠ 0) {m : HP} (h6 : m 0 6 = M) (h8 : m 0 8 = N) (m5 : ho m 5 F) (m6 : ho m 6 G) : ∃ (d : Nat) (D : Nat → Int) (m' : HP), LX5_common_63 FU x3 M m = (cl (fX5_lay x3 m') fun r502 h502 => some (r502, h502)) ∧ d ≤ 8 ∧ fm D d ∧ m' 0 10 = d ∧ (∀ k, k ≤ d → m' 7 k = D k) ∧ (∃ p, ep (D p) 1 ∧ ∀ k, k < p → ep (D k) 0) ∧ gc F M G N D d ∧ sameM m m' := by
  obtain ⟨a, a1, a2, a3, a4⟩ := mT1 (x3 := x3) hF.1 M FU m hM (fu_lt (by omega)) m5 (by
    obtain ⟨j, hj⟩ := nF
    refine ⟨j, ?_, hj⟩
    by_cases c : j ≤ M
    · exact c
    · exact absurd (hF.2 j (by omega)) hj)
  obtain ⟨b, o, b1, b2, b3, b4, b5⟩ := mT2 (x3 := x3) hM hN a1 hG.1 N FU m (by omega) (fu_lt (by omega)) h6 h8 m6 (by
    obtain ⟨j, hj⟩ := nG
    refine ⟨j, ?_, hj⟩
    by_cases c : j ≤ N
    · exact c
    · exact absurd (hG.2 j (by omega)) hj)
  have fF : fm F a := ⟨hF.1, fun k hk => by
    by_cases c : k ≤ M
    · exact a3 k (by omega) c
    · exact hF.2 k (by omega)⟩
  have fG : fm G b := ⟨hG.1, fun k hk => by
    by_cases c : k ≤ N
    · exact b3 k (by omega) c
    · exact hG.2 k (by omega)⟩
  obtain ⟨y, v, m1, A, e, t1, t2, t3, t4, t5, t6, t7, t8⟩ := mMC (x3 := x3) (o := (o : Int)) (F0 := F) (G0 := G) (a0 := (a : Int)) (b0 := (b : Int)) (by omega) (by omega) (a + b + 2) FU a b F G m (by omega) (fu_lt (by omega)) (by omega) (by omega) (by omega) (by omega) fF fG (fun _ => by rw [Int.toNat_natCast]; exact a2) (fun _ => by rw [Int.toNat_natCast]; exact b2) (Or.inl (by omega)) (fun h k d1 d2 => ⟨d1, d2⟩) (fun h k _ _ d1 d2 => ⟨d1, d2⟩) m5 m6
  have eo : e + o ≤ 8 := by omega
  obtain ⟨m2, u1, u2, u3, u4, u5⟩ := mNou (n := (e : Int) + o) m1
  obtain ⟨m3, v1, v2, v3, v4⟩ := mCp (x3 := x3) (x5 := y) (e := e) (by omega) (A := A) (e + 1) 0 FU m2 (by omega) (by omega) (fu_lt (by omega)) (by
    rcases t2 with ⟨c1, c2⟩ | ⟨c1, c2, c3⟩
    · exact Or.inl ⟨by omega, by omega, fun k hk => by rw [u2 5 (by decide) (by decide)]; exact c2 k hk⟩
    · exact Or.inr ⟨c1, fun k hk => by rw [u2 6 (by decide) (by decide)]; exact c3 k hk⟩) (fun k hk => by omega) (fun k _ hk => u5 k hk)
  have m7 : ∀ k, k < 20 → m3 7 k = A k := fun k hk => by
    by_cases c : k ≤ e
    · exact v3 k c
    · rw [v4 k (by omega) hk, t3.2 k (by omega)]
  obtain ⟨p, p1, p2, p3⟩ := fnz (F := A) (n := e) ⟨e, by omega, t4⟩
  have w1 := mFi (x3 := x3) t3.1 (p := p) (by omega) p2 p3 p 0 FU m3 (by omega) (by omega) (fu_lt (by omega)) m7
  have m30 : m3 0 10 = ((e + o : Nat) : Int) := by rw [v2 0 (by decide), u4]; omega
  obtain ⟨m4, z1, z2, z3⟩ := mSc (x3 := x3) (pw_rs (A p)) (N := e + o) eo t3.1 (e + o + 1) 0 FU m3 (by omega) (by omega) (fu_lt (by omega)) m30 (fun k hk => by omega) (fun k _ hk => m7 k (by omega))
  have sm4 : sameM m m4 := by
    refine ⟨?_, ?_, ?_, ?_⟩
    · rw [z2 0 (by decide), v2 0 (by decide), u3 4 (by decide), t8 0 (by decide) (by decide)]
    · rw [z2 1 (by decide), v2 1 (by decide), u2 1 (by decide) (by decide), t8 1 (by decide) (by decide)]
    · rw [z2 2 (by decide), v2 2 (by decide), u2 2 (by decide) (by decide), t8 2 (by decide) (by decide)]
    · rw [z2 3 (by decide), v2 3 (by decide), u2 3 (by decide) (by decide), t8 3 (by decide) (by decide)]
  refine ⟨e + o, fun k => A k * pw (A p) % 10007, m4, ?_, eo, ⟨fun k => rs_mod _, fun k hk => ?_⟩, by rw [z2 0 (by decide), m30], z3, ⟨p, ?_, fun k hk => ?_⟩, ?_, sm4⟩
  · rw [show ((0 : Nat) : Int) = 0 from rfl] at v1 w1 z1
    rw [a4, h8, b5, t1]
    unfold jX5_common_364
    rcases t2 with ⟨c1, c2⟩ | ⟨c1, c2, c3⟩
    · rw [c1] at v1
      rw [c1, wi_id (z := (e : Int)) (by omega) (by omega), if_pos (by omega), u1, cl_some, v1, w1, z1]
    · rw [c1] at v1
      rw [c1, c2, wi_id (z := (-1 : Int)) (by omega) (by omega), if_neg (by omega), u1, cl_some, v1, w1, z1]
  · show A k * pw (A p) % 10007 = 0
    rw [t3.2 k (by omega), Int.zero_mul]; rfl
  · exact ep_t (ep_m _) (fer (t3.1 p) p2)
  · show ep (A k * pw (A p) % 10007) 0
    rw [p3 k hk, Int.zero_mul]; exact ep_r 0
  · refine gc_md (a := a) (b := b) (d := e) (fun k hk => by rw [fF.2 k hk]; exact ep_r 0) (fun k hk => by rw [fG.2 k hk]; exact ep_r 0) ((nz_rs (hF.1 a)).mpr a2) ((nz_rs (hG.1 b)).mpr b2) b4 (fun h k d1 => t6 h k ?_) (fun h k hz hn d1 d2 => ?_)
    · refine dv_cg (fun j => ?_) (dv_sc (A p) d1)
      refine ep_t (ep_u (ep_r (A p)) (ep_m _)) ?_
      have := ep_u (ep_r (A j)) (fer (t3.1 p) p2)
      rw [Int.mul_one] at this
      rw [Int.mul_left_comm]
      exact this
    · refine dv_cg (fun j => ?_) (dv_sc (pw (A p)) (t7 h k hz hn d1 d2))
      rw [Int.mul_comm]
      exact ep_s (ep_m _)
