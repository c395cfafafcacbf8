/-! Overlaps. -/
def fcm : Nat → Int
  | 0 => 1
  | n + 1 => fcm n * (n + 1) % 10007
theorem fcm_rs : ∀ n, rs (fcm n)
  | 0 => one_rs
  | n + 1 => rs_mod _
theorem pFac {x : Int} (hx : 0 ≤ x ∧ x ≤ 8) (g : HP) : fX1_factorial x g = some (fcm x.toNat, g) := by
  by_cases c0 : x = 0
  · subst c0
    unfold fX1_factorial
    show bX1_factorial_4 (LX1_factorial_4 19999) 0 1 2 g = _
    unfold bX1_factorial_4
    rw [if_neg (by decide)]; rfl
  have key : ∀ (d k n : Nat), x - k = d → 1 ≤ k → d < n → LX1_factorial_4 n x (fcm k) (k + 1 : Nat) g = some (fcm x.toNat, g) := by
    intro d
    induction d with
    | zero =>
      intro k n q1 q2 q3
      obtain ⟨n, rfl⟩ : ∃ z, n = z + 1 := ⟨n - 1, by omega⟩
      show bX1_factorial_4 (LX1_factorial_4 n) x (fcm k) (k + 1 : Nat) g = _
      unfold bX1_factorial_4
      rw [wi_id (z := ((k + 1 : Nat) : Int)) (by omega) (by omega), wi_id (z := x) (by omega) (by omega), if_neg (by omega), show k = x.toNat by omega]
    | succ d ih =>
      intro k n q1 q2 q3
      obtain ⟨n, rfl⟩ : ∃ z, n = z + 1 := ⟨n - 1, by omega⟩
      have b1 := rs_mul (fcm_rs k) (b := ((k + 1 : Nat) : Int)) ⟨by omega, by omega⟩
      show bX1_factorial_4 (LX1_factorial_4 n) x (fcm k) (k + 1 : Nat) g = _
      unfold bX1_factorial_4
      rw [wi_id (z := ((k + 1 : Nat) : Int)) (by omega) (by omega), wi_id (z := x) (by omega) (by omega), if_pos (by omega), lt_d, rm_e b1.1 (by omega)]
      exact ih (k + 1) n (by omega) (by omega) (by omega)
  exact key (x - 1).toNat 1 FU (by omega) (by omega) (fu_lt (by omega))
theorem mFac {x : Int} (hx : 0 ≤ x ∧ x ≤ 8) (g : HP) : fX5_factorial x g = some (fcm x.toNat, g) := by
  by_cases c0 : x = 0
  · subst c0
    unfold fX5_factorial
    show bX5_factorial_4 (LX5_factorial_4 19999) 0 1 2 g = _
    unfold bX5_factorial_4
    rw [if_neg (by decide)]; rfl
  have key : ∀ (d k n : Nat), x - k = d → 1 ≤ k → d < n → LX5_factorial_4 n x (fcm k) (k + 1 : Nat) g = some (fcm x.toNat, g) := by
    intro d
    induction d with
    | zero =>
      intro k n q1 q2 q3
      obtain ⟨n, rfl⟩ : ∃ z, n = z + 1 := ⟨n - 1, by omega⟩
      show bX5_factorial_4 (LX5_factorial_4 n) x (fcm k) (k + 1 : Nat) g = _
      unfold bX5_factorial_4
      rw [wi_id (z := ((k + 1 : Nat) : Int)) (by omega) (by omega), wi_id (z := x) (by omega) (by omega), if_neg (by omega), show k = x.toNat by omega]
    | succ d ih =>
      intro k n q1 q2 q3
      obtain ⟨n, rfl⟩ : ∃ z, n = z + 1 := ⟨n - 1, by omega⟩
      show bX5_factorial_4 (LX5_factorial_4 n) x (fcm k) (k + 1 : Nat) g = _
      unfold bX5_factorial_4
      rw [wi_id (z := ((k + 1 : Nat) : Int)) (by omega) (by omega), wi_id (z := x) (by omega) (by omega), if_pos (by omega), mTimes (fcm_rs k) ⟨by omega, by omega⟩, cl_some]
      exact ih (k + 1) n (by omega) (by omega) (by omega)
  exact key (x - 1).toNat 1 FU (by omega) (by omega) (fu_lt (by omega))
def fk (K : Int) (i : Nat) : Int := if i % 2 = 0 then chf K i else 10007 - chf K i
theorem fk_rs {K : Int} (hK : 0 ≤ K ∧ K ≤ 8) {i : Nat} (hi : (i : Int) ≤ K) : rs (fk K i) := by
  have h1 := chf_r hK (k := i) (by omega)
  have h2 := chf_p hK hi
  unfold fk
  split
  · exact ⟨by omega, by omega⟩
  · exact ⟨by omega, by omega⟩
def oA (F : Nat → Int) (M K : Int) (i u : Nat) : Int := F (u + i) * fl (M - (u + i)) (K - i).toNat * fl (u + i) i
def oB (G : Nat → Int) (N K : Int) (i v : Nat) : Int := G (v + (K - i).toNat) * fl (N - (v + (K - i))) i * fl (v + (K - i)) (K - i).toNat
theorem tm_ep {F F' G G' : Nat → Int} {N k : Nat} {t : Nat} (h1 : ep (F t) (F' t)) (h2 : t ≤ k → k - t ≤ N → ep (G (k - t)) (G' (k - t))) : ep (tm F G N k t) (tm F' G' N k t) := by
  unfold tm
  by_cases c : t ≤ k ∧ k - t ≤ N
  · rw [if_pos c, if_pos c]
    exact ep_u h1 (h2 c.1 c.2)
  · rw [if_neg c, if_neg c]
    exact ep_r 0
theorem pOvL {M N K : Int} (hM : 0 ≤ M ∧ M ≤ 8) (hN : 0 ≤ N ∧ N ≤ 8) (hK : 0 ≤ K) (hKM : K ≤ M) (hKN : K ≤ N) (h8 : M + N - 2 * K ≤ 8) (F G : Nat → Int) : ∀ (d i n : Nat) (g : HP), K + 1 - i = d → d < n → R9 g 22 → R9 g 23 → R9 g 26 → g 22 = F → g 23 = G → (∀ t : Nat, t < 9 → ep (g 26 t) (sm (fun i => fk K i * sm (tm (oA F M K i) (oB G N K i) (N - K).toNat t) ((M - K).toNat + 1)) i)) → ∃ g1 g', LX4_makeOverlap_10 n M N K i g = some (0, g') ∧ (∀ k, k ≠ 24 → k ≠ 25 → k ≠ 26 → g' k = g k) ∧ R9 g1 26 ∧ (∀ t : Nat, t < 9 → g' 26 t = g1 26 t * (fcm (M - K).toNat * fcm (N - K).toNat % 10007 * pw (fcm M.toNat * fcm N.toNat % 10007) % 10007) % 10007) ∧ ∀ t : Nat, t < 9 → ep (g1 26 t) (sm (fun i => fk K i * sm (tm (oA F M K i) (oB G N K i) (N - K).toNat t) ((M - K).toNat + 1)) (K.toNat + 1)) := by
  intro d
  induction d with
  | zero =>
    intro i n g q1 q3 h22 h23 h26 eF eG hk
    obtain ⟨n, rfl⟩ : ∃ k, n = k + 1 := ⟨n - 1, by omega⟩
    have b1 := rs_mul (fcm_rs (M - K).toNat) (fcm_rs (N - K).toNat)
    have b2 := rs_mul (fcm_rs M.toNat) (fcm_rs N.toNat)
    have b3 := rs_mul (rs_mod (fcm (M - K).toNat * fcm (N - K).toNat)) (pw_rs (fcm M.toNat * fcm N.toNat % 10007))
    obtain ⟨g', e1, e2, e3⟩ := pMul (a := 26) (by decide) (rs_mod (fcm (M - K).toNat * fcm (N - K).toNat % 10007 * pw (fcm M.toNat * fcm N.toNat % 10007))) h26
    refine ⟨g, g', ?_, fun k _ _ h => e2 k h, h26, e3, fun t ht => by rw [show K.toNat + 1 = i by omega]; exact hk t ht⟩
    show bX4_makeOverlap_10 (LX4_makeOverlap_10 n) M N K i g = _
    unfold bX4_makeOverlap_10
    rw [wi_id (z := (i : Int)) (by omega) (by omega), wi_id (z := K) (by omega) (by omega), if_neg (by omega), pFac (by omega), cl_some, pFac (by omega), cl_some, lt_d, rm_e b1.1 (by omega), pFac hM, cl_some, pFac hN, cl_some, lt_d, rm_e b2.1 (by omega), pInv (rs_mod _), cl_some, rm_e b3.1 (by omega), e1, cl_some]
  | succ d ih =>
    intro i n g q1 q3 h22 h23 h26 eF eG hk
    obtain ⟨n, rfl⟩ : ∃ k, n = k + 1 := ⟨n - 1, by omega⟩
    have hK8 : 0 ≤ K ∧ K ≤ 8 := by omega
    have hc := chf_r hK8 (k := i) (by omega)
    obtain ⟨g1, a1, a2, a3, a4, a5⟩ := pCg (a := 22) (b := 24) (by decide) (by decide) (by decide) (N := M) (X := K - i) (Y := i) hM (by omega) (by omega) (by omega) h22
    obtain ⟨g2, b1, b2, b3, b4, b5⟩ := pCg (a := 23) (b := 25) (by decide) (by decide) (by decide) (N := N) (X := i) (Y := K - i) hN (by omega) (by omega) (by omega) (R9_k h23 (a2 23 (by decide)))
    have k26 : g2 26 = g 26 := (b2 26 (by decide)).trans (a2 26 (by decide))
    have k24 : g2 24 = g1 24 := b2 24 (by decide)
    obtain ⟨g3, c1, c2, c3, c4⟩ := pAP (row := 26) (a := 24) (b := 25) (by decide) (by decide) (by decide) (by decide) (by decide) (M := M - K) (N := N - K) (f := fk K i) (by omega) (by omega) (by omega) (fk_rs hK8 (by omega)) (R9_k h26 k26) (R9_k a3 k24) b3
    have k22 : g3 22 = g 22 := (c2 22 (by decide)).trans ((b2 22 (by decide)).trans (a2 22 (by decide)))
    have k23 : g3 23 = g 23 := (c2 23 (by decide)).trans ((b2 23 (by decide)).trans (a2 23 (by decide)))
    obtain ⟨g5, g', e1, e2, e3, e4, e5⟩ := ih (i + 1) n g3 (by omega) (by omega) (R9_k h22 k22) (R9_k h23 k23) c3 (k22.trans eF) (k23.trans eG) (fun t ht => by
      show ep (g3 26 t) (sm (fun i => fk K i * sm (tm (oA F M K i) (oB G N K i) (N - K).toNat t) ((M - K).toNat + 1)) i + fk K i * sm (tm (oA F M K i) (oB G N K i) (N - K).toNat t) ((M - K).toNat + 1))
      refine ep_t (c4 t ht) ?_
      rw [k26]
      refine ep_a (hk t ht) (ep_u (ep_r _) (ep_sm (fun u hu => tm_ep ?_ (fun h1 h2 => ?_))))
      · rw [k24, ← eF]
        have := a5 u (by omega)
        rw [show ((i : Int).toNat) = i from rfl] at this
        exact this
      · rw [← eG]
        have := b5 (t - u) (by omega)
        rw [a2 23 (by decide), show ((i : Int).toNat) = i from rfl] at this
        exact this)
    refine ⟨g5, g', ?_, fun k h1 h2 h3 => (e2 k h1 h2 h3).trans ((c2 k h3).trans ((b2 k h2).trans (a2 k h1))), e3, e4, e5⟩
    show bX4_makeOverlap_10 (LX4_makeOverlap_10 n) M N K i g = _
    unfold bX4_makeOverlap_10 jX4_makeOverlap_78
    have t1 : Int.tmod (i : Int) 2 = ((i % 2 : Nat) : Int) := by rw [Int.tmod_eq_emod_of_nonneg (by omega)]; rfl
    rw [wi_id (z := (i : Int)) (by omega) (by omega), wi_id (z := K) (by omega) (by omega), if_pos (by omega), a1, cl_some, b1, cl_some, pCh hK8 (by omega), cl_some, show ((i : Int).toNat) = i from rfl, wi_id (z := 2) (by decide) (by decide), t1, wi_id (z := ((i % 2 : Nat) : Int)) (by omega) (by omega)]
    unfold fk at c1
    by_cases z : i % 2 = 0
    · rw [if_pos z] at c1
      rw [if_pos (by omega), c1, cl_some]
      exact e1
    · rw [if_neg z] at c1
      rw [if_neg (by omega), c1, cl_some]
      exact e1
-- the reference
theorem mCgd {n p : Int} (hn : 0 ≤ n ∧ n ≤ 8) (hp : 0 ≤ p ∧ p ≤ n) {X Y : Int} (hX : 0 ≤ X ∧ X ≤ 8) (hY : 0 ≤ Y ∧ Y ≤ 8) (m : HP) : ∃ v : Int, fX5_changed n p X Y m = some (v, m) ∧ rs v ∧ ep v (fl (n - p) X.toNat * fl p Y.toNat) := by
  have key2 : ∀ (d k f : Nat) (u : Int), Y - k = d → d < f → rs u → ∀ c : Int, ep u (c * fl p k) → ∃ v : Int, LX5_changed_47 f p Y u k m = some (v, m) ∧ rs v ∧ ep v (c * fl p Y.toNat) := by
    intro d
    induction d with
    | zero =>
      intro k f u q1 q3 hu c e
      obtain ⟨f, rfl⟩ : ∃ z, f = z + 1 := ⟨f - 1, by omega⟩
      refine ⟨u, ?_, hu, by rw [show Y.toNat = k by omega]; exact e⟩
      show bX5_changed_47 (LX5_changed_47 f) p Y u k m = _
      unfold bX5_changed_47
      rw [wi_id (z := (k : Int)) (by omega) (by omega), wi_id (z := Y) (by omega) (by omega), if_neg (by omega)]
    | succ d ih =>
      intro k f u q1 q3 hu c e
      obtain ⟨f, rfl⟩ : ∃ z, f = z + 1 := ⟨f - 1, by omega⟩
      show ∃ v : Int, bX5_changed_47 (LX5_changed_47 f) p Y u k m = some (v, m) ∧ _
      unfold bX5_changed_47
      rw [wi_id (z := (k : Int)) (by omega) (by omega), wi_id (z := Y) (by omega) (by omega), if_pos (by omega), wi_id (z := p - k) (by omega) (by omega)]
      by_cases z : 0 < p - k
      · rw [if_pos z, mTimes hu ⟨by omega, by omega⟩, cl_some]
        refine ih (k + 1) f _ (by omega) (by omega) (rs_mod _) c ?_
        show ep _ (c * (fl p k * (p - k)))
        rw [← Int.mul_assoc]
        exact ep_t (ep_m _) (ep_u e (ep_r _))
      · rw [if_neg z, mTimes hu ⟨by decide, by decide⟩, cl_some]
        refine ih (k + 1) f _ (by omega) (by omega) (rs_mod _) c ?_
        have h0 := fl_0 (a := p.toNat) (k := k + 1) (by omega)
        rw [show ((p.toNat : Nat) : Int) = p by omega] at h0
        rw [h0, Int.mul_zero, Int.mul_zero]
        exact ep_r 0
  have key1 : ∀ (d k f : Nat) (u : Int), X - k = d → d < f → rs u → ep u (fl (n - p) k) → ∃ v : Int, LX5_changed_6 f n p X Y u k m = some (v, m) ∧ rs v ∧ ep v (fl (n - p) X.toNat * fl p Y.toNat) := by
    intro d
    induction d with
    | zero =>
      intro k f u q1 q3 hu e
      obtain ⟨f, rfl⟩ : ∃ z, f = z + 1 := ⟨f - 1, by omega⟩
      obtain ⟨v, v1, v2, v3⟩ := key2 Y.toNat 0 FU u (by omega) (fu_lt (by omega)) hu (fl (n - p) k) (by show ep u (fl (n - p) k * 1); rw [Int.mul_one]; exact e)
      refine ⟨v, ?_, v2, by rw [show X.toNat = k by omega]; exact v3⟩
      show bX5_changed_6 (LX5_changed_6 f) n p X Y u k m = _
      unfold bX5_changed_6
      rw [wi_id (z := (k : Int)) (by omega) (by omega), wi_id (z := X) (by omega) (by omega), if_neg (by omega)]
      exact v1
    | succ d ih =>
      intro k f u q1 q3 hu e
      obtain ⟨f, rfl⟩ : ∃ z, f = z + 1 := ⟨f - 1, by omega⟩
      show ∃ v : Int, bX5_changed_6 (LX5_changed_6 f) n p X Y u k m = some (v, m) ∧ _
      unfold bX5_changed_6
      rw [wi_id (z := (k : Int)) (by omega) (by omega), wi_id (z := X) (by omega) (by omega), if_pos (by omega), wi_id (z := n - p - k) (by omega) (by omega)]
      by_cases z : 0 < n - p - k
      · rw [if_pos z, mTimes hu ⟨by omega, by omega⟩, cl_some]
        exact ih (k + 1) f _ (by omega) (by omega) (rs_mod _) (ep_t (ep_m _) (ep_u e (ep_r _)))
      · rw [if_neg z, mTimes hu ⟨by decide, by decide⟩, cl_some]
        refine ih (k + 1) f _ (by omega) (by omega) (rs_mod _) ?_
        have h0 := fl_0 (a := (n - p).toNat) (k := k + 1) (by omega)
        rw [show (((n - p).toNat : Nat) : Int) = n - p by omega] at h0
        rw [h0, Int.mul_zero]
        exact ep_r 0
  exact key1 X.toNat 0 FU 1 (by omega) (fu_lt (by omega)) one_rs (ep_r 1)
def R20 (m : HP) : Prop := ∀ j : Nat, j < 20 → rs (m 7 j)
def mO (F : Nat → Int) (M K : Int) (i p : Nat) : Int := F p * (fl (M - p) (K - i).toNat * fl p i)
def mT (G : Nat → Int) (N K : Int) (i q : Nat) : Int := G q * (fl (N - q) i * fl q (K - i).toNat)
theorem mOv3 {M N K : Int} (hM : 0 ≤ M ∧ M ≤ 8) (hN : 0 ≤ N ∧ N ≤ 8) (hK : 0 ≤ K) (hKM : K ≤ M) (hKN : K ≤ N) {x4 by' : Int} (hb : rs by') {i p : Nat} (hi : (i : Int) ≤ K) (hip : i ≤ p) (hpM : (p : Int) ≤ M) (F G : Nat → Int) (C : Int → Int → Int → Int → Int → HP → Option (Int × HP)) : ∀ (d q n : Nat) (m : HP), N + 1 - q = d → K - i ≤ q → d < n → m 0 6 = M → m 0 8 = N → R9 m 5 → R9 m 6 → R20 m → m 5 = F → m 6 = G → ∃ m', LX5_overlap_163 C n K x4 i by' p q m = C K x4 i by' (p + 1) m' ∧ (∀ k, k ≠ 7 → m' k = m k) ∧ R20 m' ∧ ∀ t : Nat, t < 20 → ep (m' 7 t) (m 7 t + by' * (if q + p ≤ t + K.toNat ∧ (t : Int) + K ≤ N + p then mO F M K i p * mT G N K i (t + K.toNat - p) else 0)) := by
  intro d
  induction d with
  | zero =>
    intro q n m q1 q2 q3 h6 h8 r5 r6 r7 eF eG
    obtain ⟨n, rfl⟩ : ∃ z, n = z + 1 := ⟨n - 1, by omega⟩
    refine ⟨m, ?_, fun _ _ => rfl, r7, fun t ht => by rw [if_neg (by omega), Int.mul_zero, Int.add_zero]; exact ep_r _⟩
    show bX5_overlap_163 C (LX5_overlap_163 C n) K x4 i by' p q m = _
    unfold bX5_overlap_163
    rw [h8, wi_id (z := (q : Int)) (by omega) (by omega), wi_id (z := N) (by omega) (by omega), if_neg (by omega)]
  | succ d ih =>
    intro q n m q1 q2 q3 h6 h8 r5 r6 r7 eF eG
    obtain ⟨n, rfl⟩ : ∃ z, n = z + 1 := ⟨n - 1, by omega⟩
    obtain ⟨u, u1, u2, u3⟩ := mCgd hM (p := p) (by omega) (X := K - i) (Y := i) (by omega) (by omega) m
    obtain ⟨v, v1, v2, v3⟩ := mCgd hN (p := q) (by omega) (X := i) (Y := K - i) (by omega) (by omega) m
    rw [show ((i : Int).toNat) = i from rfl] at u3 v3
    have b5 := r5 p (by omega)
    have b6 := r6 q (by omega)
    have w1 : ep (m 5 p * u % 10007) (mO F M K i p) := by unfold mO; rw [← eF]; exact ep_t (ep_m _) (ep_u (ep_r _) u3)
    have w2 : ep (m 6 q * v % 10007) (mT G N K i q) := by unfold mT; rw [← eG]; exact ep_t (ep_m _) (ep_u (ep_r _) v3)
    have e5 : ((p : Int) + q - K).toNat = p + q - K.toNat := by omega
    have b7 := r7 (p + q - K.toNat) (by omega)
    have b8 := rs_mul (rs_mod (m 5 p * u % 10007 * (m 6 q * v % 10007))) hb
    have b9 := b7.1; have b10 := b7.2
    have hst : bX5_overlap_163 C (LX5_overlap_163 C n) K x4 i by' p q m = if m 5 p * u % 10007 = 0 then LX5_overlap_163 C n K x4 i by' p ((q + 1 : Nat) : Int) m else if m 6 q * v % 10007 = 0 then LX5_overlap_163 C n K x4 i by' p ((q + 1 : Nat) : Int) m else LX5_overlap_163 C n K x4 i by' p ((q + 1 : Nat) : Int) (hs m 7 (p + q - K.toNat) ((m 7 (p + q - K.toNat) + m 5 p * u % 10007 * (m 6 q * v % 10007) % 10007 * by') % 10007)) := by
      unfold bX5_overlap_163
      rw [h8, wi_id (z := (q : Int)) (by omega) (by omega), wi_id (z := N) (by omega) (by omega), if_pos (by omega), m5_ld (by omega), h6, u1, cl_some, Int.toNat_natCast, mTimes b5 u2, cl_some, m6_ld (by omega), h8, v1, cl_some, Int.toNat_natCast, mTimes b6 v2, cl_some, rs_wi (rs_mod _), rs_wi (rs_mod _), m7_ld (by omega), e5, mTimes (rs_mod _) (rs_mod _), cl_some, rs_wi b7, rs_wi (rs_mod _), rs_wi hb, mMod (by omega) (by omega), cl_some, m7_st (by omega), e5]
      rfl
    by_cases z : m 5 p * u % 10007 = 0 ∨ m 6 q * v % 10007 = 0
    · obtain ⟨m', e1, e2, e3, e4⟩ := ih (q + 1) n m (by omega) (by omega) (by omega) h6 h8 r5 r6 r7 eF eG
      refine ⟨m', ?_, e2, e3, fun t ht => ?_⟩
      · show bX5_overlap_163 C (LX5_overlap_163 C n) K x4 i by' p q m = _
        rw [hst]
        by_cases y : m 5 p * u % 10007 = 0
        · rw [if_pos y]; exact e1
        · rw [if_neg y, if_pos (by omega)]; exact e1
      · refine ep_t (e4 t ht) (ep_a (ep_r _) (ep_u (ep_r _) ?_))
        by_cases y : q + p = t + K.toNat
        · rw [if_neg (by omega), if_pos (by omega), show t + K.toNat - p = q by omega]
          have y0 : ep (mO F M K i p * mT G N K i q) 0 := by
            rcases z with z | z
            · rw [z] at w1
              have := ep_u (ep_s w1) (ep_r (mT G N K i q))
              rw [Int.zero_mul] at this
              exact this
            · rw [z] at w2
              have := ep_u (ep_r (mO F M K i p)) (ep_s w2)
              rw [Int.mul_zero] at this
              exact this
          exact ep_s y0
        · by_cases y2 : q + p ≤ t + K.toNat ∧ (t : Int) + K ≤ N + p
          · rw [if_pos y2, if_pos (by omega)]; exact ep_r _
          · rw [if_neg y2, if_neg (by omega)]; exact ep_r _
    · have z1 : ¬ m 5 p * u % 10007 = 0 := fun y => z (Or.inl y)
      have z2 : ¬ m 6 q * v % 10007 = 0 := fun y => z (Or.inr y)
      rw [if_neg z1, if_neg z2] at hst
      have r7' : R20 (hs m 7 (p + q - K.toNat) ((m 7 (p + q - K.toNat) + m 5 p * u % 10007 * (m 6 q * v % 10007) % 10007 * by') % 10007)) := fun j hj => by
        by_cases y : j = p + q - K.toNat
        · rw [y, hs_s]; exact rs_mod _
        · rw [hs_j y]; exact r7 j hj
      obtain ⟨m', e1, e2, e3, e4⟩ := ih (q + 1) n _ (by omega) (by omega) (by omega) (by rw [hs_k (by decide)]; exact h6) (by rw [hs_k (by decide)]; exact h8) (R9_k r5 (hs_ne (by decide))) (R9_k r6 (hs_ne (by decide))) r7' ((hs_ne (by decide)).trans eF) ((hs_ne (by decide)).trans eG)
      refine ⟨m', ?_, fun k hk => (e2 k hk).trans (hs_ne hk), e3, fun t ht => ?_⟩
      · show bX5_overlap_163 C (LX5_overlap_163 C n) K x4 i by' p q m = _
        rw [hst]; exact e1
      · refine ep_t (e4 t ht) ?_
        by_cases y : q + p = t + K.toNat
        · have yt : t = p + q - K.toNat := by omega
          rw [if_neg (by omega), if_pos (by omega), show t + K.toNat - p = q by omega, Int.mul_zero, Int.add_zero, yt, hs_s]
          refine ep_t (ep_m _) (ep_a (ep_r _) ?_)
          rw [Int.mul_comm by']
          exact ep_u (ep_t (ep_m _) (ep_u w1 w2)) (ep_r _)
        · rw [hs_j (by omega)]
          by_cases y2 : q + p ≤ t + K.toNat ∧ (t : Int) + K ≤ N + p
          · rw [if_pos y2, if_pos (by omega)]; exact ep_r _
          · rw [if_neg y2, if_neg (by omega)]; exact ep_r _
