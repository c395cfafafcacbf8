/-! Values of forms. -/
def ev (r : Nat → Int) (x y : Int) : Nat → Int
  | 0 => r 0
  | n + 1 => ev r x y n * x + r (n + 1) * y ^ (n + 1)
theorem sm_mul (f : Nat → Int) (c : Int) : ∀ n, sm (fun i => f i * c) n = sm f n * c
  | 0 => by show (0 : Int) = 0 * c; rw [Int.zero_mul]
  | n + 1 => by
    show sm (fun i => f i * c) n + f n * c = (sm f n + f n) * c
    rw [sm_mul f c n, Int.add_mul]
theorem ev_sm (r : Nat → Int) (x y : Int) : ∀ n, ev r x y n = sm (fun i => r i * y ^ i * x ^ (n - i)) (n + 1)
  | 0 => by
    show r 0 = 0 + r 0 * y ^ 0 * x ^ 0
    rw [Int.pow_zero, Int.pow_zero, Int.mul_one, Int.mul_one, Int.zero_add]
  | n + 1 => by
    show ev r x y n * x + r (n + 1) * y ^ (n + 1) = sm (fun i => r i * y ^ i * x ^ (n + 1 - i)) (n + 1) + r (n + 1) * y ^ (n + 1) * x ^ (n + 1 - (n + 1))
    rw [Nat.sub_self, Int.pow_zero, Int.mul_one, ev_sm r x y n, ← sm_mul]
    refine congrArg (fun z => z + r (n + 1) * y ^ (n + 1)) (sm_cg (fun i hi => ?_))
    rw [show n + 1 - i = n - i + 1 by omega, Int.pow_succ, ← Int.mul_assoc]
theorem ep_sm {f g : Nat → Int} : ∀ {n : Nat}, (∀ i, i < n → ep (f i) (g i)) → ep (sm f n) (sm g n)
  | 0, _ => ep_r _
  | n + 1, h => ep_a (ep_sm (fun i hi => h i (by omega))) (h n (by omega))
theorem ev_cg {r q : Nat → Int} {x y : Int} : ∀ {n : Nat}, (∀ i, i ≤ n → r i = q i) → ev r x y n = ev q x y n
  | 0, h => h 0 (by omega)
  | n + 1, h => by
    show ev r x y n * x + r (n + 1) * y ^ (n + 1) = ev q x y n * x + q (n + 1) * y ^ (n + 1)
    rw [ev_cg (fun i hi => h i (by omega)), h (n + 1) (by omega)]
theorem pValL {a : Nat} (ha : 22 ≤ a ∧ a < 27) {N x y : Int} (hN : 0 ≤ N ∧ N ≤ 8) (hx : rs x) (hy : rs y) (g : HP) (hr : ∀ j : Nat, j < 9 → rs (g a j)) : ∀ (d i n : Nat) (u w : Int), N + 1 - i = d → 1 ≤ i → d < n → rs u → rs w → ep u (ev (g a) x y (i - 1)) → ep w (y ^ (i - 1)) → LX2_valueAt_11 n a N x y u w i g = some (ev (g a) x y N.toNat % 10007, g) := by
  intro d
  induction d with
  | zero =>
    intro i n u w q1 q2 q3 hu hw e1 e2
    obtain ⟨n, rfl⟩ : ∃ k, n = k + 1 := ⟨n - 1, by omega⟩
    show bX2_valueAt_11 (LX2_valueAt_11 n) a N x y u w i g = _
    unfold bX2_valueAt_11
    rw [wi_id (z := (i : Int)) (by omega) (by omega), wi_id (z := N) (by omega) (by omega), if_neg (by omega)]
    rw [show i - 1 = N.toNat by omega] at e1
    rw [← e1, rs_id hu]
  | succ d ih =>
    intro i n u w q1 q2 q3 hu hw e1 e2
    obtain ⟨n, rfl⟩ : ∃ k, n = k + 1 := ⟨n - 1, by omega⟩
    have b1 := rs_mul hw hy
    have hg := hr i (by omega)
    have b2 := rs_mul hu hx
    have b3 := rs_mul hg (rs_mod (w * y))
    show bX2_valueAt_11 (LX2_valueAt_11 n) a N x y u w i g = _
    unfold bX2_valueAt_11
    rw [wi_id (z := (i : Int)) (by omega) (by omega), wi_id (z := N) (by omega) (by omega), if_pos (by omega), lt_d, rm_e b1.1 (by omega), w_ld ha (by omega), lt_d, Int.toNat_natCast, rm_e (by omega) (by omega)]
    have p2 : ep (w * y % 10007) (y ^ i) := by
      refine ep_t (ep_m _) ?_
      have e5 : y ^ i = y ^ (i - 1) * y := by
        obtain ⟨k, rfl⟩ : ∃ k, i = k + 1 := ⟨i - 1, by omega⟩
        rw [Nat.add_sub_cancel, Int.pow_succ]
      rw [e5]
      exact ep_u e2 (ep_r y)
    refine ih (i + 1) n _ _ (by omega) (by omega) (by omega) (rs_mod _) (rs_mod _) ?_ (by rw [Nat.add_sub_cancel]; exact p2)
    rw [Nat.add_sub_cancel]
    refine ep_t (ep_m _) ?_
    have e3 : ev (g a) x y i = ev (g a) x y (i - 1) * x + g a i * y ^ i := by
      obtain ⟨k, rfl⟩ : ∃ k, i = k + 1 := ⟨i - 1, by omega⟩
      rfl
    rw [e3]
    exact ep_a (ep_u e1 (ep_r x)) (ep_u (ep_r _) p2)
theorem pVal {a : Nat} (ha : 22 ≤ a ∧ a < 27) {N x y : Int} (hN : 0 ≤ N ∧ N ≤ 8) (hx : rs x) (hy : rs y) {g : HP} (hr : ∀ j : Nat, j < 9 → rs (g a j)) : fX2_valueAt a N x y g = some (ev (g a) x y N.toNat % 10007, g) := by
  unfold fX2_valueAt
  rw [w_ld ha (by omega)]
  exact pValL ha hN hx hy g hr N.toNat 1 FU _ 1 (by omega) (by omega) (fu_lt (by omega)) (hr 0 (by omega)) ⟨by decide, by decide⟩ (ep_r _) (by rw [Nat.sub_self, Int.pow_zero]; exact ep_r 1)
-- the reference
theorem mVal1 {m : HP} {N x1 x2 x3 x4 : Int} (hf : m 0 6 = N) (hN : 0 ≤ N ∧ N ≤ 8) (h1 : rs x1) (h2 : rs x2) (h3 : rs x3) (h4 : rs x4) (K : Int → Int → Int → Int → Int → HP → Option (Int × HP)) (x5 : Int) : ∀ (d k n : Nat) (u : Int), N - k = d → d < n → rs u → LX5_valueF_35 K n x1 x2 x3 x4 x5 u k m = K x1 x2 ((x3 + u * x1 ^ (N.toNat - k)) % 10007) (x4 * x2 % 10007) (x5 + 1) m := by
  intro d
  induction d with
  | zero =>
    intro k n u q1 q3 hu
    obtain ⟨n, rfl⟩ : ∃ z, n = z + 1 := ⟨n - 1, by omega⟩
    show bX5_valueF_35 K (LX5_valueF_35 K n) x1 x2 x3 x4 x5 u k m = _
    unfold bX5_valueF_35
    have r3 := h3.1; have r3' := h3.2; have ru := hu.1; have ru' := hu.2
    rw [hf, wi_id (z := (k : Int)) (by omega) (by omega), wi_id (z := N) (by omega) (by omega), if_neg (by omega), rs_wi h3, rs_wi hu, mMod (by omega) (by omega), cl_some, mTimes h4 h2, cl_some, show N.toNat - k = 0 by omega, Int.pow_zero, Int.mul_one]
  | succ d ih =>
    intro k n u q1 q3 hu
    obtain ⟨n, rfl⟩ : ∃ z, n = z + 1 := ⟨n - 1, by omega⟩
    show bX5_valueF_35 K (LX5_valueF_35 K n) x1 x2 x3 x4 x5 u k m = _
    unfold bX5_valueF_35
    rw [hf, wi_id (z := (k : Int)) (by omega) (by omega), wi_id (z := N) (by omega) (by omega), if_pos (by omega), mTimes hu h1, cl_some]
    have e := ih (k + 1) n (u * x1 % 10007) (by omega) (by omega) (rs_mod _)
    rw [show ((k : Int) + 1) = ((k + 1 : Nat) : Int) from rfl, e]
    refine congrArg (fun z => K x1 x2 z (x4 * x2 % 10007) (x5 + 1) m) ?_
    have : ep (x3 + u * x1 % 10007 * x1 ^ (N.toNat - (k + 1))) (x3 + u * x1 ^ (N.toNat - k)) := by
      refine ep_a (ep_r _) ?_
      rw [show N.toNat - k = N.toNat - (k + 1) + 1 by omega, Int.pow_succ, Int.mul_comm (x1 ^ (N.toNat - (k + 1))) x1, ← Int.mul_assoc]
      exact ep_u (ep_m _) (ep_r _)
    exact this
theorem mVal2 {m : HP} {N x1 x2 : Int} (hf : m 0 6 = N) (hN : 0 ≤ N ∧ N ≤ 8) (h1 : rs x1) (h2 : rs x2) (hr : ∀ j : Nat, j < 9 → rs (m 5 j)) : ∀ (d i n : Nat) (u w : Int), N + 1 - i = d → d < n → rs u → rs w → ep u (sm (fun j => m 5 j * x2 ^ j * x1 ^ (N.toNat - j)) i) → ep w (x2 ^ i) → LX5_valueF_8 n x1 x2 u w i m = some (sm (fun j => m 5 j * x2 ^ j * x1 ^ (N.toNat - j)) (N.toNat + 1) % 10007, m) := by
  intro d
  induction d with
  | zero =>
    intro i n u w q1 q3 hu hw e1 e2
    obtain ⟨n, rfl⟩ : ∃ z, n = z + 1 := ⟨n - 1, by omega⟩
    show bX5_valueF_8 (LX5_valueF_8 n) x1 x2 u w i m = _
    unfold bX5_valueF_8
    rw [hf, wi_id (z := (i : Int)) (by omega) (by omega), wi_id (z := N) (by omega) (by omega), if_neg (by omega)]
    rw [show i = N.toNat + 1 by omega] at e1
    rw [← e1, rs_id hu]
  | succ d ih =>
    intro i n u w q1 q3 hu hw e1 e2
    obtain ⟨n, rfl⟩ : ∃ z, n = z + 1 := ⟨n - 1, by omega⟩
    have hg := hr i (by omega)
    show bX5_valueF_8 (LX5_valueF_8 n) x1 x2 u w i m = _
    unfold bX5_valueF_8
    rw [hf, wi_id (z := (i : Int)) (by omega) (by omega), wi_id (z := N) (by omega) (by omega), if_pos (by omega), m5_ld (by omega), Int.toNat_natCast, mTimes hg hw, cl_some, mVal1 hf hN h1 h2 hu hw (LX5_valueF_8 n) i (N.toNat - i) i FU _ (by omega) (fu_lt (by omega)) (rs_mod _)]
    refine ih (i + 1) n _ _ (by omega) (by omega) (rs_mod _) (rs_mod _) ?_ ?_
    · refine ep_t (ep_m _) (ep_a e1 (ep_u (ep_t (ep_m _) (ep_u (ep_r _) e2)) (ep_r _)))
    · refine ep_t (ep_m _) ?_
      rw [Int.pow_succ]
      exact ep_u e2 (ep_r _)
theorem mVal {m : HP} {N x1 x2 : Int} (hf : m 0 6 = N) (hN : 0 ≤ N ∧ N ≤ 8) (h1 : rs x1) (h2 : rs x2) (hr : ∀ j : Nat, j < 9 → rs (m 5 j)) : fX5_valueF x1 x2 m = some (ev (m 5) x1 x2 N.toNat % 10007, m) := by
  unfold fX5_valueF
  rw [ev_sm]
  exact mVal2 hf hN h1 h2 hr (N.toNat + 1) 0 FU 0 1 (by omega) (fu_lt (by omega)) ⟨by decide, by decide⟩ ⟨by decide, by decide⟩ (ep_r _) (by rw [Int.pow_zero]; exact ep_r 1)
theorem g_value : G_value JJ := by
  intro g m hJ x1 x2 x3 w1 w2 w3
  rcases one_form hJ w1 with ⟨c, e⟩ | ⟨c, r, g1, m1, r0, e, f, hJ1⟩ | ⟨c, hw, hf, e, m1, f1, f2, f3, f4, f5⟩
  · refine ⟨-2, -2, g, m, ?_, ?_, rfl, hJ⟩
    · unfold fX4_value
      rw [e, cl_some, if_neg (by decide)]
    · unfold fX5_value
      rw [mIS_bad w1 c, cl_some, if_pos wi_0]
  · refine ⟨r, r, g1, m1, ?_, ?_, rfl, hJ1⟩
    · unfold fX4_value
      rw [e, cl_some, if_neg r0]
    · unfold fX5_value
      rw [mIS_ok c.1 c.2, cl_some, if_neg (by decide), f, cl_some, if_neg r0]
  · obtain ⟨g1, a1, a2, a3⟩ := pLoad c (a := 22) (by decide) hw
    have r2 := wi_rng w2; have r3 := wi_rng w3
    have hN : 0 ≤ g (2 + x1.toNat) 2 - 1 ∧ g (2 + x1.toNat) 2 - 1 ≤ 8 := by omega
    refine ⟨ev (g1 22) (x2 % 10007) (x3 % 10007) (g (2 + x1.toNat) 2 - 1).toNat % 10007, _, g1, m1, ?_, ?_, rfl, JJ_same hJ (sC_o (a := 22) (by decide) a2) (sM_1 f2 f3)⟩
    · unfold fX4_value
      rw [e, cl_some, if_pos wi_0, a1, cl_some, pRed w2, cl_some, pRed w3, cl_some, pVal (by decide) hN (rs_mod _) (rs_mod _) (fun j hj => by rw [a3 j hj]; exact nb_rs _ _ _), cl_some]
    · unfold fX5_value
      rw [mIS_ok c.1 c.2, cl_some, if_neg (by decide), f1, cl_some, if_pos wi_0, w2, w3, mMod (by omega) (by omega), cl_some, mMod (by omega) (by omega), cl_some, mVal f4 hN (rs_mod _) (rs_mod _) (fun j hj => by rw [f5 j hj]; exact nb_rs _ _ _), cl_some, ev_cg (q := g1 22) (fun i hi => by rw [f5 i (by omega), a3 i (by omega)])]
