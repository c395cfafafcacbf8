/-! Roots. -/
theorem pol_eq : ∀ (n : Nat) {r q : Nat → Int} {v : Int}, (∀ i, i ≤ n → r i = q i) → pol r n v = pol q n v
  | 0, _, _, _, h => h 0 (by omega)
  | n + 1, _, _, _, h => by
    show _ + _ * _ = _ + _ * _
    rw [h 0 (by omega), pol_eq n (fun i hi => h (i + 1) (by omega))]
/-- a form's number at a place -/
def zv (r : Nat → Int) (N v : Nat) : Int := if v = 10007 then r N else pol r N v % 10007
theorem pZV {N : Int} (hN : 0 ≤ N ∧ N ≤ 8) {g : HP} (hr : R9 g 22) {v : Nat} (hv : v ≤ 10007) : fX2_valueAtPlace 22 N v g = some (zv (g 22) N.toNat v, g) := by
  unfold zv
  by_cases c : v = 10007
  · rw [if_pos c, c]; exact pVP9 (by decide) hN
  · rw [if_neg c]; exact pVP (by decide) hN ⟨by omega, by omega⟩ hr
theorem zv_rs {r : Nat → Int} {N v : Nat} (h : rs (r N)) : rs (zv r N v) := by
  unfold zv
  split
  · exact h
  · exact rs_mod _
theorem mIRL {N v : Int} (hN : 0 ≤ N ∧ N ≤ 8) (hv : rs v) {m : HP} (hr : R9 m 5) : ∀ (s n : Nat) (u : Int), (s : Int) ≤ N → s < n → rs u → ep u (pol (fun j => m 5 (s + j)) (N.toNat - s) v) → LX5_isRoot_32 n v u ((s : Int) - 1) m = some (if pol (m 5) N.toNat v % 10007 = 0 then 1 else 0, m) := by
  intro s
  induction s with
  | zero =>
    intro n u q1 q3 hu e
    obtain ⟨n, rfl⟩ : ∃ k, n = k + 1 := ⟨n - 1, by omega⟩
    have e2 : ep u (pol (m 5) N.toNat v) := ep_t e (pol_cg _ (fun i _ => by rw [Nat.zero_add]; exact ep_r _) (ep_r v))
    show bX5_isRoot_32 (LX5_isRoot_32 n) v u _ m = _
    unfold bX5_isRoot_32
    rw [wi_id (z := ((0 : Nat) : Int) - 1) (by omega) (by omega), if_neg (by omega), rs_wi hu, ← e2, rs_id hu]
    by_cases c : u = 0
    · rw [if_pos c, if_pos c]
    · rw [if_neg c, if_neg c]
  | succ s ih =>
    intro n u q1 q3 hu e
    obtain ⟨n, rfl⟩ : ∃ k, n = k + 1 := ⟨n - 1, by omega⟩
    have b1 := rs_mul hu hv
    have b2 := hr s (by omega)
    have b3 := b2.1; have b4 := b2.2
    show bX5_isRoot_32 (LX5_isRoot_32 n) v u _ m = _
    unfold bX5_isRoot_32
    rw [show ((s + 1 : Nat) : Int) - 1 = s by omega, wi_id (z := (s : Int)) (by omega) (by omega), if_pos (by omega), m5_ld (by omega), Int.toNat_natCast, rs_wi hu, rs_wi hv, rs_wi b2, mMod (by omega) (by omega), cl_some, show (s : Int) + (-1) = s - 1 by omega]
    refine ih n _ (by omega) (by omega) (rs_mod _) (ep_t (ep_m _) ?_)
    rw [show N.toNat - s = N.toNat - (s + 1) + 1 by omega]
    show ep (u * v + m 5 s) (m 5 (s + 0) + v * pol (fun i => m 5 (s + (i + 1))) (N.toNat - (s + 1)) v)
    rw [Int.add_comm, Int.mul_comm u v, Nat.add_zero]
    refine ep_a (ep_r _) (ep_u (ep_r _) (ep_t e (pol_cg _ (fun i _ => ?_) (ep_r v))))
    rw [show s + 1 + i = s + (i + 1) by omega]
    exact ep_r _
theorem mIR {N : Int} (hN : 0 ≤ N ∧ N ≤ 8) {m : HP} (h6 : m 0 6 = N) (hr : R9 m 5) {v : Nat} (hv : v ≤ 10007) : fX5_isRoot v m = some (if zv (m 5) N.toNat v = 0 then 1 else 0, m) := by
  have b2 := hr N.toNat (by omega)
  have b3 := b2.1; have b4 := b2.2
  unfold fX5_isRoot zv
  rw [wi_id (z := (v : Int)) (by omega) (by omega), show wi 10007 = 10007 from rfl, h6]
  by_cases c : v = 10007
  · rw [if_pos (by omega), if_pos c, m5_ld (by omega), rs_wi b2]
    by_cases d : m 5 N.toNat = 0
    · rw [if_pos d, if_pos d]
    · rw [if_neg d, if_neg d]
  · rw [if_neg (by omega), if_neg c, lt_d]
    obtain ⟨k, hk⟩ : ∃ k, FU = k + 1 := ⟨FU - 1, rfl⟩
    have hk9 : k = 19999 := by
      have : FU = 20000 := rfl
      omega
    rw [hk]
    show bX5_isRoot_32 (LX5_isRoot_32 k) v 0 N m = _
    unfold bX5_isRoot_32
    rw [wi_id (z := N) (by omega) (by omega), if_pos hN.1, m5_ld (by omega), wi_0, Int.zero_mul, Int.zero_add, rs_wi b2, mMod (by omega) (by omega), cl_some, rs_id b2]
    have := mIRL hN (v := v) ⟨by omega, by omega⟩ hr N.toNat k (m 5 N.toNat) (by omega) (by omega) b2 (by rw [Nat.sub_self]; exact ep_r _)
    rw [show ((N.toNat : Nat) : Int) = N by omega] at this
    exact this
def rC (z : Nat → Int) : Nat → Nat → Nat
  | 0, _ => 0
  | d + 1, v => if z v = 0 then rC z d (v + 1) + 1 else rC z d (v + 1)
def rI (z : Nat → Int) : Nat → Nat → Nat → Int
  | 0, _, _ => -1
  | d + 1, v, i => if z v = 0 then (if i = 0 then (v : Int) else rI z d (v + 1) (i - 1)) else rI z d (v + 1) i
theorem rC_0 {z : Nat → Int} : ∀ {d v : Nat}, (∀ u, v ≤ u → u < v + d → z u ≠ 0) → rC z d v = 0
  | 0, _, _ => rfl
  | d + 1, v, h => by
    show (if z v = 0 then rC z d (v + 1) + 1 else rC z d (v + 1)) = 0
    rw [if_neg (h v (by omega) (by omega))]
    exact rC_0 (fun u a b => h u (by omega) (by omega))
theorem rC_le {z : Nat → Int} : ∀ (d v : Nat), rC z d v ≤ d
  | 0, _ => Nat.le_refl _
  | d + 1, v => by
    show (if z v = 0 then rC z d (v + 1) + 1 else rC z d (v + 1)) ≤ d + 1
    have := rC_le (z := z) d (v + 1)
    split <;> omega
theorem rI_n {z : Nat → Int} : ∀ {d v i : Nat}, rC z d v ≤ i → rI z d v i = -1
  | 0, _, _, _ => rfl
  | d + 1, v, i, h => by
    have h' : (if z v = 0 then rC z d (v + 1) + 1 else rC z d (v + 1)) ≤ i := h
    show (if z v = 0 then (if i = 0 then (v : Int) else rI z d (v + 1) (i - 1)) else rI z d (v + 1) i) = -1
    by_cases c : z v = 0
    · rw [if_pos c] at h' ⊢
      rw [if_neg (by omega)]
      exact rI_n (by omega)
    · rw [if_neg c] at h' ⊢
      exact rI_n h'
theorem rI_r {z : Nat → Int} : ∀ {d v i : Nat}, -1 ≤ rI z d v i ∧ rI z d v i < v + d
  | 0, v, i => by
    show (-1 : Int) ≤ -1 ∧ (-1 : Int) < v + ((0 : Nat) : Int)
    omega
  | d + 1, v, i => by
    show -1 ≤ (if z v = 0 then (if i = 0 then (v : Int) else rI z d (v + 1) (i - 1)) else rI z d (v + 1) i) ∧ (if z v = 0 then (if i = 0 then (v : Int) else rI z d (v + 1) (i - 1)) else rI z d (v + 1) i) < v + ((d + 1 : Nat) : Int)
    by_cases c : z v = 0
    · rw [if_pos c]
      by_cases y : i = 0
      · rw [if_pos y]
        exact ⟨by omega, by omega⟩
      · rw [if_neg y]
        have := rI_r (z := z) (d := d) (v := v + 1) (i := i - 1)
        exact ⟨this.1, by have := this.2; omega⟩
    · rw [if_neg c]
      have := rI_r (z := z) (d := d) (v := v + 1) (i := i)
      exact ⟨this.1, by have := this.2; omega⟩
theorem mRs {N : Int} (hN : 0 ≤ N ∧ N ≤ 8) {m : HP} (h6 : m 0 6 = N) (hr : R9 m 5) : ∀ (d v n c : Nat), 10008 - v = d → v ≤ 10008 → d < n → LX5_roots_27 n c v m = some (((c + rC (zv (m 5) N.toNat) d v : Nat) : Int), m) := by
  intro d
  induction d with
  | zero =>
    intro v n c q1 q2 q3
    obtain ⟨n, rfl⟩ : ∃ k, n = k + 1 := ⟨n - 1, by omega⟩
    show bX5_roots_27 (LX5_roots_27 n) c v m = _
    unfold bX5_roots_27
    rw [wi_id (z := (v : Int)) (by omega) (by omega), show wi 10007 = 10007 from rfl, if_neg (by omega)]
    rfl
  | succ d ih =>
    intro v n c q1 q2 q3
    obtain ⟨n, rfl⟩ : ∃ k, n = k + 1 := ⟨n - 1, by omega⟩
    have e := rC_le (z := zv (m 5) N.toNat) d (v + 1)
    show bX5_roots_27 (LX5_roots_27 n) c v m = some (((c + (if zv (m 5) N.toNat v = 0 then rC (zv (m 5) N.toNat) d (v + 1) + 1 else rC (zv (m 5) N.toNat) d (v + 1)) : Nat) : Int), m)
    unfold bX5_roots_27
    rw [wi_id (z := (v : Int)) (by omega) (by omega), show wi 10007 = 10007 from rfl, if_pos (by omega), mIR hN h6 hr (by omega), cl_some]
    by_cases z : zv (m 5) N.toNat v = 0
    · rw [if_pos z, if_pos z, if_neg (by decide), lt_d]
      have := ih (v + 1) n (c + 1) (by omega) (by omega) (by omega)
      rw [show c + (rC (zv (m 5) N.toNat) d (v + 1) + 1) = c + 1 + rC (zv (m 5) N.toNat) d (v + 1) by omega]
      exact this
    · rw [if_neg z, if_neg z, if_pos wi_0, lt_d, Int.add_zero]
      exact ih (v + 1) n c (by omega) (by omega) (by omega)
theorem mRt {N : Int} (hN : 0 ≤ N ∧ N ≤ 8) {m : HP} (h6 : m 0 6 = N) (hr : R9 m 5) {x : Int} (hx : 0 ≤ x) (wx : wi x = x) : ∀ (d v n c : Nat), 10008 - v = d → v ≤ 10008 → d < n → c ≤ x.toNat → c ≤ v → LX5_root_32 n x c v m = some (rI (zv (m 5) N.toNat) d v (x.toNat - c), m) := by
  intro d
  induction d with
  | zero =>
    intro v n c q1 q2 q3 q4 q5
    obtain ⟨n, rfl⟩ : ∃ k, n = k + 1 := ⟨n - 1, by omega⟩
    show bX5_root_32 (LX5_root_32 n) x c v m = _
    unfold bX5_root_32
    rw [wi_id (z := (v : Int)) (by omega) (by omega), show wi 10007 = 10007 from rfl, if_neg (by omega)]
    rfl
  | succ d ih =>
    intro v n c q1 q2 q3 q4 q5
    obtain ⟨n, rfl⟩ : ∃ k, n = k + 1 := ⟨n - 1, by omega⟩
    show bX5_root_32 (LX5_root_32 n) x c v m = some (if zv (m 5) N.toNat v = 0 then (if x.toNat - c = 0 then (v : Int) else rI (zv (m 5) N.toNat) d (v + 1) (x.toNat - c - 1)) else rI (zv (m 5) N.toNat) d (v + 1) (x.toNat - c), m)
    unfold bX5_root_32
    rw [wi_id (z := (v : Int)) (by omega) (by omega), show wi 10007 = 10007 from rfl, if_pos (by omega), mIR hN h6 hr (by omega), cl_some, wx, wi_id (z := (c : Int)) (by omega) (by omega)]
    by_cases z : zv (m 5) N.toNat v = 0
    · rw [if_pos z, if_pos z, if_neg (show ¬ wi 1 = 0 by decide)]
      by_cases y : (c : Int) = x
      · rw [if_pos y, if_pos (by omega)]
      · rw [if_neg y, if_neg (by omega)]
        have := ih (v + 1) n (c + 1) (by omega) (by omega) (by omega) (by omega) (by omega)
        rw [show x.toNat - (c + 1) = x.toNat - c - 1 by omega] at this
        exact this
    · rw [if_neg z, if_neg z, if_pos wi_0]
      exact ih (v + 1) n c (by omega) (by omega) (by omega) q4 (by omega)
/-- no more roots than the degree -/
theorem no_more {F : Nat → Int} {N : Nat} (hN : N ≤ 8) (hF : ∀ j, j < 9 → rs (F j)) (h0 : ∃ j, j ≤ N ∧ F j ≠ 0) (P : Nat → Nat) (hP : ∀ i j, i < N → j < i → P j < P i) {v : Nat} (hv : ∀ i, i < N → P i < v) (hz : ∀ i, i < N → zv F N (P i) = 0) : ∀ u, v ≤ u → u < 10008 → zv F N u ≠ 0 := by
  intro u h1 h2 h3
  obtain ⟨j, hj, hj0⟩ := h0
  have lowz : ∀ i, i < N → P i < 10007 → ep (pol F N (P i)) 0 := fun i hi hp => by
    have := hz i hi
    unfold zv at this
    rw [if_neg (by omega)] at this
    exact this
  have np : ∀ a b : Nat, a < 10007 → b < 10007 → b < a → ¬ ep (a : Int) (b : Int) := fun a b ha hb hab q => by
    have := ep_i (a := (a : Int)) (b := (b : Int)) ⟨by omega, by omega⟩ ⟨by omega, by omega⟩ q
    omega
  by_cases c : u = 10007
  · unfold zv at h3
    rw [if_pos c] at h3
    match N with
    | 0 =>
      obtain rfl : j = 0 := by omega
      exact hj0 h3
    | M + 1 =>
      have key := pol_0 M F (fun i => (P i : Int)) (fun a b ha hb => np _ _ (by have := hv a (by omega); omega) (by have := hv b (by omega); omega) (hP a b (by omega) hb)) (fun i hi => by
        have h4 := lowz i (by omega) (by have := hv i (by omega); omega)
        rw [pol_hi, h3, Int.zero_mul, Int.add_zero] at h4
        exact h4)
      by_cases d : j = M + 1
      · rw [d] at hj0; exact hj0 h3
      · exact hj0 ((ep_0 (hF j (by omega))).mp (key j (by omega)))
  · have h4 : ep (pol F N u) 0 := by
      unfold zv at h3
      rw [if_neg c] at h3
      exact h3
    have key := pol_0 N F (fun i => ((if i < N then P i else u : Nat) : Int)) (fun a b ha hb => by
      have hb2 := hv b (by omega)
      show ¬ ep ((if a < N then P a else u : Nat) : Int) ((if b < N then P b else u : Nat) : Int)
      rw [if_pos (show b < N by omega)]
      by_cases d : a < N
      · have ha2 := hv a d
        rw [if_pos d]
        exact np _ _ (by omega) (by omega) (hP a b d hb)
      · rw [if_neg d]
        exact np _ _ (by omega) (by omega) (by omega)) (fun i hi => by
      show ep (pol F N ((if i < N then P i else u : Nat) : Int)) 0
      by_cases d : i < N
      · rw [if_pos d]
        exact lowz i d (by have := hv i d; omega)
      · rw [if_neg d]; exact h4)
    exact hj0 ((ep_0 (hF j (by omega))).mp (key j hj))
theorem pFR {N : Int} (hN : 0 ≤ N ∧ N ≤ 8) (F : Nat → Int) (hF : ∀ j, j < 9 → rs (F j)) (h0 : ∃ j, j ≤ N.toNat ∧ F j ≠ 0) : ∀ (d v n c : Nat) (P : Nat → Nat) (g : HP), 10008 - v = d → v ≤ 10008 → d < n → g 22 = F → (c : Int) ≤ N → (∀ i j, i < c → j < i → P j < P i) → (∀ i, i < c → P i < v) → (∀ i, i < c → zv F N.toNat (P i) = 0) → ∃ g', LX4_findRoots_15 n N c v g = some (((c + rC (zv F N.toNat) d v : Nat) : Int), g') ∧ (∀ k, k ≠ 24 → g' k = g k) ∧ (∀ j, j < c → g' 24 j = g 24 j) ∧ ((c : Int) + rC (zv F N.toNat) d v ≤ N) ∧ ∀ j, c ≤ j → j < c + rC (zv F N.toNat) d v → g' 24 j = rI (zv F N.toNat) d v (j - c) := by
  intro d
  induction d with
  | zero =>
    intro v n c P g q1 q2 q3 h22 hc p1 p2 p3
    obtain ⟨n, rfl⟩ : ∃ k, n = k + 1 := ⟨n - 1, by omega⟩
    refine ⟨g, ?_, fun _ _ => rfl, fun _ _ => rfl, by show (c : Int) + ((0 : Nat) : Int) ≤ N; omega, fun j a b => ?_⟩
    · show bX4_findRoots_15 (LX4_findRoots_15 n) N c v g = _
      unfold bX4_findRoots_15
      rw [wi_id (z := (v : Int)) (by omega) (by omega), show wi 10007 = 10007 from rfl, if_neg (by omega)]
      rfl
    · have b' : j < c + 0 := b
      omega
  | succ d ih =>
    intro v n c P g q1 q2 q3 h22 hc p1 p2 p3
    obtain ⟨n, rfl⟩ : ∃ k, n = k + 1 := ⟨n - 1, by omega⟩
    have st : LX4_findRoots_15 (n + 1) N c v g = if (c : Int) < N then (if zv F N.toNat v = 0 then LX4_findRoots_15 n N (c + 1 : Nat) (v + 1 : Nat) (hs g 24 c v) else LX4_findRoots_15 n N c (v + 1 : Nat) g) else some (c, g) := by
      show bX4_findRoots_15 (LX4_findRoots_15 n) N c v g = _
      unfold bX4_findRoots_15
      rw [wi_id (z := (v : Int)) (by omega) (by omega), show wi 10007 = 10007 from rfl, if_pos (by omega), wi_id (z := (c : Int)) (by omega) (by omega), wi_id (z := N) (by omega) (by omega)]
      by_cases y : (c : Int) < N
      · rw [if_pos y, if_pos y, pZV hN (by intro j hj; rw [h22]; exact hF j hj) (by omega), cl_some, h22, rs_wi (zv_rs (hF _ (by omega))), w_st (by decide) (by omega), Int.toNat_natCast]
        rfl
      · rw [if_neg y, if_neg y]
    rw [st]
    by_cases y : (c : Int) < N
    · rw [if_pos y]
      by_cases z : zv F N.toNat v = 0
      · rw [if_pos z]
        have e : rC (zv F N.toNat) (d + 1) v = rC (zv F N.toNat) d (v + 1) + 1 := by
          show (if zv F N.toNat v = 0 then rC (zv F N.toNat) d (v + 1) + 1 else rC (zv F N.toNat) d (v + 1)) = _
          rw [if_pos z]
        have e' : ∀ i, rI (zv F N.toNat) (d + 1) v i = (if i = 0 then (v : Int) else rI (zv F N.toNat) d (v + 1) (i - 1)) := fun i => by
          show (if zv F N.toNat v = 0 then (if i = 0 then (v : Int) else rI (zv F N.toNat) d (v + 1) (i - 1)) else rI (zv F N.toNat) d (v + 1) i) = _
          rw [if_pos z]
        obtain ⟨g', e1, e2, e3, e4, e5⟩ := ih (v + 1) n (c + 1) (fun i => if i < c then P i else v) (hs g 24 c v) (by omega) (by omega) (by omega) (by rw [hs_ne (by decide)]; exact h22) (by omega) (fun i j hi hj => by
          show (if j < c then P j else v) < (if i < c then P i else v)
          rw [if_pos (show j < c by omega)]
          by_cases w : i < c
          · rw [if_pos w]; exact p1 i j w hj
          · rw [if_neg w]; exact p2 j (by omega)) (fun i hi => by
          show (if i < c then P i else v) < v + 1
          by_cases w : i < c
          · rw [if_pos w]; have := p2 i w; omega
          · rw [if_neg w]; omega) (fun i hi => by
          show zv F N.toNat (if i < c then P i else v) = 0
          by_cases w : i < c
          · rw [if_pos w]; exact p3 i w
          · rw [if_neg w]; exact z)
        refine ⟨g', ?_, fun k hk => (e2 k hk).trans (hs_ne hk), fun j hj => by rw [e3 j (by omega), hs_j (by omega)], by rw [e]; omega, fun j a b => ?_⟩
        · rw [e, show c + (rC (zv F N.toNat) d (v + 1) + 1) = c + 1 + rC (zv F N.toNat) d (v + 1) by omega]
          exact e1
        · rw [e] at b
          by_cases w : j = c
          · rw [w, e3 c (by omega), hs_s, Nat.sub_self, e', if_pos rfl]
          · rw [e5 j (by omega) (by omega), e', if_neg (by omega), show j - c - 1 = j - (c + 1) by omega]
      · rw [if_neg z]
        have e : rC (zv F N.toNat) (d + 1) v = rC (zv F N.toNat) d (v + 1) := by
          show (if zv F N.toNat v = 0 then rC (zv F N.toNat) d (v + 1) + 1 else rC (zv F N.toNat) d (v + 1)) = _
          rw [if_neg z]
        have e' : ∀ i, rI (zv F N.toNat) (d + 1) v i = rI (zv F N.toNat) d (v + 1) i := fun i => by
          show (if zv F N.toNat v = 0 then (if i = 0 then (v : Int) else rI (zv F N.toNat) d (v + 1) (i - 1)) else rI (zv F N.toNat) d (v + 1) i) = _
          rw [if_neg z]
        obtain ⟨g', e1, e2, e3, e4, e5⟩ := ih (v + 1) n c P g (by omega) (by omega) (by omega) h22 hc p1 (fun i hi => by have := p2 i hi; omega) p3
        exact ⟨g', by rw [e]; exact e1, e2, e3, by rw [e]; exact e4, fun j a b => by rw [e']; rw [e] at b; exact e5 j a b⟩
    · rw [if_neg y]
      have e : rC (zv F N.toNat) (d + 1) v = 0 := rC_0 (fun u h1 h2 => no_more (by omega) hF h0 P (fun i j hi hj => p1 i j (by omega) hj) (fun i hi => p2 i (by omega)) (fun i hi => p3 i (by omega)) u h1 (by omega))
      refine ⟨g, by rw [e]; rfl, fun _ _ => rfl, fun _ _ => rfl, by rw [e]; omega, fun j a b => ?_⟩
      rw [e] at b
      omega
theorem pNo {g : HP} {s : Nat} (hs' : s < 10) (hw : WS g s) : ∀ (d i n : Nat), g (2 + s) 2 - i = d → d < n → ((∀ j : Nat, i ≤ j → (j : Int) < g (2 + s) 2 → nb g s j = 0) → LX3_isNought_2 n (2 + s) i g = some (1, g)) ∧ ((∃ j : Nat, i ≤ j ∧ (j : Int) < g (2 + s) 2 ∧ nb g s j ≠ 0) → LX3_isNought_2 n (2 + s) i g = some (0, g)) := by
  have z1 := hw.1; have z2 := hw.2.1
  intro d
  induction d with
  | zero =>
    intro i n q1 q3
    obtain ⟨n, rfl⟩ : ∃ k, n = k + 1 := ⟨n - 1, by omega⟩
    refine ⟨fun _ => ?_, fun ⟨j, a, b, _⟩ => by omega⟩
    show bX3_isNought_2 (LX3_isNought_2 n) (2 + s) i g = _
    unfold bX3_isNought_2
    rw [wi_id (z := (i : Int)) (by omega) (by omega), wi_id (z := g (2 + s) 2) (by omega) (by omega), if_neg (by omega)]
  | succ d ih =>
    intro i n q1 q3
    obtain ⟨n, rfl⟩ : ∃ k, n = k + 1 := ⟨n - 1, by omega⟩
    obtain ⟨i1, i2⟩ := ih (i + 1) n (by omega) (by omega)
    have st : LX3_isNought_2 (n + 1) (2 + s) i g = if nb g s i = 0 then LX3_isNought_2 n (2 + s) (i + 1 : Nat) g else some (0, g) := by
      show bX3_isNought_2 (LX3_isNought_2 n) (2 + s) i g = _
      unfold bX3_isNought_2
      rw [wi_id (z := (i : Int)) (by omega) (by omega), wi_id (z := g (2 + s) 2) (by omega) (by omega), if_pos (by omega), pNum hs' hw (by omega) (wi_id (by omega) (by omega)), cl_some, Int.toNat_natCast, rs_wi (nb_rs _ _ _)]
      rfl
    rw [st]
    by_cases c : nb g s i = 0
    · rw [if_pos c]
      refine ⟨fun h => i1 (fun j a b => h j (by omega) b), fun ⟨j, a, b, e⟩ => i2 ⟨j, ?_, b, e⟩⟩
      by_cases z : j = i
      · rw [z] at e; exact absurd c e
      · omega
    · rw [if_neg c]
      exact ⟨fun h => absurd (h i (by omega) (by omega)) c, fun _ => rfl⟩
theorem pNot {g : HP} {s : Nat} (hs' : s < 10) (hw : WS g s) : ((∀ j : Nat, (j : Int) < g (2 + s) 2 → nb g s j = 0) ∧ fX3_isNought (2 + s) g = some (1, g)) ∨ ((∃ j : Nat, (j : Int) < g (2 + s) 2 ∧ nb g s j ≠ 0) ∧ fX3_isNought (2 + s) g = some (0, g)) := by
  have z1 := hw.1; have z2 := hw.2.1
  obtain ⟨a, b⟩ := pNo hs' hw (g (2 + s) 2).toNat 0 FU (by omega) (fu_lt (by omega))
  by_cases c : ∃ j : Nat, (j : Int) < g (2 + s) 2 ∧ nb g s j ≠ 0
  · obtain ⟨j, h1, h2⟩ := c
    exact Or.inr ⟨⟨j, h1, h2⟩, b ⟨j, by omega, h1, h2⟩⟩
  · have d : ∀ j : Nat, (j : Int) < g (2 + s) 2 → nb g s j = 0 := fun j h => by
      by_cases z : nb g s j = 0
      · exact z
      · exact absurd ⟨j, h, z⟩ c
    exact Or.inl ⟨d, a (fun j _ h => d j h)⟩
theorem one_root {g m : HP} (hJ : JJ g m) {x : Int} (wx : wi x = x) :
    (¬ (0 ≤ x ∧ x < 10) ∧ fX4_refuseRoots x x g = some (-2, g)) ∨
    ((0 ≤ x ∧ x < 10) ∧ ∃ (r : Int) (g1 m1 : HP), wi r ≠ 0 ∧ fX4_refuseRoots x x g = some (r, g1) ∧ fX5_lacksRoots x m = some (r, m1) ∧ JJ g1 m1) ∨
    ((0 ≤ x ∧ x < 10) ∧ fX4_refuseRoots x x g = some (0, g) ∧ ∃ (m1 g1 : HP) (N : Int), (0 ≤ N ∧ N ≤ 8) ∧ fX5_lacksRoots x m = some (0, m1) ∧ fX4_load x 22 g = some (N, g1) ∧ sameC g g1 ∧ sameM m m1 ∧ m1 0 6 = N ∧ R9 g1 22 ∧ R9 m1 5 ∧ (∀ j, j < 9 → m1 5 j = g1 22 j) ∧ ∃ j, j ≤ N.toNat ∧ g1 22 j ≠ 0) := by
  rcases one_form hJ wx with ⟨c, e⟩ | ⟨c, r, g1, m1, r0, e, f, hJ1⟩ | ⟨c, hw, hf, e, m1, f1, f2, f3, f4, f5⟩
  · refine Or.inl ⟨c, ?_⟩
    unfold fX4_refuseRoots
    rw [e, cl_some, if_neg (by decide)]
  · refine Or.inr (Or.inl ⟨c, r, g1, m1, r0, ?_, ?_, hJ1⟩)
    · unfold fX4_refuseRoots
      rw [e, cl_some, if_neg r0]
    · unfold fX5_lacksRoots
      rw [f, cl_some, if_neg r0]
  · have s1 : x.toNat < 10 := by omega
    have R5 : R9 m1 5 := fun j hj => by rw [f5 j hj]; exact nb_rs _ _ _
    rcases pNot s1 hw with ⟨hz, ez⟩ | ⟨hz, ez⟩
    · refine Or.inr (Or.inl ⟨c, -3, g, m1, by decide, ?_, ?_, JJ_same hJ (sC_r g) (sM_1 f2 f3)⟩)
      · unfold fX4_refuseRoots
        rw [e, cl_some, if_pos wi_0, lda_t c.1 c.2, ez, cl_some, if_neg (by decide)]
      · unfold fX5_lacksRoots
        rcases mNF (by omega) f4 R5 with ⟨hF, eF⟩ | ⟨⟨j, hj, hF⟩, eF⟩
        · rw [f1, cl_some, if_pos wi_0, eF, cl_some, if_neg (by decide)]
        · rw [f5 j (by omega)] at hF
          exact absurd (hz j (by omega)) hF
    · obtain ⟨g1, a1, a2, a3⟩ := pLoad c (a := 22) (by decide) hw
      obtain ⟨j, hj, h0⟩ := hz
      refine Or.inr (Or.inr ⟨c, ?_, m1, g1, _, by omega, ?_, a1, sC_o (a := 22) (by decide) a2, sM_1 f2 f3, f4, fun j hj => by rw [a3 j hj]; exact nb_rs _ _ _, R5, fun j hj => by rw [f5 j hj, a3 j hj], j, by omega, by rw [a3 j (by omega)]; exact h0⟩)
      · unfold fX4_refuseRoots
        rw [e, cl_some, if_pos wi_0, lda_t c.1 c.2, ez, cl_some, if_pos wi_0, lda_t c.1 c.2, ez, cl_some, if_pos wi_0]
      · unfold fX5_lacksRoots
        rcases mNF (by omega) f4 R5 with ⟨hF, eF⟩ | ⟨hF, eF⟩
        · exact absurd (by rw [← f5 j (by omega)]; exact hF j (by omega)) h0
        · rw [f1, cl_some, if_pos wi_0, eF, cl_some, if_pos wi_0]
theorem g_roots : G_roots JJ := by
  intro g m hJ x1 w1
  rcases one_root hJ w1 with ⟨c, e⟩ | ⟨c, r, g1, m1, r0, e, f, hJ1⟩ | ⟨c, e, m1, g1, N, zN, f1, f2, hc, hm, h6, r22, r5, h5, h0⟩
  · refine ⟨-2, -2, g, m, ?_, ?_, rfl, hJ⟩
    · unfold fX4_roots
      rw [e, cl_some, if_neg (by decide)]
    · unfold fX5_roots
      rw [mIS_bad w1 c, cl_some, if_pos wi_0]
  · refine ⟨r, r, g1, m1, ?_, ?_, rfl, hJ1⟩
    · unfold fX4_roots
      rw [e, cl_some, if_neg r0]
    · unfold fX5_roots
      rw [mIS_ok c.1 c.2, cl_some, if_neg (by decide), f, cl_some, if_neg r0]
  · have ez : zv (m1 5) N.toNat = zv (g1 22) N.toNat := by
      funext v
      unfold zv
      rw [pol_eq N.toNat (fun i hi => h5 i (by omega)), h5 N.toNat (by omega)]
    obtain ⟨g2, o1, o2, o3, o4, o5⟩ := pFR zN (g1 22) r22 h0 10008 0 FU 0 (fun i => i) g1 (by omega) (by omega) (by decide) rfl (by omega) (fun i j a b => by omega) (fun i a => by omega) (fun i a => by omega)
    have q1 := mRs zN h6 r5 10008 0 FU 0 (by omega) (by omega) (by decide)
    rw [ez] at q1
    rw [show ((0 : Nat) : Int) = 0 from rfl] at o1 q1
    refine ⟨((0 + rC (zv (g1 22) N.toNat) 10008 0 : Nat) : Int), ((0 + rC (zv (g1 22) N.toNat) 10008 0 : Nat) : Int), g2, m1, ?_, ?_, rfl, JJ_same hJ (sC_t hc (sC_o (a := 24) (by decide) o2)) hm⟩
    · unfold fX4_roots fX4_findRoots
      rw [e, cl_some, if_pos wi_0, f2, cl_some, o1, cl_some]
    · unfold fX5_roots
      rw [mIS_ok c.1 c.2, cl_some, if_neg (by decide), f1, cl_some, if_pos wi_0, q1]
theorem g_root : G_root JJ := by
  intro g m hJ x1 x2 w1 w2
  by_cases c2 : 0 ≤ x2
  · rcases one_root hJ w1 with ⟨c, e⟩ | ⟨c, r, g1, m1, r0, e, f, hJ1⟩ | ⟨c, e, m1, g1, N, zN, f1, f2, hc, hm, h6, r22, r5, h5, h0⟩
    · refine ⟨-2, -2, g, m, ?_, ?_, rfl, hJ⟩
      · unfold fX4_root
        rw [w2, if_neg (by omega), e, cl_some, if_neg (by decide)]
      · unfold fX5_root
        rw [mIS_bad w1 c, cl_some, if_pos wi_0]
    · refine ⟨r, r, g1, m1, ?_, ?_, rfl, hJ1⟩
      · unfold fX4_root
        rw [w2, if_neg (by omega), e, cl_some, if_neg r0]
      · unfold fX5_root
        rw [mIS_ok c.1 c.2, cl_some, if_neg (by decide), w2, if_neg (by omega), f, cl_some, if_neg r0]
    · have ez : zv (m1 5) N.toNat = zv (g1 22) N.toNat := by
        funext v
        unfold zv
        rw [pol_eq N.toNat (fun i hi => h5 i (by omega)), h5 N.toNat (by omega)]
      obtain ⟨g2, o1, o2, o3, o4, o5⟩ := pFR zN (g1 22) r22 h0 10008 0 FU 0 (fun i => i) g1 (by omega) (by omega) (by decide) rfl (by omega) (fun i j a b => by omega) (fun i a => by omega) (fun i a => by omega)
      have q1 := mRt zN h6 r5 c2 w2 10008 0 FU 0 (by omega) (by omega) (by decide) (by omega) (by omega)
      rw [ez] at q1
      rw [show ((0 : Nat) : Int) = 0 from rfl] at o1 q1
      rw [Nat.zero_add] at o1
      refine ⟨rI (zv (g1 22) N.toNat) 10008 0 x2.toNat, rI (zv (g1 22) N.toNat) 10008 0 x2.toNat, g2, m1, ?_, ?_, rfl, JJ_same hJ (sC_t hc (sC_o (a := 24) (by decide) o2)) hm⟩
      · unfold fX4_root fX4_findRoots
        rw [w2, if_neg (by omega), e, cl_some, if_pos wi_0, f2, cl_some, o1, cl_some, wi_id (z := ((rC (zv (g1 22) N.toNat) 10008 0 : Nat) : Int)) (by omega) (by omega)]
        by_cases y : x2 < ((rC (zv (g1 22) N.toNat) 10008 0 : Nat) : Int)
        · rw [if_pos y, w_ld (by decide) (by omega), o5 x2.toNat (by omega) (by omega), Nat.sub_zero]
        · rw [if_neg y, rI_n (by omega)]
      · unfold fX5_root
        rw [mIS_ok c.1 c.2, cl_some, if_neg (by decide), w2, if_neg (by omega), f1, cl_some, if_pos wi_0, q1, Nat.sub_zero]
  · refine ⟨-2, -2, g, m, ?_, ?_, rfl, hJ⟩
    · unfold fX4_root
      rw [w2, if_pos (by omega)]
    · unfold fX5_root
      by_cases c : 0 ≤ x1 ∧ x1 < 10
      · rw [mIS_ok c.1 c.2, cl_some, if_neg (by decide), w2, if_pos (by omega)]
      · rw [mIS_bad w1 c, cl_some, if_pos wi_0]
