/-! Rows that are independent are cleared to the end. -/
theorem pRd {R k : Nat} (hR : R ≤ 16) (hk : k < 16) (hkR : k ≤ R) {A : Nat → Nat → Int} (hA : ∀ z, kr A R (k + 1) z → z k = 0 → ∀ j, j < k → ep (z j) 0) : ∀ (d p n : Nat) (g : HP), k - p = d → p ≤ k → d < n → RB (cm g) R (k + 1) → rs (g 27 1) → (∀ r j, r < R → j < p → cm g r j = if r = j then 1 else 0) → (∀ z, kr (cm g) R (k + 1) z ↔ kr A R (k + 1) z) → ∃ g', LX0_reduce_11 n R (k + 1 : Nat) k p p g = some ((k : Int), g') ∧ (∀ a, a ≠ 27 → a ≠ 28 → g' a = g a) ∧ RB (cm g') R (k + 1) ∧ (∀ r j, r < R → j < k → cm g' r j = if r = j then 1 else 0) ∧ (∀ z, kr (cm g') R (k + 1) z ↔ kr A R (k + 1) z) := by
  intro d
  induction d with
  | zero =>
    intro p n g q1 q2 q3 hb hp hj hq
    obtain ⟨n, rfl⟩ : ∃ k, n = k + 1 := ⟨n - 1, by omega⟩
    have e : p = k := by omega
    subst e
    exact ⟨g, pSt_e hR (by omega) (by omega) hkR (Or.inr rfl) g n, fun _ _ _ => rfl, hb, hj, hq⟩
  | succ d ih =>
    intro p n g q1 q2 q3 hb hp hj hq
    obtain ⟨n, rfl⟩ : ∃ k, n = k + 1 := ⟨n - 1, by omega⟩
    by_cases z : ∃ j, j ≤ R ∧ (if p + j < R then cm g (p + j) p else 0) ≠ 0
    · obtain ⟨t, h1, h2, h3⟩ := fnz (F := fun j => if p + j < R then cm g (p + j) p else 0) z
      have h4 : p + t < R := by
        by_cases y : p + t < R
        · exact y
        · rw [if_neg y] at h2; exact absurd rfl h2
      rw [if_pos h4] at h2
      have h5 : ∀ j, p ≤ j → j < p + t → cm g j p = 0 := fun j a b => by
        have := h3 (j - p) (by omega)
        rw [if_pos (by omega), show p + (j - p) = j by omega] at this
        exact this
      obtain ⟨q, hq'⟩ : ∃ q, q = p + t := ⟨_, rfl⟩
      rw [← hq'] at h2 h4 h5
      obtain ⟨g', a1, a2, a3, a4, a5, a6, a7⟩ := pSt_y hR (C := k + 1) (by omega) (Cl := k) (by omega) (ρ := p) (c := p) (by omega) (q := q) (by omega) h4 hb h2 h5 hp n
      have hpR : p < R := by omega
      have bq := hb q p h4 (by omega)
      have inv := fer bq h2
      have e0 : ∀ j, j < k + 1 → ep (cm g' p j) (cm g q j * pw (cm g q p)) := fun j hj' => by rw [a6 j hj']; exact ep_m _
      have e1 : ∀ j, j < p → cm g' p j = 0 := fun j hj' => by rw [a6 j (by omega), hj q j h4 hj', if_neg (by omega), Int.zero_mul]; rfl
      have e2 : cm g' p p = 1 := ep_i (a3 p p hpR (by omega)) ⟨by decide, by decide⟩ (ep_t (e0 p (by omega)) inv)
      obtain ⟨g2, b1, b2, b3, b4, b5⟩ := ih (p + 1) n g' (by omega) (by omega) (by omega) a3 a4 (fun r j hr hj' => by
        by_cases y : r = p
        · subst y
          by_cases w : j = r
          · rw [w, e2, if_pos rfl]
          · rw [e1 j (by omega), if_neg (by omega)]
        · have hx := a7 r j hr y (by omega)
          by_cases w : j = p
          · subst w
            rw [e2, Int.mul_one, Int.sub_self] at hx
            rw [(ep_0 (a3 r j hr (by omega))).mp hx, if_neg y]
          · rw [e1 j (by omega), Int.mul_zero, Int.sub_zero] at hx
            have hs2 := sx_lt hpR h4 hr
            rw [ep_i (a3 r j hr (by omega)) (hb _ j hs2 (by omega)) hx, hj _ j hs2 (by omega)]
            unfold sx
            rw [if_neg y]
            by_cases v : r = q
            · rw [if_pos v, if_neg (by omega), if_neg (by omega)]
            · rw [if_neg v]) (fun z => by
        constructor
        · intro hz
          refine (hq z).mp (kr_c (T' := cm g') (fun s hs' => ?_) hz)
          by_cases y : s = q
          · refine ⟨p, p, cm g q p, 0, hpR, hpR, fun j hj' => ?_⟩
            rw [y, Int.zero_mul, Int.add_zero]
            have t1 := ep_u (ep_r (cm g q p)) (e0 j hj')
            have t2 : cm g q p * (cm g q j * pw (cm g q p)) = cm g q p * pw (cm g q p) * cm g q j := by
              rw [Int.mul_comm (cm g q j), Int.mul_assoc]
            rw [t2] at t1
            have t3 := ep_u inv (ep_r (cm g q j))
            rw [Int.one_mul] at t3
            exact ep_s (ep_t t1 t3)
          · have k1 : sx p q s ≠ p := by
              by_cases v : s = p
              · rw [v, sx_p]; omega
              · rw [sx_o v y]; exact v
            have k2 : sx p q (sx p q s) = s := by
              by_cases v : s = p
              · rw [v, sx_p, sx_q (by omega)]
              · rw [sx_o v y, sx_o v y]
            refine ⟨p, sx p q s, cm g s p, 1, hpR, sx_lt hpR h4 hs', fun j hj' => ?_⟩
            have t1 := a7 (sx p q s) j (sx_lt hpR h4 hs') k1 hj'
            rw [k2] at t1
            have t2 := ep_a (ep_r (cm g s p * cm g' p j)) t1
            rw [Int.one_mul]
            rw [show cm g s p * cm g' p j + (cm g s j - cm g s p * cm g' p j) = cm g s j by omega] at t2
            exact ep_s t2
        · intro hz
          refine kr_c (T' := cm g) (fun s hs' => ?_) ((hq z).mpr hz)
          by_cases y : s = p
          · refine ⟨q, q, pw (cm g q p), 0, h4, h4, fun j hj' => ?_⟩
            rw [y, Int.zero_mul, Int.add_zero, Int.mul_comm]
            exact e0 j hj'
          · refine ⟨sx p q s, q, 1, -(cm g (sx p q s) p * pw (cm g q p)), sx_lt hpR h4 hs', h4, fun j hj' => ?_⟩
            have t1 := a7 s j hs' y hj'
            refine ep_t t1 ?_
            rw [Int.one_mul, Int.neg_mul, ← Int.sub_eq_add_neg, Int.mul_assoc, Int.mul_comm (pw (cm g q p))]
            exact ep_b (ep_r _) (ep_u (ep_r _) (e0 j hj')))
      exact ⟨g2, by rw [a1]; exact b1, fun a x y => (b2 a x y).trans (a2 a x y), b3, b4, b5⟩
    · exfalso
      refine piv (T := cm g) (A := A) (R := R) (k := k) (p := p) (by omega) (fun r j hr hj1 hj2 => ?_) (fun r hr => ?_) (by omega) hA (fun z hz => (hq z).mp hz) (fun r h1 h2 => ?_)
      · rw [hj r j hr hj1, if_neg (by omega)]; exact ep_r 0
      · rw [hj r r (by omega) hr, if_pos rfl]; exact ep_10
      · by_cases w : cm g r p = 0
        · rw [w]; exact ep_r 0
        · refine absurd ⟨r - p, by omega, ?_⟩ z
          rw [if_pos (by omega), show p + (r - p) = r by omega]
          exact w
theorem mEk {k : Nat} (hk : k < 16) {A : Nat → Nat → Int} (hA : ∀ z, kr A k (k + 1) z → z k = 0 → ∀ j, j < k → ep (z j) 0) : ∀ (d p n : Nat) (m : HP), k - p = d → p ≤ k → d + 1 < n → RB (mm m) k (k + 1) → rs (m 0 13) → (∀ r j, r < k → j < p → j < r → mm m r j = 0) → (∀ r, r < p → mm m r r ≠ 0) → (∀ z, kr (mm m) k (k + 1) z → kr A k (k + 1) z) → ∃ m', LX5_eliminate_10 n k (k + 1 : Nat) p p m = some ((k : Int), m') ∧ (∀ a, a ≠ 0 → a ≠ 9 → m' a = m a) ∧ (∀ j, j ≠ 13 → m' 0 j = m 0 j) ∧ RB (mm m') k (k + 1) ∧ (∀ r j, r < k → j < r → mm m' r j = 0) ∧ (∀ r, r < k → mm m' r r ≠ 0) ∧ (∀ z, kr (mm m') k (k + 1) z → kr A k (k + 1) z) := by
  intro d
  induction d with
  | zero =>
    intro p n m q1 q2 q3 hb hp hj hd hq
    obtain ⟨n, rfl⟩ : ∃ k, n = k + 2 := ⟨n - 2, by omega⟩
    have e : p = k := by omega
    subst e
    have mm2 : ∀ r j, mm (hs m 0 13 0) r j = mm m r j := fun r j => hs_k (by decide)
    have mm3 : mm (hs m 0 13 0) = mm m := by funext r j; exact mm2 r j
    refine ⟨hs m 0 13 0, ?_, fun a x y => hs_ne x, fun j x => hs_j x, by rw [mm3]; exact hb, fun r j a b => by rw [mm2]; exact hj r j a (by omega) b, fun r a => by rw [mm2]; exact hd r a, by rw [mm3]; exact hq⟩
    rw [mSt_n (by omega) (by omega) (Nat.le_refl _) (by omega) hb (fun j a b => by omega) (n + 1)]
    exact mSt_e _ n
  | succ d ih =>
    intro p n m q1 q2 q3 hb hp hj hd hq
    obtain ⟨n, rfl⟩ : ∃ k, n = k + 1 := ⟨n - 1, by omega⟩
    by_cases z : ∃ j, j ≤ k ∧ (if p + j < k then mm m (p + j) p else 0) ≠ 0
    · obtain ⟨t, h1, h2, h3⟩ := fnz (F := fun j => if p + j < k then mm m (p + j) p else 0) z
      have h4 : p + t < k := by
        by_cases y : p + t < k
        · exact y
        · rw [if_neg y] at h2; exact absurd rfl h2
      rw [if_pos h4] at h2
      have h5 : ∀ j, p ≤ j → j < p + t → mm m j p = 0 := fun j a b => by
        have := h3 (j - p) (by omega)
        rw [if_pos (by omega), show p + (j - p) = j by omega] at this
        exact this
      obtain ⟨q, hq'⟩ : ∃ q, q = p + t := ⟨_, rfl⟩
      rw [← hq'] at h2 h4 h5
      have hpR : p < k := by omega
      obtain ⟨m', b1, b2, b3, b4, b5, b6, b7, b8, b9, b10⟩ := mSt_y (R := k) (C := k + 1) (ρ := p) (c := p) (q := q) (by omega) (by omega) (by omega) (by omega) h4 hb h2 h5 hp n
      have bq := hb q p h4 (by omega)
      have inv := fer bq h2
      have sge : ∀ r, p < r → r < k → p ≤ sx p q r := fun r x y => by
        unfold sx
        split
        · omega
        · split <;> omega
      obtain ⟨m2, e1, e2, e3, e4, e5, e6, e7⟩ := ih (p + 1) n m' (by omega) (by omega) (by omega) b4 b5 (fun r j hr hj1 hj2 => by
        by_cases y : r < p
        · rw [b8 r j y (by omega)]; exact hj r j hr (by omega) hj2
        · by_cases w : r = p
          · rw [w, b7 j (by omega)]; exact hj q j h4 (by omega) (by omega)
          · have k1 := sge r (by omega) hr
            have k2 := sx_lt hpR h4 hr
            by_cases v : j = p
            · rw [v]
              have t1 := b10 r p (by omega) hr (by omega) (by omega)
              have t2 := ep_u (ep_r (mm m (sx p q r) p)) inv
              rw [Int.mul_one, Int.mul_comm (mm m q p), ← Int.mul_assoc] at t2
              have t3 := ep_b (ep_r (mm m (sx p q r) p)) t2
              rw [Int.sub_self] at t3
              exact (ep_0 (b4 r p hr (by omega))).mp (ep_t t1 t3)
            · rw [b9 r j (by omega) hr (by omega)]
              exact hj _ j k2 (by omega) (by omega)) (fun r hr => by
        by_cases w : r = p
        · rw [w, b7 p (by omega)]; exact h2
        · rw [b8 r r (by omega) (by omega)]; exact hd r (by omega)) (fun z hz => by
        refine hq z (kr_c (T' := mm m') (fun s hs' => ?_) hz)
        by_cases y : s = q
        · refine ⟨p, p, 1, 0, hpR, hpR, fun j hj' => ?_⟩
          rw [y, b7 j hj', Int.zero_mul, Int.add_zero, Int.one_mul]
          exact ep_r _
        · by_cases w : s < p
          · refine ⟨s, s, 1, 0, hs', hs', fun j hj' => ?_⟩
            rw [b8 s j w hj', Int.zero_mul, Int.add_zero, Int.one_mul]
            exact ep_r _
          · have k1 : p < sx p q s := by
              by_cases v : s = p
              · rw [v, sx_p]; omega
              · rw [sx_o v y]; omega
            have k2 : sx p q (sx p q s) = s := by
              by_cases v : s = p
              · rw [v, sx_p, sx_q (by omega)]
              · rw [sx_o v y, sx_o v y]
            have k3 := sx_lt hpR h4 hs'
            refine ⟨p, sx p q s, mm m s p * pw (mm m q p), 1, hpR, k3, fun j hj' => ?_⟩
            rw [Int.one_mul, b7 j hj']
            by_cases v : j < p
            · rw [b9 (sx p q s) j k1 k3 v, k2, hj q j h4 v (by omega), Int.mul_zero, Int.zero_add]
              exact ep_r _
            · have t1 := b10 (sx p q s) j k1 k3 (by omega) hj'
              rw [k2] at t1
              have t2 := ep_a (ep_r (mm m s p * pw (mm m q p) * mm m q j)) t1
              rw [show mm m s p * pw (mm m q p) * mm m q j + (mm m s j - mm m s p * pw (mm m q p) * mm m q j) = mm m s j by omega] at t2
              exact ep_s t2)
      exact ⟨m2, by rw [b1]; exact e1, fun a x y => (e2 a x y).trans (b2 a x y), fun j x => (e3 j x).trans (b3 j x), e4, e5, e6, e7⟩
    · exfalso
      refine piv (T := mm m) (A := A) (R := k) (k := k) (p := p) (by omega) (fun r j hr hj1 hj2 => ?_) (fun r hr => ?_) (by omega) hA hq (fun r h1 h2 => ?_)
      · rw [hj r j hr hj1 hj2]; exact ep_r 0
      · exact (nz_rs (hb r r (by omega) (by omega))).mpr (hd r hr)
      · by_cases w : mm m r p = 0
        · rw [w]; exact ep_r 0
        · refine absurd ⟨r - p, by omega, ?_⟩ z
          rw [if_pos (by omega), show p + (r - p) = r by omega]
          exact w
