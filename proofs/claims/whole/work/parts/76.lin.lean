/-! Rows and what they send to nought. -/
def kr (T : Nat → Nat → Int) (R C : Nat) (z : Nat → Int) : Prop := ∀ i, i < R → ep (sm (fun j => T i j * z j) C) 0
theorem sm_lin (f g : Nat → Int) (a b : Int) : ∀ n, sm (fun i => a * f i + b * g i) n = a * sm f n + b * sm g n
  | 0 => by show (0 : Int) = a * 0 + b * 0; rw [Int.mul_zero, Int.mul_zero]; rfl
  | n + 1 => by
    show sm (fun i => a * f i + b * g i) n + (a * f n + b * g n) = a * (sm f n + f n) + b * (sm g n + g n)
    rw [sm_lin f g a b n, Int.mul_add, Int.mul_add]; omega
theorem kr_c {T T' : Nat → Nat → Int} {R C : Nat} {z : Nat → Int} (h : ∀ s, s < R → ∃ (p r : Nat) (a b : Int), p < R ∧ r < R ∧ ∀ j, j < C → ep (T s j) (a * T' p j + b * T' r j)) (hz : kr T' R C z) : kr T R C z := by
  intro s hs'
  obtain ⟨p, r, a, b, hp, hr, hj⟩ := h s hs'
  have e1 : ep (sm (fun j => T s j * z j) C) (sm (fun j => a * (T' p j * z j) + b * (T' r j * z j)) C) := ep_sm (fun j x => by
    have := ep_u (hj j x) (ep_r (z j))
    rw [Int.add_mul, Int.mul_assoc, Int.mul_assoc] at this
    exact this)
  rw [sm_lin] at e1
  have e2 := ep_a (ep_0m a (hz p hp)) (ep_0m b (hz r hr))
  exact ep_t e1 e2
/-- distinct numbers by the prime -/
def ds (r : Nat → Int) (k : Nat) : Prop := ∀ i j, i < k → j < i → ¬ ep (r i) (r j)
theorem vdm : ∀ (k : Nat) (r c : Nat → Int), ds r k → (∀ i, i < k → ep (sm (fun j => c j * r j ^ i) k) 0) → ∀ j, j < k → ep (c j) 0
  | 0, _, _, _, _, j, hj => by omega
  | k + 1, r, c, hd, h, j, hj => by
    have low : ∀ j, j < k → ep (c j) 0 := fun j hj => by
      have key := vdm k r (fun j => c j * (r j - r k)) (fun a b x y => hd a b (by omega) y) (fun i hi => by
        have e1 := h (i + 1) (by omega)
        have e2 := h i (by omega)
        have e3 := ep_b e1 (ep_0m (r k) e2)
        rw [Int.sub_self] at e3
        have e4 : sm (fun j => c j * r j ^ (i + 1)) (k + 1) - r k * sm (fun j => c j * r j ^ i) (k + 1) = sm (fun j => c j * (r j - r k) * r j ^ i) k := by
          have t1 := sm_lin (fun j => c j * r j ^ (i + 1)) (fun j => c j * r j ^ i) 1 (-(r k)) (k + 1)
          have t2 : sm (fun j => 1 * (c j * r j ^ (i + 1)) + -(r k) * (c j * r j ^ i)) (k + 1) = sm (fun j => c j * (r j - r k) * r j ^ i) (k + 1) := sm_cg (fun j _ => by
            rw [Int.one_mul, Int.pow_succ, Int.mul_sub, Int.sub_mul, Int.neg_mul, Int.mul_comm (r j ^ i) (r j), ← Int.mul_assoc, Int.mul_assoc (c j) (r k), ← Int.mul_assoc (r k), Int.mul_comm (r k) (c j), Int.mul_assoc (c j) (r k)]
            omega)
          have t3 : sm (fun j => c j * (r j - r k) * r j ^ i) (k + 1) = sm (fun j => c j * (r j - r k) * r j ^ i) k := by
            show sm (fun j => c j * (r j - r k) * r j ^ i) k + c k * (r k - r k) * r k ^ i = _
            rw [Int.sub_self, Int.mul_zero, Int.zero_mul, Int.add_zero]
          rw [t1, Int.one_mul, Int.neg_mul] at t2
          rw [← t3, ← t2]; omega
        rw [e4] at e3
        exact e3) j hj
      have key' : ep (c j * (r j - r k)) 0 := key
      rw [Int.mul_comm] at key'
      exact ep_z (fun q => hd k j (by omega) hj (ep_s (ep_b0.mp q))) key'
    by_cases z : j < k
    · exact low j z
    · have e := h 0 (by omega)
      have e1 : ep (sm (fun j => c j * r j ^ 0) (k + 1)) (c k) := by
        show ep (sm (fun j => c j * r j ^ 0) k + c k * r k ^ 0) (c k)
        rw [Int.pow_zero, Int.mul_one]
        have t : ep (sm (fun j => c j * r j ^ 0) k) (sm (fun _ => 0) k) := ep_sm (fun j hj => ep_0n _ (low j hj))
        rw [sm_0] at t
        have := ep_a t (ep_r (c k))
        rwa [Int.zero_add] at this
      rw [show j = k by omega]
      exact ep_t (ep_s e1) e
/-- a triangle of rows can be solved -/
theorem bsub : ∀ (p : Nat) (T : Nat → Nat → Int) (b : Nat → Int), (∀ r, r < p → nz (T r r)) → (∀ r j, r < p → j < r → ep (T r j) 0) → ∃ x : Nat → Int, ∀ i, i < p → ep (sm (fun j => T i j * x j) p) (b i)
  | 0, _, _, _, _ => ⟨fun _ => 0, fun i hi => by omega⟩
  | p + 1, T, b, h1, h2 => by
    obtain ⟨x, hx⟩ := bsub p T (fun i => b i - T i p * (iv (T p p) * b p)) (fun r hr => h1 r (by omega)) (fun r j hr hj => h2 r j (by omega) hj)
    refine ⟨fun j => if j < p then x j else iv (T p p) * b p, fun i hi => ?_⟩
    have e : sm (fun j => T i j * (if j < p then x j else iv (T p p) * b p)) (p + 1) = sm (fun j => T i j * x j) p + T i p * (iv (T p p) * b p) := by
      show sm (fun j => T i j * (if j < p then x j else iv (T p p) * b p)) p + T i p * (if p < p then x p else iv (T p p) * b p) = _
      rw [if_neg (Nat.lt_irrefl p)]
      refine congrArg (fun z => z + T i p * (iv (T p p) * b p)) (sm_cg (fun j hj => ?_))
      rw [if_pos hj]
    show ep (sm (fun j => T i j * (if j < p then x j else iv (T p p) * b p)) (p + 1)) (b i)
    rw [e]
    by_cases z : i < p
    · have := ep_a (hx i z) (ep_r (T i p * (iv (T p p) * b p)))
      rwa [Int.sub_add_cancel] at this
    · have zi : i = p := by omega
      subst zi
      have t : ep (sm (fun j => T i j * x j) i) (sm (fun _ => 0) i) := ep_sm (fun j hj => ep_0n _ (h2 i j (by omega) hj))
      rw [sm_0] at t
      have u := ep_u (nz_iv (h1 i (by omega))) (ep_r (b i))
      rw [Int.one_mul, Int.mul_assoc] at u
      have := ep_a t u
      rwa [Int.zero_add] at this
theorem ep_10 : ¬ ep 1 0 := by unfold ep; decide
/-- where no row is left for a place, something but nought is sent to nought -/
theorem piv {T A : Nat → Nat → Int} {R k p : Nat} (hp : p < k) (htri : ∀ r j, r < R → j < p → j < r → ep (T r j) 0) (hdg : ∀ r, r < p → nz (T r r)) (hpR : p ≤ R) (hA : ∀ z, kr A R (k + 1) z → z k = 0 → ∀ j, j < k → ep (z j) 0) (hbk : ∀ z, kr T R (k + 1) z → kr A R (k + 1) z) (hz : ∀ r, p ≤ r → r < R → ep (T r p) 0) : False := by
  obtain ⟨x, hx⟩ := bsub p T (fun i => -(T i p)) hdg (fun r j hr hj => htri r j (by omega) (by omega) hj)
  have e : ∀ i, sm (fun j => T i j * (if j < p then x j else if j = p then 1 else 0)) (k + 1) = sm (fun j => T i j * x j) p + T i p := fun i => by
    rw [show k + 1 = p + 1 + (k - p) by omega, sm_ext (k - p) (fun j h1 h2 => by rw [if_neg (by omega), if_neg (by omega), Int.mul_zero])]
    show sm (fun j => T i j * (if j < p then x j else if j = p then 1 else 0)) p + T i p * (if p < p then x p else if p = p then 1 else 0) = _
    rw [if_neg (Nat.lt_irrefl p), if_pos rfl, Int.mul_one]
    refine congrArg (fun z => z + T i p) (sm_cg (fun j hj => ?_))
    rw [if_pos hj]
  have hk : kr T R (k + 1) (fun j => if j < p then x j else if j = p then 1 else 0) := fun i hi => by
    show ep (sm (fun j => T i j * (if j < p then x j else if j = p then 1 else 0)) (k + 1)) 0
    rw [e i]
    by_cases z : i < p
    · have := ep_a (hx i z) (ep_r (T i p))
      rwa [Int.add_comm (-(T i p)), Int.add_right_neg] at this
    · have t : ep (sm (fun j => T i j * x j) p) (sm (fun _ => 0) p) := ep_sm (fun j hj => ep_0n _ (htri i j hi hj (by omega)))
      rw [sm_0] at t
      exact ep_0a t (hz i (by omega) hi)
  have := hA _ (hbk _ hk) (by show (if k < p then x k else if k = p then 1 else 0) = (0 : Int); rw [if_neg (by omega), if_neg (by omega)]) p hp
  have this' : ep (if p < p then x p else if p = p then 1 else 0) 0 := this
  rw [if_neg (Nat.lt_irrefl p), if_pos rfl] at this'
  exact ep_10 this'
