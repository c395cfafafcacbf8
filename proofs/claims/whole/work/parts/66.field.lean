/-! The prime: what is not nought can be turned; a row of values settles a form. -/
theorem fer_tab : ∀ i : Nat, i < 101 → ∀ j : Nat, j < 100 → (100 * i + j) % 10007 = 0 ∨ (100 * i + j) ^ 10006 % 10007 = 1 := by decide +kernel
theorem fer {x : Int} (h : rs x) (h0 : x ≠ 0) : ep (x * pw x) 1 := by
  have h1 := h.1; have h2 := h.2
  have q := fer_tab (x.toNat / 100) (by omega) (x.toNat % 100) (by omega)
  rw [show 100 * (x.toNat / 100) + x.toNat % 100 = x.toNat by omega] at q
  rcases q with q | q
  · omega
  · have e : ((x.toNat ^ 10006 % 10007 : Nat) : Int) = 1 := by rw [q]; rfl
    have e2 : x ^ 10006 % 10007 = 1 := by
      rw [Int.natCast_emod, Int.natCast_pow, Int.toNat_of_nonneg h1] at e
      exact e
    refine ep_t (ep_u (ep_r x) (ep_m _)) ?_
    rw [Int.mul_comm, ← Int.pow_succ]
    exact e2
/-- not nought by the prime -/
def nz (a : Int) : Prop := ¬ ep a 0
theorem nz_rs {a : Int} (h : rs a) : nz a ↔ a ≠ 0 := by
  constructor
  · intro q r
    exact q (by rw [r]; exact ep_r 0)
  · intro q r
    exact q (ep_i h ⟨by decide, by decide⟩ r)
theorem ep_0 {a : Int} (h : rs a) : ep a 0 ↔ a = 0 := ⟨fun r => ep_i h ⟨by decide, by decide⟩ r, fun r => by rw [r]; exact ep_r 0⟩
/-- the turned number of any number -/
def iv (a : Int) : Int := pw (a % 10007)
theorem iv_rs {a : Int} (h : rs a) : iv a = pw a := by unfold iv; rw [rs_id h]
theorem nz_iv {a : Int} (h : nz a) : ep (a * iv a) 1 := by
  have : a % 10007 ≠ 0 := fun q => h q
  exact ep_t (ep_u (ep_s (ep_m a)) (ep_r _)) (fer (rs_mod a) this)
theorem ep_z {a b : Int} (ha : nz a) (h : ep (a * b) 0) : ep b 0 := by
  have h1 := nz_iv ha
  have h2 : ep (iv a * (a * b)) (iv a * 0) := ep_u (ep_r _) h
  rw [Int.mul_zero, ← Int.mul_assoc, Int.mul_comm (iv a) a] at h2
  have h3 : ep (a * iv a * b) (1 * b) := ep_u h1 (ep_r b)
  rw [Int.one_mul] at h3
  exact ep_t (ep_s h3) h2
theorem nz_mul {a b : Int} (ha : nz a) (hb : nz b) : nz (a * b) := fun q => hb (ep_z ha q)
theorem ep_0a {a b : Int} (h : ep a 0) (k : ep b 0) : ep (a + b) 0 := ep_a h k
theorem ep_0m {a : Int} (c : Int) (h : ep a 0) : ep (c * a) 0 := by
  have := ep_u (ep_r c) h
  rwa [Int.mul_zero] at this
theorem ep_0n {a : Int} (c : Int) (h : ep a 0) : ep (a * c) 0 := by
  have := ep_u h (ep_r c)
  rwa [Int.zero_mul] at this
theorem ep_b0 {a b : Int} : ep (a - b) 0 ↔ ep a b := by
  constructor
  · intro h
    have := ep_a h (ep_r b)
    rwa [Int.sub_add_cancel, Int.zero_add] at this
  · intro h
    have := ep_b h (ep_r b)
    rwa [Int.sub_self] at this
theorem ep_n {a b : Int} (h : ep a b) : ep (-a) (-b) := by
  have := ep_b (ep_r 0) h
  rwa [Int.zero_sub, Int.zero_sub] at this
/-- a row as a form's values at 1 : v -/
def pol (r : Nat → Int) : Nat → Int → Int
  | 0, _ => r 0
  | n + 1, v => r 0 + v * pol (fun i => r (i + 1)) n v
theorem pol_cg : ∀ (n : Nat) {r q : Nat → Int} {v w : Int}, (∀ i, i ≤ n → ep (r i) (q i)) → ep v w → ep (pol r n v) (pol q n w)
  | 0, _, _, _, _, h, _ => h 0 (by omega)
  | n + 1, _, _, _, _, h, hv => ep_a (h 0 (by omega)) (ep_u hv (pol_cg n (fun i hi => h (i + 1) (by omega)) hv))
theorem pol_sub : ∀ (n : Nat) (r q : Nat → Int) (v : Int), pol (fun i => r i - q i) n v = pol r n v - pol q n v
  | 0, _, _, _ => rfl
  | n + 1, r, q, v => by
    show r 0 - q 0 + v * pol (fun i => r (i + 1) - q (i + 1)) n v = r 0 + v * pol (fun i => r (i + 1)) n v - (q 0 + v * pol (fun i => q (i + 1)) n v)
    rw [pol_sub n (fun i => r (i + 1)) (fun i => q (i + 1)) v, Int.mul_sub]; omega
theorem pol_sm : ∀ (n : Nat) (r : Nat → Int) (v : Int), pol r n v = sm (fun i => r i * v ^ i) (n + 1)
  | 0, r, v => by
    show r 0 = 0 + r 0 * v ^ 0
    rw [Int.pow_zero, Int.mul_one, Int.zero_add]
  | n + 1, r, v => by
    show r 0 + v * pol (fun i => r (i + 1)) n v = _
    rw [sm_head, pol_sm n, Int.pow_zero, Int.mul_one, Int.mul_comm v, ← sm_mul]
    refine congrArg (fun z => r 0 + z) (sm_cg (fun i hi => ?_))
    rw [Int.pow_succ, Int.mul_assoc]
theorem one_pow (n : Nat) : (1 : Int) ^ n = 1 := by
  induction n with
  | zero => rfl
  | succ n ih => rw [Int.pow_succ, ih]; rfl
theorem pol_ev (n : Nat) (r : Nat → Int) (v : Int) : pol r n v = ev r 1 v n := by
  rw [pol_sm, ev_sm]
  exact sm_cg (fun i hi => by rw [one_pow, Int.mul_one])
theorem pol_hi : ∀ (n : Nat) (r : Nat → Int) (v : Int), pol r (n + 1) v = pol r n v + r (n + 1) * v ^ (n + 1) := by
  intro n r v
  rw [pol_sm, pol_sm]; rfl
theorem pol_dv : ∀ (n : Nat) (r : Nat → Int) (p : Int), ∃ q : Nat → Int, (∀ v, pol r (n + 1) v = (v - p) * pol q n v + pol r (n + 1) p) ∧ ((∀ i, i ≤ n → ep (q i) 0) → ep (pol r (n + 1) p) 0 → ∀ i, i ≤ n + 1 → ep (r i) 0)
  | 0, r, p => by
    refine ⟨fun _ => r 1, fun v => ?_, fun h1 h2 i hi => ?_⟩
    · show r 0 + v * r 1 = (v - p) * r 1 + (r 0 + p * r 1)
      rw [Int.sub_mul]; omega
    · have h3 : ep (r 1) 0 := h1 0 (by omega)
      have h4 : ep (r 0 + p * r 1) 0 := h2
      have h5 : ep (r 0) 0 := by
        have := ep_b h4 (ep_0m p h3)
        rwa [Int.add_sub_cancel, Int.sub_self] at this
      by_cases c : i = 0
      · rw [c]; exact h5
      · rw [show i = 1 by omega]; exact h3
  | n + 1, r, p => by
    obtain ⟨q, a1, a2⟩ := pol_dv n (fun i => r (i + 1)) p
    refine ⟨fun i => match i with | 0 => pol (fun i => r (i + 1)) (n + 1) p | i + 1 => q i, fun v => ?_, fun h1 h2 i hi => ?_⟩
    · show r 0 + v * pol (fun i => r (i + 1)) (n + 1) v = (v - p) * (pol (fun i => r (i + 1)) (n + 1) p + v * pol q n v) + (r 0 + p * pol (fun i => r (i + 1)) (n + 1) p)
      rw [a1 v]
      generalize pol (fun i => r (i + 1)) (n + 1) p = C
      generalize pol q n v = Q
      rw [Int.mul_add, Int.mul_add, Int.sub_mul (c := C), Int.mul_left_comm]; omega
    · have h3 : ep (pol (fun i => r (i + 1)) (n + 1) p) 0 := h1 0 (by omega)
      have h4 : ∀ i, i ≤ n + 1 → ep (r (i + 1)) 0 := a2 (fun i hi => h1 (i + 1) (by omega)) h3
      have h5 : ep (r 0 + p * pol (fun i => r (i + 1)) (n + 1) p) 0 := h2
      have h6 : ep (r 0) 0 := by
        have := ep_b h5 (ep_0m p h3)
        rwa [Int.add_sub_cancel, Int.sub_self] at this
      by_cases c : i = 0
      · rw [c]; exact h6
      · obtain ⟨k, rfl⟩ : ∃ k, i = k + 1 := ⟨i - 1, by omega⟩
        exact h4 k (by omega)
theorem pol_0 : ∀ (n : Nat) (r : Nat → Int) (P : Nat → Int), (∀ i j, i ≤ n → j < i → ¬ ep (P i) (P j)) → (∀ i, i ≤ n → ep (pol r n (P i)) 0) → ∀ i, i ≤ n → ep (r i) 0
  | 0, r, P, _, h, i, hi => by
    rw [show i = 0 by omega]
    exact h 0 (by omega)
  | n + 1, r, P, hP, h, i, hi => by
    obtain ⟨q, a1, a2⟩ := pol_dv n r (P (n + 1))
    have h1 := h (n + 1) (by omega)
    refine a2 (fun j hj => ?_) h1 i hi
    refine pol_0 n q P (fun i j a b => hP i j (by omega) b) (fun k hk => ?_) j hj
    have h2 := h k (by omega)
    rw [a1 (P k)] at h2
    have h3 : ep ((P k - P (n + 1)) * pol q n (P k)) 0 := by
      have := ep_b h2 h1
      rwa [Int.add_sub_cancel, Int.sub_self] at this
    exact ep_z (fun z => hP (n + 1) k (by omega) (by omega) (ep_s (ep_b0.mp z))) h3
theorem np_n {n i j : Nat} (hn : n ≤ 8) (hi : i ≤ n) (hj : j < i) : ¬ ep (i : Int) (j : Int) := fun q => by
  have := ep_i (a := (i : Int)) (b := (j : Int)) ⟨by omega, by omega⟩ ⟨by omega, by omega⟩ q
  omega
/-- forms of one degree with the same values are the same -/
theorem pol_i {n : Nat} (hn : n ≤ 8) {r q : Nat → Int} (h : ∀ v : Nat, v ≤ n → ep (pol r n v) (pol q n v)) : ∀ i, i ≤ n → ep (r i) (q i) := fun i hi =>
  ep_b0.mp (pol_0 n (fun i => r i - q i) (fun i => (i : Int)) (fun i j a b => np_n hn a b) (fun v hv => by rw [pol_sub]; exact ep_b0.mpr (h v hv)) i hi)
