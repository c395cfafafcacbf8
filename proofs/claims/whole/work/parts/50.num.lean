/-! Numbers: ints in range, residues modulo the prime, what the number methods of both sides answer. -/
theorem wi_id {z : Int} (h1 : -2147483648 ≤ z) (h2 : z < 2147483648) : wi z = z := Int32.toInt_ofInt_of_le h1 h2
theorem wl_id {z : Int} (h1 : -9223372036854775808 ≤ z) (h2 : z < 9223372036854775808) : wl z = z := Int64.toInt_ofInt_of_le h1 h2
theorem wi_rng {z : Int} (h : wi z = z) : -2147483648 ≤ z ∧ z < 2147483648 := by
  have h1 := wi_lo z
  have h2 := wi_hi z
  rw [h] at h1 h2
  exact ⟨h1, h2⟩
theorem wi_wi (z : Int) : wi (wi z) = wi z := wi_id (wi_lo z) (wi_hi z)
theorem cl_some {α : Type} (r : Int) (h : HP) (k : Int → HP → Option α) : cl (some (r, h)) k = k r h := rfl
theorem lt_d {α : Type} (e : Int) (k : Int → α) : lt e k = k e := rfl
theorem pf_d {α : Type} (h : HP) (k j : Nat) (v : Int) (kf : HP → α) : pf h k j v kf = kf (hs h k j v) := rfl
theorem gd_t {α : Type} {c : Prop} [Decidable c] {k : Option α} (h : c) : gd c k = k := if_pos h
theorem ld_t {α : Type} {len : Nat} {row : Nat → Int} {i : Int} {k : Int → Option α} (h0 : 0 ≤ i) (h1 : i < len) (h2 : len ≤ 4000) : ld len row i k = k (row i.toNat) := by
  unfold ld
  rw [wi_id (by omega) (by omega), if_pos ⟨h0, h1⟩]
theorem sto_t {α : Type} {len : Nat} {h : HP} {a : Nat} {i v : Int} {k : HP → Option α} (h0 : 0 ≤ i) (h1 : i < len) (h2 : len ≤ 4000) : sto len h a i v k = k (hs h a i.toNat v) := by
  unfold sto
  rw [wi_id (by omega) (by omega), if_pos ⟨h0, h1⟩]
theorem lda_t {α : Type} {i : Int} {k : Nat → Option α} (h0 : 0 ≤ i) (h1 : i < 10) : lda i k = k (2 + i.toNat) := by
  unfold lda
  rw [wi_id (by omega) (by omega), if_pos ⟨h0, h1⟩]
theorem hs_s (h : HP) (k j : Nat) (v : Int) : hs h k j v k j = v := by unfold hs; rw [if_pos ⟨rfl, rfl⟩]
theorem hs_o {h : HP} {k j a b : Nat} {v : Int} (q : ¬ (a = k ∧ b = j)) : hs h k j v a b = h a b := by unfold hs; rw [if_neg q]
theorem hs_k {h : HP} {k j a b : Nat} {v : Int} (q : a ≠ k) : hs h k j v a b = h a b := hs_o (fun z => q z.1)
theorem hs_j {h : HP} {k j a b : Nat} {v : Int} (q : b ≠ j) : hs h k j v a b = h a b := hs_o (fun z => q z.2)
theorem cpl_rng (a b : Int) : wi (cpl a b) = cpl a b := by
  unfold cpl
  split
  · rfl
  · split
    · rfl
    · rfl
theorem cpl_le (a b : Int) : (wi (cpl a b) ≤ 0) = (wl a ≤ wl b) := by
  rw [cpl_rng]; unfold cpl; apply propext
  split
  · omega
  · split <;> omega
theorem cpl_ge (a b : Int) : (0 ≤ wi (cpl a b)) = (wl b ≤ wl a) := by
  rw [cpl_rng]; unfold cpl; apply propext
  split
  · omega
  · split <;> omega
theorem cpl_lt (a b : Int) : (wi (cpl a b) < 0) = (wl a < wl b) := by
  rw [cpl_rng]; unfold cpl; apply propext
  split
  · omega
  · split <;> omega
theorem cpl_gt (a b : Int) : (0 < wi (cpl a b)) = (wl b < wl a) := by
  rw [cpl_rng]; unfold cpl; apply propext
  split
  · omega
  · split <;> omega
/-- a residue -/
def rs (a : Int) : Prop := 0 ≤ a ∧ a < 10007
theorem rs_mod (a : Int) : rs (a % 10007) := ⟨Int.emod_nonneg _ (by decide), Int.emod_lt_of_pos _ (by decide)⟩
theorem rs_id {a : Int} (h : rs a) : a % 10007 = a := Int.emod_eq_of_lt h.1 h.2
theorem rs_mul {a b : Int} (ha : rs a) (hb : rs b) : 0 ≤ a * b ∧ a * b ≤ 100120036 := by
  have h1 : a * b ≤ 10006 * 10006 := Int.mul_le_mul (by have := ha.2; omega) (by have := hb.2; omega) hb.1 (by decide)
  exact ⟨Int.mul_nonneg ha.1 hb.1, by omega⟩
theorem rm_e {a : Int} (h0 : 0 ≤ a) (h1 : a < 2147483648) : rm a = a % 10007 := by
  unfold rm
  rw [wi_id (by omega) h1, wi_id (by decide) (by decide)]
  exact Int.tmod_eq_emod_of_nonneg h0
/-- equal modulo the prime -/
def ep (a b : Int) : Prop := a % 10007 = b % 10007
theorem ep_r (a : Int) : ep a a := rfl
theorem ep_s {a b : Int} (h : ep a b) : ep b a := Eq.symm h
theorem ep_t {a b c : Int} (h : ep a b) (k : ep b c) : ep a c := Eq.trans h k
theorem ep_m (a : Int) : ep (a % 10007) a := Int.emod_emod_of_dvd a (Int.dvd_refl _)
theorem ep_a {a b c d : Int} (h : ep a b) (k : ep c d) : ep (a + c) (b + d) := by
  unfold ep at *; rw [Int.add_emod, h, k, ← Int.add_emod]
theorem ep_u {a b c d : Int} (h : ep a b) (k : ep c d) : ep (a * c) (b * d) := by
  unfold ep at *; rw [Int.mul_emod, h, k, ← Int.mul_emod]
theorem ep_b {a b c d : Int} (h : ep a b) (k : ep c d) : ep (a - c) (b - d) := by
  unfold ep at *; rw [Int.sub_emod, h, k, ← Int.sub_emod]
theorem ep_p {a b : Int} (h : ep a b) : ∀ n : Nat, ep (a ^ n) (b ^ n)
  | 0 => by rw [Int.pow_zero, Int.pow_zero]; exact ep_r 1
  | n + 1 => by rw [Int.pow_succ, Int.pow_succ]; exact ep_u (ep_p h n) h
theorem ep_P (a : Int) : ep (10007 - a) (-a) := by
  unfold ep
  rw [show (10007 : Int) - a = -a + 10007 by omega, Int.add_emod_right]
theorem ep_i {a b : Int} (ha : rs a) (hb : rs b) (h : ep a b) : a = b := by
  unfold ep at h
  rwa [rs_id ha, rs_id hb] at h
theorem ep_of {a b k : Int} (h : a = b + 10007 * k) : ep a b := by
  unfold ep
  rw [h, Int.add_mul_emod_self_left]
-- Java's sign of a xor
theorem xi_sgn {x : Int} (h : wi x = x) : (wi (xi x 10007) < 0) = (x < 0) := by
  have e1 : wi (xi x 10007) = (Int32.ofInt x ^^^ Int32.ofInt 10007).toInt := by unfold wi xi; rw [Int32.ofInt_toInt]
  rw [e1]
  have e2 : x = (Int32.ofInt x).toInt := h.symm
  have key : ∀ y : Int32, ((y ^^^ Int32.ofInt 10007).toInt < 0) = (y.toInt < 0) := by
    intro y
    have m1 : (y ^^^ Int32.ofInt 10007).toBitVec.msb = decide ((y ^^^ Int32.ofInt 10007).toBitVec.toInt < 0) := BitVec.msb_eq_toInt
    have m2 : y.toBitVec.msb = decide (y.toBitVec.toInt < 0) := BitVec.msb_eq_toInt
    have m3 : (y ^^^ Int32.ofInt 10007).toBitVec = y.toBitVec ^^^ (Int32.ofInt 10007).toBitVec := rfl
    have m4 : (Int32.ofInt 10007).toBitVec.msb = false := by decide
    rw [m3, BitVec.msb_xor, m4, Bool.xor_false, m2] at m1
    have m5 := decide_eq_decide.mp m1
    apply propext
    show (y ^^^ Int32.ofInt 10007).toBitVec.toInt < 0 ↔ y.toBitVec.toInt < 0
    rw [m3]
    exact m5.symm
  rw [key]
  exact congrArg (fun z => z < 0) h
theorem pMod {x : Int} (h : wi x = x) (g : HP) : fJ9_floorMod_7cf53 x 10007 g = some (x % 10007, g) := by
  unfold fJ9_floorMod_7cf53
  rw [gd_t (by rw [wi_id (by decide) (by decide)]; decide), lt_d]
  simp only [xi_sgn h]
  rw [h, wi_id (z := 10007) (by decide) (by decide), Int.tmod_eq_emod]
  have h9 := wi_rng h
  have r1 := rs_mod x
  unfold rs at r1
  by_cases c : x < 0
  · rw [if_pos c]
    by_cases d : (10007 : Int) ∣ x
    · rw [if_pos (Or.inr d)]
      have e0 : x % 10007 = 0 := Int.emod_eq_zero_of_dvd d
      simp only [e0]
      rfl
    · have e9 : ¬ (0 ≤ x ∨ (10007 : Int) ∣ x) := fun q => q.elim (by omega) d
      simp only [if_neg e9]
      have e0 : x % 10007 ≠ 0 := fun q => d (Int.dvd_of_emod_eq_zero q)
      have e1 : wi (x % 10007 - ((10007 : Int).natAbs : Int)) ≠ 0 := by
        rw [wi_id (by omega) (by omega)]
        omega
      rw [if_neg e1]
      congr 2
      omega
  · rw [if_neg c, if_pos (Or.inl (by omega))]
    congr 2
    omega
theorem pRed {x : Int} (h : wi x = x) (g : HP) : fX1_reduced x g = some (x % 10007, g) := by
  unfold fX1_reduced
  rw [pMod h g]; rfl
theorem mMod {x : Int} (h1 : -9223372036854775808 ≤ x) (h2 : x < 9223372036854775808) (g : HP) : fX5_mod x g = some (x % 10007, g) := by
  unfold fX5_mod
  rw [lt_d]
  simp only [cpl_lt]
  rw [wl_id h1 h2, wl_id (z := 10007) (by decide) (by decide), Int.tmod_eq_emod, wl_id (z := 0) (by decide) (by decide)]
  have r1 := rs_mod x
  unfold rs at r1
  by_cases c : 0 ≤ x ∨ (10007 : Int) ∣ x
  · rw [if_pos c, wl_id (by omega) (by omega), if_neg (by omega)]
    congr 2
    omega
  · rw [if_neg c, wl_id (by omega) (by omega), if_pos (by omega)]
    congr 2
    omega
theorem mTimes {a b : Int} (ha : rs a) (hb : rs b) (g : HP) : fX5_times a b g = some (a * b % 10007, g) := by
  have h1 := rs_mul ha hb
  unfold fX5_times
  have := ha.1; have := ha.2; have := hb.1; have := hb.2
  rw [wi_id (by omega) (by omega), wi_id (by omega) (by omega), mMod (by omega) (by omega)]; rfl
theorem mTimes' {a b : Int} (ha : -100000 ≤ a ∧ a ≤ 100000) (hb : -100000 ≤ b ∧ b ≤ 100000) (g : HP) : fX5_times a b g = some (a * b % 10007, g) := by
  have h1 : a * b ≤ 10000000000 ∧ -10000000000 ≤ a * b := by
    have q : (a * b).natAbs ≤ 100000 * 100000 := by rw [Int.natAbs_mul]; exact Nat.mul_le_mul (by omega) (by omega)
    omega
  unfold fX5_times
  rw [wi_id (by omega) (by omega), wi_id (by omega) (by omega), mMod (by omega) (by omega)]; rfl
theorem mIn {x lo hi : Int} (h1 : wl x = x) (h2 : wl lo = lo) (h3 : wl hi = hi) (g : HP) : fX5_in x lo hi g = some (if lo ≤ x ∧ x ≤ hi then 1 else 0, g) := by
  unfold fX5_in
  simp only [cpl_ge, cpl_le, h1, h2, h3]
  by_cases a : lo ≤ x
  · by_cases b : x ≤ hi
    · rw [if_pos a, if_pos b, if_pos ⟨a, b⟩]
    · rw [if_pos a, if_neg b, if_neg (fun q => b q.2)]
  · rw [if_neg a, if_neg (fun q => a q.1)]
theorem mInI {x lo hi : Int} (h1 : wi x = x) (h2 : wi lo = lo) (h3 : wi hi = hi) (g : HP) : fX5_in (wi x) lo hi g = some (if lo ≤ x ∧ x ≤ hi then 1 else 0, g) := by
  have a := wi_rng h1; have b := wi_rng h2; have c := wi_rng h3
  rw [h1]
  exact mIn (wl_id (by omega) (by omega)) (wl_id (by omega) (by omega)) (wl_id (by omega) (by omega)) g
-- powers by squaring, on both sides
def pw (x : Int) : Int := x ^ 10005 % 10007
theorem pw_rs (x : Int) : rs (pw x) := rs_mod _
theorem pPow : ∀ (m : Nat) (n : Nat) (a b : Int) (g : HP), m < n → m < 100000 → rs a → rs b → LX1_power_7 n a b m g = some (a * b ^ m % 10007, g) := by
  intro m
  induction m using Nat.strongRecOn with
  | _ m ih =>
    intro n a b g hn hm ha hb
    obtain ⟨n, rfl⟩ : ∃ k, n = k + 1 := ⟨n - 1, by omega⟩
    show bX1_power_7 (LX1_power_7 n) a b m g = _
    unfold bX1_power_7
    have e1 := rs_mul ha hb
    have e2 := rs_mul hb hb
    rw [wi_id (z := (m : Int)) (by omega) (by omega), wi_id (z := 2) (by decide) (by decide), wi_id (z := 1) (by decide) (by decide)]
    by_cases c : 0 < (m : Int)
    · rw [if_pos c]
      have t1 : Int.tmod (m : Int) 2 = ((m % 2 : Nat) : Int) := by rw [Int.tmod_eq_emod_of_nonneg (by omega)]; rfl
      have t2 : Int.tdiv (m : Int) 2 = ((m / 2 : Nat) : Int) := by rw [Int.tdiv_eq_ediv_of_nonneg (by omega)]; rfl
      have e3 : ep (b * b % 10007) (b * b) := ep_m _
      rw [t1, t2, wi_id (by omega) (by omega)]
      simp only [lt_d]
      rw [rm_e e1.1 (by omega), rm_e e2.1 (by omega)]
      have key : b ^ m = b ^ (m % 2) * (b * b) ^ (m / 2) := by
        have : m = m % 2 + 2 * (m / 2) := by omega
        conv => lhs; rw [this]
        rw [Int.pow_add, Int.pow_mul]
        congr 2
        rw [Int.pow_succ, Int.pow_succ, Int.pow_zero, Int.one_mul]
      by_cases d : ((m % 2 : Nat) : Int) = 1
      · rw [if_pos d, ih (m / 2) (by omega) n _ _ g (by omega) (by omega) (rs_mod _) (rs_mod _)]
        have d2 : m % 2 = 1 := by omega
        refine congrArg (fun z => some (z, g)) ?_
        have : ep (a * b % 10007 * (b * b % 10007) ^ (m / 2)) (a * b ^ m) := by
          rw [key, d2, Int.pow_succ, Int.pow_zero, Int.one_mul, ← Int.mul_assoc]
          exact ep_u (ep_m _) (ep_p e3 _)
        exact this
      · rw [if_neg d, ih (m / 2) (by omega) n _ _ g (by omega) (by omega) ha (rs_mod _)]
        have d2 : m % 2 = 0 := by omega
        refine congrArg (fun z => some (z, g)) ?_
        have : ep (a * (b * b % 10007) ^ (m / 2)) (a * b ^ m) := by
          rw [key, d2, Int.pow_zero, Int.one_mul]
          exact ep_u (ep_r _) (ep_p e3 _)
        exact this
    · rw [if_neg c]
      have : m = 0 := by omega
      subst this
      rw [Int.pow_zero, Int.mul_one, rs_id ha]
theorem pInv {x : Int} (h : rs x) (g : HP) : fX1_inverse x g = some (pw x, g) := by
  unfold fX1_inverse fX1_power
  have := pPow 10005 FU 1 x g (by decide) (by decide) ⟨by decide, by decide⟩ h
  rw [Int.one_mul] at this
  rw [show (10005 : Int) = ((10005 : Nat) : Int) from rfl, this]
  rfl
theorem mPow : ∀ (m : Nat) (n : Nat) (a b : Int) (g : HP), m < n → m < 100000 → rs a → rs b → LX5_turned_8 n a b m g = some (a * b ^ m % 10007, g) := by
  intro m
  induction m using Nat.strongRecOn with
  | _ m ih =>
    intro n a b g hn hm ha hb
    obtain ⟨n, rfl⟩ : ∃ k, n = k + 1 := ⟨n - 1, by omega⟩
    show bX5_turned_8 (LX5_turned_8 n) a b m g = _
    unfold bX5_turned_8
    rw [wi_id (z := (m : Int)) (by omega) (by omega), wi_id (z := 2) (by decide) (by decide), wi_id (z := 1) (by decide) (by decide)]
    by_cases c : 0 < (m : Int)
    · rw [if_pos c]
      have t1 : Int.tmod (m : Int) 2 = ((m % 2 : Nat) : Int) := by rw [Int.tmod_eq_emod_of_nonneg (by omega)]; rfl
      have t2 : Int.tdiv (m : Int) 2 = ((m / 2 : Nat) : Int) := by rw [Int.tdiv_eq_ediv_of_nonneg (by omega)]; rfl
      have e3 : ep (b * b % 10007) (b * b) := ep_m _
      rw [t1, t2, wi_id (by omega) (by omega)]
      simp only [lt_d, mTimes ha hb, mTimes hb hb, cl_some]
      have key : b ^ m = b ^ (m % 2) * (b * b) ^ (m / 2) := by
        have : m = m % 2 + 2 * (m / 2) := by omega
        conv => lhs; rw [this]
        rw [Int.pow_add, Int.pow_mul]
        congr 2
        rw [Int.pow_succ, Int.pow_succ, Int.pow_zero, Int.one_mul]
      by_cases d : ((m % 2 : Nat) : Int) = 1
      · rw [if_pos d, ih (m / 2) (by omega) n _ _ g (by omega) (by omega) (rs_mod _) (rs_mod _)]
        have d2 : m % 2 = 1 := by omega
        refine congrArg (fun z => some (z, g)) ?_
        have : ep (a * b % 10007 * (b * b % 10007) ^ (m / 2)) (a * b ^ m) := by
          rw [key, d2, Int.pow_succ, Int.pow_zero, Int.one_mul, ← Int.mul_assoc]
          exact ep_u (ep_m _) (ep_p e3 _)
        exact this
      · rw [if_neg d, ih (m / 2) (by omega) n _ _ g (by omega) (by omega) ha (rs_mod _)]
        have d2 : m % 2 = 0 := by omega
        refine congrArg (fun z => some (z, g)) ?_
        have : ep (a * (b * b % 10007) ^ (m / 2)) (a * b ^ m) := by
          rw [key, d2, Int.pow_zero, Int.one_mul]
          exact ep_u (ep_r _) (ep_p e3 _)
        exact this
    · rw [if_neg c]
      have : m = 0 := by omega
      subst this
      rw [Int.pow_zero, Int.mul_one, rs_id ha]
theorem mTurned {x : Int} (h : rs x) (g : HP) : fX5_turned x g = some (pw x, g) := by
  unfold fX5_turned
  have := mPow 10005 FU 1 x g (by decide) (by decide) ⟨by decide, by decide⟩ h
  rw [Int.one_mul] at this
  rw [show (10005 : Int) = ((10005 : Nat) : Int) from rfl, this]
  rfl
