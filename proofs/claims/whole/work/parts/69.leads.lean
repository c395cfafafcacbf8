/-! Tables that lead one form to another. -/
theorem ev_ep {r q : Nat → Int} {x x' y y' : Int} (hx : ep x x') (hy : ep y y') : ∀ {n : Nat}, (∀ i, i ≤ n → ep (r i) (q i)) → ep (ev r x y n) (ev q x' y' n)
  | 0, h => h 0 (by omega)
  | n + 1, h => ep_a (ep_u (ev_ep hx hy (fun i hi => h i (by omega))) hx) (ep_u (h (n + 1) (by omega)) (ep_p hy _))
theorem pVPL {a : Nat} (ha : 22 ≤ a ∧ a < 27) {N v : Int} (hN : 0 ≤ N ∧ N ≤ 8) (hv : rs v) {g : HP} (hr : R9 g a) : ∀ (s n : Nat) (u : Int), (s : Int) ≤ N → s < n → rs u → ep u (pol (fun j => g a (s + j)) (N.toNat - s) v) → LX2_valueAtPlace_20 n a v u ((s : Int) - 1) g = some (pol (g a) N.toNat v % 10007, g) := by
  intro s
  induction s with
  | zero =>
    intro n u q1 q3 hu e
    obtain ⟨n, rfl⟩ : ∃ k, n = k + 1 := ⟨n - 1, by omega⟩
    show bX2_valueAtPlace_20 (LX2_valueAtPlace_20 n) a v u _ g = _
    unfold bX2_valueAtPlace_20
    rw [wi_id (z := ((0 : Nat) : Int) - 1) (by omega) (by omega), if_neg (by omega)]
    have e2 : ep u (pol (g a) N.toNat v) := ep_t e (pol_cg _ (fun i _ => by rw [Nat.zero_add]; exact ep_r _) (ep_r v))
    rw [← e2, rs_id hu]
  | succ s ih =>
    intro n u q1 q3 hu e
    obtain ⟨n, rfl⟩ : ∃ k, n = k + 1 := ⟨n - 1, by omega⟩
    have b1 := rs_mul hu hv
    have b2 := hr s (by omega)
    have b3 := b2.1; have b4 := b2.2
    show bX2_valueAtPlace_20 (LX2_valueAtPlace_20 n) a v u _ g = _
    unfold bX2_valueAtPlace_20
    rw [show ((s + 1 : Nat) : Int) - 1 = s by omega, wi_id (z := (s : Int)) (by omega) (by omega), if_pos (by omega), w_ld ha (by omega), Int.toNat_natCast, lt_d, rm_e (by omega) (by omega), show (s : Int) + (-1) = s - 1 by omega]
    refine ih n _ (by omega) (by omega) (rs_mod _) (ep_t (ep_m _) ?_)
    rw [show N.toNat - s = N.toNat - (s + 1) + 1 by omega]
    show ep (u * v + g a s) (g a (s + 0) + v * pol (fun i => g a (s + (i + 1))) (N.toNat - (s + 1)) v)
    rw [Int.add_comm, Int.mul_comm u v, Nat.add_zero]
    refine ep_a (ep_r _) (ep_u (ep_r _) (ep_t e (pol_cg _ (fun i _ => ?_) (ep_r v))))
    rw [show s + 1 + i = s + (i + 1) by omega]
    exact ep_r _
theorem pVP {a : Nat} (ha : 22 ≤ a ∧ a < 27) {N v : Int} (hN : 0 ≤ N ∧ N ≤ 8) (hv : rs v) {g : HP} (hr : R9 g a) : fX2_valueAtPlace a N v g = some (pol (g a) N.toNat v % 10007, g) := by
  have v1 := hv.1; have v2 := hv.2
  unfold fX2_valueAtPlace
  rw [wi_id (z := v) (by omega) (by omega), wi_id (z := 10007) (by decide) (by decide), if_neg (by omega), w_ld ha (by omega), lt_d]
  have := pVPL ha hN hv hr N.toNat FU (g a N.toNat) (by omega) (fu_lt (by omega)) (hr _ (by omega)) (by rw [Nat.sub_self]; exact ep_r _)
  rw [show ((N.toNat : Nat) : Int) = N by omega] at this
  exact this
theorem pVP9 {a : Nat} (ha : 22 ≤ a ∧ a < 27) {N : Int} (hN : 0 ≤ N ∧ N ≤ 8) {g : HP} : fX2_valueAtPlace a N 10007 g = some (g a N.toNat, g) := by
  unfold fX2_valueAtPlace
  rw [if_pos rfl, w_ld ha (by omega)]
theorem pLLL {N : Int} (hN : 0 ≤ N ∧ N ≤ 8) (G : Nat → Int) : ∀ (d v n : Nat) (g : HP), N + 1 - v = d → d < n → g 23 = G → R9 g 23 → ∃ g', LX4_loadLeads_23 n N v g = some (N, g') ∧ (∀ k, k ≠ 24 → g' k = g k) ∧ (∀ u, u < v → g' 24 u = g 24 u) ∧ ∀ u : Nat, v ≤ u → (u : Int) ≤ N → g' 24 u = pol G N.toNat u % 10007 := by
  intro d
  induction d with
  | zero =>
    intro v n g q1 q3 h h2
    obtain ⟨n, rfl⟩ : ∃ k, n = k + 1 := ⟨n - 1, by omega⟩
    refine ⟨g, ?_, fun _ _ => rfl, fun _ _ => rfl, fun u a b => by omega⟩
    show bX4_loadLeads_23 (LX4_loadLeads_23 n) N v g = _
    unfold bX4_loadLeads_23
    rw [wi_id (z := (v : Int)) (by omega) (by omega), wi_id (z := N) (by omega) (by omega), if_neg (by omega)]
  | succ d ih =>
    intro v n g q1 q3 h h2
    obtain ⟨n, rfl⟩ : ∃ k, n = k + 1 := ⟨n - 1, by omega⟩
    have k23 : ∀ z, hs g 24 v z 23 = g 23 := fun z => hs_ne (by decide)
    obtain ⟨g', e1, e2, e3, e4⟩ := ih (v + 1) n (hs g 24 v (pol G N.toNat v % 10007)) (by omega) (by omega) (by rw [k23]; exact h) (R9_k h2 (k23 _))
    refine ⟨g', ?_, fun k hk => (e2 k hk).trans (hs_ne hk), fun u hu => by rw [e3 u (by omega), hs_j (by omega)], fun u a b => ?_⟩
    · show bX4_loadLeads_23 (LX4_loadLeads_23 n) N v g = _
      unfold bX4_loadLeads_23
      rw [wi_id (z := (v : Int)) (by omega) (by omega), wi_id (z := N) (by omega) (by omega), if_pos (by omega), pVP (by decide) hN ⟨by omega, by omega⟩ h2, cl_some, h, w_st (by decide) (by omega), Int.toNat_natCast]
      exact e1
    · by_cases z : u = v
      · rw [z, e3 v (by omega), hs_s]
      · exact e4 u (by omega) b
-- the entries of a table
def en (b x : Int) : Nat → Int
  | 0 => x / (2 * b + 1) / (2 * b + 1) / (2 * b + 1) % (2 * b + 1) - b
  | 1 => x / (2 * b + 1) / (2 * b + 1) % (2 * b + 1) - b
  | 2 => x / (2 * b + 1) % (2 * b + 1) - b
  | _ => x % (2 * b + 1) - b
theorem en_r {b : Int} (hb : b = 1 ∨ b = 2) {x : Int} (hx : 0 ≤ x) (p : Nat) : -2 ≤ en b x p ∧ en b x p ≤ 2 := by
  have k : ∀ y : Int, -2 ≤ y % (2 * b + 1) - b ∧ y % (2 * b + 1) - b ≤ 2 := fun y => by
    have h1 := Int.emod_nonneg y (show (2 * b + 1) ≠ 0 by omega)
    have h2 := Int.emod_lt_of_pos y (show 0 < (2 * b + 1) by omega)
    omega
  match p with
  | 0 => exact k _
  | 1 => exact k _
  | 2 => exact k _
  | _ + 3 => exact k _
theorem enS {b w r : Int} (hw : w = 3 ∨ w = 5) (hr : 0 ≤ r ∧ r < 1000) {p : Int} (hp : 0 ≤ p ∧ p < 3) {n : Nat} (hn : 0 < n) (g : HP) : LX4_entry_12 n b w r p g = LX4_entry_12 (n - 1) b w (r / w) (p + 1) g := by
  obtain ⟨n, rfl⟩ : ∃ k, n = k + 1 := ⟨n - 1, by omega⟩
  show bX4_entry_12 (LX4_entry_12 n) b w r p g = _
  unfold bX4_entry_12
  rw [wi_id (z := p) (by omega) (by omega), show wi 3 = 3 from rfl, if_pos (by omega), wi_id (z := w) (by omega) (by omega), wi_id (z := r) (by omega) (by omega), gd_t (by omega), lt_d, Int.tdiv_eq_ediv_of_nonneg hr.1]
  rfl
theorem enE {b w r : Int} (hw : w = 3 ∨ w = 5) (hr : 0 ≤ r ∧ r < 1000) {n : Nat} (hn : 0 < n) (g : HP) : LX4_entry_12 n b w r 3 g = some (r % w - b, g) := by
  obtain ⟨n, rfl⟩ : ∃ k, n = k + 1 := ⟨n - 1, by omega⟩
  show bX4_entry_12 (LX4_entry_12 n) b w r 3 g = _
  unfold bX4_entry_12
  rw [show wi 3 = 3 from rfl, if_neg (by omega), wi_id (z := w) (by omega) (by omega), wi_id (z := r) (by omega) (by omega), gd_t (by omega), Int.tmod_eq_emod_of_nonneg hr.1]
theorem dv_r {w r : Int} (hw : w = 3 ∨ w = 5) (hr : 0 ≤ r ∧ r < 1000) : 0 ≤ r / w ∧ r / w < 1000 := by
  rcases hw with h | h <;> (subst h; omega)
theorem pEn {b : Int} (hb : b = 1 ∨ b = 2) {x : Int} (hx : 0 ≤ x ∧ x < 1000) (g : HP) : fX4_entry b x 0 g = some (en b x 0, g) ∧ fX4_entry b x 1 g = some (en b x 1, g) ∧ fX4_entry b x 2 g = some (en b x 2, g) ∧ fX4_entry b x 3 g = some (en b x 3, g) := by
  have hw : 2 * b + 1 = 3 ∨ 2 * b + 1 = 5 := by omega
  have d1 := dv_r hw hx
  have d2 := dv_r hw d1
  have d3 := dv_r hw d2
  unfold fX4_entry
  refine ⟨?_, ?_, ?_, ?_⟩
  · rw [lt_d, enS hw hx (by omega) (by decide), enS hw d1 (by omega) (by decide), enS hw d2 (by omega) (by decide), show (0 : Int) + 1 + 1 + 1 = 3 from rfl, enE hw d3 (by decide)]; rfl
  · rw [lt_d, enS hw hx (by omega) (by decide), enS hw d1 (by omega) (by decide), show (1 : Int) + 1 + 1 = 3 from rfl, enE hw d2 (by decide)]; rfl
  · rw [lt_d, enS hw hx (by omega) (by decide), show (2 : Int) + 1 = 3 from rfl, enE hw d1 (by decide)]; rfl
  · rw [lt_d, enE hw hx (by decide)]; rfl
theorem pCode {b : Int} (hb : b = 1 ∨ b = 2) {x : Int} (hx : 0 ≤ x ∧ x < 1000) (g : HP) : fX4_codeOf b x g = some (1000 * (en b x 0 + 2) + 100 * (en b x 1 + 2) + 10 * (en b x 2 + 2) + en b x 3 + 2, g) := by
  obtain ⟨e0, e1, e2, e3⟩ := pEn hb hx g
  have st : ∀ (n : Nat) (c p e : Int), 0 ≤ p → p < 4 → fX4_entry b x p g = some (e, g) → LX4_codeOf_4 (n + 1) b x c p g = LX4_codeOf_4 n b x (10 * c + e + 2) (p + 1) g := by
    intro n c p e h0 h4 h
    show bX4_codeOf_4 (LX4_codeOf_4 n) b x c p g = _
    unfold bX4_codeOf_4
    rw [wi_id (z := p) (by omega) (by omega), show wi 4 = 4 from rfl, if_pos h4, h, cl_some, lt_d]
  have en' : ∀ (n : Nat) (c : Int), LX4_codeOf_4 (n + 1) b x c 4 g = some (c, g) := by
    intro n c
    show bX4_codeOf_4 (LX4_codeOf_4 n) b x c 4 g = _
    unfold bX4_codeOf_4
    rw [show wi 4 = 4 from rfl, if_neg (by omega)]
  unfold fX4_codeOf
  obtain ⟨k, hk⟩ : ∃ k, FU = k + 5 := ⟨FU - 5, rfl⟩
  rw [hk, st (k + 4) 0 0 _ (by omega) (by omega) e0, show (0 : Int) + 1 = 1 from rfl, st (k + 3) _ 1 _ (by omega) (by omega) e1, show (1 : Int) + 1 = 2 from rfl, st (k + 2) _ 2 _ (by omega) (by omega) e2, show (2 : Int) + 1 = 3 from rfl, st (k + 1) _ 3 _ (by omega) (by omega) e3, show (3 : Int) + 1 = 4 from rfl, en' k]
  refine congrArg (fun z => some (z, g)) ?_
  omega
theorem mEn {b : Int} (hb : b = 1 ∨ b = 2) {w : Int} (hw : w = 2 * b + 1) {x : Int} (hx : 0 ≤ x ∧ x < w * w * w * w) : Int.tmod (wi x) (wi w) - b = en b x 3 ∧ Int.tmod (wi (Int.tdiv (wi x) (wi w))) (wi w) - b = en b x 2 ∧ Int.tmod (wi (Int.tdiv (wi x) (wi (w * w)))) (wi w) - b = en b x 1 ∧ Int.tdiv (wi x) (wi ((w * w) * w)) - b = en b x 0 := by
  rcases hb with h | h
  · subst h
    have : w = 3 := by omega
    subst this
    rw [show wi 3 = 3 from rfl, show wi (3 * 3) = 9 from rfl, show wi (3 * 3 * 3) = 27 from rfl, wi_id (z := x) (by omega) (by omega), Int.tmod_eq_emod_of_nonneg (by omega), Int.tdiv_eq_ediv_of_nonneg (by omega), Int.tdiv_eq_ediv_of_nonneg (by omega), Int.tdiv_eq_ediv_of_nonneg (by omega), wi_id (z := x / 3) (by omega) (by omega), wi_id (z := x / 9) (by omega) (by omega), Int.tmod_eq_emod_of_nonneg (by omega), Int.tmod_eq_emod_of_nonneg (by omega)]
    refine ⟨rfl, rfl, ?_, ?_⟩
    · show x / 9 % 3 - 1 = x / 3 / 3 % 3 - 1
      omega
    · show x / 27 - 1 = x / 3 / 3 / 3 % 3 - 1
      omega
  · subst h
    have : w = 5 := by omega
    subst this
    rw [show wi 5 = 5 from rfl, show wi (5 * 5) = 25 from rfl, show wi (5 * 5 * 5) = 125 from rfl, wi_id (z := x) (by omega) (by omega), Int.tmod_eq_emod_of_nonneg (by omega), Int.tdiv_eq_ediv_of_nonneg (by omega), Int.tdiv_eq_ediv_of_nonneg (by omega), Int.tdiv_eq_ediv_of_nonneg (by omega), wi_id (z := x / 5) (by omega) (by omega), wi_id (z := x / 25) (by omega) (by omega), Int.tmod_eq_emod_of_nonneg (by omega), Int.tmod_eq_emod_of_nonneg (by omega)]
    refine ⟨rfl, rfl, ?_, ?_⟩
    · show x / 25 % 5 - 2 = x / 5 / 5 % 5 - 2
      omega
    · show x / 125 - 2 = x / 5 / 5 / 5 % 5 - 2
      omega
-- one table
theorem pILL {N a b c d : Int} (hN : 0 ≤ N ∧ N ≤ 8) (ha : -2 ≤ a ∧ a ≤ 2) (hb : -2 ≤ b ∧ b ≤ 2) (hc : -2 ≤ c ∧ c ≤ 2) (hd : -2 ≤ d ∧ d ≤ 2) {g : HP} (r22 : R9 g 22) (r24 : ∀ j : Nat, (j : Int) ≤ N → rs (g 24 j)) : ∀ (e v n : Nat), N + 1 - v = e → e < n → ((∀ u : Nat, v ≤ u → (u : Int) ≤ N → ep (ev (g 22) (a + b * u) (c + d * u) N.toNat) (g 24 u)) → LX4_isLead_50 n N a b c d v g = some (1, g)) ∧ ((∃ u : Nat, v ≤ u ∧ (u : Int) ≤ N ∧ ¬ ep (ev (g 22) (a + b * u) (c + d * u) N.toNat) (g 24 u)) → LX4_isLead_50 n N a b c d v g = some (0, g)) := by
  intro e
  induction e with
  | zero =>
    intro v n q1 q3
    obtain ⟨n, rfl⟩ : ∃ k, n = k + 1 := ⟨n - 1, by omega⟩
    refine ⟨fun _ => ?_, fun ⟨u, a, b, _⟩ => by omega⟩
    show bX4_isLead_50 (LX4_isLead_50 n) N a b c d v g = _
    unfold bX4_isLead_50
    rw [wi_id (z := (v : Int)) (by omega) (by omega), wi_id (z := N) (by omega) (by omega), if_neg (by omega)]
  | succ e ih =>
    intro v n q1 q3
    obtain ⟨n, rfl⟩ : ∃ k, n = k + 1 := ⟨n - 1, by omega⟩
    obtain ⟨i1, i2⟩ := ih (v + 1) n (by omega) (by omega)
    have bb : ∀ z : Int, -2 ≤ z ∧ z ≤ 2 → -16 ≤ z * v ∧ z * v ≤ 16 := fun z hz => by
      have q : (z * (v : Int)).natAbs ≤ 2 * 8 := by rw [Int.natAbs_mul]; exact Nat.mul_le_mul (by omega) (by omega)
      omega
    have b1 := bb b hb
    have b2 := bb d hd
    have key : ep (ev (g 22) ((a + b * v) % 10007) ((c + d * v) % 10007) N.toNat) (ev (g 22) (a + b * v) (c + d * v) N.toNat) := ev_ep (ep_m _) (ep_m _) (fun i _ => ep_r _)
    have st : LX4_isLead_50 (n + 1) N a b c d v g = if ev (g 22) ((a + b * v) % 10007) ((c + d * v) % 10007) N.toNat % 10007 = g 24 v then LX4_isLead_50 n N a b c d (v + 1 : Nat) g else some (0, g) := by
      show bX4_isLead_50 (LX4_isLead_50 n) N a b c d v g = _
      unfold bX4_isLead_50
      rw [wi_id (z := (v : Int)) (by omega) (by omega), wi_id (z := N) (by omega) (by omega), if_pos (by omega), pRed (wi_id (by omega) (by omega)), cl_some, pRed (wi_id (by omega) (by omega)), cl_some, pVal (by decide) hN (rs_mod _) (rs_mod _) r22, cl_some, w_ld (by decide) (by omega), Int.toNat_natCast, rs_wi (rs_mod _), rs_wi (r24 v (by omega))]
      rfl
    rw [st]
    by_cases z : ev (g 22) ((a + b * v) % 10007) ((c + d * v) % 10007) N.toNat % 10007 = g 24 v
    · rw [if_pos z]
      have z2 : ep (ev (g 22) (a + b * v) (c + d * v) N.toNat) (g 24 v) := by
        rw [← z]
        exact ep_s (ep_t (ep_m _) key)
      refine ⟨fun h => i1 (fun u p q => h u (by omega) q), fun ⟨u, p, q, r⟩ => i2 ⟨u, ?_, q, r⟩⟩
      by_cases y : u = v
      · rw [y] at r; exact absurd z2 r
      · omega
    · rw [if_neg z]
      refine ⟨fun h => ?_, fun _ => rfl⟩
      exact absurd (ep_i (rs_mod _) (r24 v (by omega)) (ep_t (ep_m _) (ep_t key (h v (by omega) (by omega))))) z
theorem mLB0 {m : HP} {N : Int} (hN : 0 ≤ N ∧ N ≤ 8) (h6 : m 0 6 = N) : ∀ (d i n : Nat), N + 1 - i = d → d < n → LX5_leadsBy_44 n 0 i m = some (0, m) := by
  intro d
  induction d with
  | zero =>
    intro i n q1 q3
    obtain ⟨n, rfl⟩ : ∃ k, n = k + 1 := ⟨n - 1, by omega⟩
    show bX5_leadsBy_44 (LX5_leadsBy_44 n) 0 i m = _
    unfold bX5_leadsBy_44
    rw [h6, wi_id (z := (i : Int)) (by omega) (by omega), wi_id (z := N) (by omega) (by omega), if_neg (by omega), gd_t (Or.inl rfl)]
  | succ d ih =>
    intro i n q1 q3
    obtain ⟨n, rfl⟩ : ∃ k, n = k + 1 := ⟨n - 1, by omega⟩
    show bX5_leadsBy_44 (LX5_leadsBy_44 n) 0 i m = _
    unfold bX5_leadsBy_44
    rw [h6, wi_id (z := (i : Int)) (by omega) (by omega), wi_id (z := N) (by omega) (by omega), if_pos (by omega), if_pos wi_0]
    exact ih (i + 1) n (by omega) (by omega)
theorem mLB1 {m : HP} {N : Int} (hN : 0 ≤ N ∧ N ≤ 8) (h6 : m 0 6 = N) (hr : R9 m 7) (hq : R9 m 6) : ∀ (d i n : Nat), N + 1 - i = d → d < n → ((∀ j : Nat, i ≤ j → (j : Int) ≤ N → m 7 j = m 6 j) → LX5_leadsBy_44 n 1 i m = some (1, m)) ∧ ((∃ j : Nat, i ≤ j ∧ (j : Int) ≤ N ∧ m 7 j ≠ m 6 j) → LX5_leadsBy_44 n 1 i m = some (0, m)) := by
  intro d
  induction d with
  | zero =>
    intro i n q1 q3
    obtain ⟨n, rfl⟩ : ∃ k, n = k + 1 := ⟨n - 1, by omega⟩
    refine ⟨fun _ => ?_, fun ⟨j, a, b, _⟩ => by omega⟩
    show bX5_leadsBy_44 (LX5_leadsBy_44 n) 1 i m = _
    unfold bX5_leadsBy_44
    rw [h6, wi_id (z := (i : Int)) (by omega) (by omega), wi_id (z := N) (by omega) (by omega), if_neg (by omega), gd_t (Or.inr rfl)]
  | succ d ih =>
    intro i n q1 q3
    obtain ⟨n, rfl⟩ : ∃ k, n = k + 1 := ⟨n - 1, by omega⟩
    obtain ⟨i1, i2⟩ := ih (i + 1) n (by omega) (by omega)
    have st : LX5_leadsBy_44 (n + 1) 1 i m = if m 7 i = m 6 i then LX5_leadsBy_44 n 1 (i + 1 : Nat) m else LX5_leadsBy_44 n 0 (i + 1 : Nat) m := by
      show bX5_leadsBy_44 (LX5_leadsBy_44 n) 1 i m = _
      unfold bX5_leadsBy_44
      rw [h6, wi_id (z := (i : Int)) (by omega) (by omega), wi_id (z := N) (by omega) (by omega), if_pos (by omega), if_neg (by decide), m7_ld (by omega), m6_ld (by omega), Int.toNat_natCast, rs_wi (hr i (by omega)), rs_wi (hq i (by omega))]
      rfl
    rw [st]
    by_cases c : m 7 i = m 6 i
    · rw [if_pos c]
      refine ⟨fun h => i1 (fun j a b => h j (by omega) b), fun ⟨j, a, b, e⟩ => i2 ⟨j, ?_, b, e⟩⟩
      by_cases z : j = i
      · rw [z] at e; exact absurd c e
      · omega
    · rw [if_neg c]
      exact ⟨fun h => absurd (h i (by omega) (by omega)) c, fun _ => mLB0 hN h6 d (i + 1) n (by omega) (by omega)⟩
/-- what stands on both sides while tables are tried -/
def LI (g m0 m : HP) (N : Int) : Prop := R9 g 22 ∧ R9 g 23 ∧ (∀ u : Nat, (u : Int) ≤ N → g 24 u = pol (g 23) N.toNat u % 10007) ∧ m 0 6 = N ∧ (∀ j, j < 9 → m 5 j = g 22 j) ∧ (∀ j, j < 9 → m 6 j = g 23 j) ∧ sameM m0 m
theorem one_lead {g m0 m : HP} {N : Int} (hN : 0 ≤ N ∧ N ≤ 8) (h : LI g m0 m N) {b : Int} (hb : b = 1 ∨ b = 2) {x : Int} (hx : 0 ≤ x ∧ x < 1000) : ∃ r m', (r = 0 ∨ r = 1) ∧ fX4_isLead N b x g = some (r, g) ∧ fX5_leadsBy (en b x 0) (en b x 1) (en b x 2) (en b x 3) m = some (r, m') ∧ LI g m0 m' N := by
  obtain ⟨r22, r23, h24, h6, h5, hg, hm⟩ := id h
  obtain ⟨e0, e1, e2, e3⟩ := pEn hb hx g
  have a0 := en_r hb hx.1 0
  have a1 := en_r hb hx.1 1
  have a2 := en_r hb hx.1 2
  have a3 := en_r hb hx.1 3
  generalize en b x 0 = A at e0 a0 ⊢
  generalize en b x 1 = B at e1 a1 ⊢
  generalize en b x 2 = C at e2 a2 ⊢
  generalize en b x 3 = D at e3 a3 ⊢
  have bb : ∀ y z : Int, -2 ≤ y ∧ y ≤ 2 → -2 ≤ z ∧ z ≤ 2 → -4 ≤ y * z ∧ y * z ≤ 4 := fun y z hy hz => by
    have q : (y * z).natAbs ≤ 2 * 2 := by rw [Int.natAbs_mul]; exact Nat.mul_le_mul (by omega) (by omega)
    omega
  have b1 := bb A D a0 a3
  have b2 := bb B C a1 a2
  unfold fX4_isLead fX5_leadsBy
  rw [e0, cl_some, e1, cl_some, e2, cl_some, e3, cl_some, wi_id (z := A * D) (by omega) (by omega), wi_id (z := B * C) (by omega) (by omega), wi_id (z := A * D - B * C) (by omega) (by omega)]
  by_cases z : A * D = B * C
  · rw [if_pos z, if_pos (by omega)]
    exact ⟨0, m, Or.inl rfl, rfl, rfl, h⟩
  · have R5 : R9 m 5 := fun j hj => by rw [h5 j hj]; exact r22 j hj
    rw [if_neg z, if_neg (by omega), wi_id (z := A) (by omega) (by omega), wi_id (z := B) (by omega) (by omega), wi_id (z := C) (by omega) (by omega), wi_id (z := D) (by omega) (by omega), mMod (by omega) (by omega), cl_some, mMod (by omega) (by omega), cl_some, mMod (by omega) (by omega), cl_some, mMod (by omega) (by omega), cl_some]
    obtain ⟨m2, d1, d2, d3, d4, d5, d6⟩ := mMix hN (rs_mod A) (rs_mod B) (rs_mod C) (rs_mod D) h6 R5
    have k6 : m2 6 = m 6 := d2 6 (by decide) (by decide) (by decide)
    have hm2 : sameM m0 m2 := sM_t hm ⟨d3 4 (by decide), d2 1 (by decide) (by decide) (by decide), d2 2 (by decide) (by decide) (by decide), d2 3 (by decide) (by decide) (by decide)⟩
    have hI : LI g m0 m2 N := ⟨r22, r23, h24, by rw [d3 6 (by decide)]; exact h6, fun j hj => by rw [d2 5 (by decide) (by decide) (by decide)]; exact h5 j hj, fun j hj => by rw [k6]; exact hg j hj, hm2⟩
    obtain ⟨k1, k2⟩ := pILL hN a0 a1 a2 a3 r22 (fun j hj => by rw [h24 j hj]; exact rs_mod _) (N + 1).toNat 0 FU (by omega) (fu_lt (by omega))
    obtain ⟨l1, l2⟩ := mLB1 hN hI.2.2.2.1 d5 (fun j hj => by rw [k6, hg j hj]; exact r23 j hj) (N + 1).toNat 0 FU (by omega) (fu_lt (by omega))
    rw [show ((0 : Nat) : Int) = 0 from rfl] at k1 k2 l1 l2
    have key : ∀ u : Nat, ep (pol (m2 7) N.toNat u) (ev (g 22) (A + B * u) (C + D * u) N.toNat) := fun u => by
      refine ep_t (d6 u) (ev_ep ?_ ?_ (fun i hi => by rw [h5 i (by omega)]; exact ep_r _))
      · exact ep_a (ep_m _) (ep_u (ep_m _) (ep_r _))
      · exact ep_a (ep_m _) (ep_u (ep_m _) (ep_r _))
    rw [d1, cl_some]
    by_cases q : ∃ j : Nat, 0 ≤ j ∧ (j : Int) ≤ N ∧ m2 7 j ≠ m2 6 j
    · refine ⟨0, m2, Or.inl rfl, ?_, l2 q, hI⟩
      by_cases y : ∃ u : Nat, 0 ≤ u ∧ (u : Int) ≤ N ∧ ¬ ep (ev (g 22) (A + B * u) (C + D * u) N.toNat) (g 24 u)
      · exact k2 y
      · exfalso
        obtain ⟨j, j1, j2, j3⟩ := q
        refine j3 (ep_i (d5 j (by omega)) (by rw [k6, hg j (by omega)]; exact r23 j (by omega)) (pol_i (n := N.toNat) (by omega) (fun v hv => ?_) j (by omega)))
        refine ep_t (key v) ?_
        have y2 : ep (ev (g 22) (A + B * v) (C + D * v) N.toNat) (g 24 v) := by
          by_cases y3 : ep (ev (g 22) (A + B * v) (C + D * v) N.toNat) (g 24 v)
          · exact y3
          · exact absurd ⟨v, by omega, by omega, y3⟩ y
        refine ep_t y2 ?_
        rw [h24 v (by omega)]
        exact ep_t (ep_m _) (pol_cg _ (fun i hi => by rw [k6, hg i (by omega)]; exact ep_r _) (ep_r _))
    · have q2 : ∀ j : Nat, 0 ≤ j → (j : Int) ≤ N → m2 7 j = m2 6 j := fun j j1 j2 => by
        by_cases y : m2 7 j = m2 6 j
        · exact y
        · exact absurd ⟨j, j1, j2, y⟩ q
      refine ⟨1, m2, Or.inr rfl, k1 (fun u u1 u2 => ep_t (ep_s (key u)) ?_), l1 q2, hI⟩
      rw [h24 u u2]
      refine ep_t ?_ (ep_s (ep_m _))
      exact pol_cg _ (fun i hi => by rw [q2 i (by omega) (by omega), k6, hg i (by omega)]; exact ep_r _) (ep_r _)
