/-! Forms that divide forms. -/
def cv (h q : Nat → Int) (k : Nat) : Int := sm (fun t => h t * q (k - t)) (k + 1)
def sh (s : Nat) (F : Nat → Int) (k : Nat) : Int := if k < s then 0 else F (k - s)
def dv (h : Nat → Int) (e : Int) (F : Nat → Int) (m : Int) : Prop := ∃ q : Nat → Int, (∀ k : Nat, m < (k : Int) + e → ep (q k) 0) ∧ ∀ k, ep (F k) (cv h q k)
theorem cv_cg {h h' q q' : Nat → Int} {k : Nat} (a : ∀ t, t ≤ k → ep (h t) (h' t)) (b : ∀ t, t ≤ k → ep (q t) (q' t)) : ep (cv h q k) (cv h' q' k) := ep_sm (fun t ht => ep_u (a t (by omega)) (b (k - t) (by omega)))
theorem sm_one {f : Nat → Int} {i : Nat} : ∀ {n : Nat}, i < n → (∀ t, t < n → t ≠ i → ep (f t) 0) → ep (sm f n) (f i)
  | 0, h, _ => by omega
  | n + 1, h, z => by
    show ep (sm f n + f n) (f i)
    by_cases c : i = n
    · have e : ep (sm f n) (sm (fun _ => 0) n) := ep_sm (fun t ht => z t (by omega) (by omega))
      rw [sm_0] at e
      have := ep_a e (ep_r (f n))
      rw [Int.zero_add] at this
      rw [c]; exact this
    · have := ep_a (sm_one (n := n) (i := i) (by omega) (fun t ht hn => z t (by omega) hn)) (z n (by omega) (by omega))
      rwa [Int.add_zero] at this
theorem sm_0e {f : Nat → Int} {n : Nat} (z : ∀ t, t < n → ep (f t) 0) : ep (sm f n) 0 := by
  have e : ep (sm f n) (sm (fun _ => 0) n) := ep_sm z
  rwa [sm_0] at e
theorem cv_lin (h p q : Nat → Int) (a b : Int) (k : Nat) : cv h (fun t => a * p t + b * q t) k = a * cv h p k + b * cv h q k := by
  unfold cv
  rw [← sm_lin]
  exact sm_cg (fun t _ => by rw [Int.mul_add, Int.mul_left_comm, Int.mul_left_comm (h t) b])
theorem sh_lo {s k : Nat} {F : Nat → Int} (h : k < s) : sh s F k = 0 := if_pos h
theorem sh_hi {s k : Nat} {F : Nat → Int} (h : ¬ k < s) : sh s F k = F (k - s) := if_neg h
/-- the second factor moved on -/
theorem cv_sh (h q : Nat → Int) (s k : Nat) : cv h (sh s q) k = sh s (cv h q) k := by
  by_cases c : k < s
  · rw [sh_lo c]
    exact sm_zz (fun t ht => by rw [sh_lo (by omega), Int.mul_zero])
  · rw [sh_hi c]
    unfold cv
    rw [show k + 1 = k - s + 1 + s by omega, sm_ext s (fun t h1 h2 => by rw [sh_lo (by omega), Int.mul_zero])]
    exact sm_cg (fun t ht => by rw [sh_hi (by omega), show k - t - s = k - s - t by omega])
/-- the first factor moved on -/
theorem cv_hs (h q : Nat → Int) : ∀ (s k : Nat), cv (sh s h) q k = sh s (cv h q) k := by
  have one : ∀ (h : Nat → Int) (k : Nat), cv (sh 1 h) q k = sh 1 (cv h q) k := fun h k => by
    match k with
    | 0 => 
      show 0 + sh 1 h 0 * q 0 = sh 1 (cv h q) 0
      unfold sh
      rw [if_pos (by decide), if_pos (by decide), Int.zero_mul]; rfl
    | k + 1 =>
      have e : sh 1 (cv h q) (k + 1) = cv h q k := by unfold sh; rw [if_neg (by omega), show k + 1 - 1 = k by omega]
      rw [e]
      unfold cv
      rw [sm_head]
      have e0 : sh 1 h 0 = 0 := by unfold sh; rw [if_pos (by decide)]
      rw [e0, Int.zero_mul, Int.zero_add]
      exact sm_cg (fun t ht => by
        have e1 : sh 1 h (t + 1) = h t := by unfold sh; rw [if_neg (by omega), show t + 1 - 1 = t by omega]
        rw [e1, show k + 1 - (t + 1) = k - t by omega])
  have shs : ∀ (s : Nat) (f : Nat → Int) (k : Nat), sh (s + 1) f k = sh 1 (sh s f) k := fun s f k => by
    unfold sh
    by_cases c : k < 1
    · rw [if_pos c, if_pos (by omega)]
    · rw [if_neg c]
      by_cases d : k - 1 < s
      · rw [if_pos d, if_pos (by omega)]
      · rw [if_neg d, if_neg (by omega), show k - 1 - s = k - (s + 1) by omega]
  intro s
  induction s with
  | zero =>
    intro k
    have e : ∀ f : Nat → Int, sh 0 f = f := fun f => by
      funext j
      unfold sh
      rw [if_neg (by omega)]; rfl
    rw [e, e]
  | succ s ih =>
    intro k
    have e : sh (s + 1) h = sh 1 (sh s h) := by funext j; exact shs s h j
    have e2 : cv (sh s h) q = sh s (cv h q) := by funext j; exact ih j
    rw [e, one, e2, ← shs]
theorem dv_cg {h F F' : Nat → Int} {e m : Int} (a : ∀ k, ep (F k) (F' k)) (d : dv h e F m) : dv h e F' m := by
  obtain ⟨q, q1, q2⟩ := d
  exact ⟨q, q1, fun k => ep_t (ep_s (a k)) (q2 k)⟩
theorem dv_w {h F : Nat → Int} {e m m' : Int} (hm : m ≤ m') (d : dv h e F m) : dv h e F m' := by
  obtain ⟨q, q1, q2⟩ := d
  exact ⟨q, fun k hk => q1 k (by omega), q2⟩
theorem dv_lin {h F G : Nat → Int} {e m n : Int} (c : Int) (hn : n ≤ m) (d : dv h e F m) (d' : dv h e G n) : dv h e (fun k => F k + c * G k) m := by
  obtain ⟨q, q1, q2⟩ := d
  obtain ⟨p, p1, p2⟩ := d'
  refine ⟨fun t => 1 * q t + c * p t, fun k hk => ?_, fun k => ?_⟩
  · show ep (1 * q k + c * p k) 0
    exact ep_0a (ep_0m 1 (q1 k hk)) (ep_0m c (p1 k (by omega)))
  · rw [cv_lin, Int.one_mul]
    exact ep_a (q2 k) (ep_u (ep_r c) (p2 k))
theorem sh_ep {F G : Nat → Int} {s k : Nat} (h : ∀ k, ep (F k) (G k)) : ep (sh s F k) (sh s G k) := by
  unfold sh
  by_cases c : k < s
  · rw [if_pos c, if_pos c]; exact ep_r 0
  · rw [if_neg c, if_neg c]; exact h _
theorem dv_sh {h F : Nat → Int} {e m : Int} (s : Nat) (d : dv h e F m) : dv h e (sh s F) (m + s) := by
  obtain ⟨q, q1, q2⟩ := d
  refine ⟨sh s q, fun k hk => ?_, fun k => ?_⟩
  · unfold sh
    by_cases c : k < s
    · rw [if_pos c]; exact ep_r 0
    · rw [if_neg c]; exact q1 _ (by omega)
  · rw [cv_sh]; exact sh_ep q2
/-- where the divisor begins, what it divides begins too -/
theorem dv_st {h F : Nat → Int} {e m : Int} {z : Nat} (h0 : nz (h 0)) (d : dv h e (sh z F) m) : dv h e F (m - z) := by
  obtain ⟨q, q1, q2⟩ := d
  have low : ∀ k, k < z → ep (q k) 0 := by
    intro k
    induction k using Nat.strongRecOn with
    | _ k ih =>
      intro hk
      have h1 := q2 k
      have e1 : sh z F k = 0 := by unfold sh; rw [if_pos hk]
      rw [e1] at h1
      have h2 : ep (cv h q k) (h 0 * q k) := by
        have := sm_one (f := fun t => h t * q (k - t)) (i := 0) (n := k + 1) (by omega) (fun t ht hn => ep_0m _ (ih (k - t) (by omega) (by omega)))
        exact this
      exact ep_z h0 (ep_t (ep_s h2) (ep_s h1))
  refine ⟨fun k => q (k + z), fun k hk => q1 (k + z) (by omega), fun k => ?_⟩
  have h1 := q2 (k + z)
  have e1 : sh z F (k + z) = F k := by unfold sh; rw [if_neg (by omega), Nat.add_sub_cancel]
  rw [e1] at h1
  refine ep_t h1 ?_
  unfold cv
  rw [show k + z + 1 = k + 1 + z by omega]
  have sp : ∀ (f : Nat → Int) (n r : Nat), (∀ i, n ≤ i → i < n + r → ep (f i) 0) → ep (sm f (n + r)) (sm f n) := by
    intro f n r
    induction r with
    | zero => intro _; exact ep_r _
    | succ r ihr =>
      intro hh
      show ep (sm f (n + r) + f (n + r)) (sm f n)
      have := ep_a (ihr (fun i a b => hh i a (by omega))) (hh (n + r) (by omega) (by omega))
      rwa [Int.add_zero] at this
  refine ep_t (sp _ (k + 1) z (fun t a b => ep_0m _ (low _ (by omega)))) (ep_sm (fun t ht => ?_))
  rw [show k + z - t = k - t + z by omega]
  exact ep_r _
theorem dv_hi {h F : Nat → Int} {e m : Int} (hh : ∀ k : Nat, e < k → ep (h k) 0) (d : dv h e F m) : ∀ k : Nat, m < k → ep (F k) 0 := by
  obtain ⟨q, q1, q2⟩ := d
  intro k hk
  refine ep_t (q2 k) (sm_0e (fun t ht => ?_))
  by_cases c : e < (t : Int)
  · exact ep_0n _ (hh t c)
  · exact ep_0m _ (q1 (k - t) (by omega))
/-- where the divisor ends, what it divides ends too -/
theorem dv_tp {h F : Nat → Int} {e : Nat} {m m' : Int} (hm : -1 ≤ m') (hh : ∀ k : Nat, e < k → ep (h k) 0) (he : nz (h e)) (hF : ∀ k : Nat, m' < k → ep (F k) 0) (d : dv h e F m) : dv h e F m' := by
  obtain ⟨q, q1, q2⟩ := d
  have hi : ∀ (r k : Nat), m < (k : Int) + e + r → m' < (k : Int) + e → ep (q k) 0 := by
    intro r
    induction r with
    | zero => intro k h1 _; exact q1 k (by omega)
    | succ r ih =>
      intro k h1 h2
      have h3 : ep (cv h q (e + k)) (h e * q k) := by
        have := sm_one (f := fun t => h t * q (e + k - t)) (i := e) (n := e + k + 1) (by omega) (fun t ht hn => by
          by_cases c : e < t
          · exact ep_0n _ (hh t c)
          · exact ep_0m _ (ih (e + k - t) (by omega) (by omega)))
        rw [show e + k - e = k by omega] at this
        exact this
      exact ep_z he (ep_t (ep_s h3) (ep_t (ep_s (q2 (e + k))) (hF (e + k) (by omega))))
  exact ⟨q, fun k hk => hi ((m + 1).toNat) k (by omega) hk, q2⟩
/-- two forms that divide each other, and begin with 1, are one -/
theorem dv_eq {A B : Nat → Int} {a b : Int} (ha : 0 ≤ a) (hb : 0 ≤ b) (hA : ∀ k : Nat, a < k → ep (A k) 0) (hB : ∀ k : Nat, b < k → ep (B k) 0) (nA : ∃ p, ep (A p) 1 ∧ ∀ k, k < p → ep (A k) 0) (nB : ∃ p, ep (B p) 1 ∧ ∀ k, k < p → ep (B k) 0) (d1 : dv A a B b) (d2 : dv B b A a) : a = b ∧ ∀ k, ep (A k) (B k) := by
  have le : ∀ {A B : Nat → Int} {a b : Int}, (∃ p, ep (B p) 1 ∧ ∀ k, k < p → ep (B k) 0) → dv A a B b → a ≤ b := by
    intro A B a b ⟨p, p1, p2⟩ ⟨q, q1, q2⟩
    by_cases c : a ≤ b
    · exact c
    · exfalso
      have : ep (B p) 0 := ep_t (q2 p) (sm_0e (fun t ht => ep_0m _ (q1 _ (by omega))))
      exact ep_10 (ep_t (ep_s p1) this)
  have e1 := le nB d1
  have e2 := le nA d2
  have e : a = b := by omega
  refine ⟨e, ?_⟩
  obtain ⟨q, q1, q2⟩ := d1
  obtain ⟨i, i1, i2⟩ := nA
  obtain ⟨j, j1, j2⟩ := nB
  have key : ∀ k, ep (B k) (A k * q 0) := fun k => by
    refine ep_t (q2 k) ?_
    have := sm_one (f := fun t => A t * q (k - t)) (i := k) (n := k + 1) (by omega) (fun t ht hn => ep_0m _ (q1 (k - t) (by omega)))
    rw [Nat.sub_self] at this
    exact this
  have bi : ep (B i) (q 0) := by
    have := ep_t (key i) (ep_u i1 (ep_r (q 0)))
    rwa [Int.one_mul] at this
  have ij : i = j := by
    rcases Nat.lt_trichotomy i j with c | c | c
    · exfalso
      have h1 : ep (q 0) 0 := ep_t (ep_s bi) (j2 i c)
      exact ep_10 (ep_t (ep_s j1) (ep_t (key j) (ep_0m _ h1)))
    · exact c
    · exfalso
      exact ep_10 (ep_t (ep_s j1) (ep_t (key j) (ep_0n _ (i2 j c))))
  have q0 : ep (q 0) 1 := by
    rw [ij] at bi
    exact ep_t (ep_s bi) j1
  intro k
  have := ep_t (key k) (ep_u (ep_r (A k)) q0)
  rw [Int.mul_one] at this
  exact ep_s this
/-- what both forms have together -/
def gc (F : Nat → Int) (m : Int) (G : Nat → Int) (n : Int) (D : Nat → Int) (d : Int) : Prop := dv D d F m ∧ dv D d G n ∧ ∀ (h : Nat → Int) (e : Nat), (∀ k : Nat, e < k → ep (h k) 0) → dv h e F m → dv h e G n → dv h e D d
theorem gc_eq {F G A B : Nat → Int} {m n : Int} {a b : Nat} (hA : ∀ k : Nat, (a : Int) < k → ep (A k) 0) (hB : ∀ k : Nat, (b : Int) < k → ep (B k) 0) (nA : ∃ p, ep (A p) 1 ∧ ∀ k, k < p → ep (A k) 0) (nB : ∃ p, ep (B p) 1 ∧ ∀ k, k < p → ep (B k) 0) (g1 : gc F m G n A a) (g2 : gc F m G n B b) : a = b ∧ ∀ k, ep (A k) (B k) := by
  have := dv_eq (a := a) (b := b) (by omega) (by omega) hA hB nA nB (g2.2.2 A a (fun k hk => hA k (by omega)) g1.1 g1.2.1) (g1.2.2 B b (fun k hk => hB k (by omega)) g2.1 g2.2.1)
  exact ⟨by omega, this.2⟩
theorem dv_0 (h : Nat → Int) (e m : Int) : dv h e (fun _ => 0) m := ⟨fun _ => 0, fun _ _ => ep_r 0, fun k => ep_s (sm_0e (fun t _ => by rw [Int.mul_zero]; exact ep_r 0))⟩
theorem dv_sc {h F : Nat → Int} {e m : Int} (c : Int) (d : dv h e F m) : dv h e (fun k => c * F k) m := by
  obtain ⟨q, q1, q2⟩ := d
  refine ⟨fun t => c * q t + 0 * q t, fun k hk => ep_0a (ep_0m c (q1 k hk)) (ep_0m 0 (q1 k hk)), fun k => ?_⟩
  rw [cv_lin, Int.zero_mul, Int.add_zero]
  exact ep_u (ep_r c) (q2 k)
theorem dv_self {A F : Nat → Int} {a : Int} (c : Int) (h : ∀ k, ep (F k) (A k * c)) : dv A a F a := by
  refine ⟨fun t => if t = 0 then c else 0, fun k hk => ?_, fun k => ?_⟩
  · show ep (if k = 0 then c else 0) 0
    rw [if_neg (by omega)]; exact ep_r 0
  · refine ep_t (h k) (ep_s ?_)
    have := sm_one (f := fun t => A t * (if k - t = 0 then c else 0)) (i := k) (n := k + 1) (by omega) (fun t ht hn => by rw [if_neg (by omega), Int.mul_zero]; exact ep_r 0)
    rw [if_pos (Nat.sub_self k)] at this
    exact this
