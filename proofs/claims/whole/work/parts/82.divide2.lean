/-! Steps that keep what divides two forms. -/
def fm (F : Nat → Int) (D : Int) : Prop := (∀ k, rs (F k)) ∧ ∀ k : Nat, D < k → F k = 0
def ho (g : HP) (a : Nat) (F : Nat → Int) : Prop := ∀ k : Nat, k < 9 → g a k = F k
theorem dv_hc {h h' F : Nat → Int} {e m : Int} (a : ∀ k, ep (h k) (h' k)) (d : dv h e F m) : dv h' e F m := by
  obtain ⟨q, q1, q2⟩ := d
  exact ⟨q, q1, fun k => ep_t (q2 k) (cv_cg (fun t _ => a t) (fun t _ => ep_r _))⟩
theorem sh_sh (F : Nat → Int) (s t k : Nat) : sh s (sh t F) k = sh (t + s) F k := by
  unfold sh
  by_cases c : k < s
  · rw [if_pos c, if_pos (by omega)]
  · rw [if_neg c]
    by_cases d : k - s < t
    · rw [if_pos d, if_pos (by omega)]
    · rw [if_neg d, if_neg (by omega), show k - s - t = k - (t + s) by omega]
theorem dv_up {h F : Nat → Int} {e m : Int} (s t : Nat) (d : dv h e F m) : dv (sh s h) (e + s) (sh (t + s) F) (m + t + s) := by
  obtain ⟨q, q1, q2⟩ := dv_sh t d
  refine ⟨q, fun k hk => q1 k (by omega), fun k => ?_⟩
  rw [cv_hs, ← sh_sh]
  exact sh_ep q2
/-- a common divisor with its own powers of the second letter taken away -/
theorem dv_dn {h h' F F1 : Nat → Int} {e m : Int} {p z : Nat} (hp : ∀ k, ep (h k) (sh p h' k)) (h0 : nz (h' 0)) (hF : ∀ k, F k = sh z F1 k) (f0 : nz (F1 0)) (d : dv h e F m) : p ≤ z ∧ dv h' (e - p) F1 (m - z) := by
  obtain ⟨q, q1, q2⟩ := dv_hc hp d
  have q3 : ∀ k, ep (F k) (sh p (cv h' q) k) := fun k => by rw [← cv_hs]; exact q2 k
  have pz : p ≤ z := by
    by_cases c : p ≤ z
    · exact c
    · exfalso
      have := q3 z
      rw [sh_lo (by omega), hF, sh_hi (by omega), Nat.sub_self] at this
      exact f0 this
  refine ⟨pz, ?_⟩
  have d1 : dv h' (e - p) (sh (z - p) F1) (m - p) := by
    refine ⟨q, fun k hk => q1 k (by omega), fun k => ?_⟩
    have := q3 (k + p)
    rw [sh_hi (by omega), Nat.add_sub_cancel, hF] at this
    refine ep_t ?_ this
    unfold sh
    by_cases c : k < z - p
    · rw [if_pos c, if_pos (by omega)]; exact ep_r 0
    · rw [if_neg c, if_neg (by omega), show k - (z - p) = k + p - z by omega]; exact ep_r _
  have d2 := dv_st h0 d1
  rw [show m - (p : Int) - ((z - p : Nat) : Int) = m - z by omega] at d2
  exact d2
theorem fnzp {h : Nat → Int} : ∀ {n : Nat}, (∃ j, j ≤ n ∧ nz (h j)) → ∃ p, p ≤ n ∧ nz (h p) ∧ ∀ j, j < p → ep (h j) 0 := by
  intro n ⟨j, a, b⟩
  obtain ⟨p, p1, p2, p3⟩ := fnz (F := fun k => h k % 10007) (n := n) ⟨j, a, fun q => b q⟩
  exact ⟨p, p1, fun q => p2 q, fun i hi => p3 i hi⟩
theorem dv_nz {h F : Nat → Int} {e : Nat} {m : Int} {z : Nat} (hh : ∀ k : Nat, e < k → ep (h k) 0) (f0 : nz (F z)) (d : dv h e F m) : ∃ j, j ≤ e ∧ nz (h j) := by
  by_cases c : ∃ j, j ≤ e ∧ nz (h j)
  · exact c
  · exfalso
    obtain ⟨q, q1, q2⟩ := d
    refine f0 (ep_t (q2 z) (sm_0e (fun t ht => ep_0n _ ?_)))
    by_cases z : e < t
    · exact hh t z
    · by_cases y : ep (h t) 0
      · exact y
      · exact absurd ⟨t, by omega, y⟩ c
theorem gc_cl {F G F1 G1 B : Nat → Int} {M N m1 n1 : Int} {z1 z2 s d : Nat} (hF : ∀ k, F k = sh z1 F1 k) (hG : ∀ k, G k = sh z2 G1 k) (f0 : nz (F1 0)) (g0 : nz (G1 0)) (hm : m1 = M - z1) (hn : n1 = N - z2) (hs : (s = z1 ∧ z1 ≤ z2) ∨ (s = z2 ∧ z2 ≤ z1))
    (bk : ∀ (h : Nat → Int) (e : Int), dv h e B d → dv h e F1 m1 ∧ dv h e G1 n1) (fo : ∀ (h : Nat → Int) (e : Int), nz (h 0) → dv h e F1 m1 → dv h e G1 n1 → dv h e B d) : gc F M G N (sh s B) ((s + d : Nat) : Int) := by
  have self : dv B d B d := dv_self 1 (fun k => by rw [Int.mul_one]; exact ep_r _)
  obtain ⟨b1, b2⟩ := bk B d self
  refine ⟨?_, ?_, fun h e hh d1 d2 => ?_⟩
  · have := dv_up s (z1 - s) b1
    rw [show z1 - s + s = z1 by omega, show (d : Int) + s = ((s + d : Nat) : Int) by omega, show m1 + ((z1 - s : Nat) : Int) + s = M by omega] at this
    exact dv_cg (fun k => by rw [hF]; exact ep_r _) this
  · have := dv_up s (z2 - s) b2
    rw [show z2 - s + s = z2 by omega, show (d : Int) + s = ((s + d : Nat) : Int) by omega, show n1 + ((z2 - s : Nat) : Int) + s = N by omega] at this
    exact dv_cg (fun k => by rw [hG]; exact ep_r _) this
  · have fz : nz (F z1) := by rw [hF, sh_hi (by omega), Nat.sub_self]; exact f0
    obtain ⟨p, p1, p2, p3⟩ := fnzp (dv_nz hh fz d1)
    have hp : ∀ k, ep (h k) (sh p (fun j => h (j + p)) k) := fun k => by
      unfold sh
      by_cases c : k < p
      · rw [if_pos c]; exact p3 k c
      · rw [if_neg c]
        show ep (h k) (h (k - p + p))
        rw [show k - p + p = k by omega]; exact ep_r _
    have h0 : nz ((fun j => h (j + p)) 0) := by
      show nz (h (0 + p))
      rw [Nat.zero_add]; exact p2
    obtain ⟨u1, u2⟩ := dv_dn hp h0 hF f0 d1
    obtain ⟨v1, v2⟩ := dv_dn hp h0 hG g0 d2
    rw [← hm] at u2
    rw [← hn] at v2
    have := dv_up p (s - p) (fo _ _ h0 u2 v2)
    rw [show s - p + p = s by omega, show (e : Int) - p + p = e by omega, show (d : Int) + ((s - p : Nat) : Int) + p = ((s + d : Nat) : Int) by omega] at this
    exact dv_hc (fun k => ep_s (hp k)) this
/-- a step of the class -/
theorem st_eq {h F G E : Nat → Int} {e m n c : Int} {z : Nat} (hn : n ≤ m) (hE : ∀ k, ep (sh z E k) (F k + c * G k)) (dG : dv h e G n) : (dv h e E (m - z) → dv h e F m) ∧ (nz (h 0) → dv h e F m → dv h e E (m - z)) := by
  constructor
  · intro d
    have d1 := dv_sh z d
    rw [show m - (z : Int) + z = m by omega] at d1
    refine dv_cg (fun k => ?_) (dv_lin (-c) hn d1 dG)
    have := ep_a (hE k) (ep_r (-c * G k))
    rw [show F k + c * G k + -c * G k = F k by rw [Int.neg_mul]; omega] at this
    exact this
  · intro h0 d
    exact dv_st h0 (dv_cg (fun k => ep_s (hE k)) (dv_lin c hn d dG))
/-- a step of the reference -/
theorem st_eq2 {h F G E : Nat → Int} {e a a' b c : Int} {t : Nat} (ht : b + t = a) (ha : -1 ≤ a') (ha' : a' ≤ a) (hE : ∀ k, ep (E k) (F k + c * sh t G k)) (hz : ∀ k : Nat, a' < k → ep (E k) 0) (dG : dv h e G b) : (dv h e E a' → dv h e F a) ∧ (∀ e' : Nat, e = e' → (∀ k : Nat, e' < k → ep (h k) 0) → nz (h e') → dv h e F a → dv h e E a') := by
  have dT := dv_sh t dG
  rw [ht] at dT
  constructor
  · intro d
    refine dv_cg (fun k => ?_) (dv_lin (-c) (Int.le_refl a) (dv_w ha' d) dT)
    have := ep_a (hE k) (ep_r (-c * sh t G k))
    rw [show F k + c * sh t G k + -c * sh t G k = F k by rw [Int.neg_mul]; omega] at this
    exact this
  · intro e' he hh h1 d
    rw [he] at d dT ⊢
    exact dv_tp ha hh h1 hz (dv_cg (fun k => ep_s (hE k)) (dv_lin c (Int.le_refl a) d dT))
theorem lnzp {h : Nat → Int} : ∀ {n : Nat}, (∃ j, j ≤ n ∧ nz (h j)) → ∃ p, p ≤ n ∧ nz (h p) ∧ ∀ j, p < j → j ≤ n → ep (h j) 0
  | 0, ⟨j, hj, h⟩ => ⟨0, by omega, by rw [show 0 = j by omega]; exact h, fun j hj => by omega⟩
  | n + 1, ⟨j, hj, b⟩ => by
    by_cases c : nz (h (n + 1))
    · exact ⟨n + 1, by omega, c, fun j hj => by omega⟩
    · have z : ep (h (n + 1)) 0 := by
        by_cases y : ep (h (n + 1)) 0
        · exact y
        · exact absurd y c
      have jn : j ≠ n + 1 := fun q => c (by rw [← q]; exact b)
      obtain ⟨p, p1, p2, p3⟩ := lnzp (n := n) ⟨j, by omega, b⟩
      refine ⟨p, by omega, p2, fun i a b => ?_⟩
      by_cases y : i = n + 1
      · rw [y]; exact z
      · exact p3 i a (by omega)
theorem gc_md {F G B : Nat → Int} {M N : Int} {a b d o : Nat} (hF : ∀ k : Nat, (a : Int) < k → ep (F k) 0) (hG : ∀ k : Nat, (b : Int) < k → ep (G k) 0) (f0 : nz (F a)) (g0 : nz (G b)) (ho : ((o : Int) = M - a ∧ M - a ≤ N - b) ∨ ((o : Int) = N - b ∧ N - b ≤ M - a))
    (bk : ∀ (h : Nat → Int) (e : Int), dv h e B d → dv h e F a ∧ dv h e G b) (fo : ∀ (h : Nat → Int) (e : Nat), (∀ k : Nat, e < k → ep (h k) 0) → nz (h e) → dv h e F a → dv h e G b → dv h e B d) : gc F M G N B ((d + o : Nat) : Int) := by
  have self : dv B d B d := dv_self 1 (fun k => by rw [Int.mul_one]; exact ep_r _)
  obtain ⟨⟨q, q1, q2⟩, ⟨r, r1, r2⟩⟩ := bk B d self
  refine ⟨⟨q, fun k hk => q1 k (by omega), q2⟩, ⟨r, fun k hk => r1 k (by omega), r2⟩, fun h e hh d1 d2 => ?_⟩
  obtain ⟨p, p1, p2, p3⟩ := lnzp (dv_nz hh f0 d1)
  have hh' : ∀ k : Nat, p < k → ep (h k) 0 := fun k hk => by
    by_cases c : k ≤ e
    · exact p3 k hk c
    · exact hh k (by omega)
  have e1 : dv h p F (M - (e - p)) := by
    obtain ⟨q, q1, q2⟩ := d1
    exact ⟨q, fun k hk => q1 k (by omega), q2⟩
  have e2 : dv h p G (N - (e - p)) := by
    obtain ⟨q, q1, q2⟩ := d2
    exact ⟨q, fun k hk => q1 k (by omega), q2⟩
  have l1 : (a : Int) ≤ M - (e - p) := by
    by_cases c : (a : Int) ≤ M - (e - p)
    · exact c
    · exact absurd (dv_hi (fun k hk => hh' k (by omega)) e1 a (by omega)) f0
  have l2 : (b : Int) ≤ N - (e - p) := by
    by_cases c : (b : Int) ≤ N - (e - p)
    · exact c
    · exact absurd (dv_hi (fun k hk => hh' k (by omega)) e2 b (by omega)) g0
  obtain ⟨w, w1, w2⟩ := fo h p hh' p2 (dv_tp (by omega) hh' p2 hF e1) (dv_tp (by omega) hh' p2 hG e2)
  exact ⟨w, fun k hk => w1 k (by omega), w2⟩
