theorem Met.ofWF {l : Launch} {y : MethodName} {ws ws' : List Cond} {rm : Room} {Pc : Array Value → State → Prop} {Qc : Array Value → State → Outcome → State → Prop} {mc ms : Nat} {free : Addr → Prop} {cc : ByteArray} {maxL : Nat} {ret : Option FieldType} (hy : plainFor y = true) (hw : ws = Cond.code y cc maxL ret :: ws')
    (body : ∀ p e s m args below meth c s₁, BodyLoose p l y (headSpec ws rm) cc maxL ret e s m args below meth c s₁ → c.maxLocals = maxL → Pc args s → W p l e (headSpec ws rm).room s m args below meth c s.heap [] 0 0 (MQ below Qc args s mc ms free) (entryFrame m args maxL)) : Met l y ws rm Pc Qc mc ms free := by
  refine MetFree.of_bodySF (code := cc) (maxLocals := maxL) (ret := ret) hy ?_ ?_
  · intro args s m h hn
    obtain ⟨meth, c, h1, h2, h3, h4, h5, h6, -, -⟩ := Cond.code_spec hn (atoms_spec (ws := ws) h _ (by rw [hw]; exact List.mem_cons_self))
    exact ⟨meth, c, h1, h2, h3, h4, h5, h6⟩
  · intro p e s m args below meth c s₁ B hml hP _
    have hh0 : s₁.heap = s.heap := by rw [B.state]; rfl
    obtain ⟨t, a1, o, b1, b2, b3⟩ := body p e s m args below meth c s₁ B hml hP s₁ hh0 (Stand.of_body B)
    exact ⟨t, o, a1, b1, b2, ⟨b3.1, b3.2⟩⟩
theorem Ct.ofF {S : SD} {M : MD} {av : List Value} {h : HP} {R : RS} (hy : plainFor M.1 = true) (hav : Nat.ble (lg_sl av).length M.2.2.1 = true) {loc : List (Nat × Value)} (hloc : lv_args 0 av = loc) (body : Rn S M R 0 loc [] h) : Ct S M av h R := by
  intro sz
  refine Met.ofWF (cc := M.2.1) (maxL := M.2.2.1) (ret := M.2.2.2.1) hy rfl ?_
  intro p e s m args below meth c s₁ B hml hv
  obtain ⟨rfl, hsz, hP, hK, hD0⟩ := hv
  subst hsz; subst hloc
  have hl := lv_entry av (n := M.2.2.1) (Nat.le_of_ble_eq_true hav)
  rw [lg_entry_eq]
  exact body p e s m av.toArray below meth c s.heap [] (va_A (S.2.2.2 h) s.heap.size) _ ⟨B.exec, B.bytes, hml, findClass_of_methodNamed B.named, atoms_spec (ws := wsOf M) B.pre, B.returns, B.notSynchronized, fun q hq => Or.inr hq, hK⟩ hP hD0.self va_S.rf hl
theorem nX0_at : plainFor yX0_at = true := by decide +kernel
theorem nX0_set : plainFor yX0_set = true := by decide +kernel
theorem nX0_clear : plainFor yX0_clear = true := by decide +kernel
theorem nX0_layStairs : plainFor yX0_layStairs = true := by decide +kernel
theorem nX0_laySquare : plainFor yX0_laySquare = true := by decide +kernel
theorem nX0_layPowers : plainFor yX0_layPowers = true := by decide +kernel
theorem nX0_determinant : plainFor yX0_determinant = true := by decide +kernel
theorem nX0_reduce : plainFor yX0_reduce = true := by decide +kernel
theorem nX0_rowWith : plainFor yX0_rowWith = true := by decide +kernel
theorem nX0_bringUp : plainFor yX0_bringUp = true := by decide +kernel
theorem nX0_divideRow : plainFor yX0_divideRow = true := by decide +kernel
theorem nX0_clearPlace : plainFor yX0_clearPlace = true := by decide +kernel
theorem nX1_reduced : plainFor yX1_reduced = true := by decide +kernel
theorem nX1_power : plainFor yX1_power = true := by decide +kernel
theorem nX1_inverse : plainFor yX1_inverse = true := by decide +kernel
theorem nX1_factorial : plainFor yX1_factorial = true := by decide +kernel
theorem nX1_choose : plainFor yX1_choose = true := by decide +kernel
theorem nX2_clear : plainFor yX2_clear = true := by decide +kernel
theorem nX2_multiply : plainFor yX2_multiply = true := by decide +kernel
theorem nX2_addTimes : plainFor yX2_addTimes = true := by decide +kernel
theorem nX2_addProduct : plainFor yX2_addProduct = true := by decide +kernel
theorem nX2_timesLine : plainFor yX2_timesLine = true := by decide +kernel
theorem nX2_addPower : plainFor yX2_addPower = true := by decide +kernel
theorem nX2_divideByChoices : plainFor yX2_divideByChoices = true := by decide +kernel
theorem nX2_changed : plainFor yX2_changed = true := by decide +kernel
theorem nX2_changeByX : plainFor yX2_changeByX = true := by decide +kernel
theorem nX2_changeByY : plainFor yX2_changeByY = true := by decide +kernel
theorem nX2_valueAt : plainFor yX2_valueAt = true := by decide +kernel
theorem nX2_ratio : plainFor yX2_ratio = true := by decide +kernel
theorem nX2_valueAtPlace : plainFor yX2_valueAtPlace = true := by decide +kernel
theorem nX2_strip : plainFor yX2_strip = true := by decide +kernel
theorem nX2_lower : plainFor yX2_lower = true := by decide +kernel
theorem nX3_isLost : plainFor yX3_isLost = true := by decide +kernel
theorem nX3_isForm : plainFor yX3_isForm = true := by decide +kernel
theorem nX3_isNought : plainFor yX3_isNought = true := by decide +kernel
theorem nX3_top : plainFor yX3_top = true := by decide +kernel
theorem nX3_number : plainFor yX3_number = true := by decide +kernel
theorem nX3_holds : plainFor yX3_holds = true := by decide +kernel
theorem nX3_startsUnlike : plainFor yX3_startsUnlike = true := by decide +kernel
theorem nX3_forget : plainFor yX3_forget = true := by decide +kernel
theorem nX3_renew : plainFor yX3_renew = true := by decide +kernel
theorem nX3_store : plainFor yX3_store = true := by decide +kernel
theorem nX3_become : plainFor yX3_become = true := by decide +kernel
theorem nX3_addTo : plainFor yX3_addTo = true := by decide +kernel
theorem nX4_sheet : plainFor yX4_sheet = true := by decide +kernel
theorem nX4_lose : plainFor yX4_lose = true := by decide +kernel
theorem nX4_put : plainFor yX4_put = true := by decide +kernel
theorem nX4_get : plainFor yX4_get = true := by decide +kernel
theorem nX4_copy : plainFor yX4_copy = true := by decide +kernel
theorem nX4_term : plainFor yX4_term = true := by decide +kernel
theorem nX4_degree : plainFor yX4_degree = true := by decide +kernel
theorem nX4_value : plainFor yX4_value = true := by decide +kernel
theorem nX4_join : plainFor yX4_join = true := by decide +kernel
theorem nX4_mix : plainFor yX4_mix = true := by decide +kernel
theorem nX4_change : plainFor yX4_change = true := by decide +kernel
theorem nX4_overlap : plainFor yX4_overlap = true := by decide +kernel
theorem nX4_alike : plainFor yX4_alike = true := by decide +kernel
theorem nX4_roots : plainFor yX4_roots = true := by decide +kernel
theorem nX4_root : plainFor yX4_root = true := by decide +kernel
theorem nX4_common : plainFor yX4_common = true := by decide +kernel
theorem nX4_result : plainFor yX4_result = true := by decide +kernel
theorem nX4_powers : plainFor yX4_powers = true := by decide +kernel
theorem nX4_build : plainFor yX4_build = true := by decide +kernel
theorem nX4_rank : plainFor yX4_rank = true := by decide +kernel
theorem nX4_leads : plainFor yX4_leads = true := by decide +kernel
theorem nX4_lead : plainFor yX4_lead = true := by decide +kernel
theorem nX4_staying : plainFor yX4_staying = true := by decide +kernel
theorem nX4_count : plainFor yX4_count = true := by decide +kernel
theorem nX4_digest : plainFor yX4_digest = true := by decide +kernel
theorem nX4_noSheet : plainFor yX4_noSheet = true := by decide +kernel
theorem nX4_noKind : plainFor yX4_noKind = true := by decide +kernel
theorem nX4_found : plainFor yX4_found = true := by decide +kernel
theorem nX4_refuseSheets : plainFor yX4_refuseSheets = true := by decide +kernel
theorem nX4_refuseItem : plainFor yX4_refuseItem = true := by decide +kernel
theorem nX4_refuseForms : plainFor yX4_refuseForms = true := by decide +kernel
theorem nX4_refuseRoots : plainFor yX4_refuseRoots = true := by decide +kernel
theorem nX4_refuseLeads : plainFor yX4_refuseLeads = true := by decide +kernel
theorem nX4_load : plainFor yX4_load = true := by decide +kernel
theorem nX4_keepForm : plainFor yX4_keepForm = true := by decide +kernel
theorem nX4_countSheets : plainFor yX4_countSheets = true := by decide +kernel
theorem nX4_canJoin : plainFor yX4_canJoin = true := by decide +kernel
theorem nX4_makeJoined : plainFor yX4_makeJoined = true := by decide +kernel
theorem nX4_makeMixed : plainFor yX4_makeMixed = true := by decide +kernel
theorem nX4_makeOverlap : plainFor yX4_makeOverlap = true := by decide +kernel
theorem nX4_findRoots : plainFor yX4_findRoots = true := by decide +kernel
theorem nX4_makeCommon : plainFor yX4_makeCommon = true := by decide +kernel
theorem nX4_makePowers : plainFor yX4_makePowers = true := by decide +kernel
theorem nX4_tablesWithin : plainFor yX4_tablesWithin = true := by decide +kernel
theorem nX4_entry : plainFor yX4_entry = true := by decide +kernel
theorem nX4_codeOf : plainFor yX4_codeOf = true := by decide +kernel
theorem nX4_loadLeads : plainFor yX4_loadLeads = true := by decide +kernel
theorem nX4_isLead : plainFor yX4_isLead = true := by decide +kernel
theorem nX4_countWays : plainFor yX4_countWays = true := by decide +kernel
theorem nX5_in : plainFor yX5_in = true := by decide +kernel
theorem nX5_mod : plainFor yX5_mod = true := by decide +kernel
theorem nX5_times : plainFor yX5_times = true := by decide +kernel
theorem nX5_turned : plainFor yX5_turned = true := by decide +kernel
theorem nX5_over : plainFor yX5_over = true := by decide +kernel
theorem nX5_factorial : plainFor yX5_factorial = true := by decide +kernel
theorem nX5_met : plainFor yX5_met = true := by decide +kernel
theorem nX5_isSheet : plainFor yX5_isSheet = true := by decide +kernel
theorem nX5_sheet : plainFor yX5_sheet = true := by decide +kernel
theorem nX5_lose : plainFor yX5_lose = true := by decide +kernel
theorem nX5_lacks : plainFor yX5_lacks = true := by decide +kernel
theorem nX5_put : plainFor yX5_put = true := by decide +kernel
theorem nX5_get : plainFor yX5_get = true := by decide +kernel
theorem nX5_copy : plainFor yX5_copy = true := by decide +kernel
theorem nX5_isForm : plainFor yX5_isForm = true := by decide +kernel
theorem nX5_takeF : plainFor yX5_takeF = true := by decide +kernel
theorem nX5_takeG : plainFor yX5_takeG = true := by decide +kernel
theorem nX5_lay : plainFor yX5_lay = true := by decide +kernel
theorem nX5_noughtH : plainFor yX5_noughtH = true := by decide +kernel
theorem nX5_lacksOne : plainFor yX5_lacksOne = true := by decide +kernel
theorem nX5_lacksTwo : plainFor yX5_lacksTwo = true := by decide +kernel
theorem nX5_isNoughtF : plainFor yX5_isNoughtF = true := by decide +kernel
theorem nX5_isNoughtG : plainFor yX5_isNoughtG = true := by decide +kernel
theorem nX5_term : plainFor yX5_term = true := by decide +kernel
theorem nX5_degree : plainFor yX5_degree = true := by decide +kernel
theorem nX5_valueF : plainFor yX5_valueF = true := by decide +kernel
theorem nX5_value : plainFor yX5_value = true := by decide +kernel
theorem nX5_join : plainFor yX5_join = true := by decide +kernel
theorem nX5_mixes : plainFor yX5_mixes = true := by decide +kernel
theorem nX5_mix : plainFor yX5_mix = true := by decide +kernel
theorem nX5_change : plainFor yX5_change = true := by decide +kernel
theorem nX5_changed : plainFor yX5_changed = true := by decide +kernel
theorem nX5_overlap : plainFor yX5_overlap = true := by decide +kernel
theorem nX5_alike : plainFor yX5_alike = true := by decide +kernel
theorem nX5_isRoot : plainFor yX5_isRoot = true := by decide +kernel
theorem nX5_lacksRoots : plainFor yX5_lacksRoots = true := by decide +kernel
theorem nX5_roots : plainFor yX5_roots = true := by decide +kernel
theorem nX5_root : plainFor yX5_root = true := by decide +kernel
theorem nX5_common : plainFor yX5_common = true := by decide +kernel
theorem nX5_eliminate : plainFor yX5_eliminate = true := by decide +kernel
theorem nX5_result : plainFor yX5_result = true := by decide +kernel
theorem nX5_raised : plainFor yX5_raised = true := by decide +kernel
theorem nX5_powers : plainFor yX5_powers = true := by decide +kernel
theorem nX5_build : plainFor yX5_build = true := by decide +kernel
theorem nX5_rank : plainFor yX5_rank = true := by decide +kernel
theorem nX5_leadsBy : plainFor yX5_leadsBy = true := by decide +kernel
theorem nX5_lacksLeads : plainFor yX5_lacksLeads = true := by decide +kernel
theorem nX5_leadOf : plainFor yX5_leadOf = true := by decide +kernel
theorem nX5_leads : plainFor yX5_leads = true := by decide +kernel
theorem nX5_lead : plainFor yX5_lead = true := by decide +kernel
theorem nX5_waysOf : plainFor yX5_waysOf = true := by decide +kernel
theorem nX5_staying : plainFor yX5_staying = true := by decide +kernel
theorem nX5_count : plainFor yX5_count = true := by decide +kernel
theorem nX5_digest : plainFor yX5_digest = true := by decide +kernel
theorem nJ9_floorMod_7cf53 : plainFor yJ9_floorMod_7cf53 = true := by decide +kernel
theorem nJ9_max_7cf53 : plainFor yJ9_max_7cf53 = true := by decide +kernel
theorem nJ9_min_7cf53 : plainFor yJ9_min_7cf53 = true := by decide +kernel
section FLD
variable {l : Launch} {D : va_G} {ad : Nat → Nat} {cI cR : ClassId} {M : MD} {R : RS} {pc idx : Nat} {loc : List (Nat × Value)} {stk : List Value} {h : HP}
theorem wC_0 : ((sdC l D ad cI cR).2.2.2 h)[0]? = some (ad 0, .inr (2, [.ref (ad 1), vi (h 0 1), .ref (ad 22), .ref (ad 23), .ref (ad 24), .ref (ad 25), .ref (ad 26), .ref (ad 27), .ref (ad 29)])) := wd_get (by decide)
theorem wC_27 : ((sdC l D ad cI cR).2.2.2 h)[27]? = some (ad 27, .inr (0, [.ref (ad 28), vi (h 27 1)])) := wd_get (by decide)
theorem wC_sh {a : Nat} (ha : isSh a = true) : ((sdC l D ad cI cR).2.2.2 h)[a]? = some (ad a, .inr (1, [.ref (ad (a + 10)), vi (h a 1), vi (h a 2)])) := by
  have h1 := sh_lt ha
  show (wd 30 ad (fun k => ceC ad cI cR (h k) k))[a]? = _
  rw [wd_get (by omega), ceC_sh ha]
theorem wM_0 : ((sdM l D ad cI).2.2.2 h)[0]? = some (ad 0, .inr (3, [.ref (ad 1), .ref (ad 2), .ref (ad 3), .ref (ad 4), vi (h 0 4), .ref (ad 5), vi (h 0 6), .ref (ad 6), vi (h 0 8), .ref (ad 7), vi (h 0 10), .ref (ad 8), .ref (ad 9), vi (h 0 13), .ref (ad 10), .ref (ad 11), .ref (ad 12)])) := wd_get (by decide)

theorem C_g4_0  (hlink : Cond.fieldLink M.1.cls idx (TX4 0).1 (TX4 0).2.1 (TX4 0).2.2.1 ∈ tbG) (hd : decode M.2.1 pc = .ok (.getfield idx, 3)) (kk : Rn (sdC l D ad cI cR) M R (pc + 3) loc (.ref (ad 1) :: stk) h) : Rn (sdC l D ad cI cR) M R pc loc (.ref (ad 0) :: stk) h := q_getf (S := sdC l D ad cI cR) (k := 0) (ci := 2) (j := 0) (wC_0) rfl inGX4 (by decide) hlink rfl hd kk
theorem C_g4_1  (hlink : Cond.fieldLink M.1.cls idx (TX4 1).1 (TX4 1).2.1 (TX4 1).2.2.1 ∈ tbG) (hd : decode M.2.1 pc = .ok (.getfield idx, 3)) (kk : Rn (sdC l D ad cI cR) M R (pc + 3) loc (vi (h 0 1) :: stk) h) : Rn (sdC l D ad cI cR) M R pc loc (.ref (ad 0) :: stk) h := q_getf (S := sdC l D ad cI cR) (k := 0) (ci := 2) (j := 1) (wC_0) rfl inGX4 (by decide) hlink rfl hd kk
theorem C_g4_2  (hlink : Cond.fieldLink M.1.cls idx (TX4 2).1 (TX4 2).2.1 (TX4 2).2.2.1 ∈ tbG) (hd : decode M.2.1 pc = .ok (.getfield idx, 3)) (kk : Rn (sdC l D ad cI cR) M R (pc + 3) loc (.ref (ad 22) :: stk) h) : Rn (sdC l D ad cI cR) M R pc loc (.ref (ad 0) :: stk) h := q_getf (S := sdC l D ad cI cR) (k := 0) (ci := 2) (j := 2) (wC_0) rfl inGX4 (by decide) hlink rfl hd kk
theorem C_g4_3  (hlink : Cond.fieldLink M.1.cls idx (TX4 3).1 (TX4 3).2.1 (TX4 3).2.2.1 ∈ tbG) (hd : decode M.2.1 pc = .ok (.getfield idx, 3)) (kk : Rn (sdC l D ad cI cR) M R (pc + 3) loc (.ref (ad 23) :: stk) h) : Rn (sdC l D ad cI cR) M R pc loc (.ref (ad 0) :: stk) h := q_getf (S := sdC l D ad cI cR) (k := 0) (ci := 2) (j := 3) (wC_0) rfl inGX4 (by decide) hlink rfl hd kk
theorem C_g4_4  (hlink : Cond.fieldLink M.1.cls idx (TX4 4).1 (TX4 4).2.1 (TX4 4).2.2.1 ∈ tbG) (hd : decode M.2.1 pc = .ok (.getfield idx, 3)) (kk : Rn (sdC l D ad cI cR) M R (pc + 3) loc (.ref (ad 24) :: stk) h) : Rn (sdC l D ad cI cR) M R pc loc (.ref (ad 0) :: stk) h := q_getf (S := sdC l D ad cI cR) (k := 0) (ci := 2) (j := 4) (wC_0) rfl inGX4 (by decide) hlink rfl hd kk
theorem C_g4_5  (hlink : Cond.fieldLink M.1.cls idx (TX4 5).1 (TX4 5).2.1 (TX4 5).2.2.1 ∈ tbG) (hd : decode M.2.1 pc = .ok (.getfield idx, 3)) (kk : Rn (sdC l D ad cI cR) M R (pc + 3) loc (.ref (ad 25) :: stk) h) : Rn (sdC l D ad cI cR) M R pc loc (.ref (ad 0) :: stk) h := q_getf (S := sdC l D ad cI cR) (k := 0) (ci := 2) (j := 5) (wC_0) rfl inGX4 (by decide) hlink rfl hd kk
theorem C_g4_6  (hlink : Cond.fieldLink M.1.cls idx (TX4 6).1 (TX4 6).2.1 (TX4 6).2.2.1 ∈ tbG) (hd : decode M.2.1 pc = .ok (.getfield idx, 3)) (kk : Rn (sdC l D ad cI cR) M R (pc + 3) loc (.ref (ad 26) :: stk) h) : Rn (sdC l D ad cI cR) M R pc loc (.ref (ad 0) :: stk) h := q_getf (S := sdC l D ad cI cR) (k := 0) (ci := 2) (j := 6) (wC_0) rfl inGX4 (by decide) hlink rfl hd kk
theorem C_g4_7  (hlink : Cond.fieldLink M.1.cls idx (TX4 7).1 (TX4 7).2.1 (TX4 7).2.2.1 ∈ tbG) (hd : decode M.2.1 pc = .ok (.getfield idx, 3)) (kk : Rn (sdC l D ad cI cR) M R (pc + 3) loc (.ref (ad 27) :: stk) h) : Rn (sdC l D ad cI cR) M R pc loc (.ref (ad 0) :: stk) h := q_getf (S := sdC l D ad cI cR) (k := 0) (ci := 2) (j := 7) (wC_0) rfl inGX4 (by decide) hlink rfl hd kk
theorem C_g4_8  (hlink : Cond.fieldLink M.1.cls idx (TX4 8).1 (TX4 8).2.1 (TX4 8).2.2.1 ∈ tbG) (hd : decode M.2.1 pc = .ok (.getfield idx, 3)) (kk : Rn (sdC l D ad cI cR) M R (pc + 3) loc (.ref (ad 29) :: stk) h) : Rn (sdC l D ad cI cR) M R pc loc (.ref (ad 0) :: stk) h := q_getf (S := sdC l D ad cI cR) (k := 0) (ci := 2) (j := 8) (wC_0) rfl inGX4 (by decide) hlink rfl hd kk
theorem C_g0_0  (hlink : Cond.fieldLink M.1.cls idx (TX0 0).1 (TX0 0).2.1 (TX0 0).2.2.1 ∈ tbG) (hd : decode M.2.1 pc = .ok (.getfield idx, 3)) (kk : Rn (sdC l D ad cI cR) M R (pc + 3) loc (.ref (ad 28) :: stk) h) : Rn (sdC l D ad cI cR) M R pc loc (.ref (ad 27) :: stk) h := q_getf (S := sdC l D ad cI cR) (k := 27) (ci := 0) (j := 0) (wC_27) rfl inGX0 (by decide) hlink rfl hd kk
theorem C_g0_1  (hlink : Cond.fieldLink M.1.cls idx (TX0 1).1 (TX0 1).2.1 (TX0 1).2.2.1 ∈ tbG) (hd : decode M.2.1 pc = .ok (.getfield idx, 3)) (kk : Rn (sdC l D ad cI cR) M R (pc + 3) loc (vi (h 27 1) :: stk) h) : Rn (sdC l D ad cI cR) M R pc loc (.ref (ad 27) :: stk) h := q_getf (S := sdC l D ad cI cR) (k := 27) (ci := 0) (j := 1) (wC_27) rfl inGX0 (by decide) hlink rfl hd kk
theorem C_g3_0 {a : Nat} (ha : isSh a = true) (hlink : Cond.fieldLink M.1.cls idx (TX3 0).1 (TX3 0).2.1 (TX3 0).2.2.1 ∈ tbG) (hd : decode M.2.1 pc = .ok (.getfield idx, 3)) (kk : Rn (sdC l D ad cI cR) M R (pc + 3) loc (.ref (ad (a + 10)) :: stk) h) : Rn (sdC l D ad cI cR) M R pc loc (.ref (ad a) :: stk) h := q_getf (S := sdC l D ad cI cR) (k := a) (ci := 1) (j := 0) (wC_sh ha) rfl inGX3 (by decide) hlink rfl hd kk
theorem C_g3_1 {a : Nat} (ha : isSh a = true) (hlink : Cond.fieldLink M.1.cls idx (TX3 1).1 (TX3 1).2.1 (TX3 1).2.2.1 ∈ tbG) (hd : decode M.2.1 pc = .ok (.getfield idx, 3)) (kk : Rn (sdC l D ad cI cR) M R (pc + 3) loc (vi (h a 1) :: stk) h) : Rn (sdC l D ad cI cR) M R pc loc (.ref (ad a) :: stk) h := q_getf (S := sdC l D ad cI cR) (k := a) (ci := 1) (j := 1) (wC_sh ha) rfl inGX3 (by decide) hlink rfl hd kk
theorem C_g3_2 {a : Nat} (ha : isSh a = true) (hlink : Cond.fieldLink M.1.cls idx (TX3 2).1 (TX3 2).2.1 (TX3 2).2.2.1 ∈ tbG) (hd : decode M.2.1 pc = .ok (.getfield idx, 3)) (kk : Rn (sdC l D ad cI cR) M R (pc + 3) loc (vi (h a 2) :: stk) h) : Rn (sdC l D ad cI cR) M R pc loc (.ref (ad a) :: stk) h := q_getf (S := sdC l D ad cI cR) (k := a) (ci := 1) (j := 2) (wC_sh ha) rfl inGX3 (by decide) hlink rfl hd kk
theorem M_g5_0  (hlink : Cond.fieldLink M.1.cls idx (TX5 0).1 (TX5 0).2.1 (TX5 0).2.2.1 ∈ tbG) (hd : decode M.2.1 pc = .ok (.getfield idx, 3)) (kk : Rn (sdM l D ad cI) M R (pc + 3) loc (.ref (ad 1) :: stk) h) : Rn (sdM l D ad cI) M R pc loc (.ref (ad 0) :: stk) h := q_getf (S := sdM l D ad cI) (k := 0) (ci := 3) (j := 0) (wM_0) rfl inGX5 (by decide) hlink rfl hd kk
theorem M_g5_1  (hlink : Cond.fieldLink M.1.cls idx (TX5 1).1 (TX5 1).2.1 (TX5 1).2.2.1 ∈ tbG) (hd : decode M.2.1 pc = .ok (.getfield idx, 3)) (kk : Rn (sdM l D ad cI) M R (pc + 3) loc (.ref (ad 2) :: stk) h) : Rn (sdM l D ad cI) M R pc loc (.ref (ad 0) :: stk) h := q_getf (S := sdM l D ad cI) (k := 0) (ci := 3) (j := 1) (wM_0) rfl inGX5 (by decide) hlink rfl hd kk
theorem M_g5_2  (hlink : Cond.fieldLink M.1.cls idx (TX5 2).1 (TX5 2).2.1 (TX5 2).2.2.1 ∈ tbG) (hd : decode M.2.1 pc = .ok (.getfield idx, 3)) (kk : Rn (sdM l D ad cI) M R (pc + 3) loc (.ref (ad 3) :: stk) h) : Rn (sdM l D ad cI) M R pc loc (.ref (ad 0) :: stk) h := q_getf (S := sdM l D ad cI) (k := 0) (ci := 3) (j := 2) (wM_0) rfl inGX5 (by decide) hlink rfl hd kk
theorem M_g5_3  (hlink : Cond.fieldLink M.1.cls idx (TX5 3).1 (TX5 3).2.1 (TX5 3).2.2.1 ∈ tbG) (hd : decode M.2.1 pc = .ok (.getfield idx, 3)) (kk : Rn (sdM l D ad cI) M R (pc + 3) loc (.ref (ad 4) :: stk) h) : Rn (sdM l D ad cI) M R pc loc (.ref (ad 0) :: stk) h := q_getf (S := sdM l D ad cI) (k := 0) (ci := 3) (j := 3) (wM_0) rfl inGX5 (by decide) hlink rfl hd kk
theorem M_g5_4  (hlink : Cond.fieldLink M.1.cls idx (TX5 4).1 (TX5 4).2.1 (TX5 4).2.2.1 ∈ tbG) (hd : decode M.2.1 pc = .ok (.getfield idx, 3)) (kk : Rn (sdM l D ad cI) M R (pc + 3) loc (vi (h 0 4) :: stk) h) : Rn (sdM l D ad cI) M R pc loc (.ref (ad 0) :: stk) h := q_getf (S := sdM l D ad cI) (k := 0) (ci := 3) (j := 4) (wM_0) rfl inGX5 (by decide) hlink rfl hd kk
theorem M_g5_5  (hlink : Cond.fieldLink M.1.cls idx (TX5 5).1 (TX5 5).2.1 (TX5 5).2.2.1 ∈ tbG) (hd : decode M.2.1 pc = .ok (.getfield idx, 3)) (kk : Rn (sdM l D ad cI) M R (pc + 3) loc (.ref (ad 5) :: stk) h) : Rn (sdM l D ad cI) M R pc loc (.ref (ad 0) :: stk) h := q_getf (S := sdM l D ad cI) (k := 0) (ci := 3) (j := 5) (wM_0) rfl inGX5 (by decide) hlink rfl hd kk
theorem M_g5_6  (hlink : Cond.fieldLink M.1.cls idx (TX5 6).1 (TX5 6).2.1 (TX5 6).2.2.1 ∈ tbG) (hd : decode M.2.1 pc = .ok (.getfield idx, 3)) (kk : Rn (sdM l D ad cI) M R (pc + 3) loc (vi (h 0 6) :: stk) h) : Rn (sdM l D ad cI) M R pc loc (.ref (ad 0) :: stk) h := q_getf (S := sdM l D ad cI) (k := 0) (ci := 3) (j := 6) (wM_0) rfl inGX5 (by decide) hlink rfl hd kk
theorem M_g5_7  (hlink : Cond.fieldLink M.1.cls idx (TX5 7).1 (TX5 7).2.1 (TX5 7).2.2.1 ∈ tbG) (hd : decode M.2.1 pc = .ok (.getfield idx, 3)) (kk : Rn (sdM l D ad cI) M R (pc + 3) loc (.ref (ad 6) :: stk) h) : Rn (sdM l D ad cI) M R pc loc (.ref (ad 0) :: stk) h := q_getf (S := sdM l D ad cI) (k := 0) (ci := 3) (j := 7) (wM_0) rfl inGX5 (by decide) hlink rfl hd kk
theorem M_g5_8  (hlink : Cond.fieldLink M.1.cls idx (TX5 8).1 (TX5 8).2.1 (TX5 8).2.2.1 ∈ tbG) (hd : decode M.2.1 pc = .ok (.getfield idx, 3)) (kk : Rn (sdM l D ad cI) M R (pc + 3) loc (vi (h 0 8) :: stk) h) : Rn (sdM l D ad cI) M R pc loc (.ref (ad 0) :: stk) h := q_getf (S := sdM l D ad cI) (k := 0) (ci := 3) (j := 8) (wM_0) rfl inGX5 (by decide) hlink rfl hd kk
theorem M_g5_9  (hlink : Cond.fieldLink M.1.cls idx (TX5 9).1 (TX5 9).2.1 (TX5 9).2.2.1 ∈ tbG) (hd : decode M.2.1 pc = .ok (.getfield idx, 3)) (kk : Rn (sdM l D ad cI) M R (pc + 3) loc (.ref (ad 7) :: stk) h) : Rn (sdM l D ad cI) M R pc loc (.ref (ad 0) :: stk) h := q_getf (S := sdM l D ad cI) (k := 0) (ci := 3) (j := 9) (wM_0) rfl inGX5 (by decide) hlink rfl hd kk
theorem M_g5_10  (hlink : Cond.fieldLink M.1.cls idx (TX5 10).1 (TX5 10).2.1 (TX5 10).2.2.1 ∈ tbG) (hd : decode M.2.1 pc = .ok (.getfield idx, 3)) (kk : Rn (sdM l D ad cI) M R (pc + 3) loc (vi (h 0 10) :: stk) h) : Rn (sdM l D ad cI) M R pc loc (.ref (ad 0) :: stk) h := q_getf (S := sdM l D ad cI) (k := 0) (ci := 3) (j := 10) (wM_0) rfl inGX5 (by decide) hlink rfl hd kk
theorem M_g5_11  (hlink : Cond.fieldLink M.1.cls idx (TX5 11).1 (TX5 11).2.1 (TX5 11).2.2.1 ∈ tbG) (hd : decode M.2.1 pc = .ok (.getfield idx, 3)) (kk : Rn (sdM l D ad cI) M R (pc + 3) loc (.ref (ad 8) :: stk) h) : Rn (sdM l D ad cI) M R pc loc (.ref (ad 0) :: stk) h := q_getf (S := sdM l D ad cI) (k := 0) (ci := 3) (j := 11) (wM_0) rfl inGX5 (by decide) hlink rfl hd kk
theorem M_g5_12  (hlink : Cond.fieldLink M.1.cls idx (TX5 12).1 (TX5 12).2.1 (TX5 12).2.2.1 ∈ tbG) (hd : decode M.2.1 pc = .ok (.getfield idx, 3)) (kk : Rn (sdM l D ad cI) M R (pc + 3) loc (.ref (ad 9) :: stk) h) : Rn (sdM l D ad cI) M R pc loc (.ref (ad 0) :: stk) h := q_getf (S := sdM l D ad cI) (k := 0) (ci := 3) (j := 12) (wM_0) rfl inGX5 (by decide) hlink rfl hd kk
theorem M_g5_13  (hlink : Cond.fieldLink M.1.cls idx (TX5 13).1 (TX5 13).2.1 (TX5 13).2.2.1 ∈ tbG) (hd : decode M.2.1 pc = .ok (.getfield idx, 3)) (kk : Rn (sdM l D ad cI) M R (pc + 3) loc (vi (h 0 13) :: stk) h) : Rn (sdM l D ad cI) M R pc loc (.ref (ad 0) :: stk) h := q_getf (S := sdM l D ad cI) (k := 0) (ci := 3) (j := 13) (wM_0) rfl inGX5 (by decide) hlink rfl hd kk
theorem M_g5_14  (hlink : Cond.fieldLink M.1.cls idx (TX5 14).1 (TX5 14).2.1 (TX5 14).2.2.1 ∈ tbG) (hd : decode M.2.1 pc = .ok (.getfield idx, 3)) (kk : Rn (sdM l D ad cI) M R (pc + 3) loc (.ref (ad 10) :: stk) h) : Rn (sdM l D ad cI) M R pc loc (.ref (ad 0) :: stk) h := q_getf (S := sdM l D ad cI) (k := 0) (ci := 3) (j := 14) (wM_0) rfl inGX5 (by decide) hlink rfl hd kk
theorem M_g5_15  (hlink : Cond.fieldLink M.1.cls idx (TX5 15).1 (TX5 15).2.1 (TX5 15).2.2.1 ∈ tbG) (hd : decode M.2.1 pc = .ok (.getfield idx, 3)) (kk : Rn (sdM l D ad cI) M R (pc + 3) loc (.ref (ad 11) :: stk) h) : Rn (sdM l D ad cI) M R pc loc (.ref (ad 0) :: stk) h := q_getf (S := sdM l D ad cI) (k := 0) (ci := 3) (j := 15) (wM_0) rfl inGX5 (by decide) hlink rfl hd kk
theorem M_g5_16  (hlink : Cond.fieldLink M.1.cls idx (TX5 16).1 (TX5 16).2.1 (TX5 16).2.2.1 ∈ tbG) (hd : decode M.2.1 pc = .ok (.getfield idx, 3)) (kk : Rn (sdM l D ad cI) M R (pc + 3) loc (.ref (ad 12) :: stk) h) : Rn (sdM l D ad cI) M R pc loc (.ref (ad 0) :: stk) h := q_getf (S := sdM l D ad cI) (k := 0) (ci := 3) (j := 16) (wM_0) rfl inGX5 (by decide) hlink rfl hd kk
theorem C_p4_1 {α : Type} {Z : α} {v : Int} {kf : HP → α}  (hf : pf h 0 1 v kf = Z) (hlink : Cond.fieldLink M.1.cls idx (TX4 1).1 (TX4 1).2.1 (TX4 1).2.2.1 ∈ tbG) (hd : decode M.2.1 pc = .ok (.putfield idx, 3)) (kk : ∀ h1 : HP, kf h1 = Z → Rn (sdC l D ad cI cR) M R (pc + 3) loc stk h1) : Rn (sdC l D ad cI cR) M R pc loc (vi v :: .ref (ad 0) :: stk) h :=
  q_putf (S := sdC l D ad cI cR) (k := 0) (ci := 2) (j := 1) (v := vi v) (ty := .int) (h1 := hs h 0 1 v) tyX4 tyX4_ok nmX4 (wC_0) rfl inGX4 (by decide) hlink rfl (by decide +kernel) rfl rfl (Nat.le_of_ble_eq_true rfl) (by
    show (wd 30 ad (fun k => ceC ad cI cR (h k) k)).set 0 _ = wd 30 ad (fun k => ceC ad cI cR ((hs h 0 1 v) k) k)
    exact wd_set (by rfl) (fun j hj => ceC_hs j hj)) hd (kk _ hf)
theorem C_p0_1 {α : Type} {Z : α} {v : Int} {kf : HP → α}  (hf : pf h 27 1 v kf = Z) (hlink : Cond.fieldLink M.1.cls idx (TX0 1).1 (TX0 1).2.1 (TX0 1).2.2.1 ∈ tbG) (hd : decode M.2.1 pc = .ok (.putfield idx, 3)) (kk : ∀ h1 : HP, kf h1 = Z → Rn (sdC l D ad cI cR) M R (pc + 3) loc stk h1) : Rn (sdC l D ad cI cR) M R pc loc (vi v :: .ref (ad 27) :: stk) h :=
  q_putf (S := sdC l D ad cI cR) (k := 27) (ci := 0) (j := 1) (v := vi v) (ty := .int) (h1 := hs h 27 1 v) tyX0 tyX0_ok nmX0 (wC_27) rfl inGX0 (by decide) hlink rfl (by decide +kernel) rfl rfl (Nat.le_of_ble_eq_true rfl) (by
    show (wd 30 ad (fun k => ceC ad cI cR (h k) k)).set 27 _ = wd 30 ad (fun k => ceC ad cI cR ((hs h 27 1 v) k) k)
    exact wd_set (by rfl) (fun j hj => ceC_hs j hj)) hd (kk _ hf)
theorem C_p3_1 {α : Type} {Z : α} {v : Int} {kf : HP → α} {a : Nat} (ha : isSh a = true) (hf : pf h a 1 v kf = Z) (hlink : Cond.fieldLink M.1.cls idx (TX3 1).1 (TX3 1).2.1 (TX3 1).2.2.1 ∈ tbG) (hd : decode M.2.1 pc = .ok (.putfield idx, 3)) (kk : ∀ h1 : HP, kf h1 = Z → Rn (sdC l D ad cI cR) M R (pc + 3) loc stk h1) : Rn (sdC l D ad cI cR) M R pc loc (vi v :: .ref (ad a) :: stk) h :=
  q_putf (S := sdC l D ad cI cR) (k := a) (ci := 1) (j := 1) (v := vi v) (ty := .int) (h1 := hs h a 1 v) tyX3 tyX3_ok nmX3 (wC_sh ha) rfl inGX3 (by decide) hlink rfl (by decide +kernel) rfl rfl (Nat.le_of_ble_eq_true rfl) (by
    show (wd 30 ad (fun k => ceC ad cI cR (h k) k)).set a _ = wd 30 ad (fun k => ceC ad cI cR ((hs h a 1 v) k) k)
    exact wd_set (by rw [hs_eq, ceC_sh ha]; rfl) (fun j hj => ceC_hs j hj)) hd (kk _ hf)
theorem C_p3_2 {α : Type} {Z : α} {v : Int} {kf : HP → α} {a : Nat} (ha : isSh a = true) (hf : pf h a 2 v kf = Z) (hlink : Cond.fieldLink M.1.cls idx (TX3 2).1 (TX3 2).2.1 (TX3 2).2.2.1 ∈ tbG) (hd : decode M.2.1 pc = .ok (.putfield idx, 3)) (kk : ∀ h1 : HP, kf h1 = Z → Rn (sdC l D ad cI cR) M R (pc + 3) loc stk h1) : Rn (sdC l D ad cI cR) M R pc loc (vi v :: .ref (ad a) :: stk) h :=
  q_putf (S := sdC l D ad cI cR) (k := a) (ci := 1) (j := 2) (v := vi v) (ty := .int) (h1 := hs h a 2 v) tyX3 tyX3_ok nmX3 (wC_sh ha) rfl inGX3 (by decide) hlink rfl (by decide +kernel) rfl rfl (Nat.le_of_ble_eq_true rfl) (by
    show (wd 30 ad (fun k => ceC ad cI cR (h k) k)).set a _ = wd 30 ad (fun k => ceC ad cI cR ((hs h a 2 v) k) k)
    exact wd_set (by rw [hs_eq, ceC_sh ha]; rfl) (fun j hj => ceC_hs j hj)) hd (kk _ hf)
theorem M_p5_4 {α : Type} {Z : α} {v : Int} {kf : HP → α}  (hf : pf h 0 4 v kf = Z) (hlink : Cond.fieldLink M.1.cls idx (TX5 4).1 (TX5 4).2.1 (TX5 4).2.2.1 ∈ tbG) (hd : decode M.2.1 pc = .ok (.putfield idx, 3)) (kk : ∀ h1 : HP, kf h1 = Z → Rn (sdM l D ad cI) M R (pc + 3) loc stk h1) : Rn (sdM l D ad cI) M R pc loc (vi v :: .ref (ad 0) :: stk) h :=
  q_putf (S := sdM l D ad cI) (k := 0) (ci := 3) (j := 4) (v := vi v) (ty := .int) (h1 := hs h 0 4 v) tyX5 tyX5_ok nmX5 (wM_0) rfl inGX5 (by decide) hlink rfl (by decide +kernel) rfl rfl (Nat.le_of_ble_eq_true rfl) (by
    show (wd 13 ad (fun k => ceM ad cI (h k) k)).set 0 _ = wd 13 ad (fun k => ceM ad cI ((hs h 0 4 v) k) k)
    exact wd_set (by rfl) (fun j hj => ceM_hs j hj)) hd (kk _ hf)
theorem M_p5_6 {α : Type} {Z : α} {v : Int} {kf : HP → α}  (hf : pf h 0 6 v kf = Z) (hlink : Cond.fieldLink M.1.cls idx (TX5 6).1 (TX5 6).2.1 (TX5 6).2.2.1 ∈ tbG) (hd : decode M.2.1 pc = .ok (.putfield idx, 3)) (kk : ∀ h1 : HP, kf h1 = Z → Rn (sdM l D ad cI) M R (pc + 3) loc stk h1) : Rn (sdM l D ad cI) M R pc loc (vi v :: .ref (ad 0) :: stk) h :=
  q_putf (S := sdM l D ad cI) (k := 0) (ci := 3) (j := 6) (v := vi v) (ty := .int) (h1 := hs h 0 6 v) tyX5 tyX5_ok nmX5 (wM_0) rfl inGX5 (by decide) hlink rfl (by decide +kernel) rfl rfl (Nat.le_of_ble_eq_true rfl) (by
    show (wd 13 ad (fun k => ceM ad cI (h k) k)).set 0 _ = wd 13 ad (fun k => ceM ad cI ((hs h 0 6 v) k) k)
    exact wd_set (by rfl) (fun j hj => ceM_hs j hj)) hd (kk _ hf)
theorem M_p5_8 {α : Type} {Z : α} {v : Int} {kf : HP → α}  (hf : pf h 0 8 v kf = Z) (hlink : Cond.fieldLink M.1.cls idx (TX5 8).1 (TX5 8).2.1 (TX5 8).2.2.1 ∈ tbG) (hd : decode M.2.1 pc = .ok (.putfield idx, 3)) (kk : ∀ h1 : HP, kf h1 = Z → Rn (sdM l D ad cI) M R (pc + 3) loc stk h1) : Rn (sdM l D ad cI) M R pc loc (vi v :: .ref (ad 0) :: stk) h :=
  q_putf (S := sdM l D ad cI) (k := 0) (ci := 3) (j := 8) (v := vi v) (ty := .int) (h1 := hs h 0 8 v) tyX5 tyX5_ok nmX5 (wM_0) rfl inGX5 (by decide) hlink rfl (by decide +kernel) rfl rfl (Nat.le_of_ble_eq_true rfl) (by
    show (wd 13 ad (fun k => ceM ad cI (h k) k)).set 0 _ = wd 13 ad (fun k => ceM ad cI ((hs h 0 8 v) k) k)
    exact wd_set (by rfl) (fun j hj => ceM_hs j hj)) hd (kk _ hf)
theorem M_p5_10 {α : Type} {Z : α} {v : Int} {kf : HP → α}  (hf : pf h 0 10 v kf = Z) (hlink : Cond.fieldLink M.1.cls idx (TX5 10).1 (TX5 10).2.1 (TX5 10).2.2.1 ∈ tbG) (hd : decode M.2.1 pc = .ok (.putfield idx, 3)) (kk : ∀ h1 : HP, kf h1 = Z → Rn (sdM l D ad cI) M R (pc + 3) loc stk h1) : Rn (sdM l D ad cI) M R pc loc (vi v :: .ref (ad 0) :: stk) h :=
  q_putf (S := sdM l D ad cI) (k := 0) (ci := 3) (j := 10) (v := vi v) (ty := .int) (h1 := hs h 0 10 v) tyX5 tyX5_ok nmX5 (wM_0) rfl inGX5 (by decide) hlink rfl (by decide +kernel) rfl rfl (Nat.le_of_ble_eq_true rfl) (by
    show (wd 13 ad (fun k => ceM ad cI (h k) k)).set 0 _ = wd 13 ad (fun k => ceM ad cI ((hs h 0 10 v) k) k)
    exact wd_set (by rfl) (fun j hj => ceM_hs j hj)) hd (kk _ hf)
theorem M_p5_13 {α : Type} {Z : α} {v : Int} {kf : HP → α}  (hf : pf h 0 13 v kf = Z) (hlink : Cond.fieldLink M.1.cls idx (TX5 13).1 (TX5 13).2.1 (TX5 13).2.2.1 ∈ tbG) (hd : decode M.2.1 pc = .ok (.putfield idx, 3)) (kk : ∀ h1 : HP, kf h1 = Z → Rn (sdM l D ad cI) M R (pc + 3) loc stk h1) : Rn (sdM l D ad cI) M R pc loc (vi v :: .ref (ad 0) :: stk) h :=
  q_putf (S := sdM l D ad cI) (k := 0) (ci := 3) (j := 13) (v := vi v) (ty := .int) (h1 := hs h 0 13 v) tyX5 tyX5_ok nmX5 (wM_0) rfl inGX5 (by decide) hlink rfl (by decide +kernel) rfl rfl (Nat.le_of_ble_eq_true rfl) (by
    show (wd 13 ad (fun k => ceM ad cI (h k) k)).set 0 _ = wd 13 ad (fun k => ceM ad cI ((hs h 0 13 v) k) k)
    exact wd_set (by rfl) (fun j hj => ceM_hs j hj)) hd (kk _ hf)
theorem C_cp {α : Type} {Z : α} {a t : Nat} {i j n : Int} {kf : HP → Option α} (ha : isSh a = true) (ht : isSh t = true) (hf : acp h (a + 10) i (t + 10) j n kf = some Z) (hlk : Cond.methodLink M.1.cls idx arraycopyName ∈ tbG) (hR : (Nat.ble 1 M.2.2.2.2.1 && Nat.ble ((stk.map fun v => v.category).sum + (nativeFrameWords "java/lang/System" "arraycopy" 5 + 11)) M.2.2.2.2.2) = true) (hd : decode M.2.1 pc = .ok (.invokestatic idx, 3)) (kk : ∀ h1 : HP, kf h1 = some Z → Rn (sdC l D ad cI cR) M R (pc + 3) loc stk h1) : Rn (sdC l D ad cI cR) M R pc loc (vi n :: vi j :: .ref (ad (t + 10)) :: vi i :: .ref (ad (a + 10)) :: stk) h := by
  unfold acp at hf
  split at hf
  · rename_i hi
    obtain ⟨i1, i2, i3, i4, i5⟩ := hi
    have ha2 := sh_arr ha
    have ht2 := sh_arr ht
    have la : lnC (a + 10) = 12 := by have := sh_lt ha; simp [lnC, ha2]; omega
    have lt2 : lnC (t + 10) = 12 := by have := sh_lt ht; simp [lnC, ht2]; omega
    rw [Bool.and_eq_true] at hR
    have nn : ∀ z : Int, 0 ≤ wi z → ¬ Int32.ofInt z < 0 := fun z hz q => by have := (wi_lt0 z).mp q; omega
    intro p e s m args below meth c H locs A ls C hP hD hS hv
    refine va_copyi C.1 C.2.1 (C.2.2.1.trans hv.1.symm) C.2.2.2.1 (q_hts C hlk) (q_hts C (tbG_t 141 (by decide +kernel) rfl)) (q_hts C (tbG_t 140 (by decide +kernel) rfl)) (q_hts C (tbG_t 5 (by decide +kernel) rfl)) C.2.2.2.2.2.2.2.2 hP hD hS (a + 10) (t + 10) 0 0 (n0 := 12) (n1 := 12) (f := fun j => Int32.ofInt (h (a + 10) j)) (g := fun j => Int32.ofInt (h (t + 10) j)) (by rw [wC_arr ha2, la]) (by rw [wC_arr ht2, lt2]) rfl rfl rfl (nn i i1) (nn j i2) (nn n i3) (by rw [wi_clamp, wi_clamp]; omega) (by rw [wi_clamp, wi_clamp]; omega) (fun _ _ => rfl) (Nat.le_of_ble_eq_true hR.1) (Nat.le_of_ble_eq_true hR.2) hd (fun H1 locs1 hP1 hD1 hS1 => ?_)
    have hset : ((sdC l D ad cI cR).2.2.2 h).set (t + 10) (ad (t + 10), .inl (cI, 12, .inl (va_cpy (fun j => Int32.ofInt (h (a + 10) j)) (fun j => Int32.ofInt (h (t + 10) j)) (wi i).toNat (wi j).toNat (wi n).toNat))) = (sdC l D ad cI cR).2.2.2 (hcp h (a + 10) (wi i).toNat (t + 10) (wi j).toNat (wi n).toNat) := by
      show (wd 30 ad (fun k => ceC ad cI cR (h k) k)).set (t + 10) _ = wd 30 ad (fun k => ceC ad cI cR ((hcp h (a + 10) (wi i).toNat (t + 10) (wi j).toNat (wi n).toNat) k) k)
      refine wd_set ?_ (fun b hb => ?_)
      · rw [ceC_arr ht2, lt2]
        have e : (va_cpy (fun j => Int32.ofInt (h (a + 10) j)) (fun j => Int32.ofInt (h (t + 10) j)) (wi i).toNat (wi j).toNat (wi n).toNat) = fun b => Int32.ofInt (hcp h (a + 10) (wi i).toNat (t + 10) (wi j).toNat (wi n).toNat (t + 10) b) := by
          funext b
          unfold va_cpy hcp
          by_cases q : (wi j).toNat ≤ b ∧ b < (wi j).toNat + (wi n).toNat
          · rw [if_pos q, if_pos ⟨rfl, q⟩]
          · rw [if_neg q, if_neg (fun z => q z.2)]
        rw [e]
      · have e : hcp h (a + 10) (wi i).toNat (t + 10) (wi j).toNat (wi n).toNat b = h b := by
          funext x
          unfold hcp
          rw [if_neg (fun z => hb z.1)]
        rw [e]
    exact kk _ hf p e s m args below meth c H1 locs1 A ls C (hset ▸ hP1) (hset ▸ hD1) hS1 hv
  · cases hf
end FLD
theorem lkX4_89 : Cond.methodLink RX4 89 arraycopyName ∈ tbG := tbG_t 139 (by decide +kernel) rfl
