def bX5_powers_138 (k106 : Int → Int → Int → Int → HP → Option (Int × HP)) (self : Int → Int → Int → Int → Int → HP → Option (Int × HP)) (x2 : Int) (x3 : Int) (x4 : Int) (x5 : Int) (x6 : Int) (h : HP) : Option (Int × HP) :=
  if wi x6 < wi x5 then (ld (lnM 10) (h 10) x6 fun v151 => ld (lnM 10) (h 10) x5 fun v158 => if wi v151 = wi v158 then (some ((-3), h)) else (self x2 x3 x4 x5 (x6 + 1) h)) else (k106 x2 x3 x4 (x5 + 1) h)
def LX5_powers_138 (k106 : Int → Int → Int → Int → HP → Option (Int × HP)) : Nat → Int → Int → Int → Int → Int → HP → Option (Int × HP)
  | 0 => fun _ _ _ _ _ _ => none
  | n + 1 => bX5_powers_138 k106 (LX5_powers_138 k106 n)
set_option maxRecDepth 20000 in
theorem tX5_powers_138 {l : Launch} {D : va_G} {ad : Nat → Nat} {cI : ClassId} {Z : Int × HP} {k106 : Int → Int → Int → Int → HP → Option (Int × HP)} (hk106 : ∀ (x2 : Int) (x3 : Int) (x4 : Int) (x5 : Int) (h : HP), k106 x2 x3 x4 x5 h = some Z → Rn (sdM l D ad cI) mX5_powers (ri Z) 106 [(0, .ref (ad 0)), (2, vi x2), (3, vi x3), (4, vi x4), (5, vi x5)] [] h) : ∀ (n : Nat) (x2 : Int) (x3 : Int) (x4 : Int) (x5 : Int) (x6 : Int) (h : HP), LX5_powers_138 k106 n x2 x3 x4 x5 x6 h = some Z → Rn (sdM l D ad cI) mX5_powers (ri Z) 138 [(0, .ref (ad 0)), (2, vi x2), (3, vi x3), (4, vi x4), (5, vi x5), (6, vi x6)] [] h := by
  intro n
  induction n with
  | zero => intro x2 x3 x4 x5 x6 h hf; cases hf
  | succ n ih =>
    intro x2 x3 x4 x5 x6 h hf
    replace hf : bX5_powers_138 k106 (LX5_powers_138 k106 n) x2 x3 x4 x5 x6 h = some Z := hf
    unfold bX5_powers_138 at hf
    refine q_iload dX5_powers_138 5 rfl ?_
    refine q_iload dX5_powers_140 4 rfl ?_
    refine q_icmp_ge hf dX5_powers_142 171 (by decide) (fun hf => ?_) (fun hf => ?_)
    · refine q_iinc dX5_powers_171 4 rfl rfl (loc' := [(5, vi (x5 + 1)), (0, .ref (ad 0)), (2, vi x2), (3, vi x3), (4, vi x4), (6, vi x6)]) rfl ?_
      refine q_goto dX5_powers_174 106 (by decide) ?_
      refine q_loc (loc' := [(0, .ref (ad 0)), (2, vi x2), (3, vi x3), (4, vi x4), (5, vi (x5 + 1))]) [1, 2, 3, 4, 0] rfl ?_
      exact hk106 x2 x3 x4 (x5 + 1) h hf
    · refine q_aloadn dX5_powers_145 0 rfl ?_
      refine M_g5_14 flX5_37 dX5_powers_146 ?_
      refine q_iload dX5_powers_149 5 rfl ?_
      refine M_ld rfl hf dX5_powers_151 (fun v151 hf => ?_)
      refine q_aloadn dX5_powers_152 0 rfl ?_
      refine M_g5_14 flX5_37 dX5_powers_153 ?_
      refine q_iload dX5_powers_156 4 rfl ?_
      refine M_ld rfl hf dX5_powers_158 (fun v158 hf => ?_)
      refine q_icmp_ne hf dX5_powers_159 165 (by decide) (fun hf => ?_) (fun hf => ?_)
      · refine q_iinc dX5_powers_165 5 rfl rfl (loc' := [(6, vi (x6 + 1)), (0, .ref (ad 0)), (2, vi x2), (3, vi x3), (4, vi x4), (5, vi x5)]) rfl ?_
        refine q_goto dX5_powers_168 138 (by decide) ?_
        refine q_loc (loc' := [(0, .ref (ad 0)), (2, vi x2), (3, vi x3), (4, vi x4), (5, vi x5), (6, vi (x6 + 1))]) [1, 2, 3, 4, 5, 0] rfl ?_
        exact ih x2 x3 x4 x5 (x6 + 1) h hf
      · refine q_bipush dX5_powers_162 (by decide) ?_
        exact q_iret hf rfl dX5_powers_164
def bX5_powers_189 (k180 : Int → Int → Int → HP → Option (Int × HP)) (self : Int → Int → Int → Int → HP → Option (Int × HP)) (x3 : Int) (x4 : Int) (x5 : Int) (x6 : Int) (h : HP) : Option (Int × HP) :=
  if wi x6 < wi x3 then (cl (fX5_over (h 0 6) x5 h) fun r213 h213 => ld (lnM 10) (h213 10) x6 fun v222 => cl (fX5_raised v222 x5 h213) fun r225 h225 => cl (fX5_times r213 r225 h225) fun r228 h228 => sto (lnM 9) h228 9 ((18 * x5) + x6) r228 fun h231 => self x3 x4 x5 (x6 + 1) h231) else (ld (lnM 5) (h 5) x5 fun v255 => sto (lnM 9) h 9 ((18 * x5) + x3) v255 fun h256 => k180 x3 x4 (x5 + 1) h256)
def LX5_powers_189 (k180 : Int → Int → Int → HP → Option (Int × HP)) : Nat → Int → Int → Int → Int → HP → Option (Int × HP)
  | 0 => fun _ _ _ _ _ => none
  | n + 1 => bX5_powers_189 k180 (LX5_powers_189 k180 n)
set_option maxRecDepth 20000 in
theorem tX5_powers_189 {l : Launch} {D : va_G} {ad : Nat → Nat} {cI : ClassId} {Z : Int × HP} {k180 : Int → Int → Int → HP → Option (Int × HP)} (hk180 : ∀ (x3 : Int) (x4 : Int) (x5 : Int) (h : HP), k180 x3 x4 x5 h = some Z → Rn (sdM l D ad cI) mX5_powers (ri Z) 180 [(0, .ref (ad 0)), (3, vi x3), (4, vi x4), (5, vi x5)] [] h) : ∀ (n : Nat) (x3 : Int) (x4 : Int) (x5 : Int) (x6 : Int) (h : HP), LX5_powers_189 k180 n x3 x4 x5 x6 h = some Z → Rn (sdM l D ad cI) mX5_powers (ri Z) 189 [(0, .ref (ad 0)), (3, vi x3), (4, vi x4), (5, vi x5), (6, vi x6)] [] h := by
  intro n
  induction n with
  | zero => intro x3 x4 x5 x6 h hf; cases hf
  | succ n ih =>
    intro x3 x4 x5 x6 h hf
    replace hf : bX5_powers_189 k180 (LX5_powers_189 k180 n) x3 x4 x5 x6 h = some Z := hf
    unfold bX5_powers_189 at hf
    refine q_iload dX5_powers_189 4 rfl ?_
    refine q_iloadn dX5_powers_191 1 rfl ?_
    refine q_icmp_ge hf dX5_powers_192 238 (by decide) (fun hf => ?_) (fun hf => ?_)
    · refine q_aloadn dX5_powers_238 0 rfl ?_
      refine M_g5_12 flX5_34 dX5_powers_239 ?_
      refine q_bipush dX5_powers_242 (by decide) ?_
      refine q_iload dX5_powers_244 3 rfl ?_
      refine q_imul dX5_powers_246 ?_
      refine q_iloadn dX5_powers_247 1 rfl ?_
      refine q_iadd dX5_powers_248 ?_
      refine q_aloadn dX5_powers_249 0 rfl ?_
      refine M_g5_5 flX5_22 dX5_powers_250 ?_
      refine q_iload dX5_powers_253 3 rfl ?_
      refine M_ld rfl hf dX5_powers_255 (fun v255 hf => ?_)
      refine M_st rfl hf dX5_powers_256 (fun h256 hf => ?_)
      refine q_iinc dX5_powers_257 3 rfl rfl (loc' := [(5, vi (x5 + 1)), (0, .ref (ad 0)), (3, vi x3), (4, vi x4), (6, vi x6)]) rfl ?_
      refine q_goto dX5_powers_260 180 (by decide) ?_
      refine q_loc (loc' := [(0, .ref (ad 0)), (3, vi x3), (4, vi x4), (5, vi (x5 + 1))]) [1, 2, 3, 0] rfl ?_
      exact hk180 x3 x4 (x5 + 1) h256 hf
    · refine q_aloadn dX5_powers_195 0 rfl ?_
      refine M_g5_12 flX5_34 dX5_powers_196 ?_
      refine q_bipush dX5_powers_199 (by decide) ?_
      refine q_iload dX5_powers_201 3 rfl ?_
      refine q_imul dX5_powers_203 ?_
      refine q_iload dX5_powers_204 4 rfl ?_
      refine q_iadd dX5_powers_206 ?_
      refine q_aloadn dX5_powers_207 0 rfl ?_
      refine M_g5_6 flX5_81 dX5_powers_208 ?_
      refine q_iload dX5_powers_211 3 rfl ?_
      obtain ⟨r213, h213, e213, hf⟩ := q_cl hf
      refine q_cSi (av := [vi (h 0 6), vi x5]) (rest := [vi ((18 * x5) + x6), .ref (ad 9)]) (ctX5_over e213) kX5_over uX5_over lkX5_123 rfl rfl rfl dX5_powers_213 ?_
      refine q_aloadn dX5_powers_216 0 rfl ?_
      refine M_g5_14 flX5_37 dX5_powers_217 ?_
      refine q_iload dX5_powers_220 4 rfl ?_
      refine M_ld rfl hf dX5_powers_222 (fun v222 hf => ?_)
      refine q_iload dX5_powers_223 3 rfl ?_
      obtain ⟨r225, h225, e225, hf⟩ := q_cl hf
      refine q_cSi (av := [vi v222, vi x5]) (rest := [vi r213, vi ((18 * x5) + x6), .ref (ad 9)]) (ctX5_raised e225) kX5_raised uX5_raised lkX5_155 rfl rfl rfl dX5_powers_225 ?_
      obtain ⟨r228, h228, e228, hf⟩ := q_cl hf
      refine q_cSi (av := [vi r213, vi r225]) (rest := [vi ((18 * x5) + x6), .ref (ad 9)]) (ctX5_times e228) kX5_times uX5_times lkX5_52 rfl rfl rfl dX5_powers_228 ?_
      refine M_st rfl hf dX5_powers_231 (fun h231 hf => ?_)
      refine q_iinc dX5_powers_232 4 rfl rfl (loc' := [(6, vi (x6 + 1)), (0, .ref (ad 0)), (3, vi x3), (4, vi x4), (5, vi x5)]) rfl ?_
      refine q_goto dX5_powers_235 189 (by decide) ?_
      refine q_loc (loc' := [(0, .ref (ad 0)), (3, vi x3), (4, vi x4), (5, vi x5), (6, vi (x6 + 1))]) [1, 2, 3, 4, 0] rfl ?_
      exact ih x3 x4 x5 (x6 + 1) h231 hf
def bX5_powers_304 (k278 : Int → Int → Int → HP → Option (Int × HP)) (self : Int → Int → Int → Int → Int → HP → Option (Int × HP)) (x3 : Int) (x4 : Int) (x6 : Int) (x7 : Int) (x9 : Int) (h : HP) : Option (Int × HP) :=
  if wi x9 < wi x3 then (ld (lnM 9) (h 9) ((18 * x6) + x9) fun v324 => ld (lnM 11) (h 11) x9 fun v332 => lt (x7 - ((wi v324) * (wi v332))) fun x7_336 => self x3 x4 x6 x7_336 (x9 + 1) h) else (cl (fX5_mod x7 h) fun r352 h352 => ld (lnM 9) (h352 9) ((18 * x6) + x6) fun v367 => cl (fX5_turned v367 h352) fun r368 h368 => cl (fX5_times r352 r368 h368) fun r371 h371 => sto (lnM 11) h371 11 x6 r371 fun h374 => k278 x3 x4 (x6 + (-1)) h374)
def LX5_powers_304 (k278 : Int → Int → Int → HP → Option (Int × HP)) : Nat → Int → Int → Int → Int → Int → HP → Option (Int × HP)
  | 0 => fun _ _ _ _ _ _ => none
  | n + 1 => bX5_powers_304 k278 (LX5_powers_304 k278 n)
set_option maxRecDepth 20000 in
theorem tX5_powers_304 {l : Launch} {D : va_G} {ad : Nat → Nat} {cI : ClassId} {Z : Int × HP} {k278 : Int → Int → Int → HP → Option (Int × HP)} (hk278 : ∀ (x3 : Int) (x4 : Int) (x6 : Int) (h : HP), k278 x3 x4 x6 h = some Z → Rn (sdM l D ad cI) mX5_powers (ri Z) 278 [(0, .ref (ad 0)), (3, vi x3), (4, vi x4), (6, vi x6)] [] h) : ∀ (n : Nat) (x3 : Int) (x4 : Int) (x6 : Int) (x7 : Int) (x9 : Int) (h : HP), LX5_powers_304 k278 n x3 x4 x6 x7 x9 h = some Z → Rn (sdM l D ad cI) mX5_powers (ri Z) 304 [(0, .ref (ad 0)), (3, vi x3), (4, vi x4), (6, vi x6), (7, vl x7), (9, vi x9)] [] h := by
  intro n
  induction n with
  | zero => intro x3 x4 x6 x7 x9 h hf; cases hf
  | succ n ih =>
    intro x3 x4 x6 x7 x9 h hf
    replace hf : bX5_powers_304 k278 (LX5_powers_304 k278 n) x3 x4 x6 x7 x9 h = some Z := hf
    unfold bX5_powers_304 at hf
    refine q_iload dX5_powers_304 5 rfl ?_
    refine q_iloadn dX5_powers_306 1 rfl ?_
    refine q_icmp_ge hf dX5_powers_307 344 (by decide) (fun hf => ?_) (fun hf => ?_)
    · refine q_aloadn dX5_powers_344 0 rfl ?_
      refine M_g5_15 flX5_40 dX5_powers_345 ?_
      refine q_iload dX5_powers_348 3 rfl ?_
      refine q_lload dX5_powers_350 4 rfl ?_
      obtain ⟨r352, h352, e352, hf⟩ := q_cl hf
      refine q_cSi (av := [vl x7]) (rest := [vi x6, .ref (ad 11)]) (ctX5_mod e352) kX5_mod uX5_mod lkX5_48 rfl rfl rfl dX5_powers_352 ?_
      refine q_aloadn dX5_powers_355 0 rfl ?_
      refine M_g5_12 flX5_34 dX5_powers_356 ?_
      refine q_bipush dX5_powers_359 (by decide) ?_
      refine q_iload dX5_powers_361 3 rfl ?_
      refine q_imul dX5_powers_363 ?_
      refine q_iload dX5_powers_364 3 rfl ?_
      refine q_iadd dX5_powers_366 ?_
      refine M_ld rfl hf dX5_powers_367 (fun v367 hf => ?_)
      obtain ⟨r368, h368, e368, hf⟩ := q_cl hf
      refine q_cSi (av := [vi v367]) (rest := [vi r352, vi x6, .ref (ad 11)]) (ctX5_turned e368) kX5_turned uX5_turned lkX5_133 rfl rfl rfl dX5_powers_368 ?_
      obtain ⟨r371, h371, e371, hf⟩ := q_cl hf
      refine q_cSi (av := [vi r352, vi r368]) (rest := [vi x6, .ref (ad 11)]) (ctX5_times e371) kX5_times uX5_times lkX5_52 rfl rfl rfl dX5_powers_371 ?_
      refine M_st rfl hf dX5_powers_374 (fun h374 hf => ?_)
      refine q_iinc dX5_powers_375 3 rfl rfl (loc' := [(6, vi (x6 + (-1))), (0, .ref (ad 0)), (3, vi x3), (4, vi x4), (7, vl x7), (9, vi x9)]) rfl ?_
      refine q_goto dX5_powers_378 278 (by decide) ?_
      refine q_loc (loc' := [(0, .ref (ad 0)), (3, vi x3), (4, vi x4), (6, vi (x6 + (-1)))]) [1, 2, 3, 0] rfl ?_
      exact hk278 x3 x4 (x6 + (-1)) h374 hf
    · refine q_lload dX5_powers_310 4 rfl ?_
      refine q_aloadn dX5_powers_312 0 rfl ?_
      refine M_g5_12 flX5_34 dX5_powers_313 ?_
      refine q_bipush dX5_powers_316 (by decide) ?_
      refine q_iload dX5_powers_318 3 rfl ?_
      refine q_imul dX5_powers_320 ?_
      refine q_iload dX5_powers_321 5 rfl ?_
      refine q_iadd dX5_powers_323 ?_
      refine M_ld rfl hf dX5_powers_324 (fun v324 hf => ?_)
      refine q_i2l dX5_powers_325 ?_
      refine q_aloadn dX5_powers_326 0 rfl ?_
      refine M_g5_15 flX5_40 dX5_powers_327 ?_
      refine q_iload dX5_powers_330 5 rfl ?_
      refine M_ld rfl hf dX5_powers_332 (fun v332 hf => ?_)
      refine q_i2l dX5_powers_333 ?_
      refine q_lmul dX5_powers_334 ?_
      refine q_lsub dX5_powers_335 ?_
      refine q_ltl hf (fun x7_336 hf => ?_)
      refine q_lstore dX5_powers_336 rfl (loc' := [(7, vl x7_336), (0, .ref (ad 0)), (3, vi x3), (4, vi x4), (6, vi x6), (9, vi x9)]) rfl ?_
      refine q_iinc dX5_powers_338 5 rfl rfl (loc' := [(9, vi (x9 + 1)), (7, vl x7_336), (0, .ref (ad 0)), (3, vi x3), (4, vi x4), (6, vi x6)]) rfl ?_
      refine q_goto dX5_powers_341 304 (by decide) ?_
      refine q_loc (loc' := [(0, .ref (ad 0)), (3, vi x3), (4, vi x4), (6, vi x6), (7, vl x7_336), (9, vi (x9 + 1))]) [2, 3, 4, 5, 1, 0] rfl ?_
      exact ih x3 x4 x6 x7_336 (x9 + 1) h hf
def bX5_powers_399 (k384 : Int → Int → Int → HP → Option (Int × HP)) (self : Int → Int → Int → Int → Int → HP → Option (Int × HP)) (x3 : Int) (x4 : Int) (x6 : Int) (x7 : Int) (x8 : Int) (h : HP) : Option (Int × HP) :=
  if wi x8 < wi x3 then (ld (lnM 11) (h 11) x8 fun v414 => ld (lnM 10) (h 10) x8 fun v422 => cl (fX5_raised v422 x6 h) fun r425 h425 => cl (fX5_mod ((wi x7) + ((wi v414) * (wi r425))) h425) fun r431 h431 => self x3 x4 x6 r431 (x8 + 1) h431) else (cl (fX5_over (h 0 6) x6 h) fun r450 h450 => cl (fX5_times x7 r450 h450) fun r453 h453 => ld (lnM 5) (h453 5) x6 fun v462 => if wi r453 = wi v462 then (k384 x3 x4 (x6 + 1) h453) else (some ((-3), h453)))
def LX5_powers_399 (k384 : Int → Int → Int → HP → Option (Int × HP)) : Nat → Int → Int → Int → Int → Int → HP → Option (Int × HP)
  | 0 => fun _ _ _ _ _ _ => none
  | n + 1 => bX5_powers_399 k384 (LX5_powers_399 k384 n)
set_option maxRecDepth 20000 in
theorem tX5_powers_399 {l : Launch} {D : va_G} {ad : Nat → Nat} {cI : ClassId} {Z : Int × HP} {k384 : Int → Int → Int → HP → Option (Int × HP)} (hk384 : ∀ (x3 : Int) (x4 : Int) (x6 : Int) (h : HP), k384 x3 x4 x6 h = some Z → Rn (sdM l D ad cI) mX5_powers (ri Z) 384 [(0, .ref (ad 0)), (3, vi x3), (4, vi x4), (6, vi x6)] [] h) : ∀ (n : Nat) (x3 : Int) (x4 : Int) (x6 : Int) (x7 : Int) (x8 : Int) (h : HP), LX5_powers_399 k384 n x3 x4 x6 x7 x8 h = some Z → Rn (sdM l D ad cI) mX5_powers (ri Z) 399 [(0, .ref (ad 0)), (3, vi x3), (4, vi x4), (6, vi x6), (7, vi x7), (8, vi x8)] [] h := by
  intro n
  induction n with
  | zero => intro x3 x4 x6 x7 x8 h hf; cases hf
  | succ n ih =>
    intro x3 x4 x6 x7 x8 h hf
    replace hf : bX5_powers_399 k384 (LX5_powers_399 k384 n) x3 x4 x6 x7 x8 h = some Z := hf
    unfold bX5_powers_399 at hf
    refine q_iload dX5_powers_399 5 rfl ?_
    refine q_iloadn dX5_powers_401 1 rfl ?_
    refine q_icmp_ge hf dX5_powers_402 442 (by decide) (fun hf => ?_) (fun hf => ?_)
    · refine q_iload dX5_powers_442 4 rfl ?_
      refine q_aloadn dX5_powers_444 0 rfl ?_
      refine M_g5_6 flX5_81 dX5_powers_445 ?_
      refine q_iload dX5_powers_448 3 rfl ?_
      obtain ⟨r450, h450, e450, hf⟩ := q_cl hf
      refine q_cSi (av := [vi (h 0 6), vi x6]) (rest := [vi x7]) (ctX5_over e450) kX5_over uX5_over lkX5_123 rfl rfl rfl dX5_powers_450 ?_
      obtain ⟨r453, h453, e453, hf⟩ := q_cl hf
      refine q_cSi (av := [vi x7, vi r450]) (rest := []) (ctX5_times e453) kX5_times uX5_times lkX5_52 rfl rfl rfl dX5_powers_453 ?_
      refine q_aloadn dX5_powers_456 0 rfl ?_
      refine M_g5_5 flX5_22 dX5_powers_457 ?_
      refine q_iload dX5_powers_460 3 rfl ?_
      refine M_ld rfl hf dX5_powers_462 (fun v462 hf => ?_)
      refine q_icmp_eq hf dX5_powers_463 469 (by decide) (fun hf => ?_) (fun hf => ?_)
      · refine q_iinc dX5_powers_469 3 rfl rfl (loc' := [(6, vi (x6 + 1)), (0, .ref (ad 0)), (3, vi x3), (4, vi x4), (7, vi x7), (8, vi x8)]) rfl ?_
        refine q_goto dX5_powers_472 384 (by decide) ?_
        refine q_loc (loc' := [(0, .ref (ad 0)), (3, vi x3), (4, vi x4), (6, vi (x6 + 1))]) [1, 2, 3, 0] rfl ?_
        exact hk384 x3 x4 (x6 + 1) h453 hf
      · refine q_bipush dX5_powers_466 (by decide) ?_
        exact q_iret hf rfl dX5_powers_468
    · refine q_iload dX5_powers_405 4 rfl ?_
      refine q_i2l dX5_powers_407 ?_
      refine q_aloadn dX5_powers_408 0 rfl ?_
      refine M_g5_15 flX5_40 dX5_powers_409 ?_
      refine q_iload dX5_powers_412 5 rfl ?_
      refine M_ld rfl hf dX5_powers_414 (fun v414 hf => ?_)
      refine q_i2l dX5_powers_415 ?_
      refine q_aloadn dX5_powers_416 0 rfl ?_
      refine M_g5_14 flX5_37 dX5_powers_417 ?_
      refine q_iload dX5_powers_420 5 rfl ?_
      refine M_ld rfl hf dX5_powers_422 (fun v422 hf => ?_)
      refine q_iload dX5_powers_423 3 rfl ?_
      obtain ⟨r425, h425, e425, hf⟩ := q_cl hf
      refine q_cSi (av := [vi v422, vi x6]) (rest := [vl (wi v414), vl (wi x7)]) (ctX5_raised e425) kX5_raised uX5_raised lkX5_155 rfl rfl rfl dX5_powers_425 ?_
      refine q_i2l dX5_powers_428 ?_
      refine q_lmul dX5_powers_429 ?_
      refine q_ladd dX5_powers_430 ?_
      obtain ⟨r431, h431, e431, hf⟩ := q_cl hf
      refine q_cSi (av := [vl ((wi x7) + ((wi v414) * (wi r425)))]) (rest := []) (ctX5_mod e431) kX5_mod uX5_mod lkX5_48 rfl rfl rfl dX5_powers_431 ?_
      refine q_istore dX5_powers_434 rfl (loc' := [(7, vi r431), (0, .ref (ad 0)), (3, vi x3), (4, vi x4), (6, vi x6), (8, vi x8)]) rfl ?_
      refine q_iinc dX5_powers_436 5 rfl rfl (loc' := [(8, vi (x8 + 1)), (7, vi r431), (0, .ref (ad 0)), (3, vi x3), (4, vi x4), (6, vi x6)]) rfl ?_
      refine q_goto dX5_powers_439 399 (by decide) ?_
      refine q_loc (loc' := [(0, .ref (ad 0)), (3, vi x3), (4, vi x4), (6, vi x6), (7, vi r431), (8, vi (x8 + 1))]) [2, 3, 4, 5, 1, 0] rfl ?_
      exact ih x3 x4 x6 r431 (x8 + 1) h431 hf
def bX5_powers_485 (self : Int → Int → Int → HP → Option (Int × HP)) (x3 : Int) (x4 : Int) (x6 : Int) (h : HP) : Option (Int × HP) :=
  if wi x6 < wi x3 then (ld (lnM 11) (h 11) x6 fun v503 => sto (lnM 7) h 7 x6 v503 fun h504 => self x3 x4 (x6 + 1) h504) else (cl (fX5_lay x4 h) fun r514 h514 => some (x3, h514))
def LX5_powers_485 : Nat → Int → Int → Int → HP → Option (Int × HP)
  | 0 => fun _ _ _ _ => none
  | n + 1 => bX5_powers_485 (LX5_powers_485 n)
set_option maxRecDepth 20000 in
theorem tX5_powers_485 {l : Launch} {D : va_G} {ad : Nat → Nat} {cI : ClassId} {Z : Int × HP} : ∀ (n : Nat) (x3 : Int) (x4 : Int) (x6 : Int) (h : HP), LX5_powers_485 n x3 x4 x6 h = some Z → Rn (sdM l D ad cI) mX5_powers (ri Z) 485 [(0, .ref (ad 0)), (3, vi x3), (4, vi x4), (6, vi x6)] [] h := by
  intro n
  induction n with
  | zero => intro x3 x4 x6 h hf; cases hf
  | succ n ih =>
    intro x3 x4 x6 h hf
    replace hf : bX5_powers_485 (LX5_powers_485 n) x3 x4 x6 h = some Z := hf
    unfold bX5_powers_485 at hf
    refine q_iload dX5_powers_485 3 rfl ?_
    refine q_iloadn dX5_powers_487 1 rfl ?_
    refine q_icmp_ge hf dX5_powers_488 511 (by decide) (fun hf => ?_) (fun hf => ?_)
    · refine q_aloadn dX5_powers_511 0 rfl ?_
      refine q_iload dX5_powers_512 2 rfl ?_
      obtain ⟨r514, h514, e514, hf⟩ := q_cl hf
      refine q_cVi (av := [vi x4]) (rest := []) wM_0 (ctX5_lay e514) kX5_lay vX5_lay zX5_lay lkX5_116 rfl rfl rfl rfl rfl dX5_powers_514 ?_
      refine q_istore dX5_powers_517 rfl (loc' := [(6, vi r514), (0, .ref (ad 0)), (3, vi x3), (4, vi x4)]) rfl ?_
      refine q_iloadn dX5_powers_519 2 rfl ?_
      exact q_iret hf rfl dX5_powers_520
    · refine q_aloadn dX5_powers_491 0 rfl ?_
      refine M_g5_9 flX5_28 dX5_powers_492 ?_
      refine q_iload dX5_powers_495 3 rfl ?_
      refine q_aloadn dX5_powers_497 0 rfl ?_
      refine M_g5_15 flX5_40 dX5_powers_498 ?_
      refine q_iload dX5_powers_501 3 rfl ?_
      refine M_ld rfl hf dX5_powers_503 (fun v503 hf => ?_)
      refine M_st rfl hf dX5_powers_504 (fun h504 hf => ?_)
      refine q_iinc dX5_powers_505 3 rfl rfl (loc' := [(6, vi (x6 + 1)), (0, .ref (ad 0)), (3, vi x3), (4, vi x4)]) rfl ?_
      refine q_goto dX5_powers_508 485 (by decide) ?_
      refine q_loc (loc' := [(0, .ref (ad 0)), (3, vi x3), (4, vi x4), (6, vi (x6 + 1))]) [1, 2, 3, 0] rfl ?_
      exact ih x3 x4 (x6 + 1) h504 hf
def bX5_powers_384 (self : Int → Int → Int → HP → Option (Int × HP)) (x3 : Int) (x4 : Int) (x6 : Int) (h : HP) : Option (Int × HP) :=
  if wi x6 ≤ wi (h 0 6) then (LX5_powers_399 self FU x3 x4 x6 0 0 h) else (cl (fX5_noughtH (x3 - 1) h) fun _ h479 => LX5_powers_485 FU x3 x4 0 h479)
def LX5_powers_384 : Nat → Int → Int → Int → HP → Option (Int × HP)
  | 0 => fun _ _ _ _ => none
  | n + 1 => bX5_powers_384 (LX5_powers_384 n)
set_option maxRecDepth 20000 in
theorem tX5_powers_384 {l : Launch} {D : va_G} {ad : Nat → Nat} {cI : ClassId} {Z : Int × HP} : ∀ (n : Nat) (x3 : Int) (x4 : Int) (x6 : Int) (h : HP), LX5_powers_384 n x3 x4 x6 h = some Z → Rn (sdM l D ad cI) mX5_powers (ri Z) 384 [(0, .ref (ad 0)), (3, vi x3), (4, vi x4), (6, vi x6)] [] h := by
  intro n
  induction n with
  | zero => intro x3 x4 x6 h hf; cases hf
  | succ n ih =>
    intro x3 x4 x6 h hf
    replace hf : bX5_powers_384 (LX5_powers_384 n) x3 x4 x6 h = some Z := hf
    unfold bX5_powers_384 at hf
    refine q_iload dX5_powers_384 3 rfl ?_
    refine q_aloadn dX5_powers_386 0 rfl ?_
    refine M_g5_6 flX5_81 dX5_powers_387 ?_
    refine q_icmp_gt hf dX5_powers_390 475 (by decide) (fun hf => ?_) (fun hf => ?_)
    · refine q_aloadn dX5_powers_475 0 rfl ?_
      refine q_iloadn dX5_powers_476 1 rfl ?_
      refine q_iconst dX5_powers_477 ?_
      refine q_isub dX5_powers_478 ?_
      obtain ⟨r479, h479, e479, hf⟩ := q_cl hf
      refine q_cVv (av := [vi (x3 - 1)]) (rest := []) wM_0 (ctX5_noughtH e479) kX5_noughtH vX5_noughtH zX5_noughtH lkX5_113 rfl rfl rfl rfl rfl dX5_powers_479 ?_
      refine q_iconst dX5_powers_482 ?_
      refine q_istore dX5_powers_483 rfl (loc' := [(6, vi 0), (0, .ref (ad 0)), (3, vi x3), (4, vi x4)]) rfl ?_
      refine q_loc (loc' := [(0, .ref (ad 0)), (3, vi x3), (4, vi x4), (6, vi 0)]) [1, 2, 3, 0] rfl ?_
      exact tX5_powers_485 FU x3 x4 0 h479 hf
    · refine q_iconst dX5_powers_393 ?_
      refine q_istore dX5_powers_394 rfl (loc' := [(7, vi 0), (0, .ref (ad 0)), (3, vi x3), (4, vi x4), (6, vi x6)]) rfl ?_
      refine q_iconst dX5_powers_396 ?_
      refine q_istore dX5_powers_397 rfl (loc' := [(8, vi 0), (7, vi 0), (0, .ref (ad 0)), (3, vi x3), (4, vi x4), (6, vi x6)]) rfl ?_
      refine q_loc (loc' := [(0, .ref (ad 0)), (3, vi x3), (4, vi x4), (6, vi x6), (7, vi 0), (8, vi 0)]) [2, 3, 4, 5, 1, 0] rfl ?_
      exact tX5_powers_399 ih FU x3 x4 x6 0 0 h hf
def bX5_powers_278 (self : Int → Int → Int → HP → Option (Int × HP)) (x3 : Int) (x4 : Int) (x6 : Int) (h : HP) : Option (Int × HP) :=
  if 0 ≤ wi x6 then (ld (lnM 9) (h 9) ((18 * x6) + x3) fun v294 => lt (wi v294) fun x7_296 => lt (x6 + 1) fun x9_302 => LX5_powers_304 self FU x3 x4 x6 x7_296 x9_302 h) else (LX5_powers_384 FU x3 x4 0 h)
def LX5_powers_278 : Nat → Int → Int → Int → HP → Option (Int × HP)
  | 0 => fun _ _ _ _ => none
  | n + 1 => bX5_powers_278 (LX5_powers_278 n)
set_option maxRecDepth 20000 in
theorem tX5_powers_278 {l : Launch} {D : va_G} {ad : Nat → Nat} {cI : ClassId} {Z : Int × HP} : ∀ (n : Nat) (x3 : Int) (x4 : Int) (x6 : Int) (h : HP), LX5_powers_278 n x3 x4 x6 h = some Z → Rn (sdM l D ad cI) mX5_powers (ri Z) 278 [(0, .ref (ad 0)), (3, vi x3), (4, vi x4), (6, vi x6)] [] h := by
  intro n
  induction n with
  | zero => intro x3 x4 x6 h hf; cases hf
  | succ n ih =>
    intro x3 x4 x6 h hf
    replace hf : bX5_powers_278 (LX5_powers_278 n) x3 x4 x6 h = some Z := hf
    unfold bX5_powers_278 at hf
    refine q_iload dX5_powers_278 3 rfl ?_
    refine q_if_lt hf dX5_powers_280 381 (by decide) (fun hf => ?_) (fun hf => ?_)
    · refine q_iconst dX5_powers_381 ?_
      refine q_istore dX5_powers_382 rfl (loc' := [(6, vi 0), (0, .ref (ad 0)), (3, vi x3), (4, vi x4)]) rfl ?_
      refine q_loc (loc' := [(0, .ref (ad 0)), (3, vi x3), (4, vi x4), (6, vi 0)]) [1, 2, 3, 0] rfl ?_
      exact tX5_powers_384 FU x3 x4 0 h hf
    · refine q_aloadn dX5_powers_283 0 rfl ?_
      refine M_g5_12 flX5_34 dX5_powers_284 ?_
      refine q_bipush dX5_powers_287 (by decide) ?_
      refine q_iload dX5_powers_289 3 rfl ?_
      refine q_imul dX5_powers_291 ?_
      refine q_iloadn dX5_powers_292 1 rfl ?_
      refine q_iadd dX5_powers_293 ?_
      refine M_ld rfl hf dX5_powers_294 (fun v294 hf => ?_)
      refine q_i2l dX5_powers_295 ?_
      refine q_ltl hf (fun x7_296 hf => ?_)
      refine q_lstore dX5_powers_296 rfl (loc' := [(7, vl x7_296), (0, .ref (ad 0)), (3, vi x3), (4, vi x4), (6, vi x6)]) rfl ?_
      refine q_iload dX5_powers_298 4 rfl ?_
      refine q_iconst dX5_powers_300 ?_
      refine q_iadd dX5_powers_301 ?_
      refine q_lt hf (fun x9_302 hf => ?_)
      refine q_istore dX5_powers_302 rfl (loc' := [(9, vi x9_302), (7, vl x7_296), (0, .ref (ad 0)), (3, vi x3), (4, vi x4), (6, vi x6)]) rfl ?_
      refine q_loc (loc' := [(0, .ref (ad 0)), (3, vi x3), (4, vi x4), (6, vi x6), (7, vl x7_296), (9, vi x9_302)]) [2, 3, 4, 5, 1, 0] rfl ?_
      exact tX5_powers_304 ih FU x3 x4 x6 x7_296 x9_302 h hf
def bX5_powers_180 (self : Int → Int → Int → HP → Option (Int × HP)) (x3 : Int) (x4 : Int) (x5 : Int) (h : HP) : Option (Int × HP) :=
  if wi x5 < wi x3 then (LX5_powers_189 self FU x3 x4 x5 0 h) else (cl (fX5_eliminate x3 (x3 + 1) h) fun r268 h268 => lt (x3 - 1) fun x6_276 => LX5_powers_278 FU x3 x4 x6_276 h268)
def LX5_powers_180 : Nat → Int → Int → Int → HP → Option (Int × HP)
  | 0 => fun _ _ _ _ => none
  | n + 1 => bX5_powers_180 (LX5_powers_180 n)
set_option maxRecDepth 20000 in
theorem tX5_powers_180 {l : Launch} {D : va_G} {ad : Nat → Nat} {cI : ClassId} {Z : Int × HP} : ∀ (n : Nat) (x3 : Int) (x4 : Int) (x5 : Int) (h : HP), LX5_powers_180 n x3 x4 x5 h = some Z → Rn (sdM l D ad cI) mX5_powers (ri Z) 180 [(0, .ref (ad 0)), (3, vi x3), (4, vi x4), (5, vi x5)] [] h := by
  intro n
  induction n with
  | zero => intro x3 x4 x5 h hf; cases hf
  | succ n ih =>
    intro x3 x4 x5 h hf
    replace hf : bX5_powers_180 (LX5_powers_180 n) x3 x4 x5 h = some Z := hf
    unfold bX5_powers_180 at hf
    refine q_iload dX5_powers_180 3 rfl ?_
    refine q_iloadn dX5_powers_182 1 rfl ?_
    refine q_icmp_ge hf dX5_powers_183 263 (by decide) (fun hf => ?_) (fun hf => ?_)
    · refine q_aloadn dX5_powers_263 0 rfl ?_
      refine q_iloadn dX5_powers_264 1 rfl ?_
      refine q_iloadn dX5_powers_265 1 rfl ?_
      refine q_iconst dX5_powers_266 ?_
      refine q_iadd dX5_powers_267 ?_
      obtain ⟨r268, h268, e268, hf⟩ := q_cl hf
      refine q_cVi (av := [vi x3, vi (x3 + 1)]) (rest := []) wM_0 (ctX5_eliminate e268) kX5_eliminate vX5_eliminate zX5_eliminate lkX5_152 rfl rfl rfl rfl rfl dX5_powers_268 ?_
      refine q_istore dX5_powers_271 rfl (loc' := [(5, vi r268), (0, .ref (ad 0)), (3, vi x3), (4, vi x4)]) rfl ?_
      refine q_iloadn dX5_powers_273 2 rfl ?_
      refine q_iconst dX5_powers_274 ?_
      refine q_isub dX5_powers_275 ?_
      refine q_lt hf (fun x6_276 hf => ?_)
      refine q_istore dX5_powers_276 rfl (loc' := [(6, vi x6_276), (5, vi r268), (0, .ref (ad 0)), (3, vi x3), (4, vi x4)]) rfl ?_
      refine q_loc (loc' := [(0, .ref (ad 0)), (3, vi x3), (4, vi x4), (6, vi x6_276)]) [2, 3, 4, 0] rfl ?_
      exact tX5_powers_278 FU x3 x4 x6_276 h268 hf
    · refine q_iconst dX5_powers_186 ?_
      refine q_istore dX5_powers_187 rfl (loc' := [(6, vi 0), (0, .ref (ad 0)), (3, vi x3), (4, vi x4), (5, vi x5)]) rfl ?_
      refine q_loc (loc' := [(0, .ref (ad 0)), (3, vi x3), (4, vi x4), (5, vi x5), (6, vi 0)]) [1, 2, 3, 4, 0] rfl ?_
      exact tX5_powers_189 ih FU x3 x4 x5 0 h hf
def bX5_powers_106 (self : Int → Int → Int → Int → HP → Option (Int × HP)) (x2 : Int) (x3 : Int) (x4 : Int) (x5 : Int) (h : HP) : Option (Int × HP) :=
  if wi x5 < wi x3 then (ld (lnM 3) (h 3) ((12 * x2) + x5) fun v129 => cl (fX5_mod (wi v129) h) fun r131 h131 => sto (lnM 10) h131 10 x5 r131 fun h134 => LX5_powers_138 self FU x2 x3 x4 x5 0 h134) else (LX5_powers_180 FU x3 x4 0 h)
def LX5_powers_106 : Nat → Int → Int → Int → Int → HP → Option (Int × HP)
  | 0 => fun _ _ _ _ _ => none
  | n + 1 => bX5_powers_106 (LX5_powers_106 n)
set_option maxRecDepth 20000 in
theorem tX5_powers_106 {l : Launch} {D : va_G} {ad : Nat → Nat} {cI : ClassId} {Z : Int × HP} : ∀ (n : Nat) (x2 : Int) (x3 : Int) (x4 : Int) (x5 : Int) (h : HP), LX5_powers_106 n x2 x3 x4 x5 h = some Z → Rn (sdM l D ad cI) mX5_powers (ri Z) 106 [(0, .ref (ad 0)), (2, vi x2), (3, vi x3), (4, vi x4), (5, vi x5)] [] h := by
  intro n
  induction n with
  | zero => intro x2 x3 x4 x5 h hf; cases hf
  | succ n ih =>
    intro x2 x3 x4 x5 h hf
    replace hf : bX5_powers_106 (LX5_powers_106 n) x2 x3 x4 x5 h = some Z := hf
    unfold bX5_powers_106 at hf
    refine q_iload dX5_powers_106 4 rfl ?_
    refine q_iloadn dX5_powers_108 2 rfl ?_
    refine q_icmp_ge hf dX5_powers_109 177 (by decide) (fun hf => ?_) (fun hf => ?_)
    · refine q_iconst dX5_powers_177 ?_
      refine q_istore dX5_powers_178 rfl (loc' := [(5, vi 0), (0, .ref (ad 0)), (2, vi x2), (3, vi x3), (4, vi x4)]) rfl ?_
      refine q_loc (loc' := [(0, .ref (ad 0)), (3, vi x3), (4, vi x4), (5, vi 0)]) [1, 3, 4, 0] rfl ?_
      exact tX5_powers_180 FU x3 x4 0 h hf
    · refine q_aloadn dX5_powers_112 0 rfl ?_
      refine M_g5_14 flX5_37 dX5_powers_113 ?_
      refine q_iload dX5_powers_116 4 rfl ?_
      refine q_aloadn dX5_powers_118 0 rfl ?_
      refine M_g5_2 flX5_16 dX5_powers_119 ?_
      refine q_bipush dX5_powers_122 (by decide) ?_
      refine q_iloadn dX5_powers_124 1 rfl ?_
      refine q_imul dX5_powers_125 ?_
      refine q_iload dX5_powers_126 4 rfl ?_
      refine q_iadd dX5_powers_128 ?_
      refine M_ld rfl hf dX5_powers_129 (fun v129 hf => ?_)
      refine q_i2l dX5_powers_130 ?_
      obtain ⟨r131, h131, e131, hf⟩ := q_cl hf
      refine q_cSi (av := [vl (wi v129)]) (rest := [vi x5, .ref (ad 10)]) (ctX5_mod e131) kX5_mod uX5_mod lkX5_48 rfl rfl rfl dX5_powers_131 ?_
      refine M_st rfl hf dX5_powers_134 (fun h134 hf => ?_)
      refine q_iconst dX5_powers_135 ?_
      refine q_istore dX5_powers_136 rfl (loc' := [(6, vi 0), (0, .ref (ad 0)), (2, vi x2), (3, vi x3), (4, vi x4), (5, vi x5)]) rfl ?_
      refine q_loc (loc' := [(0, .ref (ad 0)), (2, vi x2), (3, vi x3), (4, vi x4), (5, vi x5), (6, vi 0)]) [1, 2, 3, 4, 5, 0] rfl ?_
      exact tX5_powers_138 ih FU x2 x3 x4 x5 0 h134 hf
def fX5_powers (x1 : Int) (x2 : Int) (x3 : Int) (x4 : Int) (h : HP) : Option (Int × HP) :=
  cl (fX5_isSheet x1 h) fun r1 h1 => if wi r1 = 0 then (some ((-2), h1)) else (cl (fX5_isSheet x2 h1) fun r8 h8 => if wi r8 = 0 then (some ((-2), h8)) else (cl (fX5_in (wi x3) 1 9 h8) fun r20 h20 => if wi r20 = 0 then (some ((-2), h20)) else (cl (fX5_isSheet x4 h20) fun r28 h28 => if wi r28 = 0 then (some ((-2), h28)) else (ld (lnM 1) (h28 1) x1 fun v42 => if 0 ≤ wi v42 then (ld (lnM 1) (h28 1) x2 fun v51 => if wi v51 < 0 then (cl (fX5_met 1 h28) fun r57 h57 => some (r57, h57)) else (cl (fX5_isForm x1 h28) fun r63 h63 => if wi r63 = 0 then (some ((-3), h63)) else (ld (lnM 2) (h63 2) x1 fun v75 => if wi v75 < wi x3 then (some ((-3), h63)) else (ld (lnM 2) (h63 2) x2 fun v87 => if wi v87 < wi x3 then (cl (fX5_met 2 h63) fun r94 h94 => some (r94, h94)) else (cl (fX5_takeF x1 h63) fun _ h100 => LX5_powers_106 FU x2 x3 x4 0 h100))))) else (cl (fX5_met 1 h28) fun r57 h57 => some (r57, h57))))))
set_option maxRecDepth 20000 in
theorem ctX5_powers {l : Launch} {D : va_G} {ad : Nat → Nat} {cI : ClassId} {x1 : Int} {x2 : Int} {x3 : Int} {x4 : Int} {h : HP} {Z : Int × HP} (hf : fX5_powers x1 x2 x3 x4 h = some Z) : Ct (sdM l D ad cI) mX5_powers [.ref (ad 0), vi x1, vi x2, vi x3, vi x4] h (ri Z) := by
  refine Ct.ofF nX5_powers rfl (loc := [(0, .ref (ad 0)), (1, vi x1), (2, vi x2), (3, vi x3), (4, vi x4)]) rfl ?_
  unfold fX5_powers at hf
  refine q_iloadn dX5_powers_0 1 rfl ?_
  obtain ⟨r1, h1, e1, hf⟩ := q_cl hf
  refine q_cSi (av := [vi x1]) (rest := []) (ctX5_isSheet e1) kX5_isSheet uX5_isSheet lkX5_66 rfl rfl rfl dX5_powers_1 ?_
  refine q_if_eq hf dX5_powers_4 34 (by decide) (fun hf => ?_) (fun hf => ?_)
  · refine q_bipush dX5_powers_34 (by decide) ?_
    exact q_iret hf rfl dX5_powers_36
  · refine q_iloadn dX5_powers_7 2 rfl ?_
    obtain ⟨r8, h8, e8, hf⟩ := q_cl hf
    refine q_cSi (av := [vi x2]) (rest := []) (ctX5_isSheet e8) kX5_isSheet uX5_isSheet lkX5_66 rfl rfl rfl dX5_powers_8 ?_
    refine q_if_eq hf dX5_powers_11 34 (by decide) (fun hf => ?_) (fun hf => ?_)
    · refine q_bipush dX5_powers_34 (by decide) ?_
      exact q_iret hf rfl dX5_powers_36
    · refine q_iloadn dX5_powers_14 3 rfl ?_
      refine q_i2l dX5_powers_15 ?_
      refine q_lconst (n := 1) dX5_powers_16 (by decide) ?_
      refine q_ldc2 (n := 9) dX5_powers_17 kcX5_60 ?_
      obtain ⟨r20, h20, e20, hf⟩ := q_cl hf
      refine q_cSi (av := [vl (wi x3), vl 1, vl 9]) (rest := []) (ctX5_in e20) kX5_in uX5_in lkX5_62 rfl rfl rfl dX5_powers_20 ?_
      refine q_if_eq hf dX5_powers_23 34 (by decide) (fun hf => ?_) (fun hf => ?_)
      · refine q_bipush dX5_powers_34 (by decide) ?_
        exact q_iret hf rfl dX5_powers_36
      · refine q_iload dX5_powers_26 4 rfl ?_
        obtain ⟨r28, h28, e28, hf⟩ := q_cl hf
        refine q_cSi (av := [vi x4]) (rest := []) (ctX5_isSheet e28) kX5_isSheet uX5_isSheet lkX5_66 rfl rfl rfl dX5_powers_28 ?_
        refine q_if_ne hf dX5_powers_31 37 (by decide) (fun hf => ?_) (fun hf => ?_)
        · refine q_aloadn dX5_powers_37 0 rfl ?_
          refine M_g5_0 flX5_7 dX5_powers_38 ?_
          refine q_iloadn dX5_powers_41 1 rfl ?_
          refine M_ld rfl hf dX5_powers_42 (fun v42 hf => ?_)
          refine q_if_lt hf dX5_powers_43 55 (by decide) (fun hf => ?_) (fun hf => ?_)
          · refine q_aloadn dX5_powers_55 0 rfl ?_
            refine q_iconst dX5_powers_56 ?_
            obtain ⟨r57, h57, e57, hf⟩ := q_cl hf
            refine q_cVi (av := [vi 1]) (rest := []) wM_0 (ctX5_met e57) kX5_met vX5_met zX5_met lkX5_72 rfl rfl rfl rfl rfl dX5_powers_57 ?_
            exact q_iret hf rfl dX5_powers_60
          · refine q_aloadn dX5_powers_46 0 rfl ?_
            refine M_g5_0 flX5_7 dX5_powers_47 ?_
            refine q_iloadn dX5_powers_50 2 rfl ?_
            refine M_ld rfl hf dX5_powers_51 (fun v51 hf => ?_)
            refine q_if_ge hf dX5_powers_52 61 (by decide) (fun hf => ?_) (fun hf => ?_)
            · refine q_aloadn dX5_powers_61 0 rfl ?_
              refine q_iloadn dX5_powers_62 1 rfl ?_
              obtain ⟨r63, h63, e63, hf⟩ := q_cl hf
              refine q_cVi (av := [vi x1]) (rest := []) wM_0 (ctX5_isForm e63) kX5_isForm vX5_isForm zX5_isForm lkX5_90 rfl rfl rfl rfl rfl dX5_powers_63 ?_
              refine q_if_eq hf dX5_powers_66 79 (by decide) (fun hf => ?_) (fun hf => ?_)
              · refine q_bipush dX5_powers_79 (by decide) ?_
                exact q_iret hf rfl dX5_powers_81
              · refine q_iloadn dX5_powers_69 3 rfl ?_
                refine q_aloadn dX5_powers_70 0 rfl ?_
                refine M_g5_1 flX5_13 dX5_powers_71 ?_
                refine q_iloadn dX5_powers_74 1 rfl ?_
                refine M_ld rfl hf dX5_powers_75 (fun v75 hf => ?_)
                refine q_icmp_le hf dX5_powers_76 82 (by decide) (fun hf => ?_) (fun hf => ?_)
                · refine q_aloadn dX5_powers_82 0 rfl ?_
                  refine M_g5_1 flX5_13 dX5_powers_83 ?_
                  refine q_iloadn dX5_powers_86 2 rfl ?_
                  refine M_ld rfl hf dX5_powers_87 (fun v87 hf => ?_)
                  refine q_iloadn dX5_powers_88 3 rfl ?_
                  refine q_icmp_ge hf dX5_powers_89 98 (by decide) (fun hf => ?_) (fun hf => ?_)
                  · refine q_aloadn dX5_powers_98 0 rfl ?_
                    refine q_iloadn dX5_powers_99 1 rfl ?_
                    obtain ⟨r100, h100, e100, hf⟩ := q_cl hf
                    refine q_cVv (av := [vi x1]) (rest := []) wM_0 (ctX5_takeF e100) kX5_takeF vX5_takeF zX5_takeF lkX5_93 rfl rfl rfl rfl rfl dX5_powers_100 ?_
                    refine q_iconst dX5_powers_103 ?_
                    refine q_istore dX5_powers_104 rfl (loc' := [(5, vi 0), (0, .ref (ad 0)), (1, vi x1), (2, vi x2), (3, vi x3), (4, vi x4)]) rfl ?_
                    refine q_loc (loc' := [(0, .ref (ad 0)), (2, vi x2), (3, vi x3), (4, vi x4), (5, vi 0)]) [1, 3, 4, 5, 0] rfl ?_
                    exact tX5_powers_106 FU x2 x3 x4 0 h100 hf
                  · refine q_aloadn dX5_powers_92 0 rfl ?_
                    refine q_iconst dX5_powers_93 ?_
                    obtain ⟨r94, h94, e94, hf⟩ := q_cl hf
                    refine q_cVi (av := [vi 2]) (rest := []) wM_0 (ctX5_met e94) kX5_met vX5_met zX5_met lkX5_72 rfl rfl rfl rfl rfl dX5_powers_94 ?_
                    exact q_iret hf rfl dX5_powers_97
                · refine q_bipush dX5_powers_79 (by decide) ?_
                  exact q_iret hf rfl dX5_powers_81
            · refine q_aloadn dX5_powers_55 0 rfl ?_
              refine q_iconst dX5_powers_56 ?_
              obtain ⟨r57, h57, e57, hf⟩ := q_cl hf
              refine q_cVi (av := [vi 1]) (rest := []) wM_0 (ctX5_met e57) kX5_met vX5_met zX5_met lkX5_72 rfl rfl rfl rfl rfl dX5_powers_57 ?_
              exact q_iret hf rfl dX5_powers_60
        · refine q_bipush dX5_powers_34 (by decide) ?_
          exact q_iret hf rfl dX5_powers_36
def bX5_build_118 (k109 : Int → Int → Int → Int → Int → Int → HP → Option (Int × HP)) (self : Int → Int → Int → Int → Int → Int → Int → HP → Option (Int × HP)) (x1 : Int) (x2 : Int) (x3 : Int) (x4 : Int) (x5 : Int) (x6 : Int) (x7 : Int) (h : HP) : Option (Int × HP) :=
  if wi x7 ≤ wi x4 then (ld (lnM 3) (h 3) ((12 * x2) + x6) fun v136 => cl (fX5_mod (wi v136) h) fun r138 h138 => ld (lnM 3) (h138 3) ((12 * x1) + x6) fun v152 => cl (fX5_mod (wi v152) h138) fun r154 h154 => cl (fX5_raised r154 x7 h154) fun r159 h159 => cl (fX5_times r138 r159 h159) fun r162 h162 => ld (lnM 7) (h162 7) x7 fun v179 => cl (fX5_over x4 x7 h162) fun r188 h188 => cl (fX5_mod ((wi v179) + ((wi r162) * (wi r188))) h188) fun r194 h194 => sto (lnM 7) h194 7 x7 r194 fun h197 => self x1 x2 x3 x4 x5 x6 (x7 + 1) h197) else (k109 x1 x2 x3 x4 x5 (x6 + 1) h)
def LX5_build_118 (k109 : Int → Int → Int → Int → Int → Int → HP → Option (Int × HP)) : Nat → Int → Int → Int → Int → Int → Int → Int → HP → Option (Int × HP)
  | 0 => fun _ _ _ _ _ _ _ _ => none
  | n + 1 => bX5_build_118 k109 (LX5_build_118 k109 n)
set_option maxRecDepth 20000 in
theorem tX5_build_118 {l : Launch} {D : va_G} {ad : Nat → Nat} {cI : ClassId} {Z : Int × HP} {k109 : Int → Int → Int → Int → Int → Int → HP → Option (Int × HP)} (hk109 : ∀ (x1 : Int) (x2 : Int) (x3 : Int) (x4 : Int) (x5 : Int) (x6 : Int) (h : HP), k109 x1 x2 x3 x4 x5 x6 h = some Z → Rn (sdM l D ad cI) mX5_build (ri Z) 109 [(0, .ref (ad 0)), (1, vi x1), (2, vi x2), (3, vi x3), (4, vi x4), (5, vi x5), (6, vi x6)] [] h) : ∀ (n : Nat) (x1 : Int) (x2 : Int) (x3 : Int) (x4 : Int) (x5 : Int) (x6 : Int) (x7 : Int) (h : HP), LX5_build_118 k109 n x1 x2 x3 x4 x5 x6 x7 h = some Z → Rn (sdM l D ad cI) mX5_build (ri Z) 118 [(0, .ref (ad 0)), (1, vi x1), (2, vi x2), (3, vi x3), (4, vi x4), (5, vi x5), (6, vi x6), (7, vi x7)] [] h := by
  intro n
  induction n with
  | zero => intro x1 x2 x3 x4 x5 x6 x7 h hf; cases hf
  | succ n ih =>
    intro x1 x2 x3 x4 x5 x6 x7 h hf
    replace hf : bX5_build_118 k109 (LX5_build_118 k109 n) x1 x2 x3 x4 x5 x6 x7 h = some Z := hf
    unfold bX5_build_118 at hf
    refine q_iload dX5_build_118 7 rfl ?_
    refine q_iload dX5_build_120 4 rfl ?_
    refine q_icmp_gt hf dX5_build_122 204 (by decide) (fun hf => ?_) (fun hf => ?_)
    · refine q_iinc dX5_build_204 6 rfl rfl (loc' := [(6, vi (x6 + 1)), (0, .ref (ad 0)), (1, vi x1), (2, vi x2), (3, vi x3), (4, vi x4), (5, vi x5), (7, vi x7)]) rfl ?_
      refine q_goto dX5_build_207 109 (by decide) ?_
      refine q_loc (loc' := [(0, .ref (ad 0)), (1, vi x1), (2, vi x2), (3, vi x3), (4, vi x4), (5, vi x5), (6, vi (x6 + 1))]) [1, 2, 3, 4, 5, 6, 0] rfl ?_
      exact hk109 x1 x2 x3 x4 x5 (x6 + 1) h hf
    · refine q_aloadn dX5_build_125 0 rfl ?_
      refine M_g5_2 flX5_16 dX5_build_126 ?_
      refine q_bipush dX5_build_129 (by decide) ?_
      refine q_iloadn dX5_build_131 2 rfl ?_
      refine q_imul dX5_build_132 ?_
      refine q_iload dX5_build_133 6 rfl ?_
      refine q_iadd dX5_build_135 ?_
      refine M_ld rfl hf dX5_build_136 (fun v136 hf => ?_)
      refine q_i2l dX5_build_137 ?_
      obtain ⟨r138, h138, e138, hf⟩ := q_cl hf
      refine q_cSi (av := [vl (wi v136)]) (rest := []) (ctX5_mod e138) kX5_mod uX5_mod lkX5_48 rfl rfl rfl dX5_build_138 ?_
      refine q_aloadn dX5_build_141 0 rfl ?_
      refine M_g5_2 flX5_16 dX5_build_142 ?_
      refine q_bipush dX5_build_145 (by decide) ?_
      refine q_iloadn dX5_build_147 1 rfl ?_
      refine q_imul dX5_build_148 ?_
      refine q_iload dX5_build_149 6 rfl ?_
      refine q_iadd dX5_build_151 ?_
      refine M_ld rfl hf dX5_build_152 (fun v152 hf => ?_)
      refine q_i2l dX5_build_153 ?_
      obtain ⟨r154, h154, e154, hf⟩ := q_cl hf
      refine q_cSi (av := [vl (wi v152)]) (rest := [vi r138]) (ctX5_mod e154) kX5_mod uX5_mod lkX5_48 rfl rfl rfl dX5_build_154 ?_
      refine q_iload dX5_build_157 7 rfl ?_
      obtain ⟨r159, h159, e159, hf⟩ := q_cl hf
      refine q_cSi (av := [vi r154, vi x7]) (rest := [vi r138]) (ctX5_raised e159) kX5_raised uX5_raised lkX5_155 rfl rfl rfl dX5_build_159 ?_
      obtain ⟨r162, h162, e162, hf⟩ := q_cl hf
      refine q_cSi (av := [vi r138, vi r159]) (rest := []) (ctX5_times e162) kX5_times uX5_times lkX5_52 rfl rfl rfl dX5_build_162 ?_
      refine q_istore dX5_build_165 rfl (loc' := [(8, vi r162), (0, .ref (ad 0)), (1, vi x1), (2, vi x2), (3, vi x3), (4, vi x4), (5, vi x5), (6, vi x6), (7, vi x7)]) rfl ?_
      refine q_aloadn dX5_build_167 1 rfl ?_
      refine M_g5_9 flX5_28 dX5_build_168 ?_
      refine q_iload dX5_build_171 8 rfl ?_
      refine q_aloadn dX5_build_173 1 rfl ?_
      refine M_g5_9 flX5_28 dX5_build_174 ?_
      refine q_iload dX5_build_177 8 rfl ?_
      refine M_ld rfl hf dX5_build_179 (fun v179 hf => ?_)
      refine q_i2l dX5_build_180 ?_
      refine q_iload dX5_build_181 0 rfl ?_
      refine q_i2l dX5_build_183 ?_
      refine q_iload dX5_build_184 5 rfl ?_
      refine q_iload dX5_build_186 8 rfl ?_
      obtain ⟨r188, h188, e188, hf⟩ := q_cl hf
      refine q_cSi (av := [vi x4, vi x7]) (rest := [vl (wi r162), vl (wi v179), vi x7, .ref (ad 7)]) (ctX5_over e188) kX5_over uX5_over lkX5_123 rfl rfl rfl dX5_build_188 ?_
      refine q_i2l dX5_build_191 ?_
      refine q_lmul dX5_build_192 ?_
      refine q_ladd dX5_build_193 ?_
      obtain ⟨r194, h194, e194, hf⟩ := q_cl hf
      refine q_cSi (av := [vl ((wi v179) + ((wi r162) * (wi r188)))]) (rest := [vi x7, .ref (ad 7)]) (ctX5_mod e194) kX5_mod uX5_mod lkX5_48 rfl rfl rfl dX5_build_194 ?_
      refine M_st rfl hf dX5_build_197 (fun h197 hf => ?_)
      refine q_iinc dX5_build_198 8 rfl rfl (loc' := [(7, vi (x7 + 1)), (8, vi r162), (0, .ref (ad 0)), (1, vi x1), (2, vi x2), (3, vi x3), (4, vi x4), (5, vi x5), (6, vi x6)]) rfl ?_
      refine q_goto dX5_build_201 118 (by decide) ?_
      refine q_loc (loc' := [(0, .ref (ad 0)), (1, vi x1), (2, vi x2), (3, vi x3), (4, vi x4), (5, vi x5), (6, vi x6), (7, vi (x7 + 1))]) [2, 3, 4, 5, 6, 7, 8, 0] rfl ?_
      exact ih x1 x2 x3 x4 x5 x6 (x7 + 1) h197 hf
def bX5_build_109 (self : Int → Int → Int → Int → Int → Int → HP → Option (Int × HP)) (x1 : Int) (x2 : Int) (x3 : Int) (x4 : Int) (x5 : Int) (x6 : Int) (h : HP) : Option (Int × HP) :=
  if wi x6 < wi x3 then (LX5_build_118 self FU x1 x2 x3 x4 x5 x6 0 h) else (cl (fX5_lay x5 h) fun r213 h213 => some (r213, h213))
def LX5_build_109 : Nat → Int → Int → Int → Int → Int → Int → HP → Option (Int × HP)
  | 0 => fun _ _ _ _ _ _ _ => none
  | n + 1 => bX5_build_109 (LX5_build_109 n)
set_option maxRecDepth 20000 in
theorem tX5_build_109 {l : Launch} {D : va_G} {ad : Nat → Nat} {cI : ClassId} {Z : Int × HP} : ∀ (n : Nat) (x1 : Int) (x2 : Int) (x3 : Int) (x4 : Int) (x5 : Int) (x6 : Int) (h : HP), LX5_build_109 n x1 x2 x3 x4 x5 x6 h = some Z → Rn (sdM l D ad cI) mX5_build (ri Z) 109 [(0, .ref (ad 0)), (1, vi x1), (2, vi x2), (3, vi x3), (4, vi x4), (5, vi x5), (6, vi x6)] [] h := by
  intro n
  induction n with
  | zero => intro x1 x2 x3 x4 x5 x6 h hf; cases hf
  | succ n ih =>
    intro x1 x2 x3 x4 x5 x6 h hf
    replace hf : bX5_build_109 (LX5_build_109 n) x1 x2 x3 x4 x5 x6 h = some Z := hf
    unfold bX5_build_109 at hf
    refine q_iload dX5_build_109 6 rfl ?_
    refine q_iloadn dX5_build_111 3 rfl ?_
    refine q_icmp_ge hf dX5_build_112 210 (by decide) (fun hf => ?_) (fun hf => ?_)
    · refine q_aloadn dX5_build_210 0 rfl ?_
      refine q_iload dX5_build_211 5 rfl ?_
      obtain ⟨r213, h213, e213, hf⟩ := q_cl hf
      refine q_cVi (av := [vi x5]) (rest := []) wM_0 (ctX5_lay e213) kX5_lay vX5_lay zX5_lay lkX5_116 rfl rfl rfl rfl rfl dX5_build_213 ?_
      exact q_iret hf rfl dX5_build_216
    · refine q_iconst dX5_build_115 ?_
      refine q_istore dX5_build_116 rfl (loc' := [(7, vi 0), (0, .ref (ad 0)), (1, vi x1), (2, vi x2), (3, vi x3), (4, vi x4), (5, vi x5), (6, vi x6)]) rfl ?_
      refine q_loc (loc' := [(0, .ref (ad 0)), (1, vi x1), (2, vi x2), (3, vi x3), (4, vi x4), (5, vi x5), (6, vi x6), (7, vi 0)]) [1, 2, 3, 4, 5, 6, 7, 0] rfl ?_
      exact tX5_build_118 ih FU x1 x2 x3 x4 x5 x6 0 h hf
def fX5_build (x1 : Int) (x2 : Int) (x3 : Int) (x4 : Int) (x5 : Int) (h : HP) : Option (Int × HP) :=
  cl (fX5_isSheet x1 h) fun r1 h1 => if wi r1 = 0 then (some ((-2), h1)) else (cl (fX5_isSheet x2 h1) fun r8 h8 => if wi r8 = 0 then (some ((-2), h8)) else (cl (fX5_in (wi x3) 0 12 h8) fun r20 h20 => if wi r20 = 0 then (some ((-2), h20)) else (cl (fX5_in (wi x4) 0 8 h20) fun r33 h33 => if wi r33 = 0 then (some ((-2), h33)) else (cl (fX5_isSheet x5 h33) fun r41 h41 => if wi r41 = 0 then (some ((-2), h41)) else (ld (lnM 1) (h41 1) x1 fun v55 => if 0 ≤ wi v55 then (ld (lnM 1) (h41 1) x2 fun v64 => if wi v64 < 0 then (cl (fX5_met 1 h41) fun r70 h70 => some (r70, h70)) else (ld (lnM 2) (h41 2) x1 fun v79 => if wi x3 ≤ wi v79 then (ld (lnM 2) (h41 2) x2 fun v89 => if wi v89 < wi x3 then (cl (fX5_met 2 h41) fun r96 h96 => some (r96, h96)) else (cl (fX5_noughtH x4 h41) fun _ h103 => LX5_build_109 FU x1 x2 x3 x4 x5 0 h103)) else (cl (fX5_met 2 h41) fun r96 h96 => some (r96, h96)))) else (cl (fX5_met 1 h41) fun r70 h70 => some (r70, h70)))))))
set_option maxRecDepth 20000 in
theorem ctX5_build {l : Launch} {D : va_G} {ad : Nat → Nat} {cI : ClassId} {x1 : Int} {x2 : Int} {x3 : Int} {x4 : Int} {x5 : Int} {h : HP} {Z : Int × HP} (hf : fX5_build x1 x2 x3 x4 x5 h = some Z) : Ct (sdM l D ad cI) mX5_build [.ref (ad 0), vi x1, vi x2, vi x3, vi x4, vi x5] h (ri Z) := by
  refine Ct.ofF nX5_build rfl (loc := [(0, .ref (ad 0)), (1, vi x1), (2, vi x2), (3, vi x3), (4, vi x4), (5, vi x5)]) rfl ?_
  unfold fX5_build at hf
  refine q_iloadn dX5_build_0 1 rfl ?_
  obtain ⟨r1, h1, e1, hf⟩ := q_cl hf
  refine q_cSi (av := [vi x1]) (rest := []) (ctX5_isSheet e1) kX5_isSheet uX5_isSheet lkX5_66 rfl rfl rfl dX5_build_1 ?_
  refine q_if_eq hf dX5_build_4 47 (by decide) (fun hf => ?_) (fun hf => ?_)
  · refine q_bipush dX5_build_47 (by decide) ?_
    exact q_iret hf rfl dX5_build_49
  · refine q_iloadn dX5_build_7 2 rfl ?_
    obtain ⟨r8, h8, e8, hf⟩ := q_cl hf
    refine q_cSi (av := [vi x2]) (rest := []) (ctX5_isSheet e8) kX5_isSheet uX5_isSheet lkX5_66 rfl rfl rfl dX5_build_8 ?_
    refine q_if_eq hf dX5_build_11 47 (by decide) (fun hf => ?_) (fun hf => ?_)
    · refine q_bipush dX5_build_47 (by decide) ?_
      exact q_iret hf rfl dX5_build_49
    · refine q_iloadn dX5_build_14 3 rfl ?_
      refine q_i2l dX5_build_15 ?_
      refine q_lconst (n := 0) dX5_build_16 (by decide) ?_
      refine q_ldc2 (n := 12) dX5_build_17 kcX5_158 ?_
      obtain ⟨r20, h20, e20, hf⟩ := q_cl hf
      refine q_cSi (av := [vl (wi x3), vl 0, vl 12]) (rest := []) (ctX5_in e20) kX5_in uX5_in lkX5_62 rfl rfl rfl dX5_build_20 ?_
      refine q_if_eq hf dX5_build_23 47 (by decide) (fun hf => ?_) (fun hf => ?_)
      · refine q_bipush dX5_build_47 (by decide) ?_
        exact q_iret hf rfl dX5_build_49
      · refine q_iload dX5_build_26 4 rfl ?_
        refine q_i2l dX5_build_28 ?_
        refine q_lconst (n := 0) dX5_build_29 (by decide) ?_
        refine q_ldc2 (n := 8) dX5_build_30 kcX5_100 ?_
        obtain ⟨r33, h33, e33, hf⟩ := q_cl hf
        refine q_cSi (av := [vl (wi x4), vl 0, vl 8]) (rest := []) (ctX5_in e33) kX5_in uX5_in lkX5_62 rfl rfl rfl dX5_build_33 ?_
        refine q_if_eq hf dX5_build_36 47 (by decide) (fun hf => ?_) (fun hf => ?_)
        · refine q_bipush dX5_build_47 (by decide) ?_
          exact q_iret hf rfl dX5_build_49
        · refine q_iload dX5_build_39 5 rfl ?_
          obtain ⟨r41, h41, e41, hf⟩ := q_cl hf
          refine q_cSi (av := [vi x5]) (rest := []) (ctX5_isSheet e41) kX5_isSheet uX5_isSheet lkX5_66 rfl rfl rfl dX5_build_41 ?_
          refine q_if_ne hf dX5_build_44 50 (by decide) (fun hf => ?_) (fun hf => ?_)
          · refine q_aloadn dX5_build_50 0 rfl ?_
            refine M_g5_0 flX5_7 dX5_build_51 ?_
            refine q_iloadn dX5_build_54 1 rfl ?_
            refine M_ld rfl hf dX5_build_55 (fun v55 hf => ?_)
            refine q_if_lt hf dX5_build_56 68 (by decide) (fun hf => ?_) (fun hf => ?_)
            · refine q_aloadn dX5_build_68 0 rfl ?_
              refine q_iconst dX5_build_69 ?_
              obtain ⟨r70, h70, e70, hf⟩ := q_cl hf
              refine q_cVi (av := [vi 1]) (rest := []) wM_0 (ctX5_met e70) kX5_met vX5_met zX5_met lkX5_72 rfl rfl rfl rfl rfl dX5_build_70 ?_
              exact q_iret hf rfl dX5_build_73
            · refine q_aloadn dX5_build_59 0 rfl ?_
              refine M_g5_0 flX5_7 dX5_build_60 ?_
              refine q_iloadn dX5_build_63 2 rfl ?_
              refine M_ld rfl hf dX5_build_64 (fun v64 hf => ?_)
              refine q_if_ge hf dX5_build_65 74 (by decide) (fun hf => ?_) (fun hf => ?_)
              · refine q_aloadn dX5_build_74 0 rfl ?_
                refine M_g5_1 flX5_13 dX5_build_75 ?_
                refine q_iloadn dX5_build_78 1 rfl ?_
                refine M_ld rfl hf dX5_build_79 (fun v79 hf => ?_)
                refine q_iloadn dX5_build_80 3 rfl ?_
                refine q_icmp_lt hf dX5_build_81 94 (by decide) (fun hf => ?_) (fun hf => ?_)
                · refine q_aloadn dX5_build_94 0 rfl ?_
                  refine q_iconst dX5_build_95 ?_
                  obtain ⟨r96, h96, e96, hf⟩ := q_cl hf
                  refine q_cVi (av := [vi 2]) (rest := []) wM_0 (ctX5_met e96) kX5_met vX5_met zX5_met lkX5_72 rfl rfl rfl rfl rfl dX5_build_96 ?_
                  exact q_iret hf rfl dX5_build_99
                · refine q_aloadn dX5_build_84 0 rfl ?_
                  refine M_g5_1 flX5_13 dX5_build_85 ?_
                  refine q_iloadn dX5_build_88 2 rfl ?_
                  refine M_ld rfl hf dX5_build_89 (fun v89 hf => ?_)
                  refine q_iloadn dX5_build_90 3 rfl ?_
                  refine q_icmp_ge hf dX5_build_91 100 (by decide) (fun hf => ?_) (fun hf => ?_)
                  · refine q_aloadn dX5_build_100 0 rfl ?_
                    refine q_iload dX5_build_101 4 rfl ?_
                    obtain ⟨r103, h103, e103, hf⟩ := q_cl hf
                    refine q_cVv (av := [vi x4]) (rest := []) wM_0 (ctX5_noughtH e103) kX5_noughtH vX5_noughtH zX5_noughtH lkX5_113 rfl rfl rfl rfl rfl dX5_build_103 ?_
                    refine q_iconst dX5_build_106 ?_
                    refine q_istore dX5_build_107 rfl (loc' := [(6, vi 0), (0, .ref (ad 0)), (1, vi x1), (2, vi x2), (3, vi x3), (4, vi x4), (5, vi x5)]) rfl ?_
                    refine q_loc (loc' := [(0, .ref (ad 0)), (1, vi x1), (2, vi x2), (3, vi x3), (4, vi x4), (5, vi x5), (6, vi 0)]) [1, 2, 3, 4, 5, 6, 0] rfl ?_
                    exact tX5_build_109 FU x1 x2 x3 x4 x5 0 h103 hf
                  · refine q_aloadn dX5_build_94 0 rfl ?_
                    refine q_iconst dX5_build_95 ?_
                    obtain ⟨r96, h96, e96, hf⟩ := q_cl hf
                    refine q_cVi (av := [vi 2]) (rest := []) wM_0 (ctX5_met e96) kX5_met vX5_met zX5_met lkX5_72 rfl rfl rfl rfl rfl dX5_build_96 ?_
                    exact q_iret hf rfl dX5_build_99
              · refine q_aloadn dX5_build_68 0 rfl ?_
                refine q_iconst dX5_build_69 ?_
                obtain ⟨r70, h70, e70, hf⟩ := q_cl hf
                refine q_cVi (av := [vi 1]) (rest := []) wM_0 (ctX5_met e70) kX5_met vX5_met zX5_met lkX5_72 rfl rfl rfl rfl rfl dX5_build_70 ?_
                exact q_iret hf rfl dX5_build_73
          · refine q_bipush dX5_build_47 (by decide) ?_
            exact q_iret hf rfl dX5_build_49
def bX5_rank_49 (k40 : Int → Int → HP → Option (Int × HP)) (self : Int → Int → Int → HP → Option (Int × HP)) (x2 : Int) (x4 : Int) (x5 : Int) (h : HP) : Option (Int × HP) :=
  if wi x5 ≤ wi ((h 0 6) - x2) then (ld (lnM 5) (h 5) (x4 + x5) fun v81 => cl (fX5_over (h 0 6) (x4 + x5) h) fun r91 h91 => cl (fX5_turned r91 h91) fun r94 h94 => cl (fX5_times v81 r94 h94) fun r97 h97 => sto (lnM 9) h97 9 ((18 * x4) + x5) r97 fun h100 => self x2 x4 (x5 + 1) h100) else (k40 x2 (x4 + 1) h)
def LX5_rank_49 (k40 : Int → Int → HP → Option (Int × HP)) : Nat → Int → Int → Int → HP → Option (Int × HP)
  | 0 => fun _ _ _ _ => none
  | n + 1 => bX5_rank_49 k40 (LX5_rank_49 k40 n)
set_option maxRecDepth 20000 in
theorem tX5_rank_49 {l : Launch} {D : va_G} {ad : Nat → Nat} {cI : ClassId} {Z : Int × HP} {k40 : Int → Int → HP → Option (Int × HP)} (hk40 : ∀ (x2 : Int) (x4 : Int) (h : HP), k40 x2 x4 h = some Z → Rn (sdM l D ad cI) mX5_rank (ri Z) 40 [(0, .ref (ad 0)), (2, vi x2), (4, vi x4)] [] h) : ∀ (n : Nat) (x2 : Int) (x4 : Int) (x5 : Int) (h : HP), LX5_rank_49 k40 n x2 x4 x5 h = some Z → Rn (sdM l D ad cI) mX5_rank (ri Z) 49 [(0, .ref (ad 0)), (2, vi x2), (4, vi x4), (5, vi x5)] [] h := by
  intro n
  induction n with
  | zero => intro x2 x4 x5 h hf; cases hf
  | succ n ih =>
    intro x2 x4 x5 h hf
    replace hf : bX5_rank_49 k40 (LX5_rank_49 k40 n) x2 x4 x5 h = some Z := hf
    unfold bX5_rank_49 at hf
    refine q_iload dX5_rank_49 3 rfl ?_
    refine q_aloadn dX5_rank_51 0 rfl ?_
    refine M_g5_6 flX5_81 dX5_rank_52 ?_
    refine q_iloadn dX5_rank_55 1 rfl ?_
    refine q_isub dX5_rank_56 ?_
    refine q_icmp_gt hf dX5_rank_57 107 (by decide) (fun hf => ?_) (fun hf => ?_)
    · refine q_iinc dX5_rank_107 2 rfl rfl (loc' := [(4, vi (x4 + 1)), (0, .ref (ad 0)), (2, vi x2), (5, vi x5)]) rfl ?_
      refine q_goto dX5_rank_110 40 (by decide) ?_
      refine q_loc (loc' := [(0, .ref (ad 0)), (2, vi x2), (4, vi (x4 + 1))]) [1, 2, 0] rfl ?_
      exact hk40 x2 (x4 + 1) h hf
    · refine q_aloadn dX5_rank_60 0 rfl ?_
      refine M_g5_12 flX5_34 dX5_rank_61 ?_
      refine q_bipush dX5_rank_64 (by decide) ?_
      refine q_iload dX5_rank_66 2 rfl ?_
      refine q_imul dX5_rank_68 ?_
      refine q_iload dX5_rank_69 3 rfl ?_
      refine q_iadd dX5_rank_71 ?_
      refine q_aloadn dX5_rank_72 0 rfl ?_
      refine M_g5_5 flX5_22 dX5_rank_73 ?_
      refine q_iload dX5_rank_76 2 rfl ?_
      refine q_iload dX5_rank_78 3 rfl ?_
      refine q_iadd dX5_rank_80 ?_
      refine M_ld rfl hf dX5_rank_81 (fun v81 hf => ?_)
      refine q_aloadn dX5_rank_82 0 rfl ?_
      refine M_g5_6 flX5_81 dX5_rank_83 ?_
      refine q_iload dX5_rank_86 2 rfl ?_
      refine q_iload dX5_rank_88 3 rfl ?_
      refine q_iadd dX5_rank_90 ?_
      obtain ⟨r91, h91, e91, hf⟩ := q_cl hf
      refine q_cSi (av := [vi (h 0 6), vi (x4 + x5)]) (rest := [vi v81, vi ((18 * x4) + x5), .ref (ad 9)]) (ctX5_over e91) kX5_over uX5_over lkX5_123 rfl rfl rfl dX5_rank_91 ?_
      obtain ⟨r94, h94, e94, hf⟩ := q_cl hf
      refine q_cSi (av := [vi r91]) (rest := [vi v81, vi ((18 * x4) + x5), .ref (ad 9)]) (ctX5_turned e94) kX5_turned uX5_turned lkX5_133 rfl rfl rfl dX5_rank_94 ?_
      obtain ⟨r97, h97, e97, hf⟩ := q_cl hf
      refine q_cSi (av := [vi v81, vi r94]) (rest := [vi ((18 * x4) + x5), .ref (ad 9)]) (ctX5_times e97) kX5_times uX5_times lkX5_52 rfl rfl rfl dX5_rank_97 ?_
      refine M_st rfl hf dX5_rank_100 (fun h100 hf => ?_)
      refine q_iinc dX5_rank_101 3 rfl rfl (loc' := [(5, vi (x5 + 1)), (0, .ref (ad 0)), (2, vi x2), (4, vi x4)]) rfl ?_
      refine q_goto dX5_rank_104 49 (by decide) ?_
      refine q_loc (loc' := [(0, .ref (ad 0)), (2, vi x2), (4, vi x4), (5, vi (x5 + 1))]) [1, 2, 3, 0] rfl ?_
      exact ih x2 x4 (x5 + 1) h100 hf
def bX5_rank_40 (self : Int → Int → HP → Option (Int × HP)) (x2 : Int) (x4 : Int) (h : HP) : Option (Int × HP) :=
  if wi x4 ≤ wi x2 then (LX5_rank_49 self FU x2 x4 0 h) else (cl (fX5_eliminate (x2 + 1) (((h 0 6) - x2) + 1) h) fun r125 h125 => some (r125, h125))
def LX5_rank_40 : Nat → Int → Int → HP → Option (Int × HP)
  | 0 => fun _ _ _ => none
  | n + 1 => bX5_rank_40 (LX5_rank_40 n)
set_option maxRecDepth 20000 in
theorem tX5_rank_40 {l : Launch} {D : va_G} {ad : Nat → Nat} {cI : ClassId} {Z : Int × HP} : ∀ (n : Nat) (x2 : Int) (x4 : Int) (h : HP), LX5_rank_40 n x2 x4 h = some Z → Rn (sdM l D ad cI) mX5_rank (ri Z) 40 [(0, .ref (ad 0)), (2, vi x2), (4, vi x4)] [] h := by
  intro n
  induction n with
  | zero => intro x2 x4 h hf; cases hf
  | succ n ih =>
    intro x2 x4 h hf
    replace hf : bX5_rank_40 (LX5_rank_40 n) x2 x4 h = some Z := hf
    unfold bX5_rank_40 at hf
    refine q_iload dX5_rank_40 2 rfl ?_
    refine q_iloadn dX5_rank_42 1 rfl ?_
    refine q_icmp_gt hf dX5_rank_43 113 (by decide) (fun hf => ?_) (fun hf => ?_)
    · refine q_aloadn dX5_rank_113 0 rfl ?_
      refine q_iloadn dX5_rank_114 1 rfl ?_
      refine q_iconst dX5_rank_115 ?_
      refine q_iadd dX5_rank_116 ?_
      refine q_aloadn dX5_rank_117 0 rfl ?_
      refine M_g5_6 flX5_81 dX5_rank_118 ?_
      refine q_iloadn dX5_rank_121 1 rfl ?_
      refine q_isub dX5_rank_122 ?_
      refine q_iconst dX5_rank_123 ?_
      refine q_iadd dX5_rank_124 ?_
      obtain ⟨r125, h125, e125, hf⟩ := q_cl hf
      refine q_cVi (av := [vi (x2 + 1), vi (((h 0 6) - x2) + 1)]) (rest := []) wM_0 (ctX5_eliminate e125) kX5_eliminate vX5_eliminate zX5_eliminate lkX5_152 rfl rfl rfl rfl rfl dX5_rank_125 ?_
      exact q_iret hf rfl dX5_rank_128
    · refine q_iconst dX5_rank_46 ?_
      refine q_istore dX5_rank_47 rfl (loc' := [(5, vi 0), (0, .ref (ad 0)), (2, vi x2), (4, vi x4)]) rfl ?_
      refine q_loc (loc' := [(0, .ref (ad 0)), (2, vi x2), (4, vi x4), (5, vi 0)]) [1, 2, 3, 0] rfl ?_
      exact tX5_rank_49 ih FU x2 x4 0 h hf
def fX5_rank (x1 : Int) (x2 : Int) (h : HP) : Option (Int × HP) :=
  cl (fX5_isSheet x1 h) fun r1 h1 => if wi r1 = 0 then (some ((-2), h1)) else (if wi x2 < 0 then (some ((-2), h1)) else (cl (fX5_lacksOne x1 h1) fun r16 h16 => if wi r16 = 0 then (if wi (h16 0 6) < wi x2 then (some ((-3), h16)) else (LX5_rank_40 FU x2 0 h16)) else (some (r16, h16))))
set_option maxRecDepth 20000 in
theorem ctX5_rank {l : Launch} {D : va_G} {ad : Nat → Nat} {cI : ClassId} {x1 : Int} {x2 : Int} {h : HP} {Z : Int × HP} (hf : fX5_rank x1 x2 h = some Z) : Ct (sdM l D ad cI) mX5_rank [.ref (ad 0), vi x1, vi x2] h (ri Z) := by
  refine Ct.ofF nX5_rank rfl (loc := [(0, .ref (ad 0)), (1, vi x1), (2, vi x2)]) rfl ?_
  unfold fX5_rank at hf
  refine q_iloadn dX5_rank_0 1 rfl ?_
  obtain ⟨r1, h1, e1, hf⟩ := q_cl hf
  refine q_cSi (av := [vi x1]) (rest := []) (ctX5_isSheet e1) kX5_isSheet uX5_isSheet lkX5_66 rfl rfl rfl dX5_rank_1 ?_
  refine q_if_eq hf dX5_rank_4 11 (by decide) (fun hf => ?_) (fun hf => ?_)
  · refine q_bipush dX5_rank_11 (by decide) ?_
    exact q_iret hf rfl dX5_rank_13
  · refine q_iloadn dX5_rank_7 2 rfl ?_
    refine q_if_ge hf dX5_rank_8 14 (by decide) (fun hf => ?_) (fun hf => ?_)
    · refine q_aloadn dX5_rank_14 0 rfl ?_
      refine q_iloadn dX5_rank_15 1 rfl ?_
      obtain ⟨r16, h16, e16, hf⟩ := q_cl hf
      refine q_cVi (av := [vi x1]) (rest := []) wM_0 (ctX5_lacksOne e16) kX5_lacksOne vX5_lacksOne zX5_lacksOne lkX5_102 rfl rfl rfl rfl rfl dX5_rank_16 ?_
      refine q_istoren dX5_rank_19 rfl (loc' := [(3, vi r16), (0, .ref (ad 0)), (1, vi x1), (2, vi x2)]) rfl ?_
      refine q_iloadn dX5_rank_20 0 rfl ?_
      refine q_if_eq hf dX5_rank_21 26 (by decide) (fun hf => ?_) (fun hf => ?_)
      · refine q_iloadn dX5_rank_26 3 rfl ?_
        refine q_aloadn dX5_rank_27 1 rfl ?_
        refine M_g5_6 flX5_81 dX5_rank_28 ?_
        refine q_icmp_le hf dX5_rank_31 37 (by decide) (fun hf => ?_) (fun hf => ?_)
        · refine q_iconst dX5_rank_37 ?_
          refine q_istore dX5_rank_38 rfl (loc' := [(4, vi 0), (3, vi r16), (0, .ref (ad 0)), (1, vi x1), (2, vi x2)]) rfl ?_
          refine q_loc (loc' := [(0, .ref (ad 0)), (2, vi x2), (4, vi 0)]) [2, 4, 0] rfl ?_
          exact tX5_rank_40 FU x2 0 h16 hf
        · refine q_bipush dX5_rank_34 (by decide) ?_
          exact q_iret hf rfl dX5_rank_36
      · refine q_iloadn dX5_rank_24 0 rfl ?_
        exact q_iret hf rfl dX5_rank_25
    · refine q_bipush dX5_rank_11 (by decide) ?_
      exact q_iret hf rfl dX5_rank_13
def bX5_leadsBy_44 (self : Int → Int → HP → Option (Int × HP)) (x5 : Int) (x6 : Int) (h : HP) : Option (Int × HP) :=
  if wi x6 ≤ wi (h 0 6) then (if wi x5 = 0 then (self 0 (x6 + 1) h) else (ld (lnM 7) (h 7) x6 fun v64 => ld (lnM 6) (h 6) x6 fun v71 => if wi v64 = wi v71 then (self 1 (x6 + 1) h) else (self 0 (x6 + 1) h))) else (gd (x5 = 0 ∨ x5 = 1) (some (x5, h)))
def LX5_leadsBy_44 : Nat → Int → Int → HP → Option (Int × HP)
  | 0 => fun _ _ _ => none
  | n + 1 => bX5_leadsBy_44 (LX5_leadsBy_44 n)
set_option maxRecDepth 20000 in
theorem tX5_leadsBy_44 {l : Launch} {D : va_G} {ad : Nat → Nat} {cI : ClassId} {Z : Int × HP} : ∀ (n : Nat) (x5 : Int) (x6 : Int) (h : HP), LX5_leadsBy_44 n x5 x6 h = some Z → Rn (sdM l D ad cI) mX5_leadsBy (ri Z) 44 [(0, .ref (ad 0)), (5, vi x5), (6, vi x6)] [] h := by
  intro n
  induction n with
  | zero => intro x5 x6 h hf; cases hf
  | succ n ih =>
    intro x5 x6 h hf
    replace hf : bX5_leadsBy_44 (LX5_leadsBy_44 n) x5 x6 h = some Z := hf
    unfold bX5_leadsBy_44 at hf
    refine q_iload dX5_leadsBy_44 2 rfl ?_
    refine q_aloadn dX5_leadsBy_46 0 rfl ?_
    refine M_g5_6 flX5_81 dX5_leadsBy_47 ?_
    refine q_icmp_gt hf dX5_leadsBy_50 88 (by decide) (fun hf => ?_) (fun hf => ?_)
    · refine q_iload dX5_leadsBy_88 1 rfl ?_
      obtain ⟨g90, hf⟩ := q_gd hf
      exact q_zret hf rfl (by rcases g90 with q | q <;> rw [q] <;> rfl) dX5_leadsBy_90
    · refine q_iload dX5_leadsBy_53 1 rfl ?_
      refine q_if_eq hf dX5_leadsBy_55 79 (by decide) (fun hf => ?_) (fun hf => ?_)
      · refine q_iconst dX5_leadsBy_79 ?_
        refine q_istore dX5_leadsBy_80 rfl (loc' := [(5, vi 0), (0, .ref (ad 0)), (6, vi x6)]) rfl ?_
        refine q_iinc dX5_leadsBy_82 2 rfl rfl (loc' := [(6, vi (x6 + 1)), (5, vi 0), (0, .ref (ad 0))]) rfl ?_
        refine q_goto dX5_leadsBy_85 44 (by decide) ?_
        refine q_loc (loc' := [(0, .ref (ad 0)), (5, vi 0), (6, vi (x6 + 1))]) [2, 1, 0] rfl ?_
        exact ih 0 (x6 + 1) h hf
      · refine q_aloadn dX5_leadsBy_58 0 rfl ?_
        refine M_g5_9 flX5_28 dX5_leadsBy_59 ?_
        refine q_iload dX5_leadsBy_62 2 rfl ?_
        refine M_ld rfl hf dX5_leadsBy_64 (fun v64 hf => ?_)
        refine q_aloadn dX5_leadsBy_65 0 rfl ?_
        refine M_g5_7 flX5_25 dX5_leadsBy_66 ?_
        refine q_iload dX5_leadsBy_69 2 rfl ?_
        refine M_ld rfl hf dX5_leadsBy_71 (fun v71 hf => ?_)
        refine q_icmp_ne hf dX5_leadsBy_72 79 (by decide) (fun hf => ?_) (fun hf => ?_)
        · refine q_iconst dX5_leadsBy_79 ?_
          refine q_istore dX5_leadsBy_80 rfl (loc' := [(5, vi 0), (0, .ref (ad 0)), (6, vi x6)]) rfl ?_
          refine q_iinc dX5_leadsBy_82 2 rfl rfl (loc' := [(6, vi (x6 + 1)), (5, vi 0), (0, .ref (ad 0))]) rfl ?_
          refine q_goto dX5_leadsBy_85 44 (by decide) ?_
          refine q_loc (loc' := [(0, .ref (ad 0)), (5, vi 0), (6, vi (x6 + 1))]) [2, 1, 0] rfl ?_
          exact ih 0 (x6 + 1) h hf
        · refine q_iconst dX5_leadsBy_75 ?_
          refine q_goto dX5_leadsBy_76 80 (by decide) ?_
          refine q_istore dX5_leadsBy_80 rfl (loc' := [(5, vi 1), (0, .ref (ad 0)), (6, vi x6)]) rfl ?_
          refine q_iinc dX5_leadsBy_82 2 rfl rfl (loc' := [(6, vi (x6 + 1)), (5, vi 1), (0, .ref (ad 0))]) rfl ?_
          refine q_goto dX5_leadsBy_85 44 (by decide) ?_
          refine q_loc (loc' := [(0, .ref (ad 0)), (5, vi 1), (6, vi (x6 + 1))]) [2, 1, 0] rfl ?_
          exact ih 1 (x6 + 1) h hf
def fX5_leadsBy (x1 : Int) (x2 : Int) (x3 : Int) (x4 : Int) (h : HP) : Option (Int × HP) :=
  if wi ((x1 * x4) - (x2 * x3)) = 0 then (some (0, h)) else (cl (fX5_mod (wi x1) h) fun r16 h16 => cl (fX5_mod (wi x2) h16) fun r21 h21 => cl (fX5_mod (wi x3) h21) fun r26 h26 => cl (fX5_mod (wi x4) h26) fun r32 h32 => cl (fX5_mixes r16 r21 r26 r32 h32) fun _ h35 => LX5_leadsBy_44 FU 1 0 h35)
set_option maxRecDepth 20000 in
theorem ctX5_leadsBy {l : Launch} {D : va_G} {ad : Nat → Nat} {cI : ClassId} {x1 : Int} {x2 : Int} {x3 : Int} {x4 : Int} {h : HP} {Z : Int × HP} (hf : fX5_leadsBy x1 x2 x3 x4 h = some Z) : Ct (sdM l D ad cI) mX5_leadsBy [.ref (ad 0), vi x1, vi x2, vi x3, vi x4] h (ri Z) := by
  refine Ct.ofF nX5_leadsBy rfl (loc := [(0, .ref (ad 0)), (1, vi x1), (2, vi x2), (3, vi x3), (4, vi x4)]) rfl ?_
  unfold fX5_leadsBy at hf
  refine q_iloadn dX5_leadsBy_0 1 rfl ?_
  refine q_iload dX5_leadsBy_1 4 rfl ?_
  refine q_imul dX5_leadsBy_3 ?_
  refine q_iloadn dX5_leadsBy_4 2 rfl ?_
  refine q_iloadn dX5_leadsBy_5 3 rfl ?_
  refine q_imul dX5_leadsBy_6 ?_
  refine q_isub dX5_leadsBy_7 ?_
  refine q_if_ne hf dX5_leadsBy_8 13 (by decide) (fun hf => ?_) (fun hf => ?_)
  · refine q_aloadn dX5_leadsBy_13 0 rfl ?_
    refine q_iloadn dX5_leadsBy_14 1 rfl ?_
    refine q_i2l dX5_leadsBy_15 ?_
    obtain ⟨r16, h16, e16, hf⟩ := q_cl hf
    refine q_cSi (av := [vl (wi x1)]) (rest := [.ref (ad 0)]) (ctX5_mod e16) kX5_mod uX5_mod lkX5_48 rfl rfl rfl dX5_leadsBy_16 ?_
    refine q_iloadn dX5_leadsBy_19 2 rfl ?_
    refine q_i2l dX5_leadsBy_20 ?_
    obtain ⟨r21, h21, e21, hf⟩ := q_cl hf
    refine q_cSi (av := [vl (wi x2)]) (rest := [vi r16, .ref (ad 0)]) (ctX5_mod e21) kX5_mod uX5_mod lkX5_48 rfl rfl rfl dX5_leadsBy_21 ?_
    refine q_iloadn dX5_leadsBy_24 3 rfl ?_
    refine q_i2l dX5_leadsBy_25 ?_
    obtain ⟨r26, h26, e26, hf⟩ := q_cl hf
    refine q_cSi (av := [vl (wi x3)]) (rest := [vi r21, vi r16, .ref (ad 0)]) (ctX5_mod e26) kX5_mod uX5_mod lkX5_48 rfl rfl rfl dX5_leadsBy_26 ?_
    refine q_iload dX5_leadsBy_29 4 rfl ?_
    refine q_i2l dX5_leadsBy_31 ?_
    obtain ⟨r32, h32, e32, hf⟩ := q_cl hf
    refine q_cSi (av := [vl (wi x4)]) (rest := [vi r26, vi r21, vi r16, .ref (ad 0)]) (ctX5_mod e32) kX5_mod uX5_mod lkX5_48 rfl rfl rfl dX5_leadsBy_32 ?_
    obtain ⟨r35, h35, e35, hf⟩ := q_cl hf
    refine q_cVv (av := [vi r16, vi r21, vi r26, vi r32]) (rest := []) wM_0 (ctX5_mixes e35) kX5_mixes vX5_mixes zX5_mixes lkX5_119 rfl rfl rfl rfl rfl dX5_leadsBy_35 ?_
    refine q_iconst dX5_leadsBy_38 ?_
    refine q_istore dX5_leadsBy_39 rfl (loc' := [(5, vi 1), (0, .ref (ad 0)), (1, vi x1), (2, vi x2), (3, vi x3), (4, vi x4)]) rfl ?_
    refine q_iconst dX5_leadsBy_41 ?_
    refine q_istore dX5_leadsBy_42 rfl (loc' := [(6, vi 0), (5, vi 1), (0, .ref (ad 0)), (1, vi x1), (2, vi x2), (3, vi x3), (4, vi x4)]) rfl ?_
    refine q_loc (loc' := [(0, .ref (ad 0)), (5, vi 1), (6, vi 0)]) [2, 1, 0] rfl ?_
    exact tX5_leadsBy_44 FU 1 0 h35 hf
  · refine q_iconst dX5_leadsBy_11 ?_
    exact q_zret hf rfl rfl dX5_leadsBy_12
def fX5_lacksLeads (x1 : Int) (x2 : Int) (h : HP) : Option (Int × HP) :=
  cl (fX5_lacksTwo x1 x2 h) fun r3 h3 => if wi r3 = 0 then (if wi (h3 0 6) = wi (h3 0 8) then (some (0, h3)) else (some ((-3), h3))) else (some (r3, h3))
set_option maxRecDepth 20000 in
theorem ctX5_lacksLeads {l : Launch} {D : va_G} {ad : Nat → Nat} {cI : ClassId} {x1 : Int} {x2 : Int} {h : HP} {Z : Int × HP} (hf : fX5_lacksLeads x1 x2 h = some Z) : Ct (sdM l D ad cI) mX5_lacksLeads [.ref (ad 0), vi x1, vi x2] h (ri Z) := by
  refine Ct.ofF nX5_lacksLeads rfl (loc := [(0, .ref (ad 0)), (1, vi x1), (2, vi x2)]) rfl ?_
  unfold fX5_lacksLeads at hf
  refine q_aloadn dX5_lacksLeads_0 0 rfl ?_
  refine q_iloadn dX5_lacksLeads_1 1 rfl ?_
  refine q_iloadn dX5_lacksLeads_2 2 rfl ?_
  obtain ⟨r3, h3, e3, hf⟩ := q_cl hf
  refine q_cVi (av := [vi x1, vi x2]) (rest := []) wM_0 (ctX5_lacksTwo e3) kX5_lacksTwo vX5_lacksTwo zX5_lacksTwo lkX5_110 rfl rfl rfl rfl rfl dX5_lacksLeads_3 ?_
  refine q_istoren dX5_lacksLeads_6 rfl (loc' := [(3, vi r3), (0, .ref (ad 0)), (1, vi x1), (2, vi x2)]) rfl ?_
  refine q_iloadn dX5_lacksLeads_7 0 rfl ?_
  refine q_if_eq hf dX5_lacksLeads_8 15 (by decide) (fun hf => ?_) (fun hf => ?_)
  · refine q_aloadn dX5_lacksLeads_15 1 rfl ?_
    refine M_g5_6 flX5_81 dX5_lacksLeads_16 ?_
    refine q_aloadn dX5_lacksLeads_19 1 rfl ?_
    refine M_g5_8 flX5_84 dX5_lacksLeads_20 ?_
    refine q_icmp_eq hf dX5_lacksLeads_23 31 (by decide) (fun hf => ?_) (fun hf => ?_)
    · refine q_iconst dX5_lacksLeads_31 ?_
      exact q_iret hf rfl dX5_lacksLeads_32
    · refine q_bipush dX5_lacksLeads_26 (by decide) ?_
      refine q_goto dX5_lacksLeads_28 32 (by decide) ?_
      exact q_iret hf rfl dX5_lacksLeads_32
  · refine q_iloadn dX5_lacksLeads_11 0 rfl ?_
    refine q_goto dX5_lacksLeads_12 32 (by decide) ?_
    exact q_iret hf rfl dX5_lacksLeads_32
def bX5_leadOf_12 (self : Int → Int → Int → Int → Int → HP → Option (Int × HP)) (x1 : Int) (x2 : Int) (x3 : Int) (x4 : Int) (x5 : Int) (h : HP) : Option (Int × HP) :=
  if wi x5 < wi (((x4 * x4) * x4) * x4) then (gd (wi x4 ≠ 0) (lt ((Int.tmod (wi x5) (wi x4)) - x1) fun x6_35 => gd (wi x4 ≠ 0) (gd (wi x4 ≠ 0) (lt ((Int.tmod (wi (Int.tdiv (wi x5) (wi x4))) (wi x4)) - x1) fun x7_47 => gd (wi (x4 * x4) ≠ 0) (gd (wi x4 ≠ 0) (lt ((Int.tmod (wi (Int.tdiv (wi x5) (wi (x4 * x4)))) (wi x4)) - x1) fun x8_62 => gd (wi ((x4 * x4) * x4) ≠ 0) (lt ((Int.tdiv (wi x5) (wi ((x4 * x4) * x4))) - x1) fun x9_77 => cl (fX5_leadsBy x9_77 x8_62 x7_47 x6_35 h) fun r88 h88 => if wi r88 = 0 then (self x1 x2 x3 x4 (x5 + 1) h88) else (if wi x3 = wi x2 then (some (((((1000 * (x9_77 + 2)) + (100 * (x8_62 + 2))) + (10 * (x7_47 + 2))) + x6_35) + 2, h88)) else (self x1 x2 (x3 + 1) x4 (x5 + 1) h88))))))))) else (some ((-1) - x3, h))
def LX5_leadOf_12 : Nat → Int → Int → Int → Int → Int → HP → Option (Int × HP)
  | 0 => fun _ _ _ _ _ _ => none
  | n + 1 => bX5_leadOf_12 (LX5_leadOf_12 n)
set_option maxRecDepth 20000 in
theorem tX5_leadOf_12 {l : Launch} {D : va_G} {ad : Nat → Nat} {cI : ClassId} {Z : Int × HP} : ∀ (n : Nat) (x1 : Int) (x2 : Int) (x3 : Int) (x4 : Int) (x5 : Int) (h : HP), LX5_leadOf_12 n x1 x2 x3 x4 x5 h = some Z → Rn (sdM l D ad cI) mX5_leadOf (ri Z) 12 [(0, .ref (ad 0)), (1, vi x1), (2, vi x2), (3, vi x3), (4, vi x4), (5, vi x5)] [] h := by
  intro n
  induction n with
  | zero => intro x1 x2 x3 x4 x5 h hf; cases hf
  | succ n ih =>
    intro x1 x2 x3 x4 x5 h hf
    replace hf : bX5_leadOf_12 (LX5_leadOf_12 n) x1 x2 x3 x4 x5 h = some Z := hf
    unfold bX5_leadOf_12 at hf
    refine q_iload dX5_leadOf_12 5 rfl ?_
    refine q_iload dX5_leadOf_14 4 rfl ?_
    refine q_iload dX5_leadOf_16 4 rfl ?_
    refine q_imul dX5_leadOf_18 ?_
    refine q_iload dX5_leadOf_19 4 rfl ?_
    refine q_imul dX5_leadOf_21 ?_
    refine q_iload dX5_leadOf_22 4 rfl ?_
    refine q_imul dX5_leadOf_24 ?_
    refine q_icmp_ge hf dX5_leadOf_25 138 (by decide) (fun hf => ?_) (fun hf => ?_)
    · refine q_iconst dX5_leadOf_138 ?_
      refine q_iloadn dX5_leadOf_139 3 rfl ?_
      refine q_isub dX5_leadOf_140 ?_
      exact q_iret hf rfl dX5_leadOf_141
    · refine q_iload dX5_leadOf_28 5 rfl ?_
      refine q_iload dX5_leadOf_30 4 rfl ?_
      obtain ⟨g32, hf⟩ := q_gd hf
      refine q_irem dX5_leadOf_32 g32 ?_
      refine q_iloadn dX5_leadOf_33 1 rfl ?_
      refine q_isub dX5_leadOf_34 ?_
      refine q_lt hf (fun x6_35 hf => ?_)
      refine q_istore dX5_leadOf_35 rfl (loc' := [(6, vi x6_35), (0, .ref (ad 0)), (1, vi x1), (2, vi x2), (3, vi x3), (4, vi x4), (5, vi x5)]) rfl ?_
      refine q_iload dX5_leadOf_37 6 rfl ?_
      refine q_iload dX5_leadOf_39 5 rfl ?_
      obtain ⟨g41, hf⟩ := q_gd hf
      refine q_idiv dX5_leadOf_41 g41 ?_
      refine q_iload dX5_leadOf_42 5 rfl ?_
      obtain ⟨g44, hf⟩ := q_gd hf
      refine q_irem dX5_leadOf_44 g44 ?_
      refine q_iloadn dX5_leadOf_45 2 rfl ?_
      refine q_isub dX5_leadOf_46 ?_
      refine q_lt hf (fun x7_47 hf => ?_)
      refine q_istore dX5_leadOf_47 rfl (loc' := [(7, vi x7_47), (6, vi x6_35), (0, .ref (ad 0)), (1, vi x1), (2, vi x2), (3, vi x3), (4, vi x4), (5, vi x5)]) rfl ?_
      refine q_iload dX5_leadOf_49 7 rfl ?_
      refine q_iload dX5_leadOf_51 6 rfl ?_
      refine q_iload dX5_leadOf_53 6 rfl ?_
      refine q_imul dX5_leadOf_55 ?_
      obtain ⟨g56, hf⟩ := q_gd hf
      refine q_idiv dX5_leadOf_56 g56 ?_
      refine q_iload dX5_leadOf_57 6 rfl ?_
      obtain ⟨g59, hf⟩ := q_gd hf
      refine q_irem dX5_leadOf_59 g59 ?_
      refine q_iloadn dX5_leadOf_60 3 rfl ?_
      refine q_isub dX5_leadOf_61 ?_
      refine q_lt hf (fun x8_62 hf => ?_)
      refine q_istore dX5_leadOf_62 rfl (loc' := [(8, vi x8_62), (7, vi x7_47), (6, vi x6_35), (0, .ref (ad 0)), (1, vi x1), (2, vi x2), (3, vi x3), (4, vi x4), (5, vi x5)]) rfl ?_
      refine q_iload dX5_leadOf_64 8 rfl ?_
      refine q_iload dX5_leadOf_66 7 rfl ?_
      refine q_iload dX5_leadOf_68 7 rfl ?_
      refine q_imul dX5_leadOf_70 ?_
      refine q_iload dX5_leadOf_71 7 rfl ?_
      refine q_imul dX5_leadOf_73 ?_
      obtain ⟨g74, hf⟩ := q_gd hf
      refine q_idiv dX5_leadOf_74 g74 ?_
      refine q_iloadn dX5_leadOf_75 4 rfl ?_
      refine q_isub dX5_leadOf_76 ?_
      refine q_lt hf (fun x9_77 hf => ?_)
      refine q_istore dX5_leadOf_77 rfl (loc' := [(9, vi x9_77), (8, vi x8_62), (7, vi x7_47), (6, vi x6_35), (0, .ref (ad 0)), (1, vi x1), (2, vi x2), (3, vi x3), (4, vi x4), (5, vi x5)]) rfl ?_
      refine q_aloadn dX5_leadOf_79 4 rfl ?_
      refine q_iload dX5_leadOf_80 0 rfl ?_
      refine q_iload dX5_leadOf_82 1 rfl ?_
      refine q_iload dX5_leadOf_84 2 rfl ?_
      refine q_iload dX5_leadOf_86 3 rfl ?_
      obtain ⟨r88, h88, e88, hf⟩ := q_cl hf
      refine q_cVi (av := [vi x9_77, vi x8_62, vi x7_47, vi x6_35]) (rest := []) wM_0 (ctX5_leadsBy e88) kX5_leadsBy vX5_leadsBy zX5_leadsBy lkX5_160 rfl rfl rfl rfl rfl dX5_leadOf_88 ?_
      refine q_if_eq hf dX5_leadOf_91 132 (by decide) (fun hf => ?_) (fun hf => ?_)
      · refine q_iinc dX5_leadOf_132 9 rfl rfl (loc' := [(5, vi (x5 + 1)), (9, vi x9_77), (8, vi x8_62), (7, vi x7_47), (6, vi x6_35), (0, .ref (ad 0)), (1, vi x1), (2, vi x2), (3, vi x3), (4, vi x4)]) rfl ?_
        refine q_goto dX5_leadOf_135 12 (by decide) ?_
        refine q_loc (loc' := [(0, .ref (ad 0)), (1, vi x1), (2, vi x2), (3, vi x3), (4, vi x4), (5, vi (x5 + 1))]) [5, 6, 7, 8, 9, 0] rfl ?_
        exact ih x1 x2 x3 x4 (x5 + 1) h88 hf
      · refine q_iloadn dX5_leadOf_94 7 rfl ?_
        refine q_iloadn dX5_leadOf_95 6 rfl ?_
        refine q_icmp_ne hf dX5_leadOf_96 129 (by decide) (fun hf => ?_) (fun hf => ?_)
        · refine q_iinc dX5_leadOf_129 7 rfl rfl (loc' := [(3, vi (x3 + 1)), (9, vi x9_77), (8, vi x8_62), (7, vi x7_47), (6, vi x6_35), (0, .ref (ad 0)), (1, vi x1), (2, vi x2), (4, vi x4), (5, vi x5)]) rfl ?_
          refine q_iinc dX5_leadOf_132 9 rfl rfl (loc' := [(5, vi (x5 + 1)), (3, vi (x3 + 1)), (9, vi x9_77), (8, vi x8_62), (7, vi x7_47), (6, vi x6_35), (0, .ref (ad 0)), (1, vi x1), (2, vi x2), (4, vi x4)]) rfl ?_
          refine q_goto dX5_leadOf_135 12 (by decide) ?_
          refine q_loc (loc' := [(0, .ref (ad 0)), (1, vi x1), (2, vi x2), (3, vi (x3 + 1)), (4, vi x4), (5, vi (x5 + 1))]) [6, 7, 8, 1, 9, 0] rfl ?_
          exact ih x1 x2 (x3 + 1) x4 (x5 + 1) h88 hf
        · refine q_sipush dX5_leadOf_99 (by decide) ?_
          refine q_iload dX5_leadOf_102 0 rfl ?_
          refine q_iconst dX5_leadOf_104 ?_
          refine q_iadd dX5_leadOf_105 ?_
          refine q_imul dX5_leadOf_106 ?_
          refine q_bipush dX5_leadOf_107 (by decide) ?_
          refine q_iload dX5_leadOf_109 1 rfl ?_
          refine q_iconst dX5_leadOf_111 ?_
          refine q_iadd dX5_leadOf_112 ?_
          refine q_imul dX5_leadOf_113 ?_
          refine q_iadd dX5_leadOf_114 ?_
          refine q_bipush dX5_leadOf_115 (by decide) ?_
          refine q_iload dX5_leadOf_117 2 rfl ?_
          refine q_iconst dX5_leadOf_119 ?_
          refine q_iadd dX5_leadOf_120 ?_
          refine q_imul dX5_leadOf_121 ?_
          refine q_iadd dX5_leadOf_122 ?_
          refine q_iload dX5_leadOf_123 3 rfl ?_
          refine q_iadd dX5_leadOf_125 ?_
          refine q_iconst dX5_leadOf_126 ?_
          refine q_iadd dX5_leadOf_127 ?_
          exact q_iret hf rfl dX5_leadOf_128
def fX5_leadOf (x1 : Int) (x2 : Int) (h : HP) : Option (Int × HP) :=
  lt ((2 * x1) + 1) fun x4_7 => LX5_leadOf_12 FU x1 x2 0 x4_7 0 h
set_option maxRecDepth 20000 in
theorem ctX5_leadOf {l : Launch} {D : va_G} {ad : Nat → Nat} {cI : ClassId} {x1 : Int} {x2 : Int} {h : HP} {Z : Int × HP} (hf : fX5_leadOf x1 x2 h = some Z) : Ct (sdM l D ad cI) mX5_leadOf [.ref (ad 0), vi x1, vi x2] h (ri Z) := by
  refine Ct.ofF nX5_leadOf rfl (loc := [(0, .ref (ad 0)), (1, vi x1), (2, vi x2)]) rfl ?_
  unfold fX5_leadOf at hf
  refine q_iconst dX5_leadOf_0 ?_
  refine q_istoren dX5_leadOf_1 rfl (loc' := [(3, vi 0), (0, .ref (ad 0)), (1, vi x1), (2, vi x2)]) rfl ?_
  refine q_iconst dX5_leadOf_2 ?_
  refine q_iloadn dX5_leadOf_3 2 rfl ?_
  refine q_imul dX5_leadOf_4 ?_
  refine q_iconst dX5_leadOf_5 ?_
  refine q_iadd dX5_leadOf_6 ?_
  refine q_lt hf (fun x4_7 hf => ?_)
  refine q_istore dX5_leadOf_7 rfl (loc' := [(4, vi x4_7), (3, vi 0), (0, .ref (ad 0)), (1, vi x1), (2, vi x2)]) rfl ?_
  refine q_iconst dX5_leadOf_9 ?_
  refine q_istore dX5_leadOf_10 rfl (loc' := [(5, vi 0), (4, vi x4_7), (3, vi 0), (0, .ref (ad 0)), (1, vi x1), (2, vi x2)]) rfl ?_
  refine q_loc (loc' := [(0, .ref (ad 0)), (1, vi x1), (2, vi x2), (3, vi 0), (4, vi x4_7), (5, vi 0)]) [3, 4, 5, 2, 1, 0] rfl ?_
  exact tX5_leadOf_12 FU x1 x2 0 x4_7 0 h hf
def fX5_leads (x1 : Int) (x2 : Int) (x3 : Int) (h : HP) : Option (Int × HP) :=
  cl (fX5_isSheet x1 h) fun r1 h1 => if wi r1 = 0 then (some ((-2), h1)) else (cl (fX5_isSheet x2 h1) fun r8 h8 => if wi r8 = 0 then (some ((-2), h8)) else (cl (fX5_in (wi x3) 1 2 h8) fun r20 h20 => if wi r20 = 0 then (some ((-2), h20)) else (cl (fX5_lacksLeads x1 x2 h20) fun r32 h32 => if wi r32 = 0 then (cl (fX5_leadOf x3 1000 h32) fun r53 h53 => some ((-1) - r53, h53)) else (some (r32, h32)))))
set_option maxRecDepth 20000 in
theorem ctX5_leads {l : Launch} {D : va_G} {ad : Nat → Nat} {cI : ClassId} {x1 : Int} {x2 : Int} {x3 : Int} {h : HP} {Z : Int × HP} (hf : fX5_leads x1 x2 x3 h = some Z) : Ct (sdM l D ad cI) mX5_leads [.ref (ad 0), vi x1, vi x2, vi x3] h (ri Z) := by
  refine Ct.ofF nX5_leads rfl (loc := [(0, .ref (ad 0)), (1, vi x1), (2, vi x2), (3, vi x3)]) rfl ?_
  unfold fX5_leads at hf
  refine q_iloadn dX5_leads_0 1 rfl ?_
  obtain ⟨r1, h1, e1, hf⟩ := q_cl hf
  refine q_cSi (av := [vi x1]) (rest := []) (ctX5_isSheet e1) kX5_isSheet uX5_isSheet lkX5_66 rfl rfl rfl dX5_leads_1 ?_
  refine q_if_eq hf dX5_leads_4 26 (by decide) (fun hf => ?_) (fun hf => ?_)
  · refine q_bipush dX5_leads_26 (by decide) ?_
    exact q_iret hf rfl dX5_leads_28
  · refine q_iloadn dX5_leads_7 2 rfl ?_
    obtain ⟨r8, h8, e8, hf⟩ := q_cl hf
    refine q_cSi (av := [vi x2]) (rest := []) (ctX5_isSheet e8) kX5_isSheet uX5_isSheet lkX5_66 rfl rfl rfl dX5_leads_8 ?_
    refine q_if_eq hf dX5_leads_11 26 (by decide) (fun hf => ?_) (fun hf => ?_)
    · refine q_bipush dX5_leads_26 (by decide) ?_
      exact q_iret hf rfl dX5_leads_28
    · refine q_iloadn dX5_leads_14 3 rfl ?_
      refine q_i2l dX5_leads_15 ?_
      refine q_lconst (n := 1) dX5_leads_16 (by decide) ?_
      refine q_ldc2 (n := 2) dX5_leads_17 kcX5_70 ?_
      obtain ⟨r20, h20, e20, hf⟩ := q_cl hf
      refine q_cSi (av := [vl (wi x3), vl 1, vl 2]) (rest := []) (ctX5_in e20) kX5_in uX5_in lkX5_62 rfl rfl rfl dX5_leads_20 ?_
      refine q_if_ne hf dX5_leads_23 29 (by decide) (fun hf => ?_) (fun hf => ?_)
      · refine q_aloadn dX5_leads_29 0 rfl ?_
        refine q_iloadn dX5_leads_30 1 rfl ?_
        refine q_iloadn dX5_leads_31 2 rfl ?_
        obtain ⟨r32, h32, e32, hf⟩ := q_cl hf
        refine q_cVi (av := [vi x1, vi x2]) (rest := []) wM_0 (ctX5_lacksLeads e32) kX5_lacksLeads vX5_lacksLeads zX5_lacksLeads lkX5_164 rfl rfl rfl rfl rfl dX5_leads_32 ?_
        refine q_istore dX5_leads_35 rfl (loc' := [(4, vi r32), (0, .ref (ad 0)), (1, vi x1), (2, vi x2), (3, vi x3)]) rfl ?_
        refine q_iload dX5_leads_37 0 rfl ?_
        refine q_if_eq hf dX5_leads_39 47 (by decide) (fun hf => ?_) (fun hf => ?_)
        · refine q_iconst dX5_leads_47 ?_
          refine q_aloadn dX5_leads_48 1 rfl ?_
          refine q_iloadn dX5_leads_49 4 rfl ?_
          refine q_sipush dX5_leads_50 (by decide) ?_
          obtain ⟨r53, h53, e53, hf⟩ := q_cl hf
          refine q_cVi (av := [vi x3, vi 1000]) (rest := [vi (-1)]) wM_0 (ctX5_leadOf e53) kX5_leadOf vX5_leadOf zX5_leadOf lkX5_167 rfl rfl rfl rfl rfl dX5_leads_53 ?_
          refine q_isub dX5_leads_56 ?_
          exact q_iret hf rfl dX5_leads_57
        · refine q_iload dX5_leads_42 0 rfl ?_
          refine q_goto dX5_leads_44 57 (by decide) ?_
          exact q_iret hf rfl dX5_leads_57
      · refine q_bipush dX5_leads_26 (by decide) ?_
        exact q_iret hf rfl dX5_leads_28
def fX5_lead (x1 : Int) (x2 : Int) (x3 : Int) (x4 : Int) (h : HP) : Option (Int × HP) :=
  cl (fX5_isSheet x1 h) fun r1 h1 => if wi r1 = 0 then (some ((-2), h1)) else (cl (fX5_isSheet x2 h1) fun r8 h8 => if wi r8 = 0 then (some ((-2), h8)) else (cl (fX5_in (wi x3) 1 2 h8) fun r20 h20 => if wi r20 = 0 then (some ((-2), h20)) else (if wi x4 < 0 then (some ((-2), h20)) else (cl (fX5_lacksLeads x1 x2 h20) fun r37 h37 => if wi r37 = 0 then (cl (fX5_leadOf x3 x4 h37) fun r54 h54 => if wi r54 < 0 then (some ((-1), h54)) else (some (r54, h54))) else (some (r37, h37))))))
set_option maxRecDepth 20000 in
theorem ctX5_lead {l : Launch} {D : va_G} {ad : Nat → Nat} {cI : ClassId} {x1 : Int} {x2 : Int} {x3 : Int} {x4 : Int} {h : HP} {Z : Int × HP} (hf : fX5_lead x1 x2 x3 x4 h = some Z) : Ct (sdM l D ad cI) mX5_lead [.ref (ad 0), vi x1, vi x2, vi x3, vi x4] h (ri Z) := by
  refine Ct.ofF nX5_lead rfl (loc := [(0, .ref (ad 0)), (1, vi x1), (2, vi x2), (3, vi x3), (4, vi x4)]) rfl ?_
  unfold fX5_lead at hf
  refine q_iloadn dX5_lead_0 1 rfl ?_
  obtain ⟨r1, h1, e1, hf⟩ := q_cl hf
  refine q_cSi (av := [vi x1]) (rest := []) (ctX5_isSheet e1) kX5_isSheet uX5_isSheet lkX5_66 rfl rfl rfl dX5_lead_1 ?_
  refine q_if_eq hf dX5_lead_4 31 (by decide) (fun hf => ?_) (fun hf => ?_)
  · refine q_bipush dX5_lead_31 (by decide) ?_
    exact q_iret hf rfl dX5_lead_33
  · refine q_iloadn dX5_lead_7 2 rfl ?_
    obtain ⟨r8, h8, e8, hf⟩ := q_cl hf
    refine q_cSi (av := [vi x2]) (rest := []) (ctX5_isSheet e8) kX5_isSheet uX5_isSheet lkX5_66 rfl rfl rfl dX5_lead_8 ?_
    refine q_if_eq hf dX5_lead_11 31 (by decide) (fun hf => ?_) (fun hf => ?_)
    · refine q_bipush dX5_lead_31 (by decide) ?_
      exact q_iret hf rfl dX5_lead_33
    · refine q_iloadn dX5_lead_14 3 rfl ?_
      refine q_i2l dX5_lead_15 ?_
      refine q_lconst (n := 1) dX5_lead_16 (by decide) ?_
      refine q_ldc2 (n := 2) dX5_lead_17 kcX5_70 ?_
      obtain ⟨r20, h20, e20, hf⟩ := q_cl hf
      refine q_cSi (av := [vl (wi x3), vl 1, vl 2]) (rest := []) (ctX5_in e20) kX5_in uX5_in lkX5_62 rfl rfl rfl dX5_lead_20 ?_
      refine q_if_eq hf dX5_lead_23 31 (by decide) (fun hf => ?_) (fun hf => ?_)
      · refine q_bipush dX5_lead_31 (by decide) ?_
        exact q_iret hf rfl dX5_lead_33
      · refine q_iload dX5_lead_26 4 rfl ?_
        refine q_if_ge hf dX5_lead_28 34 (by decide) (fun hf => ?_) (fun hf => ?_)
        · refine q_aloadn dX5_lead_34 0 rfl ?_
          refine q_iloadn dX5_lead_35 1 rfl ?_
          refine q_iloadn dX5_lead_36 2 rfl ?_
          obtain ⟨r37, h37, e37, hf⟩ := q_cl hf
          refine q_cVi (av := [vi x1, vi x2]) (rest := []) wM_0 (ctX5_lacksLeads e37) kX5_lacksLeads vX5_lacksLeads zX5_lacksLeads lkX5_164 rfl rfl rfl rfl rfl dX5_lead_37 ?_
          refine q_istore dX5_lead_40 rfl (loc' := [(5, vi r37), (0, .ref (ad 0)), (1, vi x1), (2, vi x2), (3, vi x3), (4, vi x4)]) rfl ?_
          refine q_iload dX5_lead_42 0 rfl ?_
          refine q_if_eq hf dX5_lead_44 50 (by decide) (fun hf => ?_) (fun hf => ?_)
          · refine q_aloadn dX5_lead_50 1 rfl ?_
            refine q_iloadn dX5_lead_51 4 rfl ?_
            refine q_iload dX5_lead_52 5 rfl ?_
            obtain ⟨r54, h54, e54, hf⟩ := q_cl hf
            refine q_cVi (av := [vi x3, vi x4]) (rest := []) wM_0 (ctX5_leadOf e54) kX5_leadOf vX5_leadOf zX5_leadOf lkX5_167 rfl rfl rfl rfl rfl dX5_lead_54 ?_
            refine q_istore dX5_lead_57 rfl (loc' := [(6, vi r54), (5, vi r37), (0, .ref (ad 0)), (1, vi x1), (2, vi x2), (3, vi x3), (4, vi x4)]) rfl ?_
            refine q_iload dX5_lead_59 0 rfl ?_
            refine q_if_ge hf dX5_lead_61 68 (by decide) (fun hf => ?_) (fun hf => ?_)
            · refine q_iload dX5_lead_68 0 rfl ?_
              exact q_iret hf rfl dX5_lead_70
            · refine q_iconst dX5_lead_64 ?_
              refine q_goto dX5_lead_65 70 (by decide) ?_
              exact q_iret hf rfl dX5_lead_70
          · refine q_iload dX5_lead_47 0 rfl ?_
            exact q_iret hf rfl dX5_lead_49
        · refine q_bipush dX5_lead_31 (by decide) ?_
          exact q_iret hf rfl dX5_lead_33
def bX5_waysOf_62 (k52 : Int → Int → Int → Int → Int → HP → Option (Int × HP)) (self : Int → Int → Int → Int → Int → Int → HP → Option (Int × HP)) (x1 : Int) (x2 : Int) (x3 : Int) (x4 : Int) (x5 : Int) (x6 : Int) (h : HP) : Option (Int × HP) :=
  if wi x6 ≤ wi x1 then (ld (lnM 12) (h 12) ((33 * x5) + x6) fun v81 => ld (lnM 12) (h 12) (((33 * (x5 - 1)) + x6) - x4) fun v99 => sto (lnM 12) h 12 ((33 * x5) + x6) (v81 + v99) fun h101 => self x1 x2 x3 x4 x5 (x6 + 1) h101) else (k52 x1 x2 x3 x4 (x5 + 1) h)
def LX5_waysOf_62 (k52 : Int → Int → Int → Int → Int → HP → Option (Int × HP)) : Nat → Int → Int → Int → Int → Int → Int → HP → Option (Int × HP)
  | 0 => fun _ _ _ _ _ _ _ => none
  | n + 1 => bX5_waysOf_62 k52 (LX5_waysOf_62 k52 n)
set_option maxRecDepth 20000 in
theorem tX5_waysOf_62 {l : Launch} {D : va_G} {ad : Nat → Nat} {cI : ClassId} {Z : Int × HP} {k52 : Int → Int → Int → Int → Int → HP → Option (Int × HP)} (hk52 : ∀ (x1 : Int) (x2 : Int) (x3 : Int) (x4 : Int) (x5 : Int) (h : HP), k52 x1 x2 x3 x4 x5 h = some Z → Rn (sdM l D ad cI) mX5_waysOf (ri Z) 52 [(0, .ref (ad 0)), (1, vi x1), (2, vi x2), (3, vi x3), (4, vi x4), (5, vi x5)] [] h) : ∀ (n : Nat) (x1 : Int) (x2 : Int) (x3 : Int) (x4 : Int) (x5 : Int) (x6 : Int) (h : HP), LX5_waysOf_62 k52 n x1 x2 x3 x4 x5 x6 h = some Z → Rn (sdM l D ad cI) mX5_waysOf (ri Z) 62 [(0, .ref (ad 0)), (1, vi x1), (2, vi x2), (3, vi x3), (4, vi x4), (5, vi x5), (6, vi x6)] [] h := by
  intro n
  induction n with
  | zero => intro x1 x2 x3 x4 x5 x6 h hf; cases hf
  | succ n ih =>
    intro x1 x2 x3 x4 x5 x6 h hf
    replace hf : bX5_waysOf_62 k52 (LX5_waysOf_62 k52 n) x1 x2 x3 x4 x5 x6 h = some Z := hf
    unfold bX5_waysOf_62 at hf
    refine q_iload dX5_waysOf_62 6 rfl ?_
    refine q_iloadn dX5_waysOf_64 1 rfl ?_
    refine q_icmp_gt hf dX5_waysOf_65 108 (by decide) (fun hf => ?_) (fun hf => ?_)
    · refine q_iinc dX5_waysOf_108 5 rfl rfl (loc' := [(5, vi (x5 + 1)), (0, .ref (ad 0)), (1, vi x1), (2, vi x2), (3, vi x3), (4, vi x4), (6, vi x6)]) rfl ?_
      refine q_goto dX5_waysOf_111 52 (by decide) ?_
      refine q_loc (loc' := [(0, .ref (ad 0)), (1, vi x1), (2, vi x2), (3, vi x3), (4, vi x4), (5, vi (x5 + 1))]) [1, 2, 3, 4, 5, 0] rfl ?_
      exact hk52 x1 x2 x3 x4 (x5 + 1) h hf
    · refine q_aloadn dX5_waysOf_68 0 rfl ?_
      refine M_g5_16 flX5_43 dX5_waysOf_69 ?_
      refine q_bipush dX5_waysOf_72 (by decide) ?_
      refine q_iload dX5_waysOf_74 5 rfl ?_
      refine q_imul dX5_waysOf_76 ?_
      refine q_iload dX5_waysOf_77 6 rfl ?_
      refine q_iadd dX5_waysOf_79 ?_
      refine q_dup2 dX5_waysOf_80 rfl rfl ?_
      refine M_ld rfl hf dX5_waysOf_81 (fun v81 hf => ?_)
      refine q_aloadn dX5_waysOf_82 0 rfl ?_
      refine M_g5_16 flX5_43 dX5_waysOf_83 ?_
      refine q_bipush dX5_waysOf_86 (by decide) ?_
      refine q_iload dX5_waysOf_88 5 rfl ?_
      refine q_iconst dX5_waysOf_90 ?_
      refine q_isub dX5_waysOf_91 ?_
      refine q_imul dX5_waysOf_92 ?_
      refine q_iload dX5_waysOf_93 6 rfl ?_
      refine q_iadd dX5_waysOf_95 ?_
      refine q_iload dX5_waysOf_96 4 rfl ?_
      refine q_isub dX5_waysOf_98 ?_
      refine M_ld rfl hf dX5_waysOf_99 (fun v99 hf => ?_)
      refine q_iadd dX5_waysOf_100 ?_
      refine M_st rfl hf dX5_waysOf_101 (fun h101 hf => ?_)
      refine q_iinc dX5_waysOf_102 6 rfl rfl (loc' := [(6, vi (x6 + 1)), (0, .ref (ad 0)), (1, vi x1), (2, vi x2), (3, vi x3), (4, vi x4), (5, vi x5)]) rfl ?_
      refine q_goto dX5_waysOf_105 62 (by decide) ?_
      refine q_loc (loc' := [(0, .ref (ad 0)), (1, vi x1), (2, vi x2), (3, vi x3), (4, vi x4), (5, vi x5), (6, vi (x6 + 1))]) [1, 2, 3, 4, 5, 6, 0] rfl ?_
      exact ih x1 x2 x3 x4 x5 (x6 + 1) h101 hf
def bX5_waysOf_52 (k43 : Int → Int → Int → Int → HP → Option (Int × HP)) (self : Int → Int → Int → Int → Int → HP → Option (Int × HP)) (x1 : Int) (x2 : Int) (x3 : Int) (x4 : Int) (x5 : Int) (h : HP) : Option (Int × HP) :=
  if wi x5 ≤ wi x3 then (LX5_waysOf_62 self FU x1 x2 x3 x4 x5 x4 h) else (k43 x1 x2 x3 (x4 + 1) h)
def LX5_waysOf_52 (k43 : Int → Int → Int → Int → HP → Option (Int × HP)) : Nat → Int → Int → Int → Int → Int → HP → Option (Int × HP)
  | 0 => fun _ _ _ _ _ _ => none
  | n + 1 => bX5_waysOf_52 k43 (LX5_waysOf_52 k43 n)
set_option maxRecDepth 20000 in
theorem tX5_waysOf_52 {l : Launch} {D : va_G} {ad : Nat → Nat} {cI : ClassId} {Z : Int × HP} {k43 : Int → Int → Int → Int → HP → Option (Int × HP)} (hk43 : ∀ (x1 : Int) (x2 : Int) (x3 : Int) (x4 : Int) (h : HP), k43 x1 x2 x3 x4 h = some Z → Rn (sdM l D ad cI) mX5_waysOf (ri Z) 43 [(0, .ref (ad 0)), (1, vi x1), (2, vi x2), (3, vi x3), (4, vi x4)] [] h) : ∀ (n : Nat) (x1 : Int) (x2 : Int) (x3 : Int) (x4 : Int) (x5 : Int) (h : HP), LX5_waysOf_52 k43 n x1 x2 x3 x4 x5 h = some Z → Rn (sdM l D ad cI) mX5_waysOf (ri Z) 52 [(0, .ref (ad 0)), (1, vi x1), (2, vi x2), (3, vi x3), (4, vi x4), (5, vi x5)] [] h := by
  intro n
  induction n with
  | zero => intro x1 x2 x3 x4 x5 h hf; cases hf
  | succ n ih =>
    intro x1 x2 x3 x4 x5 h hf
    replace hf : bX5_waysOf_52 k43 (LX5_waysOf_52 k43 n) x1 x2 x3 x4 x5 h = some Z := hf
    unfold bX5_waysOf_52 at hf
    refine q_iload dX5_waysOf_52 5 rfl ?_
    refine q_iloadn dX5_waysOf_54 3 rfl ?_
    refine q_icmp_gt hf dX5_waysOf_55 114 (by decide) (fun hf => ?_) (fun hf => ?_)
    · refine q_iinc dX5_waysOf_114 4 rfl rfl (loc' := [(4, vi (x4 + 1)), (0, .ref (ad 0)), (1, vi x1), (2, vi x2), (3, vi x3), (5, vi x5)]) rfl ?_
      refine q_goto dX5_waysOf_117 43 (by decide) ?_
      refine q_loc (loc' := [(0, .ref (ad 0)), (1, vi x1), (2, vi x2), (3, vi x3), (4, vi (x4 + 1))]) [1, 2, 3, 4, 0] rfl ?_
      exact hk43 x1 x2 x3 (x4 + 1) h hf
    · refine q_iload dX5_waysOf_58 4 rfl ?_
      refine q_istore dX5_waysOf_60 rfl (loc' := [(6, vi x4), (0, .ref (ad 0)), (1, vi x1), (2, vi x2), (3, vi x3), (4, vi x4), (5, vi x5)]) rfl ?_
      refine q_loc (loc' := [(0, .ref (ad 0)), (1, vi x1), (2, vi x2), (3, vi x3), (4, vi x4), (5, vi x5), (6, vi x4)]) [1, 2, 3, 4, 5, 6, 0] rfl ?_
      exact tX5_waysOf_62 ih FU x1 x2 x3 x4 x5 x4 h hf
def bX5_waysOf_126 (self : Int → Int → Int → Int → HP → Option (Int × HP)) (x1 : Int) (x3 : Int) (x4 : Int) (x5 : Int) (h : HP) : Option (Int × HP) :=
  if wi x5 ≤ wi x3 then (ld (lnM 12) (h 12) ((33 * x5) + x1) fun v145 => lt (x4 + v145) fun x4_147 => self x1 x3 x4_147 (x5 + 1) h) else (some (x4, h))
def LX5_waysOf_126 : Nat → Int → Int → Int → Int → HP → Option (Int × HP)
  | 0 => fun _ _ _ _ _ => none
  | n + 1 => bX5_waysOf_126 (LX5_waysOf_126 n)
set_option maxRecDepth 20000 in
theorem tX5_waysOf_126 {l : Launch} {D : va_G} {ad : Nat → Nat} {cI : ClassId} {Z : Int × HP} : ∀ (n : Nat) (x1 : Int) (x3 : Int) (x4 : Int) (x5 : Int) (h : HP), LX5_waysOf_126 n x1 x3 x4 x5 h = some Z → Rn (sdM l D ad cI) mX5_waysOf (ri Z) 126 [(0, .ref (ad 0)), (1, vi x1), (3, vi x3), (4, vi x4), (5, vi x5)] [] h := by
  intro n
  induction n with
  | zero => intro x1 x3 x4 x5 h hf; cases hf
  | succ n ih =>
    intro x1 x3 x4 x5 h hf
    replace hf : bX5_waysOf_126 (LX5_waysOf_126 n) x1 x3 x4 x5 h = some Z := hf
    unfold bX5_waysOf_126 at hf
    refine q_iload dX5_waysOf_126 4 rfl ?_
    refine q_iloadn dX5_waysOf_128 2 rfl ?_
    refine q_icmp_gt hf dX5_waysOf_129 155 (by decide) (fun hf => ?_) (fun hf => ?_)
    · refine q_iload dX5_waysOf_155 3 rfl ?_
      exact q_iret hf rfl dX5_waysOf_157
    · refine q_iload dX5_waysOf_132 3 rfl ?_
      refine q_aloadn dX5_waysOf_134 0 rfl ?_
      refine M_g5_16 flX5_43 dX5_waysOf_135 ?_
      refine q_bipush dX5_waysOf_138 (by decide) ?_
      refine q_iload dX5_waysOf_140 4 rfl ?_
      refine q_imul dX5_waysOf_142 ?_
      refine q_iloadn dX5_waysOf_143 1 rfl ?_
      refine q_iadd dX5_waysOf_144 ?_
      refine M_ld rfl hf dX5_waysOf_145 (fun v145 hf => ?_)
      refine q_iadd dX5_waysOf_146 ?_
      refine q_lt hf (fun x4_147 hf => ?_)
      refine q_istore dX5_waysOf_147 rfl (loc' := [(4, vi x4_147), (0, .ref (ad 0)), (1, vi x1), (3, vi x3), (5, vi x5)]) rfl ?_
      refine q_iinc dX5_waysOf_149 4 rfl rfl (loc' := [(5, vi (x5 + 1)), (4, vi x4_147), (0, .ref (ad 0)), (1, vi x1), (3, vi x3)]) rfl ?_
      refine q_goto dX5_waysOf_152 126 (by decide) ?_
      refine q_loc (loc' := [(0, .ref (ad 0)), (1, vi x1), (3, vi x3), (4, vi x4_147), (5, vi (x5 + 1))]) [2, 3, 4, 1, 0] rfl ?_
      exact ih x1 x3 x4_147 (x5 + 1) h hf
def bX5_waysOf_43 (self : Int → Int → Int → Int → HP → Option (Int × HP)) (x1 : Int) (x2 : Int) (x3 : Int) (x4 : Int) (h : HP) : Option (Int × HP) :=
  if wi x4 ≤ wi x2 then (LX5_waysOf_52 self FU x1 x2 x3 x4 1 h) else (LX5_waysOf_126 FU x1 x3 0 0 h)
def LX5_waysOf_43 : Nat → Int → Int → Int → Int → HP → Option (Int × HP)
  | 0 => fun _ _ _ _ _ => none
  | n + 1 => bX5_waysOf_43 (LX5_waysOf_43 n)
set_option maxRecDepth 20000 in
theorem tX5_waysOf_43 {l : Launch} {D : va_G} {ad : Nat → Nat} {cI : ClassId} {Z : Int × HP} : ∀ (n : Nat) (x1 : Int) (x2 : Int) (x3 : Int) (x4 : Int) (h : HP), LX5_waysOf_43 n x1 x2 x3 x4 h = some Z → Rn (sdM l D ad cI) mX5_waysOf (ri Z) 43 [(0, .ref (ad 0)), (1, vi x1), (2, vi x2), (3, vi x3), (4, vi x4)] [] h := by
  intro n
  induction n with
  | zero => intro x1 x2 x3 x4 h hf; cases hf
  | succ n ih =>
    intro x1 x2 x3 x4 h hf
    replace hf : bX5_waysOf_43 (LX5_waysOf_43 n) x1 x2 x3 x4 h = some Z := hf
    unfold bX5_waysOf_43 at hf
    refine q_iload dX5_waysOf_43 4 rfl ?_
    refine q_iloadn dX5_waysOf_45 2 rfl ?_
    refine q_icmp_gt hf dX5_waysOf_46 120 (by decide) (fun hf => ?_) (fun hf => ?_)
    · refine q_iconst dX5_waysOf_120 ?_
      refine q_istore dX5_waysOf_121 rfl (loc' := [(4, vi 0), (0, .ref (ad 0)), (1, vi x1), (2, vi x2), (3, vi x3)]) rfl ?_
      refine q_iconst dX5_waysOf_123 ?_
      refine q_istore dX5_waysOf_124 rfl (loc' := [(5, vi 0), (4, vi 0), (0, .ref (ad 0)), (1, vi x1), (2, vi x2), (3, vi x3)]) rfl ?_
      refine q_loc (loc' := [(0, .ref (ad 0)), (1, vi x1), (3, vi x3), (4, vi 0), (5, vi 0)]) [2, 3, 5, 1, 0] rfl ?_
      exact tX5_waysOf_126 FU x1 x3 0 0 h hf
    · refine q_iconst dX5_waysOf_49 ?_
      refine q_istore dX5_waysOf_50 rfl (loc' := [(5, vi 1), (0, .ref (ad 0)), (1, vi x1), (2, vi x2), (3, vi x3), (4, vi x4)]) rfl ?_
      refine q_loc (loc' := [(0, .ref (ad 0)), (1, vi x1), (2, vi x2), (3, vi x3), (4, vi x4), (5, vi 1)]) [1, 2, 3, 4, 5, 0] rfl ?_
      exact tX5_waysOf_52 ih FU x1 x2 x3 x4 1 h hf
def bX5_waysOf_9 (self : Int → Int → Int → Int → HP → Option (Int × HP)) (x1 : Int) (x2 : Int) (x3 : Int) (x4 : Int) (h : HP) : Option (Int × HP) :=
  if wi x4 < wi 297 then (if wi x4 = 0 then (sto (lnM 12) h 12 x4 1 fun h33 => self x1 x2 x3 (x4 + 1) h33) else (sto (lnM 12) h 12 x4 0 fun h33 => self x1 x2 x3 (x4 + 1) h33)) else (LX5_waysOf_43 FU x1 x2 x3 1 h)
def LX5_waysOf_9 : Nat → Int → Int → Int → Int → HP → Option (Int × HP)
  | 0 => fun _ _ _ _ _ => none
  | n + 1 => bX5_waysOf_9 (LX5_waysOf_9 n)
set_option maxRecDepth 20000 in
theorem tX5_waysOf_9 {l : Launch} {D : va_G} {ad : Nat → Nat} {cI : ClassId} {Z : Int × HP} : ∀ (n : Nat) (x1 : Int) (x2 : Int) (x3 : Int) (x4 : Int) (h : HP), LX5_waysOf_9 n x1 x2 x3 x4 h = some Z → Rn (sdM l D ad cI) mX5_waysOf (ri Z) 9 [(0, .ref (ad 0)), (1, vi x1), (2, vi x2), (3, vi x3), (4, vi x4)] [] h := by
  intro n
  induction n with
  | zero => intro x1 x2 x3 x4 h hf; cases hf
  | succ n ih =>
    intro x1 x2 x3 x4 h hf
    replace hf : bX5_waysOf_9 (LX5_waysOf_9 n) x1 x2 x3 x4 h = some Z := hf
    unfold bX5_waysOf_9 at hf
    refine q_iload dX5_waysOf_9 4 rfl ?_
    refine q_sipush dX5_waysOf_11 (by decide) ?_
    refine q_icmp_ge hf dX5_waysOf_14 40 (by decide) (fun hf => ?_) (fun hf => ?_)
    · refine q_iconst dX5_waysOf_40 ?_
      refine q_istore dX5_waysOf_41 rfl (loc' := [(4, vi 1), (0, .ref (ad 0)), (1, vi x1), (2, vi x2), (3, vi x3)]) rfl ?_
      refine q_loc (loc' := [(0, .ref (ad 0)), (1, vi x1), (2, vi x2), (3, vi x3), (4, vi 1)]) [1, 2, 3, 4, 0] rfl ?_
      exact tX5_waysOf_43 FU x1 x2 x3 1 h hf
    · refine q_aloadn dX5_waysOf_17 0 rfl ?_
      refine M_g5_16 flX5_43 dX5_waysOf_18 ?_
      refine q_iload dX5_waysOf_21 4 rfl ?_
      refine q_iload dX5_waysOf_23 4 rfl ?_
      refine q_if_ne hf dX5_waysOf_25 32 (by decide) (fun hf => ?_) (fun hf => ?_)
      · refine q_iconst dX5_waysOf_32 ?_
        refine M_st rfl hf dX5_waysOf_33 (fun h33 hf => ?_)
        refine q_iinc dX5_waysOf_34 4 rfl rfl (loc' := [(4, vi (x4 + 1)), (0, .ref (ad 0)), (1, vi x1), (2, vi x2), (3, vi x3)]) rfl ?_
        refine q_goto dX5_waysOf_37 9 (by decide) ?_
        refine q_loc (loc' := [(0, .ref (ad 0)), (1, vi x1), (2, vi x2), (3, vi x3), (4, vi (x4 + 1))]) [1, 2, 3, 4, 0] rfl ?_
        exact ih x1 x2 x3 (x4 + 1) h33 hf
      · refine q_iconst dX5_waysOf_28 ?_
        refine q_goto dX5_waysOf_29 33 (by decide) ?_
        refine M_st rfl hf dX5_waysOf_33 (fun h33 hf => ?_)
        refine q_iinc dX5_waysOf_34 4 rfl rfl (loc' := [(4, vi (x4 + 1)), (0, .ref (ad 0)), (1, vi x1), (2, vi x2), (3, vi x3)]) rfl ?_
        refine q_goto dX5_waysOf_37 9 (by decide) ?_
        refine q_loc (loc' := [(0, .ref (ad 0)), (1, vi x1), (2, vi x2), (3, vi x3), (4, vi (x4 + 1))]) [1, 2, 3, 4, 0] rfl ?_
        exact ih x1 x2 x3 (x4 + 1) h33 hf
def fX5_waysOf (x1 : Int) (x2 : Int) (x3 : Int) (h : HP) : Option (Int × HP) :=
  if wi x1 < 0 then (some (0, h)) else (LX5_waysOf_9 FU x1 x2 x3 0 h)
set_option maxRecDepth 20000 in
theorem ctX5_waysOf {l : Launch} {D : va_G} {ad : Nat → Nat} {cI : ClassId} {x1 : Int} {x2 : Int} {x3 : Int} {h : HP} {Z : Int × HP} (hf : fX5_waysOf x1 x2 x3 h = some Z) : Ct (sdM l D ad cI) mX5_waysOf [.ref (ad 0), vi x1, vi x2, vi x3] h (ri Z) := by
  refine Ct.ofF nX5_waysOf rfl (loc := [(0, .ref (ad 0)), (1, vi x1), (2, vi x2), (3, vi x3)]) rfl ?_
  unfold fX5_waysOf at hf
  refine q_iloadn dX5_waysOf_0 1 rfl ?_
  refine q_if_ge hf dX5_waysOf_1 6 (by decide) (fun hf => ?_) (fun hf => ?_)
  · refine q_iconst dX5_waysOf_6 ?_
    refine q_istore dX5_waysOf_7 rfl (loc' := [(4, vi 0), (0, .ref (ad 0)), (1, vi x1), (2, vi x2), (3, vi x3)]) rfl ?_
    refine q_loc (loc' := [(0, .ref (ad 0)), (1, vi x1), (2, vi x2), (3, vi x3), (4, vi 0)]) [1, 2, 3, 4, 0] rfl ?_
    exact tX5_waysOf_9 FU x1 x2 x3 0 h hf
  · refine q_iconst dX5_waysOf_4 ?_
    exact q_iret hf rfl dX5_waysOf_5
def fX5_staying (x1 : Int) (x2 : Int) (x3 : Int) (h : HP) : Option (Int × HP) :=
  cl (fX5_in (wi x1) 1 8 h) fun r6 h6 => if wi r6 = 0 then (some ((-2), h6)) else (cl (fX5_in (wi x2) 0 8 h6) fun r18 h18 => if wi r18 = 0 then (some ((-2), h18)) else (cl (fX5_in (wi x3) 0 (wi (x1 * x2)) h18) fun r31 h31 => if wi r31 = 0 then (some ((-2), h31)) else (if wi (Int.tmod (wi ((x1 * x2) - x3)) (wi 2)) = 0 then (lt (Int.tdiv (wi ((x1 * x2) - x3)) (wi 2)) fun x4_59 => cl (fX5_waysOf x4_59 x1 x2 h31) fun r66 h66 => cl (fX5_waysOf (x4_59 - 1) x1 x2 h66) fun r76 h76 => some (r66 - r76, h76)) else (some (0, h31)))))
set_option maxRecDepth 20000 in
theorem ctX5_staying {l : Launch} {D : va_G} {ad : Nat → Nat} {cI : ClassId} {x1 : Int} {x2 : Int} {x3 : Int} {h : HP} {Z : Int × HP} (hf : fX5_staying x1 x2 x3 h = some Z) : Ct (sdM l D ad cI) mX5_staying [.ref (ad 0), vi x1, vi x2, vi x3] h (ri Z) := by
  refine Ct.ofF nX5_staying rfl (loc := [(0, .ref (ad 0)), (1, vi x1), (2, vi x2), (3, vi x3)]) rfl ?_
  unfold fX5_staying at hf
  refine q_iloadn dX5_staying_0 1 rfl ?_
  refine q_i2l dX5_staying_1 ?_
  refine q_lconst (n := 1) dX5_staying_2 (by decide) ?_
  refine q_ldc2 (n := 8) dX5_staying_3 kcX5_100 ?_
  obtain ⟨r6, h6, e6, hf⟩ := q_cl hf
  refine q_cSi (av := [vl (wi x1), vl 1, vl 8]) (rest := []) (ctX5_in e6) kX5_in uX5_in lkX5_62 rfl rfl rfl dX5_staying_6 ?_
  refine q_if_eq hf dX5_staying_9 37 (by decide) (fun hf => ?_) (fun hf => ?_)
  · refine q_bipush dX5_staying_37 (by decide) ?_
    exact q_iret hf rfl dX5_staying_39
  · refine q_iloadn dX5_staying_12 2 rfl ?_
    refine q_i2l dX5_staying_13 ?_
    refine q_lconst (n := 0) dX5_staying_14 (by decide) ?_
    refine q_ldc2 (n := 8) dX5_staying_15 kcX5_100 ?_
    obtain ⟨r18, h18, e18, hf⟩ := q_cl hf
    refine q_cSi (av := [vl (wi x2), vl 0, vl 8]) (rest := []) (ctX5_in e18) kX5_in uX5_in lkX5_62 rfl rfl rfl dX5_staying_18 ?_
    refine q_if_eq hf dX5_staying_21 37 (by decide) (fun hf => ?_) (fun hf => ?_)
    · refine q_bipush dX5_staying_37 (by decide) ?_
      exact q_iret hf rfl dX5_staying_39
    · refine q_iloadn dX5_staying_24 3 rfl ?_
      refine q_i2l dX5_staying_25 ?_
      refine q_lconst (n := 0) dX5_staying_26 (by decide) ?_
      refine q_iloadn dX5_staying_27 1 rfl ?_
      refine q_iloadn dX5_staying_28 2 rfl ?_
      refine q_imul dX5_staying_29 ?_
      refine q_i2l dX5_staying_30 ?_
      obtain ⟨r31, h31, e31, hf⟩ := q_cl hf
      refine q_cSi (av := [vl (wi x3), vl 0, vl (wi (x1 * x2))]) (rest := []) (ctX5_in e31) kX5_in uX5_in lkX5_62 rfl rfl rfl dX5_staying_31 ?_
      refine q_if_ne hf dX5_staying_34 40 (by decide) (fun hf => ?_) (fun hf => ?_)
      · refine q_iloadn dX5_staying_40 1 rfl ?_
        refine q_iloadn dX5_staying_41 2 rfl ?_
        refine q_imul dX5_staying_42 ?_
        refine q_iloadn dX5_staying_43 3 rfl ?_
        refine q_isub dX5_staying_44 ?_
        refine q_iconst dX5_staying_45 ?_
        refine q_irem dX5_staying_46 nz2 ?_
        refine q_if_eq hf dX5_staying_47 52 (by decide) (fun hf => ?_) (fun hf => ?_)
        · refine q_iloadn dX5_staying_52 1 rfl ?_
          refine q_iloadn dX5_staying_53 2 rfl ?_
          refine q_imul dX5_staying_54 ?_
          refine q_iloadn dX5_staying_55 3 rfl ?_
          refine q_isub dX5_staying_56 ?_
          refine q_iconst dX5_staying_57 ?_
          refine q_idiv dX5_staying_58 nz2 ?_
          refine q_lt hf (fun x4_59 hf => ?_)
          refine q_istore dX5_staying_59 rfl (loc' := [(4, vi x4_59), (0, .ref (ad 0)), (1, vi x1), (2, vi x2), (3, vi x3)]) rfl ?_
          refine q_aloadn dX5_staying_61 1 rfl ?_
          refine q_iload dX5_staying_62 0 rfl ?_
          refine q_iloadn dX5_staying_64 2 rfl ?_
          refine q_iloadn dX5_staying_65 3 rfl ?_
          obtain ⟨r66, h66, e66, hf⟩ := q_cl hf
          refine q_cVi (av := [vi x4_59, vi x1, vi x2]) (rest := []) wM_0 (ctX5_waysOf e66) kX5_waysOf vX5_waysOf zX5_waysOf lkX5_170 rfl rfl rfl rfl rfl dX5_staying_66 ?_
          refine q_aloadn dX5_staying_69 1 rfl ?_
          refine q_iload dX5_staying_70 0 rfl ?_
          refine q_iconst dX5_staying_72 ?_
          refine q_isub dX5_staying_73 ?_
          refine q_iloadn dX5_staying_74 2 rfl ?_
          refine q_iloadn dX5_staying_75 3 rfl ?_
          obtain ⟨r76, h76, e76, hf⟩ := q_cl hf
          refine q_cVi (av := [vi (x4_59 - 1), vi x1, vi x2]) (rest := [vi r66]) wM_0 (ctX5_waysOf e76) kX5_waysOf vX5_waysOf zX5_waysOf lkX5_170 rfl rfl rfl rfl rfl dX5_staying_76 ?_
          refine q_isub dX5_staying_79 ?_
          exact q_iret hf rfl dX5_staying_80
        · refine q_iconst dX5_staying_50 ?_
          exact q_iret hf rfl dX5_staying_51
      · refine q_bipush dX5_staying_37 (by decide) ?_
        exact q_iret hf rfl dX5_staying_39
def bX5_count_68 (self : Int → Int → HP → Option (Int × HP)) (x2 : Int) (x3 : Int) (h : HP) : Option (Int × HP) :=
  if wi x3 < wi 10 then (cl (fX5_isForm x3 h) fun r77 h77 => if wi r77 = 0 then (lt (x2 + 0) fun x2_89 => self x2_89 (x3 + 1) h77) else (lt (x2 + 1) fun x2_89 => self x2_89 (x3 + 1) h77)) else (some (x2, h))
def LX5_count_68 : Nat → Int → Int → HP → Option (Int × HP)
  | 0 => fun _ _ _ => none
  | n + 1 => bX5_count_68 (LX5_count_68 n)
set_option maxRecDepth 20000 in
theorem tX5_count_68 {l : Launch} {D : va_G} {ad : Nat → Nat} {cI : ClassId} {Z : Int × HP} : ∀ (n : Nat) (x2 : Int) (x3 : Int) (h : HP), LX5_count_68 n x2 x3 h = some Z → Rn (sdM l D ad cI) mX5_count (ri Z) 68 [(0, .ref (ad 0)), (2, vi x2), (3, vi x3)] [] h := by
  intro n
  induction n with
  | zero => intro x2 x3 h hf; cases hf
  | succ n ih =>
    intro x2 x3 h hf
    replace hf : bX5_count_68 (LX5_count_68 n) x2 x3 h = some Z := hf
    unfold bX5_count_68 at hf
    refine q_iloadn dX5_count_68 2 rfl ?_
    refine q_bipush dX5_count_69 (by decide) ?_
    refine q_icmp_ge hf dX5_count_71 96 (by decide) (fun hf => ?_) (fun hf => ?_)
    · refine q_iloadn dX5_count_96 1 rfl ?_
      exact q_iret hf rfl dX5_count_97
    · refine q_iloadn dX5_count_74 1 rfl ?_
      refine q_aloadn dX5_count_75 0 rfl ?_
      refine q_iloadn dX5_count_76 2 rfl ?_
      obtain ⟨r77, h77, e77, hf⟩ := q_cl hf
      refine q_cVi (av := [vi x3]) (rest := [vi x2]) wM_0 (ctX5_isForm e77) kX5_isForm vX5_isForm zX5_isForm lkX5_90 rfl rfl rfl rfl rfl dX5_count_77 ?_
      refine q_if_eq hf dX5_count_80 87 (by decide) (fun hf => ?_) (fun hf => ?_)
      · refine q_iconst dX5_count_87 ?_
        refine q_iadd dX5_count_88 ?_
        refine q_lt hf (fun x2_89 hf => ?_)
        refine q_istoren dX5_count_89 rfl (loc' := [(2, vi x2_89), (0, .ref (ad 0)), (3, vi x3)]) rfl ?_
        refine q_iinc dX5_count_90 2 rfl rfl (loc' := [(3, vi (x3 + 1)), (2, vi x2_89), (0, .ref (ad 0))]) rfl ?_
        refine q_goto dX5_count_93 68 (by decide) ?_
        refine q_loc (loc' := [(0, .ref (ad 0)), (2, vi x2_89), (3, vi (x3 + 1))]) [2, 1, 0] rfl ?_
        exact ih x2_89 (x3 + 1) h77 hf
      · refine q_iconst dX5_count_83 ?_
        refine q_goto dX5_count_84 88 (by decide) ?_
        refine q_iadd dX5_count_88 ?_
        refine q_lt hf (fun x2_89 hf => ?_)
        refine q_istoren dX5_count_89 rfl (loc' := [(2, vi x2_89), (0, .ref (ad 0)), (3, vi x3)]) rfl ?_
        refine q_iinc dX5_count_90 2 rfl rfl (loc' := [(3, vi (x3 + 1)), (2, vi x2_89), (0, .ref (ad 0))]) rfl ?_
        refine q_goto dX5_count_93 68 (by decide) ?_
        refine q_loc (loc' := [(0, .ref (ad 0)), (2, vi x2_89), (3, vi (x3 + 1))]) [2, 1, 0] rfl ?_
        exact ih x2_89 (x3 + 1) h77 hf
def bX5_count_30 (self : Int → Int → HP → Option (Int × HP)) (x2 : Int) (x3 : Int) (h : HP) : Option (Int × HP) :=
  if wi x3 < wi 10 then (ld (lnM 1) (h 1) x3 fun v42 => if wi v42 < 0 then (lt (x2 + 0) fun x2_52 => self x2_52 (x3 + 1) h) else (lt (x2 + 1) fun x2_52 => self x2_52 (x3 + 1) h)) else (some (x2, h))
def LX5_count_30 : Nat → Int → Int → HP → Option (Int × HP)
  | 0 => fun _ _ _ => none
  | n + 1 => bX5_count_30 (LX5_count_30 n)
set_option maxRecDepth 20000 in
theorem tX5_count_30 {l : Launch} {D : va_G} {ad : Nat → Nat} {cI : ClassId} {Z : Int × HP} : ∀ (n : Nat) (x2 : Int) (x3 : Int) (h : HP), LX5_count_30 n x2 x3 h = some Z → Rn (sdM l D ad cI) mX5_count (ri Z) 30 [(0, .ref (ad 0)), (2, vi x2), (3, vi x3)] [] h := by
  intro n
  induction n with
  | zero => intro x2 x3 h hf; cases hf
  | succ n ih =>
    intro x2 x3 h hf
    replace hf : bX5_count_30 (LX5_count_30 n) x2 x3 h = some Z := hf
    unfold bX5_count_30 at hf
    refine q_iloadn dX5_count_30 2 rfl ?_
    refine q_bipush dX5_count_31 (by decide) ?_
    refine q_icmp_ge hf dX5_count_33 59 (by decide) (fun hf => ?_) (fun hf => ?_)
    · refine q_iloadn dX5_count_59 1 rfl ?_
      exact q_iret hf rfl dX5_count_60
    · refine q_iloadn dX5_count_36 1 rfl ?_
      refine q_aloadn dX5_count_37 0 rfl ?_
      refine M_g5_0 flX5_7 dX5_count_38 ?_
      refine q_iloadn dX5_count_41 2 rfl ?_
      refine M_ld rfl hf dX5_count_42 (fun v42 hf => ?_)
      refine q_if_ge hf dX5_count_43 50 (by decide) (fun hf => ?_) (fun hf => ?_)
      · refine q_iconst dX5_count_50 ?_
        refine q_iadd dX5_count_51 ?_
        refine q_lt hf (fun x2_52 hf => ?_)
        refine q_istoren dX5_count_52 rfl (loc' := [(2, vi x2_52), (0, .ref (ad 0)), (3, vi x3)]) rfl ?_
        refine q_iinc dX5_count_53 2 rfl rfl (loc' := [(3, vi (x3 + 1)), (2, vi x2_52), (0, .ref (ad 0))]) rfl ?_
        refine q_goto dX5_count_56 30 (by decide) ?_
        refine q_loc (loc' := [(0, .ref (ad 0)), (2, vi x2_52), (3, vi (x3 + 1))]) [2, 1, 0] rfl ?_
        exact ih x2_52 (x3 + 1) h hf
      · refine q_iconst dX5_count_46 ?_
        refine q_goto dX5_count_47 51 (by decide) ?_
        refine q_iadd dX5_count_51 ?_
        refine q_lt hf (fun x2_52 hf => ?_)
        refine q_istoren dX5_count_52 rfl (loc' := [(2, vi x2_52), (0, .ref (ad 0)), (3, vi x3)]) rfl ?_
        refine q_iinc dX5_count_53 2 rfl rfl (loc' := [(3, vi (x3 + 1)), (2, vi x2_52), (0, .ref (ad 0))]) rfl ?_
        refine q_goto dX5_count_56 30 (by decide) ?_
        refine q_loc (loc' := [(0, .ref (ad 0)), (2, vi x2_52), (3, vi (x3 + 1))]) [2, 1, 0] rfl ?_
        exact ih x2_52 (x3 + 1) h hf
def fX5_count (x1 : Int) (h : HP) : Option (Int × HP) :=
  if wi x1 = 0 then (LX5_count_30 FU 0 0 h) else (if wi x1 = 1 then (some (h 0 4, h)) else (if wi x1 = 2 then (LX5_count_68 FU 0 0 h) else (some ((-2), h))))
set_option maxRecDepth 20000 in
theorem ctX5_count {l : Launch} {D : va_G} {ad : Nat → Nat} {cI : ClassId} {x1 : Int} {h : HP} {Z : Int × HP} (hf : fX5_count x1 h = some Z) : Ct (sdM l D ad cI) mX5_count [.ref (ad 0), vi x1] h (ri Z) := by
  refine Ct.ofF nX5_count rfl (loc := [(0, .ref (ad 0)), (1, vi x1)]) rfl ?_
  unfold fX5_count at hf
  refine q_iconst dX5_count_0 ?_
  refine q_istoren dX5_count_1 rfl (loc' := [(2, vi 0), (0, .ref (ad 0)), (1, vi x1)]) rfl ?_
  refine q_iloadn dX5_count_2 2 rfl ?_
  by_cases c3_0 : wi x1 = 0
  · rw [if_pos c3_0] at hf
    refine q_tswIn 0 c3_0 dX5_count_3 (by decide) (by decide) rfl 28 (by decide) ?_
    refine q_iconst dX5_count_28 ?_
    refine q_istoren dX5_count_29 rfl (loc' := [(3, vi 0), (2, vi 0), (0, .ref (ad 0)), (1, vi x1)]) rfl ?_
    refine q_loc (loc' := [(0, .ref (ad 0)), (2, vi 0), (3, vi 0)]) [2, 1, 0] rfl ?_
    exact tX5_count_30 FU 0 0 h hf
  · rw [if_neg c3_0] at hf
    by_cases c3_1 : wi x1 = 1
    · rw [if_pos c3_1] at hf
      refine q_tswIn 1 c3_1 dX5_count_3 (by decide) (by decide) rfl 61 (by decide) ?_
      refine q_aloadn dX5_count_61 1 rfl ?_
      refine M_g5_4 flX5_56 dX5_count_62 ?_
      exact q_iret hf rfl dX5_count_65
    · rw [if_neg c3_1] at hf
      by_cases c3_2 : wi x1 = 2
      · rw [if_pos c3_2] at hf
        refine q_tswIn 2 c3_2 dX5_count_3 (by decide) (by decide) rfl 66 (by decide) ?_
        refine q_iconst dX5_count_66 ?_
        refine q_istoren dX5_count_67 rfl (loc' := [(3, vi 0), (2, vi 0), (0, .ref (ad 0)), (1, vi x1)]) rfl ?_
        refine q_loc (loc' := [(0, .ref (ad 0)), (2, vi 0), (3, vi 0)]) [2, 1, 0] rfl ?_
        exact tX5_count_68 FU 0 0 h hf
      · rw [if_neg c3_2] at hf
        refine q_tswOut (by omega) dX5_count_3 98 (by decide) ?_
        refine q_bipush dX5_count_98 (by decide) ?_
        exact q_iret hf rfl dX5_count_100
def bX5_digest_75 (k32 : Int → Int → HP → Option (Int × HP)) (self : Int → Int → Int → HP → Option (Int × HP)) (x1 : Int) (x3 : Int) (x4 : Int) (h : HP) : Option (Int × HP) :=
  if wi x4 ≤ wi (h 0 6) then (ld (lnM 5) (h 5) x4 fun v95 => lt ((31 * x1) + (wi v95)) fun x1_98 => self x1_98 x3 (x4 + 1) h) else (k32 x1 (x3 + 1) h)
def LX5_digest_75 (k32 : Int → Int → HP → Option (Int × HP)) : Nat → Int → Int → Int → HP → Option (Int × HP)
  | 0 => fun _ _ _ _ => none
  | n + 1 => bX5_digest_75 k32 (LX5_digest_75 k32 n)
set_option maxRecDepth 20000 in
theorem tX5_digest_75 {l : Launch} {D : va_G} {ad : Nat → Nat} {cI : ClassId} {Z : Int × HP} {k32 : Int → Int → HP → Option (Int × HP)} (hk32 : ∀ (x1 : Int) (x3 : Int) (h : HP), k32 x1 x3 h = some Z → Rn (sdM l D ad cI) mX5_digest (rl Z) 32 [(0, .ref (ad 0)), (1, vl x1), (3, vi x3)] [] h) : ∀ (n : Nat) (x1 : Int) (x3 : Int) (x4 : Int) (h : HP), LX5_digest_75 k32 n x1 x3 x4 h = some Z → Rn (sdM l D ad cI) mX5_digest (rl Z) 75 [(0, .ref (ad 0)), (1, vl x1), (3, vi x3), (4, vi x4)] [] h := by
  intro n
  induction n with
  | zero => intro x1 x3 x4 h hf; cases hf
  | succ n ih =>
    intro x1 x3 x4 h hf
    replace hf : bX5_digest_75 k32 (LX5_digest_75 k32 n) x1 x3 x4 h = some Z := hf
    unfold bX5_digest_75 at hf
    refine q_iload dX5_digest_75 3 rfl ?_
    refine q_aloadn dX5_digest_77 0 rfl ?_
    refine M_g5_6 flX5_81 dX5_digest_78 ?_
    refine q_icmp_gt hf dX5_digest_81 105 (by decide) (fun hf => ?_) (fun hf => ?_)
    · refine q_iinc dX5_digest_105 2 rfl rfl (loc' := [(3, vi (x3 + 1)), (0, .ref (ad 0)), (1, vl x1), (4, vi x4)]) rfl ?_
      refine q_goto dX5_digest_108 32 (by decide) ?_
      refine q_loc (loc' := [(0, .ref (ad 0)), (1, vl x1), (3, vi (x3 + 1))]) [1, 2, 0] rfl ?_
      exact hk32 x1 (x3 + 1) h hf
    · refine q_ldc2 (n := 31) dX5_digest_84 kcX5_175 ?_
      refine q_lloadn dX5_digest_87 1 rfl ?_
      refine q_lmul dX5_digest_88 ?_
      refine q_aloadn dX5_digest_89 0 rfl ?_
      refine M_g5_5 flX5_22 dX5_digest_90 ?_
      refine q_iload dX5_digest_93 3 rfl ?_
      refine M_ld rfl hf dX5_digest_95 (fun v95 hf => ?_)
      refine q_i2l dX5_digest_96 ?_
      refine q_ladd dX5_digest_97 ?_
      refine q_ltl hf (fun x1_98 hf => ?_)
      refine q_lstoren dX5_digest_98 rfl (loc' := [(1, vl x1_98), (0, .ref (ad 0)), (3, vi x3), (4, vi x4)]) rfl ?_
      refine q_iinc dX5_digest_99 3 rfl rfl (loc' := [(4, vi (x4 + 1)), (1, vl x1_98), (0, .ref (ad 0)), (3, vi x3)]) rfl ?_
      refine q_goto dX5_digest_102 75 (by decide) ?_
      refine q_loc (loc' := [(0, .ref (ad 0)), (1, vl x1_98), (3, vi x3), (4, vi (x4 + 1))]) [2, 1, 3, 0] rfl ?_
      exact ih x1_98 x3 (x4 + 1) h hf
def bX5_digest_32 (self : Int → Int → HP → Option (Int × HP)) (x1 : Int) (x3 : Int) (h : HP) : Option (Int × HP) :=
  if wi x3 < wi 10 then (cl (fX5_isForm x3 h) fun r40 h40 => if wi r40 = 0 then (self x1 (x3 + 1) h40) else (cl (fX5_takeF x3 h40) fun _ h48 => lt ((31 * x1) + (wi x3)) fun x1_59 => lt ((31 * x1_59) + (wi (h48 0 6))) fun x1_71 => LX5_digest_75 self FU x1_71 x3 0 h48)) else (some (x1, h))
def LX5_digest_32 : Nat → Int → Int → HP → Option (Int × HP)
  | 0 => fun _ _ _ => none
  | n + 1 => bX5_digest_32 (LX5_digest_32 n)
set_option maxRecDepth 20000 in
theorem tX5_digest_32 {l : Launch} {D : va_G} {ad : Nat → Nat} {cI : ClassId} {Z : Int × HP} : ∀ (n : Nat) (x1 : Int) (x3 : Int) (h : HP), LX5_digest_32 n x1 x3 h = some Z → Rn (sdM l D ad cI) mX5_digest (rl Z) 32 [(0, .ref (ad 0)), (1, vl x1), (3, vi x3)] [] h := by
  intro n
  induction n with
  | zero => intro x1 x3 h hf; cases hf
  | succ n ih =>
    intro x1 x3 h hf
    replace hf : bX5_digest_32 (LX5_digest_32 n) x1 x3 h = some Z := hf
    unfold bX5_digest_32 at hf
    refine q_iloadn dX5_digest_32 2 rfl ?_
    refine q_bipush dX5_digest_33 (by decide) ?_
    refine q_icmp_ge hf dX5_digest_35 111 (by decide) (fun hf => ?_) (fun hf => ?_)
    · refine q_lloadn dX5_digest_111 1 rfl ?_
      exact q_lret hf rfl dX5_digest_112
    · refine q_aloadn dX5_digest_38 0 rfl ?_
      refine q_iloadn dX5_digest_39 2 rfl ?_
      obtain ⟨r40, h40, e40, hf⟩ := q_cl hf
      refine q_cVi (av := [vi x3]) (rest := []) wM_0 (ctX5_isForm e40) kX5_isForm vX5_isForm zX5_isForm lkX5_90 rfl rfl rfl rfl rfl dX5_digest_40 ?_
      refine q_if_eq hf dX5_digest_43 105 (by decide) (fun hf => ?_) (fun hf => ?_)
      · refine q_iinc dX5_digest_105 2 rfl rfl (loc' := [(3, vi (x3 + 1)), (0, .ref (ad 0)), (1, vl x1)]) rfl ?_
        refine q_goto dX5_digest_108 32 (by decide) ?_
        refine q_loc (loc' := [(0, .ref (ad 0)), (1, vl x1), (3, vi (x3 + 1))]) [1, 2, 0] rfl ?_
        exact ih x1 (x3 + 1) h40 hf
      · refine q_aloadn dX5_digest_46 0 rfl ?_
        refine q_iloadn dX5_digest_47 2 rfl ?_
        obtain ⟨r48, h48, e48, hf⟩ := q_cl hf
        refine q_cVv (av := [vi x3]) (rest := []) wM_0 (ctX5_takeF e48) kX5_takeF vX5_takeF zX5_takeF lkX5_93 rfl rfl rfl rfl rfl dX5_digest_48 ?_
        refine q_ldc2 (n := 31) dX5_digest_51 kcX5_175 ?_
        refine q_lloadn dX5_digest_54 1 rfl ?_
        refine q_lmul dX5_digest_55 ?_
        refine q_iloadn dX5_digest_56 2 rfl ?_
        refine q_i2l dX5_digest_57 ?_
        refine q_ladd dX5_digest_58 ?_
        refine q_ltl hf (fun x1_59 hf => ?_)
        refine q_lstoren dX5_digest_59 rfl (loc' := [(1, vl x1_59), (0, .ref (ad 0)), (3, vi x3)]) rfl ?_
        refine q_ldc2 (n := 31) dX5_digest_60 kcX5_175 ?_
        refine q_lloadn dX5_digest_63 0 rfl ?_
        refine q_lmul dX5_digest_64 ?_
        refine q_aloadn dX5_digest_65 1 rfl ?_
        refine M_g5_6 flX5_81 dX5_digest_66 ?_
        refine q_i2l dX5_digest_69 ?_
        refine q_ladd dX5_digest_70 ?_
        refine q_ltl hf (fun x1_71 hf => ?_)
        refine q_lstoren dX5_digest_71 rfl (loc' := [(1, vl x1_71), (0, .ref (ad 0)), (3, vi x3)]) rfl ?_
        refine q_iconst dX5_digest_72 ?_
        refine q_istore dX5_digest_73 rfl (loc' := [(4, vi 0), (1, vl x1_71), (0, .ref (ad 0)), (3, vi x3)]) rfl ?_
        refine q_loc (loc' := [(0, .ref (ad 0)), (1, vl x1_71), (3, vi x3), (4, vi 0)]) [2, 1, 3, 0] rfl ?_
        exact tX5_digest_75 ih FU x1_71 x3 0 h48 hf
def fX5_digest (h : HP) : Option (Int × HP) :=
  cl (fX5_count 0 h) fun r11 h11 => lt ((31 * 17) + (wi r11)) fun x1_16 => cl (fX5_count 2 h11) fun r24 h24 => lt ((31 * x1_16) + (wi r24)) fun x1_29 => LX5_digest_32 FU x1_29 0 h24
set_option maxRecDepth 20000 in
theorem ctX5_digest {l : Launch} {D : va_G} {ad : Nat → Nat} {cI : ClassId} {h : HP} {Z : Int × HP} (hf : fX5_digest h = some Z) : Ct (sdM l D ad cI) mX5_digest [.ref (ad 0)] h (rl Z) := by
  refine Ct.ofF nX5_digest rfl (loc := [(0, .ref (ad 0))]) rfl ?_
  unfold fX5_digest at hf
  refine q_ldc2 (n := 17) dX5_digest_0 kcX5_173 ?_
  refine q_lstoren dX5_digest_3 rfl (loc' := [(1, vl 17), (0, .ref (ad 0))]) rfl ?_
  refine q_ldc2 (n := 31) dX5_digest_4 kcX5_175 ?_
  refine q_lloadn dX5_digest_7 0 rfl ?_
  refine q_lmul dX5_digest_8 ?_
  refine q_aloadn dX5_digest_9 1 rfl ?_
  refine q_iconst dX5_digest_10 ?_
  obtain ⟨r11, h11, e11, hf⟩ := q_cl hf
  refine q_cVi (av := [vi 0]) (rest := [vl (31 * 17)]) wM_0 (ctX5_count e11) kX5_count vX5_count zX5_count lkX5_177 rfl rfl rfl rfl rfl dX5_digest_11 ?_
  refine q_i2l dX5_digest_14 ?_
  refine q_ladd dX5_digest_15 ?_
  refine q_ltl hf (fun x1_16 hf => ?_)
  refine q_lstoren dX5_digest_16 rfl (loc' := [(1, vl x1_16), (0, .ref (ad 0))]) rfl ?_
  refine q_ldc2 (n := 31) dX5_digest_17 kcX5_175 ?_
  refine q_lloadn dX5_digest_20 0 rfl ?_
  refine q_lmul dX5_digest_21 ?_
  refine q_aloadn dX5_digest_22 1 rfl ?_
  refine q_iconst dX5_digest_23 ?_
  obtain ⟨r24, h24, e24, hf⟩ := q_cl hf
  refine q_cVi (av := [vi 2]) (rest := [vl (31 * x1_16)]) wM_0 (ctX5_count e24) kX5_count vX5_count zX5_count lkX5_177 rfl rfl rfl rfl rfl dX5_digest_24 ?_
  refine q_i2l dX5_digest_27 ?_
  refine q_ladd dX5_digest_28 ?_
  refine q_ltl hf (fun x1_29 hf => ?_)
  refine q_lstoren dX5_digest_29 rfl (loc' := [(1, vl x1_29), (0, .ref (ad 0))]) rfl ?_
  refine q_iconst dX5_digest_30 ?_
  refine q_istoren dX5_digest_31 rfl (loc' := [(3, vi 0), (1, vl x1_29), (0, .ref (ad 0))]) rfl ?_
  refine q_loc (loc' := [(0, .ref (ad 0)), (1, vl x1_29), (3, vi 0)]) [2, 1, 0] rfl ?_
  exact tX5_digest_32 FU x1_29 0 h24 hf
