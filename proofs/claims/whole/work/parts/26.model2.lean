def bX5_mixes_116 (k62 : Int → Int → Int → Int → Int → Int → HP → Option (Int × HP)) (self : Int → Int → Int → Int → Int → Int → Int → Int → Int → HP → Option (Int × HP)) (x1 : Int) (x2 : Int) (x3 : Int) (x4 : Int) (x5 : Int) (x6 : Int) (x7 : Int) (x8 : Int) (x9 : Int) (h : HP) : Option (Int × HP) :=
  if 0 ≤ wi x9 then (ld (lnM 8) (h 8) x9 fun v133 => if 0 < wi x9 then (ld (lnM 8) (h 8) (x9 - 1) fun v152 => cl (fX5_mod (((wi v133) * (wi x7)) + ((wi v152) * (wi x8))) h) fun r163 h163 => sto (lnM 8) h163 8 x9 r163 fun h166 => self x1 x2 x3 x4 x5 x6 x7 x8 (x9 + (-1)) h166) else (cl (fX5_mod (((wi v133) * (wi x7)) + 0) h) fun r163 h163 => sto (lnM 8) h163 8 x9 r163 fun h166 => self x1 x2 x3 x4 x5 x6 x7 x8 (x9 + (-1)) h166)) else (k62 x1 x2 x3 x4 x5 (x6 + 1) h)
def LX5_mixes_116 (k62 : Int → Int → Int → Int → Int → Int → HP → Option (Int × HP)) : Nat → Int → Int → Int → Int → Int → Int → Int → Int → Int → HP → Option (Int × HP)
  | 0 => fun _ _ _ _ _ _ _ _ _ _ => none
  | n + 1 => bX5_mixes_116 k62 (LX5_mixes_116 k62 n)
set_option maxRecDepth 20000 in
theorem tX5_mixes_116 {l : Launch} {D : va_G} {ad : Nat → Nat} {cI : ClassId} {Z : Int × HP} {k62 : Int → Int → Int → Int → Int → Int → HP → Option (Int × HP)} (hk62 : ∀ (x1 : Int) (x2 : Int) (x3 : Int) (x4 : Int) (x5 : Int) (x6 : Int) (h : HP), k62 x1 x2 x3 x4 x5 x6 h = some Z → Rn (sdM l D ad cI) mX5_mixes (rv Z) 62 [(0, .ref (ad 0)), (1, vi x1), (2, vi x2), (3, vi x3), (4, vi x4), (5, vi x5), (6, vi x6)] [] h) : ∀ (n : Nat) (x1 : Int) (x2 : Int) (x3 : Int) (x4 : Int) (x5 : Int) (x6 : Int) (x7 : Int) (x8 : Int) (x9 : Int) (h : HP), LX5_mixes_116 k62 n x1 x2 x3 x4 x5 x6 x7 x8 x9 h = some Z → Rn (sdM l D ad cI) mX5_mixes (rv Z) 116 [(0, .ref (ad 0)), (1, vi x1), (2, vi x2), (3, vi x3), (4, vi x4), (5, vi x5), (6, vi x6), (7, vi x7), (8, vi x8), (9, vi x9)] [] h := by
  intro n
  induction n with
  | zero => intro x1 x2 x3 x4 x5 x6 x7 x8 x9 h hf; cases hf
  | succ n ih =>
    intro x1 x2 x3 x4 x5 x6 x7 x8 x9 h hf
    replace hf : bX5_mixes_116 k62 (LX5_mixes_116 k62 n) x1 x2 x3 x4 x5 x6 x7 x8 x9 h = some Z := hf
    unfold bX5_mixes_116 at hf
    refine q_iload dX5_mixes_116 9 rfl ?_
    refine q_if_lt hf dX5_mixes_118 173 (by decide) (fun hf => ?_) (fun hf => ?_)
    · refine q_iinc dX5_mixes_173 6 rfl rfl (loc' := [(6, vi (x6 + 1)), (0, .ref (ad 0)), (1, vi x1), (2, vi x2), (3, vi x3), (4, vi x4), (5, vi x5), (7, vi x7), (8, vi x8), (9, vi x9)]) rfl ?_
      refine q_goto dX5_mixes_176 62 (by decide) ?_
      refine q_loc (loc' := [(0, .ref (ad 0)), (1, vi x1), (2, vi x2), (3, vi x3), (4, vi x4), (5, vi x5), (6, vi (x6 + 1))]) [1, 2, 3, 4, 5, 6, 0] rfl ?_
      exact hk62 x1 x2 x3 x4 x5 (x6 + 1) h hf
    · refine q_aloadn dX5_mixes_121 0 rfl ?_
      refine M_g5_11 flX5_31 dX5_mixes_122 ?_
      refine q_iload dX5_mixes_125 9 rfl ?_
      refine q_aloadn dX5_mixes_127 0 rfl ?_
      refine M_g5_11 flX5_31 dX5_mixes_128 ?_
      refine q_iload dX5_mixes_131 9 rfl ?_
      refine M_ld rfl hf dX5_mixes_133 (fun v133 hf => ?_)
      refine q_i2l dX5_mixes_134 ?_
      refine q_iload dX5_mixes_135 7 rfl ?_
      refine q_i2l dX5_mixes_137 ?_
      refine q_lmul dX5_mixes_138 ?_
      refine q_iload dX5_mixes_139 9 rfl ?_
      refine q_if_le hf dX5_mixes_141 161 (by decide) (fun hf => ?_) (fun hf => ?_)
      · refine q_lconst (n := 0) dX5_mixes_161 (by decide) ?_
        refine q_ladd dX5_mixes_162 ?_
        obtain ⟨r163, h163, e163, hf⟩ := q_cl hf
        refine q_cSi (av := [vl (((wi v133) * (wi x7)) + 0)]) (rest := [vi x9, .ref (ad 8)]) (ctX5_mod e163) kX5_mod uX5_mod lkX5_48 rfl rfl rfl dX5_mixes_163 ?_
        refine M_st rfl hf dX5_mixes_166 (fun h166 hf => ?_)
        refine q_iinc dX5_mixes_167 9 rfl rfl (loc' := [(9, vi (x9 + (-1))), (0, .ref (ad 0)), (1, vi x1), (2, vi x2), (3, vi x3), (4, vi x4), (5, vi x5), (6, vi x6), (7, vi x7), (8, vi x8)]) rfl ?_
        refine q_goto dX5_mixes_170 116 (by decide) ?_
        refine q_loc (loc' := [(0, .ref (ad 0)), (1, vi x1), (2, vi x2), (3, vi x3), (4, vi x4), (5, vi x5), (6, vi x6), (7, vi x7), (8, vi x8), (9, vi (x9 + (-1)))]) [1, 2, 3, 4, 5, 6, 7, 8, 9, 0] rfl ?_
        exact ih x1 x2 x3 x4 x5 x6 x7 x8 (x9 + (-1)) h166 hf
      · refine q_aloadn dX5_mixes_144 0 rfl ?_
        refine M_g5_11 flX5_31 dX5_mixes_145 ?_
        refine q_iload dX5_mixes_148 9 rfl ?_
        refine q_iconst dX5_mixes_150 ?_
        refine q_isub dX5_mixes_151 ?_
        refine M_ld rfl hf dX5_mixes_152 (fun v152 hf => ?_)
        refine q_i2l dX5_mixes_153 ?_
        refine q_iload dX5_mixes_154 8 rfl ?_
        refine q_i2l dX5_mixes_156 ?_
        refine q_lmul dX5_mixes_157 ?_
        refine q_goto dX5_mixes_158 162 (by decide) ?_
        refine q_ladd dX5_mixes_162 ?_
        obtain ⟨r163, h163, e163, hf⟩ := q_cl hf
        refine q_cSi (av := [vl (((wi v133) * (wi x7)) + ((wi v152) * (wi x8)))]) (rest := [vi x9, .ref (ad 8)]) (ctX5_mod e163) kX5_mod uX5_mod lkX5_48 rfl rfl rfl dX5_mixes_163 ?_
        refine M_st rfl hf dX5_mixes_166 (fun h166 hf => ?_)
        refine q_iinc dX5_mixes_167 9 rfl rfl (loc' := [(9, vi (x9 + (-1))), (0, .ref (ad 0)), (1, vi x1), (2, vi x2), (3, vi x3), (4, vi x4), (5, vi x5), (6, vi x6), (7, vi x7), (8, vi x8)]) rfl ?_
        refine q_goto dX5_mixes_170 116 (by decide) ?_
        refine q_loc (loc' := [(0, .ref (ad 0)), (1, vi x1), (2, vi x2), (3, vi x3), (4, vi x4), (5, vi x5), (6, vi x6), (7, vi x7), (8, vi x8), (9, vi (x9 + (-1)))]) [1, 2, 3, 4, 5, 6, 7, 8, 9, 0] rfl ?_
        exact ih x1 x2 x3 x4 x5 x6 x7 x8 (x9 + (-1)) h166 hf
def jX5_mixes_88 (k62 : Int → Int → Int → Int → Int → Int → HP → Option (Int × HP)) (x1 : Int) (x2 : Int) (x3 : Int) (x4 : Int) (x5 : Int) (x6 : Int) (s0 : Int) (h : HP) : Option (Int × HP) :=
  if wi x6 < wi ((h 0 6) - x5) then (lt (x6 + 1) fun x9_114 => LX5_mixes_116 k62 FU x1 x2 x3 x4 x5 x6 s0 x2 x9_114 h) else (lt (x6 + 1) fun x9_114 => LX5_mixes_116 k62 FU x1 x2 x3 x4 x5 x6 s0 x4 x9_114 h)
set_option maxRecDepth 20000 in
theorem tX5_mixes_88 {l : Launch} {D : va_G} {ad : Nat → Nat} {cI : ClassId} {Z : Int × HP} {k62 : Int → Int → Int → Int → Int → Int → HP → Option (Int × HP)} (hk62 : ∀ (x1 : Int) (x2 : Int) (x3 : Int) (x4 : Int) (x5 : Int) (x6 : Int) (h : HP), k62 x1 x2 x3 x4 x5 x6 h = some Z → Rn (sdM l D ad cI) mX5_mixes (rv Z) 62 [(0, .ref (ad 0)), (1, vi x1), (2, vi x2), (3, vi x3), (4, vi x4), (5, vi x5), (6, vi x6)] [] h) (x1 : Int) (x2 : Int) (x3 : Int) (x4 : Int) (x5 : Int) (x6 : Int) (s0 : Int) (h : HP) (hf : jX5_mixes_88 k62 x1 x2 x3 x4 x5 x6 s0 h = some Z) : Rn (sdM l D ad cI) mX5_mixes (rv Z) 88 [(0, .ref (ad 0)), (1, vi x1), (2, vi x2), (3, vi x3), (4, vi x4), (5, vi x5), (6, vi x6)] [vi s0] h := by
  unfold jX5_mixes_88 at hf
  refine q_istore dX5_mixes_88 rfl (loc' := [(7, vi s0), (0, .ref (ad 0)), (1, vi x1), (2, vi x2), (3, vi x3), (4, vi x4), (5, vi x5), (6, vi x6)]) rfl ?_
  refine q_iload dX5_mixes_90 7 rfl ?_
  refine q_aloadn dX5_mixes_92 1 rfl ?_
  refine M_g5_6 flX5_81 dX5_mixes_93 ?_
  refine q_iload dX5_mixes_96 6 rfl ?_
  refine q_isub dX5_mixes_98 ?_
  refine q_icmp_ge hf dX5_mixes_99 106 (by decide) (fun hf => ?_) (fun hf => ?_)
  · refine q_iload dX5_mixes_106 5 rfl ?_
    refine q_istore dX5_mixes_108 rfl (loc' := [(8, vi x4), (7, vi s0), (0, .ref (ad 0)), (1, vi x1), (2, vi x2), (3, vi x3), (4, vi x4), (5, vi x5), (6, vi x6)]) rfl ?_
    refine q_iload dX5_mixes_110 8 rfl ?_
    refine q_iconst dX5_mixes_112 ?_
    refine q_iadd dX5_mixes_113 ?_
    refine q_lt hf (fun x9_114 hf => ?_)
    refine q_istore dX5_mixes_114 rfl (loc' := [(9, vi x9_114), (8, vi x4), (7, vi s0), (0, .ref (ad 0)), (1, vi x1), (2, vi x2), (3, vi x3), (4, vi x4), (5, vi x5), (6, vi x6)]) rfl ?_
    refine q_loc (loc' := [(0, .ref (ad 0)), (1, vi x1), (2, vi x2), (3, vi x3), (4, vi x4), (5, vi x5), (6, vi x6), (7, vi s0), (8, vi x4), (9, vi x9_114)]) [3, 4, 5, 6, 7, 8, 9, 2, 1, 0] rfl ?_
    exact tX5_mixes_116 hk62 FU x1 x2 x3 x4 x5 x6 s0 x4 x9_114 h hf
  · refine q_iloadn dX5_mixes_102 3 rfl ?_
    refine q_goto dX5_mixes_103 108 (by decide) ?_
    refine q_istore dX5_mixes_108 rfl (loc' := [(8, vi x2), (7, vi s0), (0, .ref (ad 0)), (1, vi x1), (2, vi x2), (3, vi x3), (4, vi x4), (5, vi x5), (6, vi x6)]) rfl ?_
    refine q_iload dX5_mixes_110 8 rfl ?_
    refine q_iconst dX5_mixes_112 ?_
    refine q_iadd dX5_mixes_113 ?_
    refine q_lt hf (fun x9_114 hf => ?_)
    refine q_istore dX5_mixes_114 rfl (loc' := [(9, vi x9_114), (8, vi x2), (7, vi s0), (0, .ref (ad 0)), (1, vi x1), (2, vi x2), (3, vi x3), (4, vi x4), (5, vi x5), (6, vi x6)]) rfl ?_
    refine q_loc (loc' := [(0, .ref (ad 0)), (1, vi x1), (2, vi x2), (3, vi x3), (4, vi x4), (5, vi x5), (6, vi x6), (7, vi s0), (8, vi x2), (9, vi x9_114)]) [3, 4, 5, 6, 7, 8, 9, 2, 1, 0] rfl ?_
    exact tX5_mixes_116 hk62 FU x1 x2 x3 x4 x5 x6 s0 x2 x9_114 h hf
def bX5_mixes_182 (k11 : Int → Int → Int → Int → Int → HP → Option (Int × HP)) (self : Int → Int → Int → Int → Int → Int → HP → Option (Int × HP)) (x1 : Int) (x2 : Int) (x3 : Int) (x4 : Int) (x5 : Int) (x6 : Int) (h : HP) : Option (Int × HP) :=
  if wi x6 ≤ wi (h 0 6) then (ld (lnM 7) (h 7) x6 fun v203 => ld (lnM 8) (h 8) x6 fun v210 => cl (fX5_mod (wi (v203 + v210)) h) fun r213 h213 => sto (lnM 7) h213 7 x6 r213 fun h216 => self x1 x2 x3 x4 x5 (x6 + 1) h216) else (k11 x1 x2 x3 x4 (x5 + 1) h)
def LX5_mixes_182 (k11 : Int → Int → Int → Int → Int → HP → Option (Int × HP)) : Nat → Int → Int → Int → Int → Int → Int → HP → Option (Int × HP)
  | 0 => fun _ _ _ _ _ _ _ => none
  | n + 1 => bX5_mixes_182 k11 (LX5_mixes_182 k11 n)
set_option maxRecDepth 20000 in
theorem tX5_mixes_182 {l : Launch} {D : va_G} {ad : Nat → Nat} {cI : ClassId} {Z : Int × HP} {k11 : Int → Int → Int → Int → Int → HP → Option (Int × HP)} (hk11 : ∀ (x1 : Int) (x2 : Int) (x3 : Int) (x4 : Int) (x5 : Int) (h : HP), k11 x1 x2 x3 x4 x5 h = some Z → Rn (sdM l D ad cI) mX5_mixes (rv Z) 11 [(0, .ref (ad 0)), (1, vi x1), (2, vi x2), (3, vi x3), (4, vi x4), (5, vi x5)] [] h) : ∀ (n : Nat) (x1 : Int) (x2 : Int) (x3 : Int) (x4 : Int) (x5 : Int) (x6 : Int) (h : HP), LX5_mixes_182 k11 n x1 x2 x3 x4 x5 x6 h = some Z → Rn (sdM l D ad cI) mX5_mixes (rv Z) 182 [(0, .ref (ad 0)), (1, vi x1), (2, vi x2), (3, vi x3), (4, vi x4), (5, vi x5), (6, vi x6)] [] h := by
  intro n
  induction n with
  | zero => intro x1 x2 x3 x4 x5 x6 h hf; cases hf
  | succ n ih =>
    intro x1 x2 x3 x4 x5 x6 h hf
    replace hf : bX5_mixes_182 k11 (LX5_mixes_182 k11 n) x1 x2 x3 x4 x5 x6 h = some Z := hf
    unfold bX5_mixes_182 at hf
    refine q_iload dX5_mixes_182 6 rfl ?_
    refine q_aloadn dX5_mixes_184 0 rfl ?_
    refine M_g5_6 flX5_81 dX5_mixes_185 ?_
    refine q_icmp_gt hf dX5_mixes_188 223 (by decide) (fun hf => ?_) (fun hf => ?_)
    · refine q_iinc dX5_mixes_223 5 rfl rfl (loc' := [(5, vi (x5 + 1)), (0, .ref (ad 0)), (1, vi x1), (2, vi x2), (3, vi x3), (4, vi x4), (6, vi x6)]) rfl ?_
      refine q_goto dX5_mixes_226 11 (by decide) ?_
      refine q_loc (loc' := [(0, .ref (ad 0)), (1, vi x1), (2, vi x2), (3, vi x3), (4, vi x4), (5, vi (x5 + 1))]) [1, 2, 3, 4, 5, 0] rfl ?_
      exact hk11 x1 x2 x3 x4 (x5 + 1) h hf
    · refine q_aloadn dX5_mixes_191 0 rfl ?_
      refine M_g5_9 flX5_28 dX5_mixes_192 ?_
      refine q_iload dX5_mixes_195 6 rfl ?_
      refine q_aloadn dX5_mixes_197 0 rfl ?_
      refine M_g5_9 flX5_28 dX5_mixes_198 ?_
      refine q_iload dX5_mixes_201 6 rfl ?_
      refine M_ld rfl hf dX5_mixes_203 (fun v203 hf => ?_)
      refine q_aloadn dX5_mixes_204 0 rfl ?_
      refine M_g5_11 flX5_31 dX5_mixes_205 ?_
      refine q_iload dX5_mixes_208 6 rfl ?_
      refine M_ld rfl hf dX5_mixes_210 (fun v210 hf => ?_)
      refine q_iadd dX5_mixes_211 ?_
      refine q_i2l dX5_mixes_212 ?_
      obtain ⟨r213, h213, e213, hf⟩ := q_cl hf
      refine q_cSi (av := [vl (wi (v203 + v210))]) (rest := [vi x6, .ref (ad 7)]) (ctX5_mod e213) kX5_mod uX5_mod lkX5_48 rfl rfl rfl dX5_mixes_213 ?_
      refine M_st rfl hf dX5_mixes_216 (fun h216 hf => ?_)
      refine q_iinc dX5_mixes_217 6 rfl rfl (loc' := [(6, vi (x6 + 1)), (0, .ref (ad 0)), (1, vi x1), (2, vi x2), (3, vi x3), (4, vi x4), (5, vi x5)]) rfl ?_
      refine q_goto dX5_mixes_220 182 (by decide) ?_
      refine q_loc (loc' := [(0, .ref (ad 0)), (1, vi x1), (2, vi x2), (3, vi x3), (4, vi x4), (5, vi x5), (6, vi (x6 + 1))]) [1, 2, 3, 4, 5, 6, 0] rfl ?_
      exact ih x1 x2 x3 x4 x5 (x6 + 1) h216 hf
def bX5_mixes_62 (k11 : Int → Int → Int → Int → Int → HP → Option (Int × HP)) (self : Int → Int → Int → Int → Int → Int → HP → Option (Int × HP)) (x1 : Int) (x2 : Int) (x3 : Int) (x4 : Int) (x5 : Int) (x6 : Int) (h : HP) : Option (Int × HP) :=
  if wi x6 < wi (h 0 6) then (if wi x6 < wi ((h 0 6) - x5) then (jX5_mixes_88 self x1 x2 x3 x4 x5 x6 x1 h) else (jX5_mixes_88 self x1 x2 x3 x4 x5 x6 x3 h)) else (LX5_mixes_182 k11 FU x1 x2 x3 x4 x5 0 h)
def LX5_mixes_62 (k11 : Int → Int → Int → Int → Int → HP → Option (Int × HP)) : Nat → Int → Int → Int → Int → Int → Int → HP → Option (Int × HP)
  | 0 => fun _ _ _ _ _ _ _ => none
  | n + 1 => bX5_mixes_62 k11 (LX5_mixes_62 k11 n)
set_option maxRecDepth 20000 in
theorem tX5_mixes_62 {l : Launch} {D : va_G} {ad : Nat → Nat} {cI : ClassId} {Z : Int × HP} {k11 : Int → Int → Int → Int → Int → HP → Option (Int × HP)} (hk11 : ∀ (x1 : Int) (x2 : Int) (x3 : Int) (x4 : Int) (x5 : Int) (h : HP), k11 x1 x2 x3 x4 x5 h = some Z → Rn (sdM l D ad cI) mX5_mixes (rv Z) 11 [(0, .ref (ad 0)), (1, vi x1), (2, vi x2), (3, vi x3), (4, vi x4), (5, vi x5)] [] h) : ∀ (n : Nat) (x1 : Int) (x2 : Int) (x3 : Int) (x4 : Int) (x5 : Int) (x6 : Int) (h : HP), LX5_mixes_62 k11 n x1 x2 x3 x4 x5 x6 h = some Z → Rn (sdM l D ad cI) mX5_mixes (rv Z) 62 [(0, .ref (ad 0)), (1, vi x1), (2, vi x2), (3, vi x3), (4, vi x4), (5, vi x5), (6, vi x6)] [] h := by
  intro n
  induction n with
  | zero => intro x1 x2 x3 x4 x5 x6 h hf; cases hf
  | succ n ih =>
    intro x1 x2 x3 x4 x5 x6 h hf
    replace hf : bX5_mixes_62 k11 (LX5_mixes_62 k11 n) x1 x2 x3 x4 x5 x6 h = some Z := hf
    unfold bX5_mixes_62 at hf
    refine q_iload dX5_mixes_62 6 rfl ?_
    refine q_aloadn dX5_mixes_64 0 rfl ?_
    refine M_g5_6 flX5_81 dX5_mixes_65 ?_
    refine q_icmp_ge hf dX5_mixes_68 179 (by decide) (fun hf => ?_) (fun hf => ?_)
    · refine q_iconst dX5_mixes_179 ?_
      refine q_istore dX5_mixes_180 rfl (loc' := [(6, vi 0), (0, .ref (ad 0)), (1, vi x1), (2, vi x2), (3, vi x3), (4, vi x4), (5, vi x5)]) rfl ?_
      refine q_loc (loc' := [(0, .ref (ad 0)), (1, vi x1), (2, vi x2), (3, vi x3), (4, vi x4), (5, vi x5), (6, vi 0)]) [1, 2, 3, 4, 5, 6, 0] rfl ?_
      exact tX5_mixes_182 hk11 FU x1 x2 x3 x4 x5 0 h hf
    · refine q_iload dX5_mixes_71 6 rfl ?_
      refine q_aloadn dX5_mixes_73 0 rfl ?_
      refine M_g5_6 flX5_81 dX5_mixes_74 ?_
      refine q_iload dX5_mixes_77 5 rfl ?_
      refine q_isub dX5_mixes_79 ?_
      refine q_icmp_ge hf dX5_mixes_80 87 (by decide) (fun hf => ?_) (fun hf => ?_)
      · refine q_iloadn dX5_mixes_87 3 rfl ?_
        refine q_loc (loc' := [(0, .ref (ad 0)), (1, vi x1), (2, vi x2), (3, vi x3), (4, vi x4), (5, vi x5), (6, vi x6)]) [0, 1, 2, 3, 4, 5, 6] rfl ?_
        exact tX5_mixes_88 ih x1 x2 x3 x4 x5 x6 x3 h hf
      · refine q_iloadn dX5_mixes_83 1 rfl ?_
        refine q_goto dX5_mixes_84 88 (by decide) ?_
        refine q_loc (loc' := [(0, .ref (ad 0)), (1, vi x1), (2, vi x2), (3, vi x3), (4, vi x4), (5, vi x5), (6, vi x6)]) [0, 1, 2, 3, 4, 5, 6] rfl ?_
        exact tX5_mixes_88 ih x1 x2 x3 x4 x5 x6 x1 h hf
def bX5_mixes_23 (k11 : Int → Int → Int → Int → Int → HP → Option (Int × HP)) (self : Int → Int → Int → Int → Int → Int → HP → Option (Int × HP)) (x1 : Int) (x2 : Int) (x3 : Int) (x4 : Int) (x5 : Int) (x6 : Int) (h : HP) : Option (Int × HP) :=
  if wi x6 < wi 10 then (if wi x6 = 0 then (ld (lnM 5) (h 5) x5 fun v47 => sto (lnM 8) h 8 x6 v47 fun h52 => self x1 x2 x3 x4 x5 (x6 + 1) h52) else (sto (lnM 8) h 8 x6 0 fun h52 => self x1 x2 x3 x4 x5 (x6 + 1) h52)) else (LX5_mixes_62 k11 FU x1 x2 x3 x4 x5 0 h)
def LX5_mixes_23 (k11 : Int → Int → Int → Int → Int → HP → Option (Int × HP)) : Nat → Int → Int → Int → Int → Int → Int → HP → Option (Int × HP)
  | 0 => fun _ _ _ _ _ _ _ => none
  | n + 1 => bX5_mixes_23 k11 (LX5_mixes_23 k11 n)
set_option maxRecDepth 20000 in
theorem tX5_mixes_23 {l : Launch} {D : va_G} {ad : Nat → Nat} {cI : ClassId} {Z : Int × HP} {k11 : Int → Int → Int → Int → Int → HP → Option (Int × HP)} (hk11 : ∀ (x1 : Int) (x2 : Int) (x3 : Int) (x4 : Int) (x5 : Int) (h : HP), k11 x1 x2 x3 x4 x5 h = some Z → Rn (sdM l D ad cI) mX5_mixes (rv Z) 11 [(0, .ref (ad 0)), (1, vi x1), (2, vi x2), (3, vi x3), (4, vi x4), (5, vi x5)] [] h) : ∀ (n : Nat) (x1 : Int) (x2 : Int) (x3 : Int) (x4 : Int) (x5 : Int) (x6 : Int) (h : HP), LX5_mixes_23 k11 n x1 x2 x3 x4 x5 x6 h = some Z → Rn (sdM l D ad cI) mX5_mixes (rv Z) 23 [(0, .ref (ad 0)), (1, vi x1), (2, vi x2), (3, vi x3), (4, vi x4), (5, vi x5), (6, vi x6)] [] h := by
  intro n
  induction n with
  | zero => intro x1 x2 x3 x4 x5 x6 h hf; cases hf
  | succ n ih =>
    intro x1 x2 x3 x4 x5 x6 h hf
    replace hf : bX5_mixes_23 k11 (LX5_mixes_23 k11 n) x1 x2 x3 x4 x5 x6 h = some Z := hf
    unfold bX5_mixes_23 at hf
    refine q_iload dX5_mixes_23 6 rfl ?_
    refine q_bipush dX5_mixes_25 (by decide) ?_
    refine q_icmp_ge hf dX5_mixes_27 59 (by decide) (fun hf => ?_) (fun hf => ?_)
    · refine q_iconst dX5_mixes_59 ?_
      refine q_istore dX5_mixes_60 rfl (loc' := [(6, vi 0), (0, .ref (ad 0)), (1, vi x1), (2, vi x2), (3, vi x3), (4, vi x4), (5, vi x5)]) rfl ?_
      refine q_loc (loc' := [(0, .ref (ad 0)), (1, vi x1), (2, vi x2), (3, vi x3), (4, vi x4), (5, vi x5), (6, vi 0)]) [1, 2, 3, 4, 5, 6, 0] rfl ?_
      exact tX5_mixes_62 hk11 FU x1 x2 x3 x4 x5 0 h hf
    · refine q_aloadn dX5_mixes_30 0 rfl ?_
      refine M_g5_11 flX5_31 dX5_mixes_31 ?_
      refine q_iload dX5_mixes_34 6 rfl ?_
      refine q_iload dX5_mixes_36 6 rfl ?_
      refine q_if_ne hf dX5_mixes_38 51 (by decide) (fun hf => ?_) (fun hf => ?_)
      · refine q_iconst dX5_mixes_51 ?_
        refine M_st rfl hf dX5_mixes_52 (fun h52 hf => ?_)
        refine q_iinc dX5_mixes_53 6 rfl rfl (loc' := [(6, vi (x6 + 1)), (0, .ref (ad 0)), (1, vi x1), (2, vi x2), (3, vi x3), (4, vi x4), (5, vi x5)]) rfl ?_
        refine q_goto dX5_mixes_56 23 (by decide) ?_
        refine q_loc (loc' := [(0, .ref (ad 0)), (1, vi x1), (2, vi x2), (3, vi x3), (4, vi x4), (5, vi x5), (6, vi (x6 + 1))]) [1, 2, 3, 4, 5, 6, 0] rfl ?_
        exact ih x1 x2 x3 x4 x5 (x6 + 1) h52 hf
      · refine q_aloadn dX5_mixes_41 0 rfl ?_
        refine M_g5_5 flX5_22 dX5_mixes_42 ?_
        refine q_iload dX5_mixes_45 5 rfl ?_
        refine M_ld rfl hf dX5_mixes_47 (fun v47 hf => ?_)
        refine q_goto dX5_mixes_48 52 (by decide) ?_
        refine M_st rfl hf dX5_mixes_52 (fun h52 hf => ?_)
        refine q_iinc dX5_mixes_53 6 rfl rfl (loc' := [(6, vi (x6 + 1)), (0, .ref (ad 0)), (1, vi x1), (2, vi x2), (3, vi x3), (4, vi x4), (5, vi x5)]) rfl ?_
        refine q_goto dX5_mixes_56 23 (by decide) ?_
        refine q_loc (loc' := [(0, .ref (ad 0)), (1, vi x1), (2, vi x2), (3, vi x3), (4, vi x4), (5, vi x5), (6, vi (x6 + 1))]) [1, 2, 3, 4, 5, 6, 0] rfl ?_
        exact ih x1 x2 x3 x4 x5 (x6 + 1) h52 hf
def bX5_mixes_11 (self : Int → Int → Int → Int → Int → HP → Option (Int × HP)) (x1 : Int) (x2 : Int) (x3 : Int) (x4 : Int) (x5 : Int) (h : HP) : Option (Int × HP) :=
  if wi x5 ≤ wi (h 0 6) then (LX5_mixes_23 self FU x1 x2 x3 x4 x5 0 h) else (some (0, h))
def LX5_mixes_11 : Nat → Int → Int → Int → Int → Int → HP → Option (Int × HP)
  | 0 => fun _ _ _ _ _ _ => none
  | n + 1 => bX5_mixes_11 (LX5_mixes_11 n)
set_option maxRecDepth 20000 in
theorem tX5_mixes_11 {l : Launch} {D : va_G} {ad : Nat → Nat} {cI : ClassId} {Z : Int × HP} : ∀ (n : Nat) (x1 : Int) (x2 : Int) (x3 : Int) (x4 : Int) (x5 : Int) (h : HP), LX5_mixes_11 n x1 x2 x3 x4 x5 h = some Z → Rn (sdM l D ad cI) mX5_mixes (rv Z) 11 [(0, .ref (ad 0)), (1, vi x1), (2, vi x2), (3, vi x3), (4, vi x4), (5, vi x5)] [] h := by
  intro n
  induction n with
  | zero => intro x1 x2 x3 x4 x5 h hf; cases hf
  | succ n ih =>
    intro x1 x2 x3 x4 x5 h hf
    replace hf : bX5_mixes_11 (LX5_mixes_11 n) x1 x2 x3 x4 x5 h = some Z := hf
    unfold bX5_mixes_11 at hf
    refine q_iload dX5_mixes_11 5 rfl ?_
    refine q_aloadn dX5_mixes_13 0 rfl ?_
    refine M_g5_6 flX5_81 dX5_mixes_14 ?_
    refine q_icmp_gt hf dX5_mixes_17 229 (by decide) (fun hf => ?_) (fun hf => ?_)
    · exact q_vret hf rfl dX5_mixes_229
    · refine q_iconst dX5_mixes_20 ?_
      refine q_istore dX5_mixes_21 rfl (loc' := [(6, vi 0), (0, .ref (ad 0)), (1, vi x1), (2, vi x2), (3, vi x3), (4, vi x4), (5, vi x5)]) rfl ?_
      refine q_loc (loc' := [(0, .ref (ad 0)), (1, vi x1), (2, vi x2), (3, vi x3), (4, vi x4), (5, vi x5), (6, vi 0)]) [1, 2, 3, 4, 5, 6, 0] rfl ?_
      exact tX5_mixes_23 ih FU x1 x2 x3 x4 x5 0 h hf
def fX5_mixes (x1 : Int) (x2 : Int) (x3 : Int) (x4 : Int) (h : HP) : Option (Int × HP) :=
  cl (fX5_noughtH (h 0 6) h) fun _ h5 => LX5_mixes_11 FU x1 x2 x3 x4 0 h5
set_option maxRecDepth 20000 in
theorem ctX5_mixes {l : Launch} {D : va_G} {ad : Nat → Nat} {cI : ClassId} {x1 : Int} {x2 : Int} {x3 : Int} {x4 : Int} {h : HP} {Z : Int × HP} (hf : fX5_mixes x1 x2 x3 x4 h = some Z) : Ct (sdM l D ad cI) mX5_mixes [.ref (ad 0), vi x1, vi x2, vi x3, vi x4] h (rv Z) := by
  refine Ct.ofF nX5_mixes rfl (loc := [(0, .ref (ad 0)), (1, vi x1), (2, vi x2), (3, vi x3), (4, vi x4)]) rfl ?_
  unfold fX5_mixes at hf
  refine q_aloadn dX5_mixes_0 0 rfl ?_
  refine q_aloadn dX5_mixes_1 0 rfl ?_
  refine M_g5_6 flX5_81 dX5_mixes_2 ?_
  obtain ⟨r5, h5, e5, hf⟩ := q_cl hf
  refine q_cVv (av := [vi (h 0 6)]) (rest := []) wM_0 (ctX5_noughtH e5) kX5_noughtH vX5_noughtH zX5_noughtH lkX5_113 rfl rfl rfl rfl rfl dX5_mixes_5 ?_
  refine q_iconst dX5_mixes_8 ?_
  refine q_istore dX5_mixes_9 rfl (loc' := [(5, vi 0), (0, .ref (ad 0)), (1, vi x1), (2, vi x2), (3, vi x3), (4, vi x4)]) rfl ?_
  refine q_loc (loc' := [(0, .ref (ad 0)), (1, vi x1), (2, vi x2), (3, vi x3), (4, vi x4), (5, vi 0)]) [1, 2, 3, 4, 5, 0] rfl ?_
  exact tX5_mixes_11 FU x1 x2 x3 x4 0 h5 hf
def fX5_mix (x1 : Int) (x2 : Int) (x3 : Int) (x4 : Int) (x5 : Int) (x6 : Int) (h : HP) : Option (Int × HP) :=
  cl (fX5_isSheet x1 h) fun r1 h1 => if wi r1 = 0 then (some ((-2), h1)) else (cl (fX5_isSheet x6 h1) fun r9 h9 => if wi r9 = 0 then (some ((-2), h9)) else (cl (fX5_lacksOne x1 h9) fun r20 h20 => if wi r20 = 0 then (cl (fX5_mod (wi x2) h20) fun r36 h36 => cl (fX5_mod (wi x3) h36) fun r41 h41 => cl (fX5_mod (wi x4) h41) fun r47 h47 => cl (fX5_mod (wi x5) h47) fun r53 h53 => cl (fX5_mixes r36 r41 r47 r53 h53) fun _ h56 => cl (fX5_lay x6 h56) fun r62 h62 => cl (fX5_mod (wi x2) h62) fun r69 h69 => cl (fX5_mod (wi x5) h69) fun r75 h75 => cl (fX5_times r69 r75 h75) fun r78 h78 => cl (fX5_mod (wi x3) h78) fun r84 h84 => cl (fX5_mod (wi x4) h84) fun r90 h90 => cl (fX5_times r84 r90 h90) fun r93 h93 => cl (fX5_mod ((wi r78) - (wi r93)) h93) fun r98 h98 => some (r98, h98)) else (some (r20, h20))))
set_option maxRecDepth 20000 in
theorem ctX5_mix {l : Launch} {D : va_G} {ad : Nat → Nat} {cI : ClassId} {x1 : Int} {x2 : Int} {x3 : Int} {x4 : Int} {x5 : Int} {x6 : Int} {h : HP} {Z : Int × HP} (hf : fX5_mix x1 x2 x3 x4 x5 x6 h = some Z) : Ct (sdM l D ad cI) mX5_mix [.ref (ad 0), vi x1, vi x2, vi x3, vi x4, vi x5, vi x6] h (ri Z) := by
  refine Ct.ofF nX5_mix rfl (loc := [(0, .ref (ad 0)), (1, vi x1), (2, vi x2), (3, vi x3), (4, vi x4), (5, vi x5), (6, vi x6)]) rfl ?_
  unfold fX5_mix at hf
  refine q_iloadn dX5_mix_0 1 rfl ?_
  obtain ⟨r1, h1, e1, hf⟩ := q_cl hf
  refine q_cSi (av := [vi x1]) (rest := []) (ctX5_isSheet e1) kX5_isSheet uX5_isSheet lkX5_66 rfl rfl rfl dX5_mix_1 ?_
  refine q_if_eq hf dX5_mix_4 15 (by decide) (fun hf => ?_) (fun hf => ?_)
  · refine q_bipush dX5_mix_15 (by decide) ?_
    exact q_iret hf rfl dX5_mix_17
  · refine q_iload dX5_mix_7 6 rfl ?_
    obtain ⟨r9, h9, e9, hf⟩ := q_cl hf
    refine q_cSi (av := [vi x6]) (rest := []) (ctX5_isSheet e9) kX5_isSheet uX5_isSheet lkX5_66 rfl rfl rfl dX5_mix_9 ?_
    refine q_if_ne hf dX5_mix_12 18 (by decide) (fun hf => ?_) (fun hf => ?_)
    · refine q_aloadn dX5_mix_18 0 rfl ?_
      refine q_iloadn dX5_mix_19 1 rfl ?_
      obtain ⟨r20, h20, e20, hf⟩ := q_cl hf
      refine q_cVi (av := [vi x1]) (rest := []) wM_0 (ctX5_lacksOne e20) kX5_lacksOne vX5_lacksOne zX5_lacksOne lkX5_102 rfl rfl rfl rfl rfl dX5_mix_20 ?_
      refine q_istore dX5_mix_23 rfl (loc' := [(7, vi r20), (0, .ref (ad 0)), (1, vi x1), (2, vi x2), (3, vi x3), (4, vi x4), (5, vi x5), (6, vi x6)]) rfl ?_
      refine q_iload dX5_mix_25 0 rfl ?_
      refine q_if_eq hf dX5_mix_27 33 (by decide) (fun hf => ?_) (fun hf => ?_)
      · refine q_aloadn dX5_mix_33 1 rfl ?_
        refine q_iloadn dX5_mix_34 3 rfl ?_
        refine q_i2l dX5_mix_35 ?_
        obtain ⟨r36, h36, e36, hf⟩ := q_cl hf
        refine q_cSi (av := [vl (wi x2)]) (rest := [.ref (ad 0)]) (ctX5_mod e36) kX5_mod uX5_mod lkX5_48 rfl rfl rfl dX5_mix_36 ?_
        refine q_iloadn dX5_mix_39 4 rfl ?_
        refine q_i2l dX5_mix_40 ?_
        obtain ⟨r41, h41, e41, hf⟩ := q_cl hf
        refine q_cSi (av := [vl (wi x3)]) (rest := [vi r36, .ref (ad 0)]) (ctX5_mod e41) kX5_mod uX5_mod lkX5_48 rfl rfl rfl dX5_mix_41 ?_
        refine q_iload dX5_mix_44 5 rfl ?_
        refine q_i2l dX5_mix_46 ?_
        obtain ⟨r47, h47, e47, hf⟩ := q_cl hf
        refine q_cSi (av := [vl (wi x4)]) (rest := [vi r41, vi r36, .ref (ad 0)]) (ctX5_mod e47) kX5_mod uX5_mod lkX5_48 rfl rfl rfl dX5_mix_47 ?_
        refine q_iload dX5_mix_50 6 rfl ?_
        refine q_i2l dX5_mix_52 ?_
        obtain ⟨r53, h53, e53, hf⟩ := q_cl hf
        refine q_cSi (av := [vl (wi x5)]) (rest := [vi r47, vi r41, vi r36, .ref (ad 0)]) (ctX5_mod e53) kX5_mod uX5_mod lkX5_48 rfl rfl rfl dX5_mix_53 ?_
        obtain ⟨r56, h56, e56, hf⟩ := q_cl hf
        refine q_cVv (av := [vi r36, vi r41, vi r47, vi r53]) (rest := []) wM_0 (ctX5_mixes e56) kX5_mixes vX5_mixes zX5_mixes lkX5_119 rfl rfl rfl rfl rfl dX5_mix_56 ?_
        refine q_aloadn dX5_mix_59 1 rfl ?_
        refine q_iload dX5_mix_60 7 rfl ?_
        obtain ⟨r62, h62, e62, hf⟩ := q_cl hf
        refine q_cVi (av := [vi x6]) (rest := []) wM_0 (ctX5_lay e62) kX5_lay vX5_lay zX5_lay lkX5_116 rfl rfl rfl rfl rfl dX5_mix_62 ?_
        refine q_istore dX5_mix_65 rfl (loc' := [(8, vi r62), (7, vi r20), (0, .ref (ad 0)), (1, vi x1), (2, vi x2), (3, vi x3), (4, vi x4), (5, vi x5), (6, vi x6)]) rfl ?_
        refine q_iloadn dX5_mix_67 4 rfl ?_
        refine q_i2l dX5_mix_68 ?_
        obtain ⟨r69, h69, e69, hf⟩ := q_cl hf
        refine q_cSi (av := [vl (wi x2)]) (rest := []) (ctX5_mod e69) kX5_mod uX5_mod lkX5_48 rfl rfl rfl dX5_mix_69 ?_
        refine q_iload dX5_mix_72 7 rfl ?_
        refine q_i2l dX5_mix_74 ?_
        obtain ⟨r75, h75, e75, hf⟩ := q_cl hf
        refine q_cSi (av := [vl (wi x5)]) (rest := [vi r69]) (ctX5_mod e75) kX5_mod uX5_mod lkX5_48 rfl rfl rfl dX5_mix_75 ?_
        obtain ⟨r78, h78, e78, hf⟩ := q_cl hf
        refine q_cSi (av := [vi r69, vi r75]) (rest := []) (ctX5_times e78) kX5_times uX5_times lkX5_52 rfl rfl rfl dX5_mix_78 ?_
        refine q_i2l dX5_mix_81 ?_
        refine q_iloadn dX5_mix_82 5 rfl ?_
        refine q_i2l dX5_mix_83 ?_
        obtain ⟨r84, h84, e84, hf⟩ := q_cl hf
        refine q_cSi (av := [vl (wi x3)]) (rest := [vl (wi r78)]) (ctX5_mod e84) kX5_mod uX5_mod lkX5_48 rfl rfl rfl dX5_mix_84 ?_
        refine q_iload dX5_mix_87 6 rfl ?_
        refine q_i2l dX5_mix_89 ?_
        obtain ⟨r90, h90, e90, hf⟩ := q_cl hf
        refine q_cSi (av := [vl (wi x4)]) (rest := [vi r84, vl (wi r78)]) (ctX5_mod e90) kX5_mod uX5_mod lkX5_48 rfl rfl rfl dX5_mix_90 ?_
        obtain ⟨r93, h93, e93, hf⟩ := q_cl hf
        refine q_cSi (av := [vi r84, vi r90]) (rest := [vl (wi r78)]) (ctX5_times e93) kX5_times uX5_times lkX5_52 rfl rfl rfl dX5_mix_93 ?_
        refine q_i2l dX5_mix_96 ?_
        refine q_lsub dX5_mix_97 ?_
        obtain ⟨r98, h98, e98, hf⟩ := q_cl hf
        refine q_cSi (av := [vl ((wi r78) - (wi r93))]) (rest := []) (ctX5_mod e98) kX5_mod uX5_mod lkX5_48 rfl rfl rfl dX5_mix_98 ?_
        exact q_iret hf rfl dX5_mix_101
      · refine q_iload dX5_mix_30 0 rfl ?_
        exact q_iret hf rfl dX5_mix_32
    · refine q_bipush dX5_mix_15 (by decide) ?_
      exact q_iret hf rfl dX5_mix_17
def bX5_change_65 (self : Int → Int → Int → HP → Option (Int × HP)) (x2 : Int) (x3 : Int) (x5 : Int) (h : HP) : Option (Int × HP) :=
  if wi x5 < wi (h 0 6) then (if wi x2 = 0 then (ld (lnM 5) (h 5) x5 fun v90 => cl (fX5_times v90 ((h 0 6) - x5) h) fun r98 h98 => sto (lnM 7) h98 7 x5 r98 fun h120 => self x2 x3 (x5 + 1) h120) else (ld (lnM 5) (h 5) (x5 + 1) fun v112 => cl (fX5_times v112 (x5 + 1) h) fun r117 h117 => sto (lnM 7) h117 7 x5 r117 fun h120 => self x2 x3 (x5 + 1) h120)) else (cl (fX5_lay x3 h) fun r129 h129 => some (r129, h129))
def LX5_change_65 : Nat → Int → Int → Int → HP → Option (Int × HP)
  | 0 => fun _ _ _ _ => none
  | n + 1 => bX5_change_65 (LX5_change_65 n)
set_option maxRecDepth 20000 in
theorem tX5_change_65 {l : Launch} {D : va_G} {ad : Nat → Nat} {cI : ClassId} {Z : Int × HP} : ∀ (n : Nat) (x2 : Int) (x3 : Int) (x5 : Int) (h : HP), LX5_change_65 n x2 x3 x5 h = some Z → Rn (sdM l D ad cI) mX5_change (ri Z) 65 [(0, .ref (ad 0)), (2, vi x2), (3, vi x3), (5, vi x5)] [] h := by
  intro n
  induction n with
  | zero => intro x2 x3 x5 h hf; cases hf
  | succ n ih =>
    intro x2 x3 x5 h hf
    replace hf : bX5_change_65 (LX5_change_65 n) x2 x3 x5 h = some Z := hf
    unfold bX5_change_65 at hf
    refine q_iload dX5_change_65 3 rfl ?_
    refine q_aloadn dX5_change_67 0 rfl ?_
    refine M_g5_6 flX5_81 dX5_change_68 ?_
    refine q_icmp_ge hf dX5_change_71 127 (by decide) (fun hf => ?_) (fun hf => ?_)
    · refine q_aloadn dX5_change_127 0 rfl ?_
      refine q_iloadn dX5_change_128 2 rfl ?_
      obtain ⟨r129, h129, e129, hf⟩ := q_cl hf
      refine q_cVi (av := [vi x3]) (rest := []) wM_0 (ctX5_lay e129) kX5_lay vX5_lay zX5_lay lkX5_116 rfl rfl rfl rfl rfl dX5_change_129 ?_
      exact q_iret hf rfl dX5_change_132
    · refine q_aloadn dX5_change_74 0 rfl ?_
      refine M_g5_9 flX5_28 dX5_change_75 ?_
      refine q_iload dX5_change_78 3 rfl ?_
      refine q_iloadn dX5_change_80 1 rfl ?_
      refine q_if_ne hf dX5_change_81 104 (by decide) (fun hf => ?_) (fun hf => ?_)
      · refine q_aloadn dX5_change_104 0 rfl ?_
        refine M_g5_5 flX5_22 dX5_change_105 ?_
        refine q_iload dX5_change_108 3 rfl ?_
        refine q_iconst dX5_change_110 ?_
        refine q_iadd dX5_change_111 ?_
        refine M_ld rfl hf dX5_change_112 (fun v112 hf => ?_)
        refine q_iload dX5_change_113 3 rfl ?_
        refine q_iconst dX5_change_115 ?_
        refine q_iadd dX5_change_116 ?_
        obtain ⟨r117, h117, e117, hf⟩ := q_cl hf
        refine q_cSi (av := [vi v112, vi (x5 + 1)]) (rest := [vi x5, .ref (ad 7)]) (ctX5_times e117) kX5_times uX5_times lkX5_52 rfl rfl rfl dX5_change_117 ?_
        refine M_st rfl hf dX5_change_120 (fun h120 hf => ?_)
        refine q_iinc dX5_change_121 3 rfl rfl (loc' := [(5, vi (x5 + 1)), (0, .ref (ad 0)), (2, vi x2), (3, vi x3)]) rfl ?_
        refine q_goto dX5_change_124 65 (by decide) ?_
        refine q_loc (loc' := [(0, .ref (ad 0)), (2, vi x2), (3, vi x3), (5, vi (x5 + 1))]) [1, 2, 3, 0] rfl ?_
        exact ih x2 x3 (x5 + 1) h120 hf
      · refine q_aloadn dX5_change_84 0 rfl ?_
        refine M_g5_5 flX5_22 dX5_change_85 ?_
        refine q_iload dX5_change_88 3 rfl ?_
        refine M_ld rfl hf dX5_change_90 (fun v90 hf => ?_)
        refine q_aloadn dX5_change_91 0 rfl ?_
        refine M_g5_6 flX5_81 dX5_change_92 ?_
        refine q_iload dX5_change_95 3 rfl ?_
        refine q_isub dX5_change_97 ?_
        obtain ⟨r98, h98, e98, hf⟩ := q_cl hf
        refine q_cSi (av := [vi v90, vi ((h 0 6) - x5)]) (rest := [vi x5, .ref (ad 7)]) (ctX5_times e98) kX5_times uX5_times lkX5_52 rfl rfl rfl dX5_change_98 ?_
        refine q_goto dX5_change_101 120 (by decide) ?_
        refine M_st rfl hf dX5_change_120 (fun h120 hf => ?_)
        refine q_iinc dX5_change_121 3 rfl rfl (loc' := [(5, vi (x5 + 1)), (0, .ref (ad 0)), (2, vi x2), (3, vi x3)]) rfl ?_
        refine q_goto dX5_change_124 65 (by decide) ?_
        refine q_loc (loc' := [(0, .ref (ad 0)), (2, vi x2), (3, vi x3), (5, vi (x5 + 1))]) [1, 2, 3, 0] rfl ?_
        exact ih x2 x3 (x5 + 1) h120 hf
def fX5_change (x1 : Int) (x2 : Int) (x3 : Int) (h : HP) : Option (Int × HP) :=
  cl (fX5_isSheet x1 h) fun r1 h1 => if wi r1 = 0 then (some ((-2), h1)) else (cl (fX5_in (wi x2) 0 1 h1) fun r11 h11 => if wi r11 = 0 then (some ((-2), h11)) else (cl (fX5_isSheet x3 h11) fun r18 h18 => if wi r18 = 0 then (some ((-2), h18)) else (cl (fX5_lacksOne x1 h18) fun r29 h29 => if wi r29 = 0 then (if wi (h29 0 6) = 0 then (some ((-3), h29)) else (cl (fX5_noughtH ((h29 0 6) - 1) h29) fun _ h59 => LX5_change_65 FU x2 x3 0 h59)) else (some (r29, h29)))))
set_option maxRecDepth 20000 in
theorem ctX5_change {l : Launch} {D : va_G} {ad : Nat → Nat} {cI : ClassId} {x1 : Int} {x2 : Int} {x3 : Int} {h : HP} {Z : Int × HP} (hf : fX5_change x1 x2 x3 h = some Z) : Ct (sdM l D ad cI) mX5_change [.ref (ad 0), vi x1, vi x2, vi x3] h (ri Z) := by
  refine Ct.ofF nX5_change rfl (loc := [(0, .ref (ad 0)), (1, vi x1), (2, vi x2), (3, vi x3)]) rfl ?_
  unfold fX5_change at hf
  refine q_iloadn dX5_change_0 1 rfl ?_
  obtain ⟨r1, h1, e1, hf⟩ := q_cl hf
  refine q_cSi (av := [vi x1]) (rest := []) (ctX5_isSheet e1) kX5_isSheet uX5_isSheet lkX5_66 rfl rfl rfl dX5_change_1 ?_
  refine q_if_eq hf dX5_change_4 24 (by decide) (fun hf => ?_) (fun hf => ?_)
  · refine q_bipush dX5_change_24 (by decide) ?_
    exact q_iret hf rfl dX5_change_26
  · refine q_iloadn dX5_change_7 2 rfl ?_
    refine q_i2l dX5_change_8 ?_
    refine q_lconst (n := 0) dX5_change_9 (by decide) ?_
    refine q_lconst (n := 1) dX5_change_10 (by decide) ?_
    obtain ⟨r11, h11, e11, hf⟩ := q_cl hf
    refine q_cSi (av := [vl (wi x2), vl 0, vl 1]) (rest := []) (ctX5_in e11) kX5_in uX5_in lkX5_62 rfl rfl rfl dX5_change_11 ?_
    refine q_if_eq hf dX5_change_14 24 (by decide) (fun hf => ?_) (fun hf => ?_)
    · refine q_bipush dX5_change_24 (by decide) ?_
      exact q_iret hf rfl dX5_change_26
    · refine q_iloadn dX5_change_17 3 rfl ?_
      obtain ⟨r18, h18, e18, hf⟩ := q_cl hf
      refine q_cSi (av := [vi x3]) (rest := []) (ctX5_isSheet e18) kX5_isSheet uX5_isSheet lkX5_66 rfl rfl rfl dX5_change_18 ?_
      refine q_if_ne hf dX5_change_21 27 (by decide) (fun hf => ?_) (fun hf => ?_)
      · refine q_aloadn dX5_change_27 0 rfl ?_
        refine q_iloadn dX5_change_28 1 rfl ?_
        obtain ⟨r29, h29, e29, hf⟩ := q_cl hf
        refine q_cVi (av := [vi x1]) (rest := []) wM_0 (ctX5_lacksOne e29) kX5_lacksOne vX5_lacksOne zX5_lacksOne lkX5_102 rfl rfl rfl rfl rfl dX5_change_29 ?_
        refine q_istore dX5_change_32 rfl (loc' := [(4, vi r29), (0, .ref (ad 0)), (1, vi x1), (2, vi x2), (3, vi x3)]) rfl ?_
        refine q_iload dX5_change_34 0 rfl ?_
        refine q_if_eq hf dX5_change_36 42 (by decide) (fun hf => ?_) (fun hf => ?_)
        · refine q_aloadn dX5_change_42 1 rfl ?_
          refine M_g5_6 flX5_81 dX5_change_43 ?_
          refine q_if_ne hf dX5_change_46 52 (by decide) (fun hf => ?_) (fun hf => ?_)
          · refine q_aloadn dX5_change_52 1 rfl ?_
            refine q_aloadn dX5_change_53 1 rfl ?_
            refine M_g5_6 flX5_81 dX5_change_54 ?_
            refine q_iconst dX5_change_57 ?_
            refine q_isub dX5_change_58 ?_
            obtain ⟨r59, h59, e59, hf⟩ := q_cl hf
            refine q_cVv (av := [vi ((h29 0 6) - 1)]) (rest := []) wM_0 (ctX5_noughtH e59) kX5_noughtH vX5_noughtH zX5_noughtH lkX5_113 rfl rfl rfl rfl rfl dX5_change_59 ?_
            refine q_iconst dX5_change_62 ?_
            refine q_istore dX5_change_63 rfl (loc' := [(5, vi 0), (4, vi r29), (0, .ref (ad 0)), (1, vi x1), (2, vi x2), (3, vi x3)]) rfl ?_
            refine q_loc (loc' := [(0, .ref (ad 0)), (2, vi x2), (3, vi x3), (5, vi 0)]) [2, 4, 5, 0] rfl ?_
            exact tX5_change_65 FU x2 x3 0 h59 hf
          · refine q_bipush dX5_change_49 (by decide) ?_
            exact q_iret hf rfl dX5_change_51
        · refine q_iload dX5_change_39 0 rfl ?_
          exact q_iret hf rfl dX5_change_41
      · refine q_bipush dX5_change_24 (by decide) ?_
        exact q_iret hf rfl dX5_change_26
def bX5_changed_47 (self : Int → Int → Int → Int → HP → Option (Int × HP)) (x1 : Int) (x3 : Int) (x4 : Int) (x5 : Int) (h : HP) : Option (Int × HP) :=
  if wi x5 < wi x3 then (if 0 < wi (x1 - x5) then (cl (fX5_times x4 (x1 - x5) h) fun r70 h70 => self x1 x3 r70 (x5 + 1) h70) else (cl (fX5_times x4 0 h) fun r70 h70 => self x1 x3 r70 (x5 + 1) h70)) else (some (x4, h))
def LX5_changed_47 : Nat → Int → Int → Int → Int → HP → Option (Int × HP)
  | 0 => fun _ _ _ _ _ => none
  | n + 1 => bX5_changed_47 (LX5_changed_47 n)
set_option maxRecDepth 20000 in
theorem tX5_changed_47 {l : Launch} {D : va_G} {ad : Nat → Nat} {cI : ClassId} {Z : Int × HP} : ∀ (n : Nat) (x1 : Int) (x3 : Int) (x4 : Int) (x5 : Int) (h : HP), LX5_changed_47 n x1 x3 x4 x5 h = some Z → Rn (sdM l D ad cI) mX5_changed (ri Z) 47 [(1, vi x1), (3, vi x3), (4, vi x4), (5, vi x5)] [] h := by
  intro n
  induction n with
  | zero => intro x1 x3 x4 x5 h hf; cases hf
  | succ n ih =>
    intro x1 x3 x4 x5 h hf
    replace hf : bX5_changed_47 (LX5_changed_47 n) x1 x3 x4 x5 h = some Z := hf
    unfold bX5_changed_47 at hf
    refine q_iload dX5_changed_47 3 rfl ?_
    refine q_iloadn dX5_changed_49 1 rfl ?_
    refine q_icmp_ge hf dX5_changed_50 81 (by decide) (fun hf => ?_) (fun hf => ?_)
    · refine q_iload dX5_changed_81 2 rfl ?_
      exact q_iret hf rfl dX5_changed_83
    · refine q_iload dX5_changed_53 2 rfl ?_
      refine q_iloadn dX5_changed_55 0 rfl ?_
      refine q_iload dX5_changed_56 3 rfl ?_
      refine q_isub dX5_changed_58 ?_
      refine q_if_le hf dX5_changed_59 69 (by decide) (fun hf => ?_) (fun hf => ?_)
      · refine q_iconst dX5_changed_69 ?_
        obtain ⟨r70, h70, e70, hf⟩ := q_cl hf
        refine q_cSi (av := [vi x4, vi 0]) (rest := []) (ctX5_times e70) kX5_times uX5_times lkX5_52 rfl rfl rfl dX5_changed_70 ?_
        refine q_istore dX5_changed_73 rfl (loc' := [(4, vi r70), (1, vi x1), (3, vi x3), (5, vi x5)]) rfl ?_
        refine q_iinc dX5_changed_75 3 rfl rfl (loc' := [(5, vi (x5 + 1)), (4, vi r70), (1, vi x1), (3, vi x3)]) rfl ?_
        refine q_goto dX5_changed_78 47 (by decide) ?_
        refine q_loc (loc' := [(1, vi x1), (3, vi x3), (4, vi r70), (5, vi (x5 + 1))]) [2, 3, 1, 0] rfl ?_
        exact ih x1 x3 r70 (x5 + 1) h70 hf
      · refine q_iloadn dX5_changed_62 0 rfl ?_
        refine q_iload dX5_changed_63 3 rfl ?_
        refine q_isub dX5_changed_65 ?_
        refine q_goto dX5_changed_66 70 (by decide) ?_
        obtain ⟨r70, h70, e70, hf⟩ := q_cl hf
        refine q_cSi (av := [vi x4, vi (x1 - x5)]) (rest := []) (ctX5_times e70) kX5_times uX5_times lkX5_52 rfl rfl rfl dX5_changed_70 ?_
        refine q_istore dX5_changed_73 rfl (loc' := [(4, vi r70), (1, vi x1), (3, vi x3), (5, vi x5)]) rfl ?_
        refine q_iinc dX5_changed_75 3 rfl rfl (loc' := [(5, vi (x5 + 1)), (4, vi r70), (1, vi x1), (3, vi x3)]) rfl ?_
        refine q_goto dX5_changed_78 47 (by decide) ?_
        refine q_loc (loc' := [(1, vi x1), (3, vi x3), (4, vi r70), (5, vi (x5 + 1))]) [2, 3, 1, 0] rfl ?_
        exact ih x1 x3 r70 (x5 + 1) h70 hf
def bX5_changed_6 (self : Int → Int → Int → Int → Int → Int → HP → Option (Int × HP)) (x0 : Int) (x1 : Int) (x2 : Int) (x3 : Int) (x4 : Int) (x5 : Int) (h : HP) : Option (Int × HP) :=
  if wi x5 < wi x2 then (if 0 < wi ((x0 - x1) - x5) then (cl (fX5_times x4 ((x0 - x1) - x5) h) fun r33 h33 => self x0 x1 x2 x3 r33 (x5 + 1) h33) else (cl (fX5_times x4 0 h) fun r33 h33 => self x0 x1 x2 x3 r33 (x5 + 1) h33)) else (LX5_changed_47 FU x1 x3 x4 0 h)
def LX5_changed_6 : Nat → Int → Int → Int → Int → Int → Int → HP → Option (Int × HP)
  | 0 => fun _ _ _ _ _ _ _ => none
  | n + 1 => bX5_changed_6 (LX5_changed_6 n)
set_option maxRecDepth 20000 in
theorem tX5_changed_6 {l : Launch} {D : va_G} {ad : Nat → Nat} {cI : ClassId} {Z : Int × HP} : ∀ (n : Nat) (x0 : Int) (x1 : Int) (x2 : Int) (x3 : Int) (x4 : Int) (x5 : Int) (h : HP), LX5_changed_6 n x0 x1 x2 x3 x4 x5 h = some Z → Rn (sdM l D ad cI) mX5_changed (ri Z) 6 [(0, vi x0), (1, vi x1), (2, vi x2), (3, vi x3), (4, vi x4), (5, vi x5)] [] h := by
  intro n
  induction n with
  | zero => intro x0 x1 x2 x3 x4 x5 h hf; cases hf
  | succ n ih =>
    intro x0 x1 x2 x3 x4 x5 h hf
    replace hf : bX5_changed_6 (LX5_changed_6 n) x0 x1 x2 x3 x4 x5 h = some Z := hf
    unfold bX5_changed_6 at hf
    refine q_iload dX5_changed_6 5 rfl ?_
    refine q_iloadn dX5_changed_8 2 rfl ?_
    refine q_icmp_ge hf dX5_changed_9 44 (by decide) (fun hf => ?_) (fun hf => ?_)
    · refine q_iconst dX5_changed_44 ?_
      refine q_istore dX5_changed_45 rfl (loc' := [(5, vi 0), (0, vi x0), (1, vi x1), (2, vi x2), (3, vi x3), (4, vi x4)]) rfl ?_
      refine q_loc (loc' := [(1, vi x1), (3, vi x3), (4, vi x4), (5, vi 0)]) [2, 4, 5, 0] rfl ?_
      exact tX5_changed_47 FU x1 x3 x4 0 h hf
    · refine q_iload dX5_changed_12 4 rfl ?_
      refine q_iloadn dX5_changed_14 0 rfl ?_
      refine q_iloadn dX5_changed_15 1 rfl ?_
      refine q_isub dX5_changed_16 ?_
      refine q_iload dX5_changed_17 5 rfl ?_
      refine q_isub dX5_changed_19 ?_
      refine q_if_le hf dX5_changed_20 32 (by decide) (fun hf => ?_) (fun hf => ?_)
      · refine q_iconst dX5_changed_32 ?_
        obtain ⟨r33, h33, e33, hf⟩ := q_cl hf
        refine q_cSi (av := [vi x4, vi 0]) (rest := []) (ctX5_times e33) kX5_times uX5_times lkX5_52 rfl rfl rfl dX5_changed_33 ?_
        refine q_istore dX5_changed_36 rfl (loc' := [(4, vi r33), (0, vi x0), (1, vi x1), (2, vi x2), (3, vi x3), (5, vi x5)]) rfl ?_
        refine q_iinc dX5_changed_38 5 rfl rfl (loc' := [(5, vi (x5 + 1)), (4, vi r33), (0, vi x0), (1, vi x1), (2, vi x2), (3, vi x3)]) rfl ?_
        refine q_goto dX5_changed_41 6 (by decide) ?_
        refine q_loc (loc' := [(0, vi x0), (1, vi x1), (2, vi x2), (3, vi x3), (4, vi r33), (5, vi (x5 + 1))]) [2, 3, 4, 5, 1, 0] rfl ?_
        exact ih x0 x1 x2 x3 r33 (x5 + 1) h33 hf
      · refine q_iloadn dX5_changed_23 0 rfl ?_
        refine q_iloadn dX5_changed_24 1 rfl ?_
        refine q_isub dX5_changed_25 ?_
        refine q_iload dX5_changed_26 5 rfl ?_
        refine q_isub dX5_changed_28 ?_
        refine q_goto dX5_changed_29 33 (by decide) ?_
        obtain ⟨r33, h33, e33, hf⟩ := q_cl hf
        refine q_cSi (av := [vi x4, vi ((x0 - x1) - x5)]) (rest := []) (ctX5_times e33) kX5_times uX5_times lkX5_52 rfl rfl rfl dX5_changed_33 ?_
        refine q_istore dX5_changed_36 rfl (loc' := [(4, vi r33), (0, vi x0), (1, vi x1), (2, vi x2), (3, vi x3), (5, vi x5)]) rfl ?_
        refine q_iinc dX5_changed_38 5 rfl rfl (loc' := [(5, vi (x5 + 1)), (4, vi r33), (0, vi x0), (1, vi x1), (2, vi x2), (3, vi x3)]) rfl ?_
        refine q_goto dX5_changed_41 6 (by decide) ?_
        refine q_loc (loc' := [(0, vi x0), (1, vi x1), (2, vi x2), (3, vi x3), (4, vi r33), (5, vi (x5 + 1))]) [2, 3, 4, 5, 1, 0] rfl ?_
        exact ih x0 x1 x2 x3 r33 (x5 + 1) h33 hf
def fX5_changed (x0 : Int) (x1 : Int) (x2 : Int) (x3 : Int) (h : HP) : Option (Int × HP) :=
  LX5_changed_6 FU x0 x1 x2 x3 1 0 h
set_option maxRecDepth 20000 in
theorem ctX5_changed {l : Launch} {D : va_G} {ad : Nat → Nat} {cI : ClassId} {x0 : Int} {x1 : Int} {x2 : Int} {x3 : Int} {h : HP} {Z : Int × HP} (hf : fX5_changed x0 x1 x2 x3 h = some Z) : Ct (sdM l D ad cI) mX5_changed [vi x0, vi x1, vi x2, vi x3] h (ri Z) := by
  refine Ct.ofF nX5_changed rfl (loc := [(0, vi x0), (1, vi x1), (2, vi x2), (3, vi x3)]) rfl ?_
  unfold fX5_changed at hf
  refine q_iconst dX5_changed_0 ?_
  refine q_istore dX5_changed_1 rfl (loc' := [(4, vi 1), (0, vi x0), (1, vi x1), (2, vi x2), (3, vi x3)]) rfl ?_
  refine q_iconst dX5_changed_3 ?_
  refine q_istore dX5_changed_4 rfl (loc' := [(5, vi 0), (4, vi 1), (0, vi x0), (1, vi x1), (2, vi x2), (3, vi x3)]) rfl ?_
  refine q_loc (loc' := [(0, vi x0), (1, vi x1), (2, vi x2), (3, vi x3), (4, vi 1), (5, vi 0)]) [2, 3, 4, 5, 1, 0] rfl ?_
  exact tX5_changed_6 FU x0 x1 x2 x3 1 0 h hf
def bX5_overlap_163 (k148 : Int → Int → Int → Int → Int → HP → Option (Int × HP)) (self : Int → Int → Int → Int → Int → Int → HP → Option (Int × HP)) (x3 : Int) (x4 : Int) (x6 : Int) (x7 : Int) (x8 : Int) (x9 : Int) (h : HP) : Option (Int × HP) :=
  if wi x9 ≤ wi (h 0 8) then (ld (lnM 5) (h 5) x8 fun v178 => cl (fX5_changed (h 0 6) x8 (x3 - x6) x6 h) fun r191 h191 => cl (fX5_times v178 r191 h191) fun r194 h194 => ld (lnM 6) (h194 6) x9 fun v205 => cl (fX5_changed (h194 0 8) x9 x6 (x3 - x6) h194) fun r218 h218 => cl (fX5_times v205 r218 h218) fun r221 h221 => if wi r194 = 0 then (self x3 x4 x6 x7 x8 (x9 + 1) h221) else (if wi r221 = 0 then (self x3 x4 x6 x7 x8 (x9 + 1) h221) else (ld (lnM 7) (h221 7) ((x8 + x9) - x3) fun v258 => cl (fX5_times r194 r221 h221) fun r264 h264 => cl (fX5_mod ((wi v258) + ((wi r264) * (wi x7))) h264) fun r273 h273 => sto (lnM 7) h273 7 ((x8 + x9) - x3) r273 fun h276 => self x3 x4 x6 x7 x8 (x9 + 1) h276))) else (k148 x3 x4 x6 x7 (x8 + 1) h)
def LX5_overlap_163 (k148 : Int → Int → Int → Int → Int → HP → Option (Int × HP)) : Nat → Int → Int → Int → Int → Int → Int → HP → Option (Int × HP)
  | 0 => fun _ _ _ _ _ _ _ => none
  | n + 1 => bX5_overlap_163 k148 (LX5_overlap_163 k148 n)
set_option maxRecDepth 20000 in
theorem tX5_overlap_163 {l : Launch} {D : va_G} {ad : Nat → Nat} {cI : ClassId} {Z : Int × HP} {k148 : Int → Int → Int → Int → Int → HP → Option (Int × HP)} (hk148 : ∀ (x3 : Int) (x4 : Int) (x6 : Int) (x7 : Int) (x8 : Int) (h : HP), k148 x3 x4 x6 x7 x8 h = some Z → Rn (sdM l D ad cI) mX5_overlap (ri Z) 148 [(0, .ref (ad 0)), (3, vi x3), (4, vi x4), (6, vi x6), (7, vi x7), (8, vi x8)] [] h) : ∀ (n : Nat) (x3 : Int) (x4 : Int) (x6 : Int) (x7 : Int) (x8 : Int) (x9 : Int) (h : HP), LX5_overlap_163 k148 n x3 x4 x6 x7 x8 x9 h = some Z → Rn (sdM l D ad cI) mX5_overlap (ri Z) 163 [(0, .ref (ad 0)), (3, vi x3), (4, vi x4), (6, vi x6), (7, vi x7), (8, vi x8), (9, vi x9)] [] h := by
  intro n
  induction n with
  | zero => intro x3 x4 x6 x7 x8 x9 h hf; cases hf
  | succ n ih =>
    intro x3 x4 x6 x7 x8 x9 h hf
    replace hf : bX5_overlap_163 k148 (LX5_overlap_163 k148 n) x3 x4 x6 x7 x8 x9 h = some Z := hf
    unfold bX5_overlap_163 at hf
    refine q_iload dX5_overlap_163 6 rfl ?_
    refine q_aloadn dX5_overlap_165 0 rfl ?_
    refine M_g5_8 flX5_84 dX5_overlap_166 ?_
    refine q_icmp_gt hf dX5_overlap_169 283 (by decide) (fun hf => ?_) (fun hf => ?_)
    · refine q_iinc dX5_overlap_283 5 rfl rfl (loc' := [(8, vi (x8 + 1)), (0, .ref (ad 0)), (3, vi x3), (4, vi x4), (6, vi x6), (7, vi x7), (9, vi x9)]) rfl ?_
      refine q_goto dX5_overlap_286 148 (by decide) ?_
      refine q_loc (loc' := [(0, .ref (ad 0)), (3, vi x3), (4, vi x4), (6, vi x6), (7, vi x7), (8, vi (x8 + 1))]) [1, 2, 3, 4, 5, 0] rfl ?_
      exact hk148 x3 x4 x6 x7 (x8 + 1) h hf
    · refine q_aloadn dX5_overlap_172 0 rfl ?_
      refine M_g5_5 flX5_22 dX5_overlap_173 ?_
      refine q_iload dX5_overlap_176 5 rfl ?_
      refine M_ld rfl hf dX5_overlap_178 (fun v178 hf => ?_)
      refine q_aloadn dX5_overlap_179 0 rfl ?_
      refine M_g5_6 flX5_81 dX5_overlap_180 ?_
      refine q_iload dX5_overlap_183 5 rfl ?_
      refine q_iloadn dX5_overlap_185 1 rfl ?_
      refine q_iload dX5_overlap_186 3 rfl ?_
      refine q_isub dX5_overlap_188 ?_
      refine q_iload dX5_overlap_189 3 rfl ?_
      obtain ⟨r191, h191, e191, hf⟩ := q_cl hf
      refine q_cSi (av := [vi (h 0 6), vi x8, vi (x3 - x6), vi x6]) (rest := [vi v178]) (ctX5_changed e191) kX5_changed uX5_changed lkX5_126 rfl rfl rfl dX5_overlap_191 ?_
      obtain ⟨r194, h194, e194, hf⟩ := q_cl hf
      refine q_cSi (av := [vi v178, vi r191]) (rest := []) (ctX5_times e194) kX5_times uX5_times lkX5_52 rfl rfl rfl dX5_overlap_194 ?_
      refine q_istore dX5_overlap_197 rfl (loc' := [(10, vi r194), (0, .ref (ad 0)), (3, vi x3), (4, vi x4), (6, vi x6), (7, vi x7), (8, vi x8), (9, vi x9)]) rfl ?_
      refine q_aloadn dX5_overlap_199 1 rfl ?_
      refine M_g5_7 flX5_25 dX5_overlap_200 ?_
      refine q_iload dX5_overlap_203 7 rfl ?_
      refine M_ld rfl hf dX5_overlap_205 (fun v205 hf => ?_)
      refine q_aloadn dX5_overlap_206 1 rfl ?_
      refine M_g5_8 flX5_84 dX5_overlap_207 ?_
      refine q_iload dX5_overlap_210 7 rfl ?_
      refine q_iload dX5_overlap_212 4 rfl ?_
      refine q_iloadn dX5_overlap_214 2 rfl ?_
      refine q_iload dX5_overlap_215 4 rfl ?_
      refine q_isub dX5_overlap_217 ?_
      obtain ⟨r218, h218, e218, hf⟩ := q_cl hf
      refine q_cSi (av := [vi (h194 0 8), vi x9, vi x6, vi (x3 - x6)]) (rest := [vi v205]) (ctX5_changed e218) kX5_changed uX5_changed lkX5_126 rfl rfl rfl dX5_overlap_218 ?_
      obtain ⟨r221, h221, e221, hf⟩ := q_cl hf
      refine q_cSi (av := [vi v205, vi r218]) (rest := []) (ctX5_times e221) kX5_times uX5_times lkX5_52 rfl rfl rfl dX5_overlap_221 ?_
      refine q_istore dX5_overlap_224 rfl (loc' := [(11, vi r221), (10, vi r194), (0, .ref (ad 0)), (3, vi x3), (4, vi x4), (6, vi x6), (7, vi x7), (8, vi x8), (9, vi x9)]) rfl ?_
      refine q_iload dX5_overlap_226 1 rfl ?_
      refine q_if_eq hf dX5_overlap_228 277 (by decide) (fun hf => ?_) (fun hf => ?_)
      · refine q_iinc dX5_overlap_277 8 rfl rfl (loc' := [(9, vi (x9 + 1)), (11, vi r221), (10, vi r194), (0, .ref (ad 0)), (3, vi x3), (4, vi x4), (6, vi x6), (7, vi x7), (8, vi x8)]) rfl ?_
        refine q_goto dX5_overlap_280 163 (by decide) ?_
        refine q_loc (loc' := [(0, .ref (ad 0)), (3, vi x3), (4, vi x4), (6, vi x6), (7, vi x7), (8, vi x8), (9, vi (x9 + 1))]) [3, 4, 5, 6, 7, 8, 0] rfl ?_
        exact ih x3 x4 x6 x7 x8 (x9 + 1) h221 hf
      · refine q_iload dX5_overlap_231 0 rfl ?_
        refine q_if_eq hf dX5_overlap_233 277 (by decide) (fun hf => ?_) (fun hf => ?_)
        · refine q_iinc dX5_overlap_277 8 rfl rfl (loc' := [(9, vi (x9 + 1)), (11, vi r221), (10, vi r194), (0, .ref (ad 0)), (3, vi x3), (4, vi x4), (6, vi x6), (7, vi x7), (8, vi x8)]) rfl ?_
          refine q_goto dX5_overlap_280 163 (by decide) ?_
          refine q_loc (loc' := [(0, .ref (ad 0)), (3, vi x3), (4, vi x4), (6, vi x6), (7, vi x7), (8, vi x8), (9, vi (x9 + 1))]) [3, 4, 5, 6, 7, 8, 0] rfl ?_
          exact ih x3 x4 x6 x7 x8 (x9 + 1) h221 hf
        · refine q_aloadn dX5_overlap_236 2 rfl ?_
          refine M_g5_9 flX5_28 dX5_overlap_237 ?_
          refine q_iload dX5_overlap_240 7 rfl ?_
          refine q_iload dX5_overlap_242 8 rfl ?_
          refine q_iadd dX5_overlap_244 ?_
          refine q_iloadn dX5_overlap_245 3 rfl ?_
          refine q_isub dX5_overlap_246 ?_
          refine q_aloadn dX5_overlap_247 2 rfl ?_
          refine M_g5_9 flX5_28 dX5_overlap_248 ?_
          refine q_iload dX5_overlap_251 7 rfl ?_
          refine q_iload dX5_overlap_253 8 rfl ?_
          refine q_iadd dX5_overlap_255 ?_
          refine q_iloadn dX5_overlap_256 3 rfl ?_
          refine q_isub dX5_overlap_257 ?_
          refine M_ld rfl hf dX5_overlap_258 (fun v258 hf => ?_)
          refine q_i2l dX5_overlap_259 ?_
          refine q_iload dX5_overlap_260 1 rfl ?_
          refine q_iload dX5_overlap_262 0 rfl ?_
          obtain ⟨r264, h264, e264, hf⟩ := q_cl hf
          refine q_cSi (av := [vi r194, vi r221]) (rest := [vl (wi v258), vi ((x8 + x9) - x3), .ref (ad 7)]) (ctX5_times e264) kX5_times uX5_times lkX5_52 rfl rfl rfl dX5_overlap_264 ?_
          refine q_i2l dX5_overlap_267 ?_
          refine q_iload dX5_overlap_268 6 rfl ?_
          refine q_i2l dX5_overlap_270 ?_
          refine q_lmul dX5_overlap_271 ?_
          refine q_ladd dX5_overlap_272 ?_
          obtain ⟨r273, h273, e273, hf⟩ := q_cl hf
          refine q_cSi (av := [vl ((wi v258) + ((wi r264) * (wi x7)))]) (rest := [vi ((x8 + x9) - x3), .ref (ad 7)]) (ctX5_mod e273) kX5_mod uX5_mod lkX5_48 rfl rfl rfl dX5_overlap_273 ?_
          refine M_st rfl hf dX5_overlap_276 (fun h276 hf => ?_)
          refine q_iinc dX5_overlap_277 8 rfl rfl (loc' := [(9, vi (x9 + 1)), (11, vi r221), (10, vi r194), (0, .ref (ad 0)), (3, vi x3), (4, vi x4), (6, vi x6), (7, vi x7), (8, vi x8)]) rfl ?_
          refine q_goto dX5_overlap_280 163 (by decide) ?_
          refine q_loc (loc' := [(0, .ref (ad 0)), (3, vi x3), (4, vi x4), (6, vi x6), (7, vi x7), (8, vi x8), (9, vi (x9 + 1))]) [3, 4, 5, 6, 7, 8, 0] rfl ?_
          exact ih x3 x4 x6 x7 x8 (x9 + 1) h276 hf
def bX5_overlap_148 (k110 : Int → Int → Int → HP → Option (Int × HP)) (self : Int → Int → Int → Int → Int → HP → Option (Int × HP)) (x3 : Int) (x4 : Int) (x6 : Int) (x7 : Int) (x8 : Int) (h : HP) : Option (Int × HP) :=
  if wi x8 ≤ wi (h 0 6) then (lt (x3 - x6) fun x9_161 => LX5_overlap_163 self FU x3 x4 x6 x7 x8 x9_161 h) else (k110 x3 x4 (x6 + 1) h)
def LX5_overlap_148 (k110 : Int → Int → Int → HP → Option (Int × HP)) : Nat → Int → Int → Int → Int → Int → HP → Option (Int × HP)
  | 0 => fun _ _ _ _ _ _ => none
  | n + 1 => bX5_overlap_148 k110 (LX5_overlap_148 k110 n)
set_option maxRecDepth 20000 in
theorem tX5_overlap_148 {l : Launch} {D : va_G} {ad : Nat → Nat} {cI : ClassId} {Z : Int × HP} {k110 : Int → Int → Int → HP → Option (Int × HP)} (hk110 : ∀ (x3 : Int) (x4 : Int) (x6 : Int) (h : HP), k110 x3 x4 x6 h = some Z → Rn (sdM l D ad cI) mX5_overlap (ri Z) 110 [(0, .ref (ad 0)), (3, vi x3), (4, vi x4), (6, vi x6)] [] h) : ∀ (n : Nat) (x3 : Int) (x4 : Int) (x6 : Int) (x7 : Int) (x8 : Int) (h : HP), LX5_overlap_148 k110 n x3 x4 x6 x7 x8 h = some Z → Rn (sdM l D ad cI) mX5_overlap (ri Z) 148 [(0, .ref (ad 0)), (3, vi x3), (4, vi x4), (6, vi x6), (7, vi x7), (8, vi x8)] [] h := by
  intro n
  induction n with
  | zero => intro x3 x4 x6 x7 x8 h hf; cases hf
  | succ n ih =>
    intro x3 x4 x6 x7 x8 h hf
    replace hf : bX5_overlap_148 k110 (LX5_overlap_148 k110 n) x3 x4 x6 x7 x8 h = some Z := hf
    unfold bX5_overlap_148 at hf
    refine q_iload dX5_overlap_148 5 rfl ?_
    refine q_aloadn dX5_overlap_150 0 rfl ?_
    refine M_g5_6 flX5_81 dX5_overlap_151 ?_
    refine q_icmp_gt hf dX5_overlap_154 289 (by decide) (fun hf => ?_) (fun hf => ?_)
    · refine q_iinc dX5_overlap_289 3 rfl rfl (loc' := [(6, vi (x6 + 1)), (0, .ref (ad 0)), (3, vi x3), (4, vi x4), (7, vi x7), (8, vi x8)]) rfl ?_
      refine q_goto dX5_overlap_292 110 (by decide) ?_
      refine q_loc (loc' := [(0, .ref (ad 0)), (3, vi x3), (4, vi x4), (6, vi (x6 + 1))]) [1, 2, 3, 0] rfl ?_
      exact hk110 x3 x4 (x6 + 1) h hf
    · refine q_iloadn dX5_overlap_157 1 rfl ?_
      refine q_iload dX5_overlap_158 3 rfl ?_
      refine q_isub dX5_overlap_160 ?_
      refine q_lt hf (fun x9_161 hf => ?_)
      refine q_istore dX5_overlap_161 rfl (loc' := [(9, vi x9_161), (0, .ref (ad 0)), (3, vi x3), (4, vi x4), (6, vi x6), (7, vi x7), (8, vi x8)]) rfl ?_
      refine q_loc (loc' := [(0, .ref (ad 0)), (3, vi x3), (4, vi x4), (6, vi x6), (7, vi x7), (8, vi x8), (9, vi x9_161)]) [1, 2, 3, 4, 5, 6, 0] rfl ?_
      exact tX5_overlap_163 ih FU x3 x4 x6 x7 x8 x9_161 h hf
def bX5_overlap_344 (self : Int → Int → Int → HP → Option (Int × HP)) (x4 : Int) (x6 : Int) (x7 : Int) (h : HP) : Option (Int × HP) :=
  if wi x7 ≤ wi (h 0 10) then (ld (lnM 7) (h 7) x7 fun v365 => cl (fX5_times v365 x6 h) fun r368 h368 => sto (lnM 7) h368 7 x7 r368 fun h371 => self x4 x6 (x7 + 1) h371) else (cl (fX5_lay x4 h) fun r381 h381 => some (r381, h381))
def LX5_overlap_344 : Nat → Int → Int → Int → HP → Option (Int × HP)
  | 0 => fun _ _ _ _ => none
  | n + 1 => bX5_overlap_344 (LX5_overlap_344 n)
set_option maxRecDepth 20000 in
theorem tX5_overlap_344 {l : Launch} {D : va_G} {ad : Nat → Nat} {cI : ClassId} {Z : Int × HP} : ∀ (n : Nat) (x4 : Int) (x6 : Int) (x7 : Int) (h : HP), LX5_overlap_344 n x4 x6 x7 h = some Z → Rn (sdM l D ad cI) mX5_overlap (ri Z) 344 [(0, .ref (ad 0)), (4, vi x4), (6, vi x6), (7, vi x7)] [] h := by
  intro n
  induction n with
  | zero => intro x4 x6 x7 h hf; cases hf
  | succ n ih =>
    intro x4 x6 x7 h hf
    replace hf : bX5_overlap_344 (LX5_overlap_344 n) x4 x6 x7 h = some Z := hf
    unfold bX5_overlap_344 at hf
    refine q_iload dX5_overlap_344 3 rfl ?_
    refine q_aloadn dX5_overlap_346 0 rfl ?_
    refine M_g5_10 flX5_87 dX5_overlap_347 ?_
    refine q_icmp_gt hf dX5_overlap_350 378 (by decide) (fun hf => ?_) (fun hf => ?_)
    · refine q_aloadn dX5_overlap_378 0 rfl ?_
      refine q_iload dX5_overlap_379 1 rfl ?_
      obtain ⟨r381, h381, e381, hf⟩ := q_cl hf
      refine q_cVi (av := [vi x4]) (rest := []) wM_0 (ctX5_lay e381) kX5_lay vX5_lay zX5_lay lkX5_116 rfl rfl rfl rfl rfl dX5_overlap_381 ?_
      exact q_iret hf rfl dX5_overlap_384
    · refine q_aloadn dX5_overlap_353 0 rfl ?_
      refine M_g5_9 flX5_28 dX5_overlap_354 ?_
      refine q_iload dX5_overlap_357 3 rfl ?_
      refine q_aloadn dX5_overlap_359 0 rfl ?_
      refine M_g5_9 flX5_28 dX5_overlap_360 ?_
      refine q_iload dX5_overlap_363 3 rfl ?_
      refine M_ld rfl hf dX5_overlap_365 (fun v365 hf => ?_)
      refine q_iload dX5_overlap_366 2 rfl ?_
      obtain ⟨r368, h368, e368, hf⟩ := q_cl hf
      refine q_cSi (av := [vi v365, vi x6]) (rest := [vi x7, .ref (ad 7)]) (ctX5_times e368) kX5_times uX5_times lkX5_52 rfl rfl rfl dX5_overlap_368 ?_
      refine M_st rfl hf dX5_overlap_371 (fun h371 hf => ?_)
      refine q_iinc dX5_overlap_372 3 rfl rfl (loc' := [(7, vi (x7 + 1)), (0, .ref (ad 0)), (4, vi x4), (6, vi x6)]) rfl ?_
      refine q_goto dX5_overlap_375 344 (by decide) ?_
      refine q_loc (loc' := [(0, .ref (ad 0)), (4, vi x4), (6, vi x6), (7, vi (x7 + 1))]) [1, 2, 3, 0] rfl ?_
      exact ih x4 x6 (x7 + 1) h371 hf
def bX5_overlap_110 (self : Int → Int → Int → HP → Option (Int × HP)) (x3 : Int) (x4 : Int) (x6 : Int) (h : HP) : Option (Int × HP) :=
  if wi x6 ≤ wi x3 then (if wi (Int.tmod (wi x6) (wi 2)) = 0 then (cl (fX5_over x3 x6 h) fun r126 h126 => LX5_overlap_148 self FU x3 x4 x6 r126 x6 h126) else (cl (fX5_over x3 x6 h) fun r138 h138 => lt (10007 - r138) fun x7_142 => LX5_overlap_148 self FU x3 x4 x6 x7_142 x6 h138)) else (cl (fX5_factorial ((h 0 6) - x3) h) fun r301 h301 => cl (fX5_factorial ((h301 0 8) - x3) h301) fun r310 h310 => cl (fX5_times r301 r310 h310) fun r313 h313 => cl (fX5_factorial (h313 0 6) h313) fun r320 h320 => cl (fX5_factorial (h320 0 8) h320) fun r327 h327 => cl (fX5_times r320 r327 h327) fun r330 h330 => cl (fX5_turned r330 h330) fun r333 h333 => cl (fX5_times r313 r333 h333) fun r336 h336 => LX5_overlap_344 FU x4 r336 0 h336)
def LX5_overlap_110 : Nat → Int → Int → Int → HP → Option (Int × HP)
  | 0 => fun _ _ _ _ => none
  | n + 1 => bX5_overlap_110 (LX5_overlap_110 n)
set_option maxRecDepth 20000 in
theorem tX5_overlap_110 {l : Launch} {D : va_G} {ad : Nat → Nat} {cI : ClassId} {Z : Int × HP} : ∀ (n : Nat) (x3 : Int) (x4 : Int) (x6 : Int) (h : HP), LX5_overlap_110 n x3 x4 x6 h = some Z → Rn (sdM l D ad cI) mX5_overlap (ri Z) 110 [(0, .ref (ad 0)), (3, vi x3), (4, vi x4), (6, vi x6)] [] h := by
  intro n
  induction n with
  | zero => intro x3 x4 x6 h hf; cases hf
  | succ n ih =>
    intro x3 x4 x6 h hf
    replace hf : bX5_overlap_110 (LX5_overlap_110 n) x3 x4 x6 h = some Z := hf
    unfold bX5_overlap_110 at hf
    refine q_iload dX5_overlap_110 3 rfl ?_
    refine q_iloadn dX5_overlap_112 1 rfl ?_
    refine q_icmp_gt hf dX5_overlap_113 295 (by decide) (fun hf => ?_) (fun hf => ?_)
    · refine q_aloadn dX5_overlap_295 0 rfl ?_
      refine M_g5_6 flX5_81 dX5_overlap_296 ?_
      refine q_iloadn dX5_overlap_299 1 rfl ?_
      refine q_isub dX5_overlap_300 ?_
      obtain ⟨r301, h301, e301, hf⟩ := q_cl hf
      refine q_cSi (av := [vi ((h 0 6) - x3)]) (rest := []) (ctX5_factorial e301) kX5_factorial uX5_factorial lkX5_130 rfl rfl rfl dX5_overlap_301 ?_
      refine q_aloadn dX5_overlap_304 0 rfl ?_
      refine M_g5_8 flX5_84 dX5_overlap_305 ?_
      refine q_iloadn dX5_overlap_308 1 rfl ?_
      refine q_isub dX5_overlap_309 ?_
      obtain ⟨r310, h310, e310, hf⟩ := q_cl hf
      refine q_cSi (av := [vi ((h301 0 8) - x3)]) (rest := [vi r301]) (ctX5_factorial e310) kX5_factorial uX5_factorial lkX5_130 rfl rfl rfl dX5_overlap_310 ?_
      obtain ⟨r313, h313, e313, hf⟩ := q_cl hf
      refine q_cSi (av := [vi r301, vi r310]) (rest := []) (ctX5_times e313) kX5_times uX5_times lkX5_52 rfl rfl rfl dX5_overlap_313 ?_
      refine q_aloadn dX5_overlap_316 0 rfl ?_
      refine M_g5_6 flX5_81 dX5_overlap_317 ?_
      obtain ⟨r320, h320, e320, hf⟩ := q_cl hf
      refine q_cSi (av := [vi (h313 0 6)]) (rest := [vi r313]) (ctX5_factorial e320) kX5_factorial uX5_factorial lkX5_130 rfl rfl rfl dX5_overlap_320 ?_
      refine q_aloadn dX5_overlap_323 0 rfl ?_
      refine M_g5_8 flX5_84 dX5_overlap_324 ?_
      obtain ⟨r327, h327, e327, hf⟩ := q_cl hf
      refine q_cSi (av := [vi (h320 0 8)]) (rest := [vi r320, vi r313]) (ctX5_factorial e327) kX5_factorial uX5_factorial lkX5_130 rfl rfl rfl dX5_overlap_327 ?_
      obtain ⟨r330, h330, e330, hf⟩ := q_cl hf
      refine q_cSi (av := [vi r320, vi r327]) (rest := [vi r313]) (ctX5_times e330) kX5_times uX5_times lkX5_52 rfl rfl rfl dX5_overlap_330 ?_
      obtain ⟨r333, h333, e333, hf⟩ := q_cl hf
      refine q_cSi (av := [vi r330]) (rest := [vi r313]) (ctX5_turned e333) kX5_turned uX5_turned lkX5_133 rfl rfl rfl dX5_overlap_333 ?_
      obtain ⟨r336, h336, e336, hf⟩ := q_cl hf
      refine q_cSi (av := [vi r313, vi r333]) (rest := []) (ctX5_times e336) kX5_times uX5_times lkX5_52 rfl rfl rfl dX5_overlap_336 ?_
      refine q_istore dX5_overlap_339 rfl (loc' := [(6, vi r336), (0, .ref (ad 0)), (3, vi x3), (4, vi x4)]) rfl ?_
      refine q_iconst dX5_overlap_341 ?_
      refine q_istore dX5_overlap_342 rfl (loc' := [(7, vi 0), (6, vi r336), (0, .ref (ad 0)), (3, vi x3), (4, vi x4)]) rfl ?_
      refine q_loc (loc' := [(0, .ref (ad 0)), (4, vi x4), (6, vi r336), (7, vi 0)]) [2, 4, 1, 0] rfl ?_
      exact tX5_overlap_344 FU x4 r336 0 h336 hf
    · refine q_iload dX5_overlap_116 3 rfl ?_
      refine q_iconst dX5_overlap_118 ?_
      refine q_irem dX5_overlap_119 nz2 ?_
      refine q_if_ne hf dX5_overlap_120 132 (by decide) (fun hf => ?_) (fun hf => ?_)
      · refine q_sipush dX5_overlap_132 (by decide) ?_
        refine q_iloadn dX5_overlap_135 1 rfl ?_
        refine q_iload dX5_overlap_136 3 rfl ?_
        obtain ⟨r138, h138, e138, hf⟩ := q_cl hf
        refine q_cSi (av := [vi x3, vi x6]) (rest := [vi 10007]) (ctX5_over e138) kX5_over uX5_over lkX5_123 rfl rfl rfl dX5_overlap_138 ?_
        refine q_isub dX5_overlap_141 ?_
        refine q_lt hf (fun x7_142 hf => ?_)
        refine q_istore dX5_overlap_142 rfl (loc' := [(7, vi x7_142), (0, .ref (ad 0)), (3, vi x3), (4, vi x4), (6, vi x6)]) rfl ?_
        refine q_iload dX5_overlap_144 4 rfl ?_
        refine q_istore dX5_overlap_146 rfl (loc' := [(8, vi x6), (7, vi x7_142), (0, .ref (ad 0)), (3, vi x3), (4, vi x4), (6, vi x6)]) rfl ?_
        refine q_loc (loc' := [(0, .ref (ad 0)), (3, vi x3), (4, vi x4), (6, vi x6), (7, vi x7_142), (8, vi x6)]) [2, 3, 4, 5, 1, 0] rfl ?_
        exact tX5_overlap_148 ih FU x3 x4 x6 x7_142 x6 h138 hf
      · refine q_iloadn dX5_overlap_123 1 rfl ?_
        refine q_iload dX5_overlap_124 3 rfl ?_
        obtain ⟨r126, h126, e126, hf⟩ := q_cl hf
        refine q_cSi (av := [vi x3, vi x6]) (rest := []) (ctX5_over e126) kX5_over uX5_over lkX5_123 rfl rfl rfl dX5_overlap_126 ?_
        refine q_goto dX5_overlap_129 142 (by decide) ?_
        refine q_istore dX5_overlap_142 rfl (loc' := [(7, vi r126), (0, .ref (ad 0)), (3, vi x3), (4, vi x4), (6, vi x6)]) rfl ?_
        refine q_iload dX5_overlap_144 4 rfl ?_
        refine q_istore dX5_overlap_146 rfl (loc' := [(8, vi x6), (7, vi r126), (0, .ref (ad 0)), (3, vi x3), (4, vi x4), (6, vi x6)]) rfl ?_
        refine q_loc (loc' := [(0, .ref (ad 0)), (3, vi x3), (4, vi x4), (6, vi x6), (7, vi r126), (8, vi x6)]) [2, 3, 4, 5, 1, 0] rfl ?_
        exact tX5_overlap_148 ih FU x3 x4 x6 r126 x6 h126 hf
def fX5_overlap (x1 : Int) (x2 : Int) (x3 : Int) (x4 : Int) (h : HP) : Option (Int × HP) :=
  cl (fX5_isSheet x1 h) fun r1 h1 => if wi r1 = 0 then (some ((-2), h1)) else (cl (fX5_isSheet x2 h1) fun r8 h8 => if wi r8 = 0 then (some ((-2), h8)) else (cl (fX5_in (wi x3) 0 8 h8) fun r20 h20 => if wi r20 = 0 then (some ((-2), h20)) else (cl (fX5_isSheet x4 h20) fun r28 h28 => if wi r28 = 0 then (some ((-2), h28)) else (cl (fX5_lacksTwo x1 x2 h28) fun r40 h40 => if wi r40 = 0 then (if wi x3 ≤ wi (h40 0 6) then (if wi x3 ≤ wi (h40 0 8) then (if wi 8 < wi (((h40 0 6) + (h40 0 8)) - (2 * x3)) then (some ((-3), h40)) else (cl (fX5_noughtH (((h40 0 6) + (h40 0 8)) - (2 * x3)) h40) fun _ h104 => LX5_overlap_110 FU x3 x4 0 h104)) else (some ((-3), h40))) else (some ((-3), h40))) else (some (r40, h40))))))
set_option maxRecDepth 20000 in
theorem ctX5_overlap {l : Launch} {D : va_G} {ad : Nat → Nat} {cI : ClassId} {x1 : Int} {x2 : Int} {x3 : Int} {x4 : Int} {h : HP} {Z : Int × HP} (hf : fX5_overlap x1 x2 x3 x4 h = some Z) : Ct (sdM l D ad cI) mX5_overlap [.ref (ad 0), vi x1, vi x2, vi x3, vi x4] h (ri Z) := by
  refine Ct.ofF nX5_overlap rfl (loc := [(0, .ref (ad 0)), (1, vi x1), (2, vi x2), (3, vi x3), (4, vi x4)]) rfl ?_
  unfold fX5_overlap at hf
  refine q_iloadn dX5_overlap_0 1 rfl ?_
  obtain ⟨r1, h1, e1, hf⟩ := q_cl hf
  refine q_cSi (av := [vi x1]) (rest := []) (ctX5_isSheet e1) kX5_isSheet uX5_isSheet lkX5_66 rfl rfl rfl dX5_overlap_1 ?_
  refine q_if_eq hf dX5_overlap_4 34 (by decide) (fun hf => ?_) (fun hf => ?_)
  · refine q_bipush dX5_overlap_34 (by decide) ?_
    exact q_iret hf rfl dX5_overlap_36
  · refine q_iloadn dX5_overlap_7 2 rfl ?_
    obtain ⟨r8, h8, e8, hf⟩ := q_cl hf
    refine q_cSi (av := [vi x2]) (rest := []) (ctX5_isSheet e8) kX5_isSheet uX5_isSheet lkX5_66 rfl rfl rfl dX5_overlap_8 ?_
    refine q_if_eq hf dX5_overlap_11 34 (by decide) (fun hf => ?_) (fun hf => ?_)
    · refine q_bipush dX5_overlap_34 (by decide) ?_
      exact q_iret hf rfl dX5_overlap_36
    · refine q_iloadn dX5_overlap_14 3 rfl ?_
      refine q_i2l dX5_overlap_15 ?_
      refine q_lconst (n := 0) dX5_overlap_16 (by decide) ?_
      refine q_ldc2 (n := 8) dX5_overlap_17 kcX5_100 ?_
      obtain ⟨r20, h20, e20, hf⟩ := q_cl hf
      refine q_cSi (av := [vl (wi x3), vl 0, vl 8]) (rest := []) (ctX5_in e20) kX5_in uX5_in lkX5_62 rfl rfl rfl dX5_overlap_20 ?_
      refine q_if_eq hf dX5_overlap_23 34 (by decide) (fun hf => ?_) (fun hf => ?_)
      · refine q_bipush dX5_overlap_34 (by decide) ?_
        exact q_iret hf rfl dX5_overlap_36
      · refine q_iload dX5_overlap_26 4 rfl ?_
        obtain ⟨r28, h28, e28, hf⟩ := q_cl hf
        refine q_cSi (av := [vi x4]) (rest := []) (ctX5_isSheet e28) kX5_isSheet uX5_isSheet lkX5_66 rfl rfl rfl dX5_overlap_28 ?_
        refine q_if_ne hf dX5_overlap_31 37 (by decide) (fun hf => ?_) (fun hf => ?_)
        · refine q_aloadn dX5_overlap_37 0 rfl ?_
          refine q_iloadn dX5_overlap_38 1 rfl ?_
          refine q_iloadn dX5_overlap_39 2 rfl ?_
          obtain ⟨r40, h40, e40, hf⟩ := q_cl hf
          refine q_cVi (av := [vi x1, vi x2]) (rest := []) wM_0 (ctX5_lacksTwo e40) kX5_lacksTwo vX5_lacksTwo zX5_lacksTwo lkX5_110 rfl rfl rfl rfl rfl dX5_overlap_40 ?_
          refine q_istore dX5_overlap_43 rfl (loc' := [(5, vi r40), (0, .ref (ad 0)), (1, vi x1), (2, vi x2), (3, vi x3), (4, vi x4)]) rfl ?_
          refine q_iload dX5_overlap_45 0 rfl ?_
          refine q_if_eq hf dX5_overlap_47 53 (by decide) (fun hf => ?_) (fun hf => ?_)
          · refine q_iloadn dX5_overlap_53 4 rfl ?_
            refine q_aloadn dX5_overlap_54 1 rfl ?_
            refine M_g5_6 flX5_81 dX5_overlap_55 ?_
            refine q_icmp_gt hf dX5_overlap_58 87 (by decide) (fun hf => ?_) (fun hf => ?_)
            · refine q_bipush dX5_overlap_87 (by decide) ?_
              exact q_iret hf rfl dX5_overlap_89
            · refine q_iloadn dX5_overlap_61 4 rfl ?_
              refine q_aloadn dX5_overlap_62 1 rfl ?_
              refine M_g5_8 flX5_84 dX5_overlap_63 ?_
              refine q_icmp_gt hf dX5_overlap_66 87 (by decide) (fun hf => ?_) (fun hf => ?_)
              · refine q_bipush dX5_overlap_87 (by decide) ?_
                exact q_iret hf rfl dX5_overlap_89
              · refine q_aloadn dX5_overlap_69 1 rfl ?_
                refine M_g5_6 flX5_81 dX5_overlap_70 ?_
                refine q_aloadn dX5_overlap_73 1 rfl ?_
                refine M_g5_8 flX5_84 dX5_overlap_74 ?_
                refine q_iadd dX5_overlap_77 ?_
                refine q_iconst dX5_overlap_78 ?_
                refine q_iloadn dX5_overlap_79 4 rfl ?_
                refine q_imul dX5_overlap_80 ?_
                refine q_isub dX5_overlap_81 ?_
                refine q_bipush dX5_overlap_82 (by decide) ?_
                refine q_icmp_le hf dX5_overlap_84 90 (by decide) (fun hf => ?_) (fun hf => ?_)
                · refine q_aloadn dX5_overlap_90 1 rfl ?_
                  refine q_aloadn dX5_overlap_91 1 rfl ?_
                  refine M_g5_6 flX5_81 dX5_overlap_92 ?_
                  refine q_aloadn dX5_overlap_95 1 rfl ?_
                  refine M_g5_8 flX5_84 dX5_overlap_96 ?_
                  refine q_iadd dX5_overlap_99 ?_
                  refine q_iconst dX5_overlap_100 ?_
                  refine q_iloadn dX5_overlap_101 4 rfl ?_
                  refine q_imul dX5_overlap_102 ?_
                  refine q_isub dX5_overlap_103 ?_
                  obtain ⟨r104, h104, e104, hf⟩ := q_cl hf
                  refine q_cVv (av := [vi (((h40 0 6) + (h40 0 8)) - (2 * x3))]) (rest := []) wM_0 (ctX5_noughtH e104) kX5_noughtH vX5_noughtH zX5_noughtH lkX5_113 rfl rfl rfl rfl rfl dX5_overlap_104 ?_
                  refine q_iconst dX5_overlap_107 ?_
                  refine q_istore dX5_overlap_108 rfl (loc' := [(6, vi 0), (5, vi r40), (0, .ref (ad 0)), (1, vi x1), (2, vi x2), (3, vi x3), (4, vi x4)]) rfl ?_
                  refine q_loc (loc' := [(0, .ref (ad 0)), (3, vi x3), (4, vi x4), (6, vi 0)]) [2, 5, 6, 0] rfl ?_
                  exact tX5_overlap_110 FU x3 x4 0 h104 hf
                · refine q_bipush dX5_overlap_87 (by decide) ?_
                  exact q_iret hf rfl dX5_overlap_89
          · refine q_iload dX5_overlap_50 0 rfl ?_
            exact q_iret hf rfl dX5_overlap_52
        · refine q_bipush dX5_overlap_34 (by decide) ?_
          exact q_iret hf rfl dX5_overlap_36
def jX5_alike_57  (h : HP) : Option (Int × HP) :=
  cl (fX5_isNoughtF h) fun r58 h58 => if wi r58 = 0 then (some (0, h58)) else (cl (fX5_isNoughtG h58) fun r65 h65 => if wi r65 = 0 then (some (0, h65)) else (some (1, h65)))
set_option maxRecDepth 20000 in
theorem tX5_alike_57 {l : Launch} {D : va_G} {ad : Nat → Nat} {cI : ClassId} {Z : Int × HP}  (h : HP) (hf : jX5_alike_57 h = some Z) : Rn (sdM l D ad cI) mX5_alike (ri Z) 57 [(0, .ref (ad 0))] [] h := by
  unfold jX5_alike_57 at hf
  refine q_aloadn dX5_alike_57 0 rfl ?_
  obtain ⟨r58, h58, e58, hf⟩ := q_cl hf
  refine q_cVi (av := []) (rest := []) wM_0 (ctX5_isNoughtF e58) kX5_isNoughtF vX5_isNoughtF zX5_isNoughtF lkX5_136 rfl rfl rfl rfl rfl dX5_alike_58 ?_
  refine q_if_eq hf dX5_alike_61 75 (by decide) (fun hf => ?_) (fun hf => ?_)
  · refine q_iconst dX5_alike_75 ?_
    exact q_iret hf rfl dX5_alike_76
  · refine q_aloadn dX5_alike_64 0 rfl ?_
    obtain ⟨r65, h65, e65, hf⟩ := q_cl hf
    refine q_cVi (av := []) (rest := []) wM_0 (ctX5_isNoughtG e65) kX5_isNoughtG vX5_isNoughtG zX5_isNoughtG lkX5_140 rfl rfl rfl rfl rfl dX5_alike_65 ?_
    refine q_if_eq hf dX5_alike_68 75 (by decide) (fun hf => ?_) (fun hf => ?_)
    · refine q_iconst dX5_alike_75 ?_
      exact q_iret hf rfl dX5_alike_76
    · refine q_iconst dX5_alike_71 ?_
      refine q_goto dX5_alike_72 76 (by decide) ?_
      exact q_iret hf rfl dX5_alike_76
def bX5_alike_121 (self : Int → Int → HP → Option (Int × HP)) (x5 : Int) (x6 : Int) (h : HP) : Option (Int × HP) :=
  if wi x6 ≤ wi (h 0 6) then (ld (lnM 6) (h 6) x6 fun v136 => ld (lnM 5) (h 5) x6 fun v145 => cl (fX5_times x5 v145 h) fun r146 h146 => if wi v136 = wi r146 then (self x5 (x6 + 1) h146) else (some (0, h146))) else (some (x5, h))
def LX5_alike_121 : Nat → Int → Int → HP → Option (Int × HP)
  | 0 => fun _ _ _ => none
  | n + 1 => bX5_alike_121 (LX5_alike_121 n)
set_option maxRecDepth 20000 in
theorem tX5_alike_121 {l : Launch} {D : va_G} {ad : Nat → Nat} {cI : ClassId} {Z : Int × HP} : ∀ (n : Nat) (x5 : Int) (x6 : Int) (h : HP), LX5_alike_121 n x5 x6 h = some Z → Rn (sdM l D ad cI) mX5_alike (ri Z) 121 [(0, .ref (ad 0)), (5, vi x5), (6, vi x6)] [] h := by
  intro n
  induction n with
  | zero => intro x5 x6 h hf; cases hf
  | succ n ih =>
    intro x5 x6 h hf
    replace hf : bX5_alike_121 (LX5_alike_121 n) x5 x6 h = some Z := hf
    unfold bX5_alike_121 at hf
    refine q_iload dX5_alike_121 2 rfl ?_
    refine q_aloadn dX5_alike_123 0 rfl ?_
    refine M_g5_6 flX5_81 dX5_alike_124 ?_
    refine q_icmp_gt hf dX5_alike_127 160 (by decide) (fun hf => ?_) (fun hf => ?_)
    · refine q_iload dX5_alike_160 1 rfl ?_
      exact q_iret hf rfl dX5_alike_162
    · refine q_aloadn dX5_alike_130 0 rfl ?_
      refine M_g5_7 flX5_25 dX5_alike_131 ?_
      refine q_iload dX5_alike_134 2 rfl ?_
      refine M_ld rfl hf dX5_alike_136 (fun v136 hf => ?_)
      refine q_iload dX5_alike_137 1 rfl ?_
      refine q_aloadn dX5_alike_139 0 rfl ?_
      refine M_g5_5 flX5_22 dX5_alike_140 ?_
      refine q_iload dX5_alike_143 2 rfl ?_
      refine M_ld rfl hf dX5_alike_145 (fun v145 hf => ?_)
      obtain ⟨r146, h146, e146, hf⟩ := q_cl hf
      refine q_cSi (av := [vi x5, vi v145]) (rest := [vi v136]) (ctX5_times e146) kX5_times uX5_times lkX5_52 rfl rfl rfl dX5_alike_146 ?_
      refine q_icmp_eq hf dX5_alike_149 154 (by decide) (fun hf => ?_) (fun hf => ?_)
      · refine q_iinc dX5_alike_154 2 rfl rfl (loc' := [(6, vi (x6 + 1)), (0, .ref (ad 0)), (5, vi x5)]) rfl ?_
        refine q_goto dX5_alike_157 121 (by decide) ?_
        refine q_loc (loc' := [(0, .ref (ad 0)), (5, vi x5), (6, vi (x6 + 1))]) [1, 2, 0] rfl ?_
        exact ih x5 (x6 + 1) h146 hf
      · refine q_iconst dX5_alike_152 ?_
        exact q_iret hf rfl dX5_alike_153
def bX5_alike_80 (self : Int → HP → Option (Int × HP)) (x4 : Int) (h : HP) : Option (Int × HP) :=
  ld (lnM 5) (h 5) x4 fun v86 => if wi v86 = 0 then (self (x4 + 1) h) else (ld (lnM 6) (h 6) x4 fun v102 => ld (lnM 5) (h 5) x4 fun v109 => cl (fX5_turned v109 h) fun r110 h110 => cl (fX5_times v102 r110 h110) fun r113 h113 => LX5_alike_121 FU r113 0 h113)
def LX5_alike_80 : Nat → Int → HP → Option (Int × HP)
  | 0 => fun _ _ => none
  | n + 1 => bX5_alike_80 (LX5_alike_80 n)
set_option maxRecDepth 20000 in
theorem tX5_alike_80 {l : Launch} {D : va_G} {ad : Nat → Nat} {cI : ClassId} {Z : Int × HP} : ∀ (n : Nat) (x4 : Int) (h : HP), LX5_alike_80 n x4 h = some Z → Rn (sdM l D ad cI) mX5_alike (ri Z) 80 [(0, .ref (ad 0)), (4, vi x4)] [] h := by
  intro n
  induction n with
  | zero => intro x4 h hf; cases hf
  | succ n ih =>
    intro x4 h hf
    replace hf : bX5_alike_80 (LX5_alike_80 n) x4 h = some Z := hf
    unfold bX5_alike_80 at hf
    refine q_aloadn dX5_alike_80 0 rfl ?_
    refine M_g5_5 flX5_22 dX5_alike_81 ?_
    refine q_iload dX5_alike_84 1 rfl ?_
    refine M_ld rfl hf dX5_alike_86 (fun v86 hf => ?_)
    refine q_if_ne hf dX5_alike_87 96 (by decide) (fun hf => ?_) (fun hf => ?_)
    · refine q_aloadn dX5_alike_96 0 rfl ?_
      refine M_g5_7 flX5_25 dX5_alike_97 ?_
      refine q_iload dX5_alike_100 1 rfl ?_
      refine M_ld rfl hf dX5_alike_102 (fun v102 hf => ?_)
      refine q_aloadn dX5_alike_103 0 rfl ?_
      refine M_g5_5 flX5_22 dX5_alike_104 ?_
      refine q_iload dX5_alike_107 1 rfl ?_
      refine M_ld rfl hf dX5_alike_109 (fun v109 hf => ?_)
      obtain ⟨r110, h110, e110, hf⟩ := q_cl hf
      refine q_cSi (av := [vi v109]) (rest := [vi v102]) (ctX5_turned e110) kX5_turned uX5_turned lkX5_133 rfl rfl rfl dX5_alike_110 ?_
      obtain ⟨r113, h113, e113, hf⟩ := q_cl hf
      refine q_cSi (av := [vi v102, vi r110]) (rest := []) (ctX5_times e113) kX5_times uX5_times lkX5_52 rfl rfl rfl dX5_alike_113 ?_
      refine q_istore dX5_alike_116 rfl (loc' := [(5, vi r113), (0, .ref (ad 0)), (4, vi x4)]) rfl ?_
      refine q_iconst dX5_alike_118 ?_
      refine q_istore dX5_alike_119 rfl (loc' := [(6, vi 0), (5, vi r113), (0, .ref (ad 0)), (4, vi x4)]) rfl ?_
      refine q_loc (loc' := [(0, .ref (ad 0)), (5, vi r113), (6, vi 0)]) [2, 1, 0] rfl ?_
      exact tX5_alike_121 FU r113 0 h113 hf
    · refine q_iinc dX5_alike_90 1 rfl rfl (loc' := [(4, vi (x4 + 1)), (0, .ref (ad 0))]) rfl ?_
      refine q_goto dX5_alike_93 80 (by decide) ?_
      refine q_loc (loc' := [(0, .ref (ad 0)), (4, vi (x4 + 1))]) [1, 0] rfl ?_
      exact ih (x4 + 1) h hf
def fX5_alike (x1 : Int) (x2 : Int) (h : HP) : Option (Int × HP) :=
  cl (fX5_isSheet x1 h) fun r1 h1 => if wi r1 = 0 then (some ((-2), h1)) else (cl (fX5_isSheet x2 h1) fun r8 h8 => if wi r8 = 0 then (some ((-2), h8)) else (cl (fX5_lacksTwo x1 x2 h8) fun r20 h20 => if wi r20 = 0 then (if wi (h20 0 6) = wi (h20 0 8) then (cl (fX5_isNoughtF h20) fun r44 h44 => if wi r44 = 0 then (cl (fX5_isNoughtG h44) fun r51 h51 => if wi r51 = 0 then (LX5_alike_80 FU 0 h51) else (jX5_alike_57 h51)) else (jX5_alike_57 h44)) else (some (0, h20))) else (some (r20, h20))))
set_option maxRecDepth 20000 in
theorem ctX5_alike {l : Launch} {D : va_G} {ad : Nat → Nat} {cI : ClassId} {x1 : Int} {x2 : Int} {h : HP} {Z : Int × HP} (hf : fX5_alike x1 x2 h = some Z) : Ct (sdM l D ad cI) mX5_alike [.ref (ad 0), vi x1, vi x2] h (ri Z) := by
  refine Ct.ofF nX5_alike rfl (loc := [(0, .ref (ad 0)), (1, vi x1), (2, vi x2)]) rfl ?_
  unfold fX5_alike at hf
  refine q_iloadn dX5_alike_0 1 rfl ?_
  obtain ⟨r1, h1, e1, hf⟩ := q_cl hf
  refine q_cSi (av := [vi x1]) (rest := []) (ctX5_isSheet e1) kX5_isSheet uX5_isSheet lkX5_66 rfl rfl rfl dX5_alike_1 ?_
  refine q_if_eq hf dX5_alike_4 14 (by decide) (fun hf => ?_) (fun hf => ?_)
  · refine q_bipush dX5_alike_14 (by decide) ?_
    exact q_iret hf rfl dX5_alike_16
  · refine q_iloadn dX5_alike_7 2 rfl ?_
    obtain ⟨r8, h8, e8, hf⟩ := q_cl hf
    refine q_cSi (av := [vi x2]) (rest := []) (ctX5_isSheet e8) kX5_isSheet uX5_isSheet lkX5_66 rfl rfl rfl dX5_alike_8 ?_
    refine q_if_ne hf dX5_alike_11 17 (by decide) (fun hf => ?_) (fun hf => ?_)
    · refine q_aloadn dX5_alike_17 0 rfl ?_
      refine q_iloadn dX5_alike_18 1 rfl ?_
      refine q_iloadn dX5_alike_19 2 rfl ?_
      obtain ⟨r20, h20, e20, hf⟩ := q_cl hf
      refine q_cVi (av := [vi x1, vi x2]) (rest := []) wM_0 (ctX5_lacksTwo e20) kX5_lacksTwo vX5_lacksTwo zX5_lacksTwo lkX5_110 rfl rfl rfl rfl rfl dX5_alike_20 ?_
      refine q_istoren dX5_alike_23 rfl (loc' := [(3, vi r20), (0, .ref (ad 0)), (1, vi x1), (2, vi x2)]) rfl ?_
      refine q_iloadn dX5_alike_24 0 rfl ?_
      refine q_if_eq hf dX5_alike_25 30 (by decide) (fun hf => ?_) (fun hf => ?_)
      · refine q_aloadn dX5_alike_30 1 rfl ?_
        refine M_g5_6 flX5_81 dX5_alike_31 ?_
        refine q_aloadn dX5_alike_34 1 rfl ?_
        refine M_g5_8 flX5_84 dX5_alike_35 ?_
        refine q_icmp_eq hf dX5_alike_38 43 (by decide) (fun hf => ?_) (fun hf => ?_)
        · refine q_aloadn dX5_alike_43 1 rfl ?_
          obtain ⟨r44, h44, e44, hf⟩ := q_cl hf
          refine q_cVi (av := []) (rest := []) wM_0 (ctX5_isNoughtF e44) kX5_isNoughtF vX5_isNoughtF zX5_isNoughtF lkX5_136 rfl rfl rfl rfl rfl dX5_alike_44 ?_
          refine q_if_ne hf dX5_alike_47 57 (by decide) (fun hf => ?_) (fun hf => ?_)
          · refine q_loc (loc' := [(0, .ref (ad 0))]) [1] rfl ?_
            exact tX5_alike_57 h44 hf
          · refine q_aloadn dX5_alike_50 1 rfl ?_
            obtain ⟨r51, h51, e51, hf⟩ := q_cl hf
            refine q_cVi (av := []) (rest := []) wM_0 (ctX5_isNoughtG e51) kX5_isNoughtG vX5_isNoughtG zX5_isNoughtG lkX5_140 rfl rfl rfl rfl rfl dX5_alike_51 ?_
            refine q_if_eq hf dX5_alike_54 77 (by decide) (fun hf => ?_) (fun hf => ?_)
            · refine q_iconst dX5_alike_77 ?_
              refine q_istore dX5_alike_78 rfl (loc' := [(4, vi 0), (3, vi r20), (0, .ref (ad 0)), (1, vi x1), (2, vi x2)]) rfl ?_
              refine q_loc (loc' := [(0, .ref (ad 0)), (4, vi 0)]) [2, 0] rfl ?_
              exact tX5_alike_80 FU 0 h51 hf
            · refine q_loc (loc' := [(0, .ref (ad 0))]) [1] rfl ?_
              exact tX5_alike_57 h51 hf
        · refine q_iconst dX5_alike_41 ?_
          exact q_iret hf rfl dX5_alike_42
      · refine q_iloadn dX5_alike_28 0 rfl ?_
        exact q_iret hf rfl dX5_alike_29
    · refine q_bipush dX5_alike_14 (by decide) ?_
      exact q_iret hf rfl dX5_alike_16
def bX5_isRoot_32 (self : Int → Int → Int → HP → Option (Int × HP)) (x1 : Int) (x2 : Int) (x3 : Int) (h : HP) : Option (Int × HP) :=
  if 0 ≤ wi x3 then (ld (lnM 5) (h 5) x3 fun v46 => cl (fX5_mod (((wi x2) * (wi x1)) + (wi v46)) h) fun r49 h49 => self x1 r49 (x3 + (-1)) h49) else (if wi x2 = 0 then (some (1, h)) else (some (0, h)))
def LX5_isRoot_32 : Nat → Int → Int → Int → HP → Option (Int × HP)
  | 0 => fun _ _ _ _ => none
  | n + 1 => bX5_isRoot_32 (LX5_isRoot_32 n)
set_option maxRecDepth 20000 in
theorem tX5_isRoot_32 {l : Launch} {D : va_G} {ad : Nat → Nat} {cI : ClassId} {Z : Int × HP} : ∀ (n : Nat) (x1 : Int) (x2 : Int) (x3 : Int) (h : HP), LX5_isRoot_32 n x1 x2 x3 h = some Z → Rn (sdM l D ad cI) mX5_isRoot (ri Z) 32 [(0, .ref (ad 0)), (1, vi x1), (2, vi x2), (3, vi x3)] [] h := by
  intro n
  induction n with
  | zero => intro x1 x2 x3 h hf; cases hf
  | succ n ih =>
    intro x1 x2 x3 h hf
    replace hf : bX5_isRoot_32 (LX5_isRoot_32 n) x1 x2 x3 h = some Z := hf
    unfold bX5_isRoot_32 at hf
    refine q_iloadn dX5_isRoot_32 3 rfl ?_
    refine q_if_lt hf dX5_isRoot_33 59 (by decide) (fun hf => ?_) (fun hf => ?_)
    · refine q_iloadn dX5_isRoot_59 2 rfl ?_
      refine q_if_ne hf dX5_isRoot_60 67 (by decide) (fun hf => ?_) (fun hf => ?_)
      · refine q_iconst dX5_isRoot_67 ?_
        exact q_zret hf rfl rfl dX5_isRoot_68
      · refine q_iconst dX5_isRoot_63 ?_
        refine q_goto dX5_isRoot_64 68 (by decide) ?_
        exact q_zret hf rfl rfl dX5_isRoot_68
    · refine q_iloadn dX5_isRoot_36 2 rfl ?_
      refine q_i2l dX5_isRoot_37 ?_
      refine q_iloadn dX5_isRoot_38 1 rfl ?_
      refine q_i2l dX5_isRoot_39 ?_
      refine q_lmul dX5_isRoot_40 ?_
      refine q_aloadn dX5_isRoot_41 0 rfl ?_
      refine M_g5_5 flX5_22 dX5_isRoot_42 ?_
      refine q_iloadn dX5_isRoot_45 3 rfl ?_
      refine M_ld rfl hf dX5_isRoot_46 (fun v46 hf => ?_)
      refine q_i2l dX5_isRoot_47 ?_
      refine q_ladd dX5_isRoot_48 ?_
      obtain ⟨r49, h49, e49, hf⟩ := q_cl hf
      refine q_cSi (av := [vl (((wi x2) * (wi x1)) + (wi v46))]) (rest := []) (ctX5_mod e49) kX5_mod uX5_mod lkX5_48 rfl rfl rfl dX5_isRoot_49 ?_
      refine q_istoren dX5_isRoot_52 rfl (loc' := [(2, vi r49), (0, .ref (ad 0)), (1, vi x1), (3, vi x3)]) rfl ?_
      refine q_iinc dX5_isRoot_53 3 rfl rfl (loc' := [(3, vi (x3 + (-1))), (2, vi r49), (0, .ref (ad 0)), (1, vi x1)]) rfl ?_
      refine q_goto dX5_isRoot_56 32 (by decide) ?_
      refine q_loc (loc' := [(0, .ref (ad 0)), (1, vi x1), (2, vi r49), (3, vi (x3 + (-1)))]) [2, 3, 1, 0] rfl ?_
      exact ih x1 r49 (x3 + (-1)) h49 hf
def fX5_isRoot (x1 : Int) (h : HP) : Option (Int × HP) :=
  if wi x1 = wi 10007 then (ld (lnM 5) (h 5) (h 0 6) fun v15 => if wi v15 = 0 then (some (1, h)) else (some (0, h))) else (lt (h 0 6) fun x3_31 => LX5_isRoot_32 FU x1 0 x3_31 h)
set_option maxRecDepth 20000 in
theorem ctX5_isRoot {l : Launch} {D : va_G} {ad : Nat → Nat} {cI : ClassId} {x1 : Int} {h : HP} {Z : Int × HP} (hf : fX5_isRoot x1 h = some Z) : Ct (sdM l D ad cI) mX5_isRoot [.ref (ad 0), vi x1] h (ri Z) := by
  refine Ct.ofF nX5_isRoot rfl (loc := [(0, .ref (ad 0)), (1, vi x1)]) rfl ?_
  unfold fX5_isRoot at hf
  refine q_iloadn dX5_isRoot_0 1 rfl ?_
  refine q_sipush dX5_isRoot_1 (by decide) ?_
  refine q_icmp_ne hf dX5_isRoot_4 25 (by decide) (fun hf => ?_) (fun hf => ?_)
  · refine q_iconst dX5_isRoot_25 ?_
    refine q_istoren dX5_isRoot_26 rfl (loc' := [(2, vi 0), (0, .ref (ad 0)), (1, vi x1)]) rfl ?_
    refine q_aloadn dX5_isRoot_27 1 rfl ?_
    refine M_g5_6 flX5_81 dX5_isRoot_28 ?_
    refine q_lt hf (fun x3_31 hf => ?_)
    refine q_istoren dX5_isRoot_31 rfl (loc' := [(3, vi x3_31), (2, vi 0), (0, .ref (ad 0)), (1, vi x1)]) rfl ?_
    refine q_loc (loc' := [(0, .ref (ad 0)), (1, vi x1), (2, vi 0), (3, vi x3_31)]) [2, 3, 1, 0] rfl ?_
    exact tX5_isRoot_32 FU x1 0 x3_31 h hf
  · refine q_aloadn dX5_isRoot_7 0 rfl ?_
    refine M_g5_5 flX5_22 dX5_isRoot_8 ?_
    refine q_aloadn dX5_isRoot_11 0 rfl ?_
    refine M_g5_6 flX5_81 dX5_isRoot_12 ?_
    refine M_ld rfl hf dX5_isRoot_15 (fun v15 hf => ?_)
    refine q_if_ne hf dX5_isRoot_16 23 (by decide) (fun hf => ?_) (fun hf => ?_)
    · refine q_iconst dX5_isRoot_23 ?_
      exact q_zret hf rfl rfl dX5_isRoot_24
    · refine q_iconst dX5_isRoot_19 ?_
      refine q_goto dX5_isRoot_20 24 (by decide) ?_
      exact q_zret hf rfl rfl dX5_isRoot_24
def fX5_lacksRoots (x1 : Int) (h : HP) : Option (Int × HP) :=
  cl (fX5_lacksOne x1 h) fun r2 h2 => if wi r2 = 0 then (cl (fX5_isNoughtF h2) fun r15 h15 => if wi r15 = 0 then (some (0, h15)) else (some ((-3), h15))) else (some (r2, h2))
set_option maxRecDepth 20000 in
theorem ctX5_lacksRoots {l : Launch} {D : va_G} {ad : Nat → Nat} {cI : ClassId} {x1 : Int} {h : HP} {Z : Int × HP} (hf : fX5_lacksRoots x1 h = some Z) : Ct (sdM l D ad cI) mX5_lacksRoots [.ref (ad 0), vi x1] h (ri Z) := by
  refine Ct.ofF nX5_lacksRoots rfl (loc := [(0, .ref (ad 0)), (1, vi x1)]) rfl ?_
  unfold fX5_lacksRoots at hf
  refine q_aloadn dX5_lacksRoots_0 0 rfl ?_
  refine q_iloadn dX5_lacksRoots_1 1 rfl ?_
  obtain ⟨r2, h2, e2, hf⟩ := q_cl hf
  refine q_cVi (av := [vi x1]) (rest := []) wM_0 (ctX5_lacksOne e2) kX5_lacksOne vX5_lacksOne zX5_lacksOne lkX5_102 rfl rfl rfl rfl rfl dX5_lacksRoots_2 ?_
  refine q_istoren dX5_lacksRoots_5 rfl (loc' := [(2, vi r2), (0, .ref (ad 0)), (1, vi x1)]) rfl ?_
  refine q_iloadn dX5_lacksRoots_6 0 rfl ?_
  refine q_if_eq hf dX5_lacksRoots_7 14 (by decide) (fun hf => ?_) (fun hf => ?_)
  · refine q_aloadn dX5_lacksRoots_14 1 rfl ?_
    obtain ⟨r15, h15, e15, hf⟩ := q_cl hf
    refine q_cVi (av := []) (rest := []) wM_0 (ctX5_isNoughtF e15) kX5_isNoughtF vX5_isNoughtF zX5_isNoughtF lkX5_136 rfl rfl rfl rfl rfl dX5_lacksRoots_15 ?_
    refine q_if_eq hf dX5_lacksRoots_18 26 (by decide) (fun hf => ?_) (fun hf => ?_)
    · refine q_iconst dX5_lacksRoots_26 ?_
      exact q_iret hf rfl dX5_lacksRoots_27
    · refine q_bipush dX5_lacksRoots_21 (by decide) ?_
      refine q_goto dX5_lacksRoots_23 27 (by decide) ?_
      exact q_iret hf rfl dX5_lacksRoots_27
  · refine q_iloadn dX5_lacksRoots_10 0 rfl ?_
    refine q_goto dX5_lacksRoots_11 27 (by decide) ?_
    exact q_iret hf rfl dX5_lacksRoots_27
def bX5_roots_27 (self : Int → Int → HP → Option (Int × HP)) (x3 : Int) (x4 : Int) (h : HP) : Option (Int × HP) :=
  if wi x4 ≤ wi 10007 then (cl (fX5_isRoot x4 h) fun r39 h39 => if wi r39 = 0 then (lt (x3 + 0) fun x3_51 => self x3_51 (x4 + 1) h39) else (lt (x3 + 1) fun x3_51 => self x3_51 (x4 + 1) h39)) else (some (x3, h))
def LX5_roots_27 : Nat → Int → Int → HP → Option (Int × HP)
  | 0 => fun _ _ _ => none
  | n + 1 => bX5_roots_27 (LX5_roots_27 n)
set_option maxRecDepth 20000 in
theorem tX5_roots_27 {l : Launch} {D : va_G} {ad : Nat → Nat} {cI : ClassId} {Z : Int × HP} : ∀ (n : Nat) (x3 : Int) (x4 : Int) (h : HP), LX5_roots_27 n x3 x4 h = some Z → Rn (sdM l D ad cI) mX5_roots (ri Z) 27 [(0, .ref (ad 0)), (3, vi x3), (4, vi x4)] [] h := by
  intro n
  induction n with
  | zero => intro x3 x4 h hf; cases hf
  | succ n ih =>
    intro x3 x4 h hf
    replace hf : bX5_roots_27 (LX5_roots_27 n) x3 x4 h = some Z := hf
    unfold bX5_roots_27 at hf
    refine q_iload dX5_roots_27 2 rfl ?_
    refine q_sipush dX5_roots_29 (by decide) ?_
    refine q_icmp_gt hf dX5_roots_32 58 (by decide) (fun hf => ?_) (fun hf => ?_)
    · refine q_iloadn dX5_roots_58 1 rfl ?_
      exact q_iret hf rfl dX5_roots_59
    · refine q_iloadn dX5_roots_35 1 rfl ?_
      refine q_aloadn dX5_roots_36 0 rfl ?_
      refine q_iload dX5_roots_37 2 rfl ?_
      obtain ⟨r39, h39, e39, hf⟩ := q_cl hf
      refine q_cVi (av := [vi x4]) (rest := [vi x3]) wM_0 (ctX5_isRoot e39) kX5_isRoot vX5_isRoot zX5_isRoot lkX5_146 rfl rfl rfl rfl rfl dX5_roots_39 ?_
      refine q_if_eq hf dX5_roots_42 49 (by decide) (fun hf => ?_) (fun hf => ?_)
      · refine q_iconst dX5_roots_49 ?_
        refine q_iadd dX5_roots_50 ?_
        refine q_lt hf (fun x3_51 hf => ?_)
        refine q_istoren dX5_roots_51 rfl (loc' := [(3, vi x3_51), (0, .ref (ad 0)), (4, vi x4)]) rfl ?_
        refine q_iinc dX5_roots_52 2 rfl rfl (loc' := [(4, vi (x4 + 1)), (3, vi x3_51), (0, .ref (ad 0))]) rfl ?_
        refine q_goto dX5_roots_55 27 (by decide) ?_
        refine q_loc (loc' := [(0, .ref (ad 0)), (3, vi x3_51), (4, vi (x4 + 1))]) [2, 1, 0] rfl ?_
        exact ih x3_51 (x4 + 1) h39 hf
      · refine q_iconst dX5_roots_45 ?_
        refine q_goto dX5_roots_46 50 (by decide) ?_
        refine q_iadd dX5_roots_50 ?_
        refine q_lt hf (fun x3_51 hf => ?_)
        refine q_istoren dX5_roots_51 rfl (loc' := [(3, vi x3_51), (0, .ref (ad 0)), (4, vi x4)]) rfl ?_
        refine q_iinc dX5_roots_52 2 rfl rfl (loc' := [(4, vi (x4 + 1)), (3, vi x3_51), (0, .ref (ad 0))]) rfl ?_
        refine q_goto dX5_roots_55 27 (by decide) ?_
        refine q_loc (loc' := [(0, .ref (ad 0)), (3, vi x3_51), (4, vi (x4 + 1))]) [2, 1, 0] rfl ?_
        exact ih x3_51 (x4 + 1) h39 hf
def fX5_roots (x1 : Int) (h : HP) : Option (Int × HP) :=
  cl (fX5_isSheet x1 h) fun r1 h1 => if wi r1 = 0 then (some ((-2), h1)) else (cl (fX5_lacksRoots x1 h1) fun r12 h12 => if wi r12 = 0 then (LX5_roots_27 FU 0 0 h12) else (some (r12, h12)))
set_option maxRecDepth 20000 in
theorem ctX5_roots {l : Launch} {D : va_G} {ad : Nat → Nat} {cI : ClassId} {x1 : Int} {h : HP} {Z : Int × HP} (hf : fX5_roots x1 h = some Z) : Ct (sdM l D ad cI) mX5_roots [.ref (ad 0), vi x1] h (ri Z) := by
  refine Ct.ofF nX5_roots rfl (loc := [(0, .ref (ad 0)), (1, vi x1)]) rfl ?_
  unfold fX5_roots at hf
  refine q_iloadn dX5_roots_0 1 rfl ?_
  obtain ⟨r1, h1, e1, hf⟩ := q_cl hf
  refine q_cSi (av := [vi x1]) (rest := []) (ctX5_isSheet e1) kX5_isSheet uX5_isSheet lkX5_66 rfl rfl rfl dX5_roots_1 ?_
  refine q_if_ne hf dX5_roots_4 10 (by decide) (fun hf => ?_) (fun hf => ?_)
  · refine q_aloadn dX5_roots_10 0 rfl ?_
    refine q_iloadn dX5_roots_11 1 rfl ?_
    obtain ⟨r12, h12, e12, hf⟩ := q_cl hf
    refine q_cVi (av := [vi x1]) (rest := []) wM_0 (ctX5_lacksRoots e12) kX5_lacksRoots vX5_lacksRoots zX5_lacksRoots lkX5_143 rfl rfl rfl rfl rfl dX5_roots_12 ?_
    refine q_istoren dX5_roots_15 rfl (loc' := [(2, vi r12), (0, .ref (ad 0)), (1, vi x1)]) rfl ?_
    refine q_iloadn dX5_roots_16 0 rfl ?_
    refine q_if_eq hf dX5_roots_17 22 (by decide) (fun hf => ?_) (fun hf => ?_)
    · refine q_iconst dX5_roots_22 ?_
      refine q_istoren dX5_roots_23 rfl (loc' := [(3, vi 0), (2, vi r12), (0, .ref (ad 0)), (1, vi x1)]) rfl ?_
      refine q_iconst dX5_roots_24 ?_
      refine q_istore dX5_roots_25 rfl (loc' := [(4, vi 0), (3, vi 0), (2, vi r12), (0, .ref (ad 0)), (1, vi x1)]) rfl ?_
      refine q_loc (loc' := [(0, .ref (ad 0)), (3, vi 0), (4, vi 0)]) [3, 1, 0] rfl ?_
      exact tX5_roots_27 FU 0 0 h12 hf
    · refine q_iloadn dX5_roots_20 0 rfl ?_
      exact q_iret hf rfl dX5_roots_21
  · refine q_bipush dX5_roots_7 (by decide) ?_
    exact q_iret hf rfl dX5_roots_9
def bX5_root_32 (self : Int → Int → Int → HP → Option (Int × HP)) (x2 : Int) (x4 : Int) (x5 : Int) (h : HP) : Option (Int × HP) :=
  if wi x5 ≤ wi 10007 then (cl (fX5_isRoot x5 h) fun r43 h43 => if wi r43 = 0 then (self x2 x4 (x5 + 1) h43) else (if wi x4 = wi x2 then (some (x5, h43)) else (self x2 (x4 + 1) (x5 + 1) h43))) else (some ((-1), h))
def LX5_root_32 : Nat → Int → Int → Int → HP → Option (Int × HP)
  | 0 => fun _ _ _ _ => none
  | n + 1 => bX5_root_32 (LX5_root_32 n)
set_option maxRecDepth 20000 in
theorem tX5_root_32 {l : Launch} {D : va_G} {ad : Nat → Nat} {cI : ClassId} {Z : Int × HP} : ∀ (n : Nat) (x2 : Int) (x4 : Int) (x5 : Int) (h : HP), LX5_root_32 n x2 x4 x5 h = some Z → Rn (sdM l D ad cI) mX5_root (ri Z) 32 [(0, .ref (ad 0)), (2, vi x2), (4, vi x4), (5, vi x5)] [] h := by
  intro n
  induction n with
  | zero => intro x2 x4 x5 h hf; cases hf
  | succ n ih =>
    intro x2 x4 x5 h hf
    replace hf : bX5_root_32 (LX5_root_32 n) x2 x4 x5 h = some Z := hf
    unfold bX5_root_32 at hf
    refine q_iload dX5_root_32 3 rfl ?_
    refine q_sipush dX5_root_34 (by decide) ?_
    refine q_icmp_gt hf dX5_root_37 67 (by decide) (fun hf => ?_) (fun hf => ?_)
    · refine q_iconst dX5_root_67 ?_
      exact q_iret hf rfl dX5_root_68
    · refine q_aloadn dX5_root_40 0 rfl ?_
      refine q_iload dX5_root_41 3 rfl ?_
      obtain ⟨r43, h43, e43, hf⟩ := q_cl hf
      refine q_cVi (av := [vi x5]) (rest := []) wM_0 (ctX5_isRoot e43) kX5_isRoot vX5_isRoot zX5_isRoot lkX5_146 rfl rfl rfl rfl rfl dX5_root_43 ?_
      refine q_if_eq hf dX5_root_46 61 (by decide) (fun hf => ?_) (fun hf => ?_)
      · refine q_iinc dX5_root_61 3 rfl rfl (loc' := [(5, vi (x5 + 1)), (0, .ref (ad 0)), (2, vi x2), (4, vi x4)]) rfl ?_
        refine q_goto dX5_root_64 32 (by decide) ?_
        refine q_loc (loc' := [(0, .ref (ad 0)), (2, vi x2), (4, vi x4), (5, vi (x5 + 1))]) [1, 2, 3, 0] rfl ?_
        exact ih x2 x4 (x5 + 1) h43 hf
      · refine q_iload dX5_root_49 2 rfl ?_
        refine q_iloadn dX5_root_51 1 rfl ?_
        refine q_icmp_ne hf dX5_root_52 58 (by decide) (fun hf => ?_) (fun hf => ?_)
        · refine q_iinc dX5_root_58 2 rfl rfl (loc' := [(4, vi (x4 + 1)), (0, .ref (ad 0)), (2, vi x2), (5, vi x5)]) rfl ?_
          refine q_iinc dX5_root_61 3 rfl rfl (loc' := [(5, vi (x5 + 1)), (4, vi (x4 + 1)), (0, .ref (ad 0)), (2, vi x2)]) rfl ?_
          refine q_goto dX5_root_64 32 (by decide) ?_
          refine q_loc (loc' := [(0, .ref (ad 0)), (2, vi x2), (4, vi (x4 + 1)), (5, vi (x5 + 1))]) [2, 3, 1, 0] rfl ?_
          exact ih x2 (x4 + 1) (x5 + 1) h43 hf
        · refine q_iload dX5_root_55 3 rfl ?_
          exact q_iret hf rfl dX5_root_57
def fX5_root (x1 : Int) (x2 : Int) (h : HP) : Option (Int × HP) :=
  cl (fX5_isSheet x1 h) fun r1 h1 => if wi r1 = 0 then (some ((-2), h1)) else (if wi x2 < 0 then (some ((-2), h1)) else (cl (fX5_lacksRoots x1 h1) fun r16 h16 => if wi r16 = 0 then (LX5_root_32 FU x2 0 0 h16) else (some (r16, h16))))
set_option maxRecDepth 20000 in
theorem ctX5_root {l : Launch} {D : va_G} {ad : Nat → Nat} {cI : ClassId} {x1 : Int} {x2 : Int} {h : HP} {Z : Int × HP} (hf : fX5_root x1 x2 h = some Z) : Ct (sdM l D ad cI) mX5_root [.ref (ad 0), vi x1, vi x2] h (ri Z) := by
  refine Ct.ofF nX5_root rfl (loc := [(0, .ref (ad 0)), (1, vi x1), (2, vi x2)]) rfl ?_
  unfold fX5_root at hf
  refine q_iloadn dX5_root_0 1 rfl ?_
  obtain ⟨r1, h1, e1, hf⟩ := q_cl hf
  refine q_cSi (av := [vi x1]) (rest := []) (ctX5_isSheet e1) kX5_isSheet uX5_isSheet lkX5_66 rfl rfl rfl dX5_root_1 ?_
  refine q_if_eq hf dX5_root_4 11 (by decide) (fun hf => ?_) (fun hf => ?_)
  · refine q_bipush dX5_root_11 (by decide) ?_
    exact q_iret hf rfl dX5_root_13
  · refine q_iloadn dX5_root_7 2 rfl ?_
    refine q_if_ge hf dX5_root_8 14 (by decide) (fun hf => ?_) (fun hf => ?_)
    · refine q_aloadn dX5_root_14 0 rfl ?_
      refine q_iloadn dX5_root_15 1 rfl ?_
      obtain ⟨r16, h16, e16, hf⟩ := q_cl hf
      refine q_cVi (av := [vi x1]) (rest := []) wM_0 (ctX5_lacksRoots e16) kX5_lacksRoots vX5_lacksRoots zX5_lacksRoots lkX5_143 rfl rfl rfl rfl rfl dX5_root_16 ?_
      refine q_istoren dX5_root_19 rfl (loc' := [(3, vi r16), (0, .ref (ad 0)), (1, vi x1), (2, vi x2)]) rfl ?_
      refine q_iloadn dX5_root_20 0 rfl ?_
      refine q_if_eq hf dX5_root_21 26 (by decide) (fun hf => ?_) (fun hf => ?_)
      · refine q_iconst dX5_root_26 ?_
        refine q_istore dX5_root_27 rfl (loc' := [(4, vi 0), (3, vi r16), (0, .ref (ad 0)), (1, vi x1), (2, vi x2)]) rfl ?_
        refine q_iconst dX5_root_29 ?_
        refine q_istore dX5_root_30 rfl (loc' := [(5, vi 0), (4, vi 0), (3, vi r16), (0, .ref (ad 0)), (1, vi x1), (2, vi x2)]) rfl ?_
        refine q_loc (loc' := [(0, .ref (ad 0)), (2, vi x2), (4, vi 0), (5, vi 0)]) [3, 5, 1, 0] rfl ?_
        exact tX5_root_32 FU x2 0 0 h16 hf
      · refine q_iloadn dX5_root_24 0 rfl ?_
        exact q_iret hf rfl dX5_root_25
    · refine q_bipush dX5_root_11 (by decide) ?_
      exact q_iret hf rfl dX5_root_13
def bX5_common_466 (self : Int → Int → Int → HP → Option (Int × HP)) (x3 : Int) (x10 : Int) (x11 : Int) (h : HP) : Option (Int × HP) :=
  if wi x11 ≤ wi (h 0 10) then (ld (lnM 7) (h 7) x11 fun v487 => cl (fX5_times v487 x10 h) fun r490 h490 => sto (lnM 7) h490 7 x11 r490 fun h493 => self x3 x10 (x11 + 1) h493) else (cl (fX5_lay x3 h) fun r502 h502 => some (r502, h502))
def LX5_common_466 : Nat → Int → Int → Int → HP → Option (Int × HP)
  | 0 => fun _ _ _ _ => none
  | n + 1 => bX5_common_466 (LX5_common_466 n)
set_option maxRecDepth 20000 in
theorem tX5_common_466 {l : Launch} {D : va_G} {ad : Nat → Nat} {cI : ClassId} {Z : Int × HP} : ∀ (n : Nat) (x3 : Int) (x10 : Int) (x11 : Int) (h : HP), LX5_common_466 n x3 x10 x11 h = some Z → Rn (sdM l D ad cI) mX5_common (ri Z) 466 [(0, .ref (ad 0)), (3, vi x3), (10, vi x10), (11, vi x11)] [] h := by
  intro n
  induction n with
  | zero => intro x3 x10 x11 h hf; cases hf
  | succ n ih =>
    intro x3 x10 x11 h hf
    replace hf : bX5_common_466 (LX5_common_466 n) x3 x10 x11 h = some Z := hf
    unfold bX5_common_466 at hf
    refine q_iload dX5_common_466 3 rfl ?_
    refine q_aloadn dX5_common_468 0 rfl ?_
    refine M_g5_10 flX5_87 dX5_common_469 ?_
    refine q_icmp_gt hf dX5_common_472 500 (by decide) (fun hf => ?_) (fun hf => ?_)
    · refine q_aloadn dX5_common_500 0 rfl ?_
      refine q_iloadn dX5_common_501 1 rfl ?_
      obtain ⟨r502, h502, e502, hf⟩ := q_cl hf
      refine q_cVi (av := [vi x3]) (rest := []) wM_0 (ctX5_lay e502) kX5_lay vX5_lay zX5_lay lkX5_116 rfl rfl rfl rfl rfl dX5_common_502 ?_
      exact q_iret hf rfl dX5_common_505
    · refine q_aloadn dX5_common_475 0 rfl ?_
      refine M_g5_9 flX5_28 dX5_common_476 ?_
      refine q_iload dX5_common_479 3 rfl ?_
      refine q_aloadn dX5_common_481 0 rfl ?_
      refine M_g5_9 flX5_28 dX5_common_482 ?_
      refine q_iload dX5_common_485 3 rfl ?_
      refine M_ld rfl hf dX5_common_487 (fun v487 hf => ?_)
      refine q_iload dX5_common_488 2 rfl ?_
      obtain ⟨r490, h490, e490, hf⟩ := q_cl hf
      refine q_cSi (av := [vi v487, vi x10]) (rest := [vi x11, .ref (ad 7)]) (ctX5_times e490) kX5_times uX5_times lkX5_52 rfl rfl rfl dX5_common_490 ?_
      refine M_st rfl hf dX5_common_493 (fun h493 hf => ?_)
      refine q_iinc dX5_common_494 3 rfl rfl (loc' := [(11, vi (x11 + 1)), (0, .ref (ad 0)), (3, vi x3), (10, vi x10)]) rfl ?_
      refine q_goto dX5_common_497 466 (by decide) ?_
      refine q_loc (loc' := [(0, .ref (ad 0)), (3, vi x3), (10, vi x10), (11, vi (x11 + 1))]) [1, 2, 3, 0] rfl ?_
      exact ih x3 x10 (x11 + 1) h493 hf
def bX5_common_435 (self : Int → Int → HP → Option (Int × HP)) (x3 : Int) (x9 : Int) (h : HP) : Option (Int × HP) :=
  ld (lnM 7) (h 7) x9 fun v441 => if wi v441 = 0 then (self x3 (x9 + 1) h) else (ld (lnM 7) (h 7) x9 fun v457 => cl (fX5_turned v457 h) fun r458 h458 => LX5_common_466 FU x3 r458 0 h458)
def LX5_common_435 : Nat → Int → Int → HP → Option (Int × HP)
  | 0 => fun _ _ _ => none
  | n + 1 => bX5_common_435 (LX5_common_435 n)
set_option maxRecDepth 20000 in
theorem tX5_common_435 {l : Launch} {D : va_G} {ad : Nat → Nat} {cI : ClassId} {Z : Int × HP} : ∀ (n : Nat) (x3 : Int) (x9 : Int) (h : HP), LX5_common_435 n x3 x9 h = some Z → Rn (sdM l D ad cI) mX5_common (ri Z) 435 [(0, .ref (ad 0)), (3, vi x3), (9, vi x9)] [] h := by
  intro n
  induction n with
  | zero => intro x3 x9 h hf; cases hf
  | succ n ih =>
    intro x3 x9 h hf
    replace hf : bX5_common_435 (LX5_common_435 n) x3 x9 h = some Z := hf
    unfold bX5_common_435 at hf
    refine q_aloadn dX5_common_435 0 rfl ?_
    refine M_g5_9 flX5_28 dX5_common_436 ?_
    refine q_iload dX5_common_439 2 rfl ?_
    refine M_ld rfl hf dX5_common_441 (fun v441 hf => ?_)
    refine q_if_ne hf dX5_common_442 451 (by decide) (fun hf => ?_) (fun hf => ?_)
    · refine q_aloadn dX5_common_451 0 rfl ?_
      refine M_g5_9 flX5_28 dX5_common_452 ?_
      refine q_iload dX5_common_455 2 rfl ?_
      refine M_ld rfl hf dX5_common_457 (fun v457 hf => ?_)
      obtain ⟨r458, h458, e458, hf⟩ := q_cl hf
      refine q_cSi (av := [vi v457]) (rest := []) (ctX5_turned e458) kX5_turned uX5_turned lkX5_133 rfl rfl rfl dX5_common_458 ?_
      refine q_istore dX5_common_461 rfl (loc' := [(10, vi r458), (0, .ref (ad 0)), (3, vi x3), (9, vi x9)]) rfl ?_
      refine q_iconst dX5_common_463 ?_
      refine q_istore dX5_common_464 rfl (loc' := [(11, vi 0), (10, vi r458), (0, .ref (ad 0)), (3, vi x3), (9, vi x9)]) rfl ?_
      refine q_loc (loc' := [(0, .ref (ad 0)), (3, vi x3), (10, vi r458), (11, vi 0)]) [2, 3, 1, 0] rfl ?_
      exact tX5_common_466 FU x3 r458 0 h458 hf
    · refine q_iinc dX5_common_445 2 rfl rfl (loc' := [(9, vi (x9 + 1)), (0, .ref (ad 0)), (3, vi x3)]) rfl ?_
      refine q_goto dX5_common_448 435 (by decide) ?_
      refine q_loc (loc' := [(0, .ref (ad 0)), (3, vi x3), (9, vi (x9 + 1))]) [1, 2, 0] rfl ?_
      exact ih x3 (x9 + 1) h hf
def bX5_common_390 (self : Int → Int → Int → Int → HP → Option (Int × HP)) (x3 : Int) (x5 : Int) (x8 : Int) (x9 : Int) (h : HP) : Option (Int × HP) :=
  if wi x9 ≤ wi x8 then (if 0 ≤ wi x5 then (ld (lnM 5) (h 5) x9 fun v414 => sto (lnM 7) h 7 x9 v414 fun h425 => self x3 x5 x8 (x9 + 1) h425) else (ld (lnM 6) (h 6) x9 fun v424 => sto (lnM 7) h 7 x9 v424 fun h425 => self x3 x5 x8 (x9 + 1) h425)) else (LX5_common_435 FU x3 0 h)
def LX5_common_390 : Nat → Int → Int → Int → Int → HP → Option (Int × HP)
  | 0 => fun _ _ _ _ _ => none
  | n + 1 => bX5_common_390 (LX5_common_390 n)
set_option maxRecDepth 20000 in
theorem tX5_common_390 {l : Launch} {D : va_G} {ad : Nat → Nat} {cI : ClassId} {Z : Int × HP} : ∀ (n : Nat) (x3 : Int) (x5 : Int) (x8 : Int) (x9 : Int) (h : HP), LX5_common_390 n x3 x5 x8 x9 h = some Z → Rn (sdM l D ad cI) mX5_common (ri Z) 390 [(0, .ref (ad 0)), (3, vi x3), (5, vi x5), (8, vi x8), (9, vi x9)] [] h := by
  intro n
  induction n with
  | zero => intro x3 x5 x8 x9 h hf; cases hf
  | succ n ih =>
    intro x3 x5 x8 x9 h hf
    replace hf : bX5_common_390 (LX5_common_390 n) x3 x5 x8 x9 h = some Z := hf
    unfold bX5_common_390 at hf
    refine q_iload dX5_common_390 4 rfl ?_
    refine q_iload dX5_common_392 3 rfl ?_
    refine q_icmp_gt hf dX5_common_394 432 (by decide) (fun hf => ?_) (fun hf => ?_)
    · refine q_iconst dX5_common_432 ?_
      refine q_istore dX5_common_433 rfl (loc' := [(9, vi 0), (0, .ref (ad 0)), (3, vi x3), (5, vi x5), (8, vi x8)]) rfl ?_
      refine q_loc (loc' := [(0, .ref (ad 0)), (3, vi x3), (9, vi 0)]) [1, 2, 0] rfl ?_
      exact tX5_common_435 FU x3 0 h hf
    · refine q_aloadn dX5_common_397 0 rfl ?_
      refine M_g5_9 flX5_28 dX5_common_398 ?_
      refine q_iload dX5_common_401 4 rfl ?_
      refine q_iload dX5_common_403 2 rfl ?_
      refine q_if_lt hf dX5_common_405 418 (by decide) (fun hf => ?_) (fun hf => ?_)
      · refine q_aloadn dX5_common_418 0 rfl ?_
        refine M_g5_7 flX5_25 dX5_common_419 ?_
        refine q_iload dX5_common_422 4 rfl ?_
        refine M_ld rfl hf dX5_common_424 (fun v424 hf => ?_)
        refine M_st rfl hf dX5_common_425 (fun h425 hf => ?_)
        refine q_iinc dX5_common_426 4 rfl rfl (loc' := [(9, vi (x9 + 1)), (0, .ref (ad 0)), (3, vi x3), (5, vi x5), (8, vi x8)]) rfl ?_
        refine q_goto dX5_common_429 390 (by decide) ?_
        refine q_loc (loc' := [(0, .ref (ad 0)), (3, vi x3), (5, vi x5), (8, vi x8), (9, vi (x9 + 1))]) [1, 2, 3, 4, 0] rfl ?_
        exact ih x3 x5 x8 (x9 + 1) h425 hf
      · refine q_aloadn dX5_common_408 0 rfl ?_
        refine M_g5_5 flX5_22 dX5_common_409 ?_
        refine q_iload dX5_common_412 4 rfl ?_
        refine M_ld rfl hf dX5_common_414 (fun v414 hf => ?_)
        refine q_goto dX5_common_415 425 (by decide) ?_
        refine M_st rfl hf dX5_common_425 (fun h425 hf => ?_)
        refine q_iinc dX5_common_426 4 rfl rfl (loc' := [(9, vi (x9 + 1)), (0, .ref (ad 0)), (3, vi x3), (5, vi x5), (8, vi x8)]) rfl ?_
        refine q_goto dX5_common_429 390 (by decide) ?_
        refine q_loc (loc' := [(0, .ref (ad 0)), (3, vi x3), (5, vi x5), (8, vi x8), (9, vi (x9 + 1))]) [1, 2, 3, 4, 0] rfl ?_
        exact ih x3 x5 x8 (x9 + 1) h425 hf
def jX5_common_364 (x3 : Int) (x5 : Int) (x6 : Int) (x7 : Int) (h : HP) : Option (Int × HP) :=
  if 0 ≤ wi x5 then (cl (fX5_noughtH (x5 + x7) h) fun _ h384 => LX5_common_390 FU x3 x5 x5 0 h384) else (cl (fX5_noughtH (x6 + x7) h) fun _ h384 => LX5_common_390 FU x3 x5 x6 0 h384)
set_option maxRecDepth 20000 in
theorem tX5_common_364 {l : Launch} {D : va_G} {ad : Nat → Nat} {cI : ClassId} {Z : Int × HP} (x3 : Int) (x5 : Int) (x6 : Int) (x7 : Int) (h : HP) (hf : jX5_common_364 x3 x5 x6 x7 h = some Z) : Rn (sdM l D ad cI) mX5_common (ri Z) 364 [(0, .ref (ad 0)), (3, vi x3), (5, vi x5), (6, vi x6), (7, vi x7)] [] h := by
  unfold jX5_common_364 at hf
  refine q_iload dX5_common_364 2 rfl ?_
  refine q_if_lt hf dX5_common_366 374 (by decide) (fun hf => ?_) (fun hf => ?_)
  · refine q_iload dX5_common_374 3 rfl ?_
    refine q_istore dX5_common_376 rfl (loc' := [(8, vi x6), (0, .ref (ad 0)), (3, vi x3), (5, vi x5), (6, vi x6), (7, vi x7)]) rfl ?_
    refine q_aloadn dX5_common_378 1 rfl ?_
    refine q_iload dX5_common_379 0 rfl ?_
    refine q_iload dX5_common_381 5 rfl ?_
    refine q_iadd dX5_common_383 ?_
    obtain ⟨r384, h384, e384, hf⟩ := q_cl hf
    refine q_cVv (av := [vi (x6 + x7)]) (rest := []) wM_0 (ctX5_noughtH e384) kX5_noughtH vX5_noughtH zX5_noughtH lkX5_113 rfl rfl rfl rfl rfl dX5_common_384 ?_
    refine q_iconst dX5_common_387 ?_
    refine q_istore dX5_common_388 rfl (loc' := [(9, vi 0), (8, vi x6), (0, .ref (ad 0)), (3, vi x3), (5, vi x5), (6, vi x6), (7, vi x7)]) rfl ?_
    refine q_loc (loc' := [(0, .ref (ad 0)), (3, vi x3), (5, vi x5), (8, vi x6), (9, vi 0)]) [2, 3, 4, 1, 0] rfl ?_
    exact tX5_common_390 FU x3 x5 x6 0 h384 hf
  · refine q_iload dX5_common_369 2 rfl ?_
    refine q_goto dX5_common_371 376 (by decide) ?_
    refine q_istore dX5_common_376 rfl (loc' := [(8, vi x5), (0, .ref (ad 0)), (3, vi x3), (5, vi x5), (6, vi x6), (7, vi x7)]) rfl ?_
    refine q_aloadn dX5_common_378 1 rfl ?_
    refine q_iload dX5_common_379 0 rfl ?_
    refine q_iload dX5_common_381 5 rfl ?_
    refine q_iadd dX5_common_383 ?_
    obtain ⟨r384, h384, e384, hf⟩ := q_cl hf
    refine q_cVv (av := [vi (x5 + x7)]) (rest := []) wM_0 (ctX5_noughtH e384) kX5_noughtH vX5_noughtH zX5_noughtH lkX5_113 rfl rfl rfl rfl rfl dX5_common_384 ?_
    refine q_iconst dX5_common_387 ?_
    refine q_istore dX5_common_388 rfl (loc' := [(9, vi 0), (8, vi x5), (0, .ref (ad 0)), (3, vi x3), (5, vi x5), (6, vi x6), (7, vi x7)]) rfl ?_
    refine q_loc (loc' := [(0, .ref (ad 0)), (3, vi x3), (5, vi x5), (8, vi x5), (9, vi 0)]) [2, 3, 4, 1, 0] rfl ?_
    exact tX5_common_390 FU x3 x5 x5 0 h384 hf
def bX5_common_235 (k137 : Int → Int → Int → Int → HP → Option (Int × HP)) (self : Int → Int → Int → Int → HP → Option (Int × HP)) (x3 : Int) (x5 : Int) (x6 : Int) (x7 : Int) (h : HP) : Option (Int × HP) :=
  if 0 ≤ wi x5 then (ld (lnM 5) (h 5) x5 fun v246 => if wi v246 = 0 then (self x3 (x5 + (-1)) x6 x7 h) else (k137 x3 x5 x6 x7 h)) else (k137 x3 x5 x6 x7 h)
def LX5_common_235 (k137 : Int → Int → Int → Int → HP → Option (Int × HP)) : Nat → Int → Int → Int → Int → HP → Option (Int × HP)
  | 0 => fun _ _ _ _ _ => none
  | n + 1 => bX5_common_235 k137 (LX5_common_235 k137 n)
set_option maxRecDepth 20000 in
theorem tX5_common_235 {l : Launch} {D : va_G} {ad : Nat → Nat} {cI : ClassId} {Z : Int × HP} {k137 : Int → Int → Int → Int → HP → Option (Int × HP)} (hk137 : ∀ (x3 : Int) (x5 : Int) (x6 : Int) (x7 : Int) (h : HP), k137 x3 x5 x6 x7 h = some Z → Rn (sdM l D ad cI) mX5_common (ri Z) 137 [(0, .ref (ad 0)), (3, vi x3), (5, vi x5), (6, vi x6), (7, vi x7)] [] h) : ∀ (n : Nat) (x3 : Int) (x5 : Int) (x6 : Int) (x7 : Int) (h : HP), LX5_common_235 k137 n x3 x5 x6 x7 h = some Z → Rn (sdM l D ad cI) mX5_common (ri Z) 235 [(0, .ref (ad 0)), (3, vi x3), (5, vi x5), (6, vi x6), (7, vi x7)] [] h := by
  intro n
  induction n with
  | zero => intro x3 x5 x6 x7 h hf; cases hf
  | succ n ih =>
    intro x3 x5 x6 x7 h hf
    replace hf : bX5_common_235 k137 (LX5_common_235 k137 n) x3 x5 x6 x7 h = some Z := hf
    unfold bX5_common_235 at hf
    refine q_iload dX5_common_235 2 rfl ?_
    refine q_if_lt hf dX5_common_237 256 (by decide) (fun hf => ?_) (fun hf => ?_)
    · refine q_goto dX5_common_256 137 (by decide) ?_
      refine q_loc (loc' := [(0, .ref (ad 0)), (3, vi x3), (5, vi x5), (6, vi x6), (7, vi x7)]) [0, 1, 2, 3, 4] rfl ?_
      exact hk137 x3 x5 x6 x7 h hf
    · refine q_aloadn dX5_common_240 0 rfl ?_
      refine M_g5_5 flX5_22 dX5_common_241 ?_
      refine q_iload dX5_common_244 2 rfl ?_
      refine M_ld rfl hf dX5_common_246 (fun v246 hf => ?_)
      refine q_if_ne hf dX5_common_247 256 (by decide) (fun hf => ?_) (fun hf => ?_)
      · refine q_goto dX5_common_256 137 (by decide) ?_
        refine q_loc (loc' := [(0, .ref (ad 0)), (3, vi x3), (5, vi x5), (6, vi x6), (7, vi x7)]) [0, 1, 2, 3, 4] rfl ?_
        exact hk137 x3 x5 x6 x7 h hf
      · refine q_iinc dX5_common_250 2 rfl rfl (loc' := [(5, vi (x5 + (-1))), (0, .ref (ad 0)), (3, vi x3), (6, vi x6), (7, vi x7)]) rfl ?_
        refine q_goto dX5_common_253 235 (by decide) ?_
        refine q_loc (loc' := [(0, .ref (ad 0)), (3, vi x3), (5, vi (x5 + (-1))), (6, vi x6), (7, vi x7)]) [1, 2, 0, 3, 4] rfl ?_
        exact ih x3 (x5 + (-1)) x6 x7 h hf
def bX5_common_179 (k137 : Int → Int → Int → Int → HP → Option (Int × HP)) (self : Int → Int → Int → Int → Int → Int → HP → Option (Int × HP)) (x3 : Int) (x5 : Int) (x6 : Int) (x7 : Int) (x8 : Int) (x9 : Int) (h : HP) : Option (Int × HP) :=
  if wi x9 ≤ wi x6 then (ld (lnM 5) (h 5) ((x5 - x6) + x9) fun v210 => ld (lnM 6) (h 6) x9 fun v221 => cl (fX5_mod ((wi v210) - ((wi x8) * (wi v221))) h) fun r225 h225 => sto (lnM 5) h225 5 ((x5 - x6) + x9) r225 fun h228 => self x3 x5 x6 x7 x8 (x9 + 1) h228) else (LX5_common_235 k137 FU x3 x5 x6 x7 h)
def LX5_common_179 (k137 : Int → Int → Int → Int → HP → Option (Int × HP)) : Nat → Int → Int → Int → Int → Int → Int → HP → Option (Int × HP)
  | 0 => fun _ _ _ _ _ _ _ => none
  | n + 1 => bX5_common_179 k137 (LX5_common_179 k137 n)
set_option maxRecDepth 20000 in
theorem tX5_common_179 {l : Launch} {D : va_G} {ad : Nat → Nat} {cI : ClassId} {Z : Int × HP} {k137 : Int → Int → Int → Int → HP → Option (Int × HP)} (hk137 : ∀ (x3 : Int) (x5 : Int) (x6 : Int) (x7 : Int) (h : HP), k137 x3 x5 x6 x7 h = some Z → Rn (sdM l D ad cI) mX5_common (ri Z) 137 [(0, .ref (ad 0)), (3, vi x3), (5, vi x5), (6, vi x6), (7, vi x7)] [] h) : ∀ (n : Nat) (x3 : Int) (x5 : Int) (x6 : Int) (x7 : Int) (x8 : Int) (x9 : Int) (h : HP), LX5_common_179 k137 n x3 x5 x6 x7 x8 x9 h = some Z → Rn (sdM l D ad cI) mX5_common (ri Z) 179 [(0, .ref (ad 0)), (3, vi x3), (5, vi x5), (6, vi x6), (7, vi x7), (8, vi x8), (9, vi x9)] [] h := by
  intro n
  induction n with
  | zero => intro x3 x5 x6 x7 x8 x9 h hf; cases hf
  | succ n ih =>
    intro x3 x5 x6 x7 x8 x9 h hf
    replace hf : bX5_common_179 k137 (LX5_common_179 k137 n) x3 x5 x6 x7 x8 x9 h = some Z := hf
    unfold bX5_common_179 at hf
    refine q_iload dX5_common_179 6 rfl ?_
    refine q_iload dX5_common_181 3 rfl ?_
    refine q_icmp_gt hf dX5_common_183 235 (by decide) (fun hf => ?_) (fun hf => ?_)
    · refine q_loc (loc' := [(0, .ref (ad 0)), (3, vi x3), (5, vi x5), (6, vi x6), (7, vi x7)]) [0, 1, 2, 3, 4] rfl ?_
      exact tX5_common_235 hk137 FU x3 x5 x6 x7 h hf
    · refine q_aloadn dX5_common_186 0 rfl ?_
      refine M_g5_5 flX5_22 dX5_common_187 ?_
      refine q_iload dX5_common_190 2 rfl ?_
      refine q_iload dX5_common_192 3 rfl ?_
      refine q_isub dX5_common_194 ?_
      refine q_iload dX5_common_195 6 rfl ?_
      refine q_iadd dX5_common_197 ?_
      refine q_aloadn dX5_common_198 0 rfl ?_
      refine M_g5_5 flX5_22 dX5_common_199 ?_
      refine q_iload dX5_common_202 2 rfl ?_
      refine q_iload dX5_common_204 3 rfl ?_
      refine q_isub dX5_common_206 ?_
      refine q_iload dX5_common_207 6 rfl ?_
      refine q_iadd dX5_common_209 ?_
      refine M_ld rfl hf dX5_common_210 (fun v210 hf => ?_)
      refine q_i2l dX5_common_211 ?_
      refine q_iload dX5_common_212 5 rfl ?_
      refine q_i2l dX5_common_214 ?_
      refine q_aloadn dX5_common_215 0 rfl ?_
      refine M_g5_7 flX5_25 dX5_common_216 ?_
      refine q_iload dX5_common_219 6 rfl ?_
      refine M_ld rfl hf dX5_common_221 (fun v221 hf => ?_)
      refine q_i2l dX5_common_222 ?_
      refine q_lmul dX5_common_223 ?_
      refine q_lsub dX5_common_224 ?_
      obtain ⟨r225, h225, e225, hf⟩ := q_cl hf
      refine q_cSi (av := [vl ((wi v210) - ((wi x8) * (wi v221)))]) (rest := [vi ((x5 - x6) + x9), .ref (ad 5)]) (ctX5_mod e225) kX5_mod uX5_mod lkX5_48 rfl rfl rfl dX5_common_225 ?_
      refine M_st rfl hf dX5_common_228 (fun h228 hf => ?_)
      refine q_iinc dX5_common_229 6 rfl rfl (loc' := [(9, vi (x9 + 1)), (0, .ref (ad 0)), (3, vi x3), (5, vi x5), (6, vi x6), (7, vi x7), (8, vi x8)]) rfl ?_
      refine q_goto dX5_common_232 179 (by decide) ?_
      refine q_loc (loc' := [(0, .ref (ad 0)), (3, vi x3), (5, vi x5), (6, vi x6), (7, vi x7), (8, vi x8), (9, vi (x9 + 1))]) [1, 2, 3, 4, 5, 6, 0] rfl ?_
      exact ih x3 x5 x6 x7 x8 (x9 + 1) h228 hf
def bX5_common_340 (k137 : Int → Int → Int → Int → HP → Option (Int × HP)) (self : Int → Int → Int → Int → HP → Option (Int × HP)) (x3 : Int) (x5 : Int) (x6 : Int) (x7 : Int) (h : HP) : Option (Int × HP) :=
  if 0 ≤ wi x6 then (ld (lnM 6) (h 6) x6 fun v351 => if wi v351 = 0 then (self x3 x5 (x6 + (-1)) x7 h) else (k137 x3 x5 x6 x7 h)) else (k137 x3 x5 x6 x7 h)
def LX5_common_340 (k137 : Int → Int → Int → Int → HP → Option (Int × HP)) : Nat → Int → Int → Int → Int → HP → Option (Int × HP)
  | 0 => fun _ _ _ _ _ => none
  | n + 1 => bX5_common_340 k137 (LX5_common_340 k137 n)
set_option maxRecDepth 20000 in
theorem tX5_common_340 {l : Launch} {D : va_G} {ad : Nat → Nat} {cI : ClassId} {Z : Int × HP} {k137 : Int → Int → Int → Int → HP → Option (Int × HP)} (hk137 : ∀ (x3 : Int) (x5 : Int) (x6 : Int) (x7 : Int) (h : HP), k137 x3 x5 x6 x7 h = some Z → Rn (sdM l D ad cI) mX5_common (ri Z) 137 [(0, .ref (ad 0)), (3, vi x3), (5, vi x5), (6, vi x6), (7, vi x7)] [] h) : ∀ (n : Nat) (x3 : Int) (x5 : Int) (x6 : Int) (x7 : Int) (h : HP), LX5_common_340 k137 n x3 x5 x6 x7 h = some Z → Rn (sdM l D ad cI) mX5_common (ri Z) 340 [(0, .ref (ad 0)), (3, vi x3), (5, vi x5), (6, vi x6), (7, vi x7)] [] h := by
  intro n
  induction n with
  | zero => intro x3 x5 x6 x7 h hf; cases hf
  | succ n ih =>
    intro x3 x5 x6 x7 h hf
    replace hf : bX5_common_340 k137 (LX5_common_340 k137 n) x3 x5 x6 x7 h = some Z := hf
    unfold bX5_common_340 at hf
    refine q_iload dX5_common_340 3 rfl ?_
    refine q_if_lt hf dX5_common_342 361 (by decide) (fun hf => ?_) (fun hf => ?_)
    · refine q_goto dX5_common_361 137 (by decide) ?_
      refine q_loc (loc' := [(0, .ref (ad 0)), (3, vi x3), (5, vi x5), (6, vi x6), (7, vi x7)]) [0, 1, 2, 3, 4] rfl ?_
      exact hk137 x3 x5 x6 x7 h hf
    · refine q_aloadn dX5_common_345 0 rfl ?_
      refine M_g5_7 flX5_25 dX5_common_346 ?_
      refine q_iload dX5_common_349 3 rfl ?_
      refine M_ld rfl hf dX5_common_351 (fun v351 hf => ?_)
      refine q_if_ne hf dX5_common_352 361 (by decide) (fun hf => ?_) (fun hf => ?_)
      · refine q_goto dX5_common_361 137 (by decide) ?_
        refine q_loc (loc' := [(0, .ref (ad 0)), (3, vi x3), (5, vi x5), (6, vi x6), (7, vi x7)]) [0, 1, 2, 3, 4] rfl ?_
        exact hk137 x3 x5 x6 x7 h hf
      · refine q_iinc dX5_common_355 3 rfl rfl (loc' := [(6, vi (x6 + (-1))), (0, .ref (ad 0)), (3, vi x3), (5, vi x5), (7, vi x7)]) rfl ?_
        refine q_goto dX5_common_358 340 (by decide) ?_
        refine q_loc (loc' := [(0, .ref (ad 0)), (3, vi x3), (5, vi x5), (6, vi (x6 + (-1))), (7, vi x7)]) [1, 2, 3, 0, 4] rfl ?_
        exact ih x3 x5 (x6 + (-1)) x7 h hf
def bX5_common_284 (k137 : Int → Int → Int → Int → HP → Option (Int × HP)) (self : Int → Int → Int → Int → Int → Int → HP → Option (Int × HP)) (x3 : Int) (x5 : Int) (x6 : Int) (x7 : Int) (x8 : Int) (x9 : Int) (h : HP) : Option (Int × HP) :=
  if wi x9 ≤ wi x5 then (ld (lnM 6) (h 6) ((x6 - x5) + x9) fun v315 => ld (lnM 5) (h 5) x9 fun v326 => cl (fX5_mod ((wi v315) - ((wi x8) * (wi v326))) h) fun r330 h330 => sto (lnM 6) h330 6 ((x6 - x5) + x9) r330 fun h333 => self x3 x5 x6 x7 x8 (x9 + 1) h333) else (LX5_common_340 k137 FU x3 x5 x6 x7 h)
def LX5_common_284 (k137 : Int → Int → Int → Int → HP → Option (Int × HP)) : Nat → Int → Int → Int → Int → Int → Int → HP → Option (Int × HP)
  | 0 => fun _ _ _ _ _ _ _ => none
  | n + 1 => bX5_common_284 k137 (LX5_common_284 k137 n)
set_option maxRecDepth 20000 in
theorem tX5_common_284 {l : Launch} {D : va_G} {ad : Nat → Nat} {cI : ClassId} {Z : Int × HP} {k137 : Int → Int → Int → Int → HP → Option (Int × HP)} (hk137 : ∀ (x3 : Int) (x5 : Int) (x6 : Int) (x7 : Int) (h : HP), k137 x3 x5 x6 x7 h = some Z → Rn (sdM l D ad cI) mX5_common (ri Z) 137 [(0, .ref (ad 0)), (3, vi x3), (5, vi x5), (6, vi x6), (7, vi x7)] [] h) : ∀ (n : Nat) (x3 : Int) (x5 : Int) (x6 : Int) (x7 : Int) (x8 : Int) (x9 : Int) (h : HP), LX5_common_284 k137 n x3 x5 x6 x7 x8 x9 h = some Z → Rn (sdM l D ad cI) mX5_common (ri Z) 284 [(0, .ref (ad 0)), (3, vi x3), (5, vi x5), (6, vi x6), (7, vi x7), (8, vi x8), (9, vi x9)] [] h := by
  intro n
  induction n with
  | zero => intro x3 x5 x6 x7 x8 x9 h hf; cases hf
  | succ n ih =>
    intro x3 x5 x6 x7 x8 x9 h hf
    replace hf : bX5_common_284 k137 (LX5_common_284 k137 n) x3 x5 x6 x7 x8 x9 h = some Z := hf
    unfold bX5_common_284 at hf
    refine q_iload dX5_common_284 6 rfl ?_
    refine q_iload dX5_common_286 2 rfl ?_
    refine q_icmp_gt hf dX5_common_288 340 (by decide) (fun hf => ?_) (fun hf => ?_)
    · refine q_loc (loc' := [(0, .ref (ad 0)), (3, vi x3), (5, vi x5), (6, vi x6), (7, vi x7)]) [0, 1, 2, 3, 4] rfl ?_
      exact tX5_common_340 hk137 FU x3 x5 x6 x7 h hf
    · refine q_aloadn dX5_common_291 0 rfl ?_
      refine M_g5_7 flX5_25 dX5_common_292 ?_
      refine q_iload dX5_common_295 3 rfl ?_
      refine q_iload dX5_common_297 2 rfl ?_
      refine q_isub dX5_common_299 ?_
      refine q_iload dX5_common_300 6 rfl ?_
      refine q_iadd dX5_common_302 ?_
      refine q_aloadn dX5_common_303 0 rfl ?_
      refine M_g5_7 flX5_25 dX5_common_304 ?_
      refine q_iload dX5_common_307 3 rfl ?_
      refine q_iload dX5_common_309 2 rfl ?_
      refine q_isub dX5_common_311 ?_
      refine q_iload dX5_common_312 6 rfl ?_
      refine q_iadd dX5_common_314 ?_
      refine M_ld rfl hf dX5_common_315 (fun v315 hf => ?_)
      refine q_i2l dX5_common_316 ?_
      refine q_iload dX5_common_317 5 rfl ?_
      refine q_i2l dX5_common_319 ?_
      refine q_aloadn dX5_common_320 0 rfl ?_
      refine M_g5_5 flX5_22 dX5_common_321 ?_
      refine q_iload dX5_common_324 6 rfl ?_
      refine M_ld rfl hf dX5_common_326 (fun v326 hf => ?_)
      refine q_i2l dX5_common_327 ?_
      refine q_lmul dX5_common_328 ?_
      refine q_lsub dX5_common_329 ?_
      obtain ⟨r330, h330, e330, hf⟩ := q_cl hf
      refine q_cSi (av := [vl ((wi v315) - ((wi x8) * (wi v326)))]) (rest := [vi ((x6 - x5) + x9), .ref (ad 6)]) (ctX5_mod e330) kX5_mod uX5_mod lkX5_48 rfl rfl rfl dX5_common_330 ?_
      refine M_st rfl hf dX5_common_333 (fun h333 hf => ?_)
      refine q_iinc dX5_common_334 6 rfl rfl (loc' := [(9, vi (x9 + 1)), (0, .ref (ad 0)), (3, vi x3), (5, vi x5), (6, vi x6), (7, vi x7), (8, vi x8)]) rfl ?_
      refine q_goto dX5_common_337 284 (by decide) ?_
      refine q_loc (loc' := [(0, .ref (ad 0)), (3, vi x3), (5, vi x5), (6, vi x6), (7, vi x7), (8, vi x8), (9, vi (x9 + 1))]) [1, 2, 3, 4, 5, 6, 0] rfl ?_
      exact ih x3 x5 x6 x7 x8 (x9 + 1) h333 hf
def bX5_common_137 (self : Int → Int → Int → Int → HP → Option (Int × HP)) (x3 : Int) (x5 : Int) (x6 : Int) (x7 : Int) (h : HP) : Option (Int × HP) :=
  if 0 ≤ wi x5 then (if 0 ≤ wi x6 then (if wi x6 ≤ wi x5 then (ld (lnM 5) (h 5) x5 fun v160 => ld (lnM 6) (h 6) x6 fun v167 => cl (fX5_turned v167 h) fun r168 h168 => cl (fX5_times v160 r168 h168) fun r171 h171 => LX5_common_179 self FU x3 x5 x6 x7 r171 0 h171) else (ld (lnM 6) (h 6) x6 fun v265 => ld (lnM 5) (h 5) x5 fun v272 => cl (fX5_turned v272 h) fun r273 h273 => cl (fX5_times v265 r273 h273) fun r276 h276 => LX5_common_284 self FU x3 x5 x6 x7 r276 0 h276)) else (jX5_common_364 x3 x5 x6 x7 h)) else (jX5_common_364 x3 x5 x6 x7 h)
def LX5_common_137 : Nat → Int → Int → Int → Int → HP → Option (Int × HP)
  | 0 => fun _ _ _ _ _ => none
  | n + 1 => bX5_common_137 (LX5_common_137 n)
set_option maxRecDepth 20000 in
theorem tX5_common_137 {l : Launch} {D : va_G} {ad : Nat → Nat} {cI : ClassId} {Z : Int × HP} : ∀ (n : Nat) (x3 : Int) (x5 : Int) (x6 : Int) (x7 : Int) (h : HP), LX5_common_137 n x3 x5 x6 x7 h = some Z → Rn (sdM l D ad cI) mX5_common (ri Z) 137 [(0, .ref (ad 0)), (3, vi x3), (5, vi x5), (6, vi x6), (7, vi x7)] [] h := by
  intro n
  induction n with
  | zero => intro x3 x5 x6 x7 h hf; cases hf
  | succ n ih =>
    intro x3 x5 x6 x7 h hf
    replace hf : bX5_common_137 (LX5_common_137 n) x3 x5 x6 x7 h = some Z := hf
    unfold bX5_common_137 at hf
    refine q_iload dX5_common_137 2 rfl ?_
    refine q_if_lt hf dX5_common_139 364 (by decide) (fun hf => ?_) (fun hf => ?_)
    · refine q_loc (loc' := [(0, .ref (ad 0)), (3, vi x3), (5, vi x5), (6, vi x6), (7, vi x7)]) [0, 1, 2, 3, 4] rfl ?_
      exact tX5_common_364 x3 x5 x6 x7 h hf
    · refine q_iload dX5_common_142 3 rfl ?_
      refine q_if_lt hf dX5_common_144 364 (by decide) (fun hf => ?_) (fun hf => ?_)
      · refine q_loc (loc' := [(0, .ref (ad 0)), (3, vi x3), (5, vi x5), (6, vi x6), (7, vi x7)]) [0, 1, 2, 3, 4] rfl ?_
        exact tX5_common_364 x3 x5 x6 x7 h hf
      · refine q_iload dX5_common_147 2 rfl ?_
        refine q_iload dX5_common_149 3 rfl ?_
        refine q_icmp_lt hf dX5_common_151 259 (by decide) (fun hf => ?_) (fun hf => ?_)
        · refine q_aloadn dX5_common_259 0 rfl ?_
          refine M_g5_7 flX5_25 dX5_common_260 ?_
          refine q_iload dX5_common_263 3 rfl ?_
          refine M_ld rfl hf dX5_common_265 (fun v265 hf => ?_)
          refine q_aloadn dX5_common_266 0 rfl ?_
          refine M_g5_5 flX5_22 dX5_common_267 ?_
          refine q_iload dX5_common_270 2 rfl ?_
          refine M_ld rfl hf dX5_common_272 (fun v272 hf => ?_)
          obtain ⟨r273, h273, e273, hf⟩ := q_cl hf
          refine q_cSi (av := [vi v272]) (rest := [vi v265]) (ctX5_turned e273) kX5_turned uX5_turned lkX5_133 rfl rfl rfl dX5_common_273 ?_
          obtain ⟨r276, h276, e276, hf⟩ := q_cl hf
          refine q_cSi (av := [vi v265, vi r273]) (rest := []) (ctX5_times e276) kX5_times uX5_times lkX5_52 rfl rfl rfl dX5_common_276 ?_
          refine q_istore dX5_common_279 rfl (loc' := [(8, vi r276), (0, .ref (ad 0)), (3, vi x3), (5, vi x5), (6, vi x6), (7, vi x7)]) rfl ?_
          refine q_iconst dX5_common_281 ?_
          refine q_istore dX5_common_282 rfl (loc' := [(9, vi 0), (8, vi r276), (0, .ref (ad 0)), (3, vi x3), (5, vi x5), (6, vi x6), (7, vi x7)]) rfl ?_
          refine q_loc (loc' := [(0, .ref (ad 0)), (3, vi x3), (5, vi x5), (6, vi x6), (7, vi x7), (8, vi r276), (9, vi 0)]) [2, 3, 4, 5, 6, 1, 0] rfl ?_
          exact tX5_common_284 ih FU x3 x5 x6 x7 r276 0 h276 hf
        · refine q_aloadn dX5_common_154 0 rfl ?_
          refine M_g5_5 flX5_22 dX5_common_155 ?_
          refine q_iload dX5_common_158 2 rfl ?_
          refine M_ld rfl hf dX5_common_160 (fun v160 hf => ?_)
          refine q_aloadn dX5_common_161 0 rfl ?_
          refine M_g5_7 flX5_25 dX5_common_162 ?_
          refine q_iload dX5_common_165 3 rfl ?_
          refine M_ld rfl hf dX5_common_167 (fun v167 hf => ?_)
          obtain ⟨r168, h168, e168, hf⟩ := q_cl hf
          refine q_cSi (av := [vi v167]) (rest := [vi v160]) (ctX5_turned e168) kX5_turned uX5_turned lkX5_133 rfl rfl rfl dX5_common_168 ?_
          obtain ⟨r171, h171, e171, hf⟩ := q_cl hf
          refine q_cSi (av := [vi v160, vi r168]) (rest := []) (ctX5_times e171) kX5_times uX5_times lkX5_52 rfl rfl rfl dX5_common_171 ?_
          refine q_istore dX5_common_174 rfl (loc' := [(8, vi r171), (0, .ref (ad 0)), (3, vi x3), (5, vi x5), (6, vi x6), (7, vi x7)]) rfl ?_
          refine q_iconst dX5_common_176 ?_
          refine q_istore dX5_common_177 rfl (loc' := [(9, vi 0), (8, vi r171), (0, .ref (ad 0)), (3, vi x3), (5, vi x5), (6, vi x6), (7, vi x7)]) rfl ?_
          refine q_loc (loc' := [(0, .ref (ad 0)), (3, vi x3), (5, vi x5), (6, vi x6), (7, vi x7), (8, vi r171), (9, vi 0)]) [2, 3, 4, 5, 6, 1, 0] rfl ?_
          exact tX5_common_179 ih FU x3 x5 x6 x7 r171 0 h171 hf
def bX5_common_85 (self : Int → Int → Int → HP → Option (Int × HP)) (x3 : Int) (x5 : Int) (x6 : Int) (h : HP) : Option (Int × HP) :=
  ld (lnM 6) (h 6) x6 fun v91 => if wi v91 = 0 then (self x3 x5 (x6 + (-1)) h) else (if wi ((h 0 6) - x5) < wi ((h 0 8) - x6) then (lt ((h 0 6) - x5) fun x7_135 => LX5_common_137 FU x3 x5 x6 x7_135 h) else (lt ((h 0 8) - x6) fun x7_135 => LX5_common_137 FU x3 x5 x6 x7_135 h))
def LX5_common_85 : Nat → Int → Int → Int → HP → Option (Int × HP)
  | 0 => fun _ _ _ _ => none
  | n + 1 => bX5_common_85 (LX5_common_85 n)
set_option maxRecDepth 20000 in
theorem tX5_common_85 {l : Launch} {D : va_G} {ad : Nat → Nat} {cI : ClassId} {Z : Int × HP} : ∀ (n : Nat) (x3 : Int) (x5 : Int) (x6 : Int) (h : HP), LX5_common_85 n x3 x5 x6 h = some Z → Rn (sdM l D ad cI) mX5_common (ri Z) 85 [(0, .ref (ad 0)), (3, vi x3), (5, vi x5), (6, vi x6)] [] h := by
  intro n
  induction n with
  | zero => intro x3 x5 x6 h hf; cases hf
  | succ n ih =>
    intro x3 x5 x6 h hf
    replace hf : bX5_common_85 (LX5_common_85 n) x3 x5 x6 h = some Z := hf
    unfold bX5_common_85 at hf
    refine q_aloadn dX5_common_85 0 rfl ?_
    refine M_g5_7 flX5_25 dX5_common_86 ?_
    refine q_iload dX5_common_89 3 rfl ?_
    refine M_ld rfl hf dX5_common_91 (fun v91 hf => ?_)
    refine q_if_ne hf dX5_common_92 101 (by decide) (fun hf => ?_) (fun hf => ?_)
    · refine q_aloadn dX5_common_101 0 rfl ?_
      refine M_g5_6 flX5_81 dX5_common_102 ?_
      refine q_iload dX5_common_105 2 rfl ?_
      refine q_isub dX5_common_107 ?_
      refine q_aloadn dX5_common_108 0 rfl ?_
      refine M_g5_8 flX5_84 dX5_common_109 ?_
      refine q_iload dX5_common_112 3 rfl ?_
      refine q_isub dX5_common_114 ?_
      refine q_icmp_ge hf dX5_common_115 128 (by decide) (fun hf => ?_) (fun hf => ?_)
      · refine q_aloadn dX5_common_128 0 rfl ?_
        refine M_g5_8 flX5_84 dX5_common_129 ?_
        refine q_iload dX5_common_132 3 rfl ?_
        refine q_isub dX5_common_134 ?_
        refine q_lt hf (fun x7_135 hf => ?_)
        refine q_istore dX5_common_135 rfl (loc' := [(7, vi x7_135), (0, .ref (ad 0)), (3, vi x3), (5, vi x5), (6, vi x6)]) rfl ?_
        refine q_loc (loc' := [(0, .ref (ad 0)), (3, vi x3), (5, vi x5), (6, vi x6), (7, vi x7_135)]) [1, 2, 3, 4, 0] rfl ?_
        exact tX5_common_137 FU x3 x5 x6 x7_135 h hf
      · refine q_aloadn dX5_common_118 0 rfl ?_
        refine M_g5_6 flX5_81 dX5_common_119 ?_
        refine q_iload dX5_common_122 2 rfl ?_
        refine q_isub dX5_common_124 ?_
        refine q_goto dX5_common_125 135 (by decide) ?_
        refine q_lt hf (fun x7_135 hf => ?_)
        refine q_istore dX5_common_135 rfl (loc' := [(7, vi x7_135), (0, .ref (ad 0)), (3, vi x3), (5, vi x5), (6, vi x6)]) rfl ?_
        refine q_loc (loc' := [(0, .ref (ad 0)), (3, vi x3), (5, vi x5), (6, vi x6), (7, vi x7_135)]) [1, 2, 3, 4, 0] rfl ?_
        exact tX5_common_137 FU x3 x5 x6 x7_135 h hf
    · refine q_iinc dX5_common_95 3 rfl rfl (loc' := [(6, vi (x6 + (-1))), (0, .ref (ad 0)), (3, vi x3), (5, vi x5)]) rfl ?_
      refine q_goto dX5_common_98 85 (by decide) ?_
      refine q_loc (loc' := [(0, .ref (ad 0)), (3, vi x3), (5, vi x5), (6, vi (x6 + (-1)))]) [1, 2, 3, 0] rfl ?_
      exact ih x3 x5 (x6 + (-1)) h hf
def bX5_common_63 (self : Int → Int → HP → Option (Int × HP)) (x3 : Int) (x5 : Int) (h : HP) : Option (Int × HP) :=
  ld (lnM 5) (h 5) x5 fun v69 => if wi v69 = 0 then (self x3 (x5 + (-1)) h) else (lt (h 0 8) fun x6_83 => LX5_common_85 FU x3 x5 x6_83 h)
def LX5_common_63 : Nat → Int → Int → HP → Option (Int × HP)
  | 0 => fun _ _ _ => none
  | n + 1 => bX5_common_63 (LX5_common_63 n)
set_option maxRecDepth 20000 in
theorem tX5_common_63 {l : Launch} {D : va_G} {ad : Nat → Nat} {cI : ClassId} {Z : Int × HP} : ∀ (n : Nat) (x3 : Int) (x5 : Int) (h : HP), LX5_common_63 n x3 x5 h = some Z → Rn (sdM l D ad cI) mX5_common (ri Z) 63 [(0, .ref (ad 0)), (3, vi x3), (5, vi x5)] [] h := by
  intro n
  induction n with
  | zero => intro x3 x5 h hf; cases hf
  | succ n ih =>
    intro x3 x5 h hf
    replace hf : bX5_common_63 (LX5_common_63 n) x3 x5 h = some Z := hf
    unfold bX5_common_63 at hf
    refine q_aloadn dX5_common_63 0 rfl ?_
    refine M_g5_5 flX5_22 dX5_common_64 ?_
    refine q_iload dX5_common_67 2 rfl ?_
    refine M_ld rfl hf dX5_common_69 (fun v69 hf => ?_)
    refine q_if_ne hf dX5_common_70 79 (by decide) (fun hf => ?_) (fun hf => ?_)
    · refine q_aloadn dX5_common_79 0 rfl ?_
      refine M_g5_8 flX5_84 dX5_common_80 ?_
      refine q_lt hf (fun x6_83 hf => ?_)
      refine q_istore dX5_common_83 rfl (loc' := [(6, vi x6_83), (0, .ref (ad 0)), (3, vi x3), (5, vi x5)]) rfl ?_
      refine q_loc (loc' := [(0, .ref (ad 0)), (3, vi x3), (5, vi x5), (6, vi x6_83)]) [1, 2, 3, 0] rfl ?_
      exact tX5_common_85 FU x3 x5 x6_83 h hf
    · refine q_iinc dX5_common_73 2 rfl rfl (loc' := [(5, vi (x5 + (-1))), (0, .ref (ad 0)), (3, vi x3)]) rfl ?_
      refine q_goto dX5_common_76 63 (by decide) ?_
      refine q_loc (loc' := [(0, .ref (ad 0)), (3, vi x3), (5, vi (x5 + (-1)))]) [1, 2, 0] rfl ?_
      exact ih x3 (x5 + (-1)) h hf
def fX5_common (x1 : Int) (x2 : Int) (x3 : Int) (h : HP) : Option (Int × HP) :=
  cl (fX5_isSheet x1 h) fun r1 h1 => if wi r1 = 0 then (some ((-2), h1)) else (cl (fX5_isSheet x2 h1) fun r8 h8 => if wi r8 = 0 then (some ((-2), h8)) else (cl (fX5_isSheet x3 h8) fun r15 h15 => if wi r15 = 0 then (some ((-2), h15)) else (cl (fX5_lacksTwo x1 x2 h15) fun r27 h27 => if wi r27 = 0 then (cl (fX5_isNoughtF h27) fun r41 h41 => if wi r41 = 0 then (cl (fX5_isNoughtG h41) fun r48 h48 => if wi r48 = 0 then (lt (h48 0 6) fun x5_61 => LX5_common_63 FU x3 x5_61 h48) else (some ((-3), h48))) else (some ((-3), h41))) else (some (r27, h27)))))
set_option maxRecDepth 20000 in
theorem ctX5_common {l : Launch} {D : va_G} {ad : Nat → Nat} {cI : ClassId} {x1 : Int} {x2 : Int} {x3 : Int} {h : HP} {Z : Int × HP} (hf : fX5_common x1 x2 x3 h = some Z) : Ct (sdM l D ad cI) mX5_common [.ref (ad 0), vi x1, vi x2, vi x3] h (ri Z) := by
  refine Ct.ofF nX5_common rfl (loc := [(0, .ref (ad 0)), (1, vi x1), (2, vi x2), (3, vi x3)]) rfl ?_
  unfold fX5_common at hf
  refine q_iloadn dX5_common_0 1 rfl ?_
  obtain ⟨r1, h1, e1, hf⟩ := q_cl hf
  refine q_cSi (av := [vi x1]) (rest := []) (ctX5_isSheet e1) kX5_isSheet uX5_isSheet lkX5_66 rfl rfl rfl dX5_common_1 ?_
  refine q_if_eq hf dX5_common_4 21 (by decide) (fun hf => ?_) (fun hf => ?_)
  · refine q_bipush dX5_common_21 (by decide) ?_
    exact q_iret hf rfl dX5_common_23
  · refine q_iloadn dX5_common_7 2 rfl ?_
    obtain ⟨r8, h8, e8, hf⟩ := q_cl hf
    refine q_cSi (av := [vi x2]) (rest := []) (ctX5_isSheet e8) kX5_isSheet uX5_isSheet lkX5_66 rfl rfl rfl dX5_common_8 ?_
    refine q_if_eq hf dX5_common_11 21 (by decide) (fun hf => ?_) (fun hf => ?_)
    · refine q_bipush dX5_common_21 (by decide) ?_
      exact q_iret hf rfl dX5_common_23
    · refine q_iloadn dX5_common_14 3 rfl ?_
      obtain ⟨r15, h15, e15, hf⟩ := q_cl hf
      refine q_cSi (av := [vi x3]) (rest := []) (ctX5_isSheet e15) kX5_isSheet uX5_isSheet lkX5_66 rfl rfl rfl dX5_common_15 ?_
      refine q_if_ne hf dX5_common_18 24 (by decide) (fun hf => ?_) (fun hf => ?_)
      · refine q_aloadn dX5_common_24 0 rfl ?_
        refine q_iloadn dX5_common_25 1 rfl ?_
        refine q_iloadn dX5_common_26 2 rfl ?_
        obtain ⟨r27, h27, e27, hf⟩ := q_cl hf
        refine q_cVi (av := [vi x1, vi x2]) (rest := []) wM_0 (ctX5_lacksTwo e27) kX5_lacksTwo vX5_lacksTwo zX5_lacksTwo lkX5_110 rfl rfl rfl rfl rfl dX5_common_27 ?_
        refine q_istore dX5_common_30 rfl (loc' := [(4, vi r27), (0, .ref (ad 0)), (1, vi x1), (2, vi x2), (3, vi x3)]) rfl ?_
        refine q_iload dX5_common_32 0 rfl ?_
        refine q_if_eq hf dX5_common_34 40 (by decide) (fun hf => ?_) (fun hf => ?_)
        · refine q_aloadn dX5_common_40 1 rfl ?_
          obtain ⟨r41, h41, e41, hf⟩ := q_cl hf
          refine q_cVi (av := []) (rest := []) wM_0 (ctX5_isNoughtF e41) kX5_isNoughtF vX5_isNoughtF zX5_isNoughtF lkX5_136 rfl rfl rfl rfl rfl dX5_common_41 ?_
          refine q_if_ne hf dX5_common_44 54 (by decide) (fun hf => ?_) (fun hf => ?_)
          · refine q_bipush dX5_common_54 (by decide) ?_
            exact q_iret hf rfl dX5_common_56
          · refine q_aloadn dX5_common_47 1 rfl ?_
            obtain ⟨r48, h48, e48, hf⟩ := q_cl hf
            refine q_cVi (av := []) (rest := []) wM_0 (ctX5_isNoughtG e48) kX5_isNoughtG vX5_isNoughtG zX5_isNoughtG lkX5_140 rfl rfl rfl rfl rfl dX5_common_48 ?_
            refine q_if_eq hf dX5_common_51 57 (by decide) (fun hf => ?_) (fun hf => ?_)
            · refine q_aloadn dX5_common_57 1 rfl ?_
              refine M_g5_6 flX5_81 dX5_common_58 ?_
              refine q_lt hf (fun x5_61 hf => ?_)
              refine q_istore dX5_common_61 rfl (loc' := [(5, vi x5_61), (4, vi r27), (0, .ref (ad 0)), (1, vi x1), (2, vi x2), (3, vi x3)]) rfl ?_
              refine q_loc (loc' := [(0, .ref (ad 0)), (3, vi x3), (5, vi x5_61)]) [2, 5, 0] rfl ?_
              exact tX5_common_63 FU x3 x5_61 h48 hf
            · refine q_bipush dX5_common_54 (by decide) ?_
              exact q_iret hf rfl dX5_common_56
        · refine q_iload dX5_common_37 0 rfl ?_
          exact q_iret hf rfl dX5_common_39
      · refine q_bipush dX5_common_21 (by decide) ?_
        exact q_iret hf rfl dX5_common_23
def bX5_eliminate_224 (k194 : Int → Int → Int → Int → Int → Int → HP → Option (Int × HP)) (self : Int → Int → Int → Int → Int → Int → Int → Int → HP → Option (Int × HP)) (x1 : Int) (x2 : Int) (x3 : Int) (x4 : Int) (x6 : Int) (x7 : Int) (x8 : Int) (x9 : Int) (h : HP) : Option (Int × HP) :=
  if wi x9 < wi x2 then (if wi x8 = 0 then (k194 x1 x2 x3 x4 x6 (x7 + 1) h) else (ld (lnM 9) (h 9) ((18 * x7) + x9) fun v259 => ld (lnM 9) (h 9) ((18 * x3) + x9) fun v275 => cl (fX5_mod ((wi v259) - ((wi x8) * (wi v275))) h) fun r279 h279 => sto (lnM 9) h279 9 ((18 * x7) + x9) r279 fun h282 => self x1 x2 x3 x4 x6 x7 x8 (x9 + 1) h282)) else (k194 x1 x2 x3 x4 x6 (x7 + 1) h)
def LX5_eliminate_224 (k194 : Int → Int → Int → Int → Int → Int → HP → Option (Int × HP)) : Nat → Int → Int → Int → Int → Int → Int → Int → Int → HP → Option (Int × HP)
  | 0 => fun _ _ _ _ _ _ _ _ _ => none
  | n + 1 => bX5_eliminate_224 k194 (LX5_eliminate_224 k194 n)
set_option maxRecDepth 20000 in
theorem tX5_eliminate_224 {l : Launch} {D : va_G} {ad : Nat → Nat} {cI : ClassId} {Z : Int × HP} {k194 : Int → Int → Int → Int → Int → Int → HP → Option (Int × HP)} (hk194 : ∀ (x1 : Int) (x2 : Int) (x3 : Int) (x4 : Int) (x6 : Int) (x7 : Int) (h : HP), k194 x1 x2 x3 x4 x6 x7 h = some Z → Rn (sdM l D ad cI) mX5_eliminate (ri Z) 194 [(0, .ref (ad 0)), (1, vi x1), (2, vi x2), (3, vi x3), (4, vi x4), (6, vi x6), (7, vi x7)] [] h) : ∀ (n : Nat) (x1 : Int) (x2 : Int) (x3 : Int) (x4 : Int) (x6 : Int) (x7 : Int) (x8 : Int) (x9 : Int) (h : HP), LX5_eliminate_224 k194 n x1 x2 x3 x4 x6 x7 x8 x9 h = some Z → Rn (sdM l D ad cI) mX5_eliminate (ri Z) 224 [(0, .ref (ad 0)), (1, vi x1), (2, vi x2), (3, vi x3), (4, vi x4), (6, vi x6), (7, vi x7), (8, vi x8), (9, vi x9)] [] h := by
  intro n
  induction n with
  | zero => intro x1 x2 x3 x4 x6 x7 x8 x9 h hf; cases hf
  | succ n ih =>
    intro x1 x2 x3 x4 x6 x7 x8 x9 h hf
    replace hf : bX5_eliminate_224 k194 (LX5_eliminate_224 k194 n) x1 x2 x3 x4 x6 x7 x8 x9 h = some Z := hf
    unfold bX5_eliminate_224 at hf
    refine q_iload dX5_eliminate_224 8 rfl ?_
    refine q_iloadn dX5_eliminate_226 2 rfl ?_
    refine q_icmp_ge hf dX5_eliminate_227 289 (by decide) (fun hf => ?_) (fun hf => ?_)
    · refine q_iinc dX5_eliminate_289 6 rfl rfl (loc' := [(7, vi (x7 + 1)), (0, .ref (ad 0)), (1, vi x1), (2, vi x2), (3, vi x3), (4, vi x4), (6, vi x6), (8, vi x8), (9, vi x9)]) rfl ?_
      refine q_goto dX5_eliminate_292 194 (by decide) ?_
      refine q_loc (loc' := [(0, .ref (ad 0)), (1, vi x1), (2, vi x2), (3, vi x3), (4, vi x4), (6, vi x6), (7, vi (x7 + 1))]) [1, 2, 3, 4, 5, 6, 0] rfl ?_
      exact hk194 x1 x2 x3 x4 x6 (x7 + 1) h hf
    · refine q_iload dX5_eliminate_230 7 rfl ?_
      refine q_if_eq hf dX5_eliminate_232 289 (by decide) (fun hf => ?_) (fun hf => ?_)
      · refine q_iinc dX5_eliminate_289 6 rfl rfl (loc' := [(7, vi (x7 + 1)), (0, .ref (ad 0)), (1, vi x1), (2, vi x2), (3, vi x3), (4, vi x4), (6, vi x6), (8, vi x8), (9, vi x9)]) rfl ?_
        refine q_goto dX5_eliminate_292 194 (by decide) ?_
        refine q_loc (loc' := [(0, .ref (ad 0)), (1, vi x1), (2, vi x2), (3, vi x3), (4, vi x4), (6, vi x6), (7, vi (x7 + 1))]) [1, 2, 3, 4, 5, 6, 0] rfl ?_
        exact hk194 x1 x2 x3 x4 x6 (x7 + 1) h hf
      · refine q_aloadn dX5_eliminate_235 0 rfl ?_
        refine M_g5_12 flX5_34 dX5_eliminate_236 ?_
        refine q_bipush dX5_eliminate_239 (by decide) ?_
        refine q_iload dX5_eliminate_241 6 rfl ?_
        refine q_imul dX5_eliminate_243 ?_
        refine q_iload dX5_eliminate_244 8 rfl ?_
        refine q_iadd dX5_eliminate_246 ?_
        refine q_aloadn dX5_eliminate_247 0 rfl ?_
        refine M_g5_12 flX5_34 dX5_eliminate_248 ?_
        refine q_bipush dX5_eliminate_251 (by decide) ?_
        refine q_iload dX5_eliminate_253 6 rfl ?_
        refine q_imul dX5_eliminate_255 ?_
        refine q_iload dX5_eliminate_256 8 rfl ?_
        refine q_iadd dX5_eliminate_258 ?_
        refine M_ld rfl hf dX5_eliminate_259 (fun v259 hf => ?_)
        refine q_i2l dX5_eliminate_260 ?_
        refine q_iload dX5_eliminate_261 7 rfl ?_
        refine q_i2l dX5_eliminate_263 ?_
        refine q_aloadn dX5_eliminate_264 0 rfl ?_
        refine M_g5_12 flX5_34 dX5_eliminate_265 ?_
        refine q_bipush dX5_eliminate_268 (by decide) ?_
        refine q_iloadn dX5_eliminate_270 3 rfl ?_
        refine q_imul dX5_eliminate_271 ?_
        refine q_iload dX5_eliminate_272 8 rfl ?_
        refine q_iadd dX5_eliminate_274 ?_
        refine M_ld rfl hf dX5_eliminate_275 (fun v275 hf => ?_)
        refine q_i2l dX5_eliminate_276 ?_
        refine q_lmul dX5_eliminate_277 ?_
        refine q_lsub dX5_eliminate_278 ?_
        obtain ⟨r279, h279, e279, hf⟩ := q_cl hf
        refine q_cSi (av := [vl ((wi v259) - ((wi x8) * (wi v275)))]) (rest := [vi ((18 * x7) + x9), .ref (ad 9)]) (ctX5_mod e279) kX5_mod uX5_mod lkX5_48 rfl rfl rfl dX5_eliminate_279 ?_
        refine M_st rfl hf dX5_eliminate_282 (fun h282 hf => ?_)
        refine q_iinc dX5_eliminate_283 8 rfl rfl (loc' := [(9, vi (x9 + 1)), (0, .ref (ad 0)), (1, vi x1), (2, vi x2), (3, vi x3), (4, vi x4), (6, vi x6), (7, vi x7), (8, vi x8)]) rfl ?_
        refine q_goto dX5_eliminate_286 224 (by decide) ?_
        refine q_loc (loc' := [(0, .ref (ad 0)), (1, vi x1), (2, vi x2), (3, vi x3), (4, vi x4), (6, vi x6), (7, vi x7), (8, vi x8), (9, vi (x9 + 1))]) [1, 2, 3, 4, 5, 6, 7, 8, 0] rfl ?_
        exact ih x1 x2 x3 x4 x6 x7 x8 (x9 + 1) h282 hf
def bX5_eliminate_194 (k10 : Int → Int → Int → Int → HP → Option (Int × HP)) (self : Int → Int → Int → Int → Int → Int → HP → Option (Int × HP)) (x1 : Int) (x2 : Int) (x3 : Int) (x4 : Int) (x6 : Int) (x7 : Int) (h : HP) : Option (Int × HP) :=
  if wi x7 < wi x1 then (ld (lnM 9) (h 9) ((18 * x7) + x4) fun v212 => cl (fX5_times v212 x6 h) fun r215 h215 => LX5_eliminate_224 self FU x1 x2 x3 x4 x6 x7 r215 x4 h215) else (k10 x1 x2 (x3 + 1) (x4 + 1) h)
def LX5_eliminate_194 (k10 : Int → Int → Int → Int → HP → Option (Int × HP)) : Nat → Int → Int → Int → Int → Int → Int → HP → Option (Int × HP)
  | 0 => fun _ _ _ _ _ _ _ => none
  | n + 1 => bX5_eliminate_194 k10 (LX5_eliminate_194 k10 n)
set_option maxRecDepth 20000 in
theorem tX5_eliminate_194 {l : Launch} {D : va_G} {ad : Nat → Nat} {cI : ClassId} {Z : Int × HP} {k10 : Int → Int → Int → Int → HP → Option (Int × HP)} (hk10 : ∀ (x1 : Int) (x2 : Int) (x3 : Int) (x4 : Int) (h : HP), k10 x1 x2 x3 x4 h = some Z → Rn (sdM l D ad cI) mX5_eliminate (ri Z) 10 [(0, .ref (ad 0)), (1, vi x1), (2, vi x2), (3, vi x3), (4, vi x4)] [] h) : ∀ (n : Nat) (x1 : Int) (x2 : Int) (x3 : Int) (x4 : Int) (x6 : Int) (x7 : Int) (h : HP), LX5_eliminate_194 k10 n x1 x2 x3 x4 x6 x7 h = some Z → Rn (sdM l D ad cI) mX5_eliminate (ri Z) 194 [(0, .ref (ad 0)), (1, vi x1), (2, vi x2), (3, vi x3), (4, vi x4), (6, vi x6), (7, vi x7)] [] h := by
  intro n
  induction n with
  | zero => intro x1 x2 x3 x4 x6 x7 h hf; cases hf
  | succ n ih =>
    intro x1 x2 x3 x4 x6 x7 h hf
    replace hf : bX5_eliminate_194 k10 (LX5_eliminate_194 k10 n) x1 x2 x3 x4 x6 x7 h = some Z := hf
    unfold bX5_eliminate_194 at hf
    refine q_iload dX5_eliminate_194 6 rfl ?_
    refine q_iloadn dX5_eliminate_196 1 rfl ?_
    refine q_icmp_ge hf dX5_eliminate_197 295 (by decide) (fun hf => ?_) (fun hf => ?_)
    · refine q_iinc dX5_eliminate_295 3 rfl rfl (loc' := [(3, vi (x3 + 1)), (0, .ref (ad 0)), (1, vi x1), (2, vi x2), (4, vi x4), (6, vi x6), (7, vi x7)]) rfl ?_
      refine q_iinc dX5_eliminate_298 4 rfl rfl (loc' := [(4, vi (x4 + 1)), (3, vi (x3 + 1)), (0, .ref (ad 0)), (1, vi x1), (2, vi x2), (6, vi x6), (7, vi x7)]) rfl ?_
      refine q_goto dX5_eliminate_301 10 (by decide) ?_
      refine q_loc (loc' := [(0, .ref (ad 0)), (1, vi x1), (2, vi x2), (3, vi (x3 + 1)), (4, vi (x4 + 1))]) [2, 3, 4, 1, 0] rfl ?_
      exact hk10 x1 x2 (x3 + 1) (x4 + 1) h hf
    · refine q_aloadn dX5_eliminate_200 0 rfl ?_
      refine M_g5_12 flX5_34 dX5_eliminate_201 ?_
      refine q_bipush dX5_eliminate_204 (by decide) ?_
      refine q_iload dX5_eliminate_206 6 rfl ?_
      refine q_imul dX5_eliminate_208 ?_
      refine q_iload dX5_eliminate_209 4 rfl ?_
      refine q_iadd dX5_eliminate_211 ?_
      refine M_ld rfl hf dX5_eliminate_212 (fun v212 hf => ?_)
      refine q_iload dX5_eliminate_213 5 rfl ?_
      obtain ⟨r215, h215, e215, hf⟩ := q_cl hf
      refine q_cSi (av := [vi v212, vi x6]) (rest := []) (ctX5_times e215) kX5_times uX5_times lkX5_52 rfl rfl rfl dX5_eliminate_215 ?_
      refine q_istore dX5_eliminate_218 rfl (loc' := [(8, vi r215), (0, .ref (ad 0)), (1, vi x1), (2, vi x2), (3, vi x3), (4, vi x4), (6, vi x6), (7, vi x7)]) rfl ?_
      refine q_iload dX5_eliminate_220 5 rfl ?_
      refine q_istore dX5_eliminate_222 rfl (loc' := [(9, vi x4), (8, vi r215), (0, .ref (ad 0)), (1, vi x1), (2, vi x2), (3, vi x3), (4, vi x4), (6, vi x6), (7, vi x7)]) rfl ?_
      refine q_loc (loc' := [(0, .ref (ad 0)), (1, vi x1), (2, vi x2), (3, vi x3), (4, vi x4), (6, vi x6), (7, vi x7), (8, vi r215), (9, vi x4)]) [2, 3, 4, 5, 6, 7, 8, 1, 0] rfl ?_
      exact tX5_eliminate_224 ih FU x1 x2 x3 x4 x6 x7 r215 x4 h215 hf
def jX5_eliminate_149 (k10 : Int → Int → Int → Int → HP → Option (Int × HP)) (x1 : Int) (x2 : Int) (x3 : Int) (x4 : Int) (h : HP) : Option (Int × HP) :=
  ld (lnM 9) (h 9) ((18 * x3) + x4) fun v165 => cl (fX5_times (h 0 13) v165 h) fun r166 h166 => pf h166 0 13 r166 fun h169 => ld (lnM 9) (h169 9) ((18 * x3) + x4) fun v183 => cl (fX5_turned v183 h169) fun r184 h184 => lt (x3 + 1) fun x7_192 => LX5_eliminate_194 k10 FU x1 x2 x3 x4 r184 x7_192 h184
set_option maxRecDepth 20000 in
theorem tX5_eliminate_149 {l : Launch} {D : va_G} {ad : Nat → Nat} {cI : ClassId} {Z : Int × HP} {k10 : Int → Int → Int → Int → HP → Option (Int × HP)} (hk10 : ∀ (x1 : Int) (x2 : Int) (x3 : Int) (x4 : Int) (h : HP), k10 x1 x2 x3 x4 h = some Z → Rn (sdM l D ad cI) mX5_eliminate (ri Z) 10 [(0, .ref (ad 0)), (1, vi x1), (2, vi x2), (3, vi x3), (4, vi x4)] [] h) (x1 : Int) (x2 : Int) (x3 : Int) (x4 : Int) (h : HP) (hf : jX5_eliminate_149 k10 x1 x2 x3 x4 h = some Z) : Rn (sdM l D ad cI) mX5_eliminate (ri Z) 149 [(0, .ref (ad 0)), (1, vi x1), (2, vi x2), (3, vi x3), (4, vi x4)] [] h := by
  unfold jX5_eliminate_149 at hf
  refine q_aloadn dX5_eliminate_149 0 rfl ?_
  refine q_aloadn dX5_eliminate_150 0 rfl ?_
  refine M_g5_13 flX5_149 dX5_eliminate_151 ?_
  refine q_aloadn dX5_eliminate_154 0 rfl ?_
  refine M_g5_12 flX5_34 dX5_eliminate_155 ?_
  refine q_bipush dX5_eliminate_158 (by decide) ?_
  refine q_iloadn dX5_eliminate_160 3 rfl ?_
  refine q_imul dX5_eliminate_161 ?_
  refine q_iload dX5_eliminate_162 4 rfl ?_
  refine q_iadd dX5_eliminate_164 ?_
  refine M_ld rfl hf dX5_eliminate_165 (fun v165 hf => ?_)
  obtain ⟨r166, h166, e166, hf⟩ := q_cl hf
  refine q_cSi (av := [vi (h 0 13), vi v165]) (rest := [.ref (ad 0)]) (ctX5_times e166) kX5_times uX5_times lkX5_52 rfl rfl rfl dX5_eliminate_166 ?_
  refine M_p5_13 hf flX5_149 dX5_eliminate_169 (fun h169 hf => ?_)
  refine q_aloadn dX5_eliminate_172 0 rfl ?_
  refine M_g5_12 flX5_34 dX5_eliminate_173 ?_
  refine q_bipush dX5_eliminate_176 (by decide) ?_
  refine q_iloadn dX5_eliminate_178 3 rfl ?_
  refine q_imul dX5_eliminate_179 ?_
  refine q_iload dX5_eliminate_180 4 rfl ?_
  refine q_iadd dX5_eliminate_182 ?_
  refine M_ld rfl hf dX5_eliminate_183 (fun v183 hf => ?_)
  obtain ⟨r184, h184, e184, hf⟩ := q_cl hf
  refine q_cSi (av := [vi v183]) (rest := []) (ctX5_turned e184) kX5_turned uX5_turned lkX5_133 rfl rfl rfl dX5_eliminate_184 ?_
  refine q_istore dX5_eliminate_187 rfl (loc' := [(6, vi r184), (0, .ref (ad 0)), (1, vi x1), (2, vi x2), (3, vi x3), (4, vi x4)]) rfl ?_
  refine q_iloadn dX5_eliminate_189 4 rfl ?_
  refine q_iconst dX5_eliminate_190 ?_
  refine q_iadd dX5_eliminate_191 ?_
  refine q_lt hf (fun x7_192 hf => ?_)
  refine q_istore dX5_eliminate_192 rfl (loc' := [(7, vi x7_192), (6, vi r184), (0, .ref (ad 0)), (1, vi x1), (2, vi x2), (3, vi x3), (4, vi x4)]) rfl ?_
  refine q_loc (loc' := [(0, .ref (ad 0)), (1, vi x1), (2, vi x2), (3, vi x3), (4, vi x4), (6, vi r184), (7, vi x7_192)]) [2, 3, 4, 5, 6, 1, 0] rfl ?_
  exact tX5_eliminate_194 hk10 FU x1 x2 x3 x4 r184 x7_192 h184 hf
def bX5_eliminate_83 (k10 : Int → Int → Int → Int → HP → Option (Int × HP)) (self : Int → Int → Int → Int → Int → Int → HP → Option (Int × HP)) (x1 : Int) (x2 : Int) (x3 : Int) (x4 : Int) (x5 : Int) (x6 : Int) (h : HP) : Option (Int × HP) :=
  if wi x6 < wi x2 then (ld (lnM 9) (h 9) ((18 * x5) + x6) fun v101 => ld (lnM 9) (h 9) ((18 * x3) + x6) fun v127 => sto (lnM 9) h 9 ((18 * x5) + x6) v127 fun h128 => sto (lnM 9) h128 9 ((18 * x3) + x6) v101 fun h142 => self x1 x2 x3 x4 x5 (x6 + 1) h142) else (jX5_eliminate_149 k10 x1 x2 x3 x4 h)
def LX5_eliminate_83 (k10 : Int → Int → Int → Int → HP → Option (Int × HP)) : Nat → Int → Int → Int → Int → Int → Int → HP → Option (Int × HP)
  | 0 => fun _ _ _ _ _ _ _ => none
  | n + 1 => bX5_eliminate_83 k10 (LX5_eliminate_83 k10 n)
set_option maxRecDepth 20000 in
theorem tX5_eliminate_83 {l : Launch} {D : va_G} {ad : Nat → Nat} {cI : ClassId} {Z : Int × HP} {k10 : Int → Int → Int → Int → HP → Option (Int × HP)} (hk10 : ∀ (x1 : Int) (x2 : Int) (x3 : Int) (x4 : Int) (h : HP), k10 x1 x2 x3 x4 h = some Z → Rn (sdM l D ad cI) mX5_eliminate (ri Z) 10 [(0, .ref (ad 0)), (1, vi x1), (2, vi x2), (3, vi x3), (4, vi x4)] [] h) : ∀ (n : Nat) (x1 : Int) (x2 : Int) (x3 : Int) (x4 : Int) (x5 : Int) (x6 : Int) (h : HP), LX5_eliminate_83 k10 n x1 x2 x3 x4 x5 x6 h = some Z → Rn (sdM l D ad cI) mX5_eliminate (ri Z) 83 [(0, .ref (ad 0)), (1, vi x1), (2, vi x2), (3, vi x3), (4, vi x4), (5, vi x5), (6, vi x6)] [] h := by
  intro n
  induction n with
  | zero => intro x1 x2 x3 x4 x5 x6 h hf; cases hf
  | succ n ih =>
    intro x1 x2 x3 x4 x5 x6 h hf
    replace hf : bX5_eliminate_83 k10 (LX5_eliminate_83 k10 n) x1 x2 x3 x4 x5 x6 h = some Z := hf
    unfold bX5_eliminate_83 at hf
    refine q_iload dX5_eliminate_83 6 rfl ?_
    refine q_iloadn dX5_eliminate_85 2 rfl ?_
    refine q_icmp_ge hf dX5_eliminate_86 149 (by decide) (fun hf => ?_) (fun hf => ?_)
    · refine q_loc (loc' := [(0, .ref (ad 0)), (1, vi x1), (2, vi x2), (3, vi x3), (4, vi x4)]) [0, 1, 2, 3, 4] rfl ?_
      exact tX5_eliminate_149 hk10 x1 x2 x3 x4 h hf
    · refine q_aloadn dX5_eliminate_89 0 rfl ?_
      refine M_g5_12 flX5_34 dX5_eliminate_90 ?_
      refine q_bipush dX5_eliminate_93 (by decide) ?_
      refine q_iload dX5_eliminate_95 5 rfl ?_
      refine q_imul dX5_eliminate_97 ?_
      refine q_iload dX5_eliminate_98 6 rfl ?_
      refine q_iadd dX5_eliminate_100 ?_
      refine M_ld rfl hf dX5_eliminate_101 (fun v101 hf => ?_)
      refine q_istore dX5_eliminate_102 rfl (loc' := [(7, vi v101), (0, .ref (ad 0)), (1, vi x1), (2, vi x2), (3, vi x3), (4, vi x4), (5, vi x5), (6, vi x6)]) rfl ?_
      refine q_aloadn dX5_eliminate_104 1 rfl ?_
      refine M_g5_12 flX5_34 dX5_eliminate_105 ?_
      refine q_bipush dX5_eliminate_108 (by decide) ?_
      refine q_iload dX5_eliminate_110 6 rfl ?_
      refine q_imul dX5_eliminate_112 ?_
      refine q_iload dX5_eliminate_113 7 rfl ?_
      refine q_iadd dX5_eliminate_115 ?_
      refine q_aloadn dX5_eliminate_116 1 rfl ?_
      refine M_g5_12 flX5_34 dX5_eliminate_117 ?_
      refine q_bipush dX5_eliminate_120 (by decide) ?_
      refine q_iloadn dX5_eliminate_122 4 rfl ?_
      refine q_imul dX5_eliminate_123 ?_
      refine q_iload dX5_eliminate_124 7 rfl ?_
      refine q_iadd dX5_eliminate_126 ?_
      refine M_ld rfl hf dX5_eliminate_127 (fun v127 hf => ?_)
      refine M_st rfl hf dX5_eliminate_128 (fun h128 hf => ?_)
      refine q_aloadn dX5_eliminate_129 1 rfl ?_
      refine M_g5_12 flX5_34 dX5_eliminate_130 ?_
      refine q_bipush dX5_eliminate_133 (by decide) ?_
      refine q_iloadn dX5_eliminate_135 4 rfl ?_
      refine q_imul dX5_eliminate_136 ?_
      refine q_iload dX5_eliminate_137 7 rfl ?_
      refine q_iadd dX5_eliminate_139 ?_
      refine q_iload dX5_eliminate_140 0 rfl ?_
      refine M_st rfl hf dX5_eliminate_142 (fun h142 hf => ?_)
      refine q_iinc dX5_eliminate_143 7 rfl rfl (loc' := [(6, vi (x6 + 1)), (7, vi v101), (0, .ref (ad 0)), (1, vi x1), (2, vi x2), (3, vi x3), (4, vi x4), (5, vi x5)]) rfl ?_
      refine q_goto dX5_eliminate_146 83 (by decide) ?_
      refine q_loc (loc' := [(0, .ref (ad 0)), (1, vi x1), (2, vi x2), (3, vi x3), (4, vi x4), (5, vi x5), (6, vi (x6 + 1))]) [2, 3, 4, 5, 6, 7, 0] rfl ?_
      exact ih x1 x2 x3 x4 x5 (x6 + 1) h142 hf
def jX5_eliminate_47 (k10 : Int → Int → Int → Int → HP → Option (Int × HP)) (x1 : Int) (x2 : Int) (x3 : Int) (x4 : Int) (x5 : Int) (h : HP) : Option (Int × HP) :=
  if wi x5 = wi x1 then (pf h 0 13 0 fun h55 => k10 x1 x2 x3 (x4 + 1) h55) else (if wi x5 = wi x3 then (jX5_eliminate_149 k10 x1 x2 x3 x4 h) else (cl (fX5_mod (wi (-(h 0 13))) h) fun r74 h74 => pf h74 0 13 r74 fun h77 => LX5_eliminate_83 k10 FU x1 x2 x3 x4 x5 0 h77))
set_option maxRecDepth 20000 in
theorem tX5_eliminate_47 {l : Launch} {D : va_G} {ad : Nat → Nat} {cI : ClassId} {Z : Int × HP} {k10 : Int → Int → Int → Int → HP → Option (Int × HP)} (hk10 : ∀ (x1 : Int) (x2 : Int) (x3 : Int) (x4 : Int) (h : HP), k10 x1 x2 x3 x4 h = some Z → Rn (sdM l D ad cI) mX5_eliminate (ri Z) 10 [(0, .ref (ad 0)), (1, vi x1), (2, vi x2), (3, vi x3), (4, vi x4)] [] h) (x1 : Int) (x2 : Int) (x3 : Int) (x4 : Int) (x5 : Int) (h : HP) (hf : jX5_eliminate_47 k10 x1 x2 x3 x4 x5 h = some Z) : Rn (sdM l D ad cI) mX5_eliminate (ri Z) 47 [(0, .ref (ad 0)), (1, vi x1), (2, vi x2), (3, vi x3), (4, vi x4), (5, vi x5)] [] h := by
  unfold jX5_eliminate_47 at hf
  refine q_iload dX5_eliminate_47 5 rfl ?_
  refine q_iloadn dX5_eliminate_49 1 rfl ?_
  refine q_icmp_ne hf dX5_eliminate_50 61 (by decide) (fun hf => ?_) (fun hf => ?_)
  · refine q_iload dX5_eliminate_61 5 rfl ?_
    refine q_iloadn dX5_eliminate_63 3 rfl ?_
    refine q_icmp_eq hf dX5_eliminate_64 149 (by decide) (fun hf => ?_) (fun hf => ?_)
    · refine q_loc (loc' := [(0, .ref (ad 0)), (1, vi x1), (2, vi x2), (3, vi x3), (4, vi x4)]) [0, 1, 2, 3, 4] rfl ?_
      exact tX5_eliminate_149 hk10 x1 x2 x3 x4 h hf
    · refine q_aloadn dX5_eliminate_67 0 rfl ?_
      refine q_aloadn dX5_eliminate_68 0 rfl ?_
      refine M_g5_13 flX5_149 dX5_eliminate_69 ?_
      refine q_ineg dX5_eliminate_72 ?_
      refine q_i2l dX5_eliminate_73 ?_
      obtain ⟨r74, h74, e74, hf⟩ := q_cl hf
      refine q_cSi (av := [vl (wi (-(h 0 13)))]) (rest := [.ref (ad 0)]) (ctX5_mod e74) kX5_mod uX5_mod lkX5_48 rfl rfl rfl dX5_eliminate_74 ?_
      refine M_p5_13 hf flX5_149 dX5_eliminate_77 (fun h77 hf => ?_)
      refine q_iconst dX5_eliminate_80 ?_
      refine q_istore dX5_eliminate_81 rfl (loc' := [(6, vi 0), (0, .ref (ad 0)), (1, vi x1), (2, vi x2), (3, vi x3), (4, vi x4), (5, vi x5)]) rfl ?_
      refine q_loc (loc' := [(0, .ref (ad 0)), (1, vi x1), (2, vi x2), (3, vi x3), (4, vi x4), (5, vi x5), (6, vi 0)]) [1, 2, 3, 4, 5, 6, 0] rfl ?_
      exact tX5_eliminate_83 hk10 FU x1 x2 x3 x4 x5 0 h77 hf
  · refine q_aloadn dX5_eliminate_53 0 rfl ?_
    refine q_iconst dX5_eliminate_54 ?_
    refine M_p5_13 hf flX5_149 dX5_eliminate_55 (fun h55 hf => ?_)
    refine q_goto dX5_eliminate_58 298 (by decide) ?_
    refine q_iinc dX5_eliminate_298 4 rfl rfl (loc' := [(4, vi (x4 + 1)), (0, .ref (ad 0)), (1, vi x1), (2, vi x2), (3, vi x3), (5, vi x5)]) rfl ?_
    refine q_goto dX5_eliminate_301 10 (by decide) ?_
    refine q_loc (loc' := [(0, .ref (ad 0)), (1, vi x1), (2, vi x2), (3, vi x3), (4, vi (x4 + 1))]) [1, 2, 3, 4, 0] rfl ?_
    exact hk10 x1 x2 x3 (x4 + 1) h55 hf
def bX5_eliminate_19 (k10 : Int → Int → Int → Int → HP → Option (Int × HP)) (self : Int → Int → Int → Int → Int → HP → Option (Int × HP)) (x1 : Int) (x2 : Int) (x3 : Int) (x4 : Int) (x5 : Int) (h : HP) : Option (Int × HP) :=
  if wi x5 < wi x1 then (ld (lnM 9) (h 9) ((18 * x5) + x4) fun v37 => if wi v37 = 0 then (self x1 x2 x3 x4 (x5 + 1) h) else (jX5_eliminate_47 k10 x1 x2 x3 x4 x5 h)) else (jX5_eliminate_47 k10 x1 x2 x3 x4 x5 h)
def LX5_eliminate_19 (k10 : Int → Int → Int → Int → HP → Option (Int × HP)) : Nat → Int → Int → Int → Int → Int → HP → Option (Int × HP)
  | 0 => fun _ _ _ _ _ _ => none
  | n + 1 => bX5_eliminate_19 k10 (LX5_eliminate_19 k10 n)
set_option maxRecDepth 20000 in
theorem tX5_eliminate_19 {l : Launch} {D : va_G} {ad : Nat → Nat} {cI : ClassId} {Z : Int × HP} {k10 : Int → Int → Int → Int → HP → Option (Int × HP)} (hk10 : ∀ (x1 : Int) (x2 : Int) (x3 : Int) (x4 : Int) (h : HP), k10 x1 x2 x3 x4 h = some Z → Rn (sdM l D ad cI) mX5_eliminate (ri Z) 10 [(0, .ref (ad 0)), (1, vi x1), (2, vi x2), (3, vi x3), (4, vi x4)] [] h) : ∀ (n : Nat) (x1 : Int) (x2 : Int) (x3 : Int) (x4 : Int) (x5 : Int) (h : HP), LX5_eliminate_19 k10 n x1 x2 x3 x4 x5 h = some Z → Rn (sdM l D ad cI) mX5_eliminate (ri Z) 19 [(0, .ref (ad 0)), (1, vi x1), (2, vi x2), (3, vi x3), (4, vi x4), (5, vi x5)] [] h := by
  intro n
  induction n with
  | zero => intro x1 x2 x3 x4 x5 h hf; cases hf
  | succ n ih =>
    intro x1 x2 x3 x4 x5 h hf
    replace hf : bX5_eliminate_19 k10 (LX5_eliminate_19 k10 n) x1 x2 x3 x4 x5 h = some Z := hf
    unfold bX5_eliminate_19 at hf
    refine q_iload dX5_eliminate_19 5 rfl ?_
    refine q_iloadn dX5_eliminate_21 1 rfl ?_
    refine q_icmp_ge hf dX5_eliminate_22 47 (by decide) (fun hf => ?_) (fun hf => ?_)
    · refine q_loc (loc' := [(0, .ref (ad 0)), (1, vi x1), (2, vi x2), (3, vi x3), (4, vi x4), (5, vi x5)]) [0, 1, 2, 3, 4, 5] rfl ?_
      exact tX5_eliminate_47 hk10 x1 x2 x3 x4 x5 h hf
    · refine q_aloadn dX5_eliminate_25 0 rfl ?_
      refine M_g5_12 flX5_34 dX5_eliminate_26 ?_
      refine q_bipush dX5_eliminate_29 (by decide) ?_
      refine q_iload dX5_eliminate_31 5 rfl ?_
      refine q_imul dX5_eliminate_33 ?_
      refine q_iload dX5_eliminate_34 4 rfl ?_
      refine q_iadd dX5_eliminate_36 ?_
      refine M_ld rfl hf dX5_eliminate_37 (fun v37 hf => ?_)
      refine q_if_ne hf dX5_eliminate_38 47 (by decide) (fun hf => ?_) (fun hf => ?_)
      · refine q_loc (loc' := [(0, .ref (ad 0)), (1, vi x1), (2, vi x2), (3, vi x3), (4, vi x4), (5, vi x5)]) [0, 1, 2, 3, 4, 5] rfl ?_
        exact tX5_eliminate_47 hk10 x1 x2 x3 x4 x5 h hf
      · refine q_iinc dX5_eliminate_41 5 rfl rfl (loc' := [(5, vi (x5 + 1)), (0, .ref (ad 0)), (1, vi x1), (2, vi x2), (3, vi x3), (4, vi x4)]) rfl ?_
        refine q_goto dX5_eliminate_44 19 (by decide) ?_
        refine q_loc (loc' := [(0, .ref (ad 0)), (1, vi x1), (2, vi x2), (3, vi x3), (4, vi x4), (5, vi (x5 + 1))]) [1, 2, 3, 4, 5, 0] rfl ?_
        exact ih x1 x2 x3 x4 (x5 + 1) h hf
def bX5_eliminate_10 (self : Int → Int → Int → Int → HP → Option (Int × HP)) (x1 : Int) (x2 : Int) (x3 : Int) (x4 : Int) (h : HP) : Option (Int × HP) :=
  if wi x4 < wi x2 then (LX5_eliminate_19 self FU x1 x2 x3 x4 x3 h) else (some (x3, h))
def LX5_eliminate_10 : Nat → Int → Int → Int → Int → HP → Option (Int × HP)
  | 0 => fun _ _ _ _ _ => none
  | n + 1 => bX5_eliminate_10 (LX5_eliminate_10 n)
set_option maxRecDepth 20000 in
theorem tX5_eliminate_10 {l : Launch} {D : va_G} {ad : Nat → Nat} {cI : ClassId} {Z : Int × HP} : ∀ (n : Nat) (x1 : Int) (x2 : Int) (x3 : Int) (x4 : Int) (h : HP), LX5_eliminate_10 n x1 x2 x3 x4 h = some Z → Rn (sdM l D ad cI) mX5_eliminate (ri Z) 10 [(0, .ref (ad 0)), (1, vi x1), (2, vi x2), (3, vi x3), (4, vi x4)] [] h := by
  intro n
  induction n with
  | zero => intro x1 x2 x3 x4 h hf; cases hf
  | succ n ih =>
    intro x1 x2 x3 x4 h hf
    replace hf : bX5_eliminate_10 (LX5_eliminate_10 n) x1 x2 x3 x4 h = some Z := hf
    unfold bX5_eliminate_10 at hf
    refine q_iload dX5_eliminate_10 4 rfl ?_
    refine q_iloadn dX5_eliminate_12 2 rfl ?_
    refine q_icmp_ge hf dX5_eliminate_13 304 (by decide) (fun hf => ?_) (fun hf => ?_)
    · refine q_iloadn dX5_eliminate_304 3 rfl ?_
      exact q_iret hf rfl dX5_eliminate_305
    · refine q_iloadn dX5_eliminate_16 3 rfl ?_
      refine q_istore dX5_eliminate_17 rfl (loc' := [(5, vi x3), (0, .ref (ad 0)), (1, vi x1), (2, vi x2), (3, vi x3), (4, vi x4)]) rfl ?_
      refine q_loc (loc' := [(0, .ref (ad 0)), (1, vi x1), (2, vi x2), (3, vi x3), (4, vi x4), (5, vi x3)]) [1, 2, 3, 4, 5, 0] rfl ?_
      exact tX5_eliminate_19 ih FU x1 x2 x3 x4 x3 h hf
def fX5_eliminate (x1 : Int) (x2 : Int) (h : HP) : Option (Int × HP) :=
  pf h 0 13 1 fun h2 => LX5_eliminate_10 FU x1 x2 0 0 h2
set_option maxRecDepth 20000 in
theorem ctX5_eliminate {l : Launch} {D : va_G} {ad : Nat → Nat} {cI : ClassId} {x1 : Int} {x2 : Int} {h : HP} {Z : Int × HP} (hf : fX5_eliminate x1 x2 h = some Z) : Ct (sdM l D ad cI) mX5_eliminate [.ref (ad 0), vi x1, vi x2] h (ri Z) := by
  refine Ct.ofF nX5_eliminate rfl (loc := [(0, .ref (ad 0)), (1, vi x1), (2, vi x2)]) rfl ?_
  unfold fX5_eliminate at hf
  refine q_aloadn dX5_eliminate_0 0 rfl ?_
  refine q_iconst dX5_eliminate_1 ?_
  refine M_p5_13 hf flX5_149 dX5_eliminate_2 (fun h2 hf => ?_)
  refine q_iconst dX5_eliminate_5 ?_
  refine q_istoren dX5_eliminate_6 rfl (loc' := [(3, vi 0), (0, .ref (ad 0)), (1, vi x1), (2, vi x2)]) rfl ?_
  refine q_iconst dX5_eliminate_7 ?_
  refine q_istore dX5_eliminate_8 rfl (loc' := [(4, vi 0), (3, vi 0), (0, .ref (ad 0)), (1, vi x1), (2, vi x2)]) rfl ?_
  refine q_loc (loc' := [(0, .ref (ad 0)), (1, vi x1), (2, vi x2), (3, vi 0), (4, vi 0)]) [2, 3, 4, 1, 0] rfl ?_
  exact tX5_eliminate_10 FU x1 x2 0 0 h2 hf
def jX5_result_105 (k71 : Int → Int → Int → HP → Option (Int × HP)) (x4 : Int) (x5 : Int) (x6 : Int) (s0 : Int) (h : HP) : Option (Int × HP) :=
  if wi s0 < 0 then (sto (lnM 9) h 9 ((18 * x5) + x6) 0 fun h180 => k71 x4 x5 (x6 + 1) h180) else (if wi x5 < wi (h 0 8) then (if wi s0 ≤ wi (h 0 6) then (ld (lnM 5) (h 5) s0 fun v152 => sto (lnM 9) h 9 ((18 * x5) + x6) v152 fun h180 => k71 x4 x5 (x6 + 1) h180) else (sto (lnM 9) h 9 ((18 * x5) + x6) 0 fun h180 => k71 x4 x5 (x6 + 1) h180)) else (if wi s0 ≤ wi (h 0 8) then (ld (lnM 6) (h 6) s0 fun v175 => sto (lnM 9) h 9 ((18 * x5) + x6) v175 fun h180 => k71 x4 x5 (x6 + 1) h180) else (sto (lnM 9) h 9 ((18 * x5) + x6) 0 fun h180 => k71 x4 x5 (x6 + 1) h180)))
set_option maxRecDepth 20000 in
theorem tX5_result_105 {l : Launch} {D : va_G} {ad : Nat → Nat} {cI : ClassId} {Z : Int × HP} {k71 : Int → Int → Int → HP → Option (Int × HP)} (hk71 : ∀ (x4 : Int) (x5 : Int) (x6 : Int) (h : HP), k71 x4 x5 x6 h = some Z → Rn (sdM l D ad cI) mX5_result (ri Z) 71 [(0, .ref (ad 0)), (4, vi x4), (5, vi x5), (6, vi x6)] [] h) (x4 : Int) (x5 : Int) (x6 : Int) (s0 : Int) (h : HP) (hf : jX5_result_105 k71 x4 x5 x6 s0 h = some Z) : Rn (sdM l D ad cI) mX5_result (ri Z) 105 [(0, .ref (ad 0)), (4, vi x4), (5, vi x5), (6, vi x6)] [vi s0] h := by
  unfold jX5_result_105 at hf
  refine q_istore dX5_result_105 rfl (loc' := [(7, vi s0), (0, .ref (ad 0)), (4, vi x4), (5, vi x5), (6, vi x6)]) rfl ?_
  refine q_aloadn dX5_result_107 1 rfl ?_
  refine M_g5_12 flX5_34 dX5_result_108 ?_
  refine q_bipush dX5_result_111 (by decide) ?_
  refine q_iload dX5_result_113 3 rfl ?_
  refine q_imul dX5_result_115 ?_
  refine q_iload dX5_result_116 4 rfl ?_
  refine q_iadd dX5_result_118 ?_
  refine q_iload dX5_result_119 0 rfl ?_
  refine q_if_ge hf dX5_result_121 128 (by decide) (fun hf => ?_) (fun hf => ?_)
  · refine q_iload dX5_result_128 3 rfl ?_
    refine q_aloadn dX5_result_130 1 rfl ?_
    refine M_g5_8 flX5_84 dX5_result_131 ?_
    refine q_icmp_ge hf dX5_result_134 160 (by decide) (fun hf => ?_) (fun hf => ?_)
    · refine q_iload dX5_result_160 0 rfl ?_
      refine q_aloadn dX5_result_162 1 rfl ?_
      refine M_g5_8 flX5_84 dX5_result_163 ?_
      refine q_icmp_gt hf dX5_result_166 179 (by decide) (fun hf => ?_) (fun hf => ?_)
      · refine q_iconst dX5_result_179 ?_
        refine M_st rfl hf dX5_result_180 (fun h180 hf => ?_)
        refine q_iinc dX5_result_181 4 rfl rfl (loc' := [(6, vi (x6 + 1)), (7, vi s0), (0, .ref (ad 0)), (4, vi x4), (5, vi x5)]) rfl ?_
        refine q_goto dX5_result_184 71 (by decide) ?_
        refine q_loc (loc' := [(0, .ref (ad 0)), (4, vi x4), (5, vi x5), (6, vi (x6 + 1))]) [2, 3, 4, 0] rfl ?_
        exact hk71 x4 x5 (x6 + 1) h180 hf
      · refine q_aloadn dX5_result_169 1 rfl ?_
        refine M_g5_7 flX5_25 dX5_result_170 ?_
        refine q_iload dX5_result_173 0 rfl ?_
        refine M_ld rfl hf dX5_result_175 (fun v175 hf => ?_)
        refine q_goto dX5_result_176 180 (by decide) ?_
        refine M_st rfl hf dX5_result_180 (fun h180 hf => ?_)
        refine q_iinc dX5_result_181 4 rfl rfl (loc' := [(6, vi (x6 + 1)), (7, vi s0), (0, .ref (ad 0)), (4, vi x4), (5, vi x5)]) rfl ?_
        refine q_goto dX5_result_184 71 (by decide) ?_
        refine q_loc (loc' := [(0, .ref (ad 0)), (4, vi x4), (5, vi x5), (6, vi (x6 + 1))]) [2, 3, 4, 0] rfl ?_
        exact hk71 x4 x5 (x6 + 1) h180 hf
    · refine q_iload dX5_result_137 0 rfl ?_
      refine q_aloadn dX5_result_139 1 rfl ?_
      refine M_g5_6 flX5_81 dX5_result_140 ?_
      refine q_icmp_gt hf dX5_result_143 156 (by decide) (fun hf => ?_) (fun hf => ?_)
      · refine q_iconst dX5_result_156 ?_
        refine q_goto dX5_result_157 180 (by decide) ?_
        refine M_st rfl hf dX5_result_180 (fun h180 hf => ?_)
        refine q_iinc dX5_result_181 4 rfl rfl (loc' := [(6, vi (x6 + 1)), (7, vi s0), (0, .ref (ad 0)), (4, vi x4), (5, vi x5)]) rfl ?_
        refine q_goto dX5_result_184 71 (by decide) ?_
        refine q_loc (loc' := [(0, .ref (ad 0)), (4, vi x4), (5, vi x5), (6, vi (x6 + 1))]) [2, 3, 4, 0] rfl ?_
        exact hk71 x4 x5 (x6 + 1) h180 hf
      · refine q_aloadn dX5_result_146 1 rfl ?_
        refine M_g5_5 flX5_22 dX5_result_147 ?_
        refine q_iload dX5_result_150 0 rfl ?_
        refine M_ld rfl hf dX5_result_152 (fun v152 hf => ?_)
        refine q_goto dX5_result_153 180 (by decide) ?_
        refine M_st rfl hf dX5_result_180 (fun h180 hf => ?_)
        refine q_iinc dX5_result_181 4 rfl rfl (loc' := [(6, vi (x6 + 1)), (7, vi s0), (0, .ref (ad 0)), (4, vi x4), (5, vi x5)]) rfl ?_
        refine q_goto dX5_result_184 71 (by decide) ?_
        refine q_loc (loc' := [(0, .ref (ad 0)), (4, vi x4), (5, vi x5), (6, vi (x6 + 1))]) [2, 3, 4, 0] rfl ?_
        exact hk71 x4 x5 (x6 + 1) h180 hf
  · refine q_iconst dX5_result_124 ?_
    refine q_goto dX5_result_125 180 (by decide) ?_
    refine M_st rfl hf dX5_result_180 (fun h180 hf => ?_)
    refine q_iinc dX5_result_181 4 rfl rfl (loc' := [(6, vi (x6 + 1)), (7, vi s0), (0, .ref (ad 0)), (4, vi x4), (5, vi x5)]) rfl ?_
    refine q_goto dX5_result_184 71 (by decide) ?_
    refine q_loc (loc' := [(0, .ref (ad 0)), (4, vi x4), (5, vi x5), (6, vi (x6 + 1))]) [2, 3, 4, 0] rfl ?_
    exact hk71 x4 x5 (x6 + 1) h180 hf
def bX5_result_71 (k61 : Int → Int → HP → Option (Int × HP)) (self : Int → Int → Int → HP → Option (Int × HP)) (x4 : Int) (x5 : Int) (x6 : Int) (h : HP) : Option (Int × HP) :=
  if wi x6 < wi x4 then (if wi x5 < wi (h 0 8) then (jX5_result_105 self x4 x5 x6 (x6 - x5) h) else (jX5_result_105 self x4 x5 x6 (x6 - (x5 - (h 0 8))) h)) else (k61 x4 (x5 + 1) h)
def LX5_result_71 (k61 : Int → Int → HP → Option (Int × HP)) : Nat → Int → Int → Int → HP → Option (Int × HP)
  | 0 => fun _ _ _ _ => none
  | n + 1 => bX5_result_71 k61 (LX5_result_71 k61 n)
set_option maxRecDepth 20000 in
theorem tX5_result_71 {l : Launch} {D : va_G} {ad : Nat → Nat} {cI : ClassId} {Z : Int × HP} {k61 : Int → Int → HP → Option (Int × HP)} (hk61 : ∀ (x4 : Int) (x5 : Int) (h : HP), k61 x4 x5 h = some Z → Rn (sdM l D ad cI) mX5_result (ri Z) 61 [(0, .ref (ad 0)), (4, vi x4), (5, vi x5)] [] h) : ∀ (n : Nat) (x4 : Int) (x5 : Int) (x6 : Int) (h : HP), LX5_result_71 k61 n x4 x5 x6 h = some Z → Rn (sdM l D ad cI) mX5_result (ri Z) 71 [(0, .ref (ad 0)), (4, vi x4), (5, vi x5), (6, vi x6)] [] h := by
  intro n
  induction n with
  | zero => intro x4 x5 x6 h hf; cases hf
  | succ n ih =>
    intro x4 x5 x6 h hf
    replace hf : bX5_result_71 k61 (LX5_result_71 k61 n) x4 x5 x6 h = some Z := hf
    unfold bX5_result_71 at hf
    refine q_iload dX5_result_71 3 rfl ?_
    refine q_iload dX5_result_73 1 rfl ?_
    refine q_icmp_ge hf dX5_result_75 187 (by decide) (fun hf => ?_) (fun hf => ?_)
    · refine q_iinc dX5_result_187 2 rfl rfl (loc' := [(5, vi (x5 + 1)), (0, .ref (ad 0)), (4, vi x4), (6, vi x6)]) rfl ?_
      refine q_goto dX5_result_190 61 (by decide) ?_
      refine q_loc (loc' := [(0, .ref (ad 0)), (4, vi x4), (5, vi (x5 + 1))]) [1, 2, 0] rfl ?_
      exact hk61 x4 (x5 + 1) h hf
    · refine q_iload dX5_result_78 2 rfl ?_
      refine q_aloadn dX5_result_80 0 rfl ?_
      refine M_g5_8 flX5_84 dX5_result_81 ?_
      refine q_icmp_ge hf dX5_result_84 95 (by decide) (fun hf => ?_) (fun hf => ?_)
      · refine q_iload dX5_result_95 3 rfl ?_
        refine q_iload dX5_result_97 2 rfl ?_
        refine q_aloadn dX5_result_99 0 rfl ?_
        refine M_g5_8 flX5_84 dX5_result_100 ?_
        refine q_isub dX5_result_103 ?_
        refine q_isub dX5_result_104 ?_
        refine q_loc (loc' := [(0, .ref (ad 0)), (4, vi x4), (5, vi x5), (6, vi x6)]) [0, 1, 2, 3] rfl ?_
        exact tX5_result_105 ih x4 x5 x6 (x6 - (x5 - (h 0 8))) h hf
      · refine q_iload dX5_result_87 3 rfl ?_
        refine q_iload dX5_result_89 2 rfl ?_
        refine q_isub dX5_result_91 ?_
        refine q_goto dX5_result_92 105 (by decide) ?_
        refine q_loc (loc' := [(0, .ref (ad 0)), (4, vi x4), (5, vi x5), (6, vi x6)]) [0, 1, 2, 3] rfl ?_
        exact tX5_result_105 ih x4 x5 x6 (x6 - x5) h hf
def bX5_result_61 (self : Int → Int → HP → Option (Int × HP)) (x4 : Int) (x5 : Int) (h : HP) : Option (Int × HP) :=
  if wi x5 < wi x4 then (LX5_result_71 self FU x4 x5 0 h) else (cl (fX5_eliminate x4 x4 h) fun r198 h198 => some (h198 0 13, h198))
def LX5_result_61 : Nat → Int → Int → HP → Option (Int × HP)
  | 0 => fun _ _ _ => none
  | n + 1 => bX5_result_61 (LX5_result_61 n)
set_option maxRecDepth 20000 in
theorem tX5_result_61 {l : Launch} {D : va_G} {ad : Nat → Nat} {cI : ClassId} {Z : Int × HP} : ∀ (n : Nat) (x4 : Int) (x5 : Int) (h : HP), LX5_result_61 n x4 x5 h = some Z → Rn (sdM l D ad cI) mX5_result (ri Z) 61 [(0, .ref (ad 0)), (4, vi x4), (5, vi x5)] [] h := by
  intro n
  induction n with
  | zero => intro x4 x5 h hf; cases hf
  | succ n ih =>
    intro x4 x5 h hf
    replace hf : bX5_result_61 (LX5_result_61 n) x4 x5 h = some Z := hf
    unfold bX5_result_61 at hf
    refine q_iload dX5_result_61 2 rfl ?_
    refine q_iload dX5_result_63 1 rfl ?_
    refine q_icmp_ge hf dX5_result_65 193 (by decide) (fun hf => ?_) (fun hf => ?_)
    · refine q_aloadn dX5_result_193 0 rfl ?_
      refine q_iload dX5_result_194 1 rfl ?_
      refine q_iload dX5_result_196 1 rfl ?_
      obtain ⟨r198, h198, e198, hf⟩ := q_cl hf
      refine q_cVi (av := [vi x4, vi x4]) (rest := []) wM_0 (ctX5_eliminate e198) kX5_eliminate vX5_eliminate zX5_eliminate lkX5_152 rfl rfl rfl rfl rfl dX5_result_198 ?_
      refine q_istore dX5_result_201 rfl (loc' := [(5, vi r198), (0, .ref (ad 0)), (4, vi x4)]) rfl ?_
      refine q_aloadn dX5_result_203 1 rfl ?_
      refine M_g5_13 flX5_149 dX5_result_204 ?_
      exact q_iret hf rfl dX5_result_207
    · refine q_iconst dX5_result_68 ?_
      refine q_istore dX5_result_69 rfl (loc' := [(6, vi 0), (0, .ref (ad 0)), (4, vi x4), (5, vi x5)]) rfl ?_
      refine q_loc (loc' := [(0, .ref (ad 0)), (4, vi x4), (5, vi x5), (6, vi 0)]) [1, 2, 3, 0] rfl ?_
      exact tX5_result_71 ih FU x4 x5 0 h hf
def fX5_result (x1 : Int) (x2 : Int) (h : HP) : Option (Int × HP) :=
  cl (fX5_isSheet x1 h) fun r1 h1 => if wi r1 = 0 then (some ((-2), h1)) else (cl (fX5_isSheet x2 h1) fun r8 h8 => if wi r8 = 0 then (some ((-2), h8)) else (cl (fX5_lacksTwo x1 x2 h8) fun r20 h20 => if wi r20 = 0 then (if wi (h20 0 6) = 0 then (some ((-3), h20)) else (if wi (h20 0 8) = 0 then (some ((-3), h20)) else (lt ((h20 0 6) + (h20 0 8)) fun x4_56 => LX5_result_61 FU x4_56 0 h20))) else (some (r20, h20))))
set_option maxRecDepth 20000 in
theorem ctX5_result {l : Launch} {D : va_G} {ad : Nat → Nat} {cI : ClassId} {x1 : Int} {x2 : Int} {h : HP} {Z : Int × HP} (hf : fX5_result x1 x2 h = some Z) : Ct (sdM l D ad cI) mX5_result [.ref (ad 0), vi x1, vi x2] h (ri Z) := by
  refine Ct.ofF nX5_result rfl (loc := [(0, .ref (ad 0)), (1, vi x1), (2, vi x2)]) rfl ?_
  unfold fX5_result at hf
  refine q_iloadn dX5_result_0 1 rfl ?_
  obtain ⟨r1, h1, e1, hf⟩ := q_cl hf
  refine q_cSi (av := [vi x1]) (rest := []) (ctX5_isSheet e1) kX5_isSheet uX5_isSheet lkX5_66 rfl rfl rfl dX5_result_1 ?_
  refine q_if_eq hf dX5_result_4 14 (by decide) (fun hf => ?_) (fun hf => ?_)
  · refine q_bipush dX5_result_14 (by decide) ?_
    exact q_iret hf rfl dX5_result_16
  · refine q_iloadn dX5_result_7 2 rfl ?_
    obtain ⟨r8, h8, e8, hf⟩ := q_cl hf
    refine q_cSi (av := [vi x2]) (rest := []) (ctX5_isSheet e8) kX5_isSheet uX5_isSheet lkX5_66 rfl rfl rfl dX5_result_8 ?_
    refine q_if_ne hf dX5_result_11 17 (by decide) (fun hf => ?_) (fun hf => ?_)
    · refine q_aloadn dX5_result_17 0 rfl ?_
      refine q_iloadn dX5_result_18 1 rfl ?_
      refine q_iloadn dX5_result_19 2 rfl ?_
      obtain ⟨r20, h20, e20, hf⟩ := q_cl hf
      refine q_cVi (av := [vi x1, vi x2]) (rest := []) wM_0 (ctX5_lacksTwo e20) kX5_lacksTwo vX5_lacksTwo zX5_lacksTwo lkX5_110 rfl rfl rfl rfl rfl dX5_result_20 ?_
      refine q_istoren dX5_result_23 rfl (loc' := [(3, vi r20), (0, .ref (ad 0)), (1, vi x1), (2, vi x2)]) rfl ?_
      refine q_iloadn dX5_result_24 0 rfl ?_
      refine q_if_eq hf dX5_result_25 30 (by decide) (fun hf => ?_) (fun hf => ?_)
      · refine q_aloadn dX5_result_30 1 rfl ?_
        refine M_g5_6 flX5_81 dX5_result_31 ?_
        refine q_if_eq hf dX5_result_34 44 (by decide) (fun hf => ?_) (fun hf => ?_)
        · refine q_bipush dX5_result_44 (by decide) ?_
          exact q_iret hf rfl dX5_result_46
        · refine q_aloadn dX5_result_37 1 rfl ?_
          refine M_g5_8 flX5_84 dX5_result_38 ?_
          refine q_if_ne hf dX5_result_41 47 (by decide) (fun hf => ?_) (fun hf => ?_)
          · refine q_aloadn dX5_result_47 1 rfl ?_
            refine M_g5_6 flX5_81 dX5_result_48 ?_
            refine q_aloadn dX5_result_51 1 rfl ?_
            refine M_g5_8 flX5_84 dX5_result_52 ?_
            refine q_iadd dX5_result_55 ?_
            refine q_lt hf (fun x4_56 hf => ?_)
            refine q_istore dX5_result_56 rfl (loc' := [(4, vi x4_56), (3, vi r20), (0, .ref (ad 0)), (1, vi x1), (2, vi x2)]) rfl ?_
            refine q_iconst dX5_result_58 ?_
            refine q_istore dX5_result_59 rfl (loc' := [(5, vi 0), (4, vi x4_56), (3, vi r20), (0, .ref (ad 0)), (1, vi x1), (2, vi x2)]) rfl ?_
            refine q_loc (loc' := [(0, .ref (ad 0)), (4, vi x4_56), (5, vi 0)]) [3, 1, 0] rfl ?_
            exact tX5_result_61 FU x4_56 0 h20 hf
          · refine q_bipush dX5_result_44 (by decide) ?_
            exact q_iret hf rfl dX5_result_46
      · refine q_iloadn dX5_result_28 0 rfl ?_
        exact q_iret hf rfl dX5_result_29
    · refine q_bipush dX5_result_14 (by decide) ?_
      exact q_iret hf rfl dX5_result_16
def bX5_raised_4 (self : Int → Int → Int → Int → HP → Option (Int × HP)) (x0 : Int) (x1 : Int) (x2 : Int) (x3 : Int) (h : HP) : Option (Int × HP) :=
  if wi x3 < wi x1 then (cl (fX5_times x2 x0 h) fun r11 h11 => self x0 x1 r11 (x3 + 1) h11) else (some (x2, h))
def LX5_raised_4 : Nat → Int → Int → Int → Int → HP → Option (Int × HP)
  | 0 => fun _ _ _ _ _ => none
  | n + 1 => bX5_raised_4 (LX5_raised_4 n)
set_option maxRecDepth 20000 in
theorem tX5_raised_4 {l : Launch} {D : va_G} {ad : Nat → Nat} {cI : ClassId} {Z : Int × HP} : ∀ (n : Nat) (x0 : Int) (x1 : Int) (x2 : Int) (x3 : Int) (h : HP), LX5_raised_4 n x0 x1 x2 x3 h = some Z → Rn (sdM l D ad cI) mX5_raised (ri Z) 4 [(0, vi x0), (1, vi x1), (2, vi x2), (3, vi x3)] [] h := by
  intro n
  induction n with
  | zero => intro x0 x1 x2 x3 h hf; cases hf
  | succ n ih =>
    intro x0 x1 x2 x3 h hf
    replace hf : bX5_raised_4 (LX5_raised_4 n) x0 x1 x2 x3 h = some Z := hf
    unfold bX5_raised_4 at hf
    refine q_iloadn dX5_raised_4 3 rfl ?_
    refine q_iloadn dX5_raised_5 1 rfl ?_
    refine q_icmp_ge hf dX5_raised_6 21 (by decide) (fun hf => ?_) (fun hf => ?_)
    · refine q_iloadn dX5_raised_21 2 rfl ?_
      exact q_iret hf rfl dX5_raised_22
    · refine q_iloadn dX5_raised_9 2 rfl ?_
      refine q_iloadn dX5_raised_10 0 rfl ?_
      obtain ⟨r11, h11, e11, hf⟩ := q_cl hf
      refine q_cSi (av := [vi x2, vi x0]) (rest := []) (ctX5_times e11) kX5_times uX5_times lkX5_52 rfl rfl rfl dX5_raised_11 ?_
      refine q_istoren dX5_raised_14 rfl (loc' := [(2, vi r11), (0, vi x0), (1, vi x1), (3, vi x3)]) rfl ?_
      refine q_iinc dX5_raised_15 3 rfl rfl (loc' := [(3, vi (x3 + 1)), (2, vi r11), (0, vi x0), (1, vi x1)]) rfl ?_
      refine q_goto dX5_raised_18 4 (by decide) ?_
      refine q_loc (loc' := [(0, vi x0), (1, vi x1), (2, vi r11), (3, vi (x3 + 1))]) [2, 3, 1, 0] rfl ?_
      exact ih x0 x1 r11 (x3 + 1) h11 hf
def fX5_raised (x0 : Int) (x1 : Int) (h : HP) : Option (Int × HP) :=
  LX5_raised_4 FU x0 x1 1 0 h
set_option maxRecDepth 20000 in
theorem ctX5_raised {l : Launch} {D : va_G} {ad : Nat → Nat} {cI : ClassId} {x0 : Int} {x1 : Int} {h : HP} {Z : Int × HP} (hf : fX5_raised x0 x1 h = some Z) : Ct (sdM l D ad cI) mX5_raised [vi x0, vi x1] h (ri Z) := by
  refine Ct.ofF nX5_raised rfl (loc := [(0, vi x0), (1, vi x1)]) rfl ?_
  unfold fX5_raised at hf
  refine q_iconst dX5_raised_0 ?_
  refine q_istoren dX5_raised_1 rfl (loc' := [(2, vi 1), (0, vi x0), (1, vi x1)]) rfl ?_
  refine q_iconst dX5_raised_2 ?_
  refine q_istoren dX5_raised_3 rfl (loc' := [(3, vi 0), (2, vi 1), (0, vi x0), (1, vi x1)]) rfl ?_
  refine q_loc (loc' := [(0, vi x0), (1, vi x1), (2, vi 1), (3, vi 0)]) [2, 3, 1, 0] rfl ?_
  exact tX5_raised_4 FU x0 x1 1 0 h hf
