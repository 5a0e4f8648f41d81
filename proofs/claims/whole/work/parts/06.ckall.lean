theorem ck_pieces {α : Type} {p : α → Bool} {n : Nat} : ∀ (K : Nat) (l : List α), l.length ≤ n * K → (∀ k, k < K → ((l.drop (n * k)).take n).all p = true) → l.all p = true
  | 0, l, hl, _ => by
    have : l = [] := List.eq_nil_of_length_eq_zero (by omega)
    subst this; rfl
  | K + 1, l, hl, h => by
    have h0 := h 0 (by omega)
    rw [Nat.mul_zero, List.drop_zero] at h0
    have h1 := ck_pieces (n := n) (p := p) K (l.drop n) (by rw [List.length_drop, Nat.mul_succ] at *; omega) (fun k hk => by
      have := h (k + 1) (by omega)
      rw [List.drop_drop]
      rwa [show n + n * k = n * (k + 1) by rw [Nat.mul_succ]; omega])
    rw [← List.take_append_drop n l, List.all_append, h0, h1]; rfl
set_option maxRecDepth 100000 in
theorem ck_296 : (l_296).all (ckE 296) = true := by
  refine ck_pieces (n := 40) 27 _ (by decide +kernel) (fun k hk => ?_)
  match k, hk with
  | 0, _ => exact cl_0
  | 1, _ => exact cl_1
  | 2, _ => exact cl_2
  | 3, _ => exact cl_3
  | 4, _ => exact cl_4
  | 5, _ => exact cl_5
  | 6, _ => exact cl_6
  | 7, _ => exact cl_7
  | 8, _ => exact cl_8
  | 9, _ => exact cl_9
  | 10, _ => exact cl_10
  | 11, _ => exact cl_11
  | 12, _ => exact cl_12
  | 13, _ => exact cl_13
  | 14, _ => exact cl_14
  | 15, _ => exact cl_15
  | 16, _ => exact cl_16
  | 17, _ => exact cl_17
  | 18, _ => exact cl_18
  | 19, _ => exact cl_19
  | 20, _ => exact cl_20
  | 21, _ => exact cl_21
  | 22, _ => exact cl_22
  | 23, _ => exact cl_23
  | 24, _ => exact cl_24
  | 25, _ => exact cl_25
  | 26, _ => exact cl_26
  | k + 27, hk => exact absurd hk (by omega)
theorem ck_leaf {j : Nat} {l : List (Nat × aI × List Nat)} (h : l.all (ckE j) = true) (k : Nat) : ∀ q ∈ (bif Nat.beq k j then l else []), ckE k q = true := by
  intro q hq
  cases hk : Nat.beq k j with
  | true => rw [hk] at hq; rw [Nat.eq_of_beq_eq_true hk]; exact List.all_eq_true.mp h q hq
  | false => rw [hk] at hq; cases hq
theorem ck_node {k : Nat} {b : Bool} {x y : List (Nat × aI × List Nat)} (hx : ∀ q ∈ x, ckE k q = true) (hy : ∀ q ∈ y, ckE k q = true) : ∀ q ∈ (bif b then x else y), ckE k q = true := by
  cases b <;> assumption
set_option maxRecDepth 100000 in
theorem ck_all (k : Nat) : ∀ q ∈ pL k, ckE k q = true := by
  unfold pL
  exact (ck_node (ck_node (ck_node (ck_node (ck_node (ck_node (ck_node (ck_node (ck_leaf ck_0 k) (ck_leaf ck_1 k)) (ck_node (ck_leaf ck_2 k) (ck_leaf ck_3 k))) (ck_node (ck_node (ck_leaf ck_4 k) (ck_leaf ck_5 k)) (ck_node (ck_leaf ck_6 k) (ck_node (ck_leaf ck_7 k) (ck_leaf ck_8 k))))) (ck_node (ck_node (ck_node (ck_leaf ck_9 k) (ck_leaf ck_10 k)) (ck_node (ck_leaf ck_11 k) (ck_leaf ck_12 k))) (ck_node (ck_node (ck_leaf ck_13 k) (ck_leaf ck_14 k)) (ck_node (ck_leaf ck_15 k) (ck_node (ck_leaf ck_16 k) (ck_leaf ck_17 k)))))) (ck_node (ck_node (ck_node (ck_node (ck_leaf ck_18 k) (ck_leaf ck_19 k)) (ck_node (ck_leaf ck_20 k) (ck_leaf ck_21 k))) (ck_node (ck_node (ck_leaf ck_22 k) (ck_leaf ck_23 k)) (ck_node (ck_leaf ck_24 k) (ck_node (ck_leaf ck_25 k) (ck_leaf ck_26 k))))) (ck_node (ck_node (ck_node (ck_leaf ck_27 k) (ck_leaf ck_28 k)) (ck_node (ck_leaf ck_29 k) (ck_node (ck_leaf ck_30 k) (ck_leaf ck_31 k)))) (ck_node (ck_node (ck_leaf ck_32 k) (ck_leaf ck_33 k)) (ck_node (ck_leaf ck_34 k) (ck_node (ck_leaf ck_35 k) (ck_leaf ck_36 k))))))) (ck_node (ck_node (ck_node (ck_node (ck_node (ck_leaf ck_37 k) (ck_leaf ck_38 k)) (ck_node (ck_leaf ck_39 k) (ck_leaf ck_40 k))) (ck_node (ck_node (ck_leaf ck_41 k) (ck_leaf ck_42 k)) (ck_node (ck_leaf ck_43 k) (ck_node (ck_leaf ck_44 k) (ck_leaf ck_45 k))))) (ck_node (ck_node (ck_node (ck_leaf ck_46 k) (ck_leaf ck_47 k)) (ck_node (ck_leaf ck_48 k) (ck_leaf ck_49 k))) (ck_node (ck_node (ck_leaf ck_50 k) (ck_leaf ck_51 k)) (ck_node (ck_leaf ck_52 k) (ck_node (ck_leaf ck_53 k) (ck_leaf ck_54 k)))))) (ck_node (ck_node (ck_node (ck_node (ck_leaf ck_55 k) (ck_leaf ck_56 k)) (ck_node (ck_leaf ck_57 k) (ck_leaf ck_58 k))) (ck_node (ck_node (ck_leaf ck_59 k) (ck_leaf ck_60 k)) (ck_node (ck_leaf ck_61 k) (ck_node (ck_leaf ck_62 k) (ck_leaf ck_63 k))))) (ck_node (ck_node (ck_node (ck_leaf ck_64 k) (ck_leaf ck_65 k)) (ck_node (ck_leaf ck_66 k) (ck_node (ck_leaf ck_67 k) (ck_leaf ck_68 k)))) (ck_node (ck_node (ck_leaf ck_69 k) (ck_leaf ck_70 k)) (ck_node (ck_leaf ck_71 k) (ck_node (ck_leaf ck_72 k) (ck_leaf ck_73 k)))))))) (ck_node (ck_node (ck_node (ck_node (ck_node (ck_node (ck_leaf ck_74 k) (ck_leaf ck_75 k)) (ck_node (ck_leaf ck_76 k) (ck_leaf ck_77 k))) (ck_node (ck_node (ck_leaf ck_78 k) (ck_leaf ck_79 k)) (ck_node (ck_leaf ck_80 k) (ck_node (ck_leaf ck_81 k) (ck_leaf ck_82 k))))) (ck_node (ck_node (ck_node (ck_leaf ck_83 k) (ck_leaf ck_84 k)) (ck_node (ck_leaf ck_85 k) (ck_leaf ck_86 k))) (ck_node (ck_node (ck_leaf ck_87 k) (ck_leaf ck_88 k)) (ck_node (ck_leaf ck_89 k) (ck_node (ck_leaf ck_90 k) (ck_leaf ck_91 k)))))) (ck_node (ck_node (ck_node (ck_node (ck_leaf ck_92 k) (ck_leaf ck_93 k)) (ck_node (ck_leaf ck_94 k) (ck_leaf ck_95 k))) (ck_node (ck_node (ck_leaf ck_96 k) (ck_leaf ck_97 k)) (ck_node (ck_leaf ck_98 k) (ck_node (ck_leaf ck_99 k) (ck_leaf ck_100 k))))) (ck_node (ck_node (ck_node (ck_leaf ck_101 k) (ck_leaf ck_102 k)) (ck_node (ck_leaf ck_103 k) (ck_node (ck_leaf ck_104 k) (ck_leaf ck_105 k)))) (ck_node (ck_node (ck_leaf ck_106 k) (ck_leaf ck_107 k)) (ck_node (ck_leaf ck_108 k) (ck_node (ck_leaf ck_109 k) (ck_leaf ck_110 k))))))) (ck_node (ck_node (ck_node (ck_node (ck_node (ck_leaf ck_111 k) (ck_leaf ck_112 k)) (ck_node (ck_leaf ck_113 k) (ck_leaf ck_114 k))) (ck_node (ck_node (ck_leaf ck_115 k) (ck_leaf ck_116 k)) (ck_node (ck_leaf ck_117 k) (ck_node (ck_leaf ck_118 k) (ck_leaf ck_119 k))))) (ck_node (ck_node (ck_node (ck_leaf ck_120 k) (ck_leaf ck_121 k)) (ck_node (ck_leaf ck_122 k) (ck_leaf ck_123 k))) (ck_node (ck_node (ck_leaf ck_124 k) (ck_leaf ck_125 k)) (ck_node (ck_leaf ck_126 k) (ck_node (ck_leaf ck_127 k) (ck_leaf ck_128 k)))))) (ck_node (ck_node (ck_node (ck_node (ck_leaf ck_129 k) (ck_leaf ck_130 k)) (ck_node (ck_leaf ck_131 k) (ck_leaf ck_132 k))) (ck_node (ck_node (ck_leaf ck_133 k) (ck_leaf ck_134 k)) (ck_node (ck_leaf ck_135 k) (ck_node (ck_leaf ck_136 k) (ck_leaf ck_137 k))))) (ck_node (ck_node (ck_node (ck_leaf ck_138 k) (ck_leaf ck_139 k)) (ck_node (ck_leaf ck_140 k) (ck_node (ck_leaf ck_141 k) (ck_leaf ck_142 k)))) (ck_node (ck_node (ck_leaf ck_143 k) (ck_leaf ck_144 k)) (ck_node (ck_leaf ck_145 k) (ck_node (ck_leaf ck_146 k) (ck_leaf ck_147 k))))))))) (ck_node (ck_node (ck_node (ck_node (ck_node (ck_node (ck_node (ck_leaf ck_148 k) (ck_leaf ck_149 k)) (ck_node (ck_leaf ck_150 k) (ck_leaf ck_151 k))) (ck_node (ck_node (ck_leaf ck_152 k) (ck_leaf ck_153 k)) (ck_node (ck_leaf ck_154 k) (ck_node (ck_leaf ck_155 k) (ck_leaf ck_156 k))))) (ck_node (ck_node (ck_node (ck_leaf ck_157 k) (ck_leaf ck_158 k)) (ck_node (ck_leaf ck_159 k) (ck_leaf ck_160 k))) (ck_node (ck_node (ck_leaf ck_161 k) (ck_leaf ck_162 k)) (ck_node (ck_leaf ck_163 k) (ck_node (ck_leaf ck_164 k) (ck_leaf ck_165 k)))))) (ck_node (ck_node (ck_node (ck_node (ck_leaf ck_166 k) (ck_leaf ck_167 k)) (ck_node (ck_leaf ck_168 k) (ck_leaf ck_169 k))) (ck_node (ck_node (ck_leaf ck_170 k) (ck_leaf ck_171 k)) (ck_node (ck_leaf ck_172 k) (ck_node (ck_leaf ck_173 k) (ck_leaf ck_174 k))))) (ck_node (ck_node (ck_node (ck_leaf ck_175 k) (ck_leaf ck_176 k)) (ck_node (ck_leaf ck_177 k) (ck_node (ck_leaf ck_178 k) (ck_leaf ck_179 k)))) (ck_node (ck_node (ck_leaf ck_180 k) (ck_leaf ck_181 k)) (ck_node (ck_leaf ck_182 k) (ck_node (ck_leaf ck_183 k) (ck_leaf ck_184 k))))))) (ck_node (ck_node (ck_node (ck_node (ck_node (ck_leaf ck_185 k) (ck_leaf ck_186 k)) (ck_node (ck_leaf ck_187 k) (ck_leaf ck_188 k))) (ck_node (ck_node (ck_leaf ck_189 k) (ck_leaf ck_190 k)) (ck_node (ck_leaf ck_191 k) (ck_node (ck_leaf ck_192 k) (ck_leaf ck_193 k))))) (ck_node (ck_node (ck_node (ck_leaf ck_194 k) (ck_leaf ck_195 k)) (ck_node (ck_leaf ck_196 k) (ck_leaf ck_197 k))) (ck_node (ck_node (ck_leaf ck_198 k) (ck_leaf ck_199 k)) (ck_node (ck_leaf ck_200 k) (ck_node (ck_leaf ck_201 k) (ck_leaf ck_202 k)))))) (ck_node (ck_node (ck_node (ck_node (ck_leaf ck_203 k) (ck_leaf ck_204 k)) (ck_node (ck_leaf ck_205 k) (ck_leaf ck_206 k))) (ck_node (ck_node (ck_leaf ck_207 k) (ck_leaf ck_208 k)) (ck_node (ck_leaf ck_209 k) (ck_node (ck_leaf ck_210 k) (ck_leaf ck_211 k))))) (ck_node (ck_node (ck_node (ck_leaf ck_212 k) (ck_leaf ck_213 k)) (ck_node (ck_leaf ck_214 k) (ck_node (ck_leaf ck_215 k) (ck_leaf ck_216 k)))) (ck_node (ck_node (ck_leaf ck_217 k) (ck_leaf ck_218 k)) (ck_node (ck_leaf ck_219 k) (ck_node (ck_leaf ck_220 k) (ck_leaf ck_221 k)))))))) (ck_node (ck_node (ck_node (ck_node (ck_node (ck_node (ck_leaf ck_222 k) (ck_leaf ck_223 k)) (ck_node (ck_leaf ck_224 k) (ck_leaf ck_225 k))) (ck_node (ck_node (ck_leaf ck_226 k) (ck_leaf ck_227 k)) (ck_node (ck_leaf ck_228 k) (ck_node (ck_leaf ck_229 k) (ck_leaf ck_230 k))))) (ck_node (ck_node (ck_node (ck_leaf ck_231 k) (ck_leaf ck_232 k)) (ck_node (ck_leaf ck_233 k) (ck_leaf ck_234 k))) (ck_node (ck_node (ck_leaf ck_235 k) (ck_leaf ck_236 k)) (ck_node (ck_leaf ck_237 k) (ck_node (ck_leaf ck_238 k) (ck_leaf ck_239 k)))))) (ck_node (ck_node (ck_node (ck_node (ck_leaf ck_240 k) (ck_leaf ck_241 k)) (ck_node (ck_leaf ck_242 k) (ck_leaf ck_243 k))) (ck_node (ck_node (ck_leaf ck_244 k) (ck_leaf ck_245 k)) (ck_node (ck_leaf ck_246 k) (ck_node (ck_leaf ck_247 k) (ck_leaf ck_248 k))))) (ck_node (ck_node (ck_node (ck_leaf ck_249 k) (ck_leaf ck_250 k)) (ck_node (ck_leaf ck_251 k) (ck_node (ck_leaf ck_252 k) (ck_leaf ck_253 k)))) (ck_node (ck_node (ck_leaf ck_254 k) (ck_leaf ck_255 k)) (ck_node (ck_leaf ck_256 k) (ck_node (ck_leaf ck_257 k) (ck_leaf ck_258 k))))))) (ck_node (ck_node (ck_node (ck_node (ck_node (ck_leaf ck_259 k) (ck_leaf ck_260 k)) (ck_node (ck_leaf ck_261 k) (ck_leaf ck_262 k))) (ck_node (ck_node (ck_leaf ck_263 k) (ck_leaf ck_264 k)) (ck_node (ck_leaf ck_265 k) (ck_node (ck_leaf ck_266 k) (ck_leaf ck_267 k))))) (ck_node (ck_node (ck_node (ck_leaf ck_268 k) (ck_leaf ck_269 k)) (ck_node (ck_leaf ck_270 k) (ck_node (ck_leaf ck_271 k) (ck_leaf ck_272 k)))) (ck_node (ck_node (ck_leaf ck_273 k) (ck_leaf ck_274 k)) (ck_node (ck_leaf ck_275 k) (ck_node (ck_leaf ck_276 k) (ck_leaf ck_277 k)))))) (ck_node (ck_node (ck_node (ck_node (ck_leaf ck_278 k) (ck_leaf ck_279 k)) (ck_node (ck_leaf ck_280 k) (ck_leaf ck_281 k))) (ck_node (ck_node (ck_leaf ck_282 k) (ck_leaf ck_283 k)) (ck_node (ck_leaf ck_284 k) (ck_node (ck_leaf ck_285 k) (ck_leaf ck_286 k))))) (ck_node (ck_node (ck_node (ck_leaf ck_287 k) (ck_leaf ck_288 k)) (ck_node (ck_leaf ck_289 k) (ck_node (ck_leaf ck_290 k) (ck_leaf ck_291 k)))) (ck_node (ck_node (ck_leaf ck_292 k) (ck_leaf ck_293 k)) (ck_node (ck_leaf ck_294 k) (ck_node (ck_leaf ck_295 k) (ck_leaf ck_296 k))))))))))
set_option maxRecDepth 100000 in
theorem cw_0 : lw_tbl[pW 0]? = some (.code (pY 0) (pB 0) (pM 0) (pR 0)) := rfl
set_option maxRecDepth 100000 in
theorem cw_1 : lw_tbl[pW 1]? = some (.code (pY 1) (pB 1) (pM 1) (pR 1)) := rfl
set_option maxRecDepth 100000 in
theorem cw_2 : lw_tbl[pW 2]? = some (.code (pY 2) (pB 2) (pM 2) (pR 2)) := rfl
set_option maxRecDepth 100000 in
theorem cw_3 : lw_tbl[pW 3]? = some (.code (pY 3) (pB 3) (pM 3) (pR 3)) := rfl
set_option maxRecDepth 100000 in
theorem cw_4 : lw_tbl[pW 4]? = some (.code (pY 4) (pB 4) (pM 4) (pR 4)) := rfl
set_option maxRecDepth 100000 in
theorem cw_5 : lw_tbl[pW 5]? = some (.code (pY 5) (pB 5) (pM 5) (pR 5)) := rfl
set_option maxRecDepth 100000 in
theorem cw_6 : lw_tbl[pW 6]? = some (.code (pY 6) (pB 6) (pM 6) (pR 6)) := rfl
set_option maxRecDepth 100000 in
theorem cw_7 : lw_tbl[pW 7]? = some (.code (pY 7) (pB 7) (pM 7) (pR 7)) := rfl
set_option maxRecDepth 100000 in
theorem cw_8 : lw_tbl[pW 8]? = some (.code (pY 8) (pB 8) (pM 8) (pR 8)) := rfl
set_option maxRecDepth 100000 in
theorem cw_9 : lw_tbl[pW 9]? = some (.code (pY 9) (pB 9) (pM 9) (pR 9)) := rfl
set_option maxRecDepth 100000 in
theorem cw_10 : lw_tbl[pW 10]? = some (.code (pY 10) (pB 10) (pM 10) (pR 10)) := rfl
set_option maxRecDepth 100000 in
theorem cw_11 : lw_tbl[pW 11]? = some (.code (pY 11) (pB 11) (pM 11) (pR 11)) := rfl
set_option maxRecDepth 100000 in
theorem cw_12 : lw_tbl[pW 12]? = some (.code (pY 12) (pB 12) (pM 12) (pR 12)) := rfl
set_option maxRecDepth 100000 in
theorem cw_13 : lw_tbl[pW 13]? = some (.code (pY 13) (pB 13) (pM 13) (pR 13)) := rfl
set_option maxRecDepth 100000 in
theorem cw_14 : lw_tbl[pW 14]? = some (.code (pY 14) (pB 14) (pM 14) (pR 14)) := rfl
set_option maxRecDepth 100000 in
theorem cw_15 : lw_tbl[pW 15]? = some (.code (pY 15) (pB 15) (pM 15) (pR 15)) := rfl
set_option maxRecDepth 100000 in
theorem cw_16 : lw_tbl[pW 16]? = some (.code (pY 16) (pB 16) (pM 16) (pR 16)) := rfl
set_option maxRecDepth 100000 in
theorem cw_17 : lw_tbl[pW 17]? = some (.code (pY 17) (pB 17) (pM 17) (pR 17)) := rfl
set_option maxRecDepth 100000 in
theorem cw_18 : lw_tbl[pW 18]? = some (.code (pY 18) (pB 18) (pM 18) (pR 18)) := rfl
set_option maxRecDepth 100000 in
theorem cw_19 : lw_tbl[pW 19]? = some (.code (pY 19) (pB 19) (pM 19) (pR 19)) := rfl
set_option maxRecDepth 100000 in
theorem cw_20 : lw_tbl[pW 20]? = some (.code (pY 20) (pB 20) (pM 20) (pR 20)) := rfl
set_option maxRecDepth 100000 in
theorem cw_21 : lw_tbl[pW 21]? = some (.code (pY 21) (pB 21) (pM 21) (pR 21)) := rfl
set_option maxRecDepth 100000 in
theorem cw_22 : lw_tbl[pW 22]? = some (.code (pY 22) (pB 22) (pM 22) (pR 22)) := rfl
set_option maxRecDepth 100000 in
theorem cw_23 : lw_tbl[pW 23]? = some (.code (pY 23) (pB 23) (pM 23) (pR 23)) := rfl
set_option maxRecDepth 100000 in
theorem cw_24 : lw_tbl[pW 24]? = some (.code (pY 24) (pB 24) (pM 24) (pR 24)) := rfl
set_option maxRecDepth 100000 in
theorem cw_25 : lw_tbl[pW 25]? = some (.code (pY 25) (pB 25) (pM 25) (pR 25)) := rfl
set_option maxRecDepth 100000 in
theorem cw_26 : lw_tbl[pW 26]? = some (.code (pY 26) (pB 26) (pM 26) (pR 26)) := rfl
set_option maxRecDepth 100000 in
theorem cw_27 : lw_tbl[pW 27]? = some (.code (pY 27) (pB 27) (pM 27) (pR 27)) := rfl
set_option maxRecDepth 100000 in
theorem cw_28 : lw_tbl[pW 28]? = some (.code (pY 28) (pB 28) (pM 28) (pR 28)) := rfl
set_option maxRecDepth 100000 in
theorem cw_29 : lw_tbl[pW 29]? = some (.code (pY 29) (pB 29) (pM 29) (pR 29)) := rfl
set_option maxRecDepth 100000 in
theorem cw_30 : lw_tbl[pW 30]? = some (.code (pY 30) (pB 30) (pM 30) (pR 30)) := rfl
set_option maxRecDepth 100000 in
theorem cw_31 : lw_tbl[pW 31]? = some (.code (pY 31) (pB 31) (pM 31) (pR 31)) := rfl
set_option maxRecDepth 100000 in
theorem cw_32 : lw_tbl[pW 32]? = some (.code (pY 32) (pB 32) (pM 32) (pR 32)) := rfl
set_option maxRecDepth 100000 in
theorem cw_33 : lw_tbl[pW 33]? = some (.code (pY 33) (pB 33) (pM 33) (pR 33)) := rfl
set_option maxRecDepth 100000 in
theorem cw_34 : lw_tbl[pW 34]? = some (.code (pY 34) (pB 34) (pM 34) (pR 34)) := rfl
set_option maxRecDepth 100000 in
theorem cw_35 : lw_tbl[pW 35]? = some (.code (pY 35) (pB 35) (pM 35) (pR 35)) := rfl
set_option maxRecDepth 100000 in
theorem cw_36 : lw_tbl[pW 36]? = some (.code (pY 36) (pB 36) (pM 36) (pR 36)) := rfl
set_option maxRecDepth 100000 in
theorem cw_37 : lw_tbl[pW 37]? = some (.code (pY 37) (pB 37) (pM 37) (pR 37)) := rfl
set_option maxRecDepth 100000 in
theorem cw_38 : lw_tbl[pW 38]? = some (.code (pY 38) (pB 38) (pM 38) (pR 38)) := rfl
set_option maxRecDepth 100000 in
theorem cw_39 : lw_tbl[pW 39]? = some (.code (pY 39) (pB 39) (pM 39) (pR 39)) := rfl
set_option maxRecDepth 100000 in
theorem cw_40 : lw_tbl[pW 40]? = some (.code (pY 40) (pB 40) (pM 40) (pR 40)) := rfl
set_option maxRecDepth 100000 in
theorem cw_41 : lw_tbl[pW 41]? = some (.code (pY 41) (pB 41) (pM 41) (pR 41)) := rfl
set_option maxRecDepth 100000 in
theorem cw_42 : lw_tbl[pW 42]? = some (.code (pY 42) (pB 42) (pM 42) (pR 42)) := rfl
set_option maxRecDepth 100000 in
theorem cw_43 : lw_tbl[pW 43]? = some (.code (pY 43) (pB 43) (pM 43) (pR 43)) := rfl
set_option maxRecDepth 100000 in
theorem cw_44 : lw_tbl[pW 44]? = some (.code (pY 44) (pB 44) (pM 44) (pR 44)) := rfl
set_option maxRecDepth 100000 in
theorem cw_45 : lw_tbl[pW 45]? = some (.code (pY 45) (pB 45) (pM 45) (pR 45)) := rfl
set_option maxRecDepth 100000 in
theorem cw_46 : lw_tbl[pW 46]? = some (.code (pY 46) (pB 46) (pM 46) (pR 46)) := rfl
set_option maxRecDepth 100000 in
theorem cw_47 : lw_tbl[pW 47]? = some (.code (pY 47) (pB 47) (pM 47) (pR 47)) := rfl
set_option maxRecDepth 100000 in
theorem cw_48 : lw_tbl[pW 48]? = some (.code (pY 48) (pB 48) (pM 48) (pR 48)) := rfl
set_option maxRecDepth 100000 in
theorem cw_49 : lw_tbl[pW 49]? = some (.code (pY 49) (pB 49) (pM 49) (pR 49)) := rfl
set_option maxRecDepth 100000 in
theorem cw_50 : lw_tbl[pW 50]? = some (.code (pY 50) (pB 50) (pM 50) (pR 50)) := rfl
set_option maxRecDepth 100000 in
theorem cw_51 : lw_tbl[pW 51]? = some (.code (pY 51) (pB 51) (pM 51) (pR 51)) := rfl
set_option maxRecDepth 100000 in
theorem cw_52 : lw_tbl[pW 52]? = some (.code (pY 52) (pB 52) (pM 52) (pR 52)) := rfl
set_option maxRecDepth 100000 in
theorem cw_53 : lw_tbl[pW 53]? = some (.code (pY 53) (pB 53) (pM 53) (pR 53)) := rfl
set_option maxRecDepth 100000 in
theorem cw_54 : lw_tbl[pW 54]? = some (.code (pY 54) (pB 54) (pM 54) (pR 54)) := rfl
set_option maxRecDepth 100000 in
theorem cw_55 : lw_tbl[pW 55]? = some (.code (pY 55) (pB 55) (pM 55) (pR 55)) := rfl
set_option maxRecDepth 100000 in
theorem cw_56 : lw_tbl[pW 56]? = some (.code (pY 56) (pB 56) (pM 56) (pR 56)) := rfl
set_option maxRecDepth 100000 in
theorem cw_57 : lw_tbl[pW 57]? = some (.code (pY 57) (pB 57) (pM 57) (pR 57)) := rfl
set_option maxRecDepth 100000 in
theorem cw_58 : lw_tbl[pW 58]? = some (.code (pY 58) (pB 58) (pM 58) (pR 58)) := rfl
set_option maxRecDepth 100000 in
theorem cw_59 : lw_tbl[pW 59]? = some (.code (pY 59) (pB 59) (pM 59) (pR 59)) := rfl
set_option maxRecDepth 100000 in
theorem cw_60 : lw_tbl[pW 60]? = some (.code (pY 60) (pB 60) (pM 60) (pR 60)) := rfl
set_option maxRecDepth 100000 in
theorem cw_61 : lw_tbl[pW 61]? = some (.code (pY 61) (pB 61) (pM 61) (pR 61)) := rfl
set_option maxRecDepth 100000 in
theorem cw_62 : lw_tbl[pW 62]? = some (.code (pY 62) (pB 62) (pM 62) (pR 62)) := rfl
set_option maxRecDepth 100000 in
theorem cw_63 : lw_tbl[pW 63]? = some (.code (pY 63) (pB 63) (pM 63) (pR 63)) := rfl
set_option maxRecDepth 100000 in
theorem cw_64 : lw_tbl[pW 64]? = some (.code (pY 64) (pB 64) (pM 64) (pR 64)) := rfl
set_option maxRecDepth 100000 in
theorem cw_65 : lw_tbl[pW 65]? = some (.code (pY 65) (pB 65) (pM 65) (pR 65)) := rfl
set_option maxRecDepth 100000 in
theorem cw_66 : lw_tbl[pW 66]? = some (.code (pY 66) (pB 66) (pM 66) (pR 66)) := rfl
set_option maxRecDepth 100000 in
theorem cw_67 : lw_tbl[pW 67]? = some (.code (pY 67) (pB 67) (pM 67) (pR 67)) := rfl
set_option maxRecDepth 100000 in
theorem cw_68 : lw_tbl[pW 68]? = some (.code (pY 68) (pB 68) (pM 68) (pR 68)) := rfl
set_option maxRecDepth 100000 in
theorem cw_69 : lw_tbl[pW 69]? = some (.code (pY 69) (pB 69) (pM 69) (pR 69)) := rfl
set_option maxRecDepth 100000 in
theorem cw_70 : lw_tbl[pW 70]? = some (.code (pY 70) (pB 70) (pM 70) (pR 70)) := rfl
set_option maxRecDepth 100000 in
theorem cw_71 : lw_tbl[pW 71]? = some (.code (pY 71) (pB 71) (pM 71) (pR 71)) := rfl
set_option maxRecDepth 100000 in
theorem cw_72 : lw_tbl[pW 72]? = some (.code (pY 72) (pB 72) (pM 72) (pR 72)) := rfl
set_option maxRecDepth 100000 in
theorem cw_73 : lw_tbl[pW 73]? = some (.code (pY 73) (pB 73) (pM 73) (pR 73)) := rfl
set_option maxRecDepth 100000 in
theorem cw_74 : lw_tbl[pW 74]? = some (.code (pY 74) (pB 74) (pM 74) (pR 74)) := rfl
set_option maxRecDepth 100000 in
theorem cw_75 : lw_tbl[pW 75]? = some (.code (pY 75) (pB 75) (pM 75) (pR 75)) := rfl
set_option maxRecDepth 100000 in
theorem cw_76 : lw_tbl[pW 76]? = some (.code (pY 76) (pB 76) (pM 76) (pR 76)) := rfl
set_option maxRecDepth 100000 in
theorem cw_77 : lw_tbl[pW 77]? = some (.code (pY 77) (pB 77) (pM 77) (pR 77)) := rfl
set_option maxRecDepth 100000 in
theorem cw_78 : lw_tbl[pW 78]? = some (.code (pY 78) (pB 78) (pM 78) (pR 78)) := rfl
set_option maxRecDepth 100000 in
theorem cw_79 : lw_tbl[pW 79]? = some (.code (pY 79) (pB 79) (pM 79) (pR 79)) := rfl
set_option maxRecDepth 100000 in
theorem cw_80 : lw_tbl[pW 80]? = some (.code (pY 80) (pB 80) (pM 80) (pR 80)) := rfl
set_option maxRecDepth 100000 in
theorem cw_81 : lw_tbl[pW 81]? = some (.code (pY 81) (pB 81) (pM 81) (pR 81)) := rfl
set_option maxRecDepth 100000 in
theorem cw_82 : lw_tbl[pW 82]? = some (.code (pY 82) (pB 82) (pM 82) (pR 82)) := rfl
set_option maxRecDepth 100000 in
theorem cw_83 : lw_tbl[pW 83]? = some (.code (pY 83) (pB 83) (pM 83) (pR 83)) := rfl
set_option maxRecDepth 100000 in
theorem cw_84 : lw_tbl[pW 84]? = some (.code (pY 84) (pB 84) (pM 84) (pR 84)) := rfl
set_option maxRecDepth 100000 in
theorem cw_85 : lw_tbl[pW 85]? = some (.code (pY 85) (pB 85) (pM 85) (pR 85)) := rfl
set_option maxRecDepth 100000 in
theorem cw_86 : lw_tbl[pW 86]? = some (.code (pY 86) (pB 86) (pM 86) (pR 86)) := rfl
set_option maxRecDepth 100000 in
theorem cw_87 : lw_tbl[pW 87]? = some (.code (pY 87) (pB 87) (pM 87) (pR 87)) := rfl
set_option maxRecDepth 100000 in
theorem cw_88 : lw_tbl[pW 88]? = some (.code (pY 88) (pB 88) (pM 88) (pR 88)) := rfl
set_option maxRecDepth 100000 in
theorem cw_89 : lw_tbl[pW 89]? = some (.code (pY 89) (pB 89) (pM 89) (pR 89)) := rfl
set_option maxRecDepth 100000 in
theorem cw_90 : lw_tbl[pW 90]? = some (.code (pY 90) (pB 90) (pM 90) (pR 90)) := rfl
set_option maxRecDepth 100000 in
theorem cw_91 : lw_tbl[pW 91]? = some (.code (pY 91) (pB 91) (pM 91) (pR 91)) := rfl
set_option maxRecDepth 100000 in
theorem cw_92 : lw_tbl[pW 92]? = some (.code (pY 92) (pB 92) (pM 92) (pR 92)) := rfl
set_option maxRecDepth 100000 in
theorem cw_93 : lw_tbl[pW 93]? = some (.code (pY 93) (pB 93) (pM 93) (pR 93)) := rfl
set_option maxRecDepth 100000 in
theorem cw_94 : lw_tbl[pW 94]? = some (.code (pY 94) (pB 94) (pM 94) (pR 94)) := rfl
set_option maxRecDepth 100000 in
theorem cw_95 : lw_tbl[pW 95]? = some (.code (pY 95) (pB 95) (pM 95) (pR 95)) := rfl
set_option maxRecDepth 100000 in
theorem cw_96 : lw_tbl[pW 96]? = some (.code (pY 96) (pB 96) (pM 96) (pR 96)) := rfl
set_option maxRecDepth 100000 in
theorem cw_97 : lw_tbl[pW 97]? = some (.code (pY 97) (pB 97) (pM 97) (pR 97)) := rfl
set_option maxRecDepth 100000 in
theorem cw_98 : lw_tbl[pW 98]? = some (.code (pY 98) (pB 98) (pM 98) (pR 98)) := rfl
set_option maxRecDepth 100000 in
theorem cw_99 : lw_tbl[pW 99]? = some (.code (pY 99) (pB 99) (pM 99) (pR 99)) := rfl
set_option maxRecDepth 100000 in
theorem cw_100 : lw_tbl[pW 100]? = some (.code (pY 100) (pB 100) (pM 100) (pR 100)) := rfl
set_option maxRecDepth 100000 in
theorem cw_101 : lw_tbl[pW 101]? = some (.code (pY 101) (pB 101) (pM 101) (pR 101)) := rfl
set_option maxRecDepth 100000 in
theorem cw_102 : lw_tbl[pW 102]? = some (.code (pY 102) (pB 102) (pM 102) (pR 102)) := rfl
set_option maxRecDepth 100000 in
theorem cw_103 : lw_tbl[pW 103]? = some (.code (pY 103) (pB 103) (pM 103) (pR 103)) := rfl
set_option maxRecDepth 100000 in
theorem cw_104 : lw_tbl[pW 104]? = some (.code (pY 104) (pB 104) (pM 104) (pR 104)) := rfl
set_option maxRecDepth 100000 in
theorem cw_105 : lw_tbl[pW 105]? = some (.code (pY 105) (pB 105) (pM 105) (pR 105)) := rfl
set_option maxRecDepth 100000 in
theorem cw_106 : lw_tbl[pW 106]? = some (.code (pY 106) (pB 106) (pM 106) (pR 106)) := rfl
set_option maxRecDepth 100000 in
theorem cw_107 : lw_tbl[pW 107]? = some (.code (pY 107) (pB 107) (pM 107) (pR 107)) := rfl
set_option maxRecDepth 100000 in
theorem cw_108 : lw_tbl[pW 108]? = some (.code (pY 108) (pB 108) (pM 108) (pR 108)) := rfl
set_option maxRecDepth 100000 in
theorem cw_109 : lw_tbl[pW 109]? = some (.code (pY 109) (pB 109) (pM 109) (pR 109)) := rfl
set_option maxRecDepth 100000 in
theorem cw_110 : lw_tbl[pW 110]? = some (.code (pY 110) (pB 110) (pM 110) (pR 110)) := rfl
set_option maxRecDepth 100000 in
theorem cw_111 : lw_tbl[pW 111]? = some (.code (pY 111) (pB 111) (pM 111) (pR 111)) := rfl
set_option maxRecDepth 100000 in
theorem cw_112 : lw_tbl[pW 112]? = some (.code (pY 112) (pB 112) (pM 112) (pR 112)) := rfl
set_option maxRecDepth 100000 in
theorem cw_113 : lw_tbl[pW 113]? = some (.code (pY 113) (pB 113) (pM 113) (pR 113)) := rfl
set_option maxRecDepth 100000 in
theorem cw_114 : lw_tbl[pW 114]? = some (.code (pY 114) (pB 114) (pM 114) (pR 114)) := rfl
set_option maxRecDepth 100000 in
theorem cw_115 : lw_tbl[pW 115]? = some (.code (pY 115) (pB 115) (pM 115) (pR 115)) := rfl
set_option maxRecDepth 100000 in
theorem cw_116 : lw_tbl[pW 116]? = some (.code (pY 116) (pB 116) (pM 116) (pR 116)) := rfl
set_option maxRecDepth 100000 in
theorem cw_117 : lw_tbl[pW 117]? = some (.code (pY 117) (pB 117) (pM 117) (pR 117)) := rfl
set_option maxRecDepth 100000 in
theorem cw_118 : lw_tbl[pW 118]? = some (.code (pY 118) (pB 118) (pM 118) (pR 118)) := rfl
set_option maxRecDepth 100000 in
theorem cw_119 : lw_tbl[pW 119]? = some (.code (pY 119) (pB 119) (pM 119) (pR 119)) := rfl
set_option maxRecDepth 100000 in
theorem cw_120 : lw_tbl[pW 120]? = some (.code (pY 120) (pB 120) (pM 120) (pR 120)) := rfl
set_option maxRecDepth 100000 in
theorem cw_121 : lw_tbl[pW 121]? = some (.code (pY 121) (pB 121) (pM 121) (pR 121)) := rfl
set_option maxRecDepth 100000 in
theorem cw_122 : lw_tbl[pW 122]? = some (.code (pY 122) (pB 122) (pM 122) (pR 122)) := rfl
set_option maxRecDepth 100000 in
theorem cw_123 : lw_tbl[pW 123]? = some (.code (pY 123) (pB 123) (pM 123) (pR 123)) := rfl
set_option maxRecDepth 100000 in
theorem cw_124 : lw_tbl[pW 124]? = some (.code (pY 124) (pB 124) (pM 124) (pR 124)) := rfl
set_option maxRecDepth 100000 in
theorem cw_125 : lw_tbl[pW 125]? = some (.code (pY 125) (pB 125) (pM 125) (pR 125)) := rfl
set_option maxRecDepth 100000 in
theorem cw_126 : lw_tbl[pW 126]? = some (.code (pY 126) (pB 126) (pM 126) (pR 126)) := rfl
set_option maxRecDepth 100000 in
theorem cw_127 : lw_tbl[pW 127]? = some (.code (pY 127) (pB 127) (pM 127) (pR 127)) := rfl
set_option maxRecDepth 100000 in
theorem cw_128 : lw_tbl[pW 128]? = some (.code (pY 128) (pB 128) (pM 128) (pR 128)) := rfl
set_option maxRecDepth 100000 in
theorem cw_129 : lw_tbl[pW 129]? = some (.code (pY 129) (pB 129) (pM 129) (pR 129)) := rfl
set_option maxRecDepth 100000 in
theorem cw_130 : lw_tbl[pW 130]? = some (.code (pY 130) (pB 130) (pM 130) (pR 130)) := rfl
set_option maxRecDepth 100000 in
theorem cw_131 : lw_tbl[pW 131]? = some (.code (pY 131) (pB 131) (pM 131) (pR 131)) := rfl
set_option maxRecDepth 100000 in
theorem cw_132 : lw_tbl[pW 132]? = some (.code (pY 132) (pB 132) (pM 132) (pR 132)) := rfl
set_option maxRecDepth 100000 in
theorem cw_133 : lw_tbl[pW 133]? = some (.code (pY 133) (pB 133) (pM 133) (pR 133)) := rfl
set_option maxRecDepth 100000 in
theorem cw_134 : lw_tbl[pW 134]? = some (.code (pY 134) (pB 134) (pM 134) (pR 134)) := rfl
set_option maxRecDepth 100000 in
theorem cw_135 : lw_tbl[pW 135]? = some (.code (pY 135) (pB 135) (pM 135) (pR 135)) := rfl
set_option maxRecDepth 100000 in
theorem cw_136 : lw_tbl[pW 136]? = some (.code (pY 136) (pB 136) (pM 136) (pR 136)) := rfl
set_option maxRecDepth 100000 in
theorem cw_137 : lw_tbl[pW 137]? = some (.code (pY 137) (pB 137) (pM 137) (pR 137)) := rfl
set_option maxRecDepth 100000 in
theorem cw_138 : lw_tbl[pW 138]? = some (.code (pY 138) (pB 138) (pM 138) (pR 138)) := rfl
set_option maxRecDepth 100000 in
theorem cw_139 : lw_tbl[pW 139]? = some (.code (pY 139) (pB 139) (pM 139) (pR 139)) := rfl
set_option maxRecDepth 100000 in
theorem cw_140 : lw_tbl[pW 140]? = some (.code (pY 140) (pB 140) (pM 140) (pR 140)) := rfl
set_option maxRecDepth 100000 in
theorem cw_141 : lw_tbl[pW 141]? = some (.code (pY 141) (pB 141) (pM 141) (pR 141)) := rfl
set_option maxRecDepth 100000 in
theorem cw_142 : lw_tbl[pW 142]? = some (.code (pY 142) (pB 142) (pM 142) (pR 142)) := rfl
set_option maxRecDepth 100000 in
theorem cw_143 : lw_tbl[pW 143]? = some (.code (pY 143) (pB 143) (pM 143) (pR 143)) := rfl
set_option maxRecDepth 100000 in
theorem cw_144 : lw_tbl[pW 144]? = some (.code (pY 144) (pB 144) (pM 144) (pR 144)) := rfl
set_option maxRecDepth 100000 in
theorem cw_145 : lw_tbl[pW 145]? = some (.code (pY 145) (pB 145) (pM 145) (pR 145)) := rfl
set_option maxRecDepth 100000 in
theorem cw_146 : lw_tbl[pW 146]? = some (.code (pY 146) (pB 146) (pM 146) (pR 146)) := rfl
set_option maxRecDepth 100000 in
theorem cw_147 : lw_tbl[pW 147]? = some (.code (pY 147) (pB 147) (pM 147) (pR 147)) := rfl
set_option maxRecDepth 100000 in
theorem cw_148 : lw_tbl[pW 148]? = some (.code (pY 148) (pB 148) (pM 148) (pR 148)) := rfl
set_option maxRecDepth 100000 in
theorem cw_149 : lw_tbl[pW 149]? = some (.code (pY 149) (pB 149) (pM 149) (pR 149)) := rfl
set_option maxRecDepth 100000 in
theorem cw_150 : lw_tbl[pW 150]? = some (.code (pY 150) (pB 150) (pM 150) (pR 150)) := rfl
set_option maxRecDepth 100000 in
theorem cw_151 : lw_tbl[pW 151]? = some (.code (pY 151) (pB 151) (pM 151) (pR 151)) := rfl
set_option maxRecDepth 100000 in
theorem cw_152 : lw_tbl[pW 152]? = some (.code (pY 152) (pB 152) (pM 152) (pR 152)) := rfl
set_option maxRecDepth 100000 in
theorem cw_153 : lw_tbl[pW 153]? = some (.code (pY 153) (pB 153) (pM 153) (pR 153)) := rfl
set_option maxRecDepth 100000 in
theorem cw_154 : lw_tbl[pW 154]? = some (.code (pY 154) (pB 154) (pM 154) (pR 154)) := rfl
set_option maxRecDepth 100000 in
theorem cw_155 : lw_tbl[pW 155]? = some (.code (pY 155) (pB 155) (pM 155) (pR 155)) := rfl
set_option maxRecDepth 100000 in
theorem cw_156 : lw_tbl[pW 156]? = some (.code (pY 156) (pB 156) (pM 156) (pR 156)) := rfl
set_option maxRecDepth 100000 in
theorem cw_157 : lw_tbl[pW 157]? = some (.code (pY 157) (pB 157) (pM 157) (pR 157)) := rfl
set_option maxRecDepth 100000 in
theorem cw_158 : lw_tbl[pW 158]? = some (.code (pY 158) (pB 158) (pM 158) (pR 158)) := rfl
set_option maxRecDepth 100000 in
theorem cw_159 : lw_tbl[pW 159]? = some (.code (pY 159) (pB 159) (pM 159) (pR 159)) := rfl
set_option maxRecDepth 100000 in
theorem cw_160 : lw_tbl[pW 160]? = some (.code (pY 160) (pB 160) (pM 160) (pR 160)) := rfl
set_option maxRecDepth 100000 in
theorem cw_161 : lw_tbl[pW 161]? = some (.code (pY 161) (pB 161) (pM 161) (pR 161)) := rfl
set_option maxRecDepth 100000 in
theorem cw_162 : lw_tbl[pW 162]? = some (.code (pY 162) (pB 162) (pM 162) (pR 162)) := rfl
set_option maxRecDepth 100000 in
theorem cw_163 : lw_tbl[pW 163]? = some (.code (pY 163) (pB 163) (pM 163) (pR 163)) := rfl
set_option maxRecDepth 100000 in
theorem cw_164 : lw_tbl[pW 164]? = some (.code (pY 164) (pB 164) (pM 164) (pR 164)) := rfl
set_option maxRecDepth 100000 in
theorem cw_165 : lw_tbl[pW 165]? = some (.code (pY 165) (pB 165) (pM 165) (pR 165)) := rfl
set_option maxRecDepth 100000 in
theorem cw_166 : lw_tbl[pW 166]? = some (.code (pY 166) (pB 166) (pM 166) (pR 166)) := rfl
set_option maxRecDepth 100000 in
theorem cw_167 : lw_tbl[pW 167]? = some (.code (pY 167) (pB 167) (pM 167) (pR 167)) := rfl
set_option maxRecDepth 100000 in
theorem cw_168 : lw_tbl[pW 168]? = some (.code (pY 168) (pB 168) (pM 168) (pR 168)) := rfl
set_option maxRecDepth 100000 in
theorem cw_169 : lw_tbl[pW 169]? = some (.code (pY 169) (pB 169) (pM 169) (pR 169)) := rfl
set_option maxRecDepth 100000 in
theorem cw_170 : lw_tbl[pW 170]? = some (.code (pY 170) (pB 170) (pM 170) (pR 170)) := rfl
set_option maxRecDepth 100000 in
theorem cw_171 : lw_tbl[pW 171]? = some (.code (pY 171) (pB 171) (pM 171) (pR 171)) := rfl
set_option maxRecDepth 100000 in
theorem cw_172 : lw_tbl[pW 172]? = some (.code (pY 172) (pB 172) (pM 172) (pR 172)) := rfl
set_option maxRecDepth 100000 in
theorem cw_173 : lw_tbl[pW 173]? = some (.code (pY 173) (pB 173) (pM 173) (pR 173)) := rfl
set_option maxRecDepth 100000 in
theorem cw_174 : lw_tbl[pW 174]? = some (.code (pY 174) (pB 174) (pM 174) (pR 174)) := rfl
set_option maxRecDepth 100000 in
theorem cw_175 : lw_tbl[pW 175]? = some (.code (pY 175) (pB 175) (pM 175) (pR 175)) := rfl
set_option maxRecDepth 100000 in
theorem cw_176 : lw_tbl[pW 176]? = some (.code (pY 176) (pB 176) (pM 176) (pR 176)) := rfl
set_option maxRecDepth 100000 in
theorem cw_177 : lw_tbl[pW 177]? = some (.code (pY 177) (pB 177) (pM 177) (pR 177)) := rfl
set_option maxRecDepth 100000 in
theorem cw_178 : lw_tbl[pW 178]? = some (.code (pY 178) (pB 178) (pM 178) (pR 178)) := rfl
set_option maxRecDepth 100000 in
theorem cw_179 : lw_tbl[pW 179]? = some (.code (pY 179) (pB 179) (pM 179) (pR 179)) := rfl
set_option maxRecDepth 100000 in
theorem cw_180 : lw_tbl[pW 180]? = some (.code (pY 180) (pB 180) (pM 180) (pR 180)) := rfl
set_option maxRecDepth 100000 in
theorem cw_181 : lw_tbl[pW 181]? = some (.code (pY 181) (pB 181) (pM 181) (pR 181)) := rfl
set_option maxRecDepth 100000 in
theorem cw_182 : lw_tbl[pW 182]? = some (.code (pY 182) (pB 182) (pM 182) (pR 182)) := rfl
set_option maxRecDepth 100000 in
theorem cw_183 : lw_tbl[pW 183]? = some (.code (pY 183) (pB 183) (pM 183) (pR 183)) := rfl
set_option maxRecDepth 100000 in
theorem cw_184 : lw_tbl[pW 184]? = some (.code (pY 184) (pB 184) (pM 184) (pR 184)) := rfl
set_option maxRecDepth 100000 in
theorem cw_185 : lw_tbl[pW 185]? = some (.code (pY 185) (pB 185) (pM 185) (pR 185)) := rfl
set_option maxRecDepth 100000 in
theorem cw_186 : lw_tbl[pW 186]? = some (.code (pY 186) (pB 186) (pM 186) (pR 186)) := rfl
set_option maxRecDepth 100000 in
theorem cw_187 : lw_tbl[pW 187]? = some (.code (pY 187) (pB 187) (pM 187) (pR 187)) := rfl
set_option maxRecDepth 100000 in
theorem cw_188 : lw_tbl[pW 188]? = some (.code (pY 188) (pB 188) (pM 188) (pR 188)) := rfl
set_option maxRecDepth 100000 in
theorem cw_189 : lw_tbl[pW 189]? = some (.code (pY 189) (pB 189) (pM 189) (pR 189)) := rfl
set_option maxRecDepth 100000 in
theorem cw_190 : lw_tbl[pW 190]? = some (.code (pY 190) (pB 190) (pM 190) (pR 190)) := rfl
set_option maxRecDepth 100000 in
theorem cw_191 : lw_tbl[pW 191]? = some (.code (pY 191) (pB 191) (pM 191) (pR 191)) := rfl
set_option maxRecDepth 100000 in
theorem cw_192 : lw_tbl[pW 192]? = some (.code (pY 192) (pB 192) (pM 192) (pR 192)) := rfl
set_option maxRecDepth 100000 in
theorem cw_193 : lw_tbl[pW 193]? = some (.code (pY 193) (pB 193) (pM 193) (pR 193)) := rfl
set_option maxRecDepth 100000 in
theorem cw_194 : lw_tbl[pW 194]? = some (.code (pY 194) (pB 194) (pM 194) (pR 194)) := rfl
set_option maxRecDepth 100000 in
theorem cw_195 : lw_tbl[pW 195]? = some (.code (pY 195) (pB 195) (pM 195) (pR 195)) := rfl
set_option maxRecDepth 100000 in
theorem cw_196 : lw_tbl[pW 196]? = some (.code (pY 196) (pB 196) (pM 196) (pR 196)) := rfl
set_option maxRecDepth 100000 in
theorem cw_197 : lw_tbl[pW 197]? = some (.code (pY 197) (pB 197) (pM 197) (pR 197)) := rfl
set_option maxRecDepth 100000 in
theorem cw_198 : lw_tbl[pW 198]? = some (.code (pY 198) (pB 198) (pM 198) (pR 198)) := rfl
set_option maxRecDepth 100000 in
theorem cw_199 : lw_tbl[pW 199]? = some (.code (pY 199) (pB 199) (pM 199) (pR 199)) := rfl
set_option maxRecDepth 100000 in
theorem cw_200 : lw_tbl[pW 200]? = some (.code (pY 200) (pB 200) (pM 200) (pR 200)) := rfl
set_option maxRecDepth 100000 in
theorem cw_201 : lw_tbl[pW 201]? = some (.code (pY 201) (pB 201) (pM 201) (pR 201)) := rfl
set_option maxRecDepth 100000 in
theorem cw_202 : lw_tbl[pW 202]? = some (.code (pY 202) (pB 202) (pM 202) (pR 202)) := rfl
set_option maxRecDepth 100000 in
theorem cw_203 : lw_tbl[pW 203]? = some (.code (pY 203) (pB 203) (pM 203) (pR 203)) := rfl
set_option maxRecDepth 100000 in
theorem cw_204 : lw_tbl[pW 204]? = some (.code (pY 204) (pB 204) (pM 204) (pR 204)) := rfl
set_option maxRecDepth 100000 in
theorem cw_205 : lw_tbl[pW 205]? = some (.code (pY 205) (pB 205) (pM 205) (pR 205)) := rfl
set_option maxRecDepth 100000 in
theorem cw_206 : lw_tbl[pW 206]? = some (.code (pY 206) (pB 206) (pM 206) (pR 206)) := rfl
set_option maxRecDepth 100000 in
theorem cw_207 : lw_tbl[pW 207]? = some (.code (pY 207) (pB 207) (pM 207) (pR 207)) := rfl
set_option maxRecDepth 100000 in
theorem cw_208 : lw_tbl[pW 208]? = some (.code (pY 208) (pB 208) (pM 208) (pR 208)) := rfl
set_option maxRecDepth 100000 in
theorem cw_209 : lw_tbl[pW 209]? = some (.code (pY 209) (pB 209) (pM 209) (pR 209)) := rfl
set_option maxRecDepth 100000 in
theorem cw_210 : lw_tbl[pW 210]? = some (.code (pY 210) (pB 210) (pM 210) (pR 210)) := rfl
set_option maxRecDepth 100000 in
theorem cw_211 : lw_tbl[pW 211]? = some (.code (pY 211) (pB 211) (pM 211) (pR 211)) := rfl
set_option maxRecDepth 100000 in
theorem cw_212 : lw_tbl[pW 212]? = some (.code (pY 212) (pB 212) (pM 212) (pR 212)) := rfl
set_option maxRecDepth 100000 in
theorem cw_213 : lw_tbl[pW 213]? = some (.code (pY 213) (pB 213) (pM 213) (pR 213)) := rfl
set_option maxRecDepth 100000 in
theorem cw_214 : lw_tbl[pW 214]? = some (.code (pY 214) (pB 214) (pM 214) (pR 214)) := rfl
set_option maxRecDepth 100000 in
theorem cw_215 : lw_tbl[pW 215]? = some (.code (pY 215) (pB 215) (pM 215) (pR 215)) := rfl
set_option maxRecDepth 100000 in
theorem cw_216 : lw_tbl[pW 216]? = some (.code (pY 216) (pB 216) (pM 216) (pR 216)) := rfl
set_option maxRecDepth 100000 in
theorem cw_217 : lw_tbl[pW 217]? = some (.code (pY 217) (pB 217) (pM 217) (pR 217)) := rfl
set_option maxRecDepth 100000 in
theorem cw_218 : lw_tbl[pW 218]? = some (.code (pY 218) (pB 218) (pM 218) (pR 218)) := rfl
set_option maxRecDepth 100000 in
theorem cw_219 : lw_tbl[pW 219]? = some (.code (pY 219) (pB 219) (pM 219) (pR 219)) := rfl
set_option maxRecDepth 100000 in
theorem cw_220 : lw_tbl[pW 220]? = some (.code (pY 220) (pB 220) (pM 220) (pR 220)) := rfl
set_option maxRecDepth 100000 in
theorem cw_221 : lw_tbl[pW 221]? = some (.code (pY 221) (pB 221) (pM 221) (pR 221)) := rfl
set_option maxRecDepth 100000 in
theorem cw_222 : lw_tbl[pW 222]? = some (.code (pY 222) (pB 222) (pM 222) (pR 222)) := rfl
set_option maxRecDepth 100000 in
theorem cw_223 : lw_tbl[pW 223]? = some (.code (pY 223) (pB 223) (pM 223) (pR 223)) := rfl
set_option maxRecDepth 100000 in
theorem cw_224 : lw_tbl[pW 224]? = some (.code (pY 224) (pB 224) (pM 224) (pR 224)) := rfl
set_option maxRecDepth 100000 in
theorem cw_225 : lw_tbl[pW 225]? = some (.code (pY 225) (pB 225) (pM 225) (pR 225)) := rfl
set_option maxRecDepth 100000 in
theorem cw_226 : lw_tbl[pW 226]? = some (.code (pY 226) (pB 226) (pM 226) (pR 226)) := rfl
set_option maxRecDepth 100000 in
theorem cw_227 : lw_tbl[pW 227]? = some (.code (pY 227) (pB 227) (pM 227) (pR 227)) := rfl
set_option maxRecDepth 100000 in
theorem cw_228 : lw_tbl[pW 228]? = some (.code (pY 228) (pB 228) (pM 228) (pR 228)) := rfl
set_option maxRecDepth 100000 in
theorem cw_229 : lw_tbl[pW 229]? = some (.code (pY 229) (pB 229) (pM 229) (pR 229)) := rfl
set_option maxRecDepth 100000 in
theorem cw_230 : lw_tbl[pW 230]? = some (.code (pY 230) (pB 230) (pM 230) (pR 230)) := rfl
set_option maxRecDepth 100000 in
theorem cw_231 : lw_tbl[pW 231]? = some (.code (pY 231) (pB 231) (pM 231) (pR 231)) := rfl
set_option maxRecDepth 100000 in
theorem cw_232 : lw_tbl[pW 232]? = some (.code (pY 232) (pB 232) (pM 232) (pR 232)) := rfl
set_option maxRecDepth 100000 in
theorem cw_233 : lw_tbl[pW 233]? = some (.code (pY 233) (pB 233) (pM 233) (pR 233)) := rfl
set_option maxRecDepth 100000 in
theorem cw_234 : lw_tbl[pW 234]? = some (.code (pY 234) (pB 234) (pM 234) (pR 234)) := rfl
set_option maxRecDepth 100000 in
theorem cw_235 : lw_tbl[pW 235]? = some (.code (pY 235) (pB 235) (pM 235) (pR 235)) := rfl
set_option maxRecDepth 100000 in
theorem cw_236 : lw_tbl[pW 236]? = some (.code (pY 236) (pB 236) (pM 236) (pR 236)) := rfl
set_option maxRecDepth 100000 in
theorem cw_237 : lw_tbl[pW 237]? = some (.code (pY 237) (pB 237) (pM 237) (pR 237)) := rfl
set_option maxRecDepth 100000 in
theorem cw_238 : lw_tbl[pW 238]? = some (.code (pY 238) (pB 238) (pM 238) (pR 238)) := rfl
set_option maxRecDepth 100000 in
theorem cw_239 : lw_tbl[pW 239]? = some (.code (pY 239) (pB 239) (pM 239) (pR 239)) := rfl
set_option maxRecDepth 100000 in
theorem cw_240 : lw_tbl[pW 240]? = some (.code (pY 240) (pB 240) (pM 240) (pR 240)) := rfl
set_option maxRecDepth 100000 in
theorem cw_241 : lw_tbl[pW 241]? = some (.code (pY 241) (pB 241) (pM 241) (pR 241)) := rfl
set_option maxRecDepth 100000 in
theorem cw_242 : lw_tbl[pW 242]? = some (.code (pY 242) (pB 242) (pM 242) (pR 242)) := rfl
set_option maxRecDepth 100000 in
theorem cw_243 : lw_tbl[pW 243]? = some (.code (pY 243) (pB 243) (pM 243) (pR 243)) := rfl
set_option maxRecDepth 100000 in
theorem cw_244 : lw_tbl[pW 244]? = some (.code (pY 244) (pB 244) (pM 244) (pR 244)) := rfl
set_option maxRecDepth 100000 in
theorem cw_245 : lw_tbl[pW 245]? = some (.code (pY 245) (pB 245) (pM 245) (pR 245)) := rfl
set_option maxRecDepth 100000 in
theorem cw_246 : lw_tbl[pW 246]? = some (.code (pY 246) (pB 246) (pM 246) (pR 246)) := rfl
set_option maxRecDepth 100000 in
theorem cw_247 : lw_tbl[pW 247]? = some (.code (pY 247) (pB 247) (pM 247) (pR 247)) := rfl
set_option maxRecDepth 100000 in
theorem cw_248 : lw_tbl[pW 248]? = some (.code (pY 248) (pB 248) (pM 248) (pR 248)) := rfl
set_option maxRecDepth 100000 in
theorem cw_249 : lw_tbl[pW 249]? = some (.code (pY 249) (pB 249) (pM 249) (pR 249)) := rfl
set_option maxRecDepth 100000 in
theorem cw_250 : lw_tbl[pW 250]? = some (.code (pY 250) (pB 250) (pM 250) (pR 250)) := rfl
set_option maxRecDepth 100000 in
theorem cw_251 : lw_tbl[pW 251]? = some (.code (pY 251) (pB 251) (pM 251) (pR 251)) := rfl
set_option maxRecDepth 100000 in
theorem cw_252 : lw_tbl[pW 252]? = some (.code (pY 252) (pB 252) (pM 252) (pR 252)) := rfl
set_option maxRecDepth 100000 in
theorem cw_253 : lw_tbl[pW 253]? = some (.code (pY 253) (pB 253) (pM 253) (pR 253)) := rfl
set_option maxRecDepth 100000 in
theorem cw_254 : lw_tbl[pW 254]? = some (.code (pY 254) (pB 254) (pM 254) (pR 254)) := rfl
set_option maxRecDepth 100000 in
theorem cw_255 : lw_tbl[pW 255]? = some (.code (pY 255) (pB 255) (pM 255) (pR 255)) := rfl
set_option maxRecDepth 100000 in
theorem cw_256 : lw_tbl[pW 256]? = some (.code (pY 256) (pB 256) (pM 256) (pR 256)) := rfl
set_option maxRecDepth 100000 in
theorem cw_257 : lw_tbl[pW 257]? = some (.code (pY 257) (pB 257) (pM 257) (pR 257)) := rfl
set_option maxRecDepth 100000 in
theorem cw_258 : lw_tbl[pW 258]? = some (.code (pY 258) (pB 258) (pM 258) (pR 258)) := rfl
set_option maxRecDepth 100000 in
theorem cw_259 : lw_tbl[pW 259]? = some (.code (pY 259) (pB 259) (pM 259) (pR 259)) := rfl
set_option maxRecDepth 100000 in
theorem cw_260 : lw_tbl[pW 260]? = some (.code (pY 260) (pB 260) (pM 260) (pR 260)) := rfl
set_option maxRecDepth 100000 in
theorem cw_261 : lw_tbl[pW 261]? = some (.code (pY 261) (pB 261) (pM 261) (pR 261)) := rfl
set_option maxRecDepth 100000 in
theorem cw_262 : lw_tbl[pW 262]? = some (.code (pY 262) (pB 262) (pM 262) (pR 262)) := rfl
set_option maxRecDepth 100000 in
theorem cw_263 : lw_tbl[pW 263]? = some (.code (pY 263) (pB 263) (pM 263) (pR 263)) := rfl
set_option maxRecDepth 100000 in
theorem cw_264 : lw_tbl[pW 264]? = some (.code (pY 264) (pB 264) (pM 264) (pR 264)) := rfl
set_option maxRecDepth 100000 in
theorem cw_265 : lw_tbl[pW 265]? = some (.code (pY 265) (pB 265) (pM 265) (pR 265)) := rfl
set_option maxRecDepth 100000 in
theorem cw_266 : lw_tbl[pW 266]? = some (.code (pY 266) (pB 266) (pM 266) (pR 266)) := rfl
set_option maxRecDepth 100000 in
theorem cw_267 : lw_tbl[pW 267]? = some (.code (pY 267) (pB 267) (pM 267) (pR 267)) := rfl
set_option maxRecDepth 100000 in
theorem cw_268 : lw_tbl[pW 268]? = some (.code (pY 268) (pB 268) (pM 268) (pR 268)) := rfl
set_option maxRecDepth 100000 in
theorem cw_269 : lw_tbl[pW 269]? = some (.code (pY 269) (pB 269) (pM 269) (pR 269)) := rfl
set_option maxRecDepth 100000 in
theorem cw_270 : lw_tbl[pW 270]? = some (.code (pY 270) (pB 270) (pM 270) (pR 270)) := rfl
set_option maxRecDepth 100000 in
theorem cw_271 : lw_tbl[pW 271]? = some (.code (pY 271) (pB 271) (pM 271) (pR 271)) := rfl
set_option maxRecDepth 100000 in
theorem cw_272 : lw_tbl[pW 272]? = some (.code (pY 272) (pB 272) (pM 272) (pR 272)) := rfl
set_option maxRecDepth 100000 in
theorem cw_273 : lw_tbl[pW 273]? = some (.code (pY 273) (pB 273) (pM 273) (pR 273)) := rfl
set_option maxRecDepth 100000 in
theorem cw_274 : lw_tbl[pW 274]? = some (.code (pY 274) (pB 274) (pM 274) (pR 274)) := rfl
set_option maxRecDepth 100000 in
theorem cw_275 : lw_tbl[pW 275]? = some (.code (pY 275) (pB 275) (pM 275) (pR 275)) := rfl
set_option maxRecDepth 100000 in
theorem cw_276 : lw_tbl[pW 276]? = some (.code (pY 276) (pB 276) (pM 276) (pR 276)) := rfl
set_option maxRecDepth 100000 in
theorem cw_277 : lw_tbl[pW 277]? = some (.code (pY 277) (pB 277) (pM 277) (pR 277)) := rfl
set_option maxRecDepth 100000 in
theorem cw_278 : lw_tbl[pW 278]? = some (.code (pY 278) (pB 278) (pM 278) (pR 278)) := rfl
set_option maxRecDepth 100000 in
theorem cw_279 : lw_tbl[pW 279]? = some (.code (pY 279) (pB 279) (pM 279) (pR 279)) := rfl
set_option maxRecDepth 100000 in
theorem cw_280 : lw_tbl[pW 280]? = some (.code (pY 280) (pB 280) (pM 280) (pR 280)) := rfl
set_option maxRecDepth 100000 in
theorem cw_281 : lw_tbl[pW 281]? = some (.code (pY 281) (pB 281) (pM 281) (pR 281)) := rfl
set_option maxRecDepth 100000 in
theorem cw_282 : lw_tbl[pW 282]? = some (.code (pY 282) (pB 282) (pM 282) (pR 282)) := rfl
set_option maxRecDepth 100000 in
theorem cw_283 : lw_tbl[pW 283]? = some (.code (pY 283) (pB 283) (pM 283) (pR 283)) := rfl
set_option maxRecDepth 100000 in
theorem cw_284 : lw_tbl[pW 284]? = some (.code (pY 284) (pB 284) (pM 284) (pR 284)) := rfl
set_option maxRecDepth 100000 in
theorem cw_285 : lw_tbl[pW 285]? = some (.code (pY 285) (pB 285) (pM 285) (pR 285)) := rfl
set_option maxRecDepth 100000 in
theorem cw_286 : lw_tbl[pW 286]? = some (.code (pY 286) (pB 286) (pM 286) (pR 286)) := rfl
set_option maxRecDepth 100000 in
theorem cw_287 : lw_tbl[pW 287]? = some (.code (pY 287) (pB 287) (pM 287) (pR 287)) := rfl
set_option maxRecDepth 100000 in
theorem cw_288 : lw_tbl[pW 288]? = some (.code (pY 288) (pB 288) (pM 288) (pR 288)) := rfl
set_option maxRecDepth 100000 in
theorem cw_289 : lw_tbl[pW 289]? = some (.code (pY 289) (pB 289) (pM 289) (pR 289)) := rfl
set_option maxRecDepth 100000 in
theorem cw_290 : lw_tbl[pW 290]? = some (.code (pY 290) (pB 290) (pM 290) (pR 290)) := rfl
set_option maxRecDepth 100000 in
theorem cw_291 : lw_tbl[pW 291]? = some (.code (pY 291) (pB 291) (pM 291) (pR 291)) := rfl
set_option maxRecDepth 100000 in
theorem cw_292 : lw_tbl[pW 292]? = some (.code (pY 292) (pB 292) (pM 292) (pR 292)) := rfl
set_option maxRecDepth 100000 in
theorem cw_293 : lw_tbl[pW 293]? = some (.code (pY 293) (pB 293) (pM 293) (pR 293)) := rfl
set_option maxRecDepth 100000 in
theorem cw_294 : lw_tbl[pW 294]? = some (.code (pY 294) (pB 294) (pM 294) (pR 294)) := rfl
set_option maxRecDepth 100000 in
theorem cw_295 : lw_tbl[pW 295]? = some (.code (pY 295) (pB 295) (pM 295) (pR 295)) := rfl
set_option maxRecDepth 100000 in
set_option maxHeartbeats 4000000 in
theorem cw_all (x : Nat) (hx : x < 296) : lw_tbl[pW x]? = some (.code (pY x) (pB x) (pM x) (pR x)) := by
  rcases Nat.lt_or_ge x 148 with h148 | h148
  · skip
    rcases Nat.lt_or_ge x 74 with h74 | h74
    · skip
      rcases Nat.lt_or_ge x 37 with h37 | h37
      · skip
        rcases Nat.lt_or_ge x 18 with h18 | h18
        · skip
          rcases Nat.lt_or_ge x 9 with h9 | h9
          · skip
            rcases Nat.lt_or_ge x 4 with h4 | h4
            · skip
              rcases Nat.lt_or_ge x 2 with h2 | h2
              · skip
                rcases Nat.lt_or_ge x 1 with h1 | h1
                · skip
                  obtain rfl : x = 0 := by omega
                  exact cw_0
                · skip
                  obtain rfl : x = 1 := by omega
                  exact cw_1
              · skip
                rcases Nat.lt_or_ge x 3 with h3 | h3
                · skip
                  obtain rfl : x = 2 := by omega
                  exact cw_2
                · skip
                  obtain rfl : x = 3 := by omega
                  exact cw_3
            · skip
              rcases Nat.lt_or_ge x 6 with h6 | h6
              · skip
                rcases Nat.lt_or_ge x 5 with h5 | h5
                · skip
                  obtain rfl : x = 4 := by omega
                  exact cw_4
                · skip
                  obtain rfl : x = 5 := by omega
                  exact cw_5
              · skip
                rcases Nat.lt_or_ge x 7 with h7 | h7
                · skip
                  obtain rfl : x = 6 := by omega
                  exact cw_6
                · skip
                  rcases Nat.lt_or_ge x 8 with h8 | h8
                  · skip
                    obtain rfl : x = 7 := by omega
                    exact cw_7
                  · skip
                    obtain rfl : x = 8 := by omega
                    exact cw_8
          · skip
            rcases Nat.lt_or_ge x 13 with h13 | h13
            · skip
              rcases Nat.lt_or_ge x 11 with h11 | h11
              · skip
                rcases Nat.lt_or_ge x 10 with h10 | h10
                · skip
                  obtain rfl : x = 9 := by omega
                  exact cw_9
                · skip
                  obtain rfl : x = 10 := by omega
                  exact cw_10
              · skip
                rcases Nat.lt_or_ge x 12 with h12 | h12
                · skip
                  obtain rfl : x = 11 := by omega
                  exact cw_11
                · skip
                  obtain rfl : x = 12 := by omega
                  exact cw_12
            · skip
              rcases Nat.lt_or_ge x 15 with h15 | h15
              · skip
                rcases Nat.lt_or_ge x 14 with h14 | h14
                · skip
                  obtain rfl : x = 13 := by omega
                  exact cw_13
                · skip
                  obtain rfl : x = 14 := by omega
                  exact cw_14
              · skip
                rcases Nat.lt_or_ge x 16 with h16 | h16
                · skip
                  obtain rfl : x = 15 := by omega
                  exact cw_15
                · skip
                  rcases Nat.lt_or_ge x 17 with h17 | h17
                  · skip
                    obtain rfl : x = 16 := by omega
                    exact cw_16
                  · skip
                    obtain rfl : x = 17 := by omega
                    exact cw_17
        · skip
          rcases Nat.lt_or_ge x 27 with h27 | h27
          · skip
            rcases Nat.lt_or_ge x 22 with h22 | h22
            · skip
              rcases Nat.lt_or_ge x 20 with h20 | h20
              · skip
                rcases Nat.lt_or_ge x 19 with h19 | h19
                · skip
                  obtain rfl : x = 18 := by omega
                  exact cw_18
                · skip
                  obtain rfl : x = 19 := by omega
                  exact cw_19
              · skip
                rcases Nat.lt_or_ge x 21 with h21 | h21
                · skip
                  obtain rfl : x = 20 := by omega
                  exact cw_20
                · skip
                  obtain rfl : x = 21 := by omega
                  exact cw_21
            · skip
              rcases Nat.lt_or_ge x 24 with h24 | h24
              · skip
                rcases Nat.lt_or_ge x 23 with h23 | h23
                · skip
                  obtain rfl : x = 22 := by omega
                  exact cw_22
                · skip
                  obtain rfl : x = 23 := by omega
                  exact cw_23
              · skip
                rcases Nat.lt_or_ge x 25 with h25 | h25
                · skip
                  obtain rfl : x = 24 := by omega
                  exact cw_24
                · skip
                  rcases Nat.lt_or_ge x 26 with h26 | h26
                  · skip
                    obtain rfl : x = 25 := by omega
                    exact cw_25
                  · skip
                    obtain rfl : x = 26 := by omega
                    exact cw_26
          · skip
            rcases Nat.lt_or_ge x 32 with h32 | h32
            · skip
              rcases Nat.lt_or_ge x 29 with h29 | h29
              · skip
                rcases Nat.lt_or_ge x 28 with h28 | h28
                · skip
                  obtain rfl : x = 27 := by omega
                  exact cw_27
                · skip
                  obtain rfl : x = 28 := by omega
                  exact cw_28
              · skip
                rcases Nat.lt_or_ge x 30 with h30 | h30
                · skip
                  obtain rfl : x = 29 := by omega
                  exact cw_29
                · skip
                  rcases Nat.lt_or_ge x 31 with h31 | h31
                  · skip
                    obtain rfl : x = 30 := by omega
                    exact cw_30
                  · skip
                    obtain rfl : x = 31 := by omega
                    exact cw_31
            · skip
              rcases Nat.lt_or_ge x 34 with h34 | h34
              · skip
                rcases Nat.lt_or_ge x 33 with h33 | h33
                · skip
                  obtain rfl : x = 32 := by omega
                  exact cw_32
                · skip
                  obtain rfl : x = 33 := by omega
                  exact cw_33
              · skip
                rcases Nat.lt_or_ge x 35 with h35 | h35
                · skip
                  obtain rfl : x = 34 := by omega
                  exact cw_34
                · skip
                  rcases Nat.lt_or_ge x 36 with h36 | h36
                  · skip
                    obtain rfl : x = 35 := by omega
                    exact cw_35
                  · skip
                    obtain rfl : x = 36 := by omega
                    exact cw_36
      · skip
        rcases Nat.lt_or_ge x 55 with h55 | h55
        · skip
          rcases Nat.lt_or_ge x 46 with h46 | h46
          · skip
            rcases Nat.lt_or_ge x 41 with h41 | h41
            · skip
              rcases Nat.lt_or_ge x 39 with h39 | h39
              · skip
                rcases Nat.lt_or_ge x 38 with h38 | h38
                · skip
                  obtain rfl : x = 37 := by omega
                  exact cw_37
                · skip
                  obtain rfl : x = 38 := by omega
                  exact cw_38
              · skip
                rcases Nat.lt_or_ge x 40 with h40 | h40
                · skip
                  obtain rfl : x = 39 := by omega
                  exact cw_39
                · skip
                  obtain rfl : x = 40 := by omega
                  exact cw_40
            · skip
              rcases Nat.lt_or_ge x 43 with h43 | h43
              · skip
                rcases Nat.lt_or_ge x 42 with h42 | h42
                · skip
                  obtain rfl : x = 41 := by omega
                  exact cw_41
                · skip
                  obtain rfl : x = 42 := by omega
                  exact cw_42
              · skip
                rcases Nat.lt_or_ge x 44 with h44 | h44
                · skip
                  obtain rfl : x = 43 := by omega
                  exact cw_43
                · skip
                  rcases Nat.lt_or_ge x 45 with h45 | h45
                  · skip
                    obtain rfl : x = 44 := by omega
                    exact cw_44
                  · skip
                    obtain rfl : x = 45 := by omega
                    exact cw_45
          · skip
            rcases Nat.lt_or_ge x 50 with h50 | h50
            · skip
              rcases Nat.lt_or_ge x 48 with h48 | h48
              · skip
                rcases Nat.lt_or_ge x 47 with h47 | h47
                · skip
                  obtain rfl : x = 46 := by omega
                  exact cw_46
                · skip
                  obtain rfl : x = 47 := by omega
                  exact cw_47
              · skip
                rcases Nat.lt_or_ge x 49 with h49 | h49
                · skip
                  obtain rfl : x = 48 := by omega
                  exact cw_48
                · skip
                  obtain rfl : x = 49 := by omega
                  exact cw_49
            · skip
              rcases Nat.lt_or_ge x 52 with h52 | h52
              · skip
                rcases Nat.lt_or_ge x 51 with h51 | h51
                · skip
                  obtain rfl : x = 50 := by omega
                  exact cw_50
                · skip
                  obtain rfl : x = 51 := by omega
                  exact cw_51
              · skip
                rcases Nat.lt_or_ge x 53 with h53 | h53
                · skip
                  obtain rfl : x = 52 := by omega
                  exact cw_52
                · skip
                  rcases Nat.lt_or_ge x 54 with h54 | h54
                  · skip
                    obtain rfl : x = 53 := by omega
                    exact cw_53
                  · skip
                    obtain rfl : x = 54 := by omega
                    exact cw_54
        · skip
          rcases Nat.lt_or_ge x 64 with h64 | h64
          · skip
            rcases Nat.lt_or_ge x 59 with h59 | h59
            · skip
              rcases Nat.lt_or_ge x 57 with h57 | h57
              · skip
                rcases Nat.lt_or_ge x 56 with h56 | h56
                · skip
                  obtain rfl : x = 55 := by omega
                  exact cw_55
                · skip
                  obtain rfl : x = 56 := by omega
                  exact cw_56
              · skip
                rcases Nat.lt_or_ge x 58 with h58 | h58
                · skip
                  obtain rfl : x = 57 := by omega
                  exact cw_57
                · skip
                  obtain rfl : x = 58 := by omega
                  exact cw_58
            · skip
              rcases Nat.lt_or_ge x 61 with h61 | h61
              · skip
                rcases Nat.lt_or_ge x 60 with h60 | h60
                · skip
                  obtain rfl : x = 59 := by omega
                  exact cw_59
                · skip
                  obtain rfl : x = 60 := by omega
                  exact cw_60
              · skip
                rcases Nat.lt_or_ge x 62 with h62 | h62
                · skip
                  obtain rfl : x = 61 := by omega
                  exact cw_61
                · skip
                  rcases Nat.lt_or_ge x 63 with h63 | h63
                  · skip
                    obtain rfl : x = 62 := by omega
                    exact cw_62
                  · skip
                    obtain rfl : x = 63 := by omega
                    exact cw_63
          · skip
            rcases Nat.lt_or_ge x 69 with h69 | h69
            · skip
              rcases Nat.lt_or_ge x 66 with h66 | h66
              · skip
                rcases Nat.lt_or_ge x 65 with h65 | h65
                · skip
                  obtain rfl : x = 64 := by omega
                  exact cw_64
                · skip
                  obtain rfl : x = 65 := by omega
                  exact cw_65
              · skip
                rcases Nat.lt_or_ge x 67 with h67 | h67
                · skip
                  obtain rfl : x = 66 := by omega
                  exact cw_66
                · skip
                  rcases Nat.lt_or_ge x 68 with h68 | h68
                  · skip
                    obtain rfl : x = 67 := by omega
                    exact cw_67
                  · skip
                    obtain rfl : x = 68 := by omega
                    exact cw_68
            · skip
              rcases Nat.lt_or_ge x 71 with h71 | h71
              · skip
                rcases Nat.lt_or_ge x 70 with h70 | h70
                · skip
                  obtain rfl : x = 69 := by omega
                  exact cw_69
                · skip
                  obtain rfl : x = 70 := by omega
                  exact cw_70
              · skip
                rcases Nat.lt_or_ge x 72 with h72 | h72
                · skip
                  obtain rfl : x = 71 := by omega
                  exact cw_71
                · skip
                  rcases Nat.lt_or_ge x 73 with h73 | h73
                  · skip
                    obtain rfl : x = 72 := by omega
                    exact cw_72
                  · skip
                    obtain rfl : x = 73 := by omega
                    exact cw_73
    · skip
      rcases Nat.lt_or_ge x 111 with h111 | h111
      · skip
        rcases Nat.lt_or_ge x 92 with h92 | h92
        · skip
          rcases Nat.lt_or_ge x 83 with h83 | h83
          · skip
            rcases Nat.lt_or_ge x 78 with h78 | h78
            · skip
              rcases Nat.lt_or_ge x 76 with h76 | h76
              · skip
                rcases Nat.lt_or_ge x 75 with h75 | h75
                · skip
                  obtain rfl : x = 74 := by omega
                  exact cw_74
                · skip
                  obtain rfl : x = 75 := by omega
                  exact cw_75
              · skip
                rcases Nat.lt_or_ge x 77 with h77 | h77
                · skip
                  obtain rfl : x = 76 := by omega
                  exact cw_76
                · skip
                  obtain rfl : x = 77 := by omega
                  exact cw_77
            · skip
              rcases Nat.lt_or_ge x 80 with h80 | h80
              · skip
                rcases Nat.lt_or_ge x 79 with h79 | h79
                · skip
                  obtain rfl : x = 78 := by omega
                  exact cw_78
                · skip
                  obtain rfl : x = 79 := by omega
                  exact cw_79
              · skip
                rcases Nat.lt_or_ge x 81 with h81 | h81
                · skip
                  obtain rfl : x = 80 := by omega
                  exact cw_80
                · skip
                  rcases Nat.lt_or_ge x 82 with h82 | h82
                  · skip
                    obtain rfl : x = 81 := by omega
                    exact cw_81
                  · skip
                    obtain rfl : x = 82 := by omega
                    exact cw_82
          · skip
            rcases Nat.lt_or_ge x 87 with h87 | h87
            · skip
              rcases Nat.lt_or_ge x 85 with h85 | h85
              · skip
                rcases Nat.lt_or_ge x 84 with h84 | h84
                · skip
                  obtain rfl : x = 83 := by omega
                  exact cw_83
                · skip
                  obtain rfl : x = 84 := by omega
                  exact cw_84
              · skip
                rcases Nat.lt_or_ge x 86 with h86 | h86
                · skip
                  obtain rfl : x = 85 := by omega
                  exact cw_85
                · skip
                  obtain rfl : x = 86 := by omega
                  exact cw_86
            · skip
              rcases Nat.lt_or_ge x 89 with h89 | h89
              · skip
                rcases Nat.lt_or_ge x 88 with h88 | h88
                · skip
                  obtain rfl : x = 87 := by omega
                  exact cw_87
                · skip
                  obtain rfl : x = 88 := by omega
                  exact cw_88
              · skip
                rcases Nat.lt_or_ge x 90 with h90 | h90
                · skip
                  obtain rfl : x = 89 := by omega
                  exact cw_89
                · skip
                  rcases Nat.lt_or_ge x 91 with h91 | h91
                  · skip
                    obtain rfl : x = 90 := by omega
                    exact cw_90
                  · skip
                    obtain rfl : x = 91 := by omega
                    exact cw_91
        · skip
          rcases Nat.lt_or_ge x 101 with h101 | h101
          · skip
            rcases Nat.lt_or_ge x 96 with h96 | h96
            · skip
              rcases Nat.lt_or_ge x 94 with h94 | h94
              · skip
                rcases Nat.lt_or_ge x 93 with h93 | h93
                · skip
                  obtain rfl : x = 92 := by omega
                  exact cw_92
                · skip
                  obtain rfl : x = 93 := by omega
                  exact cw_93
              · skip
                rcases Nat.lt_or_ge x 95 with h95 | h95
                · skip
                  obtain rfl : x = 94 := by omega
                  exact cw_94
                · skip
                  obtain rfl : x = 95 := by omega
                  exact cw_95
            · skip
              rcases Nat.lt_or_ge x 98 with h98 | h98
              · skip
                rcases Nat.lt_or_ge x 97 with h97 | h97
                · skip
                  obtain rfl : x = 96 := by omega
                  exact cw_96
                · skip
                  obtain rfl : x = 97 := by omega
                  exact cw_97
              · skip
                rcases Nat.lt_or_ge x 99 with h99 | h99
                · skip
                  obtain rfl : x = 98 := by omega
                  exact cw_98
                · skip
                  rcases Nat.lt_or_ge x 100 with h100 | h100
                  · skip
                    obtain rfl : x = 99 := by omega
                    exact cw_99
                  · skip
                    obtain rfl : x = 100 := by omega
                    exact cw_100
          · skip
            rcases Nat.lt_or_ge x 106 with h106 | h106
            · skip
              rcases Nat.lt_or_ge x 103 with h103 | h103
              · skip
                rcases Nat.lt_or_ge x 102 with h102 | h102
                · skip
                  obtain rfl : x = 101 := by omega
                  exact cw_101
                · skip
                  obtain rfl : x = 102 := by omega
                  exact cw_102
              · skip
                rcases Nat.lt_or_ge x 104 with h104 | h104
                · skip
                  obtain rfl : x = 103 := by omega
                  exact cw_103
                · skip
                  rcases Nat.lt_or_ge x 105 with h105 | h105
                  · skip
                    obtain rfl : x = 104 := by omega
                    exact cw_104
                  · skip
                    obtain rfl : x = 105 := by omega
                    exact cw_105
            · skip
              rcases Nat.lt_or_ge x 108 with h108 | h108
              · skip
                rcases Nat.lt_or_ge x 107 with h107 | h107
                · skip
                  obtain rfl : x = 106 := by omega
                  exact cw_106
                · skip
                  obtain rfl : x = 107 := by omega
                  exact cw_107
              · skip
                rcases Nat.lt_or_ge x 109 with h109 | h109
                · skip
                  obtain rfl : x = 108 := by omega
                  exact cw_108
                · skip
                  rcases Nat.lt_or_ge x 110 with h110 | h110
                  · skip
                    obtain rfl : x = 109 := by omega
                    exact cw_109
                  · skip
                    obtain rfl : x = 110 := by omega
                    exact cw_110
      · skip
        rcases Nat.lt_or_ge x 129 with h129 | h129
        · skip
          rcases Nat.lt_or_ge x 120 with h120 | h120
          · skip
            rcases Nat.lt_or_ge x 115 with h115 | h115
            · skip
              rcases Nat.lt_or_ge x 113 with h113 | h113
              · skip
                rcases Nat.lt_or_ge x 112 with h112 | h112
                · skip
                  obtain rfl : x = 111 := by omega
                  exact cw_111
                · skip
                  obtain rfl : x = 112 := by omega
                  exact cw_112
              · skip
                rcases Nat.lt_or_ge x 114 with h114 | h114
                · skip
                  obtain rfl : x = 113 := by omega
                  exact cw_113
                · skip
                  obtain rfl : x = 114 := by omega
                  exact cw_114
            · skip
              rcases Nat.lt_or_ge x 117 with h117 | h117
              · skip
                rcases Nat.lt_or_ge x 116 with h116 | h116
                · skip
                  obtain rfl : x = 115 := by omega
                  exact cw_115
                · skip
                  obtain rfl : x = 116 := by omega
                  exact cw_116
              · skip
                rcases Nat.lt_or_ge x 118 with h118 | h118
                · skip
                  obtain rfl : x = 117 := by omega
                  exact cw_117
                · skip
                  rcases Nat.lt_or_ge x 119 with h119 | h119
                  · skip
                    obtain rfl : x = 118 := by omega
                    exact cw_118
                  · skip
                    obtain rfl : x = 119 := by omega
                    exact cw_119
          · skip
            rcases Nat.lt_or_ge x 124 with h124 | h124
            · skip
              rcases Nat.lt_or_ge x 122 with h122 | h122
              · skip
                rcases Nat.lt_or_ge x 121 with h121 | h121
                · skip
                  obtain rfl : x = 120 := by omega
                  exact cw_120
                · skip
                  obtain rfl : x = 121 := by omega
                  exact cw_121
              · skip
                rcases Nat.lt_or_ge x 123 with h123 | h123
                · skip
                  obtain rfl : x = 122 := by omega
                  exact cw_122
                · skip
                  obtain rfl : x = 123 := by omega
                  exact cw_123
            · skip
              rcases Nat.lt_or_ge x 126 with h126 | h126
              · skip
                rcases Nat.lt_or_ge x 125 with h125 | h125
                · skip
                  obtain rfl : x = 124 := by omega
                  exact cw_124
                · skip
                  obtain rfl : x = 125 := by omega
                  exact cw_125
              · skip
                rcases Nat.lt_or_ge x 127 with h127 | h127
                · skip
                  obtain rfl : x = 126 := by omega
                  exact cw_126
                · skip
                  rcases Nat.lt_or_ge x 128 with h128 | h128
                  · skip
                    obtain rfl : x = 127 := by omega
                    exact cw_127
                  · skip
                    obtain rfl : x = 128 := by omega
                    exact cw_128
        · skip
          rcases Nat.lt_or_ge x 138 with h138 | h138
          · skip
            rcases Nat.lt_or_ge x 133 with h133 | h133
            · skip
              rcases Nat.lt_or_ge x 131 with h131 | h131
              · skip
                rcases Nat.lt_or_ge x 130 with h130 | h130
                · skip
                  obtain rfl : x = 129 := by omega
                  exact cw_129
                · skip
                  obtain rfl : x = 130 := by omega
                  exact cw_130
              · skip
                rcases Nat.lt_or_ge x 132 with h132 | h132
                · skip
                  obtain rfl : x = 131 := by omega
                  exact cw_131
                · skip
                  obtain rfl : x = 132 := by omega
                  exact cw_132
            · skip
              rcases Nat.lt_or_ge x 135 with h135 | h135
              · skip
                rcases Nat.lt_or_ge x 134 with h134 | h134
                · skip
                  obtain rfl : x = 133 := by omega
                  exact cw_133
                · skip
                  obtain rfl : x = 134 := by omega
                  exact cw_134
              · skip
                rcases Nat.lt_or_ge x 136 with h136 | h136
                · skip
                  obtain rfl : x = 135 := by omega
                  exact cw_135
                · skip
                  rcases Nat.lt_or_ge x 137 with h137 | h137
                  · skip
                    obtain rfl : x = 136 := by omega
                    exact cw_136
                  · skip
                    obtain rfl : x = 137 := by omega
                    exact cw_137
          · skip
            rcases Nat.lt_or_ge x 143 with h143 | h143
            · skip
              rcases Nat.lt_or_ge x 140 with h140 | h140
              · skip
                rcases Nat.lt_or_ge x 139 with h139 | h139
                · skip
                  obtain rfl : x = 138 := by omega
                  exact cw_138
                · skip
                  obtain rfl : x = 139 := by omega
                  exact cw_139
              · skip
                rcases Nat.lt_or_ge x 141 with h141 | h141
                · skip
                  obtain rfl : x = 140 := by omega
                  exact cw_140
                · skip
                  rcases Nat.lt_or_ge x 142 with h142 | h142
                  · skip
                    obtain rfl : x = 141 := by omega
                    exact cw_141
                  · skip
                    obtain rfl : x = 142 := by omega
                    exact cw_142
            · skip
              rcases Nat.lt_or_ge x 145 with h145 | h145
              · skip
                rcases Nat.lt_or_ge x 144 with h144 | h144
                · skip
                  obtain rfl : x = 143 := by omega
                  exact cw_143
                · skip
                  obtain rfl : x = 144 := by omega
                  exact cw_144
              · skip
                rcases Nat.lt_or_ge x 146 with h146 | h146
                · skip
                  obtain rfl : x = 145 := by omega
                  exact cw_145
                · skip
                  rcases Nat.lt_or_ge x 147 with h147 | h147
                  · skip
                    obtain rfl : x = 146 := by omega
                    exact cw_146
                  · skip
                    obtain rfl : x = 147 := by omega
                    exact cw_147
  · skip
    rcases Nat.lt_or_ge x 222 with h222 | h222
    · skip
      rcases Nat.lt_or_ge x 185 with h185 | h185
      · skip
        rcases Nat.lt_or_ge x 166 with h166 | h166
        · skip
          rcases Nat.lt_or_ge x 157 with h157 | h157
          · skip
            rcases Nat.lt_or_ge x 152 with h152 | h152
            · skip
              rcases Nat.lt_or_ge x 150 with h150 | h150
              · skip
                rcases Nat.lt_or_ge x 149 with h149 | h149
                · skip
                  obtain rfl : x = 148 := by omega
                  exact cw_148
                · skip
                  obtain rfl : x = 149 := by omega
                  exact cw_149
              · skip
                rcases Nat.lt_or_ge x 151 with h151 | h151
                · skip
                  obtain rfl : x = 150 := by omega
                  exact cw_150
                · skip
                  obtain rfl : x = 151 := by omega
                  exact cw_151
            · skip
              rcases Nat.lt_or_ge x 154 with h154 | h154
              · skip
                rcases Nat.lt_or_ge x 153 with h153 | h153
                · skip
                  obtain rfl : x = 152 := by omega
                  exact cw_152
                · skip
                  obtain rfl : x = 153 := by omega
                  exact cw_153
              · skip
                rcases Nat.lt_or_ge x 155 with h155 | h155
                · skip
                  obtain rfl : x = 154 := by omega
                  exact cw_154
                · skip
                  rcases Nat.lt_or_ge x 156 with h156 | h156
                  · skip
                    obtain rfl : x = 155 := by omega
                    exact cw_155
                  · skip
                    obtain rfl : x = 156 := by omega
                    exact cw_156
          · skip
            rcases Nat.lt_or_ge x 161 with h161 | h161
            · skip
              rcases Nat.lt_or_ge x 159 with h159 | h159
              · skip
                rcases Nat.lt_or_ge x 158 with h158 | h158
                · skip
                  obtain rfl : x = 157 := by omega
                  exact cw_157
                · skip
                  obtain rfl : x = 158 := by omega
                  exact cw_158
              · skip
                rcases Nat.lt_or_ge x 160 with h160 | h160
                · skip
                  obtain rfl : x = 159 := by omega
                  exact cw_159
                · skip
                  obtain rfl : x = 160 := by omega
                  exact cw_160
            · skip
              rcases Nat.lt_or_ge x 163 with h163 | h163
              · skip
                rcases Nat.lt_or_ge x 162 with h162 | h162
                · skip
                  obtain rfl : x = 161 := by omega
                  exact cw_161
                · skip
                  obtain rfl : x = 162 := by omega
                  exact cw_162
              · skip
                rcases Nat.lt_or_ge x 164 with h164 | h164
                · skip
                  obtain rfl : x = 163 := by omega
                  exact cw_163
                · skip
                  rcases Nat.lt_or_ge x 165 with h165 | h165
                  · skip
                    obtain rfl : x = 164 := by omega
                    exact cw_164
                  · skip
                    obtain rfl : x = 165 := by omega
                    exact cw_165
        · skip
          rcases Nat.lt_or_ge x 175 with h175 | h175
          · skip
            rcases Nat.lt_or_ge x 170 with h170 | h170
            · skip
              rcases Nat.lt_or_ge x 168 with h168 | h168
              · skip
                rcases Nat.lt_or_ge x 167 with h167 | h167
                · skip
                  obtain rfl : x = 166 := by omega
                  exact cw_166
                · skip
                  obtain rfl : x = 167 := by omega
                  exact cw_167
              · skip
                rcases Nat.lt_or_ge x 169 with h169 | h169
                · skip
                  obtain rfl : x = 168 := by omega
                  exact cw_168
                · skip
                  obtain rfl : x = 169 := by omega
                  exact cw_169
            · skip
              rcases Nat.lt_or_ge x 172 with h172 | h172
              · skip
                rcases Nat.lt_or_ge x 171 with h171 | h171
                · skip
                  obtain rfl : x = 170 := by omega
                  exact cw_170
                · skip
                  obtain rfl : x = 171 := by omega
                  exact cw_171
              · skip
                rcases Nat.lt_or_ge x 173 with h173 | h173
                · skip
                  obtain rfl : x = 172 := by omega
                  exact cw_172
                · skip
                  rcases Nat.lt_or_ge x 174 with h174 | h174
                  · skip
                    obtain rfl : x = 173 := by omega
                    exact cw_173
                  · skip
                    obtain rfl : x = 174 := by omega
                    exact cw_174
          · skip
            rcases Nat.lt_or_ge x 180 with h180 | h180
            · skip
              rcases Nat.lt_or_ge x 177 with h177 | h177
              · skip
                rcases Nat.lt_or_ge x 176 with h176 | h176
                · skip
                  obtain rfl : x = 175 := by omega
                  exact cw_175
                · skip
                  obtain rfl : x = 176 := by omega
                  exact cw_176
              · skip
                rcases Nat.lt_or_ge x 178 with h178 | h178
                · skip
                  obtain rfl : x = 177 := by omega
                  exact cw_177
                · skip
                  rcases Nat.lt_or_ge x 179 with h179 | h179
                  · skip
                    obtain rfl : x = 178 := by omega
                    exact cw_178
                  · skip
                    obtain rfl : x = 179 := by omega
                    exact cw_179
            · skip
              rcases Nat.lt_or_ge x 182 with h182 | h182
              · skip
                rcases Nat.lt_or_ge x 181 with h181 | h181
                · skip
                  obtain rfl : x = 180 := by omega
                  exact cw_180
                · skip
                  obtain rfl : x = 181 := by omega
                  exact cw_181
              · skip
                rcases Nat.lt_or_ge x 183 with h183 | h183
                · skip
                  obtain rfl : x = 182 := by omega
                  exact cw_182
                · skip
                  rcases Nat.lt_or_ge x 184 with h184 | h184
                  · skip
                    obtain rfl : x = 183 := by omega
                    exact cw_183
                  · skip
                    obtain rfl : x = 184 := by omega
                    exact cw_184
      · skip
        rcases Nat.lt_or_ge x 203 with h203 | h203
        · skip
          rcases Nat.lt_or_ge x 194 with h194 | h194
          · skip
            rcases Nat.lt_or_ge x 189 with h189 | h189
            · skip
              rcases Nat.lt_or_ge x 187 with h187 | h187
              · skip
                rcases Nat.lt_or_ge x 186 with h186 | h186
                · skip
                  obtain rfl : x = 185 := by omega
                  exact cw_185
                · skip
                  obtain rfl : x = 186 := by omega
                  exact cw_186
              · skip
                rcases Nat.lt_or_ge x 188 with h188 | h188
                · skip
                  obtain rfl : x = 187 := by omega
                  exact cw_187
                · skip
                  obtain rfl : x = 188 := by omega
                  exact cw_188
            · skip
              rcases Nat.lt_or_ge x 191 with h191 | h191
              · skip
                rcases Nat.lt_or_ge x 190 with h190 | h190
                · skip
                  obtain rfl : x = 189 := by omega
                  exact cw_189
                · skip
                  obtain rfl : x = 190 := by omega
                  exact cw_190
              · skip
                rcases Nat.lt_or_ge x 192 with h192 | h192
                · skip
                  obtain rfl : x = 191 := by omega
                  exact cw_191
                · skip
                  rcases Nat.lt_or_ge x 193 with h193 | h193
                  · skip
                    obtain rfl : x = 192 := by omega
                    exact cw_192
                  · skip
                    obtain rfl : x = 193 := by omega
                    exact cw_193
          · skip
            rcases Nat.lt_or_ge x 198 with h198 | h198
            · skip
              rcases Nat.lt_or_ge x 196 with h196 | h196
              · skip
                rcases Nat.lt_or_ge x 195 with h195 | h195
                · skip
                  obtain rfl : x = 194 := by omega
                  exact cw_194
                · skip
                  obtain rfl : x = 195 := by omega
                  exact cw_195
              · skip
                rcases Nat.lt_or_ge x 197 with h197 | h197
                · skip
                  obtain rfl : x = 196 := by omega
                  exact cw_196
                · skip
                  obtain rfl : x = 197 := by omega
                  exact cw_197
            · skip
              rcases Nat.lt_or_ge x 200 with h200 | h200
              · skip
                rcases Nat.lt_or_ge x 199 with h199 | h199
                · skip
                  obtain rfl : x = 198 := by omega
                  exact cw_198
                · skip
                  obtain rfl : x = 199 := by omega
                  exact cw_199
              · skip
                rcases Nat.lt_or_ge x 201 with h201 | h201
                · skip
                  obtain rfl : x = 200 := by omega
                  exact cw_200
                · skip
                  rcases Nat.lt_or_ge x 202 with h202 | h202
                  · skip
                    obtain rfl : x = 201 := by omega
                    exact cw_201
                  · skip
                    obtain rfl : x = 202 := by omega
                    exact cw_202
        · skip
          rcases Nat.lt_or_ge x 212 with h212 | h212
          · skip
            rcases Nat.lt_or_ge x 207 with h207 | h207
            · skip
              rcases Nat.lt_or_ge x 205 with h205 | h205
              · skip
                rcases Nat.lt_or_ge x 204 with h204 | h204
                · skip
                  obtain rfl : x = 203 := by omega
                  exact cw_203
                · skip
                  obtain rfl : x = 204 := by omega
                  exact cw_204
              · skip
                rcases Nat.lt_or_ge x 206 with h206 | h206
                · skip
                  obtain rfl : x = 205 := by omega
                  exact cw_205
                · skip
                  obtain rfl : x = 206 := by omega
                  exact cw_206
            · skip
              rcases Nat.lt_or_ge x 209 with h209 | h209
              · skip
                rcases Nat.lt_or_ge x 208 with h208 | h208
                · skip
                  obtain rfl : x = 207 := by omega
                  exact cw_207
                · skip
                  obtain rfl : x = 208 := by omega
                  exact cw_208
              · skip
                rcases Nat.lt_or_ge x 210 with h210 | h210
                · skip
                  obtain rfl : x = 209 := by omega
                  exact cw_209
                · skip
                  rcases Nat.lt_or_ge x 211 with h211 | h211
                  · skip
                    obtain rfl : x = 210 := by omega
                    exact cw_210
                  · skip
                    obtain rfl : x = 211 := by omega
                    exact cw_211
          · skip
            rcases Nat.lt_or_ge x 217 with h217 | h217
            · skip
              rcases Nat.lt_or_ge x 214 with h214 | h214
              · skip
                rcases Nat.lt_or_ge x 213 with h213 | h213
                · skip
                  obtain rfl : x = 212 := by omega
                  exact cw_212
                · skip
                  obtain rfl : x = 213 := by omega
                  exact cw_213
              · skip
                rcases Nat.lt_or_ge x 215 with h215 | h215
                · skip
                  obtain rfl : x = 214 := by omega
                  exact cw_214
                · skip
                  rcases Nat.lt_or_ge x 216 with h216 | h216
                  · skip
                    obtain rfl : x = 215 := by omega
                    exact cw_215
                  · skip
                    obtain rfl : x = 216 := by omega
                    exact cw_216
            · skip
              rcases Nat.lt_or_ge x 219 with h219 | h219
              · skip
                rcases Nat.lt_or_ge x 218 with h218 | h218
                · skip
                  obtain rfl : x = 217 := by omega
                  exact cw_217
                · skip
                  obtain rfl : x = 218 := by omega
                  exact cw_218
              · skip
                rcases Nat.lt_or_ge x 220 with h220 | h220
                · skip
                  obtain rfl : x = 219 := by omega
                  exact cw_219
                · skip
                  rcases Nat.lt_or_ge x 221 with h221 | h221
                  · skip
                    obtain rfl : x = 220 := by omega
                    exact cw_220
                  · skip
                    obtain rfl : x = 221 := by omega
                    exact cw_221
    · skip
      rcases Nat.lt_or_ge x 259 with h259 | h259
      · skip
        rcases Nat.lt_or_ge x 240 with h240 | h240
        · skip
          rcases Nat.lt_or_ge x 231 with h231 | h231
          · skip
            rcases Nat.lt_or_ge x 226 with h226 | h226
            · skip
              rcases Nat.lt_or_ge x 224 with h224 | h224
              · skip
                rcases Nat.lt_or_ge x 223 with h223 | h223
                · skip
                  obtain rfl : x = 222 := by omega
                  exact cw_222
                · skip
                  obtain rfl : x = 223 := by omega
                  exact cw_223
              · skip
                rcases Nat.lt_or_ge x 225 with h225 | h225
                · skip
                  obtain rfl : x = 224 := by omega
                  exact cw_224
                · skip
                  obtain rfl : x = 225 := by omega
                  exact cw_225
            · skip
              rcases Nat.lt_or_ge x 228 with h228 | h228
              · skip
                rcases Nat.lt_or_ge x 227 with h227 | h227
                · skip
                  obtain rfl : x = 226 := by omega
                  exact cw_226
                · skip
                  obtain rfl : x = 227 := by omega
                  exact cw_227
              · skip
                rcases Nat.lt_or_ge x 229 with h229 | h229
                · skip
                  obtain rfl : x = 228 := by omega
                  exact cw_228
                · skip
                  rcases Nat.lt_or_ge x 230 with h230 | h230
                  · skip
                    obtain rfl : x = 229 := by omega
                    exact cw_229
                  · skip
                    obtain rfl : x = 230 := by omega
                    exact cw_230
          · skip
            rcases Nat.lt_or_ge x 235 with h235 | h235
            · skip
              rcases Nat.lt_or_ge x 233 with h233 | h233
              · skip
                rcases Nat.lt_or_ge x 232 with h232 | h232
                · skip
                  obtain rfl : x = 231 := by omega
                  exact cw_231
                · skip
                  obtain rfl : x = 232 := by omega
                  exact cw_232
              · skip
                rcases Nat.lt_or_ge x 234 with h234 | h234
                · skip
                  obtain rfl : x = 233 := by omega
                  exact cw_233
                · skip
                  obtain rfl : x = 234 := by omega
                  exact cw_234
            · skip
              rcases Nat.lt_or_ge x 237 with h237 | h237
              · skip
                rcases Nat.lt_or_ge x 236 with h236 | h236
                · skip
                  obtain rfl : x = 235 := by omega
                  exact cw_235
                · skip
                  obtain rfl : x = 236 := by omega
                  exact cw_236
              · skip
                rcases Nat.lt_or_ge x 238 with h238 | h238
                · skip
                  obtain rfl : x = 237 := by omega
                  exact cw_237
                · skip
                  rcases Nat.lt_or_ge x 239 with h239 | h239
                  · skip
                    obtain rfl : x = 238 := by omega
                    exact cw_238
                  · skip
                    obtain rfl : x = 239 := by omega
                    exact cw_239
        · skip
          rcases Nat.lt_or_ge x 249 with h249 | h249
          · skip
            rcases Nat.lt_or_ge x 244 with h244 | h244
            · skip
              rcases Nat.lt_or_ge x 242 with h242 | h242
              · skip
                rcases Nat.lt_or_ge x 241 with h241 | h241
                · skip
                  obtain rfl : x = 240 := by omega
                  exact cw_240
                · skip
                  obtain rfl : x = 241 := by omega
                  exact cw_241
              · skip
                rcases Nat.lt_or_ge x 243 with h243 | h243
                · skip
                  obtain rfl : x = 242 := by omega
                  exact cw_242
                · skip
                  obtain rfl : x = 243 := by omega
                  exact cw_243
            · skip
              rcases Nat.lt_or_ge x 246 with h246 | h246
              · skip
                rcases Nat.lt_or_ge x 245 with h245 | h245
                · skip
                  obtain rfl : x = 244 := by omega
                  exact cw_244
                · skip
                  obtain rfl : x = 245 := by omega
                  exact cw_245
              · skip
                rcases Nat.lt_or_ge x 247 with h247 | h247
                · skip
                  obtain rfl : x = 246 := by omega
                  exact cw_246
                · skip
                  rcases Nat.lt_or_ge x 248 with h248 | h248
                  · skip
                    obtain rfl : x = 247 := by omega
                    exact cw_247
                  · skip
                    obtain rfl : x = 248 := by omega
                    exact cw_248
          · skip
            rcases Nat.lt_or_ge x 254 with h254 | h254
            · skip
              rcases Nat.lt_or_ge x 251 with h251 | h251
              · skip
                rcases Nat.lt_or_ge x 250 with h250 | h250
                · skip
                  obtain rfl : x = 249 := by omega
                  exact cw_249
                · skip
                  obtain rfl : x = 250 := by omega
                  exact cw_250
              · skip
                rcases Nat.lt_or_ge x 252 with h252 | h252
                · skip
                  obtain rfl : x = 251 := by omega
                  exact cw_251
                · skip
                  rcases Nat.lt_or_ge x 253 with h253 | h253
                  · skip
                    obtain rfl : x = 252 := by omega
                    exact cw_252
                  · skip
                    obtain rfl : x = 253 := by omega
                    exact cw_253
            · skip
              rcases Nat.lt_or_ge x 256 with h256 | h256
              · skip
                rcases Nat.lt_or_ge x 255 with h255 | h255
                · skip
                  obtain rfl : x = 254 := by omega
                  exact cw_254
                · skip
                  obtain rfl : x = 255 := by omega
                  exact cw_255
              · skip
                rcases Nat.lt_or_ge x 257 with h257 | h257
                · skip
                  obtain rfl : x = 256 := by omega
                  exact cw_256
                · skip
                  rcases Nat.lt_or_ge x 258 with h258 | h258
                  · skip
                    obtain rfl : x = 257 := by omega
                    exact cw_257
                  · skip
                    obtain rfl : x = 258 := by omega
                    exact cw_258
      · skip
        rcases Nat.lt_or_ge x 277 with h277 | h277
        · skip
          rcases Nat.lt_or_ge x 268 with h268 | h268
          · skip
            rcases Nat.lt_or_ge x 263 with h263 | h263
            · skip
              rcases Nat.lt_or_ge x 261 with h261 | h261
              · skip
                rcases Nat.lt_or_ge x 260 with h260 | h260
                · skip
                  obtain rfl : x = 259 := by omega
                  exact cw_259
                · skip
                  obtain rfl : x = 260 := by omega
                  exact cw_260
              · skip
                rcases Nat.lt_or_ge x 262 with h262 | h262
                · skip
                  obtain rfl : x = 261 := by omega
                  exact cw_261
                · skip
                  obtain rfl : x = 262 := by omega
                  exact cw_262
            · skip
              rcases Nat.lt_or_ge x 265 with h265 | h265
              · skip
                rcases Nat.lt_or_ge x 264 with h264 | h264
                · skip
                  obtain rfl : x = 263 := by omega
                  exact cw_263
                · skip
                  obtain rfl : x = 264 := by omega
                  exact cw_264
              · skip
                rcases Nat.lt_or_ge x 266 with h266 | h266
                · skip
                  obtain rfl : x = 265 := by omega
                  exact cw_265
                · skip
                  rcases Nat.lt_or_ge x 267 with h267 | h267
                  · skip
                    obtain rfl : x = 266 := by omega
                    exact cw_266
                  · skip
                    obtain rfl : x = 267 := by omega
                    exact cw_267
          · skip
            rcases Nat.lt_or_ge x 272 with h272 | h272
            · skip
              rcases Nat.lt_or_ge x 270 with h270 | h270
              · skip
                rcases Nat.lt_or_ge x 269 with h269 | h269
                · skip
                  obtain rfl : x = 268 := by omega
                  exact cw_268
                · skip
                  obtain rfl : x = 269 := by omega
                  exact cw_269
              · skip
                rcases Nat.lt_or_ge x 271 with h271 | h271
                · skip
                  obtain rfl : x = 270 := by omega
                  exact cw_270
                · skip
                  obtain rfl : x = 271 := by omega
                  exact cw_271
            · skip
              rcases Nat.lt_or_ge x 274 with h274 | h274
              · skip
                rcases Nat.lt_or_ge x 273 with h273 | h273
                · skip
                  obtain rfl : x = 272 := by omega
                  exact cw_272
                · skip
                  obtain rfl : x = 273 := by omega
                  exact cw_273
              · skip
                rcases Nat.lt_or_ge x 275 with h275 | h275
                · skip
                  obtain rfl : x = 274 := by omega
                  exact cw_274
                · skip
                  rcases Nat.lt_or_ge x 276 with h276 | h276
                  · skip
                    obtain rfl : x = 275 := by omega
                    exact cw_275
                  · skip
                    obtain rfl : x = 276 := by omega
                    exact cw_276
        · skip
          rcases Nat.lt_or_ge x 286 with h286 | h286
          · skip
            rcases Nat.lt_or_ge x 281 with h281 | h281
            · skip
              rcases Nat.lt_or_ge x 279 with h279 | h279
              · skip
                rcases Nat.lt_or_ge x 278 with h278 | h278
                · skip
                  obtain rfl : x = 277 := by omega
                  exact cw_277
                · skip
                  obtain rfl : x = 278 := by omega
                  exact cw_278
              · skip
                rcases Nat.lt_or_ge x 280 with h280 | h280
                · skip
                  obtain rfl : x = 279 := by omega
                  exact cw_279
                · skip
                  obtain rfl : x = 280 := by omega
                  exact cw_280
            · skip
              rcases Nat.lt_or_ge x 283 with h283 | h283
              · skip
                rcases Nat.lt_or_ge x 282 with h282 | h282
                · skip
                  obtain rfl : x = 281 := by omega
                  exact cw_281
                · skip
                  obtain rfl : x = 282 := by omega
                  exact cw_282
              · skip
                rcases Nat.lt_or_ge x 284 with h284 | h284
                · skip
                  obtain rfl : x = 283 := by omega
                  exact cw_283
                · skip
                  rcases Nat.lt_or_ge x 285 with h285 | h285
                  · skip
                    obtain rfl : x = 284 := by omega
                    exact cw_284
                  · skip
                    obtain rfl : x = 285 := by omega
                    exact cw_285
          · skip
            rcases Nat.lt_or_ge x 291 with h291 | h291
            · skip
              rcases Nat.lt_or_ge x 288 with h288 | h288
              · skip
                rcases Nat.lt_or_ge x 287 with h287 | h287
                · skip
                  obtain rfl : x = 286 := by omega
                  exact cw_286
                · skip
                  obtain rfl : x = 287 := by omega
                  exact cw_287
              · skip
                rcases Nat.lt_or_ge x 289 with h289 | h289
                · skip
                  obtain rfl : x = 288 := by omega
                  exact cw_288
                · skip
                  rcases Nat.lt_or_ge x 290 with h290 | h290
                  · skip
                    obtain rfl : x = 289 := by omega
                    exact cw_289
                  · skip
                    obtain rfl : x = 290 := by omega
                    exact cw_290
            · skip
              rcases Nat.lt_or_ge x 293 with h293 | h293
              · skip
                rcases Nat.lt_or_ge x 292 with h292 | h292
                · skip
                  obtain rfl : x = 291 := by omega
                  exact cw_291
                · skip
                  obtain rfl : x = 292 := by omega
                  exact cw_292
              · skip
                rcases Nat.lt_or_ge x 294 with h294 | h294
                · skip
                  obtain rfl : x = 293 := by omega
                  exact cw_293
                · skip
                  rcases Nat.lt_or_ge x 295 with h295 | h295
                  · skip
                    obtain rfl : x = 294 := by omega
                    exact cw_294
                  · skip
                    obtain rfl : x = 295 := by omega
                    exact cw_295

