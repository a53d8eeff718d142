/-! the reference's constructor -/
abbrev M_Model_init : q_M := (⟨"LensPathsModel", "<init>", "()V"⟩, prog_14_method_1_code, 1, none, "LensPathsModel", [], true, 1, 20)
theorem d_Model_init_0 : decode prog_14_method_1_code 0 = .ok (.aload_n 0, 1) := by decide +kernel
theorem d_Model_init_1 : decode prog_14_method_1_code 1 = .ok (.invokespecial 1, 3) := by decide +kernel
theorem d_Model_init_4 : decode prog_14_method_1_code 4 = .ok (.aload_n 0, 1) := by decide +kernel
theorem d_Model_init_5 : decode prog_14_method_1_code 5 = .ok (.iconst 1, 1) := by decide +kernel
theorem d_Model_init_6 : decode prog_14_method_1_code 6 = .ok (.putfield 7, 3) := by decide +kernel
theorem d_Model_init_9 : decode prog_14_method_1_code 9 = .ok (.aload_n 0, 1) := by decide +kernel
theorem d_Model_init_10 : decode prog_14_method_1_code 10 = .ok (.bipush 8, 2) := by decide +kernel
theorem d_Model_init_12 : decode prog_14_method_1_code 12 = .ok (.newarray .int, 2) := by decide +kernel
theorem d_Model_init_14 : decode prog_14_method_1_code 14 = .ok (.putfield 13, 3) := by decide +kernel
theorem d_Model_init_17 : decode prog_14_method_1_code 17 = .ok (.aload_n 0, 1) := by decide +kernel
theorem d_Model_init_18 : decode prog_14_method_1_code 18 = .ok (.sipush 192, 3) := by decide +kernel
theorem d_Model_init_21 : decode prog_14_method_1_code 21 = .ok (.newarray .int, 2) := by decide +kernel
theorem d_Model_init_23 : decode prog_14_method_1_code 23 = .ok (.putfield 17, 3) := by decide +kernel
theorem d_Model_init_26 : decode prog_14_method_1_code 26 = .ok (.aload_n 0, 1) := by decide +kernel
theorem d_Model_init_27 : decode prog_14_method_1_code 27 = .ok (.sipush 192, 3) := by decide +kernel
theorem d_Model_init_30 : decode prog_14_method_1_code 30 = .ok (.newarray .int, 2) := by decide +kernel
theorem d_Model_init_32 : decode prog_14_method_1_code 32 = .ok (.putfield 20, 3) := by decide +kernel
theorem d_Model_init_35 : decode prog_14_method_1_code 35 = .ok (.aload_n 0, 1) := by decide +kernel
theorem d_Model_init_36 : decode prog_14_method_1_code 36 = .ok (.sipush 192, 3) := by decide +kernel
theorem d_Model_init_39 : decode prog_14_method_1_code 39 = .ok (.newarray .int, 2) := by decide +kernel
theorem d_Model_init_41 : decode prog_14_method_1_code 41 = .ok (.putfield 23, 3) := by decide +kernel
theorem d_Model_init_44 : decode prog_14_method_1_code 44 = .ok (.aload_n 0, 1) := by decide +kernel
theorem d_Model_init_45 : decode prog_14_method_1_code 45 = .ok (.sipush 192, 3) := by decide +kernel
theorem d_Model_init_48 : decode prog_14_method_1_code 48 = .ok (.newarray .int, 2) := by decide +kernel
theorem d_Model_init_50 : decode prog_14_method_1_code 50 = .ok (.putfield 26, 3) := by decide +kernel
theorem d_Model_init_53 : decode prog_14_method_1_code 53 = .ok (.aload_n 0, 1) := by decide +kernel
theorem d_Model_init_54 : decode prog_14_method_1_code 54 = .ok (.bipush 17, 2) := by decide +kernel
theorem d_Model_init_56 : decode prog_14_method_1_code 56 = .ok (.newarray .int, 2) := by decide +kernel
theorem d_Model_init_58 : decode prog_14_method_1_code 58 = .ok (.putfield 29, 3) := by decide +kernel
theorem d_Model_init_61 : decode prog_14_method_1_code 61 = .ok (.aload_n 0, 1) := by decide +kernel
theorem d_Model_init_62 : decode prog_14_method_1_code 62 = .ok (.bipush 17, 2) := by decide +kernel
theorem d_Model_init_64 : decode prog_14_method_1_code 64 = .ok (.newarray .int, 2) := by decide +kernel
theorem d_Model_init_66 : decode prog_14_method_1_code 66 = .ok (.putfield 32, 3) := by decide +kernel
theorem d_Model_init_69 : decode prog_14_method_1_code 69 = .ok (.aload_n 0, 1) := by decide +kernel
theorem d_Model_init_70 : decode prog_14_method_1_code 70 = .ok (.bipush 17, 2) := by decide +kernel
theorem d_Model_init_72 : decode prog_14_method_1_code 72 = .ok (.newarray .int, 2) := by decide +kernel
theorem d_Model_init_74 : decode prog_14_method_1_code 74 = .ok (.putfield 35, 3) := by decide +kernel
theorem d_Model_init_77 : decode prog_14_method_1_code 77 = .ok (.aload_n 0, 1) := by decide +kernel
theorem d_Model_init_78 : decode prog_14_method_1_code 78 = .ok (.sipush 1088, 3) := by decide +kernel
theorem d_Model_init_81 : decode prog_14_method_1_code 81 = .ok (.newarray .int, 2) := by decide +kernel
theorem d_Model_init_83 : decode prog_14_method_1_code 83 = .ok (.putfield 38, 3) := by decide +kernel
theorem d_Model_init_86 : decode prog_14_method_1_code 86 = .ok (.aload_n 0, 1) := by decide +kernel
theorem d_Model_init_87 : decode prog_14_method_1_code 87 = .ok (.bipush 16, 2) := by decide +kernel
theorem d_Model_init_89 : decode prog_14_method_1_code 89 = .ok (.newarray .int, 2) := by decide +kernel
theorem d_Model_init_91 : decode prog_14_method_1_code 91 = .ok (.dup, 1) := by decide +kernel
theorem d_Model_init_92 : decode prog_14_method_1_code 92 = .ok (.iconst 0, 1) := by decide +kernel
theorem d_Model_init_93 : decode prog_14_method_1_code 93 = .ok (.iconst (-1), 1) := by decide +kernel
theorem d_Model_init_94 : decode prog_14_method_1_code 94 = .ok (.iastore, 1) := by decide +kernel
theorem d_Model_init_95 : decode prog_14_method_1_code 95 = .ok (.dup, 1) := by decide +kernel
theorem d_Model_init_96 : decode prog_14_method_1_code 96 = .ok (.iconst 1, 1) := by decide +kernel
theorem d_Model_init_97 : decode prog_14_method_1_code 97 = .ok (.iconst (-1), 1) := by decide +kernel
theorem d_Model_init_98 : decode prog_14_method_1_code 98 = .ok (.iastore, 1) := by decide +kernel
theorem d_Model_init_99 : decode prog_14_method_1_code 99 = .ok (.dup, 1) := by decide +kernel
theorem d_Model_init_100 : decode prog_14_method_1_code 100 = .ok (.iconst 2, 1) := by decide +kernel
theorem d_Model_init_101 : decode prog_14_method_1_code 101 = .ok (.iconst (-1), 1) := by decide +kernel
theorem d_Model_init_102 : decode prog_14_method_1_code 102 = .ok (.iastore, 1) := by decide +kernel
theorem d_Model_init_103 : decode prog_14_method_1_code 103 = .ok (.dup, 1) := by decide +kernel
theorem d_Model_init_104 : decode prog_14_method_1_code 104 = .ok (.iconst 3, 1) := by decide +kernel
theorem d_Model_init_105 : decode prog_14_method_1_code 105 = .ok (.iconst (-1), 1) := by decide +kernel
theorem d_Model_init_106 : decode prog_14_method_1_code 106 = .ok (.iastore, 1) := by decide +kernel
theorem d_Model_init_107 : decode prog_14_method_1_code 107 = .ok (.dup, 1) := by decide +kernel
theorem d_Model_init_108 : decode prog_14_method_1_code 108 = .ok (.iconst 4, 1) := by decide +kernel
theorem d_Model_init_109 : decode prog_14_method_1_code 109 = .ok (.iconst (-1), 1) := by decide +kernel
theorem d_Model_init_110 : decode prog_14_method_1_code 110 = .ok (.iastore, 1) := by decide +kernel
theorem d_Model_init_111 : decode prog_14_method_1_code 111 = .ok (.dup, 1) := by decide +kernel
theorem d_Model_init_112 : decode prog_14_method_1_code 112 = .ok (.iconst 5, 1) := by decide +kernel
theorem d_Model_init_113 : decode prog_14_method_1_code 113 = .ok (.iconst (-1), 1) := by decide +kernel
theorem d_Model_init_114 : decode prog_14_method_1_code 114 = .ok (.iastore, 1) := by decide +kernel
theorem d_Model_init_115 : decode prog_14_method_1_code 115 = .ok (.dup, 1) := by decide +kernel
theorem d_Model_init_116 : decode prog_14_method_1_code 116 = .ok (.bipush 6, 2) := by decide +kernel
theorem d_Model_init_118 : decode prog_14_method_1_code 118 = .ok (.iconst (-1), 1) := by decide +kernel
theorem d_Model_init_119 : decode prog_14_method_1_code 119 = .ok (.iastore, 1) := by decide +kernel
theorem d_Model_init_120 : decode prog_14_method_1_code 120 = .ok (.dup, 1) := by decide +kernel
theorem d_Model_init_121 : decode prog_14_method_1_code 121 = .ok (.bipush 7, 2) := by decide +kernel
theorem d_Model_init_123 : decode prog_14_method_1_code 123 = .ok (.iconst (-1), 1) := by decide +kernel
theorem d_Model_init_124 : decode prog_14_method_1_code 124 = .ok (.iastore, 1) := by decide +kernel
theorem d_Model_init_125 : decode prog_14_method_1_code 125 = .ok (.dup, 1) := by decide +kernel
theorem d_Model_init_126 : decode prog_14_method_1_code 126 = .ok (.bipush 8, 2) := by decide +kernel
theorem d_Model_init_128 : decode prog_14_method_1_code 128 = .ok (.iconst (-1), 1) := by decide +kernel
theorem d_Model_init_129 : decode prog_14_method_1_code 129 = .ok (.iastore, 1) := by decide +kernel
theorem d_Model_init_130 : decode prog_14_method_1_code 130 = .ok (.dup, 1) := by decide +kernel
theorem d_Model_init_131 : decode prog_14_method_1_code 131 = .ok (.bipush 9, 2) := by decide +kernel
theorem d_Model_init_133 : decode prog_14_method_1_code 133 = .ok (.iconst (-1), 1) := by decide +kernel
theorem d_Model_init_134 : decode prog_14_method_1_code 134 = .ok (.iastore, 1) := by decide +kernel
theorem d_Model_init_135 : decode prog_14_method_1_code 135 = .ok (.dup, 1) := by decide +kernel
theorem d_Model_init_136 : decode prog_14_method_1_code 136 = .ok (.bipush 10, 2) := by decide +kernel
theorem d_Model_init_138 : decode prog_14_method_1_code 138 = .ok (.iconst (-1), 1) := by decide +kernel
theorem d_Model_init_139 : decode prog_14_method_1_code 139 = .ok (.iastore, 1) := by decide +kernel
theorem d_Model_init_140 : decode prog_14_method_1_code 140 = .ok (.dup, 1) := by decide +kernel
theorem d_Model_init_141 : decode prog_14_method_1_code 141 = .ok (.bipush 11, 2) := by decide +kernel
theorem d_Model_init_143 : decode prog_14_method_1_code 143 = .ok (.iconst (-1), 1) := by decide +kernel
theorem d_Model_init_144 : decode prog_14_method_1_code 144 = .ok (.iastore, 1) := by decide +kernel
theorem d_Model_init_145 : decode prog_14_method_1_code 145 = .ok (.dup, 1) := by decide +kernel
theorem d_Model_init_146 : decode prog_14_method_1_code 146 = .ok (.bipush 12, 2) := by decide +kernel
theorem d_Model_init_148 : decode prog_14_method_1_code 148 = .ok (.iconst (-1), 1) := by decide +kernel
theorem d_Model_init_149 : decode prog_14_method_1_code 149 = .ok (.iastore, 1) := by decide +kernel
theorem d_Model_init_150 : decode prog_14_method_1_code 150 = .ok (.dup, 1) := by decide +kernel
theorem d_Model_init_151 : decode prog_14_method_1_code 151 = .ok (.bipush 13, 2) := by decide +kernel
theorem d_Model_init_153 : decode prog_14_method_1_code 153 = .ok (.iconst (-1), 1) := by decide +kernel
theorem d_Model_init_154 : decode prog_14_method_1_code 154 = .ok (.iastore, 1) := by decide +kernel
theorem d_Model_init_155 : decode prog_14_method_1_code 155 = .ok (.dup, 1) := by decide +kernel
theorem d_Model_init_156 : decode prog_14_method_1_code 156 = .ok (.bipush 14, 2) := by decide +kernel
theorem d_Model_init_158 : decode prog_14_method_1_code 158 = .ok (.iconst (-1), 1) := by decide +kernel
theorem d_Model_init_159 : decode prog_14_method_1_code 159 = .ok (.iastore, 1) := by decide +kernel
theorem d_Model_init_160 : decode prog_14_method_1_code 160 = .ok (.dup, 1) := by decide +kernel
theorem d_Model_init_161 : decode prog_14_method_1_code 161 = .ok (.bipush 15, 2) := by decide +kernel
theorem d_Model_init_163 : decode prog_14_method_1_code 163 = .ok (.iconst (-1), 1) := by decide +kernel
theorem d_Model_init_164 : decode prog_14_method_1_code 164 = .ok (.iastore, 1) := by decide +kernel
theorem d_Model_init_165 : decode prog_14_method_1_code 165 = .ok (.putfield 41, 3) := by decide +kernel
theorem d_Model_init_168 : decode prog_14_method_1_code 168 = .ok (.aload_n 0, 1) := by decide +kernel
theorem d_Model_init_169 : decode prog_14_method_1_code 169 = .ok (.sipush 2688, 3) := by decide +kernel
theorem d_Model_init_172 : decode prog_14_method_1_code 172 = .ok (.newarray .int, 2) := by decide +kernel
theorem d_Model_init_174 : decode prog_14_method_1_code 174 = .ok (.putfield 44, 3) := by decide +kernel
theorem d_Model_init_177 : decode prog_14_method_1_code 177 = .ok (.aload_n 0, 1) := by decide +kernel
theorem d_Model_init_178 : decode prog_14_method_1_code 178 = .ok (.sipush 2048, 3) := by decide +kernel
theorem d_Model_init_181 : decode prog_14_method_1_code 181 = .ok (.newarray .int, 2) := by decide +kernel
theorem d_Model_init_183 : decode prog_14_method_1_code 183 = .ok (.putfield 47, 3) := by decide +kernel
theorem d_Model_init_186 : decode prog_14_method_1_code 186 = .ok (.aload_n 0, 1) := by decide +kernel
theorem d_Model_init_187 : decode prog_14_method_1_code 187 = .ok (.sipush 28672, 3) := by decide +kernel
theorem d_Model_init_190 : decode prog_14_method_1_code 190 = .ok (.newarray .int, 2) := by decide +kernel
theorem d_Model_init_192 : decode prog_14_method_1_code 192 = .ok (.putfield 50, 3) := by decide +kernel
theorem d_Model_init_195 : decode prog_14_method_1_code 195 = .ok (.aload_n 0, 1) := by decide +kernel
theorem d_Model_init_196 : decode prog_14_method_1_code 196 = .ok (.bipush 26, 2) := by decide +kernel
theorem d_Model_init_198 : decode prog_14_method_1_code 198 = .ok (.newarray .int, 2) := by decide +kernel
theorem d_Model_init_200 : decode prog_14_method_1_code 200 = .ok (.putfield 53, 3) := by decide +kernel
theorem d_Model_init_203 : decode prog_14_method_1_code 203 = .ok (.aload_n 0, 1) := by decide +kernel
theorem d_Model_init_204 : decode prog_14_method_1_code 204 = .ok (.bipush 26, 2) := by decide +kernel
theorem d_Model_init_206 : decode prog_14_method_1_code 206 = .ok (.newarray .int, 2) := by decide +kernel
theorem d_Model_init_208 : decode prog_14_method_1_code 208 = .ok (.putfield 56, 3) := by decide +kernel
theorem d_Model_init_211 : decode prog_14_method_1_code 211 = .ok (.aload_n 0, 1) := by decide +kernel
theorem d_Model_init_212 : decode prog_14_method_1_code 212 = .ok (.bipush 26, 2) := by decide +kernel
theorem d_Model_init_214 : decode prog_14_method_1_code 214 = .ok (.newarray .int, 2) := by decide +kernel
theorem d_Model_init_216 : decode prog_14_method_1_code 216 = .ok (.putfield 59, 3) := by decide +kernel
theorem d_Model_init_219 : decode prog_14_method_1_code 219 = .ok (.aload_n 0, 1) := by decide +kernel
theorem d_Model_init_220 : decode prog_14_method_1_code 220 = .ok (.bipush 26, 2) := by decide +kernel
theorem d_Model_init_222 : decode prog_14_method_1_code 222 = .ok (.newarray .int, 2) := by decide +kernel
theorem d_Model_init_224 : decode prog_14_method_1_code 224 = .ok (.putfield 62, 3) := by decide +kernel
theorem d_Model_init_227 : decode prog_14_method_1_code 227 = .ok (.aload_n 0, 1) := by decide +kernel
theorem d_Model_init_228 : decode prog_14_method_1_code 228 = .ok (.sipush 182, 3) := by decide +kernel
theorem d_Model_init_231 : decode prog_14_method_1_code 231 = .ok (.newarray .int, 2) := by decide +kernel
theorem d_Model_init_233 : decode prog_14_method_1_code 233 = .ok (.putfield 65, 3) := by decide +kernel
theorem d_Model_init_236 : decode prog_14_method_1_code 236 = .ok (.aload_n 0, 1) := by decide +kernel
theorem d_Model_init_237 : decode prog_14_method_1_code 237 = .ok (.bipush 26, 2) := by decide +kernel
theorem d_Model_init_239 : decode prog_14_method_1_code 239 = .ok (.newarray .int, 2) := by decide +kernel
theorem d_Model_init_241 : decode prog_14_method_1_code 241 = .ok (.putfield 68, 3) := by decide +kernel
theorem d_Model_init_244 : decode prog_14_method_1_code 244 = .ok (.aload_n 0, 1) := by decide +kernel
theorem d_Model_init_245 : decode prog_14_method_1_code 245 = .ok (.sipush 128, 3) := by decide +kernel
theorem d_Model_init_248 : decode prog_14_method_1_code 248 = .ok (.newarray .int, 2) := by decide +kernel
theorem d_Model_init_250 : decode prog_14_method_1_code 250 = .ok (.putfield 71, 3) := by decide +kernel
theorem d_Model_init_253 : decode prog_14_method_1_code 253 = .ok (.aload_n 0, 1) := by decide +kernel
theorem d_Model_init_254 : decode prog_14_method_1_code 254 = .ok (.sipush 1792, 3) := by decide +kernel
theorem d_Model_init_257 : decode prog_14_method_1_code 257 = .ok (.newarray .int, 2) := by decide +kernel
theorem d_Model_init_259 : decode prog_14_method_1_code 259 = .ok (.putfield 74, 3) := by decide +kernel
theorem d_Model_init_262 : decode prog_14_method_1_code 262 = .ok (.aload_n 0, 1) := by decide +kernel
theorem d_Model_init_263 : decode prog_14_method_1_code 263 = .ok (.sipush 1024, 3) := by decide +kernel
theorem d_Model_init_266 : decode prog_14_method_1_code 266 = .ok (.newarray .int, 2) := by decide +kernel
theorem d_Model_init_268 : decode prog_14_method_1_code 268 = .ok (.putfield 77, 3) := by decide +kernel
theorem d_Model_init_271 : decode prog_14_method_1_code 271 = .ok (.aload_n 0, 1) := by decide +kernel
theorem d_Model_init_272 : decode prog_14_method_1_code 272 = .ok (.sipush 5120, 3) := by decide +kernel
theorem d_Model_init_275 : decode prog_14_method_1_code 275 = .ok (.newarray .int, 2) := by decide +kernel
theorem d_Model_init_277 : decode prog_14_method_1_code 277 = .ok (.putfield 80, 3) := by decide +kernel
theorem d_Model_init_280 : decode prog_14_method_1_code 280 = .ok (.aload_n 0, 1) := by decide +kernel
theorem d_Model_init_281 : decode prog_14_method_1_code 281 = .ok (.bipush 24, 2) := by decide +kernel
theorem d_Model_init_283 : decode prog_14_method_1_code 283 = .ok (.newarray .int, 2) := by decide +kernel
theorem d_Model_init_285 : decode prog_14_method_1_code 285 = .ok (.putfield 83, 3) := by decide +kernel
theorem d_Model_init_288 : decode prog_14_method_1_code 288 = .ok (.aload_n 0, 1) := by decide +kernel
theorem d_Model_init_289 : decode prog_14_method_1_code 289 = .ok (.bipush 9, 2) := by decide +kernel
theorem d_Model_init_291 : decode prog_14_method_1_code 291 = .ok (.newarray .int, 2) := by decide +kernel
theorem d_Model_init_293 : decode prog_14_method_1_code 293 = .ok (.putfield 86, 3) := by decide +kernel
theorem d_Model_init_296 : decode prog_14_method_1_code 296 = .ok (.aload_n 0, 1) := by decide +kernel
theorem d_Model_init_297 : decode prog_14_method_1_code 297 = .ok (.bipush 9, 2) := by decide +kernel
theorem d_Model_init_299 : decode prog_14_method_1_code 299 = .ok (.newarray .int, 2) := by decide +kernel
theorem d_Model_init_301 : decode prog_14_method_1_code 301 = .ok (.putfield 89, 3) := by decide +kernel
theorem d_Model_init_304 : decode prog_14_method_1_code 304 = .ok (.aload_n 0, 1) := by decide +kernel
theorem d_Model_init_305 : decode prog_14_method_1_code 305 = .ok (.bipush 8, 2) := by decide +kernel
theorem d_Model_init_307 : decode prog_14_method_1_code 307 = .ok (.newarray .int, 2) := by decide +kernel
theorem d_Model_init_309 : decode prog_14_method_1_code 309 = .ok (.putfield 92, 3) := by decide +kernel
theorem d_Model_init_312 : decode prog_14_method_1_code 312 = .ok (.aload_n 0, 1) := by decide +kernel
theorem d_Model_init_313 : decode prog_14_method_1_code 313 = .ok (.bipush 7, 2) := by decide +kernel
theorem d_Model_init_315 : decode prog_14_method_1_code 315 = .ok (.newarray .int, 2) := by decide +kernel
theorem d_Model_init_317 : decode prog_14_method_1_code 317 = .ok (.putfield 95, 3) := by decide +kernel
theorem d_Model_init_320 : decode prog_14_method_1_code 320 = .ok (.aload_n 0, 1) := by decide +kernel
theorem d_Model_init_321 : decode prog_14_method_1_code 321 = .ok (.bipush 7, 2) := by decide +kernel
theorem d_Model_init_323 : decode prog_14_method_1_code 323 = .ok (.newarray .int, 2) := by decide +kernel
theorem d_Model_init_325 : decode prog_14_method_1_code 325 = .ok (.putfield 98, 3) := by decide +kernel
theorem d_Model_init_328 : decode prog_14_method_1_code 328 = .ok (.return_, 1) := by decide +kernel
theorem q_upI_at {I : q_I} {a b : Nat} {i x : Int32} (h : b = a) : q_upI I a i x b i = x := by rw [h]; exact q_upI_self
section MInit
variable {g : q_G} {sz : Nat} {T : q_T} {I : q_I} {R : q_R} {J : q_J}
set_option maxHeartbeats 4000000 in
theorem c_Model_init (m : Nat) (hx : m + 1 = sz) (hT : T m = some (100 + 11, 0)) : q_Cv g M_Model_init [.ref m] (sz, T, I, R, J) 29 43779 (fun h' => ∃ (T' : q_T) (I' : q_I) (R' : q_R), h' = (m + 30, T', I', R', J) ∧ q_L 11 t_Model m T' R' ∧ (∀ b, b < m → T' b = T b ∧ R' b = R b) ∧ (∀ b, m + 30 ≤ b → T' b = T b ∧ R' b = R b) ∧ (∀ b i, b ≠ m → b ≠ m + 10 → I' b i = I b i) ∧ I' m (nI 1) = nI 1 ∧ (∀ k, k < 39 → k ≠ 1 → I' m (nI k) = I m (nI k)) ∧ ∀ k, k < 16 → I' (m + 10) (nI k) = -1) := by
  subst hx
  refine q_C.of (ls0 := [some (.ref m)]) (by decide) rfl (fun _ => rfl) (Nat.le_of_ble_eq_true rfl) rfl ?_
  refine q_aload_n d_Model_init_0 rfl rfl ?_
  refine q_obj d_Model_init_1 w_1103 w_30 w_31 (Nat.le_of_ble_eq_true rfl) (Nat.le_of_ble_eq_true rfl) (Nat.le_of_ble_eq_true rfl) ?_
  refine q_aload_n d_Model_init_4 rfl rfl ?_
  refine q_iconst (v := nI 1) d_Model_init_5 (by decide) ?_
  refine q_putI (ci := 11) (fk := 1) d_Model_init_6 rfl (Nat.le_of_ble_eq_true rfl) w_1105 (Or.inl rfl) (fun _ _ => rfl) rfl rfl (by first | assumption | rfl | (simp (disch := omega) only [q_upT_self, q_upT_ne, q_upR_self, q_upR_nea, q_upR_nk, q_upT_at, *]; done) | (simp (disch := omega) only [q_upT_self, q_upT_ne, q_upR_self, q_upR_nea, q_upR_nk, q_upT_at, *]; rfl)) ?_
  refine q_aload_n d_Model_init_9 rfl rfl ?_
  refine q_bipush (v := nI 8) d_Model_init_10 (by decide) ?_
  refine q_newa (ty := .int) (kd := 0) (N := _) d_Model_init_12 (Or.inl ⟨rfl, rfl⟩) w_91 rfl (by omega) (by omega) (by omega) ?_
  refine q_putR (ci := 11) (fk := 2) (x := some _) d_Model_init_14 rfl (Nat.le_of_ble_eq_true rfl) w_1106 (Or.inr ⟨rfl, rfl, rfl⟩) (fun _ _ => rfl) rfl rfl (by first | assumption | rfl | (simp (disch := omega) only [q_upT_self, q_upT_ne, q_upR_self, q_upR_nea, q_upR_nk, q_upT_at, *]; done) | (simp (disch := omega) only [q_upT_self, q_upT_ne, q_upR_self, q_upR_nea, q_upR_nk, q_upT_at, *]; rfl)) ?_
  refine q_aload_n d_Model_init_17 rfl rfl ?_
  refine q_sipush (v := nI 192) d_Model_init_18 (by decide) ?_
  refine q_newa (ty := .int) (kd := 0) (N := _) d_Model_init_21 (Or.inl ⟨rfl, rfl⟩) w_91 rfl (by omega) (by omega) (by omega) ?_
  refine q_putR (ci := 11) (fk := 3) (x := some _) d_Model_init_23 rfl (Nat.le_of_ble_eq_true rfl) w_1107 (Or.inr ⟨rfl, rfl, rfl⟩) (fun _ _ => rfl) rfl rfl (by first | assumption | rfl | (simp (disch := omega) only [q_upT_self, q_upT_ne, q_upR_self, q_upR_nea, q_upR_nk, q_upT_at, *]; done) | (simp (disch := omega) only [q_upT_self, q_upT_ne, q_upR_self, q_upR_nea, q_upR_nk, q_upT_at, *]; rfl)) ?_
  refine q_aload_n d_Model_init_26 rfl rfl ?_
  refine q_sipush (v := nI 192) d_Model_init_27 (by decide) ?_
  refine q_newa (ty := .int) (kd := 0) (N := _) d_Model_init_30 (Or.inl ⟨rfl, rfl⟩) w_91 rfl (by omega) (by omega) (by omega) ?_
  refine q_putR (ci := 11) (fk := 4) (x := some _) d_Model_init_32 rfl (Nat.le_of_ble_eq_true rfl) w_1108 (Or.inr ⟨rfl, rfl, rfl⟩) (fun _ _ => rfl) rfl rfl (by first | assumption | rfl | (simp (disch := omega) only [q_upT_self, q_upT_ne, q_upR_self, q_upR_nea, q_upR_nk, q_upT_at, *]; done) | (simp (disch := omega) only [q_upT_self, q_upT_ne, q_upR_self, q_upR_nea, q_upR_nk, q_upT_at, *]; rfl)) ?_
  refine q_aload_n d_Model_init_35 rfl rfl ?_
  refine q_sipush (v := nI 192) d_Model_init_36 (by decide) ?_
  refine q_newa (ty := .int) (kd := 0) (N := _) d_Model_init_39 (Or.inl ⟨rfl, rfl⟩) w_91 rfl (by omega) (by omega) (by omega) ?_
  refine q_putR (ci := 11) (fk := 5) (x := some _) d_Model_init_41 rfl (Nat.le_of_ble_eq_true rfl) w_1109 (Or.inr ⟨rfl, rfl, rfl⟩) (fun _ _ => rfl) rfl rfl (by first | assumption | rfl | (simp (disch := omega) only [q_upT_self, q_upT_ne, q_upR_self, q_upR_nea, q_upR_nk, q_upT_at, *]; done) | (simp (disch := omega) only [q_upT_self, q_upT_ne, q_upR_self, q_upR_nea, q_upR_nk, q_upT_at, *]; rfl)) ?_
  refine q_aload_n d_Model_init_44 rfl rfl ?_
  refine q_sipush (v := nI 192) d_Model_init_45 (by decide) ?_
  refine q_newa (ty := .int) (kd := 0) (N := _) d_Model_init_48 (Or.inl ⟨rfl, rfl⟩) w_91 rfl (by omega) (by omega) (by omega) ?_
  refine q_putR (ci := 11) (fk := 6) (x := some _) d_Model_init_50 rfl (Nat.le_of_ble_eq_true rfl) w_1110 (Or.inr ⟨rfl, rfl, rfl⟩) (fun _ _ => rfl) rfl rfl (by first | assumption | rfl | (simp (disch := omega) only [q_upT_self, q_upT_ne, q_upR_self, q_upR_nea, q_upR_nk, q_upT_at, *]; done) | (simp (disch := omega) only [q_upT_self, q_upT_ne, q_upR_self, q_upR_nea, q_upR_nk, q_upT_at, *]; rfl)) ?_
  refine q_aload_n d_Model_init_53 rfl rfl ?_
  refine q_bipush (v := nI 17) d_Model_init_54 (by decide) ?_
  refine q_newa (ty := .int) (kd := 0) (N := _) d_Model_init_56 (Or.inl ⟨rfl, rfl⟩) w_91 rfl (by omega) (by omega) (by omega) ?_
  refine q_putR (ci := 11) (fk := 9) (x := some _) d_Model_init_58 rfl (Nat.le_of_ble_eq_true rfl) w_1113 (Or.inr ⟨rfl, rfl, rfl⟩) (fun _ _ => rfl) rfl rfl (by first | assumption | rfl | (simp (disch := omega) only [q_upT_self, q_upT_ne, q_upR_self, q_upR_nea, q_upR_nk, q_upT_at, *]; done) | (simp (disch := omega) only [q_upT_self, q_upT_ne, q_upR_self, q_upR_nea, q_upR_nk, q_upT_at, *]; rfl)) ?_
  refine q_aload_n d_Model_init_61 rfl rfl ?_
  refine q_bipush (v := nI 17) d_Model_init_62 (by decide) ?_
  refine q_newa (ty := .int) (kd := 0) (N := _) d_Model_init_64 (Or.inl ⟨rfl, rfl⟩) w_91 rfl (by omega) (by omega) (by omega) ?_
  refine q_putR (ci := 11) (fk := 10) (x := some _) d_Model_init_66 rfl (Nat.le_of_ble_eq_true rfl) w_1114 (Or.inr ⟨rfl, rfl, rfl⟩) (fun _ _ => rfl) rfl rfl (by first | assumption | rfl | (simp (disch := omega) only [q_upT_self, q_upT_ne, q_upR_self, q_upR_nea, q_upR_nk, q_upT_at, *]; done) | (simp (disch := omega) only [q_upT_self, q_upT_ne, q_upR_self, q_upR_nea, q_upR_nk, q_upT_at, *]; rfl)) ?_
  refine q_aload_n d_Model_init_69 rfl rfl ?_
  refine q_bipush (v := nI 17) d_Model_init_70 (by decide) ?_
  refine q_newa (ty := .int) (kd := 0) (N := _) d_Model_init_72 (Or.inl ⟨rfl, rfl⟩) w_91 rfl (by omega) (by omega) (by omega) ?_
  refine q_putR (ci := 11) (fk := 11) (x := some _) d_Model_init_74 rfl (Nat.le_of_ble_eq_true rfl) w_1115 (Or.inr ⟨rfl, rfl, rfl⟩) (fun _ _ => rfl) rfl rfl (by first | assumption | rfl | (simp (disch := omega) only [q_upT_self, q_upT_ne, q_upR_self, q_upR_nea, q_upR_nk, q_upT_at, *]; done) | (simp (disch := omega) only [q_upT_self, q_upT_ne, q_upR_self, q_upR_nea, q_upR_nk, q_upT_at, *]; rfl)) ?_
  refine q_aload_n d_Model_init_77 rfl rfl ?_
  refine q_sipush (v := nI 1088) d_Model_init_78 (by decide) ?_
  refine q_newa (ty := .int) (kd := 0) (N := _) d_Model_init_81 (Or.inl ⟨rfl, rfl⟩) w_91 rfl (by omega) (by omega) (by omega) ?_
  refine q_putR (ci := 11) (fk := 12) (x := some _) d_Model_init_83 rfl (Nat.le_of_ble_eq_true rfl) w_1116 (Or.inr ⟨rfl, rfl, rfl⟩) (fun _ _ => rfl) rfl rfl (by first | assumption | rfl | (simp (disch := omega) only [q_upT_self, q_upT_ne, q_upR_self, q_upR_nea, q_upR_nk, q_upT_at, *]; done) | (simp (disch := omega) only [q_upT_self, q_upT_ne, q_upR_self, q_upR_nea, q_upR_nk, q_upT_at, *]; rfl)) ?_
  refine q_aload_n d_Model_init_86 rfl rfl ?_
  refine q_bipush (v := nI 16) d_Model_init_87 (by decide) ?_
  refine q_newa (ty := .int) (kd := 0) (N := _) d_Model_init_89 (Or.inl ⟨rfl, rfl⟩) w_91 rfl (by omega) (by omega) (by omega) ?_
  refine q_dup d_Model_init_91 rfl ?_
  refine q_iconst (v := nI 0) d_Model_init_92 (by decide) ?_
  refine q_iconst (v := (-1)) d_Model_init_93 (by decide) ?_
  refine q_iast d_Model_init_94 (by first | assumption | rfl | (simp (disch := omega) only [q_upT_self, q_upT_ne, q_upR_self, q_upR_nea, q_upR_nk, q_upT_at, *]; done) | (simp (disch := omega) only [q_upT_self, q_upT_ne, q_upR_self, q_upR_nea, q_upR_nk, q_upT_at, *]; rfl)) (by first | assumption | exact vp_in_nI (by omega) (by omega)) ?_
  refine q_dup d_Model_init_95 rfl ?_
  refine q_iconst (v := nI 1) d_Model_init_96 (by decide) ?_
  refine q_iconst (v := (-1)) d_Model_init_97 (by decide) ?_
  refine q_iast d_Model_init_98 (by first | assumption | rfl | (simp (disch := omega) only [q_upT_self, q_upT_ne, q_upR_self, q_upR_nea, q_upR_nk, q_upT_at, *]; done) | (simp (disch := omega) only [q_upT_self, q_upT_ne, q_upR_self, q_upR_nea, q_upR_nk, q_upT_at, *]; rfl)) (by first | assumption | exact vp_in_nI (by omega) (by omega)) ?_
  refine q_dup d_Model_init_99 rfl ?_
  refine q_iconst (v := nI 2) d_Model_init_100 (by decide) ?_
  refine q_iconst (v := (-1)) d_Model_init_101 (by decide) ?_
  refine q_iast d_Model_init_102 (by first | assumption | rfl | (simp (disch := omega) only [q_upT_self, q_upT_ne, q_upR_self, q_upR_nea, q_upR_nk, q_upT_at, *]; done) | (simp (disch := omega) only [q_upT_self, q_upT_ne, q_upR_self, q_upR_nea, q_upR_nk, q_upT_at, *]; rfl)) (by first | assumption | exact vp_in_nI (by omega) (by omega)) ?_
  refine q_dup d_Model_init_103 rfl ?_
  refine q_iconst (v := nI 3) d_Model_init_104 (by decide) ?_
  refine q_iconst (v := (-1)) d_Model_init_105 (by decide) ?_
  refine q_iast d_Model_init_106 (by first | assumption | rfl | (simp (disch := omega) only [q_upT_self, q_upT_ne, q_upR_self, q_upR_nea, q_upR_nk, q_upT_at, *]; done) | (simp (disch := omega) only [q_upT_self, q_upT_ne, q_upR_self, q_upR_nea, q_upR_nk, q_upT_at, *]; rfl)) (by first | assumption | exact vp_in_nI (by omega) (by omega)) ?_
  refine q_dup d_Model_init_107 rfl ?_
  refine q_iconst (v := nI 4) d_Model_init_108 (by decide) ?_
  refine q_iconst (v := (-1)) d_Model_init_109 (by decide) ?_
  refine q_iast d_Model_init_110 (by first | assumption | rfl | (simp (disch := omega) only [q_upT_self, q_upT_ne, q_upR_self, q_upR_nea, q_upR_nk, q_upT_at, *]; done) | (simp (disch := omega) only [q_upT_self, q_upT_ne, q_upR_self, q_upR_nea, q_upR_nk, q_upT_at, *]; rfl)) (by first | assumption | exact vp_in_nI (by omega) (by omega)) ?_
  refine q_dup d_Model_init_111 rfl ?_
  refine q_iconst (v := nI 5) d_Model_init_112 (by decide) ?_
  refine q_iconst (v := (-1)) d_Model_init_113 (by decide) ?_
  refine q_iast d_Model_init_114 (by first | assumption | rfl | (simp (disch := omega) only [q_upT_self, q_upT_ne, q_upR_self, q_upR_nea, q_upR_nk, q_upT_at, *]; done) | (simp (disch := omega) only [q_upT_self, q_upT_ne, q_upR_self, q_upR_nea, q_upR_nk, q_upT_at, *]; rfl)) (by first | assumption | exact vp_in_nI (by omega) (by omega)) ?_
  refine q_dup d_Model_init_115 rfl ?_
  refine q_bipush (v := nI 6) d_Model_init_116 (by decide) ?_
  refine q_iconst (v := (-1)) d_Model_init_118 (by decide) ?_
  refine q_iast d_Model_init_119 (by first | assumption | rfl | (simp (disch := omega) only [q_upT_self, q_upT_ne, q_upR_self, q_upR_nea, q_upR_nk, q_upT_at, *]; done) | (simp (disch := omega) only [q_upT_self, q_upT_ne, q_upR_self, q_upR_nea, q_upR_nk, q_upT_at, *]; rfl)) (by first | assumption | exact vp_in_nI (by omega) (by omega)) ?_
  refine q_dup d_Model_init_120 rfl ?_
  refine q_bipush (v := nI 7) d_Model_init_121 (by decide) ?_
  refine q_iconst (v := (-1)) d_Model_init_123 (by decide) ?_
  refine q_iast d_Model_init_124 (by first | assumption | rfl | (simp (disch := omega) only [q_upT_self, q_upT_ne, q_upR_self, q_upR_nea, q_upR_nk, q_upT_at, *]; done) | (simp (disch := omega) only [q_upT_self, q_upT_ne, q_upR_self, q_upR_nea, q_upR_nk, q_upT_at, *]; rfl)) (by first | assumption | exact vp_in_nI (by omega) (by omega)) ?_
  refine q_dup d_Model_init_125 rfl ?_
  refine q_bipush (v := nI 8) d_Model_init_126 (by decide) ?_
  refine q_iconst (v := (-1)) d_Model_init_128 (by decide) ?_
  refine q_iast d_Model_init_129 (by first | assumption | rfl | (simp (disch := omega) only [q_upT_self, q_upT_ne, q_upR_self, q_upR_nea, q_upR_nk, q_upT_at, *]; done) | (simp (disch := omega) only [q_upT_self, q_upT_ne, q_upR_self, q_upR_nea, q_upR_nk, q_upT_at, *]; rfl)) (by first | assumption | exact vp_in_nI (by omega) (by omega)) ?_
  refine q_dup d_Model_init_130 rfl ?_
  refine q_bipush (v := nI 9) d_Model_init_131 (by decide) ?_
  refine q_iconst (v := (-1)) d_Model_init_133 (by decide) ?_
  refine q_iast d_Model_init_134 (by first | assumption | rfl | (simp (disch := omega) only [q_upT_self, q_upT_ne, q_upR_self, q_upR_nea, q_upR_nk, q_upT_at, *]; done) | (simp (disch := omega) only [q_upT_self, q_upT_ne, q_upR_self, q_upR_nea, q_upR_nk, q_upT_at, *]; rfl)) (by first | assumption | exact vp_in_nI (by omega) (by omega)) ?_
  refine q_dup d_Model_init_135 rfl ?_
  refine q_bipush (v := nI 10) d_Model_init_136 (by decide) ?_
  refine q_iconst (v := (-1)) d_Model_init_138 (by decide) ?_
  refine q_iast d_Model_init_139 (by first | assumption | rfl | (simp (disch := omega) only [q_upT_self, q_upT_ne, q_upR_self, q_upR_nea, q_upR_nk, q_upT_at, *]; done) | (simp (disch := omega) only [q_upT_self, q_upT_ne, q_upR_self, q_upR_nea, q_upR_nk, q_upT_at, *]; rfl)) (by first | assumption | exact vp_in_nI (by omega) (by omega)) ?_
  refine q_dup d_Model_init_140 rfl ?_
  refine q_bipush (v := nI 11) d_Model_init_141 (by decide) ?_
  refine q_iconst (v := (-1)) d_Model_init_143 (by decide) ?_
  refine q_iast d_Model_init_144 (by first | assumption | rfl | (simp (disch := omega) only [q_upT_self, q_upT_ne, q_upR_self, q_upR_nea, q_upR_nk, q_upT_at, *]; done) | (simp (disch := omega) only [q_upT_self, q_upT_ne, q_upR_self, q_upR_nea, q_upR_nk, q_upT_at, *]; rfl)) (by first | assumption | exact vp_in_nI (by omega) (by omega)) ?_
  refine q_dup d_Model_init_145 rfl ?_
  refine q_bipush (v := nI 12) d_Model_init_146 (by decide) ?_
  refine q_iconst (v := (-1)) d_Model_init_148 (by decide) ?_
  refine q_iast d_Model_init_149 (by first | assumption | rfl | (simp (disch := omega) only [q_upT_self, q_upT_ne, q_upR_self, q_upR_nea, q_upR_nk, q_upT_at, *]; done) | (simp (disch := omega) only [q_upT_self, q_upT_ne, q_upR_self, q_upR_nea, q_upR_nk, q_upT_at, *]; rfl)) (by first | assumption | exact vp_in_nI (by omega) (by omega)) ?_
  refine q_dup d_Model_init_150 rfl ?_
  refine q_bipush (v := nI 13) d_Model_init_151 (by decide) ?_
  refine q_iconst (v := (-1)) d_Model_init_153 (by decide) ?_
  refine q_iast d_Model_init_154 (by first | assumption | rfl | (simp (disch := omega) only [q_upT_self, q_upT_ne, q_upR_self, q_upR_nea, q_upR_nk, q_upT_at, *]; done) | (simp (disch := omega) only [q_upT_self, q_upT_ne, q_upR_self, q_upR_nea, q_upR_nk, q_upT_at, *]; rfl)) (by first | assumption | exact vp_in_nI (by omega) (by omega)) ?_
  refine q_dup d_Model_init_155 rfl ?_
  refine q_bipush (v := nI 14) d_Model_init_156 (by decide) ?_
  refine q_iconst (v := (-1)) d_Model_init_158 (by decide) ?_
  refine q_iast d_Model_init_159 (by first | assumption | rfl | (simp (disch := omega) only [q_upT_self, q_upT_ne, q_upR_self, q_upR_nea, q_upR_nk, q_upT_at, *]; done) | (simp (disch := omega) only [q_upT_self, q_upT_ne, q_upR_self, q_upR_nea, q_upR_nk, q_upT_at, *]; rfl)) (by first | assumption | exact vp_in_nI (by omega) (by omega)) ?_
  refine q_dup d_Model_init_160 rfl ?_
  refine q_bipush (v := nI 15) d_Model_init_161 (by decide) ?_
  refine q_iconst (v := (-1)) d_Model_init_163 (by decide) ?_
  refine q_iast d_Model_init_164 (by first | assumption | rfl | (simp (disch := omega) only [q_upT_self, q_upT_ne, q_upR_self, q_upR_nea, q_upR_nk, q_upT_at, *]; done) | (simp (disch := omega) only [q_upT_self, q_upT_ne, q_upR_self, q_upR_nea, q_upR_nk, q_upT_at, *]; rfl)) (by first | assumption | exact vp_in_nI (by omega) (by omega)) ?_
  refine q_putR (ci := 11) (fk := 14) (x := some _) d_Model_init_165 rfl (Nat.le_of_ble_eq_true rfl) w_1118 (Or.inr ⟨rfl, rfl, rfl⟩) (fun _ _ => rfl) rfl rfl (by first | assumption | rfl | (simp (disch := omega) only [q_upT_self, q_upT_ne, q_upR_self, q_upR_nea, q_upR_nk, q_upT_at, *]; done) | (simp (disch := omega) only [q_upT_self, q_upT_ne, q_upR_self, q_upR_nea, q_upR_nk, q_upT_at, *]; rfl)) ?_
  refine q_aload_n d_Model_init_168 rfl rfl ?_
  refine q_sipush (v := nI 2688) d_Model_init_169 (by decide) ?_
  refine q_newa (ty := .int) (kd := 0) (N := _) d_Model_init_172 (Or.inl ⟨rfl, rfl⟩) w_91 rfl (by omega) (by omega) (by omega) ?_
  refine q_putR (ci := 11) (fk := 15) (x := some _) d_Model_init_174 rfl (Nat.le_of_ble_eq_true rfl) w_1119 (Or.inr ⟨rfl, rfl, rfl⟩) (fun _ _ => rfl) rfl rfl (by first | assumption | rfl | (simp (disch := omega) only [q_upT_self, q_upT_ne, q_upR_self, q_upR_nea, q_upR_nk, q_upT_at, *]; done) | (simp (disch := omega) only [q_upT_self, q_upT_ne, q_upR_self, q_upR_nea, q_upR_nk, q_upT_at, *]; rfl)) ?_
  refine q_aload_n d_Model_init_177 rfl rfl ?_
  refine q_sipush (v := nI 2048) d_Model_init_178 (by decide) ?_
  refine q_newa (ty := .int) (kd := 0) (N := _) d_Model_init_181 (Or.inl ⟨rfl, rfl⟩) w_91 rfl (by omega) (by omega) (by omega) ?_
  refine q_putR (ci := 11) (fk := 16) (x := some _) d_Model_init_183 rfl (Nat.le_of_ble_eq_true rfl) w_1120 (Or.inr ⟨rfl, rfl, rfl⟩) (fun _ _ => rfl) rfl rfl (by first | assumption | rfl | (simp (disch := omega) only [q_upT_self, q_upT_ne, q_upR_self, q_upR_nea, q_upR_nk, q_upT_at, *]; done) | (simp (disch := omega) only [q_upT_self, q_upT_ne, q_upR_self, q_upR_nea, q_upR_nk, q_upT_at, *]; rfl)) ?_
  refine q_aload_n d_Model_init_186 rfl rfl ?_
  refine q_sipush (v := nI 28672) d_Model_init_187 (by decide) ?_
  refine q_newa (ty := .int) (kd := 0) (N := _) d_Model_init_190 (Or.inl ⟨rfl, rfl⟩) w_91 rfl (by omega) (by omega) (by omega) ?_
  refine q_putR (ci := 11) (fk := 17) (x := some _) d_Model_init_192 rfl (Nat.le_of_ble_eq_true rfl) w_1121 (Or.inr ⟨rfl, rfl, rfl⟩) (fun _ _ => rfl) rfl rfl (by first | assumption | rfl | (simp (disch := omega) only [q_upT_self, q_upT_ne, q_upR_self, q_upR_nea, q_upR_nk, q_upT_at, *]; done) | (simp (disch := omega) only [q_upT_self, q_upT_ne, q_upR_self, q_upR_nea, q_upR_nk, q_upT_at, *]; rfl)) ?_
  refine q_aload_n d_Model_init_195 rfl rfl ?_
  refine q_bipush (v := nI 26) d_Model_init_196 (by decide) ?_
  refine q_newa (ty := .int) (kd := 0) (N := _) d_Model_init_198 (Or.inl ⟨rfl, rfl⟩) w_91 rfl (by omega) (by omega) (by omega) ?_
  refine q_putR (ci := 11) (fk := 19) (x := some _) d_Model_init_200 rfl (Nat.le_of_ble_eq_true rfl) w_1123 (Or.inr ⟨rfl, rfl, rfl⟩) (fun _ _ => rfl) rfl rfl (by first | assumption | rfl | (simp (disch := omega) only [q_upT_self, q_upT_ne, q_upR_self, q_upR_nea, q_upR_nk, q_upT_at, *]; done) | (simp (disch := omega) only [q_upT_self, q_upT_ne, q_upR_self, q_upR_nea, q_upR_nk, q_upT_at, *]; rfl)) ?_
  refine q_aload_n d_Model_init_203 rfl rfl ?_
  refine q_bipush (v := nI 26) d_Model_init_204 (by decide) ?_
  refine q_newa (ty := .int) (kd := 0) (N := _) d_Model_init_206 (Or.inl ⟨rfl, rfl⟩) w_91 rfl (by omega) (by omega) (by omega) ?_
  refine q_putR (ci := 11) (fk := 20) (x := some _) d_Model_init_208 rfl (Nat.le_of_ble_eq_true rfl) w_1124 (Or.inr ⟨rfl, rfl, rfl⟩) (fun _ _ => rfl) rfl rfl (by first | assumption | rfl | (simp (disch := omega) only [q_upT_self, q_upT_ne, q_upR_self, q_upR_nea, q_upR_nk, q_upT_at, *]; done) | (simp (disch := omega) only [q_upT_self, q_upT_ne, q_upR_self, q_upR_nea, q_upR_nk, q_upT_at, *]; rfl)) ?_
  refine q_aload_n d_Model_init_211 rfl rfl ?_
  refine q_bipush (v := nI 26) d_Model_init_212 (by decide) ?_
  refine q_newa (ty := .int) (kd := 0) (N := _) d_Model_init_214 (Or.inl ⟨rfl, rfl⟩) w_91 rfl (by omega) (by omega) (by omega) ?_
  refine q_putR (ci := 11) (fk := 21) (x := some _) d_Model_init_216 rfl (Nat.le_of_ble_eq_true rfl) w_1125 (Or.inr ⟨rfl, rfl, rfl⟩) (fun _ _ => rfl) rfl rfl (by first | assumption | rfl | (simp (disch := omega) only [q_upT_self, q_upT_ne, q_upR_self, q_upR_nea, q_upR_nk, q_upT_at, *]; done) | (simp (disch := omega) only [q_upT_self, q_upT_ne, q_upR_self, q_upR_nea, q_upR_nk, q_upT_at, *]; rfl)) ?_
  refine q_aload_n d_Model_init_219 rfl rfl ?_
  refine q_bipush (v := nI 26) d_Model_init_220 (by decide) ?_
  refine q_newa (ty := .int) (kd := 0) (N := _) d_Model_init_222 (Or.inl ⟨rfl, rfl⟩) w_91 rfl (by omega) (by omega) (by omega) ?_
  refine q_putR (ci := 11) (fk := 22) (x := some _) d_Model_init_224 rfl (Nat.le_of_ble_eq_true rfl) w_1126 (Or.inr ⟨rfl, rfl, rfl⟩) (fun _ _ => rfl) rfl rfl (by first | assumption | rfl | (simp (disch := omega) only [q_upT_self, q_upT_ne, q_upR_self, q_upR_nea, q_upR_nk, q_upT_at, *]; done) | (simp (disch := omega) only [q_upT_self, q_upT_ne, q_upR_self, q_upR_nea, q_upR_nk, q_upT_at, *]; rfl)) ?_
  refine q_aload_n d_Model_init_227 rfl rfl ?_
  refine q_sipush (v := nI 182) d_Model_init_228 (by decide) ?_
  refine q_newa (ty := .int) (kd := 0) (N := _) d_Model_init_231 (Or.inl ⟨rfl, rfl⟩) w_91 rfl (by omega) (by omega) (by omega) ?_
  refine q_putR (ci := 11) (fk := 23) (x := some _) d_Model_init_233 rfl (Nat.le_of_ble_eq_true rfl) w_1127 (Or.inr ⟨rfl, rfl, rfl⟩) (fun _ _ => rfl) rfl rfl (by first | assumption | rfl | (simp (disch := omega) only [q_upT_self, q_upT_ne, q_upR_self, q_upR_nea, q_upR_nk, q_upT_at, *]; done) | (simp (disch := omega) only [q_upT_self, q_upT_ne, q_upR_self, q_upR_nea, q_upR_nk, q_upT_at, *]; rfl)) ?_
  refine q_aload_n d_Model_init_236 rfl rfl ?_
  refine q_bipush (v := nI 26) d_Model_init_237 (by decide) ?_
  refine q_newa (ty := .int) (kd := 0) (N := _) d_Model_init_239 (Or.inl ⟨rfl, rfl⟩) w_91 rfl (by omega) (by omega) (by omega) ?_
  refine q_putR (ci := 11) (fk := 24) (x := some _) d_Model_init_241 rfl (Nat.le_of_ble_eq_true rfl) w_1128 (Or.inr ⟨rfl, rfl, rfl⟩) (fun _ _ => rfl) rfl rfl (by first | assumption | rfl | (simp (disch := omega) only [q_upT_self, q_upT_ne, q_upR_self, q_upR_nea, q_upR_nk, q_upT_at, *]; done) | (simp (disch := omega) only [q_upT_self, q_upT_ne, q_upR_self, q_upR_nea, q_upR_nk, q_upT_at, *]; rfl)) ?_
  refine q_aload_n d_Model_init_244 rfl rfl ?_
  refine q_sipush (v := nI 128) d_Model_init_245 (by decide) ?_
  refine q_newa (ty := .int) (kd := 0) (N := _) d_Model_init_248 (Or.inl ⟨rfl, rfl⟩) w_91 rfl (by omega) (by omega) (by omega) ?_
  refine q_putR (ci := 11) (fk := 25) (x := some _) d_Model_init_250 rfl (Nat.le_of_ble_eq_true rfl) w_1129 (Or.inr ⟨rfl, rfl, rfl⟩) (fun _ _ => rfl) rfl rfl (by first | assumption | rfl | (simp (disch := omega) only [q_upT_self, q_upT_ne, q_upR_self, q_upR_nea, q_upR_nk, q_upT_at, *]; done) | (simp (disch := omega) only [q_upT_self, q_upT_ne, q_upR_self, q_upR_nea, q_upR_nk, q_upT_at, *]; rfl)) ?_
  refine q_aload_n d_Model_init_253 rfl rfl ?_
  refine q_sipush (v := nI 1792) d_Model_init_254 (by decide) ?_
  refine q_newa (ty := .int) (kd := 0) (N := _) d_Model_init_257 (Or.inl ⟨rfl, rfl⟩) w_91 rfl (by omega) (by omega) (by omega) ?_
  refine q_putR (ci := 11) (fk := 26) (x := some _) d_Model_init_259 rfl (Nat.le_of_ble_eq_true rfl) w_1130 (Or.inr ⟨rfl, rfl, rfl⟩) (fun _ _ => rfl) rfl rfl (by first | assumption | rfl | (simp (disch := omega) only [q_upT_self, q_upT_ne, q_upR_self, q_upR_nea, q_upR_nk, q_upT_at, *]; done) | (simp (disch := omega) only [q_upT_self, q_upT_ne, q_upR_self, q_upR_nea, q_upR_nk, q_upT_at, *]; rfl)) ?_
  refine q_aload_n d_Model_init_262 rfl rfl ?_
  refine q_sipush (v := nI 1024) d_Model_init_263 (by decide) ?_
  refine q_newa (ty := .int) (kd := 0) (N := _) d_Model_init_266 (Or.inl ⟨rfl, rfl⟩) w_91 rfl (by omega) (by omega) (by omega) ?_
  refine q_putR (ci := 11) (fk := 30) (x := some _) d_Model_init_268 rfl (Nat.le_of_ble_eq_true rfl) w_1134 (Or.inr ⟨rfl, rfl, rfl⟩) (fun _ _ => rfl) rfl rfl (by first | assumption | rfl | (simp (disch := omega) only [q_upT_self, q_upT_ne, q_upR_self, q_upR_nea, q_upR_nk, q_upT_at, *]; done) | (simp (disch := omega) only [q_upT_self, q_upT_ne, q_upR_self, q_upR_nea, q_upR_nk, q_upT_at, *]; rfl)) ?_
  refine q_aload_n d_Model_init_271 rfl rfl ?_
  refine q_sipush (v := nI 5120) d_Model_init_272 (by decide) ?_
  refine q_newa (ty := .int) (kd := 0) (N := _) d_Model_init_275 (Or.inl ⟨rfl, rfl⟩) w_91 rfl (by omega) (by omega) (by omega) ?_
  refine q_putR (ci := 11) (fk := 31) (x := some _) d_Model_init_277 rfl (Nat.le_of_ble_eq_true rfl) w_1135 (Or.inr ⟨rfl, rfl, rfl⟩) (fun _ _ => rfl) rfl rfl (by first | assumption | rfl | (simp (disch := omega) only [q_upT_self, q_upT_ne, q_upR_self, q_upR_nea, q_upR_nk, q_upT_at, *]; done) | (simp (disch := omega) only [q_upT_self, q_upT_ne, q_upR_self, q_upR_nea, q_upR_nk, q_upT_at, *]; rfl)) ?_
  refine q_aload_n d_Model_init_280 rfl rfl ?_
  refine q_bipush (v := nI 24) d_Model_init_281 (by decide) ?_
  refine q_newa (ty := .int) (kd := 0) (N := _) d_Model_init_283 (Or.inl ⟨rfl, rfl⟩) w_91 rfl (by omega) (by omega) (by omega) ?_
  refine q_putR (ci := 11) (fk := 32) (x := some _) d_Model_init_285 rfl (Nat.le_of_ble_eq_true rfl) w_1136 (Or.inr ⟨rfl, rfl, rfl⟩) (fun _ _ => rfl) rfl rfl (by first | assumption | rfl | (simp (disch := omega) only [q_upT_self, q_upT_ne, q_upR_self, q_upR_nea, q_upR_nk, q_upT_at, *]; done) | (simp (disch := omega) only [q_upT_self, q_upT_ne, q_upR_self, q_upR_nea, q_upR_nk, q_upT_at, *]; rfl)) ?_
  refine q_aload_n d_Model_init_288 rfl rfl ?_
  refine q_bipush (v := nI 9) d_Model_init_289 (by decide) ?_
  refine q_newa (ty := .int) (kd := 0) (N := _) d_Model_init_291 (Or.inl ⟨rfl, rfl⟩) w_91 rfl (by omega) (by omega) (by omega) ?_
  refine q_putR (ci := 11) (fk := 34) (x := some _) d_Model_init_293 rfl (Nat.le_of_ble_eq_true rfl) w_1138 (Or.inr ⟨rfl, rfl, rfl⟩) (fun _ _ => rfl) rfl rfl (by first | assumption | rfl | (simp (disch := omega) only [q_upT_self, q_upT_ne, q_upR_self, q_upR_nea, q_upR_nk, q_upT_at, *]; done) | (simp (disch := omega) only [q_upT_self, q_upT_ne, q_upR_self, q_upR_nea, q_upR_nk, q_upT_at, *]; rfl)) ?_
  refine q_aload_n d_Model_init_296 rfl rfl ?_
  refine q_bipush (v := nI 9) d_Model_init_297 (by decide) ?_
  refine q_newa (ty := .int) (kd := 0) (N := _) d_Model_init_299 (Or.inl ⟨rfl, rfl⟩) w_91 rfl (by omega) (by omega) (by omega) ?_
  refine q_putR (ci := 11) (fk := 35) (x := some _) d_Model_init_301 rfl (Nat.le_of_ble_eq_true rfl) w_1139 (Or.inr ⟨rfl, rfl, rfl⟩) (fun _ _ => rfl) rfl rfl (by first | assumption | rfl | (simp (disch := omega) only [q_upT_self, q_upT_ne, q_upR_self, q_upR_nea, q_upR_nk, q_upT_at, *]; done) | (simp (disch := omega) only [q_upT_self, q_upT_ne, q_upR_self, q_upR_nea, q_upR_nk, q_upT_at, *]; rfl)) ?_
  refine q_aload_n d_Model_init_304 rfl rfl ?_
  refine q_bipush (v := nI 8) d_Model_init_305 (by decide) ?_
  refine q_newa (ty := .int) (kd := 0) (N := _) d_Model_init_307 (Or.inl ⟨rfl, rfl⟩) w_91 rfl (by omega) (by omega) (by omega) ?_
  refine q_putR (ci := 11) (fk := 36) (x := some _) d_Model_init_309 rfl (Nat.le_of_ble_eq_true rfl) w_1140 (Or.inr ⟨rfl, rfl, rfl⟩) (fun _ _ => rfl) rfl rfl (by first | assumption | rfl | (simp (disch := omega) only [q_upT_self, q_upT_ne, q_upR_self, q_upR_nea, q_upR_nk, q_upT_at, *]; done) | (simp (disch := omega) only [q_upT_self, q_upT_ne, q_upR_self, q_upR_nea, q_upR_nk, q_upT_at, *]; rfl)) ?_
  refine q_aload_n d_Model_init_312 rfl rfl ?_
  refine q_bipush (v := nI 7) d_Model_init_313 (by decide) ?_
  refine q_newa (ty := .int) (kd := 0) (N := _) d_Model_init_315 (Or.inl ⟨rfl, rfl⟩) w_91 rfl (by omega) (by omega) (by omega) ?_
  refine q_putR (ci := 11) (fk := 37) (x := some _) d_Model_init_317 rfl (Nat.le_of_ble_eq_true rfl) w_1141 (Or.inr ⟨rfl, rfl, rfl⟩) (fun _ _ => rfl) rfl rfl (by first | assumption | rfl | (simp (disch := omega) only [q_upT_self, q_upT_ne, q_upR_self, q_upR_nea, q_upR_nk, q_upT_at, *]; done) | (simp (disch := omega) only [q_upT_self, q_upT_ne, q_upR_self, q_upR_nea, q_upR_nk, q_upT_at, *]; rfl)) ?_
  refine q_aload_n d_Model_init_320 rfl rfl ?_
  refine q_bipush (v := nI 7) d_Model_init_321 (by decide) ?_
  refine q_newa (ty := .int) (kd := 0) (N := _) d_Model_init_323 (Or.inl ⟨rfl, rfl⟩) w_91 rfl (by omega) (by omega) (by omega) ?_
  refine q_putR (ci := 11) (fk := 38) (x := some _) d_Model_init_325 rfl (Nat.le_of_ble_eq_true rfl) w_1142 (Or.inr ⟨rfl, rfl, rfl⟩) (fun _ _ => rfl) rfl rfl (by first | assumption | rfl | (simp (disch := omega) only [q_upT_self, q_upT_ne, q_upR_self, q_upR_nea, q_upR_nk, q_upT_at, *]; done) | (simp (disch := omega) only [q_upT_self, q_upT_ne, q_upR_self, q_upR_nea, q_upR_nk, q_upT_at, *]; rfl)) ?_
  refine q_vret d_Model_init_328 rfl (by omega) (by omega) ?_
  refine ⟨rfl, _, _, _, rfl, q_L.mk ?_ ?_, fun b hb => ⟨?_, ?_⟩, fun b hb => ⟨?_, ?_⟩, fun b i h1 h2 => ?_, ?_, fun k h1 h2 => ?_, fun k hk => ?_⟩
  · simp (disch := omega) only [q_upT_at, q_upT_ne, hT]
  · simp (disch := omega) only [q_La, t_Model, q_upT_at, q_upT_ne, q_upR_at, q_upR_nea, q_upR_nk, and_self]
  · simp (disch := omega) only [q_upT_ne]
  · funext i
    simp (disch := omega) only [q_upR_nea]
  · simp (disch := omega) only [q_upT_ne]
  · funext i
    simp (disch := omega) only [q_upR_nea]
  · simp (disch := omega) only [q_upI_nea]
  · simp (disch := omega) only [q_upI_at, q_upI_nea]
  · simp (disch := omega) only [q_upI_nea, q_upI_nk]
  · rcases (by omega : k = 0 ∨ k = 1 ∨ k = 2 ∨ k = 3 ∨ k = 4 ∨ k = 5 ∨ k = 6 ∨ k = 7 ∨ k = 8 ∨ k = 9 ∨ k = 10 ∨ k = 11 ∨ k = 12 ∨ k = 13 ∨ k = 14 ∨ k = 15) with rfl | rfl | rfl | rfl | rfl | rfl | rfl | rfl | rfl | rfl | rfl | rfl | rfl | rfl | rfl | rfl <;> simp (disch := omega) only [q_upI_at, q_upI_nk]
end MInit
