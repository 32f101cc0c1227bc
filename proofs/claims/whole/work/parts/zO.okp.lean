/-! THE CHECKS, together -/
def okAll (I0 : List pInf) (kf : List Nat) (strs : List (String × Nat × String)) (thr : List (String × Nat × Nat)) (ncs : List (String × String)) : List pMeth → List pInf → List (List Nat) → Bool
  | [], _, _ => true
  | q :: G, f :: I, bl :: BL => okPy I0 kf strs thr ncs f bl q && okAll I0 kf strs thr ncs G I BL
  | _, _, _ => false
theorem okAll_cons {I0 : List pInf} {kf : List Nat} {strs : List (String × Nat × String)} {thr : List (String × Nat × Nat)} {ncs : List (String × String)} {q : pMeth} {f : pInf} {bl : List Nat} {G : List pMeth} {I : List pInf} {BL : List (List Nat)} (h1 : okPy I0 kf strs thr ncs f bl q = true) (h2 : okAll I0 kf strs thr ncs G I BL = true) : okAll I0 kf strs thr ncs (q :: G) (f :: I) (bl :: BL) = true := by
  simp only [okAll, h1, h2, Bool.and_self]
theorem okAll_spec {I0 : List pInf} {kf : List Nat} {strs : List (String × Nat × String)} {thr : List (String × Nat × Nat)} {ncs : List (String × String)} : ∀ (G : List pMeth) (I : List pInf) (BL : List (List Nat)), okAll I0 kf strs thr ncs G I BL = true → ∀ (y : Nat) (q : pMeth), G[y]? = some q → ∃ f bl, I[y]? = some f ∧ BL[y]? = some bl ∧ okPy I0 kf strs thr ncs f bl q = true
  | [], _, _, _, y, q, h => by simp at h
  | _ :: _, [], _, h, _, _, _ => by cases h
  | _ :: _, _ :: _, [], h, _, _, _ => by cases h
  | q0 :: G, f :: I, bl :: BL, h, y, q, hy => by
    simp only [okAll, Bool.and_eq_true] at h
    cases y with
    | zero =>
      simp at hy
      subst hy
      exact ⟨f, bl, rfl, rfl, h.1⟩
    | succ y =>
      have := okAll_spec G I BL h.2 y q (by simpa using hy)
      simpa using this
def okKb (ix : Nat × Nat × Nat × Nat) (k : Nat) (f : pInf) : Bool := (k == 3) || ((match f.2.2.2.2 with
  | [] => decide (lw_tb2[ix.1]? = some (Cond.code f.1 f.2.1 f.2.2.1 f.2.2.2.1))
  | hh => decide (lw_tb2[ix.1]? = some (Cond.codeWith f.1 f.2.1 f.2.2.1 f.2.2.2.1 hh))) && decide (lw_tb2[ix.2.1]? = some (Cond.initialized f.1.cls)) && (match k with
  | 0 => decide (lw_tb2[ix.2.2.1]? = some (Cond.static f.1))
  | 1 => decide (lw_tb2[ix.2.2.1]? = some (Cond.instanceMethod f.1)) && decide (lw_tb2[ix.2.2.2]? = some (Cond.selects f.1.cls f.1 f.1))
  | _ => decide (lw_tb2[ix.2.2.1]? = some (Cond.instanceMethod f.1))))
def okKs : List pInf → List Nat → Prop
  | [], _ => True
  | f :: I, k :: kf => (∃ ix, okKb ix k f = true) ∧ okKs I kf
  | _, _ => False
theorem okKs_at : ∀ (I : List pInf) (kf : List Nat), okKs I kf → ∀ (z : Nat) (f : pInf), I[z]? = some f → ∃ k ix, kf[z]? = some k ∧ okKb ix k f = true
  | [], _, _, z, f, h => by simp at h
  | _ :: _, [], h, _, _, _ => by cases h
  | f0 :: I, k :: kf, h, z, f, hz => by
    obtain ⟨⟨ix, h1⟩, h2⟩ := h
    cases z with
    | zero => simp at hz; subst hz; exact ⟨k, ix, rfl, h1⟩
    | succ z =>
      have := okKs_at I kf h2 z f (by simpa using hz)
      simpa using this
theorem okK_of {I : List pInf} {kf : List Nat} (h : okKs I kf) : okK I kf := by
  intro z f hz
  obtain ⟨k, ix, hk, hb⟩ := okKs_at I kf h z f hz
  have key : k ≠ 3 → (∀ w ∈ wY f, w ∈ GW) ∧ Cond.initialized f.1.cls ∈ GW ∧ (k = 0 → Cond.static f.1 ∈ GW) ∧ (k ≠ 0 → Cond.instanceMethod f.1 ∈ GW) ∧ (k = 1 → Cond.selects f.1.cls f.1 f.1 ∈ GW) := by
    intro h3
    unfold okKb at hb
    simp only [Bool.or_eq_true, beq_iff_eq, Bool.and_eq_true] at hb
    rcases hb with hb | ⟨⟨h1, h2⟩, h4⟩
    · exact absurd hb h3
    · refine ⟨?_, gw_at (of_decide_eq_true h2) rfl, ?_, ?_, ?_⟩
      · intro w hw
        by_cases he : f.2.2.2.2 = []
        · rw [wY_nil he] at hw
          rw [he] at h1
          rcases List.mem_cons.mp hw with rfl | hw
          · exact gw_at (of_decide_eq_true h1) rfl
          · exact hw
        · rw [wY_cons he] at hw
          rcases List.mem_cons.mp hw with rfl | hw
          · refine gw_at (i := ix.1) ?_ rfl
            split at h1
            · rename_i e
              exact absurd e he
            · exact of_decide_eq_true h1
          · exact hw
      · rintro rfl
        exact gw_at (of_decide_eq_true h4) rfl
      · intro h0
        split at h4
        · exact absurd rfl h0
        · simp only [Bool.and_eq_true] at h4
          exact gw_at (of_decide_eq_true h4.1) rfl
        · exact gw_at (of_decide_eq_true h4) rfl
      · rintro rfl
        simp only [Bool.and_eq_true] at h4
        exact gw_at (of_decide_eq_true h4.2) rfl
  refine ⟨fun e => ?_, fun e => ?_, fun e => ?_⟩
  · cases hk.symm.trans e
    obtain ⟨a, b, c, -, -⟩ := key (by decide)
    exact ⟨a, b, c rfl⟩
  · cases hk.symm.trans e
    obtain ⟨a, b, -, c, c2⟩ := key (by decide)
    exact ⟨⟨a, b, c (by decide)⟩, c2 rfl⟩
  · cases hk.symm.trans e
    obtain ⟨a, b, -, c, -⟩ := key (by decide)
    exact ⟨a, b, c (by decide)⟩
theorem ca_280 : okAll pI pKf pStrs pThr pNcs [] [f_280, f_281] [] = true := rfl
def gg_275 : List pMeth := g_275 :: g_276 :: g_277 :: g_278 :: g_279 :: []
def ff_275 : List pInf := f_275 :: f_276 :: f_277 :: f_278 :: f_279 :: [f_280, f_281]
def bb_275 : List (List Nat) := bl_275 :: bl_276 :: bl_277 :: bl_278 :: bl_279 :: []
theorem ca_275 : okAll pI pKf pStrs pThr pNcs gg_275 ff_275 bb_275 = true := okAll_cons ck_275 (okAll_cons ck_276 (okAll_cons ck_277 (okAll_cons ck_278 (okAll_cons okpy_279 (ca_280)))))
def gg_250 : List pMeth := g_250 :: g_251 :: g_252 :: g_253 :: g_254 :: g_255 :: g_256 :: g_257 :: g_258 :: g_259 :: g_260 :: g_261 :: g_262 :: g_263 :: g_264 :: g_265 :: g_266 :: g_267 :: g_268 :: g_269 :: g_270 :: g_271 :: g_272 :: g_273 :: g_274 :: gg_275
def ff_250 : List pInf := f_250 :: f_251 :: f_252 :: f_253 :: f_254 :: f_255 :: f_256 :: f_257 :: f_258 :: f_259 :: f_260 :: f_261 :: f_262 :: f_263 :: f_264 :: f_265 :: f_266 :: f_267 :: f_268 :: f_269 :: f_270 :: f_271 :: f_272 :: f_273 :: f_274 :: ff_275
def bb_250 : List (List Nat) := bl_250 :: bl_251 :: bl_252 :: bl_253 :: bl_254 :: bl_255 :: bl_256 :: bl_257 :: bl_258 :: bl_259 :: bl_260 :: bl_261 :: bl_262 :: bl_263 :: bl_264 :: bl_265 :: bl_266 :: bl_267 :: bl_268 :: bl_269 :: bl_270 :: bl_271 :: bl_272 :: bl_273 :: bl_274 :: bb_275
theorem ca_250 : okAll pI pKf pStrs pThr pNcs gg_250 ff_250 bb_250 = true := okAll_cons ck_250 (okAll_cons ck_251 (okAll_cons ck_252 (okAll_cons ck_253 (okAll_cons ck_254 (okAll_cons ck_255 (okAll_cons ck_256 (okAll_cons ck_257 (okAll_cons ck_258 (okAll_cons ck_259 (okAll_cons ck_260 (okAll_cons ck_261 (okAll_cons ck_262 (okAll_cons ck_263 (okAll_cons ck_264 (okAll_cons ck_265 (okAll_cons ck_266 (okAll_cons ck_267 (okAll_cons ck_268 (okAll_cons ck_269 (okAll_cons ck_270 (okAll_cons ck_271 (okAll_cons ck_272 (okAll_cons ck_273 (okAll_cons ck_274 (ca_275)))))))))))))))))))))))))
def gg_225 : List pMeth := g_225 :: g_226 :: g_227 :: g_228 :: g_229 :: g_230 :: g_231 :: g_232 :: g_233 :: g_234 :: g_235 :: g_236 :: g_237 :: g_238 :: g_239 :: g_240 :: g_241 :: g_242 :: g_243 :: g_244 :: g_245 :: g_246 :: g_247 :: g_248 :: g_249 :: gg_250
def ff_225 : List pInf := f_225 :: f_226 :: f_227 :: f_228 :: f_229 :: f_230 :: f_231 :: f_232 :: f_233 :: f_234 :: f_235 :: f_236 :: f_237 :: f_238 :: f_239 :: f_240 :: f_241 :: f_242 :: f_243 :: f_244 :: f_245 :: f_246 :: f_247 :: f_248 :: f_249 :: ff_250
def bb_225 : List (List Nat) := bl_225 :: bl_226 :: bl_227 :: bl_228 :: bl_229 :: bl_230 :: bl_231 :: bl_232 :: bl_233 :: bl_234 :: bl_235 :: bl_236 :: bl_237 :: bl_238 :: bl_239 :: bl_240 :: bl_241 :: bl_242 :: bl_243 :: bl_244 :: bl_245 :: bl_246 :: bl_247 :: bl_248 :: bl_249 :: bb_250
theorem ca_225 : okAll pI pKf pStrs pThr pNcs gg_225 ff_225 bb_225 = true := okAll_cons ck_225 (okAll_cons ck_226 (okAll_cons ck_227 (okAll_cons ck_228 (okAll_cons ck_229 (okAll_cons ck_230 (okAll_cons ck_231 (okAll_cons ck_232 (okAll_cons ck_233 (okAll_cons ck_234 (okAll_cons ck_235 (okAll_cons ck_236 (okAll_cons ck_237 (okAll_cons ck_238 (okAll_cons ck_239 (okAll_cons ck_240 (okAll_cons ck_241 (okAll_cons ck_242 (okAll_cons ck_243 (okAll_cons ck_244 (okAll_cons ck_245 (okAll_cons ck_246 (okAll_cons ck_247 (okAll_cons ck_248 (okAll_cons ck_249 (ca_250)))))))))))))))))))))))))
def gg_200 : List pMeth := g_200 :: g_201 :: g_202 :: g_203 :: g_204 :: g_205 :: g_206 :: g_207 :: g_208 :: g_209 :: g_210 :: g_211 :: g_212 :: g_213 :: g_214 :: g_215 :: g_216 :: g_217 :: g_218 :: g_219 :: g_220 :: g_221 :: g_222 :: g_223 :: g_224 :: gg_225
def ff_200 : List pInf := f_200 :: f_201 :: f_202 :: f_203 :: f_204 :: f_205 :: f_206 :: f_207 :: f_208 :: f_209 :: f_210 :: f_211 :: f_212 :: f_213 :: f_214 :: f_215 :: f_216 :: f_217 :: f_218 :: f_219 :: f_220 :: f_221 :: f_222 :: f_223 :: f_224 :: ff_225
def bb_200 : List (List Nat) := bl_200 :: bl_201 :: bl_202 :: bl_203 :: bl_204 :: bl_205 :: bl_206 :: bl_207 :: bl_208 :: bl_209 :: bl_210 :: bl_211 :: bl_212 :: bl_213 :: bl_214 :: bl_215 :: bl_216 :: bl_217 :: bl_218 :: bl_219 :: bl_220 :: bl_221 :: bl_222 :: bl_223 :: bl_224 :: bb_225
theorem ca_200 : okAll pI pKf pStrs pThr pNcs gg_200 ff_200 bb_200 = true := okAll_cons ck_200 (okAll_cons ck_201 (okAll_cons ck_202 (okAll_cons ck_203 (okAll_cons ck_204 (okAll_cons ck_205 (okAll_cons ck_206 (okAll_cons ck_207 (okAll_cons ck_208 (okAll_cons ck_209 (okAll_cons ck_210 (okAll_cons ck_211 (okAll_cons ck_212 (okAll_cons ck_213 (okAll_cons ck_214 (okAll_cons ck_215 (okAll_cons ck_216 (okAll_cons ck_217 (okAll_cons ck_218 (okAll_cons ck_219 (okAll_cons ck_220 (okAll_cons ck_221 (okAll_cons ck_222 (okAll_cons ck_223 (okAll_cons ck_224 (ca_225)))))))))))))))))))))))))
def gg_175 : List pMeth := g_175 :: g_176 :: g_177 :: g_178 :: g_179 :: g_180 :: g_181 :: g_182 :: g_183 :: g_184 :: g_185 :: g_186 :: g_187 :: g_188 :: g_189 :: g_190 :: g_191 :: g_192 :: g_193 :: g_194 :: g_195 :: g_196 :: g_197 :: g_198 :: g_199 :: gg_200
def ff_175 : List pInf := f_175 :: f_176 :: f_177 :: f_178 :: f_179 :: f_180 :: f_181 :: f_182 :: f_183 :: f_184 :: f_185 :: f_186 :: f_187 :: f_188 :: f_189 :: f_190 :: f_191 :: f_192 :: f_193 :: f_194 :: f_195 :: f_196 :: f_197 :: f_198 :: f_199 :: ff_200
def bb_175 : List (List Nat) := bl_175 :: bl_176 :: bl_177 :: bl_178 :: bl_179 :: bl_180 :: bl_181 :: bl_182 :: bl_183 :: bl_184 :: bl_185 :: bl_186 :: bl_187 :: bl_188 :: bl_189 :: bl_190 :: bl_191 :: bl_192 :: bl_193 :: bl_194 :: bl_195 :: bl_196 :: bl_197 :: bl_198 :: bl_199 :: bb_200
theorem ca_175 : okAll pI pKf pStrs pThr pNcs gg_175 ff_175 bb_175 = true := okAll_cons ck_175 (okAll_cons ck_176 (okAll_cons ck_177 (okAll_cons ck_178 (okAll_cons ck_179 (okAll_cons ck_180 (okAll_cons ck_181 (okAll_cons ck_182 (okAll_cons ck_183 (okAll_cons ck_184 (okAll_cons ck_185 (okAll_cons ck_186 (okAll_cons ck_187 (okAll_cons ck_188 (okAll_cons ck_189 (okAll_cons ck_190 (okAll_cons ck_191 (okAll_cons ck_192 (okAll_cons ck_193 (okAll_cons ck_194 (okAll_cons ck_195 (okAll_cons ck_196 (okAll_cons ck_197 (okAll_cons ck_198 (okAll_cons ck_199 (ca_200)))))))))))))))))))))))))
def gg_150 : List pMeth := g_150 :: g_151 :: g_152 :: g_153 :: g_154 :: g_155 :: g_156 :: g_157 :: g_158 :: g_159 :: g_160 :: g_161 :: g_162 :: g_163 :: g_164 :: g_165 :: g_166 :: g_167 :: g_168 :: g_169 :: g_170 :: g_171 :: g_172 :: g_173 :: g_174 :: gg_175
def ff_150 : List pInf := f_150 :: f_151 :: f_152 :: f_153 :: f_154 :: f_155 :: f_156 :: f_157 :: f_158 :: f_159 :: f_160 :: f_161 :: f_162 :: f_163 :: f_164 :: f_165 :: f_166 :: f_167 :: f_168 :: f_169 :: f_170 :: f_171 :: f_172 :: f_173 :: f_174 :: ff_175
def bb_150 : List (List Nat) := bl_150 :: bl_151 :: bl_152 :: bl_153 :: bl_154 :: bl_155 :: bl_156 :: bl_157 :: bl_158 :: bl_159 :: bl_160 :: bl_161 :: bl_162 :: bl_163 :: bl_164 :: bl_165 :: bl_166 :: bl_167 :: bl_168 :: bl_169 :: bl_170 :: bl_171 :: bl_172 :: bl_173 :: bl_174 :: bb_175
theorem ca_150 : okAll pI pKf pStrs pThr pNcs gg_150 ff_150 bb_150 = true := okAll_cons ck_150 (okAll_cons ck_151 (okAll_cons ck_152 (okAll_cons ck_153 (okAll_cons ck_154 (okAll_cons ck_155 (okAll_cons ck_156 (okAll_cons ck_157 (okAll_cons ck_158 (okAll_cons ck_159 (okAll_cons ck_160 (okAll_cons ck_161 (okAll_cons ck_162 (okAll_cons ck_163 (okAll_cons ck_164 (okAll_cons ck_165 (okAll_cons ck_166 (okAll_cons ck_167 (okAll_cons ck_168 (okAll_cons ck_169 (okAll_cons ck_170 (okAll_cons ck_171 (okAll_cons ck_172 (okAll_cons ck_173 (okAll_cons ck_174 (ca_175)))))))))))))))))))))))))
def gg_125 : List pMeth := g_125 :: g_126 :: g_127 :: g_128 :: g_129 :: g_130 :: g_131 :: g_132 :: g_133 :: g_134 :: g_135 :: g_136 :: g_137 :: g_138 :: g_139 :: g_140 :: g_141 :: g_142 :: g_143 :: g_144 :: g_145 :: g_146 :: g_147 :: g_148 :: g_149 :: gg_150
def ff_125 : List pInf := f_125 :: f_126 :: f_127 :: f_128 :: f_129 :: f_130 :: f_131 :: f_132 :: f_133 :: f_134 :: f_135 :: f_136 :: f_137 :: f_138 :: f_139 :: f_140 :: f_141 :: f_142 :: f_143 :: f_144 :: f_145 :: f_146 :: f_147 :: f_148 :: f_149 :: ff_150
def bb_125 : List (List Nat) := bl_125 :: bl_126 :: bl_127 :: bl_128 :: bl_129 :: bl_130 :: bl_131 :: bl_132 :: bl_133 :: bl_134 :: bl_135 :: bl_136 :: bl_137 :: bl_138 :: bl_139 :: bl_140 :: bl_141 :: bl_142 :: bl_143 :: bl_144 :: bl_145 :: bl_146 :: bl_147 :: bl_148 :: bl_149 :: bb_150
theorem ca_125 : okAll pI pKf pStrs pThr pNcs gg_125 ff_125 bb_125 = true := okAll_cons ck_125 (okAll_cons ck_126 (okAll_cons ck_127 (okAll_cons ck_128 (okAll_cons ck_129 (okAll_cons ck_130 (okAll_cons ck_131 (okAll_cons ck_132 (okAll_cons ck_133 (okAll_cons ck_134 (okAll_cons ck_135 (okAll_cons ck_136 (okAll_cons ck_137 (okAll_cons ck_138 (okAll_cons ck_139 (okAll_cons ck_140 (okAll_cons ck_141 (okAll_cons ck_142 (okAll_cons ck_143 (okAll_cons ck_144 (okAll_cons ck_145 (okAll_cons ck_146 (okAll_cons ck_147 (okAll_cons ck_148 (okAll_cons ck_149 (ca_150)))))))))))))))))))))))))
def gg_100 : List pMeth := g_100 :: g_101 :: g_102 :: g_103 :: g_104 :: g_105 :: g_106 :: g_107 :: g_108 :: g_109 :: g_110 :: g_111 :: g_112 :: g_113 :: g_114 :: g_115 :: g_116 :: g_117 :: g_118 :: g_119 :: g_120 :: g_121 :: g_122 :: g_123 :: g_124 :: gg_125
def ff_100 : List pInf := f_100 :: f_101 :: f_102 :: f_103 :: f_104 :: f_105 :: f_106 :: f_107 :: f_108 :: f_109 :: f_110 :: f_111 :: f_112 :: f_113 :: f_114 :: f_115 :: f_116 :: f_117 :: f_118 :: f_119 :: f_120 :: f_121 :: f_122 :: f_123 :: f_124 :: ff_125
def bb_100 : List (List Nat) := bl_100 :: bl_101 :: bl_102 :: bl_103 :: bl_104 :: bl_105 :: bl_106 :: bl_107 :: bl_108 :: bl_109 :: bl_110 :: bl_111 :: bl_112 :: bl_113 :: bl_114 :: bl_115 :: bl_116 :: bl_117 :: bl_118 :: bl_119 :: bl_120 :: bl_121 :: bl_122 :: bl_123 :: bl_124 :: bb_125
theorem ca_100 : okAll pI pKf pStrs pThr pNcs gg_100 ff_100 bb_100 = true := okAll_cons ck_100 (okAll_cons ck_101 (okAll_cons ck_102 (okAll_cons ck_103 (okAll_cons ck_104 (okAll_cons ck_105 (okAll_cons ck_106 (okAll_cons ck_107 (okAll_cons ck_108 (okAll_cons ck_109 (okAll_cons ck_110 (okAll_cons ck_111 (okAll_cons ck_112 (okAll_cons ck_113 (okAll_cons ck_114 (okAll_cons ck_115 (okAll_cons ck_116 (okAll_cons ck_117 (okAll_cons ck_118 (okAll_cons ck_119 (okAll_cons ck_120 (okAll_cons ck_121 (okAll_cons ck_122 (okAll_cons ck_123 (okAll_cons ck_124 (ca_125)))))))))))))))))))))))))
def gg_75 : List pMeth := g_75 :: g_76 :: g_77 :: g_78 :: g_79 :: g_80 :: g_81 :: g_82 :: g_83 :: g_84 :: g_85 :: g_86 :: g_87 :: g_88 :: g_89 :: g_90 :: g_91 :: g_92 :: g_93 :: g_94 :: g_95 :: g_96 :: g_97 :: g_98 :: g_99 :: gg_100
def ff_75 : List pInf := f_75 :: f_76 :: f_77 :: f_78 :: f_79 :: f_80 :: f_81 :: f_82 :: f_83 :: f_84 :: f_85 :: f_86 :: f_87 :: f_88 :: f_89 :: f_90 :: f_91 :: f_92 :: f_93 :: f_94 :: f_95 :: f_96 :: f_97 :: f_98 :: f_99 :: ff_100
def bb_75 : List (List Nat) := bl_75 :: bl_76 :: bl_77 :: bl_78 :: bl_79 :: bl_80 :: bl_81 :: bl_82 :: bl_83 :: bl_84 :: bl_85 :: bl_86 :: bl_87 :: bl_88 :: bl_89 :: bl_90 :: bl_91 :: bl_92 :: bl_93 :: bl_94 :: bl_95 :: bl_96 :: bl_97 :: bl_98 :: bl_99 :: bb_100
theorem ca_75 : okAll pI pKf pStrs pThr pNcs gg_75 ff_75 bb_75 = true := okAll_cons ck_75 (okAll_cons ck_76 (okAll_cons ck_77 (okAll_cons ck_78 (okAll_cons ck_79 (okAll_cons ck_80 (okAll_cons ck_81 (okAll_cons ck_82 (okAll_cons ck_83 (okAll_cons ck_84 (okAll_cons ck_85 (okAll_cons ck_86 (okAll_cons ck_87 (okAll_cons ck_88 (okAll_cons ck_89 (okAll_cons ck_90 (okAll_cons ck_91 (okAll_cons ck_92 (okAll_cons ck_93 (okAll_cons ck_94 (okAll_cons ck_95 (okAll_cons ck_96 (okAll_cons ck_97 (okAll_cons ck_98 (okAll_cons ck_99 (ca_100)))))))))))))))))))))))))
def gg_50 : List pMeth := g_50 :: g_51 :: g_52 :: g_53 :: g_54 :: g_55 :: g_56 :: g_57 :: g_58 :: g_59 :: g_60 :: g_61 :: g_62 :: g_63 :: g_64 :: g_65 :: g_66 :: g_67 :: g_68 :: g_69 :: g_70 :: g_71 :: g_72 :: g_73 :: g_74 :: gg_75
def ff_50 : List pInf := f_50 :: f_51 :: f_52 :: f_53 :: f_54 :: f_55 :: f_56 :: f_57 :: f_58 :: f_59 :: f_60 :: f_61 :: f_62 :: f_63 :: f_64 :: f_65 :: f_66 :: f_67 :: f_68 :: f_69 :: f_70 :: f_71 :: f_72 :: f_73 :: f_74 :: ff_75
def bb_50 : List (List Nat) := bl_50 :: bl_51 :: bl_52 :: bl_53 :: bl_54 :: bl_55 :: bl_56 :: bl_57 :: bl_58 :: bl_59 :: bl_60 :: bl_61 :: bl_62 :: bl_63 :: bl_64 :: bl_65 :: bl_66 :: bl_67 :: bl_68 :: bl_69 :: bl_70 :: bl_71 :: bl_72 :: bl_73 :: bl_74 :: bb_75
theorem ca_50 : okAll pI pKf pStrs pThr pNcs gg_50 ff_50 bb_50 = true := okAll_cons ck_50 (okAll_cons ck_51 (okAll_cons ck_52 (okAll_cons ck_53 (okAll_cons ck_54 (okAll_cons ck_55 (okAll_cons ck_56 (okAll_cons ck_57 (okAll_cons ck_58 (okAll_cons ck_59 (okAll_cons ck_60 (okAll_cons ck_61 (okAll_cons ck_62 (okAll_cons ck_63 (okAll_cons ck_64 (okAll_cons ck_65 (okAll_cons ck_66 (okAll_cons ck_67 (okAll_cons ck_68 (okAll_cons ck_69 (okAll_cons ck_70 (okAll_cons ck_71 (okAll_cons ck_72 (okAll_cons ck_73 (okAll_cons ck_74 (ca_75)))))))))))))))))))))))))
def gg_25 : List pMeth := g_25 :: g_26 :: g_27 :: g_28 :: g_29 :: g_30 :: g_31 :: g_32 :: g_33 :: g_34 :: g_35 :: g_36 :: g_37 :: g_38 :: g_39 :: g_40 :: g_41 :: g_42 :: g_43 :: g_44 :: g_45 :: g_46 :: g_47 :: g_48 :: g_49 :: gg_50
def ff_25 : List pInf := f_25 :: f_26 :: f_27 :: f_28 :: f_29 :: f_30 :: f_31 :: f_32 :: f_33 :: f_34 :: f_35 :: f_36 :: f_37 :: f_38 :: f_39 :: f_40 :: f_41 :: f_42 :: f_43 :: f_44 :: f_45 :: f_46 :: f_47 :: f_48 :: f_49 :: ff_50
def bb_25 : List (List Nat) := bl_25 :: bl_26 :: bl_27 :: bl_28 :: bl_29 :: bl_30 :: bl_31 :: bl_32 :: bl_33 :: bl_34 :: bl_35 :: bl_36 :: bl_37 :: bl_38 :: bl_39 :: bl_40 :: bl_41 :: bl_42 :: bl_43 :: bl_44 :: bl_45 :: bl_46 :: bl_47 :: bl_48 :: bl_49 :: bb_50
theorem ca_25 : okAll pI pKf pStrs pThr pNcs gg_25 ff_25 bb_25 = true := okAll_cons ck_25 (okAll_cons ck_26 (okAll_cons ck_27 (okAll_cons ck_28 (okAll_cons ck_29 (okAll_cons ck_30 (okAll_cons ck_31 (okAll_cons ck_32 (okAll_cons ck_33 (okAll_cons ck_34 (okAll_cons ck_35 (okAll_cons ck_36 (okAll_cons ck_37 (okAll_cons ck_38 (okAll_cons ck_39 (okAll_cons ck_40 (okAll_cons ck_41 (okAll_cons ck_42 (okAll_cons ck_43 (okAll_cons ck_44 (okAll_cons ck_45 (okAll_cons ck_46 (okAll_cons ck_47 (okAll_cons ck_48 (okAll_cons ck_49 (ca_50)))))))))))))))))))))))))
def gg_0 : List pMeth := g_0 :: g_1 :: g_2 :: g_3 :: g_4 :: g_5 :: g_6 :: g_7 :: g_8 :: g_9 :: g_10 :: g_11 :: g_12 :: g_13 :: g_14 :: g_15 :: g_16 :: g_17 :: g_18 :: g_19 :: g_20 :: g_21 :: g_22 :: g_23 :: g_24 :: gg_25
def ff_0 : List pInf := f_0 :: f_1 :: f_2 :: f_3 :: f_4 :: f_5 :: f_6 :: f_7 :: f_8 :: f_9 :: f_10 :: f_11 :: f_12 :: f_13 :: f_14 :: f_15 :: f_16 :: f_17 :: f_18 :: f_19 :: f_20 :: f_21 :: f_22 :: f_23 :: f_24 :: ff_25
def bb_0 : List (List Nat) := bl_0 :: bl_1 :: bl_2 :: bl_3 :: bl_4 :: bl_5 :: bl_6 :: bl_7 :: bl_8 :: bl_9 :: bl_10 :: bl_11 :: bl_12 :: bl_13 :: bl_14 :: bl_15 :: bl_16 :: bl_17 :: bl_18 :: bl_19 :: bl_20 :: bl_21 :: bl_22 :: bl_23 :: bl_24 :: bb_25
theorem ca_0 : okAll pI pKf pStrs pThr pNcs gg_0 ff_0 bb_0 = true := okAll_cons ck_0 (okAll_cons ck_1 (okAll_cons ck_2 (okAll_cons ck_3 (okAll_cons ck_4 (okAll_cons ck_5 (okAll_cons ck_6 (okAll_cons ck_7 (okAll_cons ck_8 (okAll_cons ck_9 (okAll_cons ck_10 (okAll_cons ck_11 (okAll_cons ck_12 (okAll_cons ck_13 (okAll_cons ck_14 (okAll_cons ck_15 (okAll_cons ck_16 (okAll_cons ck_17 (okAll_cons ck_18 (okAll_cons ck_19 (okAll_cons ck_20 (okAll_cons ck_21 (okAll_cons ck_22 (okAll_cons ck_23 (okAll_cons ck_24 (ca_25)))))))))))))))))))))))))
set_option maxRecDepth 100000 in
theorem gg_eq : pG = gg_0 := rfl
set_option maxRecDepth 100000 in
theorem ff_eq : pI = ff_0 := rfl
set_option maxRecDepth 100000 in
theorem bb_eq : pBL = bb_0 := rfl
theorem kb_0 : okKb (123, 91, 122, 0) 2 f_0 = true := by decide +kernel
theorem kb_1 : okKb (513, 91, 511, 512) 1 f_1 = true := by decide +kernel
theorem kb_2 : okKb (524, 91, 522, 523) 1 f_2 = true := by decide +kernel
theorem kb_3 : okKb (719, 91, 717, 718) 1 f_3 = true := by decide +kernel
theorem kb_4 : okKb (1033, 91, 1031, 1032) 1 f_4 = true := by decide +kernel
theorem kb_5 : okKb (528, 91, 526, 527) 1 f_5 = true := by decide +kernel
theorem kb_6 : okKb (1086, 91, 1084, 1085) 1 f_6 = true := by decide +kernel
theorem kb_7 : okKb (1120, 91, 1118, 1119) 1 f_7 = true := by decide +kernel
theorem kb_8 : okKb (1138, 91, 1136, 1137) 1 f_8 = true := by decide +kernel
theorem kb_9 : okKb (1152, 91, 1150, 1151) 1 f_9 = true := by decide +kernel
theorem kb_10 : okKb (1160, 91, 1158, 1159) 1 f_10 = true := by decide +kernel
theorem kb_11 : okKb (1170, 91, 1168, 1169) 1 f_11 = true := by decide +kernel
theorem kb_12 : okKb (1195, 91, 1193, 1194) 1 f_12 = true := by decide +kernel
theorem kb_13 : okKb (1206, 91, 1204, 1205) 1 f_13 = true := by decide +kernel
theorem kb_14 : okKb (1214, 91, 1212, 1213) 1 f_14 = true := by decide +kernel
theorem kb_15 : okKb (1221, 91, 1219, 1220) 1 f_15 = true := by decide +kernel
theorem kb_16 : okKb (1228, 91, 1226, 1227) 1 f_16 = true := by decide +kernel
theorem kb_17 : okKb (1239, 91, 1237, 1238) 1 f_17 = true := by decide +kernel
theorem kb_18 : okKb (1247, 91, 1245, 1246) 1 f_18 = true := by decide +kernel
theorem kb_19 : okKb (1260, 91, 1258, 1259) 1 f_19 = true := by decide +kernel
theorem kb_20 : okKb (532, 91, 530, 531) 1 f_20 = true := by decide +kernel
theorem kb_21 : okKb (662, 91, 660, 661) 1 f_21 = true := by decide +kernel
theorem kb_22 : okKb (666, 91, 664, 665) 1 f_22 = true := by decide +kernel
theorem kb_23 : okKb (687, 91, 685, 686) 1 f_23 = true := by decide +kernel
theorem kb_24 : okKb (1273, 91, 1271, 1272) 1 f_24 = true := by decide +kernel
theorem kb_25 : okKb (1284, 91, 1282, 1283) 1 f_25 = true := by decide +kernel
theorem kb_26 : okKb (1318, 91, 1316, 1317) 1 f_26 = true := by decide +kernel
theorem kb_27 : okKb (1325, 91, 1323, 1324) 1 f_27 = true := by decide +kernel
theorem kb_28 : okKb (1356, 91, 1354, 1355) 1 f_28 = true := by decide +kernel
theorem kb_29 : okKb (1374, 91, 1372, 1373) 1 f_29 = true := by decide +kernel
theorem kb_30 : okKb (1417, 91, 1415, 1416) 1 f_30 = true := by decide +kernel
theorem kb_31 : okKb (1433, 91, 1431, 1432) 1 f_31 = true := by decide +kernel
theorem kb_32 : okKb (1440, 91, 1438, 1439) 1 f_32 = true := by decide +kernel
theorem kb_33 : okKb (1448, 91, 1446, 1447) 1 f_33 = true := by decide +kernel
theorem kb_34 : okKb (691, 91, 689, 690) 1 f_34 = true := by decide +kernel
theorem kb_35 : okKb (695, 91, 693, 694) 1 f_35 = true := by decide +kernel
theorem kb_36 : okKb (699, 91, 697, 698) 1 f_36 = true := by decide +kernel
theorem kb_37 : okKb (1090, 91, 1089, 24) 1 f_37 = true := by decide +kernel
theorem kb_38 : okKb (1124, 91, 1123, 25) 1 f_38 = true := by decide +kernel
theorem kb_39 : okKb (1142, 91, 1141, 26) 1 f_39 = true := by decide +kernel
theorem kb_40 : okKb (1251, 91, 1250, 27) 1 f_40 = true := by decide +kernel
theorem kb_41 : okKb (1128, 91, 1127, 0) 0 f_41 = true := by decide +kernel
theorem kb_42 : okKb (1328, 91, 1327, 0) 0 f_42 = true := by decide +kernel
theorem kb_43 : okKb (1360, 91, 1359, 31) 1 f_43 = true := by decide +kernel
theorem kb_44 : okKb (574, 91, 573, 0) 0 f_44 = true := by decide +kernel
theorem kb_45 : okKb (520, 91, 519, 0) 0 f_45 = true := by decide +kernel
theorem kb_46 : okKb (589, 91, 588, 0) 0 f_46 = true := by decide +kernel
theorem kb_47 : okKb (543, 91, 542, 0) 0 f_47 = true := by decide +kernel
theorem kb_48 : okKb (578, 91, 577, 0) 0 f_48 = true := by decide +kernel
theorem kb_49 : okKb (625, 91, 624, 0) 0 f_49 = true := by decide +kernel
theorem kb_50 : okKb (1479, 102, 1478, 0) 2 f_50 = true := by decide +kernel
theorem kb_51 : okKb (1572, 102, 1570, 1571) 1 f_51 = true := by decide +kernel
theorem kb_52 : okKb (1583, 102, 1582, 0) 0 f_52 = true := by decide +kernel
theorem kb_53 : okKb (1750, 102, 1749, 69) 1 f_53 = true := by decide +kernel
theorem kb_54 : okKb (1762, 102, 1761, 70) 1 f_54 = true := by decide +kernel
theorem kb_55 : okKb (1694, 102, 1693, 60) 1 f_55 = true := by decide +kernel
theorem kb_56 : okKb (1713, 102, 1712, 64) 1 f_56 = true := by decide +kernel
theorem kb_57 : okKb (1709, 102, 1708, 63) 1 f_57 = true := by decide +kernel
theorem kb_58 : okKb (1576, 102, 1574, 1575) 1 f_58 = true := by decide +kernel
theorem kb_59 : okKb (1580, 102, 1578, 1579) 1 f_59 = true := by decide +kernel
theorem kb_60 : okKb (1599, 102, 1598, 42) 1 f_60 = true := by decide +kernel
theorem kb_61 : okKb (1595, 102, 1594, 41) 1 f_61 = true := by decide +kernel
theorem kb_62 : okKb (1633, 102, 1632, 49) 1 f_62 = true := by decide +kernel
theorem kb_63 : okKb (1612, 102, 1611, 45) 1 f_63 = true := by decide +kernel
theorem kb_64 : okKb (1603, 102, 1602, 43) 1 f_64 = true := by decide +kernel
theorem kb_65 : okKb (1676, 102, 1675, 56) 1 f_65 = true := by decide +kernel
theorem kb_66 : okKb (1652, 102, 1651, 53) 1 f_66 = true := by decide +kernel
theorem kb_67 : okKb (1669, 102, 1668, 55) 1 f_67 = true := by decide +kernel
theorem kb_68 : okKb (1664, 102, 1663, 54) 1 f_68 = true := by decide +kernel
theorem kb_69 : okKb (1591, 102, 1590, 40) 1 f_69 = true := by decide +kernel
theorem kb_70 : okKb (1587, 102, 1585, 1586) 1 f_70 = true := by decide +kernel
theorem kb_71 : okKb (1648, 102, 1647, 52) 1 f_71 = true := by decide +kernel
theorem kb_72 : okKb (1644, 102, 1643, 51) 1 f_72 = true := by decide +kernel
theorem kb_73 : okKb (1637, 102, 1636, 50) 1 f_73 = true := by decide +kernel
theorem kb_74 : okKb (1628, 102, 1627, 48) 1 f_74 = true := by decide +kernel
theorem kb_75 : okKb (1624, 102, 1623, 47) 1 f_75 = true := by decide +kernel
theorem kb_76 : okKb (1620, 102, 1619, 46) 1 f_76 = true := by decide +kernel
theorem kb_77 : okKb (1607, 102, 1606, 44) 1 f_77 = true := by decide +kernel
theorem kb_78 : okKb (1738, 102, 1736, 1737) 1 f_78 = true := by decide +kernel
theorem kb_79 : okKb (1742, 102, 1740, 1741) 1 f_79 = true := by decide +kernel
theorem kb_80 : okKb (1746, 102, 1744, 1745) 1 f_80 = true := by decide +kernel
theorem kb_81 : okKb (1701, 102, 1700, 0) 0 f_81 = true := by decide +kernel
theorem kb_82 : okKb (1705, 102, 1704, 62) 1 f_82 = true := by decide +kernel
theorem kb_83 : okKb (1690, 102, 1689, 59) 1 f_83 = true := by decide +kernel
theorem kb_84 : okKb (1698, 102, 1697, 61) 1 f_84 = true := by decide +kernel
theorem kb_85 : okKb (1726, 102, 1725, 67) 1 f_85 = true := by decide +kernel
theorem kb_86 : okKb (1686, 102, 1685, 58) 1 f_86 = true := by decide +kernel
theorem kb_87 : okKb (1682, 102, 1681, 57) 1 f_87 = true := by decide +kernel
theorem kb_88 : okKb (1722, 102, 1721, 66) 1 f_88 = true := by decide +kernel
theorem kb_89 : okKb (1718, 102, 1717, 65) 1 f_89 = true := by decide +kernel
theorem kb_90 : okKb (1732, 102, 1731, 68) 1 f_90 = true := by decide +kernel
theorem kb_91 : okKb (1754, 102, 1752, 1753) 1 f_91 = true := by decide +kernel
theorem kb_92 : okKb (1758, 102, 1756, 1757) 1 f_92 = true := by decide +kernel
theorem kb_93 : okKb (1766, 102, 1764, 1765) 1 f_93 = true := by decide +kernel
theorem kb_94 : okKb (1770, 102, 1768, 1769) 1 f_94 = true := by decide +kernel
theorem kb_95 : okKb (1774, 102, 1772, 1773) 1 f_95 = true := by decide +kernel
theorem kb_96 : okKb (1778, 102, 1776, 1777) 1 f_96 = true := by decide +kernel
theorem kb_97 : okKb (1782, 102, 1780, 1781) 1 f_97 = true := by decide +kernel
theorem kb_98 : okKb (1786, 102, 1784, 1785) 1 f_98 = true := by decide +kernel
theorem kb_99 : okKb (1790, 102, 1788, 1789) 1 f_99 = true := by decide +kernel
theorem kb_100 : okKb (1798, 102, 1797, 71) 1 f_100 = true := by decide +kernel
theorem kb_101 : okKb (1794, 102, 1792, 1793) 1 f_101 = true := by decide +kernel
theorem kb_102 : okKb (1810, 102, 1809, 73) 1 f_102 = true := by decide +kernel
theorem kb_103 : okKb (1806, 102, 1805, 72) 1 f_103 = true := by decide +kernel
theorem kb_104 : okKb (1802, 102, 1800, 1801) 1 f_104 = true := by decide +kernel
theorem kb_105 : okKb (1818, 102, 1817, 74) 1 f_105 = true := by decide +kernel
theorem kb_106 : okKb (1826, 102, 1825, 76) 1 f_106 = true := by decide +kernel
theorem kb_107 : okKb (1822, 102, 1821, 75) 1 f_107 = true := by decide +kernel
theorem kb_108 : okKb (1814, 102, 1812, 1813) 1 f_108 = true := by decide +kernel
theorem kb_109 : okKb (1834, 102, 1833, 77) 1 f_109 = true := by decide +kernel
theorem kb_110 : okKb (1830, 102, 1828, 1829) 1 f_110 = true := by decide +kernel
theorem kb_111 : okKb (1846, 102, 1845, 79) 1 f_111 = true := by decide +kernel
theorem kb_112 : okKb (1842, 102, 1841, 78) 1 f_112 = true := by decide +kernel
theorem kb_113 : okKb (1838, 102, 1836, 1837) 1 f_113 = true := by decide +kernel
theorem kb_114 : okKb (1850, 102, 1848, 1849) 1 f_114 = true := by decide +kernel
theorem kb_115 : okKb (1857, 102, 1856, 0) 0 f_115 = true := by decide +kernel
theorem kb_116 : okKb (1854, 102, 1852, 1853) 1 f_116 = true := by decide +kernel
theorem kb_117 : okKb (1861, 102, 1859, 1860) 1 f_117 = true := by decide +kernel
theorem kb_118 : okKb (1873, 102, 1872, 81) 1 f_118 = true := by decide +kernel
theorem kb_119 : okKb (1869, 102, 1868, 80) 1 f_119 = true := by decide +kernel
theorem kb_120 : okKb (1865, 102, 1863, 1864) 1 f_120 = true := by decide +kernel
theorem kb_121 : okKb (1885, 102, 1884, 83) 1 f_121 = true := by decide +kernel
theorem kb_122 : okKb (1889, 102, 1888, 84) 1 f_122 = true := by decide +kernel
theorem kb_123 : okKb (1881, 102, 1880, 82) 1 f_123 = true := by decide +kernel
theorem kb_124 : okKb (1877, 102, 1875, 1876) 1 f_124 = true := by decide +kernel
theorem kb_125 : okKb (1893, 102, 1891, 1892) 1 f_125 = true := by decide +kernel
theorem kb_126 : okKb (1897, 102, 1895, 1896) 1 f_126 = true := by decide +kernel
theorem kb_127 : okKb (1901, 102, 1899, 1900) 1 f_127 = true := by decide +kernel
theorem kb_128 : okKb (1917, 102, 1916, 87) 1 f_128 = true := by decide +kernel
theorem kb_129 : okKb (1913, 102, 1912, 86) 1 f_129 = true := by decide +kernel
theorem kb_130 : okKb (1909, 102, 1908, 85) 1 f_130 = true := by decide +kernel
theorem kb_131 : okKb (1905, 102, 1903, 1904) 1 f_131 = true := by decide +kernel
theorem kb_132 : okKb (1925, 102, 1924, 88) 1 f_132 = true := by decide +kernel
theorem kb_133 : okKb (1921, 102, 1919, 1920) 1 f_133 = true := by decide +kernel
theorem kb_134 : okKb (1929, 102, 1927, 1928) 1 f_134 = true := by decide +kernel
theorem kb_135 : okKb (1933, 102, 1931, 1932) 1 f_135 = true := by decide +kernel
theorem kb_136 : okKb (1941, 102, 1940, 89) 1 f_136 = true := by decide +kernel
theorem kb_137 : okKb (1937, 102, 1935, 1936) 1 f_137 = true := by decide +kernel
theorem kb_138 : okKb (1946, 102, 1944, 1945) 1 f_138 = true := by decide +kernel
theorem kb_139 : okKb (1950, 102, 1948, 1949) 1 f_139 = true := by decide +kernel
theorem kb_140 : okKb (1954, 102, 1952, 1953) 1 f_140 = true := by decide +kernel
theorem kb_141 : okKb (191, 95, 190, 0) 2 f_141 = true := by decide +kernel
theorem kb_142 : okKb (557, 95, 555, 556) 1 f_142 = true := by decide +kernel
theorem kb_143 : okKb (562, 95, 560, 561) 1 f_143 = true := by decide +kernel
theorem kb_144 : okKb (915, 95, 913, 914) 1 f_144 = true := by decide +kernel
theorem kb_145 : okKb (924, 95, 922, 923) 1 f_145 = true := by decide +kernel
theorem kb_146 : okKb (571, 95, 569, 570) 1 f_146 = true := by decide +kernel
theorem kb_147 : okKb (586, 95, 584, 585) 1 f_147 = true := by decide +kernel
theorem kb_148 : okKb (928, 95, 926, 927) 1 f_148 = true := by decide +kernel
theorem kb_149 : okKb (1199, 95, 1197, 1198) 1 f_149 = true := by decide +kernel
theorem kb_150 : okKb (629, 95, 627, 628) 1 f_150 = true := by decide +kernel
theorem kb_151 : okKb (703, 95, 701, 702) 1 f_151 = true := by decide +kernel
theorem kb_152 : okKb (670, 95, 668, 669) 1 f_152 = true := by decide +kernel
theorem kb_153 : okKb (1232, 95, 1230, 1231) 1 f_153 = true := by decide +kernel
theorem kb_154 : okKb (1421, 95, 1419, 1420) 1 f_154 = true := by decide +kernel
theorem kb_155 : okKb (1425, 95, 1424, 37) 1 f_155 = true := by decide +kernel
theorem kb_156 : okKb (153, 94, 152, 0) 2 f_156 = true := by decide +kernel
theorem kb_157 : okKb (540, 94, 538, 539) 1 f_157 = true := by decide +kernel
theorem kb_158 : okKb (553, 94, 551, 552) 1 f_158 = true := by decide +kernel
theorem kb_159 : okKb (1094, 94, 1092, 1093) 1 f_159 = true := by decide +kernel
theorem kb_160 : okKb (902, 94, 900, 901) 1 f_160 = true := by decide +kernel
theorem kb_161 : okKb (907, 94, 905, 906) 1 f_161 = true := by decide +kernel
theorem kb_162 : okKb (708, 94, 706, 707) 1 f_162 = true := by decide +kernel
theorem kb_163 : okKb (1470, 94, 1468, 1469) 1 f_163 = true := by decide +kernel
theorem kb_164 : okKb (1474, 94, 1472, 1473) 1 f_164 = true := by decide +kernel
theorem kb_165 : okKb (458, 101, 457, 0) 2 f_165 = true := by decide +kernel
theorem kb_166 : okKb (1454, 101, 1452, 1453) 1 f_166 = true := by decide +kernel
theorem kb_167 : okKb (1465, 101, 1464, 39) 1 f_167 = true := by decide +kernel
theorem kb_168 : okKb (1458, 101, 1457, 38) 1 f_168 = true := by decide +kernel
theorem kb_169 : okKb (408, 99, 407, 0) 2 f_169 = true := by decide +kernel
theorem kb_170 : okKb (1288, 99, 1286, 1287) 1 f_170 = true := by decide +kernel
theorem kb_171 : okKb (1292, 99, 1291, 0) 0 f_171 = true := by decide +kernel
theorem kb_172 : okKb (1298, 99, 1296, 1297) 1 f_172 = true := by decide +kernel
theorem kb_173 : okKb (1303, 99, 1302, 28) 1 f_173 = true := by decide +kernel
theorem kb_174 : okKb (1309, 99, 1308, 29) 1 f_174 = true := by decide +kernel
theorem kb_175 : okKb (1333, 99, 1331, 1332) 1 f_175 = true := by decide +kernel
theorem kb_176 : okKb (1340, 99, 1338, 1339) 1 f_176 = true := by decide +kernel
theorem kb_177 : okKb (1344, 99, 1342, 1343) 1 f_177 = true := by decide +kernel
theorem kb_178 : okKb (1349, 99, 1348, 30) 1 f_178 = true := by decide +kernel
theorem kb_179 : okKb (312, 96, 311, 0) 2 f_179 = true := by decide +kernel
theorem kb_180 : okKb (729, 96, 728, 0) 2 f_180 = true := by decide +kernel
theorem kb_181 : okKb (737, 96, 736, 0) 2 f_181 = true := by decide +kernel
theorem kb_182 : okKb (741, 96, 740, 0) 0 f_182 = true := by decide +kernel
theorem kb_183 : okKb (745, 96, 744, 0) 2 f_183 = true := by decide +kernel
theorem kb_184 : okKb (801, 96, 800, 0) 2 f_184 = true := by decide +kernel
theorem kb_185 : okKb (749, 96, 748, 0) 2 f_185 = true := by decide +kernel
theorem kb_186 : okKb (820, 96, 819, 0) 2 f_186 = true := by decide +kernel
theorem kb_187 : okKb (842, 96, 841, 0) 2 f_187 = true := by decide +kernel
theorem kb_188 : okKb (879, 96, 878, 0) 2 f_188 = true := by decide +kernel
theorem kb_189 : okKb (814, 96, 813, 0) 2 f_189 = true := by decide +kernel
theorem kb_190 : okKb (434, 100, 433, 0) 2 f_190 = true := by decide +kernel
theorem kb_191 : okKb (1378, 100, 1376, 1377) 1 f_191 = true := by decide +kernel
theorem kb_192 : okKb (1384, 100, 1383, 32) 1 f_192 = true := by decide +kernel
theorem kb_193 : okKb (1389, 100, 1388, 33) 1 f_193 = true := by decide +kernel
theorem kb_194 : okKb (1400, 100, 1399, 35) 1 f_194 = true := by decide +kernel
theorem kb_195 : okKb (1394, 100, 1393, 34) 1 f_195 = true := by decide +kernel
theorem kb_196 : okKb (1409, 100, 1408, 36) 1 f_196 = true := by decide +kernel
theorem kb_197 : okKb (131, 92, 130, 0) 2 f_197 = true := by decide +kernel
theorem kb_198 : okKb (517, 92, 515, 516) 1 f_198 = true := by decide +kernel
theorem kb_199 : okKb (723, 92, 721, 722) 1 f_199 = true := by decide +kernel
theorem kb_200 : okKb (1049, 109, 1048, 0) 2 f_200 = true := by decide +kernel
theorem kb_201 : okKb (637, 109, 635, 636) 1 f_201 = true := by decide +kernel
theorem kb_202 : okKb (650, 109, 649, 0) 0 f_202 = true := by decide +kernel
theorem kb_203 : okKb (642, 109, 640, 6) 1 f_203 = true := by decide +kernel
theorem kb_204 : okKb (647, 109, 646, 7) 1 f_204 = true := by decide +kernel
theorem kb_205 : okKb (384, 98, 383, 0) 2 f_205 = true := by decide +kernel
theorem kb_206 : okKb (1037, 98, 1035, 1036) 1 f_206 = true := by decide +kernel
theorem kb_207 : okKb (1045, 98, 1043, 1044) 1 f_207 = true := by decide +kernel
theorem kb_208 : okKb (808, 98, 807, 0) 2 f_208 = true := by decide +kernel
theorem kb_209 : okKb (824, 98, 823, 10) 1 f_209 = true := by decide +kernel
theorem kb_210 : okKb (828, 98, 827, 11) 1 f_210 = true := by decide +kernel
theorem kb_211 : okKb (832, 98, 831, 12) 1 f_211 = true := by decide +kernel
theorem kb_212 : okKb (848, 98, 847, 14) 1 f_212 = true := by decide +kernel
theorem kb_213 : okKb (852, 98, 851, 15) 1 f_213 = true := by decide +kernel
theorem kb_214 : okKb (836, 98, 835, 13) 1 f_214 = true := by decide +kernel
theorem kb_215 : okKb (147, 93, 146, 0) 2 f_215 = true := by decide +kernel
theorem kb_216 : okKb (536, 93, 534, 535) 1 f_216 = true := by decide +kernel
theorem kb_217 : okKb (681, 93, 679, 680) 1 f_217 = true := by decide +kernel
theorem kb_218 : okKb (1078, 93, 1076, 1077) 1 f_218 = true := by decide +kernel
theorem kb_219 : okKb (941, 93, 939, 940) 1 f_219 = true := by decide +kernel
theorem kb_220 : okKb (1367, 93, 1365, 1366) 1 f_220 = true := by decide +kernel
theorem kb_221 : okKb (1404, 93, 1402, 1403) 1 f_221 = true := by decide +kernel
theorem kb_222 : okKb (618, 93, 617, 3) 1 f_222 = true := by decide +kernel
theorem kb_223 : okKb (614, 93, 612, 613) 1 f_223 = true := by decide +kernel
theorem kb_224 : okKb (658, 93, 657, 9) 1 f_224 = true := by decide +kernel
theorem kb_225 : okKb (633, 93, 632, 5) 1 f_225 = true := by decide +kernel
theorem kb_226 : okKb (622, 93, 621, 4) 1 f_226 = true := by decide +kernel
theorem kb_227 : okKb (654, 93, 653, 8) 1 f_227 = true := by decide +kernel
theorem kb_228 : okKb (911, 93, 909, 910) 1 f_228 = true := by decide +kernel
theorem kb_229 : okKb (610, 93, 609, 2) 1 f_229 = true := by decide +kernel
theorem kb_230 : okKb (606, 93, 605, 1) 1 f_230 = true := by decide +kernel
theorem kb_231 : okKb (920, 93, 918, 919) 1 f_231 = true := by decide +kernel
theorem kb_232 : okKb (933, 93, 931, 932) 1 f_232 = true := by decide +kernel
theorem kb_233 : okKb (582, 93, 581, 0) 1 f_233 = true := by decide +kernel
theorem kb_234 : okKb (937, 93, 935, 936) 1 f_234 = true := by decide +kernel
theorem kb_235 : okKb (567, 93, 565, 566) 1 f_235 = true := by decide +kernel
theorem kb_236 : okKb (602, 93, 600, 601) 1 f_236 = true := by decide +kernel
theorem kb_237 : okKb (598, 93, 596, 597) 1 f_237 = true := by decide +kernel
theorem kb_238 : okKb (1264, 93, 1262, 1263) 1 f_238 = true := by decide +kernel
theorem kb_239 : okKb (594, 93, 592, 593) 1 f_239 = true := by decide +kernel
theorem kb_240 : okKb (1277, 93, 1275, 1276) 1 f_240 = true := by decide +kernel
theorem kb_241 : okKb (308, 97, 307, 0) 2 f_241 = true := by decide +kernel
theorem kb_242 : okKb (855, 97, 854, 0) 2 f_242 = true := by decide +kernel
theorem kb_243 : okKb (859, 97, 858, 16) 1 f_243 = true := by decide +kernel
theorem kb_244 : okKb (869, 97, 868, 17) 1 f_244 = true := by decide +kernel
theorem kb_245 : okKb (891, 97, 890, 21) 1 f_245 = true := by decide +kernel
theorem kb_246 : okKb (873, 97, 872, 18) 1 f_246 = true := by decide +kernel
theorem kb_247 : okKb (898, 97, 897, 22) 1 f_247 = true := by decide +kernel
theorem kb_248 : okKb (883, 97, 882, 19) 1 f_248 = true := by decide +kernel
theorem kb_249 : okKb (887, 97, 886, 20) 1 f_249 = true := by decide +kernel
theorem kb_250 : okKb (713, 90, 712, 0) 0 f_250 = true := by decide +kernel
theorem kb_251 : okKb (1029, 90, 1028, 0) 0 f_251 = true := by decide +kernel
theorem kb_252 : okKb (1081, 90, 1080, 0) 0 f_252 = true := by decide +kernel
theorem kb_253 : okKb (1116, 90, 1115, 0) 0 f_253 = true := by decide +kernel
theorem kb_254 : okKb (1134, 90, 1133, 0) 0 f_254 = true := by decide +kernel
theorem kb_255 : okKb (1148, 90, 1147, 0) 0 f_255 = true := by decide +kernel
theorem kb_256 : okKb (1156, 90, 1155, 0) 0 f_256 = true := by decide +kernel
theorem kb_257 : okKb (1165, 90, 1164, 0) 0 f_257 = true := by decide +kernel
theorem kb_258 : okKb (1191, 90, 1190, 0) 0 f_258 = true := by decide +kernel
theorem kb_259 : okKb (1202, 90, 1201, 0) 0 f_259 = true := by decide +kernel
theorem kb_260 : okKb (1210, 90, 1209, 0) 0 f_260 = true := by decide +kernel
theorem kb_261 : okKb (1217, 90, 1216, 0) 0 f_261 = true := by decide +kernel
theorem kb_262 : okKb (1224, 90, 1223, 0) 0 f_262 = true := by decide +kernel
theorem kb_263 : okKb (1235, 90, 1234, 0) 0 f_263 = true := by decide +kernel
theorem kb_264 : okKb (1243, 90, 1242, 0) 0 f_264 = true := by decide +kernel
theorem kb_265 : okKb (1256, 90, 1255, 0) 0 f_265 = true := by decide +kernel
theorem kb_266 : okKb (1269, 90, 1268, 0) 0 f_266 = true := by decide +kernel
theorem kb_267 : okKb (1280, 90, 1279, 0) 0 f_267 = true := by decide +kernel
theorem kb_268 : okKb (1314, 90, 1313, 0) 0 f_268 = true := by decide +kernel
theorem kb_269 : okKb (1321, 90, 1320, 0) 0 f_269 = true := by decide +kernel
theorem kb_270 : okKb (1352, 90, 1351, 0) 0 f_270 = true := by decide +kernel
theorem kb_271 : okKb (1370, 90, 1369, 0) 0 f_271 = true := by decide +kernel
theorem kb_272 : okKb (1413, 90, 1412, 0) 0 f_272 = true := by decide +kernel
theorem kb_273 : okKb (1429, 90, 1428, 0) 0 f_273 = true := by decide +kernel
theorem kb_274 : okKb (1436, 90, 1435, 0) 0 f_274 = true := by decide +kernel
theorem kb_275 : okKb (1444, 90, 1443, 0) 0 f_275 = true := by decide +kernel
theorem kb_276 : okKb (674, 118, 673, 0) 0 f_276 = true := by decide +kernel
theorem kb_277 : okKb (1336, 115, 1335, 0) 0 f_277 = true := by decide +kernel
theorem kb_278 : okKb (1055, 115, 1054, 0) 0 f_278 = true := by decide +kernel
theorem kb_279 : okKb (0, 0, 0, 0) 3 f_279 = true := by decide +kernel
theorem kb_280 : okKb (753, 105, 751, 752) 1 f_280 = true := by decide +kernel
theorem kb_281 : okKb (763, 105, 761, 762) 1 f_281 = true := by decide +kernel
theorem okKs_cons {ix : Nat × Nat × Nat × Nat} {f : pInf} {I : List pInf} {k : Nat} {kf : List Nat} (h1 : okKb ix k f = true) (h2 : okKs I kf) : okKs (f :: I) (k :: kf) := ⟨⟨ix, h1⟩, h2⟩
def kk_280 : List Nat := [1, 1]
theorem kt_280 : okKs [f_280, f_281] kk_280 := okKs_cons kb_280 (okKs_cons kb_281 (trivial))
def kk_275 : List Nat := 0 :: 0 :: 0 :: 0 :: 3 :: kk_280
theorem kt_275 : okKs ff_275 kk_275 := okKs_cons kb_275 (okKs_cons kb_276 (okKs_cons kb_277 (okKs_cons kb_278 (okKs_cons kb_279 (kt_280)))))
def kk_250 : List Nat := 0 :: 0 :: 0 :: 0 :: 0 :: 0 :: 0 :: 0 :: 0 :: 0 :: 0 :: 0 :: 0 :: 0 :: 0 :: 0 :: 0 :: 0 :: 0 :: 0 :: 0 :: 0 :: 0 :: 0 :: 0 :: kk_275
theorem kt_250 : okKs ff_250 kk_250 := okKs_cons kb_250 (okKs_cons kb_251 (okKs_cons kb_252 (okKs_cons kb_253 (okKs_cons kb_254 (okKs_cons kb_255 (okKs_cons kb_256 (okKs_cons kb_257 (okKs_cons kb_258 (okKs_cons kb_259 (okKs_cons kb_260 (okKs_cons kb_261 (okKs_cons kb_262 (okKs_cons kb_263 (okKs_cons kb_264 (okKs_cons kb_265 (okKs_cons kb_266 (okKs_cons kb_267 (okKs_cons kb_268 (okKs_cons kb_269 (okKs_cons kb_270 (okKs_cons kb_271 (okKs_cons kb_272 (okKs_cons kb_273 (okKs_cons kb_274 (kt_275)))))))))))))))))))))))))
def kk_225 : List Nat := 1 :: 1 :: 1 :: 1 :: 1 :: 1 :: 1 :: 1 :: 1 :: 1 :: 1 :: 1 :: 1 :: 1 :: 1 :: 1 :: 2 :: 2 :: 1 :: 1 :: 1 :: 1 :: 1 :: 1 :: 1 :: kk_250
theorem kt_225 : okKs ff_225 kk_225 := okKs_cons kb_225 (okKs_cons kb_226 (okKs_cons kb_227 (okKs_cons kb_228 (okKs_cons kb_229 (okKs_cons kb_230 (okKs_cons kb_231 (okKs_cons kb_232 (okKs_cons kb_233 (okKs_cons kb_234 (okKs_cons kb_235 (okKs_cons kb_236 (okKs_cons kb_237 (okKs_cons kb_238 (okKs_cons kb_239 (okKs_cons kb_240 (okKs_cons kb_241 (okKs_cons kb_242 (okKs_cons kb_243 (okKs_cons kb_244 (okKs_cons kb_245 (okKs_cons kb_246 (okKs_cons kb_247 (okKs_cons kb_248 (okKs_cons kb_249 (kt_250)))))))))))))))))))))))))
def kk_200 : List Nat := 2 :: 1 :: 0 :: 1 :: 1 :: 2 :: 1 :: 1 :: 2 :: 1 :: 1 :: 1 :: 1 :: 1 :: 1 :: 2 :: 1 :: 1 :: 1 :: 1 :: 1 :: 1 :: 1 :: 1 :: 1 :: kk_225
theorem kt_200 : okKs ff_200 kk_200 := okKs_cons kb_200 (okKs_cons kb_201 (okKs_cons kb_202 (okKs_cons kb_203 (okKs_cons kb_204 (okKs_cons kb_205 (okKs_cons kb_206 (okKs_cons kb_207 (okKs_cons kb_208 (okKs_cons kb_209 (okKs_cons kb_210 (okKs_cons kb_211 (okKs_cons kb_212 (okKs_cons kb_213 (okKs_cons kb_214 (okKs_cons kb_215 (okKs_cons kb_216 (okKs_cons kb_217 (okKs_cons kb_218 (okKs_cons kb_219 (okKs_cons kb_220 (okKs_cons kb_221 (okKs_cons kb_222 (okKs_cons kb_223 (okKs_cons kb_224 (kt_225)))))))))))))))))))))))))
def kk_175 : List Nat := 1 :: 1 :: 1 :: 1 :: 2 :: 2 :: 2 :: 0 :: 2 :: 2 :: 2 :: 2 :: 2 :: 2 :: 2 :: 2 :: 1 :: 1 :: 1 :: 1 :: 1 :: 1 :: 2 :: 1 :: 1 :: kk_200
theorem kt_175 : okKs ff_175 kk_175 := okKs_cons kb_175 (okKs_cons kb_176 (okKs_cons kb_177 (okKs_cons kb_178 (okKs_cons kb_179 (okKs_cons kb_180 (okKs_cons kb_181 (okKs_cons kb_182 (okKs_cons kb_183 (okKs_cons kb_184 (okKs_cons kb_185 (okKs_cons kb_186 (okKs_cons kb_187 (okKs_cons kb_188 (okKs_cons kb_189 (okKs_cons kb_190 (okKs_cons kb_191 (okKs_cons kb_192 (okKs_cons kb_193 (okKs_cons kb_194 (okKs_cons kb_195 (okKs_cons kb_196 (okKs_cons kb_197 (okKs_cons kb_198 (okKs_cons kb_199 (kt_200)))))))))))))))))))))))))
def kk_150 : List Nat := 1 :: 1 :: 1 :: 1 :: 1 :: 1 :: 2 :: 1 :: 1 :: 1 :: 1 :: 1 :: 1 :: 1 :: 1 :: 2 :: 1 :: 1 :: 1 :: 2 :: 1 :: 0 :: 1 :: 1 :: 1 :: kk_175
theorem kt_150 : okKs ff_150 kk_150 := okKs_cons kb_150 (okKs_cons kb_151 (okKs_cons kb_152 (okKs_cons kb_153 (okKs_cons kb_154 (okKs_cons kb_155 (okKs_cons kb_156 (okKs_cons kb_157 (okKs_cons kb_158 (okKs_cons kb_159 (okKs_cons kb_160 (okKs_cons kb_161 (okKs_cons kb_162 (okKs_cons kb_163 (okKs_cons kb_164 (okKs_cons kb_165 (okKs_cons kb_166 (okKs_cons kb_167 (okKs_cons kb_168 (okKs_cons kb_169 (okKs_cons kb_170 (okKs_cons kb_171 (okKs_cons kb_172 (okKs_cons kb_173 (okKs_cons kb_174 (kt_175)))))))))))))))))))))))))
def kk_125 : List Nat := 1 :: 1 :: 1 :: 1 :: 1 :: 1 :: 1 :: 1 :: 1 :: 1 :: 1 :: 1 :: 1 :: 1 :: 1 :: 1 :: 2 :: 1 :: 1 :: 1 :: 1 :: 1 :: 1 :: 1 :: 1 :: kk_150
theorem kt_125 : okKs ff_125 kk_125 := okKs_cons kb_125 (okKs_cons kb_126 (okKs_cons kb_127 (okKs_cons kb_128 (okKs_cons kb_129 (okKs_cons kb_130 (okKs_cons kb_131 (okKs_cons kb_132 (okKs_cons kb_133 (okKs_cons kb_134 (okKs_cons kb_135 (okKs_cons kb_136 (okKs_cons kb_137 (okKs_cons kb_138 (okKs_cons kb_139 (okKs_cons kb_140 (okKs_cons kb_141 (okKs_cons kb_142 (okKs_cons kb_143 (okKs_cons kb_144 (okKs_cons kb_145 (okKs_cons kb_146 (okKs_cons kb_147 (okKs_cons kb_148 (okKs_cons kb_149 (kt_150)))))))))))))))))))))))))
def kk_100 : List Nat := 1 :: 1 :: 1 :: 1 :: 1 :: 1 :: 1 :: 1 :: 1 :: 1 :: 1 :: 1 :: 1 :: 1 :: 1 :: 0 :: 1 :: 1 :: 1 :: 1 :: 1 :: 1 :: 1 :: 1 :: 1 :: kk_125
theorem kt_100 : okKs ff_100 kk_100 := okKs_cons kb_100 (okKs_cons kb_101 (okKs_cons kb_102 (okKs_cons kb_103 (okKs_cons kb_104 (okKs_cons kb_105 (okKs_cons kb_106 (okKs_cons kb_107 (okKs_cons kb_108 (okKs_cons kb_109 (okKs_cons kb_110 (okKs_cons kb_111 (okKs_cons kb_112 (okKs_cons kb_113 (okKs_cons kb_114 (okKs_cons kb_115 (okKs_cons kb_116 (okKs_cons kb_117 (okKs_cons kb_118 (okKs_cons kb_119 (okKs_cons kb_120 (okKs_cons kb_121 (okKs_cons kb_122 (okKs_cons kb_123 (okKs_cons kb_124 (kt_125)))))))))))))))))))))))))
def kk_75 : List Nat := 1 :: 1 :: 1 :: 1 :: 1 :: 1 :: 0 :: 1 :: 1 :: 1 :: 1 :: 1 :: 1 :: 1 :: 1 :: 1 :: 1 :: 1 :: 1 :: 1 :: 1 :: 1 :: 1 :: 1 :: 1 :: kk_100
theorem kt_75 : okKs ff_75 kk_75 := okKs_cons kb_75 (okKs_cons kb_76 (okKs_cons kb_77 (okKs_cons kb_78 (okKs_cons kb_79 (okKs_cons kb_80 (okKs_cons kb_81 (okKs_cons kb_82 (okKs_cons kb_83 (okKs_cons kb_84 (okKs_cons kb_85 (okKs_cons kb_86 (okKs_cons kb_87 (okKs_cons kb_88 (okKs_cons kb_89 (okKs_cons kb_90 (okKs_cons kb_91 (okKs_cons kb_92 (okKs_cons kb_93 (okKs_cons kb_94 (okKs_cons kb_95 (okKs_cons kb_96 (okKs_cons kb_97 (okKs_cons kb_98 (okKs_cons kb_99 (kt_100)))))))))))))))))))))))))
def kk_50 : List Nat := 2 :: 1 :: 0 :: 1 :: 1 :: 1 :: 1 :: 1 :: 1 :: 1 :: 1 :: 1 :: 1 :: 1 :: 1 :: 1 :: 1 :: 1 :: 1 :: 1 :: 1 :: 1 :: 1 :: 1 :: 1 :: kk_75
theorem kt_50 : okKs ff_50 kk_50 := okKs_cons kb_50 (okKs_cons kb_51 (okKs_cons kb_52 (okKs_cons kb_53 (okKs_cons kb_54 (okKs_cons kb_55 (okKs_cons kb_56 (okKs_cons kb_57 (okKs_cons kb_58 (okKs_cons kb_59 (okKs_cons kb_60 (okKs_cons kb_61 (okKs_cons kb_62 (okKs_cons kb_63 (okKs_cons kb_64 (okKs_cons kb_65 (okKs_cons kb_66 (okKs_cons kb_67 (okKs_cons kb_68 (okKs_cons kb_69 (okKs_cons kb_70 (okKs_cons kb_71 (okKs_cons kb_72 (okKs_cons kb_73 (okKs_cons kb_74 (kt_75)))))))))))))))))))))))))
def kk_25 : List Nat := 1 :: 1 :: 1 :: 1 :: 1 :: 1 :: 1 :: 1 :: 1 :: 1 :: 1 :: 1 :: 1 :: 1 :: 1 :: 1 :: 0 :: 0 :: 1 :: 0 :: 0 :: 0 :: 0 :: 0 :: 0 :: kk_50
theorem kt_25 : okKs ff_25 kk_25 := okKs_cons kb_25 (okKs_cons kb_26 (okKs_cons kb_27 (okKs_cons kb_28 (okKs_cons kb_29 (okKs_cons kb_30 (okKs_cons kb_31 (okKs_cons kb_32 (okKs_cons kb_33 (okKs_cons kb_34 (okKs_cons kb_35 (okKs_cons kb_36 (okKs_cons kb_37 (okKs_cons kb_38 (okKs_cons kb_39 (okKs_cons kb_40 (okKs_cons kb_41 (okKs_cons kb_42 (okKs_cons kb_43 (okKs_cons kb_44 (okKs_cons kb_45 (okKs_cons kb_46 (okKs_cons kb_47 (okKs_cons kb_48 (okKs_cons kb_49 (kt_50)))))))))))))))))))))))))
def kk_0 : List Nat := 2 :: 1 :: 1 :: 1 :: 1 :: 1 :: 1 :: 1 :: 1 :: 1 :: 1 :: 1 :: 1 :: 1 :: 1 :: 1 :: 1 :: 1 :: 1 :: 1 :: 1 :: 1 :: 1 :: 1 :: 1 :: kk_25
theorem kt_0 : okKs ff_0 kk_0 := okKs_cons kb_0 (okKs_cons kb_1 (okKs_cons kb_2 (okKs_cons kb_3 (okKs_cons kb_4 (okKs_cons kb_5 (okKs_cons kb_6 (okKs_cons kb_7 (okKs_cons kb_8 (okKs_cons kb_9 (okKs_cons kb_10 (okKs_cons kb_11 (okKs_cons kb_12 (okKs_cons kb_13 (okKs_cons kb_14 (okKs_cons kb_15 (okKs_cons kb_16 (okKs_cons kb_17 (okKs_cons kb_18 (okKs_cons kb_19 (okKs_cons kb_20 (okKs_cons kb_21 (okKs_cons kb_22 (okKs_cons kb_23 (okKs_cons kb_24 (kt_25)))))))))))))))))))))))))
set_option maxRecDepth 100000 in
theorem kk_eq : pKf = kk_0 := rfl
theorem okKs_all : okKs pI pKf := by
  rw [ff_eq, kk_eq]
  exact kt_0
theorem okK_all : okK pI pKf := okK_of okKs_all
theorem okP_all : okP pG pI pBL pKf pStrs pThr pNcs := fun y q h => by
  rw [gg_eq] at h
  have := okAll_spec gg_0 ff_0 bb_0 ca_0 y q h
  rw [← ff_eq, ← bb_eq] at this
  exact this
