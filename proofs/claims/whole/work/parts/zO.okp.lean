/-! THE CHECKS, together -/
def okAll (I0 : List pInf) (kf : List Nat) (strs : List (String × Nat × String)) (thr : List (String × Nat × Nat)) (ncs : List (String × String)) : List pMeth → List pInf → List (List Nat) → Bool
  | [], _, _ => true
  | q :: G, f :: I, bl :: BL => okPy I0 kf strs thr ncs f bl q && okAll I0 kf strs thr ncs G I BL
  | _, _, _ => false
theorem okAll_cons {I0 : List pInf} {kf : List Nat} {strs : List (String × Nat × String)} {thr : List (String × Nat × Nat)} {ncs : List (String × String)} {q : pMeth} {f : pInf} {bl : List Nat} {G : List pMeth} {I : List pInf} {BL : List (List Nat)} (h1 : okPy I0 kf strs thr ncs f bl q = true) (h2 : okAll I0 kf strs thr ncs G I BL = true) : okAll I0 kf strs thr ncs (q :: G) (f :: I) (bl :: BL) = true := by
  simp only [okAll, h1, h2, Bool.and_self]
theorem okAll_spec {I0 : List pInf} {kf : List Nat} {strs : List (String × Nat × String)} {thr : List (String × Nat × Nat)} {ncs : List (String × String)} : ∀ (G : List pMeth) (I : List pInf) (BL : List (List Nat)), okAll I0 kf strs thr ncs G I BL = true → ∀ (y : Nat) (q : pMeth), G[y]? = some q → ∃ f bl, I[y]? = some f ∧ BL[y]? = some bl ∧ okPy I0 kf strs thr ncs f bl q = true
  | [], _, _, _, y, q, h => by simp at h
  | _ :: _, [], _, h, _, _, _ => by cases h
  | _ :: _, _ :: _, [], h, _, _, _ => by cases h
  | q0 :: G, f :: I, bl :: BL, h, y, q, hy => by
    simp only [okAll, Bool.and_eq_true] at h
    cases y with
    | zero =>
      simp at hy
      subst hy
      exact ⟨f, bl, rfl, rfl, h.1⟩
    | succ y =>
      have := okAll_spec G I BL h.2 y q (by simpa using hy)
      simpa using this
def okKb (ix : Nat × Nat × Nat × Nat) (k : Nat) (f : pInf) : Bool := (k == 3) || ((match f.2.2.2.2 with
  | [] => decide (lw_tb2[ix.1]? = some (Cond.code f.1 f.2.1 f.2.2.1 f.2.2.2.1))
  | hh => decide (lw_tb2[ix.1]? = some (Cond.codeWith f.1 f.2.1 f.2.2.1 f.2.2.2.1 hh))) && decide (lw_tb2[ix.2.1]? = some (Cond.initialized f.1.cls)) && (match k with
  | 0 => decide (lw_tb2[ix.2.2.1]? = some (Cond.static f.1))
  | 1 => decide (lw_tb2[ix.2.2.1]? = some (Cond.instanceMethod f.1)) && decide (lw_tb2[ix.2.2.2]? = some (Cond.selects f.1.cls f.1 f.1))
  | _ => decide (lw_tb2[ix.2.2.1]? = some (Cond.instanceMethod f.1))))
def okKs : List pInf → List Nat → Prop
  | [], _ => True
  | f :: I, k :: kf => (∃ ix, okKb ix k f = true) ∧ okKs I kf
  | _, _ => False
theorem okKs_at : ∀ (I : List pInf) (kf : List Nat), okKs I kf → ∀ (z : Nat) (f : pInf), I[z]? = some f → ∃ k ix, kf[z]? = some k ∧ okKb ix k f = true
  | [], _, _, z, f, h => by simp at h
  | _ :: _, [], h, _, _, _ => by cases h
  | f0 :: I, k :: kf, h, z, f, hz => by
    obtain ⟨⟨ix, h1⟩, h2⟩ := h
    cases z with
    | zero => simp at hz; subst hz; exact ⟨k, ix, rfl, h1⟩
    | succ z =>
      have := okKs_at I kf h2 z f (by simpa using hz)
      simpa using this
theorem okK_of {I : List pInf} {kf : List Nat} (h : okKs I kf) : okK I kf := by
  intro z f hz
  obtain ⟨k, ix, hk, hb⟩ := okKs_at I kf h z f hz
  have key : k ≠ 3 → (∀ w ∈ wY f, w ∈ GW) ∧ Cond.initialized f.1.cls ∈ GW ∧ (k = 0 → Cond.static f.1 ∈ GW) ∧ (k ≠ 0 → Cond.instanceMethod f.1 ∈ GW) ∧ (k = 1 → Cond.selects f.1.cls f.1 f.1 ∈ GW) := by
    intro h3
    unfold okKb at hb
    simp only [Bool.or_eq_true, beq_iff_eq, Bool.and_eq_true] at hb
    rcases hb with hb | ⟨⟨h1, h2⟩, h4⟩
    · exact absurd hb h3
    · refine ⟨?_, gw_at (of_decide_eq_true h2) rfl, ?_, ?_, ?_⟩
      · intro w hw
        by_cases he : f.2.2.2.2 = []
        · rw [wY_nil he] at hw
          rw [he] at h1
          rcases List.mem_cons.mp hw with rfl | hw
          · exact gw_at (of_decide_eq_true h1) rfl
          · exact hw
        · rw [wY_cons he] at hw
          rcases List.mem_cons.mp hw with rfl | hw
          · refine gw_at (i := ix.1) ?_ rfl
            split at h1
            · rename_i e
              exact absurd e he
            · exact of_decide_eq_true h1
          · exact hw
      · rintro rfl
        exact gw_at (of_decide_eq_true h4) rfl
      · intro h0
        split at h4
        · exact absurd rfl h0
        · simp only [Bool.and_eq_true] at h4
          exact gw_at (of_decide_eq_true h4.1) rfl
        · exact gw_at (of_decide_eq_true h4) rfl
      · rintro rfl
        simp only [Bool.and_eq_true] at h4
        exact gw_at (of_decide_eq_true h4.2) rfl
  refine ⟨fun e => ?_, fun e => ?_, fun e => ?_⟩
  · cases hk.symm.trans e
    obtain ⟨a, b, c, -, -⟩ := key (by decide)
    exact ⟨a, b, c rfl⟩
  · cases hk.symm.trans e
    obtain ⟨a, b, -, c, c2⟩ := key (by decide)
    exact ⟨⟨a, b, c (by decide)⟩, c2 rfl⟩
  · cases hk.symm.trans e
    obtain ⟨a, b, -, c, -⟩ := key (by decide)
    exact ⟨a, b, c (by decide)⟩
theorem ca_280 : okAll pI pKf pStrs pThr pNcs [] [f_280, f_281] [] = true := rfl
def gg_275 : List pMeth := g_275 :: g_276 :: g_277 :: g_278 :: g_279 :: []
def ff_275 : List pInf := f_275 :: f_276 :: f_277 :: f_278 :: f_279 :: [f_280, f_281]
def bb_275 : List (List Nat) := bl_275 :: bl_276 :: bl_277 :: bl_278 :: bl_279 :: []
theorem ca_275 : okAll pI pKf pStrs pThr pNcs gg_275 ff_275 bb_275 = true := okAll_cons ck_275 (okAll_cons ck_276 (okAll_cons ck_277 (okAll_cons ck_278 (okAll_cons okpy_279 (ca_280)))))
def gg_250 : List pMeth := g_250 :: g_251 :: g_252 :: g_253 :: g_254 :: g_255 :: g_256 :: g_257 :: g_258 :: g_259 :: g_260 :: g_261 :: g_262 :: g_263 :: g_264 :: g_265 :: g_266 :: g_267 :: g_268 :: g_269 :: g_270 :: g_271 :: g_272 :: g_273 :: g_274 :: gg_275
def ff_250 : List pInf := f_250 :: f_251 :: f_252 :: f_253 :: f_254 :: f_255 :: f_256 :: f_257 :: f_258 :: f_259 :: f_260 :: f_261 :: f_262 :: f_263 :: f_264 :: f_265 :: f_266 :: f_267 :: f_268 :: f_269 :: f_270 :: f_271 :: f_272 :: f_273 :: f_274 :: ff_275
def bb_250 : List (List Nat) := bl_250 :: bl_251 :: bl_252 :: bl_253 :: bl_254 :: bl_255 :: bl_256 :: bl_257 :: bl_258 :: bl_259 :: bl_260 :: bl_261 :: bl_262 :: bl_263 :: bl_264 :: bl_265 :: bl_266 :: bl_267 :: bl_268 :: bl_269 :: bl_270 :: bl_271 :: bl_272 :: bl_273 :: bl_274 :: bb_275
theorem ca_250 : okAll pI pKf pStrs pThr pNcs gg_250 ff_250 bb_250 = true := okAll_cons ck_250 (okAll_cons ck_251 (okAll_cons ck_252 (okAll_cons ck_253 (okAll_cons ck_254 (okAll_cons ck_255 (okAll_cons ck_256 (okAll_cons ck_257 (okAll_cons ck_258 (okAll_cons ck_259 (okAll_cons ck_260 (okAll_cons ck_261 (okAll_cons ck_262 (okAll_cons ck_263 (okAll_cons ck_264 (okAll_cons ck_265 (okAll_cons ck_266 (okAll_cons ck_267 (okAll_cons ck_268 (okAll_cons ck_269 (okAll_cons ck_270 (okAll_cons ck_271 (okAll_cons ck_272 (okAll_cons ck_273 (okAll_cons ck_274 (ca_275)))))))))))))))))))))))))
def gg_225 : List pMeth := g_225 :: g_226 :: g_227 :: g_228 :: g_229 :: g_230 :: g_231 :: g_232 :: g_233 :: g_234 :: g_235 :: g_236 :: g_237 :: g_238 :: g_239 :: g_240 :: g_241 :: g_242 :: g_243 :: g_244 :: g_245 :: g_246 :: g_247 :: g_248 :: g_249 :: gg_250
def ff_225 : List pInf := f_225 :: f_226 :: f_227 :: f_228 :: f_229 :: f_230 :: f_231 :: f_232 :: f_233 :: f_234 :: f_235 :: f_236 :: f_237 :: f_238 :: f_239 :: f_240 :: f_241 :: f_242 :: f_243 :: f_244 :: f_245 :: f_246 :: f_247 :: f_248 :: f_249 :: ff_250
def bb_225 : List (List Nat) := bl_225 :: bl_226 :: bl_227 :: bl_228 :: bl_229 :: bl_230 :: bl_231 :: bl_232 :: bl_233 :: bl_234 :: bl_235 :: bl_236 :: bl_237 :: bl_238 :: bl_239 :: bl_240 :: bl_241 :: bl_242 :: bl_243 :: bl_244 :: bl_245 :: bl_246 :: bl_247 :: bl_248 :: bl_249 :: bb_250
theorem ca_225 : okAll pI pKf pStrs pThr pNcs gg_225 ff_225 bb_225 = true := okAll_cons ck_225 (okAll_cons ck_226 (okAll_cons ck_227 (okAll_cons ck_228 (okAll_cons ck_229 (okAll_cons ck_230 (okAll_cons ck_231 (okAll_cons ck_232 (okAll_cons ck_233 (okAll_cons ck_234 (okAll_cons ck_235 (okAll_cons ck_236 (okAll_cons ck_237 (okAll_cons ck_238 (okAll_cons ck_239 (okAll_cons ck_240 (okAll_cons ck_241 (okAll_cons ck_242 (okAll_cons ck_243 (okAll_cons ck_244 (okAll_cons ck_245 (okAll_cons ck_246 (okAll_cons ck_247 (okAll_cons ck_248 (okAll_cons ck_249 (ca_250)))))))))))))))))))))))))
def gg_200 : List pMeth := g_200 :: g_201 :: g_202 :: g_203 :: g_204 :: g_205 :: g_206 :: g_207 :: g_208 :: g_209 :: g_210 :: g_211 :: g_212 :: g_213 :: g_214 :: g_215 :: g_216 :: g_217 :: g_218 :: g_219 :: g_220 :: g_221 :: g_222 :: g_223 :: g_224 :: gg_225
def ff_200 : List pInf := f_200 :: f_201 :: f_202 :: f_203 :: f_204 :: f_205 :: f_206 :: f_207 :: f_208 :: f_209 :: f_210 :: f_211 :: f_212 :: f_213 :: f_214 :: f_215 :: f_216 :: f_217 :: f_218 :: f_219 :: f_220 :: f_221 :: f_222 :: f_223 :: f_224 :: ff_225
def bb_200 : List (List Nat) := bl_200 :: bl_201 :: bl_202 :: bl_203 :: bl_204 :: bl_205 :: bl_206 :: bl_207 :: bl_208 :: bl_209 :: bl_210 :: bl_211 :: bl_212 :: bl_213 :: bl_214 :: bl_215 :: bl_216 :: bl_217 :: bl_218 :: bl_219 :: bl_220 :: bl_221 :: bl_222 :: bl_223 :: bl_224 :: bb_225
theorem ca_200 : okAll pI pKf pStrs pThr pNcs gg_200 ff_200 bb_200 = true := okAll_cons ck_200 (okAll_cons ck_201 (okAll_cons ck_202 (okAll_cons ck_203 (okAll_cons ck_204 (okAll_cons ck_205 (okAll_cons ck_206 (okAll_cons ck_207 (okAll_cons ck_208 (okAll_cons ck_209 (okAll_cons ck_210 (okAll_cons ck_211 (okAll_cons ck_212 (okAll_cons ck_213 (okAll_cons ck_214 (okAll_cons ck_215 (okAll_cons ck_216 (okAll_cons ck_217 (okAll_cons ck_218 (okAll_cons ck_219 (okAll_cons ck_220 (okAll_cons ck_221 (okAll_cons ck_222 (okAll_cons ck_223 (okAll_cons ck_224 (ca_225)))))))))))))))))))))))))
def gg_175 : List pMeth := g_175 :: g_176 :: g_177 :: g_178 :: g_179 :: g_180 :: g_181 :: g_182 :: g_183 :: g_184 :: g_185 :: g_186 :: g_187 :: g_188 :: g_189 :: g_190 :: g_191 :: g_192 :: g_193 :: g_194 :: g_195 :: g_196 :: g_197 :: g_198 :: g_199 :: gg_200
def ff_175 : List pInf := f_175 :: f_176 :: f_177 :: f_178 :: f_179 :: f_180 :: f_181 :: f_182 :: f_183 :: f_184 :: f_185 :: f_186 :: f_187 :: f_188 :: f_189 :: f_190 :: f_191 :: f_192 :: f_193 :: f_194 :: f_195 :: f_196 :: f_197 :: f_198 :: f_199 :: ff_200
def bb_175 : List (List Nat) := bl_175 :: bl_176 :: bl_177 :: bl_178 :: bl_179 :: bl_180 :: bl_181 :: bl_182 :: bl_183 :: bl_184 :: bl_185 :: bl_186 :: bl_187 :: bl_188 :: bl_189 :: bl_190 :: bl_191 :: bl_192 :: bl_193 :: bl_194 :: bl_195 :: bl_196 :: bl_197 :: bl_198 :: bl_199 :: bb_200
theorem ca_175 : okAll pI pKf pStrs pThr pNcs gg_175 ff_175 bb_175 = true := okAll_cons ck_175 (okAll_cons ck_176 (okAll_cons ck_177 (okAll_cons ck_178 (okAll_cons ck_179 (okAll_cons ck_180 (okAll_cons ck_181 (okAll_cons ck_182 (okAll_cons ck_183 (okAll_cons ck_184 (okAll_cons ck_185 (okAll_cons ck_186 (okAll_cons ck_187 (okAll_cons ck_188 (okAll_cons ck_189 (okAll_cons ck_190 (okAll_cons ck_191 (okAll_cons ck_192 (okAll_cons ck_193 (okAll_cons ck_194 (okAll_cons ck_195 (okAll_cons ck_196 (okAll_cons ck_197 (okAll_cons ck_198 (okAll_cons ck_199 (ca_200)))))))))))))))))))))))))
def gg_150 : List pMeth := g_150 :: g_151 :: g_152 :: g_153 :: g_154 :: g_155 :: g_156 :: g_157 :: g_158 :: g_159 :: g_160 :: g_161 :: g_162 :: g_163 :: g_164 :: g_165 :: g_166 :: g_167 :: g_168 :: g_169 :: g_170 :: g_171 :: g_172 :: g_173 :: g_174 :: gg_175
def ff_150 : List pInf := f_150 :: f_151 :: f_152 :: f_153 :: f_154 :: f_155 :: f_156 :: f_157 :: f_158 :: f_159 :: f_160 :: f_161 :: f_162 :: f_163 :: f_164 :: f_165 :: f_166 :: f_167 :: f_168 :: f_169 :: f_170 :: f_171 :: f_172 :: f_173 :: f_174 :: ff_175
def bb_150 : List (List Nat) := bl_150 :: bl_151 :: bl_152 :: bl_153 :: bl_154 :: bl_155 :: bl_156 :: bl_157 :: bl_158 :: bl_159 :: bl_160 :: bl_161 :: bl_162 :: bl_163 :: bl_164 :: bl_165 :: bl_166 :: bl_167 :: bl_168 :: bl_169 :: bl_170 :: bl_171 :: bl_172 :: bl_173 :: bl_174 :: bb_175
theorem ca_150 : okAll pI pKf pStrs pThr pNcs gg_150 ff_150 bb_150 = true := okAll_cons ck_150 (okAll_cons ck_151 (okAll_cons ck_152 (okAll_cons ck_153 (okAll_cons ck_154 (okAll_cons ck_155 (okAll_cons ck_156 (okAll_cons ck_157 (okAll_cons ck_158 (okAll_cons ck_159 (okAll_cons ck_160 (okAll_cons ck_161 (okAll_cons ck_162 (okAll_cons ck_163 (okAll_cons ck_164 (okAll_cons ck_165 (okAll_cons ck_166 (okAll_cons ck_167 (okAll_cons ck_168 (okAll_cons ck_169 (okAll_cons ck_170 (okAll_cons ck_171 (okAll_cons ck_172 (okAll_cons ck_173 (okAll_cons ck_174 (ca_175)))))))))))))))))))))))))
def gg_125 : List pMeth := g_125 :: g_126 :: g_127 :: g_128 :: g_129 :: g_130 :: g_131 :: g_132 :: g_133 :: g_134 :: g_135 :: g_136 :: g_137 :: g_138 :: g_139 :: g_140 :: g_141 :: g_142 :: g_143 :: g_144 :: g_145 :: g_146 :: g_147 :: g_148 :: g_149 :: gg_150
def ff_125 : List pInf := f_125 :: f_126 :: f_127 :: f_128 :: f_129 :: f_130 :: f_131 :: f_132 :: f_133 :: f_134 :: f_135 :: f_136 :: f_137 :: f_138 :: f_139 :: f_140 :: f_141 :: f_142 :: f_143 :: f_144 :: f_145 :: f_146 :: f_147 :: f_148 :: f_149 :: ff_150
def bb_125 : List (List Nat) := bl_125 :: bl_126 :: bl_127 :: bl_128 :: bl_129 :: bl_130 :: bl_131 :: bl_132 :: bl_133 :: bl_134 :: bl_135 :: bl_136 :: bl_137 :: bl_138 :: bl_139 :: bl_140 :: bl_141 :: bl_142 :: bl_143 :: bl_144 :: bl_145 :: bl_146 :: bl_147 :: bl_148 :: bl_149 :: bb_150
theorem ca_125 : okAll pI pKf pStrs pThr pNcs gg_125 ff_125 bb_125 = true := okAll_cons ck_125 (okAll_cons ck_126 (okAll_cons ck_127 (okAll_cons ck_128 (okAll_cons ck_129 (okAll_cons ck_130 (okAll_cons ck_131 (okAll_cons ck_132 (okAll_cons ck_133 (okAll_cons ck_134 (okAll_cons ck_135 (okAll_cons ck_136 (okAll_cons ck_137 (okAll_cons ck_138 (okAll_cons ck_139 (okAll_cons ck_140 (okAll_cons ck_141 (okAll_cons ck_142 (okAll_cons ck_143 (okAll_cons ck_144 (okAll_cons ck_145 (okAll_cons ck_146 (okAll_cons ck_147 (okAll_cons ck_148 (okAll_cons ck_149 (ca_150)))))))))))))))))))))))))
def gg_100 : List pMeth := g_100 :: g_101 :: g_102 :: g_103 :: g_104 :: g_105 :: g_106 :: g_107 :: g_108 :: g_109 :: g_110 :: g_111 :: g_112 :: g_113 :: g_114 :: g_115 :: g_116 :: g_117 :: g_118 :: g_119 :: g_120 :: g_121 :: g_122 :: g_123 :: g_124 :: gg_125
def ff_100 : List pInf := f_100 :: f_101 :: f_102 :: f_103 :: f_104 :: f_105 :: f_106 :: f_107 :: f_108 :: f_109 :: f_110 :: f_111 :: f_112 :: f_113 :: f_114 :: f_115 :: f_116 :: f_117 :: f_118 :: f_119 :: f_120 :: f_121 :: f_122 :: f_123 :: f_124 :: ff_125
def bb_100 : List (List Nat) := bl_100 :: bl_101 :: bl_102 :: bl_103 :: bl_104 :: bl_105 :: bl_106 :: bl_107 :: bl_108 :: bl_109 :: bl_110 :: bl_111 :: bl_112 :: bl_113 :: bl_114 :: bl_115 :: bl_116 :: bl_117 :: bl_118 :: bl_119 :: bl_120 :: bl_121 :: bl_122 :: bl_123 :: bl_124 :: bb_125
theorem ca_100 : okAll pI pKf pStrs pThr pNcs gg_100 ff_100 bb_100 = true := okAll_cons ck_100 (okAll_cons ck_101 (okAll_cons ck_102 (okAll_cons ck_103 (okAll_cons ck_104 (okAll_cons ck_105 (okAll_cons ck_106 (okAll_cons ck_107 (okAll_cons ck_108 (okAll_cons ck_109 (okAll_cons ck_110 (okAll_cons ck_111 (okAll_cons ck_112 (okAll_cons ck_113 (okAll_cons ck_114 (okAll_cons ck_115 (okAll_cons ck_116 (okAll_cons ck_117 (okAll_cons ck_118 (okAll_cons ck_119 (okAll_cons ck_120 (okAll_cons ck_121 (okAll_cons ck_122 (okAll_cons ck_123 (okAll_cons ck_124 (ca_125)))))))))))))))))))))))))
def gg_75 : List pMeth := g_75 :: g_76 :: g_77 :: g_78 :: g_79 :: g_80 :: g_81 :: g_82 :: g_83 :: g_84 :: g_85 :: g_86 :: g_87 :: g_88 :: g_89 :: g_90 :: g_91 :: g_92 :: g_93 :: g_94 :: g_95 :: g_96 :: g_97 :: g_98 :: g_99 :: gg_100
def ff_75 : List pInf := f_75 :: f_76 :: f_77 :: f_78 :: f_79 :: f_80 :: f_81 :: f_82 :: f_83 :: f_84 :: f_85 :: f_86 :: f_87 :: f_88 :: f_89 :: f_90 :: f_91 :: f_92 :: f_93 :: f_94 :: f_95 :: f_96 :: f_97 :: f_98 :: f_99 :: ff_100
def bb_75 : List (List Nat) := bl_75 :: bl_76 :: bl_77 :: bl_78 :: bl_79 :: bl_80 :: bl_81 :: bl_82 :: bl_83 :: bl_84 :: bl_85 :: bl_86 :: bl_87 :: bl_88 :: bl_89 :: bl_90 :: bl_91 :: bl_92 :: bl_93 :: bl_94 :: bl_95 :: bl_96 :: bl_97 :: bl_98 :: bl_99 :: bb_100
theorem ca_75 : okAll pI pKf pStrs pThr pNcs gg_75 ff_75 bb_75 = true := okAll_cons ck_75 (okAll_cons ck_76 (okAll_cons ck_77 (okAll_cons ck_78 (okAll_cons ck_79 (okAll_cons ck_80 (okAll_cons ck_81 (okAll_cons ck_82 (okAll_cons ck_83 (okAll_cons ck_84 (okAll_cons ck_85 (okAll_cons ck_86 (okAll_cons ck_87 (okAll_cons ck_88 (okAll_cons ck_89 (okAll_cons ck_90 (okAll_cons ck_91 (okAll_cons ck_92 (okAll_cons ck_93 (okAll_cons ck_94 (okAll_cons ck_95 (okAll_cons ck_96 (okAll_cons ck_97 (okAll_cons ck_98 (okAll_cons ck_99 (ca_100)))))))))))))))))))))))))
def gg_50 : List pMeth := g_50 :: g_51 :: g_52 :: g_53 :: g_54 :: g_55 :: g_56 :: g_57 :: g_58 :: g_59 :: g_60 :: g_61 :: g_62 :: g_63 :: g_64 :: g_65 :: g_66 :: g_67 :: g_68 :: g_69 :: g_70 :: g_71 :: g_72 :: g_73 :: g_74 :: gg_75
def ff_50 : List pInf := f_50 :: f_51 :: f_52 :: f_53 :: f_54 :: f_55 :: f_56 :: f_57 :: f_58 :: f_59 :: f_60 :: f_61 :: f_62 :: f_63 :: f_64 :: f_65 :: f_66 :: f_67 :: f_68 :: f_69 :: f_70 :: f_71 :: f_72 :: f_73 :: f_74 :: ff_75
def bb_50 : List (List Nat) := bl_50 :: bl_51 :: bl_52 :: bl_53 :: bl_54 :: bl_55 :: bl_56 :: bl_57 :: bl_58 :: bl_59 :: bl_60 :: bl_61 :: bl_62 :: bl_63 :: bl_64 :: bl_65 :: bl_66 :: bl_67 :: bl_68 :: bl_69 :: bl_70 :: bl_71 :: bl_72 :: bl_73 :: bl_74 :: bb_75
theorem ca_50 : okAll pI pKf pStrs pThr pNcs gg_50 ff_50 bb_50 = true := okAll_cons ck_50 (okAll_cons ck_51 (okAll_cons ck_52 (okAll_cons ck_53 (okAll_cons ck_54 (okAll_cons ck_55 (okAll_cons ck_56 (okAll_cons ck_57 (okAll_cons ck_58 (okAll_cons ck_59 (okAll_cons ck_60 (okAll_cons ck_61 (okAll_cons ck_62 (okAll_cons ck_63 (okAll_cons ck_64 (okAll_cons ck_65 (okAll_cons ck_66 (okAll_cons ck_67 (okAll_cons ck_68 (okAll_cons ck_69 (okAll_cons ck_70 (okAll_cons ck_71 (okAll_cons ck_72 (okAll_cons ck_73 (okAll_cons ck_74 (ca_75)))))))))))))))))))))))))
def gg_25 : List pMeth := g_25 :: g_26 :: g_27 :: g_28 :: g_29 :: g_30 :: g_31 :: g_32 :: g_33 :: g_34 :: g_35 :: g_36 :: g_37 :: g_38 :: g_39 :: g_40 :: g_41 :: g_42 :: g_43 :: g_44 :: g_45 :: g_46 :: g_47 :: g_48 :: g_49 :: gg_50
def ff_25 : List pInf := f_25 :: f_26 :: f_27 :: f_28 :: f_29 :: f_30 :: f_31 :: f_32 :: f_33 :: f_34 :: f_35 :: f_36 :: f_37 :: f_38 :: f_39 :: f_40 :: f_41 :: f_42 :: f_43 :: f_44 :: f_45 :: f_46 :: f_47 :: f_48 :: f_49 :: ff_50
def bb_25 : List (List Nat) := bl_25 :: bl_26 :: bl_27 :: bl_28 :: bl_29 :: bl_30 :: bl_31 :: bl_32 :: bl_33 :: bl_34 :: bl_35 :: bl_36 :: bl_37 :: bl_38 :: bl_39 :: bl_40 :: bl_41 :: bl_42 :: bl_43 :: bl_44 :: bl_45 :: bl_46 :: bl_47 :: bl_48 :: bl_49 :: bb_50
theorem ca_25 : okAll pI pKf pStrs pThr pNcs gg_25 ff_25 bb_25 = true := okAll_cons ck_25 (okAll_cons ck_26 (okAll_cons ck_27 (okAll_cons ck_28 (okAll_cons ck_29 (okAll_cons ck_30 (okAll_cons ck_31 (okAll_cons ck_32 (okAll_cons ck_33 (okAll_cons ck_34 (okAll_cons ck_35 (okAll_cons ck_36 (okAll_cons ck_37 (okAll_cons ck_38 (okAll_cons ck_39 (okAll_cons ck_40 (okAll_cons ck_41 (okAll_cons ck_42 (okAll_cons ck_43 (okAll_cons ck_44 (okAll_cons ck_45 (okAll_cons ck_46 (okAll_cons ck_47 (okAll_cons ck_48 (okAll_cons ck_49 (ca_50)))))))))))))))))))))))))
def gg_0 : List pMeth := g_0 :: g_1 :: g_2 :: g_3 :: g_4 :: g_5 :: g_6 :: g_7 :: g_8 :: g_9 :: g_10 :: g_11 :: g_12 :: g_13 :: g_14 :: g_15 :: g_16 :: g_17 :: g_18 :: g_19 :: g_20 :: g_21 :: g_22 :: g_23 :: g_24 :: gg_25
def ff_0 : List pInf := f_0 :: f_1 :: f_2 :: f_3 :: f_4 :: f_5 :: f_6 :: f_7 :: f_8 :: f_9 :: f_10 :: f_11 :: f_12 :: f_13 :: f_14 :: f_15 :: f_16 :: f_17 :: f_18 :: f_19 :: f_20 :: f_21 :: f_22 :: f_23 :: f_24 :: ff_25
def bb_0 : List (List Nat) := bl_0 :: bl_1 :: bl_2 :: bl_3 :: bl_4 :: bl_5 :: bl_6 :: bl_7 :: bl_8 :: bl_9 :: bl_10 :: bl_11 :: bl_12 :: bl_13 :: bl_14 :: bl_15 :: bl_16 :: bl_17 :: bl_18 :: bl_19 :: bl_20 :: bl_21 :: bl_22 :: bl_23 :: bl_24 :: bb_25
theorem ca_0 : okAll pI pKf pStrs pThr pNcs gg_0 ff_0 bb_0 = true := okAll_cons ck_0 (okAll_cons ck_1 (okAll_cons ck_2 (okAll_cons ck_3 (okAll_cons ck_4 (okAll_cons ck_5 (okAll_cons ck_6 (okAll_cons ck_7 (okAll_cons ck_8 (okAll_cons ck_9 (okAll_cons ck_10 (okAll_cons ck_11 (okAll_cons ck_12 (okAll_cons ck_13 (okAll_cons ck_14 (okAll_cons ck_15 (okAll_cons ck_16 (okAll_cons ck_17 (okAll_cons ck_18 (okAll_cons ck_19 (okAll_cons ck_20 (okAll_cons ck_21 (okAll_cons ck_22 (okAll_cons ck_23 (okAll_cons ck_24 (ca_25)))))))))))))))))))))))))
set_option maxRecDepth 100000 in
theorem gg_eq : pG = gg_0 := rfl
set_option maxRecDepth 100000 in
theorem ff_eq : pI = ff_0 := rfl
set_option maxRecDepth 100000 in
theorem bb_eq : pBL = bb_0 := rfl
