/-! ===== the law's loop ===== -/
section LAW2
variable {p : Program} {l : Launch} {e : Env} {s : State} {m : MethodId} {below : List Frame} {meth : Method} {c : Code} {b Ls : Nat} {xs : Nat → Int32} {dC : Nat → ClassId} {dI : Nat → Nat → Nat} {cA : Nat → ClassId}
abbrev lvL (s : State) (b i : Nat) : List (Nat × Value) := [(3, .int (nI i)), (2, .ref (s.heap.size + 111)), (1, .ref (s.heap.size + 0)), (0, .ref b)]
/-- the law goes on behind a call, whatever the world -/
def Nxt (p : Program) (l : Launch) (e : Env) (s : State) (m : MethodId) (below : List Frame) (meth : Method) (c : Code) (b : Nat) (dC : Nat → ClassId) (dI : Nat → Nat → Nat) (cA : Nat → ClassId) (i K E : Nat) : Prop := ∀ (σ τ α β : hs_T) (κ : sc_T) (ρ : md_T) (mm : Nat → Int32) (M : Nat → Nat → Int32) (J : Nat → Int64), WI K E σ α β κ ρ mm M → LW p l e s m below meth c b dC dI cA 120 3437 720 (lvL s b i) [] SF (wM σ τ α β κ (md_put 111 (Rm ρ mm) M)) J
variable {i K E : Nat} {σ τ α β : hs_T} {κ : sc_T} {ρ : md_T} {mm : Nat → Int32} {M : Nat → Nat → Int32} {J : Nat → Int64}
theorem law_setCapacity (C0 : lw_At p s m meth c b Ls xs) (hK : ai_K dC dI cA s) (hL : Ls ≤ 2048) (hi : i + 4 ≤ Ls) (hW : WI K E σ α β κ ρ mm M) (hK1 : K + 6000 ≤ 900000000) (hE1 : E + 200 ≤ 900000000) (hn : Nxt p l e s m below meth c b dC dI cA i (K + 6000) (E + 200)) : LW p l e s m below meth c b dC dI cA 120 3437 140 (lvL s b i) [] SF (wM σ τ α β κ (md_put 111 (Rm ρ mm) M)) J := by
  have h0 : (0, Value.ref b) ∈ lvL s b i := List.mem_of_getElem? (i := 3) rfl
  have h1 : (1, Value.ref (s.heap.size + 0)) ∈ lvL s b i := List.mem_of_getElem? (i := 2) rfl
  have h2 : (2, Value.ref (s.heap.size + 111)) ∈ lvL s b i := List.mem_of_getElem? (i := 1) rfl
  have h3 : (3, Value.int (nI i)) ∈ lvL s b i := List.mem_of_getElem? (i := 0) rfl
  obtain ⟨v, X1, σ', τ', α', β', κ', ρ', m', M', a6, a7, hW'⟩ := w_setCapacity SF_ks SF_ms (xs (i + 1)) (xs (i + 2)) K E σ τ α β κ ρ mm M J hW hK1 hE1
  refine l_aload C0 dL_law_140 rfl h1 ?_
  refine l_arg (q := 1) C0 h0 h3 dL_law_141 dL_law_142 dL_law_143 dL_law_144 dL_law_145 rfl (by omega) (by omega) ?_
  refine l_arg (q := 2) C0 h0 h3 dL_law_146 dL_law_147 dL_law_148 dL_law_149 dL_law_150 rfl (by omega) (by omega) ?_
  refine l_callV (st := []) C0 hK dL_law_151 ml_L_13 a6 SF_ks.a0 rfl rfl (by decide) (Nat.le_of_ble_eq_true rfl) ⟨rfl, rfl⟩ (Nat.le_of_ble_eq_true rfl) (Nat.le_of_ble_eq_true rfl) ?_
  refine l_aload C0 dL_law_154 rfl h2 ?_
  refine l_arg (q := 1) C0 h0 h3 dL_law_155 dL_law_156 dL_law_157 dL_law_158 dL_law_159 rfl (by omega) (by omega) ?_
  refine l_arg (q := 2) C0 h0 h3 dL_law_160 dL_law_161 dL_law_162 dL_law_163 dL_law_164 rfl (by omega) (by omega) ?_
  refine l_callV (st := [.int v]) C0 hK dL_law_165 ml_L_17 a7 SF_ms.a0 rfl rfl (by decide) (Nat.le_of_ble_eq_true rfl) ⟨rfl, rfl⟩ (Nat.le_of_ble_eq_true rfl) (Nat.le_of_ble_eq_true rfl) ?_
  refine l_same (st := []) 720 C0 dL_law_168 (by decide) ?_
  exact hn σ' τ' α' β' κ' ρ' m' M' J hW'
theorem law_setShare (C0 : lw_At p s m meth c b Ls xs) (hK : ai_K dC dI cA s) (hL : Ls ≤ 2048) (hi : i + 4 ≤ Ls) (hW : WI K E σ α β κ ρ mm M) (hK1 : K + 6000 ≤ 900000000) (hE1 : E + 200 ≤ 900000000) (hn : Nxt p l e s m below meth c b dC dI cA i (K + 6000) (E + 200)) : LW p l e s m below meth c b dC dI cA 120 3437 173 (lvL s b i) [] SF (wM σ τ α β κ (md_put 111 (Rm ρ mm) M)) J := by
  have h0 : (0, Value.ref b) ∈ lvL s b i := List.mem_of_getElem? (i := 3) rfl
  have h1 : (1, Value.ref (s.heap.size + 0)) ∈ lvL s b i := List.mem_of_getElem? (i := 2) rfl
  have h2 : (2, Value.ref (s.heap.size + 111)) ∈ lvL s b i := List.mem_of_getElem? (i := 1) rfl
  have h3 : (3, Value.int (nI i)) ∈ lvL s b i := List.mem_of_getElem? (i := 0) rfl
  obtain ⟨v, X1, σ', τ', α', β', κ', ρ', m', M', a6, a7, hW'⟩ := w_setShare SF_ks SF_ms (xs (i + 1)) (xs (i + 2)) K E σ τ α β κ ρ mm M J hW hK1 hE1
  refine l_aload C0 dL_law_173 rfl h1 ?_
  refine l_arg (q := 1) C0 h0 h3 dL_law_174 dL_law_175 dL_law_176 dL_law_177 dL_law_178 rfl (by omega) (by omega) ?_
  refine l_arg (q := 2) C0 h0 h3 dL_law_179 dL_law_180 dL_law_181 dL_law_182 dL_law_183 rfl (by omega) (by omega) ?_
  refine l_callV (st := []) C0 hK dL_law_184 ml_L_18 a6 SF_ks.a0 rfl rfl (by decide) (Nat.le_of_ble_eq_true rfl) ⟨rfl, rfl⟩ (Nat.le_of_ble_eq_true rfl) (Nat.le_of_ble_eq_true rfl) ?_
  refine l_aload C0 dL_law_187 rfl h2 ?_
  refine l_arg (q := 1) C0 h0 h3 dL_law_188 dL_law_189 dL_law_190 dL_law_191 dL_law_192 rfl (by omega) (by omega) ?_
  refine l_arg (q := 2) C0 h0 h3 dL_law_193 dL_law_194 dL_law_195 dL_law_196 dL_law_197 rfl (by omega) (by omega) ?_
  refine l_callV (st := [.int v]) C0 hK dL_law_198 ml_L_21 a7 SF_ms.a0 rfl rfl (by decide) (Nat.le_of_ble_eq_true rfl) ⟨rfl, rfl⟩ (Nat.le_of_ble_eq_true rfl) (Nat.le_of_ble_eq_true rfl) ?_
  refine l_same (st := []) 720 C0 dL_law_201 (by decide) ?_
  exact hn σ' τ' α' β' κ' ρ' m' M' J hW'
theorem law_setRule (C0 : lw_At p s m meth c b Ls xs) (hK : ai_K dC dI cA s) (hL : Ls ≤ 2048) (hi : i + 4 ≤ Ls) (hW : WI K E σ α β κ ρ mm M) (hK1 : K + 6000 ≤ 900000000) (hE1 : E + 200 ≤ 900000000) (hn : Nxt p l e s m below meth c b dC dI cA i (K + 6000) (E + 200)) : LW p l e s m below meth c b dC dI cA 120 3437 206 (lvL s b i) [] SF (wM σ τ α β κ (md_put 111 (Rm ρ mm) M)) J := by
  have h0 : (0, Value.ref b) ∈ lvL s b i := List.mem_of_getElem? (i := 3) rfl
  have h1 : (1, Value.ref (s.heap.size + 0)) ∈ lvL s b i := List.mem_of_getElem? (i := 2) rfl
  have h2 : (2, Value.ref (s.heap.size + 111)) ∈ lvL s b i := List.mem_of_getElem? (i := 1) rfl
  have h3 : (3, Value.int (nI i)) ∈ lvL s b i := List.mem_of_getElem? (i := 0) rfl
  obtain ⟨v, X1, σ', τ', α', β', κ', ρ', m', M', a6, a7, hW'⟩ := w_setRule SF_ks SF_ms (xs (i + 1)) (xs (i + 2)) K E σ τ α β κ ρ mm M J hW hK1 hE1
  refine l_aload C0 dL_law_206 rfl h1 ?_
  refine l_arg (q := 1) C0 h0 h3 dL_law_207 dL_law_208 dL_law_209 dL_law_210 dL_law_211 rfl (by omega) (by omega) ?_
  refine l_arg (q := 2) C0 h0 h3 dL_law_212 dL_law_213 dL_law_214 dL_law_215 dL_law_216 rfl (by omega) (by omega) ?_
  refine l_callV (st := []) C0 hK dL_law_217 ml_L_22 a6 SF_ks.a0 rfl rfl (by decide) (Nat.le_of_ble_eq_true rfl) ⟨rfl, rfl⟩ (Nat.le_of_ble_eq_true rfl) (Nat.le_of_ble_eq_true rfl) ?_
  refine l_aload C0 dL_law_220 rfl h2 ?_
  refine l_arg (q := 1) C0 h0 h3 dL_law_221 dL_law_222 dL_law_223 dL_law_224 dL_law_225 rfl (by omega) (by omega) ?_
  refine l_arg (q := 2) C0 h0 h3 dL_law_226 dL_law_227 dL_law_228 dL_law_229 dL_law_230 rfl (by omega) (by omega) ?_
  refine l_callV (st := [.int v]) C0 hK dL_law_231 ml_L_25 a7 SF_ms.a0 rfl rfl (by decide) (Nat.le_of_ble_eq_true rfl) ⟨rfl, rfl⟩ (Nat.le_of_ble_eq_true rfl) (Nat.le_of_ble_eq_true rfl) ?_
  refine l_same (st := []) 720 C0 dL_law_234 (by decide) ?_
  exact hn σ' τ' α' β' κ' ρ' m' M' J hW'
theorem law_request (C0 : lw_At p s m meth c b Ls xs) (hK : ai_K dC dI cA s) (hL : Ls ≤ 2048) (hi : i + 4 ≤ Ls) (hW : WI K E σ α β κ ρ mm M) (hK1 : K + 6000 ≤ 900000000) (hE1 : E + 200 ≤ 900000000) (hn : Nxt p l e s m below meth c b dC dI cA i (K + 6000) (E + 200)) : LW p l e s m below meth c b dC dI cA 120 3437 239 (lvL s b i) [] SF (wM σ τ α β κ (md_put 111 (Rm ρ mm) M)) J := by
  have h0 : (0, Value.ref b) ∈ lvL s b i := List.mem_of_getElem? (i := 3) rfl
  have h1 : (1, Value.ref (s.heap.size + 0)) ∈ lvL s b i := List.mem_of_getElem? (i := 2) rfl
  have h2 : (2, Value.ref (s.heap.size + 111)) ∈ lvL s b i := List.mem_of_getElem? (i := 1) rfl
  have h3 : (3, Value.int (nI i)) ∈ lvL s b i := List.mem_of_getElem? (i := 0) rfl
  obtain ⟨v, X1, σ', τ', α', β', κ', ρ', m', M', a6, a7, hW'⟩ := w_request SF_ks SF_ms (xs (i + 1)) (xs (i + 2)) (xs (i + 3)) K E σ τ α β κ ρ mm M J hW hK1 hE1
  refine l_aload C0 dL_law_239 rfl h1 ?_
  refine l_arg (q := 1) C0 h0 h3 dL_law_240 dL_law_241 dL_law_242 dL_law_243 dL_law_244 rfl (by omega) (by omega) ?_
  refine l_arg (q := 2) C0 h0 h3 dL_law_245 dL_law_246 dL_law_247 dL_law_248 dL_law_249 rfl (by omega) (by omega) ?_
  refine l_arg (q := 3) C0 h0 h3 dL_law_250 dL_law_251 dL_law_252 dL_law_253 dL_law_254 rfl (by omega) (by omega) ?_
  refine l_callV (st := []) C0 hK dL_law_255 ml_L_26 a6 SF_ks.a0 rfl rfl (by decide) (Nat.le_of_ble_eq_true rfl) ⟨rfl, rfl⟩ (Nat.le_of_ble_eq_true rfl) (Nat.le_of_ble_eq_true rfl) ?_
  refine l_aload C0 dL_law_258 rfl h2 ?_
  refine l_arg (q := 1) C0 h0 h3 dL_law_259 dL_law_260 dL_law_261 dL_law_262 dL_law_263 rfl (by omega) (by omega) ?_
  refine l_arg (q := 2) C0 h0 h3 dL_law_264 dL_law_265 dL_law_266 dL_law_267 dL_law_268 rfl (by omega) (by omega) ?_
  refine l_arg (q := 3) C0 h0 h3 dL_law_269 dL_law_270 dL_law_271 dL_law_272 dL_law_273 rfl (by omega) (by omega) ?_
  refine l_callV (st := [.int v]) C0 hK dL_law_274 ml_L_30 a7 SF_ms.a0 rfl rfl (by decide) (Nat.le_of_ble_eq_true rfl) ⟨rfl, rfl⟩ (Nat.le_of_ble_eq_true rfl) (Nat.le_of_ble_eq_true rfl) ?_
  refine l_same (st := []) 720 C0 dL_law_277 (by decide) ?_
  exact hn σ' τ' α' β' κ' ρ' m' M' J hW'
theorem law_withdraw (C0 : lw_At p s m meth c b Ls xs) (hK : ai_K dC dI cA s) (hL : Ls ≤ 2048) (hi : i + 4 ≤ Ls) (hW : WI K E σ α β κ ρ mm M) (hK1 : K + 6000 ≤ 900000000) (hE1 : E + 200 ≤ 900000000) (hn : Nxt p l e s m below meth c b dC dI cA i (K + 6000) (E + 200)) : LW p l e s m below meth c b dC dI cA 120 3437 282 (lvL s b i) [] SF (wM σ τ α β κ (md_put 111 (Rm ρ mm) M)) J := by
  have h0 : (0, Value.ref b) ∈ lvL s b i := List.mem_of_getElem? (i := 3) rfl
  have h1 : (1, Value.ref (s.heap.size + 0)) ∈ lvL s b i := List.mem_of_getElem? (i := 2) rfl
  have h2 : (2, Value.ref (s.heap.size + 111)) ∈ lvL s b i := List.mem_of_getElem? (i := 1) rfl
  have h3 : (3, Value.int (nI i)) ∈ lvL s b i := List.mem_of_getElem? (i := 0) rfl
  obtain ⟨v, X1, σ', τ', α', β', κ', ρ', m', M', a6, a7, hW'⟩ := w_withdraw SF_ks SF_ms (xs (i + 1)) K E σ τ α β κ ρ mm M J hW hK1 hE1
  refine l_aload C0 dL_law_282 rfl h1 ?_
  refine l_arg (q := 1) C0 h0 h3 dL_law_283 dL_law_284 dL_law_285 dL_law_286 dL_law_287 rfl (by omega) (by omega) ?_
  refine l_callV (st := []) C0 hK dL_law_288 ml_L_31 a6 SF_ks.a0 rfl rfl (by decide) (Nat.le_of_ble_eq_true rfl) ⟨rfl, rfl⟩ (Nat.le_of_ble_eq_true rfl) (Nat.le_of_ble_eq_true rfl) ?_
  refine l_aload C0 dL_law_291 rfl h2 ?_
  refine l_arg (q := 1) C0 h0 h3 dL_law_292 dL_law_293 dL_law_294 dL_law_295 dL_law_296 rfl (by omega) (by omega) ?_
  refine l_callV (st := [.int v]) C0 hK dL_law_297 ml_L_35 a7 SF_ms.a0 rfl rfl (by decide) (Nat.le_of_ble_eq_true rfl) ⟨rfl, rfl⟩ (Nat.le_of_ble_eq_true rfl) (Nat.le_of_ble_eq_true rfl) ?_
  refine l_same (st := []) 720 C0 dL_law_300 (by decide) ?_
  exact hn σ' τ' α' β' κ' ρ' m' M' J hW'
theorem law_leave (C0 : lw_At p s m meth c b Ls xs) (hK : ai_K dC dI cA s) (hL : Ls ≤ 2048) (hi : i + 4 ≤ Ls) (hW : WI K E σ α β κ ρ mm M) (hK1 : K + 6000 ≤ 900000000) (hE1 : E + 200 ≤ 900000000) (hn : Nxt p l e s m below meth c b dC dI cA i (K + 6000) (E + 200)) : LW p l e s m below meth c b dC dI cA 120 3437 305 (lvL s b i) [] SF (wM σ τ α β κ (md_put 111 (Rm ρ mm) M)) J := by
  have h0 : (0, Value.ref b) ∈ lvL s b i := List.mem_of_getElem? (i := 3) rfl
  have h1 : (1, Value.ref (s.heap.size + 0)) ∈ lvL s b i := List.mem_of_getElem? (i := 2) rfl
  have h2 : (2, Value.ref (s.heap.size + 111)) ∈ lvL s b i := List.mem_of_getElem? (i := 1) rfl
  have h3 : (3, Value.int (nI i)) ∈ lvL s b i := List.mem_of_getElem? (i := 0) rfl
  obtain ⟨v, X1, σ', τ', α', β', κ', ρ', m', M', a6, a7, hW'⟩ := w_leave SF_ks SF_ms (xs (i + 1)) K E σ τ α β κ ρ mm M J hW hK1 hE1
  refine l_aload C0 dL_law_305 rfl h1 ?_
  refine l_arg (q := 1) C0 h0 h3 dL_law_306 dL_law_307 dL_law_308 dL_law_309 dL_law_310 rfl (by omega) (by omega) ?_
  refine l_callV (st := []) C0 hK dL_law_311 ml_L_36 a6 SF_ks.a0 rfl rfl (by decide) (Nat.le_of_ble_eq_true rfl) ⟨rfl, rfl⟩ (Nat.le_of_ble_eq_true rfl) (Nat.le_of_ble_eq_true rfl) ?_
  refine l_aload C0 dL_law_314 rfl h2 ?_
  refine l_arg (q := 1) C0 h0 h3 dL_law_315 dL_law_316 dL_law_317 dL_law_318 dL_law_319 rfl (by omega) (by omega) ?_
  refine l_callV (st := [.int v]) C0 hK dL_law_320 ml_L_39 a7 SF_ms.a0 rfl rfl (by decide) (Nat.le_of_ble_eq_true rfl) ⟨rfl, rfl⟩ (Nat.le_of_ble_eq_true rfl) (Nat.le_of_ble_eq_true rfl) ?_
  refine l_same (st := []) 720 C0 dL_law_323 (by decide) ?_
  exact hn σ' τ' α' β' κ' ρ' m' M' J hW'
theorem law_collapse (C0 : lw_At p s m meth c b Ls xs) (hK : ai_K dC dI cA s) (hL : Ls ≤ 2048) (hi : i + 4 ≤ Ls) (hW : WI K E σ α β κ ρ mm M) (hK1 : K + 6000 ≤ 900000000) (hE1 : E + 200 ≤ 900000000) (hn : Nxt p l e s m below meth c b dC dI cA i (K + 6000) (E + 200)) : LW p l e s m below meth c b dC dI cA 120 3437 328 (lvL s b i) [] SF (wM σ τ α β κ (md_put 111 (Rm ρ mm) M)) J := by
  have h0 : (0, Value.ref b) ∈ lvL s b i := List.mem_of_getElem? (i := 3) rfl
  have h1 : (1, Value.ref (s.heap.size + 0)) ∈ lvL s b i := List.mem_of_getElem? (i := 2) rfl
  have h2 : (2, Value.ref (s.heap.size + 111)) ∈ lvL s b i := List.mem_of_getElem? (i := 1) rfl
  have h3 : (3, Value.int (nI i)) ∈ lvL s b i := List.mem_of_getElem? (i := 0) rfl
  obtain ⟨v, X1, σ', τ', α', β', κ', ρ', m', M', a6, a7, hW'⟩ := w_collapse SF_ks SF_ms (xs (i + 1)) K E σ τ α β κ ρ mm M J hW hK1 hE1
  refine l_aload C0 dL_law_328 rfl h1 ?_
  refine l_arg (q := 1) C0 h0 h3 dL_law_329 dL_law_330 dL_law_331 dL_law_332 dL_law_333 rfl (by omega) (by omega) ?_
  refine l_callV (st := []) C0 hK dL_law_334 ml_L_40 a6 SF_ks.a0 rfl rfl (by decide) (Nat.le_of_ble_eq_true rfl) ⟨rfl, rfl⟩ (Nat.le_of_ble_eq_true rfl) (Nat.le_of_ble_eq_true rfl) ?_
  refine l_aload C0 dL_law_337 rfl h2 ?_
  refine l_arg (q := 1) C0 h0 h3 dL_law_338 dL_law_339 dL_law_340 dL_law_341 dL_law_342 rfl (by omega) (by omega) ?_
  refine l_callV (st := [.int v]) C0 hK dL_law_343 ml_L_43 a7 SF_ms.a0 rfl rfl (by decide) (Nat.le_of_ble_eq_true rfl) ⟨rfl, rfl⟩ (Nat.le_of_ble_eq_true rfl) (Nat.le_of_ble_eq_true rfl) ?_
  refine l_same (st := []) 720 C0 dL_law_346 (by decide) ?_
  exact hn σ' τ' α' β' κ' ρ' m' M' J hW'
theorem law_pass (C0 : lw_At p s m meth c b Ls xs) (hK : ai_K dC dI cA s) (hL : Ls ≤ 2048) (hi : i + 4 ≤ Ls) (hW : WI K E σ α β κ ρ mm M) (hK1 : K + 6000 ≤ 900000000) (hE1 : E + 200 ≤ 900000000) (hn : Nxt p l e s m below meth c b dC dI cA i (K + 6000) (E + 200)) : LW p l e s m below meth c b dC dI cA 120 3437 351 (lvL s b i) [] SF (wM σ τ α β κ (md_put 111 (Rm ρ mm) M)) J := by
  have h0 : (0, Value.ref b) ∈ lvL s b i := List.mem_of_getElem? (i := 3) rfl
  have h1 : (1, Value.ref (s.heap.size + 0)) ∈ lvL s b i := List.mem_of_getElem? (i := 2) rfl
  have h2 : (2, Value.ref (s.heap.size + 111)) ∈ lvL s b i := List.mem_of_getElem? (i := 1) rfl
  have h3 : (3, Value.int (nI i)) ∈ lvL s b i := List.mem_of_getElem? (i := 0) rfl
  obtain ⟨v, X1, σ', τ', α', β', κ', ρ', m', M', a6, a7, hW'⟩ := w_pass SF_ks SF_ms (xs (i + 1)) K E σ τ α β κ ρ mm M J hW hK1 hE1
  refine l_aload C0 dL_law_351 rfl h1 ?_
  refine l_arg (q := 1) C0 h0 h3 dL_law_352 dL_law_353 dL_law_354 dL_law_355 dL_law_356 rfl (by omega) (by omega) ?_
  refine l_callV (st := []) C0 hK dL_law_357 ml_L_44 a6 SF_ks.a0 rfl rfl (by decide) (Nat.le_of_ble_eq_true rfl) ⟨rfl, rfl⟩ (Nat.le_of_ble_eq_true rfl) (Nat.le_of_ble_eq_true rfl) ?_
  refine l_aload C0 dL_law_360 rfl h2 ?_
  refine l_arg (q := 1) C0 h0 h3 dL_law_361 dL_law_362 dL_law_363 dL_law_364 dL_law_365 rfl (by omega) (by omega) ?_
  refine l_callV (st := [.int v]) C0 hK dL_law_366 ml_L_47 a7 SF_ms.a0 rfl rfl (by decide) (Nat.le_of_ble_eq_true rfl) ⟨rfl, rfl⟩ (Nat.le_of_ble_eq_true rfl) (Nat.le_of_ble_eq_true rfl) ?_
  refine l_same (st := []) 720 C0 dL_law_369 (by decide) ?_
  exact hn σ' τ' α' β' κ' ρ' m' M' J hW'
theorem law_member (C0 : lw_At p s m meth c b Ls xs) (hK : ai_K dC dI cA s) (hL : Ls ≤ 2048) (hi : i + 4 ≤ Ls) (hW : WI K E σ α β κ ρ mm M) (hK1 : K + 6000 ≤ 900000000) (hE1 : E + 200 ≤ 900000000) (hn : Nxt p l e s m below meth c b dC dI cA i (K + 6000) (E + 200)) : LW p l e s m below meth c b dC dI cA 120 3437 374 (lvL s b i) [] SF (wM σ τ α β κ (md_put 111 (Rm ρ mm) M)) J := by
  have h0 : (0, Value.ref b) ∈ lvL s b i := List.mem_of_getElem? (i := 3) rfl
  have h1 : (1, Value.ref (s.heap.size + 0)) ∈ lvL s b i := List.mem_of_getElem? (i := 2) rfl
  have h2 : (2, Value.ref (s.heap.size + 111)) ∈ lvL s b i := List.mem_of_getElem? (i := 1) rfl
  have h3 : (3, Value.int (nI i)) ∈ lvL s b i := List.mem_of_getElem? (i := 0) rfl
  obtain ⟨v, X1, σ', τ', α', β', κ', ρ', m', M', a6, a7, hW'⟩ := w_member SF_ks SF_ms (xs (i + 1)) (xs (i + 2)) K E σ τ α β κ ρ mm M J hW hK1 hE1
  refine l_aload C0 dL_law_374 rfl h1 ?_
  refine l_arg (q := 1) C0 h0 h3 dL_law_375 dL_law_376 dL_law_377 dL_law_378 dL_law_379 rfl (by omega) (by omega) ?_
  refine l_arg (q := 2) C0 h0 h3 dL_law_380 dL_law_381 dL_law_382 dL_law_383 dL_law_384 rfl (by omega) (by omega) ?_
  refine l_callV (st := []) C0 hK dL_law_385 ml_L_48 a6 SF_ks.a0 rfl rfl (by decide) (Nat.le_of_ble_eq_true rfl) ⟨rfl, rfl⟩ (Nat.le_of_ble_eq_true rfl) (Nat.le_of_ble_eq_true rfl) ?_
  refine l_aload C0 dL_law_388 rfl h2 ?_
  refine l_arg (q := 1) C0 h0 h3 dL_law_389 dL_law_390 dL_law_391 dL_law_392 dL_law_393 rfl (by omega) (by omega) ?_
  refine l_arg (q := 2) C0 h0 h3 dL_law_394 dL_law_395 dL_law_396 dL_law_397 dL_law_398 rfl (by omega) (by omega) ?_
  refine l_callV (st := [.int v]) C0 hK dL_law_399 ml_L_51 a7 SF_ms.a0 rfl rfl (by decide) (Nat.le_of_ble_eq_true rfl) ⟨rfl, rfl⟩ (Nat.le_of_ble_eq_true rfl) (Nat.le_of_ble_eq_true rfl) ?_
  refine l_same (st := []) 720 C0 dL_law_402 (by decide) ?_
  exact hn σ' τ' α' β' κ' ρ' m' M' J hW'
theorem law_room (C0 : lw_At p s m meth c b Ls xs) (hK : ai_K dC dI cA s) (hL : Ls ≤ 2048) (hi : i + 4 ≤ Ls) (hW : WI K E σ α β κ ρ mm M) (hK1 : K + 6000 ≤ 900000000) (hE1 : E + 200 ≤ 900000000) (hn : Nxt p l e s m below meth c b dC dI cA i (K + 6000) (E + 200)) : LW p l e s m below meth c b dC dI cA 120 3437 407 (lvL s b i) [] SF (wM σ τ α β κ (md_put 111 (Rm ρ mm) M)) J := by
  have h0 : (0, Value.ref b) ∈ lvL s b i := List.mem_of_getElem? (i := 3) rfl
  have h1 : (1, Value.ref (s.heap.size + 0)) ∈ lvL s b i := List.mem_of_getElem? (i := 2) rfl
  have h2 : (2, Value.ref (s.heap.size + 111)) ∈ lvL s b i := List.mem_of_getElem? (i := 1) rfl
  have h3 : (3, Value.int (nI i)) ∈ lvL s b i := List.mem_of_getElem? (i := 0) rfl
  obtain ⟨v, X1, σ', τ', α', β', κ', ρ', m', M', a6, a7, hW'⟩ := w_room SF_ks SF_ms (xs (i + 1)) (xs (i + 2)) K E σ τ α β κ ρ mm M J hW hK1 hE1
  refine l_aload C0 dL_law_407 rfl h1 ?_
  refine l_arg (q := 1) C0 h0 h3 dL_law_408 dL_law_409 dL_law_410 dL_law_411 dL_law_412 rfl (by omega) (by omega) ?_
  refine l_arg (q := 2) C0 h0 h3 dL_law_413 dL_law_414 dL_law_415 dL_law_416 dL_law_417 rfl (by omega) (by omega) ?_
  refine l_callV (st := []) C0 hK dL_law_418 ml_L_52 a6 SF_ks.a0 rfl rfl (by decide) (Nat.le_of_ble_eq_true rfl) ⟨rfl, rfl⟩ (Nat.le_of_ble_eq_true rfl) (Nat.le_of_ble_eq_true rfl) ?_
  refine l_aload C0 dL_law_421 rfl h2 ?_
  refine l_arg (q := 1) C0 h0 h3 dL_law_422 dL_law_423 dL_law_424 dL_law_425 dL_law_426 rfl (by omega) (by omega) ?_
  refine l_arg (q := 2) C0 h0 h3 dL_law_427 dL_law_428 dL_law_429 dL_law_430 dL_law_431 rfl (by omega) (by omega) ?_
  refine l_callV (st := [.int v]) C0 hK dL_law_432 ml_L_55 a7 SF_ms.a0 rfl rfl (by decide) (Nat.le_of_ble_eq_true rfl) ⟨rfl, rfl⟩ (Nat.le_of_ble_eq_true rfl) (Nat.le_of_ble_eq_true rfl) ?_
  refine l_same (st := []) 720 C0 dL_law_435 (by decide) ?_
  exact hn σ' τ' α' β' κ' ρ' m' M' J hW'
theorem law_queue (C0 : lw_At p s m meth c b Ls xs) (hK : ai_K dC dI cA s) (hL : Ls ≤ 2048) (hi : i + 4 ≤ Ls) (hW : WI K E σ α β κ ρ mm M) (hK1 : K + 6000 ≤ 900000000) (hE1 : E + 200 ≤ 900000000) (hn : Nxt p l e s m below meth c b dC dI cA i (K + 6000) (E + 200)) : LW p l e s m below meth c b dC dI cA 120 3437 440 (lvL s b i) [] SF (wM σ τ α β κ (md_put 111 (Rm ρ mm) M)) J := by
  have h0 : (0, Value.ref b) ∈ lvL s b i := List.mem_of_getElem? (i := 3) rfl
  have h1 : (1, Value.ref (s.heap.size + 0)) ∈ lvL s b i := List.mem_of_getElem? (i := 2) rfl
  have h2 : (2, Value.ref (s.heap.size + 111)) ∈ lvL s b i := List.mem_of_getElem? (i := 1) rfl
  have h3 : (3, Value.int (nI i)) ∈ lvL s b i := List.mem_of_getElem? (i := 0) rfl
  obtain ⟨v, X1, σ', τ', α', β', κ', ρ', m', M', a6, a7, hW'⟩ := w_queue SF_ks SF_ms (xs (i + 1)) (xs (i + 2)) K E σ τ α β κ ρ mm M J hW hK1 hE1
  refine l_aload C0 dL_law_440 rfl h1 ?_
  refine l_arg (q := 1) C0 h0 h3 dL_law_441 dL_law_442 dL_law_443 dL_law_444 dL_law_445 rfl (by omega) (by omega) ?_
  refine l_arg (q := 2) C0 h0 h3 dL_law_446 dL_law_447 dL_law_448 dL_law_449 dL_law_450 rfl (by omega) (by omega) ?_
  refine l_callV (st := []) C0 hK dL_law_451 ml_L_56 a6 SF_ks.a0 rfl rfl (by decide) (Nat.le_of_ble_eq_true rfl) ⟨rfl, rfl⟩ (Nat.le_of_ble_eq_true rfl) (Nat.le_of_ble_eq_true rfl) ?_
  refine l_aload C0 dL_law_454 rfl h2 ?_
  refine l_arg (q := 1) C0 h0 h3 dL_law_455 dL_law_456 dL_law_457 dL_law_458 dL_law_459 rfl (by omega) (by omega) ?_
  refine l_arg (q := 2) C0 h0 h3 dL_law_460 dL_law_461 dL_law_462 dL_law_463 dL_law_464 rfl (by omega) (by omega) ?_
  refine l_callV (st := [.int v]) C0 hK dL_law_465 ml_L_59 a7 SF_ms.a0 rfl rfl (by decide) (Nat.le_of_ble_eq_true rfl) ⟨rfl, rfl⟩ (Nat.le_of_ble_eq_true rfl) (Nat.le_of_ble_eq_true rfl) ?_
  refine l_same (st := []) 720 C0 dL_law_468 (by decide) ?_
  exact hn σ' τ' α' β' κ' ρ' m' M' J hW'
theorem law_event (C0 : lw_At p s m meth c b Ls xs) (hK : ai_K dC dI cA s) (hL : Ls ≤ 2048) (hi : i + 4 ≤ Ls) (hW : WI K E σ α β κ ρ mm M) (hK1 : K + 6000 ≤ 900000000) (hE1 : E + 200 ≤ 900000000) (hn : Nxt p l e s m below meth c b dC dI cA i (K + 6000) (E + 200)) : LW p l e s m below meth c b dC dI cA 120 3437 473 (lvL s b i) [] SF (wM σ τ α β κ (md_put 111 (Rm ρ mm) M)) J := by
  have h0 : (0, Value.ref b) ∈ lvL s b i := List.mem_of_getElem? (i := 3) rfl
  have h1 : (1, Value.ref (s.heap.size + 0)) ∈ lvL s b i := List.mem_of_getElem? (i := 2) rfl
  have h2 : (2, Value.ref (s.heap.size + 111)) ∈ lvL s b i := List.mem_of_getElem? (i := 1) rfl
  have h3 : (3, Value.int (nI i)) ∈ lvL s b i := List.mem_of_getElem? (i := 0) rfl
  obtain ⟨v, X1, σ', τ', α', β', κ', ρ', m', M', a6, a7, hW'⟩ := w_event SF_ks SF_ms (xs (i + 1)) (xs (i + 2)) K E σ τ α β κ ρ mm M J hW hK1 hE1
  refine l_aload C0 dL_law_473 rfl h1 ?_
  refine l_arg (q := 1) C0 h0 h3 dL_law_474 dL_law_475 dL_law_476 dL_law_477 dL_law_478 rfl (by omega) (by omega) ?_
  refine l_arg (q := 2) C0 h0 h3 dL_law_479 dL_law_480 dL_law_481 dL_law_482 dL_law_483 rfl (by omega) (by omega) ?_
  refine l_callV (st := []) C0 hK dL_law_484 ml_L_60 a6 SF_ks.a0 rfl rfl (by decide) (Nat.le_of_ble_eq_true rfl) ⟨rfl, rfl⟩ (Nat.le_of_ble_eq_true rfl) (Nat.le_of_ble_eq_true rfl) ?_
  refine l_aload C0 dL_law_487 rfl h2 ?_
  refine l_arg (q := 1) C0 h0 h3 dL_law_488 dL_law_489 dL_law_490 dL_law_491 dL_law_492 rfl (by omega) (by omega) ?_
  refine l_arg (q := 2) C0 h0 h3 dL_law_493 dL_law_494 dL_law_495 dL_law_496 dL_law_497 rfl (by omega) (by omega) ?_
  refine l_callV (st := [.int v]) C0 hK dL_law_498 ml_L_63 a7 SF_ms.a0 rfl rfl (by decide) (Nat.le_of_ble_eq_true rfl) ⟨rfl, rfl⟩ (Nat.le_of_ble_eq_true rfl) (Nat.le_of_ble_eq_true rfl) ?_
  refine l_same (st := []) 720 C0 dL_law_501 (by decide) ?_
  exact hn σ' τ' α' β' κ' ρ' m' M' J hW'
theorem law_unfairness (C0 : lw_At p s m meth c b Ls xs) (hK : ai_K dC dI cA s) (hL : Ls ≤ 2048) (hi : i + 4 ≤ Ls) (hW : WI K E σ α β κ ρ mm M) (hK1 : K + 6000 ≤ 900000000) (hE1 : E + 200 ≤ 900000000) (hn : Nxt p l e s m below meth c b dC dI cA i (K + 6000) (E + 200)) : LW p l e s m below meth c b dC dI cA 120 3437 506 (lvL s b i) [] SF (wM σ τ α β κ (md_put 111 (Rm ρ mm) M)) J := by
  have h0 : (0, Value.ref b) ∈ lvL s b i := List.mem_of_getElem? (i := 3) rfl
  have h1 : (1, Value.ref (s.heap.size + 0)) ∈ lvL s b i := List.mem_of_getElem? (i := 2) rfl
  have h2 : (2, Value.ref (s.heap.size + 111)) ∈ lvL s b i := List.mem_of_getElem? (i := 1) rfl
  have h3 : (3, Value.int (nI i)) ∈ lvL s b i := List.mem_of_getElem? (i := 0) rfl
  obtain ⟨v, X1, σ', τ', α', β', κ', ρ', m', M', a6, a7, hW'⟩ := w_unfairness SF_ks SF_ms  K E σ τ α β κ ρ mm M J hW hK1 hE1
  refine l_aload C0 dL_law_506 rfl h1 ?_
  refine l_callV (st := []) C0 hK dL_law_507 ml_L_64 a6 SF_ks.a0 rfl rfl (by decide) (Nat.le_of_ble_eq_true rfl) ⟨rfl, rfl⟩ (Nat.le_of_ble_eq_true rfl) (Nat.le_of_ble_eq_true rfl) ?_
  refine l_aload C0 dL_law_510 rfl h2 ?_
  refine l_callV (st := [.int v]) C0 hK dL_law_511 ml_L_68 a7 SF_ms.a0 rfl rfl (by decide) (Nat.le_of_ble_eq_true rfl) ⟨rfl, rfl⟩ (Nat.le_of_ble_eq_true rfl) (Nat.le_of_ble_eq_true rfl) ?_
  refine l_same (st := []) 720 C0 dL_law_514 (by decide) ?_
  exact hn σ' τ' α' β' κ' ρ' m' M' J hW'
theorem law_foretell (C0 : lw_At p s m meth c b Ls xs) (hK : ai_K dC dI cA s) (hL : Ls ≤ 2048) (hi : i + 4 ≤ Ls) (hW : WI K E σ α β κ ρ mm M) (hK1 : K + 6000 ≤ 900000000) (hE1 : E + 200 ≤ 900000000) (hn : Nxt p l e s m below meth c b dC dI cA i (K + 6000) (E + 200)) : LW p l e s m below meth c b dC dI cA 120 3437 519 (lvL s b i) [] SF (wM σ τ α β κ (md_put 111 (Rm ρ mm) M)) J := by
  have h0 : (0, Value.ref b) ∈ lvL s b i := List.mem_of_getElem? (i := 3) rfl
  have h1 : (1, Value.ref (s.heap.size + 0)) ∈ lvL s b i := List.mem_of_getElem? (i := 2) rfl
  have h2 : (2, Value.ref (s.heap.size + 111)) ∈ lvL s b i := List.mem_of_getElem? (i := 1) rfl
  have h3 : (3, Value.int (nI i)) ∈ lvL s b i := List.mem_of_getElem? (i := 0) rfl
  obtain ⟨v, X1, σ', τ', α', β', κ', ρ', m', M', a6, a7, hW'⟩ := w_foretell SF_ks SF_ms (xs (i + 1)) K E σ τ α β κ ρ mm M J hW hK1 hE1
  refine l_aload C0 dL_law_519 rfl h1 ?_
  refine l_arg (q := 1) C0 h0 h3 dL_law_520 dL_law_521 dL_law_522 dL_law_523 dL_law_524 rfl (by omega) (by omega) ?_
  refine l_callV (st := []) C0 hK dL_law_525 ml_L_69 a6 SF_ks.a0 rfl rfl (by decide) (Nat.le_of_ble_eq_true rfl) ⟨rfl, rfl⟩ (Nat.le_of_ble_eq_true rfl) (Nat.le_of_ble_eq_true rfl) ?_
  refine l_aload C0 dL_law_528 rfl h2 ?_
  refine l_arg (q := 1) C0 h0 h3 dL_law_529 dL_law_530 dL_law_531 dL_law_532 dL_law_533 rfl (by omega) (by omega) ?_
  refine l_callV (st := [.int v]) C0 hK dL_law_534 ml_L_72 a7 SF_ms.a0 rfl rfl (by decide) (Nat.le_of_ble_eq_true rfl) ⟨rfl, rfl⟩ (Nat.le_of_ble_eq_true rfl) (Nat.le_of_ble_eq_true rfl) ?_
  refine l_same (st := []) 720 C0 dL_law_537 (by decide) ?_
  exact hn σ' τ' α' β' κ' ρ' m' M' J hW'
theorem law_empties (C0 : lw_At p s m meth c b Ls xs) (hK : ai_K dC dI cA s) (hL : Ls ≤ 2048) (hi : i + 4 ≤ Ls) (hW : WI K E σ α β κ ρ mm M) (hK1 : K + 6000 ≤ 900000000) (hE1 : E + 200 ≤ 900000000) (hn : Nxt p l e s m below meth c b dC dI cA i (K + 6000) (E + 200)) : LW p l e s m below meth c b dC dI cA 120 3437 542 (lvL s b i) [] SF (wM σ τ α β κ (md_put 111 (Rm ρ mm) M)) J := by
  have h0 : (0, Value.ref b) ∈ lvL s b i := List.mem_of_getElem? (i := 3) rfl
  have h1 : (1, Value.ref (s.heap.size + 0)) ∈ lvL s b i := List.mem_of_getElem? (i := 2) rfl
  have h2 : (2, Value.ref (s.heap.size + 111)) ∈ lvL s b i := List.mem_of_getElem? (i := 1) rfl
  have h3 : (3, Value.int (nI i)) ∈ lvL s b i := List.mem_of_getElem? (i := 0) rfl
  obtain ⟨v, X1, σ', τ', α', β', κ', ρ', m', M', a6, a7, hW'⟩ := w_empties SF_ks SF_ms  K E σ τ α β κ ρ mm M J hW hK1 hE1
  refine l_aload C0 dL_law_542 rfl h1 ?_
  refine l_callV (st := []) C0 hK dL_law_543 ml_L_73 a6 SF_ks.a0 rfl rfl (by decide) (Nat.le_of_ble_eq_true rfl) ⟨rfl, rfl⟩ (Nat.le_of_ble_eq_true rfl) (Nat.le_of_ble_eq_true rfl) ?_
  refine l_aload C0 dL_law_546 rfl h2 ?_
  refine l_callV (st := [.int v]) C0 hK dL_law_547 ml_L_76 a7 SF_ms.a0 rfl rfl (by decide) (Nat.le_of_ble_eq_true rfl) ⟨rfl, rfl⟩ (Nat.le_of_ble_eq_true rfl) (Nat.le_of_ble_eq_true rfl) ?_
  refine l_same (st := []) 720 C0 dL_law_550 (by decide) ?_
  exact hn σ' τ' α' β' κ' ρ' m' M' J hW'
theorem law_bestQuota (C0 : lw_At p s m meth c b Ls xs) (hK : ai_K dC dI cA s) (hL : Ls ≤ 2048) (hi : i + 4 ≤ Ls) (hW : WI K E σ α β κ ρ mm M) (hK1 : K + 6000 ≤ 900000000) (hE1 : E + 200 ≤ 900000000) (hn : Nxt p l e s m below meth c b dC dI cA i (K + 6000) (E + 200)) : LW p l e s m below meth c b dC dI cA 120 3437 555 (lvL s b i) [] SF (wM σ τ α β κ (md_put 111 (Rm ρ mm) M)) J := by
  have h0 : (0, Value.ref b) ∈ lvL s b i := List.mem_of_getElem? (i := 3) rfl
  have h1 : (1, Value.ref (s.heap.size + 0)) ∈ lvL s b i := List.mem_of_getElem? (i := 2) rfl
  have h2 : (2, Value.ref (s.heap.size + 111)) ∈ lvL s b i := List.mem_of_getElem? (i := 1) rfl
  have h3 : (3, Value.int (nI i)) ∈ lvL s b i := List.mem_of_getElem? (i := 0) rfl
  obtain ⟨v, X1, σ', τ', α', β', κ', ρ', m', M', a6, a7, hW'⟩ := w_bestQuota SF_ks SF_ms (xs (i + 1)) (xs (i + 2)) K E σ τ α β κ ρ mm M J hW hK1 hE1
  refine l_aload C0 dL_law_555 rfl h1 ?_
  refine l_arg (q := 1) C0 h0 h3 dL_law_556 dL_law_557 dL_law_558 dL_law_559 dL_law_560 rfl (by omega) (by omega) ?_
  refine l_arg (q := 2) C0 h0 h3 dL_law_561 dL_law_562 dL_law_563 dL_law_564 dL_law_565 rfl (by omega) (by omega) ?_
  refine l_callV (st := []) C0 hK dL_law_566 ml_L_77 a6 SF_ks.a0 rfl rfl (by decide) (Nat.le_of_ble_eq_true rfl) ⟨rfl, rfl⟩ (Nat.le_of_ble_eq_true rfl) (Nat.le_of_ble_eq_true rfl) ?_
  refine l_aload C0 dL_law_569 rfl h2 ?_
  refine l_arg (q := 1) C0 h0 h3 dL_law_570 dL_law_571 dL_law_572 dL_law_573 dL_law_574 rfl (by omega) (by omega) ?_
  refine l_arg (q := 2) C0 h0 h3 dL_law_575 dL_law_576 dL_law_577 dL_law_578 dL_law_579 rfl (by omega) (by omega) ?_
  refine l_callV (st := [.int v]) C0 hK dL_law_580 ml_L_80 a7 SF_ms.a0 rfl rfl (by decide) (Nat.le_of_ble_eq_true rfl) ⟨rfl, rfl⟩ (Nat.le_of_ble_eq_true rfl) (Nat.le_of_ble_eq_true rfl) ?_
  refine l_same (st := []) 720 C0 dL_law_583 (by decide) ?_
  exact hn σ' τ' α' β' κ' ρ' m' M' J hW'
theorem law_type (C0 : lw_At p s m meth c b Ls xs) (hK : ai_K dC dI cA s) (hL : Ls ≤ 2048) (hi : i + 4 ≤ Ls) (hW : WI K E σ α β κ ρ mm M) (hK1 : K + 6000 ≤ 900000000) (hE1 : E + 200 ≤ 900000000) (hn : Nxt p l e s m below meth c b dC dI cA i (K + 6000) (E + 200)) : LW p l e s m below meth c b dC dI cA 120 3437 588 (lvL s b i) [] SF (wM σ τ α β κ (md_put 111 (Rm ρ mm) M)) J := by
  have h0 : (0, Value.ref b) ∈ lvL s b i := List.mem_of_getElem? (i := 3) rfl
  have h1 : (1, Value.ref (s.heap.size + 0)) ∈ lvL s b i := List.mem_of_getElem? (i := 2) rfl
  have h2 : (2, Value.ref (s.heap.size + 111)) ∈ lvL s b i := List.mem_of_getElem? (i := 1) rfl
  have h3 : (3, Value.int (nI i)) ∈ lvL s b i := List.mem_of_getElem? (i := 0) rfl
  obtain ⟨v, X1, σ', τ', α', β', κ', ρ', m', M', a6, a7, hW'⟩ := w_type SF_ks SF_ms (xs (i + 1)) K E σ τ α β κ ρ mm M J hW hK1 hE1
  refine l_aload C0 dL_law_588 rfl h1 ?_
  refine l_arg (q := 1) C0 h0 h3 dL_law_589 dL_law_590 dL_law_591 dL_law_592 dL_law_593 rfl (by omega) (by omega) ?_
  refine l_callV (st := []) C0 hK dL_law_594 ml_L_81 a6 SF_ks.a0 rfl rfl (by decide) (Nat.le_of_ble_eq_true rfl) ⟨rfl, rfl⟩ (Nat.le_of_ble_eq_true rfl) (Nat.le_of_ble_eq_true rfl) ?_
  refine l_aload C0 dL_law_597 rfl h2 ?_
  refine l_arg (q := 1) C0 h0 h3 dL_law_598 dL_law_599 dL_law_600 dL_law_601 dL_law_602 rfl (by omega) (by omega) ?_
  refine l_callV (st := [.int v]) C0 hK dL_law_603 ml_L_84 a7 SF_ms.a0 rfl rfl (by decide) (Nat.le_of_ble_eq_true rfl) ⟨rfl, rfl⟩ (Nat.le_of_ble_eq_true rfl) (Nat.le_of_ble_eq_true rfl) ?_
  refine l_same (st := []) 720 C0 dL_law_606 (by decide) ?_
  exact hn σ' τ' α' β' κ' ρ' m' M' J hW'
theorem law_clear (C0 : lw_At p s m meth c b Ls xs) (hK : ai_K dC dI cA s) (hL : Ls ≤ 2048) (hi : i + 4 ≤ Ls) (hW : WI K E σ α β κ ρ mm M) (hK1 : K + 6000 ≤ 900000000) (hE1 : E + 200 ≤ 900000000) (hn : Nxt p l e s m below meth c b dC dI cA i (K + 6000) (E + 200)) : LW p l e s m below meth c b dC dI cA 120 3437 611 (lvL s b i) [] SF (wM σ τ α β κ (md_put 111 (Rm ρ mm) M)) J := by
  have h0 : (0, Value.ref b) ∈ lvL s b i := List.mem_of_getElem? (i := 3) rfl
  have h1 : (1, Value.ref (s.heap.size + 0)) ∈ lvL s b i := List.mem_of_getElem? (i := 2) rfl
  have h2 : (2, Value.ref (s.heap.size + 111)) ∈ lvL s b i := List.mem_of_getElem? (i := 1) rfl
  have h3 : (3, Value.int (nI i)) ∈ lvL s b i := List.mem_of_getElem? (i := 0) rfl
  obtain ⟨v, X1, σ', τ', α', β', κ', ρ', m', M', a6, a7, hW'⟩ := w_clear SF_ks SF_ms  K E σ τ α β κ ρ mm M J hW hK1 hE1
  refine l_aload C0 dL_law_611 rfl h1 ?_
  refine l_callV (st := []) C0 hK dL_law_612 ml_L_85 a6 SF_ks.a0 rfl rfl (by decide) (Nat.le_of_ble_eq_true rfl) ⟨rfl, rfl⟩ (Nat.le_of_ble_eq_true rfl) (Nat.le_of_ble_eq_true rfl) ?_
  refine l_aload C0 dL_law_615 rfl h2 ?_
  refine l_callV (st := [.int v]) C0 hK dL_law_616 ml_L_88 a7 SF_ms.a0 rfl rfl (by decide) (Nat.le_of_ble_eq_true rfl) ⟨rfl, rfl⟩ (Nat.le_of_ble_eq_true rfl) (Nat.le_of_ble_eq_true rfl) ?_
  refine l_same (st := []) 720 C0 dL_law_619 (by decide) ?_
  exact hn σ' τ' α' β' κ' ρ' m' M' J hW'
theorem law_run (C0 : lw_At p s m meth c b Ls xs) (hK : ai_K dC dI cA s) (hL : Ls ≤ 2048) (hi : i + 4 ≤ Ls) (hW : WI K E σ α β κ ρ mm M) (hK1 : K + 6000 ≤ 900000000) (hE1 : E + 200 ≤ 900000000) (hn : Nxt p l e s m below meth c b dC dI cA i (K + 6000) (E + 200)) : LW p l e s m below meth c b dC dI cA 120 3437 624 (lvL s b i) [] SF (wM σ τ α β κ (md_put 111 (Rm ρ mm) M)) J := by
  have h0 : (0, Value.ref b) ∈ lvL s b i := List.mem_of_getElem? (i := 3) rfl
  have h1 : (1, Value.ref (s.heap.size + 0)) ∈ lvL s b i := List.mem_of_getElem? (i := 2) rfl
  have h2 : (2, Value.ref (s.heap.size + 111)) ∈ lvL s b i := List.mem_of_getElem? (i := 1) rfl
  have h3 : (3, Value.int (nI i)) ∈ lvL s b i := List.mem_of_getElem? (i := 0) rfl
  obtain ⟨v, X1, σ', τ', α', β', κ', ρ', m', M', a6, a7, hW'⟩ := w_run SF_ks SF_ms  K E σ τ α β κ ρ mm M J hW hK1 hE1
  refine l_aload C0 dL_law_624 rfl h1 ?_
  refine l_callV (st := []) C0 hK dL_law_625 ml_L_89 a6 SF_ks.a0 rfl rfl (by decide) (Nat.le_of_ble_eq_true rfl) ⟨rfl, rfl⟩ (Nat.le_of_ble_eq_true rfl) (Nat.le_of_ble_eq_true rfl) ?_
  refine l_aload C0 dL_law_628 rfl h2 ?_
  refine l_callV (st := [.int v]) C0 hK dL_law_629 ml_L_92 a7 SF_ms.a0 rfl rfl (by decide) (Nat.le_of_ble_eq_true rfl) ⟨rfl, rfl⟩ (Nat.le_of_ble_eq_true rfl) (Nat.le_of_ble_eq_true rfl) ?_
  refine l_same (st := []) 720 C0 dL_law_632 (by decide) ?_
  exact hn σ' τ' α' β' κ' ρ' m' M' J hW'
theorem law_save (C0 : lw_At p s m meth c b Ls xs) (hK : ai_K dC dI cA s) (hL : Ls ≤ 2048) (hi : i + 4 ≤ Ls) (hW : WI K E σ α β κ ρ mm M) (hK1 : K + 6000 ≤ 900000000) (hE1 : E + 200 ≤ 900000000) (hn : Nxt p l e s m below meth c b dC dI cA i (K + 6000) (E + 200)) : LW p l e s m below meth c b dC dI cA 120 3437 637 (lvL s b i) [] SF (wM σ τ α β κ (md_put 111 (Rm ρ mm) M)) J := by
  have h0 : (0, Value.ref b) ∈ lvL s b i := List.mem_of_getElem? (i := 3) rfl
  have h1 : (1, Value.ref (s.heap.size + 0)) ∈ lvL s b i := List.mem_of_getElem? (i := 2) rfl
  have h2 : (2, Value.ref (s.heap.size + 111)) ∈ lvL s b i := List.mem_of_getElem? (i := 1) rfl
  have h3 : (3, Value.int (nI i)) ∈ lvL s b i := List.mem_of_getElem? (i := 0) rfl
  obtain ⟨v, X1, σ', τ', α', β', κ', ρ', m', M', a6, a7, hW'⟩ := w_save SF_ks SF_ms (xs (i + 1)) K E σ τ α β κ ρ mm M J hW hK1 hE1
  refine l_aload C0 dL_law_637 rfl h1 ?_
  refine l_arg (q := 1) C0 h0 h3 dL_law_638 dL_law_639 dL_law_640 dL_law_641 dL_law_642 rfl (by omega) (by omega) ?_
  refine l_callV (st := []) C0 hK dL_law_643 ml_L_93 a6 SF_ks.a0 rfl rfl (by decide) (Nat.le_of_ble_eq_true rfl) ⟨rfl, rfl⟩ (Nat.le_of_ble_eq_true rfl) (Nat.le_of_ble_eq_true rfl) ?_
  refine l_aload C0 dL_law_646 rfl h2 ?_
  refine l_arg (q := 1) C0 h0 h3 dL_law_647 dL_law_648 dL_law_649 dL_law_650 dL_law_651 rfl (by omega) (by omega) ?_
  refine l_callV (st := [.int v]) C0 hK dL_law_652 ml_L_96 a7 SF_ms.a0 rfl rfl (by decide) (Nat.le_of_ble_eq_true rfl) ⟨rfl, rfl⟩ (Nat.le_of_ble_eq_true rfl) (Nat.le_of_ble_eq_true rfl) ?_
  refine l_same (st := []) 720 C0 dL_law_655 (by decide) ?_
  exact hn σ' τ' α' β' κ' ρ' m' M' J hW'
theorem law_restore (C0 : lw_At p s m meth c b Ls xs) (hK : ai_K dC dI cA s) (hL : Ls ≤ 2048) (hi : i + 4 ≤ Ls) (hW : WI K E σ α β κ ρ mm M) (hK1 : K + 6000 ≤ 900000000) (hE1 : E + 200 ≤ 900000000) (hn : Nxt p l e s m below meth c b dC dI cA i (K + 6000) (E + 200)) : LW p l e s m below meth c b dC dI cA 120 3437 660 (lvL s b i) [] SF (wM σ τ α β κ (md_put 111 (Rm ρ mm) M)) J := by
  have h0 : (0, Value.ref b) ∈ lvL s b i := List.mem_of_getElem? (i := 3) rfl
  have h1 : (1, Value.ref (s.heap.size + 0)) ∈ lvL s b i := List.mem_of_getElem? (i := 2) rfl
  have h2 : (2, Value.ref (s.heap.size + 111)) ∈ lvL s b i := List.mem_of_getElem? (i := 1) rfl
  have h3 : (3, Value.int (nI i)) ∈ lvL s b i := List.mem_of_getElem? (i := 0) rfl
  obtain ⟨v, X1, σ', τ', α', β', κ', ρ', m', M', a6, a7, hW'⟩ := w_restore SF_ks SF_ms (xs (i + 1)) K E σ τ α β κ ρ mm M J hW hK1 hE1
  refine l_aload C0 dL_law_660 rfl h1 ?_
  refine l_arg (q := 1) C0 h0 h3 dL_law_661 dL_law_662 dL_law_663 dL_law_664 dL_law_665 rfl (by omega) (by omega) ?_
  refine l_callV (st := []) C0 hK dL_law_666 ml_L_97 a6 SF_ks.a0 rfl rfl (by decide) (Nat.le_of_ble_eq_true rfl) ⟨rfl, rfl⟩ (Nat.le_of_ble_eq_true rfl) (Nat.le_of_ble_eq_true rfl) ?_
  refine l_aload C0 dL_law_669 rfl h2 ?_
  refine l_arg (q := 1) C0 h0 h3 dL_law_670 dL_law_671 dL_law_672 dL_law_673 dL_law_674 rfl (by omega) (by omega) ?_
  refine l_callV (st := [.int v]) C0 hK dL_law_675 ml_L_100 a7 SF_ms.a0 rfl rfl (by decide) (Nat.le_of_ble_eq_true rfl) ⟨rfl, rfl⟩ (Nat.le_of_ble_eq_true rfl) (Nat.le_of_ble_eq_true rfl) ?_
  refine l_same (st := []) 720 C0 dL_law_678 (by decide) ?_
  exact hn σ' τ' α' β' κ' ρ' m' M' J hW'
theorem law_count (C0 : lw_At p s m meth c b Ls xs) (hK : ai_K dC dI cA s) (hL : Ls ≤ 2048) (hi : i + 4 ≤ Ls) (hW : WI K E σ α β κ ρ mm M) (hK1 : K + 6000 ≤ 900000000) (hE1 : E + 200 ≤ 900000000) (hn : Nxt p l e s m below meth c b dC dI cA i (K + 6000) (E + 200)) : LW p l e s m below meth c b dC dI cA 120 3437 683 (lvL s b i) [] SF (wM σ τ α β κ (md_put 111 (Rm ρ mm) M)) J := by
  have h0 : (0, Value.ref b) ∈ lvL s b i := List.mem_of_getElem? (i := 3) rfl
  have h1 : (1, Value.ref (s.heap.size + 0)) ∈ lvL s b i := List.mem_of_getElem? (i := 2) rfl
  have h2 : (2, Value.ref (s.heap.size + 111)) ∈ lvL s b i := List.mem_of_getElem? (i := 1) rfl
  have h3 : (3, Value.int (nI i)) ∈ lvL s b i := List.mem_of_getElem? (i := 0) rfl
  obtain ⟨v, X1, σ', τ', α', β', κ', ρ', m', M', a6, a7, hW'⟩ := w_count SF_ks SF_ms (xs (i + 1)) K E σ τ α β κ ρ mm M J hW hK1 hE1
  refine l_aload C0 dL_law_683 rfl h1 ?_
  refine l_arg (q := 1) C0 h0 h3 dL_law_684 dL_law_685 dL_law_686 dL_law_687 dL_law_688 rfl (by omega) (by omega) ?_
  refine l_callV (st := []) C0 hK dL_law_689 ml_L_101 a6 SF_ks.a0 rfl rfl (by decide) (Nat.le_of_ble_eq_true rfl) ⟨rfl, rfl⟩ (Nat.le_of_ble_eq_true rfl) (Nat.le_of_ble_eq_true rfl) ?_
  refine l_aload C0 dL_law_692 rfl h2 ?_
  refine l_arg (q := 1) C0 h0 h3 dL_law_693 dL_law_694 dL_law_695 dL_law_696 dL_law_697 rfl (by omega) (by omega) ?_
  refine l_callV (st := [.int v]) C0 hK dL_law_698 ml_L_104 a7 SF_ms.a0 rfl rfl (by decide) (Nat.le_of_ble_eq_true rfl) ⟨rfl, rfl⟩ (Nat.le_of_ble_eq_true rfl) (Nat.le_of_ble_eq_true rfl) ?_
  refine l_same (st := []) 720 C0 dL_law_701 (by decide) ?_
  exact hn σ' τ' α' β' κ' ρ' m' M' J hW'
theorem law_digest (C0 : lw_At p s m meth c b Ls xs) (hK : ai_K dC dI cA s) (hL : Ls ≤ 2048) (hi : i + 4 ≤ Ls) (hW : WI K E σ α β κ ρ mm M) (hK1 : K + 6000 ≤ 900000000) (hE1 : E + 200 ≤ 900000000) (hn : Nxt p l e s m below meth c b dC dI cA i (K + 6000) (E + 200)) : LW p l e s m below meth c b dC dI cA 120 3437 706 (lvL s b i) [] SF (wM σ τ α β κ (md_put 111 (Rm ρ mm) M)) J := by
  have h0 : (0, Value.ref b) ∈ lvL s b i := List.mem_of_getElem? (i := 3) rfl
  have h1 : (1, Value.ref (s.heap.size + 0)) ∈ lvL s b i := List.mem_of_getElem? (i := 2) rfl
  have h2 : (2, Value.ref (s.heap.size + 111)) ∈ lvL s b i := List.mem_of_getElem? (i := 1) rfl
  have h3 : (3, Value.int (nI i)) ∈ lvL s b i := List.mem_of_getElem? (i := 0) rfl
  obtain ⟨v, τ', ρ', J', a6, a7, hW'⟩ := w_digest SF_ks SF_ms τ J hW hK1 hE1
  refine l_aload C0 dL_law_706 rfl h1 ?_
  refine l_callV (st := []) C0 hK dL_law_707 ml_L_105 a6 SF_ks.a0 rfl rfl (by decide) (Nat.le_of_ble_eq_true rfl) ⟨rfl, rfl⟩ (Nat.le_of_ble_eq_true rfl) (Nat.le_of_ble_eq_true rfl) ?_
  refine l_aload C0 dL_law_710 rfl h2 ?_
  refine l_callV (st := [.long v]) C0 hK dL_law_711 ml_L_109 a7 SF_ms.a0 rfl rfl (by decide) (Nat.le_of_ble_eq_true rfl) ⟨rfl, rfl⟩ (Nat.le_of_ble_eq_true rfl) (Nat.le_of_ble_eq_true rfl) ?_
  refine l_sameL (st := []) 720 C0 dL_law_714 dL_law_715 (by decide) ?_
  exact hn σ τ' α β κ ρ' mm M J' hW'
theorem law_body (C0 : lw_At p s m meth c b Ls xs) (hK : ai_K dC dI cA s) (hL : Ls ≤ 2048) (hi : i + 4 ≤ Ls) (hW : WI K E σ α β κ ρ mm M) (hK1 : K + 6000 ≤ 900000000) (hE1 : E + 200 ≤ 900000000) (hn : Nxt p l e s m below meth c b dC dI cA i (K + 6000) (E + 200)) : LW p l e s m below meth c b dC dI cA 120 3437 26 (lvL s b i) [] SF (wM σ τ α β κ (md_put 111 (Rm ρ mm) M)) J := by
  have h0 : (0, Value.ref b) ∈ lvL s b i := List.mem_of_getElem? (i := 3) rfl
  have h3 : (3, Value.int (nI i)) ∈ lvL s b i := List.mem_of_getElem? (i := 0) rfl
  refine l_aload C0 dL_law_26 rfl h0 ?_
  refine l_iload C0 dL_law_27 rfl h3 ?_
  refine l_sld C0 dL_law_28 (by omega) (by omega) ?_
  refine l_bipush (v := 31) C0 dL_law_29 (by decide) ?_
  refine l_iand C0 dL_law_31 ?_
  obtain ⟨q, hq, hqe⟩ := pk_andE (xs i) (m := 31) 5 (by decide)
  rw [hqe]
  have hq32 : q < 32 := hq
  by_cases h23 : q < 23
  · rcases (show q = 0 ∨ q = 1 ∨ q = 2 ∨ q = 3 ∨ q = 4 ∨ q = 5 ∨ q = 6 ∨ q = 7 ∨ q = 8 ∨ q = 9 ∨ q = 10 ∨ q = 11 ∨ q = 12 ∨ q = 13 ∨ q = 14 ∨ q = 15 ∨ q = 16 ∨ q = 17 ∨ q = 18 ∨ q = 19 ∨ q = 20 ∨ q = 21 ∨ q = 22 by omega) with rfl | rfl | rfl | rfl | rfl | rfl | rfl | rfl | rfl | rfl | rfl | rfl | rfl | rfl | rfl | rfl | rfl | rfl | rfl | rfl | rfl | rfl | rfl
    · exact l_tableIn 140 C0 dL_law_32 (by decide) (by decide) rfl (by decide) (law_setCapacity C0 hK hL hi hW hK1 hE1 hn)
    · exact l_tableIn 173 C0 dL_law_32 (by decide) (by decide) rfl (by decide) (law_setShare C0 hK hL hi hW hK1 hE1 hn)
    · exact l_tableIn 206 C0 dL_law_32 (by decide) (by decide) rfl (by decide) (law_setRule C0 hK hL hi hW hK1 hE1 hn)
    · exact l_tableIn 239 C0 dL_law_32 (by decide) (by decide) rfl (by decide) (law_request C0 hK hL hi hW hK1 hE1 hn)
    · exact l_tableIn 282 C0 dL_law_32 (by decide) (by decide) rfl (by decide) (law_withdraw C0 hK hL hi hW hK1 hE1 hn)
    · exact l_tableIn 305 C0 dL_law_32 (by decide) (by decide) rfl (by decide) (law_leave C0 hK hL hi hW hK1 hE1 hn)
    · exact l_tableIn 328 C0 dL_law_32 (by decide) (by decide) rfl (by decide) (law_collapse C0 hK hL hi hW hK1 hE1 hn)
    · exact l_tableIn 351 C0 dL_law_32 (by decide) (by decide) rfl (by decide) (law_pass C0 hK hL hi hW hK1 hE1 hn)
    · exact l_tableIn 374 C0 dL_law_32 (by decide) (by decide) rfl (by decide) (law_member C0 hK hL hi hW hK1 hE1 hn)
    · exact l_tableIn 407 C0 dL_law_32 (by decide) (by decide) rfl (by decide) (law_room C0 hK hL hi hW hK1 hE1 hn)
    · exact l_tableIn 440 C0 dL_law_32 (by decide) (by decide) rfl (by decide) (law_queue C0 hK hL hi hW hK1 hE1 hn)
    · exact l_tableIn 473 C0 dL_law_32 (by decide) (by decide) rfl (by decide) (law_event C0 hK hL hi hW hK1 hE1 hn)
    · exact l_tableIn 506 C0 dL_law_32 (by decide) (by decide) rfl (by decide) (law_unfairness C0 hK hL hi hW hK1 hE1 hn)
    · exact l_tableIn 519 C0 dL_law_32 (by decide) (by decide) rfl (by decide) (law_foretell C0 hK hL hi hW hK1 hE1 hn)
    · exact l_tableIn 542 C0 dL_law_32 (by decide) (by decide) rfl (by decide) (law_empties C0 hK hL hi hW hK1 hE1 hn)
    · exact l_tableIn 555 C0 dL_law_32 (by decide) (by decide) rfl (by decide) (law_bestQuota C0 hK hL hi hW hK1 hE1 hn)
    · exact l_tableIn 588 C0 dL_law_32 (by decide) (by decide) rfl (by decide) (law_type C0 hK hL hi hW hK1 hE1 hn)
    · exact l_tableIn 611 C0 dL_law_32 (by decide) (by decide) rfl (by decide) (law_clear C0 hK hL hi hW hK1 hE1 hn)
    · exact l_tableIn 624 C0 dL_law_32 (by decide) (by decide) rfl (by decide) (law_run C0 hK hL hi hW hK1 hE1 hn)
    · exact l_tableIn 637 C0 dL_law_32 (by decide) (by decide) rfl (by decide) (law_save C0 hK hL hi hW hK1 hE1 hn)
    · exact l_tableIn 660 C0 dL_law_32 (by decide) (by decide) rfl (by decide) (law_restore C0 hK hL hi hW hK1 hE1 hn)
    · exact l_tableIn 683 C0 dL_law_32 (by decide) (by decide) rfl (by decide) (law_count C0 hK hL hi hW hK1 hE1 hn)
    · exact l_tableIn 706 C0 dL_law_32 (by decide) (by decide) rfl (by decide) (law_digest C0 hK hL hi hW hK1 hE1 hn)
  · refine l_tableOut 720 C0 dL_law_32 (Or.inr ?_) (by decide) (hn σ τ α β κ ρ mm M J (hW.next hK1 hE1 hW.1.more hW.2.1 rfl rfl))
    rw [nI_toInt (by omega)]
    omega
theorem law_loop (C0 : lw_At p s m meth c b Ls xs) (hK : ai_K dC dI cA s) (hL : Ls ≤ 2048) : ∀ (d j : Nat) (σ τ α β : hs_T) (κ : sc_T) (ρ : md_T) (mm : Nat → Int32) (M : Nat → Nat → Int32) (J : Nat → Int64), 512 ≤ j + d → 4 * j ≤ Ls → WI (6000 * j) (200 * j) σ α β κ ρ mm M → LW p l e s m below meth c b dC dI cA 120 3437 18 (lvL s b (4 * j)) [] SF (wM σ τ α β κ (md_put 111 (Rm ρ mm) M)) J := by
  have hend : ∀ (j : Nat) (σ τ α β : hs_T) (κ : sc_T) (ρ : md_T) (mm : Nat → Int32) (M : Nat → Nat → Int32) (J : Nat → Int64), 4 * j ≤ Ls → ¬ 4 * j + 4 ≤ Ls → LW p l e s m below meth c b dC dI cA 120 3437 18 (lvL s b (4 * j)) [] SF (wM σ τ α β κ (md_put 111 (Rm ρ mm) M)) J := by
    intro j σ τ α β κ ρ mm M J hj hno
    have h0 : (0, Value.ref b) ∈ lvL s b (4 * j) := List.mem_of_getElem? (i := 3) rfl
    have h3 : (3, Value.int (nI (4 * j))) ∈ lvL s b (4 * j) := List.mem_of_getElem? (i := 0) rfl
    refine l_iload C0 dL_law_18 rfl h3 ?_
    refine l_aload C0 dL_law_19 rfl h0 ?_
    refine l_slen C0 dL_law_20 ?_
    refine l_iconst (v := nI 4) C0 dL_law_21 rfl ?_
    refine l_isub C0 dL_law_22 ?_
    refine l_icmp_gt (st := []) 726 C0 dL_law_23 (by decide) (fun _ => ?_) (fun z => ?_)
    · refine l_iconst (v := 1) C0 dL_law_726 (by decide) ?_
      exact l_end C0 dL_law_727 (Nat.le_of_ble_eq_true rfl) (Nat.le_of_ble_eq_true rfl)
    · refine absurd ?_ z
      rw [Int32.lt_iff_toInt_lt, pk_sub_toInt (by omega) (by omega), nI_toInt (by omega)]
      omega
  intro d
  induction d with
  | zero =>
    intro j σ τ α β κ ρ mm M J hd hj hW
    exact hend j σ τ α β κ ρ mm M J hj (by omega)
  | succ d ih =>
    intro j σ τ α β κ ρ mm M J hd hj hW
    by_cases hgo : 4 * j + 4 ≤ Ls
    · have h0 : (0, Value.ref b) ∈ lvL s b (4 * j) := List.mem_of_getElem? (i := 3) rfl
      have h3 : (3, Value.int (nI (4 * j))) ∈ lvL s b (4 * j) := List.mem_of_getElem? (i := 0) rfl
      refine l_iload C0 dL_law_18 rfl h3 ?_
      refine l_aload C0 dL_law_19 rfl h0 ?_
      refine l_slen C0 dL_law_20 ?_
      refine l_iconst (v := nI 4) C0 dL_law_21 rfl ?_
      refine l_isub C0 dL_law_22 ?_
      refine l_icmp_gt (st := []) 726 C0 dL_law_23 (by decide) (fun z => ?_) (fun _ => ?_)
      · rw [Int32.lt_iff_toInt_lt, pk_sub_toInt (by omega) (by omega), nI_toInt (by omega)] at z
        omega
      · refine law_body C0 hK hL hgo hW (by omega) (by omega) ?_
        intro σ' τ' α' β' κ' ρ' m' M' J' hW'
        refine l_iinc (j := 0) (v := nI (4 * (j + 1))) C0 dL_law_720 rfl ?_ (by decide) rfl ?_
        · exact nI_add (4 * j) 4
        · refine l_goto 18 C0 dL_law_723 (by decide) ?_
          exact ih (j + 1) σ' τ' α' β' κ' ρ' m' M' J' (by omega) (by omega) hW'
    · exact hend j σ τ α β κ ρ mm M J hj hgo
end LAW2

