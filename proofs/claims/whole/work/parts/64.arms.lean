/-! the arms of the law: each calls both sides with the same values, both answer the same, both go on alike -/
set_option maxHeartbeats 4000000 in
set_option maxRecDepth 100000 in
theorem arm_0 {X : Cx} (hX : XK X RL cL_law 4 2048) {k n N : Nat} {Sh : SM} {I : IM} {J : JM} (hk : k ≤ X.1.2.2.2.1.cells ∧ n ≤ X.1.2.2.2.1.slots) {b L B i : Nat} {xs : Nat → Int32} {F : FS} (S : LSC X b L xs) (hi : i + 5 ≤ L) (hG : GV Sh I J B F) (hM : MV Sh I J (B + 367) F) (kk : ∀ I' J' F', GV Sh I' J' B F' → MV Sh I' J' (B + 367) F' → WX X k n N Sh I' J' 982 [(0, .ref b), (1, .ref B), (2, .ref (B + 367)), (3, .int (nI i))] []) : WX X k n N Sh I J 160 [(0, .ref b), (1, .ref B), (2, .ref (B + 367)), (3, .int (nI i))] [] := by
  refine wa_aload_n hX dL_law_160 rfl ?_
  refine wa_aload_n hX dL_law_161 rfl ?_
  refine wa_iload_n hX dL_law_162 rfl ?_
  refine wa_iconst (v := nI 1) hX dL_law_163 (by decide) ?_
  refine wa_iadd hX dL_law_164 ?_
  refine wl_sld hX S (j := i + 1) (nI_add i 1) (by omega) dL_law_165 ?_
  refine wa_callVI hX (tX6_push _ hG (xs (i + 1))) bX6_push mL_13 (by decide) (by decide) (ci := 5) ⟨by decide, rfl⟩ hG.1.1 rfl rfl (Nat.le_of_ble_eq_true rfl) dL_law_166 (fun r_166 I_166 J_166 q_166 => ?_)
  obtain ⟨e1, hG1, hj1, hi1⟩ := q_166
  have hM1 := hM.ac hj1 hi1
  refine wa_aload_n hX dL_law_169 rfl ?_
  refine wa_aload_n hX dL_law_170 rfl ?_
  refine wa_iload_n hX dL_law_171 rfl ?_
  refine wa_iconst (v := nI 1) hX dL_law_172 (by decide) ?_
  refine wa_iadd hX dL_law_173 ?_
  refine wl_sld hX S (j := i + 1) (nI_add i 1) (by omega) dL_law_174 ?_
  refine wa_vM hX (tX7_push _ hM1 (xs (i + 1))) bX7_push mL_17 (by decide) (by decide) (ci := 6) ⟨by decide, rfl⟩ hM1.1.1 rfl rfl (Nat.le_of_ble_eq_true rfl) dL_law_175 (fun r_175 I_175 q_175 => ?_)
  obtain ⟨e2, hM2, hi2⟩ := q_175
  have hG2 := hG1.am hi2
  refine wa_icmp_eq (tgt := 982) hX dL_law_178 (by decide) (fun c_178 => ?_) (fun c_178 => absurd (e1.trans e2.symm) c_178)
  exact kk _ _ _ hG2 hM2
set_option maxHeartbeats 4000000 in
set_option maxRecDepth 100000 in
theorem arm_1 {X : Cx} (hX : XK X RL cL_law 4 2048) {k n N : Nat} {Sh : SM} {I : IM} {J : JM} (hk : k ≤ X.1.2.2.2.1.cells ∧ n ≤ X.1.2.2.2.1.slots) {b L B i : Nat} {xs : Nat → Int32} {F : FS} (S : LSC X b L xs) (hi : i + 5 ≤ L) (hG : GV Sh I J B F) (hM : MV Sh I J (B + 367) F) (kk : ∀ I' J' F', GV Sh I' J' B F' → MV Sh I' J' (B + 367) F' → WX X k n N Sh I' J' 982 [(0, .ref b), (1, .ref B), (2, .ref (B + 367)), (3, .int (nI i))] []) : WX X k n N Sh I J 183 [(0, .ref b), (1, .ref B), (2, .ref (B + 367)), (3, .int (nI i))] [] := by
  refine wa_aload_n hX dL_law_183 rfl ?_
  refine wa_aload_n hX dL_law_184 rfl ?_
  refine wa_iload_n hX dL_law_185 rfl ?_
  refine wa_iconst (v := nI 1) hX dL_law_186 (by decide) ?_
  refine wa_iadd hX dL_law_187 ?_
  refine wl_sld hX S (j := i + 1) (nI_add i 1) (by omega) dL_law_188 ?_
  refine wa_callVI hX (tX6_pop _ hG (xs (i + 1))) bX6_pop mL_18 (by decide) (by decide) (ci := 5) ⟨by decide, rfl⟩ hG.1.1 rfl rfl (Nat.le_of_ble_eq_true rfl) dL_law_189 (fun r_189 I_189 J_189 q_189 => ?_)
  obtain ⟨e1, hG1, hj1, hi1⟩ := q_189
  have hM1 := hM.ac hj1 hi1
  refine wa_aload_n hX dL_law_192 rfl ?_
  refine wa_aload_n hX dL_law_193 rfl ?_
  refine wa_iload_n hX dL_law_194 rfl ?_
  refine wa_iconst (v := nI 1) hX dL_law_195 (by decide) ?_
  refine wa_iadd hX dL_law_196 ?_
  refine wl_sld hX S (j := i + 1) (nI_add i 1) (by omega) dL_law_197 ?_
  refine wa_vM hX (tX7_pop _ hM1 (xs (i + 1))) bX7_pop mL_21 (by decide) (by decide) (ci := 6) ⟨by decide, rfl⟩ hM1.1.1 rfl rfl (Nat.le_of_ble_eq_true rfl) dL_law_198 (fun r_198 I_198 q_198 => ?_)
  obtain ⟨e2, hM2, hi2⟩ := q_198
  have hG2 := hG1.am hi2
  refine wa_icmp_eq (tgt := 982) hX dL_law_201 (by decide) (fun c_201 => ?_) (fun c_201 => absurd (e1.trans e2.symm) c_201)
  exact kk _ _ _ hG2 hM2
set_option maxHeartbeats 4000000 in
set_option maxRecDepth 100000 in
theorem arm_2 {X : Cx} (hX : XK X RL cL_law 4 2048) {k n N : Nat} {Sh : SM} {I : IM} {J : JM} (hk : k ≤ X.1.2.2.2.1.cells ∧ n ≤ X.1.2.2.2.1.slots) {b L B i : Nat} {xs : Nat → Int32} {F : FS} (S : LSC X b L xs) (hi : i + 5 ≤ L) (hG : GV Sh I J B F) (hM : MV Sh I J (B + 367) F) (kk : ∀ I' J' F', GV Sh I' J' B F' → MV Sh I' J' (B + 367) F' → WX X k n N Sh I' J' 982 [(0, .ref b), (1, .ref B), (2, .ref (B + 367)), (3, .int (nI i))] []) : WX X k n N Sh I J 206 [(0, .ref b), (1, .ref B), (2, .ref (B + 367)), (3, .int (nI i))] [] := by
  refine wa_aload_n hX dL_law_206 rfl ?_
  refine wa_aload_n hX dL_law_207 rfl ?_
  refine wa_iload_n hX dL_law_208 rfl ?_
  refine wa_iconst (v := nI 1) hX dL_law_209 (by decide) ?_
  refine wa_iadd hX dL_law_210 ?_
  refine wl_sld hX S (j := i + 1) (nI_add i 1) (by omega) dL_law_211 ?_
  refine wa_aload_n hX dL_law_212 rfl ?_
  refine wa_iload_n hX dL_law_213 rfl ?_
  refine wa_iconst (v := nI 2) hX dL_law_214 (by decide) ?_
  refine wa_iadd hX dL_law_215 ?_
  refine wl_sld hX S (j := i + 2) (nI_add i 2) (by omega) dL_law_216 ?_
  refine wa_aload_n hX dL_law_217 rfl ?_
  refine wa_iload_n hX dL_law_218 rfl ?_
  refine wa_iconst (v := nI 3) hX dL_law_219 (by decide) ?_
  refine wa_iadd hX dL_law_220 ?_
  refine wl_sld hX S (j := i + 3) (nI_add i 3) (by omega) dL_law_221 ?_
  refine wa_if_eq (tgt := 229) hX dL_law_222 (by decide) (fun c_222 => ?_) (fun c_222 => ?_)
  · skip
    refine wa_iconst (v := nI 0) hX dL_law_229 (by decide) ?_
    refine wa_callVI hX (tX6_turn _ hG (xs (i + 1)) (xs (i + 2)) false) bX6_turn mL_22 (by decide) (by decide) (ci := 5) ⟨by decide, rfl⟩ hG.1.1 rfl rfl (Nat.le_of_ble_eq_true rfl) dL_law_230 (fun r_230 I_230 J_230 q_230 => ?_)
    obtain ⟨e1, hG1, hj1, hi1⟩ := q_230
    have hM1 := hM.ac hj1 hi1
    refine wa_aload_n hX dL_law_233 rfl ?_
    refine wa_aload_n hX dL_law_234 rfl ?_
    refine wa_iload_n hX dL_law_235 rfl ?_
    refine wa_iconst (v := nI 1) hX dL_law_236 (by decide) ?_
    refine wa_iadd hX dL_law_237 ?_
    refine wl_sld hX S (j := i + 1) (nI_add i 1) (by omega) dL_law_238 ?_
    refine wa_aload_n hX dL_law_239 rfl ?_
    refine wa_iload_n hX dL_law_240 rfl ?_
    refine wa_iconst (v := nI 2) hX dL_law_241 (by decide) ?_
    refine wa_iadd hX dL_law_242 ?_
    refine wl_sld hX S (j := i + 2) (nI_add i 2) (by omega) dL_law_243 ?_
    refine wa_aload_n hX dL_law_244 rfl ?_
    refine wa_iload_n hX dL_law_245 rfl ?_
    refine wa_iconst (v := nI 3) hX dL_law_246 (by decide) ?_
    refine wa_iadd hX dL_law_247 ?_
    refine wl_sld hX S (j := i + 3) (nI_add i 3) (by omega) dL_law_248 ?_
    refine wa_if_eq (tgt := 256) hX dL_law_249 (by decide) (fun c_249 => ?_) (fun c_249 => absurd c_222 c_249)
    refine wa_iconst (v := nI 0) hX dL_law_256 (by decide) ?_
    refine wa_vM hX (tX7_turn _ hM1 (xs (i + 1)) (xs (i + 2)) false) bX7_turn mL_26 (by decide) (by decide) (ci := 6) ⟨by decide, rfl⟩ hM1.1.1 rfl rfl (Nat.le_of_ble_eq_true rfl) dL_law_257 (fun r_257 I_257 q_257 => ?_)
    obtain ⟨e2, hM2, hi2⟩ := q_257
    have hG2 := hG1.am hi2
    refine wa_icmp_eq (tgt := 982) hX dL_law_260 (by decide) (fun c_260 => ?_) (fun c_260 => absurd (e1.trans e2.symm) c_260)
    exact kk _ _ _ hG2 hM2
  · skip
    refine wa_iconst (v := nI 1) hX dL_law_225 (by decide) ?_
    refine wa_goto (tgt := 230) hX dL_law_226 (by decide) ?_
    refine wa_callVI hX (tX6_turn _ hG (xs (i + 1)) (xs (i + 2)) true) bX6_turn mL_22 (by decide) (by decide) (ci := 5) ⟨by decide, rfl⟩ hG.1.1 rfl rfl (Nat.le_of_ble_eq_true rfl) dL_law_230 (fun r_230 I_230 J_230 q_230 => ?_)
    obtain ⟨e1, hG1, hj1, hi1⟩ := q_230
    have hM1 := hM.ac hj1 hi1
    refine wa_aload_n hX dL_law_233 rfl ?_
    refine wa_aload_n hX dL_law_234 rfl ?_
    refine wa_iload_n hX dL_law_235 rfl ?_
    refine wa_iconst (v := nI 1) hX dL_law_236 (by decide) ?_
    refine wa_iadd hX dL_law_237 ?_
    refine wl_sld hX S (j := i + 1) (nI_add i 1) (by omega) dL_law_238 ?_
    refine wa_aload_n hX dL_law_239 rfl ?_
    refine wa_iload_n hX dL_law_240 rfl ?_
    refine wa_iconst (v := nI 2) hX dL_law_241 (by decide) ?_
    refine wa_iadd hX dL_law_242 ?_
    refine wl_sld hX S (j := i + 2) (nI_add i 2) (by omega) dL_law_243 ?_
    refine wa_aload_n hX dL_law_244 rfl ?_
    refine wa_iload_n hX dL_law_245 rfl ?_
    refine wa_iconst (v := nI 3) hX dL_law_246 (by decide) ?_
    refine wa_iadd hX dL_law_247 ?_
    refine wl_sld hX S (j := i + 3) (nI_add i 3) (by omega) dL_law_248 ?_
    refine wa_if_eq (tgt := 256) hX dL_law_249 (by decide) (fun c_249 => absurd c_249 c_222) (fun c_249 => ?_)
    refine wa_iconst (v := nI 1) hX dL_law_252 (by decide) ?_
    refine wa_goto (tgt := 257) hX dL_law_253 (by decide) ?_
    refine wa_vM hX (tX7_turn _ hM1 (xs (i + 1)) (xs (i + 2)) true) bX7_turn mL_26 (by decide) (by decide) (ci := 6) ⟨by decide, rfl⟩ hM1.1.1 rfl rfl (Nat.le_of_ble_eq_true rfl) dL_law_257 (fun r_257 I_257 q_257 => ?_)
    obtain ⟨e2, hM2, hi2⟩ := q_257
    have hG2 := hG1.am hi2
    refine wa_icmp_eq (tgt := 982) hX dL_law_260 (by decide) (fun c_260 => ?_) (fun c_260 => absurd (e1.trans e2.symm) c_260)
    exact kk _ _ _ hG2 hM2
set_option maxHeartbeats 4000000 in
set_option maxRecDepth 100000 in
theorem arm_3 {X : Cx} (hX : XK X RL cL_law 4 2048) {k n N : Nat} {Sh : SM} {I : IM} {J : JM} (hk : k ≤ X.1.2.2.2.1.cells ∧ n ≤ X.1.2.2.2.1.slots) {b L B i : Nat} {xs : Nat → Int32} {F : FS} (S : LSC X b L xs) (hi : i + 5 ≤ L) (hG : GV Sh I J B F) (hM : MV Sh I J (B + 367) F) (kk : ∀ I' J' F', GV Sh I' J' B F' → MV Sh I' J' (B + 367) F' → WX X k n N Sh I' J' 982 [(0, .ref b), (1, .ref B), (2, .ref (B + 367)), (3, .int (nI i))] []) : WX X k n N Sh I J 265 [(0, .ref b), (1, .ref B), (2, .ref (B + 367)), (3, .int (nI i))] [] := by
  refine wa_aload_n hX dL_law_265 rfl ?_
  refine wa_aload_n hX dL_law_266 rfl ?_
  refine wa_iload_n hX dL_law_267 rfl ?_
  refine wa_iconst (v := nI 1) hX dL_law_268 (by decide) ?_
  refine wa_iadd hX dL_law_269 ?_
  refine wl_sld hX S (j := i + 1) (nI_add i 1) (by omega) dL_law_270 ?_
  refine wa_aload_n hX dL_law_271 rfl ?_
  refine wa_iload_n hX dL_law_272 rfl ?_
  refine wa_iconst (v := nI 2) hX dL_law_273 (by decide) ?_
  refine wa_iadd hX dL_law_274 ?_
  refine wl_sld hX S (j := i + 2) (nI_add i 2) (by omega) dL_law_275 ?_
  refine wa_aload_n hX dL_law_276 rfl ?_
  refine wa_iload_n hX dL_law_277 rfl ?_
  refine wa_iconst (v := nI 3) hX dL_law_278 (by decide) ?_
  refine wa_iadd hX dL_law_279 ?_
  refine wl_sld hX S (j := i + 3) (nI_add i 3) (by omega) dL_law_280 ?_
  refine wa_callVI hX (tX6_lift _ hG (xs (i + 1)) (xs (i + 2)) (xs (i + 3))) bX6_lift mL_27 (by decide) (by decide) (ci := 5) ⟨by decide, rfl⟩ hG.1.1 rfl rfl (Nat.le_of_ble_eq_true rfl) dL_law_281 (fun r_281 I_281 J_281 q_281 => ?_)
  obtain ⟨e1, hG1, hj1, hi1⟩ := q_281
  have hM1 := hM.ac hj1 hi1
  refine wa_aload_n hX dL_law_284 rfl ?_
  refine wa_aload_n hX dL_law_285 rfl ?_
  refine wa_iload_n hX dL_law_286 rfl ?_
  refine wa_iconst (v := nI 1) hX dL_law_287 (by decide) ?_
  refine wa_iadd hX dL_law_288 ?_
  refine wl_sld hX S (j := i + 1) (nI_add i 1) (by omega) dL_law_289 ?_
  refine wa_aload_n hX dL_law_290 rfl ?_
  refine wa_iload_n hX dL_law_291 rfl ?_
  refine wa_iconst (v := nI 2) hX dL_law_292 (by decide) ?_
  refine wa_iadd hX dL_law_293 ?_
  refine wl_sld hX S (j := i + 2) (nI_add i 2) (by omega) dL_law_294 ?_
  refine wa_aload_n hX dL_law_295 rfl ?_
  refine wa_iload_n hX dL_law_296 rfl ?_
  refine wa_iconst (v := nI 3) hX dL_law_297 (by decide) ?_
  refine wa_iadd hX dL_law_298 ?_
  refine wl_sld hX S (j := i + 3) (nI_add i 3) (by omega) dL_law_299 ?_
  refine wa_vM hX (tX7_lift _ hM1 (xs (i + 1)) (xs (i + 2)) (xs (i + 3))) bX7_lift mL_31 (by decide) (by decide) (ci := 6) ⟨by decide, rfl⟩ hM1.1.1 rfl rfl (Nat.le_of_ble_eq_true rfl) dL_law_300 (fun r_300 I_300 q_300 => ?_)
  obtain ⟨e2, hM2, hi2⟩ := q_300
  have hG2 := hG1.am hi2
  refine wa_icmp_eq (tgt := 982) hX dL_law_303 (by decide) (fun c_303 => ?_) (fun c_303 => absurd (e1.trans e2.symm) c_303)
  exact kk _ _ _ hG2 hM2
set_option maxHeartbeats 4000000 in
set_option maxRecDepth 100000 in
theorem arm_4 {X : Cx} (hX : XK X RL cL_law 4 2048) {k n N : Nat} {Sh : SM} {I : IM} {J : JM} (hk : k ≤ X.1.2.2.2.1.cells ∧ n ≤ X.1.2.2.2.1.slots) {b L B i : Nat} {xs : Nat → Int32} {F : FS} (S : LSC X b L xs) (hi : i + 5 ≤ L) (hG : GV Sh I J B F) (hM : MV Sh I J (B + 367) F) (kk : ∀ I' J' F', GV Sh I' J' B F' → MV Sh I' J' (B + 367) F' → WX X k n N Sh I' J' 982 [(0, .ref b), (1, .ref B), (2, .ref (B + 367)), (3, .int (nI i))] []) : WX X k n N Sh I J 308 [(0, .ref b), (1, .ref B), (2, .ref (B + 367)), (3, .int (nI i))] [] := by
  refine wa_aload_n hX dL_law_308 rfl ?_
  refine wa_aload_n hX dL_law_309 rfl ?_
  refine wa_iload_n hX dL_law_310 rfl ?_
  refine wa_iconst (v := nI 1) hX dL_law_311 (by decide) ?_
  refine wa_iadd hX dL_law_312 ?_
  refine wl_sld hX S (j := i + 1) (nI_add i 1) (by omega) dL_law_313 ?_
  refine wa_aload_n hX dL_law_314 rfl ?_
  refine wa_iload_n hX dL_law_315 rfl ?_
  refine wa_iconst (v := nI 2) hX dL_law_316 (by decide) ?_
  refine wa_iadd hX dL_law_317 ?_
  refine wl_sld hX S (j := i + 2) (nI_add i 2) (by omega) dL_law_318 ?_
  refine wa_aload_n hX dL_law_319 rfl ?_
  refine wa_iload_n hX dL_law_320 rfl ?_
  refine wa_iconst (v := nI 3) hX dL_law_321 (by decide) ?_
  refine wa_iadd hX dL_law_322 ?_
  refine wl_sld hX S (j := i + 3) (nI_add i 3) (by omega) dL_law_323 ?_
  refine wa_aload_n hX dL_law_324 rfl ?_
  refine wa_iload_n hX dL_law_325 rfl ?_
  refine wa_iconst (v := nI 4) hX dL_law_326 (by decide) ?_
  refine wa_iadd hX dL_law_327 ?_
  refine wl_sld hX S (j := i + 4) (nI_add i 4) (by omega) dL_law_328 ?_
  refine wa_callVI hX (tX6_setEntry _ hG (xs (i + 1)) (xs (i + 2)) (xs (i + 3)) (xs (i + 4))) bX6_setEntry mL_32 (by decide) (by decide) (ci := 5) ⟨by decide, rfl⟩ hG.1.1 rfl rfl (Nat.le_of_ble_eq_true rfl) dL_law_329 (fun r_329 I_329 J_329 q_329 => ?_)
  obtain ⟨e1, hG1, hj1, hi1⟩ := q_329
  have hM1 := hM.ac hj1 hi1
  refine wa_aload_n hX dL_law_332 rfl ?_
  refine wa_aload_n hX dL_law_333 rfl ?_
  refine wa_iload_n hX dL_law_334 rfl ?_
  refine wa_iconst (v := nI 1) hX dL_law_335 (by decide) ?_
  refine wa_iadd hX dL_law_336 ?_
  refine wl_sld hX S (j := i + 1) (nI_add i 1) (by omega) dL_law_337 ?_
  refine wa_aload_n hX dL_law_338 rfl ?_
  refine wa_iload_n hX dL_law_339 rfl ?_
  refine wa_iconst (v := nI 2) hX dL_law_340 (by decide) ?_
  refine wa_iadd hX dL_law_341 ?_
  refine wl_sld hX S (j := i + 2) (nI_add i 2) (by omega) dL_law_342 ?_
  refine wa_aload_n hX dL_law_343 rfl ?_
  refine wa_iload_n hX dL_law_344 rfl ?_
  refine wa_iconst (v := nI 3) hX dL_law_345 (by decide) ?_
  refine wa_iadd hX dL_law_346 ?_
  refine wl_sld hX S (j := i + 3) (nI_add i 3) (by omega) dL_law_347 ?_
  refine wa_aload_n hX dL_law_348 rfl ?_
  refine wa_iload_n hX dL_law_349 rfl ?_
  refine wa_iconst (v := nI 4) hX dL_law_350 (by decide) ?_
  refine wa_iadd hX dL_law_351 ?_
  refine wl_sld hX S (j := i + 4) (nI_add i 4) (by omega) dL_law_352 ?_
  refine wa_vM hX (tX7_setEntry _ hM1 (xs (i + 1)) (xs (i + 2)) (xs (i + 3)) (xs (i + 4))) bX7_setEntry mL_36 (by decide) (by decide) (ci := 6) ⟨by decide, rfl⟩ hM1.1.1 rfl rfl (Nat.le_of_ble_eq_true rfl) dL_law_353 (fun r_353 I_353 q_353 => ?_)
  obtain ⟨e2, hM2, hi2⟩ := q_353
  have hG2 := hG1.am hi2
  refine wa_icmp_eq (tgt := 982) hX dL_law_356 (by decide) (fun c_356 => ?_) (fun c_356 => absurd (e1.trans e2.symm) c_356)
  exact kk _ _ _ hG2 hM2
set_option maxHeartbeats 4000000 in
set_option maxRecDepth 100000 in
theorem arm_5 {X : Cx} (hX : XK X RL cL_law 4 2048) {k n N : Nat} {Sh : SM} {I : IM} {J : JM} (hk : k ≤ X.1.2.2.2.1.cells ∧ n ≤ X.1.2.2.2.1.slots) {b L B i : Nat} {xs : Nat → Int32} {F : FS} (S : LSC X b L xs) (hi : i + 5 ≤ L) (hG : GV Sh I J B F) (hM : MV Sh I J (B + 367) F) (kk : ∀ I' J' F', GV Sh I' J' B F' → MV Sh I' J' (B + 367) F' → WX X k n N Sh I' J' 982 [(0, .ref b), (1, .ref B), (2, .ref (B + 367)), (3, .int (nI i))] []) : WX X k n N Sh I J 361 [(0, .ref b), (1, .ref B), (2, .ref (B + 367)), (3, .int (nI i))] [] := by
  refine wa_aload_n hX dL_law_361 rfl ?_
  refine wa_aload_n hX dL_law_362 rfl ?_
  refine wa_iload_n hX dL_law_363 rfl ?_
  refine wa_iconst (v := nI 1) hX dL_law_364 (by decide) ?_
  refine wa_iadd hX dL_law_365 ?_
  refine wl_sld hX S (j := i + 1) (nI_add i 1) (by omega) dL_law_366 ?_
  refine wa_callVI hX (tX6_flatten _ hG (xs (i + 1))) bX6_flatten mL_37 (by decide) (by decide) (ci := 5) ⟨by decide, rfl⟩ hG.1.1 rfl rfl (Nat.le_of_ble_eq_true rfl) dL_law_367 (fun r_367 I_367 J_367 q_367 => ?_)
  obtain ⟨e1, hG1, hj1, hi1⟩ := q_367
  have hM1 := hM.ac hj1 hi1
  refine wa_aload_n hX dL_law_370 rfl ?_
  refine wa_aload_n hX dL_law_371 rfl ?_
  refine wa_iload_n hX dL_law_372 rfl ?_
  refine wa_iconst (v := nI 1) hX dL_law_373 (by decide) ?_
  refine wa_iadd hX dL_law_374 ?_
  refine wl_sld hX S (j := i + 1) (nI_add i 1) (by omega) dL_law_375 ?_
  refine wa_vM hX (tX7_flatten _ hM1 (xs (i + 1))) bX7_flatten mL_40 (by decide) (by decide) (ci := 6) ⟨by decide, rfl⟩ hM1.1.1 rfl rfl (Nat.le_of_ble_eq_true rfl) dL_law_376 (fun r_376 I_376 q_376 => ?_)
  obtain ⟨e2, hM2, hi2⟩ := q_376
  have hG2 := hG1.am hi2
  refine wa_icmp_eq (tgt := 982) hX dL_law_379 (by decide) (fun c_379 => ?_) (fun c_379 => absurd (e1.trans e2.symm) c_379)
  exact kk _ _ _ hG2 hM2
set_option maxHeartbeats 4000000 in
set_option maxRecDepth 100000 in
theorem arm_6 {X : Cx} (hX : XK X RL cL_law 4 2048) {k n N : Nat} {Sh : SM} {I : IM} {J : JM} (hk : k ≤ X.1.2.2.2.1.cells ∧ n ≤ X.1.2.2.2.1.slots) {b L B i : Nat} {xs : Nat → Int32} {F : FS} (S : LSC X b L xs) (hi : i + 5 ≤ L) (hG : GV Sh I J B F) (hM : MV Sh I J (B + 367) F) (kk : ∀ I' J' F', GV Sh I' J' B F' → MV Sh I' J' (B + 367) F' → WX X k n N Sh I' J' 982 [(0, .ref b), (1, .ref B), (2, .ref (B + 367)), (3, .int (nI i))] []) : WX X k n N Sh I J 384 [(0, .ref b), (1, .ref B), (2, .ref (B + 367)), (3, .int (nI i))] [] := by
  refine wa_aload_n hX dL_law_384 rfl ?_
  refine wa_callVI hX (tX6_assign _ hG ) bX6_assign mL_41 (by decide) (by decide) (ci := 5) ⟨by decide, rfl⟩ hG.1.1 rfl rfl (Nat.le_of_ble_eq_true rfl) dL_law_385 (fun r_385 I_385 J_385 q_385 => ?_)
  obtain ⟨e1, hG1, hj1, hi1⟩ := q_385
  have hM1 := hM.ac hj1 hi1
  refine wa_aload_n hX dL_law_388 rfl ?_
  refine wa_vM hX (tX7_assign _ hM1 ) bX7_assign mL_45 (by decide) (by decide) (ci := 6) ⟨by decide, rfl⟩ hM1.1.1 rfl rfl (Nat.le_of_ble_eq_true rfl) dL_law_389 (fun r_389 I_389 q_389 => ?_)
  obtain ⟨e2, hM2, hi2⟩ := q_389
  have hG2 := hG1.am hi2
  refine wa_icmp_eq (tgt := 982) hX dL_law_392 (by decide) (fun c_392 => ?_) (fun c_392 => absurd (e1.trans e2.symm) c_392)
  exact kk _ _ _ hG2 hM2
set_option maxHeartbeats 4000000 in
set_option maxRecDepth 100000 in
theorem arm_7 {X : Cx} (hX : XK X RL cL_law 4 2048) {k n N : Nat} {Sh : SM} {I : IM} {J : JM} (hk : k ≤ X.1.2.2.2.1.cells ∧ n ≤ X.1.2.2.2.1.slots) {b L B i : Nat} {xs : Nat → Int32} {F : FS} (S : LSC X b L xs) (hi : i + 5 ≤ L) (hG : GV Sh I J B F) (hM : MV Sh I J (B + 367) F) (kk : ∀ I' J' F', GV Sh I' J' B F' → MV Sh I' J' (B + 367) F' → WX X k n N Sh I' J' 982 [(0, .ref b), (1, .ref B), (2, .ref (B + 367)), (3, .int (nI i))] []) : WX X k n N Sh I J 397 [(0, .ref b), (1, .ref B), (2, .ref (B + 367)), (3, .int (nI i))] [] := by
  refine wa_aload_n hX dL_law_397 rfl ?_
  refine wa_aload_n hX dL_law_398 rfl ?_
  refine wa_iload_n hX dL_law_399 rfl ?_
  refine wa_iconst (v := nI 1) hX dL_law_400 (by decide) ?_
  refine wa_iadd hX dL_law_401 ?_
  refine wl_sld hX S (j := i + 1) (nI_add i 1) (by omega) dL_law_402 ?_
  refine wa_callVI hX (tX6_setRule _ hG (xs (i + 1))) bX6_setRule mL_46 (by decide) (by decide) (ci := 5) ⟨by decide, rfl⟩ hG.1.1 rfl rfl (Nat.le_of_ble_eq_true rfl) dL_law_403 (fun r_403 I_403 J_403 q_403 => ?_)
  obtain ⟨e1, hG1, hj1, hi1⟩ := q_403
  have hM1 := hM.ac hj1 hi1
  refine wa_aload_n hX dL_law_406 rfl ?_
  refine wa_aload_n hX dL_law_407 rfl ?_
  refine wa_iload_n hX dL_law_408 rfl ?_
  refine wa_iconst (v := nI 1) hX dL_law_409 (by decide) ?_
  refine wa_iadd hX dL_law_410 ?_
  refine wl_sld hX S (j := i + 1) (nI_add i 1) (by omega) dL_law_411 ?_
  refine wa_vM hX (tX7_setRule _ hM1 (xs (i + 1))) bX7_setRule mL_49 (by decide) (by decide) (ci := 6) ⟨by decide, rfl⟩ hM1.1.1 rfl rfl (Nat.le_of_ble_eq_true rfl) dL_law_412 (fun r_412 I_412 q_412 => ?_)
  obtain ⟨e2, hM2, hi2⟩ := q_412
  have hG2 := hG1.am hi2
  refine wa_icmp_eq (tgt := 982) hX dL_law_415 (by decide) (fun c_415 => ?_) (fun c_415 => absurd (e1.trans e2.symm) c_415)
  exact kk _ _ _ hG2 hM2
set_option maxHeartbeats 4000000 in
set_option maxRecDepth 100000 in
theorem arm_8 {X : Cx} (hX : XK X RL cL_law 4 2048) {k n N : Nat} {Sh : SM} {I : IM} {J : JM} (hk : k ≤ X.1.2.2.2.1.cells ∧ n ≤ X.1.2.2.2.1.slots) {b L B i : Nat} {xs : Nat → Int32} {F : FS} (S : LSC X b L xs) (hi : i + 5 ≤ L) (hG : GV Sh I J B F) (hM : MV Sh I J (B + 367) F) (kk : ∀ I' J' F', GV Sh I' J' B F' → MV Sh I' J' (B + 367) F' → WX X k n N Sh I' J' 982 [(0, .ref b), (1, .ref B), (2, .ref (B + 367)), (3, .int (nI i))] []) : WX X k n N Sh I J 420 [(0, .ref b), (1, .ref B), (2, .ref (B + 367)), (3, .int (nI i))] [] := by
  refine wa_aload_n hX dL_law_420 rfl ?_
  refine wa_aload_n hX dL_law_421 rfl ?_
  refine wa_iload_n hX dL_law_422 rfl ?_
  refine wa_iconst (v := nI 1) hX dL_law_423 (by decide) ?_
  refine wa_iadd hX dL_law_424 ?_
  refine wl_sld hX S (j := i + 1) (nI_add i 1) (by omega) dL_law_425 ?_
  refine wa_aload_n hX dL_law_426 rfl ?_
  refine wa_iload_n hX dL_law_427 rfl ?_
  refine wa_iconst (v := nI 2) hX dL_law_428 (by decide) ?_
  refine wa_iadd hX dL_law_429 ?_
  refine wl_sld hX S (j := i + 2) (nI_add i 2) (by omega) dL_law_430 ?_
  refine wa_callVI hX (tX6_hide _ hG (xs (i + 1)) (xs (i + 2))) bX6_hide mL_50 (by decide) (by decide) (ci := 5) ⟨by decide, rfl⟩ hG.1.1 rfl rfl (Nat.le_of_ble_eq_true rfl) dL_law_431 (fun r_431 I_431 J_431 q_431 => ?_)
  obtain ⟨e1, hG1, hj1, hi1⟩ := q_431
  have hM1 := hM.ac hj1 hi1
  refine wa_aload_n hX dL_law_434 rfl ?_
  refine wa_aload_n hX dL_law_435 rfl ?_
  refine wa_iload_n hX dL_law_436 rfl ?_
  refine wa_iconst (v := nI 1) hX dL_law_437 (by decide) ?_
  refine wa_iadd hX dL_law_438 ?_
  refine wl_sld hX S (j := i + 1) (nI_add i 1) (by omega) dL_law_439 ?_
  refine wa_aload_n hX dL_law_440 rfl ?_
  refine wa_iload_n hX dL_law_441 rfl ?_
  refine wa_iconst (v := nI 2) hX dL_law_442 (by decide) ?_
  refine wa_iadd hX dL_law_443 ?_
  refine wl_sld hX S (j := i + 2) (nI_add i 2) (by omega) dL_law_444 ?_
  refine wa_vM hX (tX7_hide _ hM1 (xs (i + 1)) (xs (i + 2))) bX7_hide mL_54 (by decide) (by decide) (ci := 6) ⟨by decide, rfl⟩ hM1.1.1 rfl rfl (Nat.le_of_ble_eq_true rfl) dL_law_445 (fun r_445 I_445 q_445 => ?_)
  obtain ⟨e2, hM2, hi2⟩ := q_445
  have hG2 := hG1.am hi2
  refine wa_icmp_eq (tgt := 982) hX dL_law_448 (by decide) (fun c_448 => ?_) (fun c_448 => absurd (e1.trans e2.symm) c_448)
  exact kk _ _ _ hG2 hM2
set_option maxHeartbeats 4000000 in
set_option maxRecDepth 100000 in
theorem arm_9 {X : Cx} (hX : XK X RL cL_law 4 2048) {k n N : Nat} {Sh : SM} {I : IM} {J : JM} (hk : k ≤ X.1.2.2.2.1.cells ∧ n ≤ X.1.2.2.2.1.slots) {b L B i : Nat} {xs : Nat → Int32} {F : FS} (S : LSC X b L xs) (hi : i + 5 ≤ L) (hG : GV Sh I J B F) (hM : MV Sh I J (B + 367) F) (kk : ∀ I' J' F', GV Sh I' J' B F' → MV Sh I' J' (B + 367) F' → WX X k n N Sh I' J' 982 [(0, .ref b), (1, .ref B), (2, .ref (B + 367)), (3, .int (nI i))] []) : WX X k n N Sh I J 453 [(0, .ref b), (1, .ref B), (2, .ref (B + 367)), (3, .int (nI i))] [] := by
  refine wa_aload_n hX dL_law_453 rfl ?_
  refine wa_aload_n hX dL_law_454 rfl ?_
  refine wa_iload_n hX dL_law_455 rfl ?_
  refine wa_iconst (v := nI 1) hX dL_law_456 (by decide) ?_
  refine wa_iadd hX dL_law_457 ?_
  refine wl_sld hX S (j := i + 1) (nI_add i 1) (by omega) dL_law_458 ?_
  refine wa_callVI hX (tX6_ask _ hG (xs (i + 1))) bX6_ask mL_55 (by decide) (by decide) (ci := 5) ⟨by decide, rfl⟩ hG.1.1 rfl rfl (Nat.le_of_ble_eq_true rfl) dL_law_459 (fun r_459 I_459 J_459 q_459 => ?_)
  obtain ⟨e1, hG1, hj1, hi1⟩ := q_459
  have hM1 := hM.ac hj1 hi1
  refine wa_aload_n hX dL_law_462 rfl ?_
  refine wa_aload_n hX dL_law_463 rfl ?_
  refine wa_iload_n hX dL_law_464 rfl ?_
  refine wa_iconst (v := nI 1) hX dL_law_465 (by decide) ?_
  refine wa_iadd hX dL_law_466 ?_
  refine wl_sld hX S (j := i + 1) (nI_add i 1) (by omega) dL_law_467 ?_
  refine wa_vM hX (tX7_ask _ hM1 (xs (i + 1))) bX7_ask mL_58 (by decide) (by decide) (ci := 6) ⟨by decide, rfl⟩ hM1.1.1 rfl rfl (Nat.le_of_ble_eq_true rfl) dL_law_468 (fun r_468 I_468 q_468 => ?_)
  obtain ⟨e2, hM2, hi2⟩ := q_468
  have hG2 := hG1.am hi2
  refine wa_icmp_eq (tgt := 982) hX dL_law_471 (by decide) (fun c_471 => ?_) (fun c_471 => absurd (e1.trans e2.symm) c_471)
  exact kk _ _ _ hG2 hM2
set_option maxHeartbeats 4000000 in
set_option maxRecDepth 100000 in
theorem arm_10 {X : Cx} (hX : XK X RL cL_law 4 2048) {k n N : Nat} {Sh : SM} {I : IM} {J : JM} (hk : k ≤ X.1.2.2.2.1.cells ∧ n ≤ X.1.2.2.2.1.slots) {b L B i : Nat} {xs : Nat → Int32} {F : FS} (S : LSC X b L xs) (hi : i + 5 ≤ L) (hG : GV Sh I J B F) (hM : MV Sh I J (B + 367) F) (kk : ∀ I' J' F', GV Sh I' J' B F' → MV Sh I' J' (B + 367) F' → WX X k n N Sh I' J' 982 [(0, .ref b), (1, .ref B), (2, .ref (B + 367)), (3, .int (nI i))] []) : WX X k n N Sh I J 476 [(0, .ref b), (1, .ref B), (2, .ref (B + 367)), (3, .int (nI i))] [] := by
  refine wa_aload_n hX dL_law_476 rfl ?_
  refine wa_aload_n hX dL_law_477 rfl ?_
  refine wa_iload_n hX dL_law_478 rfl ?_
  refine wa_iconst (v := nI 1) hX dL_law_479 (by decide) ?_
  refine wa_iadd hX dL_law_480 ?_
  refine wl_sld hX S (j := i + 1) (nI_add i 1) (by omega) dL_law_481 ?_
  refine wa_i2c hX dL_law_482 (i2c_nI _) ?_
  refine wa_callVI hX (tX6_type _ hG (i2c_lt (xs (i + 1)))) bX6_type mL_59 (by decide) (by decide) (ci := 5) ⟨by decide, rfl⟩ hG.1.1 rfl rfl (Nat.le_of_ble_eq_true rfl) dL_law_483 (fun r_483 I_483 J_483 q_483 => ?_)
  obtain ⟨e1, hG1, hj1, hi1⟩ := q_483
  have hM1 := hM.ac hj1 hi1
  refine wa_aload_n hX dL_law_486 rfl ?_
  refine wa_aload_n hX dL_law_487 rfl ?_
  refine wa_iload_n hX dL_law_488 rfl ?_
  refine wa_iconst (v := nI 1) hX dL_law_489 (by decide) ?_
  refine wa_iadd hX dL_law_490 ?_
  refine wl_sld hX S (j := i + 1) (nI_add i 1) (by omega) dL_law_491 ?_
  refine wa_i2c hX dL_law_492 (i2c_nI _) ?_
  refine wa_vM hX (tX7_type _ hM1 (i2c_lt (xs (i + 1)))) bX7_type mL_63 (by decide) (by decide) (ci := 6) ⟨by decide, rfl⟩ hM1.1.1 rfl rfl (Nat.le_of_ble_eq_true rfl) dL_law_493 (fun r_493 I_493 q_493 => ?_)
  obtain ⟨e2, hM2, hi2⟩ := q_493
  have hG2 := hG1.am hi2
  refine wa_icmp_eq (tgt := 982) hX dL_law_496 (by decide) (fun c_496 => ?_) (fun c_496 => absurd (e1.trans e2.symm) c_496)
  exact kk _ _ _ hG2 hM2
set_option maxHeartbeats 4000000 in
set_option maxRecDepth 100000 in
theorem arm_11 {X : Cx} (hX : XK X RL cL_law 4 2048) {k n N : Nat} {Sh : SM} {I : IM} {J : JM} (hk : k ≤ X.1.2.2.2.1.cells ∧ n ≤ X.1.2.2.2.1.slots) {b L B i : Nat} {xs : Nat → Int32} {F : FS} (S : LSC X b L xs) (hi : i + 5 ≤ L) (hG : GV Sh I J B F) (hM : MV Sh I J (B + 367) F) (kk : ∀ I' J' F', GV Sh I' J' B F' → MV Sh I' J' (B + 367) F' → WX X k n N Sh I' J' 982 [(0, .ref b), (1, .ref B), (2, .ref (B + 367)), (3, .int (nI i))] []) : WX X k n N Sh I J 501 [(0, .ref b), (1, .ref B), (2, .ref (B + 367)), (3, .int (nI i))] [] := by
  refine wa_aload_n hX dL_law_501 rfl ?_
  refine wa_callVI hX (tX6_clearText _ hG ) bX6_clearText mL_64 (by decide) (by decide) (ci := 5) ⟨by decide, rfl⟩ hG.1.1 rfl rfl (Nat.le_of_ble_eq_true rfl) dL_law_502 (fun r_502 I_502 J_502 q_502 => ?_)
  obtain ⟨e1, hG1, hj1, hi1⟩ := q_502
  have hM1 := hM.ac hj1 hi1
  refine wa_aload_n hX dL_law_505 rfl ?_
  refine wa_vM hX (tX7_clearText _ hM1 ) bX7_clearText mL_67 (by decide) (by decide) (ci := 6) ⟨by decide, rfl⟩ hM1.1.1 rfl rfl (Nat.le_of_ble_eq_true rfl) dL_law_506 (fun r_506 I_506 q_506 => ?_)
  obtain ⟨e2, hM2, hi2⟩ := q_506
  have hG2 := hG1.am hi2
  refine wa_icmp_eq (tgt := 982) hX dL_law_509 (by decide) (fun c_509 => ?_) (fun c_509 => absurd (e1.trans e2.symm) c_509)
  exact kk _ _ _ hG2 hM2
set_option maxHeartbeats 4000000 in
set_option maxRecDepth 100000 in
theorem arm_12 {X : Cx} (hX : XK X RL cL_law 4 2048) {k n N : Nat} {Sh : SM} {I : IM} {J : JM} (hk : k ≤ X.1.2.2.2.1.cells ∧ n ≤ X.1.2.2.2.1.slots) {b L B i : Nat} {xs : Nat → Int32} {F : FS} (S : LSC X b L xs) (hi : i + 5 ≤ L) (hG : GV Sh I J B F) (hM : MV Sh I J (B + 367) F) (kk : ∀ I' J' F', GV Sh I' J' B F' → MV Sh I' J' (B + 367) F' → WX X k n N Sh I' J' 982 [(0, .ref b), (1, .ref B), (2, .ref (B + 367)), (3, .int (nI i))] []) : WX X k n N Sh I J 514 [(0, .ref b), (1, .ref B), (2, .ref (B + 367)), (3, .int (nI i))] [] := by
  refine wa_aload_n hX dL_law_514 rfl ?_
  refine wa_callVI hX (tX6_undo _ hG ) bX6_undo mL_68 (by decide) (by decide) (ci := 5) ⟨by decide, rfl⟩ hG.1.1 rfl rfl (Nat.le_of_ble_eq_true rfl) dL_law_515 (fun r_515 I_515 J_515 q_515 => ?_)
  obtain ⟨e1, hG1, hj1, hi1⟩ := q_515
  have hM1 := hM.ac hj1 hi1
  refine wa_aload_n hX dL_law_518 rfl ?_
  refine wa_vM hX (tX7_undo _ hM1 ) bX7_undo mL_71 (by decide) (by decide) (ci := 6) ⟨by decide, rfl⟩ hM1.1.1 rfl rfl (Nat.le_of_ble_eq_true rfl) dL_law_519 (fun r_519 I_519 q_519 => ?_)
  obtain ⟨e2, hM2, hi2⟩ := q_519
  have hG2 := hG1.am hi2
  refine wa_icmp_eq (tgt := 982) hX dL_law_522 (by decide) (fun c_522 => ?_) (fun c_522 => absurd (e1.trans e2.symm) c_522)
  exact kk _ _ _ hG2 hM2
set_option maxHeartbeats 4000000 in
set_option maxRecDepth 100000 in
theorem arm_13 {X : Cx} (hX : XK X RL cL_law 4 2048) {k n N : Nat} {Sh : SM} {I : IM} {J : JM} (hk : k ≤ X.1.2.2.2.1.cells ∧ n ≤ X.1.2.2.2.1.slots) {b L B i : Nat} {xs : Nat → Int32} {F : FS} (S : LSC X b L xs) (hi : i + 5 ≤ L) (hG : GV Sh I J B F) (hM : MV Sh I J (B + 367) F) (kk : ∀ I' J' F', GV Sh I' J' B F' → MV Sh I' J' (B + 367) F' → WX X k n N Sh I' J' 982 [(0, .ref b), (1, .ref B), (2, .ref (B + 367)), (3, .int (nI i))] []) : WX X k n N Sh I J 527 [(0, .ref b), (1, .ref B), (2, .ref (B + 367)), (3, .int (nI i))] [] := by
  refine wa_aload_n hX dL_law_527 rfl ?_
  refine wa_callVI hX (tX6_keep _ hG ) bX6_keep mL_72 (by decide) (by decide) (ci := 5) ⟨by decide, rfl⟩ hG.1.1 rfl rfl (Nat.le_of_ble_eq_true rfl) dL_law_528 (fun r_528 I_528 J_528 q_528 => ?_)
  obtain ⟨e1, hG1, hj1, hi1⟩ := q_528
  have hM1 := hM.ac hj1 hi1
  refine wa_aload_n hX dL_law_531 rfl ?_
  refine wa_vM hX (tX7_keep _ hM1 ) bX7_keep mL_75 (by decide) (by decide) (ci := 6) ⟨by decide, rfl⟩ hM1.1.1 rfl rfl (Nat.le_of_ble_eq_true rfl) dL_law_532 (fun r_532 I_532 q_532 => ?_)
  obtain ⟨e2, hM2, hi2⟩ := q_532
  have hG2 := hG1.am hi2
  refine wa_icmp_eq (tgt := 982) hX dL_law_535 (by decide) (fun c_535 => ?_) (fun c_535 => absurd (e1.trans e2.symm) c_535)
  exact kk _ _ _ hG2 hM2
set_option maxHeartbeats 4000000 in
set_option maxRecDepth 100000 in
theorem arm_14 {X : Cx} (hX : XK X RL cL_law 4 2048) {k n N : Nat} {Sh : SM} {I : IM} {J : JM} (hk : k ≤ X.1.2.2.2.1.cells ∧ n ≤ X.1.2.2.2.1.slots) {b L B i : Nat} {xs : Nat → Int32} {F : FS} (S : LSC X b L xs) (hi : i + 5 ≤ L) (hG : GV Sh I J B F) (hM : MV Sh I J (B + 367) F) (kk : ∀ I' J' F', GV Sh I' J' B F' → MV Sh I' J' (B + 367) F' → WX X k n N Sh I' J' 982 [(0, .ref b), (1, .ref B), (2, .ref (B + 367)), (3, .int (nI i))] []) : WX X k n N Sh I J 540 [(0, .ref b), (1, .ref B), (2, .ref (B + 367)), (3, .int (nI i))] [] := by
  refine wa_aload_n hX dL_law_540 rfl ?_
  refine wa_callVI hX (tX6_restore _ hG ) bX6_restore mL_76 (by decide) (by decide) (ci := 5) ⟨by decide, rfl⟩ hG.1.1 rfl rfl (Nat.le_of_ble_eq_true rfl) dL_law_541 (fun r_541 I_541 J_541 q_541 => ?_)
  obtain ⟨e1, hG1, hj1, hi1⟩ := q_541
  have hM1 := hM.ac hj1 hi1
  refine wa_aload_n hX dL_law_544 rfl ?_
  refine wa_vM hX (tX7_restore _ hM1 ) bX7_restore mL_79 (by decide) (by decide) (ci := 6) ⟨by decide, rfl⟩ hM1.1.1 rfl rfl (Nat.le_of_ble_eq_true rfl) dL_law_545 (fun r_545 I_545 q_545 => ?_)
  obtain ⟨e2, hM2, hi2⟩ := q_545
  have hG2 := hG1.am hi2
  refine wa_icmp_eq (tgt := 982) hX dL_law_548 (by decide) (fun c_548 => ?_) (fun c_548 => absurd (e1.trans e2.symm) c_548)
  exact kk _ _ _ hG2 hM2
set_option maxHeartbeats 4000000 in
set_option maxRecDepth 100000 in
theorem arm_15 {X : Cx} (hX : XK X RL cL_law 4 2048) {k n N : Nat} {Sh : SM} {I : IM} {J : JM} (hk : k ≤ X.1.2.2.2.1.cells ∧ n ≤ X.1.2.2.2.1.slots) {b L B i : Nat} {xs : Nat → Int32} {F : FS} (S : LSC X b L xs) (hi : i + 5 ≤ L) (hG : GV Sh I J B F) (hM : MV Sh I J (B + 367) F) (kk : ∀ I' J' F', GV Sh I' J' B F' → MV Sh I' J' (B + 367) F' → WX X k n N Sh I' J' 982 [(0, .ref b), (1, .ref B), (2, .ref (B + 367)), (3, .int (nI i))] []) : WX X k n N Sh I J 553 [(0, .ref b), (1, .ref B), (2, .ref (B + 367)), (3, .int (nI i))] [] := by
  refine wa_aload_n hX dL_law_553 rfl ?_
  refine wa_aload_n hX dL_law_554 rfl ?_
  refine wa_iload_n hX dL_law_555 rfl ?_
  refine wa_iconst (v := nI 1) hX dL_law_556 (by decide) ?_
  refine wa_iadd hX dL_law_557 ?_
  refine wl_sld hX S (j := i + 1) (nI_add i 1) (by omega) dL_law_558 ?_
  refine wa_aload_n hX dL_law_559 rfl ?_
  refine wa_iload_n hX dL_law_560 rfl ?_
  refine wa_iconst (v := nI 2) hX dL_law_561 (by decide) ?_
  refine wa_iadd hX dL_law_562 ?_
  refine wl_sld hX S (j := i + 2) (nI_add i 2) (by omega) dL_law_563 ?_
  refine wa_vP hX (tX6_get _ hG.1 hG.2.1 (xs (i + 1)) (xs (i + 2))) bX6_get mL_80 (by decide) (by decide) (ci := 5) ⟨by decide, rfl⟩ hG.1.1 rfl rfl (Nat.le_of_ble_eq_true rfl) dL_law_564 (fun r_564 q_564 => ?_)
  have hM1 := hM
  have e1 := q_564
  refine wa_aload_n hX dL_law_567 rfl ?_
  refine wa_aload_n hX dL_law_568 rfl ?_
  refine wa_iload_n hX dL_law_569 rfl ?_
  refine wa_iconst (v := nI 1) hX dL_law_570 (by decide) ?_
  refine wa_iadd hX dL_law_571 ?_
  refine wl_sld hX S (j := i + 1) (nI_add i 1) (by omega) dL_law_572 ?_
  refine wa_aload_n hX dL_law_573 rfl ?_
  refine wa_iload_n hX dL_law_574 rfl ?_
  refine wa_iconst (v := nI 2) hX dL_law_575 (by decide) ?_
  refine wa_iadd hX dL_law_576 ?_
  refine wl_sld hX S (j := i + 2) (nI_add i 2) (by omega) dL_law_577 ?_
  refine wa_vP hX (tX7_get _ hM1.1 hM1.2.1 (xs (i + 1)) (xs (i + 2))) bX7_get mL_83 (by decide) (by decide) (ci := 6) ⟨by decide, rfl⟩ hM1.1.1 rfl rfl (Nat.le_of_ble_eq_true rfl) dL_law_578 (fun r_578 q_578 => ?_)
  have e2 := q_578
  have hG2 := hG
  have hM2 := hM
  refine wa_icmp_eq (tgt := 982) hX dL_law_581 (by decide) (fun c_581 => ?_) (fun c_581 => absurd (e1.trans e2.symm) c_581)
  exact kk _ _ _ hG2 hM2
set_option maxHeartbeats 4000000 in
set_option maxRecDepth 100000 in
theorem arm_16 {X : Cx} (hX : XK X RL cL_law 4 2048) {k n N : Nat} {Sh : SM} {I : IM} {J : JM} (hk : k ≤ X.1.2.2.2.1.cells ∧ n ≤ X.1.2.2.2.1.slots) {b L B i : Nat} {xs : Nat → Int32} {F : FS} (S : LSC X b L xs) (hi : i + 5 ≤ L) (hG : GV Sh I J B F) (hM : MV Sh I J (B + 367) F) (kk : ∀ I' J' F', GV Sh I' J' B F' → MV Sh I' J' (B + 367) F' → WX X k n N Sh I' J' 982 [(0, .ref b), (1, .ref B), (2, .ref (B + 367)), (3, .int (nI i))] []) : WX X k n N Sh I J 586 [(0, .ref b), (1, .ref B), (2, .ref (B + 367)), (3, .int (nI i))] [] := by
  refine wa_aload_n hX dL_law_586 rfl ?_
  refine wa_aload_n hX dL_law_587 rfl ?_
  refine wa_iload_n hX dL_law_588 rfl ?_
  refine wa_iconst (v := nI 1) hX dL_law_589 (by decide) ?_
  refine wa_iadd hX dL_law_590 ?_
  refine wl_sld hX S (j := i + 1) (nI_add i 1) (by omega) dL_law_591 ?_
  refine wa_aload_n hX dL_law_592 rfl ?_
  refine wa_iload_n hX dL_law_593 rfl ?_
  refine wa_iconst (v := nI 2) hX dL_law_594 (by decide) ?_
  refine wa_iadd hX dL_law_595 ?_
  refine wl_sld hX S (j := i + 2) (nI_add i 2) (by omega) dL_law_596 ?_
  refine wa_vP hX (tX6_tells _ hG.1 hG.2.1 (xs (i + 1)) (xs (i + 2))) bX6_tells mL_84 (by decide) (by decide) (ci := 5) ⟨by decide, rfl⟩ hG.1.1 rfl rfl (Nat.le_of_ble_eq_true rfl) dL_law_597 (fun r_597 q_597 => ?_)
  have hM1 := hM
  have e1 := q_597
  refine wa_aload_n hX dL_law_600 rfl ?_
  refine wa_aload_n hX dL_law_601 rfl ?_
  refine wa_iload_n hX dL_law_602 rfl ?_
  refine wa_iconst (v := nI 1) hX dL_law_603 (by decide) ?_
  refine wa_iadd hX dL_law_604 ?_
  refine wl_sld hX S (j := i + 1) (nI_add i 1) (by omega) dL_law_605 ?_
  refine wa_aload_n hX dL_law_606 rfl ?_
  refine wa_iload_n hX dL_law_607 rfl ?_
  refine wa_iconst (v := nI 2) hX dL_law_608 (by decide) ?_
  refine wa_iadd hX dL_law_609 ?_
  refine wl_sld hX S (j := i + 2) (nI_add i 2) (by omega) dL_law_610 ?_
  refine wa_vP hX (tX7_tells _ hM1.1 hM1.2.1 (xs (i + 1)) (xs (i + 2))) bX7_tells mL_87 (by decide) (by decide) (ci := 6) ⟨by decide, rfl⟩ hM1.1.1 rfl rfl (Nat.le_of_ble_eq_true rfl) dL_law_611 (fun r_611 q_611 => ?_)
  have e2 := q_611
  have hG2 := hG
  have hM2 := hM
  refine wa_icmp_eq (tgt := 982) hX dL_law_614 (by decide) (fun c_614 => ?_) (fun c_614 => absurd (e1.trans e2.symm) c_614)
  exact kk _ _ _ hG2 hM2
set_option maxHeartbeats 4000000 in
set_option maxRecDepth 100000 in
theorem arm_17 {X : Cx} (hX : XK X RL cL_law 4 2048) {k n N : Nat} {Sh : SM} {I : IM} {J : JM} (hk : k ≤ X.1.2.2.2.1.cells ∧ n ≤ X.1.2.2.2.1.slots) {b L B i : Nat} {xs : Nat → Int32} {F : FS} (S : LSC X b L xs) (hi : i + 5 ≤ L) (hG : GV Sh I J B F) (hM : MV Sh I J (B + 367) F) (kk : ∀ I' J' F', GV Sh I' J' B F' → MV Sh I' J' (B + 367) F' → WX X k n N Sh I' J' 982 [(0, .ref b), (1, .ref B), (2, .ref (B + 367)), (3, .int (nI i))] []) : WX X k n N Sh I J 619 [(0, .ref b), (1, .ref B), (2, .ref (B + 367)), (3, .int (nI i))] [] := by
  refine wa_aload_n hX dL_law_619 rfl ?_
  refine wa_aload_n hX dL_law_620 rfl ?_
  refine wa_iload_n hX dL_law_621 rfl ?_
  refine wa_iconst (v := nI 1) hX dL_law_622 (by decide) ?_
  refine wa_iadd hX dL_law_623 ?_
  refine wl_sld hX S (j := i + 1) (nI_add i 1) (by omega) dL_law_624 ?_
  refine wa_aload_n hX dL_law_625 rfl ?_
  refine wa_iload_n hX dL_law_626 rfl ?_
  refine wa_iconst (v := nI 2) hX dL_law_627 (by decide) ?_
  refine wa_iadd hX dL_law_628 ?_
  refine wl_sld hX S (j := i + 2) (nI_add i 2) (by omega) dL_law_629 ?_
  refine wa_vP hX (tX6_map _ hG.1 hG.2.1 (xs (i + 1)) (xs (i + 2))) bX6_map mL_88 (by decide) (by decide) (ci := 5) ⟨by decide, rfl⟩ hG.1.1 rfl rfl (Nat.le_of_ble_eq_true rfl) dL_law_630 (fun r_630 q_630 => ?_)
  have hM1 := hM
  have e1 := q_630
  refine wa_aload_n hX dL_law_633 rfl ?_
  refine wa_aload_n hX dL_law_634 rfl ?_
  refine wa_iload_n hX dL_law_635 rfl ?_
  refine wa_iconst (v := nI 1) hX dL_law_636 (by decide) ?_
  refine wa_iadd hX dL_law_637 ?_
  refine wl_sld hX S (j := i + 1) (nI_add i 1) (by omega) dL_law_638 ?_
  refine wa_aload_n hX dL_law_639 rfl ?_
  refine wa_iload_n hX dL_law_640 rfl ?_
  refine wa_iconst (v := nI 2) hX dL_law_641 (by decide) ?_
  refine wa_iadd hX dL_law_642 ?_
  refine wl_sld hX S (j := i + 2) (nI_add i 2) (by omega) dL_law_643 ?_
  refine wa_vP hX (tX7_map _ hM1.1 hM1.2.1 (xs (i + 1)) (xs (i + 2))) bX7_map mL_91 (by decide) (by decide) (ci := 6) ⟨by decide, rfl⟩ hM1.1.1 rfl rfl (Nat.le_of_ble_eq_true rfl) dL_law_644 (fun r_644 q_644 => ?_)
  have e2 := q_644
  have hG2 := hG
  have hM2 := hM
  refine wa_icmp_eq (tgt := 982) hX dL_law_647 (by decide) (fun c_647 => ?_) (fun c_647 => absurd (e1.trans e2.symm) c_647)
  exact kk _ _ _ hG2 hM2
set_option maxHeartbeats 4000000 in
set_option maxRecDepth 100000 in
theorem arm_18 {X : Cx} (hX : XK X RL cL_law 4 2048) {k n N : Nat} {Sh : SM} {I : IM} {J : JM} (hk : k ≤ X.1.2.2.2.1.cells ∧ n ≤ X.1.2.2.2.1.slots) {b L B i : Nat} {xs : Nat → Int32} {F : FS} (S : LSC X b L xs) (hi : i + 5 ≤ L) (hG : GV Sh I J B F) (hM : MV Sh I J (B + 367) F) (kk : ∀ I' J' F', GV Sh I' J' B F' → MV Sh I' J' (B + 367) F' → WX X k n N Sh I' J' 982 [(0, .ref b), (1, .ref B), (2, .ref (B + 367)), (3, .int (nI i))] []) : WX X k n N Sh I J 652 [(0, .ref b), (1, .ref B), (2, .ref (B + 367)), (3, .int (nI i))] [] := by
  refine wa_aload_n hX dL_law_652 rfl ?_
  refine wa_aload_n hX dL_law_653 rfl ?_
  refine wa_iload_n hX dL_law_654 rfl ?_
  refine wa_iconst (v := nI 1) hX dL_law_655 (by decide) ?_
  refine wa_iadd hX dL_law_656 ?_
  refine wl_sld hX S (j := i + 1) (nI_add i 1) (by omega) dL_law_657 ?_
  refine wa_aload_n hX dL_law_658 rfl ?_
  refine wa_iload_n hX dL_law_659 rfl ?_
  refine wa_iconst (v := nI 2) hX dL_law_660 (by decide) ?_
  refine wa_iadd hX dL_law_661 ?_
  refine wl_sld hX S (j := i + 2) (nI_add i 2) (by omega) dL_law_662 ?_
  refine wa_aload_n hX dL_law_663 rfl ?_
  refine wa_iload_n hX dL_law_664 rfl ?_
  refine wa_iconst (v := nI 3) hX dL_law_665 (by decide) ?_
  refine wa_iadd hX dL_law_666 ?_
  refine wl_sld hX S (j := i + 3) (nI_add i 3) (by omega) dL_law_667 ?_
  refine wa_vP hX (tX6_layer _ hG.1 hG.2.1 (xs (i + 1)) (xs (i + 2)) (xs (i + 3))) bX6_layer mL_92 (by decide) (by decide) (ci := 5) ⟨by decide, rfl⟩ hG.1.1 rfl rfl (Nat.le_of_ble_eq_true rfl) dL_law_668 (fun r_668 q_668 => ?_)
  have hM1 := hM
  have e1 := q_668
  refine wa_aload_n hX dL_law_671 rfl ?_
  refine wa_aload_n hX dL_law_672 rfl ?_
  refine wa_iload_n hX dL_law_673 rfl ?_
  refine wa_iconst (v := nI 1) hX dL_law_674 (by decide) ?_
  refine wa_iadd hX dL_law_675 ?_
  refine wl_sld hX S (j := i + 1) (nI_add i 1) (by omega) dL_law_676 ?_
  refine wa_aload_n hX dL_law_677 rfl ?_
  refine wa_iload_n hX dL_law_678 rfl ?_
  refine wa_iconst (v := nI 2) hX dL_law_679 (by decide) ?_
  refine wa_iadd hX dL_law_680 ?_
  refine wl_sld hX S (j := i + 2) (nI_add i 2) (by omega) dL_law_681 ?_
  refine wa_aload_n hX dL_law_682 rfl ?_
  refine wa_iload_n hX dL_law_683 rfl ?_
  refine wa_iconst (v := nI 3) hX dL_law_684 (by decide) ?_
  refine wa_iadd hX dL_law_685 ?_
  refine wl_sld hX S (j := i + 3) (nI_add i 3) (by omega) dL_law_686 ?_
  refine wa_vP hX (tX7_layer _ hM1.1 hM1.2.1 (xs (i + 1)) (xs (i + 2)) (xs (i + 3))) bX7_layer mL_95 (by decide) (by decide) (ci := 6) ⟨by decide, rfl⟩ hM1.1.1 rfl rfl (Nat.le_of_ble_eq_true rfl) dL_law_687 (fun r_687 q_687 => ?_)
  have e2 := q_687
  have hG2 := hG
  have hM2 := hM
  refine wa_icmp_eq (tgt := 982) hX dL_law_690 (by decide) (fun c_690 => ?_) (fun c_690 => absurd (e1.trans e2.symm) c_690)
  exact kk _ _ _ hG2 hM2
set_option maxHeartbeats 4000000 in
set_option maxRecDepth 100000 in
theorem arm_19 {X : Cx} (hX : XK X RL cL_law 4 2048) {k n N : Nat} {Sh : SM} {I : IM} {J : JM} (hk : k ≤ X.1.2.2.2.1.cells ∧ n ≤ X.1.2.2.2.1.slots) {b L B i : Nat} {xs : Nat → Int32} {F : FS} (S : LSC X b L xs) (hi : i + 5 ≤ L) (hG : GV Sh I J B F) (hM : MV Sh I J (B + 367) F) (kk : ∀ I' J' F', GV Sh I' J' B F' → MV Sh I' J' (B + 367) F' → WX X k n N Sh I' J' 982 [(0, .ref b), (1, .ref B), (2, .ref (B + 367)), (3, .int (nI i))] []) : WX X k n N Sh I J 695 [(0, .ref b), (1, .ref B), (2, .ref (B + 367)), (3, .int (nI i))] [] := by
  refine wa_aload_n hX dL_law_695 rfl ?_
  refine wa_aload_n hX dL_law_696 rfl ?_
  refine wa_iload_n hX dL_law_697 rfl ?_
  refine wa_iconst (v := nI 1) hX dL_law_698 (by decide) ?_
  refine wa_iadd hX dL_law_699 ?_
  refine wl_sld hX S (j := i + 1) (nI_add i 1) (by omega) dL_law_700 ?_
  refine wa_aload_n hX dL_law_701 rfl ?_
  refine wa_iload_n hX dL_law_702 rfl ?_
  refine wa_iconst (v := nI 2) hX dL_law_703 (by decide) ?_
  refine wa_iadd hX dL_law_704 ?_
  refine wl_sld hX S (j := i + 2) (nI_add i 2) (by omega) dL_law_705 ?_
  refine wa_aload_n hX dL_law_706 rfl ?_
  refine wa_iload_n hX dL_law_707 rfl ?_
  refine wa_iconst (v := nI 3) hX dL_law_708 (by decide) ?_
  refine wa_iadd hX dL_law_709 ?_
  refine wl_sld hX S (j := i + 3) (nI_add i 3) (by omega) dL_law_710 ?_
  refine wa_vP hX (tX6_entry _ hG.1 hG.2.1 (xs (i + 1)) (xs (i + 2)) (xs (i + 3))) bX6_entry mL_96 (by decide) (by decide) (ci := 5) ⟨by decide, rfl⟩ hG.1.1 rfl rfl (Nat.le_of_ble_eq_true rfl) dL_law_711 (fun r_711 q_711 => ?_)
  have hM1 := hM
  have e1 := q_711
  refine wa_aload_n hX dL_law_714 rfl ?_
  refine wa_aload_n hX dL_law_715 rfl ?_
  refine wa_iload_n hX dL_law_716 rfl ?_
  refine wa_iconst (v := nI 1) hX dL_law_717 (by decide) ?_
  refine wa_iadd hX dL_law_718 ?_
  refine wl_sld hX S (j := i + 1) (nI_add i 1) (by omega) dL_law_719 ?_
  refine wa_aload_n hX dL_law_720 rfl ?_
  refine wa_iload_n hX dL_law_721 rfl ?_
  refine wa_iconst (v := nI 2) hX dL_law_722 (by decide) ?_
  refine wa_iadd hX dL_law_723 ?_
  refine wl_sld hX S (j := i + 2) (nI_add i 2) (by omega) dL_law_724 ?_
  refine wa_aload_n hX dL_law_725 rfl ?_
  refine wa_iload_n hX dL_law_726 rfl ?_
  refine wa_iconst (v := nI 3) hX dL_law_727 (by decide) ?_
  refine wa_iadd hX dL_law_728 ?_
  refine wl_sld hX S (j := i + 3) (nI_add i 3) (by omega) dL_law_729 ?_
  refine wa_vP hX (tX7_entry _ hM1.1 hM1.2.1 (xs (i + 1)) (xs (i + 2)) (xs (i + 3))) bX7_entry mL_99 (by decide) (by decide) (ci := 6) ⟨by decide, rfl⟩ hM1.1.1 rfl rfl (Nat.le_of_ble_eq_true rfl) dL_law_730 (fun r_730 q_730 => ?_)
  have e2 := q_730
  have hG2 := hG
  have hM2 := hM
  refine wa_icmp_eq (tgt := 982) hX dL_law_733 (by decide) (fun c_733 => ?_) (fun c_733 => absurd (e1.trans e2.symm) c_733)
  exact kk _ _ _ hG2 hM2
set_option maxHeartbeats 4000000 in
set_option maxRecDepth 100000 in
theorem arm_20 {X : Cx} (hX : XK X RL cL_law 4 2048) {k n N : Nat} {Sh : SM} {I : IM} {J : JM} (hk : k ≤ X.1.2.2.2.1.cells ∧ n ≤ X.1.2.2.2.1.slots) {b L B i : Nat} {xs : Nat → Int32} {F : FS} (S : LSC X b L xs) (hi : i + 5 ≤ L) (hG : GV Sh I J B F) (hM : MV Sh I J (B + 367) F) (kk : ∀ I' J' F', GV Sh I' J' B F' → MV Sh I' J' (B + 367) F' → WX X k n N Sh I' J' 982 [(0, .ref b), (1, .ref B), (2, .ref (B + 367)), (3, .int (nI i))] []) : WX X k n N Sh I J 738 [(0, .ref b), (1, .ref B), (2, .ref (B + 367)), (3, .int (nI i))] [] := by
  refine wa_aload_n hX dL_law_738 rfl ?_
  refine wa_aload_n hX dL_law_739 rfl ?_
  refine wa_iload_n hX dL_law_740 rfl ?_
  refine wa_iconst (v := nI 1) hX dL_law_741 (by decide) ?_
  refine wa_iadd hX dL_law_742 ?_
  refine wl_sld hX S (j := i + 1) (nI_add i 1) (by omega) dL_law_743 ?_
  refine wa_aload_n hX dL_law_744 rfl ?_
  refine wa_iload_n hX dL_law_745 rfl ?_
  refine wa_iconst (v := nI 2) hX dL_law_746 (by decide) ?_
  refine wa_iadd hX dL_law_747 ?_
  refine wl_sld hX S (j := i + 2) (nI_add i 2) (by omega) dL_law_748 ?_
  refine wa_aload_n hX dL_law_749 rfl ?_
  refine wa_iload_n hX dL_law_750 rfl ?_
  refine wa_iconst (v := nI 3) hX dL_law_751 (by decide) ?_
  refine wa_iadd hX dL_law_752 ?_
  refine wl_sld hX S (j := i + 3) (nI_add i 3) (by omega) dL_law_753 ?_
  refine wa_vP hX (tX6_follow _ hG.1 hG.2.1 (xs (i + 1)) (xs (i + 2)) (xs (i + 3))) bX6_follow mL_100 (by decide) (by decide) (ci := 5) ⟨by decide, rfl⟩ hG.1.1 rfl rfl (Nat.le_of_ble_eq_true rfl) dL_law_754 (fun r_754 q_754 => ?_)
  have hM1 := hM
  have e1 := q_754
  refine wa_aload_n hX dL_law_757 rfl ?_
  refine wa_aload_n hX dL_law_758 rfl ?_
  refine wa_iload_n hX dL_law_759 rfl ?_
  refine wa_iconst (v := nI 1) hX dL_law_760 (by decide) ?_
  refine wa_iadd hX dL_law_761 ?_
  refine wl_sld hX S (j := i + 1) (nI_add i 1) (by omega) dL_law_762 ?_
  refine wa_aload_n hX dL_law_763 rfl ?_
  refine wa_iload_n hX dL_law_764 rfl ?_
  refine wa_iconst (v := nI 2) hX dL_law_765 (by decide) ?_
  refine wa_iadd hX dL_law_766 ?_
  refine wl_sld hX S (j := i + 2) (nI_add i 2) (by omega) dL_law_767 ?_
  refine wa_aload_n hX dL_law_768 rfl ?_
  refine wa_iload_n hX dL_law_769 rfl ?_
  refine wa_iconst (v := nI 3) hX dL_law_770 (by decide) ?_
  refine wa_iadd hX dL_law_771 ?_
  refine wl_sld hX S (j := i + 3) (nI_add i 3) (by omega) dL_law_772 ?_
  refine wa_vP hX (tX7_follow _ hM1.1 hM1.2.1 (xs (i + 1)) (xs (i + 2)) (xs (i + 3))) bX7_follow mL_103 (by decide) (by decide) (ci := 6) ⟨by decide, rfl⟩ hM1.1.1 rfl rfl (Nat.le_of_ble_eq_true rfl) dL_law_773 (fun r_773 q_773 => ?_)
  have e2 := q_773
  have hG2 := hG
  have hM2 := hM
  refine wa_icmp_eq (tgt := 982) hX dL_law_776 (by decide) (fun c_776 => ?_) (fun c_776 => absurd (e1.trans e2.symm) c_776)
  exact kk _ _ _ hG2 hM2
set_option maxHeartbeats 4000000 in
set_option maxRecDepth 100000 in
theorem arm_21 {X : Cx} (hX : XK X RL cL_law 4 2048) {k n N : Nat} {Sh : SM} {I : IM} {J : JM} (hk : k ≤ X.1.2.2.2.1.cells ∧ n ≤ X.1.2.2.2.1.slots) {b L B i : Nat} {xs : Nat → Int32} {F : FS} (S : LSC X b L xs) (hi : i + 5 ≤ L) (hG : GV Sh I J B F) (hM : MV Sh I J (B + 367) F) (kk : ∀ I' J' F', GV Sh I' J' B F' → MV Sh I' J' (B + 367) F' → WX X k n N Sh I' J' 982 [(0, .ref b), (1, .ref B), (2, .ref (B + 367)), (3, .int (nI i))] []) : WX X k n N Sh I J 781 [(0, .ref b), (1, .ref B), (2, .ref (B + 367)), (3, .int (nI i))] [] := by
  refine wa_aload_n hX dL_law_781 rfl ?_
  refine wa_aload_n hX dL_law_782 rfl ?_
  refine wa_iload_n hX dL_law_783 rfl ?_
  refine wa_iconst (v := nI 1) hX dL_law_784 (by decide) ?_
  refine wa_iadd hX dL_law_785 ?_
  refine wl_sld hX S (j := i + 1) (nI_add i 1) (by omega) dL_law_786 ?_
  refine wa_aload_n hX dL_law_787 rfl ?_
  refine wa_iload_n hX dL_law_788 rfl ?_
  refine wa_iconst (v := nI 2) hX dL_law_789 (by decide) ?_
  refine wa_iadd hX dL_law_790 ?_
  refine wl_sld hX S (j := i + 2) (nI_add i 2) (by omega) dL_law_791 ?_
  refine wa_aload_n hX dL_law_792 rfl ?_
  refine wa_iload_n hX dL_law_793 rfl ?_
  refine wa_iconst (v := nI 3) hX dL_law_794 (by decide) ?_
  refine wa_iadd hX dL_law_795 ?_
  refine wl_sld hX S (j := i + 3) (nI_add i 3) (by omega) dL_law_796 ?_
  refine wa_vP hX (tX6_after _ hG.1 hG.2.1 (xs (i + 1)) (xs (i + 2)) (xs (i + 3))) bX6_after mL_104 (by decide) (by decide) (ci := 5) ⟨by decide, rfl⟩ hG.1.1 rfl rfl (Nat.le_of_ble_eq_true rfl) dL_law_797 (fun r_797 q_797 => ?_)
  have hM1 := hM
  have e1 := q_797
  refine wa_aload_n hX dL_law_800 rfl ?_
  refine wa_aload_n hX dL_law_801 rfl ?_
  refine wa_iload_n hX dL_law_802 rfl ?_
  refine wa_iconst (v := nI 1) hX dL_law_803 (by decide) ?_
  refine wa_iadd hX dL_law_804 ?_
  refine wl_sld hX S (j := i + 1) (nI_add i 1) (by omega) dL_law_805 ?_
  refine wa_aload_n hX dL_law_806 rfl ?_
  refine wa_iload_n hX dL_law_807 rfl ?_
  refine wa_iconst (v := nI 2) hX dL_law_808 (by decide) ?_
  refine wa_iadd hX dL_law_809 ?_
  refine wl_sld hX S (j := i + 2) (nI_add i 2) (by omega) dL_law_810 ?_
  refine wa_aload_n hX dL_law_811 rfl ?_
  refine wa_iload_n hX dL_law_812 rfl ?_
  refine wa_iconst (v := nI 3) hX dL_law_813 (by decide) ?_
  refine wa_iadd hX dL_law_814 ?_
  refine wl_sld hX S (j := i + 3) (nI_add i 3) (by omega) dL_law_815 ?_
  refine wa_vP hX (tX7_after _ hM1.1 hM1.2.1 (xs (i + 1)) (xs (i + 2)) (xs (i + 3))) bX7_after mL_107 (by decide) (by decide) (ci := 6) ⟨by decide, rfl⟩ hM1.1.1 rfl rfl (Nat.le_of_ble_eq_true rfl) dL_law_816 (fun r_816 q_816 => ?_)
  have e2 := q_816
  have hG2 := hG
  have hM2 := hM
  refine wa_icmp_eq (tgt := 982) hX dL_law_819 (by decide) (fun c_819 => ?_) (fun c_819 => absurd (e1.trans e2.symm) c_819)
  exact kk _ _ _ hG2 hM2
set_option maxHeartbeats 4000000 in
set_option maxRecDepth 100000 in
theorem arm_22 {X : Cx} (hX : XK X RL cL_law 4 2048) {k n N : Nat} {Sh : SM} {I : IM} {J : JM} (hk : k ≤ X.1.2.2.2.1.cells ∧ n ≤ X.1.2.2.2.1.slots) {b L B i : Nat} {xs : Nat → Int32} {F : FS} (S : LSC X b L xs) (hi : i + 5 ≤ L) (hG : GV Sh I J B F) (hM : MV Sh I J (B + 367) F) (kk : ∀ I' J' F', GV Sh I' J' B F' → MV Sh I' J' (B + 367) F' → WX X k n N Sh I' J' 982 [(0, .ref b), (1, .ref B), (2, .ref (B + 367)), (3, .int (nI i))] []) : WX X k n N Sh I J 824 [(0, .ref b), (1, .ref B), (2, .ref (B + 367)), (3, .int (nI i))] [] := by
  refine wa_aload_n hX dL_law_824 rfl ?_
  refine wa_aload_n hX dL_law_825 rfl ?_
  refine wa_iload_n hX dL_law_826 rfl ?_
  refine wa_iconst (v := nI 1) hX dL_law_827 (by decide) ?_
  refine wa_iadd hX dL_law_828 ?_
  refine wl_sld hX S (j := i + 1) (nI_add i 1) (by omega) dL_law_829 ?_
  refine wa_callVI hX (tX6_gives _ hG (xs (i + 1))) bX6_gives mL_108 (by decide) (by decide) (ci := 5) ⟨by decide, rfl⟩ hG.1.1 rfl rfl (Nat.le_of_ble_eq_true rfl) dL_law_830 (fun r_830 I_830 J_830 q_830 => ?_)
  obtain ⟨e1, hG1, hj1, hi1⟩ := q_830
  have hM1 := hM.ac hj1 hi1
  refine wa_aload_n hX dL_law_833 rfl ?_
  refine wa_aload_n hX dL_law_834 rfl ?_
  refine wa_iload_n hX dL_law_835 rfl ?_
  refine wa_iconst (v := nI 1) hX dL_law_836 (by decide) ?_
  refine wa_iadd hX dL_law_837 ?_
  refine wl_sld hX S (j := i + 1) (nI_add i 1) (by omega) dL_law_838 ?_
  refine wa_vM hX (tX7_gives _ hM1 (xs (i + 1))) bX7_gives mL_111 (by decide) (by decide) (ci := 6) ⟨by decide, rfl⟩ hM1.1.1 rfl rfl (Nat.le_of_ble_eq_true rfl) dL_law_839 (fun r_839 I_839 q_839 => ?_)
  obtain ⟨e2, hM2, hi2⟩ := q_839
  have hG2 := hG1.am hi2
  refine wa_icmp_eq (tgt := 982) hX dL_law_842 (by decide) (fun c_842 => ?_) (fun c_842 => absurd (e1.trans e2.symm) c_842)
  exact kk _ _ _ hG2 hM2
set_option maxHeartbeats 4000000 in
set_option maxRecDepth 100000 in
theorem arm_23 {X : Cx} (hX : XK X RL cL_law 4 2048) {k n N : Nat} {Sh : SM} {I : IM} {J : JM} (hk : k ≤ X.1.2.2.2.1.cells ∧ n ≤ X.1.2.2.2.1.slots) {b L B i : Nat} {xs : Nat → Int32} {F : FS} (S : LSC X b L xs) (hi : i + 5 ≤ L) (hG : GV Sh I J B F) (hM : MV Sh I J (B + 367) F) (kk : ∀ I' J' F', GV Sh I' J' B F' → MV Sh I' J' (B + 367) F' → WX X k n N Sh I' J' 982 [(0, .ref b), (1, .ref B), (2, .ref (B + 367)), (3, .int (nI i))] []) : WX X k n N Sh I J 847 [(0, .ref b), (1, .ref B), (2, .ref (B + 367)), (3, .int (nI i))] [] := by
  refine wa_aload_n hX dL_law_847 rfl ?_
  refine wa_aload_n hX dL_law_848 rfl ?_
  refine wa_iload_n hX dL_law_849 rfl ?_
  refine wa_iconst (v := nI 1) hX dL_law_850 (by decide) ?_
  refine wa_iadd hX dL_law_851 ?_
  refine wl_sld hX S (j := i + 1) (nI_add i 1) (by omega) dL_law_852 ?_
  refine wa_aload_n hX dL_law_853 rfl ?_
  refine wa_iload_n hX dL_law_854 rfl ?_
  refine wa_iconst (v := nI 2) hX dL_law_855 (by decide) ?_
  refine wa_iadd hX dL_law_856 ?_
  refine wl_sld hX S (j := i + 2) (nI_add i 2) (by omega) dL_law_857 ?_
  refine wa_vP hX (tX6_differ _ hG.1 hG.2.1 (xs (i + 1)) (xs (i + 2))) bX6_differ mL_112 (by decide) (by decide) (ci := 5) ⟨by decide, rfl⟩ hG.1.1 rfl rfl (Nat.le_of_ble_eq_true rfl) dL_law_858 (fun r_858 q_858 => ?_)
  have hM1 := hM
  have e1 := q_858
  refine wa_aload_n hX dL_law_861 rfl ?_
  refine wa_aload_n hX dL_law_862 rfl ?_
  refine wa_iload_n hX dL_law_863 rfl ?_
  refine wa_iconst (v := nI 1) hX dL_law_864 (by decide) ?_
  refine wa_iadd hX dL_law_865 ?_
  refine wl_sld hX S (j := i + 1) (nI_add i 1) (by omega) dL_law_866 ?_
  refine wa_aload_n hX dL_law_867 rfl ?_
  refine wa_iload_n hX dL_law_868 rfl ?_
  refine wa_iconst (v := nI 2) hX dL_law_869 (by decide) ?_
  refine wa_iadd hX dL_law_870 ?_
  refine wl_sld hX S (j := i + 2) (nI_add i 2) (by omega) dL_law_871 ?_
  refine wa_vP hX (tX7_differ _ hM1.1 hM1.2.1 (xs (i + 1)) (xs (i + 2))) bX7_differ mL_115 (by decide) (by decide) (ci := 6) ⟨by decide, rfl⟩ hM1.1.1 rfl rfl (Nat.le_of_ble_eq_true rfl) dL_law_872 (fun r_872 q_872 => ?_)
  have e2 := q_872
  have hG2 := hG
  have hM2 := hM
  refine wa_icmp_eq (tgt := 982) hX dL_law_875 (by decide) (fun c_875 => ?_) (fun c_875 => absurd (e1.trans e2.symm) c_875)
  exact kk _ _ _ hG2 hM2
set_option maxHeartbeats 4000000 in
set_option maxRecDepth 100000 in
theorem arm_24 {X : Cx} (hX : XK X RL cL_law 4 2048) {k n N : Nat} {Sh : SM} {I : IM} {J : JM} (hk : k ≤ X.1.2.2.2.1.cells ∧ n ≤ X.1.2.2.2.1.slots) {b L B i : Nat} {xs : Nat → Int32} {F : FS} (S : LSC X b L xs) (hi : i + 5 ≤ L) (hG : GV Sh I J B F) (hM : MV Sh I J (B + 367) F) (kk : ∀ I' J' F', GV Sh I' J' B F' → MV Sh I' J' (B + 367) F' → WX X k n N Sh I' J' 982 [(0, .ref b), (1, .ref B), (2, .ref (B + 367)), (3, .int (nI i))] []) : WX X k n N Sh I J 880 [(0, .ref b), (1, .ref B), (2, .ref (B + 367)), (3, .int (nI i))] [] := by
  refine wa_aload_n hX dL_law_880 rfl ?_
  refine wa_aload_n hX dL_law_881 rfl ?_
  refine wa_iload_n hX dL_law_882 rfl ?_
  refine wa_iconst (v := nI 1) hX dL_law_883 (by decide) ?_
  refine wa_iadd hX dL_law_884 ?_
  refine wl_sld hX S (j := i + 1) (nI_add i 1) (by omega) dL_law_885 ?_
  refine wa_callVI hX (tX6_probes _ hG (xs (i + 1))) bX6_probes mL_116 (by decide) (by decide) (ci := 5) ⟨by decide, rfl⟩ hG.1.1 rfl rfl (Nat.le_of_ble_eq_true rfl) dL_law_886 (fun r_886 I_886 J_886 q_886 => ?_)
  obtain ⟨e1, hG1, hj1, hi1⟩ := q_886
  have hM1 := hM.ac hj1 hi1
  refine wa_aload_n hX dL_law_889 rfl ?_
  refine wa_aload_n hX dL_law_890 rfl ?_
  refine wa_iload_n hX dL_law_891 rfl ?_
  refine wa_iconst (v := nI 1) hX dL_law_892 (by decide) ?_
  refine wa_iadd hX dL_law_893 ?_
  refine wl_sld hX S (j := i + 1) (nI_add i 1) (by omega) dL_law_894 ?_
  refine wa_vM hX (tX7_probes _ hM1 (xs (i + 1))) bX7_probes mL_119 (by decide) (by decide) (ci := 6) ⟨by decide, rfl⟩ hM1.1.1 rfl rfl (Nat.le_of_ble_eq_true rfl) dL_law_895 (fun r_895 I_895 q_895 => ?_)
  obtain ⟨e2, hM2, hi2⟩ := q_895
  have hG2 := hG1.am hi2
  refine wa_icmp_eq (tgt := 982) hX dL_law_898 (by decide) (fun c_898 => ?_) (fun c_898 => absurd (e1.trans e2.symm) c_898)
  exact kk _ _ _ hG2 hM2
set_option maxHeartbeats 4000000 in
set_option maxRecDepth 100000 in
theorem arm_25 {X : Cx} (hX : XK X RL cL_law 4 2048) {k n N : Nat} {Sh : SM} {I : IM} {J : JM} (hk : k ≤ X.1.2.2.2.1.cells ∧ n ≤ X.1.2.2.2.1.slots) {b L B i : Nat} {xs : Nat → Int32} {F : FS} (S : LSC X b L xs) (hi : i + 5 ≤ L) (hG : GV Sh I J B F) (hM : MV Sh I J (B + 367) F) (kk : ∀ I' J' F', GV Sh I' J' B F' → MV Sh I' J' (B + 367) F' → WX X k n N Sh I' J' 982 [(0, .ref b), (1, .ref B), (2, .ref (B + 367)), (3, .int (nI i))] []) : WX X k n N Sh I J 903 [(0, .ref b), (1, .ref B), (2, .ref (B + 367)), (3, .int (nI i))] [] := by
  refine wa_aload_n hX dL_law_903 rfl ?_
  refine wa_aload_n hX dL_law_904 rfl ?_
  refine wa_iload_n hX dL_law_905 rfl ?_
  refine wa_iconst (v := nI 1) hX dL_law_906 (by decide) ?_
  refine wa_iadd hX dL_law_907 ?_
  refine wl_sld hX S (j := i + 1) (nI_add i 1) (by omega) dL_law_908 ?_
  refine wa_vP hX (tX6_hidden _ hG.1 hG.2.1 (xs (i + 1))) bX6_hidden mL_120 (by decide) (by decide) (ci := 5) ⟨by decide, rfl⟩ hG.1.1 rfl rfl (Nat.le_of_ble_eq_true rfl) dL_law_909 (fun r_909 q_909 => ?_)
  have hM1 := hM
  have e1 := q_909
  refine wa_aload_n hX dL_law_912 rfl ?_
  refine wa_aload_n hX dL_law_913 rfl ?_
  refine wa_iload_n hX dL_law_914 rfl ?_
  refine wa_iconst (v := nI 1) hX dL_law_915 (by decide) ?_
  refine wa_iadd hX dL_law_916 ?_
  refine wl_sld hX S (j := i + 1) (nI_add i 1) (by omega) dL_law_917 ?_
  refine wa_vP hX (tX7_hidden _ hM1.1 hM1.2.1 (xs (i + 1))) bX7_hidden mL_123 (by decide) (by decide) (ci := 6) ⟨by decide, rfl⟩ hM1.1.1 rfl rfl (Nat.le_of_ble_eq_true rfl) dL_law_918 (fun r_918 q_918 => ?_)
  have e2 := q_918
  have hG2 := hG
  have hM2 := hM
  refine wa_icmp_eq (tgt := 982) hX dL_law_921 (by decide) (fun c_921 => ?_) (fun c_921 => absurd (e1.trans e2.symm) c_921)
  exact kk _ _ _ hG2 hM2
set_option maxHeartbeats 4000000 in
set_option maxRecDepth 100000 in
theorem arm_26 {X : Cx} (hX : XK X RL cL_law 4 2048) {k n N : Nat} {Sh : SM} {I : IM} {J : JM} (hk : k ≤ X.1.2.2.2.1.cells ∧ n ≤ X.1.2.2.2.1.slots) {b L B i : Nat} {xs : Nat → Int32} {F : FS} (S : LSC X b L xs) (hi : i + 5 ≤ L) (hG : GV Sh I J B F) (hM : MV Sh I J (B + 367) F) (kk : ∀ I' J' F', GV Sh I' J' B F' → MV Sh I' J' (B + 367) F' → WX X k n N Sh I' J' 982 [(0, .ref b), (1, .ref B), (2, .ref (B + 367)), (3, .int (nI i))] []) : WX X k n N Sh I J 926 [(0, .ref b), (1, .ref B), (2, .ref (B + 367)), (3, .int (nI i))] [] := by
  refine wa_aload_n hX dL_law_926 rfl ?_
  refine wa_aload_n hX dL_law_927 rfl ?_
  refine wa_iload_n hX dL_law_928 rfl ?_
  refine wa_iconst (v := nI 1) hX dL_law_929 (by decide) ?_
  refine wa_iadd hX dL_law_930 ?_
  refine wl_sld hX S (j := i + 1) (nI_add i 1) (by omega) dL_law_931 ?_
  refine wa_aload_n hX dL_law_932 rfl ?_
  refine wa_iload_n hX dL_law_933 rfl ?_
  refine wa_iconst (v := nI 2) hX dL_law_934 (by decide) ?_
  refine wa_iadd hX dL_law_935 ?_
  refine wl_sld hX S (j := i + 2) (nI_add i 2) (by omega) dL_law_936 ?_
  refine wa_vP hX (tX6_split _ hG.1 hG.2.1 (xs (i + 1)) (xs (i + 2))) bX6_split mL_124 (by decide) (by decide) (ci := 5) ⟨by decide, rfl⟩ hG.1.1 rfl rfl (Nat.le_of_ble_eq_true rfl) dL_law_937 (fun r_937 q_937 => ?_)
  have hM1 := hM
  have e1 := q_937
  refine wa_aload_n hX dL_law_940 rfl ?_
  refine wa_aload_n hX dL_law_941 rfl ?_
  refine wa_iload_n hX dL_law_942 rfl ?_
  refine wa_iconst (v := nI 1) hX dL_law_943 (by decide) ?_
  refine wa_iadd hX dL_law_944 ?_
  refine wl_sld hX S (j := i + 1) (nI_add i 1) (by omega) dL_law_945 ?_
  refine wa_aload_n hX dL_law_946 rfl ?_
  refine wa_iload_n hX dL_law_947 rfl ?_
  refine wa_iconst (v := nI 2) hX dL_law_948 (by decide) ?_
  refine wa_iadd hX dL_law_949 ?_
  refine wl_sld hX S (j := i + 2) (nI_add i 2) (by omega) dL_law_950 ?_
  refine wa_vP hX (tX7_split _ hM1.1 hM1.2.1 (xs (i + 1)) (xs (i + 2))) bX7_split mL_127 (by decide) (by decide) (ci := 6) ⟨by decide, rfl⟩ hM1.1.1 rfl rfl (Nat.le_of_ble_eq_true rfl) dL_law_951 (fun r_951 q_951 => ?_)
  have e2 := q_951
  have hG2 := hG
  have hM2 := hM
  refine wa_icmp_eq (tgt := 982) hX dL_law_954 (by decide) (fun c_954 => ?_) (fun c_954 => absurd (e1.trans e2.symm) c_954)
  exact kk _ _ _ hG2 hM2
set_option maxHeartbeats 4000000 in
set_option maxRecDepth 100000 in
theorem arm_27 {X : Cx} (hX : XK X RL cL_law 4 2048) {k n N : Nat} {Sh : SM} {I : IM} {J : JM} (hk : k ≤ X.1.2.2.2.1.cells ∧ n ≤ X.1.2.2.2.1.slots) {b L B i : Nat} {xs : Nat → Int32} {F : FS} (S : LSC X b L xs) (hi : i + 5 ≤ L) (hG : GV Sh I J B F) (hM : MV Sh I J (B + 367) F) (kk : ∀ I' J' F', GV Sh I' J' B F' → MV Sh I' J' (B + 367) F' → WX X k n N Sh I' J' 982 [(0, .ref b), (1, .ref B), (2, .ref (B + 367)), (3, .int (nI i))] []) : WX X k n N Sh I J 959 [(0, .ref b), (1, .ref B), (2, .ref (B + 367)), (3, .int (nI i))] [] := by
  refine wa_aload_n hX dL_law_959 rfl ?_
  refine wa_aload_n hX dL_law_960 rfl ?_
  refine wa_iload_n hX dL_law_961 rfl ?_
  refine wa_iconst (v := nI 1) hX dL_law_962 (by decide) ?_
  refine wa_iadd hX dL_law_963 ?_
  refine wl_sld hX S (j := i + 1) (nI_add i 1) (by omega) dL_law_964 ?_
  refine wa_vP hX (tX6_count _ hG (xs (i + 1))) bX6_count mL_128 (by decide) (by decide) (ci := 5) ⟨by decide, rfl⟩ hG.1.1 rfl rfl (Nat.le_of_ble_eq_true rfl) dL_law_965 (fun r_965 q_965 => ?_)
  have hM1 := hM
  have e1 := q_965
  refine wa_aload_n hX dL_law_968 rfl ?_
  refine wa_aload_n hX dL_law_969 rfl ?_
  refine wa_iload_n hX dL_law_970 rfl ?_
  refine wa_iconst (v := nI 1) hX dL_law_971 (by decide) ?_
  refine wa_iadd hX dL_law_972 ?_
  refine wl_sld hX S (j := i + 1) (nI_add i 1) (by omega) dL_law_973 ?_
  refine wa_vP hX (tX7_count _ hM1 (xs (i + 1))) bX7_count mL_131 (by decide) (by decide) (ci := 6) ⟨by decide, rfl⟩ hM1.1.1 rfl rfl (Nat.le_of_ble_eq_true rfl) dL_law_974 (fun r_974 q_974 => ?_)
  have e2 := q_974
  have hG2 := hG
  have hM2 := hM
  refine wa_icmp_eq (tgt := 982) hX dL_law_977 (by decide) (fun c_977 => ?_) (fun c_977 => absurd (e1.trans e2.symm) c_977)
  exact kk _ _ _ hG2 hM2
