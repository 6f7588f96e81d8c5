set_option maxRecDepth 100000 in
set_option maxHeartbeats 4000000 in
theorem cs_0 {K : XS} {G : GS} {cells slots : Nat} {Q : State → Prop} {n : Nat} {V : Nat → Int → Int} {R : Nat → Int → Option Nat} {ret0 : Option FieldType} {b L : Nat} {xs : Nat → Int32} (C : Cx K G cL_law RL 4 ret0 room_1) (hX : LawX K G b L xs) (hL : L ≤ 3584) {i : Int} (hi : 0 ≤ i ∧ i + 7 ≤ L) (h : Rel n V R) (hcs : cells + 64 ≤ 600000 ∧ slots + 192 ≤ 7302250) (kk : ∀ n2 V2 R2, Rel n2 V2 R2 → Xw K G (cells + 64) (slots + 192) Q n2 V2 R2 1271 [(0, .ref b), (1, .ref (aG G 0)), (2, .ref (aG G 42)), (3, .int (iI i))] []) : Xw K G cells slots Q n V R 172 [(0, .ref b), (1, .ref (aG G 0)), (2, .ref (aG G 42)), (3, .int (iI i))] [] := by
  refine x_aload_n C 1 dL_law_172 rfl rfl ?_
  refine x_aload_n C 0 dL_law_173 rfl rfl ?_
  refine x_iload_n C 3 dL_law_174 rfl rfl ?_
  refine x_iconst C dL_law_175 ?_
  refine x_iadd C dL_law_176 ?_
  refine x_sld C hX (by omega) (by omega) dL_law_177 ?_
  refine x_aload_n C 0 dL_law_178 rfl rfl ?_
  refine x_iload_n C 3 dL_law_179 rfl rfl ?_
  refine x_iconst C dL_law_180 ?_
  refine x_iadd C dL_law_181 ?_
  refine x_sld C hX (by omega) (by omega) dL_law_182 ?_
  refine x_aload_n C 0 dL_law_183 rfl rfl ?_
  refine x_iload_n C 3 dL_law_184 rfl rfl ?_
  refine x_iconst C dL_law_185 ?_
  refine x_iadd C dL_law_186 ?_
  refine x_sld C hX (by omega) (by omega) dL_law_187 ?_
  obtain ⟨post1, hc1, hp1⟩ := pr_log (G := G) (a := scr xs (i + 1)) (b := scr xs (i + 2)) (c := scr xs (i + 3)) h (scr_rg _ _) (scr_rg _ _) (scr_rg _ _)
  refine x_runU (r_callV C ok_Class 0 (lt67 h.h67 rfl) rfl (ce_X11_log) hc1 rfl dL_law_188 q_4_23 q_5_0 q_5_1 rfl rfl ⟨Nat.le_of_ble_eq_true rfl, Nat.le_of_ble_eq_true rfl⟩ ⟨rfl, rfl⟩ ⟨(show cells + 0 ≤ 600000 from by omega), (show slots + 0 ≤ 7302250 from by omega)⟩ (Nat.le_of_ble_eq_true rfl)) (fun v1 u1 hv1 => ?_)
  obtain ⟨r, rfl, h671, post2, hc2, hp2⟩ := hp1 v1 u1 hv1
  obtain ⟨n1, V1, R1⟩ := u1
  show Xw K G (cells + 0) (slots + 0) Q n1 V1 R1 191 [(0, .ref b), (1, .ref (aG G 0)), (2, .ref (aG G 42)), (3, .int (iI i))] [iM r]
  refine x_aload_n C 2 dL_law_191 rfl rfl ?_
  refine x_aload_n C 0 dL_law_192 rfl rfl ?_
  refine x_iload_n C 3 dL_law_193 rfl rfl ?_
  refine x_iconst C dL_law_194 ?_
  refine x_iadd C dL_law_195 ?_
  refine x_sld C hX (by omega) (by omega) dL_law_196 ?_
  refine x_aload_n C 0 dL_law_197 rfl rfl ?_
  refine x_iload_n C 3 dL_law_198 rfl rfl ?_
  refine x_iconst C dL_law_199 ?_
  refine x_iadd C dL_law_200 ?_
  refine x_sld C hX (by omega) (by omega) dL_law_201 ?_
  refine x_aload_n C 0 dL_law_202 rfl rfl ?_
  refine x_iload_n C 3 dL_law_203 rfl rfl ?_
  refine x_iconst C dL_law_204 ?_
  refine x_iadd C dL_law_205 ?_
  refine x_sld C hX (by omega) (by omega) dL_law_206 ?_
  refine x_runU (r_callV C ok_Model 42 (lt67 h671 rfl) rfl (ce_X12_log) hc2 rfl dL_law_207 q_6_2 q_6_3 q_6_4 rfl rfl ⟨Nat.le_of_ble_eq_true rfl, Nat.le_of_ble_eq_true rfl⟩ ⟨rfl, rfl⟩ ⟨(show cells + 0 + 0 ≤ 600000 from by omega), (show slots + 0 + 0 ≤ 7302250 from by omega)⟩ (Nat.le_of_ble_eq_true rfl)) (fun v2 u2 hv2 => ?_)
  obtain ⟨rfl, hR⟩ := hp2 v2 u2 hv2
  obtain ⟨n2, V2, R2⟩ := u2
  show Xw K G (cells + 0 + 0) (slots + 0 + 0) Q n2 V2 R2 210 [(0, .ref b), (1, .ref (aG G 0)), (2, .ref (aG G 42)), (3, .int (iI i))] [iM r, iM r]
  refine x_sameI C dL_law_210 (tgt := 1271) (by decide) ?_
  refine x_wid (cells' := cells + 64) (slots' := slots + 192) (by omega) (by omega) ?_
  exact kk _ _ _ hR
set_option maxRecDepth 100000 in
set_option maxHeartbeats 4000000 in
theorem cs_1 {K : XS} {G : GS} {cells slots : Nat} {Q : State → Prop} {n : Nat} {V : Nat → Int → Int} {R : Nat → Int → Option Nat} {ret0 : Option FieldType} {b L : Nat} {xs : Nat → Int32} (C : Cx K G cL_law RL 4 ret0 room_1) (hX : LawX K G b L xs) (hL : L ≤ 3584) {i : Int} (hi : 0 ≤ i ∧ i + 7 ≤ L) (h : Rel n V R) (hcs : cells + 64 ≤ 600000 ∧ slots + 192 ≤ 7302250) (kk : ∀ n2 V2 R2, Rel n2 V2 R2 → Xw K G (cells + 64) (slots + 192) Q n2 V2 R2 1271 [(0, .ref b), (1, .ref (aG G 0)), (2, .ref (aG G 42)), (3, .int (iI i))] []) : Xw K G cells slots Q n V R 215 [(0, .ref b), (1, .ref (aG G 0)), (2, .ref (aG G 42)), (3, .int (iI i))] [] := by
  refine x_aload_n C 1 dL_law_215 rfl rfl ?_
  refine x_aload_n C 0 dL_law_216 rfl rfl ?_
  refine x_iload_n C 3 dL_law_217 rfl rfl ?_
  refine x_iconst C dL_law_218 ?_
  refine x_iadd C dL_law_219 ?_
  refine x_sld C hX (by omega) (by omega) dL_law_220 ?_
  refine x_aload_n C 0 dL_law_221 rfl rfl ?_
  refine x_iload_n C 3 dL_law_222 rfl rfl ?_
  refine x_iconst C dL_law_223 ?_
  refine x_iadd C dL_law_224 ?_
  refine x_sld C hX (by omega) (by omega) dL_law_225 ?_
  refine x_aload_n C 0 dL_law_226 rfl rfl ?_
  refine x_iload_n C 3 dL_law_227 rfl rfl ?_
  refine x_iconst C dL_law_228 ?_
  refine x_iadd C dL_law_229 ?_
  refine x_sld C hX (by omega) (by omega) dL_law_230 ?_
  refine x_aload_n C 0 dL_law_231 rfl rfl ?_
  refine x_iload_n C 3 dL_law_232 rfl rfl ?_
  refine x_iconst C dL_law_233 ?_
  refine x_iadd C dL_law_234 ?_
  refine x_sld C hX (by omega) (by omega) dL_law_235 ?_
  refine x_aload_n C 0 dL_law_236 rfl rfl ?_
  refine x_iload_n C 3 dL_law_237 rfl rfl ?_
  refine x_iconst C dL_law_238 ?_
  refine x_iadd C dL_law_239 ?_
  refine x_sld C hX (by omega) (by omega) dL_law_240 ?_
  refine x_aload_n C 0 dL_law_241 rfl rfl ?_
  refine x_iload_n C 3 dL_law_242 rfl rfl ?_
  refine x_bipush C dL_law_243 (w := 6) (by decide) ?_
  refine x_iadd C dL_law_245 ?_
  refine x_sld C hX (by omega) (by omega) dL_law_246 ?_
  obtain ⟨post1, hc1, hp1⟩ := pr_feed (G := G) (k := scr xs (i + 1)) (a := scr xs (i + 2)) (b := scr xs (i + 3)) (c := scr xs (i + 4)) (d := scr xs (i + 5)) (e := scr xs (i + 6)) h (scr_rg _ _) (scr_rg _ _) (scr_rg _ _) (scr_rg _ _) (scr_rg _ _) (scr_rg _ _)
  refine x_runU (r_callV C ok_Class 0 (lt67 h.h67 rfl) rfl (ce_X11_feed) hc1 rfl dL_law_247 q_7_7 q_7_8 q_7_9 rfl rfl ⟨Nat.le_of_ble_eq_true rfl, Nat.le_of_ble_eq_true rfl⟩ ⟨rfl, rfl⟩ ⟨(show cells + 0 ≤ 600000 from by omega), (show slots + 0 ≤ 7302250 from by omega)⟩ (Nat.le_of_ble_eq_true rfl)) (fun v1 u1 hv1 => ?_)
  obtain ⟨r, rfl, h671, post2, hc2, hp2⟩ := hp1 v1 u1 hv1
  obtain ⟨n1, V1, R1⟩ := u1
  show Xw K G (cells + 0) (slots + 0) Q n1 V1 R1 250 [(0, .ref b), (1, .ref (aG G 0)), (2, .ref (aG G 42)), (3, .int (iI i))] [iM r]
  refine x_aload_n C 2 dL_law_250 rfl rfl ?_
  refine x_aload_n C 0 dL_law_251 rfl rfl ?_
  refine x_iload_n C 3 dL_law_252 rfl rfl ?_
  refine x_iconst C dL_law_253 ?_
  refine x_iadd C dL_law_254 ?_
  refine x_sld C hX (by omega) (by omega) dL_law_255 ?_
  refine x_aload_n C 0 dL_law_256 rfl rfl ?_
  refine x_iload_n C 3 dL_law_257 rfl rfl ?_
  refine x_iconst C dL_law_258 ?_
  refine x_iadd C dL_law_259 ?_
  refine x_sld C hX (by omega) (by omega) dL_law_260 ?_
  refine x_aload_n C 0 dL_law_261 rfl rfl ?_
  refine x_iload_n C 3 dL_law_262 rfl rfl ?_
  refine x_iconst C dL_law_263 ?_
  refine x_iadd C dL_law_264 ?_
  refine x_sld C hX (by omega) (by omega) dL_law_265 ?_
  refine x_aload_n C 0 dL_law_266 rfl rfl ?_
  refine x_iload_n C 3 dL_law_267 rfl rfl ?_
  refine x_iconst C dL_law_268 ?_
  refine x_iadd C dL_law_269 ?_
  refine x_sld C hX (by omega) (by omega) dL_law_270 ?_
  refine x_aload_n C 0 dL_law_271 rfl rfl ?_
  refine x_iload_n C 3 dL_law_272 rfl rfl ?_
  refine x_iconst C dL_law_273 ?_
  refine x_iadd C dL_law_274 ?_
  refine x_sld C hX (by omega) (by omega) dL_law_275 ?_
  refine x_aload_n C 0 dL_law_276 rfl rfl ?_
  refine x_iload_n C 3 dL_law_277 rfl rfl ?_
  refine x_bipush C dL_law_278 (w := 6) (by decide) ?_
  refine x_iadd C dL_law_280 ?_
  refine x_sld C hX (by omega) (by omega) dL_law_281 ?_
  refine x_runU (r_callV C ok_Model 42 (lt67 h671 rfl) rfl (ce_X12_feed) hc2 rfl dL_law_282 q_7_18 q_7_19 q_7_20 rfl rfl ⟨Nat.le_of_ble_eq_true rfl, Nat.le_of_ble_eq_true rfl⟩ ⟨rfl, rfl⟩ ⟨(show cells + 0 + 0 ≤ 600000 from by omega), (show slots + 0 + 0 ≤ 7302250 from by omega)⟩ (Nat.le_of_ble_eq_true rfl)) (fun v2 u2 hv2 => ?_)
  obtain ⟨rfl, hR⟩ := hp2 v2 u2 hv2
  obtain ⟨n2, V2, R2⟩ := u2
  show Xw K G (cells + 0 + 0) (slots + 0 + 0) Q n2 V2 R2 285 [(0, .ref b), (1, .ref (aG G 0)), (2, .ref (aG G 42)), (3, .int (iI i))] [iM r, iM r]
  refine x_sameI C dL_law_285 (tgt := 1271) (by decide) ?_
  refine x_wid (cells' := cells + 64) (slots' := slots + 192) (by omega) (by omega) ?_
  exact kk _ _ _ hR
set_option maxRecDepth 100000 in
set_option maxHeartbeats 4000000 in
theorem cs_2 {K : XS} {G : GS} {cells slots : Nat} {Q : State → Prop} {n : Nat} {V : Nat → Int → Int} {R : Nat → Int → Option Nat} {ret0 : Option FieldType} {b L : Nat} {xs : Nat → Int32} (C : Cx K G cL_law RL 4 ret0 room_1) (hX : LawX K G b L xs) (hL : L ≤ 3584) {i : Int} (hi : 0 ≤ i ∧ i + 7 ≤ L) (h : Rel n V R) (hcs : cells + 64 ≤ 600000 ∧ slots + 192 ≤ 7302250) (kk : ∀ n2 V2 R2, Rel n2 V2 R2 → Xw K G (cells + 64) (slots + 192) Q n2 V2 R2 1271 [(0, .ref b), (1, .ref (aG G 0)), (2, .ref (aG G 42)), (3, .int (iI i))] []) : Xw K G cells slots Q n V R 290 [(0, .ref b), (1, .ref (aG G 0)), (2, .ref (aG G 42)), (3, .int (iI i))] [] := by
  refine x_aload_n C 1 dL_law_290 rfl rfl ?_
  obtain ⟨post1, hc1, hp1⟩ := pr_text (G := G)  h 
  refine x_runU (r_callV C ok_Class 0 (lt67 h.h67 rfl) rfl (ce_X11_text) hc1 rfl dL_law_291 q_8_1 q_8_2 q_8_3 rfl rfl ⟨Nat.le_of_ble_eq_true rfl, Nat.le_of_ble_eq_true rfl⟩ ⟨rfl, rfl⟩ ⟨(show cells + 8 ≤ 600000 from by omega), (show slots + 24 ≤ 7302250 from by omega)⟩ (Nat.le_of_ble_eq_true rfl)) (fun v1 u1 hv1 => ?_)
  obtain ⟨r, rfl, h671, post2, hc2, hp2⟩ := hp1 v1 u1 hv1
  obtain ⟨n1, V1, R1⟩ := u1
  show Xw K G (cells + 8) (slots + 24) Q n1 V1 R1 294 [(0, .ref b), (1, .ref (aG G 0)), (2, .ref (aG G 42)), (3, .int (iI i))] [iM r]
  refine x_aload_n C 2 dL_law_294 rfl rfl ?_
  refine x_runU (r_callV C ok_Model 42 (lt67 h671 rfl) rfl (ce_X12_text) hc2 rfl dL_law_295 q_15_12 q_15_13 q_15_14 rfl rfl ⟨Nat.le_of_ble_eq_true rfl, Nat.le_of_ble_eq_true rfl⟩ ⟨rfl, rfl⟩ ⟨(show cells + 8 + 0 ≤ 600000 from by omega), (show slots + 24 + 0 ≤ 7302250 from by omega)⟩ (Nat.le_of_ble_eq_true rfl)) (fun v2 u2 hv2 => ?_)
  obtain ⟨rfl, hR⟩ := hp2 v2 u2 hv2
  obtain ⟨n2, V2, R2⟩ := u2
  show Xw K G (cells + 8 + 0) (slots + 24 + 0) Q n2 V2 R2 298 [(0, .ref b), (1, .ref (aG G 0)), (2, .ref (aG G 42)), (3, .int (iI i))] [iM r, iM r]
  refine x_sameI C dL_law_298 (tgt := 1271) (by decide) ?_
  refine x_wid (cells' := cells + 64) (slots' := slots + 192) (by omega) (by omega) ?_
  exact kk _ _ _ hR
set_option maxRecDepth 100000 in
set_option maxHeartbeats 4000000 in
theorem cs_3 {K : XS} {G : GS} {cells slots : Nat} {Q : State → Prop} {n : Nat} {V : Nat → Int → Int} {R : Nat → Int → Option Nat} {ret0 : Option FieldType} {b L : Nat} {xs : Nat → Int32} (C : Cx K G cL_law RL 4 ret0 room_1) (hX : LawX K G b L xs) (hL : L ≤ 3584) {i : Int} (hi : 0 ≤ i ∧ i + 7 ≤ L) (h : Rel n V R) (hcs : cells + 64 ≤ 600000 ∧ slots + 192 ≤ 7302250) (kk : ∀ n2 V2 R2, Rel n2 V2 R2 → Xw K G (cells + 64) (slots + 192) Q n2 V2 R2 1271 [(0, .ref b), (1, .ref (aG G 0)), (2, .ref (aG G 42)), (3, .int (iI i))] []) : Xw K G cells slots Q n V R 303 [(0, .ref b), (1, .ref (aG G 0)), (2, .ref (aG G 42)), (3, .int (iI i))] [] := by
  refine x_aload_n C 1 dL_law_303 rfl rfl ?_
  refine x_aload_n C 0 dL_law_304 rfl rfl ?_
  refine x_iload_n C 3 dL_law_305 rfl rfl ?_
  refine x_iconst C dL_law_306 ?_
  refine x_iadd C dL_law_307 ?_
  refine x_sld C hX (by omega) (by omega) dL_law_308 ?_
  refine x_aload_n C 0 dL_law_309 rfl rfl ?_
  refine x_iload_n C 3 dL_law_310 rfl rfl ?_
  refine x_iconst C dL_law_311 ?_
  refine x_iadd C dL_law_312 ?_
  refine x_sld C hX (by omega) (by omega) dL_law_313 ?_
  refine x_aload_n C 0 dL_law_314 rfl rfl ?_
  refine x_iload_n C 3 dL_law_315 rfl rfl ?_
  refine x_iconst C dL_law_316 ?_
  refine x_iadd C dL_law_317 ?_
  refine x_sld C hX (by omega) (by omega) dL_law_318 ?_
  refine x_aload_n C 0 dL_law_319 rfl rfl ?_
  refine x_iload_n C 3 dL_law_320 rfl rfl ?_
  refine x_iconst C dL_law_321 ?_
  refine x_iadd C dL_law_322 ?_
  refine x_sld C hX (by omega) (by omega) dL_law_323 ?_
  obtain ⟨post1, hc1, hp1⟩ := pr_fault (G := G) (q := scr xs (i + 1)) (a := scr xs (i + 2)) (s := scr xs (i + 3)) (z := scr xs (i + 4)) h (scr_rg _ _) (scr_rg _ _) (scr_rg _ _) (scr_rg _ _)
  refine x_runU (r_callV C ok_Class 0 (lt67 h.h67 rfl) rfl (ce_X11_fault) hc1 rfl dL_law_324 q_16_13 q_16_14 q_16_15 rfl rfl ⟨Nat.le_of_ble_eq_true rfl, Nat.le_of_ble_eq_true rfl⟩ ⟨rfl, rfl⟩ ⟨(show cells + 1 ≤ 600000 from by omega), (show slots + 3 ≤ 7302250 from by omega)⟩ (Nat.le_of_ble_eq_true rfl)) (fun v1 u1 hv1 => ?_)
  obtain ⟨r, rfl, h671, post2, hc2, hp2⟩ := hp1 v1 u1 hv1
  obtain ⟨n1, V1, R1⟩ := u1
  show Xw K G (cells + 1) (slots + 3) Q n1 V1 R1 327 [(0, .ref b), (1, .ref (aG G 0)), (2, .ref (aG G 42)), (3, .int (iI i))] [iM r]
  refine x_aload_n C 2 dL_law_327 rfl rfl ?_
  refine x_aload_n C 0 dL_law_328 rfl rfl ?_
  refine x_iload_n C 3 dL_law_329 rfl rfl ?_
  refine x_iconst C dL_law_330 ?_
  refine x_iadd C dL_law_331 ?_
  refine x_sld C hX (by omega) (by omega) dL_law_332 ?_
  refine x_aload_n C 0 dL_law_333 rfl rfl ?_
  refine x_iload_n C 3 dL_law_334 rfl rfl ?_
  refine x_iconst C dL_law_335 ?_
  refine x_iadd C dL_law_336 ?_
  refine x_sld C hX (by omega) (by omega) dL_law_337 ?_
  refine x_aload_n C 0 dL_law_338 rfl rfl ?_
  refine x_iload_n C 3 dL_law_339 rfl rfl ?_
  refine x_iconst C dL_law_340 ?_
  refine x_iadd C dL_law_341 ?_
  refine x_sld C hX (by omega) (by omega) dL_law_342 ?_
  refine x_aload_n C 0 dL_law_343 rfl rfl ?_
  refine x_iload_n C 3 dL_law_344 rfl rfl ?_
  refine x_iconst C dL_law_345 ?_
  refine x_iadd C dL_law_346 ?_
  refine x_sld C hX (by omega) (by omega) dL_law_347 ?_
  refine x_runU (r_callV C ok_Model 42 (lt67 h671 rfl) rfl (ce_X12_fault) hc2 rfl dL_law_348 q_16_17 q_16_18 q_16_19 rfl rfl ⟨Nat.le_of_ble_eq_true rfl, Nat.le_of_ble_eq_true rfl⟩ ⟨rfl, rfl⟩ ⟨(show cells + 1 + 0 ≤ 600000 from by omega), (show slots + 3 + 0 ≤ 7302250 from by omega)⟩ (Nat.le_of_ble_eq_true rfl)) (fun v2 u2 hv2 => ?_)
  obtain ⟨rfl, hR⟩ := hp2 v2 u2 hv2
  obtain ⟨n2, V2, R2⟩ := u2
  show Xw K G (cells + 1 + 0) (slots + 3 + 0) Q n2 V2 R2 351 [(0, .ref b), (1, .ref (aG G 0)), (2, .ref (aG G 42)), (3, .int (iI i))] [iM r, iM r]
  refine x_sameI C dL_law_351 (tgt := 1271) (by decide) ?_
  refine x_wid (cells' := cells + 64) (slots' := slots + 192) (by omega) (by omega) ?_
  exact kk _ _ _ hR
set_option maxRecDepth 100000 in
set_option maxHeartbeats 4000000 in
theorem cs_4 {K : XS} {G : GS} {cells slots : Nat} {Q : State → Prop} {n : Nat} {V : Nat → Int → Int} {R : Nat → Int → Option Nat} {ret0 : Option FieldType} {b L : Nat} {xs : Nat → Int32} (C : Cx K G cL_law RL 4 ret0 room_1) (hX : LawX K G b L xs) (hL : L ≤ 3584) {i : Int} (hi : 0 ≤ i ∧ i + 7 ≤ L) (h : Rel n V R) (hcs : cells + 64 ≤ 600000 ∧ slots + 192 ≤ 7302250) (kk : ∀ n2 V2 R2, Rel n2 V2 R2 → Xw K G (cells + 64) (slots + 192) Q n2 V2 R2 1271 [(0, .ref b), (1, .ref (aG G 0)), (2, .ref (aG G 42)), (3, .int (iI i))] []) : Xw K G cells slots Q n V R 356 [(0, .ref b), (1, .ref (aG G 0)), (2, .ref (aG G 42)), (3, .int (iI i))] [] := by
  refine x_aload_n C 1 dL_law_356 rfl rfl ?_
  refine x_aload_n C 0 dL_law_357 rfl rfl ?_
  refine x_iload_n C 3 dL_law_358 rfl rfl ?_
  refine x_iconst C dL_law_359 ?_
  refine x_iadd C dL_law_360 ?_
  refine x_sld C hX (by omega) (by omega) dL_law_361 ?_
  obtain ⟨post1, hc1, hp1⟩ := pr_heal (G := G) (f := scr xs (i + 1)) h (scr_rg _ _)
  refine x_runU (r_callV C ok_Class 0 (lt67 h.h67 rfl) rfl (ce_X11_heal) hc1 rfl dL_law_362 q_17_2 q_17_3 q_17_4 rfl rfl ⟨Nat.le_of_ble_eq_true rfl, Nat.le_of_ble_eq_true rfl⟩ ⟨rfl, rfl⟩ ⟨(show cells + 0 ≤ 600000 from by omega), (show slots + 0 ≤ 7302250 from by omega)⟩ (Nat.le_of_ble_eq_true rfl)) (fun v1 u1 hv1 => ?_)
  obtain ⟨r, rfl, h671, post2, hc2, hp2⟩ := hp1 v1 u1 hv1
  obtain ⟨n1, V1, R1⟩ := u1
  show Xw K G (cells + 0) (slots + 0) Q n1 V1 R1 365 [(0, .ref b), (1, .ref (aG G 0)), (2, .ref (aG G 42)), (3, .int (iI i))] [iM r]
  refine x_aload_n C 2 dL_law_365 rfl rfl ?_
  refine x_aload_n C 0 dL_law_366 rfl rfl ?_
  refine x_iload_n C 3 dL_law_367 rfl rfl ?_
  refine x_iconst C dL_law_368 ?_
  refine x_iadd C dL_law_369 ?_
  refine x_sld C hX (by omega) (by omega) dL_law_370 ?_
  refine x_runU (r_callV C ok_Model 42 (lt67 h671 rfl) rfl (ce_X12_heal) hc2 rfl dL_law_371 q_17_14 q_17_15 q_17_16 rfl rfl ⟨Nat.le_of_ble_eq_true rfl, Nat.le_of_ble_eq_true rfl⟩ ⟨rfl, rfl⟩ ⟨(show cells + 0 + 0 ≤ 600000 from by omega), (show slots + 0 + 0 ≤ 7302250 from by omega)⟩ (Nat.le_of_ble_eq_true rfl)) (fun v2 u2 hv2 => ?_)
  obtain ⟨rfl, hR⟩ := hp2 v2 u2 hv2
  obtain ⟨n2, V2, R2⟩ := u2
  show Xw K G (cells + 0 + 0) (slots + 0 + 0) Q n2 V2 R2 374 [(0, .ref b), (1, .ref (aG G 0)), (2, .ref (aG G 42)), (3, .int (iI i))] [iM r, iM r]
  refine x_sameI C dL_law_374 (tgt := 1271) (by decide) ?_
  refine x_wid (cells' := cells + 64) (slots' := slots + 192) (by omega) (by omega) ?_
  exact kk _ _ _ hR
set_option maxRecDepth 100000 in
set_option maxHeartbeats 4000000 in
theorem cs_5 {K : XS} {G : GS} {cells slots : Nat} {Q : State → Prop} {n : Nat} {V : Nat → Int → Int} {R : Nat → Int → Option Nat} {ret0 : Option FieldType} {b L : Nat} {xs : Nat → Int32} (C : Cx K G cL_law RL 4 ret0 room_1) (hX : LawX K G b L xs) (hL : L ≤ 3584) {i : Int} (hi : 0 ≤ i ∧ i + 7 ≤ L) (h : Rel n V R) (hcs : cells + 64 ≤ 600000 ∧ slots + 192 ≤ 7302250) (kk : ∀ n2 V2 R2, Rel n2 V2 R2 → Xw K G (cells + 64) (slots + 192) Q n2 V2 R2 1271 [(0, .ref b), (1, .ref (aG G 0)), (2, .ref (aG G 42)), (3, .int (iI i))] []) : Xw K G cells slots Q n V R 379 [(0, .ref b), (1, .ref (aG G 0)), (2, .ref (aG G 42)), (3, .int (iI i))] [] := by
  refine x_aload_n C 1 dL_law_379 rfl rfl ?_
  refine x_aload_n C 0 dL_law_380 rfl rfl ?_
  refine x_iload_n C 3 dL_law_381 rfl rfl ?_
  refine x_iconst C dL_law_382 ?_
  refine x_iadd C dL_law_383 ?_
  refine x_sld C hX (by omega) (by omega) dL_law_384 ?_
  refine x_aload_n C 0 dL_law_385 rfl rfl ?_
  refine x_iload_n C 3 dL_law_386 rfl rfl ?_
  refine x_iconst C dL_law_387 ?_
  refine x_iadd C dL_law_388 ?_
  refine x_sld C hX (by omega) (by omega) dL_law_389 ?_
  obtain ⟨post1, hc1, hp1⟩ := pr_told (G := G) (f := scr xs (i + 1)) (w := scr xs (i + 2)) h (scr_rg _ _) (scr_rg _ _)
  refine x_runU (r_callV C ok_Class 0 (lt67 h.h67 rfl) rfl (ce_X11_told) hc1 rfl dL_law_390 q_17_22 q_17_23 q_18_0 rfl rfl ⟨Nat.le_of_ble_eq_true rfl, Nat.le_of_ble_eq_true rfl⟩ ⟨rfl, rfl⟩ ⟨(show cells + 0 ≤ 600000 from by omega), (show slots + 0 ≤ 7302250 from by omega)⟩ (Nat.le_of_ble_eq_true rfl)) (fun v1 u1 hv1 => ?_)
  obtain ⟨r, rfl, h671, post2, hc2, hp2⟩ := hp1 v1 u1 hv1
  obtain ⟨n1, V1, R1⟩ := u1
  show Xw K G (cells + 0) (slots + 0) Q n1 V1 R1 393 [(0, .ref b), (1, .ref (aG G 0)), (2, .ref (aG G 42)), (3, .int (iI i))] [iM r]
  refine x_aload_n C 2 dL_law_393 rfl rfl ?_
  refine x_aload_n C 0 dL_law_394 rfl rfl ?_
  refine x_iload_n C 3 dL_law_395 rfl rfl ?_
  refine x_iconst C dL_law_396 ?_
  refine x_iadd C dL_law_397 ?_
  refine x_sld C hX (by omega) (by omega) dL_law_398 ?_
  refine x_aload_n C 0 dL_law_399 rfl rfl ?_
  refine x_iload_n C 3 dL_law_400 rfl rfl ?_
  refine x_iconst C dL_law_401 ?_
  refine x_iadd C dL_law_402 ?_
  refine x_sld C hX (by omega) (by omega) dL_law_403 ?_
  refine x_runU (r_callV C ok_Model 42 (lt67 h671 rfl) rfl (ce_X12_told) hc2 rfl dL_law_404 q_24_16 q_24_17 q_24_18 rfl rfl ⟨Nat.le_of_ble_eq_true rfl, Nat.le_of_ble_eq_true rfl⟩ ⟨rfl, rfl⟩ ⟨(show cells + 0 + 0 ≤ 600000 from by omega), (show slots + 0 + 0 ≤ 7302250 from by omega)⟩ (Nat.le_of_ble_eq_true rfl)) (fun v2 u2 hv2 => ?_)
  obtain ⟨rfl, hR⟩ := hp2 v2 u2 hv2
  obtain ⟨n2, V2, R2⟩ := u2
  show Xw K G (cells + 0 + 0) (slots + 0 + 0) Q n2 V2 R2 407 [(0, .ref b), (1, .ref (aG G 0)), (2, .ref (aG G 42)), (3, .int (iI i))] [iM r, iM r]
  refine x_sameI C dL_law_407 (tgt := 1271) (by decide) ?_
  refine x_wid (cells' := cells + 64) (slots' := slots + 192) (by omega) (by omega) ?_
  exact kk _ _ _ hR
set_option maxRecDepth 100000 in
set_option maxHeartbeats 4000000 in
theorem cs_6 {K : XS} {G : GS} {cells slots : Nat} {Q : State → Prop} {n : Nat} {V : Nat → Int → Int} {R : Nat → Int → Option Nat} {ret0 : Option FieldType} {b L : Nat} {xs : Nat → Int32} (C : Cx K G cL_law RL 4 ret0 room_1) (hX : LawX K G b L xs) (hL : L ≤ 3584) {i : Int} (hi : 0 ≤ i ∧ i + 7 ≤ L) (h : Rel n V R) (hcs : cells + 64 ≤ 600000 ∧ slots + 192 ≤ 7302250) (kk : ∀ n2 V2 R2, Rel n2 V2 R2 → Xw K G (cells + 64) (slots + 192) Q n2 V2 R2 1271 [(0, .ref b), (1, .ref (aG G 0)), (2, .ref (aG G 42)), (3, .int (iI i))] []) : Xw K G cells slots Q n V R 412 [(0, .ref b), (1, .ref (aG G 0)), (2, .ref (aG G 42)), (3, .int (iI i))] [] := by
  refine x_aload_n C 1 dL_law_412 rfl rfl ?_
  refine x_aload_n C 0 dL_law_413 rfl rfl ?_
  refine x_iload_n C 3 dL_law_414 rfl rfl ?_
  refine x_iconst C dL_law_415 ?_
  refine x_iadd C dL_law_416 ?_
  refine x_sld C hX (by omega) (by omega) dL_law_417 ?_
  refine x_aload_n C 0 dL_law_418 rfl rfl ?_
  refine x_iload_n C 3 dL_law_419 rfl rfl ?_
  refine x_iconst C dL_law_420 ?_
  refine x_iadd C dL_law_421 ?_
  refine x_sld C hX (by omega) (by omega) dL_law_422 ?_
  obtain ⟨post1, hc1, hp1⟩ := pr_taken (G := G) (f := scr xs (i + 1)) (w := scr xs (i + 2)) h (scr_rg _ _) (scr_rg _ _)
  refine x_runU (r_callV C ok_Class 0 (lt67 h.h67 rfl) rfl (ce_X11_taken) hc1 rfl dL_law_423 q_25_23 q_26_0 q_26_1 rfl rfl ⟨Nat.le_of_ble_eq_true rfl, Nat.le_of_ble_eq_true rfl⟩ ⟨rfl, rfl⟩ ⟨(show cells + 0 ≤ 600000 from by omega), (show slots + 0 ≤ 7302250 from by omega)⟩ (Nat.le_of_ble_eq_true rfl)) (fun v1 u1 hv1 => ?_)
  obtain ⟨r, rfl, h671, post2, hc2, hp2⟩ := hp1 v1 u1 hv1
  obtain ⟨n1, V1, R1⟩ := u1
  show Xw K G (cells + 0) (slots + 0) Q n1 V1 R1 426 [(0, .ref b), (1, .ref (aG G 0)), (2, .ref (aG G 42)), (3, .int (iI i))] [iM r]
  refine x_aload_n C 2 dL_law_426 rfl rfl ?_
  refine x_aload_n C 0 dL_law_427 rfl rfl ?_
  refine x_iload_n C 3 dL_law_428 rfl rfl ?_
  refine x_iconst C dL_law_429 ?_
  refine x_iadd C dL_law_430 ?_
  refine x_sld C hX (by omega) (by omega) dL_law_431 ?_
  refine x_aload_n C 0 dL_law_432 rfl rfl ?_
  refine x_iload_n C 3 dL_law_433 rfl rfl ?_
  refine x_iconst C dL_law_434 ?_
  refine x_iadd C dL_law_435 ?_
  refine x_sld C hX (by omega) (by omega) dL_law_436 ?_
  refine x_runU (r_callV C ok_Model 42 (lt67 h671 rfl) rfl (ce_X12_taken) hc2 rfl dL_law_437 q_27_1 q_27_2 q_27_3 rfl rfl ⟨Nat.le_of_ble_eq_true rfl, Nat.le_of_ble_eq_true rfl⟩ ⟨rfl, rfl⟩ ⟨(show cells + 0 + 0 ≤ 600000 from by omega), (show slots + 0 + 0 ≤ 7302250 from by omega)⟩ (Nat.le_of_ble_eq_true rfl)) (fun v2 u2 hv2 => ?_)
  obtain ⟨rfl, hR⟩ := hp2 v2 u2 hv2
  obtain ⟨n2, V2, R2⟩ := u2
  show Xw K G (cells + 0 + 0) (slots + 0 + 0) Q n2 V2 R2 440 [(0, .ref b), (1, .ref (aG G 0)), (2, .ref (aG G 42)), (3, .int (iI i))] [iM r, iM r]
  refine x_sameI C dL_law_440 (tgt := 1271) (by decide) ?_
  refine x_wid (cells' := cells + 64) (slots' := slots + 192) (by omega) (by omega) ?_
  exact kk _ _ _ hR
set_option maxRecDepth 100000 in
set_option maxHeartbeats 4000000 in
theorem cs_7 {K : XS} {G : GS} {cells slots : Nat} {Q : State → Prop} {n : Nat} {V : Nat → Int → Int} {R : Nat → Int → Option Nat} {ret0 : Option FieldType} {b L : Nat} {xs : Nat → Int32} (C : Cx K G cL_law RL 4 ret0 room_1) (hX : LawX K G b L xs) (hL : L ≤ 3584) {i : Int} (hi : 0 ≤ i ∧ i + 7 ≤ L) (h : Rel n V R) (hcs : cells + 64 ≤ 600000 ∧ slots + 192 ≤ 7302250) (kk : ∀ n2 V2 R2, Rel n2 V2 R2 → Xw K G (cells + 64) (slots + 192) Q n2 V2 R2 1271 [(0, .ref b), (1, .ref (aG G 0)), (2, .ref (aG G 42)), (3, .int (iI i))] []) : Xw K G cells slots Q n V R 445 [(0, .ref b), (1, .ref (aG G 0)), (2, .ref (aG G 42)), (3, .int (iI i))] [] := by
  refine x_aload_n C 1 dL_law_445 rfl rfl ?_
  refine x_aload_n C 0 dL_law_446 rfl rfl ?_
  refine x_iload_n C 3 dL_law_447 rfl rfl ?_
  refine x_iconst C dL_law_448 ?_
  refine x_iadd C dL_law_449 ?_
  refine x_sld C hX (by omega) (by omega) dL_law_450 ?_
  obtain ⟨post1, hc1, hp1⟩ := pr_turn (G := G) (t := scr xs (i + 1)) h (scr_rg _ _)
  refine x_runU (r_callV C ok_Class 0 (lt67 h.h67 rfl) rfl (ce_X11_turn) hc1 rfl dL_law_451 q_27_8 q_27_9 q_27_10 rfl rfl ⟨Nat.le_of_ble_eq_true rfl, Nat.le_of_ble_eq_true rfl⟩ ⟨rfl, rfl⟩ ⟨(show cells + 0 ≤ 600000 from by omega), (show slots + 0 ≤ 7302250 from by omega)⟩ (Nat.le_of_ble_eq_true rfl)) (fun v1 u1 hv1 => ?_)
  obtain ⟨r, rfl, h671, post2, hc2, hp2⟩ := hp1 v1 u1 hv1
  obtain ⟨n1, V1, R1⟩ := u1
  show Xw K G (cells + 0) (slots + 0) Q n1 V1 R1 454 [(0, .ref b), (1, .ref (aG G 0)), (2, .ref (aG G 42)), (3, .int (iI i))] [iM r]
  refine x_aload_n C 2 dL_law_454 rfl rfl ?_
  refine x_aload_n C 0 dL_law_455 rfl rfl ?_
  refine x_iload_n C 3 dL_law_456 rfl rfl ?_
  refine x_iconst C dL_law_457 ?_
  refine x_iadd C dL_law_458 ?_
  refine x_sld C hX (by omega) (by omega) dL_law_459 ?_
  refine x_runU (r_callV C ok_Model 42 (lt67 h671 rfl) rfl (ce_X12_turn) hc2 rfl dL_law_460 q_27_13 q_27_14 q_27_15 rfl rfl ⟨Nat.le_of_ble_eq_true rfl, Nat.le_of_ble_eq_true rfl⟩ ⟨rfl, rfl⟩ ⟨(show cells + 0 + 0 ≤ 600000 from by omega), (show slots + 0 + 0 ≤ 7302250 from by omega)⟩ (Nat.le_of_ble_eq_true rfl)) (fun v2 u2 hv2 => ?_)
  obtain ⟨rfl, hR⟩ := hp2 v2 u2 hv2
  obtain ⟨n2, V2, R2⟩ := u2
  show Xw K G (cells + 0 + 0) (slots + 0 + 0) Q n2 V2 R2 463 [(0, .ref b), (1, .ref (aG G 0)), (2, .ref (aG G 42)), (3, .int (iI i))] [iM r, iM r]
  refine x_sameI C dL_law_463 (tgt := 1271) (by decide) ?_
  refine x_wid (cells' := cells + 64) (slots' := slots + 192) (by omega) (by omega) ?_
  exact kk _ _ _ hR
