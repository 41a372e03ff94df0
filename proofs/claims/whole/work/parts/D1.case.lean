/-! the law: a call of the script, class and reference answer alike -/
set_option maxRecDepth 100000 in
set_option maxHeartbeats 4000000 in
theorem lc_feed {E : Ev} {M : Mm} {N : Nn} {L0 : Nat} {xs : Nat → Int32} {i : Int} {cl sl : Nat} (hX : EC E L0 xs) (i0 : 0 ≤ i) (i1 : i + 6 ≤ L0) (hcl : Nat.ble cl room_1.cells = true ∧ Nat.ble sl room_1.slots = true) (hI : Iv M N) (hK : ∀ (M1 : Mm) (N1 : Nn), Iv M1 N1 → Go E RL cL_law 7 ((some .boolean)) room_1 cl sl (zLw E) 1299 [vr (1, 0, 0), vr (3, 0, 0), vr (29, 0, 0), vr (31, 0, 0), vi i, vn, vn] [] M1 N1) : Go E RL cL_law 7 ((some .boolean)) room_1 cl sl (zLw E) 176 [vr (1, 0, 0), vr (3, 0, 0), vr (29, 0, 0), vr (31, 0, 0), vi i, vn, vn] [] M N := by
  have x3 := hX.2.2
  refine go_aload_n dL_law_176 rfl rfl ?_
  refine go_aload_n dL_law_177 rfl rfl ?_
  refine go_iload dL_law_178 rfl ?_
  refine go_iconst dL_law_180 (R32_lit rfl) ?_
  refine go_iaddc dL_law_181 ⟨by omega, by omega⟩ ?_
  refine go_scr hX dL_law_182 (by omega) (by omega) ?_
  refine go_aload_n dL_law_183 rfl rfl ?_
  refine go_iload dL_law_184 rfl ?_
  refine go_iconst dL_law_186 (R32_lit rfl) ?_
  refine go_iaddc dL_law_187 ⟨by omega, by omega⟩ ?_
  refine go_scr hX dL_law_188 (by omega) (by omega) ?_
  refine go_aload_n dL_law_189 rfl rfl ?_
  refine go_iload dL_law_190 rfl ?_
  refine go_iconst dL_law_192 (R32_lit rfl) ?_
  refine go_iaddc dL_law_193 ⟨by omega, by omega⟩ ?_
  refine go_scr hX dL_law_194 (by omega) (by omega) ?_
  refine go_aload_n dL_law_195 rfl rfl ?_
  refine go_iload dL_law_196 rfl ?_
  refine go_iconst dL_law_198 (R32_lit rfl) ?_
  refine go_iaddc dL_law_199 ⟨by omega, by omega⟩ ?_
  refine go_scr hX dL_law_200 (by omega) (by omega) ?_
  refine go_aload_n dL_law_201 rfl rfl ?_
  refine go_iload dL_law_202 rfl ?_
  refine go_iconst dL_law_204 (R32_lit rfl) ?_
  refine go_iaddc dL_law_205 ⟨by omega, by omega⟩ ?_
  refine go_scr hX dL_law_206 (by omega) (by omega) ?_
  obtain ⟨P7, c7, h7⟩ := cs_feed (E := E) (a := sc xs (i + 1)) (b := sc xs (i + 2)) (c := sc xs (i + 3)) (d := sc xs (i + 4)) (e := sc xs (i + 5)) hI
  refine vL_19 dL_law_207 rfl ⟨rfl, rfl⟩ hcl c7 (fun r1 M1 N1 hr1 hq1 => ?_)
  obtain ⟨P8, c8, h8⟩ := h7 r1 M1 N1 hq1
  refine go_aload_n dL_law_210 rfl rfl ?_
  refine go_aload_n dL_law_211 rfl rfl ?_
  refine go_iload dL_law_212 rfl ?_
  refine go_iconst dL_law_214 (R32_lit rfl) ?_
  refine go_iaddc dL_law_215 ⟨by omega, by omega⟩ ?_
  refine go_scr hX dL_law_216 (by omega) (by omega) ?_
  refine go_aload_n dL_law_217 rfl rfl ?_
  refine go_iload dL_law_218 rfl ?_
  refine go_iconst dL_law_220 (R32_lit rfl) ?_
  refine go_iaddc dL_law_221 ⟨by omega, by omega⟩ ?_
  refine go_scr hX dL_law_222 (by omega) (by omega) ?_
  refine go_aload_n dL_law_223 rfl rfl ?_
  refine go_iload dL_law_224 rfl ?_
  refine go_iconst dL_law_226 (R32_lit rfl) ?_
  refine go_iaddc dL_law_227 ⟨by omega, by omega⟩ ?_
  refine go_scr hX dL_law_228 (by omega) (by omega) ?_
  refine go_aload_n dL_law_229 rfl rfl ?_
  refine go_iload dL_law_230 rfl ?_
  refine go_iconst dL_law_232 (R32_lit rfl) ?_
  refine go_iaddc dL_law_233 ⟨by omega, by omega⟩ ?_
  refine go_scr hX dL_law_234 (by omega) (by omega) ?_
  refine go_aload_n dL_law_235 rfl rfl ?_
  refine go_iload dL_law_236 rfl ?_
  refine go_iconst dL_law_238 (R32_lit rfl) ?_
  refine go_iaddc dL_law_239 ⟨by omega, by omega⟩ ?_
  refine go_scr hX dL_law_240 (by omega) (by omega) ?_
  refine vL_23 dL_law_241 rfl ⟨rfl, rfl⟩ hcl c8 (fun r2 M2 N2 hr2 hq2 => ?_)
  obtain ⟨he, hI2⟩ := h8 r2 M2 N2 hq2
  exact go_icmp_eq (tgt := 1299) dL_law_244 rfl (fun _ => hK M2 N2 hI2) (fun z => absurd he z)
set_option maxRecDepth 100000 in
set_option maxHeartbeats 4000000 in
theorem lc_program {E : Ev} {M : Mm} {N : Nn} {L0 : Nat} {xs : Nat → Int32} {i : Int} {cl sl : Nat} (hX : EC E L0 xs) (i0 : 0 ≤ i) (i1 : i + 6 ≤ L0) (hN : EN E) (hE : ES E) (hcl : Nat.ble cl room_1.cells = true ∧ Nat.ble sl room_1.slots = true) (hI : Iv M N) (hK : ∀ (M1 : Mm) (N1 : Nn), Iv M1 N1 → Go E RL cL_law 7 ((some .boolean)) room_1 cl sl (zLw E) 1299 [vr (1, 0, 0), vr (3, 0, 0), vr (29, 0, 0), vr (31, 0, 0), vi i, vn, vn] [] M1 N1) : Go E RL cL_law 7 ((some .boolean)) room_1 cl sl (zLw E) 249 [vr (1, 0, 0), vr (3, 0, 0), vr (29, 0, 0), vr (31, 0, 0), vi i, vn, vn] [] M N := by
  have x3 := hX.2.2
  refine go_aload_n dL_law_249 rfl rfl ?_
  refine go_aload_n dL_law_250 rfl rfl ?_
  refine go_iload dL_law_251 rfl ?_
  refine go_iconst dL_law_253 (R32_lit rfl) ?_
  refine go_iaddc dL_law_254 ⟨by omega, by omega⟩ ?_
  refine go_scr hX dL_law_255 (by omega) (by omega) ?_
  obtain ⟨P7, c7, h7⟩ := cs_program (E := E) (n := sc xs (i + 1)) hN hE hI
  refine vL_24 dL_law_256 rfl ⟨rfl, rfl⟩ hcl c7 (fun r1 M1 N1 hr1 hq1 => ?_)
  obtain ⟨P8, c8, h8⟩ := h7 r1 M1 N1 hq1
  refine go_aload_n dL_law_259 rfl rfl ?_
  refine go_aload_n dL_law_260 rfl rfl ?_
  refine go_iload dL_law_261 rfl ?_
  refine go_iconst dL_law_263 (R32_lit rfl) ?_
  refine go_iaddc dL_law_264 ⟨by omega, by omega⟩ ?_
  refine go_scr hX dL_law_265 (by omega) (by omega) ?_
  refine vL_27 dL_law_266 rfl ⟨rfl, rfl⟩ hcl c8 (fun r2 M2 N2 hr2 hq2 => ?_)
  obtain ⟨he, hI2⟩ := h8 r2 M2 N2 hq2
  exact go_icmp_eq (tgt := 1299) dL_law_269 rfl (fun _ => hK M2 N2 hI2) (fun z => absurd he z)
set_option maxRecDepth 100000 in
set_option maxHeartbeats 4000000 in
theorem lc_fault {E : Ev} {M : Mm} {N : Nn} {L0 : Nat} {xs : Nat → Int32} {i : Int} {cl sl : Nat} (hX : EC E L0 xs) (i0 : 0 ≤ i) (i1 : i + 6 ≤ L0) (hcl : Nat.ble cl room_1.cells = true ∧ Nat.ble sl room_1.slots = true) (hI : Iv M N) (hK : ∀ (M1 : Mm) (N1 : Nn), Iv M1 N1 → Go E RL cL_law 7 ((some .boolean)) room_1 cl sl (zLw E) 1299 [vr (1, 0, 0), vr (3, 0, 0), vr (29, 0, 0), vr (31, 0, 0), vi i, vn, vn] [] M1 N1) : Go E RL cL_law 7 ((some .boolean)) room_1 cl sl (zLw E) 274 [vr (1, 0, 0), vr (3, 0, 0), vr (29, 0, 0), vr (31, 0, 0), vi i, vn, vn] [] M N := by
  have x3 := hX.2.2
  refine go_aload_n dL_law_274 rfl rfl ?_
  obtain ⟨P7, c7, h7⟩ := cs_fault (E := E)  hI
  refine vL_28 dL_law_275 rfl ⟨rfl, rfl⟩ hcl c7 (fun r1 M1 N1 hr1 hq1 => ?_)
  obtain ⟨P8, c8, h8⟩ := h7 r1 M1 N1 hq1
  refine go_aload_n dL_law_278 rfl rfl ?_
  refine vL_32 dL_law_279 rfl ⟨rfl, rfl⟩ hcl c8 (fun r2 M2 N2 hr2 hq2 => ?_)
  obtain ⟨he, hI2⟩ := h8 r2 M2 N2 hq2
  exact go_icmp_eq (tgt := 1299) dL_law_282 rfl (fun _ => hK M2 N2 hI2) (fun z => absurd he z)
set_option maxRecDepth 100000 in
set_option maxHeartbeats 4000000 in
theorem lc_where {E : Ev} {M : Mm} {N : Nn} {L0 : Nat} {xs : Nat → Int32} {i : Int} {cl sl : Nat} (hX : EC E L0 xs) (i0 : 0 ≤ i) (i1 : i + 6 ≤ L0) (hcl : Nat.ble cl room_1.cells = true ∧ Nat.ble sl room_1.slots = true) (hI : Iv M N) (hK : ∀ (M1 : Mm) (N1 : Nn), Iv M1 N1 → Go E RL cL_law 7 ((some .boolean)) room_1 cl sl (zLw E) 1299 [vr (1, 0, 0), vr (3, 0, 0), vr (29, 0, 0), vr (31, 0, 0), vi i, vn, vn] [] M1 N1) : Go E RL cL_law 7 ((some .boolean)) room_1 cl sl (zLw E) 287 [vr (1, 0, 0), vr (3, 0, 0), vr (29, 0, 0), vr (31, 0, 0), vi i, vn, vn] [] M N := by
  have x3 := hX.2.2
  refine go_aload_n dL_law_287 rfl rfl ?_
  obtain ⟨P7, c7, h7⟩ := cs_where (E := E)  hI
  refine vL_33 dL_law_288 rfl ⟨rfl, rfl⟩ hcl c7 (fun r1 M1 N1 hr1 hq1 => ?_)
  obtain ⟨P8, c8, h8⟩ := h7 r1 M1 N1 hq1
  refine go_aload_n dL_law_291 rfl rfl ?_
  refine vL_36 dL_law_292 rfl ⟨rfl, rfl⟩ hcl c8 (fun r2 M2 N2 hr2 hq2 => ?_)
  obtain ⟨he, hI2⟩ := h8 r2 M2 N2 hq2
  exact go_icmp_eq (tgt := 1299) dL_law_295 rfl (fun _ => hK M2 N2 hI2) (fun z => absurd he z)
set_option maxRecDepth 100000 in
set_option maxHeartbeats 4000000 in
theorem lc_about {E : Ev} {M : Mm} {N : Nn} {L0 : Nat} {xs : Nat → Int32} {i : Int} {cl sl : Nat} (hX : EC E L0 xs) (i0 : 0 ≤ i) (i1 : i + 6 ≤ L0) (hcl : Nat.ble cl room_1.cells = true ∧ Nat.ble sl room_1.slots = true) (hI : Iv M N) (hK : ∀ (M1 : Mm) (N1 : Nn), Iv M1 N1 → Go E RL cL_law 7 ((some .boolean)) room_1 cl sl (zLw E) 1299 [vr (1, 0, 0), vr (3, 0, 0), vr (29, 0, 0), vr (31, 0, 0), vi i, vn, vn] [] M1 N1) : Go E RL cL_law 7 ((some .boolean)) room_1 cl sl (zLw E) 300 [vr (1, 0, 0), vr (3, 0, 0), vr (29, 0, 0), vr (31, 0, 0), vi i, vn, vn] [] M N := by
  have x3 := hX.2.2
  refine go_aload_n dL_law_300 rfl rfl ?_
  refine go_aload_n dL_law_301 rfl rfl ?_
  refine go_iload dL_law_302 rfl ?_
  refine go_iconst dL_law_304 (R32_lit rfl) ?_
  refine go_iaddc dL_law_305 ⟨by omega, by omega⟩ ?_
  refine go_scr hX dL_law_306 (by omega) (by omega) ?_
  obtain ⟨P7, c7, h7⟩ := cs_about (E := E) (w := sc xs (i + 1)) hI
  refine vL_37 dL_law_307 rfl ⟨rfl, rfl⟩ hcl c7 (fun r1 M1 N1 hr1 hq1 => ?_)
  obtain ⟨P8, c8, h8⟩ := h7 r1 M1 N1 hq1
  refine go_aload_n dL_law_310 rfl rfl ?_
  refine go_aload_n dL_law_311 rfl rfl ?_
  refine go_iload dL_law_312 rfl ?_
  refine go_iconst dL_law_314 (R32_lit rfl) ?_
  refine go_iaddc dL_law_315 ⟨by omega, by omega⟩ ?_
  refine go_scr hX dL_law_316 (by omega) (by omega) ?_
  refine vL_40 dL_law_317 rfl ⟨rfl, rfl⟩ hcl c8 (fun r2 M2 N2 hr2 hq2 => ?_)
  obtain ⟨he, hI2⟩ := h8 r2 M2 N2 hq2
  exact go_icmp_eq (tgt := 1299) dL_law_320 rfl (fun _ => hK M2 N2 hI2) (fun z => absurd he z)
set_option maxRecDepth 100000 in
set_option maxHeartbeats 4000000 in
theorem lc_variable {E : Ev} {M : Mm} {N : Nn} {L0 : Nat} {xs : Nat → Int32} {i : Int} {cl sl : Nat} (hX : EC E L0 xs) (i0 : 0 ≤ i) (i1 : i + 6 ≤ L0) (hcl : Nat.ble cl room_1.cells = true ∧ Nat.ble sl room_1.slots = true) (hI : Iv M N) (hK : ∀ (M1 : Mm) (N1 : Nn), Iv M1 N1 → Go E RL cL_law 7 ((some .boolean)) room_1 cl sl (zLw E) 1299 [vr (1, 0, 0), vr (3, 0, 0), vr (29, 0, 0), vr (31, 0, 0), vi i, vn, vn] [] M1 N1) : Go E RL cL_law 7 ((some .boolean)) room_1 cl sl (zLw E) 325 [vr (1, 0, 0), vr (3, 0, 0), vr (29, 0, 0), vr (31, 0, 0), vi i, vn, vn] [] M N := by
  have x3 := hX.2.2
  refine go_aload_n dL_law_325 rfl rfl ?_
  refine go_aload_n dL_law_326 rfl rfl ?_
  refine go_iload dL_law_327 rfl ?_
  refine go_iconst dL_law_329 (R32_lit rfl) ?_
  refine go_iaddc dL_law_330 ⟨by omega, by omega⟩ ?_
  refine go_scr hX dL_law_331 (by omega) (by omega) ?_
  refine go_aload_n dL_law_332 rfl rfl ?_
  refine go_iload dL_law_333 rfl ?_
  refine go_iconst dL_law_335 (R32_lit rfl) ?_
  refine go_iaddc dL_law_336 ⟨by omega, by omega⟩ ?_
  refine go_scr hX dL_law_337 (by omega) (by omega) ?_
  obtain ⟨P7, c7, h7⟩ := cs_variable (E := E) (v := sc xs (i + 1)) (w := sc xs (i + 2)) hI
  refine vL_41 dL_law_338 rfl ⟨rfl, rfl⟩ hcl c7 (fun r1 M1 N1 hr1 hq1 => ?_)
  obtain ⟨P8, c8, h8⟩ := h7 r1 M1 N1 hq1
  refine go_aload_n dL_law_341 rfl rfl ?_
  refine go_aload_n dL_law_342 rfl rfl ?_
  refine go_iload dL_law_343 rfl ?_
  refine go_iconst dL_law_345 (R32_lit rfl) ?_
  refine go_iaddc dL_law_346 ⟨by omega, by omega⟩ ?_
  refine go_scr hX dL_law_347 (by omega) (by omega) ?_
  refine go_aload_n dL_law_348 rfl rfl ?_
  refine go_iload dL_law_349 rfl ?_
  refine go_iconst dL_law_351 (R32_lit rfl) ?_
  refine go_iaddc dL_law_352 ⟨by omega, by omega⟩ ?_
  refine go_scr hX dL_law_353 (by omega) (by omega) ?_
  refine vL_45 dL_law_354 rfl ⟨rfl, rfl⟩ hcl c8 (fun r2 M2 N2 hr2 hq2 => ?_)
  obtain ⟨he, hI2⟩ := h8 r2 M2 N2 hq2
  exact go_lcmp_eq (tgt := 1299) dL_law_357 dL_law_358 rfl (fun _ => hK M2 N2 hI2) (fun z => absurd he z)
set_option maxRecDepth 100000 in
set_option maxHeartbeats 4000000 in
theorem lc_operand {E : Ev} {M : Mm} {N : Nn} {L0 : Nat} {xs : Nat → Int32} {i : Int} {cl sl : Nat} (hX : EC E L0 xs) (i0 : 0 ≤ i) (i1 : i + 6 ≤ L0) (hcl : Nat.ble cl room_1.cells = true ∧ Nat.ble sl room_1.slots = true) (hI : Iv M N) (hK : ∀ (M1 : Mm) (N1 : Nn), Iv M1 N1 → Go E RL cL_law 7 ((some .boolean)) room_1 cl sl (zLw E) 1299 [vr (1, 0, 0), vr (3, 0, 0), vr (29, 0, 0), vr (31, 0, 0), vi i, vn, vn] [] M1 N1) : Go E RL cL_law 7 ((some .boolean)) room_1 cl sl (zLw E) 363 [vr (1, 0, 0), vr (3, 0, 0), vr (29, 0, 0), vr (31, 0, 0), vi i, vn, vn] [] M N := by
  have x3 := hX.2.2
  refine go_aload_n dL_law_363 rfl rfl ?_
  refine go_aload_n dL_law_364 rfl rfl ?_
  refine go_iload dL_law_365 rfl ?_
  refine go_iconst dL_law_367 (R32_lit rfl) ?_
  refine go_iaddc dL_law_368 ⟨by omega, by omega⟩ ?_
  refine go_scr hX dL_law_369 (by omega) (by omega) ?_
  refine go_aload_n dL_law_370 rfl rfl ?_
  refine go_iload dL_law_371 rfl ?_
  refine go_iconst dL_law_373 (R32_lit rfl) ?_
  refine go_iaddc dL_law_374 ⟨by omega, by omega⟩ ?_
  refine go_scr hX dL_law_375 (by omega) (by omega) ?_
  obtain ⟨P7, c7, h7⟩ := cs_operand (E := E) (v := sc xs (i + 1)) (k := sc xs (i + 2)) hI
  refine vL_46 dL_law_376 rfl ⟨rfl, rfl⟩ hcl c7 (fun r1 M1 N1 hr1 hq1 => ?_)
  obtain ⟨P8, c8, h8⟩ := h7 r1 M1 N1 hq1
  refine go_aload_n dL_law_379 rfl rfl ?_
  refine go_aload_n dL_law_380 rfl rfl ?_
  refine go_iload dL_law_381 rfl ?_
  refine go_iconst dL_law_383 (R32_lit rfl) ?_
  refine go_iaddc dL_law_384 ⟨by omega, by omega⟩ ?_
  refine go_scr hX dL_law_385 (by omega) (by omega) ?_
  refine go_aload_n dL_law_386 rfl rfl ?_
  refine go_iload dL_law_387 rfl ?_
  refine go_iconst dL_law_389 (R32_lit rfl) ?_
  refine go_iaddc dL_law_390 ⟨by omega, by omega⟩ ?_
  refine go_scr hX dL_law_391 (by omega) (by omega) ?_
  refine vL_50 dL_law_392 rfl ⟨rfl, rfl⟩ hcl c8 (fun r2 M2 N2 hr2 hq2 => ?_)
  obtain ⟨he, hI2⟩ := h8 r2 M2 N2 hq2
  exact go_icmp_eq (tgt := 1299) dL_law_395 rfl (fun _ => hK M2 N2 hI2) (fun z => absurd he z)
set_option maxRecDepth 100000 in
set_option maxHeartbeats 4000000 in
theorem lc_set {E : Ev} {M : Mm} {N : Nn} {L0 : Nat} {xs : Nat → Int32} {i : Int} {cl sl : Nat} (hX : EC E L0 xs) (i0 : 0 ≤ i) (i1 : i + 6 ≤ L0) (hcl : Nat.ble cl room_1.cells = true ∧ Nat.ble sl room_1.slots = true) (hI : Iv M N) (hK : ∀ (M1 : Mm) (N1 : Nn), Iv M1 N1 → Go E RL cL_law 7 ((some .boolean)) room_1 cl sl (zLw E) 1299 [vr (1, 0, 0), vr (3, 0, 0), vr (29, 0, 0), vr (31, 0, 0), vi i, vn, vn] [] M1 N1) : Go E RL cL_law 7 ((some .boolean)) room_1 cl sl (zLw E) 400 [vr (1, 0, 0), vr (3, 0, 0), vr (29, 0, 0), vr (31, 0, 0), vi i, vn, vn] [] M N := by
  have x3 := hX.2.2
  refine go_aload_n dL_law_400 rfl rfl ?_
  refine go_aload_n dL_law_401 rfl rfl ?_
  refine go_iload dL_law_402 rfl ?_
  refine go_iconst dL_law_404 (R32_lit rfl) ?_
  refine go_iaddc dL_law_405 ⟨by omega, by omega⟩ ?_
  refine go_scr hX dL_law_406 (by omega) (by omega) ?_
  refine go_aload_n dL_law_407 rfl rfl ?_
  refine go_iload dL_law_408 rfl ?_
  refine go_iconst dL_law_410 (R32_lit rfl) ?_
  refine go_iaddc dL_law_411 ⟨by omega, by omega⟩ ?_
  refine go_scr hX dL_law_412 (by omega) (by omega) ?_
  obtain ⟨P7, c7, h7⟩ := cs_set (E := E) (v := sc xs (i + 1)) (k := sc xs (i + 2)) hI
  refine vL_51 dL_law_413 rfl ⟨rfl, rfl⟩ hcl c7 (fun r1 M1 N1 hr1 hq1 => ?_)
  obtain ⟨P8, c8, h8⟩ := h7 r1 M1 N1 hq1
  refine go_aload_n dL_law_416 rfl rfl ?_
  refine go_aload_n dL_law_417 rfl rfl ?_
  refine go_iload dL_law_418 rfl ?_
  refine go_iconst dL_law_420 (R32_lit rfl) ?_
  refine go_iaddc dL_law_421 ⟨by omega, by omega⟩ ?_
  refine go_scr hX dL_law_422 (by omega) (by omega) ?_
  refine go_aload_n dL_law_423 rfl rfl ?_
  refine go_iload dL_law_424 rfl ?_
  refine go_iconst dL_law_426 (R32_lit rfl) ?_
  refine go_iaddc dL_law_427 ⟨by omega, by omega⟩ ?_
  refine go_scr hX dL_law_428 (by omega) (by omega) ?_
  refine vL_55 dL_law_429 rfl ⟨rfl, rfl⟩ hcl c8 (fun r2 M2 N2 hr2 hq2 => ?_)
  obtain ⟨he, hI2⟩ := h8 r2 M2 N2 hq2
  exact go_icmp_eq (tgt := 1299) dL_law_432 rfl (fun _ => hK M2 N2 hI2) (fun z => absurd he z)
set_option maxRecDepth 100000 in
set_option maxHeartbeats 4000000 in
theorem lc_at {E : Ev} {M : Mm} {N : Nn} {L0 : Nat} {xs : Nat → Int32} {i : Int} {cl sl : Nat} (hX : EC E L0 xs) (i0 : 0 ≤ i) (i1 : i + 6 ≤ L0) (hcl : Nat.ble cl room_1.cells = true ∧ Nat.ble sl room_1.slots = true) (hI : Iv M N) (hK : ∀ (M1 : Mm) (N1 : Nn), Iv M1 N1 → Go E RL cL_law 7 ((some .boolean)) room_1 cl sl (zLw E) 1299 [vr (1, 0, 0), vr (3, 0, 0), vr (29, 0, 0), vr (31, 0, 0), vi i, vn, vn] [] M1 N1) : Go E RL cL_law 7 ((some .boolean)) room_1 cl sl (zLw E) 437 [vr (1, 0, 0), vr (3, 0, 0), vr (29, 0, 0), vr (31, 0, 0), vi i, vn, vn] [] M N := by
  have x3 := hX.2.2
  refine go_aload_n dL_law_437 rfl rfl ?_
  refine go_aload_n dL_law_438 rfl rfl ?_
  refine go_iload dL_law_439 rfl ?_
  refine go_iconst dL_law_441 (R32_lit rfl) ?_
  refine go_iaddc dL_law_442 ⟨by omega, by omega⟩ ?_
  refine go_scr hX dL_law_443 (by omega) (by omega) ?_
  refine go_aload_n dL_law_444 rfl rfl ?_
  refine go_iload dL_law_445 rfl ?_
  refine go_iconst dL_law_447 (R32_lit rfl) ?_
  refine go_iaddc dL_law_448 ⟨by omega, by omega⟩ ?_
  refine go_scr hX dL_law_449 (by omega) (by omega) ?_
  obtain ⟨P7, c7, h7⟩ := cs_at (E := E) (v := sc xs (i + 1)) (w := sc xs (i + 2)) hI
  refine vL_56 dL_law_450 rfl ⟨rfl, rfl⟩ hcl c7 (fun r1 M1 N1 hr1 hq1 => ?_)
  obtain ⟨P8, c8, h8⟩ := h7 r1 M1 N1 hq1
  refine go_aload_n dL_law_453 rfl rfl ?_
  refine go_aload_n dL_law_454 rfl rfl ?_
  refine go_iload dL_law_455 rfl ?_
  refine go_iconst dL_law_457 (R32_lit rfl) ?_
  refine go_iaddc dL_law_458 ⟨by omega, by omega⟩ ?_
  refine go_scr hX dL_law_459 (by omega) (by omega) ?_
  refine go_aload_n dL_law_460 rfl rfl ?_
  refine go_iload dL_law_461 rfl ?_
  refine go_iconst dL_law_463 (R32_lit rfl) ?_
  refine go_iaddc dL_law_464 ⟨by omega, by omega⟩ ?_
  refine go_scr hX dL_law_465 (by omega) (by omega) ?_
  refine vL_59 dL_law_466 rfl ⟨rfl, rfl⟩ hcl c8 (fun r2 M2 N2 hr2 hq2 => ?_)
  obtain ⟨he, hI2⟩ := h8 r2 M2 N2 hq2
  exact go_lcmp_eq (tgt := 1299) dL_law_469 dL_law_470 rfl (fun _ => hK M2 N2 hI2) (fun z => absurd he z)
set_option maxRecDepth 100000 in
set_option maxHeartbeats 4000000 in
theorem lc_went {E : Ev} {M : Mm} {N : Nn} {L0 : Nat} {xs : Nat → Int32} {i : Int} {cl sl : Nat} (hX : EC E L0 xs) (i0 : 0 ≤ i) (i1 : i + 6 ≤ L0) (hcl : Nat.ble cl room_1.cells = true ∧ Nat.ble sl room_1.slots = true) (hI : Iv M N) (hK : ∀ (M1 : Mm) (N1 : Nn), Iv M1 N1 → Go E RL cL_law 7 ((some .boolean)) room_1 cl sl (zLw E) 1299 [vr (1, 0, 0), vr (3, 0, 0), vr (29, 0, 0), vr (31, 0, 0), vi i, vn, vn] [] M1 N1) : Go E RL cL_law 7 ((some .boolean)) room_1 cl sl (zLw E) 475 [vr (1, 0, 0), vr (3, 0, 0), vr (29, 0, 0), vr (31, 0, 0), vi i, vn, vn] [] M N := by
  have x3 := hX.2.2
  refine go_aload_n dL_law_475 rfl rfl ?_
  refine go_aload_n dL_law_476 rfl rfl ?_
  refine go_iload dL_law_477 rfl ?_
  refine go_iconst dL_law_479 (R32_lit rfl) ?_
  refine go_iaddc dL_law_480 ⟨by omega, by omega⟩ ?_
  refine go_scr hX dL_law_481 (by omega) (by omega) ?_
  obtain ⟨P7, c7, h7⟩ := cs_went (E := E) (v := sc xs (i + 1)) hI
  refine vL_60 dL_law_482 rfl ⟨rfl, rfl⟩ hcl c7 (fun r1 M1 N1 hr1 hq1 => ?_)
  obtain ⟨P8, c8, h8⟩ := h7 r1 M1 N1 hq1
  refine go_aload_n dL_law_485 rfl rfl ?_
  refine go_aload_n dL_law_486 rfl rfl ?_
  refine go_iload dL_law_487 rfl ?_
  refine go_iconst dL_law_489 (R32_lit rfl) ?_
  refine go_iaddc dL_law_490 ⟨by omega, by omega⟩ ?_
  refine go_scr hX dL_law_491 (by omega) (by omega) ?_
  refine vL_63 dL_law_492 rfl ⟨rfl, rfl⟩ hcl c8 (fun r2 M2 N2 hr2 hq2 => ?_)
  obtain ⟨he, hI2⟩ := h8 r2 M2 N2 hq2
  exact go_icmp_eq (tgt := 1299) dL_law_495 rfl (fun _ => hK M2 N2 hI2) (fun z => absurd he z)
set_option maxRecDepth 100000 in
set_option maxHeartbeats 4000000 in
theorem lc_form {E : Ev} {M : Mm} {N : Nn} {L0 : Nat} {xs : Nat → Int32} {i : Int} {cl sl : Nat} (hX : EC E L0 xs) (i0 : 0 ≤ i) (i1 : i + 6 ≤ L0) (hcl : Nat.ble cl room_1.cells = true ∧ Nat.ble sl room_1.slots = true) (hI : Iv M N) (hK : ∀ (M1 : Mm) (N1 : Nn), Iv M1 N1 → Go E RL cL_law 7 ((some .boolean)) room_1 cl sl (zLw E) 1299 [vr (1, 0, 0), vr (3, 0, 0), vr (29, 0, 0), vr (31, 0, 0), vi i, vn, vn] [] M1 N1) : Go E RL cL_law 7 ((some .boolean)) room_1 cl sl (zLw E) 500 [vr (1, 0, 0), vr (3, 0, 0), vr (29, 0, 0), vr (31, 0, 0), vi i, vn, vn] [] M N := by
  have x3 := hX.2.2
  by_cases zd : sc xs (i + 2) = 0
  · skip
    refine go_aload_n dL_law_500 rfl rfl ?_
    refine go_aload_n dL_law_501 rfl rfl ?_
    refine go_iload dL_law_502 rfl ?_
    refine go_iconst dL_law_504 (R32_lit rfl) ?_
    refine go_iaddc dL_law_505 ⟨by omega, by omega⟩ ?_
    refine go_scr hX dL_law_506 (by omega) (by omega) ?_
    refine go_aload_n dL_law_507 rfl rfl ?_
    refine go_iload dL_law_508 rfl ?_
    refine go_iconst dL_law_510 (R32_lit rfl) ?_
    refine go_iaddc dL_law_511 ⟨by omega, by omega⟩ ?_
    refine go_scr hX dL_law_512 (by omega) (by omega) ?_
    refine go_if_eq (tgt := 520) dL_law_513 rfl (fun _ => ?_) (fun z => absurd zd z)
    refine go_iconst dL_law_520 (R32_lit rfl) ?_
    refine go_aload_n dL_law_521 rfl rfl ?_
    refine go_iload dL_law_522 rfl ?_
    refine go_iconst dL_law_524 (R32_lit rfl) ?_
    refine go_iaddc dL_law_525 ⟨by omega, by omega⟩ ?_
    refine go_scr hX dL_law_526 (by omega) (by omega) ?_
    obtain ⟨P7, c7, h7⟩ := cs_form (E := E) (v := sc xs (i + 1)) (d := 0) (k := sc xs (i + 3)) hI
    refine vL_64 dL_law_527 rfl ⟨rfl, rfl⟩ hcl c7 (fun r1 M1 N1 hr1 hq1 => ?_)
    obtain ⟨P8, c8, h8⟩ := h7 r1 M1 N1 hq1
    refine go_aload_n dL_law_530 rfl rfl ?_
    refine go_aload_n dL_law_531 rfl rfl ?_
    refine go_iload dL_law_532 rfl ?_
    refine go_iconst dL_law_534 (R32_lit rfl) ?_
    refine go_iaddc dL_law_535 ⟨by omega, by omega⟩ ?_
    refine go_scr hX dL_law_536 (by omega) (by omega) ?_
    refine go_aload_n dL_law_537 rfl rfl ?_
    refine go_iload dL_law_538 rfl ?_
    refine go_iconst dL_law_540 (R32_lit rfl) ?_
    refine go_iaddc dL_law_541 ⟨by omega, by omega⟩ ?_
    refine go_scr hX dL_law_542 (by omega) (by omega) ?_
    refine go_if_eq (tgt := 550) dL_law_543 rfl (fun _ => ?_) (fun z => absurd zd z)
    refine go_iconst dL_law_550 (R32_lit rfl) ?_
    refine go_aload_n dL_law_551 rfl rfl ?_
    refine go_iload dL_law_552 rfl ?_
    refine go_iconst dL_law_554 (R32_lit rfl) ?_
    refine go_iaddc dL_law_555 ⟨by omega, by omega⟩ ?_
    refine go_scr hX dL_law_556 (by omega) (by omega) ?_
    refine vL_68 dL_law_557 rfl ⟨rfl, rfl⟩ hcl c8 (fun r2 M2 N2 hr2 hq2 => ?_)
    obtain ⟨he, hI2⟩ := h8 r2 M2 N2 hq2
    exact go_lcmp_eq (tgt := 1299) dL_law_560 dL_law_561 rfl (fun _ => hK M2 N2 hI2) (fun z => absurd he z)
  · skip
    refine go_aload_n dL_law_500 rfl rfl ?_
    refine go_aload_n dL_law_501 rfl rfl ?_
    refine go_iload dL_law_502 rfl ?_
    refine go_iconst dL_law_504 (R32_lit rfl) ?_
    refine go_iaddc dL_law_505 ⟨by omega, by omega⟩ ?_
    refine go_scr hX dL_law_506 (by omega) (by omega) ?_
    refine go_aload_n dL_law_507 rfl rfl ?_
    refine go_iload dL_law_508 rfl ?_
    refine go_iconst dL_law_510 (R32_lit rfl) ?_
    refine go_iaddc dL_law_511 ⟨by omega, by omega⟩ ?_
    refine go_scr hX dL_law_512 (by omega) (by omega) ?_
    refine go_if_eq (tgt := 520) dL_law_513 rfl (fun z => absurd z zd) (fun _ => ?_)
    refine go_iconst dL_law_516 (R32_lit rfl) ?_
    refine go_goto (tgt := 521) dL_law_517 rfl ?_
    refine go_aload_n dL_law_521 rfl rfl ?_
    refine go_iload dL_law_522 rfl ?_
    refine go_iconst dL_law_524 (R32_lit rfl) ?_
    refine go_iaddc dL_law_525 ⟨by omega, by omega⟩ ?_
    refine go_scr hX dL_law_526 (by omega) (by omega) ?_
    obtain ⟨P7, c7, h7⟩ := cs_form (E := E) (v := sc xs (i + 1)) (d := 1) (k := sc xs (i + 3)) hI
    refine vL_64 dL_law_527 rfl ⟨rfl, rfl⟩ hcl c7 (fun r1 M1 N1 hr1 hq1 => ?_)
    obtain ⟨P8, c8, h8⟩ := h7 r1 M1 N1 hq1
    refine go_aload_n dL_law_530 rfl rfl ?_
    refine go_aload_n dL_law_531 rfl rfl ?_
    refine go_iload dL_law_532 rfl ?_
    refine go_iconst dL_law_534 (R32_lit rfl) ?_
    refine go_iaddc dL_law_535 ⟨by omega, by omega⟩ ?_
    refine go_scr hX dL_law_536 (by omega) (by omega) ?_
    refine go_aload_n dL_law_537 rfl rfl ?_
    refine go_iload dL_law_538 rfl ?_
    refine go_iconst dL_law_540 (R32_lit rfl) ?_
    refine go_iaddc dL_law_541 ⟨by omega, by omega⟩ ?_
    refine go_scr hX dL_law_542 (by omega) (by omega) ?_
    refine go_if_eq (tgt := 550) dL_law_543 rfl (fun z => absurd z zd) (fun _ => ?_)
    refine go_iconst dL_law_546 (R32_lit rfl) ?_
    refine go_goto (tgt := 551) dL_law_547 rfl ?_
    refine go_aload_n dL_law_551 rfl rfl ?_
    refine go_iload dL_law_552 rfl ?_
    refine go_iconst dL_law_554 (R32_lit rfl) ?_
    refine go_iaddc dL_law_555 ⟨by omega, by omega⟩ ?_
    refine go_scr hX dL_law_556 (by omega) (by omega) ?_
    refine vL_68 dL_law_557 rfl ⟨rfl, rfl⟩ hcl c8 (fun r2 M2 N2 hr2 hq2 => ?_)
    obtain ⟨he, hI2⟩ := h8 r2 M2 N2 hq2
    exact go_lcmp_eq (tgt := 1299) dL_law_560 dL_law_561 rfl (fun _ => hK M2 N2 hI2) (fun z => absurd he z)
set_option maxRecDepth 100000 in
set_option maxHeartbeats 4000000 in
theorem lc_reach {E : Ev} {M : Mm} {N : Nn} {L0 : Nat} {xs : Nat → Int32} {i : Int} {cl sl : Nat} (hX : EC E L0 xs) (i0 : 0 ≤ i) (i1 : i + 6 ≤ L0) (hcl : Nat.ble cl room_1.cells = true ∧ Nat.ble sl room_1.slots = true) (hI : Iv M N) (hK : ∀ (M1 : Mm) (N1 : Nn), Iv M1 N1 → Go E RL cL_law 7 ((some .boolean)) room_1 cl sl (zLw E) 1299 [vr (1, 0, 0), vr (3, 0, 0), vr (29, 0, 0), vr (31, 0, 0), vi i, vn, vn] [] M1 N1) : Go E RL cL_law 7 ((some .boolean)) room_1 cl sl (zLw E) 566 [vr (1, 0, 0), vr (3, 0, 0), vr (29, 0, 0), vr (31, 0, 0), vi i, vn, vn] [] M N := by
  have x3 := hX.2.2
  by_cases zd : sc xs (i + 2) = 0
  · skip
    refine go_aload_n dL_law_566 rfl rfl ?_
    refine go_aload_n dL_law_567 rfl rfl ?_
    refine go_iload dL_law_568 rfl ?_
    refine go_iconst dL_law_570 (R32_lit rfl) ?_
    refine go_iaddc dL_law_571 ⟨by omega, by omega⟩ ?_
    refine go_scr hX dL_law_572 (by omega) (by omega) ?_
    refine go_aload_n dL_law_573 rfl rfl ?_
    refine go_iload dL_law_574 rfl ?_
    refine go_iconst dL_law_576 (R32_lit rfl) ?_
    refine go_iaddc dL_law_577 ⟨by omega, by omega⟩ ?_
    refine go_scr hX dL_law_578 (by omega) (by omega) ?_
    refine go_if_eq (tgt := 586) dL_law_579 rfl (fun _ => ?_) (fun z => absurd zd z)
    refine go_iconst dL_law_586 (R32_lit rfl) ?_
    refine go_aload_n dL_law_587 rfl rfl ?_
    refine go_iload dL_law_588 rfl ?_
    refine go_iconst dL_law_590 (R32_lit rfl) ?_
    refine go_iaddc dL_law_591 ⟨by omega, by omega⟩ ?_
    refine go_scr hX dL_law_592 (by omega) (by omega) ?_
    obtain ⟨P7, c7, h7⟩ := cs_reach (E := E) (v := sc xs (i + 1)) (d := 0) (w := sc xs (i + 3)) hI
    refine vL_69 dL_law_593 rfl ⟨rfl, rfl⟩ hcl c7 (fun r1 M1 N1 hr1 hq1 => ?_)
    obtain ⟨P8, c8, h8⟩ := h7 r1 M1 N1 hq1
    refine go_aload_n dL_law_596 rfl rfl ?_
    refine go_aload_n dL_law_597 rfl rfl ?_
    refine go_iload dL_law_598 rfl ?_
    refine go_iconst dL_law_600 (R32_lit rfl) ?_
    refine go_iaddc dL_law_601 ⟨by omega, by omega⟩ ?_
    refine go_scr hX dL_law_602 (by omega) (by omega) ?_
    refine go_aload_n dL_law_603 rfl rfl ?_
    refine go_iload dL_law_604 rfl ?_
    refine go_iconst dL_law_606 (R32_lit rfl) ?_
    refine go_iaddc dL_law_607 ⟨by omega, by omega⟩ ?_
    refine go_scr hX dL_law_608 (by omega) (by omega) ?_
    refine go_if_eq (tgt := 616) dL_law_609 rfl (fun _ => ?_) (fun z => absurd zd z)
    refine go_iconst dL_law_616 (R32_lit rfl) ?_
    refine go_aload_n dL_law_617 rfl rfl ?_
    refine go_iload dL_law_618 rfl ?_
    refine go_iconst dL_law_620 (R32_lit rfl) ?_
    refine go_iaddc dL_law_621 ⟨by omega, by omega⟩ ?_
    refine go_scr hX dL_law_622 (by omega) (by omega) ?_
    refine vL_72 dL_law_623 rfl ⟨rfl, rfl⟩ hcl c8 (fun r2 M2 N2 hr2 hq2 => ?_)
    obtain ⟨he, hI2⟩ := h8 r2 M2 N2 hq2
    exact go_lcmp_eq (tgt := 1299) dL_law_626 dL_law_627 rfl (fun _ => hK M2 N2 hI2) (fun z => absurd he z)
  · skip
    refine go_aload_n dL_law_566 rfl rfl ?_
    refine go_aload_n dL_law_567 rfl rfl ?_
    refine go_iload dL_law_568 rfl ?_
    refine go_iconst dL_law_570 (R32_lit rfl) ?_
    refine go_iaddc dL_law_571 ⟨by omega, by omega⟩ ?_
    refine go_scr hX dL_law_572 (by omega) (by omega) ?_
    refine go_aload_n dL_law_573 rfl rfl ?_
    refine go_iload dL_law_574 rfl ?_
    refine go_iconst dL_law_576 (R32_lit rfl) ?_
    refine go_iaddc dL_law_577 ⟨by omega, by omega⟩ ?_
    refine go_scr hX dL_law_578 (by omega) (by omega) ?_
    refine go_if_eq (tgt := 586) dL_law_579 rfl (fun z => absurd z zd) (fun _ => ?_)
    refine go_iconst dL_law_582 (R32_lit rfl) ?_
    refine go_goto (tgt := 587) dL_law_583 rfl ?_
    refine go_aload_n dL_law_587 rfl rfl ?_
    refine go_iload dL_law_588 rfl ?_
    refine go_iconst dL_law_590 (R32_lit rfl) ?_
    refine go_iaddc dL_law_591 ⟨by omega, by omega⟩ ?_
    refine go_scr hX dL_law_592 (by omega) (by omega) ?_
    obtain ⟨P7, c7, h7⟩ := cs_reach (E := E) (v := sc xs (i + 1)) (d := 1) (w := sc xs (i + 3)) hI
    refine vL_69 dL_law_593 rfl ⟨rfl, rfl⟩ hcl c7 (fun r1 M1 N1 hr1 hq1 => ?_)
    obtain ⟨P8, c8, h8⟩ := h7 r1 M1 N1 hq1
    refine go_aload_n dL_law_596 rfl rfl ?_
    refine go_aload_n dL_law_597 rfl rfl ?_
    refine go_iload dL_law_598 rfl ?_
    refine go_iconst dL_law_600 (R32_lit rfl) ?_
    refine go_iaddc dL_law_601 ⟨by omega, by omega⟩ ?_
    refine go_scr hX dL_law_602 (by omega) (by omega) ?_
    refine go_aload_n dL_law_603 rfl rfl ?_
    refine go_iload dL_law_604 rfl ?_
    refine go_iconst dL_law_606 (R32_lit rfl) ?_
    refine go_iaddc dL_law_607 ⟨by omega, by omega⟩ ?_
    refine go_scr hX dL_law_608 (by omega) (by omega) ?_
    refine go_if_eq (tgt := 616) dL_law_609 rfl (fun z => absurd z zd) (fun _ => ?_)
    refine go_iconst dL_law_612 (R32_lit rfl) ?_
    refine go_goto (tgt := 617) dL_law_613 rfl ?_
    refine go_aload_n dL_law_617 rfl rfl ?_
    refine go_iload dL_law_618 rfl ?_
    refine go_iconst dL_law_620 (R32_lit rfl) ?_
    refine go_iaddc dL_law_621 ⟨by omega, by omega⟩ ?_
    refine go_scr hX dL_law_622 (by omega) (by omega) ?_
    refine vL_72 dL_law_623 rfl ⟨rfl, rfl⟩ hcl c8 (fun r2 M2 N2 hr2 hq2 => ?_)
    obtain ⟨he, hI2⟩ := h8 r2 M2 N2 hq2
    exact go_lcmp_eq (tgt := 1299) dL_law_626 dL_law_627 rfl (fun _ => hK M2 N2 hI2) (fun z => absurd he z)
set_option maxRecDepth 100000 in
set_option maxHeartbeats 4000000 in
theorem lc_bound {E : Ev} {M : Mm} {N : Nn} {L0 : Nat} {xs : Nat → Int32} {i : Int} {cl sl : Nat} (hX : EC E L0 xs) (i0 : 0 ≤ i) (i1 : i + 6 ≤ L0) (hcl : Nat.ble cl room_1.cells = true ∧ Nat.ble sl room_1.slots = true) (hI : Iv M N) (hK : ∀ (M1 : Mm) (N1 : Nn), Iv M1 N1 → Go E RL cL_law 7 ((some .boolean)) room_1 cl sl (zLw E) 1299 [vr (1, 0, 0), vr (3, 0, 0), vr (29, 0, 0), vr (31, 0, 0), vi i, vn, vn] [] M1 N1) : Go E RL cL_law 7 ((some .boolean)) room_1 cl sl (zLw E) 632 [vr (1, 0, 0), vr (3, 0, 0), vr (29, 0, 0), vr (31, 0, 0), vi i, vn, vn] [] M N := by
  have x3 := hX.2.2
  refine go_aload_n dL_law_632 rfl rfl ?_
  refine go_aload_n dL_law_633 rfl rfl ?_
  refine go_iload dL_law_634 rfl ?_
  refine go_iconst dL_law_636 (R32_lit rfl) ?_
  refine go_iaddc dL_law_637 ⟨by omega, by omega⟩ ?_
  refine go_scr hX dL_law_638 (by omega) (by omega) ?_
  obtain ⟨P7, c7, h7⟩ := cs_bound (E := E) (v := sc xs (i + 1)) hI
  refine vL_73 dL_law_639 rfl ⟨rfl, rfl⟩ hcl c7 (fun r1 M1 N1 hr1 hq1 => ?_)
  obtain ⟨P8, c8, h8⟩ := h7 r1 M1 N1 hq1
  refine go_aload_n dL_law_642 rfl rfl ?_
  refine go_aload_n dL_law_643 rfl rfl ?_
  refine go_iload dL_law_644 rfl ?_
  refine go_iconst dL_law_646 (R32_lit rfl) ?_
  refine go_iaddc dL_law_647 ⟨by omega, by omega⟩ ?_
  refine go_scr hX dL_law_648 (by omega) (by omega) ?_
  refine vL_77 dL_law_649 rfl ⟨rfl, rfl⟩ hcl c8 (fun r2 M2 N2 hr2 hq2 => ?_)
  obtain ⟨he, hI2⟩ := h8 r2 M2 N2 hq2
  exact go_lcmp_eq (tgt := 1299) dL_law_652 dL_law_653 rfl (fun _ => hK M2 N2 hI2) (fun z => absurd he z)
set_option maxRecDepth 100000 in
set_option maxHeartbeats 4000000 in
theorem lc_noise {E : Ev} {M : Mm} {N : Nn} {L0 : Nat} {xs : Nat → Int32} {i : Int} {cl sl : Nat} (hX : EC E L0 xs) (i0 : 0 ≤ i) (i1 : i + 6 ≤ L0) (hcl : Nat.ble cl room_1.cells = true ∧ Nat.ble sl room_1.slots = true) (hI : Iv M N) (hK : ∀ (M1 : Mm) (N1 : Nn), Iv M1 N1 → Go E RL cL_law 7 ((some .boolean)) room_1 cl sl (zLw E) 1299 [vr (1, 0, 0), vr (3, 0, 0), vr (29, 0, 0), vr (31, 0, 0), vi i, vn, vn] [] M1 N1) : Go E RL cL_law 7 ((some .boolean)) room_1 cl sl (zLw E) 658 [vr (1, 0, 0), vr (3, 0, 0), vr (29, 0, 0), vr (31, 0, 0), vi i, vn, vn] [] M N := by
  have x3 := hX.2.2
  refine go_aload_n dL_law_658 rfl rfl ?_
  refine go_aload_n dL_law_659 rfl rfl ?_
  refine go_iload dL_law_660 rfl ?_
  refine go_iconst dL_law_662 (R32_lit rfl) ?_
  refine go_iaddc dL_law_663 ⟨by omega, by omega⟩ ?_
  refine go_scr hX dL_law_664 (by omega) (by omega) ?_
  refine go_aload_n dL_law_665 rfl rfl ?_
  refine go_iload dL_law_666 rfl ?_
  refine go_iconst dL_law_668 (R32_lit rfl) ?_
  refine go_iaddc dL_law_669 ⟨by omega, by omega⟩ ?_
  refine go_scr hX dL_law_670 (by omega) (by omega) ?_
  obtain ⟨P7, c7, h7⟩ := cs_noise (E := E) (k := sc xs (i + 1)) (w := sc xs (i + 2)) hI
  refine vL_78 dL_law_671 rfl ⟨rfl, rfl⟩ hcl c7 (fun r1 M1 N1 hr1 hq1 => ?_)
  obtain ⟨P8, c8, h8⟩ := h7 r1 M1 N1 hq1
  refine go_aload_n dL_law_674 rfl rfl ?_
  refine go_aload_n dL_law_675 rfl rfl ?_
  refine go_iload dL_law_676 rfl ?_
  refine go_iconst dL_law_678 (R32_lit rfl) ?_
  refine go_iaddc dL_law_679 ⟨by omega, by omega⟩ ?_
  refine go_scr hX dL_law_680 (by omega) (by omega) ?_
  refine go_aload_n dL_law_681 rfl rfl ?_
  refine go_iload dL_law_682 rfl ?_
  refine go_iconst dL_law_684 (R32_lit rfl) ?_
  refine go_iaddc dL_law_685 ⟨by omega, by omega⟩ ?_
  refine go_scr hX dL_law_686 (by omega) (by omega) ?_
  refine vL_81 dL_law_687 rfl ⟨rfl, rfl⟩ hcl c8 (fun r2 M2 N2 hr2 hq2 => ?_)
  obtain ⟨he, hI2⟩ := h8 r2 M2 N2 hq2
  exact go_icmp_eq (tgt := 1299) dL_law_690 rfl (fun _ => hK M2 N2 hI2) (fun z => absurd he z)
set_option maxRecDepth 100000 in
set_option maxHeartbeats 4000000 in
theorem lc_shared {E : Ev} {M : Mm} {N : Nn} {L0 : Nat} {xs : Nat → Int32} {i : Int} {cl sl : Nat} (hX : EC E L0 xs) (i0 : 0 ≤ i) (i1 : i + 6 ≤ L0) (hcl : Nat.ble cl room_1.cells = true ∧ Nat.ble sl room_1.slots = true) (hI : Iv M N) (hK : ∀ (M1 : Mm) (N1 : Nn), Iv M1 N1 → Go E RL cL_law 7 ((some .boolean)) room_1 cl sl (zLw E) 1299 [vr (1, 0, 0), vr (3, 0, 0), vr (29, 0, 0), vr (31, 0, 0), vi i, vn, vn] [] M1 N1) : Go E RL cL_law 7 ((some .boolean)) room_1 cl sl (zLw E) 695 [vr (1, 0, 0), vr (3, 0, 0), vr (29, 0, 0), vr (31, 0, 0), vi i, vn, vn] [] M N := by
  have x3 := hX.2.2
  refine go_aload_n dL_law_695 rfl rfl ?_
  refine go_aload_n dL_law_696 rfl rfl ?_
  refine go_iload dL_law_697 rfl ?_
  refine go_iconst dL_law_699 (R32_lit rfl) ?_
  refine go_iaddc dL_law_700 ⟨by omega, by omega⟩ ?_
  refine go_scr hX dL_law_701 (by omega) (by omega) ?_
  refine go_aload_n dL_law_702 rfl rfl ?_
  refine go_iload dL_law_703 rfl ?_
  refine go_iconst dL_law_705 (R32_lit rfl) ?_
  refine go_iaddc dL_law_706 ⟨by omega, by omega⟩ ?_
  refine go_scr hX dL_law_707 (by omega) (by omega) ?_
  obtain ⟨P7, c7, h7⟩ := cs_shared (E := E) (v := sc xs (i + 1)) (w := sc xs (i + 2)) hI
  refine vL_82 dL_law_708 rfl ⟨rfl, rfl⟩ hcl c7 (fun r1 M1 N1 hr1 hq1 => ?_)
  obtain ⟨P8, c8, h8⟩ := h7 r1 M1 N1 hq1
  refine go_aload_n dL_law_711 rfl rfl ?_
  refine go_aload_n dL_law_712 rfl rfl ?_
  refine go_iload dL_law_713 rfl ?_
  refine go_iconst dL_law_715 (R32_lit rfl) ?_
  refine go_iaddc dL_law_716 ⟨by omega, by omega⟩ ?_
  refine go_scr hX dL_law_717 (by omega) (by omega) ?_
  refine go_aload_n dL_law_718 rfl rfl ?_
  refine go_iload dL_law_719 rfl ?_
  refine go_iconst dL_law_721 (R32_lit rfl) ?_
  refine go_iaddc dL_law_722 ⟨by omega, by omega⟩ ?_
  refine go_scr hX dL_law_723 (by omega) (by omega) ?_
  refine vL_85 dL_law_724 rfl ⟨rfl, rfl⟩ hcl c8 (fun r2 M2 N2 hr2 hq2 => ?_)
  obtain ⟨he, hI2⟩ := h8 r2 M2 N2 hq2
  exact go_icmp_eq (tgt := 1299) dL_law_727 rfl (fun _ => hK M2 N2 hI2) (fun z => absurd he z)
set_option maxRecDepth 100000 in
set_option maxHeartbeats 4000000 in
theorem lc_part {E : Ev} {M : Mm} {N : Nn} {L0 : Nat} {xs : Nat → Int32} {i : Int} {cl sl : Nat} (hX : EC E L0 xs) (i0 : 0 ≤ i) (i1 : i + 6 ≤ L0) (hcl : Nat.ble cl room_1.cells = true ∧ Nat.ble sl room_1.slots = true) (hI : Iv M N) (hK : ∀ (M1 : Mm) (N1 : Nn), Iv M1 N1 → Go E RL cL_law 7 ((some .boolean)) room_1 cl sl (zLw E) 1299 [vr (1, 0, 0), vr (3, 0, 0), vr (29, 0, 0), vr (31, 0, 0), vi i, vn, vn] [] M1 N1) : Go E RL cL_law 7 ((some .boolean)) room_1 cl sl (zLw E) 732 [vr (1, 0, 0), vr (3, 0, 0), vr (29, 0, 0), vr (31, 0, 0), vi i, vn, vn] [] M N := by
  have x3 := hX.2.2
  refine go_aload_n dL_law_732 rfl rfl ?_
  refine go_aload_n dL_law_733 rfl rfl ?_
  refine go_iload dL_law_734 rfl ?_
  refine go_iconst dL_law_736 (R32_lit rfl) ?_
  refine go_iaddc dL_law_737 ⟨by omega, by omega⟩ ?_
  refine go_scr hX dL_law_738 (by omega) (by omega) ?_
  refine go_aload_n dL_law_739 rfl rfl ?_
  refine go_iload dL_law_740 rfl ?_
  refine go_iconst dL_law_742 (R32_lit rfl) ?_
  refine go_iaddc dL_law_743 ⟨by omega, by omega⟩ ?_
  refine go_scr hX dL_law_744 (by omega) (by omega) ?_
  obtain ⟨P7, c7, h7⟩ := cs_part (E := E) (v := sc xs (i + 1)) (w := sc xs (i + 2)) hI
  refine vL_86 dL_law_745 rfl ⟨rfl, rfl⟩ hcl c7 (fun r1 M1 N1 hr1 hq1 => ?_)
  obtain ⟨P8, c8, h8⟩ := h7 r1 M1 N1 hq1
  refine go_aload_n dL_law_748 rfl rfl ?_
  refine go_aload_n dL_law_749 rfl rfl ?_
  refine go_iload dL_law_750 rfl ?_
  refine go_iconst dL_law_752 (R32_lit rfl) ?_
  refine go_iaddc dL_law_753 ⟨by omega, by omega⟩ ?_
  refine go_scr hX dL_law_754 (by omega) (by omega) ?_
  refine go_aload_n dL_law_755 rfl rfl ?_
  refine go_iload dL_law_756 rfl ?_
  refine go_iconst dL_law_758 (R32_lit rfl) ?_
  refine go_iaddc dL_law_759 ⟨by omega, by omega⟩ ?_
  refine go_scr hX dL_law_760 (by omega) (by omega) ?_
  refine vL_89 dL_law_761 rfl ⟨rfl, rfl⟩ hcl c8 (fun r2 M2 N2 hr2 hq2 => ?_)
  obtain ⟨he, hI2⟩ := h8 r2 M2 N2 hq2
  exact go_lcmp_eq (tgt := 1299) dL_law_764 dL_law_765 rfl (fun _ => hK M2 N2 hI2) (fun z => absurd he z)
set_option maxRecDepth 100000 in
set_option maxHeartbeats 4000000 in
theorem lc_blame {E : Ev} {M : Mm} {N : Nn} {L0 : Nat} {xs : Nat → Int32} {i : Int} {cl sl : Nat} (hX : EC E L0 xs) (i0 : 0 ≤ i) (i1 : i + 6 ≤ L0) (hcl : Nat.ble cl room_1.cells = true ∧ Nat.ble sl room_1.slots = true) (hI : Iv M N) (hK : ∀ (M1 : Mm) (N1 : Nn), Iv M1 N1 → Go E RL cL_law 7 ((some .boolean)) room_1 cl sl (zLw E) 1299 [vr (1, 0, 0), vr (3, 0, 0), vr (29, 0, 0), vr (31, 0, 0), vi i, vn, vn] [] M1 N1) : Go E RL cL_law 7 ((some .boolean)) room_1 cl sl (zLw E) 770 [vr (1, 0, 0), vr (3, 0, 0), vr (29, 0, 0), vr (31, 0, 0), vi i, vn, vn] [] M N := by
  have x3 := hX.2.2
  refine go_aload_n dL_law_770 rfl rfl ?_
  refine go_aload_n dL_law_771 rfl rfl ?_
  refine go_iload dL_law_772 rfl ?_
  refine go_iconst dL_law_774 (R32_lit rfl) ?_
  refine go_iaddc dL_law_775 ⟨by omega, by omega⟩ ?_
  refine go_scr hX dL_law_776 (by omega) (by omega) ?_
  obtain ⟨P7, c7, h7⟩ := cs_blame (E := E) (v := sc xs (i + 1)) hI
  refine vL_90 dL_law_777 rfl ⟨rfl, rfl⟩ hcl c7 (fun r1 M1 N1 hr1 hq1 => ?_)
  obtain ⟨P8, c8, h8⟩ := h7 r1 M1 N1 hq1
  refine go_aload_n dL_law_780 rfl rfl ?_
  refine go_aload_n dL_law_781 rfl rfl ?_
  refine go_iload dL_law_782 rfl ?_
  refine go_iconst dL_law_784 (R32_lit rfl) ?_
  refine go_iaddc dL_law_785 ⟨by omega, by omega⟩ ?_
  refine go_scr hX dL_law_786 (by omega) (by omega) ?_
  refine vL_93 dL_law_787 rfl ⟨rfl, rfl⟩ hcl c8 (fun r2 M2 N2 hr2 hq2 => ?_)
  obtain ⟨he, hI2⟩ := h8 r2 M2 N2 hq2
  exact go_icmp_eq (tgt := 1299) dL_law_790 rfl (fun _ => hK M2 N2 hI2) (fun z => absurd he z)
set_option maxRecDepth 100000 in
set_option maxHeartbeats 4000000 in
theorem lc_may {E : Ev} {M : Mm} {N : Nn} {L0 : Nat} {xs : Nat → Int32} {i : Int} {cl sl : Nat} (hX : EC E L0 xs) (i0 : 0 ≤ i) (i1 : i + 6 ≤ L0) (hcl : Nat.ble cl room_1.cells = true ∧ Nat.ble sl room_1.slots = true) (hI : Iv M N) (hK : ∀ (M1 : Mm) (N1 : Nn), Iv M1 N1 → Go E RL cL_law 7 ((some .boolean)) room_1 cl sl (zLw E) 1299 [vr (1, 0, 0), vr (3, 0, 0), vr (29, 0, 0), vr (31, 0, 0), vi i, vn, vn] [] M1 N1) : Go E RL cL_law 7 ((some .boolean)) room_1 cl sl (zLw E) 795 [vr (1, 0, 0), vr (3, 0, 0), vr (29, 0, 0), vr (31, 0, 0), vi i, vn, vn] [] M N := by
  have x3 := hX.2.2
  refine go_aload_n dL_law_795 rfl rfl ?_
  refine go_aload_n dL_law_796 rfl rfl ?_
  refine go_iload dL_law_797 rfl ?_
  refine go_iconst dL_law_799 (R32_lit rfl) ?_
  refine go_iaddc dL_law_800 ⟨by omega, by omega⟩ ?_
  refine go_scr hX dL_law_801 (by omega) (by omega) ?_
  obtain ⟨P7, c7, h7⟩ := cs_may (E := E) (v := sc xs (i + 1)) hI
  refine vL_94 dL_law_802 rfl ⟨rfl, rfl⟩ hcl c7 (fun r1 M1 N1 hr1 hq1 => ?_)
  obtain ⟨P8, c8, h8⟩ := h7 r1 M1 N1 hq1
  refine go_aload_n dL_law_805 rfl rfl ?_
  refine go_aload_n dL_law_806 rfl rfl ?_
  refine go_iload dL_law_807 rfl ?_
  refine go_iconst dL_law_809 (R32_lit rfl) ?_
  refine go_iaddc dL_law_810 ⟨by omega, by omega⟩ ?_
  refine go_scr hX dL_law_811 (by omega) (by omega) ?_
  refine vL_97 dL_law_812 rfl ⟨rfl, rfl⟩ hcl c8 (fun r2 M2 N2 hr2 hq2 => ?_)
  obtain ⟨he, hI2⟩ := h8 r2 M2 N2 hq2
  exact go_icmp_eq (tgt := 1299) dL_law_815 rfl (fun _ => hK M2 N2 hI2) (fun z => absurd he z)
set_option maxRecDepth 100000 in
set_option maxHeartbeats 4000000 in
theorem lc_split {E : Ev} {M : Mm} {N : Nn} {L0 : Nat} {xs : Nat → Int32} {i : Int} {cl sl : Nat} (hX : EC E L0 xs) (i0 : 0 ≤ i) (i1 : i + 6 ≤ L0) (hcl : Nat.ble cl room_1.cells = true ∧ Nat.ble sl room_1.slots = true) (hI : Iv M N) (hK : ∀ (M1 : Mm) (N1 : Nn), Iv M1 N1 → Go E RL cL_law 7 ((some .boolean)) room_1 cl sl (zLw E) 1299 [vr (1, 0, 0), vr (3, 0, 0), vr (29, 0, 0), vr (31, 0, 0), vi i, vn, vn] [] M1 N1) : Go E RL cL_law 7 ((some .boolean)) room_1 cl sl (zLw E) 820 [vr (1, 0, 0), vr (3, 0, 0), vr (29, 0, 0), vr (31, 0, 0), vi i, vn, vn] [] M N := by
  have x3 := hX.2.2
  refine go_aload_n dL_law_820 rfl rfl ?_
  refine go_aload_n dL_law_821 rfl rfl ?_
  refine go_iload dL_law_822 rfl ?_
  refine go_iconst dL_law_824 (R32_lit rfl) ?_
  refine go_iaddc dL_law_825 ⟨by omega, by omega⟩ ?_
  refine go_scr hX dL_law_826 (by omega) (by omega) ?_
  refine go_aload_n dL_law_827 rfl rfl ?_
  refine go_iload dL_law_828 rfl ?_
  refine go_iconst dL_law_830 (R32_lit rfl) ?_
  refine go_iaddc dL_law_831 ⟨by omega, by omega⟩ ?_
  refine go_scr hX dL_law_832 (by omega) (by omega) ?_
  refine go_aload_n dL_law_833 rfl rfl ?_
  refine go_iload dL_law_834 rfl ?_
  refine go_iconst dL_law_836 (R32_lit rfl) ?_
  refine go_iaddc dL_law_837 ⟨by omega, by omega⟩ ?_
  refine go_scr hX dL_law_838 (by omega) (by omega) ?_
  obtain ⟨P7, c7, h7⟩ := cs_split (E := E) (v := sc xs (i + 1)) (k := sc xs (i + 2)) (w := sc xs (i + 3)) hI
  refine vL_98 dL_law_839 rfl ⟨rfl, rfl⟩ hcl c7 (fun r1 M1 N1 hr1 hq1 => ?_)
  obtain ⟨P8, c8, h8⟩ := h7 r1 M1 N1 hq1
  refine go_aload_n dL_law_842 rfl rfl ?_
  refine go_aload_n dL_law_843 rfl rfl ?_
  refine go_iload dL_law_844 rfl ?_
  refine go_iconst dL_law_846 (R32_lit rfl) ?_
  refine go_iaddc dL_law_847 ⟨by omega, by omega⟩ ?_
  refine go_scr hX dL_law_848 (by omega) (by omega) ?_
  refine go_aload_n dL_law_849 rfl rfl ?_
  refine go_iload dL_law_850 rfl ?_
  refine go_iconst dL_law_852 (R32_lit rfl) ?_
  refine go_iaddc dL_law_853 ⟨by omega, by omega⟩ ?_
  refine go_scr hX dL_law_854 (by omega) (by omega) ?_
  refine go_aload_n dL_law_855 rfl rfl ?_
  refine go_iload dL_law_856 rfl ?_
  refine go_iconst dL_law_858 (R32_lit rfl) ?_
  refine go_iaddc dL_law_859 ⟨by omega, by omega⟩ ?_
  refine go_scr hX dL_law_860 (by omega) (by omega) ?_
  refine vL_102 dL_law_861 rfl ⟨rfl, rfl⟩ hcl c8 (fun r2 M2 N2 hr2 hq2 => ?_)
  obtain ⟨he, hI2⟩ := h8 r2 M2 N2 hq2
  exact go_lcmp_eq (tgt := 1299) dL_law_864 dL_law_865 rfl (fun _ => hK M2 N2 hI2) (fun z => absurd he z)
set_option maxRecDepth 100000 in
set_option maxHeartbeats 4000000 in
theorem lc_splits {E : Ev} {M : Mm} {N : Nn} {L0 : Nat} {xs : Nat → Int32} {i : Int} {cl sl : Nat} (hX : EC E L0 xs) (i0 : 0 ≤ i) (i1 : i + 6 ≤ L0) (hcl : Nat.ble cl room_1.cells = true ∧ Nat.ble sl room_1.slots = true) (hI : Iv M N) (hK : ∀ (M1 : Mm) (N1 : Nn), Iv M1 N1 → Go E RL cL_law 7 ((some .boolean)) room_1 cl sl (zLw E) 1299 [vr (1, 0, 0), vr (3, 0, 0), vr (29, 0, 0), vr (31, 0, 0), vi i, vn, vn] [] M1 N1) : Go E RL cL_law 7 ((some .boolean)) room_1 cl sl (zLw E) 870 [vr (1, 0, 0), vr (3, 0, 0), vr (29, 0, 0), vr (31, 0, 0), vi i, vn, vn] [] M N := by
  have x3 := hX.2.2
  refine go_aload_n dL_law_870 rfl rfl ?_
  refine go_aload_n dL_law_871 rfl rfl ?_
  refine go_iload dL_law_872 rfl ?_
  refine go_iconst dL_law_874 (R32_lit rfl) ?_
  refine go_iaddc dL_law_875 ⟨by omega, by omega⟩ ?_
  refine go_scr hX dL_law_876 (by omega) (by omega) ?_
  refine go_aload_n dL_law_877 rfl rfl ?_
  refine go_iload dL_law_878 rfl ?_
  refine go_iconst dL_law_880 (R32_lit rfl) ?_
  refine go_iaddc dL_law_881 ⟨by omega, by omega⟩ ?_
  refine go_scr hX dL_law_882 (by omega) (by omega) ?_
  obtain ⟨P7, c7, h7⟩ := cs_splits (E := E) (v := sc xs (i + 1)) (k := sc xs (i + 2)) hI
  refine vL_103 dL_law_883 rfl ⟨rfl, rfl⟩ hcl c7 (fun r1 M1 N1 hr1 hq1 => ?_)
  obtain ⟨P8, c8, h8⟩ := h7 r1 M1 N1 hq1
  refine go_aload_n dL_law_886 rfl rfl ?_
  refine go_aload_n dL_law_887 rfl rfl ?_
  refine go_iload dL_law_888 rfl ?_
  refine go_iconst dL_law_890 (R32_lit rfl) ?_
  refine go_iaddc dL_law_891 ⟨by omega, by omega⟩ ?_
  refine go_scr hX dL_law_892 (by omega) (by omega) ?_
  refine go_aload_n dL_law_893 rfl rfl ?_
  refine go_iload dL_law_894 rfl ?_
  refine go_iconst dL_law_896 (R32_lit rfl) ?_
  refine go_iaddc dL_law_897 ⟨by omega, by omega⟩ ?_
  refine go_scr hX dL_law_898 (by omega) (by omega) ?_
  refine vL_106 dL_law_899 rfl ⟨rfl, rfl⟩ hcl c8 (fun r2 M2 N2 hr2 hq2 => ?_)
  obtain ⟨he, hI2⟩ := h8 r2 M2 N2 hq2
  exact go_icmp_eq (tgt := 1299) dL_law_902 rfl (fun _ => hK M2 N2 hI2) (fun z => absurd he z)
set_option maxRecDepth 100000 in
set_option maxHeartbeats 4000000 in
theorem lc_climb {E : Ev} {M : Mm} {N : Nn} {L0 : Nat} {xs : Nat → Int32} {i : Int} {cl sl : Nat} (hX : EC E L0 xs) (i0 : 0 ≤ i) (i1 : i + 6 ≤ L0) (hcl : Nat.ble cl room_1.cells = true ∧ Nat.ble sl room_1.slots = true) (hI : Iv M N) (hK : ∀ (M1 : Mm) (N1 : Nn), Iv M1 N1 → Go E RL cL_law 7 ((some .boolean)) room_1 cl sl (zLw E) 1299 [vr (1, 0, 0), vr (3, 0, 0), vr (29, 0, 0), vr (31, 0, 0), vi i, vn, vn] [] M1 N1) : Go E RL cL_law 7 ((some .boolean)) room_1 cl sl (zLw E) 907 [vr (1, 0, 0), vr (3, 0, 0), vr (29, 0, 0), vr (31, 0, 0), vi i, vn, vn] [] M N := by
  have x3 := hX.2.2
  refine go_aload_n dL_law_907 rfl rfl ?_
  refine go_aload_n dL_law_908 rfl rfl ?_
  refine go_iload dL_law_909 rfl ?_
  refine go_iconst dL_law_911 (R32_lit rfl) ?_
  refine go_iaddc dL_law_912 ⟨by omega, by omega⟩ ?_
  refine go_scr hX dL_law_913 (by omega) (by omega) ?_
  refine go_aload_n dL_law_914 rfl rfl ?_
  refine go_iload dL_law_915 rfl ?_
  refine go_iconst dL_law_917 (R32_lit rfl) ?_
  refine go_iaddc dL_law_918 ⟨by omega, by omega⟩ ?_
  refine go_scr hX dL_law_919 (by omega) (by omega) ?_
  refine go_aload_n dL_law_920 rfl rfl ?_
  refine go_iload dL_law_921 rfl ?_
  refine go_iconst dL_law_923 (R32_lit rfl) ?_
  refine go_iaddc dL_law_924 ⟨by omega, by omega⟩ ?_
  refine go_scr hX dL_law_925 (by omega) (by omega) ?_
  obtain ⟨P7, c7, h7⟩ := cs_climb (E := E) (v := sc xs (i + 1)) (k := sc xs (i + 2)) (sd := sc xs (i + 3)) hI
  refine vL_107 dL_law_926 rfl ⟨rfl, rfl⟩ hcl c7 (fun r1 M1 N1 hr1 hq1 => ?_)
  obtain ⟨P8, c8, h8⟩ := h7 r1 M1 N1 hq1
  refine go_aload_n dL_law_929 rfl rfl ?_
  refine go_aload_n dL_law_930 rfl rfl ?_
  refine go_iload dL_law_931 rfl ?_
  refine go_iconst dL_law_933 (R32_lit rfl) ?_
  refine go_iaddc dL_law_934 ⟨by omega, by omega⟩ ?_
  refine go_scr hX dL_law_935 (by omega) (by omega) ?_
  refine go_aload_n dL_law_936 rfl rfl ?_
  refine go_iload dL_law_937 rfl ?_
  refine go_iconst dL_law_939 (R32_lit rfl) ?_
  refine go_iaddc dL_law_940 ⟨by omega, by omega⟩ ?_
  refine go_scr hX dL_law_941 (by omega) (by omega) ?_
  refine go_aload_n dL_law_942 rfl rfl ?_
  refine go_iload dL_law_943 rfl ?_
  refine go_iconst dL_law_945 (R32_lit rfl) ?_
  refine go_iaddc dL_law_946 ⟨by omega, by omega⟩ ?_
  refine go_scr hX dL_law_947 (by omega) (by omega) ?_
  refine vL_110 dL_law_948 rfl ⟨rfl, rfl⟩ hcl c8 (fun r2 M2 N2 hr2 hq2 => ?_)
  obtain ⟨he, hI2⟩ := h8 r2 M2 N2 hq2
  exact go_lcmp_eq (tgt := 1299) dL_law_951 dL_law_952 rfl (fun _ => hK M2 N2 hI2) (fun z => absurd he z)
set_option maxRecDepth 100000 in
set_option maxHeartbeats 4000000 in
theorem lc_witness {E : Ev} {M : Mm} {N : Nn} {L0 : Nat} {xs : Nat → Int32} {i : Int} {cl sl : Nat} (hX : EC E L0 xs) (i0 : 0 ≤ i) (i1 : i + 6 ≤ L0) (hcl : Nat.ble cl room_1.cells = true ∧ Nat.ble sl room_1.slots = true) (hI : Iv M N) (hK : ∀ (M1 : Mm) (N1 : Nn), Iv M1 N1 → Go E RL cL_law 7 ((some .boolean)) room_1 cl sl (zLw E) 1299 [vr (1, 0, 0), vr (3, 0, 0), vr (29, 0, 0), vr (31, 0, 0), vi i, vn, vn] [] M1 N1) : Go E RL cL_law 7 ((some .boolean)) room_1 cl sl (zLw E) 957 [vr (1, 0, 0), vr (3, 0, 0), vr (29, 0, 0), vr (31, 0, 0), vi i, vn, vn] [] M N := by
  have x3 := hX.2.2
  refine go_aload_n dL_law_957 rfl rfl ?_
  refine go_aload_n dL_law_958 rfl rfl ?_
  refine go_iload dL_law_959 rfl ?_
  refine go_iconst dL_law_961 (R32_lit rfl) ?_
  refine go_iaddc dL_law_962 ⟨by omega, by omega⟩ ?_
  refine go_scr hX dL_law_963 (by omega) (by omega) ?_
  refine go_aload_n dL_law_964 rfl rfl ?_
  refine go_iload dL_law_965 rfl ?_
  refine go_iconst dL_law_967 (R32_lit rfl) ?_
  refine go_iaddc dL_law_968 ⟨by omega, by omega⟩ ?_
  refine go_scr hX dL_law_969 (by omega) (by omega) ?_
  refine go_aload_n dL_law_970 rfl rfl ?_
  refine go_iload dL_law_971 rfl ?_
  refine go_iconst dL_law_973 (R32_lit rfl) ?_
  refine go_iaddc dL_law_974 ⟨by omega, by omega⟩ ?_
  refine go_scr hX dL_law_975 (by omega) (by omega) ?_
  refine go_aload_n dL_law_976 rfl rfl ?_
  refine go_iload dL_law_977 rfl ?_
  refine go_iconst dL_law_979 (R32_lit rfl) ?_
  refine go_iaddc dL_law_980 ⟨by omega, by omega⟩ ?_
  refine go_scr hX dL_law_981 (by omega) (by omega) ?_
  obtain ⟨P7, c7, h7⟩ := cs_witness (E := E) (v := sc xs (i + 1)) (k := sc xs (i + 2)) (sd := sc xs (i + 3)) (w := sc xs (i + 4)) hI
  refine vL_111 dL_law_982 rfl ⟨rfl, rfl⟩ hcl c7 (fun r1 M1 N1 hr1 hq1 => ?_)
  obtain ⟨P8, c8, h8⟩ := h7 r1 M1 N1 hq1
  refine go_aload_n dL_law_985 rfl rfl ?_
  refine go_aload_n dL_law_986 rfl rfl ?_
  refine go_iload dL_law_987 rfl ?_
  refine go_iconst dL_law_989 (R32_lit rfl) ?_
  refine go_iaddc dL_law_990 ⟨by omega, by omega⟩ ?_
  refine go_scr hX dL_law_991 (by omega) (by omega) ?_
  refine go_aload_n dL_law_992 rfl rfl ?_
  refine go_iload dL_law_993 rfl ?_
  refine go_iconst dL_law_995 (R32_lit rfl) ?_
  refine go_iaddc dL_law_996 ⟨by omega, by omega⟩ ?_
  refine go_scr hX dL_law_997 (by omega) (by omega) ?_
  refine go_aload_n dL_law_998 rfl rfl ?_
  refine go_iload dL_law_999 rfl ?_
  refine go_iconst dL_law_1001 (R32_lit rfl) ?_
  refine go_iaddc dL_law_1002 ⟨by omega, by omega⟩ ?_
  refine go_scr hX dL_law_1003 (by omega) (by omega) ?_
  refine go_aload_n dL_law_1004 rfl rfl ?_
  refine go_iload dL_law_1005 rfl ?_
  refine go_iconst dL_law_1007 (R32_lit rfl) ?_
  refine go_iaddc dL_law_1008 ⟨by omega, by omega⟩ ?_
  refine go_scr hX dL_law_1009 (by omega) (by omega) ?_
  refine vL_115 dL_law_1010 rfl ⟨rfl, rfl⟩ hcl c8 (fun r2 M2 N2 hr2 hq2 => ?_)
  obtain ⟨he, hI2⟩ := h8 r2 M2 N2 hq2
  exact go_lcmp_eq (tgt := 1299) dL_law_1013 dL_law_1014 rfl (fun _ => hK M2 N2 hI2) (fun z => absurd he z)
set_option maxRecDepth 100000 in
set_option maxHeartbeats 4000000 in
theorem lc_worst {E : Ev} {M : Mm} {N : Nn} {L0 : Nat} {xs : Nat → Int32} {i : Int} {cl sl : Nat} (hX : EC E L0 xs) (i0 : 0 ≤ i) (i1 : i + 6 ≤ L0) (hcl : Nat.ble cl room_1.cells = true ∧ Nat.ble sl room_1.slots = true) (hI : Iv M N) (hK : ∀ (M1 : Mm) (N1 : Nn), Iv M1 N1 → Go E RL cL_law 7 ((some .boolean)) room_1 cl sl (zLw E) 1299 [vr (1, 0, 0), vr (3, 0, 0), vr (29, 0, 0), vr (31, 0, 0), vi i, vn, vn] [] M1 N1) : Go E RL cL_law 7 ((some .boolean)) room_1 cl sl (zLw E) 1019 [vr (1, 0, 0), vr (3, 0, 0), vr (29, 0, 0), vr (31, 0, 0), vi i, vn, vn] [] M N := by
  have x3 := hX.2.2
  refine go_aload_n dL_law_1019 rfl rfl ?_
  refine go_aload_n dL_law_1020 rfl rfl ?_
  refine go_iload dL_law_1021 rfl ?_
  refine go_iconst dL_law_1023 (R32_lit rfl) ?_
  refine go_iaddc dL_law_1024 ⟨by omega, by omega⟩ ?_
  refine go_scr hX dL_law_1025 (by omega) (by omega) ?_
  obtain ⟨P7, c7, h7⟩ := cs_worst (E := E) (v := sc xs (i + 1)) hI
  refine vL_116 dL_law_1026 rfl ⟨rfl, rfl⟩ hcl c7 (fun r1 M1 N1 hr1 hq1 => ?_)
  obtain ⟨P8, c8, h8⟩ := h7 r1 M1 N1 hq1
  refine go_aload_n dL_law_1029 rfl rfl ?_
  refine go_aload_n dL_law_1030 rfl rfl ?_
  refine go_iload dL_law_1031 rfl ?_
  refine go_iconst dL_law_1033 (R32_lit rfl) ?_
  refine go_iaddc dL_law_1034 ⟨by omega, by omega⟩ ?_
  refine go_scr hX dL_law_1035 (by omega) (by omega) ?_
  refine vL_119 dL_law_1036 rfl ⟨rfl, rfl⟩ hcl c8 (fun r2 M2 N2 hr2 hq2 => ?_)
  obtain ⟨he, hI2⟩ := h8 r2 M2 N2 hq2
  exact go_lcmp_eq (tgt := 1299) dL_law_1039 dL_law_1040 rfl (fun _ => hK M2 N2 hI2) (fun z => absurd he z)
set_option maxRecDepth 100000 in
set_option maxHeartbeats 4000000 in
theorem lc_parts {E : Ev} {M : Mm} {N : Nn} {L0 : Nat} {xs : Nat → Int32} {i : Int} {cl sl : Nat} (hX : EC E L0 xs) (i0 : 0 ≤ i) (i1 : i + 6 ≤ L0) (hcl : Nat.ble cl room_1.cells = true ∧ Nat.ble sl room_1.slots = true) (hI : Iv M N) (hK : ∀ (M1 : Mm) (N1 : Nn), Iv M1 N1 → Go E RL cL_law 7 ((some .boolean)) room_1 cl sl (zLw E) 1299 [vr (1, 0, 0), vr (3, 0, 0), vr (29, 0, 0), vr (31, 0, 0), vi i, vn, vn] [] M1 N1) : Go E RL cL_law 7 ((some .boolean)) room_1 cl sl (zLw E) 1045 [vr (1, 0, 0), vr (3, 0, 0), vr (29, 0, 0), vr (31, 0, 0), vi i, vn, vn] [] M N := by
  have x3 := hX.2.2
  refine go_aload_n dL_law_1045 rfl rfl ?_
  refine go_aload_n dL_law_1046 rfl rfl ?_
  refine go_iload dL_law_1047 rfl ?_
  refine go_iconst dL_law_1049 (R32_lit rfl) ?_
  refine go_iaddc dL_law_1050 ⟨by omega, by omega⟩ ?_
  refine go_scr hX dL_law_1051 (by omega) (by omega) ?_
  refine go_aload_n dL_law_1052 rfl rfl ?_
  refine go_iload dL_law_1053 rfl ?_
  refine go_iconst dL_law_1055 (R32_lit rfl) ?_
  refine go_iaddc dL_law_1056 ⟨by omega, by omega⟩ ?_
  refine go_scr hX dL_law_1057 (by omega) (by omega) ?_
  refine go_aload_n dL_law_1058 rfl rfl ?_
  refine go_iload dL_law_1059 rfl ?_
  refine go_iconst dL_law_1061 (R32_lit rfl) ?_
  refine go_iaddc dL_law_1062 ⟨by omega, by omega⟩ ?_
  refine go_scr hX dL_law_1063 (by omega) (by omega) ?_
  obtain ⟨P7, c7, h7⟩ := cs_parts (E := E) (v := sc xs (i + 1)) (k := sc xs (i + 2)) (sd := sc xs (i + 3)) hI
  refine vL_120 dL_law_1064 rfl ⟨rfl, rfl⟩ hcl c7 (fun r1 M1 N1 hr1 hq1 => ?_)
  obtain ⟨P8, c8, h8⟩ := h7 r1 M1 N1 hq1
  refine go_aload_n dL_law_1067 rfl rfl ?_
  refine go_aload_n dL_law_1068 rfl rfl ?_
  refine go_iload dL_law_1069 rfl ?_
  refine go_iconst dL_law_1071 (R32_lit rfl) ?_
  refine go_iaddc dL_law_1072 ⟨by omega, by omega⟩ ?_
  refine go_scr hX dL_law_1073 (by omega) (by omega) ?_
  refine go_aload_n dL_law_1074 rfl rfl ?_
  refine go_iload dL_law_1075 rfl ?_
  refine go_iconst dL_law_1077 (R32_lit rfl) ?_
  refine go_iaddc dL_law_1078 ⟨by omega, by omega⟩ ?_
  refine go_scr hX dL_law_1079 (by omega) (by omega) ?_
  refine go_aload_n dL_law_1080 rfl rfl ?_
  refine go_iload dL_law_1081 rfl ?_
  refine go_iconst dL_law_1083 (R32_lit rfl) ?_
  refine go_iaddc dL_law_1084 ⟨by omega, by omega⟩ ?_
  refine go_scr hX dL_law_1085 (by omega) (by omega) ?_
  refine vL_124 dL_law_1086 rfl ⟨rfl, rfl⟩ hcl c8 (fun r2 M2 N2 hr2 hq2 => ?_)
  obtain ⟨he, hI2⟩ := h8 r2 M2 N2 hq2
  exact go_icmp_eq (tgt := 1299) dL_law_1089 rfl (fun _ => hK M2 N2 hI2) (fun z => absurd he z)
set_option maxRecDepth 100000 in
set_option maxHeartbeats 4000000 in
theorem lc_finer {E : Ev} {M : Mm} {N : Nn} {L0 : Nat} {xs : Nat → Int32} {i : Int} {cl sl : Nat} (hX : EC E L0 xs) (i0 : 0 ≤ i) (i1 : i + 6 ≤ L0) (hcl : Nat.ble cl room_1.cells = true ∧ Nat.ble sl room_1.slots = true) (hI : Iv M N) (hK : ∀ (M1 : Mm) (N1 : Nn), Iv M1 N1 → Go E RL cL_law 7 ((some .boolean)) room_1 cl sl (zLw E) 1299 [vr (1, 0, 0), vr (3, 0, 0), vr (29, 0, 0), vr (31, 0, 0), vi i, vn, vn] [] M1 N1) : Go E RL cL_law 7 ((some .boolean)) room_1 cl sl (zLw E) 1094 [vr (1, 0, 0), vr (3, 0, 0), vr (29, 0, 0), vr (31, 0, 0), vi i, vn, vn] [] M N := by
  have x3 := hX.2.2
  refine go_aload_n dL_law_1094 rfl rfl ?_
  refine go_aload_n dL_law_1095 rfl rfl ?_
  refine go_iload dL_law_1096 rfl ?_
  refine go_iconst dL_law_1098 (R32_lit rfl) ?_
  refine go_iaddc dL_law_1099 ⟨by omega, by omega⟩ ?_
  refine go_scr hX dL_law_1100 (by omega) (by omega) ?_
  refine go_aload_n dL_law_1101 rfl rfl ?_
  refine go_iload dL_law_1102 rfl ?_
  refine go_iconst dL_law_1104 (R32_lit rfl) ?_
  refine go_iaddc dL_law_1105 ⟨by omega, by omega⟩ ?_
  refine go_scr hX dL_law_1106 (by omega) (by omega) ?_
  obtain ⟨P7, c7, h7⟩ := cs_finer (E := E) (v := sc xs (i + 1)) (k := sc xs (i + 2)) hI
  refine vL_125 dL_law_1107 rfl ⟨rfl, rfl⟩ hcl c7 (fun r1 M1 N1 hr1 hq1 => ?_)
  obtain ⟨P8, c8, h8⟩ := h7 r1 M1 N1 hq1
  refine go_aload_n dL_law_1110 rfl rfl ?_
  refine go_aload_n dL_law_1111 rfl rfl ?_
  refine go_iload dL_law_1112 rfl ?_
  refine go_iconst dL_law_1114 (R32_lit rfl) ?_
  refine go_iaddc dL_law_1115 ⟨by omega, by omega⟩ ?_
  refine go_scr hX dL_law_1116 (by omega) (by omega) ?_
  refine go_aload_n dL_law_1117 rfl rfl ?_
  refine go_iload dL_law_1118 rfl ?_
  refine go_iconst dL_law_1120 (R32_lit rfl) ?_
  refine go_iaddc dL_law_1121 ⟨by omega, by omega⟩ ?_
  refine go_scr hX dL_law_1122 (by omega) (by omega) ?_
  refine vL_128 dL_law_1123 rfl ⟨rfl, rfl⟩ hcl c8 (fun r2 M2 N2 hr2 hq2 => ?_)
  obtain ⟨he, hI2⟩ := h8 r2 M2 N2 hq2
  exact go_icmp_eq (tgt := 1299) dL_law_1126 rfl (fun _ => hK M2 N2 hI2) (fun z => absurd he z)
set_option maxRecDepth 100000 in
set_option maxHeartbeats 4000000 in
theorem lc_grid {E : Ev} {M : Mm} {N : Nn} {L0 : Nat} {xs : Nat → Int32} {i : Int} {cl sl : Nat} (hX : EC E L0 xs) (i0 : 0 ≤ i) (i1 : i + 6 ≤ L0) (hcl : Nat.ble cl room_1.cells = true ∧ Nat.ble sl room_1.slots = true) (hI : Iv M N) (hK : ∀ (M1 : Mm) (N1 : Nn), Iv M1 N1 → Go E RL cL_law 7 ((some .boolean)) room_1 cl sl (zLw E) 1299 [vr (1, 0, 0), vr (3, 0, 0), vr (29, 0, 0), vr (31, 0, 0), vi i, vn, vn] [] M1 N1) : Go E RL cL_law 7 ((some .boolean)) room_1 cl sl (zLw E) 1131 [vr (1, 0, 0), vr (3, 0, 0), vr (29, 0, 0), vr (31, 0, 0), vi i, vn, vn] [] M N := by
  have x3 := hX.2.2
  refine go_aload_n dL_law_1131 rfl rfl ?_
  refine go_aload_n dL_law_1132 rfl rfl ?_
  refine go_iload dL_law_1133 rfl ?_
  refine go_iconst dL_law_1135 (R32_lit rfl) ?_
  refine go_iaddc dL_law_1136 ⟨by omega, by omega⟩ ?_
  refine go_scr hX dL_law_1137 (by omega) (by omega) ?_
  refine go_aload_n dL_law_1138 rfl rfl ?_
  refine go_iload dL_law_1139 rfl ?_
  refine go_iconst dL_law_1141 (R32_lit rfl) ?_
  refine go_iaddc dL_law_1142 ⟨by omega, by omega⟩ ?_
  refine go_scr hX dL_law_1143 (by omega) (by omega) ?_
  obtain ⟨P7, c7, h7⟩ := cs_grid (E := E) (v := sc xs (i + 1)) (k := sc xs (i + 2)) hI
  refine vL_129 dL_law_1144 rfl ⟨rfl, rfl⟩ hcl c7 (fun r1 M1 N1 hr1 hq1 => ?_)
  obtain ⟨P8, c8, h8⟩ := h7 r1 M1 N1 hq1
  refine go_aload_n dL_law_1147 rfl rfl ?_
  refine go_aload_n dL_law_1148 rfl rfl ?_
  refine go_iload dL_law_1149 rfl ?_
  refine go_iconst dL_law_1151 (R32_lit rfl) ?_
  refine go_iaddc dL_law_1152 ⟨by omega, by omega⟩ ?_
  refine go_scr hX dL_law_1153 (by omega) (by omega) ?_
  refine go_aload_n dL_law_1154 rfl rfl ?_
  refine go_iload dL_law_1155 rfl ?_
  refine go_iconst dL_law_1157 (R32_lit rfl) ?_
  refine go_iaddc dL_law_1158 ⟨by omega, by omega⟩ ?_
  refine go_scr hX dL_law_1159 (by omega) (by omega) ?_
  refine vL_132 dL_law_1160 rfl ⟨rfl, rfl⟩ hcl c8 (fun r2 M2 N2 hr2 hq2 => ?_)
  obtain ⟨he, hI2⟩ := h8 r2 M2 N2 hq2
  exact go_icmp_eq (tgt := 1299) dL_law_1163 rfl (fun _ => hK M2 N2 hI2) (fun z => absurd he z)
set_option maxRecDepth 100000 in
set_option maxHeartbeats 4000000 in
theorem lc_range {E : Ev} {M : Mm} {N : Nn} {L0 : Nat} {xs : Nat → Int32} {i : Int} {cl sl : Nat} (hX : EC E L0 xs) (i0 : 0 ≤ i) (i1 : i + 6 ≤ L0) (hcl : Nat.ble cl room_1.cells = true ∧ Nat.ble sl room_1.slots = true) (hI : Iv M N) (hK : ∀ (M1 : Mm) (N1 : Nn), Iv M1 N1 → Go E RL cL_law 7 ((some .boolean)) room_1 cl sl (zLw E) 1299 [vr (1, 0, 0), vr (3, 0, 0), vr (29, 0, 0), vr (31, 0, 0), vi i, vn, vn] [] M1 N1) : Go E RL cL_law 7 ((some .boolean)) room_1 cl sl (zLw E) 1168 [vr (1, 0, 0), vr (3, 0, 0), vr (29, 0, 0), vr (31, 0, 0), vi i, vn, vn] [] M N := by
  have x3 := hX.2.2
  refine go_aload_n dL_law_1168 rfl rfl ?_
  refine go_aload_n dL_law_1169 rfl rfl ?_
  refine go_iload dL_law_1170 rfl ?_
  refine go_iconst dL_law_1172 (R32_lit rfl) ?_
  refine go_iaddc dL_law_1173 ⟨by omega, by omega⟩ ?_
  refine go_scr hX dL_law_1174 (by omega) (by omega) ?_
  refine go_aload_n dL_law_1175 rfl rfl ?_
  refine go_iload dL_law_1176 rfl ?_
  refine go_iconst dL_law_1178 (R32_lit rfl) ?_
  refine go_iaddc dL_law_1179 ⟨by omega, by omega⟩ ?_
  refine go_scr hX dL_law_1180 (by omega) (by omega) ?_
  refine go_aload_n dL_law_1181 rfl rfl ?_
  refine go_iload dL_law_1182 rfl ?_
  refine go_iconst dL_law_1184 (R32_lit rfl) ?_
  refine go_iaddc dL_law_1185 ⟨by omega, by omega⟩ ?_
  refine go_scr hX dL_law_1186 (by omega) (by omega) ?_
  obtain ⟨P7, c7, h7⟩ := cs_range (E := E) (v := sc xs (i + 1)) (a := sc xs (i + 2)) (b := sc xs (i + 3)) hI
  refine vL_133 dL_law_1187 rfl ⟨rfl, rfl⟩ hcl c7 (fun r1 M1 N1 hr1 hq1 => ?_)
  obtain ⟨P8, c8, h8⟩ := h7 r1 M1 N1 hq1
  refine go_aload_n dL_law_1190 rfl rfl ?_
  refine go_aload_n dL_law_1191 rfl rfl ?_
  refine go_iload dL_law_1192 rfl ?_
  refine go_iconst dL_law_1194 (R32_lit rfl) ?_
  refine go_iaddc dL_law_1195 ⟨by omega, by omega⟩ ?_
  refine go_scr hX dL_law_1196 (by omega) (by omega) ?_
  refine go_aload_n dL_law_1197 rfl rfl ?_
  refine go_iload dL_law_1198 rfl ?_
  refine go_iconst dL_law_1200 (R32_lit rfl) ?_
  refine go_iaddc dL_law_1201 ⟨by omega, by omega⟩ ?_
  refine go_scr hX dL_law_1202 (by omega) (by omega) ?_
  refine go_aload_n dL_law_1203 rfl rfl ?_
  refine go_iload dL_law_1204 rfl ?_
  refine go_iconst dL_law_1206 (R32_lit rfl) ?_
  refine go_iaddc dL_law_1207 ⟨by omega, by omega⟩ ?_
  refine go_scr hX dL_law_1208 (by omega) (by omega) ?_
  refine vL_137 dL_law_1209 rfl ⟨rfl, rfl⟩ hcl c8 (fun r2 M2 N2 hr2 hq2 => ?_)
  obtain ⟨he, hI2⟩ := h8 r2 M2 N2 hq2
  exact go_icmp_eq (tgt := 1299) dL_law_1212 rfl (fun _ => hK M2 N2 hI2) (fun z => absurd he z)
set_option maxRecDepth 100000 in
set_option maxHeartbeats 4000000 in
theorem lc_size {E : Ev} {M : Mm} {N : Nn} {L0 : Nat} {xs : Nat → Int32} {i : Int} {cl sl : Nat} (hX : EC E L0 xs) (i0 : 0 ≤ i) (i1 : i + 6 ≤ L0) (hcl : Nat.ble cl room_1.cells = true ∧ Nat.ble sl room_1.slots = true) (hI : Iv M N) (hK : ∀ (M1 : Mm) (N1 : Nn), Iv M1 N1 → Go E RL cL_law 7 ((some .boolean)) room_1 cl sl (zLw E) 1299 [vr (1, 0, 0), vr (3, 0, 0), vr (29, 0, 0), vr (31, 0, 0), vi i, vn, vn] [] M1 N1) : Go E RL cL_law 7 ((some .boolean)) room_1 cl sl (zLw E) 1273 [vr (1, 0, 0), vr (3, 0, 0), vr (29, 0, 0), vr (31, 0, 0), vi i, vn, vn] [] M N := by
  have x3 := hX.2.2
  refine go_aload_n dL_law_1273 rfl rfl ?_
  obtain ⟨P7, c7, h7⟩ := cs_size (E := E)  hI
  refine vL_147 dL_law_1274 rfl ⟨rfl, rfl⟩ hcl c7 (fun r1 M1 N1 hr1 hq1 => ?_)
  obtain ⟨P8, c8, h8⟩ := h7 r1 M1 N1 hq1
  refine go_aload_n dL_law_1277 rfl rfl ?_
  refine vL_150 dL_law_1278 rfl ⟨rfl, rfl⟩ hcl c8 (fun r2 M2 N2 hr2 hq2 => ?_)
  obtain ⟨he, hI2⟩ := h8 r2 M2 N2 hq2
  exact go_icmp_eq (tgt := 1299) dL_law_1281 rfl (fun _ => hK M2 N2 hI2) (fun z => absurd he z)
set_option maxRecDepth 100000 in
set_option maxHeartbeats 4000000 in
theorem lc_trouble {E : Ev} {M : Mm} {N : Nn} {L0 : Nat} {xs : Nat → Int32} {i : Int} {cl sl : Nat} (hX : EC E L0 xs) (i0 : 0 ≤ i) (i1 : i + 6 ≤ L0) (hcl : Nat.ble cl room_1.cells = true ∧ Nat.ble sl room_1.slots = true) (hI : Iv M N) (hK : ∀ (M1 : Mm) (N1 : Nn), Iv M1 N1 → Go E RL cL_law 7 ((some .boolean)) room_1 cl sl (zLw E) 1299 [vr (1, 0, 0), vr (3, 0, 0), vr (29, 0, 0), vr (31, 0, 0), vi i, vn, vn] [] M1 N1) : Go E RL cL_law 7 ((some .boolean)) room_1 cl sl (zLw E) 1286 [vr (1, 0, 0), vr (3, 0, 0), vr (29, 0, 0), vr (31, 0, 0), vi i, vn, vn] [] M N := by
  have x3 := hX.2.2
  refine go_aload_n dL_law_1286 rfl rfl ?_
  obtain ⟨P7, c7, h7⟩ := cs_trouble (E := E)  hI
  refine vL_151 dL_law_1287 rfl ⟨rfl, rfl⟩ hcl c7 (fun r1 M1 N1 hr1 hq1 => ?_)
  obtain ⟨P8, c8, h8⟩ := h7 r1 M1 N1 hq1
  refine go_aload_n dL_law_1290 rfl rfl ?_
  refine vL_154 dL_law_1291 rfl ⟨rfl, rfl⟩ hcl c8 (fun r2 M2 N2 hr2 hq2 => ?_)
  obtain ⟨he, hI2⟩ := h8 r2 M2 N2 hq2
  exact go_icmp_eq (tgt := 1299) dL_law_1294 rfl (fun _ => hK M2 N2 hI2) (fun z => absurd he z)
