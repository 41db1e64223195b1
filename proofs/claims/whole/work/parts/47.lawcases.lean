section LL
variable {p : Program} {l : Launch} {e : Env} {s : State} {m : MethodId} {below : List Frame} {meth : Method} {c : Code} {H : Heap} {locs : List Loc} {Q : State → Prop} {ls : Array Slot} {D : va_G} {q : Nat → Nat} {g : Nat → ClassId} {σ : Mem} {b L t1 t2 : Nat} {xs : Nat → Int32} {i : Int}
theorem law_0 (X : LC D g q p s m c b L xs t1 t2) (hP : HP D q g σ H) (hG : Inv σ) (hS : va_S (aQ q) s.heap H locs) (hl : lv_has ls 4 (lLv q b i)) (hi : 0 ≤ i ∧ i + 6 ≤ L) (kk : ∀ (σ1 : Mem) (H1 : Heap) (locs1 : List Loc), HP D q g σ1 H1 → Inv σ1 → va_S (aQ q) s.heap H1 locs1 → W p l e room_1 s m #[Value.ref b] below meth c H1 locs1 62 754 Q (F0 m 1018 ls [])) : W p l e room_1 s m #[Value.ref b] below meth c H locs 62 754 Q (F0 m 156 ls []) := by
  have C := X.1
  refine z_aln C hl 2 rfl dL_law_156 ?_
  refine u_arg X hS hl hi (k := 1) (by decide) dL_law_157 dL_law_158 dL_law_159 dL_law_160 dL_law_161 ?_
  refine u_arg X hS hl hi (k := 2) (by decide) dL_law_162 dL_law_163 dL_law_164 dL_law_165 dL_law_166 ?_
  refine u_vRWi (rest := []) C hP hS hl (c_X8_runner (σ := σ) X.2.1 (ax xs i 1) (ax xs i 2) hG.1.1 ax_R ax_R) (z_recv C hP (i := 0) (by decide) rfl (ci := 8) rfl) wg_209 wg_1 wg_206 wg_207 wg_208 cw_X8_runner ⟨Nat.le_of_ble_eq_true rfl, Nat.le_of_ble_eq_true rfl⟩ ⟨Nat.le_of_ble_eq_true rfl, Nat.le_of_ble_eq_true rfl⟩ rfl rfl (Nat.le_of_ble_eq_true rfl) dL_law_167 (fun r τ H locs hp1 hP hS => ?_)
  obtain ⟨hpre, hpost⟩ := m_runner hG hp1
  refine z_aln C hl 1 rfl dL_law_170 ?_
  refine u_arg X hS hl hi (k := 1) (by decide) dL_law_171 dL_law_172 dL_law_173 dL_law_174 dL_law_175 ?_
  refine u_arg X hS hl hi (k := 2) (by decide) dL_law_176 dL_law_177 dL_law_178 dL_law_179 dL_law_180 ?_
  refine u_vRWi (rest := [_]) C hP hS hl (c_X9_runner (σ := τ) X.2.1 (ax xs i 1) (ax xs i 2) hpre ax_R ax_R) (z_recv C hP (i := 44) (by decide) rfl (ci := 9) rfl) wg_675 wg_10 wg_672 wg_673 wg_674 cw_X9_runner ⟨Nat.le_of_ble_eq_true rfl, Nat.le_of_ble_eq_true rfl⟩ ⟨Nat.le_of_ble_eq_true rfl, Nat.le_of_ble_eq_true rfl⟩ rfl rfl (Nat.le_of_ble_eq_true rfl) dL_law_181 (fun r2 υ H locs hp2 hP hS => ?_)
  obtain ⟨e1, hG2⟩ := hpost r2 υ hp2
  rw [e1]
  exact u_eq C 1018 (by decide) dL_law_184 (kk υ H locs hP hG2 hS)
theorem law_1 (X : LC D g q p s m c b L xs t1 t2) (hP : HP D q g σ H) (hG : Inv σ) (hS : va_S (aQ q) s.heap H locs) (hl : lv_has ls 4 (lLv q b i)) (hi : 0 ≤ i ∧ i + 6 ≤ L) (kk : ∀ (σ1 : Mem) (H1 : Heap) (locs1 : List Loc), HP D q g σ1 H1 → Inv σ1 → va_S (aQ q) s.heap H1 locs1 → W p l e room_1 s m #[Value.ref b] below meth c H1 locs1 62 754 Q (F0 m 1018 ls [])) : W p l e room_1 s m #[Value.ref b] below meth c H locs 62 754 Q (F0 m 189 ls []) := by
  have C := X.1
  refine z_aln C hl 2 rfl dL_law_189 ?_
  refine u_arg X hS hl hi (k := 1) (by decide) dL_law_190 dL_law_191 dL_law_192 dL_law_193 dL_law_194 ?_
  refine u_arg X hS hl hi (k := 2) (by decide) dL_law_195 dL_law_196 dL_law_197 dL_law_198 dL_law_199 ?_
  refine u_arg X hS hl hi (k := 3) (by decide) dL_law_200 dL_law_201 dL_law_202 dL_law_203 dL_law_204 ?_
  refine u_arg X hS hl hi (k := 4) (by decide) dL_law_205 dL_law_206 dL_law_207 dL_law_208 dL_law_209 ?_
  refine u_arg X hS hl hi (k := 5) (by decide) dL_law_210 dL_law_211 dL_law_212 dL_law_213 dL_law_214 ?_
  refine u_vRWi (rest := []) C hP hS hl (c_X8_shape (σ := σ) X.2.1 (ax xs i 1) (ax xs i 2) (ax xs i 3) (ax xs i 4) (ax xs i 5) hG.1.1 ax_R ax_R ax_R ax_R ax_R) (z_recv C hP (i := 0) (by decide) rfl (ci := 8) rfl) wg_220 wg_1 wg_217 wg_218 wg_219 cw_X8_shape ⟨Nat.le_of_ble_eq_true rfl, Nat.le_of_ble_eq_true rfl⟩ ⟨Nat.le_of_ble_eq_true rfl, Nat.le_of_ble_eq_true rfl⟩ rfl rfl (Nat.le_of_ble_eq_true rfl) dL_law_215 (fun r τ H locs hp1 hP hS => ?_)
  obtain ⟨hpre, hpost⟩ := m_shape hG hp1
  refine z_aln C hl 1 rfl dL_law_218 ?_
  refine u_arg X hS hl hi (k := 1) (by decide) dL_law_219 dL_law_220 dL_law_221 dL_law_222 dL_law_223 ?_
  refine u_arg X hS hl hi (k := 2) (by decide) dL_law_224 dL_law_225 dL_law_226 dL_law_227 dL_law_228 ?_
  refine u_arg X hS hl hi (k := 3) (by decide) dL_law_229 dL_law_230 dL_law_231 dL_law_232 dL_law_233 ?_
  refine u_arg X hS hl hi (k := 4) (by decide) dL_law_234 dL_law_235 dL_law_236 dL_law_237 dL_law_238 ?_
  refine u_arg X hS hl hi (k := 5) (by decide) dL_law_239 dL_law_240 dL_law_241 dL_law_242 dL_law_243 ?_
  refine u_vRWi (rest := [_]) C hP hS hl (c_X9_shape (σ := τ) X.2.1 (ax xs i 1) (ax xs i 2) (ax xs i 3) (ax xs i 4) (ax xs i 5) hpre ax_R ax_R ax_R ax_R ax_R) (z_recv C hP (i := 44) (by decide) rfl (ci := 9) rfl) wg_684 wg_10 wg_681 wg_682 wg_683 cw_X9_shape ⟨Nat.le_of_ble_eq_true rfl, Nat.le_of_ble_eq_true rfl⟩ ⟨Nat.le_of_ble_eq_true rfl, Nat.le_of_ble_eq_true rfl⟩ rfl rfl (Nat.le_of_ble_eq_true rfl) dL_law_244 (fun r2 υ H locs hp2 hP hS => ?_)
  obtain ⟨e1, hG2⟩ := hpost r2 υ hp2
  rw [e1]
  exact u_eq C 1018 (by decide) dL_law_247 (kk υ H locs hP hG2 hS)
theorem law_2 (X : LC D g q p s m c b L xs t1 t2) (hP : HP D q g σ H) (hG : Inv σ) (hS : va_S (aQ q) s.heap H locs) (hl : lv_has ls 4 (lLv q b i)) (hi : 0 ≤ i ∧ i + 6 ≤ L) (kk : ∀ (σ1 : Mem) (H1 : Heap) (locs1 : List Loc), HP D q g σ1 H1 → Inv σ1 → va_S (aQ q) s.heap H1 locs1 → W p l e room_1 s m #[Value.ref b] below meth c H1 locs1 62 754 Q (F0 m 1018 ls [])) : W p l e room_1 s m #[Value.ref b] below meth c H locs 62 754 Q (F0 m 252 ls []) := by
  have C := X.1
  refine z_aln C hl 2 rfl dL_law_252 ?_
  refine u_arg X hS hl hi (k := 1) (by decide) dL_law_253 dL_law_254 dL_law_255 dL_law_256 dL_law_257 ?_
  refine u_arg X hS hl hi (k := 2) (by decide) dL_law_258 dL_law_259 dL_law_260 dL_law_261 dL_law_262 ?_
  have hST : ST (aQ q) t1 t2 s H := (X.2.2.2.2.2.2.narrow (fun a ⟨j, hj, ej⟩ => by rw [ej]; exact X.2.2.2.2.1 j hj)).kept (fun a h1 h2 => hS.2.1 a h1 h2)
  refine u_vST (rest := []) C hP hST hS hl (c_X8_set (σ := σ) X.2.1 (ax xs i 1) (ax xs i 2) ax_R ax_R t1 t2) (z_recv C hP (i := 0) (by decide) rfl (ci := 8) rfl) wg_236 wg_1 wg_233 wg_234 wg_235 cw_X8_set ⟨Nat.le_of_ble_eq_true rfl, Nat.le_of_ble_eq_true rfl⟩ ⟨Nat.le_of_ble_eq_true rfl, Nat.le_of_ble_eq_true rfl⟩ rfl rfl (Nat.le_of_ble_eq_true rfl) dL_law_263 (fun r τ H locs hp1 hP hS => ?_)
  have hpost := m_set hG hp1
  refine z_aln C hl 1 rfl dL_law_266 ?_
  refine u_arg X hS hl hi (k := 1) (by decide) dL_law_267 dL_law_268 dL_law_269 dL_law_270 dL_law_271 ?_
  refine u_arg X hS hl hi (k := 2) (by decide) dL_law_272 dL_law_273 dL_law_274 dL_law_275 dL_law_276 ?_
  refine u_vRWi (rest := [_]) C hP hS hl (c_X9_set (σ := τ) X.2.1 (ax xs i 1) (ax xs i 2)  ax_R ax_R) (z_recv C hP (i := 44) (by decide) rfl (ci := 9) rfl) wg_701 wg_10 wg_698 wg_699 wg_700 cw_X9_set ⟨Nat.le_of_ble_eq_true rfl, Nat.le_of_ble_eq_true rfl⟩ ⟨Nat.le_of_ble_eq_true rfl, Nat.le_of_ble_eq_true rfl⟩ rfl rfl (Nat.le_of_ble_eq_true rfl) dL_law_277 (fun r2 υ H locs hp2 hP hS => ?_)
  obtain ⟨e1, hG2⟩ := hpost r2 υ hp2
  rw [e1]
  exact u_eq C 1018 (by decide) dL_law_280 (kk υ H locs hP hG2 hS)
theorem law_3 (X : LC D g q p s m c b L xs t1 t2) (hP : HP D q g σ H) (hG : Inv σ) (hS : va_S (aQ q) s.heap H locs) (hl : lv_has ls 4 (lLv q b i)) (hi : 0 ≤ i ∧ i + 6 ≤ L) (kk : ∀ (σ1 : Mem) (H1 : Heap) (locs1 : List Loc), HP D q g σ1 H1 → Inv σ1 → va_S (aQ q) s.heap H1 locs1 → W p l e room_1 s m #[Value.ref b] below meth c H1 locs1 62 754 Q (F0 m 1018 ls [])) : W p l e room_1 s m #[Value.ref b] below meth c H locs 62 754 Q (F0 m 285 ls []) := by
  have C := X.1
  refine z_aln C hl 2 rfl dL_law_285 ?_
  refine u_arg X hS hl hi (k := 1) (by decide) dL_law_286 dL_law_287 dL_law_288 dL_law_289 dL_law_290 ?_
  refine u_arg X hS hl hi (k := 2) (by decide) dL_law_291 dL_law_292 dL_law_293 dL_law_294 dL_law_295 ?_
  refine u_arg X hS hl hi (k := 3) (by decide) dL_law_296 dL_law_297 dL_law_298 dL_law_299 dL_law_300 ?_
  refine u_vRO (rest := []) C hP hl (c_X8_shows (σ := σ) (ax xs i 1) (ax xs i 2) (ax xs i 3) hG.1.1 ax_R ax_R ax_R) (z_recv C hP (i := 0) (by decide) rfl (ci := 8) rfl) wg_244 wg_1 wg_241 wg_242 wg_243 cw_X8_shows ⟨Nat.le_of_ble_eq_true rfl, Nat.le_of_ble_eq_true rfl⟩ ⟨Nat.le_of_ble_eq_true rfl, Nat.le_of_ble_eq_true rfl⟩ rfl rfl (Nat.le_of_ble_eq_true rfl) dL_law_301 ?_
  refine z_aln C hl 1 rfl dL_law_304 ?_
  refine u_arg X hS hl hi (k := 1) (by decide) dL_law_305 dL_law_306 dL_law_307 dL_law_308 dL_law_309 ?_
  refine u_arg X hS hl hi (k := 2) (by decide) dL_law_310 dL_law_311 dL_law_312 dL_law_313 dL_law_314 ?_
  refine u_arg X hS hl hi (k := 3) (by decide) dL_law_315 dL_law_316 dL_law_317 dL_law_318 dL_law_319 ?_
  refine u_vRO (rest := [_]) C hP hl (c_X9_shows (σ := σ) (ax xs i 1) (ax xs i 2) (ax xs i 3) hG.1.1 hG.1.2.1 ax_R ax_R ax_R) (z_recv C hP (i := 44) (by decide) rfl (ci := 9) rfl) wg_712 wg_10 wg_709 wg_710 wg_711 cw_X9_shows ⟨Nat.le_of_ble_eq_true rfl, Nat.le_of_ble_eq_true rfl⟩ ⟨Nat.le_of_ble_eq_true rfl, Nat.le_of_ble_eq_true rfl⟩ rfl rfl (Nat.le_of_ble_eq_true rfl) dL_law_320 ?_
  exact u_eq C 1018 (by decide) dL_law_323 (kk σ H locs hP hG hS)
theorem law_4 (X : LC D g q p s m c b L xs t1 t2) (hP : HP D q g σ H) (hG : Inv σ) (hS : va_S (aQ q) s.heap H locs) (hl : lv_has ls 4 (lLv q b i)) (hi : 0 ≤ i ∧ i + 6 ≤ L) (kk : ∀ (σ1 : Mem) (H1 : Heap) (locs1 : List Loc), HP D q g σ1 H1 → Inv σ1 → va_S (aQ q) s.heap H1 locs1 → W p l e room_1 s m #[Value.ref b] below meth c H1 locs1 62 754 Q (F0 m 1018 ls [])) : W p l e room_1 s m #[Value.ref b] below meth c H locs 62 754 Q (F0 m 328 ls []) := by
  have C := X.1
  refine z_aln C hl 2 rfl dL_law_328 ?_
  refine u_arg X hS hl hi (k := 1) (by decide) dL_law_329 dL_law_330 dL_law_331 dL_law_332 dL_law_333 ?_
  refine u_arg X hS hl hi (k := 2) (by decide) dL_law_334 dL_law_335 dL_law_336 dL_law_337 dL_law_338 ?_
  refine u_vRO (rest := []) C hP hl (c_X8_of (σ := σ) (ax xs i 1) (ax xs i 2) hG.1.1 ax_R ax_R) (z_recv C hP (i := 0) (by decide) rfl (ci := 8) rfl) wg_266 wg_1 wg_263 wg_264 wg_265 cw_X8_of ⟨Nat.le_of_ble_eq_true rfl, Nat.le_of_ble_eq_true rfl⟩ ⟨Nat.le_of_ble_eq_true rfl, Nat.le_of_ble_eq_true rfl⟩ rfl rfl (Nat.le_of_ble_eq_true rfl) dL_law_339 ?_
  refine z_aln C hl 1 rfl dL_law_342 ?_
  refine u_arg X hS hl hi (k := 1) (by decide) dL_law_343 dL_law_344 dL_law_345 dL_law_346 dL_law_347 ?_
  refine u_arg X hS hl hi (k := 2) (by decide) dL_law_348 dL_law_349 dL_law_350 dL_law_351 dL_law_352 ?_
  refine u_vRWi (rest := [_]) C hP hS hl (c_X9_of (σ := σ) X.2.1 (ax xs i 1) (ax xs i 2) hG.1.1 hG.1.2.1 ax_R ax_R) (z_recv C hP (i := 44) (by decide) rfl (ci := 9) rfl) wg_725 wg_10 wg_722 wg_723 wg_724 cw_X9_of ⟨Nat.le_of_ble_eq_true rfl, Nat.le_of_ble_eq_true rfl⟩ ⟨Nat.le_of_ble_eq_true rfl, Nat.le_of_ble_eq_true rfl⟩ rfl rfl (Nat.le_of_ble_eq_true rfl) dL_law_353 (fun r2 υ H locs hp2 hP hS => ?_)
  obtain ⟨hF2, e2⟩ := hp2
  rw [e2]
  exact u_eq C 1018 (by decide) dL_law_356 (kk υ H locs hP (Fr_Inv hF2 hG) hS)
theorem law_5 (X : LC D g q p s m c b L xs t1 t2) (hP : HP D q g σ H) (hG : Inv σ) (hS : va_S (aQ q) s.heap H locs) (hl : lv_has ls 4 (lLv q b i)) (hi : 0 ≤ i ∧ i + 6 ≤ L) (kk : ∀ (σ1 : Mem) (H1 : Heap) (locs1 : List Loc), HP D q g σ1 H1 → Inv σ1 → va_S (aQ q) s.heap H1 locs1 → W p l e room_1 s m #[Value.ref b] below meth c H1 locs1 62 754 Q (F0 m 1018 ls [])) : W p l e room_1 s m #[Value.ref b] below meth c H locs 62 754 Q (F0 m 361 ls []) := by
  have C := X.1
  refine z_aln C hl 2 rfl dL_law_361 ?_
  refine u_arg X hS hl hi (k := 1) (by decide) dL_law_362 dL_law_363 dL_law_364 dL_law_365 dL_law_366 ?_
  refine u_vRO (rest := []) C hP hl (c_X8_moved (σ := σ) (ax xs i 1) hG.1.1 ax_R) (z_recv C hP (i := 0) (by decide) rfl (ci := 8) rfl) wg_343 wg_1 wg_340 wg_341 wg_342 cw_X8_moved ⟨Nat.le_of_ble_eq_true rfl, Nat.le_of_ble_eq_true rfl⟩ ⟨Nat.le_of_ble_eq_true rfl, Nat.le_of_ble_eq_true rfl⟩ rfl rfl (Nat.le_of_ble_eq_true rfl) dL_law_367 ?_
  refine z_aln C hl 1 rfl dL_law_370 ?_
  refine u_arg X hS hl hi (k := 1) (by decide) dL_law_371 dL_law_372 dL_law_373 dL_law_374 dL_law_375 ?_
  refine u_vRO (rest := [_]) C hP hl (c_X9_moved (σ := σ) (ax xs i 1) hG.1.1 hG.1.2.1 ax_R) (z_recv C hP (i := 44) (by decide) rfl (ci := 9) rfl) wg_760 wg_10 wg_757 wg_758 wg_759 cw_X9_moved ⟨Nat.le_of_ble_eq_true rfl, Nat.le_of_ble_eq_true rfl⟩ ⟨Nat.le_of_ble_eq_true rfl, Nat.le_of_ble_eq_true rfl⟩ rfl rfl (Nat.le_of_ble_eq_true rfl) dL_law_376 ?_
  exact u_eq C 1018 (by decide) dL_law_379 (kk σ H locs hP hG hS)
theorem law_6 (X : LC D g q p s m c b L xs t1 t2) (hP : HP D q g σ H) (hG : Inv σ) (hS : va_S (aQ q) s.heap H locs) (hl : lv_has ls 4 (lLv q b i)) (hi : 0 ≤ i ∧ i + 6 ≤ L) (kk : ∀ (σ1 : Mem) (H1 : Heap) (locs1 : List Loc), HP D q g σ1 H1 → Inv σ1 → va_S (aQ q) s.heap H1 locs1 → W p l e room_1 s m #[Value.ref b] below meth c H1 locs1 62 754 Q (F0 m 1018 ls [])) : W p l e room_1 s m #[Value.ref b] below meth c H locs 62 754 Q (F0 m 384 ls []) := by
  have C := X.1
  refine z_aln C hl 2 rfl dL_law_384 ?_
  refine u_arg X hS hl hi (k := 1) (by decide) dL_law_385 dL_law_386 dL_law_387 dL_law_388 dL_law_389 ?_
  refine u_vRWi (rest := []) C hP hS hl (c_X8_order (σ := σ) X.2.1 (ax xs i 1) hG.1.1 ax_R) (z_recv C hP (i := 0) (by decide) rfl (ci := 8) rfl) wg_354 wg_1 wg_351 wg_352 wg_353 cw_X8_order ⟨Nat.le_of_ble_eq_true rfl, Nat.le_of_ble_eq_true rfl⟩ ⟨Nat.le_of_ble_eq_true rfl, Nat.le_of_ble_eq_true rfl⟩ rfl rfl (Nat.le_of_ble_eq_true rfl) dL_law_390 (fun r τ H locs hp1 hP hS => ?_)
  obtain ⟨hF, e1⟩ := hp1
  have hG1 := Fr_Inv hF hG
  refine z_aln C hl 1 rfl dL_law_393 ?_
  refine u_arg X hS hl hi (k := 1) (by decide) dL_law_394 dL_law_395 dL_law_396 dL_law_397 dL_law_398 ?_
  refine u_vRWi (rest := [_]) C hP hS hl (c_X9_order (σ := τ) X.2.1 (ax xs i 1) hG1.1.1 hG1.1.2.1 ax_R) (z_recv C hP (i := 44) (by decide) rfl (ci := 9) rfl) wg_767 wg_10 wg_764 wg_765 wg_766 cw_X9_order ⟨Nat.le_of_ble_eq_true rfl, Nat.le_of_ble_eq_true rfl⟩ ⟨Nat.le_of_ble_eq_true rfl, Nat.le_of_ble_eq_true rfl⟩ rfl rfl (Nat.le_of_ble_eq_true rfl) dL_law_399 (fun r2 υ H locs hp2 hP hS => ?_)
  obtain ⟨hF2, e2⟩ := hp2
  have e3 : r2 = r := by rw [e2, e1, Fr_co hF]
  rw [e3]
  exact u_eq C 1018 (by decide) dL_law_402 (kk υ H locs hP (Fr_Inv hF2 hG1) hS)
theorem law_7 (X : LC D g q p s m c b L xs t1 t2) (hP : HP D q g σ H) (hG : Inv σ) (hS : va_S (aQ q) s.heap H locs) (hl : lv_has ls 4 (lLv q b i)) (hi : 0 ≤ i ∧ i + 6 ≤ L) (kk : ∀ (σ1 : Mem) (H1 : Heap) (locs1 : List Loc), HP D q g σ1 H1 → Inv σ1 → va_S (aQ q) s.heap H1 locs1 → W p l e room_1 s m #[Value.ref b] below meth c H1 locs1 62 754 Q (F0 m 1018 ls [])) : W p l e room_1 s m #[Value.ref b] below meth c H locs 62 754 Q (F0 m 407 ls []) := by
  have C := X.1
  refine z_aln C hl 2 rfl dL_law_407 ?_
  refine u_arg X hS hl hi (k := 1) (by decide) dL_law_408 dL_law_409 dL_law_410 dL_law_411 dL_law_412 ?_
  refine u_arg X hS hl hi (k := 2) (by decide) dL_law_413 dL_law_414 dL_law_415 dL_law_416 dL_law_417 ?_
  refine u_vRWi (rest := []) C hP hS hl (c_X8_place (σ := σ) X.2.1 (ax xs i 1) (ax xs i 2) hG.1.1 ax_R ax_R) (z_recv C hP (i := 0) (by decide) rfl (ci := 8) rfl) wg_371 wg_1 wg_368 wg_369 wg_370 cw_X8_place ⟨Nat.le_of_ble_eq_true rfl, Nat.le_of_ble_eq_true rfl⟩ ⟨Nat.le_of_ble_eq_true rfl, Nat.le_of_ble_eq_true rfl⟩ rfl rfl (Nat.le_of_ble_eq_true rfl) dL_law_418 (fun r τ H locs hp1 hP hS => ?_)
  obtain ⟨hF, e1⟩ := hp1
  have hG1 := Fr_Inv hF hG
  refine z_aln C hl 1 rfl dL_law_421 ?_
  refine u_arg X hS hl hi (k := 1) (by decide) dL_law_422 dL_law_423 dL_law_424 dL_law_425 dL_law_426 ?_
  refine u_arg X hS hl hi (k := 2) (by decide) dL_law_427 dL_law_428 dL_law_429 dL_law_430 dL_law_431 ?_
  refine u_vRWi (rest := [_]) C hP hS hl (c_X9_place (σ := τ) X.2.1 (ax xs i 1) (ax xs i 2) hG1.1.1 hG1.1.2.1 ax_R ax_R) (z_recv C hP (i := 44) (by decide) rfl (ci := 9) rfl) wg_779 wg_10 wg_776 wg_777 wg_778 cw_X9_place ⟨Nat.le_of_ble_eq_true rfl, Nat.le_of_ble_eq_true rfl⟩ ⟨Nat.le_of_ble_eq_true rfl, Nat.le_of_ble_eq_true rfl⟩ rfl rfl (Nat.le_of_ble_eq_true rfl) dL_law_432 (fun r2 υ H locs hp2 hP hS => ?_)
  obtain ⟨hF2, e2⟩ := hp2
  have e3 : r2 = r := by rw [e2, e1, Fr_co hF, hF 1 2 rfl]
  rw [e3]
  exact u_eq C 1018 (by decide) dL_law_435 (kk υ H locs hP (Fr_Inv hF2 hG1) hS)
theorem law_8 (X : LC D g q p s m c b L xs t1 t2) (hP : HP D q g σ H) (hG : Inv σ) (hS : va_S (aQ q) s.heap H locs) (hl : lv_has ls 4 (lLv q b i)) (hi : 0 ≤ i ∧ i + 6 ≤ L) (kk : ∀ (σ1 : Mem) (H1 : Heap) (locs1 : List Loc), HP D q g σ1 H1 → Inv σ1 → va_S (aQ q) s.heap H1 locs1 → W p l e room_1 s m #[Value.ref b] below meth c H1 locs1 62 754 Q (F0 m 1018 ls [])) : W p l e room_1 s m #[Value.ref b] below meth c H locs 62 754 Q (F0 m 440 ls []) := by
  have C := X.1
  refine z_aln C hl 2 rfl dL_law_440 ?_
  refine u_arg X hS hl hi (k := 1) (by decide) dL_law_441 dL_law_442 dL_law_443 dL_law_444 dL_law_445 ?_
  refine u_arg X hS hl hi (k := 2) (by decide) dL_law_446 dL_law_447 dL_law_448 dL_law_449 dL_law_450 ?_
  refine u_vRO (rest := []) C hP hl (c_X8_stretch (σ := σ) (ax xs i 1) (ax xs i 2) hG.1.1 ax_R ax_R) (z_recv C hP (i := 0) (by decide) rfl (ci := 8) rfl) wg_380 wg_1 wg_377 wg_378 wg_379 cw_X8_stretch ⟨Nat.le_of_ble_eq_true rfl, Nat.le_of_ble_eq_true rfl⟩ ⟨Nat.le_of_ble_eq_true rfl, Nat.le_of_ble_eq_true rfl⟩ rfl rfl (Nat.le_of_ble_eq_true rfl) dL_law_451 ?_
  refine z_aln C hl 1 rfl dL_law_454 ?_
  refine u_arg X hS hl hi (k := 1) (by decide) dL_law_455 dL_law_456 dL_law_457 dL_law_458 dL_law_459 ?_
  refine u_arg X hS hl hi (k := 2) (by decide) dL_law_460 dL_law_461 dL_law_462 dL_law_463 dL_law_464 ?_
  refine u_vRO (rest := [_]) C hP hl (c_X9_stretch (σ := σ) (ax xs i 1) (ax xs i 2) hG.1.1 hG.1.2.1 ax_R ax_R) (z_recv C hP (i := 44) (by decide) rfl (ci := 9) rfl) wg_783 wg_10 wg_780 wg_781 wg_782 cw_X9_stretch ⟨Nat.le_of_ble_eq_true rfl, Nat.le_of_ble_eq_true rfl⟩ ⟨Nat.le_of_ble_eq_true rfl, Nat.le_of_ble_eq_true rfl⟩ rfl rfl (Nat.le_of_ble_eq_true rfl) dL_law_465 ?_
  exact u_eq C 1018 (by decide) dL_law_468 (kk σ H locs hP hG hS)
theorem law_9 (X : LC D g q p s m c b L xs t1 t2) (hP : HP D q g σ H) (hG : Inv σ) (hS : va_S (aQ q) s.heap H locs) (hl : lv_has ls 4 (lLv q b i)) (hi : 0 ≤ i ∧ i + 6 ≤ L) (kk : ∀ (σ1 : Mem) (H1 : Heap) (locs1 : List Loc), HP D q g σ1 H1 → Inv σ1 → va_S (aQ q) s.heap H1 locs1 → W p l e room_1 s m #[Value.ref b] below meth c H1 locs1 62 754 Q (F0 m 1018 ls [])) : W p l e room_1 s m #[Value.ref b] below meth c H locs 62 754 Q (F0 m 473 ls []) := by
  have C := X.1
  refine z_aln C hl 2 rfl dL_law_473 ?_
  refine u_arg X hS hl hi (k := 1) (by decide) dL_law_474 dL_law_475 dL_law_476 dL_law_477 dL_law_478 ?_
  refine u_arg X hS hl hi (k := 2) (by decide) dL_law_479 dL_law_480 dL_law_481 dL_law_482 dL_law_483 ?_
  refine u_arg X hS hl hi (k := 3) (by decide) dL_law_484 dL_law_485 dL_law_486 dL_law_487 dL_law_488 ?_
  refine u_vRO (rest := []) C hP hl (c_X8_speeds (σ := σ) (ax xs i 1) (ax xs i 2) (ax xs i 3)  ax_R ax_R ax_R) (z_recv C hP (i := 0) (by decide) rfl (ci := 8) rfl) wg_390 wg_1 wg_387 wg_388 wg_389 cw_X8_speeds ⟨Nat.le_of_ble_eq_true rfl, Nat.le_of_ble_eq_true rfl⟩ ⟨Nat.le_of_ble_eq_true rfl, Nat.le_of_ble_eq_true rfl⟩ rfl rfl (Nat.le_of_ble_eq_true rfl) dL_law_489 ?_
  refine z_aln C hl 1 rfl dL_law_492 ?_
  refine u_arg X hS hl hi (k := 1) (by decide) dL_law_493 dL_law_494 dL_law_495 dL_law_496 dL_law_497 ?_
  refine u_arg X hS hl hi (k := 2) (by decide) dL_law_498 dL_law_499 dL_law_500 dL_law_501 dL_law_502 ?_
  refine u_arg X hS hl hi (k := 3) (by decide) dL_law_503 dL_law_504 dL_law_505 dL_law_506 dL_law_507 ?_
  refine u_vRO (rest := [_]) C hP hl (c_X9_speeds (σ := σ) (ax xs i 1) (ax xs i 2) (ax xs i 3)  ax_R ax_R ax_R) (z_recv C hP (i := 44) (by decide) rfl (ci := 9) rfl) wg_787 wg_10 wg_784 wg_785 wg_786 cw_X9_speeds ⟨Nat.le_of_ble_eq_true rfl, Nat.le_of_ble_eq_true rfl⟩ ⟨Nat.le_of_ble_eq_true rfl, Nat.le_of_ble_eq_true rfl⟩ rfl rfl (Nat.le_of_ble_eq_true rfl) dL_law_508 ?_
  exact u_eq C 1018 (by decide) dL_law_511 (kk σ H locs hP hG hS)
theorem law_10 (X : LC D g q p s m c b L xs t1 t2) (hP : HP D q g σ H) (hG : Inv σ) (hS : va_S (aQ q) s.heap H locs) (hl : lv_has ls 4 (lLv q b i)) (hi : 0 ≤ i ∧ i + 6 ≤ L) (kk : ∀ (σ1 : Mem) (H1 : Heap) (locs1 : List Loc), HP D q g σ1 H1 → Inv σ1 → va_S (aQ q) s.heap H1 locs1 → W p l e room_1 s m #[Value.ref b] below meth c H1 locs1 62 754 Q (F0 m 1018 ls [])) : W p l e room_1 s m #[Value.ref b] below meth c H locs 62 754 Q (F0 m 516 ls []) := by
  have C := X.1
  refine z_aln C hl 2 rfl dL_law_516 ?_
  refine u_arg X hS hl hi (k := 1) (by decide) dL_law_517 dL_law_518 dL_law_519 dL_law_520 dL_law_521 ?_
  refine u_arg X hS hl hi (k := 2) (by decide) dL_law_522 dL_law_523 dL_law_524 dL_law_525 dL_law_526 ?_
  refine u_vRWi (rest := []) C hP hS hl (c_X8_push (σ := σ) X.2.1 (ax xs i 1) (ax xs i 2) hG.1.1 ax_R ax_R) (z_recv C hP (i := 0) (by decide) rfl (ci := 8) rfl) wg_399 wg_1 wg_396 wg_397 wg_398 cw_X8_push ⟨Nat.le_of_ble_eq_true rfl, Nat.le_of_ble_eq_true rfl⟩ ⟨Nat.le_of_ble_eq_true rfl, Nat.le_of_ble_eq_true rfl⟩ rfl rfl (Nat.le_of_ble_eq_true rfl) dL_law_527 (fun r τ H locs hp1 hP hS => ?_)
  obtain ⟨hpre, hpost⟩ := m_push hG hp1
  refine z_aln C hl 1 rfl dL_law_530 ?_
  refine u_arg X hS hl hi (k := 1) (by decide) dL_law_531 dL_law_532 dL_law_533 dL_law_534 dL_law_535 ?_
  refine u_arg X hS hl hi (k := 2) (by decide) dL_law_536 dL_law_537 dL_law_538 dL_law_539 dL_law_540 ?_
  refine u_vRWi (rest := [_]) C hP hS hl (c_X9_push (σ := τ) X.2.1 (ax xs i 1) (ax xs i 2) hpre ax_R ax_R) (z_recv C hP (i := 44) (by decide) rfl (ci := 9) rfl) wg_793 wg_10 wg_790 wg_791 wg_792 cw_X9_push ⟨Nat.le_of_ble_eq_true rfl, Nat.le_of_ble_eq_true rfl⟩ ⟨Nat.le_of_ble_eq_true rfl, Nat.le_of_ble_eq_true rfl⟩ rfl rfl (Nat.le_of_ble_eq_true rfl) dL_law_541 (fun r2 υ H locs hp2 hP hS => ?_)
  obtain ⟨e1, hG2⟩ := hpost r2 υ hp2
  rw [e1]
  exact u_eq C 1018 (by decide) dL_law_544 (kk υ H locs hP hG2 hS)
theorem law_11 (X : LC D g q p s m c b L xs t1 t2) (hP : HP D q g σ H) (hG : Inv σ) (hS : va_S (aQ q) s.heap H locs) (hl : lv_has ls 4 (lLv q b i)) (hi : 0 ≤ i ∧ i + 6 ≤ L) (kk : ∀ (σ1 : Mem) (H1 : Heap) (locs1 : List Loc), HP D q g σ1 H1 → Inv σ1 → va_S (aQ q) s.heap H1 locs1 → W p l e room_1 s m #[Value.ref b] below meth c H1 locs1 62 754 Q (F0 m 1018 ls [])) : W p l e room_1 s m #[Value.ref b] below meth c H locs 62 754 Q (F0 m 549 ls []) := by
  have C := X.1
  refine z_aln C hl 2 rfl dL_law_549 ?_
  refine u_arg X hS hl hi (k := 1) (by decide) dL_law_550 dL_law_551 dL_law_552 dL_law_553 dL_law_554 ?_
  refine u_vRWi (rest := []) C hP hS hl (c_X8_mended (σ := σ) X.2.1 (ax xs i 1) hG.1.1 ax_R) (z_recv C hP (i := 0) (by decide) rfl (ci := 8) rfl) wg_403 wg_1 wg_400 wg_401 wg_402 cw_X8_mended ⟨Nat.le_of_ble_eq_true rfl, Nat.le_of_ble_eq_true rfl⟩ ⟨Nat.le_of_ble_eq_true rfl, Nat.le_of_ble_eq_true rfl⟩ rfl rfl (Nat.le_of_ble_eq_true rfl) dL_law_555 (fun r τ H locs hp1 hP hS => ?_)
  obtain ⟨hF, e1⟩ := hp1
  have hG1 := Fr_Inv hF hG
  refine z_aln C hl 1 rfl dL_law_558 ?_
  refine u_arg X hS hl hi (k := 1) (by decide) dL_law_559 dL_law_560 dL_law_561 dL_law_562 dL_law_563 ?_
  refine u_vRWi (rest := [_]) C hP hS hl (c_X9_mended (σ := τ) X.2.1 (ax xs i 1) hG1.1.1 hG1.1.2.1 ax_R) (z_recv C hP (i := 44) (by decide) rfl (ci := 9) rfl) wg_798 wg_10 wg_795 wg_796 wg_797 cw_X9_mended ⟨Nat.le_of_ble_eq_true rfl, Nat.le_of_ble_eq_true rfl⟩ ⟨Nat.le_of_ble_eq_true rfl, Nat.le_of_ble_eq_true rfl⟩ rfl rfl (Nat.le_of_ble_eq_true rfl) dL_law_564 (fun r2 υ H locs hp2 hP hS => ?_)
  obtain ⟨hF2, e2⟩ := hp2
  have e3 : r2 = r := by rw [e2, e1, Fr_co hF]
  rw [e3]
  exact u_eq C 1018 (by decide) dL_law_567 (kk υ H locs hP (Fr_Inv hF2 hG1) hS)
theorem law_12 (X : LC D g q p s m c b L xs t1 t2) (hP : HP D q g σ H) (hG : Inv σ) (hS : va_S (aQ q) s.heap H locs) (hl : lv_has ls 4 (lLv q b i)) (hi : 0 ≤ i ∧ i + 6 ≤ L) (kk : ∀ (σ1 : Mem) (H1 : Heap) (locs1 : List Loc), HP D q g σ1 H1 → Inv σ1 → va_S (aQ q) s.heap H1 locs1 → W p l e room_1 s m #[Value.ref b] below meth c H1 locs1 62 754 Q (F0 m 1018 ls [])) : W p l e room_1 s m #[Value.ref b] below meth c H locs 62 754 Q (F0 m 572 ls []) := by
  have C := X.1
  refine z_aln C hl 2 rfl dL_law_572 ?_
  refine u_arg X hS hl hi (k := 1) (by decide) dL_law_573 dL_law_574 dL_law_575 dL_law_576 dL_law_577 ?_
  refine u_arg X hS hl hi (k := 2) (by decide) dL_law_578 dL_law_579 dL_law_580 dL_law_581 dL_law_582 ?_
  refine u_arg X hS hl hi (k := 3) (by decide) dL_law_583 dL_law_584 dL_law_585 dL_law_586 dL_law_587 ?_
  refine u_arg X hS hl hi (k := 4) (by decide) dL_law_588 dL_law_589 dL_law_590 dL_law_591 dL_law_592 ?_
  refine u_vRO (rest := []) C hP hl (c_X8_wrong (σ := σ) (ax xs i 1) (ax xs i 2) (ax xs i 3) (ax xs i 4) hG.1.1 ax_R ax_R ax_R ax_R) (z_recv C hP (i := 0) (by decide) rfl (ci := 8) rfl) wg_407 wg_1 wg_404 wg_405 wg_406 cw_X8_wrong ⟨Nat.le_of_ble_eq_true rfl, Nat.le_of_ble_eq_true rfl⟩ ⟨Nat.le_of_ble_eq_true rfl, Nat.le_of_ble_eq_true rfl⟩ rfl rfl (Nat.le_of_ble_eq_true rfl) dL_law_593 ?_
  refine z_aln C hl 1 rfl dL_law_596 ?_
  refine u_arg X hS hl hi (k := 1) (by decide) dL_law_597 dL_law_598 dL_law_599 dL_law_600 dL_law_601 ?_
  refine u_arg X hS hl hi (k := 2) (by decide) dL_law_602 dL_law_603 dL_law_604 dL_law_605 dL_law_606 ?_
  refine u_arg X hS hl hi (k := 3) (by decide) dL_law_607 dL_law_608 dL_law_609 dL_law_610 dL_law_611 ?_
  refine u_arg X hS hl hi (k := 4) (by decide) dL_law_612 dL_law_613 dL_law_614 dL_law_615 dL_law_616 ?_
  refine u_vRO (rest := [_]) C hP hl (c_X9_wrong (σ := σ) (ax xs i 1) (ax xs i 2) (ax xs i 3) (ax xs i 4) hG.1.1 hG.1.2.1 ax_R ax_R ax_R ax_R) (z_recv C hP (i := 44) (by decide) rfl (ci := 9) rfl) wg_802 wg_10 wg_799 wg_800 wg_801 cw_X9_wrong ⟨Nat.le_of_ble_eq_true rfl, Nat.le_of_ble_eq_true rfl⟩ ⟨Nat.le_of_ble_eq_true rfl, Nat.le_of_ble_eq_true rfl⟩ rfl rfl (Nat.le_of_ble_eq_true rfl) dL_law_617 ?_
  exact u_leq C 1018 (by decide) dL_law_620 dL_law_621 (kk σ H locs hP hG hS)
theorem law_13 (X : LC D g q p s m c b L xs t1 t2) (hP : HP D q g σ H) (hG : Inv σ) (hS : va_S (aQ q) s.heap H locs) (hl : lv_has ls 4 (lLv q b i)) (hi : 0 ≤ i ∧ i + 6 ≤ L) (kk : ∀ (σ1 : Mem) (H1 : Heap) (locs1 : List Loc), HP D q g σ1 H1 → Inv σ1 → va_S (aQ q) s.heap H1 locs1 → W p l e room_1 s m #[Value.ref b] below meth c H1 locs1 62 754 Q (F0 m 1018 ls [])) : W p l e room_1 s m #[Value.ref b] below meth c H locs 62 754 Q (F0 m 626 ls []) := by
  have C := X.1
  refine z_aln C hl 2 rfl dL_law_626 ?_
  refine u_arg X hS hl hi (k := 1) (by decide) dL_law_627 dL_law_628 dL_law_629 dL_law_630 dL_law_631 ?_
  refine u_arg X hS hl hi (k := 2) (by decide) dL_law_632 dL_law_633 dL_law_634 dL_law_635 dL_law_636 ?_
  refine u_arg X hS hl hi (k := 3) (by decide) dL_law_637 dL_law_638 dL_law_639 dL_law_640 dL_law_641 ?_
  refine u_vRWi (rest := []) C hP hS hl (c_X8_known (σ := σ) X.2.1 (ax xs i 1) (ax xs i 2) (ax xs i 3) hG.2.1.1 ax_R ax_R ax_R) (z_recv C hP (i := 0) (by decide) rfl (ci := 8) rfl) wg_420 wg_1 wg_417 wg_418 wg_419 cw_X8_known ⟨Nat.le_of_ble_eq_true rfl, Nat.le_of_ble_eq_true rfl⟩ ⟨Nat.le_of_ble_eq_true rfl, Nat.le_of_ble_eq_true rfl⟩ rfl rfl (Nat.le_of_ble_eq_true rfl) dL_law_642 (fun r τ H locs hp1 hP hS => ?_)
  obtain ⟨hpre, hpost⟩ := m_known hG hp1
  refine z_aln C hl 1 rfl dL_law_645 ?_
  refine u_arg X hS hl hi (k := 1) (by decide) dL_law_646 dL_law_647 dL_law_648 dL_law_649 dL_law_650 ?_
  refine u_arg X hS hl hi (k := 2) (by decide) dL_law_651 dL_law_652 dL_law_653 dL_law_654 dL_law_655 ?_
  refine u_arg X hS hl hi (k := 3) (by decide) dL_law_656 dL_law_657 dL_law_658 dL_law_659 dL_law_660 ?_
  refine u_vRWi (rest := [_]) C hP hS hl (c_X9_known (σ := τ) X.2.1 (ax xs i 1) (ax xs i 2) (ax xs i 3) hpre ax_R ax_R ax_R) (z_recv C hP (i := 44) (by decide) rfl (ci := 9) rfl) wg_811 wg_10 wg_808 wg_809 wg_810 cw_X9_known ⟨Nat.le_of_ble_eq_true rfl, Nat.le_of_ble_eq_true rfl⟩ ⟨Nat.le_of_ble_eq_true rfl, Nat.le_of_ble_eq_true rfl⟩ rfl rfl (Nat.le_of_ble_eq_true rfl) dL_law_661 (fun r2 υ H locs hp2 hP hS => ?_)
  obtain ⟨e1, hG2⟩ := hpost r2 υ hp2
  rw [e1]
  exact u_eq C 1018 (by decide) dL_law_664 (kk υ H locs hP hG2 hS)
theorem law_14 (X : LC D g q p s m c b L xs t1 t2) (hP : HP D q g σ H) (hG : Inv σ) (hS : va_S (aQ q) s.heap H locs) (hl : lv_has ls 4 (lLv q b i)) (hi : 0 ≤ i ∧ i + 6 ≤ L) (kk : ∀ (σ1 : Mem) (H1 : Heap) (locs1 : List Loc), HP D q g σ1 H1 → Inv σ1 → va_S (aQ q) s.heap H1 locs1 → W p l e room_1 s m #[Value.ref b] below meth c H1 locs1 62 754 Q (F0 m 1018 ls [])) : W p l e room_1 s m #[Value.ref b] below meth c H locs 62 754 Q (F0 m 669 ls []) := by
  have C := X.1
  refine z_aln C hl 2 rfl dL_law_669 ?_
  refine u_arg X hS hl hi (k := 1) (by decide) dL_law_670 dL_law_671 dL_law_672 dL_law_673 dL_law_674 ?_
  refine u_arg X hS hl hi (k := 2) (by decide) dL_law_675 dL_law_676 dL_law_677 dL_law_678 dL_law_679 ?_
  refine u_vRO (rest := []) C hP hl (c_X8_late (σ := σ) (ax xs i 1) (ax xs i 2)  ax_R ax_R) (z_recv C hP (i := 0) (by decide) rfl (ci := 8) rfl) wg_435 wg_1 wg_432 wg_433 wg_434 cw_X8_late ⟨Nat.le_of_ble_eq_true rfl, Nat.le_of_ble_eq_true rfl⟩ ⟨Nat.le_of_ble_eq_true rfl, Nat.le_of_ble_eq_true rfl⟩ rfl rfl (Nat.le_of_ble_eq_true rfl) dL_law_680 ?_
  refine z_aln C hl 1 rfl dL_law_683 ?_
  refine u_arg X hS hl hi (k := 1) (by decide) dL_law_684 dL_law_685 dL_law_686 dL_law_687 dL_law_688 ?_
  refine u_arg X hS hl hi (k := 2) (by decide) dL_law_689 dL_law_690 dL_law_691 dL_law_692 dL_law_693 ?_
  refine u_vRO (rest := [_]) C hP hl (c_X9_late (σ := σ) (ax xs i 1) (ax xs i 2)  ax_R ax_R hG.2.1.2) (z_recv C hP (i := 44) (by decide) rfl (ci := 9) rfl) wg_822 wg_10 wg_819 wg_820 wg_821 cw_X9_late ⟨Nat.le_of_ble_eq_true rfl, Nat.le_of_ble_eq_true rfl⟩ ⟨Nat.le_of_ble_eq_true rfl, Nat.le_of_ble_eq_true rfl⟩ rfl rfl (Nat.le_of_ble_eq_true rfl) dL_law_694 ?_
  exact u_eq C 1018 (by decide) dL_law_697 (kk σ H locs hP hG hS)
theorem law_15 (X : LC D g q p s m c b L xs t1 t2) (hP : HP D q g σ H) (hG : Inv σ) (hS : va_S (aQ q) s.heap H locs) (hl : lv_has ls 4 (lLv q b i)) (hi : 0 ≤ i ∧ i + 6 ≤ L) (kk : ∀ (σ1 : Mem) (H1 : Heap) (locs1 : List Loc), HP D q g σ1 H1 → Inv σ1 → va_S (aQ q) s.heap H1 locs1 → W p l e room_1 s m #[Value.ref b] below meth c H1 locs1 62 754 Q (F0 m 1018 ls [])) : W p l e room_1 s m #[Value.ref b] below meth c H locs 62 754 Q (F0 m 702 ls []) := by
  have C := X.1
  refine z_aln C hl 2 rfl dL_law_702 ?_
  refine u_arg X hS hl hi (k := 1) (by decide) dL_law_703 dL_law_704 dL_law_705 dL_law_706 dL_law_707 ?_
  refine u_arg X hS hl hi (k := 2) (by decide) dL_law_708 dL_law_709 dL_law_710 dL_law_711 dL_law_712 ?_
  refine u_vRWi (rest := []) C hP hS hl (c_X8_tell (σ := σ) X.2.1 (ax xs i 1) (ax xs i 2)  ax_R ax_R) (z_recv C hP (i := 0) (by decide) rfl (ci := 8) rfl) wg_443 wg_1 wg_440 wg_441 wg_442 cw_X8_tell ⟨Nat.le_of_ble_eq_true rfl, Nat.le_of_ble_eq_true rfl⟩ ⟨Nat.le_of_ble_eq_true rfl, Nat.le_of_ble_eq_true rfl⟩ rfl rfl (Nat.le_of_ble_eq_true rfl) dL_law_713 (fun r τ H locs hp1 hP hS => ?_)
  have hpost := m_tell hG hp1
  refine z_aln C hl 1 rfl dL_law_716 ?_
  refine u_arg X hS hl hi (k := 1) (by decide) dL_law_717 dL_law_718 dL_law_719 dL_law_720 dL_law_721 ?_
  refine u_arg X hS hl hi (k := 2) (by decide) dL_law_722 dL_law_723 dL_law_724 dL_law_725 dL_law_726 ?_
  refine u_vRWi (rest := [_]) C hP hS hl (c_X9_tell (σ := τ) X.2.1 (ax xs i 1) (ax xs i 2)  ax_R ax_R) (z_recv C hP (i := 44) (by decide) rfl (ci := 9) rfl) wg_826 wg_10 wg_823 wg_824 wg_825 cw_X9_tell ⟨Nat.le_of_ble_eq_true rfl, Nat.le_of_ble_eq_true rfl⟩ ⟨Nat.le_of_ble_eq_true rfl, Nat.le_of_ble_eq_true rfl⟩ rfl rfl (Nat.le_of_ble_eq_true rfl) dL_law_727 (fun r2 υ H locs hp2 hP hS => ?_)
  obtain ⟨e1, hG2⟩ := hpost r2 υ hp2
  rw [e1]
  exact u_eq C 1018 (by decide) dL_law_730 (kk υ H locs hP hG2 hS)
theorem law_16 (X : LC D g q p s m c b L xs t1 t2) (hP : HP D q g σ H) (hG : Inv σ) (hS : va_S (aQ q) s.heap H locs) (hl : lv_has ls 4 (lLv q b i)) (hi : 0 ≤ i ∧ i + 6 ≤ L) (kk : ∀ (σ1 : Mem) (H1 : Heap) (locs1 : List Loc), HP D q g σ1 H1 → Inv σ1 → va_S (aQ q) s.heap H1 locs1 → W p l e room_1 s m #[Value.ref b] below meth c H1 locs1 62 754 Q (F0 m 1018 ls [])) : W p l e room_1 s m #[Value.ref b] below meth c H locs 62 754 Q (F0 m 735 ls []) := by
  have C := X.1
  refine z_aln C hl 2 rfl dL_law_735 ?_
  refine u_arg X hS hl hi (k := 1) (by decide) dL_law_736 dL_law_737 dL_law_738 dL_law_739 dL_law_740 ?_
  refine u_vRWi (rest := []) C hP hS hl (c_X8_time (σ := σ) X.2.1 (ax xs i 1) hG.2.1.1 ax_R) (z_recv C hP (i := 0) (by decide) rfl (ci := 8) rfl) wg_447 wg_1 wg_444 wg_445 wg_446 cw_X8_time ⟨Nat.le_of_ble_eq_true rfl, Nat.le_of_ble_eq_true rfl⟩ ⟨Nat.le_of_ble_eq_true rfl, Nat.le_of_ble_eq_true rfl⟩ rfl rfl (Nat.le_of_ble_eq_true rfl) dL_law_741 (fun r τ H locs hp1 hP hS => ?_)
  obtain ⟨hF, e1⟩ := hp1
  have hG1 := Fr_Inv hF hG
  refine z_aln C hl 1 rfl dL_law_744 ?_
  refine u_arg X hS hl hi (k := 1) (by decide) dL_law_745 dL_law_746 dL_law_747 dL_law_748 dL_law_749 ?_
  refine u_vRWi (rest := [_]) C hP hS hl (c_X9_time (σ := τ) X.2.1 (ax xs i 1) hG1.2.1.1 hG1.2.1.2 ax_R) (z_recv C hP (i := 44) (by decide) rfl (ci := 9) rfl) wg_830 wg_10 wg_827 wg_828 wg_829 cw_X9_time ⟨Nat.le_of_ble_eq_true rfl, Nat.le_of_ble_eq_true rfl⟩ ⟨Nat.le_of_ble_eq_true rfl, Nat.le_of_ble_eq_true rfl⟩ rfl rfl (Nat.le_of_ble_eq_true rfl) dL_law_750 (fun r2 υ H locs hp2 hP hS => ?_)
  obtain ⟨hF2, e2⟩ := hp2
  have e3 : r2 = r := by rw [e2, e1, Fr_co hF]
  rw [e3]
  exact u_eq C 1018 (by decide) dL_law_753 (kk υ H locs hP (Fr_Inv hF2 hG1) hS)
theorem law_17 (X : LC D g q p s m c b L xs t1 t2) (hP : HP D q g σ H) (hG : Inv σ) (hS : va_S (aQ q) s.heap H locs) (hl : lv_has ls 4 (lLv q b i)) (hi : 0 ≤ i ∧ i + 6 ≤ L) (kk : ∀ (σ1 : Mem) (H1 : Heap) (locs1 : List Loc), HP D q g σ1 H1 → Inv σ1 → va_S (aQ q) s.heap H1 locs1 → W p l e room_1 s m #[Value.ref b] below meth c H1 locs1 62 754 Q (F0 m 1018 ls [])) : W p l e room_1 s m #[Value.ref b] below meth c H locs 62 754 Q (F0 m 758 ls []) := by
  have C := X.1
  refine z_aln C hl 2 rfl dL_law_758 ?_
  refine u_arg X hS hl hi (k := 1) (by decide) dL_law_759 dL_law_760 dL_law_761 dL_law_762 dL_law_763 ?_
  refine u_vRWi (rest := []) C hP hS hl (c_X8_old (σ := σ) X.2.1 (ax xs i 1) hG.2.1.1 ax_R) (z_recv C hP (i := 0) (by decide) rfl (ci := 8) rfl) wg_459 wg_1 wg_456 wg_457 wg_458 cw_X8_old ⟨Nat.le_of_ble_eq_true rfl, Nat.le_of_ble_eq_true rfl⟩ ⟨Nat.le_of_ble_eq_true rfl, Nat.le_of_ble_eq_true rfl⟩ rfl rfl (Nat.le_of_ble_eq_true rfl) dL_law_764 (fun r τ H locs hp1 hP hS => ?_)
  obtain ⟨hF, e1⟩ := hp1
  have hG1 := Fr_Inv hF hG
  refine z_aln C hl 1 rfl dL_law_767 ?_
  refine u_arg X hS hl hi (k := 1) (by decide) dL_law_768 dL_law_769 dL_law_770 dL_law_771 dL_law_772 ?_
  refine u_vRWi (rest := [_]) C hP hS hl (c_X9_old (σ := τ) X.2.1 (ax xs i 1) hG1.2.1.1 hG1.2.1.2 ax_R) (z_recv C hP (i := 44) (by decide) rfl (ci := 9) rfl) wg_839 wg_10 wg_836 wg_837 wg_838 cw_X9_old ⟨Nat.le_of_ble_eq_true rfl, Nat.le_of_ble_eq_true rfl⟩ ⟨Nat.le_of_ble_eq_true rfl, Nat.le_of_ble_eq_true rfl⟩ rfl rfl (Nat.le_of_ble_eq_true rfl) dL_law_773 (fun r2 υ H locs hp2 hP hS => ?_)
  obtain ⟨hF2, e2⟩ := hp2
  have e3 : r2 = r := by rw [e2, e1, Fr_co hF]
  rw [e3]
  exact u_eq C 1018 (by decide) dL_law_776 (kk υ H locs hP (Fr_Inv hF2 hG1) hS)
theorem law_18 (X : LC D g q p s m c b L xs t1 t2) (hP : HP D q g σ H) (hG : Inv σ) (hS : va_S (aQ q) s.heap H locs) (hl : lv_has ls 4 (lLv q b i)) (hi : 0 ≤ i ∧ i + 6 ≤ L) (kk : ∀ (σ1 : Mem) (H1 : Heap) (locs1 : List Loc), HP D q g σ1 H1 → Inv σ1 → va_S (aQ q) s.heap H1 locs1 → W p l e room_1 s m #[Value.ref b] below meth c H1 locs1 62 754 Q (F0 m 1018 ls [])) : W p l e room_1 s m #[Value.ref b] below meth c H locs 62 754 Q (F0 m 781 ls []) := by
  have C := X.1
  refine z_aln C hl 2 rfl dL_law_781 ?_
  refine u_arg X hS hl hi (k := 1) (by decide) dL_law_782 dL_law_783 dL_law_784 dL_law_785 dL_law_786 ?_
  refine u_vRWi (rest := []) C hP hS hl (c_X8_say (σ := σ) X.2.1 (ax xs i 1) hG.2.2.1.1 ax_R) (z_recv C hP (i := 0) (by decide) rfl (ci := 8) rfl) wg_463 wg_1 wg_460 wg_461 wg_462 cw_X8_say ⟨Nat.le_of_ble_eq_true rfl, Nat.le_of_ble_eq_true rfl⟩ ⟨Nat.le_of_ble_eq_true rfl, Nat.le_of_ble_eq_true rfl⟩ rfl rfl (Nat.le_of_ble_eq_true rfl) dL_law_787 (fun r τ H locs hp1 hP hS => ?_)
  obtain ⟨hpre, hpost⟩ := m_say hG hp1
  refine z_aln C hl 1 rfl dL_law_790 ?_
  refine u_arg X hS hl hi (k := 1) (by decide) dL_law_791 dL_law_792 dL_law_793 dL_law_794 dL_law_795 ?_
  refine u_vRWi (rest := [_]) C hP hS hl (c_X9_say (σ := τ) X.2.1 (ax xs i 1) hpre ax_R) (z_recv C hP (i := 44) (by decide) rfl (ci := 9) rfl) wg_843 wg_10 wg_840 wg_841 wg_842 cw_X9_say ⟨Nat.le_of_ble_eq_true rfl, Nat.le_of_ble_eq_true rfl⟩ ⟨Nat.le_of_ble_eq_true rfl, Nat.le_of_ble_eq_true rfl⟩ rfl rfl (Nat.le_of_ble_eq_true rfl) dL_law_796 (fun r2 υ H locs hp2 hP hS => ?_)
  obtain ⟨e1, hG2⟩ := hpost r2 υ hp2
  rw [e1]
  exact u_eq C 1018 (by decide) dL_law_799 (kk υ H locs hP hG2 hS)
theorem law_19 (X : LC D g q p s m c b L xs t1 t2) (hP : HP D q g σ H) (hG : Inv σ) (hS : va_S (aQ q) s.heap H locs) (hl : lv_has ls 4 (lLv q b i)) (hi : 0 ≤ i ∧ i + 6 ≤ L) (kk : ∀ (σ1 : Mem) (H1 : Heap) (locs1 : List Loc), HP D q g σ1 H1 → Inv σ1 → va_S (aQ q) s.heap H1 locs1 → W p l e room_1 s m #[Value.ref b] below meth c H1 locs1 62 754 Q (F0 m 1018 ls [])) : W p l e room_1 s m #[Value.ref b] below meth c H locs 62 754 Q (F0 m 804 ls []) := by
  have C := X.1
  refine z_aln C hl 2 rfl dL_law_804 ?_
  refine u_vRWi (rest := []) C hP hS hl (c_X8_wipe (σ := σ) X.2.1   ) (z_recv C hP (i := 0) (by decide) rfl (ci := 8) rfl) wg_471 wg_1 wg_468 wg_469 wg_470 cw_X8_wipe ⟨Nat.le_of_ble_eq_true rfl, Nat.le_of_ble_eq_true rfl⟩ ⟨Nat.le_of_ble_eq_true rfl, Nat.le_of_ble_eq_true rfl⟩ rfl rfl (Nat.le_of_ble_eq_true rfl) dL_law_805 (fun r τ H locs hp1 hP hS => ?_)
  have hpost := m_wipe hG hp1
  refine z_aln C hl 1 rfl dL_law_808 ?_
  refine u_vRWi (rest := [_]) C hP hS hl (c_X9_wipe (σ := τ) X.2.1   ) (z_recv C hP (i := 44) (by decide) rfl (ci := 9) rfl) wg_849 wg_10 wg_846 wg_847 wg_848 cw_X9_wipe ⟨Nat.le_of_ble_eq_true rfl, Nat.le_of_ble_eq_true rfl⟩ ⟨Nat.le_of_ble_eq_true rfl, Nat.le_of_ble_eq_true rfl⟩ rfl rfl (Nat.le_of_ble_eq_true rfl) dL_law_809 (fun r2 υ H locs hp2 hP hS => ?_)
  obtain ⟨e1, hG2⟩ := hpost r2 υ hp2
  rw [e1]
  exact u_eq C 1018 (by decide) dL_law_812 (kk υ H locs hP hG2 hS)
theorem law_20 (X : LC D g q p s m c b L xs t1 t2) (hP : HP D q g σ H) (hG : Inv σ) (hS : va_S (aQ q) s.heap H locs) (hl : lv_has ls 4 (lLv q b i)) (hi : 0 ≤ i ∧ i + 6 ≤ L) (kk : ∀ (σ1 : Mem) (H1 : Heap) (locs1 : List Loc), HP D q g σ1 H1 → Inv σ1 → va_S (aQ q) s.heap H1 locs1 → W p l e room_1 s m #[Value.ref b] below meth c H1 locs1 62 754 Q (F0 m 1018 ls [])) : W p l e room_1 s m #[Value.ref b] below meth c H locs 62 754 Q (F0 m 817 ls []) := by
  have C := X.1
  refine z_aln C hl 2 rfl dL_law_817 ?_
  refine u_vRO (rest := []) C hP hl (c_X8_fault (σ := σ)  hG.2.2.1.1 ) (z_recv C hP (i := 0) (by decide) rfl (ci := 8) rfl) wg_475 wg_1 wg_472 wg_473 wg_474 cw_X8_fault ⟨Nat.le_of_ble_eq_true rfl, Nat.le_of_ble_eq_true rfl⟩ ⟨Nat.le_of_ble_eq_true rfl, Nat.le_of_ble_eq_true rfl⟩ rfl rfl (Nat.le_of_ble_eq_true rfl) dL_law_818 ?_
  refine z_aln C hl 1 rfl dL_law_821 ?_
  have hn2 : 0 ≤ σ 44 20 ∧ σ 44 20 ≤ 30 := by rw [hG.2.2.1.2.1]; exact hG.2.2.1.1.1
  have hs2 : ∀ i : Nat, (i : Int) < σ 44 20 → 33 ≤ σ 56 i ∧ σ 56 i ≤ 126 := fun i hi => by rw [hG.2.2.1.2.1] at hi; rw [hG.2.2.1.2.2 i hi]; exact hG.2.2.1.1.2 i hi
  refine u_vRO (rest := [_]) C hP hl (c_X9_fault (σ := σ) hn2 hs2) (z_recv C hP (i := 44) (by decide) rfl (ci := 9) rfl) wg_853 wg_10 wg_850 wg_851 wg_852 cw_X9_fault ⟨Nat.le_of_ble_eq_true rfl, Nat.le_of_ble_eq_true rfl⟩ ⟨Nat.le_of_ble_eq_true rfl, Nat.le_of_ble_eq_true rfl⟩ rfl rfl (Nat.le_of_ble_eq_true rfl) dL_law_822 ?_
  rw [flt_eq hG.2.2.1]
  exact u_eq C 1018 (by decide) dL_law_825 (kk σ H locs hP hG hS)
theorem law_21 (X : LC D g q p s m c b L xs t1 t2) (hP : HP D q g σ H) (hG : Inv σ) (hS : va_S (aQ q) s.heap H locs) (hl : lv_has ls 4 (lLv q b i)) (hi : 0 ≤ i ∧ i + 6 ≤ L) (kk : ∀ (σ1 : Mem) (H1 : Heap) (locs1 : List Loc), HP D q g σ1 H1 → Inv σ1 → va_S (aQ q) s.heap H1 locs1 → W p l e room_1 s m #[Value.ref b] below meth c H1 locs1 62 754 Q (F0 m 1018 ls [])) : W p l e room_1 s m #[Value.ref b] below meth c H locs 62 754 Q (F0 m 830 ls []) := by
  have C := X.1
  refine z_aln C hl 2 rfl dL_law_830 ?_
  refine u_vRWi (rest := []) C hP hS hl (c_X8_rule (σ := σ) X.2.1  hG.2.2.1.1 ) (z_recv C hP (i := 0) (by decide) rfl (ci := 8) rfl) wg_499 wg_1 wg_496 wg_497 wg_498 cw_X8_rule ⟨Nat.le_of_ble_eq_true rfl, Nat.le_of_ble_eq_true rfl⟩ ⟨Nat.le_of_ble_eq_true rfl, Nat.le_of_ble_eq_true rfl⟩ rfl rfl (Nat.le_of_ble_eq_true rfl) dL_law_831 (fun r τ H locs hp1 hP hS => ?_)
  obtain ⟨hpre, hpost⟩ := m_rule hG hp1
  refine z_aln C hl 1 rfl dL_law_834 ?_
  refine u_vRWi (rest := [_]) C hP hS hl (c_X9_rule (σ := τ) X.2.1 σ hpre.1 hpre.2) (z_recv C hP (i := 44) (by decide) rfl (ci := 9) rfl) wg_868 wg_10 wg_865 wg_866 wg_867 cw_X9_rule ⟨Nat.le_of_ble_eq_true rfl, Nat.le_of_ble_eq_true rfl⟩ ⟨Nat.le_of_ble_eq_true rfl, Nat.le_of_ble_eq_true rfl⟩ rfl rfl (Nat.le_of_ble_eq_true rfl) dL_law_835 (fun r2 υ H locs hp2 hP hS => ?_)
  obtain ⟨e1, hG2⟩ := hpost r2 υ hp2
  rw [e1]
  exact u_eq C 1018 (by decide) dL_law_838 (kk υ H locs hP hG2 hS)
theorem law_22 (X : LC D g q p s m c b L xs t1 t2) (hP : HP D q g σ H) (hG : Inv σ) (hS : va_S (aQ q) s.heap H locs) (hl : lv_has ls 4 (lLv q b i)) (hi : 0 ≤ i ∧ i + 6 ≤ L) (kk : ∀ (σ1 : Mem) (H1 : Heap) (locs1 : List Loc), HP D q g σ1 H1 → Inv σ1 → va_S (aQ q) s.heap H1 locs1 → W p l e room_1 s m #[Value.ref b] below meth c H1 locs1 62 754 Q (F0 m 1018 ls [])) : W p l e room_1 s m #[Value.ref b] below meth c H locs 62 754 Q (F0 m 843 ls []) := by
  have C := X.1
  refine z_aln C hl 2 rfl dL_law_843 ?_
  refine u_arg X hS hl hi (k := 1) (by decide) dL_law_844 dL_law_845 dL_law_846 dL_law_847 dL_law_848 ?_
  refine u_arg X hS hl hi (k := 2) (by decide) dL_law_849 dL_law_850 dL_law_851 dL_law_852 dL_law_853 ?_
  refine u_arg X hS hl hi (k := 3) (by decide) dL_law_854 dL_law_855 dL_law_856 dL_law_857 dL_law_858 ?_
  refine u_arg X hS hl hi (k := 4) (by decide) dL_law_859 dL_law_860 dL_law_861 dL_law_862 dL_law_863 ?_
  refine u_vRO (rest := []) C hP hl (c_X8_record (σ := σ) (ax xs i 1) (ax xs i 2) (ax xs i 3) (ax xs i 4) hG.2.2.2.1.1 ax_R ax_R ax_R ax_R) (z_recv C hP (i := 0) (by decide) rfl (ci := 8) rfl) wg_518 wg_1 wg_515 wg_516 wg_517 cw_X8_record ⟨Nat.le_of_ble_eq_true rfl, Nat.le_of_ble_eq_true rfl⟩ ⟨Nat.le_of_ble_eq_true rfl, Nat.le_of_ble_eq_true rfl⟩ rfl rfl (Nat.le_of_ble_eq_true rfl) dL_law_864 ?_
  refine z_aln C hl 1 rfl dL_law_867 ?_
  refine u_arg X hS hl hi (k := 1) (by decide) dL_law_868 dL_law_869 dL_law_870 dL_law_871 dL_law_872 ?_
  refine u_arg X hS hl hi (k := 2) (by decide) dL_law_873 dL_law_874 dL_law_875 dL_law_876 dL_law_877 ?_
  refine u_arg X hS hl hi (k := 3) (by decide) dL_law_878 dL_law_879 dL_law_880 dL_law_881 dL_law_882 ?_
  refine u_arg X hS hl hi (k := 4) (by decide) dL_law_883 dL_law_884 dL_law_885 dL_law_886 dL_law_887 ?_
  refine u_vRO (rest := [_]) C hP hl (c_X9_record (σ := σ) (ax xs i 1) (ax xs i 2) (ax xs i 3) (ax xs i 4) hG.2.2.2.1.1 hG.2.2.2.1.2 ax_R ax_R ax_R ax_R) (z_recv C hP (i := 44) (by decide) rfl (ci := 9) rfl) wg_873 wg_10 wg_870 wg_871 wg_872 cw_X9_record ⟨Nat.le_of_ble_eq_true rfl, Nat.le_of_ble_eq_true rfl⟩ ⟨Nat.le_of_ble_eq_true rfl, Nat.le_of_ble_eq_true rfl⟩ rfl rfl (Nat.le_of_ble_eq_true rfl) dL_law_888 ?_
  exact u_eq C 1018 (by decide) dL_law_891 (kk σ H locs hP hG hS)
theorem law_23 (X : LC D g q p s m c b L xs t1 t2) (hP : HP D q g σ H) (hG : Inv σ) (hS : va_S (aQ q) s.heap H locs) (hl : lv_has ls 4 (lLv q b i)) (hi : 0 ≤ i ∧ i + 6 ≤ L) (kk : ∀ (σ1 : Mem) (H1 : Heap) (locs1 : List Loc), HP D q g σ1 H1 → Inv σ1 → va_S (aQ q) s.heap H1 locs1 → W p l e room_1 s m #[Value.ref b] below meth c H1 locs1 62 754 Q (F0 m 1018 ls [])) : W p l e room_1 s m #[Value.ref b] below meth c H locs 62 754 Q (F0 m 896 ls []) := by
  have C := X.1
  refine z_aln C hl 2 rfl dL_law_896 ?_
  refine u_arg X hS hl hi (k := 1) (by decide) dL_law_897 dL_law_898 dL_law_899 dL_law_900 dL_law_901 ?_
  refine u_arg X hS hl hi (k := 2) (by decide) dL_law_902 dL_law_903 dL_law_904 dL_law_905 dL_law_906 ?_
  refine u_vRWi (rest := []) C hP hS hl (c_X8_slit (σ := σ) X.2.1 (ax xs i 1) (ax xs i 2) hG.2.2.2.2.1 ax_R ax_R) (z_recv C hP (i := 0) (by decide) rfl (ci := 8) rfl) wg_532 wg_1 wg_529 wg_530 wg_531 cw_X8_slit ⟨Nat.le_of_ble_eq_true rfl, Nat.le_of_ble_eq_true rfl⟩ ⟨Nat.le_of_ble_eq_true rfl, Nat.le_of_ble_eq_true rfl⟩ rfl rfl (Nat.le_of_ble_eq_true rfl) dL_law_907 (fun r τ H locs hp1 hP hS => ?_)
  obtain ⟨hpre, hpost⟩ := m_slit hG hp1
  refine z_aln C hl 1 rfl dL_law_910 ?_
  refine u_arg X hS hl hi (k := 1) (by decide) dL_law_911 dL_law_912 dL_law_913 dL_law_914 dL_law_915 ?_
  refine u_arg X hS hl hi (k := 2) (by decide) dL_law_916 dL_law_917 dL_law_918 dL_law_919 dL_law_920 ?_
  refine u_vRWi (rest := [_]) C hP hS hl (c_X9_slit (σ := τ) X.2.1 (ax xs i 1) (ax xs i 2) hpre ax_R ax_R) (z_recv C hP (i := 44) (by decide) rfl (ci := 9) rfl) wg_882 wg_10 wg_879 wg_880 wg_881 cw_X9_slit ⟨Nat.le_of_ble_eq_true rfl, Nat.le_of_ble_eq_true rfl⟩ ⟨Nat.le_of_ble_eq_true rfl, Nat.le_of_ble_eq_true rfl⟩ rfl rfl (Nat.le_of_ble_eq_true rfl) dL_law_921 (fun r2 υ H locs hp2 hP hS => ?_)
  obtain ⟨e1, hG2⟩ := hpost r2 υ hp2
  rw [e1]
  exact u_eq C 1018 (by decide) dL_law_924 (kk υ H locs hP hG2 hS)
theorem law_24 (X : LC D g q p s m c b L xs t1 t2) (hP : HP D q g σ H) (hG : Inv σ) (hS : va_S (aQ q) s.heap H locs) (hl : lv_has ls 4 (lLv q b i)) (hi : 0 ≤ i ∧ i + 6 ≤ L) (kk : ∀ (σ1 : Mem) (H1 : Heap) (locs1 : List Loc), HP D q g σ1 H1 → Inv σ1 → va_S (aQ q) s.heap H1 locs1 → W p l e room_1 s m #[Value.ref b] below meth c H1 locs1 62 754 Q (F0 m 1018 ls [])) : W p l e room_1 s m #[Value.ref b] below meth c H locs 62 754 Q (F0 m 929 ls []) := by
  have C := X.1
  refine z_aln C hl 2 rfl dL_law_929 ?_
  refine u_arg X hS hl hi (k := 1) (by decide) dL_law_930 dL_law_931 dL_law_932 dL_law_933 dL_law_934 ?_
  refine u_arg X hS hl hi (k := 2) (by decide) dL_law_935 dL_law_936 dL_law_937 dL_law_938 dL_law_939 ?_
  refine u_vRWi (rest := []) C hP hS hl (c_X8_seen (σ := σ) X.2.1 (ax xs i 1) (ax xs i 2) hG.1.1 hG.2.2.2.2.1 ax_R ax_R) (z_recv C hP (i := 0) (by decide) rfl (ci := 8) rfl) wg_540 wg_1 wg_537 wg_538 wg_539 cw_X8_seen ⟨Nat.le_of_ble_eq_true rfl, Nat.le_of_ble_eq_true rfl⟩ ⟨Nat.le_of_ble_eq_true rfl, Nat.le_of_ble_eq_true rfl⟩ rfl rfl (Nat.le_of_ble_eq_true rfl) dL_law_940 (fun r τ H locs hp1 hP hS => ?_)
  obtain ⟨hF, e1⟩ := hp1
  have hG1 := Fr_Inv hF hG
  refine z_aln C hl 1 rfl dL_law_943 ?_
  refine u_arg X hS hl hi (k := 1) (by decide) dL_law_944 dL_law_945 dL_law_946 dL_law_947 dL_law_948 ?_
  refine u_arg X hS hl hi (k := 2) (by decide) dL_law_949 dL_law_950 dL_law_951 dL_law_952 dL_law_953 ?_
  refine u_vRWi (rest := [_]) C hP hS hl (c_X9_seen (σ := τ) X.2.1 (ax xs i 1) (ax xs i 2) hG1.1.1 hG1.1.2.1 hG1.2.2.2.2.1 hG1.2.2.2.2.2 ax_R ax_R) (z_recv C hP (i := 44) (by decide) rfl (ci := 9) rfl) wg_887 wg_10 wg_884 wg_885 wg_886 cw_X9_seen ⟨Nat.le_of_ble_eq_true rfl, Nat.le_of_ble_eq_true rfl⟩ ⟨Nat.le_of_ble_eq_true rfl, Nat.le_of_ble_eq_true rfl⟩ rfl rfl (Nat.le_of_ble_eq_true rfl) dL_law_954 (fun r2 υ H locs hp2 hP hS => ?_)
  obtain ⟨hF2, e2⟩ := hp2
  have e3 : r2 = r := by rw [e2, e1, Fr_co hF]
  rw [e3]
  exact u_eq C 1018 (by decide) dL_law_957 (kk υ H locs hP (Fr_Inv hF2 hG1) hS)
theorem law_25 (X : LC D g q p s m c b L xs t1 t2) (hP : HP D q g σ H) (hG : Inv σ) (hS : va_S (aQ q) s.heap H locs) (hl : lv_has ls 4 (lLv q b i)) (hi : 0 ≤ i ∧ i + 6 ≤ L) (kk : ∀ (σ1 : Mem) (H1 : Heap) (locs1 : List Loc), HP D q g σ1 H1 → Inv σ1 → va_S (aQ q) s.heap H1 locs1 → W p l e room_1 s m #[Value.ref b] below meth c H1 locs1 62 754 Q (F0 m 1018 ls [])) : W p l e room_1 s m #[Value.ref b] below meth c H locs 62 754 Q (F0 m 962 ls []) := by
  have C := X.1
  refine z_aln C hl 2 rfl dL_law_962 ?_
  refine u_arg X hS hl hi (k := 1) (by decide) dL_law_963 dL_law_964 dL_law_965 dL_law_966 dL_law_967 ?_
  refine u_arg X hS hl hi (k := 2) (by decide) dL_law_968 dL_law_969 dL_law_970 dL_law_971 dL_law_972 ?_
  refine u_vRWi (rest := []) C hP hS hl (c_X8_best (σ := σ) X.2.1 (ax xs i 1) (ax xs i 2) hG.1.1 hG.2.2.2.2.1 ax_R ax_R) (z_recv C hP (i := 0) (by decide) rfl (ci := 8) rfl) wg_575 wg_1 wg_572 wg_573 wg_574 cw_X8_best ⟨Nat.le_of_ble_eq_true rfl, Nat.le_of_ble_eq_true rfl⟩ ⟨Nat.le_of_ble_eq_true rfl, Nat.le_of_ble_eq_true rfl⟩ rfl rfl (Nat.le_of_ble_eq_true rfl) dL_law_973 (fun r τ H locs hp1 hP hS => ?_)
  obtain ⟨hF, e1⟩ := hp1
  have hG1 := Fr_Inv hF hG
  refine z_aln C hl 1 rfl dL_law_976 ?_
  refine u_arg X hS hl hi (k := 1) (by decide) dL_law_977 dL_law_978 dL_law_979 dL_law_980 dL_law_981 ?_
  refine u_arg X hS hl hi (k := 2) (by decide) dL_law_982 dL_law_983 dL_law_984 dL_law_985 dL_law_986 ?_
  refine u_vRWi (rest := [_]) C hP hS hl (c_X9_best (σ := τ) X.2.1 (ax xs i 1) (ax xs i 2) hG1.1.1 hG1.1.2.1 hG1.2.2.2.2.1 hG1.2.2.2.2.2 ax_R ax_R) (z_recv C hP (i := 44) (by decide) rfl (ci := 9) rfl) wg_899 wg_10 wg_896 wg_897 wg_898 cw_X9_best ⟨Nat.le_of_ble_eq_true rfl, Nat.le_of_ble_eq_true rfl⟩ ⟨Nat.le_of_ble_eq_true rfl, Nat.le_of_ble_eq_true rfl⟩ rfl rfl (Nat.le_of_ble_eq_true rfl) dL_law_987 (fun r2 υ H locs hp2 hP hS => ?_)
  obtain ⟨hF2, e2⟩ := hp2
  have e3 : r2 = r := by rw [e2, e1, Fr_co hF]
  rw [e3]
  exact u_eq C 1018 (by decide) dL_law_990 (kk υ H locs hP (Fr_Inv hF2 hG1) hS)
theorem law_26 (X : LC D g q p s m c b L xs t1 t2) (hP : HP D q g σ H) (hG : Inv σ) (hS : va_S (aQ q) s.heap H locs) (hl : lv_has ls 4 (lLv q b i)) (hi : 0 ≤ i ∧ i + 6 ≤ L) (kk : ∀ (σ1 : Mem) (H1 : Heap) (locs1 : List Loc), HP D q g σ1 H1 → Inv σ1 → va_S (aQ q) s.heap H1 locs1 → W p l e room_1 s m #[Value.ref b] below meth c H1 locs1 62 754 Q (F0 m 1018 ls [])) : W p l e room_1 s m #[Value.ref b] below meth c H locs 62 754 Q (F0 m 995 ls []) := by
  have C := X.1
  refine z_aln C hl 2 rfl dL_law_995 ?_
  refine u_arg X hS hl hi (k := 1) (by decide) dL_law_996 dL_law_997 dL_law_998 dL_law_999 dL_law_1000 ?_
  refine u_vRO (rest := []) C hP hl (c_X8_told (σ := σ) (ax xs i 1)  ax_R) (z_recv C hP (i := 0) (by decide) rfl (ci := 8) rfl) wg_579 wg_1 wg_576 wg_577 wg_578 cw_X8_told ⟨Nat.le_of_ble_eq_true rfl, Nat.le_of_ble_eq_true rfl⟩ ⟨Nat.le_of_ble_eq_true rfl, Nat.le_of_ble_eq_true rfl⟩ rfl rfl (Nat.le_of_ble_eq_true rfl) dL_law_1001 ?_
  refine z_aln C hl 1 rfl dL_law_1004 ?_
  refine u_arg X hS hl hi (k := 1) (by decide) dL_law_1005 dL_law_1006 dL_law_1007 dL_law_1008 dL_law_1009 ?_
  refine u_vRO (rest := [_]) C hP hl (c_X9_told (σ := σ) (ax xs i 1) ax_R hG.1.2.1 hG.2.2.2.2.2.1 hG.2.2.1.2.1 hG.2.2.2.1.2.1) (z_recv C hP (i := 44) (by decide) rfl (ci := 9) rfl) wg_907 wg_10 wg_904 wg_905 wg_906 cw_X9_told ⟨Nat.le_of_ble_eq_true rfl, Nat.le_of_ble_eq_true rfl⟩ ⟨Nat.le_of_ble_eq_true rfl, Nat.le_of_ble_eq_true rfl⟩ rfl rfl (Nat.le_of_ble_eq_true rfl) dL_law_1010 ?_
  exact u_eq C 1018 (by decide) dL_law_1013 (kk σ H locs hP hG hS)
end LL
