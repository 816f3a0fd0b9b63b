/-! ===== the law: its cases, its loop, its entry ===== -/
theorem ow_L_balance : px_okW M_L_balance 5 := ⟨px_t1 771 (by decide +kernel) rfl, px_t1 0 (by decide +kernel) rfl, ⟨by decide +kernel, by decide +kernel⟩, by decide +kernel, px_t1 770 (by decide +kernel) rfl⟩
theorem ow_L_interest : px_okW M_L_interest 5 := ⟨px_t1 844 (by decide +kernel) rfl, px_t1 0 (by decide +kernel) rfl, ⟨by decide +kernel, by decide +kernel⟩, by decide +kernel, px_t1 843 (by decide +kernel) rfl⟩
theorem ow_L_settle : px_okW M_L_settle 3 := ⟨px_t1 856 (by decide +kernel) rfl, px_t1 0 (by decide +kernel) rfl, ⟨by decide +kernel, by decide +kernel⟩, by decide +kernel, px_t1 855 (by decide +kernel) rfl⟩
theorem ow_L_night : px_okW M_L_night 4 := ⟨px_t1 868 (by decide +kernel) rfl, px_t1 0 (by decide +kernel) rfl, ⟨by decide +kernel, by decide +kernel⟩, by decide +kernel, px_t1 867 (by decide +kernel) rfl⟩
theorem ow_L_coin : px_okW M_L_coin 3 := ⟨px_t1 881 (by decide +kernel) rfl, px_t1 0 (by decide +kernel) rfl, ⟨by decide +kernel, by decide +kernel⟩, by decide +kernel, px_t1 880 (by decide +kernel) rfl⟩
section LAW
variable {N1 S1 : Nat} {Post : Nat → Option Value → PH → Prop} {hx h : PH} {i : Nat}
theorem lw_account (I : INV h) (hX : Post 2 none hx) (hl : i + 7 ≤ hn hx) (hb : hn hx ≤ 1000000) (hN : hn h + 3 ≤ N1 ∧ hs h + 603 ≤ S1) (kk : ∀ h', INV h' → hn h' ≤ hn h + 3 → hs h' ≤ hs h + 603 → PW M_L_law N1 S1 Post 1141 [(0, .retAddr 0), (1, .ref 0), (2, .ref 36), (3, .ref 77), (4, .int (nI i))] [] h') : PW M_L_law N1 S1 Post 136 [(0, .retAddr 0), (1, .ref 0), (2, .ref 36), (3, .ref 77), (4, .int (nI i))] [] h := by
  obtain ⟨dn, ds, Q, ⟨l1, l2⟩, X1, R1⟩ := s_account I (hI hx 0 (i + 1)) (hI hx 0 (i + 2))
  refine px_aload_n d_L_law_136 rfl rfl ?_
  refine px_aload_nX d_L_law_137 rfl rfl ?_
  refine px_iload d_L_law_138 rfl ?_
  refine px_iconst (v := 1) d_L_law_140 (by decide) ?_
  refine px_iadd d_L_law_141 ?_
  refine px_sld d_L_law_142 hX (nI_add i 1) (by omega) hb ?_
  refine px_aload_nX d_L_law_143 rfl rfl ?_
  refine px_iload d_L_law_144 rfl ?_
  refine px_iconst (v := 2) d_L_law_146 (by decide) ?_
  refine px_iadd d_L_law_147 ?_
  refine px_sld d_L_law_148 hX (nI_add i 2) (by omega) hb ?_
  refine px_callVX X1 d_L_law_149 lk_L_33 ok_X11_account ov_X11_account (so0 I.1) (by decide) rfl rfl (Nat.le_of_ble_eq_true rfl) (by decide) ⟨by omega, by omega⟩ (fun r1 h1 q1 n1 s1 => ?_)
  obtain ⟨hL1, v, Q2, rfl, X2, R2⟩ := R1 r1 h1 q1 n1 s1
  refine px_aload_n d_L_law_152 rfl rfl ?_
  refine px_aload_nX d_L_law_153 rfl rfl ?_
  refine px_iload d_L_law_154 rfl ?_
  refine px_iconst (v := 1) d_L_law_156 (by decide) ?_
  refine px_iadd d_L_law_157 ?_
  refine px_sld d_L_law_158 hX (nI_add i 1) (by omega) hb ?_
  refine px_aload_nX d_L_law_159 rfl rfl ?_
  refine px_iload d_L_law_160 rfl ?_
  refine px_iconst (v := 2) d_L_law_162 (by decide) ?_
  refine px_iadd d_L_law_163 ?_
  refine px_sld d_L_law_164 hX (nI_add i 2) (by omega) hb ?_
  refine px_callVX X2 d_L_law_165 lk_L_36 ok_X12_account ov_X12_account (so36 hL1) (by decide) rfl rfl (Nat.le_of_ble_eq_true rfl) (by decide) ⟨by omega, by omega⟩ (fun r2 h2 q2 n2 s2 => ?_)
  obtain ⟨rfl, I2⟩ := R2 r2 h2 q2
  refine px_icmp_eq (tgt := 1141) d_L_law_168 (by decide) (fun _ => ?_) (fun z => absurd rfl z)
  exact kk h2 I2 (by omega) (by omega)
theorem lw_days (I : INV h) (hX : Post 2 none hx) (hl : i + 7 ≤ hn hx) (hb : hn hx ≤ 1000000) (hN : hn h + 3 ≤ N1 ∧ hs h + 603 ≤ S1) (kk : ∀ h', INV h' → hn h' ≤ hn h + 3 → hs h' ≤ hs h + 603 → PW M_L_law N1 S1 Post 1141 [(0, .retAddr 0), (1, .ref 0), (2, .ref 36), (3, .ref 77), (4, .int (nI i))] [] h') : PW M_L_law N1 S1 Post 173 [(0, .retAddr 0), (1, .ref 0), (2, .ref 36), (3, .ref 77), (4, .int (nI i))] [] h := by
  obtain ⟨dn, ds, Q, ⟨l1, l2⟩, X1, R1⟩ := s_days I (hI hx 0 (i + 1))
  refine px_aload_n d_L_law_173 rfl rfl ?_
  refine px_aload_nX d_L_law_174 rfl rfl ?_
  refine px_iload d_L_law_175 rfl ?_
  refine px_iconst (v := 1) d_L_law_177 (by decide) ?_
  refine px_iadd d_L_law_178 ?_
  refine px_sld d_L_law_179 hX (nI_add i 1) (by omega) hb ?_
  refine px_callVX X1 d_L_law_180 lk_L_37 ok_X11_days ov_X11_days (so0 I.1) (by decide) rfl rfl (Nat.le_of_ble_eq_true rfl) (by decide) ⟨by omega, by omega⟩ (fun r1 h1 q1 n1 s1 => ?_)
  obtain ⟨hL1, v, Q2, rfl, X2, R2⟩ := R1 r1 h1 q1 n1 s1
  refine px_aload_n d_L_law_183 rfl rfl ?_
  refine px_aload_nX d_L_law_184 rfl rfl ?_
  refine px_iload d_L_law_185 rfl ?_
  refine px_iconst (v := 1) d_L_law_187 (by decide) ?_
  refine px_iadd d_L_law_188 ?_
  refine px_sld d_L_law_189 hX (nI_add i 1) (by omega) hb ?_
  refine px_callVX X2 d_L_law_190 lk_L_40 ok_X12_days ov_X12_days (so36 hL1) (by decide) rfl rfl (Nat.le_of_ble_eq_true rfl) (by decide) ⟨by omega, by omega⟩ (fun r2 h2 q2 n2 s2 => ?_)
  obtain ⟨rfl, I2⟩ := R2 r2 h2 q2
  refine px_icmp_eq (tgt := 1141) d_L_law_193 (by decide) (fun _ => ?_) (fun z => absurd rfl z)
  exact kk h2 I2 (by omega) (by omega)
theorem lw_post (I : INV h) (hX : Post 2 none hx) (hl : i + 7 ≤ hn hx) (hb : hn hx ≤ 1000000) (hN : hn h + 3 ≤ N1 ∧ hs h + 603 ≤ S1) (kk : ∀ h', INV h' → hn h' ≤ hn h + 3 → hs h' ≤ hs h + 603 → PW M_L_law N1 S1 Post 1141 [(0, .retAddr 0), (1, .ref 0), (2, .ref 36), (3, .ref 77), (4, .int (nI i))] [] h') : PW M_L_law N1 S1 Post 198 [(0, .retAddr 0), (1, .ref 0), (2, .ref 36), (3, .ref 77), (4, .int (nI i))] [] h := by
  obtain ⟨dn, ds, Q, ⟨l1, l2⟩, X1, R1⟩ := s_post I (hI hx 0 (i + 1)) (hI hx 0 (i + 2)) (hI hx 0 (i + 3)) (hI hx 0 (i + 4))
  refine px_aload_n d_L_law_198 rfl rfl ?_
  refine px_aload_nX d_L_law_199 rfl rfl ?_
  refine px_iload d_L_law_200 rfl ?_
  refine px_iconst (v := 1) d_L_law_202 (by decide) ?_
  refine px_iadd d_L_law_203 ?_
  refine px_sld d_L_law_204 hX (nI_add i 1) (by omega) hb ?_
  refine px_aload_nX d_L_law_205 rfl rfl ?_
  refine px_iload d_L_law_206 rfl ?_
  refine px_iconst (v := 2) d_L_law_208 (by decide) ?_
  refine px_iadd d_L_law_209 ?_
  refine px_sld d_L_law_210 hX (nI_add i 2) (by omega) hb ?_
  refine px_aload_nX d_L_law_211 rfl rfl ?_
  refine px_iload d_L_law_212 rfl ?_
  refine px_iconst (v := 3) d_L_law_214 (by decide) ?_
  refine px_iadd d_L_law_215 ?_
  refine px_sld d_L_law_216 hX (nI_add i 3) (by omega) hb ?_
  refine px_aload_nX d_L_law_217 rfl rfl ?_
  refine px_iload d_L_law_218 rfl ?_
  refine px_iconst (v := 4) d_L_law_220 (by decide) ?_
  refine px_iadd d_L_law_221 ?_
  refine px_sld d_L_law_222 hX (nI_add i 4) (by omega) hb ?_
  refine px_callVX X1 d_L_law_223 lk_L_41 ok_X11_post ov_X11_post (so0 I.1) (by decide) rfl rfl (Nat.le_of_ble_eq_true rfl) (by decide) ⟨by omega, by omega⟩ (fun r1 h1 q1 n1 s1 => ?_)
  obtain ⟨hL1, v, Q2, rfl, X2, R2⟩ := R1 r1 h1 q1 n1 s1
  refine px_aload_n d_L_law_226 rfl rfl ?_
  refine px_aload_nX d_L_law_227 rfl rfl ?_
  refine px_iload d_L_law_228 rfl ?_
  refine px_iconst (v := 1) d_L_law_230 (by decide) ?_
  refine px_iadd d_L_law_231 ?_
  refine px_sld d_L_law_232 hX (nI_add i 1) (by omega) hb ?_
  refine px_aload_nX d_L_law_233 rfl rfl ?_
  refine px_iload d_L_law_234 rfl ?_
  refine px_iconst (v := 2) d_L_law_236 (by decide) ?_
  refine px_iadd d_L_law_237 ?_
  refine px_sld d_L_law_238 hX (nI_add i 2) (by omega) hb ?_
  refine px_aload_nX d_L_law_239 rfl rfl ?_
  refine px_iload d_L_law_240 rfl ?_
  refine px_iconst (v := 3) d_L_law_242 (by decide) ?_
  refine px_iadd d_L_law_243 ?_
  refine px_sld d_L_law_244 hX (nI_add i 3) (by omega) hb ?_
  refine px_aload_nX d_L_law_245 rfl rfl ?_
  refine px_iload d_L_law_246 rfl ?_
  refine px_iconst (v := 4) d_L_law_248 (by decide) ?_
  refine px_iadd d_L_law_249 ?_
  refine px_sld d_L_law_250 hX (nI_add i 4) (by omega) hb ?_
  refine px_callVX X2 d_L_law_251 lk_L_45 ok_X12_post ov_X12_post (so36 hL1) (by decide) rfl rfl (Nat.le_of_ble_eq_true rfl) (by decide) ⟨by omega, by omega⟩ (fun r2 h2 q2 n2 s2 => ?_)
  obtain ⟨rfl, I2⟩ := R2 r2 h2 q2
  refine px_icmp_eq (tgt := 1141) d_L_law_254 (by decide) (fun _ => ?_) (fun z => absurd rfl z)
  exact kk h2 I2 (by omega) (by omega)
theorem lw_feed (I : INV h) (hX : Post 2 none hx) (hl : i + 7 ≤ hn hx) (hb : hn hx ≤ 1000000) (hN : hn h + 3 ≤ N1 ∧ hs h + 603 ≤ S1) (kk : ∀ h', INV h' → hn h' ≤ hn h + 3 → hs h' ≤ hs h + 603 → PW M_L_law N1 S1 Post 1141 [(0, .retAddr 0), (1, .ref 0), (2, .ref 36), (3, .ref 77), (4, .int (nI i))] [] h') : PW M_L_law N1 S1 Post 259 [(0, .retAddr 0), (1, .ref 0), (2, .ref 36), (3, .ref 77), (4, .int (nI i))] [] h := by
  obtain ⟨dn, ds, Q, ⟨l1, l2⟩, X1, R1⟩ := s_feed I ((hI hx 0 (i + 1)).toInt64 <<< ((32 : Int32).toInt64 &&& 63) ||| ((hI hx 0 (i + 2)).toInt64 &&& 4294967295)) ((hI hx 0 (i + 3)).toInt64 <<< ((32 : Int32).toInt64 &&& 63) ||| ((hI hx 0 (i + 4)).toInt64 &&& 4294967295)) ((hI hx 0 (i + 5)).toInt64 <<< ((32 : Int32).toInt64 &&& 63) ||| ((hI hx 0 (i + 6)).toInt64 &&& 4294967295))
  refine px_aload_n d_L_law_259 rfl rfl ?_
  refine px_aload_nX d_L_law_260 rfl rfl ?_
  refine px_iload d_L_law_261 rfl ?_
  refine px_iconst (v := 1) d_L_law_263 (by decide) ?_
  refine px_iadd d_L_law_264 ?_
  refine px_sld d_L_law_265 hX (nI_add i 1) (by omega) hb ?_
  refine px_i2l d_L_law_266 ?_
  refine px_bipush (v := 32) d_L_law_267 (by decide) ?_
  refine px_lshl d_L_law_269 ?_
  refine px_aload_nX d_L_law_270 rfl rfl ?_
  refine px_iload d_L_law_271 rfl ?_
  refine px_iconst (v := 2) d_L_law_273 (by decide) ?_
  refine px_iadd d_L_law_274 ?_
  refine px_sld d_L_law_275 hX (nI_add i 2) (by omega) hb ?_
  refine px_i2l d_L_law_276 ?_
  refine px_ldc2 d_L_law_277 cl_L_46 ?_
  refine px_land d_L_law_280 ?_
  refine px_lor d_L_law_281 ?_
  refine px_aload_nX d_L_law_282 rfl rfl ?_
  refine px_iload d_L_law_283 rfl ?_
  refine px_iconst (v := 3) d_L_law_285 (by decide) ?_
  refine px_iadd d_L_law_286 ?_
  refine px_sld d_L_law_287 hX (nI_add i 3) (by omega) hb ?_
  refine px_i2l d_L_law_288 ?_
  refine px_bipush (v := 32) d_L_law_289 (by decide) ?_
  refine px_lshl d_L_law_291 ?_
  refine px_aload_nX d_L_law_292 rfl rfl ?_
  refine px_iload d_L_law_293 rfl ?_
  refine px_iconst (v := 4) d_L_law_295 (by decide) ?_
  refine px_iadd d_L_law_296 ?_
  refine px_sld d_L_law_297 hX (nI_add i 4) (by omega) hb ?_
  refine px_i2l d_L_law_298 ?_
  refine px_ldc2 d_L_law_299 cl_L_46 ?_
  refine px_land d_L_law_302 ?_
  refine px_lor d_L_law_303 ?_
  refine px_aload_nX d_L_law_304 rfl rfl ?_
  refine px_iload d_L_law_305 rfl ?_
  refine px_iconst (v := 5) d_L_law_307 (by decide) ?_
  refine px_iadd d_L_law_308 ?_
  refine px_sld d_L_law_309 hX (nI_add i 5) (by omega) hb ?_
  refine px_i2l d_L_law_310 ?_
  refine px_bipush (v := 32) d_L_law_311 (by decide) ?_
  refine px_lshl d_L_law_313 ?_
  refine px_aload_nX d_L_law_314 rfl rfl ?_
  refine px_iload d_L_law_315 rfl ?_
  refine px_bipush (v := 6) d_L_law_317 (by decide) ?_
  refine px_iadd d_L_law_319 ?_
  refine px_sld d_L_law_320 hX (nI_add i 6) (by omega) hb ?_
  refine px_i2l d_L_law_321 ?_
  refine px_ldc2 d_L_law_322 cl_L_46 ?_
  refine px_land d_L_law_325 ?_
  refine px_lor d_L_law_326 ?_
  refine px_callVX X1 d_L_law_327 lk_L_48 ok_X11_feed ov_X11_feed (so0 I.1) (by decide) rfl rfl (Nat.le_of_ble_eq_true rfl) (by decide) ⟨by omega, by omega⟩ (fun r1 h1 q1 n1 s1 => ?_)
  obtain ⟨hL1, v, Q2, rfl, X2, R2⟩ := R1 r1 h1 q1 n1 s1
  refine px_aload_n d_L_law_330 rfl rfl ?_
  refine px_aload_nX d_L_law_331 rfl rfl ?_
  refine px_iload d_L_law_332 rfl ?_
  refine px_iconst (v := 1) d_L_law_334 (by decide) ?_
  refine px_iadd d_L_law_335 ?_
  refine px_sld d_L_law_336 hX (nI_add i 1) (by omega) hb ?_
  refine px_i2l d_L_law_337 ?_
  refine px_bipush (v := 32) d_L_law_338 (by decide) ?_
  refine px_lshl d_L_law_340 ?_
  refine px_aload_nX d_L_law_341 rfl rfl ?_
  refine px_iload d_L_law_342 rfl ?_
  refine px_iconst (v := 2) d_L_law_344 (by decide) ?_
  refine px_iadd d_L_law_345 ?_
  refine px_sld d_L_law_346 hX (nI_add i 2) (by omega) hb ?_
  refine px_i2l d_L_law_347 ?_
  refine px_ldc2 d_L_law_348 cl_L_46 ?_
  refine px_land d_L_law_351 ?_
  refine px_lor d_L_law_352 ?_
  refine px_aload_nX d_L_law_353 rfl rfl ?_
  refine px_iload d_L_law_354 rfl ?_
  refine px_iconst (v := 3) d_L_law_356 (by decide) ?_
  refine px_iadd d_L_law_357 ?_
  refine px_sld d_L_law_358 hX (nI_add i 3) (by omega) hb ?_
  refine px_i2l d_L_law_359 ?_
  refine px_bipush (v := 32) d_L_law_360 (by decide) ?_
  refine px_lshl d_L_law_362 ?_
  refine px_aload_nX d_L_law_363 rfl rfl ?_
  refine px_iload d_L_law_364 rfl ?_
  refine px_iconst (v := 4) d_L_law_366 (by decide) ?_
  refine px_iadd d_L_law_367 ?_
  refine px_sld d_L_law_368 hX (nI_add i 4) (by omega) hb ?_
  refine px_i2l d_L_law_369 ?_
  refine px_ldc2 d_L_law_370 cl_L_46 ?_
  refine px_land d_L_law_373 ?_
  refine px_lor d_L_law_374 ?_
  refine px_aload_nX d_L_law_375 rfl rfl ?_
  refine px_iload d_L_law_376 rfl ?_
  refine px_iconst (v := 5) d_L_law_378 (by decide) ?_
  refine px_iadd d_L_law_379 ?_
  refine px_sld d_L_law_380 hX (nI_add i 5) (by omega) hb ?_
  refine px_i2l d_L_law_381 ?_
  refine px_bipush (v := 32) d_L_law_382 (by decide) ?_
  refine px_lshl d_L_law_384 ?_
  refine px_aload_nX d_L_law_385 rfl rfl ?_
  refine px_iload d_L_law_386 rfl ?_
  refine px_bipush (v := 6) d_L_law_388 (by decide) ?_
  refine px_iadd d_L_law_390 ?_
  refine px_sld d_L_law_391 hX (nI_add i 6) (by omega) hb ?_
  refine px_i2l d_L_law_392 ?_
  refine px_ldc2 d_L_law_393 cl_L_46 ?_
  refine px_land d_L_law_396 ?_
  refine px_lor d_L_law_397 ?_
  refine px_callVX X2 d_L_law_398 lk_L_52 ok_X12_feed ov_X12_feed (so36 hL1) (by decide) rfl rfl (Nat.le_of_ble_eq_true rfl) (by decide) ⟨by omega, by omega⟩ (fun r2 h2 q2 n2 s2 => ?_)
  obtain ⟨rfl, I2⟩ := R2 r2 h2 q2
  refine px_icmp_eq (tgt := 1141) d_L_law_401 (by decide) (fun _ => ?_) (fun z => absurd rfl z)
  exact kk h2 I2 (by omega) (by omega)
theorem lw_text (I : INV h) (hX : Post 2 none hx) (hl : i + 7 ≤ hn hx) (hb : hn hx ≤ 1000000) (hN : hn h + 3 ≤ N1 ∧ hs h + 603 ≤ S1) (kk : ∀ h', INV h' → hn h' ≤ hn h + 3 → hs h' ≤ hs h + 603 → PW M_L_law N1 S1 Post 1141 [(0, .retAddr 0), (1, .ref 0), (2, .ref 36), (3, .ref 77), (4, .int (nI i))] [] h') : PW M_L_law N1 S1 Post 406 [(0, .retAddr 0), (1, .ref 0), (2, .ref 36), (3, .ref 77), (4, .int (nI i))] [] h := by
  obtain ⟨dn, ds, Q, ⟨l1, l2⟩, X1, R1⟩ := s_text I (hI hx 0 (i + 1))
  refine px_aload_n d_L_law_406 rfl rfl ?_
  refine px_aload_nX d_L_law_407 rfl rfl ?_
  refine px_iload d_L_law_408 rfl ?_
  refine px_iconst (v := 1) d_L_law_410 (by decide) ?_
  refine px_iadd d_L_law_411 ?_
  refine px_sld d_L_law_412 hX (nI_add i 1) (by omega) hb ?_
  refine px_callVX X1 d_L_law_413 lk_L_53 ok_X11_text ov_X11_text (so0 I.1) (by decide) rfl rfl (Nat.le_of_ble_eq_true rfl) (by decide) ⟨by omega, by omega⟩ (fun r1 h1 q1 n1 s1 => ?_)
  obtain ⟨hL1, v, Q2, rfl, X2, R2⟩ := R1 r1 h1 q1 n1 s1
  refine px_aload_n d_L_law_416 rfl rfl ?_
  refine px_aload_nX d_L_law_417 rfl rfl ?_
  refine px_iload d_L_law_418 rfl ?_
  refine px_iconst (v := 1) d_L_law_420 (by decide) ?_
  refine px_iadd d_L_law_421 ?_
  refine px_sld d_L_law_422 hX (nI_add i 1) (by omega) hb ?_
  refine px_callVX X2 d_L_law_423 lk_L_56 ok_X12_text ov_X12_text (so36 hL1) (by decide) rfl rfl (Nat.le_of_ble_eq_true rfl) (by decide) ⟨by omega, by omega⟩ (fun r2 h2 q2 n2 s2 => ?_)
  obtain ⟨rfl, I2⟩ := R2 r2 h2 q2
  refine px_icmp_eq (tgt := 1141) d_L_law_426 (by decide) (fun _ => ?_) (fun z => absurd rfl z)
  exact kk h2 I2 (by omega) (by omega)
theorem lw_balance (I : INV h) (hX : Post 2 none hx) (hl : i + 7 ≤ hn hx) (hb : hn hx ≤ 1000000) (hN : hn h + 3 ≤ N1 ∧ hs h + 603 ≤ S1) (kk : ∀ h', INV h' → hn h' ≤ hn h + 3 → hs h' ≤ hs h + 603 → PW M_L_law N1 S1 Post 1141 [(0, .retAddr 0), (1, .ref 0), (2, .ref 36), (3, .ref 77), (4, .int (nI i))] [] h') : PW M_L_law N1 S1 Post 431 [(0, .retAddr 0), (1, .ref 0), (2, .ref 36), (3, .ref 77), (4, .int (nI i))] [] h := by
  obtain ⟨dn, ds, Q, ⟨l1, l2⟩, X1, R1⟩ := s_balance I (hI hx 0 (i + 1)) (hI hx 0 (i + 2)) (hI hx 0 (i + 3))
  refine px_aload_n d_L_law_431 rfl rfl ?_
  refine px_aload_nX d_L_law_432 rfl rfl ?_
  refine px_iload d_L_law_433 rfl ?_
  refine px_iconst (v := 1) d_L_law_435 (by decide) ?_
  refine px_iadd d_L_law_436 ?_
  refine px_sld d_L_law_437 hX (nI_add i 1) (by omega) hb ?_
  refine px_aload_nX d_L_law_438 rfl rfl ?_
  refine px_iload d_L_law_439 rfl ?_
  refine px_iconst (v := 2) d_L_law_441 (by decide) ?_
  refine px_iadd d_L_law_442 ?_
  refine px_sld d_L_law_443 hX (nI_add i 2) (by omega) hb ?_
  refine px_aload_nX d_L_law_444 rfl rfl ?_
  refine px_iload d_L_law_445 rfl ?_
  refine px_iconst (v := 3) d_L_law_447 (by decide) ?_
  refine px_iadd d_L_law_448 ?_
  refine px_sld d_L_law_449 hX (nI_add i 3) (by omega) hb ?_
  refine px_aload_n d_L_law_450 rfl rfl ?_
  refine px_callSWX X1 d_L_law_451 lk_L_57 ow_L_balance rfl (Nat.le_of_ble_eq_true rfl) (by decide) ⟨by omega, by omega⟩ (fun r1 h1 q1 n1 s1 => ?_)
  obtain ⟨hL1, kk1, Q2, rfl, X2, R2⟩ := R1 r1 h1 q1 n1 s1
  refine px_istore d_L_law_454 (by decide) ?_
  refine px_aload_n d_L_law_456 rfl rfl ?_
  refine px_aload_nX d_L_law_457 rfl rfl ?_
  refine px_iload d_L_law_458 rfl ?_
  refine px_iconst (v := 1) d_L_law_460 (by decide) ?_
  refine px_iadd d_L_law_461 ?_
  refine px_sld d_L_law_462 hX (nI_add i 1) (by omega) hb ?_
  refine px_aload_nX d_L_law_463 rfl rfl ?_
  refine px_iload d_L_law_464 rfl ?_
  refine px_iconst (v := 2) d_L_law_466 (by decide) ?_
  refine px_iadd d_L_law_467 ?_
  refine px_sld d_L_law_468 hX (nI_add i 2) (by omega) hb ?_
  refine px_aload_nX d_L_law_469 rfl rfl ?_
  refine px_iload d_L_law_470 rfl ?_
  refine px_iconst (v := 3) d_L_law_472 (by decide) ?_
  refine px_iadd d_L_law_473 ?_
  refine px_sld d_L_law_474 hX (nI_add i 3) (by omega) hb ?_
  refine px_callVX X2 d_L_law_475 lk_L_62 ok_X12_balance ov_X12_balance (so36 hL1) (by decide) rfl rfl (Nat.le_of_ble_eq_true rfl) (by decide) ⟨by omega, by omega⟩ (fun r2 h2 q2 n2 s2 => ?_)
  obtain ⟨b, rfl, e0, e1, I2⟩ := R2 r2 h2 q2
  refine px_istore d_L_law_478 (by decide) ?_
  refine px_aload_n d_L_law_480 rfl rfl ?_
  refine px_callV (c_X12_thrown I2.1) d_L_law_481 lk_L_63 ok_X12_thrown ov_X12_thrown (so36 I2.1) (by decide) rfl rfl (Nat.le_of_ble_eq_true rfl) (by decide) ⟨by omega, by omega⟩ ?_
  refine px_iload d_L_law_484 rfl ?_
  refine px_icmp_eq (tgt := 491) d_L_law_486 (by decide) (fun _ => ?_) (fun z => absurd e0 z)
  refine px_iload d_L_law_491 rfl ?_
  refine px_if_ne (tgt := 508) d_L_law_493 (by decide) (fun _ => ?_) (fun z0 => ?_)
  · refine px_goto (tgt := 1141) d_L_law_508 (by decide) ?_
    refine px_drop (lv' := [(0, .retAddr 0), (1, .ref 0), (2, .ref 36), (3, .ref 77), (4, .int (nI i))]) ⟨rfl, rfl, rfl, rfl, rfl, trivial⟩ ?_
    exact kk h2 I2 (by omega) (by omega)
  · refine px_aload_n d_L_law_496 rfl rfl ?_
    refine px_iconst (v := 0) d_L_law_497 (by decide) ?_
    refine px_lald (j := 0) d_L_law_498 (sa77 I2.1) rfl (by decide) ?_
    refine px_iload d_L_law_499 rfl ?_
    refine px_i2l d_L_law_501 ?_
    refine px_lcmp d_L_law_502 ?_
    refine px_if_eq (tgt := 508) d_L_law_503 (by decide) (fun _ => ?_) (fun z => absurd ((lg_eq _ _).mpr (e1 z0)) z)
    refine px_goto (tgt := 1141) d_L_law_508 (by decide) ?_
    refine px_drop (lv' := [(0, .retAddr 0), (1, .ref 0), (2, .ref 36), (3, .ref 77), (4, .int (nI i))]) ⟨rfl, rfl, rfl, rfl, rfl, trivial⟩ ?_
    exact kk h2 I2 (by omega) (by omega)
theorem lw_interest (I : INV h) (hX : Post 2 none hx) (hl : i + 7 ≤ hn hx) (hb : hn hx ≤ 1000000) (hN : hn h + 3 ≤ N1 ∧ hs h + 603 ≤ S1) (kk : ∀ h', INV h' → hn h' ≤ hn h + 3 → hs h' ≤ hs h + 603 → PW M_L_law N1 S1 Post 1141 [(0, .retAddr 0), (1, .ref 0), (2, .ref 36), (3, .ref 77), (4, .int (nI i))] [] h') : PW M_L_law N1 S1 Post 511 [(0, .retAddr 0), (1, .ref 0), (2, .ref 36), (3, .ref 77), (4, .int (nI i))] [] h := by
  obtain ⟨dn, ds, Q, ⟨l1, l2⟩, X1, R1⟩ := s_interest I (hI hx 0 (i + 1)) (hI hx 0 (i + 2)) (hI hx 0 (i + 3))
  refine px_aload_n d_L_law_511 rfl rfl ?_
  refine px_aload_nX d_L_law_512 rfl rfl ?_
  refine px_iload d_L_law_513 rfl ?_
  refine px_iconst (v := 1) d_L_law_515 (by decide) ?_
  refine px_iadd d_L_law_516 ?_
  refine px_sld d_L_law_517 hX (nI_add i 1) (by omega) hb ?_
  refine px_aload_nX d_L_law_518 rfl rfl ?_
  refine px_iload d_L_law_519 rfl ?_
  refine px_iconst (v := 2) d_L_law_521 (by decide) ?_
  refine px_iadd d_L_law_522 ?_
  refine px_sld d_L_law_523 hX (nI_add i 2) (by omega) hb ?_
  refine px_aload_nX d_L_law_524 rfl rfl ?_
  refine px_iload d_L_law_525 rfl ?_
  refine px_iconst (v := 3) d_L_law_527 (by decide) ?_
  refine px_iadd d_L_law_528 ?_
  refine px_sld d_L_law_529 hX (nI_add i 3) (by omega) hb ?_
  refine px_aload_n d_L_law_530 rfl rfl ?_
  refine px_callSWX X1 d_L_law_531 lk_L_67 ow_L_interest rfl (Nat.le_of_ble_eq_true rfl) (by decide) ⟨by omega, by omega⟩ (fun r1 h1 q1 n1 s1 => ?_)
  obtain ⟨hL1, kk1, Q2, rfl, X2, R2⟩ := R1 r1 h1 q1 n1 s1
  refine px_istore d_L_law_534 (by decide) ?_
  refine px_aload_n d_L_law_536 rfl rfl ?_
  refine px_aload_nX d_L_law_537 rfl rfl ?_
  refine px_iload d_L_law_538 rfl ?_
  refine px_iconst (v := 1) d_L_law_540 (by decide) ?_
  refine px_iadd d_L_law_541 ?_
  refine px_sld d_L_law_542 hX (nI_add i 1) (by omega) hb ?_
  refine px_aload_nX d_L_law_543 rfl rfl ?_
  refine px_iload d_L_law_544 rfl ?_
  refine px_iconst (v := 2) d_L_law_546 (by decide) ?_
  refine px_iadd d_L_law_547 ?_
  refine px_sld d_L_law_548 hX (nI_add i 2) (by omega) hb ?_
  refine px_aload_nX d_L_law_549 rfl rfl ?_
  refine px_iload d_L_law_550 rfl ?_
  refine px_iconst (v := 3) d_L_law_552 (by decide) ?_
  refine px_iadd d_L_law_553 ?_
  refine px_sld d_L_law_554 hX (nI_add i 3) (by omega) hb ?_
  refine px_callVX X2 d_L_law_555 lk_L_69 ok_X12_interest ov_X12_interest (so36 hL1) (by decide) rfl rfl (Nat.le_of_ble_eq_true rfl) (by decide) ⟨by omega, by omega⟩ (fun r2 h2 q2 n2 s2 => ?_)
  obtain ⟨b, rfl, e0, e1, I2⟩ := R2 r2 h2 q2
  refine px_istore d_L_law_558 (by decide) ?_
  refine px_aload_n d_L_law_560 rfl rfl ?_
  refine px_callV (c_X12_thrown I2.1) d_L_law_561 lk_L_63 ok_X12_thrown ov_X12_thrown (so36 I2.1) (by decide) rfl rfl (Nat.le_of_ble_eq_true rfl) (by decide) ⟨by omega, by omega⟩ ?_
  refine px_iload d_L_law_564 rfl ?_
  refine px_icmp_eq (tgt := 571) d_L_law_566 (by decide) (fun _ => ?_) (fun z => absurd e0 z)
  refine px_iload d_L_law_571 rfl ?_
  refine px_if_ne (tgt := 588) d_L_law_573 (by decide) (fun _ => ?_) (fun z0 => ?_)
  · refine px_goto (tgt := 1141) d_L_law_588 (by decide) ?_
    refine px_drop (lv' := [(0, .retAddr 0), (1, .ref 0), (2, .ref 36), (3, .ref 77), (4, .int (nI i))]) ⟨rfl, rfl, rfl, rfl, rfl, trivial⟩ ?_
    exact kk h2 I2 (by omega) (by omega)
  · refine px_aload_n d_L_law_576 rfl rfl ?_
    refine px_iconst (v := 0) d_L_law_577 (by decide) ?_
    refine px_lald (j := 0) d_L_law_578 (sa77 I2.1) rfl (by decide) ?_
    refine px_iload d_L_law_579 rfl ?_
    refine px_i2l d_L_law_581 ?_
    refine px_lcmp d_L_law_582 ?_
    refine px_if_eq (tgt := 588) d_L_law_583 (by decide) (fun _ => ?_) (fun z => absurd ((lg_eq _ _).mpr (e1 z0)) z)
    refine px_goto (tgt := 1141) d_L_law_588 (by decide) ?_
    refine px_drop (lv' := [(0, .retAddr 0), (1, .ref 0), (2, .ref 36), (3, .ref 77), (4, .int (nI i))]) ⟨rfl, rfl, rfl, rfl, rfl, trivial⟩ ?_
    exact kk h2 I2 (by omega) (by omega)
theorem lw_may (I : INV h) (hX : Post 2 none hx) (hl : i + 7 ≤ hn hx) (hb : hn hx ≤ 1000000) (hN : hn h + 3 ≤ N1 ∧ hs h + 603 ≤ S1) (kk : ∀ h', INV h' → hn h' ≤ hn h + 3 → hs h' ≤ hs h + 603 → PW M_L_law N1 S1 Post 1141 [(0, .retAddr 0), (1, .ref 0), (2, .ref 36), (3, .ref 77), (4, .int (nI i))] [] h') : PW M_L_law N1 S1 Post 591 [(0, .retAddr 0), (1, .ref 0), (2, .ref 36), (3, .ref 77), (4, .int (nI i))] [] h := by
  obtain ⟨dn, ds, Q, ⟨l1, l2⟩, X1, R1⟩ := s_may I (hI hx 0 (i + 1)) (hI hx 0 (i + 2)) (hI hx 0 (i + 3))
  refine px_aload_n d_L_law_591 rfl rfl ?_
  refine px_aload_nX d_L_law_592 rfl rfl ?_
  refine px_iload d_L_law_593 rfl ?_
  refine px_iconst (v := 1) d_L_law_595 (by decide) ?_
  refine px_iadd d_L_law_596 ?_
  refine px_sld d_L_law_597 hX (nI_add i 1) (by omega) hb ?_
  refine px_aload_nX d_L_law_598 rfl rfl ?_
  refine px_iload d_L_law_599 rfl ?_
  refine px_iconst (v := 2) d_L_law_601 (by decide) ?_
  refine px_iadd d_L_law_602 ?_
  refine px_sld d_L_law_603 hX (nI_add i 2) (by omega) hb ?_
  refine px_aload_nX d_L_law_604 rfl rfl ?_
  refine px_iload d_L_law_605 rfl ?_
  refine px_iconst (v := 3) d_L_law_607 (by decide) ?_
  refine px_iadd d_L_law_608 ?_
  refine px_sld d_L_law_609 hX (nI_add i 3) (by omega) hb ?_
  refine px_callVX X1 d_L_law_610 lk_L_70 ok_X11_may ov_X11_may (so0 I.1) (by decide) rfl rfl (Nat.le_of_ble_eq_true rfl) (by decide) ⟨by omega, by omega⟩ (fun r1 h1 q1 n1 s1 => ?_)
  obtain ⟨hL1, v, Q2, rfl, X2, R2⟩ := R1 r1 h1 q1 n1 s1
  refine px_aload_n d_L_law_613 rfl rfl ?_
  refine px_aload_nX d_L_law_614 rfl rfl ?_
  refine px_iload d_L_law_615 rfl ?_
  refine px_iconst (v := 1) d_L_law_617 (by decide) ?_
  refine px_iadd d_L_law_618 ?_
  refine px_sld d_L_law_619 hX (nI_add i 1) (by omega) hb ?_
  refine px_aload_nX d_L_law_620 rfl rfl ?_
  refine px_iload d_L_law_621 rfl ?_
  refine px_iconst (v := 2) d_L_law_623 (by decide) ?_
  refine px_iadd d_L_law_624 ?_
  refine px_sld d_L_law_625 hX (nI_add i 2) (by omega) hb ?_
  refine px_aload_nX d_L_law_626 rfl rfl ?_
  refine px_iload d_L_law_627 rfl ?_
  refine px_iconst (v := 3) d_L_law_629 (by decide) ?_
  refine px_iadd d_L_law_630 ?_
  refine px_sld d_L_law_631 hX (nI_add i 3) (by omega) hb ?_
  refine px_callVX X2 d_L_law_632 lk_L_73 ok_X12_may ov_X12_may (so36 hL1) (by decide) rfl rfl (Nat.le_of_ble_eq_true rfl) (by decide) ⟨by omega, by omega⟩ (fun r2 h2 q2 n2 s2 => ?_)
  obtain ⟨rfl, I2⟩ := R2 r2 h2 q2
  refine px_icmp_eq (tgt := 1141) d_L_law_635 (by decide) (fun _ => ?_) (fun z => absurd rfl z)
  exact kk h2 I2 (by omega) (by omega)
theorem lw_draw (I : INV h) (hX : Post 2 none hx) (hl : i + 7 ≤ hn hx) (hb : hn hx ≤ 1000000) (hN : hn h + 3 ≤ N1 ∧ hs h + 603 ≤ S1) (kk : ∀ h', INV h' → hn h' ≤ hn h + 3 → hs h' ≤ hs h + 603 → PW M_L_law N1 S1 Post 1141 [(0, .retAddr 0), (1, .ref 0), (2, .ref 36), (3, .ref 77), (4, .int (nI i))] [] h') : PW M_L_law N1 S1 Post 640 [(0, .retAddr 0), (1, .ref 0), (2, .ref 36), (3, .ref 77), (4, .int (nI i))] [] h := by
  obtain ⟨dn, ds, Q, ⟨l1, l2⟩, X1, R1⟩ := s_draw I (hI hx 0 (i + 1)) (hI hx 0 (i + 2)) (hI hx 0 (i + 3)) (hI hx 0 (i + 4))
  refine px_aload_n d_L_law_640 rfl rfl ?_
  refine px_aload_nX d_L_law_641 rfl rfl ?_
  refine px_iload d_L_law_642 rfl ?_
  refine px_iconst (v := 1) d_L_law_644 (by decide) ?_
  refine px_iadd d_L_law_645 ?_
  refine px_sld d_L_law_646 hX (nI_add i 1) (by omega) hb ?_
  refine px_aload_nX d_L_law_647 rfl rfl ?_
  refine px_iload d_L_law_648 rfl ?_
  refine px_iconst (v := 2) d_L_law_650 (by decide) ?_
  refine px_iadd d_L_law_651 ?_
  refine px_sld d_L_law_652 hX (nI_add i 2) (by omega) hb ?_
  refine px_aload_nX d_L_law_653 rfl rfl ?_
  refine px_iload d_L_law_654 rfl ?_
  refine px_iconst (v := 3) d_L_law_656 (by decide) ?_
  refine px_iadd d_L_law_657 ?_
  refine px_sld d_L_law_658 hX (nI_add i 3) (by omega) hb ?_
  refine px_aload_nX d_L_law_659 rfl rfl ?_
  refine px_iload d_L_law_660 rfl ?_
  refine px_iconst (v := 4) d_L_law_662 (by decide) ?_
  refine px_iadd d_L_law_663 ?_
  refine px_sld d_L_law_664 hX (nI_add i 4) (by omega) hb ?_
  refine px_callVX X1 d_L_law_665 lk_L_74 ok_X11_draw ov_X11_draw (so0 I.1) (by decide) rfl rfl (Nat.le_of_ble_eq_true rfl) (by decide) ⟨by omega, by omega⟩ (fun r1 h1 q1 n1 s1 => ?_)
  obtain ⟨hL1, v, Q2, rfl, X2, R2⟩ := R1 r1 h1 q1 n1 s1
  refine px_aload_n d_L_law_668 rfl rfl ?_
  refine px_aload_nX d_L_law_669 rfl rfl ?_
  refine px_iload d_L_law_670 rfl ?_
  refine px_iconst (v := 1) d_L_law_672 (by decide) ?_
  refine px_iadd d_L_law_673 ?_
  refine px_sld d_L_law_674 hX (nI_add i 1) (by omega) hb ?_
  refine px_aload_nX d_L_law_675 rfl rfl ?_
  refine px_iload d_L_law_676 rfl ?_
  refine px_iconst (v := 2) d_L_law_678 (by decide) ?_
  refine px_iadd d_L_law_679 ?_
  refine px_sld d_L_law_680 hX (nI_add i 2) (by omega) hb ?_
  refine px_aload_nX d_L_law_681 rfl rfl ?_
  refine px_iload d_L_law_682 rfl ?_
  refine px_iconst (v := 3) d_L_law_684 (by decide) ?_
  refine px_iadd d_L_law_685 ?_
  refine px_sld d_L_law_686 hX (nI_add i 3) (by omega) hb ?_
  refine px_aload_nX d_L_law_687 rfl rfl ?_
  refine px_iload d_L_law_688 rfl ?_
  refine px_iconst (v := 4) d_L_law_690 (by decide) ?_
  refine px_iadd d_L_law_691 ?_
  refine px_sld d_L_law_692 hX (nI_add i 4) (by omega) hb ?_
  refine px_callVX X2 d_L_law_693 lk_L_77 ok_X12_draw ov_X12_draw (so36 hL1) (by decide) rfl rfl (Nat.le_of_ble_eq_true rfl) (by decide) ⟨by omega, by omega⟩ (fun r2 h2 q2 n2 s2 => ?_)
  obtain ⟨rfl, I2⟩ := R2 r2 h2 q2
  refine px_icmp_eq (tgt := 1141) d_L_law_696 (by decide) (fun _ => ?_) (fun z => absurd rfl z)
  exact kk h2 I2 (by omega) (by omega)
theorem lw_notice (I : INV h) (hX : Post 2 none hx) (hl : i + 7 ≤ hn hx) (hb : hn hx ≤ 1000000) (hN : hn h + 3 ≤ N1 ∧ hs h + 603 ≤ S1) (kk : ∀ h', INV h' → hn h' ≤ hn h + 3 → hs h' ≤ hs h + 603 → PW M_L_law N1 S1 Post 1141 [(0, .retAddr 0), (1, .ref 0), (2, .ref 36), (3, .ref 77), (4, .int (nI i))] [] h') : PW M_L_law N1 S1 Post 701 [(0, .retAddr 0), (1, .ref 0), (2, .ref 36), (3, .ref 77), (4, .int (nI i))] [] h := by
  obtain ⟨dn, ds, Q, ⟨l1, l2⟩, X1, R1⟩ := s_notice I (hI hx 0 (i + 1)) (hI hx 0 (i + 2))
  refine px_aload_n d_L_law_701 rfl rfl ?_
  refine px_aload_nX d_L_law_702 rfl rfl ?_
  refine px_iload d_L_law_703 rfl ?_
  refine px_iconst (v := 1) d_L_law_705 (by decide) ?_
  refine px_iadd d_L_law_706 ?_
  refine px_sld d_L_law_707 hX (nI_add i 1) (by omega) hb ?_
  refine px_aload_nX d_L_law_708 rfl rfl ?_
  refine px_iload d_L_law_709 rfl ?_
  refine px_iconst (v := 2) d_L_law_711 (by decide) ?_
  refine px_iadd d_L_law_712 ?_
  refine px_sld d_L_law_713 hX (nI_add i 2) (by omega) hb ?_
  refine px_callVX X1 d_L_law_714 lk_L_78 ok_X11_notice ov_X11_notice (so0 I.1) (by decide) rfl rfl (Nat.le_of_ble_eq_true rfl) (by decide) ⟨by omega, by omega⟩ (fun r1 h1 q1 n1 s1 => ?_)
  obtain ⟨hL1, v, Q2, rfl, X2, R2⟩ := R1 r1 h1 q1 n1 s1
  refine px_aload_n d_L_law_717 rfl rfl ?_
  refine px_aload_nX d_L_law_718 rfl rfl ?_
  refine px_iload d_L_law_719 rfl ?_
  refine px_iconst (v := 1) d_L_law_721 (by decide) ?_
  refine px_iadd d_L_law_722 ?_
  refine px_sld d_L_law_723 hX (nI_add i 1) (by omega) hb ?_
  refine px_aload_nX d_L_law_724 rfl rfl ?_
  refine px_iload d_L_law_725 rfl ?_
  refine px_iconst (v := 2) d_L_law_727 (by decide) ?_
  refine px_iadd d_L_law_728 ?_
  refine px_sld d_L_law_729 hX (nI_add i 2) (by omega) hb ?_
  refine px_callVX X2 d_L_law_730 lk_L_82 ok_X12_notice ov_X12_notice (so36 hL1) (by decide) rfl rfl (Nat.le_of_ble_eq_true rfl) (by decide) ⟨by omega, by omega⟩ (fun r2 h2 q2 n2 s2 => ?_)
  obtain ⟨rfl, I2⟩ := R2 r2 h2 q2
  refine px_icmp_eq (tgt := 1141) d_L_law_733 (by decide) (fun _ => ?_) (fun z => absurd rfl z)
  exact kk h2 I2 (by omega) (by omega)
theorem lw_write (I : INV h) (hX : Post 2 none hx) (hl : i + 7 ≤ hn hx) (hb : hn hx ≤ 1000000) (hN : hn h + 3 ≤ N1 ∧ hs h + 603 ≤ S1) (kk : ∀ h', INV h' → hn h' ≤ hn h + 3 → hs h' ≤ hs h + 603 → PW M_L_law N1 S1 Post 1141 [(0, .retAddr 0), (1, .ref 0), (2, .ref 36), (3, .ref 77), (4, .int (nI i))] [] h') : PW M_L_law N1 S1 Post 738 [(0, .retAddr 0), (1, .ref 0), (2, .ref 36), (3, .ref 77), (4, .int (nI i))] [] h := by
  obtain ⟨dn, ds, Q, ⟨l1, l2⟩, X1, R1⟩ := s_write I (hI hx 0 (i + 1)) (hI hx 0 (i + 2)) (hI hx 0 (i + 3))
  refine px_aload_n d_L_law_738 rfl rfl ?_
  refine px_aload_nX d_L_law_739 rfl rfl ?_
  refine px_iload d_L_law_740 rfl ?_
  refine px_iconst (v := 1) d_L_law_742 (by decide) ?_
  refine px_iadd d_L_law_743 ?_
  refine px_sld d_L_law_744 hX (nI_add i 1) (by omega) hb ?_
  refine px_aload_nX d_L_law_745 rfl rfl ?_
  refine px_iload d_L_law_746 rfl ?_
  refine px_iconst (v := 2) d_L_law_748 (by decide) ?_
  refine px_iadd d_L_law_749 ?_
  refine px_sld d_L_law_750 hX (nI_add i 2) (by omega) hb ?_
  refine px_aload_nX d_L_law_751 rfl rfl ?_
  refine px_iload d_L_law_752 rfl ?_
  refine px_iconst (v := 3) d_L_law_754 (by decide) ?_
  refine px_iadd d_L_law_755 ?_
  refine px_sld d_L_law_756 hX (nI_add i 3) (by omega) hb ?_
  refine px_callVX X1 d_L_law_757 lk_L_83 ok_X11_write ov_X11_write (so0 I.1) (by decide) rfl rfl (Nat.le_of_ble_eq_true rfl) (by decide) ⟨by omega, by omega⟩ (fun r1 h1 q1 n1 s1 => ?_)
  obtain ⟨hL1, v, Q2, rfl, X2, R2⟩ := R1 r1 h1 q1 n1 s1
  refine px_aload_n d_L_law_760 rfl rfl ?_
  refine px_aload_nX d_L_law_761 rfl rfl ?_
  refine px_iload d_L_law_762 rfl ?_
  refine px_iconst (v := 1) d_L_law_764 (by decide) ?_
  refine px_iadd d_L_law_765 ?_
  refine px_sld d_L_law_766 hX (nI_add i 1) (by omega) hb ?_
  refine px_aload_nX d_L_law_767 rfl rfl ?_
  refine px_iload d_L_law_768 rfl ?_
  refine px_iconst (v := 2) d_L_law_770 (by decide) ?_
  refine px_iadd d_L_law_771 ?_
  refine px_sld d_L_law_772 hX (nI_add i 2) (by omega) hb ?_
  refine px_aload_nX d_L_law_773 rfl rfl ?_
  refine px_iload d_L_law_774 rfl ?_
  refine px_iconst (v := 3) d_L_law_776 (by decide) ?_
  refine px_iadd d_L_law_777 ?_
  refine px_sld d_L_law_778 hX (nI_add i 3) (by omega) hb ?_
  refine px_callVX X2 d_L_law_779 lk_L_86 ok_X12_write ov_X12_write (so36 hL1) (by decide) rfl rfl (Nat.le_of_ble_eq_true rfl) (by decide) ⟨by omega, by omega⟩ (fun r2 h2 q2 n2 s2 => ?_)
  obtain ⟨rfl, I2⟩ := R2 r2 h2 q2
  refine px_icmp_eq (tgt := 1141) d_L_law_782 (by decide) (fun _ => ?_) (fun z => absurd rfl z)
  exact kk h2 I2 (by omega) (by omega)
theorem lw_compare (I : INV h) (hX : Post 2 none hx) (hl : i + 7 ≤ hn hx) (hb : hn hx ≤ 1000000) (hN : hn h + 3 ≤ N1 ∧ hs h + 603 ≤ S1) (kk : ∀ h', INV h' → hn h' ≤ hn h + 3 → hs h' ≤ hs h + 603 → PW M_L_law N1 S1 Post 1141 [(0, .retAddr 0), (1, .ref 0), (2, .ref 36), (3, .ref 77), (4, .int (nI i))] [] h') : PW M_L_law N1 S1 Post 787 [(0, .retAddr 0), (1, .ref 0), (2, .ref 36), (3, .ref 77), (4, .int (nI i))] [] h := by
  obtain ⟨dn, ds, Q, ⟨l1, l2⟩, X1, R1⟩ := s_compare I (hI hx 0 (i + 1)) (hI hx 0 (i + 2))
  refine px_aload_n d_L_law_787 rfl rfl ?_
  refine px_aload_nX d_L_law_788 rfl rfl ?_
  refine px_iload d_L_law_789 rfl ?_
  refine px_iconst (v := 1) d_L_law_791 (by decide) ?_
  refine px_iadd d_L_law_792 ?_
  refine px_sld d_L_law_793 hX (nI_add i 1) (by omega) hb ?_
  refine px_aload_nX d_L_law_794 rfl rfl ?_
  refine px_iload d_L_law_795 rfl ?_
  refine px_iconst (v := 2) d_L_law_797 (by decide) ?_
  refine px_iadd d_L_law_798 ?_
  refine px_sld d_L_law_799 hX (nI_add i 2) (by omega) hb ?_
  refine px_callVX X1 d_L_law_800 lk_L_87 ok_X11_compare ov_X11_compare (so0 I.1) (by decide) rfl rfl (Nat.le_of_ble_eq_true rfl) (by decide) ⟨by omega, by omega⟩ (fun r1 h1 q1 n1 s1 => ?_)
  obtain ⟨hL1, v, Q2, rfl, X2, R2⟩ := R1 r1 h1 q1 n1 s1
  refine px_aload_n d_L_law_803 rfl rfl ?_
  refine px_aload_nX d_L_law_804 rfl rfl ?_
  refine px_iload d_L_law_805 rfl ?_
  refine px_iconst (v := 1) d_L_law_807 (by decide) ?_
  refine px_iadd d_L_law_808 ?_
  refine px_sld d_L_law_809 hX (nI_add i 1) (by omega) hb ?_
  refine px_aload_nX d_L_law_810 rfl rfl ?_
  refine px_iload d_L_law_811 rfl ?_
  refine px_iconst (v := 2) d_L_law_813 (by decide) ?_
  refine px_iadd d_L_law_814 ?_
  refine px_sld d_L_law_815 hX (nI_add i 2) (by omega) hb ?_
  refine px_callVX X2 d_L_law_816 lk_L_90 ok_X12_compare ov_X12_compare (so36 hL1) (by decide) rfl rfl (Nat.le_of_ble_eq_true rfl) (by decide) ⟨by omega, by omega⟩ (fun r2 h2 q2 n2 s2 => ?_)
  obtain ⟨rfl, I2⟩ := R2 r2 h2 q2
  refine px_icmp_eq (tgt := 1141) d_L_law_819 (by decide) (fun _ => ?_) (fun z => absurd rfl z)
  exact kk h2 I2 (by omega) (by omega)
theorem lw_settle (I : INV h) (hX : Post 2 none hx) (hl : i + 7 ≤ hn hx) (hb : hn hx ≤ 1000000) (hN : hn h + 3 ≤ N1 ∧ hs h + 603 ≤ S1) (kk : ∀ h', INV h' → hn h' ≤ hn h + 3 → hs h' ≤ hs h + 603 → PW M_L_law N1 S1 Post 1141 [(0, .retAddr 0), (1, .ref 0), (2, .ref 36), (3, .ref 77), (4, .int (nI i))] [] h') : PW M_L_law N1 S1 Post 824 [(0, .retAddr 0), (1, .ref 0), (2, .ref 36), (3, .ref 77), (4, .int (nI i))] [] h := by
  obtain ⟨dn, ds, Q, ⟨l1, l2⟩, X1, R1⟩ := s_settle I (hI hx 0 (i + 1))
  refine px_aload_n d_L_law_824 rfl rfl ?_
  refine px_aload_nX d_L_law_825 rfl rfl ?_
  refine px_iload d_L_law_826 rfl ?_
  refine px_iconst (v := 1) d_L_law_828 (by decide) ?_
  refine px_iadd d_L_law_829 ?_
  refine px_sld d_L_law_830 hX (nI_add i 1) (by omega) hb ?_
  refine px_aload_n d_L_law_831 rfl rfl ?_
  refine px_callSWX X1 d_L_law_832 lk_L_91 ow_L_settle rfl (Nat.le_of_ble_eq_true rfl) (by decide) ⟨by omega, by omega⟩ (fun r1 h1 q1 n1 s1 => ?_)
  obtain ⟨hL1, kk1, Q2, rfl, X2, R2⟩ := R1 r1 h1 q1 n1 s1
  refine px_istore d_L_law_835 (by decide) ?_
  refine px_aload_n d_L_law_837 rfl rfl ?_
  refine px_aload_nX d_L_law_838 rfl rfl ?_
  refine px_iload d_L_law_839 rfl ?_
  refine px_iconst (v := 1) d_L_law_841 (by decide) ?_
  refine px_iadd d_L_law_842 ?_
  refine px_sld d_L_law_843 hX (nI_add i 1) (by omega) hb ?_
  refine px_callVX X2 d_L_law_844 lk_L_94 ok_X12_settle ov_X12_settle (so36 hL1) (by decide) rfl rfl (Nat.le_of_ble_eq_true rfl) (by decide) ⟨by omega, by omega⟩ (fun r2 h2 q2 n2 s2 => ?_)
  obtain ⟨b, rfl, e0, e1, I2⟩ := R2 r2 h2 q2
  refine px_istore d_L_law_847 (by decide) ?_
  refine px_aload_n d_L_law_849 rfl rfl ?_
  refine px_callV (c_X12_thrown I2.1) d_L_law_850 lk_L_63 ok_X12_thrown ov_X12_thrown (so36 I2.1) (by decide) rfl rfl (Nat.le_of_ble_eq_true rfl) (by decide) ⟨by omega, by omega⟩ ?_
  refine px_iload d_L_law_853 rfl ?_
  refine px_icmp_eq (tgt := 860) d_L_law_855 (by decide) (fun _ => ?_) (fun z => absurd e0 z)
  refine px_iload d_L_law_860 rfl ?_
  refine px_if_ne (tgt := 877) d_L_law_862 (by decide) (fun _ => ?_) (fun z0 => ?_)
  · refine px_goto (tgt := 1141) d_L_law_877 (by decide) ?_
    refine px_drop (lv' := [(0, .retAddr 0), (1, .ref 0), (2, .ref 36), (3, .ref 77), (4, .int (nI i))]) ⟨rfl, rfl, rfl, rfl, rfl, trivial⟩ ?_
    exact kk h2 I2 (by omega) (by omega)
  · refine px_aload_n d_L_law_865 rfl rfl ?_
    refine px_iconst (v := 0) d_L_law_866 (by decide) ?_
    refine px_lald (j := 0) d_L_law_867 (sa77 I2.1) rfl (by decide) ?_
    refine px_iload d_L_law_868 rfl ?_
    refine px_i2l d_L_law_870 ?_
    refine px_lcmp d_L_law_871 ?_
    refine px_if_eq (tgt := 877) d_L_law_872 (by decide) (fun _ => ?_) (fun z => absurd ((lg_eq _ _).mpr (e1 z0)) z)
    refine px_goto (tgt := 1141) d_L_law_877 (by decide) ?_
    refine px_drop (lv' := [(0, .retAddr 0), (1, .ref 0), (2, .ref 36), (3, .ref 77), (4, .int (nI i))]) ⟨rfl, rfl, rfl, rfl, rfl, trivial⟩ ?_
    exact kk h2 I2 (by omega) (by omega)
theorem lw_night (I : INV h) (hX : Post 2 none hx) (hl : i + 7 ≤ hn hx) (hb : hn hx ≤ 1000000) (hN : hn h + 3 ≤ N1 ∧ hs h + 603 ≤ S1) (kk : ∀ h', INV h' → hn h' ≤ hn h + 3 → hs h' ≤ hs h + 603 → PW M_L_law N1 S1 Post 1141 [(0, .retAddr 0), (1, .ref 0), (2, .ref 36), (3, .ref 77), (4, .int (nI i))] [] h') : PW M_L_law N1 S1 Post 880 [(0, .retAddr 0), (1, .ref 0), (2, .ref 36), (3, .ref 77), (4, .int (nI i))] [] h := by
  obtain ⟨dn, ds, Q, ⟨l1, l2⟩, X1, R1⟩ := s_night I (hI hx 0 (i + 1)) (hI hx 0 (i + 2))
  refine px_aload_n d_L_law_880 rfl rfl ?_
  refine px_aload_nX d_L_law_881 rfl rfl ?_
  refine px_iload d_L_law_882 rfl ?_
  refine px_iconst (v := 1) d_L_law_884 (by decide) ?_
  refine px_iadd d_L_law_885 ?_
  refine px_sld d_L_law_886 hX (nI_add i 1) (by omega) hb ?_
  refine px_aload_nX d_L_law_887 rfl rfl ?_
  refine px_iload d_L_law_888 rfl ?_
  refine px_iconst (v := 2) d_L_law_890 (by decide) ?_
  refine px_iadd d_L_law_891 ?_
  refine px_sld d_L_law_892 hX (nI_add i 2) (by omega) hb ?_
  refine px_aload_n d_L_law_893 rfl rfl ?_
  refine px_callSWX X1 d_L_law_894 lk_L_95 ow_L_night rfl (Nat.le_of_ble_eq_true rfl) (by decide) ⟨by omega, by omega⟩ (fun r1 h1 q1 n1 s1 => ?_)
  obtain ⟨hL1, kk1, Q2, rfl, X2, R2⟩ := R1 r1 h1 q1 n1 s1
  refine px_istore d_L_law_897 (by decide) ?_
  refine px_aload_n d_L_law_899 rfl rfl ?_
  refine px_aload_nX d_L_law_900 rfl rfl ?_
  refine px_iload d_L_law_901 rfl ?_
  refine px_iconst (v := 1) d_L_law_903 (by decide) ?_
  refine px_iadd d_L_law_904 ?_
  refine px_sld d_L_law_905 hX (nI_add i 1) (by omega) hb ?_
  refine px_aload_nX d_L_law_906 rfl rfl ?_
  refine px_iload d_L_law_907 rfl ?_
  refine px_iconst (v := 2) d_L_law_909 (by decide) ?_
  refine px_iadd d_L_law_910 ?_
  refine px_sld d_L_law_911 hX (nI_add i 2) (by omega) hb ?_
  refine px_callVX X2 d_L_law_912 lk_L_98 ok_X12_night ov_X12_night (so36 hL1) (by decide) rfl rfl (Nat.le_of_ble_eq_true rfl) (by decide) ⟨by omega, by omega⟩ (fun r2 h2 q2 n2 s2 => ?_)
  obtain ⟨b, rfl, e0, e1, I2⟩ := R2 r2 h2 q2
  refine px_istore d_L_law_915 (by decide) ?_
  refine px_aload_n d_L_law_917 rfl rfl ?_
  refine px_callV (c_X12_thrown I2.1) d_L_law_918 lk_L_63 ok_X12_thrown ov_X12_thrown (so36 I2.1) (by decide) rfl rfl (Nat.le_of_ble_eq_true rfl) (by decide) ⟨by omega, by omega⟩ ?_
  refine px_iload d_L_law_921 rfl ?_
  refine px_icmp_eq (tgt := 928) d_L_law_923 (by decide) (fun _ => ?_) (fun z => absurd e0 z)
  refine px_iload d_L_law_928 rfl ?_
  refine px_if_ne (tgt := 945) d_L_law_930 (by decide) (fun _ => ?_) (fun z0 => ?_)
  · refine px_goto (tgt := 1141) d_L_law_945 (by decide) ?_
    refine px_drop (lv' := [(0, .retAddr 0), (1, .ref 0), (2, .ref 36), (3, .ref 77), (4, .int (nI i))]) ⟨rfl, rfl, rfl, rfl, rfl, trivial⟩ ?_
    exact kk h2 I2 (by omega) (by omega)
  · refine px_aload_n d_L_law_933 rfl rfl ?_
    refine px_iconst (v := 0) d_L_law_934 (by decide) ?_
    refine px_lald (j := 0) d_L_law_935 (sa77 I2.1) rfl (by decide) ?_
    refine px_iload d_L_law_936 rfl ?_
    refine px_i2l d_L_law_938 ?_
    refine px_lcmp d_L_law_939 ?_
    refine px_if_eq (tgt := 945) d_L_law_940 (by decide) (fun _ => ?_) (fun z => absurd ((lg_eq _ _).mpr (e1 z0)) z)
    refine px_goto (tgt := 1141) d_L_law_945 (by decide) ?_
    refine px_drop (lv' := [(0, .retAddr 0), (1, .ref 0), (2, .ref 36), (3, .ref 77), (4, .int (nI i))]) ⟨rfl, rfl, rfl, rfl, rfl, trivial⟩ ?_
    exact kk h2 I2 (by omega) (by omega)
theorem lw_coin (I : INV h) (hX : Post 2 none hx) (hl : i + 7 ≤ hn hx) (hb : hn hx ≤ 1000000) (hN : hn h + 3 ≤ N1 ∧ hs h + 603 ≤ S1) (kk : ∀ h', INV h' → hn h' ≤ hn h + 3 → hs h' ≤ hs h + 603 → PW M_L_law N1 S1 Post 1141 [(0, .retAddr 0), (1, .ref 0), (2, .ref 36), (3, .ref 77), (4, .int (nI i))] [] h') : PW M_L_law N1 S1 Post 948 [(0, .retAddr 0), (1, .ref 0), (2, .ref 36), (3, .ref 77), (4, .int (nI i))] [] h := by
  obtain ⟨dn, ds, Q, ⟨l1, l2⟩, X1, R1⟩ := s_coin I (hI hx 0 (i + 1))
  refine px_aload_n d_L_law_948 rfl rfl ?_
  refine px_aload_nX d_L_law_949 rfl rfl ?_
  refine px_iload d_L_law_950 rfl ?_
  refine px_iconst (v := 1) d_L_law_952 (by decide) ?_
  refine px_iadd d_L_law_953 ?_
  refine px_sld d_L_law_954 hX (nI_add i 1) (by omega) hb ?_
  refine px_aload_n d_L_law_955 rfl rfl ?_
  refine px_callSWX X1 d_L_law_956 lk_L_99 ow_L_coin rfl (Nat.le_of_ble_eq_true rfl) (by decide) ⟨by omega, by omega⟩ (fun r1 h1 q1 n1 s1 => ?_)
  obtain ⟨hL1, kk1, Q2, rfl, X2, R2⟩ := R1 r1 h1 q1 n1 s1
  refine px_istore d_L_law_959 (by decide) ?_
  refine px_aload_n d_L_law_961 rfl rfl ?_
  refine px_aload_nX d_L_law_962 rfl rfl ?_
  refine px_iload d_L_law_963 rfl ?_
  refine px_iconst (v := 1) d_L_law_965 (by decide) ?_
  refine px_iadd d_L_law_966 ?_
  refine px_sld d_L_law_967 hX (nI_add i 1) (by omega) hb ?_
  refine px_callVX X2 d_L_law_968 lk_L_101 ok_X12_coin ov_X12_coin (so36 hL1) (by decide) rfl rfl (Nat.le_of_ble_eq_true rfl) (by decide) ⟨by omega, by omega⟩ (fun r2 h2 q2 n2 s2 => ?_)
  obtain ⟨b, rfl, e0, e1, I2⟩ := R2 r2 h2 q2
  refine px_istore d_L_law_971 (by decide) ?_
  refine px_aload_n d_L_law_973 rfl rfl ?_
  refine px_callV (c_X12_thrown I2.1) d_L_law_974 lk_L_63 ok_X12_thrown ov_X12_thrown (so36 I2.1) (by decide) rfl rfl (Nat.le_of_ble_eq_true rfl) (by decide) ⟨by omega, by omega⟩ ?_
  refine px_iload d_L_law_977 rfl ?_
  refine px_icmp_eq (tgt := 984) d_L_law_979 (by decide) (fun _ => ?_) (fun z => absurd e0 z)
  refine px_iload d_L_law_984 rfl ?_
  refine px_if_ne (tgt := 1001) d_L_law_986 (by decide) (fun _ => ?_) (fun z0 => ?_)
  · refine px_goto (tgt := 1141) d_L_law_1001 (by decide) ?_
    refine px_drop (lv' := [(0, .retAddr 0), (1, .ref 0), (2, .ref 36), (3, .ref 77), (4, .int (nI i))]) ⟨rfl, rfl, rfl, rfl, rfl, trivial⟩ ?_
    exact kk h2 I2 (by omega) (by omega)
  · refine px_aload_n d_L_law_989 rfl rfl ?_
    refine px_iconst (v := 0) d_L_law_990 (by decide) ?_
    refine px_lald (j := 0) d_L_law_991 (sa77 I2.1) rfl (by decide) ?_
    refine px_iload d_L_law_992 rfl ?_
    refine px_i2l d_L_law_994 ?_
    refine px_lcmp d_L_law_995 ?_
    refine px_if_eq (tgt := 1001) d_L_law_996 (by decide) (fun _ => ?_) (fun z => absurd ((lg_eq _ _).mpr (e1 z0)) z)
    refine px_goto (tgt := 1141) d_L_law_1001 (by decide) ?_
    refine px_drop (lv' := [(0, .retAddr 0), (1, .ref 0), (2, .ref 36), (3, .ref 77), (4, .int (nI i))]) ⟨rfl, rfl, rfl, rfl, rfl, trivial⟩ ?_
    exact kk h2 I2 (by omega) (by omega)
theorem lw_holding (I : INV h) (hX : Post 2 none hx) (hl : i + 7 ≤ hn hx) (hb : hn hx ≤ 1000000) (hN : hn h + 3 ≤ N1 ∧ hs h + 603 ≤ S1) (kk : ∀ h', INV h' → hn h' ≤ hn h + 3 → hs h' ≤ hs h + 603 → PW M_L_law N1 S1 Post 1141 [(0, .retAddr 0), (1, .ref 0), (2, .ref 36), (3, .ref 77), (4, .int (nI i))] [] h') : PW M_L_law N1 S1 Post 1004 [(0, .retAddr 0), (1, .ref 0), (2, .ref 36), (3, .ref 77), (4, .int (nI i))] [] h := by
  obtain ⟨dn, ds, Q, ⟨l1, l2⟩, X1, R1⟩ := s_holding I (hI hx 0 (i + 1)) (hI hx 0 (i + 2))
  refine px_aload_n d_L_law_1004 rfl rfl ?_
  refine px_aload_nX d_L_law_1005 rfl rfl ?_
  refine px_iload d_L_law_1006 rfl ?_
  refine px_iconst (v := 1) d_L_law_1008 (by decide) ?_
  refine px_iadd d_L_law_1009 ?_
  refine px_sld d_L_law_1010 hX (nI_add i 1) (by omega) hb ?_
  refine px_aload_nX d_L_law_1011 rfl rfl ?_
  refine px_iload d_L_law_1012 rfl ?_
  refine px_iconst (v := 2) d_L_law_1014 (by decide) ?_
  refine px_iadd d_L_law_1015 ?_
  refine px_sld d_L_law_1016 hX (nI_add i 2) (by omega) hb ?_
  refine px_callVX X1 d_L_law_1017 lk_L_102 ok_X11_holding ov_X11_holding (so0 I.1) (by decide) rfl rfl (Nat.le_of_ble_eq_true rfl) (by decide) ⟨by omega, by omega⟩ (fun r1 h1 q1 n1 s1 => ?_)
  obtain ⟨hL1, v, Q2, rfl, X2, R2⟩ := R1 r1 h1 q1 n1 s1
  refine px_aload_n d_L_law_1020 rfl rfl ?_
  refine px_aload_nX d_L_law_1021 rfl rfl ?_
  refine px_iload d_L_law_1022 rfl ?_
  refine px_iconst (v := 1) d_L_law_1024 (by decide) ?_
  refine px_iadd d_L_law_1025 ?_
  refine px_sld d_L_law_1026 hX (nI_add i 1) (by omega) hb ?_
  refine px_aload_nX d_L_law_1027 rfl rfl ?_
  refine px_iload d_L_law_1028 rfl ?_
  refine px_iconst (v := 2) d_L_law_1030 (by decide) ?_
  refine px_iadd d_L_law_1031 ?_
  refine px_sld d_L_law_1032 hX (nI_add i 2) (by omega) hb ?_
  refine px_callVX X2 d_L_law_1033 lk_L_105 ok_X12_holding ov_X12_holding (so36 hL1) (by decide) rfl rfl (Nat.le_of_ble_eq_true rfl) (by decide) ⟨by omega, by omega⟩ (fun r2 h2 q2 n2 s2 => ?_)
  obtain ⟨rfl, I2⟩ := R2 r2 h2 q2
  refine px_icmp_eq (tgt := 1141) d_L_law_1036 (by decide) (fun _ => ?_) (fun z => absurd rfl z)
  exact kk h2 I2 (by omega) (by omega)
theorem lw_need (I : INV h) (hX : Post 2 none hx) (hl : i + 7 ≤ hn hx) (hb : hn hx ≤ 1000000) (hN : hn h + 3 ≤ N1 ∧ hs h + 603 ≤ S1) (kk : ∀ h', INV h' → hn h' ≤ hn h + 3 → hs h' ≤ hs h + 603 → PW M_L_law N1 S1 Post 1141 [(0, .retAddr 0), (1, .ref 0), (2, .ref 36), (3, .ref 77), (4, .int (nI i))] [] h') : PW M_L_law N1 S1 Post 1041 [(0, .retAddr 0), (1, .ref 0), (2, .ref 36), (3, .ref 77), (4, .int (nI i))] [] h := by
  obtain ⟨dn, ds, Q, ⟨l1, l2⟩, X1, R1⟩ := s_need I (hI hx 0 (i + 1)) (hI hx 0 (i + 2))
  refine px_aload_n d_L_law_1041 rfl rfl ?_
  refine px_aload_nX d_L_law_1042 rfl rfl ?_
  refine px_iload d_L_law_1043 rfl ?_
  refine px_iconst (v := 1) d_L_law_1045 (by decide) ?_
  refine px_iadd d_L_law_1046 ?_
  refine px_sld d_L_law_1047 hX (nI_add i 1) (by omega) hb ?_
  refine px_aload_nX d_L_law_1048 rfl rfl ?_
  refine px_iload d_L_law_1049 rfl ?_
  refine px_iconst (v := 2) d_L_law_1051 (by decide) ?_
  refine px_iadd d_L_law_1052 ?_
  refine px_sld d_L_law_1053 hX (nI_add i 2) (by omega) hb ?_
  refine px_callVX X1 d_L_law_1054 lk_L_106 ok_X11_need ov_X11_need (so0 I.1) (by decide) rfl rfl (Nat.le_of_ble_eq_true rfl) (by decide) ⟨by omega, by omega⟩ (fun r1 h1 q1 n1 s1 => ?_)
  obtain ⟨hL1, v, Q2, rfl, X2, R2⟩ := R1 r1 h1 q1 n1 s1
  refine px_aload_n d_L_law_1057 rfl rfl ?_
  refine px_aload_nX d_L_law_1058 rfl rfl ?_
  refine px_iload d_L_law_1059 rfl ?_
  refine px_iconst (v := 1) d_L_law_1061 (by decide) ?_
  refine px_iadd d_L_law_1062 ?_
  refine px_sld d_L_law_1063 hX (nI_add i 1) (by omega) hb ?_
  refine px_aload_nX d_L_law_1064 rfl rfl ?_
  refine px_iload d_L_law_1065 rfl ?_
  refine px_iconst (v := 2) d_L_law_1067 (by decide) ?_
  refine px_iadd d_L_law_1068 ?_
  refine px_sld d_L_law_1069 hX (nI_add i 2) (by omega) hb ?_
  refine px_callVX X2 d_L_law_1070 lk_L_109 ok_X12_need ov_X12_need (so36 hL1) (by decide) rfl rfl (Nat.le_of_ble_eq_true rfl) (by decide) ⟨by omega, by omega⟩ (fun r2 h2 q2 n2 s2 => ?_)
  obtain ⟨rfl, I2⟩ := R2 r2 h2 q2
  refine px_icmp_eq (tgt := 1141) d_L_law_1073 (by decide) (fun _ => ?_) (fun z => absurd rfl z)
  exact kk h2 I2 (by omega) (by omega)
theorem lw_best (I : INV h) (hX : Post 2 none hx) (hl : i + 7 ≤ hn hx) (hb : hn hx ≤ 1000000) (hN : hn h + 3 ≤ N1 ∧ hs h + 603 ≤ S1) (kk : ∀ h', INV h' → hn h' ≤ hn h + 3 → hs h' ≤ hs h + 603 → PW M_L_law N1 S1 Post 1141 [(0, .retAddr 0), (1, .ref 0), (2, .ref 36), (3, .ref 77), (4, .int (nI i))] [] h') : PW M_L_law N1 S1 Post 1078 [(0, .retAddr 0), (1, .ref 0), (2, .ref 36), (3, .ref 77), (4, .int (nI i))] [] h := by
  obtain ⟨dn, ds, Q, ⟨l1, l2⟩, X1, R1⟩ := s_best I 
  refine px_aload_n d_L_law_1078 rfl rfl ?_
  refine px_callVX X1 d_L_law_1079 lk_L_110 ok_X11_best ov_X11_best (so0 I.1) (by decide) rfl rfl (Nat.le_of_ble_eq_true rfl) (by decide) ⟨by omega, by omega⟩ (fun r1 h1 q1 n1 s1 => ?_)
  obtain ⟨hL1, v, Q2, rfl, X2, R2⟩ := R1 r1 h1 q1 n1 s1
  refine px_aload_n d_L_law_1082 rfl rfl ?_
  refine px_callVX X2 d_L_law_1083 lk_L_113 ok_X12_best ov_X12_best (so36 hL1) (by decide) rfl rfl (Nat.le_of_ble_eq_true rfl) (by decide) ⟨by omega, by omega⟩ (fun r2 h2 q2 n2 s2 => ?_)
  obtain ⟨rfl, I2⟩ := R2 r2 h2 q2
  refine px_icmp_eq (tgt := 1141) d_L_law_1086 (by decide) (fun _ => ?_) (fun z => absurd rfl z)
  exact kk h2 I2 (by omega) (by omega)
theorem lw_sold (I : INV h) (hX : Post 2 none hx) (hl : i + 7 ≤ hn hx) (hb : hn hx ≤ 1000000) (hN : hn h + 3 ≤ N1 ∧ hs h + 603 ≤ S1) (kk : ∀ h', INV h' → hn h' ≤ hn h + 3 → hs h' ≤ hs h + 603 → PW M_L_law N1 S1 Post 1141 [(0, .retAddr 0), (1, .ref 0), (2, .ref 36), (3, .ref 77), (4, .int (nI i))] [] h') : PW M_L_law N1 S1 Post 1091 [(0, .retAddr 0), (1, .ref 0), (2, .ref 36), (3, .ref 77), (4, .int (nI i))] [] h := by
  obtain ⟨dn, ds, Q, ⟨l1, l2⟩, X1, R1⟩ := s_sold I (hI hx 0 (i + 1))
  refine px_aload_n d_L_law_1091 rfl rfl ?_
  refine px_aload_nX d_L_law_1092 rfl rfl ?_
  refine px_iload d_L_law_1093 rfl ?_
  refine px_iconst (v := 1) d_L_law_1095 (by decide) ?_
  refine px_iadd d_L_law_1096 ?_
  refine px_sld d_L_law_1097 hX (nI_add i 1) (by omega) hb ?_
  refine px_callVX X1 d_L_law_1098 lk_L_114 ok_X11_sold ov_X11_sold (so0 I.1) (by decide) rfl rfl (Nat.le_of_ble_eq_true rfl) (by decide) ⟨by omega, by omega⟩ (fun r1 h1 q1 n1 s1 => ?_)
  obtain ⟨hL1, v, Q2, rfl, X2, R2⟩ := R1 r1 h1 q1 n1 s1
  refine px_aload_n d_L_law_1101 rfl rfl ?_
  refine px_aload_nX d_L_law_1102 rfl rfl ?_
  refine px_iload d_L_law_1103 rfl ?_
  refine px_iconst (v := 1) d_L_law_1105 (by decide) ?_
  refine px_iadd d_L_law_1106 ?_
  refine px_sld d_L_law_1107 hX (nI_add i 1) (by omega) hb ?_
  refine px_callVX X2 d_L_law_1108 lk_L_117 ok_X12_sold ov_X12_sold (so36 hL1) (by decide) rfl rfl (Nat.le_of_ble_eq_true rfl) (by decide) ⟨by omega, by omega⟩ (fun r2 h2 q2 n2 s2 => ?_)
  obtain ⟨rfl, I2⟩ := R2 r2 h2 q2
  refine px_icmp_eq (tgt := 1141) d_L_law_1111 (by decide) (fun _ => ?_) (fun z => absurd rfl z)
  exact kk h2 I2 (by omega) (by omega)
theorem lw_count (I : INV h) (hX : Post 2 none hx) (hl : i + 7 ≤ hn hx) (hb : hn hx ≤ 1000000) (hN : hn h + 3 ≤ N1 ∧ hs h + 603 ≤ S1) (kk : ∀ h', INV h' → hn h' ≤ hn h + 3 → hs h' ≤ hs h + 603 → PW M_L_law N1 S1 Post 1141 [(0, .retAddr 0), (1, .ref 0), (2, .ref 36), (3, .ref 77), (4, .int (nI i))] [] h') : PW M_L_law N1 S1 Post 1116 [(0, .retAddr 0), (1, .ref 0), (2, .ref 36), (3, .ref 77), (4, .int (nI i))] [] h := by
  obtain ⟨dn, ds, Q, ⟨l1, l2⟩, X1, R1⟩ := s_count I (hI hx 0 (i + 1))
  refine px_aload_n d_L_law_1116 rfl rfl ?_
  refine px_aload_nX d_L_law_1117 rfl rfl ?_
  refine px_iload d_L_law_1118 rfl ?_
  refine px_iconst (v := 1) d_L_law_1120 (by decide) ?_
  refine px_iadd d_L_law_1121 ?_
  refine px_sld d_L_law_1122 hX (nI_add i 1) (by omega) hb ?_
  refine px_callVX X1 d_L_law_1123 lk_L_118 ok_X11_count ov_X11_count (so0 I.1) (by decide) rfl rfl (Nat.le_of_ble_eq_true rfl) (by decide) ⟨by omega, by omega⟩ (fun r1 h1 q1 n1 s1 => ?_)
  obtain ⟨hL1, v, Q2, rfl, X2, R2⟩ := R1 r1 h1 q1 n1 s1
  refine px_aload_n d_L_law_1126 rfl rfl ?_
  refine px_aload_nX d_L_law_1127 rfl rfl ?_
  refine px_iload d_L_law_1128 rfl ?_
  refine px_iconst (v := 1) d_L_law_1130 (by decide) ?_
  refine px_iadd d_L_law_1131 ?_
  refine px_sld d_L_law_1132 hX (nI_add i 1) (by omega) hb ?_
  refine px_callVX X2 d_L_law_1133 lk_L_121 ok_X12_count ov_X12_count (so36 hL1) (by decide) rfl rfl (Nat.le_of_ble_eq_true rfl) (by decide) ⟨by omega, by omega⟩ (fun r2 h2 q2 n2 s2 => ?_)
  obtain ⟨rfl, I2⟩ := R2 r2 h2 q2
  refine px_icmp_eq (tgt := 1141) d_L_law_1136 (by decide) (fun _ => ?_) (fun z => absurd rfl z)
  exact kk h2 I2 (by omega) (by omega)
theorem lt7 {L i : Nat} (hL : L ≤ 3584) (hi : i ≤ 4000) : nI L - 7 < nI i ↔ L < i + 7 := by
  rw [Int32.lt_iff_toInt_lt, Int32.toInt_sub, nI_toInt (by omega), nI_toInt (by omega), show (7 : Int32).toInt = 7 by decide, Int.bmod_eq_of_le (by omega) (by omega)]
  omega
theorem nI_and31 (x : Int32) : ∃ c, c < 32 ∧ x &&& 31 = nI c := by
  refine ⟨(x.toBitVec &&& 31#32).toNat, ?_, ?_⟩
  · rw [BitVec.toNat_and]
    have := Nat.and_le_right (n := x.toBitVec.toNat) (m := (31#32).toNat)
    have e : (31#32).toNat = 31 := by decide
    omega
  · apply Int32.toBitVec_inj.mp
    rw [Int32.toBitVec_and]
    show x.toBitVec &&& 31#32 = BitVec.ofNat 32 (x.toBitVec &&& 31#32).toNat
    rw [BitVec.ofNat_toNat, BitVec.setWidth_eq]
theorem lw_body (I : INV h) (hX : Post 2 none hx) (hl : i + 7 ≤ hn hx) (hb : hn hx ≤ 1000000) (hN : hn h + 3 ≤ N1 ∧ hs h + 603 ≤ S1) (kk : ∀ h', INV h' → hn h' ≤ hn h + 3 → hs h' ≤ hs h + 603 → PW M_L_law N1 S1 Post 1141 [(0, .retAddr 0), (1, .ref 0), (2, .ref 36), (3, .ref 77), (4, .int (nI i))] [] h') : PW M_L_law N1 S1 Post 33 [(0, .retAddr 0), (1, .ref 0), (2, .ref 36), (3, .ref 77), (4, .int (nI i))] [] h := by
  refine px_aload_nX d_L_law_33 rfl rfl ?_
  refine px_iload d_L_law_34 rfl ?_
  refine px_sld d_L_law_36 hX rfl (by omega) hb ?_
  refine px_bipush (v := 31) d_L_law_37 (by decide) ?_
  refine px_iand d_L_law_39 ?_
  obtain ⟨c, hc, e⟩ := nI_and31 (hI hx 0 i)
  rw [e]
  by_cases h20 : c < 20
  · have hcs : c = 0 ∨ c = 1 ∨ c = 2 ∨ c = 3 ∨ c = 4 ∨ c = 5 ∨ c = 6 ∨ c = 7 ∨ c = 8 ∨ c = 9 ∨ c = 10 ∨ c = 11 ∨ c = 12 ∨ c = 13 ∨ c = 14 ∨ c = 15 ∨ c = 16 ∨ c = 17 ∨ c = 18 ∨ c = 19 := by omega
    rcases hcs with hcc | hcc | hcc | hcc | hcc | hcc | hcc | hcc | hcc | hcc | hcc | hcc | hcc | hcc | hcc | hcc | hcc | hcc | hcc | hcc <;> subst hcc
    · exact px_tabI (off := 96) (tgt := 136) d_L_law_40 (by decide) (by decide) (by decide) (by decide) (lw_account I hX hl hb hN kk)
    · exact px_tabI (off := 133) (tgt := 173) d_L_law_40 (by decide) (by decide) (by decide) (by decide) (lw_days I hX hl hb hN kk)
    · exact px_tabI (off := 158) (tgt := 198) d_L_law_40 (by decide) (by decide) (by decide) (by decide) (lw_post I hX hl hb hN kk)
    · exact px_tabI (off := 219) (tgt := 259) d_L_law_40 (by decide) (by decide) (by decide) (by decide) (lw_feed I hX hl hb hN kk)
    · exact px_tabI (off := 366) (tgt := 406) d_L_law_40 (by decide) (by decide) (by decide) (by decide) (lw_text I hX hl hb hN kk)
    · exact px_tabI (off := 391) (tgt := 431) d_L_law_40 (by decide) (by decide) (by decide) (by decide) (lw_balance I hX hl hb hN kk)
    · exact px_tabI (off := 471) (tgt := 511) d_L_law_40 (by decide) (by decide) (by decide) (by decide) (lw_interest I hX hl hb hN kk)
    · exact px_tabI (off := 551) (tgt := 591) d_L_law_40 (by decide) (by decide) (by decide) (by decide) (lw_may I hX hl hb hN kk)
    · exact px_tabI (off := 600) (tgt := 640) d_L_law_40 (by decide) (by decide) (by decide) (by decide) (lw_draw I hX hl hb hN kk)
    · exact px_tabI (off := 661) (tgt := 701) d_L_law_40 (by decide) (by decide) (by decide) (by decide) (lw_notice I hX hl hb hN kk)
    · exact px_tabI (off := 698) (tgt := 738) d_L_law_40 (by decide) (by decide) (by decide) (by decide) (lw_write I hX hl hb hN kk)
    · exact px_tabI (off := 747) (tgt := 787) d_L_law_40 (by decide) (by decide) (by decide) (by decide) (lw_compare I hX hl hb hN kk)
    · exact px_tabI (off := 784) (tgt := 824) d_L_law_40 (by decide) (by decide) (by decide) (by decide) (lw_settle I hX hl hb hN kk)
    · exact px_tabI (off := 840) (tgt := 880) d_L_law_40 (by decide) (by decide) (by decide) (by decide) (lw_night I hX hl hb hN kk)
    · exact px_tabI (off := 908) (tgt := 948) d_L_law_40 (by decide) (by decide) (by decide) (by decide) (lw_coin I hX hl hb hN kk)
    · exact px_tabI (off := 964) (tgt := 1004) d_L_law_40 (by decide) (by decide) (by decide) (by decide) (lw_holding I hX hl hb hN kk)
    · exact px_tabI (off := 1001) (tgt := 1041) d_L_law_40 (by decide) (by decide) (by decide) (by decide) (lw_need I hX hl hb hN kk)
    · exact px_tabI (off := 1038) (tgt := 1078) d_L_law_40 (by decide) (by decide) (by decide) (by decide) (lw_best I hX hl hb hN kk)
    · exact px_tabI (off := 1051) (tgt := 1091) d_L_law_40 (by decide) (by decide) (by decide) (by decide) (lw_sold I hX hl hb hN kk)
    · exact px_tabI (off := 1076) (tgt := 1116) d_L_law_40 (by decide) (by decide) (by decide) (by decide) (lw_count I hX hl hb hN kk)
  · refine px_tabO (tgt := 1141) d_L_law_40 (Or.inr ?_) (by decide) (kk h I (by omega) (by omega))
    rw [nI_toInt (by omega)]
    omega
set_option maxRecDepth 100000 in
theorem lw_loop (hX : Post 2 none hx) (hb : hn hx ≤ 3584) (hP : ∀ g, Post 0 (some (.int 1)) g) : ∀ (k i : Nat) (h : PH), INV h → hn hx < i + 7 * k + 7 → i ≤ 4000 → hn h + 3 * k ≤ N1 → hs h + 603 * k ≤ S1 → PW M_L_law N1 S1 Post 23 [(0, .retAddr 0), (1, .ref 0), (2, .ref 36), (3, .ref 77), (4, .int (nI i))] [] h := by
  intro k
  induction k with
  | zero =>
    intro i h I h1 h2 h3 h4
    refine px_iload d_L_law_23 rfl ?_
    refine px_aload_nX d_L_law_25 rfl rfl ?_
    refine px_slen d_L_law_26 hX ?_
    refine px_bipush (v := 7) d_L_law_27 (by decide) ?_
    refine px_isub d_L_law_29 ?_
    refine px_icmp_gt (tgt := 1147) d_L_law_30 (by decide) (fun z => ?_) (fun z => absurd ((lt7 hb h2).mpr (by omega)) z)
    refine px_iconst (v := 1) d_L_law_1147 (by decide) ?_
    exact px_ireturn d_L_law_1148 rfl rfl (hP _)
  | succ k ih =>
    intro i h I h1 h2 h3 h4
    refine px_iload d_L_law_23 rfl ?_
    refine px_aload_nX d_L_law_25 rfl rfl ?_
    refine px_slen d_L_law_26 hX ?_
    refine px_bipush (v := 7) d_L_law_27 (by decide) ?_
    refine px_isub d_L_law_29 ?_
    refine px_icmp_gt (tgt := 1147) d_L_law_30 (by decide) (fun z => ?_) (fun z => ?_)
    · refine px_iconst (v := 1) d_L_law_1147 (by decide) ?_
      exact px_ireturn d_L_law_1148 rfl rfl (hP _)
    · have hi : i + 7 ≤ hn hx := Nat.le_of_not_lt fun y => z ((lt7 hb h2).mpr y)
      refine lw_body I hX hi (by omega) ⟨by omega, by omega⟩ (fun h' I' n' s' => ?_)
      refine px_iinc d_L_law_1141 rfl (nI_add i 7) (by decide) ?_
      refine px_goto (tgt := 23) d_L_law_1144 (by decide) ?_
      refine px_drop (lv' := [(0, .retAddr 0), (1, .ref 0), (2, .ref 36), (3, .ref 77), (4, .int (nI (i + 7)))]) ⟨rfl, rfl, rfl, rfl, rfl, trivial⟩ ?_
      exact ih (i + 7) h' I' (by omega) (by omega) (by omega) (by omega)
set_option maxRecDepth 100000 in
theorem lw_main (hX : Post 2 none hx) (hb : hn hx ≤ 3584) (hP : ∀ g, Post 0 (some (.int 1)) g) (hN : 2000 ≤ N1) (hS : 400000 ≤ S1) : PW M_L_law N1 S1 Post 0 [(0, .retAddr 0)] [] e00 := by
  have n0 : hn e00 = 0 := rfl
  have s0 : hs e00 = 0 := rfl
  have nC : hn eC = 36 := eC_n.1
  have nO : hn eO = 78 := eO_n
  have sO : hs eO ≤ 40000 := eO_s
  have sC : hs eC ≤ 40000 := by decide +kernel
  have sM : hs eM ≤ 40000 := by decide +kernel
  have nM : hn eM = 77 := by decide +kernel
  have nM0 : hn eM0 ≤ 37 := by decide +kernel
  have sM0 : hs eM0 ≤ 40000 := by decide +kernel
  have k11 : (px_CT 11).2.2 ≤ 40000 := by decide +kernel
  refine px_new (ci := 11) d_L_law_0 (by decide) cc_L_8 in_X11 ii_X11 (by omega) (by omega) ?_
  refine px_dup d_L_law_3 rfl ?_
  refine px_callI (c_X11_init) d_L_law_4 lk_L_29 ok_X11_init oi_X11_init rfl rfl (Nat.le_of_ble_eq_true rfl) (by decide) ⟨?_, ?_⟩ ?_
  · show hn eC ≤ N1
    omega
  · show hs eC ≤ S1
    omega
  refine px_astore_n d_L_law_7 rfl (by decide) ?_
  refine px_new (ci := 12) d_L_law_8 (by decide) cc_L_30 in_X12 ii_X12 ?_ ?_ ?_
  · show hn eC + 1 ≤ N1
    omega
  · show hs eM0 ≤ S1
    omega
  refine px_dup d_L_law_11 rfl ?_
  refine px_callI (h' := eM) (k := 36) (h := eM0) (eM_c) d_L_law_12 lk_L_32 ok_X12_init oi_X12_init rfl rfl (Nat.le_of_ble_eq_true rfl) (by decide) ⟨by omega, by omega⟩ ?_
  refine px_astore_n d_L_law_15 rfl (by decide) ?_
  refine px_iconst (v := 1) d_L_law_16 (by decide) ?_
  refine px_newJ (len := 1) d_L_law_17 ac_long (by decide) (by decide) (by omega) (by omega) ?_
  refine px_astore_n d_L_law_19 rfl (by decide) ?_
  refine px_iconst (v := 0) d_L_law_20 (by decide) ?_
  refine px_istore d_L_law_21 (by decide) ?_
  refine px_heap (h2 := eO) rfl ?_
  rw [nM]
  refine px_drop (lv' := [(0, .retAddr 0), (1, .ref 0), (2, .ref 36), (3, .ref 77), (4, .int (nI 0))]) ⟨rfl, rfl, rfl, rfl, rfl, trivial⟩ ?_
  exact lw_loop hX hb hP 512 0 eO eO_I (by omega) (by omega) (by omega) (Nat.le_trans (Nat.add_le_add_right sO (603 * 512)) (Nat.le_trans (by decide : 40000 + 603 * 512 ≤ 400000) hS))
end LAW
