set_option maxHeartbeats 4000000 in
set_option maxRecDepth 100000 in
theorem lc_tree {p : Program} {l : Launch} {e : Env} {s : State} {m : MethodId} {below : List Frame} {meth : Method} {c : Code} {H : Heap} {locs : List Loc} {cells slots : Nat} {Q : State → Prop} {G : va_G} {Y : Nat → ClassId} {b L : Nat} {xs : Nat → Int32} (X : lwX p s m meth c b L xs G Y) (hce : cells ≤ 600000 ∧ slots ≤ 7302249) {hv g9 : Nat} {u : svU} {af : Nat → Nat} {i : Nat} (hi : i + 4 ≤ L) {ls : Array Slot} (hl : lv_has ls 4 [(0, .ref b), (1, .ref hv), (2, .ref g9), (3, .int (iZ ((i : Nat) : Int)))]) {tx : Nat → Int} {ln : Nat} {pl : Nat} {su : Bool} {tk : Nat} {nu : Int} {K : Kom} {Kto : Kom} {Kt : Kom} {ix : Nat} {z : Nat} {E : Nat → Int} {C : Nat → Int} {M : Nat → Int} {T : Nat → Int} {n9 : Int} {tr : Int64} {kp : Nat → Int} {Ki : Nat → Kom} {Kk : Nat → Kom} {F : Nat → Int} {A : Kom} (hI : lwI tx ln tk K Kto ix z M T n9 kp Ki Kk F A) (hH : lwH G s (lwC Y hv g9 u af tx ln pl su tk nu K Kto Kt ix z E C M T n9 tr tr kp Ki Kk F A) H locs) (kk : lwK p l e s m below meth c cells slots Q G Y b hv g9 u af ls) : W p l e room_1 s m #[Value.ref b] below meth c H locs cells slots Q (F0 m 229 ls []) := by
  obtain ⟨hx, hb, hml, hown, hts, hX, hK⟩ := X
  obtain ⟨hP, hD, hS⟩ := hH
  have hbA : ¬ (fun q : Nat => s.heap.size ≤ q) b := Nat.not_le.mpr hX.2.1
  have i1 := hI.1
  have i2 := hI.2.1
  have i3 := hI.2.2.1
  have i4 := hI.2.2.2.1
  have i5 := hI.2.2.2.2.1
  have i6 := hI.2.2.2.2.2
  have hW := i2.1
  have hE := i2.2.1
  have hV := i2.2.2.1
  have h26 := i2.2.2.2
  have hno : F 26 < 0 := by omega
  have hKb := hW.1
  have hvb := mV_b hV
  have hk2 : K 0 2 = A 17 3 := hE.k2
  have hL9 := hX.2.2
  have ra1 := iZ_range (xs (i + 1))
  have ra2 := iZ_range (xs (i + 2))
  refine lv_aload_n hx hb dL_law_229 rfl (lv_at hl 1 rfl) ?_
  refine lv_aload_n hx hb dL_law_230 rfl (lv_at hl 0 rfl) ?_
  refine lv_iload_n hx hb dL_law_231 rfl (lv_at hl 3 rfl) ?_
  refine z_iconst hx hb dL_law_232 ?_
  refine z_iadd hx hb dL_law_233 ?_
  refine z_sld hx hb hX hbA hS (i + 1) (by omega) dL_law_234 ?_
  refine lv_aload_n hx hb dL_law_235 rfl (lv_at hl 0 rfl) ?_
  refine lv_iload_n hx hb dL_law_236 rfl (lv_at hl 3 rfl) ?_
  refine z_iconst hx hb dL_law_237 ?_
  refine z_iadd hx hb dL_law_238 ?_
  refine z_sld hx hb hX hbA hS (i + 2) (by omega) dL_law_239 ?_
  have hPc := va_P_l (va_P_pm (lw_pm (lwC Y hv g9 u af tx ln pl su tk nu K Kto Kt ix z E C M T n9 tr tr kp Ki Kk F A) (ps := [0, 2]) (by decide)) hP)
  refine ro_V (As := [.int (iZ (xs (i + 1)).toInt), .int (iZ (xs (i + 2)).toInt)]) (rest := []) ⟨hx, hb, hml, hown, hts⟩ (c_X6_tree l G Y hv (u.1 1) (u.1 2) (u.1 3) (u.1 4) (u.1 5) (u.1 6) (u.1 7) (u.1 8) (u.1 9) (u.2.1 0) K hW (xs (i + 1)).toInt (xs (i + 2)).toInt ⟨ra1, ra2⟩) (cwV 2 hts gL_law_X6_tree rfl rfl rfl (by decide +kernel) ⟨Nat.le_of_ble_eq_true rfl, Nat.le_of_ble_eq_true rfl⟩) hK hPc 0 rfl rfl rfl hl.1 rfl (Nat.le_of_ble_eq_true rfl) dL_law_240 hce ?_
  refine lv_aload_n hx hb dL_law_243 rfl (lv_at hl 2 rfl) ?_
  refine lv_aload_n hx hb dL_law_244 rfl (lv_at hl 0 rfl) ?_
  refine lv_iload_n hx hb dL_law_245 rfl (lv_at hl 3 rfl) ?_
  refine z_iconst hx hb dL_law_246 ?_
  refine z_iadd hx hb dL_law_247 ?_
  refine z_sld hx hb hX hbA hS (i + 1) (by omega) dL_law_248 ?_
  refine lv_aload_n hx hb dL_law_249 rfl (lv_at hl 0 rfl) ?_
  refine lv_iload_n hx hb dL_law_250 rfl (lv_at hl 3 rfl) ?_
  refine z_iconst hx hb dL_law_251 ?_
  refine z_iadd hx hb dL_law_252 ?_
  refine z_sld hx hb hX hbA hS (i + 2) (by omega) dL_law_253 ?_
  have hPc := va_P_l (va_P_pm (lw_pm (lwC Y hv g9 u af tx ln pl su tk nu K Kto Kt ix z E C M T n9 tr tr kp Ki Kk F A) (ps := [12]) (by decide)) hP)
  refine ro_V (As := [.int (iZ (xs (i + 1)).toInt), .int (iZ (xs (i + 2)).toInt)]) (rest := [.int (iZ (rTree K (xs (i + 1)).toInt (xs (i + 2)).toInt))]) ⟨hx, hb, hml, hown, hts⟩ (c_X7_tree l G Y g9 af F A tr hV hno (xs (i + 1)).toInt (xs (i + 2)).toInt ⟨ra1, ra2⟩) (cwV 2 hts gL_law_X7_tree rfl rfl rfl (by decide +kernel) ⟨Nat.le_of_ble_eq_true rfl, Nat.le_of_ble_eq_true rfl⟩) hK hPc 0 rfl rfl rfl hl.1 rfl (Nat.le_of_ble_eq_true rfl) dL_law_254 hce ?_
  refine z_cmpeq (tgt := 990) hx hb ((rTree_c hE _ _).symm) dL_law_257 (by decide) ?_
  exact kk tx ln pl su tk nu K Kto Kt ix z E C M T n9 tr kp Ki Kk F A H locs (hI) ⟨hP, hD, hS⟩

set_option maxHeartbeats 4000000 in
set_option maxRecDepth 100000 in
theorem lc_person {p : Program} {l : Launch} {e : Env} {s : State} {m : MethodId} {below : List Frame} {meth : Method} {c : Code} {H : Heap} {locs : List Loc} {cells slots : Nat} {Q : State → Prop} {G : va_G} {Y : Nat → ClassId} {b L : Nat} {xs : Nat → Int32} (X : lwX p s m meth c b L xs G Y) (hce : cells ≤ 600000 ∧ slots ≤ 7302249) {hv g9 : Nat} {u : svU} {af : Nat → Nat} {i : Nat} (hi : i + 4 ≤ L) {ls : Array Slot} (hl : lv_has ls 4 [(0, .ref b), (1, .ref hv), (2, .ref g9), (3, .int (iZ ((i : Nat) : Int)))]) {tx : Nat → Int} {ln : Nat} {pl : Nat} {su : Bool} {tk : Nat} {nu : Int} {K : Kom} {Kto : Kom} {Kt : Kom} {ix : Nat} {z : Nat} {E : Nat → Int} {C : Nat → Int} {M : Nat → Int} {T : Nat → Int} {n9 : Int} {tr : Int64} {kp : Nat → Int} {Ki : Nat → Kom} {Kk : Nat → Kom} {F : Nat → Int} {A : Kom} (hI : lwI tx ln tk K Kto ix z M T n9 kp Ki Kk F A) (hH : lwH G s (lwC Y hv g9 u af tx ln pl su tk nu K Kto Kt ix z E C M T n9 tr tr kp Ki Kk F A) H locs) (kk : lwK p l e s m below meth c cells slots Q G Y b hv g9 u af ls) : W p l e room_1 s m #[Value.ref b] below meth c H locs cells slots Q (F0 m 262 ls []) := by
  obtain ⟨hx, hb, hml, hown, hts, hX, hK⟩ := X
  obtain ⟨hP, hD, hS⟩ := hH
  have hbA : ¬ (fun q : Nat => s.heap.size ≤ q) b := Nat.not_le.mpr hX.2.1
  have i1 := hI.1
  have i2 := hI.2.1
  have i3 := hI.2.2.1
  have i4 := hI.2.2.2.1
  have i5 := hI.2.2.2.2.1
  have i6 := hI.2.2.2.2.2
  have hW := i2.1
  have hE := i2.2.1
  have hV := i2.2.2.1
  have h26 := i2.2.2.2
  have hno : F 26 < 0 := by omega
  have hKb := hW.1
  have hvb := mV_b hV
  have hk2 : K 0 2 = A 17 3 := hE.k2
  have hL9 := hX.2.2
  have ra1 := iZ_range (xs (i + 1))
  have ra2 := iZ_range (xs (i + 2))
  refine lv_aload_n hx hb dL_law_262 rfl (lv_at hl 1 rfl) ?_
  refine lv_aload_n hx hb dL_law_263 rfl (lv_at hl 0 rfl) ?_
  refine lv_iload_n hx hb dL_law_264 rfl (lv_at hl 3 rfl) ?_
  refine z_iconst hx hb dL_law_265 ?_
  refine z_iadd hx hb dL_law_266 ?_
  refine z_sld hx hb hX hbA hS (i + 1) (by omega) dL_law_267 ?_
  refine lv_aload_n hx hb dL_law_268 rfl (lv_at hl 0 rfl) ?_
  refine lv_iload_n hx hb dL_law_269 rfl (lv_at hl 3 rfl) ?_
  refine z_iconst hx hb dL_law_270 ?_
  refine z_iadd hx hb dL_law_271 ?_
  refine z_sld hx hb hX hbA hS (i + 2) (by omega) dL_law_272 ?_
  have hPc := va_P_l (va_P_pm (lw_pm (lwC Y hv g9 u af tx ln pl su tk nu K Kto Kt ix z E C M T n9 tr tr kp Ki Kk F A) (ps := [0, 2]) (by decide)) hP)
  refine ro_V (As := [.int (iZ (xs (i + 1)).toInt), .int (iZ (xs (i + 2)).toInt)]) (rest := []) ⟨hx, hb, hml, hown, hts⟩ (c_X6_person l G Y hv (u.1 1) (u.1 2) (u.1 3) (u.1 4) (u.1 5) (u.1 6) (u.1 7) (u.1 8) (u.1 9) (u.2.1 0) K hW (xs (i + 1)).toInt (xs (i + 2)).toInt ⟨ra1, ra2⟩) (cwV 2 hts gL_law_X6_person rfl rfl rfl (by decide +kernel) ⟨Nat.le_of_ble_eq_true rfl, Nat.le_of_ble_eq_true rfl⟩) hK hPc 0 rfl rfl rfl hl.1 rfl (Nat.le_of_ble_eq_true rfl) dL_law_273 hce ?_
  refine lv_aload_n hx hb dL_law_276 rfl (lv_at hl 2 rfl) ?_
  refine lv_aload_n hx hb dL_law_277 rfl (lv_at hl 0 rfl) ?_
  refine lv_iload_n hx hb dL_law_278 rfl (lv_at hl 3 rfl) ?_
  refine z_iconst hx hb dL_law_279 ?_
  refine z_iadd hx hb dL_law_280 ?_
  refine z_sld hx hb hX hbA hS (i + 1) (by omega) dL_law_281 ?_
  refine lv_aload_n hx hb dL_law_282 rfl (lv_at hl 0 rfl) ?_
  refine lv_iload_n hx hb dL_law_283 rfl (lv_at hl 3 rfl) ?_
  refine z_iconst hx hb dL_law_284 ?_
  refine z_iadd hx hb dL_law_285 ?_
  refine z_sld hx hb hX hbA hS (i + 2) (by omega) dL_law_286 ?_
  have hPc := va_P_l (va_P_pm (lw_pm (lwC Y hv g9 u af tx ln pl su tk nu K Kto Kt ix z E C M T n9 tr tr kp Ki Kk F A) (ps := [12]) (by decide)) hP)
  refine ro_V (As := [.int (iZ (xs (i + 1)).toInt), .int (iZ (xs (i + 2)).toInt)]) (rest := [.int (iZ (rPers K (xs (i + 1)).toInt (xs (i + 2)).toInt))]) ⟨hx, hb, hml, hown, hts⟩ (c_X7_person l G Y g9 af F A tr hV hno (xs (i + 1)).toInt (xs (i + 2)).toInt ⟨ra1, ra2⟩) (cwV 2 hts gL_law_X7_person rfl rfl rfl (by decide +kernel) ⟨Nat.le_of_ble_eq_true rfl, Nat.le_of_ble_eq_true rfl⟩) hK hPc 0 rfl rfl rfl hl.1 rfl (Nat.le_of_ble_eq_true rfl) dL_law_287 hce ?_
  refine z_cmpeq (tgt := 990) hx hb ((rPers_c hE _ _).symm) dL_law_290 (by decide) ?_
  exact kk tx ln pl su tk nu K Kto Kt ix z E C M T n9 tr kp Ki Kk F A H locs (hI) ⟨hP, hD, hS⟩

set_option maxHeartbeats 4000000 in
set_option maxRecDepth 100000 in
theorem lc_motion {p : Program} {l : Launch} {e : Env} {s : State} {m : MethodId} {below : List Frame} {meth : Method} {c : Code} {H : Heap} {locs : List Loc} {cells slots : Nat} {Q : State → Prop} {G : va_G} {Y : Nat → ClassId} {b L : Nat} {xs : Nat → Int32} (X : lwX p s m meth c b L xs G Y) (hce : cells ≤ 600000 ∧ slots ≤ 7302249) {hv g9 : Nat} {u : svU} {af : Nat → Nat} {i : Nat} (hi : i + 4 ≤ L) {ls : Array Slot} (hl : lv_has ls 4 [(0, .ref b), (1, .ref hv), (2, .ref g9), (3, .int (iZ ((i : Nat) : Int)))]) {tx : Nat → Int} {ln : Nat} {pl : Nat} {su : Bool} {tk : Nat} {nu : Int} {K : Kom} {Kto : Kom} {Kt : Kom} {ix : Nat} {z : Nat} {E : Nat → Int} {C : Nat → Int} {M : Nat → Int} {T : Nat → Int} {n9 : Int} {tr : Int64} {kp : Nat → Int} {Ki : Nat → Kom} {Kk : Nat → Kom} {F : Nat → Int} {A : Kom} (hI : lwI tx ln tk K Kto ix z M T n9 kp Ki Kk F A) (hH : lwH G s (lwC Y hv g9 u af tx ln pl su tk nu K Kto Kt ix z E C M T n9 tr tr kp Ki Kk F A) H locs) (kk : lwK p l e s m below meth c cells slots Q G Y b hv g9 u af ls) : W p l e room_1 s m #[Value.ref b] below meth c H locs cells slots Q (F0 m 295 ls []) := by
  obtain ⟨hx, hb, hml, hown, hts, hX, hK⟩ := X
  obtain ⟨hP, hD, hS⟩ := hH
  have hbA : ¬ (fun q : Nat => s.heap.size ≤ q) b := Nat.not_le.mpr hX.2.1
  have i1 := hI.1
  have i2 := hI.2.1
  have i3 := hI.2.2.1
  have i4 := hI.2.2.2.1
  have i5 := hI.2.2.2.2.1
  have i6 := hI.2.2.2.2.2
  have hW := i2.1
  have hE := i2.2.1
  have hV := i2.2.2.1
  have h26 := i2.2.2.2
  have hno : F 26 < 0 := by omega
  have hKb := hW.1
  have hvb := mV_b hV
  have hk2 : K 0 2 = A 17 3 := hE.k2
  have hL9 := hX.2.2
  have ra1 := iZ_range (xs (i + 1))
  have ra2 := iZ_range (xs (i + 2))
  refine lv_aload_n hx hb dL_law_295 rfl (lv_at hl 1 rfl) ?_
  refine lv_aload_n hx hb dL_law_296 rfl (lv_at hl 0 rfl) ?_
  refine lv_iload_n hx hb dL_law_297 rfl (lv_at hl 3 rfl) ?_
  refine z_iconst hx hb dL_law_298 ?_
  refine z_iadd hx hb dL_law_299 ?_
  refine z_sld hx hb hX hbA hS (i + 1) (by omega) dL_law_300 ?_
  refine lv_aload_n hx hb dL_law_301 rfl (lv_at hl 0 rfl) ?_
  refine lv_iload_n hx hb dL_law_302 rfl (lv_at hl 3 rfl) ?_
  refine z_iconst hx hb dL_law_303 ?_
  refine z_iadd hx hb dL_law_304 ?_
  refine z_sld hx hb hX hbA hS (i + 2) (by omega) dL_law_305 ?_
  have hPc := va_P_l (va_P_pm (lw_pm (lwC Y hv g9 u af tx ln pl su tk nu K Kto Kt ix z E C M T n9 tr tr kp Ki Kk F A) (ps := [0, 2]) (by decide)) hP)
  refine ro_V (As := [.int (iZ (xs (i + 1)).toInt), .int (iZ (xs (i + 2)).toInt)]) (rest := []) ⟨hx, hb, hml, hown, hts⟩ (c_X6_motion l G Y hv (u.1 1) (u.1 2) (u.1 3) (u.1 4) (u.1 5) (u.1 6) (u.1 7) (u.1 8) (u.1 9) (u.2.1 0) K hW (xs (i + 1)).toInt (xs (i + 2)).toInt ⟨ra1, ra2⟩) (cwV 2 hts gL_law_X6_motion rfl rfl rfl (by decide +kernel) ⟨Nat.le_of_ble_eq_true rfl, Nat.le_of_ble_eq_true rfl⟩) hK hPc 0 rfl rfl rfl hl.1 rfl (Nat.le_of_ble_eq_true rfl) dL_law_306 hce ?_
  refine lv_aload_n hx hb dL_law_309 rfl (lv_at hl 2 rfl) ?_
  refine lv_aload_n hx hb dL_law_310 rfl (lv_at hl 0 rfl) ?_
  refine lv_iload_n hx hb dL_law_311 rfl (lv_at hl 3 rfl) ?_
  refine z_iconst hx hb dL_law_312 ?_
  refine z_iadd hx hb dL_law_313 ?_
  refine z_sld hx hb hX hbA hS (i + 1) (by omega) dL_law_314 ?_
  refine lv_aload_n hx hb dL_law_315 rfl (lv_at hl 0 rfl) ?_
  refine lv_iload_n hx hb dL_law_316 rfl (lv_at hl 3 rfl) ?_
  refine z_iconst hx hb dL_law_317 ?_
  refine z_iadd hx hb dL_law_318 ?_
  refine z_sld hx hb hX hbA hS (i + 2) (by omega) dL_law_319 ?_
  have hPc := va_P_l (va_P_pm (lw_pm (lwC Y hv g9 u af tx ln pl su tk nu K Kto Kt ix z E C M T n9 tr tr kp Ki Kk F A) (ps := [12]) (by decide)) hP)
  refine ro_V (As := [.int (iZ (xs (i + 1)).toInt), .int (iZ (xs (i + 2)).toInt)]) (rest := [.int (iZ (rMot K (xs (i + 1)).toInt (xs (i + 2)).toInt))]) ⟨hx, hb, hml, hown, hts⟩ (c_X7_motion l G Y g9 af F A tr hV hno (xs (i + 1)).toInt (xs (i + 2)).toInt ⟨ra1, ra2⟩) (cwV 2 hts gL_law_X7_motion rfl rfl rfl (by decide +kernel) ⟨Nat.le_of_ble_eq_true rfl, Nat.le_of_ble_eq_true rfl⟩) hK hPc 0 rfl rfl rfl hl.1 rfl (Nat.le_of_ble_eq_true rfl) dL_law_320 hce ?_
  refine z_cmpeq (tgt := 990) hx hb ((xMot_eq _ _ _).trans (rMot_c hE _ _).symm) dL_law_323 (by decide) ?_
  exact kk tx ln pl su tk nu K Kto Kt ix z E C M T n9 tr kp Ki Kk F A H locs (hI) ⟨hP, hD, hS⟩

set_option maxHeartbeats 4000000 in
set_option maxRecDepth 100000 in
theorem lc_now {p : Program} {l : Launch} {e : Env} {s : State} {m : MethodId} {below : List Frame} {meth : Method} {c : Code} {H : Heap} {locs : List Loc} {cells slots : Nat} {Q : State → Prop} {G : va_G} {Y : Nat → ClassId} {b L : Nat} {xs : Nat → Int32} (X : lwX p s m meth c b L xs G Y) (hce : cells ≤ 600000 ∧ slots ≤ 7302249) {hv g9 : Nat} {u : svU} {af : Nat → Nat} {i : Nat} (hi : i + 4 ≤ L) {ls : Array Slot} (hl : lv_has ls 4 [(0, .ref b), (1, .ref hv), (2, .ref g9), (3, .int (iZ ((i : Nat) : Int)))]) {tx : Nat → Int} {ln : Nat} {pl : Nat} {su : Bool} {tk : Nat} {nu : Int} {K : Kom} {Kto : Kom} {Kt : Kom} {ix : Nat} {z : Nat} {E : Nat → Int} {C : Nat → Int} {M : Nat → Int} {T : Nat → Int} {n9 : Int} {tr : Int64} {kp : Nat → Int} {Ki : Nat → Kom} {Kk : Nat → Kom} {F : Nat → Int} {A : Kom} (hI : lwI tx ln tk K Kto ix z M T n9 kp Ki Kk F A) (hH : lwH G s (lwC Y hv g9 u af tx ln pl su tk nu K Kto Kt ix z E C M T n9 tr tr kp Ki Kk F A) H locs) (kk : lwK p l e s m below meth c cells slots Q G Y b hv g9 u af ls) : W p l e room_1 s m #[Value.ref b] below meth c H locs cells slots Q (F0 m 328 ls []) := by
  obtain ⟨hx, hb, hml, hown, hts, hX, hK⟩ := X
  obtain ⟨hP, hD, hS⟩ := hH
  have hbA : ¬ (fun q : Nat => s.heap.size ≤ q) b := Nat.not_le.mpr hX.2.1
  have i1 := hI.1
  have i2 := hI.2.1
  have i3 := hI.2.2.1
  have i4 := hI.2.2.2.1
  have i5 := hI.2.2.2.2.1
  have i6 := hI.2.2.2.2.2
  have hW := i2.1
  have hE := i2.2.1
  have hV := i2.2.2.1
  have h26 := i2.2.2.2
  have hno : F 26 < 0 := by omega
  have hKb := hW.1
  have hvb := mV_b hV
  have hk2 : K 0 2 = A 17 3 := hE.k2
  have hL9 := hX.2.2
  have ra1 := iZ_range (xs (i + 1))
  refine lv_aload_n hx hb dL_law_328 rfl (lv_at hl 1 rfl) ?_
  refine lv_aload_n hx hb dL_law_329 rfl (lv_at hl 0 rfl) ?_
  refine lv_iload_n hx hb dL_law_330 rfl (lv_at hl 3 rfl) ?_
  refine z_iconst hx hb dL_law_331 ?_
  refine z_iadd hx hb dL_law_332 ?_
  refine z_sld hx hb hX hbA hS (i + 1) (by omega) dL_law_333 ?_
  have hPc := va_P_l (va_P_pm (lw_pm (lwC Y hv g9 u af tx ln pl su tk nu K Kto Kt ix z E C M T n9 tr tr kp Ki Kk F A) (ps := [0, 2, 4]) (by decide)) hP)
  refine ro_V (As := [.int (iZ (xs (i + 1)).toInt)]) (rest := []) ⟨hx, hb, hml, hown, hts⟩ (c_X6_now l G Y hv (u.1 1) (u.1 2) (u.1 3) (u.1 4) (u.1 5) (u.1 6) (u.1 7) (u.1 8) (u.1 9) (u.2.1 0) K hW (u.1 11) (u.2.1 2) ((ix : Nat) : Int) ((z : Nat) : Int) (xs (i + 1)).toInt (by omega)) (cwV 1 hts gL_law_X6_now rfl rfl rfl (by decide +kernel) ⟨Nat.le_of_ble_eq_true rfl, Nat.le_of_ble_eq_true rfl⟩) hK hPc 0 rfl rfl rfl hl.1 rfl (Nat.le_of_ble_eq_true rfl) dL_law_334 hce ?_
  refine lv_aload_n hx hb dL_law_337 rfl (lv_at hl 2 rfl) ?_
  refine lv_aload_n hx hb dL_law_338 rfl (lv_at hl 0 rfl) ?_
  refine lv_iload_n hx hb dL_law_339 rfl (lv_at hl 3 rfl) ?_
  refine z_iconst hx hb dL_law_340 ?_
  refine z_iadd hx hb dL_law_341 ?_
  refine z_sld hx hb hX hbA hS (i + 1) (by omega) dL_law_342 ?_
  have hPc := va_P_l (va_P_pm (lw_pm (lwC Y hv g9 u af tx ln pl su tk nu K Kto Kt ix z E C M T n9 tr tr kp Ki Kk F A) (ps := [12]) (by decide)) hP)
  refine ro_V (As := [.int (iZ (xs (i + 1)).toInt)]) (rest := [.int (iZ (rNow K ((z : Nat) : Int) (xs (i + 1)).toInt))]) ⟨hx, hb, hml, hown, hts⟩ (c_X7_now l G Y g9 af F A tr hV hno (xs (i + 1)).toInt (by omega)) (cwV 1 hts gL_law_X7_now rfl rfl rfl (by decide +kernel) ⟨Nat.le_of_ble_eq_true rfl, Nat.le_of_ble_eq_true rfl⟩) hK hPc 0 rfl rfl rfl hl.1 rfl (Nat.le_of_ble_eq_true rfl) dL_law_343 hce ?_
  refine z_cmpeq (tgt := 990) hx hb (by rw [i4.2.2.1]; exact (rNow_c hE _ _).symm) dL_law_346 (by decide) ?_
  exact kk tx ln pl su tk nu K Kto Kt ix z E C M T n9 tr kp Ki Kk F A H locs (hI) ⟨hP, hD, hS⟩

set_option maxHeartbeats 4000000 in
set_option maxRecDepth 100000 in
theorem lc_share {p : Program} {l : Launch} {e : Env} {s : State} {m : MethodId} {below : List Frame} {meth : Method} {c : Code} {H : Heap} {locs : List Loc} {cells slots : Nat} {Q : State → Prop} {G : va_G} {Y : Nat → ClassId} {b L : Nat} {xs : Nat → Int32} (X : lwX p s m meth c b L xs G Y) (hce : cells ≤ 600000 ∧ slots ≤ 7302249) {hv g9 : Nat} {u : svU} {af : Nat → Nat} {i : Nat} (hi : i + 4 ≤ L) {ls : Array Slot} (hl : lv_has ls 4 [(0, .ref b), (1, .ref hv), (2, .ref g9), (3, .int (iZ ((i : Nat) : Int)))]) {tx : Nat → Int} {ln : Nat} {pl : Nat} {su : Bool} {tk : Nat} {nu : Int} {K : Kom} {Kto : Kom} {Kt : Kom} {ix : Nat} {z : Nat} {E : Nat → Int} {C : Nat → Int} {M : Nat → Int} {T : Nat → Int} {n9 : Int} {tr : Int64} {kp : Nat → Int} {Ki : Nat → Kom} {Kk : Nat → Kom} {F : Nat → Int} {A : Kom} (hI : lwI tx ln tk K Kto ix z M T n9 kp Ki Kk F A) (hH : lwH G s (lwC Y hv g9 u af tx ln pl su tk nu K Kto Kt ix z E C M T n9 tr tr kp Ki Kk F A) H locs) (kk : lwK p l e s m below meth c cells slots Q G Y b hv g9 u af ls) : W p l e room_1 s m #[Value.ref b] below meth c H locs cells slots Q (F0 m 680 ls []) := by
  obtain ⟨hx, hb, hml, hown, hts, hX, hK⟩ := X
  obtain ⟨hP, hD, hS⟩ := hH
  have hbA : ¬ (fun q : Nat => s.heap.size ≤ q) b := Nat.not_le.mpr hX.2.1
  have i1 := hI.1
  have i2 := hI.2.1
  have i3 := hI.2.2.1
  have i4 := hI.2.2.2.1
  have i5 := hI.2.2.2.2.1
  have i6 := hI.2.2.2.2.2
  have hW := i2.1
  have hE := i2.2.1
  have hV := i2.2.2.1
  have h26 := i2.2.2.2
  have hno : F 26 < 0 := by omega
  have hKb := hW.1
  have hvb := mV_b hV
  have hk2 : K 0 2 = A 17 3 := hE.k2
  have hL9 := hX.2.2
  have ra1 := iZ_range (xs (i + 1))
  refine lv_aload_n hx hb dL_law_680 rfl (lv_at hl 1 rfl) ?_
  refine lv_aload_n hx hb dL_law_681 rfl (lv_at hl 0 rfl) ?_
  refine lv_iload_n hx hb dL_law_682 rfl (lv_at hl 3 rfl) ?_
  refine z_iconst hx hb dL_law_683 ?_
  refine z_iadd hx hb dL_law_684 ?_
  refine z_sld hx hb hX hbA hS (i + 1) (by omega) dL_law_685 ?_
  have hPc := va_P_l (va_P_pm (lw_pm (lwC Y hv g9 u af tx ln pl su tk nu K Kto Kt ix z E C M T n9 tr tr kp Ki Kk F A) (ps := [0, 2]) (by decide)) hP)
  refine ro_V (As := [.int (iZ (xs (i + 1)).toInt)]) (rest := []) ⟨hx, hb, hml, hown, hts⟩ (c_X6_share l G Y hv (u.1 1) (u.1 2) (u.1 3) (u.1 4) (u.1 5) (u.1 6) (u.1 7) (u.1 8) (u.1 9) (u.2.1 0) K hW (xs (i + 1)).toInt ra1) (cwV 1 hts gL_law_X6_share rfl rfl rfl (by decide +kernel) ⟨Nat.le_of_ble_eq_true rfl, Nat.le_of_ble_eq_true rfl⟩) hK hPc 0 rfl rfl rfl hl.1 rfl (Nat.le_of_ble_eq_true rfl) dL_law_686 hce ?_
  refine lv_aload_n hx hb dL_law_689 rfl (lv_at hl 2 rfl) ?_
  refine lv_aload_n hx hb dL_law_690 rfl (lv_at hl 0 rfl) ?_
  refine lv_iload_n hx hb dL_law_691 rfl (lv_at hl 3 rfl) ?_
  refine z_iconst hx hb dL_law_692 ?_
  refine z_iadd hx hb dL_law_693 ?_
  refine z_sld hx hb hX hbA hS (i + 1) (by omega) dL_law_694 ?_
  have hPc := va_P_l (va_P_pm (lw_pm (lwC Y hv g9 u af tx ln pl su tk nu K Kto Kt ix z E C M T n9 tr tr kp Ki Kk F A) (ps := [12]) (by decide)) hP)
  refine ro_V (As := [.int (iZ (xs (i + 1)).toInt)]) (rest := [.int (iZ (rShare K (xs (i + 1)).toInt))]) ⟨hx, hb, hml, hown, hts⟩ (c_X7_share l G Y g9 af F A tr hV hno (xs (i + 1)).toInt ra1) (cwV 1 hts gL_law_X7_share rfl rfl rfl (by decide +kernel) ⟨Nat.le_of_ble_eq_true rfl, Nat.le_of_ble_eq_true rfl⟩) hK hPc 0 rfl rfl rfl hl.1 rfl (Nat.le_of_ble_eq_true rfl) dL_law_695 hce ?_
  refine z_cmpeq (tgt := 990) hx hb ((rShare_c hE _).symm) dL_law_698 (by decide) ?_
  exact kk tx ln pl su tk nu K Kto Kt ix z E C M T n9 tr kp Ki Kk F A H locs (hI) ⟨hP, hD, hS⟩

set_option maxHeartbeats 4000000 in
set_option maxRecDepth 100000 in
theorem lc_dark {p : Program} {l : Launch} {e : Env} {s : State} {m : MethodId} {below : List Frame} {meth : Method} {c : Code} {H : Heap} {locs : List Loc} {cells slots : Nat} {Q : State → Prop} {G : va_G} {Y : Nat → ClassId} {b L : Nat} {xs : Nat → Int32} (X : lwX p s m meth c b L xs G Y) (hce : cells ≤ 600000 ∧ slots ≤ 7302249) {hv g9 : Nat} {u : svU} {af : Nat → Nat} {i : Nat} (hi : i + 4 ≤ L) {ls : Array Slot} (hl : lv_has ls 4 [(0, .ref b), (1, .ref hv), (2, .ref g9), (3, .int (iZ ((i : Nat) : Int)))]) {tx : Nat → Int} {ln : Nat} {pl : Nat} {su : Bool} {tk : Nat} {nu : Int} {K : Kom} {Kto : Kom} {Kt : Kom} {ix : Nat} {z : Nat} {E : Nat → Int} {C : Nat → Int} {M : Nat → Int} {T : Nat → Int} {n9 : Int} {tr : Int64} {kp : Nat → Int} {Ki : Nat → Kom} {Kk : Nat → Kom} {F : Nat → Int} {A : Kom} (hI : lwI tx ln tk K Kto ix z M T n9 kp Ki Kk F A) (hH : lwH G s (lwC Y hv g9 u af tx ln pl su tk nu K Kto Kt ix z E C M T n9 tr tr kp Ki Kk F A) H locs) (kk : lwK p l e s m below meth c cells slots Q G Y b hv g9 u af ls) : W p l e room_1 s m #[Value.ref b] below meth c H locs cells slots Q (F0 m 851 ls []) := by
  obtain ⟨hx, hb, hml, hown, hts, hX, hK⟩ := X
  obtain ⟨hP, hD, hS⟩ := hH
  have hbA : ¬ (fun q : Nat => s.heap.size ≤ q) b := Nat.not_le.mpr hX.2.1
  have i1 := hI.1
  have i2 := hI.2.1
  have i3 := hI.2.2.1
  have i4 := hI.2.2.2.1
  have i5 := hI.2.2.2.2.1
  have i6 := hI.2.2.2.2.2
  have hW := i2.1
  have hE := i2.2.1
  have hV := i2.2.2.1
  have h26 := i2.2.2.2
  have hno : F 26 < 0 := by omega
  have hKb := hW.1
  have hvb := mV_b hV
  have hk2 : K 0 2 = A 17 3 := hE.k2
  have hL9 := hX.2.2
  have ra1 := iZ_range (xs (i + 1))
  refine lv_aload_n hx hb dL_law_851 rfl (lv_at hl 1 rfl) ?_
  refine lv_aload_n hx hb dL_law_852 rfl (lv_at hl 0 rfl) ?_
  refine lv_iload_n hx hb dL_law_853 rfl (lv_at hl 3 rfl) ?_
  refine z_iconst hx hb dL_law_854 ?_
  refine z_iadd hx hb dL_law_855 ?_
  refine z_sld hx hb hX hbA hS (i + 1) (by omega) dL_law_856 ?_
  have hPc := va_P_l (va_P_pm (lw_pm (lwC Y hv g9 u af tx ln pl su tk nu K Kto Kt ix z E C M T n9 tr tr kp Ki Kk F A) (ps := [0, 2]) (by decide)) hP)
  refine ro_V (As := [.int (iZ (xs (i + 1)).toInt)]) (rest := []) ⟨hx, hb, hml, hown, hts⟩ (c_X6_dark l G Y hv (u.1 1) (u.1 2) (u.1 3) (u.1 4) (u.1 5) (u.1 6) (u.1 7) (u.1 8) (u.1 9) (u.2.1 0) K hW (xs (i + 1)).toInt ra1) (cwV 1 hts gL_law_X6_dark rfl rfl rfl (by decide +kernel) ⟨Nat.le_of_ble_eq_true rfl, Nat.le_of_ble_eq_true rfl⟩) hK hPc 0 rfl rfl rfl hl.1 rfl (Nat.le_of_ble_eq_true rfl) dL_law_857 hce ?_
  refine lv_aload_n hx hb dL_law_860 rfl (lv_at hl 2 rfl) ?_
  refine lv_aload_n hx hb dL_law_861 rfl (lv_at hl 0 rfl) ?_
  refine lv_iload_n hx hb dL_law_862 rfl (lv_at hl 3 rfl) ?_
  refine z_iconst hx hb dL_law_863 ?_
  refine z_iadd hx hb dL_law_864 ?_
  refine z_sld hx hb hX hbA hS (i + 1) (by omega) dL_law_865 ?_
  have hPc := va_P_l (va_P_pm (lw_pm (lwC Y hv g9 u af tx ln pl su tk nu K Kto Kt ix z E C M T n9 tr tr kp Ki Kk F A) (ps := [12]) (by decide)) hP)
  refine ro_V (As := [.int (iZ (xs (i + 1)).toInt)]) (rest := [.int (iZ (rDark K (xs (i + 1)).toInt))]) ⟨hx, hb, hml, hown, hts⟩ (c_X7_dark l G Y g9 af F A tr hV hno (xs (i + 1)).toInt ra1) (cwV 1 hts gL_law_X7_dark rfl rfl rfl (by decide +kernel) ⟨Nat.le_of_ble_eq_true rfl, Nat.le_of_ble_eq_true rfl⟩) hK hPc 0 rfl rfl rfl hl.1 rfl (Nat.le_of_ble_eq_true rfl) dL_law_866 hce ?_
  refine z_cmpeq (tgt := 990) hx hb ((rDark_c hE _).symm) dL_law_869 (by decide) ?_
  exact kk tx ln pl su tk nu K Kto Kt ix z E C M T n9 tr kp Ki Kk F A H locs (hI) ⟨hP, hD, hS⟩

set_option maxHeartbeats 4000000 in
set_option maxRecDepth 100000 in
theorem lc_hedge {p : Program} {l : Launch} {e : Env} {s : State} {m : MethodId} {below : List Frame} {meth : Method} {c : Code} {H : Heap} {locs : List Loc} {cells slots : Nat} {Q : State → Prop} {G : va_G} {Y : Nat → ClassId} {b L : Nat} {xs : Nat → Int32} (X : lwX p s m meth c b L xs G Y) (hce : cells ≤ 600000 ∧ slots ≤ 7302249) {hv g9 : Nat} {u : svU} {af : Nat → Nat} {i : Nat} (hi : i + 4 ≤ L) {ls : Array Slot} (hl : lv_has ls 4 [(0, .ref b), (1, .ref hv), (2, .ref g9), (3, .int (iZ ((i : Nat) : Int)))]) {tx : Nat → Int} {ln : Nat} {pl : Nat} {su : Bool} {tk : Nat} {nu : Int} {K : Kom} {Kto : Kom} {Kt : Kom} {ix : Nat} {z : Nat} {E : Nat → Int} {C : Nat → Int} {M : Nat → Int} {T : Nat → Int} {n9 : Int} {tr : Int64} {kp : Nat → Int} {Ki : Nat → Kom} {Kk : Nat → Kom} {F : Nat → Int} {A : Kom} (hI : lwI tx ln tk K Kto ix z M T n9 kp Ki Kk F A) (hH : lwH G s (lwC Y hv g9 u af tx ln pl su tk nu K Kto Kt ix z E C M T n9 tr tr kp Ki Kk F A) H locs) (kk : lwK p l e s m below meth c cells slots Q G Y b hv g9 u af ls) : W p l e room_1 s m #[Value.ref b] below meth c H locs cells slots Q (F0 m 657 ls []) := by
  obtain ⟨hx, hb, hml, hown, hts, hX, hK⟩ := X
  obtain ⟨hP, hD, hS⟩ := hH
  have hbA : ¬ (fun q : Nat => s.heap.size ≤ q) b := Nat.not_le.mpr hX.2.1
  have i1 := hI.1
  have i2 := hI.2.1
  have i3 := hI.2.2.1
  have i4 := hI.2.2.2.1
  have i5 := hI.2.2.2.2.1
  have i6 := hI.2.2.2.2.2
  have hW := i2.1
  have hE := i2.2.1
  have hV := i2.2.2.1
  have h26 := i2.2.2.2
  have hno : F 26 < 0 := by omega
  have hKb := hW.1
  have hvb := mV_b hV
  have hk2 : K 0 2 = A 17 3 := hE.k2
  have hL9 := hX.2.2
  have ra1 := iZ_range (xs (i + 1))
  refine lv_aload_n hx hb dL_law_657 rfl (lv_at hl 1 rfl) ?_
  refine lv_aload_n hx hb dL_law_658 rfl (lv_at hl 0 rfl) ?_
  refine lv_iload_n hx hb dL_law_659 rfl (lv_at hl 3 rfl) ?_
  refine z_iconst hx hb dL_law_660 ?_
  refine z_iadd hx hb dL_law_661 ?_
  refine z_sld hx hb hX hbA hS (i + 1) (by omega) dL_law_662 ?_
  have hPc := va_P_l (va_P_pm (lw_pm (lwC Y hv g9 u af tx ln pl su tk nu K Kto Kt ix z E C M T n9 tr tr kp Ki Kk F A) (ps := [0, 5, 2]) (by decide)) hP)
  refine ro_V (As := [.int (iZ (xs (i + 1)).toInt)]) (rest := []) ⟨hx, hb, hml, hown, hts⟩ (c_X6_hedge l G Y hv (u.1 1) (u.1 2) (u.1 3) (u.1 4) (u.1 5) (u.1 6) (u.1 7) (u.1 8) (u.1 9) (u.1 12) (u.1 13) (u.1 14) (u.2.1 0) K hW (xs (i + 1)).toInt ra1) (cwV 1 hts gL_law_X6_hedge rfl rfl rfl (by decide +kernel) ⟨Nat.le_of_ble_eq_true rfl, Nat.le_of_ble_eq_true rfl⟩) hK hPc 0 rfl rfl rfl hl.1 rfl (Nat.le_of_ble_eq_true rfl) dL_law_663 hce ?_
  refine lv_aload_n hx hb dL_law_666 rfl (lv_at hl 2 rfl) ?_
  refine lv_aload_n hx hb dL_law_667 rfl (lv_at hl 0 rfl) ?_
  refine lv_iload_n hx hb dL_law_668 rfl (lv_at hl 3 rfl) ?_
  refine z_iconst hx hb dL_law_669 ?_
  refine z_iadd hx hb dL_law_670 ?_
  refine z_sld hx hb hX hbA hS (i + 1) (by omega) dL_law_671 ?_
  have hPc := va_P_l (va_P_pm (lw_pm (lwC Y hv g9 u af tx ln pl su tk nu K Kto Kt ix z E C M T n9 tr tr kp Ki Kk F A) (ps := [12]) (by decide)) hP)
  refine ro_V (As := [.int (iZ (xs (i + 1)).toInt)]) (rest := [.int (iZ (rHedge K (xs (i + 1)).toInt))]) ⟨hx, hb, hml, hown, hts⟩ (c_X7_hedge l G Y g9 af F A tr hV hno (xs (i + 1)).toInt ra1) (cwV 1 hts gL_law_X7_hedge rfl rfl rfl (by decide +kernel) ⟨Nat.le_of_ble_eq_true rfl, Nat.le_of_ble_eq_true rfl⟩) hK hPc 0 rfl rfl rfl hl.1 rfl (Nat.le_of_ble_eq_true rfl) dL_law_672 hce ?_
  refine z_cmpeq (tgt := 990) hx hb ((xHedge_eq hV.1 _).trans (rHedge_c hE _).symm) dL_law_675 (by decide) ?_
  exact kk tx ln pl su tk nu K Kto Kt ix z E C M T n9 tr kp Ki Kk F A H locs (hI) ⟨hP, hD, hS⟩

set_option maxHeartbeats 4000000 in
set_option maxRecDepth 100000 in
theorem lc_sway {p : Program} {l : Launch} {e : Env} {s : State} {m : MethodId} {below : List Frame} {meth : Method} {c : Code} {H : Heap} {locs : List Loc} {cells slots : Nat} {Q : State → Prop} {G : va_G} {Y : Nat → ClassId} {b L : Nat} {xs : Nat → Int32} (X : lwX p s m meth c b L xs G Y) (hce : cells ≤ 600000 ∧ slots ≤ 7302249) {hv g9 : Nat} {u : svU} {af : Nat → Nat} {i : Nat} (hi : i + 4 ≤ L) {ls : Array Slot} (hl : lv_has ls 4 [(0, .ref b), (1, .ref hv), (2, .ref g9), (3, .int (iZ ((i : Nat) : Int)))]) {tx : Nat → Int} {ln : Nat} {pl : Nat} {su : Bool} {tk : Nat} {nu : Int} {K : Kom} {Kto : Kom} {Kt : Kom} {ix : Nat} {z : Nat} {E : Nat → Int} {C : Nat → Int} {M : Nat → Int} {T : Nat → Int} {n9 : Int} {tr : Int64} {kp : Nat → Int} {Ki : Nat → Kom} {Kk : Nat → Kom} {F : Nat → Int} {A : Kom} (hI : lwI tx ln tk K Kto ix z M T n9 kp Ki Kk F A) (hH : lwH G s (lwC Y hv g9 u af tx ln pl su tk nu K Kto Kt ix z E C M T n9 tr tr kp Ki Kk F A) H locs) (kk : lwK p l e s m below meth c cells slots Q G Y b hv g9 u af ls) : W p l e room_1 s m #[Value.ref b] below meth c H locs cells slots Q (F0 m 805 ls []) := by
  obtain ⟨hx, hb, hml, hown, hts, hX, hK⟩ := X
  obtain ⟨hP, hD, hS⟩ := hH
  have hbA : ¬ (fun q : Nat => s.heap.size ≤ q) b := Nat.not_le.mpr hX.2.1
  have i1 := hI.1
  have i2 := hI.2.1
  have i3 := hI.2.2.1
  have i4 := hI.2.2.2.1
  have i5 := hI.2.2.2.2.1
  have i6 := hI.2.2.2.2.2
  have hW := i2.1
  have hE := i2.2.1
  have hV := i2.2.2.1
  have h26 := i2.2.2.2
  have hno : F 26 < 0 := by omega
  have hKb := hW.1
  have hvb := mV_b hV
  have hk2 : K 0 2 = A 17 3 := hE.k2
  have hL9 := hX.2.2
  have ra1 := iZ_range (xs (i + 1))
  refine lv_aload_n hx hb dL_law_805 rfl (lv_at hl 1 rfl) ?_
  refine lv_aload_n hx hb dL_law_806 rfl (lv_at hl 0 rfl) ?_
  refine lv_iload_n hx hb dL_law_807 rfl (lv_at hl 3 rfl) ?_
  refine z_iconst hx hb dL_law_808 ?_
  refine z_iadd hx hb dL_law_809 ?_
  refine z_sld hx hb hX hbA hS (i + 1) (by omega) dL_law_810 ?_
  have hPc := va_P_l (va_P_pm (lw_pm (lwC Y hv g9 u af tx ln pl su tk nu K Kto Kt ix z E C M T n9 tr tr kp Ki Kk F A) (ps := [0, 5, 2]) (by decide)) hP)
  refine ro_V (As := [.int (iZ (xs (i + 1)).toInt)]) (rest := []) ⟨hx, hb, hml, hown, hts⟩ (c_X6_sway l G Y hv (u.1 1) (u.1 2) (u.1 3) (u.1 4) (u.1 5) (u.1 6) (u.1 7) (u.1 8) (u.1 9) (u.1 12) (u.1 13) (u.1 14) (u.2.1 0) K hW (xs (i + 1)).toInt ra1) (cwV 1 hts gL_law_X6_sway rfl rfl rfl (by decide +kernel) ⟨Nat.le_of_ble_eq_true rfl, Nat.le_of_ble_eq_true rfl⟩) hK hPc 0 rfl rfl rfl hl.1 rfl (Nat.le_of_ble_eq_true rfl) dL_law_811 hce ?_
  refine lv_aload_n hx hb dL_law_814 rfl (lv_at hl 2 rfl) ?_
  refine lv_aload_n hx hb dL_law_815 rfl (lv_at hl 0 rfl) ?_
  refine lv_iload_n hx hb dL_law_816 rfl (lv_at hl 3 rfl) ?_
  refine z_iconst hx hb dL_law_817 ?_
  refine z_iadd hx hb dL_law_818 ?_
  refine z_sld hx hb hX hbA hS (i + 1) (by omega) dL_law_819 ?_
  have hPc := va_P_l (va_P_pm (lw_pm (lwC Y hv g9 u af tx ln pl su tk nu K Kto Kt ix z E C M T n9 tr tr kp Ki Kk F A) (ps := [12]) (by decide)) hP)
  refine ro_V (As := [.int (iZ (xs (i + 1)).toInt)]) (rest := [.int (iZ (rSway K (xs (i + 1)).toInt))]) ⟨hx, hb, hml, hown, hts⟩ (c_X7_sway l G Y g9 af F A tr hV hno (xs (i + 1)).toInt ra1) (cwV 1 hts gL_law_X7_sway rfl rfl rfl (by decide +kernel) ⟨Nat.le_of_ble_eq_true rfl, Nat.le_of_ble_eq_true rfl⟩) hK hPc 0 rfl rfl rfl hl.1 rfl (Nat.le_of_ble_eq_true rfl) dL_law_820 hce ?_
  refine z_cmpeq (tgt := 990) hx hb ((xSway_eq _ _).trans (rSway_c hE _).symm) dL_law_823 (by decide) ?_
  exact kk tx ln pl su tk nu K Kto Kt ix z E C M T n9 tr kp Ki Kk F A H locs (hI) ⟨hP, hD, hS⟩

set_option maxHeartbeats 4000000 in
set_option maxRecDepth 100000 in
theorem lc_cool {p : Program} {l : Launch} {e : Env} {s : State} {m : MethodId} {below : List Frame} {meth : Method} {c : Code} {H : Heap} {locs : List Loc} {cells slots : Nat} {Q : State → Prop} {G : va_G} {Y : Nat → ClassId} {b L : Nat} {xs : Nat → Int32} (X : lwX p s m meth c b L xs G Y) (hce : cells ≤ 600000 ∧ slots ≤ 7302249) {hv g9 : Nat} {u : svU} {af : Nat → Nat} {i : Nat} (hi : i + 4 ≤ L) {ls : Array Slot} (hl : lv_has ls 4 [(0, .ref b), (1, .ref hv), (2, .ref g9), (3, .int (iZ ((i : Nat) : Int)))]) {tx : Nat → Int} {ln : Nat} {pl : Nat} {su : Bool} {tk : Nat} {nu : Int} {K : Kom} {Kto : Kom} {Kt : Kom} {ix : Nat} {z : Nat} {E : Nat → Int} {C : Nat → Int} {M : Nat → Int} {T : Nat → Int} {n9 : Int} {tr : Int64} {kp : Nat → Int} {Ki : Nat → Kom} {Kk : Nat → Kom} {F : Nat → Int} {A : Kom} (hI : lwI tx ln tk K Kto ix z M T n9 kp Ki Kk F A) (hH : lwH G s (lwC Y hv g9 u af tx ln pl su tk nu K Kto Kt ix z E C M T n9 tr tr kp Ki Kk F A) H locs) (kk : lwK p l e s m below meth c cells slots Q G Y b hv g9 u af ls) : W p l e room_1 s m #[Value.ref b] below meth c H locs cells slots Q (F0 m 828 ls []) := by
  obtain ⟨hx, hb, hml, hown, hts, hX, hK⟩ := X
  obtain ⟨hP, hD, hS⟩ := hH
  have hbA : ¬ (fun q : Nat => s.heap.size ≤ q) b := Nat.not_le.mpr hX.2.1
  have i1 := hI.1
  have i2 := hI.2.1
  have i3 := hI.2.2.1
  have i4 := hI.2.2.2.1
  have i5 := hI.2.2.2.2.1
  have i6 := hI.2.2.2.2.2
  have hW := i2.1
  have hE := i2.2.1
  have hV := i2.2.2.1
  have h26 := i2.2.2.2
  have hno : F 26 < 0 := by omega
  have hKb := hW.1
  have hvb := mV_b hV
  have hk2 : K 0 2 = A 17 3 := hE.k2
  have hL9 := hX.2.2
  have ra1 := iZ_range (xs (i + 1))
  refine lv_aload_n hx hb dL_law_828 rfl (lv_at hl 1 rfl) ?_
  refine lv_aload_n hx hb dL_law_829 rfl (lv_at hl 0 rfl) ?_
  refine lv_iload_n hx hb dL_law_830 rfl (lv_at hl 3 rfl) ?_
  refine z_iconst hx hb dL_law_831 ?_
  refine z_iadd hx hb dL_law_832 ?_
  refine z_sld hx hb hX hbA hS (i + 1) (by omega) dL_law_833 ?_
  have hPc := va_P_l (va_P_pm (lw_pm (lwC Y hv g9 u af tx ln pl su tk nu K Kto Kt ix z E C M T n9 tr tr kp Ki Kk F A) (ps := [0, 5, 2]) (by decide)) hP)
  refine ro_V (As := [.int (iZ (xs (i + 1)).toInt)]) (rest := []) ⟨hx, hb, hml, hown, hts⟩ (c_X6_cool l G Y hv (u.1 1) (u.1 2) (u.1 3) (u.1 4) (u.1 5) (u.1 6) (u.1 7) (u.1 8) (u.1 9) (u.1 12) (u.1 13) (u.1 14) (u.2.1 0) K hW (xs (i + 1)).toInt ra1) (cwV 1 hts gL_law_X6_cool rfl rfl rfl (by decide +kernel) ⟨Nat.le_of_ble_eq_true rfl, Nat.le_of_ble_eq_true rfl⟩) hK hPc 0 rfl rfl rfl hl.1 rfl (Nat.le_of_ble_eq_true rfl) dL_law_834 hce ?_
  refine lv_aload_n hx hb dL_law_837 rfl (lv_at hl 2 rfl) ?_
  refine lv_aload_n hx hb dL_law_838 rfl (lv_at hl 0 rfl) ?_
  refine lv_iload_n hx hb dL_law_839 rfl (lv_at hl 3 rfl) ?_
  refine z_iconst hx hb dL_law_840 ?_
  refine z_iadd hx hb dL_law_841 ?_
  refine z_sld hx hb hX hbA hS (i + 1) (by omega) dL_law_842 ?_
  have hPc := va_P_l (va_P_pm (lw_pm (lwC Y hv g9 u af tx ln pl su tk nu K Kto Kt ix z E C M T n9 tr tr kp Ki Kk F A) (ps := [12]) (by decide)) hP)
  refine ro_V (As := [.int (iZ (xs (i + 1)).toInt)]) (rest := [.int (iZ (rCool K (xs (i + 1)).toInt))]) ⟨hx, hb, hml, hown, hts⟩ (c_X7_cool l G Y g9 af F A tr hV hno (xs (i + 1)).toInt ra1) (cwV 1 hts gL_law_X7_cool rfl rfl rfl (by decide +kernel) ⟨Nat.le_of_ble_eq_true rfl, Nat.le_of_ble_eq_true rfl⟩) hK hPc 0 rfl rfl rfl hl.1 rfl (Nat.le_of_ble_eq_true rfl) dL_law_843 hce ?_
  refine z_cmpeq (tgt := 990) hx hb ((xCool_eq hV.1 _).trans (rCool_c hE _).symm) dL_law_846 (by decide) ?_
  exact kk tx ln pl su tk nu K Kto Kt ix z E C M T n9 tr kp Ki Kk F A H locs (hI) ⟨hP, hD, hS⟩

set_option maxHeartbeats 4000000 in
set_option maxRecDepth 100000 in
theorem lc_count {p : Program} {l : Launch} {e : Env} {s : State} {m : MethodId} {below : List Frame} {meth : Method} {c : Code} {H : Heap} {locs : List Loc} {cells slots : Nat} {Q : State → Prop} {G : va_G} {Y : Nat → ClassId} {b L : Nat} {xs : Nat → Int32} (X : lwX p s m meth c b L xs G Y) (hce : cells ≤ 600000 ∧ slots ≤ 7302249) {hv g9 : Nat} {u : svU} {af : Nat → Nat} {i : Nat} (hi : i + 4 ≤ L) {ls : Array Slot} (hl : lv_has ls 4 [(0, .ref b), (1, .ref hv), (2, .ref g9), (3, .int (iZ ((i : Nat) : Int)))]) {tx : Nat → Int} {ln : Nat} {pl : Nat} {su : Bool} {tk : Nat} {nu : Int} {K : Kom} {Kto : Kom} {Kt : Kom} {ix : Nat} {z : Nat} {E : Nat → Int} {C : Nat → Int} {M : Nat → Int} {T : Nat → Int} {n9 : Int} {tr : Int64} {kp : Nat → Int} {Ki : Nat → Kom} {Kk : Nat → Kom} {F : Nat → Int} {A : Kom} (hI : lwI tx ln tk K Kto ix z M T n9 kp Ki Kk F A) (hH : lwH G s (lwC Y hv g9 u af tx ln pl su tk nu K Kto Kt ix z E C M T n9 tr tr kp Ki Kk F A) H locs) (kk : lwK p l e s m below meth c cells slots Q G Y b hv g9 u af ls) : W p l e room_1 s m #[Value.ref b] below meth c H locs cells slots Q (F0 m 953 ls []) := by
  obtain ⟨hx, hb, hml, hown, hts, hX, hK⟩ := X
  obtain ⟨hP, hD, hS⟩ := hH
  have hbA : ¬ (fun q : Nat => s.heap.size ≤ q) b := Nat.not_le.mpr hX.2.1
  have i1 := hI.1
  have i2 := hI.2.1
  have i3 := hI.2.2.1
  have i4 := hI.2.2.2.1
  have i5 := hI.2.2.2.2.1
  have i6 := hI.2.2.2.2.2
  have hW := i2.1
  have hE := i2.2.1
  have hV := i2.2.2.1
  have h26 := i2.2.2.2
  have hno : F 26 < 0 := by omega
  have hKb := hW.1
  have hvb := mV_b hV
  have hk2 : K 0 2 = A 17 3 := hE.k2
  have hL9 := hX.2.2
  have ra1 := iZ_range (xs (i + 1))
  refine lv_aload_n hx hb dL_law_953 rfl (lv_at hl 1 rfl) ?_
  refine lv_aload_n hx hb dL_law_954 rfl (lv_at hl 0 rfl) ?_
  refine lv_iload_n hx hb dL_law_955 rfl (lv_at hl 3 rfl) ?_
  refine z_iconst hx hb dL_law_956 ?_
  refine z_iadd hx hb dL_law_957 ?_
  refine z_sld hx hb hX hbA hS (i + 1) (by omega) dL_law_958 ?_
  have hPc := va_P_l (va_P_pm (lw_pm (lwC Y hv g9 u af tx ln pl su tk nu K Kto Kt ix z E C M T n9 tr tr kp Ki Kk F A) (ps := [0, 2, 8, 1]) (by decide)) hP)
  refine ro_V (As := [.int (iZ (xs (i + 1)).toInt)]) (rest := []) ⟨hx, hb, hml, hown, hts⟩ (c_X6_count l G Y hv (u.1 1) (u.1 2) (u.1 3) (u.1 4) (u.1 5) (u.1 6) (u.1 7) (u.1 8) (u.1 9) (u.2.1 0) K hW (u.1 15) (u.1 16) M T n9 (u.1 10) tx i1.1 ln pl su tk nu (xs (i + 1)).toInt (by omega)) (cwV 1 hts gL_law_X6_count rfl rfl rfl (by decide +kernel) ⟨Nat.le_of_ble_eq_true rfl, Nat.le_of_ble_eq_true rfl⟩) hK hPc 0 rfl rfl rfl hl.1 rfl (Nat.le_of_ble_eq_true rfl) dL_law_959 hce ?_
  refine lv_aload_n hx hb dL_law_962 rfl (lv_at hl 2 rfl) ?_
  refine lv_aload_n hx hb dL_law_963 rfl (lv_at hl 0 rfl) ?_
  refine lv_iload_n hx hb dL_law_964 rfl (lv_at hl 3 rfl) ?_
  refine z_iconst hx hb dL_law_965 ?_
  refine z_iadd hx hb dL_law_966 ?_
  refine z_sld hx hb hX hbA hS (i + 1) (by omega) dL_law_967 ?_
  have hPc := va_P_l (va_P_pm (lw_pm (lwC Y hv g9 u af tx ln pl su tk nu K Kto Kt ix z E C M T n9 tr tr kp Ki Kk F A) (ps := [12]) (by decide)) hP)
  refine ro_V (As := [.int (iZ (xs (i + 1)).toInt)]) (rest := [.int (iZ (rCount K n9 ln (xs (i + 1)).toInt))]) ⟨hx, hb, hml, hown, hts⟩ (c_X7_count l G Y g9 af F A tr hV hno (xs (i + 1)).toInt (by omega)) (cwV 1 hts gL_law_X7_count rfl rfl rfl (by decide +kernel) ⟨Nat.le_of_ble_eq_true rfl, Nat.le_of_ble_eq_true rfl⟩) hK hPc 0 rfl rfl rfl hl.1 rfl (Nat.le_of_ble_eq_true rfl) dL_law_968 hce ?_
  refine z_cmpeq (tgt := 990) hx hb (by rw [i5.1.2.2, show (F 0).toNat = ln by omega]; exact (rCount_c hE _ _ _).symm) dL_law_971 (by decide) ?_
  exact kk tx ln pl su tk nu K Kto Kt ix z E C M T n9 tr kp Ki Kk F A H locs (hI) ⟨hP, hD, hS⟩
