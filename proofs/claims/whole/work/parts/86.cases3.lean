set_option maxHeartbeats 4000000 in
set_option maxRecDepth 100000 in
theorem lc_moves {p : Program} {l : Launch} {e : Env} {s : State} {m : MethodId} {below : List Frame} {meth : Method} {c : Code} {H : Heap} {locs : List Loc} {cells slots : Nat} {Q : State → Prop} {G : va_G} {Y : Nat → ClassId} {b L : Nat} {xs : Nat → Int32} (X : lwX p s m meth c b L xs G Y) (hce : cells ≤ 600000 ∧ slots ≤ 7302249) {hv g9 : Nat} {u : svU} {af : Nat → Nat} {i : Nat} (hi : i + 4 ≤ L) {ls : Array Slot} (hl : lv_has ls 4 [(0, .ref b), (1, .ref hv), (2, .ref g9), (3, .int (iZ ((i : Nat) : Int)))]) {tx : Nat → Int} {ln : Nat} {pl : Nat} {su : Bool} {tk : Nat} {nu : Int} {K : Kom} {Kto : Kom} {Kt : Kom} {ix : Nat} {z : Nat} {E : Nat → Int} {C : Nat → Int} {M : Nat → Int} {T : Nat → Int} {n9 : Int} {tr : Int64} {kp : Nat → Int} {Ki : Nat → Kom} {Kk : Nat → Kom} {F : Nat → Int} {A : Kom} (hI : lwI tx ln tk K Kto ix z M T n9 kp Ki Kk F A) (hH : lwH G s (lwC Y hv g9 u af tx ln pl su tk nu K Kto Kt ix z E C M T n9 tr tr kp Ki Kk F A) H locs) (kk : lwK p l e s m below meth c cells slots Q G Y b hv g9 u af ls) : W p l e room_1 s m #[Value.ref b] below meth c H locs cells slots Q (F0 m 351 ls []) := by
  obtain ⟨hx, hb, hml, hown, hts, hX, hK⟩ := X
  obtain ⟨hP, hD, hS⟩ := hH
  have hbA : ¬ (fun q : Nat => s.heap.size ≤ q) b := Nat.not_le.mpr hX.2.1
  have i1 := hI.1
  have i2 := hI.2.1
  have i3 := hI.2.2.1
  have i4 := hI.2.2.2.1
  have i5 := hI.2.2.2.2.1
  have i6 := hI.2.2.2.2.2
  have hW := i2.1
  have hE := i2.2.1
  have hV := i2.2.2.1
  have h26 := i2.2.2.2
  have hno : F 26 < 0 := by omega
  have hKb := hW.1
  have hvb := mV_b hV
  have hk2 : K 0 2 = A 17 3 := hE.k2
  have hL9 := hX.2.2
  have ra1 := iZ_range (xs (i + 1))
  have ra2 := iZ_range (xs (i + 2))
  cases hf : fMoves K (xs (i + 1)).toInt (xs (i + 2)).toInt
  · skip
    refine lv_aload_n hx hb dL_law_351 rfl (lv_at hl 1 rfl) ?_
    refine lv_aload_n hx hb dL_law_352 rfl (lv_at hl 0 rfl) ?_
    refine lv_iload_n hx hb dL_law_353 rfl (lv_at hl 3 rfl) ?_
    refine z_iconst hx hb dL_law_354 ?_
    refine z_iadd hx hb dL_law_355 ?_
    refine z_sld hx hb hX hbA hS (i + 1) (by omega) dL_law_356 ?_
    refine lv_aload_n hx hb dL_law_357 rfl (lv_at hl 0 rfl) ?_
    refine lv_iload_n hx hb dL_law_358 rfl (lv_at hl 3 rfl) ?_
    refine z_iconst hx hb dL_law_359 ?_
    refine z_iadd hx hb dL_law_360 ?_
    refine z_sld hx hb hX hbA hS (i + 2) (by omega) dL_law_361 ?_
    have hP0 := va_P_pm (lw_pm (lwC Y hv g9 u af tx ln pl su tk nu K Kto Kt ix z E C M T n9 tr tr kp Ki Kk F A) (ps := [0, 4, ix + 15, 2]) (pm_op ix i4.1)) hP
    have hD0 := va_D_pm (lw_pm (lwC Y hv g9 u af tx ln pl su tk nu K Kto Kt ix z E C M T n9 tr tr kp Ki Kk F A) (ps := [0, 4, ix + 15, 2]) (pm_op ix i4.1)) hD
    refine mu_V (As := [.int (iZ (xs (i + 1)).toInt), .int (iZ (xs (i + 2)).toInt)]) (rest := []) (F := lwR [0, 4, ix + 15, 2] (lwC Y hv g9 u af tx ln pl su tk nu K Kto Kt ix z E C M T n9 tr tr kp Ki Kk F A)) (wc' := svO Y hv (u.1 1) (u.1 2) (u.1 3) (u.1 4) (u.1 5) (u.1 6) (u.1 7) (u.1 8) (u.1 9) ++ opW Y (u.1 4) (u.1 11) (u.2.1 2) ((ix : Nat) : Int) ((z : Nat) : Int) ix (u.2.2.1 ix) (Kk ix) (u.1 2) (u.2.1 0) K (fMoves K (xs (i + 1)).toInt (xs (i + 2)).toInt) (kMoves K (xs (i + 1)).toInt (xs (i + 2)).toInt)) ⟨hx, hb, hml, hown, hts⟩ (c_X6_moves l G Y hv (u.1 1) (u.1 2) (u.1 3) (u.1 4) (u.1 5) (u.1 6) (u.1 7) (u.1 8) (u.1 9) (u.1 11) (u.2.1 2) ((ix : Nat) : Int) ((z : Nat) : Int) ix (u.2.2.1 ix) (Kk ix) (u.2.1 0) K hW ⟨⟨rfl, i4.1⟩, by omega, by omega⟩ (xs (i + 1)).toInt (xs (i + 2)).toInt ⟨ra1, ra2⟩) (cwV 2 hts gL_law_X6_moves rfl rfl rfl (by decide +kernel) ⟨Nat.le_of_ble_eq_true rfl, Nat.le_of_ble_eq_true rfl⟩) hK hP0 hD0 hS 0 rfl rfl (Eq.refl [hv, u.1 4, u.1 11, u.2.1 2 ix, u.2.2.1 ix 1, u.2.2.1 ix 2, u.2.2.1 ix 3, u.2.2.1 ix 4, u.2.2.1 ix 5, u.2.2.1 ix 6, u.2.2.1 ix 7, u.1 2, u.2.1 0 1, u.2.1 0 2, u.2.1 0 3, u.2.1 0 4, u.2.1 0 5, u.2.1 0 6, u.2.1 0 7]) rfl hl.1 rfl (Nat.le_of_ble_eq_true rfl) dL_law_362 hce (fun H locs hP1 hD1 hS => ?_)
    show W _ _ _ _ _ _ _ _ _ _ _ _ _ _ _ (F0 _ _ _ (.int (iZ (rMoves K (xs (i + 1)).toInt (xs (i + 2)).toInt)) :: []))
    rw [hf] at hP1 hD1
    have pmb := lw_back (ch := lwC Y hv g9 u af tx ln pl su tk nu K Kto Kt ix z E C M T n9 tr tr kp Ki Kk F A) (ch' := lwC Y hv g9 u af tx ln pl su tk nu K Kto Kt ix z E C M T n9 tr tr kp Ki Kk F A) (ps := [0, 4, ix + 15, 2]) (pm_op ix i4.1) (rfl) (w := svO Y hv (u.1 1) (u.1 2) (u.1 3) (u.1 4) (u.1 5) (u.1 6) (u.1 7) (u.1 8) (u.1 9) ++ (paW Y (u.1 4) (u.1 11) (u.2.1 2) ((ix : Nat) : Int) ((z : Nat) : Int) ++ (cmW Y (u.2.1 2 ix) (u.2.2.1 ix) (Kk ix) ++ cmW Y (u.1 2) (u.2.1 0) K))) (rfl)
    replace hP : va_P G vwCl (lwF (lwC Y hv g9 u af tx ln pl su tk nu K Kto Kt ix z E C M T n9 tr tr kp Ki Kk F A)) H := va_P_pm pmb hP1
    replace hD : va_D _ (lwF (lwC Y hv g9 u af tx ln pl su tk nu K Kto Kt ix z E C M T n9 tr tr kp Ki Kk F A)) := va_D_pm pmb hD1
    clear pmb hP1 hD1 hP0 hD0
    refine lv_aload_n hx hb dL_law_365 rfl (lv_at hl 2 rfl) ?_
    refine lv_aload_n hx hb dL_law_366 rfl (lv_at hl 0 rfl) ?_
    refine lv_iload_n hx hb dL_law_367 rfl (lv_at hl 3 rfl) ?_
    refine z_iconst hx hb dL_law_368 ?_
    refine z_iadd hx hb dL_law_369 ?_
    refine z_sld hx hb hX hbA hS (i + 1) (by omega) dL_law_370 ?_
    refine lv_aload_n hx hb dL_law_371 rfl (lv_at hl 0 rfl) ?_
    refine lv_iload_n hx hb dL_law_372 rfl (lv_at hl 3 rfl) ?_
    refine z_iconst hx hb dL_law_373 ?_
    refine z_iadd hx hb dL_law_374 ?_
    refine z_sld hx hb hX hbA hS (i + 2) (by omega) dL_law_375 ?_
    have hP0 := va_P_pm (lw_pm (lwC Y hv g9 u af tx ln pl su tk nu K Kto Kt ix z E C M T n9 tr tr kp Ki Kk F A) (ps := [12]) (by decide)) hP
    have hD0 := va_D_pm (lw_pm (lwC Y hv g9 u af tx ln pl su tk nu K Kto Kt ix z E C M T n9 tr tr kp Ki Kk F A) (ps := [12]) (by decide)) hD
    refine mu_V (As := [.int (iZ (xs (i + 1)).toInt), .int (iZ (xs (i + 2)).toInt)]) (rest := [.int (iZ (rMoves K (xs (i + 1)).toInt (xs (i + 2)).toInt))]) (F := lwR [12] (lwC Y hv g9 u af tx ln pl su tk nu K Kto Kt ix z E C M T n9 tr tr kp Ki Kk F A)) (wc' := moW Y g9 af (bif fMoves (kF F A (A 17)) (xs (i + 1)).toInt (xs (i + 2)).toInt then opF F else F) (bif fMoves (kF F A (A 17)) (xs (i + 1)).toInt (xs (i + 2)).toInt then opA F A (va_up (A 17) (29 + (xs (i + 1)).toInt).toNat (nbr (kF F A (A 17)) (A 17 (29 + Int.toNat (xs (i + 1)).toInt)) (xs (i + 2)).toInt)) else A) tr) ⟨hx, hb, hml, hown, hts⟩ (c_X7_moves l G Y g9 af F A tr hV hno (by omega) (xs (i + 1)).toInt (xs (i + 2)).toInt ⟨ra1, ra2⟩) (cwV 2 hts gL_law_X7_moves rfl rfl rfl (by decide +kernel) ⟨Nat.le_of_ble_eq_true rfl, Nat.le_of_ble_eq_true rfl⟩) hK hP0 hD0 hS 0 rfl rfl (Eq.refl [g9, af 1, af 11, af 12, af 16, af 17, af 18, af 19, af 20, af 21, af 24]) rfl hl.1 rfl (Nat.le_of_ble_eq_true rfl) dL_law_376 hce (fun H locs hP1 hD1 hS => ?_)
    show W _ _ _ _ _ _ _ _ _ _ _ _ _ _ _ (F0 _ _ _ (.int (iZ (rMoves (kF F A (A 17)) (xs (i + 1)).toInt (xs (i + 2)).toInt)) :: [.int (iZ (rMoves K (xs (i + 1)).toInt (xs (i + 2)).toInt))]))
    have hf7 : fMoves (kF F A (A 17)) (xs (i + 1)).toInt (xs (i + 2)).toInt = false := (rMoves_c hE _ _).2.symm.trans hf
    rw [hf7, cond_false, cond_false] at hP1 hD1
    have pmb := lw_back (ch := lwC Y hv g9 u af tx ln pl su tk nu K Kto Kt ix z E C M T n9 tr tr kp Ki Kk F A) (ch' := lwC Y hv g9 u af tx ln pl su tk nu K Kto Kt ix z E C M T n9 tr tr kp Ki Kk F A) (ps := [12]) (by decide) (rfl) (w := moW Y g9 af F A tr) (rfl)
    replace hP : va_P G vwCl (lwF (lwC Y hv g9 u af tx ln pl su tk nu K Kto Kt ix z E C M T n9 tr tr kp Ki Kk F A)) H := va_P_pm pmb hP1
    replace hD : va_D _ (lwF (lwC Y hv g9 u af tx ln pl su tk nu K Kto Kt ix z E C M T n9 tr tr kp Ki Kk F A)) := va_D_pm pmb hD1
    clear pmb hP1 hD1 hP0 hD0
    refine z_cmpeq (tgt := 990) hx hb ((rMoves_c hE _ _).1.symm) dL_law_379 (by decide) ?_
    exact kk tx ln pl su tk nu K Kto Kt ix z E C M T n9 tr kp Ki Kk F A H locs (hI) ⟨hP, hD, hS⟩
  · skip
    refine lv_aload_n hx hb dL_law_351 rfl (lv_at hl 1 rfl) ?_
    refine lv_aload_n hx hb dL_law_352 rfl (lv_at hl 0 rfl) ?_
    refine lv_iload_n hx hb dL_law_353 rfl (lv_at hl 3 rfl) ?_
    refine z_iconst hx hb dL_law_354 ?_
    refine z_iadd hx hb dL_law_355 ?_
    refine z_sld hx hb hX hbA hS (i + 1) (by omega) dL_law_356 ?_
    refine lv_aload_n hx hb dL_law_357 rfl (lv_at hl 0 rfl) ?_
    refine lv_iload_n hx hb dL_law_358 rfl (lv_at hl 3 rfl) ?_
    refine z_iconst hx hb dL_law_359 ?_
    refine z_iadd hx hb dL_law_360 ?_
    refine z_sld hx hb hX hbA hS (i + 2) (by omega) dL_law_361 ?_
    have hP0 := va_P_pm (lw_pm (lwC Y hv g9 u af tx ln pl su tk nu K Kto Kt ix z E C M T n9 tr tr kp Ki Kk F A) (ps := [0, 4, ix + 15, 2]) (pm_op ix i4.1)) hP
    have hD0 := va_D_pm (lw_pm (lwC Y hv g9 u af tx ln pl su tk nu K Kto Kt ix z E C M T n9 tr tr kp Ki Kk F A) (ps := [0, 4, ix + 15, 2]) (pm_op ix i4.1)) hD
    refine mu_V (As := [.int (iZ (xs (i + 1)).toInt), .int (iZ (xs (i + 2)).toInt)]) (rest := []) (F := lwR [0, 4, ix + 15, 2] (lwC Y hv g9 u af tx ln pl su tk nu K Kto Kt ix z E C M T n9 tr tr kp Ki Kk F A)) (wc' := svO Y hv (u.1 1) (u.1 2) (u.1 3) (u.1 4) (u.1 5) (u.1 6) (u.1 7) (u.1 8) (u.1 9) ++ opW Y (u.1 4) (u.1 11) (u.2.1 2) ((ix : Nat) : Int) ((z : Nat) : Int) ix (u.2.2.1 ix) (Kk ix) (u.1 2) (u.2.1 0) K (fMoves K (xs (i + 1)).toInt (xs (i + 2)).toInt) (kMoves K (xs (i + 1)).toInt (xs (i + 2)).toInt)) ⟨hx, hb, hml, hown, hts⟩ (c_X6_moves l G Y hv (u.1 1) (u.1 2) (u.1 3) (u.1 4) (u.1 5) (u.1 6) (u.1 7) (u.1 8) (u.1 9) (u.1 11) (u.2.1 2) ((ix : Nat) : Int) ((z : Nat) : Int) ix (u.2.2.1 ix) (Kk ix) (u.2.1 0) K hW ⟨⟨rfl, i4.1⟩, by omega, by omega⟩ (xs (i + 1)).toInt (xs (i + 2)).toInt ⟨ra1, ra2⟩) (cwV 2 hts gL_law_X6_moves rfl rfl rfl (by decide +kernel) ⟨Nat.le_of_ble_eq_true rfl, Nat.le_of_ble_eq_true rfl⟩) hK hP0 hD0 hS 0 rfl rfl (Eq.refl [hv, u.1 4, u.1 11, u.2.1 2 ix, u.2.2.1 ix 1, u.2.2.1 ix 2, u.2.2.1 ix 3, u.2.2.1 ix 4, u.2.2.1 ix 5, u.2.2.1 ix 6, u.2.2.1 ix 7, u.1 2, u.2.1 0 1, u.2.1 0 2, u.2.1 0 3, u.2.1 0 4, u.2.1 0 5, u.2.1 0 6, u.2.1 0 7]) rfl hl.1 rfl (Nat.le_of_ble_eq_true rfl) dL_law_362 hce (fun H locs hP1 hD1 hS => ?_)
    show W _ _ _ _ _ _ _ _ _ _ _ _ _ _ _ (F0 _ _ _ (.int (iZ (rMoves K (xs (i + 1)).toInt (xs (i + 2)).toInt)) :: []))
    rw [hf, op_t] at hP1 hD1
    have pmb := lw_back (ch := lwC Y hv g9 u af tx ln pl su tk nu K Kto Kt ix z E C M T n9 tr tr kp Ki Kk F A) (ch' := lwC Y hv g9 u af tx ln pl su tk nu (kMoves K (xs (i + 1)).toInt (xs (i + 2)).toInt) Kto Kt ((ix + 1) % 10) (min (z + 1) 10) E C M T n9 tr tr kp Ki (va_up Kk ix K) F A) (ps := [0, 4, ix + 15, 2]) (pm_op ix i4.1) (rs_op Y hv g9 u af tx ln pl su tk nu K Kto Kt ix z E C M T n9 tr tr kp Ki Kk F A (kMoves K (xs (i + 1)).toInt (xs (i + 2)).toInt) K ((ix + 1) % 10) (min (z + 1) 10) i4.1) (w := svO Y hv (u.1 1) (u.1 2) (u.1 3) (u.1 4) (u.1 5) (u.1 6) (u.1 7) (u.1 8) (u.1 9) ++ (paW Y (u.1 4) (u.1 11) (u.2.1 2) (((ix + 1) % 10 : Nat) : Int) ((min (z + 1) 10 : Nat) : Int) ++ (cmW Y (u.2.1 2 ix) (u.2.2.1 ix) K ++ cmW Y (u.1 2) (u.2.1 0) (kMoves K (xs (i + 1)).toInt (xs (i + 2)).toInt)))) (by show _ = svO Y hv (u.1 1) (u.1 2) (u.1 3) (u.1 4) (u.1 5) (u.1 6) (u.1 7) (u.1 8) (u.1 9) ++ (paW Y (u.1 4) (u.1 11) (u.2.1 2) (((ix + 1) % 10 : Nat) : Int) ((min (z + 1) 10 : Nat) : Int) ++ (cmW Y (u.2.1 2 ix) (u.2.2.1 ix) (va_up Kk ix K ix) ++ cmW Y (u.1 2) (u.2.1 0) (kMoves K (xs (i + 1)).toInt (xs (i + 2)).toInt))); rw [up_eq])
    replace hP : va_P G vwCl (lwF (lwC Y hv g9 u af tx ln pl su tk nu (kMoves K (xs (i + 1)).toInt (xs (i + 2)).toInt) Kto Kt ((ix + 1) % 10) (min (z + 1) 10) E C M T n9 tr tr kp Ki (va_up Kk ix K) F A)) H := va_P_pm pmb hP1
    replace hD : va_D _ (lwF (lwC Y hv g9 u af tx ln pl su tk nu (kMoves K (xs (i + 1)).toInt (xs (i + 2)).toInt) Kto Kt ((ix + 1) % 10) (min (z + 1) 10) E C M T n9 tr tr kp Ki (va_up Kk ix K) F A)) := va_D_pm pmb hD1
    clear pmb hP1 hD1 hP0 hD0
    refine lv_aload_n hx hb dL_law_365 rfl (lv_at hl 2 rfl) ?_
    refine lv_aload_n hx hb dL_law_366 rfl (lv_at hl 0 rfl) ?_
    refine lv_iload_n hx hb dL_law_367 rfl (lv_at hl 3 rfl) ?_
    refine z_iconst hx hb dL_law_368 ?_
    refine z_iadd hx hb dL_law_369 ?_
    refine z_sld hx hb hX hbA hS (i + 1) (by omega) dL_law_370 ?_
    refine lv_aload_n hx hb dL_law_371 rfl (lv_at hl 0 rfl) ?_
    refine lv_iload_n hx hb dL_law_372 rfl (lv_at hl 3 rfl) ?_
    refine z_iconst hx hb dL_law_373 ?_
    refine z_iadd hx hb dL_law_374 ?_
    refine z_sld hx hb hX hbA hS (i + 2) (by omega) dL_law_375 ?_
    have hP0 := va_P_pm (lw_pm (lwC Y hv g9 u af tx ln pl su tk nu (kMoves K (xs (i + 1)).toInt (xs (i + 2)).toInt) Kto Kt ((ix + 1) % 10) (min (z + 1) 10) E C M T n9 tr tr kp Ki (va_up Kk ix K) F A) (ps := [12]) (by decide)) hP
    have hD0 := va_D_pm (lw_pm (lwC Y hv g9 u af tx ln pl su tk nu (kMoves K (xs (i + 1)).toInt (xs (i + 2)).toInt) Kto Kt ((ix + 1) % 10) (min (z + 1) 10) E C M T n9 tr tr kp Ki (va_up Kk ix K) F A) (ps := [12]) (by decide)) hD
    refine mu_V (As := [.int (iZ (xs (i + 1)).toInt), .int (iZ (xs (i + 2)).toInt)]) (rest := [.int (iZ (rMoves K (xs (i + 1)).toInt (xs (i + 2)).toInt))]) (F := lwR [12] (lwC Y hv g9 u af tx ln pl su tk nu (kMoves K (xs (i + 1)).toInt (xs (i + 2)).toInt) Kto Kt ((ix + 1) % 10) (min (z + 1) 10) E C M T n9 tr tr kp Ki (va_up Kk ix K) F A)) (wc' := moW Y g9 af (bif fMoves (kF F A (A 17)) (xs (i + 1)).toInt (xs (i + 2)).toInt then opF F else F) (bif fMoves (kF F A (A 17)) (xs (i + 1)).toInt (xs (i + 2)).toInt then opA F A (va_up (A 17) (29 + (xs (i + 1)).toInt).toNat (nbr (kF F A (A 17)) (A 17 (29 + Int.toNat (xs (i + 1)).toInt)) (xs (i + 2)).toInt)) else A) tr) ⟨hx, hb, hml, hown, hts⟩ (c_X7_moves l G Y g9 af F A tr hV hno (by omega) (xs (i + 1)).toInt (xs (i + 2)).toInt ⟨ra1, ra2⟩) (cwV 2 hts gL_law_X7_moves rfl rfl rfl (by decide +kernel) ⟨Nat.le_of_ble_eq_true rfl, Nat.le_of_ble_eq_true rfl⟩) hK hP0 hD0 hS 0 rfl rfl (Eq.refl [g9, af 1, af 11, af 12, af 16, af 17, af 18, af 19, af 20, af 21, af 24]) rfl hl.1 rfl (Nat.le_of_ble_eq_true rfl) dL_law_376 hce (fun H locs hP1 hD1 hS => ?_)
    show W _ _ _ _ _ _ _ _ _ _ _ _ _ _ _ (F0 _ _ _ (.int (iZ (rMoves (kF F A (A 17)) (xs (i + 1)).toInt (xs (i + 2)).toInt)) :: [.int (iZ (rMoves K (xs (i + 1)).toInt (xs (i + 2)).toInt))]))
    have hf7 : fMoves (kF F A (A 17)) (xs (i + 1)).toInt (xs (i + 2)).toInt = true := (rMoves_c hE _ _).2.symm.trans hf
    rw [hf7, cond_true, cond_true] at hP1 hD1
    have pmb := lw_back (ch := lwC Y hv g9 u af tx ln pl su tk nu (kMoves K (xs (i + 1)).toInt (xs (i + 2)).toInt) Kto Kt ((ix + 1) % 10) (min (z + 1) 10) E C M T n9 tr tr kp Ki (va_up Kk ix K) F A) (ch' := lwC Y hv g9 u af tx ln pl su tk nu (kMoves K (xs (i + 1)).toInt (xs (i + 2)).toInt) Kto Kt ((ix + 1) % 10) (min (z + 1) 10) E C M T n9 tr tr kp Ki (va_up Kk ix K) (opF F) (opA F A (va_up (A 17) (29 + (xs (i + 1)).toInt).toNat (nbr (kF F A (A 17)) (A 17 (29 + Int.toNat (xs (i + 1)).toInt)) (xs (i + 2)).toInt)))) (ps := [12]) (by decide) (rfl) (w := moW Y g9 af (opF F) (opA F A (va_up (A 17) (29 + (xs (i + 1)).toInt).toNat (nbr (kF F A (A 17)) (A 17 (29 + Int.toNat (xs (i + 1)).toInt)) (xs (i + 2)).toInt))) tr) (rfl)
    replace hP : va_P G vwCl (lwF (lwC Y hv g9 u af tx ln pl su tk nu (kMoves K (xs (i + 1)).toInt (xs (i + 2)).toInt) Kto Kt ((ix + 1) % 10) (min (z + 1) 10) E C M T n9 tr tr kp Ki (va_up Kk ix K) (opF F) (opA F A (va_up (A 17) (29 + (xs (i + 1)).toInt).toNat (nbr (kF F A (A 17)) (A 17 (29 + Int.toNat (xs (i + 1)).toInt)) (xs (i + 2)).toInt))))) H := va_P_pm pmb hP1
    replace hD : va_D _ (lwF (lwC Y hv g9 u af tx ln pl su tk nu (kMoves K (xs (i + 1)).toInt (xs (i + 2)).toInt) Kto Kt ((ix + 1) % 10) (min (z + 1) 10) E C M T n9 tr tr kp Ki (va_up Kk ix K) (opF F) (opA F A (va_up (A 17) (29 + (xs (i + 1)).toInt).toNat (nbr (kF F A (A 17)) (A 17 (29 + Int.toNat (xs (i + 1)).toInt)) (xs (i + 2)).toInt))))) := va_D_pm pmb hD1
    clear pmb hP1 hD1 hP0 hD0
    refine z_cmpeq (tgt := 990) hx hb ((rMoves_c hE _ _).1.symm) dL_law_379 (by decide) ?_
    exact kk tx ln pl su tk nu (kMoves K (xs (i + 1)).toInt (xs (i + 2)).toInt) Kto Kt ((ix + 1) % 10) (min (z + 1) 10) E C M T n9 tr kp Ki (va_up Kk ix K) (opF F) (opA F A (va_up (A 17) (29 + (xs (i + 1)).toInt).toNat (nbr (kF F A (A 17)) (A 17 (29 + Int.toNat (xs (i + 1)).toInt)) (xs (i + 2)).toInt))) H locs (oi_moves hI hf) ⟨hP, hD, hS⟩

set_option maxHeartbeats 4000000 in
set_option maxRecDepth 100000 in
theorem lc_prunes {p : Program} {l : Launch} {e : Env} {s : State} {m : MethodId} {below : List Frame} {meth : Method} {c : Code} {H : Heap} {locs : List Loc} {cells slots : Nat} {Q : State → Prop} {G : va_G} {Y : Nat → ClassId} {b L : Nat} {xs : Nat → Int32} (X : lwX p s m meth c b L xs G Y) (hce : cells ≤ 600000 ∧ slots ≤ 7302249) {hv g9 : Nat} {u : svU} {af : Nat → Nat} {i : Nat} (hi : i + 4 ≤ L) {ls : Array Slot} (hl : lv_has ls 4 [(0, .ref b), (1, .ref hv), (2, .ref g9), (3, .int (iZ ((i : Nat) : Int)))]) {tx : Nat → Int} {ln : Nat} {pl : Nat} {su : Bool} {tk : Nat} {nu : Int} {K : Kom} {Kto : Kom} {Kt : Kom} {ix : Nat} {z : Nat} {E : Nat → Int} {C : Nat → Int} {M : Nat → Int} {T : Nat → Int} {n9 : Int} {tr : Int64} {kp : Nat → Int} {Ki : Nat → Kom} {Kk : Nat → Kom} {F : Nat → Int} {A : Kom} (hI : lwI tx ln tk K Kto ix z M T n9 kp Ki Kk F A) (hH : lwH G s (lwC Y hv g9 u af tx ln pl su tk nu K Kto Kt ix z E C M T n9 tr tr kp Ki Kk F A) H locs) (kk : lwK p l e s m below meth c cells slots Q G Y b hv g9 u af ls) : W p l e room_1 s m #[Value.ref b] below meth c H locs cells slots Q (F0 m 384 ls []) := by
  obtain ⟨hx, hb, hml, hown, hts, hX, hK⟩ := X
  obtain ⟨hP, hD, hS⟩ := hH
  have hbA : ¬ (fun q : Nat => s.heap.size ≤ q) b := Nat.not_le.mpr hX.2.1
  have i1 := hI.1
  have i2 := hI.2.1
  have i3 := hI.2.2.1
  have i4 := hI.2.2.2.1
  have i5 := hI.2.2.2.2.1
  have i6 := hI.2.2.2.2.2
  have hW := i2.1
  have hE := i2.2.1
  have hV := i2.2.2.1
  have h26 := i2.2.2.2
  have hno : F 26 < 0 := by omega
  have hKb := hW.1
  have hvb := mV_b hV
  have hk2 : K 0 2 = A 17 3 := hE.k2
  have hL9 := hX.2.2
  have ra1 := iZ_range (xs (i + 1))
  have ra2 := iZ_range (xs (i + 2))
  cases hf : fPrunes K (xs (i + 1)).toInt (xs (i + 2)).toInt
  · skip
    refine lv_aload_n hx hb dL_law_384 rfl (lv_at hl 1 rfl) ?_
    refine lv_aload_n hx hb dL_law_385 rfl (lv_at hl 0 rfl) ?_
    refine lv_iload_n hx hb dL_law_386 rfl (lv_at hl 3 rfl) ?_
    refine z_iconst hx hb dL_law_387 ?_
    refine z_iadd hx hb dL_law_388 ?_
    refine z_sld hx hb hX hbA hS (i + 1) (by omega) dL_law_389 ?_
    refine lv_aload_n hx hb dL_law_390 rfl (lv_at hl 0 rfl) ?_
    refine lv_iload_n hx hb dL_law_391 rfl (lv_at hl 3 rfl) ?_
    refine z_iconst hx hb dL_law_392 ?_
    refine z_iadd hx hb dL_law_393 ?_
    refine z_sld hx hb hX hbA hS (i + 2) (by omega) dL_law_394 ?_
    have hP0 := va_P_pm (lw_pm (lwC Y hv g9 u af tx ln pl su tk nu K Kto Kt ix z E C M T n9 tr tr kp Ki Kk F A) (ps := [0, 4, ix + 15, 2]) (pm_op ix i4.1)) hP
    have hD0 := va_D_pm (lw_pm (lwC Y hv g9 u af tx ln pl su tk nu K Kto Kt ix z E C M T n9 tr tr kp Ki Kk F A) (ps := [0, 4, ix + 15, 2]) (pm_op ix i4.1)) hD
    refine mu_V (As := [.int (iZ (xs (i + 1)).toInt), .int (iZ (xs (i + 2)).toInt)]) (rest := []) (F := lwR [0, 4, ix + 15, 2] (lwC Y hv g9 u af tx ln pl su tk nu K Kto Kt ix z E C M T n9 tr tr kp Ki Kk F A)) (wc' := svO Y hv (u.1 1) (u.1 2) (u.1 3) (u.1 4) (u.1 5) (u.1 6) (u.1 7) (u.1 8) (u.1 9) ++ opW Y (u.1 4) (u.1 11) (u.2.1 2) ((ix : Nat) : Int) ((z : Nat) : Int) ix (u.2.2.1 ix) (Kk ix) (u.1 2) (u.2.1 0) K (fPrunes K (xs (i + 1)).toInt (xs (i + 2)).toInt) (kS K 2 (Int.toNat (xs (i + 1)).toInt) (max (K 2 (Int.toNat (xs (i + 1)).toInt) - (xs (i + 2)).toInt) 0))) ⟨hx, hb, hml, hown, hts⟩ (c_X6_prunes l G Y hv (u.1 1) (u.1 2) (u.1 3) (u.1 4) (u.1 5) (u.1 6) (u.1 7) (u.1 8) (u.1 9) (u.1 11) (u.2.1 2) ((ix : Nat) : Int) ((z : Nat) : Int) ix (u.2.2.1 ix) (Kk ix) (u.2.1 0) K hW ⟨⟨rfl, i4.1⟩, by omega, by omega⟩ (xs (i + 1)).toInt (xs (i + 2)).toInt ⟨ra1, ra2⟩) (cwV 2 hts gL_law_X6_prunes rfl rfl rfl (by decide +kernel) ⟨Nat.le_of_ble_eq_true rfl, Nat.le_of_ble_eq_true rfl⟩) hK hP0 hD0 hS 0 rfl rfl (Eq.refl [hv, u.1 4, u.1 11, u.2.1 2 ix, u.2.2.1 ix 1, u.2.2.1 ix 2, u.2.2.1 ix 3, u.2.2.1 ix 4, u.2.2.1 ix 5, u.2.2.1 ix 6, u.2.2.1 ix 7, u.1 2, u.2.1 0 1, u.2.1 0 2, u.2.1 0 3, u.2.1 0 4, u.2.1 0 5, u.2.1 0 6, u.2.1 0 7]) rfl hl.1 rfl (Nat.le_of_ble_eq_true rfl) dL_law_395 hce (fun H locs hP1 hD1 hS => ?_)
    show W _ _ _ _ _ _ _ _ _ _ _ _ _ _ _ (F0 _ _ _ (.int (iZ (rPrunes K (xs (i + 1)).toInt (xs (i + 2)).toInt)) :: []))
    rw [hf] at hP1 hD1
    have pmb := lw_back (ch := lwC Y hv g9 u af tx ln pl su tk nu K Kto Kt ix z E C M T n9 tr tr kp Ki Kk F A) (ch' := lwC Y hv g9 u af tx ln pl su tk nu K Kto Kt ix z E C M T n9 tr tr kp Ki Kk F A) (ps := [0, 4, ix + 15, 2]) (pm_op ix i4.1) (rfl) (w := svO Y hv (u.1 1) (u.1 2) (u.1 3) (u.1 4) (u.1 5) (u.1 6) (u.1 7) (u.1 8) (u.1 9) ++ (paW Y (u.1 4) (u.1 11) (u.2.1 2) ((ix : Nat) : Int) ((z : Nat) : Int) ++ (cmW Y (u.2.1 2 ix) (u.2.2.1 ix) (Kk ix) ++ cmW Y (u.1 2) (u.2.1 0) K))) (rfl)
    replace hP : va_P G vwCl (lwF (lwC Y hv g9 u af tx ln pl su tk nu K Kto Kt ix z E C M T n9 tr tr kp Ki Kk F A)) H := va_P_pm pmb hP1
    replace hD : va_D _ (lwF (lwC Y hv g9 u af tx ln pl su tk nu K Kto Kt ix z E C M T n9 tr tr kp Ki Kk F A)) := va_D_pm pmb hD1
    clear pmb hP1 hD1 hP0 hD0
    refine lv_aload_n hx hb dL_law_398 rfl (lv_at hl 2 rfl) ?_
    refine lv_aload_n hx hb dL_law_399 rfl (lv_at hl 0 rfl) ?_
    refine lv_iload_n hx hb dL_law_400 rfl (lv_at hl 3 rfl) ?_
    refine z_iconst hx hb dL_law_401 ?_
    refine z_iadd hx hb dL_law_402 ?_
    refine z_sld hx hb hX hbA hS (i + 1) (by omega) dL_law_403 ?_
    refine lv_aload_n hx hb dL_law_404 rfl (lv_at hl 0 rfl) ?_
    refine lv_iload_n hx hb dL_law_405 rfl (lv_at hl 3 rfl) ?_
    refine z_iconst hx hb dL_law_406 ?_
    refine z_iadd hx hb dL_law_407 ?_
    refine z_sld hx hb hX hbA hS (i + 2) (by omega) dL_law_408 ?_
    have hP0 := va_P_pm (lw_pm (lwC Y hv g9 u af tx ln pl su tk nu K Kto Kt ix z E C M T n9 tr tr kp Ki Kk F A) (ps := [12]) (by decide)) hP
    have hD0 := va_D_pm (lw_pm (lwC Y hv g9 u af tx ln pl su tk nu K Kto Kt ix z E C M T n9 tr tr kp Ki Kk F A) (ps := [12]) (by decide)) hD
    refine mu_V (As := [.int (iZ (xs (i + 1)).toInt), .int (iZ (xs (i + 2)).toInt)]) (rest := [.int (iZ (rPrunes K (xs (i + 1)).toInt (xs (i + 2)).toInt))]) (F := lwR [12] (lwC Y hv g9 u af tx ln pl su tk nu K Kto Kt ix z E C M T n9 tr tr kp Ki Kk F A)) (wc' := moW Y g9 af (bif fPrunes (kF F A (A 17)) (xs (i + 1)).toInt (xs (i + 2)).toInt then opF F else F) (bif fPrunes (kF F A (A 17)) (xs (i + 1)).toInt (xs (i + 2)).toInt then opA F A (va_up (A 17) (9 + (xs (i + 1)).toInt).toNat (max ((A 17) (9 + Int.toNat (xs (i + 1)).toInt) - (xs (i + 2)).toInt) 0)) else A) tr) ⟨hx, hb, hml, hown, hts⟩ (c_X7_prunes l G Y g9 af F A tr hV hno (by omega) (xs (i + 1)).toInt (xs (i + 2)).toInt ⟨ra1, ra2⟩) (cwV 2 hts gL_law_X7_prunes rfl rfl rfl (by decide +kernel) ⟨Nat.le_of_ble_eq_true rfl, Nat.le_of_ble_eq_true rfl⟩) hK hP0 hD0 hS 0 rfl rfl (Eq.refl [g9, af 1, af 11, af 12, af 16, af 17, af 18, af 19, af 20, af 21, af 24]) rfl hl.1 rfl (Nat.le_of_ble_eq_true rfl) dL_law_409 hce (fun H locs hP1 hD1 hS => ?_)
    show W _ _ _ _ _ _ _ _ _ _ _ _ _ _ _ (F0 _ _ _ (.int (iZ (rPrunes (kF F A (A 17)) (xs (i + 1)).toInt (xs (i + 2)).toInt)) :: [.int (iZ (rPrunes K (xs (i + 1)).toInt (xs (i + 2)).toInt))]))
    have hf7 : fPrunes (kF F A (A 17)) (xs (i + 1)).toInt (xs (i + 2)).toInt = false := (rPrunes_c hE _ _).2.symm.trans hf
    rw [hf7, cond_false, cond_false] at hP1 hD1
    have pmb := lw_back (ch := lwC Y hv g9 u af tx ln pl su tk nu K Kto Kt ix z E C M T n9 tr tr kp Ki Kk F A) (ch' := lwC Y hv g9 u af tx ln pl su tk nu K Kto Kt ix z E C M T n9 tr tr kp Ki Kk F A) (ps := [12]) (by decide) (rfl) (w := moW Y g9 af F A tr) (rfl)
    replace hP : va_P G vwCl (lwF (lwC Y hv g9 u af tx ln pl su tk nu K Kto Kt ix z E C M T n9 tr tr kp Ki Kk F A)) H := va_P_pm pmb hP1
    replace hD : va_D _ (lwF (lwC Y hv g9 u af tx ln pl su tk nu K Kto Kt ix z E C M T n9 tr tr kp Ki Kk F A)) := va_D_pm pmb hD1
    clear pmb hP1 hD1 hP0 hD0
    refine z_cmpeq (tgt := 990) hx hb ((rPrunes_c hE _ _).1.symm) dL_law_412 (by decide) ?_
    exact kk tx ln pl su tk nu K Kto Kt ix z E C M T n9 tr kp Ki Kk F A H locs (hI) ⟨hP, hD, hS⟩
  · skip
    refine lv_aload_n hx hb dL_law_384 rfl (lv_at hl 1 rfl) ?_
    refine lv_aload_n hx hb dL_law_385 rfl (lv_at hl 0 rfl) ?_
    refine lv_iload_n hx hb dL_law_386 rfl (lv_at hl 3 rfl) ?_
    refine z_iconst hx hb dL_law_387 ?_
    refine z_iadd hx hb dL_law_388 ?_
    refine z_sld hx hb hX hbA hS (i + 1) (by omega) dL_law_389 ?_
    refine lv_aload_n hx hb dL_law_390 rfl (lv_at hl 0 rfl) ?_
    refine lv_iload_n hx hb dL_law_391 rfl (lv_at hl 3 rfl) ?_
    refine z_iconst hx hb dL_law_392 ?_
    refine z_iadd hx hb dL_law_393 ?_
    refine z_sld hx hb hX hbA hS (i + 2) (by omega) dL_law_394 ?_
    have hP0 := va_P_pm (lw_pm (lwC Y hv g9 u af tx ln pl su tk nu K Kto Kt ix z E C M T n9 tr tr kp Ki Kk F A) (ps := [0, 4, ix + 15, 2]) (pm_op ix i4.1)) hP
    have hD0 := va_D_pm (lw_pm (lwC Y hv g9 u af tx ln pl su tk nu K Kto Kt ix z E C M T n9 tr tr kp Ki Kk F A) (ps := [0, 4, ix + 15, 2]) (pm_op ix i4.1)) hD
    refine mu_V (As := [.int (iZ (xs (i + 1)).toInt), .int (iZ (xs (i + 2)).toInt)]) (rest := []) (F := lwR [0, 4, ix + 15, 2] (lwC Y hv g9 u af tx ln pl su tk nu K Kto Kt ix z E C M T n9 tr tr kp Ki Kk F A)) (wc' := svO Y hv (u.1 1) (u.1 2) (u.1 3) (u.1 4) (u.1 5) (u.1 6) (u.1 7) (u.1 8) (u.1 9) ++ opW Y (u.1 4) (u.1 11) (u.2.1 2) ((ix : Nat) : Int) ((z : Nat) : Int) ix (u.2.2.1 ix) (Kk ix) (u.1 2) (u.2.1 0) K (fPrunes K (xs (i + 1)).toInt (xs (i + 2)).toInt) (kS K 2 (Int.toNat (xs (i + 1)).toInt) (max (K 2 (Int.toNat (xs (i + 1)).toInt) - (xs (i + 2)).toInt) 0))) ⟨hx, hb, hml, hown, hts⟩ (c_X6_prunes l G Y hv (u.1 1) (u.1 2) (u.1 3) (u.1 4) (u.1 5) (u.1 6) (u.1 7) (u.1 8) (u.1 9) (u.1 11) (u.2.1 2) ((ix : Nat) : Int) ((z : Nat) : Int) ix (u.2.2.1 ix) (Kk ix) (u.2.1 0) K hW ⟨⟨rfl, i4.1⟩, by omega, by omega⟩ (xs (i + 1)).toInt (xs (i + 2)).toInt ⟨ra1, ra2⟩) (cwV 2 hts gL_law_X6_prunes rfl rfl rfl (by decide +kernel) ⟨Nat.le_of_ble_eq_true rfl, Nat.le_of_ble_eq_true rfl⟩) hK hP0 hD0 hS 0 rfl rfl (Eq.refl [hv, u.1 4, u.1 11, u.2.1 2 ix, u.2.2.1 ix 1, u.2.2.1 ix 2, u.2.2.1 ix 3, u.2.2.1 ix 4, u.2.2.1 ix 5, u.2.2.1 ix 6, u.2.2.1 ix 7, u.1 2, u.2.1 0 1, u.2.1 0 2, u.2.1 0 3, u.2.1 0 4, u.2.1 0 5, u.2.1 0 6, u.2.1 0 7]) rfl hl.1 rfl (Nat.le_of_ble_eq_true rfl) dL_law_395 hce (fun H locs hP1 hD1 hS => ?_)
    show W _ _ _ _ _ _ _ _ _ _ _ _ _ _ _ (F0 _ _ _ (.int (iZ (rPrunes K (xs (i + 1)).toInt (xs (i + 2)).toInt)) :: []))
    rw [hf, op_t] at hP1 hD1
    have pmb := lw_back (ch := lwC Y hv g9 u af tx ln pl su tk nu K Kto Kt ix z E C M T n9 tr tr kp Ki Kk F A) (ch' := lwC Y hv g9 u af tx ln pl su tk nu (kS K 2 (Int.toNat (xs (i + 1)).toInt) (max (K 2 (Int.toNat (xs (i + 1)).toInt) - (xs (i + 2)).toInt) 0)) Kto Kt ((ix + 1) % 10) (min (z + 1) 10) E C M T n9 tr tr kp Ki (va_up Kk ix K) F A) (ps := [0, 4, ix + 15, 2]) (pm_op ix i4.1) (rs_op Y hv g9 u af tx ln pl su tk nu K Kto Kt ix z E C M T n9 tr tr kp Ki Kk F A (kS K 2 (Int.toNat (xs (i + 1)).toInt) (max (K 2 (Int.toNat (xs (i + 1)).toInt) - (xs (i + 2)).toInt) 0)) K ((ix + 1) % 10) (min (z + 1) 10) i4.1) (w := svO Y hv (u.1 1) (u.1 2) (u.1 3) (u.1 4) (u.1 5) (u.1 6) (u.1 7) (u.1 8) (u.1 9) ++ (paW Y (u.1 4) (u.1 11) (u.2.1 2) (((ix + 1) % 10 : Nat) : Int) ((min (z + 1) 10 : Nat) : Int) ++ (cmW Y (u.2.1 2 ix) (u.2.2.1 ix) K ++ cmW Y (u.1 2) (u.2.1 0) (kS K 2 (Int.toNat (xs (i + 1)).toInt) (max (K 2 (Int.toNat (xs (i + 1)).toInt) - (xs (i + 2)).toInt) 0))))) (by show _ = svO Y hv (u.1 1) (u.1 2) (u.1 3) (u.1 4) (u.1 5) (u.1 6) (u.1 7) (u.1 8) (u.1 9) ++ (paW Y (u.1 4) (u.1 11) (u.2.1 2) (((ix + 1) % 10 : Nat) : Int) ((min (z + 1) 10 : Nat) : Int) ++ (cmW Y (u.2.1 2 ix) (u.2.2.1 ix) (va_up Kk ix K ix) ++ cmW Y (u.1 2) (u.2.1 0) (kS K 2 (Int.toNat (xs (i + 1)).toInt) (max (K 2 (Int.toNat (xs (i + 1)).toInt) - (xs (i + 2)).toInt) 0)))); rw [up_eq])
    replace hP : va_P G vwCl (lwF (lwC Y hv g9 u af tx ln pl su tk nu (kS K 2 (Int.toNat (xs (i + 1)).toInt) (max (K 2 (Int.toNat (xs (i + 1)).toInt) - (xs (i + 2)).toInt) 0)) Kto Kt ((ix + 1) % 10) (min (z + 1) 10) E C M T n9 tr tr kp Ki (va_up Kk ix K) F A)) H := va_P_pm pmb hP1
    replace hD : va_D _ (lwF (lwC Y hv g9 u af tx ln pl su tk nu (kS K 2 (Int.toNat (xs (i + 1)).toInt) (max (K 2 (Int.toNat (xs (i + 1)).toInt) - (xs (i + 2)).toInt) 0)) Kto Kt ((ix + 1) % 10) (min (z + 1) 10) E C M T n9 tr tr kp Ki (va_up Kk ix K) F A)) := va_D_pm pmb hD1
    clear pmb hP1 hD1 hP0 hD0
    refine lv_aload_n hx hb dL_law_398 rfl (lv_at hl 2 rfl) ?_
    refine lv_aload_n hx hb dL_law_399 rfl (lv_at hl 0 rfl) ?_
    refine lv_iload_n hx hb dL_law_400 rfl (lv_at hl 3 rfl) ?_
    refine z_iconst hx hb dL_law_401 ?_
    refine z_iadd hx hb dL_law_402 ?_
    refine z_sld hx hb hX hbA hS (i + 1) (by omega) dL_law_403 ?_
    refine lv_aload_n hx hb dL_law_404 rfl (lv_at hl 0 rfl) ?_
    refine lv_iload_n hx hb dL_law_405 rfl (lv_at hl 3 rfl) ?_
    refine z_iconst hx hb dL_law_406 ?_
    refine z_iadd hx hb dL_law_407 ?_
    refine z_sld hx hb hX hbA hS (i + 2) (by omega) dL_law_408 ?_
    have hP0 := va_P_pm (lw_pm (lwC Y hv g9 u af tx ln pl su tk nu (kS K 2 (Int.toNat (xs (i + 1)).toInt) (max (K 2 (Int.toNat (xs (i + 1)).toInt) - (xs (i + 2)).toInt) 0)) Kto Kt ((ix + 1) % 10) (min (z + 1) 10) E C M T n9 tr tr kp Ki (va_up Kk ix K) F A) (ps := [12]) (by decide)) hP
    have hD0 := va_D_pm (lw_pm (lwC Y hv g9 u af tx ln pl su tk nu (kS K 2 (Int.toNat (xs (i + 1)).toInt) (max (K 2 (Int.toNat (xs (i + 1)).toInt) - (xs (i + 2)).toInt) 0)) Kto Kt ((ix + 1) % 10) (min (z + 1) 10) E C M T n9 tr tr kp Ki (va_up Kk ix K) F A) (ps := [12]) (by decide)) hD
    refine mu_V (As := [.int (iZ (xs (i + 1)).toInt), .int (iZ (xs (i + 2)).toInt)]) (rest := [.int (iZ (rPrunes K (xs (i + 1)).toInt (xs (i + 2)).toInt))]) (F := lwR [12] (lwC Y hv g9 u af tx ln pl su tk nu (kS K 2 (Int.toNat (xs (i + 1)).toInt) (max (K 2 (Int.toNat (xs (i + 1)).toInt) - (xs (i + 2)).toInt) 0)) Kto Kt ((ix + 1) % 10) (min (z + 1) 10) E C M T n9 tr tr kp Ki (va_up Kk ix K) F A)) (wc' := moW Y g9 af (bif fPrunes (kF F A (A 17)) (xs (i + 1)).toInt (xs (i + 2)).toInt then opF F else F) (bif fPrunes (kF F A (A 17)) (xs (i + 1)).toInt (xs (i + 2)).toInt then opA F A (va_up (A 17) (9 + (xs (i + 1)).toInt).toNat (max ((A 17) (9 + Int.toNat (xs (i + 1)).toInt) - (xs (i + 2)).toInt) 0)) else A) tr) ⟨hx, hb, hml, hown, hts⟩ (c_X7_prunes l G Y g9 af F A tr hV hno (by omega) (xs (i + 1)).toInt (xs (i + 2)).toInt ⟨ra1, ra2⟩) (cwV 2 hts gL_law_X7_prunes rfl rfl rfl (by decide +kernel) ⟨Nat.le_of_ble_eq_true rfl, Nat.le_of_ble_eq_true rfl⟩) hK hP0 hD0 hS 0 rfl rfl (Eq.refl [g9, af 1, af 11, af 12, af 16, af 17, af 18, af 19, af 20, af 21, af 24]) rfl hl.1 rfl (Nat.le_of_ble_eq_true rfl) dL_law_409 hce (fun H locs hP1 hD1 hS => ?_)
    show W _ _ _ _ _ _ _ _ _ _ _ _ _ _ _ (F0 _ _ _ (.int (iZ (rPrunes (kF F A (A 17)) (xs (i + 1)).toInt (xs (i + 2)).toInt)) :: [.int (iZ (rPrunes K (xs (i + 1)).toInt (xs (i + 2)).toInt))]))
    have hf7 : fPrunes (kF F A (A 17)) (xs (i + 1)).toInt (xs (i + 2)).toInt = true := (rPrunes_c hE _ _).2.symm.trans hf
    rw [hf7, cond_true, cond_true] at hP1 hD1
    have pmb := lw_back (ch := lwC Y hv g9 u af tx ln pl su tk nu (kS K 2 (Int.toNat (xs (i + 1)).toInt) (max (K 2 (Int.toNat (xs (i + 1)).toInt) - (xs (i + 2)).toInt) 0)) Kto Kt ((ix + 1) % 10) (min (z + 1) 10) E C M T n9 tr tr kp Ki (va_up Kk ix K) F A) (ch' := lwC Y hv g9 u af tx ln pl su tk nu (kS K 2 (Int.toNat (xs (i + 1)).toInt) (max (K 2 (Int.toNat (xs (i + 1)).toInt) - (xs (i + 2)).toInt) 0)) Kto Kt ((ix + 1) % 10) (min (z + 1) 10) E C M T n9 tr tr kp Ki (va_up Kk ix K) (opF F) (opA F A (va_up (A 17) (9 + (xs (i + 1)).toInt).toNat (max ((A 17) (9 + Int.toNat (xs (i + 1)).toInt) - (xs (i + 2)).toInt) 0)))) (ps := [12]) (by decide) (rfl) (w := moW Y g9 af (opF F) (opA F A (va_up (A 17) (9 + (xs (i + 1)).toInt).toNat (max ((A 17) (9 + Int.toNat (xs (i + 1)).toInt) - (xs (i + 2)).toInt) 0))) tr) (rfl)
    replace hP : va_P G vwCl (lwF (lwC Y hv g9 u af tx ln pl su tk nu (kS K 2 (Int.toNat (xs (i + 1)).toInt) (max (K 2 (Int.toNat (xs (i + 1)).toInt) - (xs (i + 2)).toInt) 0)) Kto Kt ((ix + 1) % 10) (min (z + 1) 10) E C M T n9 tr tr kp Ki (va_up Kk ix K) (opF F) (opA F A (va_up (A 17) (9 + (xs (i + 1)).toInt).toNat (max ((A 17) (9 + Int.toNat (xs (i + 1)).toInt) - (xs (i + 2)).toInt) 0))))) H := va_P_pm pmb hP1
    replace hD : va_D _ (lwF (lwC Y hv g9 u af tx ln pl su tk nu (kS K 2 (Int.toNat (xs (i + 1)).toInt) (max (K 2 (Int.toNat (xs (i + 1)).toInt) - (xs (i + 2)).toInt) 0)) Kto Kt ((ix + 1) % 10) (min (z + 1) 10) E C M T n9 tr tr kp Ki (va_up Kk ix K) (opF F) (opA F A (va_up (A 17) (9 + (xs (i + 1)).toInt).toNat (max ((A 17) (9 + Int.toNat (xs (i + 1)).toInt) - (xs (i + 2)).toInt) 0))))) := va_D_pm pmb hD1
    clear pmb hP1 hD1 hP0 hD0
    refine z_cmpeq (tgt := 990) hx hb ((rPrunes_c hE _ _).1.symm) dL_law_412 (by decide) ?_
    exact kk tx ln pl su tk nu (kS K 2 (Int.toNat (xs (i + 1)).toInt) (max (K 2 (Int.toNat (xs (i + 1)).toInt) - (xs (i + 2)).toInt) 0)) Kto Kt ((ix + 1) % 10) (min (z + 1) 10) E C M T n9 tr kp Ki (va_up Kk ix K) (opF F) (opA F A (va_up (A 17) (9 + (xs (i + 1)).toInt).toNat (max ((A 17) (9 + Int.toNat (xs (i + 1)).toInt) - (xs (i + 2)).toInt) 0))) H locs (oi_prunes hI hf) ⟨hP, hD, hS⟩

set_option maxHeartbeats 4000000 in
set_option maxRecDepth 100000 in
theorem lc_grows {p : Program} {l : Launch} {e : Env} {s : State} {m : MethodId} {below : List Frame} {meth : Method} {c : Code} {H : Heap} {locs : List Loc} {cells slots : Nat} {Q : State → Prop} {G : va_G} {Y : Nat → ClassId} {b L : Nat} {xs : Nat → Int32} (X : lwX p s m meth c b L xs G Y) (hce : cells ≤ 600000 ∧ slots ≤ 7302249) {hv g9 : Nat} {u : svU} {af : Nat → Nat} {i : Nat} (hi : i + 4 ≤ L) {ls : Array Slot} (hl : lv_has ls 4 [(0, .ref b), (1, .ref hv), (2, .ref g9), (3, .int (iZ ((i : Nat) : Int)))]) {tx : Nat → Int} {ln : Nat} {pl : Nat} {su : Bool} {tk : Nat} {nu : Int} {K : Kom} {Kto : Kom} {Kt : Kom} {ix : Nat} {z : Nat} {E : Nat → Int} {C : Nat → Int} {M : Nat → Int} {T : Nat → Int} {n9 : Int} {tr : Int64} {kp : Nat → Int} {Ki : Nat → Kom} {Kk : Nat → Kom} {F : Nat → Int} {A : Kom} (hI : lwI tx ln tk K Kto ix z M T n9 kp Ki Kk F A) (hH : lwH G s (lwC Y hv g9 u af tx ln pl su tk nu K Kto Kt ix z E C M T n9 tr tr kp Ki Kk F A) H locs) (kk : lwK p l e s m below meth c cells slots Q G Y b hv g9 u af ls) : W p l e room_1 s m #[Value.ref b] below meth c H locs cells slots Q (F0 m 417 ls []) := by
  obtain ⟨hx, hb, hml, hown, hts, hX, hK⟩ := X
  obtain ⟨hP, hD, hS⟩ := hH
  have hbA : ¬ (fun q : Nat => s.heap.size ≤ q) b := Nat.not_le.mpr hX.2.1
  have i1 := hI.1
  have i2 := hI.2.1
  have i3 := hI.2.2.1
  have i4 := hI.2.2.2.1
  have i5 := hI.2.2.2.2.1
  have i6 := hI.2.2.2.2.2
  have hW := i2.1
  have hE := i2.2.1
  have hV := i2.2.2.1
  have h26 := i2.2.2.2
  have hno : F 26 < 0 := by omega
  have hKb := hW.1
  have hvb := mV_b hV
  have hk2 : K 0 2 = A 17 3 := hE.k2
  have hL9 := hX.2.2
  cases hf : fGrows K
  · skip
    refine lv_aload_n hx hb dL_law_417 rfl (lv_at hl 1 rfl) ?_
    have hP0 := va_P_pm (lw_pm (lwC Y hv g9 u af tx ln pl su tk nu K Kto Kt ix z E C M T n9 tr tr kp Ki Kk F A) (ps := [0, 4, ix + 15, 2]) (pm_op ix i4.1)) hP
    have hD0 := va_D_pm (lw_pm (lwC Y hv g9 u af tx ln pl su tk nu K Kto Kt ix z E C M T n9 tr tr kp Ki Kk F A) (ps := [0, 4, ix + 15, 2]) (pm_op ix i4.1)) hD
    refine mu_V (As := []) (rest := []) (F := lwR [0, 4, ix + 15, 2] (lwC Y hv g9 u af tx ln pl su tk nu K Kto Kt ix z E C M T n9 tr tr kp Ki Kk F A)) (wc' := svO Y hv (u.1 1) (u.1 2) (u.1 3) (u.1 4) (u.1 5) (u.1 6) (u.1 7) (u.1 8) (u.1 9) ++ opW Y (u.1 4) (u.1 11) (u.2.1 2) ((ix : Nat) : Int) ((z : Nat) : Int) ix (u.2.2.1 ix) (Kk ix) (u.1 2) (u.2.1 0) K (fGrows K) (kGrows K)) ⟨hx, hb, hml, hown, hts⟩ (c_X6_grows l G Y hv (u.1 1) (u.1 2) (u.1 3) (u.1 4) (u.1 5) (u.1 6) (u.1 7) (u.1 8) (u.1 9) (u.1 11) (u.2.1 2) ((ix : Nat) : Int) ((z : Nat) : Int) ix (u.2.2.1 ix) (Kk ix) (u.2.1 0) K hW ⟨⟨rfl, i4.1⟩, by omega, by omega⟩) (cwV 0 hts gL_law_X6_grows rfl rfl rfl (by decide +kernel) ⟨Nat.le_of_ble_eq_true rfl, Nat.le_of_ble_eq_true rfl⟩) hK hP0 hD0 hS 0 rfl rfl (Eq.refl [hv, u.1 4, u.1 11, u.2.1 2 ix, u.2.2.1 ix 1, u.2.2.1 ix 2, u.2.2.1 ix 3, u.2.2.1 ix 4, u.2.2.1 ix 5, u.2.2.1 ix 6, u.2.2.1 ix 7, u.1 2, u.2.1 0 1, u.2.1 0 2, u.2.1 0 3, u.2.1 0 4, u.2.1 0 5, u.2.1 0 6, u.2.1 0 7]) rfl hl.1 rfl (Nat.le_of_ble_eq_true rfl) dL_law_418 hce (fun H locs hP1 hD1 hS => ?_)
    show W _ _ _ _ _ _ _ _ _ _ _ _ _ _ _ (F0 _ _ _ (.int (iZ (rGrows K)) :: []))
    rw [hf] at hP1 hD1
    have pmb := lw_back (ch := lwC Y hv g9 u af tx ln pl su tk nu K Kto Kt ix z E C M T n9 tr tr kp Ki Kk F A) (ch' := lwC Y hv g9 u af tx ln pl su tk nu K Kto Kt ix z E C M T n9 tr tr kp Ki Kk F A) (ps := [0, 4, ix + 15, 2]) (pm_op ix i4.1) (rfl) (w := svO Y hv (u.1 1) (u.1 2) (u.1 3) (u.1 4) (u.1 5) (u.1 6) (u.1 7) (u.1 8) (u.1 9) ++ (paW Y (u.1 4) (u.1 11) (u.2.1 2) ((ix : Nat) : Int) ((z : Nat) : Int) ++ (cmW Y (u.2.1 2 ix) (u.2.2.1 ix) (Kk ix) ++ cmW Y (u.1 2) (u.2.1 0) K))) (rfl)
    replace hP : va_P G vwCl (lwF (lwC Y hv g9 u af tx ln pl su tk nu K Kto Kt ix z E C M T n9 tr tr kp Ki Kk F A)) H := va_P_pm pmb hP1
    replace hD : va_D _ (lwF (lwC Y hv g9 u af tx ln pl su tk nu K Kto Kt ix z E C M T n9 tr tr kp Ki Kk F A)) := va_D_pm pmb hD1
    clear pmb hP1 hD1 hP0 hD0
    refine lv_aload_n hx hb dL_law_421 rfl (lv_at hl 2 rfl) ?_
    have hP0 := va_P_pm (lw_pm (lwC Y hv g9 u af tx ln pl su tk nu K Kto Kt ix z E C M T n9 tr tr kp Ki Kk F A) (ps := [12]) (by decide)) hP
    have hD0 := va_D_pm (lw_pm (lwC Y hv g9 u af tx ln pl su tk nu K Kto Kt ix z E C M T n9 tr tr kp Ki Kk F A) (ps := [12]) (by decide)) hD
    refine mu_V (As := []) (rest := [.int (iZ (rGrows K))]) (F := lwR [12] (lwC Y hv g9 u af tx ln pl su tk nu K Kto Kt ix z E C M T n9 tr tr kp Ki Kk F A)) (wc' := moW Y g9 af (bif fGrows (kF F A (A 17)) then opF F else F) (bif fGrows (kF F A (A 17)) then opA F A (gwN (A 17) (A 17 3).toNat) else A) tr) ⟨hx, hb, hml, hown, hts⟩ (c_X7_grows l G Y g9 af F A tr hV hno (by omega)) (cwV 0 hts gL_law_X7_grows rfl rfl rfl (by decide +kernel) ⟨Nat.le_of_ble_eq_true rfl, Nat.le_of_ble_eq_true rfl⟩) hK hP0 hD0 hS 0 rfl rfl (Eq.refl [g9, af 1, af 11, af 12, af 16, af 17, af 18, af 19, af 20, af 21, af 24]) rfl hl.1 rfl (Nat.le_of_ble_eq_true rfl) dL_law_422 hce (fun H locs hP1 hD1 hS => ?_)
    show W _ _ _ _ _ _ _ _ _ _ _ _ _ _ _ (F0 _ _ _ (.int (iZ (rGrows (kF F A (A 17)))) :: [.int (iZ (rGrows K))]))
    have hf7 : fGrows (kF F A (A 17)) = false := (rGrows_c hE).2.symm.trans hf
    rw [hf7, cond_false, cond_false] at hP1 hD1
    have pmb := lw_back (ch := lwC Y hv g9 u af tx ln pl su tk nu K Kto Kt ix z E C M T n9 tr tr kp Ki Kk F A) (ch' := lwC Y hv g9 u af tx ln pl su tk nu K Kto Kt ix z E C M T n9 tr tr kp Ki Kk F A) (ps := [12]) (by decide) (rfl) (w := moW Y g9 af F A tr) (rfl)
    replace hP : va_P G vwCl (lwF (lwC Y hv g9 u af tx ln pl su tk nu K Kto Kt ix z E C M T n9 tr tr kp Ki Kk F A)) H := va_P_pm pmb hP1
    replace hD : va_D _ (lwF (lwC Y hv g9 u af tx ln pl su tk nu K Kto Kt ix z E C M T n9 tr tr kp Ki Kk F A)) := va_D_pm pmb hD1
    clear pmb hP1 hD1 hP0 hD0
    refine z_cmpeq (tgt := 990) hx hb ((rGrows_c hE).1.symm) dL_law_425 (by decide) ?_
    exact kk tx ln pl su tk nu K Kto Kt ix z E C M T n9 tr kp Ki Kk F A H locs (hI) ⟨hP, hD, hS⟩
  · skip
    refine lv_aload_n hx hb dL_law_417 rfl (lv_at hl 1 rfl) ?_
    have hP0 := va_P_pm (lw_pm (lwC Y hv g9 u af tx ln pl su tk nu K Kto Kt ix z E C M T n9 tr tr kp Ki Kk F A) (ps := [0, 4, ix + 15, 2]) (pm_op ix i4.1)) hP
    have hD0 := va_D_pm (lw_pm (lwC Y hv g9 u af tx ln pl su tk nu K Kto Kt ix z E C M T n9 tr tr kp Ki Kk F A) (ps := [0, 4, ix + 15, 2]) (pm_op ix i4.1)) hD
    refine mu_V (As := []) (rest := []) (F := lwR [0, 4, ix + 15, 2] (lwC Y hv g9 u af tx ln pl su tk nu K Kto Kt ix z E C M T n9 tr tr kp Ki Kk F A)) (wc' := svO Y hv (u.1 1) (u.1 2) (u.1 3) (u.1 4) (u.1 5) (u.1 6) (u.1 7) (u.1 8) (u.1 9) ++ opW Y (u.1 4) (u.1 11) (u.2.1 2) ((ix : Nat) : Int) ((z : Nat) : Int) ix (u.2.2.1 ix) (Kk ix) (u.1 2) (u.2.1 0) K (fGrows K) (kGrows K)) ⟨hx, hb, hml, hown, hts⟩ (c_X6_grows l G Y hv (u.1 1) (u.1 2) (u.1 3) (u.1 4) (u.1 5) (u.1 6) (u.1 7) (u.1 8) (u.1 9) (u.1 11) (u.2.1 2) ((ix : Nat) : Int) ((z : Nat) : Int) ix (u.2.2.1 ix) (Kk ix) (u.2.1 0) K hW ⟨⟨rfl, i4.1⟩, by omega, by omega⟩) (cwV 0 hts gL_law_X6_grows rfl rfl rfl (by decide +kernel) ⟨Nat.le_of_ble_eq_true rfl, Nat.le_of_ble_eq_true rfl⟩) hK hP0 hD0 hS 0 rfl rfl (Eq.refl [hv, u.1 4, u.1 11, u.2.1 2 ix, u.2.2.1 ix 1, u.2.2.1 ix 2, u.2.2.1 ix 3, u.2.2.1 ix 4, u.2.2.1 ix 5, u.2.2.1 ix 6, u.2.2.1 ix 7, u.1 2, u.2.1 0 1, u.2.1 0 2, u.2.1 0 3, u.2.1 0 4, u.2.1 0 5, u.2.1 0 6, u.2.1 0 7]) rfl hl.1 rfl (Nat.le_of_ble_eq_true rfl) dL_law_418 hce (fun H locs hP1 hD1 hS => ?_)
    show W _ _ _ _ _ _ _ _ _ _ _ _ _ _ _ (F0 _ _ _ (.int (iZ (rGrows K)) :: []))
    rw [hf, op_t] at hP1 hD1
    have pmb := lw_back (ch := lwC Y hv g9 u af tx ln pl su tk nu K Kto Kt ix z E C M T n9 tr tr kp Ki Kk F A) (ch' := lwC Y hv g9 u af tx ln pl su tk nu (kGrows K) Kto Kt ((ix + 1) % 10) (min (z + 1) 10) E C M T n9 tr tr kp Ki (va_up Kk ix K) F A) (ps := [0, 4, ix + 15, 2]) (pm_op ix i4.1) (rs_op Y hv g9 u af tx ln pl su tk nu K Kto Kt ix z E C M T n9 tr tr kp Ki Kk F A (kGrows K) K ((ix + 1) % 10) (min (z + 1) 10) i4.1) (w := svO Y hv (u.1 1) (u.1 2) (u.1 3) (u.1 4) (u.1 5) (u.1 6) (u.1 7) (u.1 8) (u.1 9) ++ (paW Y (u.1 4) (u.1 11) (u.2.1 2) (((ix + 1) % 10 : Nat) : Int) ((min (z + 1) 10 : Nat) : Int) ++ (cmW Y (u.2.1 2 ix) (u.2.2.1 ix) K ++ cmW Y (u.1 2) (u.2.1 0) (kGrows K)))) (by show _ = svO Y hv (u.1 1) (u.1 2) (u.1 3) (u.1 4) (u.1 5) (u.1 6) (u.1 7) (u.1 8) (u.1 9) ++ (paW Y (u.1 4) (u.1 11) (u.2.1 2) (((ix + 1) % 10 : Nat) : Int) ((min (z + 1) 10 : Nat) : Int) ++ (cmW Y (u.2.1 2 ix) (u.2.2.1 ix) (va_up Kk ix K ix) ++ cmW Y (u.1 2) (u.2.1 0) (kGrows K))); rw [up_eq])
    replace hP : va_P G vwCl (lwF (lwC Y hv g9 u af tx ln pl su tk nu (kGrows K) Kto Kt ((ix + 1) % 10) (min (z + 1) 10) E C M T n9 tr tr kp Ki (va_up Kk ix K) F A)) H := va_P_pm pmb hP1
    replace hD : va_D _ (lwF (lwC Y hv g9 u af tx ln pl su tk nu (kGrows K) Kto Kt ((ix + 1) % 10) (min (z + 1) 10) E C M T n9 tr tr kp Ki (va_up Kk ix K) F A)) := va_D_pm pmb hD1
    clear pmb hP1 hD1 hP0 hD0
    refine lv_aload_n hx hb dL_law_421 rfl (lv_at hl 2 rfl) ?_
    have hP0 := va_P_pm (lw_pm (lwC Y hv g9 u af tx ln pl su tk nu (kGrows K) Kto Kt ((ix + 1) % 10) (min (z + 1) 10) E C M T n9 tr tr kp Ki (va_up Kk ix K) F A) (ps := [12]) (by decide)) hP
    have hD0 := va_D_pm (lw_pm (lwC Y hv g9 u af tx ln pl su tk nu (kGrows K) Kto Kt ((ix + 1) % 10) (min (z + 1) 10) E C M T n9 tr tr kp Ki (va_up Kk ix K) F A) (ps := [12]) (by decide)) hD
    refine mu_V (As := []) (rest := [.int (iZ (rGrows K))]) (F := lwR [12] (lwC Y hv g9 u af tx ln pl su tk nu (kGrows K) Kto Kt ((ix + 1) % 10) (min (z + 1) 10) E C M T n9 tr tr kp Ki (va_up Kk ix K) F A)) (wc' := moW Y g9 af (bif fGrows (kF F A (A 17)) then opF F else F) (bif fGrows (kF F A (A 17)) then opA F A (gwN (A 17) (A 17 3).toNat) else A) tr) ⟨hx, hb, hml, hown, hts⟩ (c_X7_grows l G Y g9 af F A tr hV hno (by omega)) (cwV 0 hts gL_law_X7_grows rfl rfl rfl (by decide +kernel) ⟨Nat.le_of_ble_eq_true rfl, Nat.le_of_ble_eq_true rfl⟩) hK hP0 hD0 hS 0 rfl rfl (Eq.refl [g9, af 1, af 11, af 12, af 16, af 17, af 18, af 19, af 20, af 21, af 24]) rfl hl.1 rfl (Nat.le_of_ble_eq_true rfl) dL_law_422 hce (fun H locs hP1 hD1 hS => ?_)
    show W _ _ _ _ _ _ _ _ _ _ _ _ _ _ _ (F0 _ _ _ (.int (iZ (rGrows (kF F A (A 17)))) :: [.int (iZ (rGrows K))]))
    have hf7 : fGrows (kF F A (A 17)) = true := (rGrows_c hE).2.symm.trans hf
    rw [hf7, cond_true, cond_true] at hP1 hD1
    have pmb := lw_back (ch := lwC Y hv g9 u af tx ln pl su tk nu (kGrows K) Kto Kt ((ix + 1) % 10) (min (z + 1) 10) E C M T n9 tr tr kp Ki (va_up Kk ix K) F A) (ch' := lwC Y hv g9 u af tx ln pl su tk nu (kGrows K) Kto Kt ((ix + 1) % 10) (min (z + 1) 10) E C M T n9 tr tr kp Ki (va_up Kk ix K) (opF F) (opA F A (gwN (A 17) (A 17 3).toNat))) (ps := [12]) (by decide) (rfl) (w := moW Y g9 af (opF F) (opA F A (gwN (A 17) (A 17 3).toNat)) tr) (rfl)
    replace hP : va_P G vwCl (lwF (lwC Y hv g9 u af tx ln pl su tk nu (kGrows K) Kto Kt ((ix + 1) % 10) (min (z + 1) 10) E C M T n9 tr tr kp Ki (va_up Kk ix K) (opF F) (opA F A (gwN (A 17) (A 17 3).toNat)))) H := va_P_pm pmb hP1
    replace hD : va_D _ (lwF (lwC Y hv g9 u af tx ln pl su tk nu (kGrows K) Kto Kt ((ix + 1) % 10) (min (z + 1) 10) E C M T n9 tr tr kp Ki (va_up Kk ix K) (opF F) (opA F A (gwN (A 17) (A 17 3).toNat)))) := va_D_pm pmb hD1
    clear pmb hP1 hD1 hP0 hD0
    refine z_cmpeq (tgt := 990) hx hb ((rGrows_c hE).1.symm) dL_law_425 (by decide) ?_
    exact kk tx ln pl su tk nu (kGrows K) Kto Kt ((ix + 1) % 10) (min (z + 1) 10) E C M T n9 tr kp Ki (va_up Kk ix K) (opF F) (opA F A (gwN (A 17) (A 17 3).toNat)) H locs (oi_grows hI hf) ⟨hP, hD, hS⟩

set_option maxHeartbeats 4000000 in
set_option maxRecDepth 100000 in
theorem lc_plants {p : Program} {l : Launch} {e : Env} {s : State} {m : MethodId} {below : List Frame} {meth : Method} {c : Code} {H : Heap} {locs : List Loc} {cells slots : Nat} {Q : State → Prop} {G : va_G} {Y : Nat → ClassId} {b L : Nat} {xs : Nat → Int32} (X : lwX p s m meth c b L xs G Y) (hce : cells ≤ 600000 ∧ slots ≤ 7302249) {hv g9 : Nat} {u : svU} {af : Nat → Nat} {i : Nat} (hi : i + 4 ≤ L) {ls : Array Slot} (hl : lv_has ls 4 [(0, .ref b), (1, .ref hv), (2, .ref g9), (3, .int (iZ ((i : Nat) : Int)))]) {tx : Nat → Int} {ln : Nat} {pl : Nat} {su : Bool} {tk : Nat} {nu : Int} {K : Kom} {Kto : Kom} {Kt : Kom} {ix : Nat} {z : Nat} {E : Nat → Int} {C : Nat → Int} {M : Nat → Int} {T : Nat → Int} {n9 : Int} {tr : Int64} {kp : Nat → Int} {Ki : Nat → Kom} {Kk : Nat → Kom} {F : Nat → Int} {A : Kom} (hI : lwI tx ln tk K Kto ix z M T n9 kp Ki Kk F A) (hH : lwH G s (lwC Y hv g9 u af tx ln pl su tk nu K Kto Kt ix z E C M T n9 tr tr kp Ki Kk F A) H locs) (kk : lwK p l e s m below meth c cells slots Q G Y b hv g9 u af ls) : W p l e room_1 s m #[Value.ref b] below meth c H locs cells slots Q (F0 m 430 ls []) := by
  obtain ⟨hx, hb, hml, hown, hts, hX, hK⟩ := X
  obtain ⟨hP, hD, hS⟩ := hH
  have hbA : ¬ (fun q : Nat => s.heap.size ≤ q) b := Nat.not_le.mpr hX.2.1
  have i1 := hI.1
  have i2 := hI.2.1
  have i3 := hI.2.2.1
  have i4 := hI.2.2.2.1
  have i5 := hI.2.2.2.2.1
  have i6 := hI.2.2.2.2.2
  have hW := i2.1
  have hE := i2.2.1
  have hV := i2.2.2.1
  have h26 := i2.2.2.2
  have hno : F 26 < 0 := by omega
  have hKb := hW.1
  have hvb := mV_b hV
  have hk2 : K 0 2 = A 17 3 := hE.k2
  have hL9 := hX.2.2
  have ra1 := iZ_range (xs (i + 1))
  have ra2 := iZ_range (xs (i + 2))
  cases hf : fPlants K (xs (i + 1)).toInt (xs (i + 2)).toInt
  · skip
    refine lv_aload_n hx hb dL_law_430 rfl (lv_at hl 1 rfl) ?_
    refine lv_aload_n hx hb dL_law_431 rfl (lv_at hl 0 rfl) ?_
    refine lv_iload_n hx hb dL_law_432 rfl (lv_at hl 3 rfl) ?_
    refine z_iconst hx hb dL_law_433 ?_
    refine z_iadd hx hb dL_law_434 ?_
    refine z_sld hx hb hX hbA hS (i + 1) (by omega) dL_law_435 ?_
    refine lv_aload_n hx hb dL_law_436 rfl (lv_at hl 0 rfl) ?_
    refine lv_iload_n hx hb dL_law_437 rfl (lv_at hl 3 rfl) ?_
    refine z_iconst hx hb dL_law_438 ?_
    refine z_iadd hx hb dL_law_439 ?_
    refine z_sld hx hb hX hbA hS (i + 2) (by omega) dL_law_440 ?_
    have hP0 := va_P_pm (lw_pm (lwC Y hv g9 u af tx ln pl su tk nu K Kto Kt ix z E C M T n9 tr tr kp Ki Kk F A) (ps := [0, 4, ix + 15, 2]) (pm_op ix i4.1)) hP
    have hD0 := va_D_pm (lw_pm (lwC Y hv g9 u af tx ln pl su tk nu K Kto Kt ix z E C M T n9 tr tr kp Ki Kk F A) (ps := [0, 4, ix + 15, 2]) (pm_op ix i4.1)) hD
    refine mu_V (As := [.int (iZ (xs (i + 1)).toInt), .int (iZ (xs (i + 2)).toInt)]) (rest := []) (F := lwR [0, 4, ix + 15, 2] (lwC Y hv g9 u af tx ln pl su tk nu K Kto Kt ix z E C M T n9 tr tr kp Ki Kk F A)) (wc' := svO Y hv (u.1 1) (u.1 2) (u.1 3) (u.1 4) (u.1 5) (u.1 6) (u.1 7) (u.1 8) (u.1 9) ++ opW Y (u.1 4) (u.1 11) (u.2.1 2) ((ix : Nat) : Int) ((z : Nat) : Int) ix (u.2.2.1 ix) (Kk ix) (u.1 2) (u.2.1 0) K (fPlants K (xs (i + 1)).toInt (xs (i + 2)).toInt) (adT K (xs (i + 1)).toInt 1 0 (xs (i + 2)).toInt)) ⟨hx, hb, hml, hown, hts⟩ (c_X6_plants l G Y hv (u.1 1) (u.1 2) (u.1 3) (u.1 4) (u.1 5) (u.1 6) (u.1 7) (u.1 8) (u.1 9) (u.1 11) (u.2.1 2) ((ix : Nat) : Int) ((z : Nat) : Int) ix (u.2.2.1 ix) (Kk ix) (u.2.1 0) K hW ⟨⟨rfl, i4.1⟩, by omega, by omega⟩ (xs (i + 1)).toInt (xs (i + 2)).toInt ⟨ra1, ra2⟩) (cwV 2 hts gL_law_X6_plants rfl rfl rfl (by decide +kernel) ⟨Nat.le_of_ble_eq_true rfl, Nat.le_of_ble_eq_true rfl⟩) hK hP0 hD0 hS 0 rfl rfl (Eq.refl [hv, u.1 4, u.1 11, u.2.1 2 ix, u.2.2.1 ix 1, u.2.2.1 ix 2, u.2.2.1 ix 3, u.2.2.1 ix 4, u.2.2.1 ix 5, u.2.2.1 ix 6, u.2.2.1 ix 7, u.1 2, u.2.1 0 1, u.2.1 0 2, u.2.1 0 3, u.2.1 0 4, u.2.1 0 5, u.2.1 0 6, u.2.1 0 7]) rfl hl.1 rfl (Nat.le_of_ble_eq_true rfl) dL_law_441 hce (fun H locs hP1 hD1 hS => ?_)
    show W _ _ _ _ _ _ _ _ _ _ _ _ _ _ _ (F0 _ _ _ (.int (iZ (rPlants K (xs (i + 1)).toInt (xs (i + 2)).toInt)) :: []))
    rw [hf] at hP1 hD1
    have pmb := lw_back (ch := lwC Y hv g9 u af tx ln pl su tk nu K Kto Kt ix z E C M T n9 tr tr kp Ki Kk F A) (ch' := lwC Y hv g9 u af tx ln pl su tk nu K Kto Kt ix z E C M T n9 tr tr kp Ki Kk F A) (ps := [0, 4, ix + 15, 2]) (pm_op ix i4.1) (rfl) (w := svO Y hv (u.1 1) (u.1 2) (u.1 3) (u.1 4) (u.1 5) (u.1 6) (u.1 7) (u.1 8) (u.1 9) ++ (paW Y (u.1 4) (u.1 11) (u.2.1 2) ((ix : Nat) : Int) ((z : Nat) : Int) ++ (cmW Y (u.2.1 2 ix) (u.2.2.1 ix) (Kk ix) ++ cmW Y (u.1 2) (u.2.1 0) K))) (rfl)
    replace hP : va_P G vwCl (lwF (lwC Y hv g9 u af tx ln pl su tk nu K Kto Kt ix z E C M T n9 tr tr kp Ki Kk F A)) H := va_P_pm pmb hP1
    replace hD : va_D _ (lwF (lwC Y hv g9 u af tx ln pl su tk nu K Kto Kt ix z E C M T n9 tr tr kp Ki Kk F A)) := va_D_pm pmb hD1
    clear pmb hP1 hD1 hP0 hD0
    refine lv_aload_n hx hb dL_law_444 rfl (lv_at hl 2 rfl) ?_
    refine lv_aload_n hx hb dL_law_445 rfl (lv_at hl 0 rfl) ?_
    refine lv_iload_n hx hb dL_law_446 rfl (lv_at hl 3 rfl) ?_
    refine z_iconst hx hb dL_law_447 ?_
    refine z_iadd hx hb dL_law_448 ?_
    refine z_sld hx hb hX hbA hS (i + 1) (by omega) dL_law_449 ?_
    refine lv_aload_n hx hb dL_law_450 rfl (lv_at hl 0 rfl) ?_
    refine lv_iload_n hx hb dL_law_451 rfl (lv_at hl 3 rfl) ?_
    refine z_iconst hx hb dL_law_452 ?_
    refine z_iadd hx hb dL_law_453 ?_
    refine z_sld hx hb hX hbA hS (i + 2) (by omega) dL_law_454 ?_
    have hP0 := va_P_pm (lw_pm (lwC Y hv g9 u af tx ln pl su tk nu K Kto Kt ix z E C M T n9 tr tr kp Ki Kk F A) (ps := [12]) (by decide)) hP
    have hD0 := va_D_pm (lw_pm (lwC Y hv g9 u af tx ln pl su tk nu K Kto Kt ix z E C M T n9 tr tr kp Ki Kk F A) (ps := [12]) (by decide)) hD
    refine mu_V (As := [.int (iZ (xs (i + 1)).toInt), .int (iZ (xs (i + 2)).toInt)]) (rest := [.int (iZ (rPlants K (xs (i + 1)).toInt (xs (i + 2)).toInt))]) (F := lwR [12] (lwC Y hv g9 u af tx ln pl su tk nu K Kto Kt ix z E C M T n9 tr tr kp Ki Kk F A)) (wc' := moW Y g9 af (bif fPlants (kF F A (A 17)) (xs (i + 1)).toInt (xs (i + 2)).toInt then opF F else F) (bif fPlants (kF F A (A 17)) (xs (i + 1)).toInt (xs (i + 2)).toInt then opA F A (plA (A 17) (xs (i + 1)).toInt (xs (i + 2)).toInt) else A) tr) ⟨hx, hb, hml, hown, hts⟩ (c_X7_plants l G Y g9 af F A tr hV hno (by omega) (xs (i + 1)).toInt (xs (i + 2)).toInt ⟨ra1, ra2⟩) (cwV 2 hts gL_law_X7_plants rfl rfl rfl (by decide +kernel) ⟨Nat.le_of_ble_eq_true rfl, Nat.le_of_ble_eq_true rfl⟩) hK hP0 hD0 hS 0 rfl rfl (Eq.refl [g9, af 1, af 11, af 12, af 16, af 17, af 18, af 19, af 20, af 21, af 24]) rfl hl.1 rfl (Nat.le_of_ble_eq_true rfl) dL_law_455 hce (fun H locs hP1 hD1 hS => ?_)
    show W _ _ _ _ _ _ _ _ _ _ _ _ _ _ _ (F0 _ _ _ (.int (iZ (rPlants (kF F A (A 17)) (xs (i + 1)).toInt (xs (i + 2)).toInt)) :: [.int (iZ (rPlants K (xs (i + 1)).toInt (xs (i + 2)).toInt))]))
    have hf7 : fPlants (kF F A (A 17)) (xs (i + 1)).toInt (xs (i + 2)).toInt = false := (rPlants_c hE _ _).2.symm.trans hf
    rw [hf7, cond_false, cond_false] at hP1 hD1
    have pmb := lw_back (ch := lwC Y hv g9 u af tx ln pl su tk nu K Kto Kt ix z E C M T n9 tr tr kp Ki Kk F A) (ch' := lwC Y hv g9 u af tx ln pl su tk nu K Kto Kt ix z E C M T n9 tr tr kp Ki Kk F A) (ps := [12]) (by decide) (rfl) (w := moW Y g9 af F A tr) (rfl)
    replace hP : va_P G vwCl (lwF (lwC Y hv g9 u af tx ln pl su tk nu K Kto Kt ix z E C M T n9 tr tr kp Ki Kk F A)) H := va_P_pm pmb hP1
    replace hD : va_D _ (lwF (lwC Y hv g9 u af tx ln pl su tk nu K Kto Kt ix z E C M T n9 tr tr kp Ki Kk F A)) := va_D_pm pmb hD1
    clear pmb hP1 hD1 hP0 hD0
    refine z_cmpeq (tgt := 990) hx hb ((rPlants_c hE _ _).1.symm) dL_law_458 (by decide) ?_
    exact kk tx ln pl su tk nu K Kto Kt ix z E C M T n9 tr kp Ki Kk F A H locs (hI) ⟨hP, hD, hS⟩
  · skip
    refine lv_aload_n hx hb dL_law_430 rfl (lv_at hl 1 rfl) ?_
    refine lv_aload_n hx hb dL_law_431 rfl (lv_at hl 0 rfl) ?_
    refine lv_iload_n hx hb dL_law_432 rfl (lv_at hl 3 rfl) ?_
    refine z_iconst hx hb dL_law_433 ?_
    refine z_iadd hx hb dL_law_434 ?_
    refine z_sld hx hb hX hbA hS (i + 1) (by omega) dL_law_435 ?_
    refine lv_aload_n hx hb dL_law_436 rfl (lv_at hl 0 rfl) ?_
    refine lv_iload_n hx hb dL_law_437 rfl (lv_at hl 3 rfl) ?_
    refine z_iconst hx hb dL_law_438 ?_
    refine z_iadd hx hb dL_law_439 ?_
    refine z_sld hx hb hX hbA hS (i + 2) (by omega) dL_law_440 ?_
    have hP0 := va_P_pm (lw_pm (lwC Y hv g9 u af tx ln pl su tk nu K Kto Kt ix z E C M T n9 tr tr kp Ki Kk F A) (ps := [0, 4, ix + 15, 2]) (pm_op ix i4.1)) hP
    have hD0 := va_D_pm (lw_pm (lwC Y hv g9 u af tx ln pl su tk nu K Kto Kt ix z E C M T n9 tr tr kp Ki Kk F A) (ps := [0, 4, ix + 15, 2]) (pm_op ix i4.1)) hD
    refine mu_V (As := [.int (iZ (xs (i + 1)).toInt), .int (iZ (xs (i + 2)).toInt)]) (rest := []) (F := lwR [0, 4, ix + 15, 2] (lwC Y hv g9 u af tx ln pl su tk nu K Kto Kt ix z E C M T n9 tr tr kp Ki Kk F A)) (wc' := svO Y hv (u.1 1) (u.1 2) (u.1 3) (u.1 4) (u.1 5) (u.1 6) (u.1 7) (u.1 8) (u.1 9) ++ opW Y (u.1 4) (u.1 11) (u.2.1 2) ((ix : Nat) : Int) ((z : Nat) : Int) ix (u.2.2.1 ix) (Kk ix) (u.1 2) (u.2.1 0) K (fPlants K (xs (i + 1)).toInt (xs (i + 2)).toInt) (adT K (xs (i + 1)).toInt 1 0 (xs (i + 2)).toInt)) ⟨hx, hb, hml, hown, hts⟩ (c_X6_plants l G Y hv (u.1 1) (u.1 2) (u.1 3) (u.1 4) (u.1 5) (u.1 6) (u.1 7) (u.1 8) (u.1 9) (u.1 11) (u.2.1 2) ((ix : Nat) : Int) ((z : Nat) : Int) ix (u.2.2.1 ix) (Kk ix) (u.2.1 0) K hW ⟨⟨rfl, i4.1⟩, by omega, by omega⟩ (xs (i + 1)).toInt (xs (i + 2)).toInt ⟨ra1, ra2⟩) (cwV 2 hts gL_law_X6_plants rfl rfl rfl (by decide +kernel) ⟨Nat.le_of_ble_eq_true rfl, Nat.le_of_ble_eq_true rfl⟩) hK hP0 hD0 hS 0 rfl rfl (Eq.refl [hv, u.1 4, u.1 11, u.2.1 2 ix, u.2.2.1 ix 1, u.2.2.1 ix 2, u.2.2.1 ix 3, u.2.2.1 ix 4, u.2.2.1 ix 5, u.2.2.1 ix 6, u.2.2.1 ix 7, u.1 2, u.2.1 0 1, u.2.1 0 2, u.2.1 0 3, u.2.1 0 4, u.2.1 0 5, u.2.1 0 6, u.2.1 0 7]) rfl hl.1 rfl (Nat.le_of_ble_eq_true rfl) dL_law_441 hce (fun H locs hP1 hD1 hS => ?_)
    show W _ _ _ _ _ _ _ _ _ _ _ _ _ _ _ (F0 _ _ _ (.int (iZ (rPlants K (xs (i + 1)).toInt (xs (i + 2)).toInt)) :: []))
    rw [hf, op_t] at hP1 hD1
    have pmb := lw_back (ch := lwC Y hv g9 u af tx ln pl su tk nu K Kto Kt ix z E C M T n9 tr tr kp Ki Kk F A) (ch' := lwC Y hv g9 u af tx ln pl su tk nu (adT K (xs (i + 1)).toInt 1 0 (xs (i + 2)).toInt) Kto Kt ((ix + 1) % 10) (min (z + 1) 10) E C M T n9 tr tr kp Ki (va_up Kk ix K) F A) (ps := [0, 4, ix + 15, 2]) (pm_op ix i4.1) (rs_op Y hv g9 u af tx ln pl su tk nu K Kto Kt ix z E C M T n9 tr tr kp Ki Kk F A (adT K (xs (i + 1)).toInt 1 0 (xs (i + 2)).toInt) K ((ix + 1) % 10) (min (z + 1) 10) i4.1) (w := svO Y hv (u.1 1) (u.1 2) (u.1 3) (u.1 4) (u.1 5) (u.1 6) (u.1 7) (u.1 8) (u.1 9) ++ (paW Y (u.1 4) (u.1 11) (u.2.1 2) (((ix + 1) % 10 : Nat) : Int) ((min (z + 1) 10 : Nat) : Int) ++ (cmW Y (u.2.1 2 ix) (u.2.2.1 ix) K ++ cmW Y (u.1 2) (u.2.1 0) (adT K (xs (i + 1)).toInt 1 0 (xs (i + 2)).toInt)))) (by show _ = svO Y hv (u.1 1) (u.1 2) (u.1 3) (u.1 4) (u.1 5) (u.1 6) (u.1 7) (u.1 8) (u.1 9) ++ (paW Y (u.1 4) (u.1 11) (u.2.1 2) (((ix + 1) % 10 : Nat) : Int) ((min (z + 1) 10 : Nat) : Int) ++ (cmW Y (u.2.1 2 ix) (u.2.2.1 ix) (va_up Kk ix K ix) ++ cmW Y (u.1 2) (u.2.1 0) (adT K (xs (i + 1)).toInt 1 0 (xs (i + 2)).toInt))); rw [up_eq])
    replace hP : va_P G vwCl (lwF (lwC Y hv g9 u af tx ln pl su tk nu (adT K (xs (i + 1)).toInt 1 0 (xs (i + 2)).toInt) Kto Kt ((ix + 1) % 10) (min (z + 1) 10) E C M T n9 tr tr kp Ki (va_up Kk ix K) F A)) H := va_P_pm pmb hP1
    replace hD : va_D _ (lwF (lwC Y hv g9 u af tx ln pl su tk nu (adT K (xs (i + 1)).toInt 1 0 (xs (i + 2)).toInt) Kto Kt ((ix + 1) % 10) (min (z + 1) 10) E C M T n9 tr tr kp Ki (va_up Kk ix K) F A)) := va_D_pm pmb hD1
    clear pmb hP1 hD1 hP0 hD0
    refine lv_aload_n hx hb dL_law_444 rfl (lv_at hl 2 rfl) ?_
    refine lv_aload_n hx hb dL_law_445 rfl (lv_at hl 0 rfl) ?_
    refine lv_iload_n hx hb dL_law_446 rfl (lv_at hl 3 rfl) ?_
    refine z_iconst hx hb dL_law_447 ?_
    refine z_iadd hx hb dL_law_448 ?_
    refine z_sld hx hb hX hbA hS (i + 1) (by omega) dL_law_449 ?_
    refine lv_aload_n hx hb dL_law_450 rfl (lv_at hl 0 rfl) ?_
    refine lv_iload_n hx hb dL_law_451 rfl (lv_at hl 3 rfl) ?_
    refine z_iconst hx hb dL_law_452 ?_
    refine z_iadd hx hb dL_law_453 ?_
    refine z_sld hx hb hX hbA hS (i + 2) (by omega) dL_law_454 ?_
    have hP0 := va_P_pm (lw_pm (lwC Y hv g9 u af tx ln pl su tk nu (adT K (xs (i + 1)).toInt 1 0 (xs (i + 2)).toInt) Kto Kt ((ix + 1) % 10) (min (z + 1) 10) E C M T n9 tr tr kp Ki (va_up Kk ix K) F A) (ps := [12]) (by decide)) hP
    have hD0 := va_D_pm (lw_pm (lwC Y hv g9 u af tx ln pl su tk nu (adT K (xs (i + 1)).toInt 1 0 (xs (i + 2)).toInt) Kto Kt ((ix + 1) % 10) (min (z + 1) 10) E C M T n9 tr tr kp Ki (va_up Kk ix K) F A) (ps := [12]) (by decide)) hD
    refine mu_V (As := [.int (iZ (xs (i + 1)).toInt), .int (iZ (xs (i + 2)).toInt)]) (rest := [.int (iZ (rPlants K (xs (i + 1)).toInt (xs (i + 2)).toInt))]) (F := lwR [12] (lwC Y hv g9 u af tx ln pl su tk nu (adT K (xs (i + 1)).toInt 1 0 (xs (i + 2)).toInt) Kto Kt ((ix + 1) % 10) (min (z + 1) 10) E C M T n9 tr tr kp Ki (va_up Kk ix K) F A)) (wc' := moW Y g9 af (bif fPlants (kF F A (A 17)) (xs (i + 1)).toInt (xs (i + 2)).toInt then opF F else F) (bif fPlants (kF F A (A 17)) (xs (i + 1)).toInt (xs (i + 2)).toInt then opA F A (plA (A 17) (xs (i + 1)).toInt (xs (i + 2)).toInt) else A) tr) ⟨hx, hb, hml, hown, hts⟩ (c_X7_plants l G Y g9 af F A tr hV hno (by omega) (xs (i + 1)).toInt (xs (i + 2)).toInt ⟨ra1, ra2⟩) (cwV 2 hts gL_law_X7_plants rfl rfl rfl (by decide +kernel) ⟨Nat.le_of_ble_eq_true rfl, Nat.le_of_ble_eq_true rfl⟩) hK hP0 hD0 hS 0 rfl rfl (Eq.refl [g9, af 1, af 11, af 12, af 16, af 17, af 18, af 19, af 20, af 21, af 24]) rfl hl.1 rfl (Nat.le_of_ble_eq_true rfl) dL_law_455 hce (fun H locs hP1 hD1 hS => ?_)
    show W _ _ _ _ _ _ _ _ _ _ _ _ _ _ _ (F0 _ _ _ (.int (iZ (rPlants (kF F A (A 17)) (xs (i + 1)).toInt (xs (i + 2)).toInt)) :: [.int (iZ (rPlants K (xs (i + 1)).toInt (xs (i + 2)).toInt))]))
    have hf7 : fPlants (kF F A (A 17)) (xs (i + 1)).toInt (xs (i + 2)).toInt = true := (rPlants_c hE _ _).2.symm.trans hf
    rw [hf7, cond_true, cond_true] at hP1 hD1
    have pmb := lw_back (ch := lwC Y hv g9 u af tx ln pl su tk nu (adT K (xs (i + 1)).toInt 1 0 (xs (i + 2)).toInt) Kto Kt ((ix + 1) % 10) (min (z + 1) 10) E C M T n9 tr tr kp Ki (va_up Kk ix K) F A) (ch' := lwC Y hv g9 u af tx ln pl su tk nu (adT K (xs (i + 1)).toInt 1 0 (xs (i + 2)).toInt) Kto Kt ((ix + 1) % 10) (min (z + 1) 10) E C M T n9 tr tr kp Ki (va_up Kk ix K) (opF F) (opA F A (plA (A 17) (xs (i + 1)).toInt (xs (i + 2)).toInt))) (ps := [12]) (by decide) (rfl) (w := moW Y g9 af (opF F) (opA F A (plA (A 17) (xs (i + 1)).toInt (xs (i + 2)).toInt)) tr) (rfl)
    replace hP : va_P G vwCl (lwF (lwC Y hv g9 u af tx ln pl su tk nu (adT K (xs (i + 1)).toInt 1 0 (xs (i + 2)).toInt) Kto Kt ((ix + 1) % 10) (min (z + 1) 10) E C M T n9 tr tr kp Ki (va_up Kk ix K) (opF F) (opA F A (plA (A 17) (xs (i + 1)).toInt (xs (i + 2)).toInt)))) H := va_P_pm pmb hP1
    replace hD : va_D _ (lwF (lwC Y hv g9 u af tx ln pl su tk nu (adT K (xs (i + 1)).toInt 1 0 (xs (i + 2)).toInt) Kto Kt ((ix + 1) % 10) (min (z + 1) 10) E C M T n9 tr tr kp Ki (va_up Kk ix K) (opF F) (opA F A (plA (A 17) (xs (i + 1)).toInt (xs (i + 2)).toInt)))) := va_D_pm pmb hD1
    clear pmb hP1 hD1 hP0 hD0
    refine z_cmpeq (tgt := 990) hx hb ((rPlants_c hE _ _).1.symm) dL_law_458 (by decide) ?_
    exact kk tx ln pl su tk nu (adT K (xs (i + 1)).toInt 1 0 (xs (i + 2)).toInt) Kto Kt ((ix + 1) % 10) (min (z + 1) 10) E C M T n9 tr kp Ki (va_up Kk ix K) (opF F) (opA F A (plA (A 17) (xs (i + 1)).toInt (xs (i + 2)).toInt)) H locs (oi_plants hI hf) ⟨hP, hD, hS⟩

set_option maxHeartbeats 4000000 in
set_option maxRecDepth 100000 in
theorem lc_fells {p : Program} {l : Launch} {e : Env} {s : State} {m : MethodId} {below : List Frame} {meth : Method} {c : Code} {H : Heap} {locs : List Loc} {cells slots : Nat} {Q : State → Prop} {G : va_G} {Y : Nat → ClassId} {b L : Nat} {xs : Nat → Int32} (X : lwX p s m meth c b L xs G Y) (hce : cells ≤ 600000 ∧ slots ≤ 7302249) {hv g9 : Nat} {u : svU} {af : Nat → Nat} {i : Nat} (hi : i + 4 ≤ L) {ls : Array Slot} (hl : lv_has ls 4 [(0, .ref b), (1, .ref hv), (2, .ref g9), (3, .int (iZ ((i : Nat) : Int)))]) {tx : Nat → Int} {ln : Nat} {pl : Nat} {su : Bool} {tk : Nat} {nu : Int} {K : Kom} {Kto : Kom} {Kt : Kom} {ix : Nat} {z : Nat} {E : Nat → Int} {C : Nat → Int} {M : Nat → Int} {T : Nat → Int} {n9 : Int} {tr : Int64} {kp : Nat → Int} {Ki : Nat → Kom} {Kk : Nat → Kom} {F : Nat → Int} {A : Kom} (hI : lwI tx ln tk K Kto ix z M T n9 kp Ki Kk F A) (hH : lwH G s (lwC Y hv g9 u af tx ln pl su tk nu K Kto Kt ix z E C M T n9 tr tr kp Ki Kk F A) H locs) (kk : lwK p l e s m below meth c cells slots Q G Y b hv g9 u af ls) : W p l e room_1 s m #[Value.ref b] below meth c H locs cells slots Q (F0 m 463 ls []) := by
  obtain ⟨hx, hb, hml, hown, hts, hX, hK⟩ := X
  obtain ⟨hP, hD, hS⟩ := hH
  have hbA : ¬ (fun q : Nat => s.heap.size ≤ q) b := Nat.not_le.mpr hX.2.1
  have i1 := hI.1
  have i2 := hI.2.1
  have i3 := hI.2.2.1
  have i4 := hI.2.2.2.1
  have i5 := hI.2.2.2.2.1
  have i6 := hI.2.2.2.2.2
  have hW := i2.1
  have hE := i2.2.1
  have hV := i2.2.2.1
  have h26 := i2.2.2.2
  have hno : F 26 < 0 := by omega
  have hKb := hW.1
  have hvb := mV_b hV
  have hk2 : K 0 2 = A 17 3 := hE.k2
  have hL9 := hX.2.2
  have ra1 := iZ_range (xs (i + 1))
  cases hf : fFells K (xs (i + 1)).toInt
  · skip
    refine lv_aload_n hx hb dL_law_463 rfl (lv_at hl 1 rfl) ?_
    refine lv_aload_n hx hb dL_law_464 rfl (lv_at hl 0 rfl) ?_
    refine lv_iload_n hx hb dL_law_465 rfl (lv_at hl 3 rfl) ?_
    refine z_iconst hx hb dL_law_466 ?_
    refine z_iadd hx hb dL_law_467 ?_
    refine z_sld hx hb hX hbA hS (i + 1) (by omega) dL_law_468 ?_
    have hP0 := va_P_pm (lw_pm (lwC Y hv g9 u af tx ln pl su tk nu K Kto Kt ix z E C M T n9 tr tr kp Ki Kk F A) (ps := [0, 4, ix + 15, 2]) (pm_op ix i4.1)) hP
    have hD0 := va_D_pm (lw_pm (lwC Y hv g9 u af tx ln pl su tk nu K Kto Kt ix z E C M T n9 tr tr kp Ki Kk F A) (ps := [0, 4, ix + 15, 2]) (pm_op ix i4.1)) hD
    refine mu_V (As := [.int (iZ (xs (i + 1)).toInt)]) (rest := []) (F := lwR [0, 4, ix + 15, 2] (lwC Y hv g9 u af tx ln pl su tk nu K Kto Kt ix z E C M T n9 tr tr kp Ki Kk F A)) (wc' := svO Y hv (u.1 1) (u.1 2) (u.1 3) (u.1 4) (u.1 5) (u.1 6) (u.1 7) (u.1 8) (u.1 9) ++ opW Y (u.1 4) (u.1 11) (u.2.1 2) ((ix : Nat) : Int) ((z : Nat) : Int) ix (u.2.2.1 ix) (Kk ix) (u.1 2) (u.2.1 0) K (fFells K (xs (i + 1)).toInt) (kFells K (xs (i + 1)).toInt)) ⟨hx, hb, hml, hown, hts⟩ (c_X6_fells l G Y hv (u.1 1) (u.1 2) (u.1 3) (u.1 4) (u.1 5) (u.1 6) (u.1 7) (u.1 8) (u.1 9) (u.1 11) (u.2.1 2) ((ix : Nat) : Int) ((z : Nat) : Int) ix (u.2.2.1 ix) (Kk ix) (u.2.1 0) K hW ⟨⟨rfl, i4.1⟩, by omega, by omega⟩ (xs (i + 1)).toInt ra1) (cwV 1 hts gL_law_X6_fells rfl rfl rfl (by decide +kernel) ⟨Nat.le_of_ble_eq_true rfl, Nat.le_of_ble_eq_true rfl⟩) hK hP0 hD0 hS 0 rfl rfl (Eq.refl [hv, u.1 4, u.1 11, u.2.1 2 ix, u.2.2.1 ix 1, u.2.2.1 ix 2, u.2.2.1 ix 3, u.2.2.1 ix 4, u.2.2.1 ix 5, u.2.2.1 ix 6, u.2.2.1 ix 7, u.1 2, u.2.1 0 1, u.2.1 0 2, u.2.1 0 3, u.2.1 0 4, u.2.1 0 5, u.2.1 0 6, u.2.1 0 7]) rfl hl.1 rfl (Nat.le_of_ble_eq_true rfl) dL_law_469 hce (fun H locs hP1 hD1 hS => ?_)
    show W _ _ _ _ _ _ _ _ _ _ _ _ _ _ _ (F0 _ _ _ (.int (iZ (rFells K (xs (i + 1)).toInt)) :: []))
    rw [hf] at hP1 hD1
    have pmb := lw_back (ch := lwC Y hv g9 u af tx ln pl su tk nu K Kto Kt ix z E C M T n9 tr tr kp Ki Kk F A) (ch' := lwC Y hv g9 u af tx ln pl su tk nu K Kto Kt ix z E C M T n9 tr tr kp Ki Kk F A) (ps := [0, 4, ix + 15, 2]) (pm_op ix i4.1) (rfl) (w := svO Y hv (u.1 1) (u.1 2) (u.1 3) (u.1 4) (u.1 5) (u.1 6) (u.1 7) (u.1 8) (u.1 9) ++ (paW Y (u.1 4) (u.1 11) (u.2.1 2) ((ix : Nat) : Int) ((z : Nat) : Int) ++ (cmW Y (u.2.1 2 ix) (u.2.2.1 ix) (Kk ix) ++ cmW Y (u.1 2) (u.2.1 0) K))) (rfl)
    replace hP : va_P G vwCl (lwF (lwC Y hv g9 u af tx ln pl su tk nu K Kto Kt ix z E C M T n9 tr tr kp Ki Kk F A)) H := va_P_pm pmb hP1
    replace hD : va_D _ (lwF (lwC Y hv g9 u af tx ln pl su tk nu K Kto Kt ix z E C M T n9 tr tr kp Ki Kk F A)) := va_D_pm pmb hD1
    clear pmb hP1 hD1 hP0 hD0
    refine lv_aload_n hx hb dL_law_472 rfl (lv_at hl 2 rfl) ?_
    refine lv_aload_n hx hb dL_law_473 rfl (lv_at hl 0 rfl) ?_
    refine lv_iload_n hx hb dL_law_474 rfl (lv_at hl 3 rfl) ?_
    refine z_iconst hx hb dL_law_475 ?_
    refine z_iadd hx hb dL_law_476 ?_
    refine z_sld hx hb hX hbA hS (i + 1) (by omega) dL_law_477 ?_
    have hP0 := va_P_pm (lw_pm (lwC Y hv g9 u af tx ln pl su tk nu K Kto Kt ix z E C M T n9 tr tr kp Ki Kk F A) (ps := [12]) (by decide)) hP
    have hD0 := va_D_pm (lw_pm (lwC Y hv g9 u af tx ln pl su tk nu K Kto Kt ix z E C M T n9 tr tr kp Ki Kk F A) (ps := [12]) (by decide)) hD
    refine mu_V (As := [.int (iZ (xs (i + 1)).toInt)]) (rest := [.int (iZ (rFells K (xs (i + 1)).toInt))]) (F := lwR [12] (lwC Y hv g9 u af tx ln pl su tk nu K Kto Kt ix z E C M T n9 tr tr kp Ki Kk F A)) (wc' := moW Y g9 af (bif fFells (kF F A (A 17)) (xs (i + 1)).toInt then opF F else F) (bif fFells (kF F A (A 17)) (xs (i + 1)).toInt then opA F A (va_up (va_up (A 17) (24 + (xs (i + 1)).toInt).toNat 1) (9 + (xs (i + 1)).toInt).toNat 0) else A) tr) ⟨hx, hb, hml, hown, hts⟩ (c_X7_fells l G Y g9 af F A tr hV hno (by omega) (xs (i + 1)).toInt ra1) (cwV 1 hts gL_law_X7_fells rfl rfl rfl (by decide +kernel) ⟨Nat.le_of_ble_eq_true rfl, Nat.le_of_ble_eq_true rfl⟩) hK hP0 hD0 hS 0 rfl rfl (Eq.refl [g9, af 1, af 11, af 12, af 16, af 17, af 18, af 19, af 20, af 21, af 24]) rfl hl.1 rfl (Nat.le_of_ble_eq_true rfl) dL_law_478 hce (fun H locs hP1 hD1 hS => ?_)
    show W _ _ _ _ _ _ _ _ _ _ _ _ _ _ _ (F0 _ _ _ (.int (iZ (rFells (kF F A (A 17)) (xs (i + 1)).toInt)) :: [.int (iZ (rFells K (xs (i + 1)).toInt))]))
    have hf7 : fFells (kF F A (A 17)) (xs (i + 1)).toInt = false := (rFells_c hE _).2.symm.trans hf
    rw [hf7, cond_false, cond_false] at hP1 hD1
    have pmb := lw_back (ch := lwC Y hv g9 u af tx ln pl su tk nu K Kto Kt ix z E C M T n9 tr tr kp Ki Kk F A) (ch' := lwC Y hv g9 u af tx ln pl su tk nu K Kto Kt ix z E C M T n9 tr tr kp Ki Kk F A) (ps := [12]) (by decide) (rfl) (w := moW Y g9 af F A tr) (rfl)
    replace hP : va_P G vwCl (lwF (lwC Y hv g9 u af tx ln pl su tk nu K Kto Kt ix z E C M T n9 tr tr kp Ki Kk F A)) H := va_P_pm pmb hP1
    replace hD : va_D _ (lwF (lwC Y hv g9 u af tx ln pl su tk nu K Kto Kt ix z E C M T n9 tr tr kp Ki Kk F A)) := va_D_pm pmb hD1
    clear pmb hP1 hD1 hP0 hD0
    refine z_cmpeq (tgt := 990) hx hb ((rFells_c hE _).1.symm) dL_law_481 (by decide) ?_
    exact kk tx ln pl su tk nu K Kto Kt ix z E C M T n9 tr kp Ki Kk F A H locs (hI) ⟨hP, hD, hS⟩
  · skip
    refine lv_aload_n hx hb dL_law_463 rfl (lv_at hl 1 rfl) ?_
    refine lv_aload_n hx hb dL_law_464 rfl (lv_at hl 0 rfl) ?_
    refine lv_iload_n hx hb dL_law_465 rfl (lv_at hl 3 rfl) ?_
    refine z_iconst hx hb dL_law_466 ?_
    refine z_iadd hx hb dL_law_467 ?_
    refine z_sld hx hb hX hbA hS (i + 1) (by omega) dL_law_468 ?_
    have hP0 := va_P_pm (lw_pm (lwC Y hv g9 u af tx ln pl su tk nu K Kto Kt ix z E C M T n9 tr tr kp Ki Kk F A) (ps := [0, 4, ix + 15, 2]) (pm_op ix i4.1)) hP
    have hD0 := va_D_pm (lw_pm (lwC Y hv g9 u af tx ln pl su tk nu K Kto Kt ix z E C M T n9 tr tr kp Ki Kk F A) (ps := [0, 4, ix + 15, 2]) (pm_op ix i4.1)) hD
    refine mu_V (As := [.int (iZ (xs (i + 1)).toInt)]) (rest := []) (F := lwR [0, 4, ix + 15, 2] (lwC Y hv g9 u af tx ln pl su tk nu K Kto Kt ix z E C M T n9 tr tr kp Ki Kk F A)) (wc' := svO Y hv (u.1 1) (u.1 2) (u.1 3) (u.1 4) (u.1 5) (u.1 6) (u.1 7) (u.1 8) (u.1 9) ++ opW Y (u.1 4) (u.1 11) (u.2.1 2) ((ix : Nat) : Int) ((z : Nat) : Int) ix (u.2.2.1 ix) (Kk ix) (u.1 2) (u.2.1 0) K (fFells K (xs (i + 1)).toInt) (kFells K (xs (i + 1)).toInt)) ⟨hx, hb, hml, hown, hts⟩ (c_X6_fells l G Y hv (u.1 1) (u.1 2) (u.1 3) (u.1 4) (u.1 5) (u.1 6) (u.1 7) (u.1 8) (u.1 9) (u.1 11) (u.2.1 2) ((ix : Nat) : Int) ((z : Nat) : Int) ix (u.2.2.1 ix) (Kk ix) (u.2.1 0) K hW ⟨⟨rfl, i4.1⟩, by omega, by omega⟩ (xs (i + 1)).toInt ra1) (cwV 1 hts gL_law_X6_fells rfl rfl rfl (by decide +kernel) ⟨Nat.le_of_ble_eq_true rfl, Nat.le_of_ble_eq_true rfl⟩) hK hP0 hD0 hS 0 rfl rfl (Eq.refl [hv, u.1 4, u.1 11, u.2.1 2 ix, u.2.2.1 ix 1, u.2.2.1 ix 2, u.2.2.1 ix 3, u.2.2.1 ix 4, u.2.2.1 ix 5, u.2.2.1 ix 6, u.2.2.1 ix 7, u.1 2, u.2.1 0 1, u.2.1 0 2, u.2.1 0 3, u.2.1 0 4, u.2.1 0 5, u.2.1 0 6, u.2.1 0 7]) rfl hl.1 rfl (Nat.le_of_ble_eq_true rfl) dL_law_469 hce (fun H locs hP1 hD1 hS => ?_)
    show W _ _ _ _ _ _ _ _ _ _ _ _ _ _ _ (F0 _ _ _ (.int (iZ (rFells K (xs (i + 1)).toInt)) :: []))
    rw [hf, op_t] at hP1 hD1
    have pmb := lw_back (ch := lwC Y hv g9 u af tx ln pl su tk nu K Kto Kt ix z E C M T n9 tr tr kp Ki Kk F A) (ch' := lwC Y hv g9 u af tx ln pl su tk nu (kFells K (xs (i + 1)).toInt) Kto Kt ((ix + 1) % 10) (min (z + 1) 10) E C M T n9 tr tr kp Ki (va_up Kk ix K) F A) (ps := [0, 4, ix + 15, 2]) (pm_op ix i4.1) (rs_op Y hv g9 u af tx ln pl su tk nu K Kto Kt ix z E C M T n9 tr tr kp Ki Kk F A (kFells K (xs (i + 1)).toInt) K ((ix + 1) % 10) (min (z + 1) 10) i4.1) (w := svO Y hv (u.1 1) (u.1 2) (u.1 3) (u.1 4) (u.1 5) (u.1 6) (u.1 7) (u.1 8) (u.1 9) ++ (paW Y (u.1 4) (u.1 11) (u.2.1 2) (((ix + 1) % 10 : Nat) : Int) ((min (z + 1) 10 : Nat) : Int) ++ (cmW Y (u.2.1 2 ix) (u.2.2.1 ix) K ++ cmW Y (u.1 2) (u.2.1 0) (kFells K (xs (i + 1)).toInt)))) (by show _ = svO Y hv (u.1 1) (u.1 2) (u.1 3) (u.1 4) (u.1 5) (u.1 6) (u.1 7) (u.1 8) (u.1 9) ++ (paW Y (u.1 4) (u.1 11) (u.2.1 2) (((ix + 1) % 10 : Nat) : Int) ((min (z + 1) 10 : Nat) : Int) ++ (cmW Y (u.2.1 2 ix) (u.2.2.1 ix) (va_up Kk ix K ix) ++ cmW Y (u.1 2) (u.2.1 0) (kFells K (xs (i + 1)).toInt))); rw [up_eq])
    replace hP : va_P G vwCl (lwF (lwC Y hv g9 u af tx ln pl su tk nu (kFells K (xs (i + 1)).toInt) Kto Kt ((ix + 1) % 10) (min (z + 1) 10) E C M T n9 tr tr kp Ki (va_up Kk ix K) F A)) H := va_P_pm pmb hP1
    replace hD : va_D _ (lwF (lwC Y hv g9 u af tx ln pl su tk nu (kFells K (xs (i + 1)).toInt) Kto Kt ((ix + 1) % 10) (min (z + 1) 10) E C M T n9 tr tr kp Ki (va_up Kk ix K) F A)) := va_D_pm pmb hD1
    clear pmb hP1 hD1 hP0 hD0
    refine lv_aload_n hx hb dL_law_472 rfl (lv_at hl 2 rfl) ?_
    refine lv_aload_n hx hb dL_law_473 rfl (lv_at hl 0 rfl) ?_
    refine lv_iload_n hx hb dL_law_474 rfl (lv_at hl 3 rfl) ?_
    refine z_iconst hx hb dL_law_475 ?_
    refine z_iadd hx hb dL_law_476 ?_
    refine z_sld hx hb hX hbA hS (i + 1) (by omega) dL_law_477 ?_
    have hP0 := va_P_pm (lw_pm (lwC Y hv g9 u af tx ln pl su tk nu (kFells K (xs (i + 1)).toInt) Kto Kt ((ix + 1) % 10) (min (z + 1) 10) E C M T n9 tr tr kp Ki (va_up Kk ix K) F A) (ps := [12]) (by decide)) hP
    have hD0 := va_D_pm (lw_pm (lwC Y hv g9 u af tx ln pl su tk nu (kFells K (xs (i + 1)).toInt) Kto Kt ((ix + 1) % 10) (min (z + 1) 10) E C M T n9 tr tr kp Ki (va_up Kk ix K) F A) (ps := [12]) (by decide)) hD
    refine mu_V (As := [.int (iZ (xs (i + 1)).toInt)]) (rest := [.int (iZ (rFells K (xs (i + 1)).toInt))]) (F := lwR [12] (lwC Y hv g9 u af tx ln pl su tk nu (kFells K (xs (i + 1)).toInt) Kto Kt ((ix + 1) % 10) (min (z + 1) 10) E C M T n9 tr tr kp Ki (va_up Kk ix K) F A)) (wc' := moW Y g9 af (bif fFells (kF F A (A 17)) (xs (i + 1)).toInt then opF F else F) (bif fFells (kF F A (A 17)) (xs (i + 1)).toInt then opA F A (va_up (va_up (A 17) (24 + (xs (i + 1)).toInt).toNat 1) (9 + (xs (i + 1)).toInt).toNat 0) else A) tr) ⟨hx, hb, hml, hown, hts⟩ (c_X7_fells l G Y g9 af F A tr hV hno (by omega) (xs (i + 1)).toInt ra1) (cwV 1 hts gL_law_X7_fells rfl rfl rfl (by decide +kernel) ⟨Nat.le_of_ble_eq_true rfl, Nat.le_of_ble_eq_true rfl⟩) hK hP0 hD0 hS 0 rfl rfl (Eq.refl [g9, af 1, af 11, af 12, af 16, af 17, af 18, af 19, af 20, af 21, af 24]) rfl hl.1 rfl (Nat.le_of_ble_eq_true rfl) dL_law_478 hce (fun H locs hP1 hD1 hS => ?_)
    show W _ _ _ _ _ _ _ _ _ _ _ _ _ _ _ (F0 _ _ _ (.int (iZ (rFells (kF F A (A 17)) (xs (i + 1)).toInt)) :: [.int (iZ (rFells K (xs (i + 1)).toInt))]))
    have hf7 : fFells (kF F A (A 17)) (xs (i + 1)).toInt = true := (rFells_c hE _).2.symm.trans hf
    rw [hf7, cond_true, cond_true] at hP1 hD1
    have pmb := lw_back (ch := lwC Y hv g9 u af tx ln pl su tk nu (kFells K (xs (i + 1)).toInt) Kto Kt ((ix + 1) % 10) (min (z + 1) 10) E C M T n9 tr tr kp Ki (va_up Kk ix K) F A) (ch' := lwC Y hv g9 u af tx ln pl su tk nu (kFells K (xs (i + 1)).toInt) Kto Kt ((ix + 1) % 10) (min (z + 1) 10) E C M T n9 tr tr kp Ki (va_up Kk ix K) (opF F) (opA F A (va_up (va_up (A 17) (24 + (xs (i + 1)).toInt).toNat 1) (9 + (xs (i + 1)).toInt).toNat 0))) (ps := [12]) (by decide) (rfl) (w := moW Y g9 af (opF F) (opA F A (va_up (va_up (A 17) (24 + (xs (i + 1)).toInt).toNat 1) (9 + (xs (i + 1)).toInt).toNat 0)) tr) (rfl)
    replace hP : va_P G vwCl (lwF (lwC Y hv g9 u af tx ln pl su tk nu (kFells K (xs (i + 1)).toInt) Kto Kt ((ix + 1) % 10) (min (z + 1) 10) E C M T n9 tr tr kp Ki (va_up Kk ix K) (opF F) (opA F A (va_up (va_up (A 17) (24 + (xs (i + 1)).toInt).toNat 1) (9 + (xs (i + 1)).toInt).toNat 0)))) H := va_P_pm pmb hP1
    replace hD : va_D _ (lwF (lwC Y hv g9 u af tx ln pl su tk nu (kFells K (xs (i + 1)).toInt) Kto Kt ((ix + 1) % 10) (min (z + 1) 10) E C M T n9 tr tr kp Ki (va_up Kk ix K) (opF F) (opA F A (va_up (va_up (A 17) (24 + (xs (i + 1)).toInt).toNat 1) (9 + (xs (i + 1)).toInt).toNat 0)))) := va_D_pm pmb hD1
    clear pmb hP1 hD1 hP0 hD0
    refine z_cmpeq (tgt := 990) hx hb ((rFells_c hE _).1.symm) dL_law_481 (by decide) ?_
    exact kk tx ln pl su tk nu (kFells K (xs (i + 1)).toInt) Kto Kt ((ix + 1) % 10) (min (z + 1) 10) E C M T n9 tr kp Ki (va_up Kk ix K) (opF F) (opA F A (va_up (va_up (A 17) (24 + (xs (i + 1)).toInt).toNat 1) (9 + (xs (i + 1)).toInt).toNat 0)) H locs (oi_fells hI hf) ⟨hP, hD, hS⟩

set_option maxHeartbeats 4000000 in
set_option maxRecDepth 100000 in
theorem lc_winter {p : Program} {l : Launch} {e : Env} {s : State} {m : MethodId} {below : List Frame} {meth : Method} {c : Code} {H : Heap} {locs : List Loc} {cells slots : Nat} {Q : State → Prop} {G : va_G} {Y : Nat → ClassId} {b L : Nat} {xs : Nat → Int32} (X : lwX p s m meth c b L xs G Y) (hce : cells ≤ 600000 ∧ slots ≤ 7302249) {hv g9 : Nat} {u : svU} {af : Nat → Nat} {i : Nat} (hi : i + 4 ≤ L) {ls : Array Slot} (hl : lv_has ls 4 [(0, .ref b), (1, .ref hv), (2, .ref g9), (3, .int (iZ ((i : Nat) : Int)))]) {tx : Nat → Int} {ln : Nat} {pl : Nat} {su : Bool} {tk : Nat} {nu : Int} {K : Kom} {Kto : Kom} {Kt : Kom} {ix : Nat} {z : Nat} {E : Nat → Int} {C : Nat → Int} {M : Nat → Int} {T : Nat → Int} {n9 : Int} {tr : Int64} {kp : Nat → Int} {Ki : Nat → Kom} {Kk : Nat → Kom} {F : Nat → Int} {A : Kom} (hI : lwI tx ln tk K Kto ix z M T n9 kp Ki Kk F A) (hH : lwH G s (lwC Y hv g9 u af tx ln pl su tk nu K Kto Kt ix z E C M T n9 tr tr kp Ki Kk F A) H locs) (kk : lwK p l e s m below meth c cells slots Q G Y b hv g9 u af ls) : W p l e room_1 s m #[Value.ref b] below meth c H locs cells slots Q (F0 m 486 ls []) := by
  obtain ⟨hx, hb, hml, hown, hts, hX, hK⟩ := X
  obtain ⟨hP, hD, hS⟩ := hH
  have hbA : ¬ (fun q : Nat => s.heap.size ≤ q) b := Nat.not_le.mpr hX.2.1
  have i1 := hI.1
  have i2 := hI.2.1
  have i3 := hI.2.2.1
  have i4 := hI.2.2.2.1
  have i5 := hI.2.2.2.2.1
  have i6 := hI.2.2.2.2.2
  have hW := i2.1
  have hE := i2.2.1
  have hV := i2.2.2.1
  have h26 := i2.2.2.2
  have hno : F 26 < 0 := by omega
  have hKb := hW.1
  have hvb := mV_b hV
  have hk2 : K 0 2 = A 17 3 := hE.k2
  have hL9 := hX.2.2
  have ra1 := iZ_range (xs (i + 1))
  cases hf : fWint (xs (i + 1)).toInt
  · skip
    refine lv_aload_n hx hb dL_law_486 rfl (lv_at hl 1 rfl) ?_
    refine lv_aload_n hx hb dL_law_487 rfl (lv_at hl 0 rfl) ?_
    refine lv_iload_n hx hb dL_law_488 rfl (lv_at hl 3 rfl) ?_
    refine z_iconst hx hb dL_law_489 ?_
    refine z_iadd hx hb dL_law_490 ?_
    refine z_sld hx hb hX hbA hS (i + 1) (by omega) dL_law_491 ?_
    have hP0 := va_P_pm (lw_pm (lwC Y hv g9 u af tx ln pl su tk nu K Kto Kt ix z E C M T n9 tr tr kp Ki Kk F A) (ps := [0, 4, ix + 15, 2]) (pm_op ix i4.1)) hP
    have hD0 := va_D_pm (lw_pm (lwC Y hv g9 u af tx ln pl su tk nu K Kto Kt ix z E C M T n9 tr tr kp Ki Kk F A) (ps := [0, 4, ix + 15, 2]) (pm_op ix i4.1)) hD
    refine mu_V (As := [.int (iZ (xs (i + 1)).toInt)]) (rest := []) (F := lwR [0, 4, ix + 15, 2] (lwC Y hv g9 u af tx ln pl su tk nu K Kto Kt ix z E C M T n9 tr tr kp Ki Kk F A)) (wc' := svO Y hv (u.1 1) (u.1 2) (u.1 3) (u.1 4) (u.1 5) (u.1 6) (u.1 7) (u.1 8) (u.1 9) ++ opW Y (u.1 4) (u.1 11) (u.2.1 2) ((ix : Nat) : Int) ((z : Nat) : Int) ix (u.2.2.1 ix) (Kk ix) (u.1 2) (u.2.1 0) K (fWint (xs (i + 1)).toInt) (kS K 0 6 (xs (i + 1)).toInt)) ⟨hx, hb, hml, hown, hts⟩ (c_X6_winter l G Y hv (u.1 1) (u.1 2) (u.1 3) (u.1 4) (u.1 5) (u.1 6) (u.1 7) (u.1 8) (u.1 9) (u.1 11) (u.2.1 2) ((ix : Nat) : Int) ((z : Nat) : Int) ix (u.2.2.1 ix) (Kk ix) (u.2.1 0) K hW ⟨⟨rfl, i4.1⟩, by omega, by omega⟩ (xs (i + 1)).toInt ra1) (cwV 1 hts gL_law_X6_winter rfl rfl rfl (by decide +kernel) ⟨Nat.le_of_ble_eq_true rfl, Nat.le_of_ble_eq_true rfl⟩) hK hP0 hD0 hS 0 rfl rfl (Eq.refl [hv, u.1 4, u.1 11, u.2.1 2 ix, u.2.2.1 ix 1, u.2.2.1 ix 2, u.2.2.1 ix 3, u.2.2.1 ix 4, u.2.2.1 ix 5, u.2.2.1 ix 6, u.2.2.1 ix 7, u.1 2, u.2.1 0 1, u.2.1 0 2, u.2.1 0 3, u.2.1 0 4, u.2.1 0 5, u.2.1 0 6, u.2.1 0 7]) rfl hl.1 rfl (Nat.le_of_ble_eq_true rfl) dL_law_492 hce (fun H locs hP1 hD1 hS => ?_)
    show W _ _ _ _ _ _ _ _ _ _ _ _ _ _ _ (F0 _ _ _ (.int (iZ (rWint K (xs (i + 1)).toInt)) :: []))
    rw [hf] at hP1 hD1
    have pmb := lw_back (ch := lwC Y hv g9 u af tx ln pl su tk nu K Kto Kt ix z E C M T n9 tr tr kp Ki Kk F A) (ch' := lwC Y hv g9 u af tx ln pl su tk nu K Kto Kt ix z E C M T n9 tr tr kp Ki Kk F A) (ps := [0, 4, ix + 15, 2]) (pm_op ix i4.1) (rfl) (w := svO Y hv (u.1 1) (u.1 2) (u.1 3) (u.1 4) (u.1 5) (u.1 6) (u.1 7) (u.1 8) (u.1 9) ++ (paW Y (u.1 4) (u.1 11) (u.2.1 2) ((ix : Nat) : Int) ((z : Nat) : Int) ++ (cmW Y (u.2.1 2 ix) (u.2.2.1 ix) (Kk ix) ++ cmW Y (u.1 2) (u.2.1 0) K))) (rfl)
    replace hP : va_P G vwCl (lwF (lwC Y hv g9 u af tx ln pl su tk nu K Kto Kt ix z E C M T n9 tr tr kp Ki Kk F A)) H := va_P_pm pmb hP1
    replace hD : va_D _ (lwF (lwC Y hv g9 u af tx ln pl su tk nu K Kto Kt ix z E C M T n9 tr tr kp Ki Kk F A)) := va_D_pm pmb hD1
    clear pmb hP1 hD1 hP0 hD0
    refine lv_aload_n hx hb dL_law_495 rfl (lv_at hl 2 rfl) ?_
    refine lv_aload_n hx hb dL_law_496 rfl (lv_at hl 0 rfl) ?_
    refine lv_iload_n hx hb dL_law_497 rfl (lv_at hl 3 rfl) ?_
    refine z_iconst hx hb dL_law_498 ?_
    refine z_iadd hx hb dL_law_499 ?_
    refine z_sld hx hb hX hbA hS (i + 1) (by omega) dL_law_500 ?_
    have hP0 := va_P_pm (lw_pm (lwC Y hv g9 u af tx ln pl su tk nu K Kto Kt ix z E C M T n9 tr tr kp Ki Kk F A) (ps := [12]) (by decide)) hP
    have hD0 := va_D_pm (lw_pm (lwC Y hv g9 u af tx ln pl su tk nu K Kto Kt ix z E C M T n9 tr tr kp Ki Kk F A) (ps := [12]) (by decide)) hD
    refine mu_V (As := [.int (iZ (xs (i + 1)).toInt)]) (rest := [.int (iZ (rWint K (xs (i + 1)).toInt))]) (F := lwR [12] (lwC Y hv g9 u af tx ln pl su tk nu K Kto Kt ix z E C M T n9 tr tr kp Ki Kk F A)) (wc' := moW Y g9 af (bif fWint (xs (i + 1)).toInt then opF F else F) (bif fWint (xs (i + 1)).toInt then opA F A (va_up (A 17) 2 (xs (i + 1)).toInt) else A) tr) ⟨hx, hb, hml, hown, hts⟩ (c_X7_winter l G Y g9 af F A tr hV hno (by omega) (xs (i + 1)).toInt ra1) (cwV 1 hts gL_law_X7_winter rfl rfl rfl (by decide +kernel) ⟨Nat.le_of_ble_eq_true rfl, Nat.le_of_ble_eq_true rfl⟩) hK hP0 hD0 hS 0 rfl rfl (Eq.refl [g9, af 1, af 11, af 12, af 16, af 17, af 18, af 19, af 20, af 21, af 24]) rfl hl.1 rfl (Nat.le_of_ble_eq_true rfl) dL_law_501 hce (fun H locs hP1 hD1 hS => ?_)
    show W _ _ _ _ _ _ _ _ _ _ _ _ _ _ _ (F0 _ _ _ (.int (iZ (rWint (kF F A (A 17)) (xs (i + 1)).toInt)) :: [.int (iZ (rWint K (xs (i + 1)).toInt))]))
    have hf7 : fWint (xs (i + 1)).toInt = false := hf
    rw [hf7, cond_false, cond_false] at hP1 hD1
    have pmb := lw_back (ch := lwC Y hv g9 u af tx ln pl su tk nu K Kto Kt ix z E C M T n9 tr tr kp Ki Kk F A) (ch' := lwC Y hv g9 u af tx ln pl su tk nu K Kto Kt ix z E C M T n9 tr tr kp Ki Kk F A) (ps := [12]) (by decide) (rfl) (w := moW Y g9 af F A tr) (rfl)
    replace hP : va_P G vwCl (lwF (lwC Y hv g9 u af tx ln pl su tk nu K Kto Kt ix z E C M T n9 tr tr kp Ki Kk F A)) H := va_P_pm pmb hP1
    replace hD : va_D _ (lwF (lwC Y hv g9 u af tx ln pl su tk nu K Kto Kt ix z E C M T n9 tr tr kp Ki Kk F A)) := va_D_pm pmb hD1
    clear pmb hP1 hD1 hP0 hD0
    refine z_cmpeq (tgt := 990) hx hb ((rWint_c hE _).symm) dL_law_504 (by decide) ?_
    exact kk tx ln pl su tk nu K Kto Kt ix z E C M T n9 tr kp Ki Kk F A H locs (hI) ⟨hP, hD, hS⟩
  · skip
    refine lv_aload_n hx hb dL_law_486 rfl (lv_at hl 1 rfl) ?_
    refine lv_aload_n hx hb dL_law_487 rfl (lv_at hl 0 rfl) ?_
    refine lv_iload_n hx hb dL_law_488 rfl (lv_at hl 3 rfl) ?_
    refine z_iconst hx hb dL_law_489 ?_
    refine z_iadd hx hb dL_law_490 ?_
    refine z_sld hx hb hX hbA hS (i + 1) (by omega) dL_law_491 ?_
    have hP0 := va_P_pm (lw_pm (lwC Y hv g9 u af tx ln pl su tk nu K Kto Kt ix z E C M T n9 tr tr kp Ki Kk F A) (ps := [0, 4, ix + 15, 2]) (pm_op ix i4.1)) hP
    have hD0 := va_D_pm (lw_pm (lwC Y hv g9 u af tx ln pl su tk nu K Kto Kt ix z E C M T n9 tr tr kp Ki Kk F A) (ps := [0, 4, ix + 15, 2]) (pm_op ix i4.1)) hD
    refine mu_V (As := [.int (iZ (xs (i + 1)).toInt)]) (rest := []) (F := lwR [0, 4, ix + 15, 2] (lwC Y hv g9 u af tx ln pl su tk nu K Kto Kt ix z E C M T n9 tr tr kp Ki Kk F A)) (wc' := svO Y hv (u.1 1) (u.1 2) (u.1 3) (u.1 4) (u.1 5) (u.1 6) (u.1 7) (u.1 8) (u.1 9) ++ opW Y (u.1 4) (u.1 11) (u.2.1 2) ((ix : Nat) : Int) ((z : Nat) : Int) ix (u.2.2.1 ix) (Kk ix) (u.1 2) (u.2.1 0) K (fWint (xs (i + 1)).toInt) (kS K 0 6 (xs (i + 1)).toInt)) ⟨hx, hb, hml, hown, hts⟩ (c_X6_winter l G Y hv (u.1 1) (u.1 2) (u.1 3) (u.1 4) (u.1 5) (u.1 6) (u.1 7) (u.1 8) (u.1 9) (u.1 11) (u.2.1 2) ((ix : Nat) : Int) ((z : Nat) : Int) ix (u.2.2.1 ix) (Kk ix) (u.2.1 0) K hW ⟨⟨rfl, i4.1⟩, by omega, by omega⟩ (xs (i + 1)).toInt ra1) (cwV 1 hts gL_law_X6_winter rfl rfl rfl (by decide +kernel) ⟨Nat.le_of_ble_eq_true rfl, Nat.le_of_ble_eq_true rfl⟩) hK hP0 hD0 hS 0 rfl rfl (Eq.refl [hv, u.1 4, u.1 11, u.2.1 2 ix, u.2.2.1 ix 1, u.2.2.1 ix 2, u.2.2.1 ix 3, u.2.2.1 ix 4, u.2.2.1 ix 5, u.2.2.1 ix 6, u.2.2.1 ix 7, u.1 2, u.2.1 0 1, u.2.1 0 2, u.2.1 0 3, u.2.1 0 4, u.2.1 0 5, u.2.1 0 6, u.2.1 0 7]) rfl hl.1 rfl (Nat.le_of_ble_eq_true rfl) dL_law_492 hce (fun H locs hP1 hD1 hS => ?_)
    show W _ _ _ _ _ _ _ _ _ _ _ _ _ _ _ (F0 _ _ _ (.int (iZ (rWint K (xs (i + 1)).toInt)) :: []))
    rw [hf, op_t] at hP1 hD1
    have pmb := lw_back (ch := lwC Y hv g9 u af tx ln pl su tk nu K Kto Kt ix z E C M T n9 tr tr kp Ki Kk F A) (ch' := lwC Y hv g9 u af tx ln pl su tk nu (kS K 0 6 (xs (i + 1)).toInt) Kto Kt ((ix + 1) % 10) (min (z + 1) 10) E C M T n9 tr tr kp Ki (va_up Kk ix K) F A) (ps := [0, 4, ix + 15, 2]) (pm_op ix i4.1) (rs_op Y hv g9 u af tx ln pl su tk nu K Kto Kt ix z E C M T n9 tr tr kp Ki Kk F A (kS K 0 6 (xs (i + 1)).toInt) K ((ix + 1) % 10) (min (z + 1) 10) i4.1) (w := svO Y hv (u.1 1) (u.1 2) (u.1 3) (u.1 4) (u.1 5) (u.1 6) (u.1 7) (u.1 8) (u.1 9) ++ (paW Y (u.1 4) (u.1 11) (u.2.1 2) (((ix + 1) % 10 : Nat) : Int) ((min (z + 1) 10 : Nat) : Int) ++ (cmW Y (u.2.1 2 ix) (u.2.2.1 ix) K ++ cmW Y (u.1 2) (u.2.1 0) (kS K 0 6 (xs (i + 1)).toInt)))) (by show _ = svO Y hv (u.1 1) (u.1 2) (u.1 3) (u.1 4) (u.1 5) (u.1 6) (u.1 7) (u.1 8) (u.1 9) ++ (paW Y (u.1 4) (u.1 11) (u.2.1 2) (((ix + 1) % 10 : Nat) : Int) ((min (z + 1) 10 : Nat) : Int) ++ (cmW Y (u.2.1 2 ix) (u.2.2.1 ix) (va_up Kk ix K ix) ++ cmW Y (u.1 2) (u.2.1 0) (kS K 0 6 (xs (i + 1)).toInt))); rw [up_eq])
    replace hP : va_P G vwCl (lwF (lwC Y hv g9 u af tx ln pl su tk nu (kS K 0 6 (xs (i + 1)).toInt) Kto Kt ((ix + 1) % 10) (min (z + 1) 10) E C M T n9 tr tr kp Ki (va_up Kk ix K) F A)) H := va_P_pm pmb hP1
    replace hD : va_D _ (lwF (lwC Y hv g9 u af tx ln pl su tk nu (kS K 0 6 (xs (i + 1)).toInt) Kto Kt ((ix + 1) % 10) (min (z + 1) 10) E C M T n9 tr tr kp Ki (va_up Kk ix K) F A)) := va_D_pm pmb hD1
    clear pmb hP1 hD1 hP0 hD0
    refine lv_aload_n hx hb dL_law_495 rfl (lv_at hl 2 rfl) ?_
    refine lv_aload_n hx hb dL_law_496 rfl (lv_at hl 0 rfl) ?_
    refine lv_iload_n hx hb dL_law_497 rfl (lv_at hl 3 rfl) ?_
    refine z_iconst hx hb dL_law_498 ?_
    refine z_iadd hx hb dL_law_499 ?_
    refine z_sld hx hb hX hbA hS (i + 1) (by omega) dL_law_500 ?_
    have hP0 := va_P_pm (lw_pm (lwC Y hv g9 u af tx ln pl su tk nu (kS K 0 6 (xs (i + 1)).toInt) Kto Kt ((ix + 1) % 10) (min (z + 1) 10) E C M T n9 tr tr kp Ki (va_up Kk ix K) F A) (ps := [12]) (by decide)) hP
    have hD0 := va_D_pm (lw_pm (lwC Y hv g9 u af tx ln pl su tk nu (kS K 0 6 (xs (i + 1)).toInt) Kto Kt ((ix + 1) % 10) (min (z + 1) 10) E C M T n9 tr tr kp Ki (va_up Kk ix K) F A) (ps := [12]) (by decide)) hD
    refine mu_V (As := [.int (iZ (xs (i + 1)).toInt)]) (rest := [.int (iZ (rWint K (xs (i + 1)).toInt))]) (F := lwR [12] (lwC Y hv g9 u af tx ln pl su tk nu (kS K 0 6 (xs (i + 1)).toInt) Kto Kt ((ix + 1) % 10) (min (z + 1) 10) E C M T n9 tr tr kp Ki (va_up Kk ix K) F A)) (wc' := moW Y g9 af (bif fWint (xs (i + 1)).toInt then opF F else F) (bif fWint (xs (i + 1)).toInt then opA F A (va_up (A 17) 2 (xs (i + 1)).toInt) else A) tr) ⟨hx, hb, hml, hown, hts⟩ (c_X7_winter l G Y g9 af F A tr hV hno (by omega) (xs (i + 1)).toInt ra1) (cwV 1 hts gL_law_X7_winter rfl rfl rfl (by decide +kernel) ⟨Nat.le_of_ble_eq_true rfl, Nat.le_of_ble_eq_true rfl⟩) hK hP0 hD0 hS 0 rfl rfl (Eq.refl [g9, af 1, af 11, af 12, af 16, af 17, af 18, af 19, af 20, af 21, af 24]) rfl hl.1 rfl (Nat.le_of_ble_eq_true rfl) dL_law_501 hce (fun H locs hP1 hD1 hS => ?_)
    show W _ _ _ _ _ _ _ _ _ _ _ _ _ _ _ (F0 _ _ _ (.int (iZ (rWint (kF F A (A 17)) (xs (i + 1)).toInt)) :: [.int (iZ (rWint K (xs (i + 1)).toInt))]))
    have hf7 : fWint (xs (i + 1)).toInt = true := hf
    rw [hf7, cond_true, cond_true] at hP1 hD1
    have pmb := lw_back (ch := lwC Y hv g9 u af tx ln pl su tk nu (kS K 0 6 (xs (i + 1)).toInt) Kto Kt ((ix + 1) % 10) (min (z + 1) 10) E C M T n9 tr tr kp Ki (va_up Kk ix K) F A) (ch' := lwC Y hv g9 u af tx ln pl su tk nu (kS K 0 6 (xs (i + 1)).toInt) Kto Kt ((ix + 1) % 10) (min (z + 1) 10) E C M T n9 tr tr kp Ki (va_up Kk ix K) (opF F) (opA F A (va_up (A 17) 2 (xs (i + 1)).toInt))) (ps := [12]) (by decide) (rfl) (w := moW Y g9 af (opF F) (opA F A (va_up (A 17) 2 (xs (i + 1)).toInt)) tr) (rfl)
    replace hP : va_P G vwCl (lwF (lwC Y hv g9 u af tx ln pl su tk nu (kS K 0 6 (xs (i + 1)).toInt) Kto Kt ((ix + 1) % 10) (min (z + 1) 10) E C M T n9 tr tr kp Ki (va_up Kk ix K) (opF F) (opA F A (va_up (A 17) 2 (xs (i + 1)).toInt)))) H := va_P_pm pmb hP1
    replace hD : va_D _ (lwF (lwC Y hv g9 u af tx ln pl su tk nu (kS K 0 6 (xs (i + 1)).toInt) Kto Kt ((ix + 1) % 10) (min (z + 1) 10) E C M T n9 tr tr kp Ki (va_up Kk ix K) (opF F) (opA F A (va_up (A 17) 2 (xs (i + 1)).toInt)))) := va_D_pm pmb hD1
    clear pmb hP1 hD1 hP0 hD0
    refine z_cmpeq (tgt := 990) hx hb ((rWint_c hE _).symm) dL_law_504 (by decide) ?_
    exact kk tx ln pl su tk nu (kS K 0 6 (xs (i + 1)).toInt) Kto Kt ((ix + 1) % 10) (min (z + 1) 10) E C M T n9 tr kp Ki (va_up Kk ix K) (opF F) (opA F A (va_up (A 17) 2 (xs (i + 1)).toInt)) H locs (oi_winter hI hf) ⟨hP, hD, hS⟩

set_option maxHeartbeats 4000000 in
set_option maxRecDepth 100000 in
theorem lc_sun {p : Program} {l : Launch} {e : Env} {s : State} {m : MethodId} {below : List Frame} {meth : Method} {c : Code} {H : Heap} {locs : List Loc} {cells slots : Nat} {Q : State → Prop} {G : va_G} {Y : Nat → ClassId} {b L : Nat} {xs : Nat → Int32} (X : lwX p s m meth c b L xs G Y) (hce : cells ≤ 600000 ∧ slots ≤ 7302249) {hv g9 : Nat} {u : svU} {af : Nat → Nat} {i : Nat} (hi : i + 4 ≤ L) {ls : Array Slot} (hl : lv_has ls 4 [(0, .ref b), (1, .ref hv), (2, .ref g9), (3, .int (iZ ((i : Nat) : Int)))]) {tx : Nat → Int} {ln : Nat} {pl : Nat} {su : Bool} {tk : Nat} {nu : Int} {K : Kom} {Kto : Kom} {Kt : Kom} {ix : Nat} {z : Nat} {E : Nat → Int} {C : Nat → Int} {M : Nat → Int} {T : Nat → Int} {n9 : Int} {tr : Int64} {kp : Nat → Int} {Ki : Nat → Kom} {Kk : Nat → Kom} {F : Nat → Int} {A : Kom} (hI : lwI tx ln tk K Kto ix z M T n9 kp Ki Kk F A) (hH : lwH G s (lwC Y hv g9 u af tx ln pl su tk nu K Kto Kt ix z E C M T n9 tr tr kp Ki Kk F A) H locs) (kk : lwK p l e s m below meth c cells slots Q G Y b hv g9 u af ls) : W p l e room_1 s m #[Value.ref b] below meth c H locs cells slots Q (F0 m 509 ls []) := by
  obtain ⟨hx, hb, hml, hown, hts, hX, hK⟩ := X
  obtain ⟨hP, hD, hS⟩ := hH
  have hbA : ¬ (fun q : Nat => s.heap.size ≤ q) b := Nat.not_le.mpr hX.2.1
  have i1 := hI.1
  have i2 := hI.2.1
  have i3 := hI.2.2.1
  have i4 := hI.2.2.2.1
  have i5 := hI.2.2.2.2.1
  have i6 := hI.2.2.2.2.2
  have hW := i2.1
  have hE := i2.2.1
  have hV := i2.2.2.1
  have h26 := i2.2.2.2
  have hno : F 26 < 0 := by omega
  have hKb := hW.1
  have hvb := mV_b hV
  have hk2 : K 0 2 = A 17 3 := hE.k2
  have hL9 := hX.2.2
  have ra1 := iZ_range (xs (i + 1))
  cases hf : fSun (xs (i + 1)).toInt
  · skip
    refine lv_aload_n hx hb dL_law_509 rfl (lv_at hl 1 rfl) ?_
    refine lv_aload_n hx hb dL_law_510 rfl (lv_at hl 0 rfl) ?_
    refine lv_iload_n hx hb dL_law_511 rfl (lv_at hl 3 rfl) ?_
    refine z_iconst hx hb dL_law_512 ?_
    refine z_iadd hx hb dL_law_513 ?_
    refine z_sld hx hb hX hbA hS (i + 1) (by omega) dL_law_514 ?_
    have hP0 := va_P_pm (lw_pm (lwC Y hv g9 u af tx ln pl su tk nu K Kto Kt ix z E C M T n9 tr tr kp Ki Kk F A) (ps := [0, 4, ix + 15, 2]) (pm_op ix i4.1)) hP
    have hD0 := va_D_pm (lw_pm (lwC Y hv g9 u af tx ln pl su tk nu K Kto Kt ix z E C M T n9 tr tr kp Ki Kk F A) (ps := [0, 4, ix + 15, 2]) (pm_op ix i4.1)) hD
    refine mu_V (As := [.int (iZ (xs (i + 1)).toInt)]) (rest := []) (F := lwR [0, 4, ix + 15, 2] (lwC Y hv g9 u af tx ln pl su tk nu K Kto Kt ix z E C M T n9 tr tr kp Ki Kk F A)) (wc' := svO Y hv (u.1 1) (u.1 2) (u.1 3) (u.1 4) (u.1 5) (u.1 6) (u.1 7) (u.1 8) (u.1 9) ++ opW Y (u.1 4) (u.1 11) (u.2.1 2) ((ix : Nat) : Int) ((z : Nat) : Int) ix (u.2.2.1 ix) (Kk ix) (u.1 2) (u.2.1 0) K (fSun (xs (i + 1)).toInt) (kS K 0 4 (xs (i + 1)).toInt)) ⟨hx, hb, hml, hown, hts⟩ (c_X6_sun l G Y hv (u.1 1) (u.1 2) (u.1 3) (u.1 4) (u.1 5) (u.1 6) (u.1 7) (u.1 8) (u.1 9) (u.1 11) (u.2.1 2) ((ix : Nat) : Int) ((z : Nat) : Int) ix (u.2.2.1 ix) (Kk ix) (u.2.1 0) K hW ⟨⟨rfl, i4.1⟩, by omega, by omega⟩ (xs (i + 1)).toInt ra1) (cwV 1 hts gL_law_X6_sun rfl rfl rfl (by decide +kernel) ⟨Nat.le_of_ble_eq_true rfl, Nat.le_of_ble_eq_true rfl⟩) hK hP0 hD0 hS 0 rfl rfl (Eq.refl [hv, u.1 4, u.1 11, u.2.1 2 ix, u.2.2.1 ix 1, u.2.2.1 ix 2, u.2.2.1 ix 3, u.2.2.1 ix 4, u.2.2.1 ix 5, u.2.2.1 ix 6, u.2.2.1 ix 7, u.1 2, u.2.1 0 1, u.2.1 0 2, u.2.1 0 3, u.2.1 0 4, u.2.1 0 5, u.2.1 0 6, u.2.1 0 7]) rfl hl.1 rfl (Nat.le_of_ble_eq_true rfl) dL_law_515 hce (fun H locs hP1 hD1 hS => ?_)
    show W _ _ _ _ _ _ _ _ _ _ _ _ _ _ _ (F0 _ _ _ (.int (iZ (rSun K (xs (i + 1)).toInt)) :: []))
    rw [hf] at hP1 hD1
    have pmb := lw_back (ch := lwC Y hv g9 u af tx ln pl su tk nu K Kto Kt ix z E C M T n9 tr tr kp Ki Kk F A) (ch' := lwC Y hv g9 u af tx ln pl su tk nu K Kto Kt ix z E C M T n9 tr tr kp Ki Kk F A) (ps := [0, 4, ix + 15, 2]) (pm_op ix i4.1) (rfl) (w := svO Y hv (u.1 1) (u.1 2) (u.1 3) (u.1 4) (u.1 5) (u.1 6) (u.1 7) (u.1 8) (u.1 9) ++ (paW Y (u.1 4) (u.1 11) (u.2.1 2) ((ix : Nat) : Int) ((z : Nat) : Int) ++ (cmW Y (u.2.1 2 ix) (u.2.2.1 ix) (Kk ix) ++ cmW Y (u.1 2) (u.2.1 0) K))) (rfl)
    replace hP : va_P G vwCl (lwF (lwC Y hv g9 u af tx ln pl su tk nu K Kto Kt ix z E C M T n9 tr tr kp Ki Kk F A)) H := va_P_pm pmb hP1
    replace hD : va_D _ (lwF (lwC Y hv g9 u af tx ln pl su tk nu K Kto Kt ix z E C M T n9 tr tr kp Ki Kk F A)) := va_D_pm pmb hD1
    clear pmb hP1 hD1 hP0 hD0
    refine lv_aload_n hx hb dL_law_518 rfl (lv_at hl 2 rfl) ?_
    refine lv_aload_n hx hb dL_law_519 rfl (lv_at hl 0 rfl) ?_
    refine lv_iload_n hx hb dL_law_520 rfl (lv_at hl 3 rfl) ?_
    refine z_iconst hx hb dL_law_521 ?_
    refine z_iadd hx hb dL_law_522 ?_
    refine z_sld hx hb hX hbA hS (i + 1) (by omega) dL_law_523 ?_
    have hP0 := va_P_pm (lw_pm (lwC Y hv g9 u af tx ln pl su tk nu K Kto Kt ix z E C M T n9 tr tr kp Ki Kk F A) (ps := [12]) (by decide)) hP
    have hD0 := va_D_pm (lw_pm (lwC Y hv g9 u af tx ln pl su tk nu K Kto Kt ix z E C M T n9 tr tr kp Ki Kk F A) (ps := [12]) (by decide)) hD
    refine mu_V (As := [.int (iZ (xs (i + 1)).toInt)]) (rest := [.int (iZ (rSun K (xs (i + 1)).toInt))]) (F := lwR [12] (lwC Y hv g9 u af tx ln pl su tk nu K Kto Kt ix z E C M T n9 tr tr kp Ki Kk F A)) (wc' := moW Y g9 af (bif fSun (xs (i + 1)).toInt then opF F else F) (bif fSun (xs (i + 1)).toInt then opA F A (va_up (A 17) 1 (xs (i + 1)).toInt) else A) tr) ⟨hx, hb, hml, hown, hts⟩ (c_X7_sun l G Y g9 af F A tr hV hno (by omega) (xs (i + 1)).toInt ra1) (cwV 1 hts gL_law_X7_sun rfl rfl rfl (by decide +kernel) ⟨Nat.le_of_ble_eq_true rfl, Nat.le_of_ble_eq_true rfl⟩) hK hP0 hD0 hS 0 rfl rfl (Eq.refl [g9, af 1, af 11, af 12, af 16, af 17, af 18, af 19, af 20, af 21, af 24]) rfl hl.1 rfl (Nat.le_of_ble_eq_true rfl) dL_law_524 hce (fun H locs hP1 hD1 hS => ?_)
    show W _ _ _ _ _ _ _ _ _ _ _ _ _ _ _ (F0 _ _ _ (.int (iZ (rSun (kF F A (A 17)) (xs (i + 1)).toInt)) :: [.int (iZ (rSun K (xs (i + 1)).toInt))]))
    have hf7 : fSun (xs (i + 1)).toInt = false := hf
    rw [hf7, cond_false, cond_false] at hP1 hD1
    have pmb := lw_back (ch := lwC Y hv g9 u af tx ln pl su tk nu K Kto Kt ix z E C M T n9 tr tr kp Ki Kk F A) (ch' := lwC Y hv g9 u af tx ln pl su tk nu K Kto Kt ix z E C M T n9 tr tr kp Ki Kk F A) (ps := [12]) (by decide) (rfl) (w := moW Y g9 af F A tr) (rfl)
    replace hP : va_P G vwCl (lwF (lwC Y hv g9 u af tx ln pl su tk nu K Kto Kt ix z E C M T n9 tr tr kp Ki Kk F A)) H := va_P_pm pmb hP1
    replace hD : va_D _ (lwF (lwC Y hv g9 u af tx ln pl su tk nu K Kto Kt ix z E C M T n9 tr tr kp Ki Kk F A)) := va_D_pm pmb hD1
    clear pmb hP1 hD1 hP0 hD0
    refine z_cmpeq (tgt := 990) hx hb ((rSun_c hE _).symm) dL_law_527 (by decide) ?_
    exact kk tx ln pl su tk nu K Kto Kt ix z E C M T n9 tr kp Ki Kk F A H locs (hI) ⟨hP, hD, hS⟩
  · skip
    refine lv_aload_n hx hb dL_law_509 rfl (lv_at hl 1 rfl) ?_
    refine lv_aload_n hx hb dL_law_510 rfl (lv_at hl 0 rfl) ?_
    refine lv_iload_n hx hb dL_law_511 rfl (lv_at hl 3 rfl) ?_
    refine z_iconst hx hb dL_law_512 ?_
    refine z_iadd hx hb dL_law_513 ?_
    refine z_sld hx hb hX hbA hS (i + 1) (by omega) dL_law_514 ?_
    have hP0 := va_P_pm (lw_pm (lwC Y hv g9 u af tx ln pl su tk nu K Kto Kt ix z E C M T n9 tr tr kp Ki Kk F A) (ps := [0, 4, ix + 15, 2]) (pm_op ix i4.1)) hP
    have hD0 := va_D_pm (lw_pm (lwC Y hv g9 u af tx ln pl su tk nu K Kto Kt ix z E C M T n9 tr tr kp Ki Kk F A) (ps := [0, 4, ix + 15, 2]) (pm_op ix i4.1)) hD
    refine mu_V (As := [.int (iZ (xs (i + 1)).toInt)]) (rest := []) (F := lwR [0, 4, ix + 15, 2] (lwC Y hv g9 u af tx ln pl su tk nu K Kto Kt ix z E C M T n9 tr tr kp Ki Kk F A)) (wc' := svO Y hv (u.1 1) (u.1 2) (u.1 3) (u.1 4) (u.1 5) (u.1 6) (u.1 7) (u.1 8) (u.1 9) ++ opW Y (u.1 4) (u.1 11) (u.2.1 2) ((ix : Nat) : Int) ((z : Nat) : Int) ix (u.2.2.1 ix) (Kk ix) (u.1 2) (u.2.1 0) K (fSun (xs (i + 1)).toInt) (kS K 0 4 (xs (i + 1)).toInt)) ⟨hx, hb, hml, hown, hts⟩ (c_X6_sun l G Y hv (u.1 1) (u.1 2) (u.1 3) (u.1 4) (u.1 5) (u.1 6) (u.1 7) (u.1 8) (u.1 9) (u.1 11) (u.2.1 2) ((ix : Nat) : Int) ((z : Nat) : Int) ix (u.2.2.1 ix) (Kk ix) (u.2.1 0) K hW ⟨⟨rfl, i4.1⟩, by omega, by omega⟩ (xs (i + 1)).toInt ra1) (cwV 1 hts gL_law_X6_sun rfl rfl rfl (by decide +kernel) ⟨Nat.le_of_ble_eq_true rfl, Nat.le_of_ble_eq_true rfl⟩) hK hP0 hD0 hS 0 rfl rfl (Eq.refl [hv, u.1 4, u.1 11, u.2.1 2 ix, u.2.2.1 ix 1, u.2.2.1 ix 2, u.2.2.1 ix 3, u.2.2.1 ix 4, u.2.2.1 ix 5, u.2.2.1 ix 6, u.2.2.1 ix 7, u.1 2, u.2.1 0 1, u.2.1 0 2, u.2.1 0 3, u.2.1 0 4, u.2.1 0 5, u.2.1 0 6, u.2.1 0 7]) rfl hl.1 rfl (Nat.le_of_ble_eq_true rfl) dL_law_515 hce (fun H locs hP1 hD1 hS => ?_)
    show W _ _ _ _ _ _ _ _ _ _ _ _ _ _ _ (F0 _ _ _ (.int (iZ (rSun K (xs (i + 1)).toInt)) :: []))
    rw [hf, op_t] at hP1 hD1
    have pmb := lw_back (ch := lwC Y hv g9 u af tx ln pl su tk nu K Kto Kt ix z E C M T n9 tr tr kp Ki Kk F A) (ch' := lwC Y hv g9 u af tx ln pl su tk nu (kS K 0 4 (xs (i + 1)).toInt) Kto Kt ((ix + 1) % 10) (min (z + 1) 10) E C M T n9 tr tr kp Ki (va_up Kk ix K) F A) (ps := [0, 4, ix + 15, 2]) (pm_op ix i4.1) (rs_op Y hv g9 u af tx ln pl su tk nu K Kto Kt ix z E C M T n9 tr tr kp Ki Kk F A (kS K 0 4 (xs (i + 1)).toInt) K ((ix + 1) % 10) (min (z + 1) 10) i4.1) (w := svO Y hv (u.1 1) (u.1 2) (u.1 3) (u.1 4) (u.1 5) (u.1 6) (u.1 7) (u.1 8) (u.1 9) ++ (paW Y (u.1 4) (u.1 11) (u.2.1 2) (((ix + 1) % 10 : Nat) : Int) ((min (z + 1) 10 : Nat) : Int) ++ (cmW Y (u.2.1 2 ix) (u.2.2.1 ix) K ++ cmW Y (u.1 2) (u.2.1 0) (kS K 0 4 (xs (i + 1)).toInt)))) (by show _ = svO Y hv (u.1 1) (u.1 2) (u.1 3) (u.1 4) (u.1 5) (u.1 6) (u.1 7) (u.1 8) (u.1 9) ++ (paW Y (u.1 4) (u.1 11) (u.2.1 2) (((ix + 1) % 10 : Nat) : Int) ((min (z + 1) 10 : Nat) : Int) ++ (cmW Y (u.2.1 2 ix) (u.2.2.1 ix) (va_up Kk ix K ix) ++ cmW Y (u.1 2) (u.2.1 0) (kS K 0 4 (xs (i + 1)).toInt))); rw [up_eq])
    replace hP : va_P G vwCl (lwF (lwC Y hv g9 u af tx ln pl su tk nu (kS K 0 4 (xs (i + 1)).toInt) Kto Kt ((ix + 1) % 10) (min (z + 1) 10) E C M T n9 tr tr kp Ki (va_up Kk ix K) F A)) H := va_P_pm pmb hP1
    replace hD : va_D _ (lwF (lwC Y hv g9 u af tx ln pl su tk nu (kS K 0 4 (xs (i + 1)).toInt) Kto Kt ((ix + 1) % 10) (min (z + 1) 10) E C M T n9 tr tr kp Ki (va_up Kk ix K) F A)) := va_D_pm pmb hD1
    clear pmb hP1 hD1 hP0 hD0
    refine lv_aload_n hx hb dL_law_518 rfl (lv_at hl 2 rfl) ?_
    refine lv_aload_n hx hb dL_law_519 rfl (lv_at hl 0 rfl) ?_
    refine lv_iload_n hx hb dL_law_520 rfl (lv_at hl 3 rfl) ?_
    refine z_iconst hx hb dL_law_521 ?_
    refine z_iadd hx hb dL_law_522 ?_
    refine z_sld hx hb hX hbA hS (i + 1) (by omega) dL_law_523 ?_
    have hP0 := va_P_pm (lw_pm (lwC Y hv g9 u af tx ln pl su tk nu (kS K 0 4 (xs (i + 1)).toInt) Kto Kt ((ix + 1) % 10) (min (z + 1) 10) E C M T n9 tr tr kp Ki (va_up Kk ix K) F A) (ps := [12]) (by decide)) hP
    have hD0 := va_D_pm (lw_pm (lwC Y hv g9 u af tx ln pl su tk nu (kS K 0 4 (xs (i + 1)).toInt) Kto Kt ((ix + 1) % 10) (min (z + 1) 10) E C M T n9 tr tr kp Ki (va_up Kk ix K) F A) (ps := [12]) (by decide)) hD
    refine mu_V (As := [.int (iZ (xs (i + 1)).toInt)]) (rest := [.int (iZ (rSun K (xs (i + 1)).toInt))]) (F := lwR [12] (lwC Y hv g9 u af tx ln pl su tk nu (kS K 0 4 (xs (i + 1)).toInt) Kto Kt ((ix + 1) % 10) (min (z + 1) 10) E C M T n9 tr tr kp Ki (va_up Kk ix K) F A)) (wc' := moW Y g9 af (bif fSun (xs (i + 1)).toInt then opF F else F) (bif fSun (xs (i + 1)).toInt then opA F A (va_up (A 17) 1 (xs (i + 1)).toInt) else A) tr) ⟨hx, hb, hml, hown, hts⟩ (c_X7_sun l G Y g9 af F A tr hV hno (by omega) (xs (i + 1)).toInt ra1) (cwV 1 hts gL_law_X7_sun rfl rfl rfl (by decide +kernel) ⟨Nat.le_of_ble_eq_true rfl, Nat.le_of_ble_eq_true rfl⟩) hK hP0 hD0 hS 0 rfl rfl (Eq.refl [g9, af 1, af 11, af 12, af 16, af 17, af 18, af 19, af 20, af 21, af 24]) rfl hl.1 rfl (Nat.le_of_ble_eq_true rfl) dL_law_524 hce (fun H locs hP1 hD1 hS => ?_)
    show W _ _ _ _ _ _ _ _ _ _ _ _ _ _ _ (F0 _ _ _ (.int (iZ (rSun (kF F A (A 17)) (xs (i + 1)).toInt)) :: [.int (iZ (rSun K (xs (i + 1)).toInt))]))
    have hf7 : fSun (xs (i + 1)).toInt = true := hf
    rw [hf7, cond_true, cond_true] at hP1 hD1
    have pmb := lw_back (ch := lwC Y hv g9 u af tx ln pl su tk nu (kS K 0 4 (xs (i + 1)).toInt) Kto Kt ((ix + 1) % 10) (min (z + 1) 10) E C M T n9 tr tr kp Ki (va_up Kk ix K) F A) (ch' := lwC Y hv g9 u af tx ln pl su tk nu (kS K 0 4 (xs (i + 1)).toInt) Kto Kt ((ix + 1) % 10) (min (z + 1) 10) E C M T n9 tr tr kp Ki (va_up Kk ix K) (opF F) (opA F A (va_up (A 17) 1 (xs (i + 1)).toInt))) (ps := [12]) (by decide) (rfl) (w := moW Y g9 af (opF F) (opA F A (va_up (A 17) 1 (xs (i + 1)).toInt)) tr) (rfl)
    replace hP : va_P G vwCl (lwF (lwC Y hv g9 u af tx ln pl su tk nu (kS K 0 4 (xs (i + 1)).toInt) Kto Kt ((ix + 1) % 10) (min (z + 1) 10) E C M T n9 tr tr kp Ki (va_up Kk ix K) (opF F) (opA F A (va_up (A 17) 1 (xs (i + 1)).toInt)))) H := va_P_pm pmb hP1
    replace hD : va_D _ (lwF (lwC Y hv g9 u af tx ln pl su tk nu (kS K 0 4 (xs (i + 1)).toInt) Kto Kt ((ix + 1) % 10) (min (z + 1) 10) E C M T n9 tr tr kp Ki (va_up Kk ix K) (opF F) (opA F A (va_up (A 17) 1 (xs (i + 1)).toInt)))) := va_D_pm pmb hD1
    clear pmb hP1 hD1 hP0 hD0
    refine z_cmpeq (tgt := 990) hx hb ((rSun_c hE _).symm) dL_law_527 (by decide) ?_
    exact kk tx ln pl su tk nu (kS K 0 4 (xs (i + 1)).toInt) Kto Kt ((ix + 1) % 10) (min (z + 1) 10) E C M T n9 tr kp Ki (va_up Kk ix K) (opF F) (opA F A (va_up (A 17) 1 (xs (i + 1)).toInt)) H locs (oi_sun hI hf) ⟨hP, hD, hS⟩
