set_option maxHeartbeats 4000000 in
set_option maxRecDepth 100000 in
theorem lc_type {p : Program} {l : Launch} {e : Env} {s : State} {m : MethodId} {below : List Frame} {meth : Method} {c : Code} {H : Heap} {locs : List Loc} {cells slots : Nat} {Q : State → Prop} {G : va_G} {Y : Nat → ClassId} {b L : Nat} {xs : Nat → Int32} (X : lwX p s m meth c b L xs G Y) (hce : cells ≤ 600000 ∧ slots ≤ 7302249) {hv g9 : Nat} {u : svU} {af : Nat → Nat} {i : Nat} (hi : i + 4 ≤ L) {ls : Array Slot} (hl : lv_has ls 4 [(0, .ref b), (1, .ref hv), (2, .ref g9), (3, .int (iZ ((i : Nat) : Int)))]) {tx : Nat → Int} {ln : Nat} {pl : Nat} {su : Bool} {tk : Nat} {nu : Int} {K : Kom} {Kto : Kom} {Kt : Kom} {ix : Nat} {z : Nat} {E : Nat → Int} {C : Nat → Int} {M : Nat → Int} {T : Nat → Int} {n9 : Int} {tr : Int64} {kp : Nat → Int} {Ki : Nat → Kom} {Kk : Nat → Kom} {F : Nat → Int} {A : Kom} (hI : lwI tx ln tk K Kto ix z M T n9 kp Ki Kk F A) (hH : lwH G s (lwC Y hv g9 u af tx ln pl su tk nu K Kto Kt ix z E C M T n9 tr tr kp Ki Kk F A) H locs) (kk : lwK p l e s m below meth c cells slots Q G Y b hv g9 u af ls) : W p l e room_1 s m #[Value.ref b] below meth c H locs cells slots Q (F0 m 180 ls []) := by
  obtain ⟨hx, hb, hml, hown, hts, hX, hK⟩ := X
  obtain ⟨hP, hD, hS⟩ := hH
  have hbA : ¬ (fun q : Nat => s.heap.size ≤ q) b := Nat.not_le.mpr hX.2.1
  have i1 := hI.1
  have i2 := hI.2.1
  have i3 := hI.2.2.1
  have i4 := hI.2.2.2.1
  have i5 := hI.2.2.2.2.1
  have i6 := hI.2.2.2.2.2
  have hW := i2.1
  have hE := i2.2.1
  have hV := i2.2.2.1
  have h26 := i2.2.2.2
  have hno : F 26 < 0 := by omega
  have hKb := hW.1
  have hvb := mV_b hV
  have hk2 : K 0 2 = A 17 3 := hE.k2
  have hL9 := hX.2.2
  have ra1 := iZ_range (xs (i + 1))
  have e0 : (F 0).toNat = ln := by rw [i1.2.2.2.2]; omega
  by_cases hc : (0 ≤ (xs (i + 1)).toInt ∧ (xs (i + 1)).toInt ≤ 255) ∧ ln < 200
  · skip
    refine lv_aload_n hx hb dL_law_180 rfl (lv_at hl 1 rfl) ?_
    refine lv_aload_n hx hb dL_law_181 rfl (lv_at hl 0 rfl) ?_
    refine lv_iload_n hx hb dL_law_182 rfl (lv_at hl 3 rfl) ?_
    refine z_iconst hx hb dL_law_183 ?_
    refine z_iadd hx hb dL_law_184 ?_
    refine z_sld hx hb hX hbA hS (i + 1) (by omega) dL_law_185 ?_
    have hP0 := va_P_pm (lw_pm (lwC Y hv g9 u af tx ln pl su tk nu K Kto Kt ix z E C M T n9 tr tr kp Ki Kk F A) (ps := [0, 1]) (by decide)) hP
    have hD0 := va_D_pm (lw_pm (lwC Y hv g9 u af tx ln pl su tk nu K Kto Kt ix z E C M T n9 tr tr kp Ki Kk F A) (ps := [0, 1]) (by decide)) hD
    refine mu_V (As := [.int (iZ (xs (i + 1)).toInt)]) (rest := []) (F := lwR [0, 1] (lwC Y hv g9 u af tx ln pl su tk nu K Kto Kt ix z E C M T n9 tr tr kp Ki Kk F A)) (wc' := svO Y hv (u.1 1) (u.1 2) (u.1 3) (u.1 4) (u.1 5) (u.1 6) (u.1 7) (u.1 8) (u.1 9) ++ txW Y (u.1 1) (u.1 10) (bif decide (0 ≤ (xs (i + 1)).toInt ∧ (xs (i + 1)).toInt ≤ 255) then txP tx ln (xs (i + 1)).toInt else tx) (bif decide (0 ≤ (xs (i + 1)).toInt ∧ (xs (i + 1)).toInt ≤ 255) then lnP ln else ln) pl su tk nu) ⟨hx, hb, hml, hown, hts⟩ (c_X6_type l G Y hv (u.1 1) (u.1 2) (u.1 3) (u.1 4) (u.1 5) (u.1 6) (u.1 7) (u.1 8) (u.1 9) (u.1 10) tx i1.1 ln pl su tk nu (xs (i + 1)).toInt ⟨ra1, i1.2.1⟩) (cwV 1 hts gL_law_X6_type rfl rfl rfl (by decide +kernel) ⟨Nat.le_of_ble_eq_true rfl, Nat.le_of_ble_eq_true rfl⟩) hK hP0 hD0 hS 0 rfl rfl (Eq.refl [hv, u.1 1, u.1 10]) rfl hl.1 rfl (Nat.le_of_ble_eq_true rfl) dL_law_186 hce (fun H locs hP1 hD1 hS => ?_)
    show W _ _ _ _ _ _ _ _ _ _ _ _ _ _ _ (F0 _ _ _ (.int (iZ (rType ln (xs (i + 1)).toInt)) :: []))
    rw [decide_eq_true hc.1, cond_true, cond_true, txP_t hc.2, lnP_t hc.2] at hP1 hD1
    have pmb := lw_back (ch := lwC Y hv g9 u af tx ln pl su tk nu K Kto Kt ix z E C M T n9 tr tr kp Ki Kk F A) (ch' := lwC Y hv g9 u af (va_up tx ln (xs (i + 1)).toInt) (ln + 1) pl su tk nu K Kto Kt ix z E C M T n9 tr tr kp Ki Kk F A) (ps := [0, 1]) (by decide) (rfl) (w := svO Y hv (u.1 1) (u.1 2) (u.1 3) (u.1 4) (u.1 5) (u.1 6) (u.1 7) (u.1 8) (u.1 9) ++ txW Y (u.1 1) (u.1 10) (va_up tx ln (xs (i + 1)).toInt) (ln + 1) pl su tk nu) (rfl)
    replace hP : va_P G vwCl (lwF (lwC Y hv g9 u af (va_up tx ln (xs (i + 1)).toInt) (ln + 1) pl su tk nu K Kto Kt ix z E C M T n9 tr tr kp Ki Kk F A)) H := va_P_pm pmb hP1
    replace hD : va_D _ (lwF (lwC Y hv g9 u af (va_up tx ln (xs (i + 1)).toInt) (ln + 1) pl su tk nu K Kto Kt ix z E C M T n9 tr tr kp Ki Kk F A)) := va_D_pm pmb hD1
    clear pmb hP1 hD1 hP0 hD0
    refine lv_aload_n hx hb dL_law_189 rfl (lv_at hl 2 rfl) ?_
    refine lv_aload_n hx hb dL_law_190 rfl (lv_at hl 0 rfl) ?_
    refine lv_iload_n hx hb dL_law_191 rfl (lv_at hl 3 rfl) ?_
    refine z_iconst hx hb dL_law_192 ?_
    refine z_iadd hx hb dL_law_193 ?_
    refine z_sld hx hb hX hbA hS (i + 1) (by omega) dL_law_194 ?_
    have hP0 := va_P_pm (lw_pm (lwC Y hv g9 u af (va_up tx ln (xs (i + 1)).toInt) (ln + 1) pl su tk nu K Kto Kt ix z E C M T n9 tr tr kp Ki Kk F A) (ps := [12]) (by decide)) hP
    have hD0 := va_D_pm (lw_pm (lwC Y hv g9 u af (va_up tx ln (xs (i + 1)).toInt) (ln + 1) pl su tk nu K Kto Kt ix z E C M T n9 tr tr kp Ki Kk F A) (ps := [12]) (by decide)) hD
    refine mu_V (As := [.int (iZ (xs (i + 1)).toInt)]) (rest := [.int (iZ (rType ln (xs (i + 1)).toInt))]) (F := lwR [12] (lwC Y hv g9 u af (va_up tx ln (xs (i + 1)).toInt) (ln + 1) pl su tk nu K Kto Kt ix z E C M T n9 tr tr kp Ki Kk F A)) (wc' := moW Y g9 af (bif decide ((0 ≤ (xs (i + 1)).toInt ∧ (xs (i + 1)).toInt ≤ 255) ∧ F 0 ≠ 200) then va_up F 0 (F 0 + 1) else F) (bif decide ((0 ≤ (xs (i + 1)).toInt ∧ (xs (i + 1)).toInt ≤ 255) ∧ F 0 ≠ 200) then va_up A 1 (va_up (A 1) (F 0).toNat (xs (i + 1)).toInt) else A) tr) ⟨hx, hb, hml, hown, hts⟩ (c_X7_type l G Y g9 af F A tr (xs (i + 1)).toInt (by omega)) (cwV 1 hts gL_law_X7_type rfl rfl rfl (by decide +kernel) ⟨Nat.le_of_ble_eq_true rfl, Nat.le_of_ble_eq_true rfl⟩) hK hP0 hD0 hS 0 rfl rfl (Eq.refl [g9, af 1, af 11, af 12, af 16, af 17, af 18, af 19, af 20, af 21, af 24]) rfl hl.1 rfl (Nat.le_of_ble_eq_true rfl) dL_law_195 hce (fun H locs hP1 hD1 hS => ?_)
    show W _ _ _ _ _ _ _ _ _ _ _ _ _ _ _ (F0 _ _ _ (.int (iZ (rType (F 0).toNat (xs (i + 1)).toInt)) :: [.int (iZ (rType ln (xs (i + 1)).toInt))]))
    rw [decide_eq_true (show (0 ≤ (xs (i + 1)).toInt ∧ (xs (i + 1)).toInt ≤ 255) ∧ F 0 ≠ 200 by omega), cond_true, cond_true] at hP1 hD1
    have pmb := lw_back (ch := lwC Y hv g9 u af (va_up tx ln (xs (i + 1)).toInt) (ln + 1) pl su tk nu K Kto Kt ix z E C M T n9 tr tr kp Ki Kk F A) (ch' := lwC Y hv g9 u af (va_up tx ln (xs (i + 1)).toInt) (ln + 1) pl su tk nu K Kto Kt ix z E C M T n9 tr tr kp Ki Kk (va_up F 0 (F 0 + 1)) (va_up A 1 (va_up (A 1) (F 0).toNat (xs (i + 1)).toInt))) (ps := [12]) (by decide) (rfl) (w := moW Y g9 af (va_up F 0 (F 0 + 1)) (va_up A 1 (va_up (A 1) (F 0).toNat (xs (i + 1)).toInt)) tr) (rfl)
    replace hP : va_P G vwCl (lwF (lwC Y hv g9 u af (va_up tx ln (xs (i + 1)).toInt) (ln + 1) pl su tk nu K Kto Kt ix z E C M T n9 tr tr kp Ki Kk (va_up F 0 (F 0 + 1)) (va_up A 1 (va_up (A 1) (F 0).toNat (xs (i + 1)).toInt)))) H := va_P_pm pmb hP1
    replace hD : va_D _ (lwF (lwC Y hv g9 u af (va_up tx ln (xs (i + 1)).toInt) (ln + 1) pl su tk nu K Kto Kt ix z E C M T n9 tr tr kp Ki Kk (va_up F 0 (F 0 + 1)) (va_up A 1 (va_up (A 1) (F 0).toNat (xs (i + 1)).toInt)))) := va_D_pm pmb hD1
    clear pmb hP1 hD1 hP0 hD0
    refine z_cmpeq (tgt := 990) hx hb (by rw [e0]) dL_law_198 (by decide) ?_
    exact kk (va_up tx ln (xs (i + 1)).toInt) (ln + 1) pl su tk nu K Kto Kt ix z E C M T n9 tr kp Ki Kk (va_up F 0 (F 0 + 1)) (va_up A 1 (va_up (A 1) (F 0).toNat (xs (i + 1)).toInt)) H locs (lwI_type hI hc.1 hc.2) ⟨hP, hD, hS⟩
  · skip
    refine lv_aload_n hx hb dL_law_180 rfl (lv_at hl 1 rfl) ?_
    refine lv_aload_n hx hb dL_law_181 rfl (lv_at hl 0 rfl) ?_
    refine lv_iload_n hx hb dL_law_182 rfl (lv_at hl 3 rfl) ?_
    refine z_iconst hx hb dL_law_183 ?_
    refine z_iadd hx hb dL_law_184 ?_
    refine z_sld hx hb hX hbA hS (i + 1) (by omega) dL_law_185 ?_
    have hP0 := va_P_pm (lw_pm (lwC Y hv g9 u af tx ln pl su tk nu K Kto Kt ix z E C M T n9 tr tr kp Ki Kk F A) (ps := [0, 1]) (by decide)) hP
    have hD0 := va_D_pm (lw_pm (lwC Y hv g9 u af tx ln pl su tk nu K Kto Kt ix z E C M T n9 tr tr kp Ki Kk F A) (ps := [0, 1]) (by decide)) hD
    refine mu_V (As := [.int (iZ (xs (i + 1)).toInt)]) (rest := []) (F := lwR [0, 1] (lwC Y hv g9 u af tx ln pl su tk nu K Kto Kt ix z E C M T n9 tr tr kp Ki Kk F A)) (wc' := svO Y hv (u.1 1) (u.1 2) (u.1 3) (u.1 4) (u.1 5) (u.1 6) (u.1 7) (u.1 8) (u.1 9) ++ txW Y (u.1 1) (u.1 10) (bif decide (0 ≤ (xs (i + 1)).toInt ∧ (xs (i + 1)).toInt ≤ 255) then txP tx ln (xs (i + 1)).toInt else tx) (bif decide (0 ≤ (xs (i + 1)).toInt ∧ (xs (i + 1)).toInt ≤ 255) then lnP ln else ln) pl su tk nu) ⟨hx, hb, hml, hown, hts⟩ (c_X6_type l G Y hv (u.1 1) (u.1 2) (u.1 3) (u.1 4) (u.1 5) (u.1 6) (u.1 7) (u.1 8) (u.1 9) (u.1 10) tx i1.1 ln pl su tk nu (xs (i + 1)).toInt ⟨ra1, i1.2.1⟩) (cwV 1 hts gL_law_X6_type rfl rfl rfl (by decide +kernel) ⟨Nat.le_of_ble_eq_true rfl, Nat.le_of_ble_eq_true rfl⟩) hK hP0 hD0 hS 0 rfl rfl (Eq.refl [hv, u.1 1, u.1 10]) rfl hl.1 rfl (Nat.le_of_ble_eq_true rfl) dL_law_186 hce (fun H locs hP1 hD1 hS => ?_)
    show W _ _ _ _ _ _ _ _ _ _ _ _ _ _ _ (F0 _ _ _ (.int (iZ (rType ln (xs (i + 1)).toInt)) :: []))
    have e1 : (bif decide (0 ≤ (xs (i + 1)).toInt ∧ (xs (i + 1)).toInt ≤ 255) then txP tx ln (xs (i + 1)).toInt else tx) = tx := by by_cases q : 0 ≤ (xs (i + 1)).toInt ∧ (xs (i + 1)).toInt ≤ 255; (rw [decide_eq_true q, cond_true, txP_f (by omega)]); (rw [decide_eq_false q, cond_false])
    have e2 : (bif decide (0 ≤ (xs (i + 1)).toInt ∧ (xs (i + 1)).toInt ≤ 255) then lnP ln else ln) = ln := by by_cases q : 0 ≤ (xs (i + 1)).toInt ∧ (xs (i + 1)).toInt ≤ 255; (rw [decide_eq_true q, cond_true, lnP_f (by omega)]); (rw [decide_eq_false q, cond_false])
    rw [e1, e2] at hP1 hD1
    have pmb := lw_back (ch := lwC Y hv g9 u af tx ln pl su tk nu K Kto Kt ix z E C M T n9 tr tr kp Ki Kk F A) (ch' := lwC Y hv g9 u af tx ln pl su tk nu K Kto Kt ix z E C M T n9 tr tr kp Ki Kk F A) (ps := [0, 1]) (by decide) (rfl) (w := svO Y hv (u.1 1) (u.1 2) (u.1 3) (u.1 4) (u.1 5) (u.1 6) (u.1 7) (u.1 8) (u.1 9) ++ txW Y (u.1 1) (u.1 10) tx ln pl su tk nu) (rfl)
    replace hP : va_P G vwCl (lwF (lwC Y hv g9 u af tx ln pl su tk nu K Kto Kt ix z E C M T n9 tr tr kp Ki Kk F A)) H := va_P_pm pmb hP1
    replace hD : va_D _ (lwF (lwC Y hv g9 u af tx ln pl su tk nu K Kto Kt ix z E C M T n9 tr tr kp Ki Kk F A)) := va_D_pm pmb hD1
    clear pmb hP1 hD1 hP0 hD0
    refine lv_aload_n hx hb dL_law_189 rfl (lv_at hl 2 rfl) ?_
    refine lv_aload_n hx hb dL_law_190 rfl (lv_at hl 0 rfl) ?_
    refine lv_iload_n hx hb dL_law_191 rfl (lv_at hl 3 rfl) ?_
    refine z_iconst hx hb dL_law_192 ?_
    refine z_iadd hx hb dL_law_193 ?_
    refine z_sld hx hb hX hbA hS (i + 1) (by omega) dL_law_194 ?_
    have hP0 := va_P_pm (lw_pm (lwC Y hv g9 u af tx ln pl su tk nu K Kto Kt ix z E C M T n9 tr tr kp Ki Kk F A) (ps := [12]) (by decide)) hP
    have hD0 := va_D_pm (lw_pm (lwC Y hv g9 u af tx ln pl su tk nu K Kto Kt ix z E C M T n9 tr tr kp Ki Kk F A) (ps := [12]) (by decide)) hD
    refine mu_V (As := [.int (iZ (xs (i + 1)).toInt)]) (rest := [.int (iZ (rType ln (xs (i + 1)).toInt))]) (F := lwR [12] (lwC Y hv g9 u af tx ln pl su tk nu K Kto Kt ix z E C M T n9 tr tr kp Ki Kk F A)) (wc' := moW Y g9 af (bif decide ((0 ≤ (xs (i + 1)).toInt ∧ (xs (i + 1)).toInt ≤ 255) ∧ F 0 ≠ 200) then va_up F 0 (F 0 + 1) else F) (bif decide ((0 ≤ (xs (i + 1)).toInt ∧ (xs (i + 1)).toInt ≤ 255) ∧ F 0 ≠ 200) then va_up A 1 (va_up (A 1) (F 0).toNat (xs (i + 1)).toInt) else A) tr) ⟨hx, hb, hml, hown, hts⟩ (c_X7_type l G Y g9 af F A tr (xs (i + 1)).toInt (by omega)) (cwV 1 hts gL_law_X7_type rfl rfl rfl (by decide +kernel) ⟨Nat.le_of_ble_eq_true rfl, Nat.le_of_ble_eq_true rfl⟩) hK hP0 hD0 hS 0 rfl rfl (Eq.refl [g9, af 1, af 11, af 12, af 16, af 17, af 18, af 19, af 20, af 21, af 24]) rfl hl.1 rfl (Nat.le_of_ble_eq_true rfl) dL_law_195 hce (fun H locs hP1 hD1 hS => ?_)
    show W _ _ _ _ _ _ _ _ _ _ _ _ _ _ _ (F0 _ _ _ (.int (iZ (rType (F 0).toNat (xs (i + 1)).toInt)) :: [.int (iZ (rType ln (xs (i + 1)).toInt))]))
    rw [decide_eq_false (show ¬ ((0 ≤ (xs (i + 1)).toInt ∧ (xs (i + 1)).toInt ≤ 255) ∧ F 0 ≠ 200) by omega), cond_false, cond_false] at hP1 hD1
    have pmb := lw_back (ch := lwC Y hv g9 u af tx ln pl su tk nu K Kto Kt ix z E C M T n9 tr tr kp Ki Kk F A) (ch' := lwC Y hv g9 u af tx ln pl su tk nu K Kto Kt ix z E C M T n9 tr tr kp Ki Kk F A) (ps := [12]) (by decide) (rfl) (w := moW Y g9 af F A tr) (rfl)
    replace hP : va_P G vwCl (lwF (lwC Y hv g9 u af tx ln pl su tk nu K Kto Kt ix z E C M T n9 tr tr kp Ki Kk F A)) H := va_P_pm pmb hP1
    replace hD : va_D _ (lwF (lwC Y hv g9 u af tx ln pl su tk nu K Kto Kt ix z E C M T n9 tr tr kp Ki Kk F A)) := va_D_pm pmb hD1
    clear pmb hP1 hD1 hP0 hD0
    refine z_cmpeq (tgt := 990) hx hb (by rw [e0]) dL_law_198 (by decide) ?_
    exact kk tx ln pl su tk nu K Kto Kt ix z E C M T n9 tr kp Ki Kk F A H locs (hI) ⟨hP, hD, hS⟩

set_option maxHeartbeats 4000000 in
set_option maxRecDepth 100000 in
theorem lc_clear {p : Program} {l : Launch} {e : Env} {s : State} {m : MethodId} {below : List Frame} {meth : Method} {c : Code} {H : Heap} {locs : List Loc} {cells slots : Nat} {Q : State → Prop} {G : va_G} {Y : Nat → ClassId} {b L : Nat} {xs : Nat → Int32} (X : lwX p s m meth c b L xs G Y) (hce : cells ≤ 600000 ∧ slots ≤ 7302249) {hv g9 : Nat} {u : svU} {af : Nat → Nat} {i : Nat} (hi : i + 4 ≤ L) {ls : Array Slot} (hl : lv_has ls 4 [(0, .ref b), (1, .ref hv), (2, .ref g9), (3, .int (iZ ((i : Nat) : Int)))]) {tx : Nat → Int} {ln : Nat} {pl : Nat} {su : Bool} {tk : Nat} {nu : Int} {K : Kom} {Kto : Kom} {Kt : Kom} {ix : Nat} {z : Nat} {E : Nat → Int} {C : Nat → Int} {M : Nat → Int} {T : Nat → Int} {n9 : Int} {tr : Int64} {kp : Nat → Int} {Ki : Nat → Kom} {Kk : Nat → Kom} {F : Nat → Int} {A : Kom} (hI : lwI tx ln tk K Kto ix z M T n9 kp Ki Kk F A) (hH : lwH G s (lwC Y hv g9 u af tx ln pl su tk nu K Kto Kt ix z E C M T n9 tr tr kp Ki Kk F A) H locs) (kk : lwK p l e s m below meth c cells slots Q G Y b hv g9 u af ls) : W p l e room_1 s m #[Value.ref b] below meth c H locs cells slots Q (F0 m 203 ls []) := by
  obtain ⟨hx, hb, hml, hown, hts, hX, hK⟩ := X
  obtain ⟨hP, hD, hS⟩ := hH
  have hbA : ¬ (fun q : Nat => s.heap.size ≤ q) b := Nat.not_le.mpr hX.2.1
  have i1 := hI.1
  have i2 := hI.2.1
  have i3 := hI.2.2.1
  have i4 := hI.2.2.2.1
  have i5 := hI.2.2.2.2.1
  have i6 := hI.2.2.2.2.2
  have hW := i2.1
  have hE := i2.2.1
  have hV := i2.2.2.1
  have h26 := i2.2.2.2
  have hno : F 26 < 0 := by omega
  have hKb := hW.1
  have hvb := mV_b hV
  have hk2 : K 0 2 = A 17 3 := hE.k2
  have hL9 := hX.2.2
  refine lv_aload_n hx hb dL_law_203 rfl (lv_at hl 1 rfl) ?_
  have hP0 := va_P_pm (lw_pm (lwC Y hv g9 u af tx ln pl su tk nu K Kto Kt ix z E C M T n9 tr tr kp Ki Kk F A) (ps := [0, 1]) (by decide)) hP
  have hD0 := va_D_pm (lw_pm (lwC Y hv g9 u af tx ln pl su tk nu K Kto Kt ix z E C M T n9 tr tr kp Ki Kk F A) (ps := [0, 1]) (by decide)) hD
  refine mu_V (As := []) (rest := []) (F := lwR [0, 1] (lwC Y hv g9 u af tx ln pl su tk nu K Kto Kt ix z E C M T n9 tr tr kp Ki Kk F A)) (wc' := svO Y hv (u.1 1) (u.1 2) (u.1 3) (u.1 4) (u.1 5) (u.1 6) (u.1 7) (u.1 8) (u.1 9) ++ txW Y (u.1 1) (u.1 10) tx 0 pl su tk nu) ⟨hx, hb, hml, hown, hts⟩ (c_X6_clear l G Y hv (u.1 1) (u.1 2) (u.1 3) (u.1 4) (u.1 5) (u.1 6) (u.1 7) (u.1 8) (u.1 9) (u.1 10) tx i1.1 ln pl su tk nu) (cwV 0 hts gL_law_X6_clear rfl rfl rfl (by decide +kernel) ⟨Nat.le_of_ble_eq_true rfl, Nat.le_of_ble_eq_true rfl⟩) hK hP0 hD0 hS 0 rfl rfl (Eq.refl [hv, u.1 1, u.1 10]) rfl hl.1 rfl (Nat.le_of_ble_eq_true rfl) dL_law_204 hce (fun H locs hP1 hD1 hS => ?_)
  show W _ _ _ _ _ _ _ _ _ _ _ _ _ _ _ (F0 _ _ _ (.int (iZ (((ln : Nat) : Int))) :: []))
  have pmb := lw_back (ch := lwC Y hv g9 u af tx ln pl su tk nu K Kto Kt ix z E C M T n9 tr tr kp Ki Kk F A) (ch' := lwC Y hv g9 u af tx 0 pl su tk nu K Kto Kt ix z E C M T n9 tr tr kp Ki Kk F A) (ps := [0, 1]) (by decide) (rfl) (w := svO Y hv (u.1 1) (u.1 2) (u.1 3) (u.1 4) (u.1 5) (u.1 6) (u.1 7) (u.1 8) (u.1 9) ++ txW Y (u.1 1) (u.1 10) tx 0 pl su tk nu) (rfl)
  replace hP : va_P G vwCl (lwF (lwC Y hv g9 u af tx 0 pl su tk nu K Kto Kt ix z E C M T n9 tr tr kp Ki Kk F A)) H := va_P_pm pmb hP1
  replace hD : va_D _ (lwF (lwC Y hv g9 u af tx 0 pl su tk nu K Kto Kt ix z E C M T n9 tr tr kp Ki Kk F A)) := va_D_pm pmb hD1
  clear pmb hP1 hD1 hP0 hD0
  refine lv_aload_n hx hb dL_law_207 rfl (lv_at hl 2 rfl) ?_
  have hP0 := va_P_pm (lw_pm (lwC Y hv g9 u af tx 0 pl su tk nu K Kto Kt ix z E C M T n9 tr tr kp Ki Kk F A) (ps := [12]) (by decide)) hP
  have hD0 := va_D_pm (lw_pm (lwC Y hv g9 u af tx 0 pl su tk nu K Kto Kt ix z E C M T n9 tr tr kp Ki Kk F A) (ps := [12]) (by decide)) hD
  refine mu_V (As := []) (rest := [.int (iZ (((ln : Nat) : Int)))]) (F := lwR [12] (lwC Y hv g9 u af tx 0 pl su tk nu K Kto Kt ix z E C M T n9 tr tr kp Ki Kk F A)) (wc' := moW Y g9 af (va_up F 0 0) A tr) ⟨hx, hb, hml, hown, hts⟩ (c_X7_clear l G Y g9 af F A tr) (cwV 0 hts gL_law_X7_clear rfl rfl rfl (by decide +kernel) ⟨Nat.le_of_ble_eq_true rfl, Nat.le_of_ble_eq_true rfl⟩) hK hP0 hD0 hS 0 rfl rfl (Eq.refl [g9, af 1, af 11, af 12, af 16, af 17, af 18, af 19, af 20, af 21, af 24]) rfl hl.1 rfl (Nat.le_of_ble_eq_true rfl) dL_law_208 hce (fun H locs hP1 hD1 hS => ?_)
  show W _ _ _ _ _ _ _ _ _ _ _ _ _ _ _ (F0 _ _ _ (.int (iZ (F 0)) :: [.int (iZ (((ln : Nat) : Int)))]))
  have pmb := lw_back (ch := lwC Y hv g9 u af tx 0 pl su tk nu K Kto Kt ix z E C M T n9 tr tr kp Ki Kk F A) (ch' := lwC Y hv g9 u af tx 0 pl su tk nu K Kto Kt ix z E C M T n9 tr tr kp Ki Kk (va_up F 0 0) A) (ps := [12]) (by decide) (rfl) (w := moW Y g9 af (va_up F 0 0) A tr) (rfl)
  replace hP : va_P G vwCl (lwF (lwC Y hv g9 u af tx 0 pl su tk nu K Kto Kt ix z E C M T n9 tr tr kp Ki Kk (va_up F 0 0) A)) H := va_P_pm pmb hP1
  replace hD : va_D _ (lwF (lwC Y hv g9 u af tx 0 pl su tk nu K Kto Kt ix z E C M T n9 tr tr kp Ki Kk (va_up F 0 0) A)) := va_D_pm pmb hD1
  clear pmb hP1 hD1 hP0 hD0
  refine z_cmpeq (tgt := 990) hx hb i1.2.2.2.2 dL_law_211 (by decide) ?_
  exact kk tx 0 pl su tk nu K Kto Kt ix z E C M T n9 tr kp Ki Kk (va_up F 0 0) A H locs (lwI_clear hI) ⟨hP, hD, hS⟩

set_option maxHeartbeats 4000000 in
set_option maxRecDepth 100000 in
theorem lc_forget {p : Program} {l : Launch} {e : Env} {s : State} {m : MethodId} {below : List Frame} {meth : Method} {c : Code} {H : Heap} {locs : List Loc} {cells slots : Nat} {Q : State → Prop} {G : va_G} {Y : Nat → ClassId} {b L : Nat} {xs : Nat → Int32} (X : lwX p s m meth c b L xs G Y) (hce : cells ≤ 600000 ∧ slots ≤ 7302249) {hv g9 : Nat} {u : svU} {af : Nat → Nat} {i : Nat} (hi : i + 4 ≤ L) {ls : Array Slot} (hl : lv_has ls 4 [(0, .ref b), (1, .ref hv), (2, .ref g9), (3, .int (iZ ((i : Nat) : Int)))]) {tx : Nat → Int} {ln : Nat} {pl : Nat} {su : Bool} {tk : Nat} {nu : Int} {K : Kom} {Kto : Kom} {Kt : Kom} {ix : Nat} {z : Nat} {E : Nat → Int} {C : Nat → Int} {M : Nat → Int} {T : Nat → Int} {n9 : Int} {tr : Int64} {kp : Nat → Int} {Ki : Nat → Kom} {Kk : Nat → Kom} {F : Nat → Int} {A : Kom} (hI : lwI tx ln tk K Kto ix z M T n9 kp Ki Kk F A) (hH : lwH G s (lwC Y hv g9 u af tx ln pl su tk nu K Kto Kt ix z E C M T n9 tr tr kp Ki Kk F A) H locs) (kk : lwK p l e s m below meth c cells slots Q G Y b hv g9 u af ls) : W p l e room_1 s m #[Value.ref b] below meth c H locs cells slots Q (F0 m 736 ls []) := by
  obtain ⟨hx, hb, hml, hown, hts, hX, hK⟩ := X
  obtain ⟨hP, hD, hS⟩ := hH
  have hbA : ¬ (fun q : Nat => s.heap.size ≤ q) b := Nat.not_le.mpr hX.2.1
  have i1 := hI.1
  have i2 := hI.2.1
  have i3 := hI.2.2.1
  have i4 := hI.2.2.2.1
  have i5 := hI.2.2.2.2.1
  have i6 := hI.2.2.2.2.2
  have hW := i2.1
  have hE := i2.2.1
  have hV := i2.2.2.1
  have h26 := i2.2.2.2
  have hno : F 26 < 0 := by omega
  have hKb := hW.1
  have hvb := mV_b hV
  have hk2 : K 0 2 = A 17 3 := hE.k2
  have hL9 := hX.2.2
  refine lv_aload_n hx hb dL_law_736 rfl (lv_at hl 1 rfl) ?_
  have hP0 := va_P_pm (lw_pm (lwC Y hv g9 u af tx ln pl su tk nu K Kto Kt ix z E C M T n9 tr tr kp Ki Kk F A) (ps := [0, 8]) (by decide)) hP
  have hD0 := va_D_pm (lw_pm (lwC Y hv g9 u af tx ln pl su tk nu K Kto Kt ix z E C M T n9 tr tr kp Ki Kk F A) (ps := [0, 8]) (by decide)) hD
  refine mu_V (As := []) (rest := []) (F := lwR [0, 8] (lwC Y hv g9 u af tx ln pl su tk nu K Kto Kt ix z E C M T n9 tr tr kp Ki Kk F A)) (wc' := svO Y hv (u.1 1) (u.1 2) (u.1 3) (u.1 4) (u.1 5) (u.1 6) (u.1 7) (u.1 8) (u.1 9) ++ tlW Y (u.1 6) (u.1 15) (u.1 16) M T 0) ⟨hx, hb, hml, hown, hts⟩ (c_X6_forget l G Y hv (u.1 1) (u.1 2) (u.1 3) (u.1 4) (u.1 5) (u.1 6) (u.1 7) (u.1 8) (u.1 9) (u.1 15) (u.1 16) M T n9) (cwV 0 hts gL_law_X6_forget rfl rfl rfl (by decide +kernel) ⟨Nat.le_of_ble_eq_true rfl, Nat.le_of_ble_eq_true rfl⟩) hK hP0 hD0 hS 0 rfl rfl (Eq.refl [hv, u.1 6, u.1 15, u.1 16]) rfl hl.1 rfl (Nat.le_of_ble_eq_true rfl) dL_law_737 hce (fun H locs hP1 hD1 hS => ?_)
  show W _ _ _ _ _ _ _ _ _ _ _ _ _ _ _ (F0 _ _ _ (.int (iZ (n9)) :: []))
  have pmb := lw_back (ch := lwC Y hv g9 u af tx ln pl su tk nu K Kto Kt ix z E C M T n9 tr tr kp Ki Kk F A) (ch' := lwC Y hv g9 u af tx ln pl su tk nu K Kto Kt ix z E C M T 0 tr tr kp Ki Kk F A) (ps := [0, 8]) (by decide) (rfl) (w := svO Y hv (u.1 1) (u.1 2) (u.1 3) (u.1 4) (u.1 5) (u.1 6) (u.1 7) (u.1 8) (u.1 9) ++ tlW Y (u.1 6) (u.1 15) (u.1 16) M T 0) (rfl)
  replace hP : va_P G vwCl (lwF (lwC Y hv g9 u af tx ln pl su tk nu K Kto Kt ix z E C M T 0 tr tr kp Ki Kk F A)) H := va_P_pm pmb hP1
  replace hD : va_D _ (lwF (lwC Y hv g9 u af tx ln pl su tk nu K Kto Kt ix z E C M T 0 tr tr kp Ki Kk F A)) := va_D_pm pmb hD1
  clear pmb hP1 hD1 hP0 hD0
  refine lv_aload_n hx hb dL_law_740 rfl (lv_at hl 2 rfl) ?_
  have hP0 := va_P_pm (lw_pm (lwC Y hv g9 u af tx ln pl su tk nu K Kto Kt ix z E C M T 0 tr tr kp Ki Kk F A) (ps := [12]) (by decide)) hP
  have hD0 := va_D_pm (lw_pm (lwC Y hv g9 u af tx ln pl su tk nu K Kto Kt ix z E C M T 0 tr tr kp Ki Kk F A) (ps := [12]) (by decide)) hD
  refine mu_V (As := []) (rest := [.int (iZ (n9))]) (F := lwR [12] (lwC Y hv g9 u af tx ln pl su tk nu K Kto Kt ix z E C M T 0 tr tr kp Ki Kk F A)) (wc' := moW Y g9 af (va_up F 23 0) A tr) ⟨hx, hb, hml, hown, hts⟩ (c_X7_forget l G Y g9 af F A tr) (cwV 0 hts gL_law_X7_forget rfl rfl rfl (by decide +kernel) ⟨Nat.le_of_ble_eq_true rfl, Nat.le_of_ble_eq_true rfl⟩) hK hP0 hD0 hS 0 rfl rfl (Eq.refl [g9, af 1, af 11, af 12, af 16, af 17, af 18, af 19, af 20, af 21, af 24]) rfl hl.1 rfl (Nat.le_of_ble_eq_true rfl) dL_law_741 hce (fun H locs hP1 hD1 hS => ?_)
  show W _ _ _ _ _ _ _ _ _ _ _ _ _ _ _ (F0 _ _ _ (.int (iZ (F 23)) :: [.int (iZ (n9))]))
  have pmb := lw_back (ch := lwC Y hv g9 u af tx ln pl su tk nu K Kto Kt ix z E C M T 0 tr tr kp Ki Kk F A) (ch' := lwC Y hv g9 u af tx ln pl su tk nu K Kto Kt ix z E C M T 0 tr tr kp Ki Kk (va_up F 23 0) A) (ps := [12]) (by decide) (rfl) (w := moW Y g9 af (va_up F 23 0) A tr) (rfl)
  replace hP : va_P G vwCl (lwF (lwC Y hv g9 u af tx ln pl su tk nu K Kto Kt ix z E C M T 0 tr tr kp Ki Kk (va_up F 23 0) A)) H := va_P_pm pmb hP1
  replace hD : va_D _ (lwF (lwC Y hv g9 u af tx ln pl su tk nu K Kto Kt ix z E C M T 0 tr tr kp Ki Kk (va_up F 23 0) A)) := va_D_pm pmb hD1
  clear pmb hP1 hD1 hP0 hD0
  refine z_cmpeq (tgt := 990) hx hb i5.1.2.2 dL_law_744 (by decide) ?_
  exact kk tx ln pl su tk nu K Kto Kt ix z E C M T 0 tr kp Ki Kk (va_up F 23 0) A H locs (lwI_forget hI) ⟨hP, hD, hS⟩

set_option maxHeartbeats 4000000 in
set_option maxRecDepth 100000 in
theorem lc_counted {p : Program} {l : Launch} {e : Env} {s : State} {m : MethodId} {below : List Frame} {meth : Method} {c : Code} {H : Heap} {locs : List Loc} {cells slots : Nat} {Q : State → Prop} {G : va_G} {Y : Nat → ClassId} {b L : Nat} {xs : Nat → Int32} (X : lwX p s m meth c b L xs G Y) (hce : cells ≤ 600000 ∧ slots ≤ 7302249) {hv g9 : Nat} {u : svU} {af : Nat → Nat} {i : Nat} (hi : i + 4 ≤ L) {ls : Array Slot} (hl : lv_has ls 4 [(0, .ref b), (1, .ref hv), (2, .ref g9), (3, .int (iZ ((i : Nat) : Int)))]) {tx : Nat → Int} {ln : Nat} {pl : Nat} {su : Bool} {tk : Nat} {nu : Int} {K : Kom} {Kto : Kom} {Kt : Kom} {ix : Nat} {z : Nat} {E : Nat → Int} {C : Nat → Int} {M : Nat → Int} {T : Nat → Int} {n9 : Int} {tr : Int64} {kp : Nat → Int} {Ki : Nat → Kom} {Kk : Nat → Kom} {F : Nat → Int} {A : Kom} (hI : lwI tx ln tk K Kto ix z M T n9 kp Ki Kk F A) (hH : lwH G s (lwC Y hv g9 u af tx ln pl su tk nu K Kto Kt ix z E C M T n9 tr tr kp Ki Kk F A) H locs) (kk : lwK p l e s m below meth c cells slots Q G Y b hv g9 u af ls) : W p l e room_1 s m #[Value.ref b] below meth c H locs cells slots Q (F0 m 703 ls []) := by
  obtain ⟨hx, hb, hml, hown, hts, hX, hK⟩ := X
  obtain ⟨hP, hD, hS⟩ := hH
  have hbA : ¬ (fun q : Nat => s.heap.size ≤ q) b := Nat.not_le.mpr hX.2.1
  have i1 := hI.1
  have i2 := hI.2.1
  have i3 := hI.2.2.1
  have i4 := hI.2.2.2.1
  have i5 := hI.2.2.2.2.1
  have i6 := hI.2.2.2.2.2
  have hW := i2.1
  have hE := i2.2.1
  have hV := i2.2.2.1
  have h26 := i2.2.2.2
  have hno : F 26 < 0 := by omega
  have hKb := hW.1
  have hvb := mV_b hV
  have hk2 : K 0 2 = A 17 3 := hE.k2
  have hL9 := hX.2.2
  have ra1 := iZ_range (xs (i + 1))
  have ra2 := iZ_range (xs (i + 2))
  have i523 := i5.1.2.2
  have i51 := i5.1.1
  have i52 := i5.1.2.1
  by_cases hc : fCnt (xs (i + 1)).toInt (xs (i + 2)).toInt = true ∧ n9 < 5
  · skip
    refine lv_aload_n hx hb dL_law_703 rfl (lv_at hl 1 rfl) ?_
    refine lv_aload_n hx hb dL_law_704 rfl (lv_at hl 0 rfl) ?_
    refine lv_iload_n hx hb dL_law_705 rfl (lv_at hl 3 rfl) ?_
    refine z_iconst hx hb dL_law_706 ?_
    refine z_iadd hx hb dL_law_707 ?_
    refine z_sld hx hb hX hbA hS (i + 1) (by omega) dL_law_708 ?_
    refine lv_aload_n hx hb dL_law_709 rfl (lv_at hl 0 rfl) ?_
    refine lv_iload_n hx hb dL_law_710 rfl (lv_at hl 3 rfl) ?_
    refine z_iconst hx hb dL_law_711 ?_
    refine z_iadd hx hb dL_law_712 ?_
    refine z_sld hx hb hX hbA hS (i + 2) (by omega) dL_law_713 ?_
    have hP0 := va_P_pm (lw_pm (lwC Y hv g9 u af tx ln pl su tk nu K Kto Kt ix z E C M T n9 tr tr kp Ki Kk F A) (ps := [0, 8]) (by decide)) hP
    have hD0 := va_D_pm (lw_pm (lwC Y hv g9 u af tx ln pl su tk nu K Kto Kt ix z E C M T n9 tr tr kp Ki Kk F A) (ps := [0, 8]) (by decide)) hD
    refine mu_V (As := [.int (iZ (xs (i + 1)).toInt), .int (iZ (xs (i + 2)).toInt)]) (rest := []) (F := lwR [0, 8] (lwC Y hv g9 u af tx ln pl su tk nu K Kto Kt ix z E C M T n9 tr tr kp Ki Kk F A)) (wc' := svO Y hv (u.1 1) (u.1 2) (u.1 3) (u.1 4) (u.1 5) (u.1 6) (u.1 7) (u.1 8) (u.1 9) ++ tlW Y (u.1 6) (u.1 15) (u.1 16) (bif fCnt (xs (i + 1)).toInt (xs (i + 2)).toInt then tlM M n9 (xs (i + 1)).toInt else M) (bif fCnt (xs (i + 1)).toInt (xs (i + 2)).toInt then tlM T n9 (xs (i + 2)).toInt else T) (bif fCnt (xs (i + 1)).toInt (xs (i + 2)).toInt then tlS n9 else n9)) ⟨hx, hb, hml, hown, hts⟩ (c_X6_counted l G Y hv (u.1 1) (u.1 2) (u.1 3) (u.1 4) (u.1 5) (u.1 6) (u.1 7) (u.1 8) (u.1 9) (u.1 15) (u.1 16) M T n9 (xs (i + 1)).toInt (xs (i + 2)).toInt ⟨⟨ra1, ra2⟩, i5.1.1, i5.1.2.1⟩) (cwV 2 hts gL_law_X6_counted rfl rfl rfl (by decide +kernel) ⟨Nat.le_of_ble_eq_true rfl, Nat.le_of_ble_eq_true rfl⟩) hK hP0 hD0 hS 0 rfl rfl (Eq.refl [hv, u.1 6, u.1 15, u.1 16]) rfl hl.1 rfl (Nat.le_of_ble_eq_true rfl) dL_law_714 hce (fun H locs hP1 hD1 hS => ?_)
    show W _ _ _ _ _ _ _ _ _ _ _ _ _ _ _ (F0 _ _ _ (.int (iZ (rCnt n9 (xs (i + 1)).toInt (xs (i + 2)).toInt)) :: []))
    rw [hc.1, cond_true, cond_true, cond_true, tlM_t hc.2, tlM_t hc.2, tlS_t hc.2] at hP1 hD1
    have pmb := lw_back (ch := lwC Y hv g9 u af tx ln pl su tk nu K Kto Kt ix z E C M T n9 tr tr kp Ki Kk F A) (ch' := lwC Y hv g9 u af tx ln pl su tk nu K Kto Kt ix z E C (va_up M n9.toNat (xs (i + 1)).toInt) (va_up T n9.toNat (xs (i + 2)).toInt) (n9 + 1) tr tr kp Ki Kk F A) (ps := [0, 8]) (by decide) (rfl) (w := svO Y hv (u.1 1) (u.1 2) (u.1 3) (u.1 4) (u.1 5) (u.1 6) (u.1 7) (u.1 8) (u.1 9) ++ tlW Y (u.1 6) (u.1 15) (u.1 16) (va_up M n9.toNat (xs (i + 1)).toInt) (va_up T n9.toNat (xs (i + 2)).toInt) (n9 + 1)) (rfl)
    replace hP : va_P G vwCl (lwF (lwC Y hv g9 u af tx ln pl su tk nu K Kto Kt ix z E C (va_up M n9.toNat (xs (i + 1)).toInt) (va_up T n9.toNat (xs (i + 2)).toInt) (n9 + 1) tr tr kp Ki Kk F A)) H := va_P_pm pmb hP1
    replace hD : va_D _ (lwF (lwC Y hv g9 u af tx ln pl su tk nu K Kto Kt ix z E C (va_up M n9.toNat (xs (i + 1)).toInt) (va_up T n9.toNat (xs (i + 2)).toInt) (n9 + 1) tr tr kp Ki Kk F A)) := va_D_pm pmb hD1
    clear pmb hP1 hD1 hP0 hD0
    refine lv_aload_n hx hb dL_law_717 rfl (lv_at hl 2 rfl) ?_
    refine lv_aload_n hx hb dL_law_718 rfl (lv_at hl 0 rfl) ?_
    refine lv_iload_n hx hb dL_law_719 rfl (lv_at hl 3 rfl) ?_
    refine z_iconst hx hb dL_law_720 ?_
    refine z_iadd hx hb dL_law_721 ?_
    refine z_sld hx hb hX hbA hS (i + 1) (by omega) dL_law_722 ?_
    refine lv_aload_n hx hb dL_law_723 rfl (lv_at hl 0 rfl) ?_
    refine lv_iload_n hx hb dL_law_724 rfl (lv_at hl 3 rfl) ?_
    refine z_iconst hx hb dL_law_725 ?_
    refine z_iadd hx hb dL_law_726 ?_
    refine z_sld hx hb hX hbA hS (i + 2) (by omega) dL_law_727 ?_
    have hP0 := va_P_pm (lw_pm (lwC Y hv g9 u af tx ln pl su tk nu K Kto Kt ix z E C (va_up M n9.toNat (xs (i + 1)).toInt) (va_up T n9.toNat (xs (i + 2)).toInt) (n9 + 1) tr tr kp Ki Kk F A) (ps := [12]) (by decide)) hP
    have hD0 := va_D_pm (lw_pm (lwC Y hv g9 u af tx ln pl su tk nu K Kto Kt ix z E C (va_up M n9.toNat (xs (i + 1)).toInt) (va_up T n9.toNat (xs (i + 2)).toInt) (n9 + 1) tr tr kp Ki Kk F A) (ps := [12]) (by decide)) hD
    refine mu_V (As := [.int (iZ (xs (i + 1)).toInt), .int (iZ (xs (i + 2)).toInt)]) (rest := [.int (iZ (rCnt n9 (xs (i + 1)).toInt (xs (i + 2)).toInt))]) (F := lwR [12] (lwC Y hv g9 u af tx ln pl su tk nu K Kto Kt ix z E C (va_up M n9.toNat (xs (i + 1)).toInt) (va_up T n9.toNat (xs (i + 2)).toInt) (n9 + 1) tr tr kp Ki Kk F A)) (wc' := moW Y g9 af (bif (fCnt (xs (i + 1)).toInt (xs (i + 2)).toInt && decide (F 23 < 5)) then va_up F 23 (F 23 + 1) else F) (bif (fCnt (xs (i + 1)).toInt (xs (i + 2)).toInt && decide (F 23 < 5)) then va_up A 24 (va_up (va_up (A 24) (2 * F 23).toNat (xs (i + 1)).toInt) ((2 * F 23) + 1).toNat (xs (i + 2)).toInt) else A) tr) ⟨hx, hb, hml, hown, hts⟩ (c_X7_counted l G Y g9 af F A tr (xs (i + 1)).toInt (xs (i + 2)).toInt (by omega)) (cwV 2 hts gL_law_X7_counted rfl rfl rfl (by decide +kernel) ⟨Nat.le_of_ble_eq_true rfl, Nat.le_of_ble_eq_true rfl⟩) hK hP0 hD0 hS 0 rfl rfl (Eq.refl [g9, af 1, af 11, af 12, af 16, af 17, af 18, af 19, af 20, af 21, af 24]) rfl hl.1 rfl (Nat.le_of_ble_eq_true rfl) dL_law_728 hce (fun H locs hP1 hD1 hS => ?_)
    show W _ _ _ _ _ _ _ _ _ _ _ _ _ _ _ (F0 _ _ _ (.int (iZ (rCnt (F 23) (xs (i + 1)).toInt (xs (i + 2)).toInt)) :: [.int (iZ (rCnt n9 (xs (i + 1)).toInt (xs (i + 2)).toInt))]))
    rw [hc.1, decide_eq_true (show F 23 < 5 by omega), Bool.true_and, cond_true, cond_true] at hP1 hD1
    have pmb := lw_back (ch := lwC Y hv g9 u af tx ln pl su tk nu K Kto Kt ix z E C (va_up M n9.toNat (xs (i + 1)).toInt) (va_up T n9.toNat (xs (i + 2)).toInt) (n9 + 1) tr tr kp Ki Kk F A) (ch' := lwC Y hv g9 u af tx ln pl su tk nu K Kto Kt ix z E C (va_up M n9.toNat (xs (i + 1)).toInt) (va_up T n9.toNat (xs (i + 2)).toInt) (n9 + 1) tr tr kp Ki Kk (va_up F 23 (F 23 + 1)) (va_up A 24 (va_up (va_up (A 24) (2 * F 23).toNat (xs (i + 1)).toInt) ((2 * F 23) + 1).toNat (xs (i + 2)).toInt))) (ps := [12]) (by decide) (rfl) (w := moW Y g9 af (va_up F 23 (F 23 + 1)) (va_up A 24 (va_up (va_up (A 24) (2 * F 23).toNat (xs (i + 1)).toInt) ((2 * F 23) + 1).toNat (xs (i + 2)).toInt)) tr) (rfl)
    replace hP : va_P G vwCl (lwF (lwC Y hv g9 u af tx ln pl su tk nu K Kto Kt ix z E C (va_up M n9.toNat (xs (i + 1)).toInt) (va_up T n9.toNat (xs (i + 2)).toInt) (n9 + 1) tr tr kp Ki Kk (va_up F 23 (F 23 + 1)) (va_up A 24 (va_up (va_up (A 24) (2 * F 23).toNat (xs (i + 1)).toInt) ((2 * F 23) + 1).toNat (xs (i + 2)).toInt)))) H := va_P_pm pmb hP1
    replace hD : va_D _ (lwF (lwC Y hv g9 u af tx ln pl su tk nu K Kto Kt ix z E C (va_up M n9.toNat (xs (i + 1)).toInt) (va_up T n9.toNat (xs (i + 2)).toInt) (n9 + 1) tr tr kp Ki Kk (va_up F 23 (F 23 + 1)) (va_up A 24 (va_up (va_up (A 24) (2 * F 23).toNat (xs (i + 1)).toInt) ((2 * F 23) + 1).toNat (xs (i + 2)).toInt)))) := va_D_pm pmb hD1
    clear pmb hP1 hD1 hP0 hD0
    refine z_cmpeq (tgt := 990) hx hb (by rw [i523]) dL_law_731 (by decide) ?_
    exact kk tx ln pl su tk nu K Kto Kt ix z E C (va_up M n9.toNat (xs (i + 1)).toInt) (va_up T n9.toNat (xs (i + 2)).toInt) (n9 + 1) tr kp Ki Kk (va_up F 23 (F 23 + 1)) (va_up A 24 (va_up (va_up (A 24) (2 * F 23).toNat (xs (i + 1)).toInt) ((2 * F 23) + 1).toNat (xs (i + 2)).toInt)) H locs (lwI_cnt hI (of_decide_eq_true hc.1).1 (of_decide_eq_true hc.1).2 hc.2) ⟨hP, hD, hS⟩
  · skip
    refine lv_aload_n hx hb dL_law_703 rfl (lv_at hl 1 rfl) ?_
    refine lv_aload_n hx hb dL_law_704 rfl (lv_at hl 0 rfl) ?_
    refine lv_iload_n hx hb dL_law_705 rfl (lv_at hl 3 rfl) ?_
    refine z_iconst hx hb dL_law_706 ?_
    refine z_iadd hx hb dL_law_707 ?_
    refine z_sld hx hb hX hbA hS (i + 1) (by omega) dL_law_708 ?_
    refine lv_aload_n hx hb dL_law_709 rfl (lv_at hl 0 rfl) ?_
    refine lv_iload_n hx hb dL_law_710 rfl (lv_at hl 3 rfl) ?_
    refine z_iconst hx hb dL_law_711 ?_
    refine z_iadd hx hb dL_law_712 ?_
    refine z_sld hx hb hX hbA hS (i + 2) (by omega) dL_law_713 ?_
    have hP0 := va_P_pm (lw_pm (lwC Y hv g9 u af tx ln pl su tk nu K Kto Kt ix z E C M T n9 tr tr kp Ki Kk F A) (ps := [0, 8]) (by decide)) hP
    have hD0 := va_D_pm (lw_pm (lwC Y hv g9 u af tx ln pl su tk nu K Kto Kt ix z E C M T n9 tr tr kp Ki Kk F A) (ps := [0, 8]) (by decide)) hD
    refine mu_V (As := [.int (iZ (xs (i + 1)).toInt), .int (iZ (xs (i + 2)).toInt)]) (rest := []) (F := lwR [0, 8] (lwC Y hv g9 u af tx ln pl su tk nu K Kto Kt ix z E C M T n9 tr tr kp Ki Kk F A)) (wc' := svO Y hv (u.1 1) (u.1 2) (u.1 3) (u.1 4) (u.1 5) (u.1 6) (u.1 7) (u.1 8) (u.1 9) ++ tlW Y (u.1 6) (u.1 15) (u.1 16) (bif fCnt (xs (i + 1)).toInt (xs (i + 2)).toInt then tlM M n9 (xs (i + 1)).toInt else M) (bif fCnt (xs (i + 1)).toInt (xs (i + 2)).toInt then tlM T n9 (xs (i + 2)).toInt else T) (bif fCnt (xs (i + 1)).toInt (xs (i + 2)).toInt then tlS n9 else n9)) ⟨hx, hb, hml, hown, hts⟩ (c_X6_counted l G Y hv (u.1 1) (u.1 2) (u.1 3) (u.1 4) (u.1 5) (u.1 6) (u.1 7) (u.1 8) (u.1 9) (u.1 15) (u.1 16) M T n9 (xs (i + 1)).toInt (xs (i + 2)).toInt ⟨⟨ra1, ra2⟩, i5.1.1, i5.1.2.1⟩) (cwV 2 hts gL_law_X6_counted rfl rfl rfl (by decide +kernel) ⟨Nat.le_of_ble_eq_true rfl, Nat.le_of_ble_eq_true rfl⟩) hK hP0 hD0 hS 0 rfl rfl (Eq.refl [hv, u.1 6, u.1 15, u.1 16]) rfl hl.1 rfl (Nat.le_of_ble_eq_true rfl) dL_law_714 hce (fun H locs hP1 hD1 hS => ?_)
    show W _ _ _ _ _ _ _ _ _ _ _ _ _ _ _ (F0 _ _ _ (.int (iZ (rCnt n9 (xs (i + 1)).toInt (xs (i + 2)).toInt)) :: []))
    have e1 : (bif fCnt (xs (i + 1)).toInt (xs (i + 2)).toInt then tlM M n9 (xs (i + 1)).toInt else M) = M := by cases q : fCnt (xs (i + 1)).toInt (xs (i + 2)).toInt; rfl; (rw [cond_true, tlM_f (Int.not_lt.mp (fun w => hc ⟨q, w⟩))])
    have e2 : (bif fCnt (xs (i + 1)).toInt (xs (i + 2)).toInt then tlM T n9 (xs (i + 2)).toInt else T) = T := by cases q : fCnt (xs (i + 1)).toInt (xs (i + 2)).toInt; rfl; (rw [cond_true, tlM_f (Int.not_lt.mp (fun w => hc ⟨q, w⟩))])
    have e3 : (bif fCnt (xs (i + 1)).toInt (xs (i + 2)).toInt then tlS n9 else n9) = n9 := by cases q : fCnt (xs (i + 1)).toInt (xs (i + 2)).toInt; rfl; (rw [cond_true, tlS_f (Int.not_lt.mp (fun w => hc ⟨q, w⟩))])
    rw [e1, e2, e3] at hP1 hD1
    have pmb := lw_back (ch := lwC Y hv g9 u af tx ln pl su tk nu K Kto Kt ix z E C M T n9 tr tr kp Ki Kk F A) (ch' := lwC Y hv g9 u af tx ln pl su tk nu K Kto Kt ix z E C M T n9 tr tr kp Ki Kk F A) (ps := [0, 8]) (by decide) (rfl) (w := svO Y hv (u.1 1) (u.1 2) (u.1 3) (u.1 4) (u.1 5) (u.1 6) (u.1 7) (u.1 8) (u.1 9) ++ tlW Y (u.1 6) (u.1 15) (u.1 16) M T n9) (rfl)
    replace hP : va_P G vwCl (lwF (lwC Y hv g9 u af tx ln pl su tk nu K Kto Kt ix z E C M T n9 tr tr kp Ki Kk F A)) H := va_P_pm pmb hP1
    replace hD : va_D _ (lwF (lwC Y hv g9 u af tx ln pl su tk nu K Kto Kt ix z E C M T n9 tr tr kp Ki Kk F A)) := va_D_pm pmb hD1
    clear pmb hP1 hD1 hP0 hD0
    refine lv_aload_n hx hb dL_law_717 rfl (lv_at hl 2 rfl) ?_
    refine lv_aload_n hx hb dL_law_718 rfl (lv_at hl 0 rfl) ?_
    refine lv_iload_n hx hb dL_law_719 rfl (lv_at hl 3 rfl) ?_
    refine z_iconst hx hb dL_law_720 ?_
    refine z_iadd hx hb dL_law_721 ?_
    refine z_sld hx hb hX hbA hS (i + 1) (by omega) dL_law_722 ?_
    refine lv_aload_n hx hb dL_law_723 rfl (lv_at hl 0 rfl) ?_
    refine lv_iload_n hx hb dL_law_724 rfl (lv_at hl 3 rfl) ?_
    refine z_iconst hx hb dL_law_725 ?_
    refine z_iadd hx hb dL_law_726 ?_
    refine z_sld hx hb hX hbA hS (i + 2) (by omega) dL_law_727 ?_
    have hP0 := va_P_pm (lw_pm (lwC Y hv g9 u af tx ln pl su tk nu K Kto Kt ix z E C M T n9 tr tr kp Ki Kk F A) (ps := [12]) (by decide)) hP
    have hD0 := va_D_pm (lw_pm (lwC Y hv g9 u af tx ln pl su tk nu K Kto Kt ix z E C M T n9 tr tr kp Ki Kk F A) (ps := [12]) (by decide)) hD
    refine mu_V (As := [.int (iZ (xs (i + 1)).toInt), .int (iZ (xs (i + 2)).toInt)]) (rest := [.int (iZ (rCnt n9 (xs (i + 1)).toInt (xs (i + 2)).toInt))]) (F := lwR [12] (lwC Y hv g9 u af tx ln pl su tk nu K Kto Kt ix z E C M T n9 tr tr kp Ki Kk F A)) (wc' := moW Y g9 af (bif (fCnt (xs (i + 1)).toInt (xs (i + 2)).toInt && decide (F 23 < 5)) then va_up F 23 (F 23 + 1) else F) (bif (fCnt (xs (i + 1)).toInt (xs (i + 2)).toInt && decide (F 23 < 5)) then va_up A 24 (va_up (va_up (A 24) (2 * F 23).toNat (xs (i + 1)).toInt) ((2 * F 23) + 1).toNat (xs (i + 2)).toInt) else A) tr) ⟨hx, hb, hml, hown, hts⟩ (c_X7_counted l G Y g9 af F A tr (xs (i + 1)).toInt (xs (i + 2)).toInt (by omega)) (cwV 2 hts gL_law_X7_counted rfl rfl rfl (by decide +kernel) ⟨Nat.le_of_ble_eq_true rfl, Nat.le_of_ble_eq_true rfl⟩) hK hP0 hD0 hS 0 rfl rfl (Eq.refl [g9, af 1, af 11, af 12, af 16, af 17, af 18, af 19, af 20, af 21, af 24]) rfl hl.1 rfl (Nat.le_of_ble_eq_true rfl) dL_law_728 hce (fun H locs hP1 hD1 hS => ?_)
    show W _ _ _ _ _ _ _ _ _ _ _ _ _ _ _ (F0 _ _ _ (.int (iZ (rCnt (F 23) (xs (i + 1)).toInt (xs (i + 2)).toInt)) :: [.int (iZ (rCnt n9 (xs (i + 1)).toInt (xs (i + 2)).toInt))]))
    have e4 : (fCnt (xs (i + 1)).toInt (xs (i + 2)).toInt && decide (F 23 < 5)) = false := by cases q : fCnt (xs (i + 1)).toInt (xs (i + 2)).toInt; rfl; (rw [Bool.true_and, decide_eq_false (fun w => hc ⟨q, by omega⟩)])
    rw [e4, cond_false, cond_false] at hP1 hD1
    have pmb := lw_back (ch := lwC Y hv g9 u af tx ln pl su tk nu K Kto Kt ix z E C M T n9 tr tr kp Ki Kk F A) (ch' := lwC Y hv g9 u af tx ln pl su tk nu K Kto Kt ix z E C M T n9 tr tr kp Ki Kk F A) (ps := [12]) (by decide) (rfl) (w := moW Y g9 af F A tr) (rfl)
    replace hP : va_P G vwCl (lwF (lwC Y hv g9 u af tx ln pl su tk nu K Kto Kt ix z E C M T n9 tr tr kp Ki Kk F A)) H := va_P_pm pmb hP1
    replace hD : va_D _ (lwF (lwC Y hv g9 u af tx ln pl su tk nu K Kto Kt ix z E C M T n9 tr tr kp Ki Kk F A)) := va_D_pm pmb hD1
    clear pmb hP1 hD1 hP0 hD0
    refine z_cmpeq (tgt := 990) hx hb (by rw [i523]) dL_law_731 (by decide) ?_
    exact kk tx ln pl su tk nu K Kto Kt ix z E C M T n9 tr kp Ki Kk F A H locs (hI) ⟨hP, hD, hS⟩

set_option maxHeartbeats 4000000 in
set_option maxRecDepth 100000 in
theorem lc_trace {p : Program} {l : Launch} {e : Env} {s : State} {m : MethodId} {below : List Frame} {meth : Method} {c : Code} {H : Heap} {locs : List Loc} {cells slots : Nat} {Q : State → Prop} {G : va_G} {Y : Nat → ClassId} {b L : Nat} {xs : Nat → Int32} (X : lwX p s m meth c b L xs G Y) (hce : cells ≤ 600000 ∧ slots ≤ 7302249) {hv g9 : Nat} {u : svU} {af : Nat → Nat} {i : Nat} (hi : i + 4 ≤ L) {ls : Array Slot} (hl : lv_has ls 4 [(0, .ref b), (1, .ref hv), (2, .ref g9), (3, .int (iZ ((i : Nat) : Int)))]) {tx : Nat → Int} {ln : Nat} {pl : Nat} {su : Bool} {tk : Nat} {nu : Int} {K : Kom} {Kto : Kom} {Kt : Kom} {ix : Nat} {z : Nat} {E : Nat → Int} {C : Nat → Int} {M : Nat → Int} {T : Nat → Int} {n9 : Int} {tr : Int64} {kp : Nat → Int} {Ki : Nat → Kom} {Kk : Nat → Kom} {F : Nat → Int} {A : Kom} (hI : lwI tx ln tk K Kto ix z M T n9 kp Ki Kk F A) (hH : lwH G s (lwC Y hv g9 u af tx ln pl su tk nu K Kto Kt ix z E C M T n9 tr tr kp Ki Kk F A) H locs) (kk : lwK p l e s m below meth c cells slots Q G Y b hv g9 u af ls) : W p l e room_1 s m #[Value.ref b] below meth c H locs cells slots Q (F0 m 976 ls []) := by
  obtain ⟨hx, hb, hml, hown, hts, hX, hK⟩ := X
  obtain ⟨hP, hD, hS⟩ := hH
  have hbA : ¬ (fun q : Nat => s.heap.size ≤ q) b := Nat.not_le.mpr hX.2.1
  have i1 := hI.1
  have i2 := hI.2.1
  have i3 := hI.2.2.1
  have i4 := hI.2.2.2.1
  have i5 := hI.2.2.2.2.1
  have i6 := hI.2.2.2.2.2
  have hW := i2.1
  have hE := i2.2.1
  have hV := i2.2.2.1
  have h26 := i2.2.2.2
  have hno : F 26 < 0 := by omega
  have hKb := hW.1
  have hvb := mV_b hV
  have hk2 : K 0 2 = A 17 3 := hE.k2
  have hL9 := hX.2.2
  refine lv_aload_n hx hb dL_law_976 rfl (lv_at hl 1 rfl) ?_
  have hPc := va_P_l (va_P_pm (lw_pm (lwC Y hv g9 u af tx ln pl su tk nu K Kto Kt ix z E C M T n9 tr tr kp Ki Kk F A) (ps := [0, 9]) (by decide)) hP)
  refine ro_V (As := []) (rest := []) ⟨hx, hb, hml, hown, hts⟩ (c_X6_trace l G Y hv (u.1 1) (u.1 2) (u.1 3) (u.1 4) (u.1 5) (u.1 6) (u.1 7) (u.1 8) (u.1 9) tr) (cwV 0 hts gL_law_X6_trace rfl rfl rfl (by decide +kernel) ⟨Nat.le_of_ble_eq_true rfl, Nat.le_of_ble_eq_true rfl⟩) hK hPc 0 rfl rfl rfl hl.1 rfl (Nat.le_of_ble_eq_true rfl) dL_law_977 hce ?_
  refine lv_aload_n hx hb dL_law_980 rfl (lv_at hl 2 rfl) ?_
  have hPc := va_P_l (va_P_pm (lw_pm (lwC Y hv g9 u af tx ln pl su tk nu K Kto Kt ix z E C M T n9 tr tr kp Ki Kk F A) (ps := [12]) (by decide)) hP)
  refine ro_V (As := []) (rest := [.long tr]) ⟨hx, hb, hml, hown, hts⟩ (c_X7_trace l G Y g9 af F A tr) (cwV 0 hts gL_law_X7_trace rfl rfl rfl (by decide +kernel) ⟨Nat.le_of_ble_eq_true rfl, Nat.le_of_ble_eq_true rfl⟩) hK hPc 0 rfl rfl rfl hl.1 rfl (Nat.le_of_ble_eq_true rfl) dL_law_981 hce ?_
  refine W.lcmp hx hb dL_law_984 ?_
  rw [show lg_cmp tr tr = 0 by simp [lg_cmp]]
  refine lv_if_eq (tgt := 990) hx hb dL_law_985 (by decide) (fun _ => ?_) (fun q => absurd rfl q)
  exact kk tx ln pl su tk nu K Kto Kt ix z E C M T n9 tr kp Ki Kk F A H locs hI ⟨hP, hD, hS⟩
