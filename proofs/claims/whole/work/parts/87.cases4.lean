set_option maxHeartbeats 4000000 in
set_option maxRecDepth 100000 in
theorem lc_undo {p : Program} {l : Launch} {e : Env} {s : State} {m : MethodId} {below : List Frame} {meth : Method} {c : Code} {H : Heap} {locs : List Loc} {cells slots : Nat} {Q : State → Prop} {G : va_G} {Y : Nat → ClassId} {b L : Nat} {xs : Nat → Int32} (X : lwX p s m meth c b L xs G Y) (hce : cells ≤ 600000 ∧ slots ≤ 7302249) {hv g9 : Nat} {u : svU} {af : Nat → Nat} {i : Nat} (hi : i + 4 ≤ L) {ls : Array Slot} (hl : lv_has ls 4 [(0, .ref b), (1, .ref hv), (2, .ref g9), (3, .int (iZ ((i : Nat) : Int)))]) {tx : Nat → Int} {ln : Nat} {pl : Nat} {su : Bool} {tk : Nat} {nu : Int} {K : Kom} {Kto : Kom} {Kt : Kom} {ix : Nat} {z : Nat} {E : Nat → Int} {C : Nat → Int} {M : Nat → Int} {T : Nat → Int} {n9 : Int} {tr : Int64} {kp : Nat → Int} {Ki : Nat → Kom} {Kk : Nat → Kom} {F : Nat → Int} {A : Kom} (hI : lwI tx ln tk K Kto ix z M T n9 kp Ki Kk F A) (hH : lwH G s (lwC Y hv g9 u af tx ln pl su tk nu K Kto Kt ix z E C M T n9 tr tr kp Ki Kk F A) H locs) (kk : lwK p l e s m below meth c cells slots Q G Y b hv g9 u af ls) : W p l e room_1 s m #[Value.ref b] below meth c H locs cells slots Q (F0 m 532 ls []) := by
  obtain ⟨hx, hb, hml, hown, hts, hX, hK⟩ := X
  obtain ⟨hP, hD, hS⟩ := hH
  have hbA : ¬ (fun q : Nat => s.heap.size ≤ q) b := Nat.not_le.mpr hX.2.1
  have i1 := hI.1
  have i2 := hI.2.1
  have i3 := hI.2.2.1
  have i4 := hI.2.2.2.1
  have i5 := hI.2.2.2.2.1
  have i6 := hI.2.2.2.2.2
  have hW := i2.1
  have hE := i2.2.1
  have hV := i2.2.2.1
  have h26 := i2.2.2.2
  have hno : F 26 < 0 := by omega
  have hKb := hW.1
  have hvb := mV_b hV
  have hk2 : K 0 2 = A 17 3 := hE.k2
  have hL9 := hX.2.2
  have i422 := i4.2.2.1
  by_cases hc : 0 < z
  · skip
    refine lv_aload_n hx hb dL_law_532 rfl (lv_at hl 1 rfl) ?_
    have hP0 := va_P_pm (lw_pm (lwC Y hv g9 u af tx ln pl su tk nu K Kto Kt ix z E C M T n9 tr tr kp Ki Kk F A) (ps := [0, 4, ((ix + 9) % 10) + 15, 2]) (pm_op ((ix + 9) % 10) (Nat.mod_lt _ (by decide)))) hP
    have hD0 := va_D_pm (lw_pm (lwC Y hv g9 u af tx ln pl su tk nu K Kto Kt ix z E C M T n9 tr tr kp Ki Kk F A) (ps := [0, 4, ((ix + 9) % 10) + 15, 2]) (pm_op ((ix + 9) % 10) (Nat.mod_lt _ (by decide)))) hD
    refine mu_V (As := []) (rest := []) (F := lwR [0, 4, ((ix + 9) % 10) + 15, 2] (lwC Y hv g9 u af tx ln pl su tk nu K Kto Kt ix z E C M T n9 tr tr kp Ki Kk F A)) (wc' := svO Y hv (u.1 1) (u.1 2) (u.1 3) (u.1 4) (u.1 5) (u.1 6) (u.1 7) (u.1 8) (u.1 9) ++ (paW Y (u.1 4) (u.1 11) (u.2.1 2) (bif decide (((z : Nat) : Int) ≠ 0) then ((((ix + 9) % 10) : Nat) : Int) else ((ix : Nat) : Int)) (bif decide (((z : Nat) : Int) ≠ 0) then ((z : Nat) : Int) - 1 else ((z : Nat) : Int)) ++ (cmW Y (u.2.1 2 ((ix + 9) % 10)) (u.2.2.1 ((ix + 9) % 10)) (Kk ((ix + 9) % 10)) ++ cmW Y (u.1 2) (u.2.1 0) (bif decide (((z : Nat) : Int) ≠ 0) then Kk ((ix + 9) % 10) else K)))) ⟨hx, hb, hml, hown, hts⟩ (c_X6_undo l G Y hv (u.1 1) (u.1 2) (u.1 3) (u.1 4) (u.1 5) (u.1 6) (u.1 7) (u.1 8) (u.1 9) (u.1 11) (u.2.1 2) ((ix : Nat) : Int) ((z : Nat) : Int) ((ix + 9) % 10) (u.2.2.1 ((ix + 9) % 10)) (Kk ((ix + 9) % 10)) (fun q => (i4.2.2.2 0 (by omega)).2.1) (u.2.1 0) K (by omega)) (cwV 0 hts gL_law_X6_undo rfl rfl rfl (by decide +kernel) ⟨Nat.le_of_ble_eq_true rfl, Nat.le_of_ble_eq_true rfl⟩) hK hP0 hD0 hS 0 rfl rfl (Eq.refl [hv, u.1 4, u.1 11, u.2.1 2 ((ix + 9) % 10), u.2.2.1 ((ix + 9) % 10) 1, u.2.2.1 ((ix + 9) % 10) 2, u.2.2.1 ((ix + 9) % 10) 3, u.2.2.1 ((ix + 9) % 10) 4, u.2.2.1 ((ix + 9) % 10) 5, u.2.2.1 ((ix + 9) % 10) 6, u.2.2.1 ((ix + 9) % 10) 7, u.1 2, u.2.1 0 1, u.2.1 0 2, u.2.1 0 3, u.2.1 0 4, u.2.1 0 5, u.2.1 0 6, u.2.1 0 7]) rfl hl.1 rfl (Nat.le_of_ble_eq_true rfl) dL_law_533 hce (fun H locs hP1 hD1 hS => ?_)
    show W _ _ _ _ _ _ _ _ _ _ _ _ _ _ _ (F0 _ _ _ (.int (iZ (rUndo ((z : Nat) : Int))) :: []))
    rw [decide_eq_true (show ((z : Nat) : Int) ≠ 0 by omega), cond_true, cond_true, cond_true, show ((z : Nat) : Int) - 1 = ((z - 1 : Nat) : Int) by omega] at hP1 hD1
    have pmb := lw_back (ch := lwC Y hv g9 u af tx ln pl su tk nu K Kto Kt ix z E C M T n9 tr tr kp Ki Kk F A) (ch' := lwC Y hv g9 u af tx ln pl su tk nu (Kk ((ix + 9) % 10)) Kto Kt ((ix + 9) % 10) (z - 1) E C M T n9 tr tr kp Ki Kk F A) (ps := [0, 4, ((ix + 9) % 10) + 15, 2]) (pm_op ((ix + 9) % 10) (Nat.mod_lt _ (by decide))) (rs_un Y hv g9 u af tx ln pl su tk nu K Kto Kt ix z E C M T n9 tr tr kp Ki Kk F A (Kk ((ix + 9) % 10)) (((ix + 9) % 10)) (z - 1) ((ix + 9) % 10) (Nat.mod_lt _ (by decide))) (w := svO Y hv (u.1 1) (u.1 2) (u.1 3) (u.1 4) (u.1 5) (u.1 6) (u.1 7) (u.1 8) (u.1 9) ++ (paW Y (u.1 4) (u.1 11) (u.2.1 2) ((((ix + 9) % 10) : Nat) : Int) ((z - 1 : Nat) : Int) ++ (cmW Y (u.2.1 2 ((ix + 9) % 10)) (u.2.2.1 ((ix + 9) % 10)) (Kk ((ix + 9) % 10)) ++ cmW Y (u.1 2) (u.2.1 0) (Kk ((ix + 9) % 10))))) (rfl)
    replace hP : va_P G vwCl (lwF (lwC Y hv g9 u af tx ln pl su tk nu (Kk ((ix + 9) % 10)) Kto Kt ((ix + 9) % 10) (z - 1) E C M T n9 tr tr kp Ki Kk F A)) H := va_P_pm pmb hP1
    replace hD : va_D _ (lwF (lwC Y hv g9 u af tx ln pl su tk nu (Kk ((ix + 9) % 10)) Kto Kt ((ix + 9) % 10) (z - 1) E C M T n9 tr tr kp Ki Kk F A)) := va_D_pm pmb hD1
    clear pmb hP1 hD1 hP0 hD0
    refine lv_aload_n hx hb dL_law_536 rfl (lv_at hl 2 rfl) ?_
    have hP0 := va_P_pm (lw_pm (lwC Y hv g9 u af tx ln pl su tk nu (Kk ((ix + 9) % 10)) Kto Kt ((ix + 9) % 10) (z - 1) E C M T n9 tr tr kp Ki Kk F A) (ps := [12]) (by decide)) hP
    have hD0 := va_D_pm (lw_pm (lwC Y hv g9 u af tx ln pl su tk nu (Kk ((ix + 9) % 10)) Kto Kt ((ix + 9) % 10) (z - 1) E C M T n9 tr tr kp Ki Kk F A) (ps := [12]) (by decide)) hD
    refine mu_V (As := []) (rest := [.int (iZ (rUndo ((z : Nat) : Int)))]) (F := lwR [12] (lwC Y hv g9 u af tx ln pl su tk nu (Kk ((ix + 9) % 10)) Kto Kt ((ix + 9) % 10) (z - 1) E C M T n9 tr tr kp Ki Kk F A)) (wc' := moW Y g9 af (bif decide (F 22 ≠ 0) then va_up F 22 (F 22 - 1) else F) (bif decide (F 22 ≠ 0) then va_up A 17 (va_cpy (A 21) (A 17) (36 * (F 22 - 1)).toNat 0 36) else A) tr) ⟨hx, hb, hml, hown, hts⟩ (c_X7_undo l G Y g9 af F A tr (by omega)) (cwV 0 hts gL_law_X7_undo rfl rfl rfl (by decide +kernel) ⟨Nat.le_of_ble_eq_true rfl, Nat.le_of_ble_eq_true rfl⟩) hK hP0 hD0 hS 0 rfl rfl (Eq.refl [g9, af 1, af 11, af 12, af 16, af 17, af 18, af 19, af 20, af 21, af 24]) rfl hl.1 rfl (Nat.le_of_ble_eq_true rfl) dL_law_537 hce (fun H locs hP1 hD1 hS => ?_)
    show W _ _ _ _ _ _ _ _ _ _ _ _ _ _ _ (F0 _ _ _ (.int (iZ (rUndo (F 22))) :: [.int (iZ (rUndo ((z : Nat) : Int)))]))
    rw [decide_eq_true (show F 22 ≠ 0 by omega), cond_true, cond_true] at hP1 hD1
    have pmb := lw_back (ch := lwC Y hv g9 u af tx ln pl su tk nu (Kk ((ix + 9) % 10)) Kto Kt ((ix + 9) % 10) (z - 1) E C M T n9 tr tr kp Ki Kk F A) (ch' := lwC Y hv g9 u af tx ln pl su tk nu (Kk ((ix + 9) % 10)) Kto Kt ((ix + 9) % 10) (z - 1) E C M T n9 tr tr kp Ki Kk (va_up F 22 (F 22 - 1)) (va_up A 17 (va_cpy (A 21) (A 17) (36 * (F 22 - 1)).toNat 0 36))) (ps := [12]) (by decide) (rfl) (w := moW Y g9 af (va_up F 22 (F 22 - 1)) (va_up A 17 (va_cpy (A 21) (A 17) (36 * (F 22 - 1)).toNat 0 36)) tr) (rfl)
    replace hP : va_P G vwCl (lwF (lwC Y hv g9 u af tx ln pl su tk nu (Kk ((ix + 9) % 10)) Kto Kt ((ix + 9) % 10) (z - 1) E C M T n9 tr tr kp Ki Kk (va_up F 22 (F 22 - 1)) (va_up A 17 (va_cpy (A 21) (A 17) (36 * (F 22 - 1)).toNat 0 36)))) H := va_P_pm pmb hP1
    replace hD : va_D _ (lwF (lwC Y hv g9 u af tx ln pl su tk nu (Kk ((ix + 9) % 10)) Kto Kt ((ix + 9) % 10) (z - 1) E C M T n9 tr tr kp Ki Kk (va_up F 22 (F 22 - 1)) (va_up A 17 (va_cpy (A 21) (A 17) (36 * (F 22 - 1)).toNat 0 36)))) := va_D_pm pmb hD1
    clear pmb hP1 hD1 hP0 hD0
    refine z_cmpeq (tgt := 990) hx hb (by rw [i422]) dL_law_540 (by decide) ?_
    exact kk tx ln pl su tk nu (Kk ((ix + 9) % 10)) Kto Kt ((ix + 9) % 10) (z - 1) E C M T n9 tr kp Ki Kk (va_up F 22 (F 22 - 1)) (va_up A 17 (va_cpy (A 21) (A 17) (36 * (F 22 - 1)).toNat 0 36)) H locs (lwI_undo hI hc) ⟨hP, hD, hS⟩
  · skip
    refine lv_aload_n hx hb dL_law_532 rfl (lv_at hl 1 rfl) ?_
    have hP0 := va_P_pm (lw_pm (lwC Y hv g9 u af tx ln pl su tk nu K Kto Kt ix z E C M T n9 tr tr kp Ki Kk F A) (ps := [0, 4, ((ix + 9) % 10) + 15, 2]) (pm_op ((ix + 9) % 10) (Nat.mod_lt _ (by decide)))) hP
    have hD0 := va_D_pm (lw_pm (lwC Y hv g9 u af tx ln pl su tk nu K Kto Kt ix z E C M T n9 tr tr kp Ki Kk F A) (ps := [0, 4, ((ix + 9) % 10) + 15, 2]) (pm_op ((ix + 9) % 10) (Nat.mod_lt _ (by decide)))) hD
    refine mu_V (As := []) (rest := []) (F := lwR [0, 4, ((ix + 9) % 10) + 15, 2] (lwC Y hv g9 u af tx ln pl su tk nu K Kto Kt ix z E C M T n9 tr tr kp Ki Kk F A)) (wc' := svO Y hv (u.1 1) (u.1 2) (u.1 3) (u.1 4) (u.1 5) (u.1 6) (u.1 7) (u.1 8) (u.1 9) ++ (paW Y (u.1 4) (u.1 11) (u.2.1 2) (bif decide (((z : Nat) : Int) ≠ 0) then ((((ix + 9) % 10) : Nat) : Int) else ((ix : Nat) : Int)) (bif decide (((z : Nat) : Int) ≠ 0) then ((z : Nat) : Int) - 1 else ((z : Nat) : Int)) ++ (cmW Y (u.2.1 2 ((ix + 9) % 10)) (u.2.2.1 ((ix + 9) % 10)) (Kk ((ix + 9) % 10)) ++ cmW Y (u.1 2) (u.2.1 0) (bif decide (((z : Nat) : Int) ≠ 0) then Kk ((ix + 9) % 10) else K)))) ⟨hx, hb, hml, hown, hts⟩ (c_X6_undo l G Y hv (u.1 1) (u.1 2) (u.1 3) (u.1 4) (u.1 5) (u.1 6) (u.1 7) (u.1 8) (u.1 9) (u.1 11) (u.2.1 2) ((ix : Nat) : Int) ((z : Nat) : Int) ((ix + 9) % 10) (u.2.2.1 ((ix + 9) % 10)) (Kk ((ix + 9) % 10)) (fun q => (i4.2.2.2 0 (by omega)).2.1) (u.2.1 0) K (by omega)) (cwV 0 hts gL_law_X6_undo rfl rfl rfl (by decide +kernel) ⟨Nat.le_of_ble_eq_true rfl, Nat.le_of_ble_eq_true rfl⟩) hK hP0 hD0 hS 0 rfl rfl (Eq.refl [hv, u.1 4, u.1 11, u.2.1 2 ((ix + 9) % 10), u.2.2.1 ((ix + 9) % 10) 1, u.2.2.1 ((ix + 9) % 10) 2, u.2.2.1 ((ix + 9) % 10) 3, u.2.2.1 ((ix + 9) % 10) 4, u.2.2.1 ((ix + 9) % 10) 5, u.2.2.1 ((ix + 9) % 10) 6, u.2.2.1 ((ix + 9) % 10) 7, u.1 2, u.2.1 0 1, u.2.1 0 2, u.2.1 0 3, u.2.1 0 4, u.2.1 0 5, u.2.1 0 6, u.2.1 0 7]) rfl hl.1 rfl (Nat.le_of_ble_eq_true rfl) dL_law_533 hce (fun H locs hP1 hD1 hS => ?_)
    show W _ _ _ _ _ _ _ _ _ _ _ _ _ _ _ (F0 _ _ _ (.int (iZ (rUndo ((z : Nat) : Int))) :: []))
    rw [decide_eq_false (show ¬ ((z : Nat) : Int) ≠ 0 by omega), cond_false, cond_false, cond_false] at hP1 hD1
    have pmb := lw_back (ch := lwC Y hv g9 u af tx ln pl su tk nu K Kto Kt ix z E C M T n9 tr tr kp Ki Kk F A) (ch' := lwC Y hv g9 u af tx ln pl su tk nu K Kto Kt ix z E C M T n9 tr tr kp Ki Kk F A) (ps := [0, 4, ((ix + 9) % 10) + 15, 2]) (pm_op ((ix + 9) % 10) (Nat.mod_lt _ (by decide))) (rfl) (w := svO Y hv (u.1 1) (u.1 2) (u.1 3) (u.1 4) (u.1 5) (u.1 6) (u.1 7) (u.1 8) (u.1 9) ++ (paW Y (u.1 4) (u.1 11) (u.2.1 2) ((ix : Nat) : Int) ((z : Nat) : Int) ++ (cmW Y (u.2.1 2 ((ix + 9) % 10)) (u.2.2.1 ((ix + 9) % 10)) (Kk ((ix + 9) % 10)) ++ cmW Y (u.1 2) (u.2.1 0) K))) (rfl)
    replace hP : va_P G vwCl (lwF (lwC Y hv g9 u af tx ln pl su tk nu K Kto Kt ix z E C M T n9 tr tr kp Ki Kk F A)) H := va_P_pm pmb hP1
    replace hD : va_D _ (lwF (lwC Y hv g9 u af tx ln pl su tk nu K Kto Kt ix z E C M T n9 tr tr kp Ki Kk F A)) := va_D_pm pmb hD1
    clear pmb hP1 hD1 hP0 hD0
    refine lv_aload_n hx hb dL_law_536 rfl (lv_at hl 2 rfl) ?_
    have hP0 := va_P_pm (lw_pm (lwC Y hv g9 u af tx ln pl su tk nu K Kto Kt ix z E C M T n9 tr tr kp Ki Kk F A) (ps := [12]) (by decide)) hP
    have hD0 := va_D_pm (lw_pm (lwC Y hv g9 u af tx ln pl su tk nu K Kto Kt ix z E C M T n9 tr tr kp Ki Kk F A) (ps := [12]) (by decide)) hD
    refine mu_V (As := []) (rest := [.int (iZ (rUndo ((z : Nat) : Int)))]) (F := lwR [12] (lwC Y hv g9 u af tx ln pl su tk nu K Kto Kt ix z E C M T n9 tr tr kp Ki Kk F A)) (wc' := moW Y g9 af (bif decide (F 22 ≠ 0) then va_up F 22 (F 22 - 1) else F) (bif decide (F 22 ≠ 0) then va_up A 17 (va_cpy (A 21) (A 17) (36 * (F 22 - 1)).toNat 0 36) else A) tr) ⟨hx, hb, hml, hown, hts⟩ (c_X7_undo l G Y g9 af F A tr (by omega)) (cwV 0 hts gL_law_X7_undo rfl rfl rfl (by decide +kernel) ⟨Nat.le_of_ble_eq_true rfl, Nat.le_of_ble_eq_true rfl⟩) hK hP0 hD0 hS 0 rfl rfl (Eq.refl [g9, af 1, af 11, af 12, af 16, af 17, af 18, af 19, af 20, af 21, af 24]) rfl hl.1 rfl (Nat.le_of_ble_eq_true rfl) dL_law_537 hce (fun H locs hP1 hD1 hS => ?_)
    show W _ _ _ _ _ _ _ _ _ _ _ _ _ _ _ (F0 _ _ _ (.int (iZ (rUndo (F 22))) :: [.int (iZ (rUndo ((z : Nat) : Int)))]))
    rw [decide_eq_false (show ¬ F 22 ≠ 0 by omega), cond_false, cond_false] at hP1 hD1
    have pmb := lw_back (ch := lwC Y hv g9 u af tx ln pl su tk nu K Kto Kt ix z E C M T n9 tr tr kp Ki Kk F A) (ch' := lwC Y hv g9 u af tx ln pl su tk nu K Kto Kt ix z E C M T n9 tr tr kp Ki Kk F A) (ps := [12]) (by decide) (rfl) (w := moW Y g9 af F A tr) (rfl)
    replace hP : va_P G vwCl (lwF (lwC Y hv g9 u af tx ln pl su tk nu K Kto Kt ix z E C M T n9 tr tr kp Ki Kk F A)) H := va_P_pm pmb hP1
    replace hD : va_D _ (lwF (lwC Y hv g9 u af tx ln pl su tk nu K Kto Kt ix z E C M T n9 tr tr kp Ki Kk F A)) := va_D_pm pmb hD1
    clear pmb hP1 hD1 hP0 hD0
    refine z_cmpeq (tgt := 990) hx hb (by rw [i422]) dL_law_540 (by decide) ?_
    exact kk tx ln pl su tk nu K Kto Kt ix z E C M T n9 tr kp Ki Kk F A H locs (hI) ⟨hP, hD, hS⟩

set_option maxHeartbeats 4000000 in
set_option maxRecDepth 100000 in
theorem lc_movers {p : Program} {l : Launch} {e : Env} {s : State} {m : MethodId} {below : List Frame} {meth : Method} {c : Code} {H : Heap} {locs : List Loc} {cells slots : Nat} {Q : State → Prop} {G : va_G} {Y : Nat → ClassId} {b L : Nat} {xs : Nat → Int32} (X : lwX p s m meth c b L xs G Y) (hce : cells ≤ 600000 ∧ slots ≤ 7302249) {hv g9 : Nat} {u : svU} {af : Nat → Nat} {i : Nat} (hi : i + 4 ≤ L) {ls : Array Slot} (hl : lv_has ls 4 [(0, .ref b), (1, .ref hv), (2, .ref g9), (3, .int (iZ ((i : Nat) : Int)))]) {tx : Nat → Int} {ln : Nat} {pl : Nat} {su : Bool} {tk : Nat} {nu : Int} {K : Kom} {Kto : Kom} {Kt : Kom} {ix : Nat} {z : Nat} {E : Nat → Int} {C : Nat → Int} {M : Nat → Int} {T : Nat → Int} {n9 : Int} {tr : Int64} {kp : Nat → Int} {Ki : Nat → Kom} {Kk : Nat → Kom} {F : Nat → Int} {A : Kom} (hI : lwI tx ln tk K Kto ix z M T n9 kp Ki Kk F A) (hH : lwH G s (lwC Y hv g9 u af tx ln pl su tk nu K Kto Kt ix z E C M T n9 tr tr kp Ki Kk F A) H locs) (kk : lwK p l e s m below meth c cells slots Q G Y b hv g9 u af ls) : W p l e room_1 s m #[Value.ref b] below meth c H locs cells slots Q (F0 m 545 ls []) := by
  obtain ⟨hx, hb, hml, hown, hts, hX, hK⟩ := X
  obtain ⟨hP, hD, hS⟩ := hH
  have hbA : ¬ (fun q : Nat => s.heap.size ≤ q) b := Nat.not_le.mpr hX.2.1
  have i1 := hI.1
  have i2 := hI.2.1
  have i3 := hI.2.2.1
  have i4 := hI.2.2.2.1
  have i5 := hI.2.2.2.2.1
  have i6 := hI.2.2.2.2.2
  have hW := i2.1
  have hE := i2.2.1
  have hV := i2.2.2.1
  have h26 := i2.2.2.2
  have hno : F 26 < 0 := by omega
  have hKb := hW.1
  have hvb := mV_b hV
  have hk2 : K 0 2 = A 17 3 := hE.k2
  have hL9 := hX.2.2
  have ra1 := iZ_range (xs (i + 1))
  have ra2 := iZ_range (xs (i + 2))
  refine lv_aload_n hx hb dL_law_545 rfl (lv_at hl 1 rfl) ?_
  refine lv_aload_n hx hb dL_law_546 rfl (lv_at hl 0 rfl) ?_
  refine lv_iload_n hx hb dL_law_547 rfl (lv_at hl 3 rfl) ?_
  refine z_iconst hx hb dL_law_548 ?_
  refine z_iadd hx hb dL_law_549 ?_
  refine z_sld hx hb hX hbA hS (i + 1) (by omega) dL_law_550 ?_
  refine lv_aload_n hx hb dL_law_551 rfl (lv_at hl 0 rfl) ?_
  refine lv_iload_n hx hb dL_law_552 rfl (lv_at hl 3 rfl) ?_
  refine z_iconst hx hb dL_law_553 ?_
  refine z_iadd hx hb dL_law_554 ?_
  refine z_sld hx hb hX hbA hS (i + 2) (by omega) dL_law_555 ?_
  have hP0 := va_P_pm (lw_pm (lwC Y hv g9 u af tx ln pl su tk nu K Kto Kt ix z E C M T n9 tr tr kp Ki Kk F A) (ps := [0, 5, 6, 2]) (by decide)) hP
  have hD0 := va_D_pm (lw_pm (lwC Y hv g9 u af tx ln pl su tk nu K Kto Kt ix z E C M T n9 tr tr kp Ki Kk F A) (ps := [0, 5, 6, 2]) (by decide)) hD
  refine eu_V (As := [.int (iZ (xs (i + 1)).toInt), .int (iZ (xs (i + 2)).toInt)]) (rest := []) (F := lwR [0, 5, 6, 2] (lwC Y hv g9 u af tx ln pl su tk nu K Kto Kt ix z E C M T n9 tr tr kp Ki Kk F A)) (W1 := (fun v => svO Y hv (u.1 1) (u.1 2) (u.1 3) (u.1 4) (u.1 5) (u.1 6) (u.1 7) (u.1 8) (u.1 9) ++ (quW Y (u.1 5) (u.1 12) (u.1 13) (u.1 14) (v 0) (v 1) ++ cmW Y (u.1 2) (u.2.1 0) K))) (wc := svO Y hv (u.1 1) (u.1 2) (u.1 3) (u.1 4) (u.1 5) (u.1 6) (u.1 7) (u.1 8) (u.1 9) ++ (quW Y (u.1 5) (u.1 12) (u.1 13) (u.1 14) E C ++ cmW Y (u.1 2) (u.2.1 0) K)) ⟨hx, hb, hml, hown, hts⟩ (c_X6_movers l G Y hv (u.1 1) (u.1 2) (u.1 3) (u.1 4) (u.1 5) (u.1 6) (u.1 7) (u.1 8) (u.1 9) (u.1 12) (u.1 13) (u.1 14) E C (u.2.1 0) K hW (xs (i + 1)).toInt (xs (i + 2)).toInt ⟨ra1, ra2⟩) (cwV 2 hts gL_law_X6_movers rfl rfl rfl (by decide +kernel) ⟨Nat.le_of_ble_eq_true rfl, Nat.le_of_ble_eq_true rfl⟩) hK hP0 hD0 hS 0 rfl rfl (fun _ => Eq.refl [hv, u.1 5, u.1 13, u.1 14, u.1 2, u.2.1 0 1, u.2.1 0 2, u.2.1 0 3, u.2.1 0 4, u.2.1 0 5, u.2.1 0 6, u.2.1 0 7]) rfl hl.1 rfl (Nat.le_of_ble_eq_true rfl) dL_law_556 hce (fun u9 H locs hP1 hD1 hS => ?_)
  show W _ _ _ _ _ _ _ _ _ _ _ _ _ _ _ (F0 _ _ _ (.int (iZ (rMovers K (xs (i + 1)).toInt (xs (i + 2)).toInt)) :: []))
  have pmb := lw_back (ch := lwC Y hv g9 u af tx ln pl su tk nu K Kto Kt ix z E C M T n9 tr tr kp Ki Kk F A) (ch' := lwC Y hv g9 u af tx ln pl su tk nu K Kto Kt ix z (u9 0) (u9 1) M T n9 tr tr kp Ki Kk F A) (ps := [0, 5, 6, 2]) (by decide) (rfl) (w := svO Y hv (u.1 1) (u.1 2) (u.1 3) (u.1 4) (u.1 5) (u.1 6) (u.1 7) (u.1 8) (u.1 9) ++ (quW Y (u.1 5) (u.1 12) (u.1 13) (u.1 14) (u9 0) (u9 1) ++ cmW Y (u.1 2) (u.2.1 0) K)) (rfl)
  replace hP : va_P G vwCl (lwF (lwC Y hv g9 u af tx ln pl su tk nu K Kto Kt ix z (u9 0) (u9 1) M T n9 tr tr kp Ki Kk F A)) H := va_P_pm pmb hP1
  replace hD : va_D _ (lwF (lwC Y hv g9 u af tx ln pl su tk nu K Kto Kt ix z (u9 0) (u9 1) M T n9 tr tr kp Ki Kk F A)) := va_D_pm pmb hD1
  clear pmb hP1 hD1 hP0 hD0
  refine lv_aload_n hx hb dL_law_559 rfl (lv_at hl 2 rfl) ?_
  refine lv_aload_n hx hb dL_law_560 rfl (lv_at hl 0 rfl) ?_
  refine lv_iload_n hx hb dL_law_561 rfl (lv_at hl 3 rfl) ?_
  refine z_iconst hx hb dL_law_562 ?_
  refine z_iadd hx hb dL_law_563 ?_
  refine z_sld hx hb hX hbA hS (i + 1) (by omega) dL_law_564 ?_
  refine lv_aload_n hx hb dL_law_565 rfl (lv_at hl 0 rfl) ?_
  refine lv_iload_n hx hb dL_law_566 rfl (lv_at hl 3 rfl) ?_
  refine z_iconst hx hb dL_law_567 ?_
  refine z_iadd hx hb dL_law_568 ?_
  refine z_sld hx hb hX hbA hS (i + 2) (by omega) dL_law_569 ?_
  have hPc := va_P_l (va_P_pm (lw_pm (lwC Y hv g9 u af tx ln pl su tk nu K Kto Kt ix z (u9 0) (u9 1) M T n9 tr tr kp Ki Kk F A) (ps := [12]) (by decide)) hP)
  refine ro_V (As := [.int (iZ (xs (i + 1)).toInt), .int (iZ (xs (i + 2)).toInt)]) (rest := [.int (iZ (rMovers K (xs (i + 1)).toInt (xs (i + 2)).toInt))]) ⟨hx, hb, hml, hown, hts⟩ (c_X7_movers l G Y g9 af F A tr hV hno (xs (i + 1)).toInt (xs (i + 2)).toInt ⟨ra1, ra2⟩) (cwV 2 hts gL_law_X7_movers rfl rfl rfl (by decide +kernel) ⟨Nat.le_of_ble_eq_true rfl, Nat.le_of_ble_eq_true rfl⟩) hK hPc 0 rfl rfl rfl hl.1 rfl (Nat.le_of_ble_eq_true rfl) dL_law_570 hce ?_
  refine z_cmpeq (tgt := 990) hx hb ((xMov_eq hV.1 _ _).trans (rMovers_c hE _ _).symm) dL_law_573 (by decide) ?_
  exact kk tx ln pl su tk nu K Kto Kt ix z (u9 0) (u9 1) M T n9 tr kp Ki Kk F A H locs (hI) ⟨hP, hD, hS⟩

set_option maxHeartbeats 4000000 in
set_option maxRecDepth 100000 in
theorem lc_odds {p : Program} {l : Launch} {e : Env} {s : State} {m : MethodId} {below : List Frame} {meth : Method} {c : Code} {H : Heap} {locs : List Loc} {cells slots : Nat} {Q : State → Prop} {G : va_G} {Y : Nat → ClassId} {b L : Nat} {xs : Nat → Int32} (X : lwX p s m meth c b L xs G Y) (hce : cells ≤ 600000 ∧ slots ≤ 7302249) {hv g9 : Nat} {u : svU} {af : Nat → Nat} {i : Nat} (hi : i + 4 ≤ L) {ls : Array Slot} (hl : lv_has ls 4 [(0, .ref b), (1, .ref hv), (2, .ref g9), (3, .int (iZ ((i : Nat) : Int)))]) {tx : Nat → Int} {ln : Nat} {pl : Nat} {su : Bool} {tk : Nat} {nu : Int} {K : Kom} {Kto : Kom} {Kt : Kom} {ix : Nat} {z : Nat} {E : Nat → Int} {C : Nat → Int} {M : Nat → Int} {T : Nat → Int} {n9 : Int} {tr : Int64} {kp : Nat → Int} {Ki : Nat → Kom} {Kk : Nat → Kom} {F : Nat → Int} {A : Kom} (hI : lwI tx ln tk K Kto ix z M T n9 kp Ki Kk F A) (hH : lwH G s (lwC Y hv g9 u af tx ln pl su tk nu K Kto Kt ix z E C M T n9 tr tr kp Ki Kk F A) H locs) (kk : lwK p l e s m below meth c cells slots Q G Y b hv g9 u af ls) : W p l e room_1 s m #[Value.ref b] below meth c H locs cells slots Q (F0 m 762 ls []) := by
  obtain ⟨hx, hb, hml, hown, hts, hX, hK⟩ := X
  obtain ⟨hP, hD, hS⟩ := hH
  have hbA : ¬ (fun q : Nat => s.heap.size ≤ q) b := Nat.not_le.mpr hX.2.1
  have i1 := hI.1
  have i2 := hI.2.1
  have i3 := hI.2.2.1
  have i4 := hI.2.2.2.1
  have i5 := hI.2.2.2.2.1
  have i6 := hI.2.2.2.2.2
  have hW := i2.1
  have hE := i2.2.1
  have hV := i2.2.2.1
  have h26 := i2.2.2.2
  have hno : F 26 < 0 := by omega
  have hKb := hW.1
  have hvb := mV_b hV
  have hk2 : K 0 2 = A 17 3 := hE.k2
  have hL9 := hX.2.2
  have ra1 := iZ_range (xs (i + 1))
  have ra2 := iZ_range (xs (i + 2))
  have ra3 := iZ_range (xs (i + 3))
  refine lv_aload_n hx hb dL_law_762 rfl (lv_at hl 1 rfl) ?_
  refine lv_aload_n hx hb dL_law_763 rfl (lv_at hl 0 rfl) ?_
  refine lv_iload_n hx hb dL_law_764 rfl (lv_at hl 3 rfl) ?_
  refine z_iconst hx hb dL_law_765 ?_
  refine z_iadd hx hb dL_law_766 ?_
  refine z_sld hx hb hX hbA hS (i + 1) (by omega) dL_law_767 ?_
  refine lv_aload_n hx hb dL_law_768 rfl (lv_at hl 0 rfl) ?_
  refine lv_iload_n hx hb dL_law_769 rfl (lv_at hl 3 rfl) ?_
  refine z_iconst hx hb dL_law_770 ?_
  refine z_iadd hx hb dL_law_771 ?_
  refine z_sld hx hb hX hbA hS (i + 2) (by omega) dL_law_772 ?_
  refine lv_aload_n hx hb dL_law_773 rfl (lv_at hl 0 rfl) ?_
  refine lv_iload_n hx hb dL_law_774 rfl (lv_at hl 3 rfl) ?_
  refine z_iconst hx hb dL_law_775 ?_
  refine z_iadd hx hb dL_law_776 ?_
  refine z_sld hx hb hX hbA hS (i + 3) (by omega) dL_law_777 ?_
  have hP0 := va_P_pm (lw_pm (lwC Y hv g9 u af tx ln pl su tk nu K Kto Kt ix z E C M T n9 tr tr kp Ki Kk F A) (ps := [0, 5, 6, 2]) (by decide)) hP
  have hD0 := va_D_pm (lw_pm (lwC Y hv g9 u af tx ln pl su tk nu K Kto Kt ix z E C M T n9 tr tr kp Ki Kk F A) (ps := [0, 5, 6, 2]) (by decide)) hD
  refine eu_V (As := [.int (iZ (xs (i + 1)).toInt), .int (iZ (xs (i + 2)).toInt), .int (iZ (xs (i + 3)).toInt)]) (rest := []) (F := lwR [0, 5, 6, 2] (lwC Y hv g9 u af tx ln pl su tk nu K Kto Kt ix z E C M T n9 tr tr kp Ki Kk F A)) (W1 := (fun v => svO Y hv (u.1 1) (u.1 2) (u.1 3) (u.1 4) (u.1 5) (u.1 6) (u.1 7) (u.1 8) (u.1 9) ++ (quW Y (u.1 5) (u.1 12) (u.1 13) (u.1 14) (v 0) (v 1) ++ cmW Y (u.1 2) (u.2.1 0) K))) (wc := svO Y hv (u.1 1) (u.1 2) (u.1 3) (u.1 4) (u.1 5) (u.1 6) (u.1 7) (u.1 8) (u.1 9) ++ (quW Y (u.1 5) (u.1 12) (u.1 13) (u.1 14) E C ++ cmW Y (u.1 2) (u.2.1 0) K)) ⟨hx, hb, hml, hown, hts⟩ (c_X6_odds l G Y hv (u.1 1) (u.1 2) (u.1 3) (u.1 4) (u.1 5) (u.1 6) (u.1 7) (u.1 8) (u.1 9) (u.1 12) (u.1 13) (u.1 14) E C (u.2.1 0) K hW (xs (i + 1)).toInt (xs (i + 2)).toInt (xs (i + 3)).toInt ⟨⟨ra1, ra2⟩, ra3⟩) (cwV 3 hts gL_law_X6_odds rfl rfl rfl (by decide +kernel) ⟨Nat.le_of_ble_eq_true rfl, Nat.le_of_ble_eq_true rfl⟩) hK hP0 hD0 hS 0 rfl rfl (fun _ => Eq.refl [hv, u.1 5, u.1 13, u.1 14, u.1 2, u.2.1 0 1, u.2.1 0 2, u.2.1 0 3, u.2.1 0 4, u.2.1 0 5, u.2.1 0 6, u.2.1 0 7]) rfl hl.1 rfl (Nat.le_of_ble_eq_true rfl) dL_law_778 hce (fun u9 H locs hP1 hD1 hS => ?_)
  show W _ _ _ _ _ _ _ _ _ _ _ _ _ _ _ (F0 _ _ _ (.int (iZ (rOdds K (xs (i + 1)).toInt (xs (i + 2)).toInt (xs (i + 3)).toInt)) :: []))
  have pmb := lw_back (ch := lwC Y hv g9 u af tx ln pl su tk nu K Kto Kt ix z E C M T n9 tr tr kp Ki Kk F A) (ch' := lwC Y hv g9 u af tx ln pl su tk nu K Kto Kt ix z (u9 0) (u9 1) M T n9 tr tr kp Ki Kk F A) (ps := [0, 5, 6, 2]) (by decide) (rfl) (w := svO Y hv (u.1 1) (u.1 2) (u.1 3) (u.1 4) (u.1 5) (u.1 6) (u.1 7) (u.1 8) (u.1 9) ++ (quW Y (u.1 5) (u.1 12) (u.1 13) (u.1 14) (u9 0) (u9 1) ++ cmW Y (u.1 2) (u.2.1 0) K)) (rfl)
  replace hP : va_P G vwCl (lwF (lwC Y hv g9 u af tx ln pl su tk nu K Kto Kt ix z (u9 0) (u9 1) M T n9 tr tr kp Ki Kk F A)) H := va_P_pm pmb hP1
  replace hD : va_D _ (lwF (lwC Y hv g9 u af tx ln pl su tk nu K Kto Kt ix z (u9 0) (u9 1) M T n9 tr tr kp Ki Kk F A)) := va_D_pm pmb hD1
  clear pmb hP1 hD1 hP0 hD0
  refine lv_aload_n hx hb dL_law_781 rfl (lv_at hl 2 rfl) ?_
  refine lv_aload_n hx hb dL_law_782 rfl (lv_at hl 0 rfl) ?_
  refine lv_iload_n hx hb dL_law_783 rfl (lv_at hl 3 rfl) ?_
  refine z_iconst hx hb dL_law_784 ?_
  refine z_iadd hx hb dL_law_785 ?_
  refine z_sld hx hb hX hbA hS (i + 1) (by omega) dL_law_786 ?_
  refine lv_aload_n hx hb dL_law_787 rfl (lv_at hl 0 rfl) ?_
  refine lv_iload_n hx hb dL_law_788 rfl (lv_at hl 3 rfl) ?_
  refine z_iconst hx hb dL_law_789 ?_
  refine z_iadd hx hb dL_law_790 ?_
  refine z_sld hx hb hX hbA hS (i + 2) (by omega) dL_law_791 ?_
  refine lv_aload_n hx hb dL_law_792 rfl (lv_at hl 0 rfl) ?_
  refine lv_iload_n hx hb dL_law_793 rfl (lv_at hl 3 rfl) ?_
  refine z_iconst hx hb dL_law_794 ?_
  refine z_iadd hx hb dL_law_795 ?_
  refine z_sld hx hb hX hbA hS (i + 3) (by omega) dL_law_796 ?_
  have hPc := va_P_l (va_P_pm (lw_pm (lwC Y hv g9 u af tx ln pl su tk nu K Kto Kt ix z (u9 0) (u9 1) M T n9 tr tr kp Ki Kk F A) (ps := [12]) (by decide)) hP)
  refine ro_V (As := [.int (iZ (xs (i + 1)).toInt), .int (iZ (xs (i + 2)).toInt), .int (iZ (xs (i + 3)).toInt)]) (rest := [.int (iZ (rOdds K (xs (i + 1)).toInt (xs (i + 2)).toInt (xs (i + 3)).toInt))]) ⟨hx, hb, hml, hown, hts⟩ (c_X7_odds l G Y g9 af F A tr hV hno (xs (i + 1)).toInt (xs (i + 2)).toInt (xs (i + 3)).toInt ⟨⟨ra1, ra2⟩, ra3⟩) (cwV 3 hts gL_law_X7_odds rfl rfl rfl (by decide +kernel) ⟨Nat.le_of_ble_eq_true rfl, Nat.le_of_ble_eq_true rfl⟩) hK hPc 0 rfl rfl rfl hl.1 rfl (Nat.le_of_ble_eq_true rfl) dL_law_797 hce ?_
  refine z_cmpeq (tgt := 990) hx hb ((xOdds_eq hV.1 _ _ _).trans (rOdds_c hE _ _ _).symm) dL_law_800 (by decide) ?_
  exact kk tx ln pl su tk nu K Kto Kt ix z (u9 0) (u9 1) M T n9 tr kp Ki Kk F A H locs (hI) ⟨hP, hD, hS⟩

set_option maxHeartbeats 4000000 in
set_option maxRecDepth 100000 in
theorem lc_prune {p : Program} {l : Launch} {e : Env} {s : State} {m : MethodId} {below : List Frame} {meth : Method} {c : Code} {H : Heap} {locs : List Loc} {cells slots : Nat} {Q : State → Prop} {G : va_G} {Y : Nat → ClassId} {b L : Nat} {xs : Nat → Int32} (X : lwX p s m meth c b L xs G Y) (hce : cells ≤ 600000 ∧ slots ≤ 7302249) {hv g9 : Nat} {u : svU} {af : Nat → Nat} {i : Nat} (hi : i + 4 ≤ L) {ls : Array Slot} (hl : lv_has ls 4 [(0, .ref b), (1, .ref hv), (2, .ref g9), (3, .int (iZ ((i : Nat) : Int)))]) {tx : Nat → Int} {ln : Nat} {pl : Nat} {su : Bool} {tk : Nat} {nu : Int} {K : Kom} {Kto : Kom} {Kt : Kom} {ix : Nat} {z : Nat} {E : Nat → Int} {C : Nat → Int} {M : Nat → Int} {T : Nat → Int} {n9 : Int} {tr : Int64} {kp : Nat → Int} {Ki : Nat → Kom} {Kk : Nat → Kom} {F : Nat → Int} {A : Kom} (hI : lwI tx ln tk K Kto ix z M T n9 kp Ki Kk F A) (hH : lwH G s (lwC Y hv g9 u af tx ln pl su tk nu K Kto Kt ix z E C M T n9 tr tr kp Ki Kk F A) H locs) (kk : lwK p l e s m below meth c cells slots Q G Y b hv g9 u af ls) : W p l e room_1 s m #[Value.ref b] below meth c H locs cells slots Q (F0 m 578 ls []) := by
  obtain ⟨hx, hb, hml, hown, hts, hX, hK⟩ := X
  obtain ⟨hP, hD, hS⟩ := hH
  have hbA : ¬ (fun q : Nat => s.heap.size ≤ q) b := Nat.not_le.mpr hX.2.1
  have i1 := hI.1
  have i2 := hI.2.1
  have i3 := hI.2.2.1
  have i4 := hI.2.2.2.1
  have i5 := hI.2.2.2.2.1
  have i6 := hI.2.2.2.2.2
  have hW := i2.1
  have hE := i2.2.1
  have hV := i2.2.2.1
  have h26 := i2.2.2.2
  have hno : F 26 < 0 := by omega
  have hKb := hW.1
  have hvb := mV_b hV
  have hk2 : K 0 2 = A 17 3 := hE.k2
  have hL9 := hX.2.2
  have ra1 := iZ_range (xs (i + 1))
  refine lv_aload_n hx hb dL_law_578 rfl (lv_at hl 1 rfl) ?_
  refine lv_aload_n hx hb dL_law_579 rfl (lv_at hl 0 rfl) ?_
  refine lv_iload_n hx hb dL_law_580 rfl (lv_at hl 3 rfl) ?_
  refine z_iconst hx hb dL_law_581 ?_
  refine z_iadd hx hb dL_law_582 ?_
  refine z_sld hx hb hX hbA hS (i + 1) (by omega) dL_law_583 ?_
  have hP0 := va_P_pm (lw_pm (lwC Y hv g9 u af tx ln pl su tk nu K Kto Kt ix z E C M T n9 tr tr kp Ki Kk F A) (ps := [0, 5, 7, 2]) (by decide)) hP
  have hD0 := va_D_pm (lw_pm (lwC Y hv g9 u af tx ln pl su tk nu K Kto Kt ix z E C M T n9 tr tr kp Ki Kk F A) (ps := [0, 5, 7, 2]) (by decide)) hD
  refine eu_V (As := [.int (iZ (xs (i + 1)).toInt)]) (rest := []) (F := lwR [0, 5, 7, 2] (lwC Y hv g9 u af tx ln pl su tk nu K Kto Kt ix z E C M T n9 tr tr kp Ki Kk F A)) (W1 := (fun v => svO Y hv (u.1 1) (u.1 2) (u.1 3) (u.1 4) (u.1 5) (u.1 6) (u.1 7) (u.1 8) (u.1 9) ++ (qoW Y (u.1 5) (u.1 12) (u.1 13) (u.1 14) ++ (cmW Y (u.1 12) (u.2.1 3) v ++ cmW Y (u.1 2) (u.2.1 0) K)))) ⟨hx, hb, hml, hown, hts⟩ (c_X6_prune l G Y hv (u.1 1) (u.1 2) (u.1 3) (u.1 4) (u.1 5) (u.1 6) (u.1 7) (u.1 8) (u.1 9) (u.1 12) (u.1 13) (u.1 14) (u.2.1 3) Kt (u.2.1 0) K hW (xs (i + 1)).toInt ra1) (cwV 1 hts gL_law_X6_prune rfl rfl rfl (by decide +kernel) ⟨Nat.le_of_ble_eq_true rfl, Nat.le_of_ble_eq_true rfl⟩) hK hP0 hD0 hS 0 rfl rfl (fun _ => Eq.refl [hv, u.1 5, u.1 12, u.2.1 3 1, u.2.1 3 2, u.2.1 3 3, u.2.1 3 4, u.2.1 3 5, u.2.1 3 6, u.2.1 3 7, u.1 2, u.2.1 0 1, u.2.1 0 2, u.2.1 0 3, u.2.1 0 4, u.2.1 0 5, u.2.1 0 6, u.2.1 0 7]) rfl hl.1 rfl (Nat.le_of_ble_eq_true rfl) dL_law_584 hce (fun u9 H locs hP1 hD1 hS => ?_)
  show W _ _ _ _ _ _ _ _ _ _ _ _ _ _ _ (F0 _ _ _ (.int (iZ (rPrune K (xs (i + 1)).toInt)) :: []))
  have pmb := lw_back (ch := lwC Y hv g9 u af tx ln pl su tk nu K Kto Kt ix z E C M T n9 tr tr kp Ki Kk F A) (ch' := lwC Y hv g9 u af tx ln pl su tk nu K Kto u9 ix z E C M T n9 tr tr kp Ki Kk F A) (ps := [0, 5, 7, 2]) (by decide) (rfl) (w := svO Y hv (u.1 1) (u.1 2) (u.1 3) (u.1 4) (u.1 5) (u.1 6) (u.1 7) (u.1 8) (u.1 9) ++ (qoW Y (u.1 5) (u.1 12) (u.1 13) (u.1 14) ++ (cmW Y (u.1 12) (u.2.1 3) u9 ++ cmW Y (u.1 2) (u.2.1 0) K))) (rfl)
  replace hP : va_P G vwCl (lwF (lwC Y hv g9 u af tx ln pl su tk nu K Kto u9 ix z E C M T n9 tr tr kp Ki Kk F A)) H := va_P_pm pmb hP1
  replace hD : va_D _ (lwF (lwC Y hv g9 u af tx ln pl su tk nu K Kto u9 ix z E C M T n9 tr tr kp Ki Kk F A)) := va_D_pm pmb hD1
  clear pmb hP1 hD1 hP0 hD0
  refine lv_aload_n hx hb dL_law_587 rfl (lv_at hl 2 rfl) ?_
  refine lv_aload_n hx hb dL_law_588 rfl (lv_at hl 0 rfl) ?_
  refine lv_iload_n hx hb dL_law_589 rfl (lv_at hl 3 rfl) ?_
  refine z_iconst hx hb dL_law_590 ?_
  refine z_iadd hx hb dL_law_591 ?_
  refine z_sld hx hb hX hbA hS (i + 1) (by omega) dL_law_592 ?_
  have hP0 := va_P_pm (lw_pm (lwC Y hv g9 u af tx ln pl su tk nu K Kto u9 ix z E C M T n9 tr tr kp Ki Kk F A) (ps := [12]) (by decide)) hP
  have hD0 := va_D_pm (lw_pm (lwC Y hv g9 u af tx ln pl su tk nu K Kto u9 ix z E C M T n9 tr tr kp Ki Kk F A) (ps := [12]) (by decide)) hD
  refine eu_V (As := [.int (iZ (xs (i + 1)).toInt)]) (rest := [.int (iZ (rPrune K (xs (i + 1)).toInt))]) (F := lwR [12] (lwC Y hv g9 u af tx ln pl su tk nu K Kto u9 ix z E C M T n9 tr tr kp Ki Kk F A)) (W1 := (fun v => moW Y g9 af F (va_up A 18 (v 0)) tr)) ⟨hx, hb, hml, hown, hts⟩ (c_X7_prune l G Y g9 af F A tr hV hno (xs (i + 1)).toInt ra1) (cwV 1 hts gL_law_X7_prune rfl rfl rfl (by decide +kernel) ⟨Nat.le_of_ble_eq_true rfl, Nat.le_of_ble_eq_true rfl⟩) hK hP0 hD0 hS 0 rfl rfl (fun _ => Eq.refl [g9, af 1, af 11, af 12, af 16, af 17, af 18, af 19, af 20, af 21, af 24]) rfl hl.1 rfl (Nat.le_of_ble_eq_true rfl) dL_law_593 hce (fun u8 H locs hP1 hD1 hS => ?_)
  show W _ _ _ _ _ _ _ _ _ _ _ _ _ _ _ (F0 _ _ _ (.int (iZ (rPrune (kF F A (A 17)) (xs (i + 1)).toInt)) :: [.int (iZ (rPrune K (xs (i + 1)).toInt))]))
  have pmb := lw_back (ch := lwC Y hv g9 u af tx ln pl su tk nu K Kto u9 ix z E C M T n9 tr tr kp Ki Kk F A) (ch' := lwC Y hv g9 u af tx ln pl su tk nu K Kto u9 ix z E C M T n9 tr tr kp Ki Kk F (va_up A 18 (u8 0))) (ps := [12]) (by decide) (rfl) (w := moW Y g9 af F (va_up A 18 (u8 0)) tr) (rfl)
  replace hP : va_P G vwCl (lwF (lwC Y hv g9 u af tx ln pl su tk nu K Kto u9 ix z E C M T n9 tr tr kp Ki Kk F (va_up A 18 (u8 0)))) H := va_P_pm pmb hP1
  replace hD : va_D _ (lwF (lwC Y hv g9 u af tx ln pl su tk nu K Kto u9 ix z E C M T n9 tr tr kp Ki Kk F (va_up A 18 (u8 0)))) := va_D_pm pmb hD1
  clear pmb hP1 hD1 hP0 hD0
  refine z_cmpeq (tgt := 990) hx hb ((rPrune_c hE _).symm) dL_law_596 (by decide) ?_
  exact kk tx ln pl su tk nu K Kto u9 ix z E C M T n9 tr kp Ki Kk F (va_up A 18 (u8 0)) H locs (lwI_FA (F' := F) (A' := va_up A 18 (u8 0)) hI rfl rfl rfl rfl rfl rfl h26 rfl i3.2 rfl rfl rfl rfl rfl rfl i1.2.2.1 i3.1) ⟨hP, hD, hS⟩

set_option maxHeartbeats 4000000 in
set_option maxRecDepth 100000 in
theorem lc_suns {p : Program} {l : Launch} {e : Env} {s : State} {m : MethodId} {below : List Frame} {meth : Method} {c : Code} {H : Heap} {locs : List Loc} {cells slots : Nat} {Q : State → Prop} {G : va_G} {Y : Nat → ClassId} {b L : Nat} {xs : Nat → Int32} (X : lwX p s m meth c b L xs G Y) (hce : cells ≤ 600000 ∧ slots ≤ 7302249) {hv g9 : Nat} {u : svU} {af : Nat → Nat} {i : Nat} (hi : i + 4 ≤ L) {ls : Array Slot} (hl : lv_has ls 4 [(0, .ref b), (1, .ref hv), (2, .ref g9), (3, .int (iZ ((i : Nat) : Int)))]) {tx : Nat → Int} {ln : Nat} {pl : Nat} {su : Bool} {tk : Nat} {nu : Int} {K : Kom} {Kto : Kom} {Kt : Kom} {ix : Nat} {z : Nat} {E : Nat → Int} {C : Nat → Int} {M : Nat → Int} {T : Nat → Int} {n9 : Int} {tr : Int64} {kp : Nat → Int} {Ki : Nat → Kom} {Kk : Nat → Kom} {F : Nat → Int} {A : Kom} (hI : lwI tx ln tk K Kto ix z M T n9 kp Ki Kk F A) (hH : lwH G s (lwC Y hv g9 u af tx ln pl su tk nu K Kto Kt ix z E C M T n9 tr tr kp Ki Kk F A) H locs) (kk : lwK p l e s m below meth c cells slots Q G Y b hv g9 u af ls) : W p l e room_1 s m #[Value.ref b] below meth c H locs cells slots Q (F0 m 634 ls []) := by
  obtain ⟨hx, hb, hml, hown, hts, hX, hK⟩ := X
  obtain ⟨hP, hD, hS⟩ := hH
  have hbA : ¬ (fun q : Nat => s.heap.size ≤ q) b := Nat.not_le.mpr hX.2.1
  have i1 := hI.1
  have i2 := hI.2.1
  have i3 := hI.2.2.1
  have i4 := hI.2.2.2.1
  have i5 := hI.2.2.2.2.1
  have i6 := hI.2.2.2.2.2
  have hW := i2.1
  have hE := i2.2.1
  have hV := i2.2.2.1
  have h26 := i2.2.2.2
  have hno : F 26 < 0 := by omega
  have hKb := hW.1
  have hvb := mV_b hV
  have hk2 : K 0 2 = A 17 3 := hE.k2
  have hL9 := hX.2.2
  have ra1 := iZ_range (xs (i + 1))
  refine lv_aload_n hx hb dL_law_634 rfl (lv_at hl 1 rfl) ?_
  refine lv_aload_n hx hb dL_law_635 rfl (lv_at hl 0 rfl) ?_
  refine lv_iload_n hx hb dL_law_636 rfl (lv_at hl 3 rfl) ?_
  refine z_iconst hx hb dL_law_637 ?_
  refine z_iadd hx hb dL_law_638 ?_
  refine z_sld hx hb hX hbA hS (i + 1) (by omega) dL_law_639 ?_
  have hP0 := va_P_pm (lw_pm (lwC Y hv g9 u af tx ln pl su tk nu K Kto Kt ix z E C M T n9 tr tr kp Ki Kk F A) (ps := [0, 5, 7, 2]) (by decide)) hP
  have hD0 := va_D_pm (lw_pm (lwC Y hv g9 u af tx ln pl su tk nu K Kto Kt ix z E C M T n9 tr tr kp Ki Kk F A) (ps := [0, 5, 7, 2]) (by decide)) hD
  refine eu_V (As := [.int (iZ (xs (i + 1)).toInt)]) (rest := []) (F := lwR [0, 5, 7, 2] (lwC Y hv g9 u af tx ln pl su tk nu K Kto Kt ix z E C M T n9 tr tr kp Ki Kk F A)) (W1 := (fun v => svO Y hv (u.1 1) (u.1 2) (u.1 3) (u.1 4) (u.1 5) (u.1 6) (u.1 7) (u.1 8) (u.1 9) ++ (qoW Y (u.1 5) (u.1 12) (u.1 13) (u.1 14) ++ (cmW Y (u.1 12) (u.2.1 3) v ++ cmW Y (u.1 2) (u.2.1 0) K)))) ⟨hx, hb, hml, hown, hts⟩ (c_X6_suns l G Y hv (u.1 1) (u.1 2) (u.1 3) (u.1 4) (u.1 5) (u.1 6) (u.1 7) (u.1 8) (u.1 9) (u.1 12) (u.1 13) (u.1 14) (u.2.1 3) Kt (u.2.1 0) K hW (xs (i + 1)).toInt ra1) (cwV 1 hts gL_law_X6_suns rfl rfl rfl (by decide +kernel) ⟨Nat.le_of_ble_eq_true rfl, Nat.le_of_ble_eq_true rfl⟩) hK hP0 hD0 hS 0 rfl rfl (fun _ => Eq.refl [hv, u.1 5, u.1 12, u.2.1 3 1, u.2.1 3 2, u.2.1 3 3, u.2.1 3 4, u.2.1 3 5, u.2.1 3 6, u.2.1 3 7, u.1 2, u.2.1 0 1, u.2.1 0 2, u.2.1 0 3, u.2.1 0 4, u.2.1 0 5, u.2.1 0 6, u.2.1 0 7]) rfl hl.1 rfl (Nat.le_of_ble_eq_true rfl) dL_law_640 hce (fun u9 H locs hP1 hD1 hS => ?_)
  show W _ _ _ _ _ _ _ _ _ _ _ _ _ _ _ (F0 _ _ _ (.int (iZ (rSuns K (xs (i + 1)).toInt)) :: []))
  have pmb := lw_back (ch := lwC Y hv g9 u af tx ln pl su tk nu K Kto Kt ix z E C M T n9 tr tr kp Ki Kk F A) (ch' := lwC Y hv g9 u af tx ln pl su tk nu K Kto u9 ix z E C M T n9 tr tr kp Ki Kk F A) (ps := [0, 5, 7, 2]) (by decide) (rfl) (w := svO Y hv (u.1 1) (u.1 2) (u.1 3) (u.1 4) (u.1 5) (u.1 6) (u.1 7) (u.1 8) (u.1 9) ++ (qoW Y (u.1 5) (u.1 12) (u.1 13) (u.1 14) ++ (cmW Y (u.1 12) (u.2.1 3) u9 ++ cmW Y (u.1 2) (u.2.1 0) K))) (rfl)
  replace hP : va_P G vwCl (lwF (lwC Y hv g9 u af tx ln pl su tk nu K Kto u9 ix z E C M T n9 tr tr kp Ki Kk F A)) H := va_P_pm pmb hP1
  replace hD : va_D _ (lwF (lwC Y hv g9 u af tx ln pl su tk nu K Kto u9 ix z E C M T n9 tr tr kp Ki Kk F A)) := va_D_pm pmb hD1
  clear pmb hP1 hD1 hP0 hD0
  refine lv_aload_n hx hb dL_law_643 rfl (lv_at hl 2 rfl) ?_
  refine lv_aload_n hx hb dL_law_644 rfl (lv_at hl 0 rfl) ?_
  refine lv_iload_n hx hb dL_law_645 rfl (lv_at hl 3 rfl) ?_
  refine z_iconst hx hb dL_law_646 ?_
  refine z_iadd hx hb dL_law_647 ?_
  refine z_sld hx hb hX hbA hS (i + 1) (by omega) dL_law_648 ?_
  have hP0 := va_P_pm (lw_pm (lwC Y hv g9 u af tx ln pl su tk nu K Kto u9 ix z E C M T n9 tr tr kp Ki Kk F A) (ps := [12]) (by decide)) hP
  have hD0 := va_D_pm (lw_pm (lwC Y hv g9 u af tx ln pl su tk nu K Kto u9 ix z E C M T n9 tr tr kp Ki Kk F A) (ps := [12]) (by decide)) hD
  refine eu_V (As := [.int (iZ (xs (i + 1)).toInt)]) (rest := [.int (iZ (rSuns K (xs (i + 1)).toInt))]) (F := lwR [12] (lwC Y hv g9 u af tx ln pl su tk nu K Kto u9 ix z E C M T n9 tr tr kp Ki Kk F A)) (W1 := (fun v => moW Y g9 af F (va_up A 18 (v 0)) tr)) ⟨hx, hb, hml, hown, hts⟩ (c_X7_suns l G Y g9 af F A tr hV hno (xs (i + 1)).toInt ra1) (cwV 1 hts gL_law_X7_suns rfl rfl rfl (by decide +kernel) ⟨Nat.le_of_ble_eq_true rfl, Nat.le_of_ble_eq_true rfl⟩) hK hP0 hD0 hS 0 rfl rfl (fun _ => Eq.refl [g9, af 1, af 11, af 12, af 16, af 17, af 18, af 19, af 20, af 21, af 24]) rfl hl.1 rfl (Nat.le_of_ble_eq_true rfl) dL_law_649 hce (fun u8 H locs hP1 hD1 hS => ?_)
  show W _ _ _ _ _ _ _ _ _ _ _ _ _ _ _ (F0 _ _ _ (.int (iZ (rSuns (kF F A (A 17)) (xs (i + 1)).toInt)) :: [.int (iZ (rSuns K (xs (i + 1)).toInt))]))
  have pmb := lw_back (ch := lwC Y hv g9 u af tx ln pl su tk nu K Kto u9 ix z E C M T n9 tr tr kp Ki Kk F A) (ch' := lwC Y hv g9 u af tx ln pl su tk nu K Kto u9 ix z E C M T n9 tr tr kp Ki Kk F (va_up A 18 (u8 0))) (ps := [12]) (by decide) (rfl) (w := moW Y g9 af F (va_up A 18 (u8 0)) tr) (rfl)
  replace hP : va_P G vwCl (lwF (lwC Y hv g9 u af tx ln pl su tk nu K Kto u9 ix z E C M T n9 tr tr kp Ki Kk F (va_up A 18 (u8 0)))) H := va_P_pm pmb hP1
  replace hD : va_D _ (lwF (lwC Y hv g9 u af tx ln pl su tk nu K Kto u9 ix z E C M T n9 tr tr kp Ki Kk F (va_up A 18 (u8 0)))) := va_D_pm pmb hD1
  clear pmb hP1 hD1 hP0 hD0
  refine z_cmpeq (tgt := 990) hx hb ((rSuns_c hE _).symm) dL_law_652 (by decide) ?_
  exact kk tx ln pl su tk nu K Kto u9 ix z E C M T n9 tr kp Ki Kk F (va_up A 18 (u8 0)) H locs (lwI_FA (F' := F) (A' := va_up A 18 (u8 0)) hI rfl rfl rfl rfl rfl rfl h26 rfl i3.2 rfl rfl rfl rfl rfl rfl i1.2.2.1 i3.1) ⟨hP, hD, hS⟩

set_option maxHeartbeats 4000000 in
set_option maxRecDepth 100000 in
theorem lc_mayBe {p : Program} {l : Launch} {e : Env} {s : State} {m : MethodId} {below : List Frame} {meth : Method} {c : Code} {H : Heap} {locs : List Loc} {cells slots : Nat} {Q : State → Prop} {G : va_G} {Y : Nat → ClassId} {b L : Nat} {xs : Nat → Int32} (X : lwX p s m meth c b L xs G Y) (hce : cells ≤ 600000 ∧ slots ≤ 7302249) {hv g9 : Nat} {u : svU} {af : Nat → Nat} {i : Nat} (hi : i + 4 ≤ L) {ls : Array Slot} (hl : lv_has ls 4 [(0, .ref b), (1, .ref hv), (2, .ref g9), (3, .int (iZ ((i : Nat) : Int)))]) {tx : Nat → Int} {ln : Nat} {pl : Nat} {su : Bool} {tk : Nat} {nu : Int} {K : Kom} {Kto : Kom} {Kt : Kom} {ix : Nat} {z : Nat} {E : Nat → Int} {C : Nat → Int} {M : Nat → Int} {T : Nat → Int} {n9 : Int} {tr : Int64} {kp : Nat → Int} {Ki : Nat → Kom} {Kk : Nat → Kom} {F : Nat → Int} {A : Kom} (hI : lwI tx ln tk K Kto ix z M T n9 kp Ki Kk F A) (hH : lwH G s (lwC Y hv g9 u af tx ln pl su tk nu K Kto Kt ix z E C M T n9 tr tr kp Ki Kk F A) H locs) (kk : lwK p l e s m below meth c cells slots Q G Y b hv g9 u af ls) : W p l e room_1 s m #[Value.ref b] below meth c H locs cells slots Q (F0 m 749 ls []) := by
  obtain ⟨hx, hb, hml, hown, hts, hX, hK⟩ := X
  obtain ⟨hP, hD, hS⟩ := hH
  have hbA : ¬ (fun q : Nat => s.heap.size ≤ q) b := Nat.not_le.mpr hX.2.1
  have i1 := hI.1
  have i2 := hI.2.1
  have i3 := hI.2.2.1
  have i4 := hI.2.2.2.1
  have i5 := hI.2.2.2.2.1
  have i6 := hI.2.2.2.2.2
  have hW := i2.1
  have hE := i2.2.1
  have hV := i2.2.2.1
  have h26 := i2.2.2.2
  have hno : F 26 < 0 := by omega
  have hKb := hW.1
  have hvb := mV_b hV
  have hk2 : K 0 2 = A 17 3 := hE.k2
  have hL9 := hX.2.2
  refine lv_aload_n hx hb dL_law_749 rfl (lv_at hl 1 rfl) ?_
  have hP0 := va_P_pm (lw_pm (lwC Y hv g9 u af tx ln pl su tk nu K Kto Kt ix z E C M T n9 tr tr kp Ki Kk F A) (ps := [0, 5, 7, 2, 8]) (by decide)) hP
  have hD0 := va_D_pm (lw_pm (lwC Y hv g9 u af tx ln pl su tk nu K Kto Kt ix z E C M T n9 tr tr kp Ki Kk F A) (ps := [0, 5, 7, 2, 8]) (by decide)) hD
  refine eu_V (As := []) (rest := []) (F := lwR [0, 5, 7, 2, 8] (lwC Y hv g9 u af tx ln pl su tk nu K Kto Kt ix z E C M T n9 tr tr kp Ki Kk F A)) (W1 := (fun v => svO Y hv (u.1 1) (u.1 2) (u.1 3) (u.1 4) (u.1 5) (u.1 6) (u.1 7) (u.1 8) (u.1 9) ++ (qoW Y (u.1 5) (u.1 12) (u.1 13) (u.1 14) ++ (cmW Y (u.1 12) (u.2.1 3) v ++ (cmW Y (u.1 2) (u.2.1 0) K ++ tlW Y (u.1 6) (u.1 15) (u.1 16) M T n9))))) ⟨hx, hb, hml, hown, hts⟩ (c_X6_mayBe l G Y hv (u.1 1) (u.1 2) (u.1 3) (u.1 4) (u.1 5) (u.1 6) (u.1 7) (u.1 8) (u.1 9) (u.1 12) (u.1 13) (u.1 14) (u.2.1 3) Kt (u.2.1 0) K hW (u.1 15) (u.1 16) M T n9 ⟨⟨i5.1.1, i5.1.2.1⟩, i5.2.2⟩) (cwV 0 hts gL_law_X6_mayBe rfl rfl rfl (by decide +kernel) ⟨Nat.le_of_ble_eq_true rfl, Nat.le_of_ble_eq_true rfl⟩) hK hP0 hD0 hS 0 rfl rfl (fun _ => Eq.refl [hv, u.1 5, u.1 12, u.2.1 3 1, u.2.1 3 2, u.2.1 3 3, u.2.1 3 4, u.2.1 3 5, u.2.1 3 6, u.2.1 3 7, u.1 2, u.2.1 0 1, u.2.1 0 2, u.2.1 0 3, u.2.1 0 4, u.2.1 0 5, u.2.1 0 6, u.2.1 0 7, u.1 6, u.1 15, u.1 16]) rfl hl.1 rfl (Nat.le_of_ble_eq_true rfl) dL_law_750 hce (fun u9 H locs hP1 hD1 hS => ?_)
  show W _ _ _ _ _ _ _ _ _ _ _ _ _ _ _ (F0 _ _ _ (.int (iZ (((snN (snH K M T n9.toNat) 9 : Nat) : Int))) :: []))
  have pmb := lw_back (ch := lwC Y hv g9 u af tx ln pl su tk nu K Kto Kt ix z E C M T n9 tr tr kp Ki Kk F A) (ch' := lwC Y hv g9 u af tx ln pl su tk nu K Kto u9 ix z E C M T n9 tr tr kp Ki Kk F A) (ps := [0, 5, 7, 2, 8]) (by decide) (rfl) (w := svO Y hv (u.1 1) (u.1 2) (u.1 3) (u.1 4) (u.1 5) (u.1 6) (u.1 7) (u.1 8) (u.1 9) ++ (qoW Y (u.1 5) (u.1 12) (u.1 13) (u.1 14) ++ (cmW Y (u.1 12) (u.2.1 3) u9 ++ (cmW Y (u.1 2) (u.2.1 0) K ++ tlW Y (u.1 6) (u.1 15) (u.1 16) M T n9)))) (rfl)
  replace hP : va_P G vwCl (lwF (lwC Y hv g9 u af tx ln pl su tk nu K Kto u9 ix z E C M T n9 tr tr kp Ki Kk F A)) H := va_P_pm pmb hP1
  replace hD : va_D _ (lwF (lwC Y hv g9 u af tx ln pl su tk nu K Kto u9 ix z E C M T n9 tr tr kp Ki Kk F A)) := va_D_pm pmb hD1
  clear pmb hP1 hD1 hP0 hD0
  refine lv_aload_n hx hb dL_law_753 rfl (lv_at hl 2 rfl) ?_
  have hP0 := va_P_pm (lw_pm (lwC Y hv g9 u af tx ln pl su tk nu K Kto u9 ix z E C M T n9 tr tr kp Ki Kk F A) (ps := [12]) (by decide)) hP
  have hD0 := va_D_pm (lw_pm (lwC Y hv g9 u af tx ln pl su tk nu K Kto u9 ix z E C M T n9 tr tr kp Ki Kk F A) (ps := [12]) (by decide)) hD
  refine eu_V (As := []) (rest := [.int (iZ (((snN (snH K M T n9.toNat) 9 : Nat) : Int)))]) (F := lwR [12] (lwC Y hv g9 u af tx ln pl su tk nu K Kto u9 ix z E C M T n9 tr tr kp Ki Kk F A)) (W1 := (fun v => moW Y g9 af F (va_up A 18 (v 0)) tr)) ⟨hx, hb, hml, hown, hts⟩ (c_X7_mayBe l G Y g9 af F A tr hV hno ⟨by rw [i5.1.2.2]; exact ⟨i5.1.1, i5.1.2.1⟩, fun j hj => by have q := i5.2.2 j hj; rw [i5.2.1.1, i5.2.1.2] at q; exact q⟩) (cwV 0 hts gL_law_X7_mayBe rfl rfl rfl (by decide +kernel) ⟨Nat.le_of_ble_eq_true rfl, Nat.le_of_ble_eq_true rfl⟩) hK hP0 hD0 hS 0 rfl rfl (fun _ => Eq.refl [g9, af 1, af 11, af 12, af 16, af 17, af 18, af 19, af 20, af 21, af 24]) rfl hl.1 rfl (Nat.le_of_ble_eq_true rfl) dL_law_754 hce (fun u8 H locs hP1 hD1 hS => ?_)
  show W _ _ _ _ _ _ _ _ _ _ _ _ _ _ _ (F0 _ _ _ (.int (iZ (((snN (snH (kF F A (A 17)) (fun j => A 24 (2 * j)) (fun j => A 24 (2 * j + 1)) (F 23).toNat) 9 : Nat) : Int))) :: [.int (iZ (((snN (snH K M T n9.toNat) 9 : Nat) : Int)))]))
  have pmb := lw_back (ch := lwC Y hv g9 u af tx ln pl su tk nu K Kto u9 ix z E C M T n9 tr tr kp Ki Kk F A) (ch' := lwC Y hv g9 u af tx ln pl su tk nu K Kto u9 ix z E C M T n9 tr tr kp Ki Kk F (va_up A 18 (u8 0))) (ps := [12]) (by decide) (rfl) (w := moW Y g9 af F (va_up A 18 (u8 0)) tr) (rfl)
  replace hP : va_P G vwCl (lwF (lwC Y hv g9 u af tx ln pl su tk nu K Kto u9 ix z E C M T n9 tr tr kp Ki Kk F (va_up A 18 (u8 0)))) H := va_P_pm pmb hP1
  replace hD : va_D _ (lwF (lwC Y hv g9 u af tx ln pl su tk nu K Kto u9 ix z E C M T n9 tr tr kp Ki Kk F (va_up A 18 (u8 0)))) := va_D_pm pmb hD1
  clear pmb hP1 hD1 hP0 hD0
  refine z_cmpeq (tgt := 990) hx hb (by rw [i5.1.2.2, may_c hE, i5.2.1.1, i5.2.1.2]) dL_law_757 (by decide) ?_
  exact kk tx ln pl su tk nu K Kto u9 ix z E C M T n9 tr kp Ki Kk F (va_up A 18 (u8 0)) H locs (lwI_FA (F' := F) (A' := va_up A 18 (u8 0)) hI rfl rfl rfl rfl rfl rfl h26 rfl i3.2 rfl rfl rfl rfl rfl rfl i1.2.2.1 i3.1) ⟨hP, hD, hS⟩

set_option maxHeartbeats 4000000 in
set_option maxRecDepth 100000 in
theorem lc_plant {p : Program} {l : Launch} {e : Env} {s : State} {m : MethodId} {below : List Frame} {meth : Method} {c : Code} {H : Heap} {locs : List Loc} {cells slots : Nat} {Q : State → Prop} {G : va_G} {Y : Nat → ClassId} {b L : Nat} {xs : Nat → Int32} (X : lwX p s m meth c b L xs G Y) (hce : cells ≤ 600000 ∧ slots ≤ 7302249) {hv g9 : Nat} {u : svU} {af : Nat → Nat} {i : Nat} (hi : i + 4 ≤ L) {ls : Array Slot} (hl : lv_has ls 4 [(0, .ref b), (1, .ref hv), (2, .ref g9), (3, .int (iZ ((i : Nat) : Int)))]) {tx : Nat → Int} {ln : Nat} {pl : Nat} {su : Bool} {tk : Nat} {nu : Int} {K : Kom} {Kto : Kom} {Kt : Kom} {ix : Nat} {z : Nat} {E : Nat → Int} {C : Nat → Int} {M : Nat → Int} {T : Nat → Int} {n9 : Int} {tr : Int64} {kp : Nat → Int} {Ki : Nat → Kom} {Kk : Nat → Kom} {F : Nat → Int} {A : Kom} (hI : lwI tx ln tk K Kto ix z M T n9 kp Ki Kk F A) (hH : lwH G s (lwC Y hv g9 u af tx ln pl su tk nu K Kto Kt ix z E C M T n9 tr tr kp Ki Kk F A) H locs) (kk : lwK p l e s m below meth c cells slots Q G Y b hv g9 u af ls) : W p l e room_1 s m #[Value.ref b] below meth c H locs cells slots Q (F0 m 601 ls []) := by
  obtain ⟨hx, hb, hml, hown, hts, hX, hK⟩ := X
  obtain ⟨hP, hD, hS⟩ := hH
  have hbA : ¬ (fun q : Nat => s.heap.size ≤ q) b := Nat.not_le.mpr hX.2.1
  have i1 := hI.1
  have i2 := hI.2.1
  have i3 := hI.2.2.1
  have i4 := hI.2.2.2.1
  have i5 := hI.2.2.2.2.1
  have i6 := hI.2.2.2.2.2
  have hW := i2.1
  have hE := i2.2.1
  have hV := i2.2.2.1
  have h26 := i2.2.2.2
  have hno : F 26 < 0 := by omega
  have hKb := hW.1
  have hvb := mV_b hV
  have hk2 : K 0 2 = A 17 3 := hE.k2
  have hL9 := hX.2.2
  have ra1 := iZ_range (xs (i + 1))
  have ra2 := iZ_range (xs (i + 2))
  cases hf : fPl (xs (i + 1)).toInt (xs (i + 2)).toInt
  · skip
    refine lv_aload_n hx hb dL_law_601 rfl (lv_at hl 1 rfl) ?_
    refine lv_aload_n hx hb dL_law_602 rfl (lv_at hl 0 rfl) ?_
    refine lv_iload_n hx hb dL_law_603 rfl (lv_at hl 3 rfl) ?_
    refine z_iconst hx hb dL_law_604 ?_
    refine z_iadd hx hb dL_law_605 ?_
    refine z_sld hx hb hX hbA hS (i + 1) (by omega) dL_law_606 ?_
    refine lv_aload_n hx hb dL_law_607 rfl (lv_at hl 0 rfl) ?_
    refine lv_iload_n hx hb dL_law_608 rfl (lv_at hl 3 rfl) ?_
    refine z_iconst hx hb dL_law_609 ?_
    refine z_iadd hx hb dL_law_610 ?_
    refine z_sld hx hb hX hbA hS (i + 2) (by omega) dL_law_611 ?_
    have hP0 := va_P_pm (lw_pm (lwC Y hv g9 u af tx ln pl su tk nu K Kto Kt ix z E C M T n9 tr tr kp Ki Kk F A) (ps := [0, 5, 7, 2]) (by decide)) hP
    have hD0 := va_D_pm (lw_pm (lwC Y hv g9 u af tx ln pl su tk nu K Kto Kt ix z E C M T n9 tr tr kp Ki Kk F A) (ps := [0, 5, 7, 2]) (by decide)) hD
    refine eu_V (As := [.int (iZ (xs (i + 1)).toInt), .int (iZ (xs (i + 2)).toInt)]) (rest := []) (F := lwR [0, 5, 7, 2] (lwC Y hv g9 u af tx ln pl su tk nu K Kto Kt ix z E C M T n9 tr tr kp Ki Kk F A)) (W1 := (fun v => svO Y hv (u.1 1) (u.1 2) (u.1 3) (u.1 4) (u.1 5) (u.1 6) (u.1 7) (u.1 8) (u.1 9) ++ (qoW Y (u.1 5) (u.1 12) (u.1 13) (u.1 14) ++ (cmW Y (u.1 12) (u.2.1 3) v ++ cmW Y (u.1 2) (u.2.1 0) K)))) ⟨hx, hb, hml, hown, hts⟩ (c_X6_plant l G Y hv (u.1 1) (u.1 2) (u.1 3) (u.1 4) (u.1 5) (u.1 6) (u.1 7) (u.1 8) (u.1 9) (u.1 12) (u.1 13) (u.1 14) (u.2.1 3) Kt (u.2.1 0) K hW (xs (i + 1)).toInt (xs (i + 2)).toInt ⟨⟨ra1, ra2⟩, by omega⟩) (cwV 2 hts gL_law_X6_plant rfl rfl rfl (by decide +kernel) ⟨Nat.le_of_ble_eq_true rfl, Nat.le_of_ble_eq_true rfl⟩) hK hP0 hD0 hS 0 rfl rfl (fun _ => Eq.refl [hv, u.1 5, u.1 12, u.2.1 3 1, u.2.1 3 2, u.2.1 3 3, u.2.1 3 4, u.2.1 3 5, u.2.1 3 6, u.2.1 3 7, u.1 2, u.2.1 0 1, u.2.1 0 2, u.2.1 0 3, u.2.1 0 4, u.2.1 0 5, u.2.1 0 6, u.2.1 0 7]) rfl hl.1 rfl (Nat.le_of_ble_eq_true rfl) dL_law_612 hce (fun u9 H locs hP1 hD1 hS => ?_)
    show W _ _ _ _ _ _ _ _ _ _ _ _ _ _ _ (F0 _ _ _ (.int (iZ (rPlant K (xs (i + 1)).toInt (xs (i + 2)).toInt)) :: []))
    have pmb := lw_back (ch := lwC Y hv g9 u af tx ln pl su tk nu K Kto Kt ix z E C M T n9 tr tr kp Ki Kk F A) (ch' := lwC Y hv g9 u af tx ln pl su tk nu K Kto u9 ix z E C M T n9 tr tr kp Ki Kk F A) (ps := [0, 5, 7, 2]) (by decide) (rfl) (w := svO Y hv (u.1 1) (u.1 2) (u.1 3) (u.1 4) (u.1 5) (u.1 6) (u.1 7) (u.1 8) (u.1 9) ++ (qoW Y (u.1 5) (u.1 12) (u.1 13) (u.1 14) ++ (cmW Y (u.1 12) (u.2.1 3) u9 ++ cmW Y (u.1 2) (u.2.1 0) K))) (rfl)
    replace hP : va_P G vwCl (lwF (lwC Y hv g9 u af tx ln pl su tk nu K Kto u9 ix z E C M T n9 tr tr kp Ki Kk F A)) H := va_P_pm pmb hP1
    replace hD : va_D _ (lwF (lwC Y hv g9 u af tx ln pl su tk nu K Kto u9 ix z E C M T n9 tr tr kp Ki Kk F A)) := va_D_pm pmb hD1
    clear pmb hP1 hD1 hP0 hD0
    refine lv_aload_n hx hb dL_law_615 rfl (lv_at hl 2 rfl) ?_
    refine lv_aload_n hx hb dL_law_616 rfl (lv_at hl 0 rfl) ?_
    refine lv_iload_n hx hb dL_law_617 rfl (lv_at hl 3 rfl) ?_
    refine z_iconst hx hb dL_law_618 ?_
    refine z_iadd hx hb dL_law_619 ?_
    refine z_sld hx hb hX hbA hS (i + 1) (by omega) dL_law_620 ?_
    refine lv_aload_n hx hb dL_law_621 rfl (lv_at hl 0 rfl) ?_
    refine lv_iload_n hx hb dL_law_622 rfl (lv_at hl 3 rfl) ?_
    refine z_iconst hx hb dL_law_623 ?_
    refine z_iadd hx hb dL_law_624 ?_
    refine z_sld hx hb hX hbA hS (i + 2) (by omega) dL_law_625 ?_
    have hP0 := va_P_pm (lw_pm (lwC Y hv g9 u af tx ln pl su tk nu K Kto u9 ix z E C M T n9 tr tr kp Ki Kk F A) (ps := [12]) (by decide)) hP
    have hD0 := va_D_pm (lw_pm (lwC Y hv g9 u af tx ln pl su tk nu K Kto u9 ix z E C M T n9 tr tr kp Ki Kk F A) (ps := [12]) (by decide)) hD
    refine mu_V (As := [.int (iZ (xs (i + 1)).toInt), .int (iZ (xs (i + 2)).toInt)]) (rest := [.int (iZ (rPlant K (xs (i + 1)).toInt (xs (i + 2)).toInt))]) (F := lwR [12] (lwC Y hv g9 u af tx ln pl su tk nu K Kto u9 ix z E C M T n9 tr tr kp Ki Kk F A)) (wc' := moW Y g9 af (bif fPl (xs (i + 1)).toInt (xs (i + 2)).toInt then va_up (va_up (va_up F 26 (-1)) 27 (xs (i + 2)).toInt) 28 ((2 ^ Int.toNat (xs (i + 1)).toInt : Nat) : Int) else F) A tr) ⟨hx, hb, hml, hown, hts⟩ (c_X7_plant l G Y g9 af F A tr hV hno (xs (i + 1)).toInt (xs (i + 2)).toInt ⟨ra1, ra2⟩) (cwV 2 hts gL_law_X7_plant rfl rfl rfl (by decide +kernel) ⟨Nat.le_of_ble_eq_true rfl, Nat.le_of_ble_eq_true rfl⟩) hK hP0 hD0 hS 0 rfl rfl (Eq.refl [g9, af 1, af 11, af 12, af 16, af 17, af 18, af 19, af 20, af 21, af 24]) rfl hl.1 rfl (Nat.le_of_ble_eq_true rfl) dL_law_626 hce (fun H locs hP1 hD1 hS => ?_)
    show W _ _ _ _ _ _ _ _ _ _ _ _ _ _ _ (F0 _ _ _ (.int (iZ (rPlant (kF F A (A 17)) (xs (i + 1)).toInt (xs (i + 2)).toInt)) :: [.int (iZ (rPlant K (xs (i + 1)).toInt (xs (i + 2)).toInt))]))
    rw [hf, cond_false] at hP1 hD1
    have pmb := lw_back (ch := lwC Y hv g9 u af tx ln pl su tk nu K Kto u9 ix z E C M T n9 tr tr kp Ki Kk F A) (ch' := lwC Y hv g9 u af tx ln pl su tk nu K Kto u9 ix z E C M T n9 tr tr kp Ki Kk F A) (ps := [12]) (by decide) (rfl) (w := moW Y g9 af F A tr) (rfl)
    replace hP : va_P G vwCl (lwF (lwC Y hv g9 u af tx ln pl su tk nu K Kto u9 ix z E C M T n9 tr tr kp Ki Kk F A)) H := va_P_pm pmb hP1
    replace hD : va_D _ (lwF (lwC Y hv g9 u af tx ln pl su tk nu K Kto u9 ix z E C M T n9 tr tr kp Ki Kk F A)) := va_D_pm pmb hD1
    clear pmb hP1 hD1 hP0 hD0
    refine z_cmpeq (tgt := 990) hx hb ((rPlant_c hE (by omega) _ _).symm) dL_law_629 (by decide) ?_
    exact kk tx ln pl su tk nu K Kto u9 ix z E C M T n9 tr kp Ki Kk F A H locs (hI) ⟨hP, hD, hS⟩
  · skip
    refine lv_aload_n hx hb dL_law_601 rfl (lv_at hl 1 rfl) ?_
    refine lv_aload_n hx hb dL_law_602 rfl (lv_at hl 0 rfl) ?_
    refine lv_iload_n hx hb dL_law_603 rfl (lv_at hl 3 rfl) ?_
    refine z_iconst hx hb dL_law_604 ?_
    refine z_iadd hx hb dL_law_605 ?_
    refine z_sld hx hb hX hbA hS (i + 1) (by omega) dL_law_606 ?_
    refine lv_aload_n hx hb dL_law_607 rfl (lv_at hl 0 rfl) ?_
    refine lv_iload_n hx hb dL_law_608 rfl (lv_at hl 3 rfl) ?_
    refine z_iconst hx hb dL_law_609 ?_
    refine z_iadd hx hb dL_law_610 ?_
    refine z_sld hx hb hX hbA hS (i + 2) (by omega) dL_law_611 ?_
    have hP0 := va_P_pm (lw_pm (lwC Y hv g9 u af tx ln pl su tk nu K Kto Kt ix z E C M T n9 tr tr kp Ki Kk F A) (ps := [0, 5, 7, 2]) (by decide)) hP
    have hD0 := va_D_pm (lw_pm (lwC Y hv g9 u af tx ln pl su tk nu K Kto Kt ix z E C M T n9 tr tr kp Ki Kk F A) (ps := [0, 5, 7, 2]) (by decide)) hD
    refine eu_V (As := [.int (iZ (xs (i + 1)).toInt), .int (iZ (xs (i + 2)).toInt)]) (rest := []) (F := lwR [0, 5, 7, 2] (lwC Y hv g9 u af tx ln pl su tk nu K Kto Kt ix z E C M T n9 tr tr kp Ki Kk F A)) (W1 := (fun v => svO Y hv (u.1 1) (u.1 2) (u.1 3) (u.1 4) (u.1 5) (u.1 6) (u.1 7) (u.1 8) (u.1 9) ++ (qoW Y (u.1 5) (u.1 12) (u.1 13) (u.1 14) ++ (cmW Y (u.1 12) (u.2.1 3) v ++ cmW Y (u.1 2) (u.2.1 0) K)))) ⟨hx, hb, hml, hown, hts⟩ (c_X6_plant l G Y hv (u.1 1) (u.1 2) (u.1 3) (u.1 4) (u.1 5) (u.1 6) (u.1 7) (u.1 8) (u.1 9) (u.1 12) (u.1 13) (u.1 14) (u.2.1 3) Kt (u.2.1 0) K hW (xs (i + 1)).toInt (xs (i + 2)).toInt ⟨⟨ra1, ra2⟩, by omega⟩) (cwV 2 hts gL_law_X6_plant rfl rfl rfl (by decide +kernel) ⟨Nat.le_of_ble_eq_true rfl, Nat.le_of_ble_eq_true rfl⟩) hK hP0 hD0 hS 0 rfl rfl (fun _ => Eq.refl [hv, u.1 5, u.1 12, u.2.1 3 1, u.2.1 3 2, u.2.1 3 3, u.2.1 3 4, u.2.1 3 5, u.2.1 3 6, u.2.1 3 7, u.1 2, u.2.1 0 1, u.2.1 0 2, u.2.1 0 3, u.2.1 0 4, u.2.1 0 5, u.2.1 0 6, u.2.1 0 7]) rfl hl.1 rfl (Nat.le_of_ble_eq_true rfl) dL_law_612 hce (fun u9 H locs hP1 hD1 hS => ?_)
    show W _ _ _ _ _ _ _ _ _ _ _ _ _ _ _ (F0 _ _ _ (.int (iZ (rPlant K (xs (i + 1)).toInt (xs (i + 2)).toInt)) :: []))
    have pmb := lw_back (ch := lwC Y hv g9 u af tx ln pl su tk nu K Kto Kt ix z E C M T n9 tr tr kp Ki Kk F A) (ch' := lwC Y hv g9 u af tx ln pl su tk nu K Kto u9 ix z E C M T n9 tr tr kp Ki Kk F A) (ps := [0, 5, 7, 2]) (by decide) (rfl) (w := svO Y hv (u.1 1) (u.1 2) (u.1 3) (u.1 4) (u.1 5) (u.1 6) (u.1 7) (u.1 8) (u.1 9) ++ (qoW Y (u.1 5) (u.1 12) (u.1 13) (u.1 14) ++ (cmW Y (u.1 12) (u.2.1 3) u9 ++ cmW Y (u.1 2) (u.2.1 0) K))) (rfl)
    replace hP : va_P G vwCl (lwF (lwC Y hv g9 u af tx ln pl su tk nu K Kto u9 ix z E C M T n9 tr tr kp Ki Kk F A)) H := va_P_pm pmb hP1
    replace hD : va_D _ (lwF (lwC Y hv g9 u af tx ln pl su tk nu K Kto u9 ix z E C M T n9 tr tr kp Ki Kk F A)) := va_D_pm pmb hD1
    clear pmb hP1 hD1 hP0 hD0
    refine lv_aload_n hx hb dL_law_615 rfl (lv_at hl 2 rfl) ?_
    refine lv_aload_n hx hb dL_law_616 rfl (lv_at hl 0 rfl) ?_
    refine lv_iload_n hx hb dL_law_617 rfl (lv_at hl 3 rfl) ?_
    refine z_iconst hx hb dL_law_618 ?_
    refine z_iadd hx hb dL_law_619 ?_
    refine z_sld hx hb hX hbA hS (i + 1) (by omega) dL_law_620 ?_
    refine lv_aload_n hx hb dL_law_621 rfl (lv_at hl 0 rfl) ?_
    refine lv_iload_n hx hb dL_law_622 rfl (lv_at hl 3 rfl) ?_
    refine z_iconst hx hb dL_law_623 ?_
    refine z_iadd hx hb dL_law_624 ?_
    refine z_sld hx hb hX hbA hS (i + 2) (by omega) dL_law_625 ?_
    have hP0 := va_P_pm (lw_pm (lwC Y hv g9 u af tx ln pl su tk nu K Kto u9 ix z E C M T n9 tr tr kp Ki Kk F A) (ps := [12]) (by decide)) hP
    have hD0 := va_D_pm (lw_pm (lwC Y hv g9 u af tx ln pl su tk nu K Kto u9 ix z E C M T n9 tr tr kp Ki Kk F A) (ps := [12]) (by decide)) hD
    refine mu_V (As := [.int (iZ (xs (i + 1)).toInt), .int (iZ (xs (i + 2)).toInt)]) (rest := [.int (iZ (rPlant K (xs (i + 1)).toInt (xs (i + 2)).toInt))]) (F := lwR [12] (lwC Y hv g9 u af tx ln pl su tk nu K Kto u9 ix z E C M T n9 tr tr kp Ki Kk F A)) (wc' := moW Y g9 af (bif fPl (xs (i + 1)).toInt (xs (i + 2)).toInt then va_up (va_up (va_up F 26 (-1)) 27 (xs (i + 2)).toInt) 28 ((2 ^ Int.toNat (xs (i + 1)).toInt : Nat) : Int) else F) A tr) ⟨hx, hb, hml, hown, hts⟩ (c_X7_plant l G Y g9 af F A tr hV hno (xs (i + 1)).toInt (xs (i + 2)).toInt ⟨ra1, ra2⟩) (cwV 2 hts gL_law_X7_plant rfl rfl rfl (by decide +kernel) ⟨Nat.le_of_ble_eq_true rfl, Nat.le_of_ble_eq_true rfl⟩) hK hP0 hD0 hS 0 rfl rfl (Eq.refl [g9, af 1, af 11, af 12, af 16, af 17, af 18, af 19, af 20, af 21, af 24]) rfl hl.1 rfl (Nat.le_of_ble_eq_true rfl) dL_law_626 hce (fun H locs hP1 hD1 hS => ?_)
    show W _ _ _ _ _ _ _ _ _ _ _ _ _ _ _ (F0 _ _ _ (.int (iZ (rPlant (kF F A (A 17)) (xs (i + 1)).toInt (xs (i + 2)).toInt)) :: [.int (iZ (rPlant K (xs (i + 1)).toInt (xs (i + 2)).toInt))]))
    rw [hf, cond_true] at hP1 hD1
    have pmb := lw_back (ch := lwC Y hv g9 u af tx ln pl su tk nu K Kto u9 ix z E C M T n9 tr tr kp Ki Kk F A) (ch' := lwC Y hv g9 u af tx ln pl su tk nu K Kto u9 ix z E C M T n9 tr tr kp Ki Kk (va_up (va_up (va_up F 26 (-1)) 27 (xs (i + 2)).toInt) 28 ((2 ^ Int.toNat (xs (i + 1)).toInt : Nat) : Int)) A) (ps := [12]) (by decide) (rfl) (w := moW Y g9 af (va_up (va_up (va_up F 26 (-1)) 27 (xs (i + 2)).toInt) 28 ((2 ^ Int.toNat (xs (i + 1)).toInt : Nat) : Int)) A tr) (rfl)
    replace hP : va_P G vwCl (lwF (lwC Y hv g9 u af tx ln pl su tk nu K Kto u9 ix z E C M T n9 tr tr kp Ki Kk (va_up (va_up (va_up F 26 (-1)) 27 (xs (i + 2)).toInt) 28 ((2 ^ Int.toNat (xs (i + 1)).toInt : Nat) : Int)) A)) H := va_P_pm pmb hP1
    replace hD : va_D _ (lwF (lwC Y hv g9 u af tx ln pl su tk nu K Kto u9 ix z E C M T n9 tr tr kp Ki Kk (va_up (va_up (va_up F 26 (-1)) 27 (xs (i + 2)).toInt) 28 ((2 ^ Int.toNat (xs (i + 1)).toInt : Nat) : Int)) A)) := va_D_pm pmb hD1
    clear pmb hP1 hD1 hP0 hD0
    refine z_cmpeq (tgt := 990) hx hb ((rPlant_c hE (by omega) _ _).symm) dL_law_629 (by decide) ?_
    exact kk tx ln pl su tk nu K Kto u9 ix z E C M T n9 tr kp Ki Kk (va_up (va_up (va_up F 26 (-1)) 27 (xs (i + 2)).toInt) 28 ((2 ^ Int.toNat (xs (i + 1)).toInt : Nat) : Int)) A H locs (lwI_FA (F' := va_up (va_up (va_up F 26 (-1)) 27 (xs (i + 2)).toInt) 28 ((2 ^ Int.toNat (xs (i + 1)).toInt : Nat) : Int)) (A' := A) hI rfl rfl rfl rfl rfl rfl rfl rfl i3.2 rfl rfl rfl rfl rfl rfl i1.2.2.1 i3.1) ⟨hP, hD, hS⟩
