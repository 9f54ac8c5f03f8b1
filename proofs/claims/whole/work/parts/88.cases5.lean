set_option maxHeartbeats 4000000 in
set_option maxRecDepth 100000 in
theorem lc_rate {p : Program} {l : Launch} {e : Env} {s : State} {m : MethodId} {below : List Frame} {meth : Method} {c : Code} {H : Heap} {locs : List Loc} {cells slots : Nat} {Q : State → Prop} {G : va_G} {Y : Nat → ClassId} {b L : Nat} {xs : Nat → Int32} (X : lwX p s m meth c b L xs G Y) (hce : cells ≤ 600000 ∧ slots ≤ 7302249) {hv g9 : Nat} {u : svU} {af : Nat → Nat} {i : Nat} (hi : i + 4 ≤ L) {ls : Array Slot} (hl : lv_has ls 4 [(0, .ref b), (1, .ref hv), (2, .ref g9), (3, .int (iZ ((i : Nat) : Int)))]) {tx : Nat → Int} {ln : Nat} {pl : Nat} {su : Bool} {tk : Nat} {nu : Int} {K : Kom} {Kto : Kom} {Kt : Kom} {ix : Nat} {z : Nat} {E : Nat → Int} {C : Nat → Int} {M : Nat → Int} {T : Nat → Int} {n9 : Int} {tr : Int64} {kp : Nat → Int} {Ki : Nat → Kom} {Kk : Nat → Kom} {F : Nat → Int} {A : Kom} (hI : lwI tx ln tk K Kto ix z M T n9 kp Ki Kk F A) (hH : lwH G s (lwC Y hv g9 u af tx ln pl su tk nu K Kto Kt ix z E C M T n9 tr tr kp Ki Kk F A) H locs) (kk : lwK p l e s m below meth c cells slots Q G Y b hv g9 u af ls) : W p l e room_1 s m #[Value.ref b] below meth c H locs cells slots Q (F0 m 874 ls []) := by
  obtain ⟨hx, hb, hml, hown, hts, hX, hK⟩ := X
  obtain ⟨hP, hD, hS⟩ := hH
  have hbA : ¬ (fun q : Nat => s.heap.size ≤ q) b := Nat.not_le.mpr hX.2.1
  have i1 := hI.1
  have i2 := hI.2.1
  have i3 := hI.2.2.1
  have i4 := hI.2.2.2.1
  have i5 := hI.2.2.2.2.1
  have i6 := hI.2.2.2.2.2
  have hW := i2.1
  have hE := i2.2.1
  have hV := i2.2.2.1
  have h26 := i2.2.2.2
  have hno : F 26 < 0 := by omega
  have hKb := hW.1
  have hvb := mV_b hV
  have hk2 : K 0 2 = A 17 3 := hE.k2
  have hL9 := hX.2.2
  have ra1 := iZ_range (xs (i + 1))
  have ra2 := iZ_range (xs (i + 2))
  refine lv_aload_n hx hb dL_law_874 rfl (lv_at hl 1 rfl) ?_
  refine lv_aload_n hx hb dL_law_875 rfl (lv_at hl 0 rfl) ?_
  refine lv_iload_n hx hb dL_law_876 rfl (lv_at hl 3 rfl) ?_
  refine z_iconst hx hb dL_law_877 ?_
  refine z_iadd hx hb dL_law_878 ?_
  refine z_sld hx hb hX hbA hS (i + 1) (by omega) dL_law_879 ?_
  refine lv_aload_n hx hb dL_law_880 rfl (lv_at hl 0 rfl) ?_
  refine lv_iload_n hx hb dL_law_881 rfl (lv_at hl 3 rfl) ?_
  refine z_iconst hx hb dL_law_882 ?_
  refine z_iadd hx hb dL_law_883 ?_
  refine z_sld hx hb hX hbA hS (i + 2) (by omega) dL_law_884 ?_
  have hP0 := va_P_pm (lw_pm (lwC Y hv g9 u af tx ln pl su tk nu K Kto Kt ix z E C M T n9 tr tr kp Ki Kk F A) (ps := [0, 9, 2]) (by decide)) hP
  have hD0 := va_D_pm (lw_pm (lwC Y hv g9 u af tx ln pl su tk nu K Kto Kt ix z E C M T n9 tr tr kp Ki Kk F A) (ps := [0, 9, 2]) (by decide)) hD
  refine mu_V (As := [.int (iZ (xs (i + 1)).toInt), .int (iZ (xs (i + 2)).toInt)]) (rest := []) (F := lwR [0, 9, 2] (lwC Y hv g9 u af tx ln pl su tk nu K Kto Kt ix z E C M T n9 tr tr kp Ki Kk F A)) (wc' := svO Y hv (u.1 1) (u.1 2) (u.1 3) (u.1 4) (u.1 5) (u.1 6) (u.1 7) (u.1 8) (u.1 9) ++ (kiW Y (u.1 7) (tRate tr K (xs (i + 1)).toInt (xs (i + 2)).toInt) ++ cmW Y (u.1 2) (u.2.1 0) K)) ⟨hx, hb, hml, hown, hts⟩ (c_X6_rate l G Y hv (u.1 1) (u.1 2) (u.1 3) (u.1 4) (u.1 5) (u.1 6) (u.1 7) (u.1 8) (u.1 9) tr (u.2.1 0) K hW (xs (i + 1)).toInt (xs (i + 2)).toInt ⟨ra1, ra2⟩) (cwV 2 hts gL_law_X6_rate rfl rfl rfl (by decide +kernel) ⟨Nat.le_of_ble_eq_true rfl, Nat.le_of_ble_eq_true rfl⟩) hK hP0 hD0 hS 0 rfl rfl (Eq.refl [hv, u.1 7, u.1 2, u.2.1 0 1, u.2.1 0 2, u.2.1 0 3, u.2.1 0 4, u.2.1 0 5, u.2.1 0 6, u.2.1 0 7]) rfl hl.1 rfl (Nat.le_of_ble_eq_true rfl) dL_law_885 hce (fun H locs hP1 hD1 hS => ?_)
  show W _ _ _ _ _ _ _ _ _ _ _ _ _ _ _ (F0 _ _ _ (.int (iZ (rRate K (xs (i + 1)).toInt (xs (i + 2)).toInt)) :: []))
  have pmb := lw_back (ch := lwC Y hv g9 u af tx ln pl su tk nu K Kto Kt ix z E C M T n9 tr tr kp Ki Kk F A) (ch' := lwC Y hv g9 u af tx ln pl su tk nu K Kto Kt ix z E C M T n9 (tRate tr K (xs (i + 1)).toInt (xs (i + 2)).toInt) tr kp Ki Kk F A) (ps := [0, 9, 2]) (by decide) (rfl) (w := svO Y hv (u.1 1) (u.1 2) (u.1 3) (u.1 4) (u.1 5) (u.1 6) (u.1 7) (u.1 8) (u.1 9) ++ (kiW Y (u.1 7) (tRate tr K (xs (i + 1)).toInt (xs (i + 2)).toInt) ++ cmW Y (u.1 2) (u.2.1 0) K)) (rfl)
  replace hP : va_P G vwCl (lwF (lwC Y hv g9 u af tx ln pl su tk nu K Kto Kt ix z E C M T n9 (tRate tr K (xs (i + 1)).toInt (xs (i + 2)).toInt) tr kp Ki Kk F A)) H := va_P_pm pmb hP1
  replace hD : va_D _ (lwF (lwC Y hv g9 u af tx ln pl su tk nu K Kto Kt ix z E C M T n9 (tRate tr K (xs (i + 1)).toInt (xs (i + 2)).toInt) tr kp Ki Kk F A)) := va_D_pm pmb hD1
  clear pmb hP1 hD1 hP0 hD0
  refine lv_aload_n hx hb dL_law_888 rfl (lv_at hl 2 rfl) ?_
  refine lv_aload_n hx hb dL_law_889 rfl (lv_at hl 0 rfl) ?_
  refine lv_iload_n hx hb dL_law_890 rfl (lv_at hl 3 rfl) ?_
  refine z_iconst hx hb dL_law_891 ?_
  refine z_iadd hx hb dL_law_892 ?_
  refine z_sld hx hb hX hbA hS (i + 1) (by omega) dL_law_893 ?_
  refine lv_aload_n hx hb dL_law_894 rfl (lv_at hl 0 rfl) ?_
  refine lv_iload_n hx hb dL_law_895 rfl (lv_at hl 3 rfl) ?_
  refine z_iconst hx hb dL_law_896 ?_
  refine z_iadd hx hb dL_law_897 ?_
  refine z_sld hx hb hX hbA hS (i + 2) (by omega) dL_law_898 ?_
  have hP0 := va_P_pm (lw_pm (lwC Y hv g9 u af tx ln pl su tk nu K Kto Kt ix z E C M T n9 (tRate tr K (xs (i + 1)).toInt (xs (i + 2)).toInt) tr kp Ki Kk F A) (ps := [12]) (by decide)) hP
  have hD0 := va_D_pm (lw_pm (lwC Y hv g9 u af tx ln pl su tk nu K Kto Kt ix z E C M T n9 (tRate tr K (xs (i + 1)).toInt (xs (i + 2)).toInt) tr kp Ki Kk F A) (ps := [12]) (by decide)) hD
  refine mu_V (As := [.int (iZ (xs (i + 1)).toInt), .int (iZ (xs (i + 2)).toInt)]) (rest := [.int (iZ (rRate K (xs (i + 1)).toInt (xs (i + 2)).toInt))]) (F := lwR [12] (lwC Y hv g9 u af tx ln pl su tk nu K Kto Kt ix z E C M T n9 (tRate tr K (xs (i + 1)).toInt (xs (i + 2)).toInt) tr kp Ki Kk F A)) (wc' := moW Y g9 af F A (tRate tr (kF F A (A 17)) (xs (i + 1)).toInt (xs (i + 2)).toInt)) ⟨hx, hb, hml, hown, hts⟩ (c_X7_rate l G Y g9 af F A tr hV hno (xs (i + 1)).toInt (xs (i + 2)).toInt ⟨ra1, ra2⟩) (cwV 2 hts gL_law_X7_rate rfl rfl rfl (by decide +kernel) ⟨Nat.le_of_ble_eq_true rfl, Nat.le_of_ble_eq_true rfl⟩) hK hP0 hD0 hS 0 rfl rfl (Eq.refl [g9, af 1, af 11, af 12, af 16, af 17, af 18, af 19, af 20, af 21, af 24]) rfl hl.1 rfl (Nat.le_of_ble_eq_true rfl) dL_law_899 hce (fun H locs hP1 hD1 hS => ?_)
  show W _ _ _ _ _ _ _ _ _ _ _ _ _ _ _ (F0 _ _ _ (.int (iZ (rRate (kF F A (A 17)) (xs (i + 1)).toInt (xs (i + 2)).toInt)) :: [.int (iZ (rRate K (xs (i + 1)).toInt (xs (i + 2)).toInt))]))
  rw [← (rRate_c hE (xs (i + 1)).toInt (xs (i + 2)).toInt tr).2] at hP1 hD1
  have pmb := lw_back (ch := lwC Y hv g9 u af tx ln pl su tk nu K Kto Kt ix z E C M T n9 (tRate tr K (xs (i + 1)).toInt (xs (i + 2)).toInt) tr kp Ki Kk F A) (ch' := lwC Y hv g9 u af tx ln pl su tk nu K Kto Kt ix z E C M T n9 (tRate tr K (xs (i + 1)).toInt (xs (i + 2)).toInt) (tRate tr K (xs (i + 1)).toInt (xs (i + 2)).toInt) kp Ki Kk F A) (ps := [12]) (by decide) (rfl) (w := moW Y g9 af F A (tRate tr K (xs (i + 1)).toInt (xs (i + 2)).toInt)) (rfl)
  replace hP : va_P G vwCl (lwF (lwC Y hv g9 u af tx ln pl su tk nu K Kto Kt ix z E C M T n9 (tRate tr K (xs (i + 1)).toInt (xs (i + 2)).toInt) (tRate tr K (xs (i + 1)).toInt (xs (i + 2)).toInt) kp Ki Kk F A)) H := va_P_pm pmb hP1
  replace hD : va_D _ (lwF (lwC Y hv g9 u af tx ln pl su tk nu K Kto Kt ix z E C M T n9 (tRate tr K (xs (i + 1)).toInt (xs (i + 2)).toInt) (tRate tr K (xs (i + 1)).toInt (xs (i + 2)).toInt) kp Ki Kk F A)) := va_D_pm pmb hD1
  clear pmb hP1 hD1 hP0 hD0
  refine z_cmpeq (tgt := 990) hx hb ((rRate_c hE _ _ tr).1.symm) dL_law_902 (by decide) ?_
  exact kk tx ln pl su tk nu K Kto Kt ix z E C M T n9 (tRate tr K (xs (i + 1)).toInt (xs (i + 2)).toInt) kp Ki Kk F A H locs (hI) ⟨hP, hD, hS⟩

set_option maxHeartbeats 4000000 in
set_option maxRecDepth 100000 in
theorem lc_keep {p : Program} {l : Launch} {e : Env} {s : State} {m : MethodId} {below : List Frame} {meth : Method} {c : Code} {H : Heap} {locs : List Loc} {cells slots : Nat} {Q : State → Prop} {G : va_G} {Y : Nat → ClassId} {b L : Nat} {xs : Nat → Int32} (X : lwX p s m meth c b L xs G Y) (hce : cells ≤ 600000 ∧ slots ≤ 7302249) {hv g9 : Nat} {u : svU} {af : Nat → Nat} {i : Nat} (hi : i + 4 ≤ L) {ls : Array Slot} (hl : lv_has ls 4 [(0, .ref b), (1, .ref hv), (2, .ref g9), (3, .int (iZ ((i : Nat) : Int)))]) {tx : Nat → Int} {ln : Nat} {pl : Nat} {su : Bool} {tk : Nat} {nu : Int} {K : Kom} {Kto : Kom} {Kt : Kom} {ix : Nat} {z : Nat} {E : Nat → Int} {C : Nat → Int} {M : Nat → Int} {T : Nat → Int} {n9 : Int} {tr : Int64} {kp : Nat → Int} {Ki : Nat → Kom} {Kk : Nat → Kom} {F : Nat → Int} {A : Kom} (hI : lwI tx ln tk K Kto ix z M T n9 kp Ki Kk F A) (hH : lwH G s (lwC Y hv g9 u af tx ln pl su tk nu K Kto Kt ix z E C M T n9 tr tr kp Ki Kk F A) H locs) (kk : lwK p l e s m below meth c cells slots Q G Y b hv g9 u af ls) : W p l e room_1 s m #[Value.ref b] below meth c H locs cells slots Q (F0 m 907 ls []) := by
  obtain ⟨hx, hb, hml, hown, hts, hX, hK⟩ := X
  obtain ⟨hP, hD, hS⟩ := hH
  have hbA : ¬ (fun q : Nat => s.heap.size ≤ q) b := Nat.not_le.mpr hX.2.1
  have i1 := hI.1
  have i2 := hI.2.1
  have i3 := hI.2.2.1
  have i4 := hI.2.2.2.1
  have i5 := hI.2.2.2.2.1
  have i6 := hI.2.2.2.2.2
  have hW := i2.1
  have hE := i2.2.1
  have hV := i2.2.2.1
  have h26 := i2.2.2.2
  have hno : F 26 < 0 := by omega
  have hKb := hW.1
  have hvb := mV_b hV
  have hk2 : K 0 2 = A 17 3 := hE.k2
  have hL9 := hX.2.2
  have ra1 := iZ_range (xs (i + 1))
  rcases (show (xs (i + 1)).toInt = ((0 : Nat) : Int) ∨ (xs (i + 1)).toInt = ((1 : Nat) : Int) ∨ ¬ (0 ≤ (xs (i + 1)).toInt ∧ (xs (i + 1)).toInt ≤ 1) by omega) with hc | hc | hc
  · skip
    have hf : fImg (xs (i + 1)).toInt = true := decide_eq_true (by omega)
    refine lv_aload_n hx hb dL_law_907 rfl (lv_at hl 1 rfl) ?_
    refine lv_aload_n hx hb dL_law_908 rfl (lv_at hl 0 rfl) ?_
    refine lv_iload_n hx hb dL_law_909 rfl (lv_at hl 3 rfl) ?_
    refine z_iconst hx hb dL_law_910 ?_
    refine z_iadd hx hb dL_law_911 ?_
    refine z_sld hx hb hX hbA hS (i + 1) (by omega) dL_law_912 ?_
    have hP0 := va_P_pm (lw_pm (lwC Y hv g9 u af tx ln pl su tk nu K Kto Kt ix z E C M T n9 tr tr kp Ki Kk F A) (ps := [0, 10, 11, 13, 2]) (by decide)) hP
    have hD0 := va_D_pm (lw_pm (lwC Y hv g9 u af tx ln pl su tk nu K Kto Kt ix z E C M T n9 tr tr kp Ki Kk F A) (ps := [0, 10, 11, 13, 2]) (by decide)) hD
    refine mu_V (As := [.int (iZ (xs (i + 1)).toInt)]) (rest := []) (F := lwR [0, 10, 11, 13, 2] (lwC Y hv g9 u af tx ln pl su tk nu K Kto Kt ix z E C M T n9 tr tr kp Ki Kk F A)) (wc' := svO Y hv (u.1 1) (u.1 2) (u.1 3) (u.1 4) (u.1 5) (u.1 6) (u.1 7) (u.1 8) (u.1 9) ++ (imW Y (u.1 8) (u.2.1 4) ++ (ikW Y (u.1 9) (bif fImg (xs (i + 1)).toInt then va_up kp (Int.toNat (xs (i + 1)).toInt) 1 else kp) ++ (cmW Y (u.2.1 4 0) (u.2.2.2 0) (bif fImg (xs (i + 1)).toInt then K else Ki 0) ++ cmW Y (u.1 2) (u.2.1 0) K)))) ⟨hx, hb, hml, hown, hts⟩ (c_X6_keep l G Y hv (u.1 1) (u.1 2) (u.1 3) (u.1 4) (u.1 5) (u.1 6) (u.1 7) (u.1 8) (u.1 9) (u.2.1 4) kp 0 (u.2.2.2 0) (Ki 0) (u.2.1 0) K hW (xs (i + 1)).toInt ⟨ra1, by omega, by decide⟩) (cwV 1 hts gL_law_X6_keep rfl rfl rfl (by decide +kernel) ⟨Nat.le_of_ble_eq_true rfl, Nat.le_of_ble_eq_true rfl⟩) hK hP0 hD0 hS 0 rfl rfl (Eq.refl [hv, u.1 8, u.1 9, u.2.1 4 0, u.2.2.2 0 1, u.2.2.2 0 2, u.2.2.2 0 3, u.2.2.2 0 4, u.2.2.2 0 5, u.2.2.2 0 6, u.2.2.2 0 7, u.1 2, u.2.1 0 1, u.2.1 0 2, u.2.1 0 3, u.2.1 0 4, u.2.1 0 5, u.2.1 0 6, u.2.1 0 7]) rfl hl.1 rfl (Nat.le_of_ble_eq_true rfl) dL_law_913 hce (fun H locs hP1 hD1 hS => ?_)
    show W _ _ _ _ _ _ _ _ _ _ _ _ _ _ _ (F0 _ _ _ (.int (iZ (rKeep K (xs (i + 1)).toInt)) :: []))
    rw [hf, cond_true, cond_true] at hP1 hD1
    have pmb := lw_back (ch := lwC Y hv g9 u af tx ln pl su tk nu K Kto Kt ix z E C M T n9 tr tr kp Ki Kk F A) (ch' := lwC Y hv g9 u af tx ln pl su tk nu K Kto Kt ix z E C M T n9 tr tr (va_up kp (Int.toNat (xs (i + 1)).toInt) 1) (va_up Ki 0 K) Kk F A) (ps := [0, 10, 11, 13, 2]) (by decide) (rfl) (w := svO Y hv (u.1 1) (u.1 2) (u.1 3) (u.1 4) (u.1 5) (u.1 6) (u.1 7) (u.1 8) (u.1 9) ++ (imW Y (u.1 8) (u.2.1 4) ++ (ikW Y (u.1 9) (va_up kp (Int.toNat (xs (i + 1)).toInt) 1) ++ (cmW Y (u.2.1 4 0) (u.2.2.2 0) K ++ cmW Y (u.1 2) (u.2.1 0) K)))) (rfl)
    replace hP : va_P G vwCl (lwF (lwC Y hv g9 u af tx ln pl su tk nu K Kto Kt ix z E C M T n9 tr tr (va_up kp (Int.toNat (xs (i + 1)).toInt) 1) (va_up Ki 0 K) Kk F A)) H := va_P_pm pmb hP1
    replace hD : va_D _ (lwF (lwC Y hv g9 u af tx ln pl su tk nu K Kto Kt ix z E C M T n9 tr tr (va_up kp (Int.toNat (xs (i + 1)).toInt) 1) (va_up Ki 0 K) Kk F A)) := va_D_pm pmb hD1
    clear pmb hP1 hD1 hP0 hD0
    refine lv_aload_n hx hb dL_law_916 rfl (lv_at hl 2 rfl) ?_
    refine lv_aload_n hx hb dL_law_917 rfl (lv_at hl 0 rfl) ?_
    refine lv_iload_n hx hb dL_law_918 rfl (lv_at hl 3 rfl) ?_
    refine z_iconst hx hb dL_law_919 ?_
    refine z_iadd hx hb dL_law_920 ?_
    refine z_sld hx hb hX hbA hS (i + 1) (by omega) dL_law_921 ?_
    have hP0 := va_P_pm (lw_pm (lwC Y hv g9 u af tx ln pl su tk nu K Kto Kt ix z E C M T n9 tr tr (va_up kp (Int.toNat (xs (i + 1)).toInt) 1) (va_up Ki 0 K) Kk F A) (ps := [12]) (by decide)) hP
    have hD0 := va_D_pm (lw_pm (lwC Y hv g9 u af tx ln pl su tk nu K Kto Kt ix z E C M T n9 tr tr (va_up kp (Int.toNat (xs (i + 1)).toInt) 1) (va_up Ki 0 K) Kk F A) (ps := [12]) (by decide)) hD
    refine mu_V (As := [.int (iZ (xs (i + 1)).toInt)]) (rest := [.int (iZ (rKeep K (xs (i + 1)).toInt))]) (F := lwR [12] (lwC Y hv g9 u af tx ln pl su tk nu K Kto Kt ix z E C M T n9 tr tr (va_up kp (Int.toNat (xs (i + 1)).toInt) 1) (va_up Ki 0 K) Kk F A)) (wc' := moW Y g9 af F (bif fImg (xs (i + 1)).toInt then va_up (va_up A 19 (va_cpy (A 17) (A 19) 0 (36 * (xs (i + 1)).toInt).toNat 36)) 20 (va_up (A 20) (Int.toNat (xs (i + 1)).toInt) 1) else A) tr) ⟨hx, hb, hml, hown, hts⟩ (c_X7_keep l G Y g9 af F A tr (xs (i + 1)).toInt ra1) (cwV 1 hts gL_law_X7_keep rfl rfl rfl (by decide +kernel) ⟨Nat.le_of_ble_eq_true rfl, Nat.le_of_ble_eq_true rfl⟩) hK hP0 hD0 hS 0 rfl rfl (Eq.refl [g9, af 1, af 11, af 12, af 16, af 17, af 18, af 19, af 20, af 21, af 24]) rfl hl.1 rfl (Nat.le_of_ble_eq_true rfl) dL_law_922 hce (fun H locs hP1 hD1 hS => ?_)
    show W _ _ _ _ _ _ _ _ _ _ _ _ _ _ _ (F0 _ _ _ (.int (iZ (rKeep (kF F A (A 17)) (xs (i + 1)).toInt)) :: [.int (iZ (rKeep K (xs (i + 1)).toInt))]))
    rw [hf, cond_true] at hP1 hD1
    have pmb := lw_back (ch := lwC Y hv g9 u af tx ln pl su tk nu K Kto Kt ix z E C M T n9 tr tr (va_up kp (Int.toNat (xs (i + 1)).toInt) 1) (va_up Ki 0 K) Kk F A) (ch' := lwC Y hv g9 u af tx ln pl su tk nu K Kto Kt ix z E C M T n9 tr tr (va_up kp (Int.toNat (xs (i + 1)).toInt) 1) (va_up Ki 0 K) Kk F (va_up (va_up A 19 (va_cpy (A 17) (A 19) 0 (36 * (xs (i + 1)).toInt).toNat 36)) 20 (va_up (A 20) (Int.toNat (xs (i + 1)).toInt) 1))) (ps := [12]) (by decide) (rfl) (w := moW Y g9 af F (va_up (va_up A 19 (va_cpy (A 17) (A 19) 0 (36 * (xs (i + 1)).toInt).toNat 36)) 20 (va_up (A 20) (Int.toNat (xs (i + 1)).toInt) 1)) tr) (rfl)
    replace hP : va_P G vwCl (lwF (lwC Y hv g9 u af tx ln pl su tk nu K Kto Kt ix z E C M T n9 tr tr (va_up kp (Int.toNat (xs (i + 1)).toInt) 1) (va_up Ki 0 K) Kk F (va_up (va_up A 19 (va_cpy (A 17) (A 19) 0 (36 * (xs (i + 1)).toInt).toNat 36)) 20 (va_up (A 20) (Int.toNat (xs (i + 1)).toInt) 1)))) H := va_P_pm pmb hP1
    replace hD : va_D _ (lwF (lwC Y hv g9 u af tx ln pl su tk nu K Kto Kt ix z E C M T n9 tr tr (va_up kp (Int.toNat (xs (i + 1)).toInt) 1) (va_up Ki 0 K) Kk F (va_up (va_up A 19 (va_cpy (A 17) (A 19) 0 (36 * (xs (i + 1)).toInt).toNat 36)) 20 (va_up (A 20) (Int.toNat (xs (i + 1)).toInt) 1)))) := va_D_pm pmb hD1
    clear pmb hP1 hD1 hP0 hD0
    refine z_cmpeq (tgt := 990) hx hb ((rKeep_c hE _).symm) dL_law_925 (by decide) ?_
    exact kk tx ln pl su tk nu K Kto Kt ix z E C M T n9 tr (va_up kp (Int.toNat (xs (i + 1)).toInt) 1) (va_up Ki 0 K) Kk F (va_up (va_up A 19 (va_cpy (A 17) (A 19) 0 (36 * (xs (i + 1)).toInt).toNat 36)) 20 (va_up (A 20) (Int.toNat (xs (i + 1)).toInt) 1)) H locs (lwI_keep hI (i := 0) (by decide) hc) ⟨hP, hD, hS⟩
  · skip
    have hf : fImg (xs (i + 1)).toInt = true := decide_eq_true (by omega)
    refine lv_aload_n hx hb dL_law_907 rfl (lv_at hl 1 rfl) ?_
    refine lv_aload_n hx hb dL_law_908 rfl (lv_at hl 0 rfl) ?_
    refine lv_iload_n hx hb dL_law_909 rfl (lv_at hl 3 rfl) ?_
    refine z_iconst hx hb dL_law_910 ?_
    refine z_iadd hx hb dL_law_911 ?_
    refine z_sld hx hb hX hbA hS (i + 1) (by omega) dL_law_912 ?_
    have hP0 := va_P_pm (lw_pm (lwC Y hv g9 u af tx ln pl su tk nu K Kto Kt ix z E C M T n9 tr tr kp Ki Kk F A) (ps := [0, 10, 11, 14, 2]) (by decide)) hP
    have hD0 := va_D_pm (lw_pm (lwC Y hv g9 u af tx ln pl su tk nu K Kto Kt ix z E C M T n9 tr tr kp Ki Kk F A) (ps := [0, 10, 11, 14, 2]) (by decide)) hD
    refine mu_V (As := [.int (iZ (xs (i + 1)).toInt)]) (rest := []) (F := lwR [0, 10, 11, 14, 2] (lwC Y hv g9 u af tx ln pl su tk nu K Kto Kt ix z E C M T n9 tr tr kp Ki Kk F A)) (wc' := svO Y hv (u.1 1) (u.1 2) (u.1 3) (u.1 4) (u.1 5) (u.1 6) (u.1 7) (u.1 8) (u.1 9) ++ (imW Y (u.1 8) (u.2.1 4) ++ (ikW Y (u.1 9) (bif fImg (xs (i + 1)).toInt then va_up kp (Int.toNat (xs (i + 1)).toInt) 1 else kp) ++ (cmW Y (u.2.1 4 1) (u.2.2.2 1) (bif fImg (xs (i + 1)).toInt then K else Ki 1) ++ cmW Y (u.1 2) (u.2.1 0) K)))) ⟨hx, hb, hml, hown, hts⟩ (c_X6_keep l G Y hv (u.1 1) (u.1 2) (u.1 3) (u.1 4) (u.1 5) (u.1 6) (u.1 7) (u.1 8) (u.1 9) (u.2.1 4) kp 1 (u.2.2.2 1) (Ki 1) (u.2.1 0) K hW (xs (i + 1)).toInt ⟨ra1, by omega, by decide⟩) (cwV 1 hts gL_law_X6_keep rfl rfl rfl (by decide +kernel) ⟨Nat.le_of_ble_eq_true rfl, Nat.le_of_ble_eq_true rfl⟩) hK hP0 hD0 hS 0 rfl rfl (Eq.refl [hv, u.1 8, u.1 9, u.2.1 4 1, u.2.2.2 1 1, u.2.2.2 1 2, u.2.2.2 1 3, u.2.2.2 1 4, u.2.2.2 1 5, u.2.2.2 1 6, u.2.2.2 1 7, u.1 2, u.2.1 0 1, u.2.1 0 2, u.2.1 0 3, u.2.1 0 4, u.2.1 0 5, u.2.1 0 6, u.2.1 0 7]) rfl hl.1 rfl (Nat.le_of_ble_eq_true rfl) dL_law_913 hce (fun H locs hP1 hD1 hS => ?_)
    show W _ _ _ _ _ _ _ _ _ _ _ _ _ _ _ (F0 _ _ _ (.int (iZ (rKeep K (xs (i + 1)).toInt)) :: []))
    rw [hf, cond_true, cond_true] at hP1 hD1
    have pmb := lw_back (ch := lwC Y hv g9 u af tx ln pl su tk nu K Kto Kt ix z E C M T n9 tr tr kp Ki Kk F A) (ch' := lwC Y hv g9 u af tx ln pl su tk nu K Kto Kt ix z E C M T n9 tr tr (va_up kp (Int.toNat (xs (i + 1)).toInt) 1) (va_up Ki 1 K) Kk F A) (ps := [0, 10, 11, 14, 2]) (by decide) (rfl) (w := svO Y hv (u.1 1) (u.1 2) (u.1 3) (u.1 4) (u.1 5) (u.1 6) (u.1 7) (u.1 8) (u.1 9) ++ (imW Y (u.1 8) (u.2.1 4) ++ (ikW Y (u.1 9) (va_up kp (Int.toNat (xs (i + 1)).toInt) 1) ++ (cmW Y (u.2.1 4 1) (u.2.2.2 1) K ++ cmW Y (u.1 2) (u.2.1 0) K)))) (rfl)
    replace hP : va_P G vwCl (lwF (lwC Y hv g9 u af tx ln pl su tk nu K Kto Kt ix z E C M T n9 tr tr (va_up kp (Int.toNat (xs (i + 1)).toInt) 1) (va_up Ki 1 K) Kk F A)) H := va_P_pm pmb hP1
    replace hD : va_D _ (lwF (lwC Y hv g9 u af tx ln pl su tk nu K Kto Kt ix z E C M T n9 tr tr (va_up kp (Int.toNat (xs (i + 1)).toInt) 1) (va_up Ki 1 K) Kk F A)) := va_D_pm pmb hD1
    clear pmb hP1 hD1 hP0 hD0
    refine lv_aload_n hx hb dL_law_916 rfl (lv_at hl 2 rfl) ?_
    refine lv_aload_n hx hb dL_law_917 rfl (lv_at hl 0 rfl) ?_
    refine lv_iload_n hx hb dL_law_918 rfl (lv_at hl 3 rfl) ?_
    refine z_iconst hx hb dL_law_919 ?_
    refine z_iadd hx hb dL_law_920 ?_
    refine z_sld hx hb hX hbA hS (i + 1) (by omega) dL_law_921 ?_
    have hP0 := va_P_pm (lw_pm (lwC Y hv g9 u af tx ln pl su tk nu K Kto Kt ix z E C M T n9 tr tr (va_up kp (Int.toNat (xs (i + 1)).toInt) 1) (va_up Ki 1 K) Kk F A) (ps := [12]) (by decide)) hP
    have hD0 := va_D_pm (lw_pm (lwC Y hv g9 u af tx ln pl su tk nu K Kto Kt ix z E C M T n9 tr tr (va_up kp (Int.toNat (xs (i + 1)).toInt) 1) (va_up Ki 1 K) Kk F A) (ps := [12]) (by decide)) hD
    refine mu_V (As := [.int (iZ (xs (i + 1)).toInt)]) (rest := [.int (iZ (rKeep K (xs (i + 1)).toInt))]) (F := lwR [12] (lwC Y hv g9 u af tx ln pl su tk nu K Kto Kt ix z E C M T n9 tr tr (va_up kp (Int.toNat (xs (i + 1)).toInt) 1) (va_up Ki 1 K) Kk F A)) (wc' := moW Y g9 af F (bif fImg (xs (i + 1)).toInt then va_up (va_up A 19 (va_cpy (A 17) (A 19) 0 (36 * (xs (i + 1)).toInt).toNat 36)) 20 (va_up (A 20) (Int.toNat (xs (i + 1)).toInt) 1) else A) tr) ⟨hx, hb, hml, hown, hts⟩ (c_X7_keep l G Y g9 af F A tr (xs (i + 1)).toInt ra1) (cwV 1 hts gL_law_X7_keep rfl rfl rfl (by decide +kernel) ⟨Nat.le_of_ble_eq_true rfl, Nat.le_of_ble_eq_true rfl⟩) hK hP0 hD0 hS 0 rfl rfl (Eq.refl [g9, af 1, af 11, af 12, af 16, af 17, af 18, af 19, af 20, af 21, af 24]) rfl hl.1 rfl (Nat.le_of_ble_eq_true rfl) dL_law_922 hce (fun H locs hP1 hD1 hS => ?_)
    show W _ _ _ _ _ _ _ _ _ _ _ _ _ _ _ (F0 _ _ _ (.int (iZ (rKeep (kF F A (A 17)) (xs (i + 1)).toInt)) :: [.int (iZ (rKeep K (xs (i + 1)).toInt))]))
    rw [hf, cond_true] at hP1 hD1
    have pmb := lw_back (ch := lwC Y hv g9 u af tx ln pl su tk nu K Kto Kt ix z E C M T n9 tr tr (va_up kp (Int.toNat (xs (i + 1)).toInt) 1) (va_up Ki 1 K) Kk F A) (ch' := lwC Y hv g9 u af tx ln pl su tk nu K Kto Kt ix z E C M T n9 tr tr (va_up kp (Int.toNat (xs (i + 1)).toInt) 1) (va_up Ki 1 K) Kk F (va_up (va_up A 19 (va_cpy (A 17) (A 19) 0 (36 * (xs (i + 1)).toInt).toNat 36)) 20 (va_up (A 20) (Int.toNat (xs (i + 1)).toInt) 1))) (ps := [12]) (by decide) (rfl) (w := moW Y g9 af F (va_up (va_up A 19 (va_cpy (A 17) (A 19) 0 (36 * (xs (i + 1)).toInt).toNat 36)) 20 (va_up (A 20) (Int.toNat (xs (i + 1)).toInt) 1)) tr) (rfl)
    replace hP : va_P G vwCl (lwF (lwC Y hv g9 u af tx ln pl su tk nu K Kto Kt ix z E C M T n9 tr tr (va_up kp (Int.toNat (xs (i + 1)).toInt) 1) (va_up Ki 1 K) Kk F (va_up (va_up A 19 (va_cpy (A 17) (A 19) 0 (36 * (xs (i + 1)).toInt).toNat 36)) 20 (va_up (A 20) (Int.toNat (xs (i + 1)).toInt) 1)))) H := va_P_pm pmb hP1
    replace hD : va_D _ (lwF (lwC Y hv g9 u af tx ln pl su tk nu K Kto Kt ix z E C M T n9 tr tr (va_up kp (Int.toNat (xs (i + 1)).toInt) 1) (va_up Ki 1 K) Kk F (va_up (va_up A 19 (va_cpy (A 17) (A 19) 0 (36 * (xs (i + 1)).toInt).toNat 36)) 20 (va_up (A 20) (Int.toNat (xs (i + 1)).toInt) 1)))) := va_D_pm pmb hD1
    clear pmb hP1 hD1 hP0 hD0
    refine z_cmpeq (tgt := 990) hx hb ((rKeep_c hE _).symm) dL_law_925 (by decide) ?_
    exact kk tx ln pl su tk nu K Kto Kt ix z E C M T n9 tr (va_up kp (Int.toNat (xs (i + 1)).toInt) 1) (va_up Ki 1 K) Kk F (va_up (va_up A 19 (va_cpy (A 17) (A 19) 0 (36 * (xs (i + 1)).toInt).toNat 36)) 20 (va_up (A 20) (Int.toNat (xs (i + 1)).toInt) 1)) H locs (lwI_keep hI (i := 1) (by decide) hc) ⟨hP, hD, hS⟩
  · skip
    have hf : fImg (xs (i + 1)).toInt = false := decide_eq_false (by omega)
    refine lv_aload_n hx hb dL_law_907 rfl (lv_at hl 1 rfl) ?_
    refine lv_aload_n hx hb dL_law_908 rfl (lv_at hl 0 rfl) ?_
    refine lv_iload_n hx hb dL_law_909 rfl (lv_at hl 3 rfl) ?_
    refine z_iconst hx hb dL_law_910 ?_
    refine z_iadd hx hb dL_law_911 ?_
    refine z_sld hx hb hX hbA hS (i + 1) (by omega) dL_law_912 ?_
    have hP0 := va_P_pm (lw_pm (lwC Y hv g9 u af tx ln pl su tk nu K Kto Kt ix z E C M T n9 tr tr kp Ki Kk F A) (ps := [0, 10, 11, 13, 2]) (by decide)) hP
    have hD0 := va_D_pm (lw_pm (lwC Y hv g9 u af tx ln pl su tk nu K Kto Kt ix z E C M T n9 tr tr kp Ki Kk F A) (ps := [0, 10, 11, 13, 2]) (by decide)) hD
    refine mu_V (As := [.int (iZ (xs (i + 1)).toInt)]) (rest := []) (F := lwR [0, 10, 11, 13, 2] (lwC Y hv g9 u af tx ln pl su tk nu K Kto Kt ix z E C M T n9 tr tr kp Ki Kk F A)) (wc' := svO Y hv (u.1 1) (u.1 2) (u.1 3) (u.1 4) (u.1 5) (u.1 6) (u.1 7) (u.1 8) (u.1 9) ++ (imW Y (u.1 8) (u.2.1 4) ++ (ikW Y (u.1 9) (bif fImg (xs (i + 1)).toInt then va_up kp (Int.toNat (xs (i + 1)).toInt) 1 else kp) ++ (cmW Y (u.2.1 4 0) (u.2.2.2 0) (bif fImg (xs (i + 1)).toInt then K else Ki 0) ++ cmW Y (u.1 2) (u.2.1 0) K)))) ⟨hx, hb, hml, hown, hts⟩ (c_X6_keep l G Y hv (u.1 1) (u.1 2) (u.1 3) (u.1 4) (u.1 5) (u.1 6) (u.1 7) (u.1 8) (u.1 9) (u.2.1 4) kp 0 (u.2.2.2 0) (Ki 0) (u.2.1 0) K hW (xs (i + 1)).toInt ⟨ra1, by omega, by decide⟩) (cwV 1 hts gL_law_X6_keep rfl rfl rfl (by decide +kernel) ⟨Nat.le_of_ble_eq_true rfl, Nat.le_of_ble_eq_true rfl⟩) hK hP0 hD0 hS 0 rfl rfl (Eq.refl [hv, u.1 8, u.1 9, u.2.1 4 0, u.2.2.2 0 1, u.2.2.2 0 2, u.2.2.2 0 3, u.2.2.2 0 4, u.2.2.2 0 5, u.2.2.2 0 6, u.2.2.2 0 7, u.1 2, u.2.1 0 1, u.2.1 0 2, u.2.1 0 3, u.2.1 0 4, u.2.1 0 5, u.2.1 0 6, u.2.1 0 7]) rfl hl.1 rfl (Nat.le_of_ble_eq_true rfl) dL_law_913 hce (fun H locs hP1 hD1 hS => ?_)
    show W _ _ _ _ _ _ _ _ _ _ _ _ _ _ _ (F0 _ _ _ (.int (iZ (rKeep K (xs (i + 1)).toInt)) :: []))
    rw [hf, cond_false, cond_false] at hP1 hD1
    have pmb := lw_back (ch := lwC Y hv g9 u af tx ln pl su tk nu K Kto Kt ix z E C M T n9 tr tr kp Ki Kk F A) (ch' := lwC Y hv g9 u af tx ln pl su tk nu K Kto Kt ix z E C M T n9 tr tr kp Ki Kk F A) (ps := [0, 10, 11, 13, 2]) (by decide) (rfl) (w := svO Y hv (u.1 1) (u.1 2) (u.1 3) (u.1 4) (u.1 5) (u.1 6) (u.1 7) (u.1 8) (u.1 9) ++ (imW Y (u.1 8) (u.2.1 4) ++ (ikW Y (u.1 9) kp ++ (cmW Y (u.2.1 4 0) (u.2.2.2 0) (Ki 0) ++ cmW Y (u.1 2) (u.2.1 0) K)))) (rfl)
    replace hP : va_P G vwCl (lwF (lwC Y hv g9 u af tx ln pl su tk nu K Kto Kt ix z E C M T n9 tr tr kp Ki Kk F A)) H := va_P_pm pmb hP1
    replace hD : va_D _ (lwF (lwC Y hv g9 u af tx ln pl su tk nu K Kto Kt ix z E C M T n9 tr tr kp Ki Kk F A)) := va_D_pm pmb hD1
    clear pmb hP1 hD1 hP0 hD0
    refine lv_aload_n hx hb dL_law_916 rfl (lv_at hl 2 rfl) ?_
    refine lv_aload_n hx hb dL_law_917 rfl (lv_at hl 0 rfl) ?_
    refine lv_iload_n hx hb dL_law_918 rfl (lv_at hl 3 rfl) ?_
    refine z_iconst hx hb dL_law_919 ?_
    refine z_iadd hx hb dL_law_920 ?_
    refine z_sld hx hb hX hbA hS (i + 1) (by omega) dL_law_921 ?_
    have hP0 := va_P_pm (lw_pm (lwC Y hv g9 u af tx ln pl su tk nu K Kto Kt ix z E C M T n9 tr tr kp Ki Kk F A) (ps := [12]) (by decide)) hP
    have hD0 := va_D_pm (lw_pm (lwC Y hv g9 u af tx ln pl su tk nu K Kto Kt ix z E C M T n9 tr tr kp Ki Kk F A) (ps := [12]) (by decide)) hD
    refine mu_V (As := [.int (iZ (xs (i + 1)).toInt)]) (rest := [.int (iZ (rKeep K (xs (i + 1)).toInt))]) (F := lwR [12] (lwC Y hv g9 u af tx ln pl su tk nu K Kto Kt ix z E C M T n9 tr tr kp Ki Kk F A)) (wc' := moW Y g9 af F (bif fImg (xs (i + 1)).toInt then va_up (va_up A 19 (va_cpy (A 17) (A 19) 0 (36 * (xs (i + 1)).toInt).toNat 36)) 20 (va_up (A 20) (Int.toNat (xs (i + 1)).toInt) 1) else A) tr) ⟨hx, hb, hml, hown, hts⟩ (c_X7_keep l G Y g9 af F A tr (xs (i + 1)).toInt ra1) (cwV 1 hts gL_law_X7_keep rfl rfl rfl (by decide +kernel) ⟨Nat.le_of_ble_eq_true rfl, Nat.le_of_ble_eq_true rfl⟩) hK hP0 hD0 hS 0 rfl rfl (Eq.refl [g9, af 1, af 11, af 12, af 16, af 17, af 18, af 19, af 20, af 21, af 24]) rfl hl.1 rfl (Nat.le_of_ble_eq_true rfl) dL_law_922 hce (fun H locs hP1 hD1 hS => ?_)
    show W _ _ _ _ _ _ _ _ _ _ _ _ _ _ _ (F0 _ _ _ (.int (iZ (rKeep (kF F A (A 17)) (xs (i + 1)).toInt)) :: [.int (iZ (rKeep K (xs (i + 1)).toInt))]))
    rw [hf, cond_false] at hP1 hD1
    have pmb := lw_back (ch := lwC Y hv g9 u af tx ln pl su tk nu K Kto Kt ix z E C M T n9 tr tr kp Ki Kk F A) (ch' := lwC Y hv g9 u af tx ln pl su tk nu K Kto Kt ix z E C M T n9 tr tr kp Ki Kk F A) (ps := [12]) (by decide) (rfl) (w := moW Y g9 af F A tr) (rfl)
    replace hP : va_P G vwCl (lwF (lwC Y hv g9 u af tx ln pl su tk nu K Kto Kt ix z E C M T n9 tr tr kp Ki Kk F A)) H := va_P_pm pmb hP1
    replace hD : va_D _ (lwF (lwC Y hv g9 u af tx ln pl su tk nu K Kto Kt ix z E C M T n9 tr tr kp Ki Kk F A)) := va_D_pm pmb hD1
    clear pmb hP1 hD1 hP0 hD0
    refine z_cmpeq (tgt := 990) hx hb ((rKeep_c hE _).symm) dL_law_925 (by decide) ?_
    exact kk tx ln pl su tk nu K Kto Kt ix z E C M T n9 tr kp Ki Kk F A H locs (hI) ⟨hP, hD, hS⟩

set_option maxHeartbeats 4000000 in
set_option maxRecDepth 100000 in
theorem lc_back {p : Program} {l : Launch} {e : Env} {s : State} {m : MethodId} {below : List Frame} {meth : Method} {c : Code} {H : Heap} {locs : List Loc} {cells slots : Nat} {Q : State → Prop} {G : va_G} {Y : Nat → ClassId} {b L : Nat} {xs : Nat → Int32} (X : lwX p s m meth c b L xs G Y) (hce : cells ≤ 600000 ∧ slots ≤ 7302249) {hv g9 : Nat} {u : svU} {af : Nat → Nat} {i : Nat} (hi : i + 4 ≤ L) {ls : Array Slot} (hl : lv_has ls 4 [(0, .ref b), (1, .ref hv), (2, .ref g9), (3, .int (iZ ((i : Nat) : Int)))]) {tx : Nat → Int} {ln : Nat} {pl : Nat} {su : Bool} {tk : Nat} {nu : Int} {K : Kom} {Kto : Kom} {Kt : Kom} {ix : Nat} {z : Nat} {E : Nat → Int} {C : Nat → Int} {M : Nat → Int} {T : Nat → Int} {n9 : Int} {tr : Int64} {kp : Nat → Int} {Ki : Nat → Kom} {Kk : Nat → Kom} {F : Nat → Int} {A : Kom} (hI : lwI tx ln tk K Kto ix z M T n9 kp Ki Kk F A) (hH : lwH G s (lwC Y hv g9 u af tx ln pl su tk nu K Kto Kt ix z E C M T n9 tr tr kp Ki Kk F A) H locs) (kk : lwK p l e s m below meth c cells slots Q G Y b hv g9 u af ls) : W p l e room_1 s m #[Value.ref b] below meth c H locs cells slots Q (F0 m 930 ls []) := by
  obtain ⟨hx, hb, hml, hown, hts, hX, hK⟩ := X
  obtain ⟨hP, hD, hS⟩ := hH
  have hbA : ¬ (fun q : Nat => s.heap.size ≤ q) b := Nat.not_le.mpr hX.2.1
  have i1 := hI.1
  have i2 := hI.2.1
  have i3 := hI.2.2.1
  have i4 := hI.2.2.2.1
  have i5 := hI.2.2.2.2.1
  have i6 := hI.2.2.2.2.2
  have hW := i2.1
  have hE := i2.2.1
  have hV := i2.2.2.1
  have h26 := i2.2.2.2
  have hno : F 26 < 0 := by omega
  have hKb := hW.1
  have hvb := mV_b hV
  have hk2 : K 0 2 = A 17 3 := hE.k2
  have hL9 := hX.2.2
  have ra1 := iZ_range (xs (i + 1))
  rcases (show (xs (i + 1)).toInt = ((0 : Nat) : Int) ∨ (xs (i + 1)).toInt = ((1 : Nat) : Int) ∨ ¬ (0 ≤ (xs (i + 1)).toInt ∧ (xs (i + 1)).toInt ≤ 1) by omega) with hc | hc | hc
  · skip
    by_cases hk : kp 0 = 0
    · skip
      have hf : fBack kp (xs (i + 1)).toInt = false := decide_eq_false (by rw [hc]; exact fun q => q.2 hk)
      refine lv_aload_n hx hb dL_law_930 rfl (lv_at hl 1 rfl) ?_
      refine lv_aload_n hx hb dL_law_931 rfl (lv_at hl 0 rfl) ?_
      refine lv_iload_n hx hb dL_law_932 rfl (lv_at hl 3 rfl) ?_
      refine z_iconst hx hb dL_law_933 ?_
      refine z_iadd hx hb dL_law_934 ?_
      refine z_sld hx hb hX hbA hS (i + 1) (by omega) dL_law_935 ?_
      have hP0 := va_P_pm (lw_pm (lwC Y hv g9 u af tx ln pl su tk nu K Kto Kt ix z E C M T n9 tr tr kp Ki Kk F A) (ps := [0, 10, 11, 13, 2, 4]) (by decide)) hP
      have hD0 := va_D_pm (lw_pm (lwC Y hv g9 u af tx ln pl su tk nu K Kto Kt ix z E C M T n9 tr tr kp Ki Kk F A) (ps := [0, 10, 11, 13, 2, 4]) (by decide)) hD
      refine mu_V (As := [.int (iZ (xs (i + 1)).toInt)]) (rest := []) (F := lwR [0, 10, 11, 13, 2, 4] (lwC Y hv g9 u af tx ln pl su tk nu K Kto Kt ix z E C M T n9 tr tr kp Ki Kk F A)) (wc' := svO Y hv (u.1 1) (u.1 2) (u.1 3) (u.1 4) (u.1 5) (u.1 6) (u.1 7) (u.1 8) (u.1 9) ++ (imW Y (u.1 8) (u.2.1 4) ++ (ikW Y (u.1 9) kp ++ (cmW Y (u.2.1 4 0) (u.2.2.2 0) (Ki 0) ++ (cmW Y (u.1 2) (u.2.1 0) (bif fBack kp (xs (i + 1)).toInt then Ki 0 else K) ++ paW Y (u.1 4) (u.1 11) (u.2.1 2) ((ix : Nat) : Int) (bif fBack kp (xs (i + 1)).toInt then 0 else ((z : Nat) : Int))))))) ⟨hx, hb, hml, hown, hts⟩ (c_X6_back l G Y hv (u.1 1) (u.1 2) (u.1 3) (u.1 4) (u.1 5) (u.1 6) (u.1 7) (u.1 8) (u.1 9) (u.2.1 4) kp 0 (u.2.2.2 0) (Ki 0) (u.2.1 0) K (u.1 11) (u.2.1 2) ((ix : Nat) : Int) ((z : Nat) : Int) (xs (i + 1)).toInt i6.2.1 (fun q1 q2 => (i6.2.2 0 (by decide) (by rw [hc] at q2; exact q2)).2.1) ⟨ra1, by omega, by decide⟩) (cwV 1 hts gL_law_X6_back rfl rfl rfl (by decide +kernel) ⟨Nat.le_of_ble_eq_true rfl, Nat.le_of_ble_eq_true rfl⟩) hK hP0 hD0 hS 0 rfl rfl (Eq.refl [hv, u.1 8, u.1 9, u.2.1 4 0, u.2.2.2 0 1, u.2.2.2 0 2, u.2.2.2 0 3, u.2.2.2 0 4, u.2.2.2 0 5, u.2.2.2 0 6, u.2.2.2 0 7, u.1 2, u.2.1 0 1, u.2.1 0 2, u.2.1 0 3, u.2.1 0 4, u.2.1 0 5, u.2.1 0 6, u.2.1 0 7, u.1 4, u.1 11]) rfl hl.1 rfl (Nat.le_of_ble_eq_true rfl) dL_law_936 hce (fun H locs hP1 hD1 hS => ?_)
      show W _ _ _ _ _ _ _ _ _ _ _ _ _ _ _ (F0 _ _ _ (.int (iZ (rBack kp (Ki 0) (xs (i + 1)).toInt)) :: []))
      rw [hf, cond_false, cond_false] at hP1 hD1
      have pmb := lw_back (ch := lwC Y hv g9 u af tx ln pl su tk nu K Kto Kt ix z E C M T n9 tr tr kp Ki Kk F A) (ch' := lwC Y hv g9 u af tx ln pl su tk nu K Kto Kt ix z E C M T n9 tr tr kp Ki Kk F A) (ps := [0, 10, 11, 13, 2, 4]) (by decide) (rfl) (w := svO Y hv (u.1 1) (u.1 2) (u.1 3) (u.1 4) (u.1 5) (u.1 6) (u.1 7) (u.1 8) (u.1 9) ++ (imW Y (u.1 8) (u.2.1 4) ++ (ikW Y (u.1 9) kp ++ (cmW Y (u.2.1 4 0) (u.2.2.2 0) (Ki 0) ++ (cmW Y (u.1 2) (u.2.1 0) K ++ paW Y (u.1 4) (u.1 11) (u.2.1 2) ((ix : Nat) : Int) ((z : Nat) : Int)))))) (rfl)
      replace hP : va_P G vwCl (lwF (lwC Y hv g9 u af tx ln pl su tk nu K Kto Kt ix z E C M T n9 tr tr kp Ki Kk F A)) H := va_P_pm pmb hP1
      replace hD : va_D _ (lwF (lwC Y hv g9 u af tx ln pl su tk nu K Kto Kt ix z E C M T n9 tr tr kp Ki Kk F A)) := va_D_pm pmb hD1
      clear pmb hP1 hD1 hP0 hD0
      refine lv_aload_n hx hb dL_law_939 rfl (lv_at hl 2 rfl) ?_
      refine lv_aload_n hx hb dL_law_940 rfl (lv_at hl 0 rfl) ?_
      refine lv_iload_n hx hb dL_law_941 rfl (lv_at hl 3 rfl) ?_
      refine z_iconst hx hb dL_law_942 ?_
      refine z_iadd hx hb dL_law_943 ?_
      refine z_sld hx hb hX hbA hS (i + 1) (by omega) dL_law_944 ?_
      have hP0 := va_P_pm (lw_pm (lwC Y hv g9 u af tx ln pl su tk nu K Kto Kt ix z E C M T n9 tr tr kp Ki Kk F A) (ps := [12]) (by decide)) hP
      have hD0 := va_D_pm (lw_pm (lwC Y hv g9 u af tx ln pl su tk nu K Kto Kt ix z E C M T n9 tr tr kp Ki Kk F A) (ps := [12]) (by decide)) hD
      refine mu_V (As := [.int (iZ (xs (i + 1)).toInt)]) (rest := [.int (iZ (rBack kp (Ki 0) (xs (i + 1)).toInt))]) (F := lwR [12] (lwC Y hv g9 u af tx ln pl su tk nu K Kto Kt ix z E C M T n9 tr tr kp Ki Kk F A)) (wc' := moW Y g9 af (bif fBack (A 20) (xs (i + 1)).toInt then va_up F 22 0 else F) (bif fBack (A 20) (xs (i + 1)).toInt then va_up A 17 (va_cpy (A 19) (A 17) (36 * (xs (i + 1)).toInt).toNat 0 36) else A) tr) ⟨hx, hb, hml, hown, hts⟩ (c_X7_back l G Y g9 af F A tr (xs (i + 1)).toInt ra1 (by rw [← i6.1]; exact i6.2.1)) (cwV 1 hts gL_law_X7_back rfl rfl rfl (by decide +kernel) ⟨Nat.le_of_ble_eq_true rfl, Nat.le_of_ble_eq_true rfl⟩) hK hP0 hD0 hS 0 rfl rfl (Eq.refl [g9, af 1, af 11, af 12, af 16, af 17, af 18, af 19, af 20, af 21, af 24]) rfl hl.1 rfl (Nat.le_of_ble_eq_true rfl) dL_law_945 hce (fun H locs hP1 hD1 hS => ?_)
      show W _ _ _ _ _ _ _ _ _ _ _ _ _ _ _ (F0 _ _ _ (.int (iZ (xBack A (xs (i + 1)).toInt)) :: [.int (iZ (rBack kp (Ki 0) (xs (i + 1)).toInt))]))
      have hf7 : fBack (A 20) (xs (i + 1)).toInt = false := by rw [← i6.1]; exact hf
      rw [hf7, cond_false, cond_false] at hP1 hD1
      have pmb := lw_back (ch := lwC Y hv g9 u af tx ln pl su tk nu K Kto Kt ix z E C M T n9 tr tr kp Ki Kk F A) (ch' := lwC Y hv g9 u af tx ln pl su tk nu K Kto Kt ix z E C M T n9 tr tr kp Ki Kk F A) (ps := [12]) (by decide) (rfl) (w := moW Y g9 af F A tr) (rfl)
      replace hP : va_P G vwCl (lwF (lwC Y hv g9 u af tx ln pl su tk nu K Kto Kt ix z E C M T n9 tr tr kp Ki Kk F A)) H := va_P_pm pmb hP1
      replace hD : va_D _ (lwF (lwC Y hv g9 u af tx ln pl su tk nu K Kto Kt ix z E C M T n9 tr tr kp Ki Kk F A)) := va_D_pm pmb hD1
      clear pmb hP1 hD1 hP0 hD0
      refine z_cmpeq (tgt := 990) hx hb (by rw [hc]; unfold xBack rBack; rw [if_pos (show 0 ≤ ((0 : Nat) : Int) ∧ ((0 : Nat) : Int) ≤ 1 by decide), if_pos (show 0 ≤ ((0 : Nat) : Int) ∧ ((0 : Nat) : Int) ≤ 1 by decide), ← i6.1, show Int.toNat ((0 : Nat) : Int) = 0 from rfl, if_pos hk, if_pos hk]) dL_law_948 (by decide) ?_
      exact kk tx ln pl su tk nu K Kto Kt ix z E C M T n9 tr kp Ki Kk F A H locs (hI) ⟨hP, hD, hS⟩
    · skip
      have hf : fBack kp (xs (i + 1)).toInt = true := decide_eq_true (by rw [hc]; exact ⟨by decide, hk⟩)
      refine lv_aload_n hx hb dL_law_930 rfl (lv_at hl 1 rfl) ?_
      refine lv_aload_n hx hb dL_law_931 rfl (lv_at hl 0 rfl) ?_
      refine lv_iload_n hx hb dL_law_932 rfl (lv_at hl 3 rfl) ?_
      refine z_iconst hx hb dL_law_933 ?_
      refine z_iadd hx hb dL_law_934 ?_
      refine z_sld hx hb hX hbA hS (i + 1) (by omega) dL_law_935 ?_
      have hP0 := va_P_pm (lw_pm (lwC Y hv g9 u af tx ln pl su tk nu K Kto Kt ix z E C M T n9 tr tr kp Ki Kk F A) (ps := [0, 10, 11, 13, 2, 4]) (by decide)) hP
      have hD0 := va_D_pm (lw_pm (lwC Y hv g9 u af tx ln pl su tk nu K Kto Kt ix z E C M T n9 tr tr kp Ki Kk F A) (ps := [0, 10, 11, 13, 2, 4]) (by decide)) hD
      refine mu_V (As := [.int (iZ (xs (i + 1)).toInt)]) (rest := []) (F := lwR [0, 10, 11, 13, 2, 4] (lwC Y hv g9 u af tx ln pl su tk nu K Kto Kt ix z E C M T n9 tr tr kp Ki Kk F A)) (wc' := svO Y hv (u.1 1) (u.1 2) (u.1 3) (u.1 4) (u.1 5) (u.1 6) (u.1 7) (u.1 8) (u.1 9) ++ (imW Y (u.1 8) (u.2.1 4) ++ (ikW Y (u.1 9) kp ++ (cmW Y (u.2.1 4 0) (u.2.2.2 0) (Ki 0) ++ (cmW Y (u.1 2) (u.2.1 0) (bif fBack kp (xs (i + 1)).toInt then Ki 0 else K) ++ paW Y (u.1 4) (u.1 11) (u.2.1 2) ((ix : Nat) : Int) (bif fBack kp (xs (i + 1)).toInt then 0 else ((z : Nat) : Int))))))) ⟨hx, hb, hml, hown, hts⟩ (c_X6_back l G Y hv (u.1 1) (u.1 2) (u.1 3) (u.1 4) (u.1 5) (u.1 6) (u.1 7) (u.1 8) (u.1 9) (u.2.1 4) kp 0 (u.2.2.2 0) (Ki 0) (u.2.1 0) K (u.1 11) (u.2.1 2) ((ix : Nat) : Int) ((z : Nat) : Int) (xs (i + 1)).toInt i6.2.1 (fun q1 q2 => (i6.2.2 0 (by decide) (by rw [hc] at q2; exact q2)).2.1) ⟨ra1, by omega, by decide⟩) (cwV 1 hts gL_law_X6_back rfl rfl rfl (by decide +kernel) ⟨Nat.le_of_ble_eq_true rfl, Nat.le_of_ble_eq_true rfl⟩) hK hP0 hD0 hS 0 rfl rfl (Eq.refl [hv, u.1 8, u.1 9, u.2.1 4 0, u.2.2.2 0 1, u.2.2.2 0 2, u.2.2.2 0 3, u.2.2.2 0 4, u.2.2.2 0 5, u.2.2.2 0 6, u.2.2.2 0 7, u.1 2, u.2.1 0 1, u.2.1 0 2, u.2.1 0 3, u.2.1 0 4, u.2.1 0 5, u.2.1 0 6, u.2.1 0 7, u.1 4, u.1 11]) rfl hl.1 rfl (Nat.le_of_ble_eq_true rfl) dL_law_936 hce (fun H locs hP1 hD1 hS => ?_)
      show W _ _ _ _ _ _ _ _ _ _ _ _ _ _ _ (F0 _ _ _ (.int (iZ (rBack kp (Ki 0) (xs (i + 1)).toInt)) :: []))
      rw [hf, cond_true, cond_true] at hP1 hD1
      have pmb := lw_back (ch := lwC Y hv g9 u af tx ln pl su tk nu K Kto Kt ix z E C M T n9 tr tr kp Ki Kk F A) (ch' := lwC Y hv g9 u af tx ln pl su tk nu (Ki 0) Kto Kt ix 0 E C M T n9 tr tr kp Ki Kk F A) (ps := [0, 10, 11, 13, 2, 4]) (by decide) (rfl) (w := svO Y hv (u.1 1) (u.1 2) (u.1 3) (u.1 4) (u.1 5) (u.1 6) (u.1 7) (u.1 8) (u.1 9) ++ (imW Y (u.1 8) (u.2.1 4) ++ (ikW Y (u.1 9) kp ++ (cmW Y (u.2.1 4 0) (u.2.2.2 0) (Ki 0) ++ (cmW Y (u.1 2) (u.2.1 0) (Ki 0) ++ paW Y (u.1 4) (u.1 11) (u.2.1 2) ((ix : Nat) : Int) ((0 : Nat) : Int)))))) (rfl)
      replace hP : va_P G vwCl (lwF (lwC Y hv g9 u af tx ln pl su tk nu (Ki 0) Kto Kt ix 0 E C M T n9 tr tr kp Ki Kk F A)) H := va_P_pm pmb hP1
      replace hD : va_D _ (lwF (lwC Y hv g9 u af tx ln pl su tk nu (Ki 0) Kto Kt ix 0 E C M T n9 tr tr kp Ki Kk F A)) := va_D_pm pmb hD1
      clear pmb hP1 hD1 hP0 hD0
      refine lv_aload_n hx hb dL_law_939 rfl (lv_at hl 2 rfl) ?_
      refine lv_aload_n hx hb dL_law_940 rfl (lv_at hl 0 rfl) ?_
      refine lv_iload_n hx hb dL_law_941 rfl (lv_at hl 3 rfl) ?_
      refine z_iconst hx hb dL_law_942 ?_
      refine z_iadd hx hb dL_law_943 ?_
      refine z_sld hx hb hX hbA hS (i + 1) (by omega) dL_law_944 ?_
      have hP0 := va_P_pm (lw_pm (lwC Y hv g9 u af tx ln pl su tk nu (Ki 0) Kto Kt ix 0 E C M T n9 tr tr kp Ki Kk F A) (ps := [12]) (by decide)) hP
      have hD0 := va_D_pm (lw_pm (lwC Y hv g9 u af tx ln pl su tk nu (Ki 0) Kto Kt ix 0 E C M T n9 tr tr kp Ki Kk F A) (ps := [12]) (by decide)) hD
      refine mu_V (As := [.int (iZ (xs (i + 1)).toInt)]) (rest := [.int (iZ (rBack kp (Ki 0) (xs (i + 1)).toInt))]) (F := lwR [12] (lwC Y hv g9 u af tx ln pl su tk nu (Ki 0) Kto Kt ix 0 E C M T n9 tr tr kp Ki Kk F A)) (wc' := moW Y g9 af (bif fBack (A 20) (xs (i + 1)).toInt then va_up F 22 0 else F) (bif fBack (A 20) (xs (i + 1)).toInt then va_up A 17 (va_cpy (A 19) (A 17) (36 * (xs (i + 1)).toInt).toNat 0 36) else A) tr) ⟨hx, hb, hml, hown, hts⟩ (c_X7_back l G Y g9 af F A tr (xs (i + 1)).toInt ra1 (by rw [← i6.1]; exact i6.2.1)) (cwV 1 hts gL_law_X7_back rfl rfl rfl (by decide +kernel) ⟨Nat.le_of_ble_eq_true rfl, Nat.le_of_ble_eq_true rfl⟩) hK hP0 hD0 hS 0 rfl rfl (Eq.refl [g9, af 1, af 11, af 12, af 16, af 17, af 18, af 19, af 20, af 21, af 24]) rfl hl.1 rfl (Nat.le_of_ble_eq_true rfl) dL_law_945 hce (fun H locs hP1 hD1 hS => ?_)
      show W _ _ _ _ _ _ _ _ _ _ _ _ _ _ _ (F0 _ _ _ (.int (iZ (xBack A (xs (i + 1)).toInt)) :: [.int (iZ (rBack kp (Ki 0) (xs (i + 1)).toInt))]))
      have hf7 : fBack (A 20) (xs (i + 1)).toInt = true := by rw [← i6.1]; exact hf
      rw [hf7, cond_true, cond_true] at hP1 hD1
      have pmb := lw_back (ch := lwC Y hv g9 u af tx ln pl su tk nu (Ki 0) Kto Kt ix 0 E C M T n9 tr tr kp Ki Kk F A) (ch' := lwC Y hv g9 u af tx ln pl su tk nu (Ki 0) Kto Kt ix 0 E C M T n9 tr tr kp Ki Kk (va_up F 22 0) (va_up A 17 (va_cpy (A 19) (A 17) (36 * (xs (i + 1)).toInt).toNat 0 36))) (ps := [12]) (by decide) (rfl) (w := moW Y g9 af (va_up F 22 0) (va_up A 17 (va_cpy (A 19) (A 17) (36 * (xs (i + 1)).toInt).toNat 0 36)) tr) (rfl)
      replace hP : va_P G vwCl (lwF (lwC Y hv g9 u af tx ln pl su tk nu (Ki 0) Kto Kt ix 0 E C M T n9 tr tr kp Ki Kk (va_up F 22 0) (va_up A 17 (va_cpy (A 19) (A 17) (36 * (xs (i + 1)).toInt).toNat 0 36)))) H := va_P_pm pmb hP1
      replace hD : va_D _ (lwF (lwC Y hv g9 u af tx ln pl su tk nu (Ki 0) Kto Kt ix 0 E C M T n9 tr tr kp Ki Kk (va_up F 22 0) (va_up A 17 (va_cpy (A 19) (A 17) (36 * (xs (i + 1)).toInt).toNat 0 36)))) := va_D_pm pmb hD1
      clear pmb hP1 hD1 hP0 hD0
      refine z_cmpeq (tgt := 990) hx hb (by rw [hc]; unfold xBack rBack; rw [if_pos (show 0 ≤ ((0 : Nat) : Int) ∧ ((0 : Nat) : Int) ≤ 1 by decide), if_pos (show 0 ≤ ((0 : Nat) : Int) ∧ ((0 : Nat) : Int) ≤ 1 by decide), ← i6.1, show Int.toNat ((0 : Nat) : Int) = 0 from rfl, if_neg hk, if_neg hk]; exact (i6.2.2 0 (by decide) hk).1.k5.symm) dL_law_948 (by decide) ?_
      exact kk tx ln pl su tk nu (Ki 0) Kto Kt ix 0 E C M T n9 tr kp Ki Kk (va_up F 22 0) (va_up A 17 (va_cpy (A 19) (A 17) (36 * (xs (i + 1)).toInt).toNat 0 36)) H locs (lwI_back hI (i := 0) (by decide) hc hk) ⟨hP, hD, hS⟩
  · skip
    by_cases hk : kp 1 = 0
    · skip
      have hf : fBack kp (xs (i + 1)).toInt = false := decide_eq_false (by rw [hc]; exact fun q => q.2 hk)
      refine lv_aload_n hx hb dL_law_930 rfl (lv_at hl 1 rfl) ?_
      refine lv_aload_n hx hb dL_law_931 rfl (lv_at hl 0 rfl) ?_
      refine lv_iload_n hx hb dL_law_932 rfl (lv_at hl 3 rfl) ?_
      refine z_iconst hx hb dL_law_933 ?_
      refine z_iadd hx hb dL_law_934 ?_
      refine z_sld hx hb hX hbA hS (i + 1) (by omega) dL_law_935 ?_
      have hP0 := va_P_pm (lw_pm (lwC Y hv g9 u af tx ln pl su tk nu K Kto Kt ix z E C M T n9 tr tr kp Ki Kk F A) (ps := [0, 10, 11, 14, 2, 4]) (by decide)) hP
      have hD0 := va_D_pm (lw_pm (lwC Y hv g9 u af tx ln pl su tk nu K Kto Kt ix z E C M T n9 tr tr kp Ki Kk F A) (ps := [0, 10, 11, 14, 2, 4]) (by decide)) hD
      refine mu_V (As := [.int (iZ (xs (i + 1)).toInt)]) (rest := []) (F := lwR [0, 10, 11, 14, 2, 4] (lwC Y hv g9 u af tx ln pl su tk nu K Kto Kt ix z E C M T n9 tr tr kp Ki Kk F A)) (wc' := svO Y hv (u.1 1) (u.1 2) (u.1 3) (u.1 4) (u.1 5) (u.1 6) (u.1 7) (u.1 8) (u.1 9) ++ (imW Y (u.1 8) (u.2.1 4) ++ (ikW Y (u.1 9) kp ++ (cmW Y (u.2.1 4 1) (u.2.2.2 1) (Ki 1) ++ (cmW Y (u.1 2) (u.2.1 0) (bif fBack kp (xs (i + 1)).toInt then Ki 1 else K) ++ paW Y (u.1 4) (u.1 11) (u.2.1 2) ((ix : Nat) : Int) (bif fBack kp (xs (i + 1)).toInt then 0 else ((z : Nat) : Int))))))) ⟨hx, hb, hml, hown, hts⟩ (c_X6_back l G Y hv (u.1 1) (u.1 2) (u.1 3) (u.1 4) (u.1 5) (u.1 6) (u.1 7) (u.1 8) (u.1 9) (u.2.1 4) kp 1 (u.2.2.2 1) (Ki 1) (u.2.1 0) K (u.1 11) (u.2.1 2) ((ix : Nat) : Int) ((z : Nat) : Int) (xs (i + 1)).toInt i6.2.1 (fun q1 q2 => (i6.2.2 1 (by decide) (by rw [hc] at q2; exact q2)).2.1) ⟨ra1, by omega, by decide⟩) (cwV 1 hts gL_law_X6_back rfl rfl rfl (by decide +kernel) ⟨Nat.le_of_ble_eq_true rfl, Nat.le_of_ble_eq_true rfl⟩) hK hP0 hD0 hS 0 rfl rfl (Eq.refl [hv, u.1 8, u.1 9, u.2.1 4 1, u.2.2.2 1 1, u.2.2.2 1 2, u.2.2.2 1 3, u.2.2.2 1 4, u.2.2.2 1 5, u.2.2.2 1 6, u.2.2.2 1 7, u.1 2, u.2.1 0 1, u.2.1 0 2, u.2.1 0 3, u.2.1 0 4, u.2.1 0 5, u.2.1 0 6, u.2.1 0 7, u.1 4, u.1 11]) rfl hl.1 rfl (Nat.le_of_ble_eq_true rfl) dL_law_936 hce (fun H locs hP1 hD1 hS => ?_)
      show W _ _ _ _ _ _ _ _ _ _ _ _ _ _ _ (F0 _ _ _ (.int (iZ (rBack kp (Ki 1) (xs (i + 1)).toInt)) :: []))
      rw [hf, cond_false, cond_false] at hP1 hD1
      have pmb := lw_back (ch := lwC Y hv g9 u af tx ln pl su tk nu K Kto Kt ix z E C M T n9 tr tr kp Ki Kk F A) (ch' := lwC Y hv g9 u af tx ln pl su tk nu K Kto Kt ix z E C M T n9 tr tr kp Ki Kk F A) (ps := [0, 10, 11, 14, 2, 4]) (by decide) (rfl) (w := svO Y hv (u.1 1) (u.1 2) (u.1 3) (u.1 4) (u.1 5) (u.1 6) (u.1 7) (u.1 8) (u.1 9) ++ (imW Y (u.1 8) (u.2.1 4) ++ (ikW Y (u.1 9) kp ++ (cmW Y (u.2.1 4 1) (u.2.2.2 1) (Ki 1) ++ (cmW Y (u.1 2) (u.2.1 0) K ++ paW Y (u.1 4) (u.1 11) (u.2.1 2) ((ix : Nat) : Int) ((z : Nat) : Int)))))) (rfl)
      replace hP : va_P G vwCl (lwF (lwC Y hv g9 u af tx ln pl su tk nu K Kto Kt ix z E C M T n9 tr tr kp Ki Kk F A)) H := va_P_pm pmb hP1
      replace hD : va_D _ (lwF (lwC Y hv g9 u af tx ln pl su tk nu K Kto Kt ix z E C M T n9 tr tr kp Ki Kk F A)) := va_D_pm pmb hD1
      clear pmb hP1 hD1 hP0 hD0
      refine lv_aload_n hx hb dL_law_939 rfl (lv_at hl 2 rfl) ?_
      refine lv_aload_n hx hb dL_law_940 rfl (lv_at hl 0 rfl) ?_
      refine lv_iload_n hx hb dL_law_941 rfl (lv_at hl 3 rfl) ?_
      refine z_iconst hx hb dL_law_942 ?_
      refine z_iadd hx hb dL_law_943 ?_
      refine z_sld hx hb hX hbA hS (i + 1) (by omega) dL_law_944 ?_
      have hP0 := va_P_pm (lw_pm (lwC Y hv g9 u af tx ln pl su tk nu K Kto Kt ix z E C M T n9 tr tr kp Ki Kk F A) (ps := [12]) (by decide)) hP
      have hD0 := va_D_pm (lw_pm (lwC Y hv g9 u af tx ln pl su tk nu K Kto Kt ix z E C M T n9 tr tr kp Ki Kk F A) (ps := [12]) (by decide)) hD
      refine mu_V (As := [.int (iZ (xs (i + 1)).toInt)]) (rest := [.int (iZ (rBack kp (Ki 1) (xs (i + 1)).toInt))]) (F := lwR [12] (lwC Y hv g9 u af tx ln pl su tk nu K Kto Kt ix z E C M T n9 tr tr kp Ki Kk F A)) (wc' := moW Y g9 af (bif fBack (A 20) (xs (i + 1)).toInt then va_up F 22 0 else F) (bif fBack (A 20) (xs (i + 1)).toInt then va_up A 17 (va_cpy (A 19) (A 17) (36 * (xs (i + 1)).toInt).toNat 0 36) else A) tr) ⟨hx, hb, hml, hown, hts⟩ (c_X7_back l G Y g9 af F A tr (xs (i + 1)).toInt ra1 (by rw [← i6.1]; exact i6.2.1)) (cwV 1 hts gL_law_X7_back rfl rfl rfl (by decide +kernel) ⟨Nat.le_of_ble_eq_true rfl, Nat.le_of_ble_eq_true rfl⟩) hK hP0 hD0 hS 0 rfl rfl (Eq.refl [g9, af 1, af 11, af 12, af 16, af 17, af 18, af 19, af 20, af 21, af 24]) rfl hl.1 rfl (Nat.le_of_ble_eq_true rfl) dL_law_945 hce (fun H locs hP1 hD1 hS => ?_)
      show W _ _ _ _ _ _ _ _ _ _ _ _ _ _ _ (F0 _ _ _ (.int (iZ (xBack A (xs (i + 1)).toInt)) :: [.int (iZ (rBack kp (Ki 1) (xs (i + 1)).toInt))]))
      have hf7 : fBack (A 20) (xs (i + 1)).toInt = false := by rw [← i6.1]; exact hf
      rw [hf7, cond_false, cond_false] at hP1 hD1
      have pmb := lw_back (ch := lwC Y hv g9 u af tx ln pl su tk nu K Kto Kt ix z E C M T n9 tr tr kp Ki Kk F A) (ch' := lwC Y hv g9 u af tx ln pl su tk nu K Kto Kt ix z E C M T n9 tr tr kp Ki Kk F A) (ps := [12]) (by decide) (rfl) (w := moW Y g9 af F A tr) (rfl)
      replace hP : va_P G vwCl (lwF (lwC Y hv g9 u af tx ln pl su tk nu K Kto Kt ix z E C M T n9 tr tr kp Ki Kk F A)) H := va_P_pm pmb hP1
      replace hD : va_D _ (lwF (lwC Y hv g9 u af tx ln pl su tk nu K Kto Kt ix z E C M T n9 tr tr kp Ki Kk F A)) := va_D_pm pmb hD1
      clear pmb hP1 hD1 hP0 hD0
      refine z_cmpeq (tgt := 990) hx hb (by rw [hc]; unfold xBack rBack; rw [if_pos (show 0 ≤ ((1 : Nat) : Int) ∧ ((1 : Nat) : Int) ≤ 1 by decide), if_pos (show 0 ≤ ((1 : Nat) : Int) ∧ ((1 : Nat) : Int) ≤ 1 by decide), ← i6.1, show Int.toNat ((1 : Nat) : Int) = 1 from rfl, if_pos hk, if_pos hk]) dL_law_948 (by decide) ?_
      exact kk tx ln pl su tk nu K Kto Kt ix z E C M T n9 tr kp Ki Kk F A H locs (hI) ⟨hP, hD, hS⟩
    · skip
      have hf : fBack kp (xs (i + 1)).toInt = true := decide_eq_true (by rw [hc]; exact ⟨by decide, hk⟩)
      refine lv_aload_n hx hb dL_law_930 rfl (lv_at hl 1 rfl) ?_
      refine lv_aload_n hx hb dL_law_931 rfl (lv_at hl 0 rfl) ?_
      refine lv_iload_n hx hb dL_law_932 rfl (lv_at hl 3 rfl) ?_
      refine z_iconst hx hb dL_law_933 ?_
      refine z_iadd hx hb dL_law_934 ?_
      refine z_sld hx hb hX hbA hS (i + 1) (by omega) dL_law_935 ?_
      have hP0 := va_P_pm (lw_pm (lwC Y hv g9 u af tx ln pl su tk nu K Kto Kt ix z E C M T n9 tr tr kp Ki Kk F A) (ps := [0, 10, 11, 14, 2, 4]) (by decide)) hP
      have hD0 := va_D_pm (lw_pm (lwC Y hv g9 u af tx ln pl su tk nu K Kto Kt ix z E C M T n9 tr tr kp Ki Kk F A) (ps := [0, 10, 11, 14, 2, 4]) (by decide)) hD
      refine mu_V (As := [.int (iZ (xs (i + 1)).toInt)]) (rest := []) (F := lwR [0, 10, 11, 14, 2, 4] (lwC Y hv g9 u af tx ln pl su tk nu K Kto Kt ix z E C M T n9 tr tr kp Ki Kk F A)) (wc' := svO Y hv (u.1 1) (u.1 2) (u.1 3) (u.1 4) (u.1 5) (u.1 6) (u.1 7) (u.1 8) (u.1 9) ++ (imW Y (u.1 8) (u.2.1 4) ++ (ikW Y (u.1 9) kp ++ (cmW Y (u.2.1 4 1) (u.2.2.2 1) (Ki 1) ++ (cmW Y (u.1 2) (u.2.1 0) (bif fBack kp (xs (i + 1)).toInt then Ki 1 else K) ++ paW Y (u.1 4) (u.1 11) (u.2.1 2) ((ix : Nat) : Int) (bif fBack kp (xs (i + 1)).toInt then 0 else ((z : Nat) : Int))))))) ⟨hx, hb, hml, hown, hts⟩ (c_X6_back l G Y hv (u.1 1) (u.1 2) (u.1 3) (u.1 4) (u.1 5) (u.1 6) (u.1 7) (u.1 8) (u.1 9) (u.2.1 4) kp 1 (u.2.2.2 1) (Ki 1) (u.2.1 0) K (u.1 11) (u.2.1 2) ((ix : Nat) : Int) ((z : Nat) : Int) (xs (i + 1)).toInt i6.2.1 (fun q1 q2 => (i6.2.2 1 (by decide) (by rw [hc] at q2; exact q2)).2.1) ⟨ra1, by omega, by decide⟩) (cwV 1 hts gL_law_X6_back rfl rfl rfl (by decide +kernel) ⟨Nat.le_of_ble_eq_true rfl, Nat.le_of_ble_eq_true rfl⟩) hK hP0 hD0 hS 0 rfl rfl (Eq.refl [hv, u.1 8, u.1 9, u.2.1 4 1, u.2.2.2 1 1, u.2.2.2 1 2, u.2.2.2 1 3, u.2.2.2 1 4, u.2.2.2 1 5, u.2.2.2 1 6, u.2.2.2 1 7, u.1 2, u.2.1 0 1, u.2.1 0 2, u.2.1 0 3, u.2.1 0 4, u.2.1 0 5, u.2.1 0 6, u.2.1 0 7, u.1 4, u.1 11]) rfl hl.1 rfl (Nat.le_of_ble_eq_true rfl) dL_law_936 hce (fun H locs hP1 hD1 hS => ?_)
      show W _ _ _ _ _ _ _ _ _ _ _ _ _ _ _ (F0 _ _ _ (.int (iZ (rBack kp (Ki 1) (xs (i + 1)).toInt)) :: []))
      rw [hf, cond_true, cond_true] at hP1 hD1
      have pmb := lw_back (ch := lwC Y hv g9 u af tx ln pl su tk nu K Kto Kt ix z E C M T n9 tr tr kp Ki Kk F A) (ch' := lwC Y hv g9 u af tx ln pl su tk nu (Ki 1) Kto Kt ix 0 E C M T n9 tr tr kp Ki Kk F A) (ps := [0, 10, 11, 14, 2, 4]) (by decide) (rfl) (w := svO Y hv (u.1 1) (u.1 2) (u.1 3) (u.1 4) (u.1 5) (u.1 6) (u.1 7) (u.1 8) (u.1 9) ++ (imW Y (u.1 8) (u.2.1 4) ++ (ikW Y (u.1 9) kp ++ (cmW Y (u.2.1 4 1) (u.2.2.2 1) (Ki 1) ++ (cmW Y (u.1 2) (u.2.1 0) (Ki 1) ++ paW Y (u.1 4) (u.1 11) (u.2.1 2) ((ix : Nat) : Int) ((0 : Nat) : Int)))))) (rfl)
      replace hP : va_P G vwCl (lwF (lwC Y hv g9 u af tx ln pl su tk nu (Ki 1) Kto Kt ix 0 E C M T n9 tr tr kp Ki Kk F A)) H := va_P_pm pmb hP1
      replace hD : va_D _ (lwF (lwC Y hv g9 u af tx ln pl su tk nu (Ki 1) Kto Kt ix 0 E C M T n9 tr tr kp Ki Kk F A)) := va_D_pm pmb hD1
      clear pmb hP1 hD1 hP0 hD0
      refine lv_aload_n hx hb dL_law_939 rfl (lv_at hl 2 rfl) ?_
      refine lv_aload_n hx hb dL_law_940 rfl (lv_at hl 0 rfl) ?_
      refine lv_iload_n hx hb dL_law_941 rfl (lv_at hl 3 rfl) ?_
      refine z_iconst hx hb dL_law_942 ?_
      refine z_iadd hx hb dL_law_943 ?_
      refine z_sld hx hb hX hbA hS (i + 1) (by omega) dL_law_944 ?_
      have hP0 := va_P_pm (lw_pm (lwC Y hv g9 u af tx ln pl su tk nu (Ki 1) Kto Kt ix 0 E C M T n9 tr tr kp Ki Kk F A) (ps := [12]) (by decide)) hP
      have hD0 := va_D_pm (lw_pm (lwC Y hv g9 u af tx ln pl su tk nu (Ki 1) Kto Kt ix 0 E C M T n9 tr tr kp Ki Kk F A) (ps := [12]) (by decide)) hD
      refine mu_V (As := [.int (iZ (xs (i + 1)).toInt)]) (rest := [.int (iZ (rBack kp (Ki 1) (xs (i + 1)).toInt))]) (F := lwR [12] (lwC Y hv g9 u af tx ln pl su tk nu (Ki 1) Kto Kt ix 0 E C M T n9 tr tr kp Ki Kk F A)) (wc' := moW Y g9 af (bif fBack (A 20) (xs (i + 1)).toInt then va_up F 22 0 else F) (bif fBack (A 20) (xs (i + 1)).toInt then va_up A 17 (va_cpy (A 19) (A 17) (36 * (xs (i + 1)).toInt).toNat 0 36) else A) tr) ⟨hx, hb, hml, hown, hts⟩ (c_X7_back l G Y g9 af F A tr (xs (i + 1)).toInt ra1 (by rw [← i6.1]; exact i6.2.1)) (cwV 1 hts gL_law_X7_back rfl rfl rfl (by decide +kernel) ⟨Nat.le_of_ble_eq_true rfl, Nat.le_of_ble_eq_true rfl⟩) hK hP0 hD0 hS 0 rfl rfl (Eq.refl [g9, af 1, af 11, af 12, af 16, af 17, af 18, af 19, af 20, af 21, af 24]) rfl hl.1 rfl (Nat.le_of_ble_eq_true rfl) dL_law_945 hce (fun H locs hP1 hD1 hS => ?_)
      show W _ _ _ _ _ _ _ _ _ _ _ _ _ _ _ (F0 _ _ _ (.int (iZ (xBack A (xs (i + 1)).toInt)) :: [.int (iZ (rBack kp (Ki 1) (xs (i + 1)).toInt))]))
      have hf7 : fBack (A 20) (xs (i + 1)).toInt = true := by rw [← i6.1]; exact hf
      rw [hf7, cond_true, cond_true] at hP1 hD1
      have pmb := lw_back (ch := lwC Y hv g9 u af tx ln pl su tk nu (Ki 1) Kto Kt ix 0 E C M T n9 tr tr kp Ki Kk F A) (ch' := lwC Y hv g9 u af tx ln pl su tk nu (Ki 1) Kto Kt ix 0 E C M T n9 tr tr kp Ki Kk (va_up F 22 0) (va_up A 17 (va_cpy (A 19) (A 17) (36 * (xs (i + 1)).toInt).toNat 0 36))) (ps := [12]) (by decide) (rfl) (w := moW Y g9 af (va_up F 22 0) (va_up A 17 (va_cpy (A 19) (A 17) (36 * (xs (i + 1)).toInt).toNat 0 36)) tr) (rfl)
      replace hP : va_P G vwCl (lwF (lwC Y hv g9 u af tx ln pl su tk nu (Ki 1) Kto Kt ix 0 E C M T n9 tr tr kp Ki Kk (va_up F 22 0) (va_up A 17 (va_cpy (A 19) (A 17) (36 * (xs (i + 1)).toInt).toNat 0 36)))) H := va_P_pm pmb hP1
      replace hD : va_D _ (lwF (lwC Y hv g9 u af tx ln pl su tk nu (Ki 1) Kto Kt ix 0 E C M T n9 tr tr kp Ki Kk (va_up F 22 0) (va_up A 17 (va_cpy (A 19) (A 17) (36 * (xs (i + 1)).toInt).toNat 0 36)))) := va_D_pm pmb hD1
      clear pmb hP1 hD1 hP0 hD0
      refine z_cmpeq (tgt := 990) hx hb (by rw [hc]; unfold xBack rBack; rw [if_pos (show 0 ≤ ((1 : Nat) : Int) ∧ ((1 : Nat) : Int) ≤ 1 by decide), if_pos (show 0 ≤ ((1 : Nat) : Int) ∧ ((1 : Nat) : Int) ≤ 1 by decide), ← i6.1, show Int.toNat ((1 : Nat) : Int) = 1 from rfl, if_neg hk, if_neg hk]; exact (i6.2.2 1 (by decide) hk).1.k5.symm) dL_law_948 (by decide) ?_
      exact kk tx ln pl su tk nu (Ki 1) Kto Kt ix 0 E C M T n9 tr kp Ki Kk (va_up F 22 0) (va_up A 17 (va_cpy (A 19) (A 17) (36 * (xs (i + 1)).toInt).toNat 0 36)) H locs (lwI_back hI (i := 1) (by decide) hc hk) ⟨hP, hD, hS⟩
  · skip
    have hf : fBack kp (xs (i + 1)).toInt = false := decide_eq_false (fun q => hc q.1)
    refine lv_aload_n hx hb dL_law_930 rfl (lv_at hl 1 rfl) ?_
    refine lv_aload_n hx hb dL_law_931 rfl (lv_at hl 0 rfl) ?_
    refine lv_iload_n hx hb dL_law_932 rfl (lv_at hl 3 rfl) ?_
    refine z_iconst hx hb dL_law_933 ?_
    refine z_iadd hx hb dL_law_934 ?_
    refine z_sld hx hb hX hbA hS (i + 1) (by omega) dL_law_935 ?_
    have hP0 := va_P_pm (lw_pm (lwC Y hv g9 u af tx ln pl su tk nu K Kto Kt ix z E C M T n9 tr tr kp Ki Kk F A) (ps := [0, 10, 11, 13, 2, 4]) (by decide)) hP
    have hD0 := va_D_pm (lw_pm (lwC Y hv g9 u af tx ln pl su tk nu K Kto Kt ix z E C M T n9 tr tr kp Ki Kk F A) (ps := [0, 10, 11, 13, 2, 4]) (by decide)) hD
    refine mu_V (As := [.int (iZ (xs (i + 1)).toInt)]) (rest := []) (F := lwR [0, 10, 11, 13, 2, 4] (lwC Y hv g9 u af tx ln pl su tk nu K Kto Kt ix z E C M T n9 tr tr kp Ki Kk F A)) (wc' := svO Y hv (u.1 1) (u.1 2) (u.1 3) (u.1 4) (u.1 5) (u.1 6) (u.1 7) (u.1 8) (u.1 9) ++ (imW Y (u.1 8) (u.2.1 4) ++ (ikW Y (u.1 9) kp ++ (cmW Y (u.2.1 4 0) (u.2.2.2 0) (Ki 0) ++ (cmW Y (u.1 2) (u.2.1 0) (bif fBack kp (xs (i + 1)).toInt then Ki 0 else K) ++ paW Y (u.1 4) (u.1 11) (u.2.1 2) ((ix : Nat) : Int) (bif fBack kp (xs (i + 1)).toInt then 0 else ((z : Nat) : Int))))))) ⟨hx, hb, hml, hown, hts⟩ (c_X6_back l G Y hv (u.1 1) (u.1 2) (u.1 3) (u.1 4) (u.1 5) (u.1 6) (u.1 7) (u.1 8) (u.1 9) (u.2.1 4) kp 0 (u.2.2.2 0) (Ki 0) (u.2.1 0) K (u.1 11) (u.2.1 2) ((ix : Nat) : Int) ((z : Nat) : Int) (xs (i + 1)).toInt i6.2.1 (fun q1 q2 => absurd q1 hc) ⟨ra1, by omega, by decide⟩) (cwV 1 hts gL_law_X6_back rfl rfl rfl (by decide +kernel) ⟨Nat.le_of_ble_eq_true rfl, Nat.le_of_ble_eq_true rfl⟩) hK hP0 hD0 hS 0 rfl rfl (Eq.refl [hv, u.1 8, u.1 9, u.2.1 4 0, u.2.2.2 0 1, u.2.2.2 0 2, u.2.2.2 0 3, u.2.2.2 0 4, u.2.2.2 0 5, u.2.2.2 0 6, u.2.2.2 0 7, u.1 2, u.2.1 0 1, u.2.1 0 2, u.2.1 0 3, u.2.1 0 4, u.2.1 0 5, u.2.1 0 6, u.2.1 0 7, u.1 4, u.1 11]) rfl hl.1 rfl (Nat.le_of_ble_eq_true rfl) dL_law_936 hce (fun H locs hP1 hD1 hS => ?_)
    show W _ _ _ _ _ _ _ _ _ _ _ _ _ _ _ (F0 _ _ _ (.int (iZ (rBack kp (Ki 0) (xs (i + 1)).toInt)) :: []))
    rw [hf, cond_false, cond_false] at hP1 hD1
    have pmb := lw_back (ch := lwC Y hv g9 u af tx ln pl su tk nu K Kto Kt ix z E C M T n9 tr tr kp Ki Kk F A) (ch' := lwC Y hv g9 u af tx ln pl su tk nu K Kto Kt ix z E C M T n9 tr tr kp Ki Kk F A) (ps := [0, 10, 11, 13, 2, 4]) (by decide) (rfl) (w := svO Y hv (u.1 1) (u.1 2) (u.1 3) (u.1 4) (u.1 5) (u.1 6) (u.1 7) (u.1 8) (u.1 9) ++ (imW Y (u.1 8) (u.2.1 4) ++ (ikW Y (u.1 9) kp ++ (cmW Y (u.2.1 4 0) (u.2.2.2 0) (Ki 0) ++ (cmW Y (u.1 2) (u.2.1 0) K ++ paW Y (u.1 4) (u.1 11) (u.2.1 2) ((ix : Nat) : Int) ((z : Nat) : Int)))))) (rfl)
    replace hP : va_P G vwCl (lwF (lwC Y hv g9 u af tx ln pl su tk nu K Kto Kt ix z E C M T n9 tr tr kp Ki Kk F A)) H := va_P_pm pmb hP1
    replace hD : va_D _ (lwF (lwC Y hv g9 u af tx ln pl su tk nu K Kto Kt ix z E C M T n9 tr tr kp Ki Kk F A)) := va_D_pm pmb hD1
    clear pmb hP1 hD1 hP0 hD0
    refine lv_aload_n hx hb dL_law_939 rfl (lv_at hl 2 rfl) ?_
    refine lv_aload_n hx hb dL_law_940 rfl (lv_at hl 0 rfl) ?_
    refine lv_iload_n hx hb dL_law_941 rfl (lv_at hl 3 rfl) ?_
    refine z_iconst hx hb dL_law_942 ?_
    refine z_iadd hx hb dL_law_943 ?_
    refine z_sld hx hb hX hbA hS (i + 1) (by omega) dL_law_944 ?_
    have hP0 := va_P_pm (lw_pm (lwC Y hv g9 u af tx ln pl su tk nu K Kto Kt ix z E C M T n9 tr tr kp Ki Kk F A) (ps := [12]) (by decide)) hP
    have hD0 := va_D_pm (lw_pm (lwC Y hv g9 u af tx ln pl su tk nu K Kto Kt ix z E C M T n9 tr tr kp Ki Kk F A) (ps := [12]) (by decide)) hD
    refine mu_V (As := [.int (iZ (xs (i + 1)).toInt)]) (rest := [.int (iZ (rBack kp (Ki 0) (xs (i + 1)).toInt))]) (F := lwR [12] (lwC Y hv g9 u af tx ln pl su tk nu K Kto Kt ix z E C M T n9 tr tr kp Ki Kk F A)) (wc' := moW Y g9 af (bif fBack (A 20) (xs (i + 1)).toInt then va_up F 22 0 else F) (bif fBack (A 20) (xs (i + 1)).toInt then va_up A 17 (va_cpy (A 19) (A 17) (36 * (xs (i + 1)).toInt).toNat 0 36) else A) tr) ⟨hx, hb, hml, hown, hts⟩ (c_X7_back l G Y g9 af F A tr (xs (i + 1)).toInt ra1 (by rw [← i6.1]; exact i6.2.1)) (cwV 1 hts gL_law_X7_back rfl rfl rfl (by decide +kernel) ⟨Nat.le_of_ble_eq_true rfl, Nat.le_of_ble_eq_true rfl⟩) hK hP0 hD0 hS 0 rfl rfl (Eq.refl [g9, af 1, af 11, af 12, af 16, af 17, af 18, af 19, af 20, af 21, af 24]) rfl hl.1 rfl (Nat.le_of_ble_eq_true rfl) dL_law_945 hce (fun H locs hP1 hD1 hS => ?_)
    show W _ _ _ _ _ _ _ _ _ _ _ _ _ _ _ (F0 _ _ _ (.int (iZ (xBack A (xs (i + 1)).toInt)) :: [.int (iZ (rBack kp (Ki 0) (xs (i + 1)).toInt))]))
    have hf7 : fBack (A 20) (xs (i + 1)).toInt = false := by rw [← i6.1]; exact hf
    rw [hf7, cond_false, cond_false] at hP1 hD1
    have pmb := lw_back (ch := lwC Y hv g9 u af tx ln pl su tk nu K Kto Kt ix z E C M T n9 tr tr kp Ki Kk F A) (ch' := lwC Y hv g9 u af tx ln pl su tk nu K Kto Kt ix z E C M T n9 tr tr kp Ki Kk F A) (ps := [12]) (by decide) (rfl) (w := moW Y g9 af F A tr) (rfl)
    replace hP : va_P G vwCl (lwF (lwC Y hv g9 u af tx ln pl su tk nu K Kto Kt ix z E C M T n9 tr tr kp Ki Kk F A)) H := va_P_pm pmb hP1
    replace hD : va_D _ (lwF (lwC Y hv g9 u af tx ln pl su tk nu K Kto Kt ix z E C M T n9 tr tr kp Ki Kk F A)) := va_D_pm pmb hD1
    clear pmb hP1 hD1 hP0 hD0
    refine z_cmpeq (tgt := 990) hx hb (by unfold xBack rBack; rw [if_neg hc, if_neg hc]) dL_law_948 (by decide) ?_
    exact kk tx ln pl su tk nu K Kto Kt ix z E C M T n9 tr kp Ki Kk F A H locs (hI) ⟨hP, hD, hS⟩

set_option maxHeartbeats 4000000 in
set_option maxRecDepth 100000 in
theorem lc_commune {p : Program} {l : Launch} {e : Env} {s : State} {m : MethodId} {below : List Frame} {meth : Method} {c : Code} {H : Heap} {locs : List Loc} {cells slots : Nat} {Q : State → Prop} {G : va_G} {Y : Nat → ClassId} {b L : Nat} {xs : Nat → Int32} (X : lwX p s m meth c b L xs G Y) (hce : cells ≤ 600000 ∧ slots ≤ 7302249) {hv g9 : Nat} {u : svU} {af : Nat → Nat} {i : Nat} (hi : i + 4 ≤ L) {ls : Array Slot} (hl : lv_has ls 4 [(0, .ref b), (1, .ref hv), (2, .ref g9), (3, .int (iZ ((i : Nat) : Int)))]) {tx : Nat → Int} {ln : Nat} {pl : Nat} {su : Bool} {tk : Nat} {nu : Int} {K : Kom} {Kto : Kom} {Kt : Kom} {ix : Nat} {z : Nat} {E : Nat → Int} {C : Nat → Int} {M : Nat → Int} {T : Nat → Int} {n9 : Int} {tr : Int64} {kp : Nat → Int} {Ki : Nat → Kom} {Kk : Nat → Kom} {F : Nat → Int} {A : Kom} (hI : lwI tx ln tk K Kto ix z M T n9 kp Ki Kk F A) (hH : lwH G s (lwC Y hv g9 u af tx ln pl su tk nu K Kto Kt ix z E C M T n9 tr tr kp Ki Kk F A) H locs) (kk : lwK p l e s m below meth c cells slots Q G Y b hv g9 u af ls) : W p l e room_1 s m #[Value.ref b] below meth c H locs cells slots Q (F0 m 216 ls []) := by
  obtain ⟨hx, hb, hml, hown, hts, hX, hK⟩ := X
  obtain ⟨hP, hD, hS⟩ := hH
  have hbA : ¬ (fun q : Nat => s.heap.size ≤ q) b := Nat.not_le.mpr hX.2.1
  have i1 := hI.1
  have i2 := hI.2.1
  have i3 := hI.2.2.1
  have i4 := hI.2.2.2.1
  have i5 := hI.2.2.2.2.1
  have i6 := hI.2.2.2.2.2
  have hW := i2.1
  have hE := i2.2.1
  have hV := i2.2.2.1
  have h26 := i2.2.2.2
  have hno : F 26 < 0 := by omega
  have hKb := hW.1
  have hvb := mV_b hV
  have hk2 : K 0 2 = A 17 3 := hE.k2
  have hL9 := hX.2.2
  have eF : va_up F 0 ((ln : Nat) : Int) = F := by
    funext j
    by_cases q : j = 0
    · subst q; rw [up_eq]; exact i1.2.2.2.2.symm
    · exact up_ne _ _ q
  have hR : rwB (A 11) := i3.2
  have hX1 : tX (A 1) := by rw [i1.2.2.2.1]; exact i1.1
  have hfit := tlF_fit (tx := tx) i1.2.1 201 0 0 false tk nu (stA Kto) (Nat.zero_le _) i1.2.2.1 (cWF_stA i3.1) (by show (0 : Int) ≤ 5; decide) (by show (0 : Int) ≤ 7; decide) (fun _ => ⟨rfl, rfl⟩)
  have hEK : EqK (stA Kto) (kv 3 3 0 (A 11) (va_up (zrN (A 12) 36) 1 3)) := by
    refine ⟨fun j hj => ?_, fun t ht => ?_, fun t ht => ?_⟩
    · rcases (show j = 0 ∨ j = 1 ∨ j = 2 ∨ j = 3 ∨ j = 4 ∨ j = 5 ∨ j = 6 by omega) with rfl | rfl | rfl | rfl | rfl | rfl | rfl <;> rfl
    · have q : (t : Int) < 0 := ht
      omega
    · have q : (t : Int) < 0 := ht
      omega
  have hrd := rd_eq hX1 i1.2.1 201 0 (rd0 (A 11) (A 12)) tk nu (stA Kto) (rd0_ok hR) (Nat.zero_le _) (fun _ => rd0_z _ _) hEK (by decide)
  have hrw := xRd_rw (tx := A 1) (ln := ln) 201 0 (rd0 (A 11) (A 12)) hR
  rw [show (rd0 (A 11) (A 12)).2.1 = 0 from rfl, show (rd0 (A 11) (A 12)).2.2.1 = false from rfl] at hrd
  have hok := xRd_fit (tx := A 1) (ln := ln) 201 0 (rd0 (A 11) (A 12)) (rd0_ok hR) (fun _ => rd0_z _ _)
  have hc7 := c_X7_commune l G Y g9 af F A tr hX1 ln i1.2.1 hR
  rw [eF] at hc7
  rw [i1.2.2.2.1] at hrd
  have eX : xRd tx ln 201 0 (rd0 (A 11) (A 12)) = (xRd (A 1) ln 201 0 (rd0 (A 11) (A 12))) := by rw [i1.2.2.2.1]
  rw [eX] at hrd
  rcases hrd with ⟨h1, h2, h3⟩ | ⟨h1, h2⟩
  · skip
    refine lv_aload_n hx hb dL_law_216 rfl (lv_at hl 1 rfl) ?_
    have hP0 := va_P_pm (lw_pm (lwC Y hv g9 u af tx ln pl su tk nu K Kto Kt ix z E C M T n9 tr tr kp Ki Kk F A) (ps := [0, 1, 3, 2, 4, 8, 11]) (by decide)) hP
    have hD0 := va_D_pm (lw_pm (lwC Y hv g9 u af tx ln pl su tk nu K Kto Kt ix z E C M T n9 tr tr kp Ki Kk F A) (ps := [0, 1, 3, 2, 4, 8, 11]) (by decide)) hD
    refine mu_V (As := []) (rest := []) (F := lwR [0, 1, 3, 2, 4, 8, 11] (lwC Y hv g9 u af tx ln pl su tk nu K Kto Kt ix z E C M T n9 tr tr kp Ki Kk F A)) (wc' := svO Y hv (u.1 1) (u.1 2) (u.1 3) (u.1 4) (u.1 5) (u.1 6) (u.1 7) (u.1 8) (u.1 9) ++ (txW Y (u.1 1) (u.1 10) tx (bif decide (0 ≤ (tlF tx ln 201 0 0 false tk nu (stA Kto)).1) then 0 else ln) ((tlF tx ln 201 0 0 false tk nu (stA Kto)).2.2.1) ((tlF tx ln 201 0 0 false tk nu (stA Kto)).2.2.2.2.2.1) ((tlF tx ln 201 0 0 false tk nu (stA Kto)).2.2.2.1) ((tlF tx ln 201 0 0 false tk nu (stA Kto)).2.2.2.2.1) ++ (cmW Y (u.1 3) (u.2.1 1) (tlF tx ln 201 0 0 false tk nu (stA Kto)).2.2.2.2.2.2 ++ (cmW Y (u.1 2) (u.2.1 0) (bif decide (0 ≤ (tlF tx ln 201 0 0 false tk nu (stA Kto)).1) then (tlF tx ln 201 0 0 false tk nu (stA Kto)).2.2.2.2.2.2 else K) ++ (paW Y (u.1 4) (u.1 11) (u.2.1 2) ((ix : Nat) : Int) (bif decide (0 ≤ (tlF tx ln 201 0 0 false tk nu (stA Kto)).1) then 0 else ((z : Nat) : Int)) ++ (tlW Y (u.1 6) (u.1 15) (u.1 16) M T (bif decide (0 ≤ (tlF tx ln 201 0 0 false tk nu (stA Kto)).1) then 0 else n9) ++ ikW Y (u.1 9) (bif decide (0 ≤ (tlF tx ln 201 0 0 false tk nu (stA Kto)).1) then kpN kp 2 else kp))))))) ⟨hx, hb, hml, hown, hts⟩ (c_X6_commune l G Y hv (u.1 1) (u.1 2) (u.1 3) (u.1 4) (u.1 5) (u.1 6) (u.1 7) (u.1 8) (u.1 9) (u.1 10) tx i1.1 ln pl su tk nu (u.2.1 1) Kto i3.1 (u.2.1 0) K (u.1 11) (u.2.1 2) ((ix : Nat) : Int) ((z : Nat) : Int) (u.1 15) (u.1 16) M T n9 kp i1.2.1 i1.2.2.1) (cwV 0 hts gL_law_X6_commune rfl rfl rfl (by decide +kernel) ⟨Nat.le_of_ble_eq_true rfl, Nat.le_of_ble_eq_true rfl⟩) hK hP0 hD0 hS 0 rfl rfl (Eq.refl [hv, u.1 1, u.1 10, u.1 3, u.2.1 1 1, u.2.1 1 2, u.2.1 1 3, u.2.1 1 4, u.2.1 1 5, u.2.1 1 6, u.2.1 1 7, u.1 2, u.2.1 0 1, u.2.1 0 2, u.2.1 0 3, u.2.1 0 4, u.2.1 0 5, u.2.1 0 6, u.2.1 0 7, u.1 4, u.1 11, u.1 6, u.1 15, u.1 16, u.1 9]) rfl hl.1 rfl (Nat.le_of_ble_eq_true rfl) dL_law_217 hce (fun H locs hP1 hD1 hS => ?_)
    show W _ _ _ _ _ _ _ _ _ _ _ _ _ _ _ (F0 _ _ _ (.int (iZ (tlF tx ln 201 0 0 false tk nu (stA Kto)).1) :: []))
    have hd : decide (0 ≤ (tlF tx ln 201 0 0 false tk nu (stA Kto)).1) = true := decide_eq_true (by omega)
    rw [hd, cond_true, cond_true, cond_true, cond_true, cond_true] at hP1 hD1
    have pmb := lw_back (ch := lwC Y hv g9 u af tx ln pl su tk nu K Kto Kt ix z E C M T n9 tr tr kp Ki Kk F A) (ch' := lwC Y hv g9 u af tx 0 ((tlF tx ln 201 0 0 false tk nu (stA Kto)).2.2.1) ((tlF tx ln 201 0 0 false tk nu (stA Kto)).2.2.2.2.2.1) ((tlF tx ln 201 0 0 false tk nu (stA Kto)).2.2.2.1) ((tlF tx ln 201 0 0 false tk nu (stA Kto)).2.2.2.2.1) ((tlF tx ln 201 0 0 false tk nu (stA Kto)).2.2.2.2.2.2) ((tlF tx ln 201 0 0 false tk nu (stA Kto)).2.2.2.2.2.2) Kt ix 0 E C M T 0 tr tr (kpN kp 2) Ki Kk F A) (ps := [0, 1, 3, 2, 4, 8, 11]) (by decide) (rfl) (w := svO Y hv (u.1 1) (u.1 2) (u.1 3) (u.1 4) (u.1 5) (u.1 6) (u.1 7) (u.1 8) (u.1 9) ++ (txW Y (u.1 1) (u.1 10) tx 0 ((tlF tx ln 201 0 0 false tk nu (stA Kto)).2.2.1) ((tlF tx ln 201 0 0 false tk nu (stA Kto)).2.2.2.2.2.1) ((tlF tx ln 201 0 0 false tk nu (stA Kto)).2.2.2.1) ((tlF tx ln 201 0 0 false tk nu (stA Kto)).2.2.2.2.1) ++ (cmW Y (u.1 3) (u.2.1 1) (tlF tx ln 201 0 0 false tk nu (stA Kto)).2.2.2.2.2.2 ++ (cmW Y (u.1 2) (u.2.1 0) ((tlF tx ln 201 0 0 false tk nu (stA Kto)).2.2.2.2.2.2) ++ (paW Y (u.1 4) (u.1 11) (u.2.1 2) ((ix : Nat) : Int) ((0 : Nat) : Int) ++ (tlW Y (u.1 6) (u.1 15) (u.1 16) M T 0 ++ ikW Y (u.1 9) (kpN kp 2))))))) (rfl)
    replace hP : va_P G vwCl (lwF (lwC Y hv g9 u af tx 0 ((tlF tx ln 201 0 0 false tk nu (stA Kto)).2.2.1) ((tlF tx ln 201 0 0 false tk nu (stA Kto)).2.2.2.2.2.1) ((tlF tx ln 201 0 0 false tk nu (stA Kto)).2.2.2.1) ((tlF tx ln 201 0 0 false tk nu (stA Kto)).2.2.2.2.1) ((tlF tx ln 201 0 0 false tk nu (stA Kto)).2.2.2.2.2.2) ((tlF tx ln 201 0 0 false tk nu (stA Kto)).2.2.2.2.2.2) Kt ix 0 E C M T 0 tr tr (kpN kp 2) Ki Kk F A)) H := va_P_pm pmb hP1
    replace hD : va_D _ (lwF (lwC Y hv g9 u af tx 0 ((tlF tx ln 201 0 0 false tk nu (stA Kto)).2.2.1) ((tlF tx ln 201 0 0 false tk nu (stA Kto)).2.2.2.2.2.1) ((tlF tx ln 201 0 0 false tk nu (stA Kto)).2.2.2.1) ((tlF tx ln 201 0 0 false tk nu (stA Kto)).2.2.2.2.1) ((tlF tx ln 201 0 0 false tk nu (stA Kto)).2.2.2.2.2.2) ((tlF tx ln 201 0 0 false tk nu (stA Kto)).2.2.2.2.2.2) Kt ix 0 E C M T 0 tr tr (kpN kp 2) Ki Kk F A)) := va_D_pm pmb hD1
    clear pmb hP1 hD1 hP0 hD0
    refine lv_aload_n hx hb dL_law_220 rfl (lv_at hl 2 rfl) ?_
    have hP0 := va_P_pm (lw_pm (lwC Y hv g9 u af tx 0 ((tlF tx ln 201 0 0 false tk nu (stA Kto)).2.2.1) ((tlF tx ln 201 0 0 false tk nu (stA Kto)).2.2.2.2.2.1) ((tlF tx ln 201 0 0 false tk nu (stA Kto)).2.2.2.1) ((tlF tx ln 201 0 0 false tk nu (stA Kto)).2.2.2.2.1) ((tlF tx ln 201 0 0 false tk nu (stA Kto)).2.2.2.2.2.2) ((tlF tx ln 201 0 0 false tk nu (stA Kto)).2.2.2.2.2.2) Kt ix 0 E C M T 0 tr tr (kpN kp 2) Ki Kk F A) (ps := [12]) (by decide)) hP
    have hD0 := va_D_pm (lw_pm (lwC Y hv g9 u af tx 0 ((tlF tx ln 201 0 0 false tk nu (stA Kto)).2.2.1) ((tlF tx ln 201 0 0 false tk nu (stA Kto)).2.2.2.2.2.1) ((tlF tx ln 201 0 0 false tk nu (stA Kto)).2.2.2.1) ((tlF tx ln 201 0 0 false tk nu (stA Kto)).2.2.2.2.1) ((tlF tx ln 201 0 0 false tk nu (stA Kto)).2.2.2.2.2.2) ((tlF tx ln 201 0 0 false tk nu (stA Kto)).2.2.2.2.2.2) Kt ix 0 E C M T 0 tr tr (kpN kp 2) Ki Kk F A) (ps := [12]) (by decide)) hD
    refine mu_V (As := []) (rest := [.int (iZ (tlF tx ln 201 0 0 false tk nu (stA Kto)).1)]) (F := lwR [12] (lwC Y hv g9 u af tx 0 ((tlF tx ln 201 0 0 false tk nu (stA Kto)).2.2.1) ((tlF tx ln 201 0 0 false tk nu (stA Kto)).2.2.2.2.2.1) ((tlF tx ln 201 0 0 false tk nu (stA Kto)).2.2.2.1) ((tlF tx ln 201 0 0 false tk nu (stA Kto)).2.2.2.2.1) ((tlF tx ln 201 0 0 false tk nu (stA Kto)).2.2.2.2.2.2) ((tlF tx ln 201 0 0 false tk nu (stA Kto)).2.2.2.2.2.2) Kt ix 0 E C M T 0 tr tr (kpN kp 2) Ki Kk F A)) (wc' := moW Y g9 af (coF F A ln (xRd (A 1) ln 201 0 (rd0 (A 11) (A 12)))) (coA A (xRd (A 1) ln 201 0 (rd0 (A 11) (A 12)))) tr) ⟨hx, hb, hml, hown, hts⟩ (hc7) (cwV 0 hts gL_law_X7_commune rfl rfl rfl (by decide +kernel) ⟨Nat.le_of_ble_eq_true rfl, Nat.le_of_ble_eq_true rfl⟩) hK hP0 hD0 hS 0 rfl rfl (Eq.refl [g9, af 1, af 11, af 12, af 16, af 17, af 18, af 19, af 20, af 21, af 24]) rfl hl.1 rfl (Nat.le_of_ble_eq_true rfl) dL_law_221 hce (fun H locs hP1 hD1 hS => ?_)
    show W _ _ _ _ _ _ _ _ _ _ _ _ _ _ _ (F0 _ _ _ (.int (iZ (bif (xRd (A 1) ln 201 0 (rd0 (A 11) (A 12))).2.1 then (((xRd (A 1) ln 201 0 (rd0 (A 11) (A 12))).1 : Nat) : Int) else -10 - ((sk (A 1) ln (xRd (A 1) ln 201 0 (rd0 (A 11) (A 12))).2.2.1 : Nat) : Int))) :: [.int (iZ (tlF tx ln 201 0 0 false tk nu (stA Kto)).1)]))
    have pmb := lw_back (ch := lwC Y hv g9 u af tx 0 ((tlF tx ln 201 0 0 false tk nu (stA Kto)).2.2.1) ((tlF tx ln 201 0 0 false tk nu (stA Kto)).2.2.2.2.2.1) ((tlF tx ln 201 0 0 false tk nu (stA Kto)).2.2.2.1) ((tlF tx ln 201 0 0 false tk nu (stA Kto)).2.2.2.2.1) ((tlF tx ln 201 0 0 false tk nu (stA Kto)).2.2.2.2.2.2) ((tlF tx ln 201 0 0 false tk nu (stA Kto)).2.2.2.2.2.2) Kt ix 0 E C M T 0 tr tr (kpN kp 2) Ki Kk F A) (ch' := lwC Y hv g9 u af tx 0 ((tlF tx ln 201 0 0 false tk nu (stA Kto)).2.2.1) ((tlF tx ln 201 0 0 false tk nu (stA Kto)).2.2.2.2.2.1) ((tlF tx ln 201 0 0 false tk nu (stA Kto)).2.2.2.1) ((tlF tx ln 201 0 0 false tk nu (stA Kto)).2.2.2.2.1) ((tlF tx ln 201 0 0 false tk nu (stA Kto)).2.2.2.2.2.2) ((tlF tx ln 201 0 0 false tk nu (stA Kto)).2.2.2.2.2.2) Kt ix 0 E C M T 0 tr tr (kpN kp 2) Ki Kk (coF F A ln (xRd (A 1) ln 201 0 (rd0 (A 11) (A 12)))) (coA A (xRd (A 1) ln 201 0 (rd0 (A 11) (A 12))))) (ps := [12]) (by decide) (rfl) (w := moW Y g9 af (coF F A ln (xRd (A 1) ln 201 0 (rd0 (A 11) (A 12)))) (coA A (xRd (A 1) ln 201 0 (rd0 (A 11) (A 12)))) tr) (rfl)
    replace hP : va_P G vwCl (lwF (lwC Y hv g9 u af tx 0 ((tlF tx ln 201 0 0 false tk nu (stA Kto)).2.2.1) ((tlF tx ln 201 0 0 false tk nu (stA Kto)).2.2.2.2.2.1) ((tlF tx ln 201 0 0 false tk nu (stA Kto)).2.2.2.1) ((tlF tx ln 201 0 0 false tk nu (stA Kto)).2.2.2.2.1) ((tlF tx ln 201 0 0 false tk nu (stA Kto)).2.2.2.2.2.2) ((tlF tx ln 201 0 0 false tk nu (stA Kto)).2.2.2.2.2.2) Kt ix 0 E C M T 0 tr tr (kpN kp 2) Ki Kk (coF F A ln (xRd (A 1) ln 201 0 (rd0 (A 11) (A 12)))) (coA A (xRd (A 1) ln 201 0 (rd0 (A 11) (A 12)))))) H := va_P_pm pmb hP1
    replace hD : va_D _ (lwF (lwC Y hv g9 u af tx 0 ((tlF tx ln 201 0 0 false tk nu (stA Kto)).2.2.1) ((tlF tx ln 201 0 0 false tk nu (stA Kto)).2.2.2.2.2.1) ((tlF tx ln 201 0 0 false tk nu (stA Kto)).2.2.2.1) ((tlF tx ln 201 0 0 false tk nu (stA Kto)).2.2.2.2.1) ((tlF tx ln 201 0 0 false tk nu (stA Kto)).2.2.2.2.2.2) ((tlF tx ln 201 0 0 false tk nu (stA Kto)).2.2.2.2.2.2) Kt ix 0 E C M T 0 tr tr (kpN kp 2) Ki Kk (coF F A ln (xRd (A 1) ln 201 0 (rd0 (A 11) (A 12)))) (coA A (xRd (A 1) ln 201 0 (rd0 (A 11) (A 12)))))) := va_D_pm pmb hD1
    clear pmb hP1 hD1 hP0 hD0
    refine z_cmpeq (tgt := 990) hx hb (by rw [h1, cond_true]; exact h2.symm) dL_law_224 (by decide) ?_
    exact kk tx 0 ((tlF tx ln 201 0 0 false tk nu (stA Kto)).2.2.1) ((tlF tx ln 201 0 0 false tk nu (stA Kto)).2.2.2.2.2.1) ((tlF tx ln 201 0 0 false tk nu (stA Kto)).2.2.2.1) ((tlF tx ln 201 0 0 false tk nu (stA Kto)).2.2.2.2.1) ((tlF tx ln 201 0 0 false tk nu (stA Kto)).2.2.2.2.2.2) ((tlF tx ln 201 0 0 false tk nu (stA Kto)).2.2.2.2.2.2) Kt ix 0 E C M T 0 tr (kpN kp 2) Ki Kk (coF F A ln (xRd (A 1) ln 201 0 (rd0 (A 11) (A 12)))) (coA A (xRd (A 1) ln 201 0 (rd0 (A 11) (A 12)))) H locs (lwI_ok hI h1 (hok h1) (hfit.2.2.2.2 (by omega)).1 h3 hfit.2.1) ⟨hP, hD, hS⟩
  · skip
    refine lv_aload_n hx hb dL_law_216 rfl (lv_at hl 1 rfl) ?_
    have hP0 := va_P_pm (lw_pm (lwC Y hv g9 u af tx ln pl su tk nu K Kto Kt ix z E C M T n9 tr tr kp Ki Kk F A) (ps := [0, 1, 3, 2, 4, 8, 11]) (by decide)) hP
    have hD0 := va_D_pm (lw_pm (lwC Y hv g9 u af tx ln pl su tk nu K Kto Kt ix z E C M T n9 tr tr kp Ki Kk F A) (ps := [0, 1, 3, 2, 4, 8, 11]) (by decide)) hD
    refine mu_V (As := []) (rest := []) (F := lwR [0, 1, 3, 2, 4, 8, 11] (lwC Y hv g9 u af tx ln pl su tk nu K Kto Kt ix z E C M T n9 tr tr kp Ki Kk F A)) (wc' := svO Y hv (u.1 1) (u.1 2) (u.1 3) (u.1 4) (u.1 5) (u.1 6) (u.1 7) (u.1 8) (u.1 9) ++ (txW Y (u.1 1) (u.1 10) tx (bif decide (0 ≤ (tlF tx ln 201 0 0 false tk nu (stA Kto)).1) then 0 else ln) ((tlF tx ln 201 0 0 false tk nu (stA Kto)).2.2.1) ((tlF tx ln 201 0 0 false tk nu (stA Kto)).2.2.2.2.2.1) ((tlF tx ln 201 0 0 false tk nu (stA Kto)).2.2.2.1) ((tlF tx ln 201 0 0 false tk nu (stA Kto)).2.2.2.2.1) ++ (cmW Y (u.1 3) (u.2.1 1) (tlF tx ln 201 0 0 false tk nu (stA Kto)).2.2.2.2.2.2 ++ (cmW Y (u.1 2) (u.2.1 0) (bif decide (0 ≤ (tlF tx ln 201 0 0 false tk nu (stA Kto)).1) then (tlF tx ln 201 0 0 false tk nu (stA Kto)).2.2.2.2.2.2 else K) ++ (paW Y (u.1 4) (u.1 11) (u.2.1 2) ((ix : Nat) : Int) (bif decide (0 ≤ (tlF tx ln 201 0 0 false tk nu (stA Kto)).1) then 0 else ((z : Nat) : Int)) ++ (tlW Y (u.1 6) (u.1 15) (u.1 16) M T (bif decide (0 ≤ (tlF tx ln 201 0 0 false tk nu (stA Kto)).1) then 0 else n9) ++ ikW Y (u.1 9) (bif decide (0 ≤ (tlF tx ln 201 0 0 false tk nu (stA Kto)).1) then kpN kp 2 else kp))))))) ⟨hx, hb, hml, hown, hts⟩ (c_X6_commune l G Y hv (u.1 1) (u.1 2) (u.1 3) (u.1 4) (u.1 5) (u.1 6) (u.1 7) (u.1 8) (u.1 9) (u.1 10) tx i1.1 ln pl su tk nu (u.2.1 1) Kto i3.1 (u.2.1 0) K (u.1 11) (u.2.1 2) ((ix : Nat) : Int) ((z : Nat) : Int) (u.1 15) (u.1 16) M T n9 kp i1.2.1 i1.2.2.1) (cwV 0 hts gL_law_X6_commune rfl rfl rfl (by decide +kernel) ⟨Nat.le_of_ble_eq_true rfl, Nat.le_of_ble_eq_true rfl⟩) hK hP0 hD0 hS 0 rfl rfl (Eq.refl [hv, u.1 1, u.1 10, u.1 3, u.2.1 1 1, u.2.1 1 2, u.2.1 1 3, u.2.1 1 4, u.2.1 1 5, u.2.1 1 6, u.2.1 1 7, u.1 2, u.2.1 0 1, u.2.1 0 2, u.2.1 0 3, u.2.1 0 4, u.2.1 0 5, u.2.1 0 6, u.2.1 0 7, u.1 4, u.1 11, u.1 6, u.1 15, u.1 16, u.1 9]) rfl hl.1 rfl (Nat.le_of_ble_eq_true rfl) dL_law_217 hce (fun H locs hP1 hD1 hS => ?_)
    show W _ _ _ _ _ _ _ _ _ _ _ _ _ _ _ (F0 _ _ _ (.int (iZ (tlF tx ln 201 0 0 false tk nu (stA Kto)).1) :: []))
    have hd : decide (0 ≤ (tlF tx ln 201 0 0 false tk nu (stA Kto)).1) = false := decide_eq_false (by omega)
    rw [hd, cond_false, cond_false, cond_false, cond_false, cond_false] at hP1 hD1
    have pmb := lw_back (ch := lwC Y hv g9 u af tx ln pl su tk nu K Kto Kt ix z E C M T n9 tr tr kp Ki Kk F A) (ch' := lwC Y hv g9 u af tx ln ((tlF tx ln 201 0 0 false tk nu (stA Kto)).2.2.1) ((tlF tx ln 201 0 0 false tk nu (stA Kto)).2.2.2.2.2.1) ((tlF tx ln 201 0 0 false tk nu (stA Kto)).2.2.2.1) ((tlF tx ln 201 0 0 false tk nu (stA Kto)).2.2.2.2.1) K ((tlF tx ln 201 0 0 false tk nu (stA Kto)).2.2.2.2.2.2) Kt ix z E C M T n9 tr tr kp Ki Kk F A) (ps := [0, 1, 3, 2, 4, 8, 11]) (by decide) (rfl) (w := svO Y hv (u.1 1) (u.1 2) (u.1 3) (u.1 4) (u.1 5) (u.1 6) (u.1 7) (u.1 8) (u.1 9) ++ (txW Y (u.1 1) (u.1 10) tx ln ((tlF tx ln 201 0 0 false tk nu (stA Kto)).2.2.1) ((tlF tx ln 201 0 0 false tk nu (stA Kto)).2.2.2.2.2.1) ((tlF tx ln 201 0 0 false tk nu (stA Kto)).2.2.2.1) ((tlF tx ln 201 0 0 false tk nu (stA Kto)).2.2.2.2.1) ++ (cmW Y (u.1 3) (u.2.1 1) (tlF tx ln 201 0 0 false tk nu (stA Kto)).2.2.2.2.2.2 ++ (cmW Y (u.1 2) (u.2.1 0) K ++ (paW Y (u.1 4) (u.1 11) (u.2.1 2) ((ix : Nat) : Int) ((z : Nat) : Int) ++ (tlW Y (u.1 6) (u.1 15) (u.1 16) M T n9 ++ ikW Y (u.1 9) kp)))))) (rfl)
    replace hP : va_P G vwCl (lwF (lwC Y hv g9 u af tx ln ((tlF tx ln 201 0 0 false tk nu (stA Kto)).2.2.1) ((tlF tx ln 201 0 0 false tk nu (stA Kto)).2.2.2.2.2.1) ((tlF tx ln 201 0 0 false tk nu (stA Kto)).2.2.2.1) ((tlF tx ln 201 0 0 false tk nu (stA Kto)).2.2.2.2.1) K ((tlF tx ln 201 0 0 false tk nu (stA Kto)).2.2.2.2.2.2) Kt ix z E C M T n9 tr tr kp Ki Kk F A)) H := va_P_pm pmb hP1
    replace hD : va_D _ (lwF (lwC Y hv g9 u af tx ln ((tlF tx ln 201 0 0 false tk nu (stA Kto)).2.2.1) ((tlF tx ln 201 0 0 false tk nu (stA Kto)).2.2.2.2.2.1) ((tlF tx ln 201 0 0 false tk nu (stA Kto)).2.2.2.1) ((tlF tx ln 201 0 0 false tk nu (stA Kto)).2.2.2.2.1) K ((tlF tx ln 201 0 0 false tk nu (stA Kto)).2.2.2.2.2.2) Kt ix z E C M T n9 tr tr kp Ki Kk F A)) := va_D_pm pmb hD1
    clear pmb hP1 hD1 hP0 hD0
    refine lv_aload_n hx hb dL_law_220 rfl (lv_at hl 2 rfl) ?_
    have hP0 := va_P_pm (lw_pm (lwC Y hv g9 u af tx ln ((tlF tx ln 201 0 0 false tk nu (stA Kto)).2.2.1) ((tlF tx ln 201 0 0 false tk nu (stA Kto)).2.2.2.2.2.1) ((tlF tx ln 201 0 0 false tk nu (stA Kto)).2.2.2.1) ((tlF tx ln 201 0 0 false tk nu (stA Kto)).2.2.2.2.1) K ((tlF tx ln 201 0 0 false tk nu (stA Kto)).2.2.2.2.2.2) Kt ix z E C M T n9 tr tr kp Ki Kk F A) (ps := [12]) (by decide)) hP
    have hD0 := va_D_pm (lw_pm (lwC Y hv g9 u af tx ln ((tlF tx ln 201 0 0 false tk nu (stA Kto)).2.2.1) ((tlF tx ln 201 0 0 false tk nu (stA Kto)).2.2.2.2.2.1) ((tlF tx ln 201 0 0 false tk nu (stA Kto)).2.2.2.1) ((tlF tx ln 201 0 0 false tk nu (stA Kto)).2.2.2.2.1) K ((tlF tx ln 201 0 0 false tk nu (stA Kto)).2.2.2.2.2.2) Kt ix z E C M T n9 tr tr kp Ki Kk F A) (ps := [12]) (by decide)) hD
    refine mu_V (As := []) (rest := [.int (iZ (tlF tx ln 201 0 0 false tk nu (stA Kto)).1)]) (F := lwR [12] (lwC Y hv g9 u af tx ln ((tlF tx ln 201 0 0 false tk nu (stA Kto)).2.2.1) ((tlF tx ln 201 0 0 false tk nu (stA Kto)).2.2.2.2.2.1) ((tlF tx ln 201 0 0 false tk nu (stA Kto)).2.2.2.1) ((tlF tx ln 201 0 0 false tk nu (stA Kto)).2.2.2.2.1) K ((tlF tx ln 201 0 0 false tk nu (stA Kto)).2.2.2.2.2.2) Kt ix z E C M T n9 tr tr kp Ki Kk F A)) (wc' := moW Y g9 af (coF F A ln (xRd (A 1) ln 201 0 (rd0 (A 11) (A 12)))) (coA A (xRd (A 1) ln 201 0 (rd0 (A 11) (A 12)))) tr) ⟨hx, hb, hml, hown, hts⟩ (hc7) (cwV 0 hts gL_law_X7_commune rfl rfl rfl (by decide +kernel) ⟨Nat.le_of_ble_eq_true rfl, Nat.le_of_ble_eq_true rfl⟩) hK hP0 hD0 hS 0 rfl rfl (Eq.refl [g9, af 1, af 11, af 12, af 16, af 17, af 18, af 19, af 20, af 21, af 24]) rfl hl.1 rfl (Nat.le_of_ble_eq_true rfl) dL_law_221 hce (fun H locs hP1 hD1 hS => ?_)
    show W _ _ _ _ _ _ _ _ _ _ _ _ _ _ _ (F0 _ _ _ (.int (iZ (bif (xRd (A 1) ln 201 0 (rd0 (A 11) (A 12))).2.1 then (((xRd (A 1) ln 201 0 (rd0 (A 11) (A 12))).1 : Nat) : Int) else -10 - ((sk (A 1) ln (xRd (A 1) ln 201 0 (rd0 (A 11) (A 12))).2.2.1 : Nat) : Int))) :: [.int (iZ (tlF tx ln 201 0 0 false tk nu (stA Kto)).1)]))
    have pmb := lw_back (ch := lwC Y hv g9 u af tx ln ((tlF tx ln 201 0 0 false tk nu (stA Kto)).2.2.1) ((tlF tx ln 201 0 0 false tk nu (stA Kto)).2.2.2.2.2.1) ((tlF tx ln 201 0 0 false tk nu (stA Kto)).2.2.2.1) ((tlF tx ln 201 0 0 false tk nu (stA Kto)).2.2.2.2.1) K ((tlF tx ln 201 0 0 false tk nu (stA Kto)).2.2.2.2.2.2) Kt ix z E C M T n9 tr tr kp Ki Kk F A) (ch' := lwC Y hv g9 u af tx ln ((tlF tx ln 201 0 0 false tk nu (stA Kto)).2.2.1) ((tlF tx ln 201 0 0 false tk nu (stA Kto)).2.2.2.2.2.1) ((tlF tx ln 201 0 0 false tk nu (stA Kto)).2.2.2.1) ((tlF tx ln 201 0 0 false tk nu (stA Kto)).2.2.2.2.1) K ((tlF tx ln 201 0 0 false tk nu (stA Kto)).2.2.2.2.2.2) Kt ix z E C M T n9 tr tr kp Ki Kk (coF F A ln (xRd (A 1) ln 201 0 (rd0 (A 11) (A 12)))) (coA A (xRd (A 1) ln 201 0 (rd0 (A 11) (A 12))))) (ps := [12]) (by decide) (rfl) (w := moW Y g9 af (coF F A ln (xRd (A 1) ln 201 0 (rd0 (A 11) (A 12)))) (coA A (xRd (A 1) ln 201 0 (rd0 (A 11) (A 12)))) tr) (rfl)
    replace hP : va_P G vwCl (lwF (lwC Y hv g9 u af tx ln ((tlF tx ln 201 0 0 false tk nu (stA Kto)).2.2.1) ((tlF tx ln 201 0 0 false tk nu (stA Kto)).2.2.2.2.2.1) ((tlF tx ln 201 0 0 false tk nu (stA Kto)).2.2.2.1) ((tlF tx ln 201 0 0 false tk nu (stA Kto)).2.2.2.2.1) K ((tlF tx ln 201 0 0 false tk nu (stA Kto)).2.2.2.2.2.2) Kt ix z E C M T n9 tr tr kp Ki Kk (coF F A ln (xRd (A 1) ln 201 0 (rd0 (A 11) (A 12)))) (coA A (xRd (A 1) ln 201 0 (rd0 (A 11) (A 12)))))) H := va_P_pm pmb hP1
    replace hD : va_D _ (lwF (lwC Y hv g9 u af tx ln ((tlF tx ln 201 0 0 false tk nu (stA Kto)).2.2.1) ((tlF tx ln 201 0 0 false tk nu (stA Kto)).2.2.2.2.2.1) ((tlF tx ln 201 0 0 false tk nu (stA Kto)).2.2.2.1) ((tlF tx ln 201 0 0 false tk nu (stA Kto)).2.2.2.2.1) K ((tlF tx ln 201 0 0 false tk nu (stA Kto)).2.2.2.2.2.2) Kt ix z E C M T n9 tr tr kp Ki Kk (coF F A ln (xRd (A 1) ln 201 0 (rd0 (A 11) (A 12)))) (coA A (xRd (A 1) ln 201 0 (rd0 (A 11) (A 12)))))) := va_D_pm pmb hD1
    clear pmb hP1 hD1 hP0 hD0
    refine z_cmpeq (tgt := 990) hx hb (by rw [h1, cond_false, h2, ← i1.2.2.2.1]) dL_law_224 (by decide) ?_
    exact kk tx ln ((tlF tx ln 201 0 0 false tk nu (stA Kto)).2.2.1) ((tlF tx ln 201 0 0 false tk nu (stA Kto)).2.2.2.2.2.1) ((tlF tx ln 201 0 0 false tk nu (stA Kto)).2.2.2.1) ((tlF tx ln 201 0 0 false tk nu (stA Kto)).2.2.2.2.1) K ((tlF tx ln 201 0 0 false tk nu (stA Kto)).2.2.2.2.2.2) Kt ix z E C M T n9 tr kp Ki Kk (coF F A ln (xRd (A 1) ln 201 0 (rd0 (A 11) (A 12)))) (coA A (xRd (A 1) ln 201 0 (rd0 (A 11) (A 12)))) H locs (lwI_bad hI h1 hrw hfit.2.1 hfit.1) ⟨hP, hD, hS⟩
