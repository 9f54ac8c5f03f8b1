set_option maxHeartbeats 4000000 in
set_option maxRecDepth 100000 in
theorem c_X6_tree (l : Launch) (G : va_G) (Y : Nat → ClassId) (hv h7 h hto h3 h4 h5 h6 im ik : Nat) (ad : Nat → Nat) (K : Kom) (hW : cWF K) (a b : Int) (r : zR a ∧ zR b) : Met l yX6_tree wsX6_tree ({ frames := 2, cells := 0, slots := 0, locals := 46 }) (rP G Y [.ref hv, .int (iZ a), .int (iZ b)] (svO Y hv h7 h hto h3 h4 h5 h6 im ik ++ (cmW Y h ad K))) (rQ (.int (iZ (rTree K a b)))) 0 0 (fun _ => False) := by
  refine Met.ofW (cc := cX6_tree) (maxL := 3) (ret := (some .int)) (by decide) rfl ?_
  intro p e s m args below meth c s₁ B hml hv
  obtain ⟨rfl, hK, hP⟩ := hv
  have hx := B.exec
  have hb := B.bytes
  have hr := B.returns
  have hts := atoms_spec (ws := wsX6_tree) B.pre
  have hown : s.vm.findClass RX6 = some m.cls := findClass_of_methodNamed B.named
  have hlocks := B.notSynchronized
  have hFX0 : ∀ w ∈ wsX00, w ∈ wsX6_tree := by decide +kernel
  have hFX6 : ∀ w ∈ wsX60, w ∈ wsX6_tree := by decide +kernel
  have kf19 := (hts (.fieldLink RX6 19 "ShadeVotes" "present" "LShadeVotes$Commune;") (by decide +kernel))
  have kf93 := (hts (.fieldLink RX6 93 "ShadeVotes$Commune" "treeCell" "[I") (by decide +kernel))
  have kf97 := (hts (.fieldLink RX6 97 "ShadeVotes$Commune" "treeHeight" "[I") (by decide +kernel))
  have kf100 := (hts (.fieldLink RX6 100 "ShadeVotes$Commune" "treeEvergreen" "[Z") (by decide +kernel))
  have kf107 := (hts (.fieldLink RX6 107 "ShadeVotes$Commune" "treeWants" "[I") (by decide +kernel))
  have kf114 := (hts (.fieldLink RX6 114 "ShadeVotes$Commune" "treeFelled" "[Z") (by decide +kernel))
  have hl := lv_entry ([.ref hv, .int (iZ a), .int (iZ b)]) (n := 3) (Nat.le_of_ble_eq_true rfl)
  rw [lg_entry_eq]
  generalize (lg_sl ([.ref hv, .int (iZ a), .int (iZ b)]) ++ List.replicate (3 - (lg_sl ([.ref hv, .int (iZ a), .int (iZ b)])).length) Slot.unset).toArray = ls at hl ⊢
  replace hl : lv_has ls 3 [(0, .ref hv), (1, .int (iZ a)), (2, .int (iZ b))] := hl
  have h0 := hW.1
  have hnc := hW.nc
  refine lv_aload_n hx hb dX6_tree_0 rfl (lv_at hl 0 rfl) ?_
  refine va_get (D := G) (ci := 6) (v := .ref h) (C := RX6) (T := TX6) (N := 9) hx hb hts hFX6 hown hK.1 hP 0 rfl rfl 1 (by decide) kf19 (fun _ h9 => h9) rfl dX6_tree_1 ?_
  refine lv_iload_n hx hb dX6_tree_4 rfl (lv_at hl 1 rfl) ?_
  refine ro_V (As := [.int (iZ a)]) (rest := []) ⟨hx, hb, hml, hown, hts⟩ (c_X0_hasTree l G Y h ad K hW a (by omega)) (cwV 1 hts gX6_tree_X0_hasTree rfl rfl rfl (by decide +kernel) ⟨Nat.le_of_ble_eq_true rfl, Nat.le_of_ble_eq_true rfl⟩) hK (hP.sub (ws' := cmW Y h ad K) [1, 2, 3, 4, 5, 6, 7, 8] rfl) 0 rfl rfl rfl hl.1 rfl (Nat.le_of_ble_eq_true rfl) dX6_tree_5 ⟨Nat.zero_le _, Nat.zero_le _⟩ ?_
  refine z_ifb_ne (tgt := 13) hx hb dX6_tree_8 (by decide) (fun c_1 => ?_) (fun c_1 => ?_)
  · skip
    have c_1 := of_decide_eq_true c_1
    refine lv_iload_n hx hb dX6_tree_13 rfl (lv_at hl 2 rfl) ?_
    have c_2_r : (iZ b).toInt = b := iZ_toInt (by omega)
    rcases (show (b < 0 ∨ 5 < b) ∨ b = 0 ∨ b = 1 ∨ b = 2 ∨ b = 3 ∨ b = 4 ∨ b = 5 by omega) with c_2 | c_2 | c_2 | c_2 | c_2 | c_2 | c_2
    · skip
      refine lv_tableOut (tgt := 117) hx hb dX6_tree_14 (by rw [c_2_r]; exact c_2) (by decide) ?_
      refine z_iconst hx hb dX6_tree_117 ?_
      refine z_top (show (-1) = rTree K a b from ?_) ?_
      · unfold rTree; (repeat' split) <;> first | rfl | omega | (simp_all; done)
      exact W.iret (v := iZ (rTree K a b)) hx hb hr (fun t9 ht9 _ => ⟨rfl, ht9⟩) (fun q h => absurd h List.not_mem_nil) dX6_tree_118
    · skip
      replace c_2_r := c_2_r.trans c_2
      refine lv_tableIn (tgt := 52) (off := 38) hx hb dX6_tree_14 (by rw [c_2_r]; decide) (by rw [c_2_r]; decide) (by rw [c_2_r]; rfl) (by decide) ?_
      refine lv_aload_n hx hb dX6_tree_52 rfl (lv_at hl 0 rfl) ?_
      refine va_get (D := G) (ci := 6) (v := .ref h) (C := RX6) (T := TX6) (N := 9) hx hb hts hFX6 hown hK.1 hP 0 rfl rfl 1 (by decide) kf19 (fun _ h9 => h9) rfl dX6_tree_53 ?_
      refine va_get (D := G) (ci := 0) (v := .ref (ad 1)) (C := RX0) (T := TX0) (N := 14) hx hb hts hFX0 hown hK.1 hP 1 rfl rfl 7 (by decide) kf93 (fun _ h9 => h9) rfl dX6_tree_56 ?_
      refine lv_iload_n hx hb dX6_tree_59 rfl (lv_at hl 1 rfl) ?_
      refine z_iald hx hb hK.1 hP 2 0 rfl rfl ((a).toNat) (by omega) (by decide) dX6_tree_60 ?_
      have hb_3 := hW.2.1 ((a).toNat) (by omega)
      refine z_top (show (K 1) ((a).toNat) = rTree K a b from ?_) ?_
      · unfold rTree; (repeat' split) <;> first | rfl | omega | (simp_all; done)
      exact W.iret (v := iZ (rTree K a b)) hx hb hr (fun t9 ht9 _ => ⟨rfl, ht9⟩) (fun q h => absurd h List.not_mem_nil) dX6_tree_61
    · skip
      replace c_2_r := c_2_r.trans c_2
      refine lv_tableIn (tgt := 62) (off := 48) hx hb dX6_tree_14 (by rw [c_2_r]; decide) (by rw [c_2_r]; decide) (by rw [c_2_r]; rfl) (by decide) ?_
      refine lv_aload_n hx hb dX6_tree_62 rfl (lv_at hl 0 rfl) ?_
      refine va_get (D := G) (ci := 6) (v := .ref h) (C := RX6) (T := TX6) (N := 9) hx hb hts hFX6 hown hK.1 hP 0 rfl rfl 1 (by decide) kf19 (fun _ h9 => h9) rfl dX6_tree_63 ?_
      refine va_get (D := G) (ci := 0) (v := .ref (ad 2)) (C := RX0) (T := TX0) (N := 14) hx hb hts hFX0 hown hK.1 hP 1 rfl rfl 8 (by decide) kf97 (fun _ h9 => h9) rfl dX6_tree_66 ?_
      refine lv_iload_n hx hb dX6_tree_69 rfl (lv_at hl 1 rfl) ?_
      refine z_iald hx hb hK.1 hP 3 0 rfl rfl ((a).toNat) (by omega) (by decide) dX6_tree_70 ?_
      have hb_4 := hW.2.1 ((a).toNat) (by omega)
      refine z_top (show (K 2) ((a).toNat) = rTree K a b from ?_) ?_
      · unfold rTree; (repeat' split) <;> first | rfl | omega | (simp_all; done)
      exact W.iret (v := iZ (rTree K a b)) hx hb hr (fun t9 ht9 _ => ⟨rfl, ht9⟩) (fun q h => absurd h List.not_mem_nil) dX6_tree_71
    · skip
      replace c_2_r := c_2_r.trans c_2
      refine lv_tableIn (tgt := 72) (off := 58) hx hb dX6_tree_14 (by rw [c_2_r]; decide) (by rw [c_2_r]; decide) (by rw [c_2_r]; rfl) (by decide) ?_
      refine lv_aload_n hx hb dX6_tree_72 rfl (lv_at hl 0 rfl) ?_
      refine va_get (D := G) (ci := 6) (v := .ref h) (C := RX6) (T := TX6) (N := 9) hx hb hts hFX6 hown hK.1 hP 0 rfl rfl 1 (by decide) kf19 (fun _ h9 => h9) rfl dX6_tree_73 ?_
      refine va_get (D := G) (ci := 0) (v := .ref (ad 4)) (C := RX0) (T := TX0) (N := 14) hx hb hts hFX0 hown hK.1 hP 1 rfl rfl 10 (by decide) kf100 (fun _ h9 => h9) rfl dX6_tree_76 ?_
      refine lv_iload_n hx hb dX6_tree_79 rfl (lv_at hl 1 rfl) ?_
      refine z_zald hx hb hK.1 hP 5 1 rfl rfl ((a).toNat) (by omega) (by decide) dX6_tree_80 ?_
      have hbz1 := hW.2.1 ((a).toNat) (by omega)
      refine z_top (b01_dec (z := K 4 ((a).toNat)) (by omega)) ?_
      have hbd1 := b01_dec (z := K 4 ((a).toNat)) (by omega)
      refine ro_S (As := [.int (iZ (bZ (decide (K 4 ((a).toNat) = 1))))]) (rest := []) ⟨hx, hb, hml, hown, hts⟩ (c_X6_asNumber l G Y (decide (K 4 ((a).toNat) = 1))) (cwS 1 hts gX6_tree_X6_asNumber rfl rfl rfl (by decide +kernel) ⟨Nat.le_of_ble_eq_true rfl, Nat.le_of_ble_eq_true rfl⟩) hK (hP.sub (ws' := []) [] rfl) rfl hl.1 rfl (Nat.le_of_ble_eq_true rfl) dX6_tree_81 ⟨Nat.zero_le _, Nat.zero_le _⟩ ?_
      refine z_top (show bZ (decide (K 4 ((a).toNat) = 1)) = rTree K a b from ?_) ?_
      · unfold rTree; (repeat' split) <;> first | rfl | omega | (simp_all; done)
      exact W.iret (v := iZ (rTree K a b)) hx hb hr (fun t9 ht9 _ => ⟨rfl, ht9⟩) (fun q h => absurd h List.not_mem_nil) dX6_tree_84
    · skip
      replace c_2_r := c_2_r.trans c_2
      refine lv_tableIn (tgt := 85) (off := 71) hx hb dX6_tree_14 (by rw [c_2_r]; decide) (by rw [c_2_r]; decide) (by rw [c_2_r]; rfl) (by decide) ?_
      refine lv_aload_n hx hb dX6_tree_85 rfl (lv_at hl 0 rfl) ?_
      refine va_get (D := G) (ci := 6) (v := .ref h) (C := RX6) (T := TX6) (N := 9) hx hb hts hFX6 hown hK.1 hP 0 rfl rfl 1 (by decide) kf19 (fun _ h9 => h9) rfl dX6_tree_86 ?_
      refine va_get (D := G) (ci := 0) (v := .ref (ad 3)) (C := RX0) (T := TX0) (N := 14) hx hb hts hFX0 hown hK.1 hP 1 rfl rfl 9 (by decide) kf107 (fun _ h9 => h9) rfl dX6_tree_89 ?_
      refine lv_iload_n hx hb dX6_tree_92 rfl (lv_at hl 1 rfl) ?_
      refine z_iald hx hb hK.1 hP 4 0 rfl rfl ((a).toNat) (by omega) (by decide) dX6_tree_93 ?_
      have hb_5 := hW.2.1 ((a).toNat) (by omega)
      refine z_top (show (K 3) ((a).toNat) = rTree K a b from ?_) ?_
      · unfold rTree; (repeat' split) <;> first | rfl | omega | (simp_all; done)
      exact W.iret (v := iZ (rTree K a b)) hx hb hr (fun t9 ht9 _ => ⟨rfl, ht9⟩) (fun q h => absurd h List.not_mem_nil) dX6_tree_94
    · skip
      replace c_2_r := c_2_r.trans c_2
      refine lv_tableIn (tgt := 95) (off := 81) hx hb dX6_tree_14 (by rw [c_2_r]; decide) (by rw [c_2_r]; decide) (by rw [c_2_r]; rfl) (by decide) ?_
      obtain ⟨t9, ht9⟩ : ∃ t9 : Nat, a = ((t9 : Nat) : Int) := ⟨a.toNat, by omega⟩
      have ht9t : a.toNat = t9 := by omega
      rw [ht9] at hl
      refine lv_aload_n hx hb dX6_tree_95 rfl (lv_at hl 0 rfl) ?_
      refine va_get (D := G) (ci := 6) (v := .ref h) (C := RX6) (T := TX6) (N := 9) hx hb hts hFX6 hown hK.1 hP 0 rfl rfl 1 (by decide) kf19 (fun _ h9 => h9) rfl dX6_tree_96 ?_
      refine lv_iload_n hx hb dX6_tree_99 rfl (lv_at hl 1 rfl) ?_
      refine ro_V (As := [.int (iZ ((t9 : Nat) : Int))]) (rest := []) ⟨hx, hb, hml, hown, hts⟩ (c_X0_shadeOf l G Y h ad K hW t9 (by omega)) (cwV 1 hts gX6_tree_X0_shadeOf rfl rfl rfl (by decide +kernel) ⟨Nat.le_of_ble_eq_true rfl, Nat.le_of_ble_eq_true rfl⟩) hK (hP.sub (ws' := cmW Y h ad K) [1, 2, 3, 4, 5, 6, 7, 8] rfl) 0 rfl rfl rfl hl.1 rfl (Nat.le_of_ble_eq_true rfl) dX6_tree_100 ⟨Nat.zero_le _, Nat.zero_le _⟩ ?_
      refine z_top (show ((shB K t9 (K 0 0 * K 0 1).toNat : Nat) : Int) = rTree K a b from ?_) ?_
      · unfold rTree; rw [ht9t, if_pos (by omega), if_neg (by omega), if_neg (by omega), if_neg (by omega), if_neg (by omega), if_pos (by omega)]
      exact W.iret (v := iZ (rTree K a b)) hx hb hr (fun t9 ht9 _ => ⟨rfl, ht9⟩) (fun q h => absurd h List.not_mem_nil) dX6_tree_103
    · skip
      replace c_2_r := c_2_r.trans c_2
      refine lv_tableIn (tgt := 104) (off := 90) hx hb dX6_tree_14 (by rw [c_2_r]; decide) (by rw [c_2_r]; decide) (by rw [c_2_r]; rfl) (by decide) ?_
      refine lv_aload_n hx hb dX6_tree_104 rfl (lv_at hl 0 rfl) ?_
      refine va_get (D := G) (ci := 6) (v := .ref h) (C := RX6) (T := TX6) (N := 9) hx hb hts hFX6 hown hK.1 hP 0 rfl rfl 1 (by decide) kf19 (fun _ h9 => h9) rfl dX6_tree_105 ?_
      refine va_get (D := G) (ci := 0) (v := .ref (ad 5)) (C := RX0) (T := TX0) (N := 14) hx hb hts hFX0 hown hK.1 hP 1 rfl rfl 11 (by decide) kf114 (fun _ h9 => h9) rfl dX6_tree_108 ?_
      refine lv_iload_n hx hb dX6_tree_111 rfl (lv_at hl 1 rfl) ?_
      refine z_zald hx hb hK.1 hP 6 1 rfl rfl ((a).toNat) (by omega) (by decide) dX6_tree_112 ?_
      have hbz2 := hW.2.1 ((a).toNat) (by omega)
      refine z_top (b01_dec (z := K 5 ((a).toNat)) (by omega)) ?_
      have hbd2 := b01_dec (z := K 5 ((a).toNat)) (by omega)
      refine ro_S (As := [.int (iZ (bZ (decide (K 5 ((a).toNat) = 1))))]) (rest := []) ⟨hx, hb, hml, hown, hts⟩ (c_X6_asNumber l G Y (decide (K 5 ((a).toNat) = 1))) (cwS 1 hts gX6_tree_X6_asNumber rfl rfl rfl (by decide +kernel) ⟨Nat.le_of_ble_eq_true rfl, Nat.le_of_ble_eq_true rfl⟩) hK (hP.sub (ws' := []) [] rfl) rfl hl.1 rfl (Nat.le_of_ble_eq_true rfl) dX6_tree_113 ⟨Nat.zero_le _, Nat.zero_le _⟩ ?_
      refine z_top (show bZ (decide (K 5 ((a).toNat) = 1)) = rTree K a b from ?_) ?_
      · unfold rTree; (repeat' split) <;> first | rfl | omega | (simp_all; done)
      exact W.iret (v := iZ (rTree K a b)) hx hb hr (fun t9 ht9 _ => ⟨rfl, ht9⟩) (fun q h => absurd h List.not_mem_nil) dX6_tree_116
  · skip
    have c_1 := of_decide_eq_false c_1
    refine z_iconst hx hb dX6_tree_11 ?_
    refine z_top (show (-1) = rTree K a b from ?_) ?_
    · unfold rTree; (repeat' split) <;> first | rfl | omega | (simp_all; done)
    exact W.iret (v := iZ (rTree K a b)) hx hb hr (fun t9 ht9 _ => ⟨rfl, ht9⟩) (fun q h => absurd h List.not_mem_nil) dX6_tree_12

set_option maxHeartbeats 4000000 in
set_option maxRecDepth 100000 in
theorem c_X6_person (l : Launch) (G : va_G) (Y : Nat → ClassId) (hv h7 h hto h3 h4 h5 h6 im ik : Nat) (ad : Nat → Nat) (K : Kom) (hW : cWF K) (a b : Int) (r : zR a ∧ zR b) : Met l yX6_person wsX6_person ({ frames := 2, cells := 0, slots := 0, locals := 47 }) (rP G Y [.ref hv, .int (iZ a), .int (iZ b)] (svO Y hv h7 h hto h3 h4 h5 h6 im ik ++ (cmW Y h ad K))) (rQ (.int (iZ (rPers K a b)))) 0 0 (fun _ => False) := by
  refine Met.ofW (cc := cX6_person) (maxL := 3) (ret := (some .int)) (by decide) rfl ?_
  intro p e s m args below meth c s₁ B hml hv
  obtain ⟨rfl, hK, hP⟩ := hv
  have hx := B.exec
  have hb := B.bytes
  have hr := B.returns
  have hts := atoms_spec (ws := wsX6_person) B.pre
  have hown : s.vm.findClass RX6 = some m.cls := findClass_of_methodNamed B.named
  have hlocks := B.notSynchronized
  have hFX0 : ∀ w ∈ wsX00, w ∈ wsX6_person := by decide +kernel
  have hFX6 : ∀ w ∈ wsX60, w ∈ wsX6_person := by decide +kernel
  have kf19 := (hts (.fieldLink RX6 19 "ShadeVotes" "present" "LShadeVotes$Commune;") (by decide +kernel))
  have kf120 := (hts (.fieldLink RX6 120 "ShadeVotes$Commune" "personCell" "[I") (by decide +kernel))
  have kf123 := (hts (.fieldLink RX6 123 "ShadeVotes$Commune" "personWeight" "[I") (by decide +kernel))
  have hl := lv_entry ([.ref hv, .int (iZ a), .int (iZ b)]) (n := 3) (Nat.le_of_ble_eq_true rfl)
  rw [lg_entry_eq]
  generalize (lg_sl ([.ref hv, .int (iZ a), .int (iZ b)]) ++ List.replicate (3 - (lg_sl ([.ref hv, .int (iZ a), .int (iZ b)])).length) Slot.unset).toArray = ls at hl ⊢
  replace hl : lv_has ls 3 [(0, .ref hv), (1, .int (iZ a)), (2, .int (iZ b))] := hl
  have h0 := hW.1
  have hnc := hW.nc
  refine lv_aload_n hx hb dX6_person_0 rfl (lv_at hl 0 rfl) ?_
  refine va_get (D := G) (ci := 6) (v := .ref h) (C := RX6) (T := TX6) (N := 9) hx hb hts hFX6 hown hK.1 hP 0 rfl rfl 1 (by decide) kf19 (fun _ h9 => h9) rfl dX6_person_1 ?_
  refine lv_iload_n hx hb dX6_person_4 rfl (lv_at hl 1 rfl) ?_
  refine ro_V (As := [.int (iZ a)]) (rest := []) ⟨hx, hb, hml, hown, hts⟩ (c_X0_hasPerson l G Y h ad K hW a (by omega)) (cwV 1 hts gX6_person_X0_hasPerson rfl rfl rfl (by decide +kernel) ⟨Nat.le_of_ble_eq_true rfl, Nat.le_of_ble_eq_true rfl⟩) hK (hP.sub (ws' := cmW Y h ad K) [1, 2, 3, 4, 5, 6, 7, 8] rfl) 0 rfl rfl rfl hl.1 rfl (Nat.le_of_ble_eq_true rfl) dX6_person_5 ⟨Nat.zero_le _, Nat.zero_le _⟩ ?_
  refine z_ifb_ne (tgt := 13) hx hb dX6_person_8 (by decide) (fun c_1 => ?_) (fun c_1 => ?_)
  · skip
    have c_1 := of_decide_eq_true c_1
    refine lv_iload_n hx hb dX6_person_13 rfl (lv_at hl 2 rfl) ?_
    have c_2_r : (iZ b).toInt = b := iZ_toInt (by omega)
    rcases (show (b < 0 ∨ 2 < b) ∨ b = 0 ∨ b = 1 ∨ b = 2 by omega) with c_2 | c_2 | c_2 | c_2
    · skip
      refine lv_tableOut (tgt := 77) hx hb dX6_person_14 (by rw [c_2_r]; exact c_2) (by decide) ?_
      refine z_iconst hx hb dX6_person_77 ?_
      refine z_top (show (-1) = rPers K a b from ?_) ?_
      · unfold rPers; (repeat' split) <;> first | rfl | omega | (simp_all; done)
      exact W.iret (v := iZ (rPers K a b)) hx hb hr (fun t9 ht9 _ => ⟨rfl, ht9⟩) (fun q h => absurd h List.not_mem_nil) dX6_person_78
    · skip
      replace c_2_r := c_2_r.trans c_2
      refine lv_tableIn (tgt := 40) (off := 26) hx hb dX6_person_14 (by rw [c_2_r]; decide) (by rw [c_2_r]; decide) (by rw [c_2_r]; rfl) (by decide) ?_
      refine lv_aload_n hx hb dX6_person_40 rfl (lv_at hl 0 rfl) ?_
      refine va_get (D := G) (ci := 6) (v := .ref h) (C := RX6) (T := TX6) (N := 9) hx hb hts hFX6 hown hK.1 hP 0 rfl rfl 1 (by decide) kf19 (fun _ h9 => h9) rfl dX6_person_41 ?_
      refine va_get (D := G) (ci := 0) (v := .ref (ad 6)) (C := RX0) (T := TX0) (N := 14) hx hb hts hFX0 hown hK.1 hP 1 rfl rfl 12 (by decide) kf120 (fun _ h9 => h9) rfl dX6_person_44 ?_
      refine lv_iload_n hx hb dX6_person_47 rfl (lv_at hl 1 rfl) ?_
      refine z_iald hx hb hK.1 hP 7 0 rfl rfl ((a).toNat) (by omega) (by decide) dX6_person_48 ?_
      have hb_3 := hW.2.2.1 ((a).toNat) (by omega)
      refine z_top (show (K 6) ((a).toNat) = rPers K a b from ?_) ?_
      · unfold rPers; (repeat' split) <;> first | rfl | omega | (simp_all; done)
      exact W.iret (v := iZ (rPers K a b)) hx hb hr (fun t9 ht9 _ => ⟨rfl, ht9⟩) (fun q h => absurd h List.not_mem_nil) dX6_person_49
    · skip
      replace c_2_r := c_2_r.trans c_2
      refine lv_tableIn (tgt := 50) (off := 36) hx hb dX6_person_14 (by rw [c_2_r]; decide) (by rw [c_2_r]; decide) (by rw [c_2_r]; rfl) (by decide) ?_
      refine lv_aload_n hx hb dX6_person_50 rfl (lv_at hl 0 rfl) ?_
      refine va_get (D := G) (ci := 6) (v := .ref h) (C := RX6) (T := TX6) (N := 9) hx hb hts hFX6 hown hK.1 hP 0 rfl rfl 1 (by decide) kf19 (fun _ h9 => h9) rfl dX6_person_51 ?_
      refine va_get (D := G) (ci := 0) (v := .ref (ad 7)) (C := RX0) (T := TX0) (N := 14) hx hb hts hFX0 hown hK.1 hP 1 rfl rfl 13 (by decide) kf123 (fun _ h9 => h9) rfl dX6_person_54 ?_
      refine lv_iload_n hx hb dX6_person_57 rfl (lv_at hl 1 rfl) ?_
      refine z_iald hx hb hK.1 hP 8 0 rfl rfl ((a).toNat) (by omega) (by decide) dX6_person_58 ?_
      have hb_4 := hW.2.2.1 ((a).toNat) (by omega)
      refine z_top (show (K 7) ((a).toNat) = rPers K a b from ?_) ?_
      · unfold rPers; (repeat' split) <;> first | rfl | omega | (simp_all; done)
      exact W.iret (v := iZ (rPers K a b)) hx hb hr (fun t9 ht9 _ => ⟨rfl, ht9⟩) (fun q h => absurd h List.not_mem_nil) dX6_person_59
    · skip
      replace c_2_r := c_2_r.trans c_2
      refine lv_tableIn (tgt := 60) (off := 46) hx hb dX6_person_14 (by rw [c_2_r]; decide) (by rw [c_2_r]; decide) (by rw [c_2_r]; rfl) (by decide) ?_
      refine lv_aload_n hx hb dX6_person_60 rfl (lv_at hl 0 rfl) ?_
      refine va_get (D := G) (ci := 6) (v := .ref h) (C := RX6) (T := TX6) (N := 9) hx hb hts hFX6 hown hK.1 hP 0 rfl rfl 1 (by decide) kf19 (fun _ h9 => h9) rfl dX6_person_61 ?_
      refine lv_aload_n hx hb dX6_person_64 rfl (lv_at hl 0 rfl) ?_
      refine va_get (D := G) (ci := 6) (v := .ref h) (C := RX6) (T := TX6) (N := 9) hx hb hts hFX6 hown hK.1 hP 0 rfl rfl 1 (by decide) kf19 (fun _ h9 => h9) rfl dX6_person_65 ?_
      refine va_get (D := G) (ci := 0) (v := .ref (ad 6)) (C := RX0) (T := TX0) (N := 14) hx hb hts hFX0 hown hK.1 hP 1 rfl rfl 12 (by decide) kf120 (fun _ h9 => h9) rfl dX6_person_68 ?_
      refine lv_iload_n hx hb dX6_person_71 rfl (lv_at hl 1 rfl) ?_
      refine z_iald hx hb hK.1 hP 7 0 rfl rfl ((a).toNat) (by omega) (by decide) dX6_person_72 ?_
      have hb_5 := hW.2.2.1 ((a).toNat) (by omega)
      refine ro_V (As := [.int (iZ ((K 6) ((a).toNat)))]) (rest := []) ⟨hx, hb, hml, hown, hts⟩ (c_X0_treeOver l G Y h ad K hW ((K 6) ((a).toNat)) (by omega)) (cwV 1 hts gX6_person_X0_treeOver rfl rfl rfl (by decide +kernel) ⟨Nat.le_of_ble_eq_true rfl, Nat.le_of_ble_eq_true rfl⟩) hK (hP.sub (ws' := cmW Y h ad K) [1, 2, 3, 4, 5, 6, 7, 8] rfl) 0 rfl rfl rfl hl.1 rfl (Nat.le_of_ble_eq_true rfl) dX6_person_73 ⟨Nat.zero_le _, Nat.zero_le _⟩ ?_
      have hb_6 := ov_in hW ((K 6) ((a).toNat))
      refine z_top (show ov K ((K 6) ((a).toNat)) = rPers K a b from ?_) ?_
      · unfold rPers; (repeat' split) <;> first | rfl | omega | (simp_all; done)
      exact W.iret (v := iZ (rPers K a b)) hx hb hr (fun t9 ht9 _ => ⟨rfl, ht9⟩) (fun q h => absurd h List.not_mem_nil) dX6_person_76
  · skip
    have c_1 := of_decide_eq_false c_1
    refine z_iconst hx hb dX6_person_11 ?_
    refine z_top (show (-1) = rPers K a b from ?_) ?_
    · unfold rPers; (repeat' split) <;> first | rfl | omega | (simp_all; done)
    exact W.iret (v := iZ (rPers K a b)) hx hb hr (fun t9 ht9 _ => ⟨rfl, ht9⟩) (fun q h => absurd h List.not_mem_nil) dX6_person_12

set_option maxHeartbeats 4000000 in
set_option maxRecDepth 100000 in
theorem c_X6_motion (l : Launch) (G : va_G) (Y : Nat → ClassId) (hv h7 h hto h3 h4 h5 h6 im ik : Nat) (ad : Nat → Nat) (K : Kom) (hW : cWF K) (a b : Int) (r : zR a ∧ zR b) : Met l yX6_motion wsX6_motion ({ frames := 5, cells := 0, slots := 0, locals := 115 }) (rP G Y [.ref hv, .int (iZ a), .int (iZ b)] (svO Y hv h7 h hto h3 h4 h5 h6 im ik ++ (cmW Y h ad K))) (rQ (.int (iZ (rMot K a b)))) 0 0 (fun _ => False) := by
  refine Met.ofW (cc := cX6_motion) (maxL := 3) (ret := (some .int)) (by decide) rfl ?_
  intro p e s m args below meth c s₁ B hml hv
  obtain ⟨rfl, hK, hP⟩ := hv
  have hx := B.exec
  have hb := B.bytes
  have hr := B.returns
  have hts := atoms_spec (ws := wsX6_motion) B.pre
  have hown : s.vm.findClass RX6 = some m.cls := findClass_of_methodNamed B.named
  have hlocks := B.notSynchronized
  have hFX6 : ∀ w ∈ wsX60, w ∈ wsX6_motion := by decide +kernel
  have kf19 := (hts (.fieldLink RX6 19 "ShadeVotes" "present" "LShadeVotes$Commune;") (by decide +kernel))
  have hl := lv_entry ([.ref hv, .int (iZ a), .int (iZ b)]) (n := 3) (Nat.le_of_ble_eq_true rfl)
  rw [lg_entry_eq]
  generalize (lg_sl ([.ref hv, .int (iZ a), .int (iZ b)]) ++ List.replicate (3 - (lg_sl ([.ref hv, .int (iZ a), .int (iZ b)])).length) Slot.unset).toArray = ls at hl ⊢
  replace hl : lv_has ls 3 [(0, .ref hv), (1, .int (iZ a)), (2, .int (iZ b))] := hl
  have h0 := hW.1
  have hnc := hW.nc
  refine lv_iload_n hx hb dX6_motion_0 rfl (lv_at hl 1 rfl) ?_
  refine ro_S (As := [.int (iZ a)]) (rest := []) ⟨hx, hb, hml, hown, hts⟩ (c_X6_isMotion l G Y a (by omega)) (cwS 1 hts gX6_motion_X6_isMotion rfl rfl rfl (by decide +kernel) ⟨Nat.le_of_ble_eq_true rfl, Nat.le_of_ble_eq_true rfl⟩) hK (hP.sub (ws' := []) [] rfl) rfl hl.1 rfl (Nat.le_of_ble_eq_true rfl) dX6_motion_1 ⟨Nat.zero_le _, Nat.zero_le _⟩ ?_
  refine z_ifb_ne (tgt := 9) hx hb dX6_motion_4 (by decide) (fun c_1 => ?_) (fun c_1 => ?_)
  · skip
    have c_1 := of_decide_eq_true c_1
    obtain ⟨mo, hmo⟩ : ∃ mo : Nat, a = ((mo : Nat) : Int) := ⟨a.toNat, by omega⟩
    have hmot : a.toNat = mo := by omega
    rw [hmo] at hl
    refine lv_iload_n hx hb dX6_motion_9 rfl (lv_at hl 2 rfl) ?_
    have c_2_r : (iZ b).toInt = b := iZ_toInt (by omega)
    rcases (show (b < 0 ∨ 2 < b) ∨ b = 0 ∨ b = 1 ∨ b = 2 by omega) with c_2 | c_2 | c_2 | c_2
    · skip
      refine lv_tableOut (tgt := 68) hx hb dX6_motion_10 (by rw [c_2_r]; exact c_2) (by decide) ?_
      refine z_iconst hx hb dX6_motion_68 ?_
      refine z_top (show (-1) = rMot K a b from ?_) ?_
      · unfold rMot; (try rw [hmot]); (repeat' split) <;> first | rfl | omega | (simp_all; done)
      exact W.iret (v := iZ (rMot K a b)) hx hb hr (fun t9 ht9 _ => ⟨rfl, ht9⟩) (fun q h => absurd h List.not_mem_nil) dX6_motion_69
    · skip
      replace c_2_r := c_2_r.trans c_2
      refine lv_tableIn (tgt := 36) (off := 26) hx hb dX6_motion_10 (by rw [c_2_r]; decide) (by rw [c_2_r]; decide) (by rw [c_2_r]; rfl) (by decide) ?_
      refine lv_aload_n hx hb dX6_motion_36 rfl (lv_at hl 0 rfl) ?_
      refine va_get (D := G) (ci := 6) (v := .ref h) (C := RX6) (T := TX6) (N := 9) hx hb hts hFX6 hown hK.1 hP 0 rfl rfl 1 (by decide) kf19 (fun _ h9 => h9) rfl dX6_motion_37 ?_
      refine lv_iload_n hx hb dX6_motion_40 rfl (lv_at hl 1 rfl) ?_
      refine z_iconst hx hb dX6_motion_41 ?_
      refine ro_V (As := [.int (iZ ((mo : Nat) : Int)), .int (iZ 1)]) (rest := []) ⟨hx, hb, hml, hown, hts⟩ (c_X0_weightBehind l G Y h ad K hW mo 1 (by omega)) (cwV 2 hts gX6_motion_X0_weightBehind rfl rfl rfl (by decide +kernel) ⟨Nat.le_of_ble_eq_true rfl, Nat.le_of_ble_eq_true rfl⟩) hK (hP.sub (ws' := cmW Y h ad K) [1, 2, 3, 4, 5, 6, 7, 8] rfl) 0 rfl rfl rfl hl.1 rfl (Nat.le_of_ble_eq_true rfl) dX6_motion_42 ⟨Nat.zero_le _, Nat.zero_le _⟩ ?_
      have hb_3 := wb_in hW mo 1
      refine z_top (show wb K mo 1 = rMot K a b from ?_) ?_
      · unfold rMot; (try rw [hmot]); (repeat' split) <;> first | rfl | omega | (simp_all; done)
      exact W.iret (v := iZ (rMot K a b)) hx hb hr (fun t9 ht9 _ => ⟨rfl, ht9⟩) (fun q h => absurd h List.not_mem_nil) dX6_motion_45
    · skip
      replace c_2_r := c_2_r.trans c_2
      refine lv_tableIn (tgt := 46) (off := 36) hx hb dX6_motion_10 (by rw [c_2_r]; decide) (by rw [c_2_r]; decide) (by rw [c_2_r]; rfl) (by decide) ?_
      refine lv_aload_n hx hb dX6_motion_46 rfl (lv_at hl 0 rfl) ?_
      refine va_get (D := G) (ci := 6) (v := .ref h) (C := RX6) (T := TX6) (N := 9) hx hb hts hFX6 hown hK.1 hP 0 rfl rfl 1 (by decide) kf19 (fun _ h9 => h9) rfl dX6_motion_47 ?_
      refine lv_iload_n hx hb dX6_motion_50 rfl (lv_at hl 1 rfl) ?_
      refine z_iconst hx hb dX6_motion_51 ?_
      refine ro_V (As := [.int (iZ ((mo : Nat) : Int)), .int (iZ (-1))]) (rest := []) ⟨hx, hb, hml, hown, hts⟩ (c_X0_weightBehind l G Y h ad K hW mo (-1) (by omega)) (cwV 2 hts gX6_motion_X0_weightBehind rfl rfl rfl (by decide +kernel) ⟨Nat.le_of_ble_eq_true rfl, Nat.le_of_ble_eq_true rfl⟩) hK (hP.sub (ws' := cmW Y h ad K) [1, 2, 3, 4, 5, 6, 7, 8] rfl) 0 rfl rfl rfl hl.1 rfl (Nat.le_of_ble_eq_true rfl) dX6_motion_52 ⟨Nat.zero_le _, Nat.zero_le _⟩ ?_
      have hb_4 := wb_in hW mo (-1)
      refine z_top (show wb K mo (-1) = rMot K a b from ?_) ?_
      · unfold rMot; (try rw [hmot]); (repeat' split) <;> first | rfl | omega | (simp_all; done)
      exact W.iret (v := iZ (rMot K a b)) hx hb hr (fun t9 ht9 _ => ⟨rfl, ht9⟩) (fun q h => absurd h List.not_mem_nil) dX6_motion_55
    · skip
      replace c_2_r := c_2_r.trans c_2
      refine lv_tableIn (tgt := 56) (off := 46) hx hb dX6_motion_10 (by rw [c_2_r]; decide) (by rw [c_2_r]; decide) (by rw [c_2_r]; rfl) (by decide) ?_
      refine lv_aload_n hx hb dX6_motion_56 rfl (lv_at hl 0 rfl) ?_
      refine va_get (D := G) (ci := 6) (v := .ref h) (C := RX6) (T := TX6) (N := 9) hx hb hts hFX6 hown hK.1 hP 0 rfl rfl 1 (by decide) kf19 (fun _ h9 => h9) rfl dX6_motion_57 ?_
      refine lv_iload_n hx hb dX6_motion_60 rfl (lv_at hl 1 rfl) ?_
      refine ro_V (As := [.int (iZ ((mo : Nat) : Int))]) (rest := []) ⟨hx, hb, hml, hown, hts⟩ (c_X0_isCarried l G Y h ad K hW mo (by omega)) (cwV 1 hts gX6_motion_X0_isCarried rfl rfl rfl (by decide +kernel) ⟨Nat.le_of_ble_eq_true rfl, Nat.le_of_ble_eq_true rfl⟩) hK (hP.sub (ws' := cmW Y h ad K) [1, 2, 3, 4, 5, 6, 7, 8] rfl) 0 rfl rfl rfl hl.1 rfl (Nat.le_of_ble_eq_true rfl) dX6_motion_61 ⟨Nat.zero_le _, Nat.zero_le _⟩ ?_
      refine ro_S (As := [.int (iZ (bZ (crd K mo)))]) (rest := []) ⟨hx, hb, hml, hown, hts⟩ (c_X6_asNumber l G Y (crd K mo)) (cwS 1 hts gX6_motion_X6_asNumber rfl rfl rfl (by decide +kernel) ⟨Nat.le_of_ble_eq_true rfl, Nat.le_of_ble_eq_true rfl⟩) hK (hP.sub (ws' := []) [] rfl) rfl hl.1 rfl (Nat.le_of_ble_eq_true rfl) dX6_motion_64 ⟨Nat.zero_le _, Nat.zero_le _⟩ ?_
      refine z_top (show bZ (crd K mo) = rMot K a b from ?_) ?_
      · unfold rMot; (try rw [hmot]); (repeat' split) <;> first | rfl | omega | (simp_all; done)
      exact W.iret (v := iZ (rMot K a b)) hx hb hr (fun t9 ht9 _ => ⟨rfl, ht9⟩) (fun q h => absurd h List.not_mem_nil) dX6_motion_67
  · skip
    have c_1 := of_decide_eq_false c_1
    refine z_iconst hx hb dX6_motion_7 ?_
    refine z_top (show (-1) = rMot K a b from ?_) ?_
    · unfold rMot; (repeat' split) <;> first | rfl | omega | (simp_all; done)
    exact W.iret (v := iZ (rMot K a b)) hx hb hr (fun t9 ht9 _ => ⟨rfl, ht9⟩) (fun q h => absurd h List.not_mem_nil) dX6_motion_8

set_option maxHeartbeats 4000000 in
set_option maxRecDepth 100000 in
theorem c_X6_now (l : Launch) (G : va_G) (Y : Nat → ClassId) (hv h7 h hto h3 h4 h5 h6 im ik : Nat) (ad : Nat → Nat) (K : Kom) (hW : cWF K) (kn : Nat) (hk : Nat → Nat) (nx sz : Int) (a : Int) (r : zR a ∧ zR sz) : Met l yX6_now wsX6_now ({ frames := 1, cells := 0, slots := 0, locals := 20 }) (rP G Y [.ref hv, .int (iZ a)] (svO Y hv h7 h hto h3 h4 h5 h6 im ik ++ (cmW Y h ad K ++ paW Y h3 kn hk nx sz))) (rQ (.int (iZ (rNow K sz a)))) 0 0 (fun _ => False) := by
  refine Met.ofW (cc := cX6_now) (maxL := 2) (ret := (some .int)) (by decide) rfl ?_
  intro p e s m args below meth c s₁ B hml hv
  obtain ⟨rfl, hK, hP⟩ := hv
  have hx := B.exec
  have hb := B.bytes
  have hr := B.returns
  have hts := atoms_spec (ws := wsX6_now) B.pre
  have hown : s.vm.findClass RX6 = some m.cls := findClass_of_methodNamed B.named
  have hlocks := B.notSynchronized
  have hFX0 : ∀ w ∈ wsX00, w ∈ wsX6_now := by decide +kernel
  have hFX2 : ∀ w ∈ wsX20, w ∈ wsX6_now := by decide +kernel
  have hFX6 : ∀ w ∈ wsX60, w ∈ wsX6_now := by decide +kernel
  have kf19 := (hts (.fieldLink RX6 19 "ShadeVotes" "present" "LShadeVotes$Commune;") (by decide +kernel))
  have kf139 := (hts (.fieldLink RX6 139 "ShadeVotes$Commune" "day" "I") (by decide +kernel))
  have kf142 := (hts (.fieldLink RX6 142 "ShadeVotes$Commune" "sunlight" "I") (by decide +kernel))
  have kf145 := (hts (.fieldLink RX6 145 "ShadeVotes$Commune" "isWinter" "Z") (by decide +kernel))
  have kf149 := (hts (.fieldLink RX6 149 "ShadeVotes$Commune" "trees" "I") (by decide +kernel))
  have kf29 := (hts (.fieldLink RX6 29 "ShadeVotes" "past" "LShadeVotes$Past;") (by decide +kernel))
  have kf152 := (hts (.fieldLink RX6 152 "ShadeVotes$Past" "size" "I") (by decide +kernel))
  have hl := lv_entry ([.ref hv, .int (iZ a)]) (n := 2) (Nat.le_of_ble_eq_true rfl)
  rw [lg_entry_eq]
  generalize (lg_sl ([.ref hv, .int (iZ a)]) ++ List.replicate (2 - (lg_sl ([.ref hv, .int (iZ a)])).length) Slot.unset).toArray = ls at hl ⊢
  replace hl : lv_has ls 2 [(0, .ref hv), (1, .int (iZ a))] := hl
  have h0 := hW.1
  have hnc := hW.nc
  refine lv_iload_n hx hb dX6_now_0 rfl (lv_at hl 1 rfl) ?_
  have c_1_r : (iZ a).toInt = a := iZ_toInt (by omega)
  rcases (show (a < 0 ∨ 4 < a) ∨ a = 0 ∨ a = 1 ∨ a = 2 ∨ a = 3 ∨ a = 4 by omega) with c_1 | c_1 | c_1 | c_1 | c_1 | c_1
  · skip
    refine lv_tableOut (tgt := 79) hx hb dX6_now_1 (by rw [c_1_r]; exact c_1) (by decide) ?_
    refine z_iconst hx hb dX6_now_79 ?_
    refine z_top (show (-1) = rNow K sz a from ?_) ?_
    · unfold rNow; (repeat' split) <;> first | rfl | omega | (simp_all; done)
    exact W.iret (v := iZ (rNow K sz a)) hx hb hr (fun t9 ht9 _ => ⟨rfl, ht9⟩) (fun q h => absurd h List.not_mem_nil) dX6_now_80
  · skip
    replace c_1_r := c_1_r.trans c_1
    refine lv_tableIn (tgt := 36) (off := 35) hx hb dX6_now_1 (by rw [c_1_r]; decide) (by rw [c_1_r]; decide) (by rw [c_1_r]; rfl) (by decide) ?_
    refine lv_aload_n hx hb dX6_now_36 rfl (lv_at hl 0 rfl) ?_
    refine va_get (D := G) (ci := 6) (v := .ref h) (C := RX6) (T := TX6) (N := 9) hx hb hts hFX6 hown hK.1 hP 0 rfl rfl 1 (by decide) kf19 (fun _ h9 => h9) rfl dX6_now_37 ?_
    refine va_get (D := G) (ci := 0) (v := .int (iZ (K 0 5))) (C := RX0) (T := TX0) (N := 14) hx hb hts hFX0 hown hK.1 hP 1 rfl rfl 5 (by decide) kf139 (fun _ h9 => h9) rfl dX6_now_40 ?_
    refine z_top (show K 0 5 = rNow K sz a from ?_) ?_
    · unfold rNow; (repeat' split) <;> first | rfl | omega | (simp_all; done)
    exact W.iret (v := iZ (rNow K sz a)) hx hb hr (fun t9 ht9 _ => ⟨rfl, ht9⟩) (fun q h => absurd h List.not_mem_nil) dX6_now_43
  · skip
    replace c_1_r := c_1_r.trans c_1
    refine lv_tableIn (tgt := 44) (off := 43) hx hb dX6_now_1 (by rw [c_1_r]; decide) (by rw [c_1_r]; decide) (by rw [c_1_r]; rfl) (by decide) ?_
    refine lv_aload_n hx hb dX6_now_44 rfl (lv_at hl 0 rfl) ?_
    refine va_get (D := G) (ci := 6) (v := .ref h) (C := RX6) (T := TX6) (N := 9) hx hb hts hFX6 hown hK.1 hP 0 rfl rfl 1 (by decide) kf19 (fun _ h9 => h9) rfl dX6_now_45 ?_
    refine va_get (D := G) (ci := 0) (v := .int (iZ (K 0 4))) (C := RX0) (T := TX0) (N := 14) hx hb hts hFX0 hown hK.1 hP 1 rfl rfl 4 (by decide) kf142 (fun _ h9 => h9) rfl dX6_now_48 ?_
    refine z_top (show K 0 4 = rNow K sz a from ?_) ?_
    · unfold rNow; (repeat' split) <;> first | rfl | omega | (simp_all; done)
    exact W.iret (v := iZ (rNow K sz a)) hx hb hr (fun t9 ht9 _ => ⟨rfl, ht9⟩) (fun q h => absurd h List.not_mem_nil) dX6_now_51
  · skip
    replace c_1_r := c_1_r.trans c_1
    refine lv_tableIn (tgt := 52) (off := 51) hx hb dX6_now_1 (by rw [c_1_r]; decide) (by rw [c_1_r]; decide) (by rw [c_1_r]; rfl) (by decide) ?_
    refine lv_aload_n hx hb dX6_now_52 rfl (lv_at hl 0 rfl) ?_
    refine va_get (D := G) (ci := 6) (v := .ref h) (C := RX6) (T := TX6) (N := 9) hx hb hts hFX6 hown hK.1 hP 0 rfl rfl 1 (by decide) kf19 (fun _ h9 => h9) rfl dX6_now_53 ?_
    refine va_get (D := G) (ci := 0) (v := .int (iZ (K 0 6))) (C := RX0) (T := TX0) (N := 14) hx hb hts hFX0 hown hK.1 hP 1 rfl rfl 6 (by decide) kf145 (fun _ h9 => h9) rfl dX6_now_56 ?_
    refine z_top (b01_dec (z := K 0 6) (by omega)) ?_
    have hbd9 := b01_dec (z := K 0 6) (by omega)
    refine ro_S (As := [.int (iZ (bZ (decide (K 0 6 = 1))))]) (rest := []) ⟨hx, hb, hml, hown, hts⟩ (c_X6_asNumber l G Y (decide (K 0 6 = 1))) (cwS 1 hts gX6_now_X6_asNumber rfl rfl rfl (by decide +kernel) ⟨Nat.le_of_ble_eq_true rfl, Nat.le_of_ble_eq_true rfl⟩) hK (hP.sub (ws' := []) [] rfl) rfl hl.1 rfl (Nat.le_of_ble_eq_true rfl) dX6_now_59 ⟨Nat.zero_le _, Nat.zero_le _⟩ ?_
    refine z_top (show bZ (decide (K 0 6 = 1)) = rNow K sz a from ?_) ?_
    · unfold rNow; (repeat' split) <;> first | rfl | omega | (simp_all; done)
    exact W.iret (v := iZ (rNow K sz a)) hx hb hr (fun t9 ht9 _ => ⟨rfl, ht9⟩) (fun q h => absurd h List.not_mem_nil) dX6_now_62
  · skip
    replace c_1_r := c_1_r.trans c_1
    refine lv_tableIn (tgt := 63) (off := 62) hx hb dX6_now_1 (by rw [c_1_r]; decide) (by rw [c_1_r]; decide) (by rw [c_1_r]; rfl) (by decide) ?_
    refine lv_aload_n hx hb dX6_now_63 rfl (lv_at hl 0 rfl) ?_
    refine va_get (D := G) (ci := 6) (v := .ref h) (C := RX6) (T := TX6) (N := 9) hx hb hts hFX6 hown hK.1 hP 0 rfl rfl 1 (by decide) kf19 (fun _ h9 => h9) rfl dX6_now_64 ?_
    refine va_get (D := G) (ci := 0) (v := .int (iZ (K 0 2))) (C := RX0) (T := TX0) (N := 14) hx hb hts hFX0 hown hK.1 hP 1 rfl rfl 2 (by decide) kf149 (fun _ h9 => h9) rfl dX6_now_67 ?_
    refine z_top (show K 0 2 = rNow K sz a from ?_) ?_
    · unfold rNow; (repeat' split) <;> first | rfl | omega | (simp_all; done)
    exact W.iret (v := iZ (rNow K sz a)) hx hb hr (fun t9 ht9 _ => ⟨rfl, ht9⟩) (fun q h => absurd h List.not_mem_nil) dX6_now_70
  · skip
    replace c_1_r := c_1_r.trans c_1
    refine lv_tableIn (tgt := 71) (off := 70) hx hb dX6_now_1 (by rw [c_1_r]; decide) (by rw [c_1_r]; decide) (by rw [c_1_r]; rfl) (by decide) ?_
    refine lv_aload_n hx hb dX6_now_71 rfl (lv_at hl 0 rfl) ?_
    refine va_get (D := G) (ci := 6) (v := .ref h3) (C := RX6) (T := TX6) (N := 9) hx hb hts hFX6 hown hK.1 hP 0 rfl rfl 3 (by decide) kf29 (fun _ h9 => h9) rfl dX6_now_72 ?_
    refine va_get (D := G) (ci := 2) (v := .int (iZ sz)) (C := RX2) (T := TX2) (N := 3) hx hb hts hFX2 hown hK.1 hP 9 rfl rfl 2 (by decide) kf152 (fun _ h9 => h9) rfl dX6_now_75 ?_
    refine z_top (show sz = rNow K sz a from ?_) ?_
    · unfold rNow; (repeat' split) <;> first | rfl | omega | (simp_all; done)
    exact W.iret (v := iZ (rNow K sz a)) hx hb hr (fun t9 ht9 _ => ⟨rfl, ht9⟩) (fun q h => absurd h List.not_mem_nil) dX6_now_78

set_option maxHeartbeats 4000000 in
set_option maxRecDepth 100000 in
theorem c_X6_share (l : Launch) (G : va_G) (Y : Nat → ClassId) (hv h7 h hto h3 h4 h5 h6 im ik : Nat) (ad : Nat → Nat) (K : Kom) (hW : cWF K) (a : Int) (r : zR a) : Met l yX6_share wsX6_share ({ frames := 4, cells := 0, slots := 0, locals := 92 }) (rP G Y [.ref hv, .int (iZ a)] (svO Y hv h7 h hto h3 h4 h5 h6 im ik ++ (cmW Y h ad K))) (rQ (.int (iZ (rShare K a)))) 0 0 (fun _ => False) := by
  refine Met.ofW (cc := cX6_share) (maxL := 2) (ret := (some .int)) (by decide) rfl ?_
  intro p e s m args below meth c s₁ B hml hv
  obtain ⟨rfl, hK, hP⟩ := hv
  have hx := B.exec
  have hb := B.bytes
  have hr := B.returns
  have hts := atoms_spec (ws := wsX6_share) B.pre
  have hown : s.vm.findClass RX6 = some m.cls := findClass_of_methodNamed B.named
  have hlocks := B.notSynchronized
  have hFX6 : ∀ w ∈ wsX60, w ∈ wsX6_share := by decide +kernel
  have kf19 := (hts (.fieldLink RX6 19 "ShadeVotes" "present" "LShadeVotes$Commune;") (by decide +kernel))
  have hl := lv_entry ([.ref hv, .int (iZ a)]) (n := 2) (Nat.le_of_ble_eq_true rfl)
  rw [lg_entry_eq]
  generalize (lg_sl ([.ref hv, .int (iZ a)]) ++ List.replicate (2 - (lg_sl ([.ref hv, .int (iZ a)])).length) Slot.unset).toArray = ls at hl ⊢
  replace hl : lv_has ls 2 [(0, .ref hv), (1, .int (iZ a))] := hl
  have h0 := hW.1
  have hnc := hW.nc
  refine lv_aload_n hx hb dX6_share_0 rfl (lv_at hl 0 rfl) ?_
  refine va_get (D := G) (ci := 6) (v := .ref h) (C := RX6) (T := TX6) (N := 9) hx hb hts hFX6 hown hK.1 hP 0 rfl rfl 1 (by decide) kf19 (fun _ h9 => h9) rfl dX6_share_1 ?_
  refine lv_iload_n hx hb dX6_share_4 rfl (lv_at hl 1 rfl) ?_
  refine ro_V (As := [.int (iZ a)]) (rest := []) ⟨hx, hb, hml, hown, hts⟩ (c_X0_hasTree l G Y h ad K hW a (by omega)) (cwV 1 hts gX6_share_X0_hasTree rfl rfl rfl (by decide +kernel) ⟨Nat.le_of_ble_eq_true rfl, Nat.le_of_ble_eq_true rfl⟩) hK (hP.sub (ws' := cmW Y h ad K) [1, 2, 3, 4, 5, 6, 7, 8] rfl) 0 rfl rfl rfl hl.1 rfl (Nat.le_of_ble_eq_true rfl) dX6_share_5 ⟨Nat.zero_le _, Nat.zero_le _⟩ ?_
  refine z_ifb_ne (tgt := 13) hx hb dX6_share_8 (by decide) (fun c_1 => ?_) (fun c_1 => ?_)
  · skip
    have c_1 := of_decide_eq_true c_1
    refine z_bipush hx hb dX6_share_13 (by decide) ?_
    refine lv_aload_n hx hb dX6_share_15 rfl (lv_at hl 0 rfl) ?_
    refine va_get (D := G) (ci := 6) (v := .ref h) (C := RX6) (T := TX6) (N := 9) hx hb hts hFX6 hown hK.1 hP 0 rfl rfl 1 (by decide) kf19 (fun _ h9 => h9) rfl dX6_share_16 ?_
    refine lv_iload_n hx hb dX6_share_19 rfl (lv_at hl 1 rfl) ?_
    refine ro_V (As := [.int (iZ a)]) (rest := [.int (iZ 100)]) ⟨hx, hb, hml, hown, hts⟩ (c_X0_weightUnder l G Y h ad K hW a (by omega)) (cwV 1 hts gX6_share_X0_weightUnder rfl rfl rfl (by decide +kernel) ⟨Nat.le_of_ble_eq_true rfl, Nat.le_of_ble_eq_true rfl⟩) hK (hP.sub (ws' := cmW Y h ad K) [1, 2, 3, 4, 5, 6, 7, 8] rfl) 0 rfl rfl rfl hl.1 rfl (Nat.le_of_ble_eq_true rfl) dX6_share_20 ⟨Nat.zero_le _, Nat.zero_le _⟩ ?_
    have hb_2 := wu_in hW a
    refine z_imul hx hb dX6_share_23 ?_
    refine lv_aload_n hx hb dX6_share_24 rfl (lv_at hl 0 rfl) ?_
    refine va_get (D := G) (ci := 6) (v := .ref h) (C := RX6) (T := TX6) (N := 9) hx hb hts hFX6 hown hK.1 hP 0 rfl rfl 1 (by decide) kf19 (fun _ h9 => h9) rfl dX6_share_25 ?_
    refine ro_V (As := []) (rest := [.int (iZ (100 * wu K a))]) ⟨hx, hb, hml, hown, hts⟩ (c_X0_weightUnderTrees l G Y h ad K hW ) (cwV 0 hts gX6_share_X0_weightUnderTrees rfl rfl rfl (by decide +kernel) ⟨Nat.le_of_ble_eq_true rfl, Nat.le_of_ble_eq_true rfl⟩) hK (hP.sub (ws' := cmW Y h ad K) [1, 2, 3, 4, 5, 6, 7, 8] rfl) 0 rfl rfl rfl hl.1 rfl (Nat.le_of_ble_eq_true rfl) dX6_share_28 ⟨Nat.zero_le _, Nat.zero_le _⟩ ?_
    have hb_3 := wtN_in hW (K 0 2).toNat
    refine ro_S (As := [.int (iZ (100 * wu K a)), .int (iZ (wtN K (K 0 2).toNat))]) (rest := []) ⟨hx, hb, hml, hown, hts⟩ (c_X6_cut l G Y (100 * wu K a) (wtN K (K 0 2).toNat) (by omega)) (cwS 2 hts gX6_share_X6_cut rfl rfl rfl (by decide +kernel) ⟨Nat.le_of_ble_eq_true rfl, Nat.le_of_ble_eq_true rfl⟩) hK (hP.sub (ws' := []) [] rfl) rfl hl.1 rfl (Nat.le_of_ble_eq_true rfl) dX6_share_31 ⟨Nat.zero_le _, Nat.zero_le _⟩ ?_
    refine z_top (show ((100 * wu K a) / wtN K (K 0 2).toNat) = rShare K a from ?_) ?_
    · unfold rShare; (repeat' split) <;> first | rfl | omega | (simp_all; done)
    exact W.iret (v := iZ (rShare K a)) hx hb hr (fun t9 ht9 _ => ⟨rfl, ht9⟩) (fun q h => absurd h List.not_mem_nil) dX6_share_34
  · skip
    have c_1 := of_decide_eq_false c_1
    refine z_iconst hx hb dX6_share_11 ?_
    refine z_top (show (-1) = rShare K a from ?_) ?_
    · unfold rShare; (repeat' split) <;> first | rfl | omega | (simp_all; done)
    exact W.iret (v := iZ (rShare K a)) hx hb hr (fun t9 ht9 _ => ⟨rfl, ht9⟩) (fun q h => absurd h List.not_mem_nil) dX6_share_12

set_option maxHeartbeats 4000000 in
set_option maxRecDepth 100000 in
theorem c_X6_dark (l : Launch) (G : va_G) (Y : Nat → ClassId) (hv h7 h hto h3 h4 h5 h6 im ik : Nat) (ad : Nat → Nat) (K : Kom) (hW : cWF K) (a : Int) (r : zR a) : Met l yX6_dark wsX6_dark ({ frames := 2, cells := 0, slots := 0, locals := 46 }) (rP G Y [.ref hv, .int (iZ a)] (svO Y hv h7 h hto h3 h4 h5 h6 im ik ++ (cmW Y h ad K))) (rQ (.int (iZ (rDark K a)))) 0 0 (fun _ => False) := by
  refine Met.ofW (cc := cX6_dark) (maxL := 2) (ret := (some .int)) (by decide) rfl ?_
  intro p e s m args below meth c s₁ B hml hv
  obtain ⟨rfl, hK, hP⟩ := hv
  have hx := B.exec
  have hb := B.bytes
  have hr := B.returns
  have hts := atoms_spec (ws := wsX6_dark) B.pre
  have hown : s.vm.findClass RX6 = some m.cls := findClass_of_methodNamed B.named
  have hlocks := B.notSynchronized
  have hFX6 : ∀ w ∈ wsX60, w ∈ wsX6_dark := by decide +kernel
  have kf19 := (hts (.fieldLink RX6 19 "ShadeVotes" "present" "LShadeVotes$Commune;") (by decide +kernel))
  have hl := lv_entry ([.ref hv, .int (iZ a)]) (n := 2) (Nat.le_of_ble_eq_true rfl)
  rw [lg_entry_eq]
  generalize (lg_sl ([.ref hv, .int (iZ a)]) ++ List.replicate (2 - (lg_sl ([.ref hv, .int (iZ a)])).length) Slot.unset).toArray = ls at hl ⊢
  replace hl : lv_has ls 2 [(0, .ref hv), (1, .int (iZ a))] := hl
  have h0 := hW.1
  have hnc := hW.nc
  refine lv_aload_n hx hb dX6_dark_0 rfl (lv_at hl 0 rfl) ?_
  refine va_get (D := G) (ci := 6) (v := .ref h) (C := RX6) (T := TX6) (N := 9) hx hb hts hFX6 hown hK.1 hP 0 rfl rfl 1 (by decide) kf19 (fun _ h9 => h9) rfl dX6_dark_1 ?_
  refine lv_iload_n hx hb dX6_dark_4 rfl (lv_at hl 1 rfl) ?_
  refine ro_V (As := [.int (iZ a)]) (rest := []) ⟨hx, hb, hml, hown, hts⟩ (c_X0_hasCell l G Y h ad K hW a (by omega)) (cwV 1 hts gX6_dark_X0_hasCell rfl rfl rfl (by decide +kernel) ⟨Nat.le_of_ble_eq_true rfl, Nat.le_of_ble_eq_true rfl⟩) hK (hP.sub (ws' := cmW Y h ad K) [1, 2, 3, 4, 5, 6, 7, 8] rfl) 0 rfl rfl rfl hl.1 rfl (Nat.le_of_ble_eq_true rfl) dX6_dark_5 ⟨Nat.zero_le _, Nat.zero_le _⟩ ?_
  refine z_ifb_eq (tgt := 22) hx hb dX6_dark_8 (by decide) (fun c_1 => ?_) (fun c_1 => ?_)
  · skip
    have c_1 := of_decide_eq_false c_1
    refine z_iconst hx hb dX6_dark_22 ?_
    refine z_top (show (-1) = rDark K a from ?_) ?_
    · unfold rDark; (repeat' split) <;> first | rfl | omega | (simp_all; done)
    exact W.iret (v := iZ (rDark K a)) hx hb hr (fun t9 ht9 _ => ⟨rfl, ht9⟩) (fun q h => absurd h List.not_mem_nil) dX6_dark_23
  · skip
    have c_1 := of_decide_eq_true c_1
    refine lv_aload_n hx hb dX6_dark_11 rfl (lv_at hl 0 rfl) ?_
    refine va_get (D := G) (ci := 6) (v := .ref h) (C := RX6) (T := TX6) (N := 9) hx hb hts hFX6 hown hK.1 hP 0 rfl rfl 1 (by decide) kf19 (fun _ h9 => h9) rfl dX6_dark_12 ?_
    refine lv_iload_n hx hb dX6_dark_15 rfl (lv_at hl 1 rfl) ?_
    refine ro_V (As := [.int (iZ a)]) (rest := []) ⟨hx, hb, hml, hown, hts⟩ (c_X0_shadesAt l G Y h ad K hW a (by omega)) (cwV 1 hts gX6_dark_X0_shadesAt rfl rfl rfl (by decide +kernel) ⟨Nat.le_of_ble_eq_true rfl, Nat.le_of_ble_eq_true rfl⟩) hK (hP.sub (ws' := cmW Y h ad K) [1, 2, 3, 4, 5, 6, 7, 8] rfl) 0 rfl rfl rfl hl.1 rfl (Nat.le_of_ble_eq_true rfl) dX6_dark_16 ⟨Nat.zero_le _, Nat.zero_le _⟩ ?_
    have hb_2 := sdN_in K a (K 0 2).toNat
    refine lv_goto (tgt := 23) hx hb dX6_dark_19 (by decide) ?_
    refine z_top (show sdN K a (K 0 2).toNat = rDark K a from ?_) ?_
    · unfold rDark; (repeat' split) <;> first | rfl | omega | (simp_all; done)
    exact W.iret (v := iZ (rDark K a)) hx hb hr (fun t9 ht9 _ => ⟨rfl, ht9⟩) (fun q h => absurd h List.not_mem_nil) dX6_dark_23

set_option maxHeartbeats 4000000 in
set_option maxRecDepth 100000 in
theorem c_X6_hedge (l : Launch) (G : va_G) (Y : Nat → ClassId) (hv h7 h hto h3 h4 h5 h6 im ik : Nat) (ht va vb : Nat) (ad : Nat → Nat) (K : Kom) (hW : cWF K) (a : Int) (r : zR a) : Met l yX6_hedge wsX6_hedge ({ frames := 6, cells := 0, slots := 0, locals := 140 }) (rP G Y [.ref hv, .int (iZ a)] (svO Y hv h7 h hto h3 h4 h5 h6 im ik ++ (qoW Y h4 ht va vb ++ cmW Y h ad K))) (rQ (.int (iZ (rHedge K a)))) 0 0 (fun _ => False) := by
  refine Met.ofW (cc := cX6_hedge) (maxL := 2) (ret := (some .int)) (by decide) rfl ?_
  intro p e s m args below meth c s₁ B hml hv
  obtain ⟨rfl, hK, hP⟩ := hv
  have hx := B.exec
  have hb := B.bytes
  have hr := B.returns
  have hts := atoms_spec (ws := wsX6_hedge) B.pre
  have hown : s.vm.findClass RX6 = some m.cls := findClass_of_methodNamed B.named
  have hlocks := B.notSynchronized
  have hFX6 : ∀ w ∈ wsX60, w ∈ wsX6_hedge := by decide +kernel
  have kf36 := (hts (.fieldLink RX6 36 "ShadeVotes" "question" "LShadeVotes$Question;") (by decide +kernel))
  have kf19 := (hts (.fieldLink RX6 19 "ShadeVotes" "present" "LShadeVotes$Commune;") (by decide +kernel))
  have hl := lv_entry ([.ref hv, .int (iZ a)]) (n := 2) (Nat.le_of_ble_eq_true rfl)
  rw [lg_entry_eq]
  generalize (lg_sl ([.ref hv, .int (iZ a)]) ++ List.replicate (2 - (lg_sl ([.ref hv, .int (iZ a)])).length) Slot.unset).toArray = ls at hl ⊢
  replace hl : lv_has ls 2 [(0, .ref hv), (1, .int (iZ a))] := hl
  have h0 := hW.1
  have hnc := hW.nc
  refine lv_iload_n hx hb dX6_hedge_0 rfl (lv_at hl 1 rfl) ?_
  refine ro_S (As := [.int (iZ a)]) (rest := []) ⟨hx, hb, hml, hown, hts⟩ (c_X6_isMotion l G Y a (by omega)) (cwS 1 hts gX6_hedge_X6_isMotion rfl rfl rfl (by decide +kernel) ⟨Nat.le_of_ble_eq_true rfl, Nat.le_of_ble_eq_true rfl⟩) hK (hP.sub (ws' := []) [] rfl) rfl hl.1 rfl (Nat.le_of_ble_eq_true rfl) dX6_hedge_1 ⟨Nat.zero_le _, Nat.zero_le _⟩ ?_
  refine z_ifb_eq (tgt := 22) hx hb dX6_hedge_4 (by decide) (fun c_1 => ?_) (fun c_1 => ?_)
  · skip
    have c_1 := of_decide_eq_false c_1
    refine z_iconst hx hb dX6_hedge_22 ?_
    refine z_top (show (-1) = rHedge K a from ?_) ?_
    · unfold rHedge; (repeat' split) <;> first | rfl | omega | (simp_all; done)
    exact W.iret (v := iZ (rHedge K a)) hx hb hr (fun t9 ht9 _ => ⟨rfl, ht9⟩) (fun q h => absurd h List.not_mem_nil) dX6_hedge_23
  · skip
    have c_1 := of_decide_eq_true c_1
    obtain ⟨mo, hmo⟩ : ∃ mo : Nat, a = ((mo : Nat) : Int) := ⟨a.toNat, by omega⟩
    have hmot : a.toNat = mo := by omega
    rw [hmo] at hl
    refine lv_aload_n hx hb dX6_hedge_7 rfl (lv_at hl 0 rfl) ?_
    refine va_get (D := G) (ci := 6) (v := .ref h4) (C := RX6) (T := TX6) (N := 9) hx hb hts hFX6 hown hK.1 hP 0 rfl rfl 4 (by decide) kf36 (fun _ h9 => h9) rfl dX6_hedge_8 ?_
    refine lv_aload_n hx hb dX6_hedge_11 rfl (lv_at hl 0 rfl) ?_
    refine va_get (D := G) (ci := 6) (v := .ref h) (C := RX6) (T := TX6) (N := 9) hx hb hts hFX6 hown hK.1 hP 0 rfl rfl 1 (by decide) kf19 (fun _ h9 => h9) rfl dX6_hedge_12 ?_
    refine lv_iload_n hx hb dX6_hedge_15 rfl (lv_at hl 1 rfl) ?_
    refine ro_V (As := [.ref h, .int (iZ ((mo : Nat) : Int))]) (rest := []) ⟨hx, hb, hml, hown, hts⟩ (c_X3_partingColumn l G Y h4 ht va vb h ad K hW mo (by omega)) (cwV 2 hts gX6_hedge_X3_partingColumn rfl rfl rfl (by decide +kernel) ⟨Nat.le_of_ble_eq_true rfl, Nat.le_of_ble_eq_true rfl⟩) hK (hP.sub (ws' := qoW Y h4 ht va vb ++ cmW Y h ad K) [1, 2, 3, 4, 5, 6, 7, 8, 9] rfl) 0 rfl rfl rfl hl.1 rfl (Nat.le_of_ble_eq_true rfl) dX6_hedge_16 ⟨Nat.zero_le _, Nat.zero_le _⟩ ?_
    refine lv_goto (tgt := 23) hx hb dX6_hedge_19 (by decide) ?_
    refine z_top (show hgC K mo = rHedge K a from ?_) ?_
    · unfold rHedge; rw [hmot]; (repeat' split) <;> first | rfl | omega | (simp_all; done)
    exact W.iret (v := iZ (rHedge K a)) hx hb hr (fun t9 ht9 _ => ⟨rfl, ht9⟩) (fun q h => absurd h List.not_mem_nil) dX6_hedge_23

set_option maxHeartbeats 4000000 in
set_option maxRecDepth 100000 in
theorem c_X6_sway (l : Launch) (G : va_G) (Y : Nat → ClassId) (hv h7 h hto h3 h4 h5 h6 im ik : Nat) (ht va vb : Nat) (ad : Nat → Nat) (K : Kom) (hW : cWF K) (a : Int) (r : zR a) : Met l yX6_sway wsX6_sway ({ frames := 5, cells := 0, slots := 0, locals := 120 }) (rP G Y [.ref hv, .int (iZ a)] (svO Y hv h7 h hto h3 h4 h5 h6 im ik ++ (qoW Y h4 ht va vb ++ cmW Y h ad K))) (rQ (.int (iZ (rSway K a)))) 0 0 (fun _ => False) := by
  refine Met.ofW (cc := cX6_sway) (maxL := 2) (ret := (some .int)) (by decide) rfl ?_
  intro p e s m args below meth c s₁ B hml hv
  obtain ⟨rfl, hK, hP⟩ := hv
  have hx := B.exec
  have hb := B.bytes
  have hr := B.returns
  have hts := atoms_spec (ws := wsX6_sway) B.pre
  have hown : s.vm.findClass RX6 = some m.cls := findClass_of_methodNamed B.named
  have hlocks := B.notSynchronized
  have hFX6 : ∀ w ∈ wsX60, w ∈ wsX6_sway := by decide +kernel
  have kf36 := (hts (.fieldLink RX6 36 "ShadeVotes" "question" "LShadeVotes$Question;") (by decide +kernel))
  have kf19 := (hts (.fieldLink RX6 19 "ShadeVotes" "present" "LShadeVotes$Commune;") (by decide +kernel))
  have hl := lv_entry ([.ref hv, .int (iZ a)]) (n := 2) (Nat.le_of_ble_eq_true rfl)
  rw [lg_entry_eq]
  generalize (lg_sl ([.ref hv, .int (iZ a)]) ++ List.replicate (2 - (lg_sl ([.ref hv, .int (iZ a)])).length) Slot.unset).toArray = ls at hl ⊢
  replace hl : lv_has ls 2 [(0, .ref hv), (1, .int (iZ a))] := hl
  have h0 := hW.1
  have hnc := hW.nc
  refine lv_iload_n hx hb dX6_sway_0 rfl (lv_at hl 1 rfl) ?_
  refine ro_S (As := [.int (iZ a)]) (rest := []) ⟨hx, hb, hml, hown, hts⟩ (c_X6_isMotion l G Y a (by omega)) (cwS 1 hts gX6_sway_X6_isMotion rfl rfl rfl (by decide +kernel) ⟨Nat.le_of_ble_eq_true rfl, Nat.le_of_ble_eq_true rfl⟩) hK (hP.sub (ws' := []) [] rfl) rfl hl.1 rfl (Nat.le_of_ble_eq_true rfl) dX6_sway_1 ⟨Nat.zero_le _, Nat.zero_le _⟩ ?_
  refine z_ifb_eq (tgt := 22) hx hb dX6_sway_4 (by decide) (fun c_1 => ?_) (fun c_1 => ?_)
  · skip
    have c_1 := of_decide_eq_false c_1
    refine z_iconst hx hb dX6_sway_22 ?_
    refine z_top (show (-1) = rSway K a from ?_) ?_
    · unfold rSway; (repeat' split) <;> first | rfl | omega | (simp_all; done)
    exact W.iret (v := iZ (rSway K a)) hx hb hr (fun t9 ht9 _ => ⟨rfl, ht9⟩) (fun q h => absurd h List.not_mem_nil) dX6_sway_23
  · skip
    have c_1 := of_decide_eq_true c_1
    obtain ⟨mo, hmo⟩ : ∃ mo : Nat, a = ((mo : Nat) : Int) := ⟨a.toNat, by omega⟩
    have hmot : a.toNat = mo := by omega
    rw [hmo] at hl
    refine lv_aload_n hx hb dX6_sway_7 rfl (lv_at hl 0 rfl) ?_
    refine va_get (D := G) (ci := 6) (v := .ref h4) (C := RX6) (T := TX6) (N := 9) hx hb hts hFX6 hown hK.1 hP 0 rfl rfl 4 (by decide) kf36 (fun _ h9 => h9) rfl dX6_sway_8 ?_
    refine lv_aload_n hx hb dX6_sway_11 rfl (lv_at hl 0 rfl) ?_
    refine va_get (D := G) (ci := 6) (v := .ref h) (C := RX6) (T := TX6) (N := 9) hx hb hts hFX6 hown hK.1 hP 0 rfl rfl 1 (by decide) kf19 (fun _ h9 => h9) rfl dX6_sway_12 ?_
    refine lv_iload_n hx hb dX6_sway_15 rfl (lv_at hl 1 rfl) ?_
    refine ro_V (As := [.ref h, .int (iZ ((mo : Nat) : Int))]) (rest := []) ⟨hx, hb, hml, hown, hts⟩ (c_X3_whoSways l G Y h4 ht va vb h ad K hW mo (by omega)) (cwV 2 hts gX6_sway_X3_whoSways rfl rfl rfl (by decide +kernel) ⟨Nat.le_of_ble_eq_true rfl, Nat.le_of_ble_eq_true rfl⟩) hK (hP.sub (ws' := qoW Y h4 ht va vb ++ cmW Y h ad K) [1, 2, 3, 4, 5, 6, 7, 8, 9] rfl) 0 rfl rfl rfl hl.1 rfl (Nat.le_of_ble_eq_true rfl) dX6_sway_16 ⟨Nat.zero_le _, Nat.zero_le _⟩ ?_
    refine lv_goto (tgt := 23) hx hb dX6_sway_19 (by decide) ?_
    refine z_top (show ((swN K mo (K 0 3).toNat : Nat) : Int) = rSway K a from ?_) ?_
    · unfold rSway; rw [hmot]; (repeat' split) <;> first | rfl | omega | (simp_all; done)
    exact W.iret (v := iZ (rSway K a)) hx hb hr (fun t9 ht9 _ => ⟨rfl, ht9⟩) (fun q h => absurd h List.not_mem_nil) dX6_sway_23

set_option maxHeartbeats 4000000 in
set_option maxRecDepth 100000 in
theorem c_X6_cool (l : Launch) (G : va_G) (Y : Nat → ClassId) (hv h7 h hto h3 h4 h5 h6 im ik : Nat) (ht va vb : Nat) (ad : Nat → Nat) (K : Kom) (hW : cWF K) (a : Int) (r : zR a) : Met l yX6_cool wsX6_cool ({ frames := 3, cells := 0, slots := 0, locals := 72 }) (rP G Y [.ref hv, .int (iZ a)] (svO Y hv h7 h hto h3 h4 h5 h6 im ik ++ (qoW Y h4 ht va vb ++ cmW Y h ad K))) (rQ (.int (iZ (rCool K a)))) 0 0 (fun _ => False) := by
  refine Met.ofW (cc := cX6_cool) (maxL := 2) (ret := (some .int)) (by decide) rfl ?_
  intro p e s m args below meth c s₁ B hml hv
  obtain ⟨rfl, hK, hP⟩ := hv
  have hx := B.exec
  have hb := B.bytes
  have hr := B.returns
  have hts := atoms_spec (ws := wsX6_cool) B.pre
  have hown : s.vm.findClass RX6 = some m.cls := findClass_of_methodNamed B.named
  have hlocks := B.notSynchronized
  have hFX0 : ∀ w ∈ wsX00, w ∈ wsX6_cool := by decide +kernel
  have hFX6 : ∀ w ∈ wsX60, w ∈ wsX6_cool := by decide +kernel
  have kf19 := (hts (.fieldLink RX6 19 "ShadeVotes" "present" "LShadeVotes$Commune;") (by decide +kernel))
  have kf36 := (hts (.fieldLink RX6 36 "ShadeVotes" "question" "LShadeVotes$Question;") (by decide +kernel))
  have kf120 := (hts (.fieldLink RX6 120 "ShadeVotes$Commune" "personCell" "[I") (by decide +kernel))
  have hl := lv_entry ([.ref hv, .int (iZ a)]) (n := 2) (Nat.le_of_ble_eq_true rfl)
  rw [lg_entry_eq]
  generalize (lg_sl ([.ref hv, .int (iZ a)]) ++ List.replicate (2 - (lg_sl ([.ref hv, .int (iZ a)])).length) Slot.unset).toArray = ls at hl ⊢
  replace hl : lv_has ls 2 [(0, .ref hv), (1, .int (iZ a))] := hl
  have h0 := hW.1
  have hnc := hW.nc
  refine lv_aload_n hx hb dX6_cool_0 rfl (lv_at hl 0 rfl) ?_
  refine va_get (D := G) (ci := 6) (v := .ref h) (C := RX6) (T := TX6) (N := 9) hx hb hts hFX6 hown hK.1 hP 0 rfl rfl 1 (by decide) kf19 (fun _ h9 => h9) rfl dX6_cool_1 ?_
  refine lv_iload_n hx hb dX6_cool_4 rfl (lv_at hl 1 rfl) ?_
  refine ro_V (As := [.int (iZ a)]) (rest := []) ⟨hx, hb, hml, hown, hts⟩ (c_X0_hasPerson l G Y h ad K hW a (by omega)) (cwV 1 hts gX6_cool_X0_hasPerson rfl rfl rfl (by decide +kernel) ⟨Nat.le_of_ble_eq_true rfl, Nat.le_of_ble_eq_true rfl⟩) hK (hP.sub (ws' := cmW Y h ad K) [2, 3, 4, 5, 6, 7, 8, 9] rfl) 0 rfl rfl rfl hl.1 rfl (Nat.le_of_ble_eq_true rfl) dX6_cool_5 ⟨Nat.zero_le _, Nat.zero_le _⟩ ?_
  refine z_ifb_ne (tgt := 13) hx hb dX6_cool_8 (by decide) (fun c_1 => ?_) (fun c_1 => ?_)
  · skip
    have c_1 := of_decide_eq_true c_1
    refine lv_aload_n hx hb dX6_cool_13 rfl (lv_at hl 0 rfl) ?_
    refine va_get (D := G) (ci := 6) (v := .ref h4) (C := RX6) (T := TX6) (N := 9) hx hb hts hFX6 hown hK.1 hP 0 rfl rfl 4 (by decide) kf36 (fun _ h9 => h9) rfl dX6_cool_14 ?_
    refine lv_aload_n hx hb dX6_cool_17 rfl (lv_at hl 0 rfl) ?_
    refine va_get (D := G) (ci := 6) (v := .ref h) (C := RX6) (T := TX6) (N := 9) hx hb hts hFX6 hown hK.1 hP 0 rfl rfl 1 (by decide) kf19 (fun _ h9 => h9) rfl dX6_cool_18 ?_
    refine lv_aload_n hx hb dX6_cool_21 rfl (lv_at hl 0 rfl) ?_
    refine va_get (D := G) (ci := 6) (v := .ref h) (C := RX6) (T := TX6) (N := 9) hx hb hts hFX6 hown hK.1 hP 0 rfl rfl 1 (by decide) kf19 (fun _ h9 => h9) rfl dX6_cool_22 ?_
    refine va_get (D := G) (ci := 0) (v := .ref (ad 6)) (C := RX0) (T := TX0) (N := 14) hx hb hts hFX0 hown hK.1 hP 2 rfl rfl 12 (by decide) kf120 (fun _ h9 => h9) rfl dX6_cool_25 ?_
    refine lv_iload_n hx hb dX6_cool_28 rfl (lv_at hl 1 rfl) ?_
    refine z_iald hx hb hK.1 hP 8 0 rfl rfl ((a).toNat) (by omega) (by decide) dX6_cool_29 ?_
    have hb_2 := hW.2.2.1 ((a).toNat) (by omega)
    refine ro_V (As := [.ref h, .int (iZ ((K 6) ((a).toNat)))]) (rest := []) ⟨hx, hb, hml, hown, hts⟩ (c_X3_nearestShade l G Y h4 ht va vb h ad K hW ((K 6) ((a).toNat)) (by omega)) (cwV 2 hts gX6_cool_X3_nearestShade rfl rfl rfl (by decide +kernel) ⟨Nat.le_of_ble_eq_true rfl, Nat.le_of_ble_eq_true rfl⟩) hK (hP.sub (ws' := qoW Y h4 ht va vb ++ cmW Y h ad K) [1, 2, 3, 4, 5, 6, 7, 8, 9] rfl) 0 rfl rfl rfl hl.1 rfl (Nat.le_of_ble_eq_true rfl) dX6_cool_30 ⟨Nat.zero_le _, Nat.zero_le _⟩ ?_
    refine z_top (show (nsS K ((K 6) ((a).toNat)) (K 0 0 * K 0 1).toNat).1 = rCool K a from ?_) ?_
    · unfold rCool; (repeat' split) <;> first | rfl | omega | (simp_all; done)
    exact W.iret (v := iZ (rCool K a)) hx hb hr (fun t9 ht9 _ => ⟨rfl, ht9⟩) (fun q h => absurd h List.not_mem_nil) dX6_cool_33
  · skip
    have c_1 := of_decide_eq_false c_1
    refine z_iconst hx hb dX6_cool_11 ?_
    refine z_top (show (-1) = rCool K a from ?_) ?_
    · unfold rCool; (repeat' split) <;> first | rfl | omega | (simp_all; done)
    exact W.iret (v := iZ (rCool K a)) hx hb hr (fun t9 ht9 _ => ⟨rfl, ht9⟩) (fun q h => absurd h List.not_mem_nil) dX6_cool_12

set_option maxHeartbeats 4000000 in
set_option maxRecDepth 100000 in
theorem c_X6_count (l : Launch) (G : va_G) (Y : Nat → ClassId) (hv h7 h hto h3 h4 h5 h6 im ik : Nat) (ad : Nat → Nat) (K : Kom) (hW : cWF K) (ta tb : Nat) (M T : Nat → Int) (n9 : Int) (xa : Nat) (tx : Nat → Int) (hX : tX tx) (ln pl : Nat) (su : Bool) (tk : Nat) (nu : Int) (a : Int) (r : (zR a ∧ zR n9) ∧ ln ≤ 200) : Met l yX6_count wsX6_count ({ frames := 0, cells := 0, slots := 0, locals := 0 }) (rP G Y [.ref hv, .int (iZ a)] (svO Y hv h7 h hto h3 h4 h5 h6 im ik ++ (cmW Y h ad K ++ (tlW Y h5 ta tb M T n9 ++ txW Y h7 xa tx ln pl su tk nu)))) (rQ (.int (iZ (rCount K n9 ln a)))) 0 0 (fun _ => False) := by
  refine Met.ofW (cc := cX6_count) (maxL := 2) (ret := (some .int)) (by decide) rfl ?_
  intro p e s m args below meth c s₁ B hml hv
  obtain ⟨rfl, hK, hP⟩ := hv
  have hx := B.exec
  have hb := B.bytes
  have hr := B.returns
  have hts := atoms_spec (ws := wsX6_count) B.pre
  have hown : s.vm.findClass RX6 = some m.cls := findClass_of_methodNamed B.named
  have hlocks := B.notSynchronized
  have hFX0 : ∀ w ∈ wsX00, w ∈ wsX6_count := by decide +kernel
  have hFX4 : ∀ w ∈ wsX40, w ∈ wsX6_count := by decide +kernel
  have hFX5 : ∀ w ∈ wsX50, w ∈ wsX6_count := by decide +kernel
  have hFX6 : ∀ w ∈ wsX60, w ∈ wsX6_count := by decide +kernel
  have kf19 := (hts (.fieldLink RX6 19 "ShadeVotes" "present" "LShadeVotes$Commune;") (by decide +kernel))
  have kf241 := (hts (.fieldLink RX6 241 "ShadeVotes$Commune" "wide" "I") (by decide +kernel))
  have kf244 := (hts (.fieldLink RX6 244 "ShadeVotes$Commune" "high" "I") (by decide +kernel))
  have kf215 := (hts (.fieldLink RX6 215 "ShadeVotes$Commune" "people" "I") (by decide +kernel))
  have kf43 := (hts (.fieldLink RX6 43 "ShadeVotes" "tally" "LShadeVotes$Tally;") (by decide +kernel))
  have kf210 := (hts (.fieldLink RX6 210 "ShadeVotes$Tally" "size" "I") (by decide +kernel))
  have kf10 := (hts (.fieldLink RX6 10 "ShadeVotes" "text" "LShadeVotes$Text;") (by decide +kernel))
  have kf70 := (hts (.fieldLink RX6 70 "ShadeVotes$Text" "length" "I") (by decide +kernel))
  have hl := lv_entry ([.ref hv, .int (iZ a)]) (n := 2) (Nat.le_of_ble_eq_true rfl)
  rw [lg_entry_eq]
  generalize (lg_sl ([.ref hv, .int (iZ a)]) ++ List.replicate (2 - (lg_sl ([.ref hv, .int (iZ a)])).length) Slot.unset).toArray = ls at hl ⊢
  replace hl : lv_has ls 2 [(0, .ref hv), (1, .int (iZ a))] := hl
  have h0 := hW.1
  have hnc := hW.nc
  refine lv_iload_n hx hb dX6_count_0 rfl (lv_at hl 1 rfl) ?_
  have c_1_r : (iZ a).toInt = a := iZ_toInt (by omega)
  rcases (show (a < 0 ∨ 4 < a) ∨ a = 0 ∨ a = 1 ∨ a = 2 ∨ a = 3 ∨ a = 4 by omega) with c_1 | c_1 | c_1 | c_1 | c_1 | c_1
  · skip
    refine lv_tableOut (tgt := 76) hx hb dX6_count_1 (by rw [c_1_r]; exact c_1) (by decide) ?_
    refine z_iconst hx hb dX6_count_76 ?_
    refine z_top (show (-1) = rCount K n9 ln a from ?_) ?_
    · unfold rCount; (repeat' split) <;> first | rfl | omega | (simp_all; done)
    exact W.iret (v := iZ (rCount K n9 ln a)) hx hb hr (fun t9 ht9 _ => ⟨rfl, ht9⟩) (fun q h => absurd h List.not_mem_nil) dX6_count_77
  · skip
    replace c_1_r := c_1_r.trans c_1
    refine lv_tableIn (tgt := 36) (off := 35) hx hb dX6_count_1 (by rw [c_1_r]; decide) (by rw [c_1_r]; decide) (by rw [c_1_r]; rfl) (by decide) ?_
    refine lv_aload_n hx hb dX6_count_36 rfl (lv_at hl 0 rfl) ?_
    refine va_get (D := G) (ci := 6) (v := .ref h) (C := RX6) (T := TX6) (N := 9) hx hb hts hFX6 hown hK.1 hP 0 rfl rfl 1 (by decide) kf19 (fun _ h9 => h9) rfl dX6_count_37 ?_
    refine va_get (D := G) (ci := 0) (v := .int (iZ (K 0 0))) (C := RX0) (T := TX0) (N := 14) hx hb hts hFX0 hown hK.1 hP 1 rfl rfl 0 (by decide) kf241 (fun _ h9 => h9) rfl dX6_count_40 ?_
    refine z_top (show K 0 0 = rCount K n9 ln a from ?_) ?_
    · unfold rCount; (repeat' split) <;> first | rfl | omega | (simp_all; done)
    exact W.iret (v := iZ (rCount K n9 ln a)) hx hb hr (fun t9 ht9 _ => ⟨rfl, ht9⟩) (fun q h => absurd h List.not_mem_nil) dX6_count_43
  · skip
    replace c_1_r := c_1_r.trans c_1
    refine lv_tableIn (tgt := 44) (off := 43) hx hb dX6_count_1 (by rw [c_1_r]; decide) (by rw [c_1_r]; decide) (by rw [c_1_r]; rfl) (by decide) ?_
    refine lv_aload_n hx hb dX6_count_44 rfl (lv_at hl 0 rfl) ?_
    refine va_get (D := G) (ci := 6) (v := .ref h) (C := RX6) (T := TX6) (N := 9) hx hb hts hFX6 hown hK.1 hP 0 rfl rfl 1 (by decide) kf19 (fun _ h9 => h9) rfl dX6_count_45 ?_
    refine va_get (D := G) (ci := 0) (v := .int (iZ (K 0 1))) (C := RX0) (T := TX0) (N := 14) hx hb hts hFX0 hown hK.1 hP 1 rfl rfl 1 (by decide) kf244 (fun _ h9 => h9) rfl dX6_count_48 ?_
    refine z_top (show K 0 1 = rCount K n9 ln a from ?_) ?_
    · unfold rCount; (repeat' split) <;> first | rfl | omega | (simp_all; done)
    exact W.iret (v := iZ (rCount K n9 ln a)) hx hb hr (fun t9 ht9 _ => ⟨rfl, ht9⟩) (fun q h => absurd h List.not_mem_nil) dX6_count_51
  · skip
    replace c_1_r := c_1_r.trans c_1
    refine lv_tableIn (tgt := 52) (off := 51) hx hb dX6_count_1 (by rw [c_1_r]; decide) (by rw [c_1_r]; decide) (by rw [c_1_r]; rfl) (by decide) ?_
    refine lv_aload_n hx hb dX6_count_52 rfl (lv_at hl 0 rfl) ?_
    refine va_get (D := G) (ci := 6) (v := .ref h) (C := RX6) (T := TX6) (N := 9) hx hb hts hFX6 hown hK.1 hP 0 rfl rfl 1 (by decide) kf19 (fun _ h9 => h9) rfl dX6_count_53 ?_
    refine va_get (D := G) (ci := 0) (v := .int (iZ (K 0 3))) (C := RX0) (T := TX0) (N := 14) hx hb hts hFX0 hown hK.1 hP 1 rfl rfl 3 (by decide) kf215 (fun _ h9 => h9) rfl dX6_count_56 ?_
    refine z_top (show K 0 3 = rCount K n9 ln a from ?_) ?_
    · unfold rCount; (repeat' split) <;> first | rfl | omega | (simp_all; done)
    exact W.iret (v := iZ (rCount K n9 ln a)) hx hb hr (fun t9 ht9 _ => ⟨rfl, ht9⟩) (fun q h => absurd h List.not_mem_nil) dX6_count_59
  · skip
    replace c_1_r := c_1_r.trans c_1
    refine lv_tableIn (tgt := 60) (off := 59) hx hb dX6_count_1 (by rw [c_1_r]; decide) (by rw [c_1_r]; decide) (by rw [c_1_r]; rfl) (by decide) ?_
    refine lv_aload_n hx hb dX6_count_60 rfl (lv_at hl 0 rfl) ?_
    refine va_get (D := G) (ci := 6) (v := .ref h5) (C := RX6) (T := TX6) (N := 9) hx hb hts hFX6 hown hK.1 hP 0 rfl rfl 5 (by decide) kf43 (fun _ h9 => h9) rfl dX6_count_61 ?_
    refine va_get (D := G) (ci := 4) (v := .int (iZ n9)) (C := RX4) (T := TX4) (N := 3) hx hb hts hFX4 hown hK.1 hP 9 rfl rfl 2 (by decide) kf210 (fun _ h9 => h9) rfl dX6_count_64 ?_
    refine z_top (show n9 = rCount K n9 ln a from ?_) ?_
    · unfold rCount; (repeat' split) <;> first | rfl | omega | (simp_all; done)
    exact W.iret (v := iZ (rCount K n9 ln a)) hx hb hr (fun t9 ht9 _ => ⟨rfl, ht9⟩) (fun q h => absurd h List.not_mem_nil) dX6_count_67
  · skip
    replace c_1_r := c_1_r.trans c_1
    refine lv_tableIn (tgt := 68) (off := 67) hx hb dX6_count_1 (by rw [c_1_r]; decide) (by rw [c_1_r]; decide) (by rw [c_1_r]; rfl) (by decide) ?_
    refine lv_aload_n hx hb dX6_count_68 rfl (lv_at hl 0 rfl) ?_
    refine va_get (D := G) (ci := 6) (v := .ref h7) (C := RX6) (T := TX6) (N := 9) hx hb hts hFX6 hown hK.1 hP 0 rfl rfl 0 (by decide) kf10 (fun _ h9 => h9) rfl dX6_count_69 ?_
    refine va_get (D := G) (ci := 5) (v := .int (iZ ((ln : Nat) : Int))) (C := RX5) (T := TX5) (N := 6) hx hb hts hFX5 hown hK.1 hP 12 rfl rfl 1 (by decide) kf70 (fun _ h9 => h9) rfl dX6_count_72 ?_
    refine z_top (show ((ln : Nat) : Int) = rCount K n9 ln a from ?_) ?_
    · unfold rCount; (repeat' split) <;> first | rfl | omega | (simp_all; done)
    exact W.iret (v := iZ (rCount K n9 ln a)) hx hb hr (fun t9 ht9 _ => ⟨rfl, ht9⟩) (fun q h => absurd h List.not_mem_nil) dX6_count_75

set_option maxHeartbeats 4000000 in
set_option maxRecDepth 100000 in
theorem c_X6_trace (l : Launch) (G : va_G) (Y : Nat → ClassId) (hv h7 h hto h3 h4 h5 h6 im ik : Nat) (tr : Int64) : Met l yX6_trace wsX6_trace ({ frames := 0, cells := 0, slots := 0, locals := 0 }) (rP G Y [.ref hv] (svO Y hv h7 h hto h3 h4 h5 h6 im ik ++ kiW Y h6 tr)) (rQ (.long tr)) 0 0 (fun _ => False) := by
  refine Met.ofW (cc := cX6_trace) (maxL := 1) (ret := (some .long)) (by decide) rfl ?_
  intro p e s m args below meth c s₁ B hml hv
  obtain ⟨rfl, hK, hP⟩ := hv
  have hx := B.exec
  have hb := B.bytes
  have hr := B.returns
  have hts := atoms_spec (ws := wsX6_trace) B.pre
  have hown : s.vm.findClass RX6 = some m.cls := findClass_of_methodNamed B.named
  have hlocks := B.notSynchronized
  have hFX1 : ∀ w ∈ wsX10, w ∈ wsX6_trace := by decide +kernel
  have hFX6 : ∀ w ∈ wsX60, w ∈ wsX6_trace := by decide +kernel
  have kf50 := (hts (.fieldLink RX6 50 "ShadeVotes" "kinds" "LShadeVotes$Kinds;") (by decide +kernel))
  have kf247 := (hts (.fieldLink RX6 247 "ShadeVotes$Kinds" "traced" "J") (by decide +kernel))
  have hl := lv_entry ([.ref hv]) (n := 1) (Nat.le_of_ble_eq_true rfl)
  rw [lg_entry_eq]
  generalize (lg_sl ([.ref hv]) ++ List.replicate (1 - (lg_sl ([.ref hv])).length) Slot.unset).toArray = ls at hl ⊢
  replace hl : lv_has ls 1 [(0, .ref hv)] := hl
  refine lv_aload_n hx hb dX6_trace_0 rfl (lv_at hl 0 rfl) ?_
  refine va_get (D := G) (ci := 6) (v := .ref h6) (C := RX6) (T := TX6) (N := 9) hx hb hts hFX6 hown hK.1 hP 0 rfl rfl 6 (by decide) kf50 (fun _ h9 => h9) rfl dX6_trace_1 ?_
  refine va_get (D := G) (ci := 1) (v := .long tr) (C := RX1) (T := TX1) (N := 1) hx hb hts hFX1 hown hK.1 hP 1 rfl rfl 0 (by decide) kf247 (fun _ h9 => h9) rfl dX6_trace_4 ?_
  exact W.lret (v := tr) hx hb hr (fun t9 ht9 _ => ⟨rfl, ht9⟩) (fun q h => absurd h List.not_mem_nil) dX6_trace_7

set_option maxHeartbeats 4000000 in
set_option maxRecDepth 100000 in
theorem c_X6_type (l : Launch) (G : va_G) (Y : Nat → ClassId) (hv h7 h hto h3 h4 h5 h6 im ik : Nat) (xa : Nat) (tx : Nat → Int) (hX : tX tx) (ln pl : Nat) (su : Bool) (tk : Nat) (nu : Int) (a : Int) (r : zR a ∧ ln ≤ 200) : Met l yX6_type wsX6_type ({ frames := 1, cells := 0, slots := 0, locals := 22 }) (mP G Y [.ref hv, .int (iZ a)] (svO Y hv h7 h hto h3 h4 h5 h6 im ik ++ (txW Y h7 xa tx ln pl su tk nu))) (mQ G (svO Y hv h7 h hto h3 h4 h5 h6 im ik ++ (txW Y h7 xa tx ln pl su tk nu)) (some (.int (iZ (rType ln a)))) (svO Y hv h7 h hto h3 h4 h5 h6 im ik ++ txW Y h7 xa (bif decide (0 ≤ a ∧ a ≤ 255) then txP tx ln a else tx) (bif decide (0 ≤ a ∧ a ≤ 255) then lnP ln else ln) pl su tk nu)) 0 0 (fun q => q ∈ List.map Prod.fst (svO Y hv h7 h hto h3 h4 h5 h6 im ik ++ (txW Y h7 xa tx ln pl su tk nu))) := by
  refine Met.ofW (cc := cX6_type) (maxL := 2) (ret := (some .int)) (by decide) rfl ?_
  intro p e s m args below meth c s₁ B hml hv
  obtain ⟨rfl, hK, hP, hD0⟩ := hv
  have hx := B.exec
  have hb := B.bytes
  have hr := B.returns
  have hts := atoms_spec (ws := wsX6_type) B.pre
  have hown : s.vm.findClass RX6 = some m.cls := findClass_of_methodNamed B.named
  have hlocks := B.notSynchronized
  have hFX5 : ∀ w ∈ wsX50, w ∈ wsX6_type := by decide +kernel
  have hFX6 : ∀ w ∈ wsX60, w ∈ wsX6_type := by decide +kernel
  have kf10 := (hts (.fieldLink RX6 10 "ShadeVotes" "text" "LShadeVotes$Text;") (by decide +kernel))
  have kf70 := (hts (.fieldLink RX6 70 "ShadeVotes$Text" "length" "I") (by decide +kernel))
  have hD := va_D_self hD0
  have hS : va_S (fun q => q ∈ List.map Prod.fst (svO Y hv h7 h hto h3 h4 h5 h6 im ik ++ (txW Y h7 xa tx ln pl su tk nu))) s.heap s.heap [] := va_S.rf
  obtain ⟨H, hHe⟩ : ∃ H, H = s.heap := ⟨_, rfl⟩
  rw [← hHe] at hP
  replace hS : va_S (fun q => q ∈ List.map Prod.fst (svO Y hv h7 h hto h3 h4 h5 h6 im ik ++ (txW Y h7 xa tx ln pl su tk nu))) s.heap H [] := by rw [hHe]; exact hS
  have hl := lv_entry ([.ref hv, .int (iZ a)]) (n := 2) (Nat.le_of_ble_eq_true rfl)
  rw [lg_entry_eq]
  generalize (lg_sl ([.ref hv, .int (iZ a)]) ++ List.replicate (2 - (lg_sl ([.ref hv, .int (iZ a)])).length) Slot.unset).toArray = ls at hl ⊢
  replace hl : lv_has ls 2 [(0, .ref hv), (1, .int (iZ a))] := hl
  obtain ⟨locs, hLe⟩ : ∃ locs : List Loc, locs = [] := ⟨_, rfl⟩
  rw [← hLe] at hS ⊢
  have hW0 : ∀ {Q : State → Prop} {g : JFrame}, W p l e ({ frames := 1, cells := 0, slots := 0, locals := 22 }) s m [.ref hv, .int (iZ a)].toArray below meth c H locs 0 0 Q g → W p l e ({ frames := 1, cells := 0, slots := 0, locals := 22 }) s m [.ref hv, .int (iZ a)].toArray below meth c s.heap locs 0 0 Q g := fun h => by rw [← hHe]; exact h
  refine hW0 ?_
  clear hW0 hHe hLe
  refine lv_iload_n hx hb dX6_type_0 rfl (lv_at hl 1 rfl) ?_
  refine z_iconst hx hb dX6_type_1 ?_
  refine z_sipush hx hb dX6_type_2 (by decide) ?_
  refine ro_S (As := [.int (iZ a), .int (iZ 0), .int (iZ 255)]) (rest := []) ⟨hx, hb, hml, hown, hts⟩ (c_X6_isWithin l G Y a 0 255 (by omega)) (cwS 3 hts gX6_type_X6_isWithin rfl rfl rfl (by decide +kernel) ⟨Nat.le_of_ble_eq_true rfl, Nat.le_of_ble_eq_true rfl⟩) hK (hP.sub (ws' := []) [] rfl) rfl hl.1 rfl (Nat.le_of_ble_eq_true rfl) dX6_type_5 ⟨Nat.zero_le _, Nat.zero_le _⟩ ?_
  refine z_ifb_ne (tgt := 13) hx hb dX6_type_8 (by decide) (fun c_1 => ?_) (fun c_1 => ?_)
  · skip
    have c_1 := of_decide_eq_true c_1
    refine lv_aload_n hx hb dX6_type_13 rfl (lv_at hl 0 rfl) ?_
    refine va_get (D := G) (ci := 6) (v := .ref h7) (C := RX6) (T := TX6) (N := 9) hx hb hts hFX6 hown hK.1 hP 0 rfl rfl 0 (by decide) kf10 (fun _ h9 => h9) rfl dX6_type_14 ?_
    refine lv_iload_n hx hb dX6_type_17 rfl (lv_at hl 1 rfl) ?_
    have hP := hP.sub (ws' := [(h7, .inr (5, [.ref xa, .int (iZ ((ln : Nat) : Int)), .int (iZ ((pl : Nat) : Int)), .int (iZ (bZ su)), .int (iZ ((tk : Nat) : Int)), .int (iZ nu)])), (xa, .inl (Y 2, 200, .inl (aI tx)))] ++ [(hv, .inr (6, [.ref h7, .ref h, .ref hto, .ref h3, .ref h4, .ref h5, .ref h6, .ref im, .ref ik]))]) [1, 2, 0] rfl
    have hD := hD.sub (ws' := [(h7, .inr (5, [.ref xa, .int (iZ ((ln : Nat) : Int)), .int (iZ ((pl : Nat) : Int)), .int (iZ (bZ su)), .int (iZ ((tk : Nat) : Int)), .int (iZ nu)])), (xa, .inl (Y 2, 200, .inl (aI tx)))] ++ [(hv, .inr (6, [.ref h7, .ref h, .ref hto, .ref h3, .ref h4, .ref h5, .ref h6, .ref im, .ref ik]))]) [1, 2, 0] (by decide) rfl
    refine mu_V (As := [.int (iZ a)]) (rest := []) (wc := [(h7, .inr (5, [.ref xa, .int (iZ ((ln : Nat) : Int)), .int (iZ ((pl : Nat) : Int)), .int (iZ (bZ su)), .int (iZ ((tk : Nat) : Int)), .int (iZ nu)])), (xa, .inl (Y 2, 200, .inl (aI tx)))]) (wc' := txW Y h7 xa (txP tx ln a) (lnP ln) pl su tk nu) (F := [(hv, .inr (6, [.ref h7, .ref h, .ref hto, .ref h3, .ref h4, .ref h5, .ref h6, .ref im, .ref ik]))]) ⟨hx, hb, hml, hown, hts⟩ (c_X5_add l G Y h7 xa tx hX ln pl su tk nu a (by omega)) (cwV 1 hts gX6_type_X5_add rfl rfl rfl (by decide +kernel) ⟨Nat.le_of_ble_eq_true rfl, Nat.le_of_ble_eq_true rfl⟩) hK hP hD hS 0 rfl rfl (Eq.refl [h7, xa]) rfl hl.1 rfl (Nat.le_of_ble_eq_true rfl) dX6_type_18 ⟨Nat.zero_le _, Nat.zero_le _⟩ (fun H locs hP hD hS => ?_)
    show W _ _ _ _ _ _ _ _ _ _ _ _ _ _ _ (F0 _ _ _ [.int (iZ (bZ (decide (ln < 200))))])
    replace hP : va_P G vwCl [(h7, .inr (5, [.ref xa, .int (iZ ((lnP ln : Nat) : Int)), .int (iZ ((pl : Nat) : Int)), .int (iZ (bZ su)), .int (iZ ((tk : Nat) : Int)), .int (iZ nu)])), (xa, .inl (Y 2, 200, .inl (aI (txP tx ln a)))), (hv, .inr (6, [.ref h7, .ref h, .ref hto, .ref h3, .ref h4, .ref h5, .ref h6, .ref im, .ref ik]))] H := hP
    replace hD : va_D _ [(h7, .inr (5, [.ref xa, .int (iZ ((lnP ln : Nat) : Int)), .int (iZ ((pl : Nat) : Int)), .int (iZ (bZ su)), .int (iZ ((tk : Nat) : Int)), .int (iZ nu)])), (xa, .inl (Y 2, 200, .inl (aI (txP tx ln a)))), (hv, .inr (6, [.ref h7, .ref h, .ref hto, .ref h3, .ref h4, .ref h5, .ref h6, .ref im, .ref ik]))] := hD
    refine z_ifb_eq (tgt := 34) hx hb dX6_type_21 (by decide) (fun c_2 => ?_) (fun c_2 => ?_)
    · skip
      have c_2 := of_decide_eq_false c_2
      refine z_bipush hx hb dX6_type_34 (by decide) ?_
      refine z_top (show (-3) = rType ln a from ?_) ?_
      · unfold rType; (repeat' split) <;> omega
      have ef : decide (0 ≤ a ∧ a ≤ 255) = true := decide_eq_true (by omega)
      have hP9 : va_P G vwCl (svO Y hv h7 h hto h3 h4 h5 h6 im ik ++ txW Y h7 xa (bif decide (0 ≤ a ∧ a ≤ 255) then txP tx ln a else tx) (bif decide (0 ≤ a ∧ a ≤ 255) then lnP ln else ln) pl su tk nu) H := by rw [ef]; exact hP.sub [2, 0, 1] rfl
      exact W.iret (v := iZ (rType ln a)) hx hb hr (fun t9 ht9 _ => ⟨rfl, by rw [ht9]; exact hP9, hS.F ht9⟩) hS.2.2 dX6_type_36
    · skip
      have c_2 := of_decide_eq_true c_2
      refine lv_aload_n hx hb dX6_type_24 rfl (lv_at hl 0 rfl) ?_
      refine va_get (D := G) (ci := 6) (v := .ref h7) (C := RX6) (T := TX6) (N := 9) hx hb hts hFX6 hown hK.1 hP 2 rfl rfl 0 (by decide) kf10 (fun _ h9 => h9) rfl dX6_type_25 ?_
      refine va_get (D := G) (ci := 5) (v := .int (iZ ((lnP ln : Nat) : Int))) (C := RX5) (T := TX5) (N := 6) hx hb hts hFX5 hown hK.1 hP 0 rfl rfl 1 (by decide) kf70 (fun _ h9 => h9) rfl dX6_type_28 ?_
      refine lv_goto (tgt := 36) hx hb dX6_type_31 (by decide) ?_
      refine z_top (show ((lnP ln : Nat) : Int) = rType ln a from ?_) ?_
      · unfold rType; rw [lnP_t (by omega)]; (repeat' split) <;> omega
      have ef : decide (0 ≤ a ∧ a ≤ 255) = true := decide_eq_true (by omega)
      have hP9 : va_P G vwCl (svO Y hv h7 h hto h3 h4 h5 h6 im ik ++ txW Y h7 xa (bif decide (0 ≤ a ∧ a ≤ 255) then txP tx ln a else tx) (bif decide (0 ≤ a ∧ a ≤ 255) then lnP ln else ln) pl su tk nu) H := by rw [ef]; exact hP.sub [2, 0, 1] rfl
      exact W.iret (v := iZ (rType ln a)) hx hb hr (fun t9 ht9 _ => ⟨rfl, by rw [ht9]; exact hP9, hS.F ht9⟩) hS.2.2 dX6_type_36
  · skip
    have c_1 := of_decide_eq_false c_1
    refine z_iconst hx hb dX6_type_11 ?_
    refine z_top (show (-1) = rType ln a from ?_) ?_
    · unfold rType; (repeat' split) <;> first | rfl | omega | (simp_all; done)
    have ef : decide (0 ≤ a ∧ a ≤ 255) = false := decide_eq_false (by omega)
    have hP9 : va_P G vwCl (svO Y hv h7 h hto h3 h4 h5 h6 im ik ++ txW Y h7 xa (bif decide (0 ≤ a ∧ a ≤ 255) then txP tx ln a else tx) (bif decide (0 ≤ a ∧ a ≤ 255) then lnP ln else ln) pl su tk nu) H := by rw [ef]; exact hP.sub [0, 1, 2] rfl
    exact W.iret (v := iZ (rType ln a)) hx hb hr (fun t9 ht9 _ => ⟨rfl, by rw [ht9]; exact hP9, hS.F ht9⟩) hS.2.2 dX6_type_12

set_option maxHeartbeats 4000000 in
set_option maxRecDepth 100000 in
theorem c_X6_clear (l : Launch) (G : va_G) (Y : Nat → ClassId) (hv h7 h hto h3 h4 h5 h6 im ik : Nat) (xa : Nat) (tx : Nat → Int) (hX : tX tx) (ln pl : Nat) (su : Bool) (tk : Nat) (nu : Int) : Met l yX6_clear wsX6_clear ({ frames := 1, cells := 0, slots := 0, locals := 21 }) (mP G Y [.ref hv] (svO Y hv h7 h hto h3 h4 h5 h6 im ik ++ (txW Y h7 xa tx ln pl su tk nu))) (mQ G (svO Y hv h7 h hto h3 h4 h5 h6 im ik ++ (txW Y h7 xa tx ln pl su tk nu)) (some (.int (iZ (((ln : Nat) : Int))))) (svO Y hv h7 h hto h3 h4 h5 h6 im ik ++ txW Y h7 xa tx 0 pl su tk nu)) 0 0 (fun q => q ∈ List.map Prod.fst (svO Y hv h7 h hto h3 h4 h5 h6 im ik ++ (txW Y h7 xa tx ln pl su tk nu))) := by
  refine Met.ofW (cc := cX6_clear) (maxL := 1) (ret := (some .int)) (by decide) rfl ?_
  intro p e s m args below meth c s₁ B hml hv
  obtain ⟨rfl, hK, hP, hD0⟩ := hv
  have hx := B.exec
  have hb := B.bytes
  have hr := B.returns
  have hts := atoms_spec (ws := wsX6_clear) B.pre
  have hown : s.vm.findClass RX6 = some m.cls := findClass_of_methodNamed B.named
  have hlocks := B.notSynchronized
  have hFX6 : ∀ w ∈ wsX60, w ∈ wsX6_clear := by decide +kernel
  have kf10 := (hts (.fieldLink RX6 10 "ShadeVotes" "text" "LShadeVotes$Text;") (by decide +kernel))
  have hD := va_D_self hD0
  have hS : va_S (fun q => q ∈ List.map Prod.fst (svO Y hv h7 h hto h3 h4 h5 h6 im ik ++ (txW Y h7 xa tx ln pl su tk nu))) s.heap s.heap [] := va_S.rf
  obtain ⟨H, hHe⟩ : ∃ H, H = s.heap := ⟨_, rfl⟩
  rw [← hHe] at hP
  replace hS : va_S (fun q => q ∈ List.map Prod.fst (svO Y hv h7 h hto h3 h4 h5 h6 im ik ++ (txW Y h7 xa tx ln pl su tk nu))) s.heap H [] := by rw [hHe]; exact hS
  have hl := lv_entry ([.ref hv]) (n := 1) (Nat.le_of_ble_eq_true rfl)
  rw [lg_entry_eq]
  generalize (lg_sl ([.ref hv]) ++ List.replicate (1 - (lg_sl ([.ref hv])).length) Slot.unset).toArray = ls at hl ⊢
  replace hl : lv_has ls 1 [(0, .ref hv)] := hl
  obtain ⟨locs, hLe⟩ : ∃ locs : List Loc, locs = [] := ⟨_, rfl⟩
  rw [← hLe] at hS ⊢
  have hW0 : ∀ {Q : State → Prop} {g : JFrame}, W p l e ({ frames := 1, cells := 0, slots := 0, locals := 21 }) s m [.ref hv].toArray below meth c H locs 0 0 Q g → W p l e ({ frames := 1, cells := 0, slots := 0, locals := 21 }) s m [.ref hv].toArray below meth c s.heap locs 0 0 Q g := fun h => by rw [← hHe]; exact h
  refine hW0 ?_
  clear hW0 hHe hLe
  refine lv_aload_n hx hb dX6_clear_0 rfl (lv_at hl 0 rfl) ?_
  refine va_get (D := G) (ci := 6) (v := .ref h7) (C := RX6) (T := TX6) (N := 9) hx hb hts hFX6 hown hK.1 hP 0 rfl rfl 0 (by decide) kf10 (fun _ h9 => h9) rfl dX6_clear_1 ?_
  have hP := hP.sub (ws' := [(h7, .inr (5, [.ref xa, .int (iZ ((ln : Nat) : Int)), .int (iZ ((pl : Nat) : Int)), .int (iZ (bZ su)), .int (iZ ((tk : Nat) : Int)), .int (iZ nu)])), (xa, .inl (Y 2, 200, .inl (aI tx)))] ++ [(hv, .inr (6, [.ref h7, .ref h, .ref hto, .ref h3, .ref h4, .ref h5, .ref h6, .ref im, .ref ik]))]) [1, 2, 0] rfl
  have hD := hD.sub (ws' := [(h7, .inr (5, [.ref xa, .int (iZ ((ln : Nat) : Int)), .int (iZ ((pl : Nat) : Int)), .int (iZ (bZ su)), .int (iZ ((tk : Nat) : Int)), .int (iZ nu)])), (xa, .inl (Y 2, 200, .inl (aI tx)))] ++ [(hv, .inr (6, [.ref h7, .ref h, .ref hto, .ref h3, .ref h4, .ref h5, .ref h6, .ref im, .ref ik]))]) [1, 2, 0] (by decide) rfl
  refine mu_V (As := []) (rest := []) (wc := [(h7, .inr (5, [.ref xa, .int (iZ ((ln : Nat) : Int)), .int (iZ ((pl : Nat) : Int)), .int (iZ (bZ su)), .int (iZ ((tk : Nat) : Int)), .int (iZ nu)])), (xa, .inl (Y 2, 200, .inl (aI tx)))]) (wc' := txW Y h7 xa tx 0 pl su tk nu) (F := [(hv, .inr (6, [.ref h7, .ref h, .ref hto, .ref h3, .ref h4, .ref h5, .ref h6, .ref im, .ref ik]))]) ⟨hx, hb, hml, hown, hts⟩ (c_X5_empty l G Y h7 xa tx hX ln pl su tk nu) (cwV 0 hts gX6_clear_X5_empty rfl rfl rfl (by decide +kernel) ⟨Nat.le_of_ble_eq_true rfl, Nat.le_of_ble_eq_true rfl⟩) hK hP hD hS 0 rfl rfl (Eq.refl [h7, xa]) rfl hl.1 rfl (Nat.le_of_ble_eq_true rfl) dX6_clear_4 ⟨Nat.zero_le _, Nat.zero_le _⟩ (fun H locs hP hD hS => ?_)
  show W _ _ _ _ _ _ _ _ _ _ _ _ _ _ _ (F0 _ _ _ [.int (iZ ((ln : Nat) : Int))])
  replace hP : va_P G vwCl [(h7, .inr (5, [.ref xa, .int (iZ 0), .int (iZ ((pl : Nat) : Int)), .int (iZ (bZ su)), .int (iZ ((tk : Nat) : Int)), .int (iZ nu)])), (xa, .inl (Y 2, 200, .inl (aI tx))), (hv, .inr (6, [.ref h7, .ref h, .ref hto, .ref h3, .ref h4, .ref h5, .ref h6, .ref im, .ref ik]))] H := hP
  replace hD : va_D _ [(h7, .inr (5, [.ref xa, .int (iZ 0), .int (iZ ((pl : Nat) : Int)), .int (iZ (bZ su)), .int (iZ ((tk : Nat) : Int)), .int (iZ nu)])), (xa, .inl (Y 2, 200, .inl (aI tx))), (hv, .inr (6, [.ref h7, .ref h, .ref hto, .ref h3, .ref h4, .ref h5, .ref h6, .ref im, .ref ik]))] := hD
  have hP9 : va_P G vwCl (svO Y hv h7 h hto h3 h4 h5 h6 im ik ++ txW Y h7 xa tx 0 pl su tk nu) H := hP.sub [2, 0, 1] rfl
  exact W.iret (v := iZ ((ln : Nat) : Int)) hx hb hr (fun t9 ht9 _ => ⟨rfl, by rw [ht9]; exact hP9, hS.F ht9⟩) hS.2.2 dX6_clear_7

set_option maxHeartbeats 4000000 in
set_option maxRecDepth 100000 in
theorem c_X6_moves (l : Launch) (G : va_G) (Y : Nat → ClassId) (hv h7 h hto h3 h4 h5 h6 im ik : Nat) (kn : Nat) (hk : Nat → Nat) (nx sz : Int) (ix : Nat) (adk : Nat → Nat) (Kk : Kom) (ad : Nat → Nat) (K : Kom) (hW : cWF K) (ro : (nx = ix ∧ ix < 10) ∧ 0 ≤ sz ∧ sz ≤ 10) (a b : Int) (r : zR a ∧ zR b) : Met l yX6_moves wsX6_moves ({ frames := 2, cells := 0, slots := 0, locals := 45 }) (mP G Y [.ref hv, .int (iZ a), .int (iZ b)] (svO Y hv h7 h hto h3 h4 h5 h6 im ik ++ (paW Y h3 kn hk nx sz ++ (cmW Y (hk ix) adk Kk ++ cmW Y h ad K)))) (mQ G (svO Y hv h7 h hto h3 h4 h5 h6 im ik ++ (paW Y h3 kn hk nx sz ++ (cmW Y (hk ix) adk Kk ++ cmW Y h ad K))) (some (.int (iZ (rMoves K a b)))) (svO Y hv h7 h hto h3 h4 h5 h6 im ik ++ opW Y h3 kn hk nx sz ix adk Kk h ad K (fMoves K a b) (kMoves K a b))) 0 0 (fun q => q ∈ List.map Prod.fst (svO Y hv h7 h hto h3 h4 h5 h6 im ik ++ (paW Y h3 kn hk nx sz ++ (cmW Y (hk ix) adk Kk ++ cmW Y h ad K)))) := by
  refine Met.ofW (cc := cX6_moves) (maxL := 4) (ret := (some .int)) (by decide) rfl ?_
  intro p e s m args below meth c s₁ B hml hv
  obtain ⟨rfl, hK, hP, hD0⟩ := hv
  have hx := B.exec
  have hb := B.bytes
  have hr := B.returns
  have hts := atoms_spec (ws := wsX6_moves) B.pre
  have hown : s.vm.findClass RX6 = some m.cls := findClass_of_methodNamed B.named
  have hlocks := B.notSynchronized
  have hFX0 : ∀ w ∈ wsX00, w ∈ wsX6_moves := by decide +kernel
  have hFX6 : ∀ w ∈ wsX60, w ∈ wsX6_moves := by decide +kernel
  have kf19 := (hts (.fieldLink RX6 19 "ShadeVotes" "present" "LShadeVotes$Commune;") (by decide +kernel))
  have kf120 := (hts (.fieldLink RX6 120 "ShadeVotes$Commune" "personCell" "[I") (by decide +kernel))
  have kf29 := (hts (.fieldLink RX6 29 "ShadeVotes" "past" "LShadeVotes$Past;") (by decide +kernel))
  have hD := va_D_self hD0
  have hS : va_S (fun q => q ∈ List.map Prod.fst (svO Y hv h7 h hto h3 h4 h5 h6 im ik ++ (paW Y h3 kn hk nx sz ++ (cmW Y (hk ix) adk Kk ++ cmW Y h ad K)))) s.heap s.heap [] := va_S.rf
  obtain ⟨H, hHe⟩ : ∃ H, H = s.heap := ⟨_, rfl⟩
  rw [← hHe] at hP
  replace hS : va_S (fun q => q ∈ List.map Prod.fst (svO Y hv h7 h hto h3 h4 h5 h6 im ik ++ (paW Y h3 kn hk nx sz ++ (cmW Y (hk ix) adk Kk ++ cmW Y h ad K)))) s.heap H [] := by rw [hHe]; exact hS
  have hl := lv_entry ([.ref hv, .int (iZ a), .int (iZ b)]) (n := 4) (Nat.le_of_ble_eq_true rfl)
  rw [lg_entry_eq]
  generalize (lg_sl ([.ref hv, .int (iZ a), .int (iZ b)]) ++ List.replicate (4 - (lg_sl ([.ref hv, .int (iZ a), .int (iZ b)])).length) Slot.unset).toArray = ls at hl ⊢
  replace hl : lv_has ls 4 [(0, .ref hv), (1, .int (iZ a)), (2, .int (iZ b))] := hl
  obtain ⟨locs, hLe⟩ : ∃ locs : List Loc, locs = [] := ⟨_, rfl⟩
  rw [← hLe] at hS ⊢
  have hW0 : ∀ {Q : State → Prop} {g : JFrame}, W p l e ({ frames := 2, cells := 0, slots := 0, locals := 45 }) s m [.ref hv, .int (iZ a), .int (iZ b)].toArray below meth c H locs 0 0 Q g → W p l e ({ frames := 2, cells := 0, slots := 0, locals := 45 }) s m [.ref hv, .int (iZ a), .int (iZ b)].toArray below meth c s.heap locs 0 0 Q g := fun h => by rw [← hHe]; exact h
  refine hW0 ?_
  clear hW0 hHe hLe
  have h0 := hW.1
  have hnc := hW.nc
  refine lv_aload_n hx hb dX6_moves_0 rfl (lv_at hl 0 rfl) ?_
  refine va_get (D := G) (ci := 6) (v := .ref h) (C := RX6) (T := TX6) (N := 9) hx hb hts hFX6 hown hK.1 hP 0 rfl rfl 1 (by decide) kf19 (fun _ h9 => h9) rfl dX6_moves_1 ?_
  refine lv_iload_n hx hb dX6_moves_4 rfl (lv_at hl 1 rfl) ?_
  refine ro_V (As := [.int (iZ a)]) (rest := []) ⟨hx, hb, hml, hown, hts⟩ (c_X0_hasPerson l G Y h ad K hW a (by omega)) (cwV 1 hts gX6_moves_X0_hasPerson rfl rfl rfl (by decide +kernel) ⟨Nat.le_of_ble_eq_true rfl, Nat.le_of_ble_eq_true rfl⟩) hK (hP.sub (ws' := cmW Y h ad K) [11, 12, 13, 14, 15, 16, 17, 18] rfl) 0 rfl rfl rfl hl.1 rfl (Nat.le_of_ble_eq_true rfl) dX6_moves_5 ⟨Nat.zero_le _, Nat.zero_le _⟩ ?_
  refine z_ifb_eq (tgt := 20) hx hb dX6_moves_8 (by decide) (fun c_1 => ?_) (fun c_1 => ?_)
  · skip
    have c_1 := of_decide_eq_false c_1
    refine z_iconst hx hb dX6_moves_20 ?_
    refine z_top (show (-1) = rMoves K a b from ?_) ?_
    · unfold rMoves; (repeat' split) <;> first | rfl | omega | (simp_all; done)
    have ef : fMoves K a b = false := decide_eq_false (by omega)
    have hP9 : va_P G vwCl (svO Y hv h7 h hto h3 h4 h5 h6 im ik ++ opW Y h3 kn hk nx sz ix adk Kk h ad K (fMoves K a b) (kMoves K a b)) H := by rw [ef]; exact hP.sub [0, 1, 2, 3, 4, 5, 6, 7, 8, 9, 10, 11, 12, 13, 14, 15, 16, 17, 18] rfl
    exact W.iret (v := iZ (rMoves K a b)) hx hb hr (fun t9 ht9 _ => ⟨rfl, by rw [ht9]; exact hP9, hS.F ht9⟩) hS.2.2 dX6_moves_21
  · skip
    have c_1 := of_decide_eq_true c_1
    refine lv_iload_n hx hb dX6_moves_11 rfl (lv_at hl 2 rfl) ?_
    refine z_iconst hx hb dX6_moves_12 ?_
    refine z_iconst hx hb dX6_moves_13 ?_
    refine ro_S (As := [.int (iZ b), .int (iZ 0), .int (iZ 3)]) (rest := []) ⟨hx, hb, hml, hown, hts⟩ (c_X6_isWithin l G Y b 0 3 (by omega)) (cwS 3 hts gX6_moves_X6_isWithin rfl rfl rfl (by decide +kernel) ⟨Nat.le_of_ble_eq_true rfl, Nat.le_of_ble_eq_true rfl⟩) hK (hP.sub (ws' := []) [] rfl) rfl hl.1 rfl (Nat.le_of_ble_eq_true rfl) dX6_moves_14 ⟨Nat.zero_le _, Nat.zero_le _⟩ ?_
    refine z_ifb_ne (tgt := 22) hx hb dX6_moves_17 (by decide) (fun c_2 => ?_) (fun c_2 => ?_)
    · skip
      have c_2 := of_decide_eq_true c_2
      refine lv_aload_n hx hb dX6_moves_22 rfl (lv_at hl 0 rfl) ?_
      refine va_get (D := G) (ci := 6) (v := .ref h) (C := RX6) (T := TX6) (N := 9) hx hb hts hFX6 hown hK.1 hP 0 rfl rfl 1 (by decide) kf19 (fun _ h9 => h9) rfl dX6_moves_23 ?_
      refine lv_aload_n hx hb dX6_moves_26 rfl (lv_at hl 0 rfl) ?_
      refine va_get (D := G) (ci := 6) (v := .ref h) (C := RX6) (T := TX6) (N := 9) hx hb hts hFX6 hown hK.1 hP 0 rfl rfl 1 (by decide) kf19 (fun _ h9 => h9) rfl dX6_moves_27 ?_
      refine va_get (D := G) (ci := 0) (v := .ref (ad 6)) (C := RX0) (T := TX0) (N := 14) hx hb hts hFX0 hown hK.1 hP 11 rfl rfl 12 (by decide) kf120 (fun _ h9 => h9) rfl dX6_moves_30 ?_
      refine lv_iload_n hx hb dX6_moves_33 rfl (lv_at hl 1 rfl) ?_
      refine z_iald hx hb hK.1 hP 17 0 rfl rfl ((a).toNat) (by omega) (by decide) dX6_moves_34 ?_
      have hb_3 := hW.2.2.1 ((a).toNat) (by omega)
      refine lv_iload_n hx hb dX6_moves_35 rfl (lv_at hl 2 rfl) ?_
      refine ro_V (As := [.int (iZ ((K 6) ((a).toNat))), .int (iZ b)]) (rest := []) ⟨hx, hb, hml, hown, hts⟩ (c_X0_neighbour l G Y h ad K hW ((K 6) ((a).toNat)) b (by omega)) (cwV 2 hts gX6_moves_X0_neighbour rfl rfl rfl (by decide +kernel) ⟨Nat.le_of_ble_eq_true rfl, Nat.le_of_ble_eq_true rfl⟩) hK (hP.sub (ws' := cmW Y h ad K) [11, 12, 13, 14, 15, 16, 17, 18] rfl) 0 rfl rfl rfl hl.1 rfl (Nat.le_of_ble_eq_true rfl) dX6_moves_36 ⟨Nat.zero_le _, Nat.zero_le _⟩ ?_
      refine lv_istore_n (lv' := [(3, .int (iZ (nbr K ((K 6) ((a).toNat)) b))), (0, .ref hv), (1, .int (iZ a)), (2, .int (iZ b))]) hx hb dX6_moves_39 rfl hl (by decide) rfl (fun ls hl => ?_)
      have hnb := nbr_in hW (c := K 6 (a).toNat) (by omega) b
      refine lv_iload_n hx hb dX6_moves_40 rfl (lv_at hl 0 rfl) ?_
      refine z_bipush hx hb dX6_moves_41 (by decide) ?_
      refine z_icmp_ne (tgt := 49) hx hb dX6_moves_43 (by decide) (by omega) (fun c_4 => ?_) (fun c_4 => ?_)
      · skip
        refine lv_aload_n hx hb dX6_moves_49 rfl (lv_at hl 1 rfl) ?_
        refine va_get (D := G) (ci := 6) (v := .ref h3) (C := RX6) (T := TX6) (N := 9) hx hb hts hFX6 hown hK.1 hP 0 rfl rfl 3 (by decide) kf29 (fun _ h9 => h9) rfl dX6_moves_50 ?_
        refine lv_aload_n hx hb dX6_moves_53 rfl (lv_at hl 1 rfl) ?_
        refine va_get (D := G) (ci := 6) (v := .ref h) (C := RX6) (T := TX6) (N := 9) hx hb hts hFX6 hown hK.1 hP 0 rfl rfl 1 (by decide) kf19 (fun _ h9 => h9) rfl dX6_moves_54 ?_
        have hP := hP.sub (ws' := [(h3, .inr (2, [.ref kn, .int (iZ nx), .int (iZ sz)])), (kn, .inl (Y 3, 10, .inr (.inr (.inr (.inr (aR hk)))))), (hk ix, .inr (0, [.int (iZ (Kk 0 0)), .int (iZ (Kk 0 1)), .int (iZ (Kk 0 2)), .int (iZ (Kk 0 3)), .int (iZ (Kk 0 4)), .int (iZ (Kk 0 5)), .int (iZ (Kk 0 6)), .ref (adk 1), .ref (adk 2), .ref (adk 3), .ref (adk 4), .ref (adk 5), .ref (adk 6), .ref (adk 7)])), (adk 1, .inl (Y 0, 6, .inl (aI (Kk 1)))), (adk 2, .inl (Y 0, 6, .inl (aI (Kk 2)))), (adk 3, .inl (Y 0, 6, .inl (aI (Kk 3)))), (adk 4, .inl (Y 1, 6, .inl (aI (Kk 4)))), (adk 5, .inl (Y 1, 6, .inl (aI (Kk 5)))), (adk 6, .inl (Y 0, 7, .inl (aI (Kk 6)))), (adk 7, .inl (Y 0, 7, .inl (aI (Kk 7)))), (h, .inr (0, [.int (iZ (K 0 0)), .int (iZ (K 0 1)), .int (iZ (K 0 2)), .int (iZ (K 0 3)), .int (iZ (K 0 4)), .int (iZ (K 0 5)), .int (iZ (K 0 6)), .ref (ad 1), .ref (ad 2), .ref (ad 3), .ref (ad 4), .ref (ad 5), .ref (ad 6), .ref (ad 7)])), (ad 1, .inl (Y 0, 6, .inl (aI (K 1)))), (ad 2, .inl (Y 0, 6, .inl (aI (K 2)))), (ad 3, .inl (Y 0, 6, .inl (aI (K 3)))), (ad 4, .inl (Y 1, 6, .inl (aI (K 4)))), (ad 5, .inl (Y 1, 6, .inl (aI (K 5)))), (ad 6, .inl (Y 0, 7, .inl (aI (K 6)))), (ad 7, .inl (Y 0, 7, .inl (aI (K 7))))] ++ [(hv, .inr (6, [.ref h7, .ref h, .ref hto, .ref h3, .ref h4, .ref h5, .ref h6, .ref im, .ref ik]))]) [1, 2, 3, 4, 5, 6, 7, 8, 9, 10, 11, 12, 13, 14, 15, 16, 17, 18, 0] rfl
        have hD := hD.sub (ws' := [(h3, .inr (2, [.ref kn, .int (iZ nx), .int (iZ sz)])), (kn, .inl (Y 3, 10, .inr (.inr (.inr (.inr (aR hk)))))), (hk ix, .inr (0, [.int (iZ (Kk 0 0)), .int (iZ (Kk 0 1)), .int (iZ (Kk 0 2)), .int (iZ (Kk 0 3)), .int (iZ (Kk 0 4)), .int (iZ (Kk 0 5)), .int (iZ (Kk 0 6)), .ref (adk 1), .ref (adk 2), .ref (adk 3), .ref (adk 4), .ref (adk 5), .ref (adk 6), .ref (adk 7)])), (adk 1, .inl (Y 0, 6, .inl (aI (Kk 1)))), (adk 2, .inl (Y 0, 6, .inl (aI (Kk 2)))), (adk 3, .inl (Y 0, 6, .inl (aI (Kk 3)))), (adk 4, .inl (Y 1, 6, .inl (aI (Kk 4)))), (adk 5, .inl (Y 1, 6, .inl (aI (Kk 5)))), (adk 6, .inl (Y 0, 7, .inl (aI (Kk 6)))), (adk 7, .inl (Y 0, 7, .inl (aI (Kk 7)))), (h, .inr (0, [.int (iZ (K 0 0)), .int (iZ (K 0 1)), .int (iZ (K 0 2)), .int (iZ (K 0 3)), .int (iZ (K 0 4)), .int (iZ (K 0 5)), .int (iZ (K 0 6)), .ref (ad 1), .ref (ad 2), .ref (ad 3), .ref (ad 4), .ref (ad 5), .ref (ad 6), .ref (ad 7)])), (ad 1, .inl (Y 0, 6, .inl (aI (K 1)))), (ad 2, .inl (Y 0, 6, .inl (aI (K 2)))), (ad 3, .inl (Y 0, 6, .inl (aI (K 3)))), (ad 4, .inl (Y 1, 6, .inl (aI (K 4)))), (ad 5, .inl (Y 1, 6, .inl (aI (K 5)))), (ad 6, .inl (Y 0, 7, .inl (aI (K 6)))), (ad 7, .inl (Y 0, 7, .inl (aI (K 7))))] ++ [(hv, .inr (6, [.ref h7, .ref h, .ref hto, .ref h3, .ref h4, .ref h5, .ref h6, .ref im, .ref ik]))]) [1, 2, 3, 4, 5, 6, 7, 8, 9, 10, 11, 12, 13, 14, 15, 16, 17, 18, 0] (by decide) rfl
        refine mu_V (As := [.ref h]) (rest := []) (wc := [(h3, .inr (2, [.ref kn, .int (iZ nx), .int (iZ sz)])), (kn, .inl (Y 3, 10, .inr (.inr (.inr (.inr (aR hk)))))), (hk ix, .inr (0, [.int (iZ (Kk 0 0)), .int (iZ (Kk 0 1)), .int (iZ (Kk 0 2)), .int (iZ (Kk 0 3)), .int (iZ (Kk 0 4)), .int (iZ (Kk 0 5)), .int (iZ (Kk 0 6)), .ref (adk 1), .ref (adk 2), .ref (adk 3), .ref (adk 4), .ref (adk 5), .ref (adk 6), .ref (adk 7)])), (adk 1, .inl (Y 0, 6, .inl (aI (Kk 1)))), (adk 2, .inl (Y 0, 6, .inl (aI (Kk 2)))), (adk 3, .inl (Y 0, 6, .inl (aI (Kk 3)))), (adk 4, .inl (Y 1, 6, .inl (aI (Kk 4)))), (adk 5, .inl (Y 1, 6, .inl (aI (Kk 5)))), (adk 6, .inl (Y 0, 7, .inl (aI (Kk 6)))), (adk 7, .inl (Y 0, 7, .inl (aI (Kk 7)))), (h, .inr (0, [.int (iZ (K 0 0)), .int (iZ (K 0 1)), .int (iZ (K 0 2)), .int (iZ (K 0 3)), .int (iZ (K 0 4)), .int (iZ (K 0 5)), .int (iZ (K 0 6)), .ref (ad 1), .ref (ad 2), .ref (ad 3), .ref (ad 4), .ref (ad 5), .ref (ad 6), .ref (ad 7)])), (ad 1, .inl (Y 0, 6, .inl (aI (K 1)))), (ad 2, .inl (Y 0, 6, .inl (aI (K 2)))), (ad 3, .inl (Y 0, 6, .inl (aI (K 3)))), (ad 4, .inl (Y 1, 6, .inl (aI (K 4)))), (ad 5, .inl (Y 1, 6, .inl (aI (K 5)))), (ad 6, .inl (Y 0, 7, .inl (aI (K 6)))), (ad 7, .inl (Y 0, 7, .inl (aI (K 7))))]) (wc' := paW Y h3 kn hk ((nx + 1) % 10) (min (sz + 1) 10) ++ (cmW Y (hk ix) adk K ++ cmW Y h ad K)) (F := [(hv, .inr (6, [.ref h7, .ref h, .ref hto, .ref h3, .ref h4, .ref h5, .ref h6, .ref im, .ref ik]))]) ⟨hx, hb, hml, hown, hts⟩ (c_X2_remember l G Y h3 kn hk nx sz ix adk Kk h ad K hW (by omega)) (cwV 1 hts gX6_moves_X2_remember rfl rfl rfl (by decide +kernel) ⟨Nat.le_of_ble_eq_true rfl, Nat.le_of_ble_eq_true rfl⟩) hK hP hD hS 0 rfl rfl (Eq.refl [h3, kn, hk ix, adk 1, adk 2, adk 3, adk 4, adk 5, adk 6, adk 7, h, ad 1, ad 2, ad 3, ad 4, ad 5, ad 6, ad 7]) rfl hl.1 rfl (Nat.le_of_ble_eq_true rfl) dX6_moves_57 ⟨Nat.zero_le _, Nat.zero_le _⟩ (fun H locs hP hD hS => ?_)
        show W _ _ _ _ _ _ _ _ _ _ _ _ _ _ _ (F0 _ _ _ [])
        replace hP : va_P G vwCl [(h3, .inr (2, [.ref kn, .int (iZ ((nx + 1) % 10)), .int (iZ (min (sz + 1) 10))])), (kn, .inl (Y 3, 10, .inr (.inr (.inr (.inr (aR hk)))))), (hk ix, .inr (0, [.int (iZ (K 0 0)), .int (iZ (K 0 1)), .int (iZ (K 0 2)), .int (iZ (K 0 3)), .int (iZ (K 0 4)), .int (iZ (K 0 5)), .int (iZ (K 0 6)), .ref (adk 1), .ref (adk 2), .ref (adk 3), .ref (adk 4), .ref (adk 5), .ref (adk 6), .ref (adk 7)])), (adk 1, .inl (Y 0, 6, .inl (aI (K 1)))), (adk 2, .inl (Y 0, 6, .inl (aI (K 2)))), (adk 3, .inl (Y 0, 6, .inl (aI (K 3)))), (adk 4, .inl (Y 1, 6, .inl (aI (K 4)))), (adk 5, .inl (Y 1, 6, .inl (aI (K 5)))), (adk 6, .inl (Y 0, 7, .inl (aI (K 6)))), (adk 7, .inl (Y 0, 7, .inl (aI (K 7)))), (h, .inr (0, [.int (iZ (K 0 0)), .int (iZ (K 0 1)), .int (iZ (K 0 2)), .int (iZ (K 0 3)), .int (iZ (K 0 4)), .int (iZ (K 0 5)), .int (iZ (K 0 6)), .ref (ad 1), .ref (ad 2), .ref (ad 3), .ref (ad 4), .ref (ad 5), .ref (ad 6), .ref (ad 7)])), (ad 1, .inl (Y 0, 6, .inl (aI (K 1)))), (ad 2, .inl (Y 0, 6, .inl (aI (K 2)))), (ad 3, .inl (Y 0, 6, .inl (aI (K 3)))), (ad 4, .inl (Y 1, 6, .inl (aI (K 4)))), (ad 5, .inl (Y 1, 6, .inl (aI (K 5)))), (ad 6, .inl (Y 0, 7, .inl (aI (K 6)))), (ad 7, .inl (Y 0, 7, .inl (aI (K 7)))), (hv, .inr (6, [.ref h7, .ref h, .ref hto, .ref h3, .ref h4, .ref h5, .ref h6, .ref im, .ref ik]))] H := hP
        replace hD : va_D _ [(h3, .inr (2, [.ref kn, .int (iZ ((nx + 1) % 10)), .int (iZ (min (sz + 1) 10))])), (kn, .inl (Y 3, 10, .inr (.inr (.inr (.inr (aR hk)))))), (hk ix, .inr (0, [.int (iZ (K 0 0)), .int (iZ (K 0 1)), .int (iZ (K 0 2)), .int (iZ (K 0 3)), .int (iZ (K 0 4)), .int (iZ (K 0 5)), .int (iZ (K 0 6)), .ref (adk 1), .ref (adk 2), .ref (adk 3), .ref (adk 4), .ref (adk 5), .ref (adk 6), .ref (adk 7)])), (adk 1, .inl (Y 0, 6, .inl (aI (K 1)))), (adk 2, .inl (Y 0, 6, .inl (aI (K 2)))), (adk 3, .inl (Y 0, 6, .inl (aI (K 3)))), (adk 4, .inl (Y 1, 6, .inl (aI (K 4)))), (adk 5, .inl (Y 1, 6, .inl (aI (K 5)))), (adk 6, .inl (Y 0, 7, .inl (aI (K 6)))), (adk 7, .inl (Y 0, 7, .inl (aI (K 7)))), (h, .inr (0, [.int (iZ (K 0 0)), .int (iZ (K 0 1)), .int (iZ (K 0 2)), .int (iZ (K 0 3)), .int (iZ (K 0 4)), .int (iZ (K 0 5)), .int (iZ (K 0 6)), .ref (ad 1), .ref (ad 2), .ref (ad 3), .ref (ad 4), .ref (ad 5), .ref (ad 6), .ref (ad 7)])), (ad 1, .inl (Y 0, 6, .inl (aI (K 1)))), (ad 2, .inl (Y 0, 6, .inl (aI (K 2)))), (ad 3, .inl (Y 0, 6, .inl (aI (K 3)))), (ad 4, .inl (Y 1, 6, .inl (aI (K 4)))), (ad 5, .inl (Y 1, 6, .inl (aI (K 5)))), (ad 6, .inl (Y 0, 7, .inl (aI (K 6)))), (ad 7, .inl (Y 0, 7, .inl (aI (K 7)))), (hv, .inr (6, [.ref h7, .ref h, .ref hto, .ref h3, .ref h4, .ref h5, .ref h6, .ref im, .ref ik]))] := hD
        refine lv_aload_n hx hb dX6_moves_60 rfl (lv_at hl 1 rfl) ?_
        refine va_get (D := G) (ci := 6) (v := .ref h) (C := RX6) (T := TX6) (N := 9) hx hb hts hFX6 hown hK.1 hP 18 rfl rfl 1 (by decide) kf19 (fun _ h9 => h9) rfl dX6_moves_61 ?_
        refine va_get (D := G) (ci := 0) (v := .ref (ad 6)) (C := RX0) (T := TX0) (N := 14) hx hb hts hFX0 hown hK.1 hP 10 rfl rfl 12 (by decide) kf120 (fun _ h9 => h9) rfl dX6_moves_64 ?_
        refine lv_iload_n hx hb dX6_moves_67 rfl (lv_at hl 2 rfl) ?_
        refine lv_iload_n hx hb dX6_moves_68 rfl (lv_at hl 0 rfl) ?_
        refine z_iast hx hb hK.1 hP hD hS 16 0 rfl rfl ((a).toNat) (by omega) (by decide) dX6_moves_69 (fun H locs hP hD hS => ?_)
        replace hP : va_P G vwCl [(h3, .inr (2, [.ref kn, .int (iZ ((nx + 1) % 10)), .int (iZ (min (sz + 1) 10))])), (kn, .inl (Y 3, 10, .inr (.inr (.inr (.inr (aR hk)))))), (hk ix, .inr (0, [.int (iZ (K 0 0)), .int (iZ (K 0 1)), .int (iZ (K 0 2)), .int (iZ (K 0 3)), .int (iZ (K 0 4)), .int (iZ (K 0 5)), .int (iZ (K 0 6)), .ref (adk 1), .ref (adk 2), .ref (adk 3), .ref (adk 4), .ref (adk 5), .ref (adk 6), .ref (adk 7)])), (adk 1, .inl (Y 0, 6, .inl (aI (K 1)))), (adk 2, .inl (Y 0, 6, .inl (aI (K 2)))), (adk 3, .inl (Y 0, 6, .inl (aI (K 3)))), (adk 4, .inl (Y 1, 6, .inl (aI (K 4)))), (adk 5, .inl (Y 1, 6, .inl (aI (K 5)))), (adk 6, .inl (Y 0, 7, .inl (aI (K 6)))), (adk 7, .inl (Y 0, 7, .inl (aI (K 7)))), (h, .inr (0, [.int (iZ (K 0 0)), .int (iZ (K 0 1)), .int (iZ (K 0 2)), .int (iZ (K 0 3)), .int (iZ (K 0 4)), .int (iZ (K 0 5)), .int (iZ (K 0 6)), .ref (ad 1), .ref (ad 2), .ref (ad 3), .ref (ad 4), .ref (ad 5), .ref (ad 6), .ref (ad 7)])), (ad 1, .inl (Y 0, 6, .inl (aI (K 1)))), (ad 2, .inl (Y 0, 6, .inl (aI (K 2)))), (ad 3, .inl (Y 0, 6, .inl (aI (K 3)))), (ad 4, .inl (Y 1, 6, .inl (aI (K 4)))), (ad 5, .inl (Y 1, 6, .inl (aI (K 5)))), (ad 6, .inl (Y 0, 7, .inl (aI (va_up (K 6) ((a).toNat) (nbr K ((K 6) ((a).toNat)) b))))), (ad 7, .inl (Y 0, 7, .inl (aI (K 7)))), (hv, .inr (6, [.ref h7, .ref h, .ref hto, .ref h3, .ref h4, .ref h5, .ref h6, .ref im, .ref ik]))] H := hP
        replace hD : va_D _ [(h3, .inr (2, [.ref kn, .int (iZ ((nx + 1) % 10)), .int (iZ (min (sz + 1) 10))])), (kn, .inl (Y 3, 10, .inr (.inr (.inr (.inr (aR hk)))))), (hk ix, .inr (0, [.int (iZ (K 0 0)), .int (iZ (K 0 1)), .int (iZ (K 0 2)), .int (iZ (K 0 3)), .int (iZ (K 0 4)), .int (iZ (K 0 5)), .int (iZ (K 0 6)), .ref (adk 1), .ref (adk 2), .ref (adk 3), .ref (adk 4), .ref (adk 5), .ref (adk 6), .ref (adk 7)])), (adk 1, .inl (Y 0, 6, .inl (aI (K 1)))), (adk 2, .inl (Y 0, 6, .inl (aI (K 2)))), (adk 3, .inl (Y 0, 6, .inl (aI (K 3)))), (adk 4, .inl (Y 1, 6, .inl (aI (K 4)))), (adk 5, .inl (Y 1, 6, .inl (aI (K 5)))), (adk 6, .inl (Y 0, 7, .inl (aI (K 6)))), (adk 7, .inl (Y 0, 7, .inl (aI (K 7)))), (h, .inr (0, [.int (iZ (K 0 0)), .int (iZ (K 0 1)), .int (iZ (K 0 2)), .int (iZ (K 0 3)), .int (iZ (K 0 4)), .int (iZ (K 0 5)), .int (iZ (K 0 6)), .ref (ad 1), .ref (ad 2), .ref (ad 3), .ref (ad 4), .ref (ad 5), .ref (ad 6), .ref (ad 7)])), (ad 1, .inl (Y 0, 6, .inl (aI (K 1)))), (ad 2, .inl (Y 0, 6, .inl (aI (K 2)))), (ad 3, .inl (Y 0, 6, .inl (aI (K 3)))), (ad 4, .inl (Y 1, 6, .inl (aI (K 4)))), (ad 5, .inl (Y 1, 6, .inl (aI (K 5)))), (ad 6, .inl (Y 0, 7, .inl (aI (va_up (K 6) ((a).toNat) (nbr K ((K 6) ((a).toNat)) b))))), (ad 7, .inl (Y 0, 7, .inl (aI (K 7)))), (hv, .inr (6, [.ref h7, .ref h, .ref hto, .ref h3, .ref h4, .ref h5, .ref h6, .ref im, .ref ik]))] := hD
        refine lv_iload_n hx hb dX6_moves_70 rfl (lv_at hl 0 rfl) ?_
        refine z_top (show nbr K ((K 6) ((a).toNat)) b = rMoves K a b from ?_) ?_
        · unfold rMoves; (repeat' split) <;> first | rfl | omega | (simp_all; done)
        have ef : fMoves K a b = true := decide_eq_true (by omega)
        have hP9 : va_P G vwCl (svO Y hv h7 h hto h3 h4 h5 h6 im ik ++ opW Y h3 kn hk nx sz ix adk Kk h ad K (fMoves K a b) (kMoves K a b)) H := by rw [ef]; exact hP.sub [18, 0, 1, 2, 3, 4, 5, 6, 7, 8, 9, 10, 11, 12, 13, 14, 15, 16, 17] rfl
        exact W.iret (v := iZ (rMoves K a b)) hx hb hr (fun t9 ht9 _ => ⟨rfl, by rw [ht9]; exact hP9, hS.F ht9⟩) hS.2.2 dX6_moves_71
      · skip
        refine z_bipush hx hb dX6_moves_46 (by decide) ?_
        refine z_top (show (-2) = rMoves K a b from ?_) ?_
        · unfold rMoves; (repeat' split) <;> first | rfl | omega | (simp_all; done)
        have ef : fMoves K a b = false := decide_eq_false (by omega)
        have hP9 : va_P G vwCl (svO Y hv h7 h hto h3 h4 h5 h6 im ik ++ opW Y h3 kn hk nx sz ix adk Kk h ad K (fMoves K a b) (kMoves K a b)) H := by rw [ef]; exact hP.sub [0, 1, 2, 3, 4, 5, 6, 7, 8, 9, 10, 11, 12, 13, 14, 15, 16, 17, 18] rfl
        exact W.iret (v := iZ (rMoves K a b)) hx hb hr (fun t9 ht9 _ => ⟨rfl, by rw [ht9]; exact hP9, hS.F ht9⟩) hS.2.2 dX6_moves_48
    · skip
      have c_2 := of_decide_eq_false c_2
      refine z_iconst hx hb dX6_moves_20 ?_
      refine z_top (show (-1) = rMoves K a b from ?_) ?_
      · unfold rMoves; (repeat' split) <;> first | rfl | omega | (simp_all; done)
      have ef : fMoves K a b = false := decide_eq_false (by omega)
      have hP9 : va_P G vwCl (svO Y hv h7 h hto h3 h4 h5 h6 im ik ++ opW Y h3 kn hk nx sz ix adk Kk h ad K (fMoves K a b) (kMoves K a b)) H := by rw [ef]; exact hP.sub [0, 1, 2, 3, 4, 5, 6, 7, 8, 9, 10, 11, 12, 13, 14, 15, 16, 17, 18] rfl
      exact W.iret (v := iZ (rMoves K a b)) hx hb hr (fun t9 ht9 _ => ⟨rfl, by rw [ht9]; exact hP9, hS.F ht9⟩) hS.2.2 dX6_moves_21

set_option maxHeartbeats 4000000 in
set_option maxRecDepth 100000 in
theorem c_X6_prunes (l : Launch) (G : va_G) (Y : Nat → ClassId) (hv h7 h hto h3 h4 h5 h6 im ik : Nat) (kn : Nat) (hk : Nat → Nat) (nx sz : Int) (ix : Nat) (adk : Nat → Nat) (Kk : Kom) (ad : Nat → Nat) (K : Kom) (hW : cWF K) (ro : (nx = ix ∧ ix < 10) ∧ 0 ≤ sz ∧ sz ≤ 10) (a b : Int) (r : zR a ∧ zR b) : Met l yX6_prunes wsX6_prunes ({ frames := 2, cells := 0, slots := 0, locals := 43 }) (mP G Y [.ref hv, .int (iZ a), .int (iZ b)] (svO Y hv h7 h hto h3 h4 h5 h6 im ik ++ (paW Y h3 kn hk nx sz ++ (cmW Y (hk ix) adk Kk ++ cmW Y h ad K)))) (mQ G (svO Y hv h7 h hto h3 h4 h5 h6 im ik ++ (paW Y h3 kn hk nx sz ++ (cmW Y (hk ix) adk Kk ++ cmW Y h ad K))) (some (.int (iZ (rPrunes K a b)))) (svO Y hv h7 h hto h3 h4 h5 h6 im ik ++ opW Y h3 kn hk nx sz ix adk Kk h ad K (fPrunes K a b) (kS K 2 a.toNat (max (K 2 a.toNat - b) 0)))) 0 0 (fun q => q ∈ List.map Prod.fst (svO Y hv h7 h hto h3 h4 h5 h6 im ik ++ (paW Y h3 kn hk nx sz ++ (cmW Y (hk ix) adk Kk ++ cmW Y h ad K)))) := by
  refine Met.ofW (cc := cX6_prunes) (maxL := 3) (ret := (some .int)) (by decide) rfl ?_
  intro p e s m args below meth c s₁ B hml hv
  obtain ⟨rfl, hK, hP, hD0⟩ := hv
  have hx := B.exec
  have hb := B.bytes
  have hr := B.returns
  have hts := atoms_spec (ws := wsX6_prunes) B.pre
  have hown : s.vm.findClass RX6 = some m.cls := findClass_of_methodNamed B.named
  have hlocks := B.notSynchronized
  have hFX0 : ∀ w ∈ wsX00, w ∈ wsX6_prunes := by decide +kernel
  have hFX6 : ∀ w ∈ wsX60, w ∈ wsX6_prunes := by decide +kernel
  have kf19 := (hts (.fieldLink RX6 19 "ShadeVotes" "present" "LShadeVotes$Commune;") (by decide +kernel))
  have kf29 := (hts (.fieldLink RX6 29 "ShadeVotes" "past" "LShadeVotes$Past;") (by decide +kernel))
  have kf97 := (hts (.fieldLink RX6 97 "ShadeVotes$Commune" "treeHeight" "[I") (by decide +kernel))
  have hD := va_D_self hD0
  have hS : va_S (fun q => q ∈ List.map Prod.fst (svO Y hv h7 h hto h3 h4 h5 h6 im ik ++ (paW Y h3 kn hk nx sz ++ (cmW Y (hk ix) adk Kk ++ cmW Y h ad K)))) s.heap s.heap [] := va_S.rf
  obtain ⟨H, hHe⟩ : ∃ H, H = s.heap := ⟨_, rfl⟩
  rw [← hHe] at hP
  replace hS : va_S (fun q => q ∈ List.map Prod.fst (svO Y hv h7 h hto h3 h4 h5 h6 im ik ++ (paW Y h3 kn hk nx sz ++ (cmW Y (hk ix) adk Kk ++ cmW Y h ad K)))) s.heap H [] := by rw [hHe]; exact hS
  have hl := lv_entry ([.ref hv, .int (iZ a), .int (iZ b)]) (n := 3) (Nat.le_of_ble_eq_true rfl)
  rw [lg_entry_eq]
  generalize (lg_sl ([.ref hv, .int (iZ a), .int (iZ b)]) ++ List.replicate (3 - (lg_sl ([.ref hv, .int (iZ a), .int (iZ b)])).length) Slot.unset).toArray = ls at hl ⊢
  replace hl : lv_has ls 3 [(0, .ref hv), (1, .int (iZ a)), (2, .int (iZ b))] := hl
  obtain ⟨locs, hLe⟩ : ∃ locs : List Loc, locs = [] := ⟨_, rfl⟩
  rw [← hLe] at hS ⊢
  have hW0 : ∀ {Q : State → Prop} {g : JFrame}, W p l e ({ frames := 2, cells := 0, slots := 0, locals := 43 }) s m [.ref hv, .int (iZ a), .int (iZ b)].toArray below meth c H locs 0 0 Q g → W p l e ({ frames := 2, cells := 0, slots := 0, locals := 43 }) s m [.ref hv, .int (iZ a), .int (iZ b)].toArray below meth c s.heap locs 0 0 Q g := fun h => by rw [← hHe]; exact h
  refine hW0 ?_
  clear hW0 hHe hLe
  have h0 := hW.1
  have hnc := hW.nc
  refine lv_aload_n hx hb dX6_prunes_0 rfl (lv_at hl 0 rfl) ?_
  refine va_get (D := G) (ci := 6) (v := .ref h) (C := RX6) (T := TX6) (N := 9) hx hb hts hFX6 hown hK.1 hP 0 rfl rfl 1 (by decide) kf19 (fun _ h9 => h9) rfl dX6_prunes_1 ?_
  refine lv_iload_n hx hb dX6_prunes_4 rfl (lv_at hl 1 rfl) ?_
  refine ro_V (As := [.int (iZ a)]) (rest := []) ⟨hx, hb, hml, hown, hts⟩ (c_X0_hasTree l G Y h ad K hW a (by omega)) (cwV 1 hts gX6_prunes_X0_hasTree rfl rfl rfl (by decide +kernel) ⟨Nat.le_of_ble_eq_true rfl, Nat.le_of_ble_eq_true rfl⟩) hK (hP.sub (ws' := cmW Y h ad K) [11, 12, 13, 14, 15, 16, 17, 18] rfl) 0 rfl rfl rfl hl.1 rfl (Nat.le_of_ble_eq_true rfl) dX6_prunes_5 ⟨Nat.zero_le _, Nat.zero_le _⟩ ?_
  refine z_ifb_eq (tgt := 21) hx hb dX6_prunes_8 (by decide) (fun c_1 => ?_) (fun c_1 => ?_)
  · skip
    have c_1 := of_decide_eq_false c_1
    refine z_iconst hx hb dX6_prunes_21 ?_
    refine z_top (show (-1) = rPrunes K a b from ?_) ?_
    · unfold rPrunes; (repeat' split) <;> first | rfl | omega | (simp_all; done)
    have ef : fPrunes K a b = false := decide_eq_false (by omega)
    have hP9 : va_P G vwCl (svO Y hv h7 h hto h3 h4 h5 h6 im ik ++ opW Y h3 kn hk nx sz ix adk Kk h ad K (fPrunes K a b) (kS K 2 a.toNat (max (K 2 a.toNat - b) 0))) H := by rw [ef]; exact hP.sub [0, 1, 2, 3, 4, 5, 6, 7, 8, 9, 10, 11, 12, 13, 14, 15, 16, 17, 18] rfl
    exact W.iret (v := iZ (rPrunes K a b)) hx hb hr (fun t9 ht9 _ => ⟨rfl, by rw [ht9]; exact hP9, hS.F ht9⟩) hS.2.2 dX6_prunes_22
  · skip
    have c_1 := of_decide_eq_true c_1
    refine lv_iload_n hx hb dX6_prunes_11 rfl (lv_at hl 2 rfl) ?_
    refine z_iconst hx hb dX6_prunes_12 ?_
    refine z_bipush hx hb dX6_prunes_13 (by decide) ?_
    refine ro_S (As := [.int (iZ b), .int (iZ 1), .int (iZ 20)]) (rest := []) ⟨hx, hb, hml, hown, hts⟩ (c_X6_isWithin l G Y b 1 20 (by omega)) (cwS 3 hts gX6_prunes_X6_isWithin rfl rfl rfl (by decide +kernel) ⟨Nat.le_of_ble_eq_true rfl, Nat.le_of_ble_eq_true rfl⟩) hK (hP.sub (ws' := []) [] rfl) rfl hl.1 rfl (Nat.le_of_ble_eq_true rfl) dX6_prunes_15 ⟨Nat.zero_le _, Nat.zero_le _⟩ ?_
    refine z_ifb_ne (tgt := 23) hx hb dX6_prunes_18 (by decide) (fun c_2 => ?_) (fun c_2 => ?_)
    · skip
      have c_2 := of_decide_eq_true c_2
      obtain ⟨t9, ht9⟩ : ∃ t9 : Nat, a = ((t9 : Nat) : Int) := ⟨a.toNat, by omega⟩
      have ht9t : a.toNat = t9 := by omega
      rw [ht9] at hl
      refine lv_aload_n hx hb dX6_prunes_23 rfl (lv_at hl 0 rfl) ?_
      refine va_get (D := G) (ci := 6) (v := .ref h3) (C := RX6) (T := TX6) (N := 9) hx hb hts hFX6 hown hK.1 hP 0 rfl rfl 3 (by decide) kf29 (fun _ h9 => h9) rfl dX6_prunes_24 ?_
      refine lv_aload_n hx hb dX6_prunes_27 rfl (lv_at hl 0 rfl) ?_
      refine va_get (D := G) (ci := 6) (v := .ref h) (C := RX6) (T := TX6) (N := 9) hx hb hts hFX6 hown hK.1 hP 0 rfl rfl 1 (by decide) kf19 (fun _ h9 => h9) rfl dX6_prunes_28 ?_
      have hP := hP.sub (ws' := [(h3, .inr (2, [.ref kn, .int (iZ nx), .int (iZ sz)])), (kn, .inl (Y 3, 10, .inr (.inr (.inr (.inr (aR hk)))))), (hk ix, .inr (0, [.int (iZ (Kk 0 0)), .int (iZ (Kk 0 1)), .int (iZ (Kk 0 2)), .int (iZ (Kk 0 3)), .int (iZ (Kk 0 4)), .int (iZ (Kk 0 5)), .int (iZ (Kk 0 6)), .ref (adk 1), .ref (adk 2), .ref (adk 3), .ref (adk 4), .ref (adk 5), .ref (adk 6), .ref (adk 7)])), (adk 1, .inl (Y 0, 6, .inl (aI (Kk 1)))), (adk 2, .inl (Y 0, 6, .inl (aI (Kk 2)))), (adk 3, .inl (Y 0, 6, .inl (aI (Kk 3)))), (adk 4, .inl (Y 1, 6, .inl (aI (Kk 4)))), (adk 5, .inl (Y 1, 6, .inl (aI (Kk 5)))), (adk 6, .inl (Y 0, 7, .inl (aI (Kk 6)))), (adk 7, .inl (Y 0, 7, .inl (aI (Kk 7)))), (h, .inr (0, [.int (iZ (K 0 0)), .int (iZ (K 0 1)), .int (iZ (K 0 2)), .int (iZ (K 0 3)), .int (iZ (K 0 4)), .int (iZ (K 0 5)), .int (iZ (K 0 6)), .ref (ad 1), .ref (ad 2), .ref (ad 3), .ref (ad 4), .ref (ad 5), .ref (ad 6), .ref (ad 7)])), (ad 1, .inl (Y 0, 6, .inl (aI (K 1)))), (ad 2, .inl (Y 0, 6, .inl (aI (K 2)))), (ad 3, .inl (Y 0, 6, .inl (aI (K 3)))), (ad 4, .inl (Y 1, 6, .inl (aI (K 4)))), (ad 5, .inl (Y 1, 6, .inl (aI (K 5)))), (ad 6, .inl (Y 0, 7, .inl (aI (K 6)))), (ad 7, .inl (Y 0, 7, .inl (aI (K 7))))] ++ [(hv, .inr (6, [.ref h7, .ref h, .ref hto, .ref h3, .ref h4, .ref h5, .ref h6, .ref im, .ref ik]))]) [1, 2, 3, 4, 5, 6, 7, 8, 9, 10, 11, 12, 13, 14, 15, 16, 17, 18, 0] rfl
      have hD := hD.sub (ws' := [(h3, .inr (2, [.ref kn, .int (iZ nx), .int (iZ sz)])), (kn, .inl (Y 3, 10, .inr (.inr (.inr (.inr (aR hk)))))), (hk ix, .inr (0, [.int (iZ (Kk 0 0)), .int (iZ (Kk 0 1)), .int (iZ (Kk 0 2)), .int (iZ (Kk 0 3)), .int (iZ (Kk 0 4)), .int (iZ (Kk 0 5)), .int (iZ (Kk 0 6)), .ref (adk 1), .ref (adk 2), .ref (adk 3), .ref (adk 4), .ref (adk 5), .ref (adk 6), .ref (adk 7)])), (adk 1, .inl (Y 0, 6, .inl (aI (Kk 1)))), (adk 2, .inl (Y 0, 6, .inl (aI (Kk 2)))), (adk 3, .inl (Y 0, 6, .inl (aI (Kk 3)))), (adk 4, .inl (Y 1, 6, .inl (aI (Kk 4)))), (adk 5, .inl (Y 1, 6, .inl (aI (Kk 5)))), (adk 6, .inl (Y 0, 7, .inl (aI (Kk 6)))), (adk 7, .inl (Y 0, 7, .inl (aI (Kk 7)))), (h, .inr (0, [.int (iZ (K 0 0)), .int (iZ (K 0 1)), .int (iZ (K 0 2)), .int (iZ (K 0 3)), .int (iZ (K 0 4)), .int (iZ (K 0 5)), .int (iZ (K 0 6)), .ref (ad 1), .ref (ad 2), .ref (ad 3), .ref (ad 4), .ref (ad 5), .ref (ad 6), .ref (ad 7)])), (ad 1, .inl (Y 0, 6, .inl (aI (K 1)))), (ad 2, .inl (Y 0, 6, .inl (aI (K 2)))), (ad 3, .inl (Y 0, 6, .inl (aI (K 3)))), (ad 4, .inl (Y 1, 6, .inl (aI (K 4)))), (ad 5, .inl (Y 1, 6, .inl (aI (K 5)))), (ad 6, .inl (Y 0, 7, .inl (aI (K 6)))), (ad 7, .inl (Y 0, 7, .inl (aI (K 7))))] ++ [(hv, .inr (6, [.ref h7, .ref h, .ref hto, .ref h3, .ref h4, .ref h5, .ref h6, .ref im, .ref ik]))]) [1, 2, 3, 4, 5, 6, 7, 8, 9, 10, 11, 12, 13, 14, 15, 16, 17, 18, 0] (by decide) rfl
      refine mu_V (As := [.ref h]) (rest := []) (wc := [(h3, .inr (2, [.ref kn, .int (iZ nx), .int (iZ sz)])), (kn, .inl (Y 3, 10, .inr (.inr (.inr (.inr (aR hk)))))), (hk ix, .inr (0, [.int (iZ (Kk 0 0)), .int (iZ (Kk 0 1)), .int (iZ (Kk 0 2)), .int (iZ (Kk 0 3)), .int (iZ (Kk 0 4)), .int (iZ (Kk 0 5)), .int (iZ (Kk 0 6)), .ref (adk 1), .ref (adk 2), .ref (adk 3), .ref (adk 4), .ref (adk 5), .ref (adk 6), .ref (adk 7)])), (adk 1, .inl (Y 0, 6, .inl (aI (Kk 1)))), (adk 2, .inl (Y 0, 6, .inl (aI (Kk 2)))), (adk 3, .inl (Y 0, 6, .inl (aI (Kk 3)))), (adk 4, .inl (Y 1, 6, .inl (aI (Kk 4)))), (adk 5, .inl (Y 1, 6, .inl (aI (Kk 5)))), (adk 6, .inl (Y 0, 7, .inl (aI (Kk 6)))), (adk 7, .inl (Y 0, 7, .inl (aI (Kk 7)))), (h, .inr (0, [.int (iZ (K 0 0)), .int (iZ (K 0 1)), .int (iZ (K 0 2)), .int (iZ (K 0 3)), .int (iZ (K 0 4)), .int (iZ (K 0 5)), .int (iZ (K 0 6)), .ref (ad 1), .ref (ad 2), .ref (ad 3), .ref (ad 4), .ref (ad 5), .ref (ad 6), .ref (ad 7)])), (ad 1, .inl (Y 0, 6, .inl (aI (K 1)))), (ad 2, .inl (Y 0, 6, .inl (aI (K 2)))), (ad 3, .inl (Y 0, 6, .inl (aI (K 3)))), (ad 4, .inl (Y 1, 6, .inl (aI (K 4)))), (ad 5, .inl (Y 1, 6, .inl (aI (K 5)))), (ad 6, .inl (Y 0, 7, .inl (aI (K 6)))), (ad 7, .inl (Y 0, 7, .inl (aI (K 7))))]) (wc' := paW Y h3 kn hk ((nx + 1) % 10) (min (sz + 1) 10) ++ (cmW Y (hk ix) adk K ++ cmW Y h ad K)) (F := [(hv, .inr (6, [.ref h7, .ref h, .ref hto, .ref h3, .ref h4, .ref h5, .ref h6, .ref im, .ref ik]))]) ⟨hx, hb, hml, hown, hts⟩ (c_X2_remember l G Y h3 kn hk nx sz ix adk Kk h ad K hW (by omega)) (cwV 1 hts gX6_prunes_X2_remember rfl rfl rfl (by decide +kernel) ⟨Nat.le_of_ble_eq_true rfl, Nat.le_of_ble_eq_true rfl⟩) hK hP hD hS 0 rfl rfl (Eq.refl [h3, kn, hk ix, adk 1, adk 2, adk 3, adk 4, adk 5, adk 6, adk 7, h, ad 1, ad 2, ad 3, ad 4, ad 5, ad 6, ad 7]) rfl hl.1 rfl (Nat.le_of_ble_eq_true rfl) dX6_prunes_31 ⟨Nat.zero_le _, Nat.zero_le _⟩ (fun H locs hP hD hS => ?_)
      show W _ _ _ _ _ _ _ _ _ _ _ _ _ _ _ (F0 _ _ _ [])
      replace hP : va_P G vwCl [(h3, .inr (2, [.ref kn, .int (iZ ((nx + 1) % 10)), .int (iZ (min (sz + 1) 10))])), (kn, .inl (Y 3, 10, .inr (.inr (.inr (.inr (aR hk)))))), (hk ix, .inr (0, [.int (iZ (K 0 0)), .int (iZ (K 0 1)), .int (iZ (K 0 2)), .int (iZ (K 0 3)), .int (iZ (K 0 4)), .int (iZ (K 0 5)), .int (iZ (K 0 6)), .ref (adk 1), .ref (adk 2), .ref (adk 3), .ref (adk 4), .ref (adk 5), .ref (adk 6), .ref (adk 7)])), (adk 1, .inl (Y 0, 6, .inl (aI (K 1)))), (adk 2, .inl (Y 0, 6, .inl (aI (K 2)))), (adk 3, .inl (Y 0, 6, .inl (aI (K 3)))), (adk 4, .inl (Y 1, 6, .inl (aI (K 4)))), (adk 5, .inl (Y 1, 6, .inl (aI (K 5)))), (adk 6, .inl (Y 0, 7, .inl (aI (K 6)))), (adk 7, .inl (Y 0, 7, .inl (aI (K 7)))), (h, .inr (0, [.int (iZ (K 0 0)), .int (iZ (K 0 1)), .int (iZ (K 0 2)), .int (iZ (K 0 3)), .int (iZ (K 0 4)), .int (iZ (K 0 5)), .int (iZ (K 0 6)), .ref (ad 1), .ref (ad 2), .ref (ad 3), .ref (ad 4), .ref (ad 5), .ref (ad 6), .ref (ad 7)])), (ad 1, .inl (Y 0, 6, .inl (aI (K 1)))), (ad 2, .inl (Y 0, 6, .inl (aI (K 2)))), (ad 3, .inl (Y 0, 6, .inl (aI (K 3)))), (ad 4, .inl (Y 1, 6, .inl (aI (K 4)))), (ad 5, .inl (Y 1, 6, .inl (aI (K 5)))), (ad 6, .inl (Y 0, 7, .inl (aI (K 6)))), (ad 7, .inl (Y 0, 7, .inl (aI (K 7)))), (hv, .inr (6, [.ref h7, .ref h, .ref hto, .ref h3, .ref h4, .ref h5, .ref h6, .ref im, .ref ik]))] H := hP
      replace hD : va_D _ [(h3, .inr (2, [.ref kn, .int (iZ ((nx + 1) % 10)), .int (iZ (min (sz + 1) 10))])), (kn, .inl (Y 3, 10, .inr (.inr (.inr (.inr (aR hk)))))), (hk ix, .inr (0, [.int (iZ (K 0 0)), .int (iZ (K 0 1)), .int (iZ (K 0 2)), .int (iZ (K 0 3)), .int (iZ (K 0 4)), .int (iZ (K 0 5)), .int (iZ (K 0 6)), .ref (adk 1), .ref (adk 2), .ref (adk 3), .ref (adk 4), .ref (adk 5), .ref (adk 6), .ref (adk 7)])), (adk 1, .inl (Y 0, 6, .inl (aI (K 1)))), (adk 2, .inl (Y 0, 6, .inl (aI (K 2)))), (adk 3, .inl (Y 0, 6, .inl (aI (K 3)))), (adk 4, .inl (Y 1, 6, .inl (aI (K 4)))), (adk 5, .inl (Y 1, 6, .inl (aI (K 5)))), (adk 6, .inl (Y 0, 7, .inl (aI (K 6)))), (adk 7, .inl (Y 0, 7, .inl (aI (K 7)))), (h, .inr (0, [.int (iZ (K 0 0)), .int (iZ (K 0 1)), .int (iZ (K 0 2)), .int (iZ (K 0 3)), .int (iZ (K 0 4)), .int (iZ (K 0 5)), .int (iZ (K 0 6)), .ref (ad 1), .ref (ad 2), .ref (ad 3), .ref (ad 4), .ref (ad 5), .ref (ad 6), .ref (ad 7)])), (ad 1, .inl (Y 0, 6, .inl (aI (K 1)))), (ad 2, .inl (Y 0, 6, .inl (aI (K 2)))), (ad 3, .inl (Y 0, 6, .inl (aI (K 3)))), (ad 4, .inl (Y 1, 6, .inl (aI (K 4)))), (ad 5, .inl (Y 1, 6, .inl (aI (K 5)))), (ad 6, .inl (Y 0, 7, .inl (aI (K 6)))), (ad 7, .inl (Y 0, 7, .inl (aI (K 7)))), (hv, .inr (6, [.ref h7, .ref h, .ref hto, .ref h3, .ref h4, .ref h5, .ref h6, .ref im, .ref ik]))] := hD
      refine lv_aload_n hx hb dX6_prunes_34 rfl (lv_at hl 0 rfl) ?_
      refine va_get (D := G) (ci := 6) (v := .ref h) (C := RX6) (T := TX6) (N := 9) hx hb hts hFX6 hown hK.1 hP 18 rfl rfl 1 (by decide) kf19 (fun _ h9 => h9) rfl dX6_prunes_35 ?_
      refine lv_iload_n hx hb dX6_prunes_38 rfl (lv_at hl 1 rfl) ?_
      refine lv_iload_n hx hb dX6_prunes_39 rfl (lv_at hl 2 rfl) ?_
      have hP := hP.sub (ws' := [(h, .inr (0, [.int (iZ (K 0 0)), .int (iZ (K 0 1)), .int (iZ (K 0 2)), .int (iZ (K 0 3)), .int (iZ (K 0 4)), .int (iZ (K 0 5)), .int (iZ (K 0 6)), .ref (ad 1), .ref (ad 2), .ref (ad 3), .ref (ad 4), .ref (ad 5), .ref (ad 6), .ref (ad 7)])), (ad 1, .inl (Y 0, 6, .inl (aI (K 1)))), (ad 2, .inl (Y 0, 6, .inl (aI (K 2)))), (ad 3, .inl (Y 0, 6, .inl (aI (K 3)))), (ad 4, .inl (Y 1, 6, .inl (aI (K 4)))), (ad 5, .inl (Y 1, 6, .inl (aI (K 5)))), (ad 6, .inl (Y 0, 7, .inl (aI (K 6)))), (ad 7, .inl (Y 0, 7, .inl (aI (K 7))))] ++ [(h3, .inr (2, [.ref kn, .int (iZ ((nx + 1) % 10)), .int (iZ (min (sz + 1) 10))])), (kn, .inl (Y 3, 10, .inr (.inr (.inr (.inr (aR hk)))))), (hk ix, .inr (0, [.int (iZ (K 0 0)), .int (iZ (K 0 1)), .int (iZ (K 0 2)), .int (iZ (K 0 3)), .int (iZ (K 0 4)), .int (iZ (K 0 5)), .int (iZ (K 0 6)), .ref (adk 1), .ref (adk 2), .ref (adk 3), .ref (adk 4), .ref (adk 5), .ref (adk 6), .ref (adk 7)])), (adk 1, .inl (Y 0, 6, .inl (aI (K 1)))), (adk 2, .inl (Y 0, 6, .inl (aI (K 2)))), (adk 3, .inl (Y 0, 6, .inl (aI (K 3)))), (adk 4, .inl (Y 1, 6, .inl (aI (K 4)))), (adk 5, .inl (Y 1, 6, .inl (aI (K 5)))), (adk 6, .inl (Y 0, 7, .inl (aI (K 6)))), (adk 7, .inl (Y 0, 7, .inl (aI (K 7)))), (hv, .inr (6, [.ref h7, .ref h, .ref hto, .ref h3, .ref h4, .ref h5, .ref h6, .ref im, .ref ik]))]) [10, 11, 12, 13, 14, 15, 16, 17, 0, 1, 2, 3, 4, 5, 6, 7, 8, 9, 18] rfl
      have hD := hD.sub (ws' := [(h, .inr (0, [.int (iZ (K 0 0)), .int (iZ (K 0 1)), .int (iZ (K 0 2)), .int (iZ (K 0 3)), .int (iZ (K 0 4)), .int (iZ (K 0 5)), .int (iZ (K 0 6)), .ref (ad 1), .ref (ad 2), .ref (ad 3), .ref (ad 4), .ref (ad 5), .ref (ad 6), .ref (ad 7)])), (ad 1, .inl (Y 0, 6, .inl (aI (K 1)))), (ad 2, .inl (Y 0, 6, .inl (aI (K 2)))), (ad 3, .inl (Y 0, 6, .inl (aI (K 3)))), (ad 4, .inl (Y 1, 6, .inl (aI (K 4)))), (ad 5, .inl (Y 1, 6, .inl (aI (K 5)))), (ad 6, .inl (Y 0, 7, .inl (aI (K 6)))), (ad 7, .inl (Y 0, 7, .inl (aI (K 7))))] ++ [(h3, .inr (2, [.ref kn, .int (iZ ((nx + 1) % 10)), .int (iZ (min (sz + 1) 10))])), (kn, .inl (Y 3, 10, .inr (.inr (.inr (.inr (aR hk)))))), (hk ix, .inr (0, [.int (iZ (K 0 0)), .int (iZ (K 0 1)), .int (iZ (K 0 2)), .int (iZ (K 0 3)), .int (iZ (K 0 4)), .int (iZ (K 0 5)), .int (iZ (K 0 6)), .ref (adk 1), .ref (adk 2), .ref (adk 3), .ref (adk 4), .ref (adk 5), .ref (adk 6), .ref (adk 7)])), (adk 1, .inl (Y 0, 6, .inl (aI (K 1)))), (adk 2, .inl (Y 0, 6, .inl (aI (K 2)))), (adk 3, .inl (Y 0, 6, .inl (aI (K 3)))), (adk 4, .inl (Y 1, 6, .inl (aI (K 4)))), (adk 5, .inl (Y 1, 6, .inl (aI (K 5)))), (adk 6, .inl (Y 0, 7, .inl (aI (K 6)))), (adk 7, .inl (Y 0, 7, .inl (aI (K 7)))), (hv, .inr (6, [.ref h7, .ref h, .ref hto, .ref h3, .ref h4, .ref h5, .ref h6, .ref im, .ref ik]))]) [10, 11, 12, 13, 14, 15, 16, 17, 0, 1, 2, 3, 4, 5, 6, 7, 8, 9, 18] (by decide) rfl
      refine mu_V (As := [.int (iZ ((t9 : Nat) : Int)), .int (iZ b)]) (rest := []) (wc := [(h, .inr (0, [.int (iZ (K 0 0)), .int (iZ (K 0 1)), .int (iZ (K 0 2)), .int (iZ (K 0 3)), .int (iZ (K 0 4)), .int (iZ (K 0 5)), .int (iZ (K 0 6)), .ref (ad 1), .ref (ad 2), .ref (ad 3), .ref (ad 4), .ref (ad 5), .ref (ad 6), .ref (ad 7)])), (ad 1, .inl (Y 0, 6, .inl (aI (K 1)))), (ad 2, .inl (Y 0, 6, .inl (aI (K 2)))), (ad 3, .inl (Y 0, 6, .inl (aI (K 3)))), (ad 4, .inl (Y 1, 6, .inl (aI (K 4)))), (ad 5, .inl (Y 1, 6, .inl (aI (K 5)))), (ad 6, .inl (Y 0, 7, .inl (aI (K 6)))), (ad 7, .inl (Y 0, 7, .inl (aI (K 7))))]) (wc' := cmW Y h ad (kS K 2 t9 (max (K 2 t9 - b) 0))) (F := [(h3, .inr (2, [.ref kn, .int (iZ ((nx + 1) % 10)), .int (iZ (min (sz + 1) 10))])), (kn, .inl (Y 3, 10, .inr (.inr (.inr (.inr (aR hk)))))), (hk ix, .inr (0, [.int (iZ (K 0 0)), .int (iZ (K 0 1)), .int (iZ (K 0 2)), .int (iZ (K 0 3)), .int (iZ (K 0 4)), .int (iZ (K 0 5)), .int (iZ (K 0 6)), .ref (adk 1), .ref (adk 2), .ref (adk 3), .ref (adk 4), .ref (adk 5), .ref (adk 6), .ref (adk 7)])), (adk 1, .inl (Y 0, 6, .inl (aI (K 1)))), (adk 2, .inl (Y 0, 6, .inl (aI (K 2)))), (adk 3, .inl (Y 0, 6, .inl (aI (K 3)))), (adk 4, .inl (Y 1, 6, .inl (aI (K 4)))), (adk 5, .inl (Y 1, 6, .inl (aI (K 5)))), (adk 6, .inl (Y 0, 7, .inl (aI (K 6)))), (adk 7, .inl (Y 0, 7, .inl (aI (K 7)))), (hv, .inr (6, [.ref h7, .ref h, .ref hto, .ref h3, .ref h4, .ref h5, .ref h6, .ref im, .ref ik]))]) ⟨hx, hb, hml, hown, hts⟩ (c_X0_lower l G Y h ad K hW t9 b (by omega)) (cwV 2 hts gX6_prunes_X0_lower rfl rfl rfl (by decide +kernel) ⟨Nat.le_of_ble_eq_true rfl, Nat.le_of_ble_eq_true rfl⟩) hK hP hD hS 0 rfl rfl (Eq.refl [h, ad 1, ad 2, ad 3, ad 4, ad 5, ad 6, ad 7]) rfl hl.1 rfl (Nat.le_of_ble_eq_true rfl) dX6_prunes_40 ⟨Nat.zero_le _, Nat.zero_le _⟩ (fun H locs hP hD hS => ?_)
      show W _ _ _ _ _ _ _ _ _ _ _ _ _ _ _ (F0 _ _ _ [])
      replace hP : va_P G vwCl [(h, .inr (0, [.int (iZ ((kS K 2 t9 (max (K 2 t9 - b) 0)) 0 0)), .int (iZ ((kS K 2 t9 (max (K 2 t9 - b) 0)) 0 1)), .int (iZ ((kS K 2 t9 (max (K 2 t9 - b) 0)) 0 2)), .int (iZ ((kS K 2 t9 (max (K 2 t9 - b) 0)) 0 3)), .int (iZ ((kS K 2 t9 (max (K 2 t9 - b) 0)) 0 4)), .int (iZ ((kS K 2 t9 (max (K 2 t9 - b) 0)) 0 5)), .int (iZ ((kS K 2 t9 (max (K 2 t9 - b) 0)) 0 6)), .ref (ad 1), .ref (ad 2), .ref (ad 3), .ref (ad 4), .ref (ad 5), .ref (ad 6), .ref (ad 7)])), (ad 1, .inl (Y 0, 6, .inl (aI ((kS K 2 t9 (max (K 2 t9 - b) 0)) 1)))), (ad 2, .inl (Y 0, 6, .inl (aI ((kS K 2 t9 (max (K 2 t9 - b) 0)) 2)))), (ad 3, .inl (Y 0, 6, .inl (aI ((kS K 2 t9 (max (K 2 t9 - b) 0)) 3)))), (ad 4, .inl (Y 1, 6, .inl (aI ((kS K 2 t9 (max (K 2 t9 - b) 0)) 4)))), (ad 5, .inl (Y 1, 6, .inl (aI ((kS K 2 t9 (max (K 2 t9 - b) 0)) 5)))), (ad 6, .inl (Y 0, 7, .inl (aI ((kS K 2 t9 (max (K 2 t9 - b) 0)) 6)))), (ad 7, .inl (Y 0, 7, .inl (aI ((kS K 2 t9 (max (K 2 t9 - b) 0)) 7)))), (h3, .inr (2, [.ref kn, .int (iZ ((nx + 1) % 10)), .int (iZ (min (sz + 1) 10))])), (kn, .inl (Y 3, 10, .inr (.inr (.inr (.inr (aR hk)))))), (hk ix, .inr (0, [.int (iZ (K 0 0)), .int (iZ (K 0 1)), .int (iZ (K 0 2)), .int (iZ (K 0 3)), .int (iZ (K 0 4)), .int (iZ (K 0 5)), .int (iZ (K 0 6)), .ref (adk 1), .ref (adk 2), .ref (adk 3), .ref (adk 4), .ref (adk 5), .ref (adk 6), .ref (adk 7)])), (adk 1, .inl (Y 0, 6, .inl (aI (K 1)))), (adk 2, .inl (Y 0, 6, .inl (aI (K 2)))), (adk 3, .inl (Y 0, 6, .inl (aI (K 3)))), (adk 4, .inl (Y 1, 6, .inl (aI (K 4)))), (adk 5, .inl (Y 1, 6, .inl (aI (K 5)))), (adk 6, .inl (Y 0, 7, .inl (aI (K 6)))), (adk 7, .inl (Y 0, 7, .inl (aI (K 7)))), (hv, .inr (6, [.ref h7, .ref h, .ref hto, .ref h3, .ref h4, .ref h5, .ref h6, .ref im, .ref ik]))] H := hP
      replace hD : va_D _ [(h, .inr (0, [.int (iZ ((kS K 2 t9 (max (K 2 t9 - b) 0)) 0 0)), .int (iZ ((kS K 2 t9 (max (K 2 t9 - b) 0)) 0 1)), .int (iZ ((kS K 2 t9 (max (K 2 t9 - b) 0)) 0 2)), .int (iZ ((kS K 2 t9 (max (K 2 t9 - b) 0)) 0 3)), .int (iZ ((kS K 2 t9 (max (K 2 t9 - b) 0)) 0 4)), .int (iZ ((kS K 2 t9 (max (K 2 t9 - b) 0)) 0 5)), .int (iZ ((kS K 2 t9 (max (K 2 t9 - b) 0)) 0 6)), .ref (ad 1), .ref (ad 2), .ref (ad 3), .ref (ad 4), .ref (ad 5), .ref (ad 6), .ref (ad 7)])), (ad 1, .inl (Y 0, 6, .inl (aI ((kS K 2 t9 (max (K 2 t9 - b) 0)) 1)))), (ad 2, .inl (Y 0, 6, .inl (aI ((kS K 2 t9 (max (K 2 t9 - b) 0)) 2)))), (ad 3, .inl (Y 0, 6, .inl (aI ((kS K 2 t9 (max (K 2 t9 - b) 0)) 3)))), (ad 4, .inl (Y 1, 6, .inl (aI ((kS K 2 t9 (max (K 2 t9 - b) 0)) 4)))), (ad 5, .inl (Y 1, 6, .inl (aI ((kS K 2 t9 (max (K 2 t9 - b) 0)) 5)))), (ad 6, .inl (Y 0, 7, .inl (aI ((kS K 2 t9 (max (K 2 t9 - b) 0)) 6)))), (ad 7, .inl (Y 0, 7, .inl (aI ((kS K 2 t9 (max (K 2 t9 - b) 0)) 7)))), (h3, .inr (2, [.ref kn, .int (iZ ((nx + 1) % 10)), .int (iZ (min (sz + 1) 10))])), (kn, .inl (Y 3, 10, .inr (.inr (.inr (.inr (aR hk)))))), (hk ix, .inr (0, [.int (iZ (K 0 0)), .int (iZ (K 0 1)), .int (iZ (K 0 2)), .int (iZ (K 0 3)), .int (iZ (K 0 4)), .int (iZ (K 0 5)), .int (iZ (K 0 6)), .ref (adk 1), .ref (adk 2), .ref (adk 3), .ref (adk 4), .ref (adk 5), .ref (adk 6), .ref (adk 7)])), (adk 1, .inl (Y 0, 6, .inl (aI (K 1)))), (adk 2, .inl (Y 0, 6, .inl (aI (K 2)))), (adk 3, .inl (Y 0, 6, .inl (aI (K 3)))), (adk 4, .inl (Y 1, 6, .inl (aI (K 4)))), (adk 5, .inl (Y 1, 6, .inl (aI (K 5)))), (adk 6, .inl (Y 0, 7, .inl (aI (K 6)))), (adk 7, .inl (Y 0, 7, .inl (aI (K 7)))), (hv, .inr (6, [.ref h7, .ref h, .ref hto, .ref h3, .ref h4, .ref h5, .ref h6, .ref im, .ref ik]))] := hD
      refine lv_aload_n hx hb dX6_prunes_43 rfl (lv_at hl 0 rfl) ?_
      refine va_get (D := G) (ci := 6) (v := .ref h) (C := RX6) (T := TX6) (N := 9) hx hb hts hFX6 hown hK.1 hP 18 rfl rfl 1 (by decide) kf19 (fun _ h9 => h9) rfl dX6_prunes_44 ?_
      refine va_get (D := G) (ci := 0) (v := .ref (ad 2)) (C := RX0) (T := TX0) (N := 14) hx hb hts hFX0 hown hK.1 hP 0 rfl rfl 8 (by decide) kf97 (fun _ h9 => h9) rfl dX6_prunes_47 ?_
      refine lv_iload_n hx hb dX6_prunes_50 rfl (lv_at hl 1 rfl) ?_
      refine z_iald hx hb hK.1 hP 2 0 rfl rfl t9 (by omega) (by decide) dX6_prunes_51 ?_
      refine z_top (show ((kS K 2 t9 (max (K 2 t9 - b) 0)) 2) t9 = rPrunes K a b from ?_) ?_
      · unfold rPrunes; rw [if_pos (by omega), ht9t]; exact up_eq _ _ _
      have ef : fPrunes K a b = true := decide_eq_true (by omega)
      have hP9 : va_P G vwCl (svO Y hv h7 h hto h3 h4 h5 h6 im ik ++ opW Y h3 kn hk nx sz ix adk Kk h ad K (fPrunes K a b) (kS K 2 a.toNat (max (K 2 a.toNat - b) 0))) H := by rw [ef, ht9t]; exact hP.sub [18, 8, 9, 10, 11, 12, 13, 14, 15, 16, 17, 0, 1, 2, 3, 4, 5, 6, 7] rfl
      exact W.iret (v := iZ (rPrunes K a b)) hx hb hr (fun t9 ht9 _ => ⟨rfl, by rw [ht9]; exact hP9, hS.F ht9⟩) hS.2.2 dX6_prunes_52
    · skip
      have c_2 := of_decide_eq_false c_2
      refine z_iconst hx hb dX6_prunes_21 ?_
      refine z_top (show (-1) = rPrunes K a b from ?_) ?_
      · unfold rPrunes; (repeat' split) <;> first | rfl | omega | (simp_all; done)
      have ef : fPrunes K a b = false := decide_eq_false (by omega)
      have hP9 : va_P G vwCl (svO Y hv h7 h hto h3 h4 h5 h6 im ik ++ opW Y h3 kn hk nx sz ix adk Kk h ad K (fPrunes K a b) (kS K 2 a.toNat (max (K 2 a.toNat - b) 0))) H := by rw [ef]; exact hP.sub [0, 1, 2, 3, 4, 5, 6, 7, 8, 9, 10, 11, 12, 13, 14, 15, 16, 17, 18] rfl
      exact W.iret (v := iZ (rPrunes K a b)) hx hb hr (fun t9 ht9 _ => ⟨rfl, by rw [ht9]; exact hP9, hS.F ht9⟩) hS.2.2 dX6_prunes_22

set_option maxHeartbeats 4000000 in
set_option maxRecDepth 100000 in
theorem c_X6_grows (l : Launch) (G : va_G) (Y : Nat → ClassId) (hv h7 h hto h3 h4 h5 h6 im ik : Nat) (kn : Nat) (hk : Nat → Nat) (nx sz : Int) (ix : Nat) (adk : Nat → Nat) (Kk : Kom) (ad : Nat → Nat) (K : Kom) (hW : cWF K) (ro : (nx = ix ∧ ix < 10) ∧ 0 ≤ sz ∧ sz ≤ 10)  : Met l yX6_grows wsX6_grows ({ frames := 2, cells := 0, slots := 0, locals := 43 }) (mP G Y [.ref hv] (svO Y hv h7 h hto h3 h4 h5 h6 im ik ++ (paW Y h3 kn hk nx sz ++ (cmW Y (hk ix) adk Kk ++ cmW Y h ad K)))) (mQ G (svO Y hv h7 h hto h3 h4 h5 h6 im ik ++ (paW Y h3 kn hk nx sz ++ (cmW Y (hk ix) adk Kk ++ cmW Y h ad K))) (some (.int (iZ (rGrows K)))) (svO Y hv h7 h hto h3 h4 h5 h6 im ik ++ opW Y h3 kn hk nx sz ix adk Kk h ad K (fGrows K) (kGrows K))) 0 0 (fun q => q ∈ List.map Prod.fst (svO Y hv h7 h hto h3 h4 h5 h6 im ik ++ (paW Y h3 kn hk nx sz ++ (cmW Y (hk ix) adk Kk ++ cmW Y h ad K)))) := by
  refine Met.ofW (cc := cX6_grows) (maxL := 1) (ret := (some .int)) (by decide) rfl ?_
  intro p e s m args below meth c s₁ B hml hv
  obtain ⟨rfl, hK, hP, hD0⟩ := hv
  have hx := B.exec
  have hb := B.bytes
  have hr := B.returns
  have hts := atoms_spec (ws := wsX6_grows) B.pre
  have hown : s.vm.findClass RX6 = some m.cls := findClass_of_methodNamed B.named
  have hlocks := B.notSynchronized
  have hFX0 : ∀ w ∈ wsX00, w ∈ wsX6_grows := by decide +kernel
  have hFX6 : ∀ w ∈ wsX60, w ∈ wsX6_grows := by decide +kernel
  have kf19 := (hts (.fieldLink RX6 19 "ShadeVotes" "present" "LShadeVotes$Commune;") (by decide +kernel))
  have kf139 := (hts (.fieldLink RX6 139 "ShadeVotes$Commune" "day" "I") (by decide +kernel))
  have kf29 := (hts (.fieldLink RX6 29 "ShadeVotes" "past" "LShadeVotes$Past;") (by decide +kernel))
  have hD := va_D_self hD0
  have hS : va_S (fun q => q ∈ List.map Prod.fst (svO Y hv h7 h hto h3 h4 h5 h6 im ik ++ (paW Y h3 kn hk nx sz ++ (cmW Y (hk ix) adk Kk ++ cmW Y h ad K)))) s.heap s.heap [] := va_S.rf
  obtain ⟨H, hHe⟩ : ∃ H, H = s.heap := ⟨_, rfl⟩
  rw [← hHe] at hP
  replace hS : va_S (fun q => q ∈ List.map Prod.fst (svO Y hv h7 h hto h3 h4 h5 h6 im ik ++ (paW Y h3 kn hk nx sz ++ (cmW Y (hk ix) adk Kk ++ cmW Y h ad K)))) s.heap H [] := by rw [hHe]; exact hS
  have hl := lv_entry ([.ref hv]) (n := 1) (Nat.le_of_ble_eq_true rfl)
  rw [lg_entry_eq]
  generalize (lg_sl ([.ref hv]) ++ List.replicate (1 - (lg_sl ([.ref hv])).length) Slot.unset).toArray = ls at hl ⊢
  replace hl : lv_has ls 1 [(0, .ref hv)] := hl
  obtain ⟨locs, hLe⟩ : ∃ locs : List Loc, locs = [] := ⟨_, rfl⟩
  rw [← hLe] at hS ⊢
  have hW0 : ∀ {Q : State → Prop} {g : JFrame}, W p l e ({ frames := 2, cells := 0, slots := 0, locals := 43 }) s m [.ref hv].toArray below meth c H locs 0 0 Q g → W p l e ({ frames := 2, cells := 0, slots := 0, locals := 43 }) s m [.ref hv].toArray below meth c s.heap locs 0 0 Q g := fun h => by rw [← hHe]; exact h
  refine hW0 ?_
  clear hW0 hHe hLe
  have h0 := hW.1
  have hnc := hW.nc
  refine lv_aload_n hx hb dX6_grows_0 rfl (lv_at hl 0 rfl) ?_
  refine va_get (D := G) (ci := 6) (v := .ref h) (C := RX6) (T := TX6) (N := 9) hx hb hts hFX6 hown hK.1 hP 0 rfl rfl 1 (by decide) kf19 (fun _ h9 => h9) rfl dX6_grows_1 ?_
  refine va_get (D := G) (ci := 0) (v := .int (iZ (K 0 5))) (C := RX0) (T := TX0) (N := 14) hx hb hts hFX0 hown hK.1 hP 11 rfl rfl 5 (by decide) kf139 (fun _ h9 => h9) rfl dX6_grows_4 ?_
  refine z_sipush hx hb dX6_grows_7 (by decide) ?_
  refine z_icmp_lt (tgt := 16) hx hb dX6_grows_10 (by decide) (by omega) (fun c_1 => ?_) (fun c_1 => ?_)
  · skip
    refine lv_aload_n hx hb dX6_grows_16 rfl (lv_at hl 0 rfl) ?_
    refine va_get (D := G) (ci := 6) (v := .ref h3) (C := RX6) (T := TX6) (N := 9) hx hb hts hFX6 hown hK.1 hP 0 rfl rfl 3 (by decide) kf29 (fun _ h9 => h9) rfl dX6_grows_17 ?_
    refine lv_aload_n hx hb dX6_grows_20 rfl (lv_at hl 0 rfl) ?_
    refine va_get (D := G) (ci := 6) (v := .ref h) (C := RX6) (T := TX6) (N := 9) hx hb hts hFX6 hown hK.1 hP 0 rfl rfl 1 (by decide) kf19 (fun _ h9 => h9) rfl dX6_grows_21 ?_
    have hP := hP.sub (ws' := [(h3, .inr (2, [.ref kn, .int (iZ nx), .int (iZ sz)])), (kn, .inl (Y 3, 10, .inr (.inr (.inr (.inr (aR hk)))))), (hk ix, .inr (0, [.int (iZ (Kk 0 0)), .int (iZ (Kk 0 1)), .int (iZ (Kk 0 2)), .int (iZ (Kk 0 3)), .int (iZ (Kk 0 4)), .int (iZ (Kk 0 5)), .int (iZ (Kk 0 6)), .ref (adk 1), .ref (adk 2), .ref (adk 3), .ref (adk 4), .ref (adk 5), .ref (adk 6), .ref (adk 7)])), (adk 1, .inl (Y 0, 6, .inl (aI (Kk 1)))), (adk 2, .inl (Y 0, 6, .inl (aI (Kk 2)))), (adk 3, .inl (Y 0, 6, .inl (aI (Kk 3)))), (adk 4, .inl (Y 1, 6, .inl (aI (Kk 4)))), (adk 5, .inl (Y 1, 6, .inl (aI (Kk 5)))), (adk 6, .inl (Y 0, 7, .inl (aI (Kk 6)))), (adk 7, .inl (Y 0, 7, .inl (aI (Kk 7)))), (h, .inr (0, [.int (iZ (K 0 0)), .int (iZ (K 0 1)), .int (iZ (K 0 2)), .int (iZ (K 0 3)), .int (iZ (K 0 4)), .int (iZ (K 0 5)), .int (iZ (K 0 6)), .ref (ad 1), .ref (ad 2), .ref (ad 3), .ref (ad 4), .ref (ad 5), .ref (ad 6), .ref (ad 7)])), (ad 1, .inl (Y 0, 6, .inl (aI (K 1)))), (ad 2, .inl (Y 0, 6, .inl (aI (K 2)))), (ad 3, .inl (Y 0, 6, .inl (aI (K 3)))), (ad 4, .inl (Y 1, 6, .inl (aI (K 4)))), (ad 5, .inl (Y 1, 6, .inl (aI (K 5)))), (ad 6, .inl (Y 0, 7, .inl (aI (K 6)))), (ad 7, .inl (Y 0, 7, .inl (aI (K 7))))] ++ [(hv, .inr (6, [.ref h7, .ref h, .ref hto, .ref h3, .ref h4, .ref h5, .ref h6, .ref im, .ref ik]))]) [1, 2, 3, 4, 5, 6, 7, 8, 9, 10, 11, 12, 13, 14, 15, 16, 17, 18, 0] rfl
    have hD := hD.sub (ws' := [(h3, .inr (2, [.ref kn, .int (iZ nx), .int (iZ sz)])), (kn, .inl (Y 3, 10, .inr (.inr (.inr (.inr (aR hk)))))), (hk ix, .inr (0, [.int (iZ (Kk 0 0)), .int (iZ (Kk 0 1)), .int (iZ (Kk 0 2)), .int (iZ (Kk 0 3)), .int (iZ (Kk 0 4)), .int (iZ (Kk 0 5)), .int (iZ (Kk 0 6)), .ref (adk 1), .ref (adk 2), .ref (adk 3), .ref (adk 4), .ref (adk 5), .ref (adk 6), .ref (adk 7)])), (adk 1, .inl (Y 0, 6, .inl (aI (Kk 1)))), (adk 2, .inl (Y 0, 6, .inl (aI (Kk 2)))), (adk 3, .inl (Y 0, 6, .inl (aI (Kk 3)))), (adk 4, .inl (Y 1, 6, .inl (aI (Kk 4)))), (adk 5, .inl (Y 1, 6, .inl (aI (Kk 5)))), (adk 6, .inl (Y 0, 7, .inl (aI (Kk 6)))), (adk 7, .inl (Y 0, 7, .inl (aI (Kk 7)))), (h, .inr (0, [.int (iZ (K 0 0)), .int (iZ (K 0 1)), .int (iZ (K 0 2)), .int (iZ (K 0 3)), .int (iZ (K 0 4)), .int (iZ (K 0 5)), .int (iZ (K 0 6)), .ref (ad 1), .ref (ad 2), .ref (ad 3), .ref (ad 4), .ref (ad 5), .ref (ad 6), .ref (ad 7)])), (ad 1, .inl (Y 0, 6, .inl (aI (K 1)))), (ad 2, .inl (Y 0, 6, .inl (aI (K 2)))), (ad 3, .inl (Y 0, 6, .inl (aI (K 3)))), (ad 4, .inl (Y 1, 6, .inl (aI (K 4)))), (ad 5, .inl (Y 1, 6, .inl (aI (K 5)))), (ad 6, .inl (Y 0, 7, .inl (aI (K 6)))), (ad 7, .inl (Y 0, 7, .inl (aI (K 7))))] ++ [(hv, .inr (6, [.ref h7, .ref h, .ref hto, .ref h3, .ref h4, .ref h5, .ref h6, .ref im, .ref ik]))]) [1, 2, 3, 4, 5, 6, 7, 8, 9, 10, 11, 12, 13, 14, 15, 16, 17, 18, 0] (by decide) rfl
    refine mu_V (As := [.ref h]) (rest := []) (wc := [(h3, .inr (2, [.ref kn, .int (iZ nx), .int (iZ sz)])), (kn, .inl (Y 3, 10, .inr (.inr (.inr (.inr (aR hk)))))), (hk ix, .inr (0, [.int (iZ (Kk 0 0)), .int (iZ (Kk 0 1)), .int (iZ (Kk 0 2)), .int (iZ (Kk 0 3)), .int (iZ (Kk 0 4)), .int (iZ (Kk 0 5)), .int (iZ (Kk 0 6)), .ref (adk 1), .ref (adk 2), .ref (adk 3), .ref (adk 4), .ref (adk 5), .ref (adk 6), .ref (adk 7)])), (adk 1, .inl (Y 0, 6, .inl (aI (Kk 1)))), (adk 2, .inl (Y 0, 6, .inl (aI (Kk 2)))), (adk 3, .inl (Y 0, 6, .inl (aI (Kk 3)))), (adk 4, .inl (Y 1, 6, .inl (aI (Kk 4)))), (adk 5, .inl (Y 1, 6, .inl (aI (Kk 5)))), (adk 6, .inl (Y 0, 7, .inl (aI (Kk 6)))), (adk 7, .inl (Y 0, 7, .inl (aI (Kk 7)))), (h, .inr (0, [.int (iZ (K 0 0)), .int (iZ (K 0 1)), .int (iZ (K 0 2)), .int (iZ (K 0 3)), .int (iZ (K 0 4)), .int (iZ (K 0 5)), .int (iZ (K 0 6)), .ref (ad 1), .ref (ad 2), .ref (ad 3), .ref (ad 4), .ref (ad 5), .ref (ad 6), .ref (ad 7)])), (ad 1, .inl (Y 0, 6, .inl (aI (K 1)))), (ad 2, .inl (Y 0, 6, .inl (aI (K 2)))), (ad 3, .inl (Y 0, 6, .inl (aI (K 3)))), (ad 4, .inl (Y 1, 6, .inl (aI (K 4)))), (ad 5, .inl (Y 1, 6, .inl (aI (K 5)))), (ad 6, .inl (Y 0, 7, .inl (aI (K 6)))), (ad 7, .inl (Y 0, 7, .inl (aI (K 7))))]) (wc' := paW Y h3 kn hk ((nx + 1) % 10) (min (sz + 1) 10) ++ (cmW Y (hk ix) adk K ++ cmW Y h ad K)) (F := [(hv, .inr (6, [.ref h7, .ref h, .ref hto, .ref h3, .ref h4, .ref h5, .ref h6, .ref im, .ref ik]))]) ⟨hx, hb, hml, hown, hts⟩ (c_X2_remember l G Y h3 kn hk nx sz ix adk Kk h ad K hW (by omega)) (cwV 1 hts gX6_grows_X2_remember rfl rfl rfl (by decide +kernel) ⟨Nat.le_of_ble_eq_true rfl, Nat.le_of_ble_eq_true rfl⟩) hK hP hD hS 0 rfl rfl (Eq.refl [h3, kn, hk ix, adk 1, adk 2, adk 3, adk 4, adk 5, adk 6, adk 7, h, ad 1, ad 2, ad 3, ad 4, ad 5, ad 6, ad 7]) rfl hl.1 rfl (Nat.le_of_ble_eq_true rfl) dX6_grows_24 ⟨Nat.zero_le _, Nat.zero_le _⟩ (fun H locs hP hD hS => ?_)
    show W _ _ _ _ _ _ _ _ _ _ _ _ _ _ _ (F0 _ _ _ [])
    replace hP : va_P G vwCl [(h3, .inr (2, [.ref kn, .int (iZ ((nx + 1) % 10)), .int (iZ (min (sz + 1) 10))])), (kn, .inl (Y 3, 10, .inr (.inr (.inr (.inr (aR hk)))))), (hk ix, .inr (0, [.int (iZ (K 0 0)), .int (iZ (K 0 1)), .int (iZ (K 0 2)), .int (iZ (K 0 3)), .int (iZ (K 0 4)), .int (iZ (K 0 5)), .int (iZ (K 0 6)), .ref (adk 1), .ref (adk 2), .ref (adk 3), .ref (adk 4), .ref (adk 5), .ref (adk 6), .ref (adk 7)])), (adk 1, .inl (Y 0, 6, .inl (aI (K 1)))), (adk 2, .inl (Y 0, 6, .inl (aI (K 2)))), (adk 3, .inl (Y 0, 6, .inl (aI (K 3)))), (adk 4, .inl (Y 1, 6, .inl (aI (K 4)))), (adk 5, .inl (Y 1, 6, .inl (aI (K 5)))), (adk 6, .inl (Y 0, 7, .inl (aI (K 6)))), (adk 7, .inl (Y 0, 7, .inl (aI (K 7)))), (h, .inr (0, [.int (iZ (K 0 0)), .int (iZ (K 0 1)), .int (iZ (K 0 2)), .int (iZ (K 0 3)), .int (iZ (K 0 4)), .int (iZ (K 0 5)), .int (iZ (K 0 6)), .ref (ad 1), .ref (ad 2), .ref (ad 3), .ref (ad 4), .ref (ad 5), .ref (ad 6), .ref (ad 7)])), (ad 1, .inl (Y 0, 6, .inl (aI (K 1)))), (ad 2, .inl (Y 0, 6, .inl (aI (K 2)))), (ad 3, .inl (Y 0, 6, .inl (aI (K 3)))), (ad 4, .inl (Y 1, 6, .inl (aI (K 4)))), (ad 5, .inl (Y 1, 6, .inl (aI (K 5)))), (ad 6, .inl (Y 0, 7, .inl (aI (K 6)))), (ad 7, .inl (Y 0, 7, .inl (aI (K 7)))), (hv, .inr (6, [.ref h7, .ref h, .ref hto, .ref h3, .ref h4, .ref h5, .ref h6, .ref im, .ref ik]))] H := hP
    replace hD : va_D _ [(h3, .inr (2, [.ref kn, .int (iZ ((nx + 1) % 10)), .int (iZ (min (sz + 1) 10))])), (kn, .inl (Y 3, 10, .inr (.inr (.inr (.inr (aR hk)))))), (hk ix, .inr (0, [.int (iZ (K 0 0)), .int (iZ (K 0 1)), .int (iZ (K 0 2)), .int (iZ (K 0 3)), .int (iZ (K 0 4)), .int (iZ (K 0 5)), .int (iZ (K 0 6)), .ref (adk 1), .ref (adk 2), .ref (adk 3), .ref (adk 4), .ref (adk 5), .ref (adk 6), .ref (adk 7)])), (adk 1, .inl (Y 0, 6, .inl (aI (K 1)))), (adk 2, .inl (Y 0, 6, .inl (aI (K 2)))), (adk 3, .inl (Y 0, 6, .inl (aI (K 3)))), (adk 4, .inl (Y 1, 6, .inl (aI (K 4)))), (adk 5, .inl (Y 1, 6, .inl (aI (K 5)))), (adk 6, .inl (Y 0, 7, .inl (aI (K 6)))), (adk 7, .inl (Y 0, 7, .inl (aI (K 7)))), (h, .inr (0, [.int (iZ (K 0 0)), .int (iZ (K 0 1)), .int (iZ (K 0 2)), .int (iZ (K 0 3)), .int (iZ (K 0 4)), .int (iZ (K 0 5)), .int (iZ (K 0 6)), .ref (ad 1), .ref (ad 2), .ref (ad 3), .ref (ad 4), .ref (ad 5), .ref (ad 6), .ref (ad 7)])), (ad 1, .inl (Y 0, 6, .inl (aI (K 1)))), (ad 2, .inl (Y 0, 6, .inl (aI (K 2)))), (ad 3, .inl (Y 0, 6, .inl (aI (K 3)))), (ad 4, .inl (Y 1, 6, .inl (aI (K 4)))), (ad 5, .inl (Y 1, 6, .inl (aI (K 5)))), (ad 6, .inl (Y 0, 7, .inl (aI (K 6)))), (ad 7, .inl (Y 0, 7, .inl (aI (K 7)))), (hv, .inr (6, [.ref h7, .ref h, .ref hto, .ref h3, .ref h4, .ref h5, .ref h6, .ref im, .ref ik]))] := hD
    refine lv_aload_n hx hb dX6_grows_27 rfl (lv_at hl 0 rfl) ?_
    refine va_get (D := G) (ci := 6) (v := .ref h) (C := RX6) (T := TX6) (N := 9) hx hb hts hFX6 hown hK.1 hP 18 rfl rfl 1 (by decide) kf19 (fun _ h9 => h9) rfl dX6_grows_28 ?_
    have hP := hP.sub (ws' := [(h, .inr (0, [.int (iZ (K 0 0)), .int (iZ (K 0 1)), .int (iZ (K 0 2)), .int (iZ (K 0 3)), .int (iZ (K 0 4)), .int (iZ (K 0 5)), .int (iZ (K 0 6)), .ref (ad 1), .ref (ad 2), .ref (ad 3), .ref (ad 4), .ref (ad 5), .ref (ad 6), .ref (ad 7)])), (ad 1, .inl (Y 0, 6, .inl (aI (K 1)))), (ad 2, .inl (Y 0, 6, .inl (aI (K 2)))), (ad 3, .inl (Y 0, 6, .inl (aI (K 3)))), (ad 4, .inl (Y 1, 6, .inl (aI (K 4)))), (ad 5, .inl (Y 1, 6, .inl (aI (K 5)))), (ad 6, .inl (Y 0, 7, .inl (aI (K 6)))), (ad 7, .inl (Y 0, 7, .inl (aI (K 7))))] ++ [(h3, .inr (2, [.ref kn, .int (iZ ((nx + 1) % 10)), .int (iZ (min (sz + 1) 10))])), (kn, .inl (Y 3, 10, .inr (.inr (.inr (.inr (aR hk)))))), (hk ix, .inr (0, [.int (iZ (K 0 0)), .int (iZ (K 0 1)), .int (iZ (K 0 2)), .int (iZ (K 0 3)), .int (iZ (K 0 4)), .int (iZ (K 0 5)), .int (iZ (K 0 6)), .ref (adk 1), .ref (adk 2), .ref (adk 3), .ref (adk 4), .ref (adk 5), .ref (adk 6), .ref (adk 7)])), (adk 1, .inl (Y 0, 6, .inl (aI (K 1)))), (adk 2, .inl (Y 0, 6, .inl (aI (K 2)))), (adk 3, .inl (Y 0, 6, .inl (aI (K 3)))), (adk 4, .inl (Y 1, 6, .inl (aI (K 4)))), (adk 5, .inl (Y 1, 6, .inl (aI (K 5)))), (adk 6, .inl (Y 0, 7, .inl (aI (K 6)))), (adk 7, .inl (Y 0, 7, .inl (aI (K 7)))), (hv, .inr (6, [.ref h7, .ref h, .ref hto, .ref h3, .ref h4, .ref h5, .ref h6, .ref im, .ref ik]))]) [10, 11, 12, 13, 14, 15, 16, 17, 0, 1, 2, 3, 4, 5, 6, 7, 8, 9, 18] rfl
    have hD := hD.sub (ws' := [(h, .inr (0, [.int (iZ (K 0 0)), .int (iZ (K 0 1)), .int (iZ (K 0 2)), .int (iZ (K 0 3)), .int (iZ (K 0 4)), .int (iZ (K 0 5)), .int (iZ (K 0 6)), .ref (ad 1), .ref (ad 2), .ref (ad 3), .ref (ad 4), .ref (ad 5), .ref (ad 6), .ref (ad 7)])), (ad 1, .inl (Y 0, 6, .inl (aI (K 1)))), (ad 2, .inl (Y 0, 6, .inl (aI (K 2)))), (ad 3, .inl (Y 0, 6, .inl (aI (K 3)))), (ad 4, .inl (Y 1, 6, .inl (aI (K 4)))), (ad 5, .inl (Y 1, 6, .inl (aI (K 5)))), (ad 6, .inl (Y 0, 7, .inl (aI (K 6)))), (ad 7, .inl (Y 0, 7, .inl (aI (K 7))))] ++ [(h3, .inr (2, [.ref kn, .int (iZ ((nx + 1) % 10)), .int (iZ (min (sz + 1) 10))])), (kn, .inl (Y 3, 10, .inr (.inr (.inr (.inr (aR hk)))))), (hk ix, .inr (0, [.int (iZ (K 0 0)), .int (iZ (K 0 1)), .int (iZ (K 0 2)), .int (iZ (K 0 3)), .int (iZ (K 0 4)), .int (iZ (K 0 5)), .int (iZ (K 0 6)), .ref (adk 1), .ref (adk 2), .ref (adk 3), .ref (adk 4), .ref (adk 5), .ref (adk 6), .ref (adk 7)])), (adk 1, .inl (Y 0, 6, .inl (aI (K 1)))), (adk 2, .inl (Y 0, 6, .inl (aI (K 2)))), (adk 3, .inl (Y 0, 6, .inl (aI (K 3)))), (adk 4, .inl (Y 1, 6, .inl (aI (K 4)))), (adk 5, .inl (Y 1, 6, .inl (aI (K 5)))), (adk 6, .inl (Y 0, 7, .inl (aI (K 6)))), (adk 7, .inl (Y 0, 7, .inl (aI (K 7)))), (hv, .inr (6, [.ref h7, .ref h, .ref hto, .ref h3, .ref h4, .ref h5, .ref h6, .ref im, .ref ik]))]) [10, 11, 12, 13, 14, 15, 16, 17, 0, 1, 2, 3, 4, 5, 6, 7, 8, 9, 18] (by decide) rfl
    refine mu_V (As := []) (rest := []) (wc := [(h, .inr (0, [.int (iZ (K 0 0)), .int (iZ (K 0 1)), .int (iZ (K 0 2)), .int (iZ (K 0 3)), .int (iZ (K 0 4)), .int (iZ (K 0 5)), .int (iZ (K 0 6)), .ref (ad 1), .ref (ad 2), .ref (ad 3), .ref (ad 4), .ref (ad 5), .ref (ad 6), .ref (ad 7)])), (ad 1, .inl (Y 0, 6, .inl (aI (K 1)))), (ad 2, .inl (Y 0, 6, .inl (aI (K 2)))), (ad 3, .inl (Y 0, 6, .inl (aI (K 3)))), (ad 4, .inl (Y 1, 6, .inl (aI (K 4)))), (ad 5, .inl (Y 1, 6, .inl (aI (K 5)))), (ad 6, .inl (Y 0, 7, .inl (aI (K 6)))), (ad 7, .inl (Y 0, 7, .inl (aI (K 7))))]) (wc' := cmW Y h ad (va_up K 2 (grN K (K 0 2).toNat))) (F := [(h3, .inr (2, [.ref kn, .int (iZ ((nx + 1) % 10)), .int (iZ (min (sz + 1) 10))])), (kn, .inl (Y 3, 10, .inr (.inr (.inr (.inr (aR hk)))))), (hk ix, .inr (0, [.int (iZ (K 0 0)), .int (iZ (K 0 1)), .int (iZ (K 0 2)), .int (iZ (K 0 3)), .int (iZ (K 0 4)), .int (iZ (K 0 5)), .int (iZ (K 0 6)), .ref (adk 1), .ref (adk 2), .ref (adk 3), .ref (adk 4), .ref (adk 5), .ref (adk 6), .ref (adk 7)])), (adk 1, .inl (Y 0, 6, .inl (aI (K 1)))), (adk 2, .inl (Y 0, 6, .inl (aI (K 2)))), (adk 3, .inl (Y 0, 6, .inl (aI (K 3)))), (adk 4, .inl (Y 1, 6, .inl (aI (K 4)))), (adk 5, .inl (Y 1, 6, .inl (aI (K 5)))), (adk 6, .inl (Y 0, 7, .inl (aI (K 6)))), (adk 7, .inl (Y 0, 7, .inl (aI (K 7)))), (hv, .inr (6, [.ref h7, .ref h, .ref hto, .ref h3, .ref h4, .ref h5, .ref h6, .ref im, .ref ik]))]) ⟨hx, hb, hml, hown, hts⟩ (c_X0_growAll l G Y h ad K hW) (cwV 0 hts gX6_grows_X0_growAll rfl rfl rfl (by decide +kernel) ⟨Nat.le_of_ble_eq_true rfl, Nat.le_of_ble_eq_true rfl⟩) hK hP hD hS 0 rfl rfl (Eq.refl [h, ad 1, ad 2, ad 3, ad 4, ad 5, ad 6, ad 7]) rfl hl.1 rfl (Nat.le_of_ble_eq_true rfl) dX6_grows_31 ⟨Nat.zero_le _, Nat.zero_le _⟩ (fun H locs hP hD hS => ?_)
    show W _ _ _ _ _ _ _ _ _ _ _ _ _ _ _ (F0 _ _ _ [])
    replace hP : va_P G vwCl [(h, .inr (0, [.int (iZ ((va_up K 2 (grN K (K 0 2).toNat)) 0 0)), .int (iZ ((va_up K 2 (grN K (K 0 2).toNat)) 0 1)), .int (iZ ((va_up K 2 (grN K (K 0 2).toNat)) 0 2)), .int (iZ ((va_up K 2 (grN K (K 0 2).toNat)) 0 3)), .int (iZ ((va_up K 2 (grN K (K 0 2).toNat)) 0 4)), .int (iZ ((va_up K 2 (grN K (K 0 2).toNat)) 0 5)), .int (iZ ((va_up K 2 (grN K (K 0 2).toNat)) 0 6)), .ref (ad 1), .ref (ad 2), .ref (ad 3), .ref (ad 4), .ref (ad 5), .ref (ad 6), .ref (ad 7)])), (ad 1, .inl (Y 0, 6, .inl (aI ((va_up K 2 (grN K (K 0 2).toNat)) 1)))), (ad 2, .inl (Y 0, 6, .inl (aI ((va_up K 2 (grN K (K 0 2).toNat)) 2)))), (ad 3, .inl (Y 0, 6, .inl (aI ((va_up K 2 (grN K (K 0 2).toNat)) 3)))), (ad 4, .inl (Y 1, 6, .inl (aI ((va_up K 2 (grN K (K 0 2).toNat)) 4)))), (ad 5, .inl (Y 1, 6, .inl (aI ((va_up K 2 (grN K (K 0 2).toNat)) 5)))), (ad 6, .inl (Y 0, 7, .inl (aI ((va_up K 2 (grN K (K 0 2).toNat)) 6)))), (ad 7, .inl (Y 0, 7, .inl (aI ((va_up K 2 (grN K (K 0 2).toNat)) 7)))), (h3, .inr (2, [.ref kn, .int (iZ ((nx + 1) % 10)), .int (iZ (min (sz + 1) 10))])), (kn, .inl (Y 3, 10, .inr (.inr (.inr (.inr (aR hk)))))), (hk ix, .inr (0, [.int (iZ (K 0 0)), .int (iZ (K 0 1)), .int (iZ (K 0 2)), .int (iZ (K 0 3)), .int (iZ (K 0 4)), .int (iZ (K 0 5)), .int (iZ (K 0 6)), .ref (adk 1), .ref (adk 2), .ref (adk 3), .ref (adk 4), .ref (adk 5), .ref (adk 6), .ref (adk 7)])), (adk 1, .inl (Y 0, 6, .inl (aI (K 1)))), (adk 2, .inl (Y 0, 6, .inl (aI (K 2)))), (adk 3, .inl (Y 0, 6, .inl (aI (K 3)))), (adk 4, .inl (Y 1, 6, .inl (aI (K 4)))), (adk 5, .inl (Y 1, 6, .inl (aI (K 5)))), (adk 6, .inl (Y 0, 7, .inl (aI (K 6)))), (adk 7, .inl (Y 0, 7, .inl (aI (K 7)))), (hv, .inr (6, [.ref h7, .ref h, .ref hto, .ref h3, .ref h4, .ref h5, .ref h6, .ref im, .ref ik]))] H := hP
    replace hD : va_D _ [(h, .inr (0, [.int (iZ ((va_up K 2 (grN K (K 0 2).toNat)) 0 0)), .int (iZ ((va_up K 2 (grN K (K 0 2).toNat)) 0 1)), .int (iZ ((va_up K 2 (grN K (K 0 2).toNat)) 0 2)), .int (iZ ((va_up K 2 (grN K (K 0 2).toNat)) 0 3)), .int (iZ ((va_up K 2 (grN K (K 0 2).toNat)) 0 4)), .int (iZ ((va_up K 2 (grN K (K 0 2).toNat)) 0 5)), .int (iZ ((va_up K 2 (grN K (K 0 2).toNat)) 0 6)), .ref (ad 1), .ref (ad 2), .ref (ad 3), .ref (ad 4), .ref (ad 5), .ref (ad 6), .ref (ad 7)])), (ad 1, .inl (Y 0, 6, .inl (aI ((va_up K 2 (grN K (K 0 2).toNat)) 1)))), (ad 2, .inl (Y 0, 6, .inl (aI ((va_up K 2 (grN K (K 0 2).toNat)) 2)))), (ad 3, .inl (Y 0, 6, .inl (aI ((va_up K 2 (grN K (K 0 2).toNat)) 3)))), (ad 4, .inl (Y 1, 6, .inl (aI ((va_up K 2 (grN K (K 0 2).toNat)) 4)))), (ad 5, .inl (Y 1, 6, .inl (aI ((va_up K 2 (grN K (K 0 2).toNat)) 5)))), (ad 6, .inl (Y 0, 7, .inl (aI ((va_up K 2 (grN K (K 0 2).toNat)) 6)))), (ad 7, .inl (Y 0, 7, .inl (aI ((va_up K 2 (grN K (K 0 2).toNat)) 7)))), (h3, .inr (2, [.ref kn, .int (iZ ((nx + 1) % 10)), .int (iZ (min (sz + 1) 10))])), (kn, .inl (Y 3, 10, .inr (.inr (.inr (.inr (aR hk)))))), (hk ix, .inr (0, [.int (iZ (K 0 0)), .int (iZ (K 0 1)), .int (iZ (K 0 2)), .int (iZ (K 0 3)), .int (iZ (K 0 4)), .int (iZ (K 0 5)), .int (iZ (K 0 6)), .ref (adk 1), .ref (adk 2), .ref (adk 3), .ref (adk 4), .ref (adk 5), .ref (adk 6), .ref (adk 7)])), (adk 1, .inl (Y 0, 6, .inl (aI (K 1)))), (adk 2, .inl (Y 0, 6, .inl (aI (K 2)))), (adk 3, .inl (Y 0, 6, .inl (aI (K 3)))), (adk 4, .inl (Y 1, 6, .inl (aI (K 4)))), (adk 5, .inl (Y 1, 6, .inl (aI (K 5)))), (adk 6, .inl (Y 0, 7, .inl (aI (K 6)))), (adk 7, .inl (Y 0, 7, .inl (aI (K 7)))), (hv, .inr (6, [.ref h7, .ref h, .ref hto, .ref h3, .ref h4, .ref h5, .ref h6, .ref im, .ref ik]))] := hD
    refine lv_aload_n hx hb dX6_grows_34 rfl (lv_at hl 0 rfl) ?_
    refine va_get (D := G) (ci := 6) (v := .ref h) (C := RX6) (T := TX6) (N := 9) hx hb hts hFX6 hown hK.1 hP 18 rfl rfl 1 (by decide) kf19 (fun _ h9 => h9) rfl dX6_grows_35 ?_
    refine lv_dup hx hb dX6_grows_38 rfl ?_
    refine va_get (D := G) (ci := 0) (v := .int (iZ ((va_up K 2 (grN K (K 0 2).toNat)) 0 5))) (C := RX0) (T := TX0) (N := 14) hx hb hts hFX0 hown hK.1 hP 0 rfl rfl 5 (by decide) kf139 (fun _ h9 => h9) rfl dX6_grows_39 ?_
    refine z_iconst hx hb dX6_grows_42 ?_
    refine z_iadd hx hb dX6_grows_43 ?_
    refine va_put (D := G) (ci := 0) (v := .int (iZ ((va_up K 2 (grN K (K 0 2).toNat)) 0 5 + 1))) (ty := .int) (C := RX0) (T := TX0) (N := 14) hx hb hts hFX0 tyX0 tyX0_ok nmX0 hown hK.1 hP hD hS 0 rfl rfl 5 (by decide) kf139 (fun _ h9 => h9) rfl (by decide +kernel) rfl rfl (Nat.le_of_ble_eq_true rfl) dX6_grows_44 (fun H locs hP hD hS => ?_)
    replace hP : va_P G vwCl [(h, .inr (0, [.int (iZ ((va_up K 2 (grN K (K 0 2).toNat)) 0 0)), .int (iZ ((va_up K 2 (grN K (K 0 2).toNat)) 0 1)), .int (iZ ((va_up K 2 (grN K (K 0 2).toNat)) 0 2)), .int (iZ ((va_up K 2 (grN K (K 0 2).toNat)) 0 3)), .int (iZ ((va_up K 2 (grN K (K 0 2).toNat)) 0 4)), .int (iZ ((va_up K 2 (grN K (K 0 2).toNat)) 0 5 + 1)), .int (iZ ((va_up K 2 (grN K (K 0 2).toNat)) 0 6)), .ref (ad 1), .ref (ad 2), .ref (ad 3), .ref (ad 4), .ref (ad 5), .ref (ad 6), .ref (ad 7)])), (ad 1, .inl (Y 0, 6, .inl (aI ((va_up K 2 (grN K (K 0 2).toNat)) 1)))), (ad 2, .inl (Y 0, 6, .inl (aI ((va_up K 2 (grN K (K 0 2).toNat)) 2)))), (ad 3, .inl (Y 0, 6, .inl (aI ((va_up K 2 (grN K (K 0 2).toNat)) 3)))), (ad 4, .inl (Y 1, 6, .inl (aI ((va_up K 2 (grN K (K 0 2).toNat)) 4)))), (ad 5, .inl (Y 1, 6, .inl (aI ((va_up K 2 (grN K (K 0 2).toNat)) 5)))), (ad 6, .inl (Y 0, 7, .inl (aI ((va_up K 2 (grN K (K 0 2).toNat)) 6)))), (ad 7, .inl (Y 0, 7, .inl (aI ((va_up K 2 (grN K (K 0 2).toNat)) 7)))), (h3, .inr (2, [.ref kn, .int (iZ ((nx + 1) % 10)), .int (iZ (min (sz + 1) 10))])), (kn, .inl (Y 3, 10, .inr (.inr (.inr (.inr (aR hk)))))), (hk ix, .inr (0, [.int (iZ (K 0 0)), .int (iZ (K 0 1)), .int (iZ (K 0 2)), .int (iZ (K 0 3)), .int (iZ (K 0 4)), .int (iZ (K 0 5)), .int (iZ (K 0 6)), .ref (adk 1), .ref (adk 2), .ref (adk 3), .ref (adk 4), .ref (adk 5), .ref (adk 6), .ref (adk 7)])), (adk 1, .inl (Y 0, 6, .inl (aI (K 1)))), (adk 2, .inl (Y 0, 6, .inl (aI (K 2)))), (adk 3, .inl (Y 0, 6, .inl (aI (K 3)))), (adk 4, .inl (Y 1, 6, .inl (aI (K 4)))), (adk 5, .inl (Y 1, 6, .inl (aI (K 5)))), (adk 6, .inl (Y 0, 7, .inl (aI (K 6)))), (adk 7, .inl (Y 0, 7, .inl (aI (K 7)))), (hv, .inr (6, [.ref h7, .ref h, .ref hto, .ref h3, .ref h4, .ref h5, .ref h6, .ref im, .ref ik]))] H := hP
    replace hD : va_D _ [(h, .inr (0, [.int (iZ ((va_up K 2 (grN K (K 0 2).toNat)) 0 0)), .int (iZ ((va_up K 2 (grN K (K 0 2).toNat)) 0 1)), .int (iZ ((va_up K 2 (grN K (K 0 2).toNat)) 0 2)), .int (iZ ((va_up K 2 (grN K (K 0 2).toNat)) 0 3)), .int (iZ ((va_up K 2 (grN K (K 0 2).toNat)) 0 4)), .int (iZ ((va_up K 2 (grN K (K 0 2).toNat)) 0 5 + 1)), .int (iZ ((va_up K 2 (grN K (K 0 2).toNat)) 0 6)), .ref (ad 1), .ref (ad 2), .ref (ad 3), .ref (ad 4), .ref (ad 5), .ref (ad 6), .ref (ad 7)])), (ad 1, .inl (Y 0, 6, .inl (aI ((va_up K 2 (grN K (K 0 2).toNat)) 1)))), (ad 2, .inl (Y 0, 6, .inl (aI ((va_up K 2 (grN K (K 0 2).toNat)) 2)))), (ad 3, .inl (Y 0, 6, .inl (aI ((va_up K 2 (grN K (K 0 2).toNat)) 3)))), (ad 4, .inl (Y 1, 6, .inl (aI ((va_up K 2 (grN K (K 0 2).toNat)) 4)))), (ad 5, .inl (Y 1, 6, .inl (aI ((va_up K 2 (grN K (K 0 2).toNat)) 5)))), (ad 6, .inl (Y 0, 7, .inl (aI ((va_up K 2 (grN K (K 0 2).toNat)) 6)))), (ad 7, .inl (Y 0, 7, .inl (aI ((va_up K 2 (grN K (K 0 2).toNat)) 7)))), (h3, .inr (2, [.ref kn, .int (iZ ((nx + 1) % 10)), .int (iZ (min (sz + 1) 10))])), (kn, .inl (Y 3, 10, .inr (.inr (.inr (.inr (aR hk)))))), (hk ix, .inr (0, [.int (iZ (K 0 0)), .int (iZ (K 0 1)), .int (iZ (K 0 2)), .int (iZ (K 0 3)), .int (iZ (K 0 4)), .int (iZ (K 0 5)), .int (iZ (K 0 6)), .ref (adk 1), .ref (adk 2), .ref (adk 3), .ref (adk 4), .ref (adk 5), .ref (adk 6), .ref (adk 7)])), (adk 1, .inl (Y 0, 6, .inl (aI (K 1)))), (adk 2, .inl (Y 0, 6, .inl (aI (K 2)))), (adk 3, .inl (Y 0, 6, .inl (aI (K 3)))), (adk 4, .inl (Y 1, 6, .inl (aI (K 4)))), (adk 5, .inl (Y 1, 6, .inl (aI (K 5)))), (adk 6, .inl (Y 0, 7, .inl (aI (K 6)))), (adk 7, .inl (Y 0, 7, .inl (aI (K 7)))), (hv, .inr (6, [.ref h7, .ref h, .ref hto, .ref h3, .ref h4, .ref h5, .ref h6, .ref im, .ref ik]))] := hD
    refine lv_aload_n hx hb dX6_grows_47 rfl (lv_at hl 0 rfl) ?_
    refine va_get (D := G) (ci := 6) (v := .ref h) (C := RX6) (T := TX6) (N := 9) hx hb hts hFX6 hown hK.1 hP 18 rfl rfl 1 (by decide) kf19 (fun _ h9 => h9) rfl dX6_grows_48 ?_
    refine va_get (D := G) (ci := 0) (v := .int (iZ ((va_up K 2 (grN K (K 0 2).toNat)) 0 5 + 1))) (C := RX0) (T := TX0) (N := 14) hx hb hts hFX0 hown hK.1 hP 0 rfl rfl 5 (by decide) kf139 (fun _ h9 => h9) rfl dX6_grows_51 ?_
    refine z_top (show ((va_up K 2 (grN K (K 0 2).toNat)) 0 5 + 1) = rGrows K from ?_) ?_
    · unfold rGrows; rw [if_pos (by omega)]; rfl
    have ef : fGrows K = true := decide_eq_true (by omega)
    have hP9 : va_P G vwCl (svO Y hv h7 h hto h3 h4 h5 h6 im ik ++ opW Y h3 kn hk nx sz ix adk Kk h ad K (fGrows K) (kGrows K)) H := by rw [ef]; exact hP.sub [18, 8, 9, 10, 11, 12, 13, 14, 15, 16, 17, 0, 1, 2, 3, 4, 5, 6, 7] rfl
    exact W.iret (v := iZ (rGrows K)) hx hb hr (fun t9 ht9 _ => ⟨rfl, by rw [ht9]; exact hP9, hS.F ht9⟩) hS.2.2 dX6_grows_54
  · skip
    refine z_bipush hx hb dX6_grows_13 (by decide) ?_
    refine z_top (show (-2) = rGrows K from ?_) ?_
    · unfold rGrows; (repeat' split) <;> first | rfl | omega | (simp_all; done)
    have ef : fGrows K = false := decide_eq_false (by omega)
    have hP9 : va_P G vwCl (svO Y hv h7 h hto h3 h4 h5 h6 im ik ++ opW Y h3 kn hk nx sz ix adk Kk h ad K (fGrows K) (kGrows K)) H := by rw [ef]; exact hP.sub [0, 1, 2, 3, 4, 5, 6, 7, 8, 9, 10, 11, 12, 13, 14, 15, 16, 17, 18] rfl
    exact W.iret (v := iZ (rGrows K)) hx hb hr (fun t9 ht9 _ => ⟨rfl, by rw [ht9]; exact hP9, hS.F ht9⟩) hS.2.2 dX6_grows_15

set_option maxHeartbeats 4000000 in
set_option maxRecDepth 100000 in
theorem c_X6_plants (l : Launch) (G : va_G) (Y : Nat → ClassId) (hv h7 h hto h3 h4 h5 h6 im ik : Nat) (kn : Nat) (hk : Nat → Nat) (nx sz : Int) (ix : Nat) (adk : Nat → Nat) (Kk : Kom) (ad : Nat → Nat) (K : Kom) (hW : cWF K) (ro : (nx = ix ∧ ix < 10) ∧ 0 ≤ sz ∧ sz ≤ 10) (a b : Int) (r : zR a ∧ zR b) : Met l yX6_plants wsX6_plants ({ frames := 2, cells := 0, slots := 0, locals := 43 }) (mP G Y [.ref hv, .int (iZ a), .int (iZ b)] (svO Y hv h7 h hto h3 h4 h5 h6 im ik ++ (paW Y h3 kn hk nx sz ++ (cmW Y (hk ix) adk Kk ++ cmW Y h ad K)))) (mQ G (svO Y hv h7 h hto h3 h4 h5 h6 im ik ++ (paW Y h3 kn hk nx sz ++ (cmW Y (hk ix) adk Kk ++ cmW Y h ad K))) (some (.int (iZ (rPlants K a b)))) (svO Y hv h7 h hto h3 h4 h5 h6 im ik ++ opW Y h3 kn hk nx sz ix adk Kk h ad K (fPlants K a b) (adT K a 1 0 b))) 0 0 (fun q => q ∈ List.map Prod.fst (svO Y hv h7 h hto h3 h4 h5 h6 im ik ++ (paW Y h3 kn hk nx sz ++ (cmW Y (hk ix) adk Kk ++ cmW Y h ad K)))) := by
  refine Met.ofW (cc := cX6_plants) (maxL := 3) (ret := (some .int)) (by decide) rfl ?_
  intro p e s m args below meth c s₁ B hml hv
  obtain ⟨rfl, hK, hP, hD0⟩ := hv
  have hx := B.exec
  have hb := B.bytes
  have hr := B.returns
  have hts := atoms_spec (ws := wsX6_plants) B.pre
  have hown : s.vm.findClass RX6 = some m.cls := findClass_of_methodNamed B.named
  have hlocks := B.notSynchronized
  have hFX0 : ∀ w ∈ wsX00, w ∈ wsX6_plants := by decide +kernel
  have hFX6 : ∀ w ∈ wsX60, w ∈ wsX6_plants := by decide +kernel
  have kf19 := (hts (.fieldLink RX6 19 "ShadeVotes" "present" "LShadeVotes$Commune;") (by decide +kernel))
  have kf149 := (hts (.fieldLink RX6 149 "ShadeVotes$Commune" "trees" "I") (by decide +kernel))
  have kf29 := (hts (.fieldLink RX6 29 "ShadeVotes" "past" "LShadeVotes$Past;") (by decide +kernel))
  have hD := va_D_self hD0
  have hS : va_S (fun q => q ∈ List.map Prod.fst (svO Y hv h7 h hto h3 h4 h5 h6 im ik ++ (paW Y h3 kn hk nx sz ++ (cmW Y (hk ix) adk Kk ++ cmW Y h ad K)))) s.heap s.heap [] := va_S.rf
  obtain ⟨H, hHe⟩ : ∃ H, H = s.heap := ⟨_, rfl⟩
  rw [← hHe] at hP
  replace hS : va_S (fun q => q ∈ List.map Prod.fst (svO Y hv h7 h hto h3 h4 h5 h6 im ik ++ (paW Y h3 kn hk nx sz ++ (cmW Y (hk ix) adk Kk ++ cmW Y h ad K)))) s.heap H [] := by rw [hHe]; exact hS
  have hl := lv_entry ([.ref hv, .int (iZ a), .int (iZ b)]) (n := 3) (Nat.le_of_ble_eq_true rfl)
  rw [lg_entry_eq]
  generalize (lg_sl ([.ref hv, .int (iZ a), .int (iZ b)]) ++ List.replicate (3 - (lg_sl ([.ref hv, .int (iZ a), .int (iZ b)])).length) Slot.unset).toArray = ls at hl ⊢
  replace hl : lv_has ls 3 [(0, .ref hv), (1, .int (iZ a)), (2, .int (iZ b))] := hl
  obtain ⟨locs, hLe⟩ : ∃ locs : List Loc, locs = [] := ⟨_, rfl⟩
  rw [← hLe] at hS ⊢
  have hW0 : ∀ {Q : State → Prop} {g : JFrame}, W p l e ({ frames := 2, cells := 0, slots := 0, locals := 43 }) s m [.ref hv, .int (iZ a), .int (iZ b)].toArray below meth c H locs 0 0 Q g → W p l e ({ frames := 2, cells := 0, slots := 0, locals := 43 }) s m [.ref hv, .int (iZ a), .int (iZ b)].toArray below meth c s.heap locs 0 0 Q g := fun h => by rw [← hHe]; exact h
  refine hW0 ?_
  clear hW0 hHe hLe
  have h0 := hW.1
  have hnc := hW.nc
  refine lv_aload_n hx hb dX6_plants_0 rfl (lv_at hl 0 rfl) ?_
  refine va_get (D := G) (ci := 6) (v := .ref h) (C := RX6) (T := TX6) (N := 9) hx hb hts hFX6 hown hK.1 hP 0 rfl rfl 1 (by decide) kf19 (fun _ h9 => h9) rfl dX6_plants_1 ?_
  refine lv_iload_n hx hb dX6_plants_4 rfl (lv_at hl 1 rfl) ?_
  refine ro_V (As := [.int (iZ a)]) (rest := []) ⟨hx, hb, hml, hown, hts⟩ (c_X0_hasCell l G Y h ad K hW a (by omega)) (cwV 1 hts gX6_plants_X0_hasCell rfl rfl rfl (by decide +kernel) ⟨Nat.le_of_ble_eq_true rfl, Nat.le_of_ble_eq_true rfl⟩) hK (hP.sub (ws' := cmW Y h ad K) [11, 12, 13, 14, 15, 16, 17, 18] rfl) 0 rfl rfl rfl hl.1 rfl (Nat.le_of_ble_eq_true rfl) dX6_plants_5 ⟨Nat.zero_le _, Nat.zero_le _⟩ ?_
  refine z_ifb_eq (tgt := 21) hx hb dX6_plants_8 (by decide) (fun c_1 => ?_) (fun c_1 => ?_)
  · skip
    have c_1 := of_decide_eq_false c_1
    refine z_iconst hx hb dX6_plants_21 ?_
    refine z_top (show (-1) = rPlants K a b from ?_) ?_
    · unfold rPlants; (repeat' split) <;> first | rfl | omega | (simp_all; done)
    have ef : fPlants K a b = false := decide_eq_false (by omega)
    have hP9 : va_P G vwCl (svO Y hv h7 h hto h3 h4 h5 h6 im ik ++ opW Y h3 kn hk nx sz ix adk Kk h ad K (fPlants K a b) (adT K a 1 0 b)) H := by rw [ef]; exact hP.sub [0, 1, 2, 3, 4, 5, 6, 7, 8, 9, 10, 11, 12, 13, 14, 15, 16, 17, 18] rfl
    exact W.iret (v := iZ (rPlants K a b)) hx hb hr (fun t9 ht9 _ => ⟨rfl, by rw [ht9]; exact hP9, hS.F ht9⟩) hS.2.2 dX6_plants_22
  · skip
    have c_1 := of_decide_eq_true c_1
    refine lv_iload_n hx hb dX6_plants_11 rfl (lv_at hl 2 rfl) ?_
    refine z_iconst hx hb dX6_plants_12 ?_
    refine z_bipush hx hb dX6_plants_13 (by decide) ?_
    refine ro_S (As := [.int (iZ b), .int (iZ 0), .int (iZ 7)]) (rest := []) ⟨hx, hb, hml, hown, hts⟩ (c_X6_isWithin l G Y b 0 7 (by omega)) (cwS 3 hts gX6_plants_X6_isWithin rfl rfl rfl (by decide +kernel) ⟨Nat.le_of_ble_eq_true rfl, Nat.le_of_ble_eq_true rfl⟩) hK (hP.sub (ws' := []) [] rfl) rfl hl.1 rfl (Nat.le_of_ble_eq_true rfl) dX6_plants_15 ⟨Nat.zero_le _, Nat.zero_le _⟩ ?_
    refine z_ifb_ne (tgt := 23) hx hb dX6_plants_18 (by decide) (fun c_2 => ?_) (fun c_2 => ?_)
    · skip
      have c_2 := of_decide_eq_true c_2
      refine lv_aload_n hx hb dX6_plants_23 rfl (lv_at hl 0 rfl) ?_
      refine va_get (D := G) (ci := 6) (v := .ref h) (C := RX6) (T := TX6) (N := 9) hx hb hts hFX6 hown hK.1 hP 0 rfl rfl 1 (by decide) kf19 (fun _ h9 => h9) rfl dX6_plants_24 ?_
      refine lv_iload_n hx hb dX6_plants_27 rfl (lv_at hl 1 rfl) ?_
      refine ro_V (As := [.int (iZ a)]) (rest := []) ⟨hx, hb, hml, hown, hts⟩ (c_X0_hasTreeAt l G Y h ad K hW a (by omega)) (cwV 1 hts gX6_plants_X0_hasTreeAt rfl rfl rfl (by decide +kernel) ⟨Nat.le_of_ble_eq_true rfl, Nat.le_of_ble_eq_true rfl⟩) hK (hP.sub (ws' := cmW Y h ad K) [11, 12, 13, 14, 15, 16, 17, 18] rfl) 0 rfl rfl rfl hl.1 rfl (Nat.le_of_ble_eq_true rfl) dX6_plants_28 ⟨Nat.zero_le _, Nat.zero_le _⟩ ?_
      refine z_ifb_eq (tgt := 37) hx hb dX6_plants_31 (by decide) (fun c_3 => ?_) (fun c_3 => ?_)
      · skip
        refine lv_aload_n hx hb dX6_plants_37 rfl (lv_at hl 0 rfl) ?_
        refine va_get (D := G) (ci := 6) (v := .ref h) (C := RX6) (T := TX6) (N := 9) hx hb hts hFX6 hown hK.1 hP 0 rfl rfl 1 (by decide) kf19 (fun _ h9 => h9) rfl dX6_plants_38 ?_
        refine va_get (D := G) (ci := 0) (v := .int (iZ (K 0 2))) (C := RX0) (T := TX0) (N := 14) hx hb hts hFX0 hown hK.1 hP 11 rfl rfl 2 (by decide) kf149 (fun _ h9 => h9) rfl dX6_plants_41 ?_
        refine z_iconst hx hb dX6_plants_44 ?_
        refine z_icmp_lt (tgt := 51) hx hb dX6_plants_45 (by decide) (by omega) (fun c_4 => ?_) (fun c_4 => ?_)
        · skip
          refine lv_aload_n hx hb dX6_plants_51 rfl (lv_at hl 0 rfl) ?_
          refine va_get (D := G) (ci := 6) (v := .ref h3) (C := RX6) (T := TX6) (N := 9) hx hb hts hFX6 hown hK.1 hP 0 rfl rfl 3 (by decide) kf29 (fun _ h9 => h9) rfl dX6_plants_52 ?_
          refine lv_aload_n hx hb dX6_plants_55 rfl (lv_at hl 0 rfl) ?_
          refine va_get (D := G) (ci := 6) (v := .ref h) (C := RX6) (T := TX6) (N := 9) hx hb hts hFX6 hown hK.1 hP 0 rfl rfl 1 (by decide) kf19 (fun _ h9 => h9) rfl dX6_plants_56 ?_
          have hP := hP.sub (ws' := [(h3, .inr (2, [.ref kn, .int (iZ nx), .int (iZ sz)])), (kn, .inl (Y 3, 10, .inr (.inr (.inr (.inr (aR hk)))))), (hk ix, .inr (0, [.int (iZ (Kk 0 0)), .int (iZ (Kk 0 1)), .int (iZ (Kk 0 2)), .int (iZ (Kk 0 3)), .int (iZ (Kk 0 4)), .int (iZ (Kk 0 5)), .int (iZ (Kk 0 6)), .ref (adk 1), .ref (adk 2), .ref (adk 3), .ref (adk 4), .ref (adk 5), .ref (adk 6), .ref (adk 7)])), (adk 1, .inl (Y 0, 6, .inl (aI (Kk 1)))), (adk 2, .inl (Y 0, 6, .inl (aI (Kk 2)))), (adk 3, .inl (Y 0, 6, .inl (aI (Kk 3)))), (adk 4, .inl (Y 1, 6, .inl (aI (Kk 4)))), (adk 5, .inl (Y 1, 6, .inl (aI (Kk 5)))), (adk 6, .inl (Y 0, 7, .inl (aI (Kk 6)))), (adk 7, .inl (Y 0, 7, .inl (aI (Kk 7)))), (h, .inr (0, [.int (iZ (K 0 0)), .int (iZ (K 0 1)), .int (iZ (K 0 2)), .int (iZ (K 0 3)), .int (iZ (K 0 4)), .int (iZ (K 0 5)), .int (iZ (K 0 6)), .ref (ad 1), .ref (ad 2), .ref (ad 3), .ref (ad 4), .ref (ad 5), .ref (ad 6), .ref (ad 7)])), (ad 1, .inl (Y 0, 6, .inl (aI (K 1)))), (ad 2, .inl (Y 0, 6, .inl (aI (K 2)))), (ad 3, .inl (Y 0, 6, .inl (aI (K 3)))), (ad 4, .inl (Y 1, 6, .inl (aI (K 4)))), (ad 5, .inl (Y 1, 6, .inl (aI (K 5)))), (ad 6, .inl (Y 0, 7, .inl (aI (K 6)))), (ad 7, .inl (Y 0, 7, .inl (aI (K 7))))] ++ [(hv, .inr (6, [.ref h7, .ref h, .ref hto, .ref h3, .ref h4, .ref h5, .ref h6, .ref im, .ref ik]))]) [1, 2, 3, 4, 5, 6, 7, 8, 9, 10, 11, 12, 13, 14, 15, 16, 17, 18, 0] rfl
          have hD := hD.sub (ws' := [(h3, .inr (2, [.ref kn, .int (iZ nx), .int (iZ sz)])), (kn, .inl (Y 3, 10, .inr (.inr (.inr (.inr (aR hk)))))), (hk ix, .inr (0, [.int (iZ (Kk 0 0)), .int (iZ (Kk 0 1)), .int (iZ (Kk 0 2)), .int (iZ (Kk 0 3)), .int (iZ (Kk 0 4)), .int (iZ (Kk 0 5)), .int (iZ (Kk 0 6)), .ref (adk 1), .ref (adk 2), .ref (adk 3), .ref (adk 4), .ref (adk 5), .ref (adk 6), .ref (adk 7)])), (adk 1, .inl (Y 0, 6, .inl (aI (Kk 1)))), (adk 2, .inl (Y 0, 6, .inl (aI (Kk 2)))), (adk 3, .inl (Y 0, 6, .inl (aI (Kk 3)))), (adk 4, .inl (Y 1, 6, .inl (aI (Kk 4)))), (adk 5, .inl (Y 1, 6, .inl (aI (Kk 5)))), (adk 6, .inl (Y 0, 7, .inl (aI (Kk 6)))), (adk 7, .inl (Y 0, 7, .inl (aI (Kk 7)))), (h, .inr (0, [.int (iZ (K 0 0)), .int (iZ (K 0 1)), .int (iZ (K 0 2)), .int (iZ (K 0 3)), .int (iZ (K 0 4)), .int (iZ (K 0 5)), .int (iZ (K 0 6)), .ref (ad 1), .ref (ad 2), .ref (ad 3), .ref (ad 4), .ref (ad 5), .ref (ad 6), .ref (ad 7)])), (ad 1, .inl (Y 0, 6, .inl (aI (K 1)))), (ad 2, .inl (Y 0, 6, .inl (aI (K 2)))), (ad 3, .inl (Y 0, 6, .inl (aI (K 3)))), (ad 4, .inl (Y 1, 6, .inl (aI (K 4)))), (ad 5, .inl (Y 1, 6, .inl (aI (K 5)))), (ad 6, .inl (Y 0, 7, .inl (aI (K 6)))), (ad 7, .inl (Y 0, 7, .inl (aI (K 7))))] ++ [(hv, .inr (6, [.ref h7, .ref h, .ref hto, .ref h3, .ref h4, .ref h5, .ref h6, .ref im, .ref ik]))]) [1, 2, 3, 4, 5, 6, 7, 8, 9, 10, 11, 12, 13, 14, 15, 16, 17, 18, 0] (by decide) rfl
          refine mu_V (As := [.ref h]) (rest := []) (wc := [(h3, .inr (2, [.ref kn, .int (iZ nx), .int (iZ sz)])), (kn, .inl (Y 3, 10, .inr (.inr (.inr (.inr (aR hk)))))), (hk ix, .inr (0, [.int (iZ (Kk 0 0)), .int (iZ (Kk 0 1)), .int (iZ (Kk 0 2)), .int (iZ (Kk 0 3)), .int (iZ (Kk 0 4)), .int (iZ (Kk 0 5)), .int (iZ (Kk 0 6)), .ref (adk 1), .ref (adk 2), .ref (adk 3), .ref (adk 4), .ref (adk 5), .ref (adk 6), .ref (adk 7)])), (adk 1, .inl (Y 0, 6, .inl (aI (Kk 1)))), (adk 2, .inl (Y 0, 6, .inl (aI (Kk 2)))), (adk 3, .inl (Y 0, 6, .inl (aI (Kk 3)))), (adk 4, .inl (Y 1, 6, .inl (aI (Kk 4)))), (adk 5, .inl (Y 1, 6, .inl (aI (Kk 5)))), (adk 6, .inl (Y 0, 7, .inl (aI (Kk 6)))), (adk 7, .inl (Y 0, 7, .inl (aI (Kk 7)))), (h, .inr (0, [.int (iZ (K 0 0)), .int (iZ (K 0 1)), .int (iZ (K 0 2)), .int (iZ (K 0 3)), .int (iZ (K 0 4)), .int (iZ (K 0 5)), .int (iZ (K 0 6)), .ref (ad 1), .ref (ad 2), .ref (ad 3), .ref (ad 4), .ref (ad 5), .ref (ad 6), .ref (ad 7)])), (ad 1, .inl (Y 0, 6, .inl (aI (K 1)))), (ad 2, .inl (Y 0, 6, .inl (aI (K 2)))), (ad 3, .inl (Y 0, 6, .inl (aI (K 3)))), (ad 4, .inl (Y 1, 6, .inl (aI (K 4)))), (ad 5, .inl (Y 1, 6, .inl (aI (K 5)))), (ad 6, .inl (Y 0, 7, .inl (aI (K 6)))), (ad 7, .inl (Y 0, 7, .inl (aI (K 7))))]) (wc' := paW Y h3 kn hk ((nx + 1) % 10) (min (sz + 1) 10) ++ (cmW Y (hk ix) adk K ++ cmW Y h ad K)) (F := [(hv, .inr (6, [.ref h7, .ref h, .ref hto, .ref h3, .ref h4, .ref h5, .ref h6, .ref im, .ref ik]))]) ⟨hx, hb, hml, hown, hts⟩ (c_X2_remember l G Y h3 kn hk nx sz ix adk Kk h ad K hW (by omega)) (cwV 1 hts gX6_plants_X2_remember rfl rfl rfl (by decide +kernel) ⟨Nat.le_of_ble_eq_true rfl, Nat.le_of_ble_eq_true rfl⟩) hK hP hD hS 0 rfl rfl (Eq.refl [h3, kn, hk ix, adk 1, adk 2, adk 3, adk 4, adk 5, adk 6, adk 7, h, ad 1, ad 2, ad 3, ad 4, ad 5, ad 6, ad 7]) rfl hl.1 rfl (Nat.le_of_ble_eq_true rfl) dX6_plants_59 ⟨Nat.zero_le _, Nat.zero_le _⟩ (fun H locs hP hD hS => ?_)
          show W _ _ _ _ _ _ _ _ _ _ _ _ _ _ _ (F0 _ _ _ [])
          replace hP : va_P G vwCl [(h3, .inr (2, [.ref kn, .int (iZ ((nx + 1) % 10)), .int (iZ (min (sz + 1) 10))])), (kn, .inl (Y 3, 10, .inr (.inr (.inr (.inr (aR hk)))))), (hk ix, .inr (0, [.int (iZ (K 0 0)), .int (iZ (K 0 1)), .int (iZ (K 0 2)), .int (iZ (K 0 3)), .int (iZ (K 0 4)), .int (iZ (K 0 5)), .int (iZ (K 0 6)), .ref (adk 1), .ref (adk 2), .ref (adk 3), .ref (adk 4), .ref (adk 5), .ref (adk 6), .ref (adk 7)])), (adk 1, .inl (Y 0, 6, .inl (aI (K 1)))), (adk 2, .inl (Y 0, 6, .inl (aI (K 2)))), (adk 3, .inl (Y 0, 6, .inl (aI (K 3)))), (adk 4, .inl (Y 1, 6, .inl (aI (K 4)))), (adk 5, .inl (Y 1, 6, .inl (aI (K 5)))), (adk 6, .inl (Y 0, 7, .inl (aI (K 6)))), (adk 7, .inl (Y 0, 7, .inl (aI (K 7)))), (h, .inr (0, [.int (iZ (K 0 0)), .int (iZ (K 0 1)), .int (iZ (K 0 2)), .int (iZ (K 0 3)), .int (iZ (K 0 4)), .int (iZ (K 0 5)), .int (iZ (K 0 6)), .ref (ad 1), .ref (ad 2), .ref (ad 3), .ref (ad 4), .ref (ad 5), .ref (ad 6), .ref (ad 7)])), (ad 1, .inl (Y 0, 6, .inl (aI (K 1)))), (ad 2, .inl (Y 0, 6, .inl (aI (K 2)))), (ad 3, .inl (Y 0, 6, .inl (aI (K 3)))), (ad 4, .inl (Y 1, 6, .inl (aI (K 4)))), (ad 5, .inl (Y 1, 6, .inl (aI (K 5)))), (ad 6, .inl (Y 0, 7, .inl (aI (K 6)))), (ad 7, .inl (Y 0, 7, .inl (aI (K 7)))), (hv, .inr (6, [.ref h7, .ref h, .ref hto, .ref h3, .ref h4, .ref h5, .ref h6, .ref im, .ref ik]))] H := hP
          replace hD : va_D _ [(h3, .inr (2, [.ref kn, .int (iZ ((nx + 1) % 10)), .int (iZ (min (sz + 1) 10))])), (kn, .inl (Y 3, 10, .inr (.inr (.inr (.inr (aR hk)))))), (hk ix, .inr (0, [.int (iZ (K 0 0)), .int (iZ (K 0 1)), .int (iZ (K 0 2)), .int (iZ (K 0 3)), .int (iZ (K 0 4)), .int (iZ (K 0 5)), .int (iZ (K 0 6)), .ref (adk 1), .ref (adk 2), .ref (adk 3), .ref (adk 4), .ref (adk 5), .ref (adk 6), .ref (adk 7)])), (adk 1, .inl (Y 0, 6, .inl (aI (K 1)))), (adk 2, .inl (Y 0, 6, .inl (aI (K 2)))), (adk 3, .inl (Y 0, 6, .inl (aI (K 3)))), (adk 4, .inl (Y 1, 6, .inl (aI (K 4)))), (adk 5, .inl (Y 1, 6, .inl (aI (K 5)))), (adk 6, .inl (Y 0, 7, .inl (aI (K 6)))), (adk 7, .inl (Y 0, 7, .inl (aI (K 7)))), (h, .inr (0, [.int (iZ (K 0 0)), .int (iZ (K 0 1)), .int (iZ (K 0 2)), .int (iZ (K 0 3)), .int (iZ (K 0 4)), .int (iZ (K 0 5)), .int (iZ (K 0 6)), .ref (ad 1), .ref (ad 2), .ref (ad 3), .ref (ad 4), .ref (ad 5), .ref (ad 6), .ref (ad 7)])), (ad 1, .inl (Y 0, 6, .inl (aI (K 1)))), (ad 2, .inl (Y 0, 6, .inl (aI (K 2)))), (ad 3, .inl (Y 0, 6, .inl (aI (K 3)))), (ad 4, .inl (Y 1, 6, .inl (aI (K 4)))), (ad 5, .inl (Y 1, 6, .inl (aI (K 5)))), (ad 6, .inl (Y 0, 7, .inl (aI (K 6)))), (ad 7, .inl (Y 0, 7, .inl (aI (K 7)))), (hv, .inr (6, [.ref h7, .ref h, .ref hto, .ref h3, .ref h4, .ref h5, .ref h6, .ref im, .ref ik]))] := hD
          refine lv_aload_n hx hb dX6_plants_62 rfl (lv_at hl 0 rfl) ?_
          refine va_get (D := G) (ci := 6) (v := .ref h) (C := RX6) (T := TX6) (N := 9) hx hb hts hFX6 hown hK.1 hP 18 rfl rfl 1 (by decide) kf19 (fun _ h9 => h9) rfl dX6_plants_63 ?_
          refine lv_iload_n hx hb dX6_plants_66 rfl (lv_at hl 1 rfl) ?_
          refine z_iconst hx hb dX6_plants_67 ?_
          refine z_iconst hx hb dX6_plants_68 ?_
          refine lv_iload_n hx hb dX6_plants_69 rfl (lv_at hl 2 rfl) ?_
          have hP := hP.sub (ws' := [(h, .inr (0, [.int (iZ (K 0 0)), .int (iZ (K 0 1)), .int (iZ (K 0 2)), .int (iZ (K 0 3)), .int (iZ (K 0 4)), .int (iZ (K 0 5)), .int (iZ (K 0 6)), .ref (ad 1), .ref (ad 2), .ref (ad 3), .ref (ad 4), .ref (ad 5), .ref (ad 6), .ref (ad 7)])), (ad 1, .inl (Y 0, 6, .inl (aI (K 1)))), (ad 2, .inl (Y 0, 6, .inl (aI (K 2)))), (ad 3, .inl (Y 0, 6, .inl (aI (K 3)))), (ad 4, .inl (Y 1, 6, .inl (aI (K 4)))), (ad 5, .inl (Y 1, 6, .inl (aI (K 5)))), (ad 6, .inl (Y 0, 7, .inl (aI (K 6)))), (ad 7, .inl (Y 0, 7, .inl (aI (K 7))))] ++ [(h3, .inr (2, [.ref kn, .int (iZ ((nx + 1) % 10)), .int (iZ (min (sz + 1) 10))])), (kn, .inl (Y 3, 10, .inr (.inr (.inr (.inr (aR hk)))))), (hk ix, .inr (0, [.int (iZ (K 0 0)), .int (iZ (K 0 1)), .int (iZ (K 0 2)), .int (iZ (K 0 3)), .int (iZ (K 0 4)), .int (iZ (K 0 5)), .int (iZ (K 0 6)), .ref (adk 1), .ref (adk 2), .ref (adk 3), .ref (adk 4), .ref (adk 5), .ref (adk 6), .ref (adk 7)])), (adk 1, .inl (Y 0, 6, .inl (aI (K 1)))), (adk 2, .inl (Y 0, 6, .inl (aI (K 2)))), (adk 3, .inl (Y 0, 6, .inl (aI (K 3)))), (adk 4, .inl (Y 1, 6, .inl (aI (K 4)))), (adk 5, .inl (Y 1, 6, .inl (aI (K 5)))), (adk 6, .inl (Y 0, 7, .inl (aI (K 6)))), (adk 7, .inl (Y 0, 7, .inl (aI (K 7)))), (hv, .inr (6, [.ref h7, .ref h, .ref hto, .ref h3, .ref h4, .ref h5, .ref h6, .ref im, .ref ik]))]) [10, 11, 12, 13, 14, 15, 16, 17, 0, 1, 2, 3, 4, 5, 6, 7, 8, 9, 18] rfl
          have hD := hD.sub (ws' := [(h, .inr (0, [.int (iZ (K 0 0)), .int (iZ (K 0 1)), .int (iZ (K 0 2)), .int (iZ (K 0 3)), .int (iZ (K 0 4)), .int (iZ (K 0 5)), .int (iZ (K 0 6)), .ref (ad 1), .ref (ad 2), .ref (ad 3), .ref (ad 4), .ref (ad 5), .ref (ad 6), .ref (ad 7)])), (ad 1, .inl (Y 0, 6, .inl (aI (K 1)))), (ad 2, .inl (Y 0, 6, .inl (aI (K 2)))), (ad 3, .inl (Y 0, 6, .inl (aI (K 3)))), (ad 4, .inl (Y 1, 6, .inl (aI (K 4)))), (ad 5, .inl (Y 1, 6, .inl (aI (K 5)))), (ad 6, .inl (Y 0, 7, .inl (aI (K 6)))), (ad 7, .inl (Y 0, 7, .inl (aI (K 7))))] ++ [(h3, .inr (2, [.ref kn, .int (iZ ((nx + 1) % 10)), .int (iZ (min (sz + 1) 10))])), (kn, .inl (Y 3, 10, .inr (.inr (.inr (.inr (aR hk)))))), (hk ix, .inr (0, [.int (iZ (K 0 0)), .int (iZ (K 0 1)), .int (iZ (K 0 2)), .int (iZ (K 0 3)), .int (iZ (K 0 4)), .int (iZ (K 0 5)), .int (iZ (K 0 6)), .ref (adk 1), .ref (adk 2), .ref (adk 3), .ref (adk 4), .ref (adk 5), .ref (adk 6), .ref (adk 7)])), (adk 1, .inl (Y 0, 6, .inl (aI (K 1)))), (adk 2, .inl (Y 0, 6, .inl (aI (K 2)))), (adk 3, .inl (Y 0, 6, .inl (aI (K 3)))), (adk 4, .inl (Y 1, 6, .inl (aI (K 4)))), (adk 5, .inl (Y 1, 6, .inl (aI (K 5)))), (adk 6, .inl (Y 0, 7, .inl (aI (K 6)))), (adk 7, .inl (Y 0, 7, .inl (aI (K 7)))), (hv, .inr (6, [.ref h7, .ref h, .ref hto, .ref h3, .ref h4, .ref h5, .ref h6, .ref im, .ref ik]))]) [10, 11, 12, 13, 14, 15, 16, 17, 0, 1, 2, 3, 4, 5, 6, 7, 8, 9, 18] (by decide) rfl
          refine mu_V (As := [.int (iZ a), .int (iZ 1), .int (iZ 0), .int (iZ b)]) (rest := []) (wc := [(h, .inr (0, [.int (iZ (K 0 0)), .int (iZ (K 0 1)), .int (iZ (K 0 2)), .int (iZ (K 0 3)), .int (iZ (K 0 4)), .int (iZ (K 0 5)), .int (iZ (K 0 6)), .ref (ad 1), .ref (ad 2), .ref (ad 3), .ref (ad 4), .ref (ad 5), .ref (ad 6), .ref (ad 7)])), (ad 1, .inl (Y 0, 6, .inl (aI (K 1)))), (ad 2, .inl (Y 0, 6, .inl (aI (K 2)))), (ad 3, .inl (Y 0, 6, .inl (aI (K 3)))), (ad 4, .inl (Y 1, 6, .inl (aI (K 4)))), (ad 5, .inl (Y 1, 6, .inl (aI (K 5)))), (ad 6, .inl (Y 0, 7, .inl (aI (K 6)))), (ad 7, .inl (Y 0, 7, .inl (aI (K 7))))]) (wc' := cmW Y h ad (adT K a 1 0 b)) (F := [(h3, .inr (2, [.ref kn, .int (iZ ((nx + 1) % 10)), .int (iZ (min (sz + 1) 10))])), (kn, .inl (Y 3, 10, .inr (.inr (.inr (.inr (aR hk)))))), (hk ix, .inr (0, [.int (iZ (K 0 0)), .int (iZ (K 0 1)), .int (iZ (K 0 2)), .int (iZ (K 0 3)), .int (iZ (K 0 4)), .int (iZ (K 0 5)), .int (iZ (K 0 6)), .ref (adk 1), .ref (adk 2), .ref (adk 3), .ref (adk 4), .ref (adk 5), .ref (adk 6), .ref (adk 7)])), (adk 1, .inl (Y 0, 6, .inl (aI (K 1)))), (adk 2, .inl (Y 0, 6, .inl (aI (K 2)))), (adk 3, .inl (Y 0, 6, .inl (aI (K 3)))), (adk 4, .inl (Y 1, 6, .inl (aI (K 4)))), (adk 5, .inl (Y 1, 6, .inl (aI (K 5)))), (adk 6, .inl (Y 0, 7, .inl (aI (K 6)))), (adk 7, .inl (Y 0, 7, .inl (aI (K 7)))), (hv, .inr (6, [.ref h7, .ref h, .ref hto, .ref h3, .ref h4, .ref h5, .ref h6, .ref im, .ref ik]))]) ⟨hx, hb, hml, hown, hts⟩ (c_X0_addTree l G Y h ad K a 1 0 b (by omega)) (cwV 4 hts gX6_plants_X0_addTree rfl rfl rfl (by decide +kernel) ⟨Nat.le_of_ble_eq_true rfl, Nat.le_of_ble_eq_true rfl⟩) hK hP hD hS 0 rfl rfl (Eq.refl [h, ad 1, ad 2, ad 3, ad 4, ad 5, ad 6, ad 7]) rfl hl.1 rfl (Nat.le_of_ble_eq_true rfl) dX6_plants_70 ⟨Nat.zero_le _, Nat.zero_le _⟩ (fun H locs hP hD hS => ?_)
          show W _ _ _ _ _ _ _ _ _ _ _ _ _ _ _ (F0 _ _ _ [])
          replace hP : va_P G vwCl [(h, .inr (0, [.int (iZ ((adT K a 1 0 b) 0 0)), .int (iZ ((adT K a 1 0 b) 0 1)), .int (iZ ((adT K a 1 0 b) 0 2)), .int (iZ ((adT K a 1 0 b) 0 3)), .int (iZ ((adT K a 1 0 b) 0 4)), .int (iZ ((adT K a 1 0 b) 0 5)), .int (iZ ((adT K a 1 0 b) 0 6)), .ref (ad 1), .ref (ad 2), .ref (ad 3), .ref (ad 4), .ref (ad 5), .ref (ad 6), .ref (ad 7)])), (ad 1, .inl (Y 0, 6, .inl (aI ((adT K a 1 0 b) 1)))), (ad 2, .inl (Y 0, 6, .inl (aI ((adT K a 1 0 b) 2)))), (ad 3, .inl (Y 0, 6, .inl (aI ((adT K a 1 0 b) 3)))), (ad 4, .inl (Y 1, 6, .inl (aI ((adT K a 1 0 b) 4)))), (ad 5, .inl (Y 1, 6, .inl (aI ((adT K a 1 0 b) 5)))), (ad 6, .inl (Y 0, 7, .inl (aI ((adT K a 1 0 b) 6)))), (ad 7, .inl (Y 0, 7, .inl (aI ((adT K a 1 0 b) 7)))), (h3, .inr (2, [.ref kn, .int (iZ ((nx + 1) % 10)), .int (iZ (min (sz + 1) 10))])), (kn, .inl (Y 3, 10, .inr (.inr (.inr (.inr (aR hk)))))), (hk ix, .inr (0, [.int (iZ (K 0 0)), .int (iZ (K 0 1)), .int (iZ (K 0 2)), .int (iZ (K 0 3)), .int (iZ (K 0 4)), .int (iZ (K 0 5)), .int (iZ (K 0 6)), .ref (adk 1), .ref (adk 2), .ref (adk 3), .ref (adk 4), .ref (adk 5), .ref (adk 6), .ref (adk 7)])), (adk 1, .inl (Y 0, 6, .inl (aI (K 1)))), (adk 2, .inl (Y 0, 6, .inl (aI (K 2)))), (adk 3, .inl (Y 0, 6, .inl (aI (K 3)))), (adk 4, .inl (Y 1, 6, .inl (aI (K 4)))), (adk 5, .inl (Y 1, 6, .inl (aI (K 5)))), (adk 6, .inl (Y 0, 7, .inl (aI (K 6)))), (adk 7, .inl (Y 0, 7, .inl (aI (K 7)))), (hv, .inr (6, [.ref h7, .ref h, .ref hto, .ref h3, .ref h4, .ref h5, .ref h6, .ref im, .ref ik]))] H := hP
          replace hD : va_D _ [(h, .inr (0, [.int (iZ ((adT K a 1 0 b) 0 0)), .int (iZ ((adT K a 1 0 b) 0 1)), .int (iZ ((adT K a 1 0 b) 0 2)), .int (iZ ((adT K a 1 0 b) 0 3)), .int (iZ ((adT K a 1 0 b) 0 4)), .int (iZ ((adT K a 1 0 b) 0 5)), .int (iZ ((adT K a 1 0 b) 0 6)), .ref (ad 1), .ref (ad 2), .ref (ad 3), .ref (ad 4), .ref (ad 5), .ref (ad 6), .ref (ad 7)])), (ad 1, .inl (Y 0, 6, .inl (aI ((adT K a 1 0 b) 1)))), (ad 2, .inl (Y 0, 6, .inl (aI ((adT K a 1 0 b) 2)))), (ad 3, .inl (Y 0, 6, .inl (aI ((adT K a 1 0 b) 3)))), (ad 4, .inl (Y 1, 6, .inl (aI ((adT K a 1 0 b) 4)))), (ad 5, .inl (Y 1, 6, .inl (aI ((adT K a 1 0 b) 5)))), (ad 6, .inl (Y 0, 7, .inl (aI ((adT K a 1 0 b) 6)))), (ad 7, .inl (Y 0, 7, .inl (aI ((adT K a 1 0 b) 7)))), (h3, .inr (2, [.ref kn, .int (iZ ((nx + 1) % 10)), .int (iZ (min (sz + 1) 10))])), (kn, .inl (Y 3, 10, .inr (.inr (.inr (.inr (aR hk)))))), (hk ix, .inr (0, [.int (iZ (K 0 0)), .int (iZ (K 0 1)), .int (iZ (K 0 2)), .int (iZ (K 0 3)), .int (iZ (K 0 4)), .int (iZ (K 0 5)), .int (iZ (K 0 6)), .ref (adk 1), .ref (adk 2), .ref (adk 3), .ref (adk 4), .ref (adk 5), .ref (adk 6), .ref (adk 7)])), (adk 1, .inl (Y 0, 6, .inl (aI (K 1)))), (adk 2, .inl (Y 0, 6, .inl (aI (K 2)))), (adk 3, .inl (Y 0, 6, .inl (aI (K 3)))), (adk 4, .inl (Y 1, 6, .inl (aI (K 4)))), (adk 5, .inl (Y 1, 6, .inl (aI (K 5)))), (adk 6, .inl (Y 0, 7, .inl (aI (K 6)))), (adk 7, .inl (Y 0, 7, .inl (aI (K 7)))), (hv, .inr (6, [.ref h7, .ref h, .ref hto, .ref h3, .ref h4, .ref h5, .ref h6, .ref im, .ref ik]))] := hD
          refine lv_aload_n hx hb dX6_plants_73 rfl (lv_at hl 0 rfl) ?_
          refine va_get (D := G) (ci := 6) (v := .ref h) (C := RX6) (T := TX6) (N := 9) hx hb hts hFX6 hown hK.1 hP 18 rfl rfl 1 (by decide) kf19 (fun _ h9 => h9) rfl dX6_plants_74 ?_
          refine va_get (D := G) (ci := 0) (v := .int (iZ ((adT K a 1 0 b) 0 2))) (C := RX0) (T := TX0) (N := 14) hx hb hts hFX0 hown hK.1 hP 0 rfl rfl 2 (by decide) kf149 (fun _ h9 => h9) rfl dX6_plants_77 ?_
          refine z_iconst hx hb dX6_plants_80 ?_
          refine z_isub hx hb dX6_plants_81 ?_
          refine z_top (show ((adT K a 1 0 b) 0 2 - 1) = rPlants K a b from ?_) ?_
          · unfold rPlants; rw [if_pos (by omega), if_neg (by rw [show htA K a (K 0 2).toNat = false by assumption]; exact Bool.false_ne_true), if_pos (by omega)]; show K 0 2 + 1 - 1 = K 0 2; omega
          have ef : fPlants K a b = true := decide_eq_true (⟨by omega, by assumption, by omega⟩)
          have hP9 : va_P G vwCl (svO Y hv h7 h hto h3 h4 h5 h6 im ik ++ opW Y h3 kn hk nx sz ix adk Kk h ad K (fPlants K a b) (adT K a 1 0 b)) H := by rw [ef]; exact hP.sub [18, 8, 9, 10, 11, 12, 13, 14, 15, 16, 17, 0, 1, 2, 3, 4, 5, 6, 7] rfl
          exact W.iret (v := iZ (rPlants K a b)) hx hb hr (fun t9 ht9 _ => ⟨rfl, by rw [ht9]; exact hP9, hS.F ht9⟩) hS.2.2 dX6_plants_82
        · skip
          refine z_bipush hx hb dX6_plants_48 (by decide) ?_
          refine z_top (show (-3) = rPlants K a b from ?_) ?_
          · unfold rPlants; (repeat' split) <;> first | rfl | omega | (simp_all; done)
          have ef : fPlants K a b = false := decide_eq_false (by omega)
          have hP9 : va_P G vwCl (svO Y hv h7 h hto h3 h4 h5 h6 im ik ++ opW Y h3 kn hk nx sz ix adk Kk h ad K (fPlants K a b) (adT K a 1 0 b)) H := by rw [ef]; exact hP.sub [0, 1, 2, 3, 4, 5, 6, 7, 8, 9, 10, 11, 12, 13, 14, 15, 16, 17, 18] rfl
          exact W.iret (v := iZ (rPlants K a b)) hx hb hr (fun t9 ht9 _ => ⟨rfl, by rw [ht9]; exact hP9, hS.F ht9⟩) hS.2.2 dX6_plants_50
      · skip
        refine z_bipush hx hb dX6_plants_34 (by decide) ?_
        refine z_top (show (-2) = rPlants K a b from ?_) ?_
        · unfold rPlants; (repeat' split) <;> first | rfl | omega | (simp_all; done)
        have ef : fPlants K a b = false := decide_eq_false (by rintro ⟨-, h2, -⟩; simp_all)
        have hP9 : va_P G vwCl (svO Y hv h7 h hto h3 h4 h5 h6 im ik ++ opW Y h3 kn hk nx sz ix adk Kk h ad K (fPlants K a b) (adT K a 1 0 b)) H := by rw [ef]; exact hP.sub [0, 1, 2, 3, 4, 5, 6, 7, 8, 9, 10, 11, 12, 13, 14, 15, 16, 17, 18] rfl
        exact W.iret (v := iZ (rPlants K a b)) hx hb hr (fun t9 ht9 _ => ⟨rfl, by rw [ht9]; exact hP9, hS.F ht9⟩) hS.2.2 dX6_plants_36
    · skip
      have c_2 := of_decide_eq_false c_2
      refine z_iconst hx hb dX6_plants_21 ?_
      refine z_top (show (-1) = rPlants K a b from ?_) ?_
      · unfold rPlants; (repeat' split) <;> first | rfl | omega | (simp_all; done)
      have ef : fPlants K a b = false := decide_eq_false (by omega)
      have hP9 : va_P G vwCl (svO Y hv h7 h hto h3 h4 h5 h6 im ik ++ opW Y h3 kn hk nx sz ix adk Kk h ad K (fPlants K a b) (adT K a 1 0 b)) H := by rw [ef]; exact hP.sub [0, 1, 2, 3, 4, 5, 6, 7, 8, 9, 10, 11, 12, 13, 14, 15, 16, 17, 18] rfl
      exact W.iret (v := iZ (rPlants K a b)) hx hb hr (fun t9 ht9 _ => ⟨rfl, by rw [ht9]; exact hP9, hS.F ht9⟩) hS.2.2 dX6_plants_22

set_option maxHeartbeats 4000000 in
set_option maxRecDepth 100000 in
theorem c_X6_fells (l : Launch) (G : va_G) (Y : Nat → ClassId) (hv h7 h hto h3 h4 h5 h6 im ik : Nat) (kn : Nat) (hk : Nat → Nat) (nx sz : Int) (ix : Nat) (adk : Nat → Nat) (Kk : Kom) (ad : Nat → Nat) (K : Kom) (hW : cWF K) (ro : (nx = ix ∧ ix < 10) ∧ 0 ≤ sz ∧ sz ≤ 10) (a : Int) (r : zR a) : Met l yX6_fells wsX6_fells ({ frames := 2, cells := 0, slots := 0, locals := 43 }) (mP G Y [.ref hv, .int (iZ a)] (svO Y hv h7 h hto h3 h4 h5 h6 im ik ++ (paW Y h3 kn hk nx sz ++ (cmW Y (hk ix) adk Kk ++ cmW Y h ad K)))) (mQ G (svO Y hv h7 h hto h3 h4 h5 h6 im ik ++ (paW Y h3 kn hk nx sz ++ (cmW Y (hk ix) adk Kk ++ cmW Y h ad K))) (some (.int (iZ (rFells K a)))) (svO Y hv h7 h hto h3 h4 h5 h6 im ik ++ opW Y h3 kn hk nx sz ix adk Kk h ad K (fFells K a) (kFells K a))) 0 0 (fun q => q ∈ List.map Prod.fst (svO Y hv h7 h hto h3 h4 h5 h6 im ik ++ (paW Y h3 kn hk nx sz ++ (cmW Y (hk ix) adk Kk ++ cmW Y h ad K)))) := by
  refine Met.ofW (cc := cX6_fells) (maxL := 3) (ret := (some .int)) (by decide) rfl ?_
  intro p e s m args below meth c s₁ B hml hv
  obtain ⟨rfl, hK, hP, hD0⟩ := hv
  have hx := B.exec
  have hb := B.bytes
  have hr := B.returns
  have hts := atoms_spec (ws := wsX6_fells) B.pre
  have hown : s.vm.findClass RX6 = some m.cls := findClass_of_methodNamed B.named
  have hlocks := B.notSynchronized
  have hFX0 : ∀ w ∈ wsX00, w ∈ wsX6_fells := by decide +kernel
  have hFX6 : ∀ w ∈ wsX60, w ∈ wsX6_fells := by decide +kernel
  have kf19 := (hts (.fieldLink RX6 19 "ShadeVotes" "present" "LShadeVotes$Commune;") (by decide +kernel))
  have kf114 := (hts (.fieldLink RX6 114 "ShadeVotes$Commune" "treeFelled" "[Z") (by decide +kernel))
  have kf29 := (hts (.fieldLink RX6 29 "ShadeVotes" "past" "LShadeVotes$Past;") (by decide +kernel))
  have kf97 := (hts (.fieldLink RX6 97 "ShadeVotes$Commune" "treeHeight" "[I") (by decide +kernel))
  have hD := va_D_self hD0
  have hS : va_S (fun q => q ∈ List.map Prod.fst (svO Y hv h7 h hto h3 h4 h5 h6 im ik ++ (paW Y h3 kn hk nx sz ++ (cmW Y (hk ix) adk Kk ++ cmW Y h ad K)))) s.heap s.heap [] := va_S.rf
  obtain ⟨H, hHe⟩ : ∃ H, H = s.heap := ⟨_, rfl⟩
  rw [← hHe] at hP
  replace hS : va_S (fun q => q ∈ List.map Prod.fst (svO Y hv h7 h hto h3 h4 h5 h6 im ik ++ (paW Y h3 kn hk nx sz ++ (cmW Y (hk ix) adk Kk ++ cmW Y h ad K)))) s.heap H [] := by rw [hHe]; exact hS
  have hl := lv_entry ([.ref hv, .int (iZ a)]) (n := 3) (Nat.le_of_ble_eq_true rfl)
  rw [lg_entry_eq]
  generalize (lg_sl ([.ref hv, .int (iZ a)]) ++ List.replicate (3 - (lg_sl ([.ref hv, .int (iZ a)])).length) Slot.unset).toArray = ls at hl ⊢
  replace hl : lv_has ls 3 [(0, .ref hv), (1, .int (iZ a))] := hl
  obtain ⟨locs, hLe⟩ : ∃ locs : List Loc, locs = [] := ⟨_, rfl⟩
  rw [← hLe] at hS ⊢
  have hW0 : ∀ {Q : State → Prop} {g : JFrame}, W p l e ({ frames := 2, cells := 0, slots := 0, locals := 43 }) s m [.ref hv, .int (iZ a)].toArray below meth c H locs 0 0 Q g → W p l e ({ frames := 2, cells := 0, slots := 0, locals := 43 }) s m [.ref hv, .int (iZ a)].toArray below meth c s.heap locs 0 0 Q g := fun h => by rw [← hHe]; exact h
  refine hW0 ?_
  clear hW0 hHe hLe
  have h0 := hW.1
  have hnc := hW.nc
  refine lv_aload_n hx hb dX6_fells_0 rfl (lv_at hl 0 rfl) ?_
  refine va_get (D := G) (ci := 6) (v := .ref h) (C := RX6) (T := TX6) (N := 9) hx hb hts hFX6 hown hK.1 hP 0 rfl rfl 1 (by decide) kf19 (fun _ h9 => h9) rfl dX6_fells_1 ?_
  refine lv_iload_n hx hb dX6_fells_4 rfl (lv_at hl 1 rfl) ?_
  refine ro_V (As := [.int (iZ a)]) (rest := []) ⟨hx, hb, hml, hown, hts⟩ (c_X0_hasTree l G Y h ad K hW a (by omega)) (cwV 1 hts gX6_fells_X0_hasTree rfl rfl rfl (by decide +kernel) ⟨Nat.le_of_ble_eq_true rfl, Nat.le_of_ble_eq_true rfl⟩) hK (hP.sub (ws' := cmW Y h ad K) [11, 12, 13, 14, 15, 16, 17, 18] rfl) 0 rfl rfl rfl hl.1 rfl (Nat.le_of_ble_eq_true rfl) dX6_fells_5 ⟨Nat.zero_le _, Nat.zero_le _⟩ ?_
  refine z_ifb_ne (tgt := 13) hx hb dX6_fells_8 (by decide) (fun c_1 => ?_) (fun c_1 => ?_)
  · skip
    have c_1 := of_decide_eq_true c_1
    refine lv_aload_n hx hb dX6_fells_13 rfl (lv_at hl 0 rfl) ?_
    refine va_get (D := G) (ci := 6) (v := .ref h) (C := RX6) (T := TX6) (N := 9) hx hb hts hFX6 hown hK.1 hP 0 rfl rfl 1 (by decide) kf19 (fun _ h9 => h9) rfl dX6_fells_14 ?_
    refine va_get (D := G) (ci := 0) (v := .ref (ad 5)) (C := RX0) (T := TX0) (N := 14) hx hb hts hFX0 hown hK.1 hP 11 rfl rfl 11 (by decide) kf114 (fun _ h9 => h9) rfl dX6_fells_17 ?_
    refine lv_iload_n hx hb dX6_fells_20 rfl (lv_at hl 1 rfl) ?_
    refine z_zald hx hb hK.1 hP 16 1 rfl rfl ((a).toNat) (by omega) (by decide) dX6_fells_21 ?_
    have hb_2 := hW.2.1 ((a).toNat) (by omega)
    refine z_if_eq (tgt := 28) hx hb dX6_fells_22 (by decide) (by omega) (fun c_3 => ?_) (fun c_3 => ?_)
    · skip
      refine lv_aload_n hx hb dX6_fells_28 rfl (lv_at hl 0 rfl) ?_
      refine va_get (D := G) (ci := 6) (v := .ref h3) (C := RX6) (T := TX6) (N := 9) hx hb hts hFX6 hown hK.1 hP 0 rfl rfl 3 (by decide) kf29 (fun _ h9 => h9) rfl dX6_fells_29 ?_
      refine lv_aload_n hx hb dX6_fells_32 rfl (lv_at hl 0 rfl) ?_
      refine va_get (D := G) (ci := 6) (v := .ref h) (C := RX6) (T := TX6) (N := 9) hx hb hts hFX6 hown hK.1 hP 0 rfl rfl 1 (by decide) kf19 (fun _ h9 => h9) rfl dX6_fells_33 ?_
      have hP := hP.sub (ws' := [(h3, .inr (2, [.ref kn, .int (iZ nx), .int (iZ sz)])), (kn, .inl (Y 3, 10, .inr (.inr (.inr (.inr (aR hk)))))), (hk ix, .inr (0, [.int (iZ (Kk 0 0)), .int (iZ (Kk 0 1)), .int (iZ (Kk 0 2)), .int (iZ (Kk 0 3)), .int (iZ (Kk 0 4)), .int (iZ (Kk 0 5)), .int (iZ (Kk 0 6)), .ref (adk 1), .ref (adk 2), .ref (adk 3), .ref (adk 4), .ref (adk 5), .ref (adk 6), .ref (adk 7)])), (adk 1, .inl (Y 0, 6, .inl (aI (Kk 1)))), (adk 2, .inl (Y 0, 6, .inl (aI (Kk 2)))), (adk 3, .inl (Y 0, 6, .inl (aI (Kk 3)))), (adk 4, .inl (Y 1, 6, .inl (aI (Kk 4)))), (adk 5, .inl (Y 1, 6, .inl (aI (Kk 5)))), (adk 6, .inl (Y 0, 7, .inl (aI (Kk 6)))), (adk 7, .inl (Y 0, 7, .inl (aI (Kk 7)))), (h, .inr (0, [.int (iZ (K 0 0)), .int (iZ (K 0 1)), .int (iZ (K 0 2)), .int (iZ (K 0 3)), .int (iZ (K 0 4)), .int (iZ (K 0 5)), .int (iZ (K 0 6)), .ref (ad 1), .ref (ad 2), .ref (ad 3), .ref (ad 4), .ref (ad 5), .ref (ad 6), .ref (ad 7)])), (ad 1, .inl (Y 0, 6, .inl (aI (K 1)))), (ad 2, .inl (Y 0, 6, .inl (aI (K 2)))), (ad 3, .inl (Y 0, 6, .inl (aI (K 3)))), (ad 4, .inl (Y 1, 6, .inl (aI (K 4)))), (ad 5, .inl (Y 1, 6, .inl (aI (K 5)))), (ad 6, .inl (Y 0, 7, .inl (aI (K 6)))), (ad 7, .inl (Y 0, 7, .inl (aI (K 7))))] ++ [(hv, .inr (6, [.ref h7, .ref h, .ref hto, .ref h3, .ref h4, .ref h5, .ref h6, .ref im, .ref ik]))]) [1, 2, 3, 4, 5, 6, 7, 8, 9, 10, 11, 12, 13, 14, 15, 16, 17, 18, 0] rfl
      have hD := hD.sub (ws' := [(h3, .inr (2, [.ref kn, .int (iZ nx), .int (iZ sz)])), (kn, .inl (Y 3, 10, .inr (.inr (.inr (.inr (aR hk)))))), (hk ix, .inr (0, [.int (iZ (Kk 0 0)), .int (iZ (Kk 0 1)), .int (iZ (Kk 0 2)), .int (iZ (Kk 0 3)), .int (iZ (Kk 0 4)), .int (iZ (Kk 0 5)), .int (iZ (Kk 0 6)), .ref (adk 1), .ref (adk 2), .ref (adk 3), .ref (adk 4), .ref (adk 5), .ref (adk 6), .ref (adk 7)])), (adk 1, .inl (Y 0, 6, .inl (aI (Kk 1)))), (adk 2, .inl (Y 0, 6, .inl (aI (Kk 2)))), (adk 3, .inl (Y 0, 6, .inl (aI (Kk 3)))), (adk 4, .inl (Y 1, 6, .inl (aI (Kk 4)))), (adk 5, .inl (Y 1, 6, .inl (aI (Kk 5)))), (adk 6, .inl (Y 0, 7, .inl (aI (Kk 6)))), (adk 7, .inl (Y 0, 7, .inl (aI (Kk 7)))), (h, .inr (0, [.int (iZ (K 0 0)), .int (iZ (K 0 1)), .int (iZ (K 0 2)), .int (iZ (K 0 3)), .int (iZ (K 0 4)), .int (iZ (K 0 5)), .int (iZ (K 0 6)), .ref (ad 1), .ref (ad 2), .ref (ad 3), .ref (ad 4), .ref (ad 5), .ref (ad 6), .ref (ad 7)])), (ad 1, .inl (Y 0, 6, .inl (aI (K 1)))), (ad 2, .inl (Y 0, 6, .inl (aI (K 2)))), (ad 3, .inl (Y 0, 6, .inl (aI (K 3)))), (ad 4, .inl (Y 1, 6, .inl (aI (K 4)))), (ad 5, .inl (Y 1, 6, .inl (aI (K 5)))), (ad 6, .inl (Y 0, 7, .inl (aI (K 6)))), (ad 7, .inl (Y 0, 7, .inl (aI (K 7))))] ++ [(hv, .inr (6, [.ref h7, .ref h, .ref hto, .ref h3, .ref h4, .ref h5, .ref h6, .ref im, .ref ik]))]) [1, 2, 3, 4, 5, 6, 7, 8, 9, 10, 11, 12, 13, 14, 15, 16, 17, 18, 0] (by decide) rfl
      refine mu_V (As := [.ref h]) (rest := []) (wc := [(h3, .inr (2, [.ref kn, .int (iZ nx), .int (iZ sz)])), (kn, .inl (Y 3, 10, .inr (.inr (.inr (.inr (aR hk)))))), (hk ix, .inr (0, [.int (iZ (Kk 0 0)), .int (iZ (Kk 0 1)), .int (iZ (Kk 0 2)), .int (iZ (Kk 0 3)), .int (iZ (Kk 0 4)), .int (iZ (Kk 0 5)), .int (iZ (Kk 0 6)), .ref (adk 1), .ref (adk 2), .ref (adk 3), .ref (adk 4), .ref (adk 5), .ref (adk 6), .ref (adk 7)])), (adk 1, .inl (Y 0, 6, .inl (aI (Kk 1)))), (adk 2, .inl (Y 0, 6, .inl (aI (Kk 2)))), (adk 3, .inl (Y 0, 6, .inl (aI (Kk 3)))), (adk 4, .inl (Y 1, 6, .inl (aI (Kk 4)))), (adk 5, .inl (Y 1, 6, .inl (aI (Kk 5)))), (adk 6, .inl (Y 0, 7, .inl (aI (Kk 6)))), (adk 7, .inl (Y 0, 7, .inl (aI (Kk 7)))), (h, .inr (0, [.int (iZ (K 0 0)), .int (iZ (K 0 1)), .int (iZ (K 0 2)), .int (iZ (K 0 3)), .int (iZ (K 0 4)), .int (iZ (K 0 5)), .int (iZ (K 0 6)), .ref (ad 1), .ref (ad 2), .ref (ad 3), .ref (ad 4), .ref (ad 5), .ref (ad 6), .ref (ad 7)])), (ad 1, .inl (Y 0, 6, .inl (aI (K 1)))), (ad 2, .inl (Y 0, 6, .inl (aI (K 2)))), (ad 3, .inl (Y 0, 6, .inl (aI (K 3)))), (ad 4, .inl (Y 1, 6, .inl (aI (K 4)))), (ad 5, .inl (Y 1, 6, .inl (aI (K 5)))), (ad 6, .inl (Y 0, 7, .inl (aI (K 6)))), (ad 7, .inl (Y 0, 7, .inl (aI (K 7))))]) (wc' := paW Y h3 kn hk ((nx + 1) % 10) (min (sz + 1) 10) ++ (cmW Y (hk ix) adk K ++ cmW Y h ad K)) (F := [(hv, .inr (6, [.ref h7, .ref h, .ref hto, .ref h3, .ref h4, .ref h5, .ref h6, .ref im, .ref ik]))]) ⟨hx, hb, hml, hown, hts⟩ (c_X2_remember l G Y h3 kn hk nx sz ix adk Kk h ad K hW (by omega)) (cwV 1 hts gX6_fells_X2_remember rfl rfl rfl (by decide +kernel) ⟨Nat.le_of_ble_eq_true rfl, Nat.le_of_ble_eq_true rfl⟩) hK hP hD hS 0 rfl rfl (Eq.refl [h3, kn, hk ix, adk 1, adk 2, adk 3, adk 4, adk 5, adk 6, adk 7, h, ad 1, ad 2, ad 3, ad 4, ad 5, ad 6, ad 7]) rfl hl.1 rfl (Nat.le_of_ble_eq_true rfl) dX6_fells_36 ⟨Nat.zero_le _, Nat.zero_le _⟩ (fun H locs hP hD hS => ?_)
      show W _ _ _ _ _ _ _ _ _ _ _ _ _ _ _ (F0 _ _ _ [])
      replace hP : va_P G vwCl [(h3, .inr (2, [.ref kn, .int (iZ ((nx + 1) % 10)), .int (iZ (min (sz + 1) 10))])), (kn, .inl (Y 3, 10, .inr (.inr (.inr (.inr (aR hk)))))), (hk ix, .inr (0, [.int (iZ (K 0 0)), .int (iZ (K 0 1)), .int (iZ (K 0 2)), .int (iZ (K 0 3)), .int (iZ (K 0 4)), .int (iZ (K 0 5)), .int (iZ (K 0 6)), .ref (adk 1), .ref (adk 2), .ref (adk 3), .ref (adk 4), .ref (adk 5), .ref (adk 6), .ref (adk 7)])), (adk 1, .inl (Y 0, 6, .inl (aI (K 1)))), (adk 2, .inl (Y 0, 6, .inl (aI (K 2)))), (adk 3, .inl (Y 0, 6, .inl (aI (K 3)))), (adk 4, .inl (Y 1, 6, .inl (aI (K 4)))), (adk 5, .inl (Y 1, 6, .inl (aI (K 5)))), (adk 6, .inl (Y 0, 7, .inl (aI (K 6)))), (adk 7, .inl (Y 0, 7, .inl (aI (K 7)))), (h, .inr (0, [.int (iZ (K 0 0)), .int (iZ (K 0 1)), .int (iZ (K 0 2)), .int (iZ (K 0 3)), .int (iZ (K 0 4)), .int (iZ (K 0 5)), .int (iZ (K 0 6)), .ref (ad 1), .ref (ad 2), .ref (ad 3), .ref (ad 4), .ref (ad 5), .ref (ad 6), .ref (ad 7)])), (ad 1, .inl (Y 0, 6, .inl (aI (K 1)))), (ad 2, .inl (Y 0, 6, .inl (aI (K 2)))), (ad 3, .inl (Y 0, 6, .inl (aI (K 3)))), (ad 4, .inl (Y 1, 6, .inl (aI (K 4)))), (ad 5, .inl (Y 1, 6, .inl (aI (K 5)))), (ad 6, .inl (Y 0, 7, .inl (aI (K 6)))), (ad 7, .inl (Y 0, 7, .inl (aI (K 7)))), (hv, .inr (6, [.ref h7, .ref h, .ref hto, .ref h3, .ref h4, .ref h5, .ref h6, .ref im, .ref ik]))] H := hP
      replace hD : va_D _ [(h3, .inr (2, [.ref kn, .int (iZ ((nx + 1) % 10)), .int (iZ (min (sz + 1) 10))])), (kn, .inl (Y 3, 10, .inr (.inr (.inr (.inr (aR hk)))))), (hk ix, .inr (0, [.int (iZ (K 0 0)), .int (iZ (K 0 1)), .int (iZ (K 0 2)), .int (iZ (K 0 3)), .int (iZ (K 0 4)), .int (iZ (K 0 5)), .int (iZ (K 0 6)), .ref (adk 1), .ref (adk 2), .ref (adk 3), .ref (adk 4), .ref (adk 5), .ref (adk 6), .ref (adk 7)])), (adk 1, .inl (Y 0, 6, .inl (aI (K 1)))), (adk 2, .inl (Y 0, 6, .inl (aI (K 2)))), (adk 3, .inl (Y 0, 6, .inl (aI (K 3)))), (adk 4, .inl (Y 1, 6, .inl (aI (K 4)))), (adk 5, .inl (Y 1, 6, .inl (aI (K 5)))), (adk 6, .inl (Y 0, 7, .inl (aI (K 6)))), (adk 7, .inl (Y 0, 7, .inl (aI (K 7)))), (h, .inr (0, [.int (iZ (K 0 0)), .int (iZ (K 0 1)), .int (iZ (K 0 2)), .int (iZ (K 0 3)), .int (iZ (K 0 4)), .int (iZ (K 0 5)), .int (iZ (K 0 6)), .ref (ad 1), .ref (ad 2), .ref (ad 3), .ref (ad 4), .ref (ad 5), .ref (ad 6), .ref (ad 7)])), (ad 1, .inl (Y 0, 6, .inl (aI (K 1)))), (ad 2, .inl (Y 0, 6, .inl (aI (K 2)))), (ad 3, .inl (Y 0, 6, .inl (aI (K 3)))), (ad 4, .inl (Y 1, 6, .inl (aI (K 4)))), (ad 5, .inl (Y 1, 6, .inl (aI (K 5)))), (ad 6, .inl (Y 0, 7, .inl (aI (K 6)))), (ad 7, .inl (Y 0, 7, .inl (aI (K 7)))), (hv, .inr (6, [.ref h7, .ref h, .ref hto, .ref h3, .ref h4, .ref h5, .ref h6, .ref im, .ref ik]))] := hD
      refine lv_aload_n hx hb dX6_fells_39 rfl (lv_at hl 0 rfl) ?_
      refine va_get (D := G) (ci := 6) (v := .ref h) (C := RX6) (T := TX6) (N := 9) hx hb hts hFX6 hown hK.1 hP 18 rfl rfl 1 (by decide) kf19 (fun _ h9 => h9) rfl dX6_fells_40 ?_
      refine va_get (D := G) (ci := 0) (v := .ref (ad 2)) (C := RX0) (T := TX0) (N := 14) hx hb hts hFX0 hown hK.1 hP 10 rfl rfl 8 (by decide) kf97 (fun _ h9 => h9) rfl dX6_fells_43 ?_
      refine lv_iload_n hx hb dX6_fells_46 rfl (lv_at hl 1 rfl) ?_
      refine z_iald hx hb hK.1 hP 12 0 rfl rfl ((a).toNat) (by omega) (by decide) dX6_fells_47 ?_
      have hb_4 := hW.2.1 ((a).toNat) (by omega)
      refine lv_istore_n (lv' := [(2, .int (iZ ((K 2) ((a).toNat)))), (0, .ref hv), (1, .int (iZ a))]) hx hb dX6_fells_48 rfl hl (by decide) rfl (fun ls hl => ?_)
      refine lv_aload_n hx hb dX6_fells_49 rfl (lv_at hl 1 rfl) ?_
      refine va_get (D := G) (ci := 6) (v := .ref h) (C := RX6) (T := TX6) (N := 9) hx hb hts hFX6 hown hK.1 hP 18 rfl rfl 1 (by decide) kf19 (fun _ h9 => h9) rfl dX6_fells_50 ?_
      refine va_get (D := G) (ci := 0) (v := .ref (ad 2)) (C := RX0) (T := TX0) (N := 14) hx hb hts hFX0 hown hK.1 hP 10 rfl rfl 8 (by decide) kf97 (fun _ h9 => h9) rfl dX6_fells_53 ?_
      refine lv_iload_n hx hb dX6_fells_56 rfl (lv_at hl 2 rfl) ?_
      refine z_iconst hx hb dX6_fells_57 ?_
      refine z_iast hx hb hK.1 hP hD hS 12 0 rfl rfl ((a).toNat) (by omega) (by decide) dX6_fells_58 (fun H locs hP hD hS => ?_)
      replace hP : va_P G vwCl [(h3, .inr (2, [.ref kn, .int (iZ ((nx + 1) % 10)), .int (iZ (min (sz + 1) 10))])), (kn, .inl (Y 3, 10, .inr (.inr (.inr (.inr (aR hk)))))), (hk ix, .inr (0, [.int (iZ (K 0 0)), .int (iZ (K 0 1)), .int (iZ (K 0 2)), .int (iZ (K 0 3)), .int (iZ (K 0 4)), .int (iZ (K 0 5)), .int (iZ (K 0 6)), .ref (adk 1), .ref (adk 2), .ref (adk 3), .ref (adk 4), .ref (adk 5), .ref (adk 6), .ref (adk 7)])), (adk 1, .inl (Y 0, 6, .inl (aI (K 1)))), (adk 2, .inl (Y 0, 6, .inl (aI (K 2)))), (adk 3, .inl (Y 0, 6, .inl (aI (K 3)))), (adk 4, .inl (Y 1, 6, .inl (aI (K 4)))), (adk 5, .inl (Y 1, 6, .inl (aI (K 5)))), (adk 6, .inl (Y 0, 7, .inl (aI (K 6)))), (adk 7, .inl (Y 0, 7, .inl (aI (K 7)))), (h, .inr (0, [.int (iZ (K 0 0)), .int (iZ (K 0 1)), .int (iZ (K 0 2)), .int (iZ (K 0 3)), .int (iZ (K 0 4)), .int (iZ (K 0 5)), .int (iZ (K 0 6)), .ref (ad 1), .ref (ad 2), .ref (ad 3), .ref (ad 4), .ref (ad 5), .ref (ad 6), .ref (ad 7)])), (ad 1, .inl (Y 0, 6, .inl (aI (K 1)))), (ad 2, .inl (Y 0, 6, .inl (aI (va_up (K 2) ((a).toNat) 0)))), (ad 3, .inl (Y 0, 6, .inl (aI (K 3)))), (ad 4, .inl (Y 1, 6, .inl (aI (K 4)))), (ad 5, .inl (Y 1, 6, .inl (aI (K 5)))), (ad 6, .inl (Y 0, 7, .inl (aI (K 6)))), (ad 7, .inl (Y 0, 7, .inl (aI (K 7)))), (hv, .inr (6, [.ref h7, .ref h, .ref hto, .ref h3, .ref h4, .ref h5, .ref h6, .ref im, .ref ik]))] H := hP
      replace hD : va_D _ [(h3, .inr (2, [.ref kn, .int (iZ ((nx + 1) % 10)), .int (iZ (min (sz + 1) 10))])), (kn, .inl (Y 3, 10, .inr (.inr (.inr (.inr (aR hk)))))), (hk ix, .inr (0, [.int (iZ (K 0 0)), .int (iZ (K 0 1)), .int (iZ (K 0 2)), .int (iZ (K 0 3)), .int (iZ (K 0 4)), .int (iZ (K 0 5)), .int (iZ (K 0 6)), .ref (adk 1), .ref (adk 2), .ref (adk 3), .ref (adk 4), .ref (adk 5), .ref (adk 6), .ref (adk 7)])), (adk 1, .inl (Y 0, 6, .inl (aI (K 1)))), (adk 2, .inl (Y 0, 6, .inl (aI (K 2)))), (adk 3, .inl (Y 0, 6, .inl (aI (K 3)))), (adk 4, .inl (Y 1, 6, .inl (aI (K 4)))), (adk 5, .inl (Y 1, 6, .inl (aI (K 5)))), (adk 6, .inl (Y 0, 7, .inl (aI (K 6)))), (adk 7, .inl (Y 0, 7, .inl (aI (K 7)))), (h, .inr (0, [.int (iZ (K 0 0)), .int (iZ (K 0 1)), .int (iZ (K 0 2)), .int (iZ (K 0 3)), .int (iZ (K 0 4)), .int (iZ (K 0 5)), .int (iZ (K 0 6)), .ref (ad 1), .ref (ad 2), .ref (ad 3), .ref (ad 4), .ref (ad 5), .ref (ad 6), .ref (ad 7)])), (ad 1, .inl (Y 0, 6, .inl (aI (K 1)))), (ad 2, .inl (Y 0, 6, .inl (aI (va_up (K 2) ((a).toNat) 0)))), (ad 3, .inl (Y 0, 6, .inl (aI (K 3)))), (ad 4, .inl (Y 1, 6, .inl (aI (K 4)))), (ad 5, .inl (Y 1, 6, .inl (aI (K 5)))), (ad 6, .inl (Y 0, 7, .inl (aI (K 6)))), (ad 7, .inl (Y 0, 7, .inl (aI (K 7)))), (hv, .inr (6, [.ref h7, .ref h, .ref hto, .ref h3, .ref h4, .ref h5, .ref h6, .ref im, .ref ik]))] := hD
      refine lv_aload_n hx hb dX6_fells_59 rfl (lv_at hl 1 rfl) ?_
      refine va_get (D := G) (ci := 6) (v := .ref h) (C := RX6) (T := TX6) (N := 9) hx hb hts hFX6 hown hK.1 hP 18 rfl rfl 1 (by decide) kf19 (fun _ h9 => h9) rfl dX6_fells_60 ?_
      refine va_get (D := G) (ci := 0) (v := .ref (ad 5)) (C := RX0) (T := TX0) (N := 14) hx hb hts hFX0 hown hK.1 hP 10 rfl rfl 11 (by decide) kf114 (fun _ h9 => h9) rfl dX6_fells_63 ?_
      refine lv_iload_n hx hb dX6_fells_66 rfl (lv_at hl 2 rfl) ?_
      refine z_iconst hx hb dX6_fells_67 ?_
      refine z_zast hx hb hK.1 hP hD hS 15 1 rfl rfl ((a).toNat) (by omega) (by decide) (by omega) dX6_fells_68 (fun H locs hP hD hS => ?_)
      replace hP : va_P G vwCl [(h3, .inr (2, [.ref kn, .int (iZ ((nx + 1) % 10)), .int (iZ (min (sz + 1) 10))])), (kn, .inl (Y 3, 10, .inr (.inr (.inr (.inr (aR hk)))))), (hk ix, .inr (0, [.int (iZ (K 0 0)), .int (iZ (K 0 1)), .int (iZ (K 0 2)), .int (iZ (K 0 3)), .int (iZ (K 0 4)), .int (iZ (K 0 5)), .int (iZ (K 0 6)), .ref (adk 1), .ref (adk 2), .ref (adk 3), .ref (adk 4), .ref (adk 5), .ref (adk 6), .ref (adk 7)])), (adk 1, .inl (Y 0, 6, .inl (aI (K 1)))), (adk 2, .inl (Y 0, 6, .inl (aI (K 2)))), (adk 3, .inl (Y 0, 6, .inl (aI (K 3)))), (adk 4, .inl (Y 1, 6, .inl (aI (K 4)))), (adk 5, .inl (Y 1, 6, .inl (aI (K 5)))), (adk 6, .inl (Y 0, 7, .inl (aI (K 6)))), (adk 7, .inl (Y 0, 7, .inl (aI (K 7)))), (h, .inr (0, [.int (iZ (K 0 0)), .int (iZ (K 0 1)), .int (iZ (K 0 2)), .int (iZ (K 0 3)), .int (iZ (K 0 4)), .int (iZ (K 0 5)), .int (iZ (K 0 6)), .ref (ad 1), .ref (ad 2), .ref (ad 3), .ref (ad 4), .ref (ad 5), .ref (ad 6), .ref (ad 7)])), (ad 1, .inl (Y 0, 6, .inl (aI (K 1)))), (ad 2, .inl (Y 0, 6, .inl (aI (va_up (K 2) ((a).toNat) 0)))), (ad 3, .inl (Y 0, 6, .inl (aI (K 3)))), (ad 4, .inl (Y 1, 6, .inl (aI (K 4)))), (ad 5, .inl (Y 1, 6, .inl (aI (va_up (K 5) ((a).toNat) 1)))), (ad 6, .inl (Y 0, 7, .inl (aI (K 6)))), (ad 7, .inl (Y 0, 7, .inl (aI (K 7)))), (hv, .inr (6, [.ref h7, .ref h, .ref hto, .ref h3, .ref h4, .ref h5, .ref h6, .ref im, .ref ik]))] H := hP
      replace hD : va_D _ [(h3, .inr (2, [.ref kn, .int (iZ ((nx + 1) % 10)), .int (iZ (min (sz + 1) 10))])), (kn, .inl (Y 3, 10, .inr (.inr (.inr (.inr (aR hk)))))), (hk ix, .inr (0, [.int (iZ (K 0 0)), .int (iZ (K 0 1)), .int (iZ (K 0 2)), .int (iZ (K 0 3)), .int (iZ (K 0 4)), .int (iZ (K 0 5)), .int (iZ (K 0 6)), .ref (adk 1), .ref (adk 2), .ref (adk 3), .ref (adk 4), .ref (adk 5), .ref (adk 6), .ref (adk 7)])), (adk 1, .inl (Y 0, 6, .inl (aI (K 1)))), (adk 2, .inl (Y 0, 6, .inl (aI (K 2)))), (adk 3, .inl (Y 0, 6, .inl (aI (K 3)))), (adk 4, .inl (Y 1, 6, .inl (aI (K 4)))), (adk 5, .inl (Y 1, 6, .inl (aI (K 5)))), (adk 6, .inl (Y 0, 7, .inl (aI (K 6)))), (adk 7, .inl (Y 0, 7, .inl (aI (K 7)))), (h, .inr (0, [.int (iZ (K 0 0)), .int (iZ (K 0 1)), .int (iZ (K 0 2)), .int (iZ (K 0 3)), .int (iZ (K 0 4)), .int (iZ (K 0 5)), .int (iZ (K 0 6)), .ref (ad 1), .ref (ad 2), .ref (ad 3), .ref (ad 4), .ref (ad 5), .ref (ad 6), .ref (ad 7)])), (ad 1, .inl (Y 0, 6, .inl (aI (K 1)))), (ad 2, .inl (Y 0, 6, .inl (aI (va_up (K 2) ((a).toNat) 0)))), (ad 3, .inl (Y 0, 6, .inl (aI (K 3)))), (ad 4, .inl (Y 1, 6, .inl (aI (K 4)))), (ad 5, .inl (Y 1, 6, .inl (aI (va_up (K 5) ((a).toNat) 1)))), (ad 6, .inl (Y 0, 7, .inl (aI (K 6)))), (ad 7, .inl (Y 0, 7, .inl (aI (K 7)))), (hv, .inr (6, [.ref h7, .ref h, .ref hto, .ref h3, .ref h4, .ref h5, .ref h6, .ref im, .ref ik]))] := hD
      refine lv_iload_n hx hb dX6_fells_69 rfl (lv_at hl 0 rfl) ?_
      refine z_top (show (K 2) ((a).toNat) = rFells K a from ?_) ?_
      · unfold rFells; (repeat' split) <;> first | rfl | omega | (simp_all; done)
      have ef : fFells K a = true := decide_eq_true (by omega)
      have hP9 : va_P G vwCl (svO Y hv h7 h hto h3 h4 h5 h6 im ik ++ opW Y h3 kn hk nx sz ix adk Kk h ad K (fFells K a) (kFells K a)) H := by rw [ef]; exact hP.sub [18, 0, 1, 2, 3, 4, 5, 6, 7, 8, 9, 10, 11, 12, 13, 14, 15, 16, 17] rfl
      exact W.iret (v := iZ (rFells K a)) hx hb hr (fun t9 ht9 _ => ⟨rfl, by rw [ht9]; exact hP9, hS.F ht9⟩) hS.2.2 dX6_fells_70
    · skip
      refine z_bipush hx hb dX6_fells_25 (by decide) ?_
      refine z_top (show (-2) = rFells K a from ?_) ?_
      · unfold rFells; (repeat' split) <;> first | rfl | omega | (simp_all; done)
      have ef : fFells K a = false := decide_eq_false (by omega)
      have hP9 : va_P G vwCl (svO Y hv h7 h hto h3 h4 h5 h6 im ik ++ opW Y h3 kn hk nx sz ix adk Kk h ad K (fFells K a) (kFells K a)) H := by rw [ef]; exact hP.sub [0, 1, 2, 3, 4, 5, 6, 7, 8, 9, 10, 11, 12, 13, 14, 15, 16, 17, 18] rfl
      exact W.iret (v := iZ (rFells K a)) hx hb hr (fun t9 ht9 _ => ⟨rfl, by rw [ht9]; exact hP9, hS.F ht9⟩) hS.2.2 dX6_fells_27
  · skip
    have c_1 := of_decide_eq_false c_1
    refine z_iconst hx hb dX6_fells_11 ?_
    refine z_top (show (-1) = rFells K a from ?_) ?_
    · unfold rFells; (repeat' split) <;> first | rfl | omega | (simp_all; done)
    have ef : fFells K a = false := decide_eq_false (by omega)
    have hP9 : va_P G vwCl (svO Y hv h7 h hto h3 h4 h5 h6 im ik ++ opW Y h3 kn hk nx sz ix adk Kk h ad K (fFells K a) (kFells K a)) H := by rw [ef]; exact hP.sub [0, 1, 2, 3, 4, 5, 6, 7, 8, 9, 10, 11, 12, 13, 14, 15, 16, 17, 18] rfl
    exact W.iret (v := iZ (rFells K a)) hx hb hr (fun t9 ht9 _ => ⟨rfl, by rw [ht9]; exact hP9, hS.F ht9⟩) hS.2.2 dX6_fells_12

set_option maxHeartbeats 4000000 in
set_option maxRecDepth 100000 in
theorem c_X6_winter (l : Launch) (G : va_G) (Y : Nat → ClassId) (hv h7 h hto h3 h4 h5 h6 im ik : Nat) (kn : Nat) (hk : Nat → Nat) (nx sz : Int) (ix : Nat) (adk : Nat → Nat) (Kk : Kom) (ad : Nat → Nat) (K : Kom) (hW : cWF K) (ro : (nx = ix ∧ ix < 10) ∧ 0 ≤ sz ∧ sz ≤ 10) (a : Int) (r : zR a) : Met l yX6_winter wsX6_winter ({ frames := 2, cells := 0, slots := 0, locals := 43 }) (mP G Y [.ref hv, .int (iZ a)] (svO Y hv h7 h hto h3 h4 h5 h6 im ik ++ (paW Y h3 kn hk nx sz ++ (cmW Y (hk ix) adk Kk ++ cmW Y h ad K)))) (mQ G (svO Y hv h7 h hto h3 h4 h5 h6 im ik ++ (paW Y h3 kn hk nx sz ++ (cmW Y (hk ix) adk Kk ++ cmW Y h ad K))) (some (.int (iZ (rWint K a)))) (svO Y hv h7 h hto h3 h4 h5 h6 im ik ++ opW Y h3 kn hk nx sz ix adk Kk h ad K (fWint a) (kS K 0 6 a))) 0 0 (fun q => q ∈ List.map Prod.fst (svO Y hv h7 h hto h3 h4 h5 h6 im ik ++ (paW Y h3 kn hk nx sz ++ (cmW Y (hk ix) adk Kk ++ cmW Y h ad K)))) := by
  refine Met.ofW (cc := cX6_winter) (maxL := 3) (ret := (some .int)) (by decide) rfl ?_
  intro p e s m args below meth c s₁ B hml hv
  obtain ⟨rfl, hK, hP, hD0⟩ := hv
  have hx := B.exec
  have hb := B.bytes
  have hr := B.returns
  have hts := atoms_spec (ws := wsX6_winter) B.pre
  have hown : s.vm.findClass RX6 = some m.cls := findClass_of_methodNamed B.named
  have hlocks := B.notSynchronized
  have hFX0 : ∀ w ∈ wsX00, w ∈ wsX6_winter := by decide +kernel
  have hFX6 : ∀ w ∈ wsX60, w ∈ wsX6_winter := by decide +kernel
  have kf29 := (hts (.fieldLink RX6 29 "ShadeVotes" "past" "LShadeVotes$Past;") (by decide +kernel))
  have kf19 := (hts (.fieldLink RX6 19 "ShadeVotes" "present" "LShadeVotes$Commune;") (by decide +kernel))
  have kf145 := (hts (.fieldLink RX6 145 "ShadeVotes$Commune" "isWinter" "Z") (by decide +kernel))
  have hD := va_D_self hD0
  have hS : va_S (fun q => q ∈ List.map Prod.fst (svO Y hv h7 h hto h3 h4 h5 h6 im ik ++ (paW Y h3 kn hk nx sz ++ (cmW Y (hk ix) adk Kk ++ cmW Y h ad K)))) s.heap s.heap [] := va_S.rf
  obtain ⟨H, hHe⟩ : ∃ H, H = s.heap := ⟨_, rfl⟩
  rw [← hHe] at hP
  replace hS : va_S (fun q => q ∈ List.map Prod.fst (svO Y hv h7 h hto h3 h4 h5 h6 im ik ++ (paW Y h3 kn hk nx sz ++ (cmW Y (hk ix) adk Kk ++ cmW Y h ad K)))) s.heap H [] := by rw [hHe]; exact hS
  have hl := lv_entry ([.ref hv, .int (iZ a)]) (n := 3) (Nat.le_of_ble_eq_true rfl)
  rw [lg_entry_eq]
  generalize (lg_sl ([.ref hv, .int (iZ a)]) ++ List.replicate (3 - (lg_sl ([.ref hv, .int (iZ a)])).length) Slot.unset).toArray = ls at hl ⊢
  replace hl : lv_has ls 3 [(0, .ref hv), (1, .int (iZ a))] := hl
  obtain ⟨locs, hLe⟩ : ∃ locs : List Loc, locs = [] := ⟨_, rfl⟩
  rw [← hLe] at hS ⊢
  have hW0 : ∀ {Q : State → Prop} {g : JFrame}, W p l e ({ frames := 2, cells := 0, slots := 0, locals := 43 }) s m [.ref hv, .int (iZ a)].toArray below meth c H locs 0 0 Q g → W p l e ({ frames := 2, cells := 0, slots := 0, locals := 43 }) s m [.ref hv, .int (iZ a)].toArray below meth c s.heap locs 0 0 Q g := fun h => by rw [← hHe]; exact h
  refine hW0 ?_
  clear hW0 hHe hLe
  have h0 := hW.1
  have hnc := hW.nc
  refine lv_iload_n hx hb dX6_winter_0 rfl (lv_at hl 1 rfl) ?_
  refine z_iconst hx hb dX6_winter_1 ?_
  refine z_iconst hx hb dX6_winter_2 ?_
  refine ro_S (As := [.int (iZ a), .int (iZ 0), .int (iZ 1)]) (rest := []) ⟨hx, hb, hml, hown, hts⟩ (c_X6_isWithin l G Y a 0 1 (by omega)) (cwS 3 hts gX6_winter_X6_isWithin rfl rfl rfl (by decide +kernel) ⟨Nat.le_of_ble_eq_true rfl, Nat.le_of_ble_eq_true rfl⟩) hK (hP.sub (ws' := []) [] rfl) rfl hl.1 rfl (Nat.le_of_ble_eq_true rfl) dX6_winter_3 ⟨Nat.zero_le _, Nat.zero_le _⟩ ?_
  refine z_ifb_ne (tgt := 11) hx hb dX6_winter_6 (by decide) (fun c_1 => ?_) (fun c_1 => ?_)
  · skip
    have c_1 := of_decide_eq_true c_1
    refine lv_aload_n hx hb dX6_winter_11 rfl (lv_at hl 0 rfl) ?_
    refine va_get (D := G) (ci := 6) (v := .ref h3) (C := RX6) (T := TX6) (N := 9) hx hb hts hFX6 hown hK.1 hP 0 rfl rfl 3 (by decide) kf29 (fun _ h9 => h9) rfl dX6_winter_12 ?_
    refine lv_aload_n hx hb dX6_winter_15 rfl (lv_at hl 0 rfl) ?_
    refine va_get (D := G) (ci := 6) (v := .ref h) (C := RX6) (T := TX6) (N := 9) hx hb hts hFX6 hown hK.1 hP 0 rfl rfl 1 (by decide) kf19 (fun _ h9 => h9) rfl dX6_winter_16 ?_
    have hP := hP.sub (ws' := [(h3, .inr (2, [.ref kn, .int (iZ nx), .int (iZ sz)])), (kn, .inl (Y 3, 10, .inr (.inr (.inr (.inr (aR hk)))))), (hk ix, .inr (0, [.int (iZ (Kk 0 0)), .int (iZ (Kk 0 1)), .int (iZ (Kk 0 2)), .int (iZ (Kk 0 3)), .int (iZ (Kk 0 4)), .int (iZ (Kk 0 5)), .int (iZ (Kk 0 6)), .ref (adk 1), .ref (adk 2), .ref (adk 3), .ref (adk 4), .ref (adk 5), .ref (adk 6), .ref (adk 7)])), (adk 1, .inl (Y 0, 6, .inl (aI (Kk 1)))), (adk 2, .inl (Y 0, 6, .inl (aI (Kk 2)))), (adk 3, .inl (Y 0, 6, .inl (aI (Kk 3)))), (adk 4, .inl (Y 1, 6, .inl (aI (Kk 4)))), (adk 5, .inl (Y 1, 6, .inl (aI (Kk 5)))), (adk 6, .inl (Y 0, 7, .inl (aI (Kk 6)))), (adk 7, .inl (Y 0, 7, .inl (aI (Kk 7)))), (h, .inr (0, [.int (iZ (K 0 0)), .int (iZ (K 0 1)), .int (iZ (K 0 2)), .int (iZ (K 0 3)), .int (iZ (K 0 4)), .int (iZ (K 0 5)), .int (iZ (K 0 6)), .ref (ad 1), .ref (ad 2), .ref (ad 3), .ref (ad 4), .ref (ad 5), .ref (ad 6), .ref (ad 7)])), (ad 1, .inl (Y 0, 6, .inl (aI (K 1)))), (ad 2, .inl (Y 0, 6, .inl (aI (K 2)))), (ad 3, .inl (Y 0, 6, .inl (aI (K 3)))), (ad 4, .inl (Y 1, 6, .inl (aI (K 4)))), (ad 5, .inl (Y 1, 6, .inl (aI (K 5)))), (ad 6, .inl (Y 0, 7, .inl (aI (K 6)))), (ad 7, .inl (Y 0, 7, .inl (aI (K 7))))] ++ [(hv, .inr (6, [.ref h7, .ref h, .ref hto, .ref h3, .ref h4, .ref h5, .ref h6, .ref im, .ref ik]))]) [1, 2, 3, 4, 5, 6, 7, 8, 9, 10, 11, 12, 13, 14, 15, 16, 17, 18, 0] rfl
    have hD := hD.sub (ws' := [(h3, .inr (2, [.ref kn, .int (iZ nx), .int (iZ sz)])), (kn, .inl (Y 3, 10, .inr (.inr (.inr (.inr (aR hk)))))), (hk ix, .inr (0, [.int (iZ (Kk 0 0)), .int (iZ (Kk 0 1)), .int (iZ (Kk 0 2)), .int (iZ (Kk 0 3)), .int (iZ (Kk 0 4)), .int (iZ (Kk 0 5)), .int (iZ (Kk 0 6)), .ref (adk 1), .ref (adk 2), .ref (adk 3), .ref (adk 4), .ref (adk 5), .ref (adk 6), .ref (adk 7)])), (adk 1, .inl (Y 0, 6, .inl (aI (Kk 1)))), (adk 2, .inl (Y 0, 6, .inl (aI (Kk 2)))), (adk 3, .inl (Y 0, 6, .inl (aI (Kk 3)))), (adk 4, .inl (Y 1, 6, .inl (aI (Kk 4)))), (adk 5, .inl (Y 1, 6, .inl (aI (Kk 5)))), (adk 6, .inl (Y 0, 7, .inl (aI (Kk 6)))), (adk 7, .inl (Y 0, 7, .inl (aI (Kk 7)))), (h, .inr (0, [.int (iZ (K 0 0)), .int (iZ (K 0 1)), .int (iZ (K 0 2)), .int (iZ (K 0 3)), .int (iZ (K 0 4)), .int (iZ (K 0 5)), .int (iZ (K 0 6)), .ref (ad 1), .ref (ad 2), .ref (ad 3), .ref (ad 4), .ref (ad 5), .ref (ad 6), .ref (ad 7)])), (ad 1, .inl (Y 0, 6, .inl (aI (K 1)))), (ad 2, .inl (Y 0, 6, .inl (aI (K 2)))), (ad 3, .inl (Y 0, 6, .inl (aI (K 3)))), (ad 4, .inl (Y 1, 6, .inl (aI (K 4)))), (ad 5, .inl (Y 1, 6, .inl (aI (K 5)))), (ad 6, .inl (Y 0, 7, .inl (aI (K 6)))), (ad 7, .inl (Y 0, 7, .inl (aI (K 7))))] ++ [(hv, .inr (6, [.ref h7, .ref h, .ref hto, .ref h3, .ref h4, .ref h5, .ref h6, .ref im, .ref ik]))]) [1, 2, 3, 4, 5, 6, 7, 8, 9, 10, 11, 12, 13, 14, 15, 16, 17, 18, 0] (by decide) rfl
    refine mu_V (As := [.ref h]) (rest := []) (wc := [(h3, .inr (2, [.ref kn, .int (iZ nx), .int (iZ sz)])), (kn, .inl (Y 3, 10, .inr (.inr (.inr (.inr (aR hk)))))), (hk ix, .inr (0, [.int (iZ (Kk 0 0)), .int (iZ (Kk 0 1)), .int (iZ (Kk 0 2)), .int (iZ (Kk 0 3)), .int (iZ (Kk 0 4)), .int (iZ (Kk 0 5)), .int (iZ (Kk 0 6)), .ref (adk 1), .ref (adk 2), .ref (adk 3), .ref (adk 4), .ref (adk 5), .ref (adk 6), .ref (adk 7)])), (adk 1, .inl (Y 0, 6, .inl (aI (Kk 1)))), (adk 2, .inl (Y 0, 6, .inl (aI (Kk 2)))), (adk 3, .inl (Y 0, 6, .inl (aI (Kk 3)))), (adk 4, .inl (Y 1, 6, .inl (aI (Kk 4)))), (adk 5, .inl (Y 1, 6, .inl (aI (Kk 5)))), (adk 6, .inl (Y 0, 7, .inl (aI (Kk 6)))), (adk 7, .inl (Y 0, 7, .inl (aI (Kk 7)))), (h, .inr (0, [.int (iZ (K 0 0)), .int (iZ (K 0 1)), .int (iZ (K 0 2)), .int (iZ (K 0 3)), .int (iZ (K 0 4)), .int (iZ (K 0 5)), .int (iZ (K 0 6)), .ref (ad 1), .ref (ad 2), .ref (ad 3), .ref (ad 4), .ref (ad 5), .ref (ad 6), .ref (ad 7)])), (ad 1, .inl (Y 0, 6, .inl (aI (K 1)))), (ad 2, .inl (Y 0, 6, .inl (aI (K 2)))), (ad 3, .inl (Y 0, 6, .inl (aI (K 3)))), (ad 4, .inl (Y 1, 6, .inl (aI (K 4)))), (ad 5, .inl (Y 1, 6, .inl (aI (K 5)))), (ad 6, .inl (Y 0, 7, .inl (aI (K 6)))), (ad 7, .inl (Y 0, 7, .inl (aI (K 7))))]) (wc' := paW Y h3 kn hk ((nx + 1) % 10) (min (sz + 1) 10) ++ (cmW Y (hk ix) adk K ++ cmW Y h ad K)) (F := [(hv, .inr (6, [.ref h7, .ref h, .ref hto, .ref h3, .ref h4, .ref h5, .ref h6, .ref im, .ref ik]))]) ⟨hx, hb, hml, hown, hts⟩ (c_X2_remember l G Y h3 kn hk nx sz ix adk Kk h ad K hW (by omega)) (cwV 1 hts gX6_winter_X2_remember rfl rfl rfl (by decide +kernel) ⟨Nat.le_of_ble_eq_true rfl, Nat.le_of_ble_eq_true rfl⟩) hK hP hD hS 0 rfl rfl (Eq.refl [h3, kn, hk ix, adk 1, adk 2, adk 3, adk 4, adk 5, adk 6, adk 7, h, ad 1, ad 2, ad 3, ad 4, ad 5, ad 6, ad 7]) rfl hl.1 rfl (Nat.le_of_ble_eq_true rfl) dX6_winter_19 ⟨Nat.zero_le _, Nat.zero_le _⟩ (fun H locs hP hD hS => ?_)
    show W _ _ _ _ _ _ _ _ _ _ _ _ _ _ _ (F0 _ _ _ [])
    replace hP : va_P G vwCl [(h3, .inr (2, [.ref kn, .int (iZ ((nx + 1) % 10)), .int (iZ (min (sz + 1) 10))])), (kn, .inl (Y 3, 10, .inr (.inr (.inr (.inr (aR hk)))))), (hk ix, .inr (0, [.int (iZ (K 0 0)), .int (iZ (K 0 1)), .int (iZ (K 0 2)), .int (iZ (K 0 3)), .int (iZ (K 0 4)), .int (iZ (K 0 5)), .int (iZ (K 0 6)), .ref (adk 1), .ref (adk 2), .ref (adk 3), .ref (adk 4), .ref (adk 5), .ref (adk 6), .ref (adk 7)])), (adk 1, .inl (Y 0, 6, .inl (aI (K 1)))), (adk 2, .inl (Y 0, 6, .inl (aI (K 2)))), (adk 3, .inl (Y 0, 6, .inl (aI (K 3)))), (adk 4, .inl (Y 1, 6, .inl (aI (K 4)))), (adk 5, .inl (Y 1, 6, .inl (aI (K 5)))), (adk 6, .inl (Y 0, 7, .inl (aI (K 6)))), (adk 7, .inl (Y 0, 7, .inl (aI (K 7)))), (h, .inr (0, [.int (iZ (K 0 0)), .int (iZ (K 0 1)), .int (iZ (K 0 2)), .int (iZ (K 0 3)), .int (iZ (K 0 4)), .int (iZ (K 0 5)), .int (iZ (K 0 6)), .ref (ad 1), .ref (ad 2), .ref (ad 3), .ref (ad 4), .ref (ad 5), .ref (ad 6), .ref (ad 7)])), (ad 1, .inl (Y 0, 6, .inl (aI (K 1)))), (ad 2, .inl (Y 0, 6, .inl (aI (K 2)))), (ad 3, .inl (Y 0, 6, .inl (aI (K 3)))), (ad 4, .inl (Y 1, 6, .inl (aI (K 4)))), (ad 5, .inl (Y 1, 6, .inl (aI (K 5)))), (ad 6, .inl (Y 0, 7, .inl (aI (K 6)))), (ad 7, .inl (Y 0, 7, .inl (aI (K 7)))), (hv, .inr (6, [.ref h7, .ref h, .ref hto, .ref h3, .ref h4, .ref h5, .ref h6, .ref im, .ref ik]))] H := hP
    replace hD : va_D _ [(h3, .inr (2, [.ref kn, .int (iZ ((nx + 1) % 10)), .int (iZ (min (sz + 1) 10))])), (kn, .inl (Y 3, 10, .inr (.inr (.inr (.inr (aR hk)))))), (hk ix, .inr (0, [.int (iZ (K 0 0)), .int (iZ (K 0 1)), .int (iZ (K 0 2)), .int (iZ (K 0 3)), .int (iZ (K 0 4)), .int (iZ (K 0 5)), .int (iZ (K 0 6)), .ref (adk 1), .ref (adk 2), .ref (adk 3), .ref (adk 4), .ref (adk 5), .ref (adk 6), .ref (adk 7)])), (adk 1, .inl (Y 0, 6, .inl (aI (K 1)))), (adk 2, .inl (Y 0, 6, .inl (aI (K 2)))), (adk 3, .inl (Y 0, 6, .inl (aI (K 3)))), (adk 4, .inl (Y 1, 6, .inl (aI (K 4)))), (adk 5, .inl (Y 1, 6, .inl (aI (K 5)))), (adk 6, .inl (Y 0, 7, .inl (aI (K 6)))), (adk 7, .inl (Y 0, 7, .inl (aI (K 7)))), (h, .inr (0, [.int (iZ (K 0 0)), .int (iZ (K 0 1)), .int (iZ (K 0 2)), .int (iZ (K 0 3)), .int (iZ (K 0 4)), .int (iZ (K 0 5)), .int (iZ (K 0 6)), .ref (ad 1), .ref (ad 2), .ref (ad 3), .ref (ad 4), .ref (ad 5), .ref (ad 6), .ref (ad 7)])), (ad 1, .inl (Y 0, 6, .inl (aI (K 1)))), (ad 2, .inl (Y 0, 6, .inl (aI (K 2)))), (ad 3, .inl (Y 0, 6, .inl (aI (K 3)))), (ad 4, .inl (Y 1, 6, .inl (aI (K 4)))), (ad 5, .inl (Y 1, 6, .inl (aI (K 5)))), (ad 6, .inl (Y 0, 7, .inl (aI (K 6)))), (ad 7, .inl (Y 0, 7, .inl (aI (K 7)))), (hv, .inr (6, [.ref h7, .ref h, .ref hto, .ref h3, .ref h4, .ref h5, .ref h6, .ref im, .ref ik]))] := hD
    refine lv_aload_n hx hb dX6_winter_22 rfl (lv_at hl 0 rfl) ?_
    refine va_get (D := G) (ci := 6) (v := .ref h) (C := RX6) (T := TX6) (N := 9) hx hb hts hFX6 hown hK.1 hP 18 rfl rfl 1 (by decide) kf19 (fun _ h9 => h9) rfl dX6_winter_23 ?_
    refine va_get (D := G) (ci := 0) (v := .int (iZ (K 0 6))) (C := RX0) (T := TX0) (N := 14) hx hb hts hFX0 hown hK.1 hP 10 rfl rfl 6 (by decide) kf145 (fun _ h9 => h9) rfl dX6_winter_26 ?_
    refine z_top (b01_dec (z := K 0 6) (by omega)) ?_
    have hbd9 := b01_dec (z := K 0 6) (by omega)
    refine ro_S (As := [.int (iZ (bZ (decide (K 0 6 = 1))))]) (rest := []) ⟨hx, hb, hml, hown, hts⟩ (c_X6_asNumber l G Y (decide (K 0 6 = 1))) (cwS 1 hts gX6_winter_X6_asNumber rfl rfl rfl (by decide +kernel) ⟨Nat.le_of_ble_eq_true rfl, Nat.le_of_ble_eq_true rfl⟩) hK (hP.sub (ws' := []) [] rfl) rfl hl.1 rfl (Nat.le_of_ble_eq_true rfl) dX6_winter_29 ⟨Nat.zero_le _, Nat.zero_le _⟩ ?_
    refine lv_istore_n (lv' := [(2, .int (iZ (bZ (decide (K 0 6 = 1))))), (0, .ref hv), (1, .int (iZ a))]) hx hb dX6_winter_32 rfl hl (by decide) rfl (fun ls hl => ?_)
    refine lv_aload_n hx hb dX6_winter_33 rfl (lv_at hl 1 rfl) ?_
    refine va_get (D := G) (ci := 6) (v := .ref h) (C := RX6) (T := TX6) (N := 9) hx hb hts hFX6 hown hK.1 hP 18 rfl rfl 1 (by decide) kf19 (fun _ h9 => h9) rfl dX6_winter_34 ?_
    refine lv_iload_n hx hb dX6_winter_37 rfl (lv_at hl 2 rfl) ?_
    refine z_iconst hx hb dX6_winter_38 ?_
    refine z_icmp_ne (tgt := 46) hx hb dX6_winter_39 (by decide) (by omega) (fun c_2 => ?_) (fun c_2 => ?_)
    · skip
      refine z_iconst hx hb dX6_winter_46 ?_
      refine z_top (show 0 = a by omega) ?_
      refine va_put (D := G) (ci := 0) (v := .int (iZ a)) (ty := .boolean) (C := RX0) (T := TX0) (N := 14) hx hb hts hFX0 tyX0 tyX0_ok nmX0 hown hK.1 hP hD hS 10 rfl rfl 6 (by decide) kf145 (fun _ h9 => h9) rfl (by decide +kernel) (b01_nar (by omega)) (b01_fit (by omega)) (Nat.le_of_ble_eq_true rfl) dX6_winter_47 (fun H locs hP hD hS => ?_)
      replace hP : va_P G vwCl [(h3, .inr (2, [.ref kn, .int (iZ ((nx + 1) % 10)), .int (iZ (min (sz + 1) 10))])), (kn, .inl (Y 3, 10, .inr (.inr (.inr (.inr (aR hk)))))), (hk ix, .inr (0, [.int (iZ (K 0 0)), .int (iZ (K 0 1)), .int (iZ (K 0 2)), .int (iZ (K 0 3)), .int (iZ (K 0 4)), .int (iZ (K 0 5)), .int (iZ (K 0 6)), .ref (adk 1), .ref (adk 2), .ref (adk 3), .ref (adk 4), .ref (adk 5), .ref (adk 6), .ref (adk 7)])), (adk 1, .inl (Y 0, 6, .inl (aI (K 1)))), (adk 2, .inl (Y 0, 6, .inl (aI (K 2)))), (adk 3, .inl (Y 0, 6, .inl (aI (K 3)))), (adk 4, .inl (Y 1, 6, .inl (aI (K 4)))), (adk 5, .inl (Y 1, 6, .inl (aI (K 5)))), (adk 6, .inl (Y 0, 7, .inl (aI (K 6)))), (adk 7, .inl (Y 0, 7, .inl (aI (K 7)))), (h, .inr (0, [.int (iZ (K 0 0)), .int (iZ (K 0 1)), .int (iZ (K 0 2)), .int (iZ (K 0 3)), .int (iZ (K 0 4)), .int (iZ (K 0 5)), .int (iZ a), .ref (ad 1), .ref (ad 2), .ref (ad 3), .ref (ad 4), .ref (ad 5), .ref (ad 6), .ref (ad 7)])), (ad 1, .inl (Y 0, 6, .inl (aI (K 1)))), (ad 2, .inl (Y 0, 6, .inl (aI (K 2)))), (ad 3, .inl (Y 0, 6, .inl (aI (K 3)))), (ad 4, .inl (Y 1, 6, .inl (aI (K 4)))), (ad 5, .inl (Y 1, 6, .inl (aI (K 5)))), (ad 6, .inl (Y 0, 7, .inl (aI (K 6)))), (ad 7, .inl (Y 0, 7, .inl (aI (K 7)))), (hv, .inr (6, [.ref h7, .ref h, .ref hto, .ref h3, .ref h4, .ref h5, .ref h6, .ref im, .ref ik]))] H := hP
      replace hD : va_D _ [(h3, .inr (2, [.ref kn, .int (iZ ((nx + 1) % 10)), .int (iZ (min (sz + 1) 10))])), (kn, .inl (Y 3, 10, .inr (.inr (.inr (.inr (aR hk)))))), (hk ix, .inr (0, [.int (iZ (K 0 0)), .int (iZ (K 0 1)), .int (iZ (K 0 2)), .int (iZ (K 0 3)), .int (iZ (K 0 4)), .int (iZ (K 0 5)), .int (iZ (K 0 6)), .ref (adk 1), .ref (adk 2), .ref (adk 3), .ref (adk 4), .ref (adk 5), .ref (adk 6), .ref (adk 7)])), (adk 1, .inl (Y 0, 6, .inl (aI (K 1)))), (adk 2, .inl (Y 0, 6, .inl (aI (K 2)))), (adk 3, .inl (Y 0, 6, .inl (aI (K 3)))), (adk 4, .inl (Y 1, 6, .inl (aI (K 4)))), (adk 5, .inl (Y 1, 6, .inl (aI (K 5)))), (adk 6, .inl (Y 0, 7, .inl (aI (K 6)))), (adk 7, .inl (Y 0, 7, .inl (aI (K 7)))), (h, .inr (0, [.int (iZ (K 0 0)), .int (iZ (K 0 1)), .int (iZ (K 0 2)), .int (iZ (K 0 3)), .int (iZ (K 0 4)), .int (iZ (K 0 5)), .int (iZ a), .ref (ad 1), .ref (ad 2), .ref (ad 3), .ref (ad 4), .ref (ad 5), .ref (ad 6), .ref (ad 7)])), (ad 1, .inl (Y 0, 6, .inl (aI (K 1)))), (ad 2, .inl (Y 0, 6, .inl (aI (K 2)))), (ad 3, .inl (Y 0, 6, .inl (aI (K 3)))), (ad 4, .inl (Y 1, 6, .inl (aI (K 4)))), (ad 5, .inl (Y 1, 6, .inl (aI (K 5)))), (ad 6, .inl (Y 0, 7, .inl (aI (K 6)))), (ad 7, .inl (Y 0, 7, .inl (aI (K 7)))), (hv, .inr (6, [.ref h7, .ref h, .ref hto, .ref h3, .ref h4, .ref h5, .ref h6, .ref im, .ref ik]))] := hD
      refine lv_iload_n hx hb dX6_winter_50 rfl (lv_at hl 0 rfl) ?_
      refine z_top (show bZ (decide (K 0 6 = 1)) = rWint K a from ?_) ?_
      · unfold rWint; rw [if_pos (by omega)]; exact hbd9.symm
      have ef : fWint a = true := decide_eq_true (by omega)
      have hP9 : va_P G vwCl (svO Y hv h7 h hto h3 h4 h5 h6 im ik ++ opW Y h3 kn hk nx sz ix adk Kk h ad K (fWint a) (kS K 0 6 a)) H := by rw [ef]; exact hP.sub [18, 0, 1, 2, 3, 4, 5, 6, 7, 8, 9, 10, 11, 12, 13, 14, 15, 16, 17] rfl
      exact W.iret (v := iZ (rWint K a)) hx hb hr (fun t9 ht9 _ => ⟨rfl, by rw [ht9]; exact hP9, hS.F ht9⟩) hS.2.2 dX6_winter_51
    · skip
      refine z_iconst hx hb dX6_winter_42 ?_
      refine lv_goto (tgt := 47) hx hb dX6_winter_43 (by decide) ?_
      refine z_top (show 1 = a by omega) ?_
      refine va_put (D := G) (ci := 0) (v := .int (iZ a)) (ty := .boolean) (C := RX0) (T := TX0) (N := 14) hx hb hts hFX0 tyX0 tyX0_ok nmX0 hown hK.1 hP hD hS 10 rfl rfl 6 (by decide) kf145 (fun _ h9 => h9) rfl (by decide +kernel) (b01_nar (by omega)) (b01_fit (by omega)) (Nat.le_of_ble_eq_true rfl) dX6_winter_47 (fun H locs hP hD hS => ?_)
      replace hP : va_P G vwCl [(h3, .inr (2, [.ref kn, .int (iZ ((nx + 1) % 10)), .int (iZ (min (sz + 1) 10))])), (kn, .inl (Y 3, 10, .inr (.inr (.inr (.inr (aR hk)))))), (hk ix, .inr (0, [.int (iZ (K 0 0)), .int (iZ (K 0 1)), .int (iZ (K 0 2)), .int (iZ (K 0 3)), .int (iZ (K 0 4)), .int (iZ (K 0 5)), .int (iZ (K 0 6)), .ref (adk 1), .ref (adk 2), .ref (adk 3), .ref (adk 4), .ref (adk 5), .ref (adk 6), .ref (adk 7)])), (adk 1, .inl (Y 0, 6, .inl (aI (K 1)))), (adk 2, .inl (Y 0, 6, .inl (aI (K 2)))), (adk 3, .inl (Y 0, 6, .inl (aI (K 3)))), (adk 4, .inl (Y 1, 6, .inl (aI (K 4)))), (adk 5, .inl (Y 1, 6, .inl (aI (K 5)))), (adk 6, .inl (Y 0, 7, .inl (aI (K 6)))), (adk 7, .inl (Y 0, 7, .inl (aI (K 7)))), (h, .inr (0, [.int (iZ (K 0 0)), .int (iZ (K 0 1)), .int (iZ (K 0 2)), .int (iZ (K 0 3)), .int (iZ (K 0 4)), .int (iZ (K 0 5)), .int (iZ a), .ref (ad 1), .ref (ad 2), .ref (ad 3), .ref (ad 4), .ref (ad 5), .ref (ad 6), .ref (ad 7)])), (ad 1, .inl (Y 0, 6, .inl (aI (K 1)))), (ad 2, .inl (Y 0, 6, .inl (aI (K 2)))), (ad 3, .inl (Y 0, 6, .inl (aI (K 3)))), (ad 4, .inl (Y 1, 6, .inl (aI (K 4)))), (ad 5, .inl (Y 1, 6, .inl (aI (K 5)))), (ad 6, .inl (Y 0, 7, .inl (aI (K 6)))), (ad 7, .inl (Y 0, 7, .inl (aI (K 7)))), (hv, .inr (6, [.ref h7, .ref h, .ref hto, .ref h3, .ref h4, .ref h5, .ref h6, .ref im, .ref ik]))] H := hP
      replace hD : va_D _ [(h3, .inr (2, [.ref kn, .int (iZ ((nx + 1) % 10)), .int (iZ (min (sz + 1) 10))])), (kn, .inl (Y 3, 10, .inr (.inr (.inr (.inr (aR hk)))))), (hk ix, .inr (0, [.int (iZ (K 0 0)), .int (iZ (K 0 1)), .int (iZ (K 0 2)), .int (iZ (K 0 3)), .int (iZ (K 0 4)), .int (iZ (K 0 5)), .int (iZ (K 0 6)), .ref (adk 1), .ref (adk 2), .ref (adk 3), .ref (adk 4), .ref (adk 5), .ref (adk 6), .ref (adk 7)])), (adk 1, .inl (Y 0, 6, .inl (aI (K 1)))), (adk 2, .inl (Y 0, 6, .inl (aI (K 2)))), (adk 3, .inl (Y 0, 6, .inl (aI (K 3)))), (adk 4, .inl (Y 1, 6, .inl (aI (K 4)))), (adk 5, .inl (Y 1, 6, .inl (aI (K 5)))), (adk 6, .inl (Y 0, 7, .inl (aI (K 6)))), (adk 7, .inl (Y 0, 7, .inl (aI (K 7)))), (h, .inr (0, [.int (iZ (K 0 0)), .int (iZ (K 0 1)), .int (iZ (K 0 2)), .int (iZ (K 0 3)), .int (iZ (K 0 4)), .int (iZ (K 0 5)), .int (iZ a), .ref (ad 1), .ref (ad 2), .ref (ad 3), .ref (ad 4), .ref (ad 5), .ref (ad 6), .ref (ad 7)])), (ad 1, .inl (Y 0, 6, .inl (aI (K 1)))), (ad 2, .inl (Y 0, 6, .inl (aI (K 2)))), (ad 3, .inl (Y 0, 6, .inl (aI (K 3)))), (ad 4, .inl (Y 1, 6, .inl (aI (K 4)))), (ad 5, .inl (Y 1, 6, .inl (aI (K 5)))), (ad 6, .inl (Y 0, 7, .inl (aI (K 6)))), (ad 7, .inl (Y 0, 7, .inl (aI (K 7)))), (hv, .inr (6, [.ref h7, .ref h, .ref hto, .ref h3, .ref h4, .ref h5, .ref h6, .ref im, .ref ik]))] := hD
      refine lv_iload_n hx hb dX6_winter_50 rfl (lv_at hl 0 rfl) ?_
      refine z_top (show bZ (decide (K 0 6 = 1)) = rWint K a from ?_) ?_
      · unfold rWint; rw [if_pos (by omega)]; exact hbd9.symm
      have ef : fWint a = true := decide_eq_true (by omega)
      have hP9 : va_P G vwCl (svO Y hv h7 h hto h3 h4 h5 h6 im ik ++ opW Y h3 kn hk nx sz ix adk Kk h ad K (fWint a) (kS K 0 6 a)) H := by rw [ef]; exact hP.sub [18, 0, 1, 2, 3, 4, 5, 6, 7, 8, 9, 10, 11, 12, 13, 14, 15, 16, 17] rfl
      exact W.iret (v := iZ (rWint K a)) hx hb hr (fun t9 ht9 _ => ⟨rfl, by rw [ht9]; exact hP9, hS.F ht9⟩) hS.2.2 dX6_winter_51
  · skip
    have c_1 := of_decide_eq_false c_1
    refine z_iconst hx hb dX6_winter_9 ?_
    refine z_top (show (-1) = rWint K a from ?_) ?_
    · unfold rWint; (repeat' split) <;> first | rfl | omega | (simp_all; done)
    have ef : fWint a = false := decide_eq_false (by omega)
    have hP9 : va_P G vwCl (svO Y hv h7 h hto h3 h4 h5 h6 im ik ++ opW Y h3 kn hk nx sz ix adk Kk h ad K (fWint a) (kS K 0 6 a)) H := by rw [ef]; exact hP.sub [0, 1, 2, 3, 4, 5, 6, 7, 8, 9, 10, 11, 12, 13, 14, 15, 16, 17, 18] rfl
    exact W.iret (v := iZ (rWint K a)) hx hb hr (fun t9 ht9 _ => ⟨rfl, by rw [ht9]; exact hP9, hS.F ht9⟩) hS.2.2 dX6_winter_10

set_option maxHeartbeats 4000000 in
set_option maxRecDepth 100000 in
theorem c_X6_sun (l : Launch) (G : va_G) (Y : Nat → ClassId) (hv h7 h hto h3 h4 h5 h6 im ik : Nat) (kn : Nat) (hk : Nat → Nat) (nx sz : Int) (ix : Nat) (adk : Nat → Nat) (Kk : Kom) (ad : Nat → Nat) (K : Kom) (hW : cWF K) (ro : (nx = ix ∧ ix < 10) ∧ 0 ≤ sz ∧ sz ≤ 10) (a : Int) (r : zR a) : Met l yX6_sun wsX6_sun ({ frames := 2, cells := 0, slots := 0, locals := 43 }) (mP G Y [.ref hv, .int (iZ a)] (svO Y hv h7 h hto h3 h4 h5 h6 im ik ++ (paW Y h3 kn hk nx sz ++ (cmW Y (hk ix) adk Kk ++ cmW Y h ad K)))) (mQ G (svO Y hv h7 h hto h3 h4 h5 h6 im ik ++ (paW Y h3 kn hk nx sz ++ (cmW Y (hk ix) adk Kk ++ cmW Y h ad K))) (some (.int (iZ (rSun K a)))) (svO Y hv h7 h hto h3 h4 h5 h6 im ik ++ opW Y h3 kn hk nx sz ix adk Kk h ad K (fSun a) (kS K 0 4 a))) 0 0 (fun q => q ∈ List.map Prod.fst (svO Y hv h7 h hto h3 h4 h5 h6 im ik ++ (paW Y h3 kn hk nx sz ++ (cmW Y (hk ix) adk Kk ++ cmW Y h ad K)))) := by
  refine Met.ofW (cc := cX6_sun) (maxL := 3) (ret := (some .int)) (by decide) rfl ?_
  intro p e s m args below meth c s₁ B hml hv
  obtain ⟨rfl, hK, hP, hD0⟩ := hv
  have hx := B.exec
  have hb := B.bytes
  have hr := B.returns
  have hts := atoms_spec (ws := wsX6_sun) B.pre
  have hown : s.vm.findClass RX6 = some m.cls := findClass_of_methodNamed B.named
  have hlocks := B.notSynchronized
  have hFX0 : ∀ w ∈ wsX00, w ∈ wsX6_sun := by decide +kernel
  have hFX6 : ∀ w ∈ wsX60, w ∈ wsX6_sun := by decide +kernel
  have kf29 := (hts (.fieldLink RX6 29 "ShadeVotes" "past" "LShadeVotes$Past;") (by decide +kernel))
  have kf19 := (hts (.fieldLink RX6 19 "ShadeVotes" "present" "LShadeVotes$Commune;") (by decide +kernel))
  have kf142 := (hts (.fieldLink RX6 142 "ShadeVotes$Commune" "sunlight" "I") (by decide +kernel))
  have hD := va_D_self hD0
  have hS : va_S (fun q => q ∈ List.map Prod.fst (svO Y hv h7 h hto h3 h4 h5 h6 im ik ++ (paW Y h3 kn hk nx sz ++ (cmW Y (hk ix) adk Kk ++ cmW Y h ad K)))) s.heap s.heap [] := va_S.rf
  obtain ⟨H, hHe⟩ : ∃ H, H = s.heap := ⟨_, rfl⟩
  rw [← hHe] at hP
  replace hS : va_S (fun q => q ∈ List.map Prod.fst (svO Y hv h7 h hto h3 h4 h5 h6 im ik ++ (paW Y h3 kn hk nx sz ++ (cmW Y (hk ix) adk Kk ++ cmW Y h ad K)))) s.heap H [] := by rw [hHe]; exact hS
  have hl := lv_entry ([.ref hv, .int (iZ a)]) (n := 3) (Nat.le_of_ble_eq_true rfl)
  rw [lg_entry_eq]
  generalize (lg_sl ([.ref hv, .int (iZ a)]) ++ List.replicate (3 - (lg_sl ([.ref hv, .int (iZ a)])).length) Slot.unset).toArray = ls at hl ⊢
  replace hl : lv_has ls 3 [(0, .ref hv), (1, .int (iZ a))] := hl
  obtain ⟨locs, hLe⟩ : ∃ locs : List Loc, locs = [] := ⟨_, rfl⟩
  rw [← hLe] at hS ⊢
  have hW0 : ∀ {Q : State → Prop} {g : JFrame}, W p l e ({ frames := 2, cells := 0, slots := 0, locals := 43 }) s m [.ref hv, .int (iZ a)].toArray below meth c H locs 0 0 Q g → W p l e ({ frames := 2, cells := 0, slots := 0, locals := 43 }) s m [.ref hv, .int (iZ a)].toArray below meth c s.heap locs 0 0 Q g := fun h => by rw [← hHe]; exact h
  refine hW0 ?_
  clear hW0 hHe hLe
  have h0 := hW.1
  have hnc := hW.nc
  refine lv_iload_n hx hb dX6_sun_0 rfl (lv_at hl 1 rfl) ?_
  refine z_iconst hx hb dX6_sun_1 ?_
  refine z_bipush hx hb dX6_sun_2 (by decide) ?_
  refine ro_S (As := [.int (iZ a), .int (iZ 1), .int (iZ 9)]) (rest := []) ⟨hx, hb, hml, hown, hts⟩ (c_X6_isWithin l G Y a 1 9 (by omega)) (cwS 3 hts gX6_sun_X6_isWithin rfl rfl rfl (by decide +kernel) ⟨Nat.le_of_ble_eq_true rfl, Nat.le_of_ble_eq_true rfl⟩) hK (hP.sub (ws' := []) [] rfl) rfl hl.1 rfl (Nat.le_of_ble_eq_true rfl) dX6_sun_4 ⟨Nat.zero_le _, Nat.zero_le _⟩ ?_
  refine z_ifb_ne (tgt := 12) hx hb dX6_sun_7 (by decide) (fun c_1 => ?_) (fun c_1 => ?_)
  · skip
    have c_1 := of_decide_eq_true c_1
    refine lv_aload_n hx hb dX6_sun_12 rfl (lv_at hl 0 rfl) ?_
    refine va_get (D := G) (ci := 6) (v := .ref h3) (C := RX6) (T := TX6) (N := 9) hx hb hts hFX6 hown hK.1 hP 0 rfl rfl 3 (by decide) kf29 (fun _ h9 => h9) rfl dX6_sun_13 ?_
    refine lv_aload_n hx hb dX6_sun_16 rfl (lv_at hl 0 rfl) ?_
    refine va_get (D := G) (ci := 6) (v := .ref h) (C := RX6) (T := TX6) (N := 9) hx hb hts hFX6 hown hK.1 hP 0 rfl rfl 1 (by decide) kf19 (fun _ h9 => h9) rfl dX6_sun_17 ?_
    have hP := hP.sub (ws' := [(h3, .inr (2, [.ref kn, .int (iZ nx), .int (iZ sz)])), (kn, .inl (Y 3, 10, .inr (.inr (.inr (.inr (aR hk)))))), (hk ix, .inr (0, [.int (iZ (Kk 0 0)), .int (iZ (Kk 0 1)), .int (iZ (Kk 0 2)), .int (iZ (Kk 0 3)), .int (iZ (Kk 0 4)), .int (iZ (Kk 0 5)), .int (iZ (Kk 0 6)), .ref (adk 1), .ref (adk 2), .ref (adk 3), .ref (adk 4), .ref (adk 5), .ref (adk 6), .ref (adk 7)])), (adk 1, .inl (Y 0, 6, .inl (aI (Kk 1)))), (adk 2, .inl (Y 0, 6, .inl (aI (Kk 2)))), (adk 3, .inl (Y 0, 6, .inl (aI (Kk 3)))), (adk 4, .inl (Y 1, 6, .inl (aI (Kk 4)))), (adk 5, .inl (Y 1, 6, .inl (aI (Kk 5)))), (adk 6, .inl (Y 0, 7, .inl (aI (Kk 6)))), (adk 7, .inl (Y 0, 7, .inl (aI (Kk 7)))), (h, .inr (0, [.int (iZ (K 0 0)), .int (iZ (K 0 1)), .int (iZ (K 0 2)), .int (iZ (K 0 3)), .int (iZ (K 0 4)), .int (iZ (K 0 5)), .int (iZ (K 0 6)), .ref (ad 1), .ref (ad 2), .ref (ad 3), .ref (ad 4), .ref (ad 5), .ref (ad 6), .ref (ad 7)])), (ad 1, .inl (Y 0, 6, .inl (aI (K 1)))), (ad 2, .inl (Y 0, 6, .inl (aI (K 2)))), (ad 3, .inl (Y 0, 6, .inl (aI (K 3)))), (ad 4, .inl (Y 1, 6, .inl (aI (K 4)))), (ad 5, .inl (Y 1, 6, .inl (aI (K 5)))), (ad 6, .inl (Y 0, 7, .inl (aI (K 6)))), (ad 7, .inl (Y 0, 7, .inl (aI (K 7))))] ++ [(hv, .inr (6, [.ref h7, .ref h, .ref hto, .ref h3, .ref h4, .ref h5, .ref h6, .ref im, .ref ik]))]) [1, 2, 3, 4, 5, 6, 7, 8, 9, 10, 11, 12, 13, 14, 15, 16, 17, 18, 0] rfl
    have hD := hD.sub (ws' := [(h3, .inr (2, [.ref kn, .int (iZ nx), .int (iZ sz)])), (kn, .inl (Y 3, 10, .inr (.inr (.inr (.inr (aR hk)))))), (hk ix, .inr (0, [.int (iZ (Kk 0 0)), .int (iZ (Kk 0 1)), .int (iZ (Kk 0 2)), .int (iZ (Kk 0 3)), .int (iZ (Kk 0 4)), .int (iZ (Kk 0 5)), .int (iZ (Kk 0 6)), .ref (adk 1), .ref (adk 2), .ref (adk 3), .ref (adk 4), .ref (adk 5), .ref (adk 6), .ref (adk 7)])), (adk 1, .inl (Y 0, 6, .inl (aI (Kk 1)))), (adk 2, .inl (Y 0, 6, .inl (aI (Kk 2)))), (adk 3, .inl (Y 0, 6, .inl (aI (Kk 3)))), (adk 4, .inl (Y 1, 6, .inl (aI (Kk 4)))), (adk 5, .inl (Y 1, 6, .inl (aI (Kk 5)))), (adk 6, .inl (Y 0, 7, .inl (aI (Kk 6)))), (adk 7, .inl (Y 0, 7, .inl (aI (Kk 7)))), (h, .inr (0, [.int (iZ (K 0 0)), .int (iZ (K 0 1)), .int (iZ (K 0 2)), .int (iZ (K 0 3)), .int (iZ (K 0 4)), .int (iZ (K 0 5)), .int (iZ (K 0 6)), .ref (ad 1), .ref (ad 2), .ref (ad 3), .ref (ad 4), .ref (ad 5), .ref (ad 6), .ref (ad 7)])), (ad 1, .inl (Y 0, 6, .inl (aI (K 1)))), (ad 2, .inl (Y 0, 6, .inl (aI (K 2)))), (ad 3, .inl (Y 0, 6, .inl (aI (K 3)))), (ad 4, .inl (Y 1, 6, .inl (aI (K 4)))), (ad 5, .inl (Y 1, 6, .inl (aI (K 5)))), (ad 6, .inl (Y 0, 7, .inl (aI (K 6)))), (ad 7, .inl (Y 0, 7, .inl (aI (K 7))))] ++ [(hv, .inr (6, [.ref h7, .ref h, .ref hto, .ref h3, .ref h4, .ref h5, .ref h6, .ref im, .ref ik]))]) [1, 2, 3, 4, 5, 6, 7, 8, 9, 10, 11, 12, 13, 14, 15, 16, 17, 18, 0] (by decide) rfl
    refine mu_V (As := [.ref h]) (rest := []) (wc := [(h3, .inr (2, [.ref kn, .int (iZ nx), .int (iZ sz)])), (kn, .inl (Y 3, 10, .inr (.inr (.inr (.inr (aR hk)))))), (hk ix, .inr (0, [.int (iZ (Kk 0 0)), .int (iZ (Kk 0 1)), .int (iZ (Kk 0 2)), .int (iZ (Kk 0 3)), .int (iZ (Kk 0 4)), .int (iZ (Kk 0 5)), .int (iZ (Kk 0 6)), .ref (adk 1), .ref (adk 2), .ref (adk 3), .ref (adk 4), .ref (adk 5), .ref (adk 6), .ref (adk 7)])), (adk 1, .inl (Y 0, 6, .inl (aI (Kk 1)))), (adk 2, .inl (Y 0, 6, .inl (aI (Kk 2)))), (adk 3, .inl (Y 0, 6, .inl (aI (Kk 3)))), (adk 4, .inl (Y 1, 6, .inl (aI (Kk 4)))), (adk 5, .inl (Y 1, 6, .inl (aI (Kk 5)))), (adk 6, .inl (Y 0, 7, .inl (aI (Kk 6)))), (adk 7, .inl (Y 0, 7, .inl (aI (Kk 7)))), (h, .inr (0, [.int (iZ (K 0 0)), .int (iZ (K 0 1)), .int (iZ (K 0 2)), .int (iZ (K 0 3)), .int (iZ (K 0 4)), .int (iZ (K 0 5)), .int (iZ (K 0 6)), .ref (ad 1), .ref (ad 2), .ref (ad 3), .ref (ad 4), .ref (ad 5), .ref (ad 6), .ref (ad 7)])), (ad 1, .inl (Y 0, 6, .inl (aI (K 1)))), (ad 2, .inl (Y 0, 6, .inl (aI (K 2)))), (ad 3, .inl (Y 0, 6, .inl (aI (K 3)))), (ad 4, .inl (Y 1, 6, .inl (aI (K 4)))), (ad 5, .inl (Y 1, 6, .inl (aI (K 5)))), (ad 6, .inl (Y 0, 7, .inl (aI (K 6)))), (ad 7, .inl (Y 0, 7, .inl (aI (K 7))))]) (wc' := paW Y h3 kn hk ((nx + 1) % 10) (min (sz + 1) 10) ++ (cmW Y (hk ix) adk K ++ cmW Y h ad K)) (F := [(hv, .inr (6, [.ref h7, .ref h, .ref hto, .ref h3, .ref h4, .ref h5, .ref h6, .ref im, .ref ik]))]) ⟨hx, hb, hml, hown, hts⟩ (c_X2_remember l G Y h3 kn hk nx sz ix adk Kk h ad K hW (by omega)) (cwV 1 hts gX6_sun_X2_remember rfl rfl rfl (by decide +kernel) ⟨Nat.le_of_ble_eq_true rfl, Nat.le_of_ble_eq_true rfl⟩) hK hP hD hS 0 rfl rfl (Eq.refl [h3, kn, hk ix, adk 1, adk 2, adk 3, adk 4, adk 5, adk 6, adk 7, h, ad 1, ad 2, ad 3, ad 4, ad 5, ad 6, ad 7]) rfl hl.1 rfl (Nat.le_of_ble_eq_true rfl) dX6_sun_20 ⟨Nat.zero_le _, Nat.zero_le _⟩ (fun H locs hP hD hS => ?_)
    show W _ _ _ _ _ _ _ _ _ _ _ _ _ _ _ (F0 _ _ _ [])
    replace hP : va_P G vwCl [(h3, .inr (2, [.ref kn, .int (iZ ((nx + 1) % 10)), .int (iZ (min (sz + 1) 10))])), (kn, .inl (Y 3, 10, .inr (.inr (.inr (.inr (aR hk)))))), (hk ix, .inr (0, [.int (iZ (K 0 0)), .int (iZ (K 0 1)), .int (iZ (K 0 2)), .int (iZ (K 0 3)), .int (iZ (K 0 4)), .int (iZ (K 0 5)), .int (iZ (K 0 6)), .ref (adk 1), .ref (adk 2), .ref (adk 3), .ref (adk 4), .ref (adk 5), .ref (adk 6), .ref (adk 7)])), (adk 1, .inl (Y 0, 6, .inl (aI (K 1)))), (adk 2, .inl (Y 0, 6, .inl (aI (K 2)))), (adk 3, .inl (Y 0, 6, .inl (aI (K 3)))), (adk 4, .inl (Y 1, 6, .inl (aI (K 4)))), (adk 5, .inl (Y 1, 6, .inl (aI (K 5)))), (adk 6, .inl (Y 0, 7, .inl (aI (K 6)))), (adk 7, .inl (Y 0, 7, .inl (aI (K 7)))), (h, .inr (0, [.int (iZ (K 0 0)), .int (iZ (K 0 1)), .int (iZ (K 0 2)), .int (iZ (K 0 3)), .int (iZ (K 0 4)), .int (iZ (K 0 5)), .int (iZ (K 0 6)), .ref (ad 1), .ref (ad 2), .ref (ad 3), .ref (ad 4), .ref (ad 5), .ref (ad 6), .ref (ad 7)])), (ad 1, .inl (Y 0, 6, .inl (aI (K 1)))), (ad 2, .inl (Y 0, 6, .inl (aI (K 2)))), (ad 3, .inl (Y 0, 6, .inl (aI (K 3)))), (ad 4, .inl (Y 1, 6, .inl (aI (K 4)))), (ad 5, .inl (Y 1, 6, .inl (aI (K 5)))), (ad 6, .inl (Y 0, 7, .inl (aI (K 6)))), (ad 7, .inl (Y 0, 7, .inl (aI (K 7)))), (hv, .inr (6, [.ref h7, .ref h, .ref hto, .ref h3, .ref h4, .ref h5, .ref h6, .ref im, .ref ik]))] H := hP
    replace hD : va_D _ [(h3, .inr (2, [.ref kn, .int (iZ ((nx + 1) % 10)), .int (iZ (min (sz + 1) 10))])), (kn, .inl (Y 3, 10, .inr (.inr (.inr (.inr (aR hk)))))), (hk ix, .inr (0, [.int (iZ (K 0 0)), .int (iZ (K 0 1)), .int (iZ (K 0 2)), .int (iZ (K 0 3)), .int (iZ (K 0 4)), .int (iZ (K 0 5)), .int (iZ (K 0 6)), .ref (adk 1), .ref (adk 2), .ref (adk 3), .ref (adk 4), .ref (adk 5), .ref (adk 6), .ref (adk 7)])), (adk 1, .inl (Y 0, 6, .inl (aI (K 1)))), (adk 2, .inl (Y 0, 6, .inl (aI (K 2)))), (adk 3, .inl (Y 0, 6, .inl (aI (K 3)))), (adk 4, .inl (Y 1, 6, .inl (aI (K 4)))), (adk 5, .inl (Y 1, 6, .inl (aI (K 5)))), (adk 6, .inl (Y 0, 7, .inl (aI (K 6)))), (adk 7, .inl (Y 0, 7, .inl (aI (K 7)))), (h, .inr (0, [.int (iZ (K 0 0)), .int (iZ (K 0 1)), .int (iZ (K 0 2)), .int (iZ (K 0 3)), .int (iZ (K 0 4)), .int (iZ (K 0 5)), .int (iZ (K 0 6)), .ref (ad 1), .ref (ad 2), .ref (ad 3), .ref (ad 4), .ref (ad 5), .ref (ad 6), .ref (ad 7)])), (ad 1, .inl (Y 0, 6, .inl (aI (K 1)))), (ad 2, .inl (Y 0, 6, .inl (aI (K 2)))), (ad 3, .inl (Y 0, 6, .inl (aI (K 3)))), (ad 4, .inl (Y 1, 6, .inl (aI (K 4)))), (ad 5, .inl (Y 1, 6, .inl (aI (K 5)))), (ad 6, .inl (Y 0, 7, .inl (aI (K 6)))), (ad 7, .inl (Y 0, 7, .inl (aI (K 7)))), (hv, .inr (6, [.ref h7, .ref h, .ref hto, .ref h3, .ref h4, .ref h5, .ref h6, .ref im, .ref ik]))] := hD
    refine lv_aload_n hx hb dX6_sun_23 rfl (lv_at hl 0 rfl) ?_
    refine va_get (D := G) (ci := 6) (v := .ref h) (C := RX6) (T := TX6) (N := 9) hx hb hts hFX6 hown hK.1 hP 18 rfl rfl 1 (by decide) kf19 (fun _ h9 => h9) rfl dX6_sun_24 ?_
    refine va_get (D := G) (ci := 0) (v := .int (iZ (K 0 4))) (C := RX0) (T := TX0) (N := 14) hx hb hts hFX0 hown hK.1 hP 10 rfl rfl 4 (by decide) kf142 (fun _ h9 => h9) rfl dX6_sun_27 ?_
    refine lv_istore_n (lv' := [(2, .int (iZ (K 0 4))), (0, .ref hv), (1, .int (iZ a))]) hx hb dX6_sun_30 rfl hl (by decide) rfl (fun ls hl => ?_)
    refine lv_aload_n hx hb dX6_sun_31 rfl (lv_at hl 1 rfl) ?_
    refine va_get (D := G) (ci := 6) (v := .ref h) (C := RX6) (T := TX6) (N := 9) hx hb hts hFX6 hown hK.1 hP 18 rfl rfl 1 (by decide) kf19 (fun _ h9 => h9) rfl dX6_sun_32 ?_
    refine lv_iload_n hx hb dX6_sun_35 rfl (lv_at hl 2 rfl) ?_
    refine va_put (D := G) (ci := 0) (v := .int (iZ a)) (ty := .int) (C := RX0) (T := TX0) (N := 14) hx hb hts hFX0 tyX0 tyX0_ok nmX0 hown hK.1 hP hD hS 10 rfl rfl 4 (by decide) kf142 (fun _ h9 => h9) rfl (by decide +kernel) rfl rfl (Nat.le_of_ble_eq_true rfl) dX6_sun_36 (fun H locs hP hD hS => ?_)
    replace hP : va_P G vwCl [(h3, .inr (2, [.ref kn, .int (iZ ((nx + 1) % 10)), .int (iZ (min (sz + 1) 10))])), (kn, .inl (Y 3, 10, .inr (.inr (.inr (.inr (aR hk)))))), (hk ix, .inr (0, [.int (iZ (K 0 0)), .int (iZ (K 0 1)), .int (iZ (K 0 2)), .int (iZ (K 0 3)), .int (iZ (K 0 4)), .int (iZ (K 0 5)), .int (iZ (K 0 6)), .ref (adk 1), .ref (adk 2), .ref (adk 3), .ref (adk 4), .ref (adk 5), .ref (adk 6), .ref (adk 7)])), (adk 1, .inl (Y 0, 6, .inl (aI (K 1)))), (adk 2, .inl (Y 0, 6, .inl (aI (K 2)))), (adk 3, .inl (Y 0, 6, .inl (aI (K 3)))), (adk 4, .inl (Y 1, 6, .inl (aI (K 4)))), (adk 5, .inl (Y 1, 6, .inl (aI (K 5)))), (adk 6, .inl (Y 0, 7, .inl (aI (K 6)))), (adk 7, .inl (Y 0, 7, .inl (aI (K 7)))), (h, .inr (0, [.int (iZ (K 0 0)), .int (iZ (K 0 1)), .int (iZ (K 0 2)), .int (iZ (K 0 3)), .int (iZ a), .int (iZ (K 0 5)), .int (iZ (K 0 6)), .ref (ad 1), .ref (ad 2), .ref (ad 3), .ref (ad 4), .ref (ad 5), .ref (ad 6), .ref (ad 7)])), (ad 1, .inl (Y 0, 6, .inl (aI (K 1)))), (ad 2, .inl (Y 0, 6, .inl (aI (K 2)))), (ad 3, .inl (Y 0, 6, .inl (aI (K 3)))), (ad 4, .inl (Y 1, 6, .inl (aI (K 4)))), (ad 5, .inl (Y 1, 6, .inl (aI (K 5)))), (ad 6, .inl (Y 0, 7, .inl (aI (K 6)))), (ad 7, .inl (Y 0, 7, .inl (aI (K 7)))), (hv, .inr (6, [.ref h7, .ref h, .ref hto, .ref h3, .ref h4, .ref h5, .ref h6, .ref im, .ref ik]))] H := hP
    replace hD : va_D _ [(h3, .inr (2, [.ref kn, .int (iZ ((nx + 1) % 10)), .int (iZ (min (sz + 1) 10))])), (kn, .inl (Y 3, 10, .inr (.inr (.inr (.inr (aR hk)))))), (hk ix, .inr (0, [.int (iZ (K 0 0)), .int (iZ (K 0 1)), .int (iZ (K 0 2)), .int (iZ (K 0 3)), .int (iZ (K 0 4)), .int (iZ (K 0 5)), .int (iZ (K 0 6)), .ref (adk 1), .ref (adk 2), .ref (adk 3), .ref (adk 4), .ref (adk 5), .ref (adk 6), .ref (adk 7)])), (adk 1, .inl (Y 0, 6, .inl (aI (K 1)))), (adk 2, .inl (Y 0, 6, .inl (aI (K 2)))), (adk 3, .inl (Y 0, 6, .inl (aI (K 3)))), (adk 4, .inl (Y 1, 6, .inl (aI (K 4)))), (adk 5, .inl (Y 1, 6, .inl (aI (K 5)))), (adk 6, .inl (Y 0, 7, .inl (aI (K 6)))), (adk 7, .inl (Y 0, 7, .inl (aI (K 7)))), (h, .inr (0, [.int (iZ (K 0 0)), .int (iZ (K 0 1)), .int (iZ (K 0 2)), .int (iZ (K 0 3)), .int (iZ a), .int (iZ (K 0 5)), .int (iZ (K 0 6)), .ref (ad 1), .ref (ad 2), .ref (ad 3), .ref (ad 4), .ref (ad 5), .ref (ad 6), .ref (ad 7)])), (ad 1, .inl (Y 0, 6, .inl (aI (K 1)))), (ad 2, .inl (Y 0, 6, .inl (aI (K 2)))), (ad 3, .inl (Y 0, 6, .inl (aI (K 3)))), (ad 4, .inl (Y 1, 6, .inl (aI (K 4)))), (ad 5, .inl (Y 1, 6, .inl (aI (K 5)))), (ad 6, .inl (Y 0, 7, .inl (aI (K 6)))), (ad 7, .inl (Y 0, 7, .inl (aI (K 7)))), (hv, .inr (6, [.ref h7, .ref h, .ref hto, .ref h3, .ref h4, .ref h5, .ref h6, .ref im, .ref ik]))] := hD
    refine lv_iload_n hx hb dX6_sun_39 rfl (lv_at hl 0 rfl) ?_
    refine z_top (show K 0 4 = rSun K a from ?_) ?_
    · unfold rSun; (repeat' split) <;> first | rfl | omega | (simp_all; done)
    have ef : fSun a = true := decide_eq_true (by omega)
    have hP9 : va_P G vwCl (svO Y hv h7 h hto h3 h4 h5 h6 im ik ++ opW Y h3 kn hk nx sz ix adk Kk h ad K (fSun a) (kS K 0 4 a)) H := by rw [ef]; exact hP.sub [18, 0, 1, 2, 3, 4, 5, 6, 7, 8, 9, 10, 11, 12, 13, 14, 15, 16, 17] rfl
    exact W.iret (v := iZ (rSun K a)) hx hb hr (fun t9 ht9 _ => ⟨rfl, by rw [ht9]; exact hP9, hS.F ht9⟩) hS.2.2 dX6_sun_40
  · skip
    have c_1 := of_decide_eq_false c_1
    refine z_iconst hx hb dX6_sun_10 ?_
    refine z_top (show (-1) = rSun K a from ?_) ?_
    · unfold rSun; (repeat' split) <;> first | rfl | omega | (simp_all; done)
    have ef : fSun a = false := decide_eq_false (by omega)
    have hP9 : va_P G vwCl (svO Y hv h7 h hto h3 h4 h5 h6 im ik ++ opW Y h3 kn hk nx sz ix adk Kk h ad K (fSun a) (kS K 0 4 a)) H := by rw [ef]; exact hP.sub [0, 1, 2, 3, 4, 5, 6, 7, 8, 9, 10, 11, 12, 13, 14, 15, 16, 17, 18] rfl
    exact W.iret (v := iZ (rSun K a)) hx hb hr (fun t9 ht9 _ => ⟨rfl, by rw [ht9]; exact hP9, hS.F ht9⟩) hS.2.2 dX6_sun_11

set_option maxHeartbeats 4000000 in
set_option maxRecDepth 100000 in
theorem c_X6_undo (l : Launch) (G : va_G) (Y : Nat → ClassId) (hv h7 h hto h3 h4 h5 h6 im ik : Nat) (kn : Nat) (hk : Nat → Nat) (nx sz : Int) (ix : Nat) (adk : Nat → Nat) (Kk : Kom) (hWk : 0 < sz → cWF Kk) (ad : Nat → Nat) (K : Kom) (ro : ((nx + 9) % 10 = ix ∧ 0 ≤ nx ∧ nx < 10) ∧ 0 ≤ sz ∧ sz ≤ 10) : Met l yX6_undo wsX6_undo ({ frames := 2, cells := 0, slots := 0, locals := 43 }) (mP G Y [.ref hv] (svO Y hv h7 h hto h3 h4 h5 h6 im ik ++ (paW Y h3 kn hk nx sz ++ (cmW Y (hk ix) adk Kk ++ cmW Y h ad K)))) (mQ G (svO Y hv h7 h hto h3 h4 h5 h6 im ik ++ (paW Y h3 kn hk nx sz ++ (cmW Y (hk ix) adk Kk ++ cmW Y h ad K))) (some (.int (iZ (rUndo sz)))) (svO Y hv h7 h hto h3 h4 h5 h6 im ik ++ (paW Y h3 kn hk (bif decide (sz ≠ 0) then ((ix : Nat) : Int) else nx) (bif decide (sz ≠ 0) then sz - 1 else sz) ++ (cmW Y (hk ix) adk Kk ++ cmW Y h ad (bif decide (sz ≠ 0) then Kk else K))))) 0 0 (fun q => q ∈ List.map Prod.fst (svO Y hv h7 h hto h3 h4 h5 h6 im ik ++ (paW Y h3 kn hk nx sz ++ (cmW Y (hk ix) adk Kk ++ cmW Y h ad K)))) := by
  refine Met.ofW (cc := cX6_undo) (maxL := 1) (ret := (some .int)) (by decide) rfl ?_
  intro p e s m args below meth c s₁ B hml hv
  obtain ⟨rfl, hK, hP, hD0⟩ := hv
  have hx := B.exec
  have hb := B.bytes
  have hr := B.returns
  have hts := atoms_spec (ws := wsX6_undo) B.pre
  have hown : s.vm.findClass RX6 = some m.cls := findClass_of_methodNamed B.named
  have hlocks := B.notSynchronized
  have hFX2 : ∀ w ∈ wsX20, w ∈ wsX6_undo := by decide +kernel
  have hFX6 : ∀ w ∈ wsX60, w ∈ wsX6_undo := by decide +kernel
  have kf29 := (hts (.fieldLink RX6 29 "ShadeVotes" "past" "LShadeVotes$Past;") (by decide +kernel))
  have kf152 := (hts (.fieldLink RX6 152 "ShadeVotes$Past" "size" "I") (by decide +kernel))
  have kf19 := (hts (.fieldLink RX6 19 "ShadeVotes" "present" "LShadeVotes$Commune;") (by decide +kernel))
  have hD := va_D_self hD0
  have hS : va_S (fun q => q ∈ List.map Prod.fst (svO Y hv h7 h hto h3 h4 h5 h6 im ik ++ (paW Y h3 kn hk nx sz ++ (cmW Y (hk ix) adk Kk ++ cmW Y h ad K)))) s.heap s.heap [] := va_S.rf
  obtain ⟨H, hHe⟩ : ∃ H, H = s.heap := ⟨_, rfl⟩
  rw [← hHe] at hP
  replace hS : va_S (fun q => q ∈ List.map Prod.fst (svO Y hv h7 h hto h3 h4 h5 h6 im ik ++ (paW Y h3 kn hk nx sz ++ (cmW Y (hk ix) adk Kk ++ cmW Y h ad K)))) s.heap H [] := by rw [hHe]; exact hS
  have hl := lv_entry ([.ref hv]) (n := 1) (Nat.le_of_ble_eq_true rfl)
  rw [lg_entry_eq]
  generalize (lg_sl ([.ref hv]) ++ List.replicate (1 - (lg_sl ([.ref hv])).length) Slot.unset).toArray = ls at hl ⊢
  replace hl : lv_has ls 1 [(0, .ref hv)] := hl
  obtain ⟨locs, hLe⟩ : ∃ locs : List Loc, locs = [] := ⟨_, rfl⟩
  rw [← hLe] at hS ⊢
  have hW0 : ∀ {Q : State → Prop} {g : JFrame}, W p l e ({ frames := 2, cells := 0, slots := 0, locals := 43 }) s m [.ref hv].toArray below meth c H locs 0 0 Q g → W p l e ({ frames := 2, cells := 0, slots := 0, locals := 43 }) s m [.ref hv].toArray below meth c s.heap locs 0 0 Q g := fun h => by rw [← hHe]; exact h
  refine hW0 ?_
  clear hW0 hHe hLe
  refine lv_aload_n hx hb dX6_undo_0 rfl (lv_at hl 0 rfl) ?_
  refine va_get (D := G) (ci := 6) (v := .ref h3) (C := RX6) (T := TX6) (N := 9) hx hb hts hFX6 hown hK.1 hP 0 rfl rfl 3 (by decide) kf29 (fun _ h9 => h9) rfl dX6_undo_1 ?_
  refine va_get (D := G) (ci := 2) (v := .int (iZ sz)) (C := RX2) (T := TX2) (N := 3) hx hb hts hFX2 hown hK.1 hP 1 rfl rfl 2 (by decide) kf152 (fun _ h9 => h9) rfl dX6_undo_4 ?_
  refine z_if_ne (tgt := 13) hx hb dX6_undo_7 (by decide) (by omega) (fun c_1 => ?_) (fun c_1 => ?_)
  · skip
    refine lv_aload_n hx hb dX6_undo_13 rfl (lv_at hl 0 rfl) ?_
    refine va_get (D := G) (ci := 6) (v := .ref h3) (C := RX6) (T := TX6) (N := 9) hx hb hts hFX6 hown hK.1 hP 0 rfl rfl 3 (by decide) kf29 (fun _ h9 => h9) rfl dX6_undo_14 ?_
    refine lv_aload_n hx hb dX6_undo_17 rfl (lv_at hl 0 rfl) ?_
    refine va_get (D := G) (ci := 6) (v := .ref h) (C := RX6) (T := TX6) (N := 9) hx hb hts hFX6 hown hK.1 hP 0 rfl rfl 1 (by decide) kf19 (fun _ h9 => h9) rfl dX6_undo_18 ?_
    have hP := hP.sub (ws' := [(h3, .inr (2, [.ref kn, .int (iZ nx), .int (iZ sz)])), (kn, .inl (Y 3, 10, .inr (.inr (.inr (.inr (aR hk)))))), (hk ix, .inr (0, [.int (iZ (Kk 0 0)), .int (iZ (Kk 0 1)), .int (iZ (Kk 0 2)), .int (iZ (Kk 0 3)), .int (iZ (Kk 0 4)), .int (iZ (Kk 0 5)), .int (iZ (Kk 0 6)), .ref (adk 1), .ref (adk 2), .ref (adk 3), .ref (adk 4), .ref (adk 5), .ref (adk 6), .ref (adk 7)])), (adk 1, .inl (Y 0, 6, .inl (aI (Kk 1)))), (adk 2, .inl (Y 0, 6, .inl (aI (Kk 2)))), (adk 3, .inl (Y 0, 6, .inl (aI (Kk 3)))), (adk 4, .inl (Y 1, 6, .inl (aI (Kk 4)))), (adk 5, .inl (Y 1, 6, .inl (aI (Kk 5)))), (adk 6, .inl (Y 0, 7, .inl (aI (Kk 6)))), (adk 7, .inl (Y 0, 7, .inl (aI (Kk 7)))), (h, .inr (0, [.int (iZ (K 0 0)), .int (iZ (K 0 1)), .int (iZ (K 0 2)), .int (iZ (K 0 3)), .int (iZ (K 0 4)), .int (iZ (K 0 5)), .int (iZ (K 0 6)), .ref (ad 1), .ref (ad 2), .ref (ad 3), .ref (ad 4), .ref (ad 5), .ref (ad 6), .ref (ad 7)])), (ad 1, .inl (Y 0, 6, .inl (aI (K 1)))), (ad 2, .inl (Y 0, 6, .inl (aI (K 2)))), (ad 3, .inl (Y 0, 6, .inl (aI (K 3)))), (ad 4, .inl (Y 1, 6, .inl (aI (K 4)))), (ad 5, .inl (Y 1, 6, .inl (aI (K 5)))), (ad 6, .inl (Y 0, 7, .inl (aI (K 6)))), (ad 7, .inl (Y 0, 7, .inl (aI (K 7))))] ++ [(hv, .inr (6, [.ref h7, .ref h, .ref hto, .ref h3, .ref h4, .ref h5, .ref h6, .ref im, .ref ik]))]) [1, 2, 3, 4, 5, 6, 7, 8, 9, 10, 11, 12, 13, 14, 15, 16, 17, 18, 0] rfl
    have hD := hD.sub (ws' := [(h3, .inr (2, [.ref kn, .int (iZ nx), .int (iZ sz)])), (kn, .inl (Y 3, 10, .inr (.inr (.inr (.inr (aR hk)))))), (hk ix, .inr (0, [.int (iZ (Kk 0 0)), .int (iZ (Kk 0 1)), .int (iZ (Kk 0 2)), .int (iZ (Kk 0 3)), .int (iZ (Kk 0 4)), .int (iZ (Kk 0 5)), .int (iZ (Kk 0 6)), .ref (adk 1), .ref (adk 2), .ref (adk 3), .ref (adk 4), .ref (adk 5), .ref (adk 6), .ref (adk 7)])), (adk 1, .inl (Y 0, 6, .inl (aI (Kk 1)))), (adk 2, .inl (Y 0, 6, .inl (aI (Kk 2)))), (adk 3, .inl (Y 0, 6, .inl (aI (Kk 3)))), (adk 4, .inl (Y 1, 6, .inl (aI (Kk 4)))), (adk 5, .inl (Y 1, 6, .inl (aI (Kk 5)))), (adk 6, .inl (Y 0, 7, .inl (aI (Kk 6)))), (adk 7, .inl (Y 0, 7, .inl (aI (Kk 7)))), (h, .inr (0, [.int (iZ (K 0 0)), .int (iZ (K 0 1)), .int (iZ (K 0 2)), .int (iZ (K 0 3)), .int (iZ (K 0 4)), .int (iZ (K 0 5)), .int (iZ (K 0 6)), .ref (ad 1), .ref (ad 2), .ref (ad 3), .ref (ad 4), .ref (ad 5), .ref (ad 6), .ref (ad 7)])), (ad 1, .inl (Y 0, 6, .inl (aI (K 1)))), (ad 2, .inl (Y 0, 6, .inl (aI (K 2)))), (ad 3, .inl (Y 0, 6, .inl (aI (K 3)))), (ad 4, .inl (Y 1, 6, .inl (aI (K 4)))), (ad 5, .inl (Y 1, 6, .inl (aI (K 5)))), (ad 6, .inl (Y 0, 7, .inl (aI (K 6)))), (ad 7, .inl (Y 0, 7, .inl (aI (K 7))))] ++ [(hv, .inr (6, [.ref h7, .ref h, .ref hto, .ref h3, .ref h4, .ref h5, .ref h6, .ref im, .ref ik]))]) [1, 2, 3, 4, 5, 6, 7, 8, 9, 10, 11, 12, 13, 14, 15, 16, 17, 18, 0] (by decide) rfl
    refine mu_V (As := [.ref h]) (rest := []) (wc := [(h3, .inr (2, [.ref kn, .int (iZ nx), .int (iZ sz)])), (kn, .inl (Y 3, 10, .inr (.inr (.inr (.inr (aR hk)))))), (hk ix, .inr (0, [.int (iZ (Kk 0 0)), .int (iZ (Kk 0 1)), .int (iZ (Kk 0 2)), .int (iZ (Kk 0 3)), .int (iZ (Kk 0 4)), .int (iZ (Kk 0 5)), .int (iZ (Kk 0 6)), .ref (adk 1), .ref (adk 2), .ref (adk 3), .ref (adk 4), .ref (adk 5), .ref (adk 6), .ref (adk 7)])), (adk 1, .inl (Y 0, 6, .inl (aI (Kk 1)))), (adk 2, .inl (Y 0, 6, .inl (aI (Kk 2)))), (adk 3, .inl (Y 0, 6, .inl (aI (Kk 3)))), (adk 4, .inl (Y 1, 6, .inl (aI (Kk 4)))), (adk 5, .inl (Y 1, 6, .inl (aI (Kk 5)))), (adk 6, .inl (Y 0, 7, .inl (aI (Kk 6)))), (adk 7, .inl (Y 0, 7, .inl (aI (Kk 7)))), (h, .inr (0, [.int (iZ (K 0 0)), .int (iZ (K 0 1)), .int (iZ (K 0 2)), .int (iZ (K 0 3)), .int (iZ (K 0 4)), .int (iZ (K 0 5)), .int (iZ (K 0 6)), .ref (ad 1), .ref (ad 2), .ref (ad 3), .ref (ad 4), .ref (ad 5), .ref (ad 6), .ref (ad 7)])), (ad 1, .inl (Y 0, 6, .inl (aI (K 1)))), (ad 2, .inl (Y 0, 6, .inl (aI (K 2)))), (ad 3, .inl (Y 0, 6, .inl (aI (K 3)))), (ad 4, .inl (Y 1, 6, .inl (aI (K 4)))), (ad 5, .inl (Y 1, 6, .inl (aI (K 5)))), (ad 6, .inl (Y 0, 7, .inl (aI (K 6)))), (ad 7, .inl (Y 0, 7, .inl (aI (K 7))))]) (wc' := paW Y h3 kn hk ((ix : Nat) : Int) (sz - 1) ++ (cmW Y (hk ix) adk Kk ++ cmW Y h ad Kk)) (F := [(hv, .inr (6, [.ref h7, .ref h, .ref hto, .ref h3, .ref h4, .ref h5, .ref h6, .ref im, .ref ik]))]) ⟨hx, hb, hml, hown, hts⟩ (c_X2_restore l G Y h3 kn hk nx sz ix adk Kk (hWk (by omega)) h ad K (by omega)) (cwV 1 hts gX6_undo_X2_restore rfl rfl rfl (by decide +kernel) ⟨Nat.le_of_ble_eq_true rfl, Nat.le_of_ble_eq_true rfl⟩) hK hP hD hS 0 rfl rfl (Eq.refl [h3, kn, hk ix, adk 1, adk 2, adk 3, adk 4, adk 5, adk 6, adk 7, h, ad 1, ad 2, ad 3, ad 4, ad 5, ad 6, ad 7]) rfl hl.1 rfl (Nat.le_of_ble_eq_true rfl) dX6_undo_21 ⟨Nat.zero_le _, Nat.zero_le _⟩ (fun H locs hP hD hS => ?_)
    show W _ _ _ _ _ _ _ _ _ _ _ _ _ _ _ (F0 _ _ _ [])
    replace hP : va_P G vwCl [(h3, .inr (2, [.ref kn, .int (iZ ((ix : Nat) : Int)), .int (iZ (sz - 1))])), (kn, .inl (Y 3, 10, .inr (.inr (.inr (.inr (aR hk)))))), (hk ix, .inr (0, [.int (iZ (Kk 0 0)), .int (iZ (Kk 0 1)), .int (iZ (Kk 0 2)), .int (iZ (Kk 0 3)), .int (iZ (Kk 0 4)), .int (iZ (Kk 0 5)), .int (iZ (Kk 0 6)), .ref (adk 1), .ref (adk 2), .ref (adk 3), .ref (adk 4), .ref (adk 5), .ref (adk 6), .ref (adk 7)])), (adk 1, .inl (Y 0, 6, .inl (aI (Kk 1)))), (adk 2, .inl (Y 0, 6, .inl (aI (Kk 2)))), (adk 3, .inl (Y 0, 6, .inl (aI (Kk 3)))), (adk 4, .inl (Y 1, 6, .inl (aI (Kk 4)))), (adk 5, .inl (Y 1, 6, .inl (aI (Kk 5)))), (adk 6, .inl (Y 0, 7, .inl (aI (Kk 6)))), (adk 7, .inl (Y 0, 7, .inl (aI (Kk 7)))), (h, .inr (0, [.int (iZ (Kk 0 0)), .int (iZ (Kk 0 1)), .int (iZ (Kk 0 2)), .int (iZ (Kk 0 3)), .int (iZ (Kk 0 4)), .int (iZ (Kk 0 5)), .int (iZ (Kk 0 6)), .ref (ad 1), .ref (ad 2), .ref (ad 3), .ref (ad 4), .ref (ad 5), .ref (ad 6), .ref (ad 7)])), (ad 1, .inl (Y 0, 6, .inl (aI (Kk 1)))), (ad 2, .inl (Y 0, 6, .inl (aI (Kk 2)))), (ad 3, .inl (Y 0, 6, .inl (aI (Kk 3)))), (ad 4, .inl (Y 1, 6, .inl (aI (Kk 4)))), (ad 5, .inl (Y 1, 6, .inl (aI (Kk 5)))), (ad 6, .inl (Y 0, 7, .inl (aI (Kk 6)))), (ad 7, .inl (Y 0, 7, .inl (aI (Kk 7)))), (hv, .inr (6, [.ref h7, .ref h, .ref hto, .ref h3, .ref h4, .ref h5, .ref h6, .ref im, .ref ik]))] H := hP
    replace hD : va_D _ [(h3, .inr (2, [.ref kn, .int (iZ ((ix : Nat) : Int)), .int (iZ (sz - 1))])), (kn, .inl (Y 3, 10, .inr (.inr (.inr (.inr (aR hk)))))), (hk ix, .inr (0, [.int (iZ (Kk 0 0)), .int (iZ (Kk 0 1)), .int (iZ (Kk 0 2)), .int (iZ (Kk 0 3)), .int (iZ (Kk 0 4)), .int (iZ (Kk 0 5)), .int (iZ (Kk 0 6)), .ref (adk 1), .ref (adk 2), .ref (adk 3), .ref (adk 4), .ref (adk 5), .ref (adk 6), .ref (adk 7)])), (adk 1, .inl (Y 0, 6, .inl (aI (Kk 1)))), (adk 2, .inl (Y 0, 6, .inl (aI (Kk 2)))), (adk 3, .inl (Y 0, 6, .inl (aI (Kk 3)))), (adk 4, .inl (Y 1, 6, .inl (aI (Kk 4)))), (adk 5, .inl (Y 1, 6, .inl (aI (Kk 5)))), (adk 6, .inl (Y 0, 7, .inl (aI (Kk 6)))), (adk 7, .inl (Y 0, 7, .inl (aI (Kk 7)))), (h, .inr (0, [.int (iZ (Kk 0 0)), .int (iZ (Kk 0 1)), .int (iZ (Kk 0 2)), .int (iZ (Kk 0 3)), .int (iZ (Kk 0 4)), .int (iZ (Kk 0 5)), .int (iZ (Kk 0 6)), .ref (ad 1), .ref (ad 2), .ref (ad 3), .ref (ad 4), .ref (ad 5), .ref (ad 6), .ref (ad 7)])), (ad 1, .inl (Y 0, 6, .inl (aI (Kk 1)))), (ad 2, .inl (Y 0, 6, .inl (aI (Kk 2)))), (ad 3, .inl (Y 0, 6, .inl (aI (Kk 3)))), (ad 4, .inl (Y 1, 6, .inl (aI (Kk 4)))), (ad 5, .inl (Y 1, 6, .inl (aI (Kk 5)))), (ad 6, .inl (Y 0, 7, .inl (aI (Kk 6)))), (ad 7, .inl (Y 0, 7, .inl (aI (Kk 7)))), (hv, .inr (6, [.ref h7, .ref h, .ref hto, .ref h3, .ref h4, .ref h5, .ref h6, .ref im, .ref ik]))] := hD
    refine lv_aload_n hx hb dX6_undo_24 rfl (lv_at hl 0 rfl) ?_
    refine va_get (D := G) (ci := 6) (v := .ref h3) (C := RX6) (T := TX6) (N := 9) hx hb hts hFX6 hown hK.1 hP 18 rfl rfl 3 (by decide) kf29 (fun _ h9 => h9) rfl dX6_undo_25 ?_
    refine va_get (D := G) (ci := 2) (v := .int (iZ (sz - 1))) (C := RX2) (T := TX2) (N := 3) hx hb hts hFX2 hown hK.1 hP 0 rfl rfl 2 (by decide) kf152 (fun _ h9 => h9) rfl dX6_undo_28 ?_
    refine z_top (show (sz - 1) = rUndo sz from ?_) ?_
    · unfold rUndo; (repeat' split) <;> first | rfl | omega | (simp_all; done)
    have ef : decide (sz ≠ 0) = true := decide_eq_true (by omega)
    have hP9 : va_P G vwCl (svO Y hv h7 h hto h3 h4 h5 h6 im ik ++ (paW Y h3 kn hk (bif decide (sz ≠ 0) then ((ix : Nat) : Int) else nx) (bif decide (sz ≠ 0) then sz - 1 else sz) ++ (cmW Y (hk ix) adk Kk ++ cmW Y h ad (bif decide (sz ≠ 0) then Kk else K)))) H := by rw [ef]; exact hP.sub [18, 0, 1, 2, 3, 4, 5, 6, 7, 8, 9, 10, 11, 12, 13, 14, 15, 16, 17] rfl
    exact W.iret (v := iZ (rUndo sz)) hx hb hr (fun t9 ht9 _ => ⟨rfl, by rw [ht9]; exact hP9, hS.F ht9⟩) hS.2.2 dX6_undo_31
  · skip
    refine z_bipush hx hb dX6_undo_10 (by decide) ?_
    refine z_top (show (-2) = rUndo sz from ?_) ?_
    · unfold rUndo; (repeat' split) <;> first | rfl | omega | (simp_all; done)
    have ef : decide (sz ≠ 0) = false := decide_eq_false (by omega)
    have hP9 : va_P G vwCl (svO Y hv h7 h hto h3 h4 h5 h6 im ik ++ (paW Y h3 kn hk (bif decide (sz ≠ 0) then ((ix : Nat) : Int) else nx) (bif decide (sz ≠ 0) then sz - 1 else sz) ++ (cmW Y (hk ix) adk Kk ++ cmW Y h ad (bif decide (sz ≠ 0) then Kk else K)))) H := by rw [ef]; exact hP.sub [0, 1, 2, 3, 4, 5, 6, 7, 8, 9, 10, 11, 12, 13, 14, 15, 16, 17, 18] rfl
    exact W.iret (v := iZ (rUndo sz)) hx hb hr (fun t9 ht9 _ => ⟨rfl, by rw [ht9]; exact hP9, hS.F ht9⟩) hS.2.2 dX6_undo_12

set_option maxHeartbeats 4000000 in
set_option maxRecDepth 100000 in
theorem c_X6_movers (l : Launch) (G : va_G) (Y : Nat → ClassId) (hv h7 h hto h3 h4 h5 h6 im ik : Nat) (ht va vb : Nat) (E C : Nat → Int) (ad : Nat → Nat) (K : Kom) (hW : cWF K) (a b : Int) (r : zR a ∧ zR b) : Met l yX6_movers wsX6_movers ({ frames := 5, cells := 0, slots := 0, locals := 122 }) (mP G Y [.ref hv, .int (iZ a), .int (iZ b)] (svO Y hv h7 h hto h3 h4 h5 h6 im ik ++ (quW Y h4 ht va vb E C ++ cmW Y h ad K))) (eQ G (svO Y hv h7 h hto h3 h4 h5 h6 im ik ++ (quW Y h4 ht va vb E C ++ cmW Y h ad K)) (some (.int (iZ (rMovers K a b)))) (fun u => svO Y hv h7 h hto h3 h4 h5 h6 im ik ++ (quW Y h4 ht va vb (u 0) (u 1) ++ cmW Y h ad K))) 0 0 (fun q => q ∈ List.map Prod.fst (svO Y hv h7 h hto h3 h4 h5 h6 im ik ++ (quW Y h4 ht va vb E C ++ cmW Y h ad K))) := by
  refine Met.ofW (cc := cX6_movers) (maxL := 3) (ret := (some .int)) (by decide) rfl ?_
  intro p e s m args below meth c s₁ B hml hv
  obtain ⟨rfl, hK, hP, hD0⟩ := hv
  have hx := B.exec
  have hb := B.bytes
  have hr := B.returns
  have hts := atoms_spec (ws := wsX6_movers) B.pre
  have hown : s.vm.findClass RX6 = some m.cls := findClass_of_methodNamed B.named
  have hlocks := B.notSynchronized
  have hFX6 : ∀ w ∈ wsX60, w ∈ wsX6_movers := by decide +kernel
  have kf36 := (hts (.fieldLink RX6 36 "ShadeVotes" "question" "LShadeVotes$Question;") (by decide +kernel))
  have kf19 := (hts (.fieldLink RX6 19 "ShadeVotes" "present" "LShadeVotes$Commune;") (by decide +kernel))
  have hD := va_D_self hD0
  have hS : va_S (fun q => q ∈ List.map Prod.fst (svO Y hv h7 h hto h3 h4 h5 h6 im ik ++ (quW Y h4 ht va vb E C ++ cmW Y h ad K))) s.heap s.heap [] := va_S.rf
  obtain ⟨H, hHe⟩ : ∃ H, H = s.heap := ⟨_, rfl⟩
  rw [← hHe] at hP
  replace hS : va_S (fun q => q ∈ List.map Prod.fst (svO Y hv h7 h hto h3 h4 h5 h6 im ik ++ (quW Y h4 ht va vb E C ++ cmW Y h ad K))) s.heap H [] := by rw [hHe]; exact hS
  have hl := lv_entry ([.ref hv, .int (iZ a), .int (iZ b)]) (n := 3) (Nat.le_of_ble_eq_true rfl)
  rw [lg_entry_eq]
  generalize (lg_sl ([.ref hv, .int (iZ a), .int (iZ b)]) ++ List.replicate (3 - (lg_sl ([.ref hv, .int (iZ a), .int (iZ b)])).length) Slot.unset).toArray = ls at hl ⊢
  replace hl : lv_has ls 3 [(0, .ref hv), (1, .int (iZ a)), (2, .int (iZ b))] := hl
  obtain ⟨locs, hLe⟩ : ∃ locs : List Loc, locs = [] := ⟨_, rfl⟩
  rw [← hLe] at hS ⊢
  have hW0 : ∀ {Q : State → Prop} {g : JFrame}, W p l e ({ frames := 5, cells := 0, slots := 0, locals := 122 }) s m [.ref hv, .int (iZ a), .int (iZ b)].toArray below meth c H locs 0 0 Q g → W p l e ({ frames := 5, cells := 0, slots := 0, locals := 122 }) s m [.ref hv, .int (iZ a), .int (iZ b)].toArray below meth c s.heap locs 0 0 Q g := fun h => by rw [← hHe]; exact h
  refine hW0 ?_
  clear hW0 hHe hLe
  have h0 := hW.1
  have hnc := hW.nc
  refine lv_iload_n hx hb dX6_movers_0 rfl (lv_at hl 1 rfl) ?_
  refine ro_S (As := [.int (iZ a)]) (rest := []) ⟨hx, hb, hml, hown, hts⟩ (c_X6_isMotion l G Y a (by omega)) (cwS 1 hts gX6_movers_X6_isMotion rfl rfl rfl (by decide +kernel) ⟨Nat.le_of_ble_eq_true rfl, Nat.le_of_ble_eq_true rfl⟩) hK (hP.sub (ws' := []) [] rfl) rfl hl.1 rfl (Nat.le_of_ble_eq_true rfl) dX6_movers_1 ⟨Nat.zero_le _, Nat.zero_le _⟩ ?_
  refine z_ifb_eq (tgt := 17) hx hb dX6_movers_4 (by decide) (fun c_1 => ?_) (fun c_1 => ?_)
  · skip
    have c_1 := of_decide_eq_false c_1
    refine z_iconst hx hb dX6_movers_17 ?_
    refine z_top (show (-1) = rMovers K a b from ?_) ?_
    · unfold rMovers; (repeat' split) <;> first | rfl | omega | (simp_all; done)
    have hP9 : va_P G vwCl (svO Y hv h7 h hto h3 h4 h5 h6 im ik ++ (quW Y h4 ht va vb ((ecU E C) 0) ((ecU E C) 1) ++ cmW Y h ad K)) H := hP.sub [0, 1, 2, 3, 4, 5, 6, 7, 8, 9, 10, 11] rfl
    exact W.iret (v := iZ (rMovers K a b)) hx hb hr (fun t9 ht9 _ => ⟨rfl, ⟨ecU E C, by rw [ht9]; exact hP9⟩, hS.F ht9⟩) hS.2.2 dX6_movers_18
  · skip
    have c_1 := of_decide_eq_true c_1
    refine lv_iload_n hx hb dX6_movers_7 rfl (lv_at hl 2 rfl) ?_
    refine z_iconst hx hb dX6_movers_8 ?_
    refine z_bipush hx hb dX6_movers_9 (by decide) ?_
    refine ro_S (As := [.int (iZ b), .int (iZ 0), .int (iZ 9)]) (rest := []) ⟨hx, hb, hml, hown, hts⟩ (c_X6_isWithin l G Y b 0 9 (by omega)) (cwS 3 hts gX6_movers_X6_isWithin rfl rfl rfl (by decide +kernel) ⟨Nat.le_of_ble_eq_true rfl, Nat.le_of_ble_eq_true rfl⟩) hK (hP.sub (ws' := []) [] rfl) rfl hl.1 rfl (Nat.le_of_ble_eq_true rfl) dX6_movers_11 ⟨Nat.zero_le _, Nat.zero_le _⟩ ?_
    refine z_ifb_ne (tgt := 19) hx hb dX6_movers_14 (by decide) (fun c_2 => ?_) (fun c_2 => ?_)
    · skip
      have c_2 := of_decide_eq_true c_2
      obtain ⟨mo, hmo⟩ : ∃ mo : Nat, a = ((mo : Nat) : Int) := ⟨a.toNat, by omega⟩
      have hmot : a.toNat = mo := by omega
      rw [hmo] at hl
      refine lv_aload_n hx hb dX6_movers_19 rfl (lv_at hl 0 rfl) ?_
      refine va_get (D := G) (ci := 6) (v := .ref h4) (C := RX6) (T := TX6) (N := 9) hx hb hts hFX6 hown hK.1 hP 0 rfl rfl 4 (by decide) kf36 (fun _ h9 => h9) rfl dX6_movers_20 ?_
      refine lv_aload_n hx hb dX6_movers_23 rfl (lv_at hl 0 rfl) ?_
      refine va_get (D := G) (ci := 6) (v := .ref h) (C := RX6) (T := TX6) (N := 9) hx hb hts hFX6 hown hK.1 hP 0 rfl rfl 1 (by decide) kf19 (fun _ h9 => h9) rfl dX6_movers_24 ?_
      refine lv_iload_n hx hb dX6_movers_27 rfl (lv_at hl 1 rfl) ?_
      refine lv_iload_n hx hb dX6_movers_28 rfl (lv_at hl 2 rfl) ?_
      have hP := hP.sub (ws' := [(h4, .inr (3, [.ref ht, .ref va, .ref vb])), (va, .inl (Y 0, 7, .inl (aI E))), (vb, .inl (Y 0, 7, .inl (aI C))), (h, .inr (0, [.int (iZ (K 0 0)), .int (iZ (K 0 1)), .int (iZ (K 0 2)), .int (iZ (K 0 3)), .int (iZ (K 0 4)), .int (iZ (K 0 5)), .int (iZ (K 0 6)), .ref (ad 1), .ref (ad 2), .ref (ad 3), .ref (ad 4), .ref (ad 5), .ref (ad 6), .ref (ad 7)])), (ad 1, .inl (Y 0, 6, .inl (aI (K 1)))), (ad 2, .inl (Y 0, 6, .inl (aI (K 2)))), (ad 3, .inl (Y 0, 6, .inl (aI (K 3)))), (ad 4, .inl (Y 1, 6, .inl (aI (K 4)))), (ad 5, .inl (Y 1, 6, .inl (aI (K 5)))), (ad 6, .inl (Y 0, 7, .inl (aI (K 6)))), (ad 7, .inl (Y 0, 7, .inl (aI (K 7))))] ++ [(hv, .inr (6, [.ref h7, .ref h, .ref hto, .ref h3, .ref h4, .ref h5, .ref h6, .ref im, .ref ik]))]) [1, 2, 3, 4, 5, 6, 7, 8, 9, 10, 11, 0] rfl
      have hD := hD.sub (ws' := [(h4, .inr (3, [.ref ht, .ref va, .ref vb])), (va, .inl (Y 0, 7, .inl (aI E))), (vb, .inl (Y 0, 7, .inl (aI C))), (h, .inr (0, [.int (iZ (K 0 0)), .int (iZ (K 0 1)), .int (iZ (K 0 2)), .int (iZ (K 0 3)), .int (iZ (K 0 4)), .int (iZ (K 0 5)), .int (iZ (K 0 6)), .ref (ad 1), .ref (ad 2), .ref (ad 3), .ref (ad 4), .ref (ad 5), .ref (ad 6), .ref (ad 7)])), (ad 1, .inl (Y 0, 6, .inl (aI (K 1)))), (ad 2, .inl (Y 0, 6, .inl (aI (K 2)))), (ad 3, .inl (Y 0, 6, .inl (aI (K 3)))), (ad 4, .inl (Y 1, 6, .inl (aI (K 4)))), (ad 5, .inl (Y 1, 6, .inl (aI (K 5)))), (ad 6, .inl (Y 0, 7, .inl (aI (K 6)))), (ad 7, .inl (Y 0, 7, .inl (aI (K 7))))] ++ [(hv, .inr (6, [.ref h7, .ref h, .ref hto, .ref h3, .ref h4, .ref h5, .ref h6, .ref im, .ref ik]))]) [1, 2, 3, 4, 5, 6, 7, 8, 9, 10, 11, 0] (by decide) rfl
      refine eu_V (As := [.ref h, .int (iZ ((mo : Nat) : Int)), .int (iZ b)]) (rest := []) (wc := [(h4, .inr (3, [.ref ht, .ref va, .ref vb])), (va, .inl (Y 0, 7, .inl (aI E))), (vb, .inl (Y 0, 7, .inl (aI C))), (h, .inr (0, [.int (iZ (K 0 0)), .int (iZ (K 0 1)), .int (iZ (K 0 2)), .int (iZ (K 0 3)), .int (iZ (K 0 4)), .int (iZ (K 0 5)), .int (iZ (K 0 6)), .ref (ad 1), .ref (ad 2), .ref (ad 3), .ref (ad 4), .ref (ad 5), .ref (ad 6), .ref (ad 7)])), (ad 1, .inl (Y 0, 6, .inl (aI (K 1)))), (ad 2, .inl (Y 0, 6, .inl (aI (K 2)))), (ad 3, .inl (Y 0, 6, .inl (aI (K 3)))), (ad 4, .inl (Y 1, 6, .inl (aI (K 4)))), (ad 5, .inl (Y 1, 6, .inl (aI (K 5)))), (ad 6, .inl (Y 0, 7, .inl (aI (K 6)))), (ad 7, .inl (Y 0, 7, .inl (aI (K 7))))]) (F := [(hv, .inr (6, [.ref h7, .ref h, .ref hto, .ref h3, .ref h4, .ref h5, .ref h6, .ref im, .ref ik]))]) (W1 := (fun u => quW Y h4 ht va vb (u 0) (u 1) ++ cmW Y h ad K)) ⟨hx, hb, hml, hown, hts⟩ (c_X3_fewestMovers l G Y h4 ht va vb E C h ad K hW mo b (by omega)) (cwV 3 hts gX6_movers_X3_fewestMovers rfl rfl rfl (by decide +kernel) ⟨Nat.le_of_ble_eq_true rfl, Nat.le_of_ble_eq_true rfl⟩) hK hP hD hS 0 rfl rfl (fun _ => Eq.refl [h4, va, vb, h, ad 1, ad 2, ad 3, ad 4, ad 5, ad 6, ad 7]) rfl hl.1 rfl (Nat.le_of_ble_eq_true rfl) dX6_movers_29 ⟨Nat.zero_le _, Nat.zero_le _⟩ (fun u3 H locs hP hD hS => ?_)
      show W _ _ _ _ _ _ _ _ _ _ _ _ _ _ _ (F0 _ _ _ [.int (iZ (fm K mo b))])
      replace hP : va_P G vwCl [(h4, .inr (3, [.ref ht, .ref va, .ref vb])), (va, .inl (Y 0, 7, .inl (aI (u3 0)))), (vb, .inl (Y 0, 7, .inl (aI (u3 1)))), (h, .inr (0, [.int (iZ (K 0 0)), .int (iZ (K 0 1)), .int (iZ (K 0 2)), .int (iZ (K 0 3)), .int (iZ (K 0 4)), .int (iZ (K 0 5)), .int (iZ (K 0 6)), .ref (ad 1), .ref (ad 2), .ref (ad 3), .ref (ad 4), .ref (ad 5), .ref (ad 6), .ref (ad 7)])), (ad 1, .inl (Y 0, 6, .inl (aI (K 1)))), (ad 2, .inl (Y 0, 6, .inl (aI (K 2)))), (ad 3, .inl (Y 0, 6, .inl (aI (K 3)))), (ad 4, .inl (Y 1, 6, .inl (aI (K 4)))), (ad 5, .inl (Y 1, 6, .inl (aI (K 5)))), (ad 6, .inl (Y 0, 7, .inl (aI (K 6)))), (ad 7, .inl (Y 0, 7, .inl (aI (K 7)))), (hv, .inr (6, [.ref h7, .ref h, .ref hto, .ref h3, .ref h4, .ref h5, .ref h6, .ref im, .ref ik]))] H := hP
      replace hD : va_D _ [(h4, .inr (3, [.ref ht, .ref va, .ref vb])), (va, .inl (Y 0, 7, .inl (aI (u3 0)))), (vb, .inl (Y 0, 7, .inl (aI (u3 1)))), (h, .inr (0, [.int (iZ (K 0 0)), .int (iZ (K 0 1)), .int (iZ (K 0 2)), .int (iZ (K 0 3)), .int (iZ (K 0 4)), .int (iZ (K 0 5)), .int (iZ (K 0 6)), .ref (ad 1), .ref (ad 2), .ref (ad 3), .ref (ad 4), .ref (ad 5), .ref (ad 6), .ref (ad 7)])), (ad 1, .inl (Y 0, 6, .inl (aI (K 1)))), (ad 2, .inl (Y 0, 6, .inl (aI (K 2)))), (ad 3, .inl (Y 0, 6, .inl (aI (K 3)))), (ad 4, .inl (Y 1, 6, .inl (aI (K 4)))), (ad 5, .inl (Y 1, 6, .inl (aI (K 5)))), (ad 6, .inl (Y 0, 7, .inl (aI (K 6)))), (ad 7, .inl (Y 0, 7, .inl (aI (K 7)))), (hv, .inr (6, [.ref h7, .ref h, .ref hto, .ref h3, .ref h4, .ref h5, .ref h6, .ref im, .ref ik]))] := hD
      refine z_top (show fm K mo b = rMovers K a b from ?_) ?_
      · unfold rMovers; rw [hmot]; (repeat' split) <;> first | rfl | omega | (simp_all; done)
      have hP9 : va_P G vwCl (svO Y hv h7 h hto h3 h4 h5 h6 im ik ++ (quW Y h4 ht va vb ((ecU (u3 0) (u3 1)) 0) ((ecU (u3 0) (u3 1)) 1) ++ cmW Y h ad K)) H := hP.sub [11, 0, 1, 2, 3, 4, 5, 6, 7, 8, 9, 10] rfl
      exact W.iret (v := iZ (rMovers K a b)) hx hb hr (fun t9 ht9 _ => ⟨rfl, ⟨ecU (u3 0) (u3 1), by rw [ht9]; exact hP9⟩, hS.F ht9⟩) hS.2.2 dX6_movers_32
    · skip
      have c_2 := of_decide_eq_false c_2
      refine z_iconst hx hb dX6_movers_17 ?_
      refine z_top (show (-1) = rMovers K a b from ?_) ?_
      · unfold rMovers; (repeat' split) <;> first | rfl | omega | (simp_all; done)
      have hP9 : va_P G vwCl (svO Y hv h7 h hto h3 h4 h5 h6 im ik ++ (quW Y h4 ht va vb ((ecU E C) 0) ((ecU E C) 1) ++ cmW Y h ad K)) H := hP.sub [0, 1, 2, 3, 4, 5, 6, 7, 8, 9, 10, 11] rfl
      exact W.iret (v := iZ (rMovers K a b)) hx hb hr (fun t9 ht9 _ => ⟨rfl, ⟨ecU E C, by rw [ht9]; exact hP9⟩, hS.F ht9⟩) hS.2.2 dX6_movers_18

set_option maxHeartbeats 4000000 in
set_option maxRecDepth 100000 in
theorem c_X6_prune (l : Launch) (G : va_G) (Y : Nat → ClassId) (hv h7 h hto h3 h4 h5 h6 im ik : Nat) (ht va vb : Nat) (adt : Nat → Nat) (Kt : Kom) (ad : Nat → Nat) (K : Kom) (hW : cWF K) (a : Int) (r : zR a) : Met l yX6_prune wsX6_prune ({ frames := 6, cells := 0, slots := 0, locals := 139 }) (mP G Y [.ref hv, .int (iZ a)] (svO Y hv h7 h hto h3 h4 h5 h6 im ik ++ (qoW Y h4 ht va vb ++ (cmW Y ht adt Kt ++ cmW Y h ad K)))) (eQ G (svO Y hv h7 h hto h3 h4 h5 h6 im ik ++ (qoW Y h4 ht va vb ++ (cmW Y ht adt Kt ++ cmW Y h ad K))) (some (.int (iZ (rPrune K a)))) (fun u => svO Y hv h7 h hto h3 h4 h5 h6 im ik ++ (qoW Y h4 ht va vb ++ (cmW Y ht adt u ++ cmW Y h ad K)))) 0 0 (fun q => q ∈ List.map Prod.fst (svO Y hv h7 h hto h3 h4 h5 h6 im ik ++ (qoW Y h4 ht va vb ++ (cmW Y ht adt Kt ++ cmW Y h ad K)))) := by
  refine Met.ofW (cc := cX6_prune) (maxL := 2) (ret := (some .int)) (by decide) rfl ?_
  intro p e s m args below meth c s₁ B hml hv
  obtain ⟨rfl, hK, hP, hD0⟩ := hv
  have hx := B.exec
  have hb := B.bytes
  have hr := B.returns
  have hts := atoms_spec (ws := wsX6_prune) B.pre
  have hown : s.vm.findClass RX6 = some m.cls := findClass_of_methodNamed B.named
  have hlocks := B.notSynchronized
  have hFX6 : ∀ w ∈ wsX60, w ∈ wsX6_prune := by decide +kernel
  have kf36 := (hts (.fieldLink RX6 36 "ShadeVotes" "question" "LShadeVotes$Question;") (by decide +kernel))
  have kf19 := (hts (.fieldLink RX6 19 "ShadeVotes" "present" "LShadeVotes$Commune;") (by decide +kernel))
  have hD := va_D_self hD0
  have hS : va_S (fun q => q ∈ List.map Prod.fst (svO Y hv h7 h hto h3 h4 h5 h6 im ik ++ (qoW Y h4 ht va vb ++ (cmW Y ht adt Kt ++ cmW Y h ad K)))) s.heap s.heap [] := va_S.rf
  obtain ⟨H, hHe⟩ : ∃ H, H = s.heap := ⟨_, rfl⟩
  rw [← hHe] at hP
  replace hS : va_S (fun q => q ∈ List.map Prod.fst (svO Y hv h7 h hto h3 h4 h5 h6 im ik ++ (qoW Y h4 ht va vb ++ (cmW Y ht adt Kt ++ cmW Y h ad K)))) s.heap H [] := by rw [hHe]; exact hS
  have hl := lv_entry ([.ref hv, .int (iZ a)]) (n := 2) (Nat.le_of_ble_eq_true rfl)
  rw [lg_entry_eq]
  generalize (lg_sl ([.ref hv, .int (iZ a)]) ++ List.replicate (2 - (lg_sl ([.ref hv, .int (iZ a)])).length) Slot.unset).toArray = ls at hl ⊢
  replace hl : lv_has ls 2 [(0, .ref hv), (1, .int (iZ a))] := hl
  obtain ⟨locs, hLe⟩ : ∃ locs : List Loc, locs = [] := ⟨_, rfl⟩
  rw [← hLe] at hS ⊢
  have hW0 : ∀ {Q : State → Prop} {g : JFrame}, W p l e ({ frames := 6, cells := 0, slots := 0, locals := 139 }) s m [.ref hv, .int (iZ a)].toArray below meth c H locs 0 0 Q g → W p l e ({ frames := 6, cells := 0, slots := 0, locals := 139 }) s m [.ref hv, .int (iZ a)].toArray below meth c s.heap locs 0 0 Q g := fun h => by rw [← hHe]; exact h
  refine hW0 ?_
  clear hW0 hHe hLe
  have h0 := hW.1
  have hnc := hW.nc
  refine lv_iload_n hx hb dX6_prune_0 rfl (lv_at hl 1 rfl) ?_
  refine ro_S (As := [.int (iZ a)]) (rest := []) ⟨hx, hb, hml, hown, hts⟩ (c_X6_isMotion l G Y a (by omega)) (cwS 1 hts gX6_prune_X6_isMotion rfl rfl rfl (by decide +kernel) ⟨Nat.le_of_ble_eq_true rfl, Nat.le_of_ble_eq_true rfl⟩) hK (hP.sub (ws' := []) [] rfl) rfl hl.1 rfl (Nat.le_of_ble_eq_true rfl) dX6_prune_1 ⟨Nat.zero_le _, Nat.zero_le _⟩ ?_
  refine z_ifb_eq (tgt := 22) hx hb dX6_prune_4 (by decide) (fun c_1 => ?_) (fun c_1 => ?_)
  · skip
    have c_1 := of_decide_eq_false c_1
    refine z_iconst hx hb dX6_prune_22 ?_
    refine z_top (show (-1) = rPrune K a from ?_) ?_
    · unfold rPrune; (repeat' split) <;> first | rfl | omega | (simp_all; done)
    have hP9 : va_P G vwCl (svO Y hv h7 h hto h3 h4 h5 h6 im ik ++ (qoW Y h4 ht va vb ++ (cmW Y ht adt Kt ++ cmW Y h ad K))) H := hP.sub [0, 1, 2, 3, 4, 5, 6, 7, 8, 9, 10, 11, 12, 13, 14, 15, 16, 17] rfl
    exact W.iret (v := iZ (rPrune K a)) hx hb hr (fun t9 ht9 _ => ⟨rfl, ⟨Kt, by rw [ht9]; exact hP9⟩, hS.F ht9⟩) hS.2.2 dX6_prune_23
  · skip
    have c_1 := of_decide_eq_true c_1
    obtain ⟨mo, hmo⟩ : ∃ mo : Nat, a = ((mo : Nat) : Int) := ⟨a.toNat, by omega⟩
    have hmot : a.toNat = mo := by omega
    rw [hmo] at hl
    refine lv_aload_n hx hb dX6_prune_7 rfl (lv_at hl 0 rfl) ?_
    refine va_get (D := G) (ci := 6) (v := .ref h4) (C := RX6) (T := TX6) (N := 9) hx hb hts hFX6 hown hK.1 hP 0 rfl rfl 4 (by decide) kf36 (fun _ h9 => h9) rfl dX6_prune_8 ?_
    refine lv_aload_n hx hb dX6_prune_11 rfl (lv_at hl 0 rfl) ?_
    refine va_get (D := G) (ci := 6) (v := .ref h) (C := RX6) (T := TX6) (N := 9) hx hb hts hFX6 hown hK.1 hP 0 rfl rfl 1 (by decide) kf19 (fun _ h9 => h9) rfl dX6_prune_12 ?_
    refine lv_iload_n hx hb dX6_prune_15 rfl (lv_at hl 1 rfl) ?_
    have hP := hP.sub (ws' := [(h4, .inr (3, [.ref ht, .ref va, .ref vb])), (ht, .inr (0, [.int (iZ (Kt 0 0)), .int (iZ (Kt 0 1)), .int (iZ (Kt 0 2)), .int (iZ (Kt 0 3)), .int (iZ (Kt 0 4)), .int (iZ (Kt 0 5)), .int (iZ (Kt 0 6)), .ref (adt 1), .ref (adt 2), .ref (adt 3), .ref (adt 4), .ref (adt 5), .ref (adt 6), .ref (adt 7)])), (adt 1, .inl (Y 0, 6, .inl (aI (Kt 1)))), (adt 2, .inl (Y 0, 6, .inl (aI (Kt 2)))), (adt 3, .inl (Y 0, 6, .inl (aI (Kt 3)))), (adt 4, .inl (Y 1, 6, .inl (aI (Kt 4)))), (adt 5, .inl (Y 1, 6, .inl (aI (Kt 5)))), (adt 6, .inl (Y 0, 7, .inl (aI (Kt 6)))), (adt 7, .inl (Y 0, 7, .inl (aI (Kt 7)))), (h, .inr (0, [.int (iZ (K 0 0)), .int (iZ (K 0 1)), .int (iZ (K 0 2)), .int (iZ (K 0 3)), .int (iZ (K 0 4)), .int (iZ (K 0 5)), .int (iZ (K 0 6)), .ref (ad 1), .ref (ad 2), .ref (ad 3), .ref (ad 4), .ref (ad 5), .ref (ad 6), .ref (ad 7)])), (ad 1, .inl (Y 0, 6, .inl (aI (K 1)))), (ad 2, .inl (Y 0, 6, .inl (aI (K 2)))), (ad 3, .inl (Y 0, 6, .inl (aI (K 3)))), (ad 4, .inl (Y 1, 6, .inl (aI (K 4)))), (ad 5, .inl (Y 1, 6, .inl (aI (K 5)))), (ad 6, .inl (Y 0, 7, .inl (aI (K 6)))), (ad 7, .inl (Y 0, 7, .inl (aI (K 7))))] ++ [(hv, .inr (6, [.ref h7, .ref h, .ref hto, .ref h3, .ref h4, .ref h5, .ref h6, .ref im, .ref ik]))]) [1, 2, 3, 4, 5, 6, 7, 8, 9, 10, 11, 12, 13, 14, 15, 16, 17, 0] rfl
    have hD := hD.sub (ws' := [(h4, .inr (3, [.ref ht, .ref va, .ref vb])), (ht, .inr (0, [.int (iZ (Kt 0 0)), .int (iZ (Kt 0 1)), .int (iZ (Kt 0 2)), .int (iZ (Kt 0 3)), .int (iZ (Kt 0 4)), .int (iZ (Kt 0 5)), .int (iZ (Kt 0 6)), .ref (adt 1), .ref (adt 2), .ref (adt 3), .ref (adt 4), .ref (adt 5), .ref (adt 6), .ref (adt 7)])), (adt 1, .inl (Y 0, 6, .inl (aI (Kt 1)))), (adt 2, .inl (Y 0, 6, .inl (aI (Kt 2)))), (adt 3, .inl (Y 0, 6, .inl (aI (Kt 3)))), (adt 4, .inl (Y 1, 6, .inl (aI (Kt 4)))), (adt 5, .inl (Y 1, 6, .inl (aI (Kt 5)))), (adt 6, .inl (Y 0, 7, .inl (aI (Kt 6)))), (adt 7, .inl (Y 0, 7, .inl (aI (Kt 7)))), (h, .inr (0, [.int (iZ (K 0 0)), .int (iZ (K 0 1)), .int (iZ (K 0 2)), .int (iZ (K 0 3)), .int (iZ (K 0 4)), .int (iZ (K 0 5)), .int (iZ (K 0 6)), .ref (ad 1), .ref (ad 2), .ref (ad 3), .ref (ad 4), .ref (ad 5), .ref (ad 6), .ref (ad 7)])), (ad 1, .inl (Y 0, 6, .inl (aI (K 1)))), (ad 2, .inl (Y 0, 6, .inl (aI (K 2)))), (ad 3, .inl (Y 0, 6, .inl (aI (K 3)))), (ad 4, .inl (Y 1, 6, .inl (aI (K 4)))), (ad 5, .inl (Y 1, 6, .inl (aI (K 5)))), (ad 6, .inl (Y 0, 7, .inl (aI (K 6)))), (ad 7, .inl (Y 0, 7, .inl (aI (K 7))))] ++ [(hv, .inr (6, [.ref h7, .ref h, .ref hto, .ref h3, .ref h4, .ref h5, .ref h6, .ref im, .ref ik]))]) [1, 2, 3, 4, 5, 6, 7, 8, 9, 10, 11, 12, 13, 14, 15, 16, 17, 0] (by decide) rfl
    refine eu_V (As := [.ref h, .int (iZ ((mo : Nat) : Int))]) (rest := []) (wc := [(h4, .inr (3, [.ref ht, .ref va, .ref vb])), (ht, .inr (0, [.int (iZ (Kt 0 0)), .int (iZ (Kt 0 1)), .int (iZ (Kt 0 2)), .int (iZ (Kt 0 3)), .int (iZ (Kt 0 4)), .int (iZ (Kt 0 5)), .int (iZ (Kt 0 6)), .ref (adt 1), .ref (adt 2), .ref (adt 3), .ref (adt 4), .ref (adt 5), .ref (adt 6), .ref (adt 7)])), (adt 1, .inl (Y 0, 6, .inl (aI (Kt 1)))), (adt 2, .inl (Y 0, 6, .inl (aI (Kt 2)))), (adt 3, .inl (Y 0, 6, .inl (aI (Kt 3)))), (adt 4, .inl (Y 1, 6, .inl (aI (Kt 4)))), (adt 5, .inl (Y 1, 6, .inl (aI (Kt 5)))), (adt 6, .inl (Y 0, 7, .inl (aI (Kt 6)))), (adt 7, .inl (Y 0, 7, .inl (aI (Kt 7)))), (h, .inr (0, [.int (iZ (K 0 0)), .int (iZ (K 0 1)), .int (iZ (K 0 2)), .int (iZ (K 0 3)), .int (iZ (K 0 4)), .int (iZ (K 0 5)), .int (iZ (K 0 6)), .ref (ad 1), .ref (ad 2), .ref (ad 3), .ref (ad 4), .ref (ad 5), .ref (ad 6), .ref (ad 7)])), (ad 1, .inl (Y 0, 6, .inl (aI (K 1)))), (ad 2, .inl (Y 0, 6, .inl (aI (K 2)))), (ad 3, .inl (Y 0, 6, .inl (aI (K 3)))), (ad 4, .inl (Y 1, 6, .inl (aI (K 4)))), (ad 5, .inl (Y 1, 6, .inl (aI (K 5)))), (ad 6, .inl (Y 0, 7, .inl (aI (K 6)))), (ad 7, .inl (Y 0, 7, .inl (aI (K 7))))]) (F := [(hv, .inr (6, [.ref h7, .ref h, .ref hto, .ref h3, .ref h4, .ref h5, .ref h6, .ref im, .ref ik]))]) (W1 := (fun u => qoW Y h4 ht va vb ++ (cmW Y ht adt u ++ cmW Y h ad K))) ⟨hx, hb, hml, hown, hts⟩ (c_X3_leastPruning l G Y h4 ht va vb adt Kt h ad K hW mo (by omega)) (cwV 2 hts gX6_prune_X3_leastPruning rfl rfl rfl (by decide +kernel) ⟨Nat.le_of_ble_eq_true rfl, Nat.le_of_ble_eq_true rfl⟩) hK hP hD hS 0 rfl rfl (fun _ => Eq.refl [h4, ht, adt 1, adt 2, adt 3, adt 4, adt 5, adt 6, adt 7, h, ad 1, ad 2, ad 3, ad 4, ad 5, ad 6, ad 7]) rfl hl.1 rfl (Nat.le_of_ble_eq_true rfl) dX6_prune_16 ⟨Nat.zero_le _, Nat.zero_le _⟩ (fun u2 H locs hP hD hS => ?_)
    show W _ _ _ _ _ _ _ _ _ _ _ _ _ _ _ (F0 _ _ _ [.int (iZ (lpr K mo))])
    replace hP : va_P G vwCl [(h4, .inr (3, [.ref ht, .ref va, .ref vb])), (ht, .inr (0, [.int (iZ (u2 0 0)), .int (iZ (u2 0 1)), .int (iZ (u2 0 2)), .int (iZ (u2 0 3)), .int (iZ (u2 0 4)), .int (iZ (u2 0 5)), .int (iZ (u2 0 6)), .ref (adt 1), .ref (adt 2), .ref (adt 3), .ref (adt 4), .ref (adt 5), .ref (adt 6), .ref (adt 7)])), (adt 1, .inl (Y 0, 6, .inl (aI (u2 1)))), (adt 2, .inl (Y 0, 6, .inl (aI (u2 2)))), (adt 3, .inl (Y 0, 6, .inl (aI (u2 3)))), (adt 4, .inl (Y 1, 6, .inl (aI (u2 4)))), (adt 5, .inl (Y 1, 6, .inl (aI (u2 5)))), (adt 6, .inl (Y 0, 7, .inl (aI (u2 6)))), (adt 7, .inl (Y 0, 7, .inl (aI (u2 7)))), (h, .inr (0, [.int (iZ (K 0 0)), .int (iZ (K 0 1)), .int (iZ (K 0 2)), .int (iZ (K 0 3)), .int (iZ (K 0 4)), .int (iZ (K 0 5)), .int (iZ (K 0 6)), .ref (ad 1), .ref (ad 2), .ref (ad 3), .ref (ad 4), .ref (ad 5), .ref (ad 6), .ref (ad 7)])), (ad 1, .inl (Y 0, 6, .inl (aI (K 1)))), (ad 2, .inl (Y 0, 6, .inl (aI (K 2)))), (ad 3, .inl (Y 0, 6, .inl (aI (K 3)))), (ad 4, .inl (Y 1, 6, .inl (aI (K 4)))), (ad 5, .inl (Y 1, 6, .inl (aI (K 5)))), (ad 6, .inl (Y 0, 7, .inl (aI (K 6)))), (ad 7, .inl (Y 0, 7, .inl (aI (K 7)))), (hv, .inr (6, [.ref h7, .ref h, .ref hto, .ref h3, .ref h4, .ref h5, .ref h6, .ref im, .ref ik]))] H := hP
    replace hD : va_D _ [(h4, .inr (3, [.ref ht, .ref va, .ref vb])), (ht, .inr (0, [.int (iZ (u2 0 0)), .int (iZ (u2 0 1)), .int (iZ (u2 0 2)), .int (iZ (u2 0 3)), .int (iZ (u2 0 4)), .int (iZ (u2 0 5)), .int (iZ (u2 0 6)), .ref (adt 1), .ref (adt 2), .ref (adt 3), .ref (adt 4), .ref (adt 5), .ref (adt 6), .ref (adt 7)])), (adt 1, .inl (Y 0, 6, .inl (aI (u2 1)))), (adt 2, .inl (Y 0, 6, .inl (aI (u2 2)))), (adt 3, .inl (Y 0, 6, .inl (aI (u2 3)))), (adt 4, .inl (Y 1, 6, .inl (aI (u2 4)))), (adt 5, .inl (Y 1, 6, .inl (aI (u2 5)))), (adt 6, .inl (Y 0, 7, .inl (aI (u2 6)))), (adt 7, .inl (Y 0, 7, .inl (aI (u2 7)))), (h, .inr (0, [.int (iZ (K 0 0)), .int (iZ (K 0 1)), .int (iZ (K 0 2)), .int (iZ (K 0 3)), .int (iZ (K 0 4)), .int (iZ (K 0 5)), .int (iZ (K 0 6)), .ref (ad 1), .ref (ad 2), .ref (ad 3), .ref (ad 4), .ref (ad 5), .ref (ad 6), .ref (ad 7)])), (ad 1, .inl (Y 0, 6, .inl (aI (K 1)))), (ad 2, .inl (Y 0, 6, .inl (aI (K 2)))), (ad 3, .inl (Y 0, 6, .inl (aI (K 3)))), (ad 4, .inl (Y 1, 6, .inl (aI (K 4)))), (ad 5, .inl (Y 1, 6, .inl (aI (K 5)))), (ad 6, .inl (Y 0, 7, .inl (aI (K 6)))), (ad 7, .inl (Y 0, 7, .inl (aI (K 7)))), (hv, .inr (6, [.ref h7, .ref h, .ref hto, .ref h3, .ref h4, .ref h5, .ref h6, .ref im, .ref ik]))] := hD
    refine lv_goto (tgt := 23) hx hb dX6_prune_19 (by decide) ?_
    refine z_top (show lpr K mo = rPrune K a from ?_) ?_
    · unfold rPrune; rw [hmot]; (repeat' split) <;> first | rfl | omega | (simp_all; done)
    have hP9 : va_P G vwCl (svO Y hv h7 h hto h3 h4 h5 h6 im ik ++ (qoW Y h4 ht va vb ++ (cmW Y ht adt u2 ++ cmW Y h ad K))) H := hP.sub [17, 0, 1, 2, 3, 4, 5, 6, 7, 8, 9, 10, 11, 12, 13, 14, 15, 16] rfl
    exact W.iret (v := iZ (rPrune K a)) hx hb hr (fun t9 ht9 _ => ⟨rfl, ⟨u2, by rw [ht9]; exact hP9⟩, hS.F ht9⟩) hS.2.2 dX6_prune_23

set_option maxHeartbeats 4000000 in
set_option maxRecDepth 100000 in
theorem c_X6_plant (l : Launch) (G : va_G) (Y : Nat → ClassId) (hv h7 h hto h3 h4 h5 h6 im ik : Nat) (ht va vb : Nat) (adt : Nat → Nat) (Kt : Kom) (ad : Nat → Nat) (K : Kom) (hW : cWF K) (a b : Int) (r : (zR a ∧ zR b) ∧ K 0 2 ≤ 5) : Met l yX6_plant wsX6_plant ({ frames := 6, cells := 0, slots := 0, locals := 139 }) (mP G Y [.ref hv, .int (iZ a), .int (iZ b)] (svO Y hv h7 h hto h3 h4 h5 h6 im ik ++ (qoW Y h4 ht va vb ++ (cmW Y ht adt Kt ++ cmW Y h ad K)))) (eQ G (svO Y hv h7 h hto h3 h4 h5 h6 im ik ++ (qoW Y h4 ht va vb ++ (cmW Y ht adt Kt ++ cmW Y h ad K))) (some (.int (iZ (rPlant K a b)))) (fun u => svO Y hv h7 h hto h3 h4 h5 h6 im ik ++ (qoW Y h4 ht va vb ++ (cmW Y ht adt u ++ cmW Y h ad K)))) 0 0 (fun q => q ∈ List.map Prod.fst (svO Y hv h7 h hto h3 h4 h5 h6 im ik ++ (qoW Y h4 ht va vb ++ (cmW Y ht adt Kt ++ cmW Y h ad K)))) := by
  refine Met.ofW (cc := cX6_plant) (maxL := 3) (ret := (some .int)) (by decide) rfl ?_
  intro p e s m args below meth c s₁ B hml hv
  obtain ⟨rfl, hK, hP, hD0⟩ := hv
  have hx := B.exec
  have hb := B.bytes
  have hr := B.returns
  have hts := atoms_spec (ws := wsX6_plant) B.pre
  have hown : s.vm.findClass RX6 = some m.cls := findClass_of_methodNamed B.named
  have hlocks := B.notSynchronized
  have hFX6 : ∀ w ∈ wsX60, w ∈ wsX6_plant := by decide +kernel
  have kf36 := (hts (.fieldLink RX6 36 "ShadeVotes" "question" "LShadeVotes$Question;") (by decide +kernel))
  have kf19 := (hts (.fieldLink RX6 19 "ShadeVotes" "present" "LShadeVotes$Commune;") (by decide +kernel))
  have hD := va_D_self hD0
  have hS : va_S (fun q => q ∈ List.map Prod.fst (svO Y hv h7 h hto h3 h4 h5 h6 im ik ++ (qoW Y h4 ht va vb ++ (cmW Y ht adt Kt ++ cmW Y h ad K)))) s.heap s.heap [] := va_S.rf
  obtain ⟨H, hHe⟩ : ∃ H, H = s.heap := ⟨_, rfl⟩
  rw [← hHe] at hP
  replace hS : va_S (fun q => q ∈ List.map Prod.fst (svO Y hv h7 h hto h3 h4 h5 h6 im ik ++ (qoW Y h4 ht va vb ++ (cmW Y ht adt Kt ++ cmW Y h ad K)))) s.heap H [] := by rw [hHe]; exact hS
  have hl := lv_entry ([.ref hv, .int (iZ a), .int (iZ b)]) (n := 3) (Nat.le_of_ble_eq_true rfl)
  rw [lg_entry_eq]
  generalize (lg_sl ([.ref hv, .int (iZ a), .int (iZ b)]) ++ List.replicate (3 - (lg_sl ([.ref hv, .int (iZ a), .int (iZ b)])).length) Slot.unset).toArray = ls at hl ⊢
  replace hl : lv_has ls 3 [(0, .ref hv), (1, .int (iZ a)), (2, .int (iZ b))] := hl
  obtain ⟨locs, hLe⟩ : ∃ locs : List Loc, locs = [] := ⟨_, rfl⟩
  rw [← hLe] at hS ⊢
  have hW0 : ∀ {Q : State → Prop} {g : JFrame}, W p l e ({ frames := 6, cells := 0, slots := 0, locals := 139 }) s m [.ref hv, .int (iZ a), .int (iZ b)].toArray below meth c H locs 0 0 Q g → W p l e ({ frames := 6, cells := 0, slots := 0, locals := 139 }) s m [.ref hv, .int (iZ a), .int (iZ b)].toArray below meth c s.heap locs 0 0 Q g := fun h => by rw [← hHe]; exact h
  refine hW0 ?_
  clear hW0 hHe hLe
  have h0 := hW.1
  have hnc := hW.nc
  refine lv_iload_n hx hb dX6_plant_0 rfl (lv_at hl 1 rfl) ?_
  refine ro_S (As := [.int (iZ a)]) (rest := []) ⟨hx, hb, hml, hown, hts⟩ (c_X6_isMotion l G Y a (by omega)) (cwS 1 hts gX6_plant_X6_isMotion rfl rfl rfl (by decide +kernel) ⟨Nat.le_of_ble_eq_true rfl, Nat.le_of_ble_eq_true rfl⟩) hK (hP.sub (ws' := []) [] rfl) rfl hl.1 rfl (Nat.le_of_ble_eq_true rfl) dX6_plant_1 ⟨Nat.zero_le _, Nat.zero_le _⟩ ?_
  refine z_ifb_eq (tgt := 17) hx hb dX6_plant_4 (by decide) (fun c_1 => ?_) (fun c_1 => ?_)
  · skip
    have c_1 := of_decide_eq_false c_1
    refine z_iconst hx hb dX6_plant_17 ?_
    refine z_top (show (-1) = rPlant K a b from ?_) ?_
    · unfold rPlant; (repeat' split) <;> first | rfl | omega | (simp_all; done)
    have hP9 : va_P G vwCl (svO Y hv h7 h hto h3 h4 h5 h6 im ik ++ (qoW Y h4 ht va vb ++ (cmW Y ht adt Kt ++ cmW Y h ad K))) H := hP.sub [0, 1, 2, 3, 4, 5, 6, 7, 8, 9, 10, 11, 12, 13, 14, 15, 16, 17] rfl
    exact W.iret (v := iZ (rPlant K a b)) hx hb hr (fun t9 ht9 _ => ⟨rfl, ⟨Kt, by rw [ht9]; exact hP9⟩, hS.F ht9⟩) hS.2.2 dX6_plant_18
  · skip
    have c_1 := of_decide_eq_true c_1
    refine lv_iload_n hx hb dX6_plant_7 rfl (lv_at hl 2 rfl) ?_
    refine z_iconst hx hb dX6_plant_8 ?_
    refine z_bipush hx hb dX6_plant_9 (by decide) ?_
    refine ro_S (As := [.int (iZ b), .int (iZ 1), .int (iZ 20)]) (rest := []) ⟨hx, hb, hml, hown, hts⟩ (c_X6_isWithin l G Y b 1 20 (by omega)) (cwS 3 hts gX6_plant_X6_isWithin rfl rfl rfl (by decide +kernel) ⟨Nat.le_of_ble_eq_true rfl, Nat.le_of_ble_eq_true rfl⟩) hK (hP.sub (ws' := []) [] rfl) rfl hl.1 rfl (Nat.le_of_ble_eq_true rfl) dX6_plant_11 ⟨Nat.zero_le _, Nat.zero_le _⟩ ?_
    refine z_ifb_ne (tgt := 19) hx hb dX6_plant_14 (by decide) (fun c_2 => ?_) (fun c_2 => ?_)
    · skip
      have c_2 := of_decide_eq_true c_2
      obtain ⟨mo, hmo⟩ : ∃ mo : Nat, a = ((mo : Nat) : Int) := ⟨a.toNat, by omega⟩
      have hmot : a.toNat = mo := by omega
      rw [hmo] at hl
      refine lv_aload_n hx hb dX6_plant_19 rfl (lv_at hl 0 rfl) ?_
      refine va_get (D := G) (ci := 6) (v := .ref h4) (C := RX6) (T := TX6) (N := 9) hx hb hts hFX6 hown hK.1 hP 0 rfl rfl 4 (by decide) kf36 (fun _ h9 => h9) rfl dX6_plant_20 ?_
      refine lv_aload_n hx hb dX6_plant_23 rfl (lv_at hl 0 rfl) ?_
      refine va_get (D := G) (ci := 6) (v := .ref h) (C := RX6) (T := TX6) (N := 9) hx hb hts hFX6 hown hK.1 hP 0 rfl rfl 1 (by decide) kf19 (fun _ h9 => h9) rfl dX6_plant_24 ?_
      refine lv_iload_n hx hb dX6_plant_27 rfl (lv_at hl 1 rfl) ?_
      refine lv_iload_n hx hb dX6_plant_28 rfl (lv_at hl 2 rfl) ?_
      have hP := hP.sub (ws' := [(h4, .inr (3, [.ref ht, .ref va, .ref vb])), (ht, .inr (0, [.int (iZ (Kt 0 0)), .int (iZ (Kt 0 1)), .int (iZ (Kt 0 2)), .int (iZ (Kt 0 3)), .int (iZ (Kt 0 4)), .int (iZ (Kt 0 5)), .int (iZ (Kt 0 6)), .ref (adt 1), .ref (adt 2), .ref (adt 3), .ref (adt 4), .ref (adt 5), .ref (adt 6), .ref (adt 7)])), (adt 1, .inl (Y 0, 6, .inl (aI (Kt 1)))), (adt 2, .inl (Y 0, 6, .inl (aI (Kt 2)))), (adt 3, .inl (Y 0, 6, .inl (aI (Kt 3)))), (adt 4, .inl (Y 1, 6, .inl (aI (Kt 4)))), (adt 5, .inl (Y 1, 6, .inl (aI (Kt 5)))), (adt 6, .inl (Y 0, 7, .inl (aI (Kt 6)))), (adt 7, .inl (Y 0, 7, .inl (aI (Kt 7)))), (h, .inr (0, [.int (iZ (K 0 0)), .int (iZ (K 0 1)), .int (iZ (K 0 2)), .int (iZ (K 0 3)), .int (iZ (K 0 4)), .int (iZ (K 0 5)), .int (iZ (K 0 6)), .ref (ad 1), .ref (ad 2), .ref (ad 3), .ref (ad 4), .ref (ad 5), .ref (ad 6), .ref (ad 7)])), (ad 1, .inl (Y 0, 6, .inl (aI (K 1)))), (ad 2, .inl (Y 0, 6, .inl (aI (K 2)))), (ad 3, .inl (Y 0, 6, .inl (aI (K 3)))), (ad 4, .inl (Y 1, 6, .inl (aI (K 4)))), (ad 5, .inl (Y 1, 6, .inl (aI (K 5)))), (ad 6, .inl (Y 0, 7, .inl (aI (K 6)))), (ad 7, .inl (Y 0, 7, .inl (aI (K 7))))] ++ [(hv, .inr (6, [.ref h7, .ref h, .ref hto, .ref h3, .ref h4, .ref h5, .ref h6, .ref im, .ref ik]))]) [1, 2, 3, 4, 5, 6, 7, 8, 9, 10, 11, 12, 13, 14, 15, 16, 17, 0] rfl
      have hD := hD.sub (ws' := [(h4, .inr (3, [.ref ht, .ref va, .ref vb])), (ht, .inr (0, [.int (iZ (Kt 0 0)), .int (iZ (Kt 0 1)), .int (iZ (Kt 0 2)), .int (iZ (Kt 0 3)), .int (iZ (Kt 0 4)), .int (iZ (Kt 0 5)), .int (iZ (Kt 0 6)), .ref (adt 1), .ref (adt 2), .ref (adt 3), .ref (adt 4), .ref (adt 5), .ref (adt 6), .ref (adt 7)])), (adt 1, .inl (Y 0, 6, .inl (aI (Kt 1)))), (adt 2, .inl (Y 0, 6, .inl (aI (Kt 2)))), (adt 3, .inl (Y 0, 6, .inl (aI (Kt 3)))), (adt 4, .inl (Y 1, 6, .inl (aI (Kt 4)))), (adt 5, .inl (Y 1, 6, .inl (aI (Kt 5)))), (adt 6, .inl (Y 0, 7, .inl (aI (Kt 6)))), (adt 7, .inl (Y 0, 7, .inl (aI (Kt 7)))), (h, .inr (0, [.int (iZ (K 0 0)), .int (iZ (K 0 1)), .int (iZ (K 0 2)), .int (iZ (K 0 3)), .int (iZ (K 0 4)), .int (iZ (K 0 5)), .int (iZ (K 0 6)), .ref (ad 1), .ref (ad 2), .ref (ad 3), .ref (ad 4), .ref (ad 5), .ref (ad 6), .ref (ad 7)])), (ad 1, .inl (Y 0, 6, .inl (aI (K 1)))), (ad 2, .inl (Y 0, 6, .inl (aI (K 2)))), (ad 3, .inl (Y 0, 6, .inl (aI (K 3)))), (ad 4, .inl (Y 1, 6, .inl (aI (K 4)))), (ad 5, .inl (Y 1, 6, .inl (aI (K 5)))), (ad 6, .inl (Y 0, 7, .inl (aI (K 6)))), (ad 7, .inl (Y 0, 7, .inl (aI (K 7))))] ++ [(hv, .inr (6, [.ref h7, .ref h, .ref hto, .ref h3, .ref h4, .ref h5, .ref h6, .ref im, .ref ik]))]) [1, 2, 3, 4, 5, 6, 7, 8, 9, 10, 11, 12, 13, 14, 15, 16, 17, 0] (by decide) rfl
      refine eu_V (As := [.ref h, .int (iZ ((mo : Nat) : Int)), .int (iZ b)]) (rest := []) (wc := [(h4, .inr (3, [.ref ht, .ref va, .ref vb])), (ht, .inr (0, [.int (iZ (Kt 0 0)), .int (iZ (Kt 0 1)), .int (iZ (Kt 0 2)), .int (iZ (Kt 0 3)), .int (iZ (Kt 0 4)), .int (iZ (Kt 0 5)), .int (iZ (Kt 0 6)), .ref (adt 1), .ref (adt 2), .ref (adt 3), .ref (adt 4), .ref (adt 5), .ref (adt 6), .ref (adt 7)])), (adt 1, .inl (Y 0, 6, .inl (aI (Kt 1)))), (adt 2, .inl (Y 0, 6, .inl (aI (Kt 2)))), (adt 3, .inl (Y 0, 6, .inl (aI (Kt 3)))), (adt 4, .inl (Y 1, 6, .inl (aI (Kt 4)))), (adt 5, .inl (Y 1, 6, .inl (aI (Kt 5)))), (adt 6, .inl (Y 0, 7, .inl (aI (Kt 6)))), (adt 7, .inl (Y 0, 7, .inl (aI (Kt 7)))), (h, .inr (0, [.int (iZ (K 0 0)), .int (iZ (K 0 1)), .int (iZ (K 0 2)), .int (iZ (K 0 3)), .int (iZ (K 0 4)), .int (iZ (K 0 5)), .int (iZ (K 0 6)), .ref (ad 1), .ref (ad 2), .ref (ad 3), .ref (ad 4), .ref (ad 5), .ref (ad 6), .ref (ad 7)])), (ad 1, .inl (Y 0, 6, .inl (aI (K 1)))), (ad 2, .inl (Y 0, 6, .inl (aI (K 2)))), (ad 3, .inl (Y 0, 6, .inl (aI (K 3)))), (ad 4, .inl (Y 1, 6, .inl (aI (K 4)))), (ad 5, .inl (Y 1, 6, .inl (aI (K 5)))), (ad 6, .inl (Y 0, 7, .inl (aI (K 6)))), (ad 7, .inl (Y 0, 7, .inl (aI (K 7))))]) (F := [(hv, .inr (6, [.ref h7, .ref h, .ref hto, .ref h3, .ref h4, .ref h5, .ref h6, .ref im, .ref ik]))]) (W1 := (fun u => qoW Y h4 ht va vb ++ (cmW Y ht adt u ++ cmW Y h ad K))) ⟨hx, hb, hml, hown, hts⟩ (c_X3_cellToPlant l G Y h4 ht va vb adt Kt h ad K hW mo b (by omega)) (cwV 3 hts gX6_plant_X3_cellToPlant rfl rfl rfl (by decide +kernel) ⟨Nat.le_of_ble_eq_true rfl, Nat.le_of_ble_eq_true rfl⟩) hK hP hD hS 0 rfl rfl (fun _ => Eq.refl [h4, ht, adt 1, adt 2, adt 3, adt 4, adt 5, adt 6, adt 7, h, ad 1, ad 2, ad 3, ad 4, ad 5, ad 6, ad 7]) rfl hl.1 rfl (Nat.le_of_ble_eq_true rfl) dX6_plant_29 ⟨Nat.zero_le _, Nat.zero_le _⟩ (fun u3 H locs hP hD hS => ?_)
      show W _ _ _ _ _ _ _ _ _ _ _ _ _ _ _ (F0 _ _ _ [.int (iZ (fnd (ctG K mo b) (K 0 0 * K 0 1).toNat))])
      replace hP : va_P G vwCl [(h4, .inr (3, [.ref ht, .ref va, .ref vb])), (ht, .inr (0, [.int (iZ (u3 0 0)), .int (iZ (u3 0 1)), .int (iZ (u3 0 2)), .int (iZ (u3 0 3)), .int (iZ (u3 0 4)), .int (iZ (u3 0 5)), .int (iZ (u3 0 6)), .ref (adt 1), .ref (adt 2), .ref (adt 3), .ref (adt 4), .ref (adt 5), .ref (adt 6), .ref (adt 7)])), (adt 1, .inl (Y 0, 6, .inl (aI (u3 1)))), (adt 2, .inl (Y 0, 6, .inl (aI (u3 2)))), (adt 3, .inl (Y 0, 6, .inl (aI (u3 3)))), (adt 4, .inl (Y 1, 6, .inl (aI (u3 4)))), (adt 5, .inl (Y 1, 6, .inl (aI (u3 5)))), (adt 6, .inl (Y 0, 7, .inl (aI (u3 6)))), (adt 7, .inl (Y 0, 7, .inl (aI (u3 7)))), (h, .inr (0, [.int (iZ (K 0 0)), .int (iZ (K 0 1)), .int (iZ (K 0 2)), .int (iZ (K 0 3)), .int (iZ (K 0 4)), .int (iZ (K 0 5)), .int (iZ (K 0 6)), .ref (ad 1), .ref (ad 2), .ref (ad 3), .ref (ad 4), .ref (ad 5), .ref (ad 6), .ref (ad 7)])), (ad 1, .inl (Y 0, 6, .inl (aI (K 1)))), (ad 2, .inl (Y 0, 6, .inl (aI (K 2)))), (ad 3, .inl (Y 0, 6, .inl (aI (K 3)))), (ad 4, .inl (Y 1, 6, .inl (aI (K 4)))), (ad 5, .inl (Y 1, 6, .inl (aI (K 5)))), (ad 6, .inl (Y 0, 7, .inl (aI (K 6)))), (ad 7, .inl (Y 0, 7, .inl (aI (K 7)))), (hv, .inr (6, [.ref h7, .ref h, .ref hto, .ref h3, .ref h4, .ref h5, .ref h6, .ref im, .ref ik]))] H := hP
      replace hD : va_D _ [(h4, .inr (3, [.ref ht, .ref va, .ref vb])), (ht, .inr (0, [.int (iZ (u3 0 0)), .int (iZ (u3 0 1)), .int (iZ (u3 0 2)), .int (iZ (u3 0 3)), .int (iZ (u3 0 4)), .int (iZ (u3 0 5)), .int (iZ (u3 0 6)), .ref (adt 1), .ref (adt 2), .ref (adt 3), .ref (adt 4), .ref (adt 5), .ref (adt 6), .ref (adt 7)])), (adt 1, .inl (Y 0, 6, .inl (aI (u3 1)))), (adt 2, .inl (Y 0, 6, .inl (aI (u3 2)))), (adt 3, .inl (Y 0, 6, .inl (aI (u3 3)))), (adt 4, .inl (Y 1, 6, .inl (aI (u3 4)))), (adt 5, .inl (Y 1, 6, .inl (aI (u3 5)))), (adt 6, .inl (Y 0, 7, .inl (aI (u3 6)))), (adt 7, .inl (Y 0, 7, .inl (aI (u3 7)))), (h, .inr (0, [.int (iZ (K 0 0)), .int (iZ (K 0 1)), .int (iZ (K 0 2)), .int (iZ (K 0 3)), .int (iZ (K 0 4)), .int (iZ (K 0 5)), .int (iZ (K 0 6)), .ref (ad 1), .ref (ad 2), .ref (ad 3), .ref (ad 4), .ref (ad 5), .ref (ad 6), .ref (ad 7)])), (ad 1, .inl (Y 0, 6, .inl (aI (K 1)))), (ad 2, .inl (Y 0, 6, .inl (aI (K 2)))), (ad 3, .inl (Y 0, 6, .inl (aI (K 3)))), (ad 4, .inl (Y 1, 6, .inl (aI (K 4)))), (ad 5, .inl (Y 1, 6, .inl (aI (K 5)))), (ad 6, .inl (Y 0, 7, .inl (aI (K 6)))), (ad 7, .inl (Y 0, 7, .inl (aI (K 7)))), (hv, .inr (6, [.ref h7, .ref h, .ref hto, .ref h3, .ref h4, .ref h5, .ref h6, .ref im, .ref ik]))] := hD
      refine z_top (show fnd (ctG K mo b) (K 0 0 * K 0 1).toNat = rPlant K a b from ?_) ?_
      · unfold rPlant; rw [hmot]; (repeat' split) <;> first | rfl | omega | (simp_all; done)
      have hP9 : va_P G vwCl (svO Y hv h7 h hto h3 h4 h5 h6 im ik ++ (qoW Y h4 ht va vb ++ (cmW Y ht adt u3 ++ cmW Y h ad K))) H := hP.sub [17, 0, 1, 2, 3, 4, 5, 6, 7, 8, 9, 10, 11, 12, 13, 14, 15, 16] rfl
      exact W.iret (v := iZ (rPlant K a b)) hx hb hr (fun t9 ht9 _ => ⟨rfl, ⟨u3, by rw [ht9]; exact hP9⟩, hS.F ht9⟩) hS.2.2 dX6_plant_32
    · skip
      have c_2 := of_decide_eq_false c_2
      refine z_iconst hx hb dX6_plant_17 ?_
      refine z_top (show (-1) = rPlant K a b from ?_) ?_
      · unfold rPlant; (repeat' split) <;> first | rfl | omega | (simp_all; done)
      have hP9 : va_P G vwCl (svO Y hv h7 h hto h3 h4 h5 h6 im ik ++ (qoW Y h4 ht va vb ++ (cmW Y ht adt Kt ++ cmW Y h ad K))) H := hP.sub [0, 1, 2, 3, 4, 5, 6, 7, 8, 9, 10, 11, 12, 13, 14, 15, 16, 17] rfl
      exact W.iret (v := iZ (rPlant K a b)) hx hb hr (fun t9 ht9 _ => ⟨rfl, ⟨Kt, by rw [ht9]; exact hP9⟩, hS.F ht9⟩) hS.2.2 dX6_plant_18

set_option maxHeartbeats 4000000 in
set_option maxRecDepth 100000 in
theorem c_X6_suns (l : Launch) (G : va_G) (Y : Nat → ClassId) (hv h7 h hto h3 h4 h5 h6 im ik : Nat) (ht va vb : Nat) (adt : Nat → Nat) (Kt : Kom) (ad : Nat → Nat) (K : Kom) (hW : cWF K) (a : Int) (r : zR a) : Met l yX6_suns wsX6_suns ({ frames := 6, cells := 0, slots := 0, locals := 139 }) (mP G Y [.ref hv, .int (iZ a)] (svO Y hv h7 h hto h3 h4 h5 h6 im ik ++ (qoW Y h4 ht va vb ++ (cmW Y ht adt Kt ++ cmW Y h ad K)))) (eQ G (svO Y hv h7 h hto h3 h4 h5 h6 im ik ++ (qoW Y h4 ht va vb ++ (cmW Y ht adt Kt ++ cmW Y h ad K))) (some (.int (iZ (rSuns K a)))) (fun u => svO Y hv h7 h hto h3 h4 h5 h6 im ik ++ (qoW Y h4 ht va vb ++ (cmW Y ht adt u ++ cmW Y h ad K)))) 0 0 (fun q => q ∈ List.map Prod.fst (svO Y hv h7 h hto h3 h4 h5 h6 im ik ++ (qoW Y h4 ht va vb ++ (cmW Y ht adt Kt ++ cmW Y h ad K)))) := by
  refine Met.ofW (cc := cX6_suns) (maxL := 2) (ret := (some .int)) (by decide) rfl ?_
  intro p e s m args below meth c s₁ B hml hv
  obtain ⟨rfl, hK, hP, hD0⟩ := hv
  have hx := B.exec
  have hb := B.bytes
  have hr := B.returns
  have hts := atoms_spec (ws := wsX6_suns) B.pre
  have hown : s.vm.findClass RX6 = some m.cls := findClass_of_methodNamed B.named
  have hlocks := B.notSynchronized
  have hFX6 : ∀ w ∈ wsX60, w ∈ wsX6_suns := by decide +kernel
  have kf36 := (hts (.fieldLink RX6 36 "ShadeVotes" "question" "LShadeVotes$Question;") (by decide +kernel))
  have kf19 := (hts (.fieldLink RX6 19 "ShadeVotes" "present" "LShadeVotes$Commune;") (by decide +kernel))
  have hD := va_D_self hD0
  have hS : va_S (fun q => q ∈ List.map Prod.fst (svO Y hv h7 h hto h3 h4 h5 h6 im ik ++ (qoW Y h4 ht va vb ++ (cmW Y ht adt Kt ++ cmW Y h ad K)))) s.heap s.heap [] := va_S.rf
  obtain ⟨H, hHe⟩ : ∃ H, H = s.heap := ⟨_, rfl⟩
  rw [← hHe] at hP
  replace hS : va_S (fun q => q ∈ List.map Prod.fst (svO Y hv h7 h hto h3 h4 h5 h6 im ik ++ (qoW Y h4 ht va vb ++ (cmW Y ht adt Kt ++ cmW Y h ad K)))) s.heap H [] := by rw [hHe]; exact hS
  have hl := lv_entry ([.ref hv, .int (iZ a)]) (n := 2) (Nat.le_of_ble_eq_true rfl)
  rw [lg_entry_eq]
  generalize (lg_sl ([.ref hv, .int (iZ a)]) ++ List.replicate (2 - (lg_sl ([.ref hv, .int (iZ a)])).length) Slot.unset).toArray = ls at hl ⊢
  replace hl : lv_has ls 2 [(0, .ref hv), (1, .int (iZ a))] := hl
  obtain ⟨locs, hLe⟩ : ∃ locs : List Loc, locs = [] := ⟨_, rfl⟩
  rw [← hLe] at hS ⊢
  have hW0 : ∀ {Q : State → Prop} {g : JFrame}, W p l e ({ frames := 6, cells := 0, slots := 0, locals := 139 }) s m [.ref hv, .int (iZ a)].toArray below meth c H locs 0 0 Q g → W p l e ({ frames := 6, cells := 0, slots := 0, locals := 139 }) s m [.ref hv, .int (iZ a)].toArray below meth c s.heap locs 0 0 Q g := fun h => by rw [← hHe]; exact h
  refine hW0 ?_
  clear hW0 hHe hLe
  have h0 := hW.1
  have hnc := hW.nc
  refine lv_iload_n hx hb dX6_suns_0 rfl (lv_at hl 1 rfl) ?_
  refine ro_S (As := [.int (iZ a)]) (rest := []) ⟨hx, hb, hml, hown, hts⟩ (c_X6_isMotion l G Y a (by omega)) (cwS 1 hts gX6_suns_X6_isMotion rfl rfl rfl (by decide +kernel) ⟨Nat.le_of_ble_eq_true rfl, Nat.le_of_ble_eq_true rfl⟩) hK (hP.sub (ws' := []) [] rfl) rfl hl.1 rfl (Nat.le_of_ble_eq_true rfl) dX6_suns_1 ⟨Nat.zero_le _, Nat.zero_le _⟩ ?_
  refine z_ifb_eq (tgt := 22) hx hb dX6_suns_4 (by decide) (fun c_1 => ?_) (fun c_1 => ?_)
  · skip
    have c_1 := of_decide_eq_false c_1
    refine z_iconst hx hb dX6_suns_22 ?_
    refine z_top (show (-1) = rSuns K a from ?_) ?_
    · unfold rSuns; (repeat' split) <;> first | rfl | omega | (simp_all; done)
    have hP9 : va_P G vwCl (svO Y hv h7 h hto h3 h4 h5 h6 im ik ++ (qoW Y h4 ht va vb ++ (cmW Y ht adt Kt ++ cmW Y h ad K))) H := hP.sub [0, 1, 2, 3, 4, 5, 6, 7, 8, 9, 10, 11, 12, 13, 14, 15, 16, 17] rfl
    exact W.iret (v := iZ (rSuns K a)) hx hb hr (fun t9 ht9 _ => ⟨rfl, ⟨Kt, by rw [ht9]; exact hP9⟩, hS.F ht9⟩) hS.2.2 dX6_suns_23
  · skip
    have c_1 := of_decide_eq_true c_1
    obtain ⟨mo, hmo⟩ : ∃ mo : Nat, a = ((mo : Nat) : Int) := ⟨a.toNat, by omega⟩
    have hmot : a.toNat = mo := by omega
    rw [hmo] at hl
    refine lv_aload_n hx hb dX6_suns_7 rfl (lv_at hl 0 rfl) ?_
    refine va_get (D := G) (ci := 6) (v := .ref h4) (C := RX6) (T := TX6) (N := 9) hx hb hts hFX6 hown hK.1 hP 0 rfl rfl 4 (by decide) kf36 (fun _ h9 => h9) rfl dX6_suns_8 ?_
    refine lv_aload_n hx hb dX6_suns_11 rfl (lv_at hl 0 rfl) ?_
    refine va_get (D := G) (ci := 6) (v := .ref h) (C := RX6) (T := TX6) (N := 9) hx hb hts hFX6 hown hK.1 hP 0 rfl rfl 1 (by decide) kf19 (fun _ h9 => h9) rfl dX6_suns_12 ?_
    refine lv_iload_n hx hb dX6_suns_15 rfl (lv_at hl 1 rfl) ?_
    have hP := hP.sub (ws' := [(h4, .inr (3, [.ref ht, .ref va, .ref vb])), (ht, .inr (0, [.int (iZ (Kt 0 0)), .int (iZ (Kt 0 1)), .int (iZ (Kt 0 2)), .int (iZ (Kt 0 3)), .int (iZ (Kt 0 4)), .int (iZ (Kt 0 5)), .int (iZ (Kt 0 6)), .ref (adt 1), .ref (adt 2), .ref (adt 3), .ref (adt 4), .ref (adt 5), .ref (adt 6), .ref (adt 7)])), (adt 1, .inl (Y 0, 6, .inl (aI (Kt 1)))), (adt 2, .inl (Y 0, 6, .inl (aI (Kt 2)))), (adt 3, .inl (Y 0, 6, .inl (aI (Kt 3)))), (adt 4, .inl (Y 1, 6, .inl (aI (Kt 4)))), (adt 5, .inl (Y 1, 6, .inl (aI (Kt 5)))), (adt 6, .inl (Y 0, 7, .inl (aI (Kt 6)))), (adt 7, .inl (Y 0, 7, .inl (aI (Kt 7)))), (h, .inr (0, [.int (iZ (K 0 0)), .int (iZ (K 0 1)), .int (iZ (K 0 2)), .int (iZ (K 0 3)), .int (iZ (K 0 4)), .int (iZ (K 0 5)), .int (iZ (K 0 6)), .ref (ad 1), .ref (ad 2), .ref (ad 3), .ref (ad 4), .ref (ad 5), .ref (ad 6), .ref (ad 7)])), (ad 1, .inl (Y 0, 6, .inl (aI (K 1)))), (ad 2, .inl (Y 0, 6, .inl (aI (K 2)))), (ad 3, .inl (Y 0, 6, .inl (aI (K 3)))), (ad 4, .inl (Y 1, 6, .inl (aI (K 4)))), (ad 5, .inl (Y 1, 6, .inl (aI (K 5)))), (ad 6, .inl (Y 0, 7, .inl (aI (K 6)))), (ad 7, .inl (Y 0, 7, .inl (aI (K 7))))] ++ [(hv, .inr (6, [.ref h7, .ref h, .ref hto, .ref h3, .ref h4, .ref h5, .ref h6, .ref im, .ref ik]))]) [1, 2, 3, 4, 5, 6, 7, 8, 9, 10, 11, 12, 13, 14, 15, 16, 17, 0] rfl
    have hD := hD.sub (ws' := [(h4, .inr (3, [.ref ht, .ref va, .ref vb])), (ht, .inr (0, [.int (iZ (Kt 0 0)), .int (iZ (Kt 0 1)), .int (iZ (Kt 0 2)), .int (iZ (Kt 0 3)), .int (iZ (Kt 0 4)), .int (iZ (Kt 0 5)), .int (iZ (Kt 0 6)), .ref (adt 1), .ref (adt 2), .ref (adt 3), .ref (adt 4), .ref (adt 5), .ref (adt 6), .ref (adt 7)])), (adt 1, .inl (Y 0, 6, .inl (aI (Kt 1)))), (adt 2, .inl (Y 0, 6, .inl (aI (Kt 2)))), (adt 3, .inl (Y 0, 6, .inl (aI (Kt 3)))), (adt 4, .inl (Y 1, 6, .inl (aI (Kt 4)))), (adt 5, .inl (Y 1, 6, .inl (aI (Kt 5)))), (adt 6, .inl (Y 0, 7, .inl (aI (Kt 6)))), (adt 7, .inl (Y 0, 7, .inl (aI (Kt 7)))), (h, .inr (0, [.int (iZ (K 0 0)), .int (iZ (K 0 1)), .int (iZ (K 0 2)), .int (iZ (K 0 3)), .int (iZ (K 0 4)), .int (iZ (K 0 5)), .int (iZ (K 0 6)), .ref (ad 1), .ref (ad 2), .ref (ad 3), .ref (ad 4), .ref (ad 5), .ref (ad 6), .ref (ad 7)])), (ad 1, .inl (Y 0, 6, .inl (aI (K 1)))), (ad 2, .inl (Y 0, 6, .inl (aI (K 2)))), (ad 3, .inl (Y 0, 6, .inl (aI (K 3)))), (ad 4, .inl (Y 1, 6, .inl (aI (K 4)))), (ad 5, .inl (Y 1, 6, .inl (aI (K 5)))), (ad 6, .inl (Y 0, 7, .inl (aI (K 6)))), (ad 7, .inl (Y 0, 7, .inl (aI (K 7))))] ++ [(hv, .inr (6, [.ref h7, .ref h, .ref hto, .ref h3, .ref h4, .ref h5, .ref h6, .ref im, .ref ik]))]) [1, 2, 3, 4, 5, 6, 7, 8, 9, 10, 11, 12, 13, 14, 15, 16, 17, 0] (by decide) rfl
    refine eu_V (As := [.ref h, .int (iZ ((mo : Nat) : Int))]) (rest := []) (wc := [(h4, .inr (3, [.ref ht, .ref va, .ref vb])), (ht, .inr (0, [.int (iZ (Kt 0 0)), .int (iZ (Kt 0 1)), .int (iZ (Kt 0 2)), .int (iZ (Kt 0 3)), .int (iZ (Kt 0 4)), .int (iZ (Kt 0 5)), .int (iZ (Kt 0 6)), .ref (adt 1), .ref (adt 2), .ref (adt 3), .ref (adt 4), .ref (adt 5), .ref (adt 6), .ref (adt 7)])), (adt 1, .inl (Y 0, 6, .inl (aI (Kt 1)))), (adt 2, .inl (Y 0, 6, .inl (aI (Kt 2)))), (adt 3, .inl (Y 0, 6, .inl (aI (Kt 3)))), (adt 4, .inl (Y 1, 6, .inl (aI (Kt 4)))), (adt 5, .inl (Y 1, 6, .inl (aI (Kt 5)))), (adt 6, .inl (Y 0, 7, .inl (aI (Kt 6)))), (adt 7, .inl (Y 0, 7, .inl (aI (Kt 7)))), (h, .inr (0, [.int (iZ (K 0 0)), .int (iZ (K 0 1)), .int (iZ (K 0 2)), .int (iZ (K 0 3)), .int (iZ (K 0 4)), .int (iZ (K 0 5)), .int (iZ (K 0 6)), .ref (ad 1), .ref (ad 2), .ref (ad 3), .ref (ad 4), .ref (ad 5), .ref (ad 6), .ref (ad 7)])), (ad 1, .inl (Y 0, 6, .inl (aI (K 1)))), (ad 2, .inl (Y 0, 6, .inl (aI (K 2)))), (ad 3, .inl (Y 0, 6, .inl (aI (K 3)))), (ad 4, .inl (Y 1, 6, .inl (aI (K 4)))), (ad 5, .inl (Y 1, 6, .inl (aI (K 5)))), (ad 6, .inl (Y 0, 7, .inl (aI (K 6)))), (ad 7, .inl (Y 0, 7, .inl (aI (K 7))))]) (F := [(hv, .inr (6, [.ref h7, .ref h, .ref hto, .ref h3, .ref h4, .ref h5, .ref h6, .ref im, .ref ik]))]) (W1 := (fun u => qoW Y h4 ht va vb ++ (cmW Y ht adt u ++ cmW Y h ad K))) ⟨hx, hb, hml, hown, hts⟩ (c_X3_carryingSuns l G Y h4 ht va vb adt Kt h ad K hW mo (by omega)) (cwV 2 hts gX6_suns_X3_carryingSuns rfl rfl rfl (by decide +kernel) ⟨Nat.le_of_ble_eq_true rfl, Nat.le_of_ble_eq_true rfl⟩) hK hP hD hS 0 rfl rfl (fun _ => Eq.refl [h4, ht, adt 1, adt 2, adt 3, adt 4, adt 5, adt 6, adt 7, h, ad 1, ad 2, ad 3, ad 4, ad 5, ad 6, ad 7]) rfl hl.1 rfl (Nat.le_of_ble_eq_true rfl) dX6_suns_16 ⟨Nat.zero_le _, Nat.zero_le _⟩ (fun u2 H locs hP hD hS => ?_)
    show W _ _ _ _ _ _ _ _ _ _ _ _ _ _ _ (F0 _ _ _ [.int (iZ ((snN (snG K mo) 9 : Nat) : Int))])
    replace hP : va_P G vwCl [(h4, .inr (3, [.ref ht, .ref va, .ref vb])), (ht, .inr (0, [.int (iZ (u2 0 0)), .int (iZ (u2 0 1)), .int (iZ (u2 0 2)), .int (iZ (u2 0 3)), .int (iZ (u2 0 4)), .int (iZ (u2 0 5)), .int (iZ (u2 0 6)), .ref (adt 1), .ref (adt 2), .ref (adt 3), .ref (adt 4), .ref (adt 5), .ref (adt 6), .ref (adt 7)])), (adt 1, .inl (Y 0, 6, .inl (aI (u2 1)))), (adt 2, .inl (Y 0, 6, .inl (aI (u2 2)))), (adt 3, .inl (Y 0, 6, .inl (aI (u2 3)))), (adt 4, .inl (Y 1, 6, .inl (aI (u2 4)))), (adt 5, .inl (Y 1, 6, .inl (aI (u2 5)))), (adt 6, .inl (Y 0, 7, .inl (aI (u2 6)))), (adt 7, .inl (Y 0, 7, .inl (aI (u2 7)))), (h, .inr (0, [.int (iZ (K 0 0)), .int (iZ (K 0 1)), .int (iZ (K 0 2)), .int (iZ (K 0 3)), .int (iZ (K 0 4)), .int (iZ (K 0 5)), .int (iZ (K 0 6)), .ref (ad 1), .ref (ad 2), .ref (ad 3), .ref (ad 4), .ref (ad 5), .ref (ad 6), .ref (ad 7)])), (ad 1, .inl (Y 0, 6, .inl (aI (K 1)))), (ad 2, .inl (Y 0, 6, .inl (aI (K 2)))), (ad 3, .inl (Y 0, 6, .inl (aI (K 3)))), (ad 4, .inl (Y 1, 6, .inl (aI (K 4)))), (ad 5, .inl (Y 1, 6, .inl (aI (K 5)))), (ad 6, .inl (Y 0, 7, .inl (aI (K 6)))), (ad 7, .inl (Y 0, 7, .inl (aI (K 7)))), (hv, .inr (6, [.ref h7, .ref h, .ref hto, .ref h3, .ref h4, .ref h5, .ref h6, .ref im, .ref ik]))] H := hP
    replace hD : va_D _ [(h4, .inr (3, [.ref ht, .ref va, .ref vb])), (ht, .inr (0, [.int (iZ (u2 0 0)), .int (iZ (u2 0 1)), .int (iZ (u2 0 2)), .int (iZ (u2 0 3)), .int (iZ (u2 0 4)), .int (iZ (u2 0 5)), .int (iZ (u2 0 6)), .ref (adt 1), .ref (adt 2), .ref (adt 3), .ref (adt 4), .ref (adt 5), .ref (adt 6), .ref (adt 7)])), (adt 1, .inl (Y 0, 6, .inl (aI (u2 1)))), (adt 2, .inl (Y 0, 6, .inl (aI (u2 2)))), (adt 3, .inl (Y 0, 6, .inl (aI (u2 3)))), (adt 4, .inl (Y 1, 6, .inl (aI (u2 4)))), (adt 5, .inl (Y 1, 6, .inl (aI (u2 5)))), (adt 6, .inl (Y 0, 7, .inl (aI (u2 6)))), (adt 7, .inl (Y 0, 7, .inl (aI (u2 7)))), (h, .inr (0, [.int (iZ (K 0 0)), .int (iZ (K 0 1)), .int (iZ (K 0 2)), .int (iZ (K 0 3)), .int (iZ (K 0 4)), .int (iZ (K 0 5)), .int (iZ (K 0 6)), .ref (ad 1), .ref (ad 2), .ref (ad 3), .ref (ad 4), .ref (ad 5), .ref (ad 6), .ref (ad 7)])), (ad 1, .inl (Y 0, 6, .inl (aI (K 1)))), (ad 2, .inl (Y 0, 6, .inl (aI (K 2)))), (ad 3, .inl (Y 0, 6, .inl (aI (K 3)))), (ad 4, .inl (Y 1, 6, .inl (aI (K 4)))), (ad 5, .inl (Y 1, 6, .inl (aI (K 5)))), (ad 6, .inl (Y 0, 7, .inl (aI (K 6)))), (ad 7, .inl (Y 0, 7, .inl (aI (K 7)))), (hv, .inr (6, [.ref h7, .ref h, .ref hto, .ref h3, .ref h4, .ref h5, .ref h6, .ref im, .ref ik]))] := hD
    refine lv_goto (tgt := 23) hx hb dX6_suns_19 (by decide) ?_
    refine z_top (show ((snN (snG K mo) 9 : Nat) : Int) = rSuns K a from ?_) ?_
    · unfold rSuns; rw [hmot]; (repeat' split) <;> first | rfl | omega | (simp_all; done)
    have hP9 : va_P G vwCl (svO Y hv h7 h hto h3 h4 h5 h6 im ik ++ (qoW Y h4 ht va vb ++ (cmW Y ht adt u2 ++ cmW Y h ad K))) H := hP.sub [17, 0, 1, 2, 3, 4, 5, 6, 7, 8, 9, 10, 11, 12, 13, 14, 15, 16] rfl
    exact W.iret (v := iZ (rSuns K a)) hx hb hr (fun t9 ht9 _ => ⟨rfl, ⟨u2, by rw [ht9]; exact hP9⟩, hS.F ht9⟩) hS.2.2 dX6_suns_23

set_option maxHeartbeats 4000000 in
set_option maxRecDepth 100000 in
theorem c_X6_mayBe (l : Launch) (G : va_G) (Y : Nat → ClassId) (hv h7 h hto h3 h4 h5 h6 im ik : Nat) (ht va vb : Nat) (adt : Nat → Nat) (Kt : Kom) (ad : Nat → Nat) (K : Kom) (hW : cWF K) (ta tb : Nat) (M T : Nat → Int) (n9 : Int) (r : (0 ≤ n9 ∧ n9 ≤ 5) ∧ ∀ j : Nat, j < 5 → 0 ≤ M j ∧ M j ≤ 2 ∧ 0 ≤ T j ∧ T j ≤ 28) : Met l yX6_mayBe wsX6_mayBe ({ frames := 6, cells := 0, slots := 0, locals := 140 }) (mP G Y [.ref hv] (svO Y hv h7 h hto h3 h4 h5 h6 im ik ++ (qoW Y h4 ht va vb ++ (cmW Y ht adt Kt ++ (cmW Y h ad K ++ tlW Y h5 ta tb M T n9))))) (eQ G (svO Y hv h7 h hto h3 h4 h5 h6 im ik ++ (qoW Y h4 ht va vb ++ (cmW Y ht adt Kt ++ (cmW Y h ad K ++ tlW Y h5 ta tb M T n9)))) (some (.int (iZ (((snN (snH K M T n9.toNat) 9 : Nat) : Int))))) (fun u => svO Y hv h7 h hto h3 h4 h5 h6 im ik ++ (qoW Y h4 ht va vb ++ (cmW Y ht adt u ++ (cmW Y h ad K ++ tlW Y h5 ta tb M T n9))))) 0 0 (fun q => q ∈ List.map Prod.fst (svO Y hv h7 h hto h3 h4 h5 h6 im ik ++ (qoW Y h4 ht va vb ++ (cmW Y ht adt Kt ++ (cmW Y h ad K ++ tlW Y h5 ta tb M T n9))))) := by
  refine Met.ofW (cc := cX6_mayBe) (maxL := 1) (ret := (some .int)) (by decide) rfl ?_
  intro p e s m args below meth c s₁ B hml hv
  obtain ⟨rfl, hK, hP, hD0⟩ := hv
  have hx := B.exec
  have hb := B.bytes
  have hr := B.returns
  have hts := atoms_spec (ws := wsX6_mayBe) B.pre
  have hown : s.vm.findClass RX6 = some m.cls := findClass_of_methodNamed B.named
  have hlocks := B.notSynchronized
  have hFX6 : ∀ w ∈ wsX60, w ∈ wsX6_mayBe := by decide +kernel
  have kf36 := (hts (.fieldLink RX6 36 "ShadeVotes" "question" "LShadeVotes$Question;") (by decide +kernel))
  have kf19 := (hts (.fieldLink RX6 19 "ShadeVotes" "present" "LShadeVotes$Commune;") (by decide +kernel))
  have kf43 := (hts (.fieldLink RX6 43 "ShadeVotes" "tally" "LShadeVotes$Tally;") (by decide +kernel))
  have hD := va_D_self hD0
  have hS : va_S (fun q => q ∈ List.map Prod.fst (svO Y hv h7 h hto h3 h4 h5 h6 im ik ++ (qoW Y h4 ht va vb ++ (cmW Y ht adt Kt ++ (cmW Y h ad K ++ tlW Y h5 ta tb M T n9))))) s.heap s.heap [] := va_S.rf
  obtain ⟨H, hHe⟩ : ∃ H, H = s.heap := ⟨_, rfl⟩
  rw [← hHe] at hP
  replace hS : va_S (fun q => q ∈ List.map Prod.fst (svO Y hv h7 h hto h3 h4 h5 h6 im ik ++ (qoW Y h4 ht va vb ++ (cmW Y ht adt Kt ++ (cmW Y h ad K ++ tlW Y h5 ta tb M T n9))))) s.heap H [] := by rw [hHe]; exact hS
  have hl := lv_entry ([.ref hv]) (n := 1) (Nat.le_of_ble_eq_true rfl)
  rw [lg_entry_eq]
  generalize (lg_sl ([.ref hv]) ++ List.replicate (1 - (lg_sl ([.ref hv])).length) Slot.unset).toArray = ls at hl ⊢
  replace hl : lv_has ls 1 [(0, .ref hv)] := hl
  obtain ⟨locs, hLe⟩ : ∃ locs : List Loc, locs = [] := ⟨_, rfl⟩
  rw [← hLe] at hS ⊢
  have hW0 : ∀ {Q : State → Prop} {g : JFrame}, W p l e ({ frames := 6, cells := 0, slots := 0, locals := 140 }) s m [.ref hv].toArray below meth c H locs 0 0 Q g → W p l e ({ frames := 6, cells := 0, slots := 0, locals := 140 }) s m [.ref hv].toArray below meth c s.heap locs 0 0 Q g := fun h => by rw [← hHe]; exact h
  refine hW0 ?_
  clear hW0 hHe hLe
  have h0 := hW.1
  have hnc := hW.nc
  refine lv_aload_n hx hb dX6_mayBe_0 rfl (lv_at hl 0 rfl) ?_
  refine va_get (D := G) (ci := 6) (v := .ref h4) (C := RX6) (T := TX6) (N := 9) hx hb hts hFX6 hown hK.1 hP 0 rfl rfl 4 (by decide) kf36 (fun _ h9 => h9) rfl dX6_mayBe_1 ?_
  refine lv_aload_n hx hb dX6_mayBe_4 rfl (lv_at hl 0 rfl) ?_
  refine va_get (D := G) (ci := 6) (v := .ref h) (C := RX6) (T := TX6) (N := 9) hx hb hts hFX6 hown hK.1 hP 0 rfl rfl 1 (by decide) kf19 (fun _ h9 => h9) rfl dX6_mayBe_5 ?_
  refine lv_aload_n hx hb dX6_mayBe_8 rfl (lv_at hl 0 rfl) ?_
  refine va_get (D := G) (ci := 6) (v := .ref h5) (C := RX6) (T := TX6) (N := 9) hx hb hts hFX6 hown hK.1 hP 0 rfl rfl 5 (by decide) kf43 (fun _ h9 => h9) rfl dX6_mayBe_9 ?_
  have hP := hP.sub (ws' := [(h4, .inr (3, [.ref ht, .ref va, .ref vb])), (ht, .inr (0, [.int (iZ (Kt 0 0)), .int (iZ (Kt 0 1)), .int (iZ (Kt 0 2)), .int (iZ (Kt 0 3)), .int (iZ (Kt 0 4)), .int (iZ (Kt 0 5)), .int (iZ (Kt 0 6)), .ref (adt 1), .ref (adt 2), .ref (adt 3), .ref (adt 4), .ref (adt 5), .ref (adt 6), .ref (adt 7)])), (adt 1, .inl (Y 0, 6, .inl (aI (Kt 1)))), (adt 2, .inl (Y 0, 6, .inl (aI (Kt 2)))), (adt 3, .inl (Y 0, 6, .inl (aI (Kt 3)))), (adt 4, .inl (Y 1, 6, .inl (aI (Kt 4)))), (adt 5, .inl (Y 1, 6, .inl (aI (Kt 5)))), (adt 6, .inl (Y 0, 7, .inl (aI (Kt 6)))), (adt 7, .inl (Y 0, 7, .inl (aI (Kt 7)))), (h, .inr (0, [.int (iZ (K 0 0)), .int (iZ (K 0 1)), .int (iZ (K 0 2)), .int (iZ (K 0 3)), .int (iZ (K 0 4)), .int (iZ (K 0 5)), .int (iZ (K 0 6)), .ref (ad 1), .ref (ad 2), .ref (ad 3), .ref (ad 4), .ref (ad 5), .ref (ad 6), .ref (ad 7)])), (ad 1, .inl (Y 0, 6, .inl (aI (K 1)))), (ad 2, .inl (Y 0, 6, .inl (aI (K 2)))), (ad 3, .inl (Y 0, 6, .inl (aI (K 3)))), (ad 4, .inl (Y 1, 6, .inl (aI (K 4)))), (ad 5, .inl (Y 1, 6, .inl (aI (K 5)))), (ad 6, .inl (Y 0, 7, .inl (aI (K 6)))), (ad 7, .inl (Y 0, 7, .inl (aI (K 7)))), (h5, .inr (4, [.ref ta, .ref tb, .int (iZ n9)])), (ta, .inl (Y 0, 5, .inl (aI M))), (tb, .inl (Y 0, 5, .inl (aI T)))] ++ [(hv, .inr (6, [.ref h7, .ref h, .ref hto, .ref h3, .ref h4, .ref h5, .ref h6, .ref im, .ref ik]))]) [1, 2, 3, 4, 5, 6, 7, 8, 9, 10, 11, 12, 13, 14, 15, 16, 17, 18, 19, 20, 0] rfl
  have hD := hD.sub (ws' := [(h4, .inr (3, [.ref ht, .ref va, .ref vb])), (ht, .inr (0, [.int (iZ (Kt 0 0)), .int (iZ (Kt 0 1)), .int (iZ (Kt 0 2)), .int (iZ (Kt 0 3)), .int (iZ (Kt 0 4)), .int (iZ (Kt 0 5)), .int (iZ (Kt 0 6)), .ref (adt 1), .ref (adt 2), .ref (adt 3), .ref (adt 4), .ref (adt 5), .ref (adt 6), .ref (adt 7)])), (adt 1, .inl (Y 0, 6, .inl (aI (Kt 1)))), (adt 2, .inl (Y 0, 6, .inl (aI (Kt 2)))), (adt 3, .inl (Y 0, 6, .inl (aI (Kt 3)))), (adt 4, .inl (Y 1, 6, .inl (aI (Kt 4)))), (adt 5, .inl (Y 1, 6, .inl (aI (Kt 5)))), (adt 6, .inl (Y 0, 7, .inl (aI (Kt 6)))), (adt 7, .inl (Y 0, 7, .inl (aI (Kt 7)))), (h, .inr (0, [.int (iZ (K 0 0)), .int (iZ (K 0 1)), .int (iZ (K 0 2)), .int (iZ (K 0 3)), .int (iZ (K 0 4)), .int (iZ (K 0 5)), .int (iZ (K 0 6)), .ref (ad 1), .ref (ad 2), .ref (ad 3), .ref (ad 4), .ref (ad 5), .ref (ad 6), .ref (ad 7)])), (ad 1, .inl (Y 0, 6, .inl (aI (K 1)))), (ad 2, .inl (Y 0, 6, .inl (aI (K 2)))), (ad 3, .inl (Y 0, 6, .inl (aI (K 3)))), (ad 4, .inl (Y 1, 6, .inl (aI (K 4)))), (ad 5, .inl (Y 1, 6, .inl (aI (K 5)))), (ad 6, .inl (Y 0, 7, .inl (aI (K 6)))), (ad 7, .inl (Y 0, 7, .inl (aI (K 7)))), (h5, .inr (4, [.ref ta, .ref tb, .int (iZ n9)])), (ta, .inl (Y 0, 5, .inl (aI M))), (tb, .inl (Y 0, 5, .inl (aI T)))] ++ [(hv, .inr (6, [.ref h7, .ref h, .ref hto, .ref h3, .ref h4, .ref h5, .ref h6, .ref im, .ref ik]))]) [1, 2, 3, 4, 5, 6, 7, 8, 9, 10, 11, 12, 13, 14, 15, 16, 17, 18, 19, 20, 0] (by decide) rfl
  refine eu_V (As := [.ref h, .ref h5]) (rest := []) (wc := [(h4, .inr (3, [.ref ht, .ref va, .ref vb])), (ht, .inr (0, [.int (iZ (Kt 0 0)), .int (iZ (Kt 0 1)), .int (iZ (Kt 0 2)), .int (iZ (Kt 0 3)), .int (iZ (Kt 0 4)), .int (iZ (Kt 0 5)), .int (iZ (Kt 0 6)), .ref (adt 1), .ref (adt 2), .ref (adt 3), .ref (adt 4), .ref (adt 5), .ref (adt 6), .ref (adt 7)])), (adt 1, .inl (Y 0, 6, .inl (aI (Kt 1)))), (adt 2, .inl (Y 0, 6, .inl (aI (Kt 2)))), (adt 3, .inl (Y 0, 6, .inl (aI (Kt 3)))), (adt 4, .inl (Y 1, 6, .inl (aI (Kt 4)))), (adt 5, .inl (Y 1, 6, .inl (aI (Kt 5)))), (adt 6, .inl (Y 0, 7, .inl (aI (Kt 6)))), (adt 7, .inl (Y 0, 7, .inl (aI (Kt 7)))), (h, .inr (0, [.int (iZ (K 0 0)), .int (iZ (K 0 1)), .int (iZ (K 0 2)), .int (iZ (K 0 3)), .int (iZ (K 0 4)), .int (iZ (K 0 5)), .int (iZ (K 0 6)), .ref (ad 1), .ref (ad 2), .ref (ad 3), .ref (ad 4), .ref (ad 5), .ref (ad 6), .ref (ad 7)])), (ad 1, .inl (Y 0, 6, .inl (aI (K 1)))), (ad 2, .inl (Y 0, 6, .inl (aI (K 2)))), (ad 3, .inl (Y 0, 6, .inl (aI (K 3)))), (ad 4, .inl (Y 1, 6, .inl (aI (K 4)))), (ad 5, .inl (Y 1, 6, .inl (aI (K 5)))), (ad 6, .inl (Y 0, 7, .inl (aI (K 6)))), (ad 7, .inl (Y 0, 7, .inl (aI (K 7)))), (h5, .inr (4, [.ref ta, .ref tb, .int (iZ n9)])), (ta, .inl (Y 0, 5, .inl (aI M))), (tb, .inl (Y 0, 5, .inl (aI T)))]) (F := [(hv, .inr (6, [.ref h7, .ref h, .ref hto, .ref h3, .ref h4, .ref h5, .ref h6, .ref im, .ref ik]))]) (W1 := (fun u => qoW Y h4 ht va vb ++ (cmW Y ht adt u ++ (cmW Y h ad K ++ tlW Y h5 ta tb M T n9)))) ⟨hx, hb, hml, hown, hts⟩ (c_X3_possibleSuns l G Y h4 ht va vb adt Kt h ad K hW h5 ta tb M T n9 r) (cwV 2 hts gX6_mayBe_X3_possibleSuns rfl rfl rfl (by decide +kernel) ⟨Nat.le_of_ble_eq_true rfl, Nat.le_of_ble_eq_true rfl⟩) hK hP hD hS 0 rfl rfl (fun _ => Eq.refl [h4, ht, adt 1, adt 2, adt 3, adt 4, adt 5, adt 6, adt 7, h, ad 1, ad 2, ad 3, ad 4, ad 5, ad 6, ad 7, h5, ta, tb]) rfl hl.1 rfl (Nat.le_of_ble_eq_true rfl) dX6_mayBe_12 ⟨Nat.zero_le _, Nat.zero_le _⟩ (fun u1 H locs hP hD hS => ?_)
  show W _ _ _ _ _ _ _ _ _ _ _ _ _ _ _ (F0 _ _ _ [.int (iZ ((snN (snH K M T (n9).toNat) 9 : Nat) : Int))])
  replace hP : va_P G vwCl [(h4, .inr (3, [.ref ht, .ref va, .ref vb])), (ht, .inr (0, [.int (iZ (u1 0 0)), .int (iZ (u1 0 1)), .int (iZ (u1 0 2)), .int (iZ (u1 0 3)), .int (iZ (u1 0 4)), .int (iZ (u1 0 5)), .int (iZ (u1 0 6)), .ref (adt 1), .ref (adt 2), .ref (adt 3), .ref (adt 4), .ref (adt 5), .ref (adt 6), .ref (adt 7)])), (adt 1, .inl (Y 0, 6, .inl (aI (u1 1)))), (adt 2, .inl (Y 0, 6, .inl (aI (u1 2)))), (adt 3, .inl (Y 0, 6, .inl (aI (u1 3)))), (adt 4, .inl (Y 1, 6, .inl (aI (u1 4)))), (adt 5, .inl (Y 1, 6, .inl (aI (u1 5)))), (adt 6, .inl (Y 0, 7, .inl (aI (u1 6)))), (adt 7, .inl (Y 0, 7, .inl (aI (u1 7)))), (h, .inr (0, [.int (iZ (K 0 0)), .int (iZ (K 0 1)), .int (iZ (K 0 2)), .int (iZ (K 0 3)), .int (iZ (K 0 4)), .int (iZ (K 0 5)), .int (iZ (K 0 6)), .ref (ad 1), .ref (ad 2), .ref (ad 3), .ref (ad 4), .ref (ad 5), .ref (ad 6), .ref (ad 7)])), (ad 1, .inl (Y 0, 6, .inl (aI (K 1)))), (ad 2, .inl (Y 0, 6, .inl (aI (K 2)))), (ad 3, .inl (Y 0, 6, .inl (aI (K 3)))), (ad 4, .inl (Y 1, 6, .inl (aI (K 4)))), (ad 5, .inl (Y 1, 6, .inl (aI (K 5)))), (ad 6, .inl (Y 0, 7, .inl (aI (K 6)))), (ad 7, .inl (Y 0, 7, .inl (aI (K 7)))), (h5, .inr (4, [.ref ta, .ref tb, .int (iZ n9)])), (ta, .inl (Y 0, 5, .inl (aI M))), (tb, .inl (Y 0, 5, .inl (aI T))), (hv, .inr (6, [.ref h7, .ref h, .ref hto, .ref h3, .ref h4, .ref h5, .ref h6, .ref im, .ref ik]))] H := hP
  replace hD : va_D _ [(h4, .inr (3, [.ref ht, .ref va, .ref vb])), (ht, .inr (0, [.int (iZ (u1 0 0)), .int (iZ (u1 0 1)), .int (iZ (u1 0 2)), .int (iZ (u1 0 3)), .int (iZ (u1 0 4)), .int (iZ (u1 0 5)), .int (iZ (u1 0 6)), .ref (adt 1), .ref (adt 2), .ref (adt 3), .ref (adt 4), .ref (adt 5), .ref (adt 6), .ref (adt 7)])), (adt 1, .inl (Y 0, 6, .inl (aI (u1 1)))), (adt 2, .inl (Y 0, 6, .inl (aI (u1 2)))), (adt 3, .inl (Y 0, 6, .inl (aI (u1 3)))), (adt 4, .inl (Y 1, 6, .inl (aI (u1 4)))), (adt 5, .inl (Y 1, 6, .inl (aI (u1 5)))), (adt 6, .inl (Y 0, 7, .inl (aI (u1 6)))), (adt 7, .inl (Y 0, 7, .inl (aI (u1 7)))), (h, .inr (0, [.int (iZ (K 0 0)), .int (iZ (K 0 1)), .int (iZ (K 0 2)), .int (iZ (K 0 3)), .int (iZ (K 0 4)), .int (iZ (K 0 5)), .int (iZ (K 0 6)), .ref (ad 1), .ref (ad 2), .ref (ad 3), .ref (ad 4), .ref (ad 5), .ref (ad 6), .ref (ad 7)])), (ad 1, .inl (Y 0, 6, .inl (aI (K 1)))), (ad 2, .inl (Y 0, 6, .inl (aI (K 2)))), (ad 3, .inl (Y 0, 6, .inl (aI (K 3)))), (ad 4, .inl (Y 1, 6, .inl (aI (K 4)))), (ad 5, .inl (Y 1, 6, .inl (aI (K 5)))), (ad 6, .inl (Y 0, 7, .inl (aI (K 6)))), (ad 7, .inl (Y 0, 7, .inl (aI (K 7)))), (h5, .inr (4, [.ref ta, .ref tb, .int (iZ n9)])), (ta, .inl (Y 0, 5, .inl (aI M))), (tb, .inl (Y 0, 5, .inl (aI T))), (hv, .inr (6, [.ref h7, .ref h, .ref hto, .ref h3, .ref h4, .ref h5, .ref h6, .ref im, .ref ik]))] := hD
  refine z_top (show ((snN (snH K M T (n9).toNat) 9 : Nat) : Int) = ((snN (snH K M T n9.toNat) 9 : Nat) : Int) from ?_) ?_
  · omega
  have hP9 : va_P G vwCl (svO Y hv h7 h hto h3 h4 h5 h6 im ik ++ (qoW Y h4 ht va vb ++ (cmW Y ht adt u1 ++ (cmW Y h ad K ++ tlW Y h5 ta tb M T n9)))) H := hP.sub [20, 0, 1, 2, 3, 4, 5, 6, 7, 8, 9, 10, 11, 12, 13, 14, 15, 16, 17, 18, 19] rfl
  exact W.iret (v := iZ ((snN (snH K M T n9.toNat) 9 : Nat) : Int)) hx hb hr (fun t9 ht9 _ => ⟨rfl, ⟨u1, by rw [ht9]; exact hP9⟩, hS.F ht9⟩) hS.2.2 dX6_mayBe_15

set_option maxHeartbeats 4000000 in
set_option maxRecDepth 100000 in
theorem c_X6_commonDivisor (l : Launch) (G : va_G) (Y : Nat → ClassId) (a b : Int) (r : (0 ≤ a ∧ a ≤ 2147483647) ∧ 1 ≤ b ∧ b ≤ 2147483647) : Met l yX6_commonDivisor wsX6_commonDivisor ({ frames := 0, cells := 0, slots := 0, locals := 0 }) (rP G Y [.int (iZ a), .int (iZ b)] ([])) (rQ (.int (iZ (gdc a b)))) 0 0 (fun _ => False) := by
  refine Met.ofW (cc := cX6_commonDivisor) (maxL := 6) (ret := (some .int)) (by decide) rfl ?_
  intro p e s m args below meth c s₁ B hml hv
  obtain ⟨rfl, hK, hP⟩ := hv
  have hx := B.exec
  have hb := B.bytes
  have hr := B.returns
  have hts := atoms_spec (ws := wsX6_commonDivisor) B.pre
  have hown : s.vm.findClass RX6 = some m.cls := findClass_of_methodNamed B.named
  have hlocks := B.notSynchronized
  have hl := lv_entry ([.int (iZ a), .int (iZ b)]) (n := 6) (Nat.le_of_ble_eq_true rfl)
  rw [lg_entry_eq]
  generalize (lg_sl ([.int (iZ a), .int (iZ b)]) ++ List.replicate (6 - (lg_sl ([.int (iZ a), .int (iZ b)])).length) Slot.unset).toArray = ls at hl ⊢
  replace hl : lv_has ls 6 [(0, .int (iZ a)), (1, .int (iZ b))] := hl
  refine lv_iload_n hx hb dX6_commonDivisor_0 rfl (lv_at hl 0 rfl) ?_
  refine z_top (show a = ((a.toNat : Nat) : Int) by omega) ?_
  refine lv_istore_n (lv' := [(2, .int (iZ ((a.toNat : Nat) : Int))), (0, .int (iZ a)), (1, .int (iZ b))]) hx hb dX6_commonDivisor_1 rfl hl (by decide) rfl (fun ls hl => ?_)
  refine lv_iload_n hx hb dX6_commonDivisor_2 rfl (lv_at hl 2 rfl) ?_
  refine z_top (show b = ((b.toNat : Nat) : Int) by omega) ?_
  refine lv_istore_n (lv' := [(3, .int (iZ ((b.toNat : Nat) : Int))), (2, .int (iZ ((a.toNat : Nat) : Int))), (0, .int (iZ a)), (1, .int (iZ b))]) hx hb dX6_commonDivisor_3 rfl hl (by decide) rfl (fun ls hl => ?_)
  refine z_iconst hx hb dX6_commonDivisor_4 ?_
  refine lv_istore (lv' := [(4, .int (iZ 0)), (3, .int (iZ ((b.toNat : Nat) : Int))), (2, .int (iZ ((a.toNat : Nat) : Int))), (0, .int (iZ a)), (1, .int (iZ b))]) hx hb dX6_commonDivisor_5 hl (by decide) rfl (fun ls hl => ?_)
  obtain ⟨i, u, v, hI, hl1⟩ : ∃ (i : Nat) (u : Nat) (v : Nat), (gdI a.toNat b.toNat i u v ∧ i ≤ 64) ∧ lv_has ls 6 [(4, .int (iZ ((i : Nat) : Int))), (2, .int (iZ ((u : Nat) : Int))), (3, .int (iZ ((v : Nat) : Int))), (0, .int (iZ a)), (1, .int (iZ b))] := ⟨0, a.toNat, b.toNat, by exact ⟨⟨rfl, by omega, Or.inl ⟨rfl, rfl, rfl⟩⟩, by omega⟩, lv_sub hl [0, 2, 1, 3, 4] rfl⟩
  clear hl
  have hl := hl1
  clear hl1
  obtain ⟨n_, hn_⟩ : ∃ n_ : Nat, 64 - i < n_ := ⟨_, Nat.lt_succ_self _⟩
  induction n_ generalizing i u v ls with
  | zero => exact absurd hn_ (Nat.not_lt_zero _)
  | succ n_ ih1 =>
    have hv9 := hI.1.2.1
    have hu9 := gdI_u hI.1 (by omega)
    refine lv_iload hx hb dX6_commonDivisor_7 (lv_at hl 0 rfl) ?_
    refine z_bipush hx hb dX6_commonDivisor_9 (by decide) ?_
    refine z_icmp_ge (tgt := 34) hx hb dX6_commonDivisor_11 (by decide) (by omega) (fun c_2 => ?_) (fun c_2 => ?_)
    · skip
      refine lv_iload_n hx hb dX6_commonDivisor_34 rfl (lv_at hl 2 rfl) ?_
      refine z_top (show ((v : Nat) : Int) = gdc a b from ?_) ?_
      · unfold gdc; rw [gdI_end hI.1 (by omega)]
      exact W.iret (v := iZ (gdc a b)) hx hb hr (fun t9 ht9 _ => ⟨rfl, ht9⟩) (fun q h => absurd h List.not_mem_nil) dX6_commonDivisor_35
    · skip
      refine lv_iload_n hx hb dX6_commonDivisor_14 rfl (lv_at hl 1 rfl) ?_
      refine z_if_le (tgt := 34) hx hb dX6_commonDivisor_15 (by decide) (by omega) (fun c_3 => ?_) (fun c_3 => ?_)
      · skip
        refine lv_iload_n hx hb dX6_commonDivisor_34 rfl (lv_at hl 2 rfl) ?_
        refine z_top (show ((v : Nat) : Int) = gdc a b from ?_) ?_
        · unfold gdc; rw [gdI_end hI.1 (by omega)]
        exact W.iret (v := iZ (gdc a b)) hx hb hr (fun t9 ht9 _ => ⟨rfl, ht9⟩) (fun q h => absurd h List.not_mem_nil) dX6_commonDivisor_35
      · skip
        refine lv_iload_n hx hb dX6_commonDivisor_18 rfl (lv_at hl 2 rfl) ?_
        refine lv_iload_n hx hb dX6_commonDivisor_19 rfl (lv_at hl 1 rfl) ?_
        refine z_irem hx hb dX6_commonDivisor_20 (by omega) ?_
        refine z_top (show (((v : Nat) : Int) % ((u : Nat) : Int)) = ((v % u : Nat) : Int) from rfl) ?_
        refine lv_istore (lv' := [(5, .int (iZ ((v % u : Nat) : Int))), (4, .int (iZ ((i : Nat) : Int))), (2, .int (iZ ((u : Nat) : Int))), (3, .int (iZ ((v : Nat) : Int))), (0, .int (iZ a)), (1, .int (iZ b))]) hx hb dX6_commonDivisor_21 hl (by decide) rfl (fun ls hl => ?_)
        refine lv_iload_n hx hb dX6_commonDivisor_23 rfl (lv_at hl 2 rfl) ?_
        refine lv_istore_n (lv' := [(3, .int (iZ ((u : Nat) : Int))), (5, .int (iZ ((v % u : Nat) : Int))), (4, .int (iZ ((i : Nat) : Int))), (2, .int (iZ ((u : Nat) : Int))), (0, .int (iZ a)), (1, .int (iZ b))]) hx hb dX6_commonDivisor_24 rfl hl (by decide) rfl (fun ls hl => ?_)
        refine lv_iload hx hb dX6_commonDivisor_25 (lv_at hl 1 rfl) ?_
        refine lv_istore_n (lv' := [(2, .int (iZ ((v % u : Nat) : Int))), (3, .int (iZ ((u : Nat) : Int))), (5, .int (iZ ((v % u : Nat) : Int))), (4, .int (iZ ((i : Nat) : Int))), (0, .int (iZ a)), (1, .int (iZ b))]) hx hb dX6_commonDivisor_27 rfl hl (by decide) rfl (fun ls hl => ?_)
        refine lv_iinc (v := iZ ((i + 1 : Nat) : Int)) (lv' := [(4, .int (iZ ((i + 1 : Nat) : Int))), (2, .int (iZ ((v % u : Nat) : Int))), (3, .int (iZ ((u : Nat) : Int))), (5, .int (iZ ((v % u : Nat) : Int))), (0, .int (iZ a)), (1, .int (iZ b))]) hx hb dX6_commonDivisor_28 hl (k := 3) rfl (iZ_inc _) (by decide) rfl (fun ls hl => ?_)
        refine lv_goto (tgt := 7) hx hb dX6_commonDivisor_31 (by decide) ?_
        exact ih1 (ls := ls) (i := i + 1) (u := v % u) (v := u) (hI := by exact ⟨gdI_step (by omega) (by omega) hI.1 (by omega), by omega⟩) (hl := lv_sub hl [0, 1, 2, 4, 5] rfl) (hn_ := by omega)

set_option maxHeartbeats 4000000 in
set_option maxRecDepth 100000 in
theorem c_X6_odds (l : Launch) (G : va_G) (Y : Nat → ClassId) (hv h7 h hto h3 h4 h5 h6 im ik : Nat) (ht va vb : Nat) (E C : Nat → Int) (ad : Nat → Nat) (K : Kom) (hW : cWF K) (a b d : Int) (r : (zR a ∧ zR b) ∧ zR d) : Met l yX6_odds wsX6_odds ({ frames := 5, cells := 0, slots := 0, locals := 118 }) (mP G Y [.ref hv, .int (iZ a), .int (iZ b), .int (iZ d)] (svO Y hv h7 h hto h3 h4 h5 h6 im ik ++ (quW Y h4 ht va vb E C ++ cmW Y h ad K))) (eQ G (svO Y hv h7 h hto h3 h4 h5 h6 im ik ++ (quW Y h4 ht va vb E C ++ cmW Y h ad K)) (some (.int (iZ (rOdds K a b d)))) (fun u => svO Y hv h7 h hto h3 h4 h5 h6 im ik ++ (quW Y h4 ht va vb (u 0) (u 1) ++ cmW Y h ad K))) 0 0 (fun q => q ∈ List.map Prod.fst (svO Y hv h7 h hto h3 h4 h5 h6 im ik ++ (quW Y h4 ht va vb E C ++ cmW Y h ad K))) := by
  refine Met.ofW (cc := cX6_odds) (maxL := 6) (ret := (some .int)) (by decide) rfl ?_
  intro p e s m args below meth c s₁ B hml hv
  obtain ⟨rfl, hK, hP, hD0⟩ := hv
  have hx := B.exec
  have hb := B.bytes
  have hr := B.returns
  have hts := atoms_spec (ws := wsX6_odds) B.pre
  have hown : s.vm.findClass RX6 = some m.cls := findClass_of_methodNamed B.named
  have hlocks := B.notSynchronized
  have hFX0 : ∀ w ∈ wsX00, w ∈ wsX6_odds := by decide +kernel
  have hFX6 : ∀ w ∈ wsX60, w ∈ wsX6_odds := by decide +kernel
  have kf19 := (hts (.fieldLink RX6 19 "ShadeVotes" "present" "LShadeVotes$Commune;") (by decide +kernel))
  have kf215 := (hts (.fieldLink RX6 215 "ShadeVotes$Commune" "people" "I") (by decide +kernel))
  have kf36 := (hts (.fieldLink RX6 36 "ShadeVotes" "question" "LShadeVotes$Question;") (by decide +kernel))
  have hD := va_D_self hD0
  have hS : va_S (fun q => q ∈ List.map Prod.fst (svO Y hv h7 h hto h3 h4 h5 h6 im ik ++ (quW Y h4 ht va vb E C ++ cmW Y h ad K))) s.heap s.heap [] := va_S.rf
  obtain ⟨H, hHe⟩ : ∃ H, H = s.heap := ⟨_, rfl⟩
  rw [← hHe] at hP
  replace hS : va_S (fun q => q ∈ List.map Prod.fst (svO Y hv h7 h hto h3 h4 h5 h6 im ik ++ (quW Y h4 ht va vb E C ++ cmW Y h ad K))) s.heap H [] := by rw [hHe]; exact hS
  have hl := lv_entry ([.ref hv, .int (iZ a), .int (iZ b), .int (iZ d)]) (n := 6) (Nat.le_of_ble_eq_true rfl)
  rw [lg_entry_eq]
  generalize (lg_sl ([.ref hv, .int (iZ a), .int (iZ b), .int (iZ d)]) ++ List.replicate (6 - (lg_sl ([.ref hv, .int (iZ a), .int (iZ b), .int (iZ d)])).length) Slot.unset).toArray = ls at hl ⊢
  replace hl : lv_has ls 6 [(0, .ref hv), (1, .int (iZ a)), (2, .int (iZ b)), (3, .int (iZ d))] := hl
  obtain ⟨locs, hLe⟩ : ∃ locs : List Loc, locs = [] := ⟨_, rfl⟩
  rw [← hLe] at hS ⊢
  have hW0 : ∀ {Q : State → Prop} {g : JFrame}, W p l e ({ frames := 5, cells := 0, slots := 0, locals := 118 }) s m [.ref hv, .int (iZ a), .int (iZ b), .int (iZ d)].toArray below meth c H locs 0 0 Q g → W p l e ({ frames := 5, cells := 0, slots := 0, locals := 118 }) s m [.ref hv, .int (iZ a), .int (iZ b), .int (iZ d)].toArray below meth c s.heap locs 0 0 Q g := fun h => by rw [← hHe]; exact h
  refine hW0 ?_
  clear hW0 hHe hLe
  have h0 := hW.1
  have hnc := hW.nc
  refine lv_iload_n hx hb dX6_odds_0 rfl (lv_at hl 1 rfl) ?_
  refine ro_S (As := [.int (iZ a)]) (rest := []) ⟨hx, hb, hml, hown, hts⟩ (c_X6_isMotion l G Y a (by omega)) (cwS 1 hts gX6_odds_X6_isMotion rfl rfl rfl (by decide +kernel) ⟨Nat.le_of_ble_eq_true rfl, Nat.le_of_ble_eq_true rfl⟩) hK (hP.sub (ws' := []) [] rfl) rfl hl.1 rfl (Nat.le_of_ble_eq_true rfl) dX6_odds_1 ⟨Nat.zero_le _, Nat.zero_le _⟩ ?_
  refine z_ifb_eq (tgt := 26) hx hb dX6_odds_4 (by decide) (fun c_1 => ?_) (fun c_1 => ?_)
  · skip
    have c_1 := of_decide_eq_false c_1
    refine z_iconst hx hb dX6_odds_26 ?_
    refine z_top (show (-1) = rOdds K a b d from ?_) ?_
    · unfold rOdds; (repeat' split) <;> first | rfl | omega | (simp_all; done)
    have hP9 : va_P G vwCl (svO Y hv h7 h hto h3 h4 h5 h6 im ik ++ (quW Y h4 ht va vb ((ecU E C) 0) ((ecU E C) 1) ++ cmW Y h ad K)) H := hP.sub [0, 1, 2, 3, 4, 5, 6, 7, 8, 9, 10, 11] rfl
    exact W.iret (v := iZ (rOdds K a b d)) hx hb hr (fun t9 ht9 _ => ⟨rfl, ⟨ecU E C, by rw [ht9]; exact hP9⟩, hS.F ht9⟩) hS.2.2 dX6_odds_27
  · skip
    have c_1 := of_decide_eq_true c_1
    refine lv_iload_n hx hb dX6_odds_7 rfl (lv_at hl 2 rfl) ?_
    refine z_iconst hx hb dX6_odds_8 ?_
    refine z_bipush hx hb dX6_odds_9 (by decide) ?_
    refine ro_S (As := [.int (iZ b), .int (iZ 0), .int (iZ 10)]) (rest := []) ⟨hx, hb, hml, hown, hts⟩ (c_X6_isWithin l G Y b 0 10 (by omega)) (cwS 3 hts gX6_odds_X6_isWithin rfl rfl rfl (by decide +kernel) ⟨Nat.le_of_ble_eq_true rfl, Nat.le_of_ble_eq_true rfl⟩) hK (hP.sub (ws' := []) [] rfl) rfl hl.1 rfl (Nat.le_of_ble_eq_true rfl) dX6_odds_11 ⟨Nat.zero_le _, Nat.zero_le _⟩ ?_
    refine z_ifb_eq (tgt := 26) hx hb dX6_odds_14 (by decide) (fun c_2 => ?_) (fun c_2 => ?_)
    · skip
      have c_2 := of_decide_eq_false c_2
      refine z_iconst hx hb dX6_odds_26 ?_
      refine z_top (show (-1) = rOdds K a b d from ?_) ?_
      · unfold rOdds; (repeat' split) <;> first | rfl | omega | (simp_all; done)
      have hP9 : va_P G vwCl (svO Y hv h7 h hto h3 h4 h5 h6 im ik ++ (quW Y h4 ht va vb ((ecU E C) 0) ((ecU E C) 1) ++ cmW Y h ad K)) H := hP.sub [0, 1, 2, 3, 4, 5, 6, 7, 8, 9, 10, 11] rfl
      exact W.iret (v := iZ (rOdds K a b d)) hx hb hr (fun t9 ht9 _ => ⟨rfl, ⟨ecU E C, by rw [ht9]; exact hP9⟩, hS.F ht9⟩) hS.2.2 dX6_odds_27
    · skip
      have c_2 := of_decide_eq_true c_2
      refine lv_iload_n hx hb dX6_odds_17 rfl (lv_at hl 3 rfl) ?_
      refine z_iconst hx hb dX6_odds_18 ?_
      refine z_iconst hx hb dX6_odds_19 ?_
      refine ro_S (As := [.int (iZ d), .int (iZ 0), .int (iZ 1)]) (rest := []) ⟨hx, hb, hml, hown, hts⟩ (c_X6_isWithin l G Y d 0 1 (by omega)) (cwS 3 hts gX6_odds_X6_isWithin rfl rfl rfl (by decide +kernel) ⟨Nat.le_of_ble_eq_true rfl, Nat.le_of_ble_eq_true rfl⟩) hK (hP.sub (ws' := []) [] rfl) rfl hl.1 rfl (Nat.le_of_ble_eq_true rfl) dX6_odds_20 ⟨Nat.zero_le _, Nat.zero_le _⟩ ?_
      refine z_ifb_ne (tgt := 28) hx hb dX6_odds_23 (by decide) (fun c_3 => ?_) (fun c_3 => ?_)
      · skip
        have c_3 := of_decide_eq_true c_3
        obtain ⟨mo, hmo⟩ : ∃ mo : Nat, a = ((mo : Nat) : Int) := ⟨a.toNat, by omega⟩
        have hmot : a.toNat = mo := by omega
        rw [hmo] at hl
        have ht9 := ten_in (K 0 3).toNat (by omega)
        have hp2 := p2_in (K 0 3).toNat (by omega)
        refine z_bipush hx hb dX6_odds_28 (by decide) ?_
        refine lv_aload_n hx hb dX6_odds_30 rfl (lv_at hl 0 rfl) ?_
        refine va_get (D := G) (ci := 6) (v := .ref h) (C := RX6) (T := TX6) (N := 9) hx hb hts hFX6 hown hK.1 hP 0 rfl rfl 1 (by decide) kf19 (fun _ h9 => h9) rfl dX6_odds_31 ?_
        refine va_get (D := G) (ci := 0) (v := .int (iZ (K 0 3))) (C := RX0) (T := TX0) (N := 14) hx hb hts hFX0 hown hK.1 hP 4 rfl rfl 3 (by decide) kf215 (fun _ h9 => h9) rfl dX6_odds_34 ?_
        refine ro_S (As := [.int (iZ 10), .int (iZ (K 0 3))]) (rest := []) ⟨hx, hb, hml, hown, hts⟩ (c_X6_power l G Y 10 (K 0 3) (by omega)) (cwS 2 hts gX6_odds_X6_power rfl rfl rfl (by decide +kernel) ⟨Nat.le_of_ble_eq_true rfl, Nat.le_of_ble_eq_true rfl⟩) hK (hP.sub (ws' := []) [] rfl) rfl hl.1 rfl (Nat.le_of_ble_eq_true rfl) dX6_odds_37 ⟨Nat.zero_le _, Nat.zero_le _⟩ ?_
        refine lv_istore (lv' := [(4, .int (iZ (10 ^ (K 0 3).toNat))), (0, .ref hv), (1, .int (iZ ((mo : Nat) : Int))), (2, .int (iZ b)), (3, .int (iZ d))]) hx hb dX6_odds_40 hl (by decide) rfl (fun ls hl => ?_)
        refine lv_aload_n hx hb dX6_odds_42 rfl (lv_at hl 1 rfl) ?_
        refine va_get (D := G) (ci := 6) (v := .ref h4) (C := RX6) (T := TX6) (N := 9) hx hb hts hFX6 hown hK.1 hP 0 rfl rfl 4 (by decide) kf36 (fun _ h9 => h9) rfl dX6_odds_43 ?_
        refine lv_aload_n hx hb dX6_odds_46 rfl (lv_at hl 1 rfl) ?_
        refine va_get (D := G) (ci := 6) (v := .ref h) (C := RX6) (T := TX6) (N := 9) hx hb hts hFX6 hown hK.1 hP 0 rfl rfl 1 (by decide) kf19 (fun _ h9 => h9) rfl dX6_odds_47 ?_
        refine lv_iload_n hx hb dX6_odds_50 rfl (lv_at hl 2 rfl) ?_
        refine lv_iload_n hx hb dX6_odds_51 rfl (lv_at hl 3 rfl) ?_
        have hP := hP.sub (ws' := [(h4, .inr (3, [.ref ht, .ref va, .ref vb])), (va, .inl (Y 0, 7, .inl (aI E))), (vb, .inl (Y 0, 7, .inl (aI C))), (h, .inr (0, [.int (iZ (K 0 0)), .int (iZ (K 0 1)), .int (iZ (K 0 2)), .int (iZ (K 0 3)), .int (iZ (K 0 4)), .int (iZ (K 0 5)), .int (iZ (K 0 6)), .ref (ad 1), .ref (ad 2), .ref (ad 3), .ref (ad 4), .ref (ad 5), .ref (ad 6), .ref (ad 7)])), (ad 1, .inl (Y 0, 6, .inl (aI (K 1)))), (ad 2, .inl (Y 0, 6, .inl (aI (K 2)))), (ad 3, .inl (Y 0, 6, .inl (aI (K 3)))), (ad 4, .inl (Y 1, 6, .inl (aI (K 4)))), (ad 5, .inl (Y 1, 6, .inl (aI (K 5)))), (ad 6, .inl (Y 0, 7, .inl (aI (K 6)))), (ad 7, .inl (Y 0, 7, .inl (aI (K 7))))] ++ [(hv, .inr (6, [.ref h7, .ref h, .ref hto, .ref h3, .ref h4, .ref h5, .ref h6, .ref im, .ref ik]))]) [1, 2, 3, 4, 5, 6, 7, 8, 9, 10, 11, 0] rfl
        have hD := hD.sub (ws' := [(h4, .inr (3, [.ref ht, .ref va, .ref vb])), (va, .inl (Y 0, 7, .inl (aI E))), (vb, .inl (Y 0, 7, .inl (aI C))), (h, .inr (0, [.int (iZ (K 0 0)), .int (iZ (K 0 1)), .int (iZ (K 0 2)), .int (iZ (K 0 3)), .int (iZ (K 0 4)), .int (iZ (K 0 5)), .int (iZ (K 0 6)), .ref (ad 1), .ref (ad 2), .ref (ad 3), .ref (ad 4), .ref (ad 5), .ref (ad 6), .ref (ad 7)])), (ad 1, .inl (Y 0, 6, .inl (aI (K 1)))), (ad 2, .inl (Y 0, 6, .inl (aI (K 2)))), (ad 3, .inl (Y 0, 6, .inl (aI (K 3)))), (ad 4, .inl (Y 1, 6, .inl (aI (K 4)))), (ad 5, .inl (Y 1, 6, .inl (aI (K 5)))), (ad 6, .inl (Y 0, 7, .inl (aI (K 6)))), (ad 7, .inl (Y 0, 7, .inl (aI (K 7))))] ++ [(hv, .inr (6, [.ref h7, .ref h, .ref hto, .ref h3, .ref h4, .ref h5, .ref h6, .ref im, .ref ik]))]) [1, 2, 3, 4, 5, 6, 7, 8, 9, 10, 11, 0] (by decide) rfl
        refine eu_V (As := [.ref h, .int (iZ ((mo : Nat) : Int)), .int (iZ b)]) (rest := []) (wc := [(h4, .inr (3, [.ref ht, .ref va, .ref vb])), (va, .inl (Y 0, 7, .inl (aI E))), (vb, .inl (Y 0, 7, .inl (aI C))), (h, .inr (0, [.int (iZ (K 0 0)), .int (iZ (K 0 1)), .int (iZ (K 0 2)), .int (iZ (K 0 3)), .int (iZ (K 0 4)), .int (iZ (K 0 5)), .int (iZ (K 0 6)), .ref (ad 1), .ref (ad 2), .ref (ad 3), .ref (ad 4), .ref (ad 5), .ref (ad 6), .ref (ad 7)])), (ad 1, .inl (Y 0, 6, .inl (aI (K 1)))), (ad 2, .inl (Y 0, 6, .inl (aI (K 2)))), (ad 3, .inl (Y 0, 6, .inl (aI (K 3)))), (ad 4, .inl (Y 1, 6, .inl (aI (K 4)))), (ad 5, .inl (Y 1, 6, .inl (aI (K 5)))), (ad 6, .inl (Y 0, 7, .inl (aI (K 6)))), (ad 7, .inl (Y 0, 7, .inl (aI (K 7))))]) (F := [(hv, .inr (6, [.ref h7, .ref h, .ref hto, .ref h3, .ref h4, .ref h5, .ref h6, .ref im, .ref ik]))]) (W1 := (fun u => quW Y h4 ht va vb (u 0) (u 1) ++ cmW Y h ad K)) ⟨hx, hb, hml, hown, hts⟩ (c_X3_chancesToCarry l G Y h4 ht va vb E C h ad K hW mo b (by omega)) (cwV 3 hts gX6_odds_X3_chancesToCarry rfl rfl rfl (by decide +kernel) ⟨Nat.le_of_ble_eq_true rfl, Nat.le_of_ble_eq_true rfl⟩) hK hP hD hS 0 rfl rfl (fun _ => Eq.refl [h4, va, vb, h, ad 1, ad 2, ad 3, ad 4, ad 5, ad 6, ad 7]) rfl hl.1 rfl (Nat.le_of_ble_eq_true rfl) dX6_odds_52 ⟨Nat.zero_le _, Nat.zero_le _⟩ (fun u4 H locs hP hD hS => ?_)
        show W _ _ _ _ _ _ _ _ _ _ _ _ _ _ _ (F0 _ _ _ [.int (iZ (chN (fE K mo) (K 0 3).toNat b (2 ^ (K 0 3).toNat)))])
        replace hP : va_P G vwCl [(h4, .inr (3, [.ref ht, .ref va, .ref vb])), (va, .inl (Y 0, 7, .inl (aI (u4 0)))), (vb, .inl (Y 0, 7, .inl (aI (u4 1)))), (h, .inr (0, [.int (iZ (K 0 0)), .int (iZ (K 0 1)), .int (iZ (K 0 2)), .int (iZ (K 0 3)), .int (iZ (K 0 4)), .int (iZ (K 0 5)), .int (iZ (K 0 6)), .ref (ad 1), .ref (ad 2), .ref (ad 3), .ref (ad 4), .ref (ad 5), .ref (ad 6), .ref (ad 7)])), (ad 1, .inl (Y 0, 6, .inl (aI (K 1)))), (ad 2, .inl (Y 0, 6, .inl (aI (K 2)))), (ad 3, .inl (Y 0, 6, .inl (aI (K 3)))), (ad 4, .inl (Y 1, 6, .inl (aI (K 4)))), (ad 5, .inl (Y 1, 6, .inl (aI (K 5)))), (ad 6, .inl (Y 0, 7, .inl (aI (K 6)))), (ad 7, .inl (Y 0, 7, .inl (aI (K 7)))), (hv, .inr (6, [.ref h7, .ref h, .ref hto, .ref h3, .ref h4, .ref h5, .ref h6, .ref im, .ref ik]))] H := hP
        replace hD : va_D _ [(h4, .inr (3, [.ref ht, .ref va, .ref vb])), (va, .inl (Y 0, 7, .inl (aI (u4 0)))), (vb, .inl (Y 0, 7, .inl (aI (u4 1)))), (h, .inr (0, [.int (iZ (K 0 0)), .int (iZ (K 0 1)), .int (iZ (K 0 2)), .int (iZ (K 0 3)), .int (iZ (K 0 4)), .int (iZ (K 0 5)), .int (iZ (K 0 6)), .ref (ad 1), .ref (ad 2), .ref (ad 3), .ref (ad 4), .ref (ad 5), .ref (ad 6), .ref (ad 7)])), (ad 1, .inl (Y 0, 6, .inl (aI (K 1)))), (ad 2, .inl (Y 0, 6, .inl (aI (K 2)))), (ad 3, .inl (Y 0, 6, .inl (aI (K 3)))), (ad 4, .inl (Y 1, 6, .inl (aI (K 4)))), (ad 5, .inl (Y 1, 6, .inl (aI (K 5)))), (ad 6, .inl (Y 0, 7, .inl (aI (K 6)))), (ad 7, .inl (Y 0, 7, .inl (aI (K 7)))), (hv, .inr (6, [.ref h7, .ref h, .ref hto, .ref h3, .ref h4, .ref h5, .ref h6, .ref im, .ref ik]))] := hD
        refine lv_istore (lv' := [(5, .int (iZ (chN (fE K mo) (K 0 3).toNat b (2 ^ (K 0 3).toNat)))), (4, .int (iZ (10 ^ (K 0 3).toNat))), (0, .ref hv), (1, .int (iZ ((mo : Nat) : Int))), (2, .int (iZ b)), (3, .int (iZ d))]) hx hb dX6_odds_55 hl (by decide) rfl (fun ls hl => ?_)
        have hc9 := chN_in (Cf := fE K mo) (n := (K 0 3).toNat) (q := b) (by omega) (by omega) (2 ^ (K 0 3).toNat) (Nat.le_refl _)
        have hc8 : chN (fE K mo) (K 0 3).toNat b (2 ^ (K 0 3).toNat) ≤ 1280000000 := by omega
        refine lv_iload_n hx hb dX6_odds_57 rfl (lv_at hl 5 rfl) ?_
        refine z_if_ne (tgt := 66) hx hb dX6_odds_58 (by decide) (by omega) (fun c_5 => ?_) (fun c_5 => ?_)
        · skip
          refine lv_iload hx hb dX6_odds_66 (lv_at hl 1 rfl) ?_
          refine lv_iload hx hb dX6_odds_68 (lv_at hl 0 rfl) ?_
          refine lv_iload hx hb dX6_odds_70 (lv_at hl 1 rfl) ?_
          refine ro_S (As := [.int (iZ (chN (fE K mo) (K 0 3).toNat b (2 ^ (K 0 3).toNat))), .int (iZ (10 ^ (K 0 3).toNat))]) (rest := [.int (iZ (10 ^ (K 0 3).toNat))]) ⟨hx, hb, hml, hown, hts⟩ (c_X6_commonDivisor l G Y (chN (fE K mo) (K 0 3).toNat b (2 ^ (K 0 3).toNat)) (10 ^ (K 0 3).toNat) (by omega)) (cwS 2 hts gX6_odds_X6_commonDivisor rfl rfl rfl (by decide +kernel) ⟨Nat.le_of_ble_eq_true rfl, Nat.le_of_ble_eq_true rfl⟩) hK (hP.sub (ws' := []) [] rfl) rfl hl.1 rfl (Nat.le_of_ble_eq_true rfl) dX6_odds_72 ⟨Nat.zero_le _, Nat.zero_le _⟩ ?_
          have hb_6 := gdc_in (a := chN (fE K mo) (K 0 3).toNat b (2 ^ (K 0 3).toNat)) (b := (10 ^ (K 0 3).toNat)) (by omega) (by omega)
          refine ro_S (As := [.int (iZ (10 ^ (K 0 3).toNat)), .int (iZ (gdc (chN (fE K mo) (K 0 3).toNat b (2 ^ (K 0 3).toNat)) (10 ^ (K 0 3).toNat)))]) (rest := []) ⟨hx, hb, hml, hown, hts⟩ (c_X6_cut l G Y (10 ^ (K 0 3).toNat) (gdc (chN (fE K mo) (K 0 3).toNat b (2 ^ (K 0 3).toNat)) (10 ^ (K 0 3).toNat)) (by omega)) (cwS 2 hts gX6_odds_X6_cut rfl rfl rfl (by decide +kernel) ⟨Nat.le_of_ble_eq_true rfl, Nat.le_of_ble_eq_true rfl⟩) hK (hP.sub (ws' := []) [] rfl) rfl hl.1 rfl (Nat.le_of_ble_eq_true rfl) dX6_odds_75 ⟨Nat.zero_le _, Nat.zero_le _⟩ ?_
          refine z_top (show ((10 ^ (K 0 3).toNat) / gdc (chN (fE K mo) (K 0 3).toNat b (2 ^ (K 0 3).toNat)) (10 ^ (K 0 3).toNat)) = rOdds K a b d from ?_) ?_
          · unfold rOdds; rw [hmot, if_pos (by omega)]; first | rw [if_pos (by omega)] | rw [if_neg (by omega)]
          have hP9 : va_P G vwCl (svO Y hv h7 h hto h3 h4 h5 h6 im ik ++ (quW Y h4 ht va vb ((ecU (u4 0) (u4 1)) 0) ((ecU (u4 0) (u4 1)) 1) ++ cmW Y h ad K)) H := hP.sub [11, 0, 1, 2, 3, 4, 5, 6, 7, 8, 9, 10] rfl
          exact W.iret (v := iZ (rOdds K a b d)) hx hb hr (fun t9 ht9 _ => ⟨rfl, ⟨ecU (u4 0) (u4 1), by rw [ht9]; exact hP9⟩, hS.F ht9⟩) hS.2.2 dX6_odds_78
        · skip
          refine lv_iload hx hb dX6_odds_61 (lv_at hl 0 rfl) ?_
          refine lv_goto (tgt := 68) hx hb dX6_odds_63 (by decide) ?_
          refine lv_iload hx hb dX6_odds_68 (lv_at hl 0 rfl) ?_
          refine lv_iload hx hb dX6_odds_70 (lv_at hl 1 rfl) ?_
          refine ro_S (As := [.int (iZ (chN (fE K mo) (K 0 3).toNat b (2 ^ (K 0 3).toNat))), .int (iZ (10 ^ (K 0 3).toNat))]) (rest := [.int (iZ (chN (fE K mo) (K 0 3).toNat b (2 ^ (K 0 3).toNat)))]) ⟨hx, hb, hml, hown, hts⟩ (c_X6_commonDivisor l G Y (chN (fE K mo) (K 0 3).toNat b (2 ^ (K 0 3).toNat)) (10 ^ (K 0 3).toNat) (by omega)) (cwS 2 hts gX6_odds_X6_commonDivisor rfl rfl rfl (by decide +kernel) ⟨Nat.le_of_ble_eq_true rfl, Nat.le_of_ble_eq_true rfl⟩) hK (hP.sub (ws' := []) [] rfl) rfl hl.1 rfl (Nat.le_of_ble_eq_true rfl) dX6_odds_72 ⟨Nat.zero_le _, Nat.zero_le _⟩ ?_
          have hb_7 := gdc_in (a := chN (fE K mo) (K 0 3).toNat b (2 ^ (K 0 3).toNat)) (b := (10 ^ (K 0 3).toNat)) (by omega) (by omega)
          refine ro_S (As := [.int (iZ (chN (fE K mo) (K 0 3).toNat b (2 ^ (K 0 3).toNat))), .int (iZ (gdc (chN (fE K mo) (K 0 3).toNat b (2 ^ (K 0 3).toNat)) (10 ^ (K 0 3).toNat)))]) (rest := []) ⟨hx, hb, hml, hown, hts⟩ (c_X6_cut l G Y (chN (fE K mo) (K 0 3).toNat b (2 ^ (K 0 3).toNat)) (gdc (chN (fE K mo) (K 0 3).toNat b (2 ^ (K 0 3).toNat)) (10 ^ (K 0 3).toNat)) (by omega)) (cwS 2 hts gX6_odds_X6_cut rfl rfl rfl (by decide +kernel) ⟨Nat.le_of_ble_eq_true rfl, Nat.le_of_ble_eq_true rfl⟩) hK (hP.sub (ws' := []) [] rfl) rfl hl.1 rfl (Nat.le_of_ble_eq_true rfl) dX6_odds_75 ⟨Nat.zero_le _, Nat.zero_le _⟩ ?_
          refine z_top (show (chN (fE K mo) (K 0 3).toNat b (2 ^ (K 0 3).toNat) / gdc (chN (fE K mo) (K 0 3).toNat b (2 ^ (K 0 3).toNat)) (10 ^ (K 0 3).toNat)) = rOdds K a b d from ?_) ?_
          · unfold rOdds; rw [hmot, if_pos (by omega)]; first | rw [if_pos (by omega)] | rw [if_neg (by omega)]
          have hP9 : va_P G vwCl (svO Y hv h7 h hto h3 h4 h5 h6 im ik ++ (quW Y h4 ht va vb ((ecU (u4 0) (u4 1)) 0) ((ecU (u4 0) (u4 1)) 1) ++ cmW Y h ad K)) H := hP.sub [11, 0, 1, 2, 3, 4, 5, 6, 7, 8, 9, 10] rfl
          exact W.iret (v := iZ (rOdds K a b d)) hx hb hr (fun t9 ht9 _ => ⟨rfl, ⟨ecU (u4 0) (u4 1), by rw [ht9]; exact hP9⟩, hS.F ht9⟩) hS.2.2 dX6_odds_78
      · skip
        have c_3 := of_decide_eq_false c_3
        refine z_iconst hx hb dX6_odds_26 ?_
        refine z_top (show (-1) = rOdds K a b d from ?_) ?_
        · unfold rOdds; (repeat' split) <;> first | rfl | omega | (simp_all; done)
        have hP9 : va_P G vwCl (svO Y hv h7 h hto h3 h4 h5 h6 im ik ++ (quW Y h4 ht va vb ((ecU E C) 0) ((ecU E C) 1) ++ cmW Y h ad K)) H := hP.sub [0, 1, 2, 3, 4, 5, 6, 7, 8, 9, 10, 11] rfl
        exact W.iret (v := iZ (rOdds K a b d)) hx hb hr (fun t9 ht9 _ => ⟨rfl, ⟨ecU E C, by rw [ht9]; exact hP9⟩, hS.F ht9⟩) hS.2.2 dX6_odds_27

set_option maxHeartbeats 4000000 in
set_option maxRecDepth 100000 in
theorem c_X6_counted (l : Launch) (G : va_G) (Y : Nat → ClassId) (hv h7 h hto h3 h4 h5 h6 im ik : Nat) (ta tb : Nat) (M T : Nat → Int) (n9 : Int) (a b : Int) (r : (zR a ∧ zR b) ∧ 0 ≤ n9 ∧ n9 ≤ 5) : Met l yX6_counted wsX6_counted ({ frames := 2, cells := 0, slots := 0, locals := 42 }) (mP G Y [.ref hv, .int (iZ a), .int (iZ b)] (svO Y hv h7 h hto h3 h4 h5 h6 im ik ++ (tlW Y h5 ta tb M T n9))) (mQ G (svO Y hv h7 h hto h3 h4 h5 h6 im ik ++ (tlW Y h5 ta tb M T n9)) (some (.int (iZ (rCnt n9 a b)))) (svO Y hv h7 h hto h3 h4 h5 h6 im ik ++ tlW Y h5 ta tb (bif fCnt a b then tlM M n9 a else M) (bif fCnt a b then tlM T n9 b else T) (bif fCnt a b then tlS n9 else n9))) 0 0 (fun q => q ∈ List.map Prod.fst (svO Y hv h7 h hto h3 h4 h5 h6 im ik ++ (tlW Y h5 ta tb M T n9))) := by
  refine Met.ofW (cc := cX6_counted) (maxL := 3) (ret := (some .int)) (by decide) rfl ?_
  intro p e s m args below meth c s₁ B hml hv
  obtain ⟨rfl, hK, hP, hD0⟩ := hv
  have hx := B.exec
  have hb := B.bytes
  have hr := B.returns
  have hts := atoms_spec (ws := wsX6_counted) B.pre
  have hown : s.vm.findClass RX6 = some m.cls := findClass_of_methodNamed B.named
  have hlocks := B.notSynchronized
  have hFX4 : ∀ w ∈ wsX40, w ∈ wsX6_counted := by decide +kernel
  have hFX6 : ∀ w ∈ wsX60, w ∈ wsX6_counted := by decide +kernel
  have kf43 := (hts (.fieldLink RX6 43 "ShadeVotes" "tally" "LShadeVotes$Tally;") (by decide +kernel))
  have kf210 := (hts (.fieldLink RX6 210 "ShadeVotes$Tally" "size" "I") (by decide +kernel))
  have hD := va_D_self hD0
  have hS : va_S (fun q => q ∈ List.map Prod.fst (svO Y hv h7 h hto h3 h4 h5 h6 im ik ++ (tlW Y h5 ta tb M T n9))) s.heap s.heap [] := va_S.rf
  obtain ⟨H, hHe⟩ : ∃ H, H = s.heap := ⟨_, rfl⟩
  rw [← hHe] at hP
  replace hS : va_S (fun q => q ∈ List.map Prod.fst (svO Y hv h7 h hto h3 h4 h5 h6 im ik ++ (tlW Y h5 ta tb M T n9))) s.heap H [] := by rw [hHe]; exact hS
  have hl := lv_entry ([.ref hv, .int (iZ a), .int (iZ b)]) (n := 3) (Nat.le_of_ble_eq_true rfl)
  rw [lg_entry_eq]
  generalize (lg_sl ([.ref hv, .int (iZ a), .int (iZ b)]) ++ List.replicate (3 - (lg_sl ([.ref hv, .int (iZ a), .int (iZ b)])).length) Slot.unset).toArray = ls at hl ⊢
  replace hl : lv_has ls 3 [(0, .ref hv), (1, .int (iZ a)), (2, .int (iZ b))] := hl
  obtain ⟨locs, hLe⟩ : ∃ locs : List Loc, locs = [] := ⟨_, rfl⟩
  rw [← hLe] at hS ⊢
  have hW0 : ∀ {Q : State → Prop} {g : JFrame}, W p l e ({ frames := 2, cells := 0, slots := 0, locals := 42 }) s m [.ref hv, .int (iZ a), .int (iZ b)].toArray below meth c H locs 0 0 Q g → W p l e ({ frames := 2, cells := 0, slots := 0, locals := 42 }) s m [.ref hv, .int (iZ a), .int (iZ b)].toArray below meth c s.heap locs 0 0 Q g := fun h => by rw [← hHe]; exact h
  refine hW0 ?_
  clear hW0 hHe hLe
  refine lv_iload_n hx hb dX6_counted_0 rfl (lv_at hl 1 rfl) ?_
  refine ro_S (As := [.int (iZ a)]) (rest := []) ⟨hx, hb, hml, hown, hts⟩ (c_X6_isMotion l G Y a (by omega)) (cwS 1 hts gX6_counted_X6_isMotion rfl rfl rfl (by decide +kernel) ⟨Nat.le_of_ble_eq_true rfl, Nat.le_of_ble_eq_true rfl⟩) hK (hP.sub (ws' := []) [] rfl) rfl hl.1 rfl (Nat.le_of_ble_eq_true rfl) dX6_counted_1 ⟨Nat.zero_le _, Nat.zero_le _⟩ ?_
  refine z_ifb_eq (tgt := 17) hx hb dX6_counted_4 (by decide) (fun c_1 => ?_) (fun c_1 => ?_)
  · skip
    have c_1 := of_decide_eq_false c_1
    refine z_iconst hx hb dX6_counted_17 ?_
    refine z_top (show (-1) = rCnt n9 a b from ?_) ?_
    · unfold rCnt; (repeat' split) <;> first | rfl | omega | (simp_all; done)
    have ef : fCnt a b = false := decide_eq_false (by omega)
    have hP9 : va_P G vwCl (svO Y hv h7 h hto h3 h4 h5 h6 im ik ++ tlW Y h5 ta tb (bif fCnt a b then tlM M n9 a else M) (bif fCnt a b then tlM T n9 b else T) (bif fCnt a b then tlS n9 else n9)) H := by rw [ef]; exact hP.sub [0, 1, 2, 3] rfl
    exact W.iret (v := iZ (rCnt n9 a b)) hx hb hr (fun t9 ht9 _ => ⟨rfl, by rw [ht9]; exact hP9, hS.F ht9⟩) hS.2.2 dX6_counted_18
  · skip
    have c_1 := of_decide_eq_true c_1
    refine lv_iload_n hx hb dX6_counted_7 rfl (lv_at hl 2 rfl) ?_
    refine z_iconst hx hb dX6_counted_8 ?_
    refine z_bipush hx hb dX6_counted_9 (by decide) ?_
    refine ro_S (As := [.int (iZ b), .int (iZ 0), .int (iZ 28)]) (rest := []) ⟨hx, hb, hml, hown, hts⟩ (c_X6_isWithin l G Y b 0 28 (by omega)) (cwS 3 hts gX6_counted_X6_isWithin rfl rfl rfl (by decide +kernel) ⟨Nat.le_of_ble_eq_true rfl, Nat.le_of_ble_eq_true rfl⟩) hK (hP.sub (ws' := []) [] rfl) rfl hl.1 rfl (Nat.le_of_ble_eq_true rfl) dX6_counted_11 ⟨Nat.zero_le _, Nat.zero_le _⟩ ?_
    refine z_ifb_ne (tgt := 19) hx hb dX6_counted_14 (by decide) (fun c_2 => ?_) (fun c_2 => ?_)
    · skip
      have c_2 := of_decide_eq_true c_2
      refine lv_aload_n hx hb dX6_counted_19 rfl (lv_at hl 0 rfl) ?_
      refine va_get (D := G) (ci := 6) (v := .ref h5) (C := RX6) (T := TX6) (N := 9) hx hb hts hFX6 hown hK.1 hP 0 rfl rfl 5 (by decide) kf43 (fun _ h9 => h9) rfl dX6_counted_20 ?_
      refine lv_iload_n hx hb dX6_counted_23 rfl (lv_at hl 1 rfl) ?_
      refine lv_iload_n hx hb dX6_counted_24 rfl (lv_at hl 2 rfl) ?_
      have hP := hP.sub (ws' := [(h5, .inr (4, [.ref ta, .ref tb, .int (iZ n9)])), (ta, .inl (Y 0, 5, .inl (aI M))), (tb, .inl (Y 0, 5, .inl (aI T)))] ++ [(hv, .inr (6, [.ref h7, .ref h, .ref hto, .ref h3, .ref h4, .ref h5, .ref h6, .ref im, .ref ik]))]) [1, 2, 3, 0] rfl
      have hD := hD.sub (ws' := [(h5, .inr (4, [.ref ta, .ref tb, .int (iZ n9)])), (ta, .inl (Y 0, 5, .inl (aI M))), (tb, .inl (Y 0, 5, .inl (aI T)))] ++ [(hv, .inr (6, [.ref h7, .ref h, .ref hto, .ref h3, .ref h4, .ref h5, .ref h6, .ref im, .ref ik]))]) [1, 2, 3, 0] (by decide) rfl
      refine mu_V (As := [.int (iZ a), .int (iZ b)]) (rest := []) (wc := [(h5, .inr (4, [.ref ta, .ref tb, .int (iZ n9)])), (ta, .inl (Y 0, 5, .inl (aI M))), (tb, .inl (Y 0, 5, .inl (aI T)))]) (wc' := tlW Y h5 ta tb (tlM M n9 a) (tlM T n9 b) (tlS n9)) (F := [(hv, .inr (6, [.ref h7, .ref h, .ref hto, .ref h3, .ref h4, .ref h5, .ref h6, .ref im, .ref ik]))]) ⟨hx, hb, hml, hown, hts⟩ (c_X4_add l G Y h5 ta tb M T n9 a b (by omega)) (cwV 2 hts gX6_counted_X4_add rfl rfl rfl (by decide +kernel) ⟨Nat.le_of_ble_eq_true rfl, Nat.le_of_ble_eq_true rfl⟩) hK hP hD hS 0 rfl rfl (Eq.refl [h5, ta, tb]) rfl hl.1 rfl (Nat.le_of_ble_eq_true rfl) dX6_counted_25 ⟨Nat.zero_le _, Nat.zero_le _⟩ (fun H locs hP hD hS => ?_)
      show W _ _ _ _ _ _ _ _ _ _ _ _ _ _ _ (F0 _ _ _ [.int (iZ (bZ (decide (n9 < 5))))])
      replace hP : va_P G vwCl [(h5, .inr (4, [.ref ta, .ref tb, .int (iZ (tlS n9))])), (ta, .inl (Y 0, 5, .inl (aI (tlM M n9 a)))), (tb, .inl (Y 0, 5, .inl (aI (tlM T n9 b)))), (hv, .inr (6, [.ref h7, .ref h, .ref hto, .ref h3, .ref h4, .ref h5, .ref h6, .ref im, .ref ik]))] H := hP
      replace hD : va_D _ [(h5, .inr (4, [.ref ta, .ref tb, .int (iZ (tlS n9))])), (ta, .inl (Y 0, 5, .inl (aI (tlM M n9 a)))), (tb, .inl (Y 0, 5, .inl (aI (tlM T n9 b)))), (hv, .inr (6, [.ref h7, .ref h, .ref hto, .ref h3, .ref h4, .ref h5, .ref h6, .ref im, .ref ik]))] := hD
      refine z_ifb_eq (tgt := 41) hx hb dX6_counted_28 (by decide) (fun c_3 => ?_) (fun c_3 => ?_)
      · skip
        have c_3 := of_decide_eq_false c_3
        refine z_bipush hx hb dX6_counted_41 (by decide) ?_
        refine z_top (show (-3) = rCnt n9 a b from ?_) ?_
        · unfold rCnt; (repeat' split) <;> omega
        have ef : fCnt a b = true := decide_eq_true (by omega)
        have hP9 : va_P G vwCl (svO Y hv h7 h hto h3 h4 h5 h6 im ik ++ tlW Y h5 ta tb (bif fCnt a b then tlM M n9 a else M) (bif fCnt a b then tlM T n9 b else T) (bif fCnt a b then tlS n9 else n9)) H := by rw [ef]; exact hP.sub [3, 0, 1, 2] rfl
        exact W.iret (v := iZ (rCnt n9 a b)) hx hb hr (fun t9 ht9 _ => ⟨rfl, by rw [ht9]; exact hP9, hS.F ht9⟩) hS.2.2 dX6_counted_43
      · skip
        have c_3 := of_decide_eq_true c_3
        refine lv_aload_n hx hb dX6_counted_31 rfl (lv_at hl 0 rfl) ?_
        refine va_get (D := G) (ci := 6) (v := .ref h5) (C := RX6) (T := TX6) (N := 9) hx hb hts hFX6 hown hK.1 hP 3 rfl rfl 5 (by decide) kf43 (fun _ h9 => h9) rfl dX6_counted_32 ?_
        refine va_get (D := G) (ci := 4) (v := .int (iZ (tlS n9))) (C := RX4) (T := TX4) (N := 3) hx hb hts hFX4 hown hK.1 hP 0 rfl rfl 2 (by decide) kf210 (fun _ h9 => h9) rfl dX6_counted_35 ?_
        refine lv_goto (tgt := 43) hx hb dX6_counted_38 (by decide) ?_
        refine z_top (show tlS n9 = rCnt n9 a b from ?_) ?_
        · unfold rCnt; rw [tlS_t (by omega)]; (repeat' split) <;> omega
        have ef : fCnt a b = true := decide_eq_true (by omega)
        have hP9 : va_P G vwCl (svO Y hv h7 h hto h3 h4 h5 h6 im ik ++ tlW Y h5 ta tb (bif fCnt a b then tlM M n9 a else M) (bif fCnt a b then tlM T n9 b else T) (bif fCnt a b then tlS n9 else n9)) H := by rw [ef]; exact hP.sub [3, 0, 1, 2] rfl
        exact W.iret (v := iZ (rCnt n9 a b)) hx hb hr (fun t9 ht9 _ => ⟨rfl, by rw [ht9]; exact hP9, hS.F ht9⟩) hS.2.2 dX6_counted_43
    · skip
      have c_2 := of_decide_eq_false c_2
      refine z_iconst hx hb dX6_counted_17 ?_
      refine z_top (show (-1) = rCnt n9 a b from ?_) ?_
      · unfold rCnt; (repeat' split) <;> first | rfl | omega | (simp_all; done)
      have ef : fCnt a b = false := decide_eq_false (by omega)
      have hP9 : va_P G vwCl (svO Y hv h7 h hto h3 h4 h5 h6 im ik ++ tlW Y h5 ta tb (bif fCnt a b then tlM M n9 a else M) (bif fCnt a b then tlM T n9 b else T) (bif fCnt a b then tlS n9 else n9)) H := by rw [ef]; exact hP.sub [0, 1, 2, 3] rfl
      exact W.iret (v := iZ (rCnt n9 a b)) hx hb hr (fun t9 ht9 _ => ⟨rfl, by rw [ht9]; exact hP9, hS.F ht9⟩) hS.2.2 dX6_counted_18

set_option maxHeartbeats 4000000 in
set_option maxRecDepth 100000 in
theorem c_X6_forget (l : Launch) (G : va_G) (Y : Nat → ClassId) (hv h7 h hto h3 h4 h5 h6 im ik : Nat) (ta tb : Nat) (M T : Nat → Int) (n9 : Int) : Met l yX6_forget wsX6_forget ({ frames := 1, cells := 0, slots := 0, locals := 21 }) (mP G Y [.ref hv] (svO Y hv h7 h hto h3 h4 h5 h6 im ik ++ (tlW Y h5 ta tb M T n9))) (mQ G (svO Y hv h7 h hto h3 h4 h5 h6 im ik ++ (tlW Y h5 ta tb M T n9)) (some (.int (iZ (n9)))) (svO Y hv h7 h hto h3 h4 h5 h6 im ik ++ tlW Y h5 ta tb M T 0)) 0 0 (fun q => q ∈ List.map Prod.fst (svO Y hv h7 h hto h3 h4 h5 h6 im ik ++ (tlW Y h5 ta tb M T n9))) := by
  refine Met.ofW (cc := cX6_forget) (maxL := 1) (ret := (some .int)) (by decide) rfl ?_
  intro p e s m args below meth c s₁ B hml hv
  obtain ⟨rfl, hK, hP, hD0⟩ := hv
  have hx := B.exec
  have hb := B.bytes
  have hr := B.returns
  have hts := atoms_spec (ws := wsX6_forget) B.pre
  have hown : s.vm.findClass RX6 = some m.cls := findClass_of_methodNamed B.named
  have hlocks := B.notSynchronized
  have hFX6 : ∀ w ∈ wsX60, w ∈ wsX6_forget := by decide +kernel
  have kf43 := (hts (.fieldLink RX6 43 "ShadeVotes" "tally" "LShadeVotes$Tally;") (by decide +kernel))
  have hD := va_D_self hD0
  have hS : va_S (fun q => q ∈ List.map Prod.fst (svO Y hv h7 h hto h3 h4 h5 h6 im ik ++ (tlW Y h5 ta tb M T n9))) s.heap s.heap [] := va_S.rf
  obtain ⟨H, hHe⟩ : ∃ H, H = s.heap := ⟨_, rfl⟩
  rw [← hHe] at hP
  replace hS : va_S (fun q => q ∈ List.map Prod.fst (svO Y hv h7 h hto h3 h4 h5 h6 im ik ++ (tlW Y h5 ta tb M T n9))) s.heap H [] := by rw [hHe]; exact hS
  have hl := lv_entry ([.ref hv]) (n := 1) (Nat.le_of_ble_eq_true rfl)
  rw [lg_entry_eq]
  generalize (lg_sl ([.ref hv]) ++ List.replicate (1 - (lg_sl ([.ref hv])).length) Slot.unset).toArray = ls at hl ⊢
  replace hl : lv_has ls 1 [(0, .ref hv)] := hl
  obtain ⟨locs, hLe⟩ : ∃ locs : List Loc, locs = [] := ⟨_, rfl⟩
  rw [← hLe] at hS ⊢
  have hW0 : ∀ {Q : State → Prop} {g : JFrame}, W p l e ({ frames := 1, cells := 0, slots := 0, locals := 21 }) s m [.ref hv].toArray below meth c H locs 0 0 Q g → W p l e ({ frames := 1, cells := 0, slots := 0, locals := 21 }) s m [.ref hv].toArray below meth c s.heap locs 0 0 Q g := fun h => by rw [← hHe]; exact h
  refine hW0 ?_
  clear hW0 hHe hLe
  refine lv_aload_n hx hb dX6_forget_0 rfl (lv_at hl 0 rfl) ?_
  refine va_get (D := G) (ci := 6) (v := .ref h5) (C := RX6) (T := TX6) (N := 9) hx hb hts hFX6 hown hK.1 hP 0 rfl rfl 5 (by decide) kf43 (fun _ h9 => h9) rfl dX6_forget_1 ?_
  have hP := hP.sub (ws' := [(h5, .inr (4, [.ref ta, .ref tb, .int (iZ n9)])), (ta, .inl (Y 0, 5, .inl (aI M))), (tb, .inl (Y 0, 5, .inl (aI T)))] ++ [(hv, .inr (6, [.ref h7, .ref h, .ref hto, .ref h3, .ref h4, .ref h5, .ref h6, .ref im, .ref ik]))]) [1, 2, 3, 0] rfl
  have hD := hD.sub (ws' := [(h5, .inr (4, [.ref ta, .ref tb, .int (iZ n9)])), (ta, .inl (Y 0, 5, .inl (aI M))), (tb, .inl (Y 0, 5, .inl (aI T)))] ++ [(hv, .inr (6, [.ref h7, .ref h, .ref hto, .ref h3, .ref h4, .ref h5, .ref h6, .ref im, .ref ik]))]) [1, 2, 3, 0] (by decide) rfl
  refine mu_V (As := []) (rest := []) (wc := [(h5, .inr (4, [.ref ta, .ref tb, .int (iZ n9)])), (ta, .inl (Y 0, 5, .inl (aI M))), (tb, .inl (Y 0, 5, .inl (aI T)))]) (wc' := tlW Y h5 ta tb M T 0) (F := [(hv, .inr (6, [.ref h7, .ref h, .ref hto, .ref h3, .ref h4, .ref h5, .ref h6, .ref im, .ref ik]))]) ⟨hx, hb, hml, hown, hts⟩ (c_X4_empty l G Y h5 ta tb M T n9) (cwV 0 hts gX6_forget_X4_empty rfl rfl rfl (by decide +kernel) ⟨Nat.le_of_ble_eq_true rfl, Nat.le_of_ble_eq_true rfl⟩) hK hP hD hS 0 rfl rfl (Eq.refl [h5, ta, tb]) rfl hl.1 rfl (Nat.le_of_ble_eq_true rfl) dX6_forget_4 ⟨Nat.zero_le _, Nat.zero_le _⟩ (fun H locs hP hD hS => ?_)
  show W _ _ _ _ _ _ _ _ _ _ _ _ _ _ _ (F0 _ _ _ [.int (iZ n9)])
  replace hP : va_P G vwCl [(h5, .inr (4, [.ref ta, .ref tb, .int (iZ 0)])), (ta, .inl (Y 0, 5, .inl (aI M))), (tb, .inl (Y 0, 5, .inl (aI T))), (hv, .inr (6, [.ref h7, .ref h, .ref hto, .ref h3, .ref h4, .ref h5, .ref h6, .ref im, .ref ik]))] H := hP
  replace hD : va_D _ [(h5, .inr (4, [.ref ta, .ref tb, .int (iZ 0)])), (ta, .inl (Y 0, 5, .inl (aI M))), (tb, .inl (Y 0, 5, .inl (aI T))), (hv, .inr (6, [.ref h7, .ref h, .ref hto, .ref h3, .ref h4, .ref h5, .ref h6, .ref im, .ref ik]))] := hD
  have hP9 : va_P G vwCl (svO Y hv h7 h hto h3 h4 h5 h6 im ik ++ tlW Y h5 ta tb M T 0) H := hP.sub [3, 0, 1, 2] rfl
  exact W.iret (v := iZ n9) hx hb hr (fun t9 ht9 _ => ⟨rfl, by rw [ht9]; exact hP9, hS.F ht9⟩) hS.2.2 dX6_forget_7

set_option maxHeartbeats 4000000 in
set_option maxRecDepth 100000 in
theorem c_X6_rate (l : Launch) (G : va_G) (Y : Nat → ClassId) (hv h7 h hto h3 h4 h5 h6 im ik : Nat) (tr : Int64) (ad : Nat → Nat) (K : Kom) (hW : cWF K) (a b : Int) (r : zR a ∧ zR b) : Met l yX6_rate wsX6_rate ({ frames := 6, cells := 0, slots := 0, locals := 137 }) (mP G Y [.ref hv, .int (iZ a), .int (iZ b)] (svO Y hv h7 h hto h3 h4 h5 h6 im ik ++ (kiW Y h6 tr ++ cmW Y h ad K))) (mQ G (svO Y hv h7 h hto h3 h4 h5 h6 im ik ++ (kiW Y h6 tr ++ cmW Y h ad K)) (some (.int (iZ (rRate K a b)))) (svO Y hv h7 h hto h3 h4 h5 h6 im ik ++ (kiW Y h6 (tRate tr K a b) ++ cmW Y h ad K))) 0 0 (fun q => q ∈ List.map Prod.fst (svO Y hv h7 h hto h3 h4 h5 h6 im ik ++ (kiW Y h6 tr ++ cmW Y h ad K))) := by
  refine Met.ofW (cc := cX6_rate) (maxL := 3) (ret := (some .int)) (by decide) rfl ?_
  intro p e s m args below meth c s₁ B hml hv
  obtain ⟨rfl, hK, hP, hD0⟩ := hv
  have hx := B.exec
  have hb := B.bytes
  have hr := B.returns
  have hts := atoms_spec (ws := wsX6_rate) B.pre
  have hown : s.vm.findClass RX6 = some m.cls := findClass_of_methodNamed B.named
  have hlocks := B.notSynchronized
  have hFX6 : ∀ w ∈ wsX60, w ∈ wsX6_rate := by decide +kernel
  have kf19 := (hts (.fieldLink RX6 19 "ShadeVotes" "present" "LShadeVotes$Commune;") (by decide +kernel))
  have kf50 := (hts (.fieldLink RX6 50 "ShadeVotes" "kinds" "LShadeVotes$Kinds;") (by decide +kernel))
  have hD := va_D_self hD0
  have hS : va_S (fun q => q ∈ List.map Prod.fst (svO Y hv h7 h hto h3 h4 h5 h6 im ik ++ (kiW Y h6 tr ++ cmW Y h ad K))) s.heap s.heap [] := va_S.rf
  obtain ⟨H, hHe⟩ : ∃ H, H = s.heap := ⟨_, rfl⟩
  rw [← hHe] at hP
  replace hS : va_S (fun q => q ∈ List.map Prod.fst (svO Y hv h7 h hto h3 h4 h5 h6 im ik ++ (kiW Y h6 tr ++ cmW Y h ad K))) s.heap H [] := by rw [hHe]; exact hS
  have hl := lv_entry ([.ref hv, .int (iZ a), .int (iZ b)]) (n := 3) (Nat.le_of_ble_eq_true rfl)
  rw [lg_entry_eq]
  generalize (lg_sl ([.ref hv, .int (iZ a), .int (iZ b)]) ++ List.replicate (3 - (lg_sl ([.ref hv, .int (iZ a), .int (iZ b)])).length) Slot.unset).toArray = ls at hl ⊢
  replace hl : lv_has ls 3 [(0, .ref hv), (1, .int (iZ a)), (2, .int (iZ b))] := hl
  obtain ⟨locs, hLe⟩ : ∃ locs : List Loc, locs = [] := ⟨_, rfl⟩
  rw [← hLe] at hS ⊢
  have hW0 : ∀ {Q : State → Prop} {g : JFrame}, W p l e ({ frames := 6, cells := 0, slots := 0, locals := 137 }) s m [.ref hv, .int (iZ a), .int (iZ b)].toArray below meth c H locs 0 0 Q g → W p l e ({ frames := 6, cells := 0, slots := 0, locals := 137 }) s m [.ref hv, .int (iZ a), .int (iZ b)].toArray below meth c s.heap locs 0 0 Q g := fun h => by rw [← hHe]; exact h
  refine hW0 ?_
  clear hW0 hHe hLe
  have h0 := hW.1
  have hnc := hW.nc
  refine lv_aload_n hx hb dX6_rate_0 rfl (lv_at hl 0 rfl) ?_
  refine va_get (D := G) (ci := 6) (v := .ref h) (C := RX6) (T := TX6) (N := 9) hx hb hts hFX6 hown hK.1 hP 0 rfl rfl 1 (by decide) kf19 (fun _ h9 => h9) rfl dX6_rate_1 ?_
  refine lv_iload_n hx hb dX6_rate_4 rfl (lv_at hl 2 rfl) ?_
  refine ro_V (As := [.int (iZ b)]) (rest := []) ⟨hx, hb, hml, hown, hts⟩ (c_X0_hasTree l G Y h ad K hW b (by omega)) (cwV 1 hts gX6_rate_X0_hasTree rfl rfl rfl (by decide +kernel) ⟨Nat.le_of_ble_eq_true rfl, Nat.le_of_ble_eq_true rfl⟩) hK (hP.sub (ws' := cmW Y h ad K) [2, 3, 4, 5, 6, 7, 8, 9] rfl) 0 rfl rfl rfl hl.1 rfl (Nat.le_of_ble_eq_true rfl) dX6_rate_5 ⟨Nat.zero_le _, Nat.zero_le _⟩ ?_
  refine z_ifb_eq (tgt := 27) hx hb dX6_rate_8 (by decide) (fun c_1 => ?_) (fun c_1 => ?_)
  · skip
    have c_1 := of_decide_eq_false c_1
    refine lv_ldc (v := iZ (-1000000)) hx hb hown (hts (.constant RX6 240 (-1000000)) (by decide +kernel)) dX6_rate_27 ?_
    refine z_top (show (-1000000) = rRate K a b from ?_) ?_
    · unfold rRate; rw [if_neg (by omega)]
    have ef : tRate tr K a b = tr := by unfold tRate; rw [decide_eq_false (show ¬ (0 ≤ b ∧ b ≤ K 0 2 - 1) by omega)]; rfl
    have hP9 : va_P G vwCl (svO Y hv h7 h hto h3 h4 h5 h6 im ik ++ (kiW Y h6 (tRate tr K a b) ++ cmW Y h ad K)) H := by rw [ef]; exact hP.sub [0, 1, 2, 3, 4, 5, 6, 7, 8, 9] rfl
    exact W.iret (v := iZ (rRate K a b)) hx hb hr (fun t9 ht9 _ => ⟨rfl, by rw [ht9]; exact hP9, hS.F ht9⟩) hS.2.2 dX6_rate_29
  · skip
    have c_1 := of_decide_eq_true c_1
    obtain ⟨t9, ht9⟩ : ∃ t9 : Nat, b = ((t9 : Nat) : Int) := ⟨b.toNat, by omega⟩
    have ht9t : b.toNat = t9 := by omega
    rw [ht9] at hl
    refine lv_aload_n hx hb dX6_rate_11 rfl (lv_at hl 0 rfl) ?_
    refine va_get (D := G) (ci := 6) (v := .ref h6) (C := RX6) (T := TX6) (N := 9) hx hb hts hFX6 hown hK.1 hP 0 rfl rfl 6 (by decide) kf50 (fun _ h9 => h9) rfl dX6_rate_12 ?_
    refine lv_iload_n hx hb dX6_rate_15 rfl (lv_at hl 1 rfl) ?_
    refine lv_aload_n hx hb dX6_rate_16 rfl (lv_at hl 0 rfl) ?_
    refine va_get (D := G) (ci := 6) (v := .ref h) (C := RX6) (T := TX6) (N := 9) hx hb hts hFX6 hown hK.1 hP 0 rfl rfl 1 (by decide) kf19 (fun _ h9 => h9) rfl dX6_rate_17 ?_
    refine lv_iload_n hx hb dX6_rate_20 rfl (lv_at hl 2 rfl) ?_
    have hP := hP.sub (ws' := [(h6, .inr (1, [.long tr])), (h, .inr (0, [.int (iZ (K 0 0)), .int (iZ (K 0 1)), .int (iZ (K 0 2)), .int (iZ (K 0 3)), .int (iZ (K 0 4)), .int (iZ (K 0 5)), .int (iZ (K 0 6)), .ref (ad 1), .ref (ad 2), .ref (ad 3), .ref (ad 4), .ref (ad 5), .ref (ad 6), .ref (ad 7)])), (ad 1, .inl (Y 0, 6, .inl (aI (K 1)))), (ad 2, .inl (Y 0, 6, .inl (aI (K 2)))), (ad 3, .inl (Y 0, 6, .inl (aI (K 3)))), (ad 4, .inl (Y 1, 6, .inl (aI (K 4)))), (ad 5, .inl (Y 1, 6, .inl (aI (K 5)))), (ad 6, .inl (Y 0, 7, .inl (aI (K 6)))), (ad 7, .inl (Y 0, 7, .inl (aI (K 7))))] ++ [(hv, .inr (6, [.ref h7, .ref h, .ref hto, .ref h3, .ref h4, .ref h5, .ref h6, .ref im, .ref ik]))]) [1, 2, 3, 4, 5, 6, 7, 8, 9, 0] rfl
    have hD := hD.sub (ws' := [(h6, .inr (1, [.long tr])), (h, .inr (0, [.int (iZ (K 0 0)), .int (iZ (K 0 1)), .int (iZ (K 0 2)), .int (iZ (K 0 3)), .int (iZ (K 0 4)), .int (iZ (K 0 5)), .int (iZ (K 0 6)), .ref (ad 1), .ref (ad 2), .ref (ad 3), .ref (ad 4), .ref (ad 5), .ref (ad 6), .ref (ad 7)])), (ad 1, .inl (Y 0, 6, .inl (aI (K 1)))), (ad 2, .inl (Y 0, 6, .inl (aI (K 2)))), (ad 3, .inl (Y 0, 6, .inl (aI (K 3)))), (ad 4, .inl (Y 1, 6, .inl (aI (K 4)))), (ad 5, .inl (Y 1, 6, .inl (aI (K 5)))), (ad 6, .inl (Y 0, 7, .inl (aI (K 6)))), (ad 7, .inl (Y 0, 7, .inl (aI (K 7))))] ++ [(hv, .inr (6, [.ref h7, .ref h, .ref hto, .ref h3, .ref h4, .ref h5, .ref h6, .ref im, .ref ik]))]) [1, 2, 3, 4, 5, 6, 7, 8, 9, 0] (by decide) rfl
    refine mu_V (As := [.int (iZ a), .ref h, .int (iZ ((t9 : Nat) : Int))]) (rest := []) (wc := [(h6, .inr (1, [.long tr])), (h, .inr (0, [.int (iZ (K 0 0)), .int (iZ (K 0 1)), .int (iZ (K 0 2)), .int (iZ (K 0 3)), .int (iZ (K 0 4)), .int (iZ (K 0 5)), .int (iZ (K 0 6)), .ref (ad 1), .ref (ad 2), .ref (ad 3), .ref (ad 4), .ref (ad 5), .ref (ad 6), .ref (ad 7)])), (ad 1, .inl (Y 0, 6, .inl (aI (K 1)))), (ad 2, .inl (Y 0, 6, .inl (aI (K 2)))), (ad 3, .inl (Y 0, 6, .inl (aI (K 3)))), (ad 4, .inl (Y 1, 6, .inl (aI (K 4)))), (ad 5, .inl (Y 1, 6, .inl (aI (K 5)))), (ad 6, .inl (Y 0, 7, .inl (aI (K 6)))), (ad 7, .inl (Y 0, 7, .inl (aI (K 7))))]) (wc' := kiW Y h6 (raT tr a) ++ cmW Y h ad K) (F := [(hv, .inr (6, [.ref h7, .ref h, .ref hto, .ref h3, .ref h4, .ref h5, .ref h6, .ref im, .ref ik]))]) ⟨hx, hb, hml, hown, hts⟩ (c_X1_rateAs l G Y h6 tr h ad K hW t9 (by omega) a (by omega)) (cwV 3 hts gX6_rate_X1_rateAs rfl rfl rfl (by decide +kernel) ⟨Nat.le_of_ble_eq_true rfl, Nat.le_of_ble_eq_true rfl⟩) hK hP hD hS 0 rfl rfl (Eq.refl [h6, h, ad 1, ad 2, ad 3, ad 4, ad 5, ad 6, ad 7]) rfl hl.1 rfl (Nat.le_of_ble_eq_true rfl) dX6_rate_21 ⟨Nat.zero_le _, Nat.zero_le _⟩ (fun H locs hP hD hS => ?_)
    show W _ _ _ _ _ _ _ _ _ _ _ _ _ _ _ (F0 _ _ _ [.int (iZ (raR K a t9))])
    replace hP : va_P G vwCl [(h6, .inr (1, [.long (raT tr a)])), (h, .inr (0, [.int (iZ (K 0 0)), .int (iZ (K 0 1)), .int (iZ (K 0 2)), .int (iZ (K 0 3)), .int (iZ (K 0 4)), .int (iZ (K 0 5)), .int (iZ (K 0 6)), .ref (ad 1), .ref (ad 2), .ref (ad 3), .ref (ad 4), .ref (ad 5), .ref (ad 6), .ref (ad 7)])), (ad 1, .inl (Y 0, 6, .inl (aI (K 1)))), (ad 2, .inl (Y 0, 6, .inl (aI (K 2)))), (ad 3, .inl (Y 0, 6, .inl (aI (K 3)))), (ad 4, .inl (Y 1, 6, .inl (aI (K 4)))), (ad 5, .inl (Y 1, 6, .inl (aI (K 5)))), (ad 6, .inl (Y 0, 7, .inl (aI (K 6)))), (ad 7, .inl (Y 0, 7, .inl (aI (K 7)))), (hv, .inr (6, [.ref h7, .ref h, .ref hto, .ref h3, .ref h4, .ref h5, .ref h6, .ref im, .ref ik]))] H := hP
    replace hD : va_D _ [(h6, .inr (1, [.long (raT tr a)])), (h, .inr (0, [.int (iZ (K 0 0)), .int (iZ (K 0 1)), .int (iZ (K 0 2)), .int (iZ (K 0 3)), .int (iZ (K 0 4)), .int (iZ (K 0 5)), .int (iZ (K 0 6)), .ref (ad 1), .ref (ad 2), .ref (ad 3), .ref (ad 4), .ref (ad 5), .ref (ad 6), .ref (ad 7)])), (ad 1, .inl (Y 0, 6, .inl (aI (K 1)))), (ad 2, .inl (Y 0, 6, .inl (aI (K 2)))), (ad 3, .inl (Y 0, 6, .inl (aI (K 3)))), (ad 4, .inl (Y 1, 6, .inl (aI (K 4)))), (ad 5, .inl (Y 1, 6, .inl (aI (K 5)))), (ad 6, .inl (Y 0, 7, .inl (aI (K 6)))), (ad 7, .inl (Y 0, 7, .inl (aI (K 7)))), (hv, .inr (6, [.ref h7, .ref h, .ref hto, .ref h3, .ref h4, .ref h5, .ref h6, .ref im, .ref ik]))] := hD
    refine lv_goto (tgt := 29) hx hb dX6_rate_24 (by decide) ?_
    refine z_top (show raR K a t9 = rRate K a b from ?_) ?_
    · unfold rRate; rw [ht9t, if_pos (by omega)]
    have ef : tRate tr K a b = raT tr a := by unfold tRate; rw [decide_eq_true (show (0 ≤ b ∧ b ≤ K 0 2 - 1) by omega)]; rfl
    have hP9 : va_P G vwCl (svO Y hv h7 h hto h3 h4 h5 h6 im ik ++ (kiW Y h6 (tRate tr K a b) ++ cmW Y h ad K)) H := by rw [ef]; exact hP.sub [9, 0, 1, 2, 3, 4, 5, 6, 7, 8] rfl
    exact W.iret (v := iZ (rRate K a b)) hx hb hr (fun t9 ht9 _ => ⟨rfl, by rw [ht9]; exact hP9, hS.F ht9⟩) hS.2.2 dX6_rate_29

set_option maxHeartbeats 4000000 in
set_option maxRecDepth 100000 in
theorem c_X6_keep (l : Launch) (G : va_G) (Y : Nat → ClassId) (hv h7 h hto h3 h4 h5 h6 im ik : Nat) (hi : Nat → Nat) (kp : Nat → Int) (ix : Nat) (adi : Nat → Nat) (Ki : Kom) (ad : Nat → Nat) (K : Kom) (hW : cWF K) (a : Int) (r : zR a ∧ (0 ≤ a ∧ a ≤ 1 → a = (ix : Int)) ∧ ix < 2) : Met l yX6_keep wsX6_keep ({ frames := 1, cells := 0, slots := 0, locals := 22 }) (mP G Y [.ref hv, .int (iZ a)] (svO Y hv h7 h hto h3 h4 h5 h6 im ik ++ (imW Y im hi ++ (ikW Y ik kp ++ (cmW Y (hi ix) adi Ki ++ cmW Y h ad K))))) (mQ G (svO Y hv h7 h hto h3 h4 h5 h6 im ik ++ (imW Y im hi ++ (ikW Y ik kp ++ (cmW Y (hi ix) adi Ki ++ cmW Y h ad K)))) (some (.int (iZ (rKeep K a)))) (svO Y hv h7 h hto h3 h4 h5 h6 im ik ++ (imW Y im hi ++ (ikW Y ik (bif fImg a then va_up kp a.toNat 1 else kp) ++ (cmW Y (hi ix) adi (bif fImg a then K else Ki) ++ cmW Y h ad K))))) 0 0 (fun q => q ∈ List.map Prod.fst (svO Y hv h7 h hto h3 h4 h5 h6 im ik ++ (imW Y im hi ++ (ikW Y ik kp ++ (cmW Y (hi ix) adi Ki ++ cmW Y h ad K))))) := by
  refine Met.ofW (cc := cX6_keep) (maxL := 2) (ret := (some .int)) (by decide) rfl ?_
  intro p e s m args below meth c s₁ B hml hv
  obtain ⟨rfl, hK, hP, hD0⟩ := hv
  have hx := B.exec
  have hb := B.bytes
  have hr := B.returns
  have hts := atoms_spec (ws := wsX6_keep) B.pre
  have hown : s.vm.findClass RX6 = some m.cls := findClass_of_methodNamed B.named
  have hlocks := B.notSynchronized
  have hFX0 : ∀ w ∈ wsX00, w ∈ wsX6_keep := by decide +kernel
  have hFX6 : ∀ w ∈ wsX60, w ∈ wsX6_keep := by decide +kernel
  have kf54 := (hts (.fieldLink RX6 54 "ShadeVotes" "images" "[LShadeVotes$Commune;") (by decide +kernel))
  have kf19 := (hts (.fieldLink RX6 19 "ShadeVotes" "present" "LShadeVotes$Commune;") (by decide +kernel))
  have kf58 := (hts (.fieldLink RX6 58 "ShadeVotes" "isKept" "[Z") (by decide +kernel))
  have kf139 := (hts (.fieldLink RX6 139 "ShadeVotes$Commune" "day" "I") (by decide +kernel))
  have hD := va_D_self hD0
  have hS : va_S (fun q => q ∈ List.map Prod.fst (svO Y hv h7 h hto h3 h4 h5 h6 im ik ++ (imW Y im hi ++ (ikW Y ik kp ++ (cmW Y (hi ix) adi Ki ++ cmW Y h ad K))))) s.heap s.heap [] := va_S.rf
  obtain ⟨H, hHe⟩ : ∃ H, H = s.heap := ⟨_, rfl⟩
  rw [← hHe] at hP
  replace hS : va_S (fun q => q ∈ List.map Prod.fst (svO Y hv h7 h hto h3 h4 h5 h6 im ik ++ (imW Y im hi ++ (ikW Y ik kp ++ (cmW Y (hi ix) adi Ki ++ cmW Y h ad K))))) s.heap H [] := by rw [hHe]; exact hS
  have hl := lv_entry ([.ref hv, .int (iZ a)]) (n := 2) (Nat.le_of_ble_eq_true rfl)
  rw [lg_entry_eq]
  generalize (lg_sl ([.ref hv, .int (iZ a)]) ++ List.replicate (2 - (lg_sl ([.ref hv, .int (iZ a)])).length) Slot.unset).toArray = ls at hl ⊢
  replace hl : lv_has ls 2 [(0, .ref hv), (1, .int (iZ a))] := hl
  obtain ⟨locs, hLe⟩ : ∃ locs : List Loc, locs = [] := ⟨_, rfl⟩
  rw [← hLe] at hS ⊢
  have hW0 : ∀ {Q : State → Prop} {g : JFrame}, W p l e ({ frames := 1, cells := 0, slots := 0, locals := 22 }) s m [.ref hv, .int (iZ a)].toArray below meth c H locs 0 0 Q g → W p l e ({ frames := 1, cells := 0, slots := 0, locals := 22 }) s m [.ref hv, .int (iZ a)].toArray below meth c s.heap locs 0 0 Q g := fun h => by rw [← hHe]; exact h
  refine hW0 ?_
  clear hW0 hHe hLe
  have h0 := hW.1
  have hnc := hW.nc
  refine lv_iload_n hx hb dX6_keep_0 rfl (lv_at hl 1 rfl) ?_
  refine z_iconst hx hb dX6_keep_1 ?_
  refine z_iconst hx hb dX6_keep_2 ?_
  refine ro_S (As := [.int (iZ a), .int (iZ 0), .int (iZ 1)]) (rest := []) ⟨hx, hb, hml, hown, hts⟩ (c_X6_isWithin l G Y a 0 1 (by omega)) (cwS 3 hts gX6_keep_X6_isWithin rfl rfl rfl (by decide +kernel) ⟨Nat.le_of_ble_eq_true rfl, Nat.le_of_ble_eq_true rfl⟩) hK (hP.sub (ws' := []) [] rfl) rfl hl.1 rfl (Nat.le_of_ble_eq_true rfl) dX6_keep_3 ⟨Nat.zero_le _, Nat.zero_le _⟩ ?_
  refine z_ifb_ne (tgt := 11) hx hb dX6_keep_6 (by decide) (fun c_1 => ?_) (fun c_1 => ?_)
  · skip
    have c_1 := of_decide_eq_true c_1
    refine lv_aload_n hx hb dX6_keep_11 rfl (lv_at hl 0 rfl) ?_
    refine va_get (D := G) (ci := 6) (v := .ref im) (C := RX6) (T := TX6) (N := 9) hx hb hts hFX6 hown hK.1 hP 0 rfl rfl 7 (by decide) kf54 (fun _ h9 => h9) rfl dX6_keep_12 ?_
    refine lv_iload_n hx hb dX6_keep_15 rfl (lv_at hl 1 rfl) ?_
    refine z_aald (hk := hi) hx hb hK.1 hP 1 3 rfl rfl ix (by omega) (by decide) dX6_keep_16 ?_
    refine lv_aload_n hx hb dX6_keep_17 rfl (lv_at hl 0 rfl) ?_
    refine va_get (D := G) (ci := 6) (v := .ref h) (C := RX6) (T := TX6) (N := 9) hx hb hts hFX6 hown hK.1 hP 0 rfl rfl 1 (by decide) kf19 (fun _ h9 => h9) rfl dX6_keep_18 ?_
    have hP := hP.sub (ws' := [(hi ix, .inr (0, [.int (iZ (Ki 0 0)), .int (iZ (Ki 0 1)), .int (iZ (Ki 0 2)), .int (iZ (Ki 0 3)), .int (iZ (Ki 0 4)), .int (iZ (Ki 0 5)), .int (iZ (Ki 0 6)), .ref (adi 1), .ref (adi 2), .ref (adi 3), .ref (adi 4), .ref (adi 5), .ref (adi 6), .ref (adi 7)])), (adi 1, .inl (Y 0, 6, .inl (aI (Ki 1)))), (adi 2, .inl (Y 0, 6, .inl (aI (Ki 2)))), (adi 3, .inl (Y 0, 6, .inl (aI (Ki 3)))), (adi 4, .inl (Y 1, 6, .inl (aI (Ki 4)))), (adi 5, .inl (Y 1, 6, .inl (aI (Ki 5)))), (adi 6, .inl (Y 0, 7, .inl (aI (Ki 6)))), (adi 7, .inl (Y 0, 7, .inl (aI (Ki 7)))), (h, .inr (0, [.int (iZ (K 0 0)), .int (iZ (K 0 1)), .int (iZ (K 0 2)), .int (iZ (K 0 3)), .int (iZ (K 0 4)), .int (iZ (K 0 5)), .int (iZ (K 0 6)), .ref (ad 1), .ref (ad 2), .ref (ad 3), .ref (ad 4), .ref (ad 5), .ref (ad 6), .ref (ad 7)])), (ad 1, .inl (Y 0, 6, .inl (aI (K 1)))), (ad 2, .inl (Y 0, 6, .inl (aI (K 2)))), (ad 3, .inl (Y 0, 6, .inl (aI (K 3)))), (ad 4, .inl (Y 1, 6, .inl (aI (K 4)))), (ad 5, .inl (Y 1, 6, .inl (aI (K 5)))), (ad 6, .inl (Y 0, 7, .inl (aI (K 6)))), (ad 7, .inl (Y 0, 7, .inl (aI (K 7))))] ++ [(hv, .inr (6, [.ref h7, .ref h, .ref hto, .ref h3, .ref h4, .ref h5, .ref h6, .ref im, .ref ik])), (im, .inl (Y 3, 2, .inr (.inr (.inr (.inr (aR hi)))))), (ik, .inl (Y 1, 2, .inl (aI kp)))]) [3, 4, 5, 6, 7, 8, 9, 10, 11, 12, 13, 14, 15, 16, 17, 18, 0, 1, 2] rfl
    have hD := hD.sub (ws' := [(hi ix, .inr (0, [.int (iZ (Ki 0 0)), .int (iZ (Ki 0 1)), .int (iZ (Ki 0 2)), .int (iZ (Ki 0 3)), .int (iZ (Ki 0 4)), .int (iZ (Ki 0 5)), .int (iZ (Ki 0 6)), .ref (adi 1), .ref (adi 2), .ref (adi 3), .ref (adi 4), .ref (adi 5), .ref (adi 6), .ref (adi 7)])), (adi 1, .inl (Y 0, 6, .inl (aI (Ki 1)))), (adi 2, .inl (Y 0, 6, .inl (aI (Ki 2)))), (adi 3, .inl (Y 0, 6, .inl (aI (Ki 3)))), (adi 4, .inl (Y 1, 6, .inl (aI (Ki 4)))), (adi 5, .inl (Y 1, 6, .inl (aI (Ki 5)))), (adi 6, .inl (Y 0, 7, .inl (aI (Ki 6)))), (adi 7, .inl (Y 0, 7, .inl (aI (Ki 7)))), (h, .inr (0, [.int (iZ (K 0 0)), .int (iZ (K 0 1)), .int (iZ (K 0 2)), .int (iZ (K 0 3)), .int (iZ (K 0 4)), .int (iZ (K 0 5)), .int (iZ (K 0 6)), .ref (ad 1), .ref (ad 2), .ref (ad 3), .ref (ad 4), .ref (ad 5), .ref (ad 6), .ref (ad 7)])), (ad 1, .inl (Y 0, 6, .inl (aI (K 1)))), (ad 2, .inl (Y 0, 6, .inl (aI (K 2)))), (ad 3, .inl (Y 0, 6, .inl (aI (K 3)))), (ad 4, .inl (Y 1, 6, .inl (aI (K 4)))), (ad 5, .inl (Y 1, 6, .inl (aI (K 5)))), (ad 6, .inl (Y 0, 7, .inl (aI (K 6)))), (ad 7, .inl (Y 0, 7, .inl (aI (K 7))))] ++ [(hv, .inr (6, [.ref h7, .ref h, .ref hto, .ref h3, .ref h4, .ref h5, .ref h6, .ref im, .ref ik])), (im, .inl (Y 3, 2, .inr (.inr (.inr (.inr (aR hi)))))), (ik, .inl (Y 1, 2, .inl (aI kp)))]) [3, 4, 5, 6, 7, 8, 9, 10, 11, 12, 13, 14, 15, 16, 17, 18, 0, 1, 2] (by decide) rfl
    refine mu_V (As := [.ref h]) (rest := []) (wc := [(hi ix, .inr (0, [.int (iZ (Ki 0 0)), .int (iZ (Ki 0 1)), .int (iZ (Ki 0 2)), .int (iZ (Ki 0 3)), .int (iZ (Ki 0 4)), .int (iZ (Ki 0 5)), .int (iZ (Ki 0 6)), .ref (adi 1), .ref (adi 2), .ref (adi 3), .ref (adi 4), .ref (adi 5), .ref (adi 6), .ref (adi 7)])), (adi 1, .inl (Y 0, 6, .inl (aI (Ki 1)))), (adi 2, .inl (Y 0, 6, .inl (aI (Ki 2)))), (adi 3, .inl (Y 0, 6, .inl (aI (Ki 3)))), (adi 4, .inl (Y 1, 6, .inl (aI (Ki 4)))), (adi 5, .inl (Y 1, 6, .inl (aI (Ki 5)))), (adi 6, .inl (Y 0, 7, .inl (aI (Ki 6)))), (adi 7, .inl (Y 0, 7, .inl (aI (Ki 7)))), (h, .inr (0, [.int (iZ (K 0 0)), .int (iZ (K 0 1)), .int (iZ (K 0 2)), .int (iZ (K 0 3)), .int (iZ (K 0 4)), .int (iZ (K 0 5)), .int (iZ (K 0 6)), .ref (ad 1), .ref (ad 2), .ref (ad 3), .ref (ad 4), .ref (ad 5), .ref (ad 6), .ref (ad 7)])), (ad 1, .inl (Y 0, 6, .inl (aI (K 1)))), (ad 2, .inl (Y 0, 6, .inl (aI (K 2)))), (ad 3, .inl (Y 0, 6, .inl (aI (K 3)))), (ad 4, .inl (Y 1, 6, .inl (aI (K 4)))), (ad 5, .inl (Y 1, 6, .inl (aI (K 5)))), (ad 6, .inl (Y 0, 7, .inl (aI (K 6)))), (ad 7, .inl (Y 0, 7, .inl (aI (K 7))))]) (wc' := cmW Y (hi ix) adi K ++ cmW Y h ad K) (F := [(hv, .inr (6, [.ref h7, .ref h, .ref hto, .ref h3, .ref h4, .ref h5, .ref h6, .ref im, .ref ik])), (im, .inl (Y 3, 2, .inr (.inr (.inr (.inr (aR hi)))))), (ik, .inl (Y 1, 2, .inl (aI kp)))]) ⟨hx, hb, hml, hown, hts⟩ (c_X0_become l G Y (hi ix) h adi ad Ki K hW) (cwV 1 hts gX6_keep_X0_become rfl rfl rfl (by decide +kernel) ⟨Nat.le_of_ble_eq_true rfl, Nat.le_of_ble_eq_true rfl⟩) hK hP hD hS 0 rfl rfl (Eq.refl [hi ix, adi 1, adi 2, adi 3, adi 4, adi 5, adi 6, adi 7, h, ad 1, ad 2, ad 3, ad 4, ad 5, ad 6, ad 7]) rfl hl.1 rfl (Nat.le_of_ble_eq_true rfl) dX6_keep_21 ⟨Nat.zero_le _, Nat.zero_le _⟩ (fun H locs hP hD hS => ?_)
    show W _ _ _ _ _ _ _ _ _ _ _ _ _ _ _ (F0 _ _ _ [])
    replace hP : va_P G vwCl [(hi ix, .inr (0, [.int (iZ (K 0 0)), .int (iZ (K 0 1)), .int (iZ (K 0 2)), .int (iZ (K 0 3)), .int (iZ (K 0 4)), .int (iZ (K 0 5)), .int (iZ (K 0 6)), .ref (adi 1), .ref (adi 2), .ref (adi 3), .ref (adi 4), .ref (adi 5), .ref (adi 6), .ref (adi 7)])), (adi 1, .inl (Y 0, 6, .inl (aI (K 1)))), (adi 2, .inl (Y 0, 6, .inl (aI (K 2)))), (adi 3, .inl (Y 0, 6, .inl (aI (K 3)))), (adi 4, .inl (Y 1, 6, .inl (aI (K 4)))), (adi 5, .inl (Y 1, 6, .inl (aI (K 5)))), (adi 6, .inl (Y 0, 7, .inl (aI (K 6)))), (adi 7, .inl (Y 0, 7, .inl (aI (K 7)))), (h, .inr (0, [.int (iZ (K 0 0)), .int (iZ (K 0 1)), .int (iZ (K 0 2)), .int (iZ (K 0 3)), .int (iZ (K 0 4)), .int (iZ (K 0 5)), .int (iZ (K 0 6)), .ref (ad 1), .ref (ad 2), .ref (ad 3), .ref (ad 4), .ref (ad 5), .ref (ad 6), .ref (ad 7)])), (ad 1, .inl (Y 0, 6, .inl (aI (K 1)))), (ad 2, .inl (Y 0, 6, .inl (aI (K 2)))), (ad 3, .inl (Y 0, 6, .inl (aI (K 3)))), (ad 4, .inl (Y 1, 6, .inl (aI (K 4)))), (ad 5, .inl (Y 1, 6, .inl (aI (K 5)))), (ad 6, .inl (Y 0, 7, .inl (aI (K 6)))), (ad 7, .inl (Y 0, 7, .inl (aI (K 7)))), (hv, .inr (6, [.ref h7, .ref h, .ref hto, .ref h3, .ref h4, .ref h5, .ref h6, .ref im, .ref ik])), (im, .inl (Y 3, 2, .inr (.inr (.inr (.inr (aR hi)))))), (ik, .inl (Y 1, 2, .inl (aI kp)))] H := hP
    replace hD : va_D _ [(hi ix, .inr (0, [.int (iZ (K 0 0)), .int (iZ (K 0 1)), .int (iZ (K 0 2)), .int (iZ (K 0 3)), .int (iZ (K 0 4)), .int (iZ (K 0 5)), .int (iZ (K 0 6)), .ref (adi 1), .ref (adi 2), .ref (adi 3), .ref (adi 4), .ref (adi 5), .ref (adi 6), .ref (adi 7)])), (adi 1, .inl (Y 0, 6, .inl (aI (K 1)))), (adi 2, .inl (Y 0, 6, .inl (aI (K 2)))), (adi 3, .inl (Y 0, 6, .inl (aI (K 3)))), (adi 4, .inl (Y 1, 6, .inl (aI (K 4)))), (adi 5, .inl (Y 1, 6, .inl (aI (K 5)))), (adi 6, .inl (Y 0, 7, .inl (aI (K 6)))), (adi 7, .inl (Y 0, 7, .inl (aI (K 7)))), (h, .inr (0, [.int (iZ (K 0 0)), .int (iZ (K 0 1)), .int (iZ (K 0 2)), .int (iZ (K 0 3)), .int (iZ (K 0 4)), .int (iZ (K 0 5)), .int (iZ (K 0 6)), .ref (ad 1), .ref (ad 2), .ref (ad 3), .ref (ad 4), .ref (ad 5), .ref (ad 6), .ref (ad 7)])), (ad 1, .inl (Y 0, 6, .inl (aI (K 1)))), (ad 2, .inl (Y 0, 6, .inl (aI (K 2)))), (ad 3, .inl (Y 0, 6, .inl (aI (K 3)))), (ad 4, .inl (Y 1, 6, .inl (aI (K 4)))), (ad 5, .inl (Y 1, 6, .inl (aI (K 5)))), (ad 6, .inl (Y 0, 7, .inl (aI (K 6)))), (ad 7, .inl (Y 0, 7, .inl (aI (K 7)))), (hv, .inr (6, [.ref h7, .ref h, .ref hto, .ref h3, .ref h4, .ref h5, .ref h6, .ref im, .ref ik])), (im, .inl (Y 3, 2, .inr (.inr (.inr (.inr (aR hi)))))), (ik, .inl (Y 1, 2, .inl (aI kp)))] := hD
    refine lv_aload_n hx hb dX6_keep_24 rfl (lv_at hl 0 rfl) ?_
    refine va_get (D := G) (ci := 6) (v := .ref ik) (C := RX6) (T := TX6) (N := 9) hx hb hts hFX6 hown hK.1 hP 16 rfl rfl 8 (by decide) kf58 (fun _ h9 => h9) rfl dX6_keep_25 ?_
    refine lv_iload_n hx hb dX6_keep_28 rfl (lv_at hl 1 rfl) ?_
    refine z_iconst hx hb dX6_keep_29 ?_
    refine z_zast hx hb hK.1 hP hD hS 18 1 rfl rfl ((a).toNat) (by omega) (by decide) (by omega) dX6_keep_30 (fun H locs hP hD hS => ?_)
    replace hP : va_P G vwCl [(hi ix, .inr (0, [.int (iZ (K 0 0)), .int (iZ (K 0 1)), .int (iZ (K 0 2)), .int (iZ (K 0 3)), .int (iZ (K 0 4)), .int (iZ (K 0 5)), .int (iZ (K 0 6)), .ref (adi 1), .ref (adi 2), .ref (adi 3), .ref (adi 4), .ref (adi 5), .ref (adi 6), .ref (adi 7)])), (adi 1, .inl (Y 0, 6, .inl (aI (K 1)))), (adi 2, .inl (Y 0, 6, .inl (aI (K 2)))), (adi 3, .inl (Y 0, 6, .inl (aI (K 3)))), (adi 4, .inl (Y 1, 6, .inl (aI (K 4)))), (adi 5, .inl (Y 1, 6, .inl (aI (K 5)))), (adi 6, .inl (Y 0, 7, .inl (aI (K 6)))), (adi 7, .inl (Y 0, 7, .inl (aI (K 7)))), (h, .inr (0, [.int (iZ (K 0 0)), .int (iZ (K 0 1)), .int (iZ (K 0 2)), .int (iZ (K 0 3)), .int (iZ (K 0 4)), .int (iZ (K 0 5)), .int (iZ (K 0 6)), .ref (ad 1), .ref (ad 2), .ref (ad 3), .ref (ad 4), .ref (ad 5), .ref (ad 6), .ref (ad 7)])), (ad 1, .inl (Y 0, 6, .inl (aI (K 1)))), (ad 2, .inl (Y 0, 6, .inl (aI (K 2)))), (ad 3, .inl (Y 0, 6, .inl (aI (K 3)))), (ad 4, .inl (Y 1, 6, .inl (aI (K 4)))), (ad 5, .inl (Y 1, 6, .inl (aI (K 5)))), (ad 6, .inl (Y 0, 7, .inl (aI (K 6)))), (ad 7, .inl (Y 0, 7, .inl (aI (K 7)))), (hv, .inr (6, [.ref h7, .ref h, .ref hto, .ref h3, .ref h4, .ref h5, .ref h6, .ref im, .ref ik])), (im, .inl (Y 3, 2, .inr (.inr (.inr (.inr (aR hi)))))), (ik, .inl (Y 1, 2, .inl (aI (va_up kp ((a).toNat) 1))))] H := hP
    replace hD : va_D _ [(hi ix, .inr (0, [.int (iZ (K 0 0)), .int (iZ (K 0 1)), .int (iZ (K 0 2)), .int (iZ (K 0 3)), .int (iZ (K 0 4)), .int (iZ (K 0 5)), .int (iZ (K 0 6)), .ref (adi 1), .ref (adi 2), .ref (adi 3), .ref (adi 4), .ref (adi 5), .ref (adi 6), .ref (adi 7)])), (adi 1, .inl (Y 0, 6, .inl (aI (K 1)))), (adi 2, .inl (Y 0, 6, .inl (aI (K 2)))), (adi 3, .inl (Y 0, 6, .inl (aI (K 3)))), (adi 4, .inl (Y 1, 6, .inl (aI (K 4)))), (adi 5, .inl (Y 1, 6, .inl (aI (K 5)))), (adi 6, .inl (Y 0, 7, .inl (aI (K 6)))), (adi 7, .inl (Y 0, 7, .inl (aI (K 7)))), (h, .inr (0, [.int (iZ (K 0 0)), .int (iZ (K 0 1)), .int (iZ (K 0 2)), .int (iZ (K 0 3)), .int (iZ (K 0 4)), .int (iZ (K 0 5)), .int (iZ (K 0 6)), .ref (ad 1), .ref (ad 2), .ref (ad 3), .ref (ad 4), .ref (ad 5), .ref (ad 6), .ref (ad 7)])), (ad 1, .inl (Y 0, 6, .inl (aI (K 1)))), (ad 2, .inl (Y 0, 6, .inl (aI (K 2)))), (ad 3, .inl (Y 0, 6, .inl (aI (K 3)))), (ad 4, .inl (Y 1, 6, .inl (aI (K 4)))), (ad 5, .inl (Y 1, 6, .inl (aI (K 5)))), (ad 6, .inl (Y 0, 7, .inl (aI (K 6)))), (ad 7, .inl (Y 0, 7, .inl (aI (K 7)))), (hv, .inr (6, [.ref h7, .ref h, .ref hto, .ref h3, .ref h4, .ref h5, .ref h6, .ref im, .ref ik])), (im, .inl (Y 3, 2, .inr (.inr (.inr (.inr (aR hi)))))), (ik, .inl (Y 1, 2, .inl (aI (va_up kp ((a).toNat) 1))))] := hD
    refine lv_aload_n hx hb dX6_keep_31 rfl (lv_at hl 0 rfl) ?_
    refine va_get (D := G) (ci := 6) (v := .ref h) (C := RX6) (T := TX6) (N := 9) hx hb hts hFX6 hown hK.1 hP 16 rfl rfl 1 (by decide) kf19 (fun _ h9 => h9) rfl dX6_keep_32 ?_
    refine va_get (D := G) (ci := 0) (v := .int (iZ (K 0 5))) (C := RX0) (T := TX0) (N := 14) hx hb hts hFX0 hown hK.1 hP 8 rfl rfl 5 (by decide) kf139 (fun _ h9 => h9) rfl dX6_keep_35 ?_
    refine z_top (show K 0 5 = rKeep K a from ?_) ?_
    · unfold rKeep; (repeat' split) <;> first | rfl | omega | (simp_all; done)
    have ef : fImg a = true := decide_eq_true (by omega)
    have hP9 : va_P G vwCl (svO Y hv h7 h hto h3 h4 h5 h6 im ik ++ (imW Y im hi ++ (ikW Y ik (bif fImg a then va_up kp a.toNat 1 else kp) ++ (cmW Y (hi ix) adi (bif fImg a then K else Ki) ++ cmW Y h ad K)))) H := by rw [ef]; exact hP.sub [16, 17, 18, 0, 1, 2, 3, 4, 5, 6, 7, 8, 9, 10, 11, 12, 13, 14, 15] rfl
    exact W.iret (v := iZ (rKeep K a)) hx hb hr (fun t9 ht9 _ => ⟨rfl, by rw [ht9]; exact hP9, hS.F ht9⟩) hS.2.2 dX6_keep_38
  · skip
    have c_1 := of_decide_eq_false c_1
    refine z_iconst hx hb dX6_keep_9 ?_
    refine z_top (show (-1) = rKeep K a from ?_) ?_
    · unfold rKeep; (repeat' split) <;> first | rfl | omega | (simp_all; done)
    have ef : fImg a = false := decide_eq_false (by omega)
    have hP9 : va_P G vwCl (svO Y hv h7 h hto h3 h4 h5 h6 im ik ++ (imW Y im hi ++ (ikW Y ik (bif fImg a then va_up kp a.toNat 1 else kp) ++ (cmW Y (hi ix) adi (bif fImg a then K else Ki) ++ cmW Y h ad K)))) H := by rw [ef]; exact hP.sub [0, 1, 2, 3, 4, 5, 6, 7, 8, 9, 10, 11, 12, 13, 14, 15, 16, 17, 18] rfl
    exact W.iret (v := iZ (rKeep K a)) hx hb hr (fun t9 ht9 _ => ⟨rfl, by rw [ht9]; exact hP9, hS.F ht9⟩) hS.2.2 dX6_keep_10

set_option maxHeartbeats 4000000 in
set_option maxRecDepth 100000 in
theorem c_X6_back (l : Launch) (G : va_G) (Y : Nat → ClassId) (hv h7 h hto h3 h4 h5 h6 im ik : Nat) (hi : Nat → Nat) (kp : Nat → Int) (ix : Nat) (adi : Nat → Nat) (Ki : Kom) (ad : Nat → Nat) (K : Kom) (kn : Nat) (hk : Nat → Nat) (nx sz : Int) (a : Int) (hkp : ∀ j : Nat, j < 2 → 0 ≤ kp j ∧ kp j ≤ 1) (hWi : (0 ≤ a ∧ a ≤ 1) → kp a.toNat ≠ 0 → cWF Ki) (r : zR a ∧ (0 ≤ a ∧ a ≤ 1 → a = (ix : Int)) ∧ ix < 2) : Met l yX6_back wsX6_back ({ frames := 1, cells := 0, slots := 0, locals := 22 }) (mP G Y [.ref hv, .int (iZ a)] (svO Y hv h7 h hto h3 h4 h5 h6 im ik ++ (imW Y im hi ++ (ikW Y ik kp ++ (cmW Y (hi ix) adi Ki ++ (cmW Y h ad K ++ paW Y h3 kn hk nx sz)))))) (mQ G (svO Y hv h7 h hto h3 h4 h5 h6 im ik ++ (imW Y im hi ++ (ikW Y ik kp ++ (cmW Y (hi ix) adi Ki ++ (cmW Y h ad K ++ paW Y h3 kn hk nx sz))))) (some (.int (iZ (rBack kp Ki a)))) (svO Y hv h7 h hto h3 h4 h5 h6 im ik ++ (imW Y im hi ++ (ikW Y ik kp ++ (cmW Y (hi ix) adi Ki ++ (cmW Y h ad (bif fBack kp a then Ki else K) ++ paW Y h3 kn hk nx (bif fBack kp a then 0 else sz))))))) 0 0 (fun q => q ∈ List.map Prod.fst (svO Y hv h7 h hto h3 h4 h5 h6 im ik ++ (imW Y im hi ++ (ikW Y ik kp ++ (cmW Y (hi ix) adi Ki ++ (cmW Y h ad K ++ paW Y h3 kn hk nx sz)))))) := by
  refine Met.ofW (cc := cX6_back) (maxL := 2) (ret := (some .int)) (by decide) rfl ?_
  intro p e s m args below meth c s₁ B hml hv
  obtain ⟨rfl, hK, hP, hD0⟩ := hv
  have hx := B.exec
  have hb := B.bytes
  have hr := B.returns
  have hts := atoms_spec (ws := wsX6_back) B.pre
  have hown : s.vm.findClass RX6 = some m.cls := findClass_of_methodNamed B.named
  have hlocks := B.notSynchronized
  have hFX0 : ∀ w ∈ wsX00, w ∈ wsX6_back := by decide +kernel
  have hFX6 : ∀ w ∈ wsX60, w ∈ wsX6_back := by decide +kernel
  have kf58 := (hts (.fieldLink RX6 58 "ShadeVotes" "isKept" "[Z") (by decide +kernel))
  have kf19 := (hts (.fieldLink RX6 19 "ShadeVotes" "present" "LShadeVotes$Commune;") (by decide +kernel))
  have kf54 := (hts (.fieldLink RX6 54 "ShadeVotes" "images" "[LShadeVotes$Commune;") (by decide +kernel))
  have kf29 := (hts (.fieldLink RX6 29 "ShadeVotes" "past" "LShadeVotes$Past;") (by decide +kernel))
  have kf139 := (hts (.fieldLink RX6 139 "ShadeVotes$Commune" "day" "I") (by decide +kernel))
  have hD := va_D_self hD0
  have hS : va_S (fun q => q ∈ List.map Prod.fst (svO Y hv h7 h hto h3 h4 h5 h6 im ik ++ (imW Y im hi ++ (ikW Y ik kp ++ (cmW Y (hi ix) adi Ki ++ (cmW Y h ad K ++ paW Y h3 kn hk nx sz)))))) s.heap s.heap [] := va_S.rf
  obtain ⟨H, hHe⟩ : ∃ H, H = s.heap := ⟨_, rfl⟩
  rw [← hHe] at hP
  replace hS : va_S (fun q => q ∈ List.map Prod.fst (svO Y hv h7 h hto h3 h4 h5 h6 im ik ++ (imW Y im hi ++ (ikW Y ik kp ++ (cmW Y (hi ix) adi Ki ++ (cmW Y h ad K ++ paW Y h3 kn hk nx sz)))))) s.heap H [] := by rw [hHe]; exact hS
  have hl := lv_entry ([.ref hv, .int (iZ a)]) (n := 2) (Nat.le_of_ble_eq_true rfl)
  rw [lg_entry_eq]
  generalize (lg_sl ([.ref hv, .int (iZ a)]) ++ List.replicate (2 - (lg_sl ([.ref hv, .int (iZ a)])).length) Slot.unset).toArray = ls at hl ⊢
  replace hl : lv_has ls 2 [(0, .ref hv), (1, .int (iZ a))] := hl
  obtain ⟨locs, hLe⟩ : ∃ locs : List Loc, locs = [] := ⟨_, rfl⟩
  rw [← hLe] at hS ⊢
  have hW0 : ∀ {Q : State → Prop} {g : JFrame}, W p l e ({ frames := 1, cells := 0, slots := 0, locals := 22 }) s m [.ref hv, .int (iZ a)].toArray below meth c H locs 0 0 Q g → W p l e ({ frames := 1, cells := 0, slots := 0, locals := 22 }) s m [.ref hv, .int (iZ a)].toArray below meth c s.heap locs 0 0 Q g := fun h => by rw [← hHe]; exact h
  refine hW0 ?_
  clear hW0 hHe hLe
  refine lv_iload_n hx hb dX6_back_0 rfl (lv_at hl 1 rfl) ?_
  refine z_iconst hx hb dX6_back_1 ?_
  refine z_iconst hx hb dX6_back_2 ?_
  refine ro_S (As := [.int (iZ a), .int (iZ 0), .int (iZ 1)]) (rest := []) ⟨hx, hb, hml, hown, hts⟩ (c_X6_isWithin l G Y a 0 1 (by omega)) (cwS 3 hts gX6_back_X6_isWithin rfl rfl rfl (by decide +kernel) ⟨Nat.le_of_ble_eq_true rfl, Nat.le_of_ble_eq_true rfl⟩) hK (hP.sub (ws' := []) [] rfl) rfl hl.1 rfl (Nat.le_of_ble_eq_true rfl) dX6_back_3 ⟨Nat.zero_le _, Nat.zero_le _⟩ ?_
  refine z_ifb_ne (tgt := 11) hx hb dX6_back_6 (by decide) (fun c_1 => ?_) (fun c_1 => ?_)
  · skip
    have c_1 := of_decide_eq_true c_1
    refine lv_aload_n hx hb dX6_back_11 rfl (lv_at hl 0 rfl) ?_
    refine va_get (D := G) (ci := 6) (v := .ref ik) (C := RX6) (T := TX6) (N := 9) hx hb hts hFX6 hown hK.1 hP 0 rfl rfl 8 (by decide) kf58 (fun _ h9 => h9) rfl dX6_back_12 ?_
    refine lv_iload_n hx hb dX6_back_15 rfl (lv_at hl 1 rfl) ?_
    refine z_zald hx hb hK.1 hP 2 1 rfl rfl ((a).toNat) (by omega) (by decide) dX6_back_16 ?_
    have hk9 := hkp ((a).toNat) (by omega)
    refine z_if_ne (tgt := 23) hx hb dX6_back_17 (by decide) (by omega) (fun c_2 => ?_) (fun c_2 => ?_)
    · skip
      refine lv_aload_n hx hb dX6_back_23 rfl (lv_at hl 0 rfl) ?_
      refine va_get (D := G) (ci := 6) (v := .ref h) (C := RX6) (T := TX6) (N := 9) hx hb hts hFX6 hown hK.1 hP 0 rfl rfl 1 (by decide) kf19 (fun _ h9 => h9) rfl dX6_back_24 ?_
      refine lv_aload_n hx hb dX6_back_27 rfl (lv_at hl 0 rfl) ?_
      refine va_get (D := G) (ci := 6) (v := .ref im) (C := RX6) (T := TX6) (N := 9) hx hb hts hFX6 hown hK.1 hP 0 rfl rfl 7 (by decide) kf54 (fun _ h9 => h9) rfl dX6_back_28 ?_
      refine lv_iload_n hx hb dX6_back_31 rfl (lv_at hl 1 rfl) ?_
      refine z_aald (hk := hi) hx hb hK.1 hP 1 3 rfl rfl ix (by omega) (by decide) dX6_back_32 ?_
      have hP := hP.sub (ws' := [(h, .inr (0, [.int (iZ (K 0 0)), .int (iZ (K 0 1)), .int (iZ (K 0 2)), .int (iZ (K 0 3)), .int (iZ (K 0 4)), .int (iZ (K 0 5)), .int (iZ (K 0 6)), .ref (ad 1), .ref (ad 2), .ref (ad 3), .ref (ad 4), .ref (ad 5), .ref (ad 6), .ref (ad 7)])), (ad 1, .inl (Y 0, 6, .inl (aI (K 1)))), (ad 2, .inl (Y 0, 6, .inl (aI (K 2)))), (ad 3, .inl (Y 0, 6, .inl (aI (K 3)))), (ad 4, .inl (Y 1, 6, .inl (aI (K 4)))), (ad 5, .inl (Y 1, 6, .inl (aI (K 5)))), (ad 6, .inl (Y 0, 7, .inl (aI (K 6)))), (ad 7, .inl (Y 0, 7, .inl (aI (K 7)))), (hi ix, .inr (0, [.int (iZ (Ki 0 0)), .int (iZ (Ki 0 1)), .int (iZ (Ki 0 2)), .int (iZ (Ki 0 3)), .int (iZ (Ki 0 4)), .int (iZ (Ki 0 5)), .int (iZ (Ki 0 6)), .ref (adi 1), .ref (adi 2), .ref (adi 3), .ref (adi 4), .ref (adi 5), .ref (adi 6), .ref (adi 7)])), (adi 1, .inl (Y 0, 6, .inl (aI (Ki 1)))), (adi 2, .inl (Y 0, 6, .inl (aI (Ki 2)))), (adi 3, .inl (Y 0, 6, .inl (aI (Ki 3)))), (adi 4, .inl (Y 1, 6, .inl (aI (Ki 4)))), (adi 5, .inl (Y 1, 6, .inl (aI (Ki 5)))), (adi 6, .inl (Y 0, 7, .inl (aI (Ki 6)))), (adi 7, .inl (Y 0, 7, .inl (aI (Ki 7))))] ++ [(hv, .inr (6, [.ref h7, .ref h, .ref hto, .ref h3, .ref h4, .ref h5, .ref h6, .ref im, .ref ik])), (im, .inl (Y 3, 2, .inr (.inr (.inr (.inr (aR hi)))))), (ik, .inl (Y 1, 2, .inl (aI kp))), (h3, .inr (2, [.ref kn, .int (iZ nx), .int (iZ sz)])), (kn, .inl (Y 3, 10, .inr (.inr (.inr (.inr (aR hk))))))]) [11, 12, 13, 14, 15, 16, 17, 18, 3, 4, 5, 6, 7, 8, 9, 10, 0, 1, 2, 19, 20] rfl
      have hD := hD.sub (ws' := [(h, .inr (0, [.int (iZ (K 0 0)), .int (iZ (K 0 1)), .int (iZ (K 0 2)), .int (iZ (K 0 3)), .int (iZ (K 0 4)), .int (iZ (K 0 5)), .int (iZ (K 0 6)), .ref (ad 1), .ref (ad 2), .ref (ad 3), .ref (ad 4), .ref (ad 5), .ref (ad 6), .ref (ad 7)])), (ad 1, .inl (Y 0, 6, .inl (aI (K 1)))), (ad 2, .inl (Y 0, 6, .inl (aI (K 2)))), (ad 3, .inl (Y 0, 6, .inl (aI (K 3)))), (ad 4, .inl (Y 1, 6, .inl (aI (K 4)))), (ad 5, .inl (Y 1, 6, .inl (aI (K 5)))), (ad 6, .inl (Y 0, 7, .inl (aI (K 6)))), (ad 7, .inl (Y 0, 7, .inl (aI (K 7)))), (hi ix, .inr (0, [.int (iZ (Ki 0 0)), .int (iZ (Ki 0 1)), .int (iZ (Ki 0 2)), .int (iZ (Ki 0 3)), .int (iZ (Ki 0 4)), .int (iZ (Ki 0 5)), .int (iZ (Ki 0 6)), .ref (adi 1), .ref (adi 2), .ref (adi 3), .ref (adi 4), .ref (adi 5), .ref (adi 6), .ref (adi 7)])), (adi 1, .inl (Y 0, 6, .inl (aI (Ki 1)))), (adi 2, .inl (Y 0, 6, .inl (aI (Ki 2)))), (adi 3, .inl (Y 0, 6, .inl (aI (Ki 3)))), (adi 4, .inl (Y 1, 6, .inl (aI (Ki 4)))), (adi 5, .inl (Y 1, 6, .inl (aI (Ki 5)))), (adi 6, .inl (Y 0, 7, .inl (aI (Ki 6)))), (adi 7, .inl (Y 0, 7, .inl (aI (Ki 7))))] ++ [(hv, .inr (6, [.ref h7, .ref h, .ref hto, .ref h3, .ref h4, .ref h5, .ref h6, .ref im, .ref ik])), (im, .inl (Y 3, 2, .inr (.inr (.inr (.inr (aR hi)))))), (ik, .inl (Y 1, 2, .inl (aI kp))), (h3, .inr (2, [.ref kn, .int (iZ nx), .int (iZ sz)])), (kn, .inl (Y 3, 10, .inr (.inr (.inr (.inr (aR hk))))))]) [11, 12, 13, 14, 15, 16, 17, 18, 3, 4, 5, 6, 7, 8, 9, 10, 0, 1, 2, 19, 20] (by decide) rfl
      refine mu_V (As := [.ref (hi ix)]) (rest := []) (wc := [(h, .inr (0, [.int (iZ (K 0 0)), .int (iZ (K 0 1)), .int (iZ (K 0 2)), .int (iZ (K 0 3)), .int (iZ (K 0 4)), .int (iZ (K 0 5)), .int (iZ (K 0 6)), .ref (ad 1), .ref (ad 2), .ref (ad 3), .ref (ad 4), .ref (ad 5), .ref (ad 6), .ref (ad 7)])), (ad 1, .inl (Y 0, 6, .inl (aI (K 1)))), (ad 2, .inl (Y 0, 6, .inl (aI (K 2)))), (ad 3, .inl (Y 0, 6, .inl (aI (K 3)))), (ad 4, .inl (Y 1, 6, .inl (aI (K 4)))), (ad 5, .inl (Y 1, 6, .inl (aI (K 5)))), (ad 6, .inl (Y 0, 7, .inl (aI (K 6)))), (ad 7, .inl (Y 0, 7, .inl (aI (K 7)))), (hi ix, .inr (0, [.int (iZ (Ki 0 0)), .int (iZ (Ki 0 1)), .int (iZ (Ki 0 2)), .int (iZ (Ki 0 3)), .int (iZ (Ki 0 4)), .int (iZ (Ki 0 5)), .int (iZ (Ki 0 6)), .ref (adi 1), .ref (adi 2), .ref (adi 3), .ref (adi 4), .ref (adi 5), .ref (adi 6), .ref (adi 7)])), (adi 1, .inl (Y 0, 6, .inl (aI (Ki 1)))), (adi 2, .inl (Y 0, 6, .inl (aI (Ki 2)))), (adi 3, .inl (Y 0, 6, .inl (aI (Ki 3)))), (adi 4, .inl (Y 1, 6, .inl (aI (Ki 4)))), (adi 5, .inl (Y 1, 6, .inl (aI (Ki 5)))), (adi 6, .inl (Y 0, 7, .inl (aI (Ki 6)))), (adi 7, .inl (Y 0, 7, .inl (aI (Ki 7))))]) (wc' := cmW Y h ad Ki ++ cmW Y (hi ix) adi Ki) (F := [(hv, .inr (6, [.ref h7, .ref h, .ref hto, .ref h3, .ref h4, .ref h5, .ref h6, .ref im, .ref ik])), (im, .inl (Y 3, 2, .inr (.inr (.inr (.inr (aR hi)))))), (ik, .inl (Y 1, 2, .inl (aI kp))), (h3, .inr (2, [.ref kn, .int (iZ nx), .int (iZ sz)])), (kn, .inl (Y 3, 10, .inr (.inr (.inr (.inr (aR hk))))))]) ⟨hx, hb, hml, hown, hts⟩ (c_X0_become l G Y h (hi ix) ad adi K Ki (hWi (by omega) (by assumption))) (cwV 1 hts gX6_back_X0_become rfl rfl rfl (by decide +kernel) ⟨Nat.le_of_ble_eq_true rfl, Nat.le_of_ble_eq_true rfl⟩) hK hP hD hS 0 rfl rfl (Eq.refl [h, ad 1, ad 2, ad 3, ad 4, ad 5, ad 6, ad 7, hi ix, adi 1, adi 2, adi 3, adi 4, adi 5, adi 6, adi 7]) rfl hl.1 rfl (Nat.le_of_ble_eq_true rfl) dX6_back_33 ⟨Nat.zero_le _, Nat.zero_le _⟩ (fun H locs hP hD hS => ?_)
      show W _ _ _ _ _ _ _ _ _ _ _ _ _ _ _ (F0 _ _ _ [])
      replace hP : va_P G vwCl [(h, .inr (0, [.int (iZ (Ki 0 0)), .int (iZ (Ki 0 1)), .int (iZ (Ki 0 2)), .int (iZ (Ki 0 3)), .int (iZ (Ki 0 4)), .int (iZ (Ki 0 5)), .int (iZ (Ki 0 6)), .ref (ad 1), .ref (ad 2), .ref (ad 3), .ref (ad 4), .ref (ad 5), .ref (ad 6), .ref (ad 7)])), (ad 1, .inl (Y 0, 6, .inl (aI (Ki 1)))), (ad 2, .inl (Y 0, 6, .inl (aI (Ki 2)))), (ad 3, .inl (Y 0, 6, .inl (aI (Ki 3)))), (ad 4, .inl (Y 1, 6, .inl (aI (Ki 4)))), (ad 5, .inl (Y 1, 6, .inl (aI (Ki 5)))), (ad 6, .inl (Y 0, 7, .inl (aI (Ki 6)))), (ad 7, .inl (Y 0, 7, .inl (aI (Ki 7)))), (hi ix, .inr (0, [.int (iZ (Ki 0 0)), .int (iZ (Ki 0 1)), .int (iZ (Ki 0 2)), .int (iZ (Ki 0 3)), .int (iZ (Ki 0 4)), .int (iZ (Ki 0 5)), .int (iZ (Ki 0 6)), .ref (adi 1), .ref (adi 2), .ref (adi 3), .ref (adi 4), .ref (adi 5), .ref (adi 6), .ref (adi 7)])), (adi 1, .inl (Y 0, 6, .inl (aI (Ki 1)))), (adi 2, .inl (Y 0, 6, .inl (aI (Ki 2)))), (adi 3, .inl (Y 0, 6, .inl (aI (Ki 3)))), (adi 4, .inl (Y 1, 6, .inl (aI (Ki 4)))), (adi 5, .inl (Y 1, 6, .inl (aI (Ki 5)))), (adi 6, .inl (Y 0, 7, .inl (aI (Ki 6)))), (adi 7, .inl (Y 0, 7, .inl (aI (Ki 7)))), (hv, .inr (6, [.ref h7, .ref h, .ref hto, .ref h3, .ref h4, .ref h5, .ref h6, .ref im, .ref ik])), (im, .inl (Y 3, 2, .inr (.inr (.inr (.inr (aR hi)))))), (ik, .inl (Y 1, 2, .inl (aI kp))), (h3, .inr (2, [.ref kn, .int (iZ nx), .int (iZ sz)])), (kn, .inl (Y 3, 10, .inr (.inr (.inr (.inr (aR hk))))))] H := hP
      replace hD : va_D _ [(h, .inr (0, [.int (iZ (Ki 0 0)), .int (iZ (Ki 0 1)), .int (iZ (Ki 0 2)), .int (iZ (Ki 0 3)), .int (iZ (Ki 0 4)), .int (iZ (Ki 0 5)), .int (iZ (Ki 0 6)), .ref (ad 1), .ref (ad 2), .ref (ad 3), .ref (ad 4), .ref (ad 5), .ref (ad 6), .ref (ad 7)])), (ad 1, .inl (Y 0, 6, .inl (aI (Ki 1)))), (ad 2, .inl (Y 0, 6, .inl (aI (Ki 2)))), (ad 3, .inl (Y 0, 6, .inl (aI (Ki 3)))), (ad 4, .inl (Y 1, 6, .inl (aI (Ki 4)))), (ad 5, .inl (Y 1, 6, .inl (aI (Ki 5)))), (ad 6, .inl (Y 0, 7, .inl (aI (Ki 6)))), (ad 7, .inl (Y 0, 7, .inl (aI (Ki 7)))), (hi ix, .inr (0, [.int (iZ (Ki 0 0)), .int (iZ (Ki 0 1)), .int (iZ (Ki 0 2)), .int (iZ (Ki 0 3)), .int (iZ (Ki 0 4)), .int (iZ (Ki 0 5)), .int (iZ (Ki 0 6)), .ref (adi 1), .ref (adi 2), .ref (adi 3), .ref (adi 4), .ref (adi 5), .ref (adi 6), .ref (adi 7)])), (adi 1, .inl (Y 0, 6, .inl (aI (Ki 1)))), (adi 2, .inl (Y 0, 6, .inl (aI (Ki 2)))), (adi 3, .inl (Y 0, 6, .inl (aI (Ki 3)))), (adi 4, .inl (Y 1, 6, .inl (aI (Ki 4)))), (adi 5, .inl (Y 1, 6, .inl (aI (Ki 5)))), (adi 6, .inl (Y 0, 7, .inl (aI (Ki 6)))), (adi 7, .inl (Y 0, 7, .inl (aI (Ki 7)))), (hv, .inr (6, [.ref h7, .ref h, .ref hto, .ref h3, .ref h4, .ref h5, .ref h6, .ref im, .ref ik])), (im, .inl (Y 3, 2, .inr (.inr (.inr (.inr (aR hi)))))), (ik, .inl (Y 1, 2, .inl (aI kp))), (h3, .inr (2, [.ref kn, .int (iZ nx), .int (iZ sz)])), (kn, .inl (Y 3, 10, .inr (.inr (.inr (.inr (aR hk))))))] := hD
      refine lv_aload_n hx hb dX6_back_36 rfl (lv_at hl 0 rfl) ?_
      refine va_get (D := G) (ci := 6) (v := .ref h3) (C := RX6) (T := TX6) (N := 9) hx hb hts hFX6 hown hK.1 hP 16 rfl rfl 3 (by decide) kf29 (fun _ h9 => h9) rfl dX6_back_37 ?_
      have hP := hP.sub (ws' := [(h3, .inr (2, [.ref kn, .int (iZ nx), .int (iZ sz)])), (kn, .inl (Y 3, 10, .inr (.inr (.inr (.inr (aR hk))))))] ++ [(h, .inr (0, [.int (iZ (Ki 0 0)), .int (iZ (Ki 0 1)), .int (iZ (Ki 0 2)), .int (iZ (Ki 0 3)), .int (iZ (Ki 0 4)), .int (iZ (Ki 0 5)), .int (iZ (Ki 0 6)), .ref (ad 1), .ref (ad 2), .ref (ad 3), .ref (ad 4), .ref (ad 5), .ref (ad 6), .ref (ad 7)])), (ad 1, .inl (Y 0, 6, .inl (aI (Ki 1)))), (ad 2, .inl (Y 0, 6, .inl (aI (Ki 2)))), (ad 3, .inl (Y 0, 6, .inl (aI (Ki 3)))), (ad 4, .inl (Y 1, 6, .inl (aI (Ki 4)))), (ad 5, .inl (Y 1, 6, .inl (aI (Ki 5)))), (ad 6, .inl (Y 0, 7, .inl (aI (Ki 6)))), (ad 7, .inl (Y 0, 7, .inl (aI (Ki 7)))), (hi ix, .inr (0, [.int (iZ (Ki 0 0)), .int (iZ (Ki 0 1)), .int (iZ (Ki 0 2)), .int (iZ (Ki 0 3)), .int (iZ (Ki 0 4)), .int (iZ (Ki 0 5)), .int (iZ (Ki 0 6)), .ref (adi 1), .ref (adi 2), .ref (adi 3), .ref (adi 4), .ref (adi 5), .ref (adi 6), .ref (adi 7)])), (adi 1, .inl (Y 0, 6, .inl (aI (Ki 1)))), (adi 2, .inl (Y 0, 6, .inl (aI (Ki 2)))), (adi 3, .inl (Y 0, 6, .inl (aI (Ki 3)))), (adi 4, .inl (Y 1, 6, .inl (aI (Ki 4)))), (adi 5, .inl (Y 1, 6, .inl (aI (Ki 5)))), (adi 6, .inl (Y 0, 7, .inl (aI (Ki 6)))), (adi 7, .inl (Y 0, 7, .inl (aI (Ki 7)))), (hv, .inr (6, [.ref h7, .ref h, .ref hto, .ref h3, .ref h4, .ref h5, .ref h6, .ref im, .ref ik])), (im, .inl (Y 3, 2, .inr (.inr (.inr (.inr (aR hi)))))), (ik, .inl (Y 1, 2, .inl (aI kp)))]) [19, 20, 0, 1, 2, 3, 4, 5, 6, 7, 8, 9, 10, 11, 12, 13, 14, 15, 16, 17, 18] rfl
      have hD := hD.sub (ws' := [(h3, .inr (2, [.ref kn, .int (iZ nx), .int (iZ sz)])), (kn, .inl (Y 3, 10, .inr (.inr (.inr (.inr (aR hk))))))] ++ [(h, .inr (0, [.int (iZ (Ki 0 0)), .int (iZ (Ki 0 1)), .int (iZ (Ki 0 2)), .int (iZ (Ki 0 3)), .int (iZ (Ki 0 4)), .int (iZ (Ki 0 5)), .int (iZ (Ki 0 6)), .ref (ad 1), .ref (ad 2), .ref (ad 3), .ref (ad 4), .ref (ad 5), .ref (ad 6), .ref (ad 7)])), (ad 1, .inl (Y 0, 6, .inl (aI (Ki 1)))), (ad 2, .inl (Y 0, 6, .inl (aI (Ki 2)))), (ad 3, .inl (Y 0, 6, .inl (aI (Ki 3)))), (ad 4, .inl (Y 1, 6, .inl (aI (Ki 4)))), (ad 5, .inl (Y 1, 6, .inl (aI (Ki 5)))), (ad 6, .inl (Y 0, 7, .inl (aI (Ki 6)))), (ad 7, .inl (Y 0, 7, .inl (aI (Ki 7)))), (hi ix, .inr (0, [.int (iZ (Ki 0 0)), .int (iZ (Ki 0 1)), .int (iZ (Ki 0 2)), .int (iZ (Ki 0 3)), .int (iZ (Ki 0 4)), .int (iZ (Ki 0 5)), .int (iZ (Ki 0 6)), .ref (adi 1), .ref (adi 2), .ref (adi 3), .ref (adi 4), .ref (adi 5), .ref (adi 6), .ref (adi 7)])), (adi 1, .inl (Y 0, 6, .inl (aI (Ki 1)))), (adi 2, .inl (Y 0, 6, .inl (aI (Ki 2)))), (adi 3, .inl (Y 0, 6, .inl (aI (Ki 3)))), (adi 4, .inl (Y 1, 6, .inl (aI (Ki 4)))), (adi 5, .inl (Y 1, 6, .inl (aI (Ki 5)))), (adi 6, .inl (Y 0, 7, .inl (aI (Ki 6)))), (adi 7, .inl (Y 0, 7, .inl (aI (Ki 7)))), (hv, .inr (6, [.ref h7, .ref h, .ref hto, .ref h3, .ref h4, .ref h5, .ref h6, .ref im, .ref ik])), (im, .inl (Y 3, 2, .inr (.inr (.inr (.inr (aR hi)))))), (ik, .inl (Y 1, 2, .inl (aI kp)))]) [19, 20, 0, 1, 2, 3, 4, 5, 6, 7, 8, 9, 10, 11, 12, 13, 14, 15, 16, 17, 18] (by decide) rfl
      refine mu_V (As := []) (rest := []) (wc := [(h3, .inr (2, [.ref kn, .int (iZ nx), .int (iZ sz)])), (kn, .inl (Y 3, 10, .inr (.inr (.inr (.inr (aR hk))))))]) (wc' := paW Y h3 kn hk nx 0) (F := [(h, .inr (0, [.int (iZ (Ki 0 0)), .int (iZ (Ki 0 1)), .int (iZ (Ki 0 2)), .int (iZ (Ki 0 3)), .int (iZ (Ki 0 4)), .int (iZ (Ki 0 5)), .int (iZ (Ki 0 6)), .ref (ad 1), .ref (ad 2), .ref (ad 3), .ref (ad 4), .ref (ad 5), .ref (ad 6), .ref (ad 7)])), (ad 1, .inl (Y 0, 6, .inl (aI (Ki 1)))), (ad 2, .inl (Y 0, 6, .inl (aI (Ki 2)))), (ad 3, .inl (Y 0, 6, .inl (aI (Ki 3)))), (ad 4, .inl (Y 1, 6, .inl (aI (Ki 4)))), (ad 5, .inl (Y 1, 6, .inl (aI (Ki 5)))), (ad 6, .inl (Y 0, 7, .inl (aI (Ki 6)))), (ad 7, .inl (Y 0, 7, .inl (aI (Ki 7)))), (hi ix, .inr (0, [.int (iZ (Ki 0 0)), .int (iZ (Ki 0 1)), .int (iZ (Ki 0 2)), .int (iZ (Ki 0 3)), .int (iZ (Ki 0 4)), .int (iZ (Ki 0 5)), .int (iZ (Ki 0 6)), .ref (adi 1), .ref (adi 2), .ref (adi 3), .ref (adi 4), .ref (adi 5), .ref (adi 6), .ref (adi 7)])), (adi 1, .inl (Y 0, 6, .inl (aI (Ki 1)))), (adi 2, .inl (Y 0, 6, .inl (aI (Ki 2)))), (adi 3, .inl (Y 0, 6, .inl (aI (Ki 3)))), (adi 4, .inl (Y 1, 6, .inl (aI (Ki 4)))), (adi 5, .inl (Y 1, 6, .inl (aI (Ki 5)))), (adi 6, .inl (Y 0, 7, .inl (aI (Ki 6)))), (adi 7, .inl (Y 0, 7, .inl (aI (Ki 7)))), (hv, .inr (6, [.ref h7, .ref h, .ref hto, .ref h3, .ref h4, .ref h5, .ref h6, .ref im, .ref ik])), (im, .inl (Y 3, 2, .inr (.inr (.inr (.inr (aR hi)))))), (ik, .inl (Y 1, 2, .inl (aI kp)))]) ⟨hx, hb, hml, hown, hts⟩ (c_X2_lose l G Y h3 kn hk nx sz) (cwV 0 hts gX6_back_X2_lose rfl rfl rfl (by decide +kernel) ⟨Nat.le_of_ble_eq_true rfl, Nat.le_of_ble_eq_true rfl⟩) hK hP hD hS 0 rfl rfl (Eq.refl [h3, kn]) rfl hl.1 rfl (Nat.le_of_ble_eq_true rfl) dX6_back_40 ⟨Nat.zero_le _, Nat.zero_le _⟩ (fun H locs hP hD hS => ?_)
      show W _ _ _ _ _ _ _ _ _ _ _ _ _ _ _ (F0 _ _ _ [])
      replace hP : va_P G vwCl [(h3, .inr (2, [.ref kn, .int (iZ nx), .int (iZ 0)])), (kn, .inl (Y 3, 10, .inr (.inr (.inr (.inr (aR hk)))))), (h, .inr (0, [.int (iZ (Ki 0 0)), .int (iZ (Ki 0 1)), .int (iZ (Ki 0 2)), .int (iZ (Ki 0 3)), .int (iZ (Ki 0 4)), .int (iZ (Ki 0 5)), .int (iZ (Ki 0 6)), .ref (ad 1), .ref (ad 2), .ref (ad 3), .ref (ad 4), .ref (ad 5), .ref (ad 6), .ref (ad 7)])), (ad 1, .inl (Y 0, 6, .inl (aI (Ki 1)))), (ad 2, .inl (Y 0, 6, .inl (aI (Ki 2)))), (ad 3, .inl (Y 0, 6, .inl (aI (Ki 3)))), (ad 4, .inl (Y 1, 6, .inl (aI (Ki 4)))), (ad 5, .inl (Y 1, 6, .inl (aI (Ki 5)))), (ad 6, .inl (Y 0, 7, .inl (aI (Ki 6)))), (ad 7, .inl (Y 0, 7, .inl (aI (Ki 7)))), (hi ix, .inr (0, [.int (iZ (Ki 0 0)), .int (iZ (Ki 0 1)), .int (iZ (Ki 0 2)), .int (iZ (Ki 0 3)), .int (iZ (Ki 0 4)), .int (iZ (Ki 0 5)), .int (iZ (Ki 0 6)), .ref (adi 1), .ref (adi 2), .ref (adi 3), .ref (adi 4), .ref (adi 5), .ref (adi 6), .ref (adi 7)])), (adi 1, .inl (Y 0, 6, .inl (aI (Ki 1)))), (adi 2, .inl (Y 0, 6, .inl (aI (Ki 2)))), (adi 3, .inl (Y 0, 6, .inl (aI (Ki 3)))), (adi 4, .inl (Y 1, 6, .inl (aI (Ki 4)))), (adi 5, .inl (Y 1, 6, .inl (aI (Ki 5)))), (adi 6, .inl (Y 0, 7, .inl (aI (Ki 6)))), (adi 7, .inl (Y 0, 7, .inl (aI (Ki 7)))), (hv, .inr (6, [.ref h7, .ref h, .ref hto, .ref h3, .ref h4, .ref h5, .ref h6, .ref im, .ref ik])), (im, .inl (Y 3, 2, .inr (.inr (.inr (.inr (aR hi)))))), (ik, .inl (Y 1, 2, .inl (aI kp)))] H := hP
      replace hD : va_D _ [(h3, .inr (2, [.ref kn, .int (iZ nx), .int (iZ 0)])), (kn, .inl (Y 3, 10, .inr (.inr (.inr (.inr (aR hk)))))), (h, .inr (0, [.int (iZ (Ki 0 0)), .int (iZ (Ki 0 1)), .int (iZ (Ki 0 2)), .int (iZ (Ki 0 3)), .int (iZ (Ki 0 4)), .int (iZ (Ki 0 5)), .int (iZ (Ki 0 6)), .ref (ad 1), .ref (ad 2), .ref (ad 3), .ref (ad 4), .ref (ad 5), .ref (ad 6), .ref (ad 7)])), (ad 1, .inl (Y 0, 6, .inl (aI (Ki 1)))), (ad 2, .inl (Y 0, 6, .inl (aI (Ki 2)))), (ad 3, .inl (Y 0, 6, .inl (aI (Ki 3)))), (ad 4, .inl (Y 1, 6, .inl (aI (Ki 4)))), (ad 5, .inl (Y 1, 6, .inl (aI (Ki 5)))), (ad 6, .inl (Y 0, 7, .inl (aI (Ki 6)))), (ad 7, .inl (Y 0, 7, .inl (aI (Ki 7)))), (hi ix, .inr (0, [.int (iZ (Ki 0 0)), .int (iZ (Ki 0 1)), .int (iZ (Ki 0 2)), .int (iZ (Ki 0 3)), .int (iZ (Ki 0 4)), .int (iZ (Ki 0 5)), .int (iZ (Ki 0 6)), .ref (adi 1), .ref (adi 2), .ref (adi 3), .ref (adi 4), .ref (adi 5), .ref (adi 6), .ref (adi 7)])), (adi 1, .inl (Y 0, 6, .inl (aI (Ki 1)))), (adi 2, .inl (Y 0, 6, .inl (aI (Ki 2)))), (adi 3, .inl (Y 0, 6, .inl (aI (Ki 3)))), (adi 4, .inl (Y 1, 6, .inl (aI (Ki 4)))), (adi 5, .inl (Y 1, 6, .inl (aI (Ki 5)))), (adi 6, .inl (Y 0, 7, .inl (aI (Ki 6)))), (adi 7, .inl (Y 0, 7, .inl (aI (Ki 7)))), (hv, .inr (6, [.ref h7, .ref h, .ref hto, .ref h3, .ref h4, .ref h5, .ref h6, .ref im, .ref ik])), (im, .inl (Y 3, 2, .inr (.inr (.inr (.inr (aR hi)))))), (ik, .inl (Y 1, 2, .inl (aI kp)))] := hD
      refine lv_aload_n hx hb dX6_back_43 rfl (lv_at hl 0 rfl) ?_
      refine va_get (D := G) (ci := 6) (v := .ref h) (C := RX6) (T := TX6) (N := 9) hx hb hts hFX6 hown hK.1 hP 18 rfl rfl 1 (by decide) kf19 (fun _ h9 => h9) rfl dX6_back_44 ?_
      refine va_get (D := G) (ci := 0) (v := .int (iZ (Ki 0 5))) (C := RX0) (T := TX0) (N := 14) hx hb hts hFX0 hown hK.1 hP 2 rfl rfl 5 (by decide) kf139 (fun _ h9 => h9) rfl dX6_back_47 ?_
      refine z_top (show Ki 0 5 = rBack kp Ki a from ?_) ?_
      · unfold rBack; (repeat' split) <;> first | rfl | omega | (simp_all; done)
      have ef : fBack kp a = true := decide_eq_true (by omega)
      have hP9 : va_P G vwCl (svO Y hv h7 h hto h3 h4 h5 h6 im ik ++ (imW Y im hi ++ (ikW Y ik kp ++ (cmW Y (hi ix) adi Ki ++ (cmW Y h ad (bif fBack kp a then Ki else K) ++ paW Y h3 kn hk nx (bif fBack kp a then 0 else sz)))))) H := by rw [ef]; exact hP.sub [18, 19, 20, 10, 11, 12, 13, 14, 15, 16, 17, 2, 3, 4, 5, 6, 7, 8, 9, 0, 1] rfl
      exact W.iret (v := iZ (rBack kp Ki a)) hx hb hr (fun t9 ht9 _ => ⟨rfl, by rw [ht9]; exact hP9, hS.F ht9⟩) hS.2.2 dX6_back_50
    · skip
      refine z_bipush hx hb dX6_back_20 (by decide) ?_
      refine z_top (show (-2) = rBack kp Ki a from ?_) ?_
      · unfold rBack; (repeat' split) <;> first | rfl | omega | (simp_all; done)
      have ef : fBack kp a = false := decide_eq_false (by omega)
      have hP9 : va_P G vwCl (svO Y hv h7 h hto h3 h4 h5 h6 im ik ++ (imW Y im hi ++ (ikW Y ik kp ++ (cmW Y (hi ix) adi Ki ++ (cmW Y h ad (bif fBack kp a then Ki else K) ++ paW Y h3 kn hk nx (bif fBack kp a then 0 else sz)))))) H := by rw [ef]; exact hP.sub [0, 1, 2, 3, 4, 5, 6, 7, 8, 9, 10, 11, 12, 13, 14, 15, 16, 17, 18, 19, 20] rfl
      exact W.iret (v := iZ (rBack kp Ki a)) hx hb hr (fun t9 ht9 _ => ⟨rfl, by rw [ht9]; exact hP9, hS.F ht9⟩) hS.2.2 dX6_back_22
  · skip
    have c_1 := of_decide_eq_false c_1
    refine z_iconst hx hb dX6_back_9 ?_
    refine z_top (show (-1) = rBack kp Ki a from ?_) ?_
    · unfold rBack; (repeat' split) <;> first | rfl | omega | (simp_all; done)
    have ef : fBack kp a = false := decide_eq_false (by omega)
    have hP9 : va_P G vwCl (svO Y hv h7 h hto h3 h4 h5 h6 im ik ++ (imW Y im hi ++ (ikW Y ik kp ++ (cmW Y (hi ix) adi Ki ++ (cmW Y h ad (bif fBack kp a then Ki else K) ++ paW Y h3 kn hk nx (bif fBack kp a then 0 else sz)))))) H := by rw [ef]; exact hP.sub [0, 1, 2, 3, 4, 5, 6, 7, 8, 9, 10, 11, 12, 13, 14, 15, 16, 17, 18, 19, 20] rfl
    exact W.iret (v := iZ (rBack kp Ki a)) hx hb hr (fun t9 ht9 _ => ⟨rfl, by rw [ht9]; exact hP9, hS.F ht9⟩) hS.2.2 dX6_back_10

set_option maxHeartbeats 4000000 in
set_option maxRecDepth 100000 in
theorem c_X6_commune (l : Launch) (G : va_G) (Y : Nat → ClassId) (hv h7 h hto h3 h4 h5 h6 im ik : Nat) (xa : Nat) (tx : Nat → Int) (hX : tX tx) (ln pl : Nat) (su : Bool) (tk : Nat) (nu : Int) (adto : Nat → Nat) (Kto : Kom) (ha : aWF Kto) (ad : Nat → Nat) (K : Kom) (kn : Nat) (hk : Nat → Nat) (nx sz : Int) (ta tb : Nat) (M T : Nat → Int) (n9 : Int) (kp : Nat → Int) (r : ln ≤ 200) (r2 : tk ≤ 200) : Met l yX6_commune wsX6_commune ({ frames := 5, cells := 0, slots := 0, locals := 114 }) (mP G Y [.ref hv] (svO Y hv h7 h hto h3 h4 h5 h6 im ik ++ (txW Y h7 xa tx ln pl su tk nu ++ (cmW Y hto adto Kto ++ (cmW Y h ad K ++ (paW Y h3 kn hk nx sz ++ (tlW Y h5 ta tb M T n9 ++ ikW Y ik kp))))))) (mQ G (svO Y hv h7 h hto h3 h4 h5 h6 im ik ++ (txW Y h7 xa tx ln pl su tk nu ++ (cmW Y hto adto Kto ++ (cmW Y h ad K ++ (paW Y h3 kn hk nx sz ++ (tlW Y h5 ta tb M T n9 ++ ikW Y ik kp)))))) (some (.int (iZ ((tlF tx ln 201 0 0 false tk nu (stA Kto)).1)))) (svO Y hv h7 h hto h3 h4 h5 h6 im ik ++ (txW Y h7 xa tx (bif decide (0 ≤ (tlF tx ln 201 0 0 false tk nu (stA Kto)).1) then 0 else ln) (tlF tx ln 201 0 0 false tk nu (stA Kto)).2.2.1 (tlF tx ln 201 0 0 false tk nu (stA Kto)).2.2.2.2.2.1 (tlF tx ln 201 0 0 false tk nu (stA Kto)).2.2.2.1 (tlF tx ln 201 0 0 false tk nu (stA Kto)).2.2.2.2.1 ++ (cmW Y hto adto (tlF tx ln 201 0 0 false tk nu (stA Kto)).2.2.2.2.2.2 ++ (cmW Y h ad (bif decide (0 ≤ (tlF tx ln 201 0 0 false tk nu (stA Kto)).1) then (tlF tx ln 201 0 0 false tk nu (stA Kto)).2.2.2.2.2.2 else K) ++ (paW Y h3 kn hk nx (bif decide (0 ≤ (tlF tx ln 201 0 0 false tk nu (stA Kto)).1) then 0 else sz) ++ (tlW Y h5 ta tb M T (bif decide (0 ≤ (tlF tx ln 201 0 0 false tk nu (stA Kto)).1) then 0 else n9) ++ ikW Y ik (bif decide (0 ≤ (tlF tx ln 201 0 0 false tk nu (stA Kto)).1) then kpN kp 2 else kp)))))))) 0 0 (fun q => q ∈ List.map Prod.fst (svO Y hv h7 h hto h3 h4 h5 h6 im ik ++ (txW Y h7 xa tx ln pl su tk nu ++ (cmW Y hto adto Kto ++ (cmW Y h ad K ++ (paW Y h3 kn hk nx sz ++ (tlW Y h5 ta tb M T n9 ++ ikW Y ik kp))))))) := by
  refine Met.ofW (cc := cX6_commune) (maxL := 3) (ret := (some .int)) (by decide) rfl ?_
  intro p e s m args below meth c s₁ B hml hv
  obtain ⟨rfl, hK, hP, hD0⟩ := hv
  have hx := B.exec
  have hb := B.bytes
  have hr := B.returns
  have hts := atoms_spec (ws := wsX6_commune) B.pre
  have hown : s.vm.findClass RX6 = some m.cls := findClass_of_methodNamed B.named
  have hlocks := B.notSynchronized
  have hFX6 : ∀ w ∈ wsX60, w ∈ wsX6_commune := by decide +kernel
  have kf10 := (hts (.fieldLink RX6 10 "ShadeVotes" "text" "LShadeVotes$Text;") (by decide +kernel))
  have kf23 := (hts (.fieldLink RX6 23 "ShadeVotes" "told" "LShadeVotes$Commune;") (by decide +kernel))
  have kf19 := (hts (.fieldLink RX6 19 "ShadeVotes" "present" "LShadeVotes$Commune;") (by decide +kernel))
  have kf29 := (hts (.fieldLink RX6 29 "ShadeVotes" "past" "LShadeVotes$Past;") (by decide +kernel))
  have kf43 := (hts (.fieldLink RX6 43 "ShadeVotes" "tally" "LShadeVotes$Tally;") (by decide +kernel))
  have kf58 := (hts (.fieldLink RX6 58 "ShadeVotes" "isKept" "[Z") (by decide +kernel))
  have hD := va_D_self hD0
  have hS : va_S (fun q => q ∈ List.map Prod.fst (svO Y hv h7 h hto h3 h4 h5 h6 im ik ++ (txW Y h7 xa tx ln pl su tk nu ++ (cmW Y hto adto Kto ++ (cmW Y h ad K ++ (paW Y h3 kn hk nx sz ++ (tlW Y h5 ta tb M T n9 ++ ikW Y ik kp))))))) s.heap s.heap [] := va_S.rf
  obtain ⟨H, hHe⟩ : ∃ H, H = s.heap := ⟨_, rfl⟩
  rw [← hHe] at hP
  replace hS : va_S (fun q => q ∈ List.map Prod.fst (svO Y hv h7 h hto h3 h4 h5 h6 im ik ++ (txW Y h7 xa tx ln pl su tk nu ++ (cmW Y hto adto Kto ++ (cmW Y h ad K ++ (paW Y h3 kn hk nx sz ++ (tlW Y h5 ta tb M T n9 ++ ikW Y ik kp))))))) s.heap H [] := by rw [hHe]; exact hS
  have hl := lv_entry ([.ref hv]) (n := 3) (Nat.le_of_ble_eq_true rfl)
  rw [lg_entry_eq]
  generalize (lg_sl ([.ref hv]) ++ List.replicate (3 - (lg_sl ([.ref hv])).length) Slot.unset).toArray = ls at hl ⊢
  replace hl : lv_has ls 3 [(0, .ref hv)] := hl
  obtain ⟨locs, hLe⟩ : ∃ locs : List Loc, locs = [] := ⟨_, rfl⟩
  rw [← hLe] at hS ⊢
  have hW0 : ∀ {Q : State → Prop} {g : JFrame}, W p l e ({ frames := 5, cells := 0, slots := 0, locals := 114 }) s m [.ref hv].toArray below meth c H locs 0 0 Q g → W p l e ({ frames := 5, cells := 0, slots := 0, locals := 114 }) s m [.ref hv].toArray below meth c s.heap locs 0 0 Q g := fun h => by rw [← hHe]; exact h
  refine hW0 ?_
  clear hW0 hHe hLe
  have hfit := tlF_fit (tx := tx) r 201 0 0 false tk nu (stA Kto) (Nat.zero_le _) r2 (cWF_stA ha) (by show (0 : Int) ≤ 5; decide) (by show (0 : Int) ≤ 7; decide) (fun _ => ⟨rfl, rfl⟩)
  have hf3 := hfit.2.2.1
  have hf4 := hfit.2.2.2.1
  refine lv_aload_n hx hb dX6_commune_0 rfl (lv_at hl 0 rfl) ?_
  refine va_get (D := G) (ci := 6) (v := .ref h7) (C := RX6) (T := TX6) (N := 9) hx hb hts hFX6 hown hK.1 hP 0 rfl rfl 0 (by decide) kf10 (fun _ h9 => h9) rfl dX6_commune_1 ?_
  refine lv_aload_n hx hb dX6_commune_4 rfl (lv_at hl 0 rfl) ?_
  refine va_get (D := G) (ci := 6) (v := .ref hto) (C := RX6) (T := TX6) (N := 9) hx hb hts hFX6 hown hK.1 hP 0 rfl rfl 2 (by decide) kf23 (fun _ h9 => h9) rfl dX6_commune_5 ?_
  have hP := hP.sub (ws' := [(h7, .inr (5, [.ref xa, .int (iZ ((ln : Nat) : Int)), .int (iZ ((pl : Nat) : Int)), .int (iZ (bZ su)), .int (iZ ((tk : Nat) : Int)), .int (iZ nu)])), (xa, .inl (Y 2, 200, .inl (aI tx))), (hto, .inr (0, [.int (iZ (Kto 0 0)), .int (iZ (Kto 0 1)), .int (iZ (Kto 0 2)), .int (iZ (Kto 0 3)), .int (iZ (Kto 0 4)), .int (iZ (Kto 0 5)), .int (iZ (Kto 0 6)), .ref (adto 1), .ref (adto 2), .ref (adto 3), .ref (adto 4), .ref (adto 5), .ref (adto 6), .ref (adto 7)])), (adto 1, .inl (Y 0, 6, .inl (aI (Kto 1)))), (adto 2, .inl (Y 0, 6, .inl (aI (Kto 2)))), (adto 3, .inl (Y 0, 6, .inl (aI (Kto 3)))), (adto 4, .inl (Y 1, 6, .inl (aI (Kto 4)))), (adto 5, .inl (Y 1, 6, .inl (aI (Kto 5)))), (adto 6, .inl (Y 0, 7, .inl (aI (Kto 6)))), (adto 7, .inl (Y 0, 7, .inl (aI (Kto 7))))] ++ [(hv, .inr (6, [.ref h7, .ref h, .ref hto, .ref h3, .ref h4, .ref h5, .ref h6, .ref im, .ref ik])), (h, .inr (0, [.int (iZ (K 0 0)), .int (iZ (K 0 1)), .int (iZ (K 0 2)), .int (iZ (K 0 3)), .int (iZ (K 0 4)), .int (iZ (K 0 5)), .int (iZ (K 0 6)), .ref (ad 1), .ref (ad 2), .ref (ad 3), .ref (ad 4), .ref (ad 5), .ref (ad 6), .ref (ad 7)])), (ad 1, .inl (Y 0, 6, .inl (aI (K 1)))), (ad 2, .inl (Y 0, 6, .inl (aI (K 2)))), (ad 3, .inl (Y 0, 6, .inl (aI (K 3)))), (ad 4, .inl (Y 1, 6, .inl (aI (K 4)))), (ad 5, .inl (Y 1, 6, .inl (aI (K 5)))), (ad 6, .inl (Y 0, 7, .inl (aI (K 6)))), (ad 7, .inl (Y 0, 7, .inl (aI (K 7)))), (h3, .inr (2, [.ref kn, .int (iZ nx), .int (iZ sz)])), (kn, .inl (Y 3, 10, .inr (.inr (.inr (.inr (aR hk)))))), (h5, .inr (4, [.ref ta, .ref tb, .int (iZ n9)])), (ta, .inl (Y 0, 5, .inl (aI M))), (tb, .inl (Y 0, 5, .inl (aI T))), (ik, .inl (Y 1, 2, .inl (aI kp)))]) [1, 2, 3, 4, 5, 6, 7, 8, 9, 10, 0, 11, 12, 13, 14, 15, 16, 17, 18, 19, 20, 21, 22, 23, 24] rfl
  have hD := hD.sub (ws' := [(h7, .inr (5, [.ref xa, .int (iZ ((ln : Nat) : Int)), .int (iZ ((pl : Nat) : Int)), .int (iZ (bZ su)), .int (iZ ((tk : Nat) : Int)), .int (iZ nu)])), (xa, .inl (Y 2, 200, .inl (aI tx))), (hto, .inr (0, [.int (iZ (Kto 0 0)), .int (iZ (Kto 0 1)), .int (iZ (Kto 0 2)), .int (iZ (Kto 0 3)), .int (iZ (Kto 0 4)), .int (iZ (Kto 0 5)), .int (iZ (Kto 0 6)), .ref (adto 1), .ref (adto 2), .ref (adto 3), .ref (adto 4), .ref (adto 5), .ref (adto 6), .ref (adto 7)])), (adto 1, .inl (Y 0, 6, .inl (aI (Kto 1)))), (adto 2, .inl (Y 0, 6, .inl (aI (Kto 2)))), (adto 3, .inl (Y 0, 6, .inl (aI (Kto 3)))), (adto 4, .inl (Y 1, 6, .inl (aI (Kto 4)))), (adto 5, .inl (Y 1, 6, .inl (aI (Kto 5)))), (adto 6, .inl (Y 0, 7, .inl (aI (Kto 6)))), (adto 7, .inl (Y 0, 7, .inl (aI (Kto 7))))] ++ [(hv, .inr (6, [.ref h7, .ref h, .ref hto, .ref h3, .ref h4, .ref h5, .ref h6, .ref im, .ref ik])), (h, .inr (0, [.int (iZ (K 0 0)), .int (iZ (K 0 1)), .int (iZ (K 0 2)), .int (iZ (K 0 3)), .int (iZ (K 0 4)), .int (iZ (K 0 5)), .int (iZ (K 0 6)), .ref (ad 1), .ref (ad 2), .ref (ad 3), .ref (ad 4), .ref (ad 5), .ref (ad 6), .ref (ad 7)])), (ad 1, .inl (Y 0, 6, .inl (aI (K 1)))), (ad 2, .inl (Y 0, 6, .inl (aI (K 2)))), (ad 3, .inl (Y 0, 6, .inl (aI (K 3)))), (ad 4, .inl (Y 1, 6, .inl (aI (K 4)))), (ad 5, .inl (Y 1, 6, .inl (aI (K 5)))), (ad 6, .inl (Y 0, 7, .inl (aI (K 6)))), (ad 7, .inl (Y 0, 7, .inl (aI (K 7)))), (h3, .inr (2, [.ref kn, .int (iZ nx), .int (iZ sz)])), (kn, .inl (Y 3, 10, .inr (.inr (.inr (.inr (aR hk)))))), (h5, .inr (4, [.ref ta, .ref tb, .int (iZ n9)])), (ta, .inl (Y 0, 5, .inl (aI M))), (tb, .inl (Y 0, 5, .inl (aI T))), (ik, .inl (Y 1, 2, .inl (aI kp)))]) [1, 2, 3, 4, 5, 6, 7, 8, 9, 10, 0, 11, 12, 13, 14, 15, 16, 17, 18, 19, 20, 21, 22, 23, 24] (by decide) rfl
  refine mu_V (As := [.ref hto]) (rest := []) (wc := [(h7, .inr (5, [.ref xa, .int (iZ ((ln : Nat) : Int)), .int (iZ ((pl : Nat) : Int)), .int (iZ (bZ su)), .int (iZ ((tk : Nat) : Int)), .int (iZ nu)])), (xa, .inl (Y 2, 200, .inl (aI tx))), (hto, .inr (0, [.int (iZ (Kto 0 0)), .int (iZ (Kto 0 1)), .int (iZ (Kto 0 2)), .int (iZ (Kto 0 3)), .int (iZ (Kto 0 4)), .int (iZ (Kto 0 5)), .int (iZ (Kto 0 6)), .ref (adto 1), .ref (adto 2), .ref (adto 3), .ref (adto 4), .ref (adto 5), .ref (adto 6), .ref (adto 7)])), (adto 1, .inl (Y 0, 6, .inl (aI (Kto 1)))), (adto 2, .inl (Y 0, 6, .inl (aI (Kto 2)))), (adto 3, .inl (Y 0, 6, .inl (aI (Kto 3)))), (adto 4, .inl (Y 1, 6, .inl (aI (Kto 4)))), (adto 5, .inl (Y 1, 6, .inl (aI (Kto 5)))), (adto 6, .inl (Y 0, 7, .inl (aI (Kto 6)))), (adto 7, .inl (Y 0, 7, .inl (aI (Kto 7))))]) (wc' := txR Y h7 xa tx ln hto adto (tlF tx ln 201 0 0 false tk nu (stA Kto)).2) (F := [(hv, .inr (6, [.ref h7, .ref h, .ref hto, .ref h3, .ref h4, .ref h5, .ref h6, .ref im, .ref ik])), (h, .inr (0, [.int (iZ (K 0 0)), .int (iZ (K 0 1)), .int (iZ (K 0 2)), .int (iZ (K 0 3)), .int (iZ (K 0 4)), .int (iZ (K 0 5)), .int (iZ (K 0 6)), .ref (ad 1), .ref (ad 2), .ref (ad 3), .ref (ad 4), .ref (ad 5), .ref (ad 6), .ref (ad 7)])), (ad 1, .inl (Y 0, 6, .inl (aI (K 1)))), (ad 2, .inl (Y 0, 6, .inl (aI (K 2)))), (ad 3, .inl (Y 0, 6, .inl (aI (K 3)))), (ad 4, .inl (Y 1, 6, .inl (aI (K 4)))), (ad 5, .inl (Y 1, 6, .inl (aI (K 5)))), (ad 6, .inl (Y 0, 7, .inl (aI (K 6)))), (ad 7, .inl (Y 0, 7, .inl (aI (K 7)))), (h3, .inr (2, [.ref kn, .int (iZ nx), .int (iZ sz)])), (kn, .inl (Y 3, 10, .inr (.inr (.inr (.inr (aR hk)))))), (h5, .inr (4, [.ref ta, .ref tb, .int (iZ n9)])), (ta, .inl (Y 0, 5, .inl (aI M))), (tb, .inl (Y 0, 5, .inl (aI T))), (ik, .inl (Y 1, 2, .inl (aI kp)))]) ⟨hx, hb, hml, hown, hts⟩ (c_X5_tell l G Y h7 xa tx hX ln pl su tk nu (by omega) hto adto Kto ha (by omega)) (cwV 1 hts gX6_commune_X5_tell rfl rfl rfl (by decide +kernel) ⟨Nat.le_of_ble_eq_true rfl, Nat.le_of_ble_eq_true rfl⟩) hK hP hD hS 0 rfl rfl (Eq.refl [h7, xa, hto, adto 1, adto 2, adto 3, adto 4, adto 5, adto 6, adto 7]) rfl hl.1 rfl (Nat.le_of_ble_eq_true rfl) dX6_commune_8 ⟨Nat.zero_le _, Nat.zero_le _⟩ (fun H locs hP hD hS => ?_)
  show W _ _ _ _ _ _ _ _ _ _ _ _ _ _ _ (F0 _ _ _ [.int (iZ ((tlF tx ln 201 0 0 false tk nu (stA Kto)).1))])
  replace hP : va_P G vwCl [(h7, .inr (5, [.ref xa, .int (iZ ((ln : Nat) : Int)), .int (iZ (((tlF tx ln 201 0 0 false tk nu (stA Kto)).2.2.1 : Nat) : Int)), .int (iZ (bZ ((tlF tx ln 201 0 0 false tk nu (stA Kto)).2.2.2.2.2.1))), .int (iZ (((tlF tx ln 201 0 0 false tk nu (stA Kto)).2.2.2.1 : Nat) : Int)), .int (iZ ((tlF tx ln 201 0 0 false tk nu (stA Kto)).2.2.2.2.1))])), (xa, .inl (Y 2, 200, .inl (aI tx))), (hto, .inr (0, [.int (iZ ((tlF tx ln 201 0 0 false tk nu (stA Kto)).2.2.2.2.2.2 0 0)), .int (iZ ((tlF tx ln 201 0 0 false tk nu (stA Kto)).2.2.2.2.2.2 0 1)), .int (iZ ((tlF tx ln 201 0 0 false tk nu (stA Kto)).2.2.2.2.2.2 0 2)), .int (iZ ((tlF tx ln 201 0 0 false tk nu (stA Kto)).2.2.2.2.2.2 0 3)), .int (iZ ((tlF tx ln 201 0 0 false tk nu (stA Kto)).2.2.2.2.2.2 0 4)), .int (iZ ((tlF tx ln 201 0 0 false tk nu (stA Kto)).2.2.2.2.2.2 0 5)), .int (iZ ((tlF tx ln 201 0 0 false tk nu (stA Kto)).2.2.2.2.2.2 0 6)), .ref (adto 1), .ref (adto 2), .ref (adto 3), .ref (adto 4), .ref (adto 5), .ref (adto 6), .ref (adto 7)])), (adto 1, .inl (Y 0, 6, .inl (aI ((tlF tx ln 201 0 0 false tk nu (stA Kto)).2.2.2.2.2.2 1)))), (adto 2, .inl (Y 0, 6, .inl (aI ((tlF tx ln 201 0 0 false tk nu (stA Kto)).2.2.2.2.2.2 2)))), (adto 3, .inl (Y 0, 6, .inl (aI ((tlF tx ln 201 0 0 false tk nu (stA Kto)).2.2.2.2.2.2 3)))), (adto 4, .inl (Y 1, 6, .inl (aI ((tlF tx ln 201 0 0 false tk nu (stA Kto)).2.2.2.2.2.2 4)))), (adto 5, .inl (Y 1, 6, .inl (aI ((tlF tx ln 201 0 0 false tk nu (stA Kto)).2.2.2.2.2.2 5)))), (adto 6, .inl (Y 0, 7, .inl (aI ((tlF tx ln 201 0 0 false tk nu (stA Kto)).2.2.2.2.2.2 6)))), (adto 7, .inl (Y 0, 7, .inl (aI ((tlF tx ln 201 0 0 false tk nu (stA Kto)).2.2.2.2.2.2 7)))), (hv, .inr (6, [.ref h7, .ref h, .ref hto, .ref h3, .ref h4, .ref h5, .ref h6, .ref im, .ref ik])), (h, .inr (0, [.int (iZ (K 0 0)), .int (iZ (K 0 1)), .int (iZ (K 0 2)), .int (iZ (K 0 3)), .int (iZ (K 0 4)), .int (iZ (K 0 5)), .int (iZ (K 0 6)), .ref (ad 1), .ref (ad 2), .ref (ad 3), .ref (ad 4), .ref (ad 5), .ref (ad 6), .ref (ad 7)])), (ad 1, .inl (Y 0, 6, .inl (aI (K 1)))), (ad 2, .inl (Y 0, 6, .inl (aI (K 2)))), (ad 3, .inl (Y 0, 6, .inl (aI (K 3)))), (ad 4, .inl (Y 1, 6, .inl (aI (K 4)))), (ad 5, .inl (Y 1, 6, .inl (aI (K 5)))), (ad 6, .inl (Y 0, 7, .inl (aI (K 6)))), (ad 7, .inl (Y 0, 7, .inl (aI (K 7)))), (h3, .inr (2, [.ref kn, .int (iZ nx), .int (iZ sz)])), (kn, .inl (Y 3, 10, .inr (.inr (.inr (.inr (aR hk)))))), (h5, .inr (4, [.ref ta, .ref tb, .int (iZ n9)])), (ta, .inl (Y 0, 5, .inl (aI M))), (tb, .inl (Y 0, 5, .inl (aI T))), (ik, .inl (Y 1, 2, .inl (aI kp)))] H := hP
  replace hD : va_D _ [(h7, .inr (5, [.ref xa, .int (iZ ((ln : Nat) : Int)), .int (iZ (((tlF tx ln 201 0 0 false tk nu (stA Kto)).2.2.1 : Nat) : Int)), .int (iZ (bZ ((tlF tx ln 201 0 0 false tk nu (stA Kto)).2.2.2.2.2.1))), .int (iZ (((tlF tx ln 201 0 0 false tk nu (stA Kto)).2.2.2.1 : Nat) : Int)), .int (iZ ((tlF tx ln 201 0 0 false tk nu (stA Kto)).2.2.2.2.1))])), (xa, .inl (Y 2, 200, .inl (aI tx))), (hto, .inr (0, [.int (iZ ((tlF tx ln 201 0 0 false tk nu (stA Kto)).2.2.2.2.2.2 0 0)), .int (iZ ((tlF tx ln 201 0 0 false tk nu (stA Kto)).2.2.2.2.2.2 0 1)), .int (iZ ((tlF tx ln 201 0 0 false tk nu (stA Kto)).2.2.2.2.2.2 0 2)), .int (iZ ((tlF tx ln 201 0 0 false tk nu (stA Kto)).2.2.2.2.2.2 0 3)), .int (iZ ((tlF tx ln 201 0 0 false tk nu (stA Kto)).2.2.2.2.2.2 0 4)), .int (iZ ((tlF tx ln 201 0 0 false tk nu (stA Kto)).2.2.2.2.2.2 0 5)), .int (iZ ((tlF tx ln 201 0 0 false tk nu (stA Kto)).2.2.2.2.2.2 0 6)), .ref (adto 1), .ref (adto 2), .ref (adto 3), .ref (adto 4), .ref (adto 5), .ref (adto 6), .ref (adto 7)])), (adto 1, .inl (Y 0, 6, .inl (aI ((tlF tx ln 201 0 0 false tk nu (stA Kto)).2.2.2.2.2.2 1)))), (adto 2, .inl (Y 0, 6, .inl (aI ((tlF tx ln 201 0 0 false tk nu (stA Kto)).2.2.2.2.2.2 2)))), (adto 3, .inl (Y 0, 6, .inl (aI ((tlF tx ln 201 0 0 false tk nu (stA Kto)).2.2.2.2.2.2 3)))), (adto 4, .inl (Y 1, 6, .inl (aI ((tlF tx ln 201 0 0 false tk nu (stA Kto)).2.2.2.2.2.2 4)))), (adto 5, .inl (Y 1, 6, .inl (aI ((tlF tx ln 201 0 0 false tk nu (stA Kto)).2.2.2.2.2.2 5)))), (adto 6, .inl (Y 0, 7, .inl (aI ((tlF tx ln 201 0 0 false tk nu (stA Kto)).2.2.2.2.2.2 6)))), (adto 7, .inl (Y 0, 7, .inl (aI ((tlF tx ln 201 0 0 false tk nu (stA Kto)).2.2.2.2.2.2 7)))), (hv, .inr (6, [.ref h7, .ref h, .ref hto, .ref h3, .ref h4, .ref h5, .ref h6, .ref im, .ref ik])), (h, .inr (0, [.int (iZ (K 0 0)), .int (iZ (K 0 1)), .int (iZ (K 0 2)), .int (iZ (K 0 3)), .int (iZ (K 0 4)), .int (iZ (K 0 5)), .int (iZ (K 0 6)), .ref (ad 1), .ref (ad 2), .ref (ad 3), .ref (ad 4), .ref (ad 5), .ref (ad 6), .ref (ad 7)])), (ad 1, .inl (Y 0, 6, .inl (aI (K 1)))), (ad 2, .inl (Y 0, 6, .inl (aI (K 2)))), (ad 3, .inl (Y 0, 6, .inl (aI (K 3)))), (ad 4, .inl (Y 1, 6, .inl (aI (K 4)))), (ad 5, .inl (Y 1, 6, .inl (aI (K 5)))), (ad 6, .inl (Y 0, 7, .inl (aI (K 6)))), (ad 7, .inl (Y 0, 7, .inl (aI (K 7)))), (h3, .inr (2, [.ref kn, .int (iZ nx), .int (iZ sz)])), (kn, .inl (Y 3, 10, .inr (.inr (.inr (.inr (aR hk)))))), (h5, .inr (4, [.ref ta, .ref tb, .int (iZ n9)])), (ta, .inl (Y 0, 5, .inl (aI M))), (tb, .inl (Y 0, 5, .inl (aI T))), (ik, .inl (Y 1, 2, .inl (aI kp)))] := hD
  refine lv_istore_n (lv' := [(1, .int (iZ ((tlF tx ln 201 0 0 false tk nu (stA Kto)).1))), (0, .ref hv)]) hx hb dX6_commune_11 rfl hl (by decide) rfl (fun ls hl => ?_)
  refine lv_iload_n hx hb dX6_commune_12 rfl (lv_at hl 0 rfl) ?_
  refine z_if_ge (tgt := 18) hx hb dX6_commune_13 (by decide) (by omega) (fun c_1 => ?_) (fun c_1 => ?_)
  · skip
    refine lv_aload_n hx hb dX6_commune_18 rfl (lv_at hl 1 rfl) ?_
    refine va_get (D := G) (ci := 6) (v := .ref h7) (C := RX6) (T := TX6) (N := 9) hx hb hts hFX6 hown hK.1 hP 10 rfl rfl 0 (by decide) kf10 (fun _ h9 => h9) rfl dX6_commune_19 ?_
    have hP := hP.sub (ws' := [(h7, .inr (5, [.ref xa, .int (iZ ((ln : Nat) : Int)), .int (iZ (((tlF tx ln 201 0 0 false tk nu (stA Kto)).2.2.1 : Nat) : Int)), .int (iZ (bZ ((tlF tx ln 201 0 0 false tk nu (stA Kto)).2.2.2.2.2.1))), .int (iZ (((tlF tx ln 201 0 0 false tk nu (stA Kto)).2.2.2.1 : Nat) : Int)), .int (iZ ((tlF tx ln 201 0 0 false tk nu (stA Kto)).2.2.2.2.1))])), (xa, .inl (Y 2, 200, .inl (aI tx)))] ++ [(hto, .inr (0, [.int (iZ ((tlF tx ln 201 0 0 false tk nu (stA Kto)).2.2.2.2.2.2 0 0)), .int (iZ ((tlF tx ln 201 0 0 false tk nu (stA Kto)).2.2.2.2.2.2 0 1)), .int (iZ ((tlF tx ln 201 0 0 false tk nu (stA Kto)).2.2.2.2.2.2 0 2)), .int (iZ ((tlF tx ln 201 0 0 false tk nu (stA Kto)).2.2.2.2.2.2 0 3)), .int (iZ ((tlF tx ln 201 0 0 false tk nu (stA Kto)).2.2.2.2.2.2 0 4)), .int (iZ ((tlF tx ln 201 0 0 false tk nu (stA Kto)).2.2.2.2.2.2 0 5)), .int (iZ ((tlF tx ln 201 0 0 false tk nu (stA Kto)).2.2.2.2.2.2 0 6)), .ref (adto 1), .ref (adto 2), .ref (adto 3), .ref (adto 4), .ref (adto 5), .ref (adto 6), .ref (adto 7)])), (adto 1, .inl (Y 0, 6, .inl (aI ((tlF tx ln 201 0 0 false tk nu (stA Kto)).2.2.2.2.2.2 1)))), (adto 2, .inl (Y 0, 6, .inl (aI ((tlF tx ln 201 0 0 false tk nu (stA Kto)).2.2.2.2.2.2 2)))), (adto 3, .inl (Y 0, 6, .inl (aI ((tlF tx ln 201 0 0 false tk nu (stA Kto)).2.2.2.2.2.2 3)))), (adto 4, .inl (Y 1, 6, .inl (aI ((tlF tx ln 201 0 0 false tk nu (stA Kto)).2.2.2.2.2.2 4)))), (adto 5, .inl (Y 1, 6, .inl (aI ((tlF tx ln 201 0 0 false tk nu (stA Kto)).2.2.2.2.2.2 5)))), (adto 6, .inl (Y 0, 7, .inl (aI ((tlF tx ln 201 0 0 false tk nu (stA Kto)).2.2.2.2.2.2 6)))), (adto 7, .inl (Y 0, 7, .inl (aI ((tlF tx ln 201 0 0 false tk nu (stA Kto)).2.2.2.2.2.2 7)))), (hv, .inr (6, [.ref h7, .ref h, .ref hto, .ref h3, .ref h4, .ref h5, .ref h6, .ref im, .ref ik])), (h, .inr (0, [.int (iZ (K 0 0)), .int (iZ (K 0 1)), .int (iZ (K 0 2)), .int (iZ (K 0 3)), .int (iZ (K 0 4)), .int (iZ (K 0 5)), .int (iZ (K 0 6)), .ref (ad 1), .ref (ad 2), .ref (ad 3), .ref (ad 4), .ref (ad 5), .ref (ad 6), .ref (ad 7)])), (ad 1, .inl (Y 0, 6, .inl (aI (K 1)))), (ad 2, .inl (Y 0, 6, .inl (aI (K 2)))), (ad 3, .inl (Y 0, 6, .inl (aI (K 3)))), (ad 4, .inl (Y 1, 6, .inl (aI (K 4)))), (ad 5, .inl (Y 1, 6, .inl (aI (K 5)))), (ad 6, .inl (Y 0, 7, .inl (aI (K 6)))), (ad 7, .inl (Y 0, 7, .inl (aI (K 7)))), (h3, .inr (2, [.ref kn, .int (iZ nx), .int (iZ sz)])), (kn, .inl (Y 3, 10, .inr (.inr (.inr (.inr (aR hk)))))), (h5, .inr (4, [.ref ta, .ref tb, .int (iZ n9)])), (ta, .inl (Y 0, 5, .inl (aI M))), (tb, .inl (Y 0, 5, .inl (aI T))), (ik, .inl (Y 1, 2, .inl (aI kp)))]) [0, 1, 2, 3, 4, 5, 6, 7, 8, 9, 10, 11, 12, 13, 14, 15, 16, 17, 18, 19, 20, 21, 22, 23, 24] rfl
    have hD := hD.sub (ws' := [(h7, .inr (5, [.ref xa, .int (iZ ((ln : Nat) : Int)), .int (iZ (((tlF tx ln 201 0 0 false tk nu (stA Kto)).2.2.1 : Nat) : Int)), .int (iZ (bZ ((tlF tx ln 201 0 0 false tk nu (stA Kto)).2.2.2.2.2.1))), .int (iZ (((tlF tx ln 201 0 0 false tk nu (stA Kto)).2.2.2.1 : Nat) : Int)), .int (iZ ((tlF tx ln 201 0 0 false tk nu (stA Kto)).2.2.2.2.1))])), (xa, .inl (Y 2, 200, .inl (aI tx)))] ++ [(hto, .inr (0, [.int (iZ ((tlF tx ln 201 0 0 false tk nu (stA Kto)).2.2.2.2.2.2 0 0)), .int (iZ ((tlF tx ln 201 0 0 false tk nu (stA Kto)).2.2.2.2.2.2 0 1)), .int (iZ ((tlF tx ln 201 0 0 false tk nu (stA Kto)).2.2.2.2.2.2 0 2)), .int (iZ ((tlF tx ln 201 0 0 false tk nu (stA Kto)).2.2.2.2.2.2 0 3)), .int (iZ ((tlF tx ln 201 0 0 false tk nu (stA Kto)).2.2.2.2.2.2 0 4)), .int (iZ ((tlF tx ln 201 0 0 false tk nu (stA Kto)).2.2.2.2.2.2 0 5)), .int (iZ ((tlF tx ln 201 0 0 false tk nu (stA Kto)).2.2.2.2.2.2 0 6)), .ref (adto 1), .ref (adto 2), .ref (adto 3), .ref (adto 4), .ref (adto 5), .ref (adto 6), .ref (adto 7)])), (adto 1, .inl (Y 0, 6, .inl (aI ((tlF tx ln 201 0 0 false tk nu (stA Kto)).2.2.2.2.2.2 1)))), (adto 2, .inl (Y 0, 6, .inl (aI ((tlF tx ln 201 0 0 false tk nu (stA Kto)).2.2.2.2.2.2 2)))), (adto 3, .inl (Y 0, 6, .inl (aI ((tlF tx ln 201 0 0 false tk nu (stA Kto)).2.2.2.2.2.2 3)))), (adto 4, .inl (Y 1, 6, .inl (aI ((tlF tx ln 201 0 0 false tk nu (stA Kto)).2.2.2.2.2.2 4)))), (adto 5, .inl (Y 1, 6, .inl (aI ((tlF tx ln 201 0 0 false tk nu (stA Kto)).2.2.2.2.2.2 5)))), (adto 6, .inl (Y 0, 7, .inl (aI ((tlF tx ln 201 0 0 false tk nu (stA Kto)).2.2.2.2.2.2 6)))), (adto 7, .inl (Y 0, 7, .inl (aI ((tlF tx ln 201 0 0 false tk nu (stA Kto)).2.2.2.2.2.2 7)))), (hv, .inr (6, [.ref h7, .ref h, .ref hto, .ref h3, .ref h4, .ref h5, .ref h6, .ref im, .ref ik])), (h, .inr (0, [.int (iZ (K 0 0)), .int (iZ (K 0 1)), .int (iZ (K 0 2)), .int (iZ (K 0 3)), .int (iZ (K 0 4)), .int (iZ (K 0 5)), .int (iZ (K 0 6)), .ref (ad 1), .ref (ad 2), .ref (ad 3), .ref (ad 4), .ref (ad 5), .ref (ad 6), .ref (ad 7)])), (ad 1, .inl (Y 0, 6, .inl (aI (K 1)))), (ad 2, .inl (Y 0, 6, .inl (aI (K 2)))), (ad 3, .inl (Y 0, 6, .inl (aI (K 3)))), (ad 4, .inl (Y 1, 6, .inl (aI (K 4)))), (ad 5, .inl (Y 1, 6, .inl (aI (K 5)))), (ad 6, .inl (Y 0, 7, .inl (aI (K 6)))), (ad 7, .inl (Y 0, 7, .inl (aI (K 7)))), (h3, .inr (2, [.ref kn, .int (iZ nx), .int (iZ sz)])), (kn, .inl (Y 3, 10, .inr (.inr (.inr (.inr (aR hk)))))), (h5, .inr (4, [.ref ta, .ref tb, .int (iZ n9)])), (ta, .inl (Y 0, 5, .inl (aI M))), (tb, .inl (Y 0, 5, .inl (aI T))), (ik, .inl (Y 1, 2, .inl (aI kp)))]) [0, 1, 2, 3, 4, 5, 6, 7, 8, 9, 10, 11, 12, 13, 14, 15, 16, 17, 18, 19, 20, 21, 22, 23, 24] (by decide) rfl
    refine mu_V (As := []) (rest := []) (wc := [(h7, .inr (5, [.ref xa, .int (iZ ((ln : Nat) : Int)), .int (iZ (((tlF tx ln 201 0 0 false tk nu (stA Kto)).2.2.1 : Nat) : Int)), .int (iZ (bZ ((tlF tx ln 201 0 0 false tk nu (stA Kto)).2.2.2.2.2.1))), .int (iZ (((tlF tx ln 201 0 0 false tk nu (stA Kto)).2.2.2.1 : Nat) : Int)), .int (iZ ((tlF tx ln 201 0 0 false tk nu (stA Kto)).2.2.2.2.1))])), (xa, .inl (Y 2, 200, .inl (aI tx)))]) (wc' := txW Y h7 xa tx 0 ((tlF tx ln 201 0 0 false tk nu (stA Kto)).2.2.1) ((tlF tx ln 201 0 0 false tk nu (stA Kto)).2.2.2.2.2.1) ((tlF tx ln 201 0 0 false tk nu (stA Kto)).2.2.2.1) ((tlF tx ln 201 0 0 false tk nu (stA Kto)).2.2.2.2.1)) (F := [(hto, .inr (0, [.int (iZ ((tlF tx ln 201 0 0 false tk nu (stA Kto)).2.2.2.2.2.2 0 0)), .int (iZ ((tlF tx ln 201 0 0 false tk nu (stA Kto)).2.2.2.2.2.2 0 1)), .int (iZ ((tlF tx ln 201 0 0 false tk nu (stA Kto)).2.2.2.2.2.2 0 2)), .int (iZ ((tlF tx ln 201 0 0 false tk nu (stA Kto)).2.2.2.2.2.2 0 3)), .int (iZ ((tlF tx ln 201 0 0 false tk nu (stA Kto)).2.2.2.2.2.2 0 4)), .int (iZ ((tlF tx ln 201 0 0 false tk nu (stA Kto)).2.2.2.2.2.2 0 5)), .int (iZ ((tlF tx ln 201 0 0 false tk nu (stA Kto)).2.2.2.2.2.2 0 6)), .ref (adto 1), .ref (adto 2), .ref (adto 3), .ref (adto 4), .ref (adto 5), .ref (adto 6), .ref (adto 7)])), (adto 1, .inl (Y 0, 6, .inl (aI ((tlF tx ln 201 0 0 false tk nu (stA Kto)).2.2.2.2.2.2 1)))), (adto 2, .inl (Y 0, 6, .inl (aI ((tlF tx ln 201 0 0 false tk nu (stA Kto)).2.2.2.2.2.2 2)))), (adto 3, .inl (Y 0, 6, .inl (aI ((tlF tx ln 201 0 0 false tk nu (stA Kto)).2.2.2.2.2.2 3)))), (adto 4, .inl (Y 1, 6, .inl (aI ((tlF tx ln 201 0 0 false tk nu (stA Kto)).2.2.2.2.2.2 4)))), (adto 5, .inl (Y 1, 6, .inl (aI ((tlF tx ln 201 0 0 false tk nu (stA Kto)).2.2.2.2.2.2 5)))), (adto 6, .inl (Y 0, 7, .inl (aI ((tlF tx ln 201 0 0 false tk nu (stA Kto)).2.2.2.2.2.2 6)))), (adto 7, .inl (Y 0, 7, .inl (aI ((tlF tx ln 201 0 0 false tk nu (stA Kto)).2.2.2.2.2.2 7)))), (hv, .inr (6, [.ref h7, .ref h, .ref hto, .ref h3, .ref h4, .ref h5, .ref h6, .ref im, .ref ik])), (h, .inr (0, [.int (iZ (K 0 0)), .int (iZ (K 0 1)), .int (iZ (K 0 2)), .int (iZ (K 0 3)), .int (iZ (K 0 4)), .int (iZ (K 0 5)), .int (iZ (K 0 6)), .ref (ad 1), .ref (ad 2), .ref (ad 3), .ref (ad 4), .ref (ad 5), .ref (ad 6), .ref (ad 7)])), (ad 1, .inl (Y 0, 6, .inl (aI (K 1)))), (ad 2, .inl (Y 0, 6, .inl (aI (K 2)))), (ad 3, .inl (Y 0, 6, .inl (aI (K 3)))), (ad 4, .inl (Y 1, 6, .inl (aI (K 4)))), (ad 5, .inl (Y 1, 6, .inl (aI (K 5)))), (ad 6, .inl (Y 0, 7, .inl (aI (K 6)))), (ad 7, .inl (Y 0, 7, .inl (aI (K 7)))), (h3, .inr (2, [.ref kn, .int (iZ nx), .int (iZ sz)])), (kn, .inl (Y 3, 10, .inr (.inr (.inr (.inr (aR hk)))))), (h5, .inr (4, [.ref ta, .ref tb, .int (iZ n9)])), (ta, .inl (Y 0, 5, .inl (aI M))), (tb, .inl (Y 0, 5, .inl (aI T))), (ik, .inl (Y 1, 2, .inl (aI kp)))]) ⟨hx, hb, hml, hown, hts⟩ (c_X5_empty l G Y h7 xa tx hX ln ((tlF tx ln 201 0 0 false tk nu (stA Kto)).2.2.1) ((tlF tx ln 201 0 0 false tk nu (stA Kto)).2.2.2.2.2.1) ((tlF tx ln 201 0 0 false tk nu (stA Kto)).2.2.2.1) ((tlF tx ln 201 0 0 false tk nu (stA Kto)).2.2.2.2.1)) (cwV 0 hts gX6_commune_X5_empty rfl rfl rfl (by decide +kernel) ⟨Nat.le_of_ble_eq_true rfl, Nat.le_of_ble_eq_true rfl⟩) hK hP hD hS 0 rfl rfl (Eq.refl [h7, xa]) rfl hl.1 rfl (Nat.le_of_ble_eq_true rfl) dX6_commune_22 ⟨Nat.zero_le _, Nat.zero_le _⟩ (fun H locs hP hD hS => ?_)
    show W _ _ _ _ _ _ _ _ _ _ _ _ _ _ _ (F0 _ _ _ [.int (iZ ((ln : Nat) : Int))])
    replace hP : va_P G vwCl [(h7, .inr (5, [.ref xa, .int (iZ 0), .int (iZ (((tlF tx ln 201 0 0 false tk nu (stA Kto)).2.2.1 : Nat) : Int)), .int (iZ (bZ ((tlF tx ln 201 0 0 false tk nu (stA Kto)).2.2.2.2.2.1))), .int (iZ (((tlF tx ln 201 0 0 false tk nu (stA Kto)).2.2.2.1 : Nat) : Int)), .int (iZ ((tlF tx ln 201 0 0 false tk nu (stA Kto)).2.2.2.2.1))])), (xa, .inl (Y 2, 200, .inl (aI tx))), (hto, .inr (0, [.int (iZ ((tlF tx ln 201 0 0 false tk nu (stA Kto)).2.2.2.2.2.2 0 0)), .int (iZ ((tlF tx ln 201 0 0 false tk nu (stA Kto)).2.2.2.2.2.2 0 1)), .int (iZ ((tlF tx ln 201 0 0 false tk nu (stA Kto)).2.2.2.2.2.2 0 2)), .int (iZ ((tlF tx ln 201 0 0 false tk nu (stA Kto)).2.2.2.2.2.2 0 3)), .int (iZ ((tlF tx ln 201 0 0 false tk nu (stA Kto)).2.2.2.2.2.2 0 4)), .int (iZ ((tlF tx ln 201 0 0 false tk nu (stA Kto)).2.2.2.2.2.2 0 5)), .int (iZ ((tlF tx ln 201 0 0 false tk nu (stA Kto)).2.2.2.2.2.2 0 6)), .ref (adto 1), .ref (adto 2), .ref (adto 3), .ref (adto 4), .ref (adto 5), .ref (adto 6), .ref (adto 7)])), (adto 1, .inl (Y 0, 6, .inl (aI ((tlF tx ln 201 0 0 false tk nu (stA Kto)).2.2.2.2.2.2 1)))), (adto 2, .inl (Y 0, 6, .inl (aI ((tlF tx ln 201 0 0 false tk nu (stA Kto)).2.2.2.2.2.2 2)))), (adto 3, .inl (Y 0, 6, .inl (aI ((tlF tx ln 201 0 0 false tk nu (stA Kto)).2.2.2.2.2.2 3)))), (adto 4, .inl (Y 1, 6, .inl (aI ((tlF tx ln 201 0 0 false tk nu (stA Kto)).2.2.2.2.2.2 4)))), (adto 5, .inl (Y 1, 6, .inl (aI ((tlF tx ln 201 0 0 false tk nu (stA Kto)).2.2.2.2.2.2 5)))), (adto 6, .inl (Y 0, 7, .inl (aI ((tlF tx ln 201 0 0 false tk nu (stA Kto)).2.2.2.2.2.2 6)))), (adto 7, .inl (Y 0, 7, .inl (aI ((tlF tx ln 201 0 0 false tk nu (stA Kto)).2.2.2.2.2.2 7)))), (hv, .inr (6, [.ref h7, .ref h, .ref hto, .ref h3, .ref h4, .ref h5, .ref h6, .ref im, .ref ik])), (h, .inr (0, [.int (iZ (K 0 0)), .int (iZ (K 0 1)), .int (iZ (K 0 2)), .int (iZ (K 0 3)), .int (iZ (K 0 4)), .int (iZ (K 0 5)), .int (iZ (K 0 6)), .ref (ad 1), .ref (ad 2), .ref (ad 3), .ref (ad 4), .ref (ad 5), .ref (ad 6), .ref (ad 7)])), (ad 1, .inl (Y 0, 6, .inl (aI (K 1)))), (ad 2, .inl (Y 0, 6, .inl (aI (K 2)))), (ad 3, .inl (Y 0, 6, .inl (aI (K 3)))), (ad 4, .inl (Y 1, 6, .inl (aI (K 4)))), (ad 5, .inl (Y 1, 6, .inl (aI (K 5)))), (ad 6, .inl (Y 0, 7, .inl (aI (K 6)))), (ad 7, .inl (Y 0, 7, .inl (aI (K 7)))), (h3, .inr (2, [.ref kn, .int (iZ nx), .int (iZ sz)])), (kn, .inl (Y 3, 10, .inr (.inr (.inr (.inr (aR hk)))))), (h5, .inr (4, [.ref ta, .ref tb, .int (iZ n9)])), (ta, .inl (Y 0, 5, .inl (aI M))), (tb, .inl (Y 0, 5, .inl (aI T))), (ik, .inl (Y 1, 2, .inl (aI kp)))] H := hP
    replace hD : va_D _ [(h7, .inr (5, [.ref xa, .int (iZ 0), .int (iZ (((tlF tx ln 201 0 0 false tk nu (stA Kto)).2.2.1 : Nat) : Int)), .int (iZ (bZ ((tlF tx ln 201 0 0 false tk nu (stA Kto)).2.2.2.2.2.1))), .int (iZ (((tlF tx ln 201 0 0 false tk nu (stA Kto)).2.2.2.1 : Nat) : Int)), .int (iZ ((tlF tx ln 201 0 0 false tk nu (stA Kto)).2.2.2.2.1))])), (xa, .inl (Y 2, 200, .inl (aI tx))), (hto, .inr (0, [.int (iZ ((tlF tx ln 201 0 0 false tk nu (stA Kto)).2.2.2.2.2.2 0 0)), .int (iZ ((tlF tx ln 201 0 0 false tk nu (stA Kto)).2.2.2.2.2.2 0 1)), .int (iZ ((tlF tx ln 201 0 0 false tk nu (stA Kto)).2.2.2.2.2.2 0 2)), .int (iZ ((tlF tx ln 201 0 0 false tk nu (stA Kto)).2.2.2.2.2.2 0 3)), .int (iZ ((tlF tx ln 201 0 0 false tk nu (stA Kto)).2.2.2.2.2.2 0 4)), .int (iZ ((tlF tx ln 201 0 0 false tk nu (stA Kto)).2.2.2.2.2.2 0 5)), .int (iZ ((tlF tx ln 201 0 0 false tk nu (stA Kto)).2.2.2.2.2.2 0 6)), .ref (adto 1), .ref (adto 2), .ref (adto 3), .ref (adto 4), .ref (adto 5), .ref (adto 6), .ref (adto 7)])), (adto 1, .inl (Y 0, 6, .inl (aI ((tlF tx ln 201 0 0 false tk nu (stA Kto)).2.2.2.2.2.2 1)))), (adto 2, .inl (Y 0, 6, .inl (aI ((tlF tx ln 201 0 0 false tk nu (stA Kto)).2.2.2.2.2.2 2)))), (adto 3, .inl (Y 0, 6, .inl (aI ((tlF tx ln 201 0 0 false tk nu (stA Kto)).2.2.2.2.2.2 3)))), (adto 4, .inl (Y 1, 6, .inl (aI ((tlF tx ln 201 0 0 false tk nu (stA Kto)).2.2.2.2.2.2 4)))), (adto 5, .inl (Y 1, 6, .inl (aI ((tlF tx ln 201 0 0 false tk nu (stA Kto)).2.2.2.2.2.2 5)))), (adto 6, .inl (Y 0, 7, .inl (aI ((tlF tx ln 201 0 0 false tk nu (stA Kto)).2.2.2.2.2.2 6)))), (adto 7, .inl (Y 0, 7, .inl (aI ((tlF tx ln 201 0 0 false tk nu (stA Kto)).2.2.2.2.2.2 7)))), (hv, .inr (6, [.ref h7, .ref h, .ref hto, .ref h3, .ref h4, .ref h5, .ref h6, .ref im, .ref ik])), (h, .inr (0, [.int (iZ (K 0 0)), .int (iZ (K 0 1)), .int (iZ (K 0 2)), .int (iZ (K 0 3)), .int (iZ (K 0 4)), .int (iZ (K 0 5)), .int (iZ (K 0 6)), .ref (ad 1), .ref (ad 2), .ref (ad 3), .ref (ad 4), .ref (ad 5), .ref (ad 6), .ref (ad 7)])), (ad 1, .inl (Y 0, 6, .inl (aI (K 1)))), (ad 2, .inl (Y 0, 6, .inl (aI (K 2)))), (ad 3, .inl (Y 0, 6, .inl (aI (K 3)))), (ad 4, .inl (Y 1, 6, .inl (aI (K 4)))), (ad 5, .inl (Y 1, 6, .inl (aI (K 5)))), (ad 6, .inl (Y 0, 7, .inl (aI (K 6)))), (ad 7, .inl (Y 0, 7, .inl (aI (K 7)))), (h3, .inr (2, [.ref kn, .int (iZ nx), .int (iZ sz)])), (kn, .inl (Y 3, 10, .inr (.inr (.inr (.inr (aR hk)))))), (h5, .inr (4, [.ref ta, .ref tb, .int (iZ n9)])), (ta, .inl (Y 0, 5, .inl (aI M))), (tb, .inl (Y 0, 5, .inl (aI T))), (ik, .inl (Y 1, 2, .inl (aI kp)))] := hD
    refine lv_pop hx hb dX6_commune_25 rfl ?_
    refine lv_aload_n hx hb dX6_commune_26 rfl (lv_at hl 1 rfl) ?_
    refine va_get (D := G) (ci := 6) (v := .ref h) (C := RX6) (T := TX6) (N := 9) hx hb hts hFX6 hown hK.1 hP 10 rfl rfl 1 (by decide) kf19 (fun _ h9 => h9) rfl dX6_commune_27 ?_
    refine lv_aload_n hx hb dX6_commune_30 rfl (lv_at hl 1 rfl) ?_
    refine va_get (D := G) (ci := 6) (v := .ref hto) (C := RX6) (T := TX6) (N := 9) hx hb hts hFX6 hown hK.1 hP 10 rfl rfl 2 (by decide) kf23 (fun _ h9 => h9) rfl dX6_commune_31 ?_
    have hP := hP.sub (ws' := [(h, .inr (0, [.int (iZ (K 0 0)), .int (iZ (K 0 1)), .int (iZ (K 0 2)), .int (iZ (K 0 3)), .int (iZ (K 0 4)), .int (iZ (K 0 5)), .int (iZ (K 0 6)), .ref (ad 1), .ref (ad 2), .ref (ad 3), .ref (ad 4), .ref (ad 5), .ref (ad 6), .ref (ad 7)])), (ad 1, .inl (Y 0, 6, .inl (aI (K 1)))), (ad 2, .inl (Y 0, 6, .inl (aI (K 2)))), (ad 3, .inl (Y 0, 6, .inl (aI (K 3)))), (ad 4, .inl (Y 1, 6, .inl (aI (K 4)))), (ad 5, .inl (Y 1, 6, .inl (aI (K 5)))), (ad 6, .inl (Y 0, 7, .inl (aI (K 6)))), (ad 7, .inl (Y 0, 7, .inl (aI (K 7)))), (hto, .inr (0, [.int (iZ ((tlF tx ln 201 0 0 false tk nu (stA Kto)).2.2.2.2.2.2 0 0)), .int (iZ ((tlF tx ln 201 0 0 false tk nu (stA Kto)).2.2.2.2.2.2 0 1)), .int (iZ ((tlF tx ln 201 0 0 false tk nu (stA Kto)).2.2.2.2.2.2 0 2)), .int (iZ ((tlF tx ln 201 0 0 false tk nu (stA Kto)).2.2.2.2.2.2 0 3)), .int (iZ ((tlF tx ln 201 0 0 false tk nu (stA Kto)).2.2.2.2.2.2 0 4)), .int (iZ ((tlF tx ln 201 0 0 false tk nu (stA Kto)).2.2.2.2.2.2 0 5)), .int (iZ ((tlF tx ln 201 0 0 false tk nu (stA Kto)).2.2.2.2.2.2 0 6)), .ref (adto 1), .ref (adto 2), .ref (adto 3), .ref (adto 4), .ref (adto 5), .ref (adto 6), .ref (adto 7)])), (adto 1, .inl (Y 0, 6, .inl (aI ((tlF tx ln 201 0 0 false tk nu (stA Kto)).2.2.2.2.2.2 1)))), (adto 2, .inl (Y 0, 6, .inl (aI ((tlF tx ln 201 0 0 false tk nu (stA Kto)).2.2.2.2.2.2 2)))), (adto 3, .inl (Y 0, 6, .inl (aI ((tlF tx ln 201 0 0 false tk nu (stA Kto)).2.2.2.2.2.2 3)))), (adto 4, .inl (Y 1, 6, .inl (aI ((tlF tx ln 201 0 0 false tk nu (stA Kto)).2.2.2.2.2.2 4)))), (adto 5, .inl (Y 1, 6, .inl (aI ((tlF tx ln 201 0 0 false tk nu (stA Kto)).2.2.2.2.2.2 5)))), (adto 6, .inl (Y 0, 7, .inl (aI ((tlF tx ln 201 0 0 false tk nu (stA Kto)).2.2.2.2.2.2 6)))), (adto 7, .inl (Y 0, 7, .inl (aI ((tlF tx ln 201 0 0 false tk nu (stA Kto)).2.2.2.2.2.2 7))))] ++ [(h7, .inr (5, [.ref xa, .int (iZ 0), .int (iZ (((tlF tx ln 201 0 0 false tk nu (stA Kto)).2.2.1 : Nat) : Int)), .int (iZ (bZ ((tlF tx ln 201 0 0 false tk nu (stA Kto)).2.2.2.2.2.1))), .int (iZ (((tlF tx ln 201 0 0 false tk nu (stA Kto)).2.2.2.1 : Nat) : Int)), .int (iZ ((tlF tx ln 201 0 0 false tk nu (stA Kto)).2.2.2.2.1))])), (xa, .inl (Y 2, 200, .inl (aI tx))), (hv, .inr (6, [.ref h7, .ref h, .ref hto, .ref h3, .ref h4, .ref h5, .ref h6, .ref im, .ref ik])), (h3, .inr (2, [.ref kn, .int (iZ nx), .int (iZ sz)])), (kn, .inl (Y 3, 10, .inr (.inr (.inr (.inr (aR hk)))))), (h5, .inr (4, [.ref ta, .ref tb, .int (iZ n9)])), (ta, .inl (Y 0, 5, .inl (aI M))), (tb, .inl (Y 0, 5, .inl (aI T))), (ik, .inl (Y 1, 2, .inl (aI kp)))]) [11, 12, 13, 14, 15, 16, 17, 18, 2, 3, 4, 5, 6, 7, 8, 9, 0, 1, 10, 19, 20, 21, 22, 23, 24] rfl
    have hD := hD.sub (ws' := [(h, .inr (0, [.int (iZ (K 0 0)), .int (iZ (K 0 1)), .int (iZ (K 0 2)), .int (iZ (K 0 3)), .int (iZ (K 0 4)), .int (iZ (K 0 5)), .int (iZ (K 0 6)), .ref (ad 1), .ref (ad 2), .ref (ad 3), .ref (ad 4), .ref (ad 5), .ref (ad 6), .ref (ad 7)])), (ad 1, .inl (Y 0, 6, .inl (aI (K 1)))), (ad 2, .inl (Y 0, 6, .inl (aI (K 2)))), (ad 3, .inl (Y 0, 6, .inl (aI (K 3)))), (ad 4, .inl (Y 1, 6, .inl (aI (K 4)))), (ad 5, .inl (Y 1, 6, .inl (aI (K 5)))), (ad 6, .inl (Y 0, 7, .inl (aI (K 6)))), (ad 7, .inl (Y 0, 7, .inl (aI (K 7)))), (hto, .inr (0, [.int (iZ ((tlF tx ln 201 0 0 false tk nu (stA Kto)).2.2.2.2.2.2 0 0)), .int (iZ ((tlF tx ln 201 0 0 false tk nu (stA Kto)).2.2.2.2.2.2 0 1)), .int (iZ ((tlF tx ln 201 0 0 false tk nu (stA Kto)).2.2.2.2.2.2 0 2)), .int (iZ ((tlF tx ln 201 0 0 false tk nu (stA Kto)).2.2.2.2.2.2 0 3)), .int (iZ ((tlF tx ln 201 0 0 false tk nu (stA Kto)).2.2.2.2.2.2 0 4)), .int (iZ ((tlF tx ln 201 0 0 false tk nu (stA Kto)).2.2.2.2.2.2 0 5)), .int (iZ ((tlF tx ln 201 0 0 false tk nu (stA Kto)).2.2.2.2.2.2 0 6)), .ref (adto 1), .ref (adto 2), .ref (adto 3), .ref (adto 4), .ref (adto 5), .ref (adto 6), .ref (adto 7)])), (adto 1, .inl (Y 0, 6, .inl (aI ((tlF tx ln 201 0 0 false tk nu (stA Kto)).2.2.2.2.2.2 1)))), (adto 2, .inl (Y 0, 6, .inl (aI ((tlF tx ln 201 0 0 false tk nu (stA Kto)).2.2.2.2.2.2 2)))), (adto 3, .inl (Y 0, 6, .inl (aI ((tlF tx ln 201 0 0 false tk nu (stA Kto)).2.2.2.2.2.2 3)))), (adto 4, .inl (Y 1, 6, .inl (aI ((tlF tx ln 201 0 0 false tk nu (stA Kto)).2.2.2.2.2.2 4)))), (adto 5, .inl (Y 1, 6, .inl (aI ((tlF tx ln 201 0 0 false tk nu (stA Kto)).2.2.2.2.2.2 5)))), (adto 6, .inl (Y 0, 7, .inl (aI ((tlF tx ln 201 0 0 false tk nu (stA Kto)).2.2.2.2.2.2 6)))), (adto 7, .inl (Y 0, 7, .inl (aI ((tlF tx ln 201 0 0 false tk nu (stA Kto)).2.2.2.2.2.2 7))))] ++ [(h7, .inr (5, [.ref xa, .int (iZ 0), .int (iZ (((tlF tx ln 201 0 0 false tk nu (stA Kto)).2.2.1 : Nat) : Int)), .int (iZ (bZ ((tlF tx ln 201 0 0 false tk nu (stA Kto)).2.2.2.2.2.1))), .int (iZ (((tlF tx ln 201 0 0 false tk nu (stA Kto)).2.2.2.1 : Nat) : Int)), .int (iZ ((tlF tx ln 201 0 0 false tk nu (stA Kto)).2.2.2.2.1))])), (xa, .inl (Y 2, 200, .inl (aI tx))), (hv, .inr (6, [.ref h7, .ref h, .ref hto, .ref h3, .ref h4, .ref h5, .ref h6, .ref im, .ref ik])), (h3, .inr (2, [.ref kn, .int (iZ nx), .int (iZ sz)])), (kn, .inl (Y 3, 10, .inr (.inr (.inr (.inr (aR hk)))))), (h5, .inr (4, [.ref ta, .ref tb, .int (iZ n9)])), (ta, .inl (Y 0, 5, .inl (aI M))), (tb, .inl (Y 0, 5, .inl (aI T))), (ik, .inl (Y 1, 2, .inl (aI kp)))]) [11, 12, 13, 14, 15, 16, 17, 18, 2, 3, 4, 5, 6, 7, 8, 9, 0, 1, 10, 19, 20, 21, 22, 23, 24] (by decide) rfl
    refine mu_V (As := [.ref hto]) (rest := []) (wc := [(h, .inr (0, [.int (iZ (K 0 0)), .int (iZ (K 0 1)), .int (iZ (K 0 2)), .int (iZ (K 0 3)), .int (iZ (K 0 4)), .int (iZ (K 0 5)), .int (iZ (K 0 6)), .ref (ad 1), .ref (ad 2), .ref (ad 3), .ref (ad 4), .ref (ad 5), .ref (ad 6), .ref (ad 7)])), (ad 1, .inl (Y 0, 6, .inl (aI (K 1)))), (ad 2, .inl (Y 0, 6, .inl (aI (K 2)))), (ad 3, .inl (Y 0, 6, .inl (aI (K 3)))), (ad 4, .inl (Y 1, 6, .inl (aI (K 4)))), (ad 5, .inl (Y 1, 6, .inl (aI (K 5)))), (ad 6, .inl (Y 0, 7, .inl (aI (K 6)))), (ad 7, .inl (Y 0, 7, .inl (aI (K 7)))), (hto, .inr (0, [.int (iZ ((tlF tx ln 201 0 0 false tk nu (stA Kto)).2.2.2.2.2.2 0 0)), .int (iZ ((tlF tx ln 201 0 0 false tk nu (stA Kto)).2.2.2.2.2.2 0 1)), .int (iZ ((tlF tx ln 201 0 0 false tk nu (stA Kto)).2.2.2.2.2.2 0 2)), .int (iZ ((tlF tx ln 201 0 0 false tk nu (stA Kto)).2.2.2.2.2.2 0 3)), .int (iZ ((tlF tx ln 201 0 0 false tk nu (stA Kto)).2.2.2.2.2.2 0 4)), .int (iZ ((tlF tx ln 201 0 0 false tk nu (stA Kto)).2.2.2.2.2.2 0 5)), .int (iZ ((tlF tx ln 201 0 0 false tk nu (stA Kto)).2.2.2.2.2.2 0 6)), .ref (adto 1), .ref (adto 2), .ref (adto 3), .ref (adto 4), .ref (adto 5), .ref (adto 6), .ref (adto 7)])), (adto 1, .inl (Y 0, 6, .inl (aI ((tlF tx ln 201 0 0 false tk nu (stA Kto)).2.2.2.2.2.2 1)))), (adto 2, .inl (Y 0, 6, .inl (aI ((tlF tx ln 201 0 0 false tk nu (stA Kto)).2.2.2.2.2.2 2)))), (adto 3, .inl (Y 0, 6, .inl (aI ((tlF tx ln 201 0 0 false tk nu (stA Kto)).2.2.2.2.2.2 3)))), (adto 4, .inl (Y 1, 6, .inl (aI ((tlF tx ln 201 0 0 false tk nu (stA Kto)).2.2.2.2.2.2 4)))), (adto 5, .inl (Y 1, 6, .inl (aI ((tlF tx ln 201 0 0 false tk nu (stA Kto)).2.2.2.2.2.2 5)))), (adto 6, .inl (Y 0, 7, .inl (aI ((tlF tx ln 201 0 0 false tk nu (stA Kto)).2.2.2.2.2.2 6)))), (adto 7, .inl (Y 0, 7, .inl (aI ((tlF tx ln 201 0 0 false tk nu (stA Kto)).2.2.2.2.2.2 7))))]) (wc' := cmW Y h ad ((tlF tx ln 201 0 0 false tk nu (stA Kto)).2.2.2.2.2.2) ++ cmW Y hto adto ((tlF tx ln 201 0 0 false tk nu (stA Kto)).2.2.2.2.2.2)) (F := [(h7, .inr (5, [.ref xa, .int (iZ 0), .int (iZ (((tlF tx ln 201 0 0 false tk nu (stA Kto)).2.2.1 : Nat) : Int)), .int (iZ (bZ ((tlF tx ln 201 0 0 false tk nu (stA Kto)).2.2.2.2.2.1))), .int (iZ (((tlF tx ln 201 0 0 false tk nu (stA Kto)).2.2.2.1 : Nat) : Int)), .int (iZ ((tlF tx ln 201 0 0 false tk nu (stA Kto)).2.2.2.2.1))])), (xa, .inl (Y 2, 200, .inl (aI tx))), (hv, .inr (6, [.ref h7, .ref h, .ref hto, .ref h3, .ref h4, .ref h5, .ref h6, .ref im, .ref ik])), (h3, .inr (2, [.ref kn, .int (iZ nx), .int (iZ sz)])), (kn, .inl (Y 3, 10, .inr (.inr (.inr (.inr (aR hk)))))), (h5, .inr (4, [.ref ta, .ref tb, .int (iZ n9)])), (ta, .inl (Y 0, 5, .inl (aI M))), (tb, .inl (Y 0, 5, .inl (aI T))), (ik, .inl (Y 1, 2, .inl (aI kp)))]) ⟨hx, hb, hml, hown, hts⟩ (c_X0_become l G Y h hto ad adto K ((tlF tx ln 201 0 0 false tk nu (stA Kto)).2.2.2.2.2.2) (hfit.2.2.2.2 (by omega)).1) (cwV 1 hts gX6_commune_X0_become rfl rfl rfl (by decide +kernel) ⟨Nat.le_of_ble_eq_true rfl, Nat.le_of_ble_eq_true rfl⟩) hK hP hD hS 0 rfl rfl (Eq.refl [h, ad 1, ad 2, ad 3, ad 4, ad 5, ad 6, ad 7, hto, adto 1, adto 2, adto 3, adto 4, adto 5, adto 6, adto 7]) rfl hl.1 rfl (Nat.le_of_ble_eq_true rfl) dX6_commune_34 ⟨Nat.zero_le _, Nat.zero_le _⟩ (fun H locs hP hD hS => ?_)
    show W _ _ _ _ _ _ _ _ _ _ _ _ _ _ _ (F0 _ _ _ [])
    replace hP : va_P G vwCl [(h, .inr (0, [.int (iZ ((tlF tx ln 201 0 0 false tk nu (stA Kto)).2.2.2.2.2.2 0 0)), .int (iZ ((tlF tx ln 201 0 0 false tk nu (stA Kto)).2.2.2.2.2.2 0 1)), .int (iZ ((tlF tx ln 201 0 0 false tk nu (stA Kto)).2.2.2.2.2.2 0 2)), .int (iZ ((tlF tx ln 201 0 0 false tk nu (stA Kto)).2.2.2.2.2.2 0 3)), .int (iZ ((tlF tx ln 201 0 0 false tk nu (stA Kto)).2.2.2.2.2.2 0 4)), .int (iZ ((tlF tx ln 201 0 0 false tk nu (stA Kto)).2.2.2.2.2.2 0 5)), .int (iZ ((tlF tx ln 201 0 0 false tk nu (stA Kto)).2.2.2.2.2.2 0 6)), .ref (ad 1), .ref (ad 2), .ref (ad 3), .ref (ad 4), .ref (ad 5), .ref (ad 6), .ref (ad 7)])), (ad 1, .inl (Y 0, 6, .inl (aI ((tlF tx ln 201 0 0 false tk nu (stA Kto)).2.2.2.2.2.2 1)))), (ad 2, .inl (Y 0, 6, .inl (aI ((tlF tx ln 201 0 0 false tk nu (stA Kto)).2.2.2.2.2.2 2)))), (ad 3, .inl (Y 0, 6, .inl (aI ((tlF tx ln 201 0 0 false tk nu (stA Kto)).2.2.2.2.2.2 3)))), (ad 4, .inl (Y 1, 6, .inl (aI ((tlF tx ln 201 0 0 false tk nu (stA Kto)).2.2.2.2.2.2 4)))), (ad 5, .inl (Y 1, 6, .inl (aI ((tlF tx ln 201 0 0 false tk nu (stA Kto)).2.2.2.2.2.2 5)))), (ad 6, .inl (Y 0, 7, .inl (aI ((tlF tx ln 201 0 0 false tk nu (stA Kto)).2.2.2.2.2.2 6)))), (ad 7, .inl (Y 0, 7, .inl (aI ((tlF tx ln 201 0 0 false tk nu (stA Kto)).2.2.2.2.2.2 7)))), (hto, .inr (0, [.int (iZ ((tlF tx ln 201 0 0 false tk nu (stA Kto)).2.2.2.2.2.2 0 0)), .int (iZ ((tlF tx ln 201 0 0 false tk nu (stA Kto)).2.2.2.2.2.2 0 1)), .int (iZ ((tlF tx ln 201 0 0 false tk nu (stA Kto)).2.2.2.2.2.2 0 2)), .int (iZ ((tlF tx ln 201 0 0 false tk nu (stA Kto)).2.2.2.2.2.2 0 3)), .int (iZ ((tlF tx ln 201 0 0 false tk nu (stA Kto)).2.2.2.2.2.2 0 4)), .int (iZ ((tlF tx ln 201 0 0 false tk nu (stA Kto)).2.2.2.2.2.2 0 5)), .int (iZ ((tlF tx ln 201 0 0 false tk nu (stA Kto)).2.2.2.2.2.2 0 6)), .ref (adto 1), .ref (adto 2), .ref (adto 3), .ref (adto 4), .ref (adto 5), .ref (adto 6), .ref (adto 7)])), (adto 1, .inl (Y 0, 6, .inl (aI ((tlF tx ln 201 0 0 false tk nu (stA Kto)).2.2.2.2.2.2 1)))), (adto 2, .inl (Y 0, 6, .inl (aI ((tlF tx ln 201 0 0 false tk nu (stA Kto)).2.2.2.2.2.2 2)))), (adto 3, .inl (Y 0, 6, .inl (aI ((tlF tx ln 201 0 0 false tk nu (stA Kto)).2.2.2.2.2.2 3)))), (adto 4, .inl (Y 1, 6, .inl (aI ((tlF tx ln 201 0 0 false tk nu (stA Kto)).2.2.2.2.2.2 4)))), (adto 5, .inl (Y 1, 6, .inl (aI ((tlF tx ln 201 0 0 false tk nu (stA Kto)).2.2.2.2.2.2 5)))), (adto 6, .inl (Y 0, 7, .inl (aI ((tlF tx ln 201 0 0 false tk nu (stA Kto)).2.2.2.2.2.2 6)))), (adto 7, .inl (Y 0, 7, .inl (aI ((tlF tx ln 201 0 0 false tk nu (stA Kto)).2.2.2.2.2.2 7)))), (h7, .inr (5, [.ref xa, .int (iZ 0), .int (iZ (((tlF tx ln 201 0 0 false tk nu (stA Kto)).2.2.1 : Nat) : Int)), .int (iZ (bZ ((tlF tx ln 201 0 0 false tk nu (stA Kto)).2.2.2.2.2.1))), .int (iZ (((tlF tx ln 201 0 0 false tk nu (stA Kto)).2.2.2.1 : Nat) : Int)), .int (iZ ((tlF tx ln 201 0 0 false tk nu (stA Kto)).2.2.2.2.1))])), (xa, .inl (Y 2, 200, .inl (aI tx))), (hv, .inr (6, [.ref h7, .ref h, .ref hto, .ref h3, .ref h4, .ref h5, .ref h6, .ref im, .ref ik])), (h3, .inr (2, [.ref kn, .int (iZ nx), .int (iZ sz)])), (kn, .inl (Y 3, 10, .inr (.inr (.inr (.inr (aR hk)))))), (h5, .inr (4, [.ref ta, .ref tb, .int (iZ n9)])), (ta, .inl (Y 0, 5, .inl (aI M))), (tb, .inl (Y 0, 5, .inl (aI T))), (ik, .inl (Y 1, 2, .inl (aI kp)))] H := hP
    replace hD : va_D _ [(h, .inr (0, [.int (iZ ((tlF tx ln 201 0 0 false tk nu (stA Kto)).2.2.2.2.2.2 0 0)), .int (iZ ((tlF tx ln 201 0 0 false tk nu (stA Kto)).2.2.2.2.2.2 0 1)), .int (iZ ((tlF tx ln 201 0 0 false tk nu (stA Kto)).2.2.2.2.2.2 0 2)), .int (iZ ((tlF tx ln 201 0 0 false tk nu (stA Kto)).2.2.2.2.2.2 0 3)), .int (iZ ((tlF tx ln 201 0 0 false tk nu (stA Kto)).2.2.2.2.2.2 0 4)), .int (iZ ((tlF tx ln 201 0 0 false tk nu (stA Kto)).2.2.2.2.2.2 0 5)), .int (iZ ((tlF tx ln 201 0 0 false tk nu (stA Kto)).2.2.2.2.2.2 0 6)), .ref (ad 1), .ref (ad 2), .ref (ad 3), .ref (ad 4), .ref (ad 5), .ref (ad 6), .ref (ad 7)])), (ad 1, .inl (Y 0, 6, .inl (aI ((tlF tx ln 201 0 0 false tk nu (stA Kto)).2.2.2.2.2.2 1)))), (ad 2, .inl (Y 0, 6, .inl (aI ((tlF tx ln 201 0 0 false tk nu (stA Kto)).2.2.2.2.2.2 2)))), (ad 3, .inl (Y 0, 6, .inl (aI ((tlF tx ln 201 0 0 false tk nu (stA Kto)).2.2.2.2.2.2 3)))), (ad 4, .inl (Y 1, 6, .inl (aI ((tlF tx ln 201 0 0 false tk nu (stA Kto)).2.2.2.2.2.2 4)))), (ad 5, .inl (Y 1, 6, .inl (aI ((tlF tx ln 201 0 0 false tk nu (stA Kto)).2.2.2.2.2.2 5)))), (ad 6, .inl (Y 0, 7, .inl (aI ((tlF tx ln 201 0 0 false tk nu (stA Kto)).2.2.2.2.2.2 6)))), (ad 7, .inl (Y 0, 7, .inl (aI ((tlF tx ln 201 0 0 false tk nu (stA Kto)).2.2.2.2.2.2 7)))), (hto, .inr (0, [.int (iZ ((tlF tx ln 201 0 0 false tk nu (stA Kto)).2.2.2.2.2.2 0 0)), .int (iZ ((tlF tx ln 201 0 0 false tk nu (stA Kto)).2.2.2.2.2.2 0 1)), .int (iZ ((tlF tx ln 201 0 0 false tk nu (stA Kto)).2.2.2.2.2.2 0 2)), .int (iZ ((tlF tx ln 201 0 0 false tk nu (stA Kto)).2.2.2.2.2.2 0 3)), .int (iZ ((tlF tx ln 201 0 0 false tk nu (stA Kto)).2.2.2.2.2.2 0 4)), .int (iZ ((tlF tx ln 201 0 0 false tk nu (stA Kto)).2.2.2.2.2.2 0 5)), .int (iZ ((tlF tx ln 201 0 0 false tk nu (stA Kto)).2.2.2.2.2.2 0 6)), .ref (adto 1), .ref (adto 2), .ref (adto 3), .ref (adto 4), .ref (adto 5), .ref (adto 6), .ref (adto 7)])), (adto 1, .inl (Y 0, 6, .inl (aI ((tlF tx ln 201 0 0 false tk nu (stA Kto)).2.2.2.2.2.2 1)))), (adto 2, .inl (Y 0, 6, .inl (aI ((tlF tx ln 201 0 0 false tk nu (stA Kto)).2.2.2.2.2.2 2)))), (adto 3, .inl (Y 0, 6, .inl (aI ((tlF tx ln 201 0 0 false tk nu (stA Kto)).2.2.2.2.2.2 3)))), (adto 4, .inl (Y 1, 6, .inl (aI ((tlF tx ln 201 0 0 false tk nu (stA Kto)).2.2.2.2.2.2 4)))), (adto 5, .inl (Y 1, 6, .inl (aI ((tlF tx ln 201 0 0 false tk nu (stA Kto)).2.2.2.2.2.2 5)))), (adto 6, .inl (Y 0, 7, .inl (aI ((tlF tx ln 201 0 0 false tk nu (stA Kto)).2.2.2.2.2.2 6)))), (adto 7, .inl (Y 0, 7, .inl (aI ((tlF tx ln 201 0 0 false tk nu (stA Kto)).2.2.2.2.2.2 7)))), (h7, .inr (5, [.ref xa, .int (iZ 0), .int (iZ (((tlF tx ln 201 0 0 false tk nu (stA Kto)).2.2.1 : Nat) : Int)), .int (iZ (bZ ((tlF tx ln 201 0 0 false tk nu (stA Kto)).2.2.2.2.2.1))), .int (iZ (((tlF tx ln 201 0 0 false tk nu (stA Kto)).2.2.2.1 : Nat) : Int)), .int (iZ ((tlF tx ln 201 0 0 false tk nu (stA Kto)).2.2.2.2.1))])), (xa, .inl (Y 2, 200, .inl (aI tx))), (hv, .inr (6, [.ref h7, .ref h, .ref hto, .ref h3, .ref h4, .ref h5, .ref h6, .ref im, .ref ik])), (h3, .inr (2, [.ref kn, .int (iZ nx), .int (iZ sz)])), (kn, .inl (Y 3, 10, .inr (.inr (.inr (.inr (aR hk)))))), (h5, .inr (4, [.ref ta, .ref tb, .int (iZ n9)])), (ta, .inl (Y 0, 5, .inl (aI M))), (tb, .inl (Y 0, 5, .inl (aI T))), (ik, .inl (Y 1, 2, .inl (aI kp)))] := hD
    refine lv_aload_n hx hb dX6_commune_37 rfl (lv_at hl 1 rfl) ?_
    refine va_get (D := G) (ci := 6) (v := .ref h3) (C := RX6) (T := TX6) (N := 9) hx hb hts hFX6 hown hK.1 hP 18 rfl rfl 3 (by decide) kf29 (fun _ h9 => h9) rfl dX6_commune_38 ?_
    have hP := hP.sub (ws' := [(h3, .inr (2, [.ref kn, .int (iZ nx), .int (iZ sz)])), (kn, .inl (Y 3, 10, .inr (.inr (.inr (.inr (aR hk))))))] ++ [(h, .inr (0, [.int (iZ ((tlF tx ln 201 0 0 false tk nu (stA Kto)).2.2.2.2.2.2 0 0)), .int (iZ ((tlF tx ln 201 0 0 false tk nu (stA Kto)).2.2.2.2.2.2 0 1)), .int (iZ ((tlF tx ln 201 0 0 false tk nu (stA Kto)).2.2.2.2.2.2 0 2)), .int (iZ ((tlF tx ln 201 0 0 false tk nu (stA Kto)).2.2.2.2.2.2 0 3)), .int (iZ ((tlF tx ln 201 0 0 false tk nu (stA Kto)).2.2.2.2.2.2 0 4)), .int (iZ ((tlF tx ln 201 0 0 false tk nu (stA Kto)).2.2.2.2.2.2 0 5)), .int (iZ ((tlF tx ln 201 0 0 false tk nu (stA Kto)).2.2.2.2.2.2 0 6)), .ref (ad 1), .ref (ad 2), .ref (ad 3), .ref (ad 4), .ref (ad 5), .ref (ad 6), .ref (ad 7)])), (ad 1, .inl (Y 0, 6, .inl (aI ((tlF tx ln 201 0 0 false tk nu (stA Kto)).2.2.2.2.2.2 1)))), (ad 2, .inl (Y 0, 6, .inl (aI ((tlF tx ln 201 0 0 false tk nu (stA Kto)).2.2.2.2.2.2 2)))), (ad 3, .inl (Y 0, 6, .inl (aI ((tlF tx ln 201 0 0 false tk nu (stA Kto)).2.2.2.2.2.2 3)))), (ad 4, .inl (Y 1, 6, .inl (aI ((tlF tx ln 201 0 0 false tk nu (stA Kto)).2.2.2.2.2.2 4)))), (ad 5, .inl (Y 1, 6, .inl (aI ((tlF tx ln 201 0 0 false tk nu (stA Kto)).2.2.2.2.2.2 5)))), (ad 6, .inl (Y 0, 7, .inl (aI ((tlF tx ln 201 0 0 false tk nu (stA Kto)).2.2.2.2.2.2 6)))), (ad 7, .inl (Y 0, 7, .inl (aI ((tlF tx ln 201 0 0 false tk nu (stA Kto)).2.2.2.2.2.2 7)))), (hto, .inr (0, [.int (iZ ((tlF tx ln 201 0 0 false tk nu (stA Kto)).2.2.2.2.2.2 0 0)), .int (iZ ((tlF tx ln 201 0 0 false tk nu (stA Kto)).2.2.2.2.2.2 0 1)), .int (iZ ((tlF tx ln 201 0 0 false tk nu (stA Kto)).2.2.2.2.2.2 0 2)), .int (iZ ((tlF tx ln 201 0 0 false tk nu (stA Kto)).2.2.2.2.2.2 0 3)), .int (iZ ((tlF tx ln 201 0 0 false tk nu (stA Kto)).2.2.2.2.2.2 0 4)), .int (iZ ((tlF tx ln 201 0 0 false tk nu (stA Kto)).2.2.2.2.2.2 0 5)), .int (iZ ((tlF tx ln 201 0 0 false tk nu (stA Kto)).2.2.2.2.2.2 0 6)), .ref (adto 1), .ref (adto 2), .ref (adto 3), .ref (adto 4), .ref (adto 5), .ref (adto 6), .ref (adto 7)])), (adto 1, .inl (Y 0, 6, .inl (aI ((tlF tx ln 201 0 0 false tk nu (stA Kto)).2.2.2.2.2.2 1)))), (adto 2, .inl (Y 0, 6, .inl (aI ((tlF tx ln 201 0 0 false tk nu (stA Kto)).2.2.2.2.2.2 2)))), (adto 3, .inl (Y 0, 6, .inl (aI ((tlF tx ln 201 0 0 false tk nu (stA Kto)).2.2.2.2.2.2 3)))), (adto 4, .inl (Y 1, 6, .inl (aI ((tlF tx ln 201 0 0 false tk nu (stA Kto)).2.2.2.2.2.2 4)))), (adto 5, .inl (Y 1, 6, .inl (aI ((tlF tx ln 201 0 0 false tk nu (stA Kto)).2.2.2.2.2.2 5)))), (adto 6, .inl (Y 0, 7, .inl (aI ((tlF tx ln 201 0 0 false tk nu (stA Kto)).2.2.2.2.2.2 6)))), (adto 7, .inl (Y 0, 7, .inl (aI ((tlF tx ln 201 0 0 false tk nu (stA Kto)).2.2.2.2.2.2 7)))), (h7, .inr (5, [.ref xa, .int (iZ 0), .int (iZ (((tlF tx ln 201 0 0 false tk nu (stA Kto)).2.2.1 : Nat) : Int)), .int (iZ (bZ ((tlF tx ln 201 0 0 false tk nu (stA Kto)).2.2.2.2.2.1))), .int (iZ (((tlF tx ln 201 0 0 false tk nu (stA Kto)).2.2.2.1 : Nat) : Int)), .int (iZ ((tlF tx ln 201 0 0 false tk nu (stA Kto)).2.2.2.2.1))])), (xa, .inl (Y 2, 200, .inl (aI tx))), (hv, .inr (6, [.ref h7, .ref h, .ref hto, .ref h3, .ref h4, .ref h5, .ref h6, .ref im, .ref ik])), (h5, .inr (4, [.ref ta, .ref tb, .int (iZ n9)])), (ta, .inl (Y 0, 5, .inl (aI M))), (tb, .inl (Y 0, 5, .inl (aI T))), (ik, .inl (Y 1, 2, .inl (aI kp)))]) [19, 20, 0, 1, 2, 3, 4, 5, 6, 7, 8, 9, 10, 11, 12, 13, 14, 15, 16, 17, 18, 21, 22, 23, 24] rfl
    have hD := hD.sub (ws' := [(h3, .inr (2, [.ref kn, .int (iZ nx), .int (iZ sz)])), (kn, .inl (Y 3, 10, .inr (.inr (.inr (.inr (aR hk))))))] ++ [(h, .inr (0, [.int (iZ ((tlF tx ln 201 0 0 false tk nu (stA Kto)).2.2.2.2.2.2 0 0)), .int (iZ ((tlF tx ln 201 0 0 false tk nu (stA Kto)).2.2.2.2.2.2 0 1)), .int (iZ ((tlF tx ln 201 0 0 false tk nu (stA Kto)).2.2.2.2.2.2 0 2)), .int (iZ ((tlF tx ln 201 0 0 false tk nu (stA Kto)).2.2.2.2.2.2 0 3)), .int (iZ ((tlF tx ln 201 0 0 false tk nu (stA Kto)).2.2.2.2.2.2 0 4)), .int (iZ ((tlF tx ln 201 0 0 false tk nu (stA Kto)).2.2.2.2.2.2 0 5)), .int (iZ ((tlF tx ln 201 0 0 false tk nu (stA Kto)).2.2.2.2.2.2 0 6)), .ref (ad 1), .ref (ad 2), .ref (ad 3), .ref (ad 4), .ref (ad 5), .ref (ad 6), .ref (ad 7)])), (ad 1, .inl (Y 0, 6, .inl (aI ((tlF tx ln 201 0 0 false tk nu (stA Kto)).2.2.2.2.2.2 1)))), (ad 2, .inl (Y 0, 6, .inl (aI ((tlF tx ln 201 0 0 false tk nu (stA Kto)).2.2.2.2.2.2 2)))), (ad 3, .inl (Y 0, 6, .inl (aI ((tlF tx ln 201 0 0 false tk nu (stA Kto)).2.2.2.2.2.2 3)))), (ad 4, .inl (Y 1, 6, .inl (aI ((tlF tx ln 201 0 0 false tk nu (stA Kto)).2.2.2.2.2.2 4)))), (ad 5, .inl (Y 1, 6, .inl (aI ((tlF tx ln 201 0 0 false tk nu (stA Kto)).2.2.2.2.2.2 5)))), (ad 6, .inl (Y 0, 7, .inl (aI ((tlF tx ln 201 0 0 false tk nu (stA Kto)).2.2.2.2.2.2 6)))), (ad 7, .inl (Y 0, 7, .inl (aI ((tlF tx ln 201 0 0 false tk nu (stA Kto)).2.2.2.2.2.2 7)))), (hto, .inr (0, [.int (iZ ((tlF tx ln 201 0 0 false tk nu (stA Kto)).2.2.2.2.2.2 0 0)), .int (iZ ((tlF tx ln 201 0 0 false tk nu (stA Kto)).2.2.2.2.2.2 0 1)), .int (iZ ((tlF tx ln 201 0 0 false tk nu (stA Kto)).2.2.2.2.2.2 0 2)), .int (iZ ((tlF tx ln 201 0 0 false tk nu (stA Kto)).2.2.2.2.2.2 0 3)), .int (iZ ((tlF tx ln 201 0 0 false tk nu (stA Kto)).2.2.2.2.2.2 0 4)), .int (iZ ((tlF tx ln 201 0 0 false tk nu (stA Kto)).2.2.2.2.2.2 0 5)), .int (iZ ((tlF tx ln 201 0 0 false tk nu (stA Kto)).2.2.2.2.2.2 0 6)), .ref (adto 1), .ref (adto 2), .ref (adto 3), .ref (adto 4), .ref (adto 5), .ref (adto 6), .ref (adto 7)])), (adto 1, .inl (Y 0, 6, .inl (aI ((tlF tx ln 201 0 0 false tk nu (stA Kto)).2.2.2.2.2.2 1)))), (adto 2, .inl (Y 0, 6, .inl (aI ((tlF tx ln 201 0 0 false tk nu (stA Kto)).2.2.2.2.2.2 2)))), (adto 3, .inl (Y 0, 6, .inl (aI ((tlF tx ln 201 0 0 false tk nu (stA Kto)).2.2.2.2.2.2 3)))), (adto 4, .inl (Y 1, 6, .inl (aI ((tlF tx ln 201 0 0 false tk nu (stA Kto)).2.2.2.2.2.2 4)))), (adto 5, .inl (Y 1, 6, .inl (aI ((tlF tx ln 201 0 0 false tk nu (stA Kto)).2.2.2.2.2.2 5)))), (adto 6, .inl (Y 0, 7, .inl (aI ((tlF tx ln 201 0 0 false tk nu (stA Kto)).2.2.2.2.2.2 6)))), (adto 7, .inl (Y 0, 7, .inl (aI ((tlF tx ln 201 0 0 false tk nu (stA Kto)).2.2.2.2.2.2 7)))), (h7, .inr (5, [.ref xa, .int (iZ 0), .int (iZ (((tlF tx ln 201 0 0 false tk nu (stA Kto)).2.2.1 : Nat) : Int)), .int (iZ (bZ ((tlF tx ln 201 0 0 false tk nu (stA Kto)).2.2.2.2.2.1))), .int (iZ (((tlF tx ln 201 0 0 false tk nu (stA Kto)).2.2.2.1 : Nat) : Int)), .int (iZ ((tlF tx ln 201 0 0 false tk nu (stA Kto)).2.2.2.2.1))])), (xa, .inl (Y 2, 200, .inl (aI tx))), (hv, .inr (6, [.ref h7, .ref h, .ref hto, .ref h3, .ref h4, .ref h5, .ref h6, .ref im, .ref ik])), (h5, .inr (4, [.ref ta, .ref tb, .int (iZ n9)])), (ta, .inl (Y 0, 5, .inl (aI M))), (tb, .inl (Y 0, 5, .inl (aI T))), (ik, .inl (Y 1, 2, .inl (aI kp)))]) [19, 20, 0, 1, 2, 3, 4, 5, 6, 7, 8, 9, 10, 11, 12, 13, 14, 15, 16, 17, 18, 21, 22, 23, 24] (by decide) rfl
    refine mu_V (As := []) (rest := []) (wc := [(h3, .inr (2, [.ref kn, .int (iZ nx), .int (iZ sz)])), (kn, .inl (Y 3, 10, .inr (.inr (.inr (.inr (aR hk))))))]) (wc' := paW Y h3 kn hk nx 0) (F := [(h, .inr (0, [.int (iZ ((tlF tx ln 201 0 0 false tk nu (stA Kto)).2.2.2.2.2.2 0 0)), .int (iZ ((tlF tx ln 201 0 0 false tk nu (stA Kto)).2.2.2.2.2.2 0 1)), .int (iZ ((tlF tx ln 201 0 0 false tk nu (stA Kto)).2.2.2.2.2.2 0 2)), .int (iZ ((tlF tx ln 201 0 0 false tk nu (stA Kto)).2.2.2.2.2.2 0 3)), .int (iZ ((tlF tx ln 201 0 0 false tk nu (stA Kto)).2.2.2.2.2.2 0 4)), .int (iZ ((tlF tx ln 201 0 0 false tk nu (stA Kto)).2.2.2.2.2.2 0 5)), .int (iZ ((tlF tx ln 201 0 0 false tk nu (stA Kto)).2.2.2.2.2.2 0 6)), .ref (ad 1), .ref (ad 2), .ref (ad 3), .ref (ad 4), .ref (ad 5), .ref (ad 6), .ref (ad 7)])), (ad 1, .inl (Y 0, 6, .inl (aI ((tlF tx ln 201 0 0 false tk nu (stA Kto)).2.2.2.2.2.2 1)))), (ad 2, .inl (Y 0, 6, .inl (aI ((tlF tx ln 201 0 0 false tk nu (stA Kto)).2.2.2.2.2.2 2)))), (ad 3, .inl (Y 0, 6, .inl (aI ((tlF tx ln 201 0 0 false tk nu (stA Kto)).2.2.2.2.2.2 3)))), (ad 4, .inl (Y 1, 6, .inl (aI ((tlF tx ln 201 0 0 false tk nu (stA Kto)).2.2.2.2.2.2 4)))), (ad 5, .inl (Y 1, 6, .inl (aI ((tlF tx ln 201 0 0 false tk nu (stA Kto)).2.2.2.2.2.2 5)))), (ad 6, .inl (Y 0, 7, .inl (aI ((tlF tx ln 201 0 0 false tk nu (stA Kto)).2.2.2.2.2.2 6)))), (ad 7, .inl (Y 0, 7, .inl (aI ((tlF tx ln 201 0 0 false tk nu (stA Kto)).2.2.2.2.2.2 7)))), (hto, .inr (0, [.int (iZ ((tlF tx ln 201 0 0 false tk nu (stA Kto)).2.2.2.2.2.2 0 0)), .int (iZ ((tlF tx ln 201 0 0 false tk nu (stA Kto)).2.2.2.2.2.2 0 1)), .int (iZ ((tlF tx ln 201 0 0 false tk nu (stA Kto)).2.2.2.2.2.2 0 2)), .int (iZ ((tlF tx ln 201 0 0 false tk nu (stA Kto)).2.2.2.2.2.2 0 3)), .int (iZ ((tlF tx ln 201 0 0 false tk nu (stA Kto)).2.2.2.2.2.2 0 4)), .int (iZ ((tlF tx ln 201 0 0 false tk nu (stA Kto)).2.2.2.2.2.2 0 5)), .int (iZ ((tlF tx ln 201 0 0 false tk nu (stA Kto)).2.2.2.2.2.2 0 6)), .ref (adto 1), .ref (adto 2), .ref (adto 3), .ref (adto 4), .ref (adto 5), .ref (adto 6), .ref (adto 7)])), (adto 1, .inl (Y 0, 6, .inl (aI ((tlF tx ln 201 0 0 false tk nu (stA Kto)).2.2.2.2.2.2 1)))), (adto 2, .inl (Y 0, 6, .inl (aI ((tlF tx ln 201 0 0 false tk nu (stA Kto)).2.2.2.2.2.2 2)))), (adto 3, .inl (Y 0, 6, .inl (aI ((tlF tx ln 201 0 0 false tk nu (stA Kto)).2.2.2.2.2.2 3)))), (adto 4, .inl (Y 1, 6, .inl (aI ((tlF tx ln 201 0 0 false tk nu (stA Kto)).2.2.2.2.2.2 4)))), (adto 5, .inl (Y 1, 6, .inl (aI ((tlF tx ln 201 0 0 false tk nu (stA Kto)).2.2.2.2.2.2 5)))), (adto 6, .inl (Y 0, 7, .inl (aI ((tlF tx ln 201 0 0 false tk nu (stA Kto)).2.2.2.2.2.2 6)))), (adto 7, .inl (Y 0, 7, .inl (aI ((tlF tx ln 201 0 0 false tk nu (stA Kto)).2.2.2.2.2.2 7)))), (h7, .inr (5, [.ref xa, .int (iZ 0), .int (iZ (((tlF tx ln 201 0 0 false tk nu (stA Kto)).2.2.1 : Nat) : Int)), .int (iZ (bZ ((tlF tx ln 201 0 0 false tk nu (stA Kto)).2.2.2.2.2.1))), .int (iZ (((tlF tx ln 201 0 0 false tk nu (stA Kto)).2.2.2.1 : Nat) : Int)), .int (iZ ((tlF tx ln 201 0 0 false tk nu (stA Kto)).2.2.2.2.1))])), (xa, .inl (Y 2, 200, .inl (aI tx))), (hv, .inr (6, [.ref h7, .ref h, .ref hto, .ref h3, .ref h4, .ref h5, .ref h6, .ref im, .ref ik])), (h5, .inr (4, [.ref ta, .ref tb, .int (iZ n9)])), (ta, .inl (Y 0, 5, .inl (aI M))), (tb, .inl (Y 0, 5, .inl (aI T))), (ik, .inl (Y 1, 2, .inl (aI kp)))]) ⟨hx, hb, hml, hown, hts⟩ (c_X2_lose l G Y h3 kn hk nx sz) (cwV 0 hts gX6_commune_X2_lose rfl rfl rfl (by decide +kernel) ⟨Nat.le_of_ble_eq_true rfl, Nat.le_of_ble_eq_true rfl⟩) hK hP hD hS 0 rfl rfl (Eq.refl [h3, kn]) rfl hl.1 rfl (Nat.le_of_ble_eq_true rfl) dX6_commune_41 ⟨Nat.zero_le _, Nat.zero_le _⟩ (fun H locs hP hD hS => ?_)
    show W _ _ _ _ _ _ _ _ _ _ _ _ _ _ _ (F0 _ _ _ [])
    replace hP : va_P G vwCl [(h3, .inr (2, [.ref kn, .int (iZ nx), .int (iZ 0)])), (kn, .inl (Y 3, 10, .inr (.inr (.inr (.inr (aR hk)))))), (h, .inr (0, [.int (iZ ((tlF tx ln 201 0 0 false tk nu (stA Kto)).2.2.2.2.2.2 0 0)), .int (iZ ((tlF tx ln 201 0 0 false tk nu (stA Kto)).2.2.2.2.2.2 0 1)), .int (iZ ((tlF tx ln 201 0 0 false tk nu (stA Kto)).2.2.2.2.2.2 0 2)), .int (iZ ((tlF tx ln 201 0 0 false tk nu (stA Kto)).2.2.2.2.2.2 0 3)), .int (iZ ((tlF tx ln 201 0 0 false tk nu (stA Kto)).2.2.2.2.2.2 0 4)), .int (iZ ((tlF tx ln 201 0 0 false tk nu (stA Kto)).2.2.2.2.2.2 0 5)), .int (iZ ((tlF tx ln 201 0 0 false tk nu (stA Kto)).2.2.2.2.2.2 0 6)), .ref (ad 1), .ref (ad 2), .ref (ad 3), .ref (ad 4), .ref (ad 5), .ref (ad 6), .ref (ad 7)])), (ad 1, .inl (Y 0, 6, .inl (aI ((tlF tx ln 201 0 0 false tk nu (stA Kto)).2.2.2.2.2.2 1)))), (ad 2, .inl (Y 0, 6, .inl (aI ((tlF tx ln 201 0 0 false tk nu (stA Kto)).2.2.2.2.2.2 2)))), (ad 3, .inl (Y 0, 6, .inl (aI ((tlF tx ln 201 0 0 false tk nu (stA Kto)).2.2.2.2.2.2 3)))), (ad 4, .inl (Y 1, 6, .inl (aI ((tlF tx ln 201 0 0 false tk nu (stA Kto)).2.2.2.2.2.2 4)))), (ad 5, .inl (Y 1, 6, .inl (aI ((tlF tx ln 201 0 0 false tk nu (stA Kto)).2.2.2.2.2.2 5)))), (ad 6, .inl (Y 0, 7, .inl (aI ((tlF tx ln 201 0 0 false tk nu (stA Kto)).2.2.2.2.2.2 6)))), (ad 7, .inl (Y 0, 7, .inl (aI ((tlF tx ln 201 0 0 false tk nu (stA Kto)).2.2.2.2.2.2 7)))), (hto, .inr (0, [.int (iZ ((tlF tx ln 201 0 0 false tk nu (stA Kto)).2.2.2.2.2.2 0 0)), .int (iZ ((tlF tx ln 201 0 0 false tk nu (stA Kto)).2.2.2.2.2.2 0 1)), .int (iZ ((tlF tx ln 201 0 0 false tk nu (stA Kto)).2.2.2.2.2.2 0 2)), .int (iZ ((tlF tx ln 201 0 0 false tk nu (stA Kto)).2.2.2.2.2.2 0 3)), .int (iZ ((tlF tx ln 201 0 0 false tk nu (stA Kto)).2.2.2.2.2.2 0 4)), .int (iZ ((tlF tx ln 201 0 0 false tk nu (stA Kto)).2.2.2.2.2.2 0 5)), .int (iZ ((tlF tx ln 201 0 0 false tk nu (stA Kto)).2.2.2.2.2.2 0 6)), .ref (adto 1), .ref (adto 2), .ref (adto 3), .ref (adto 4), .ref (adto 5), .ref (adto 6), .ref (adto 7)])), (adto 1, .inl (Y 0, 6, .inl (aI ((tlF tx ln 201 0 0 false tk nu (stA Kto)).2.2.2.2.2.2 1)))), (adto 2, .inl (Y 0, 6, .inl (aI ((tlF tx ln 201 0 0 false tk nu (stA Kto)).2.2.2.2.2.2 2)))), (adto 3, .inl (Y 0, 6, .inl (aI ((tlF tx ln 201 0 0 false tk nu (stA Kto)).2.2.2.2.2.2 3)))), (adto 4, .inl (Y 1, 6, .inl (aI ((tlF tx ln 201 0 0 false tk nu (stA Kto)).2.2.2.2.2.2 4)))), (adto 5, .inl (Y 1, 6, .inl (aI ((tlF tx ln 201 0 0 false tk nu (stA Kto)).2.2.2.2.2.2 5)))), (adto 6, .inl (Y 0, 7, .inl (aI ((tlF tx ln 201 0 0 false tk nu (stA Kto)).2.2.2.2.2.2 6)))), (adto 7, .inl (Y 0, 7, .inl (aI ((tlF tx ln 201 0 0 false tk nu (stA Kto)).2.2.2.2.2.2 7)))), (h7, .inr (5, [.ref xa, .int (iZ 0), .int (iZ (((tlF tx ln 201 0 0 false tk nu (stA Kto)).2.2.1 : Nat) : Int)), .int (iZ (bZ ((tlF tx ln 201 0 0 false tk nu (stA Kto)).2.2.2.2.2.1))), .int (iZ (((tlF tx ln 201 0 0 false tk nu (stA Kto)).2.2.2.1 : Nat) : Int)), .int (iZ ((tlF tx ln 201 0 0 false tk nu (stA Kto)).2.2.2.2.1))])), (xa, .inl (Y 2, 200, .inl (aI tx))), (hv, .inr (6, [.ref h7, .ref h, .ref hto, .ref h3, .ref h4, .ref h5, .ref h6, .ref im, .ref ik])), (h5, .inr (4, [.ref ta, .ref tb, .int (iZ n9)])), (ta, .inl (Y 0, 5, .inl (aI M))), (tb, .inl (Y 0, 5, .inl (aI T))), (ik, .inl (Y 1, 2, .inl (aI kp)))] H := hP
    replace hD : va_D _ [(h3, .inr (2, [.ref kn, .int (iZ nx), .int (iZ 0)])), (kn, .inl (Y 3, 10, .inr (.inr (.inr (.inr (aR hk)))))), (h, .inr (0, [.int (iZ ((tlF tx ln 201 0 0 false tk nu (stA Kto)).2.2.2.2.2.2 0 0)), .int (iZ ((tlF tx ln 201 0 0 false tk nu (stA Kto)).2.2.2.2.2.2 0 1)), .int (iZ ((tlF tx ln 201 0 0 false tk nu (stA Kto)).2.2.2.2.2.2 0 2)), .int (iZ ((tlF tx ln 201 0 0 false tk nu (stA Kto)).2.2.2.2.2.2 0 3)), .int (iZ ((tlF tx ln 201 0 0 false tk nu (stA Kto)).2.2.2.2.2.2 0 4)), .int (iZ ((tlF tx ln 201 0 0 false tk nu (stA Kto)).2.2.2.2.2.2 0 5)), .int (iZ ((tlF tx ln 201 0 0 false tk nu (stA Kto)).2.2.2.2.2.2 0 6)), .ref (ad 1), .ref (ad 2), .ref (ad 3), .ref (ad 4), .ref (ad 5), .ref (ad 6), .ref (ad 7)])), (ad 1, .inl (Y 0, 6, .inl (aI ((tlF tx ln 201 0 0 false tk nu (stA Kto)).2.2.2.2.2.2 1)))), (ad 2, .inl (Y 0, 6, .inl (aI ((tlF tx ln 201 0 0 false tk nu (stA Kto)).2.2.2.2.2.2 2)))), (ad 3, .inl (Y 0, 6, .inl (aI ((tlF tx ln 201 0 0 false tk nu (stA Kto)).2.2.2.2.2.2 3)))), (ad 4, .inl (Y 1, 6, .inl (aI ((tlF tx ln 201 0 0 false tk nu (stA Kto)).2.2.2.2.2.2 4)))), (ad 5, .inl (Y 1, 6, .inl (aI ((tlF tx ln 201 0 0 false tk nu (stA Kto)).2.2.2.2.2.2 5)))), (ad 6, .inl (Y 0, 7, .inl (aI ((tlF tx ln 201 0 0 false tk nu (stA Kto)).2.2.2.2.2.2 6)))), (ad 7, .inl (Y 0, 7, .inl (aI ((tlF tx ln 201 0 0 false tk nu (stA Kto)).2.2.2.2.2.2 7)))), (hto, .inr (0, [.int (iZ ((tlF tx ln 201 0 0 false tk nu (stA Kto)).2.2.2.2.2.2 0 0)), .int (iZ ((tlF tx ln 201 0 0 false tk nu (stA Kto)).2.2.2.2.2.2 0 1)), .int (iZ ((tlF tx ln 201 0 0 false tk nu (stA Kto)).2.2.2.2.2.2 0 2)), .int (iZ ((tlF tx ln 201 0 0 false tk nu (stA Kto)).2.2.2.2.2.2 0 3)), .int (iZ ((tlF tx ln 201 0 0 false tk nu (stA Kto)).2.2.2.2.2.2 0 4)), .int (iZ ((tlF tx ln 201 0 0 false tk nu (stA Kto)).2.2.2.2.2.2 0 5)), .int (iZ ((tlF tx ln 201 0 0 false tk nu (stA Kto)).2.2.2.2.2.2 0 6)), .ref (adto 1), .ref (adto 2), .ref (adto 3), .ref (adto 4), .ref (adto 5), .ref (adto 6), .ref (adto 7)])), (adto 1, .inl (Y 0, 6, .inl (aI ((tlF tx ln 201 0 0 false tk nu (stA Kto)).2.2.2.2.2.2 1)))), (adto 2, .inl (Y 0, 6, .inl (aI ((tlF tx ln 201 0 0 false tk nu (stA Kto)).2.2.2.2.2.2 2)))), (adto 3, .inl (Y 0, 6, .inl (aI ((tlF tx ln 201 0 0 false tk nu (stA Kto)).2.2.2.2.2.2 3)))), (adto 4, .inl (Y 1, 6, .inl (aI ((tlF tx ln 201 0 0 false tk nu (stA Kto)).2.2.2.2.2.2 4)))), (adto 5, .inl (Y 1, 6, .inl (aI ((tlF tx ln 201 0 0 false tk nu (stA Kto)).2.2.2.2.2.2 5)))), (adto 6, .inl (Y 0, 7, .inl (aI ((tlF tx ln 201 0 0 false tk nu (stA Kto)).2.2.2.2.2.2 6)))), (adto 7, .inl (Y 0, 7, .inl (aI ((tlF tx ln 201 0 0 false tk nu (stA Kto)).2.2.2.2.2.2 7)))), (h7, .inr (5, [.ref xa, .int (iZ 0), .int (iZ (((tlF tx ln 201 0 0 false tk nu (stA Kto)).2.2.1 : Nat) : Int)), .int (iZ (bZ ((tlF tx ln 201 0 0 false tk nu (stA Kto)).2.2.2.2.2.1))), .int (iZ (((tlF tx ln 201 0 0 false tk nu (stA Kto)).2.2.2.1 : Nat) : Int)), .int (iZ ((tlF tx ln 201 0 0 false tk nu (stA Kto)).2.2.2.2.1))])), (xa, .inl (Y 2, 200, .inl (aI tx))), (hv, .inr (6, [.ref h7, .ref h, .ref hto, .ref h3, .ref h4, .ref h5, .ref h6, .ref im, .ref ik])), (h5, .inr (4, [.ref ta, .ref tb, .int (iZ n9)])), (ta, .inl (Y 0, 5, .inl (aI M))), (tb, .inl (Y 0, 5, .inl (aI T))), (ik, .inl (Y 1, 2, .inl (aI kp)))] := hD
    refine lv_aload_n hx hb dX6_commune_44 rfl (lv_at hl 1 rfl) ?_
    refine va_get (D := G) (ci := 6) (v := .ref h5) (C := RX6) (T := TX6) (N := 9) hx hb hts hFX6 hown hK.1 hP 20 rfl rfl 5 (by decide) kf43 (fun _ h9 => h9) rfl dX6_commune_45 ?_
    have hP := hP.sub (ws' := [(h5, .inr (4, [.ref ta, .ref tb, .int (iZ n9)])), (ta, .inl (Y 0, 5, .inl (aI M))), (tb, .inl (Y 0, 5, .inl (aI T)))] ++ [(h3, .inr (2, [.ref kn, .int (iZ nx), .int (iZ 0)])), (kn, .inl (Y 3, 10, .inr (.inr (.inr (.inr (aR hk)))))), (h, .inr (0, [.int (iZ ((tlF tx ln 201 0 0 false tk nu (stA Kto)).2.2.2.2.2.2 0 0)), .int (iZ ((tlF tx ln 201 0 0 false tk nu (stA Kto)).2.2.2.2.2.2 0 1)), .int (iZ ((tlF tx ln 201 0 0 false tk nu (stA Kto)).2.2.2.2.2.2 0 2)), .int (iZ ((tlF tx ln 201 0 0 false tk nu (stA Kto)).2.2.2.2.2.2 0 3)), .int (iZ ((tlF tx ln 201 0 0 false tk nu (stA Kto)).2.2.2.2.2.2 0 4)), .int (iZ ((tlF tx ln 201 0 0 false tk nu (stA Kto)).2.2.2.2.2.2 0 5)), .int (iZ ((tlF tx ln 201 0 0 false tk nu (stA Kto)).2.2.2.2.2.2 0 6)), .ref (ad 1), .ref (ad 2), .ref (ad 3), .ref (ad 4), .ref (ad 5), .ref (ad 6), .ref (ad 7)])), (ad 1, .inl (Y 0, 6, .inl (aI ((tlF tx ln 201 0 0 false tk nu (stA Kto)).2.2.2.2.2.2 1)))), (ad 2, .inl (Y 0, 6, .inl (aI ((tlF tx ln 201 0 0 false tk nu (stA Kto)).2.2.2.2.2.2 2)))), (ad 3, .inl (Y 0, 6, .inl (aI ((tlF tx ln 201 0 0 false tk nu (stA Kto)).2.2.2.2.2.2 3)))), (ad 4, .inl (Y 1, 6, .inl (aI ((tlF tx ln 201 0 0 false tk nu (stA Kto)).2.2.2.2.2.2 4)))), (ad 5, .inl (Y 1, 6, .inl (aI ((tlF tx ln 201 0 0 false tk nu (stA Kto)).2.2.2.2.2.2 5)))), (ad 6, .inl (Y 0, 7, .inl (aI ((tlF tx ln 201 0 0 false tk nu (stA Kto)).2.2.2.2.2.2 6)))), (ad 7, .inl (Y 0, 7, .inl (aI ((tlF tx ln 201 0 0 false tk nu (stA Kto)).2.2.2.2.2.2 7)))), (hto, .inr (0, [.int (iZ ((tlF tx ln 201 0 0 false tk nu (stA Kto)).2.2.2.2.2.2 0 0)), .int (iZ ((tlF tx ln 201 0 0 false tk nu (stA Kto)).2.2.2.2.2.2 0 1)), .int (iZ ((tlF tx ln 201 0 0 false tk nu (stA Kto)).2.2.2.2.2.2 0 2)), .int (iZ ((tlF tx ln 201 0 0 false tk nu (stA Kto)).2.2.2.2.2.2 0 3)), .int (iZ ((tlF tx ln 201 0 0 false tk nu (stA Kto)).2.2.2.2.2.2 0 4)), .int (iZ ((tlF tx ln 201 0 0 false tk nu (stA Kto)).2.2.2.2.2.2 0 5)), .int (iZ ((tlF tx ln 201 0 0 false tk nu (stA Kto)).2.2.2.2.2.2 0 6)), .ref (adto 1), .ref (adto 2), .ref (adto 3), .ref (adto 4), .ref (adto 5), .ref (adto 6), .ref (adto 7)])), (adto 1, .inl (Y 0, 6, .inl (aI ((tlF tx ln 201 0 0 false tk nu (stA Kto)).2.2.2.2.2.2 1)))), (adto 2, .inl (Y 0, 6, .inl (aI ((tlF tx ln 201 0 0 false tk nu (stA Kto)).2.2.2.2.2.2 2)))), (adto 3, .inl (Y 0, 6, .inl (aI ((tlF tx ln 201 0 0 false tk nu (stA Kto)).2.2.2.2.2.2 3)))), (adto 4, .inl (Y 1, 6, .inl (aI ((tlF tx ln 201 0 0 false tk nu (stA Kto)).2.2.2.2.2.2 4)))), (adto 5, .inl (Y 1, 6, .inl (aI ((tlF tx ln 201 0 0 false tk nu (stA Kto)).2.2.2.2.2.2 5)))), (adto 6, .inl (Y 0, 7, .inl (aI ((tlF tx ln 201 0 0 false tk nu (stA Kto)).2.2.2.2.2.2 6)))), (adto 7, .inl (Y 0, 7, .inl (aI ((tlF tx ln 201 0 0 false tk nu (stA Kto)).2.2.2.2.2.2 7)))), (h7, .inr (5, [.ref xa, .int (iZ 0), .int (iZ (((tlF tx ln 201 0 0 false tk nu (stA Kto)).2.2.1 : Nat) : Int)), .int (iZ (bZ ((tlF tx ln 201 0 0 false tk nu (stA Kto)).2.2.2.2.2.1))), .int (iZ (((tlF tx ln 201 0 0 false tk nu (stA Kto)).2.2.2.1 : Nat) : Int)), .int (iZ ((tlF tx ln 201 0 0 false tk nu (stA Kto)).2.2.2.2.1))])), (xa, .inl (Y 2, 200, .inl (aI tx))), (hv, .inr (6, [.ref h7, .ref h, .ref hto, .ref h3, .ref h4, .ref h5, .ref h6, .ref im, .ref ik])), (ik, .inl (Y 1, 2, .inl (aI kp)))]) [21, 22, 23, 0, 1, 2, 3, 4, 5, 6, 7, 8, 9, 10, 11, 12, 13, 14, 15, 16, 17, 18, 19, 20, 24] rfl
    have hD := hD.sub (ws' := [(h5, .inr (4, [.ref ta, .ref tb, .int (iZ n9)])), (ta, .inl (Y 0, 5, .inl (aI M))), (tb, .inl (Y 0, 5, .inl (aI T)))] ++ [(h3, .inr (2, [.ref kn, .int (iZ nx), .int (iZ 0)])), (kn, .inl (Y 3, 10, .inr (.inr (.inr (.inr (aR hk)))))), (h, .inr (0, [.int (iZ ((tlF tx ln 201 0 0 false tk nu (stA Kto)).2.2.2.2.2.2 0 0)), .int (iZ ((tlF tx ln 201 0 0 false tk nu (stA Kto)).2.2.2.2.2.2 0 1)), .int (iZ ((tlF tx ln 201 0 0 false tk nu (stA Kto)).2.2.2.2.2.2 0 2)), .int (iZ ((tlF tx ln 201 0 0 false tk nu (stA Kto)).2.2.2.2.2.2 0 3)), .int (iZ ((tlF tx ln 201 0 0 false tk nu (stA Kto)).2.2.2.2.2.2 0 4)), .int (iZ ((tlF tx ln 201 0 0 false tk nu (stA Kto)).2.2.2.2.2.2 0 5)), .int (iZ ((tlF tx ln 201 0 0 false tk nu (stA Kto)).2.2.2.2.2.2 0 6)), .ref (ad 1), .ref (ad 2), .ref (ad 3), .ref (ad 4), .ref (ad 5), .ref (ad 6), .ref (ad 7)])), (ad 1, .inl (Y 0, 6, .inl (aI ((tlF tx ln 201 0 0 false tk nu (stA Kto)).2.2.2.2.2.2 1)))), (ad 2, .inl (Y 0, 6, .inl (aI ((tlF tx ln 201 0 0 false tk nu (stA Kto)).2.2.2.2.2.2 2)))), (ad 3, .inl (Y 0, 6, .inl (aI ((tlF tx ln 201 0 0 false tk nu (stA Kto)).2.2.2.2.2.2 3)))), (ad 4, .inl (Y 1, 6, .inl (aI ((tlF tx ln 201 0 0 false tk nu (stA Kto)).2.2.2.2.2.2 4)))), (ad 5, .inl (Y 1, 6, .inl (aI ((tlF tx ln 201 0 0 false tk nu (stA Kto)).2.2.2.2.2.2 5)))), (ad 6, .inl (Y 0, 7, .inl (aI ((tlF tx ln 201 0 0 false tk nu (stA Kto)).2.2.2.2.2.2 6)))), (ad 7, .inl (Y 0, 7, .inl (aI ((tlF tx ln 201 0 0 false tk nu (stA Kto)).2.2.2.2.2.2 7)))), (hto, .inr (0, [.int (iZ ((tlF tx ln 201 0 0 false tk nu (stA Kto)).2.2.2.2.2.2 0 0)), .int (iZ ((tlF tx ln 201 0 0 false tk nu (stA Kto)).2.2.2.2.2.2 0 1)), .int (iZ ((tlF tx ln 201 0 0 false tk nu (stA Kto)).2.2.2.2.2.2 0 2)), .int (iZ ((tlF tx ln 201 0 0 false tk nu (stA Kto)).2.2.2.2.2.2 0 3)), .int (iZ ((tlF tx ln 201 0 0 false tk nu (stA Kto)).2.2.2.2.2.2 0 4)), .int (iZ ((tlF tx ln 201 0 0 false tk nu (stA Kto)).2.2.2.2.2.2 0 5)), .int (iZ ((tlF tx ln 201 0 0 false tk nu (stA Kto)).2.2.2.2.2.2 0 6)), .ref (adto 1), .ref (adto 2), .ref (adto 3), .ref (adto 4), .ref (adto 5), .ref (adto 6), .ref (adto 7)])), (adto 1, .inl (Y 0, 6, .inl (aI ((tlF tx ln 201 0 0 false tk nu (stA Kto)).2.2.2.2.2.2 1)))), (adto 2, .inl (Y 0, 6, .inl (aI ((tlF tx ln 201 0 0 false tk nu (stA Kto)).2.2.2.2.2.2 2)))), (adto 3, .inl (Y 0, 6, .inl (aI ((tlF tx ln 201 0 0 false tk nu (stA Kto)).2.2.2.2.2.2 3)))), (adto 4, .inl (Y 1, 6, .inl (aI ((tlF tx ln 201 0 0 false tk nu (stA Kto)).2.2.2.2.2.2 4)))), (adto 5, .inl (Y 1, 6, .inl (aI ((tlF tx ln 201 0 0 false tk nu (stA Kto)).2.2.2.2.2.2 5)))), (adto 6, .inl (Y 0, 7, .inl (aI ((tlF tx ln 201 0 0 false tk nu (stA Kto)).2.2.2.2.2.2 6)))), (adto 7, .inl (Y 0, 7, .inl (aI ((tlF tx ln 201 0 0 false tk nu (stA Kto)).2.2.2.2.2.2 7)))), (h7, .inr (5, [.ref xa, .int (iZ 0), .int (iZ (((tlF tx ln 201 0 0 false tk nu (stA Kto)).2.2.1 : Nat) : Int)), .int (iZ (bZ ((tlF tx ln 201 0 0 false tk nu (stA Kto)).2.2.2.2.2.1))), .int (iZ (((tlF tx ln 201 0 0 false tk nu (stA Kto)).2.2.2.1 : Nat) : Int)), .int (iZ ((tlF tx ln 201 0 0 false tk nu (stA Kto)).2.2.2.2.1))])), (xa, .inl (Y 2, 200, .inl (aI tx))), (hv, .inr (6, [.ref h7, .ref h, .ref hto, .ref h3, .ref h4, .ref h5, .ref h6, .ref im, .ref ik])), (ik, .inl (Y 1, 2, .inl (aI kp)))]) [21, 22, 23, 0, 1, 2, 3, 4, 5, 6, 7, 8, 9, 10, 11, 12, 13, 14, 15, 16, 17, 18, 19, 20, 24] (by decide) rfl
    refine mu_V (As := []) (rest := []) (wc := [(h5, .inr (4, [.ref ta, .ref tb, .int (iZ n9)])), (ta, .inl (Y 0, 5, .inl (aI M))), (tb, .inl (Y 0, 5, .inl (aI T)))]) (wc' := tlW Y h5 ta tb M T 0) (F := [(h3, .inr (2, [.ref kn, .int (iZ nx), .int (iZ 0)])), (kn, .inl (Y 3, 10, .inr (.inr (.inr (.inr (aR hk)))))), (h, .inr (0, [.int (iZ ((tlF tx ln 201 0 0 false tk nu (stA Kto)).2.2.2.2.2.2 0 0)), .int (iZ ((tlF tx ln 201 0 0 false tk nu (stA Kto)).2.2.2.2.2.2 0 1)), .int (iZ ((tlF tx ln 201 0 0 false tk nu (stA Kto)).2.2.2.2.2.2 0 2)), .int (iZ ((tlF tx ln 201 0 0 false tk nu (stA Kto)).2.2.2.2.2.2 0 3)), .int (iZ ((tlF tx ln 201 0 0 false tk nu (stA Kto)).2.2.2.2.2.2 0 4)), .int (iZ ((tlF tx ln 201 0 0 false tk nu (stA Kto)).2.2.2.2.2.2 0 5)), .int (iZ ((tlF tx ln 201 0 0 false tk nu (stA Kto)).2.2.2.2.2.2 0 6)), .ref (ad 1), .ref (ad 2), .ref (ad 3), .ref (ad 4), .ref (ad 5), .ref (ad 6), .ref (ad 7)])), (ad 1, .inl (Y 0, 6, .inl (aI ((tlF tx ln 201 0 0 false tk nu (stA Kto)).2.2.2.2.2.2 1)))), (ad 2, .inl (Y 0, 6, .inl (aI ((tlF tx ln 201 0 0 false tk nu (stA Kto)).2.2.2.2.2.2 2)))), (ad 3, .inl (Y 0, 6, .inl (aI ((tlF tx ln 201 0 0 false tk nu (stA Kto)).2.2.2.2.2.2 3)))), (ad 4, .inl (Y 1, 6, .inl (aI ((tlF tx ln 201 0 0 false tk nu (stA Kto)).2.2.2.2.2.2 4)))), (ad 5, .inl (Y 1, 6, .inl (aI ((tlF tx ln 201 0 0 false tk nu (stA Kto)).2.2.2.2.2.2 5)))), (ad 6, .inl (Y 0, 7, .inl (aI ((tlF tx ln 201 0 0 false tk nu (stA Kto)).2.2.2.2.2.2 6)))), (ad 7, .inl (Y 0, 7, .inl (aI ((tlF tx ln 201 0 0 false tk nu (stA Kto)).2.2.2.2.2.2 7)))), (hto, .inr (0, [.int (iZ ((tlF tx ln 201 0 0 false tk nu (stA Kto)).2.2.2.2.2.2 0 0)), .int (iZ ((tlF tx ln 201 0 0 false tk nu (stA Kto)).2.2.2.2.2.2 0 1)), .int (iZ ((tlF tx ln 201 0 0 false tk nu (stA Kto)).2.2.2.2.2.2 0 2)), .int (iZ ((tlF tx ln 201 0 0 false tk nu (stA Kto)).2.2.2.2.2.2 0 3)), .int (iZ ((tlF tx ln 201 0 0 false tk nu (stA Kto)).2.2.2.2.2.2 0 4)), .int (iZ ((tlF tx ln 201 0 0 false tk nu (stA Kto)).2.2.2.2.2.2 0 5)), .int (iZ ((tlF tx ln 201 0 0 false tk nu (stA Kto)).2.2.2.2.2.2 0 6)), .ref (adto 1), .ref (adto 2), .ref (adto 3), .ref (adto 4), .ref (adto 5), .ref (adto 6), .ref (adto 7)])), (adto 1, .inl (Y 0, 6, .inl (aI ((tlF tx ln 201 0 0 false tk nu (stA Kto)).2.2.2.2.2.2 1)))), (adto 2, .inl (Y 0, 6, .inl (aI ((tlF tx ln 201 0 0 false tk nu (stA Kto)).2.2.2.2.2.2 2)))), (adto 3, .inl (Y 0, 6, .inl (aI ((tlF tx ln 201 0 0 false tk nu (stA Kto)).2.2.2.2.2.2 3)))), (adto 4, .inl (Y 1, 6, .inl (aI ((tlF tx ln 201 0 0 false tk nu (stA Kto)).2.2.2.2.2.2 4)))), (adto 5, .inl (Y 1, 6, .inl (aI ((tlF tx ln 201 0 0 false tk nu (stA Kto)).2.2.2.2.2.2 5)))), (adto 6, .inl (Y 0, 7, .inl (aI ((tlF tx ln 201 0 0 false tk nu (stA Kto)).2.2.2.2.2.2 6)))), (adto 7, .inl (Y 0, 7, .inl (aI ((tlF tx ln 201 0 0 false tk nu (stA Kto)).2.2.2.2.2.2 7)))), (h7, .inr (5, [.ref xa, .int (iZ 0), .int (iZ (((tlF tx ln 201 0 0 false tk nu (stA Kto)).2.2.1 : Nat) : Int)), .int (iZ (bZ ((tlF tx ln 201 0 0 false tk nu (stA Kto)).2.2.2.2.2.1))), .int (iZ (((tlF tx ln 201 0 0 false tk nu (stA Kto)).2.2.2.1 : Nat) : Int)), .int (iZ ((tlF tx ln 201 0 0 false tk nu (stA Kto)).2.2.2.2.1))])), (xa, .inl (Y 2, 200, .inl (aI tx))), (hv, .inr (6, [.ref h7, .ref h, .ref hto, .ref h3, .ref h4, .ref h5, .ref h6, .ref im, .ref ik])), (ik, .inl (Y 1, 2, .inl (aI kp)))]) ⟨hx, hb, hml, hown, hts⟩ (c_X4_empty l G Y h5 ta tb M T n9) (cwV 0 hts gX6_commune_X4_empty rfl rfl rfl (by decide +kernel) ⟨Nat.le_of_ble_eq_true rfl, Nat.le_of_ble_eq_true rfl⟩) hK hP hD hS 0 rfl rfl (Eq.refl [h5, ta, tb]) rfl hl.1 rfl (Nat.le_of_ble_eq_true rfl) dX6_commune_48 ⟨Nat.zero_le _, Nat.zero_le _⟩ (fun H locs hP hD hS => ?_)
    show W _ _ _ _ _ _ _ _ _ _ _ _ _ _ _ (F0 _ _ _ [.int (iZ n9)])
    replace hP : va_P G vwCl [(h5, .inr (4, [.ref ta, .ref tb, .int (iZ 0)])), (ta, .inl (Y 0, 5, .inl (aI M))), (tb, .inl (Y 0, 5, .inl (aI T))), (h3, .inr (2, [.ref kn, .int (iZ nx), .int (iZ 0)])), (kn, .inl (Y 3, 10, .inr (.inr (.inr (.inr (aR hk)))))), (h, .inr (0, [.int (iZ ((tlF tx ln 201 0 0 false tk nu (stA Kto)).2.2.2.2.2.2 0 0)), .int (iZ ((tlF tx ln 201 0 0 false tk nu (stA Kto)).2.2.2.2.2.2 0 1)), .int (iZ ((tlF tx ln 201 0 0 false tk nu (stA Kto)).2.2.2.2.2.2 0 2)), .int (iZ ((tlF tx ln 201 0 0 false tk nu (stA Kto)).2.2.2.2.2.2 0 3)), .int (iZ ((tlF tx ln 201 0 0 false tk nu (stA Kto)).2.2.2.2.2.2 0 4)), .int (iZ ((tlF tx ln 201 0 0 false tk nu (stA Kto)).2.2.2.2.2.2 0 5)), .int (iZ ((tlF tx ln 201 0 0 false tk nu (stA Kto)).2.2.2.2.2.2 0 6)), .ref (ad 1), .ref (ad 2), .ref (ad 3), .ref (ad 4), .ref (ad 5), .ref (ad 6), .ref (ad 7)])), (ad 1, .inl (Y 0, 6, .inl (aI ((tlF tx ln 201 0 0 false tk nu (stA Kto)).2.2.2.2.2.2 1)))), (ad 2, .inl (Y 0, 6, .inl (aI ((tlF tx ln 201 0 0 false tk nu (stA Kto)).2.2.2.2.2.2 2)))), (ad 3, .inl (Y 0, 6, .inl (aI ((tlF tx ln 201 0 0 false tk nu (stA Kto)).2.2.2.2.2.2 3)))), (ad 4, .inl (Y 1, 6, .inl (aI ((tlF tx ln 201 0 0 false tk nu (stA Kto)).2.2.2.2.2.2 4)))), (ad 5, .inl (Y 1, 6, .inl (aI ((tlF tx ln 201 0 0 false tk nu (stA Kto)).2.2.2.2.2.2 5)))), (ad 6, .inl (Y 0, 7, .inl (aI ((tlF tx ln 201 0 0 false tk nu (stA Kto)).2.2.2.2.2.2 6)))), (ad 7, .inl (Y 0, 7, .inl (aI ((tlF tx ln 201 0 0 false tk nu (stA Kto)).2.2.2.2.2.2 7)))), (hto, .inr (0, [.int (iZ ((tlF tx ln 201 0 0 false tk nu (stA Kto)).2.2.2.2.2.2 0 0)), .int (iZ ((tlF tx ln 201 0 0 false tk nu (stA Kto)).2.2.2.2.2.2 0 1)), .int (iZ ((tlF tx ln 201 0 0 false tk nu (stA Kto)).2.2.2.2.2.2 0 2)), .int (iZ ((tlF tx ln 201 0 0 false tk nu (stA Kto)).2.2.2.2.2.2 0 3)), .int (iZ ((tlF tx ln 201 0 0 false tk nu (stA Kto)).2.2.2.2.2.2 0 4)), .int (iZ ((tlF tx ln 201 0 0 false tk nu (stA Kto)).2.2.2.2.2.2 0 5)), .int (iZ ((tlF tx ln 201 0 0 false tk nu (stA Kto)).2.2.2.2.2.2 0 6)), .ref (adto 1), .ref (adto 2), .ref (adto 3), .ref (adto 4), .ref (adto 5), .ref (adto 6), .ref (adto 7)])), (adto 1, .inl (Y 0, 6, .inl (aI ((tlF tx ln 201 0 0 false tk nu (stA Kto)).2.2.2.2.2.2 1)))), (adto 2, .inl (Y 0, 6, .inl (aI ((tlF tx ln 201 0 0 false tk nu (stA Kto)).2.2.2.2.2.2 2)))), (adto 3, .inl (Y 0, 6, .inl (aI ((tlF tx ln 201 0 0 false tk nu (stA Kto)).2.2.2.2.2.2 3)))), (adto 4, .inl (Y 1, 6, .inl (aI ((tlF tx ln 201 0 0 false tk nu (stA Kto)).2.2.2.2.2.2 4)))), (adto 5, .inl (Y 1, 6, .inl (aI ((tlF tx ln 201 0 0 false tk nu (stA Kto)).2.2.2.2.2.2 5)))), (adto 6, .inl (Y 0, 7, .inl (aI ((tlF tx ln 201 0 0 false tk nu (stA Kto)).2.2.2.2.2.2 6)))), (adto 7, .inl (Y 0, 7, .inl (aI ((tlF tx ln 201 0 0 false tk nu (stA Kto)).2.2.2.2.2.2 7)))), (h7, .inr (5, [.ref xa, .int (iZ 0), .int (iZ (((tlF tx ln 201 0 0 false tk nu (stA Kto)).2.2.1 : Nat) : Int)), .int (iZ (bZ ((tlF tx ln 201 0 0 false tk nu (stA Kto)).2.2.2.2.2.1))), .int (iZ (((tlF tx ln 201 0 0 false tk nu (stA Kto)).2.2.2.1 : Nat) : Int)), .int (iZ ((tlF tx ln 201 0 0 false tk nu (stA Kto)).2.2.2.2.1))])), (xa, .inl (Y 2, 200, .inl (aI tx))), (hv, .inr (6, [.ref h7, .ref h, .ref hto, .ref h3, .ref h4, .ref h5, .ref h6, .ref im, .ref ik])), (ik, .inl (Y 1, 2, .inl (aI kp)))] H := hP
    replace hD : va_D _ [(h5, .inr (4, [.ref ta, .ref tb, .int (iZ 0)])), (ta, .inl (Y 0, 5, .inl (aI M))), (tb, .inl (Y 0, 5, .inl (aI T))), (h3, .inr (2, [.ref kn, .int (iZ nx), .int (iZ 0)])), (kn, .inl (Y 3, 10, .inr (.inr (.inr (.inr (aR hk)))))), (h, .inr (0, [.int (iZ ((tlF tx ln 201 0 0 false tk nu (stA Kto)).2.2.2.2.2.2 0 0)), .int (iZ ((tlF tx ln 201 0 0 false tk nu (stA Kto)).2.2.2.2.2.2 0 1)), .int (iZ ((tlF tx ln 201 0 0 false tk nu (stA Kto)).2.2.2.2.2.2 0 2)), .int (iZ ((tlF tx ln 201 0 0 false tk nu (stA Kto)).2.2.2.2.2.2 0 3)), .int (iZ ((tlF tx ln 201 0 0 false tk nu (stA Kto)).2.2.2.2.2.2 0 4)), .int (iZ ((tlF tx ln 201 0 0 false tk nu (stA Kto)).2.2.2.2.2.2 0 5)), .int (iZ ((tlF tx ln 201 0 0 false tk nu (stA Kto)).2.2.2.2.2.2 0 6)), .ref (ad 1), .ref (ad 2), .ref (ad 3), .ref (ad 4), .ref (ad 5), .ref (ad 6), .ref (ad 7)])), (ad 1, .inl (Y 0, 6, .inl (aI ((tlF tx ln 201 0 0 false tk nu (stA Kto)).2.2.2.2.2.2 1)))), (ad 2, .inl (Y 0, 6, .inl (aI ((tlF tx ln 201 0 0 false tk nu (stA Kto)).2.2.2.2.2.2 2)))), (ad 3, .inl (Y 0, 6, .inl (aI ((tlF tx ln 201 0 0 false tk nu (stA Kto)).2.2.2.2.2.2 3)))), (ad 4, .inl (Y 1, 6, .inl (aI ((tlF tx ln 201 0 0 false tk nu (stA Kto)).2.2.2.2.2.2 4)))), (ad 5, .inl (Y 1, 6, .inl (aI ((tlF tx ln 201 0 0 false tk nu (stA Kto)).2.2.2.2.2.2 5)))), (ad 6, .inl (Y 0, 7, .inl (aI ((tlF tx ln 201 0 0 false tk nu (stA Kto)).2.2.2.2.2.2 6)))), (ad 7, .inl (Y 0, 7, .inl (aI ((tlF tx ln 201 0 0 false tk nu (stA Kto)).2.2.2.2.2.2 7)))), (hto, .inr (0, [.int (iZ ((tlF tx ln 201 0 0 false tk nu (stA Kto)).2.2.2.2.2.2 0 0)), .int (iZ ((tlF tx ln 201 0 0 false tk nu (stA Kto)).2.2.2.2.2.2 0 1)), .int (iZ ((tlF tx ln 201 0 0 false tk nu (stA Kto)).2.2.2.2.2.2 0 2)), .int (iZ ((tlF tx ln 201 0 0 false tk nu (stA Kto)).2.2.2.2.2.2 0 3)), .int (iZ ((tlF tx ln 201 0 0 false tk nu (stA Kto)).2.2.2.2.2.2 0 4)), .int (iZ ((tlF tx ln 201 0 0 false tk nu (stA Kto)).2.2.2.2.2.2 0 5)), .int (iZ ((tlF tx ln 201 0 0 false tk nu (stA Kto)).2.2.2.2.2.2 0 6)), .ref (adto 1), .ref (adto 2), .ref (adto 3), .ref (adto 4), .ref (adto 5), .ref (adto 6), .ref (adto 7)])), (adto 1, .inl (Y 0, 6, .inl (aI ((tlF tx ln 201 0 0 false tk nu (stA Kto)).2.2.2.2.2.2 1)))), (adto 2, .inl (Y 0, 6, .inl (aI ((tlF tx ln 201 0 0 false tk nu (stA Kto)).2.2.2.2.2.2 2)))), (adto 3, .inl (Y 0, 6, .inl (aI ((tlF tx ln 201 0 0 false tk nu (stA Kto)).2.2.2.2.2.2 3)))), (adto 4, .inl (Y 1, 6, .inl (aI ((tlF tx ln 201 0 0 false tk nu (stA Kto)).2.2.2.2.2.2 4)))), (adto 5, .inl (Y 1, 6, .inl (aI ((tlF tx ln 201 0 0 false tk nu (stA Kto)).2.2.2.2.2.2 5)))), (adto 6, .inl (Y 0, 7, .inl (aI ((tlF tx ln 201 0 0 false tk nu (stA Kto)).2.2.2.2.2.2 6)))), (adto 7, .inl (Y 0, 7, .inl (aI ((tlF tx ln 201 0 0 false tk nu (stA Kto)).2.2.2.2.2.2 7)))), (h7, .inr (5, [.ref xa, .int (iZ 0), .int (iZ (((tlF tx ln 201 0 0 false tk nu (stA Kto)).2.2.1 : Nat) : Int)), .int (iZ (bZ ((tlF tx ln 201 0 0 false tk nu (stA Kto)).2.2.2.2.2.1))), .int (iZ (((tlF tx ln 201 0 0 false tk nu (stA Kto)).2.2.2.1 : Nat) : Int)), .int (iZ ((tlF tx ln 201 0 0 false tk nu (stA Kto)).2.2.2.2.1))])), (xa, .inl (Y 2, 200, .inl (aI tx))), (hv, .inr (6, [.ref h7, .ref h, .ref hto, .ref h3, .ref h4, .ref h5, .ref h6, .ref im, .ref ik])), (ik, .inl (Y 1, 2, .inl (aI kp)))] := hD
    refine lv_pop hx hb dX6_commune_51 rfl ?_
    refine z_iconst hx hb dX6_commune_52 ?_
    refine lv_istore_n (lv' := [(2, .int (iZ 0)), (1, .int (iZ ((tlF tx ln 201 0 0 false tk nu (stA Kto)).1))), (0, .ref hv)]) hx hb dX6_commune_53 rfl hl (by decide) rfl (fun ls hl => ?_)
    obtain ⟨i, kp1, hI, hl1, hP1, hD1⟩ : ∃ (i : Nat) (kp1 : Nat → Int), (kp1 = kpN kp i ∧ i ≤ 2) ∧ lv_has ls 3 [(2, .int (iZ ((i : Nat) : Int))), (1, .int (iZ ((tlF tx ln 201 0 0 false tk nu (stA Kto)).1))), (0, .ref hv)] ∧ va_P G vwCl [(h5, .inr (4, [.ref ta, .ref tb, .int (iZ 0)])), (ta, .inl (Y 0, 5, .inl (aI M))), (tb, .inl (Y 0, 5, .inl (aI T))), (h3, .inr (2, [.ref kn, .int (iZ nx), .int (iZ 0)])), (kn, .inl (Y 3, 10, .inr (.inr (.inr (.inr (aR hk)))))), (h, .inr (0, [.int (iZ ((tlF tx ln 201 0 0 false tk nu (stA Kto)).2.2.2.2.2.2 0 0)), .int (iZ ((tlF tx ln 201 0 0 false tk nu (stA Kto)).2.2.2.2.2.2 0 1)), .int (iZ ((tlF tx ln 201 0 0 false tk nu (stA Kto)).2.2.2.2.2.2 0 2)), .int (iZ ((tlF tx ln 201 0 0 false tk nu (stA Kto)).2.2.2.2.2.2 0 3)), .int (iZ ((tlF tx ln 201 0 0 false tk nu (stA Kto)).2.2.2.2.2.2 0 4)), .int (iZ ((tlF tx ln 201 0 0 false tk nu (stA Kto)).2.2.2.2.2.2 0 5)), .int (iZ ((tlF tx ln 201 0 0 false tk nu (stA Kto)).2.2.2.2.2.2 0 6)), .ref (ad 1), .ref (ad 2), .ref (ad 3), .ref (ad 4), .ref (ad 5), .ref (ad 6), .ref (ad 7)])), (ad 1, .inl (Y 0, 6, .inl (aI ((tlF tx ln 201 0 0 false tk nu (stA Kto)).2.2.2.2.2.2 1)))), (ad 2, .inl (Y 0, 6, .inl (aI ((tlF tx ln 201 0 0 false tk nu (stA Kto)).2.2.2.2.2.2 2)))), (ad 3, .inl (Y 0, 6, .inl (aI ((tlF tx ln 201 0 0 false tk nu (stA Kto)).2.2.2.2.2.2 3)))), (ad 4, .inl (Y 1, 6, .inl (aI ((tlF tx ln 201 0 0 false tk nu (stA Kto)).2.2.2.2.2.2 4)))), (ad 5, .inl (Y 1, 6, .inl (aI ((tlF tx ln 201 0 0 false tk nu (stA Kto)).2.2.2.2.2.2 5)))), (ad 6, .inl (Y 0, 7, .inl (aI ((tlF tx ln 201 0 0 false tk nu (stA Kto)).2.2.2.2.2.2 6)))), (ad 7, .inl (Y 0, 7, .inl (aI ((tlF tx ln 201 0 0 false tk nu (stA Kto)).2.2.2.2.2.2 7)))), (hto, .inr (0, [.int (iZ ((tlF tx ln 201 0 0 false tk nu (stA Kto)).2.2.2.2.2.2 0 0)), .int (iZ ((tlF tx ln 201 0 0 false tk nu (stA Kto)).2.2.2.2.2.2 0 1)), .int (iZ ((tlF tx ln 201 0 0 false tk nu (stA Kto)).2.2.2.2.2.2 0 2)), .int (iZ ((tlF tx ln 201 0 0 false tk nu (stA Kto)).2.2.2.2.2.2 0 3)), .int (iZ ((tlF tx ln 201 0 0 false tk nu (stA Kto)).2.2.2.2.2.2 0 4)), .int (iZ ((tlF tx ln 201 0 0 false tk nu (stA Kto)).2.2.2.2.2.2 0 5)), .int (iZ ((tlF tx ln 201 0 0 false tk nu (stA Kto)).2.2.2.2.2.2 0 6)), .ref (adto 1), .ref (adto 2), .ref (adto 3), .ref (adto 4), .ref (adto 5), .ref (adto 6), .ref (adto 7)])), (adto 1, .inl (Y 0, 6, .inl (aI ((tlF tx ln 201 0 0 false tk nu (stA Kto)).2.2.2.2.2.2 1)))), (adto 2, .inl (Y 0, 6, .inl (aI ((tlF tx ln 201 0 0 false tk nu (stA Kto)).2.2.2.2.2.2 2)))), (adto 3, .inl (Y 0, 6, .inl (aI ((tlF tx ln 201 0 0 false tk nu (stA Kto)).2.2.2.2.2.2 3)))), (adto 4, .inl (Y 1, 6, .inl (aI ((tlF tx ln 201 0 0 false tk nu (stA Kto)).2.2.2.2.2.2 4)))), (adto 5, .inl (Y 1, 6, .inl (aI ((tlF tx ln 201 0 0 false tk nu (stA Kto)).2.2.2.2.2.2 5)))), (adto 6, .inl (Y 0, 7, .inl (aI ((tlF tx ln 201 0 0 false tk nu (stA Kto)).2.2.2.2.2.2 6)))), (adto 7, .inl (Y 0, 7, .inl (aI ((tlF tx ln 201 0 0 false tk nu (stA Kto)).2.2.2.2.2.2 7)))), (h7, .inr (5, [.ref xa, .int (iZ 0), .int (iZ (((tlF tx ln 201 0 0 false tk nu (stA Kto)).2.2.1 : Nat) : Int)), .int (iZ (bZ ((tlF tx ln 201 0 0 false tk nu (stA Kto)).2.2.2.2.2.1))), .int (iZ (((tlF tx ln 201 0 0 false tk nu (stA Kto)).2.2.2.1 : Nat) : Int)), .int (iZ ((tlF tx ln 201 0 0 false tk nu (stA Kto)).2.2.2.2.1))])), (xa, .inl (Y 2, 200, .inl (aI tx))), (hv, .inr (6, [.ref h7, .ref h, .ref hto, .ref h3, .ref h4, .ref h5, .ref h6, .ref im, .ref ik])), (ik, .inl (Y 1, 2, .inl (aI kp1)))] H ∧ va_D (fun q => q ∈ List.map Prod.fst (svO Y hv h7 h hto h3 h4 h5 h6 im ik ++ (txW Y h7 xa tx ln pl su tk nu ++ (cmW Y hto adto Kto ++ (cmW Y h ad K ++ (paW Y h3 kn hk nx sz ++ (tlW Y h5 ta tb M T n9 ++ ikW Y ik kp))))))) [(h5, .inr (4, [.ref ta, .ref tb, .int (iZ 0)])), (ta, .inl (Y 0, 5, .inl (aI M))), (tb, .inl (Y 0, 5, .inl (aI T))), (h3, .inr (2, [.ref kn, .int (iZ nx), .int (iZ 0)])), (kn, .inl (Y 3, 10, .inr (.inr (.inr (.inr (aR hk)))))), (h, .inr (0, [.int (iZ ((tlF tx ln 201 0 0 false tk nu (stA Kto)).2.2.2.2.2.2 0 0)), .int (iZ ((tlF tx ln 201 0 0 false tk nu (stA Kto)).2.2.2.2.2.2 0 1)), .int (iZ ((tlF tx ln 201 0 0 false tk nu (stA Kto)).2.2.2.2.2.2 0 2)), .int (iZ ((tlF tx ln 201 0 0 false tk nu (stA Kto)).2.2.2.2.2.2 0 3)), .int (iZ ((tlF tx ln 201 0 0 false tk nu (stA Kto)).2.2.2.2.2.2 0 4)), .int (iZ ((tlF tx ln 201 0 0 false tk nu (stA Kto)).2.2.2.2.2.2 0 5)), .int (iZ ((tlF tx ln 201 0 0 false tk nu (stA Kto)).2.2.2.2.2.2 0 6)), .ref (ad 1), .ref (ad 2), .ref (ad 3), .ref (ad 4), .ref (ad 5), .ref (ad 6), .ref (ad 7)])), (ad 1, .inl (Y 0, 6, .inl (aI ((tlF tx ln 201 0 0 false tk nu (stA Kto)).2.2.2.2.2.2 1)))), (ad 2, .inl (Y 0, 6, .inl (aI ((tlF tx ln 201 0 0 false tk nu (stA Kto)).2.2.2.2.2.2 2)))), (ad 3, .inl (Y 0, 6, .inl (aI ((tlF tx ln 201 0 0 false tk nu (stA Kto)).2.2.2.2.2.2 3)))), (ad 4, .inl (Y 1, 6, .inl (aI ((tlF tx ln 201 0 0 false tk nu (stA Kto)).2.2.2.2.2.2 4)))), (ad 5, .inl (Y 1, 6, .inl (aI ((tlF tx ln 201 0 0 false tk nu (stA Kto)).2.2.2.2.2.2 5)))), (ad 6, .inl (Y 0, 7, .inl (aI ((tlF tx ln 201 0 0 false tk nu (stA Kto)).2.2.2.2.2.2 6)))), (ad 7, .inl (Y 0, 7, .inl (aI ((tlF tx ln 201 0 0 false tk nu (stA Kto)).2.2.2.2.2.2 7)))), (hto, .inr (0, [.int (iZ ((tlF tx ln 201 0 0 false tk nu (stA Kto)).2.2.2.2.2.2 0 0)), .int (iZ ((tlF tx ln 201 0 0 false tk nu (stA Kto)).2.2.2.2.2.2 0 1)), .int (iZ ((tlF tx ln 201 0 0 false tk nu (stA Kto)).2.2.2.2.2.2 0 2)), .int (iZ ((tlF tx ln 201 0 0 false tk nu (stA Kto)).2.2.2.2.2.2 0 3)), .int (iZ ((tlF tx ln 201 0 0 false tk nu (stA Kto)).2.2.2.2.2.2 0 4)), .int (iZ ((tlF tx ln 201 0 0 false tk nu (stA Kto)).2.2.2.2.2.2 0 5)), .int (iZ ((tlF tx ln 201 0 0 false tk nu (stA Kto)).2.2.2.2.2.2 0 6)), .ref (adto 1), .ref (adto 2), .ref (adto 3), .ref (adto 4), .ref (adto 5), .ref (adto 6), .ref (adto 7)])), (adto 1, .inl (Y 0, 6, .inl (aI ((tlF tx ln 201 0 0 false tk nu (stA Kto)).2.2.2.2.2.2 1)))), (adto 2, .inl (Y 0, 6, .inl (aI ((tlF tx ln 201 0 0 false tk nu (stA Kto)).2.2.2.2.2.2 2)))), (adto 3, .inl (Y 0, 6, .inl (aI ((tlF tx ln 201 0 0 false tk nu (stA Kto)).2.2.2.2.2.2 3)))), (adto 4, .inl (Y 1, 6, .inl (aI ((tlF tx ln 201 0 0 false tk nu (stA Kto)).2.2.2.2.2.2 4)))), (adto 5, .inl (Y 1, 6, .inl (aI ((tlF tx ln 201 0 0 false tk nu (stA Kto)).2.2.2.2.2.2 5)))), (adto 6, .inl (Y 0, 7, .inl (aI ((tlF tx ln 201 0 0 false tk nu (stA Kto)).2.2.2.2.2.2 6)))), (adto 7, .inl (Y 0, 7, .inl (aI ((tlF tx ln 201 0 0 false tk nu (stA Kto)).2.2.2.2.2.2 7)))), (h7, .inr (5, [.ref xa, .int (iZ 0), .int (iZ (((tlF tx ln 201 0 0 false tk nu (stA Kto)).2.2.1 : Nat) : Int)), .int (iZ (bZ ((tlF tx ln 201 0 0 false tk nu (stA Kto)).2.2.2.2.2.1))), .int (iZ (((tlF tx ln 201 0 0 false tk nu (stA Kto)).2.2.2.1 : Nat) : Int)), .int (iZ ((tlF tx ln 201 0 0 false tk nu (stA Kto)).2.2.2.2.1))])), (xa, .inl (Y 2, 200, .inl (aI tx))), (hv, .inr (6, [.ref h7, .ref h, .ref hto, .ref h3, .ref h4, .ref h5, .ref h6, .ref im, .ref ik])), (ik, .inl (Y 1, 2, .inl (aI kp1)))] := ⟨0, kp, by exact ⟨rfl, by omega⟩, lv_sub hl [0, 1, 2] rfl, hP, hD⟩
    clear hl hP hD
    have hl := hl1
    clear hl1
    have hP := hP1
    have hD := hD1
    clear hP1 hD1
    obtain ⟨n_, hn_⟩ : ∃ n_ : Nat, 2 - i < n_ := ⟨_, Nat.lt_succ_self _⟩
    induction n_ generalizing i kp1 ls H locs with
    | zero => exact absurd hn_ (Nat.not_lt_zero _)
    | succ n_ ih2 =>
      refine lv_iload_n hx hb dX6_commune_54 rfl (lv_at hl 0 rfl) ?_
      refine z_iconst hx hb dX6_commune_55 ?_
      refine z_icmp_ge (tgt := 72) hx hb dX6_commune_56 (by decide) (by omega) (fun c_3 => ?_) (fun c_3 => ?_)
      · skip
        refine lv_iload_n hx hb dX6_commune_72 rfl (lv_at hl 1 rfl) ?_
        have e2 : i = 2 := by omega
        rw [hI.1, e2] at hP
        have ef : decide (0 ≤ (tlF tx ln 201 0 0 false tk nu (stA Kto)).1) = true := decide_eq_true (by omega)
        have hP9 : va_P G vwCl (svO Y hv h7 h hto h3 h4 h5 h6 im ik ++ (txW Y h7 xa tx (bif decide (0 ≤ (tlF tx ln 201 0 0 false tk nu (stA Kto)).1) then 0 else ln) (tlF tx ln 201 0 0 false tk nu (stA Kto)).2.2.1 (tlF tx ln 201 0 0 false tk nu (stA Kto)).2.2.2.2.2.1 (tlF tx ln 201 0 0 false tk nu (stA Kto)).2.2.2.1 (tlF tx ln 201 0 0 false tk nu (stA Kto)).2.2.2.2.1 ++ (cmW Y hto adto (tlF tx ln 201 0 0 false tk nu (stA Kto)).2.2.2.2.2.2 ++ (cmW Y h ad (bif decide (0 ≤ (tlF tx ln 201 0 0 false tk nu (stA Kto)).1) then (tlF tx ln 201 0 0 false tk nu (stA Kto)).2.2.2.2.2.2 else K) ++ (paW Y h3 kn hk nx (bif decide (0 ≤ (tlF tx ln 201 0 0 false tk nu (stA Kto)).1) then 0 else sz) ++ (tlW Y h5 ta tb M T (bif decide (0 ≤ (tlF tx ln 201 0 0 false tk nu (stA Kto)).1) then 0 else n9) ++ ikW Y ik (bif decide (0 ≤ (tlF tx ln 201 0 0 false tk nu (stA Kto)).1) then kpN kp 2 else kp))))))) H := by rw [ef]; exact hP.sub [23, 21, 22, 13, 14, 15, 16, 17, 18, 19, 20, 5, 6, 7, 8, 9, 10, 11, 12, 3, 4, 0, 1, 2, 24] rfl
        exact W.iret (v := iZ ((tlF tx ln 201 0 0 false tk nu (stA Kto)).1)) hx hb hr (fun t9 ht9 _ => ⟨rfl, by rw [ht9]; exact hP9, hS.F ht9⟩) hS.2.2 dX6_commune_73
      · skip
        refine lv_aload_n hx hb dX6_commune_59 rfl (lv_at hl 2 rfl) ?_
        refine va_get (D := G) (ci := 6) (v := .ref ik) (C := RX6) (T := TX6) (N := 9) hx hb hts hFX6 hown hK.1 hP 23 rfl rfl 8 (by decide) kf58 (fun _ h9 => h9) rfl dX6_commune_60 ?_
        refine lv_iload_n hx hb dX6_commune_63 rfl (lv_at hl 0 rfl) ?_
        refine z_iconst hx hb dX6_commune_64 ?_
        refine z_zast hx hb hK.1 hP hD hS 24 1 rfl rfl i (by omega) (by decide) (by omega) dX6_commune_65 (fun H locs hP hD hS => ?_)
        replace hP : va_P G vwCl [(h5, .inr (4, [.ref ta, .ref tb, .int (iZ 0)])), (ta, .inl (Y 0, 5, .inl (aI M))), (tb, .inl (Y 0, 5, .inl (aI T))), (h3, .inr (2, [.ref kn, .int (iZ nx), .int (iZ 0)])), (kn, .inl (Y 3, 10, .inr (.inr (.inr (.inr (aR hk)))))), (h, .inr (0, [.int (iZ ((tlF tx ln 201 0 0 false tk nu (stA Kto)).2.2.2.2.2.2 0 0)), .int (iZ ((tlF tx ln 201 0 0 false tk nu (stA Kto)).2.2.2.2.2.2 0 1)), .int (iZ ((tlF tx ln 201 0 0 false tk nu (stA Kto)).2.2.2.2.2.2 0 2)), .int (iZ ((tlF tx ln 201 0 0 false tk nu (stA Kto)).2.2.2.2.2.2 0 3)), .int (iZ ((tlF tx ln 201 0 0 false tk nu (stA Kto)).2.2.2.2.2.2 0 4)), .int (iZ ((tlF tx ln 201 0 0 false tk nu (stA Kto)).2.2.2.2.2.2 0 5)), .int (iZ ((tlF tx ln 201 0 0 false tk nu (stA Kto)).2.2.2.2.2.2 0 6)), .ref (ad 1), .ref (ad 2), .ref (ad 3), .ref (ad 4), .ref (ad 5), .ref (ad 6), .ref (ad 7)])), (ad 1, .inl (Y 0, 6, .inl (aI ((tlF tx ln 201 0 0 false tk nu (stA Kto)).2.2.2.2.2.2 1)))), (ad 2, .inl (Y 0, 6, .inl (aI ((tlF tx ln 201 0 0 false tk nu (stA Kto)).2.2.2.2.2.2 2)))), (ad 3, .inl (Y 0, 6, .inl (aI ((tlF tx ln 201 0 0 false tk nu (stA Kto)).2.2.2.2.2.2 3)))), (ad 4, .inl (Y 1, 6, .inl (aI ((tlF tx ln 201 0 0 false tk nu (stA Kto)).2.2.2.2.2.2 4)))), (ad 5, .inl (Y 1, 6, .inl (aI ((tlF tx ln 201 0 0 false tk nu (stA Kto)).2.2.2.2.2.2 5)))), (ad 6, .inl (Y 0, 7, .inl (aI ((tlF tx ln 201 0 0 false tk nu (stA Kto)).2.2.2.2.2.2 6)))), (ad 7, .inl (Y 0, 7, .inl (aI ((tlF tx ln 201 0 0 false tk nu (stA Kto)).2.2.2.2.2.2 7)))), (hto, .inr (0, [.int (iZ ((tlF tx ln 201 0 0 false tk nu (stA Kto)).2.2.2.2.2.2 0 0)), .int (iZ ((tlF tx ln 201 0 0 false tk nu (stA Kto)).2.2.2.2.2.2 0 1)), .int (iZ ((tlF tx ln 201 0 0 false tk nu (stA Kto)).2.2.2.2.2.2 0 2)), .int (iZ ((tlF tx ln 201 0 0 false tk nu (stA Kto)).2.2.2.2.2.2 0 3)), .int (iZ ((tlF tx ln 201 0 0 false tk nu (stA Kto)).2.2.2.2.2.2 0 4)), .int (iZ ((tlF tx ln 201 0 0 false tk nu (stA Kto)).2.2.2.2.2.2 0 5)), .int (iZ ((tlF tx ln 201 0 0 false tk nu (stA Kto)).2.2.2.2.2.2 0 6)), .ref (adto 1), .ref (adto 2), .ref (adto 3), .ref (adto 4), .ref (adto 5), .ref (adto 6), .ref (adto 7)])), (adto 1, .inl (Y 0, 6, .inl (aI ((tlF tx ln 201 0 0 false tk nu (stA Kto)).2.2.2.2.2.2 1)))), (adto 2, .inl (Y 0, 6, .inl (aI ((tlF tx ln 201 0 0 false tk nu (stA Kto)).2.2.2.2.2.2 2)))), (adto 3, .inl (Y 0, 6, .inl (aI ((tlF tx ln 201 0 0 false tk nu (stA Kto)).2.2.2.2.2.2 3)))), (adto 4, .inl (Y 1, 6, .inl (aI ((tlF tx ln 201 0 0 false tk nu (stA Kto)).2.2.2.2.2.2 4)))), (adto 5, .inl (Y 1, 6, .inl (aI ((tlF tx ln 201 0 0 false tk nu (stA Kto)).2.2.2.2.2.2 5)))), (adto 6, .inl (Y 0, 7, .inl (aI ((tlF tx ln 201 0 0 false tk nu (stA Kto)).2.2.2.2.2.2 6)))), (adto 7, .inl (Y 0, 7, .inl (aI ((tlF tx ln 201 0 0 false tk nu (stA Kto)).2.2.2.2.2.2 7)))), (h7, .inr (5, [.ref xa, .int (iZ 0), .int (iZ (((tlF tx ln 201 0 0 false tk nu (stA Kto)).2.2.1 : Nat) : Int)), .int (iZ (bZ ((tlF tx ln 201 0 0 false tk nu (stA Kto)).2.2.2.2.2.1))), .int (iZ (((tlF tx ln 201 0 0 false tk nu (stA Kto)).2.2.2.1 : Nat) : Int)), .int (iZ ((tlF tx ln 201 0 0 false tk nu (stA Kto)).2.2.2.2.1))])), (xa, .inl (Y 2, 200, .inl (aI tx))), (hv, .inr (6, [.ref h7, .ref h, .ref hto, .ref h3, .ref h4, .ref h5, .ref h6, .ref im, .ref ik])), (ik, .inl (Y 1, 2, .inl (aI (va_up kp1 i 0))))] H := hP
        replace hD : va_D _ [(h5, .inr (4, [.ref ta, .ref tb, .int (iZ 0)])), (ta, .inl (Y 0, 5, .inl (aI M))), (tb, .inl (Y 0, 5, .inl (aI T))), (h3, .inr (2, [.ref kn, .int (iZ nx), .int (iZ 0)])), (kn, .inl (Y 3, 10, .inr (.inr (.inr (.inr (aR hk)))))), (h, .inr (0, [.int (iZ ((tlF tx ln 201 0 0 false tk nu (stA Kto)).2.2.2.2.2.2 0 0)), .int (iZ ((tlF tx ln 201 0 0 false tk nu (stA Kto)).2.2.2.2.2.2 0 1)), .int (iZ ((tlF tx ln 201 0 0 false tk nu (stA Kto)).2.2.2.2.2.2 0 2)), .int (iZ ((tlF tx ln 201 0 0 false tk nu (stA Kto)).2.2.2.2.2.2 0 3)), .int (iZ ((tlF tx ln 201 0 0 false tk nu (stA Kto)).2.2.2.2.2.2 0 4)), .int (iZ ((tlF tx ln 201 0 0 false tk nu (stA Kto)).2.2.2.2.2.2 0 5)), .int (iZ ((tlF tx ln 201 0 0 false tk nu (stA Kto)).2.2.2.2.2.2 0 6)), .ref (ad 1), .ref (ad 2), .ref (ad 3), .ref (ad 4), .ref (ad 5), .ref (ad 6), .ref (ad 7)])), (ad 1, .inl (Y 0, 6, .inl (aI ((tlF tx ln 201 0 0 false tk nu (stA Kto)).2.2.2.2.2.2 1)))), (ad 2, .inl (Y 0, 6, .inl (aI ((tlF tx ln 201 0 0 false tk nu (stA Kto)).2.2.2.2.2.2 2)))), (ad 3, .inl (Y 0, 6, .inl (aI ((tlF tx ln 201 0 0 false tk nu (stA Kto)).2.2.2.2.2.2 3)))), (ad 4, .inl (Y 1, 6, .inl (aI ((tlF tx ln 201 0 0 false tk nu (stA Kto)).2.2.2.2.2.2 4)))), (ad 5, .inl (Y 1, 6, .inl (aI ((tlF tx ln 201 0 0 false tk nu (stA Kto)).2.2.2.2.2.2 5)))), (ad 6, .inl (Y 0, 7, .inl (aI ((tlF tx ln 201 0 0 false tk nu (stA Kto)).2.2.2.2.2.2 6)))), (ad 7, .inl (Y 0, 7, .inl (aI ((tlF tx ln 201 0 0 false tk nu (stA Kto)).2.2.2.2.2.2 7)))), (hto, .inr (0, [.int (iZ ((tlF tx ln 201 0 0 false tk nu (stA Kto)).2.2.2.2.2.2 0 0)), .int (iZ ((tlF tx ln 201 0 0 false tk nu (stA Kto)).2.2.2.2.2.2 0 1)), .int (iZ ((tlF tx ln 201 0 0 false tk nu (stA Kto)).2.2.2.2.2.2 0 2)), .int (iZ ((tlF tx ln 201 0 0 false tk nu (stA Kto)).2.2.2.2.2.2 0 3)), .int (iZ ((tlF tx ln 201 0 0 false tk nu (stA Kto)).2.2.2.2.2.2 0 4)), .int (iZ ((tlF tx ln 201 0 0 false tk nu (stA Kto)).2.2.2.2.2.2 0 5)), .int (iZ ((tlF tx ln 201 0 0 false tk nu (stA Kto)).2.2.2.2.2.2 0 6)), .ref (adto 1), .ref (adto 2), .ref (adto 3), .ref (adto 4), .ref (adto 5), .ref (adto 6), .ref (adto 7)])), (adto 1, .inl (Y 0, 6, .inl (aI ((tlF tx ln 201 0 0 false tk nu (stA Kto)).2.2.2.2.2.2 1)))), (adto 2, .inl (Y 0, 6, .inl (aI ((tlF tx ln 201 0 0 false tk nu (stA Kto)).2.2.2.2.2.2 2)))), (adto 3, .inl (Y 0, 6, .inl (aI ((tlF tx ln 201 0 0 false tk nu (stA Kto)).2.2.2.2.2.2 3)))), (adto 4, .inl (Y 1, 6, .inl (aI ((tlF tx ln 201 0 0 false tk nu (stA Kto)).2.2.2.2.2.2 4)))), (adto 5, .inl (Y 1, 6, .inl (aI ((tlF tx ln 201 0 0 false tk nu (stA Kto)).2.2.2.2.2.2 5)))), (adto 6, .inl (Y 0, 7, .inl (aI ((tlF tx ln 201 0 0 false tk nu (stA Kto)).2.2.2.2.2.2 6)))), (adto 7, .inl (Y 0, 7, .inl (aI ((tlF tx ln 201 0 0 false tk nu (stA Kto)).2.2.2.2.2.2 7)))), (h7, .inr (5, [.ref xa, .int (iZ 0), .int (iZ (((tlF tx ln 201 0 0 false tk nu (stA Kto)).2.2.1 : Nat) : Int)), .int (iZ (bZ ((tlF tx ln 201 0 0 false tk nu (stA Kto)).2.2.2.2.2.1))), .int (iZ (((tlF tx ln 201 0 0 false tk nu (stA Kto)).2.2.2.1 : Nat) : Int)), .int (iZ ((tlF tx ln 201 0 0 false tk nu (stA Kto)).2.2.2.2.1))])), (xa, .inl (Y 2, 200, .inl (aI tx))), (hv, .inr (6, [.ref h7, .ref h, .ref hto, .ref h3, .ref h4, .ref h5, .ref h6, .ref im, .ref ik])), (ik, .inl (Y 1, 2, .inl (aI (va_up kp1 i 0))))] := hD
        refine lv_iinc (v := iZ ((i + 1 : Nat) : Int)) (lv' := [(2, .int (iZ ((i + 1 : Nat) : Int))), (1, .int (iZ ((tlF tx ln 201 0 0 false tk nu (stA Kto)).1))), (0, .ref hv)]) hx hb dX6_commune_66 hl (k := 0) rfl (iZ_inc _) (by decide) rfl (fun ls hl => ?_)
        refine lv_goto (tgt := 54) hx hb dX6_commune_69 (by decide) ?_
        exact ih2 (ls := ls) (i := i + 1) (kp1 := va_up kp1 i 0) (H := H) (locs := locs) (hS := hS) (hI := by exact ⟨by rw [kpN, hI.1], by omega⟩) (hl := lv_sub hl [0, 1, 2] rfl) (hP := hP) (hD := hD) (hn_ := by omega)
  · skip
    refine lv_iload_n hx hb dX6_commune_16 rfl (lv_at hl 0 rfl) ?_
    have ef : decide (0 ≤ (tlF tx ln 201 0 0 false tk nu (stA Kto)).1) = false := decide_eq_false (by omega)
    have hP9 : va_P G vwCl (svO Y hv h7 h hto h3 h4 h5 h6 im ik ++ (txW Y h7 xa tx (bif decide (0 ≤ (tlF tx ln 201 0 0 false tk nu (stA Kto)).1) then 0 else ln) (tlF tx ln 201 0 0 false tk nu (stA Kto)).2.2.1 (tlF tx ln 201 0 0 false tk nu (stA Kto)).2.2.2.2.2.1 (tlF tx ln 201 0 0 false tk nu (stA Kto)).2.2.2.1 (tlF tx ln 201 0 0 false tk nu (stA Kto)).2.2.2.2.1 ++ (cmW Y hto adto (tlF tx ln 201 0 0 false tk nu (stA Kto)).2.2.2.2.2.2 ++ (cmW Y h ad (bif decide (0 ≤ (tlF tx ln 201 0 0 false tk nu (stA Kto)).1) then (tlF tx ln 201 0 0 false tk nu (stA Kto)).2.2.2.2.2.2 else K) ++ (paW Y h3 kn hk nx (bif decide (0 ≤ (tlF tx ln 201 0 0 false tk nu (stA Kto)).1) then 0 else sz) ++ (tlW Y h5 ta tb M T (bif decide (0 ≤ (tlF tx ln 201 0 0 false tk nu (stA Kto)).1) then 0 else n9) ++ ikW Y ik (bif decide (0 ≤ (tlF tx ln 201 0 0 false tk nu (stA Kto)).1) then kpN kp 2 else kp))))))) H := by rw [ef]; exact hP.sub [10, 0, 1, 2, 3, 4, 5, 6, 7, 8, 9, 11, 12, 13, 14, 15, 16, 17, 18, 19, 20, 21, 22, 23, 24] rfl
    exact W.iret (v := iZ ((tlF tx ln 201 0 0 false tk nu (stA Kto)).1)) hx hb hr (fun t9 ht9 _ => ⟨rfl, by rw [ht9]; exact hP9, hS.F ht9⟩) hS.2.2 dX6_commune_17
