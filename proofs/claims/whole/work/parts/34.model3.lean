set_option maxHeartbeats 4000000 in
set_option maxRecDepth 100000 in
theorem c_X7_tree (l : Launch) (G : va_G) (Y : Nat → ClassId) (g9 : Nat) (af : Nat → Nat) (F : Nat → Int) (A : Kom) (tr : Int64) (hV : mV F A (A 17)) (hno : F 26 < 0) (a b : Int) (r : zR a ∧ zR b) : Met l yX7_tree wsX7_tree ({ frames := 2, cells := 0, slots := 0, locals := 49 }) (rP G Y [.ref g9, .int (iZ a), .int (iZ b)] (moW Y g9 af F A tr)) (rQ (.int (iZ (rTree (kF F A (A 17)) a b)))) 0 0 (fun _ => False) := by
  refine Met.ofW (cc := cX7_tree) (maxL := 3) (ret := (some .int)) (by decide) rfl ?_
  intro p e s m args below meth c s₁ B hml hv
  obtain ⟨rfl, hK, hP⟩ := hv
  have hx := B.exec
  have hb := B.bytes
  have hr := B.returns
  have hts := atoms_spec (ws := wsX7_tree) B.pre
  have hown : s.vm.findClass RX7 = some m.cls := findClass_of_methodNamed B.named
  have hlocks := B.notSynchronized
  have hFX7 : ∀ w ∈ wsX70, w ∈ wsX7_tree := by decide +kernel
  have kf29 := (hts (.fieldLink RX7 29 "ShadeVotesModel" "now" "[I") (by decide +kernel))
  have hl := lv_entry ([.ref g9, .int (iZ a), .int (iZ b)]) (n := 3) (Nat.le_of_ble_eq_true rfl)
  rw [lg_entry_eq]
  generalize (lg_sl ([.ref g9, .int (iZ a), .int (iZ b)]) ++ List.replicate (3 - (lg_sl ([.ref g9, .int (iZ a), .int (iZ b)])).length) Slot.unset).toArray = ls at hl ⊢
  replace hl : lv_has ls 3 [(0, .ref g9), (1, .int (iZ a)), (2, .int (iZ b))] := hl
  have v3 := hV.2.2.1
  have v7 := hV.2.2.2.2.2.2.1
  have v8 := hV.2.2.2.2.2.2.2.1
  have v5 := hV.2.1
  have v4 := hV.2.2.2.1
  have k00 : kF F A (A 17) 0 0 = F 13 := rfl
  have k01 : kF F A (A 17) 0 1 = F 14 := rfl
  have k02 : kF F A (A 17) 0 2 = A 17 3 := rfl
  have k03 : kF F A (A 17) 0 3 = F 15 := rfl
  have k04 : kF F A (A 17) 0 4 = A 17 1 := rfl
  have k05 : kF F A (A 17) 0 5 = A 17 0 := rfl
  have k06 : kF F A (A 17) 0 6 = A 17 2 := rfl
  have kpr : kF F A (A 17) 0 0 * kF F A (A 17) 0 1 = F 13 * F 14 := rfl
  have hW := hV.1
  refine lv_aload_n hx hb dX7_tree_0 rfl (lv_at hl 0 rfl) ?_
  refine lv_iload_n hx hb dX7_tree_1 rfl (lv_at hl 1 rfl) ?_
  refine ro_V (As := [.int (iZ a)]) (rest := []) ⟨hx, hb, hml, hown, hts⟩ (c_X7_isTree l G Y g9 af F A tr a (by omega)) (cwV 1 hts gX7_tree_X7_isTree rfl rfl rfl (by decide +kernel) ⟨Nat.le_of_ble_eq_true rfl, Nat.le_of_ble_eq_true rfl⟩) hK hP 0 rfl rfl rfl hl.1 rfl (Nat.le_of_ble_eq_true rfl) dX7_tree_2 ⟨Nat.zero_le _, Nat.zero_le _⟩ ?_
  refine z_ifb_eq (tgt := 17) hx hb dX7_tree_5 (by decide) (fun c_1 => ?_) (fun c_1 => ?_)
  · skip
    have c_1 := of_decide_eq_false c_1
    refine z_iconst hx hb dX7_tree_17 ?_
    refine z_top (show (-1) = rTree (kF F A (A 17)) a b from ?_) ?_
    · unfold rTree; (repeat' split) <;> omega
    exact W.iret (v := iZ (rTree (kF F A (A 17)) a b)) hx hb hr (fun t9 ht9 _ => ⟨rfl, ht9⟩) (fun q h => absurd h List.not_mem_nil) dX7_tree_18
  · skip
    have c_1 := of_decide_eq_true c_1
    refine lv_iload_n hx hb dX7_tree_8 rfl (lv_at hl 2 rfl) ?_
    refine z_iconst hx hb dX7_tree_9 ?_
    refine z_iconst hx hb dX7_tree_10 ?_
    refine ro_S (As := [.int (iZ b), .int (iZ 0), .int (iZ 5)]) (rest := []) ⟨hx, hb, hml, hown, hts⟩ (c_X7_in l G Y b 0 5 (by omega)) (cwS 3 hts gX7_tree_X7_in rfl rfl rfl (by decide +kernel) ⟨Nat.le_of_ble_eq_true rfl, Nat.le_of_ble_eq_true rfl⟩) hK (hP.sub (ws' := []) [] rfl) rfl hl.1 rfl (Nat.le_of_ble_eq_true rfl) dX7_tree_11 ⟨Nat.zero_le _, Nat.zero_le _⟩ ?_
    refine z_ifb_ne (tgt := 19) hx hb dX7_tree_14 (by decide) (fun c_2 => ?_) (fun c_2 => ?_)
    · skip
      have c_2 := of_decide_eq_true c_2
      refine lv_iload_n hx hb dX7_tree_19 rfl (lv_at hl 2 rfl) ?_
      refine z_iconst hx hb dX7_tree_20 ?_
      refine z_icmp_ne (tgt := 36) hx hb dX7_tree_21 (by decide) (by omega) (fun c_3 => ?_) (fun c_3 => ?_)
      · skip
        refine lv_iload_n hx hb dX7_tree_36 rfl (lv_at hl 2 rfl) ?_
        refine z_iconst hx hb dX7_tree_37 ?_
        refine z_icmp_ne (tgt := 53) hx hb dX7_tree_38 (by decide) (by omega) (fun c_4 => ?_) (fun c_4 => ?_)
        · skip
          refine lv_aload_n hx hb dX7_tree_53 rfl (lv_at hl 0 rfl) ?_
          refine va_get (D := G) (ci := 7) (v := .ref (af 17)) (C := RX7) (T := TX7) (N := 29) hx hb hts hFX7 hown hK.1 hP 0 rfl rfl 17 (by decide) kf29 (fun _ h9 => h9) rfl dX7_tree_54 ?_
          refine z_iconst hx hb dX7_tree_57 ?_
          refine z_iconst hx hb dX7_tree_58 ?_
          refine lv_iload_n hx hb dX7_tree_59 rfl (lv_at hl 2 rfl) ?_
          refine z_imul hx hb dX7_tree_60 ?_
          refine z_iadd hx hb dX7_tree_61 ?_
          refine lv_iload_n hx hb dX7_tree_62 rfl (lv_at hl 1 rfl) ?_
          refine z_iadd hx hb dX7_tree_63 ?_
          refine z_iald hx hb hK.1 hP 5 0 rfl rfl ((((4 + (5 * b)) + a)).toNat) (by omega) (by decide) dX7_tree_64 ?_
          refine z_top (show (A 17) ((((4 + (5 * b)) + a)).toNat) = rTree (kF F A (A 17)) a b from ?_) ?_
          · exact (rTree_kF (by omega) (by omega) (by omega)).symm
          exact W.iret (v := iZ (rTree (kF F A (A 17)) a b)) hx hb hr (fun t9 ht9 _ => ⟨rfl, ht9⟩) (fun q h => absurd h List.not_mem_nil) dX7_tree_65
        · skip
          refine lv_aload_n hx hb dX7_tree_41 rfl (lv_at hl 0 rfl) ?_
          refine va_get (D := G) (ci := 7) (v := .ref (af 17)) (C := RX7) (T := TX7) (N := 29) hx hb hts hFX7 hown hK.1 hP 0 rfl rfl 17 (by decide) kf29 (fun _ h9 => h9) rfl dX7_tree_42 ?_
          refine z_bipush hx hb dX7_tree_45 (by decide) ?_
          refine lv_iload_n hx hb dX7_tree_47 rfl (lv_at hl 1 rfl) ?_
          refine z_iadd hx hb dX7_tree_48 ?_
          refine z_iald hx hb hK.1 hP 5 0 rfl rfl (((24 + a)).toNat) (by omega) (by decide) dX7_tree_49 ?_
          refine lv_goto (tgt := 65) hx hb dX7_tree_50 (by decide) ?_
          refine z_top (show (A 17) (((24 + a)).toNat) = rTree (kF F A (A 17)) a b from ?_) ?_
          · unfold rTree; rw [if_pos (by omega), if_neg (by omega), if_neg (by omega), if_neg (by omega), if_neg (by omega), if_neg (by omega), if_pos (by omega), kF_5 (t := a.toNat) (by omega)]; congr 1; omega
          exact W.iret (v := iZ (rTree (kF F A (A 17)) a b)) hx hb hr (fun t9 ht9 _ => ⟨rfl, ht9⟩) (fun q h => absurd h List.not_mem_nil) dX7_tree_65
      · skip
        obtain ⟨t9, ht9⟩ : ∃ t9 : Nat, a = ((t9 : Nat) : Int) := ⟨a.toNat, by omega⟩
        have ht9t : a.toNat = t9 := by omega
        rw [ht9] at hl
        refine lv_aload_n hx hb dX7_tree_24 rfl (lv_at hl 0 rfl) ?_
        refine lv_aload_n hx hb dX7_tree_25 rfl (lv_at hl 0 rfl) ?_
        refine va_get (D := G) (ci := 7) (v := .ref (af 17)) (C := RX7) (T := TX7) (N := 29) hx hb hts hFX7 hown hK.1 hP 0 rfl rfl 17 (by decide) kf29 (fun _ h9 => h9) rfl dX7_tree_26 ?_
        refine lv_iload_n hx hb dX7_tree_29 rfl (lv_at hl 1 rfl) ?_
        refine ro_V (As := [.ref (af 17), .int (iZ ((t9 : Nat) : Int))]) (rest := []) ⟨hx, hb, hml, hown, hts⟩ (c_X7_shadeOf l G Y g9 af F A tr (af 17) 5 36 (A 17) rfl (by decide) hV t9 (by omega)) (cwV 2 hts gX7_tree_X7_shadeOf rfl rfl rfl (by decide +kernel) ⟨Nat.le_of_ble_eq_true rfl, Nat.le_of_ble_eq_true rfl⟩) hK hP 0 rfl rfl rfl hl.1 rfl (Nat.le_of_ble_eq_true rfl) dX7_tree_30 ⟨Nat.zero_le _, Nat.zero_le _⟩ ?_
        have hb_5 := shB_20 (K := kF F A (A 17)) t9 (n := (F 13 * F 14).toNat) (by omega)
        refine lv_goto (tgt := 65) hx hb dX7_tree_33 (by decide) ?_
        refine z_top (show ((shB (kF F A (A 17)) t9 (F 13 * F 14).toNat : Nat) : Int) = rTree (kF F A (A 17)) a b from ?_) ?_
        · unfold rTree; rw [ht9t, if_pos (by omega), if_neg (by omega), if_neg (by omega), if_neg (by omega), if_neg (by omega), if_pos (by omega)]; rfl
        exact W.iret (v := iZ (rTree (kF F A (A 17)) a b)) hx hb hr (fun t9 ht9 _ => ⟨rfl, ht9⟩) (fun q h => absurd h List.not_mem_nil) dX7_tree_65
    · skip
      have c_2 := of_decide_eq_false c_2
      refine z_iconst hx hb dX7_tree_17 ?_
      refine z_top (show (-1) = rTree (kF F A (A 17)) a b from ?_) ?_
      · unfold rTree; (repeat' split) <;> omega
      exact W.iret (v := iZ (rTree (kF F A (A 17)) a b)) hx hb hr (fun t9 ht9 _ => ⟨rfl, ht9⟩) (fun q h => absurd h List.not_mem_nil) dX7_tree_18

set_option maxHeartbeats 4000000 in
set_option maxRecDepth 100000 in
theorem c_X7_person (l : Launch) (G : va_G) (Y : Nat → ClassId) (g9 : Nat) (af : Nat → Nat) (F : Nat → Int) (A : Kom) (tr : Int64) (hV : mV F A (A 17)) (hno : F 26 < 0) (a b : Int) (r : zR a ∧ zR b) : Met l yX7_person wsX7_person ({ frames := 3, cells := 0, slots := 0, locals := 74 }) (rP G Y [.ref g9, .int (iZ a), .int (iZ b)] (moW Y g9 af F A tr)) (rQ (.int (iZ (rPers (kF F A (A 17)) a b)))) 0 0 (fun _ => False) := by
  refine Met.ofW (cc := cX7_person) (maxL := 3) (ret := (some .int)) (by decide) rfl ?_
  intro p e s m args below meth c s₁ B hml hv
  obtain ⟨rfl, hK, hP⟩ := hv
  have hx := B.exec
  have hb := B.bytes
  have hr := B.returns
  have hts := atoms_spec (ws := wsX7_person) B.pre
  have hown : s.vm.findClass RX7 = some m.cls := findClass_of_methodNamed B.named
  have hlocks := B.notSynchronized
  have hFX7 : ∀ w ∈ wsX70, w ∈ wsX7_person := by decide +kernel
  have kf29 := (hts (.fieldLink RX7 29 "ShadeVotesModel" "now" "[I") (by decide +kernel))
  have kf26 := (hts (.fieldLink RX7 26 "ShadeVotesModel" "weight" "[I") (by decide +kernel))
  have hl := lv_entry ([.ref g9, .int (iZ a), .int (iZ b)]) (n := 3) (Nat.le_of_ble_eq_true rfl)
  rw [lg_entry_eq]
  generalize (lg_sl ([.ref g9, .int (iZ a), .int (iZ b)]) ++ List.replicate (3 - (lg_sl ([.ref g9, .int (iZ a), .int (iZ b)])).length) Slot.unset).toArray = ls at hl ⊢
  replace hl : lv_has ls 3 [(0, .ref g9), (1, .int (iZ a)), (2, .int (iZ b))] := hl
  have v3 := hV.2.2.1
  have v7 := hV.2.2.2.2.2.2.1
  have v8 := hV.2.2.2.2.2.2.2.1
  have v5 := hV.2.1
  have v4 := hV.2.2.2.1
  have k00 : kF F A (A 17) 0 0 = F 13 := rfl
  have k01 : kF F A (A 17) 0 1 = F 14 := rfl
  have k02 : kF F A (A 17) 0 2 = A 17 3 := rfl
  have k03 : kF F A (A 17) 0 3 = F 15 := rfl
  have k04 : kF F A (A 17) 0 4 = A 17 1 := rfl
  have k05 : kF F A (A 17) 0 5 = A 17 0 := rfl
  have k06 : kF F A (A 17) 0 6 = A 17 2 := rfl
  have kpr : kF F A (A 17) 0 0 * kF F A (A 17) 0 1 = F 13 * F 14 := rfl
  have hW := hV.1
  refine lv_aload_n hx hb dX7_person_0 rfl (lv_at hl 0 rfl) ?_
  refine lv_iload_n hx hb dX7_person_1 rfl (lv_at hl 1 rfl) ?_
  refine ro_V (As := [.int (iZ a)]) (rest := []) ⟨hx, hb, hml, hown, hts⟩ (c_X7_isOne l G Y g9 af F A tr a (by omega)) (cwV 1 hts gX7_person_X7_isOne rfl rfl rfl (by decide +kernel) ⟨Nat.le_of_ble_eq_true rfl, Nat.le_of_ble_eq_true rfl⟩) hK hP 0 rfl rfl rfl hl.1 rfl (Nat.le_of_ble_eq_true rfl) dX7_person_2 ⟨Nat.zero_le _, Nat.zero_le _⟩ ?_
  refine z_ifb_eq (tgt := 17) hx hb dX7_person_5 (by decide) (fun c_1 => ?_) (fun c_1 => ?_)
  · skip
    have c_1 := of_decide_eq_false c_1
    refine z_iconst hx hb dX7_person_17 ?_
    refine z_top (show (-1) = rPers (kF F A (A 17)) a b from ?_) ?_
    · unfold rPers; (repeat' split) <;> omega
    exact W.iret (v := iZ (rPers (kF F A (A 17)) a b)) hx hb hr (fun t9 ht9 _ => ⟨rfl, ht9⟩) (fun q h => absurd h List.not_mem_nil) dX7_person_18
  · skip
    have c_1 := of_decide_eq_true c_1
    refine lv_iload_n hx hb dX7_person_8 rfl (lv_at hl 2 rfl) ?_
    refine z_iconst hx hb dX7_person_9 ?_
    refine z_iconst hx hb dX7_person_10 ?_
    refine ro_S (As := [.int (iZ b), .int (iZ 0), .int (iZ 2)]) (rest := []) ⟨hx, hb, hml, hown, hts⟩ (c_X7_in l G Y b 0 2 (by omega)) (cwS 3 hts gX7_person_X7_in rfl rfl rfl (by decide +kernel) ⟨Nat.le_of_ble_eq_true rfl, Nat.le_of_ble_eq_true rfl⟩) hK (hP.sub (ws' := []) [] rfl) rfl hl.1 rfl (Nat.le_of_ble_eq_true rfl) dX7_person_11 ⟨Nat.zero_le _, Nat.zero_le _⟩ ?_
    refine z_ifb_ne (tgt := 19) hx hb dX7_person_14 (by decide) (fun c_2 => ?_) (fun c_2 => ?_)
    · skip
      have c_2 := of_decide_eq_true c_2
      refine lv_iload_n hx hb dX7_person_19 rfl (lv_at hl 2 rfl) ?_
      refine z_if_ne (tgt := 35) hx hb dX7_person_20 (by decide) (by omega) (fun c_3 => ?_) (fun c_3 => ?_)
      · skip
        refine lv_iload_n hx hb dX7_person_35 rfl (lv_at hl 2 rfl) ?_
        refine z_iconst hx hb dX7_person_36 ?_
        refine z_icmp_ne (tgt := 49) hx hb dX7_person_37 (by decide) (by omega) (fun c_4 => ?_) (fun c_4 => ?_)
        · skip
          refine lv_aload_n hx hb dX7_person_49 rfl (lv_at hl 0 rfl) ?_
          refine lv_aload_n hx hb dX7_person_50 rfl (lv_at hl 0 rfl) ?_
          refine va_get (D := G) (ci := 7) (v := .ref (af 17)) (C := RX7) (T := TX7) (N := 29) hx hb hts hFX7 hown hK.1 hP 0 rfl rfl 17 (by decide) kf29 (fun _ h9 => h9) rfl dX7_person_51 ?_
          refine lv_aload_n hx hb dX7_person_54 rfl (lv_at hl 0 rfl) ?_
          refine va_get (D := G) (ci := 7) (v := .ref (af 17)) (C := RX7) (T := TX7) (N := 29) hx hb hts hFX7 hown hK.1 hP 0 rfl rfl 17 (by decide) kf29 (fun _ h9 => h9) rfl dX7_person_55 ?_
          refine z_bipush hx hb dX7_person_58 (by decide) ?_
          refine lv_iload_n hx hb dX7_person_60 rfl (lv_at hl 1 rfl) ?_
          refine z_iadd hx hb dX7_person_61 ?_
          refine z_iald hx hb hK.1 hP 5 0 rfl rfl (((29 + a)).toNat) (by omega) (by decide) dX7_person_62 ?_
          have e29 : ((29 + a)).toNat = 29 + a.toNat := by omega
          have hp1 := hV.2.2.2.2.2.1 a.toNat (by omega)
          have hp2 := hV.2.2.2.2.2.2.2.2.1 a.toNat (by omega)
          rw [e29]
          refine ro_V (As := [.ref (af 17), .int (iZ ((A 17) (29 + a.toNat)))]) (rest := []) ⟨hx, hb, hml, hown, hts⟩ (c_X7_under l G Y g9 af F A tr (af 17) 5 36 (A 17) rfl (by decide) hV ((A 17) (29 + a.toNat)) (by omega)) (cwV 2 hts gX7_person_X7_under rfl rfl rfl (by decide +kernel) ⟨Nat.le_of_ble_eq_true rfl, Nat.le_of_ble_eq_true rfl⟩) hK hP 0 rfl rfl rfl hl.1 rfl (Nat.le_of_ble_eq_true rfl) dX7_person_63 ⟨Nat.zero_le _, Nat.zero_le _⟩ ?_
          rw [kM_no hno]
          have hb_5 := ov_kM hV ((A 17) (29 + a.toNat))
          rw [kM_no hno] at hb_5
          refine z_top (show ov (kF F A (A 17)) ((A 17) (29 + a.toNat)) = rPers (kF F A (A 17)) a b from ?_) ?_
          · unfold rPers; rw [if_pos (by omega)]; rw [if_neg (by omega), if_neg (by omega), if_pos (by omega)]; rfl
          exact W.iret (v := iZ (rPers (kF F A (A 17)) a b)) hx hb hr (fun t9 ht9 _ => ⟨rfl, ht9⟩) (fun q h => absurd h List.not_mem_nil) dX7_person_66
        · skip
          refine lv_aload_n hx hb dX7_person_40 rfl (lv_at hl 0 rfl) ?_
          refine va_get (D := G) (ci := 7) (v := .ref (af 16)) (C := RX7) (T := TX7) (N := 29) hx hb hts hFX7 hown hK.1 hP 0 rfl rfl 16 (by decide) kf26 (fun _ h9 => h9) rfl dX7_person_41 ?_
          refine lv_iload_n hx hb dX7_person_44 rfl (lv_at hl 1 rfl) ?_
          refine z_iald hx hb hK.1 hP 4 0 rfl rfl ((a).toNat) (by omega) (by decide) dX7_person_45 ?_
          refine lv_goto (tgt := 66) hx hb dX7_person_46 (by decide) ?_
          refine z_top (show (A 16) ((a).toNat) = rPers (kF F A (A 17)) a b from ?_) ?_
          · unfold rPers; rw [if_pos (by omega)]; rw [if_neg (by omega), if_pos (by omega)]; rfl
          exact W.iret (v := iZ (rPers (kF F A (A 17)) a b)) hx hb hr (fun t9 ht9 _ => ⟨rfl, ht9⟩) (fun q h => absurd h List.not_mem_nil) dX7_person_66
      · skip
        refine lv_aload_n hx hb dX7_person_23 rfl (lv_at hl 0 rfl) ?_
        refine va_get (D := G) (ci := 7) (v := .ref (af 17)) (C := RX7) (T := TX7) (N := 29) hx hb hts hFX7 hown hK.1 hP 0 rfl rfl 17 (by decide) kf29 (fun _ h9 => h9) rfl dX7_person_24 ?_
        refine z_bipush hx hb dX7_person_27 (by decide) ?_
        refine lv_iload_n hx hb dX7_person_29 rfl (lv_at hl 1 rfl) ?_
        refine z_iadd hx hb dX7_person_30 ?_
        refine z_iald hx hb hK.1 hP 5 0 rfl rfl (((29 + a)).toNat) (by omega) (by decide) dX7_person_31 ?_
        refine lv_goto (tgt := 66) hx hb dX7_person_32 (by decide) ?_
        refine z_top (show (A 17) (((29 + a)).toNat) = rPers (kF F A (A 17)) a b from ?_) ?_
        · unfold rPers; rw [if_pos (by omega)]; rw [if_pos (by omega)]; show A 17 _ = A 17 (29 + a.toNat); congr 1; omega
        exact W.iret (v := iZ (rPers (kF F A (A 17)) a b)) hx hb hr (fun t9 ht9 _ => ⟨rfl, ht9⟩) (fun q h => absurd h List.not_mem_nil) dX7_person_66
    · skip
      have c_2 := of_decide_eq_false c_2
      refine z_iconst hx hb dX7_person_17 ?_
      refine z_top (show (-1) = rPers (kF F A (A 17)) a b from ?_) ?_
      · unfold rPers; (repeat' split) <;> omega
      exact W.iret (v := iZ (rPers (kF F A (A 17)) a b)) hx hb hr (fun t9 ht9 _ => ⟨rfl, ht9⟩) (fun q h => absurd h List.not_mem_nil) dX7_person_18

set_option maxHeartbeats 4000000 in
set_option maxRecDepth 100000 in
theorem c_X7_motion (l : Launch) (G : va_G) (Y : Nat → ClassId) (g9 : Nat) (af : Nat → Nat) (F : Nat → Int) (A : Kom) (tr : Int64) (hV : mV F A (A 17)) (hno : F 26 < 0) (a b : Int) (r : zR a ∧ zR b) : Met l yX7_motion wsX7_motion ({ frames := 5, cells := 0, slots := 0, locals := 123 }) (rP G Y [.ref g9, .int (iZ a), .int (iZ b)] (moW Y g9 af F A tr)) (rQ (.int (iZ (xMot (kF F A (A 17)) a b)))) 0 0 (fun _ => False) := by
  refine Met.ofW (cc := cX7_motion) (maxL := 5) (ret := (some .int)) (by decide) rfl ?_
  intro p e s m args below meth c s₁ B hml hv
  obtain ⟨rfl, hK, hP⟩ := hv
  have hx := B.exec
  have hb := B.bytes
  have hr := B.returns
  have hts := atoms_spec (ws := wsX7_motion) B.pre
  have hown : s.vm.findClass RX7 = some m.cls := findClass_of_methodNamed B.named
  have hlocks := B.notSynchronized
  have hFX7 : ∀ w ∈ wsX70, w ∈ wsX7_motion := by decide +kernel
  have kf29 := (hts (.fieldLink RX7 29 "ShadeVotesModel" "now" "[I") (by decide +kernel))
  have hl := lv_entry ([.ref g9, .int (iZ a), .int (iZ b)]) (n := 5) (Nat.le_of_ble_eq_true rfl)
  rw [lg_entry_eq]
  generalize (lg_sl ([.ref g9, .int (iZ a), .int (iZ b)]) ++ List.replicate (5 - (lg_sl ([.ref g9, .int (iZ a), .int (iZ b)])).length) Slot.unset).toArray = ls at hl ⊢
  replace hl : lv_has ls 5 [(0, .ref g9), (1, .int (iZ a)), (2, .int (iZ b))] := hl
  have v3 := hV.2.2.1
  have v7 := hV.2.2.2.2.2.2.1
  have v8 := hV.2.2.2.2.2.2.2.1
  have v5 := hV.2.1
  have v4 := hV.2.2.2.1
  have k00 : kF F A (A 17) 0 0 = F 13 := rfl
  have k01 : kF F A (A 17) 0 1 = F 14 := rfl
  have k02 : kF F A (A 17) 0 2 = A 17 3 := rfl
  have k03 : kF F A (A 17) 0 3 = F 15 := rfl
  have k04 : kF F A (A 17) 0 4 = A 17 1 := rfl
  have k05 : kF F A (A 17) 0 5 = A 17 0 := rfl
  have k06 : kF F A (A 17) 0 6 = A 17 2 := rfl
  have kpr : kF F A (A 17) 0 0 * kF F A (A 17) 0 1 = F 13 * F 14 := rfl
  have hW := hV.1
  have hp2 := p2_in (F 15).toNat (by omega)
  refine lv_iload_n hx hb dX7_motion_0 rfl (lv_at hl 1 rfl) ?_
  refine z_iconst hx hb dX7_motion_1 ?_
  refine z_iconst hx hb dX7_motion_2 ?_
  refine ro_S (As := [.int (iZ a), .int (iZ 0), .int (iZ 2)]) (rest := []) ⟨hx, hb, hml, hown, hts⟩ (c_X7_in l G Y a 0 2 (by omega)) (cwS 3 hts gX7_motion_X7_in rfl rfl rfl (by decide +kernel) ⟨Nat.le_of_ble_eq_true rfl, Nat.le_of_ble_eq_true rfl⟩) hK (hP.sub (ws' := []) [] rfl) rfl hl.1 rfl (Nat.le_of_ble_eq_true rfl) dX7_motion_3 ⟨Nat.zero_le _, Nat.zero_le _⟩ ?_
  refine z_ifb_eq (tgt := 18) hx hb dX7_motion_6 (by decide) (fun c_1 => ?_) (fun c_1 => ?_)
  · skip
    have c_1 := of_decide_eq_false c_1
    refine z_iconst hx hb dX7_motion_18 ?_
    refine z_top (show (-1) = xMot (kF F A (A 17)) a b from ?_) ?_
    · unfold xMot; rw [k03]; (repeat' split) <;> first | rfl | omega | (simp_all; done)
    exact W.iret (v := iZ (xMot (kF F A (A 17)) a b)) hx hb hr (fun t9 ht9 _ => ⟨rfl, ht9⟩) (fun q h => absurd h List.not_mem_nil) dX7_motion_19
  · skip
    have c_1 := of_decide_eq_true c_1
    refine lv_iload_n hx hb dX7_motion_9 rfl (lv_at hl 2 rfl) ?_
    refine z_iconst hx hb dX7_motion_10 ?_
    refine z_iconst hx hb dX7_motion_11 ?_
    refine ro_S (As := [.int (iZ b), .int (iZ 0), .int (iZ 2)]) (rest := []) ⟨hx, hb, hml, hown, hts⟩ (c_X7_in l G Y b 0 2 (by omega)) (cwS 3 hts gX7_motion_X7_in rfl rfl rfl (by decide +kernel) ⟨Nat.le_of_ble_eq_true rfl, Nat.le_of_ble_eq_true rfl⟩) hK (hP.sub (ws' := []) [] rfl) rfl hl.1 rfl (Nat.le_of_ble_eq_true rfl) dX7_motion_12 ⟨Nat.zero_le _, Nat.zero_le _⟩ ?_
    refine z_ifb_ne (tgt := 20) hx hb dX7_motion_15 (by decide) (fun c_2 => ?_) (fun c_2 => ?_)
    · skip
      have c_2 := of_decide_eq_true c_2
      refine lv_aload_n hx hb dX7_motion_20 rfl (lv_at hl 0 rfl) ?_
      refine lv_aload_n hx hb dX7_motion_21 rfl (lv_at hl 0 rfl) ?_
      refine va_get (D := G) (ci := 7) (v := .ref (af 17)) (C := RX7) (T := TX7) (N := 29) hx hb hts hFX7 hown hK.1 hP 0 rfl rfl 17 (by decide) kf29 (fun _ h9 => h9) rfl dX7_motion_22 ?_
      refine lv_iload_n hx hb dX7_motion_25 rfl (lv_at hl 1 rfl) ?_
      refine lv_aload_n hx hb dX7_motion_26 rfl (lv_at hl 0 rfl) ?_
      refine ro_V (As := []) (rest := [.int (iZ a), .ref (af 17), .ref g9]) ⟨hx, hb, hml, hown, hts⟩ (c_X7_everybody l G Y g9 af F A tr (by omega)) (cwV 0 hts gX7_motion_X7_everybody rfl rfl rfl (by decide +kernel) ⟨Nat.le_of_ble_eq_true rfl, Nat.le_of_ble_eq_true rfl⟩) hK hP 0 rfl rfl rfl hl.1 rfl (Nat.le_of_ble_eq_true rfl) dX7_motion_27 ⟨Nat.zero_le _, Nat.zero_le _⟩ ?_
      refine ro_V (As := [.ref (af 17), .int (iZ a), .int (iZ ((2 ^ (F 15).toNat - 1 : Nat) : Int))]) (rest := []) ⟨hx, hb, hml, hown, hts⟩ (c_X7_balance l G Y g9 af F A tr (af 17) 5 36 (A 17) rfl (by decide) hV a (2 ^ (F 15).toNat - 1) (by omega)) (cwV 3 hts gX7_motion_X7_balance rfl rfl rfl (by decide +kernel) ⟨Nat.le_of_ble_eq_true rfl, Nat.le_of_ble_eq_true rfl⟩) hK hP 0 rfl rfl rfl hl.1 rfl (Nat.le_of_ble_eq_true rfl) dX7_motion_30 ⟨Nat.zero_le _, Nat.zero_le _⟩ ?_
      rw [kM_no hno]
      have hb_3 := blN_in (kM_WF hV) (a).toNat (2 ^ (F 15).toNat - 1) (F 15).toNat (by omega)
      rw [kM_no hno] at hb_3
      refine lv_istore_n (lv' := [(3, .int (iZ (blN (kF F A (A 17)) (a).toNat (2 ^ (F 15).toNat - 1) (F 15).toNat))), (0, .ref g9), (1, .int (iZ a)), (2, .int (iZ b))]) hx hb dX7_motion_33 rfl hl (by decide) rfl (fun ls hl => ?_)
      refine lv_aload_n hx hb dX7_motion_34 rfl (lv_at hl 1 rfl) ?_
      refine lv_aload_n hx hb dX7_motion_35 rfl (lv_at hl 1 rfl) ?_
      refine va_get (D := G) (ci := 7) (v := .ref (af 17)) (C := RX7) (T := TX7) (N := 29) hx hb hts hFX7 hown hK.1 hP 0 rfl rfl 17 (by decide) kf29 (fun _ h9 => h9) rfl dX7_motion_36 ?_
      refine lv_iload_n hx hb dX7_motion_39 rfl (lv_at hl 2 rfl) ?_
      refine ro_V (As := [.ref (af 17), .int (iZ a)]) (rest := []) ⟨hx, hb, hml, hown, hts⟩ (c_X7_forOf l G Y g9 af F A tr (af 17) 5 36 (A 17) rfl (by decide) hV a (by omega)) (cwV 2 hts gX7_motion_X7_forOf rfl rfl rfl (by decide +kernel) ⟨Nat.le_of_ble_eq_true rfl, Nat.le_of_ble_eq_true rfl⟩) hK hP 0 rfl rfl rfl hl.1 rfl (Nat.le_of_ble_eq_true rfl) dX7_motion_40 ⟨Nat.zero_le _, Nat.zero_le _⟩ ?_
      rw [kM_no hno]
      have hb_7 := wb_in (kM_WF hV) (a).toNat 1
      rw [kM_no hno] at hb_7
      refine lv_istore (lv' := [(4, .int (iZ (wb (kF F A (A 17)) (a).toNat 1))), (3, .int (iZ (blN (kF F A (A 17)) (a).toNat (2 ^ (F 15).toNat - 1) (F 15).toNat))), (0, .ref g9), (1, .int (iZ a)), (2, .int (iZ b))]) hx hb dX7_motion_43 hl (by decide) rfl (fun ls hl => ?_)
      refine lv_iload_n hx hb dX7_motion_45 rfl (lv_at hl 4 rfl) ?_
      refine z_if_ne (tgt := 54) hx hb dX7_motion_46 (by decide) (by omega) (fun c_11 => ?_) (fun c_11 => ?_)
      · skip
        refine lv_iload_n hx hb dX7_motion_54 rfl (lv_at hl 4 rfl) ?_
        refine z_iconst hx hb dX7_motion_55 ?_
        refine z_icmp_ne (tgt := 66) hx hb dX7_motion_56 (by decide) (by omega) (fun c_12 => ?_) (fun c_12 => ?_)
        · skip
          refine lv_iload_n hx hb dX7_motion_66 rfl (lv_at hl 1 rfl) ?_
          refine z_if_le (tgt := 74) hx hb dX7_motion_67 (by decide) (by omega) (fun c_13 => ?_) (fun c_13 => ?_)
          · skip
            refine z_iconst hx hb dX7_motion_74 ?_
            refine z_top (show 0 = xMot (kF F A (A 17)) a b from ?_) ?_
            · unfold xMot; rw [k03]; (repeat' split) <;> first | rfl | omega | (simp_all; done)
            exact W.iret (v := iZ (xMot (kF F A (A 17)) a b)) hx hb hr (fun t9 ht9 _ => ⟨rfl, ht9⟩) (fun q h => absurd h List.not_mem_nil) dX7_motion_75
          · skip
            refine z_iconst hx hb dX7_motion_70 ?_
            refine lv_goto (tgt := 75) hx hb dX7_motion_71 (by decide) ?_
            refine z_top (show 1 = xMot (kF F A (A 17)) a b from ?_) ?_
            · unfold xMot; rw [k03]; (repeat' split) <;> first | rfl | omega | (simp_all; done)
            exact W.iret (v := iZ (xMot (kF F A (A 17)) a b)) hx hb hr (fun t9 ht9 _ => ⟨rfl, ht9⟩) (fun q h => absurd h List.not_mem_nil) dX7_motion_75
        · skip
          refine lv_iload hx hb dX7_motion_59 (lv_at hl 0 rfl) ?_
          refine lv_iload_n hx hb dX7_motion_61 rfl (lv_at hl 1 rfl) ?_
          refine z_isub hx hb dX7_motion_62 ?_
          refine lv_goto (tgt := 75) hx hb dX7_motion_63 (by decide) ?_
          refine z_top (show (wb (kF F A (A 17)) (a).toNat 1 - blN (kF F A (A 17)) (a).toNat (2 ^ (F 15).toNat - 1) (F 15).toNat) = xMot (kF F A (A 17)) a b from ?_) ?_
          · unfold xMot; rw [k03]; (repeat' split) <;> first | rfl | omega | (simp_all; done)
          exact W.iret (v := iZ (xMot (kF F A (A 17)) a b)) hx hb hr (fun t9 ht9 _ => ⟨rfl, ht9⟩) (fun q h => absurd h List.not_mem_nil) dX7_motion_75
      · skip
        refine lv_iload hx hb dX7_motion_49 (lv_at hl 0 rfl) ?_
        refine lv_goto (tgt := 75) hx hb dX7_motion_51 (by decide) ?_
        refine z_top (show wb (kF F A (A 17)) (a).toNat 1 = xMot (kF F A (A 17)) a b from ?_) ?_
        · unfold xMot; rw [k03]; (repeat' split) <;> first | rfl | omega | (simp_all; done)
        exact W.iret (v := iZ (xMot (kF F A (A 17)) a b)) hx hb hr (fun t9 ht9 _ => ⟨rfl, ht9⟩) (fun q h => absurd h List.not_mem_nil) dX7_motion_75
    · skip
      have c_2 := of_decide_eq_false c_2
      refine z_iconst hx hb dX7_motion_18 ?_
      refine z_top (show (-1) = xMot (kF F A (A 17)) a b from ?_) ?_
      · unfold xMot; rw [k03]; (repeat' split) <;> first | rfl | omega | (simp_all; done)
      exact W.iret (v := iZ (xMot (kF F A (A 17)) a b)) hx hb hr (fun t9 ht9 _ => ⟨rfl, ht9⟩) (fun q h => absurd h List.not_mem_nil) dX7_motion_19

set_option maxHeartbeats 4000000 in
set_option maxRecDepth 100000 in
theorem c_X7_now (l : Launch) (G : va_G) (Y : Nat → ClassId) (g9 : Nat) (af : Nat → Nat) (F : Nat → Int) (A : Kom) (tr : Int64) (hV : mV F A (A 17)) (hno : F 26 < 0) (a : Int) (r : zR a ∧ zR (F 22)) : Met l yX7_now wsX7_now ({ frames := 1, cells := 0, slots := 0, locals := 22 }) (rP G Y [.ref g9, .int (iZ a)] (moW Y g9 af F A tr)) (rQ (.int (iZ (rNow (kF F A (A 17)) (F 22) a)))) 0 0 (fun _ => False) := by
  refine Met.ofW (cc := cX7_now) (maxL := 2) (ret := (some .int)) (by decide) rfl ?_
  intro p e s m args below meth c s₁ B hml hv
  obtain ⟨rfl, hK, hP⟩ := hv
  have hx := B.exec
  have hb := B.bytes
  have hr := B.returns
  have hts := atoms_spec (ws := wsX7_now) B.pre
  have hown : s.vm.findClass RX7 = some m.cls := findClass_of_methodNamed B.named
  have hlocks := B.notSynchronized
  have hFX7 : ∀ w ∈ wsX70, w ∈ wsX7_now := by decide +kernel
  have kf29 := (hts (.fieldLink RX7 29 "ShadeVotesModel" "now" "[I") (by decide +kernel))
  have kf119 := (hts (.fieldLink RX7 119 "ShadeVotesModel" "backs" "I") (by decide +kernel))
  have hl := lv_entry ([.ref g9, .int (iZ a)]) (n := 2) (Nat.le_of_ble_eq_true rfl)
  rw [lg_entry_eq]
  generalize (lg_sl ([.ref g9, .int (iZ a)]) ++ List.replicate (2 - (lg_sl ([.ref g9, .int (iZ a)])).length) Slot.unset).toArray = ls at hl ⊢
  replace hl : lv_has ls 2 [(0, .ref g9), (1, .int (iZ a))] := hl
  have v3 := hV.2.2.1
  have v7 := hV.2.2.2.2.2.2.1
  have v8 := hV.2.2.2.2.2.2.2.1
  have v5 := hV.2.1
  have v4 := hV.2.2.2.1
  have k00 : kF F A (A 17) 0 0 = F 13 := rfl
  have k01 : kF F A (A 17) 0 1 = F 14 := rfl
  have k02 : kF F A (A 17) 0 2 = A 17 3 := rfl
  have k03 : kF F A (A 17) 0 3 = F 15 := rfl
  have k04 : kF F A (A 17) 0 4 = A 17 1 := rfl
  have k05 : kF F A (A 17) 0 5 = A 17 0 := rfl
  have k06 : kF F A (A 17) 0 6 = A 17 2 := rfl
  have kpr : kF F A (A 17) 0 0 * kF F A (A 17) 0 1 = F 13 * F 14 := rfl
  have hW := hV.1
  refine lv_iload_n hx hb dX7_now_0 rfl (lv_at hl 1 rfl) ?_
  refine z_iconst hx hb dX7_now_1 ?_
  refine z_icmp_ne (tgt := 12) hx hb dX7_now_2 (by decide) (by omega) (fun c_1 => ?_) (fun c_1 => ?_)
  · skip
    refine lv_iload_n hx hb dX7_now_12 rfl (lv_at hl 1 rfl) ?_
    refine z_iconst hx hb dX7_now_13 ?_
    refine z_iconst hx hb dX7_now_14 ?_
    refine ro_S (As := [.int (iZ a), .int (iZ 0), .int (iZ 3)]) (rest := []) ⟨hx, hb, hml, hown, hts⟩ (c_X7_in l G Y a 0 3 (by omega)) (cwS 3 hts gX7_now_X7_in rfl rfl rfl (by decide +kernel) ⟨Nat.le_of_ble_eq_true rfl, Nat.le_of_ble_eq_true rfl⟩) hK (hP.sub (ws' := []) [] rfl) rfl hl.1 rfl (Nat.le_of_ble_eq_true rfl) dX7_now_15 ⟨Nat.zero_le _, Nat.zero_le _⟩ ?_
    refine z_ifb_eq (tgt := 30) hx hb dX7_now_18 (by decide) (fun c_2 => ?_) (fun c_2 => ?_)
    · skip
      have c_2 := of_decide_eq_false c_2
      refine z_iconst hx hb dX7_now_30 ?_
      refine z_top (show (-1) = rNow (kF F A (A 17)) (F 22) a from ?_) ?_
      · unfold rNow; (repeat' split) <;> omega
      exact W.iret (v := iZ (rNow (kF F A (A 17)) (F 22) a)) hx hb hr (fun t9 ht9 _ => ⟨rfl, ht9⟩) (fun q h => absurd h List.not_mem_nil) dX7_now_31
    · skip
      have c_2 := of_decide_eq_true c_2
      refine lv_aload_n hx hb dX7_now_21 rfl (lv_at hl 0 rfl) ?_
      refine va_get (D := G) (ci := 7) (v := .ref (af 17)) (C := RX7) (T := TX7) (N := 29) hx hb hts hFX7 hown hK.1 hP 0 rfl rfl 17 (by decide) kf29 (fun _ h9 => h9) rfl dX7_now_22 ?_
      refine lv_iload_n hx hb dX7_now_25 rfl (lv_at hl 1 rfl) ?_
      refine z_iald hx hb hK.1 hP 5 0 rfl rfl ((a).toNat) (by omega) (by decide) dX7_now_26 ?_
      have hn9 : (A 17) (a).toNat = rNow (kF F A (A 17)) (F 22) a ∧ zR ((A 17) (a).toNat) := by rcases (show a = 0 ∨ a = 1 ∨ a = 2 ∨ a = 3 by omega) with rfl | rfl | rfl | rfl; exact ⟨rfl, by show zR (A 17 0); omega⟩; exact ⟨rfl, by show zR (A 17 1); omega⟩; exact ⟨rfl, by show zR (A 17 2); omega⟩; exact ⟨rfl, by show zR (A 17 3); omega⟩
      refine lv_goto (tgt := 31) hx hb dX7_now_27 (by decide) ?_
      refine z_top (show (A 17) ((a).toNat) = rNow (kF F A (A 17)) (F 22) a from ?_) ?_
      · exact hn9.1
      exact W.iret (v := iZ (rNow (kF F A (A 17)) (F 22) a)) hx hb hr (fun t9 ht9 _ => ⟨rfl, ht9⟩) (fun q h => absurd h List.not_mem_nil) dX7_now_31
  · skip
    refine lv_aload_n hx hb dX7_now_5 rfl (lv_at hl 0 rfl) ?_
    refine va_get (D := G) (ci := 7) (v := .int (iZ (F 22))) (C := RX7) (T := TX7) (N := 29) hx hb hts hFX7 hown hK.1 hP 0 rfl rfl 22 (by decide) kf119 (fun _ h9 => h9) rfl dX7_now_6 ?_
    refine lv_goto (tgt := 31) hx hb dX7_now_9 (by decide) ?_
    refine z_top (show F 22 = rNow (kF F A (A 17)) (F 22) a from ?_) ?_
    · unfold rNow; (repeat' split) <;> omega
    exact W.iret (v := iZ (rNow (kF F A (A 17)) (F 22) a)) hx hb hr (fun t9 ht9 _ => ⟨rfl, ht9⟩) (fun q h => absurd h List.not_mem_nil) dX7_now_31

set_option maxHeartbeats 4000000 in
set_option maxRecDepth 100000 in
theorem c_X7_share (l : Launch) (G : va_G) (Y : Nat → ClassId) (g9 : Nat) (af : Nat → Nat) (F : Nat → Int) (A : Kom) (tr : Int64) (hV : mV F A (A 17)) (hno : F 26 < 0) (a : Int) (r : zR a) : Met l yX7_share wsX7_share ({ frames := 4, cells := 0, slots := 0, locals := 97 }) (rP G Y [.ref g9, .int (iZ a)] (moW Y g9 af F A tr)) (rQ (.int (iZ (rShare (kF F A (A 17)) a)))) 0 0 (fun _ => False) := by
  refine Met.ofW (cc := cX7_share) (maxL := 4) (ret := (some .int)) (by decide) rfl ?_
  intro p e s m args below meth c s₁ B hml hv
  obtain ⟨rfl, hK, hP⟩ := hv
  have hx := B.exec
  have hb := B.bytes
  have hr := B.returns
  have hts := atoms_spec (ws := wsX7_share) B.pre
  have hown : s.vm.findClass RX7 = some m.cls := findClass_of_methodNamed B.named
  have hlocks := B.notSynchronized
  have hFX7 : ∀ w ∈ wsX70, w ∈ wsX7_share := by decide +kernel
  have kf29 := (hts (.fieldLink RX7 29 "ShadeVotesModel" "now" "[I") (by decide +kernel))
  have hl := lv_entry ([.ref g9, .int (iZ a)]) (n := 4) (Nat.le_of_ble_eq_true rfl)
  rw [lg_entry_eq]
  generalize (lg_sl ([.ref g9, .int (iZ a)]) ++ List.replicate (4 - (lg_sl ([.ref g9, .int (iZ a)])).length) Slot.unset).toArray = ls at hl ⊢
  replace hl : lv_has ls 4 [(0, .ref g9), (1, .int (iZ a))] := hl
  have v3 := hV.2.2.1
  have v7 := hV.2.2.2.2.2.2.1
  have v8 := hV.2.2.2.2.2.2.2.1
  have v5 := hV.2.1
  have v4 := hV.2.2.2.1
  have k00 : kF F A (A 17) 0 0 = F 13 := rfl
  have k01 : kF F A (A 17) 0 1 = F 14 := rfl
  have k02 : kF F A (A 17) 0 2 = A 17 3 := rfl
  have k03 : kF F A (A 17) 0 3 = F 15 := rfl
  have k04 : kF F A (A 17) 0 4 = A 17 1 := rfl
  have k05 : kF F A (A 17) 0 5 = A 17 0 := rfl
  have k06 : kF F A (A 17) 0 6 = A 17 2 := rfl
  have kpr : kF F A (A 17) 0 0 * kF F A (A 17) 0 1 = F 13 * F 14 := rfl
  have hW := hV.1
  refine lv_aload_n hx hb dX7_share_0 rfl (lv_at hl 0 rfl) ?_
  refine lv_iload_n hx hb dX7_share_1 rfl (lv_at hl 1 rfl) ?_
  refine ro_V (As := [.int (iZ a)]) (rest := []) ⟨hx, hb, hml, hown, hts⟩ (c_X7_isTree l G Y g9 af F A tr a (by omega)) (cwV 1 hts gX7_share_X7_isTree rfl rfl rfl (by decide +kernel) ⟨Nat.le_of_ble_eq_true rfl, Nat.le_of_ble_eq_true rfl⟩) hK hP 0 rfl rfl rfl hl.1 rfl (Nat.le_of_ble_eq_true rfl) dX7_share_2 ⟨Nat.zero_le _, Nat.zero_le _⟩ ?_
  refine z_ifb_ne (tgt := 10) hx hb dX7_share_5 (by decide) (fun c_1 => ?_) (fun c_1 => ?_)
  · skip
    have c_1 := of_decide_eq_true c_1
    refine z_iconst hx hb dX7_share_10 ?_
    refine lv_istore_n (lv' := [(2, .int (iZ 0)), (0, .ref g9), (1, .int (iZ a))]) hx hb dX7_share_11 rfl hl (by decide) rfl (fun ls hl => ?_)
    refine z_iconst hx hb dX7_share_12 ?_
    refine lv_istore_n (lv' := [(3, .int (iZ 0)), (2, .int (iZ 0)), (0, .ref g9), (1, .int (iZ a))]) hx hb dX7_share_13 rfl hl (by decide) rfl (fun ls hl => ?_)
    obtain ⟨i, q, hI, hl1⟩ : ∃ (i : Nat) (q : Int), (q = wtN (kF F A (A 17)) i ∧ (i : Int) ≤ A 17 3) ∧ lv_has ls 4 [(3, .int (iZ ((i : Nat) : Int))), (2, .int (iZ q)), (0, .ref g9), (1, .int (iZ a))] := ⟨0, 0, by exact ⟨rfl, by omega⟩, lv_sub hl [0, 1, 2, 3] rfl⟩
    clear hl
    have hl := hl1
    clear hl1
    obtain ⟨n_, hn_⟩ : ∃ n_ : Nat, (A 17 3).toNat - i < n_ := ⟨_, Nat.lt_succ_self _⟩
    induction n_ generalizing i q ls with
    | zero => exact absurd hn_ (Nat.not_lt_zero _)
    | succ n_ ih2 =>
      have hq9 := wtN_in hW i
      refine lv_iload_n hx hb dX7_share_14 rfl (lv_at hl 0 rfl) ?_
      refine lv_aload_n hx hb dX7_share_15 rfl (lv_at hl 2 rfl) ?_
      refine va_get (D := G) (ci := 7) (v := .ref (af 17)) (C := RX7) (T := TX7) (N := 29) hx hb hts hFX7 hown hK.1 hP 0 rfl rfl 17 (by decide) kf29 (fun _ h9 => h9) rfl dX7_share_16 ?_
      refine z_iconst hx hb dX7_share_19 ?_
      refine z_iald hx hb hK.1 hP 5 0 rfl rfl 3 (by omega) (by decide) dX7_share_20 ?_
      refine z_icmp_ge (tgt := 38) hx hb dX7_share_21 (by decide) (by omega) (fun c_3 => ?_) (fun c_3 => ?_)
      · skip
        refine lv_iload_n hx hb dX7_share_38 rfl (lv_at hl 1 rfl) ?_
        refine z_if_ne (tgt := 46) hx hb dX7_share_39 (by decide) (by omega) (fun c_4 => ?_) (fun c_4 => ?_)
        · skip
          refine z_bipush hx hb dX7_share_46 (by decide) ?_
          refine lv_aload_n hx hb dX7_share_48 rfl (lv_at hl 2 rfl) ?_
          refine lv_iload_n hx hb dX7_share_49 rfl (lv_at hl 3 rfl) ?_
          refine ro_V (As := [.int (iZ a)]) (rest := [.int (iZ 100)]) ⟨hx, hb, hml, hown, hts⟩ (c_X7_weightUnder l G Y g9 af F A tr hV a (by omega)) (cwV 1 hts gX7_share_X7_weightUnder rfl rfl rfl (by decide +kernel) ⟨Nat.le_of_ble_eq_true rfl, Nat.le_of_ble_eq_true rfl⟩) hK hP 0 rfl rfl rfl hl.1 rfl (Nat.le_of_ble_eq_true rfl) dX7_share_50 ⟨Nat.zero_le _, Nat.zero_le _⟩ ?_
          rw [kM_no hno]
          have hb_5 := wu_in (kM_WF hV) a
          rw [kM_no hno] at hb_5
          refine z_imul hx hb dX7_share_53 ?_
          refine lv_iload_n hx hb dX7_share_54 rfl (lv_at hl 1 rfl) ?_
          refine z_idiv hx hb dX7_share_55 (by omega) ?_
          refine z_top (show ((100 * wu (kF F A (A 17)) a) / q) = rShare (kF F A (A 17)) a from ?_) ?_
          · unfold rShare; rw [if_pos (by omega), show (kF F A (A 17) 0 2).toNat = i by omega, ← hI.1]
          exact W.iret (v := iZ (rShare (kF F A (A 17)) a)) hx hb hr (fun t9 ht9 _ => ⟨rfl, ht9⟩) (fun q h => absurd h List.not_mem_nil) dX7_share_56
        · skip
          refine z_iconst hx hb dX7_share_42 ?_
          refine lv_goto (tgt := 56) hx hb dX7_share_43 (by decide) ?_
          refine z_top (show 0 = rShare (kF F A (A 17)) a from ?_) ?_
          · unfold rShare; rw [if_pos (by omega), show (kF F A (A 17) 0 2).toNat = i by omega, ← hI.1]; rw [show q = 0 by omega]; simp
          exact W.iret (v := iZ (rShare (kF F A (A 17)) a)) hx hb hr (fun t9 ht9 _ => ⟨rfl, ht9⟩) (fun q h => absurd h List.not_mem_nil) dX7_share_56
      · skip
        refine lv_iload_n hx hb dX7_share_24 rfl (lv_at hl 1 rfl) ?_
        refine lv_aload_n hx hb dX7_share_25 rfl (lv_at hl 2 rfl) ?_
        refine lv_iload_n hx hb dX7_share_26 rfl (lv_at hl 0 rfl) ?_
        refine ro_V (As := [.int (iZ ((i : Nat) : Int))]) (rest := [.int (iZ q)]) ⟨hx, hb, hml, hown, hts⟩ (c_X7_weightUnder l G Y g9 af F A tr hV ((i : Nat) : Int) (by omega)) (cwV 1 hts gX7_share_X7_weightUnder rfl rfl rfl (by decide +kernel) ⟨Nat.le_of_ble_eq_true rfl, Nat.le_of_ble_eq_true rfl⟩) hK hP 0 rfl rfl rfl hl.1 rfl (Nat.le_of_ble_eq_true rfl) dX7_share_27 ⟨Nat.zero_le _, Nat.zero_le _⟩ ?_
        rw [kM_no hno]
        have hb_9 := wu_in (kM_WF hV) ((i : Nat) : Int)
        rw [kM_no hno] at hb_9
        refine z_iadd hx hb dX7_share_30 ?_
        refine lv_istore_n (lv' := [(2, .int (iZ (q + wu (kF F A (A 17)) ((i : Nat) : Int)))), (3, .int (iZ ((i : Nat) : Int))), (0, .ref g9), (1, .int (iZ a))]) hx hb dX7_share_31 rfl hl (by decide) rfl (fun ls hl => ?_)
        refine lv_iinc (v := iZ ((i + 1 : Nat) : Int)) (lv' := [(3, .int (iZ ((i + 1 : Nat) : Int))), (2, .int (iZ (q + wu (kF F A (A 17)) ((i : Nat) : Int)))), (0, .ref g9), (1, .int (iZ a))]) hx hb dX7_share_32 hl (k := 1) rfl (iZ_inc _) (by decide) rfl (fun ls hl => ?_)
        refine lv_goto (tgt := 14) hx hb dX7_share_35 (by decide) ?_
        exact ih2 (ls := ls) (i := i + 1) (q := (q + wu (kF F A (A 17)) ((i : Nat) : Int))) (hI := by exact ⟨by rw [wtN, hI.1], by omega⟩) (hl := lv_sub hl [0, 1, 2, 3] rfl) (hn_ := by omega)
  · skip
    have c_1 := of_decide_eq_false c_1
    refine z_iconst hx hb dX7_share_8 ?_
    refine z_top (show (-1) = rShare (kF F A (A 17)) a from ?_) ?_
    · unfold rShare; (repeat' split) <;> omega
    exact W.iret (v := iZ (rShare (kF F A (A 17)) a)) hx hb hr (fun t9 ht9 _ => ⟨rfl, ht9⟩) (fun q h => absurd h List.not_mem_nil) dX7_share_9

set_option maxHeartbeats 4000000 in
set_option maxRecDepth 100000 in
theorem c_X7_dark (l : Launch) (G : va_G) (Y : Nat → ClassId) (g9 : Nat) (af : Nat → Nat) (F : Nat → Int) (A : Kom) (tr : Int64) (hV : mV F A (A 17)) (hno : F 26 < 0) (a : Int) (r : zR a) : Met l yX7_dark wsX7_dark ({ frames := 3, cells := 0, slots := 0, locals := 72 }) (rP G Y [.ref g9, .int (iZ a)] (moW Y g9 af F A tr)) (rQ (.int (iZ (rDark (kF F A (A 17)) a)))) 0 0 (fun _ => False) := by
  refine Met.ofW (cc := cX7_dark) (maxL := 2) (ret := (some .int)) (by decide) rfl ?_
  intro p e s m args below meth c s₁ B hml hv
  obtain ⟨rfl, hK, hP⟩ := hv
  have hx := B.exec
  have hb := B.bytes
  have hr := B.returns
  have hts := atoms_spec (ws := wsX7_dark) B.pre
  have hown : s.vm.findClass RX7 = some m.cls := findClass_of_methodNamed B.named
  have hlocks := B.notSynchronized
  have hl := lv_entry ([.ref g9, .int (iZ a)]) (n := 2) (Nat.le_of_ble_eq_true rfl)
  rw [lg_entry_eq]
  generalize (lg_sl ([.ref g9, .int (iZ a)]) ++ List.replicate (2 - (lg_sl ([.ref g9, .int (iZ a)])).length) Slot.unset).toArray = ls at hl ⊢
  replace hl : lv_has ls 2 [(0, .ref g9), (1, .int (iZ a))] := hl
  have v3 := hV.2.2.1
  have v7 := hV.2.2.2.2.2.2.1
  have v8 := hV.2.2.2.2.2.2.2.1
  have v5 := hV.2.1
  have v4 := hV.2.2.2.1
  have k00 : kF F A (A 17) 0 0 = F 13 := rfl
  have k01 : kF F A (A 17) 0 1 = F 14 := rfl
  have k02 : kF F A (A 17) 0 2 = A 17 3 := rfl
  have k03 : kF F A (A 17) 0 3 = F 15 := rfl
  have k04 : kF F A (A 17) 0 4 = A 17 1 := rfl
  have k05 : kF F A (A 17) 0 5 = A 17 0 := rfl
  have k06 : kF F A (A 17) 0 6 = A 17 2 := rfl
  have kpr : kF F A (A 17) 0 0 * kF F A (A 17) 0 1 = F 13 * F 14 := rfl
  have hW := hV.1
  refine lv_aload_n hx hb dX7_dark_0 rfl (lv_at hl 0 rfl) ?_
  refine lv_iload_n hx hb dX7_dark_1 rfl (lv_at hl 1 rfl) ?_
  refine ro_V (As := [.int (iZ a)]) (rest := []) ⟨hx, hb, hml, hown, hts⟩ (c_X7_isCell l G Y g9 af F A tr a (by omega)) (cwV 1 hts gX7_dark_X7_isCell rfl rfl rfl (by decide +kernel) ⟨Nat.le_of_ble_eq_true rfl, Nat.le_of_ble_eq_true rfl⟩) hK hP 0 rfl rfl rfl hl.1 rfl (Nat.le_of_ble_eq_true rfl) dX7_dark_2 ⟨Nat.zero_le _, Nat.zero_le _⟩ ?_
  refine z_ifb_eq (tgt := 16) hx hb dX7_dark_5 (by decide) (fun c_1 => ?_) (fun c_1 => ?_)
  · skip
    have c_1 := of_decide_eq_false c_1
    refine z_iconst hx hb dX7_dark_16 ?_
    refine z_top (show (-1) = rDark (kF F A (A 17)) a from ?_) ?_
    · unfold rDark; (repeat' split) <;> first | rfl | omega | (simp_all; done)
    exact W.iret (v := iZ (rDark (kF F A (A 17)) a)) hx hb hr (fun t9 ht9 _ => ⟨rfl, ht9⟩) (fun q h => absurd h List.not_mem_nil) dX7_dark_17
  · skip
    have c_1 := of_decide_eq_true c_1
    refine lv_aload_n hx hb dX7_dark_8 rfl (lv_at hl 0 rfl) ?_
    refine lv_iload_n hx hb dX7_dark_9 rfl (lv_at hl 1 rfl) ?_
    refine ro_V (As := [.int (iZ a)]) (rest := []) ⟨hx, hb, hml, hown, hts⟩ (c_X7_darkOf l G Y g9 af F A tr hV a (by omega)) (cwV 1 hts gX7_dark_X7_darkOf rfl rfl rfl (by decide +kernel) ⟨Nat.le_of_ble_eq_true rfl, Nat.le_of_ble_eq_true rfl⟩) hK hP 0 rfl rfl rfl hl.1 rfl (Nat.le_of_ble_eq_true rfl) dX7_dark_10 ⟨Nat.zero_le _, Nat.zero_le _⟩ ?_
    have hb_2 := sdN_in (kF F A (A 17)) a ((A 17) 3).toNat
    refine lv_goto (tgt := 17) hx hb dX7_dark_13 (by decide) ?_
    refine z_top (show sdN (kF F A (A 17)) a ((A 17) 3).toNat = rDark (kF F A (A 17)) a from ?_) ?_
    · unfold rDark; (repeat' split) <;> first | rfl | omega | (simp_all; done)
    exact W.iret (v := iZ (rDark (kF F A (A 17)) a)) hx hb hr (fun t9 ht9 _ => ⟨rfl, ht9⟩) (fun q h => absurd h List.not_mem_nil) dX7_dark_17

set_option maxHeartbeats 4000000 in
set_option maxRecDepth 100000 in
theorem c_X7_count (l : Launch) (G : va_G) (Y : Nat → ClassId) (g9 : Nat) (af : Nat → Nat) (F : Nat → Int) (A : Kom) (tr : Int64) (hV : mV F A (A 17)) (hno : F 26 < 0) (a : Int) (r : (zR a ∧ zR (F 23)) ∧ 0 ≤ F 0 ∧ F 0 ≤ 200) : Met l yX7_count wsX7_count ({ frames := 0, cells := 0, slots := 0, locals := 0 }) (rP G Y [.ref g9, .int (iZ a)] (moW Y g9 af F A tr)) (rQ (.int (iZ (rCount (kF F A (A 17)) (F 23) (F 0).toNat a)))) 0 0 (fun _ => False) := by
  refine Met.ofW (cc := cX7_count) (maxL := 2) (ret := (some .int)) (by decide) rfl ?_
  intro p e s m args below meth c s₁ B hml hv
  obtain ⟨rfl, hK, hP⟩ := hv
  have hx := B.exec
  have hb := B.bytes
  have hr := B.returns
  have hts := atoms_spec (ws := wsX7_count) B.pre
  have hown : s.vm.findClass RX7 = some m.cls := findClass_of_methodNamed B.named
  have hlocks := B.notSynchronized
  have hFX7 : ∀ w ∈ wsX70, w ∈ wsX7_count := by decide +kernel
  have kf19 := (hts (.fieldLink RX7 19 "ShadeVotesModel" "wide" "I") (by decide +kernel))
  have kf23 := (hts (.fieldLink RX7 23 "ShadeVotesModel" "high" "I") (by decide +kernel))
  have kf55 := (hts (.fieldLink RX7 55 "ShadeVotesModel" "people" "I") (by decide +kernel))
  have kf122 := (hts (.fieldLink RX7 122 "ShadeVotesModel" "counts" "I") (by decide +kernel))
  have kf58 := (hts (.fieldLink RX7 58 "ShadeVotesModel" "letters" "I") (by decide +kernel))
  have hl := lv_entry ([.ref g9, .int (iZ a)]) (n := 2) (Nat.le_of_ble_eq_true rfl)
  rw [lg_entry_eq]
  generalize (lg_sl ([.ref g9, .int (iZ a)]) ++ List.replicate (2 - (lg_sl ([.ref g9, .int (iZ a)])).length) Slot.unset).toArray = ls at hl ⊢
  replace hl : lv_has ls 2 [(0, .ref g9), (1, .int (iZ a))] := hl
  have v3 := hV.2.2.1
  have v7 := hV.2.2.2.2.2.2.1
  have v8 := hV.2.2.2.2.2.2.2.1
  have v5 := hV.2.1
  have v4 := hV.2.2.2.1
  have k00 : kF F A (A 17) 0 0 = F 13 := rfl
  have k01 : kF F A (A 17) 0 1 = F 14 := rfl
  have k02 : kF F A (A 17) 0 2 = A 17 3 := rfl
  have k03 : kF F A (A 17) 0 3 = F 15 := rfl
  have k04 : kF F A (A 17) 0 4 = A 17 1 := rfl
  have k05 : kF F A (A 17) 0 5 = A 17 0 := rfl
  have k06 : kF F A (A 17) 0 6 = A 17 2 := rfl
  have kpr : kF F A (A 17) 0 0 * kF F A (A 17) 0 1 = F 13 * F 14 := rfl
  have hW := hV.1
  refine lv_iload_n hx hb dX7_count_0 rfl (lv_at hl 1 rfl) ?_
  have c_1_r : (iZ a).toInt = a := iZ_toInt (by omega)
  rcases (show (a < 0 ∨ 4 < a) ∨ a = 0 ∨ a = 1 ∨ a = 2 ∨ a = 3 ∨ a = 4 by omega) with c_1 | c_1 | c_1 | c_1 | c_1 | c_1
  · skip
    refine lv_tableOut (tgt := 61) hx hb dX7_count_1 (by rw [c_1_r]; exact c_1) (by decide) ?_
    refine z_iconst hx hb dX7_count_61 ?_
    refine z_top (show (-1) = rCount (kF F A (A 17)) (F 23) (F 0).toNat a from ?_) ?_
    · unfold rCount; (repeat' split) <;> first | rfl | omega | (simp_all; done)
    exact W.iret (v := iZ (rCount (kF F A (A 17)) (F 23) (F 0).toNat a)) hx hb hr (fun t9 ht9 _ => ⟨rfl, ht9⟩) (fun q h => absurd h List.not_mem_nil) dX7_count_62
  · skip
    replace c_1_r := c_1_r.trans c_1
    refine lv_tableIn (tgt := 36) (off := 35) hx hb dX7_count_1 (by rw [c_1_r]; decide) (by rw [c_1_r]; decide) (by rw [c_1_r]; rfl) (by decide) ?_
    refine lv_aload_n hx hb dX7_count_36 rfl (lv_at hl 0 rfl) ?_
    refine va_get (D := G) (ci := 7) (v := .int (iZ (F 13))) (C := RX7) (T := TX7) (N := 29) hx hb hts hFX7 hown hK.1 hP 0 rfl rfl 13 (by decide) kf19 (fun _ h9 => h9) rfl dX7_count_37 ?_
    refine z_top (show F 13 = rCount (kF F A (A 17)) (F 23) (F 0).toNat a from ?_) ?_
    · unfold rCount; (repeat' split) <;> first | rfl | omega | (simp_all; done)
    exact W.iret (v := iZ (rCount (kF F A (A 17)) (F 23) (F 0).toNat a)) hx hb hr (fun t9 ht9 _ => ⟨rfl, ht9⟩) (fun q h => absurd h List.not_mem_nil) dX7_count_40
  · skip
    replace c_1_r := c_1_r.trans c_1
    refine lv_tableIn (tgt := 41) (off := 40) hx hb dX7_count_1 (by rw [c_1_r]; decide) (by rw [c_1_r]; decide) (by rw [c_1_r]; rfl) (by decide) ?_
    refine lv_aload_n hx hb dX7_count_41 rfl (lv_at hl 0 rfl) ?_
    refine va_get (D := G) (ci := 7) (v := .int (iZ (F 14))) (C := RX7) (T := TX7) (N := 29) hx hb hts hFX7 hown hK.1 hP 0 rfl rfl 14 (by decide) kf23 (fun _ h9 => h9) rfl dX7_count_42 ?_
    refine z_top (show F 14 = rCount (kF F A (A 17)) (F 23) (F 0).toNat a from ?_) ?_
    · unfold rCount; (repeat' split) <;> first | rfl | omega | (simp_all; done)
    exact W.iret (v := iZ (rCount (kF F A (A 17)) (F 23) (F 0).toNat a)) hx hb hr (fun t9 ht9 _ => ⟨rfl, ht9⟩) (fun q h => absurd h List.not_mem_nil) dX7_count_45
  · skip
    replace c_1_r := c_1_r.trans c_1
    refine lv_tableIn (tgt := 46) (off := 45) hx hb dX7_count_1 (by rw [c_1_r]; decide) (by rw [c_1_r]; decide) (by rw [c_1_r]; rfl) (by decide) ?_
    refine lv_aload_n hx hb dX7_count_46 rfl (lv_at hl 0 rfl) ?_
    refine va_get (D := G) (ci := 7) (v := .int (iZ (F 15))) (C := RX7) (T := TX7) (N := 29) hx hb hts hFX7 hown hK.1 hP 0 rfl rfl 15 (by decide) kf55 (fun _ h9 => h9) rfl dX7_count_47 ?_
    refine z_top (show F 15 = rCount (kF F A (A 17)) (F 23) (F 0).toNat a from ?_) ?_
    · unfold rCount; (repeat' split) <;> first | rfl | omega | (simp_all; done)
    exact W.iret (v := iZ (rCount (kF F A (A 17)) (F 23) (F 0).toNat a)) hx hb hr (fun t9 ht9 _ => ⟨rfl, ht9⟩) (fun q h => absurd h List.not_mem_nil) dX7_count_50
  · skip
    replace c_1_r := c_1_r.trans c_1
    refine lv_tableIn (tgt := 51) (off := 50) hx hb dX7_count_1 (by rw [c_1_r]; decide) (by rw [c_1_r]; decide) (by rw [c_1_r]; rfl) (by decide) ?_
    refine lv_aload_n hx hb dX7_count_51 rfl (lv_at hl 0 rfl) ?_
    refine va_get (D := G) (ci := 7) (v := .int (iZ (F 23))) (C := RX7) (T := TX7) (N := 29) hx hb hts hFX7 hown hK.1 hP 0 rfl rfl 23 (by decide) kf122 (fun _ h9 => h9) rfl dX7_count_52 ?_
    refine z_top (show F 23 = rCount (kF F A (A 17)) (F 23) (F 0).toNat a from ?_) ?_
    · unfold rCount; (repeat' split) <;> first | rfl | omega | (simp_all; done)
    exact W.iret (v := iZ (rCount (kF F A (A 17)) (F 23) (F 0).toNat a)) hx hb hr (fun t9 ht9 _ => ⟨rfl, ht9⟩) (fun q h => absurd h List.not_mem_nil) dX7_count_55
  · skip
    replace c_1_r := c_1_r.trans c_1
    refine lv_tableIn (tgt := 56) (off := 55) hx hb dX7_count_1 (by rw [c_1_r]; decide) (by rw [c_1_r]; decide) (by rw [c_1_r]; rfl) (by decide) ?_
    refine lv_aload_n hx hb dX7_count_56 rfl (lv_at hl 0 rfl) ?_
    refine va_get (D := G) (ci := 7) (v := .int (iZ (F 0))) (C := RX7) (T := TX7) (N := 29) hx hb hts hFX7 hown hK.1 hP 0 rfl rfl 0 (by decide) kf58 (fun _ h9 => h9) rfl dX7_count_57 ?_
    refine z_top (show F 0 = rCount (kF F A (A 17)) (F 23) (F 0).toNat a from ?_) ?_
    · unfold rCount; (repeat' split) <;> first | rfl | omega | (simp_all; done)
    exact W.iret (v := iZ (rCount (kF F A (A 17)) (F 23) (F 0).toNat a)) hx hb hr (fun t9 ht9 _ => ⟨rfl, ht9⟩) (fun q h => absurd h List.not_mem_nil) dX7_count_60

set_option maxHeartbeats 4000000 in
set_option maxRecDepth 100000 in
theorem c_X7_trace (l : Launch) (G : va_G) (Y : Nat → ClassId) (g9 : Nat) (af : Nat → Nat) (F : Nat → Int) (A : Kom) (tr : Int64) : Met l yX7_trace wsX7_trace ({ frames := 0, cells := 0, slots := 0, locals := 0 }) (rP G Y [.ref g9] (moW Y g9 af F A tr)) (rQ (.long tr)) 0 0 (fun _ => False) := by
  refine Met.ofW (cc := cX7_trace) (maxL := 1) (ret := (some .long)) (by decide) rfl ?_
  intro p e s m args below meth c s₁ B hml hv
  obtain ⟨rfl, hK, hP⟩ := hv
  have hx := B.exec
  have hb := B.bytes
  have hr := B.returns
  have hts := atoms_spec (ws := wsX7_trace) B.pre
  have hown : s.vm.findClass RX7 = some m.cls := findClass_of_methodNamed B.named
  have hlocks := B.notSynchronized
  have hFX7 : ∀ w ∈ wsX70, w ∈ wsX7_trace := by decide +kernel
  have kf193 := (hts (.fieldLink RX7 193 "ShadeVotesModel" "trace" "J") (by decide +kernel))
  have hl := lv_entry ([.ref g9]) (n := 1) (Nat.le_of_ble_eq_true rfl)
  rw [lg_entry_eq]
  generalize (lg_sl ([.ref g9]) ++ List.replicate (1 - (lg_sl ([.ref g9])).length) Slot.unset).toArray = ls at hl ⊢
  replace hl : lv_has ls 1 [(0, .ref g9)] := hl
  refine lv_aload_n hx hb dX7_trace_0 rfl (lv_at hl 0 rfl) ?_
  refine va_get (D := G) (ci := 7) (v := .long tr) (C := RX7) (T := TX7) (N := 29) hx hb hts hFX7 hown hK.1 hP 0 rfl rfl 25 (by decide) kf193 (fun _ h9 => h9) rfl dX7_trace_1 ?_
  exact W.lret (v := tr) hx hb hr (fun t9 ht9 _ => ⟨rfl, ht9⟩) (fun q h => absurd h List.not_mem_nil) dX7_trace_4

set_option maxHeartbeats 4000000 in
set_option maxRecDepth 100000 in
theorem c_X7_hedge (l : Launch) (G : va_G) (Y : Nat → ClassId) (g9 : Nat) (af : Nat → Nat) (F : Nat → Int) (A : Kom) (tr : Int64) (hV : mV F A (A 17)) (hno : F 26 < 0) (a : Int) (r : zR a) : Met l yX7_hedge wsX7_hedge ({ frames := 5, cells := 0, slots := 0, locals := 123 }) (rP G Y [.ref g9, .int (iZ a)] (moW Y g9 af F A tr)) (rQ (.int (iZ (xHedge (kF F A (A 17)) a)))) 0 0 (fun _ => False) := by
  refine Met.ofW (cc := cX7_hedge) (maxL := 5) (ret := (some .int)) (by decide) rfl ?_
  intro p e s m args below meth c s₁ B hml hv
  obtain ⟨rfl, hK, hP⟩ := hv
  have hx := B.exec
  have hb := B.bytes
  have hr := B.returns
  have hts := atoms_spec (ws := wsX7_hedge) B.pre
  have hown : s.vm.findClass RX7 = some m.cls := findClass_of_methodNamed B.named
  have hlocks := B.notSynchronized
  have hFX7 : ∀ w ∈ wsX70, w ∈ wsX7_hedge := by decide +kernel
  have kf19 := (hts (.fieldLink RX7 19 "ShadeVotesModel" "wide" "I") (by decide +kernel))
  have kf55 := (hts (.fieldLink RX7 55 "ShadeVotesModel" "people" "I") (by decide +kernel))
  have kf29 := (hts (.fieldLink RX7 29 "ShadeVotesModel" "now" "[I") (by decide +kernel))
  have hl := lv_entry ([.ref g9, .int (iZ a)]) (n := 5) (Nat.le_of_ble_eq_true rfl)
  rw [lg_entry_eq]
  generalize (lg_sl ([.ref g9, .int (iZ a)]) ++ List.replicate (5 - (lg_sl ([.ref g9, .int (iZ a)])).length) Slot.unset).toArray = ls at hl ⊢
  replace hl : lv_has ls 5 [(0, .ref g9), (1, .int (iZ a))] := hl
  have v3 := hV.2.2.1
  have v7 := hV.2.2.2.2.2.2.1
  have v8 := hV.2.2.2.2.2.2.2.1
  have v5 := hV.2.1
  have v4 := hV.2.2.2.1
  have k00 : kF F A (A 17) 0 0 = F 13 := rfl
  have k01 : kF F A (A 17) 0 1 = F 14 := rfl
  have k02 : kF F A (A 17) 0 2 = A 17 3 := rfl
  have k03 : kF F A (A 17) 0 3 = F 15 := rfl
  have k04 : kF F A (A 17) 0 4 = A 17 1 := rfl
  have k05 : kF F A (A 17) 0 5 = A 17 0 := rfl
  have k06 : kF F A (A 17) 0 6 = A 17 2 := rfl
  have kpr : kF F A (A 17) 0 0 * kF F A (A 17) 0 1 = F 13 * F 14 := rfl
  have hW := hV.1
  have hp2 := p2_in (F 15).toNat (by omega)
  refine lv_iload_n hx hb dX7_hedge_0 rfl (lv_at hl 1 rfl) ?_
  refine z_iconst hx hb dX7_hedge_1 ?_
  refine z_iconst hx hb dX7_hedge_2 ?_
  refine ro_S (As := [.int (iZ a), .int (iZ 0), .int (iZ 2)]) (rest := []) ⟨hx, hb, hml, hown, hts⟩ (c_X7_in l G Y a 0 2 (by omega)) (cwS 3 hts gX7_hedge_X7_in rfl rfl rfl (by decide +kernel) ⟨Nat.le_of_ble_eq_true rfl, Nat.le_of_ble_eq_true rfl⟩) hK (hP.sub (ws' := []) [] rfl) rfl hl.1 rfl (Nat.le_of_ble_eq_true rfl) dX7_hedge_3 ⟨Nat.zero_le _, Nat.zero_le _⟩ ?_
  refine z_ifb_ne (tgt := 11) hx hb dX7_hedge_6 (by decide) (fun c_1 => ?_) (fun c_1 => ?_)
  · skip
    have c_1 := of_decide_eq_true c_1
    refine z_iconst hx hb dX7_hedge_11 ?_
    refine lv_istore_n (lv' := [(2, .int (iZ 1)), (0, .ref g9), (1, .int (iZ a))]) hx hb dX7_hedge_12 rfl hl (by decide) rfl (fun ls hl => ?_)
    obtain ⟨i, hI, hl1⟩ : ∃ (i : Nat), ((i : Int) + 1 ≤ F 13 ∧ fnd (hxG (kF F A (A 17)) a.toNat) i = -9) ∧ lv_has ls 5 [(2, .int (iZ ((i + 1 : Nat) : Int))), (0, .ref g9), (1, .int (iZ a))] := ⟨0, by exact ⟨by omega, rfl⟩, lv_sub hl [0, 1, 2] rfl⟩
    clear hl
    have hl := hl1
    clear hl1
    obtain ⟨n_, hn_⟩ : ∃ n_ : Nat, (F 13).toNat - i < n_ := ⟨_, Nat.lt_succ_self _⟩
    induction n_ generalizing i ls with
    | zero => exact absurd hn_ (Nat.not_lt_zero _)
    | succ n_ ih2 =>
      refine lv_iload_n hx hb dX7_hedge_13 rfl (lv_at hl 0 rfl) ?_
      refine lv_aload_n hx hb dX7_hedge_14 rfl (lv_at hl 1 rfl) ?_
      refine va_get (D := G) (ci := 7) (v := .int (iZ (F 13))) (C := RX7) (T := TX7) (N := 29) hx hb hts hFX7 hown hK.1 hP 0 rfl rfl 13 (by decide) kf19 (fun _ h9 => h9) rfl dX7_hedge_15 ?_
      refine z_icmp_ge (tgt := 112) hx hb dX7_hedge_18 (by decide) (by omega) (fun c_3 => ?_) (fun c_3 => ?_)
      · skip
        refine z_bipush hx hb dX7_hedge_112 (by decide) ?_
        refine z_top (show (-9) = xHedge (kF F A (A 17)) a from ?_) ?_
        · unfold xHedge; rw [if_pos (by omega), show (kF F A (A 17) 0 0 - 1).toNat = i by omega, hI.2]; rfl
        exact W.iret (v := iZ (xHedge (kF F A (A 17)) a)) hx hb hr (fun t9 ht9 _ => ⟨rfl, ht9⟩) (fun q h => absurd h List.not_mem_nil) dX7_hedge_114
      · skip
        have hJ := hI
        refine z_iconst hx hb dX7_hedge_21 ?_
        refine lv_istore_n (lv' := [(3, .int (iZ 0)), (2, .int (iZ ((i + 1 : Nat) : Int))), (0, .ref g9), (1, .int (iZ a))]) hx hb dX7_hedge_22 rfl hl (by decide) rfl (fun ls hl => ?_)
        refine z_iconst hx hb dX7_hedge_23 ?_
        refine lv_istore (lv' := [(4, .int (iZ 0)), (3, .int (iZ 0)), (2, .int (iZ ((i + 1 : Nat) : Int))), (0, .ref g9), (1, .int (iZ a))]) hx hb dX7_hedge_24 hl (by decide) rfl (fun ls hl => ?_)
        obtain ⟨w, q, hI, hl1⟩ : ∃ (w : Nat) (q : Nat), (q = hwN (kF F A (A 17)) ((i + 1 : Nat) : Int) w ∧ (w : Int) ≤ F 15) ∧ lv_has ls 5 [(4, .int (iZ ((w : Nat) : Int))), (3, .int (iZ ((q : Nat) : Int))), (2, .int (iZ ((i + 1 : Nat) : Int))), (0, .ref g9), (1, .int (iZ a))] := ⟨0, 0, by exact ⟨rfl, by omega⟩, lv_sub hl [0, 1, 2, 3, 4] rfl⟩
        clear hl
        have hl := hl1
        clear hl1
        obtain ⟨n_, hn_⟩ : ∃ n_ : Nat, (F 15).toNat - w < n_ := ⟨_, Nat.lt_succ_self _⟩
        induction n_ generalizing w q ls with
        | zero => exact absurd hn_ (Nat.not_lt_zero _)
        | succ n_ ih4 =>
          have hpp := hV.2.2.2.2.2.1 w
          refine lv_iload hx hb dX7_hedge_26 (lv_at hl 0 rfl) ?_
          refine lv_aload_n hx hb dX7_hedge_28 rfl (lv_at hl 3 rfl) ?_
          refine va_get (D := G) (ci := 7) (v := .int (iZ (F 15))) (C := RX7) (T := TX7) (N := 29) hx hb hts hFX7 hown hK.1 hP 0 rfl rfl 15 (by decide) kf55 (fun _ h9 => h9) rfl dX7_hedge_29 ?_
          refine z_icmp_ge (tgt := 71) hx hb dX7_hedge_32 (by decide) (by omega) (fun c_5 => ?_) (fun c_5 => ?_)
          · skip
            have e15 : (F 15).toNat = w := by omega
            have hwl := hwN_lt (kF F A (A 17)) ((i + 1 : Nat) : Int) w
            have hwl2 := p2_in w (by omega)
            have hql : q < 128 := by omega
            refine lv_aload_n hx hb dX7_hedge_71 rfl (lv_at hl 3 rfl) ?_
            refine lv_aload_n hx hb dX7_hedge_72 rfl (lv_at hl 3 rfl) ?_
            refine va_get (D := G) (ci := 7) (v := .ref (af 17)) (C := RX7) (T := TX7) (N := 29) hx hb hts hFX7 hown hK.1 hP 0 rfl rfl 17 (by decide) kf29 (fun _ h9 => h9) rfl dX7_hedge_73 ?_
            refine lv_iload_n hx hb dX7_hedge_76 rfl (lv_at hl 4 rfl) ?_
            refine lv_iload_n hx hb dX7_hedge_77 rfl (lv_at hl 1 rfl) ?_
            refine ro_V (As := [.ref (af 17), .int (iZ a), .int (iZ ((q : Nat) : Int))]) (rest := []) ⟨hx, hb, hml, hown, hts⟩ (c_X7_balance l G Y g9 af F A tr (af 17) 5 36 (A 17) rfl (by decide) hV a q (by omega)) (cwV 3 hts gX7_hedge_X7_balance rfl rfl rfl (by decide +kernel) ⟨Nat.le_of_ble_eq_true rfl, Nat.le_of_ble_eq_true rfl⟩) hK hP 0 rfl rfl rfl hl.1 rfl (Nat.le_of_ble_eq_true rfl) dX7_hedge_78 ⟨Nat.zero_le _, Nat.zero_le _⟩ ?_
            rw [kM_no hno]
            have hb_6 := blN_in (kM_WF hV) (a).toNat q (F 15).toNat (by omega)
            rw [kM_no hno] at hb_6
            refine z_if_le (tgt := 106) hx hb dX7_hedge_81 (by decide) (by omega) (fun c_10 => ?_) (fun c_10 => ?_)
            · skip
              refine lv_iinc (v := iZ ((i + 1 + 1 : Nat) : Int)) (lv' := [(2, .int (iZ ((i + 1 + 1 : Nat) : Int))), (4, .int (iZ ((w : Nat) : Int))), (3, .int (iZ ((q : Nat) : Int))), (0, .ref g9), (1, .int (iZ a))]) hx hb dX7_hedge_106 hl (k := 2) rfl (iZ_inc _) (by decide) rfl (fun ls hl => ?_)
              refine lv_goto (tgt := 13) hx hb dX7_hedge_109 (by decide) ?_
              exact ih2 (ls := ls) (i := i + 1) (hI := by exact ⟨by omega, fnd_no hJ.2 (by unfold hxG evb; rw [k03, e15]; first | (rw [← hI.1, decide_eq_false (by rw [← e15]; omega), Bool.false_and]; done) | (rw [← hI.1, decide_eq_false (p := 0 < blN (kF F A (A 17)) a.toNat ((2 ^ w - 1) ^^^ ((2 ^ w - 1) &&& q)) w) (by rw [← e15]; omega), Bool.and_false]))⟩) (hl := lv_sub hl [0, 3, 4] rfl) (hn_ := by omega)
            · skip
              refine lv_aload_n hx hb dX7_hedge_84 rfl (lv_at hl 3 rfl) ?_
              refine lv_aload_n hx hb dX7_hedge_85 rfl (lv_at hl 3 rfl) ?_
              refine va_get (D := G) (ci := 7) (v := .ref (af 17)) (C := RX7) (T := TX7) (N := 29) hx hb hts hFX7 hown hK.1 hP 0 rfl rfl 17 (by decide) kf29 (fun _ h9 => h9) rfl dX7_hedge_86 ?_
              refine lv_iload_n hx hb dX7_hedge_89 rfl (lv_at hl 4 rfl) ?_
              refine lv_aload_n hx hb dX7_hedge_90 rfl (lv_at hl 3 rfl) ?_
              refine ro_V (As := []) (rest := [.int (iZ a), .ref (af 17), .ref g9]) ⟨hx, hb, hml, hown, hts⟩ (c_X7_everybody l G Y g9 af F A tr (by omega)) (cwV 0 hts gX7_hedge_X7_everybody rfl rfl rfl (by decide +kernel) ⟨Nat.le_of_ble_eq_true rfl, Nat.le_of_ble_eq_true rfl⟩) hK hP 0 rfl rfl rfl hl.1 rfl (Nat.le_of_ble_eq_true rfl) dX7_hedge_91 ⟨Nat.zero_le _, Nat.zero_le _⟩ ?_
              refine lv_iload_n hx hb dX7_hedge_94 rfl (lv_at hl 1 rfl) ?_
              refine z_iconst hx hb dX7_hedge_95 ?_
              refine lv_ixor hx hb dX7_hedge_96 ?_
              refine z_iandn (a := 2 ^ (F 15).toNat - 1) (b := q) hx hb dX7_hedge_97 ?_
              have hxl : (2 ^ (F 15).toNat - 1) ^^^ ((2 ^ (F 15).toNat - 1) &&& q) < 128 := xa_lt (by omega) (by omega)
              refine ro_V (As := [.ref (af 17), .int (iZ a), .int (iZ (((2 ^ (F 15).toNat - 1) ^^^ ((2 ^ (F 15).toNat - 1) &&& q) : Nat) : Int))]) (rest := []) ⟨hx, hb, hml, hown, hts⟩ (c_X7_balance l G Y g9 af F A tr (af 17) 5 36 (A 17) rfl (by decide) hV a ((2 ^ (F 15).toNat - 1) ^^^ ((2 ^ (F 15).toNat - 1) &&& q)) (by omega)) (cwV 3 hts gX7_hedge_X7_balance rfl rfl rfl (by decide +kernel) ⟨Nat.le_of_ble_eq_true rfl, Nat.le_of_ble_eq_true rfl⟩) hK hP 0 rfl rfl rfl hl.1 rfl (Nat.le_of_ble_eq_true rfl) dX7_hedge_98 ⟨Nat.zero_le _, Nat.zero_le _⟩ ?_
              rw [kM_no hno]
              have hb_11 := blN_in (kM_WF hV) (a).toNat ((2 ^ (F 15).toNat - 1) ^^^ ((2 ^ (F 15).toNat - 1) &&& q)) (F 15).toNat (by omega)
              rw [kM_no hno] at hb_11
              refine z_if_le (tgt := 106) hx hb dX7_hedge_101 (by decide) (by omega) (fun c_15 => ?_) (fun c_15 => ?_)
              · skip
                refine lv_iinc (v := iZ ((i + 1 + 1 : Nat) : Int)) (lv' := [(2, .int (iZ ((i + 1 + 1 : Nat) : Int))), (4, .int (iZ ((w : Nat) : Int))), (3, .int (iZ ((q : Nat) : Int))), (0, .ref g9), (1, .int (iZ a))]) hx hb dX7_hedge_106 hl (k := 2) rfl (iZ_inc _) (by decide) rfl (fun ls hl => ?_)
                refine lv_goto (tgt := 13) hx hb dX7_hedge_109 (by decide) ?_
                exact ih2 (ls := ls) (i := i + 1) (hI := by exact ⟨by omega, fnd_no hJ.2 (by unfold hxG evb; rw [k03, e15]; first | (rw [← hI.1, decide_eq_false (by rw [← e15]; omega), Bool.false_and]; done) | (rw [← hI.1, decide_eq_false (p := 0 < blN (kF F A (A 17)) a.toNat ((2 ^ w - 1) ^^^ ((2 ^ w - 1) &&& q)) w) (by rw [← e15]; omega), Bool.and_false]))⟩) (hl := lv_sub hl [0, 3, 4] rfl) (hn_ := by omega)
              · skip
                refine lv_iload_n hx hb dX7_hedge_104 rfl (lv_at hl 2 rfl) ?_
                refine z_top (show ((i + 1 : Nat) : Int) = xHedge (kF F A (A 17)) a from ?_) ?_
                · unfold xHedge; rw [if_pos (by omega), fnd_at (i := i) (n := (kF F A (A 17) 0 0 - 1).toNat) hJ.2 (by unfold hxG evb; rw [k03, e15, ← hI.1, decide_eq_true (by rw [← e15]; omega), decide_eq_true (by rw [← e15]; omega)]; rfl) (by omega), if_pos (by omega)]; omega
                exact W.iret (v := iZ (xHedge (kF F A (A 17)) a)) hx hb hr (fun t9 ht9 _ => ⟨rfl, ht9⟩) (fun q h => absurd h List.not_mem_nil) dX7_hedge_105
          · skip
            refine lv_iload_n hx hb dX7_hedge_35 rfl (lv_at hl 1 rfl) ?_
            refine lv_aload_n hx hb dX7_hedge_36 rfl (lv_at hl 3 rfl) ?_
            refine va_get (D := G) (ci := 7) (v := .ref (af 17)) (C := RX7) (T := TX7) (N := 29) hx hb hts hFX7 hown hK.1 hP 0 rfl rfl 17 (by decide) kf29 (fun _ h9 => h9) rfl dX7_hedge_37 ?_
            refine z_bipush hx hb dX7_hedge_40 (by decide) ?_
            refine lv_iload hx hb dX7_hedge_42 (lv_at hl 0 rfl) ?_
            refine z_iadd hx hb dX7_hedge_44 ?_
            refine z_iald hx hb hK.1 hP 5 0 rfl rfl (29 + w) (by omega) (by decide) dX7_hedge_45 ?_
            have hp1 := hpp (by omega)
            have hd9 := dm_in (c := A 17 (29 + w)) (w := F 13) (by omega) (by omega)
            refine lv_aload_n hx hb dX7_hedge_46 rfl (lv_at hl 3 rfl) ?_
            refine va_get (D := G) (ci := 7) (v := .int (iZ (F 13))) (C := RX7) (T := TX7) (N := 29) hx hb hts hFX7 hown hK.1 hP 0 rfl rfl 13 (by decide) kf19 (fun _ h9 => h9) rfl dX7_hedge_47 ?_
            refine z_irem hx hb dX7_hedge_50 (by omega) ?_
            refine lv_iload_n hx hb dX7_hedge_51 rfl (lv_at hl 2 rfl) ?_
            refine z_icmp_ge (tgt := 62) hx hb dX7_hedge_52 (by decide) (by omega) (fun c_16 => ?_) (fun c_16 => ?_)
            · skip
              refine z_iconst hx hb dX7_hedge_62 ?_
              refine z_ior (a := q) (b := 0) hx hb dX7_hedge_63 rfl (by omega) ?_
              refine lv_istore_n (lv' := [(3, .int (iZ ((q ||| 0 : Nat) : Int))), (4, .int (iZ ((w : Nat) : Int))), (2, .int (iZ ((i + 1 : Nat) : Int))), (0, .ref g9), (1, .int (iZ a))]) hx hb dX7_hedge_64 rfl hl (by decide) rfl (fun ls hl => ?_)
              refine lv_iinc (v := iZ ((w + 1 : Nat) : Int)) (lv' := [(4, .int (iZ ((w + 1 : Nat) : Int))), (3, .int (iZ ((q ||| 0 : Nat) : Int))), (2, .int (iZ ((i + 1 : Nat) : Int))), (0, .ref g9), (1, .int (iZ a))]) hx hb dX7_hedge_65 hl (k := 1) rfl (iZ_inc _) (by decide) rfl (fun ls hl => ?_)
              refine lv_goto (tgt := 26) hx hb dX7_hedge_68 (by decide) ?_
              exact ih4 (ls := ls) (w := w + 1) (q := q ||| 0) (hI := by exact ⟨by rw [hwN, hI.1]; show _ = _ ||| (if A 17 (29 + w) % F 13 < ((i + 1 : Nat) : Int) then 2 ^ w else 0); first | rw [if_pos (by omega)] | rw [if_neg (by omega)], by omega⟩) (hl := lv_sub hl [0, 1, 2, 3, 4] rfl) (hn_ := by omega)
            · skip
              refine z_iconst hx hb dX7_hedge_55 ?_
              refine lv_iload hx hb dX7_hedge_56 (lv_at hl 0 rfl) ?_
              refine z_ishl1 (k := w) hx hb dX7_hedge_58 (by omega) ?_
              refine lv_goto (tgt := 63) hx hb dX7_hedge_59 (by decide) ?_
              refine z_ior (a := q) (b := (2 ^ w)) hx hb dX7_hedge_63 rfl rfl ?_
              refine lv_istore_n (lv' := [(3, .int (iZ ((q ||| (2 ^ w) : Nat) : Int))), (4, .int (iZ ((w : Nat) : Int))), (2, .int (iZ ((i + 1 : Nat) : Int))), (0, .ref g9), (1, .int (iZ a))]) hx hb dX7_hedge_64 rfl hl (by decide) rfl (fun ls hl => ?_)
              refine lv_iinc (v := iZ ((w + 1 : Nat) : Int)) (lv' := [(4, .int (iZ ((w + 1 : Nat) : Int))), (3, .int (iZ ((q ||| (2 ^ w) : Nat) : Int))), (2, .int (iZ ((i + 1 : Nat) : Int))), (0, .ref g9), (1, .int (iZ a))]) hx hb dX7_hedge_65 hl (k := 1) rfl (iZ_inc _) (by decide) rfl (fun ls hl => ?_)
              refine lv_goto (tgt := 26) hx hb dX7_hedge_68 (by decide) ?_
              exact ih4 (ls := ls) (w := w + 1) (q := q ||| (2 ^ w)) (hI := by exact ⟨by rw [hwN, hI.1]; show _ = _ ||| (if A 17 (29 + w) % F 13 < ((i + 1 : Nat) : Int) then 2 ^ w else 0); first | rw [if_pos (by omega)] | rw [if_neg (by omega)], by omega⟩) (hl := lv_sub hl [0, 1, 2, 3, 4] rfl) (hn_ := by omega)
  · skip
    have c_1 := of_decide_eq_false c_1
    refine z_iconst hx hb dX7_hedge_9 ?_
    refine z_top (show (-1) = xHedge (kF F A (A 17)) a from ?_) ?_
    · unfold xHedge; (repeat' split) <;> first | rfl | omega | (simp_all; done)
    exact W.iret (v := iZ (xHedge (kF F A (A 17)) a)) hx hb hr (fun t9 ht9 _ => ⟨rfl, ht9⟩) (fun q h => absurd h List.not_mem_nil) dX7_hedge_10
