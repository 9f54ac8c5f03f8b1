set_option maxHeartbeats 4000000 in
set_option maxRecDepth 100000 in
theorem c_X7_under (l : Launch) (G : va_G) (Y : Nat → ClassId) (g9 : Nat) (af : Nat → Nat) (F : Nat → Int) (A : Kom) (tr : Int64) (sa q0 n9 : Nat) (S : Nat → Int) (hq : (moW Y g9 af F A tr)[q0]? = some (sa, .inl (Y 0, n9, .inl (aI S)))) (hn : 36 ≤ n9 ∧ n9 < 2147483648) (hV : mV F A S) (a : Int) (r : 0 ≤ a ∧ a < F 13 * F 14) : Met l yX7_under wsX7_under ({ frames := 2, cells := 0, slots := 0, locals := 49 }) (rP G Y [.ref g9, .ref sa, .int (iZ a)] (moW Y g9 af F A tr)) (rQ (.int (iZ (ov (kM F A S) a)))) 0 0 (fun _ => False) := by
  refine Met.ofW (cc := cX7_under) (maxL := 6) (ret := (some .int)) (by decide) rfl ?_
  intro p e s m args below meth c s₁ B hml hv
  obtain ⟨rfl, hK, hP⟩ := hv
  have hx := B.exec
  have hb := B.bytes
  have hr := B.returns
  have hts := atoms_spec (ws := wsX7_under) B.pre
  have hown : s.vm.findClass RX7 = some m.cls := findClass_of_methodNamed B.named
  have hlocks := B.notSynchronized
  have hFX7 : ∀ w ∈ wsX70, w ∈ wsX7_under := by decide +kernel
  have kf48 := (hts (.fieldLink RX7 48 "ShadeVotesModel" "moreCell" "I") (by decide +kernel))
  have kf136 := (hts (.fieldLink RX7 136 "ShadeVotesModel" "moreHeight" "I") (by decide +kernel))
  have hl := lv_entry ([.ref g9, .ref sa, .int (iZ a)]) (n := 6) (Nat.le_of_ble_eq_true rfl)
  rw [lg_entry_eq]
  generalize (lg_sl ([.ref g9, .ref sa, .int (iZ a)]) ++ List.replicate (6 - (lg_sl ([.ref g9, .ref sa, .int (iZ a)])).length) Slot.unset).toArray = ls at hl ⊢
  replace hl : lv_has ls 6 [(0, .ref g9), (1, .ref sa), (2, .int (iZ a))] := hl
  have v3 := hV.2.2.1
  have v7 := hV.2.2.2.2.2.2.1
  have v8 := hV.2.2.2.2.2.2.2.1
  have v5 := hV.2.1
  have v4 := hV.2.2.2.1
  refine z_bipush hx hb dX7_under_0 (by decide) ?_
  refine lv_istore_n (lv' := [(3, .int (iZ (-9))), (0, .ref g9), (1, .ref sa), (2, .int (iZ a))]) hx hb dX7_under_2 rfl hl (by decide) rfl (fun ls hl => ?_)
  refine z_iconst hx hb dX7_under_3 ?_
  refine lv_istore (lv' := [(4, .int (iZ 0)), (3, .int (iZ (-9))), (0, .ref g9), (1, .ref sa), (2, .int (iZ a))]) hx hb dX7_under_4 hl (by decide) rfl (fun ls hl => ?_)
  refine z_iconst hx hb dX7_under_6 ?_
  refine lv_istore (lv' := [(5, .int (iZ 0)), (4, .int (iZ 0)), (3, .int (iZ (-9))), (0, .ref g9), (1, .ref sa), (2, .int (iZ a))]) hx hb dX7_under_7 hl (by decide) rfl (fun ls hl => ?_)
  obtain ⟨t, q, u, hI, hl1⟩ : ∃ (t : Nat) (q : Int) (u : Int), (q = (ovS (kF F A S) a t).1 ∧ u = (ovS (kF F A S) a t).2 ∧ (t : Int) ≤ S 3) ∧ lv_has ls 6 [(5, .int (iZ ((t : Nat) : Int))), (3, .int (iZ q)), (4, .int (iZ u)), (0, .ref g9), (1, .ref sa), (2, .int (iZ a))] := ⟨0, -9, 0, by exact ⟨rfl, rfl, by omega⟩, lv_sub hl [0, 2, 1, 3, 4, 5] rfl⟩
  clear hl
  have hl := hl1
  clear hl1
  obtain ⟨n_, hn_⟩ : ∃ n_ : Nat, (S 3).toNat - t < n_ := ⟨_, Nat.lt_succ_self _⟩
  induction n_ generalizing t q u ls with
  | zero => exact absurd hn_ (Nat.not_lt_zero _)
  | succ n_ ih1 =>
    have ho := ovS_in hV.1 a t (by omega)
    have hu : 0 ≤ u ∧ u ≤ 20 := by omega
    have hb0 := hV.2.2.2.2.1 t
    have hk2 : t < 5 → kF F A S 2 t = S (9 + t) := fun h => kF_2 h
    refine lv_iload hx hb dX7_under_9 (lv_at hl 0 rfl) ?_
    refine lv_aload_n hx hb dX7_under_11 rfl (lv_at hl 4 rfl) ?_
    refine z_iconst hx hb dX7_under_12 ?_
    refine z_iald hx hb hK.1 hP q0 0 hq rfl 3 (by omega) hn.2 dX7_under_13 ?_
    refine z_icmp_ge (tgt := 61) hx hb dX7_under_14 (by decide) (by omega) (fun c_2 => ?_) (fun c_2 => ?_)
    · skip
      have e9 : t = (S 3).toNat := by omega
      refine lv_aload_n hx hb dX7_under_61 rfl (lv_at hl 3 rfl) ?_
      refine va_get (D := G) (ci := 7) (v := .int (iZ (F 26))) (C := RX7) (T := TX7) (N := 29) hx hb hts hFX7 hown hK.1 hP 0 rfl rfl 26 (by decide) kf48 (fun _ h9 => h9) rfl dX7_under_62 ?_
      refine z_if_lt (tgt := 102) hx hb dX7_under_65 (by decide) (by omega) (fun c_3 => ?_) (fun c_3 => ?_)
      · skip
        refine lv_iload_n hx hb dX7_under_102 rfl (lv_at hl 1 rfl) ?_
        refine z_top (show q = ov (kM F A S) a from ?_) ?_
        · rw [hI.1, e9]; first | exact (un_0 (by omega)).symm | exact (un_no (by omega) (by omega) (Or.inl (by rw [← e9, ← hI.2.1]; omega))).symm | exact (un_no (by omega) (by omega) (Or.inr (by rw [← shd_of (K := kM F A S) (t := (S 3).toNat) (n := F 13 * F 14) (a := a) (by omega)]; assumption))).symm
        exact W.iret (v := iZ (ov (kM F A S) a)) hx hb hr (fun t9 ht9 _ => ⟨rfl, ht9⟩) (fun q h => absurd h List.not_mem_nil) dX7_under_103
      · skip
        refine lv_aload_n hx hb dX7_under_68 rfl (lv_at hl 3 rfl) ?_
        refine va_get (D := G) (ci := 7) (v := .int (iZ (F 27))) (C := RX7) (T := TX7) (N := 29) hx hb hts hFX7 hown hK.1 hP 0 rfl rfl 27 (by decide) kf136 (fun _ h9 => h9) rfl dX7_under_69 ?_
        refine lv_iload hx hb dX7_under_72 (lv_at hl 2 rfl) ?_
        refine z_icmp_le (tgt := 102) hx hb dX7_under_74 (by decide) (by omega) (fun c_4 => ?_) (fun c_4 => ?_)
        · skip
          refine lv_iload_n hx hb dX7_under_102 rfl (lv_at hl 1 rfl) ?_
          refine z_top (show q = ov (kM F A S) a from ?_) ?_
          · rw [hI.1, e9]; first | exact (un_0 (by omega)).symm | exact (un_no (by omega) (by omega) (Or.inl (by rw [← e9, ← hI.2.1]; omega))).symm | exact (un_no (by omega) (by omega) (Or.inr (by rw [← shd_of (K := kM F A S) (t := (S 3).toNat) (n := F 13 * F 14) (a := a) (by omega)]; assumption))).symm
          exact W.iret (v := iZ (ov (kM F A S) a)) hx hb hr (fun t9 ht9 _ => ⟨rfl, ht9⟩) (fun q h => absurd h List.not_mem_nil) dX7_under_103
        · skip
          refine lv_aload_n hx hb dX7_under_77 rfl (lv_at hl 3 rfl) ?_
          refine lv_aload_n hx hb dX7_under_78 rfl (lv_at hl 3 rfl) ?_
          refine va_get (D := G) (ci := 7) (v := .int (iZ (F 26))) (C := RX7) (T := TX7) (N := 29) hx hb hts hFX7 hown hK.1 hP 0 rfl rfl 26 (by decide) kf48 (fun _ h9 => h9) rfl dX7_under_79 ?_
          refine lv_aload_n hx hb dX7_under_82 rfl (lv_at hl 3 rfl) ?_
          refine va_get (D := G) (ci := 7) (v := .int (iZ (F 27))) (C := RX7) (T := TX7) (N := 29) hx hb hts hFX7 hown hK.1 hP 0 rfl rfl 27 (by decide) kf136 (fun _ h9 => h9) rfl dX7_under_83 ?_
          refine z_iconst hx hb dX7_under_86 ?_
          refine z_top (show (1 : Int) = bZ true from rfl) ?_
          refine lv_aload_n hx hb dX7_under_87 rfl (lv_at hl 4 rfl) ?_
          refine ro_V (As := [.int (iZ (F 26)), .int (iZ (F 27)), .int (iZ (bZ true)), .ref sa]) (rest := []) ⟨hx, hb, hml, hown, hts⟩ (c_X7_shadeBy l G Y g9 af F A tr sa q0 n9 S hq hn hV (F 26) (F 27) true (by omega)) (cwV 4 hts gX7_under_X7_shadeBy rfl rfl rfl (by decide +kernel) ⟨Nat.le_of_ble_eq_true rfl, Nat.le_of_ble_eq_true rfl⟩) hK hP 0 rfl rfl rfl hl.1 rfl (Nat.le_of_ble_eq_true rfl) dX7_under_88 ⟨Nat.zero_le _, Nat.zero_le _⟩ ?_
          rw [shF_more hV (by omega)]
          have hb_6 := shB_20 (K := kM F A S) (S 3).toNat (n := (F 13 * F 14).toNat) (by omega)
          refine lv_iload_n hx hb dX7_under_91 rfl (lv_at hl 5 rfl) ?_
          refine ro_S (As := [.int (iZ ((shB (kM F A S) (S 3).toNat (F 13 * F 14).toNat : Nat) : Int)), .int (iZ a)]) (rest := []) ⟨hx, hb, hml, hown, hts⟩ (c_X7_has l G Y (shB (kM F A S) (S 3).toNat (F 13 * F 14).toNat) a (by omega)) (cwS 2 hts gX7_under_X7_has rfl rfl rfl (by decide +kernel) ⟨Nat.le_of_ble_eq_true rfl, Nat.le_of_ble_eq_true rfl⟩) hK (hP.sub (ws' := []) [] rfl) rfl hl.1 rfl (Nat.le_of_ble_eq_true rfl) dX7_under_92 ⟨Nat.zero_le _, Nat.zero_le _⟩ ?_
          refine z_ifb_eq (tgt := 102) hx hb dX7_under_95 (by decide) (fun c_7 => ?_) (fun c_7 => ?_)
          · skip
            refine lv_iload_n hx hb dX7_under_102 rfl (lv_at hl 1 rfl) ?_
            refine z_top (show q = ov (kM F A S) a from ?_) ?_
            · rw [hI.1, e9]; first | exact (un_0 (by omega)).symm | exact (un_no (by omega) (by omega) (Or.inl (by rw [← e9, ← hI.2.1]; omega))).symm | exact (un_no (by omega) (by omega) (Or.inr (by rw [← shd_of (K := kM F A S) (t := (S 3).toNat) (n := F 13 * F 14) (a := a) (by omega)]; assumption))).symm
            exact W.iret (v := iZ (ov (kM F A S) a)) hx hb hr (fun t9 ht9 _ => ⟨rfl, ht9⟩) (fun q h => absurd h List.not_mem_nil) dX7_under_103
          · skip
            refine lv_aload_n hx hb dX7_under_98 rfl (lv_at hl 4 rfl) ?_
            refine z_iconst hx hb dX7_under_99 ?_
            refine z_iald hx hb hK.1 hP q0 0 hq rfl 3 (by omega) hn.2 dX7_under_100 ?_
            refine lv_istore_n (lv' := [(3, .int (iZ (S 3))), (5, .int (iZ ((t : Nat) : Int))), (4, .int (iZ u)), (0, .ref g9), (1, .ref sa), (2, .int (iZ a))]) hx hb dX7_under_101 rfl hl (by decide) rfl (fun ls hl => ?_)
            refine lv_iload_n hx hb dX7_under_102 rfl (lv_at hl 0 rfl) ?_
            refine z_top (show S 3 = ov (kM F A S) a from ?_) ?_
            · exact (un_yes (by omega) (by omega) (by rw [← e9, ← hI.2.1]; omega) (by rw [← shd_of (K := kM F A S) (t := (S 3).toNat) (n := F 13 * F 14) (a := a) (by omega)]; assumption)).symm
            exact W.iret (v := iZ (ov (kM F A S) a)) hx hb hr (fun t9 ht9 _ => ⟨rfl, ht9⟩) (fun q h => absurd h List.not_mem_nil) dX7_under_103
    · skip
      refine lv_aload_n hx hb dX7_under_17 rfl (lv_at hl 3 rfl) ?_
      refine lv_aload_n hx hb dX7_under_18 rfl (lv_at hl 4 rfl) ?_
      refine lv_iload hx hb dX7_under_19 (lv_at hl 0 rfl) ?_
      refine ro_V (As := [.ref sa, .int (iZ ((t : Nat) : Int))]) (rest := []) ⟨hx, hb, hml, hown, hts⟩ (c_X7_shadeOf l G Y g9 af F A tr sa q0 n9 S hq hn hV t (by omega)) (cwV 2 hts gX7_under_X7_shadeOf rfl rfl rfl (by decide +kernel) ⟨Nat.le_of_ble_eq_true rfl, Nat.le_of_ble_eq_true rfl⟩) hK hP 0 rfl rfl rfl hl.1 rfl (Nat.le_of_ble_eq_true rfl) dX7_under_21 ⟨Nat.zero_le _, Nat.zero_le _⟩ ?_
      have hb_8 := shB_20 (K := kF F A S) t (n := (F 13 * F 14).toNat) (by omega)
      refine lv_iload_n hx hb dX7_under_24 rfl (lv_at hl 5 rfl) ?_
      refine ro_S (As := [.int (iZ ((shB (kF F A S) t (F 13 * F 14).toNat : Nat) : Int)), .int (iZ a)]) (rest := []) ⟨hx, hb, hml, hown, hts⟩ (c_X7_has l G Y (shB (kF F A S) t (F 13 * F 14).toNat) a (by omega)) (cwS 2 hts gX7_under_X7_has rfl rfl rfl (by decide +kernel) ⟨Nat.le_of_ble_eq_true rfl, Nat.le_of_ble_eq_true rfl⟩) hK (hP.sub (ws' := []) [] rfl) rfl hl.1 rfl (Nat.le_of_ble_eq_true rfl) dX7_under_25 ⟨Nat.zero_le _, Nat.zero_le _⟩ ?_
      refine z_ifb_eq (tgt := 55) hx hb dX7_under_28 (by decide) (fun c_9 => ?_) (fun c_9 => ?_)
      · skip
        refine lv_iinc (v := iZ ((t + 1 : Nat) : Int)) (lv' := [(5, .int (iZ ((t + 1 : Nat) : Int))), (3, .int (iZ q)), (4, .int (iZ u)), (0, .ref g9), (1, .ref sa), (2, .int (iZ a))]) hx hb dX7_under_55 hl (k := 0) rfl (iZ_inc _) (by decide) rfl (fun ls hl => ?_)
        refine lv_goto (tgt := 9) hx hb dX7_under_58 (by decide) ?_
        exact ih1 (ls := ls) (t := t + 1) (q := q) (u := u) (hI := by have hk3 := hk2 (by omega); first | (rw [ovS_t (by omega) (by rw [← shd_of (n := F 13 * F 14) (by omega)]; assumption)]; exact ⟨rfl, hk3.symm, by omega⟩) | (rw [ovS_f2 (by rw [← shd_of (n := F 13 * F 14) (by omega)]; assumption)]; exact ⟨hI.1, hI.2.1, by omega⟩) | (rw [ovS_f1 (by omega)]; exact ⟨hI.1, hI.2.1, by omega⟩)) (hl := lv_sub hl [0, 1, 2, 3, 4, 5] rfl) (hn_ := by omega)
      · skip
        refine lv_aload_n hx hb dX7_under_31 rfl (lv_at hl 4 rfl) ?_
        refine z_bipush hx hb dX7_under_32 (by decide) ?_
        refine lv_iload hx hb dX7_under_34 (lv_at hl 0 rfl) ?_
        refine z_iadd hx hb dX7_under_36 ?_
        refine z_iald hx hb hK.1 hP q0 0 hq rfl (9 + t) (by omega) hn.2 dX7_under_37 ?_
        have hb1 := hb0 (by omega)
        refine lv_iload hx hb dX7_under_38 (lv_at hl 2 rfl) ?_
        refine z_icmp_le (tgt := 55) hx hb dX7_under_40 (by decide) (by omega) (fun c_10 => ?_) (fun c_10 => ?_)
        · skip
          refine lv_iinc (v := iZ ((t + 1 : Nat) : Int)) (lv' := [(5, .int (iZ ((t + 1 : Nat) : Int))), (3, .int (iZ q)), (4, .int (iZ u)), (0, .ref g9), (1, .ref sa), (2, .int (iZ a))]) hx hb dX7_under_55 hl (k := 0) rfl (iZ_inc _) (by decide) rfl (fun ls hl => ?_)
          refine lv_goto (tgt := 9) hx hb dX7_under_58 (by decide) ?_
          exact ih1 (ls := ls) (t := t + 1) (q := q) (u := u) (hI := by have hk3 := hk2 (by omega); first | (rw [ovS_t (by omega) (by rw [← shd_of (n := F 13 * F 14) (by omega)]; assumption)]; exact ⟨rfl, hk3.symm, by omega⟩) | (rw [ovS_f2 (by rw [← shd_of (n := F 13 * F 14) (by omega)]; assumption)]; exact ⟨hI.1, hI.2.1, by omega⟩) | (rw [ovS_f1 (by omega)]; exact ⟨hI.1, hI.2.1, by omega⟩)) (hl := lv_sub hl [0, 1, 2, 3, 4, 5] rfl) (hn_ := by omega)
        · skip
          refine lv_iload hx hb dX7_under_43 (lv_at hl 0 rfl) ?_
          refine lv_istore_n (lv' := [(3, .int (iZ ((t : Nat) : Int))), (5, .int (iZ ((t : Nat) : Int))), (4, .int (iZ u)), (0, .ref g9), (1, .ref sa), (2, .int (iZ a))]) hx hb dX7_under_45 rfl hl (by decide) rfl (fun ls hl => ?_)
          refine lv_aload_n hx hb dX7_under_46 rfl (lv_at hl 4 rfl) ?_
          refine z_bipush hx hb dX7_under_47 (by decide) ?_
          refine lv_iload hx hb dX7_under_49 (lv_at hl 1 rfl) ?_
          refine z_iadd hx hb dX7_under_51 ?_
          refine z_iald hx hb hK.1 hP q0 0 hq rfl (9 + t) (by omega) hn.2 dX7_under_52 ?_
          refine lv_istore (lv' := [(4, .int (iZ (S (9 + t)))), (3, .int (iZ ((t : Nat) : Int))), (5, .int (iZ ((t : Nat) : Int))), (0, .ref g9), (1, .ref sa), (2, .int (iZ a))]) hx hb dX7_under_53 hl (by decide) rfl (fun ls hl => ?_)
          refine lv_iinc (v := iZ ((t + 1 : Nat) : Int)) (lv' := [(5, .int (iZ ((t + 1 : Nat) : Int))), (4, .int (iZ (S (9 + t)))), (3, .int (iZ ((t : Nat) : Int))), (0, .ref g9), (1, .ref sa), (2, .int (iZ a))]) hx hb dX7_under_55 hl (k := 2) rfl (iZ_inc _) (by decide) rfl (fun ls hl => ?_)
          refine lv_goto (tgt := 9) hx hb dX7_under_58 (by decide) ?_
          exact ih1 (ls := ls) (t := t + 1) (q := ((t : Nat) : Int)) (u := S (9 + t)) (hI := by have hk3 := hk2 (by omega); first | (rw [ovS_t (by omega) (by rw [← shd_of (n := F 13 * F 14) (by omega)]; assumption)]; exact ⟨rfl, hk3.symm, by omega⟩) | (rw [ovS_f2 (by rw [← shd_of (n := F 13 * F 14) (by omega)]; assumption)]; exact ⟨hI.1, hI.2.1, by omega⟩) | (rw [ovS_f1 (by omega)]; exact ⟨hI.1, hI.2.1, by omega⟩)) (hl := lv_sub hl [0, 2, 1, 3, 4, 5] rfl) (hn_ := by omega)

set_option maxHeartbeats 4000000 in
set_option maxRecDepth 100000 in
theorem c_X7_wants (l : Launch) (G : va_G) (Y : Nat → ClassId) (g9 : Nat) (af : Nat → Nat) (F : Nat → Int) (A : Kom) (tr : Int64) (sa q0 n9 : Nat) (S : Nat → Int) (hq : (moW Y g9 af F A tr)[q0]? = some (sa, .inl (Y 0, n9, .inl (aI S)))) (hn : 36 ≤ n9 ∧ n9 < 2147483648) (hV : mV F A S) (t b : Int) (r : (0 ≤ t ∧ t ≤ S 3) ∧ 0 ≤ b ∧ b ≤ 2) (r2 : F 26 < 0 → t < S 3) : Met l yX7_wants wsX7_wants ({ frames := 1, cells := 0, slots := 0, locals := 21 }) (rP G Y [.ref g9, .ref sa, .int (iZ t), .int (iZ b)] (moW Y g9 af F A tr)) (rQ (.int (iZ (bZ (wnF F S t b))))) 0 0 (fun _ => False) := by
  refine Met.ofW (cc := cX7_wants) (maxL := 4) (ret := (some .boolean)) (by decide) rfl ?_
  intro p e s m args below meth c s₁ B hml hv
  obtain ⟨rfl, hK, hP⟩ := hv
  have hx := B.exec
  have hb := B.bytes
  have hr := B.returns
  have hts := atoms_spec (ws := wsX7_wants) B.pre
  have hown : s.vm.findClass RX7 = some m.cls := findClass_of_methodNamed B.named
  have hlocks := B.notSynchronized
  have hFX7 : ∀ w ∈ wsX70, w ∈ wsX7_wants := by decide +kernel
  have kf139 := (hts (.fieldLink RX7 139 "ShadeVotesModel" "moreWants" "I") (by decide +kernel))
  have hl := lv_entry ([.ref g9, .ref sa, .int (iZ t), .int (iZ b)]) (n := 4) (Nat.le_of_ble_eq_true rfl)
  rw [lg_entry_eq]
  generalize (lg_sl ([.ref g9, .ref sa, .int (iZ t), .int (iZ b)]) ++ List.replicate (4 - (lg_sl ([.ref g9, .ref sa, .int (iZ t), .int (iZ b)])).length) Slot.unset).toArray = ls at hl ⊢
  replace hl : lv_has ls 4 [(0, .ref g9), (1, .ref sa), (2, .int (iZ t)), (3, .int (iZ b))] := hl
  have v3 := hV.2.2.1
  have v7 := hV.2.2.2.2.2.2.1
  have v8 := hV.2.2.2.2.2.2.2.1
  have v5 := hV.2.1
  have v4 := hV.2.2.2.1
  refine lv_iload_n hx hb dX7_wants_0 rfl (lv_at hl 2 rfl) ?_
  refine lv_aload_n hx hb dX7_wants_1 rfl (lv_at hl 1 rfl) ?_
  refine z_iconst hx hb dX7_wants_2 ?_
  refine z_iald hx hb hK.1 hP q0 0 hq rfl 3 (by omega) hn.2 dX7_wants_3 ?_
  refine z_icmp_ne (tgt := 14) hx hb dX7_wants_4 (by decide) (by omega) (fun c_1 => ?_) (fun c_1 => ?_)
  · skip
    refine lv_aload_n hx hb dX7_wants_14 rfl (lv_at hl 1 rfl) ?_
    refine z_bipush hx hb dX7_wants_15 (by decide) ?_
    refine lv_iload_n hx hb dX7_wants_17 rfl (lv_at hl 2 rfl) ?_
    refine z_iadd hx hb dX7_wants_18 ?_
    refine z_iald hx hb hK.1 hP q0 0 hq rfl (((19 + t)).toNat) (by omega) hn.2 dX7_wants_19 ?_
    have hw9 : 0 ≤ S (((19 + t)).toNat) ∧ S (((19 + t)).toNat) ≤ 7 := by have hb9 := hV.2.2.2.2.1 t.toNat (by omega); rw [show ((19 + t)).toNat = 19 + t.toNat by omega]; omega
    refine z_top (show S (((19 + t)).toNat) = (((S (((19 + t)).toNat)).toNat : Nat) : Int) by omega) ?_
    refine lv_iload_n hx hb dX7_wants_20 rfl (lv_at hl 3 rfl) ?_
    refine ro_S (As := [.int (iZ (((S (((19 + t)).toNat)).toNat : Nat) : Int)), .int (iZ b)]) (rest := []) ⟨hx, hb, hml, hown, hts⟩ (c_X7_has l G Y ((S (((19 + t)).toNat)).toNat) b (by omega)) (cwS 2 hts gX7_wants_X7_has rfl rfl rfl (by decide +kernel) ⟨Nat.le_of_ble_eq_true rfl, Nat.le_of_ble_eq_true rfl⟩) hK (hP.sub (ws' := []) [] rfl) rfl hl.1 rfl (Nat.le_of_ble_eq_true rfl) dX7_wants_21 ⟨Nat.zero_le _, Nat.zero_le _⟩ ?_
    refine z_top (show bZ (Nat.testBit ((S (((19 + t)).toNat)).toNat) (b).toNat) = bZ (wnF F S t b) from ?_) ?_
    · unfold wnF; first | rw [if_pos (by omega)] | rw [if_neg (by omega)]
    exact W.zret (v := iZ (bZ (wnF F S t b))) hx hb hr (b01_nar (bZ_in _)) (fun t9 ht9 _ => ⟨rfl, ht9⟩) (fun q h => absurd h List.not_mem_nil) dX7_wants_24
  · skip
    refine lv_aload_n hx hb dX7_wants_7 rfl (lv_at hl 0 rfl) ?_
    refine va_get (D := G) (ci := 7) (v := .int (iZ (F 28))) (C := RX7) (T := TX7) (N := 29) hx hb hts hFX7 hown hK.1 hP 0 rfl rfl 28 (by decide) kf139 (fun _ h9 => h9) rfl dX7_wants_8 ?_
    refine lv_goto (tgt := 20) hx hb dX7_wants_11 (by decide) ?_
    have hw9 : 0 ≤ F 28 ∧ F 28 ≤ 7 := by omega
    refine z_top (show F 28 = (((F 28).toNat : Nat) : Int) by omega) ?_
    refine lv_iload_n hx hb dX7_wants_20 rfl (lv_at hl 3 rfl) ?_
    refine ro_S (As := [.int (iZ (((F 28).toNat : Nat) : Int)), .int (iZ b)]) (rest := []) ⟨hx, hb, hml, hown, hts⟩ (c_X7_has l G Y ((F 28).toNat) b (by omega)) (cwS 2 hts gX7_wants_X7_has rfl rfl rfl (by decide +kernel) ⟨Nat.le_of_ble_eq_true rfl, Nat.le_of_ble_eq_true rfl⟩) hK (hP.sub (ws' := []) [] rfl) rfl hl.1 rfl (Nat.le_of_ble_eq_true rfl) dX7_wants_21 ⟨Nat.zero_le _, Nat.zero_le _⟩ ?_
    refine z_top (show bZ (Nat.testBit ((F 28).toNat) (b).toNat) = bZ (wnF F S t b) from ?_) ?_
    · unfold wnF; first | rw [if_pos (by omega)] | rw [if_neg (by omega)]
    exact W.zret (v := iZ (bZ (wnF F S t b))) hx hb hr (b01_nar (bZ_in _)) (fun t9 ht9 _ => ⟨rfl, ht9⟩) (fun q h => absurd h List.not_mem_nil) dX7_wants_24

set_option maxHeartbeats 4000000 in
set_option maxRecDepth 100000 in
theorem c_X7_standOf (l : Launch) (G : va_G) (Y : Nat → ClassId) (g9 : Nat) (af : Nat → Nat) (F : Nat → Int) (A : Kom) (tr : Int64) (sa q0 n9 : Nat) (S : Nat → Int) (hq : (moW Y g9 af F A tr)[q0]? = some (sa, .inl (Y 0, n9, .inl (aI S)))) (hn : 36 ≤ n9 ∧ n9 < 2147483648) (hV : mV F A S) (a b : Int) (r : (0 ≤ a ∧ a < F 13 * F 14) ∧ 0 ≤ b ∧ b ≤ 2) : Met l yX7_standOf wsX7_standOf ({ frames := 3, cells := 0, slots := 0, locals := 74 }) (rP G Y [.ref g9, .ref sa, .int (iZ a), .int (iZ b)] (moW Y g9 af F A tr)) (rQ (.int (iZ (vo (kM F A S) a b.toNat)))) 0 0 (fun _ => False) := by
  refine Met.ofW (cc := cX7_standOf) (maxL := 5) (ret := (some .int)) (by decide) rfl ?_
  intro p e s m args below meth c s₁ B hml hv
  obtain ⟨rfl, hK, hP⟩ := hv
  have hx := B.exec
  have hb := B.bytes
  have hr := B.returns
  have hts := atoms_spec (ws := wsX7_standOf) B.pre
  have hown : s.vm.findClass RX7 = some m.cls := findClass_of_methodNamed B.named
  have hlocks := B.notSynchronized
  have hl := lv_entry ([.ref g9, .ref sa, .int (iZ a), .int (iZ b)]) (n := 5) (Nat.le_of_ble_eq_true rfl)
  rw [lg_entry_eq]
  generalize (lg_sl ([.ref g9, .ref sa, .int (iZ a), .int (iZ b)]) ++ List.replicate (5 - (lg_sl ([.ref g9, .ref sa, .int (iZ a), .int (iZ b)])).length) Slot.unset).toArray = ls at hl ⊢
  replace hl : lv_has ls 5 [(0, .ref g9), (1, .ref sa), (2, .int (iZ a)), (3, .int (iZ b))] := hl
  have v3 := hV.2.2.1
  have v7 := hV.2.2.2.2.2.2.1
  have v8 := hV.2.2.2.2.2.2.2.1
  have v5 := hV.2.1
  have v4 := hV.2.2.2.1
  refine lv_aload_n hx hb dX7_standOf_0 rfl (lv_at hl 0 rfl) ?_
  refine lv_aload_n hx hb dX7_standOf_1 rfl (lv_at hl 1 rfl) ?_
  refine lv_iload_n hx hb dX7_standOf_2 rfl (lv_at hl 2 rfl) ?_
  refine ro_V (As := [.ref sa, .int (iZ a)]) (rest := []) ⟨hx, hb, hml, hown, hts⟩ (c_X7_under l G Y g9 af F A tr sa q0 n9 S hq hn hV a (by omega)) (cwV 2 hts gX7_standOf_X7_under rfl rfl rfl (by decide +kernel) ⟨Nat.le_of_ble_eq_true rfl, Nat.le_of_ble_eq_true rfl⟩) hK hP 0 rfl rfl rfl hl.1 rfl (Nat.le_of_ble_eq_true rfl) dX7_standOf_3 ⟨Nat.zero_le _, Nat.zero_le _⟩ ?_
  have hb_1 := ov_kM hV a
  refine lv_istore (lv' := [(4, .int (iZ (ov (kM F A S) a))), (0, .ref g9), (1, .ref sa), (2, .int (iZ a)), (3, .int (iZ b))]) hx hb dX7_standOf_6 hl (by decide) rfl (fun ls hl => ?_)
  refine lv_iload hx hb dX7_standOf_8 (lv_at hl 0 rfl) ?_
  refine z_bipush hx hb dX7_standOf_10 (by decide) ?_
  refine z_icmp_ne (tgt := 19) hx hb dX7_standOf_12 (by decide) (by omega) (fun c_2 => ?_) (fun c_2 => ?_)
  · skip
    refine lv_aload_n hx hb dX7_standOf_19 rfl (lv_at hl 1 rfl) ?_
    refine lv_aload_n hx hb dX7_standOf_20 rfl (lv_at hl 2 rfl) ?_
    refine lv_iload hx hb dX7_standOf_21 (lv_at hl 0 rfl) ?_
    refine lv_iload_n hx hb dX7_standOf_23 rfl (lv_at hl 4 rfl) ?_
    refine ro_V (As := [.ref sa, .int (iZ (ov (kM F A S) a)), .int (iZ b)]) (rest := []) ⟨hx, hb, hml, hown, hts⟩ (c_X7_wants l G Y g9 af F A tr sa q0 n9 S hq hn hV (ov (kM F A S) a) b (by omega) (by omega)) (cwV 3 hts gX7_standOf_X7_wants rfl rfl rfl (by decide +kernel) ⟨Nat.le_of_ble_eq_true rfl, Nat.le_of_ble_eq_true rfl⟩) hK hP 0 rfl rfl rfl hl.1 rfl (Nat.le_of_ble_eq_true rfl) dX7_standOf_24 ⟨Nat.zero_le _, Nat.zero_le _⟩ ?_
    refine z_ifb_eq (tgt := 34) hx hb dX7_standOf_27 (by decide) (fun c_3 => ?_) (fun c_3 => ?_)
    · skip
      refine z_iconst hx hb dX7_standOf_34 ?_
      refine z_top (show (-1) = vo (kM F A S) a b.toNat from ?_) ?_
      · rw [vo_kM hV]; first | (rw [if_pos (by omega)]; done) | (rw [if_neg (by omega)]; first | (rw [if_pos (by assumption)]; done) | (rw [if_neg (by rw [show wnF F S (ov (kM F A S) a) b = false by assumption]; exact Bool.false_ne_true)]))
      exact W.iret (v := iZ (vo (kM F A S) a b.toNat)) hx hb hr (fun t9 ht9 _ => ⟨rfl, ht9⟩) (fun q h => absurd h List.not_mem_nil) dX7_standOf_35
    · skip
      refine z_iconst hx hb dX7_standOf_30 ?_
      refine lv_goto (tgt := 35) hx hb dX7_standOf_31 (by decide) ?_
      refine z_top (show 1 = vo (kM F A S) a b.toNat from ?_) ?_
      · rw [vo_kM hV]; first | (rw [if_pos (by omega)]; done) | (rw [if_neg (by omega)]; first | (rw [if_pos (by assumption)]; done) | (rw [if_neg (by rw [show wnF F S (ov (kM F A S) a) b = false by assumption]; exact Bool.false_ne_true)]))
      exact W.iret (v := iZ (vo (kM F A S) a b.toNat)) hx hb hr (fun t9 ht9 _ => ⟨rfl, ht9⟩) (fun q h => absurd h List.not_mem_nil) dX7_standOf_35
  · skip
    refine z_iconst hx hb dX7_standOf_15 ?_
    refine lv_goto (tgt := 35) hx hb dX7_standOf_16 (by decide) ?_
    refine z_top (show 0 = vo (kM F A S) a b.toNat from ?_) ?_
    · rw [vo_kM hV]; first | (rw [if_pos (by omega)]; done) | (rw [if_neg (by omega)]; first | (rw [if_pos (by assumption)]; done) | (rw [if_neg (by rw [show wnF F S (ov (kM F A S) a) b = false by assumption]; exact Bool.false_ne_true)]))
    exact W.iret (v := iZ (vo (kM F A S) a b.toNat)) hx hb hr (fun t9 ht9 _ => ⟨rfl, ht9⟩) (fun q h => absurd h List.not_mem_nil) dX7_standOf_35

set_option maxHeartbeats 4000000 in
set_option maxRecDepth 100000 in
theorem c_X7_balance (l : Launch) (G : va_G) (Y : Nat → ClassId) (g9 : Nat) (af : Nat → Nat) (F : Nat → Int) (A : Kom) (tr : Int64) (sa q0 n9 : Nat) (S : Nat → Int) (hq : (moW Y g9 af F A tr)[q0]? = some (sa, .inl (Y 0, n9, .inl (aI S)))) (hn : 36 ≤ n9 ∧ n9 < 2147483648) (hV : mV F A S) (b : Int) (z : Nat) (r : (0 ≤ b ∧ b ≤ 2) ∧ z < 2147483648) : Met l yX7_balance wsX7_balance ({ frames := 4, cells := 0, slots := 0, locals := 98 }) (rP G Y [.ref g9, .ref sa, .int (iZ b), .int (iZ ((z : Nat) : Int))] (moW Y g9 af F A tr)) (rQ (.int (iZ (blN (kM F A S) b.toNat z (F 15).toNat)))) 0 0 (fun _ => False) := by
  refine Met.ofW (cc := cX7_balance) (maxL := 6) (ret := (some .int)) (by decide) rfl ?_
  intro p e s m args below meth c s₁ B hml hv
  obtain ⟨rfl, hK, hP⟩ := hv
  have hx := B.exec
  have hb := B.bytes
  have hr := B.returns
  have hts := atoms_spec (ws := wsX7_balance) B.pre
  have hown : s.vm.findClass RX7 = some m.cls := findClass_of_methodNamed B.named
  have hlocks := B.notSynchronized
  have hFX7 : ∀ w ∈ wsX70, w ∈ wsX7_balance := by decide +kernel
  have kf55 := (hts (.fieldLink RX7 55 "ShadeVotesModel" "people" "I") (by decide +kernel))
  have kf26 := (hts (.fieldLink RX7 26 "ShadeVotesModel" "weight" "[I") (by decide +kernel))
  have hl := lv_entry ([.ref g9, .ref sa, .int (iZ b), .int (iZ ((z : Nat) : Int))]) (n := 6) (Nat.le_of_ble_eq_true rfl)
  rw [lg_entry_eq]
  generalize (lg_sl ([.ref g9, .ref sa, .int (iZ b), .int (iZ ((z : Nat) : Int))]) ++ List.replicate (6 - (lg_sl ([.ref g9, .ref sa, .int (iZ b), .int (iZ ((z : Nat) : Int))])).length) Slot.unset).toArray = ls at hl ⊢
  replace hl : lv_has ls 6 [(0, .ref g9), (1, .ref sa), (2, .int (iZ b)), (3, .int (iZ ((z : Nat) : Int)))] := hl
  have v3 := hV.2.2.1
  have v7 := hV.2.2.2.2.2.2.1
  have v8 := hV.2.2.2.2.2.2.2.1
  have v5 := hV.2.1
  have v4 := hV.2.2.2.1
  refine z_iconst hx hb dX7_balance_0 ?_
  refine lv_istore (lv' := [(4, .int (iZ 0)), (0, .ref g9), (1, .ref sa), (2, .int (iZ b)), (3, .int (iZ ((z : Nat) : Int)))]) hx hb dX7_balance_1 hl (by decide) rfl (fun ls hl => ?_)
  refine z_iconst hx hb dX7_balance_3 ?_
  refine lv_istore (lv' := [(5, .int (iZ 0)), (4, .int (iZ 0)), (0, .ref g9), (1, .ref sa), (2, .int (iZ b)), (3, .int (iZ ((z : Nat) : Int)))]) hx hb dX7_balance_4 hl (by decide) rfl (fun ls hl => ?_)
  obtain ⟨i, q, hI, hl1⟩ : ∃ (i : Nat) (q : Int), (q = blN (kM F A S) b.toNat z i ∧ (i : Int) ≤ F 15) ∧ lv_has ls 6 [(5, .int (iZ ((i : Nat) : Int))), (4, .int (iZ q)), (0, .ref g9), (1, .ref sa), (2, .int (iZ b)), (3, .int (iZ ((z : Nat) : Int)))] := ⟨0, 0, by exact ⟨rfl, by omega⟩, lv_sub hl [0, 1, 2, 3, 4, 5] rfl⟩
  clear hl
  have hl := hl1
  clear hl1
  obtain ⟨n_, hn_⟩ : ∃ n_ : Nat, (F 15).toNat - i < n_ := ⟨_, Nat.lt_succ_self _⟩
  induction n_ generalizing i q ls with
  | zero => exact absurd hn_ (Nat.not_lt_zero _)
  | succ n_ ih1 =>
    have hpp := hV.2.2.2.2.2.1 i
    have hpq := hV.2.2.2.2.2.2.2.2.1 i
    have hm6 := kM_6 (F := F) (A := A) (S := S) i
    have hm7 := kM_7 (F := F) (A := A) (S := S) i
    refine lv_iload hx hb dX7_balance_6 (lv_at hl 0 rfl) ?_
    refine lv_aload_n hx hb dX7_balance_8 rfl (lv_at hl 2 rfl) ?_
    refine va_get (D := G) (ci := 7) (v := .int (iZ (F 15))) (C := RX7) (T := TX7) (N := 29) hx hb hts hFX7 hown hK.1 hP 0 rfl rfl 15 (by decide) kf55 (fun _ h9 => h9) rfl dX7_balance_9 ?_
    refine z_icmp_ge (tgt := 60) hx hb dX7_balance_12 (by decide) (by omega) (fun c_2 => ?_) (fun c_2 => ?_)
    · skip
      refine lv_iload hx hb dX7_balance_60 (lv_at hl 1 rfl) ?_
      refine z_top (show q = blN (kM F A S) b.toNat z (F 15).toNat from ?_) ?_
      · rw [hI.1, show (F 15).toNat = i by omega]
      exact W.iret (v := iZ (blN (kM F A S) b.toNat z (F 15).toNat)) hx hb hr (fun t9 ht9 _ => ⟨rfl, ht9⟩) (fun q h => absurd h List.not_mem_nil) dX7_balance_62
    · skip
      refine lv_iload hx hb dX7_balance_15 (lv_at hl 1 rfl) ?_
      refine lv_iload_n hx hb dX7_balance_17 rfl (lv_at hl 5 rfl) ?_
      refine lv_iload hx hb dX7_balance_18 (lv_at hl 0 rfl) ?_
      refine ro_S (As := [.int (iZ ((z : Nat) : Int)), .int (iZ ((i : Nat) : Int))]) (rest := [.int (iZ q)]) ⟨hx, hb, hml, hown, hts⟩ (c_X7_has l G Y z ((i : Nat) : Int) (by omega)) (cwS 2 hts gX7_balance_X7_has rfl rfl rfl (by decide +kernel) ⟨Nat.le_of_ble_eq_true rfl, Nat.le_of_ble_eq_true rfl⟩) hK (hP.sub (ws' := []) [] rfl) rfl hl.1 rfl (Nat.le_of_ble_eq_true rfl) dX7_balance_20 ⟨Nat.zero_le _, Nat.zero_le _⟩ ?_
      refine z_ifb_eq (tgt := 50) hx hb dX7_balance_23 (by decide) (fun c_3 => ?_) (fun c_3 => ?_)
      · skip
        refine z_iconst hx hb dX7_balance_50 ?_
        refine z_iadd hx hb dX7_balance_51 ?_
        refine lv_istore (lv' := [(4, .int (iZ (q + 0))), (5, .int (iZ ((i : Nat) : Int))), (0, .ref g9), (1, .ref sa), (2, .int (iZ b)), (3, .int (iZ ((z : Nat) : Int)))]) hx hb dX7_balance_52 hl (by decide) rfl (fun ls hl => ?_)
        refine lv_iinc (v := iZ ((i + 1 : Nat) : Int)) (lv' := [(5, .int (iZ ((i + 1 : Nat) : Int))), (4, .int (iZ (q + 0))), (0, .ref g9), (1, .ref sa), (2, .int (iZ b)), (3, .int (iZ ((z : Nat) : Int)))]) hx hb dX7_balance_54 hl (k := 1) rfl (iZ_inc _) (by decide) rfl (fun ls hl => ?_)
        refine lv_goto (tgt := 6) hx hb dX7_balance_57 (by decide) ?_
        exact ih1 (ls := ls) (i := i + 1) (q := (q + 0)) (hI := by refine ⟨?_, by omega⟩; rw [blN, hI.1, hm6, hm7]; first | (rw [if_pos (by assumption)]; done) | (rw [if_neg (by rw [show z.testBit i = false by assumption]; exact Bool.false_ne_true)])) (hl := lv_sub hl [0, 1, 2, 3, 4, 5] rfl) (hn_ := by omega)
      · skip
        refine lv_aload_n hx hb dX7_balance_26 rfl (lv_at hl 2 rfl) ?_
        refine va_get (D := G) (ci := 7) (v := .ref (af 16)) (C := RX7) (T := TX7) (N := 29) hx hb hts hFX7 hown hK.1 hP 0 rfl rfl 16 (by decide) kf26 (fun _ h9 => h9) rfl dX7_balance_27 ?_
        refine lv_iload hx hb dX7_balance_30 (lv_at hl 0 rfl) ?_
        refine z_iald hx hb hK.1 hP 4 0 rfl rfl i (by omega) (by decide) dX7_balance_32 ?_
        refine lv_aload_n hx hb dX7_balance_33 rfl (lv_at hl 2 rfl) ?_
        refine lv_aload_n hx hb dX7_balance_34 rfl (lv_at hl 3 rfl) ?_
        refine lv_aload_n hx hb dX7_balance_35 rfl (lv_at hl 3 rfl) ?_
        refine z_bipush hx hb dX7_balance_36 (by decide) ?_
        refine lv_iload hx hb dX7_balance_38 (lv_at hl 0 rfl) ?_
        refine z_iadd hx hb dX7_balance_40 ?_
        refine z_iald hx hb hK.1 hP q0 0 hq rfl (29 + i) (by omega) hn.2 dX7_balance_41 ?_
        have hp1 := hpp (by omega)
        have hp2 := hpq (by omega)
        refine lv_iload_n hx hb dX7_balance_42 rfl (lv_at hl 4 rfl) ?_
        refine ro_V (As := [.ref sa, .int (iZ (S (29 + i))), .int (iZ b)]) (rest := [.int (iZ ((A 16) i)), .int (iZ q)]) ⟨hx, hb, hml, hown, hts⟩ (c_X7_standOf l G Y g9 af F A tr sa q0 n9 S hq hn hV (S (29 + i)) b (by omega)) (cwV 3 hts gX7_balance_X7_standOf rfl rfl rfl (by decide +kernel) ⟨Nat.le_of_ble_eq_true rfl, Nat.le_of_ble_eq_true rfl⟩) hK hP 0 rfl rfl rfl hl.1 rfl (Nat.le_of_ble_eq_true rfl) dX7_balance_43 ⟨Nat.zero_le _, Nat.zero_le _⟩ ?_
        have hb_4 := vo_in (kM F A S) (S (29 + i)) (b).toNat
        refine z_imul hx hb dX7_balance_46 ?_
        refine lv_goto (tgt := 51) hx hb dX7_balance_47 (by decide) ?_
        refine z_iadd hx hb dX7_balance_51 ?_
        refine lv_istore (lv' := [(4, .int (iZ (q + ((A 16) i * vo (kM F A S) (S (29 + i)) (b).toNat)))), (5, .int (iZ ((i : Nat) : Int))), (0, .ref g9), (1, .ref sa), (2, .int (iZ b)), (3, .int (iZ ((z : Nat) : Int)))]) hx hb dX7_balance_52 hl (by decide) rfl (fun ls hl => ?_)
        refine lv_iinc (v := iZ ((i + 1 : Nat) : Int)) (lv' := [(5, .int (iZ ((i + 1 : Nat) : Int))), (4, .int (iZ (q + ((A 16) i * vo (kM F A S) (S (29 + i)) (b).toNat)))), (0, .ref g9), (1, .ref sa), (2, .int (iZ b)), (3, .int (iZ ((z : Nat) : Int)))]) hx hb dX7_balance_54 hl (k := 1) rfl (iZ_inc _) (by decide) rfl (fun ls hl => ?_)
        refine lv_goto (tgt := 6) hx hb dX7_balance_57 (by decide) ?_
        exact ih1 (ls := ls) (i := i + 1) (q := (q + ((A 16) i * vo (kM F A S) (S (29 + i)) (b).toNat))) (hI := by refine ⟨?_, by omega⟩; rw [blN, hI.1, hm6, hm7]; first | (rw [if_pos (by assumption)]; done) | (rw [if_neg (by rw [show z.testBit i = false by assumption]; exact Bool.false_ne_true)])) (hl := lv_sub hl [0, 1, 2, 3, 4, 5] rfl) (hn_ := by omega)

set_option maxHeartbeats 4000000 in
set_option maxRecDepth 100000 in
theorem c_X7_forOf (l : Launch) (G : va_G) (Y : Nat → ClassId) (g9 : Nat) (af : Nat → Nat) (F : Nat → Int) (A : Kom) (tr : Int64) (sa q0 n9 : Nat) (S : Nat → Int) (hq : (moW Y g9 af F A tr)[q0]? = some (sa, .inl (Y 0, n9, .inl (aI S)))) (hn : 36 ≤ n9 ∧ n9 < 2147483648) (hV : mV F A S) (b : Int) (r : 0 ≤ b ∧ b ≤ 2) : Met l yX7_forOf wsX7_forOf ({ frames := 4, cells := 0, slots := 0, locals := 98 }) (rP G Y [.ref g9, .ref sa, .int (iZ b)] (moW Y g9 af F A tr)) (rQ (.int (iZ (wb (kM F A S) b.toNat 1)))) 0 0 (fun _ => False) := by
  refine Met.ofW (cc := cX7_forOf) (maxL := 5) (ret := (some .int)) (by decide) rfl ?_
  intro p e s m args below meth c s₁ B hml hv
  obtain ⟨rfl, hK, hP⟩ := hv
  have hx := B.exec
  have hb := B.bytes
  have hr := B.returns
  have hts := atoms_spec (ws := wsX7_forOf) B.pre
  have hown : s.vm.findClass RX7 = some m.cls := findClass_of_methodNamed B.named
  have hlocks := B.notSynchronized
  have hFX7 : ∀ w ∈ wsX70, w ∈ wsX7_forOf := by decide +kernel
  have kf55 := (hts (.fieldLink RX7 55 "ShadeVotesModel" "people" "I") (by decide +kernel))
  have kf26 := (hts (.fieldLink RX7 26 "ShadeVotesModel" "weight" "[I") (by decide +kernel))
  have hl := lv_entry ([.ref g9, .ref sa, .int (iZ b)]) (n := 5) (Nat.le_of_ble_eq_true rfl)
  rw [lg_entry_eq]
  generalize (lg_sl ([.ref g9, .ref sa, .int (iZ b)]) ++ List.replicate (5 - (lg_sl ([.ref g9, .ref sa, .int (iZ b)])).length) Slot.unset).toArray = ls at hl ⊢
  replace hl : lv_has ls 5 [(0, .ref g9), (1, .ref sa), (2, .int (iZ b))] := hl
  have v3 := hV.2.2.1
  have v7 := hV.2.2.2.2.2.2.1
  have v8 := hV.2.2.2.2.2.2.2.1
  have v5 := hV.2.1
  have v4 := hV.2.2.2.1
  refine z_iconst hx hb dX7_forOf_0 ?_
  refine lv_istore_n (lv' := [(3, .int (iZ 0)), (0, .ref g9), (1, .ref sa), (2, .int (iZ b))]) hx hb dX7_forOf_1 rfl hl (by decide) rfl (fun ls hl => ?_)
  refine z_iconst hx hb dX7_forOf_2 ?_
  refine lv_istore (lv' := [(4, .int (iZ 0)), (3, .int (iZ 0)), (0, .ref g9), (1, .ref sa), (2, .int (iZ b))]) hx hb dX7_forOf_3 hl (by decide) rfl (fun ls hl => ?_)
  obtain ⟨i, q, hI, hl1⟩ : ∃ (i : Nat) (q : Int), (q = wbN (kM F A S) b.toNat 1 i ∧ (i : Int) ≤ F 15) ∧ lv_has ls 5 [(4, .int (iZ ((i : Nat) : Int))), (3, .int (iZ q)), (0, .ref g9), (1, .ref sa), (2, .int (iZ b))] := ⟨0, 0, by exact ⟨rfl, by omega⟩, lv_sub hl [0, 1, 2, 3, 4] rfl⟩
  clear hl
  have hl := hl1
  clear hl1
  obtain ⟨n_, hn_⟩ : ∃ n_ : Nat, (F 15).toNat - i < n_ := ⟨_, Nat.lt_succ_self _⟩
  induction n_ generalizing i q ls with
  | zero => exact absurd hn_ (Nat.not_lt_zero _)
  | succ n_ ih1 =>
    have hpp := hV.2.2.2.2.2.1 i
    have hpq := hV.2.2.2.2.2.2.2.2.1 i
    have hm6 := kM_6 (F := F) (A := A) (S := S) i
    have hm7 := kM_7 (F := F) (A := A) (S := S) i
    refine lv_iload hx hb dX7_forOf_5 (lv_at hl 0 rfl) ?_
    refine lv_aload_n hx hb dX7_forOf_7 rfl (lv_at hl 2 rfl) ?_
    refine va_get (D := G) (ci := 7) (v := .int (iZ (F 15))) (C := RX7) (T := TX7) (N := 29) hx hb hts hFX7 hown hK.1 hP 0 rfl rfl 15 (by decide) kf55 (fun _ h9 => h9) rfl dX7_forOf_8 ?_
    refine z_icmp_ge (tgt := 50) hx hb dX7_forOf_11 (by decide) (by omega) (fun c_2 => ?_) (fun c_2 => ?_)
    · skip
      refine lv_iload_n hx hb dX7_forOf_50 rfl (lv_at hl 1 rfl) ?_
      refine z_top (show q = wb (kM F A S) b.toNat 1 from ?_) ?_
      · unfold wb; rw [kM_03, hI.1, show (F 15).toNat = i by omega]
      exact W.iret (v := iZ (wb (kM F A S) b.toNat 1)) hx hb hr (fun t9 ht9 _ => ⟨rfl, ht9⟩) (fun q h => absurd h List.not_mem_nil) dX7_forOf_51
    · skip
      refine lv_iload_n hx hb dX7_forOf_14 rfl (lv_at hl 1 rfl) ?_
      refine lv_aload_n hx hb dX7_forOf_15 rfl (lv_at hl 2 rfl) ?_
      refine lv_aload_n hx hb dX7_forOf_16 rfl (lv_at hl 3 rfl) ?_
      refine lv_aload_n hx hb dX7_forOf_17 rfl (lv_at hl 3 rfl) ?_
      refine z_bipush hx hb dX7_forOf_18 (by decide) ?_
      refine lv_iload hx hb dX7_forOf_20 (lv_at hl 0 rfl) ?_
      refine z_iadd hx hb dX7_forOf_22 ?_
      refine z_iald hx hb hK.1 hP q0 0 hq rfl (29 + i) (by omega) hn.2 dX7_forOf_23 ?_
      have hp1 := hpp (by omega)
      have hp2 := hpq (by omega)
      refine lv_iload_n hx hb dX7_forOf_24 rfl (lv_at hl 4 rfl) ?_
      refine ro_V (As := [.ref sa, .int (iZ (S (29 + i))), .int (iZ b)]) (rest := [.int (iZ q)]) ⟨hx, hb, hml, hown, hts⟩ (c_X7_standOf l G Y g9 af F A tr sa q0 n9 S hq hn hV (S (29 + i)) b (by omega)) (cwV 3 hts gX7_forOf_X7_standOf rfl rfl rfl (by decide +kernel) ⟨Nat.le_of_ble_eq_true rfl, Nat.le_of_ble_eq_true rfl⟩) hK hP 0 rfl rfl rfl hl.1 rfl (Nat.le_of_ble_eq_true rfl) dX7_forOf_25 ⟨Nat.zero_le _, Nat.zero_le _⟩ ?_
      have hb_3 := vo_in (kM F A S) (S (29 + i)) (b).toNat
      refine z_if_le (tgt := 41) hx hb dX7_forOf_28 (by decide) (by omega) (fun c_4 => ?_) (fun c_4 => ?_)
      · skip
        refine z_iconst hx hb dX7_forOf_41 ?_
        refine z_iadd hx hb dX7_forOf_42 ?_
        refine lv_istore_n (lv' := [(3, .int (iZ (q + 0))), (4, .int (iZ ((i : Nat) : Int))), (0, .ref g9), (1, .ref sa), (2, .int (iZ b))]) hx hb dX7_forOf_43 rfl hl (by decide) rfl (fun ls hl => ?_)
        refine lv_iinc (v := iZ ((i + 1 : Nat) : Int)) (lv' := [(4, .int (iZ ((i + 1 : Nat) : Int))), (3, .int (iZ (q + 0))), (0, .ref g9), (1, .ref sa), (2, .int (iZ b))]) hx hb dX7_forOf_44 hl (k := 1) rfl (iZ_inc _) (by decide) rfl (fun ls hl => ?_)
        refine lv_goto (tgt := 5) hx hb dX7_forOf_47 (by decide) ?_
        exact ih1 (ls := ls) (i := i + 1) (q := (q + 0)) (hI := by refine ⟨?_, by omega⟩; rw [wbN, hm6, hm7]; first | rw [if_pos (by omega), hI.1] | rw [if_neg (by omega), hI.1, Int.add_zero]) (hl := lv_sub hl [0, 1, 2, 3, 4] rfl) (hn_ := by omega)
      · skip
        refine lv_aload_n hx hb dX7_forOf_31 rfl (lv_at hl 2 rfl) ?_
        refine va_get (D := G) (ci := 7) (v := .ref (af 16)) (C := RX7) (T := TX7) (N := 29) hx hb hts hFX7 hown hK.1 hP 0 rfl rfl 16 (by decide) kf26 (fun _ h9 => h9) rfl dX7_forOf_32 ?_
        refine lv_iload hx hb dX7_forOf_35 (lv_at hl 0 rfl) ?_
        refine z_iald hx hb hK.1 hP 4 0 rfl rfl i (by omega) (by decide) dX7_forOf_37 ?_
        refine lv_goto (tgt := 42) hx hb dX7_forOf_38 (by decide) ?_
        refine z_iadd hx hb dX7_forOf_42 ?_
        refine lv_istore_n (lv' := [(3, .int (iZ (q + (A 16) i))), (4, .int (iZ ((i : Nat) : Int))), (0, .ref g9), (1, .ref sa), (2, .int (iZ b))]) hx hb dX7_forOf_43 rfl hl (by decide) rfl (fun ls hl => ?_)
        refine lv_iinc (v := iZ ((i + 1 : Nat) : Int)) (lv' := [(4, .int (iZ ((i + 1 : Nat) : Int))), (3, .int (iZ (q + (A 16) i))), (0, .ref g9), (1, .ref sa), (2, .int (iZ b))]) hx hb dX7_forOf_44 hl (k := 1) rfl (iZ_inc _) (by decide) rfl (fun ls hl => ?_)
        refine lv_goto (tgt := 5) hx hb dX7_forOf_47 (by decide) ?_
        exact ih1 (ls := ls) (i := i + 1) (q := (q + (A 16) i)) (hI := by refine ⟨?_, by omega⟩; rw [wbN, hm6, hm7]; first | rw [if_pos (by omega), hI.1] | rw [if_neg (by omega), hI.1, Int.add_zero]) (hl := lv_sub hl [0, 1, 2, 3, 4] rfl) (hn_ := by omega)

set_option maxHeartbeats 4000000 in
set_option maxRecDepth 100000 in
theorem c_X7_weightUnder (l : Launch) (G : va_G) (Y : Nat → ClassId) (g9 : Nat) (af : Nat → Nat) (F : Nat → Int) (A : Kom) (tr : Int64) (hV : mV F A (A 17)) (a : Int) (r : zR a) : Met l yX7_weightUnder wsX7_weightUnder ({ frames := 3, cells := 0, slots := 0, locals := 74 }) (rP G Y [.ref g9, .int (iZ a)] (moW Y g9 af F A tr)) (rQ (.int (iZ (wu (kM F A (A 17)) a)))) 0 0 (fun _ => False) := by
  refine Met.ofW (cc := cX7_weightUnder) (maxL := 4) (ret := (some .int)) (by decide) rfl ?_
  intro p e s m args below meth c s₁ B hml hv
  obtain ⟨rfl, hK, hP⟩ := hv
  have hx := B.exec
  have hb := B.bytes
  have hr := B.returns
  have hts := atoms_spec (ws := wsX7_weightUnder) B.pre
  have hown : s.vm.findClass RX7 = some m.cls := findClass_of_methodNamed B.named
  have hlocks := B.notSynchronized
  have hFX7 : ∀ w ∈ wsX70, w ∈ wsX7_weightUnder := by decide +kernel
  have kf55 := (hts (.fieldLink RX7 55 "ShadeVotesModel" "people" "I") (by decide +kernel))
  have kf29 := (hts (.fieldLink RX7 29 "ShadeVotesModel" "now" "[I") (by decide +kernel))
  have kf26 := (hts (.fieldLink RX7 26 "ShadeVotesModel" "weight" "[I") (by decide +kernel))
  have hl := lv_entry ([.ref g9, .int (iZ a)]) (n := 4) (Nat.le_of_ble_eq_true rfl)
  rw [lg_entry_eq]
  generalize (lg_sl ([.ref g9, .int (iZ a)]) ++ List.replicate (4 - (lg_sl ([.ref g9, .int (iZ a)])).length) Slot.unset).toArray = ls at hl ⊢
  replace hl : lv_has ls 4 [(0, .ref g9), (1, .int (iZ a))] := hl
  have v3 := hV.2.2.1
  have v7 := hV.2.2.2.2.2.2.1
  have v8 := hV.2.2.2.2.2.2.2.1
  have v5 := hV.2.1
  have v4 := hV.2.2.2.1
  refine z_iconst hx hb dX7_weightUnder_0 ?_
  refine lv_istore_n (lv' := [(2, .int (iZ 0)), (0, .ref g9), (1, .int (iZ a))]) hx hb dX7_weightUnder_1 rfl hl (by decide) rfl (fun ls hl => ?_)
  refine z_iconst hx hb dX7_weightUnder_2 ?_
  refine lv_istore_n (lv' := [(3, .int (iZ 0)), (2, .int (iZ 0)), (0, .ref g9), (1, .int (iZ a))]) hx hb dX7_weightUnder_3 rfl hl (by decide) rfl (fun ls hl => ?_)
  obtain ⟨i, q, hI, hl1⟩ : ∃ (i : Nat) (q : Int), (q = wuN (kM F A (A 17)) a i ∧ (i : Int) ≤ F 15) ∧ lv_has ls 4 [(3, .int (iZ ((i : Nat) : Int))), (2, .int (iZ q)), (0, .ref g9), (1, .int (iZ a))] := ⟨0, 0, by exact ⟨rfl, by omega⟩, lv_sub hl [0, 1, 2, 3] rfl⟩
  clear hl
  have hl := hl1
  clear hl1
  obtain ⟨n_, hn_⟩ : ∃ n_ : Nat, (F 15).toNat - i < n_ := ⟨_, Nat.lt_succ_self _⟩
  induction n_ generalizing i q ls with
  | zero => exact absurd hn_ (Nat.not_lt_zero _)
  | succ n_ ih1 =>
    have hpp := hV.2.2.2.2.2.1 i
    have hpq := hV.2.2.2.2.2.2.2.2.1 i
    have hm6 := kM_6 (F := F) (A := A) (S := A 17) i
    have hm7 := kM_7 (F := F) (A := A) (S := A 17) i
    refine lv_iload_n hx hb dX7_weightUnder_4 rfl (lv_at hl 0 rfl) ?_
    refine lv_aload_n hx hb dX7_weightUnder_5 rfl (lv_at hl 2 rfl) ?_
    refine va_get (D := G) (ci := 7) (v := .int (iZ (F 15))) (C := RX7) (T := TX7) (N := 29) hx hb hts hFX7 hown hK.1 hP 0 rfl rfl 15 (by decide) kf55 (fun _ h9 => h9) rfl dX7_weightUnder_6 ?_
    refine z_icmp_ge (tgt := 52) hx hb dX7_weightUnder_9 (by decide) (by omega) (fun c_2 => ?_) (fun c_2 => ?_)
    · skip
      refine lv_iload_n hx hb dX7_weightUnder_52 rfl (lv_at hl 1 rfl) ?_
      refine z_top (show q = wu (kM F A (A 17)) a from ?_) ?_
      · unfold wu; rw [kM_03, hI.1, show (F 15).toNat = i by omega]
      exact W.iret (v := iZ (wu (kM F A (A 17)) a)) hx hb hr (fun t9 ht9 _ => ⟨rfl, ht9⟩) (fun q h => absurd h List.not_mem_nil) dX7_weightUnder_53
    · skip
      refine lv_iload_n hx hb dX7_weightUnder_12 rfl (lv_at hl 1 rfl) ?_
      refine lv_aload_n hx hb dX7_weightUnder_13 rfl (lv_at hl 2 rfl) ?_
      refine lv_aload_n hx hb dX7_weightUnder_14 rfl (lv_at hl 2 rfl) ?_
      refine va_get (D := G) (ci := 7) (v := .ref (af 17)) (C := RX7) (T := TX7) (N := 29) hx hb hts hFX7 hown hK.1 hP 0 rfl rfl 17 (by decide) kf29 (fun _ h9 => h9) rfl dX7_weightUnder_15 ?_
      refine lv_aload_n hx hb dX7_weightUnder_18 rfl (lv_at hl 2 rfl) ?_
      refine va_get (D := G) (ci := 7) (v := .ref (af 17)) (C := RX7) (T := TX7) (N := 29) hx hb hts hFX7 hown hK.1 hP 0 rfl rfl 17 (by decide) kf29 (fun _ h9 => h9) rfl dX7_weightUnder_19 ?_
      refine z_bipush hx hb dX7_weightUnder_22 (by decide) ?_
      refine lv_iload_n hx hb dX7_weightUnder_24 rfl (lv_at hl 0 rfl) ?_
      refine z_iadd hx hb dX7_weightUnder_25 ?_
      refine z_iald hx hb hK.1 hP 5 0 rfl rfl (29 + i) (by omega) (by decide) dX7_weightUnder_26 ?_
      have hp1 := hpp (by omega)
      have hp2 := hpq (by omega)
      refine ro_V (As := [.ref (af 17), .int (iZ ((A 17) (29 + i)))]) (rest := [.int (iZ q)]) ⟨hx, hb, hml, hown, hts⟩ (c_X7_under l G Y g9 af F A tr (af 17) 5 36 (A 17) rfl (by decide) hV ((A 17) (29 + i)) (by omega)) (cwV 2 hts gX7_weightUnder_X7_under rfl rfl rfl (by decide +kernel) ⟨Nat.le_of_ble_eq_true rfl, Nat.le_of_ble_eq_true rfl⟩) hK hP 0 rfl rfl rfl hl.1 rfl (Nat.le_of_ble_eq_true rfl) dX7_weightUnder_27 ⟨Nat.zero_le _, Nat.zero_le _⟩ ?_
      have hb_3 := ov_kM hV ((A 17) (29 + i))
      refine lv_iload_n hx hb dX7_weightUnder_30 rfl (lv_at hl 3 rfl) ?_
      refine z_icmp_ne (tgt := 43) hx hb dX7_weightUnder_31 (by decide) (by omega) (fun c_4 => ?_) (fun c_4 => ?_)
      · skip
        refine z_iconst hx hb dX7_weightUnder_43 ?_
        refine z_iadd hx hb dX7_weightUnder_44 ?_
        refine lv_istore_n (lv' := [(2, .int (iZ (q + 0))), (3, .int (iZ ((i : Nat) : Int))), (0, .ref g9), (1, .int (iZ a))]) hx hb dX7_weightUnder_45 rfl hl (by decide) rfl (fun ls hl => ?_)
        refine lv_iinc (v := iZ ((i + 1 : Nat) : Int)) (lv' := [(3, .int (iZ ((i + 1 : Nat) : Int))), (2, .int (iZ (q + 0))), (0, .ref g9), (1, .int (iZ a))]) hx hb dX7_weightUnder_46 hl (k := 1) rfl (iZ_inc _) (by decide) rfl (fun ls hl => ?_)
        refine lv_goto (tgt := 4) hx hb dX7_weightUnder_49 (by decide) ?_
        exact ih1 (ls := ls) (i := i + 1) (q := (q + 0)) (hI := by refine ⟨?_, by omega⟩; rw [wuN, hm6, hm7]; first | rw [if_pos (by omega), hI.1] | rw [if_neg (by omega), hI.1, Int.add_zero]) (hl := lv_sub hl [0, 1, 2, 3] rfl) (hn_ := by omega)
      · skip
        refine lv_aload_n hx hb dX7_weightUnder_34 rfl (lv_at hl 2 rfl) ?_
        refine va_get (D := G) (ci := 7) (v := .ref (af 16)) (C := RX7) (T := TX7) (N := 29) hx hb hts hFX7 hown hK.1 hP 0 rfl rfl 16 (by decide) kf26 (fun _ h9 => h9) rfl dX7_weightUnder_35 ?_
        refine lv_iload_n hx hb dX7_weightUnder_38 rfl (lv_at hl 0 rfl) ?_
        refine z_iald hx hb hK.1 hP 4 0 rfl rfl i (by omega) (by decide) dX7_weightUnder_39 ?_
        refine lv_goto (tgt := 44) hx hb dX7_weightUnder_40 (by decide) ?_
        refine z_iadd hx hb dX7_weightUnder_44 ?_
        refine lv_istore_n (lv' := [(2, .int (iZ (q + (A 16) i))), (3, .int (iZ ((i : Nat) : Int))), (0, .ref g9), (1, .int (iZ a))]) hx hb dX7_weightUnder_45 rfl hl (by decide) rfl (fun ls hl => ?_)
        refine lv_iinc (v := iZ ((i + 1 : Nat) : Int)) (lv' := [(3, .int (iZ ((i + 1 : Nat) : Int))), (2, .int (iZ (q + (A 16) i))), (0, .ref g9), (1, .int (iZ a))]) hx hb dX7_weightUnder_46 hl (k := 1) rfl (iZ_inc _) (by decide) rfl (fun ls hl => ?_)
        refine lv_goto (tgt := 4) hx hb dX7_weightUnder_49 (by decide) ?_
        exact ih1 (ls := ls) (i := i + 1) (q := (q + (A 16) i)) (hI := by refine ⟨?_, by omega⟩; rw [wuN, hm6, hm7]; first | rw [if_pos (by omega), hI.1] | rw [if_neg (by omega), hI.1, Int.add_zero]) (hl := lv_sub hl [0, 1, 2, 3] rfl) (hn_ := by omega)

set_option maxHeartbeats 4000000 in
set_option maxRecDepth 100000 in
theorem c_X7_isTaken (l : Launch) (G : va_G) (Y : Nat → ClassId) (g9 : Nat) (af : Nat → Nat) (F : Nat → Int) (A : Kom) (tr : Int64) (hV : mV F A (A 17)) (a : Int) (r : zR a) : Met l yX7_isTaken wsX7_isTaken ({ frames := 0, cells := 0, slots := 0, locals := 0 }) (rP G Y [.ref g9, .int (iZ a)] (moW Y g9 af F A tr)) (rQ (.int (iZ (bZ (htA (kF F A (A 17)) a ((A 17) 3).toNat))))) 0 0 (fun _ => False) := by
  refine Met.ofW (cc := cX7_isTaken) (maxL := 4) (ret := (some .boolean)) (by decide) rfl ?_
  intro p e s m args below meth c s₁ B hml hv
  obtain ⟨rfl, hK, hP⟩ := hv
  have hx := B.exec
  have hb := B.bytes
  have hr := B.returns
  have hts := atoms_spec (ws := wsX7_isTaken) B.pre
  have hown : s.vm.findClass RX7 = some m.cls := findClass_of_methodNamed B.named
  have hlocks := B.notSynchronized
  have hFX7 : ∀ w ∈ wsX70, w ∈ wsX7_isTaken := by decide +kernel
  have kf29 := (hts (.fieldLink RX7 29 "ShadeVotesModel" "now" "[I") (by decide +kernel))
  have hl := lv_entry ([.ref g9, .int (iZ a)]) (n := 4) (Nat.le_of_ble_eq_true rfl)
  rw [lg_entry_eq]
  generalize (lg_sl ([.ref g9, .int (iZ a)]) ++ List.replicate (4 - (lg_sl ([.ref g9, .int (iZ a)])).length) Slot.unset).toArray = ls at hl ⊢
  replace hl : lv_has ls 4 [(0, .ref g9), (1, .int (iZ a))] := hl
  have v3 := hV.2.2.1
  have v7 := hV.2.2.2.2.2.2.1
  have v8 := hV.2.2.2.2.2.2.2.1
  have v5 := hV.2.1
  have v4 := hV.2.2.2.1
  refine z_iconst hx hb dX7_isTaken_0 ?_
  refine z_top (show 0 = bZ false from rfl) ?_
  refine lv_istore_n (lv' := [(2, .int (iZ (bZ false))), (0, .ref g9), (1, .int (iZ a))]) hx hb dX7_isTaken_1 rfl hl (by decide) rfl (fun ls hl => ?_)
  refine z_iconst hx hb dX7_isTaken_2 ?_
  refine lv_istore_n (lv' := [(3, .int (iZ 0)), (2, .int (iZ (bZ false))), (0, .ref g9), (1, .int (iZ a))]) hx hb dX7_isTaken_3 rfl hl (by decide) rfl (fun ls hl => ?_)
  obtain ⟨t, w9, hI, hl1⟩ : ∃ (t : Nat) (w9 : Bool), (w9 = htA (kF F A (A 17)) a t ∧ (t : Int) ≤ (A 17) 3) ∧ lv_has ls 4 [(3, .int (iZ ((t : Nat) : Int))), (2, .int (iZ (bZ w9))), (0, .ref g9), (1, .int (iZ a))] := ⟨0, false, by exact ⟨rfl, by omega⟩, lv_sub hl [0, 1, 2, 3] rfl⟩
  clear hl
  have hl := hl1
  clear hl1
  obtain ⟨n_, hn_⟩ : ∃ n_ : Nat, ((A 17) 3).toNat - t < n_ := ⟨_, Nat.lt_succ_self _⟩
  induction n_ generalizing t w9 ls with
  | zero => exact absurd hn_ (Nat.not_lt_zero _)
  | succ n_ ih1 =>
    have hb0 := hV.2.2.2.2.1 t
    refine lv_iload_n hx hb dX7_isTaken_4 rfl (lv_at hl 0 rfl) ?_
    refine lv_aload_n hx hb dX7_isTaken_5 rfl (lv_at hl 2 rfl) ?_
    refine va_get (D := G) (ci := 7) (v := .ref (af 17)) (C := RX7) (T := TX7) (N := 29) hx hb hts hFX7 hown hK.1 hP 0 rfl rfl 17 (by decide) kf29 (fun _ h9 => h9) rfl dX7_isTaken_6 ?_
    refine z_iconst hx hb dX7_isTaken_9 ?_
    refine z_iald hx hb hK.1 hP 5 0 rfl rfl 3 (by omega) (by decide) dX7_isTaken_10 ?_
    refine z_icmp_ge (tgt := 42) hx hb dX7_isTaken_11 (by decide) (by omega) (fun c_2 => ?_) (fun c_2 => ?_)
    · skip
      refine lv_iload_n hx hb dX7_isTaken_42 rfl (lv_at hl 1 rfl) ?_
      refine z_top (show bZ w9 = bZ (htA (kF F A (A 17)) a ((A 17) 3).toNat) from ?_) ?_
      · rw [hI.1, show ((A 17) 3).toNat = t by omega]
      exact W.zret (v := iZ (bZ (htA (kF F A (A 17)) a ((A 17) 3).toNat))) hx hb hr (b01_nar (bZ_in _)) (fun t9 ht9 _ => ⟨rfl, ht9⟩) (fun q h => absurd h List.not_mem_nil) dX7_isTaken_43
    · skip
      refine lv_iload_n hx hb dX7_isTaken_14 rfl (lv_at hl 1 rfl) ?_
      refine z_ifb_ne (tgt := 30) hx hb dX7_isTaken_15 (by decide) (fun c_3 => ?_) (fun c_3 => ?_)
      · skip
        refine z_iconst hx hb dX7_isTaken_30 ?_
        refine lv_goto (tgt := 35) hx hb dX7_isTaken_31 (by decide) ?_
        refine z_top (show 1 = bZ true from rfl) ?_
        refine lv_istore_n (lv' := [(2, .int (iZ (bZ true))), (3, .int (iZ ((t : Nat) : Int))), (0, .ref g9), (1, .int (iZ a))]) hx hb dX7_isTaken_35 rfl hl (by decide) rfl (fun ls hl => ?_)
        refine lv_iinc (v := iZ ((t + 1 : Nat) : Int)) (lv' := [(3, .int (iZ ((t + 1 : Nat) : Int))), (2, .int (iZ (bZ true))), (0, .ref g9), (1, .int (iZ a))]) hx hb dX7_isTaken_36 hl (k := 1) rfl (iZ_inc _) (by decide) rfl (fun ls hl => ?_)
        refine lv_goto (tgt := 4) hx hb dX7_isTaken_39 (by decide) ?_
        exact ih1 (ls := ls) (t := t + 1) (w9 := true) (hI := by refine ⟨?_, by omega⟩; rw [htA, ← hI.1]; first | (rw [show w9 = true by assumption]; rfl) | (rw [show w9 = false by assumption, Bool.false_or, kF_1 (t := t) (by omega)]; first | exact (decide_eq_true (by omega)).symm | exact (decide_eq_false (by omega)).symm)) (hl := lv_sub hl [0, 1, 2, 3] rfl) (hn_ := by omega)
      · skip
        refine lv_aload_n hx hb dX7_isTaken_18 rfl (lv_at hl 2 rfl) ?_
        refine va_get (D := G) (ci := 7) (v := .ref (af 17)) (C := RX7) (T := TX7) (N := 29) hx hb hts hFX7 hown hK.1 hP 0 rfl rfl 17 (by decide) kf29 (fun _ h9 => h9) rfl dX7_isTaken_19 ?_
        refine z_iconst hx hb dX7_isTaken_22 ?_
        refine lv_iload_n hx hb dX7_isTaken_23 rfl (lv_at hl 0 rfl) ?_
        refine z_iadd hx hb dX7_isTaken_24 ?_
        refine z_iald hx hb hK.1 hP 5 0 rfl rfl (4 + t) (by omega) (by decide) dX7_isTaken_25 ?_
        have hb1 := hb0 (by omega)
        refine lv_iload_n hx hb dX7_isTaken_26 rfl (lv_at hl 3 rfl) ?_
        refine z_icmp_ne (tgt := 34) hx hb dX7_isTaken_27 (by decide) (by omega) (fun c_4 => ?_) (fun c_4 => ?_)
        · skip
          refine z_iconst hx hb dX7_isTaken_34 ?_
          refine z_top (show 0 = bZ false from rfl) ?_
          refine lv_istore_n (lv' := [(2, .int (iZ (bZ false))), (3, .int (iZ ((t : Nat) : Int))), (0, .ref g9), (1, .int (iZ a))]) hx hb dX7_isTaken_35 rfl hl (by decide) rfl (fun ls hl => ?_)
          refine lv_iinc (v := iZ ((t + 1 : Nat) : Int)) (lv' := [(3, .int (iZ ((t + 1 : Nat) : Int))), (2, .int (iZ (bZ false))), (0, .ref g9), (1, .int (iZ a))]) hx hb dX7_isTaken_36 hl (k := 1) rfl (iZ_inc _) (by decide) rfl (fun ls hl => ?_)
          refine lv_goto (tgt := 4) hx hb dX7_isTaken_39 (by decide) ?_
          exact ih1 (ls := ls) (t := t + 1) (w9 := false) (hI := by refine ⟨?_, by omega⟩; rw [htA, ← hI.1]; first | (rw [show w9 = true by assumption]; rfl) | (rw [show w9 = false by assumption, Bool.false_or, kF_1 (t := t) (by omega)]; first | exact (decide_eq_true (by omega)).symm | exact (decide_eq_false (by omega)).symm)) (hl := lv_sub hl [0, 1, 2, 3] rfl) (hn_ := by omega)
        · skip
          refine z_iconst hx hb dX7_isTaken_30 ?_
          refine lv_goto (tgt := 35) hx hb dX7_isTaken_31 (by decide) ?_
          refine z_top (show 1 = bZ true from rfl) ?_
          refine lv_istore_n (lv' := [(2, .int (iZ (bZ true))), (3, .int (iZ ((t : Nat) : Int))), (0, .ref g9), (1, .int (iZ a))]) hx hb dX7_isTaken_35 rfl hl (by decide) rfl (fun ls hl => ?_)
          refine lv_iinc (v := iZ ((t + 1 : Nat) : Int)) (lv' := [(3, .int (iZ ((t + 1 : Nat) : Int))), (2, .int (iZ (bZ true))), (0, .ref g9), (1, .int (iZ a))]) hx hb dX7_isTaken_36 hl (k := 1) rfl (iZ_inc _) (by decide) rfl (fun ls hl => ?_)
          refine lv_goto (tgt := 4) hx hb dX7_isTaken_39 (by decide) ?_
          exact ih1 (ls := ls) (t := t + 1) (w9 := true) (hI := by refine ⟨?_, by omega⟩; rw [htA, ← hI.1]; first | (rw [show w9 = true by assumption]; rfl) | (rw [show w9 = false by assumption, Bool.false_or, kF_1 (t := t) (by omega)]; first | exact (decide_eq_true (by omega)).symm | exact (decide_eq_false (by omega)).symm)) (hl := lv_sub hl [0, 1, 2, 3] rfl) (hn_ := by omega)

set_option maxHeartbeats 4000000 in
set_option maxRecDepth 100000 in
theorem c_X7_darkOf (l : Launch) (G : va_G) (Y : Nat → ClassId) (g9 : Nat) (af : Nat → Nat) (F : Nat → Int) (A : Kom) (tr : Int64) (hV : mV F A (A 17)) (a : Int) (r : 0 ≤ a ∧ a < F 13 * F 14) : Met l yX7_darkOf wsX7_darkOf ({ frames := 2, cells := 0, slots := 0, locals := 49 }) (rP G Y [.ref g9, .int (iZ a)] (moW Y g9 af F A tr)) (rQ (.int (iZ (sdN (kF F A (A 17)) a ((A 17) 3).toNat)))) 0 0 (fun _ => False) := by
  refine Met.ofW (cc := cX7_darkOf) (maxL := 4) (ret := (some .int)) (by decide) rfl ?_
  intro p e s m args below meth c s₁ B hml hv
  obtain ⟨rfl, hK, hP⟩ := hv
  have hx := B.exec
  have hb := B.bytes
  have hr := B.returns
  have hts := atoms_spec (ws := wsX7_darkOf) B.pre
  have hown : s.vm.findClass RX7 = some m.cls := findClass_of_methodNamed B.named
  have hlocks := B.notSynchronized
  have hFX7 : ∀ w ∈ wsX70, w ∈ wsX7_darkOf := by decide +kernel
  have kf29 := (hts (.fieldLink RX7 29 "ShadeVotesModel" "now" "[I") (by decide +kernel))
  have hl := lv_entry ([.ref g9, .int (iZ a)]) (n := 4) (Nat.le_of_ble_eq_true rfl)
  rw [lg_entry_eq]
  generalize (lg_sl ([.ref g9, .int (iZ a)]) ++ List.replicate (4 - (lg_sl ([.ref g9, .int (iZ a)])).length) Slot.unset).toArray = ls at hl ⊢
  replace hl : lv_has ls 4 [(0, .ref g9), (1, .int (iZ a))] := hl
  have v3 := hV.2.2.1
  have v7 := hV.2.2.2.2.2.2.1
  have v8 := hV.2.2.2.2.2.2.2.1
  have v5 := hV.2.1
  have v4 := hV.2.2.2.1
  refine z_iconst hx hb dX7_darkOf_0 ?_
  refine lv_istore_n (lv' := [(2, .int (iZ 0)), (0, .ref g9), (1, .int (iZ a))]) hx hb dX7_darkOf_1 rfl hl (by decide) rfl (fun ls hl => ?_)
  refine z_iconst hx hb dX7_darkOf_2 ?_
  refine lv_istore_n (lv' := [(3, .int (iZ 0)), (2, .int (iZ 0)), (0, .ref g9), (1, .int (iZ a))]) hx hb dX7_darkOf_3 rfl hl (by decide) rfl (fun ls hl => ?_)
  obtain ⟨t, q, hI, hl1⟩ : ∃ (t : Nat) (q : Int), (q = sdN (kF F A (A 17)) a t ∧ (t : Int) ≤ (A 17) 3) ∧ lv_has ls 4 [(3, .int (iZ ((t : Nat) : Int))), (2, .int (iZ q)), (0, .ref g9), (1, .int (iZ a))] := ⟨0, 0, by exact ⟨rfl, by omega⟩, lv_sub hl [0, 1, 2, 3] rfl⟩
  clear hl
  have hl := hl1
  clear hl1
  obtain ⟨n_, hn_⟩ : ∃ n_ : Nat, ((A 17) 3).toNat - t < n_ := ⟨_, Nat.lt_succ_self _⟩
  induction n_ generalizing t q ls with
  | zero => exact absurd hn_ (Nat.not_lt_zero _)
  | succ n_ ih1 =>
    refine lv_iload_n hx hb dX7_darkOf_4 rfl (lv_at hl 0 rfl) ?_
    refine lv_aload_n hx hb dX7_darkOf_5 rfl (lv_at hl 2 rfl) ?_
    refine va_get (D := G) (ci := 7) (v := .ref (af 17)) (C := RX7) (T := TX7) (N := 29) hx hb hts hFX7 hown hK.1 hP 0 rfl rfl 17 (by decide) kf29 (fun _ h9 => h9) rfl dX7_darkOf_6 ?_
    refine z_iconst hx hb dX7_darkOf_9 ?_
    refine z_iald hx hb hK.1 hP 5 0 rfl rfl 3 (by omega) (by decide) dX7_darkOf_10 ?_
    refine z_icmp_ge (tgt := 36) hx hb dX7_darkOf_11 (by decide) (by omega) (fun c_2 => ?_) (fun c_2 => ?_)
    · skip
      refine lv_iload_n hx hb dX7_darkOf_36 rfl (lv_at hl 1 rfl) ?_
      refine z_top (show q = sdN (kF F A (A 17)) a ((A 17) 3).toNat from ?_) ?_
      · rw [hI.1, show ((A 17) 3).toNat = t by omega]
      exact W.iret (v := iZ (sdN (kF F A (A 17)) a ((A 17) 3).toNat)) hx hb hr (fun t9 ht9 _ => ⟨rfl, ht9⟩) (fun q h => absurd h List.not_mem_nil) dX7_darkOf_37
    · skip
      refine lv_iload_n hx hb dX7_darkOf_14 rfl (lv_at hl 1 rfl) ?_
      refine lv_aload_n hx hb dX7_darkOf_15 rfl (lv_at hl 2 rfl) ?_
      refine lv_aload_n hx hb dX7_darkOf_16 rfl (lv_at hl 2 rfl) ?_
      refine va_get (D := G) (ci := 7) (v := .ref (af 17)) (C := RX7) (T := TX7) (N := 29) hx hb hts hFX7 hown hK.1 hP 0 rfl rfl 17 (by decide) kf29 (fun _ h9 => h9) rfl dX7_darkOf_17 ?_
      refine lv_iload_n hx hb dX7_darkOf_20 rfl (lv_at hl 0 rfl) ?_
      refine ro_V (As := [.ref (af 17), .int (iZ ((t : Nat) : Int))]) (rest := [.int (iZ q)]) ⟨hx, hb, hml, hown, hts⟩ (c_X7_shadeOf l G Y g9 af F A tr (af 17) 5 36 (A 17) rfl (by decide) hV t (by omega)) (cwV 2 hts gX7_darkOf_X7_shadeOf rfl rfl rfl (by decide +kernel) ⟨Nat.le_of_ble_eq_true rfl, Nat.le_of_ble_eq_true rfl⟩) hK hP 0 rfl rfl rfl hl.1 rfl (Nat.le_of_ble_eq_true rfl) dX7_darkOf_21 ⟨Nat.zero_le _, Nat.zero_le _⟩ ?_
      have hb_3 := shB_20 (K := kF F A (A 17)) t (n := (F 13 * F 14).toNat) (by omega)
      refine lv_iload_n hx hb dX7_darkOf_24 rfl (lv_at hl 3 rfl) ?_
      refine z_ishr (n := shB (kF F A (A 17)) t (F 13 * F 14).toNat) (k := a.toNat) hx hb dX7_darkOf_25 (by omega) ?_
      refine z_iconst hx hb dX7_darkOf_26 ?_
      refine z_iand1 (a := (shB (kF F A (A 17)) t (F 13 * F 14).toNat / 2 ^ a.toNat)) hx hb dX7_darkOf_27 (by omega) ?_
      refine z_iadd hx hb dX7_darkOf_28 ?_
      refine lv_istore_n (lv' := [(2, .int (iZ (q + (((shB (kF F A (A 17)) t (F 13 * F 14).toNat / 2 ^ a.toNat) % 2 : Nat) : Int)))), (3, .int (iZ ((t : Nat) : Int))), (0, .ref g9), (1, .int (iZ a))]) hx hb dX7_darkOf_29 rfl hl (by decide) rfl (fun ls hl => ?_)
      refine lv_iinc (v := iZ ((t + 1 : Nat) : Int)) (lv' := [(3, .int (iZ ((t + 1 : Nat) : Int))), (2, .int (iZ (q + (((shB (kF F A (A 17)) t (F 13 * F 14).toNat / 2 ^ a.toNat) % 2 : Nat) : Int)))), (0, .ref g9), (1, .int (iZ a))]) hx hb dX7_darkOf_30 hl (k := 1) rfl (iZ_inc _) (by decide) rfl (fun ls hl => ?_)
      refine lv_goto (tgt := 4) hx hb dX7_darkOf_33 (by decide) ?_
      exact ih1 (ls := ls) (t := t + 1) (q := (q + (((shB (kF F A (A 17)) t (F 13 * F 14).toNat / 2 ^ a.toNat) % 2 : Nat) : Int))) (hI := by exact ⟨by rw [sdN, hI.1, ← bit_shd (n := F 13 * F 14) (by omega)], by omega⟩) (hl := lv_sub hl [0, 1, 2, 3] rfl) (hn_ := by omega)
