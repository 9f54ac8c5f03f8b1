set_option maxHeartbeats 4000000 in
set_option maxRecDepth 100000 in
theorem c_X7_sway (l : Launch) (G : va_G) (Y : Nat → ClassId) (g9 : Nat) (af : Nat → Nat) (F : Nat → Int) (A : Kom) (tr : Int64) (hV : mV F A (A 17)) (hno : F 26 < 0) (a : Int) (r : zR a) : Met l yX7_sway wsX7_sway ({ frames := 5, cells := 0, slots := 0, locals := 123 }) (rP G Y [.ref g9, .int (iZ a)] (moW Y g9 af F A tr)) (rQ (.int (iZ (xSway (kF F A (A 17)) a)))) 0 0 (fun _ => False) := by
  refine Met.ofW (cc := cX7_sway) (maxL := 5) (ret := (some .int)) (by decide) rfl ?_
  intro p e s m args below meth c s₁ B hml hv
  obtain ⟨rfl, hK, hP⟩ := hv
  have hx := B.exec
  have hb := B.bytes
  have hr := B.returns
  have hts := atoms_spec (ws := wsX7_sway) B.pre
  have hown : s.vm.findClass RX7 = some m.cls := findClass_of_methodNamed B.named
  have hlocks := B.notSynchronized
  have hFX7 : ∀ w ∈ wsX70, w ∈ wsX7_sway := by decide +kernel
  have kf29 := (hts (.fieldLink RX7 29 "ShadeVotesModel" "now" "[I") (by decide +kernel))
  have kf55 := (hts (.fieldLink RX7 55 "ShadeVotesModel" "people" "I") (by decide +kernel))
  have hl := lv_entry ([.ref g9, .int (iZ a)]) (n := 5) (Nat.le_of_ble_eq_true rfl)
  rw [lg_entry_eq]
  generalize (lg_sl ([.ref g9, .int (iZ a)]) ++ List.replicate (5 - (lg_sl ([.ref g9, .int (iZ a)])).length) Slot.unset).toArray = ls at hl ⊢
  replace hl : lv_has ls 5 [(0, .ref g9), (1, .int (iZ a))] := hl
  have v3 := hV.2.2.1
  have v7 := hV.2.2.2.2.2.2.1
  have v8 := hV.2.2.2.2.2.2.2.1
  have v5 := hV.2.1
  have v4 := hV.2.2.2.1
  have k00 : kF F A (A 17) 0 0 = F 13 := rfl
  have k01 : kF F A (A 17) 0 1 = F 14 := rfl
  have k02 : kF F A (A 17) 0 2 = A 17 3 := rfl
  have k03 : kF F A (A 17) 0 3 = F 15 := rfl
  have k04 : kF F A (A 17) 0 4 = A 17 1 := rfl
  have k05 : kF F A (A 17) 0 5 = A 17 0 := rfl
  have k06 : kF F A (A 17) 0 6 = A 17 2 := rfl
  have kpr : kF F A (A 17) 0 0 * kF F A (A 17) 0 1 = F 13 * F 14 := rfl
  have hW := hV.1
  have hp2 := p2_in (F 15).toNat (by omega)
  refine lv_iload_n hx hb dX7_sway_0 rfl (lv_at hl 1 rfl) ?_
  refine z_iconst hx hb dX7_sway_1 ?_
  refine z_iconst hx hb dX7_sway_2 ?_
  refine ro_S (As := [.int (iZ a), .int (iZ 0), .int (iZ 2)]) (rest := []) ⟨hx, hb, hml, hown, hts⟩ (c_X7_in l G Y a 0 2 (by omega)) (cwS 3 hts gX7_sway_X7_in rfl rfl rfl (by decide +kernel) ⟨Nat.le_of_ble_eq_true rfl, Nat.le_of_ble_eq_true rfl⟩) hK (hP.sub (ws' := []) [] rfl) rfl hl.1 rfl (Nat.le_of_ble_eq_true rfl) dX7_sway_3 ⟨Nat.zero_le _, Nat.zero_le _⟩ ?_
  refine z_ifb_ne (tgt := 11) hx hb dX7_sway_6 (by decide) (fun c_1 => ?_) (fun c_1 => ?_)
  · skip
    have c_1 := of_decide_eq_true c_1
    refine lv_aload_n hx hb dX7_sway_11 rfl (lv_at hl 0 rfl) ?_
    refine lv_aload_n hx hb dX7_sway_12 rfl (lv_at hl 0 rfl) ?_
    refine va_get (D := G) (ci := 7) (v := .ref (af 17)) (C := RX7) (T := TX7) (N := 29) hx hb hts hFX7 hown hK.1 hP 0 rfl rfl 17 (by decide) kf29 (fun _ h9 => h9) rfl dX7_sway_13 ?_
    refine lv_iload_n hx hb dX7_sway_16 rfl (lv_at hl 1 rfl) ?_
    refine lv_aload_n hx hb dX7_sway_17 rfl (lv_at hl 0 rfl) ?_
    refine ro_V (As := []) (rest := [.int (iZ a), .ref (af 17), .ref g9]) ⟨hx, hb, hml, hown, hts⟩ (c_X7_everybody l G Y g9 af F A tr (by omega)) (cwV 0 hts gX7_sway_X7_everybody rfl rfl rfl (by decide +kernel) ⟨Nat.le_of_ble_eq_true rfl, Nat.le_of_ble_eq_true rfl⟩) hK hP 0 rfl rfl rfl hl.1 rfl (Nat.le_of_ble_eq_true rfl) dX7_sway_18 ⟨Nat.zero_le _, Nat.zero_le _⟩ ?_
    refine ro_V (As := [.ref (af 17), .int (iZ a), .int (iZ ((2 ^ (F 15).toNat - 1 : Nat) : Int))]) (rest := []) ⟨hx, hb, hml, hown, hts⟩ (c_X7_balance l G Y g9 af F A tr (af 17) 5 36 (A 17) rfl (by decide) hV a (2 ^ (F 15).toNat - 1) (by omega)) (cwV 3 hts gX7_sway_X7_balance rfl rfl rfl (by decide +kernel) ⟨Nat.le_of_ble_eq_true rfl, Nat.le_of_ble_eq_true rfl⟩) hK hP 0 rfl rfl rfl hl.1 rfl (Nat.le_of_ble_eq_true rfl) dX7_sway_21 ⟨Nat.zero_le _, Nat.zero_le _⟩ ?_
    rw [kM_no hno]
    have hb_2 := blN_in (kM_WF hV) (a).toNat (2 ^ (F 15).toNat - 1) (F 15).toNat (by omega)
    rw [kM_no hno] at hb_2
    refine z_if_le (tgt := 31) hx hb dX7_sway_24 (by decide) (by omega) (fun c_6 => ?_) (fun c_6 => ?_)
    · skip
      refine z_iconst hx hb dX7_sway_31 ?_
      refine lv_istore_n (lv' := [(2, .int (iZ 0)), (0, .ref g9), (1, .int (iZ a))]) hx hb dX7_sway_32 rfl hl (by decide) rfl (fun ls hl => ?_)
      refine z_iconst hx hb dX7_sway_33 ?_
      refine lv_istore_n (lv' := [(3, .int (iZ 0)), (2, .int (iZ 0)), (0, .ref g9), (1, .int (iZ a))]) hx hb dX7_sway_34 rfl hl (by decide) rfl (fun ls hl => ?_)
      refine z_iconst hx hb dX7_sway_35 ?_
      refine lv_istore (lv' := [(4, .int (iZ 0)), (3, .int (iZ 0)), (2, .int (iZ 0)), (0, .ref g9), (1, .int (iZ a))]) hx hb dX7_sway_36 hl (by decide) rfl (fun ls hl => ?_)
      obtain ⟨i, q, hI, hl1⟩ : ∃ (i : Nat) (q : Nat), (q = xwN (kF F A (A 17)) a.toNat i ∧ (i : Int) ≤ F 15) ∧ lv_has ls 5 [(4, .int (iZ ((i : Nat) : Int))), (3, .int (iZ ((q : Nat) : Int))), (2, .int (iZ 0)), (0, .ref g9), (1, .int (iZ a))] := ⟨0, 0, by exact ⟨rfl, by omega⟩, lv_sub hl [0, 1, 2, 3, 4] rfl⟩
      clear hl
      have hl := hl1
      clear hl1
      obtain ⟨n_, hn_⟩ : ∃ n_ : Nat, (F 15).toNat - i < n_ := ⟨_, Nat.lt_succ_self _⟩
      induction n_ generalizing i q ls with
      | zero => exact absurd hn_ (Nat.not_lt_zero _)
      | succ n_ ih7 =>
        refine lv_iload hx hb dX7_sway_38 (lv_at hl 0 rfl) ?_
        refine lv_aload_n hx hb dX7_sway_40 rfl (lv_at hl 3 rfl) ?_
        refine va_get (D := G) (ci := 7) (v := .int (iZ (F 15))) (C := RX7) (T := TX7) (N := 29) hx hb hts hFX7 hown hK.1 hP 0 rfl rfl 15 (by decide) kf55 (fun _ h9 => h9) rfl dX7_sway_41 ?_
        refine z_icmp_ge (tgt := 96) hx hb dX7_sway_44 (by decide) (by omega) (fun c_8 => ?_) (fun c_8 => ?_)
        · skip
          refine lv_iload_n hx hb dX7_sway_96 rfl (lv_at hl 1 rfl) ?_
          refine z_top (show ((q : Nat) : Int) = xSway (kF F A (A 17)) a from ?_) ?_
          · unfold xSway; rw [if_pos (by omega), k03, hI.1, show (F 15).toNat = i by omega]
          exact W.iret (v := iZ (xSway (kF F A (A 17)) a)) hx hb hr (fun t9 ht9 _ => ⟨rfl, ht9⟩) (fun q h => absurd h List.not_mem_nil) dX7_sway_97
        · skip
          refine lv_iload_n hx hb dX7_sway_47 rfl (lv_at hl 1 rfl) ?_
          refine lv_aload_n hx hb dX7_sway_48 rfl (lv_at hl 3 rfl) ?_
          refine lv_aload_n hx hb dX7_sway_49 rfl (lv_at hl 3 rfl) ?_
          refine va_get (D := G) (ci := 7) (v := .ref (af 17)) (C := RX7) (T := TX7) (N := 29) hx hb hts hFX7 hown hK.1 hP 0 rfl rfl 17 (by decide) kf29 (fun _ h9 => h9) rfl dX7_sway_50 ?_
          refine lv_iload_n hx hb dX7_sway_53 rfl (lv_at hl 4 rfl) ?_
          refine lv_aload_n hx hb dX7_sway_54 rfl (lv_at hl 3 rfl) ?_
          refine ro_V (As := []) (rest := [.int (iZ a), .ref (af 17), .ref g9, .int (iZ ((q : Nat) : Int))]) ⟨hx, hb, hml, hown, hts⟩ (c_X7_everybody l G Y g9 af F A tr (by omega)) (cwV 0 hts gX7_sway_X7_everybody rfl rfl rfl (by decide +kernel) ⟨Nat.le_of_ble_eq_true rfl, Nat.le_of_ble_eq_true rfl⟩) hK hP 0 rfl rfl rfl hl.1 rfl (Nat.le_of_ble_eq_true rfl) dX7_sway_55 ⟨Nat.zero_le _, Nat.zero_le _⟩ ?_
          refine z_iconst hx hb dX7_sway_58 ?_
          refine lv_iload hx hb dX7_sway_59 (lv_at hl 0 rfl) ?_
          refine z_ishl1 (k := i) hx hb dX7_sway_61 (by omega) ?_
          have hi2 : 2 ^ i < 128 := p2_lt (by omega)
          refine z_iconst hx hb dX7_sway_62 ?_
          refine lv_ixor hx hb dX7_sway_63 ?_
          refine z_iandn (a := (2 ^ (F 15).toNat - 1)) (b := 2 ^ i) hx hb dX7_sway_64 ?_
          have hxl : (2 ^ (F 15).toNat - 1) ^^^ ((2 ^ (F 15).toNat - 1) &&& 2 ^ i) < 128 := xa_lt (by omega) hi2
          refine ro_V (As := [.ref (af 17), .int (iZ a), .int (iZ (((2 ^ (F 15).toNat - 1) ^^^ ((2 ^ (F 15).toNat - 1) &&& 2 ^ i) : Nat) : Int))]) (rest := [.int (iZ ((q : Nat) : Int))]) ⟨hx, hb, hml, hown, hts⟩ (c_X7_balance l G Y g9 af F A tr (af 17) 5 36 (A 17) rfl (by decide) hV a ((2 ^ (F 15).toNat - 1) ^^^ ((2 ^ (F 15).toNat - 1) &&& 2 ^ i)) (by omega)) (cwV 3 hts gX7_sway_X7_balance rfl rfl rfl (by decide +kernel) ⟨Nat.le_of_ble_eq_true rfl, Nat.le_of_ble_eq_true rfl⟩) hK hP 0 rfl rfl rfl hl.1 rfl (Nat.le_of_ble_eq_true rfl) dX7_sway_65 ⟨Nat.zero_le _, Nat.zero_le _⟩ ?_
          rw [kM_no hno]
          have hb_9 := blN_in (kM_WF hV) (a).toNat ((2 ^ (F 15).toNat - 1) ^^^ ((2 ^ (F 15).toNat - 1) &&& 2 ^ i)) (F 15).toNat (by omega)
          rw [kM_no hno] at hb_9
          refine z_if_le (tgt := 75) hx hb dX7_sway_68 (by decide) (by omega) (fun c_13 => ?_) (fun c_13 => ?_)
          · skip
            refine z_iconst hx hb dX7_sway_75 ?_
            refine lv_iload_n hx hb dX7_sway_76 rfl (lv_at hl 2 rfl) ?_
            refine z_icmp_eq (tgt := 87) hx hb dX7_sway_77 (by decide) (by omega) (fun c_14 => ?_) (fun c_14 => ?_)
            · skip
              refine z_iconst hx hb dX7_sway_87 ?_
              refine z_ior (a := q) (b := 0) hx hb dX7_sway_88 rfl (by omega) ?_
              refine lv_istore_n (lv' := [(3, .int (iZ ((q ||| 0 : Nat) : Int))), (4, .int (iZ ((i : Nat) : Int))), (2, .int (iZ 0)), (0, .ref g9), (1, .int (iZ a))]) hx hb dX7_sway_89 rfl hl (by decide) rfl (fun ls hl => ?_)
              refine lv_iinc (v := iZ ((i + 1 : Nat) : Int)) (lv' := [(4, .int (iZ ((i + 1 : Nat) : Int))), (3, .int (iZ ((q ||| 0 : Nat) : Int))), (2, .int (iZ 0)), (0, .ref g9), (1, .int (iZ a))]) hx hb dX7_sway_90 hl (k := 1) rfl (iZ_inc _) (by decide) rfl (fun ls hl => ?_)
              refine lv_goto (tgt := 38) hx hb dX7_sway_93 (by decide) ?_
              exact ih7 (ls := ls) (i := i + 1) (q := q ||| 0) (hI := by first | (exfalso; omega) | (refine ⟨?_, by omega⟩; rw [xwN, ← hI.1]; unfold evb; rw [k03]; first | rw [if_pos (d_ne (by omega))] | rw [if_neg (d_eq (by omega))])) (hl := lv_sub hl [0, 1, 2, 3, 4] rfl) (hn_ := by omega)
            · skip
              refine z_iconst hx hb dX7_sway_80 ?_
              refine lv_iload hx hb dX7_sway_81 (lv_at hl 0 rfl) ?_
              refine z_ishl1 (k := i) hx hb dX7_sway_83 (by omega) ?_
              refine lv_goto (tgt := 88) hx hb dX7_sway_84 (by decide) ?_
              refine z_ior (a := q) (b := (2 ^ i)) hx hb dX7_sway_88 rfl rfl ?_
              refine lv_istore_n (lv' := [(3, .int (iZ ((q ||| (2 ^ i) : Nat) : Int))), (4, .int (iZ ((i : Nat) : Int))), (2, .int (iZ 0)), (0, .ref g9), (1, .int (iZ a))]) hx hb dX7_sway_89 rfl hl (by decide) rfl (fun ls hl => ?_)
              refine lv_iinc (v := iZ ((i + 1 : Nat) : Int)) (lv' := [(4, .int (iZ ((i + 1 : Nat) : Int))), (3, .int (iZ ((q ||| (2 ^ i) : Nat) : Int))), (2, .int (iZ 0)), (0, .ref g9), (1, .int (iZ a))]) hx hb dX7_sway_90 hl (k := 1) rfl (iZ_inc _) (by decide) rfl (fun ls hl => ?_)
              refine lv_goto (tgt := 38) hx hb dX7_sway_93 (by decide) ?_
              exact ih7 (ls := ls) (i := i + 1) (q := q ||| (2 ^ i)) (hI := by first | (exfalso; omega) | (refine ⟨?_, by omega⟩; rw [xwN, ← hI.1]; unfold evb; rw [k03]; first | rw [if_pos (d_ne (by omega))] | rw [if_neg (d_eq (by omega))])) (hl := lv_sub hl [0, 1, 2, 3, 4] rfl) (hn_ := by omega)
          · skip
            refine z_iconst hx hb dX7_sway_71 ?_
            refine lv_goto (tgt := 76) hx hb dX7_sway_72 (by decide) ?_
            refine lv_iload_n hx hb dX7_sway_76 rfl (lv_at hl 2 rfl) ?_
            refine z_icmp_eq (tgt := 87) hx hb dX7_sway_77 (by decide) (by omega) (fun c_15 => ?_) (fun c_15 => ?_)
            · skip
              refine z_iconst hx hb dX7_sway_87 ?_
              refine z_ior (a := q) (b := 0) hx hb dX7_sway_88 rfl (by omega) ?_
              refine lv_istore_n (lv' := [(3, .int (iZ ((q ||| 0 : Nat) : Int))), (4, .int (iZ ((i : Nat) : Int))), (2, .int (iZ 0)), (0, .ref g9), (1, .int (iZ a))]) hx hb dX7_sway_89 rfl hl (by decide) rfl (fun ls hl => ?_)
              refine lv_iinc (v := iZ ((i + 1 : Nat) : Int)) (lv' := [(4, .int (iZ ((i + 1 : Nat) : Int))), (3, .int (iZ ((q ||| 0 : Nat) : Int))), (2, .int (iZ 0)), (0, .ref g9), (1, .int (iZ a))]) hx hb dX7_sway_90 hl (k := 1) rfl (iZ_inc _) (by decide) rfl (fun ls hl => ?_)
              refine lv_goto (tgt := 38) hx hb dX7_sway_93 (by decide) ?_
              exact ih7 (ls := ls) (i := i + 1) (q := q ||| 0) (hI := by first | (exfalso; omega) | (refine ⟨?_, by omega⟩; rw [xwN, ← hI.1]; unfold evb; rw [k03]; first | rw [if_pos (d_ne (by omega))] | rw [if_neg (d_eq (by omega))])) (hl := lv_sub hl [0, 1, 2, 3, 4] rfl) (hn_ := by omega)
            · skip
              refine z_iconst hx hb dX7_sway_80 ?_
              refine lv_iload hx hb dX7_sway_81 (lv_at hl 0 rfl) ?_
              refine z_ishl1 (k := i) hx hb dX7_sway_83 (by omega) ?_
              refine lv_goto (tgt := 88) hx hb dX7_sway_84 (by decide) ?_
              refine z_ior (a := q) (b := (2 ^ i)) hx hb dX7_sway_88 rfl rfl ?_
              refine lv_istore_n (lv' := [(3, .int (iZ ((q ||| (2 ^ i) : Nat) : Int))), (4, .int (iZ ((i : Nat) : Int))), (2, .int (iZ 0)), (0, .ref g9), (1, .int (iZ a))]) hx hb dX7_sway_89 rfl hl (by decide) rfl (fun ls hl => ?_)
              refine lv_iinc (v := iZ ((i + 1 : Nat) : Int)) (lv' := [(4, .int (iZ ((i + 1 : Nat) : Int))), (3, .int (iZ ((q ||| (2 ^ i) : Nat) : Int))), (2, .int (iZ 0)), (0, .ref g9), (1, .int (iZ a))]) hx hb dX7_sway_90 hl (k := 1) rfl (iZ_inc _) (by decide) rfl (fun ls hl => ?_)
              refine lv_goto (tgt := 38) hx hb dX7_sway_93 (by decide) ?_
              exact ih7 (ls := ls) (i := i + 1) (q := q ||| (2 ^ i)) (hI := by first | (exfalso; omega) | (refine ⟨?_, by omega⟩; rw [xwN, ← hI.1]; unfold evb; rw [k03]; first | rw [if_pos (d_ne (by omega))] | rw [if_neg (d_eq (by omega))])) (hl := lv_sub hl [0, 1, 2, 3, 4] rfl) (hn_ := by omega)
    · skip
      refine z_iconst hx hb dX7_sway_27 ?_
      refine lv_goto (tgt := 32) hx hb dX7_sway_28 (by decide) ?_
      refine lv_istore_n (lv' := [(2, .int (iZ 1)), (0, .ref g9), (1, .int (iZ a))]) hx hb dX7_sway_32 rfl hl (by decide) rfl (fun ls hl => ?_)
      refine z_iconst hx hb dX7_sway_33 ?_
      refine lv_istore_n (lv' := [(3, .int (iZ 0)), (2, .int (iZ 1)), (0, .ref g9), (1, .int (iZ a))]) hx hb dX7_sway_34 rfl hl (by decide) rfl (fun ls hl => ?_)
      refine z_iconst hx hb dX7_sway_35 ?_
      refine lv_istore (lv' := [(4, .int (iZ 0)), (3, .int (iZ 0)), (2, .int (iZ 1)), (0, .ref g9), (1, .int (iZ a))]) hx hb dX7_sway_36 hl (by decide) rfl (fun ls hl => ?_)
      obtain ⟨i, q, hI, hl1⟩ : ∃ (i : Nat) (q : Nat), (q = xwN (kF F A (A 17)) a.toNat i ∧ (i : Int) ≤ F 15) ∧ lv_has ls 5 [(4, .int (iZ ((i : Nat) : Int))), (3, .int (iZ ((q : Nat) : Int))), (2, .int (iZ 1)), (0, .ref g9), (1, .int (iZ a))] := ⟨0, 0, by exact ⟨rfl, by omega⟩, lv_sub hl [0, 1, 2, 3, 4] rfl⟩
      clear hl
      have hl := hl1
      clear hl1
      obtain ⟨n_, hn_⟩ : ∃ n_ : Nat, (F 15).toNat - i < n_ := ⟨_, Nat.lt_succ_self _⟩
      induction n_ generalizing i q ls with
      | zero => exact absurd hn_ (Nat.not_lt_zero _)
      | succ n_ ih16 =>
        refine lv_iload hx hb dX7_sway_38 (lv_at hl 0 rfl) ?_
        refine lv_aload_n hx hb dX7_sway_40 rfl (lv_at hl 3 rfl) ?_
        refine va_get (D := G) (ci := 7) (v := .int (iZ (F 15))) (C := RX7) (T := TX7) (N := 29) hx hb hts hFX7 hown hK.1 hP 0 rfl rfl 15 (by decide) kf55 (fun _ h9 => h9) rfl dX7_sway_41 ?_
        refine z_icmp_ge (tgt := 96) hx hb dX7_sway_44 (by decide) (by omega) (fun c_17 => ?_) (fun c_17 => ?_)
        · skip
          refine lv_iload_n hx hb dX7_sway_96 rfl (lv_at hl 1 rfl) ?_
          refine z_top (show ((q : Nat) : Int) = xSway (kF F A (A 17)) a from ?_) ?_
          · unfold xSway; rw [if_pos (by omega), k03, hI.1, show (F 15).toNat = i by omega]
          exact W.iret (v := iZ (xSway (kF F A (A 17)) a)) hx hb hr (fun t9 ht9 _ => ⟨rfl, ht9⟩) (fun q h => absurd h List.not_mem_nil) dX7_sway_97
        · skip
          refine lv_iload_n hx hb dX7_sway_47 rfl (lv_at hl 1 rfl) ?_
          refine lv_aload_n hx hb dX7_sway_48 rfl (lv_at hl 3 rfl) ?_
          refine lv_aload_n hx hb dX7_sway_49 rfl (lv_at hl 3 rfl) ?_
          refine va_get (D := G) (ci := 7) (v := .ref (af 17)) (C := RX7) (T := TX7) (N := 29) hx hb hts hFX7 hown hK.1 hP 0 rfl rfl 17 (by decide) kf29 (fun _ h9 => h9) rfl dX7_sway_50 ?_
          refine lv_iload_n hx hb dX7_sway_53 rfl (lv_at hl 4 rfl) ?_
          refine lv_aload_n hx hb dX7_sway_54 rfl (lv_at hl 3 rfl) ?_
          refine ro_V (As := []) (rest := [.int (iZ a), .ref (af 17), .ref g9, .int (iZ ((q : Nat) : Int))]) ⟨hx, hb, hml, hown, hts⟩ (c_X7_everybody l G Y g9 af F A tr (by omega)) (cwV 0 hts gX7_sway_X7_everybody rfl rfl rfl (by decide +kernel) ⟨Nat.le_of_ble_eq_true rfl, Nat.le_of_ble_eq_true rfl⟩) hK hP 0 rfl rfl rfl hl.1 rfl (Nat.le_of_ble_eq_true rfl) dX7_sway_55 ⟨Nat.zero_le _, Nat.zero_le _⟩ ?_
          refine z_iconst hx hb dX7_sway_58 ?_
          refine lv_iload hx hb dX7_sway_59 (lv_at hl 0 rfl) ?_
          refine z_ishl1 (k := i) hx hb dX7_sway_61 (by omega) ?_
          have hi2 : 2 ^ i < 128 := p2_lt (by omega)
          refine z_iconst hx hb dX7_sway_62 ?_
          refine lv_ixor hx hb dX7_sway_63 ?_
          refine z_iandn (a := (2 ^ (F 15).toNat - 1)) (b := 2 ^ i) hx hb dX7_sway_64 ?_
          have hxl : (2 ^ (F 15).toNat - 1) ^^^ ((2 ^ (F 15).toNat - 1) &&& 2 ^ i) < 128 := xa_lt (by omega) hi2
          refine ro_V (As := [.ref (af 17), .int (iZ a), .int (iZ (((2 ^ (F 15).toNat - 1) ^^^ ((2 ^ (F 15).toNat - 1) &&& 2 ^ i) : Nat) : Int))]) (rest := [.int (iZ ((q : Nat) : Int))]) ⟨hx, hb, hml, hown, hts⟩ (c_X7_balance l G Y g9 af F A tr (af 17) 5 36 (A 17) rfl (by decide) hV a ((2 ^ (F 15).toNat - 1) ^^^ ((2 ^ (F 15).toNat - 1) &&& 2 ^ i)) (by omega)) (cwV 3 hts gX7_sway_X7_balance rfl rfl rfl (by decide +kernel) ⟨Nat.le_of_ble_eq_true rfl, Nat.le_of_ble_eq_true rfl⟩) hK hP 0 rfl rfl rfl hl.1 rfl (Nat.le_of_ble_eq_true rfl) dX7_sway_65 ⟨Nat.zero_le _, Nat.zero_le _⟩ ?_
          rw [kM_no hno]
          have hb_18 := blN_in (kM_WF hV) (a).toNat ((2 ^ (F 15).toNat - 1) ^^^ ((2 ^ (F 15).toNat - 1) &&& 2 ^ i)) (F 15).toNat (by omega)
          rw [kM_no hno] at hb_18
          refine z_if_le (tgt := 75) hx hb dX7_sway_68 (by decide) (by omega) (fun c_22 => ?_) (fun c_22 => ?_)
          · skip
            refine z_iconst hx hb dX7_sway_75 ?_
            refine lv_iload_n hx hb dX7_sway_76 rfl (lv_at hl 2 rfl) ?_
            refine z_icmp_eq (tgt := 87) hx hb dX7_sway_77 (by decide) (by omega) (fun c_23 => ?_) (fun c_23 => ?_)
            · skip
              refine z_iconst hx hb dX7_sway_87 ?_
              refine z_ior (a := q) (b := 0) hx hb dX7_sway_88 rfl (by omega) ?_
              refine lv_istore_n (lv' := [(3, .int (iZ ((q ||| 0 : Nat) : Int))), (4, .int (iZ ((i : Nat) : Int))), (2, .int (iZ 1)), (0, .ref g9), (1, .int (iZ a))]) hx hb dX7_sway_89 rfl hl (by decide) rfl (fun ls hl => ?_)
              refine lv_iinc (v := iZ ((i + 1 : Nat) : Int)) (lv' := [(4, .int (iZ ((i + 1 : Nat) : Int))), (3, .int (iZ ((q ||| 0 : Nat) : Int))), (2, .int (iZ 1)), (0, .ref g9), (1, .int (iZ a))]) hx hb dX7_sway_90 hl (k := 1) rfl (iZ_inc _) (by decide) rfl (fun ls hl => ?_)
              refine lv_goto (tgt := 38) hx hb dX7_sway_93 (by decide) ?_
              exact ih16 (ls := ls) (i := i + 1) (q := q ||| 0) (hI := by first | (exfalso; omega) | (refine ⟨?_, by omega⟩; rw [xwN, ← hI.1]; unfold evb; rw [k03]; first | rw [if_pos (d_ne (by omega))] | rw [if_neg (d_eq (by omega))])) (hl := lv_sub hl [0, 1, 2, 3, 4] rfl) (hn_ := by omega)
            · skip
              refine z_iconst hx hb dX7_sway_80 ?_
              refine lv_iload hx hb dX7_sway_81 (lv_at hl 0 rfl) ?_
              refine z_ishl1 (k := i) hx hb dX7_sway_83 (by omega) ?_
              refine lv_goto (tgt := 88) hx hb dX7_sway_84 (by decide) ?_
              refine z_ior (a := q) (b := (2 ^ i)) hx hb dX7_sway_88 rfl rfl ?_
              refine lv_istore_n (lv' := [(3, .int (iZ ((q ||| (2 ^ i) : Nat) : Int))), (4, .int (iZ ((i : Nat) : Int))), (2, .int (iZ 1)), (0, .ref g9), (1, .int (iZ a))]) hx hb dX7_sway_89 rfl hl (by decide) rfl (fun ls hl => ?_)
              refine lv_iinc (v := iZ ((i + 1 : Nat) : Int)) (lv' := [(4, .int (iZ ((i + 1 : Nat) : Int))), (3, .int (iZ ((q ||| (2 ^ i) : Nat) : Int))), (2, .int (iZ 1)), (0, .ref g9), (1, .int (iZ a))]) hx hb dX7_sway_90 hl (k := 1) rfl (iZ_inc _) (by decide) rfl (fun ls hl => ?_)
              refine lv_goto (tgt := 38) hx hb dX7_sway_93 (by decide) ?_
              exact ih16 (ls := ls) (i := i + 1) (q := q ||| (2 ^ i)) (hI := by first | (exfalso; omega) | (refine ⟨?_, by omega⟩; rw [xwN, ← hI.1]; unfold evb; rw [k03]; first | rw [if_pos (d_ne (by omega))] | rw [if_neg (d_eq (by omega))])) (hl := lv_sub hl [0, 1, 2, 3, 4] rfl) (hn_ := by omega)
          · skip
            refine z_iconst hx hb dX7_sway_71 ?_
            refine lv_goto (tgt := 76) hx hb dX7_sway_72 (by decide) ?_
            refine lv_iload_n hx hb dX7_sway_76 rfl (lv_at hl 2 rfl) ?_
            refine z_icmp_eq (tgt := 87) hx hb dX7_sway_77 (by decide) (by omega) (fun c_24 => ?_) (fun c_24 => ?_)
            · skip
              refine z_iconst hx hb dX7_sway_87 ?_
              refine z_ior (a := q) (b := 0) hx hb dX7_sway_88 rfl (by omega) ?_
              refine lv_istore_n (lv' := [(3, .int (iZ ((q ||| 0 : Nat) : Int))), (4, .int (iZ ((i : Nat) : Int))), (2, .int (iZ 1)), (0, .ref g9), (1, .int (iZ a))]) hx hb dX7_sway_89 rfl hl (by decide) rfl (fun ls hl => ?_)
              refine lv_iinc (v := iZ ((i + 1 : Nat) : Int)) (lv' := [(4, .int (iZ ((i + 1 : Nat) : Int))), (3, .int (iZ ((q ||| 0 : Nat) : Int))), (2, .int (iZ 1)), (0, .ref g9), (1, .int (iZ a))]) hx hb dX7_sway_90 hl (k := 1) rfl (iZ_inc _) (by decide) rfl (fun ls hl => ?_)
              refine lv_goto (tgt := 38) hx hb dX7_sway_93 (by decide) ?_
              exact ih16 (ls := ls) (i := i + 1) (q := q ||| 0) (hI := by first | (exfalso; omega) | (refine ⟨?_, by omega⟩; rw [xwN, ← hI.1]; unfold evb; rw [k03]; first | rw [if_pos (d_ne (by omega))] | rw [if_neg (d_eq (by omega))])) (hl := lv_sub hl [0, 1, 2, 3, 4] rfl) (hn_ := by omega)
            · skip
              refine z_iconst hx hb dX7_sway_80 ?_
              refine lv_iload hx hb dX7_sway_81 (lv_at hl 0 rfl) ?_
              refine z_ishl1 (k := i) hx hb dX7_sway_83 (by omega) ?_
              refine lv_goto (tgt := 88) hx hb dX7_sway_84 (by decide) ?_
              refine z_ior (a := q) (b := (2 ^ i)) hx hb dX7_sway_88 rfl rfl ?_
              refine lv_istore_n (lv' := [(3, .int (iZ ((q ||| (2 ^ i) : Nat) : Int))), (4, .int (iZ ((i : Nat) : Int))), (2, .int (iZ 1)), (0, .ref g9), (1, .int (iZ a))]) hx hb dX7_sway_89 rfl hl (by decide) rfl (fun ls hl => ?_)
              refine lv_iinc (v := iZ ((i + 1 : Nat) : Int)) (lv' := [(4, .int (iZ ((i + 1 : Nat) : Int))), (3, .int (iZ ((q ||| (2 ^ i) : Nat) : Int))), (2, .int (iZ 1)), (0, .ref g9), (1, .int (iZ a))]) hx hb dX7_sway_90 hl (k := 1) rfl (iZ_inc _) (by decide) rfl (fun ls hl => ?_)
              refine lv_goto (tgt := 38) hx hb dX7_sway_93 (by decide) ?_
              exact ih16 (ls := ls) (i := i + 1) (q := q ||| (2 ^ i)) (hI := by first | (exfalso; omega) | (refine ⟨?_, by omega⟩; rw [xwN, ← hI.1]; unfold evb; rw [k03]; first | rw [if_pos (d_ne (by omega))] | rw [if_neg (d_eq (by omega))])) (hl := lv_sub hl [0, 1, 2, 3, 4] rfl) (hn_ := by omega)
  · skip
    have c_1 := of_decide_eq_false c_1
    refine z_iconst hx hb dX7_sway_9 ?_
    refine z_top (show (-1) = xSway (kF F A (A 17)) a from ?_) ?_
    · unfold xSway; (repeat' split) <;> first | rfl | omega | (simp_all; done)
    exact W.iret (v := iZ (xSway (kF F A (A 17)) a)) hx hb hr (fun t9 ht9 _ => ⟨rfl, ht9⟩) (fun q h => absurd h List.not_mem_nil) dX7_sway_10

set_option maxHeartbeats 4000000 in
set_option maxRecDepth 100000 in
theorem c_X7_cool (l : Launch) (G : va_G) (Y : Nat → ClassId) (g9 : Nat) (af : Nat → Nat) (F : Nat → Int) (A : Kom) (tr : Int64) (hV : mV F A (A 17)) (hno : F 26 < 0) (a : Int) (r : zR a) : Met l yX7_cool wsX7_cool ({ frames := 3, cells := 0, slots := 0, locals := 72 }) (rP G Y [.ref g9, .int (iZ a)] (moW Y g9 af F A tr)) (rQ (.int (iZ (xCool (kF F A (A 17)) a)))) 0 0 (fun _ => False) := by
  refine Met.ofW (cc := cX7_cool) (maxL := 5) (ret := (some .int)) (by decide) rfl ?_
  intro p e s m args below meth c s₁ B hml hv
  obtain ⟨rfl, hK, hP⟩ := hv
  have hx := B.exec
  have hb := B.bytes
  have hr := B.returns
  have hts := atoms_spec (ws := wsX7_cool) B.pre
  have hown : s.vm.findClass RX7 = some m.cls := findClass_of_methodNamed B.named
  have hlocks := B.notSynchronized
  have hFX7 : ∀ w ∈ wsX70, w ∈ wsX7_cool := by decide +kernel
  have kf19 := (hts (.fieldLink RX7 19 "ShadeVotesModel" "wide" "I") (by decide +kernel))
  have kf23 := (hts (.fieldLink RX7 23 "ShadeVotesModel" "high" "I") (by decide +kernel))
  have kf29 := (hts (.fieldLink RX7 29 "ShadeVotesModel" "now" "[I") (by decide +kernel))
  have hl := lv_entry ([.ref g9, .int (iZ a)]) (n := 5) (Nat.le_of_ble_eq_true rfl)
  rw [lg_entry_eq]
  generalize (lg_sl ([.ref g9, .int (iZ a)]) ++ List.replicate (5 - (lg_sl ([.ref g9, .int (iZ a)])).length) Slot.unset).toArray = ls at hl ⊢
  replace hl : lv_has ls 5 [(0, .ref g9), (1, .int (iZ a))] := hl
  have v3 := hV.2.2.1
  have v7 := hV.2.2.2.2.2.2.1
  have v8 := hV.2.2.2.2.2.2.2.1
  have v5 := hV.2.1
  have v4 := hV.2.2.2.1
  have k00 : kF F A (A 17) 0 0 = F 13 := rfl
  have k01 : kF F A (A 17) 0 1 = F 14 := rfl
  have k02 : kF F A (A 17) 0 2 = A 17 3 := rfl
  have k03 : kF F A (A 17) 0 3 = F 15 := rfl
  have k04 : kF F A (A 17) 0 4 = A 17 1 := rfl
  have k05 : kF F A (A 17) 0 5 = A 17 0 := rfl
  have k06 : kF F A (A 17) 0 6 = A 17 2 := rfl
  have kpr : kF F A (A 17) 0 0 * kF F A (A 17) 0 1 = F 13 * F 14 := rfl
  have hW := hV.1
  refine lv_aload_n hx hb dX7_cool_0 rfl (lv_at hl 0 rfl) ?_
  refine lv_iload_n hx hb dX7_cool_1 rfl (lv_at hl 1 rfl) ?_
  refine ro_V (As := [.int (iZ a)]) (rest := []) ⟨hx, hb, hml, hown, hts⟩ (c_X7_isOne l G Y g9 af F A tr a (by omega)) (cwV 1 hts gX7_cool_X7_isOne rfl rfl rfl (by decide +kernel) ⟨Nat.le_of_ble_eq_true rfl, Nat.le_of_ble_eq_true rfl⟩) hK hP 0 rfl rfl rfl hl.1 rfl (Nat.le_of_ble_eq_true rfl) dX7_cool_2 ⟨Nat.zero_le _, Nat.zero_le _⟩ ?_
  refine z_ifb_ne (tgt := 10) hx hb dX7_cool_5 (by decide) (fun c_1 => ?_) (fun c_1 => ?_)
  · skip
    have c_1 := of_decide_eq_true c_1
    refine z_bipush hx hb dX7_cool_10 (by decide) ?_
    refine lv_istore_n (lv' := [(2, .int (iZ (-9))), (0, .ref g9), (1, .int (iZ a))]) hx hb dX7_cool_12 rfl hl (by decide) rfl (fun ls hl => ?_)
    refine z_iconst hx hb dX7_cool_13 ?_
    refine lv_istore_n (lv' := [(3, .int (iZ 0)), (2, .int (iZ (-9))), (0, .ref g9), (1, .int (iZ a))]) hx hb dX7_cool_14 rfl hl (by decide) rfl (fun ls hl => ?_)
    obtain ⟨i, q, hI, hl1⟩ : ∃ (i : Nat) (q : Int), (q = xcS (kF F A (A 17)) (A 17 (29 + a.toNat)) i ∧ (i : Int) ≤ F 13 * F 14) ∧ lv_has ls 5 [(3, .int (iZ ((i : Nat) : Int))), (2, .int (iZ q)), (0, .ref g9), (1, .int (iZ a))] := ⟨0, -9, by exact ⟨rfl, by omega⟩, lv_sub hl [0, 1, 2, 3] rfl⟩
    clear hl
    have hl := hl1
    clear hl1
    obtain ⟨n_, hn_⟩ : ∃ n_ : Nat, (F 13 * F 14).toNat - i < n_ := ⟨_, Nat.lt_succ_self _⟩
    induction n_ generalizing i q ls with
    | zero => exact absurd hn_ (Nat.not_lt_zero _)
    | succ n_ ih2 =>
      have hq9 := xcS_in (kF F A (A 17)) (A 17 (29 + a.toNat)) i
      have hp1 := hV.2.2.2.2.2.1 a.toNat (by omega)
      have hp2 := hV.2.2.2.2.2.2.2.2.1 a.toNat (by omega)
      refine lv_iload_n hx hb dX7_cool_15 rfl (lv_at hl 0 rfl) ?_
      refine lv_aload_n hx hb dX7_cool_16 rfl (lv_at hl 2 rfl) ?_
      refine va_get (D := G) (ci := 7) (v := .int (iZ (F 13))) (C := RX7) (T := TX7) (N := 29) hx hb hts hFX7 hown hK.1 hP 0 rfl rfl 13 (by decide) kf19 (fun _ h9 => h9) rfl dX7_cool_17 ?_
      refine lv_aload_n hx hb dX7_cool_20 rfl (lv_at hl 2 rfl) ?_
      refine va_get (D := G) (ci := 7) (v := .int (iZ (F 14))) (C := RX7) (T := TX7) (N := 29) hx hb hts hFX7 hown hK.1 hP 0 rfl rfl 14 (by decide) kf23 (fun _ h9 => h9) rfl dX7_cool_21 ?_
      refine z_imul hx hb dX7_cool_24 ?_
      refine z_icmp_ge (tgt := 95) hx hb dX7_cool_25 (by decide) (by omega) (fun c_3 => ?_) (fun c_3 => ?_)
      · skip
        refine lv_iload_n hx hb dX7_cool_95 rfl (lv_at hl 1 rfl) ?_
        refine z_top (show q = xCool (kF F A (A 17)) a from ?_) ?_
        · unfold xCool; rw [if_pos (by omega), kpr, hI.1, show (F 13 * F 14).toNat = i by omega]; rfl
        exact W.iret (v := iZ (xCool (kF F A (A 17)) a)) hx hb hr (fun t9 ht9 _ => ⟨rfl, ht9⟩) (fun q h => absurd h List.not_mem_nil) dX7_cool_96
      · skip
        refine lv_iload_n hx hb dX7_cool_28 rfl (lv_at hl 1 rfl) ?_
        refine z_if_lt (tgt := 63) hx hb dX7_cool_29 (by decide) (by omega) (fun c_4 => ?_) (fun c_4 => ?_)
        · skip
          refine z_iconst hx hb dX7_cool_63 ?_
          refine lv_goto (tgt := 68) hx hb dX7_cool_64 (by decide) ?_
          refine lv_istore (lv' := [(4, .int (iZ 1)), (3, .int (iZ ((i : Nat) : Int))), (2, .int (iZ q)), (0, .ref g9), (1, .int (iZ a))]) hx hb dX7_cool_68 hl (by decide) rfl (fun ls hl => ?_)
          refine lv_aload_n hx hb dX7_cool_70 rfl (lv_at hl 3 rfl) ?_
          refine lv_iload_n hx hb dX7_cool_71 rfl (lv_at hl 1 rfl) ?_
          refine ro_V (As := [.int (iZ ((i : Nat) : Int))]) (rest := []) ⟨hx, hb, hml, hown, hts⟩ (c_X7_darkOf l G Y g9 af F A tr hV ((i : Nat) : Int) (by omega)) (cwV 1 hts gX7_cool_X7_darkOf rfl rfl rfl (by decide +kernel) ⟨Nat.le_of_ble_eq_true rfl, Nat.le_of_ble_eq_true rfl⟩) hK hP 0 rfl rfl rfl hl.1 rfl (Nat.le_of_ble_eq_true rfl) dX7_cool_72 ⟨Nat.zero_le _, Nat.zero_le _⟩ ?_
          have hb_5 := sdN_in (kF F A (A 17)) ((i : Nat) : Int) ((A 17) 3).toNat
          refine z_if_le (tgt := 87) hx hb dX7_cool_75 (by decide) (by omega) (fun c_6 => ?_) (fun c_6 => ?_)
          · skip
            refine lv_iload_n hx hb dX7_cool_87 rfl (lv_at hl 2 rfl) ?_
            refine lv_istore_n (lv' := [(2, .int (iZ q)), (4, .int (iZ 1)), (3, .int (iZ ((i : Nat) : Int))), (0, .ref g9), (1, .int (iZ a))]) hx hb dX7_cool_88 rfl hl (by decide) rfl (fun ls hl => ?_)
            refine lv_iinc (v := iZ ((i + 1 : Nat) : Int)) (lv' := [(3, .int (iZ ((i + 1 : Nat) : Int))), (2, .int (iZ q)), (4, .int (iZ 1)), (0, .ref g9), (1, .int (iZ a))]) hx hb dX7_cool_89 hl (k := 2) rfl (iZ_inc _) (by decide) rfl (fun ls hl => ?_)
            refine lv_goto (tgt := 15) hx hb dX7_cool_92 (by decide) ?_
            exact ih2 (ls := ls) (i := i + 1) (q := q) (hI := by first | (exfalso; omega) | (refine ⟨?_, by omega⟩; rw [xcS, ← hI.1, k02]; first | rw [if_pos (by omega)] | rw [if_neg (by omega)])) (hl := lv_sub hl [0, 1, 3, 4] rfl) (hn_ := by omega)
          · skip
            refine lv_iload hx hb dX7_cool_78 (lv_at hl 0 rfl) ?_
            refine z_if_eq (tgt := 87) hx hb dX7_cool_80 (by decide) (by omega) (fun c_7 => ?_) (fun c_7 => ?_)
            · skip
              refine lv_iload_n hx hb dX7_cool_87 rfl (lv_at hl 2 rfl) ?_
              refine lv_istore_n (lv' := [(2, .int (iZ q)), (4, .int (iZ 1)), (3, .int (iZ ((i : Nat) : Int))), (0, .ref g9), (1, .int (iZ a))]) hx hb dX7_cool_88 rfl hl (by decide) rfl (fun ls hl => ?_)
              refine lv_iinc (v := iZ ((i + 1 : Nat) : Int)) (lv' := [(3, .int (iZ ((i + 1 : Nat) : Int))), (2, .int (iZ q)), (4, .int (iZ 1)), (0, .ref g9), (1, .int (iZ a))]) hx hb dX7_cool_89 hl (k := 2) rfl (iZ_inc _) (by decide) rfl (fun ls hl => ?_)
              refine lv_goto (tgt := 15) hx hb dX7_cool_92 (by decide) ?_
              exact ih2 (ls := ls) (i := i + 1) (q := q) (hI := by first | (exfalso; omega) | (refine ⟨?_, by omega⟩; rw [xcS, ← hI.1, k02]; first | rw [if_pos (by omega)] | rw [if_neg (by omega)])) (hl := lv_sub hl [0, 1, 3, 4] rfl) (hn_ := by omega)
            · skip
              refine lv_iload_n hx hb dX7_cool_83 rfl (lv_at hl 1 rfl) ?_
              refine lv_goto (tgt := 88) hx hb dX7_cool_84 (by decide) ?_
              refine lv_istore_n (lv' := [(2, .int (iZ ((i : Nat) : Int))), (4, .int (iZ 1)), (3, .int (iZ ((i : Nat) : Int))), (0, .ref g9), (1, .int (iZ a))]) hx hb dX7_cool_88 rfl hl (by decide) rfl (fun ls hl => ?_)
              refine lv_iinc (v := iZ ((i + 1 : Nat) : Int)) (lv' := [(3, .int (iZ ((i + 1 : Nat) : Int))), (2, .int (iZ ((i : Nat) : Int))), (4, .int (iZ 1)), (0, .ref g9), (1, .int (iZ a))]) hx hb dX7_cool_89 hl (k := 2) rfl (iZ_inc _) (by decide) rfl (fun ls hl => ?_)
              refine lv_goto (tgt := 15) hx hb dX7_cool_92 (by decide) ?_
              exact ih2 (ls := ls) (i := i + 1) (q := ((i : Nat) : Int)) (hI := by first | (exfalso; omega) | (refine ⟨?_, by omega⟩; rw [xcS, ← hI.1, k02]; first | rw [if_pos (by omega)] | rw [if_neg (by omega)])) (hl := lv_sub hl [0, 1, 3, 4] rfl) (hn_ := by omega)
        · skip
          refine lv_aload_n hx hb dX7_cool_32 rfl (lv_at hl 2 rfl) ?_
          refine lv_iload_n hx hb dX7_cool_33 rfl (lv_at hl 0 rfl) ?_
          refine lv_aload_n hx hb dX7_cool_34 rfl (lv_at hl 2 rfl) ?_
          refine va_get (D := G) (ci := 7) (v := .ref (af 17)) (C := RX7) (T := TX7) (N := 29) hx hb hts hFX7 hown hK.1 hP 0 rfl rfl 17 (by decide) kf29 (fun _ h9 => h9) rfl dX7_cool_35 ?_
          refine z_bipush hx hb dX7_cool_38 (by decide) ?_
          refine lv_iload_n hx hb dX7_cool_40 rfl (lv_at hl 3 rfl) ?_
          refine z_iadd hx hb dX7_cool_41 ?_
          refine z_iald hx hb hK.1 hP 5 0 rfl rfl (((29 + a)).toNat) (by omega) (by decide) dX7_cool_42 ?_
          have e29_7 : ((29 + a)).toNat = 29 + a.toNat := by omega
          refine z_top (show (A 17) (((29 + a)).toNat) = (A 17) (29 + a.toNat) by rw [e29_7]) ?_
          refine ro_V (As := [.int (iZ ((i : Nat) : Int)), .int (iZ ((A 17) (29 + a.toNat)))]) (rest := []) ⟨hx, hb, hml, hown, hts⟩ (c_X7_steps l G Y g9 af F A tr ((i : Nat) : Int) ((A 17) (29 + a.toNat)) (by omega) (by omega)) (cwV 2 hts gX7_cool_X7_steps rfl rfl rfl (by decide +kernel) ⟨Nat.le_of_ble_eq_true rfl, Nat.le_of_ble_eq_true rfl⟩) hK hP 0 rfl rfl rfl hl.1 rfl (Nat.le_of_ble_eq_true rfl) dX7_cool_43 ⟨Nat.zero_le _, Nat.zero_le _⟩ ?_
          rw [show (zabs (((i : Nat) : Int) % F 13 - (A 17) (29 + a.toNat) % F 13) + zabs (((i : Nat) : Int) / F 13 - (A 17) (29 + a.toNat) / F 13)) = stp (kF F A (A 17)) ((A 17) (29 + a.toNat)) ((i : Nat) : Int) from stp_sym (K := kF F A (A 17))]
          have hb_9 := stp_in hW (a := (A 17) (29 + a.toNat)) (b := ((i : Nat) : Int)) (by omega) (by omega)
          refine lv_aload_n hx hb dX7_cool_46 rfl (lv_at hl 2 rfl) ?_
          refine lv_iload_n hx hb dX7_cool_47 rfl (lv_at hl 1 rfl) ?_
          refine lv_aload_n hx hb dX7_cool_48 rfl (lv_at hl 2 rfl) ?_
          refine va_get (D := G) (ci := 7) (v := .ref (af 17)) (C := RX7) (T := TX7) (N := 29) hx hb hts hFX7 hown hK.1 hP 0 rfl rfl 17 (by decide) kf29 (fun _ h9 => h9) rfl dX7_cool_49 ?_
          refine z_bipush hx hb dX7_cool_52 (by decide) ?_
          refine lv_iload_n hx hb dX7_cool_54 rfl (lv_at hl 3 rfl) ?_
          refine z_iadd hx hb dX7_cool_55 ?_
          refine z_iald hx hb hK.1 hP 5 0 rfl rfl (((29 + a)).toNat) (by omega) (by decide) dX7_cool_56 ?_
          have e29_9 : ((29 + a)).toNat = 29 + a.toNat := by omega
          refine z_top (show (A 17) (((29 + a)).toNat) = (A 17) (29 + a.toNat) by rw [e29_9]) ?_
          refine ro_V (As := [.int (iZ q), .int (iZ ((A 17) (29 + a.toNat)))]) (rest := [.int (iZ (stp (kF F A (A 17)) ((A 17) (29 + a.toNat)) ((i : Nat) : Int)))]) ⟨hx, hb, hml, hown, hts⟩ (c_X7_steps l G Y g9 af F A tr q ((A 17) (29 + a.toNat)) (by omega) (by omega)) (cwV 2 hts gX7_cool_X7_steps rfl rfl rfl (by decide +kernel) ⟨Nat.le_of_ble_eq_true rfl, Nat.le_of_ble_eq_true rfl⟩) hK hP 0 rfl rfl rfl hl.1 rfl (Nat.le_of_ble_eq_true rfl) dX7_cool_57 ⟨Nat.zero_le _, Nat.zero_le _⟩ ?_
          rw [show (zabs (q % F 13 - (A 17) (29 + a.toNat) % F 13) + zabs (q / F 13 - (A 17) (29 + a.toNat) / F 13)) = stp (kF F A (A 17)) ((A 17) (29 + a.toNat)) q from stp_sym (K := kF F A (A 17))]
          have hb_11 := stp_in hW (a := (A 17) (29 + a.toNat)) (b := q) (by omega) (by omega)
          refine z_icmp_ge (tgt := 67) hx hb dX7_cool_60 (by decide) (by omega) (fun c_12 => ?_) (fun c_12 => ?_)
          · skip
            refine z_iconst hx hb dX7_cool_67 ?_
            refine lv_istore (lv' := [(4, .int (iZ 0)), (3, .int (iZ ((i : Nat) : Int))), (2, .int (iZ q)), (0, .ref g9), (1, .int (iZ a))]) hx hb dX7_cool_68 hl (by decide) rfl (fun ls hl => ?_)
            refine lv_aload_n hx hb dX7_cool_70 rfl (lv_at hl 3 rfl) ?_
            refine lv_iload_n hx hb dX7_cool_71 rfl (lv_at hl 1 rfl) ?_
            refine ro_V (As := [.int (iZ ((i : Nat) : Int))]) (rest := []) ⟨hx, hb, hml, hown, hts⟩ (c_X7_darkOf l G Y g9 af F A tr hV ((i : Nat) : Int) (by omega)) (cwV 1 hts gX7_cool_X7_darkOf rfl rfl rfl (by decide +kernel) ⟨Nat.le_of_ble_eq_true rfl, Nat.le_of_ble_eq_true rfl⟩) hK hP 0 rfl rfl rfl hl.1 rfl (Nat.le_of_ble_eq_true rfl) dX7_cool_72 ⟨Nat.zero_le _, Nat.zero_le _⟩ ?_
            have hb_13 := sdN_in (kF F A (A 17)) ((i : Nat) : Int) ((A 17) 3).toNat
            refine z_if_le (tgt := 87) hx hb dX7_cool_75 (by decide) (by omega) (fun c_14 => ?_) (fun c_14 => ?_)
            · skip
              refine lv_iload_n hx hb dX7_cool_87 rfl (lv_at hl 2 rfl) ?_
              refine lv_istore_n (lv' := [(2, .int (iZ q)), (4, .int (iZ 0)), (3, .int (iZ ((i : Nat) : Int))), (0, .ref g9), (1, .int (iZ a))]) hx hb dX7_cool_88 rfl hl (by decide) rfl (fun ls hl => ?_)
              refine lv_iinc (v := iZ ((i + 1 : Nat) : Int)) (lv' := [(3, .int (iZ ((i + 1 : Nat) : Int))), (2, .int (iZ q)), (4, .int (iZ 0)), (0, .ref g9), (1, .int (iZ a))]) hx hb dX7_cool_89 hl (k := 2) rfl (iZ_inc _) (by decide) rfl (fun ls hl => ?_)
              refine lv_goto (tgt := 15) hx hb dX7_cool_92 (by decide) ?_
              exact ih2 (ls := ls) (i := i + 1) (q := q) (hI := by first | (exfalso; omega) | (refine ⟨?_, by omega⟩; rw [xcS, ← hI.1, k02]; first | rw [if_pos (by omega)] | rw [if_neg (by omega)])) (hl := lv_sub hl [0, 1, 3, 4] rfl) (hn_ := by omega)
            · skip
              refine lv_iload hx hb dX7_cool_78 (lv_at hl 0 rfl) ?_
              refine z_if_eq (tgt := 87) hx hb dX7_cool_80 (by decide) (by omega) (fun c_15 => ?_) (fun c_15 => ?_)
              · skip
                refine lv_iload_n hx hb dX7_cool_87 rfl (lv_at hl 2 rfl) ?_
                refine lv_istore_n (lv' := [(2, .int (iZ q)), (4, .int (iZ 0)), (3, .int (iZ ((i : Nat) : Int))), (0, .ref g9), (1, .int (iZ a))]) hx hb dX7_cool_88 rfl hl (by decide) rfl (fun ls hl => ?_)
                refine lv_iinc (v := iZ ((i + 1 : Nat) : Int)) (lv' := [(3, .int (iZ ((i + 1 : Nat) : Int))), (2, .int (iZ q)), (4, .int (iZ 0)), (0, .ref g9), (1, .int (iZ a))]) hx hb dX7_cool_89 hl (k := 2) rfl (iZ_inc _) (by decide) rfl (fun ls hl => ?_)
                refine lv_goto (tgt := 15) hx hb dX7_cool_92 (by decide) ?_
                exact ih2 (ls := ls) (i := i + 1) (q := q) (hI := by first | (exfalso; omega) | (refine ⟨?_, by omega⟩; rw [xcS, ← hI.1, k02]; first | rw [if_pos (by omega)] | rw [if_neg (by omega)])) (hl := lv_sub hl [0, 1, 3, 4] rfl) (hn_ := by omega)
              · skip
                refine lv_iload_n hx hb dX7_cool_83 rfl (lv_at hl 1 rfl) ?_
                refine lv_goto (tgt := 88) hx hb dX7_cool_84 (by decide) ?_
                refine lv_istore_n (lv' := [(2, .int (iZ ((i : Nat) : Int))), (4, .int (iZ 0)), (3, .int (iZ ((i : Nat) : Int))), (0, .ref g9), (1, .int (iZ a))]) hx hb dX7_cool_88 rfl hl (by decide) rfl (fun ls hl => ?_)
                refine lv_iinc (v := iZ ((i + 1 : Nat) : Int)) (lv' := [(3, .int (iZ ((i + 1 : Nat) : Int))), (2, .int (iZ ((i : Nat) : Int))), (4, .int (iZ 0)), (0, .ref g9), (1, .int (iZ a))]) hx hb dX7_cool_89 hl (k := 2) rfl (iZ_inc _) (by decide) rfl (fun ls hl => ?_)
                refine lv_goto (tgt := 15) hx hb dX7_cool_92 (by decide) ?_
                exact ih2 (ls := ls) (i := i + 1) (q := ((i : Nat) : Int)) (hI := by first | (exfalso; omega) | (refine ⟨?_, by omega⟩; rw [xcS, ← hI.1, k02]; first | rw [if_pos (by omega)] | rw [if_neg (by omega)])) (hl := lv_sub hl [0, 1, 3, 4] rfl) (hn_ := by omega)
          · skip
            refine z_iconst hx hb dX7_cool_63 ?_
            refine lv_goto (tgt := 68) hx hb dX7_cool_64 (by decide) ?_
            refine lv_istore (lv' := [(4, .int (iZ 1)), (3, .int (iZ ((i : Nat) : Int))), (2, .int (iZ q)), (0, .ref g9), (1, .int (iZ a))]) hx hb dX7_cool_68 hl (by decide) rfl (fun ls hl => ?_)
            refine lv_aload_n hx hb dX7_cool_70 rfl (lv_at hl 3 rfl) ?_
            refine lv_iload_n hx hb dX7_cool_71 rfl (lv_at hl 1 rfl) ?_
            refine ro_V (As := [.int (iZ ((i : Nat) : Int))]) (rest := []) ⟨hx, hb, hml, hown, hts⟩ (c_X7_darkOf l G Y g9 af F A tr hV ((i : Nat) : Int) (by omega)) (cwV 1 hts gX7_cool_X7_darkOf rfl rfl rfl (by decide +kernel) ⟨Nat.le_of_ble_eq_true rfl, Nat.le_of_ble_eq_true rfl⟩) hK hP 0 rfl rfl rfl hl.1 rfl (Nat.le_of_ble_eq_true rfl) dX7_cool_72 ⟨Nat.zero_le _, Nat.zero_le _⟩ ?_
            have hb_16 := sdN_in (kF F A (A 17)) ((i : Nat) : Int) ((A 17) 3).toNat
            refine z_if_le (tgt := 87) hx hb dX7_cool_75 (by decide) (by omega) (fun c_17 => ?_) (fun c_17 => ?_)
            · skip
              refine lv_iload_n hx hb dX7_cool_87 rfl (lv_at hl 2 rfl) ?_
              refine lv_istore_n (lv' := [(2, .int (iZ q)), (4, .int (iZ 1)), (3, .int (iZ ((i : Nat) : Int))), (0, .ref g9), (1, .int (iZ a))]) hx hb dX7_cool_88 rfl hl (by decide) rfl (fun ls hl => ?_)
              refine lv_iinc (v := iZ ((i + 1 : Nat) : Int)) (lv' := [(3, .int (iZ ((i + 1 : Nat) : Int))), (2, .int (iZ q)), (4, .int (iZ 1)), (0, .ref g9), (1, .int (iZ a))]) hx hb dX7_cool_89 hl (k := 2) rfl (iZ_inc _) (by decide) rfl (fun ls hl => ?_)
              refine lv_goto (tgt := 15) hx hb dX7_cool_92 (by decide) ?_
              exact ih2 (ls := ls) (i := i + 1) (q := q) (hI := by first | (exfalso; omega) | (refine ⟨?_, by omega⟩; rw [xcS, ← hI.1, k02]; first | rw [if_pos (by omega)] | rw [if_neg (by omega)])) (hl := lv_sub hl [0, 1, 3, 4] rfl) (hn_ := by omega)
            · skip
              refine lv_iload hx hb dX7_cool_78 (lv_at hl 0 rfl) ?_
              refine z_if_eq (tgt := 87) hx hb dX7_cool_80 (by decide) (by omega) (fun c_18 => ?_) (fun c_18 => ?_)
              · skip
                refine lv_iload_n hx hb dX7_cool_87 rfl (lv_at hl 2 rfl) ?_
                refine lv_istore_n (lv' := [(2, .int (iZ q)), (4, .int (iZ 1)), (3, .int (iZ ((i : Nat) : Int))), (0, .ref g9), (1, .int (iZ a))]) hx hb dX7_cool_88 rfl hl (by decide) rfl (fun ls hl => ?_)
                refine lv_iinc (v := iZ ((i + 1 : Nat) : Int)) (lv' := [(3, .int (iZ ((i + 1 : Nat) : Int))), (2, .int (iZ q)), (4, .int (iZ 1)), (0, .ref g9), (1, .int (iZ a))]) hx hb dX7_cool_89 hl (k := 2) rfl (iZ_inc _) (by decide) rfl (fun ls hl => ?_)
                refine lv_goto (tgt := 15) hx hb dX7_cool_92 (by decide) ?_
                exact ih2 (ls := ls) (i := i + 1) (q := q) (hI := by first | (exfalso; omega) | (refine ⟨?_, by omega⟩; rw [xcS, ← hI.1, k02]; first | rw [if_pos (by omega)] | rw [if_neg (by omega)])) (hl := lv_sub hl [0, 1, 3, 4] rfl) (hn_ := by omega)
              · skip
                refine lv_iload_n hx hb dX7_cool_83 rfl (lv_at hl 1 rfl) ?_
                refine lv_goto (tgt := 88) hx hb dX7_cool_84 (by decide) ?_
                refine lv_istore_n (lv' := [(2, .int (iZ ((i : Nat) : Int))), (4, .int (iZ 1)), (3, .int (iZ ((i : Nat) : Int))), (0, .ref g9), (1, .int (iZ a))]) hx hb dX7_cool_88 rfl hl (by decide) rfl (fun ls hl => ?_)
                refine lv_iinc (v := iZ ((i + 1 : Nat) : Int)) (lv' := [(3, .int (iZ ((i + 1 : Nat) : Int))), (2, .int (iZ ((i : Nat) : Int))), (4, .int (iZ 1)), (0, .ref g9), (1, .int (iZ a))]) hx hb dX7_cool_89 hl (k := 2) rfl (iZ_inc _) (by decide) rfl (fun ls hl => ?_)
                refine lv_goto (tgt := 15) hx hb dX7_cool_92 (by decide) ?_
                exact ih2 (ls := ls) (i := i + 1) (q := ((i : Nat) : Int)) (hI := by first | (exfalso; omega) | (refine ⟨?_, by omega⟩; rw [xcS, ← hI.1, k02]; first | rw [if_pos (by omega)] | rw [if_neg (by omega)])) (hl := lv_sub hl [0, 1, 3, 4] rfl) (hn_ := by omega)
  · skip
    have c_1 := of_decide_eq_false c_1
    refine z_iconst hx hb dX7_cool_8 ?_
    refine z_top (show (-1) = xCool (kF F A (A 17)) a from ?_) ?_
    · unfold xCool; (repeat' split) <;> first | rfl | omega | (simp_all; done)
    exact W.iret (v := iZ (xCool (kF F A (A 17)) a)) hx hb hr (fun t9 ht9 _ => ⟨rfl, ht9⟩) (fun q h => absurd h List.not_mem_nil) dX7_cool_9

set_option maxHeartbeats 4000000 in
set_option maxRecDepth 100000 in
theorem c_X7_odds (l : Launch) (G : va_G) (Y : Nat → ClassId) (g9 : Nat) (af : Nat → Nat) (F : Nat → Int) (A : Kom) (tr : Int64) (hV : mV F A (A 17)) (hno : F 26 < 0) (a b d : Int) (r : (zR a ∧ zR b) ∧ zR d) : Met l yX7_odds wsX7_odds ({ frames := 5, cells := 0, slots := 0, locals := 123 }) (rP G Y [.ref g9, .int (iZ a), .int (iZ b), .int (iZ d)] (moW Y g9 af F A tr)) (rQ (.int (iZ (xOdds (kF F A (A 17)) a b d)))) 0 0 (fun _ => False) := by
  refine Met.ofW (cc := cX7_odds) (maxL := 9) (ret := (some .int)) (by decide) rfl ?_
  intro p e s m args below meth c s₁ B hml hv
  obtain ⟨rfl, hK, hP⟩ := hv
  have hx := B.exec
  have hb := B.bytes
  have hr := B.returns
  have hts := atoms_spec (ws := wsX7_odds) B.pre
  have hown : s.vm.findClass RX7 = some m.cls := findClass_of_methodNamed B.named
  have hlocks := B.notSynchronized
  have hFX7 : ∀ w ∈ wsX70, w ∈ wsX7_odds := by decide +kernel
  have kf55 := (hts (.fieldLink RX7 55 "ShadeVotesModel" "people" "I") (by decide +kernel))
  have kf29 := (hts (.fieldLink RX7 29 "ShadeVotesModel" "now" "[I") (by decide +kernel))
  have hl := lv_entry ([.ref g9, .int (iZ a), .int (iZ b), .int (iZ d)]) (n := 9) (Nat.le_of_ble_eq_true rfl)
  rw [lg_entry_eq]
  generalize (lg_sl ([.ref g9, .int (iZ a), .int (iZ b), .int (iZ d)]) ++ List.replicate (9 - (lg_sl ([.ref g9, .int (iZ a), .int (iZ b), .int (iZ d)])).length) Slot.unset).toArray = ls at hl ⊢
  replace hl : lv_has ls 9 [(0, .ref g9), (1, .int (iZ a)), (2, .int (iZ b)), (3, .int (iZ d))] := hl
  have v3 := hV.2.2.1
  have v7 := hV.2.2.2.2.2.2.1
  have v8 := hV.2.2.2.2.2.2.2.1
  have v5 := hV.2.1
  have v4 := hV.2.2.2.1
  have k00 : kF F A (A 17) 0 0 = F 13 := rfl
  have k01 : kF F A (A 17) 0 1 = F 14 := rfl
  have k02 : kF F A (A 17) 0 2 = A 17 3 := rfl
  have k03 : kF F A (A 17) 0 3 = F 15 := rfl
  have k04 : kF F A (A 17) 0 4 = A 17 1 := rfl
  have k05 : kF F A (A 17) 0 5 = A 17 0 := rfl
  have k06 : kF F A (A 17) 0 6 = A 17 2 := rfl
  have kpr : kF F A (A 17) 0 0 * kF F A (A 17) 0 1 = F 13 * F 14 := rfl
  have hW := hV.1
  have hp2 := p2_in (F 15).toNat (by omega)
  have ht9 := ten_in (F 15).toNat (by omega)
  refine lv_iload_n hx hb dX7_odds_0 rfl (lv_at hl 1 rfl) ?_
  refine z_iconst hx hb dX7_odds_1 ?_
  refine z_iconst hx hb dX7_odds_2 ?_
  refine ro_S (As := [.int (iZ a), .int (iZ 0), .int (iZ 2)]) (rest := []) ⟨hx, hb, hml, hown, hts⟩ (c_X7_in l G Y a 0 2 (by omega)) (cwS 3 hts gX7_odds_X7_in rfl rfl rfl (by decide +kernel) ⟨Nat.le_of_ble_eq_true rfl, Nat.le_of_ble_eq_true rfl⟩) hK (hP.sub (ws' := []) [] rfl) rfl hl.1 rfl (Nat.le_of_ble_eq_true rfl) dX7_odds_3 ⟨Nat.zero_le _, Nat.zero_le _⟩ ?_
  refine z_ifb_eq (tgt := 28) hx hb dX7_odds_6 (by decide) (fun c_1 => ?_) (fun c_1 => ?_)
  · skip
    have c_1 := of_decide_eq_false c_1
    refine z_iconst hx hb dX7_odds_28 ?_
    refine z_top (show (-1) = xOdds (kF F A (A 17)) a b d from ?_) ?_
    · unfold xOdds; (repeat' split) <;> first | rfl | omega | (simp_all; done)
    exact W.iret (v := iZ (xOdds (kF F A (A 17)) a b d)) hx hb hr (fun t9 ht9 _ => ⟨rfl, ht9⟩) (fun q h => absurd h List.not_mem_nil) dX7_odds_29
  · skip
    have c_1 := of_decide_eq_true c_1
    refine lv_iload_n hx hb dX7_odds_9 rfl (lv_at hl 2 rfl) ?_
    refine z_iconst hx hb dX7_odds_10 ?_
    refine z_bipush hx hb dX7_odds_11 (by decide) ?_
    refine ro_S (As := [.int (iZ b), .int (iZ 0), .int (iZ 10)]) (rest := []) ⟨hx, hb, hml, hown, hts⟩ (c_X7_in l G Y b 0 10 (by omega)) (cwS 3 hts gX7_odds_X7_in rfl rfl rfl (by decide +kernel) ⟨Nat.le_of_ble_eq_true rfl, Nat.le_of_ble_eq_true rfl⟩) hK (hP.sub (ws' := []) [] rfl) rfl hl.1 rfl (Nat.le_of_ble_eq_true rfl) dX7_odds_13 ⟨Nat.zero_le _, Nat.zero_le _⟩ ?_
    refine z_ifb_eq (tgt := 28) hx hb dX7_odds_16 (by decide) (fun c_2 => ?_) (fun c_2 => ?_)
    · skip
      have c_2 := of_decide_eq_false c_2
      refine z_iconst hx hb dX7_odds_28 ?_
      refine z_top (show (-1) = xOdds (kF F A (A 17)) a b d from ?_) ?_
      · unfold xOdds; (repeat' split) <;> first | rfl | omega | (simp_all; done)
      exact W.iret (v := iZ (xOdds (kF F A (A 17)) a b d)) hx hb hr (fun t9 ht9 _ => ⟨rfl, ht9⟩) (fun q h => absurd h List.not_mem_nil) dX7_odds_29
    · skip
      have c_2 := of_decide_eq_true c_2
      refine lv_iload_n hx hb dX7_odds_19 rfl (lv_at hl 3 rfl) ?_
      refine z_iconst hx hb dX7_odds_20 ?_
      refine z_iconst hx hb dX7_odds_21 ?_
      refine ro_S (As := [.int (iZ d), .int (iZ 0), .int (iZ 1)]) (rest := []) ⟨hx, hb, hml, hown, hts⟩ (c_X7_in l G Y d 0 1 (by omega)) (cwS 3 hts gX7_odds_X7_in rfl rfl rfl (by decide +kernel) ⟨Nat.le_of_ble_eq_true rfl, Nat.le_of_ble_eq_true rfl⟩) hK (hP.sub (ws' := []) [] rfl) rfl hl.1 rfl (Nat.le_of_ble_eq_true rfl) dX7_odds_22 ⟨Nat.zero_le _, Nat.zero_le _⟩ ?_
      refine z_ifb_ne (tgt := 30) hx hb dX7_odds_25 (by decide) (fun c_3 => ?_) (fun c_3 => ?_)
      · skip
        have c_3 := of_decide_eq_true c_3
        refine z_iconst hx hb dX7_odds_30 ?_
        refine lv_istore (lv' := [(4, .int (iZ 0)), (0, .ref g9), (1, .int (iZ a)), (2, .int (iZ b)), (3, .int (iZ d))]) hx hb dX7_odds_31 hl (by decide) rfl (fun ls hl => ?_)
        refine z_iconst hx hb dX7_odds_33 ?_
        refine lv_istore (lv' := [(5, .int (iZ 1)), (4, .int (iZ 0)), (0, .ref g9), (1, .int (iZ a)), (2, .int (iZ b)), (3, .int (iZ d))]) hx hb dX7_odds_34 hl (by decide) rfl (fun ls hl => ?_)
        refine z_iconst hx hb dX7_odds_36 ?_
        refine lv_istore (lv' := [(6, .int (iZ 0)), (5, .int (iZ 1)), (4, .int (iZ 0)), (0, .ref g9), (1, .int (iZ a)), (2, .int (iZ b)), (3, .int (iZ d))]) hx hb dX7_odds_37 hl (by decide) rfl (fun ls hl => ?_)
        obtain ⟨i, dn, hI, hl1⟩ : ∃ (i : Nat) (dn : Int), (dn = 10 ^ i ∧ (i : Int) ≤ F 15) ∧ lv_has ls 9 [(6, .int (iZ ((i : Nat) : Int))), (5, .int (iZ dn)), (4, .int (iZ 0)), (0, .ref g9), (1, .int (iZ a)), (2, .int (iZ b)), (3, .int (iZ d))] := ⟨0, 1, by exact ⟨rfl, by omega⟩, lv_sub hl [0, 1, 2, 3, 4, 5, 6] rfl⟩
        clear hl
        have hl := hl1
        clear hl1
        obtain ⟨n_, hn_⟩ : ∃ n_ : Nat, (F 15).toNat - i < n_ := ⟨_, Nat.lt_succ_self _⟩
        induction n_ generalizing i dn ls with
        | zero => exact absurd hn_ (Nat.not_lt_zero _)
        | succ n_ ih4 =>
          refine lv_iload hx hb dX7_odds_39 (lv_at hl 0 rfl) ?_
          refine lv_aload_n hx hb dX7_odds_41 rfl (lv_at hl 3 rfl) ?_
          refine va_get (D := G) (ci := 7) (v := .int (iZ (F 15))) (C := RX7) (T := TX7) (N := 29) hx hb hts hFX7 hown hK.1 hP 0 rfl rfl 15 (by decide) kf55 (fun _ h9 => h9) rfl dX7_odds_42 ?_
          refine z_icmp_ge (tgt := 61) hx hb dX7_odds_45 (by decide) (by omega) (fun c_5 => ?_) (fun c_5 => ?_)
          · skip
            have hdn : dn = 10 ^ (F 15).toNat := by rw [hI.1, show i = (F 15).toNat by omega]
            refine z_iconst hx hb dX7_odds_61 ?_
            refine lv_istore (lv' := [(6, .int (iZ 0)), (5, .int (iZ dn)), (4, .int (iZ 0)), (0, .ref g9), (1, .int (iZ a)), (2, .int (iZ b)), (3, .int (iZ d))]) hx hb dX7_odds_62 hl (by decide) rfl (fun ls hl => ?_)
            obtain ⟨z, up, hI, hl1⟩ : ∃ (z : Nat) (up : Int), (up = upN (kF F A (A 17)) a.toNat b z ∧ z ≤ 2 ^ (F 15).toNat) ∧ lv_has ls 9 [(6, .int (iZ ((z : Nat) : Int))), (4, .int (iZ up)), (5, .int (iZ dn)), (0, .ref g9), (1, .int (iZ a)), (2, .int (iZ b)), (3, .int (iZ d))] := ⟨0, 0, by exact ⟨rfl, Nat.zero_le _⟩, lv_sub hl [0, 2, 1, 3, 4, 5, 6] rfl⟩
            clear hl
            have hl := hl1
            clear hl1
            obtain ⟨n_, hn_⟩ : ∃ n_ : Nat, 2 ^ (F 15).toNat - z < n_ := ⟨_, Nat.lt_succ_self _⟩
            induction n_ generalizing z up ls with
            | zero => exact absurd hn_ (Nat.not_lt_zero _)
            | succ n_ ih6 =>
              refine lv_iload hx hb dX7_odds_64 (lv_at hl 0 rfl) ?_
              refine lv_aload_n hx hb dX7_odds_66 rfl (lv_at hl 3 rfl) ?_
              refine ro_V (As := []) (rest := [.int (iZ ((z : Nat) : Int))]) ⟨hx, hb, hml, hown, hts⟩ (c_X7_everybody l G Y g9 af F A tr (by omega)) (cwV 0 hts gX7_odds_X7_everybody rfl rfl rfl (by decide +kernel) ⟨Nat.le_of_ble_eq_true rfl, Nat.le_of_ble_eq_true rfl⟩) hK hP 0 rfl rfl rfl hl.1 rfl (Nat.le_of_ble_eq_true rfl) dX7_odds_67 ⟨Nat.zero_le _, Nat.zero_le _⟩ ?_
              refine z_icmp_gt (tgt := 148) hx hb dX7_odds_70 (by decide) (by omega) (fun c_7 => ?_) (fun c_7 => ?_)
              · skip
                have hup := upN_in (K := kF F A (A 17)) (mo := a.toNat) (q := b) (by omega) (by rw [k03]; omega) z
                have hz9 : z = 2 ^ (F 15).toNat := by omega
                have hup2 : up = upN (kF F A (A 17)) a.toNat b (2 ^ (F 15).toNat) := by rw [hI.1, hz9]
                refine lv_iload hx hb dX7_odds_148 (lv_at hl 1 rfl) ?_
                refine z_top (show up = ((up.toNat : Nat) : Int) by omega) ?_
                refine lv_istore (lv' := [(6, .int (iZ ((up.toNat : Nat) : Int))), (4, .int (iZ up)), (5, .int (iZ dn)), (0, .ref g9), (1, .int (iZ a)), (2, .int (iZ b)), (3, .int (iZ d))]) hx hb dX7_odds_150 hl (by decide) rfl (fun ls hl => ?_)
                refine lv_iload hx hb dX7_odds_152 (lv_at hl 2 rfl) ?_
                refine z_top (show dn = ((dn.toNat : Nat) : Int) by omega) ?_
                refine lv_istore (lv' := [(7, .int (iZ ((dn.toNat : Nat) : Int))), (6, .int (iZ ((up.toNat : Nat) : Int))), (4, .int (iZ up)), (5, .int (iZ dn)), (0, .ref g9), (1, .int (iZ a)), (2, .int (iZ b)), (3, .int (iZ d))]) hx hb dX7_odds_154 hl (by decide) rfl (fun ls hl => ?_)
                obtain ⟨u, v, hI, hl1⟩ : ∃ (u : Nat) (v : Nat), (Nat.gcd u v = Nat.gcd up.toNat dn.toNat ∧ u ≤ 2147483647 ∧ v ≤ 2147483647) ∧ lv_has ls 9 [(6, .int (iZ ((u : Nat) : Int))), (7, .int (iZ ((v : Nat) : Int))), (4, .int (iZ up)), (5, .int (iZ dn)), (0, .ref g9), (1, .int (iZ a)), (2, .int (iZ b)), (3, .int (iZ d))] := ⟨up.toNat, dn.toNat, by exact ⟨rfl, by omega, by omega⟩, lv_sub hl [1, 0, 2, 3, 4, 5, 6, 7] rfl⟩
                clear hl
                have hl := hl1
                clear hl1
                obtain ⟨n_, hn_⟩ : ∃ n_ : Nat, v < n_ := ⟨_, Nat.lt_succ_self _⟩
                induction n_ generalizing u v ls with
                | zero => exact absurd hn_ (Nat.not_lt_zero _)
                | succ n_ ih8 =>
                  refine lv_iload hx hb dX7_odds_156 (lv_at hl 1 rfl) ?_
                  refine z_if_le (tgt := 179) hx hb dX7_odds_158 (by decide) (by omega) (fun c_9 => ?_) (fun c_9 => ?_)
                  · skip
                    have hv0 : v = 0 := by omega
                    have hu9 : u = Nat.gcd up.toNat dn.toNat := by rw [← hI.1, hv0, Nat.gcd_zero_right]
                    have hu0 : 0 < u := by rw [hu9]; exact Nat.gcd_pos_of_pos_right _ (by omega)
                    refine lv_iload_n hx hb dX7_odds_179 rfl (lv_at hl 7 rfl) ?_
                    refine z_if_ne (tgt := 188) hx hb dX7_odds_180 (by decide) (by omega) (fun c_10 => ?_) (fun c_10 => ?_)
                    · skip
                      refine lv_iload hx hb dX7_odds_188 (lv_at hl 3 rfl) ?_
                      refine lv_iload hx hb dX7_odds_190 (lv_at hl 0 rfl) ?_
                      refine z_idiv hx hb dX7_odds_192 (by omega) ?_
                      refine z_top (show (dn / ((u : Nat) : Int)) = xOdds (kF F A (A 17)) a b d from ?_) ?_
                      · unfold xOdds gdc; rw [if_pos (by omega), k03, ← hup2, ← hdn, ← hu9]; first | rw [if_pos (by omega)] | rw [if_neg (by omega)]
                      exact W.iret (v := iZ (xOdds (kF F A (A 17)) a b d)) hx hb hr (fun t9 ht9 _ => ⟨rfl, ht9⟩) (fun q h => absurd h List.not_mem_nil) dX7_odds_193
                    · skip
                      refine lv_iload hx hb dX7_odds_183 (lv_at hl 2 rfl) ?_
                      refine lv_goto (tgt := 190) hx hb dX7_odds_185 (by decide) ?_
                      refine lv_iload hx hb dX7_odds_190 (lv_at hl 0 rfl) ?_
                      refine z_idiv hx hb dX7_odds_192 (by omega) ?_
                      refine z_top (show (up / ((u : Nat) : Int)) = xOdds (kF F A (A 17)) a b d from ?_) ?_
                      · unfold xOdds gdc; rw [if_pos (by omega), k03, ← hup2, ← hdn, ← hu9]; first | rw [if_pos (by omega)] | rw [if_neg (by omega)]
                      exact W.iret (v := iZ (xOdds (kF F A (A 17)) a b d)) hx hb hr (fun t9 ht9 _ => ⟨rfl, ht9⟩) (fun q h => absurd h List.not_mem_nil) dX7_odds_193
                  · skip
                    refine lv_iload hx hb dX7_odds_161 (lv_at hl 0 rfl) ?_
                    refine lv_iload hx hb dX7_odds_163 (lv_at hl 1 rfl) ?_
                    refine z_irem hx hb dX7_odds_165 (by omega) ?_
                    refine z_top (show (((u : Nat) : Int) % ((v : Nat) : Int)) = ((u % v : Nat) : Int) from rfl) ?_
                    refine lv_istore (lv' := [(8, .int (iZ ((u % v : Nat) : Int))), (6, .int (iZ ((u : Nat) : Int))), (7, .int (iZ ((v : Nat) : Int))), (4, .int (iZ up)), (5, .int (iZ dn)), (0, .ref g9), (1, .int (iZ a)), (2, .int (iZ b)), (3, .int (iZ d))]) hx hb dX7_odds_166 hl (by decide) rfl (fun ls hl => ?_)
                    refine lv_iload hx hb dX7_odds_168 (lv_at hl 2 rfl) ?_
                    refine lv_istore (lv' := [(6, .int (iZ ((v : Nat) : Int))), (8, .int (iZ ((u % v : Nat) : Int))), (7, .int (iZ ((v : Nat) : Int))), (4, .int (iZ up)), (5, .int (iZ dn)), (0, .ref g9), (1, .int (iZ a)), (2, .int (iZ b)), (3, .int (iZ d))]) hx hb dX7_odds_170 hl (by decide) rfl (fun ls hl => ?_)
                    refine lv_iload hx hb dX7_odds_172 (lv_at hl 1 rfl) ?_
                    refine lv_istore (lv' := [(7, .int (iZ ((u % v : Nat) : Int))), (6, .int (iZ ((v : Nat) : Int))), (8, .int (iZ ((u % v : Nat) : Int))), (4, .int (iZ up)), (5, .int (iZ dn)), (0, .ref g9), (1, .int (iZ a)), (2, .int (iZ b)), (3, .int (iZ d))]) hx hb dX7_odds_174 hl (by decide) rfl (fun ls hl => ?_)
                    refine lv_goto (tgt := 156) hx hb dX7_odds_176 (by decide) ?_
                    exact ih8 (ls := ls) (u := v) (v := u % v) (hI := by have hm9 := Nat.mod_lt u (show 0 < v by omega); exact ⟨by rw [← hI.1, Nat.gcd_comm u v, Nat.gcd_rec v u, Nat.gcd_comm], by omega, by omega⟩) (hl := lv_sub hl [1, 0, 3, 4, 5, 6, 7, 8] rfl) (hn_ := by exact Nat.lt_of_lt_of_le (Nat.mod_lt u (show 0 < v by omega)) (by omega))
              · skip
                have hJ := hI
                refine z_iconst hx hb dX7_odds_73 ?_
                refine lv_istore (lv' := [(7, .int (iZ 1)), (6, .int (iZ ((z : Nat) : Int))), (4, .int (iZ up)), (5, .int (iZ dn)), (0, .ref g9), (1, .int (iZ a)), (2, .int (iZ b)), (3, .int (iZ d))]) hx hb dX7_odds_74 hl (by decide) rfl (fun ls hl => ?_)
                refine z_iconst hx hb dX7_odds_76 ?_
                refine lv_istore (lv' := [(8, .int (iZ 0)), (7, .int (iZ 1)), (6, .int (iZ ((z : Nat) : Int))), (4, .int (iZ up)), (5, .int (iZ dn)), (0, .ref g9), (1, .int (iZ a)), (2, .int (iZ b)), (3, .int (iZ d))]) hx hb dX7_odds_77 hl (by decide) rfl (fun ls hl => ?_)
                obtain ⟨j, od, hI, hl1⟩ : ∃ (j : Nat) (od : Int), (od = prN b z j ∧ (j : Int) ≤ F 15) ∧ lv_has ls 9 [(8, .int (iZ ((j : Nat) : Int))), (7, .int (iZ od)), (6, .int (iZ ((z : Nat) : Int))), (4, .int (iZ up)), (5, .int (iZ dn)), (0, .ref g9), (1, .int (iZ a)), (2, .int (iZ b)), (3, .int (iZ d))] := ⟨0, 1, by exact ⟨rfl, by omega⟩, lv_sub hl [0, 1, 2, 3, 4, 5, 6, 7, 8] rfl⟩
                clear hl
                have hl := hl1
                clear hl1
                obtain ⟨n_, hn_⟩ : ∃ n_ : Nat, (F 15).toNat - j < n_ := ⟨_, Nat.lt_succ_self _⟩
                induction n_ generalizing j od ls with
                | zero => exact absurd hn_ (Nat.not_lt_zero _)
                | succ n_ ih11 =>
                  refine lv_iload hx hb dX7_odds_79 (lv_at hl 0 rfl) ?_
                  refine lv_aload_n hx hb dX7_odds_81 rfl (lv_at hl 5 rfl) ?_
                  refine va_get (D := G) (ci := 7) (v := .int (iZ (F 15))) (C := RX7) (T := TX7) (N := 29) hx hb hts hFX7 hown hK.1 hP 0 rfl rfl 15 (by decide) kf55 (fun _ h9 => h9) rfl dX7_odds_82 ?_
                  refine z_icmp_ge (tgt := 117) hx hb dX7_odds_85 (by decide) (by omega) (fun c_12 => ?_) (fun c_12 => ?_)
                  · skip
                    have hod : od = prN b z (F 15).toNat := by rw [hI.1, show j = (F 15).toNat by omega]
                    refine lv_iload hx hb dX7_odds_117 (lv_at hl 3 rfl) ?_
                    refine lv_aload_n hx hb dX7_odds_119 rfl (lv_at hl 5 rfl) ?_
                    refine lv_aload_n hx hb dX7_odds_120 rfl (lv_at hl 5 rfl) ?_
                    refine va_get (D := G) (ci := 7) (v := .ref (af 17)) (C := RX7) (T := TX7) (N := 29) hx hb hts hFX7 hown hK.1 hP 0 rfl rfl 17 (by decide) kf29 (fun _ h9 => h9) rfl dX7_odds_121 ?_
                    refine lv_iload_n hx hb dX7_odds_124 rfl (lv_at hl 6 rfl) ?_
                    refine lv_iload hx hb dX7_odds_125 (lv_at hl 2 rfl) ?_
                    refine ro_V (As := [.ref (af 17), .int (iZ a), .int (iZ ((z : Nat) : Int))]) (rest := [.int (iZ up)]) ⟨hx, hb, hml, hown, hts⟩ (c_X7_balance l G Y g9 af F A tr (af 17) 5 36 (A 17) rfl (by decide) hV a z (by omega)) (cwV 3 hts gX7_odds_X7_balance rfl rfl rfl (by decide +kernel) ⟨Nat.le_of_ble_eq_true rfl, Nat.le_of_ble_eq_true rfl⟩) hK hP 0 rfl rfl rfl hl.1 rfl (Nat.le_of_ble_eq_true rfl) dX7_odds_127 ⟨Nat.zero_le _, Nat.zero_le _⟩ ?_
                    rw [kM_no hno]
                    have hb_13 := blN_in (kM_WF hV) (a).toNat z (F 15).toNat (by omega)
                    rw [kM_no hno] at hb_13
                    refine z_if_le (tgt := 138) hx hb dX7_odds_130 (by decide) (by omega) (fun c_17 => ?_) (fun c_17 => ?_)
                    · skip
                      refine z_iconst hx hb dX7_odds_138 ?_
                      refine z_iadd hx hb dX7_odds_139 ?_
                      refine lv_istore (lv' := [(4, .int (iZ (up + 0))), (8, .int (iZ ((j : Nat) : Int))), (7, .int (iZ od)), (6, .int (iZ ((z : Nat) : Int))), (5, .int (iZ dn)), (0, .ref g9), (1, .int (iZ a)), (2, .int (iZ b)), (3, .int (iZ d))]) hx hb dX7_odds_140 hl (by decide) rfl (fun ls hl => ?_)
                      refine lv_iinc (v := iZ ((z + 1 : Nat) : Int)) (lv' := [(6, .int (iZ ((z + 1 : Nat) : Int))), (4, .int (iZ (up + 0))), (8, .int (iZ ((j : Nat) : Int))), (7, .int (iZ od)), (5, .int (iZ dn)), (0, .ref g9), (1, .int (iZ a)), (2, .int (iZ b)), (3, .int (iZ d))]) hx hb dX7_odds_142 hl (k := 3) rfl (iZ_inc _) (by decide) rfl (fun ls hl => ?_)
                      refine lv_goto (tgt := 64) hx hb dX7_odds_145 (by decide) ?_
                      exact ih6 (ls := ls) (z := z + 1) (up := (up + 0)) (hI := by refine ⟨?_, by omega⟩; rw [upN, k03, ← hJ.1, ← hod]; first | rw [if_pos (by omega)] | rw [if_neg (by omega)]) (hl := lv_sub hl [0, 1, 4, 5, 6, 7, 8] rfl) (hn_ := by omega)
                    · skip
                      refine lv_iload hx hb dX7_odds_133 (lv_at hl 1 rfl) ?_
                      refine lv_goto (tgt := 139) hx hb dX7_odds_135 (by decide) ?_
                      refine z_iadd hx hb dX7_odds_139 ?_
                      refine lv_istore (lv' := [(4, .int (iZ (up + od))), (8, .int (iZ ((j : Nat) : Int))), (7, .int (iZ od)), (6, .int (iZ ((z : Nat) : Int))), (5, .int (iZ dn)), (0, .ref g9), (1, .int (iZ a)), (2, .int (iZ b)), (3, .int (iZ d))]) hx hb dX7_odds_140 hl (by decide) rfl (fun ls hl => ?_)
                      refine lv_iinc (v := iZ ((z + 1 : Nat) : Int)) (lv' := [(6, .int (iZ ((z + 1 : Nat) : Int))), (4, .int (iZ (up + od))), (8, .int (iZ ((j : Nat) : Int))), (7, .int (iZ od)), (5, .int (iZ dn)), (0, .ref g9), (1, .int (iZ a)), (2, .int (iZ b)), (3, .int (iZ d))]) hx hb dX7_odds_142 hl (k := 3) rfl (iZ_inc _) (by decide) rfl (fun ls hl => ?_)
                      refine lv_goto (tgt := 64) hx hb dX7_odds_145 (by decide) ?_
                      exact ih6 (ls := ls) (z := z + 1) (up := (up + od)) (hI := by refine ⟨?_, by omega⟩; rw [upN, k03, ← hJ.1, ← hod]; first | rw [if_pos (by omega)] | rw [if_neg (by omega)]) (hl := lv_sub hl [0, 1, 4, 5, 6, 7, 8] rfl) (hn_ := by omega)
                  · skip
                    refine lv_iload hx hb dX7_odds_88 (lv_at hl 1 rfl) ?_
                    refine lv_iload hx hb dX7_odds_90 (lv_at hl 2 rfl) ?_
                    refine lv_iload hx hb dX7_odds_92 (lv_at hl 0 rfl) ?_
                    refine ro_S (As := [.int (iZ ((z : Nat) : Int)), .int (iZ ((j : Nat) : Int))]) (rest := [.int (iZ od)]) ⟨hx, hb, hml, hown, hts⟩ (c_X7_has l G Y z ((j : Nat) : Int) (by omega)) (cwS 2 hts gX7_odds_X7_has rfl rfl rfl (by decide +kernel) ⟨Nat.le_of_ble_eq_true rfl, Nat.le_of_ble_eq_true rfl⟩) hK (hP.sub (ws' := []) [] rfl) rfl hl.1 rfl (Nat.le_of_ble_eq_true rfl) dX7_odds_94 ⟨Nat.zero_le _, Nat.zero_le _⟩ ?_
                    refine z_ifb_eq (tgt := 104) hx hb dX7_odds_97 (by decide) (fun c_18 => ?_) (fun c_18 => ?_)
                    · skip
                      refine z_bipush hx hb dX7_odds_104 (by decide) ?_
                      refine lv_iload_n hx hb dX7_odds_106 rfl (lv_at hl 7 rfl) ?_
                      refine z_isub hx hb dX7_odds_107 ?_
                      refine z_imul hx hb dX7_odds_108 ?_
                      refine lv_istore (lv' := [(7, .int (iZ (od * (10 - b)))), (8, .int (iZ ((j : Nat) : Int))), (6, .int (iZ ((z : Nat) : Int))), (4, .int (iZ up)), (5, .int (iZ dn)), (0, .ref g9), (1, .int (iZ a)), (2, .int (iZ b)), (3, .int (iZ d))]) hx hb dX7_odds_109 hl (by decide) rfl (fun ls hl => ?_)
                      refine lv_iinc (v := iZ ((j + 1 : Nat) : Int)) (lv' := [(8, .int (iZ ((j + 1 : Nat) : Int))), (7, .int (iZ (od * (10 - b)))), (6, .int (iZ ((z : Nat) : Int))), (4, .int (iZ up)), (5, .int (iZ dn)), (0, .ref g9), (1, .int (iZ a)), (2, .int (iZ b)), (3, .int (iZ d))]) hx hb dX7_odds_111 hl (k := 1) rfl (iZ_inc _) (by decide) rfl (fun ls hl => ?_)
                      refine lv_goto (tgt := 79) hx hb dX7_odds_114 (by decide) ?_
                      exact ih11 (ls := ls) (j := j + 1) (od := (od * (10 - b))) (hI := by refine ⟨?_, by omega⟩; rw [prN, hI.1]; first | (rw [if_pos (by assumption)]; done) | (rw [if_neg (by rw [show z.testBit j = false by assumption]; exact Bool.false_ne_true)])) (hl := lv_sub hl [0, 1, 2, 3, 4, 5, 6, 7, 8] rfl) (hn_ := by omega)
                    · skip
                      refine lv_iload_n hx hb dX7_odds_100 rfl (lv_at hl 7 rfl) ?_
                      refine lv_goto (tgt := 108) hx hb dX7_odds_101 (by decide) ?_
                      refine z_imul hx hb dX7_odds_108 ?_
                      refine lv_istore (lv' := [(7, .int (iZ (od * b))), (8, .int (iZ ((j : Nat) : Int))), (6, .int (iZ ((z : Nat) : Int))), (4, .int (iZ up)), (5, .int (iZ dn)), (0, .ref g9), (1, .int (iZ a)), (2, .int (iZ b)), (3, .int (iZ d))]) hx hb dX7_odds_109 hl (by decide) rfl (fun ls hl => ?_)
                      refine lv_iinc (v := iZ ((j + 1 : Nat) : Int)) (lv' := [(8, .int (iZ ((j + 1 : Nat) : Int))), (7, .int (iZ (od * b))), (6, .int (iZ ((z : Nat) : Int))), (4, .int (iZ up)), (5, .int (iZ dn)), (0, .ref g9), (1, .int (iZ a)), (2, .int (iZ b)), (3, .int (iZ d))]) hx hb dX7_odds_111 hl (k := 1) rfl (iZ_inc _) (by decide) rfl (fun ls hl => ?_)
                      refine lv_goto (tgt := 79) hx hb dX7_odds_114 (by decide) ?_
                      exact ih11 (ls := ls) (j := j + 1) (od := (od * b)) (hI := by refine ⟨?_, by omega⟩; rw [prN, hI.1]; first | (rw [if_pos (by assumption)]; done) | (rw [if_neg (by rw [show z.testBit j = false by assumption]; exact Bool.false_ne_true)])) (hl := lv_sub hl [0, 1, 2, 3, 4, 5, 6, 7, 8] rfl) (hn_ := by omega)
          · skip
            refine lv_iload hx hb dX7_odds_48 (lv_at hl 1 rfl) ?_
            refine z_bipush hx hb dX7_odds_50 (by decide) ?_
            refine z_imul hx hb dX7_odds_52 ?_
            refine lv_istore (lv' := [(5, .int (iZ (dn * 10))), (6, .int (iZ ((i : Nat) : Int))), (4, .int (iZ 0)), (0, .ref g9), (1, .int (iZ a)), (2, .int (iZ b)), (3, .int (iZ d))]) hx hb dX7_odds_53 hl (by decide) rfl (fun ls hl => ?_)
            refine lv_iinc (v := iZ ((i + 1 : Nat) : Int)) (lv' := [(6, .int (iZ ((i + 1 : Nat) : Int))), (5, .int (iZ (dn * 10))), (4, .int (iZ 0)), (0, .ref g9), (1, .int (iZ a)), (2, .int (iZ b)), (3, .int (iZ d))]) hx hb dX7_odds_55 hl (k := 1) rfl (iZ_inc _) (by decide) rfl (fun ls hl => ?_)
            refine lv_goto (tgt := 39) hx hb dX7_odds_58 (by decide) ?_
            exact ih4 (ls := ls) (i := i + 1) (dn := (dn * 10)) (hI := by exact ⟨by rw [hI.1, Int.pow_succ], by omega⟩) (hl := lv_sub hl [0, 1, 2, 3, 4, 5, 6] rfl) (hn_ := by omega)
      · skip
        have c_3 := of_decide_eq_false c_3
        refine z_iconst hx hb dX7_odds_28 ?_
        refine z_top (show (-1) = xOdds (kF F A (A 17)) a b d from ?_) ?_
        · unfold xOdds; (repeat' split) <;> first | rfl | omega | (simp_all; done)
        exact W.iret (v := iZ (xOdds (kF F A (A 17)) a b d)) hx hb hr (fun t9 ht9 _ => ⟨rfl, ht9⟩) (fun q h => absurd h List.not_mem_nil) dX7_odds_29

set_option maxHeartbeats 4000000 in
set_option maxRecDepth 100000 in
theorem c_X7_movers (l : Launch) (G : va_G) (Y : Nat → ClassId) (g9 : Nat) (af : Nat → Nat) (F : Nat → Int) (A : Kom) (tr : Int64) (hV : mV F A (A 17)) (hno : F 26 < 0) (a b : Int) (r : zR a ∧ zR b) : Met l yX7_movers wsX7_movers ({ frames := 4, cells := 0, slots := 0, locals := 98 }) (rP G Y [.ref g9, .int (iZ a), .int (iZ b)] (moW Y g9 af F A tr)) (rQ (.int (iZ (xMov (kF F A (A 17)) a b)))) 0 0 (fun _ => False) := by
  refine Met.ofW (cc := cX7_movers) (maxL := 10) (ret := (some .int)) (by decide) rfl ?_
  intro p e s m args below meth c s₁ B hml hv
  obtain ⟨rfl, hK, hP⟩ := hv
  have hx := B.exec
  have hb := B.bytes
  have hr := B.returns
  have hts := atoms_spec (ws := wsX7_movers) B.pre
  have hown : s.vm.findClass RX7 = some m.cls := findClass_of_methodNamed B.named
  have hlocks := B.notSynchronized
  have hFX7 : ∀ w ∈ wsX70, w ∈ wsX7_movers := by decide +kernel
  have kf55 := (hts (.fieldLink RX7 55 "ShadeVotesModel" "people" "I") (by decide +kernel))
  have kf29 := (hts (.fieldLink RX7 29 "ShadeVotesModel" "now" "[I") (by decide +kernel))
  have kf19 := (hts (.fieldLink RX7 19 "ShadeVotesModel" "wide" "I") (by decide +kernel))
  have kf23 := (hts (.fieldLink RX7 23 "ShadeVotesModel" "high" "I") (by decide +kernel))
  have kf26 := (hts (.fieldLink RX7 26 "ShadeVotesModel" "weight" "[I") (by decide +kernel))
  have hl := lv_entry ([.ref g9, .int (iZ a), .int (iZ b)]) (n := 10) (Nat.le_of_ble_eq_true rfl)
  rw [lg_entry_eq]
  generalize (lg_sl ([.ref g9, .int (iZ a), .int (iZ b)]) ++ List.replicate (10 - (lg_sl ([.ref g9, .int (iZ a), .int (iZ b)])).length) Slot.unset).toArray = ls at hl ⊢
  replace hl : lv_has ls 10 [(0, .ref g9), (1, .int (iZ a)), (2, .int (iZ b))] := hl
  have v3 := hV.2.2.1
  have v7 := hV.2.2.2.2.2.2.1
  have v8 := hV.2.2.2.2.2.2.2.1
  have v5 := hV.2.1
  have v4 := hV.2.2.2.1
  have k00 : kF F A (A 17) 0 0 = F 13 := rfl
  have k01 : kF F A (A 17) 0 1 = F 14 := rfl
  have k02 : kF F A (A 17) 0 2 = A 17 3 := rfl
  have k03 : kF F A (A 17) 0 3 = F 15 := rfl
  have k04 : kF F A (A 17) 0 4 = A 17 1 := rfl
  have k05 : kF F A (A 17) 0 5 = A 17 0 := rfl
  have k06 : kF F A (A 17) 0 6 = A 17 2 := rfl
  have kpr : kF F A (A 17) 0 0 * kF F A (A 17) 0 1 = F 13 * F 14 := rfl
  have hW := hV.1
  have hp2 := p2_in (F 15).toNat (by omega)
  refine lv_iload_n hx hb dX7_movers_0 rfl (lv_at hl 1 rfl) ?_
  refine z_iconst hx hb dX7_movers_1 ?_
  refine z_iconst hx hb dX7_movers_2 ?_
  refine ro_S (As := [.int (iZ a), .int (iZ 0), .int (iZ 2)]) (rest := []) ⟨hx, hb, hml, hown, hts⟩ (c_X7_in l G Y a 0 2 (by omega)) (cwS 3 hts gX7_movers_X7_in rfl rfl rfl (by decide +kernel) ⟨Nat.le_of_ble_eq_true rfl, Nat.le_of_ble_eq_true rfl⟩) hK (hP.sub (ws' := []) [] rfl) rfl hl.1 rfl (Nat.le_of_ble_eq_true rfl) dX7_movers_3 ⟨Nat.zero_le _, Nat.zero_le _⟩ ?_
  refine z_ifb_eq (tgt := 19) hx hb dX7_movers_6 (by decide) (fun c_1 => ?_) (fun c_1 => ?_)
  · skip
    have c_1 := of_decide_eq_false c_1
    refine z_iconst hx hb dX7_movers_19 ?_
    refine z_top (show (-1) = xMov (kF F A (A 17)) a b from ?_) ?_
    · unfold xMov; (repeat' split) <;> first | rfl | omega | (simp_all; done)
    exact W.iret (v := iZ (xMov (kF F A (A 17)) a b)) hx hb hr (fun t9 ht9 _ => ⟨rfl, ht9⟩) (fun q h => absurd h List.not_mem_nil) dX7_movers_20
  · skip
    have c_1 := of_decide_eq_true c_1
    refine lv_iload_n hx hb dX7_movers_9 rfl (lv_at hl 2 rfl) ?_
    refine z_iconst hx hb dX7_movers_10 ?_
    refine z_bipush hx hb dX7_movers_11 (by decide) ?_
    refine ro_S (As := [.int (iZ b), .int (iZ 0), .int (iZ 9)]) (rest := []) ⟨hx, hb, hml, hown, hts⟩ (c_X7_in l G Y b 0 9 (by omega)) (cwS 3 hts gX7_movers_X7_in rfl rfl rfl (by decide +kernel) ⟨Nat.le_of_ble_eq_true rfl, Nat.le_of_ble_eq_true rfl⟩) hK (hP.sub (ws' := []) [] rfl) rfl hl.1 rfl (Nat.le_of_ble_eq_true rfl) dX7_movers_13 ⟨Nat.zero_le _, Nat.zero_le _⟩ ?_
    refine z_ifb_ne (tgt := 21) hx hb dX7_movers_16 (by decide) (fun c_2 => ?_) (fun c_2 => ?_)
    · skip
      have c_2 := of_decide_eq_true c_2
      refine z_bipush hx hb dX7_movers_21 (by decide) ?_
      refine lv_istore_n (lv' := [(3, .int (iZ (-9))), (0, .ref g9), (1, .int (iZ a)), (2, .int (iZ b))]) hx hb dX7_movers_23 rfl hl (by decide) rfl (fun ls hl => ?_)
      refine lv_aload_n hx hb dX7_movers_24 rfl (lv_at hl 1 rfl) ?_
      refine ro_V (As := []) (rest := []) ⟨hx, hb, hml, hown, hts⟩ (c_X7_everybody l G Y g9 af F A tr (by omega)) (cwV 0 hts gX7_movers_X7_everybody rfl rfl rfl (by decide +kernel) ⟨Nat.le_of_ble_eq_true rfl, Nat.le_of_ble_eq_true rfl⟩) hK hP 0 rfl rfl rfl hl.1 rfl (Nat.le_of_ble_eq_true rfl) dX7_movers_25 ⟨Nat.zero_le _, Nat.zero_le _⟩ ?_
      refine z_top (show ((2 ^ (F 15).toNat - 1 : Nat) : Int) = ((2 ^ (F 15).toNat : Nat) : Int) - 1 by omega) ?_
      refine lv_istore (lv' := [(4, .int (iZ (((2 ^ (F 15).toNat : Nat) : Int) - 1))), (3, .int (iZ (-9))), (0, .ref g9), (1, .int (iZ a)), (2, .int (iZ b))]) hx hb dX7_movers_28 hl (by decide) rfl (fun ls hl => ?_)
      obtain ⟨k, fd, hI, hl1⟩ : ∃ (k : Nat) (fd : Int), (gmS (kF F A (A 17)) a.toNat b k fd = gmS (kF F A (A 17)) a.toNat b (2 ^ (F 15).toNat) (-9) ∧ k ≤ 2 ^ (F 15).toNat ∧ (fd = -9 ∨ (0 ≤ fd ∧ fd < 128))) ∧ lv_has ls 10 [(4, .int (iZ (((k : Nat) : Int) - 1))), (3, .int (iZ fd)), (0, .ref g9), (1, .int (iZ a)), (2, .int (iZ b))] := ⟨2 ^ (F 15).toNat, -9, by exact ⟨rfl, Nat.le_refl _, Or.inl rfl⟩, lv_sub hl [0, 1, 2, 3, 4] rfl⟩
      clear hl
      have hl := hl1
      clear hl1
      obtain ⟨n_, hn_⟩ : ∃ n_ : Nat, k < n_ := ⟨_, Nat.lt_succ_self _⟩
      induction n_ generalizing k fd ls with
      | zero => exact absurd hn_ (Nat.not_lt_zero _)
      | succ n_ ih3 =>
        refine lv_iload hx hb dX7_movers_30 (lv_at hl 0 rfl) ?_
        refine z_if_lt (tgt := 212) hx hb dX7_movers_32 (by decide) (by omega) (fun c_4 => ?_) (fun c_4 => ?_)
        · skip
          refine lv_iload_n hx hb dX7_movers_212 rfl (lv_at hl 1 rfl) ?_
          refine z_top (show fd = xMov (kF F A (A 17)) a b from ?_) ?_
          · unfold xMov; rw [if_pos (by omega), k03, ← hI.1, show k = 0 by omega]; rfl
          exact W.iret (v := iZ (xMov (kF F A (A 17)) a b)) hx hb hr (fun t9 ht9 _ => ⟨rfl, ht9⟩) (fun q h => absurd h List.not_mem_nil) dX7_movers_213
        · skip
          have hJ := hI
          obtain ⟨z, hz⟩ : ∃ z : Nat, k = z + 1 := ⟨k - 1, by omega⟩
          have hz4 : (((k : Nat) : Int) - 1) = ((z : Nat) : Int) := by omega
          rw [hz4] at hl
          refine z_iconst hx hb dX7_movers_35 ?_
          refine lv_istore (lv' := [(5, .int (iZ 0)), (4, .int (iZ ((z : Nat) : Int))), (3, .int (iZ fd)), (0, .ref g9), (1, .int (iZ a)), (2, .int (iZ b))]) hx hb dX7_movers_36 hl (by decide) rfl (fun ls hl => ?_)
          refine z_iconst hx hb dX7_movers_38 ?_
          refine lv_istore (lv' := [(6, .int (iZ 0)), (5, .int (iZ 0)), (4, .int (iZ ((z : Nat) : Int))), (3, .int (iZ fd)), (0, .ref g9), (1, .int (iZ a)), (2, .int (iZ b))]) hx hb dX7_movers_39 hl (by decide) rfl (fun ls hl => ?_)
          obtain ⟨i, sm, hI, hl1⟩ : ∃ (i : Nat) (sm : Int), (sm = smN (kF F A (A 17)) a.toNat b z i ∧ (i : Int) ≤ F 15) ∧ lv_has ls 10 [(6, .int (iZ ((i : Nat) : Int))), (5, .int (iZ sm)), (4, .int (iZ ((z : Nat) : Int))), (3, .int (iZ fd)), (0, .ref g9), (1, .int (iZ a)), (2, .int (iZ b))] := ⟨0, 0, by exact ⟨rfl, by omega⟩, lv_sub hl [0, 1, 2, 3, 4, 5, 6] rfl⟩
          clear hl
          have hl := hl1
          clear hl1
          obtain ⟨n_, hn_⟩ : ∃ n_ : Nat, (F 15).toNat - i < n_ := ⟨_, Nat.lt_succ_self _⟩
          induction n_ generalizing i sm ls with
          | zero => exact absurd hn_ (Nat.not_lt_zero _)
          | succ n_ ih5 =>
            have hpp := hV.2.2.2.2.2.1 i
            have hpq := hV.2.2.2.2.2.2.2.2.1 i
            refine lv_iload hx hb dX7_movers_41 (lv_at hl 0 rfl) ?_
            refine lv_aload_n hx hb dX7_movers_43 rfl (lv_at hl 4 rfl) ?_
            refine va_get (D := G) (ci := 7) (v := .int (iZ (F 15))) (C := RX7) (T := TX7) (N := 29) hx hb hts hFX7 hown hK.1 hP 0 rfl rfl 15 (by decide) kf55 (fun _ h9 => h9) rfl dX7_movers_44 ?_
            refine z_icmp_ge (tgt := 178) hx hb dX7_movers_47 (by decide) (by omega) (fun c_6 => ?_) (fun c_6 => ?_)
            · skip
              have hsm : sm = smN (kF F A (A 17)) a.toNat b z (F 15).toNat := by rw [hI.1, show i = (F 15).toNat by omega]
              have hsi := smN_in hW a.toNat b z (F 15).toNat (by omega)
              refine lv_iload hx hb dX7_movers_178 (lv_at hl 1 rfl) ?_
              refine z_if_le (tgt := 204) hx hb dX7_movers_180 (by decide) (by omega) (fun c_7 => ?_) (fun c_7 => ?_)
              · skip
                refine lv_iload_n hx hb dX7_movers_204 rfl (lv_at hl 3 rfl) ?_
                refine lv_istore_n (lv' := [(3, .int (iZ fd)), (6, .int (iZ ((i : Nat) : Int))), (5, .int (iZ sm)), (4, .int (iZ ((z : Nat) : Int))), (0, .ref g9), (1, .int (iZ a)), (2, .int (iZ b))]) hx hb dX7_movers_205 rfl hl (by decide) rfl (fun ls hl => ?_)
                refine lv_iinc (v := iZ (((z : Nat) : Int) - 1)) (lv' := [(4, .int (iZ (((z : Nat) : Int) - 1))), (3, .int (iZ fd)), (6, .int (iZ ((i : Nat) : Int))), (5, .int (iZ sm)), (0, .ref g9), (1, .int (iZ a)), (2, .int (iZ b))]) hx hb dX7_movers_206 hl (k := 3) rfl (by rw [show Int32.ofInt (-1) = iZ (-1) from rfl, iZ_add]; congr 1) (by decide) rfl (fun ls hl => ?_)
                refine lv_goto (tgt := 30) hx hb dX7_movers_209 (by decide) ?_
                exact ih3 (ls := ls) (k := z) (fd := fd) (hI := by refine ⟨?_, by omega, by omega⟩; rw [← hJ.1, hz, gmS, k03, ← hsm]; first | rw [if_pos (by omega)] | rw [if_neg (by omega)]) (hl := lv_sub hl [0, 1, 4, 5, 6] rfl) (hn_ := by omega)
              · skip
                refine lv_iload_n hx hb dX7_movers_183 rfl (lv_at hl 3 rfl) ?_
                refine z_if_lt (tgt := 199) hx hb dX7_movers_184 (by decide) (by omega) (fun c_8 => ?_) (fun c_8 => ?_)
                · skip
                  refine lv_iload hx hb dX7_movers_199 (lv_at hl 2 rfl) ?_
                  refine lv_goto (tgt := 205) hx hb dX7_movers_201 (by decide) ?_
                  refine lv_istore_n (lv' := [(3, .int (iZ ((z : Nat) : Int))), (6, .int (iZ ((i : Nat) : Int))), (5, .int (iZ sm)), (4, .int (iZ ((z : Nat) : Int))), (0, .ref g9), (1, .int (iZ a)), (2, .int (iZ b))]) hx hb dX7_movers_205 rfl hl (by decide) rfl (fun ls hl => ?_)
                  refine lv_iinc (v := iZ (((z : Nat) : Int) - 1)) (lv' := [(4, .int (iZ (((z : Nat) : Int) - 1))), (3, .int (iZ ((z : Nat) : Int))), (6, .int (iZ ((i : Nat) : Int))), (5, .int (iZ sm)), (0, .ref g9), (1, .int (iZ a)), (2, .int (iZ b))]) hx hb dX7_movers_206 hl (k := 3) rfl (by rw [show Int32.ofInt (-1) = iZ (-1) from rfl, iZ_add]; congr 1) (by decide) rfl (fun ls hl => ?_)
                  refine lv_goto (tgt := 30) hx hb dX7_movers_209 (by decide) ?_
                  exact ih3 (ls := ls) (k := z) (fd := ((z : Nat) : Int)) (hI := by refine ⟨?_, by omega, by omega⟩; rw [← hJ.1, hz, gmS, k03, ← hsm]; first | rw [if_pos (by omega)] | rw [if_neg (by omega)]) (hl := lv_sub hl [0, 1, 4, 5, 6] rfl) (hn_ := by omega)
                · skip
                  refine lv_iload hx hb dX7_movers_187 (lv_at hl 2 rfl) ?_
                  refine ro_S (As := [.int (iZ ((z : Nat) : Int))]) (rest := []) ⟨hx, hb, hml, hown, hts⟩ (c_X7_bits l G Y z (by omega)) (cwS 1 hts gX7_movers_X7_bits rfl rfl rfl (by decide +kernel) ⟨Nat.le_of_ble_eq_true rfl, Nat.le_of_ble_eq_true rfl⟩) hK (hP.sub (ws' := []) [] rfl) rfl hl.1 rfl (Nat.le_of_ble_eq_true rfl) dX7_movers_189 ⟨Nat.zero_le _, Nat.zero_le _⟩ ?_
                  have hb_9 := pcN_le z 7
                  refine lv_iload_n hx hb dX7_movers_192 rfl (lv_at hl 3 rfl) ?_
                  refine z_top (show fd = ((fd.toNat : Nat) : Int) by omega) ?_
                  refine ro_S (As := [.int (iZ ((fd.toNat : Nat) : Int))]) (rest := [.int (iZ ((pcN z 7 : Nat) : Int))]) ⟨hx, hb, hml, hown, hts⟩ (c_X7_bits l G Y fd.toNat (by omega)) (cwS 1 hts gX7_movers_X7_bits rfl rfl rfl (by decide +kernel) ⟨Nat.le_of_ble_eq_true rfl, Nat.le_of_ble_eq_true rfl⟩) hK (hP.sub (ws' := []) [] rfl) rfl hl.1 rfl (Nat.le_of_ble_eq_true rfl) dX7_movers_193 ⟨Nat.zero_le _, Nat.zero_le _⟩ ?_
                  have hb_10 := pcN_le fd.toNat 7
                  refine z_icmp_gt (tgt := 204) hx hb dX7_movers_196 (by decide) (by omega) (fun c_11 => ?_) (fun c_11 => ?_)
                  · skip
                    refine lv_iload_n hx hb dX7_movers_204 rfl (lv_at hl 3 rfl) ?_
                    refine lv_istore_n (lv' := [(3, .int (iZ fd)), (6, .int (iZ ((i : Nat) : Int))), (5, .int (iZ sm)), (4, .int (iZ ((z : Nat) : Int))), (0, .ref g9), (1, .int (iZ a)), (2, .int (iZ b))]) hx hb dX7_movers_205 rfl hl (by decide) rfl (fun ls hl => ?_)
                    refine lv_iinc (v := iZ (((z : Nat) : Int) - 1)) (lv' := [(4, .int (iZ (((z : Nat) : Int) - 1))), (3, .int (iZ fd)), (6, .int (iZ ((i : Nat) : Int))), (5, .int (iZ sm)), (0, .ref g9), (1, .int (iZ a)), (2, .int (iZ b))]) hx hb dX7_movers_206 hl (k := 3) rfl (by rw [show Int32.ofInt (-1) = iZ (-1) from rfl, iZ_add]; congr 1) (by decide) rfl (fun ls hl => ?_)
                    refine lv_goto (tgt := 30) hx hb dX7_movers_209 (by decide) ?_
                    exact ih3 (ls := ls) (k := z) (fd := fd) (hI := by refine ⟨?_, by omega, by omega⟩; rw [← hJ.1, hz, gmS, k03, ← hsm]; first | rw [if_pos (by omega)] | rw [if_neg (by omega)]) (hl := lv_sub hl [0, 1, 4, 5, 6] rfl) (hn_ := by omega)
                  · skip
                    refine lv_iload hx hb dX7_movers_199 (lv_at hl 2 rfl) ?_
                    refine lv_goto (tgt := 205) hx hb dX7_movers_201 (by decide) ?_
                    refine lv_istore_n (lv' := [(3, .int (iZ ((z : Nat) : Int))), (6, .int (iZ ((i : Nat) : Int))), (5, .int (iZ sm)), (4, .int (iZ ((z : Nat) : Int))), (0, .ref g9), (1, .int (iZ a)), (2, .int (iZ b))]) hx hb dX7_movers_205 rfl hl (by decide) rfl (fun ls hl => ?_)
                    refine lv_iinc (v := iZ (((z : Nat) : Int) - 1)) (lv' := [(4, .int (iZ (((z : Nat) : Int) - 1))), (3, .int (iZ ((z : Nat) : Int))), (6, .int (iZ ((i : Nat) : Int))), (5, .int (iZ sm)), (0, .ref g9), (1, .int (iZ a)), (2, .int (iZ b))]) hx hb dX7_movers_206 hl (k := 3) rfl (by rw [show Int32.ofInt (-1) = iZ (-1) from rfl, iZ_add]; congr 1) (by decide) rfl (fun ls hl => ?_)
                    refine lv_goto (tgt := 30) hx hb dX7_movers_209 (by decide) ?_
                    exact ih3 (ls := ls) (k := z) (fd := ((z : Nat) : Int)) (hI := by refine ⟨?_, by omega, by omega⟩; rw [← hJ.1, hz, gmS, k03, ← hsm]; first | rw [if_pos (by omega)] | rw [if_neg (by omega)]) (hl := lv_sub hl [0, 1, 4, 5, 6] rfl) (hn_ := by omega)
            · skip
              have hL := hI
              have hp1 := hpp (by omega)
              have hq1 := hpq (by omega)
              refine lv_aload_n hx hb dX7_movers_50 rfl (lv_at hl 4 rfl) ?_
              refine lv_aload_n hx hb dX7_movers_51 rfl (lv_at hl 4 rfl) ?_
              refine va_get (D := G) (ci := 7) (v := .ref (af 17)) (C := RX7) (T := TX7) (N := 29) hx hb hts hFX7 hown hK.1 hP 0 rfl rfl 17 (by decide) kf29 (fun _ h9 => h9) rfl dX7_movers_52 ?_
              refine lv_aload_n hx hb dX7_movers_55 rfl (lv_at hl 4 rfl) ?_
              refine va_get (D := G) (ci := 7) (v := .ref (af 17)) (C := RX7) (T := TX7) (N := 29) hx hb hts hFX7 hown hK.1 hP 0 rfl rfl 17 (by decide) kf29 (fun _ h9 => h9) rfl dX7_movers_56 ?_
              refine z_bipush hx hb dX7_movers_59 (by decide) ?_
              refine lv_iload hx hb dX7_movers_61 (lv_at hl 0 rfl) ?_
              refine z_iadd hx hb dX7_movers_63 ?_
              refine z_iald hx hb hK.1 hP 5 0 rfl rfl (29 + i) (by omega) (by decide) dX7_movers_64 ?_
              refine lv_iload_n hx hb dX7_movers_65 rfl (lv_at hl 5 rfl) ?_
              refine ro_V (As := [.ref (af 17), .int (iZ ((A 17) (29 + i))), .int (iZ a)]) (rest := []) ⟨hx, hb, hml, hown, hts⟩ (c_X7_standOf l G Y g9 af F A tr (af 17) 5 36 (A 17) rfl (by decide) hV ((A 17) (29 + i)) a (by omega)) (cwV 3 hts gX7_movers_X7_standOf rfl rfl rfl (by decide +kernel) ⟨Nat.le_of_ble_eq_true rfl, Nat.le_of_ble_eq_true rfl⟩) hK hP 0 rfl rfl rfl hl.1 rfl (Nat.le_of_ble_eq_true rfl) dX7_movers_66 ⟨Nat.zero_le _, Nat.zero_le _⟩ ?_
              rw [kM_no hno]
              have hb_12 := vo_in (kM F A (A 17)) ((A 17) (29 + i)) (a).toNat
              rw [kM_no hno] at hb_12
              refine lv_istore (lv' := [(7, .int (iZ (vo (kF F A (A 17)) ((A 17) (29 + i)) (a).toNat))), (6, .int (iZ ((i : Nat) : Int))), (5, .int (iZ sm)), (4, .int (iZ ((z : Nat) : Int))), (3, .int (iZ fd)), (0, .ref g9), (1, .int (iZ a)), (2, .int (iZ b))]) hx hb dX7_movers_69 hl (by decide) rfl (fun ls hl => ?_)
              refine z_iconst hx hb dX7_movers_71 ?_
              refine lv_istore (lv' := [(8, .int (iZ 0)), (7, .int (iZ (vo (kF F A (A 17)) ((A 17) (29 + i)) (a).toNat))), (6, .int (iZ ((i : Nat) : Int))), (5, .int (iZ sm)), (4, .int (iZ ((z : Nat) : Int))), (3, .int (iZ fd)), (0, .ref g9), (1, .int (iZ a)), (2, .int (iZ b))]) hx hb dX7_movers_72 hl (by decide) rfl (fun ls hl => ?_)
              obtain ⟨j, bs, hI, hl1⟩ : ∃ (j : Nat) (bs : Int), ((z.testBit i = true → bs = rvN (kF F A (A 17)) (A 17 (29 + i)) a.toNat b j) ∧ (z.testBit i = false → bs = vo (kF F A (A 17)) (A 17 (29 + i)) a.toNat ∧ j = 0) ∧ (j : Int) ≤ F 13 * F 14 ∧ -1 ≤ bs ∧ bs ≤ 1) ∧ lv_has ls 10 [(8, .int (iZ ((j : Nat) : Int))), (7, .int (iZ bs)), (6, .int (iZ ((i : Nat) : Int))), (5, .int (iZ sm)), (4, .int (iZ ((z : Nat) : Int))), (3, .int (iZ fd)), (0, .ref g9), (1, .int (iZ a)), (2, .int (iZ b))] := ⟨0, vo (kF F A (A 17)) (A 17 (29 + i)) a.toNat, by exact ⟨fun _ => rfl, fun _ => ⟨rfl, rfl⟩, by omega, by omega, by omega⟩, lv_sub hl [0, 1, 2, 3, 4, 5, 6, 7, 8] rfl⟩
              clear hl
              have hl := hl1
              clear hl1
              obtain ⟨n_, hn_⟩ : ∃ n_ : Nat, (F 13 * F 14).toNat - j < n_ := ⟨_, Nat.lt_succ_self _⟩
              induction n_ generalizing j bs ls with
              | zero => exact absurd hn_ (Nat.not_lt_zero _)
              | succ n_ ih16 =>
                refine lv_iload hx hb dX7_movers_74 (lv_at hl 0 rfl) ?_
                refine lv_aload_n hx hb dX7_movers_76 rfl (lv_at hl 6 rfl) ?_
                refine va_get (D := G) (ci := 7) (v := .int (iZ (F 13))) (C := RX7) (T := TX7) (N := 29) hx hb hts hFX7 hown hK.1 hP 0 rfl rfl 13 (by decide) kf19 (fun _ h9 => h9) rfl dX7_movers_77 ?_
                refine lv_aload_n hx hb dX7_movers_80 rfl (lv_at hl 6 rfl) ?_
                refine va_get (D := G) (ci := 7) (v := .int (iZ (F 14))) (C := RX7) (T := TX7) (N := 29) hx hb hts hFX7 hown hK.1 hP 0 rfl rfl 14 (by decide) kf23 (fun _ h9 => h9) rfl dX7_movers_81 ?_
                refine z_imul hx hb dX7_movers_84 ?_
                refine z_icmp_ge (tgt := 157) hx hb dX7_movers_85 (by decide) (by omega) (fun c_17 => ?_) (fun c_17 => ?_)
                · skip
                  have hbs : bs = (if z.testBit i = true then rvN (kF F A (A 17)) (A 17 (29 + i)) a.toNat b (F 13 * F 14).toNat else vo (kF F A (A 17)) (A 17 (29 + i)) a.toNat) := by
                    by_cases hh : z.testBit i = true
                    · first
                      | (exfalso; simp_all; done)
                      | (rw [if_pos hh, hI.1 hh, show j = (F 13 * F 14).toNat by omega])
                    · rw [if_neg hh]
                      exact (hI.2.1 (by simpa using hh)).1
                  refine lv_iload hx hb dX7_movers_157 (lv_at hl 3 rfl) ?_
                  refine lv_iload hx hb dX7_movers_159 (lv_at hl 1 rfl) ?_
                  refine lv_aload_n hx hb dX7_movers_161 rfl (lv_at hl 6 rfl) ?_
                  refine va_get (D := G) (ci := 7) (v := .ref (af 16)) (C := RX7) (T := TX7) (N := 29) hx hb hts hFX7 hown hK.1 hP 0 rfl rfl 16 (by decide) kf26 (fun _ h9 => h9) rfl dX7_movers_162 ?_
                  refine lv_iload hx hb dX7_movers_165 (lv_at hl 2 rfl) ?_
                  refine z_iald hx hb hK.1 hP 4 0 rfl rfl i (by omega) (by decide) dX7_movers_167 ?_
                  refine z_imul hx hb dX7_movers_168 ?_
                  refine z_iadd hx hb dX7_movers_169 ?_
                  refine lv_istore (lv' := [(5, .int (iZ (sm + (bs * (A 16) i)))), (8, .int (iZ ((j : Nat) : Int))), (7, .int (iZ bs)), (6, .int (iZ ((i : Nat) : Int))), (4, .int (iZ ((z : Nat) : Int))), (3, .int (iZ fd)), (0, .ref g9), (1, .int (iZ a)), (2, .int (iZ b))]) hx hb dX7_movers_170 hl (by decide) rfl (fun ls hl => ?_)
                  refine lv_iinc (v := iZ ((i + 1 : Nat) : Int)) (lv' := [(6, .int (iZ ((i + 1 : Nat) : Int))), (5, .int (iZ (sm + (bs * (A 16) i)))), (8, .int (iZ ((j : Nat) : Int))), (7, .int (iZ bs)), (4, .int (iZ ((z : Nat) : Int))), (3, .int (iZ fd)), (0, .ref g9), (1, .int (iZ a)), (2, .int (iZ b))]) hx hb dX7_movers_172 hl (k := 3) rfl (iZ_inc _) (by decide) rfl (fun ls hl => ?_)
                  refine lv_goto (tgt := 41) hx hb dX7_movers_175 (by decide) ?_
                  exact ih5 (ls := ls) (i := i + 1) (sm := (sm + (bs * (A 16) i))) (hI := by refine ⟨?_, by omega⟩; rw [smN, ← hL.1, hbs]; rfl) (hl := lv_sub hl [0, 1, 4, 5, 6, 7, 8] rfl) (hn_ := by omega)
                · skip
                  refine lv_iload hx hb dX7_movers_88 (lv_at hl 4 rfl) ?_
                  refine lv_iload hx hb dX7_movers_90 (lv_at hl 2 rfl) ?_
                  refine ro_S (As := [.int (iZ ((z : Nat) : Int)), .int (iZ ((i : Nat) : Int))]) (rest := []) ⟨hx, hb, hml, hown, hts⟩ (c_X7_has l G Y z ((i : Nat) : Int) (by omega)) (cwS 2 hts gX7_movers_X7_has rfl rfl rfl (by decide +kernel) ⟨Nat.le_of_ble_eq_true rfl, Nat.le_of_ble_eq_true rfl⟩) hK (hP.sub (ws' := []) [] rfl) rfl hl.1 rfl (Nat.le_of_ble_eq_true rfl) dX7_movers_92 ⟨Nat.zero_le _, Nat.zero_le _⟩ ?_
                  refine z_ifb_eq (tgt := 157) hx hb dX7_movers_95 (by decide) (fun c_18 => ?_) (fun c_18 => ?_)
                  · skip
                    have hbs : bs = (if z.testBit i = true then rvN (kF F A (A 17)) (A 17 (29 + i)) a.toNat b (F 13 * F 14).toNat else vo (kF F A (A 17)) (A 17 (29 + i)) a.toNat) := by
                      by_cases hh : z.testBit i = true
                      · first
                        | (exfalso; simp_all; done)
                        | (rw [if_pos hh, hI.1 hh, show j = (F 13 * F 14).toNat by omega])
                      · rw [if_neg hh]
                        exact (hI.2.1 (by simpa using hh)).1
                    refine lv_iload hx hb dX7_movers_157 (lv_at hl 3 rfl) ?_
                    refine lv_iload hx hb dX7_movers_159 (lv_at hl 1 rfl) ?_
                    refine lv_aload_n hx hb dX7_movers_161 rfl (lv_at hl 6 rfl) ?_
                    refine va_get (D := G) (ci := 7) (v := .ref (af 16)) (C := RX7) (T := TX7) (N := 29) hx hb hts hFX7 hown hK.1 hP 0 rfl rfl 16 (by decide) kf26 (fun _ h9 => h9) rfl dX7_movers_162 ?_
                    refine lv_iload hx hb dX7_movers_165 (lv_at hl 2 rfl) ?_
                    refine z_iald hx hb hK.1 hP 4 0 rfl rfl i (by omega) (by decide) dX7_movers_167 ?_
                    refine z_imul hx hb dX7_movers_168 ?_
                    refine z_iadd hx hb dX7_movers_169 ?_
                    refine lv_istore (lv' := [(5, .int (iZ (sm + (bs * (A 16) i)))), (8, .int (iZ ((j : Nat) : Int))), (7, .int (iZ bs)), (6, .int (iZ ((i : Nat) : Int))), (4, .int (iZ ((z : Nat) : Int))), (3, .int (iZ fd)), (0, .ref g9), (1, .int (iZ a)), (2, .int (iZ b))]) hx hb dX7_movers_170 hl (by decide) rfl (fun ls hl => ?_)
                    refine lv_iinc (v := iZ ((i + 1 : Nat) : Int)) (lv' := [(6, .int (iZ ((i + 1 : Nat) : Int))), (5, .int (iZ (sm + (bs * (A 16) i)))), (8, .int (iZ ((j : Nat) : Int))), (7, .int (iZ bs)), (4, .int (iZ ((z : Nat) : Int))), (3, .int (iZ fd)), (0, .ref g9), (1, .int (iZ a)), (2, .int (iZ b))]) hx hb dX7_movers_172 hl (k := 3) rfl (iZ_inc _) (by decide) rfl (fun ls hl => ?_)
                    refine lv_goto (tgt := 41) hx hb dX7_movers_175 (by decide) ?_
                    exact ih5 (ls := ls) (i := i + 1) (sm := (sm + (bs * (A 16) i))) (hI := by refine ⟨?_, by omega⟩; rw [smN, ← hL.1, hbs]; rfl) (hl := lv_sub hl [0, 1, 4, 5, 6, 7, 8] rfl) (hn_ := by omega)
                  · skip
                    refine lv_aload_n hx hb dX7_movers_98 rfl (lv_at hl 6 rfl) ?_
                    refine lv_iload hx hb dX7_movers_99 (lv_at hl 0 rfl) ?_
                    refine lv_aload_n hx hb dX7_movers_101 rfl (lv_at hl 6 rfl) ?_
                    refine va_get (D := G) (ci := 7) (v := .ref (af 17)) (C := RX7) (T := TX7) (N := 29) hx hb hts hFX7 hown hK.1 hP 0 rfl rfl 17 (by decide) kf29 (fun _ h9 => h9) rfl dX7_movers_102 ?_
                    refine z_bipush hx hb dX7_movers_105 (by decide) ?_
                    refine lv_iload hx hb dX7_movers_107 (lv_at hl 2 rfl) ?_
                    refine z_iadd hx hb dX7_movers_109 ?_
                    refine z_iald hx hb hK.1 hP 5 0 rfl rfl (29 + i) (by omega) (by decide) dX7_movers_110 ?_
                    refine ro_V (As := [.int (iZ ((j : Nat) : Int)), .int (iZ ((A 17) (29 + i)))]) (rest := []) ⟨hx, hb, hml, hown, hts⟩ (c_X7_steps l G Y g9 af F A tr ((j : Nat) : Int) ((A 17) (29 + i)) (by omega) (by omega)) (cwV 2 hts gX7_movers_X7_steps rfl rfl rfl (by decide +kernel) ⟨Nat.le_of_ble_eq_true rfl, Nat.le_of_ble_eq_true rfl⟩) hK hP 0 rfl rfl rfl hl.1 rfl (Nat.le_of_ble_eq_true rfl) dX7_movers_111 ⟨Nat.zero_le _, Nat.zero_le _⟩ ?_
                    rw [show (zabs (((j : Nat) : Int) % F 13 - (A 17) (29 + i) % F 13) + zabs (((j : Nat) : Int) / F 13 - (A 17) (29 + i) / F 13)) = stp (kF F A (A 17)) ((A 17) (29 + i)) ((j : Nat) : Int) from stp_sym (K := kF F A (A 17))]
                    have hb_20 := stp_in hW (a := (A 17) (29 + i)) (b := ((j : Nat) : Int)) (by omega) (by omega)
                    refine lv_iload_n hx hb dX7_movers_114 rfl (lv_at hl 8 rfl) ?_
                    refine z_icmp_gt (tgt := 132) hx hb dX7_movers_115 (by decide) (by omega) (fun c_21 => ?_) (fun c_21 => ?_)
                    · skip
                      refine z_iconst hx hb dX7_movers_132 ?_
                      refine lv_istore (lv' := [(9, .int (iZ (-1))), (8, .int (iZ ((j : Nat) : Int))), (7, .int (iZ bs)), (6, .int (iZ ((i : Nat) : Int))), (5, .int (iZ sm)), (4, .int (iZ ((z : Nat) : Int))), (3, .int (iZ fd)), (0, .ref g9), (1, .int (iZ a)), (2, .int (iZ b))]) hx hb dX7_movers_133 hl (by decide) rfl (fun ls hl => ?_)
                      refine lv_iload hx hb dX7_movers_135 (lv_at hl 0 rfl) ?_
                      refine lv_iload hx hb dX7_movers_137 (lv_at hl 2 rfl) ?_
                      refine z_icmp_le (tgt := 147) hx hb dX7_movers_139 (by decide) (by omega) (fun c_22 => ?_) (fun c_22 => ?_)
                      · skip
                        refine lv_iload hx hb dX7_movers_147 (lv_at hl 2 rfl) ?_
                        refine lv_istore (lv' := [(7, .int (iZ bs)), (9, .int (iZ (-1))), (8, .int (iZ ((j : Nat) : Int))), (6, .int (iZ ((i : Nat) : Int))), (5, .int (iZ sm)), (4, .int (iZ ((z : Nat) : Int))), (3, .int (iZ fd)), (0, .ref g9), (1, .int (iZ a)), (2, .int (iZ b))]) hx hb dX7_movers_149 hl (by decide) rfl (fun ls hl => ?_)
                        refine lv_iinc (v := iZ ((j + 1 : Nat) : Int)) (lv' := [(8, .int (iZ ((j + 1 : Nat) : Int))), (7, .int (iZ bs)), (9, .int (iZ (-1))), (6, .int (iZ ((i : Nat) : Int))), (5, .int (iZ sm)), (4, .int (iZ ((z : Nat) : Int))), (3, .int (iZ fd)), (0, .ref g9), (1, .int (iZ a)), (2, .int (iZ b))]) hx hb dX7_movers_151 hl (k := 2) rfl (iZ_inc _) (by decide) rfl (fun ls hl => ?_)
                        refine lv_goto (tgt := 74) hx hb dX7_movers_154 (by decide) ?_
                        exact ih16 (ls := ls) (j := j + 1) (bs := bs) (hI := by refine ⟨fun hh => ?_, fun hh => absurd hh (by simp_all), by omega, by omega, by omega⟩; rw [rvN, ← hI.1 hh]; first | (rw [if_pos (by omega)]; omega) | (rw [if_neg (by omega)]; omega)) (hl := lv_sub hl [0, 1, 3, 4, 5, 6, 7, 8, 9] rfl) (hn_ := by omega)
                      · skip
                        refine lv_iload hx hb dX7_movers_142 (lv_at hl 0 rfl) ?_
                        refine lv_goto (tgt := 149) hx hb dX7_movers_144 (by decide) ?_
                        refine lv_istore (lv' := [(7, .int (iZ (-1))), (9, .int (iZ (-1))), (8, .int (iZ ((j : Nat) : Int))), (6, .int (iZ ((i : Nat) : Int))), (5, .int (iZ sm)), (4, .int (iZ ((z : Nat) : Int))), (3, .int (iZ fd)), (0, .ref g9), (1, .int (iZ a)), (2, .int (iZ b))]) hx hb dX7_movers_149 hl (by decide) rfl (fun ls hl => ?_)
                        refine lv_iinc (v := iZ ((j + 1 : Nat) : Int)) (lv' := [(8, .int (iZ ((j + 1 : Nat) : Int))), (7, .int (iZ (-1))), (9, .int (iZ (-1))), (6, .int (iZ ((i : Nat) : Int))), (5, .int (iZ sm)), (4, .int (iZ ((z : Nat) : Int))), (3, .int (iZ fd)), (0, .ref g9), (1, .int (iZ a)), (2, .int (iZ b))]) hx hb dX7_movers_151 hl (k := 2) rfl (iZ_inc _) (by decide) rfl (fun ls hl => ?_)
                        refine lv_goto (tgt := 74) hx hb dX7_movers_154 (by decide) ?_
                        exact ih16 (ls := ls) (j := j + 1) (bs := (-1)) (hI := by refine ⟨fun hh => ?_, fun hh => absurd hh (by simp_all), by omega, by omega, by omega⟩; rw [rvN, ← hI.1 hh]; first | (rw [if_pos (by omega)]; omega) | (rw [if_neg (by omega)]; omega)) (hl := lv_sub hl [0, 1, 3, 4, 5, 6, 7, 8, 9] rfl) (hn_ := by omega)
                    · skip
                      refine lv_aload_n hx hb dX7_movers_118 rfl (lv_at hl 6 rfl) ?_
                      refine lv_aload_n hx hb dX7_movers_119 rfl (lv_at hl 6 rfl) ?_
                      refine va_get (D := G) (ci := 7) (v := .ref (af 17)) (C := RX7) (T := TX7) (N := 29) hx hb hts hFX7 hown hK.1 hP 0 rfl rfl 17 (by decide) kf29 (fun _ h9 => h9) rfl dX7_movers_120 ?_
                      refine lv_iload hx hb dX7_movers_123 (lv_at hl 0 rfl) ?_
                      refine lv_iload_n hx hb dX7_movers_125 rfl (lv_at hl 7 rfl) ?_
                      refine ro_V (As := [.ref (af 17), .int (iZ ((j : Nat) : Int)), .int (iZ a)]) (rest := []) ⟨hx, hb, hml, hown, hts⟩ (c_X7_standOf l G Y g9 af F A tr (af 17) 5 36 (A 17) rfl (by decide) hV ((j : Nat) : Int) a (by omega)) (cwV 3 hts gX7_movers_X7_standOf rfl rfl rfl (by decide +kernel) ⟨Nat.le_of_ble_eq_true rfl, Nat.le_of_ble_eq_true rfl⟩) hK hP 0 rfl rfl rfl hl.1 rfl (Nat.le_of_ble_eq_true rfl) dX7_movers_126 ⟨Nat.zero_le _, Nat.zero_le _⟩ ?_
                      rw [kM_no hno]
                      have hb_23 := vo_in (kM F A (A 17)) ((j : Nat) : Int) (a).toNat
                      rw [kM_no hno] at hb_23
                      refine lv_goto (tgt := 133) hx hb dX7_movers_129 (by decide) ?_
                      refine lv_istore (lv' := [(9, .int (iZ (vo (kF F A (A 17)) ((j : Nat) : Int) (a).toNat))), (8, .int (iZ ((j : Nat) : Int))), (7, .int (iZ bs)), (6, .int (iZ ((i : Nat) : Int))), (5, .int (iZ sm)), (4, .int (iZ ((z : Nat) : Int))), (3, .int (iZ fd)), (0, .ref g9), (1, .int (iZ a)), (2, .int (iZ b))]) hx hb dX7_movers_133 hl (by decide) rfl (fun ls hl => ?_)
                      refine lv_iload hx hb dX7_movers_135 (lv_at hl 0 rfl) ?_
                      refine lv_iload hx hb dX7_movers_137 (lv_at hl 2 rfl) ?_
                      refine z_icmp_le (tgt := 147) hx hb dX7_movers_139 (by decide) (by omega) (fun c_27 => ?_) (fun c_27 => ?_)
                      · skip
                        refine lv_iload hx hb dX7_movers_147 (lv_at hl 2 rfl) ?_
                        refine lv_istore (lv' := [(7, .int (iZ bs)), (9, .int (iZ (vo (kF F A (A 17)) ((j : Nat) : Int) (a).toNat))), (8, .int (iZ ((j : Nat) : Int))), (6, .int (iZ ((i : Nat) : Int))), (5, .int (iZ sm)), (4, .int (iZ ((z : Nat) : Int))), (3, .int (iZ fd)), (0, .ref g9), (1, .int (iZ a)), (2, .int (iZ b))]) hx hb dX7_movers_149 hl (by decide) rfl (fun ls hl => ?_)
                        refine lv_iinc (v := iZ ((j + 1 : Nat) : Int)) (lv' := [(8, .int (iZ ((j + 1 : Nat) : Int))), (7, .int (iZ bs)), (9, .int (iZ (vo (kF F A (A 17)) ((j : Nat) : Int) (a).toNat))), (6, .int (iZ ((i : Nat) : Int))), (5, .int (iZ sm)), (4, .int (iZ ((z : Nat) : Int))), (3, .int (iZ fd)), (0, .ref g9), (1, .int (iZ a)), (2, .int (iZ b))]) hx hb dX7_movers_151 hl (k := 2) rfl (iZ_inc _) (by decide) rfl (fun ls hl => ?_)
                        refine lv_goto (tgt := 74) hx hb dX7_movers_154 (by decide) ?_
                        exact ih16 (ls := ls) (j := j + 1) (bs := bs) (hI := by refine ⟨fun hh => ?_, fun hh => absurd hh (by simp_all), by omega, by omega, by omega⟩; rw [rvN, ← hI.1 hh]; first | (rw [if_pos (by omega)]; omega) | (rw [if_neg (by omega)]; omega)) (hl := lv_sub hl [0, 1, 3, 4, 5, 6, 7, 8, 9] rfl) (hn_ := by omega)
                      · skip
                        refine lv_iload hx hb dX7_movers_142 (lv_at hl 0 rfl) ?_
                        refine lv_goto (tgt := 149) hx hb dX7_movers_144 (by decide) ?_
                        refine lv_istore (lv' := [(7, .int (iZ (vo (kF F A (A 17)) ((j : Nat) : Int) (a).toNat))), (9, .int (iZ (vo (kF F A (A 17)) ((j : Nat) : Int) (a).toNat))), (8, .int (iZ ((j : Nat) : Int))), (6, .int (iZ ((i : Nat) : Int))), (5, .int (iZ sm)), (4, .int (iZ ((z : Nat) : Int))), (3, .int (iZ fd)), (0, .ref g9), (1, .int (iZ a)), (2, .int (iZ b))]) hx hb dX7_movers_149 hl (by decide) rfl (fun ls hl => ?_)
                        refine lv_iinc (v := iZ ((j + 1 : Nat) : Int)) (lv' := [(8, .int (iZ ((j + 1 : Nat) : Int))), (7, .int (iZ (vo (kF F A (A 17)) ((j : Nat) : Int) (a).toNat))), (9, .int (iZ (vo (kF F A (A 17)) ((j : Nat) : Int) (a).toNat))), (6, .int (iZ ((i : Nat) : Int))), (5, .int (iZ sm)), (4, .int (iZ ((z : Nat) : Int))), (3, .int (iZ fd)), (0, .ref g9), (1, .int (iZ a)), (2, .int (iZ b))]) hx hb dX7_movers_151 hl (k := 2) rfl (iZ_inc _) (by decide) rfl (fun ls hl => ?_)
                        refine lv_goto (tgt := 74) hx hb dX7_movers_154 (by decide) ?_
                        exact ih16 (ls := ls) (j := j + 1) (bs := vo (kF F A (A 17)) ((j : Nat) : Int) (a).toNat) (hI := by refine ⟨fun hh => ?_, fun hh => absurd hh (by simp_all), by omega, by omega, by omega⟩; rw [rvN, ← hI.1 hh]; first | (rw [if_pos (by omega)]; omega) | (rw [if_neg (by omega)]; omega)) (hl := lv_sub hl [0, 1, 3, 4, 5, 6, 7, 8, 9] rfl) (hn_ := by omega)
    · skip
      have c_2 := of_decide_eq_false c_2
      refine z_iconst hx hb dX7_movers_19 ?_
      refine z_top (show (-1) = xMov (kF F A (A 17)) a b from ?_) ?_
      · unfold xMov; (repeat' split) <;> first | rfl | omega | (simp_all; done)
      exact W.iret (v := iZ (xMov (kF F A (A 17)) a b)) hx hb hr (fun t9 ht9 _ => ⟨rfl, ht9⟩) (fun q h => absurd h List.not_mem_nil) dX7_movers_20
