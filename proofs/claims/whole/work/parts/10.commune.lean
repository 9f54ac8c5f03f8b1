set_option maxHeartbeats 4000000 in
set_option maxRecDepth 100000 in
theorem c_X6_isWithin (l : Launch) (G : va_G) (Y : Nat → ClassId) (a b d : Int) (r : zR a ∧ zR b ∧ zR d) : Met l yX6_isWithin wsX6_isWithin ({ frames := 0, cells := 0, slots := 0, locals := 0 }) (rP G Y [.int (iZ a), .int (iZ b), .int (iZ d)] ([])) (rQ (.int (iZ (bZ (decide (b ≤ a ∧ a ≤ d)))))) 0 0 (fun _ => False) := by
  refine Met.ofW (cc := cX6_isWithin) (maxL := 3) (ret := (some .boolean)) (by decide) rfl ?_
  intro p e s m args below meth c s₁ B hml hv
  obtain ⟨rfl, hK, hP⟩ := hv
  have hx := B.exec
  have hb := B.bytes
  have hr := B.returns
  have hts := atoms_spec (ws := wsX6_isWithin) B.pre
  have hown : s.vm.findClass RX6 = some m.cls := findClass_of_methodNamed B.named
  have hlocks := B.notSynchronized
  have hl := lv_entry ([.int (iZ a), .int (iZ b), .int (iZ d)]) (n := 3) (Nat.le_of_ble_eq_true rfl)
  rw [lg_entry_eq]
  generalize (lg_sl ([.int (iZ a), .int (iZ b), .int (iZ d)]) ++ List.replicate (3 - (lg_sl ([.int (iZ a), .int (iZ b), .int (iZ d)])).length) Slot.unset).toArray = ls at hl ⊢
  replace hl : lv_has ls 3 [(0, .int (iZ a)), (1, .int (iZ b)), (2, .int (iZ d))] := hl
  refine lv_iload_n hx hb dX6_isWithin_0 rfl (lv_at hl 0 rfl) ?_
  refine lv_iload_n hx hb dX6_isWithin_1 rfl (lv_at hl 1 rfl) ?_
  refine z_icmp_lt (tgt := 14) hx hb dX6_isWithin_2 (by decide) (by omega) (fun c_1 => ?_) (fun c_1 => ?_)
  · skip
    refine z_iconst hx hb dX6_isWithin_14 ?_
    refine z_top (show 0 = bZ (decide (b ≤ a ∧ a ≤ d)) from ?_) ?_
    · first | exact bZ_1 (by omega) | exact bZ_00 (by omega)
    exact W.zret (v := iZ (bZ (decide (b ≤ a ∧ a ≤ d)))) hx hb hr (b01_nar (bZ_in _)) (fun t9 ht9 _ => ⟨rfl, ht9⟩) (fun q h => absurd h List.not_mem_nil) dX6_isWithin_15
  · skip
    refine lv_iload_n hx hb dX6_isWithin_5 rfl (lv_at hl 0 rfl) ?_
    refine lv_iload_n hx hb dX6_isWithin_6 rfl (lv_at hl 2 rfl) ?_
    refine z_icmp_gt (tgt := 14) hx hb dX6_isWithin_7 (by decide) (by omega) (fun c_2 => ?_) (fun c_2 => ?_)
    · skip
      refine z_iconst hx hb dX6_isWithin_14 ?_
      refine z_top (show 0 = bZ (decide (b ≤ a ∧ a ≤ d)) from ?_) ?_
      · first | exact bZ_1 (by omega) | exact bZ_00 (by omega)
      exact W.zret (v := iZ (bZ (decide (b ≤ a ∧ a ≤ d)))) hx hb hr (b01_nar (bZ_in _)) (fun t9 ht9 _ => ⟨rfl, ht9⟩) (fun q h => absurd h List.not_mem_nil) dX6_isWithin_15
    · skip
      refine z_iconst hx hb dX6_isWithin_10 ?_
      refine lv_goto (tgt := 15) hx hb dX6_isWithin_11 (by decide) ?_
      refine z_top (show 1 = bZ (decide (b ≤ a ∧ a ≤ d)) from ?_) ?_
      · first | exact bZ_1 (by omega) | exact bZ_00 (by omega)
      exact W.zret (v := iZ (bZ (decide (b ≤ a ∧ a ≤ d)))) hx hb hr (b01_nar (bZ_in _)) (fun t9 ht9 _ => ⟨rfl, ht9⟩) (fun q h => absurd h List.not_mem_nil) dX6_isWithin_15

set_option maxHeartbeats 4000000 in
set_option maxRecDepth 100000 in
theorem c_X6_isMotion (l : Launch) (G : va_G) (Y : Nat → ClassId) (a : Int) (r : zR a) : Met l yX6_isMotion wsX6_isMotion ({ frames := 1, cells := 0, slots := 0, locals := 22 }) (rP G Y [.int (iZ a)] ([])) (rQ (.int (iZ (bZ (decide (0 ≤ a ∧ a ≤ 2)))))) 0 0 (fun _ => False) := by
  refine Met.ofW (cc := cX6_isMotion) (maxL := 1) (ret := (some .boolean)) (by decide) rfl ?_
  intro p e s m args below meth c s₁ B hml hv
  obtain ⟨rfl, hK, hP⟩ := hv
  have hx := B.exec
  have hb := B.bytes
  have hr := B.returns
  have hts := atoms_spec (ws := wsX6_isMotion) B.pre
  have hown : s.vm.findClass RX6 = some m.cls := findClass_of_methodNamed B.named
  have hlocks := B.notSynchronized
  have hl := lv_entry ([.int (iZ a)]) (n := 1) (Nat.le_of_ble_eq_true rfl)
  rw [lg_entry_eq]
  generalize (lg_sl ([.int (iZ a)]) ++ List.replicate (1 - (lg_sl ([.int (iZ a)])).length) Slot.unset).toArray = ls at hl ⊢
  replace hl : lv_has ls 1 [(0, .int (iZ a))] := hl
  refine lv_iload_n hx hb dX6_isMotion_0 rfl (lv_at hl 0 rfl) ?_
  refine z_iconst hx hb dX6_isMotion_1 ?_
  refine z_iconst hx hb dX6_isMotion_2 ?_
  refine ro_S (As := [.int (iZ a), .int (iZ 0), .int (iZ 2)]) (rest := []) ⟨hx, hb, hml, hown, hts⟩ (c_X6_isWithin l G Y a 0 2 (by omega)) (cwS 3 hts gX6_isMotion_X6_isWithin rfl rfl rfl (by decide +kernel) ⟨Nat.le_of_ble_eq_true rfl, Nat.le_of_ble_eq_true rfl⟩) hK (hP.sub (ws' := []) [] rfl) rfl hl.1 rfl (Nat.le_of_ble_eq_true rfl) dX6_isMotion_3 ⟨Nat.zero_le _, Nat.zero_le _⟩ ?_
  exact W.zret (v := iZ (bZ (decide (0 ≤ a ∧ a ≤ 2)))) hx hb hr (b01_nar (bZ_in _)) (fun t9 ht9 _ => ⟨rfl, ht9⟩) (fun q h => absurd h List.not_mem_nil) dX6_isMotion_6

set_option maxHeartbeats 4000000 in
set_option maxRecDepth 100000 in
theorem c_X6_asNumber (l : Launch) (G : va_G) (Y : Nat → ClassId) (b : Bool) : Met l yX6_asNumber wsX6_asNumber ({ frames := 0, cells := 0, slots := 0, locals := 0 }) (rP G Y [.int (iZ (bZ b))] ([])) (rQ (.int (iZ (bZ b)))) 0 0 (fun _ => False) := by
  refine Met.ofW (cc := cX6_asNumber) (maxL := 1) (ret := (some .int)) (by decide) rfl ?_
  intro p e s m args below meth c s₁ B hml hv
  obtain ⟨rfl, hK, hP⟩ := hv
  have hx := B.exec
  have hb := B.bytes
  have hr := B.returns
  have hts := atoms_spec (ws := wsX6_asNumber) B.pre
  have hown : s.vm.findClass RX6 = some m.cls := findClass_of_methodNamed B.named
  have hlocks := B.notSynchronized
  have hl := lv_entry ([.int (iZ (bZ b))]) (n := 1) (Nat.le_of_ble_eq_true rfl)
  rw [lg_entry_eq]
  generalize (lg_sl ([.int (iZ (bZ b))]) ++ List.replicate (1 - (lg_sl ([.int (iZ (bZ b))])).length) Slot.unset).toArray = ls at hl ⊢
  replace hl : lv_has ls 1 [(0, .int (iZ (bZ b)))] := hl
  refine lv_iload_n hx hb dX6_asNumber_0 rfl (lv_at hl 0 rfl) ?_
  refine z_ifb_eq (tgt := 8) hx hb dX6_asNumber_1 (by decide) (fun c_1 => ?_) (fun c_1 => ?_)
  · skip
    refine z_iconst hx hb dX6_asNumber_8 ?_
    refine z_top (show 0 = bZ b from ?_) ?_
    · simp [bZ, *]
    exact W.iret (v := iZ (bZ b)) hx hb hr (fun t9 ht9 _ => ⟨rfl, ht9⟩) (fun q h => absurd h List.not_mem_nil) dX6_asNumber_9
  · skip
    refine z_iconst hx hb dX6_asNumber_4 ?_
    refine lv_goto (tgt := 9) hx hb dX6_asNumber_5 (by decide) ?_
    refine z_top (show 1 = bZ b from ?_) ?_
    · simp [bZ, *]
    exact W.iret (v := iZ (bZ b)) hx hb hr (fun t9 ht9 _ => ⟨rfl, ht9⟩) (fun q h => absurd h List.not_mem_nil) dX6_asNumber_9

set_option maxHeartbeats 4000000 in
set_option maxRecDepth 100000 in
theorem c_X6_hasBit (l : Launch) (G : va_G) (Y : Nat → ClassId) (b k : Nat) (r : b < 2147483648 ∧ k < 32) : Met l yX6_hasBit wsX6_hasBit ({ frames := 0, cells := 0, slots := 0, locals := 0 }) (rP G Y [.int (iZ ((b : Nat) : Int)), .int (iZ ((k : Nat) : Int))] ([])) (rQ (.int (iZ (bZ (b.testBit k))))) 0 0 (fun _ => False) := by
  refine Met.ofW (cc := cX6_hasBit) (maxL := 2) (ret := (some .boolean)) (by decide) rfl ?_
  intro p e s m args below meth c s₁ B hml hv
  obtain ⟨rfl, hK, hP⟩ := hv
  have hx := B.exec
  have hb := B.bytes
  have hr := B.returns
  have hts := atoms_spec (ws := wsX6_hasBit) B.pre
  have hown : s.vm.findClass RX6 = some m.cls := findClass_of_methodNamed B.named
  have hlocks := B.notSynchronized
  have hl := lv_entry ([.int (iZ ((b : Nat) : Int)), .int (iZ ((k : Nat) : Int))]) (n := 2) (Nat.le_of_ble_eq_true rfl)
  rw [lg_entry_eq]
  generalize (lg_sl ([.int (iZ ((b : Nat) : Int)), .int (iZ ((k : Nat) : Int))]) ++ List.replicate (2 - (lg_sl ([.int (iZ ((b : Nat) : Int)), .int (iZ ((k : Nat) : Int))])).length) Slot.unset).toArray = ls at hl ⊢
  replace hl : lv_has ls 2 [(0, .int (iZ ((b : Nat) : Int))), (1, .int (iZ ((k : Nat) : Int)))] := hl
  refine lv_iload_n hx hb dX6_hasBit_0 rfl (lv_at hl 0 rfl) ?_
  refine lv_iload_n hx hb dX6_hasBit_1 rfl (lv_at hl 1 rfl) ?_
  refine z_ishr (n := b) (k := k) hx hb dX6_hasBit_2 (by omega) ?_
  refine z_iconst hx hb dX6_hasBit_3 ?_
  refine z_iand1 (a := (b / 2 ^ k)) hx hb dX6_hasBit_4 (by omega) ?_
  refine z_iconst hx hb dX6_hasBit_5 ?_
  refine z_icmp_ne (tgt := 13) hx hb dX6_hasBit_6 (by decide) (by omega) (fun c_1 => ?_) (fun c_1 => ?_)
  · skip
    refine z_iconst hx hb dX6_hasBit_13 ?_
    refine z_top (show 0 = bZ (b.testBit k) from ?_) ?_
    · rw [Nat.testBit_eq_decide_div_mod_eq]; first | exact bZ_1 (by omega) | exact bZ_00 (by omega)
    exact W.zret (v := iZ (bZ (b.testBit k))) hx hb hr (b01_nar (bZ_in _)) (fun t9 ht9 _ => ⟨rfl, ht9⟩) (fun q h => absurd h List.not_mem_nil) dX6_hasBit_14
  · skip
    refine z_iconst hx hb dX6_hasBit_9 ?_
    refine lv_goto (tgt := 14) hx hb dX6_hasBit_10 (by decide) ?_
    refine z_top (show 1 = bZ (b.testBit k) from ?_) ?_
    · rw [Nat.testBit_eq_decide_div_mod_eq]; first | exact bZ_1 (by omega) | exact bZ_00 (by omega)
    exact W.zret (v := iZ (bZ (b.testBit k))) hx hb hr (b01_nar (bZ_in _)) (fun t9 ht9 _ => ⟨rfl, ht9⟩) (fun q h => absurd h List.not_mem_nil) dX6_hasBit_14

set_option maxHeartbeats 4000000 in
set_option maxRecDepth 100000 in
theorem c_X6_cut (l : Launch) (G : va_G) (Y : Nat → ClassId) (a b : Int) (r : (0 ≤ a ∧ a ≤ 2147483647) ∧ 0 ≤ b ∧ b ≤ 2147483647) : Met l yX6_cut wsX6_cut ({ frames := 0, cells := 0, slots := 0, locals := 0 }) (rP G Y [.int (iZ a), .int (iZ b)] ([])) (rQ (.int (iZ (a / b)))) 0 0 (fun _ => False) := by
  refine Met.ofW (cc := cX6_cut) (maxL := 2) (ret := (some .int)) (by decide) rfl ?_
  intro p e s m args below meth c s₁ B hml hv
  obtain ⟨rfl, hK, hP⟩ := hv
  have hx := B.exec
  have hb := B.bytes
  have hr := B.returns
  have hts := atoms_spec (ws := wsX6_cut) B.pre
  have hown : s.vm.findClass RX6 = some m.cls := findClass_of_methodNamed B.named
  have hlocks := B.notSynchronized
  have hl := lv_entry ([.int (iZ a), .int (iZ b)]) (n := 2) (Nat.le_of_ble_eq_true rfl)
  rw [lg_entry_eq]
  generalize (lg_sl ([.int (iZ a), .int (iZ b)]) ++ List.replicate (2 - (lg_sl ([.int (iZ a), .int (iZ b)])).length) Slot.unset).toArray = ls at hl ⊢
  replace hl : lv_has ls 2 [(0, .int (iZ a)), (1, .int (iZ b))] := hl
  refine lv_iload_n hx hb dX6_cut_0 rfl (lv_at hl 1 rfl) ?_
  refine z_if_le (tgt := 10) hx hb dX6_cut_1 (by decide) (by omega) (fun c_1 => ?_) (fun c_1 => ?_)
  · skip
    refine z_iconst hx hb dX6_cut_10 ?_
    refine z_top (show 0 = a / b from ?_) ?_
    · first | rfl | (have hz : b = 0 := by omega); subst hz; simp
    exact W.iret (v := iZ (a / b)) hx hb hr (fun t9 ht9 _ => ⟨rfl, ht9⟩) (fun q h => absurd h List.not_mem_nil) dX6_cut_11
  · skip
    refine lv_iload_n hx hb dX6_cut_4 rfl (lv_at hl 0 rfl) ?_
    refine lv_iload_n hx hb dX6_cut_5 rfl (lv_at hl 1 rfl) ?_
    refine z_idiv hx hb dX6_cut_6 (by omega) ?_
    refine lv_goto (tgt := 11) hx hb dX6_cut_7 (by decide) ?_
    refine z_top (show (a / b) = a / b from ?_) ?_
    · first | rfl | (have hz : b = 0 := by omega); subst hz; simp
    exact W.iret (v := iZ (a / b)) hx hb hr (fun t9 ht9 _ => ⟨rfl, ht9⟩) (fun q h => absurd h List.not_mem_nil) dX6_cut_11

set_option maxHeartbeats 4000000 in
set_option maxRecDepth 100000 in
theorem c_X6_power (l : Launch) (G : va_G) (Y : Nat → ClassId) (a k : Int) (r : zR a ∧ 0 ≤ k ∧ k ≤ 100) : Met l yX6_power wsX6_power ({ frames := 0, cells := 0, slots := 0, locals := 0 }) (rP G Y [.int (iZ a), .int (iZ k)] ([])) (rQ (.int (iZ (a ^ k.toNat)))) 0 0 (fun _ => False) := by
  refine Met.ofW (cc := cX6_power) (maxL := 4) (ret := (some .int)) (by decide) rfl ?_
  intro p e s m args below meth c s₁ B hml hv
  obtain ⟨rfl, hK, hP⟩ := hv
  have hx := B.exec
  have hb := B.bytes
  have hr := B.returns
  have hts := atoms_spec (ws := wsX6_power) B.pre
  have hown : s.vm.findClass RX6 = some m.cls := findClass_of_methodNamed B.named
  have hlocks := B.notSynchronized
  have hl := lv_entry ([.int (iZ a), .int (iZ k)]) (n := 4) (Nat.le_of_ble_eq_true rfl)
  rw [lg_entry_eq]
  generalize (lg_sl ([.int (iZ a), .int (iZ k)]) ++ List.replicate (4 - (lg_sl ([.int (iZ a), .int (iZ k)])).length) Slot.unset).toArray = ls at hl ⊢
  replace hl : lv_has ls 4 [(0, .int (iZ a)), (1, .int (iZ k))] := hl
  refine z_iconst hx hb dX6_power_0 ?_
  refine lv_istore_n (lv' := [(2, .int (iZ 1)), (0, .int (iZ a)), (1, .int (iZ k))]) hx hb dX6_power_1 rfl hl (by decide) rfl (fun ls hl => ?_)
  refine z_iconst hx hb dX6_power_2 ?_
  refine lv_istore_n (lv' := [(3, .int (iZ 0)), (2, .int (iZ 1)), (0, .int (iZ a)), (1, .int (iZ k))]) hx hb dX6_power_3 rfl hl (by decide) rfl (fun ls hl => ?_)
  obtain ⟨i, q, hI, hl1⟩ : ∃ (i : Nat) (q : Int), (q = a ^ i ∧ (i : Int) ≤ k) ∧ lv_has ls 4 [(3, .int (iZ ((i : Nat) : Int))), (2, .int (iZ q)), (0, .int (iZ a)), (1, .int (iZ k))] := ⟨0, 1, by exact ⟨(Int.pow_zero a).symm, by omega⟩, lv_sub hl [0, 1, 2, 3] rfl⟩
  clear hl
  have hl := hl1
  clear hl1
  obtain ⟨n_, hn_⟩ : ∃ n_ : Nat, k.toNat - i < n_ := ⟨_, Nat.lt_succ_self _⟩
  induction n_ generalizing i q ls with
  | zero => exact absurd hn_ (Nat.not_lt_zero _)
  | succ n_ ih1 =>
    refine lv_iload_n hx hb dX6_power_4 rfl (lv_at hl 0 rfl) ?_
    refine lv_iload_n hx hb dX6_power_5 rfl (lv_at hl 3 rfl) ?_
    refine z_icmp_ge (tgt := 19) hx hb dX6_power_6 (by decide) (by omega) (fun c_2 => ?_) (fun c_2 => ?_)
    · skip
      refine lv_iload_n hx hb dX6_power_19 rfl (lv_at hl 1 rfl) ?_
      refine z_top (show q = a ^ k.toNat from ?_) ?_
      · rw [hI.1, show i = k.toNat by omega]
      exact W.iret (v := iZ (a ^ k.toNat)) hx hb hr (fun t9 ht9 _ => ⟨rfl, ht9⟩) (fun q h => absurd h List.not_mem_nil) dX6_power_20
    · skip
      refine lv_iload_n hx hb dX6_power_9 rfl (lv_at hl 1 rfl) ?_
      refine lv_iload_n hx hb dX6_power_10 rfl (lv_at hl 2 rfl) ?_
      refine z_imul hx hb dX6_power_11 ?_
      refine lv_istore_n (lv' := [(2, .int (iZ (q * a))), (3, .int (iZ ((i : Nat) : Int))), (0, .int (iZ a)), (1, .int (iZ k))]) hx hb dX6_power_12 rfl hl (by decide) rfl (fun ls hl => ?_)
      refine lv_iinc (v := iZ ((i + 1 : Nat) : Int)) (lv' := [(3, .int (iZ ((i + 1 : Nat) : Int))), (2, .int (iZ (q * a))), (0, .int (iZ a)), (1, .int (iZ k))]) hx hb dX6_power_13 hl (k := 1) rfl (iZ_inc _) (by decide) rfl (fun ls hl => ?_)
      refine lv_goto (tgt := 4) hx hb dX6_power_16 (by decide) ?_
      exact ih1 (ls := ls) (i := i + 1) (q := q * a) (hI := by exact ⟨by rw [hI.1, Int.pow_succ], by omega⟩) (hl := lv_sub hl [0, 1, 2, 3] rfl) (hn_ := by omega)

set_option maxHeartbeats 4000000 in
set_option maxRecDepth 100000 in
theorem c_X0_cells (l : Launch) (G : va_G) (Y : Nat → ClassId) (h : Nat) (ad : Nat → Nat) (K : Kom) (hW : cWF K) : Met l yX0_cells wsX0_cells ({ frames := 0, cells := 0, slots := 0, locals := 0 }) (rP G Y [.ref h] (cmW Y h ad K)) (rQ (.int (iZ (K 0 0 * K 0 1)))) 0 0 (fun _ => False) := by
  refine Met.ofW (cc := cX0_cells) (maxL := 1) (ret := (some .int)) (by decide) rfl ?_
  intro p e s m args below meth c s₁ B hml hv
  obtain ⟨rfl, hK, hP⟩ := hv
  have hx := B.exec
  have hb := B.bytes
  have hr := B.returns
  have hts := atoms_spec (ws := wsX0_cells) B.pre
  have hown : s.vm.findClass RX0 = some m.cls := findClass_of_methodNamed B.named
  have hlocks := B.notSynchronized
  have hFX0 : ∀ w ∈ wsX00, w ∈ wsX0_cells := by decide +kernel
  have kf37 := (hts (.fieldLink RX0 37 "ShadeVotes$Commune" "wide" "I") (by decide +kernel))
  have kf41 := (hts (.fieldLink RX0 41 "ShadeVotes$Commune" "high" "I") (by decide +kernel))
  have hl := lv_entry ([.ref h]) (n := 1) (Nat.le_of_ble_eq_true rfl)
  rw [lg_entry_eq]
  generalize (lg_sl ([.ref h]) ++ List.replicate (1 - (lg_sl ([.ref h])).length) Slot.unset).toArray = ls at hl ⊢
  replace hl : lv_has ls 1 [(0, .ref h)] := hl
  have h0 := hW.1
  have hnc := hW.nc
  refine lv_aload_n hx hb dX0_cells_0 rfl (lv_at hl 0 rfl) ?_
  refine va_get (D := G) (ci := 0) (v := .int (iZ (K 0 0))) (C := RX0) (T := TX0) (N := 14) hx hb hts hFX0 hown hK.1 hP 0 rfl rfl 0 (by decide) kf37 (fun _ h9 => h9) rfl dX0_cells_1 ?_
  refine lv_aload_n hx hb dX0_cells_4 rfl (lv_at hl 0 rfl) ?_
  refine va_get (D := G) (ci := 0) (v := .int (iZ (K 0 1))) (C := RX0) (T := TX0) (N := 14) hx hb hts hFX0 hown hK.1 hP 0 rfl rfl 1 (by decide) kf41 (fun _ h9 => h9) rfl dX0_cells_5 ?_
  refine z_imul hx hb dX0_cells_8 ?_
  exact W.iret (v := iZ (K 0 0 * K 0 1)) hx hb hr (fun t9 ht9 _ => ⟨rfl, ht9⟩) (fun q h => absurd h List.not_mem_nil) dX0_cells_9

set_option maxHeartbeats 4000000 in
set_option maxRecDepth 100000 in
theorem c_X0_hasCell (l : Launch) (G : va_G) (Y : Nat → ClassId) (h : Nat) (ad : Nat → Nat) (K : Kom) (hW : cWF K) (a : Int) (r : zR a) : Met l yX0_hasCell wsX0_hasCell ({ frames := 1, cells := 0, slots := 0, locals := 22 }) (rP G Y [.ref h, .int (iZ a)] (cmW Y h ad K)) (rQ (.int (iZ (bZ (decide (0 ≤ a ∧ a ≤ K 0 0 * K 0 1 - 1)))))) 0 0 (fun _ => False) := by
  refine Met.ofW (cc := cX0_hasCell) (maxL := 2) (ret := (some .boolean)) (by decide) rfl ?_
  intro p e s m args below meth c s₁ B hml hv
  obtain ⟨rfl, hK, hP⟩ := hv
  have hx := B.exec
  have hb := B.bytes
  have hr := B.returns
  have hts := atoms_spec (ws := wsX0_hasCell) B.pre
  have hown : s.vm.findClass RX0 = some m.cls := findClass_of_methodNamed B.named
  have hlocks := B.notSynchronized
  have hl := lv_entry ([.ref h, .int (iZ a)]) (n := 2) (Nat.le_of_ble_eq_true rfl)
  rw [lg_entry_eq]
  generalize (lg_sl ([.ref h, .int (iZ a)]) ++ List.replicate (2 - (lg_sl ([.ref h, .int (iZ a)])).length) Slot.unset).toArray = ls at hl ⊢
  replace hl : lv_has ls 2 [(0, .ref h), (1, .int (iZ a))] := hl
  have h0 := hW.1
  have hnc := hW.nc
  refine lv_iload_n hx hb dX0_hasCell_0 rfl (lv_at hl 1 rfl) ?_
  refine z_iconst hx hb dX0_hasCell_1 ?_
  refine lv_aload_n hx hb dX0_hasCell_2 rfl (lv_at hl 0 rfl) ?_
  refine ro_V (As := []) (rest := [.int (iZ 0), .int (iZ a)]) ⟨hx, hb, hml, hown, hts⟩ (c_X0_cells l G Y h ad K hW ) (cwV 0 hts gX0_hasCell_X0_cells rfl rfl rfl (by decide +kernel) ⟨Nat.le_of_ble_eq_true rfl, Nat.le_of_ble_eq_true rfl⟩) hK hP 0 rfl rfl rfl hl.1 rfl (Nat.le_of_ble_eq_true rfl) dX0_hasCell_3 ⟨Nat.zero_le _, Nat.zero_le _⟩ ?_
  refine z_iconst hx hb dX0_hasCell_6 ?_
  refine z_isub hx hb dX0_hasCell_7 ?_
  refine ro_SN (As := [.int (iZ a), .int (iZ 0), .int (iZ ((K 0 0 * K 0 1) - 1))]) (rest := []) ⟨hx, hb, hml, hown, hts⟩ (c_X6_isWithin l G Y a 0 ((K 0 0 * K 0 1) - 1) (by omega)) ⟨va_cnB 3 hts gX0_hasCell_X6_isWithin_n64 rfl rfl rfl (nk_X0_64 hK.2) (hts (.initialized RX6) (by decide +kernel)) (by decide +kernel) ⟨Nat.le_of_ble_eq_true rfl, Nat.le_of_ble_eq_true rfl⟩, hts (.static yX6_isWithin) (by decide +kernel), trivial⟩ hK (hP.sub (ws' := []) [] rfl) rfl hl.1 rfl (Nat.le_of_ble_eq_true rfl) dX0_hasCell_8 ⟨Nat.zero_le _, Nat.zero_le _⟩ ?_
  refine z_top (show bZ (decide (0 ≤ a ∧ a ≤ ((K 0 0 * K 0 1) - 1))) = bZ (decide (0 ≤ a ∧ a ≤ K 0 0 * K 0 1 - 1)) from ?_) ?_
  · rfl
  exact W.zret (v := iZ (bZ (decide (0 ≤ a ∧ a ≤ K 0 0 * K 0 1 - 1)))) hx hb hr (b01_nar (bZ_in _)) (fun t9 ht9 _ => ⟨rfl, ht9⟩) (fun q h => absurd h List.not_mem_nil) dX0_hasCell_11

set_option maxHeartbeats 4000000 in
set_option maxRecDepth 100000 in
theorem c_X0_hasTree (l : Launch) (G : va_G) (Y : Nat → ClassId) (h : Nat) (ad : Nat → Nat) (K : Kom) (hW : cWF K) (a : Int) (r : zR a) : Met l yX0_hasTree wsX0_hasTree ({ frames := 1, cells := 0, slots := 0, locals := 22 }) (rP G Y [.ref h, .int (iZ a)] (cmW Y h ad K)) (rQ (.int (iZ (bZ (decide (0 ≤ a ∧ a ≤ K 0 2 - 1)))))) 0 0 (fun _ => False) := by
  refine Met.ofW (cc := cX0_hasTree) (maxL := 2) (ret := (some .boolean)) (by decide) rfl ?_
  intro p e s m args below meth c s₁ B hml hv
  obtain ⟨rfl, hK, hP⟩ := hv
  have hx := B.exec
  have hb := B.bytes
  have hr := B.returns
  have hts := atoms_spec (ws := wsX0_hasTree) B.pre
  have hown : s.vm.findClass RX0 = some m.cls := findClass_of_methodNamed B.named
  have hlocks := B.notSynchronized
  have hFX0 : ∀ w ∈ wsX00, w ∈ wsX0_hasTree := by decide +kernel
  have kf44 := (hts (.fieldLink RX0 44 "ShadeVotes$Commune" "trees" "I") (by decide +kernel))
  have hl := lv_entry ([.ref h, .int (iZ a)]) (n := 2) (Nat.le_of_ble_eq_true rfl)
  rw [lg_entry_eq]
  generalize (lg_sl ([.ref h, .int (iZ a)]) ++ List.replicate (2 - (lg_sl ([.ref h, .int (iZ a)])).length) Slot.unset).toArray = ls at hl ⊢
  replace hl : lv_has ls 2 [(0, .ref h), (1, .int (iZ a))] := hl
  have h0 := hW.1
  have hnc := hW.nc
  refine lv_iload_n hx hb dX0_hasTree_0 rfl (lv_at hl 1 rfl) ?_
  refine z_iconst hx hb dX0_hasTree_1 ?_
  refine lv_aload_n hx hb dX0_hasTree_2 rfl (lv_at hl 0 rfl) ?_
  refine va_get (D := G) (ci := 0) (v := .int (iZ (K 0 2))) (C := RX0) (T := TX0) (N := 14) hx hb hts hFX0 hown hK.1 hP 0 rfl rfl 2 (by decide) kf44 (fun _ h9 => h9) rfl dX0_hasTree_3 ?_
  refine z_iconst hx hb dX0_hasTree_6 ?_
  refine z_isub hx hb dX0_hasTree_7 ?_
  refine ro_SN (As := [.int (iZ a), .int (iZ 0), .int (iZ (K 0 2 - 1))]) (rest := []) ⟨hx, hb, hml, hown, hts⟩ (c_X6_isWithin l G Y a 0 (K 0 2 - 1) (by omega)) ⟨va_cnB 3 hts gX0_hasTree_X6_isWithin_n64 rfl rfl rfl (nk_X0_64 hK.2) (hts (.initialized RX6) (by decide +kernel)) (by decide +kernel) ⟨Nat.le_of_ble_eq_true rfl, Nat.le_of_ble_eq_true rfl⟩, hts (.static yX6_isWithin) (by decide +kernel), trivial⟩ hK (hP.sub (ws' := []) [] rfl) rfl hl.1 rfl (Nat.le_of_ble_eq_true rfl) dX0_hasTree_8 ⟨Nat.zero_le _, Nat.zero_le _⟩ ?_
  refine z_top (show bZ (decide (0 ≤ a ∧ a ≤ (K 0 2 - 1))) = bZ (decide (0 ≤ a ∧ a ≤ K 0 2 - 1)) from ?_) ?_
  · rfl
  exact W.zret (v := iZ (bZ (decide (0 ≤ a ∧ a ≤ K 0 2 - 1)))) hx hb hr (b01_nar (bZ_in _)) (fun t9 ht9 _ => ⟨rfl, ht9⟩) (fun q h => absurd h List.not_mem_nil) dX0_hasTree_11

set_option maxHeartbeats 4000000 in
set_option maxRecDepth 100000 in
theorem c_X0_hasPerson (l : Launch) (G : va_G) (Y : Nat → ClassId) (h : Nat) (ad : Nat → Nat) (K : Kom) (hW : cWF K) (a : Int) (r : zR a) : Met l yX0_hasPerson wsX0_hasPerson ({ frames := 1, cells := 0, slots := 0, locals := 22 }) (rP G Y [.ref h, .int (iZ a)] (cmW Y h ad K)) (rQ (.int (iZ (bZ (decide (0 ≤ a ∧ a ≤ K 0 3 - 1)))))) 0 0 (fun _ => False) := by
  refine Met.ofW (cc := cX0_hasPerson) (maxL := 2) (ret := (some .boolean)) (by decide) rfl ?_
  intro p e s m args below meth c s₁ B hml hv
  obtain ⟨rfl, hK, hP⟩ := hv
  have hx := B.exec
  have hb := B.bytes
  have hr := B.returns
  have hts := atoms_spec (ws := wsX0_hasPerson) B.pre
  have hown : s.vm.findClass RX0 = some m.cls := findClass_of_methodNamed B.named
  have hlocks := B.notSynchronized
  have hFX0 : ∀ w ∈ wsX00, w ∈ wsX0_hasPerson := by decide +kernel
  have kf47 := (hts (.fieldLink RX0 47 "ShadeVotes$Commune" "people" "I") (by decide +kernel))
  have hl := lv_entry ([.ref h, .int (iZ a)]) (n := 2) (Nat.le_of_ble_eq_true rfl)
  rw [lg_entry_eq]
  generalize (lg_sl ([.ref h, .int (iZ a)]) ++ List.replicate (2 - (lg_sl ([.ref h, .int (iZ a)])).length) Slot.unset).toArray = ls at hl ⊢
  replace hl : lv_has ls 2 [(0, .ref h), (1, .int (iZ a))] := hl
  have h0 := hW.1
  have hnc := hW.nc
  refine lv_iload_n hx hb dX0_hasPerson_0 rfl (lv_at hl 1 rfl) ?_
  refine z_iconst hx hb dX0_hasPerson_1 ?_
  refine lv_aload_n hx hb dX0_hasPerson_2 rfl (lv_at hl 0 rfl) ?_
  refine va_get (D := G) (ci := 0) (v := .int (iZ (K 0 3))) (C := RX0) (T := TX0) (N := 14) hx hb hts hFX0 hown hK.1 hP 0 rfl rfl 3 (by decide) kf47 (fun _ h9 => h9) rfl dX0_hasPerson_3 ?_
  refine z_iconst hx hb dX0_hasPerson_6 ?_
  refine z_isub hx hb dX0_hasPerson_7 ?_
  refine ro_SN (As := [.int (iZ a), .int (iZ 0), .int (iZ (K 0 3 - 1))]) (rest := []) ⟨hx, hb, hml, hown, hts⟩ (c_X6_isWithin l G Y a 0 (K 0 3 - 1) (by omega)) ⟨va_cnB 3 hts gX0_hasPerson_X6_isWithin_n64 rfl rfl rfl (nk_X0_64 hK.2) (hts (.initialized RX6) (by decide +kernel)) (by decide +kernel) ⟨Nat.le_of_ble_eq_true rfl, Nat.le_of_ble_eq_true rfl⟩, hts (.static yX6_isWithin) (by decide +kernel), trivial⟩ hK (hP.sub (ws' := []) [] rfl) rfl hl.1 rfl (Nat.le_of_ble_eq_true rfl) dX0_hasPerson_8 ⟨Nat.zero_le _, Nat.zero_le _⟩ ?_
  refine z_top (show bZ (decide (0 ≤ a ∧ a ≤ (K 0 3 - 1))) = bZ (decide (0 ≤ a ∧ a ≤ K 0 3 - 1)) from ?_) ?_
  · rfl
  exact W.zret (v := iZ (bZ (decide (0 ≤ a ∧ a ≤ K 0 3 - 1)))) hx hb hr (b01_nar (bZ_in _)) (fun t9 ht9 _ => ⟨rfl, ht9⟩) (fun q h => absurd h List.not_mem_nil) dX0_hasPerson_11

set_option maxHeartbeats 4000000 in
set_option maxRecDepth 100000 in
theorem c_X0_hasTreeAt (l : Launch) (G : va_G) (Y : Nat → ClassId) (h : Nat) (ad : Nat → Nat) (K : Kom) (hW : cWF K) (a : Int) (r : zR a) : Met l yX0_hasTreeAt wsX0_hasTreeAt ({ frames := 0, cells := 0, slots := 0, locals := 0 }) (rP G Y [.ref h, .int (iZ a)] (cmW Y h ad K)) (rQ (.int (iZ (bZ (htA K a (K 0 2).toNat))))) 0 0 (fun _ => False) := by
  refine Met.ofW (cc := cX0_hasTreeAt) (maxL := 3) (ret := (some .boolean)) (by decide) rfl ?_
  intro p e s m args below meth c s₁ B hml hv
  obtain ⟨rfl, hK, hP⟩ := hv
  have hx := B.exec
  have hb := B.bytes
  have hr := B.returns
  have hts := atoms_spec (ws := wsX0_hasTreeAt) B.pre
  have hown : s.vm.findClass RX0 = some m.cls := findClass_of_methodNamed B.named
  have hlocks := B.notSynchronized
  have hFX0 : ∀ w ∈ wsX00, w ∈ wsX0_hasTreeAt := by decide +kernel
  have kf44 := (hts (.fieldLink RX0 44 "ShadeVotes$Commune" "trees" "I") (by decide +kernel))
  have kf9 := (hts (.fieldLink RX0 9 "ShadeVotes$Commune" "treeCell" "[I") (by decide +kernel))
  have hl := lv_entry ([.ref h, .int (iZ a)]) (n := 3) (Nat.le_of_ble_eq_true rfl)
  rw [lg_entry_eq]
  generalize (lg_sl ([.ref h, .int (iZ a)]) ++ List.replicate (3 - (lg_sl ([.ref h, .int (iZ a)])).length) Slot.unset).toArray = ls at hl ⊢
  replace hl : lv_has ls 3 [(0, .ref h), (1, .int (iZ a))] := hl
  have h0 := hW.1
  have hnc := hW.nc
  refine z_iconst hx hb dX0_hasTreeAt_0 ?_
  refine lv_istore_n (lv' := [(2, .int (iZ 0)), (0, .ref h), (1, .int (iZ a))]) hx hb dX0_hasTreeAt_1 rfl hl (by decide) rfl (fun ls hl => ?_)
  obtain ⟨t, hI, hl1⟩ : ∃ (t : Nat), (htA K a t = false ∧ (t : Int) ≤ K 0 2) ∧ lv_has ls 3 [(2, .int (iZ ((t : Nat) : Int))), (0, .ref h), (1, .int (iZ a))] := ⟨0, by exact ⟨rfl, by omega⟩, lv_sub hl [0, 1, 2] rfl⟩
  clear hl
  have hl := hl1
  clear hl1
  obtain ⟨n_, hn_⟩ : ∃ n_ : Nat, (K 0 2).toNat - t < n_ := ⟨_, Nat.lt_succ_self _⟩
  induction n_ generalizing t ls with
  | zero => exact absurd hn_ (Nat.not_lt_zero _)
  | succ n_ ih1 =>
    refine lv_iload_n hx hb dX0_hasTreeAt_2 rfl (lv_at hl 0 rfl) ?_
    refine lv_aload_n hx hb dX0_hasTreeAt_3 rfl (lv_at hl 1 rfl) ?_
    refine va_get (D := G) (ci := 0) (v := .int (iZ (K 0 2))) (C := RX0) (T := TX0) (N := 14) hx hb hts hFX0 hown hK.1 hP 0 rfl rfl 2 (by decide) kf44 (fun _ h9 => h9) rfl dX0_hasTreeAt_4 ?_
    refine z_icmp_ge (tgt := 28) hx hb dX0_hasTreeAt_7 (by decide) (by omega) (fun c_2 => ?_) (fun c_2 => ?_)
    · skip
      refine z_iconst hx hb dX0_hasTreeAt_28 ?_
      refine z_top (show 0 = bZ (htA K a (K 0 2).toNat) from ?_) ?_
      · (have e9 : (K 0 2).toNat = t := by omega); rw [e9, hI.1]; rfl
      exact W.zret (v := iZ (bZ (htA K a (K 0 2).toNat))) hx hb hr (b01_nar (bZ_in _)) (fun t9 ht9 _ => ⟨rfl, ht9⟩) (fun q h => absurd h List.not_mem_nil) dX0_hasTreeAt_29
    · skip
      refine lv_aload_n hx hb dX0_hasTreeAt_10 rfl (lv_at hl 1 rfl) ?_
      refine va_get (D := G) (ci := 0) (v := .ref (ad 1)) (C := RX0) (T := TX0) (N := 14) hx hb hts hFX0 hown hK.1 hP 0 rfl rfl 7 (by decide) kf9 (fun _ h9 => h9) rfl dX0_hasTreeAt_11 ?_
      refine lv_iload_n hx hb dX0_hasTreeAt_14 rfl (lv_at hl 0 rfl) ?_
      refine z_iald hx hb hK.1 hP 1 0 rfl rfl t (by omega) (by decide) dX0_hasTreeAt_15 ?_
      have hb_3 := hW.2.1 t (by omega)
      refine lv_iload_n hx hb dX0_hasTreeAt_16 rfl (lv_at hl 2 rfl) ?_
      refine z_icmp_ne (tgt := 22) hx hb dX0_hasTreeAt_17 (by decide) (by omega) (fun c_4 => ?_) (fun c_4 => ?_)
      · skip
        refine lv_iinc (v := iZ ((t + 1 : Nat) : Int)) (lv' := [(2, .int (iZ ((t + 1 : Nat) : Int))), (0, .ref h), (1, .int (iZ a))]) hx hb dX0_hasTreeAt_22 hl (k := 0) rfl (iZ_inc _) (by decide) rfl (fun ls hl => ?_)
        refine lv_goto (tgt := 2) hx hb dX0_hasTreeAt_25 (by decide) ?_
        exact ih1 (ls := ls) (t := t + 1) (hI := by exact ⟨by rw [htA, hI.1, Bool.false_or]; exact decide_eq_false (by omega), by omega⟩) (hl := lv_sub hl [0, 1, 2] rfl) (hn_ := by omega)
      · skip
        refine z_iconst hx hb dX0_hasTreeAt_20 ?_
        refine z_top (show 1 = bZ (htA K a (K 0 2).toNat) from ?_) ?_
        · rw [htA_mono K a (t := t) (by omega) (by assumption)]; rfl
        exact W.zret (v := iZ (bZ (htA K a (K 0 2).toNat))) hx hb hr (b01_nar (bZ_in _)) (fun t9 ht9 _ => ⟨rfl, ht9⟩) (fun q h => absurd h List.not_mem_nil) dX0_hasTreeAt_21

set_option maxHeartbeats 4000000 in
set_option maxRecDepth 100000 in
theorem c_X0_rowOf (l : Launch) (G : va_G) (Y : Nat → ClassId) (h : Nat) (ad : Nat → Nat) (K : Kom) (hW : cWF K) (a : Int) (r : 0 ≤ a ∧ a ≤ 19) : Met l yX0_rowOf wsX0_rowOf ({ frames := 0, cells := 0, slots := 0, locals := 0 }) (rP G Y [.ref h, .int (iZ a)] (cmW Y h ad K)) (rQ (.int (iZ (a / K 0 0)))) 0 0 (fun _ => False) := by
  refine Met.ofW (cc := cX0_rowOf) (maxL := 2) (ret := (some .int)) (by decide) rfl ?_
  intro p e s m args below meth c s₁ B hml hv
  obtain ⟨rfl, hK, hP⟩ := hv
  have hx := B.exec
  have hb := B.bytes
  have hr := B.returns
  have hts := atoms_spec (ws := wsX0_rowOf) B.pre
  have hown : s.vm.findClass RX0 = some m.cls := findClass_of_methodNamed B.named
  have hlocks := B.notSynchronized
  have hFX0 : ∀ w ∈ wsX00, w ∈ wsX0_rowOf := by decide +kernel
  have kf37 := (hts (.fieldLink RX0 37 "ShadeVotes$Commune" "wide" "I") (by decide +kernel))
  have hl := lv_entry ([.ref h, .int (iZ a)]) (n := 2) (Nat.le_of_ble_eq_true rfl)
  rw [lg_entry_eq]
  generalize (lg_sl ([.ref h, .int (iZ a)]) ++ List.replicate (2 - (lg_sl ([.ref h, .int (iZ a)])).length) Slot.unset).toArray = ls at hl ⊢
  replace hl : lv_has ls 2 [(0, .ref h), (1, .int (iZ a))] := hl
  have h0 := hW.1
  have hnc := hW.nc
  refine lv_aload_n hx hb dX0_rowOf_0 rfl (lv_at hl 0 rfl) ?_
  refine va_get (D := G) (ci := 0) (v := .int (iZ (K 0 0))) (C := RX0) (T := TX0) (N := 14) hx hb hts hFX0 hown hK.1 hP 0 rfl rfl 0 (by decide) kf37 (fun _ h9 => h9) rfl dX0_rowOf_1 ?_
  refine z_if_le (tgt := 16) hx hb dX0_rowOf_4 (by decide) (by omega) (fun c_1 => ?_) (fun c_1 => ?_)
  · skip
    refine z_iconst hx hb dX0_rowOf_16 ?_
    refine z_top (show 0 = (a / K 0 0) from ?_) ?_
    · omega
    exact W.iret (v := iZ (a / K 0 0)) hx hb hr (fun t9 ht9 _ => ⟨rfl, ht9⟩) (fun q h => absurd h List.not_mem_nil) dX0_rowOf_17
  · skip
    refine lv_iload_n hx hb dX0_rowOf_7 rfl (lv_at hl 1 rfl) ?_
    refine lv_aload_n hx hb dX0_rowOf_8 rfl (lv_at hl 0 rfl) ?_
    refine va_get (D := G) (ci := 0) (v := .int (iZ (K 0 0))) (C := RX0) (T := TX0) (N := 14) hx hb hts hFX0 hown hK.1 hP 0 rfl rfl 0 (by decide) kf37 (fun _ h9 => h9) rfl dX0_rowOf_9 ?_
    refine z_idiv hx hb dX0_rowOf_12 (by omega) ?_
    refine lv_goto (tgt := 17) hx hb dX0_rowOf_13 (by decide) ?_
    exact W.iret (v := iZ (a / K 0 0)) hx hb hr (fun t9 ht9 _ => ⟨rfl, ht9⟩) (fun q h => absurd h List.not_mem_nil) dX0_rowOf_17

set_option maxHeartbeats 4000000 in
set_option maxRecDepth 100000 in
theorem c_X0_columnOf (l : Launch) (G : va_G) (Y : Nat → ClassId) (h : Nat) (ad : Nat → Nat) (K : Kom) (hW : cWF K) (a : Int) (r : 0 ≤ a ∧ a ≤ 19) : Met l yX0_columnOf wsX0_columnOf ({ frames := 0, cells := 0, slots := 0, locals := 0 }) (rP G Y [.ref h, .int (iZ a)] (cmW Y h ad K)) (rQ (.int (iZ (a % K 0 0)))) 0 0 (fun _ => False) := by
  refine Met.ofW (cc := cX0_columnOf) (maxL := 2) (ret := (some .int)) (by decide) rfl ?_
  intro p e s m args below meth c s₁ B hml hv
  obtain ⟨rfl, hK, hP⟩ := hv
  have hx := B.exec
  have hb := B.bytes
  have hr := B.returns
  have hts := atoms_spec (ws := wsX0_columnOf) B.pre
  have hown : s.vm.findClass RX0 = some m.cls := findClass_of_methodNamed B.named
  have hlocks := B.notSynchronized
  have hFX0 : ∀ w ∈ wsX00, w ∈ wsX0_columnOf := by decide +kernel
  have kf37 := (hts (.fieldLink RX0 37 "ShadeVotes$Commune" "wide" "I") (by decide +kernel))
  have hl := lv_entry ([.ref h, .int (iZ a)]) (n := 2) (Nat.le_of_ble_eq_true rfl)
  rw [lg_entry_eq]
  generalize (lg_sl ([.ref h, .int (iZ a)]) ++ List.replicate (2 - (lg_sl ([.ref h, .int (iZ a)])).length) Slot.unset).toArray = ls at hl ⊢
  replace hl : lv_has ls 2 [(0, .ref h), (1, .int (iZ a))] := hl
  have h0 := hW.1
  have hnc := hW.nc
  refine lv_aload_n hx hb dX0_columnOf_0 rfl (lv_at hl 0 rfl) ?_
  refine va_get (D := G) (ci := 0) (v := .int (iZ (K 0 0))) (C := RX0) (T := TX0) (N := 14) hx hb hts hFX0 hown hK.1 hP 0 rfl rfl 0 (by decide) kf37 (fun _ h9 => h9) rfl dX0_columnOf_1 ?_
  refine z_if_le (tgt := 16) hx hb dX0_columnOf_4 (by decide) (by omega) (fun c_1 => ?_) (fun c_1 => ?_)
  · skip
    refine z_iconst hx hb dX0_columnOf_16 ?_
    refine z_top (show 0 = (a % K 0 0) from ?_) ?_
    · omega
    exact W.iret (v := iZ (a % K 0 0)) hx hb hr (fun t9 ht9 _ => ⟨rfl, ht9⟩) (fun q h => absurd h List.not_mem_nil) dX0_columnOf_17
  · skip
    refine lv_iload_n hx hb dX0_columnOf_7 rfl (lv_at hl 1 rfl) ?_
    refine lv_aload_n hx hb dX0_columnOf_8 rfl (lv_at hl 0 rfl) ?_
    refine va_get (D := G) (ci := 0) (v := .int (iZ (K 0 0))) (C := RX0) (T := TX0) (N := 14) hx hb hts hFX0 hown hK.1 hP 0 rfl rfl 0 (by decide) kf37 (fun _ h9 => h9) rfl dX0_columnOf_9 ?_
    refine z_irem hx hb dX0_columnOf_12 (by omega) ?_
    refine lv_goto (tgt := 17) hx hb dX0_columnOf_13 (by decide) ?_
    exact W.iret (v := iZ (a % K 0 0)) hx hb hr (fun t9 ht9 _ => ⟨rfl, ht9⟩) (fun q h => absurd h List.not_mem_nil) dX0_columnOf_17

set_option maxHeartbeats 4000000 in
set_option maxRecDepth 100000 in
theorem c_X0_steps (l : Launch) (G : va_G) (Y : Nat → ClassId) (h : Nat) (ad : Nat → Nat) (K : Kom) (hW : cWF K) (a b : Int) (r : (0 ≤ a ∧ a ≤ 19) ∧ 0 ≤ b ∧ b ≤ 19) : Met l yX0_steps wsX0_steps ({ frames := 1, cells := 0, slots := 0, locals := 21 }) (rP G Y [.ref h, .int (iZ a), .int (iZ b)] (cmW Y h ad K)) (rQ (.int (iZ (stp K a b)))) 0 0 (fun _ => False) := by
  refine Met.ofW (cc := cX0_steps) (maxL := 3) (ret := (some .int)) (by decide) rfl ?_
  intro p e s m args below meth c s₁ B hml hv
  obtain ⟨rfl, hK, hP⟩ := hv
  have hx := B.exec
  have hb := B.bytes
  have hr := B.returns
  have hts := atoms_spec (ws := wsX0_steps) B.pre
  have hown : s.vm.findClass RX0 = some m.cls := findClass_of_methodNamed B.named
  have hlocks := B.notSynchronized
  have hl := lv_entry ([.ref h, .int (iZ a), .int (iZ b)]) (n := 3) (Nat.le_of_ble_eq_true rfl)
  rw [lg_entry_eq]
  generalize (lg_sl ([.ref h, .int (iZ a), .int (iZ b)]) ++ List.replicate (3 - (lg_sl ([.ref h, .int (iZ a), .int (iZ b)])).length) Slot.unset).toArray = ls at hl ⊢
  replace hl : lv_has ls 3 [(0, .ref h), (1, .int (iZ a)), (2, .int (iZ b))] := hl
  have h0 := hW.1
  have hnc := hW.nc
  refine lv_aload_n hx hb dX0_steps_0 rfl (lv_at hl 0 rfl) ?_
  refine lv_iload_n hx hb dX0_steps_1 rfl (lv_at hl 1 rfl) ?_
  refine ro_V (As := [.int (iZ a)]) (rest := []) ⟨hx, hb, hml, hown, hts⟩ (c_X0_rowOf l G Y h ad K hW a (by omega)) (cwV 1 hts gX0_steps_X0_rowOf rfl rfl rfl (by decide +kernel) ⟨Nat.le_of_ble_eq_true rfl, Nat.le_of_ble_eq_true rfl⟩) hK hP 0 rfl rfl rfl hl.1 rfl (Nat.le_of_ble_eq_true rfl) dX0_steps_2 ⟨Nat.zero_le _, Nat.zero_le _⟩ ?_
  have hb_1 := dm_in (c := a) (w := K 0 0) (by omega) (by omega)
  refine lv_aload_n hx hb dX0_steps_5 rfl (lv_at hl 0 rfl) ?_
  refine lv_iload_n hx hb dX0_steps_6 rfl (lv_at hl 2 rfl) ?_
  refine ro_V (As := [.int (iZ b)]) (rest := [.int (iZ (a / K 0 0))]) ⟨hx, hb, hml, hown, hts⟩ (c_X0_rowOf l G Y h ad K hW b (by omega)) (cwV 1 hts gX0_steps_X0_rowOf rfl rfl rfl (by decide +kernel) ⟨Nat.le_of_ble_eq_true rfl, Nat.le_of_ble_eq_true rfl⟩) hK hP 0 rfl rfl rfl hl.1 rfl (Nat.le_of_ble_eq_true rfl) dX0_steps_7 ⟨Nat.zero_le _, Nat.zero_le _⟩ ?_
  have hb_2 := dm_in (c := b) (w := K 0 0) (by omega) (by omega)
  refine z_isub hx hb dX0_steps_10 ?_
  refine z_mabs hx hb (hml.trans hl.1.symm) hown (hts (.methodLink RX0 81 Lib.Math.abs.name) (by decide +kernel)) (hts (.static Lib.Math.abs.name) (by decide +kernel)) (hts (.initialized "java/lang/Math") (by decide +kernel)) (hts (.code Lib.Math.abs.name Lib.Math.abs.code 1 (some .int)) (by decide +kernel)) (Nat.le_of_ble_eq_true rfl) (Nat.le_of_ble_eq_true rfl) (Nat.zero_le _) (Nat.zero_le _) (by omega) dX0_steps_11 ?_
  have hb_3 := zabs_ge ((a / K 0 0) - (b / K 0 0))
  refine lv_aload_n hx hb dX0_steps_14 rfl (lv_at hl 0 rfl) ?_
  refine lv_iload_n hx hb dX0_steps_15 rfl (lv_at hl 1 rfl) ?_
  refine ro_V (As := [.int (iZ a)]) (rest := [.int (iZ (zabs ((a / K 0 0) - (b / K 0 0))))]) ⟨hx, hb, hml, hown, hts⟩ (c_X0_columnOf l G Y h ad K hW a (by omega)) (cwV 1 hts gX0_steps_X0_columnOf rfl rfl rfl (by decide +kernel) ⟨Nat.le_of_ble_eq_true rfl, Nat.le_of_ble_eq_true rfl⟩) hK hP 0 rfl rfl rfl hl.1 rfl (Nat.le_of_ble_eq_true rfl) dX0_steps_16 ⟨Nat.zero_le _, Nat.zero_le _⟩ ?_
  have hb_4 := dm_in (c := a) (w := K 0 0) (by omega) (by omega)
  refine lv_aload_n hx hb dX0_steps_19 rfl (lv_at hl 0 rfl) ?_
  refine lv_iload_n hx hb dX0_steps_20 rfl (lv_at hl 2 rfl) ?_
  refine ro_V (As := [.int (iZ b)]) (rest := [.int (iZ (a % K 0 0)), .int (iZ (zabs ((a / K 0 0) - (b / K 0 0))))]) ⟨hx, hb, hml, hown, hts⟩ (c_X0_columnOf l G Y h ad K hW b (by omega)) (cwV 1 hts gX0_steps_X0_columnOf rfl rfl rfl (by decide +kernel) ⟨Nat.le_of_ble_eq_true rfl, Nat.le_of_ble_eq_true rfl⟩) hK hP 0 rfl rfl rfl hl.1 rfl (Nat.le_of_ble_eq_true rfl) dX0_steps_21 ⟨Nat.zero_le _, Nat.zero_le _⟩ ?_
  have hb_5 := dm_in (c := b) (w := K 0 0) (by omega) (by omega)
  refine z_isub hx hb dX0_steps_24 ?_
  refine z_mabs hx hb (hml.trans hl.1.symm) hown (hts (.methodLink RX0 81 Lib.Math.abs.name) (by decide +kernel)) (hts (.static Lib.Math.abs.name) (by decide +kernel)) (hts (.initialized "java/lang/Math") (by decide +kernel)) (hts (.code Lib.Math.abs.name Lib.Math.abs.code 1 (some .int)) (by decide +kernel)) (Nat.le_of_ble_eq_true rfl) (Nat.le_of_ble_eq_true rfl) (Nat.zero_le _) (Nat.zero_le _) (by omega) dX0_steps_25 ?_
  have hb_6 := zabs_ge ((a % K 0 0) - (b % K 0 0))
  refine z_iadd hx hb dX0_steps_28 ?_
  refine z_top (show (zabs ((a / K 0 0) - (b / K 0 0)) + zabs ((a % K 0 0) - (b % K 0 0))) = stp K a b from ?_) ?_
  · rfl
  exact W.iret (v := iZ (stp K a b)) hx hb hr (fun t9 ht9 _ => ⟨rfl, ht9⟩) (fun q h => absurd h List.not_mem_nil) dX0_steps_29

set_option maxHeartbeats 4000000 in
set_option maxRecDepth 100000 in
theorem c_X0_neighbour (l : Launch) (G : va_G) (Y : Nat → ClassId) (h : Nat) (ad : Nat → Nat) (K : Kom) (hW : cWF K) (a b : Int) (r : (0 ≤ a ∧ a ≤ 19) ∧ zR b) : Met l yX0_neighbour wsX0_neighbour ({ frames := 1, cells := 0, slots := 0, locals := 21 }) (rP G Y [.ref h, .int (iZ a), .int (iZ b)] (cmW Y h ad K)) (rQ (.int (iZ (nbr K a b)))) 0 0 (fun _ => False) := by
  refine Met.ofW (cc := cX0_neighbour) (maxL := 5) (ret := (some .int)) (by decide) rfl ?_
  intro p e s m args below meth c s₁ B hml hv
  obtain ⟨rfl, hK, hP⟩ := hv
  have hx := B.exec
  have hb := B.bytes
  have hr := B.returns
  have hts := atoms_spec (ws := wsX0_neighbour) B.pre
  have hown : s.vm.findClass RX0 = some m.cls := findClass_of_methodNamed B.named
  have hlocks := B.notSynchronized
  have hFX0 : ∀ w ∈ wsX00, w ∈ wsX0_neighbour := by decide +kernel
  have kf37 := (hts (.fieldLink RX0 37 "ShadeVotes$Commune" "wide" "I") (by decide +kernel))
  have kf41 := (hts (.fieldLink RX0 41 "ShadeVotes$Commune" "high" "I") (by decide +kernel))
  have hl := lv_entry ([.ref h, .int (iZ a), .int (iZ b)]) (n := 5) (Nat.le_of_ble_eq_true rfl)
  rw [lg_entry_eq]
  generalize (lg_sl ([.ref h, .int (iZ a), .int (iZ b)]) ++ List.replicate (5 - (lg_sl ([.ref h, .int (iZ a), .int (iZ b)])).length) Slot.unset).toArray = ls at hl ⊢
  replace hl : lv_has ls 5 [(0, .ref h), (1, .int (iZ a)), (2, .int (iZ b))] := hl
  have h0 := hW.1
  have hnc := hW.nc
  refine lv_aload_n hx hb dX0_neighbour_0 rfl (lv_at hl 0 rfl) ?_
  refine lv_iload_n hx hb dX0_neighbour_1 rfl (lv_at hl 1 rfl) ?_
  refine ro_V (As := [.int (iZ a)]) (rest := []) ⟨hx, hb, hml, hown, hts⟩ (c_X0_rowOf l G Y h ad K hW a (by omega)) (cwV 1 hts gX0_neighbour_X0_rowOf rfl rfl rfl (by decide +kernel) ⟨Nat.le_of_ble_eq_true rfl, Nat.le_of_ble_eq_true rfl⟩) hK hP 0 rfl rfl rfl hl.1 rfl (Nat.le_of_ble_eq_true rfl) dX0_neighbour_2 ⟨Nat.zero_le _, Nat.zero_le _⟩ ?_
  have hb_1 := dm_in (c := a) (w := K 0 0) (by omega) (by omega)
  refine lv_istore_n (lv' := [(3, .int (iZ (a / K 0 0))), (0, .ref h), (1, .int (iZ a)), (2, .int (iZ b))]) hx hb dX0_neighbour_5 rfl hl (by decide) rfl (fun ls hl => ?_)
  refine lv_aload_n hx hb dX0_neighbour_6 rfl (lv_at hl 1 rfl) ?_
  refine lv_iload_n hx hb dX0_neighbour_7 rfl (lv_at hl 2 rfl) ?_
  refine ro_V (As := [.int (iZ a)]) (rest := []) ⟨hx, hb, hml, hown, hts⟩ (c_X0_columnOf l G Y h ad K hW a (by omega)) (cwV 1 hts gX0_neighbour_X0_columnOf rfl rfl rfl (by decide +kernel) ⟨Nat.le_of_ble_eq_true rfl, Nat.le_of_ble_eq_true rfl⟩) hK hP 0 rfl rfl rfl hl.1 rfl (Nat.le_of_ble_eq_true rfl) dX0_neighbour_8 ⟨Nat.zero_le _, Nat.zero_le _⟩ ?_
  have hb_2 := dm_in (c := a) (w := K 0 0) (by omega) (by omega)
  refine lv_istore (lv' := [(4, .int (iZ (a % K 0 0))), (3, .int (iZ (a / K 0 0))), (0, .ref h), (1, .int (iZ a)), (2, .int (iZ b))]) hx hb dX0_neighbour_11 hl (by decide) rfl (fun ls hl => ?_)
  refine lv_iload_n hx hb dX0_neighbour_13 rfl (lv_at hl 4 rfl) ?_
  have c_3_r : (iZ b).toInt = b := iZ_toInt (by omega)
  rcases (show (b < 0 ∨ 3 < b) ∨ b = 0 ∨ b = 1 ∨ b = 2 ∨ b = 3 by omega) with c_3 | c_3 | c_3 | c_3 | c_3
  · skip
    refine lv_tableOut (tgt := 116) hx hb dX0_neighbour_14 (by rw [c_3_r]; exact c_3) (by decide) ?_
    refine z_bipush hx hb dX0_neighbour_116 (by decide) ?_
    refine z_top (show (-9) = nbr K a b from ?_) ?_
    · unfold nbr; simp (disch := omega) only [if_pos, if_neg]
    exact W.iret (v := iZ (nbr K a b)) hx hb hr (fun t9 ht9 _ => ⟨rfl, ht9⟩) (fun q h => absurd h List.not_mem_nil) dX0_neighbour_118
  · skip
    replace c_3_r := c_3_r.trans c_3
    refine lv_tableIn (tgt := 44) (off := 30) hx hb dX0_neighbour_14 (by rw [c_3_r]; decide) (by rw [c_3_r]; decide) (by rw [c_3_r]; rfl) (by decide) ?_
    refine lv_iload_n hx hb dX0_neighbour_44 rfl (lv_at hl 1 rfl) ?_
    refine z_if_le (tgt := 57) hx hb dX0_neighbour_45 (by decide) (by omega) (fun c_4 => ?_) (fun c_4 => ?_)
    · skip
      refine z_bipush hx hb dX0_neighbour_57 (by decide) ?_
      refine z_top (show (-9) = nbr K a b from ?_) ?_
      · unfold nbr; simp (disch := omega) only [if_pos, if_neg]
      exact W.iret (v := iZ (nbr K a b)) hx hb hr (fun t9 ht9 _ => ⟨rfl, ht9⟩) (fun q h => absurd h List.not_mem_nil) dX0_neighbour_59
    · skip
      refine lv_iload_n hx hb dX0_neighbour_48 rfl (lv_at hl 3 rfl) ?_
      refine lv_aload_n hx hb dX0_neighbour_49 rfl (lv_at hl 2 rfl) ?_
      refine va_get (D := G) (ci := 0) (v := .int (iZ (K 0 0))) (C := RX0) (T := TX0) (N := 14) hx hb hts hFX0 hown hK.1 hP 0 rfl rfl 0 (by decide) kf37 (fun _ h9 => h9) rfl dX0_neighbour_50 ?_
      refine z_isub hx hb dX0_neighbour_53 ?_
      refine lv_goto (tgt := 59) hx hb dX0_neighbour_54 (by decide) ?_
      refine z_top (show (a - K 0 0) = nbr K a b from ?_) ?_
      · unfold nbr; simp (disch := omega) only [if_pos, if_neg]
      exact W.iret (v := iZ (nbr K a b)) hx hb hr (fun t9 ht9 _ => ⟨rfl, ht9⟩) (fun q h => absurd h List.not_mem_nil) dX0_neighbour_59
  · skip
    replace c_3_r := c_3_r.trans c_3
    refine lv_tableIn (tgt := 60) (off := 46) hx hb dX0_neighbour_14 (by rw [c_3_r]; decide) (by rw [c_3_r]; decide) (by rw [c_3_r]; rfl) (by decide) ?_
    refine lv_iload hx hb dX0_neighbour_60 (lv_at hl 0 rfl) ?_
    refine lv_aload_n hx hb dX0_neighbour_62 rfl (lv_at hl 2 rfl) ?_
    refine va_get (D := G) (ci := 0) (v := .int (iZ (K 0 0))) (C := RX0) (T := TX0) (N := 14) hx hb hts hFX0 hown hK.1 hP 0 rfl rfl 0 (by decide) kf37 (fun _ h9 => h9) rfl dX0_neighbour_63 ?_
    refine z_iconst hx hb dX0_neighbour_66 ?_
    refine z_isub hx hb dX0_neighbour_67 ?_
    refine z_icmp_ge (tgt := 77) hx hb dX0_neighbour_68 (by decide) (by omega) (fun c_5 => ?_) (fun c_5 => ?_)
    · skip
      refine z_bipush hx hb dX0_neighbour_77 (by decide) ?_
      refine z_top (show (-9) = nbr K a b from ?_) ?_
      · unfold nbr; simp (disch := omega) only [if_pos, if_neg]
      exact W.iret (v := iZ (nbr K a b)) hx hb hr (fun t9 ht9 _ => ⟨rfl, ht9⟩) (fun q h => absurd h List.not_mem_nil) dX0_neighbour_79
    · skip
      refine lv_iload_n hx hb dX0_neighbour_71 rfl (lv_at hl 3 rfl) ?_
      refine z_iconst hx hb dX0_neighbour_72 ?_
      refine z_iadd hx hb dX0_neighbour_73 ?_
      refine lv_goto (tgt := 79) hx hb dX0_neighbour_74 (by decide) ?_
      refine z_top (show (a + 1) = nbr K a b from ?_) ?_
      · unfold nbr; simp (disch := omega) only [if_pos, if_neg]
      exact W.iret (v := iZ (nbr K a b)) hx hb hr (fun t9 ht9 _ => ⟨rfl, ht9⟩) (fun q h => absurd h List.not_mem_nil) dX0_neighbour_79
  · skip
    replace c_3_r := c_3_r.trans c_3
    refine lv_tableIn (tgt := 80) (off := 66) hx hb dX0_neighbour_14 (by rw [c_3_r]; decide) (by rw [c_3_r]; decide) (by rw [c_3_r]; rfl) (by decide) ?_
    refine lv_iload_n hx hb dX0_neighbour_80 rfl (lv_at hl 1 rfl) ?_
    refine lv_aload_n hx hb dX0_neighbour_81 rfl (lv_at hl 2 rfl) ?_
    refine va_get (D := G) (ci := 0) (v := .int (iZ (K 0 1))) (C := RX0) (T := TX0) (N := 14) hx hb hts hFX0 hown hK.1 hP 0 rfl rfl 1 (by decide) kf41 (fun _ h9 => h9) rfl dX0_neighbour_82 ?_
    refine z_iconst hx hb dX0_neighbour_85 ?_
    refine z_isub hx hb dX0_neighbour_86 ?_
    refine z_icmp_ge (tgt := 99) hx hb dX0_neighbour_87 (by decide) (by omega) (fun c_6 => ?_) (fun c_6 => ?_)
    · skip
      refine z_bipush hx hb dX0_neighbour_99 (by decide) ?_
      refine z_top (show (-9) = nbr K a b from ?_) ?_
      · unfold nbr; simp (disch := omega) only [if_pos, if_neg]
      exact W.iret (v := iZ (nbr K a b)) hx hb hr (fun t9 ht9 _ => ⟨rfl, ht9⟩) (fun q h => absurd h List.not_mem_nil) dX0_neighbour_101
    · skip
      refine lv_iload_n hx hb dX0_neighbour_90 rfl (lv_at hl 3 rfl) ?_
      refine lv_aload_n hx hb dX0_neighbour_91 rfl (lv_at hl 2 rfl) ?_
      refine va_get (D := G) (ci := 0) (v := .int (iZ (K 0 0))) (C := RX0) (T := TX0) (N := 14) hx hb hts hFX0 hown hK.1 hP 0 rfl rfl 0 (by decide) kf37 (fun _ h9 => h9) rfl dX0_neighbour_92 ?_
      refine z_iadd hx hb dX0_neighbour_95 ?_
      refine lv_goto (tgt := 101) hx hb dX0_neighbour_96 (by decide) ?_
      refine z_top (show (a + K 0 0) = nbr K a b from ?_) ?_
      · unfold nbr; simp (disch := omega) only [if_pos, if_neg]
      exact W.iret (v := iZ (nbr K a b)) hx hb hr (fun t9 ht9 _ => ⟨rfl, ht9⟩) (fun q h => absurd h List.not_mem_nil) dX0_neighbour_101
  · skip
    replace c_3_r := c_3_r.trans c_3
    refine lv_tableIn (tgt := 102) (off := 88) hx hb dX0_neighbour_14 (by rw [c_3_r]; decide) (by rw [c_3_r]; decide) (by rw [c_3_r]; rfl) (by decide) ?_
    refine lv_iload hx hb dX0_neighbour_102 (lv_at hl 0 rfl) ?_
    refine z_if_le (tgt := 113) hx hb dX0_neighbour_104 (by decide) (by omega) (fun c_7 => ?_) (fun c_7 => ?_)
    · skip
      refine z_bipush hx hb dX0_neighbour_113 (by decide) ?_
      refine z_top (show (-9) = nbr K a b from ?_) ?_
      · unfold nbr; simp (disch := omega) only [if_pos, if_neg]
      exact W.iret (v := iZ (nbr K a b)) hx hb hr (fun t9 ht9 _ => ⟨rfl, ht9⟩) (fun q h => absurd h List.not_mem_nil) dX0_neighbour_115
    · skip
      refine lv_iload_n hx hb dX0_neighbour_107 rfl (lv_at hl 3 rfl) ?_
      refine z_iconst hx hb dX0_neighbour_108 ?_
      refine z_isub hx hb dX0_neighbour_109 ?_
      refine lv_goto (tgt := 115) hx hb dX0_neighbour_110 (by decide) ?_
      refine z_top (show (a - 1) = nbr K a b from ?_) ?_
      · unfold nbr; simp (disch := omega) only [if_pos, if_neg]
      exact W.iret (v := iZ (nbr K a b)) hx hb hr (fun t9 ht9 _ => ⟨rfl, ht9⟩) (fun q h => absurd h List.not_mem_nil) dX0_neighbour_115

set_option maxHeartbeats 4000000 in
set_option maxRecDepth 100000 in
theorem c_X0_isShading (l : Launch) (G : va_G) (Y : Nat → ClassId) (h : Nat) (ad : Nat → Nat) (K : Kom) (hW : cWF K) (t : Nat) (a : Int) (r : t < 6 ∧ 0 ≤ a ∧ a ≤ 19) : Met l yX0_isShading wsX0_isShading ({ frames := 0, cells := 0, slots := 0, locals := 0 }) (rP G Y [.ref h, .int (iZ ((t : Nat) : Int)), .int (iZ a)] (cmW Y h ad K)) (rQ (.int (iZ (bZ (shd K t a))))) 0 0 (fun _ => False) := by
  refine Met.ofW (cc := cX0_isShading) (maxL := 4) (ret := (some .boolean)) (by decide) rfl ?_
  intro p e s m args below meth c s₁ B hml hv
  obtain ⟨rfl, hK, hP⟩ := hv
  have hx := B.exec
  have hb := B.bytes
  have hr := B.returns
  have hts := atoms_spec (ws := wsX0_isShading) B.pre
  have hown : s.vm.findClass RX0 = some m.cls := findClass_of_methodNamed B.named
  have hlocks := B.notSynchronized
  have hFX0 : ∀ w ∈ wsX00, w ∈ wsX0_isShading := by decide +kernel
  have kf15 := (hts (.fieldLink RX0 15 "ShadeVotes$Commune" "treeHeight" "[I") (by decide +kernel))
  have kf56 := (hts (.fieldLink RX0 56 "ShadeVotes$Commune" "isWinter" "Z") (by decide +kernel))
  have kf37 := (hts (.fieldLink RX0 37 "ShadeVotes$Commune" "wide" "I") (by decide +kernel))
  have kf50 := (hts (.fieldLink RX0 50 "ShadeVotes$Commune" "sunlight" "I") (by decide +kernel))
  have kf9 := (hts (.fieldLink RX0 9 "ShadeVotes$Commune" "treeCell" "[I") (by decide +kernel))
  have kf21 := (hts (.fieldLink RX0 21 "ShadeVotes$Commune" "treeEvergreen" "[Z") (by decide +kernel))
  have hl := lv_entry ([.ref h, .int (iZ ((t : Nat) : Int)), .int (iZ a)]) (n := 4) (Nat.le_of_ble_eq_true rfl)
  rw [lg_entry_eq]
  generalize (lg_sl ([.ref h, .int (iZ ((t : Nat) : Int)), .int (iZ a)]) ++ List.replicate (4 - (lg_sl ([.ref h, .int (iZ ((t : Nat) : Int)), .int (iZ a)])).length) Slot.unset).toArray = ls at hl ⊢
  replace hl : lv_has ls 4 [(0, .ref h), (1, .int (iZ ((t : Nat) : Int))), (2, .int (iZ a))] := hl
  have h0 := hW.1
  have hnc := hW.nc
  have hb0 := hW.2.1 t r.1
  have hd1 := dv_in (a := K 2 t) (b := K 0 4) (by omega) (by omega)
  refine lv_aload_n hx hb dX0_isShading_0 rfl (lv_at hl 0 rfl) ?_
  refine va_get (D := G) (ci := 0) (v := .ref (ad 2)) (C := RX0) (T := TX0) (N := 14) hx hb hts hFX0 hown hK.1 hP 0 rfl rfl 8 (by decide) kf15 (fun _ h9 => h9) rfl dX0_isShading_1 ?_
  refine lv_iload_n hx hb dX0_isShading_4 rfl (lv_at hl 1 rfl) ?_
  refine z_iald hx hb hK.1 hP 2 0 rfl rfl t (by omega) (by decide) dX0_isShading_5 ?_
  refine z_if_eq (tgt := 39) hx hb dX0_isShading_6 (by decide) (by omega) (fun c_1 => ?_) (fun c_1 => ?_)
  · skip
    refine z_iconst hx hb dX0_isShading_39 ?_
    refine z_top (show 0 = bZ (shd K t a) from ?_) ?_
    · unfold shd; first | exact bZ_1 (by omega) | exact bZ_00 (by omega)
    exact W.zret (v := iZ (bZ (shd K t a))) hx hb hr (b01_nar (bZ_in _)) (fun t9 ht9 _ => ⟨rfl, ht9⟩) (fun q h => absurd h List.not_mem_nil) dX0_isShading_40
  · skip
    refine lv_aload_n hx hb dX0_isShading_9 rfl (lv_at hl 0 rfl) ?_
    refine va_get (D := G) (ci := 0) (v := .int (iZ (K 0 6))) (C := RX0) (T := TX0) (N := 14) hx hb hts hFX0 hown hK.1 hP 0 rfl rfl 6 (by decide) kf56 (fun _ h9 => h9) rfl dX0_isShading_10 ?_
    refine z_if_eq (tgt := 25) hx hb dX0_isShading_13 (by decide) (by omega) (fun c_2 => ?_) (fun c_2 => ?_)
    · skip
      refine lv_aload_n hx hb dX0_isShading_25 rfl (lv_at hl 0 rfl) ?_
      refine va_get (D := G) (ci := 0) (v := .int (iZ (K 0 0))) (C := RX0) (T := TX0) (N := 14) hx hb hts hFX0 hown hK.1 hP 0 rfl rfl 0 (by decide) kf37 (fun _ h9 => h9) rfl dX0_isShading_26 ?_
      refine z_if_le (tgt := 39) hx hb dX0_isShading_29 (by decide) (by omega) (fun c_3 => ?_) (fun c_3 => ?_)
      · skip
        refine z_iconst hx hb dX0_isShading_39 ?_
        refine z_top (show 0 = bZ (shd K t a) from ?_) ?_
        · unfold shd; first | exact bZ_1 (by omega) | exact bZ_00 (by omega)
        exact W.zret (v := iZ (bZ (shd K t a))) hx hb hr (b01_nar (bZ_in _)) (fun t9 ht9 _ => ⟨rfl, ht9⟩) (fun q h => absurd h List.not_mem_nil) dX0_isShading_40
      · skip
        refine lv_aload_n hx hb dX0_isShading_32 rfl (lv_at hl 0 rfl) ?_
        refine va_get (D := G) (ci := 0) (v := .int (iZ (K 0 4))) (C := RX0) (T := TX0) (N := 14) hx hb hts hFX0 hown hK.1 hP 0 rfl rfl 4 (by decide) kf50 (fun _ h9 => h9) rfl dX0_isShading_33 ?_
        refine z_if_gt (tgt := 41) hx hb dX0_isShading_36 (by decide) (by omega) (fun c_4 => ?_) (fun c_4 => ?_)
        · skip
          refine lv_aload_n hx hb dX0_isShading_41 rfl (lv_at hl 0 rfl) ?_
          refine va_get (D := G) (ci := 0) (v := .ref (ad 1)) (C := RX0) (T := TX0) (N := 14) hx hb hts hFX0 hown hK.1 hP 0 rfl rfl 7 (by decide) kf9 (fun _ h9 => h9) rfl dX0_isShading_42 ?_
          refine lv_iload_n hx hb dX0_isShading_45 rfl (lv_at hl 1 rfl) ?_
          refine z_iald hx hb hK.1 hP 1 0 rfl rfl t (by omega) (by decide) dX0_isShading_46 ?_
          refine lv_iload_n hx hb dX0_isShading_47 rfl (lv_at hl 2 rfl) ?_
          refine z_isub hx hb dX0_isShading_48 ?_
          refine lv_istore_n (lv' := [(3, .int (iZ ((K 1) t - a))), (0, .ref h), (1, .int (iZ ((t : Nat) : Int))), (2, .int (iZ a))]) hx hb dX0_isShading_49 rfl hl (by decide) rfl (fun ls hl => ?_)
          refine lv_iload_n hx hb dX0_isShading_50 rfl (lv_at hl 0 rfl) ?_
          refine z_if_lt (tgt := 87) hx hb dX0_isShading_51 (by decide) (by omega) (fun c_5 => ?_) (fun c_5 => ?_)
          · skip
            refine z_iconst hx hb dX0_isShading_87 ?_
            refine z_top (show 0 = bZ (shd K t a) from ?_) ?_
            · unfold shd; first | exact bZ_1 (by omega) | exact bZ_00 (by omega)
            exact W.zret (v := iZ (bZ (shd K t a))) hx hb hr (b01_nar (bZ_in _)) (fun t9 ht9 _ => ⟨rfl, ht9⟩) (fun q h => absurd h List.not_mem_nil) dX0_isShading_88
          · skip
            have hd2 := dm_in (c := K 1 t - a) (w := K 0 0) (by omega) (by omega)
            refine lv_iload_n hx hb dX0_isShading_54 rfl (lv_at hl 0 rfl) ?_
            refine lv_aload_n hx hb dX0_isShading_55 rfl (lv_at hl 1 rfl) ?_
            refine va_get (D := G) (ci := 0) (v := .int (iZ (K 0 0))) (C := RX0) (T := TX0) (N := 14) hx hb hts hFX0 hown hK.1 hP 0 rfl rfl 0 (by decide) kf37 (fun _ h9 => h9) rfl dX0_isShading_56 ?_
            refine z_irem hx hb dX0_isShading_59 (by omega) ?_
            refine z_if_ne (tgt := 87) hx hb dX0_isShading_60 (by decide) (by omega) (fun c_6 => ?_) (fun c_6 => ?_)
            · skip
              refine z_iconst hx hb dX0_isShading_87 ?_
              refine z_top (show 0 = bZ (shd K t a) from ?_) ?_
              · unfold shd; first | exact bZ_1 (by omega) | exact bZ_00 (by omega)
              exact W.zret (v := iZ (bZ (shd K t a))) hx hb hr (b01_nar (bZ_in _)) (fun t9 ht9 _ => ⟨rfl, ht9⟩) (fun q h => absurd h List.not_mem_nil) dX0_isShading_88
            · skip
              refine lv_iload_n hx hb dX0_isShading_63 rfl (lv_at hl 0 rfl) ?_
              refine lv_aload_n hx hb dX0_isShading_64 rfl (lv_at hl 1 rfl) ?_
              refine va_get (D := G) (ci := 0) (v := .int (iZ (K 0 0))) (C := RX0) (T := TX0) (N := 14) hx hb hts hFX0 hown hK.1 hP 0 rfl rfl 0 (by decide) kf37 (fun _ h9 => h9) rfl dX0_isShading_65 ?_
              refine z_idiv hx hb dX0_isShading_68 (by omega) ?_
              refine lv_aload_n hx hb dX0_isShading_69 rfl (lv_at hl 1 rfl) ?_
              refine va_get (D := G) (ci := 0) (v := .ref (ad 2)) (C := RX0) (T := TX0) (N := 14) hx hb hts hFX0 hown hK.1 hP 0 rfl rfl 8 (by decide) kf15 (fun _ h9 => h9) rfl dX0_isShading_70 ?_
              refine lv_iload_n hx hb dX0_isShading_73 rfl (lv_at hl 2 rfl) ?_
              refine z_iald hx hb hK.1 hP 2 0 rfl rfl t (by omega) (by decide) dX0_isShading_74 ?_
              refine lv_aload_n hx hb dX0_isShading_75 rfl (lv_at hl 1 rfl) ?_
              refine va_get (D := G) (ci := 0) (v := .int (iZ (K 0 4))) (C := RX0) (T := TX0) (N := 14) hx hb hts hFX0 hown hK.1 hP 0 rfl rfl 4 (by decide) kf50 (fun _ h9 => h9) rfl dX0_isShading_76 ?_
              refine z_idiv hx hb dX0_isShading_79 (by omega) ?_
              refine z_icmp_gt (tgt := 87) hx hb dX0_isShading_80 (by decide) (by omega) (fun c_7 => ?_) (fun c_7 => ?_)
              · skip
                refine z_iconst hx hb dX0_isShading_87 ?_
                refine z_top (show 0 = bZ (shd K t a) from ?_) ?_
                · unfold shd; first | exact bZ_1 (by omega) | exact bZ_00 (by omega)
                exact W.zret (v := iZ (bZ (shd K t a))) hx hb hr (b01_nar (bZ_in _)) (fun t9 ht9 _ => ⟨rfl, ht9⟩) (fun q h => absurd h List.not_mem_nil) dX0_isShading_88
              · skip
                refine z_iconst hx hb dX0_isShading_83 ?_
                refine lv_goto (tgt := 88) hx hb dX0_isShading_84 (by decide) ?_
                refine z_top (show 1 = bZ (shd K t a) from ?_) ?_
                · unfold shd; first | exact bZ_1 (by omega) | exact bZ_00 (by omega)
                exact W.zret (v := iZ (bZ (shd K t a))) hx hb hr (b01_nar (bZ_in _)) (fun t9 ht9 _ => ⟨rfl, ht9⟩) (fun q h => absurd h List.not_mem_nil) dX0_isShading_88
        · skip
          refine z_iconst hx hb dX0_isShading_39 ?_
          refine z_top (show 0 = bZ (shd K t a) from ?_) ?_
          · unfold shd; first | exact bZ_1 (by omega) | exact bZ_00 (by omega)
          exact W.zret (v := iZ (bZ (shd K t a))) hx hb hr (b01_nar (bZ_in _)) (fun t9 ht9 _ => ⟨rfl, ht9⟩) (fun q h => absurd h List.not_mem_nil) dX0_isShading_40
    · skip
      refine lv_aload_n hx hb dX0_isShading_16 rfl (lv_at hl 0 rfl) ?_
      refine va_get (D := G) (ci := 0) (v := .ref (ad 4)) (C := RX0) (T := TX0) (N := 14) hx hb hts hFX0 hown hK.1 hP 0 rfl rfl 10 (by decide) kf21 (fun _ h9 => h9) rfl dX0_isShading_17 ?_
      refine lv_iload_n hx hb dX0_isShading_20 rfl (lv_at hl 1 rfl) ?_
      refine z_zald hx hb hK.1 hP 4 1 rfl rfl t (by omega) (by decide) dX0_isShading_21 ?_
      refine z_if_eq (tgt := 39) hx hb dX0_isShading_22 (by decide) (by omega) (fun c_8 => ?_) (fun c_8 => ?_)
      · skip
        refine z_iconst hx hb dX0_isShading_39 ?_
        refine z_top (show 0 = bZ (shd K t a) from ?_) ?_
        · unfold shd; first | exact bZ_1 (by omega) | exact bZ_00 (by omega)
        exact W.zret (v := iZ (bZ (shd K t a))) hx hb hr (b01_nar (bZ_in _)) (fun t9 ht9 _ => ⟨rfl, ht9⟩) (fun q h => absurd h List.not_mem_nil) dX0_isShading_40
      · skip
        refine lv_aload_n hx hb dX0_isShading_25 rfl (lv_at hl 0 rfl) ?_
        refine va_get (D := G) (ci := 0) (v := .int (iZ (K 0 0))) (C := RX0) (T := TX0) (N := 14) hx hb hts hFX0 hown hK.1 hP 0 rfl rfl 0 (by decide) kf37 (fun _ h9 => h9) rfl dX0_isShading_26 ?_
        refine z_if_le (tgt := 39) hx hb dX0_isShading_29 (by decide) (by omega) (fun c_9 => ?_) (fun c_9 => ?_)
        · skip
          refine z_iconst hx hb dX0_isShading_39 ?_
          refine z_top (show 0 = bZ (shd K t a) from ?_) ?_
          · unfold shd; first | exact bZ_1 (by omega) | exact bZ_00 (by omega)
          exact W.zret (v := iZ (bZ (shd K t a))) hx hb hr (b01_nar (bZ_in _)) (fun t9 ht9 _ => ⟨rfl, ht9⟩) (fun q h => absurd h List.not_mem_nil) dX0_isShading_40
        · skip
          refine lv_aload_n hx hb dX0_isShading_32 rfl (lv_at hl 0 rfl) ?_
          refine va_get (D := G) (ci := 0) (v := .int (iZ (K 0 4))) (C := RX0) (T := TX0) (N := 14) hx hb hts hFX0 hown hK.1 hP 0 rfl rfl 4 (by decide) kf50 (fun _ h9 => h9) rfl dX0_isShading_33 ?_
          refine z_if_gt (tgt := 41) hx hb dX0_isShading_36 (by decide) (by omega) (fun c_10 => ?_) (fun c_10 => ?_)
          · skip
            refine lv_aload_n hx hb dX0_isShading_41 rfl (lv_at hl 0 rfl) ?_
            refine va_get (D := G) (ci := 0) (v := .ref (ad 1)) (C := RX0) (T := TX0) (N := 14) hx hb hts hFX0 hown hK.1 hP 0 rfl rfl 7 (by decide) kf9 (fun _ h9 => h9) rfl dX0_isShading_42 ?_
            refine lv_iload_n hx hb dX0_isShading_45 rfl (lv_at hl 1 rfl) ?_
            refine z_iald hx hb hK.1 hP 1 0 rfl rfl t (by omega) (by decide) dX0_isShading_46 ?_
            refine lv_iload_n hx hb dX0_isShading_47 rfl (lv_at hl 2 rfl) ?_
            refine z_isub hx hb dX0_isShading_48 ?_
            refine lv_istore_n (lv' := [(3, .int (iZ ((K 1) t - a))), (0, .ref h), (1, .int (iZ ((t : Nat) : Int))), (2, .int (iZ a))]) hx hb dX0_isShading_49 rfl hl (by decide) rfl (fun ls hl => ?_)
            refine lv_iload_n hx hb dX0_isShading_50 rfl (lv_at hl 0 rfl) ?_
            refine z_if_lt (tgt := 87) hx hb dX0_isShading_51 (by decide) (by omega) (fun c_11 => ?_) (fun c_11 => ?_)
            · skip
              refine z_iconst hx hb dX0_isShading_87 ?_
              refine z_top (show 0 = bZ (shd K t a) from ?_) ?_
              · unfold shd; first | exact bZ_1 (by omega) | exact bZ_00 (by omega)
              exact W.zret (v := iZ (bZ (shd K t a))) hx hb hr (b01_nar (bZ_in _)) (fun t9 ht9 _ => ⟨rfl, ht9⟩) (fun q h => absurd h List.not_mem_nil) dX0_isShading_88
            · skip
              have hd2 := dm_in (c := K 1 t - a) (w := K 0 0) (by omega) (by omega)
              refine lv_iload_n hx hb dX0_isShading_54 rfl (lv_at hl 0 rfl) ?_
              refine lv_aload_n hx hb dX0_isShading_55 rfl (lv_at hl 1 rfl) ?_
              refine va_get (D := G) (ci := 0) (v := .int (iZ (K 0 0))) (C := RX0) (T := TX0) (N := 14) hx hb hts hFX0 hown hK.1 hP 0 rfl rfl 0 (by decide) kf37 (fun _ h9 => h9) rfl dX0_isShading_56 ?_
              refine z_irem hx hb dX0_isShading_59 (by omega) ?_
              refine z_if_ne (tgt := 87) hx hb dX0_isShading_60 (by decide) (by omega) (fun c_12 => ?_) (fun c_12 => ?_)
              · skip
                refine z_iconst hx hb dX0_isShading_87 ?_
                refine z_top (show 0 = bZ (shd K t a) from ?_) ?_
                · unfold shd; first | exact bZ_1 (by omega) | exact bZ_00 (by omega)
                exact W.zret (v := iZ (bZ (shd K t a))) hx hb hr (b01_nar (bZ_in _)) (fun t9 ht9 _ => ⟨rfl, ht9⟩) (fun q h => absurd h List.not_mem_nil) dX0_isShading_88
              · skip
                refine lv_iload_n hx hb dX0_isShading_63 rfl (lv_at hl 0 rfl) ?_
                refine lv_aload_n hx hb dX0_isShading_64 rfl (lv_at hl 1 rfl) ?_
                refine va_get (D := G) (ci := 0) (v := .int (iZ (K 0 0))) (C := RX0) (T := TX0) (N := 14) hx hb hts hFX0 hown hK.1 hP 0 rfl rfl 0 (by decide) kf37 (fun _ h9 => h9) rfl dX0_isShading_65 ?_
                refine z_idiv hx hb dX0_isShading_68 (by omega) ?_
                refine lv_aload_n hx hb dX0_isShading_69 rfl (lv_at hl 1 rfl) ?_
                refine va_get (D := G) (ci := 0) (v := .ref (ad 2)) (C := RX0) (T := TX0) (N := 14) hx hb hts hFX0 hown hK.1 hP 0 rfl rfl 8 (by decide) kf15 (fun _ h9 => h9) rfl dX0_isShading_70 ?_
                refine lv_iload_n hx hb dX0_isShading_73 rfl (lv_at hl 2 rfl) ?_
                refine z_iald hx hb hK.1 hP 2 0 rfl rfl t (by omega) (by decide) dX0_isShading_74 ?_
                refine lv_aload_n hx hb dX0_isShading_75 rfl (lv_at hl 1 rfl) ?_
                refine va_get (D := G) (ci := 0) (v := .int (iZ (K 0 4))) (C := RX0) (T := TX0) (N := 14) hx hb hts hFX0 hown hK.1 hP 0 rfl rfl 4 (by decide) kf50 (fun _ h9 => h9) rfl dX0_isShading_76 ?_
                refine z_idiv hx hb dX0_isShading_79 (by omega) ?_
                refine z_icmp_gt (tgt := 87) hx hb dX0_isShading_80 (by decide) (by omega) (fun c_13 => ?_) (fun c_13 => ?_)
                · skip
                  refine z_iconst hx hb dX0_isShading_87 ?_
                  refine z_top (show 0 = bZ (shd K t a) from ?_) ?_
                  · unfold shd; first | exact bZ_1 (by omega) | exact bZ_00 (by omega)
                  exact W.zret (v := iZ (bZ (shd K t a))) hx hb hr (b01_nar (bZ_in _)) (fun t9 ht9 _ => ⟨rfl, ht9⟩) (fun q h => absurd h List.not_mem_nil) dX0_isShading_88
                · skip
                  refine z_iconst hx hb dX0_isShading_83 ?_
                  refine lv_goto (tgt := 88) hx hb dX0_isShading_84 (by decide) ?_
                  refine z_top (show 1 = bZ (shd K t a) from ?_) ?_
                  · unfold shd; first | exact bZ_1 (by omega) | exact bZ_00 (by omega)
                  exact W.zret (v := iZ (bZ (shd K t a))) hx hb hr (b01_nar (bZ_in _)) (fun t9 ht9 _ => ⟨rfl, ht9⟩) (fun q h => absurd h List.not_mem_nil) dX0_isShading_88
          · skip
            refine z_iconst hx hb dX0_isShading_39 ?_
            refine z_top (show 0 = bZ (shd K t a) from ?_) ?_
            · unfold shd; first | exact bZ_1 (by omega) | exact bZ_00 (by omega)
            exact W.zret (v := iZ (bZ (shd K t a))) hx hb hr (b01_nar (bZ_in _)) (fun t9 ht9 _ => ⟨rfl, ht9⟩) (fun q h => absurd h List.not_mem_nil) dX0_isShading_40

set_option maxHeartbeats 4000000 in
set_option maxRecDepth 100000 in
theorem c_X0_shadeOf (l : Launch) (G : va_G) (Y : Nat → ClassId) (h : Nat) (ad : Nat → Nat) (K : Kom) (hW : cWF K) (t : Nat) (r : t < 6) : Met l yX0_shadeOf wsX0_shadeOf ({ frames := 1, cells := 0, slots := 0, locals := 23 }) (rP G Y [.ref h, .int (iZ ((t : Nat) : Int))] (cmW Y h ad K)) (rQ (.int (iZ ((shB K t (K 0 0 * K 0 1).toNat : Nat) : Int)))) 0 0 (fun _ => False) := by
  refine Met.ofW (cc := cX0_shadeOf) (maxL := 4) (ret := (some .int)) (by decide) rfl ?_
  intro p e s m args below meth c s₁ B hml hv
  obtain ⟨rfl, hK, hP⟩ := hv
  have hx := B.exec
  have hb := B.bytes
  have hr := B.returns
  have hts := atoms_spec (ws := wsX0_shadeOf) B.pre
  have hown : s.vm.findClass RX0 = some m.cls := findClass_of_methodNamed B.named
  have hlocks := B.notSynchronized
  have hl := lv_entry ([.ref h, .int (iZ ((t : Nat) : Int))]) (n := 4) (Nat.le_of_ble_eq_true rfl)
  rw [lg_entry_eq]
  generalize (lg_sl ([.ref h, .int (iZ ((t : Nat) : Int))]) ++ List.replicate (4 - (lg_sl ([.ref h, .int (iZ ((t : Nat) : Int))])).length) Slot.unset).toArray = ls at hl ⊢
  replace hl : lv_has ls 4 [(0, .ref h), (1, .int (iZ ((t : Nat) : Int)))] := hl
  have h0 := hW.1
  have hnc := hW.nc
  refine z_iconst hx hb dX0_shadeOf_0 ?_
  refine lv_istore_n (lv' := [(2, .int (iZ 0)), (0, .ref h), (1, .int (iZ ((t : Nat) : Int)))]) hx hb dX0_shadeOf_1 rfl hl (by decide) rfl (fun ls hl => ?_)
  refine z_iconst hx hb dX0_shadeOf_2 ?_
  refine lv_istore_n (lv' := [(3, .int (iZ 0)), (2, .int (iZ 0)), (0, .ref h), (1, .int (iZ ((t : Nat) : Int)))]) hx hb dX0_shadeOf_3 rfl hl (by decide) rfl (fun ls hl => ?_)
  obtain ⟨i, q, hI, hl1⟩ : ∃ (i : Nat) (q : Nat), (q = shB K t i ∧ (i : Int) ≤ K 0 0 * K 0 1) ∧ lv_has ls 4 [(3, .int (iZ ((i : Nat) : Int))), (2, .int (iZ ((q : Nat) : Int))), (0, .ref h), (1, .int (iZ ((t : Nat) : Int)))] := ⟨0, 0, by exact ⟨rfl, by omega⟩, lv_sub hl [0, 1, 2, 3] rfl⟩
  clear hl
  have hl := hl1
  clear hl1
  obtain ⟨n_, hn_⟩ : ∃ n_ : Nat, (K 0 0 * K 0 1).toNat - i < n_ := ⟨_, Nat.lt_succ_self _⟩
  induction n_ generalizing i q ls with
  | zero => exact absurd hn_ (Nat.not_lt_zero _)
  | succ n_ ih1 =>
    refine lv_iload_n hx hb dX0_shadeOf_4 rfl (lv_at hl 0 rfl) ?_
    refine lv_aload_n hx hb dX0_shadeOf_5 rfl (lv_at hl 2 rfl) ?_
    refine ro_V (As := []) (rest := [.int (iZ ((i : Nat) : Int))]) ⟨hx, hb, hml, hown, hts⟩ (c_X0_cells l G Y h ad K hW ) (cwV 0 hts gX0_shadeOf_X0_cells rfl rfl rfl (by decide +kernel) ⟨Nat.le_of_ble_eq_true rfl, Nat.le_of_ble_eq_true rfl⟩) hK hP 0 rfl rfl rfl hl.1 rfl (Nat.le_of_ble_eq_true rfl) dX0_shadeOf_6 ⟨Nat.zero_le _, Nat.zero_le _⟩ ?_
    refine z_icmp_ge (tgt := 33) hx hb dX0_shadeOf_9 (by decide) (by omega) (fun c_2 => ?_) (fun c_2 => ?_)
    · skip
      refine lv_iload_n hx hb dX0_shadeOf_33 rfl (lv_at hl 1 rfl) ?_
      refine z_top (show ((q : Nat) : Int) = ((shB K t (K 0 0 * K 0 1).toNat : Nat) : Int) from ?_) ?_
      · rw [hI.1, show (K 0 0 * K 0 1).toNat = i by omega]
      exact W.iret (v := iZ ((shB K t (K 0 0 * K 0 1).toNat : Nat) : Int)) hx hb hr (fun t9 ht9 _ => ⟨rfl, ht9⟩) (fun q h => absurd h List.not_mem_nil) dX0_shadeOf_34
    · skip
      refine lv_aload_n hx hb dX0_shadeOf_12 rfl (lv_at hl 2 rfl) ?_
      refine lv_iload_n hx hb dX0_shadeOf_13 rfl (lv_at hl 3 rfl) ?_
      refine lv_iload_n hx hb dX0_shadeOf_14 rfl (lv_at hl 0 rfl) ?_
      refine ro_V (As := [.int (iZ ((t : Nat) : Int)), .int (iZ ((i : Nat) : Int))]) (rest := []) ⟨hx, hb, hml, hown, hts⟩ (c_X0_isShading l G Y h ad K hW t ((i : Nat) : Int) (by omega)) (cwV 2 hts gX0_shadeOf_X0_isShading rfl rfl rfl (by decide +kernel) ⟨Nat.le_of_ble_eq_true rfl, Nat.le_of_ble_eq_true rfl⟩) hK hP 0 rfl rfl rfl hl.1 rfl (Nat.le_of_ble_eq_true rfl) dX0_shadeOf_15 ⟨Nat.zero_le _, Nat.zero_le _⟩ ?_
      refine z_ifb_eq (tgt := 27) hx hb dX0_shadeOf_18 (by decide) (fun c_3 => ?_) (fun c_3 => ?_)
      · skip
        refine lv_iinc (v := iZ ((i + 1 : Nat) : Int)) (lv' := [(3, .int (iZ ((i + 1 : Nat) : Int))), (2, .int (iZ ((q : Nat) : Int))), (0, .ref h), (1, .int (iZ ((t : Nat) : Int)))]) hx hb dX0_shadeOf_27 hl (k := 0) rfl (iZ_inc _) (by decide) rfl (fun ls hl => ?_)
        refine lv_goto (tgt := 4) hx hb dX0_shadeOf_30 (by decide) ?_
        exact ih1 (ls := ls) (i := i + 1) (q := q) (hI := by exact ⟨by rw [shB, hI.1]; simp [*], by omega⟩) (hl := lv_sub hl [0, 1, 2, 3] rfl) (hn_ := by omega)
      · skip
        refine lv_iload_n hx hb dX0_shadeOf_21 rfl (lv_at hl 1 rfl) ?_
        refine z_iconst hx hb dX0_shadeOf_22 ?_
        refine lv_iload_n hx hb dX0_shadeOf_23 rfl (lv_at hl 0 rfl) ?_
        refine z_ishl1 (k := i) hx hb dX0_shadeOf_24 (by omega) ?_
        refine z_ior (a := q) (b := (2 ^ i)) hx hb dX0_shadeOf_25 rfl rfl ?_
        refine lv_istore_n (lv' := [(2, .int (iZ ((q ||| (2 ^ i) : Nat) : Int))), (3, .int (iZ ((i : Nat) : Int))), (0, .ref h), (1, .int (iZ ((t : Nat) : Int)))]) hx hb dX0_shadeOf_26 rfl hl (by decide) rfl (fun ls hl => ?_)
        refine lv_iinc (v := iZ ((i + 1 : Nat) : Int)) (lv' := [(3, .int (iZ ((i + 1 : Nat) : Int))), (2, .int (iZ ((q ||| (2 ^ i) : Nat) : Int))), (0, .ref h), (1, .int (iZ ((t : Nat) : Int)))]) hx hb dX0_shadeOf_27 hl (k := 1) rfl (iZ_inc _) (by decide) rfl (fun ls hl => ?_)
        refine lv_goto (tgt := 4) hx hb dX0_shadeOf_30 (by decide) ?_
        exact ih1 (ls := ls) (i := i + 1) (q := q ||| (2 ^ i)) (hI := by exact ⟨by rw [shB, hI.1]; simp [*], by omega⟩) (hl := lv_sub hl [0, 1, 2, 3] rfl) (hn_ := by omega)

set_option maxHeartbeats 4000000 in
set_option maxRecDepth 100000 in
theorem c_X0_shadesAt (l : Launch) (G : va_G) (Y : Nat → ClassId) (h : Nat) (ad : Nat → Nat) (K : Kom) (hW : cWF K) (a : Int) (r : 0 ≤ a ∧ a ≤ 19) : Met l yX0_shadesAt wsX0_shadesAt ({ frames := 1, cells := 0, slots := 0, locals := 23 }) (rP G Y [.ref h, .int (iZ a)] (cmW Y h ad K)) (rQ (.int (iZ (sdN K a (K 0 2).toNat)))) 0 0 (fun _ => False) := by
  refine Met.ofW (cc := cX0_shadesAt) (maxL := 4) (ret := (some .int)) (by decide) rfl ?_
  intro p e s m args below meth c s₁ B hml hv
  obtain ⟨rfl, hK, hP⟩ := hv
  have hx := B.exec
  have hb := B.bytes
  have hr := B.returns
  have hts := atoms_spec (ws := wsX0_shadesAt) B.pre
  have hown : s.vm.findClass RX0 = some m.cls := findClass_of_methodNamed B.named
  have hlocks := B.notSynchronized
  have hFX0 : ∀ w ∈ wsX00, w ∈ wsX0_shadesAt := by decide +kernel
  have kf44 := (hts (.fieldLink RX0 44 "ShadeVotes$Commune" "trees" "I") (by decide +kernel))
  have hl := lv_entry ([.ref h, .int (iZ a)]) (n := 4) (Nat.le_of_ble_eq_true rfl)
  rw [lg_entry_eq]
  generalize (lg_sl ([.ref h, .int (iZ a)]) ++ List.replicate (4 - (lg_sl ([.ref h, .int (iZ a)])).length) Slot.unset).toArray = ls at hl ⊢
  replace hl : lv_has ls 4 [(0, .ref h), (1, .int (iZ a))] := hl
  have h0 := hW.1
  have hnc := hW.nc
  refine z_iconst hx hb dX0_shadesAt_0 ?_
  refine lv_istore_n (lv' := [(2, .int (iZ 0)), (0, .ref h), (1, .int (iZ a))]) hx hb dX0_shadesAt_1 rfl hl (by decide) rfl (fun ls hl => ?_)
  refine z_iconst hx hb dX0_shadesAt_2 ?_
  refine lv_istore_n (lv' := [(3, .int (iZ 0)), (2, .int (iZ 0)), (0, .ref h), (1, .int (iZ a))]) hx hb dX0_shadesAt_3 rfl hl (by decide) rfl (fun ls hl => ?_)
  obtain ⟨t, q, hI, hl1⟩ : ∃ (t : Nat) (q : Int), (q = sdN K a t ∧ (t : Int) ≤ K 0 2) ∧ lv_has ls 4 [(3, .int (iZ ((t : Nat) : Int))), (2, .int (iZ q)), (0, .ref h), (1, .int (iZ a))] := ⟨0, 0, by exact ⟨rfl, by omega⟩, lv_sub hl [0, 1, 2, 3] rfl⟩
  clear hl
  have hl := hl1
  clear hl1
  obtain ⟨n_, hn_⟩ : ∃ n_ : Nat, (K 0 2).toNat - t < n_ := ⟨_, Nat.lt_succ_self _⟩
  induction n_ generalizing t q ls with
  | zero => exact absurd hn_ (Nat.not_lt_zero _)
  | succ n_ ih1 =>
    refine lv_iload_n hx hb dX0_shadesAt_4 rfl (lv_at hl 0 rfl) ?_
    refine lv_aload_n hx hb dX0_shadesAt_5 rfl (lv_at hl 2 rfl) ?_
    refine va_get (D := G) (ci := 0) (v := .int (iZ (K 0 2))) (C := RX0) (T := TX0) (N := 14) hx hb hts hFX0 hown hK.1 hP 0 rfl rfl 2 (by decide) kf44 (fun _ h9 => h9) rfl dX0_shadesAt_6 ?_
    refine z_icmp_ge (tgt := 30) hx hb dX0_shadesAt_9 (by decide) (by omega) (fun c_2 => ?_) (fun c_2 => ?_)
    · skip
      refine lv_iload_n hx hb dX0_shadesAt_30 rfl (lv_at hl 1 rfl) ?_
      refine z_top (show q = sdN K a (K 0 2).toNat from ?_) ?_
      · rw [hI.1, show (K 0 2).toNat = t by omega]
      exact W.iret (v := iZ (sdN K a (K 0 2).toNat)) hx hb hr (fun t9 ht9 _ => ⟨rfl, ht9⟩) (fun q h => absurd h List.not_mem_nil) dX0_shadesAt_31
    · skip
      refine lv_iload_n hx hb dX0_shadesAt_12 rfl (lv_at hl 1 rfl) ?_
      refine lv_aload_n hx hb dX0_shadesAt_13 rfl (lv_at hl 2 rfl) ?_
      refine lv_iload_n hx hb dX0_shadesAt_14 rfl (lv_at hl 0 rfl) ?_
      refine lv_iload_n hx hb dX0_shadesAt_15 rfl (lv_at hl 3 rfl) ?_
      refine ro_V (As := [.int (iZ ((t : Nat) : Int)), .int (iZ a)]) (rest := [.int (iZ q)]) ⟨hx, hb, hml, hown, hts⟩ (c_X0_isShading l G Y h ad K hW t a (by omega)) (cwV 2 hts gX0_shadesAt_X0_isShading rfl rfl rfl (by decide +kernel) ⟨Nat.le_of_ble_eq_true rfl, Nat.le_of_ble_eq_true rfl⟩) hK hP 0 rfl rfl rfl hl.1 rfl (Nat.le_of_ble_eq_true rfl) dX0_shadesAt_16 ⟨Nat.zero_le _, Nat.zero_le _⟩ ?_
      refine ro_SN (As := [.int (iZ (bZ (shd K t a)))]) (rest := [.int (iZ q)]) ⟨hx, hb, hml, hown, hts⟩ (c_X6_asNumber l G Y (shd K t a)) ⟨va_cnB 1 hts gX0_shadesAt_X6_asNumber_n91 rfl rfl rfl (nk_X0_91 hK.2) (hts (.initialized RX6) (by decide +kernel)) (by decide +kernel) ⟨Nat.le_of_ble_eq_true rfl, Nat.le_of_ble_eq_true rfl⟩, hts (.static yX6_asNumber) (by decide +kernel), trivial⟩ hK (hP.sub (ws' := []) [] rfl) rfl hl.1 rfl (Nat.le_of_ble_eq_true rfl) dX0_shadesAt_19 ⟨Nat.zero_le _, Nat.zero_le _⟩ ?_
      refine z_iadd hx hb dX0_shadesAt_22 ?_
      refine lv_istore_n (lv' := [(2, .int (iZ (q + bZ (shd K t a)))), (3, .int (iZ ((t : Nat) : Int))), (0, .ref h), (1, .int (iZ a))]) hx hb dX0_shadesAt_23 rfl hl (by decide) rfl (fun ls hl => ?_)
      refine lv_iinc (v := iZ ((t + 1 : Nat) : Int)) (lv' := [(3, .int (iZ ((t + 1 : Nat) : Int))), (2, .int (iZ (q + bZ (shd K t a)))), (0, .ref h), (1, .int (iZ a))]) hx hb dX0_shadesAt_24 hl (k := 1) rfl (iZ_inc _) (by decide) rfl (fun ls hl => ?_)
      refine lv_goto (tgt := 4) hx hb dX0_shadesAt_27 (by decide) ?_
      exact ih1 (ls := ls) (t := t + 1) (q := (q + bZ (shd K t a))) (hI := by exact ⟨by rw [sdN, hI.1], by omega⟩) (hl := lv_sub hl [0, 1, 2, 3] rfl) (hn_ := by omega)

set_option maxHeartbeats 4000000 in
set_option maxRecDepth 100000 in
theorem c_X0_treeOver (l : Launch) (G : va_G) (Y : Nat → ClassId) (h : Nat) (ad : Nat → Nat) (K : Kom) (hW : cWF K) (a : Int) (r : 0 ≤ a ∧ a ≤ 19) : Met l yX0_treeOver wsX0_treeOver ({ frames := 1, cells := 0, slots := 0, locals := 23 }) (rP G Y [.ref h, .int (iZ a)] (cmW Y h ad K)) (rQ (.int (iZ (ov K a)))) 0 0 (fun _ => False) := by
  refine Met.ofW (cc := cX0_treeOver) (maxL := 5) (ret := (some .int)) (by decide) rfl ?_
  intro p e s m args below meth c s₁ B hml hv
  obtain ⟨rfl, hK, hP⟩ := hv
  have hx := B.exec
  have hb := B.bytes
  have hr := B.returns
  have hts := atoms_spec (ws := wsX0_treeOver) B.pre
  have hown : s.vm.findClass RX0 = some m.cls := findClass_of_methodNamed B.named
  have hlocks := B.notSynchronized
  have hFX0 : ∀ w ∈ wsX00, w ∈ wsX0_treeOver := by decide +kernel
  have kf44 := (hts (.fieldLink RX0 44 "ShadeVotes$Commune" "trees" "I") (by decide +kernel))
  have kf15 := (hts (.fieldLink RX0 15 "ShadeVotes$Commune" "treeHeight" "[I") (by decide +kernel))
  have hl := lv_entry ([.ref h, .int (iZ a)]) (n := 5) (Nat.le_of_ble_eq_true rfl)
  rw [lg_entry_eq]
  generalize (lg_sl ([.ref h, .int (iZ a)]) ++ List.replicate (5 - (lg_sl ([.ref h, .int (iZ a)])).length) Slot.unset).toArray = ls at hl ⊢
  replace hl : lv_has ls 5 [(0, .ref h), (1, .int (iZ a))] := hl
  have h0 := hW.1
  have hnc := hW.nc
  refine z_bipush hx hb dX0_treeOver_0 (by decide) ?_
  refine lv_istore_n (lv' := [(2, .int (iZ (-9))), (0, .ref h), (1, .int (iZ a))]) hx hb dX0_treeOver_2 rfl hl (by decide) rfl (fun ls hl => ?_)
  refine z_iconst hx hb dX0_treeOver_3 ?_
  refine lv_istore_n (lv' := [(3, .int (iZ 0)), (2, .int (iZ (-9))), (0, .ref h), (1, .int (iZ a))]) hx hb dX0_treeOver_4 rfl hl (by decide) rfl (fun ls hl => ?_)
  refine z_iconst hx hb dX0_treeOver_5 ?_
  refine lv_istore (lv' := [(4, .int (iZ 0)), (3, .int (iZ 0)), (2, .int (iZ (-9))), (0, .ref h), (1, .int (iZ a))]) hx hb dX0_treeOver_6 hl (by decide) rfl (fun ls hl => ?_)
  obtain ⟨t, q, u, hI, hl1⟩ : ∃ (t : Nat) (q : Int) (u : Int), (q = (ovS K a t).1 ∧ u = (ovS K a t).2 ∧ (t : Int) ≤ K 0 2) ∧ lv_has ls 5 [(4, .int (iZ ((t : Nat) : Int))), (2, .int (iZ q)), (3, .int (iZ u)), (0, .ref h), (1, .int (iZ a))] := ⟨0, -9, 0, by exact ⟨rfl, rfl, by omega⟩, lv_sub hl [0, 2, 1, 3, 4] rfl⟩
  clear hl
  have hl := hl1
  clear hl1
  obtain ⟨n_, hn_⟩ : ∃ n_ : Nat, (K 0 2).toNat - t < n_ := ⟨_, Nat.lt_succ_self _⟩
  induction n_ generalizing t q u ls with
  | zero => exact absurd hn_ (Nat.not_lt_zero _)
  | succ n_ ih1 =>
    have ho := ovS_in hW a t (by omega)
    have hu : 0 ≤ u ∧ u ≤ 20 := by omega
    refine lv_iload hx hb dX0_treeOver_8 (lv_at hl 0 rfl) ?_
    refine lv_aload_n hx hb dX0_treeOver_10 rfl (lv_at hl 3 rfl) ?_
    refine va_get (D := G) (ci := 0) (v := .int (iZ (K 0 2))) (C := RX0) (T := TX0) (N := 14) hx hb hts hFX0 hown hK.1 hP 0 rfl rfl 2 (by decide) kf44 (fun _ h9 => h9) rfl dX0_treeOver_11 ?_
    refine z_icmp_ge (tgt := 55) hx hb dX0_treeOver_14 (by decide) (by omega) (fun c_2 => ?_) (fun c_2 => ?_)
    · skip
      refine lv_iload_n hx hb dX0_treeOver_55 rfl (lv_at hl 1 rfl) ?_
      refine z_top (show q = ov K a from ?_) ?_
      · unfold ov; rw [hI.1, show (K 0 2).toNat = t by omega]
      exact W.iret (v := iZ (ov K a)) hx hb hr (fun t9 ht9 _ => ⟨rfl, ht9⟩) (fun q h => absurd h List.not_mem_nil) dX0_treeOver_56
    · skip
      refine lv_aload_n hx hb dX0_treeOver_17 rfl (lv_at hl 3 rfl) ?_
      refine va_get (D := G) (ci := 0) (v := .ref (ad 2)) (C := RX0) (T := TX0) (N := 14) hx hb hts hFX0 hown hK.1 hP 0 rfl rfl 8 (by decide) kf15 (fun _ h9 => h9) rfl dX0_treeOver_18 ?_
      refine lv_iload hx hb dX0_treeOver_21 (lv_at hl 0 rfl) ?_
      refine z_iald hx hb hK.1 hP 2 0 rfl rfl t (by omega) (by decide) dX0_treeOver_23 ?_
      have hb_3 := hW.2.1 t (by omega)
      refine lv_iload_n hx hb dX0_treeOver_24 rfl (lv_at hl 2 rfl) ?_
      refine z_icmp_le (tgt := 49) hx hb dX0_treeOver_25 (by decide) (by omega) (fun c_4 => ?_) (fun c_4 => ?_)
      · skip
        refine lv_iinc (v := iZ ((t + 1 : Nat) : Int)) (lv' := [(4, .int (iZ ((t + 1 : Nat) : Int))), (2, .int (iZ q)), (3, .int (iZ u)), (0, .ref h), (1, .int (iZ a))]) hx hb dX0_treeOver_49 hl (k := 0) rfl (iZ_inc _) (by decide) rfl (fun ls hl => ?_)
        refine lv_goto (tgt := 8) hx hb dX0_treeOver_52 (by decide) ?_
        exact ih1 (ls := ls) (t := t + 1) (q := q) (u := u) (hI := by first | (rw [ovS_t (by omega) (by assumption)]; exact ⟨rfl, rfl, by omega⟩) | (rw [ovS_f2 (by assumption)]; exact ⟨hI.1, hI.2.1, by omega⟩) | (rw [ovS_f1 (by omega)]; exact ⟨hI.1, hI.2.1, by omega⟩)) (hl := lv_sub hl [0, 1, 2, 3, 4] rfl) (hn_ := by omega)
      · skip
        refine lv_aload_n hx hb dX0_treeOver_28 rfl (lv_at hl 3 rfl) ?_
        refine lv_iload hx hb dX0_treeOver_29 (lv_at hl 0 rfl) ?_
        refine lv_iload_n hx hb dX0_treeOver_31 rfl (lv_at hl 4 rfl) ?_
        refine ro_V (As := [.int (iZ ((t : Nat) : Int)), .int (iZ a)]) (rest := []) ⟨hx, hb, hml, hown, hts⟩ (c_X0_isShading l G Y h ad K hW t a (by omega)) (cwV 2 hts gX0_treeOver_X0_isShading rfl rfl rfl (by decide +kernel) ⟨Nat.le_of_ble_eq_true rfl, Nat.le_of_ble_eq_true rfl⟩) hK hP 0 rfl rfl rfl hl.1 rfl (Nat.le_of_ble_eq_true rfl) dX0_treeOver_32 ⟨Nat.zero_le _, Nat.zero_le _⟩ ?_
        refine z_ifb_eq (tgt := 49) hx hb dX0_treeOver_35 (by decide) (fun c_5 => ?_) (fun c_5 => ?_)
        · skip
          refine lv_iinc (v := iZ ((t + 1 : Nat) : Int)) (lv' := [(4, .int (iZ ((t + 1 : Nat) : Int))), (2, .int (iZ q)), (3, .int (iZ u)), (0, .ref h), (1, .int (iZ a))]) hx hb dX0_treeOver_49 hl (k := 0) rfl (iZ_inc _) (by decide) rfl (fun ls hl => ?_)
          refine lv_goto (tgt := 8) hx hb dX0_treeOver_52 (by decide) ?_
          exact ih1 (ls := ls) (t := t + 1) (q := q) (u := u) (hI := by first | (rw [ovS_t (by omega) (by assumption)]; exact ⟨rfl, rfl, by omega⟩) | (rw [ovS_f2 (by assumption)]; exact ⟨hI.1, hI.2.1, by omega⟩) | (rw [ovS_f1 (by omega)]; exact ⟨hI.1, hI.2.1, by omega⟩)) (hl := lv_sub hl [0, 1, 2, 3, 4] rfl) (hn_ := by omega)
        · skip
          refine lv_iload hx hb dX0_treeOver_38 (lv_at hl 0 rfl) ?_
          refine lv_istore_n (lv' := [(2, .int (iZ ((t : Nat) : Int))), (4, .int (iZ ((t : Nat) : Int))), (3, .int (iZ u)), (0, .ref h), (1, .int (iZ a))]) hx hb dX0_treeOver_40 rfl hl (by decide) rfl (fun ls hl => ?_)
          refine lv_aload_n hx hb dX0_treeOver_41 rfl (lv_at hl 3 rfl) ?_
          refine va_get (D := G) (ci := 0) (v := .ref (ad 2)) (C := RX0) (T := TX0) (N := 14) hx hb hts hFX0 hown hK.1 hP 0 rfl rfl 8 (by decide) kf15 (fun _ h9 => h9) rfl dX0_treeOver_42 ?_
          refine lv_iload hx hb dX0_treeOver_45 (lv_at hl 1 rfl) ?_
          refine z_iald hx hb hK.1 hP 2 0 rfl rfl t (by omega) (by decide) dX0_treeOver_47 ?_
          have hb_6 := hW.2.1 t (by omega)
          refine lv_istore_n (lv' := [(3, .int (iZ ((K 2) t))), (2, .int (iZ ((t : Nat) : Int))), (4, .int (iZ ((t : Nat) : Int))), (0, .ref h), (1, .int (iZ a))]) hx hb dX0_treeOver_48 rfl hl (by decide) rfl (fun ls hl => ?_)
          refine lv_iinc (v := iZ ((t + 1 : Nat) : Int)) (lv' := [(4, .int (iZ ((t + 1 : Nat) : Int))), (3, .int (iZ ((K 2) t))), (2, .int (iZ ((t : Nat) : Int))), (0, .ref h), (1, .int (iZ a))]) hx hb dX0_treeOver_49 hl (k := 2) rfl (iZ_inc _) (by decide) rfl (fun ls hl => ?_)
          refine lv_goto (tgt := 8) hx hb dX0_treeOver_52 (by decide) ?_
          exact ih1 (ls := ls) (t := t + 1) (q := ((t : Nat) : Int)) (u := (K 2) t) (hI := by first | (rw [ovS_t (by omega) (by assumption)]; exact ⟨rfl, rfl, by omega⟩) | (rw [ovS_f2 (by assumption)]; exact ⟨hI.1, hI.2.1, by omega⟩) | (rw [ovS_f1 (by omega)]; exact ⟨hI.1, hI.2.1, by omega⟩)) (hl := lv_sub hl [0, 2, 1, 3, 4] rfl) (hn_ := by omega)

set_option maxHeartbeats 4000000 in
set_option maxRecDepth 100000 in
theorem c_X0_voiceAt (l : Launch) (G : va_G) (Y : Nat → ClassId) (h : Nat) (ad : Nat → Nat) (K : Kom) (hW : cWF K) (a : Int) (mo : Nat) (r : (0 ≤ a ∧ a ≤ 19) ∧ mo ≤ 2) : Met l yX0_voiceAt wsX0_voiceAt ({ frames := 2, cells := 0, slots := 0, locals := 47 }) (rP G Y [.ref h, .int (iZ a), .int (iZ ((mo : Nat) : Int))] (cmW Y h ad K)) (rQ (.int (iZ (vo K a mo)))) 0 0 (fun _ => False) := by
  refine Met.ofW (cc := cX0_voiceAt) (maxL := 4) (ret := (some .int)) (by decide) rfl ?_
  intro p e s m args below meth c s₁ B hml hv
  obtain ⟨rfl, hK, hP⟩ := hv
  have hx := B.exec
  have hb := B.bytes
  have hr := B.returns
  have hts := atoms_spec (ws := wsX0_voiceAt) B.pre
  have hown : s.vm.findClass RX0 = some m.cls := findClass_of_methodNamed B.named
  have hlocks := B.notSynchronized
  have hFX0 : ∀ w ∈ wsX00, w ∈ wsX0_voiceAt := by decide +kernel
  have kf18 := (hts (.fieldLink RX0 18 "ShadeVotes$Commune" "treeWants" "[I") (by decide +kernel))
  have hl := lv_entry ([.ref h, .int (iZ a), .int (iZ ((mo : Nat) : Int))]) (n := 4) (Nat.le_of_ble_eq_true rfl)
  rw [lg_entry_eq]
  generalize (lg_sl ([.ref h, .int (iZ a), .int (iZ ((mo : Nat) : Int))]) ++ List.replicate (4 - (lg_sl ([.ref h, .int (iZ a), .int (iZ ((mo : Nat) : Int))])).length) Slot.unset).toArray = ls at hl ⊢
  replace hl : lv_has ls 4 [(0, .ref h), (1, .int (iZ a)), (2, .int (iZ ((mo : Nat) : Int)))] := hl
  have h0 := hW.1
  have hnc := hW.nc
  refine lv_aload_n hx hb dX0_voiceAt_0 rfl (lv_at hl 0 rfl) ?_
  refine lv_iload_n hx hb dX0_voiceAt_1 rfl (lv_at hl 1 rfl) ?_
  refine ro_V (As := [.int (iZ a)]) (rest := []) ⟨hx, hb, hml, hown, hts⟩ (c_X0_treeOver l G Y h ad K hW a (by omega)) (cwV 1 hts gX0_voiceAt_X0_treeOver rfl rfl rfl (by decide +kernel) ⟨Nat.le_of_ble_eq_true rfl, Nat.le_of_ble_eq_true rfl⟩) hK hP 0 rfl rfl rfl hl.1 rfl (Nat.le_of_ble_eq_true rfl) dX0_voiceAt_2 ⟨Nat.zero_le _, Nat.zero_le _⟩ ?_
  have hb_1 := ov_in hW a
  refine lv_istore_n (lv' := [(3, .int (iZ (ov K a))), (0, .ref h), (1, .int (iZ a)), (2, .int (iZ ((mo : Nat) : Int)))]) hx hb dX0_voiceAt_5 rfl hl (by decide) rfl (fun ls hl => ?_)
  refine lv_aload_n hx hb dX0_voiceAt_6 rfl (lv_at hl 1 rfl) ?_
  refine lv_iload_n hx hb dX0_voiceAt_7 rfl (lv_at hl 0 rfl) ?_
  refine ro_V (As := [.int (iZ (ov K a))]) (rest := []) ⟨hx, hb, hml, hown, hts⟩ (c_X0_hasTree l G Y h ad K hW (ov K a) (by omega)) (cwV 1 hts gX0_voiceAt_X0_hasTree rfl rfl rfl (by decide +kernel) ⟨Nat.le_of_ble_eq_true rfl, Nat.le_of_ble_eq_true rfl⟩) hK hP 0 rfl rfl rfl hl.1 rfl (Nat.le_of_ble_eq_true rfl) dX0_voiceAt_8 ⟨Nat.zero_le _, Nat.zero_le _⟩ ?_
  refine z_ifb_ne (tgt := 16) hx hb dX0_voiceAt_11 (by decide) (fun c_2 => ?_) (fun c_2 => ?_)
  · skip
    have c_2 := of_decide_eq_true c_2
    refine lv_aload_n hx hb dX0_voiceAt_16 rfl (lv_at hl 1 rfl) ?_
    refine va_get (D := G) (ci := 0) (v := .ref (ad 3)) (C := RX0) (T := TX0) (N := 14) hx hb hts hFX0 hown hK.1 hP 0 rfl rfl 9 (by decide) kf18 (fun _ h9 => h9) rfl dX0_voiceAt_17 ?_
    refine lv_iload_n hx hb dX0_voiceAt_20 rfl (lv_at hl 0 rfl) ?_
    refine z_iald hx hb hK.1 hP 3 0 rfl rfl ((ov K a).toNat) (by omega) (by decide) dX0_voiceAt_21 ?_
    have hb9 := hW.2.1 (ov K a).toNat (by omega)
    refine z_top (show K 3 (ov K a).toNat = (((K 3 (ov K a).toNat).toNat : Nat) : Int) by omega) ?_
    refine lv_iload_n hx hb dX0_voiceAt_22 rfl (lv_at hl 3 rfl) ?_
    refine ro_SN (As := [.int (iZ (((K 3 (ov K a).toNat).toNat : Nat) : Int)), .int (iZ ((mo : Nat) : Int))]) (rest := []) ⟨hx, hb, hml, hown, hts⟩ (c_X6_hasBit l G Y ((K 3 (ov K a).toNat).toNat) mo (by omega)) ⟨va_cnB 2 hts gX0_voiceAt_X6_hasBit_n102 rfl rfl rfl (nk_X0_102 hK.2) (hts (.initialized RX6) (by decide +kernel)) (by decide +kernel) ⟨Nat.le_of_ble_eq_true rfl, Nat.le_of_ble_eq_true rfl⟩, hts (.static yX6_hasBit) (by decide +kernel), trivial⟩ hK (hP.sub (ws' := []) [] rfl) rfl hl.1 rfl (Nat.le_of_ble_eq_true rfl) dX0_voiceAt_23 ⟨Nat.zero_le _, Nat.zero_le _⟩ ?_
    refine z_ifb_eq (tgt := 33) hx hb dX0_voiceAt_26 (by decide) (fun c_3 => ?_) (fun c_3 => ?_)
    · skip
      refine z_iconst hx hb dX0_voiceAt_33 ?_
      refine z_top (show (-1) = vo K a mo from ?_) ?_
      · unfold vo; rw [if_pos (by omega)]; simp [*]
      exact W.iret (v := iZ (vo K a mo)) hx hb hr (fun t9 ht9 _ => ⟨rfl, ht9⟩) (fun q h => absurd h List.not_mem_nil) dX0_voiceAt_34
    · skip
      refine z_iconst hx hb dX0_voiceAt_29 ?_
      refine lv_goto (tgt := 34) hx hb dX0_voiceAt_30 (by decide) ?_
      refine z_top (show 1 = vo K a mo from ?_) ?_
      · unfold vo; rw [if_pos (by omega)]; simp [*]
      exact W.iret (v := iZ (vo K a mo)) hx hb hr (fun t9 ht9 _ => ⟨rfl, ht9⟩) (fun q h => absurd h List.not_mem_nil) dX0_voiceAt_34
  · skip
    have c_2 := of_decide_eq_false c_2
    refine z_iconst hx hb dX0_voiceAt_14 ?_
    refine z_top (show 0 = vo K a mo from ?_) ?_
    · unfold vo; rw [if_neg (by omega)]
    exact W.iret (v := iZ (vo K a mo)) hx hb hr (fun t9 ht9 _ => ⟨rfl, ht9⟩) (fun q h => absurd h List.not_mem_nil) dX0_voiceAt_15

set_option maxHeartbeats 4000000 in
set_option maxRecDepth 100000 in
theorem c_X0_weightBehind (l : Launch) (G : va_G) (Y : Nat → ClassId) (h : Nat) (ad : Nat → Nat) (K : Kom) (hW : cWF K) (mo : Nat) (v : Int) (r : mo ≤ 2 ∧ -1 ≤ v ∧ v ≤ 1) : Met l yX0_weightBehind wsX0_weightBehind ({ frames := 3, cells := 0, slots := 0, locals := 70 }) (rP G Y [.ref h, .int (iZ ((mo : Nat) : Int)), .int (iZ v)] (cmW Y h ad K)) (rQ (.int (iZ (wb K mo v)))) 0 0 (fun _ => False) := by
  refine Met.ofW (cc := cX0_weightBehind) (maxL := 5) (ret := (some .int)) (by decide) rfl ?_
  intro p e s m args below meth c s₁ B hml hv
  obtain ⟨rfl, hK, hP⟩ := hv
  have hx := B.exec
  have hb := B.bytes
  have hr := B.returns
  have hts := atoms_spec (ws := wsX0_weightBehind) B.pre
  have hown : s.vm.findClass RX0 = some m.cls := findClass_of_methodNamed B.named
  have hlocks := B.notSynchronized
  have hFX0 : ∀ w ∈ wsX00, w ∈ wsX0_weightBehind := by decide +kernel
  have kf47 := (hts (.fieldLink RX0 47 "ShadeVotes$Commune" "people" "I") (by decide +kernel))
  have kf28 := (hts (.fieldLink RX0 28 "ShadeVotes$Commune" "personCell" "[I") (by decide +kernel))
  have kf31 := (hts (.fieldLink RX0 31 "ShadeVotes$Commune" "personWeight" "[I") (by decide +kernel))
  have hl := lv_entry ([.ref h, .int (iZ ((mo : Nat) : Int)), .int (iZ v)]) (n := 5) (Nat.le_of_ble_eq_true rfl)
  rw [lg_entry_eq]
  generalize (lg_sl ([.ref h, .int (iZ ((mo : Nat) : Int)), .int (iZ v)]) ++ List.replicate (5 - (lg_sl ([.ref h, .int (iZ ((mo : Nat) : Int)), .int (iZ v)])).length) Slot.unset).toArray = ls at hl ⊢
  replace hl : lv_has ls 5 [(0, .ref h), (1, .int (iZ ((mo : Nat) : Int))), (2, .int (iZ v))] := hl
  have h0 := hW.1
  have hnc := hW.nc
  refine z_iconst hx hb dX0_weightBehind_0 ?_
  refine lv_istore_n (lv' := [(3, .int (iZ 0)), (0, .ref h), (1, .int (iZ ((mo : Nat) : Int))), (2, .int (iZ v))]) hx hb dX0_weightBehind_1 rfl hl (by decide) rfl (fun ls hl => ?_)
  refine z_iconst hx hb dX0_weightBehind_2 ?_
  refine lv_istore (lv' := [(4, .int (iZ 0)), (3, .int (iZ 0)), (0, .ref h), (1, .int (iZ ((mo : Nat) : Int))), (2, .int (iZ v))]) hx hb dX0_weightBehind_3 hl (by decide) rfl (fun ls hl => ?_)
  obtain ⟨i, q, hI, hl1⟩ : ∃ (i : Nat) (q : Int), (q = wbN K mo v i ∧ (i : Int) ≤ K 0 3) ∧ lv_has ls 5 [(4, .int (iZ ((i : Nat) : Int))), (3, .int (iZ q)), (0, .ref h), (1, .int (iZ ((mo : Nat) : Int))), (2, .int (iZ v))] := ⟨0, 0, by exact ⟨rfl, by omega⟩, lv_sub hl [0, 1, 2, 3, 4] rfl⟩
  clear hl
  have hl := hl1
  clear hl1
  obtain ⟨n_, hn_⟩ : ∃ n_ : Nat, (K 0 3).toNat - i < n_ := ⟨_, Nat.lt_succ_self _⟩
  induction n_ generalizing i q ls with
  | zero => exact absurd hn_ (Nat.not_lt_zero _)
  | succ n_ ih1 =>
    refine lv_iload hx hb dX0_weightBehind_5 (lv_at hl 0 rfl) ?_
    refine lv_aload_n hx hb dX0_weightBehind_7 rfl (lv_at hl 2 rfl) ?_
    refine va_get (D := G) (ci := 0) (v := .int (iZ (K 0 3))) (C := RX0) (T := TX0) (N := 14) hx hb hts hFX0 hown hK.1 hP 0 rfl rfl 3 (by decide) kf47 (fun _ h9 => h9) rfl dX0_weightBehind_8 ?_
    refine z_icmp_ge (tgt := 46) hx hb dX0_weightBehind_11 (by decide) (by omega) (fun c_2 => ?_) (fun c_2 => ?_)
    · skip
      refine lv_iload_n hx hb dX0_weightBehind_46 rfl (lv_at hl 1 rfl) ?_
      refine z_top (show q = wb K mo v from ?_) ?_
      · unfold wb; rw [hI.1, show (K 0 3).toNat = i by omega]
      exact W.iret (v := iZ (wb K mo v)) hx hb hr (fun t9 ht9 _ => ⟨rfl, ht9⟩) (fun q h => absurd h List.not_mem_nil) dX0_weightBehind_47
    · skip
      refine lv_aload_n hx hb dX0_weightBehind_14 rfl (lv_at hl 2 rfl) ?_
      refine lv_aload_n hx hb dX0_weightBehind_15 rfl (lv_at hl 2 rfl) ?_
      refine va_get (D := G) (ci := 0) (v := .ref (ad 6)) (C := RX0) (T := TX0) (N := 14) hx hb hts hFX0 hown hK.1 hP 0 rfl rfl 12 (by decide) kf28 (fun _ h9 => h9) rfl dX0_weightBehind_16 ?_
      refine lv_iload hx hb dX0_weightBehind_19 (lv_at hl 0 rfl) ?_
      refine z_iald hx hb hK.1 hP 6 0 rfl rfl i (by omega) (by decide) dX0_weightBehind_21 ?_
      have hb_3 := hW.2.2.1 i (by omega)
      refine lv_iload_n hx hb dX0_weightBehind_22 rfl (lv_at hl 3 rfl) ?_
      refine ro_V (As := [.int (iZ ((K 6) i)), .int (iZ ((mo : Nat) : Int))]) (rest := []) ⟨hx, hb, hml, hown, hts⟩ (c_X0_voiceAt l G Y h ad K hW ((K 6) i) mo (by omega)) (cwV 2 hts gX0_weightBehind_X0_voiceAt rfl rfl rfl (by decide +kernel) ⟨Nat.le_of_ble_eq_true rfl, Nat.le_of_ble_eq_true rfl⟩) hK hP 0 rfl rfl rfl hl.1 rfl (Nat.le_of_ble_eq_true rfl) dX0_weightBehind_23 ⟨Nat.zero_le _, Nat.zero_le _⟩ ?_
      have hb_4 := vo_in K ((K 6) i) mo
      refine lv_iload_n hx hb dX0_weightBehind_26 rfl (lv_at hl 4 rfl) ?_
      refine z_icmp_ne (tgt := 40) hx hb dX0_weightBehind_27 (by decide) (by omega) (fun c_5 => ?_) (fun c_5 => ?_)
      · skip
        refine lv_iinc (v := iZ ((i + 1 : Nat) : Int)) (lv' := [(4, .int (iZ ((i + 1 : Nat) : Int))), (3, .int (iZ q)), (0, .ref h), (1, .int (iZ ((mo : Nat) : Int))), (2, .int (iZ v))]) hx hb dX0_weightBehind_40 hl (k := 0) rfl (iZ_inc _) (by decide) rfl (fun ls hl => ?_)
        refine lv_goto (tgt := 5) hx hb dX0_weightBehind_43 (by decide) ?_
        exact ih1 (ls := ls) (i := i + 1) (q := q) (hI := by exact ⟨by rw [wbN]; first | rw [if_pos (by assumption), hI.1] | rw [if_neg (by assumption), hI.1], by omega⟩) (hl := lv_sub hl [0, 1, 2, 3, 4] rfl) (hn_ := by omega)
      · skip
        refine lv_iload_n hx hb dX0_weightBehind_30 rfl (lv_at hl 1 rfl) ?_
        refine lv_aload_n hx hb dX0_weightBehind_31 rfl (lv_at hl 2 rfl) ?_
        refine va_get (D := G) (ci := 0) (v := .ref (ad 7)) (C := RX0) (T := TX0) (N := 14) hx hb hts hFX0 hown hK.1 hP 0 rfl rfl 13 (by decide) kf31 (fun _ h9 => h9) rfl dX0_weightBehind_32 ?_
        refine lv_iload hx hb dX0_weightBehind_35 (lv_at hl 0 rfl) ?_
        refine z_iald hx hb hK.1 hP 7 0 rfl rfl i (by omega) (by decide) dX0_weightBehind_37 ?_
        have hb_6 := hW.2.2.1 i (by omega)
        refine z_iadd hx hb dX0_weightBehind_38 ?_
        refine lv_istore_n (lv' := [(3, .int (iZ (q + (K 7) i))), (4, .int (iZ ((i : Nat) : Int))), (0, .ref h), (1, .int (iZ ((mo : Nat) : Int))), (2, .int (iZ v))]) hx hb dX0_weightBehind_39 rfl hl (by decide) rfl (fun ls hl => ?_)
        refine lv_iinc (v := iZ ((i + 1 : Nat) : Int)) (lv' := [(4, .int (iZ ((i + 1 : Nat) : Int))), (3, .int (iZ (q + (K 7) i))), (0, .ref h), (1, .int (iZ ((mo : Nat) : Int))), (2, .int (iZ v))]) hx hb dX0_weightBehind_40 hl (k := 1) rfl (iZ_inc _) (by decide) rfl (fun ls hl => ?_)
        refine lv_goto (tgt := 5) hx hb dX0_weightBehind_43 (by decide) ?_
        exact ih1 (ls := ls) (i := i + 1) (q := (q + (K 7) i)) (hI := by exact ⟨by rw [wbN]; first | rw [if_pos (by assumption), hI.1] | rw [if_neg (by assumption), hI.1], by omega⟩) (hl := lv_sub hl [0, 1, 2, 3, 4] rfl) (hn_ := by omega)

set_option maxHeartbeats 4000000 in
set_option maxRecDepth 100000 in
theorem c_X0_voteOf (l : Launch) (G : va_G) (Y : Nat → ClassId) (h : Nat) (ad : Nat → Nat) (K : Kom) (hW : cWF K) (p9 mo : Nat) (r : p9 < 7 ∧ mo ≤ 2) : Met l yX0_voteOf wsX0_voteOf ({ frames := 3, cells := 0, slots := 0, locals := 70 }) (rP G Y [.ref h, .int (iZ ((p9 : Nat) : Int)), .int (iZ ((mo : Nat) : Int))] (cmW Y h ad K)) (rQ (.int (iZ (vt K p9 mo)))) 0 0 (fun _ => False) := by
  refine Met.ofW (cc := cX0_voteOf) (maxL := 3) (ret := (some .int)) (by decide) rfl ?_
  intro p e s m args below meth c s₁ B hml hv
  obtain ⟨rfl, hK, hP⟩ := hv
  have hx := B.exec
  have hb := B.bytes
  have hr := B.returns
  have hts := atoms_spec (ws := wsX0_voteOf) B.pre
  have hown : s.vm.findClass RX0 = some m.cls := findClass_of_methodNamed B.named
  have hlocks := B.notSynchronized
  have hFX0 : ∀ w ∈ wsX00, w ∈ wsX0_voteOf := by decide +kernel
  have kf28 := (hts (.fieldLink RX0 28 "ShadeVotes$Commune" "personCell" "[I") (by decide +kernel))
  have kf31 := (hts (.fieldLink RX0 31 "ShadeVotes$Commune" "personWeight" "[I") (by decide +kernel))
  have hl := lv_entry ([.ref h, .int (iZ ((p9 : Nat) : Int)), .int (iZ ((mo : Nat) : Int))]) (n := 3) (Nat.le_of_ble_eq_true rfl)
  rw [lg_entry_eq]
  generalize (lg_sl ([.ref h, .int (iZ ((p9 : Nat) : Int)), .int (iZ ((mo : Nat) : Int))]) ++ List.replicate (3 - (lg_sl ([.ref h, .int (iZ ((p9 : Nat) : Int)), .int (iZ ((mo : Nat) : Int))])).length) Slot.unset).toArray = ls at hl ⊢
  replace hl : lv_has ls 3 [(0, .ref h), (1, .int (iZ ((p9 : Nat) : Int))), (2, .int (iZ ((mo : Nat) : Int)))] := hl
  have h0 := hW.1
  have hnc := hW.nc
  refine lv_aload_n hx hb dX0_voteOf_0 rfl (lv_at hl 0 rfl) ?_
  refine lv_aload_n hx hb dX0_voteOf_1 rfl (lv_at hl 0 rfl) ?_
  refine va_get (D := G) (ci := 0) (v := .ref (ad 6)) (C := RX0) (T := TX0) (N := 14) hx hb hts hFX0 hown hK.1 hP 0 rfl rfl 12 (by decide) kf28 (fun _ h9 => h9) rfl dX0_voteOf_2 ?_
  refine lv_iload_n hx hb dX0_voteOf_5 rfl (lv_at hl 1 rfl) ?_
  refine z_iald hx hb hK.1 hP 6 0 rfl rfl p9 (by omega) (by decide) dX0_voteOf_6 ?_
  have hb_1 := hW.2.2.1 p9 (by omega)
  refine lv_iload_n hx hb dX0_voteOf_7 rfl (lv_at hl 2 rfl) ?_
  refine ro_V (As := [.int (iZ ((K 6) p9)), .int (iZ ((mo : Nat) : Int))]) (rest := []) ⟨hx, hb, hml, hown, hts⟩ (c_X0_voiceAt l G Y h ad K hW ((K 6) p9) mo (by omega)) (cwV 2 hts gX0_voteOf_X0_voiceAt rfl rfl rfl (by decide +kernel) ⟨Nat.le_of_ble_eq_true rfl, Nat.le_of_ble_eq_true rfl⟩) hK hP 0 rfl rfl rfl hl.1 rfl (Nat.le_of_ble_eq_true rfl) dX0_voteOf_8 ⟨Nat.zero_le _, Nat.zero_le _⟩ ?_
  have hb_2 := vo_in K ((K 6) p9) mo
  refine lv_aload_n hx hb dX0_voteOf_11 rfl (lv_at hl 0 rfl) ?_
  refine va_get (D := G) (ci := 0) (v := .ref (ad 7)) (C := RX0) (T := TX0) (N := 14) hx hb hts hFX0 hown hK.1 hP 0 rfl rfl 13 (by decide) kf31 (fun _ h9 => h9) rfl dX0_voteOf_12 ?_
  refine lv_iload_n hx hb dX0_voteOf_15 rfl (lv_at hl 1 rfl) ?_
  refine z_iald hx hb hK.1 hP 7 0 rfl rfl p9 (by omega) (by decide) dX0_voteOf_16 ?_
  have hb_3 := hW.2.2.1 p9 (by omega)
  refine z_imul hx hb dX0_voteOf_17 ?_
  refine z_top (show (vo K ((K 6) p9) mo * (K 7) p9) = vt K p9 mo from ?_) ?_
  · rfl
  exact W.iret (v := iZ (vt K p9 mo)) hx hb hr (fun t9 ht9 _ => ⟨rfl, ht9⟩) (fun q h => absurd h List.not_mem_nil) dX0_voteOf_18

set_option maxHeartbeats 4000000 in
set_option maxRecDepth 100000 in
theorem c_X0_isCarriedWithin (l : Launch) (G : va_G) (Y : Nat → ClassId) (h : Nat) (ad : Nat → Nat) (K : Kom) (hW : cWF K) (mo : Nat) (a b : Int) (r : mo ≤ 2 ∧ zR a ∧ zR b) : Met l yX0_isCarriedWithin wsX0_isCarriedWithin ({ frames := 4, cells := 0, slots := 0, locals := 92 }) (rP G Y [.ref h, .int (iZ ((mo : Nat) : Int)), .int (iZ a), .int (iZ b)] (cmW Y h ad K)) (rQ (.int (iZ (bZ (decide (0 < cdW K mo a b (K 0 3).toNat)))))) 0 0 (fun _ => False) := by
  refine Met.ofW (cc := cX0_isCarriedWithin) (maxL := 6) (ret := (some .boolean)) (by decide) rfl ?_
  intro p e s m args below meth c s₁ B hml hv
  obtain ⟨rfl, hK, hP⟩ := hv
  have hx := B.exec
  have hb := B.bytes
  have hr := B.returns
  have hts := atoms_spec (ws := wsX0_isCarriedWithin) B.pre
  have hown : s.vm.findClass RX0 = some m.cls := findClass_of_methodNamed B.named
  have hlocks := B.notSynchronized
  have hFX0 : ∀ w ∈ wsX00, w ∈ wsX0_isCarriedWithin := by decide +kernel
  have kf47 := (hts (.fieldLink RX0 47 "ShadeVotes$Commune" "people" "I") (by decide +kernel))
  have kf28 := (hts (.fieldLink RX0 28 "ShadeVotes$Commune" "personCell" "[I") (by decide +kernel))
  have hl := lv_entry ([.ref h, .int (iZ ((mo : Nat) : Int)), .int (iZ a), .int (iZ b)]) (n := 6) (Nat.le_of_ble_eq_true rfl)
  rw [lg_entry_eq]
  generalize (lg_sl ([.ref h, .int (iZ ((mo : Nat) : Int)), .int (iZ a), .int (iZ b)]) ++ List.replicate (6 - (lg_sl ([.ref h, .int (iZ ((mo : Nat) : Int)), .int (iZ a), .int (iZ b)])).length) Slot.unset).toArray = ls at hl ⊢
  replace hl : lv_has ls 6 [(0, .ref h), (1, .int (iZ ((mo : Nat) : Int))), (2, .int (iZ a)), (3, .int (iZ b))] := hl
  have h0 := hW.1
  have hnc := hW.nc
  refine z_iconst hx hb dX0_isCarriedWithin_0 ?_
  refine lv_istore (lv' := [(4, .int (iZ 0)), (0, .ref h), (1, .int (iZ ((mo : Nat) : Int))), (2, .int (iZ a)), (3, .int (iZ b))]) hx hb dX0_isCarriedWithin_1 hl (by decide) rfl (fun ls hl => ?_)
  refine z_iconst hx hb dX0_isCarriedWithin_3 ?_
  refine lv_istore (lv' := [(5, .int (iZ 0)), (4, .int (iZ 0)), (0, .ref h), (1, .int (iZ ((mo : Nat) : Int))), (2, .int (iZ a)), (3, .int (iZ b))]) hx hb dX0_isCarriedWithin_4 hl (by decide) rfl (fun ls hl => ?_)
  obtain ⟨i, q, hI, hl1⟩ : ∃ (i : Nat) (q : Int), (q = cdW K mo a b i ∧ (i : Int) ≤ K 0 3) ∧ lv_has ls 6 [(5, .int (iZ ((i : Nat) : Int))), (4, .int (iZ q)), (0, .ref h), (1, .int (iZ ((mo : Nat) : Int))), (2, .int (iZ a)), (3, .int (iZ b))] := ⟨0, 0, by exact ⟨rfl, by omega⟩, lv_sub hl [0, 1, 2, 3, 4, 5] rfl⟩
  clear hl
  have hl := hl1
  clear hl1
  obtain ⟨n_, hn_⟩ : ∃ n_ : Nat, (K 0 3).toNat - i < n_ := ⟨_, Nat.lt_succ_self _⟩
  induction n_ generalizing i q ls with
  | zero => exact absurd hn_ (Nat.not_lt_zero _)
  | succ n_ ih1 =>
    have hq := cdW_in hW mo a b i (by omega)
    refine lv_iload hx hb dX0_isCarriedWithin_6 (lv_at hl 0 rfl) ?_
    refine lv_aload_n hx hb dX0_isCarriedWithin_8 rfl (lv_at hl 2 rfl) ?_
    refine va_get (D := G) (ci := 0) (v := .int (iZ (K 0 3))) (C := RX0) (T := TX0) (N := 14) hx hb hts hFX0 hown hK.1 hP 0 rfl rfl 3 (by decide) kf47 (fun _ h9 => h9) rfl dX0_isCarriedWithin_9 ?_
    refine z_icmp_ge (tgt := 52) hx hb dX0_isCarriedWithin_12 (by decide) (by omega) (fun c_2 => ?_) (fun c_2 => ?_)
    · skip
      refine lv_iload hx hb dX0_isCarriedWithin_52 (lv_at hl 1 rfl) ?_
      refine z_if_le (tgt := 61) hx hb dX0_isCarriedWithin_54 (by decide) (by omega) (fun c_3 => ?_) (fun c_3 => ?_)
      · skip
        refine z_iconst hx hb dX0_isCarriedWithin_61 ?_
        refine z_top (show 0 = bZ (decide (0 < cdW K mo a b (K 0 3).toNat)) from ?_) ?_
        · rw [show (K 0 3).toNat = i by omega, ← hI.1]; first | exact bZ_1 (by omega) | exact bZ_00 (by omega)
        exact W.zret (v := iZ (bZ (decide (0 < cdW K mo a b (K 0 3).toNat)))) hx hb hr (b01_nar (bZ_in _)) (fun t9 ht9 _ => ⟨rfl, ht9⟩) (fun q h => absurd h List.not_mem_nil) dX0_isCarriedWithin_62
      · skip
        refine z_iconst hx hb dX0_isCarriedWithin_57 ?_
        refine lv_goto (tgt := 62) hx hb dX0_isCarriedWithin_58 (by decide) ?_
        refine z_top (show 1 = bZ (decide (0 < cdW K mo a b (K 0 3).toNat)) from ?_) ?_
        · rw [show (K 0 3).toNat = i by omega, ← hI.1]; first | exact bZ_1 (by omega) | exact bZ_00 (by omega)
        exact W.zret (v := iZ (bZ (decide (0 < cdW K mo a b (K 0 3).toNat)))) hx hb hr (b01_nar (bZ_in _)) (fun t9 ht9 _ => ⟨rfl, ht9⟩) (fun q h => absurd h List.not_mem_nil) dX0_isCarriedWithin_62
    · skip
      refine lv_aload_n hx hb dX0_isCarriedWithin_15 rfl (lv_at hl 2 rfl) ?_
      refine lv_aload_n hx hb dX0_isCarriedWithin_16 rfl (lv_at hl 2 rfl) ?_
      refine va_get (D := G) (ci := 0) (v := .ref (ad 6)) (C := RX0) (T := TX0) (N := 14) hx hb hts hFX0 hown hK.1 hP 0 rfl rfl 12 (by decide) kf28 (fun _ h9 => h9) rfl dX0_isCarriedWithin_17 ?_
      refine lv_iload hx hb dX0_isCarriedWithin_20 (lv_at hl 0 rfl) ?_
      refine z_iald hx hb hK.1 hP 6 0 rfl rfl i (by omega) (by decide) dX0_isCarriedWithin_22 ?_
      have hb_4 := hW.2.2.1 i (by omega)
      refine ro_V (As := [.int (iZ ((K 6) i))]) (rest := []) ⟨hx, hb, hml, hown, hts⟩ (c_X0_columnOf l G Y h ad K hW ((K 6) i) (by omega)) (cwV 1 hts gX0_isCarriedWithin_X0_columnOf rfl rfl rfl (by decide +kernel) ⟨Nat.le_of_ble_eq_true rfl, Nat.le_of_ble_eq_true rfl⟩) hK hP 0 rfl rfl rfl hl.1 rfl (Nat.le_of_ble_eq_true rfl) dX0_isCarriedWithin_23 ⟨Nat.zero_le _, Nat.zero_le _⟩ ?_
      have hb_5 := dm_in (c := (K 6) i) (w := K 0 0) (by omega) (by omega)
      refine lv_iload_n hx hb dX0_isCarriedWithin_26 rfl (lv_at hl 4 rfl) ?_
      refine lv_iload_n hx hb dX0_isCarriedWithin_27 rfl (lv_at hl 5 rfl) ?_
      refine ro_SN (As := [.int (iZ ((K 6) i % K 0 0)), .int (iZ a), .int (iZ b)]) (rest := []) ⟨hx, hb, hml, hown, hts⟩ (c_X6_isWithin l G Y ((K 6) i % K 0 0) a b (by omega)) ⟨va_cnB 3 hts gX0_isCarriedWithin_X6_isWithin_n64 rfl rfl rfl (nk_X0_64 hK.2) (hts (.initialized RX6) (by decide +kernel)) (by decide +kernel) ⟨Nat.le_of_ble_eq_true rfl, Nat.le_of_ble_eq_true rfl⟩, hts (.static yX6_isWithin) (by decide +kernel), trivial⟩ hK (hP.sub (ws' := []) [] rfl) rfl hl.1 rfl (Nat.le_of_ble_eq_true rfl) dX0_isCarriedWithin_28 ⟨Nat.zero_le _, Nat.zero_le _⟩ ?_
      refine z_ifb_eq (tgt := 46) hx hb dX0_isCarriedWithin_31 (by decide) (fun c_6 => ?_) (fun c_6 => ?_)
      · skip
        have c_6 := of_decide_eq_false c_6
        refine lv_iinc (v := iZ ((i + 1 : Nat) : Int)) (lv' := [(5, .int (iZ ((i + 1 : Nat) : Int))), (4, .int (iZ q)), (0, .ref h), (1, .int (iZ ((mo : Nat) : Int))), (2, .int (iZ a)), (3, .int (iZ b))]) hx hb dX0_isCarriedWithin_46 hl (k := 0) rfl (iZ_inc _) (by decide) rfl (fun ls hl => ?_)
        refine lv_goto (tgt := 6) hx hb dX0_isCarriedWithin_49 (by decide) ?_
        exact ih1 (ls := ls) (i := i + 1) (q := q) (hI := by exact ⟨by rw [cdW]; first | rw [if_pos (by assumption), hI.1] | rw [if_neg (by assumption), hI.1], by omega⟩) (hl := lv_sub hl [0, 1, 2, 3, 4, 5] rfl) (hn_ := by omega)
      · skip
        have c_6 := of_decide_eq_true c_6
        refine lv_iload hx hb dX0_isCarriedWithin_34 (lv_at hl 1 rfl) ?_
        refine lv_aload_n hx hb dX0_isCarriedWithin_36 rfl (lv_at hl 2 rfl) ?_
        refine lv_iload hx hb dX0_isCarriedWithin_37 (lv_at hl 0 rfl) ?_
        refine lv_iload_n hx hb dX0_isCarriedWithin_39 rfl (lv_at hl 3 rfl) ?_
        refine ro_V (As := [.int (iZ ((i : Nat) : Int)), .int (iZ ((mo : Nat) : Int))]) (rest := [.int (iZ q)]) ⟨hx, hb, hml, hown, hts⟩ (c_X0_voteOf l G Y h ad K hW i mo (by omega)) (cwV 2 hts gX0_isCarriedWithin_X0_voteOf rfl rfl rfl (by decide +kernel) ⟨Nat.le_of_ble_eq_true rfl, Nat.le_of_ble_eq_true rfl⟩) hK hP 0 rfl rfl rfl hl.1 rfl (Nat.le_of_ble_eq_true rfl) dX0_isCarriedWithin_40 ⟨Nat.zero_le _, Nat.zero_le _⟩ ?_
        have hb_7 := vt_in hW i mo (by omega)
        refine z_iadd hx hb dX0_isCarriedWithin_43 ?_
        refine lv_istore (lv' := [(4, .int (iZ (q + vt K i mo))), (5, .int (iZ ((i : Nat) : Int))), (0, .ref h), (1, .int (iZ ((mo : Nat) : Int))), (2, .int (iZ a)), (3, .int (iZ b))]) hx hb dX0_isCarriedWithin_44 hl (by decide) rfl (fun ls hl => ?_)
        refine lv_iinc (v := iZ ((i + 1 : Nat) : Int)) (lv' := [(5, .int (iZ ((i + 1 : Nat) : Int))), (4, .int (iZ (q + vt K i mo))), (0, .ref h), (1, .int (iZ ((mo : Nat) : Int))), (2, .int (iZ a)), (3, .int (iZ b))]) hx hb dX0_isCarriedWithin_46 hl (k := 1) rfl (iZ_inc _) (by decide) rfl (fun ls hl => ?_)
        refine lv_goto (tgt := 6) hx hb dX0_isCarriedWithin_49 (by decide) ?_
        exact ih1 (ls := ls) (i := i + 1) (q := (q + vt K i mo)) (hI := by exact ⟨by rw [cdW]; first | rw [if_pos (by assumption), hI.1] | rw [if_neg (by assumption), hI.1], by omega⟩) (hl := lv_sub hl [0, 1, 2, 3, 4, 5] rfl) (hn_ := by omega)

set_option maxHeartbeats 4000000 in
set_option maxRecDepth 100000 in
theorem c_X0_isCarried (l : Launch) (G : va_G) (Y : Nat → ClassId) (h : Nat) (ad : Nat → Nat) (K : Kom) (hW : cWF K) (mo : Nat) (r : mo ≤ 2) : Met l yX0_isCarried wsX0_isCarried ({ frames := 4, cells := 0, slots := 0, locals := 94 }) (rP G Y [.ref h, .int (iZ ((mo : Nat) : Int))] (cmW Y h ad K)) (rQ (.int (iZ (bZ (crd K mo))))) 0 0 (fun _ => False) := by
  refine Met.ofW (cc := cX0_isCarried) (maxL := 2) (ret := (some .boolean)) (by decide) rfl ?_
  intro p e s m args below meth c s₁ B hml hv
  obtain ⟨rfl, hK, hP⟩ := hv
  have hx := B.exec
  have hb := B.bytes
  have hr := B.returns
  have hts := atoms_spec (ws := wsX0_isCarried) B.pre
  have hown : s.vm.findClass RX0 = some m.cls := findClass_of_methodNamed B.named
  have hlocks := B.notSynchronized
  have hl := lv_entry ([.ref h, .int (iZ ((mo : Nat) : Int))]) (n := 2) (Nat.le_of_ble_eq_true rfl)
  rw [lg_entry_eq]
  generalize (lg_sl ([.ref h, .int (iZ ((mo : Nat) : Int))]) ++ List.replicate (2 - (lg_sl ([.ref h, .int (iZ ((mo : Nat) : Int))])).length) Slot.unset).toArray = ls at hl ⊢
  replace hl : lv_has ls 2 [(0, .ref h), (1, .int (iZ ((mo : Nat) : Int)))] := hl
  have h0 := hW.1
  have hnc := hW.nc
  refine lv_aload_n hx hb dX0_isCarried_0 rfl (lv_at hl 0 rfl) ?_
  refine lv_iload_n hx hb dX0_isCarried_1 rfl (lv_at hl 1 rfl) ?_
  refine z_iconst hx hb dX0_isCarried_2 ?_
  refine ro_V (As := [.int (iZ ((mo : Nat) : Int)), .int (iZ 1)]) (rest := []) ⟨hx, hb, hml, hown, hts⟩ (c_X0_weightBehind l G Y h ad K hW mo 1 (by omega)) (cwV 2 hts gX0_isCarried_X0_weightBehind rfl rfl rfl (by decide +kernel) ⟨Nat.le_of_ble_eq_true rfl, Nat.le_of_ble_eq_true rfl⟩) hK hP 0 rfl rfl rfl hl.1 rfl (Nat.le_of_ble_eq_true rfl) dX0_isCarried_3 ⟨Nat.zero_le _, Nat.zero_le _⟩ ?_
  have hb_1 := wb_in hW mo 1
  refine lv_aload_n hx hb dX0_isCarried_6 rfl (lv_at hl 0 rfl) ?_
  refine lv_iload_n hx hb dX0_isCarried_7 rfl (lv_at hl 1 rfl) ?_
  refine z_iconst hx hb dX0_isCarried_8 ?_
  refine ro_V (As := [.int (iZ ((mo : Nat) : Int)), .int (iZ (-1))]) (rest := [.int (iZ (wb K mo 1))]) ⟨hx, hb, hml, hown, hts⟩ (c_X0_weightBehind l G Y h ad K hW mo (-1) (by omega)) (cwV 2 hts gX0_isCarried_X0_weightBehind rfl rfl rfl (by decide +kernel) ⟨Nat.le_of_ble_eq_true rfl, Nat.le_of_ble_eq_true rfl⟩) hK hP 0 rfl rfl rfl hl.1 rfl (Nat.le_of_ble_eq_true rfl) dX0_isCarried_9 ⟨Nat.zero_le _, Nat.zero_le _⟩ ?_
  have hb_2 := wb_in hW mo (-1)
  refine z_icmp_le (tgt := 19) hx hb dX0_isCarried_12 (by decide) (by omega) (fun c_3 => ?_) (fun c_3 => ?_)
  · skip
    refine z_iconst hx hb dX0_isCarried_19 ?_
    refine z_top (show 0 = bZ (crd K mo) from ?_) ?_
    · unfold crd; first | exact bZ_1 (by omega) | exact bZ_00 (by omega)
    exact W.zret (v := iZ (bZ (crd K mo))) hx hb hr (b01_nar (bZ_in _)) (fun t9 ht9 _ => ⟨rfl, ht9⟩) (fun q h => absurd h List.not_mem_nil) dX0_isCarried_20
  · skip
    refine z_iconst hx hb dX0_isCarried_15 ?_
    refine lv_goto (tgt := 20) hx hb dX0_isCarried_16 (by decide) ?_
    refine z_top (show 1 = bZ (crd K mo) from ?_) ?_
    · unfold crd; first | exact bZ_1 (by omega) | exact bZ_00 (by omega)
    exact W.zret (v := iZ (bZ (crd K mo))) hx hb hr (b01_nar (bZ_in _)) (fun t9 ht9 _ => ⟨rfl, ht9⟩) (fun q h => absurd h List.not_mem_nil) dX0_isCarried_20

set_option maxHeartbeats 4000000 in
set_option maxRecDepth 100000 in
theorem c_X0_weightUnder (l : Launch) (G : va_G) (Y : Nat → ClassId) (h : Nat) (ad : Nat → Nat) (K : Kom) (hW : cWF K) (t : Int) (r : zR t) : Met l yX0_weightUnder wsX0_weightUnder ({ frames := 2, cells := 0, slots := 0, locals := 47 }) (rP G Y [.ref h, .int (iZ t)] (cmW Y h ad K)) (rQ (.int (iZ (wu K t)))) 0 0 (fun _ => False) := by
  refine Met.ofW (cc := cX0_weightUnder) (maxL := 4) (ret := (some .int)) (by decide) rfl ?_
  intro p e s m args below meth c s₁ B hml hv
  obtain ⟨rfl, hK, hP⟩ := hv
  have hx := B.exec
  have hb := B.bytes
  have hr := B.returns
  have hts := atoms_spec (ws := wsX0_weightUnder) B.pre
  have hown : s.vm.findClass RX0 = some m.cls := findClass_of_methodNamed B.named
  have hlocks := B.notSynchronized
  have hFX0 : ∀ w ∈ wsX00, w ∈ wsX0_weightUnder := by decide +kernel
  have kf47 := (hts (.fieldLink RX0 47 "ShadeVotes$Commune" "people" "I") (by decide +kernel))
  have kf28 := (hts (.fieldLink RX0 28 "ShadeVotes$Commune" "personCell" "[I") (by decide +kernel))
  have kf31 := (hts (.fieldLink RX0 31 "ShadeVotes$Commune" "personWeight" "[I") (by decide +kernel))
  have hl := lv_entry ([.ref h, .int (iZ t)]) (n := 4) (Nat.le_of_ble_eq_true rfl)
  rw [lg_entry_eq]
  generalize (lg_sl ([.ref h, .int (iZ t)]) ++ List.replicate (4 - (lg_sl ([.ref h, .int (iZ t)])).length) Slot.unset).toArray = ls at hl ⊢
  replace hl : lv_has ls 4 [(0, .ref h), (1, .int (iZ t))] := hl
  have h0 := hW.1
  have hnc := hW.nc
  refine z_iconst hx hb dX0_weightUnder_0 ?_
  refine lv_istore_n (lv' := [(2, .int (iZ 0)), (0, .ref h), (1, .int (iZ t))]) hx hb dX0_weightUnder_1 rfl hl (by decide) rfl (fun ls hl => ?_)
  refine z_iconst hx hb dX0_weightUnder_2 ?_
  refine lv_istore_n (lv' := [(3, .int (iZ 0)), (2, .int (iZ 0)), (0, .ref h), (1, .int (iZ t))]) hx hb dX0_weightUnder_3 rfl hl (by decide) rfl (fun ls hl => ?_)
  obtain ⟨i, q, hI, hl1⟩ : ∃ (i : Nat) (q : Int), (q = wuN K t i ∧ (i : Int) ≤ K 0 3) ∧ lv_has ls 4 [(3, .int (iZ ((i : Nat) : Int))), (2, .int (iZ q)), (0, .ref h), (1, .int (iZ t))] := ⟨0, 0, by exact ⟨rfl, by omega⟩, lv_sub hl [0, 1, 2, 3] rfl⟩
  clear hl
  have hl := hl1
  clear hl1
  obtain ⟨n_, hn_⟩ : ∃ n_ : Nat, (K 0 3).toNat - i < n_ := ⟨_, Nat.lt_succ_self _⟩
  induction n_ generalizing i q ls with
  | zero => exact absurd hn_ (Nat.not_lt_zero _)
  | succ n_ ih1 =>
    refine lv_iload_n hx hb dX0_weightUnder_4 rfl (lv_at hl 0 rfl) ?_
    refine lv_aload_n hx hb dX0_weightUnder_5 rfl (lv_at hl 2 rfl) ?_
    refine va_get (D := G) (ci := 0) (v := .int (iZ (K 0 3))) (C := RX0) (T := TX0) (N := 14) hx hb hts hFX0 hown hK.1 hP 0 rfl rfl 3 (by decide) kf47 (fun _ h9 => h9) rfl dX0_weightUnder_6 ?_
    refine z_icmp_ge (tgt := 41) hx hb dX0_weightUnder_9 (by decide) (by omega) (fun c_2 => ?_) (fun c_2 => ?_)
    · skip
      refine lv_iload_n hx hb dX0_weightUnder_41 rfl (lv_at hl 1 rfl) ?_
      refine z_top (show q = wu K t from ?_) ?_
      · unfold wu; rw [hI.1, show (K 0 3).toNat = i by omega]
      exact W.iret (v := iZ (wu K t)) hx hb hr (fun t9 ht9 _ => ⟨rfl, ht9⟩) (fun q h => absurd h List.not_mem_nil) dX0_weightUnder_42
    · skip
      refine lv_aload_n hx hb dX0_weightUnder_12 rfl (lv_at hl 2 rfl) ?_
      refine lv_aload_n hx hb dX0_weightUnder_13 rfl (lv_at hl 2 rfl) ?_
      refine va_get (D := G) (ci := 0) (v := .ref (ad 6)) (C := RX0) (T := TX0) (N := 14) hx hb hts hFX0 hown hK.1 hP 0 rfl rfl 12 (by decide) kf28 (fun _ h9 => h9) rfl dX0_weightUnder_14 ?_
      refine lv_iload_n hx hb dX0_weightUnder_17 rfl (lv_at hl 0 rfl) ?_
      refine z_iald hx hb hK.1 hP 6 0 rfl rfl i (by omega) (by decide) dX0_weightUnder_18 ?_
      have hb_3 := hW.2.2.1 i (by omega)
      refine ro_V (As := [.int (iZ ((K 6) i))]) (rest := []) ⟨hx, hb, hml, hown, hts⟩ (c_X0_treeOver l G Y h ad K hW ((K 6) i) (by omega)) (cwV 1 hts gX0_weightUnder_X0_treeOver rfl rfl rfl (by decide +kernel) ⟨Nat.le_of_ble_eq_true rfl, Nat.le_of_ble_eq_true rfl⟩) hK hP 0 rfl rfl rfl hl.1 rfl (Nat.le_of_ble_eq_true rfl) dX0_weightUnder_19 ⟨Nat.zero_le _, Nat.zero_le _⟩ ?_
      have hb_4 := ov_in hW ((K 6) i)
      refine lv_iload_n hx hb dX0_weightUnder_22 rfl (lv_at hl 3 rfl) ?_
      refine z_icmp_ne (tgt := 35) hx hb dX0_weightUnder_23 (by decide) (by omega) (fun c_5 => ?_) (fun c_5 => ?_)
      · skip
        refine lv_iinc (v := iZ ((i + 1 : Nat) : Int)) (lv' := [(3, .int (iZ ((i + 1 : Nat) : Int))), (2, .int (iZ q)), (0, .ref h), (1, .int (iZ t))]) hx hb dX0_weightUnder_35 hl (k := 0) rfl (iZ_inc _) (by decide) rfl (fun ls hl => ?_)
        refine lv_goto (tgt := 4) hx hb dX0_weightUnder_38 (by decide) ?_
        exact ih1 (ls := ls) (i := i + 1) (q := q) (hI := by exact ⟨by rw [wuN]; first | rw [if_pos (by assumption), hI.1] | rw [if_neg (by assumption), hI.1], by omega⟩) (hl := lv_sub hl [0, 1, 2, 3] rfl) (hn_ := by omega)
      · skip
        refine lv_iload_n hx hb dX0_weightUnder_26 rfl (lv_at hl 1 rfl) ?_
        refine lv_aload_n hx hb dX0_weightUnder_27 rfl (lv_at hl 2 rfl) ?_
        refine va_get (D := G) (ci := 0) (v := .ref (ad 7)) (C := RX0) (T := TX0) (N := 14) hx hb hts hFX0 hown hK.1 hP 0 rfl rfl 13 (by decide) kf31 (fun _ h9 => h9) rfl dX0_weightUnder_28 ?_
        refine lv_iload_n hx hb dX0_weightUnder_31 rfl (lv_at hl 0 rfl) ?_
        refine z_iald hx hb hK.1 hP 7 0 rfl rfl i (by omega) (by decide) dX0_weightUnder_32 ?_
        have hb_6 := hW.2.2.1 i (by omega)
        refine z_iadd hx hb dX0_weightUnder_33 ?_
        refine lv_istore_n (lv' := [(2, .int (iZ (q + (K 7) i))), (3, .int (iZ ((i : Nat) : Int))), (0, .ref h), (1, .int (iZ t))]) hx hb dX0_weightUnder_34 rfl hl (by decide) rfl (fun ls hl => ?_)
        refine lv_iinc (v := iZ ((i + 1 : Nat) : Int)) (lv' := [(3, .int (iZ ((i + 1 : Nat) : Int))), (2, .int (iZ (q + (K 7) i))), (0, .ref h), (1, .int (iZ t))]) hx hb dX0_weightUnder_35 hl (k := 1) rfl (iZ_inc _) (by decide) rfl (fun ls hl => ?_)
        refine lv_goto (tgt := 4) hx hb dX0_weightUnder_38 (by decide) ?_
        exact ih1 (ls := ls) (i := i + 1) (q := (q + (K 7) i)) (hI := by exact ⟨by rw [wuN]; first | rw [if_pos (by assumption), hI.1] | rw [if_neg (by assumption), hI.1], by omega⟩) (hl := lv_sub hl [0, 1, 2, 3] rfl) (hn_ := by omega)

set_option maxHeartbeats 4000000 in
set_option maxRecDepth 100000 in
theorem c_X0_weightUnderTrees (l : Launch) (G : va_G) (Y : Nat → ClassId) (h : Nat) (ad : Nat → Nat) (K : Kom) (hW : cWF K) : Met l yX0_weightUnderTrees wsX0_weightUnderTrees ({ frames := 3, cells := 0, slots := 0, locals := 70 }) (rP G Y [.ref h] (cmW Y h ad K)) (rQ (.int (iZ (wtN K (K 0 2).toNat)))) 0 0 (fun _ => False) := by
  refine Met.ofW (cc := cX0_weightUnderTrees) (maxL := 3) (ret := (some .int)) (by decide) rfl ?_
  intro p e s m args below meth c s₁ B hml hv
  obtain ⟨rfl, hK, hP⟩ := hv
  have hx := B.exec
  have hb := B.bytes
  have hr := B.returns
  have hts := atoms_spec (ws := wsX0_weightUnderTrees) B.pre
  have hown : s.vm.findClass RX0 = some m.cls := findClass_of_methodNamed B.named
  have hlocks := B.notSynchronized
  have hFX0 : ∀ w ∈ wsX00, w ∈ wsX0_weightUnderTrees := by decide +kernel
  have kf44 := (hts (.fieldLink RX0 44 "ShadeVotes$Commune" "trees" "I") (by decide +kernel))
  have hl := lv_entry ([.ref h]) (n := 3) (Nat.le_of_ble_eq_true rfl)
  rw [lg_entry_eq]
  generalize (lg_sl ([.ref h]) ++ List.replicate (3 - (lg_sl ([.ref h])).length) Slot.unset).toArray = ls at hl ⊢
  replace hl : lv_has ls 3 [(0, .ref h)] := hl
  have h0 := hW.1
  have hnc := hW.nc
  refine z_iconst hx hb dX0_weightUnderTrees_0 ?_
  refine lv_istore_n (lv' := [(1, .int (iZ 0)), (0, .ref h)]) hx hb dX0_weightUnderTrees_1 rfl hl (by decide) rfl (fun ls hl => ?_)
  refine z_iconst hx hb dX0_weightUnderTrees_2 ?_
  refine lv_istore_n (lv' := [(2, .int (iZ 0)), (1, .int (iZ 0)), (0, .ref h)]) hx hb dX0_weightUnderTrees_3 rfl hl (by decide) rfl (fun ls hl => ?_)
  obtain ⟨i, q, hI, hl1⟩ : ∃ (i : Nat) (q : Int), (q = wtN K i ∧ (i : Int) ≤ K 0 2) ∧ lv_has ls 3 [(2, .int (iZ ((i : Nat) : Int))), (1, .int (iZ q)), (0, .ref h)] := ⟨0, 0, by exact ⟨rfl, by omega⟩, lv_sub hl [0, 1, 2] rfl⟩
  clear hl
  have hl := hl1
  clear hl1
  obtain ⟨n_, hn_⟩ : ∃ n_ : Nat, (K 0 2).toNat - i < n_ := ⟨_, Nat.lt_succ_self _⟩
  induction n_ generalizing i q ls with
  | zero => exact absurd hn_ (Nat.not_lt_zero _)
  | succ n_ ih1 =>
    refine lv_iload_n hx hb dX0_weightUnderTrees_4 rfl (lv_at hl 0 rfl) ?_
    refine lv_aload_n hx hb dX0_weightUnderTrees_5 rfl (lv_at hl 2 rfl) ?_
    refine va_get (D := G) (ci := 0) (v := .int (iZ (K 0 2))) (C := RX0) (T := TX0) (N := 14) hx hb hts hFX0 hown hK.1 hP 0 rfl rfl 2 (by decide) kf44 (fun _ h9 => h9) rfl dX0_weightUnderTrees_6 ?_
    refine z_icmp_ge (tgt := 26) hx hb dX0_weightUnderTrees_9 (by decide) (by omega) (fun c_2 => ?_) (fun c_2 => ?_)
    · skip
      refine lv_iload_n hx hb dX0_weightUnderTrees_26 rfl (lv_at hl 1 rfl) ?_
      refine z_top (show q = wtN K (K 0 2).toNat from ?_) ?_
      · rw [hI.1, show (K 0 2).toNat = i by omega]
      exact W.iret (v := iZ (wtN K (K 0 2).toNat)) hx hb hr (fun t9 ht9 _ => ⟨rfl, ht9⟩) (fun q h => absurd h List.not_mem_nil) dX0_weightUnderTrees_27
    · skip
      refine lv_iload_n hx hb dX0_weightUnderTrees_12 rfl (lv_at hl 1 rfl) ?_
      refine lv_aload_n hx hb dX0_weightUnderTrees_13 rfl (lv_at hl 2 rfl) ?_
      refine lv_iload_n hx hb dX0_weightUnderTrees_14 rfl (lv_at hl 0 rfl) ?_
      refine ro_V (As := [.int (iZ ((i : Nat) : Int))]) (rest := [.int (iZ q)]) ⟨hx, hb, hml, hown, hts⟩ (c_X0_weightUnder l G Y h ad K hW ((i : Nat) : Int) (by omega)) (cwV 1 hts gX0_weightUnderTrees_X0_weightUnder rfl rfl rfl (by decide +kernel) ⟨Nat.le_of_ble_eq_true rfl, Nat.le_of_ble_eq_true rfl⟩) hK hP 0 rfl rfl rfl hl.1 rfl (Nat.le_of_ble_eq_true rfl) dX0_weightUnderTrees_15 ⟨Nat.zero_le _, Nat.zero_le _⟩ ?_
      have hb_3 := wu_in hW ((i : Nat) : Int)
      refine z_iadd hx hb dX0_weightUnderTrees_18 ?_
      refine lv_istore_n (lv' := [(1, .int (iZ (q + wu K ((i : Nat) : Int)))), (2, .int (iZ ((i : Nat) : Int))), (0, .ref h)]) hx hb dX0_weightUnderTrees_19 rfl hl (by decide) rfl (fun ls hl => ?_)
      refine lv_iinc (v := iZ ((i + 1 : Nat) : Int)) (lv' := [(2, .int (iZ ((i + 1 : Nat) : Int))), (1, .int (iZ (q + wu K ((i : Nat) : Int)))), (0, .ref h)]) hx hb dX0_weightUnderTrees_20 hl (k := 1) rfl (iZ_inc _) (by decide) rfl (fun ls hl => ?_)
      refine lv_goto (tgt := 4) hx hb dX0_weightUnderTrees_23 (by decide) ?_
      exact ih1 (ls := ls) (i := i + 1) (q := (q + wu K ((i : Nat) : Int))) (hI := by exact ⟨by rw [wtN, hI.1], by omega⟩) (hl := lv_sub hl [0, 1, 2] rfl) (hn_ := by omega)
