set_option maxHeartbeats 4000000 in
set_option maxRecDepth 100000 in
theorem c_X4_add (l : Launch) (G : va_G) (Y : Nat → ClassId) (h5 ta tb : Nat) (M T : Nat → Int) (n9 : Int) (a b : Int) (r : 0 ≤ n9 ∧ n9 ≤ 5) : Met l yX4_add wsX4_add ({ frames := 0, cells := 0, slots := 0, locals := 0 }) (mP G Y [.ref h5, .int (iZ a), .int (iZ b)] (tlW Y h5 ta tb M T n9)) (mQ G (tlW Y h5 ta tb M T n9) (some (.int (iZ (bZ (decide (n9 < 5)))))) (tlW Y h5 ta tb (tlM M n9 a) (tlM T n9 b) (tlS n9))) 0 0 (fun q => q ∈ List.map Prod.fst (tlW Y h5 ta tb M T n9)) := by
  refine Met.ofW (cc := cX4_add) (maxL := 3) (ret := (some .boolean)) (by decide) rfl ?_
  intro p e s m args below meth c s₁ B hml hv
  obtain ⟨rfl, hK, hP, hD0⟩ := hv
  have hx := B.exec
  have hb := B.bytes
  have hr := B.returns
  have hts := atoms_spec (ws := wsX4_add) B.pre
  have hown : s.vm.findClass RX4 = some m.cls := findClass_of_methodNamed B.named
  have hlocks := B.notSynchronized
  have hFX4 : ∀ w ∈ wsX40, w ∈ wsX4_add := by decide +kernel
  have kf18 := (hts (.fieldLink RX4 18 "ShadeVotes$Tally" "size" "I") (by decide +kernel))
  have kf9 := (hts (.fieldLink RX4 9 "ShadeVotes$Tally" "motions" "[I") (by decide +kernel))
  have kf15 := (hts (.fieldLink RX4 15 "ShadeVotes$Tally" "weights" "[I") (by decide +kernel))
  have hD := va_D_self hD0
  have hS : va_S (fun q => q ∈ List.map Prod.fst (tlW Y h5 ta tb M T n9)) s.heap s.heap [] := va_S.rf
  obtain ⟨H, hHe⟩ : ∃ H, H = s.heap := ⟨_, rfl⟩
  rw [← hHe] at hP
  replace hS : va_S (fun q => q ∈ List.map Prod.fst (tlW Y h5 ta tb M T n9)) s.heap H [] := by rw [hHe]; exact hS
  have hl := lv_entry ([.ref h5, .int (iZ a), .int (iZ b)]) (n := 3) (Nat.le_of_ble_eq_true rfl)
  rw [lg_entry_eq]
  generalize (lg_sl ([.ref h5, .int (iZ a), .int (iZ b)]) ++ List.replicate (3 - (lg_sl ([.ref h5, .int (iZ a), .int (iZ b)])).length) Slot.unset).toArray = ls at hl ⊢
  replace hl : lv_has ls 3 [(0, .ref h5), (1, .int (iZ a)), (2, .int (iZ b))] := hl
  obtain ⟨locs, hLe⟩ : ∃ locs : List Loc, locs = [] := ⟨_, rfl⟩
  rw [← hLe] at hS ⊢
  have hW0 : ∀ {Q : State → Prop} {g : JFrame}, W p l e ({ frames := 0, cells := 0, slots := 0, locals := 0 }) s m [.ref h5, .int (iZ a), .int (iZ b)].toArray below meth c H locs 0 0 Q g → W p l e ({ frames := 0, cells := 0, slots := 0, locals := 0 }) s m [.ref h5, .int (iZ a), .int (iZ b)].toArray below meth c s.heap locs 0 0 Q g := fun h => by rw [← hHe]; exact h
  refine hW0 ?_
  clear hW0 hHe hLe
  refine lv_aload_n hx hb dX4_add_0 rfl (lv_at hl 0 rfl) ?_
  refine va_get (D := G) (ci := 4) (v := .int (iZ n9)) (C := RX4) (T := TX4) (N := 3) hx hb hts hFX4 hown hK.1 hP 0 rfl rfl 2 (by decide) kf18 (fun _ h9 => h9) rfl dX4_add_1 ?_
  refine z_iconst hx hb dX4_add_4 ?_
  refine z_icmp_lt (tgt := 10) hx hb dX4_add_5 (by decide) (by omega) (fun c_1 => ?_) (fun c_1 => ?_)
  · skip
    refine lv_aload_n hx hb dX4_add_10 rfl (lv_at hl 0 rfl) ?_
    refine va_get (D := G) (ci := 4) (v := .ref ta) (C := RX4) (T := TX4) (N := 3) hx hb hts hFX4 hown hK.1 hP 0 rfl rfl 0 (by decide) kf9 (fun _ h9 => h9) rfl dX4_add_11 ?_
    refine lv_aload_n hx hb dX4_add_14 rfl (lv_at hl 0 rfl) ?_
    refine va_get (D := G) (ci := 4) (v := .int (iZ n9)) (C := RX4) (T := TX4) (N := 3) hx hb hts hFX4 hown hK.1 hP 0 rfl rfl 2 (by decide) kf18 (fun _ h9 => h9) rfl dX4_add_15 ?_
    refine lv_iload_n hx hb dX4_add_18 rfl (lv_at hl 1 rfl) ?_
    refine z_iast hx hb hK.1 hP hD hS 1 0 rfl rfl ((n9).toNat) (by omega) (by decide) dX4_add_19 (fun H locs hP hD hS => ?_)
    replace hP : va_P G vwCl [(h5, .inr (4, [.ref ta, .ref tb, .int (iZ n9)])), (ta, .inl (Y 0, 5, .inl (aI (va_up M ((n9).toNat) a)))), (tb, .inl (Y 0, 5, .inl (aI T)))] H := hP
    replace hD : va_D _ [(h5, .inr (4, [.ref ta, .ref tb, .int (iZ n9)])), (ta, .inl (Y 0, 5, .inl (aI (va_up M ((n9).toNat) a)))), (tb, .inl (Y 0, 5, .inl (aI T)))] := hD
    refine lv_aload_n hx hb dX4_add_20 rfl (lv_at hl 0 rfl) ?_
    refine va_get (D := G) (ci := 4) (v := .ref tb) (C := RX4) (T := TX4) (N := 3) hx hb hts hFX4 hown hK.1 hP 0 rfl rfl 1 (by decide) kf15 (fun _ h9 => h9) rfl dX4_add_21 ?_
    refine lv_aload_n hx hb dX4_add_24 rfl (lv_at hl 0 rfl) ?_
    refine va_get (D := G) (ci := 4) (v := .int (iZ n9)) (C := RX4) (T := TX4) (N := 3) hx hb hts hFX4 hown hK.1 hP 0 rfl rfl 2 (by decide) kf18 (fun _ h9 => h9) rfl dX4_add_25 ?_
    refine lv_iload_n hx hb dX4_add_28 rfl (lv_at hl 2 rfl) ?_
    refine z_iast hx hb hK.1 hP hD hS 2 0 rfl rfl ((n9).toNat) (by omega) (by decide) dX4_add_29 (fun H locs hP hD hS => ?_)
    replace hP : va_P G vwCl [(h5, .inr (4, [.ref ta, .ref tb, .int (iZ n9)])), (ta, .inl (Y 0, 5, .inl (aI (va_up M ((n9).toNat) a)))), (tb, .inl (Y 0, 5, .inl (aI (va_up T ((n9).toNat) b))))] H := hP
    replace hD : va_D _ [(h5, .inr (4, [.ref ta, .ref tb, .int (iZ n9)])), (ta, .inl (Y 0, 5, .inl (aI (va_up M ((n9).toNat) a)))), (tb, .inl (Y 0, 5, .inl (aI (va_up T ((n9).toNat) b))))] := hD
    refine lv_aload_n hx hb dX4_add_30 rfl (lv_at hl 0 rfl) ?_
    refine lv_dup hx hb dX4_add_31 rfl ?_
    refine va_get (D := G) (ci := 4) (v := .int (iZ n9)) (C := RX4) (T := TX4) (N := 3) hx hb hts hFX4 hown hK.1 hP 0 rfl rfl 2 (by decide) kf18 (fun _ h9 => h9) rfl dX4_add_32 ?_
    refine z_iconst hx hb dX4_add_35 ?_
    refine z_iadd hx hb dX4_add_36 ?_
    refine va_put (D := G) (ci := 4) (v := .int (iZ (n9 + 1))) (ty := .int) (C := RX4) (T := TX4) (N := 3) hx hb hts hFX4 tyX4 tyX4_ok nmX4 hown hK.1 hP hD hS 0 rfl rfl 2 (by decide) kf18 (fun _ h9 => h9) rfl (by decide +kernel) rfl rfl (Nat.le_of_ble_eq_true rfl) dX4_add_37 (fun H locs hP hD hS => ?_)
    replace hP : va_P G vwCl [(h5, .inr (4, [.ref ta, .ref tb, .int (iZ (n9 + 1))])), (ta, .inl (Y 0, 5, .inl (aI (va_up M ((n9).toNat) a)))), (tb, .inl (Y 0, 5, .inl (aI (va_up T ((n9).toNat) b))))] H := hP
    replace hD : va_D _ [(h5, .inr (4, [.ref ta, .ref tb, .int (iZ (n9 + 1))])), (ta, .inl (Y 0, 5, .inl (aI (va_up M ((n9).toNat) a)))), (tb, .inl (Y 0, 5, .inl (aI (va_up T ((n9).toNat) b))))] := hD
    refine z_iconst hx hb dX4_add_40 ?_
    refine z_top (show 1 = bZ (decide (n9 < 5)) from ?_) ?_
    · first | exact bZ_1 (by omega) | exact bZ_00 (by omega)
    have hP9 : va_P G vwCl (tlW Y h5 ta tb (tlM M n9 a) (tlM T n9 b) (tlS n9)) H := by rw [tlM_t (by omega), tlM_t (by omega), tlS_t (by omega)]; exact hP
    exact W.zret (v := iZ (bZ (decide (n9 < 5)))) hx hb hr (b01_nar (bZ_in _)) (fun t9 ht9 _ => ⟨rfl, by rw [ht9]; exact hP9, hS.F ht9⟩) hS.2.2 dX4_add_41
  · skip
    refine z_iconst hx hb dX4_add_8 ?_
    refine z_top (show 0 = bZ (decide (n9 < 5)) from ?_) ?_
    · first | exact bZ_1 (by omega) | exact bZ_00 (by omega)
    have hP9 : va_P G vwCl (tlW Y h5 ta tb (tlM M n9 a) (tlM T n9 b) (tlS n9)) H := by rw [tlM_f (by omega), tlM_f (by omega), tlS_f (by omega)]; exact hP
    exact W.zret (v := iZ (bZ (decide (n9 < 5)))) hx hb hr (b01_nar (bZ_in _)) (fun t9 ht9 _ => ⟨rfl, by rw [ht9]; exact hP9, hS.F ht9⟩) hS.2.2 dX4_add_9

set_option maxHeartbeats 4000000 in
set_option maxRecDepth 100000 in
theorem c_X4_empty (l : Launch) (G : va_G) (Y : Nat → ClassId) (h5 ta tb : Nat) (M T : Nat → Int) (n9 : Int) : Met l yX4_empty wsX4_empty ({ frames := 0, cells := 0, slots := 0, locals := 0 }) (mP G Y [.ref h5] (tlW Y h5 ta tb M T n9)) (mQ G (tlW Y h5 ta tb M T n9) (some (.int (iZ n9))) (tlW Y h5 ta tb M T 0)) 0 0 (fun q => q ∈ List.map Prod.fst (tlW Y h5 ta tb M T n9)) := by
  refine Met.ofW (cc := cX4_empty) (maxL := 2) (ret := (some .int)) (by decide) rfl ?_
  intro p e s m args below meth c s₁ B hml hv
  obtain ⟨rfl, hK, hP, hD0⟩ := hv
  have hx := B.exec
  have hb := B.bytes
  have hr := B.returns
  have hts := atoms_spec (ws := wsX4_empty) B.pre
  have hown : s.vm.findClass RX4 = some m.cls := findClass_of_methodNamed B.named
  have hlocks := B.notSynchronized
  have hFX4 : ∀ w ∈ wsX40, w ∈ wsX4_empty := by decide +kernel
  have kf18 := (hts (.fieldLink RX4 18 "ShadeVotes$Tally" "size" "I") (by decide +kernel))
  have hD := va_D_self hD0
  have hS : va_S (fun q => q ∈ List.map Prod.fst (tlW Y h5 ta tb M T n9)) s.heap s.heap [] := va_S.rf
  obtain ⟨H, hHe⟩ : ∃ H, H = s.heap := ⟨_, rfl⟩
  rw [← hHe] at hP
  replace hS : va_S (fun q => q ∈ List.map Prod.fst (tlW Y h5 ta tb M T n9)) s.heap H [] := by rw [hHe]; exact hS
  have hl := lv_entry ([.ref h5]) (n := 2) (Nat.le_of_ble_eq_true rfl)
  rw [lg_entry_eq]
  generalize (lg_sl ([.ref h5]) ++ List.replicate (2 - (lg_sl ([.ref h5])).length) Slot.unset).toArray = ls at hl ⊢
  replace hl : lv_has ls 2 [(0, .ref h5)] := hl
  obtain ⟨locs, hLe⟩ : ∃ locs : List Loc, locs = [] := ⟨_, rfl⟩
  rw [← hLe] at hS ⊢
  have hW0 : ∀ {Q : State → Prop} {g : JFrame}, W p l e ({ frames := 0, cells := 0, slots := 0, locals := 0 }) s m [.ref h5].toArray below meth c H locs 0 0 Q g → W p l e ({ frames := 0, cells := 0, slots := 0, locals := 0 }) s m [.ref h5].toArray below meth c s.heap locs 0 0 Q g := fun h => by rw [← hHe]; exact h
  refine hW0 ?_
  clear hW0 hHe hLe
  refine lv_aload_n hx hb dX4_empty_0 rfl (lv_at hl 0 rfl) ?_
  refine va_get (D := G) (ci := 4) (v := .int (iZ n9)) (C := RX4) (T := TX4) (N := 3) hx hb hts hFX4 hown hK.1 hP 0 rfl rfl 2 (by decide) kf18 (fun _ h9 => h9) rfl dX4_empty_1 ?_
  refine lv_istore_n (lv' := [(1, .int (iZ n9)), (0, .ref h5)]) hx hb dX4_empty_4 rfl hl (by decide) rfl (fun ls hl => ?_)
  refine lv_aload_n hx hb dX4_empty_5 rfl (lv_at hl 1 rfl) ?_
  refine z_iconst hx hb dX4_empty_6 ?_
  refine va_put (D := G) (ci := 4) (v := .int (iZ 0)) (ty := .int) (C := RX4) (T := TX4) (N := 3) hx hb hts hFX4 tyX4 tyX4_ok nmX4 hown hK.1 hP hD hS 0 rfl rfl 2 (by decide) kf18 (fun _ h9 => h9) rfl (by decide +kernel) rfl rfl (Nat.le_of_ble_eq_true rfl) dX4_empty_7 (fun H locs hP hD hS => ?_)
  replace hP : va_P G vwCl [(h5, .inr (4, [.ref ta, .ref tb, .int (iZ 0)])), (ta, .inl (Y 0, 5, .inl (aI M))), (tb, .inl (Y 0, 5, .inl (aI T)))] H := hP
  replace hD : va_D _ [(h5, .inr (4, [.ref ta, .ref tb, .int (iZ 0)])), (ta, .inl (Y 0, 5, .inl (aI M))), (tb, .inl (Y 0, 5, .inl (aI T)))] := hD
  refine lv_iload_n hx hb dX4_empty_10 rfl (lv_at hl 0 rfl) ?_
  have hP9 : va_P G vwCl (tlW Y h5 ta tb M T 0) H := hP
  exact W.iret (v := iZ n9) hx hb hr (fun t9 ht9 _ => ⟨rfl, by rw [ht9]; exact hP9, hS.F ht9⟩) hS.2.2 dX4_empty_11

set_option maxHeartbeats 4000000 in
set_option maxRecDepth 100000 in
theorem c_X4_isSoIn (l : Launch) (G : va_G) (Y : Nat → ClassId) (h5 ta tb : Nat) (M T : Nat → Int) (n9 : Int) (h : Nat) (ad : Nat → Nat) (K : Kom) (hW : cWF K) (r : (0 ≤ n9 ∧ n9 ≤ 5) ∧ ∀ j : Nat, j < 5 → 0 ≤ M j ∧ M j ≤ 2 ∧ 0 ≤ T j ∧ T j ≤ 28) : Met l yX4_isSoIn wsX4_isSoIn ({ frames := 4, cells := 0, slots := 0, locals := 94 }) (rP G Y [.ref h5, .ref h] (tlW Y h5 ta tb M T n9 ++ cmW Y h ad K)) (rQ (.int (iZ (bZ (soN K M T n9.toNat))))) 0 0 (fun _ => False) := by
  refine Met.ofW (cc := cX4_isSoIn) (maxL := 3) (ret := (some .boolean)) (by decide) rfl ?_
  intro p e s m args below meth c s₁ B hml hv
  obtain ⟨rfl, hK, hP⟩ := hv
  have hx := B.exec
  have hb := B.bytes
  have hr := B.returns
  have hts := atoms_spec (ws := wsX4_isSoIn) B.pre
  have hown : s.vm.findClass RX4 = some m.cls := findClass_of_methodNamed B.named
  have hlocks := B.notSynchronized
  have hFX4 : ∀ w ∈ wsX40, w ∈ wsX4_isSoIn := by decide +kernel
  have kf18 := (hts (.fieldLink RX4 18 "ShadeVotes$Tally" "size" "I") (by decide +kernel))
  have kf9 := (hts (.fieldLink RX4 9 "ShadeVotes$Tally" "motions" "[I") (by decide +kernel))
  have kf15 := (hts (.fieldLink RX4 15 "ShadeVotes$Tally" "weights" "[I") (by decide +kernel))
  have hl := lv_entry ([.ref h5, .ref h]) (n := 3) (Nat.le_of_ble_eq_true rfl)
  rw [lg_entry_eq]
  generalize (lg_sl ([.ref h5, .ref h]) ++ List.replicate (3 - (lg_sl ([.ref h5, .ref h])).length) Slot.unset).toArray = ls at hl ⊢
  replace hl : lv_has ls 3 [(0, .ref h5), (1, .ref h)] := hl
  have r1 := r.1
  have r2 := r.2
  refine z_iconst hx hb dX4_isSoIn_0 ?_
  refine lv_istore_n (lv' := [(2, .int (iZ 0)), (0, .ref h5), (1, .ref h)]) hx hb dX4_isSoIn_1 rfl hl (by decide) rfl (fun ls hl => ?_)
  obtain ⟨i, hI, hl1⟩ : ∃ (i : Nat), (soN K M T i = true ∧ (i : Int) ≤ n9) ∧ lv_has ls 3 [(2, .int (iZ ((i : Nat) : Int))), (0, .ref h5), (1, .ref h)] := ⟨0, by exact ⟨rfl, by omega⟩, lv_sub hl [0, 1, 2] rfl⟩
  clear hl
  have hl := hl1
  clear hl1
  obtain ⟨n_, hn_⟩ : ∃ n_ : Nat, n9.toNat - i < n_ := ⟨_, Nat.lt_succ_self _⟩
  induction n_ generalizing i ls with
  | zero => exact absurd hn_ (Nat.not_lt_zero _)
  | succ n_ ih1 =>
    refine lv_iload_n hx hb dX4_isSoIn_2 rfl (lv_at hl 0 rfl) ?_
    refine lv_aload_n hx hb dX4_isSoIn_3 rfl (lv_at hl 1 rfl) ?_
    refine va_get (D := G) (ci := 4) (v := .int (iZ n9)) (C := RX4) (T := TX4) (N := 3) hx hb hts hFX4 hown hK.1 hP 0 rfl rfl 2 (by decide) kf18 (fun _ h9 => h9) rfl dX4_isSoIn_4 ?_
    refine z_icmp_ge (tgt := 38) hx hb dX4_isSoIn_7 (by decide) (by omega) (fun c_2 => ?_) (fun c_2 => ?_)
    · skip
      refine z_iconst hx hb dX4_isSoIn_38 ?_
      refine z_top (show 1 = bZ (soN K M T n9.toNat) from ?_) ?_
      · (have e9 : n9.toNat = i := by omega); rw [e9, hI.1]; rfl
      exact W.zret (v := iZ (bZ (soN K M T n9.toNat))) hx hb hr (b01_nar (bZ_in _)) (fun t9 ht9 _ => ⟨rfl, ht9⟩) (fun q h => absurd h List.not_mem_nil) dX4_isSoIn_39
    · skip
      refine lv_aload_n hx hb dX4_isSoIn_10 rfl (lv_at hl 2 rfl) ?_
      refine lv_aload_n hx hb dX4_isSoIn_11 rfl (lv_at hl 1 rfl) ?_
      refine va_get (D := G) (ci := 4) (v := .ref ta) (C := RX4) (T := TX4) (N := 3) hx hb hts hFX4 hown hK.1 hP 0 rfl rfl 0 (by decide) kf9 (fun _ h9 => h9) rfl dX4_isSoIn_12 ?_
      refine lv_iload_n hx hb dX4_isSoIn_15 rfl (lv_at hl 0 rfl) ?_
      refine z_iald hx hb hK.1 hP 1 0 rfl rfl i (by omega) (by decide) dX4_isSoIn_16 ?_
      have hr9 := r2 i (by omega)
      refine z_top (show M i = (((M i).toNat : Nat) : Int) by omega) ?_
      refine z_iconst hx hb dX4_isSoIn_17 ?_
      refine ro_V (As := [.int (iZ (((M i).toNat : Nat) : Int)), .int (iZ 1)]) (rest := []) ⟨hx, hb, hml, hown, hts⟩ (c_X0_weightBehind l G Y h ad K hW ((M i).toNat) 1 (by omega)) (cwV 2 hts gX4_isSoIn_X0_weightBehind rfl rfl rfl (by decide +kernel) ⟨Nat.le_of_ble_eq_true rfl, Nat.le_of_ble_eq_true rfl⟩) hK (hP.sub (ws' := cmW Y h ad K) [3, 4, 5, 6, 7, 8, 9, 10] rfl) 0 rfl rfl rfl hl.1 rfl (Nat.le_of_ble_eq_true rfl) dX4_isSoIn_18 ⟨Nat.zero_le _, Nat.zero_le _⟩ ?_
      have hb_3 := wb_in hW ((M i).toNat) 1
      refine lv_aload_n hx hb dX4_isSoIn_21 rfl (lv_at hl 1 rfl) ?_
      refine va_get (D := G) (ci := 4) (v := .ref tb) (C := RX4) (T := TX4) (N := 3) hx hb hts hFX4 hown hK.1 hP 0 rfl rfl 1 (by decide) kf15 (fun _ h9 => h9) rfl dX4_isSoIn_22 ?_
      refine lv_iload_n hx hb dX4_isSoIn_25 rfl (lv_at hl 0 rfl) ?_
      refine z_iald hx hb hK.1 hP 2 0 rfl rfl i (by omega) (by decide) dX4_isSoIn_26 ?_
      have hr8 := r2 i (by omega)
      refine z_icmp_eq (tgt := 32) hx hb dX4_isSoIn_27 (by decide) (by omega) (fun c_4 => ?_) (fun c_4 => ?_)
      · skip
        refine lv_iinc (v := iZ ((i + 1 : Nat) : Int)) (lv' := [(2, .int (iZ ((i + 1 : Nat) : Int))), (0, .ref h5), (1, .ref h)]) hx hb dX4_isSoIn_32 hl (k := 0) rfl (iZ_inc _) (by decide) rfl (fun ls hl => ?_)
        refine lv_goto (tgt := 2) hx hb dX4_isSoIn_35 (by decide) ?_
        exact ih1 (ls := ls) (i := i + 1) (hI := by exact ⟨by rw [soN, hI.1, Bool.true_and]; exact decide_eq_true (by omega), by omega⟩) (hl := lv_sub hl [0, 1, 2] rfl) (hn_ := by omega)
      · skip
        refine z_iconst hx hb dX4_isSoIn_30 ?_
        refine z_top (show 0 = bZ (soN K M T n9.toNat) from ?_) ?_
        · rw [soN_f (t := i) (by omega) (by omega)]; rfl
        exact W.zret (v := iZ (bZ (soN K M T n9.toNat))) hx hb hr (b01_nar (bZ_in _)) (fun t9 ht9 _ => ⟨rfl, ht9⟩) (fun q h => absurd h List.not_mem_nil) dX4_isSoIn_31

set_option maxHeartbeats 4000000 in
set_option maxRecDepth 100000 in
theorem c_X2_remember (l : Launch) (G : va_G) (Y : Nat → ClassId) (h3 kn : Nat) (hk : Nat → Nat) (nx sz : Int) (ix : Nat) (adk : Nat → Nat) (Kk : Kom) (h : Nat) (ad : Nat → Nat) (K : Kom) (hW : cWF K) (r : (nx = ix ∧ ix < 10) ∧ 0 ≤ sz ∧ sz ≤ 10) : Met l yX2_remember wsX2_remember ({ frames := 1, cells := 0, slots := 0, locals := 22 }) (mP G Y [.ref h3, .ref h] (paW Y h3 kn hk nx sz ++ (cmW Y (hk ix) adk Kk ++ cmW Y h ad K))) (mQ G (paW Y h3 kn hk nx sz ++ (cmW Y (hk ix) adk Kk ++ cmW Y h ad K)) none (paW Y h3 kn hk ((nx + 1) % 10) (min (sz + 1) 10) ++ (cmW Y (hk ix) adk K ++ cmW Y h ad K))) 0 0 (fun q => q ∈ List.map Prod.fst (paW Y h3 kn hk nx sz ++ (cmW Y (hk ix) adk Kk ++ cmW Y h ad K))) := by
  refine Met.ofW (cc := cX2_remember) (maxL := 2) (ret := none) (by decide) rfl ?_
  intro p e s m args below meth c s₁ B hml hv
  obtain ⟨rfl, hK, hP, hD0⟩ := hv
  have hx := B.exec
  have hb := B.bytes
  have hr := B.returns
  have hts := atoms_spec (ws := wsX2_remember) B.pre
  have hown : s.vm.findClass RX2 = some m.cls := findClass_of_methodNamed B.named
  have hlocks := B.notSynchronized
  have hFX2 : ∀ w ∈ wsX20, w ∈ wsX2_remember := by decide +kernel
  have kf11 := (hts (.fieldLink RX2 11 "ShadeVotes$Past" "known" "[LShadeVotes$Commune;") (by decide +kernel))
  have kf18 := (hts (.fieldLink RX2 18 "ShadeVotes$Past" "next" "I") (by decide +kernel))
  have kf26 := (hts (.fieldLink RX2 26 "ShadeVotes$Past" "size" "I") (by decide +kernel))
  have hD := va_D_self hD0
  have hS : va_S (fun q => q ∈ List.map Prod.fst (paW Y h3 kn hk nx sz ++ (cmW Y (hk ix) adk Kk ++ cmW Y h ad K))) s.heap s.heap [] := va_S.rf
  obtain ⟨H, hHe⟩ : ∃ H, H = s.heap := ⟨_, rfl⟩
  rw [← hHe] at hP
  replace hS : va_S (fun q => q ∈ List.map Prod.fst (paW Y h3 kn hk nx sz ++ (cmW Y (hk ix) adk Kk ++ cmW Y h ad K))) s.heap H [] := by rw [hHe]; exact hS
  have hl := lv_entry ([.ref h3, .ref h]) (n := 2) (Nat.le_of_ble_eq_true rfl)
  rw [lg_entry_eq]
  generalize (lg_sl ([.ref h3, .ref h]) ++ List.replicate (2 - (lg_sl ([.ref h3, .ref h])).length) Slot.unset).toArray = ls at hl ⊢
  replace hl : lv_has ls 2 [(0, .ref h3), (1, .ref h)] := hl
  obtain ⟨locs, hLe⟩ : ∃ locs : List Loc, locs = [] := ⟨_, rfl⟩
  rw [← hLe] at hS ⊢
  have hW0 : ∀ {Q : State → Prop} {g : JFrame}, W p l e ({ frames := 1, cells := 0, slots := 0, locals := 22 }) s m [.ref h3, .ref h].toArray below meth c H locs 0 0 Q g → W p l e ({ frames := 1, cells := 0, slots := 0, locals := 22 }) s m [.ref h3, .ref h].toArray below meth c s.heap locs 0 0 Q g := fun h => by rw [← hHe]; exact h
  refine hW0 ?_
  clear hW0 hHe hLe
  refine lv_aload_n hx hb dX2_remember_0 rfl (lv_at hl 0 rfl) ?_
  refine va_get (D := G) (ci := 2) (v := .ref kn) (C := RX2) (T := TX2) (N := 3) hx hb hts hFX2 hown hK.1 hP 0 rfl rfl 0 (by decide) kf11 (fun _ h9 => h9) rfl dX2_remember_1 ?_
  refine lv_aload_n hx hb dX2_remember_4 rfl (lv_at hl 0 rfl) ?_
  refine va_get (D := G) (ci := 2) (v := .int (iZ nx)) (C := RX2) (T := TX2) (N := 3) hx hb hts hFX2 hown hK.1 hP 0 rfl rfl 1 (by decide) kf18 (fun _ h9 => h9) rfl dX2_remember_5 ?_
  refine z_aald (hk := hk) hx hb hK.1 hP 1 3 rfl rfl ix (by omega) (by decide) dX2_remember_8 ?_
  refine lv_aload_n hx hb dX2_remember_9 rfl (lv_at hl 1 rfl) ?_
  have hP := hP.sub (ws' := [(hk ix, .inr (0, [.int (iZ (Kk 0 0)), .int (iZ (Kk 0 1)), .int (iZ (Kk 0 2)), .int (iZ (Kk 0 3)), .int (iZ (Kk 0 4)), .int (iZ (Kk 0 5)), .int (iZ (Kk 0 6)), .ref (adk 1), .ref (adk 2), .ref (adk 3), .ref (adk 4), .ref (adk 5), .ref (adk 6), .ref (adk 7)])), (adk 1, .inl (Y 0, 6, .inl (aI (Kk 1)))), (adk 2, .inl (Y 0, 6, .inl (aI (Kk 2)))), (adk 3, .inl (Y 0, 6, .inl (aI (Kk 3)))), (adk 4, .inl (Y 1, 6, .inl (aI (Kk 4)))), (adk 5, .inl (Y 1, 6, .inl (aI (Kk 5)))), (adk 6, .inl (Y 0, 7, .inl (aI (Kk 6)))), (adk 7, .inl (Y 0, 7, .inl (aI (Kk 7)))), (h, .inr (0, [.int (iZ (K 0 0)), .int (iZ (K 0 1)), .int (iZ (K 0 2)), .int (iZ (K 0 3)), .int (iZ (K 0 4)), .int (iZ (K 0 5)), .int (iZ (K 0 6)), .ref (ad 1), .ref (ad 2), .ref (ad 3), .ref (ad 4), .ref (ad 5), .ref (ad 6), .ref (ad 7)])), (ad 1, .inl (Y 0, 6, .inl (aI (K 1)))), (ad 2, .inl (Y 0, 6, .inl (aI (K 2)))), (ad 3, .inl (Y 0, 6, .inl (aI (K 3)))), (ad 4, .inl (Y 1, 6, .inl (aI (K 4)))), (ad 5, .inl (Y 1, 6, .inl (aI (K 5)))), (ad 6, .inl (Y 0, 7, .inl (aI (K 6)))), (ad 7, .inl (Y 0, 7, .inl (aI (K 7))))] ++ [(h3, .inr (2, [.ref kn, .int (iZ nx), .int (iZ sz)])), (kn, .inl (Y 3, 10, .inr (.inr (.inr (.inr (aR hk))))))]) [2, 3, 4, 5, 6, 7, 8, 9, 10, 11, 12, 13, 14, 15, 16, 17, 0, 1] rfl
  have hD := hD.sub (ws' := [(hk ix, .inr (0, [.int (iZ (Kk 0 0)), .int (iZ (Kk 0 1)), .int (iZ (Kk 0 2)), .int (iZ (Kk 0 3)), .int (iZ (Kk 0 4)), .int (iZ (Kk 0 5)), .int (iZ (Kk 0 6)), .ref (adk 1), .ref (adk 2), .ref (adk 3), .ref (adk 4), .ref (adk 5), .ref (adk 6), .ref (adk 7)])), (adk 1, .inl (Y 0, 6, .inl (aI (Kk 1)))), (adk 2, .inl (Y 0, 6, .inl (aI (Kk 2)))), (adk 3, .inl (Y 0, 6, .inl (aI (Kk 3)))), (adk 4, .inl (Y 1, 6, .inl (aI (Kk 4)))), (adk 5, .inl (Y 1, 6, .inl (aI (Kk 5)))), (adk 6, .inl (Y 0, 7, .inl (aI (Kk 6)))), (adk 7, .inl (Y 0, 7, .inl (aI (Kk 7)))), (h, .inr (0, [.int (iZ (K 0 0)), .int (iZ (K 0 1)), .int (iZ (K 0 2)), .int (iZ (K 0 3)), .int (iZ (K 0 4)), .int (iZ (K 0 5)), .int (iZ (K 0 6)), .ref (ad 1), .ref (ad 2), .ref (ad 3), .ref (ad 4), .ref (ad 5), .ref (ad 6), .ref (ad 7)])), (ad 1, .inl (Y 0, 6, .inl (aI (K 1)))), (ad 2, .inl (Y 0, 6, .inl (aI (K 2)))), (ad 3, .inl (Y 0, 6, .inl (aI (K 3)))), (ad 4, .inl (Y 1, 6, .inl (aI (K 4)))), (ad 5, .inl (Y 1, 6, .inl (aI (K 5)))), (ad 6, .inl (Y 0, 7, .inl (aI (K 6)))), (ad 7, .inl (Y 0, 7, .inl (aI (K 7))))] ++ [(h3, .inr (2, [.ref kn, .int (iZ nx), .int (iZ sz)])), (kn, .inl (Y 3, 10, .inr (.inr (.inr (.inr (aR hk))))))]) [2, 3, 4, 5, 6, 7, 8, 9, 10, 11, 12, 13, 14, 15, 16, 17, 0, 1] (by decide) rfl
  refine mu_V (As := [.ref h]) (rest := []) (wc := [(hk ix, .inr (0, [.int (iZ (Kk 0 0)), .int (iZ (Kk 0 1)), .int (iZ (Kk 0 2)), .int (iZ (Kk 0 3)), .int (iZ (Kk 0 4)), .int (iZ (Kk 0 5)), .int (iZ (Kk 0 6)), .ref (adk 1), .ref (adk 2), .ref (adk 3), .ref (adk 4), .ref (adk 5), .ref (adk 6), .ref (adk 7)])), (adk 1, .inl (Y 0, 6, .inl (aI (Kk 1)))), (adk 2, .inl (Y 0, 6, .inl (aI (Kk 2)))), (adk 3, .inl (Y 0, 6, .inl (aI (Kk 3)))), (adk 4, .inl (Y 1, 6, .inl (aI (Kk 4)))), (adk 5, .inl (Y 1, 6, .inl (aI (Kk 5)))), (adk 6, .inl (Y 0, 7, .inl (aI (Kk 6)))), (adk 7, .inl (Y 0, 7, .inl (aI (Kk 7)))), (h, .inr (0, [.int (iZ (K 0 0)), .int (iZ (K 0 1)), .int (iZ (K 0 2)), .int (iZ (K 0 3)), .int (iZ (K 0 4)), .int (iZ (K 0 5)), .int (iZ (K 0 6)), .ref (ad 1), .ref (ad 2), .ref (ad 3), .ref (ad 4), .ref (ad 5), .ref (ad 6), .ref (ad 7)])), (ad 1, .inl (Y 0, 6, .inl (aI (K 1)))), (ad 2, .inl (Y 0, 6, .inl (aI (K 2)))), (ad 3, .inl (Y 0, 6, .inl (aI (K 3)))), (ad 4, .inl (Y 1, 6, .inl (aI (K 4)))), (ad 5, .inl (Y 1, 6, .inl (aI (K 5)))), (ad 6, .inl (Y 0, 7, .inl (aI (K 6)))), (ad 7, .inl (Y 0, 7, .inl (aI (K 7))))]) (wc' := cmW Y (hk ix) adk K ++ cmW Y h ad K) (F := [(h3, .inr (2, [.ref kn, .int (iZ nx), .int (iZ sz)])), (kn, .inl (Y 3, 10, .inr (.inr (.inr (.inr (aR hk))))))]) ⟨hx, hb, hml, hown, hts⟩ (c_X0_become l G Y (hk ix) h adk ad Kk K hW) (cwV 1 hts gX2_remember_X0_become rfl rfl rfl (by decide +kernel) ⟨Nat.le_of_ble_eq_true rfl, Nat.le_of_ble_eq_true rfl⟩) hK hP hD hS 0 rfl rfl (Eq.refl [hk ix, adk 1, adk 2, adk 3, adk 4, adk 5, adk 6, adk 7, h, ad 1, ad 2, ad 3, ad 4, ad 5, ad 6, ad 7]) rfl hl.1 rfl (Nat.le_of_ble_eq_true rfl) dX2_remember_10 ⟨Nat.zero_le _, Nat.zero_le _⟩ (fun H locs hP hD hS => ?_)
  show W _ _ _ _ _ _ _ _ _ _ _ _ _ _ _ (F0 _ _ _ [])
  replace hP : va_P G vwCl [(hk ix, .inr (0, [.int (iZ (K 0 0)), .int (iZ (K 0 1)), .int (iZ (K 0 2)), .int (iZ (K 0 3)), .int (iZ (K 0 4)), .int (iZ (K 0 5)), .int (iZ (K 0 6)), .ref (adk 1), .ref (adk 2), .ref (adk 3), .ref (adk 4), .ref (adk 5), .ref (adk 6), .ref (adk 7)])), (adk 1, .inl (Y 0, 6, .inl (aI (K 1)))), (adk 2, .inl (Y 0, 6, .inl (aI (K 2)))), (adk 3, .inl (Y 0, 6, .inl (aI (K 3)))), (adk 4, .inl (Y 1, 6, .inl (aI (K 4)))), (adk 5, .inl (Y 1, 6, .inl (aI (K 5)))), (adk 6, .inl (Y 0, 7, .inl (aI (K 6)))), (adk 7, .inl (Y 0, 7, .inl (aI (K 7)))), (h, .inr (0, [.int (iZ (K 0 0)), .int (iZ (K 0 1)), .int (iZ (K 0 2)), .int (iZ (K 0 3)), .int (iZ (K 0 4)), .int (iZ (K 0 5)), .int (iZ (K 0 6)), .ref (ad 1), .ref (ad 2), .ref (ad 3), .ref (ad 4), .ref (ad 5), .ref (ad 6), .ref (ad 7)])), (ad 1, .inl (Y 0, 6, .inl (aI (K 1)))), (ad 2, .inl (Y 0, 6, .inl (aI (K 2)))), (ad 3, .inl (Y 0, 6, .inl (aI (K 3)))), (ad 4, .inl (Y 1, 6, .inl (aI (K 4)))), (ad 5, .inl (Y 1, 6, .inl (aI (K 5)))), (ad 6, .inl (Y 0, 7, .inl (aI (K 6)))), (ad 7, .inl (Y 0, 7, .inl (aI (K 7)))), (h3, .inr (2, [.ref kn, .int (iZ nx), .int (iZ sz)])), (kn, .inl (Y 3, 10, .inr (.inr (.inr (.inr (aR hk))))))] H := hP
  replace hD : va_D _ [(hk ix, .inr (0, [.int (iZ (K 0 0)), .int (iZ (K 0 1)), .int (iZ (K 0 2)), .int (iZ (K 0 3)), .int (iZ (K 0 4)), .int (iZ (K 0 5)), .int (iZ (K 0 6)), .ref (adk 1), .ref (adk 2), .ref (adk 3), .ref (adk 4), .ref (adk 5), .ref (adk 6), .ref (adk 7)])), (adk 1, .inl (Y 0, 6, .inl (aI (K 1)))), (adk 2, .inl (Y 0, 6, .inl (aI (K 2)))), (adk 3, .inl (Y 0, 6, .inl (aI (K 3)))), (adk 4, .inl (Y 1, 6, .inl (aI (K 4)))), (adk 5, .inl (Y 1, 6, .inl (aI (K 5)))), (adk 6, .inl (Y 0, 7, .inl (aI (K 6)))), (adk 7, .inl (Y 0, 7, .inl (aI (K 7)))), (h, .inr (0, [.int (iZ (K 0 0)), .int (iZ (K 0 1)), .int (iZ (K 0 2)), .int (iZ (K 0 3)), .int (iZ (K 0 4)), .int (iZ (K 0 5)), .int (iZ (K 0 6)), .ref (ad 1), .ref (ad 2), .ref (ad 3), .ref (ad 4), .ref (ad 5), .ref (ad 6), .ref (ad 7)])), (ad 1, .inl (Y 0, 6, .inl (aI (K 1)))), (ad 2, .inl (Y 0, 6, .inl (aI (K 2)))), (ad 3, .inl (Y 0, 6, .inl (aI (K 3)))), (ad 4, .inl (Y 1, 6, .inl (aI (K 4)))), (ad 5, .inl (Y 1, 6, .inl (aI (K 5)))), (ad 6, .inl (Y 0, 7, .inl (aI (K 6)))), (ad 7, .inl (Y 0, 7, .inl (aI (K 7)))), (h3, .inr (2, [.ref kn, .int (iZ nx), .int (iZ sz)])), (kn, .inl (Y 3, 10, .inr (.inr (.inr (.inr (aR hk))))))] := hD
  refine lv_aload_n hx hb dX2_remember_13 rfl (lv_at hl 0 rfl) ?_
  refine lv_aload_n hx hb dX2_remember_14 rfl (lv_at hl 0 rfl) ?_
  refine va_get (D := G) (ci := 2) (v := .int (iZ nx)) (C := RX2) (T := TX2) (N := 3) hx hb hts hFX2 hown hK.1 hP 16 rfl rfl 1 (by decide) kf18 (fun _ h9 => h9) rfl dX2_remember_15 ?_
  refine z_iconst hx hb dX2_remember_18 ?_
  refine z_iadd hx hb dX2_remember_19 ?_
  refine z_bipush hx hb dX2_remember_20 (by decide) ?_
  refine z_irem hx hb dX2_remember_22 (by omega) ?_
  refine va_put (D := G) (ci := 2) (v := .int (iZ ((nx + 1) % 10))) (ty := .int) (C := RX2) (T := TX2) (N := 3) hx hb hts hFX2 tyX2 tyX2_ok nmX2 hown hK.1 hP hD hS 16 rfl rfl 1 (by decide) kf18 (fun _ h9 => h9) rfl (by decide +kernel) rfl rfl (Nat.le_of_ble_eq_true rfl) dX2_remember_23 (fun H locs hP hD hS => ?_)
  replace hP : va_P G vwCl [(hk ix, .inr (0, [.int (iZ (K 0 0)), .int (iZ (K 0 1)), .int (iZ (K 0 2)), .int (iZ (K 0 3)), .int (iZ (K 0 4)), .int (iZ (K 0 5)), .int (iZ (K 0 6)), .ref (adk 1), .ref (adk 2), .ref (adk 3), .ref (adk 4), .ref (adk 5), .ref (adk 6), .ref (adk 7)])), (adk 1, .inl (Y 0, 6, .inl (aI (K 1)))), (adk 2, .inl (Y 0, 6, .inl (aI (K 2)))), (adk 3, .inl (Y 0, 6, .inl (aI (K 3)))), (adk 4, .inl (Y 1, 6, .inl (aI (K 4)))), (adk 5, .inl (Y 1, 6, .inl (aI (K 5)))), (adk 6, .inl (Y 0, 7, .inl (aI (K 6)))), (adk 7, .inl (Y 0, 7, .inl (aI (K 7)))), (h, .inr (0, [.int (iZ (K 0 0)), .int (iZ (K 0 1)), .int (iZ (K 0 2)), .int (iZ (K 0 3)), .int (iZ (K 0 4)), .int (iZ (K 0 5)), .int (iZ (K 0 6)), .ref (ad 1), .ref (ad 2), .ref (ad 3), .ref (ad 4), .ref (ad 5), .ref (ad 6), .ref (ad 7)])), (ad 1, .inl (Y 0, 6, .inl (aI (K 1)))), (ad 2, .inl (Y 0, 6, .inl (aI (K 2)))), (ad 3, .inl (Y 0, 6, .inl (aI (K 3)))), (ad 4, .inl (Y 1, 6, .inl (aI (K 4)))), (ad 5, .inl (Y 1, 6, .inl (aI (K 5)))), (ad 6, .inl (Y 0, 7, .inl (aI (K 6)))), (ad 7, .inl (Y 0, 7, .inl (aI (K 7)))), (h3, .inr (2, [.ref kn, .int (iZ ((nx + 1) % 10)), .int (iZ sz)])), (kn, .inl (Y 3, 10, .inr (.inr (.inr (.inr (aR hk))))))] H := hP
  replace hD : va_D _ [(hk ix, .inr (0, [.int (iZ (K 0 0)), .int (iZ (K 0 1)), .int (iZ (K 0 2)), .int (iZ (K 0 3)), .int (iZ (K 0 4)), .int (iZ (K 0 5)), .int (iZ (K 0 6)), .ref (adk 1), .ref (adk 2), .ref (adk 3), .ref (adk 4), .ref (adk 5), .ref (adk 6), .ref (adk 7)])), (adk 1, .inl (Y 0, 6, .inl (aI (K 1)))), (adk 2, .inl (Y 0, 6, .inl (aI (K 2)))), (adk 3, .inl (Y 0, 6, .inl (aI (K 3)))), (adk 4, .inl (Y 1, 6, .inl (aI (K 4)))), (adk 5, .inl (Y 1, 6, .inl (aI (K 5)))), (adk 6, .inl (Y 0, 7, .inl (aI (K 6)))), (adk 7, .inl (Y 0, 7, .inl (aI (K 7)))), (h, .inr (0, [.int (iZ (K 0 0)), .int (iZ (K 0 1)), .int (iZ (K 0 2)), .int (iZ (K 0 3)), .int (iZ (K 0 4)), .int (iZ (K 0 5)), .int (iZ (K 0 6)), .ref (ad 1), .ref (ad 2), .ref (ad 3), .ref (ad 4), .ref (ad 5), .ref (ad 6), .ref (ad 7)])), (ad 1, .inl (Y 0, 6, .inl (aI (K 1)))), (ad 2, .inl (Y 0, 6, .inl (aI (K 2)))), (ad 3, .inl (Y 0, 6, .inl (aI (K 3)))), (ad 4, .inl (Y 1, 6, .inl (aI (K 4)))), (ad 5, .inl (Y 1, 6, .inl (aI (K 5)))), (ad 6, .inl (Y 0, 7, .inl (aI (K 6)))), (ad 7, .inl (Y 0, 7, .inl (aI (K 7)))), (h3, .inr (2, [.ref kn, .int (iZ ((nx + 1) % 10)), .int (iZ sz)])), (kn, .inl (Y 3, 10, .inr (.inr (.inr (.inr (aR hk))))))] := hD
  refine lv_aload_n hx hb dX2_remember_26 rfl (lv_at hl 0 rfl) ?_
  refine lv_aload_n hx hb dX2_remember_27 rfl (lv_at hl 0 rfl) ?_
  refine va_get (D := G) (ci := 2) (v := .int (iZ sz)) (C := RX2) (T := TX2) (N := 3) hx hb hts hFX2 hown hK.1 hP 16 rfl rfl 2 (by decide) kf26 (fun _ h9 => h9) rfl dX2_remember_28 ?_
  refine z_iconst hx hb dX2_remember_31 ?_
  refine z_iadd hx hb dX2_remember_32 ?_
  refine z_bipush hx hb dX2_remember_33 (by decide) ?_
  refine z_mmin hx hb (hml.trans hl.1.symm) hown (hts (.methodLink RX2 29 Lib.Math.min.name) (by decide +kernel)) (hts (.static Lib.Math.min.name) (by decide +kernel)) (hts (.initialized "java/lang/Math") (by decide +kernel)) (hts (.code Lib.Math.min.name Lib.Math.min.code 2 (some .int)) (by decide +kernel)) (Nat.le_of_ble_eq_true rfl) (Nat.le_of_ble_eq_true rfl) (Nat.zero_le _) (Nat.zero_le _) (by omega) dX2_remember_35 ?_
  refine va_put (D := G) (ci := 2) (v := .int (iZ (min (sz + 1) 10))) (ty := .int) (C := RX2) (T := TX2) (N := 3) hx hb hts hFX2 tyX2 tyX2_ok nmX2 hown hK.1 hP hD hS 16 rfl rfl 2 (by decide) kf26 (fun _ h9 => h9) rfl (by decide +kernel) rfl rfl (Nat.le_of_ble_eq_true rfl) dX2_remember_38 (fun H locs hP hD hS => ?_)
  replace hP : va_P G vwCl [(hk ix, .inr (0, [.int (iZ (K 0 0)), .int (iZ (K 0 1)), .int (iZ (K 0 2)), .int (iZ (K 0 3)), .int (iZ (K 0 4)), .int (iZ (K 0 5)), .int (iZ (K 0 6)), .ref (adk 1), .ref (adk 2), .ref (adk 3), .ref (adk 4), .ref (adk 5), .ref (adk 6), .ref (adk 7)])), (adk 1, .inl (Y 0, 6, .inl (aI (K 1)))), (adk 2, .inl (Y 0, 6, .inl (aI (K 2)))), (adk 3, .inl (Y 0, 6, .inl (aI (K 3)))), (adk 4, .inl (Y 1, 6, .inl (aI (K 4)))), (adk 5, .inl (Y 1, 6, .inl (aI (K 5)))), (adk 6, .inl (Y 0, 7, .inl (aI (K 6)))), (adk 7, .inl (Y 0, 7, .inl (aI (K 7)))), (h, .inr (0, [.int (iZ (K 0 0)), .int (iZ (K 0 1)), .int (iZ (K 0 2)), .int (iZ (K 0 3)), .int (iZ (K 0 4)), .int (iZ (K 0 5)), .int (iZ (K 0 6)), .ref (ad 1), .ref (ad 2), .ref (ad 3), .ref (ad 4), .ref (ad 5), .ref (ad 6), .ref (ad 7)])), (ad 1, .inl (Y 0, 6, .inl (aI (K 1)))), (ad 2, .inl (Y 0, 6, .inl (aI (K 2)))), (ad 3, .inl (Y 0, 6, .inl (aI (K 3)))), (ad 4, .inl (Y 1, 6, .inl (aI (K 4)))), (ad 5, .inl (Y 1, 6, .inl (aI (K 5)))), (ad 6, .inl (Y 0, 7, .inl (aI (K 6)))), (ad 7, .inl (Y 0, 7, .inl (aI (K 7)))), (h3, .inr (2, [.ref kn, .int (iZ ((nx + 1) % 10)), .int (iZ (min (sz + 1) 10))])), (kn, .inl (Y 3, 10, .inr (.inr (.inr (.inr (aR hk))))))] H := hP
  replace hD : va_D _ [(hk ix, .inr (0, [.int (iZ (K 0 0)), .int (iZ (K 0 1)), .int (iZ (K 0 2)), .int (iZ (K 0 3)), .int (iZ (K 0 4)), .int (iZ (K 0 5)), .int (iZ (K 0 6)), .ref (adk 1), .ref (adk 2), .ref (adk 3), .ref (adk 4), .ref (adk 5), .ref (adk 6), .ref (adk 7)])), (adk 1, .inl (Y 0, 6, .inl (aI (K 1)))), (adk 2, .inl (Y 0, 6, .inl (aI (K 2)))), (adk 3, .inl (Y 0, 6, .inl (aI (K 3)))), (adk 4, .inl (Y 1, 6, .inl (aI (K 4)))), (adk 5, .inl (Y 1, 6, .inl (aI (K 5)))), (adk 6, .inl (Y 0, 7, .inl (aI (K 6)))), (adk 7, .inl (Y 0, 7, .inl (aI (K 7)))), (h, .inr (0, [.int (iZ (K 0 0)), .int (iZ (K 0 1)), .int (iZ (K 0 2)), .int (iZ (K 0 3)), .int (iZ (K 0 4)), .int (iZ (K 0 5)), .int (iZ (K 0 6)), .ref (ad 1), .ref (ad 2), .ref (ad 3), .ref (ad 4), .ref (ad 5), .ref (ad 6), .ref (ad 7)])), (ad 1, .inl (Y 0, 6, .inl (aI (K 1)))), (ad 2, .inl (Y 0, 6, .inl (aI (K 2)))), (ad 3, .inl (Y 0, 6, .inl (aI (K 3)))), (ad 4, .inl (Y 1, 6, .inl (aI (K 4)))), (ad 5, .inl (Y 1, 6, .inl (aI (K 5)))), (ad 6, .inl (Y 0, 7, .inl (aI (K 6)))), (ad 7, .inl (Y 0, 7, .inl (aI (K 7)))), (h3, .inr (2, [.ref kn, .int (iZ ((nx + 1) % 10)), .int (iZ (min (sz + 1) 10))])), (kn, .inl (Y 3, 10, .inr (.inr (.inr (.inr (aR hk))))))] := hD
  have hP9 : va_P G vwCl (paW Y h3 kn hk ((nx + 1) % 10) (min (sz + 1) 10) ++ (cmW Y (hk ix) adk K ++ cmW Y h ad K)) H := hP.sub [16, 17, 0, 1, 2, 3, 4, 5, 6, 7, 8, 9, 10, 11, 12, 13, 14, 15] rfl
  exact W.vret hx hb hr (fun t9 ht9 _ => ⟨rfl, by rw [ht9]; exact hP9, hS.F ht9⟩) hS.2.2 dX2_remember_41

set_option maxHeartbeats 4000000 in
set_option maxRecDepth 100000 in
theorem c_X2_restore (l : Launch) (G : va_G) (Y : Nat → ClassId) (h3 kn : Nat) (hk : Nat → Nat) (nx sz : Int) (ix : Nat) (adk : Nat → Nat) (Kk : Kom) (hWk : cWF Kk) (h : Nat) (ad : Nat → Nat) (K : Kom) (r : ((nx + 9) % 10 = ix ∧ 0 ≤ nx ∧ nx < 10) ∧ 0 < sz ∧ sz ≤ 10) : Met l yX2_restore wsX2_restore ({ frames := 1, cells := 0, slots := 0, locals := 22 }) (mP G Y [.ref h3, .ref h] (paW Y h3 kn hk nx sz ++ (cmW Y (hk ix) adk Kk ++ cmW Y h ad K))) (mQ G (paW Y h3 kn hk nx sz ++ (cmW Y (hk ix) adk Kk ++ cmW Y h ad K)) none (paW Y h3 kn hk ((ix : Nat) : Int) (sz - 1) ++ (cmW Y (hk ix) adk Kk ++ cmW Y h ad Kk))) 0 0 (fun q => q ∈ List.map Prod.fst (paW Y h3 kn hk nx sz ++ (cmW Y (hk ix) adk Kk ++ cmW Y h ad K))) := by
  refine Met.ofW (cc := cX2_restore) (maxL := 2) (ret := none) (by decide) rfl ?_
  intro p e s m args below meth c s₁ B hml hv
  obtain ⟨rfl, hK, hP, hD0⟩ := hv
  have hx := B.exec
  have hb := B.bytes
  have hr := B.returns
  have hts := atoms_spec (ws := wsX2_restore) B.pre
  have hown : s.vm.findClass RX2 = some m.cls := findClass_of_methodNamed B.named
  have hlocks := B.notSynchronized
  have hFX2 : ∀ w ∈ wsX20, w ∈ wsX2_restore := by decide +kernel
  have kf26 := (hts (.fieldLink RX2 26 "ShadeVotes$Past" "size" "I") (by decide +kernel))
  have kf18 := (hts (.fieldLink RX2 18 "ShadeVotes$Past" "next" "I") (by decide +kernel))
  have kf11 := (hts (.fieldLink RX2 11 "ShadeVotes$Past" "known" "[LShadeVotes$Commune;") (by decide +kernel))
  have hD := va_D_self hD0
  have hS : va_S (fun q => q ∈ List.map Prod.fst (paW Y h3 kn hk nx sz ++ (cmW Y (hk ix) adk Kk ++ cmW Y h ad K))) s.heap s.heap [] := va_S.rf
  obtain ⟨H, hHe⟩ : ∃ H, H = s.heap := ⟨_, rfl⟩
  rw [← hHe] at hP
  replace hS : va_S (fun q => q ∈ List.map Prod.fst (paW Y h3 kn hk nx sz ++ (cmW Y (hk ix) adk Kk ++ cmW Y h ad K))) s.heap H [] := by rw [hHe]; exact hS
  have hl := lv_entry ([.ref h3, .ref h]) (n := 2) (Nat.le_of_ble_eq_true rfl)
  rw [lg_entry_eq]
  generalize (lg_sl ([.ref h3, .ref h]) ++ List.replicate (2 - (lg_sl ([.ref h3, .ref h])).length) Slot.unset).toArray = ls at hl ⊢
  replace hl : lv_has ls 2 [(0, .ref h3), (1, .ref h)] := hl
  obtain ⟨locs, hLe⟩ : ∃ locs : List Loc, locs = [] := ⟨_, rfl⟩
  rw [← hLe] at hS ⊢
  have hW0 : ∀ {Q : State → Prop} {g : JFrame}, W p l e ({ frames := 1, cells := 0, slots := 0, locals := 22 }) s m [.ref h3, .ref h].toArray below meth c H locs 0 0 Q g → W p l e ({ frames := 1, cells := 0, slots := 0, locals := 22 }) s m [.ref h3, .ref h].toArray below meth c s.heap locs 0 0 Q g := fun h => by rw [← hHe]; exact h
  refine hW0 ?_
  clear hW0 hHe hLe
  refine lv_aload_n hx hb dX2_restore_0 rfl (lv_at hl 0 rfl) ?_
  refine va_get (D := G) (ci := 2) (v := .int (iZ sz)) (C := RX2) (T := TX2) (N := 3) hx hb hts hFX2 hown hK.1 hP 0 rfl rfl 2 (by decide) kf26 (fun _ h9 => h9) rfl dX2_restore_1 ?_
  refine z_if_ne (tgt := 8) hx hb dX2_restore_4 (by decide) (by omega) (fun c_1 => ?_) (fun c_1 => ?_)
  · skip
    refine lv_aload_n hx hb dX2_restore_8 rfl (lv_at hl 0 rfl) ?_
    refine lv_aload_n hx hb dX2_restore_9 rfl (lv_at hl 0 rfl) ?_
    refine va_get (D := G) (ci := 2) (v := .int (iZ nx)) (C := RX2) (T := TX2) (N := 3) hx hb hts hFX2 hown hK.1 hP 0 rfl rfl 1 (by decide) kf18 (fun _ h9 => h9) rfl dX2_restore_10 ?_
    refine z_bipush hx hb dX2_restore_13 (by decide) ?_
    refine z_iadd hx hb dX2_restore_15 ?_
    refine z_iconst hx hb dX2_restore_16 ?_
    refine z_isub hx hb dX2_restore_17 ?_
    refine z_bipush hx hb dX2_restore_18 (by decide) ?_
    refine z_irem hx hb dX2_restore_20 (by omega) ?_
    refine z_top (show (((nx + 10) - 1) % 10) = ((ix : Nat) : Int) by omega) ?_
    refine va_put (D := G) (ci := 2) (v := .int (iZ ((ix : Nat) : Int))) (ty := .int) (C := RX2) (T := TX2) (N := 3) hx hb hts hFX2 tyX2 tyX2_ok nmX2 hown hK.1 hP hD hS 0 rfl rfl 1 (by decide) kf18 (fun _ h9 => h9) rfl (by decide +kernel) rfl rfl (Nat.le_of_ble_eq_true rfl) dX2_restore_21 (fun H locs hP hD hS => ?_)
    replace hP : va_P G vwCl [(h3, .inr (2, [.ref kn, .int (iZ ((ix : Nat) : Int)), .int (iZ sz)])), (kn, .inl (Y 3, 10, .inr (.inr (.inr (.inr (aR hk)))))), (hk ix, .inr (0, [.int (iZ (Kk 0 0)), .int (iZ (Kk 0 1)), .int (iZ (Kk 0 2)), .int (iZ (Kk 0 3)), .int (iZ (Kk 0 4)), .int (iZ (Kk 0 5)), .int (iZ (Kk 0 6)), .ref (adk 1), .ref (adk 2), .ref (adk 3), .ref (adk 4), .ref (adk 5), .ref (adk 6), .ref (adk 7)])), (adk 1, .inl (Y 0, 6, .inl (aI (Kk 1)))), (adk 2, .inl (Y 0, 6, .inl (aI (Kk 2)))), (adk 3, .inl (Y 0, 6, .inl (aI (Kk 3)))), (adk 4, .inl (Y 1, 6, .inl (aI (Kk 4)))), (adk 5, .inl (Y 1, 6, .inl (aI (Kk 5)))), (adk 6, .inl (Y 0, 7, .inl (aI (Kk 6)))), (adk 7, .inl (Y 0, 7, .inl (aI (Kk 7)))), (h, .inr (0, [.int (iZ (K 0 0)), .int (iZ (K 0 1)), .int (iZ (K 0 2)), .int (iZ (K 0 3)), .int (iZ (K 0 4)), .int (iZ (K 0 5)), .int (iZ (K 0 6)), .ref (ad 1), .ref (ad 2), .ref (ad 3), .ref (ad 4), .ref (ad 5), .ref (ad 6), .ref (ad 7)])), (ad 1, .inl (Y 0, 6, .inl (aI (K 1)))), (ad 2, .inl (Y 0, 6, .inl (aI (K 2)))), (ad 3, .inl (Y 0, 6, .inl (aI (K 3)))), (ad 4, .inl (Y 1, 6, .inl (aI (K 4)))), (ad 5, .inl (Y 1, 6, .inl (aI (K 5)))), (ad 6, .inl (Y 0, 7, .inl (aI (K 6)))), (ad 7, .inl (Y 0, 7, .inl (aI (K 7))))] H := hP
    replace hD : va_D _ [(h3, .inr (2, [.ref kn, .int (iZ ((ix : Nat) : Int)), .int (iZ sz)])), (kn, .inl (Y 3, 10, .inr (.inr (.inr (.inr (aR hk)))))), (hk ix, .inr (0, [.int (iZ (Kk 0 0)), .int (iZ (Kk 0 1)), .int (iZ (Kk 0 2)), .int (iZ (Kk 0 3)), .int (iZ (Kk 0 4)), .int (iZ (Kk 0 5)), .int (iZ (Kk 0 6)), .ref (adk 1), .ref (adk 2), .ref (adk 3), .ref (adk 4), .ref (adk 5), .ref (adk 6), .ref (adk 7)])), (adk 1, .inl (Y 0, 6, .inl (aI (Kk 1)))), (adk 2, .inl (Y 0, 6, .inl (aI (Kk 2)))), (adk 3, .inl (Y 0, 6, .inl (aI (Kk 3)))), (adk 4, .inl (Y 1, 6, .inl (aI (Kk 4)))), (adk 5, .inl (Y 1, 6, .inl (aI (Kk 5)))), (adk 6, .inl (Y 0, 7, .inl (aI (Kk 6)))), (adk 7, .inl (Y 0, 7, .inl (aI (Kk 7)))), (h, .inr (0, [.int (iZ (K 0 0)), .int (iZ (K 0 1)), .int (iZ (K 0 2)), .int (iZ (K 0 3)), .int (iZ (K 0 4)), .int (iZ (K 0 5)), .int (iZ (K 0 6)), .ref (ad 1), .ref (ad 2), .ref (ad 3), .ref (ad 4), .ref (ad 5), .ref (ad 6), .ref (ad 7)])), (ad 1, .inl (Y 0, 6, .inl (aI (K 1)))), (ad 2, .inl (Y 0, 6, .inl (aI (K 2)))), (ad 3, .inl (Y 0, 6, .inl (aI (K 3)))), (ad 4, .inl (Y 1, 6, .inl (aI (K 4)))), (ad 5, .inl (Y 1, 6, .inl (aI (K 5)))), (ad 6, .inl (Y 0, 7, .inl (aI (K 6)))), (ad 7, .inl (Y 0, 7, .inl (aI (K 7))))] := hD
    refine lv_aload_n hx hb dX2_restore_24 rfl (lv_at hl 0 rfl) ?_
    refine lv_dup hx hb dX2_restore_25 rfl ?_
    refine va_get (D := G) (ci := 2) (v := .int (iZ sz)) (C := RX2) (T := TX2) (N := 3) hx hb hts hFX2 hown hK.1 hP 0 rfl rfl 2 (by decide) kf26 (fun _ h9 => h9) rfl dX2_restore_26 ?_
    refine z_iconst hx hb dX2_restore_29 ?_
    refine z_isub hx hb dX2_restore_30 ?_
    refine va_put (D := G) (ci := 2) (v := .int (iZ (sz - 1))) (ty := .int) (C := RX2) (T := TX2) (N := 3) hx hb hts hFX2 tyX2 tyX2_ok nmX2 hown hK.1 hP hD hS 0 rfl rfl 2 (by decide) kf26 (fun _ h9 => h9) rfl (by decide +kernel) rfl rfl (Nat.le_of_ble_eq_true rfl) dX2_restore_31 (fun H locs hP hD hS => ?_)
    replace hP : va_P G vwCl [(h3, .inr (2, [.ref kn, .int (iZ ((ix : Nat) : Int)), .int (iZ (sz - 1))])), (kn, .inl (Y 3, 10, .inr (.inr (.inr (.inr (aR hk)))))), (hk ix, .inr (0, [.int (iZ (Kk 0 0)), .int (iZ (Kk 0 1)), .int (iZ (Kk 0 2)), .int (iZ (Kk 0 3)), .int (iZ (Kk 0 4)), .int (iZ (Kk 0 5)), .int (iZ (Kk 0 6)), .ref (adk 1), .ref (adk 2), .ref (adk 3), .ref (adk 4), .ref (adk 5), .ref (adk 6), .ref (adk 7)])), (adk 1, .inl (Y 0, 6, .inl (aI (Kk 1)))), (adk 2, .inl (Y 0, 6, .inl (aI (Kk 2)))), (adk 3, .inl (Y 0, 6, .inl (aI (Kk 3)))), (adk 4, .inl (Y 1, 6, .inl (aI (Kk 4)))), (adk 5, .inl (Y 1, 6, .inl (aI (Kk 5)))), (adk 6, .inl (Y 0, 7, .inl (aI (Kk 6)))), (adk 7, .inl (Y 0, 7, .inl (aI (Kk 7)))), (h, .inr (0, [.int (iZ (K 0 0)), .int (iZ (K 0 1)), .int (iZ (K 0 2)), .int (iZ (K 0 3)), .int (iZ (K 0 4)), .int (iZ (K 0 5)), .int (iZ (K 0 6)), .ref (ad 1), .ref (ad 2), .ref (ad 3), .ref (ad 4), .ref (ad 5), .ref (ad 6), .ref (ad 7)])), (ad 1, .inl (Y 0, 6, .inl (aI (K 1)))), (ad 2, .inl (Y 0, 6, .inl (aI (K 2)))), (ad 3, .inl (Y 0, 6, .inl (aI (K 3)))), (ad 4, .inl (Y 1, 6, .inl (aI (K 4)))), (ad 5, .inl (Y 1, 6, .inl (aI (K 5)))), (ad 6, .inl (Y 0, 7, .inl (aI (K 6)))), (ad 7, .inl (Y 0, 7, .inl (aI (K 7))))] H := hP
    replace hD : va_D _ [(h3, .inr (2, [.ref kn, .int (iZ ((ix : Nat) : Int)), .int (iZ (sz - 1))])), (kn, .inl (Y 3, 10, .inr (.inr (.inr (.inr (aR hk)))))), (hk ix, .inr (0, [.int (iZ (Kk 0 0)), .int (iZ (Kk 0 1)), .int (iZ (Kk 0 2)), .int (iZ (Kk 0 3)), .int (iZ (Kk 0 4)), .int (iZ (Kk 0 5)), .int (iZ (Kk 0 6)), .ref (adk 1), .ref (adk 2), .ref (adk 3), .ref (adk 4), .ref (adk 5), .ref (adk 6), .ref (adk 7)])), (adk 1, .inl (Y 0, 6, .inl (aI (Kk 1)))), (adk 2, .inl (Y 0, 6, .inl (aI (Kk 2)))), (adk 3, .inl (Y 0, 6, .inl (aI (Kk 3)))), (adk 4, .inl (Y 1, 6, .inl (aI (Kk 4)))), (adk 5, .inl (Y 1, 6, .inl (aI (Kk 5)))), (adk 6, .inl (Y 0, 7, .inl (aI (Kk 6)))), (adk 7, .inl (Y 0, 7, .inl (aI (Kk 7)))), (h, .inr (0, [.int (iZ (K 0 0)), .int (iZ (K 0 1)), .int (iZ (K 0 2)), .int (iZ (K 0 3)), .int (iZ (K 0 4)), .int (iZ (K 0 5)), .int (iZ (K 0 6)), .ref (ad 1), .ref (ad 2), .ref (ad 3), .ref (ad 4), .ref (ad 5), .ref (ad 6), .ref (ad 7)])), (ad 1, .inl (Y 0, 6, .inl (aI (K 1)))), (ad 2, .inl (Y 0, 6, .inl (aI (K 2)))), (ad 3, .inl (Y 0, 6, .inl (aI (K 3)))), (ad 4, .inl (Y 1, 6, .inl (aI (K 4)))), (ad 5, .inl (Y 1, 6, .inl (aI (K 5)))), (ad 6, .inl (Y 0, 7, .inl (aI (K 6)))), (ad 7, .inl (Y 0, 7, .inl (aI (K 7))))] := hD
    refine lv_aload_n hx hb dX2_restore_34 rfl (lv_at hl 1 rfl) ?_
    refine lv_aload_n hx hb dX2_restore_35 rfl (lv_at hl 0 rfl) ?_
    refine va_get (D := G) (ci := 2) (v := .ref kn) (C := RX2) (T := TX2) (N := 3) hx hb hts hFX2 hown hK.1 hP 0 rfl rfl 0 (by decide) kf11 (fun _ h9 => h9) rfl dX2_restore_36 ?_
    refine lv_aload_n hx hb dX2_restore_39 rfl (lv_at hl 0 rfl) ?_
    refine va_get (D := G) (ci := 2) (v := .int (iZ ((ix : Nat) : Int))) (C := RX2) (T := TX2) (N := 3) hx hb hts hFX2 hown hK.1 hP 0 rfl rfl 1 (by decide) kf18 (fun _ h9 => h9) rfl dX2_restore_40 ?_
    refine z_aald (hk := hk) hx hb hK.1 hP 1 3 rfl rfl ix (by omega) (by decide) dX2_restore_43 ?_
    have hP := hP.sub (ws' := [(h, .inr (0, [.int (iZ (K 0 0)), .int (iZ (K 0 1)), .int (iZ (K 0 2)), .int (iZ (K 0 3)), .int (iZ (K 0 4)), .int (iZ (K 0 5)), .int (iZ (K 0 6)), .ref (ad 1), .ref (ad 2), .ref (ad 3), .ref (ad 4), .ref (ad 5), .ref (ad 6), .ref (ad 7)])), (ad 1, .inl (Y 0, 6, .inl (aI (K 1)))), (ad 2, .inl (Y 0, 6, .inl (aI (K 2)))), (ad 3, .inl (Y 0, 6, .inl (aI (K 3)))), (ad 4, .inl (Y 1, 6, .inl (aI (K 4)))), (ad 5, .inl (Y 1, 6, .inl (aI (K 5)))), (ad 6, .inl (Y 0, 7, .inl (aI (K 6)))), (ad 7, .inl (Y 0, 7, .inl (aI (K 7)))), (hk ix, .inr (0, [.int (iZ (Kk 0 0)), .int (iZ (Kk 0 1)), .int (iZ (Kk 0 2)), .int (iZ (Kk 0 3)), .int (iZ (Kk 0 4)), .int (iZ (Kk 0 5)), .int (iZ (Kk 0 6)), .ref (adk 1), .ref (adk 2), .ref (adk 3), .ref (adk 4), .ref (adk 5), .ref (adk 6), .ref (adk 7)])), (adk 1, .inl (Y 0, 6, .inl (aI (Kk 1)))), (adk 2, .inl (Y 0, 6, .inl (aI (Kk 2)))), (adk 3, .inl (Y 0, 6, .inl (aI (Kk 3)))), (adk 4, .inl (Y 1, 6, .inl (aI (Kk 4)))), (adk 5, .inl (Y 1, 6, .inl (aI (Kk 5)))), (adk 6, .inl (Y 0, 7, .inl (aI (Kk 6)))), (adk 7, .inl (Y 0, 7, .inl (aI (Kk 7))))] ++ [(h3, .inr (2, [.ref kn, .int (iZ ((ix : Nat) : Int)), .int (iZ (sz - 1))])), (kn, .inl (Y 3, 10, .inr (.inr (.inr (.inr (aR hk))))))]) [10, 11, 12, 13, 14, 15, 16, 17, 2, 3, 4, 5, 6, 7, 8, 9, 0, 1] rfl
    have hD := hD.sub (ws' := [(h, .inr (0, [.int (iZ (K 0 0)), .int (iZ (K 0 1)), .int (iZ (K 0 2)), .int (iZ (K 0 3)), .int (iZ (K 0 4)), .int (iZ (K 0 5)), .int (iZ (K 0 6)), .ref (ad 1), .ref (ad 2), .ref (ad 3), .ref (ad 4), .ref (ad 5), .ref (ad 6), .ref (ad 7)])), (ad 1, .inl (Y 0, 6, .inl (aI (K 1)))), (ad 2, .inl (Y 0, 6, .inl (aI (K 2)))), (ad 3, .inl (Y 0, 6, .inl (aI (K 3)))), (ad 4, .inl (Y 1, 6, .inl (aI (K 4)))), (ad 5, .inl (Y 1, 6, .inl (aI (K 5)))), (ad 6, .inl (Y 0, 7, .inl (aI (K 6)))), (ad 7, .inl (Y 0, 7, .inl (aI (K 7)))), (hk ix, .inr (0, [.int (iZ (Kk 0 0)), .int (iZ (Kk 0 1)), .int (iZ (Kk 0 2)), .int (iZ (Kk 0 3)), .int (iZ (Kk 0 4)), .int (iZ (Kk 0 5)), .int (iZ (Kk 0 6)), .ref (adk 1), .ref (adk 2), .ref (adk 3), .ref (adk 4), .ref (adk 5), .ref (adk 6), .ref (adk 7)])), (adk 1, .inl (Y 0, 6, .inl (aI (Kk 1)))), (adk 2, .inl (Y 0, 6, .inl (aI (Kk 2)))), (adk 3, .inl (Y 0, 6, .inl (aI (Kk 3)))), (adk 4, .inl (Y 1, 6, .inl (aI (Kk 4)))), (adk 5, .inl (Y 1, 6, .inl (aI (Kk 5)))), (adk 6, .inl (Y 0, 7, .inl (aI (Kk 6)))), (adk 7, .inl (Y 0, 7, .inl (aI (Kk 7))))] ++ [(h3, .inr (2, [.ref kn, .int (iZ ((ix : Nat) : Int)), .int (iZ (sz - 1))])), (kn, .inl (Y 3, 10, .inr (.inr (.inr (.inr (aR hk))))))]) [10, 11, 12, 13, 14, 15, 16, 17, 2, 3, 4, 5, 6, 7, 8, 9, 0, 1] (by decide) rfl
    refine mu_V (As := [.ref (hk ix)]) (rest := []) (wc := [(h, .inr (0, [.int (iZ (K 0 0)), .int (iZ (K 0 1)), .int (iZ (K 0 2)), .int (iZ (K 0 3)), .int (iZ (K 0 4)), .int (iZ (K 0 5)), .int (iZ (K 0 6)), .ref (ad 1), .ref (ad 2), .ref (ad 3), .ref (ad 4), .ref (ad 5), .ref (ad 6), .ref (ad 7)])), (ad 1, .inl (Y 0, 6, .inl (aI (K 1)))), (ad 2, .inl (Y 0, 6, .inl (aI (K 2)))), (ad 3, .inl (Y 0, 6, .inl (aI (K 3)))), (ad 4, .inl (Y 1, 6, .inl (aI (K 4)))), (ad 5, .inl (Y 1, 6, .inl (aI (K 5)))), (ad 6, .inl (Y 0, 7, .inl (aI (K 6)))), (ad 7, .inl (Y 0, 7, .inl (aI (K 7)))), (hk ix, .inr (0, [.int (iZ (Kk 0 0)), .int (iZ (Kk 0 1)), .int (iZ (Kk 0 2)), .int (iZ (Kk 0 3)), .int (iZ (Kk 0 4)), .int (iZ (Kk 0 5)), .int (iZ (Kk 0 6)), .ref (adk 1), .ref (adk 2), .ref (adk 3), .ref (adk 4), .ref (adk 5), .ref (adk 6), .ref (adk 7)])), (adk 1, .inl (Y 0, 6, .inl (aI (Kk 1)))), (adk 2, .inl (Y 0, 6, .inl (aI (Kk 2)))), (adk 3, .inl (Y 0, 6, .inl (aI (Kk 3)))), (adk 4, .inl (Y 1, 6, .inl (aI (Kk 4)))), (adk 5, .inl (Y 1, 6, .inl (aI (Kk 5)))), (adk 6, .inl (Y 0, 7, .inl (aI (Kk 6)))), (adk 7, .inl (Y 0, 7, .inl (aI (Kk 7))))]) (wc' := cmW Y h ad Kk ++ cmW Y (hk ix) adk Kk) (F := [(h3, .inr (2, [.ref kn, .int (iZ ((ix : Nat) : Int)), .int (iZ (sz - 1))])), (kn, .inl (Y 3, 10, .inr (.inr (.inr (.inr (aR hk))))))]) ⟨hx, hb, hml, hown, hts⟩ (c_X0_become l G Y h (hk ix) ad adk K Kk hWk) (cwV 1 hts gX2_restore_X0_become rfl rfl rfl (by decide +kernel) ⟨Nat.le_of_ble_eq_true rfl, Nat.le_of_ble_eq_true rfl⟩) hK hP hD hS 0 rfl rfl (Eq.refl [h, ad 1, ad 2, ad 3, ad 4, ad 5, ad 6, ad 7, hk ix, adk 1, adk 2, adk 3, adk 4, adk 5, adk 6, adk 7]) rfl hl.1 rfl (Nat.le_of_ble_eq_true rfl) dX2_restore_44 ⟨Nat.zero_le _, Nat.zero_le _⟩ (fun H locs hP hD hS => ?_)
    show W _ _ _ _ _ _ _ _ _ _ _ _ _ _ _ (F0 _ _ _ [])
    replace hP : va_P G vwCl [(h, .inr (0, [.int (iZ (Kk 0 0)), .int (iZ (Kk 0 1)), .int (iZ (Kk 0 2)), .int (iZ (Kk 0 3)), .int (iZ (Kk 0 4)), .int (iZ (Kk 0 5)), .int (iZ (Kk 0 6)), .ref (ad 1), .ref (ad 2), .ref (ad 3), .ref (ad 4), .ref (ad 5), .ref (ad 6), .ref (ad 7)])), (ad 1, .inl (Y 0, 6, .inl (aI (Kk 1)))), (ad 2, .inl (Y 0, 6, .inl (aI (Kk 2)))), (ad 3, .inl (Y 0, 6, .inl (aI (Kk 3)))), (ad 4, .inl (Y 1, 6, .inl (aI (Kk 4)))), (ad 5, .inl (Y 1, 6, .inl (aI (Kk 5)))), (ad 6, .inl (Y 0, 7, .inl (aI (Kk 6)))), (ad 7, .inl (Y 0, 7, .inl (aI (Kk 7)))), (hk ix, .inr (0, [.int (iZ (Kk 0 0)), .int (iZ (Kk 0 1)), .int (iZ (Kk 0 2)), .int (iZ (Kk 0 3)), .int (iZ (Kk 0 4)), .int (iZ (Kk 0 5)), .int (iZ (Kk 0 6)), .ref (adk 1), .ref (adk 2), .ref (adk 3), .ref (adk 4), .ref (adk 5), .ref (adk 6), .ref (adk 7)])), (adk 1, .inl (Y 0, 6, .inl (aI (Kk 1)))), (adk 2, .inl (Y 0, 6, .inl (aI (Kk 2)))), (adk 3, .inl (Y 0, 6, .inl (aI (Kk 3)))), (adk 4, .inl (Y 1, 6, .inl (aI (Kk 4)))), (adk 5, .inl (Y 1, 6, .inl (aI (Kk 5)))), (adk 6, .inl (Y 0, 7, .inl (aI (Kk 6)))), (adk 7, .inl (Y 0, 7, .inl (aI (Kk 7)))), (h3, .inr (2, [.ref kn, .int (iZ ((ix : Nat) : Int)), .int (iZ (sz - 1))])), (kn, .inl (Y 3, 10, .inr (.inr (.inr (.inr (aR hk))))))] H := hP
    replace hD : va_D _ [(h, .inr (0, [.int (iZ (Kk 0 0)), .int (iZ (Kk 0 1)), .int (iZ (Kk 0 2)), .int (iZ (Kk 0 3)), .int (iZ (Kk 0 4)), .int (iZ (Kk 0 5)), .int (iZ (Kk 0 6)), .ref (ad 1), .ref (ad 2), .ref (ad 3), .ref (ad 4), .ref (ad 5), .ref (ad 6), .ref (ad 7)])), (ad 1, .inl (Y 0, 6, .inl (aI (Kk 1)))), (ad 2, .inl (Y 0, 6, .inl (aI (Kk 2)))), (ad 3, .inl (Y 0, 6, .inl (aI (Kk 3)))), (ad 4, .inl (Y 1, 6, .inl (aI (Kk 4)))), (ad 5, .inl (Y 1, 6, .inl (aI (Kk 5)))), (ad 6, .inl (Y 0, 7, .inl (aI (Kk 6)))), (ad 7, .inl (Y 0, 7, .inl (aI (Kk 7)))), (hk ix, .inr (0, [.int (iZ (Kk 0 0)), .int (iZ (Kk 0 1)), .int (iZ (Kk 0 2)), .int (iZ (Kk 0 3)), .int (iZ (Kk 0 4)), .int (iZ (Kk 0 5)), .int (iZ (Kk 0 6)), .ref (adk 1), .ref (adk 2), .ref (adk 3), .ref (adk 4), .ref (adk 5), .ref (adk 6), .ref (adk 7)])), (adk 1, .inl (Y 0, 6, .inl (aI (Kk 1)))), (adk 2, .inl (Y 0, 6, .inl (aI (Kk 2)))), (adk 3, .inl (Y 0, 6, .inl (aI (Kk 3)))), (adk 4, .inl (Y 1, 6, .inl (aI (Kk 4)))), (adk 5, .inl (Y 1, 6, .inl (aI (Kk 5)))), (adk 6, .inl (Y 0, 7, .inl (aI (Kk 6)))), (adk 7, .inl (Y 0, 7, .inl (aI (Kk 7)))), (h3, .inr (2, [.ref kn, .int (iZ ((ix : Nat) : Int)), .int (iZ (sz - 1))])), (kn, .inl (Y 3, 10, .inr (.inr (.inr (.inr (aR hk))))))] := hD
    have hP9 : va_P G vwCl (paW Y h3 kn hk ((ix : Nat) : Int) (sz - 1) ++ (cmW Y (hk ix) adk Kk ++ cmW Y h ad Kk)) H := hP.sub [16, 17, 8, 9, 10, 11, 12, 13, 14, 15, 0, 1, 2, 3, 4, 5, 6, 7] rfl
    exact W.vret hx hb hr (fun t9 ht9 _ => ⟨rfl, by rw [ht9]; exact hP9, hS.F ht9⟩) hS.2.2 dX2_restore_47
  · skip
    exfalso; omega

set_option maxHeartbeats 4000000 in
set_option maxRecDepth 100000 in
theorem c_X2_lose (l : Launch) (G : va_G) (Y : Nat → ClassId) (h3 kn : Nat) (hk : Nat → Nat) (nx sz : Int) : Met l yX2_lose wsX2_lose ({ frames := 0, cells := 0, slots := 0, locals := 0 }) (mP G Y [.ref h3] (paW Y h3 kn hk nx sz)) (mQ G (paW Y h3 kn hk nx sz) none (paW Y h3 kn hk nx 0)) 0 0 (fun q => q ∈ List.map Prod.fst (paW Y h3 kn hk nx sz)) := by
  refine Met.ofW (cc := cX2_lose) (maxL := 1) (ret := none) (by decide) rfl ?_
  intro p e s m args below meth c s₁ B hml hv
  obtain ⟨rfl, hK, hP, hD0⟩ := hv
  have hx := B.exec
  have hb := B.bytes
  have hr := B.returns
  have hts := atoms_spec (ws := wsX2_lose) B.pre
  have hown : s.vm.findClass RX2 = some m.cls := findClass_of_methodNamed B.named
  have hlocks := B.notSynchronized
  have hFX2 : ∀ w ∈ wsX20, w ∈ wsX2_lose := by decide +kernel
  have kf26 := (hts (.fieldLink RX2 26 "ShadeVotes$Past" "size" "I") (by decide +kernel))
  have hD := va_D_self hD0
  have hS : va_S (fun q => q ∈ List.map Prod.fst (paW Y h3 kn hk nx sz)) s.heap s.heap [] := va_S.rf
  obtain ⟨H, hHe⟩ : ∃ H, H = s.heap := ⟨_, rfl⟩
  rw [← hHe] at hP
  replace hS : va_S (fun q => q ∈ List.map Prod.fst (paW Y h3 kn hk nx sz)) s.heap H [] := by rw [hHe]; exact hS
  have hl := lv_entry ([.ref h3]) (n := 1) (Nat.le_of_ble_eq_true rfl)
  rw [lg_entry_eq]
  generalize (lg_sl ([.ref h3]) ++ List.replicate (1 - (lg_sl ([.ref h3])).length) Slot.unset).toArray = ls at hl ⊢
  replace hl : lv_has ls 1 [(0, .ref h3)] := hl
  obtain ⟨locs, hLe⟩ : ∃ locs : List Loc, locs = [] := ⟨_, rfl⟩
  rw [← hLe] at hS ⊢
  have hW0 : ∀ {Q : State → Prop} {g : JFrame}, W p l e ({ frames := 0, cells := 0, slots := 0, locals := 0 }) s m [.ref h3].toArray below meth c H locs 0 0 Q g → W p l e ({ frames := 0, cells := 0, slots := 0, locals := 0 }) s m [.ref h3].toArray below meth c s.heap locs 0 0 Q g := fun h => by rw [← hHe]; exact h
  refine hW0 ?_
  clear hW0 hHe hLe
  refine lv_aload_n hx hb dX2_lose_0 rfl (lv_at hl 0 rfl) ?_
  refine z_iconst hx hb dX2_lose_1 ?_
  refine va_put (D := G) (ci := 2) (v := .int (iZ 0)) (ty := .int) (C := RX2) (T := TX2) (N := 3) hx hb hts hFX2 tyX2 tyX2_ok nmX2 hown hK.1 hP hD hS 0 rfl rfl 2 (by decide) kf26 (fun _ h9 => h9) rfl (by decide +kernel) rfl rfl (Nat.le_of_ble_eq_true rfl) dX2_lose_2 (fun H locs hP hD hS => ?_)
  replace hP : va_P G vwCl [(h3, .inr (2, [.ref kn, .int (iZ nx), .int (iZ 0)])), (kn, .inl (Y 3, 10, .inr (.inr (.inr (.inr (aR hk))))))] H := hP
  replace hD : va_D _ [(h3, .inr (2, [.ref kn, .int (iZ nx), .int (iZ 0)])), (kn, .inl (Y 3, 10, .inr (.inr (.inr (.inr (aR hk))))))] := hD
  have hP9 : va_P G vwCl (paW Y h3 kn hk nx 0) H := hP
  exact W.vret hx hb hr (fun t9 ht9 _ => ⟨rfl, by rw [ht9]; exact hP9, hS.F ht9⟩) hS.2.2 dX2_lose_5

set_option maxHeartbeats 4000000 in
set_option maxRecDepth 100000 in
theorem c_X1_rateTree (l : Launch) (G : va_G) (Y : Nat → ClassId) (h6 : Nat) (tr : Int64) (h : Nat) (ad : Nat → Nat) (K : Kom) (hW : cWF K) (t : Nat) (r : t < 6) : Met l yX1_rateTree wsX1_rateTree ({ frames := 0, cells := 0, slots := 0, locals := 0 }) (mP G Y [.ref h6, .ref h, .int (iZ ((t : Nat) : Int))] (kiW Y h6 tr ++ cmW Y h ad K)) (mQ G (kiW Y h6 tr ++ cmW Y h ad K) (some (.int (iZ (K 2 t)))) (kiW Y h6 (tr + 1) ++ cmW Y h ad K)) 0 0 (fun q => q ∈ List.map Prod.fst (kiW Y h6 tr ++ cmW Y h ad K)) := by
  refine Met.ofW (cc := cX1_rateTree) (maxL := 3) (ret := (some .int)) (by decide) rfl ?_
  intro p e s m args below meth c s₁ B hml hv
  obtain ⟨rfl, hK, hP, hD0⟩ := hv
  have hx := B.exec
  have hb := B.bytes
  have hr := B.returns
  have hts := atoms_spec (ws := wsX1_rateTree) B.pre
  have hown : s.vm.findClass RX1 = some m.cls := findClass_of_methodNamed B.named
  have hlocks := B.notSynchronized
  have hFX0 : ∀ w ∈ wsX00, w ∈ wsX1_rateTree := by decide +kernel
  have hFX1 : ∀ w ∈ wsX10, w ∈ wsX1_rateTree := by decide +kernel
  have kf31 := (hts (.fieldLink RX1 31 "ShadeVotes$Kinds" "traced" "J") (by decide +kernel))
  have kf35 := (hts (.fieldLink RX1 35 "ShadeVotes$Commune" "treeHeight" "[I") (by decide +kernel))
  have hD := va_D_self hD0
  have hS : va_S (fun q => q ∈ List.map Prod.fst (kiW Y h6 tr ++ cmW Y h ad K)) s.heap s.heap [] := va_S.rf
  obtain ⟨H, hHe⟩ : ∃ H, H = s.heap := ⟨_, rfl⟩
  rw [← hHe] at hP
  replace hS : va_S (fun q => q ∈ List.map Prod.fst (kiW Y h6 tr ++ cmW Y h ad K)) s.heap H [] := by rw [hHe]; exact hS
  have hl := lv_entry ([.ref h6, .ref h, .int (iZ ((t : Nat) : Int))]) (n := 3) (Nat.le_of_ble_eq_true rfl)
  rw [lg_entry_eq]
  generalize (lg_sl ([.ref h6, .ref h, .int (iZ ((t : Nat) : Int))]) ++ List.replicate (3 - (lg_sl ([.ref h6, .ref h, .int (iZ ((t : Nat) : Int))])).length) Slot.unset).toArray = ls at hl ⊢
  replace hl : lv_has ls 3 [(0, .ref h6), (1, .ref h), (2, .int (iZ ((t : Nat) : Int)))] := hl
  obtain ⟨locs, hLe⟩ : ∃ locs : List Loc, locs = [] := ⟨_, rfl⟩
  rw [← hLe] at hS ⊢
  have hW0 : ∀ {Q : State → Prop} {g : JFrame}, W p l e ({ frames := 0, cells := 0, slots := 0, locals := 0 }) s m [.ref h6, .ref h, .int (iZ ((t : Nat) : Int))].toArray below meth c H locs 0 0 Q g → W p l e ({ frames := 0, cells := 0, slots := 0, locals := 0 }) s m [.ref h6, .ref h, .int (iZ ((t : Nat) : Int))].toArray below meth c s.heap locs 0 0 Q g := fun h => by rw [← hHe]; exact h
  refine hW0 ?_
  clear hW0 hHe hLe
  refine lv_aload_n hx hb dX1_rateTree_0 rfl (lv_at hl 0 rfl) ?_
  refine lv_dup hx hb dX1_rateTree_1 rfl ?_
  refine va_get (D := G) (ci := 1) (v := .long tr) (C := RX1) (T := TX1) (N := 1) hx hb hts hFX1 hown hK.1 hP 0 rfl rfl 0 (by decide) kf31 (fun _ h9 => h9) rfl dX1_rateTree_2 ?_
  refine lv_lconst (v := 1) hx hb dX1_rateTree_5 (by decide) ?_
  refine lv_ladd hx hb dX1_rateTree_6 ?_
  refine va_put (D := G) (ci := 1) (v := .long (tr + 1)) (ty := .long) (C := RX1) (T := TX1) (N := 1) hx hb hts hFX1 tyX1 tyX1_ok nmX1 hown hK.1 hP hD hS 0 rfl rfl 0 (by decide) kf31 (fun _ h9 => h9) rfl (by decide +kernel) rfl rfl (Nat.le_of_ble_eq_true rfl) dX1_rateTree_7 (fun H locs hP hD hS => ?_)
  replace hP : va_P G vwCl [(h6, .inr (1, [.long (tr + 1)])), (h, .inr (0, [.int (iZ (K 0 0)), .int (iZ (K 0 1)), .int (iZ (K 0 2)), .int (iZ (K 0 3)), .int (iZ (K 0 4)), .int (iZ (K 0 5)), .int (iZ (K 0 6)), .ref (ad 1), .ref (ad 2), .ref (ad 3), .ref (ad 4), .ref (ad 5), .ref (ad 6), .ref (ad 7)])), (ad 1, .inl (Y 0, 6, .inl (aI (K 1)))), (ad 2, .inl (Y 0, 6, .inl (aI (K 2)))), (ad 3, .inl (Y 0, 6, .inl (aI (K 3)))), (ad 4, .inl (Y 1, 6, .inl (aI (K 4)))), (ad 5, .inl (Y 1, 6, .inl (aI (K 5)))), (ad 6, .inl (Y 0, 7, .inl (aI (K 6)))), (ad 7, .inl (Y 0, 7, .inl (aI (K 7))))] H := hP
  replace hD : va_D _ [(h6, .inr (1, [.long (tr + 1)])), (h, .inr (0, [.int (iZ (K 0 0)), .int (iZ (K 0 1)), .int (iZ (K 0 2)), .int (iZ (K 0 3)), .int (iZ (K 0 4)), .int (iZ (K 0 5)), .int (iZ (K 0 6)), .ref (ad 1), .ref (ad 2), .ref (ad 3), .ref (ad 4), .ref (ad 5), .ref (ad 6), .ref (ad 7)])), (ad 1, .inl (Y 0, 6, .inl (aI (K 1)))), (ad 2, .inl (Y 0, 6, .inl (aI (K 2)))), (ad 3, .inl (Y 0, 6, .inl (aI (K 3)))), (ad 4, .inl (Y 1, 6, .inl (aI (K 4)))), (ad 5, .inl (Y 1, 6, .inl (aI (K 5)))), (ad 6, .inl (Y 0, 7, .inl (aI (K 6)))), (ad 7, .inl (Y 0, 7, .inl (aI (K 7))))] := hD
  refine lv_aload_n hx hb dX1_rateTree_10 rfl (lv_at hl 1 rfl) ?_
  refine va_get (D := G) (ci := 0) (v := .ref (ad 2)) (C := RX0) (T := TX0) (N := 14) hx hb hts hFX0 hown hK.1 hP 1 rfl rfl 8 (by decide) kf35 (fun _ h9 => h9) rfl dX1_rateTree_11 ?_
  refine lv_iload_n hx hb dX1_rateTree_14 rfl (lv_at hl 2 rfl) ?_
  refine z_iald hx hb hK.1 hP 3 0 rfl rfl t (by omega) (by decide) dX1_rateTree_15 ?_
  have hb_1 := hW.2.1 t (by omega)
  refine z_top (show (K 2) t = (K 2 t) from ?_) ?_
  · rfl
  have hP9 : va_P G vwCl (kiW Y h6 (tr + 1) ++ cmW Y h ad K) H := hP
  exact W.iret (v := iZ (K 2 t)) hx hb hr (fun t9 ht9 _ => ⟨rfl, by rw [ht9]; exact hP9, hS.F ht9⟩) hS.2.2 dX1_rateTree_16

set_option maxHeartbeats 4000000 in
set_option maxRecDepth 100000 in
theorem c_X1_rateOak (l : Launch) (G : va_G) (Y : Nat → ClassId) (h6 : Nat) (tr : Int64) (h : Nat) (ad : Nat → Nat) (K : Kom) (hW : cWF K) (t : Nat) (r : t < 6) : Met l yX1_rateOak wsX1_rateOak ({ frames := 3, cells := 0, slots := 0, locals := 70 }) (mP G Y [.ref h6, .ref h, .int (iZ ((t : Nat) : Int))] (kiW Y h6 tr ++ cmW Y h ad K)) (mQ G (kiW Y h6 tr ++ cmW Y h ad K) (some (.int (iZ (K 2 t + wu K t)))) (kiW Y h6 (tr + kC10 + 1) ++ cmW Y h ad K)) 0 0 (fun q => q ∈ List.map Prod.fst (kiW Y h6 tr ++ cmW Y h ad K)) := by
  refine Met.ofW (cc := cX1_rateOak) (maxL := 3) (ret := (some .int)) (by decide) rfl ?_
  intro p e s m args below meth c s₁ B hml hv
  obtain ⟨rfl, hK, hP, hD0⟩ := hv
  have hx := B.exec
  have hb := B.bytes
  have hr := B.returns
  have hts := atoms_spec (ws := wsX1_rateOak) B.pre
  have hown : s.vm.findClass RX1 = some m.cls := findClass_of_methodNamed B.named
  have hlocks := B.notSynchronized
  have hFX1 : ∀ w ∈ wsX10, w ∈ wsX1_rateOak := by decide +kernel
  have kf31 := (hts (.fieldLink RX1 31 "ShadeVotes$Kinds" "traced" "J") (by decide +kernel))
  have hD := va_D_self hD0
  have hS : va_S (fun q => q ∈ List.map Prod.fst (kiW Y h6 tr ++ cmW Y h ad K)) s.heap s.heap [] := va_S.rf
  obtain ⟨H, hHe⟩ : ∃ H, H = s.heap := ⟨_, rfl⟩
  rw [← hHe] at hP
  replace hS : va_S (fun q => q ∈ List.map Prod.fst (kiW Y h6 tr ++ cmW Y h ad K)) s.heap H [] := by rw [hHe]; exact hS
  have hl := lv_entry ([.ref h6, .ref h, .int (iZ ((t : Nat) : Int))]) (n := 3) (Nat.le_of_ble_eq_true rfl)
  rw [lg_entry_eq]
  generalize (lg_sl ([.ref h6, .ref h, .int (iZ ((t : Nat) : Int))]) ++ List.replicate (3 - (lg_sl ([.ref h6, .ref h, .int (iZ ((t : Nat) : Int))])).length) Slot.unset).toArray = ls at hl ⊢
  replace hl : lv_has ls 3 [(0, .ref h6), (1, .ref h), (2, .int (iZ ((t : Nat) : Int)))] := hl
  obtain ⟨locs, hLe⟩ : ∃ locs : List Loc, locs = [] := ⟨_, rfl⟩
  rw [← hLe] at hS ⊢
  have hW0 : ∀ {Q : State → Prop} {g : JFrame}, W p l e ({ frames := 3, cells := 0, slots := 0, locals := 70 }) s m [.ref h6, .ref h, .int (iZ ((t : Nat) : Int))].toArray below meth c H locs 0 0 Q g → W p l e ({ frames := 3, cells := 0, slots := 0, locals := 70 }) s m [.ref h6, .ref h, .int (iZ ((t : Nat) : Int))].toArray below meth c s.heap locs 0 0 Q g := fun h => by rw [← hHe]; exact h
  refine hW0 ?_
  clear hW0 hHe hLe
  refine lv_aload_n hx hb dX1_rateOak_0 rfl (lv_at hl 0 rfl) ?_
  refine lv_dup hx hb dX1_rateOak_1 rfl ?_
  refine va_get (D := G) (ci := 1) (v := .long tr) (C := RX1) (T := TX1) (N := 1) hx hb hts hFX1 hown hK.1 hP 0 rfl rfl 0 (by decide) kf31 (fun _ h9 => h9) rfl dX1_rateOak_2 ?_
  refine lv_ldc2 (v := 10) hx hb hown (hts (.constantLong RX1 41 (10)) (by decide +kernel)) dX1_rateOak_5 ?_
  refine lv_topl (fun kl1 ekl1 => ?_)
  refine lv_ladd hx hb dX1_rateOak_8 ?_
  refine va_put (D := G) (ci := 1) (v := .long (tr + kl1)) (ty := .long) (C := RX1) (T := TX1) (N := 1) hx hb hts hFX1 tyX1 tyX1_ok nmX1 hown hK.1 hP hD hS 0 rfl rfl 0 (by decide) kf31 (fun _ h9 => h9) rfl (by decide +kernel) rfl rfl (Nat.le_of_ble_eq_true rfl) dX1_rateOak_9 (fun H locs hP hD hS => ?_)
  replace hP : va_P G vwCl [(h6, .inr (1, [.long (tr + kl1)])), (h, .inr (0, [.int (iZ (K 0 0)), .int (iZ (K 0 1)), .int (iZ (K 0 2)), .int (iZ (K 0 3)), .int (iZ (K 0 4)), .int (iZ (K 0 5)), .int (iZ (K 0 6)), .ref (ad 1), .ref (ad 2), .ref (ad 3), .ref (ad 4), .ref (ad 5), .ref (ad 6), .ref (ad 7)])), (ad 1, .inl (Y 0, 6, .inl (aI (K 1)))), (ad 2, .inl (Y 0, 6, .inl (aI (K 2)))), (ad 3, .inl (Y 0, 6, .inl (aI (K 3)))), (ad 4, .inl (Y 1, 6, .inl (aI (K 4)))), (ad 5, .inl (Y 1, 6, .inl (aI (K 5)))), (ad 6, .inl (Y 0, 7, .inl (aI (K 6)))), (ad 7, .inl (Y 0, 7, .inl (aI (K 7))))] H := hP
  replace hD : va_D _ [(h6, .inr (1, [.long (tr + kl1)])), (h, .inr (0, [.int (iZ (K 0 0)), .int (iZ (K 0 1)), .int (iZ (K 0 2)), .int (iZ (K 0 3)), .int (iZ (K 0 4)), .int (iZ (K 0 5)), .int (iZ (K 0 6)), .ref (ad 1), .ref (ad 2), .ref (ad 3), .ref (ad 4), .ref (ad 5), .ref (ad 6), .ref (ad 7)])), (ad 1, .inl (Y 0, 6, .inl (aI (K 1)))), (ad 2, .inl (Y 0, 6, .inl (aI (K 2)))), (ad 3, .inl (Y 0, 6, .inl (aI (K 3)))), (ad 4, .inl (Y 1, 6, .inl (aI (K 4)))), (ad 5, .inl (Y 1, 6, .inl (aI (K 5)))), (ad 6, .inl (Y 0, 7, .inl (aI (K 6)))), (ad 7, .inl (Y 0, 7, .inl (aI (K 7))))] := hD
  refine lv_aload_n hx hb dX1_rateOak_12 rfl (lv_at hl 0 rfl) ?_
  refine lv_aload_n hx hb dX1_rateOak_13 rfl (lv_at hl 1 rfl) ?_
  refine lv_iload_n hx hb dX1_rateOak_14 rfl (lv_at hl 2 rfl) ?_
  have hP := hP.sub (ws' := [(h6, .inr (1, [.long (tr + kl1)])), (h, .inr (0, [.int (iZ (K 0 0)), .int (iZ (K 0 1)), .int (iZ (K 0 2)), .int (iZ (K 0 3)), .int (iZ (K 0 4)), .int (iZ (K 0 5)), .int (iZ (K 0 6)), .ref (ad 1), .ref (ad 2), .ref (ad 3), .ref (ad 4), .ref (ad 5), .ref (ad 6), .ref (ad 7)])), (ad 1, .inl (Y 0, 6, .inl (aI (K 1)))), (ad 2, .inl (Y 0, 6, .inl (aI (K 2)))), (ad 3, .inl (Y 0, 6, .inl (aI (K 3)))), (ad 4, .inl (Y 1, 6, .inl (aI (K 4)))), (ad 5, .inl (Y 1, 6, .inl (aI (K 5)))), (ad 6, .inl (Y 0, 7, .inl (aI (K 6)))), (ad 7, .inl (Y 0, 7, .inl (aI (K 7))))] ++ []) [0, 1, 2, 3, 4, 5, 6, 7, 8] rfl
  have hD := hD.sub (ws' := [(h6, .inr (1, [.long (tr + kl1)])), (h, .inr (0, [.int (iZ (K 0 0)), .int (iZ (K 0 1)), .int (iZ (K 0 2)), .int (iZ (K 0 3)), .int (iZ (K 0 4)), .int (iZ (K 0 5)), .int (iZ (K 0 6)), .ref (ad 1), .ref (ad 2), .ref (ad 3), .ref (ad 4), .ref (ad 5), .ref (ad 6), .ref (ad 7)])), (ad 1, .inl (Y 0, 6, .inl (aI (K 1)))), (ad 2, .inl (Y 0, 6, .inl (aI (K 2)))), (ad 3, .inl (Y 0, 6, .inl (aI (K 3)))), (ad 4, .inl (Y 1, 6, .inl (aI (K 4)))), (ad 5, .inl (Y 1, 6, .inl (aI (K 5)))), (ad 6, .inl (Y 0, 7, .inl (aI (K 6)))), (ad 7, .inl (Y 0, 7, .inl (aI (K 7))))] ++ []) [0, 1, 2, 3, 4, 5, 6, 7, 8] (by decide) rfl
  refine mu_V (As := [.ref h, .int (iZ ((t : Nat) : Int))]) (rest := []) (wc := [(h6, .inr (1, [.long (tr + kl1)])), (h, .inr (0, [.int (iZ (K 0 0)), .int (iZ (K 0 1)), .int (iZ (K 0 2)), .int (iZ (K 0 3)), .int (iZ (K 0 4)), .int (iZ (K 0 5)), .int (iZ (K 0 6)), .ref (ad 1), .ref (ad 2), .ref (ad 3), .ref (ad 4), .ref (ad 5), .ref (ad 6), .ref (ad 7)])), (ad 1, .inl (Y 0, 6, .inl (aI (K 1)))), (ad 2, .inl (Y 0, 6, .inl (aI (K 2)))), (ad 3, .inl (Y 0, 6, .inl (aI (K 3)))), (ad 4, .inl (Y 1, 6, .inl (aI (K 4)))), (ad 5, .inl (Y 1, 6, .inl (aI (K 5)))), (ad 6, .inl (Y 0, 7, .inl (aI (K 6)))), (ad 7, .inl (Y 0, 7, .inl (aI (K 7))))]) (wc' := kiW Y h6 ((tr + kl1) + 1) ++ cmW Y h ad K) (F := []) ⟨hx, hb, hml, hown, hts⟩ (c_X1_rateTree l G Y h6 (tr + kl1) h ad K hW t (by omega)) (cwV 2 hts gX1_rateOak_X1_rateTree rfl rfl rfl (by decide +kernel) ⟨Nat.le_of_ble_eq_true rfl, Nat.le_of_ble_eq_true rfl⟩) hK hP hD hS 0 rfl rfl (Eq.refl [h6, h, ad 1, ad 2, ad 3, ad 4, ad 5, ad 6, ad 7]) rfl hl.1 rfl (Nat.le_of_ble_eq_true rfl) dX1_rateOak_15 ⟨Nat.zero_le _, Nat.zero_le _⟩ (fun H locs hP hD hS => ?_)
  show W _ _ _ _ _ _ _ _ _ _ _ _ _ _ _ (F0 _ _ _ [.int (iZ (K 2 t))])
  replace hP : va_P G vwCl [(h6, .inr (1, [.long ((tr + kl1) + 1)])), (h, .inr (0, [.int (iZ (K 0 0)), .int (iZ (K 0 1)), .int (iZ (K 0 2)), .int (iZ (K 0 3)), .int (iZ (K 0 4)), .int (iZ (K 0 5)), .int (iZ (K 0 6)), .ref (ad 1), .ref (ad 2), .ref (ad 3), .ref (ad 4), .ref (ad 5), .ref (ad 6), .ref (ad 7)])), (ad 1, .inl (Y 0, 6, .inl (aI (K 1)))), (ad 2, .inl (Y 0, 6, .inl (aI (K 2)))), (ad 3, .inl (Y 0, 6, .inl (aI (K 3)))), (ad 4, .inl (Y 1, 6, .inl (aI (K 4)))), (ad 5, .inl (Y 1, 6, .inl (aI (K 5)))), (ad 6, .inl (Y 0, 7, .inl (aI (K 6)))), (ad 7, .inl (Y 0, 7, .inl (aI (K 7))))] H := hP
  replace hD : va_D _ [(h6, .inr (1, [.long ((tr + kl1) + 1)])), (h, .inr (0, [.int (iZ (K 0 0)), .int (iZ (K 0 1)), .int (iZ (K 0 2)), .int (iZ (K 0 3)), .int (iZ (K 0 4)), .int (iZ (K 0 5)), .int (iZ (K 0 6)), .ref (ad 1), .ref (ad 2), .ref (ad 3), .ref (ad 4), .ref (ad 5), .ref (ad 6), .ref (ad 7)])), (ad 1, .inl (Y 0, 6, .inl (aI (K 1)))), (ad 2, .inl (Y 0, 6, .inl (aI (K 2)))), (ad 3, .inl (Y 0, 6, .inl (aI (K 3)))), (ad 4, .inl (Y 1, 6, .inl (aI (K 4)))), (ad 5, .inl (Y 1, 6, .inl (aI (K 5)))), (ad 6, .inl (Y 0, 7, .inl (aI (K 6)))), (ad 7, .inl (Y 0, 7, .inl (aI (K 7))))] := hD
  have hb_2 := hW.2.1 t (by omega)
  have hb_3 := wu_in hW ((t : Nat) : Int)
  refine lv_aload_n hx hb dX1_rateOak_18 rfl (lv_at hl 1 rfl) ?_
  refine lv_iload_n hx hb dX1_rateOak_19 rfl (lv_at hl 2 rfl) ?_
  refine ro_V (As := [.int (iZ ((t : Nat) : Int))]) (rest := [.int (iZ (K 2 t))]) ⟨hx, hb, hml, hown, hts⟩ (c_X0_weightUnder l G Y h ad K hW ((t : Nat) : Int) (by omega)) (cwV 1 hts gX1_rateOak_X0_weightUnder rfl rfl rfl (by decide +kernel) ⟨Nat.le_of_ble_eq_true rfl, Nat.le_of_ble_eq_true rfl⟩) hK (hP.sub (ws' := cmW Y h ad K) [1, 2, 3, 4, 5, 6, 7, 8] rfl) 0 rfl rfl rfl hl.1 rfl (Nat.le_of_ble_eq_true rfl) dX1_rateOak_20 ⟨Nat.zero_le _, Nat.zero_le _⟩ ?_
  have hb_4 := wu_in hW ((t : Nat) : Int)
  refine z_iadd hx hb dX1_rateOak_23 ?_
  refine z_top (show ((K 2 t) + wu K ((t : Nat) : Int)) = (K 2 t + wu K t) from ?_) ?_
  · rfl
  replace ekl1 : kl1 = kC10 := ekl1
  subst ekl1
  have hP9 : va_P G vwCl (kiW Y h6 (tr + kC10 + 1) ++ cmW Y h ad K) H := hP
  exact W.iret (v := iZ (K 2 t + wu K t)) hx hb hr (fun t9 ht9 _ => ⟨rfl, by rw [ht9]; exact hP9, hS.F ht9⟩) hS.2.2 dX1_rateOak_24

set_option maxHeartbeats 4000000 in
set_option maxRecDepth 100000 in
theorem c_X1_ratePoplar (l : Launch) (G : va_G) (Y : Nat → ClassId) (h6 : Nat) (tr : Int64) (h : Nat) (ad : Nat → Nat) (K : Kom) (hW : cWF K) (t : Nat) (r : t < 6) : Met l yX1_ratePoplar wsX1_ratePoplar ({ frames := 1, cells := 0, slots := 0, locals := 22 }) (mP G Y [.ref h6, .ref h, .int (iZ ((t : Nat) : Int))] (kiW Y h6 tr ++ cmW Y h ad K)) (mQ G (kiW Y h6 tr ++ cmW Y h ad K) (some (.int (iZ (K 2 t - K 1 t)))) (kiW Y h6 (tr + kC100 + 1) ++ cmW Y h ad K)) 0 0 (fun q => q ∈ List.map Prod.fst (kiW Y h6 tr ++ cmW Y h ad K)) := by
  refine Met.ofW (cc := cX1_ratePoplar) (maxL := 3) (ret := (some .int)) (by decide) rfl ?_
  intro p e s m args below meth c s₁ B hml hv
  obtain ⟨rfl, hK, hP, hD0⟩ := hv
  have hx := B.exec
  have hb := B.bytes
  have hr := B.returns
  have hts := atoms_spec (ws := wsX1_ratePoplar) B.pre
  have hown : s.vm.findClass RX1 = some m.cls := findClass_of_methodNamed B.named
  have hlocks := B.notSynchronized
  have hFX0 : ∀ w ∈ wsX00, w ∈ wsX1_ratePoplar := by decide +kernel
  have hFX1 : ∀ w ∈ wsX10, w ∈ wsX1_ratePoplar := by decide +kernel
  have kf31 := (hts (.fieldLink RX1 31 "ShadeVotes$Kinds" "traced" "J") (by decide +kernel))
  have kf49 := (hts (.fieldLink RX1 49 "ShadeVotes$Commune" "treeCell" "[I") (by decide +kernel))
  have hD := va_D_self hD0
  have hS : va_S (fun q => q ∈ List.map Prod.fst (kiW Y h6 tr ++ cmW Y h ad K)) s.heap s.heap [] := va_S.rf
  obtain ⟨H, hHe⟩ : ∃ H, H = s.heap := ⟨_, rfl⟩
  rw [← hHe] at hP
  replace hS : va_S (fun q => q ∈ List.map Prod.fst (kiW Y h6 tr ++ cmW Y h ad K)) s.heap H [] := by rw [hHe]; exact hS
  have hl := lv_entry ([.ref h6, .ref h, .int (iZ ((t : Nat) : Int))]) (n := 3) (Nat.le_of_ble_eq_true rfl)
  rw [lg_entry_eq]
  generalize (lg_sl ([.ref h6, .ref h, .int (iZ ((t : Nat) : Int))]) ++ List.replicate (3 - (lg_sl ([.ref h6, .ref h, .int (iZ ((t : Nat) : Int))])).length) Slot.unset).toArray = ls at hl ⊢
  replace hl : lv_has ls 3 [(0, .ref h6), (1, .ref h), (2, .int (iZ ((t : Nat) : Int)))] := hl
  obtain ⟨locs, hLe⟩ : ∃ locs : List Loc, locs = [] := ⟨_, rfl⟩
  rw [← hLe] at hS ⊢
  have hW0 : ∀ {Q : State → Prop} {g : JFrame}, W p l e ({ frames := 1, cells := 0, slots := 0, locals := 22 }) s m [.ref h6, .ref h, .int (iZ ((t : Nat) : Int))].toArray below meth c H locs 0 0 Q g → W p l e ({ frames := 1, cells := 0, slots := 0, locals := 22 }) s m [.ref h6, .ref h, .int (iZ ((t : Nat) : Int))].toArray below meth c s.heap locs 0 0 Q g := fun h => by rw [← hHe]; exact h
  refine hW0 ?_
  clear hW0 hHe hLe
  refine lv_aload_n hx hb dX1_ratePoplar_0 rfl (lv_at hl 0 rfl) ?_
  refine lv_dup hx hb dX1_ratePoplar_1 rfl ?_
  refine va_get (D := G) (ci := 1) (v := .long tr) (C := RX1) (T := TX1) (N := 1) hx hb hts hFX1 hown hK.1 hP 0 rfl rfl 0 (by decide) kf31 (fun _ h9 => h9) rfl dX1_ratePoplar_2 ?_
  refine lv_ldc2 (v := 100) hx hb hown (hts (.constantLong RX1 47 (100)) (by decide +kernel)) dX1_ratePoplar_5 ?_
  refine lv_topl (fun kl1 ekl1 => ?_)
  refine lv_ladd hx hb dX1_ratePoplar_8 ?_
  refine va_put (D := G) (ci := 1) (v := .long (tr + kl1)) (ty := .long) (C := RX1) (T := TX1) (N := 1) hx hb hts hFX1 tyX1 tyX1_ok nmX1 hown hK.1 hP hD hS 0 rfl rfl 0 (by decide) kf31 (fun _ h9 => h9) rfl (by decide +kernel) rfl rfl (Nat.le_of_ble_eq_true rfl) dX1_ratePoplar_9 (fun H locs hP hD hS => ?_)
  replace hP : va_P G vwCl [(h6, .inr (1, [.long (tr + kl1)])), (h, .inr (0, [.int (iZ (K 0 0)), .int (iZ (K 0 1)), .int (iZ (K 0 2)), .int (iZ (K 0 3)), .int (iZ (K 0 4)), .int (iZ (K 0 5)), .int (iZ (K 0 6)), .ref (ad 1), .ref (ad 2), .ref (ad 3), .ref (ad 4), .ref (ad 5), .ref (ad 6), .ref (ad 7)])), (ad 1, .inl (Y 0, 6, .inl (aI (K 1)))), (ad 2, .inl (Y 0, 6, .inl (aI (K 2)))), (ad 3, .inl (Y 0, 6, .inl (aI (K 3)))), (ad 4, .inl (Y 1, 6, .inl (aI (K 4)))), (ad 5, .inl (Y 1, 6, .inl (aI (K 5)))), (ad 6, .inl (Y 0, 7, .inl (aI (K 6)))), (ad 7, .inl (Y 0, 7, .inl (aI (K 7))))] H := hP
  replace hD : va_D _ [(h6, .inr (1, [.long (tr + kl1)])), (h, .inr (0, [.int (iZ (K 0 0)), .int (iZ (K 0 1)), .int (iZ (K 0 2)), .int (iZ (K 0 3)), .int (iZ (K 0 4)), .int (iZ (K 0 5)), .int (iZ (K 0 6)), .ref (ad 1), .ref (ad 2), .ref (ad 3), .ref (ad 4), .ref (ad 5), .ref (ad 6), .ref (ad 7)])), (ad 1, .inl (Y 0, 6, .inl (aI (K 1)))), (ad 2, .inl (Y 0, 6, .inl (aI (K 2)))), (ad 3, .inl (Y 0, 6, .inl (aI (K 3)))), (ad 4, .inl (Y 1, 6, .inl (aI (K 4)))), (ad 5, .inl (Y 1, 6, .inl (aI (K 5)))), (ad 6, .inl (Y 0, 7, .inl (aI (K 6)))), (ad 7, .inl (Y 0, 7, .inl (aI (K 7))))] := hD
  refine lv_aload_n hx hb dX1_ratePoplar_12 rfl (lv_at hl 0 rfl) ?_
  refine lv_aload_n hx hb dX1_ratePoplar_13 rfl (lv_at hl 1 rfl) ?_
  refine lv_iload_n hx hb dX1_ratePoplar_14 rfl (lv_at hl 2 rfl) ?_
  have hP := hP.sub (ws' := [(h6, .inr (1, [.long (tr + kl1)])), (h, .inr (0, [.int (iZ (K 0 0)), .int (iZ (K 0 1)), .int (iZ (K 0 2)), .int (iZ (K 0 3)), .int (iZ (K 0 4)), .int (iZ (K 0 5)), .int (iZ (K 0 6)), .ref (ad 1), .ref (ad 2), .ref (ad 3), .ref (ad 4), .ref (ad 5), .ref (ad 6), .ref (ad 7)])), (ad 1, .inl (Y 0, 6, .inl (aI (K 1)))), (ad 2, .inl (Y 0, 6, .inl (aI (K 2)))), (ad 3, .inl (Y 0, 6, .inl (aI (K 3)))), (ad 4, .inl (Y 1, 6, .inl (aI (K 4)))), (ad 5, .inl (Y 1, 6, .inl (aI (K 5)))), (ad 6, .inl (Y 0, 7, .inl (aI (K 6)))), (ad 7, .inl (Y 0, 7, .inl (aI (K 7))))] ++ []) [0, 1, 2, 3, 4, 5, 6, 7, 8] rfl
  have hD := hD.sub (ws' := [(h6, .inr (1, [.long (tr + kl1)])), (h, .inr (0, [.int (iZ (K 0 0)), .int (iZ (K 0 1)), .int (iZ (K 0 2)), .int (iZ (K 0 3)), .int (iZ (K 0 4)), .int (iZ (K 0 5)), .int (iZ (K 0 6)), .ref (ad 1), .ref (ad 2), .ref (ad 3), .ref (ad 4), .ref (ad 5), .ref (ad 6), .ref (ad 7)])), (ad 1, .inl (Y 0, 6, .inl (aI (K 1)))), (ad 2, .inl (Y 0, 6, .inl (aI (K 2)))), (ad 3, .inl (Y 0, 6, .inl (aI (K 3)))), (ad 4, .inl (Y 1, 6, .inl (aI (K 4)))), (ad 5, .inl (Y 1, 6, .inl (aI (K 5)))), (ad 6, .inl (Y 0, 7, .inl (aI (K 6)))), (ad 7, .inl (Y 0, 7, .inl (aI (K 7))))] ++ []) [0, 1, 2, 3, 4, 5, 6, 7, 8] (by decide) rfl
  refine mu_V (As := [.ref h, .int (iZ ((t : Nat) : Int))]) (rest := []) (wc := [(h6, .inr (1, [.long (tr + kl1)])), (h, .inr (0, [.int (iZ (K 0 0)), .int (iZ (K 0 1)), .int (iZ (K 0 2)), .int (iZ (K 0 3)), .int (iZ (K 0 4)), .int (iZ (K 0 5)), .int (iZ (K 0 6)), .ref (ad 1), .ref (ad 2), .ref (ad 3), .ref (ad 4), .ref (ad 5), .ref (ad 6), .ref (ad 7)])), (ad 1, .inl (Y 0, 6, .inl (aI (K 1)))), (ad 2, .inl (Y 0, 6, .inl (aI (K 2)))), (ad 3, .inl (Y 0, 6, .inl (aI (K 3)))), (ad 4, .inl (Y 1, 6, .inl (aI (K 4)))), (ad 5, .inl (Y 1, 6, .inl (aI (K 5)))), (ad 6, .inl (Y 0, 7, .inl (aI (K 6)))), (ad 7, .inl (Y 0, 7, .inl (aI (K 7))))]) (wc' := kiW Y h6 ((tr + kl1) + 1) ++ cmW Y h ad K) (F := []) ⟨hx, hb, hml, hown, hts⟩ (c_X1_rateTree l G Y h6 (tr + kl1) h ad K hW t (by omega)) (cwV 2 hts gX1_ratePoplar_X1_rateTree rfl rfl rfl (by decide +kernel) ⟨Nat.le_of_ble_eq_true rfl, Nat.le_of_ble_eq_true rfl⟩) hK hP hD hS 0 rfl rfl (Eq.refl [h6, h, ad 1, ad 2, ad 3, ad 4, ad 5, ad 6, ad 7]) rfl hl.1 rfl (Nat.le_of_ble_eq_true rfl) dX1_ratePoplar_15 ⟨Nat.zero_le _, Nat.zero_le _⟩ (fun H locs hP hD hS => ?_)
  show W _ _ _ _ _ _ _ _ _ _ _ _ _ _ _ (F0 _ _ _ [.int (iZ (K 2 t))])
  replace hP : va_P G vwCl [(h6, .inr (1, [.long ((tr + kl1) + 1)])), (h, .inr (0, [.int (iZ (K 0 0)), .int (iZ (K 0 1)), .int (iZ (K 0 2)), .int (iZ (K 0 3)), .int (iZ (K 0 4)), .int (iZ (K 0 5)), .int (iZ (K 0 6)), .ref (ad 1), .ref (ad 2), .ref (ad 3), .ref (ad 4), .ref (ad 5), .ref (ad 6), .ref (ad 7)])), (ad 1, .inl (Y 0, 6, .inl (aI (K 1)))), (ad 2, .inl (Y 0, 6, .inl (aI (K 2)))), (ad 3, .inl (Y 0, 6, .inl (aI (K 3)))), (ad 4, .inl (Y 1, 6, .inl (aI (K 4)))), (ad 5, .inl (Y 1, 6, .inl (aI (K 5)))), (ad 6, .inl (Y 0, 7, .inl (aI (K 6)))), (ad 7, .inl (Y 0, 7, .inl (aI (K 7))))] H := hP
  replace hD : va_D _ [(h6, .inr (1, [.long ((tr + kl1) + 1)])), (h, .inr (0, [.int (iZ (K 0 0)), .int (iZ (K 0 1)), .int (iZ (K 0 2)), .int (iZ (K 0 3)), .int (iZ (K 0 4)), .int (iZ (K 0 5)), .int (iZ (K 0 6)), .ref (ad 1), .ref (ad 2), .ref (ad 3), .ref (ad 4), .ref (ad 5), .ref (ad 6), .ref (ad 7)])), (ad 1, .inl (Y 0, 6, .inl (aI (K 1)))), (ad 2, .inl (Y 0, 6, .inl (aI (K 2)))), (ad 3, .inl (Y 0, 6, .inl (aI (K 3)))), (ad 4, .inl (Y 1, 6, .inl (aI (K 4)))), (ad 5, .inl (Y 1, 6, .inl (aI (K 5)))), (ad 6, .inl (Y 0, 7, .inl (aI (K 6)))), (ad 7, .inl (Y 0, 7, .inl (aI (K 7))))] := hD
  have hb_2 := hW.2.1 t (by omega)
  have hb_3 := wu_in hW ((t : Nat) : Int)
  refine lv_aload_n hx hb dX1_ratePoplar_18 rfl (lv_at hl 1 rfl) ?_
  refine va_get (D := G) (ci := 0) (v := .ref (ad 1)) (C := RX0) (T := TX0) (N := 14) hx hb hts hFX0 hown hK.1 hP 1 rfl rfl 7 (by decide) kf49 (fun _ h9 => h9) rfl dX1_ratePoplar_19 ?_
  refine lv_iload_n hx hb dX1_ratePoplar_22 rfl (lv_at hl 2 rfl) ?_
  refine z_iald hx hb hK.1 hP 2 0 rfl rfl t (by omega) (by decide) dX1_ratePoplar_23 ?_
  have hb_4 := hW.2.1 t (by omega)
  refine z_isub hx hb dX1_ratePoplar_24 ?_
  refine z_top (show ((K 2 t) - (K 1) t) = (K 2 t - K 1 t) from ?_) ?_
  · rfl
  replace ekl1 : kl1 = kC100 := ekl1
  subst ekl1
  have hP9 : va_P G vwCl (kiW Y h6 (tr + kC100 + 1) ++ cmW Y h ad K) H := hP
  exact W.iret (v := iZ (K 2 t - K 1 t)) hx hb hr (fun t9 ht9 _ => ⟨rfl, by rw [ht9]; exact hP9, hS.F ht9⟩) hS.2.2 dX1_ratePoplar_25

set_option maxHeartbeats 4000000 in
set_option maxRecDepth 100000 in
theorem c_X1_rateElder (l : Launch) (G : va_G) (Y : Nat → ClassId) (h6 : Nat) (tr : Int64) (h : Nat) (ad : Nat → Nat) (K : Kom) (hW : cWF K) (t : Nat) (r : t < 6) : Met l yX1_rateElder wsX1_rateElder ({ frames := 4, cells := 0, slots := 0, locals := 92 }) (mP G Y [.ref h6, .ref h, .int (iZ ((t : Nat) : Int))] (kiW Y h6 tr ++ cmW Y h ad K)) (mQ G (kiW Y h6 tr ++ cmW Y h ad K) (some (.int (iZ (2 * (K 2 t + wu K t))))) (kiW Y h6 (tr + kC1000 + kC10 + 1) ++ cmW Y h ad K)) 0 0 (fun q => q ∈ List.map Prod.fst (kiW Y h6 tr ++ cmW Y h ad K)) := by
  refine Met.ofW (cc := cX1_rateElder) (maxL := 3) (ret := (some .int)) (by decide) rfl ?_
  intro p e s m args below meth c s₁ B hml hv
  obtain ⟨rfl, hK, hP, hD0⟩ := hv
  have hx := B.exec
  have hb := B.bytes
  have hr := B.returns
  have hts := atoms_spec (ws := wsX1_rateElder) B.pre
  have hown : s.vm.findClass RX1 = some m.cls := findClass_of_methodNamed B.named
  have hlocks := B.notSynchronized
  have hFX1 : ∀ w ∈ wsX10, w ∈ wsX1_rateElder := by decide +kernel
  have kf31 := (hts (.fieldLink RX1 31 "ShadeVotes$Kinds" "traced" "J") (by decide +kernel))
  have hD := va_D_self hD0
  have hS : va_S (fun q => q ∈ List.map Prod.fst (kiW Y h6 tr ++ cmW Y h ad K)) s.heap s.heap [] := va_S.rf
  obtain ⟨H, hHe⟩ : ∃ H, H = s.heap := ⟨_, rfl⟩
  rw [← hHe] at hP
  replace hS : va_S (fun q => q ∈ List.map Prod.fst (kiW Y h6 tr ++ cmW Y h ad K)) s.heap H [] := by rw [hHe]; exact hS
  have hl := lv_entry ([.ref h6, .ref h, .int (iZ ((t : Nat) : Int))]) (n := 3) (Nat.le_of_ble_eq_true rfl)
  rw [lg_entry_eq]
  generalize (lg_sl ([.ref h6, .ref h, .int (iZ ((t : Nat) : Int))]) ++ List.replicate (3 - (lg_sl ([.ref h6, .ref h, .int (iZ ((t : Nat) : Int))])).length) Slot.unset).toArray = ls at hl ⊢
  replace hl : lv_has ls 3 [(0, .ref h6), (1, .ref h), (2, .int (iZ ((t : Nat) : Int)))] := hl
  obtain ⟨locs, hLe⟩ : ∃ locs : List Loc, locs = [] := ⟨_, rfl⟩
  rw [← hLe] at hS ⊢
  have hW0 : ∀ {Q : State → Prop} {g : JFrame}, W p l e ({ frames := 4, cells := 0, slots := 0, locals := 92 }) s m [.ref h6, .ref h, .int (iZ ((t : Nat) : Int))].toArray below meth c H locs 0 0 Q g → W p l e ({ frames := 4, cells := 0, slots := 0, locals := 92 }) s m [.ref h6, .ref h, .int (iZ ((t : Nat) : Int))].toArray below meth c s.heap locs 0 0 Q g := fun h => by rw [← hHe]; exact h
  refine hW0 ?_
  clear hW0 hHe hLe
  refine lv_aload_n hx hb dX1_rateElder_0 rfl (lv_at hl 0 rfl) ?_
  refine lv_dup hx hb dX1_rateElder_1 rfl ?_
  refine va_get (D := G) (ci := 1) (v := .long tr) (C := RX1) (T := TX1) (N := 1) hx hb hts hFX1 hown hK.1 hP 0 rfl rfl 0 (by decide) kf31 (fun _ h9 => h9) rfl dX1_rateElder_2 ?_
  refine lv_ldc2 (v := 1000) hx hb hown (hts (.constantLong RX1 52 (1000)) (by decide +kernel)) dX1_rateElder_5 ?_
  refine lv_topl (fun kl1 ekl1 => ?_)
  refine lv_ladd hx hb dX1_rateElder_8 ?_
  refine va_put (D := G) (ci := 1) (v := .long (tr + kl1)) (ty := .long) (C := RX1) (T := TX1) (N := 1) hx hb hts hFX1 tyX1 tyX1_ok nmX1 hown hK.1 hP hD hS 0 rfl rfl 0 (by decide) kf31 (fun _ h9 => h9) rfl (by decide +kernel) rfl rfl (Nat.le_of_ble_eq_true rfl) dX1_rateElder_9 (fun H locs hP hD hS => ?_)
  replace hP : va_P G vwCl [(h6, .inr (1, [.long (tr + kl1)])), (h, .inr (0, [.int (iZ (K 0 0)), .int (iZ (K 0 1)), .int (iZ (K 0 2)), .int (iZ (K 0 3)), .int (iZ (K 0 4)), .int (iZ (K 0 5)), .int (iZ (K 0 6)), .ref (ad 1), .ref (ad 2), .ref (ad 3), .ref (ad 4), .ref (ad 5), .ref (ad 6), .ref (ad 7)])), (ad 1, .inl (Y 0, 6, .inl (aI (K 1)))), (ad 2, .inl (Y 0, 6, .inl (aI (K 2)))), (ad 3, .inl (Y 0, 6, .inl (aI (K 3)))), (ad 4, .inl (Y 1, 6, .inl (aI (K 4)))), (ad 5, .inl (Y 1, 6, .inl (aI (K 5)))), (ad 6, .inl (Y 0, 7, .inl (aI (K 6)))), (ad 7, .inl (Y 0, 7, .inl (aI (K 7))))] H := hP
  replace hD : va_D _ [(h6, .inr (1, [.long (tr + kl1)])), (h, .inr (0, [.int (iZ (K 0 0)), .int (iZ (K 0 1)), .int (iZ (K 0 2)), .int (iZ (K 0 3)), .int (iZ (K 0 4)), .int (iZ (K 0 5)), .int (iZ (K 0 6)), .ref (ad 1), .ref (ad 2), .ref (ad 3), .ref (ad 4), .ref (ad 5), .ref (ad 6), .ref (ad 7)])), (ad 1, .inl (Y 0, 6, .inl (aI (K 1)))), (ad 2, .inl (Y 0, 6, .inl (aI (K 2)))), (ad 3, .inl (Y 0, 6, .inl (aI (K 3)))), (ad 4, .inl (Y 1, 6, .inl (aI (K 4)))), (ad 5, .inl (Y 1, 6, .inl (aI (K 5)))), (ad 6, .inl (Y 0, 7, .inl (aI (K 6)))), (ad 7, .inl (Y 0, 7, .inl (aI (K 7))))] := hD
  refine z_iconst hx hb dX1_rateElder_12 ?_
  refine lv_aload_n hx hb dX1_rateElder_13 rfl (lv_at hl 0 rfl) ?_
  refine lv_aload_n hx hb dX1_rateElder_14 rfl (lv_at hl 1 rfl) ?_
  refine lv_iload_n hx hb dX1_rateElder_15 rfl (lv_at hl 2 rfl) ?_
  have hP := hP.sub (ws' := [(h6, .inr (1, [.long (tr + kl1)])), (h, .inr (0, [.int (iZ (K 0 0)), .int (iZ (K 0 1)), .int (iZ (K 0 2)), .int (iZ (K 0 3)), .int (iZ (K 0 4)), .int (iZ (K 0 5)), .int (iZ (K 0 6)), .ref (ad 1), .ref (ad 2), .ref (ad 3), .ref (ad 4), .ref (ad 5), .ref (ad 6), .ref (ad 7)])), (ad 1, .inl (Y 0, 6, .inl (aI (K 1)))), (ad 2, .inl (Y 0, 6, .inl (aI (K 2)))), (ad 3, .inl (Y 0, 6, .inl (aI (K 3)))), (ad 4, .inl (Y 1, 6, .inl (aI (K 4)))), (ad 5, .inl (Y 1, 6, .inl (aI (K 5)))), (ad 6, .inl (Y 0, 7, .inl (aI (K 6)))), (ad 7, .inl (Y 0, 7, .inl (aI (K 7))))] ++ []) [0, 1, 2, 3, 4, 5, 6, 7, 8] rfl
  have hD := hD.sub (ws' := [(h6, .inr (1, [.long (tr + kl1)])), (h, .inr (0, [.int (iZ (K 0 0)), .int (iZ (K 0 1)), .int (iZ (K 0 2)), .int (iZ (K 0 3)), .int (iZ (K 0 4)), .int (iZ (K 0 5)), .int (iZ (K 0 6)), .ref (ad 1), .ref (ad 2), .ref (ad 3), .ref (ad 4), .ref (ad 5), .ref (ad 6), .ref (ad 7)])), (ad 1, .inl (Y 0, 6, .inl (aI (K 1)))), (ad 2, .inl (Y 0, 6, .inl (aI (K 2)))), (ad 3, .inl (Y 0, 6, .inl (aI (K 3)))), (ad 4, .inl (Y 1, 6, .inl (aI (K 4)))), (ad 5, .inl (Y 1, 6, .inl (aI (K 5)))), (ad 6, .inl (Y 0, 7, .inl (aI (K 6)))), (ad 7, .inl (Y 0, 7, .inl (aI (K 7))))] ++ []) [0, 1, 2, 3, 4, 5, 6, 7, 8] (by decide) rfl
  refine mu_V (As := [.ref h, .int (iZ ((t : Nat) : Int))]) (rest := [.int (iZ 2)]) (wc := [(h6, .inr (1, [.long (tr + kl1)])), (h, .inr (0, [.int (iZ (K 0 0)), .int (iZ (K 0 1)), .int (iZ (K 0 2)), .int (iZ (K 0 3)), .int (iZ (K 0 4)), .int (iZ (K 0 5)), .int (iZ (K 0 6)), .ref (ad 1), .ref (ad 2), .ref (ad 3), .ref (ad 4), .ref (ad 5), .ref (ad 6), .ref (ad 7)])), (ad 1, .inl (Y 0, 6, .inl (aI (K 1)))), (ad 2, .inl (Y 0, 6, .inl (aI (K 2)))), (ad 3, .inl (Y 0, 6, .inl (aI (K 3)))), (ad 4, .inl (Y 1, 6, .inl (aI (K 4)))), (ad 5, .inl (Y 1, 6, .inl (aI (K 5)))), (ad 6, .inl (Y 0, 7, .inl (aI (K 6)))), (ad 7, .inl (Y 0, 7, .inl (aI (K 7))))]) (wc' := kiW Y h6 ((tr + kl1) + kC10 + 1) ++ cmW Y h ad K) (F := []) ⟨hx, hb, hml, hown, hts⟩ (c_X1_rateOak l G Y h6 (tr + kl1) h ad K hW t (by omega)) (cwV 2 hts gX1_rateElder_X1_rateOak rfl rfl rfl (by decide +kernel) ⟨Nat.le_of_ble_eq_true rfl, Nat.le_of_ble_eq_true rfl⟩) hK hP hD hS 0 rfl rfl (Eq.refl [h6, h, ad 1, ad 2, ad 3, ad 4, ad 5, ad 6, ad 7]) rfl hl.1 rfl (Nat.le_of_ble_eq_true rfl) dX1_rateElder_16 ⟨Nat.zero_le _, Nat.zero_le _⟩ (fun H locs hP hD hS => ?_)
  show W _ _ _ _ _ _ _ _ _ _ _ _ _ _ _ (F0 _ _ _ [.int (iZ (K 2 t + wu K t)), .int (iZ 2)])
  replace hP : va_P G vwCl [(h6, .inr (1, [.long ((tr + kl1) + kC10 + 1)])), (h, .inr (0, [.int (iZ (K 0 0)), .int (iZ (K 0 1)), .int (iZ (K 0 2)), .int (iZ (K 0 3)), .int (iZ (K 0 4)), .int (iZ (K 0 5)), .int (iZ (K 0 6)), .ref (ad 1), .ref (ad 2), .ref (ad 3), .ref (ad 4), .ref (ad 5), .ref (ad 6), .ref (ad 7)])), (ad 1, .inl (Y 0, 6, .inl (aI (K 1)))), (ad 2, .inl (Y 0, 6, .inl (aI (K 2)))), (ad 3, .inl (Y 0, 6, .inl (aI (K 3)))), (ad 4, .inl (Y 1, 6, .inl (aI (K 4)))), (ad 5, .inl (Y 1, 6, .inl (aI (K 5)))), (ad 6, .inl (Y 0, 7, .inl (aI (K 6)))), (ad 7, .inl (Y 0, 7, .inl (aI (K 7))))] H := hP
  replace hD : va_D _ [(h6, .inr (1, [.long ((tr + kl1) + kC10 + 1)])), (h, .inr (0, [.int (iZ (K 0 0)), .int (iZ (K 0 1)), .int (iZ (K 0 2)), .int (iZ (K 0 3)), .int (iZ (K 0 4)), .int (iZ (K 0 5)), .int (iZ (K 0 6)), .ref (ad 1), .ref (ad 2), .ref (ad 3), .ref (ad 4), .ref (ad 5), .ref (ad 6), .ref (ad 7)])), (ad 1, .inl (Y 0, 6, .inl (aI (K 1)))), (ad 2, .inl (Y 0, 6, .inl (aI (K 2)))), (ad 3, .inl (Y 0, 6, .inl (aI (K 3)))), (ad 4, .inl (Y 1, 6, .inl (aI (K 4)))), (ad 5, .inl (Y 1, 6, .inl (aI (K 5)))), (ad 6, .inl (Y 0, 7, .inl (aI (K 6)))), (ad 7, .inl (Y 0, 7, .inl (aI (K 7))))] := hD
  have hb_2 := hW.2.1 t (by omega)
  have hb_3 := wu_in hW ((t : Nat) : Int)
  refine z_imul hx hb dX1_rateElder_19 ?_
  replace ekl1 : kl1 = kC1000 := ekl1
  subst ekl1
  have hP9 : va_P G vwCl (kiW Y h6 (tr + kC1000 + kC10 + 1) ++ cmW Y h ad K) H := hP
  exact W.iret (v := iZ (2 * (K 2 t + wu K t))) hx hb hr (fun t9 ht9 _ => ⟨rfl, by rw [ht9]; exact hP9, hS.F ht9⟩) hS.2.2 dX1_rateElder_20

set_option maxHeartbeats 4000000 in
set_option maxRecDepth 100000 in
theorem c_X1_rateWillow (l : Launch) (G : va_G) (Y : Nat → ClassId) (h6 : Nat) (tr : Int64) (h : Nat) (ad : Nat → Nat) (K : Kom) (hW : cWF K) (t : Nat) (r : t < 6) : Met l yX1_rateWillow wsX1_rateWillow ({ frames := 2, cells := 0, slots := 0, locals := 44 }) (mP G Y [.ref h6, .ref h, .int (iZ ((t : Nat) : Int))] (kiW Y h6 tr ++ cmW Y h ad K)) (mQ G (kiW Y h6 tr ++ cmW Y h ad K) (some (.int (iZ (K 2 t - K 1 t + t)))) (kiW Y h6 (tr + kC10000 + kC100 + 1) ++ cmW Y h ad K)) 0 0 (fun q => q ∈ List.map Prod.fst (kiW Y h6 tr ++ cmW Y h ad K)) := by
  refine Met.ofW (cc := cX1_rateWillow) (maxL := 3) (ret := (some .int)) (by decide) rfl ?_
  intro p e s m args below meth c s₁ B hml hv
  obtain ⟨rfl, hK, hP, hD0⟩ := hv
  have hx := B.exec
  have hb := B.bytes
  have hr := B.returns
  have hts := atoms_spec (ws := wsX1_rateWillow) B.pre
  have hown : s.vm.findClass RX1 = some m.cls := findClass_of_methodNamed B.named
  have hlocks := B.notSynchronized
  have hFX1 : ∀ w ∈ wsX10, w ∈ wsX1_rateWillow := by decide +kernel
  have kf31 := (hts (.fieldLink RX1 31 "ShadeVotes$Kinds" "traced" "J") (by decide +kernel))
  have hD := va_D_self hD0
  have hS : va_S (fun q => q ∈ List.map Prod.fst (kiW Y h6 tr ++ cmW Y h ad K)) s.heap s.heap [] := va_S.rf
  obtain ⟨H, hHe⟩ : ∃ H, H = s.heap := ⟨_, rfl⟩
  rw [← hHe] at hP
  replace hS : va_S (fun q => q ∈ List.map Prod.fst (kiW Y h6 tr ++ cmW Y h ad K)) s.heap H [] := by rw [hHe]; exact hS
  have hl := lv_entry ([.ref h6, .ref h, .int (iZ ((t : Nat) : Int))]) (n := 3) (Nat.le_of_ble_eq_true rfl)
  rw [lg_entry_eq]
  generalize (lg_sl ([.ref h6, .ref h, .int (iZ ((t : Nat) : Int))]) ++ List.replicate (3 - (lg_sl ([.ref h6, .ref h, .int (iZ ((t : Nat) : Int))])).length) Slot.unset).toArray = ls at hl ⊢
  replace hl : lv_has ls 3 [(0, .ref h6), (1, .ref h), (2, .int (iZ ((t : Nat) : Int)))] := hl
  obtain ⟨locs, hLe⟩ : ∃ locs : List Loc, locs = [] := ⟨_, rfl⟩
  rw [← hLe] at hS ⊢
  have hW0 : ∀ {Q : State → Prop} {g : JFrame}, W p l e ({ frames := 2, cells := 0, slots := 0, locals := 44 }) s m [.ref h6, .ref h, .int (iZ ((t : Nat) : Int))].toArray below meth c H locs 0 0 Q g → W p l e ({ frames := 2, cells := 0, slots := 0, locals := 44 }) s m [.ref h6, .ref h, .int (iZ ((t : Nat) : Int))].toArray below meth c s.heap locs 0 0 Q g := fun h => by rw [← hHe]; exact h
  refine hW0 ?_
  clear hW0 hHe hLe
  refine lv_aload_n hx hb dX1_rateWillow_0 rfl (lv_at hl 0 rfl) ?_
  refine lv_dup hx hb dX1_rateWillow_1 rfl ?_
  refine va_get (D := G) (ci := 1) (v := .long tr) (C := RX1) (T := TX1) (N := 1) hx hb hts hFX1 hown hK.1 hP 0 rfl rfl 0 (by decide) kf31 (fun _ h9 => h9) rfl dX1_rateWillow_2 ?_
  refine lv_ldc2 (v := 10000) hx hb hown (hts (.constantLong RX1 54 (10000)) (by decide +kernel)) dX1_rateWillow_5 ?_
  refine lv_topl (fun kl1 ekl1 => ?_)
  refine lv_ladd hx hb dX1_rateWillow_8 ?_
  refine va_put (D := G) (ci := 1) (v := .long (tr + kl1)) (ty := .long) (C := RX1) (T := TX1) (N := 1) hx hb hts hFX1 tyX1 tyX1_ok nmX1 hown hK.1 hP hD hS 0 rfl rfl 0 (by decide) kf31 (fun _ h9 => h9) rfl (by decide +kernel) rfl rfl (Nat.le_of_ble_eq_true rfl) dX1_rateWillow_9 (fun H locs hP hD hS => ?_)
  replace hP : va_P G vwCl [(h6, .inr (1, [.long (tr + kl1)])), (h, .inr (0, [.int (iZ (K 0 0)), .int (iZ (K 0 1)), .int (iZ (K 0 2)), .int (iZ (K 0 3)), .int (iZ (K 0 4)), .int (iZ (K 0 5)), .int (iZ (K 0 6)), .ref (ad 1), .ref (ad 2), .ref (ad 3), .ref (ad 4), .ref (ad 5), .ref (ad 6), .ref (ad 7)])), (ad 1, .inl (Y 0, 6, .inl (aI (K 1)))), (ad 2, .inl (Y 0, 6, .inl (aI (K 2)))), (ad 3, .inl (Y 0, 6, .inl (aI (K 3)))), (ad 4, .inl (Y 1, 6, .inl (aI (K 4)))), (ad 5, .inl (Y 1, 6, .inl (aI (K 5)))), (ad 6, .inl (Y 0, 7, .inl (aI (K 6)))), (ad 7, .inl (Y 0, 7, .inl (aI (K 7))))] H := hP
  replace hD : va_D _ [(h6, .inr (1, [.long (tr + kl1)])), (h, .inr (0, [.int (iZ (K 0 0)), .int (iZ (K 0 1)), .int (iZ (K 0 2)), .int (iZ (K 0 3)), .int (iZ (K 0 4)), .int (iZ (K 0 5)), .int (iZ (K 0 6)), .ref (ad 1), .ref (ad 2), .ref (ad 3), .ref (ad 4), .ref (ad 5), .ref (ad 6), .ref (ad 7)])), (ad 1, .inl (Y 0, 6, .inl (aI (K 1)))), (ad 2, .inl (Y 0, 6, .inl (aI (K 2)))), (ad 3, .inl (Y 0, 6, .inl (aI (K 3)))), (ad 4, .inl (Y 1, 6, .inl (aI (K 4)))), (ad 5, .inl (Y 1, 6, .inl (aI (K 5)))), (ad 6, .inl (Y 0, 7, .inl (aI (K 6)))), (ad 7, .inl (Y 0, 7, .inl (aI (K 7))))] := hD
  refine lv_aload_n hx hb dX1_rateWillow_12 rfl (lv_at hl 0 rfl) ?_
  refine lv_aload_n hx hb dX1_rateWillow_13 rfl (lv_at hl 1 rfl) ?_
  refine lv_iload_n hx hb dX1_rateWillow_14 rfl (lv_at hl 2 rfl) ?_
  have hP := hP.sub (ws' := [(h6, .inr (1, [.long (tr + kl1)])), (h, .inr (0, [.int (iZ (K 0 0)), .int (iZ (K 0 1)), .int (iZ (K 0 2)), .int (iZ (K 0 3)), .int (iZ (K 0 4)), .int (iZ (K 0 5)), .int (iZ (K 0 6)), .ref (ad 1), .ref (ad 2), .ref (ad 3), .ref (ad 4), .ref (ad 5), .ref (ad 6), .ref (ad 7)])), (ad 1, .inl (Y 0, 6, .inl (aI (K 1)))), (ad 2, .inl (Y 0, 6, .inl (aI (K 2)))), (ad 3, .inl (Y 0, 6, .inl (aI (K 3)))), (ad 4, .inl (Y 1, 6, .inl (aI (K 4)))), (ad 5, .inl (Y 1, 6, .inl (aI (K 5)))), (ad 6, .inl (Y 0, 7, .inl (aI (K 6)))), (ad 7, .inl (Y 0, 7, .inl (aI (K 7))))] ++ []) [0, 1, 2, 3, 4, 5, 6, 7, 8] rfl
  have hD := hD.sub (ws' := [(h6, .inr (1, [.long (tr + kl1)])), (h, .inr (0, [.int (iZ (K 0 0)), .int (iZ (K 0 1)), .int (iZ (K 0 2)), .int (iZ (K 0 3)), .int (iZ (K 0 4)), .int (iZ (K 0 5)), .int (iZ (K 0 6)), .ref (ad 1), .ref (ad 2), .ref (ad 3), .ref (ad 4), .ref (ad 5), .ref (ad 6), .ref (ad 7)])), (ad 1, .inl (Y 0, 6, .inl (aI (K 1)))), (ad 2, .inl (Y 0, 6, .inl (aI (K 2)))), (ad 3, .inl (Y 0, 6, .inl (aI (K 3)))), (ad 4, .inl (Y 1, 6, .inl (aI (K 4)))), (ad 5, .inl (Y 1, 6, .inl (aI (K 5)))), (ad 6, .inl (Y 0, 7, .inl (aI (K 6)))), (ad 7, .inl (Y 0, 7, .inl (aI (K 7))))] ++ []) [0, 1, 2, 3, 4, 5, 6, 7, 8] (by decide) rfl
  refine mu_V (As := [.ref h, .int (iZ ((t : Nat) : Int))]) (rest := []) (wc := [(h6, .inr (1, [.long (tr + kl1)])), (h, .inr (0, [.int (iZ (K 0 0)), .int (iZ (K 0 1)), .int (iZ (K 0 2)), .int (iZ (K 0 3)), .int (iZ (K 0 4)), .int (iZ (K 0 5)), .int (iZ (K 0 6)), .ref (ad 1), .ref (ad 2), .ref (ad 3), .ref (ad 4), .ref (ad 5), .ref (ad 6), .ref (ad 7)])), (ad 1, .inl (Y 0, 6, .inl (aI (K 1)))), (ad 2, .inl (Y 0, 6, .inl (aI (K 2)))), (ad 3, .inl (Y 0, 6, .inl (aI (K 3)))), (ad 4, .inl (Y 1, 6, .inl (aI (K 4)))), (ad 5, .inl (Y 1, 6, .inl (aI (K 5)))), (ad 6, .inl (Y 0, 7, .inl (aI (K 6)))), (ad 7, .inl (Y 0, 7, .inl (aI (K 7))))]) (wc' := kiW Y h6 ((tr + kl1) + kC100 + 1) ++ cmW Y h ad K) (F := []) ⟨hx, hb, hml, hown, hts⟩ (c_X1_ratePoplar l G Y h6 (tr + kl1) h ad K hW t (by omega)) (cwV 2 hts gX1_rateWillow_X1_ratePoplar rfl rfl rfl (by decide +kernel) ⟨Nat.le_of_ble_eq_true rfl, Nat.le_of_ble_eq_true rfl⟩) hK hP hD hS 0 rfl rfl (Eq.refl [h6, h, ad 1, ad 2, ad 3, ad 4, ad 5, ad 6, ad 7]) rfl hl.1 rfl (Nat.le_of_ble_eq_true rfl) dX1_rateWillow_15 ⟨Nat.zero_le _, Nat.zero_le _⟩ (fun H locs hP hD hS => ?_)
  show W _ _ _ _ _ _ _ _ _ _ _ _ _ _ _ (F0 _ _ _ [.int (iZ (K 2 t - K 1 t))])
  replace hP : va_P G vwCl [(h6, .inr (1, [.long ((tr + kl1) + kC100 + 1)])), (h, .inr (0, [.int (iZ (K 0 0)), .int (iZ (K 0 1)), .int (iZ (K 0 2)), .int (iZ (K 0 3)), .int (iZ (K 0 4)), .int (iZ (K 0 5)), .int (iZ (K 0 6)), .ref (ad 1), .ref (ad 2), .ref (ad 3), .ref (ad 4), .ref (ad 5), .ref (ad 6), .ref (ad 7)])), (ad 1, .inl (Y 0, 6, .inl (aI (K 1)))), (ad 2, .inl (Y 0, 6, .inl (aI (K 2)))), (ad 3, .inl (Y 0, 6, .inl (aI (K 3)))), (ad 4, .inl (Y 1, 6, .inl (aI (K 4)))), (ad 5, .inl (Y 1, 6, .inl (aI (K 5)))), (ad 6, .inl (Y 0, 7, .inl (aI (K 6)))), (ad 7, .inl (Y 0, 7, .inl (aI (K 7))))] H := hP
  replace hD : va_D _ [(h6, .inr (1, [.long ((tr + kl1) + kC100 + 1)])), (h, .inr (0, [.int (iZ (K 0 0)), .int (iZ (K 0 1)), .int (iZ (K 0 2)), .int (iZ (K 0 3)), .int (iZ (K 0 4)), .int (iZ (K 0 5)), .int (iZ (K 0 6)), .ref (ad 1), .ref (ad 2), .ref (ad 3), .ref (ad 4), .ref (ad 5), .ref (ad 6), .ref (ad 7)])), (ad 1, .inl (Y 0, 6, .inl (aI (K 1)))), (ad 2, .inl (Y 0, 6, .inl (aI (K 2)))), (ad 3, .inl (Y 0, 6, .inl (aI (K 3)))), (ad 4, .inl (Y 1, 6, .inl (aI (K 4)))), (ad 5, .inl (Y 1, 6, .inl (aI (K 5)))), (ad 6, .inl (Y 0, 7, .inl (aI (K 6)))), (ad 7, .inl (Y 0, 7, .inl (aI (K 7))))] := hD
  have hb_2 := hW.2.1 t (by omega)
  have hb_3 := wu_in hW ((t : Nat) : Int)
  refine lv_iload_n hx hb dX1_rateWillow_18 rfl (lv_at hl 2 rfl) ?_
  refine z_iadd hx hb dX1_rateWillow_19 ?_
  refine z_top (show ((K 2 t - K 1 t) + ((t : Nat) : Int)) = (K 2 t - K 1 t + t) from ?_) ?_
  · rfl
  replace ekl1 : kl1 = kC10000 := ekl1
  subst ekl1
  have hP9 : va_P G vwCl (kiW Y h6 (tr + kC10000 + kC100 + 1) ++ cmW Y h ad K) H := hP
  exact W.iret (v := iZ (K 2 t - K 1 t + t)) hx hb hr (fun t9 ht9 _ => ⟨rfl, by rw [ht9]; exact hP9, hS.F ht9⟩) hS.2.2 dX1_rateWillow_20
