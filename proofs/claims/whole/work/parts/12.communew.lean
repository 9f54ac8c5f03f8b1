set_option maxHeartbeats 4000000 in
set_option maxRecDepth 100000 in
theorem c_X0_startAnew (l : Launch) (G : va_G) (Y : Nat → ClassId) (h : Nat) (ad : Nat → Nat) (K : Kom) : Met l yX0_startAnew wsX0_startAnew ({ frames := 0, cells := 0, slots := 0, locals := 0 }) (mP G Y [.ref h] (cmW Y h ad K)) (mQ G (cmW Y h ad K) none (cmW Y h ad (stA K))) 0 0 (fun q => q ∈ List.map Prod.fst (cmW Y h ad K)) := by
  refine Met.ofW (cc := cX0_startAnew) (maxL := 1) (ret := none) (by decide) rfl ?_
  intro p e s m args below meth c s₁ B hml hv
  obtain ⟨rfl, hK, hP, hD0⟩ := hv
  have hx := B.exec
  have hb := B.bytes
  have hr := B.returns
  have hts := atoms_spec (ws := wsX0_startAnew) B.pre
  have hown : s.vm.findClass RX0 = some m.cls := findClass_of_methodNamed B.named
  have hlocks := B.notSynchronized
  have hFX0 : ∀ w ∈ wsX00, w ∈ wsX0_startAnew := by decide +kernel
  have kf37 := (hts (.fieldLink RX0 37 "ShadeVotes$Commune" "wide" "I") (by decide +kernel))
  have kf41 := (hts (.fieldLink RX0 41 "ShadeVotes$Commune" "high" "I") (by decide +kernel))
  have kf44 := (hts (.fieldLink RX0 44 "ShadeVotes$Commune" "trees" "I") (by decide +kernel))
  have kf47 := (hts (.fieldLink RX0 47 "ShadeVotes$Commune" "people" "I") (by decide +kernel))
  have kf50 := (hts (.fieldLink RX0 50 "ShadeVotes$Commune" "sunlight" "I") (by decide +kernel))
  have kf53 := (hts (.fieldLink RX0 53 "ShadeVotes$Commune" "day" "I") (by decide +kernel))
  have kf56 := (hts (.fieldLink RX0 56 "ShadeVotes$Commune" "isWinter" "Z") (by decide +kernel))
  have hD := va_D_self hD0
  have hS : va_S (fun q => q ∈ List.map Prod.fst (cmW Y h ad K)) s.heap s.heap [] := va_S.rf
  obtain ⟨H, hHe⟩ : ∃ H, H = s.heap := ⟨_, rfl⟩
  rw [← hHe] at hP
  replace hS : va_S (fun q => q ∈ List.map Prod.fst (cmW Y h ad K)) s.heap H [] := by rw [hHe]; exact hS
  have hl := lv_entry ([.ref h]) (n := 1) (Nat.le_of_ble_eq_true rfl)
  rw [lg_entry_eq]
  generalize (lg_sl ([.ref h]) ++ List.replicate (1 - (lg_sl ([.ref h])).length) Slot.unset).toArray = ls at hl ⊢
  replace hl : lv_has ls 1 [(0, .ref h)] := hl
  obtain ⟨locs, hLe⟩ : ∃ locs : List Loc, locs = [] := ⟨_, rfl⟩
  rw [← hLe] at hS ⊢
  have hW0 : ∀ {Q : State → Prop} {g : JFrame}, W p l e ({ frames := 0, cells := 0, slots := 0, locals := 0 }) s m [.ref h].toArray below meth c H locs 0 0 Q g → W p l e ({ frames := 0, cells := 0, slots := 0, locals := 0 }) s m [.ref h].toArray below meth c s.heap locs 0 0 Q g := fun h => by rw [← hHe]; exact h
  refine hW0 ?_
  clear hW0 hHe hLe
  refine lv_aload_n hx hb dX0_startAnew_0 rfl (lv_at hl 0 rfl) ?_
  refine z_iconst hx hb dX0_startAnew_1 ?_
  refine va_put (D := G) (ci := 0) (v := .int (iZ 3)) (ty := .int) (C := RX0) (T := TX0) (N := 14) hx hb hts hFX0 tyX0 tyX0_ok nmX0 hown hK.1 hP hD hS 0 rfl rfl 0 (by decide) kf37 (fun _ h9 => h9) rfl (by decide +kernel) rfl rfl (Nat.le_of_ble_eq_true rfl) dX0_startAnew_2 (fun H locs hP hD hS => ?_)
  replace hP : va_P G vwCl [(h, .inr (0, [.int (iZ 3), .int (iZ (K 0 1)), .int (iZ (K 0 2)), .int (iZ (K 0 3)), .int (iZ (K 0 4)), .int (iZ (K 0 5)), .int (iZ (K 0 6)), .ref (ad 1), .ref (ad 2), .ref (ad 3), .ref (ad 4), .ref (ad 5), .ref (ad 6), .ref (ad 7)])), (ad 1, .inl (Y 0, 6, .inl (aI (K 1)))), (ad 2, .inl (Y 0, 6, .inl (aI (K 2)))), (ad 3, .inl (Y 0, 6, .inl (aI (K 3)))), (ad 4, .inl (Y 1, 6, .inl (aI (K 4)))), (ad 5, .inl (Y 1, 6, .inl (aI (K 5)))), (ad 6, .inl (Y 0, 7, .inl (aI (K 6)))), (ad 7, .inl (Y 0, 7, .inl (aI (K 7))))] H := hP
  replace hD : va_D _ [(h, .inr (0, [.int (iZ 3), .int (iZ (K 0 1)), .int (iZ (K 0 2)), .int (iZ (K 0 3)), .int (iZ (K 0 4)), .int (iZ (K 0 5)), .int (iZ (K 0 6)), .ref (ad 1), .ref (ad 2), .ref (ad 3), .ref (ad 4), .ref (ad 5), .ref (ad 6), .ref (ad 7)])), (ad 1, .inl (Y 0, 6, .inl (aI (K 1)))), (ad 2, .inl (Y 0, 6, .inl (aI (K 2)))), (ad 3, .inl (Y 0, 6, .inl (aI (K 3)))), (ad 4, .inl (Y 1, 6, .inl (aI (K 4)))), (ad 5, .inl (Y 1, 6, .inl (aI (K 5)))), (ad 6, .inl (Y 0, 7, .inl (aI (K 6)))), (ad 7, .inl (Y 0, 7, .inl (aI (K 7))))] := hD
  refine lv_aload_n hx hb dX0_startAnew_5 rfl (lv_at hl 0 rfl) ?_
  refine z_iconst hx hb dX0_startAnew_6 ?_
  refine va_put (D := G) (ci := 0) (v := .int (iZ 3)) (ty := .int) (C := RX0) (T := TX0) (N := 14) hx hb hts hFX0 tyX0 tyX0_ok nmX0 hown hK.1 hP hD hS 0 rfl rfl 1 (by decide) kf41 (fun _ h9 => h9) rfl (by decide +kernel) rfl rfl (Nat.le_of_ble_eq_true rfl) dX0_startAnew_7 (fun H locs hP hD hS => ?_)
  replace hP : va_P G vwCl [(h, .inr (0, [.int (iZ 3), .int (iZ 3), .int (iZ (K 0 2)), .int (iZ (K 0 3)), .int (iZ (K 0 4)), .int (iZ (K 0 5)), .int (iZ (K 0 6)), .ref (ad 1), .ref (ad 2), .ref (ad 3), .ref (ad 4), .ref (ad 5), .ref (ad 6), .ref (ad 7)])), (ad 1, .inl (Y 0, 6, .inl (aI (K 1)))), (ad 2, .inl (Y 0, 6, .inl (aI (K 2)))), (ad 3, .inl (Y 0, 6, .inl (aI (K 3)))), (ad 4, .inl (Y 1, 6, .inl (aI (K 4)))), (ad 5, .inl (Y 1, 6, .inl (aI (K 5)))), (ad 6, .inl (Y 0, 7, .inl (aI (K 6)))), (ad 7, .inl (Y 0, 7, .inl (aI (K 7))))] H := hP
  replace hD : va_D _ [(h, .inr (0, [.int (iZ 3), .int (iZ 3), .int (iZ (K 0 2)), .int (iZ (K 0 3)), .int (iZ (K 0 4)), .int (iZ (K 0 5)), .int (iZ (K 0 6)), .ref (ad 1), .ref (ad 2), .ref (ad 3), .ref (ad 4), .ref (ad 5), .ref (ad 6), .ref (ad 7)])), (ad 1, .inl (Y 0, 6, .inl (aI (K 1)))), (ad 2, .inl (Y 0, 6, .inl (aI (K 2)))), (ad 3, .inl (Y 0, 6, .inl (aI (K 3)))), (ad 4, .inl (Y 1, 6, .inl (aI (K 4)))), (ad 5, .inl (Y 1, 6, .inl (aI (K 5)))), (ad 6, .inl (Y 0, 7, .inl (aI (K 6)))), (ad 7, .inl (Y 0, 7, .inl (aI (K 7))))] := hD
  refine lv_aload_n hx hb dX0_startAnew_10 rfl (lv_at hl 0 rfl) ?_
  refine z_iconst hx hb dX0_startAnew_11 ?_
  refine va_put (D := G) (ci := 0) (v := .int (iZ 0)) (ty := .int) (C := RX0) (T := TX0) (N := 14) hx hb hts hFX0 tyX0 tyX0_ok nmX0 hown hK.1 hP hD hS 0 rfl rfl 2 (by decide) kf44 (fun _ h9 => h9) rfl (by decide +kernel) rfl rfl (Nat.le_of_ble_eq_true rfl) dX0_startAnew_12 (fun H locs hP hD hS => ?_)
  replace hP : va_P G vwCl [(h, .inr (0, [.int (iZ 3), .int (iZ 3), .int (iZ 0), .int (iZ (K 0 3)), .int (iZ (K 0 4)), .int (iZ (K 0 5)), .int (iZ (K 0 6)), .ref (ad 1), .ref (ad 2), .ref (ad 3), .ref (ad 4), .ref (ad 5), .ref (ad 6), .ref (ad 7)])), (ad 1, .inl (Y 0, 6, .inl (aI (K 1)))), (ad 2, .inl (Y 0, 6, .inl (aI (K 2)))), (ad 3, .inl (Y 0, 6, .inl (aI (K 3)))), (ad 4, .inl (Y 1, 6, .inl (aI (K 4)))), (ad 5, .inl (Y 1, 6, .inl (aI (K 5)))), (ad 6, .inl (Y 0, 7, .inl (aI (K 6)))), (ad 7, .inl (Y 0, 7, .inl (aI (K 7))))] H := hP
  replace hD : va_D _ [(h, .inr (0, [.int (iZ 3), .int (iZ 3), .int (iZ 0), .int (iZ (K 0 3)), .int (iZ (K 0 4)), .int (iZ (K 0 5)), .int (iZ (K 0 6)), .ref (ad 1), .ref (ad 2), .ref (ad 3), .ref (ad 4), .ref (ad 5), .ref (ad 6), .ref (ad 7)])), (ad 1, .inl (Y 0, 6, .inl (aI (K 1)))), (ad 2, .inl (Y 0, 6, .inl (aI (K 2)))), (ad 3, .inl (Y 0, 6, .inl (aI (K 3)))), (ad 4, .inl (Y 1, 6, .inl (aI (K 4)))), (ad 5, .inl (Y 1, 6, .inl (aI (K 5)))), (ad 6, .inl (Y 0, 7, .inl (aI (K 6)))), (ad 7, .inl (Y 0, 7, .inl (aI (K 7))))] := hD
  refine lv_aload_n hx hb dX0_startAnew_15 rfl (lv_at hl 0 rfl) ?_
  refine z_iconst hx hb dX0_startAnew_16 ?_
  refine va_put (D := G) (ci := 0) (v := .int (iZ 0)) (ty := .int) (C := RX0) (T := TX0) (N := 14) hx hb hts hFX0 tyX0 tyX0_ok nmX0 hown hK.1 hP hD hS 0 rfl rfl 3 (by decide) kf47 (fun _ h9 => h9) rfl (by decide +kernel) rfl rfl (Nat.le_of_ble_eq_true rfl) dX0_startAnew_17 (fun H locs hP hD hS => ?_)
  replace hP : va_P G vwCl [(h, .inr (0, [.int (iZ 3), .int (iZ 3), .int (iZ 0), .int (iZ 0), .int (iZ (K 0 4)), .int (iZ (K 0 5)), .int (iZ (K 0 6)), .ref (ad 1), .ref (ad 2), .ref (ad 3), .ref (ad 4), .ref (ad 5), .ref (ad 6), .ref (ad 7)])), (ad 1, .inl (Y 0, 6, .inl (aI (K 1)))), (ad 2, .inl (Y 0, 6, .inl (aI (K 2)))), (ad 3, .inl (Y 0, 6, .inl (aI (K 3)))), (ad 4, .inl (Y 1, 6, .inl (aI (K 4)))), (ad 5, .inl (Y 1, 6, .inl (aI (K 5)))), (ad 6, .inl (Y 0, 7, .inl (aI (K 6)))), (ad 7, .inl (Y 0, 7, .inl (aI (K 7))))] H := hP
  replace hD : va_D _ [(h, .inr (0, [.int (iZ 3), .int (iZ 3), .int (iZ 0), .int (iZ 0), .int (iZ (K 0 4)), .int (iZ (K 0 5)), .int (iZ (K 0 6)), .ref (ad 1), .ref (ad 2), .ref (ad 3), .ref (ad 4), .ref (ad 5), .ref (ad 6), .ref (ad 7)])), (ad 1, .inl (Y 0, 6, .inl (aI (K 1)))), (ad 2, .inl (Y 0, 6, .inl (aI (K 2)))), (ad 3, .inl (Y 0, 6, .inl (aI (K 3)))), (ad 4, .inl (Y 1, 6, .inl (aI (K 4)))), (ad 5, .inl (Y 1, 6, .inl (aI (K 5)))), (ad 6, .inl (Y 0, 7, .inl (aI (K 6)))), (ad 7, .inl (Y 0, 7, .inl (aI (K 7))))] := hD
  refine lv_aload_n hx hb dX0_startAnew_20 rfl (lv_at hl 0 rfl) ?_
  refine z_iconst hx hb dX0_startAnew_21 ?_
  refine va_put (D := G) (ci := 0) (v := .int (iZ 3)) (ty := .int) (C := RX0) (T := TX0) (N := 14) hx hb hts hFX0 tyX0 tyX0_ok nmX0 hown hK.1 hP hD hS 0 rfl rfl 4 (by decide) kf50 (fun _ h9 => h9) rfl (by decide +kernel) rfl rfl (Nat.le_of_ble_eq_true rfl) dX0_startAnew_22 (fun H locs hP hD hS => ?_)
  replace hP : va_P G vwCl [(h, .inr (0, [.int (iZ 3), .int (iZ 3), .int (iZ 0), .int (iZ 0), .int (iZ 3), .int (iZ (K 0 5)), .int (iZ (K 0 6)), .ref (ad 1), .ref (ad 2), .ref (ad 3), .ref (ad 4), .ref (ad 5), .ref (ad 6), .ref (ad 7)])), (ad 1, .inl (Y 0, 6, .inl (aI (K 1)))), (ad 2, .inl (Y 0, 6, .inl (aI (K 2)))), (ad 3, .inl (Y 0, 6, .inl (aI (K 3)))), (ad 4, .inl (Y 1, 6, .inl (aI (K 4)))), (ad 5, .inl (Y 1, 6, .inl (aI (K 5)))), (ad 6, .inl (Y 0, 7, .inl (aI (K 6)))), (ad 7, .inl (Y 0, 7, .inl (aI (K 7))))] H := hP
  replace hD : va_D _ [(h, .inr (0, [.int (iZ 3), .int (iZ 3), .int (iZ 0), .int (iZ 0), .int (iZ 3), .int (iZ (K 0 5)), .int (iZ (K 0 6)), .ref (ad 1), .ref (ad 2), .ref (ad 3), .ref (ad 4), .ref (ad 5), .ref (ad 6), .ref (ad 7)])), (ad 1, .inl (Y 0, 6, .inl (aI (K 1)))), (ad 2, .inl (Y 0, 6, .inl (aI (K 2)))), (ad 3, .inl (Y 0, 6, .inl (aI (K 3)))), (ad 4, .inl (Y 1, 6, .inl (aI (K 4)))), (ad 5, .inl (Y 1, 6, .inl (aI (K 5)))), (ad 6, .inl (Y 0, 7, .inl (aI (K 6)))), (ad 7, .inl (Y 0, 7, .inl (aI (K 7))))] := hD
  refine lv_aload_n hx hb dX0_startAnew_25 rfl (lv_at hl 0 rfl) ?_
  refine z_iconst hx hb dX0_startAnew_26 ?_
  refine va_put (D := G) (ci := 0) (v := .int (iZ 0)) (ty := .int) (C := RX0) (T := TX0) (N := 14) hx hb hts hFX0 tyX0 tyX0_ok nmX0 hown hK.1 hP hD hS 0 rfl rfl 5 (by decide) kf53 (fun _ h9 => h9) rfl (by decide +kernel) rfl rfl (Nat.le_of_ble_eq_true rfl) dX0_startAnew_27 (fun H locs hP hD hS => ?_)
  replace hP : va_P G vwCl [(h, .inr (0, [.int (iZ 3), .int (iZ 3), .int (iZ 0), .int (iZ 0), .int (iZ 3), .int (iZ 0), .int (iZ (K 0 6)), .ref (ad 1), .ref (ad 2), .ref (ad 3), .ref (ad 4), .ref (ad 5), .ref (ad 6), .ref (ad 7)])), (ad 1, .inl (Y 0, 6, .inl (aI (K 1)))), (ad 2, .inl (Y 0, 6, .inl (aI (K 2)))), (ad 3, .inl (Y 0, 6, .inl (aI (K 3)))), (ad 4, .inl (Y 1, 6, .inl (aI (K 4)))), (ad 5, .inl (Y 1, 6, .inl (aI (K 5)))), (ad 6, .inl (Y 0, 7, .inl (aI (K 6)))), (ad 7, .inl (Y 0, 7, .inl (aI (K 7))))] H := hP
  replace hD : va_D _ [(h, .inr (0, [.int (iZ 3), .int (iZ 3), .int (iZ 0), .int (iZ 0), .int (iZ 3), .int (iZ 0), .int (iZ (K 0 6)), .ref (ad 1), .ref (ad 2), .ref (ad 3), .ref (ad 4), .ref (ad 5), .ref (ad 6), .ref (ad 7)])), (ad 1, .inl (Y 0, 6, .inl (aI (K 1)))), (ad 2, .inl (Y 0, 6, .inl (aI (K 2)))), (ad 3, .inl (Y 0, 6, .inl (aI (K 3)))), (ad 4, .inl (Y 1, 6, .inl (aI (K 4)))), (ad 5, .inl (Y 1, 6, .inl (aI (K 5)))), (ad 6, .inl (Y 0, 7, .inl (aI (K 6)))), (ad 7, .inl (Y 0, 7, .inl (aI (K 7))))] := hD
  refine lv_aload_n hx hb dX0_startAnew_30 rfl (lv_at hl 0 rfl) ?_
  refine z_iconst hx hb dX0_startAnew_31 ?_
  refine va_put (D := G) (ci := 0) (v := .int (iZ 0)) (ty := .boolean) (C := RX0) (T := TX0) (N := 14) hx hb hts hFX0 tyX0 tyX0_ok nmX0 hown hK.1 hP hD hS 0 rfl rfl 6 (by decide) kf56 (fun _ h9 => h9) rfl (by decide +kernel) (b01_nar (by omega)) (b01_fit (by omega)) (Nat.le_of_ble_eq_true rfl) dX0_startAnew_32 (fun H locs hP hD hS => ?_)
  replace hP : va_P G vwCl [(h, .inr (0, [.int (iZ 3), .int (iZ 3), .int (iZ 0), .int (iZ 0), .int (iZ 3), .int (iZ 0), .int (iZ 0), .ref (ad 1), .ref (ad 2), .ref (ad 3), .ref (ad 4), .ref (ad 5), .ref (ad 6), .ref (ad 7)])), (ad 1, .inl (Y 0, 6, .inl (aI (K 1)))), (ad 2, .inl (Y 0, 6, .inl (aI (K 2)))), (ad 3, .inl (Y 0, 6, .inl (aI (K 3)))), (ad 4, .inl (Y 1, 6, .inl (aI (K 4)))), (ad 5, .inl (Y 1, 6, .inl (aI (K 5)))), (ad 6, .inl (Y 0, 7, .inl (aI (K 6)))), (ad 7, .inl (Y 0, 7, .inl (aI (K 7))))] H := hP
  replace hD : va_D _ [(h, .inr (0, [.int (iZ 3), .int (iZ 3), .int (iZ 0), .int (iZ 0), .int (iZ 3), .int (iZ 0), .int (iZ 0), .ref (ad 1), .ref (ad 2), .ref (ad 3), .ref (ad 4), .ref (ad 5), .ref (ad 6), .ref (ad 7)])), (ad 1, .inl (Y 0, 6, .inl (aI (K 1)))), (ad 2, .inl (Y 0, 6, .inl (aI (K 2)))), (ad 3, .inl (Y 0, 6, .inl (aI (K 3)))), (ad 4, .inl (Y 1, 6, .inl (aI (K 4)))), (ad 5, .inl (Y 1, 6, .inl (aI (K 5)))), (ad 6, .inl (Y 0, 7, .inl (aI (K 6)))), (ad 7, .inl (Y 0, 7, .inl (aI (K 7))))] := hD
  have hP9 : va_P G vwCl (cmW Y h ad (stA K)) H := hP
  exact W.vret hx hb hr (fun t9 ht9 _ => ⟨rfl, by rw [ht9]; exact hP9, hS.F ht9⟩) hS.2.2 dX0_startAnew_35

set_option maxHeartbeats 4000000 in
set_option maxRecDepth 100000 in
theorem c_X0_lower (l : Launch) (G : va_G) (Y : Nat → ClassId) (h : Nat) (ad : Nat → Nat) (K : Kom) (hW : cWF K) (t : Nat) (n9 : Int) (r : t < 6 ∧ 0 ≤ n9 ∧ n9 ≤ 20) : Met l yX0_lower wsX0_lower ({ frames := 1, cells := 0, slots := 0, locals := 21 }) (mP G Y [.ref h, .int (iZ ((t : Nat) : Int)), .int (iZ n9)] (cmW Y h ad K)) (mQ G (cmW Y h ad K) none (cmW Y h ad (kS K 2 t (max (K 2 t - n9) 0)))) 0 0 (fun q => q ∈ List.map Prod.fst (cmW Y h ad K)) := by
  refine Met.ofW (cc := cX0_lower) (maxL := 3) (ret := none) (by decide) rfl ?_
  intro p e s m args below meth c s₁ B hml hv
  obtain ⟨rfl, hK, hP, hD0⟩ := hv
  have hx := B.exec
  have hb := B.bytes
  have hr := B.returns
  have hts := atoms_spec (ws := wsX0_lower) B.pre
  have hown : s.vm.findClass RX0 = some m.cls := findClass_of_methodNamed B.named
  have hlocks := B.notSynchronized
  have hFX0 : ∀ w ∈ wsX00, w ∈ wsX0_lower := by decide +kernel
  have kf15 := (hts (.fieldLink RX0 15 "ShadeVotes$Commune" "treeHeight" "[I") (by decide +kernel))
  have hD := va_D_self hD0
  have hS : va_S (fun q => q ∈ List.map Prod.fst (cmW Y h ad K)) s.heap s.heap [] := va_S.rf
  obtain ⟨H, hHe⟩ : ∃ H, H = s.heap := ⟨_, rfl⟩
  rw [← hHe] at hP
  replace hS : va_S (fun q => q ∈ List.map Prod.fst (cmW Y h ad K)) s.heap H [] := by rw [hHe]; exact hS
  have hl := lv_entry ([.ref h, .int (iZ ((t : Nat) : Int)), .int (iZ n9)]) (n := 3) (Nat.le_of_ble_eq_true rfl)
  rw [lg_entry_eq]
  generalize (lg_sl ([.ref h, .int (iZ ((t : Nat) : Int)), .int (iZ n9)]) ++ List.replicate (3 - (lg_sl ([.ref h, .int (iZ ((t : Nat) : Int)), .int (iZ n9)])).length) Slot.unset).toArray = ls at hl ⊢
  replace hl : lv_has ls 3 [(0, .ref h), (1, .int (iZ ((t : Nat) : Int))), (2, .int (iZ n9))] := hl
  obtain ⟨locs, hLe⟩ : ∃ locs : List Loc, locs = [] := ⟨_, rfl⟩
  rw [← hLe] at hS ⊢
  have hW0 : ∀ {Q : State → Prop} {g : JFrame}, W p l e ({ frames := 1, cells := 0, slots := 0, locals := 21 }) s m [.ref h, .int (iZ ((t : Nat) : Int)), .int (iZ n9)].toArray below meth c H locs 0 0 Q g → W p l e ({ frames := 1, cells := 0, slots := 0, locals := 21 }) s m [.ref h, .int (iZ ((t : Nat) : Int)), .int (iZ n9)].toArray below meth c s.heap locs 0 0 Q g := fun h => by rw [← hHe]; exact h
  refine hW0 ?_
  clear hW0 hHe hLe
  refine lv_aload_n hx hb dX0_lower_0 rfl (lv_at hl 0 rfl) ?_
  refine va_get (D := G) (ci := 0) (v := .ref (ad 2)) (C := RX0) (T := TX0) (N := 14) hx hb hts hFX0 hown hK.1 hP 0 rfl rfl 8 (by decide) kf15 (fun _ h9 => h9) rfl dX0_lower_1 ?_
  refine lv_iload_n hx hb dX0_lower_4 rfl (lv_at hl 1 rfl) ?_
  refine lv_aload_n hx hb dX0_lower_5 rfl (lv_at hl 0 rfl) ?_
  refine va_get (D := G) (ci := 0) (v := .ref (ad 2)) (C := RX0) (T := TX0) (N := 14) hx hb hts hFX0 hown hK.1 hP 0 rfl rfl 8 (by decide) kf15 (fun _ h9 => h9) rfl dX0_lower_6 ?_
  refine lv_iload_n hx hb dX0_lower_9 rfl (lv_at hl 1 rfl) ?_
  refine z_iald hx hb hK.1 hP 2 0 rfl rfl t (by omega) (by decide) dX0_lower_10 ?_
  have hb_1 := hW.2.1 t (by omega)
  refine lv_iload_n hx hb dX0_lower_11 rfl (lv_at hl 2 rfl) ?_
  refine z_isub hx hb dX0_lower_12 ?_
  refine z_iconst hx hb dX0_lower_13 ?_
  refine z_mmax hx hb (hml.trans hl.1.symm) hown (hts (.methodLink RX0 68 Lib.Math.max.name) (by decide +kernel)) (hts (.static Lib.Math.max.name) (by decide +kernel)) (hts (.initialized "java/lang/Math") (by decide +kernel)) (hts (.code Lib.Math.max.name Lib.Math.max.code 2 (some .int)) (by decide +kernel)) (Nat.le_of_ble_eq_true rfl) (Nat.le_of_ble_eq_true rfl) (Nat.zero_le _) (Nat.zero_le _) (by omega) dX0_lower_14 ?_
  refine z_iast hx hb hK.1 hP hD hS 2 0 rfl rfl t (by omega) (by decide) dX0_lower_17 (fun H locs hP hD hS => ?_)
  replace hP : va_P G vwCl [(h, .inr (0, [.int (iZ (K 0 0)), .int (iZ (K 0 1)), .int (iZ (K 0 2)), .int (iZ (K 0 3)), .int (iZ (K 0 4)), .int (iZ (K 0 5)), .int (iZ (K 0 6)), .ref (ad 1), .ref (ad 2), .ref (ad 3), .ref (ad 4), .ref (ad 5), .ref (ad 6), .ref (ad 7)])), (ad 1, .inl (Y 0, 6, .inl (aI (K 1)))), (ad 2, .inl (Y 0, 6, .inl (aI (va_up (K 2) t (max ((K 2) t - n9) 0))))), (ad 3, .inl (Y 0, 6, .inl (aI (K 3)))), (ad 4, .inl (Y 1, 6, .inl (aI (K 4)))), (ad 5, .inl (Y 1, 6, .inl (aI (K 5)))), (ad 6, .inl (Y 0, 7, .inl (aI (K 6)))), (ad 7, .inl (Y 0, 7, .inl (aI (K 7))))] H := hP
  replace hD : va_D _ [(h, .inr (0, [.int (iZ (K 0 0)), .int (iZ (K 0 1)), .int (iZ (K 0 2)), .int (iZ (K 0 3)), .int (iZ (K 0 4)), .int (iZ (K 0 5)), .int (iZ (K 0 6)), .ref (ad 1), .ref (ad 2), .ref (ad 3), .ref (ad 4), .ref (ad 5), .ref (ad 6), .ref (ad 7)])), (ad 1, .inl (Y 0, 6, .inl (aI (K 1)))), (ad 2, .inl (Y 0, 6, .inl (aI (va_up (K 2) t (max ((K 2) t - n9) 0))))), (ad 3, .inl (Y 0, 6, .inl (aI (K 3)))), (ad 4, .inl (Y 1, 6, .inl (aI (K 4)))), (ad 5, .inl (Y 1, 6, .inl (aI (K 5)))), (ad 6, .inl (Y 0, 7, .inl (aI (K 6)))), (ad 7, .inl (Y 0, 7, .inl (aI (K 7))))] := hD
  have hP9 : va_P G vwCl (cmW Y h ad (kS K 2 t (max (K 2 t - n9) 0))) H := hP
  exact W.vret hx hb hr (fun t9 ht9 _ => ⟨rfl, by rw [ht9]; exact hP9, hS.F ht9⟩) hS.2.2 dX0_lower_18

set_option maxHeartbeats 4000000 in
set_option maxRecDepth 100000 in
theorem c_X0_addTree (l : Launch) (G : va_G) (Y : Nat → ClassId) (h : Nat) (ad : Nat → Nat) (K : Kom) (a h9 e9 w9 : Int) (r : (0 ≤ K 0 2 ∧ K 0 2 ≤ 5) ∧ 0 ≤ e9 ∧ e9 ≤ 1) : Met l yX0_addTree wsX0_addTree ({ frames := 0, cells := 0, slots := 0, locals := 0 }) (mP G Y [.ref h, .int (iZ a), .int (iZ h9), .int (iZ e9), .int (iZ w9)] (cmW Y h ad K)) (mQ G (cmW Y h ad K) none (cmW Y h ad (adT K a h9 e9 w9))) 0 0 (fun q => q ∈ List.map Prod.fst (cmW Y h ad K)) := by
  refine Met.ofW (cc := cX0_addTree) (maxL := 5) (ret := none) (by decide) rfl ?_
  intro p e s m args below meth c s₁ B hml hv
  obtain ⟨rfl, hK, hP, hD0⟩ := hv
  have hx := B.exec
  have hb := B.bytes
  have hr := B.returns
  have hts := atoms_spec (ws := wsX0_addTree) B.pre
  have hown : s.vm.findClass RX0 = some m.cls := findClass_of_methodNamed B.named
  have hlocks := B.notSynchronized
  have hFX0 : ∀ w ∈ wsX00, w ∈ wsX0_addTree := by decide +kernel
  have kf44 := (hts (.fieldLink RX0 44 "ShadeVotes$Commune" "trees" "I") (by decide +kernel))
  have kf9 := (hts (.fieldLink RX0 9 "ShadeVotes$Commune" "treeCell" "[I") (by decide +kernel))
  have kf15 := (hts (.fieldLink RX0 15 "ShadeVotes$Commune" "treeHeight" "[I") (by decide +kernel))
  have kf18 := (hts (.fieldLink RX0 18 "ShadeVotes$Commune" "treeWants" "[I") (by decide +kernel))
  have kf21 := (hts (.fieldLink RX0 21 "ShadeVotes$Commune" "treeEvergreen" "[Z") (by decide +kernel))
  have kf25 := (hts (.fieldLink RX0 25 "ShadeVotes$Commune" "treeFelled" "[Z") (by decide +kernel))
  have hD := va_D_self hD0
  have hS : va_S (fun q => q ∈ List.map Prod.fst (cmW Y h ad K)) s.heap s.heap [] := va_S.rf
  obtain ⟨H, hHe⟩ : ∃ H, H = s.heap := ⟨_, rfl⟩
  rw [← hHe] at hP
  replace hS : va_S (fun q => q ∈ List.map Prod.fst (cmW Y h ad K)) s.heap H [] := by rw [hHe]; exact hS
  have hl := lv_entry ([.ref h, .int (iZ a), .int (iZ h9), .int (iZ e9), .int (iZ w9)]) (n := 5) (Nat.le_of_ble_eq_true rfl)
  rw [lg_entry_eq]
  generalize (lg_sl ([.ref h, .int (iZ a), .int (iZ h9), .int (iZ e9), .int (iZ w9)]) ++ List.replicate (5 - (lg_sl ([.ref h, .int (iZ a), .int (iZ h9), .int (iZ e9), .int (iZ w9)])).length) Slot.unset).toArray = ls at hl ⊢
  replace hl : lv_has ls 5 [(0, .ref h), (1, .int (iZ a)), (2, .int (iZ h9)), (3, .int (iZ e9)), (4, .int (iZ w9))] := hl
  obtain ⟨locs, hLe⟩ : ∃ locs : List Loc, locs = [] := ⟨_, rfl⟩
  rw [← hLe] at hS ⊢
  have hW0 : ∀ {Q : State → Prop} {g : JFrame}, W p l e ({ frames := 0, cells := 0, slots := 0, locals := 0 }) s m [.ref h, .int (iZ a), .int (iZ h9), .int (iZ e9), .int (iZ w9)].toArray below meth c H locs 0 0 Q g → W p l e ({ frames := 0, cells := 0, slots := 0, locals := 0 }) s m [.ref h, .int (iZ a), .int (iZ h9), .int (iZ e9), .int (iZ w9)].toArray below meth c s.heap locs 0 0 Q g := fun h => by rw [← hHe]; exact h
  refine hW0 ?_
  clear hW0 hHe hLe
  refine lv_aload_n hx hb dX0_addTree_0 rfl (lv_at hl 0 rfl) ?_
  refine va_get (D := G) (ci := 0) (v := .int (iZ (K 0 2))) (C := RX0) (T := TX0) (N := 14) hx hb hts hFX0 hown hK.1 hP 0 rfl rfl 2 (by decide) kf44 (fun _ h9 => h9) rfl dX0_addTree_1 ?_
  refine z_iconst hx hb dX0_addTree_4 ?_
  refine z_icmp_le (tgt := 9) hx hb dX0_addTree_5 (by decide) (by omega) (fun c_1 => ?_) (fun c_1 => ?_)
  · skip
    refine lv_aload_n hx hb dX0_addTree_9 rfl (lv_at hl 0 rfl) ?_
    refine va_get (D := G) (ci := 0) (v := .ref (ad 1)) (C := RX0) (T := TX0) (N := 14) hx hb hts hFX0 hown hK.1 hP 0 rfl rfl 7 (by decide) kf9 (fun _ h9 => h9) rfl dX0_addTree_10 ?_
    refine lv_aload_n hx hb dX0_addTree_13 rfl (lv_at hl 0 rfl) ?_
    refine va_get (D := G) (ci := 0) (v := .int (iZ (K 0 2))) (C := RX0) (T := TX0) (N := 14) hx hb hts hFX0 hown hK.1 hP 0 rfl rfl 2 (by decide) kf44 (fun _ h9 => h9) rfl dX0_addTree_14 ?_
    refine lv_iload_n hx hb dX0_addTree_17 rfl (lv_at hl 1 rfl) ?_
    refine z_iast hx hb hK.1 hP hD hS 1 0 rfl rfl ((K 0 2).toNat) (by omega) (by decide) dX0_addTree_18 (fun H locs hP hD hS => ?_)
    replace hP : va_P G vwCl [(h, .inr (0, [.int (iZ (K 0 0)), .int (iZ (K 0 1)), .int (iZ (K 0 2)), .int (iZ (K 0 3)), .int (iZ (K 0 4)), .int (iZ (K 0 5)), .int (iZ (K 0 6)), .ref (ad 1), .ref (ad 2), .ref (ad 3), .ref (ad 4), .ref (ad 5), .ref (ad 6), .ref (ad 7)])), (ad 1, .inl (Y 0, 6, .inl (aI (va_up (K 1) ((K 0 2).toNat) a)))), (ad 2, .inl (Y 0, 6, .inl (aI (K 2)))), (ad 3, .inl (Y 0, 6, .inl (aI (K 3)))), (ad 4, .inl (Y 1, 6, .inl (aI (K 4)))), (ad 5, .inl (Y 1, 6, .inl (aI (K 5)))), (ad 6, .inl (Y 0, 7, .inl (aI (K 6)))), (ad 7, .inl (Y 0, 7, .inl (aI (K 7))))] H := hP
    replace hD : va_D _ [(h, .inr (0, [.int (iZ (K 0 0)), .int (iZ (K 0 1)), .int (iZ (K 0 2)), .int (iZ (K 0 3)), .int (iZ (K 0 4)), .int (iZ (K 0 5)), .int (iZ (K 0 6)), .ref (ad 1), .ref (ad 2), .ref (ad 3), .ref (ad 4), .ref (ad 5), .ref (ad 6), .ref (ad 7)])), (ad 1, .inl (Y 0, 6, .inl (aI (va_up (K 1) ((K 0 2).toNat) a)))), (ad 2, .inl (Y 0, 6, .inl (aI (K 2)))), (ad 3, .inl (Y 0, 6, .inl (aI (K 3)))), (ad 4, .inl (Y 1, 6, .inl (aI (K 4)))), (ad 5, .inl (Y 1, 6, .inl (aI (K 5)))), (ad 6, .inl (Y 0, 7, .inl (aI (K 6)))), (ad 7, .inl (Y 0, 7, .inl (aI (K 7))))] := hD
    refine lv_aload_n hx hb dX0_addTree_19 rfl (lv_at hl 0 rfl) ?_
    refine va_get (D := G) (ci := 0) (v := .ref (ad 2)) (C := RX0) (T := TX0) (N := 14) hx hb hts hFX0 hown hK.1 hP 0 rfl rfl 8 (by decide) kf15 (fun _ h9 => h9) rfl dX0_addTree_20 ?_
    refine lv_aload_n hx hb dX0_addTree_23 rfl (lv_at hl 0 rfl) ?_
    refine va_get (D := G) (ci := 0) (v := .int (iZ (K 0 2))) (C := RX0) (T := TX0) (N := 14) hx hb hts hFX0 hown hK.1 hP 0 rfl rfl 2 (by decide) kf44 (fun _ h9 => h9) rfl dX0_addTree_24 ?_
    refine lv_iload_n hx hb dX0_addTree_27 rfl (lv_at hl 2 rfl) ?_
    refine z_iast hx hb hK.1 hP hD hS 2 0 rfl rfl ((K 0 2).toNat) (by omega) (by decide) dX0_addTree_28 (fun H locs hP hD hS => ?_)
    replace hP : va_P G vwCl [(h, .inr (0, [.int (iZ (K 0 0)), .int (iZ (K 0 1)), .int (iZ (K 0 2)), .int (iZ (K 0 3)), .int (iZ (K 0 4)), .int (iZ (K 0 5)), .int (iZ (K 0 6)), .ref (ad 1), .ref (ad 2), .ref (ad 3), .ref (ad 4), .ref (ad 5), .ref (ad 6), .ref (ad 7)])), (ad 1, .inl (Y 0, 6, .inl (aI (va_up (K 1) ((K 0 2).toNat) a)))), (ad 2, .inl (Y 0, 6, .inl (aI (va_up (K 2) ((K 0 2).toNat) h9)))), (ad 3, .inl (Y 0, 6, .inl (aI (K 3)))), (ad 4, .inl (Y 1, 6, .inl (aI (K 4)))), (ad 5, .inl (Y 1, 6, .inl (aI (K 5)))), (ad 6, .inl (Y 0, 7, .inl (aI (K 6)))), (ad 7, .inl (Y 0, 7, .inl (aI (K 7))))] H := hP
    replace hD : va_D _ [(h, .inr (0, [.int (iZ (K 0 0)), .int (iZ (K 0 1)), .int (iZ (K 0 2)), .int (iZ (K 0 3)), .int (iZ (K 0 4)), .int (iZ (K 0 5)), .int (iZ (K 0 6)), .ref (ad 1), .ref (ad 2), .ref (ad 3), .ref (ad 4), .ref (ad 5), .ref (ad 6), .ref (ad 7)])), (ad 1, .inl (Y 0, 6, .inl (aI (va_up (K 1) ((K 0 2).toNat) a)))), (ad 2, .inl (Y 0, 6, .inl (aI (va_up (K 2) ((K 0 2).toNat) h9)))), (ad 3, .inl (Y 0, 6, .inl (aI (K 3)))), (ad 4, .inl (Y 1, 6, .inl (aI (K 4)))), (ad 5, .inl (Y 1, 6, .inl (aI (K 5)))), (ad 6, .inl (Y 0, 7, .inl (aI (K 6)))), (ad 7, .inl (Y 0, 7, .inl (aI (K 7))))] := hD
    refine lv_aload_n hx hb dX0_addTree_29 rfl (lv_at hl 0 rfl) ?_
    refine va_get (D := G) (ci := 0) (v := .ref (ad 3)) (C := RX0) (T := TX0) (N := 14) hx hb hts hFX0 hown hK.1 hP 0 rfl rfl 9 (by decide) kf18 (fun _ h9 => h9) rfl dX0_addTree_30 ?_
    refine lv_aload_n hx hb dX0_addTree_33 rfl (lv_at hl 0 rfl) ?_
    refine va_get (D := G) (ci := 0) (v := .int (iZ (K 0 2))) (C := RX0) (T := TX0) (N := 14) hx hb hts hFX0 hown hK.1 hP 0 rfl rfl 2 (by decide) kf44 (fun _ h9 => h9) rfl dX0_addTree_34 ?_
    refine lv_iload hx hb dX0_addTree_37 (lv_at hl 4 rfl) ?_
    refine z_iast hx hb hK.1 hP hD hS 3 0 rfl rfl ((K 0 2).toNat) (by omega) (by decide) dX0_addTree_39 (fun H locs hP hD hS => ?_)
    replace hP : va_P G vwCl [(h, .inr (0, [.int (iZ (K 0 0)), .int (iZ (K 0 1)), .int (iZ (K 0 2)), .int (iZ (K 0 3)), .int (iZ (K 0 4)), .int (iZ (K 0 5)), .int (iZ (K 0 6)), .ref (ad 1), .ref (ad 2), .ref (ad 3), .ref (ad 4), .ref (ad 5), .ref (ad 6), .ref (ad 7)])), (ad 1, .inl (Y 0, 6, .inl (aI (va_up (K 1) ((K 0 2).toNat) a)))), (ad 2, .inl (Y 0, 6, .inl (aI (va_up (K 2) ((K 0 2).toNat) h9)))), (ad 3, .inl (Y 0, 6, .inl (aI (va_up (K 3) ((K 0 2).toNat) w9)))), (ad 4, .inl (Y 1, 6, .inl (aI (K 4)))), (ad 5, .inl (Y 1, 6, .inl (aI (K 5)))), (ad 6, .inl (Y 0, 7, .inl (aI (K 6)))), (ad 7, .inl (Y 0, 7, .inl (aI (K 7))))] H := hP
    replace hD : va_D _ [(h, .inr (0, [.int (iZ (K 0 0)), .int (iZ (K 0 1)), .int (iZ (K 0 2)), .int (iZ (K 0 3)), .int (iZ (K 0 4)), .int (iZ (K 0 5)), .int (iZ (K 0 6)), .ref (ad 1), .ref (ad 2), .ref (ad 3), .ref (ad 4), .ref (ad 5), .ref (ad 6), .ref (ad 7)])), (ad 1, .inl (Y 0, 6, .inl (aI (va_up (K 1) ((K 0 2).toNat) a)))), (ad 2, .inl (Y 0, 6, .inl (aI (va_up (K 2) ((K 0 2).toNat) h9)))), (ad 3, .inl (Y 0, 6, .inl (aI (va_up (K 3) ((K 0 2).toNat) w9)))), (ad 4, .inl (Y 1, 6, .inl (aI (K 4)))), (ad 5, .inl (Y 1, 6, .inl (aI (K 5)))), (ad 6, .inl (Y 0, 7, .inl (aI (K 6)))), (ad 7, .inl (Y 0, 7, .inl (aI (K 7))))] := hD
    refine lv_aload_n hx hb dX0_addTree_40 rfl (lv_at hl 0 rfl) ?_
    refine va_get (D := G) (ci := 0) (v := .ref (ad 4)) (C := RX0) (T := TX0) (N := 14) hx hb hts hFX0 hown hK.1 hP 0 rfl rfl 10 (by decide) kf21 (fun _ h9 => h9) rfl dX0_addTree_41 ?_
    refine lv_aload_n hx hb dX0_addTree_44 rfl (lv_at hl 0 rfl) ?_
    refine va_get (D := G) (ci := 0) (v := .int (iZ (K 0 2))) (C := RX0) (T := TX0) (N := 14) hx hb hts hFX0 hown hK.1 hP 0 rfl rfl 2 (by decide) kf44 (fun _ h9 => h9) rfl dX0_addTree_45 ?_
    refine lv_iload_n hx hb dX0_addTree_48 rfl (lv_at hl 3 rfl) ?_
    refine z_zast hx hb hK.1 hP hD hS 4 1 rfl rfl ((K 0 2).toNat) (by omega) (by decide) (by omega) dX0_addTree_49 (fun H locs hP hD hS => ?_)
    replace hP : va_P G vwCl [(h, .inr (0, [.int (iZ (K 0 0)), .int (iZ (K 0 1)), .int (iZ (K 0 2)), .int (iZ (K 0 3)), .int (iZ (K 0 4)), .int (iZ (K 0 5)), .int (iZ (K 0 6)), .ref (ad 1), .ref (ad 2), .ref (ad 3), .ref (ad 4), .ref (ad 5), .ref (ad 6), .ref (ad 7)])), (ad 1, .inl (Y 0, 6, .inl (aI (va_up (K 1) ((K 0 2).toNat) a)))), (ad 2, .inl (Y 0, 6, .inl (aI (va_up (K 2) ((K 0 2).toNat) h9)))), (ad 3, .inl (Y 0, 6, .inl (aI (va_up (K 3) ((K 0 2).toNat) w9)))), (ad 4, .inl (Y 1, 6, .inl (aI (va_up (K 4) ((K 0 2).toNat) e9)))), (ad 5, .inl (Y 1, 6, .inl (aI (K 5)))), (ad 6, .inl (Y 0, 7, .inl (aI (K 6)))), (ad 7, .inl (Y 0, 7, .inl (aI (K 7))))] H := hP
    replace hD : va_D _ [(h, .inr (0, [.int (iZ (K 0 0)), .int (iZ (K 0 1)), .int (iZ (K 0 2)), .int (iZ (K 0 3)), .int (iZ (K 0 4)), .int (iZ (K 0 5)), .int (iZ (K 0 6)), .ref (ad 1), .ref (ad 2), .ref (ad 3), .ref (ad 4), .ref (ad 5), .ref (ad 6), .ref (ad 7)])), (ad 1, .inl (Y 0, 6, .inl (aI (va_up (K 1) ((K 0 2).toNat) a)))), (ad 2, .inl (Y 0, 6, .inl (aI (va_up (K 2) ((K 0 2).toNat) h9)))), (ad 3, .inl (Y 0, 6, .inl (aI (va_up (K 3) ((K 0 2).toNat) w9)))), (ad 4, .inl (Y 1, 6, .inl (aI (va_up (K 4) ((K 0 2).toNat) e9)))), (ad 5, .inl (Y 1, 6, .inl (aI (K 5)))), (ad 6, .inl (Y 0, 7, .inl (aI (K 6)))), (ad 7, .inl (Y 0, 7, .inl (aI (K 7))))] := hD
    refine lv_aload_n hx hb dX0_addTree_50 rfl (lv_at hl 0 rfl) ?_
    refine va_get (D := G) (ci := 0) (v := .ref (ad 5)) (C := RX0) (T := TX0) (N := 14) hx hb hts hFX0 hown hK.1 hP 0 rfl rfl 11 (by decide) kf25 (fun _ h9 => h9) rfl dX0_addTree_51 ?_
    refine lv_aload_n hx hb dX0_addTree_54 rfl (lv_at hl 0 rfl) ?_
    refine va_get (D := G) (ci := 0) (v := .int (iZ (K 0 2))) (C := RX0) (T := TX0) (N := 14) hx hb hts hFX0 hown hK.1 hP 0 rfl rfl 2 (by decide) kf44 (fun _ h9 => h9) rfl dX0_addTree_55 ?_
    refine z_iconst hx hb dX0_addTree_58 ?_
    refine z_zast hx hb hK.1 hP hD hS 5 1 rfl rfl ((K 0 2).toNat) (by omega) (by decide) (by omega) dX0_addTree_59 (fun H locs hP hD hS => ?_)
    replace hP : va_P G vwCl [(h, .inr (0, [.int (iZ (K 0 0)), .int (iZ (K 0 1)), .int (iZ (K 0 2)), .int (iZ (K 0 3)), .int (iZ (K 0 4)), .int (iZ (K 0 5)), .int (iZ (K 0 6)), .ref (ad 1), .ref (ad 2), .ref (ad 3), .ref (ad 4), .ref (ad 5), .ref (ad 6), .ref (ad 7)])), (ad 1, .inl (Y 0, 6, .inl (aI (va_up (K 1) ((K 0 2).toNat) a)))), (ad 2, .inl (Y 0, 6, .inl (aI (va_up (K 2) ((K 0 2).toNat) h9)))), (ad 3, .inl (Y 0, 6, .inl (aI (va_up (K 3) ((K 0 2).toNat) w9)))), (ad 4, .inl (Y 1, 6, .inl (aI (va_up (K 4) ((K 0 2).toNat) e9)))), (ad 5, .inl (Y 1, 6, .inl (aI (va_up (K 5) ((K 0 2).toNat) 0)))), (ad 6, .inl (Y 0, 7, .inl (aI (K 6)))), (ad 7, .inl (Y 0, 7, .inl (aI (K 7))))] H := hP
    replace hD : va_D _ [(h, .inr (0, [.int (iZ (K 0 0)), .int (iZ (K 0 1)), .int (iZ (K 0 2)), .int (iZ (K 0 3)), .int (iZ (K 0 4)), .int (iZ (K 0 5)), .int (iZ (K 0 6)), .ref (ad 1), .ref (ad 2), .ref (ad 3), .ref (ad 4), .ref (ad 5), .ref (ad 6), .ref (ad 7)])), (ad 1, .inl (Y 0, 6, .inl (aI (va_up (K 1) ((K 0 2).toNat) a)))), (ad 2, .inl (Y 0, 6, .inl (aI (va_up (K 2) ((K 0 2).toNat) h9)))), (ad 3, .inl (Y 0, 6, .inl (aI (va_up (K 3) ((K 0 2).toNat) w9)))), (ad 4, .inl (Y 1, 6, .inl (aI (va_up (K 4) ((K 0 2).toNat) e9)))), (ad 5, .inl (Y 1, 6, .inl (aI (va_up (K 5) ((K 0 2).toNat) 0)))), (ad 6, .inl (Y 0, 7, .inl (aI (K 6)))), (ad 7, .inl (Y 0, 7, .inl (aI (K 7))))] := hD
    refine lv_aload_n hx hb dX0_addTree_60 rfl (lv_at hl 0 rfl) ?_
    refine lv_dup hx hb dX0_addTree_61 rfl ?_
    refine va_get (D := G) (ci := 0) (v := .int (iZ (K 0 2))) (C := RX0) (T := TX0) (N := 14) hx hb hts hFX0 hown hK.1 hP 0 rfl rfl 2 (by decide) kf44 (fun _ h9 => h9) rfl dX0_addTree_62 ?_
    refine z_iconst hx hb dX0_addTree_65 ?_
    refine z_iadd hx hb dX0_addTree_66 ?_
    refine va_put (D := G) (ci := 0) (v := .int (iZ (K 0 2 + 1))) (ty := .int) (C := RX0) (T := TX0) (N := 14) hx hb hts hFX0 tyX0 tyX0_ok nmX0 hown hK.1 hP hD hS 0 rfl rfl 2 (by decide) kf44 (fun _ h9 => h9) rfl (by decide +kernel) rfl rfl (Nat.le_of_ble_eq_true rfl) dX0_addTree_67 (fun H locs hP hD hS => ?_)
    replace hP : va_P G vwCl [(h, .inr (0, [.int (iZ (K 0 0)), .int (iZ (K 0 1)), .int (iZ (K 0 2 + 1)), .int (iZ (K 0 3)), .int (iZ (K 0 4)), .int (iZ (K 0 5)), .int (iZ (K 0 6)), .ref (ad 1), .ref (ad 2), .ref (ad 3), .ref (ad 4), .ref (ad 5), .ref (ad 6), .ref (ad 7)])), (ad 1, .inl (Y 0, 6, .inl (aI (va_up (K 1) ((K 0 2).toNat) a)))), (ad 2, .inl (Y 0, 6, .inl (aI (va_up (K 2) ((K 0 2).toNat) h9)))), (ad 3, .inl (Y 0, 6, .inl (aI (va_up (K 3) ((K 0 2).toNat) w9)))), (ad 4, .inl (Y 1, 6, .inl (aI (va_up (K 4) ((K 0 2).toNat) e9)))), (ad 5, .inl (Y 1, 6, .inl (aI (va_up (K 5) ((K 0 2).toNat) 0)))), (ad 6, .inl (Y 0, 7, .inl (aI (K 6)))), (ad 7, .inl (Y 0, 7, .inl (aI (K 7))))] H := hP
    replace hD : va_D _ [(h, .inr (0, [.int (iZ (K 0 0)), .int (iZ (K 0 1)), .int (iZ (K 0 2 + 1)), .int (iZ (K 0 3)), .int (iZ (K 0 4)), .int (iZ (K 0 5)), .int (iZ (K 0 6)), .ref (ad 1), .ref (ad 2), .ref (ad 3), .ref (ad 4), .ref (ad 5), .ref (ad 6), .ref (ad 7)])), (ad 1, .inl (Y 0, 6, .inl (aI (va_up (K 1) ((K 0 2).toNat) a)))), (ad 2, .inl (Y 0, 6, .inl (aI (va_up (K 2) ((K 0 2).toNat) h9)))), (ad 3, .inl (Y 0, 6, .inl (aI (va_up (K 3) ((K 0 2).toNat) w9)))), (ad 4, .inl (Y 1, 6, .inl (aI (va_up (K 4) ((K 0 2).toNat) e9)))), (ad 5, .inl (Y 1, 6, .inl (aI (va_up (K 5) ((K 0 2).toNat) 0)))), (ad 6, .inl (Y 0, 7, .inl (aI (K 6)))), (ad 7, .inl (Y 0, 7, .inl (aI (K 7))))] := hD
    have hP9 : va_P G vwCl (cmW Y h ad (adT K a h9 e9 w9)) H := hP
    exact W.vret hx hb hr (fun t9 ht9 _ => ⟨rfl, by rw [ht9]; exact hP9, hS.F ht9⟩) hS.2.2 dX0_addTree_70
  · skip
    exfalso; omega

set_option maxHeartbeats 4000000 in
set_option maxRecDepth 100000 in
theorem c_X0_addPerson (l : Launch) (G : va_G) (Y : Nat → ClassId) (h : Nat) (ad : Nat → Nat) (K : Kom) (a w9 : Int) (r : 0 ≤ K 0 3 ∧ K 0 3 ≤ 6) : Met l yX0_addPerson wsX0_addPerson ({ frames := 0, cells := 0, slots := 0, locals := 0 }) (mP G Y [.ref h, .int (iZ a), .int (iZ w9)] (cmW Y h ad K)) (mQ G (cmW Y h ad K) none (cmW Y h ad (adP K a w9))) 0 0 (fun q => q ∈ List.map Prod.fst (cmW Y h ad K)) := by
  refine Met.ofW (cc := cX0_addPerson) (maxL := 3) (ret := none) (by decide) rfl ?_
  intro p e s m args below meth c s₁ B hml hv
  obtain ⟨rfl, hK, hP, hD0⟩ := hv
  have hx := B.exec
  have hb := B.bytes
  have hr := B.returns
  have hts := atoms_spec (ws := wsX0_addPerson) B.pre
  have hown : s.vm.findClass RX0 = some m.cls := findClass_of_methodNamed B.named
  have hlocks := B.notSynchronized
  have hFX0 : ∀ w ∈ wsX00, w ∈ wsX0_addPerson := by decide +kernel
  have kf47 := (hts (.fieldLink RX0 47 "ShadeVotes$Commune" "people" "I") (by decide +kernel))
  have kf28 := (hts (.fieldLink RX0 28 "ShadeVotes$Commune" "personCell" "[I") (by decide +kernel))
  have kf31 := (hts (.fieldLink RX0 31 "ShadeVotes$Commune" "personWeight" "[I") (by decide +kernel))
  have hD := va_D_self hD0
  have hS : va_S (fun q => q ∈ List.map Prod.fst (cmW Y h ad K)) s.heap s.heap [] := va_S.rf
  obtain ⟨H, hHe⟩ : ∃ H, H = s.heap := ⟨_, rfl⟩
  rw [← hHe] at hP
  replace hS : va_S (fun q => q ∈ List.map Prod.fst (cmW Y h ad K)) s.heap H [] := by rw [hHe]; exact hS
  have hl := lv_entry ([.ref h, .int (iZ a), .int (iZ w9)]) (n := 3) (Nat.le_of_ble_eq_true rfl)
  rw [lg_entry_eq]
  generalize (lg_sl ([.ref h, .int (iZ a), .int (iZ w9)]) ++ List.replicate (3 - (lg_sl ([.ref h, .int (iZ a), .int (iZ w9)])).length) Slot.unset).toArray = ls at hl ⊢
  replace hl : lv_has ls 3 [(0, .ref h), (1, .int (iZ a)), (2, .int (iZ w9))] := hl
  obtain ⟨locs, hLe⟩ : ∃ locs : List Loc, locs = [] := ⟨_, rfl⟩
  rw [← hLe] at hS ⊢
  have hW0 : ∀ {Q : State → Prop} {g : JFrame}, W p l e ({ frames := 0, cells := 0, slots := 0, locals := 0 }) s m [.ref h, .int (iZ a), .int (iZ w9)].toArray below meth c H locs 0 0 Q g → W p l e ({ frames := 0, cells := 0, slots := 0, locals := 0 }) s m [.ref h, .int (iZ a), .int (iZ w9)].toArray below meth c s.heap locs 0 0 Q g := fun h => by rw [← hHe]; exact h
  refine hW0 ?_
  clear hW0 hHe hLe
  refine lv_aload_n hx hb dX0_addPerson_0 rfl (lv_at hl 0 rfl) ?_
  refine va_get (D := G) (ci := 0) (v := .int (iZ (K 0 3))) (C := RX0) (T := TX0) (N := 14) hx hb hts hFX0 hown hK.1 hP 0 rfl rfl 3 (by decide) kf47 (fun _ h9 => h9) rfl dX0_addPerson_1 ?_
  refine z_bipush hx hb dX0_addPerson_4 (by decide) ?_
  refine z_icmp_lt (tgt := 10) hx hb dX0_addPerson_6 (by decide) (by omega) (fun c_1 => ?_) (fun c_1 => ?_)
  · skip
    refine lv_aload_n hx hb dX0_addPerson_10 rfl (lv_at hl 0 rfl) ?_
    refine va_get (D := G) (ci := 0) (v := .ref (ad 6)) (C := RX0) (T := TX0) (N := 14) hx hb hts hFX0 hown hK.1 hP 0 rfl rfl 12 (by decide) kf28 (fun _ h9 => h9) rfl dX0_addPerson_11 ?_
    refine lv_aload_n hx hb dX0_addPerson_14 rfl (lv_at hl 0 rfl) ?_
    refine va_get (D := G) (ci := 0) (v := .int (iZ (K 0 3))) (C := RX0) (T := TX0) (N := 14) hx hb hts hFX0 hown hK.1 hP 0 rfl rfl 3 (by decide) kf47 (fun _ h9 => h9) rfl dX0_addPerson_15 ?_
    refine lv_iload_n hx hb dX0_addPerson_18 rfl (lv_at hl 1 rfl) ?_
    refine z_iast hx hb hK.1 hP hD hS 6 0 rfl rfl ((K 0 3).toNat) (by omega) (by decide) dX0_addPerson_19 (fun H locs hP hD hS => ?_)
    replace hP : va_P G vwCl [(h, .inr (0, [.int (iZ (K 0 0)), .int (iZ (K 0 1)), .int (iZ (K 0 2)), .int (iZ (K 0 3)), .int (iZ (K 0 4)), .int (iZ (K 0 5)), .int (iZ (K 0 6)), .ref (ad 1), .ref (ad 2), .ref (ad 3), .ref (ad 4), .ref (ad 5), .ref (ad 6), .ref (ad 7)])), (ad 1, .inl (Y 0, 6, .inl (aI (K 1)))), (ad 2, .inl (Y 0, 6, .inl (aI (K 2)))), (ad 3, .inl (Y 0, 6, .inl (aI (K 3)))), (ad 4, .inl (Y 1, 6, .inl (aI (K 4)))), (ad 5, .inl (Y 1, 6, .inl (aI (K 5)))), (ad 6, .inl (Y 0, 7, .inl (aI (va_up (K 6) ((K 0 3).toNat) a)))), (ad 7, .inl (Y 0, 7, .inl (aI (K 7))))] H := hP
    replace hD : va_D _ [(h, .inr (0, [.int (iZ (K 0 0)), .int (iZ (K 0 1)), .int (iZ (K 0 2)), .int (iZ (K 0 3)), .int (iZ (K 0 4)), .int (iZ (K 0 5)), .int (iZ (K 0 6)), .ref (ad 1), .ref (ad 2), .ref (ad 3), .ref (ad 4), .ref (ad 5), .ref (ad 6), .ref (ad 7)])), (ad 1, .inl (Y 0, 6, .inl (aI (K 1)))), (ad 2, .inl (Y 0, 6, .inl (aI (K 2)))), (ad 3, .inl (Y 0, 6, .inl (aI (K 3)))), (ad 4, .inl (Y 1, 6, .inl (aI (K 4)))), (ad 5, .inl (Y 1, 6, .inl (aI (K 5)))), (ad 6, .inl (Y 0, 7, .inl (aI (va_up (K 6) ((K 0 3).toNat) a)))), (ad 7, .inl (Y 0, 7, .inl (aI (K 7))))] := hD
    refine lv_aload_n hx hb dX0_addPerson_20 rfl (lv_at hl 0 rfl) ?_
    refine va_get (D := G) (ci := 0) (v := .ref (ad 7)) (C := RX0) (T := TX0) (N := 14) hx hb hts hFX0 hown hK.1 hP 0 rfl rfl 13 (by decide) kf31 (fun _ h9 => h9) rfl dX0_addPerson_21 ?_
    refine lv_aload_n hx hb dX0_addPerson_24 rfl (lv_at hl 0 rfl) ?_
    refine va_get (D := G) (ci := 0) (v := .int (iZ (K 0 3))) (C := RX0) (T := TX0) (N := 14) hx hb hts hFX0 hown hK.1 hP 0 rfl rfl 3 (by decide) kf47 (fun _ h9 => h9) rfl dX0_addPerson_25 ?_
    refine lv_iload_n hx hb dX0_addPerson_28 rfl (lv_at hl 2 rfl) ?_
    refine z_iast hx hb hK.1 hP hD hS 7 0 rfl rfl ((K 0 3).toNat) (by omega) (by decide) dX0_addPerson_29 (fun H locs hP hD hS => ?_)
    replace hP : va_P G vwCl [(h, .inr (0, [.int (iZ (K 0 0)), .int (iZ (K 0 1)), .int (iZ (K 0 2)), .int (iZ (K 0 3)), .int (iZ (K 0 4)), .int (iZ (K 0 5)), .int (iZ (K 0 6)), .ref (ad 1), .ref (ad 2), .ref (ad 3), .ref (ad 4), .ref (ad 5), .ref (ad 6), .ref (ad 7)])), (ad 1, .inl (Y 0, 6, .inl (aI (K 1)))), (ad 2, .inl (Y 0, 6, .inl (aI (K 2)))), (ad 3, .inl (Y 0, 6, .inl (aI (K 3)))), (ad 4, .inl (Y 1, 6, .inl (aI (K 4)))), (ad 5, .inl (Y 1, 6, .inl (aI (K 5)))), (ad 6, .inl (Y 0, 7, .inl (aI (va_up (K 6) ((K 0 3).toNat) a)))), (ad 7, .inl (Y 0, 7, .inl (aI (va_up (K 7) ((K 0 3).toNat) w9))))] H := hP
    replace hD : va_D _ [(h, .inr (0, [.int (iZ (K 0 0)), .int (iZ (K 0 1)), .int (iZ (K 0 2)), .int (iZ (K 0 3)), .int (iZ (K 0 4)), .int (iZ (K 0 5)), .int (iZ (K 0 6)), .ref (ad 1), .ref (ad 2), .ref (ad 3), .ref (ad 4), .ref (ad 5), .ref (ad 6), .ref (ad 7)])), (ad 1, .inl (Y 0, 6, .inl (aI (K 1)))), (ad 2, .inl (Y 0, 6, .inl (aI (K 2)))), (ad 3, .inl (Y 0, 6, .inl (aI (K 3)))), (ad 4, .inl (Y 1, 6, .inl (aI (K 4)))), (ad 5, .inl (Y 1, 6, .inl (aI (K 5)))), (ad 6, .inl (Y 0, 7, .inl (aI (va_up (K 6) ((K 0 3).toNat) a)))), (ad 7, .inl (Y 0, 7, .inl (aI (va_up (K 7) ((K 0 3).toNat) w9))))] := hD
    refine lv_aload_n hx hb dX0_addPerson_30 rfl (lv_at hl 0 rfl) ?_
    refine lv_dup hx hb dX0_addPerson_31 rfl ?_
    refine va_get (D := G) (ci := 0) (v := .int (iZ (K 0 3))) (C := RX0) (T := TX0) (N := 14) hx hb hts hFX0 hown hK.1 hP 0 rfl rfl 3 (by decide) kf47 (fun _ h9 => h9) rfl dX0_addPerson_32 ?_
    refine z_iconst hx hb dX0_addPerson_35 ?_
    refine z_iadd hx hb dX0_addPerson_36 ?_
    refine va_put (D := G) (ci := 0) (v := .int (iZ (K 0 3 + 1))) (ty := .int) (C := RX0) (T := TX0) (N := 14) hx hb hts hFX0 tyX0 tyX0_ok nmX0 hown hK.1 hP hD hS 0 rfl rfl 3 (by decide) kf47 (fun _ h9 => h9) rfl (by decide +kernel) rfl rfl (Nat.le_of_ble_eq_true rfl) dX0_addPerson_37 (fun H locs hP hD hS => ?_)
    replace hP : va_P G vwCl [(h, .inr (0, [.int (iZ (K 0 0)), .int (iZ (K 0 1)), .int (iZ (K 0 2)), .int (iZ (K 0 3 + 1)), .int (iZ (K 0 4)), .int (iZ (K 0 5)), .int (iZ (K 0 6)), .ref (ad 1), .ref (ad 2), .ref (ad 3), .ref (ad 4), .ref (ad 5), .ref (ad 6), .ref (ad 7)])), (ad 1, .inl (Y 0, 6, .inl (aI (K 1)))), (ad 2, .inl (Y 0, 6, .inl (aI (K 2)))), (ad 3, .inl (Y 0, 6, .inl (aI (K 3)))), (ad 4, .inl (Y 1, 6, .inl (aI (K 4)))), (ad 5, .inl (Y 1, 6, .inl (aI (K 5)))), (ad 6, .inl (Y 0, 7, .inl (aI (va_up (K 6) ((K 0 3).toNat) a)))), (ad 7, .inl (Y 0, 7, .inl (aI (va_up (K 7) ((K 0 3).toNat) w9))))] H := hP
    replace hD : va_D _ [(h, .inr (0, [.int (iZ (K 0 0)), .int (iZ (K 0 1)), .int (iZ (K 0 2)), .int (iZ (K 0 3 + 1)), .int (iZ (K 0 4)), .int (iZ (K 0 5)), .int (iZ (K 0 6)), .ref (ad 1), .ref (ad 2), .ref (ad 3), .ref (ad 4), .ref (ad 5), .ref (ad 6), .ref (ad 7)])), (ad 1, .inl (Y 0, 6, .inl (aI (K 1)))), (ad 2, .inl (Y 0, 6, .inl (aI (K 2)))), (ad 3, .inl (Y 0, 6, .inl (aI (K 3)))), (ad 4, .inl (Y 1, 6, .inl (aI (K 4)))), (ad 5, .inl (Y 1, 6, .inl (aI (K 5)))), (ad 6, .inl (Y 0, 7, .inl (aI (va_up (K 6) ((K 0 3).toNat) a)))), (ad 7, .inl (Y 0, 7, .inl (aI (va_up (K 7) ((K 0 3).toNat) w9))))] := hD
    have hP9 : va_P G vwCl (cmW Y h ad (adP K a w9)) H := hP
    exact W.vret hx hb hr (fun t9 ht9 _ => ⟨rfl, by rw [ht9]; exact hP9, hS.F ht9⟩) hS.2.2 dX0_addPerson_40
  · skip
    exfalso; omega

set_option maxHeartbeats 4000000 in
set_option maxRecDepth 100000 in
theorem c_X0_growAll (l : Launch) (G : va_G) (Y : Nat → ClassId) (h : Nat) (ad : Nat → Nat) (K : Kom) (hW : cWF K) : Met l yX0_growAll wsX0_growAll ({ frames := 1, cells := 0, slots := 0, locals := 21 }) (mP G Y [.ref h] (cmW Y h ad K)) (mQ G (cmW Y h ad K) none (cmW Y h ad (va_up K 2 (grN K (K 0 2).toNat)))) 0 0 (fun q => q ∈ List.map Prod.fst (cmW Y h ad K)) := by
  refine Met.ofW (cc := cX0_growAll) (maxL := 2) (ret := none) (by decide) rfl ?_
  intro p e s m args below meth c s₁ B hml hv
  obtain ⟨rfl, hK, hP, hD0⟩ := hv
  have hx := B.exec
  have hb := B.bytes
  have hr := B.returns
  have hts := atoms_spec (ws := wsX0_growAll) B.pre
  have hown : s.vm.findClass RX0 = some m.cls := findClass_of_methodNamed B.named
  have hlocks := B.notSynchronized
  have hFX0 : ∀ w ∈ wsX00, w ∈ wsX0_growAll := by decide +kernel
  have kf44 := (hts (.fieldLink RX0 44 "ShadeVotes$Commune" "trees" "I") (by decide +kernel))
  have kf25 := (hts (.fieldLink RX0 25 "ShadeVotes$Commune" "treeFelled" "[Z") (by decide +kernel))
  have kf15 := (hts (.fieldLink RX0 15 "ShadeVotes$Commune" "treeHeight" "[I") (by decide +kernel))
  have hD := va_D_self hD0
  have hS : va_S (fun q => q ∈ List.map Prod.fst (cmW Y h ad K)) s.heap s.heap [] := va_S.rf
  obtain ⟨H, hHe⟩ : ∃ H, H = s.heap := ⟨_, rfl⟩
  rw [← hHe] at hP
  replace hS : va_S (fun q => q ∈ List.map Prod.fst (cmW Y h ad K)) s.heap H [] := by rw [hHe]; exact hS
  have hl := lv_entry ([.ref h]) (n := 2) (Nat.le_of_ble_eq_true rfl)
  rw [lg_entry_eq]
  generalize (lg_sl ([.ref h]) ++ List.replicate (2 - (lg_sl ([.ref h])).length) Slot.unset).toArray = ls at hl ⊢
  replace hl : lv_has ls 2 [(0, .ref h)] := hl
  obtain ⟨locs, hLe⟩ : ∃ locs : List Loc, locs = [] := ⟨_, rfl⟩
  rw [← hLe] at hS ⊢
  have hW0 : ∀ {Q : State → Prop} {g : JFrame}, W p l e ({ frames := 1, cells := 0, slots := 0, locals := 21 }) s m [.ref h].toArray below meth c H locs 0 0 Q g → W p l e ({ frames := 1, cells := 0, slots := 0, locals := 21 }) s m [.ref h].toArray below meth c s.heap locs 0 0 Q g := fun h => by rw [← hHe]; exact h
  refine hW0 ?_
  clear hW0 hHe hLe
  have h0 := hW.1
  refine z_iconst hx hb dX0_growAll_0 ?_
  refine lv_istore_n (lv' := [(1, .int (iZ 0)), (0, .ref h)]) hx hb dX0_growAll_1 rfl hl (by decide) rfl (fun ls hl => ?_)
  obtain ⟨t, fh, hI, hl1, hP1, hD1⟩ : ∃ (t : Nat) (fh : Nat → Int), (fh = grN K t ∧ (t : Int) ≤ K 0 2) ∧ lv_has ls 2 [(1, .int (iZ ((t : Nat) : Int))), (0, .ref h)] ∧ va_P G vwCl [(h, .inr (0, [.int (iZ (K 0 0)), .int (iZ (K 0 1)), .int (iZ (K 0 2)), .int (iZ (K 0 3)), .int (iZ (K 0 4)), .int (iZ (K 0 5)), .int (iZ (K 0 6)), .ref (ad 1), .ref (ad 2), .ref (ad 3), .ref (ad 4), .ref (ad 5), .ref (ad 6), .ref (ad 7)])), (ad 1, .inl (Y 0, 6, .inl (aI (K 1)))), (ad 2, .inl (Y 0, 6, .inl (aI fh))), (ad 3, .inl (Y 0, 6, .inl (aI (K 3)))), (ad 4, .inl (Y 1, 6, .inl (aI (K 4)))), (ad 5, .inl (Y 1, 6, .inl (aI (K 5)))), (ad 6, .inl (Y 0, 7, .inl (aI (K 6)))), (ad 7, .inl (Y 0, 7, .inl (aI (K 7))))] H ∧ va_D (fun q => q ∈ List.map Prod.fst (cmW Y h ad K)) [(h, .inr (0, [.int (iZ (K 0 0)), .int (iZ (K 0 1)), .int (iZ (K 0 2)), .int (iZ (K 0 3)), .int (iZ (K 0 4)), .int (iZ (K 0 5)), .int (iZ (K 0 6)), .ref (ad 1), .ref (ad 2), .ref (ad 3), .ref (ad 4), .ref (ad 5), .ref (ad 6), .ref (ad 7)])), (ad 1, .inl (Y 0, 6, .inl (aI (K 1)))), (ad 2, .inl (Y 0, 6, .inl (aI fh))), (ad 3, .inl (Y 0, 6, .inl (aI (K 3)))), (ad 4, .inl (Y 1, 6, .inl (aI (K 4)))), (ad 5, .inl (Y 1, 6, .inl (aI (K 5)))), (ad 6, .inl (Y 0, 7, .inl (aI (K 6)))), (ad 7, .inl (Y 0, 7, .inl (aI (K 7))))] := ⟨0, K 2, by exact ⟨rfl, by omega⟩, lv_sub hl [0, 1] rfl, hP, hD⟩
  clear hl hP hD
  have hl := hl1
  clear hl1
  have hP := hP1
  have hD := hD1
  clear hP1 hD1
  obtain ⟨n_, hn_⟩ : ∃ n_ : Nat, (K 0 2).toNat - t < n_ := ⟨_, Nat.lt_succ_self _⟩
  induction n_ generalizing t fh ls H locs with
  | zero => exact absurd hn_ (Nat.not_lt_zero _)
  | succ n_ ih1 =>
    have ht9 := hW.2.1 t
    have hg9 : fh t = K 2 t := by rw [hI.1]; exact grN_hi K t t (Nat.le_refl t)
    refine lv_iload_n hx hb dX0_growAll_2 rfl (lv_at hl 0 rfl) ?_
    refine lv_aload_n hx hb dX0_growAll_3 rfl (lv_at hl 1 rfl) ?_
    refine va_get (D := G) (ci := 0) (v := .int (iZ (K 0 2))) (C := RX0) (T := TX0) (N := 14) hx hb hts hFX0 hown hK.1 hP 0 rfl rfl 2 (by decide) kf44 (fun _ h9 => h9) rfl dX0_growAll_4 ?_
    refine z_icmp_ge (tgt := 44) hx hb dX0_growAll_7 (by decide) (by omega) (fun c_2 => ?_) (fun c_2 => ?_)
    · skip
      rw [hI.1, show t = (K 0 2).toNat by omega] at hP
      have hP9 : va_P G vwCl (cmW Y h ad (va_up K 2 (grN K (K 0 2).toNat))) H := hP
      exact W.vret hx hb hr (fun t9 ht9 _ => ⟨rfl, by rw [ht9]; exact hP9, hS.F ht9⟩) hS.2.2 dX0_growAll_44
    · skip
      refine lv_aload_n hx hb dX0_growAll_10 rfl (lv_at hl 1 rfl) ?_
      refine va_get (D := G) (ci := 0) (v := .ref (ad 5)) (C := RX0) (T := TX0) (N := 14) hx hb hts hFX0 hown hK.1 hP 0 rfl rfl 11 (by decide) kf25 (fun _ h9 => h9) rfl dX0_growAll_11 ?_
      refine lv_iload_n hx hb dX0_growAll_14 rfl (lv_at hl 0 rfl) ?_
      refine z_zald hx hb hK.1 hP 5 1 rfl rfl t (by omega) (by decide) dX0_growAll_15 ?_
      have hb_3 := hW.2.1 t (by omega)
      refine z_if_ne (tgt := 38) hx hb dX0_growAll_16 (by decide) (by omega) (fun c_4 => ?_) (fun c_4 => ?_)
      · skip
        refine lv_iinc (v := iZ ((t + 1 : Nat) : Int)) (lv' := [(1, .int (iZ ((t + 1 : Nat) : Int))), (0, .ref h)]) hx hb dX0_growAll_38 hl (k := 0) rfl (iZ_inc _) (by decide) rfl (fun ls hl => ?_)
        refine lv_goto (tgt := 2) hx hb dX0_growAll_41 (by decide) ?_
        exact ih1 (ls := ls) (t := t + 1) (fh := fh) (H := H) (locs := locs) (hS := hS) (hI := by exact ⟨by rw [grN]; first | rw [if_pos (by omega), hI.1, ← hg9, hI.1] | rw [if_neg (by omega), hI.1], by omega⟩) (hl := lv_sub hl [0, 1] rfl) (hP := hP) (hD := hD) (hn_ := by omega)
      · skip
        refine lv_aload_n hx hb dX0_growAll_19 rfl (lv_at hl 1 rfl) ?_
        refine va_get (D := G) (ci := 0) (v := .ref (ad 2)) (C := RX0) (T := TX0) (N := 14) hx hb hts hFX0 hown hK.1 hP 0 rfl rfl 8 (by decide) kf15 (fun _ h9 => h9) rfl dX0_growAll_20 ?_
        refine lv_iload_n hx hb dX0_growAll_23 rfl (lv_at hl 0 rfl) ?_
        refine lv_aload_n hx hb dX0_growAll_24 rfl (lv_at hl 1 rfl) ?_
        refine va_get (D := G) (ci := 0) (v := .ref (ad 2)) (C := RX0) (T := TX0) (N := 14) hx hb hts hFX0 hown hK.1 hP 0 rfl rfl 8 (by decide) kf15 (fun _ h9 => h9) rfl dX0_growAll_25 ?_
        refine lv_iload_n hx hb dX0_growAll_28 rfl (lv_at hl 0 rfl) ?_
        refine z_iald hx hb hK.1 hP 2 0 rfl rfl t (by omega) (by decide) dX0_growAll_29 ?_
        have hb9 := ht9 (by omega)
        refine z_iconst hx hb dX0_growAll_30 ?_
        refine z_iadd hx hb dX0_growAll_31 ?_
        refine z_bipush hx hb dX0_growAll_32 (by decide) ?_
        refine z_mmin hx hb (hml.trans hl.1.symm) hown (hts (.methodLink RX0 74 Lib.Math.min.name) (by decide +kernel)) (hts (.static Lib.Math.min.name) (by decide +kernel)) (hts (.initialized "java/lang/Math") (by decide +kernel)) (hts (.code Lib.Math.min.name Lib.Math.min.code 2 (some .int)) (by decide +kernel)) (Nat.le_of_ble_eq_true rfl) (Nat.le_of_ble_eq_true rfl) (Nat.zero_le _) (Nat.zero_le _) (by omega) dX0_growAll_34 ?_
        refine z_iast hx hb hK.1 hP hD hS 2 0 rfl rfl t (by omega) (by decide) dX0_growAll_37 (fun H locs hP hD hS => ?_)
        replace hP : va_P G vwCl [(h, .inr (0, [.int (iZ (K 0 0)), .int (iZ (K 0 1)), .int (iZ (K 0 2)), .int (iZ (K 0 3)), .int (iZ (K 0 4)), .int (iZ (K 0 5)), .int (iZ (K 0 6)), .ref (ad 1), .ref (ad 2), .ref (ad 3), .ref (ad 4), .ref (ad 5), .ref (ad 6), .ref (ad 7)])), (ad 1, .inl (Y 0, 6, .inl (aI (K 1)))), (ad 2, .inl (Y 0, 6, .inl (aI (va_up fh t (min (fh t + 1) 20))))), (ad 3, .inl (Y 0, 6, .inl (aI (K 3)))), (ad 4, .inl (Y 1, 6, .inl (aI (K 4)))), (ad 5, .inl (Y 1, 6, .inl (aI (K 5)))), (ad 6, .inl (Y 0, 7, .inl (aI (K 6)))), (ad 7, .inl (Y 0, 7, .inl (aI (K 7))))] H := hP
        replace hD : va_D _ [(h, .inr (0, [.int (iZ (K 0 0)), .int (iZ (K 0 1)), .int (iZ (K 0 2)), .int (iZ (K 0 3)), .int (iZ (K 0 4)), .int (iZ (K 0 5)), .int (iZ (K 0 6)), .ref (ad 1), .ref (ad 2), .ref (ad 3), .ref (ad 4), .ref (ad 5), .ref (ad 6), .ref (ad 7)])), (ad 1, .inl (Y 0, 6, .inl (aI (K 1)))), (ad 2, .inl (Y 0, 6, .inl (aI (va_up fh t (min (fh t + 1) 20))))), (ad 3, .inl (Y 0, 6, .inl (aI (K 3)))), (ad 4, .inl (Y 1, 6, .inl (aI (K 4)))), (ad 5, .inl (Y 1, 6, .inl (aI (K 5)))), (ad 6, .inl (Y 0, 7, .inl (aI (K 6)))), (ad 7, .inl (Y 0, 7, .inl (aI (K 7))))] := hD
        refine lv_iinc (v := iZ ((t + 1 : Nat) : Int)) (lv' := [(1, .int (iZ ((t + 1 : Nat) : Int))), (0, .ref h)]) hx hb dX0_growAll_38 hl (k := 0) rfl (iZ_inc _) (by decide) rfl (fun ls hl => ?_)
        refine lv_goto (tgt := 2) hx hb dX0_growAll_41 (by decide) ?_
        exact ih1 (ls := ls) (t := t + 1) (fh := va_up fh t (min (fh t + 1) 20)) (H := H) (locs := locs) (hS := hS) (hI := by exact ⟨by rw [grN]; first | rw [if_pos (by omega), hI.1, ← hg9, hI.1] | rw [if_neg (by omega), hI.1], by omega⟩) (hl := lv_sub hl [0, 1] rfl) (hP := hP) (hD := hD) (hn_ := by omega)

set_option maxHeartbeats 4000000 in
set_option maxRecDepth 100000 in
theorem c_X0_become (l : Launch) (G : va_G) (Y : Nat → ClassId) (h h2 : Nat) (ad ad2 : Nat → Nat) (K K2 : Kom) (hW2 : cWF K2) : Met l yX0_become wsX0_become ({ frames := 0, cells := 0, slots := 0, locals := 0 }) (mP G Y [.ref h, .ref h2] (cmW Y h ad K ++ cmW Y h2 ad2 K2)) (mQ G (cmW Y h ad K ++ cmW Y h2 ad2 K2) none (cmW Y h ad K2 ++ cmW Y h2 ad2 K2)) 0 0 (fun q => q ∈ List.map Prod.fst (cmW Y h ad K ++ cmW Y h2 ad2 K2)) := by
  refine Met.ofW (cc := cX0_become) (maxL := 3) (ret := none) (by decide) rfl ?_
  intro p e s m args below meth c s₁ B hml hv
  obtain ⟨rfl, hK, hP, hD0⟩ := hv
  have hx := B.exec
  have hb := B.bytes
  have hr := B.returns
  have hts := atoms_spec (ws := wsX0_become) B.pre
  have hown : s.vm.findClass RX0 = some m.cls := findClass_of_methodNamed B.named
  have hlocks := B.notSynchronized
  have hFX0 : ∀ w ∈ wsX00, w ∈ wsX0_become := by decide +kernel
  have kf37 := (hts (.fieldLink RX0 37 "ShadeVotes$Commune" "wide" "I") (by decide +kernel))
  have kf41 := (hts (.fieldLink RX0 41 "ShadeVotes$Commune" "high" "I") (by decide +kernel))
  have kf44 := (hts (.fieldLink RX0 44 "ShadeVotes$Commune" "trees" "I") (by decide +kernel))
  have kf47 := (hts (.fieldLink RX0 47 "ShadeVotes$Commune" "people" "I") (by decide +kernel))
  have kf50 := (hts (.fieldLink RX0 50 "ShadeVotes$Commune" "sunlight" "I") (by decide +kernel))
  have kf53 := (hts (.fieldLink RX0 53 "ShadeVotes$Commune" "day" "I") (by decide +kernel))
  have kf56 := (hts (.fieldLink RX0 56 "ShadeVotes$Commune" "isWinter" "Z") (by decide +kernel))
  have kf28 := (hts (.fieldLink RX0 28 "ShadeVotes$Commune" "personCell" "[I") (by decide +kernel))
  have kf31 := (hts (.fieldLink RX0 31 "ShadeVotes$Commune" "personWeight" "[I") (by decide +kernel))
  have kf9 := (hts (.fieldLink RX0 9 "ShadeVotes$Commune" "treeCell" "[I") (by decide +kernel))
  have kf15 := (hts (.fieldLink RX0 15 "ShadeVotes$Commune" "treeHeight" "[I") (by decide +kernel))
  have kf18 := (hts (.fieldLink RX0 18 "ShadeVotes$Commune" "treeWants" "[I") (by decide +kernel))
  have kf21 := (hts (.fieldLink RX0 21 "ShadeVotes$Commune" "treeEvergreen" "[Z") (by decide +kernel))
  have kf25 := (hts (.fieldLink RX0 25 "ShadeVotes$Commune" "treeFelled" "[Z") (by decide +kernel))
  have hD := va_D_self hD0
  have hS : va_S (fun q => q ∈ List.map Prod.fst (cmW Y h ad K ++ cmW Y h2 ad2 K2)) s.heap s.heap [] := va_S.rf
  obtain ⟨H, hHe⟩ : ∃ H, H = s.heap := ⟨_, rfl⟩
  rw [← hHe] at hP
  replace hS : va_S (fun q => q ∈ List.map Prod.fst (cmW Y h ad K ++ cmW Y h2 ad2 K2)) s.heap H [] := by rw [hHe]; exact hS
  have hl := lv_entry ([.ref h, .ref h2]) (n := 3) (Nat.le_of_ble_eq_true rfl)
  rw [lg_entry_eq]
  generalize (lg_sl ([.ref h, .ref h2]) ++ List.replicate (3 - (lg_sl ([.ref h, .ref h2])).length) Slot.unset).toArray = ls at hl ⊢
  replace hl : lv_has ls 3 [(0, .ref h), (1, .ref h2)] := hl
  obtain ⟨locs, hLe⟩ : ∃ locs : List Loc, locs = [] := ⟨_, rfl⟩
  rw [← hLe] at hS ⊢
  have hW0 : ∀ {Q : State → Prop} {g : JFrame}, W p l e ({ frames := 0, cells := 0, slots := 0, locals := 0 }) s m [.ref h, .ref h2].toArray below meth c H locs 0 0 Q g → W p l e ({ frames := 0, cells := 0, slots := 0, locals := 0 }) s m [.ref h, .ref h2].toArray below meth c s.heap locs 0 0 Q g := fun h => by rw [← hHe]; exact h
  refine hW0 ?_
  clear hW0 hHe hLe
  have h0 := hW2.1
  refine lv_aload_n hx hb dX0_become_0 rfl (lv_at hl 0 rfl) ?_
  refine lv_aload_n hx hb dX0_become_1 rfl (lv_at hl 1 rfl) ?_
  refine va_get (D := G) (ci := 0) (v := .int (iZ (K2 0 0))) (C := RX0) (T := TX0) (N := 14) hx hb hts hFX0 hown hK.1 hP 8 rfl rfl 0 (by decide) kf37 (fun _ h9 => h9) rfl dX0_become_2 ?_
  refine va_put (D := G) (ci := 0) (v := .int (iZ (K2 0 0))) (ty := .int) (C := RX0) (T := TX0) (N := 14) hx hb hts hFX0 tyX0 tyX0_ok nmX0 hown hK.1 hP hD hS 0 rfl rfl 0 (by decide) kf37 (fun _ h9 => h9) rfl (by decide +kernel) rfl rfl (Nat.le_of_ble_eq_true rfl) dX0_become_5 (fun H locs hP hD hS => ?_)
  replace hP : va_P G vwCl [(h, .inr (0, [.int (iZ (K2 0 0)), .int (iZ (K 0 1)), .int (iZ (K 0 2)), .int (iZ (K 0 3)), .int (iZ (K 0 4)), .int (iZ (K 0 5)), .int (iZ (K 0 6)), .ref (ad 1), .ref (ad 2), .ref (ad 3), .ref (ad 4), .ref (ad 5), .ref (ad 6), .ref (ad 7)])), (ad 1, .inl (Y 0, 6, .inl (aI (K 1)))), (ad 2, .inl (Y 0, 6, .inl (aI (K 2)))), (ad 3, .inl (Y 0, 6, .inl (aI (K 3)))), (ad 4, .inl (Y 1, 6, .inl (aI (K 4)))), (ad 5, .inl (Y 1, 6, .inl (aI (K 5)))), (ad 6, .inl (Y 0, 7, .inl (aI (K 6)))), (ad 7, .inl (Y 0, 7, .inl (aI (K 7)))), (h2, .inr (0, [.int (iZ (K2 0 0)), .int (iZ (K2 0 1)), .int (iZ (K2 0 2)), .int (iZ (K2 0 3)), .int (iZ (K2 0 4)), .int (iZ (K2 0 5)), .int (iZ (K2 0 6)), .ref (ad2 1), .ref (ad2 2), .ref (ad2 3), .ref (ad2 4), .ref (ad2 5), .ref (ad2 6), .ref (ad2 7)])), (ad2 1, .inl (Y 0, 6, .inl (aI (K2 1)))), (ad2 2, .inl (Y 0, 6, .inl (aI (K2 2)))), (ad2 3, .inl (Y 0, 6, .inl (aI (K2 3)))), (ad2 4, .inl (Y 1, 6, .inl (aI (K2 4)))), (ad2 5, .inl (Y 1, 6, .inl (aI (K2 5)))), (ad2 6, .inl (Y 0, 7, .inl (aI (K2 6)))), (ad2 7, .inl (Y 0, 7, .inl (aI (K2 7))))] H := hP
  replace hD : va_D _ [(h, .inr (0, [.int (iZ (K2 0 0)), .int (iZ (K 0 1)), .int (iZ (K 0 2)), .int (iZ (K 0 3)), .int (iZ (K 0 4)), .int (iZ (K 0 5)), .int (iZ (K 0 6)), .ref (ad 1), .ref (ad 2), .ref (ad 3), .ref (ad 4), .ref (ad 5), .ref (ad 6), .ref (ad 7)])), (ad 1, .inl (Y 0, 6, .inl (aI (K 1)))), (ad 2, .inl (Y 0, 6, .inl (aI (K 2)))), (ad 3, .inl (Y 0, 6, .inl (aI (K 3)))), (ad 4, .inl (Y 1, 6, .inl (aI (K 4)))), (ad 5, .inl (Y 1, 6, .inl (aI (K 5)))), (ad 6, .inl (Y 0, 7, .inl (aI (K 6)))), (ad 7, .inl (Y 0, 7, .inl (aI (K 7)))), (h2, .inr (0, [.int (iZ (K2 0 0)), .int (iZ (K2 0 1)), .int (iZ (K2 0 2)), .int (iZ (K2 0 3)), .int (iZ (K2 0 4)), .int (iZ (K2 0 5)), .int (iZ (K2 0 6)), .ref (ad2 1), .ref (ad2 2), .ref (ad2 3), .ref (ad2 4), .ref (ad2 5), .ref (ad2 6), .ref (ad2 7)])), (ad2 1, .inl (Y 0, 6, .inl (aI (K2 1)))), (ad2 2, .inl (Y 0, 6, .inl (aI (K2 2)))), (ad2 3, .inl (Y 0, 6, .inl (aI (K2 3)))), (ad2 4, .inl (Y 1, 6, .inl (aI (K2 4)))), (ad2 5, .inl (Y 1, 6, .inl (aI (K2 5)))), (ad2 6, .inl (Y 0, 7, .inl (aI (K2 6)))), (ad2 7, .inl (Y 0, 7, .inl (aI (K2 7))))] := hD
  refine lv_aload_n hx hb dX0_become_8 rfl (lv_at hl 0 rfl) ?_
  refine lv_aload_n hx hb dX0_become_9 rfl (lv_at hl 1 rfl) ?_
  refine va_get (D := G) (ci := 0) (v := .int (iZ (K2 0 1))) (C := RX0) (T := TX0) (N := 14) hx hb hts hFX0 hown hK.1 hP 8 rfl rfl 1 (by decide) kf41 (fun _ h9 => h9) rfl dX0_become_10 ?_
  refine va_put (D := G) (ci := 0) (v := .int (iZ (K2 0 1))) (ty := .int) (C := RX0) (T := TX0) (N := 14) hx hb hts hFX0 tyX0 tyX0_ok nmX0 hown hK.1 hP hD hS 0 rfl rfl 1 (by decide) kf41 (fun _ h9 => h9) rfl (by decide +kernel) rfl rfl (Nat.le_of_ble_eq_true rfl) dX0_become_13 (fun H locs hP hD hS => ?_)
  replace hP : va_P G vwCl [(h, .inr (0, [.int (iZ (K2 0 0)), .int (iZ (K2 0 1)), .int (iZ (K 0 2)), .int (iZ (K 0 3)), .int (iZ (K 0 4)), .int (iZ (K 0 5)), .int (iZ (K 0 6)), .ref (ad 1), .ref (ad 2), .ref (ad 3), .ref (ad 4), .ref (ad 5), .ref (ad 6), .ref (ad 7)])), (ad 1, .inl (Y 0, 6, .inl (aI (K 1)))), (ad 2, .inl (Y 0, 6, .inl (aI (K 2)))), (ad 3, .inl (Y 0, 6, .inl (aI (K 3)))), (ad 4, .inl (Y 1, 6, .inl (aI (K 4)))), (ad 5, .inl (Y 1, 6, .inl (aI (K 5)))), (ad 6, .inl (Y 0, 7, .inl (aI (K 6)))), (ad 7, .inl (Y 0, 7, .inl (aI (K 7)))), (h2, .inr (0, [.int (iZ (K2 0 0)), .int (iZ (K2 0 1)), .int (iZ (K2 0 2)), .int (iZ (K2 0 3)), .int (iZ (K2 0 4)), .int (iZ (K2 0 5)), .int (iZ (K2 0 6)), .ref (ad2 1), .ref (ad2 2), .ref (ad2 3), .ref (ad2 4), .ref (ad2 5), .ref (ad2 6), .ref (ad2 7)])), (ad2 1, .inl (Y 0, 6, .inl (aI (K2 1)))), (ad2 2, .inl (Y 0, 6, .inl (aI (K2 2)))), (ad2 3, .inl (Y 0, 6, .inl (aI (K2 3)))), (ad2 4, .inl (Y 1, 6, .inl (aI (K2 4)))), (ad2 5, .inl (Y 1, 6, .inl (aI (K2 5)))), (ad2 6, .inl (Y 0, 7, .inl (aI (K2 6)))), (ad2 7, .inl (Y 0, 7, .inl (aI (K2 7))))] H := hP
  replace hD : va_D _ [(h, .inr (0, [.int (iZ (K2 0 0)), .int (iZ (K2 0 1)), .int (iZ (K 0 2)), .int (iZ (K 0 3)), .int (iZ (K 0 4)), .int (iZ (K 0 5)), .int (iZ (K 0 6)), .ref (ad 1), .ref (ad 2), .ref (ad 3), .ref (ad 4), .ref (ad 5), .ref (ad 6), .ref (ad 7)])), (ad 1, .inl (Y 0, 6, .inl (aI (K 1)))), (ad 2, .inl (Y 0, 6, .inl (aI (K 2)))), (ad 3, .inl (Y 0, 6, .inl (aI (K 3)))), (ad 4, .inl (Y 1, 6, .inl (aI (K 4)))), (ad 5, .inl (Y 1, 6, .inl (aI (K 5)))), (ad 6, .inl (Y 0, 7, .inl (aI (K 6)))), (ad 7, .inl (Y 0, 7, .inl (aI (K 7)))), (h2, .inr (0, [.int (iZ (K2 0 0)), .int (iZ (K2 0 1)), .int (iZ (K2 0 2)), .int (iZ (K2 0 3)), .int (iZ (K2 0 4)), .int (iZ (K2 0 5)), .int (iZ (K2 0 6)), .ref (ad2 1), .ref (ad2 2), .ref (ad2 3), .ref (ad2 4), .ref (ad2 5), .ref (ad2 6), .ref (ad2 7)])), (ad2 1, .inl (Y 0, 6, .inl (aI (K2 1)))), (ad2 2, .inl (Y 0, 6, .inl (aI (K2 2)))), (ad2 3, .inl (Y 0, 6, .inl (aI (K2 3)))), (ad2 4, .inl (Y 1, 6, .inl (aI (K2 4)))), (ad2 5, .inl (Y 1, 6, .inl (aI (K2 5)))), (ad2 6, .inl (Y 0, 7, .inl (aI (K2 6)))), (ad2 7, .inl (Y 0, 7, .inl (aI (K2 7))))] := hD
  refine lv_aload_n hx hb dX0_become_16 rfl (lv_at hl 0 rfl) ?_
  refine lv_aload_n hx hb dX0_become_17 rfl (lv_at hl 1 rfl) ?_
  refine va_get (D := G) (ci := 0) (v := .int (iZ (K2 0 2))) (C := RX0) (T := TX0) (N := 14) hx hb hts hFX0 hown hK.1 hP 8 rfl rfl 2 (by decide) kf44 (fun _ h9 => h9) rfl dX0_become_18 ?_
  refine va_put (D := G) (ci := 0) (v := .int (iZ (K2 0 2))) (ty := .int) (C := RX0) (T := TX0) (N := 14) hx hb hts hFX0 tyX0 tyX0_ok nmX0 hown hK.1 hP hD hS 0 rfl rfl 2 (by decide) kf44 (fun _ h9 => h9) rfl (by decide +kernel) rfl rfl (Nat.le_of_ble_eq_true rfl) dX0_become_21 (fun H locs hP hD hS => ?_)
  replace hP : va_P G vwCl [(h, .inr (0, [.int (iZ (K2 0 0)), .int (iZ (K2 0 1)), .int (iZ (K2 0 2)), .int (iZ (K 0 3)), .int (iZ (K 0 4)), .int (iZ (K 0 5)), .int (iZ (K 0 6)), .ref (ad 1), .ref (ad 2), .ref (ad 3), .ref (ad 4), .ref (ad 5), .ref (ad 6), .ref (ad 7)])), (ad 1, .inl (Y 0, 6, .inl (aI (K 1)))), (ad 2, .inl (Y 0, 6, .inl (aI (K 2)))), (ad 3, .inl (Y 0, 6, .inl (aI (K 3)))), (ad 4, .inl (Y 1, 6, .inl (aI (K 4)))), (ad 5, .inl (Y 1, 6, .inl (aI (K 5)))), (ad 6, .inl (Y 0, 7, .inl (aI (K 6)))), (ad 7, .inl (Y 0, 7, .inl (aI (K 7)))), (h2, .inr (0, [.int (iZ (K2 0 0)), .int (iZ (K2 0 1)), .int (iZ (K2 0 2)), .int (iZ (K2 0 3)), .int (iZ (K2 0 4)), .int (iZ (K2 0 5)), .int (iZ (K2 0 6)), .ref (ad2 1), .ref (ad2 2), .ref (ad2 3), .ref (ad2 4), .ref (ad2 5), .ref (ad2 6), .ref (ad2 7)])), (ad2 1, .inl (Y 0, 6, .inl (aI (K2 1)))), (ad2 2, .inl (Y 0, 6, .inl (aI (K2 2)))), (ad2 3, .inl (Y 0, 6, .inl (aI (K2 3)))), (ad2 4, .inl (Y 1, 6, .inl (aI (K2 4)))), (ad2 5, .inl (Y 1, 6, .inl (aI (K2 5)))), (ad2 6, .inl (Y 0, 7, .inl (aI (K2 6)))), (ad2 7, .inl (Y 0, 7, .inl (aI (K2 7))))] H := hP
  replace hD : va_D _ [(h, .inr (0, [.int (iZ (K2 0 0)), .int (iZ (K2 0 1)), .int (iZ (K2 0 2)), .int (iZ (K 0 3)), .int (iZ (K 0 4)), .int (iZ (K 0 5)), .int (iZ (K 0 6)), .ref (ad 1), .ref (ad 2), .ref (ad 3), .ref (ad 4), .ref (ad 5), .ref (ad 6), .ref (ad 7)])), (ad 1, .inl (Y 0, 6, .inl (aI (K 1)))), (ad 2, .inl (Y 0, 6, .inl (aI (K 2)))), (ad 3, .inl (Y 0, 6, .inl (aI (K 3)))), (ad 4, .inl (Y 1, 6, .inl (aI (K 4)))), (ad 5, .inl (Y 1, 6, .inl (aI (K 5)))), (ad 6, .inl (Y 0, 7, .inl (aI (K 6)))), (ad 7, .inl (Y 0, 7, .inl (aI (K 7)))), (h2, .inr (0, [.int (iZ (K2 0 0)), .int (iZ (K2 0 1)), .int (iZ (K2 0 2)), .int (iZ (K2 0 3)), .int (iZ (K2 0 4)), .int (iZ (K2 0 5)), .int (iZ (K2 0 6)), .ref (ad2 1), .ref (ad2 2), .ref (ad2 3), .ref (ad2 4), .ref (ad2 5), .ref (ad2 6), .ref (ad2 7)])), (ad2 1, .inl (Y 0, 6, .inl (aI (K2 1)))), (ad2 2, .inl (Y 0, 6, .inl (aI (K2 2)))), (ad2 3, .inl (Y 0, 6, .inl (aI (K2 3)))), (ad2 4, .inl (Y 1, 6, .inl (aI (K2 4)))), (ad2 5, .inl (Y 1, 6, .inl (aI (K2 5)))), (ad2 6, .inl (Y 0, 7, .inl (aI (K2 6)))), (ad2 7, .inl (Y 0, 7, .inl (aI (K2 7))))] := hD
  refine lv_aload_n hx hb dX0_become_24 rfl (lv_at hl 0 rfl) ?_
  refine lv_aload_n hx hb dX0_become_25 rfl (lv_at hl 1 rfl) ?_
  refine va_get (D := G) (ci := 0) (v := .int (iZ (K2 0 3))) (C := RX0) (T := TX0) (N := 14) hx hb hts hFX0 hown hK.1 hP 8 rfl rfl 3 (by decide) kf47 (fun _ h9 => h9) rfl dX0_become_26 ?_
  refine va_put (D := G) (ci := 0) (v := .int (iZ (K2 0 3))) (ty := .int) (C := RX0) (T := TX0) (N := 14) hx hb hts hFX0 tyX0 tyX0_ok nmX0 hown hK.1 hP hD hS 0 rfl rfl 3 (by decide) kf47 (fun _ h9 => h9) rfl (by decide +kernel) rfl rfl (Nat.le_of_ble_eq_true rfl) dX0_become_29 (fun H locs hP hD hS => ?_)
  replace hP : va_P G vwCl [(h, .inr (0, [.int (iZ (K2 0 0)), .int (iZ (K2 0 1)), .int (iZ (K2 0 2)), .int (iZ (K2 0 3)), .int (iZ (K 0 4)), .int (iZ (K 0 5)), .int (iZ (K 0 6)), .ref (ad 1), .ref (ad 2), .ref (ad 3), .ref (ad 4), .ref (ad 5), .ref (ad 6), .ref (ad 7)])), (ad 1, .inl (Y 0, 6, .inl (aI (K 1)))), (ad 2, .inl (Y 0, 6, .inl (aI (K 2)))), (ad 3, .inl (Y 0, 6, .inl (aI (K 3)))), (ad 4, .inl (Y 1, 6, .inl (aI (K 4)))), (ad 5, .inl (Y 1, 6, .inl (aI (K 5)))), (ad 6, .inl (Y 0, 7, .inl (aI (K 6)))), (ad 7, .inl (Y 0, 7, .inl (aI (K 7)))), (h2, .inr (0, [.int (iZ (K2 0 0)), .int (iZ (K2 0 1)), .int (iZ (K2 0 2)), .int (iZ (K2 0 3)), .int (iZ (K2 0 4)), .int (iZ (K2 0 5)), .int (iZ (K2 0 6)), .ref (ad2 1), .ref (ad2 2), .ref (ad2 3), .ref (ad2 4), .ref (ad2 5), .ref (ad2 6), .ref (ad2 7)])), (ad2 1, .inl (Y 0, 6, .inl (aI (K2 1)))), (ad2 2, .inl (Y 0, 6, .inl (aI (K2 2)))), (ad2 3, .inl (Y 0, 6, .inl (aI (K2 3)))), (ad2 4, .inl (Y 1, 6, .inl (aI (K2 4)))), (ad2 5, .inl (Y 1, 6, .inl (aI (K2 5)))), (ad2 6, .inl (Y 0, 7, .inl (aI (K2 6)))), (ad2 7, .inl (Y 0, 7, .inl (aI (K2 7))))] H := hP
  replace hD : va_D _ [(h, .inr (0, [.int (iZ (K2 0 0)), .int (iZ (K2 0 1)), .int (iZ (K2 0 2)), .int (iZ (K2 0 3)), .int (iZ (K 0 4)), .int (iZ (K 0 5)), .int (iZ (K 0 6)), .ref (ad 1), .ref (ad 2), .ref (ad 3), .ref (ad 4), .ref (ad 5), .ref (ad 6), .ref (ad 7)])), (ad 1, .inl (Y 0, 6, .inl (aI (K 1)))), (ad 2, .inl (Y 0, 6, .inl (aI (K 2)))), (ad 3, .inl (Y 0, 6, .inl (aI (K 3)))), (ad 4, .inl (Y 1, 6, .inl (aI (K 4)))), (ad 5, .inl (Y 1, 6, .inl (aI (K 5)))), (ad 6, .inl (Y 0, 7, .inl (aI (K 6)))), (ad 7, .inl (Y 0, 7, .inl (aI (K 7)))), (h2, .inr (0, [.int (iZ (K2 0 0)), .int (iZ (K2 0 1)), .int (iZ (K2 0 2)), .int (iZ (K2 0 3)), .int (iZ (K2 0 4)), .int (iZ (K2 0 5)), .int (iZ (K2 0 6)), .ref (ad2 1), .ref (ad2 2), .ref (ad2 3), .ref (ad2 4), .ref (ad2 5), .ref (ad2 6), .ref (ad2 7)])), (ad2 1, .inl (Y 0, 6, .inl (aI (K2 1)))), (ad2 2, .inl (Y 0, 6, .inl (aI (K2 2)))), (ad2 3, .inl (Y 0, 6, .inl (aI (K2 3)))), (ad2 4, .inl (Y 1, 6, .inl (aI (K2 4)))), (ad2 5, .inl (Y 1, 6, .inl (aI (K2 5)))), (ad2 6, .inl (Y 0, 7, .inl (aI (K2 6)))), (ad2 7, .inl (Y 0, 7, .inl (aI (K2 7))))] := hD
  refine lv_aload_n hx hb dX0_become_32 rfl (lv_at hl 0 rfl) ?_
  refine lv_aload_n hx hb dX0_become_33 rfl (lv_at hl 1 rfl) ?_
  refine va_get (D := G) (ci := 0) (v := .int (iZ (K2 0 4))) (C := RX0) (T := TX0) (N := 14) hx hb hts hFX0 hown hK.1 hP 8 rfl rfl 4 (by decide) kf50 (fun _ h9 => h9) rfl dX0_become_34 ?_
  refine va_put (D := G) (ci := 0) (v := .int (iZ (K2 0 4))) (ty := .int) (C := RX0) (T := TX0) (N := 14) hx hb hts hFX0 tyX0 tyX0_ok nmX0 hown hK.1 hP hD hS 0 rfl rfl 4 (by decide) kf50 (fun _ h9 => h9) rfl (by decide +kernel) rfl rfl (Nat.le_of_ble_eq_true rfl) dX0_become_37 (fun H locs hP hD hS => ?_)
  replace hP : va_P G vwCl [(h, .inr (0, [.int (iZ (K2 0 0)), .int (iZ (K2 0 1)), .int (iZ (K2 0 2)), .int (iZ (K2 0 3)), .int (iZ (K2 0 4)), .int (iZ (K 0 5)), .int (iZ (K 0 6)), .ref (ad 1), .ref (ad 2), .ref (ad 3), .ref (ad 4), .ref (ad 5), .ref (ad 6), .ref (ad 7)])), (ad 1, .inl (Y 0, 6, .inl (aI (K 1)))), (ad 2, .inl (Y 0, 6, .inl (aI (K 2)))), (ad 3, .inl (Y 0, 6, .inl (aI (K 3)))), (ad 4, .inl (Y 1, 6, .inl (aI (K 4)))), (ad 5, .inl (Y 1, 6, .inl (aI (K 5)))), (ad 6, .inl (Y 0, 7, .inl (aI (K 6)))), (ad 7, .inl (Y 0, 7, .inl (aI (K 7)))), (h2, .inr (0, [.int (iZ (K2 0 0)), .int (iZ (K2 0 1)), .int (iZ (K2 0 2)), .int (iZ (K2 0 3)), .int (iZ (K2 0 4)), .int (iZ (K2 0 5)), .int (iZ (K2 0 6)), .ref (ad2 1), .ref (ad2 2), .ref (ad2 3), .ref (ad2 4), .ref (ad2 5), .ref (ad2 6), .ref (ad2 7)])), (ad2 1, .inl (Y 0, 6, .inl (aI (K2 1)))), (ad2 2, .inl (Y 0, 6, .inl (aI (K2 2)))), (ad2 3, .inl (Y 0, 6, .inl (aI (K2 3)))), (ad2 4, .inl (Y 1, 6, .inl (aI (K2 4)))), (ad2 5, .inl (Y 1, 6, .inl (aI (K2 5)))), (ad2 6, .inl (Y 0, 7, .inl (aI (K2 6)))), (ad2 7, .inl (Y 0, 7, .inl (aI (K2 7))))] H := hP
  replace hD : va_D _ [(h, .inr (0, [.int (iZ (K2 0 0)), .int (iZ (K2 0 1)), .int (iZ (K2 0 2)), .int (iZ (K2 0 3)), .int (iZ (K2 0 4)), .int (iZ (K 0 5)), .int (iZ (K 0 6)), .ref (ad 1), .ref (ad 2), .ref (ad 3), .ref (ad 4), .ref (ad 5), .ref (ad 6), .ref (ad 7)])), (ad 1, .inl (Y 0, 6, .inl (aI (K 1)))), (ad 2, .inl (Y 0, 6, .inl (aI (K 2)))), (ad 3, .inl (Y 0, 6, .inl (aI (K 3)))), (ad 4, .inl (Y 1, 6, .inl (aI (K 4)))), (ad 5, .inl (Y 1, 6, .inl (aI (K 5)))), (ad 6, .inl (Y 0, 7, .inl (aI (K 6)))), (ad 7, .inl (Y 0, 7, .inl (aI (K 7)))), (h2, .inr (0, [.int (iZ (K2 0 0)), .int (iZ (K2 0 1)), .int (iZ (K2 0 2)), .int (iZ (K2 0 3)), .int (iZ (K2 0 4)), .int (iZ (K2 0 5)), .int (iZ (K2 0 6)), .ref (ad2 1), .ref (ad2 2), .ref (ad2 3), .ref (ad2 4), .ref (ad2 5), .ref (ad2 6), .ref (ad2 7)])), (ad2 1, .inl (Y 0, 6, .inl (aI (K2 1)))), (ad2 2, .inl (Y 0, 6, .inl (aI (K2 2)))), (ad2 3, .inl (Y 0, 6, .inl (aI (K2 3)))), (ad2 4, .inl (Y 1, 6, .inl (aI (K2 4)))), (ad2 5, .inl (Y 1, 6, .inl (aI (K2 5)))), (ad2 6, .inl (Y 0, 7, .inl (aI (K2 6)))), (ad2 7, .inl (Y 0, 7, .inl (aI (K2 7))))] := hD
  refine lv_aload_n hx hb dX0_become_40 rfl (lv_at hl 0 rfl) ?_
  refine lv_aload_n hx hb dX0_become_41 rfl (lv_at hl 1 rfl) ?_
  refine va_get (D := G) (ci := 0) (v := .int (iZ (K2 0 5))) (C := RX0) (T := TX0) (N := 14) hx hb hts hFX0 hown hK.1 hP 8 rfl rfl 5 (by decide) kf53 (fun _ h9 => h9) rfl dX0_become_42 ?_
  refine va_put (D := G) (ci := 0) (v := .int (iZ (K2 0 5))) (ty := .int) (C := RX0) (T := TX0) (N := 14) hx hb hts hFX0 tyX0 tyX0_ok nmX0 hown hK.1 hP hD hS 0 rfl rfl 5 (by decide) kf53 (fun _ h9 => h9) rfl (by decide +kernel) rfl rfl (Nat.le_of_ble_eq_true rfl) dX0_become_45 (fun H locs hP hD hS => ?_)
  replace hP : va_P G vwCl [(h, .inr (0, [.int (iZ (K2 0 0)), .int (iZ (K2 0 1)), .int (iZ (K2 0 2)), .int (iZ (K2 0 3)), .int (iZ (K2 0 4)), .int (iZ (K2 0 5)), .int (iZ (K 0 6)), .ref (ad 1), .ref (ad 2), .ref (ad 3), .ref (ad 4), .ref (ad 5), .ref (ad 6), .ref (ad 7)])), (ad 1, .inl (Y 0, 6, .inl (aI (K 1)))), (ad 2, .inl (Y 0, 6, .inl (aI (K 2)))), (ad 3, .inl (Y 0, 6, .inl (aI (K 3)))), (ad 4, .inl (Y 1, 6, .inl (aI (K 4)))), (ad 5, .inl (Y 1, 6, .inl (aI (K 5)))), (ad 6, .inl (Y 0, 7, .inl (aI (K 6)))), (ad 7, .inl (Y 0, 7, .inl (aI (K 7)))), (h2, .inr (0, [.int (iZ (K2 0 0)), .int (iZ (K2 0 1)), .int (iZ (K2 0 2)), .int (iZ (K2 0 3)), .int (iZ (K2 0 4)), .int (iZ (K2 0 5)), .int (iZ (K2 0 6)), .ref (ad2 1), .ref (ad2 2), .ref (ad2 3), .ref (ad2 4), .ref (ad2 5), .ref (ad2 6), .ref (ad2 7)])), (ad2 1, .inl (Y 0, 6, .inl (aI (K2 1)))), (ad2 2, .inl (Y 0, 6, .inl (aI (K2 2)))), (ad2 3, .inl (Y 0, 6, .inl (aI (K2 3)))), (ad2 4, .inl (Y 1, 6, .inl (aI (K2 4)))), (ad2 5, .inl (Y 1, 6, .inl (aI (K2 5)))), (ad2 6, .inl (Y 0, 7, .inl (aI (K2 6)))), (ad2 7, .inl (Y 0, 7, .inl (aI (K2 7))))] H := hP
  replace hD : va_D _ [(h, .inr (0, [.int (iZ (K2 0 0)), .int (iZ (K2 0 1)), .int (iZ (K2 0 2)), .int (iZ (K2 0 3)), .int (iZ (K2 0 4)), .int (iZ (K2 0 5)), .int (iZ (K 0 6)), .ref (ad 1), .ref (ad 2), .ref (ad 3), .ref (ad 4), .ref (ad 5), .ref (ad 6), .ref (ad 7)])), (ad 1, .inl (Y 0, 6, .inl (aI (K 1)))), (ad 2, .inl (Y 0, 6, .inl (aI (K 2)))), (ad 3, .inl (Y 0, 6, .inl (aI (K 3)))), (ad 4, .inl (Y 1, 6, .inl (aI (K 4)))), (ad 5, .inl (Y 1, 6, .inl (aI (K 5)))), (ad 6, .inl (Y 0, 7, .inl (aI (K 6)))), (ad 7, .inl (Y 0, 7, .inl (aI (K 7)))), (h2, .inr (0, [.int (iZ (K2 0 0)), .int (iZ (K2 0 1)), .int (iZ (K2 0 2)), .int (iZ (K2 0 3)), .int (iZ (K2 0 4)), .int (iZ (K2 0 5)), .int (iZ (K2 0 6)), .ref (ad2 1), .ref (ad2 2), .ref (ad2 3), .ref (ad2 4), .ref (ad2 5), .ref (ad2 6), .ref (ad2 7)])), (ad2 1, .inl (Y 0, 6, .inl (aI (K2 1)))), (ad2 2, .inl (Y 0, 6, .inl (aI (K2 2)))), (ad2 3, .inl (Y 0, 6, .inl (aI (K2 3)))), (ad2 4, .inl (Y 1, 6, .inl (aI (K2 4)))), (ad2 5, .inl (Y 1, 6, .inl (aI (K2 5)))), (ad2 6, .inl (Y 0, 7, .inl (aI (K2 6)))), (ad2 7, .inl (Y 0, 7, .inl (aI (K2 7))))] := hD
  refine lv_aload_n hx hb dX0_become_48 rfl (lv_at hl 0 rfl) ?_
  refine lv_aload_n hx hb dX0_become_49 rfl (lv_at hl 1 rfl) ?_
  refine va_get (D := G) (ci := 0) (v := .int (iZ (K2 0 6))) (C := RX0) (T := TX0) (N := 14) hx hb hts hFX0 hown hK.1 hP 8 rfl rfl 6 (by decide) kf56 (fun _ h9 => h9) rfl dX0_become_50 ?_
  refine va_put (D := G) (ci := 0) (v := .int (iZ (K2 0 6))) (ty := .boolean) (C := RX0) (T := TX0) (N := 14) hx hb hts hFX0 tyX0 tyX0_ok nmX0 hown hK.1 hP hD hS 0 rfl rfl 6 (by decide) kf56 (fun _ h9 => h9) rfl (by decide +kernel) (b01_nar (by omega)) (b01_fit (by omega)) (Nat.le_of_ble_eq_true rfl) dX0_become_53 (fun H locs hP hD hS => ?_)
  replace hP : va_P G vwCl [(h, .inr (0, [.int (iZ (K2 0 0)), .int (iZ (K2 0 1)), .int (iZ (K2 0 2)), .int (iZ (K2 0 3)), .int (iZ (K2 0 4)), .int (iZ (K2 0 5)), .int (iZ (K2 0 6)), .ref (ad 1), .ref (ad 2), .ref (ad 3), .ref (ad 4), .ref (ad 5), .ref (ad 6), .ref (ad 7)])), (ad 1, .inl (Y 0, 6, .inl (aI (K 1)))), (ad 2, .inl (Y 0, 6, .inl (aI (K 2)))), (ad 3, .inl (Y 0, 6, .inl (aI (K 3)))), (ad 4, .inl (Y 1, 6, .inl (aI (K 4)))), (ad 5, .inl (Y 1, 6, .inl (aI (K 5)))), (ad 6, .inl (Y 0, 7, .inl (aI (K 6)))), (ad 7, .inl (Y 0, 7, .inl (aI (K 7)))), (h2, .inr (0, [.int (iZ (K2 0 0)), .int (iZ (K2 0 1)), .int (iZ (K2 0 2)), .int (iZ (K2 0 3)), .int (iZ (K2 0 4)), .int (iZ (K2 0 5)), .int (iZ (K2 0 6)), .ref (ad2 1), .ref (ad2 2), .ref (ad2 3), .ref (ad2 4), .ref (ad2 5), .ref (ad2 6), .ref (ad2 7)])), (ad2 1, .inl (Y 0, 6, .inl (aI (K2 1)))), (ad2 2, .inl (Y 0, 6, .inl (aI (K2 2)))), (ad2 3, .inl (Y 0, 6, .inl (aI (K2 3)))), (ad2 4, .inl (Y 1, 6, .inl (aI (K2 4)))), (ad2 5, .inl (Y 1, 6, .inl (aI (K2 5)))), (ad2 6, .inl (Y 0, 7, .inl (aI (K2 6)))), (ad2 7, .inl (Y 0, 7, .inl (aI (K2 7))))] H := hP
  replace hD : va_D _ [(h, .inr (0, [.int (iZ (K2 0 0)), .int (iZ (K2 0 1)), .int (iZ (K2 0 2)), .int (iZ (K2 0 3)), .int (iZ (K2 0 4)), .int (iZ (K2 0 5)), .int (iZ (K2 0 6)), .ref (ad 1), .ref (ad 2), .ref (ad 3), .ref (ad 4), .ref (ad 5), .ref (ad 6), .ref (ad 7)])), (ad 1, .inl (Y 0, 6, .inl (aI (K 1)))), (ad 2, .inl (Y 0, 6, .inl (aI (K 2)))), (ad 3, .inl (Y 0, 6, .inl (aI (K 3)))), (ad 4, .inl (Y 1, 6, .inl (aI (K 4)))), (ad 5, .inl (Y 1, 6, .inl (aI (K 5)))), (ad 6, .inl (Y 0, 7, .inl (aI (K 6)))), (ad 7, .inl (Y 0, 7, .inl (aI (K 7)))), (h2, .inr (0, [.int (iZ (K2 0 0)), .int (iZ (K2 0 1)), .int (iZ (K2 0 2)), .int (iZ (K2 0 3)), .int (iZ (K2 0 4)), .int (iZ (K2 0 5)), .int (iZ (K2 0 6)), .ref (ad2 1), .ref (ad2 2), .ref (ad2 3), .ref (ad2 4), .ref (ad2 5), .ref (ad2 6), .ref (ad2 7)])), (ad2 1, .inl (Y 0, 6, .inl (aI (K2 1)))), (ad2 2, .inl (Y 0, 6, .inl (aI (K2 2)))), (ad2 3, .inl (Y 0, 6, .inl (aI (K2 3)))), (ad2 4, .inl (Y 1, 6, .inl (aI (K2 4)))), (ad2 5, .inl (Y 1, 6, .inl (aI (K2 5)))), (ad2 6, .inl (Y 0, 7, .inl (aI (K2 6)))), (ad2 7, .inl (Y 0, 7, .inl (aI (K2 7))))] := hD
  refine z_iconst hx hb dX0_become_56 ?_
  refine lv_istore_n (lv' := [(2, .int (iZ 0)), (0, .ref h), (1, .ref h2)]) hx hb dX0_become_57 rfl hl (by decide) rfl (fun ls hl => ?_)
  obtain ⟨t, f1, f2, f3, f4, f5, hI, hl1, hP1, hD1⟩ : ∃ (t : Nat) (f1 : Nat → Int) (f2 : Nat → Int) (f3 : Nat → Int) (f4 : Nat → Int) (f5 : Nat → Int), (t ≤ 6 ∧ agr f1 (K2 1) t ∧ agr f2 (K2 2) t ∧ agr f3 (K2 3) t ∧ agr f4 (K2 4) t ∧ agr f5 (K2 5) t) ∧ lv_has ls 3 [(2, .int (iZ ((t : Nat) : Int))), (0, .ref h), (1, .ref h2)] ∧ va_P G vwCl [(h, .inr (0, [.int (iZ (K2 0 0)), .int (iZ (K2 0 1)), .int (iZ (K2 0 2)), .int (iZ (K2 0 3)), .int (iZ (K2 0 4)), .int (iZ (K2 0 5)), .int (iZ (K2 0 6)), .ref (ad 1), .ref (ad 2), .ref (ad 3), .ref (ad 4), .ref (ad 5), .ref (ad 6), .ref (ad 7)])), (ad 1, .inl (Y 0, 6, .inl (aI f1))), (ad 2, .inl (Y 0, 6, .inl (aI f2))), (ad 3, .inl (Y 0, 6, .inl (aI f3))), (ad 4, .inl (Y 1, 6, .inl (aI f4))), (ad 5, .inl (Y 1, 6, .inl (aI f5))), (ad 6, .inl (Y 0, 7, .inl (aI (K 6)))), (ad 7, .inl (Y 0, 7, .inl (aI (K 7)))), (h2, .inr (0, [.int (iZ (K2 0 0)), .int (iZ (K2 0 1)), .int (iZ (K2 0 2)), .int (iZ (K2 0 3)), .int (iZ (K2 0 4)), .int (iZ (K2 0 5)), .int (iZ (K2 0 6)), .ref (ad2 1), .ref (ad2 2), .ref (ad2 3), .ref (ad2 4), .ref (ad2 5), .ref (ad2 6), .ref (ad2 7)])), (ad2 1, .inl (Y 0, 6, .inl (aI (K2 1)))), (ad2 2, .inl (Y 0, 6, .inl (aI (K2 2)))), (ad2 3, .inl (Y 0, 6, .inl (aI (K2 3)))), (ad2 4, .inl (Y 1, 6, .inl (aI (K2 4)))), (ad2 5, .inl (Y 1, 6, .inl (aI (K2 5)))), (ad2 6, .inl (Y 0, 7, .inl (aI (K2 6)))), (ad2 7, .inl (Y 0, 7, .inl (aI (K2 7))))] H ∧ va_D (fun q => q ∈ List.map Prod.fst (cmW Y h ad K ++ cmW Y h2 ad2 K2)) [(h, .inr (0, [.int (iZ (K2 0 0)), .int (iZ (K2 0 1)), .int (iZ (K2 0 2)), .int (iZ (K2 0 3)), .int (iZ (K2 0 4)), .int (iZ (K2 0 5)), .int (iZ (K2 0 6)), .ref (ad 1), .ref (ad 2), .ref (ad 3), .ref (ad 4), .ref (ad 5), .ref (ad 6), .ref (ad 7)])), (ad 1, .inl (Y 0, 6, .inl (aI f1))), (ad 2, .inl (Y 0, 6, .inl (aI f2))), (ad 3, .inl (Y 0, 6, .inl (aI f3))), (ad 4, .inl (Y 1, 6, .inl (aI f4))), (ad 5, .inl (Y 1, 6, .inl (aI f5))), (ad 6, .inl (Y 0, 7, .inl (aI (K 6)))), (ad 7, .inl (Y 0, 7, .inl (aI (K 7)))), (h2, .inr (0, [.int (iZ (K2 0 0)), .int (iZ (K2 0 1)), .int (iZ (K2 0 2)), .int (iZ (K2 0 3)), .int (iZ (K2 0 4)), .int (iZ (K2 0 5)), .int (iZ (K2 0 6)), .ref (ad2 1), .ref (ad2 2), .ref (ad2 3), .ref (ad2 4), .ref (ad2 5), .ref (ad2 6), .ref (ad2 7)])), (ad2 1, .inl (Y 0, 6, .inl (aI (K2 1)))), (ad2 2, .inl (Y 0, 6, .inl (aI (K2 2)))), (ad2 3, .inl (Y 0, 6, .inl (aI (K2 3)))), (ad2 4, .inl (Y 1, 6, .inl (aI (K2 4)))), (ad2 5, .inl (Y 1, 6, .inl (aI (K2 5)))), (ad2 6, .inl (Y 0, 7, .inl (aI (K2 6)))), (ad2 7, .inl (Y 0, 7, .inl (aI (K2 7))))] := ⟨0, K 1, K 2, K 3, K 4, K 5, by exact ⟨by omega, agr_0, agr_0, agr_0, agr_0, agr_0⟩, lv_sub hl [0, 1, 2] rfl, hP, hD⟩
  clear hl hP hD
  have hl := hl1
  clear hl1
  have hP := hP1
  have hD := hD1
  clear hP1 hD1
  obtain ⟨n_, hn_⟩ : ∃ n_ : Nat, 6 - t < n_ := ⟨_, Nat.lt_succ_self _⟩
  induction n_ generalizing t f1 f2 f3 f4 f5 ls H locs with
  | zero => exact absurd hn_ (Nat.not_lt_zero _)
  | succ n_ ih1 =>
    refine lv_iload_n hx hb dX0_become_58 rfl (lv_at hl 0 rfl) ?_
    refine z_iconst hx hb dX0_become_59 ?_
    refine z_icmp_gt (tgt := 129) hx hb dX0_become_60 (by decide) (by omega) (fun c_2 => ?_) (fun c_2 => ?_)
    · skip
      have hI_0 := hI
      refine z_iconst hx hb dX0_become_129 ?_
      refine lv_istore_n (lv' := [(2, .int (iZ 0)), (0, .ref h), (1, .ref h2)]) hx hb dX0_become_130 rfl hl (by decide) rfl (fun ls hl => ?_)
      obtain ⟨u, f6, f7, hI, hl1, hP1, hD1⟩ : ∃ (u : Nat) (f6 : Nat → Int) (f7 : Nat → Int), (u ≤ 7 ∧ agr f6 (K2 6) u ∧ agr f7 (K2 7) u) ∧ lv_has ls 3 [(2, .int (iZ ((u : Nat) : Int))), (0, .ref h), (1, .ref h2)] ∧ va_P G vwCl [(h, .inr (0, [.int (iZ (K2 0 0)), .int (iZ (K2 0 1)), .int (iZ (K2 0 2)), .int (iZ (K2 0 3)), .int (iZ (K2 0 4)), .int (iZ (K2 0 5)), .int (iZ (K2 0 6)), .ref (ad 1), .ref (ad 2), .ref (ad 3), .ref (ad 4), .ref (ad 5), .ref (ad 6), .ref (ad 7)])), (ad 1, .inl (Y 0, 6, .inl (aI f1))), (ad 2, .inl (Y 0, 6, .inl (aI f2))), (ad 3, .inl (Y 0, 6, .inl (aI f3))), (ad 4, .inl (Y 1, 6, .inl (aI f4))), (ad 5, .inl (Y 1, 6, .inl (aI f5))), (ad 6, .inl (Y 0, 7, .inl (aI f6))), (ad 7, .inl (Y 0, 7, .inl (aI f7))), (h2, .inr (0, [.int (iZ (K2 0 0)), .int (iZ (K2 0 1)), .int (iZ (K2 0 2)), .int (iZ (K2 0 3)), .int (iZ (K2 0 4)), .int (iZ (K2 0 5)), .int (iZ (K2 0 6)), .ref (ad2 1), .ref (ad2 2), .ref (ad2 3), .ref (ad2 4), .ref (ad2 5), .ref (ad2 6), .ref (ad2 7)])), (ad2 1, .inl (Y 0, 6, .inl (aI (K2 1)))), (ad2 2, .inl (Y 0, 6, .inl (aI (K2 2)))), (ad2 3, .inl (Y 0, 6, .inl (aI (K2 3)))), (ad2 4, .inl (Y 1, 6, .inl (aI (K2 4)))), (ad2 5, .inl (Y 1, 6, .inl (aI (K2 5)))), (ad2 6, .inl (Y 0, 7, .inl (aI (K2 6)))), (ad2 7, .inl (Y 0, 7, .inl (aI (K2 7))))] H ∧ va_D (fun q => q ∈ List.map Prod.fst (cmW Y h ad K ++ cmW Y h2 ad2 K2)) [(h, .inr (0, [.int (iZ (K2 0 0)), .int (iZ (K2 0 1)), .int (iZ (K2 0 2)), .int (iZ (K2 0 3)), .int (iZ (K2 0 4)), .int (iZ (K2 0 5)), .int (iZ (K2 0 6)), .ref (ad 1), .ref (ad 2), .ref (ad 3), .ref (ad 4), .ref (ad 5), .ref (ad 6), .ref (ad 7)])), (ad 1, .inl (Y 0, 6, .inl (aI f1))), (ad 2, .inl (Y 0, 6, .inl (aI f2))), (ad 3, .inl (Y 0, 6, .inl (aI f3))), (ad 4, .inl (Y 1, 6, .inl (aI f4))), (ad 5, .inl (Y 1, 6, .inl (aI f5))), (ad 6, .inl (Y 0, 7, .inl (aI f6))), (ad 7, .inl (Y 0, 7, .inl (aI f7))), (h2, .inr (0, [.int (iZ (K2 0 0)), .int (iZ (K2 0 1)), .int (iZ (K2 0 2)), .int (iZ (K2 0 3)), .int (iZ (K2 0 4)), .int (iZ (K2 0 5)), .int (iZ (K2 0 6)), .ref (ad2 1), .ref (ad2 2), .ref (ad2 3), .ref (ad2 4), .ref (ad2 5), .ref (ad2 6), .ref (ad2 7)])), (ad2 1, .inl (Y 0, 6, .inl (aI (K2 1)))), (ad2 2, .inl (Y 0, 6, .inl (aI (K2 2)))), (ad2 3, .inl (Y 0, 6, .inl (aI (K2 3)))), (ad2 4, .inl (Y 1, 6, .inl (aI (K2 4)))), (ad2 5, .inl (Y 1, 6, .inl (aI (K2 5)))), (ad2 6, .inl (Y 0, 7, .inl (aI (K2 6)))), (ad2 7, .inl (Y 0, 7, .inl (aI (K2 7))))] := ⟨0, K 6, K 7, by exact ⟨by omega, agr_0, agr_0⟩, lv_sub hl [0, 1, 2] rfl, hP, hD⟩
      clear hl hP hD
      have hl := hl1
      clear hl1
      have hP := hP1
      have hD := hD1
      clear hP1 hD1
      obtain ⟨n_, hn_⟩ : ∃ n_ : Nat, 7 - u < n_ := ⟨_, Nat.lt_succ_self _⟩
      induction n_ generalizing u f6 f7 ls H locs with
      | zero => exact absurd hn_ (Nat.not_lt_zero _)
      | succ n_ ih3 =>
        refine lv_iload_n hx hb dX0_become_131 rfl (lv_at hl 0 rfl) ?_
        refine z_bipush hx hb dX0_become_132 (by decide) ?_
        refine z_icmp_ge (tgt := 167) hx hb dX0_become_134 (by decide) (by omega) (fun c_4 => ?_) (fun c_4 => ?_)
        · skip
          have e7 : u = 7 := by omega
          have e6 : t = 6 := by omega
          obtain ⟨-, a6, a7⟩ := hI
          obtain ⟨-, a1, a2, a3, a4, a5⟩ := hI_0
          subst e7
          subst e6
          have hPa := hP.sub (ws' := cmW Y h ad (bcF K2 f1 f2 f3 f4 f5 f6 f7)) [0, 1, 2, 3, 4, 5, 6, 7] rfl
          have hPb := hP.sub (ws' := cmW Y h2 ad2 K2) [8, 9, 10, 11, 12, 13, 14, 15] rfl
          have hP9 : va_P G vwCl (cmW Y h ad K2 ++ cmW Y h2 ad2 K2) H := va_P.app (cmW_congr (bcF_eq a1 a2 a3 a4 a5 a6 a7) hPa) hPb
          exact W.vret hx hb hr (fun t9 ht9 _ => ⟨rfl, by rw [ht9]; exact hP9, hS.F ht9⟩) hS.2.2 dX0_become_167
        · skip
          refine lv_aload_n hx hb dX0_become_137 rfl (lv_at hl 1 rfl) ?_
          refine va_get (D := G) (ci := 0) (v := .ref (ad 6)) (C := RX0) (T := TX0) (N := 14) hx hb hts hFX0 hown hK.1 hP 0 rfl rfl 12 (by decide) kf28 (fun _ h9 => h9) rfl dX0_become_138 ?_
          refine lv_iload_n hx hb dX0_become_141 rfl (lv_at hl 0 rfl) ?_
          refine lv_aload_n hx hb dX0_become_142 rfl (lv_at hl 2 rfl) ?_
          refine va_get (D := G) (ci := 0) (v := .ref (ad2 6)) (C := RX0) (T := TX0) (N := 14) hx hb hts hFX0 hown hK.1 hP 8 rfl rfl 12 (by decide) kf28 (fun _ h9 => h9) rfl dX0_become_143 ?_
          refine lv_iload_n hx hb dX0_become_146 rfl (lv_at hl 0 rfl) ?_
          refine z_iald hx hb hK.1 hP 14 0 rfl rfl u (by omega) (by decide) dX0_become_147 ?_
          have hb_5 := hW2.2.2.1 u (by omega)
          refine z_iast hx hb hK.1 hP hD hS 6 0 rfl rfl u (by omega) (by decide) dX0_become_148 (fun H locs hP hD hS => ?_)
          replace hP : va_P G vwCl [(h, .inr (0, [.int (iZ (K2 0 0)), .int (iZ (K2 0 1)), .int (iZ (K2 0 2)), .int (iZ (K2 0 3)), .int (iZ (K2 0 4)), .int (iZ (K2 0 5)), .int (iZ (K2 0 6)), .ref (ad 1), .ref (ad 2), .ref (ad 3), .ref (ad 4), .ref (ad 5), .ref (ad 6), .ref (ad 7)])), (ad 1, .inl (Y 0, 6, .inl (aI f1))), (ad 2, .inl (Y 0, 6, .inl (aI f2))), (ad 3, .inl (Y 0, 6, .inl (aI f3))), (ad 4, .inl (Y 1, 6, .inl (aI f4))), (ad 5, .inl (Y 1, 6, .inl (aI f5))), (ad 6, .inl (Y 0, 7, .inl (aI (va_up f6 u ((K2 6) u))))), (ad 7, .inl (Y 0, 7, .inl (aI f7))), (h2, .inr (0, [.int (iZ (K2 0 0)), .int (iZ (K2 0 1)), .int (iZ (K2 0 2)), .int (iZ (K2 0 3)), .int (iZ (K2 0 4)), .int (iZ (K2 0 5)), .int (iZ (K2 0 6)), .ref (ad2 1), .ref (ad2 2), .ref (ad2 3), .ref (ad2 4), .ref (ad2 5), .ref (ad2 6), .ref (ad2 7)])), (ad2 1, .inl (Y 0, 6, .inl (aI (K2 1)))), (ad2 2, .inl (Y 0, 6, .inl (aI (K2 2)))), (ad2 3, .inl (Y 0, 6, .inl (aI (K2 3)))), (ad2 4, .inl (Y 1, 6, .inl (aI (K2 4)))), (ad2 5, .inl (Y 1, 6, .inl (aI (K2 5)))), (ad2 6, .inl (Y 0, 7, .inl (aI (K2 6)))), (ad2 7, .inl (Y 0, 7, .inl (aI (K2 7))))] H := hP
          replace hD : va_D _ [(h, .inr (0, [.int (iZ (K2 0 0)), .int (iZ (K2 0 1)), .int (iZ (K2 0 2)), .int (iZ (K2 0 3)), .int (iZ (K2 0 4)), .int (iZ (K2 0 5)), .int (iZ (K2 0 6)), .ref (ad 1), .ref (ad 2), .ref (ad 3), .ref (ad 4), .ref (ad 5), .ref (ad 6), .ref (ad 7)])), (ad 1, .inl (Y 0, 6, .inl (aI f1))), (ad 2, .inl (Y 0, 6, .inl (aI f2))), (ad 3, .inl (Y 0, 6, .inl (aI f3))), (ad 4, .inl (Y 1, 6, .inl (aI f4))), (ad 5, .inl (Y 1, 6, .inl (aI f5))), (ad 6, .inl (Y 0, 7, .inl (aI (va_up f6 u ((K2 6) u))))), (ad 7, .inl (Y 0, 7, .inl (aI f7))), (h2, .inr (0, [.int (iZ (K2 0 0)), .int (iZ (K2 0 1)), .int (iZ (K2 0 2)), .int (iZ (K2 0 3)), .int (iZ (K2 0 4)), .int (iZ (K2 0 5)), .int (iZ (K2 0 6)), .ref (ad2 1), .ref (ad2 2), .ref (ad2 3), .ref (ad2 4), .ref (ad2 5), .ref (ad2 6), .ref (ad2 7)])), (ad2 1, .inl (Y 0, 6, .inl (aI (K2 1)))), (ad2 2, .inl (Y 0, 6, .inl (aI (K2 2)))), (ad2 3, .inl (Y 0, 6, .inl (aI (K2 3)))), (ad2 4, .inl (Y 1, 6, .inl (aI (K2 4)))), (ad2 5, .inl (Y 1, 6, .inl (aI (K2 5)))), (ad2 6, .inl (Y 0, 7, .inl (aI (K2 6)))), (ad2 7, .inl (Y 0, 7, .inl (aI (K2 7))))] := hD
          refine lv_aload_n hx hb dX0_become_149 rfl (lv_at hl 1 rfl) ?_
          refine va_get (D := G) (ci := 0) (v := .ref (ad 7)) (C := RX0) (T := TX0) (N := 14) hx hb hts hFX0 hown hK.1 hP 0 rfl rfl 13 (by decide) kf31 (fun _ h9 => h9) rfl dX0_become_150 ?_
          refine lv_iload_n hx hb dX0_become_153 rfl (lv_at hl 0 rfl) ?_
          refine lv_aload_n hx hb dX0_become_154 rfl (lv_at hl 2 rfl) ?_
          refine va_get (D := G) (ci := 0) (v := .ref (ad2 7)) (C := RX0) (T := TX0) (N := 14) hx hb hts hFX0 hown hK.1 hP 8 rfl rfl 13 (by decide) kf31 (fun _ h9 => h9) rfl dX0_become_155 ?_
          refine lv_iload_n hx hb dX0_become_158 rfl (lv_at hl 0 rfl) ?_
          refine z_iald hx hb hK.1 hP 15 0 rfl rfl u (by omega) (by decide) dX0_become_159 ?_
          have hb_6 := hW2.2.2.1 u (by omega)
          refine z_iast hx hb hK.1 hP hD hS 7 0 rfl rfl u (by omega) (by decide) dX0_become_160 (fun H locs hP hD hS => ?_)
          replace hP : va_P G vwCl [(h, .inr (0, [.int (iZ (K2 0 0)), .int (iZ (K2 0 1)), .int (iZ (K2 0 2)), .int (iZ (K2 0 3)), .int (iZ (K2 0 4)), .int (iZ (K2 0 5)), .int (iZ (K2 0 6)), .ref (ad 1), .ref (ad 2), .ref (ad 3), .ref (ad 4), .ref (ad 5), .ref (ad 6), .ref (ad 7)])), (ad 1, .inl (Y 0, 6, .inl (aI f1))), (ad 2, .inl (Y 0, 6, .inl (aI f2))), (ad 3, .inl (Y 0, 6, .inl (aI f3))), (ad 4, .inl (Y 1, 6, .inl (aI f4))), (ad 5, .inl (Y 1, 6, .inl (aI f5))), (ad 6, .inl (Y 0, 7, .inl (aI (va_up f6 u ((K2 6) u))))), (ad 7, .inl (Y 0, 7, .inl (aI (va_up f7 u ((K2 7) u))))), (h2, .inr (0, [.int (iZ (K2 0 0)), .int (iZ (K2 0 1)), .int (iZ (K2 0 2)), .int (iZ (K2 0 3)), .int (iZ (K2 0 4)), .int (iZ (K2 0 5)), .int (iZ (K2 0 6)), .ref (ad2 1), .ref (ad2 2), .ref (ad2 3), .ref (ad2 4), .ref (ad2 5), .ref (ad2 6), .ref (ad2 7)])), (ad2 1, .inl (Y 0, 6, .inl (aI (K2 1)))), (ad2 2, .inl (Y 0, 6, .inl (aI (K2 2)))), (ad2 3, .inl (Y 0, 6, .inl (aI (K2 3)))), (ad2 4, .inl (Y 1, 6, .inl (aI (K2 4)))), (ad2 5, .inl (Y 1, 6, .inl (aI (K2 5)))), (ad2 6, .inl (Y 0, 7, .inl (aI (K2 6)))), (ad2 7, .inl (Y 0, 7, .inl (aI (K2 7))))] H := hP
          replace hD : va_D _ [(h, .inr (0, [.int (iZ (K2 0 0)), .int (iZ (K2 0 1)), .int (iZ (K2 0 2)), .int (iZ (K2 0 3)), .int (iZ (K2 0 4)), .int (iZ (K2 0 5)), .int (iZ (K2 0 6)), .ref (ad 1), .ref (ad 2), .ref (ad 3), .ref (ad 4), .ref (ad 5), .ref (ad 6), .ref (ad 7)])), (ad 1, .inl (Y 0, 6, .inl (aI f1))), (ad 2, .inl (Y 0, 6, .inl (aI f2))), (ad 3, .inl (Y 0, 6, .inl (aI f3))), (ad 4, .inl (Y 1, 6, .inl (aI f4))), (ad 5, .inl (Y 1, 6, .inl (aI f5))), (ad 6, .inl (Y 0, 7, .inl (aI (va_up f6 u ((K2 6) u))))), (ad 7, .inl (Y 0, 7, .inl (aI (va_up f7 u ((K2 7) u))))), (h2, .inr (0, [.int (iZ (K2 0 0)), .int (iZ (K2 0 1)), .int (iZ (K2 0 2)), .int (iZ (K2 0 3)), .int (iZ (K2 0 4)), .int (iZ (K2 0 5)), .int (iZ (K2 0 6)), .ref (ad2 1), .ref (ad2 2), .ref (ad2 3), .ref (ad2 4), .ref (ad2 5), .ref (ad2 6), .ref (ad2 7)])), (ad2 1, .inl (Y 0, 6, .inl (aI (K2 1)))), (ad2 2, .inl (Y 0, 6, .inl (aI (K2 2)))), (ad2 3, .inl (Y 0, 6, .inl (aI (K2 3)))), (ad2 4, .inl (Y 1, 6, .inl (aI (K2 4)))), (ad2 5, .inl (Y 1, 6, .inl (aI (K2 5)))), (ad2 6, .inl (Y 0, 7, .inl (aI (K2 6)))), (ad2 7, .inl (Y 0, 7, .inl (aI (K2 7))))] := hD
          refine lv_iinc (v := iZ ((u + 1 : Nat) : Int)) (lv' := [(2, .int (iZ ((u + 1 : Nat) : Int))), (0, .ref h), (1, .ref h2)]) hx hb dX0_become_161 hl (k := 0) rfl (iZ_inc _) (by decide) rfl (fun ls hl => ?_)
          refine lv_goto (tgt := 131) hx hb dX0_become_164 (by decide) ?_
          exact ih3 (ls := ls) (u := u + 1) (f6 := va_up f6 u ((K2 6) u)) (f7 := va_up f7 u ((K2 7) u)) (H := H) (locs := locs) (hS := hS) (hI := by exact ⟨by omega, agr_up hI.2.1, agr_up hI.2.2⟩) (hl := lv_sub hl [0, 1, 2] rfl) (hP := hP) (hD := hD) (hn_ := by omega)
    · skip
      refine lv_aload_n hx hb dX0_become_63 rfl (lv_at hl 1 rfl) ?_
      refine va_get (D := G) (ci := 0) (v := .ref (ad 1)) (C := RX0) (T := TX0) (N := 14) hx hb hts hFX0 hown hK.1 hP 0 rfl rfl 7 (by decide) kf9 (fun _ h9 => h9) rfl dX0_become_64 ?_
      refine lv_iload_n hx hb dX0_become_67 rfl (lv_at hl 0 rfl) ?_
      refine lv_aload_n hx hb dX0_become_68 rfl (lv_at hl 2 rfl) ?_
      refine va_get (D := G) (ci := 0) (v := .ref (ad2 1)) (C := RX0) (T := TX0) (N := 14) hx hb hts hFX0 hown hK.1 hP 8 rfl rfl 7 (by decide) kf9 (fun _ h9 => h9) rfl dX0_become_69 ?_
      refine lv_iload_n hx hb dX0_become_72 rfl (lv_at hl 0 rfl) ?_
      refine z_iald hx hb hK.1 hP 9 0 rfl rfl t (by omega) (by decide) dX0_become_73 ?_
      have hb_7 := hW2.2.1 t (by omega)
      refine z_iast hx hb hK.1 hP hD hS 1 0 rfl rfl t (by omega) (by decide) dX0_become_74 (fun H locs hP hD hS => ?_)
      replace hP : va_P G vwCl [(h, .inr (0, [.int (iZ (K2 0 0)), .int (iZ (K2 0 1)), .int (iZ (K2 0 2)), .int (iZ (K2 0 3)), .int (iZ (K2 0 4)), .int (iZ (K2 0 5)), .int (iZ (K2 0 6)), .ref (ad 1), .ref (ad 2), .ref (ad 3), .ref (ad 4), .ref (ad 5), .ref (ad 6), .ref (ad 7)])), (ad 1, .inl (Y 0, 6, .inl (aI (va_up f1 t ((K2 1) t))))), (ad 2, .inl (Y 0, 6, .inl (aI f2))), (ad 3, .inl (Y 0, 6, .inl (aI f3))), (ad 4, .inl (Y 1, 6, .inl (aI f4))), (ad 5, .inl (Y 1, 6, .inl (aI f5))), (ad 6, .inl (Y 0, 7, .inl (aI (K 6)))), (ad 7, .inl (Y 0, 7, .inl (aI (K 7)))), (h2, .inr (0, [.int (iZ (K2 0 0)), .int (iZ (K2 0 1)), .int (iZ (K2 0 2)), .int (iZ (K2 0 3)), .int (iZ (K2 0 4)), .int (iZ (K2 0 5)), .int (iZ (K2 0 6)), .ref (ad2 1), .ref (ad2 2), .ref (ad2 3), .ref (ad2 4), .ref (ad2 5), .ref (ad2 6), .ref (ad2 7)])), (ad2 1, .inl (Y 0, 6, .inl (aI (K2 1)))), (ad2 2, .inl (Y 0, 6, .inl (aI (K2 2)))), (ad2 3, .inl (Y 0, 6, .inl (aI (K2 3)))), (ad2 4, .inl (Y 1, 6, .inl (aI (K2 4)))), (ad2 5, .inl (Y 1, 6, .inl (aI (K2 5)))), (ad2 6, .inl (Y 0, 7, .inl (aI (K2 6)))), (ad2 7, .inl (Y 0, 7, .inl (aI (K2 7))))] H := hP
      replace hD : va_D _ [(h, .inr (0, [.int (iZ (K2 0 0)), .int (iZ (K2 0 1)), .int (iZ (K2 0 2)), .int (iZ (K2 0 3)), .int (iZ (K2 0 4)), .int (iZ (K2 0 5)), .int (iZ (K2 0 6)), .ref (ad 1), .ref (ad 2), .ref (ad 3), .ref (ad 4), .ref (ad 5), .ref (ad 6), .ref (ad 7)])), (ad 1, .inl (Y 0, 6, .inl (aI (va_up f1 t ((K2 1) t))))), (ad 2, .inl (Y 0, 6, .inl (aI f2))), (ad 3, .inl (Y 0, 6, .inl (aI f3))), (ad 4, .inl (Y 1, 6, .inl (aI f4))), (ad 5, .inl (Y 1, 6, .inl (aI f5))), (ad 6, .inl (Y 0, 7, .inl (aI (K 6)))), (ad 7, .inl (Y 0, 7, .inl (aI (K 7)))), (h2, .inr (0, [.int (iZ (K2 0 0)), .int (iZ (K2 0 1)), .int (iZ (K2 0 2)), .int (iZ (K2 0 3)), .int (iZ (K2 0 4)), .int (iZ (K2 0 5)), .int (iZ (K2 0 6)), .ref (ad2 1), .ref (ad2 2), .ref (ad2 3), .ref (ad2 4), .ref (ad2 5), .ref (ad2 6), .ref (ad2 7)])), (ad2 1, .inl (Y 0, 6, .inl (aI (K2 1)))), (ad2 2, .inl (Y 0, 6, .inl (aI (K2 2)))), (ad2 3, .inl (Y 0, 6, .inl (aI (K2 3)))), (ad2 4, .inl (Y 1, 6, .inl (aI (K2 4)))), (ad2 5, .inl (Y 1, 6, .inl (aI (K2 5)))), (ad2 6, .inl (Y 0, 7, .inl (aI (K2 6)))), (ad2 7, .inl (Y 0, 7, .inl (aI (K2 7))))] := hD
      refine lv_aload_n hx hb dX0_become_75 rfl (lv_at hl 1 rfl) ?_
      refine va_get (D := G) (ci := 0) (v := .ref (ad 2)) (C := RX0) (T := TX0) (N := 14) hx hb hts hFX0 hown hK.1 hP 0 rfl rfl 8 (by decide) kf15 (fun _ h9 => h9) rfl dX0_become_76 ?_
      refine lv_iload_n hx hb dX0_become_79 rfl (lv_at hl 0 rfl) ?_
      refine lv_aload_n hx hb dX0_become_80 rfl (lv_at hl 2 rfl) ?_
      refine va_get (D := G) (ci := 0) (v := .ref (ad2 2)) (C := RX0) (T := TX0) (N := 14) hx hb hts hFX0 hown hK.1 hP 8 rfl rfl 8 (by decide) kf15 (fun _ h9 => h9) rfl dX0_become_81 ?_
      refine lv_iload_n hx hb dX0_become_84 rfl (lv_at hl 0 rfl) ?_
      refine z_iald hx hb hK.1 hP 10 0 rfl rfl t (by omega) (by decide) dX0_become_85 ?_
      have hb_8 := hW2.2.1 t (by omega)
      refine z_iast hx hb hK.1 hP hD hS 2 0 rfl rfl t (by omega) (by decide) dX0_become_86 (fun H locs hP hD hS => ?_)
      replace hP : va_P G vwCl [(h, .inr (0, [.int (iZ (K2 0 0)), .int (iZ (K2 0 1)), .int (iZ (K2 0 2)), .int (iZ (K2 0 3)), .int (iZ (K2 0 4)), .int (iZ (K2 0 5)), .int (iZ (K2 0 6)), .ref (ad 1), .ref (ad 2), .ref (ad 3), .ref (ad 4), .ref (ad 5), .ref (ad 6), .ref (ad 7)])), (ad 1, .inl (Y 0, 6, .inl (aI (va_up f1 t ((K2 1) t))))), (ad 2, .inl (Y 0, 6, .inl (aI (va_up f2 t ((K2 2) t))))), (ad 3, .inl (Y 0, 6, .inl (aI f3))), (ad 4, .inl (Y 1, 6, .inl (aI f4))), (ad 5, .inl (Y 1, 6, .inl (aI f5))), (ad 6, .inl (Y 0, 7, .inl (aI (K 6)))), (ad 7, .inl (Y 0, 7, .inl (aI (K 7)))), (h2, .inr (0, [.int (iZ (K2 0 0)), .int (iZ (K2 0 1)), .int (iZ (K2 0 2)), .int (iZ (K2 0 3)), .int (iZ (K2 0 4)), .int (iZ (K2 0 5)), .int (iZ (K2 0 6)), .ref (ad2 1), .ref (ad2 2), .ref (ad2 3), .ref (ad2 4), .ref (ad2 5), .ref (ad2 6), .ref (ad2 7)])), (ad2 1, .inl (Y 0, 6, .inl (aI (K2 1)))), (ad2 2, .inl (Y 0, 6, .inl (aI (K2 2)))), (ad2 3, .inl (Y 0, 6, .inl (aI (K2 3)))), (ad2 4, .inl (Y 1, 6, .inl (aI (K2 4)))), (ad2 5, .inl (Y 1, 6, .inl (aI (K2 5)))), (ad2 6, .inl (Y 0, 7, .inl (aI (K2 6)))), (ad2 7, .inl (Y 0, 7, .inl (aI (K2 7))))] H := hP
      replace hD : va_D _ [(h, .inr (0, [.int (iZ (K2 0 0)), .int (iZ (K2 0 1)), .int (iZ (K2 0 2)), .int (iZ (K2 0 3)), .int (iZ (K2 0 4)), .int (iZ (K2 0 5)), .int (iZ (K2 0 6)), .ref (ad 1), .ref (ad 2), .ref (ad 3), .ref (ad 4), .ref (ad 5), .ref (ad 6), .ref (ad 7)])), (ad 1, .inl (Y 0, 6, .inl (aI (va_up f1 t ((K2 1) t))))), (ad 2, .inl (Y 0, 6, .inl (aI (va_up f2 t ((K2 2) t))))), (ad 3, .inl (Y 0, 6, .inl (aI f3))), (ad 4, .inl (Y 1, 6, .inl (aI f4))), (ad 5, .inl (Y 1, 6, .inl (aI f5))), (ad 6, .inl (Y 0, 7, .inl (aI (K 6)))), (ad 7, .inl (Y 0, 7, .inl (aI (K 7)))), (h2, .inr (0, [.int (iZ (K2 0 0)), .int (iZ (K2 0 1)), .int (iZ (K2 0 2)), .int (iZ (K2 0 3)), .int (iZ (K2 0 4)), .int (iZ (K2 0 5)), .int (iZ (K2 0 6)), .ref (ad2 1), .ref (ad2 2), .ref (ad2 3), .ref (ad2 4), .ref (ad2 5), .ref (ad2 6), .ref (ad2 7)])), (ad2 1, .inl (Y 0, 6, .inl (aI (K2 1)))), (ad2 2, .inl (Y 0, 6, .inl (aI (K2 2)))), (ad2 3, .inl (Y 0, 6, .inl (aI (K2 3)))), (ad2 4, .inl (Y 1, 6, .inl (aI (K2 4)))), (ad2 5, .inl (Y 1, 6, .inl (aI (K2 5)))), (ad2 6, .inl (Y 0, 7, .inl (aI (K2 6)))), (ad2 7, .inl (Y 0, 7, .inl (aI (K2 7))))] := hD
      refine lv_aload_n hx hb dX0_become_87 rfl (lv_at hl 1 rfl) ?_
      refine va_get (D := G) (ci := 0) (v := .ref (ad 3)) (C := RX0) (T := TX0) (N := 14) hx hb hts hFX0 hown hK.1 hP 0 rfl rfl 9 (by decide) kf18 (fun _ h9 => h9) rfl dX0_become_88 ?_
      refine lv_iload_n hx hb dX0_become_91 rfl (lv_at hl 0 rfl) ?_
      refine lv_aload_n hx hb dX0_become_92 rfl (lv_at hl 2 rfl) ?_
      refine va_get (D := G) (ci := 0) (v := .ref (ad2 3)) (C := RX0) (T := TX0) (N := 14) hx hb hts hFX0 hown hK.1 hP 8 rfl rfl 9 (by decide) kf18 (fun _ h9 => h9) rfl dX0_become_93 ?_
      refine lv_iload_n hx hb dX0_become_96 rfl (lv_at hl 0 rfl) ?_
      refine z_iald hx hb hK.1 hP 11 0 rfl rfl t (by omega) (by decide) dX0_become_97 ?_
      have hb_9 := hW2.2.1 t (by omega)
      refine z_iast hx hb hK.1 hP hD hS 3 0 rfl rfl t (by omega) (by decide) dX0_become_98 (fun H locs hP hD hS => ?_)
      replace hP : va_P G vwCl [(h, .inr (0, [.int (iZ (K2 0 0)), .int (iZ (K2 0 1)), .int (iZ (K2 0 2)), .int (iZ (K2 0 3)), .int (iZ (K2 0 4)), .int (iZ (K2 0 5)), .int (iZ (K2 0 6)), .ref (ad 1), .ref (ad 2), .ref (ad 3), .ref (ad 4), .ref (ad 5), .ref (ad 6), .ref (ad 7)])), (ad 1, .inl (Y 0, 6, .inl (aI (va_up f1 t ((K2 1) t))))), (ad 2, .inl (Y 0, 6, .inl (aI (va_up f2 t ((K2 2) t))))), (ad 3, .inl (Y 0, 6, .inl (aI (va_up f3 t ((K2 3) t))))), (ad 4, .inl (Y 1, 6, .inl (aI f4))), (ad 5, .inl (Y 1, 6, .inl (aI f5))), (ad 6, .inl (Y 0, 7, .inl (aI (K 6)))), (ad 7, .inl (Y 0, 7, .inl (aI (K 7)))), (h2, .inr (0, [.int (iZ (K2 0 0)), .int (iZ (K2 0 1)), .int (iZ (K2 0 2)), .int (iZ (K2 0 3)), .int (iZ (K2 0 4)), .int (iZ (K2 0 5)), .int (iZ (K2 0 6)), .ref (ad2 1), .ref (ad2 2), .ref (ad2 3), .ref (ad2 4), .ref (ad2 5), .ref (ad2 6), .ref (ad2 7)])), (ad2 1, .inl (Y 0, 6, .inl (aI (K2 1)))), (ad2 2, .inl (Y 0, 6, .inl (aI (K2 2)))), (ad2 3, .inl (Y 0, 6, .inl (aI (K2 3)))), (ad2 4, .inl (Y 1, 6, .inl (aI (K2 4)))), (ad2 5, .inl (Y 1, 6, .inl (aI (K2 5)))), (ad2 6, .inl (Y 0, 7, .inl (aI (K2 6)))), (ad2 7, .inl (Y 0, 7, .inl (aI (K2 7))))] H := hP
      replace hD : va_D _ [(h, .inr (0, [.int (iZ (K2 0 0)), .int (iZ (K2 0 1)), .int (iZ (K2 0 2)), .int (iZ (K2 0 3)), .int (iZ (K2 0 4)), .int (iZ (K2 0 5)), .int (iZ (K2 0 6)), .ref (ad 1), .ref (ad 2), .ref (ad 3), .ref (ad 4), .ref (ad 5), .ref (ad 6), .ref (ad 7)])), (ad 1, .inl (Y 0, 6, .inl (aI (va_up f1 t ((K2 1) t))))), (ad 2, .inl (Y 0, 6, .inl (aI (va_up f2 t ((K2 2) t))))), (ad 3, .inl (Y 0, 6, .inl (aI (va_up f3 t ((K2 3) t))))), (ad 4, .inl (Y 1, 6, .inl (aI f4))), (ad 5, .inl (Y 1, 6, .inl (aI f5))), (ad 6, .inl (Y 0, 7, .inl (aI (K 6)))), (ad 7, .inl (Y 0, 7, .inl (aI (K 7)))), (h2, .inr (0, [.int (iZ (K2 0 0)), .int (iZ (K2 0 1)), .int (iZ (K2 0 2)), .int (iZ (K2 0 3)), .int (iZ (K2 0 4)), .int (iZ (K2 0 5)), .int (iZ (K2 0 6)), .ref (ad2 1), .ref (ad2 2), .ref (ad2 3), .ref (ad2 4), .ref (ad2 5), .ref (ad2 6), .ref (ad2 7)])), (ad2 1, .inl (Y 0, 6, .inl (aI (K2 1)))), (ad2 2, .inl (Y 0, 6, .inl (aI (K2 2)))), (ad2 3, .inl (Y 0, 6, .inl (aI (K2 3)))), (ad2 4, .inl (Y 1, 6, .inl (aI (K2 4)))), (ad2 5, .inl (Y 1, 6, .inl (aI (K2 5)))), (ad2 6, .inl (Y 0, 7, .inl (aI (K2 6)))), (ad2 7, .inl (Y 0, 7, .inl (aI (K2 7))))] := hD
      refine lv_aload_n hx hb dX0_become_99 rfl (lv_at hl 1 rfl) ?_
      refine va_get (D := G) (ci := 0) (v := .ref (ad 4)) (C := RX0) (T := TX0) (N := 14) hx hb hts hFX0 hown hK.1 hP 0 rfl rfl 10 (by decide) kf21 (fun _ h9 => h9) rfl dX0_become_100 ?_
      refine lv_iload_n hx hb dX0_become_103 rfl (lv_at hl 0 rfl) ?_
      refine lv_aload_n hx hb dX0_become_104 rfl (lv_at hl 2 rfl) ?_
      refine va_get (D := G) (ci := 0) (v := .ref (ad2 4)) (C := RX0) (T := TX0) (N := 14) hx hb hts hFX0 hown hK.1 hP 8 rfl rfl 10 (by decide) kf21 (fun _ h9 => h9) rfl dX0_become_105 ?_
      refine lv_iload_n hx hb dX0_become_108 rfl (lv_at hl 0 rfl) ?_
      refine z_zald hx hb hK.1 hP 12 1 rfl rfl t (by omega) (by decide) dX0_become_109 ?_
      have hb_10 := hW2.2.1 t (by omega)
      refine z_zast hx hb hK.1 hP hD hS 4 1 rfl rfl t (by omega) (by decide) (by omega) dX0_become_110 (fun H locs hP hD hS => ?_)
      replace hP : va_P G vwCl [(h, .inr (0, [.int (iZ (K2 0 0)), .int (iZ (K2 0 1)), .int (iZ (K2 0 2)), .int (iZ (K2 0 3)), .int (iZ (K2 0 4)), .int (iZ (K2 0 5)), .int (iZ (K2 0 6)), .ref (ad 1), .ref (ad 2), .ref (ad 3), .ref (ad 4), .ref (ad 5), .ref (ad 6), .ref (ad 7)])), (ad 1, .inl (Y 0, 6, .inl (aI (va_up f1 t ((K2 1) t))))), (ad 2, .inl (Y 0, 6, .inl (aI (va_up f2 t ((K2 2) t))))), (ad 3, .inl (Y 0, 6, .inl (aI (va_up f3 t ((K2 3) t))))), (ad 4, .inl (Y 1, 6, .inl (aI (va_up f4 t ((K2 4) t))))), (ad 5, .inl (Y 1, 6, .inl (aI f5))), (ad 6, .inl (Y 0, 7, .inl (aI (K 6)))), (ad 7, .inl (Y 0, 7, .inl (aI (K 7)))), (h2, .inr (0, [.int (iZ (K2 0 0)), .int (iZ (K2 0 1)), .int (iZ (K2 0 2)), .int (iZ (K2 0 3)), .int (iZ (K2 0 4)), .int (iZ (K2 0 5)), .int (iZ (K2 0 6)), .ref (ad2 1), .ref (ad2 2), .ref (ad2 3), .ref (ad2 4), .ref (ad2 5), .ref (ad2 6), .ref (ad2 7)])), (ad2 1, .inl (Y 0, 6, .inl (aI (K2 1)))), (ad2 2, .inl (Y 0, 6, .inl (aI (K2 2)))), (ad2 3, .inl (Y 0, 6, .inl (aI (K2 3)))), (ad2 4, .inl (Y 1, 6, .inl (aI (K2 4)))), (ad2 5, .inl (Y 1, 6, .inl (aI (K2 5)))), (ad2 6, .inl (Y 0, 7, .inl (aI (K2 6)))), (ad2 7, .inl (Y 0, 7, .inl (aI (K2 7))))] H := hP
      replace hD : va_D _ [(h, .inr (0, [.int (iZ (K2 0 0)), .int (iZ (K2 0 1)), .int (iZ (K2 0 2)), .int (iZ (K2 0 3)), .int (iZ (K2 0 4)), .int (iZ (K2 0 5)), .int (iZ (K2 0 6)), .ref (ad 1), .ref (ad 2), .ref (ad 3), .ref (ad 4), .ref (ad 5), .ref (ad 6), .ref (ad 7)])), (ad 1, .inl (Y 0, 6, .inl (aI (va_up f1 t ((K2 1) t))))), (ad 2, .inl (Y 0, 6, .inl (aI (va_up f2 t ((K2 2) t))))), (ad 3, .inl (Y 0, 6, .inl (aI (va_up f3 t ((K2 3) t))))), (ad 4, .inl (Y 1, 6, .inl (aI (va_up f4 t ((K2 4) t))))), (ad 5, .inl (Y 1, 6, .inl (aI f5))), (ad 6, .inl (Y 0, 7, .inl (aI (K 6)))), (ad 7, .inl (Y 0, 7, .inl (aI (K 7)))), (h2, .inr (0, [.int (iZ (K2 0 0)), .int (iZ (K2 0 1)), .int (iZ (K2 0 2)), .int (iZ (K2 0 3)), .int (iZ (K2 0 4)), .int (iZ (K2 0 5)), .int (iZ (K2 0 6)), .ref (ad2 1), .ref (ad2 2), .ref (ad2 3), .ref (ad2 4), .ref (ad2 5), .ref (ad2 6), .ref (ad2 7)])), (ad2 1, .inl (Y 0, 6, .inl (aI (K2 1)))), (ad2 2, .inl (Y 0, 6, .inl (aI (K2 2)))), (ad2 3, .inl (Y 0, 6, .inl (aI (K2 3)))), (ad2 4, .inl (Y 1, 6, .inl (aI (K2 4)))), (ad2 5, .inl (Y 1, 6, .inl (aI (K2 5)))), (ad2 6, .inl (Y 0, 7, .inl (aI (K2 6)))), (ad2 7, .inl (Y 0, 7, .inl (aI (K2 7))))] := hD
      refine lv_aload_n hx hb dX0_become_111 rfl (lv_at hl 1 rfl) ?_
      refine va_get (D := G) (ci := 0) (v := .ref (ad 5)) (C := RX0) (T := TX0) (N := 14) hx hb hts hFX0 hown hK.1 hP 0 rfl rfl 11 (by decide) kf25 (fun _ h9 => h9) rfl dX0_become_112 ?_
      refine lv_iload_n hx hb dX0_become_115 rfl (lv_at hl 0 rfl) ?_
      refine lv_aload_n hx hb dX0_become_116 rfl (lv_at hl 2 rfl) ?_
      refine va_get (D := G) (ci := 0) (v := .ref (ad2 5)) (C := RX0) (T := TX0) (N := 14) hx hb hts hFX0 hown hK.1 hP 8 rfl rfl 11 (by decide) kf25 (fun _ h9 => h9) rfl dX0_become_117 ?_
      refine lv_iload_n hx hb dX0_become_120 rfl (lv_at hl 0 rfl) ?_
      refine z_zald hx hb hK.1 hP 13 1 rfl rfl t (by omega) (by decide) dX0_become_121 ?_
      have hb_11 := hW2.2.1 t (by omega)
      refine z_zast hx hb hK.1 hP hD hS 5 1 rfl rfl t (by omega) (by decide) (by omega) dX0_become_122 (fun H locs hP hD hS => ?_)
      replace hP : va_P G vwCl [(h, .inr (0, [.int (iZ (K2 0 0)), .int (iZ (K2 0 1)), .int (iZ (K2 0 2)), .int (iZ (K2 0 3)), .int (iZ (K2 0 4)), .int (iZ (K2 0 5)), .int (iZ (K2 0 6)), .ref (ad 1), .ref (ad 2), .ref (ad 3), .ref (ad 4), .ref (ad 5), .ref (ad 6), .ref (ad 7)])), (ad 1, .inl (Y 0, 6, .inl (aI (va_up f1 t ((K2 1) t))))), (ad 2, .inl (Y 0, 6, .inl (aI (va_up f2 t ((K2 2) t))))), (ad 3, .inl (Y 0, 6, .inl (aI (va_up f3 t ((K2 3) t))))), (ad 4, .inl (Y 1, 6, .inl (aI (va_up f4 t ((K2 4) t))))), (ad 5, .inl (Y 1, 6, .inl (aI (va_up f5 t ((K2 5) t))))), (ad 6, .inl (Y 0, 7, .inl (aI (K 6)))), (ad 7, .inl (Y 0, 7, .inl (aI (K 7)))), (h2, .inr (0, [.int (iZ (K2 0 0)), .int (iZ (K2 0 1)), .int (iZ (K2 0 2)), .int (iZ (K2 0 3)), .int (iZ (K2 0 4)), .int (iZ (K2 0 5)), .int (iZ (K2 0 6)), .ref (ad2 1), .ref (ad2 2), .ref (ad2 3), .ref (ad2 4), .ref (ad2 5), .ref (ad2 6), .ref (ad2 7)])), (ad2 1, .inl (Y 0, 6, .inl (aI (K2 1)))), (ad2 2, .inl (Y 0, 6, .inl (aI (K2 2)))), (ad2 3, .inl (Y 0, 6, .inl (aI (K2 3)))), (ad2 4, .inl (Y 1, 6, .inl (aI (K2 4)))), (ad2 5, .inl (Y 1, 6, .inl (aI (K2 5)))), (ad2 6, .inl (Y 0, 7, .inl (aI (K2 6)))), (ad2 7, .inl (Y 0, 7, .inl (aI (K2 7))))] H := hP
      replace hD : va_D _ [(h, .inr (0, [.int (iZ (K2 0 0)), .int (iZ (K2 0 1)), .int (iZ (K2 0 2)), .int (iZ (K2 0 3)), .int (iZ (K2 0 4)), .int (iZ (K2 0 5)), .int (iZ (K2 0 6)), .ref (ad 1), .ref (ad 2), .ref (ad 3), .ref (ad 4), .ref (ad 5), .ref (ad 6), .ref (ad 7)])), (ad 1, .inl (Y 0, 6, .inl (aI (va_up f1 t ((K2 1) t))))), (ad 2, .inl (Y 0, 6, .inl (aI (va_up f2 t ((K2 2) t))))), (ad 3, .inl (Y 0, 6, .inl (aI (va_up f3 t ((K2 3) t))))), (ad 4, .inl (Y 1, 6, .inl (aI (va_up f4 t ((K2 4) t))))), (ad 5, .inl (Y 1, 6, .inl (aI (va_up f5 t ((K2 5) t))))), (ad 6, .inl (Y 0, 7, .inl (aI (K 6)))), (ad 7, .inl (Y 0, 7, .inl (aI (K 7)))), (h2, .inr (0, [.int (iZ (K2 0 0)), .int (iZ (K2 0 1)), .int (iZ (K2 0 2)), .int (iZ (K2 0 3)), .int (iZ (K2 0 4)), .int (iZ (K2 0 5)), .int (iZ (K2 0 6)), .ref (ad2 1), .ref (ad2 2), .ref (ad2 3), .ref (ad2 4), .ref (ad2 5), .ref (ad2 6), .ref (ad2 7)])), (ad2 1, .inl (Y 0, 6, .inl (aI (K2 1)))), (ad2 2, .inl (Y 0, 6, .inl (aI (K2 2)))), (ad2 3, .inl (Y 0, 6, .inl (aI (K2 3)))), (ad2 4, .inl (Y 1, 6, .inl (aI (K2 4)))), (ad2 5, .inl (Y 1, 6, .inl (aI (K2 5)))), (ad2 6, .inl (Y 0, 7, .inl (aI (K2 6)))), (ad2 7, .inl (Y 0, 7, .inl (aI (K2 7))))] := hD
      refine lv_iinc (v := iZ ((t + 1 : Nat) : Int)) (lv' := [(2, .int (iZ ((t + 1 : Nat) : Int))), (0, .ref h), (1, .ref h2)]) hx hb dX0_become_123 hl (k := 0) rfl (iZ_inc _) (by decide) rfl (fun ls hl => ?_)
      refine lv_goto (tgt := 58) hx hb dX0_become_126 (by decide) ?_
      exact ih1 (ls := ls) (t := t + 1) (f1 := va_up f1 t ((K2 1) t)) (f2 := va_up f2 t ((K2 2) t)) (f3 := va_up f3 t ((K2 3) t)) (f4 := va_up f4 t ((K2 4) t)) (f5 := va_up f5 t ((K2 5) t)) (H := H) (locs := locs) (hS := hS) (hI := by exact ⟨by omega, agr_up hI.2.1, agr_up hI.2.2.1, agr_up hI.2.2.2.1, agr_up hI.2.2.2.2.1, agr_up hI.2.2.2.2.2⟩) (hl := lv_sub hl [0, 1, 2] rfl) (hP := hP) (hD := hD) (hn_ := by omega)
