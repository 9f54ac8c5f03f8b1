set_option maxHeartbeats 4000000 in
set_option maxRecDepth 100000 in
theorem c_X1_rateStump (l : Launch) (G : va_G) (Y : Nat → ClassId) (h6 : Nat) (tr : Int64) (h : Nat) (ad : Nat → Nat) (K : Kom) (hW : cWF K) (t : Nat) (r : (t : Int) < K 0 2) : Met l yX1_rateStump wsX1_rateStump ({ frames := 2, cells := 0, slots := 0, locals := 46 }) (mP G Y [.ref h6, .ref h, .int (iZ ((t : Nat) : Int))] (kiW Y h6 tr ++ cmW Y h ad K)) (mQ G (kiW Y h6 tr ++ cmW Y h ad K) (some (.int (iZ (K 2 t + ((pcN (shB K t (K 0 0 * K 0 1).toNat) (K 0 0 * K 0 1).toNat : Nat) : Int))))) (kiW Y h6 (tr + kC100000 + 1) ++ cmW Y h ad K)) 0 0 (fun q => q ∈ List.map Prod.fst (kiW Y h6 tr ++ cmW Y h ad K)) := by
  refine Met.ofW (cc := cX1_rateStump) (maxL := 3) (ret := (some .int)) (by decide) rfl ?_
  intro p e s m args below meth c s₁ B hml hv
  obtain ⟨rfl, hK, hP, hD0⟩ := hv
  have hx := B.exec
  have hb := B.bytes
  have hr := B.returns
  have hts := atoms_spec (ws := wsX1_rateStump) B.pre
  have hown : s.vm.findClass RX1 = some m.cls := findClass_of_methodNamed B.named
  have hlocks := B.notSynchronized
  have hFX1 : ∀ w ∈ wsX10, w ∈ wsX1_rateStump := by decide +kernel
  have kf31 := (hts (.fieldLink RX1 31 "ShadeVotes$Kinds" "traced" "J") (by decide +kernel))
  have hD := va_D_self hD0
  have hS : va_S (fun q => q ∈ List.map Prod.fst (kiW Y h6 tr ++ cmW Y h ad K)) s.heap s.heap [] := va_S.rf
  obtain ⟨H, hHe⟩ : ∃ H, H = s.heap := ⟨_, rfl⟩
  rw [← hHe] at hP
  replace hS : va_S (fun q => q ∈ List.map Prod.fst (kiW Y h6 tr ++ cmW Y h ad K)) s.heap H [] := by rw [hHe]; exact hS
  have hl := lv_entry ([.ref h6, .ref h, .int (iZ ((t : Nat) : Int))]) (n := 3) (Nat.le_of_ble_eq_true rfl)
  rw [lg_entry_eq]
  generalize (lg_sl ([.ref h6, .ref h, .int (iZ ((t : Nat) : Int))]) ++ List.replicate (3 - (lg_sl ([.ref h6, .ref h, .int (iZ ((t : Nat) : Int))])).length) Slot.unset).toArray = ls at hl ⊢
  replace hl : lv_has ls 3 [(0, .ref h6), (1, .ref h), (2, .int (iZ ((t : Nat) : Int)))] := hl
  obtain ⟨locs, hLe⟩ : ∃ locs : List Loc, locs = [] := ⟨_, rfl⟩
  rw [← hLe] at hS ⊢
  have hW0 : ∀ {Q : State → Prop} {g : JFrame}, W p l e ({ frames := 2, cells := 0, slots := 0, locals := 46 }) s m [.ref h6, .ref h, .int (iZ ((t : Nat) : Int))].toArray below meth c H locs 0 0 Q g → W p l e ({ frames := 2, cells := 0, slots := 0, locals := 46 }) s m [.ref h6, .ref h, .int (iZ ((t : Nat) : Int))].toArray below meth c s.heap locs 0 0 Q g := fun h => by rw [← hHe]; exact h
  refine hW0 ?_
  clear hW0 hHe hLe
  have h0 := hW.1
  refine lv_aload_n hx hb dX1_rateStump_0 rfl (lv_at hl 0 rfl) ?_
  refine lv_dup hx hb dX1_rateStump_1 rfl ?_
  refine va_get (D := G) (ci := 1) (v := .long tr) (C := RX1) (T := TX1) (N := 1) hx hb hts hFX1 hown hK.1 hP 0 rfl rfl 0 (by decide) kf31 (fun _ h9 => h9) rfl dX1_rateStump_2 ?_
  refine lv_ldc2 (v := 100000) hx hb hown (hts (.constantLong RX1 56 (100000)) (by decide +kernel)) dX1_rateStump_5 ?_
  refine lv_topl (fun kl1 ekl1 => ?_)
  refine lv_ladd hx hb dX1_rateStump_8 ?_
  refine va_put (D := G) (ci := 1) (v := .long (tr + kl1)) (ty := .long) (C := RX1) (T := TX1) (N := 1) hx hb hts hFX1 tyX1 tyX1_ok nmX1 hown hK.1 hP hD hS 0 rfl rfl 0 (by decide) kf31 (fun _ h9 => h9) rfl (by decide +kernel) rfl rfl (Nat.le_of_ble_eq_true rfl) dX1_rateStump_9 (fun H locs hP hD hS => ?_)
  replace hP : va_P G vwCl [(h6, .inr (1, [.long (tr + kl1)])), (h, .inr (0, [.int (iZ (K 0 0)), .int (iZ (K 0 1)), .int (iZ (K 0 2)), .int (iZ (K 0 3)), .int (iZ (K 0 4)), .int (iZ (K 0 5)), .int (iZ (K 0 6)), .ref (ad 1), .ref (ad 2), .ref (ad 3), .ref (ad 4), .ref (ad 5), .ref (ad 6), .ref (ad 7)])), (ad 1, .inl (Y 0, 6, .inl (aI (K 1)))), (ad 2, .inl (Y 0, 6, .inl (aI (K 2)))), (ad 3, .inl (Y 0, 6, .inl (aI (K 3)))), (ad 4, .inl (Y 1, 6, .inl (aI (K 4)))), (ad 5, .inl (Y 1, 6, .inl (aI (K 5)))), (ad 6, .inl (Y 0, 7, .inl (aI (K 6)))), (ad 7, .inl (Y 0, 7, .inl (aI (K 7))))] H := hP
  replace hD : va_D _ [(h6, .inr (1, [.long (tr + kl1)])), (h, .inr (0, [.int (iZ (K 0 0)), .int (iZ (K 0 1)), .int (iZ (K 0 2)), .int (iZ (K 0 3)), .int (iZ (K 0 4)), .int (iZ (K 0 5)), .int (iZ (K 0 6)), .ref (ad 1), .ref (ad 2), .ref (ad 3), .ref (ad 4), .ref (ad 5), .ref (ad 6), .ref (ad 7)])), (ad 1, .inl (Y 0, 6, .inl (aI (K 1)))), (ad 2, .inl (Y 0, 6, .inl (aI (K 2)))), (ad 3, .inl (Y 0, 6, .inl (aI (K 3)))), (ad 4, .inl (Y 1, 6, .inl (aI (K 4)))), (ad 5, .inl (Y 1, 6, .inl (aI (K 5)))), (ad 6, .inl (Y 0, 7, .inl (aI (K 6)))), (ad 7, .inl (Y 0, 7, .inl (aI (K 7))))] := hD
  refine lv_aload_n hx hb dX1_rateStump_12 rfl (lv_at hl 0 rfl) ?_
  refine lv_aload_n hx hb dX1_rateStump_13 rfl (lv_at hl 1 rfl) ?_
  refine lv_iload_n hx hb dX1_rateStump_14 rfl (lv_at hl 2 rfl) ?_
  have hP := hP.sub (ws' := [(h6, .inr (1, [.long (tr + kl1)])), (h, .inr (0, [.int (iZ (K 0 0)), .int (iZ (K 0 1)), .int (iZ (K 0 2)), .int (iZ (K 0 3)), .int (iZ (K 0 4)), .int (iZ (K 0 5)), .int (iZ (K 0 6)), .ref (ad 1), .ref (ad 2), .ref (ad 3), .ref (ad 4), .ref (ad 5), .ref (ad 6), .ref (ad 7)])), (ad 1, .inl (Y 0, 6, .inl (aI (K 1)))), (ad 2, .inl (Y 0, 6, .inl (aI (K 2)))), (ad 3, .inl (Y 0, 6, .inl (aI (K 3)))), (ad 4, .inl (Y 1, 6, .inl (aI (K 4)))), (ad 5, .inl (Y 1, 6, .inl (aI (K 5)))), (ad 6, .inl (Y 0, 7, .inl (aI (K 6)))), (ad 7, .inl (Y 0, 7, .inl (aI (K 7))))] ++ []) [0, 1, 2, 3, 4, 5, 6, 7, 8] rfl
  have hD := hD.sub (ws' := [(h6, .inr (1, [.long (tr + kl1)])), (h, .inr (0, [.int (iZ (K 0 0)), .int (iZ (K 0 1)), .int (iZ (K 0 2)), .int (iZ (K 0 3)), .int (iZ (K 0 4)), .int (iZ (K 0 5)), .int (iZ (K 0 6)), .ref (ad 1), .ref (ad 2), .ref (ad 3), .ref (ad 4), .ref (ad 5), .ref (ad 6), .ref (ad 7)])), (ad 1, .inl (Y 0, 6, .inl (aI (K 1)))), (ad 2, .inl (Y 0, 6, .inl (aI (K 2)))), (ad 3, .inl (Y 0, 6, .inl (aI (K 3)))), (ad 4, .inl (Y 1, 6, .inl (aI (K 4)))), (ad 5, .inl (Y 1, 6, .inl (aI (K 5)))), (ad 6, .inl (Y 0, 7, .inl (aI (K 6)))), (ad 7, .inl (Y 0, 7, .inl (aI (K 7))))] ++ []) [0, 1, 2, 3, 4, 5, 6, 7, 8] (by decide) rfl
  refine mu_V (As := [.ref h, .int (iZ ((t : Nat) : Int))]) (rest := []) (wc := [(h6, .inr (1, [.long (tr + kl1)])), (h, .inr (0, [.int (iZ (K 0 0)), .int (iZ (K 0 1)), .int (iZ (K 0 2)), .int (iZ (K 0 3)), .int (iZ (K 0 4)), .int (iZ (K 0 5)), .int (iZ (K 0 6)), .ref (ad 1), .ref (ad 2), .ref (ad 3), .ref (ad 4), .ref (ad 5), .ref (ad 6), .ref (ad 7)])), (ad 1, .inl (Y 0, 6, .inl (aI (K 1)))), (ad 2, .inl (Y 0, 6, .inl (aI (K 2)))), (ad 3, .inl (Y 0, 6, .inl (aI (K 3)))), (ad 4, .inl (Y 1, 6, .inl (aI (K 4)))), (ad 5, .inl (Y 1, 6, .inl (aI (K 5)))), (ad 6, .inl (Y 0, 7, .inl (aI (K 6)))), (ad 7, .inl (Y 0, 7, .inl (aI (K 7))))]) (wc' := kiW Y h6 ((tr + kl1) + 1) ++ cmW Y h ad K) (F := []) ⟨hx, hb, hml, hown, hts⟩ (c_X1_rateTree l G Y h6 (tr + kl1) h ad K hW t (by omega)) (cwV 2 hts gX1_rateStump_X1_rateTree rfl rfl rfl (by decide +kernel) ⟨Nat.le_of_ble_eq_true rfl, Nat.le_of_ble_eq_true rfl⟩) hK hP hD hS 0 rfl rfl (Eq.refl [h6, h, ad 1, ad 2, ad 3, ad 4, ad 5, ad 6, ad 7]) rfl hl.1 rfl (Nat.le_of_ble_eq_true rfl) dX1_rateStump_15 ⟨Nat.zero_le _, Nat.zero_le _⟩ (fun H locs hP hD hS => ?_)
  show W _ _ _ _ _ _ _ _ _ _ _ _ _ _ _ (F0 _ _ _ [.int (iZ (K 2 t))])
  replace hP : va_P G vwCl [(h6, .inr (1, [.long ((tr + kl1) + 1)])), (h, .inr (0, [.int (iZ (K 0 0)), .int (iZ (K 0 1)), .int (iZ (K 0 2)), .int (iZ (K 0 3)), .int (iZ (K 0 4)), .int (iZ (K 0 5)), .int (iZ (K 0 6)), .ref (ad 1), .ref (ad 2), .ref (ad 3), .ref (ad 4), .ref (ad 5), .ref (ad 6), .ref (ad 7)])), (ad 1, .inl (Y 0, 6, .inl (aI (K 1)))), (ad 2, .inl (Y 0, 6, .inl (aI (K 2)))), (ad 3, .inl (Y 0, 6, .inl (aI (K 3)))), (ad 4, .inl (Y 1, 6, .inl (aI (K 4)))), (ad 5, .inl (Y 1, 6, .inl (aI (K 5)))), (ad 6, .inl (Y 0, 7, .inl (aI (K 6)))), (ad 7, .inl (Y 0, 7, .inl (aI (K 7))))] H := hP
  replace hD : va_D _ [(h6, .inr (1, [.long ((tr + kl1) + 1)])), (h, .inr (0, [.int (iZ (K 0 0)), .int (iZ (K 0 1)), .int (iZ (K 0 2)), .int (iZ (K 0 3)), .int (iZ (K 0 4)), .int (iZ (K 0 5)), .int (iZ (K 0 6)), .ref (ad 1), .ref (ad 2), .ref (ad 3), .ref (ad 4), .ref (ad 5), .ref (ad 6), .ref (ad 7)])), (ad 1, .inl (Y 0, 6, .inl (aI (K 1)))), (ad 2, .inl (Y 0, 6, .inl (aI (K 2)))), (ad 3, .inl (Y 0, 6, .inl (aI (K 3)))), (ad 4, .inl (Y 1, 6, .inl (aI (K 4)))), (ad 5, .inl (Y 1, 6, .inl (aI (K 5)))), (ad 6, .inl (Y 0, 7, .inl (aI (K 6)))), (ad 7, .inl (Y 0, 7, .inl (aI (K 7))))] := hD
  have hb_2 := hW.2.1 t (by omega)
  have hb_3 := wu_in hW ((t : Nat) : Int)
  refine lv_aload_n hx hb dX1_rateStump_18 rfl (lv_at hl 1 rfl) ?_
  refine lv_iload_n hx hb dX1_rateStump_19 rfl (lv_at hl 2 rfl) ?_
  refine ro_V (As := [.int (iZ ((t : Nat) : Int))]) (rest := [.int (iZ (K 2 t))]) ⟨hx, hb, hml, hown, hts⟩ (c_X0_shadeOf l G Y h ad K hW t (by omega)) (cwV 1 hts gX1_rateStump_X0_shadeOf rfl rfl rfl (by decide +kernel) ⟨Nat.le_of_ble_eq_true rfl, Nat.le_of_ble_eq_true rfl⟩) hK (hP.sub (ws' := cmW Y h ad K) [1, 2, 3, 4, 5, 6, 7, 8] rfl) 0 rfl rfl rfl hl.1 rfl (Nat.le_of_ble_eq_true rfl) dX1_rateStump_20 ⟨Nat.zero_le _, Nat.zero_le _⟩ ?_
  refine ro_S (As := [.int (iZ ((shB K t (K 0 0 * K 0 1).toNat : Nat) : Int))]) (rest := [.int (iZ (K 2 t))]) ⟨hx, hb, hml, hown, hts⟩ (c_J6_bitCount_0f7a4 l G Y (iZ ((shB K t (K 0 0 * K 0 1).toNat : Nat) : Int))) (va_cwS 1 hts gX1_rateStump_J6_bitCount_0f7a4 rfl rfl rfl (by decide +kernel) ⟨Nat.le_of_ble_eq_true rfl, Nat.le_of_ble_eq_true rfl⟩) hK (hP.sub (ws' := []) [] rfl) rfl hl.1 rfl (Nat.le_of_ble_eq_true rfl) dX1_rateStump_23 ⟨Nat.zero_le _, Nat.zero_le _⟩ ?_
  rw [bc_sh hW r]
  refine z_iadd hx hb dX1_rateStump_26 ?_
  refine z_top (show ((K 2 t) + ((pcN (shB K t (K 0 0 * K 0 1).toNat) (K 0 0 * K 0 1).toNat : Nat) : Int)) = (K 2 t + ((pcN (shB K t (K 0 0 * K 0 1).toNat) (K 0 0 * K 0 1).toNat : Nat) : Int)) from ?_) ?_
  · rfl
  replace ekl1 : kl1 = kC100000 := ekl1
  subst ekl1
  have hP9 : va_P G vwCl (kiW Y h6 (tr + kC100000 + 1) ++ cmW Y h ad K) H := hP
  exact W.iret (v := iZ (K 2 t + ((pcN (shB K t (K 0 0 * K 0 1).toNat) (K 0 0 * K 0 1).toNat : Nat) : Int))) hx hb hr (fun t9 ht9 _ => ⟨rfl, by rw [ht9]; exact hP9, hS.F ht9⟩) hS.2.2 dX1_rateStump_27

set_option maxHeartbeats 4000000 in
set_option maxRecDepth 100000 in
theorem c_X1_rateAs (l : Launch) (G : va_G) (Y : Nat → ClassId) (h6 : Nat) (tr : Int64) (h : Nat) (ad : Nat → Nat) (K : Kom) (hW : cWF K) (t : Nat) (r : (t : Int) < K 0 2) (k9 : Int) (r2 : zR k9) : Met l yX1_rateAs wsX1_rateAs ({ frames := 5, cells := 0, slots := 0, locals := 114 }) (mP G Y [.ref h6, .int (iZ k9), .ref h, .int (iZ ((t : Nat) : Int))] (kiW Y h6 tr ++ cmW Y h ad K)) (mQ G (kiW Y h6 tr ++ cmW Y h ad K) (some (.int (iZ (raR K k9 t)))) (kiW Y h6 (raT tr k9) ++ cmW Y h ad K)) 0 0 (fun q => q ∈ List.map Prod.fst (kiW Y h6 tr ++ cmW Y h ad K)) := by
  refine Met.ofW (cc := cX1_rateAs) (maxL := 4) (ret := (some .int)) (by decide) rfl ?_
  intro p e s m args below meth c s₁ B hml hv
  obtain ⟨rfl, hK, hP, hD0⟩ := hv
  have hx := B.exec
  have hb := B.bytes
  have hr := B.returns
  have hts := atoms_spec (ws := wsX1_rateAs) B.pre
  have hown : s.vm.findClass RX1 = some m.cls := findClass_of_methodNamed B.named
  have hlocks := B.notSynchronized
  have hD := va_D_self hD0
  have hS : va_S (fun q => q ∈ List.map Prod.fst (kiW Y h6 tr ++ cmW Y h ad K)) s.heap s.heap [] := va_S.rf
  obtain ⟨H, hHe⟩ : ∃ H, H = s.heap := ⟨_, rfl⟩
  rw [← hHe] at hP
  replace hS : va_S (fun q => q ∈ List.map Prod.fst (kiW Y h6 tr ++ cmW Y h ad K)) s.heap H [] := by rw [hHe]; exact hS
  have hl := lv_entry ([.ref h6, .int (iZ k9), .ref h, .int (iZ ((t : Nat) : Int))]) (n := 4) (Nat.le_of_ble_eq_true rfl)
  rw [lg_entry_eq]
  generalize (lg_sl ([.ref h6, .int (iZ k9), .ref h, .int (iZ ((t : Nat) : Int))]) ++ List.replicate (4 - (lg_sl ([.ref h6, .int (iZ k9), .ref h, .int (iZ ((t : Nat) : Int))])).length) Slot.unset).toArray = ls at hl ⊢
  replace hl : lv_has ls 4 [(0, .ref h6), (1, .int (iZ k9)), (2, .ref h), (3, .int (iZ ((t : Nat) : Int)))] := hl
  obtain ⟨locs, hLe⟩ : ∃ locs : List Loc, locs = [] := ⟨_, rfl⟩
  rw [← hLe] at hS ⊢
  have hW0 : ∀ {Q : State → Prop} {g : JFrame}, W p l e ({ frames := 5, cells := 0, slots := 0, locals := 114 }) s m [.ref h6, .int (iZ k9), .ref h, .int (iZ ((t : Nat) : Int))].toArray below meth c H locs 0 0 Q g → W p l e ({ frames := 5, cells := 0, slots := 0, locals := 114 }) s m [.ref h6, .int (iZ k9), .ref h, .int (iZ ((t : Nat) : Int))].toArray below meth c s.heap locs 0 0 Q g := fun h => by rw [← hHe]; exact h
  refine hW0 ?_
  clear hW0 hHe hLe
  have h0 := hW.1
  refine lv_iload_n hx hb dX1_rateAs_0 rfl (lv_at hl 1 rfl) ?_
  have c_1_r : (iZ k9).toInt = k9 := iZ_toInt (by omega)
  rcases (show (k9 < 0 ∨ 5 < k9) ∨ k9 = 0 ∨ k9 = 1 ∨ k9 = 2 ∨ k9 = 3 ∨ k9 = 4 ∨ k9 = 5 by omega) with c_1 | c_1 | c_1 | c_1 | c_1 | c_1 | c_1
  · skip
    refine lv_tableOut (tgt := 82) hx hb dX1_rateAs_1 (by rw [c_1_r]; exact c_1) (by decide) ?_
    refine lv_ldc (v := iZ (-1000000)) hx hb hown (hts (.constant RX1 30 (-1000000)) (by decide +kernel)) dX1_rateAs_82 ?_
    refine z_top (show (-1000000) = raR K k9 t from ?_) ?_
    · unfold raR; rw [if_neg (by omega), if_neg (by omega), if_neg (by omega), if_neg (by omega), if_neg (by omega), if_neg (by omega)]
    have hP9 : va_P G vwCl (kiW Y h6 (raT tr k9) ++ cmW Y h ad K) H := by rw [raT_6 c_1]; exact hP
    exact W.iret (v := iZ (raR K k9 t)) hx hb hr (fun t9 ht9 _ => ⟨rfl, by rw [ht9]; exact hP9, hS.F ht9⟩) hS.2.2 dX1_rateAs_84
  · skip
    replace c_1_r := c_1_r.trans c_1
    refine lv_tableIn (tgt := 40) (off := 39) hx hb dX1_rateAs_1 (by rw [c_1_r]; decide) (by rw [c_1_r]; decide) (by rw [c_1_r]; rfl) (by decide) ?_
    refine lv_aload_n hx hb dX1_rateAs_40 rfl (lv_at hl 0 rfl) ?_
    refine lv_aload_n hx hb dX1_rateAs_41 rfl (lv_at hl 2 rfl) ?_
    refine lv_iload_n hx hb dX1_rateAs_42 rfl (lv_at hl 3 rfl) ?_
    have hP := hP.sub (ws' := [(h6, .inr (1, [.long tr])), (h, .inr (0, [.int (iZ (K 0 0)), .int (iZ (K 0 1)), .int (iZ (K 0 2)), .int (iZ (K 0 3)), .int (iZ (K 0 4)), .int (iZ (K 0 5)), .int (iZ (K 0 6)), .ref (ad 1), .ref (ad 2), .ref (ad 3), .ref (ad 4), .ref (ad 5), .ref (ad 6), .ref (ad 7)])), (ad 1, .inl (Y 0, 6, .inl (aI (K 1)))), (ad 2, .inl (Y 0, 6, .inl (aI (K 2)))), (ad 3, .inl (Y 0, 6, .inl (aI (K 3)))), (ad 4, .inl (Y 1, 6, .inl (aI (K 4)))), (ad 5, .inl (Y 1, 6, .inl (aI (K 5)))), (ad 6, .inl (Y 0, 7, .inl (aI (K 6)))), (ad 7, .inl (Y 0, 7, .inl (aI (K 7))))] ++ []) [0, 1, 2, 3, 4, 5, 6, 7, 8] rfl
    have hD := hD.sub (ws' := [(h6, .inr (1, [.long tr])), (h, .inr (0, [.int (iZ (K 0 0)), .int (iZ (K 0 1)), .int (iZ (K 0 2)), .int (iZ (K 0 3)), .int (iZ (K 0 4)), .int (iZ (K 0 5)), .int (iZ (K 0 6)), .ref (ad 1), .ref (ad 2), .ref (ad 3), .ref (ad 4), .ref (ad 5), .ref (ad 6), .ref (ad 7)])), (ad 1, .inl (Y 0, 6, .inl (aI (K 1)))), (ad 2, .inl (Y 0, 6, .inl (aI (K 2)))), (ad 3, .inl (Y 0, 6, .inl (aI (K 3)))), (ad 4, .inl (Y 1, 6, .inl (aI (K 4)))), (ad 5, .inl (Y 1, 6, .inl (aI (K 5)))), (ad 6, .inl (Y 0, 7, .inl (aI (K 6)))), (ad 7, .inl (Y 0, 7, .inl (aI (K 7))))] ++ []) [0, 1, 2, 3, 4, 5, 6, 7, 8] (by decide) rfl
    refine mu_V (As := [.ref h, .int (iZ ((t : Nat) : Int))]) (rest := []) (wc := [(h6, .inr (1, [.long tr])), (h, .inr (0, [.int (iZ (K 0 0)), .int (iZ (K 0 1)), .int (iZ (K 0 2)), .int (iZ (K 0 3)), .int (iZ (K 0 4)), .int (iZ (K 0 5)), .int (iZ (K 0 6)), .ref (ad 1), .ref (ad 2), .ref (ad 3), .ref (ad 4), .ref (ad 5), .ref (ad 6), .ref (ad 7)])), (ad 1, .inl (Y 0, 6, .inl (aI (K 1)))), (ad 2, .inl (Y 0, 6, .inl (aI (K 2)))), (ad 3, .inl (Y 0, 6, .inl (aI (K 3)))), (ad 4, .inl (Y 1, 6, .inl (aI (K 4)))), (ad 5, .inl (Y 1, 6, .inl (aI (K 5)))), (ad 6, .inl (Y 0, 7, .inl (aI (K 6)))), (ad 7, .inl (Y 0, 7, .inl (aI (K 7))))]) (wc' := kiW Y h6 (tr + 1) ++ cmW Y h ad K) (F := []) ⟨hx, hb, hml, hown, hts⟩ (c_X1_rateTree l G Y h6 tr h ad K hW t (by omega)) (cwV 2 hts gX1_rateAs_X1_rateTree rfl rfl rfl (by decide +kernel) ⟨Nat.le_of_ble_eq_true rfl, Nat.le_of_ble_eq_true rfl⟩) hK hP hD hS 0 rfl rfl (Eq.refl [h6, h, ad 1, ad 2, ad 3, ad 4, ad 5, ad 6, ad 7]) rfl hl.1 rfl (Nat.le_of_ble_eq_true rfl) dX1_rateAs_43 ⟨Nat.zero_le _, Nat.zero_le _⟩ (fun H locs hP hD hS => ?_)
    show W _ _ _ _ _ _ _ _ _ _ _ _ _ _ _ (F0 _ _ _ [.int (iZ (K 2 t))])
    replace hP : va_P G vwCl [(h6, .inr (1, [.long (tr + 1)])), (h, .inr (0, [.int (iZ (K 0 0)), .int (iZ (K 0 1)), .int (iZ (K 0 2)), .int (iZ (K 0 3)), .int (iZ (K 0 4)), .int (iZ (K 0 5)), .int (iZ (K 0 6)), .ref (ad 1), .ref (ad 2), .ref (ad 3), .ref (ad 4), .ref (ad 5), .ref (ad 6), .ref (ad 7)])), (ad 1, .inl (Y 0, 6, .inl (aI (K 1)))), (ad 2, .inl (Y 0, 6, .inl (aI (K 2)))), (ad 3, .inl (Y 0, 6, .inl (aI (K 3)))), (ad 4, .inl (Y 1, 6, .inl (aI (K 4)))), (ad 5, .inl (Y 1, 6, .inl (aI (K 5)))), (ad 6, .inl (Y 0, 7, .inl (aI (K 6)))), (ad 7, .inl (Y 0, 7, .inl (aI (K 7))))] H := hP
    replace hD : va_D _ [(h6, .inr (1, [.long (tr + 1)])), (h, .inr (0, [.int (iZ (K 0 0)), .int (iZ (K 0 1)), .int (iZ (K 0 2)), .int (iZ (K 0 3)), .int (iZ (K 0 4)), .int (iZ (K 0 5)), .int (iZ (K 0 6)), .ref (ad 1), .ref (ad 2), .ref (ad 3), .ref (ad 4), .ref (ad 5), .ref (ad 6), .ref (ad 7)])), (ad 1, .inl (Y 0, 6, .inl (aI (K 1)))), (ad 2, .inl (Y 0, 6, .inl (aI (K 2)))), (ad 3, .inl (Y 0, 6, .inl (aI (K 3)))), (ad 4, .inl (Y 1, 6, .inl (aI (K 4)))), (ad 5, .inl (Y 1, 6, .inl (aI (K 5)))), (ad 6, .inl (Y 0, 7, .inl (aI (K 6)))), (ad 7, .inl (Y 0, 7, .inl (aI (K 7))))] := hD
    have hb_2 := hW.2.1 t (by omega)
    have hb_3 := wu_in hW ((t : Nat) : Int)
    refine z_top (show (K 2 t) = raR K k9 t from ?_) ?_
    · rw [c_1]; rfl
    have hP9 : va_P G vwCl (kiW Y h6 (raT tr k9) ++ cmW Y h ad K) H := by rw [raT_0 c_1]; exact hP
    exact W.iret (v := iZ (raR K k9 t)) hx hb hr (fun t9 ht9 _ => ⟨rfl, by rw [ht9]; exact hP9, hS.F ht9⟩) hS.2.2 dX1_rateAs_46
  · skip
    replace c_1_r := c_1_r.trans c_1
    refine lv_tableIn (tgt := 47) (off := 46) hx hb dX1_rateAs_1 (by rw [c_1_r]; decide) (by rw [c_1_r]; decide) (by rw [c_1_r]; rfl) (by decide) ?_
    refine lv_aload_n hx hb dX1_rateAs_47 rfl (lv_at hl 0 rfl) ?_
    refine lv_aload_n hx hb dX1_rateAs_48 rfl (lv_at hl 2 rfl) ?_
    refine lv_iload_n hx hb dX1_rateAs_49 rfl (lv_at hl 3 rfl) ?_
    have hP := hP.sub (ws' := [(h6, .inr (1, [.long tr])), (h, .inr (0, [.int (iZ (K 0 0)), .int (iZ (K 0 1)), .int (iZ (K 0 2)), .int (iZ (K 0 3)), .int (iZ (K 0 4)), .int (iZ (K 0 5)), .int (iZ (K 0 6)), .ref (ad 1), .ref (ad 2), .ref (ad 3), .ref (ad 4), .ref (ad 5), .ref (ad 6), .ref (ad 7)])), (ad 1, .inl (Y 0, 6, .inl (aI (K 1)))), (ad 2, .inl (Y 0, 6, .inl (aI (K 2)))), (ad 3, .inl (Y 0, 6, .inl (aI (K 3)))), (ad 4, .inl (Y 1, 6, .inl (aI (K 4)))), (ad 5, .inl (Y 1, 6, .inl (aI (K 5)))), (ad 6, .inl (Y 0, 7, .inl (aI (K 6)))), (ad 7, .inl (Y 0, 7, .inl (aI (K 7))))] ++ []) [0, 1, 2, 3, 4, 5, 6, 7, 8] rfl
    have hD := hD.sub (ws' := [(h6, .inr (1, [.long tr])), (h, .inr (0, [.int (iZ (K 0 0)), .int (iZ (K 0 1)), .int (iZ (K 0 2)), .int (iZ (K 0 3)), .int (iZ (K 0 4)), .int (iZ (K 0 5)), .int (iZ (K 0 6)), .ref (ad 1), .ref (ad 2), .ref (ad 3), .ref (ad 4), .ref (ad 5), .ref (ad 6), .ref (ad 7)])), (ad 1, .inl (Y 0, 6, .inl (aI (K 1)))), (ad 2, .inl (Y 0, 6, .inl (aI (K 2)))), (ad 3, .inl (Y 0, 6, .inl (aI (K 3)))), (ad 4, .inl (Y 1, 6, .inl (aI (K 4)))), (ad 5, .inl (Y 1, 6, .inl (aI (K 5)))), (ad 6, .inl (Y 0, 7, .inl (aI (K 6)))), (ad 7, .inl (Y 0, 7, .inl (aI (K 7))))] ++ []) [0, 1, 2, 3, 4, 5, 6, 7, 8] (by decide) rfl
    refine mu_V (As := [.ref h, .int (iZ ((t : Nat) : Int))]) (rest := []) (wc := [(h6, .inr (1, [.long tr])), (h, .inr (0, [.int (iZ (K 0 0)), .int (iZ (K 0 1)), .int (iZ (K 0 2)), .int (iZ (K 0 3)), .int (iZ (K 0 4)), .int (iZ (K 0 5)), .int (iZ (K 0 6)), .ref (ad 1), .ref (ad 2), .ref (ad 3), .ref (ad 4), .ref (ad 5), .ref (ad 6), .ref (ad 7)])), (ad 1, .inl (Y 0, 6, .inl (aI (K 1)))), (ad 2, .inl (Y 0, 6, .inl (aI (K 2)))), (ad 3, .inl (Y 0, 6, .inl (aI (K 3)))), (ad 4, .inl (Y 1, 6, .inl (aI (K 4)))), (ad 5, .inl (Y 1, 6, .inl (aI (K 5)))), (ad 6, .inl (Y 0, 7, .inl (aI (K 6)))), (ad 7, .inl (Y 0, 7, .inl (aI (K 7))))]) (wc' := kiW Y h6 (tr + kC10 + 1) ++ cmW Y h ad K) (F := []) ⟨hx, hb, hml, hown, hts⟩ (c_X1_rateOak l G Y h6 tr h ad K hW t (by omega)) (cwV 2 hts gX1_rateAs_X1_rateOak rfl rfl rfl (by decide +kernel) ⟨Nat.le_of_ble_eq_true rfl, Nat.le_of_ble_eq_true rfl⟩) hK hP hD hS 0 rfl rfl (Eq.refl [h6, h, ad 1, ad 2, ad 3, ad 4, ad 5, ad 6, ad 7]) rfl hl.1 rfl (Nat.le_of_ble_eq_true rfl) dX1_rateAs_50 ⟨Nat.zero_le _, Nat.zero_le _⟩ (fun H locs hP hD hS => ?_)
    show W _ _ _ _ _ _ _ _ _ _ _ _ _ _ _ (F0 _ _ _ [.int (iZ (K 2 t + wu K t))])
    replace hP : va_P G vwCl [(h6, .inr (1, [.long (tr + kC10 + 1)])), (h, .inr (0, [.int (iZ (K 0 0)), .int (iZ (K 0 1)), .int (iZ (K 0 2)), .int (iZ (K 0 3)), .int (iZ (K 0 4)), .int (iZ (K 0 5)), .int (iZ (K 0 6)), .ref (ad 1), .ref (ad 2), .ref (ad 3), .ref (ad 4), .ref (ad 5), .ref (ad 6), .ref (ad 7)])), (ad 1, .inl (Y 0, 6, .inl (aI (K 1)))), (ad 2, .inl (Y 0, 6, .inl (aI (K 2)))), (ad 3, .inl (Y 0, 6, .inl (aI (K 3)))), (ad 4, .inl (Y 1, 6, .inl (aI (K 4)))), (ad 5, .inl (Y 1, 6, .inl (aI (K 5)))), (ad 6, .inl (Y 0, 7, .inl (aI (K 6)))), (ad 7, .inl (Y 0, 7, .inl (aI (K 7))))] H := hP
    replace hD : va_D _ [(h6, .inr (1, [.long (tr + kC10 + 1)])), (h, .inr (0, [.int (iZ (K 0 0)), .int (iZ (K 0 1)), .int (iZ (K 0 2)), .int (iZ (K 0 3)), .int (iZ (K 0 4)), .int (iZ (K 0 5)), .int (iZ (K 0 6)), .ref (ad 1), .ref (ad 2), .ref (ad 3), .ref (ad 4), .ref (ad 5), .ref (ad 6), .ref (ad 7)])), (ad 1, .inl (Y 0, 6, .inl (aI (K 1)))), (ad 2, .inl (Y 0, 6, .inl (aI (K 2)))), (ad 3, .inl (Y 0, 6, .inl (aI (K 3)))), (ad 4, .inl (Y 1, 6, .inl (aI (K 4)))), (ad 5, .inl (Y 1, 6, .inl (aI (K 5)))), (ad 6, .inl (Y 0, 7, .inl (aI (K 6)))), (ad 7, .inl (Y 0, 7, .inl (aI (K 7))))] := hD
    have hb_4 := hW.2.1 t (by omega)
    have hb_5 := wu_in hW ((t : Nat) : Int)
    refine z_top (show (K 2 t + wu K t) = raR K k9 t from ?_) ?_
    · rw [c_1]; rfl
    have hP9 : va_P G vwCl (kiW Y h6 (raT tr k9) ++ cmW Y h ad K) H := by rw [raT_1 c_1]; exact hP
    exact W.iret (v := iZ (raR K k9 t)) hx hb hr (fun t9 ht9 _ => ⟨rfl, by rw [ht9]; exact hP9, hS.F ht9⟩) hS.2.2 dX1_rateAs_53
  · skip
    replace c_1_r := c_1_r.trans c_1
    refine lv_tableIn (tgt := 54) (off := 53) hx hb dX1_rateAs_1 (by rw [c_1_r]; decide) (by rw [c_1_r]; decide) (by rw [c_1_r]; rfl) (by decide) ?_
    refine lv_aload_n hx hb dX1_rateAs_54 rfl (lv_at hl 0 rfl) ?_
    refine lv_aload_n hx hb dX1_rateAs_55 rfl (lv_at hl 2 rfl) ?_
    refine lv_iload_n hx hb dX1_rateAs_56 rfl (lv_at hl 3 rfl) ?_
    have hP := hP.sub (ws' := [(h6, .inr (1, [.long tr])), (h, .inr (0, [.int (iZ (K 0 0)), .int (iZ (K 0 1)), .int (iZ (K 0 2)), .int (iZ (K 0 3)), .int (iZ (K 0 4)), .int (iZ (K 0 5)), .int (iZ (K 0 6)), .ref (ad 1), .ref (ad 2), .ref (ad 3), .ref (ad 4), .ref (ad 5), .ref (ad 6), .ref (ad 7)])), (ad 1, .inl (Y 0, 6, .inl (aI (K 1)))), (ad 2, .inl (Y 0, 6, .inl (aI (K 2)))), (ad 3, .inl (Y 0, 6, .inl (aI (K 3)))), (ad 4, .inl (Y 1, 6, .inl (aI (K 4)))), (ad 5, .inl (Y 1, 6, .inl (aI (K 5)))), (ad 6, .inl (Y 0, 7, .inl (aI (K 6)))), (ad 7, .inl (Y 0, 7, .inl (aI (K 7))))] ++ []) [0, 1, 2, 3, 4, 5, 6, 7, 8] rfl
    have hD := hD.sub (ws' := [(h6, .inr (1, [.long tr])), (h, .inr (0, [.int (iZ (K 0 0)), .int (iZ (K 0 1)), .int (iZ (K 0 2)), .int (iZ (K 0 3)), .int (iZ (K 0 4)), .int (iZ (K 0 5)), .int (iZ (K 0 6)), .ref (ad 1), .ref (ad 2), .ref (ad 3), .ref (ad 4), .ref (ad 5), .ref (ad 6), .ref (ad 7)])), (ad 1, .inl (Y 0, 6, .inl (aI (K 1)))), (ad 2, .inl (Y 0, 6, .inl (aI (K 2)))), (ad 3, .inl (Y 0, 6, .inl (aI (K 3)))), (ad 4, .inl (Y 1, 6, .inl (aI (K 4)))), (ad 5, .inl (Y 1, 6, .inl (aI (K 5)))), (ad 6, .inl (Y 0, 7, .inl (aI (K 6)))), (ad 7, .inl (Y 0, 7, .inl (aI (K 7))))] ++ []) [0, 1, 2, 3, 4, 5, 6, 7, 8] (by decide) rfl
    refine mu_V (As := [.ref h, .int (iZ ((t : Nat) : Int))]) (rest := []) (wc := [(h6, .inr (1, [.long tr])), (h, .inr (0, [.int (iZ (K 0 0)), .int (iZ (K 0 1)), .int (iZ (K 0 2)), .int (iZ (K 0 3)), .int (iZ (K 0 4)), .int (iZ (K 0 5)), .int (iZ (K 0 6)), .ref (ad 1), .ref (ad 2), .ref (ad 3), .ref (ad 4), .ref (ad 5), .ref (ad 6), .ref (ad 7)])), (ad 1, .inl (Y 0, 6, .inl (aI (K 1)))), (ad 2, .inl (Y 0, 6, .inl (aI (K 2)))), (ad 3, .inl (Y 0, 6, .inl (aI (K 3)))), (ad 4, .inl (Y 1, 6, .inl (aI (K 4)))), (ad 5, .inl (Y 1, 6, .inl (aI (K 5)))), (ad 6, .inl (Y 0, 7, .inl (aI (K 6)))), (ad 7, .inl (Y 0, 7, .inl (aI (K 7))))]) (wc' := kiW Y h6 (tr + kC100 + 1) ++ cmW Y h ad K) (F := []) ⟨hx, hb, hml, hown, hts⟩ (c_X1_ratePoplar l G Y h6 tr h ad K hW t (by omega)) (cwV 2 hts gX1_rateAs_X1_ratePoplar rfl rfl rfl (by decide +kernel) ⟨Nat.le_of_ble_eq_true rfl, Nat.le_of_ble_eq_true rfl⟩) hK hP hD hS 0 rfl rfl (Eq.refl [h6, h, ad 1, ad 2, ad 3, ad 4, ad 5, ad 6, ad 7]) rfl hl.1 rfl (Nat.le_of_ble_eq_true rfl) dX1_rateAs_57 ⟨Nat.zero_le _, Nat.zero_le _⟩ (fun H locs hP hD hS => ?_)
    show W _ _ _ _ _ _ _ _ _ _ _ _ _ _ _ (F0 _ _ _ [.int (iZ (K 2 t - K 1 t))])
    replace hP : va_P G vwCl [(h6, .inr (1, [.long (tr + kC100 + 1)])), (h, .inr (0, [.int (iZ (K 0 0)), .int (iZ (K 0 1)), .int (iZ (K 0 2)), .int (iZ (K 0 3)), .int (iZ (K 0 4)), .int (iZ (K 0 5)), .int (iZ (K 0 6)), .ref (ad 1), .ref (ad 2), .ref (ad 3), .ref (ad 4), .ref (ad 5), .ref (ad 6), .ref (ad 7)])), (ad 1, .inl (Y 0, 6, .inl (aI (K 1)))), (ad 2, .inl (Y 0, 6, .inl (aI (K 2)))), (ad 3, .inl (Y 0, 6, .inl (aI (K 3)))), (ad 4, .inl (Y 1, 6, .inl (aI (K 4)))), (ad 5, .inl (Y 1, 6, .inl (aI (K 5)))), (ad 6, .inl (Y 0, 7, .inl (aI (K 6)))), (ad 7, .inl (Y 0, 7, .inl (aI (K 7))))] H := hP
    replace hD : va_D _ [(h6, .inr (1, [.long (tr + kC100 + 1)])), (h, .inr (0, [.int (iZ (K 0 0)), .int (iZ (K 0 1)), .int (iZ (K 0 2)), .int (iZ (K 0 3)), .int (iZ (K 0 4)), .int (iZ (K 0 5)), .int (iZ (K 0 6)), .ref (ad 1), .ref (ad 2), .ref (ad 3), .ref (ad 4), .ref (ad 5), .ref (ad 6), .ref (ad 7)])), (ad 1, .inl (Y 0, 6, .inl (aI (K 1)))), (ad 2, .inl (Y 0, 6, .inl (aI (K 2)))), (ad 3, .inl (Y 0, 6, .inl (aI (K 3)))), (ad 4, .inl (Y 1, 6, .inl (aI (K 4)))), (ad 5, .inl (Y 1, 6, .inl (aI (K 5)))), (ad 6, .inl (Y 0, 7, .inl (aI (K 6)))), (ad 7, .inl (Y 0, 7, .inl (aI (K 7))))] := hD
    have hb_6 := hW.2.1 t (by omega)
    have hb_7 := wu_in hW ((t : Nat) : Int)
    refine z_top (show (K 2 t - K 1 t) = raR K k9 t from ?_) ?_
    · rw [c_1]; rfl
    have hP9 : va_P G vwCl (kiW Y h6 (raT tr k9) ++ cmW Y h ad K) H := by rw [raT_2 c_1]; exact hP
    exact W.iret (v := iZ (raR K k9 t)) hx hb hr (fun t9 ht9 _ => ⟨rfl, by rw [ht9]; exact hP9, hS.F ht9⟩) hS.2.2 dX1_rateAs_60
  · skip
    replace c_1_r := c_1_r.trans c_1
    refine lv_tableIn (tgt := 61) (off := 60) hx hb dX1_rateAs_1 (by rw [c_1_r]; decide) (by rw [c_1_r]; decide) (by rw [c_1_r]; rfl) (by decide) ?_
    refine lv_aload_n hx hb dX1_rateAs_61 rfl (lv_at hl 0 rfl) ?_
    refine lv_aload_n hx hb dX1_rateAs_62 rfl (lv_at hl 2 rfl) ?_
    refine lv_iload_n hx hb dX1_rateAs_63 rfl (lv_at hl 3 rfl) ?_
    have hP := hP.sub (ws' := [(h6, .inr (1, [.long tr])), (h, .inr (0, [.int (iZ (K 0 0)), .int (iZ (K 0 1)), .int (iZ (K 0 2)), .int (iZ (K 0 3)), .int (iZ (K 0 4)), .int (iZ (K 0 5)), .int (iZ (K 0 6)), .ref (ad 1), .ref (ad 2), .ref (ad 3), .ref (ad 4), .ref (ad 5), .ref (ad 6), .ref (ad 7)])), (ad 1, .inl (Y 0, 6, .inl (aI (K 1)))), (ad 2, .inl (Y 0, 6, .inl (aI (K 2)))), (ad 3, .inl (Y 0, 6, .inl (aI (K 3)))), (ad 4, .inl (Y 1, 6, .inl (aI (K 4)))), (ad 5, .inl (Y 1, 6, .inl (aI (K 5)))), (ad 6, .inl (Y 0, 7, .inl (aI (K 6)))), (ad 7, .inl (Y 0, 7, .inl (aI (K 7))))] ++ []) [0, 1, 2, 3, 4, 5, 6, 7, 8] rfl
    have hD := hD.sub (ws' := [(h6, .inr (1, [.long tr])), (h, .inr (0, [.int (iZ (K 0 0)), .int (iZ (K 0 1)), .int (iZ (K 0 2)), .int (iZ (K 0 3)), .int (iZ (K 0 4)), .int (iZ (K 0 5)), .int (iZ (K 0 6)), .ref (ad 1), .ref (ad 2), .ref (ad 3), .ref (ad 4), .ref (ad 5), .ref (ad 6), .ref (ad 7)])), (ad 1, .inl (Y 0, 6, .inl (aI (K 1)))), (ad 2, .inl (Y 0, 6, .inl (aI (K 2)))), (ad 3, .inl (Y 0, 6, .inl (aI (K 3)))), (ad 4, .inl (Y 1, 6, .inl (aI (K 4)))), (ad 5, .inl (Y 1, 6, .inl (aI (K 5)))), (ad 6, .inl (Y 0, 7, .inl (aI (K 6)))), (ad 7, .inl (Y 0, 7, .inl (aI (K 7))))] ++ []) [0, 1, 2, 3, 4, 5, 6, 7, 8] (by decide) rfl
    refine mu_V (As := [.ref h, .int (iZ ((t : Nat) : Int))]) (rest := []) (wc := [(h6, .inr (1, [.long tr])), (h, .inr (0, [.int (iZ (K 0 0)), .int (iZ (K 0 1)), .int (iZ (K 0 2)), .int (iZ (K 0 3)), .int (iZ (K 0 4)), .int (iZ (K 0 5)), .int (iZ (K 0 6)), .ref (ad 1), .ref (ad 2), .ref (ad 3), .ref (ad 4), .ref (ad 5), .ref (ad 6), .ref (ad 7)])), (ad 1, .inl (Y 0, 6, .inl (aI (K 1)))), (ad 2, .inl (Y 0, 6, .inl (aI (K 2)))), (ad 3, .inl (Y 0, 6, .inl (aI (K 3)))), (ad 4, .inl (Y 1, 6, .inl (aI (K 4)))), (ad 5, .inl (Y 1, 6, .inl (aI (K 5)))), (ad 6, .inl (Y 0, 7, .inl (aI (K 6)))), (ad 7, .inl (Y 0, 7, .inl (aI (K 7))))]) (wc' := kiW Y h6 (tr + kC1000 + kC10 + 1) ++ cmW Y h ad K) (F := []) ⟨hx, hb, hml, hown, hts⟩ (c_X1_rateElder l G Y h6 tr h ad K hW t (by omega)) (cwV 2 hts gX1_rateAs_X1_rateElder rfl rfl rfl (by decide +kernel) ⟨Nat.le_of_ble_eq_true rfl, Nat.le_of_ble_eq_true rfl⟩) hK hP hD hS 0 rfl rfl (Eq.refl [h6, h, ad 1, ad 2, ad 3, ad 4, ad 5, ad 6, ad 7]) rfl hl.1 rfl (Nat.le_of_ble_eq_true rfl) dX1_rateAs_64 ⟨Nat.zero_le _, Nat.zero_le _⟩ (fun H locs hP hD hS => ?_)
    show W _ _ _ _ _ _ _ _ _ _ _ _ _ _ _ (F0 _ _ _ [.int (iZ (2 * (K 2 t + wu K t)))])
    replace hP : va_P G vwCl [(h6, .inr (1, [.long (tr + kC1000 + kC10 + 1)])), (h, .inr (0, [.int (iZ (K 0 0)), .int (iZ (K 0 1)), .int (iZ (K 0 2)), .int (iZ (K 0 3)), .int (iZ (K 0 4)), .int (iZ (K 0 5)), .int (iZ (K 0 6)), .ref (ad 1), .ref (ad 2), .ref (ad 3), .ref (ad 4), .ref (ad 5), .ref (ad 6), .ref (ad 7)])), (ad 1, .inl (Y 0, 6, .inl (aI (K 1)))), (ad 2, .inl (Y 0, 6, .inl (aI (K 2)))), (ad 3, .inl (Y 0, 6, .inl (aI (K 3)))), (ad 4, .inl (Y 1, 6, .inl (aI (K 4)))), (ad 5, .inl (Y 1, 6, .inl (aI (K 5)))), (ad 6, .inl (Y 0, 7, .inl (aI (K 6)))), (ad 7, .inl (Y 0, 7, .inl (aI (K 7))))] H := hP
    replace hD : va_D _ [(h6, .inr (1, [.long (tr + kC1000 + kC10 + 1)])), (h, .inr (0, [.int (iZ (K 0 0)), .int (iZ (K 0 1)), .int (iZ (K 0 2)), .int (iZ (K 0 3)), .int (iZ (K 0 4)), .int (iZ (K 0 5)), .int (iZ (K 0 6)), .ref (ad 1), .ref (ad 2), .ref (ad 3), .ref (ad 4), .ref (ad 5), .ref (ad 6), .ref (ad 7)])), (ad 1, .inl (Y 0, 6, .inl (aI (K 1)))), (ad 2, .inl (Y 0, 6, .inl (aI (K 2)))), (ad 3, .inl (Y 0, 6, .inl (aI (K 3)))), (ad 4, .inl (Y 1, 6, .inl (aI (K 4)))), (ad 5, .inl (Y 1, 6, .inl (aI (K 5)))), (ad 6, .inl (Y 0, 7, .inl (aI (K 6)))), (ad 7, .inl (Y 0, 7, .inl (aI (K 7))))] := hD
    have hb_8 := hW.2.1 t (by omega)
    have hb_9 := wu_in hW ((t : Nat) : Int)
    refine z_top (show (2 * (K 2 t + wu K t)) = raR K k9 t from ?_) ?_
    · rw [c_1]; rfl
    have hP9 : va_P G vwCl (kiW Y h6 (raT tr k9) ++ cmW Y h ad K) H := by rw [raT_3 c_1]; exact hP
    exact W.iret (v := iZ (raR K k9 t)) hx hb hr (fun t9 ht9 _ => ⟨rfl, by rw [ht9]; exact hP9, hS.F ht9⟩) hS.2.2 dX1_rateAs_67
  · skip
    replace c_1_r := c_1_r.trans c_1
    refine lv_tableIn (tgt := 68) (off := 67) hx hb dX1_rateAs_1 (by rw [c_1_r]; decide) (by rw [c_1_r]; decide) (by rw [c_1_r]; rfl) (by decide) ?_
    refine lv_aload_n hx hb dX1_rateAs_68 rfl (lv_at hl 0 rfl) ?_
    refine lv_aload_n hx hb dX1_rateAs_69 rfl (lv_at hl 2 rfl) ?_
    refine lv_iload_n hx hb dX1_rateAs_70 rfl (lv_at hl 3 rfl) ?_
    have hP := hP.sub (ws' := [(h6, .inr (1, [.long tr])), (h, .inr (0, [.int (iZ (K 0 0)), .int (iZ (K 0 1)), .int (iZ (K 0 2)), .int (iZ (K 0 3)), .int (iZ (K 0 4)), .int (iZ (K 0 5)), .int (iZ (K 0 6)), .ref (ad 1), .ref (ad 2), .ref (ad 3), .ref (ad 4), .ref (ad 5), .ref (ad 6), .ref (ad 7)])), (ad 1, .inl (Y 0, 6, .inl (aI (K 1)))), (ad 2, .inl (Y 0, 6, .inl (aI (K 2)))), (ad 3, .inl (Y 0, 6, .inl (aI (K 3)))), (ad 4, .inl (Y 1, 6, .inl (aI (K 4)))), (ad 5, .inl (Y 1, 6, .inl (aI (K 5)))), (ad 6, .inl (Y 0, 7, .inl (aI (K 6)))), (ad 7, .inl (Y 0, 7, .inl (aI (K 7))))] ++ []) [0, 1, 2, 3, 4, 5, 6, 7, 8] rfl
    have hD := hD.sub (ws' := [(h6, .inr (1, [.long tr])), (h, .inr (0, [.int (iZ (K 0 0)), .int (iZ (K 0 1)), .int (iZ (K 0 2)), .int (iZ (K 0 3)), .int (iZ (K 0 4)), .int (iZ (K 0 5)), .int (iZ (K 0 6)), .ref (ad 1), .ref (ad 2), .ref (ad 3), .ref (ad 4), .ref (ad 5), .ref (ad 6), .ref (ad 7)])), (ad 1, .inl (Y 0, 6, .inl (aI (K 1)))), (ad 2, .inl (Y 0, 6, .inl (aI (K 2)))), (ad 3, .inl (Y 0, 6, .inl (aI (K 3)))), (ad 4, .inl (Y 1, 6, .inl (aI (K 4)))), (ad 5, .inl (Y 1, 6, .inl (aI (K 5)))), (ad 6, .inl (Y 0, 7, .inl (aI (K 6)))), (ad 7, .inl (Y 0, 7, .inl (aI (K 7))))] ++ []) [0, 1, 2, 3, 4, 5, 6, 7, 8] (by decide) rfl
    refine mu_V (As := [.ref h, .int (iZ ((t : Nat) : Int))]) (rest := []) (wc := [(h6, .inr (1, [.long tr])), (h, .inr (0, [.int (iZ (K 0 0)), .int (iZ (K 0 1)), .int (iZ (K 0 2)), .int (iZ (K 0 3)), .int (iZ (K 0 4)), .int (iZ (K 0 5)), .int (iZ (K 0 6)), .ref (ad 1), .ref (ad 2), .ref (ad 3), .ref (ad 4), .ref (ad 5), .ref (ad 6), .ref (ad 7)])), (ad 1, .inl (Y 0, 6, .inl (aI (K 1)))), (ad 2, .inl (Y 0, 6, .inl (aI (K 2)))), (ad 3, .inl (Y 0, 6, .inl (aI (K 3)))), (ad 4, .inl (Y 1, 6, .inl (aI (K 4)))), (ad 5, .inl (Y 1, 6, .inl (aI (K 5)))), (ad 6, .inl (Y 0, 7, .inl (aI (K 6)))), (ad 7, .inl (Y 0, 7, .inl (aI (K 7))))]) (wc' := kiW Y h6 (tr + kC10000 + kC100 + 1) ++ cmW Y h ad K) (F := []) ⟨hx, hb, hml, hown, hts⟩ (c_X1_rateWillow l G Y h6 tr h ad K hW t (by omega)) (cwV 2 hts gX1_rateAs_X1_rateWillow rfl rfl rfl (by decide +kernel) ⟨Nat.le_of_ble_eq_true rfl, Nat.le_of_ble_eq_true rfl⟩) hK hP hD hS 0 rfl rfl (Eq.refl [h6, h, ad 1, ad 2, ad 3, ad 4, ad 5, ad 6, ad 7]) rfl hl.1 rfl (Nat.le_of_ble_eq_true rfl) dX1_rateAs_71 ⟨Nat.zero_le _, Nat.zero_le _⟩ (fun H locs hP hD hS => ?_)
    show W _ _ _ _ _ _ _ _ _ _ _ _ _ _ _ (F0 _ _ _ [.int (iZ (K 2 t - K 1 t + t))])
    replace hP : va_P G vwCl [(h6, .inr (1, [.long (tr + kC10000 + kC100 + 1)])), (h, .inr (0, [.int (iZ (K 0 0)), .int (iZ (K 0 1)), .int (iZ (K 0 2)), .int (iZ (K 0 3)), .int (iZ (K 0 4)), .int (iZ (K 0 5)), .int (iZ (K 0 6)), .ref (ad 1), .ref (ad 2), .ref (ad 3), .ref (ad 4), .ref (ad 5), .ref (ad 6), .ref (ad 7)])), (ad 1, .inl (Y 0, 6, .inl (aI (K 1)))), (ad 2, .inl (Y 0, 6, .inl (aI (K 2)))), (ad 3, .inl (Y 0, 6, .inl (aI (K 3)))), (ad 4, .inl (Y 1, 6, .inl (aI (K 4)))), (ad 5, .inl (Y 1, 6, .inl (aI (K 5)))), (ad 6, .inl (Y 0, 7, .inl (aI (K 6)))), (ad 7, .inl (Y 0, 7, .inl (aI (K 7))))] H := hP
    replace hD : va_D _ [(h6, .inr (1, [.long (tr + kC10000 + kC100 + 1)])), (h, .inr (0, [.int (iZ (K 0 0)), .int (iZ (K 0 1)), .int (iZ (K 0 2)), .int (iZ (K 0 3)), .int (iZ (K 0 4)), .int (iZ (K 0 5)), .int (iZ (K 0 6)), .ref (ad 1), .ref (ad 2), .ref (ad 3), .ref (ad 4), .ref (ad 5), .ref (ad 6), .ref (ad 7)])), (ad 1, .inl (Y 0, 6, .inl (aI (K 1)))), (ad 2, .inl (Y 0, 6, .inl (aI (K 2)))), (ad 3, .inl (Y 0, 6, .inl (aI (K 3)))), (ad 4, .inl (Y 1, 6, .inl (aI (K 4)))), (ad 5, .inl (Y 1, 6, .inl (aI (K 5)))), (ad 6, .inl (Y 0, 7, .inl (aI (K 6)))), (ad 7, .inl (Y 0, 7, .inl (aI (K 7))))] := hD
    have hb_10 := hW.2.1 t (by omega)
    have hb_11 := wu_in hW ((t : Nat) : Int)
    refine z_top (show (K 2 t - K 1 t + t) = raR K k9 t from ?_) ?_
    · rw [c_1]; rfl
    have hP9 : va_P G vwCl (kiW Y h6 (raT tr k9) ++ cmW Y h ad K) H := by rw [raT_4 c_1]; exact hP
    exact W.iret (v := iZ (raR K k9 t)) hx hb hr (fun t9 ht9 _ => ⟨rfl, by rw [ht9]; exact hP9, hS.F ht9⟩) hS.2.2 dX1_rateAs_74
  · skip
    replace c_1_r := c_1_r.trans c_1
    refine lv_tableIn (tgt := 75) (off := 74) hx hb dX1_rateAs_1 (by rw [c_1_r]; decide) (by rw [c_1_r]; decide) (by rw [c_1_r]; rfl) (by decide) ?_
    refine lv_aload_n hx hb dX1_rateAs_75 rfl (lv_at hl 0 rfl) ?_
    refine lv_aload_n hx hb dX1_rateAs_76 rfl (lv_at hl 2 rfl) ?_
    refine lv_iload_n hx hb dX1_rateAs_77 rfl (lv_at hl 3 rfl) ?_
    have hP := hP.sub (ws' := [(h6, .inr (1, [.long tr])), (h, .inr (0, [.int (iZ (K 0 0)), .int (iZ (K 0 1)), .int (iZ (K 0 2)), .int (iZ (K 0 3)), .int (iZ (K 0 4)), .int (iZ (K 0 5)), .int (iZ (K 0 6)), .ref (ad 1), .ref (ad 2), .ref (ad 3), .ref (ad 4), .ref (ad 5), .ref (ad 6), .ref (ad 7)])), (ad 1, .inl (Y 0, 6, .inl (aI (K 1)))), (ad 2, .inl (Y 0, 6, .inl (aI (K 2)))), (ad 3, .inl (Y 0, 6, .inl (aI (K 3)))), (ad 4, .inl (Y 1, 6, .inl (aI (K 4)))), (ad 5, .inl (Y 1, 6, .inl (aI (K 5)))), (ad 6, .inl (Y 0, 7, .inl (aI (K 6)))), (ad 7, .inl (Y 0, 7, .inl (aI (K 7))))] ++ []) [0, 1, 2, 3, 4, 5, 6, 7, 8] rfl
    have hD := hD.sub (ws' := [(h6, .inr (1, [.long tr])), (h, .inr (0, [.int (iZ (K 0 0)), .int (iZ (K 0 1)), .int (iZ (K 0 2)), .int (iZ (K 0 3)), .int (iZ (K 0 4)), .int (iZ (K 0 5)), .int (iZ (K 0 6)), .ref (ad 1), .ref (ad 2), .ref (ad 3), .ref (ad 4), .ref (ad 5), .ref (ad 6), .ref (ad 7)])), (ad 1, .inl (Y 0, 6, .inl (aI (K 1)))), (ad 2, .inl (Y 0, 6, .inl (aI (K 2)))), (ad 3, .inl (Y 0, 6, .inl (aI (K 3)))), (ad 4, .inl (Y 1, 6, .inl (aI (K 4)))), (ad 5, .inl (Y 1, 6, .inl (aI (K 5)))), (ad 6, .inl (Y 0, 7, .inl (aI (K 6)))), (ad 7, .inl (Y 0, 7, .inl (aI (K 7))))] ++ []) [0, 1, 2, 3, 4, 5, 6, 7, 8] (by decide) rfl
    refine mu_V (As := [.ref h, .int (iZ ((t : Nat) : Int))]) (rest := []) (wc := [(h6, .inr (1, [.long tr])), (h, .inr (0, [.int (iZ (K 0 0)), .int (iZ (K 0 1)), .int (iZ (K 0 2)), .int (iZ (K 0 3)), .int (iZ (K 0 4)), .int (iZ (K 0 5)), .int (iZ (K 0 6)), .ref (ad 1), .ref (ad 2), .ref (ad 3), .ref (ad 4), .ref (ad 5), .ref (ad 6), .ref (ad 7)])), (ad 1, .inl (Y 0, 6, .inl (aI (K 1)))), (ad 2, .inl (Y 0, 6, .inl (aI (K 2)))), (ad 3, .inl (Y 0, 6, .inl (aI (K 3)))), (ad 4, .inl (Y 1, 6, .inl (aI (K 4)))), (ad 5, .inl (Y 1, 6, .inl (aI (K 5)))), (ad 6, .inl (Y 0, 7, .inl (aI (K 6)))), (ad 7, .inl (Y 0, 7, .inl (aI (K 7))))]) (wc' := kiW Y h6 (tr + kC100000 + 1) ++ cmW Y h ad K) (F := []) ⟨hx, hb, hml, hown, hts⟩ (c_X1_rateStump l G Y h6 tr h ad K hW t (by omega)) (cwV 2 hts gX1_rateAs_X1_rateStump rfl rfl rfl (by decide +kernel) ⟨Nat.le_of_ble_eq_true rfl, Nat.le_of_ble_eq_true rfl⟩) hK hP hD hS 0 rfl rfl (Eq.refl [h6, h, ad 1, ad 2, ad 3, ad 4, ad 5, ad 6, ad 7]) rfl hl.1 rfl (Nat.le_of_ble_eq_true rfl) dX1_rateAs_78 ⟨Nat.zero_le _, Nat.zero_le _⟩ (fun H locs hP hD hS => ?_)
    show W _ _ _ _ _ _ _ _ _ _ _ _ _ _ _ (F0 _ _ _ [.int (iZ (K 2 t + ((pcN (shB K t (K 0 0 * K 0 1).toNat) (K 0 0 * K 0 1).toNat : Nat) : Int)))])
    replace hP : va_P G vwCl [(h6, .inr (1, [.long (tr + kC100000 + 1)])), (h, .inr (0, [.int (iZ (K 0 0)), .int (iZ (K 0 1)), .int (iZ (K 0 2)), .int (iZ (K 0 3)), .int (iZ (K 0 4)), .int (iZ (K 0 5)), .int (iZ (K 0 6)), .ref (ad 1), .ref (ad 2), .ref (ad 3), .ref (ad 4), .ref (ad 5), .ref (ad 6), .ref (ad 7)])), (ad 1, .inl (Y 0, 6, .inl (aI (K 1)))), (ad 2, .inl (Y 0, 6, .inl (aI (K 2)))), (ad 3, .inl (Y 0, 6, .inl (aI (K 3)))), (ad 4, .inl (Y 1, 6, .inl (aI (K 4)))), (ad 5, .inl (Y 1, 6, .inl (aI (K 5)))), (ad 6, .inl (Y 0, 7, .inl (aI (K 6)))), (ad 7, .inl (Y 0, 7, .inl (aI (K 7))))] H := hP
    replace hD : va_D _ [(h6, .inr (1, [.long (tr + kC100000 + 1)])), (h, .inr (0, [.int (iZ (K 0 0)), .int (iZ (K 0 1)), .int (iZ (K 0 2)), .int (iZ (K 0 3)), .int (iZ (K 0 4)), .int (iZ (K 0 5)), .int (iZ (K 0 6)), .ref (ad 1), .ref (ad 2), .ref (ad 3), .ref (ad 4), .ref (ad 5), .ref (ad 6), .ref (ad 7)])), (ad 1, .inl (Y 0, 6, .inl (aI (K 1)))), (ad 2, .inl (Y 0, 6, .inl (aI (K 2)))), (ad 3, .inl (Y 0, 6, .inl (aI (K 3)))), (ad 4, .inl (Y 1, 6, .inl (aI (K 4)))), (ad 5, .inl (Y 1, 6, .inl (aI (K 5)))), (ad 6, .inl (Y 0, 7, .inl (aI (K 6)))), (ad 7, .inl (Y 0, 7, .inl (aI (K 7))))] := hD
    have hb_12 := hW.2.1 t (by omega)
    have hb_13 := wu_in hW ((t : Nat) : Int)
    refine z_top (show (K 2 t + ((pcN (shB K t (K 0 0 * K 0 1).toNat) (K 0 0 * K 0 1).toNat : Nat) : Int)) = raR K k9 t from ?_) ?_
    · rw [c_1]; rfl
    have hP9 : va_P G vwCl (kiW Y h6 (raT tr k9) ++ cmW Y h ad K) H := by rw [raT_5 c_1]; exact hP
    exact W.iret (v := iZ (raR K k9 t)) hx hb hr (fun t9 ht9 _ => ⟨rfl, by rw [ht9]; exact hP9, hS.F ht9⟩) hS.2.2 dX1_rateAs_81
