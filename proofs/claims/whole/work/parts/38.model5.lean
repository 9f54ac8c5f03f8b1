set_option maxHeartbeats 4000000 in
set_option maxRecDepth 100000 in
theorem c_X7_copy (l : Launch) (G : va_G) (Y : Nat → ClassId) (aa bb na nb : Nat) (fa fb : Nat → Int) (fr to : Int) (r : ((0 ≤ fr ∧ fr + 36 ≤ na) ∧ 0 ≤ to ∧ to + 36 ≤ nb) ∧ na < 2147483648 ∧ nb < 2147483648) : Met l yX7_copy wsX7_copy ({ frames := 0, cells := 0, slots := 0, locals := 0 }) (mP G Y [.ref aa, .int (iZ fr), .ref bb, .int (iZ to)] (cpW Y aa bb na nb fa fb)) (mQ G (cpW Y aa bb na nb fa fb) none (cpW Y aa bb na nb fa (va_cpy fa fb fr.toNat to.toNat 36))) 0 0 (fun q => q ∈ List.map Prod.fst (cpW Y aa bb na nb fa fb)) := by
  refine Met.ofW (cc := cX7_copy) (maxL := 5) (ret := none) (by decide) rfl ?_
  intro p e s m args below meth c s₁ B hml hv
  obtain ⟨rfl, hK, hP, hD0⟩ := hv
  have hx := B.exec
  have hb := B.bytes
  have hr := B.returns
  have hts := atoms_spec (ws := wsX7_copy) B.pre
  have hown : s.vm.findClass RX7 = some m.cls := findClass_of_methodNamed B.named
  have hlocks := B.notSynchronized
  have hD := va_D_self hD0
  have hS : va_S (fun q => q ∈ List.map Prod.fst (cpW Y aa bb na nb fa fb)) s.heap s.heap [] := va_S.rf
  obtain ⟨H, hHe⟩ : ∃ H, H = s.heap := ⟨_, rfl⟩
  rw [← hHe] at hP
  replace hS : va_S (fun q => q ∈ List.map Prod.fst (cpW Y aa bb na nb fa fb)) s.heap H [] := by rw [hHe]; exact hS
  have hl := lv_entry ([.ref aa, .int (iZ fr), .ref bb, .int (iZ to)]) (n := 5) (Nat.le_of_ble_eq_true rfl)
  rw [lg_entry_eq]
  generalize (lg_sl ([.ref aa, .int (iZ fr), .ref bb, .int (iZ to)]) ++ List.replicate (5 - (lg_sl ([.ref aa, .int (iZ fr), .ref bb, .int (iZ to)])).length) Slot.unset).toArray = ls at hl ⊢
  replace hl : lv_has ls 5 [(0, .ref aa), (1, .int (iZ fr)), (2, .ref bb), (3, .int (iZ to))] := hl
  obtain ⟨locs, hLe⟩ : ∃ locs : List Loc, locs = [] := ⟨_, rfl⟩
  rw [← hLe] at hS ⊢
  have hW0 : ∀ {Q : State → Prop} {g : JFrame}, W p l e ({ frames := 0, cells := 0, slots := 0, locals := 0 }) s m [.ref aa, .int (iZ fr), .ref bb, .int (iZ to)].toArray below meth c H locs 0 0 Q g → W p l e ({ frames := 0, cells := 0, slots := 0, locals := 0 }) s m [.ref aa, .int (iZ fr), .ref bb, .int (iZ to)].toArray below meth c s.heap locs 0 0 Q g := fun h => by rw [← hHe]; exact h
  refine hW0 ?_
  clear hW0 hHe hLe
  refine z_iconst hx hb dX7_copy_0 ?_
  refine lv_istore (lv' := [(4, .int (iZ 0)), (0, .ref aa), (1, .int (iZ fr)), (2, .ref bb), (3, .int (iZ to))]) hx hb dX7_copy_1 hl (by decide) rfl (fun ls hl => ?_)
  obtain ⟨k, f, hI, hl1, hP1, hD1⟩ : ∃ (k : Nat) (f : Nat → Int), (f = va_cpy fa fb fr.toNat to.toNat k ∧ k ≤ 36) ∧ lv_has ls 5 [(4, .int (iZ ((k : Nat) : Int))), (0, .ref aa), (1, .int (iZ fr)), (2, .ref bb), (3, .int (iZ to))] ∧ va_P G vwCl [(aa, .inl (Y 0, na, .inl (aI fa))), (bb, .inl (Y 0, nb, .inl (aI f)))] H ∧ va_D (fun q => q ∈ List.map Prod.fst (cpW Y aa bb na nb fa fb)) [(aa, .inl (Y 0, na, .inl (aI fa))), (bb, .inl (Y 0, nb, .inl (aI f)))] := ⟨0, fb, by exact ⟨cpy_0.symm, by omega⟩, lv_sub hl [0, 1, 2, 3, 4] rfl, hP, hD⟩
  clear hl hP hD
  have hl := hl1
  clear hl1
  have hP := hP1
  have hD := hD1
  clear hP1 hD1
  obtain ⟨n_, hn_⟩ : ∃ n_ : Nat, 36 - k < n_ := ⟨_, Nat.lt_succ_self _⟩
  induction n_ generalizing k f ls H locs with
  | zero => exact absurd hn_ (Nat.not_lt_zero _)
  | succ n_ ih1 =>
    refine lv_iload hx hb dX7_copy_3 (lv_at hl 0 rfl) ?_
    refine z_bipush hx hb dX7_copy_5 (by decide) ?_
    refine z_icmp_ge (tgt := 28) hx hb dX7_copy_7 (by decide) (by omega) (fun c_2 => ?_) (fun c_2 => ?_)
    · skip
      have hP9 : va_P G vwCl (cpW Y aa bb na nb fa (va_cpy fa fb fr.toNat to.toNat 36)) H := by rw [show va_cpy fa fb fr.toNat to.toNat 36 = f by rw [hI.1, show k = 36 by omega]]; exact hP
      exact W.vret hx hb hr (fun t9 ht9 _ => ⟨rfl, by rw [ht9]; exact hP9, hS.F ht9⟩) hS.2.2 dX7_copy_28
    · skip
      refine lv_aload_n hx hb dX7_copy_10 rfl (lv_at hl 3 rfl) ?_
      refine lv_iload_n hx hb dX7_copy_11 rfl (lv_at hl 4 rfl) ?_
      refine lv_iload hx hb dX7_copy_12 (lv_at hl 0 rfl) ?_
      refine z_iadd hx hb dX7_copy_14 ?_
      refine lv_aload_n hx hb dX7_copy_15 rfl (lv_at hl 1 rfl) ?_
      refine lv_iload_n hx hb dX7_copy_16 rfl (lv_at hl 2 rfl) ?_
      refine lv_iload hx hb dX7_copy_17 (lv_at hl 0 rfl) ?_
      refine z_iadd hx hb dX7_copy_19 ?_
      refine z_iald hx hb hK.1 hP 0 0 rfl rfl (((fr + ((k : Nat) : Int))).toNat) (by omega) (by omega) dX7_copy_20 ?_
      refine z_iast hx hb hK.1 hP hD hS 1 0 rfl rfl (((to + ((k : Nat) : Int))).toNat) (by omega) (by omega) dX7_copy_21 (fun H locs hP hD hS => ?_)
      replace hP : va_P G vwCl [(aa, .inl (Y 0, na, .inl (aI fa))), (bb, .inl (Y 0, nb, .inl (aI (va_up f (((to + ((k : Nat) : Int))).toNat) (fa (((fr + ((k : Nat) : Int))).toNat))))))] H := hP
      replace hD : va_D _ [(aa, .inl (Y 0, na, .inl (aI fa))), (bb, .inl (Y 0, nb, .inl (aI (va_up f (((to + ((k : Nat) : Int))).toNat) (fa (((fr + ((k : Nat) : Int))).toNat))))))] := hD
      refine lv_iinc (v := iZ ((k + 1 : Nat) : Int)) (lv' := [(4, .int (iZ ((k + 1 : Nat) : Int))), (0, .ref aa), (1, .int (iZ fr)), (2, .ref bb), (3, .int (iZ to))]) hx hb dX7_copy_22 hl (k := 0) rfl (iZ_inc _) (by decide) rfl (fun ls hl => ?_)
      refine lv_goto (tgt := 3) hx hb dX7_copy_25 (by decide) ?_
      exact ih1 (ls := ls) (k := k + 1) (f := va_up f (((to + ((k : Nat) : Int))).toNat) (fa (((fr + ((k : Nat) : Int))).toNat))) (H := H) (locs := locs) (hS := hS) (hI := by exact ⟨by rw [hI.1]; exact cpy_up (by omega) (by omega), by omega⟩) (hl := lv_sub hl [0, 1, 2, 3, 4] rfl) (hP := hP) (hD := hD) (hn_ := by omega)

set_option maxHeartbeats 4000000 in
set_option maxRecDepth 100000 in
theorem c_X7_note (l : Launch) (G : va_G) (Y : Nat → ClassId) (g9 : Nat) (af : Nat → Nat) (F : Nat → Int) (A : Kom) (tr : Int64) (r : 0 ≤ F 22 ∧ F 22 ≤ 10) : Met l yX7_note wsX7_note ({ frames := 1, cells := 0, slots := 0, locals := 24 }) (mP G Y [.ref g9] (moW Y g9 af F A tr)) (mQ G (moW Y g9 af F A tr) none (moW Y g9 af (va_up F 22 (min (F 22 + 1) 10)) (va_up A 21 (ntA (A 21) (A 17) (F 22))) (tr))) 0 0 (fun q => q ∈ List.map Prod.fst (moW Y g9 af F A tr)) := by
  refine Met.ofW (cc := cX7_note) (maxL := 2) (ret := none) (by decide) rfl ?_
  intro p e s m args below meth c s₁ B hml hv
  obtain ⟨rfl, hK, hP, hD0⟩ := hv
  have hx := B.exec
  have hb := B.bytes
  have hr := B.returns
  have hts := atoms_spec (ws := wsX7_note) B.pre
  have hown : s.vm.findClass RX7 = some m.cls := findClass_of_methodNamed B.named
  have hlocks := B.notSynchronized
  have hFX7 : ∀ w ∈ wsX70, w ∈ wsX7_note := by decide +kernel
  have kf119 := (hts (.fieldLink RX7 119 "ShadeVotesModel" "backs" "I") (by decide +kernel))
  have kf29 := (hts (.fieldLink RX7 29 "ShadeVotesModel" "now" "[I") (by decide +kernel))
  have kf42 := (hts (.fieldLink RX7 42 "ShadeVotesModel" "backOf" "[I") (by decide +kernel))
  have hD := va_D_self hD0
  have hS : va_S (fun q => q ∈ List.map Prod.fst (moW Y g9 af F A tr)) s.heap s.heap [] := va_S.rf
  obtain ⟨H, hHe⟩ : ∃ H, H = s.heap := ⟨_, rfl⟩
  rw [← hHe] at hP
  replace hS : va_S (fun q => q ∈ List.map Prod.fst (moW Y g9 af F A tr)) s.heap H [] := by rw [hHe]; exact hS
  have hl := lv_entry ([.ref g9]) (n := 2) (Nat.le_of_ble_eq_true rfl)
  rw [lg_entry_eq]
  generalize (lg_sl ([.ref g9]) ++ List.replicate (2 - (lg_sl ([.ref g9])).length) Slot.unset).toArray = ls at hl ⊢
  replace hl : lv_has ls 2 [(0, .ref g9)] := hl
  obtain ⟨locs, hLe⟩ : ∃ locs : List Loc, locs = [] := ⟨_, rfl⟩
  rw [← hLe] at hS ⊢
  have hW0 : ∀ {Q : State → Prop} {g : JFrame}, W p l e ({ frames := 1, cells := 0, slots := 0, locals := 24 }) s m [.ref g9].toArray below meth c H locs 0 0 Q g → W p l e ({ frames := 1, cells := 0, slots := 0, locals := 24 }) s m [.ref g9].toArray below meth c s.heap locs 0 0 Q g := fun h => by rw [← hHe]; exact h
  refine hW0 ?_
  clear hW0 hHe hLe
  refine lv_aload_n hx hb dX7_note_0 rfl (lv_at hl 0 rfl) ?_
  refine va_get (D := G) (ci := 7) (v := .int (iZ (F 22))) (C := RX7) (T := TX7) (N := 29) hx hb hts hFX7 hown hK.1 hP 0 rfl rfl 22 (by decide) kf119 (fun _ h9 => h9) rfl dX7_note_1 ?_
  refine z_bipush hx hb dX7_note_4 (by decide) ?_
  refine z_icmp_ne (tgt := 49) hx hb dX7_note_6 (by decide) (by omega) (fun c_1 => ?_) (fun c_1 => ?_)
  · skip
    refine lv_aload_n hx hb dX7_note_49 rfl (lv_at hl 0 rfl) ?_
    refine va_get (D := G) (ci := 7) (v := .ref (af 17)) (C := RX7) (T := TX7) (N := 29) hx hb hts hFX7 hown hK.1 hP 0 rfl rfl 17 (by decide) kf29 (fun _ h9 => h9) rfl dX7_note_50 ?_
    refine z_iconst hx hb dX7_note_53 ?_
    refine lv_aload_n hx hb dX7_note_54 rfl (lv_at hl 0 rfl) ?_
    refine va_get (D := G) (ci := 7) (v := .ref (af 21)) (C := RX7) (T := TX7) (N := 29) hx hb hts hFX7 hown hK.1 hP 0 rfl rfl 21 (by decide) kf42 (fun _ h9 => h9) rfl dX7_note_55 ?_
    refine z_bipush hx hb dX7_note_58 (by decide) ?_
    refine lv_aload_n hx hb dX7_note_60 rfl (lv_at hl 0 rfl) ?_
    refine va_get (D := G) (ci := 7) (v := .int (iZ (F 22))) (C := RX7) (T := TX7) (N := 29) hx hb hts hFX7 hown hK.1 hP 0 rfl rfl 22 (by decide) kf119 (fun _ h9 => h9) rfl dX7_note_61 ?_
    refine z_imul hx hb dX7_note_64 ?_
    have hP := hP.sub (ws' := [(af 17, .inl (Y 0, 36, .inl (aI (A 17)))), (af 21, .inl (Y 0, 360, .inl (aI (A 21))))] ++ [(g9, .inr (7, [.int (iZ (F 0)), .ref (af 1), .int (iZ (F 2)), .int (iZ (F 3)), .int (iZ (F 4)), .int (iZ (F 5)), .int (iZ (F 6)), .int (iZ (F 7)), .int (iZ (F 8)), .int (iZ (F 9)), .int (iZ (F 10)), .ref (af 11), .ref (af 12), .int (iZ (F 13)), .int (iZ (F 14)), .int (iZ (F 15)), .ref (af 16), .ref (af 17), .ref (af 18), .ref (af 19), .ref (af 20), .ref (af 21), .int (iZ (F 22)), .int (iZ (F 23)), .ref (af 24), .long tr, .int (iZ (F 26)), .int (iZ (F 27)), .int (iZ (F 28))])), (af 1, .inl (Y 0, 200, .inl (aI (A 1)))), (af 11, .inl (Y 0, 7, .inl (aI (A 11)))), (af 12, .inl (Y 0, 36, .inl (aI (A 12)))), (af 16, .inl (Y 0, 7, .inl (aI (A 16)))), (af 18, .inl (Y 0, 41, .inl (aI (A 18)))), (af 19, .inl (Y 0, 72, .inl (aI (A 19)))), (af 20, .inl (Y 1, 2, .inl (aI (A 20)))), (af 24, .inl (Y 0, 10, .inl (aI (A 24))))]) [5, 9, 0, 1, 2, 3, 4, 6, 7, 8, 10] rfl
    have hD := hD.sub (ws' := [(af 17, .inl (Y 0, 36, .inl (aI (A 17)))), (af 21, .inl (Y 0, 360, .inl (aI (A 21))))] ++ [(g9, .inr (7, [.int (iZ (F 0)), .ref (af 1), .int (iZ (F 2)), .int (iZ (F 3)), .int (iZ (F 4)), .int (iZ (F 5)), .int (iZ (F 6)), .int (iZ (F 7)), .int (iZ (F 8)), .int (iZ (F 9)), .int (iZ (F 10)), .ref (af 11), .ref (af 12), .int (iZ (F 13)), .int (iZ (F 14)), .int (iZ (F 15)), .ref (af 16), .ref (af 17), .ref (af 18), .ref (af 19), .ref (af 20), .ref (af 21), .int (iZ (F 22)), .int (iZ (F 23)), .ref (af 24), .long tr, .int (iZ (F 26)), .int (iZ (F 27)), .int (iZ (F 28))])), (af 1, .inl (Y 0, 200, .inl (aI (A 1)))), (af 11, .inl (Y 0, 7, .inl (aI (A 11)))), (af 12, .inl (Y 0, 36, .inl (aI (A 12)))), (af 16, .inl (Y 0, 7, .inl (aI (A 16)))), (af 18, .inl (Y 0, 41, .inl (aI (A 18)))), (af 19, .inl (Y 0, 72, .inl (aI (A 19)))), (af 20, .inl (Y 1, 2, .inl (aI (A 20)))), (af 24, .inl (Y 0, 10, .inl (aI (A 24))))]) [5, 9, 0, 1, 2, 3, 4, 6, 7, 8, 10] (by decide) rfl
    refine mu_S (As := [.ref (af 17), .int (iZ 0), .ref (af 21), .int (iZ (36 * F 22))]) (rest := []) (wc := [(af 17, .inl (Y 0, 36, .inl (aI (A 17)))), (af 21, .inl (Y 0, 360, .inl (aI (A 21))))]) (wc' := cpW Y (af 17) (af 21) 36 360 (A 17) (va_cpy (A 17) (A 21) (Int.toNat 0) (Int.toNat (36 * F 22)) 36)) (F := [(g9, .inr (7, [.int (iZ (F 0)), .ref (af 1), .int (iZ (F 2)), .int (iZ (F 3)), .int (iZ (F 4)), .int (iZ (F 5)), .int (iZ (F 6)), .int (iZ (F 7)), .int (iZ (F 8)), .int (iZ (F 9)), .int (iZ (F 10)), .ref (af 11), .ref (af 12), .int (iZ (F 13)), .int (iZ (F 14)), .int (iZ (F 15)), .ref (af 16), .ref (af 17), .ref (af 18), .ref (af 19), .ref (af 20), .ref (af 21), .int (iZ (F 22)), .int (iZ (F 23)), .ref (af 24), .long tr, .int (iZ (F 26)), .int (iZ (F 27)), .int (iZ (F 28))])), (af 1, .inl (Y 0, 200, .inl (aI (A 1)))), (af 11, .inl (Y 0, 7, .inl (aI (A 11)))), (af 12, .inl (Y 0, 36, .inl (aI (A 12)))), (af 16, .inl (Y 0, 7, .inl (aI (A 16)))), (af 18, .inl (Y 0, 41, .inl (aI (A 18)))), (af 19, .inl (Y 0, 72, .inl (aI (A 19)))), (af 20, .inl (Y 1, 2, .inl (aI (A 20)))), (af 24, .inl (Y 0, 10, .inl (aI (A 24))))]) ⟨hx, hb, hml, hown, hts⟩ (c_X7_copy l G Y (af 17) (af 21) 36 360 (A 17) (A 21) 0 (36 * F 22) (by omega)) (cwS 4 hts gX7_note_X7_copy rfl rfl rfl (by decide +kernel) ⟨Nat.le_of_ble_eq_true rfl, Nat.le_of_ble_eq_true rfl⟩) hK hP hD hS (Eq.refl [af 17, af 21]) rfl hl.1 rfl (Nat.le_of_ble_eq_true rfl) dX7_note_65 ⟨Nat.zero_le _, Nat.zero_le _⟩ (fun H locs hP hD hS => ?_)
    show W _ _ _ _ _ _ _ _ _ _ _ _ _ _ _ (F0 _ _ _ [])
    replace hP : va_P G vwCl [(af 17, .inl (Y 0, 36, .inl (aI (A 17)))), (af 21, .inl (Y 0, 360, .inl (aI (va_cpy (A 17) (A 21) (Int.toNat 0) (Int.toNat (36 * F 22)) 36)))), (g9, .inr (7, [.int (iZ (F 0)), .ref (af 1), .int (iZ (F 2)), .int (iZ (F 3)), .int (iZ (F 4)), .int (iZ (F 5)), .int (iZ (F 6)), .int (iZ (F 7)), .int (iZ (F 8)), .int (iZ (F 9)), .int (iZ (F 10)), .ref (af 11), .ref (af 12), .int (iZ (F 13)), .int (iZ (F 14)), .int (iZ (F 15)), .ref (af 16), .ref (af 17), .ref (af 18), .ref (af 19), .ref (af 20), .ref (af 21), .int (iZ (F 22)), .int (iZ (F 23)), .ref (af 24), .long tr, .int (iZ (F 26)), .int (iZ (F 27)), .int (iZ (F 28))])), (af 1, .inl (Y 0, 200, .inl (aI (A 1)))), (af 11, .inl (Y 0, 7, .inl (aI (A 11)))), (af 12, .inl (Y 0, 36, .inl (aI (A 12)))), (af 16, .inl (Y 0, 7, .inl (aI (A 16)))), (af 18, .inl (Y 0, 41, .inl (aI (A 18)))), (af 19, .inl (Y 0, 72, .inl (aI (A 19)))), (af 20, .inl (Y 1, 2, .inl (aI (A 20)))), (af 24, .inl (Y 0, 10, .inl (aI (A 24))))] H := hP
    replace hD : va_D _ [(af 17, .inl (Y 0, 36, .inl (aI (A 17)))), (af 21, .inl (Y 0, 360, .inl (aI (va_cpy (A 17) (A 21) (Int.toNat 0) (Int.toNat (36 * F 22)) 36)))), (g9, .inr (7, [.int (iZ (F 0)), .ref (af 1), .int (iZ (F 2)), .int (iZ (F 3)), .int (iZ (F 4)), .int (iZ (F 5)), .int (iZ (F 6)), .int (iZ (F 7)), .int (iZ (F 8)), .int (iZ (F 9)), .int (iZ (F 10)), .ref (af 11), .ref (af 12), .int (iZ (F 13)), .int (iZ (F 14)), .int (iZ (F 15)), .ref (af 16), .ref (af 17), .ref (af 18), .ref (af 19), .ref (af 20), .ref (af 21), .int (iZ (F 22)), .int (iZ (F 23)), .ref (af 24), .long tr, .int (iZ (F 26)), .int (iZ (F 27)), .int (iZ (F 28))])), (af 1, .inl (Y 0, 200, .inl (aI (A 1)))), (af 11, .inl (Y 0, 7, .inl (aI (A 11)))), (af 12, .inl (Y 0, 36, .inl (aI (A 12)))), (af 16, .inl (Y 0, 7, .inl (aI (A 16)))), (af 18, .inl (Y 0, 41, .inl (aI (A 18)))), (af 19, .inl (Y 0, 72, .inl (aI (A 19)))), (af 20, .inl (Y 1, 2, .inl (aI (A 20)))), (af 24, .inl (Y 0, 10, .inl (aI (A 24))))] := hD
    refine lv_aload_n hx hb dX7_note_68 rfl (lv_at hl 0 rfl) ?_
    refine lv_dup hx hb dX7_note_69 rfl ?_
    refine va_get (D := G) (ci := 7) (v := .int (iZ (F 22))) (C := RX7) (T := TX7) (N := 29) hx hb hts hFX7 hown hK.1 hP 2 rfl rfl 22 (by decide) kf119 (fun _ h9 => h9) rfl dX7_note_70 ?_
    refine z_iconst hx hb dX7_note_73 ?_
    refine z_iadd hx hb dX7_note_74 ?_
    refine z_top (show (F 22 + 1) = (min (F 22 + 1) 10) by omega) ?_
    refine va_put (D := G) (ci := 7) (v := .int (iZ (min (F 22 + 1) 10))) (ty := .int) (C := RX7) (T := TX7) (N := 29) hx hb hts hFX7 tyX7 tyX7_ok nmX7 hown hK.1 hP hD hS 2 rfl rfl 22 (by decide) kf119 (fun _ h9 => h9) rfl (by decide +kernel) rfl rfl (Nat.le_of_ble_eq_true rfl) dX7_note_75 (fun H locs hP hD hS => ?_)
    replace hP : va_P G vwCl [(af 17, .inl (Y 0, 36, .inl (aI (A 17)))), (af 21, .inl (Y 0, 360, .inl (aI (va_cpy (A 17) (A 21) (Int.toNat 0) (Int.toNat (36 * F 22)) 36)))), (g9, .inr (7, [.int (iZ (F 0)), .ref (af 1), .int (iZ (F 2)), .int (iZ (F 3)), .int (iZ (F 4)), .int (iZ (F 5)), .int (iZ (F 6)), .int (iZ (F 7)), .int (iZ (F 8)), .int (iZ (F 9)), .int (iZ (F 10)), .ref (af 11), .ref (af 12), .int (iZ (F 13)), .int (iZ (F 14)), .int (iZ (F 15)), .ref (af 16), .ref (af 17), .ref (af 18), .ref (af 19), .ref (af 20), .ref (af 21), .int (iZ (min (F 22 + 1) 10)), .int (iZ (F 23)), .ref (af 24), .long tr, .int (iZ (F 26)), .int (iZ (F 27)), .int (iZ (F 28))])), (af 1, .inl (Y 0, 200, .inl (aI (A 1)))), (af 11, .inl (Y 0, 7, .inl (aI (A 11)))), (af 12, .inl (Y 0, 36, .inl (aI (A 12)))), (af 16, .inl (Y 0, 7, .inl (aI (A 16)))), (af 18, .inl (Y 0, 41, .inl (aI (A 18)))), (af 19, .inl (Y 0, 72, .inl (aI (A 19)))), (af 20, .inl (Y 1, 2, .inl (aI (A 20)))), (af 24, .inl (Y 0, 10, .inl (aI (A 24))))] H := hP
    replace hD : va_D _ [(af 17, .inl (Y 0, 36, .inl (aI (A 17)))), (af 21, .inl (Y 0, 360, .inl (aI (va_cpy (A 17) (A 21) (Int.toNat 0) (Int.toNat (36 * F 22)) 36)))), (g9, .inr (7, [.int (iZ (F 0)), .ref (af 1), .int (iZ (F 2)), .int (iZ (F 3)), .int (iZ (F 4)), .int (iZ (F 5)), .int (iZ (F 6)), .int (iZ (F 7)), .int (iZ (F 8)), .int (iZ (F 9)), .int (iZ (F 10)), .ref (af 11), .ref (af 12), .int (iZ (F 13)), .int (iZ (F 14)), .int (iZ (F 15)), .ref (af 16), .ref (af 17), .ref (af 18), .ref (af 19), .ref (af 20), .ref (af 21), .int (iZ (min (F 22 + 1) 10)), .int (iZ (F 23)), .ref (af 24), .long tr, .int (iZ (F 26)), .int (iZ (F 27)), .int (iZ (F 28))])), (af 1, .inl (Y 0, 200, .inl (aI (A 1)))), (af 11, .inl (Y 0, 7, .inl (aI (A 11)))), (af 12, .inl (Y 0, 36, .inl (aI (A 12)))), (af 16, .inl (Y 0, 7, .inl (aI (A 16)))), (af 18, .inl (Y 0, 41, .inl (aI (A 18)))), (af 19, .inl (Y 0, 72, .inl (aI (A 19)))), (af 20, .inl (Y 1, 2, .inl (aI (A 20)))), (af 24, .inl (Y 0, 10, .inl (aI (A 24))))] := hD
    have e9 : ntA (A 21) (A 17) (F 22) = (va_cpy (A 17) (A 21) (Int.toNat 0) (Int.toNat (36 * F 22)) 36) := by unfold ntA bkS; rw [if_neg (by omega), if_neg (by omega)]; rfl
    have hP9 : va_P G vwCl (moW Y g9 af (va_up F 22 (min (F 22 + 1) 10)) (va_up A 21 (ntA (A 21) (A 17) (F 22))) (tr)) H := by rw [e9]; exact hP.sub [2, 3, 4, 5, 6, 0, 7, 8, 9, 1, 10] rfl
    exact W.vret hx hb hr (fun t9 ht9 _ => ⟨rfl, by rw [ht9]; exact hP9, hS.F ht9⟩) hS.2.2 dX7_note_78
  · skip
    refine z_iconst hx hb dX7_note_9 ?_
    refine lv_istore_n (lv' := [(1, .int (iZ 0)), (0, .ref g9)]) hx hb dX7_note_10 rfl hl (by decide) rfl (fun ls hl => ?_)
    obtain ⟨k, f, hI, hl1, hP1, hD1⟩ : ∃ (k : Nat) (f : Nat → Int), (f = shN (A 21) k ∧ k ≤ 324) ∧ lv_has ls 2 [(1, .int (iZ ((k : Nat) : Int))), (0, .ref g9)] ∧ va_P G vwCl [(g9, .inr (7, [.int (iZ (F 0)), .ref (af 1), .int (iZ (F 2)), .int (iZ (F 3)), .int (iZ (F 4)), .int (iZ (F 5)), .int (iZ (F 6)), .int (iZ (F 7)), .int (iZ (F 8)), .int (iZ (F 9)), .int (iZ (F 10)), .ref (af 11), .ref (af 12), .int (iZ (F 13)), .int (iZ (F 14)), .int (iZ (F 15)), .ref (af 16), .ref (af 17), .ref (af 18), .ref (af 19), .ref (af 20), .ref (af 21), .int (iZ (F 22)), .int (iZ (F 23)), .ref (af 24), .long tr, .int (iZ (F 26)), .int (iZ (F 27)), .int (iZ (F 28))])), (af 1, .inl (Y 0, 200, .inl (aI (A 1)))), (af 11, .inl (Y 0, 7, .inl (aI (A 11)))), (af 12, .inl (Y 0, 36, .inl (aI (A 12)))), (af 16, .inl (Y 0, 7, .inl (aI (A 16)))), (af 17, .inl (Y 0, 36, .inl (aI (A 17)))), (af 18, .inl (Y 0, 41, .inl (aI (A 18)))), (af 19, .inl (Y 0, 72, .inl (aI (A 19)))), (af 20, .inl (Y 1, 2, .inl (aI (A 20)))), (af 21, .inl (Y 0, 360, .inl (aI f))), (af 24, .inl (Y 0, 10, .inl (aI (A 24))))] H ∧ va_D (fun q => q ∈ List.map Prod.fst (moW Y g9 af F A tr)) [(g9, .inr (7, [.int (iZ (F 0)), .ref (af 1), .int (iZ (F 2)), .int (iZ (F 3)), .int (iZ (F 4)), .int (iZ (F 5)), .int (iZ (F 6)), .int (iZ (F 7)), .int (iZ (F 8)), .int (iZ (F 9)), .int (iZ (F 10)), .ref (af 11), .ref (af 12), .int (iZ (F 13)), .int (iZ (F 14)), .int (iZ (F 15)), .ref (af 16), .ref (af 17), .ref (af 18), .ref (af 19), .ref (af 20), .ref (af 21), .int (iZ (F 22)), .int (iZ (F 23)), .ref (af 24), .long tr, .int (iZ (F 26)), .int (iZ (F 27)), .int (iZ (F 28))])), (af 1, .inl (Y 0, 200, .inl (aI (A 1)))), (af 11, .inl (Y 0, 7, .inl (aI (A 11)))), (af 12, .inl (Y 0, 36, .inl (aI (A 12)))), (af 16, .inl (Y 0, 7, .inl (aI (A 16)))), (af 17, .inl (Y 0, 36, .inl (aI (A 17)))), (af 18, .inl (Y 0, 41, .inl (aI (A 18)))), (af 19, .inl (Y 0, 72, .inl (aI (A 19)))), (af 20, .inl (Y 1, 2, .inl (aI (A 20)))), (af 21, .inl (Y 0, 360, .inl (aI f))), (af 24, .inl (Y 0, 10, .inl (aI (A 24))))] := ⟨0, A 21, by exact ⟨(shN_0 _).symm, by omega⟩, lv_sub hl [0, 1] rfl, hP, hD⟩
    clear hl hP hD
    have hl := hl1
    clear hl1
    have hP := hP1
    have hD := hD1
    clear hP1 hD1
    obtain ⟨n_, hn_⟩ : ∃ n_ : Nat, 324 - k < n_ := ⟨_, Nat.lt_succ_self _⟩
    induction n_ generalizing k f ls H locs with
    | zero => exact absurd hn_ (Nat.not_lt_zero _)
    | succ n_ ih2 =>
      refine lv_iload_n hx hb dX7_note_11 rfl (lv_at hl 0 rfl) ?_
      refine z_sipush hx hb dX7_note_12 (by decide) ?_
      refine z_icmp_ge (tgt := 39) hx hb dX7_note_15 (by decide) (by omega) (fun c_3 => ?_) (fun c_3 => ?_)
      · skip
        refine lv_aload_n hx hb dX7_note_39 rfl (lv_at hl 1 rfl) ?_
        refine lv_dup hx hb dX7_note_40 rfl ?_
        refine va_get (D := G) (ci := 7) (v := .int (iZ (F 22))) (C := RX7) (T := TX7) (N := 29) hx hb hts hFX7 hown hK.1 hP 0 rfl rfl 22 (by decide) kf119 (fun _ h9 => h9) rfl dX7_note_41 ?_
        refine z_iconst hx hb dX7_note_44 ?_
        refine z_isub hx hb dX7_note_45 ?_
        refine va_put (D := G) (ci := 7) (v := .int (iZ (F 22 - 1))) (ty := .int) (C := RX7) (T := TX7) (N := 29) hx hb hts hFX7 tyX7 tyX7_ok nmX7 hown hK.1 hP hD hS 0 rfl rfl 22 (by decide) kf119 (fun _ h9 => h9) rfl (by decide +kernel) rfl rfl (Nat.le_of_ble_eq_true rfl) dX7_note_46 (fun H locs hP hD hS => ?_)
        replace hP : va_P G vwCl [(g9, .inr (7, [.int (iZ (F 0)), .ref (af 1), .int (iZ (F 2)), .int (iZ (F 3)), .int (iZ (F 4)), .int (iZ (F 5)), .int (iZ (F 6)), .int (iZ (F 7)), .int (iZ (F 8)), .int (iZ (F 9)), .int (iZ (F 10)), .ref (af 11), .ref (af 12), .int (iZ (F 13)), .int (iZ (F 14)), .int (iZ (F 15)), .ref (af 16), .ref (af 17), .ref (af 18), .ref (af 19), .ref (af 20), .ref (af 21), .int (iZ (F 22 - 1)), .int (iZ (F 23)), .ref (af 24), .long tr, .int (iZ (F 26)), .int (iZ (F 27)), .int (iZ (F 28))])), (af 1, .inl (Y 0, 200, .inl (aI (A 1)))), (af 11, .inl (Y 0, 7, .inl (aI (A 11)))), (af 12, .inl (Y 0, 36, .inl (aI (A 12)))), (af 16, .inl (Y 0, 7, .inl (aI (A 16)))), (af 17, .inl (Y 0, 36, .inl (aI (A 17)))), (af 18, .inl (Y 0, 41, .inl (aI (A 18)))), (af 19, .inl (Y 0, 72, .inl (aI (A 19)))), (af 20, .inl (Y 1, 2, .inl (aI (A 20)))), (af 21, .inl (Y 0, 360, .inl (aI f))), (af 24, .inl (Y 0, 10, .inl (aI (A 24))))] H := hP
        replace hD : va_D _ [(g9, .inr (7, [.int (iZ (F 0)), .ref (af 1), .int (iZ (F 2)), .int (iZ (F 3)), .int (iZ (F 4)), .int (iZ (F 5)), .int (iZ (F 6)), .int (iZ (F 7)), .int (iZ (F 8)), .int (iZ (F 9)), .int (iZ (F 10)), .ref (af 11), .ref (af 12), .int (iZ (F 13)), .int (iZ (F 14)), .int (iZ (F 15)), .ref (af 16), .ref (af 17), .ref (af 18), .ref (af 19), .ref (af 20), .ref (af 21), .int (iZ (F 22 - 1)), .int (iZ (F 23)), .ref (af 24), .long tr, .int (iZ (F 26)), .int (iZ (F 27)), .int (iZ (F 28))])), (af 1, .inl (Y 0, 200, .inl (aI (A 1)))), (af 11, .inl (Y 0, 7, .inl (aI (A 11)))), (af 12, .inl (Y 0, 36, .inl (aI (A 12)))), (af 16, .inl (Y 0, 7, .inl (aI (A 16)))), (af 17, .inl (Y 0, 36, .inl (aI (A 17)))), (af 18, .inl (Y 0, 41, .inl (aI (A 18)))), (af 19, .inl (Y 0, 72, .inl (aI (A 19)))), (af 20, .inl (Y 1, 2, .inl (aI (A 20)))), (af 21, .inl (Y 0, 360, .inl (aI f))), (af 24, .inl (Y 0, 10, .inl (aI (A 24))))] := hD
        refine lv_aload_n hx hb dX7_note_49 rfl (lv_at hl 1 rfl) ?_
        refine va_get (D := G) (ci := 7) (v := .ref (af 17)) (C := RX7) (T := TX7) (N := 29) hx hb hts hFX7 hown hK.1 hP 0 rfl rfl 17 (by decide) kf29 (fun _ h9 => h9) rfl dX7_note_50 ?_
        refine z_iconst hx hb dX7_note_53 ?_
        refine lv_aload_n hx hb dX7_note_54 rfl (lv_at hl 1 rfl) ?_
        refine va_get (D := G) (ci := 7) (v := .ref (af 21)) (C := RX7) (T := TX7) (N := 29) hx hb hts hFX7 hown hK.1 hP 0 rfl rfl 21 (by decide) kf42 (fun _ h9 => h9) rfl dX7_note_55 ?_
        refine z_bipush hx hb dX7_note_58 (by decide) ?_
        refine lv_aload_n hx hb dX7_note_60 rfl (lv_at hl 1 rfl) ?_
        refine va_get (D := G) (ci := 7) (v := .int (iZ (F 22 - 1))) (C := RX7) (T := TX7) (N := 29) hx hb hts hFX7 hown hK.1 hP 0 rfl rfl 22 (by decide) kf119 (fun _ h9 => h9) rfl dX7_note_61 ?_
        refine z_imul hx hb dX7_note_64 ?_
        have hP := hP.sub (ws' := [(af 17, .inl (Y 0, 36, .inl (aI (A 17)))), (af 21, .inl (Y 0, 360, .inl (aI f)))] ++ [(g9, .inr (7, [.int (iZ (F 0)), .ref (af 1), .int (iZ (F 2)), .int (iZ (F 3)), .int (iZ (F 4)), .int (iZ (F 5)), .int (iZ (F 6)), .int (iZ (F 7)), .int (iZ (F 8)), .int (iZ (F 9)), .int (iZ (F 10)), .ref (af 11), .ref (af 12), .int (iZ (F 13)), .int (iZ (F 14)), .int (iZ (F 15)), .ref (af 16), .ref (af 17), .ref (af 18), .ref (af 19), .ref (af 20), .ref (af 21), .int (iZ (F 22 - 1)), .int (iZ (F 23)), .ref (af 24), .long tr, .int (iZ (F 26)), .int (iZ (F 27)), .int (iZ (F 28))])), (af 1, .inl (Y 0, 200, .inl (aI (A 1)))), (af 11, .inl (Y 0, 7, .inl (aI (A 11)))), (af 12, .inl (Y 0, 36, .inl (aI (A 12)))), (af 16, .inl (Y 0, 7, .inl (aI (A 16)))), (af 18, .inl (Y 0, 41, .inl (aI (A 18)))), (af 19, .inl (Y 0, 72, .inl (aI (A 19)))), (af 20, .inl (Y 1, 2, .inl (aI (A 20)))), (af 24, .inl (Y 0, 10, .inl (aI (A 24))))]) [5, 9, 0, 1, 2, 3, 4, 6, 7, 8, 10] rfl
        have hD := hD.sub (ws' := [(af 17, .inl (Y 0, 36, .inl (aI (A 17)))), (af 21, .inl (Y 0, 360, .inl (aI f)))] ++ [(g9, .inr (7, [.int (iZ (F 0)), .ref (af 1), .int (iZ (F 2)), .int (iZ (F 3)), .int (iZ (F 4)), .int (iZ (F 5)), .int (iZ (F 6)), .int (iZ (F 7)), .int (iZ (F 8)), .int (iZ (F 9)), .int (iZ (F 10)), .ref (af 11), .ref (af 12), .int (iZ (F 13)), .int (iZ (F 14)), .int (iZ (F 15)), .ref (af 16), .ref (af 17), .ref (af 18), .ref (af 19), .ref (af 20), .ref (af 21), .int (iZ (F 22 - 1)), .int (iZ (F 23)), .ref (af 24), .long tr, .int (iZ (F 26)), .int (iZ (F 27)), .int (iZ (F 28))])), (af 1, .inl (Y 0, 200, .inl (aI (A 1)))), (af 11, .inl (Y 0, 7, .inl (aI (A 11)))), (af 12, .inl (Y 0, 36, .inl (aI (A 12)))), (af 16, .inl (Y 0, 7, .inl (aI (A 16)))), (af 18, .inl (Y 0, 41, .inl (aI (A 18)))), (af 19, .inl (Y 0, 72, .inl (aI (A 19)))), (af 20, .inl (Y 1, 2, .inl (aI (A 20)))), (af 24, .inl (Y 0, 10, .inl (aI (A 24))))]) [5, 9, 0, 1, 2, 3, 4, 6, 7, 8, 10] (by decide) rfl
        refine mu_S (As := [.ref (af 17), .int (iZ 0), .ref (af 21), .int (iZ (36 * (F 22 - 1)))]) (rest := []) (wc := [(af 17, .inl (Y 0, 36, .inl (aI (A 17)))), (af 21, .inl (Y 0, 360, .inl (aI f)))]) (wc' := cpW Y (af 17) (af 21) 36 360 (A 17) (va_cpy (A 17) f (Int.toNat 0) (Int.toNat (36 * (F 22 - 1))) 36)) (F := [(g9, .inr (7, [.int (iZ (F 0)), .ref (af 1), .int (iZ (F 2)), .int (iZ (F 3)), .int (iZ (F 4)), .int (iZ (F 5)), .int (iZ (F 6)), .int (iZ (F 7)), .int (iZ (F 8)), .int (iZ (F 9)), .int (iZ (F 10)), .ref (af 11), .ref (af 12), .int (iZ (F 13)), .int (iZ (F 14)), .int (iZ (F 15)), .ref (af 16), .ref (af 17), .ref (af 18), .ref (af 19), .ref (af 20), .ref (af 21), .int (iZ (F 22 - 1)), .int (iZ (F 23)), .ref (af 24), .long tr, .int (iZ (F 26)), .int (iZ (F 27)), .int (iZ (F 28))])), (af 1, .inl (Y 0, 200, .inl (aI (A 1)))), (af 11, .inl (Y 0, 7, .inl (aI (A 11)))), (af 12, .inl (Y 0, 36, .inl (aI (A 12)))), (af 16, .inl (Y 0, 7, .inl (aI (A 16)))), (af 18, .inl (Y 0, 41, .inl (aI (A 18)))), (af 19, .inl (Y 0, 72, .inl (aI (A 19)))), (af 20, .inl (Y 1, 2, .inl (aI (A 20)))), (af 24, .inl (Y 0, 10, .inl (aI (A 24))))]) ⟨hx, hb, hml, hown, hts⟩ (c_X7_copy l G Y (af 17) (af 21) 36 360 (A 17) f 0 (36 * (F 22 - 1)) (by omega)) (cwS 4 hts gX7_note_X7_copy rfl rfl rfl (by decide +kernel) ⟨Nat.le_of_ble_eq_true rfl, Nat.le_of_ble_eq_true rfl⟩) hK hP hD hS (Eq.refl [af 17, af 21]) rfl hl.1 rfl (Nat.le_of_ble_eq_true rfl) dX7_note_65 ⟨Nat.zero_le _, Nat.zero_le _⟩ (fun H locs hP hD hS => ?_)
        show W _ _ _ _ _ _ _ _ _ _ _ _ _ _ _ (F0 _ _ _ [])
        replace hP : va_P G vwCl [(af 17, .inl (Y 0, 36, .inl (aI (A 17)))), (af 21, .inl (Y 0, 360, .inl (aI (va_cpy (A 17) f (Int.toNat 0) (Int.toNat (36 * (F 22 - 1))) 36)))), (g9, .inr (7, [.int (iZ (F 0)), .ref (af 1), .int (iZ (F 2)), .int (iZ (F 3)), .int (iZ (F 4)), .int (iZ (F 5)), .int (iZ (F 6)), .int (iZ (F 7)), .int (iZ (F 8)), .int (iZ (F 9)), .int (iZ (F 10)), .ref (af 11), .ref (af 12), .int (iZ (F 13)), .int (iZ (F 14)), .int (iZ (F 15)), .ref (af 16), .ref (af 17), .ref (af 18), .ref (af 19), .ref (af 20), .ref (af 21), .int (iZ (F 22 - 1)), .int (iZ (F 23)), .ref (af 24), .long tr, .int (iZ (F 26)), .int (iZ (F 27)), .int (iZ (F 28))])), (af 1, .inl (Y 0, 200, .inl (aI (A 1)))), (af 11, .inl (Y 0, 7, .inl (aI (A 11)))), (af 12, .inl (Y 0, 36, .inl (aI (A 12)))), (af 16, .inl (Y 0, 7, .inl (aI (A 16)))), (af 18, .inl (Y 0, 41, .inl (aI (A 18)))), (af 19, .inl (Y 0, 72, .inl (aI (A 19)))), (af 20, .inl (Y 1, 2, .inl (aI (A 20)))), (af 24, .inl (Y 0, 10, .inl (aI (A 24))))] H := hP
        replace hD : va_D _ [(af 17, .inl (Y 0, 36, .inl (aI (A 17)))), (af 21, .inl (Y 0, 360, .inl (aI (va_cpy (A 17) f (Int.toNat 0) (Int.toNat (36 * (F 22 - 1))) 36)))), (g9, .inr (7, [.int (iZ (F 0)), .ref (af 1), .int (iZ (F 2)), .int (iZ (F 3)), .int (iZ (F 4)), .int (iZ (F 5)), .int (iZ (F 6)), .int (iZ (F 7)), .int (iZ (F 8)), .int (iZ (F 9)), .int (iZ (F 10)), .ref (af 11), .ref (af 12), .int (iZ (F 13)), .int (iZ (F 14)), .int (iZ (F 15)), .ref (af 16), .ref (af 17), .ref (af 18), .ref (af 19), .ref (af 20), .ref (af 21), .int (iZ (F 22 - 1)), .int (iZ (F 23)), .ref (af 24), .long tr, .int (iZ (F 26)), .int (iZ (F 27)), .int (iZ (F 28))])), (af 1, .inl (Y 0, 200, .inl (aI (A 1)))), (af 11, .inl (Y 0, 7, .inl (aI (A 11)))), (af 12, .inl (Y 0, 36, .inl (aI (A 12)))), (af 16, .inl (Y 0, 7, .inl (aI (A 16)))), (af 18, .inl (Y 0, 41, .inl (aI (A 18)))), (af 19, .inl (Y 0, 72, .inl (aI (A 19)))), (af 20, .inl (Y 1, 2, .inl (aI (A 20)))), (af 24, .inl (Y 0, 10, .inl (aI (A 24))))] := hD
        refine lv_aload_n hx hb dX7_note_68 rfl (lv_at hl 1 rfl) ?_
        refine lv_dup hx hb dX7_note_69 rfl ?_
        refine va_get (D := G) (ci := 7) (v := .int (iZ (F 22 - 1))) (C := RX7) (T := TX7) (N := 29) hx hb hts hFX7 hown hK.1 hP 2 rfl rfl 22 (by decide) kf119 (fun _ h9 => h9) rfl dX7_note_70 ?_
        refine z_iconst hx hb dX7_note_73 ?_
        refine z_iadd hx hb dX7_note_74 ?_
        refine z_top (show ((F 22 - 1) + 1) = (min (F 22 + 1) 10) by omega) ?_
        refine va_put (D := G) (ci := 7) (v := .int (iZ (min (F 22 + 1) 10))) (ty := .int) (C := RX7) (T := TX7) (N := 29) hx hb hts hFX7 tyX7 tyX7_ok nmX7 hown hK.1 hP hD hS 2 rfl rfl 22 (by decide) kf119 (fun _ h9 => h9) rfl (by decide +kernel) rfl rfl (Nat.le_of_ble_eq_true rfl) dX7_note_75 (fun H locs hP hD hS => ?_)
        replace hP : va_P G vwCl [(af 17, .inl (Y 0, 36, .inl (aI (A 17)))), (af 21, .inl (Y 0, 360, .inl (aI (va_cpy (A 17) f (Int.toNat 0) (Int.toNat (36 * (F 22 - 1))) 36)))), (g9, .inr (7, [.int (iZ (F 0)), .ref (af 1), .int (iZ (F 2)), .int (iZ (F 3)), .int (iZ (F 4)), .int (iZ (F 5)), .int (iZ (F 6)), .int (iZ (F 7)), .int (iZ (F 8)), .int (iZ (F 9)), .int (iZ (F 10)), .ref (af 11), .ref (af 12), .int (iZ (F 13)), .int (iZ (F 14)), .int (iZ (F 15)), .ref (af 16), .ref (af 17), .ref (af 18), .ref (af 19), .ref (af 20), .ref (af 21), .int (iZ (min (F 22 + 1) 10)), .int (iZ (F 23)), .ref (af 24), .long tr, .int (iZ (F 26)), .int (iZ (F 27)), .int (iZ (F 28))])), (af 1, .inl (Y 0, 200, .inl (aI (A 1)))), (af 11, .inl (Y 0, 7, .inl (aI (A 11)))), (af 12, .inl (Y 0, 36, .inl (aI (A 12)))), (af 16, .inl (Y 0, 7, .inl (aI (A 16)))), (af 18, .inl (Y 0, 41, .inl (aI (A 18)))), (af 19, .inl (Y 0, 72, .inl (aI (A 19)))), (af 20, .inl (Y 1, 2, .inl (aI (A 20)))), (af 24, .inl (Y 0, 10, .inl (aI (A 24))))] H := hP
        replace hD : va_D _ [(af 17, .inl (Y 0, 36, .inl (aI (A 17)))), (af 21, .inl (Y 0, 360, .inl (aI (va_cpy (A 17) f (Int.toNat 0) (Int.toNat (36 * (F 22 - 1))) 36)))), (g9, .inr (7, [.int (iZ (F 0)), .ref (af 1), .int (iZ (F 2)), .int (iZ (F 3)), .int (iZ (F 4)), .int (iZ (F 5)), .int (iZ (F 6)), .int (iZ (F 7)), .int (iZ (F 8)), .int (iZ (F 9)), .int (iZ (F 10)), .ref (af 11), .ref (af 12), .int (iZ (F 13)), .int (iZ (F 14)), .int (iZ (F 15)), .ref (af 16), .ref (af 17), .ref (af 18), .ref (af 19), .ref (af 20), .ref (af 21), .int (iZ (min (F 22 + 1) 10)), .int (iZ (F 23)), .ref (af 24), .long tr, .int (iZ (F 26)), .int (iZ (F 27)), .int (iZ (F 28))])), (af 1, .inl (Y 0, 200, .inl (aI (A 1)))), (af 11, .inl (Y 0, 7, .inl (aI (A 11)))), (af 12, .inl (Y 0, 36, .inl (aI (A 12)))), (af 16, .inl (Y 0, 7, .inl (aI (A 16)))), (af 18, .inl (Y 0, 41, .inl (aI (A 18)))), (af 19, .inl (Y 0, 72, .inl (aI (A 19)))), (af 20, .inl (Y 1, 2, .inl (aI (A 20)))), (af 24, .inl (Y 0, 10, .inl (aI (A 24))))] := hD
        have e9 : ntA (A 21) (A 17) (F 22) = (va_cpy (A 17) f (Int.toNat 0) (Int.toNat (36 * (F 22 - 1))) 36) := by unfold ntA bkS; rw [if_pos (by omega), if_pos (by omega), hI.1, show k = 324 by omega, show (36 * (F 22 - 1)).toNat = ((36 : Int) * 9).toNat by omega]; rfl
        have hP9 : va_P G vwCl (moW Y g9 af (va_up F 22 (min (F 22 + 1) 10)) (va_up A 21 (ntA (A 21) (A 17) (F 22))) (tr)) H := by rw [e9]; exact hP.sub [2, 3, 4, 5, 6, 0, 7, 8, 9, 1, 10] rfl
        exact W.vret hx hb hr (fun t9 ht9 _ => ⟨rfl, by rw [ht9]; exact hP9, hS.F ht9⟩) hS.2.2 dX7_note_78
      · skip
        refine lv_aload_n hx hb dX7_note_18 rfl (lv_at hl 1 rfl) ?_
        refine va_get (D := G) (ci := 7) (v := .ref (af 21)) (C := RX7) (T := TX7) (N := 29) hx hb hts hFX7 hown hK.1 hP 0 rfl rfl 21 (by decide) kf42 (fun _ h9 => h9) rfl dX7_note_19 ?_
        refine lv_iload_n hx hb dX7_note_22 rfl (lv_at hl 0 rfl) ?_
        refine lv_aload_n hx hb dX7_note_23 rfl (lv_at hl 1 rfl) ?_
        refine va_get (D := G) (ci := 7) (v := .ref (af 21)) (C := RX7) (T := TX7) (N := 29) hx hb hts hFX7 hown hK.1 hP 0 rfl rfl 21 (by decide) kf42 (fun _ h9 => h9) rfl dX7_note_24 ?_
        refine lv_iload_n hx hb dX7_note_27 rfl (lv_at hl 0 rfl) ?_
        refine z_bipush hx hb dX7_note_28 (by decide) ?_
        refine z_iadd hx hb dX7_note_30 ?_
        refine z_iald hx hb hK.1 hP 9 0 rfl rfl (k + 36) (by omega) (by decide) dX7_note_31 ?_
        refine z_iast hx hb hK.1 hP hD hS 9 0 rfl rfl k (by omega) (by decide) dX7_note_32 (fun H locs hP hD hS => ?_)
        replace hP : va_P G vwCl [(g9, .inr (7, [.int (iZ (F 0)), .ref (af 1), .int (iZ (F 2)), .int (iZ (F 3)), .int (iZ (F 4)), .int (iZ (F 5)), .int (iZ (F 6)), .int (iZ (F 7)), .int (iZ (F 8)), .int (iZ (F 9)), .int (iZ (F 10)), .ref (af 11), .ref (af 12), .int (iZ (F 13)), .int (iZ (F 14)), .int (iZ (F 15)), .ref (af 16), .ref (af 17), .ref (af 18), .ref (af 19), .ref (af 20), .ref (af 21), .int (iZ (F 22)), .int (iZ (F 23)), .ref (af 24), .long tr, .int (iZ (F 26)), .int (iZ (F 27)), .int (iZ (F 28))])), (af 1, .inl (Y 0, 200, .inl (aI (A 1)))), (af 11, .inl (Y 0, 7, .inl (aI (A 11)))), (af 12, .inl (Y 0, 36, .inl (aI (A 12)))), (af 16, .inl (Y 0, 7, .inl (aI (A 16)))), (af 17, .inl (Y 0, 36, .inl (aI (A 17)))), (af 18, .inl (Y 0, 41, .inl (aI (A 18)))), (af 19, .inl (Y 0, 72, .inl (aI (A 19)))), (af 20, .inl (Y 1, 2, .inl (aI (A 20)))), (af 21, .inl (Y 0, 360, .inl (aI (va_up f k (f (k + 36)))))), (af 24, .inl (Y 0, 10, .inl (aI (A 24))))] H := hP
        replace hD : va_D _ [(g9, .inr (7, [.int (iZ (F 0)), .ref (af 1), .int (iZ (F 2)), .int (iZ (F 3)), .int (iZ (F 4)), .int (iZ (F 5)), .int (iZ (F 6)), .int (iZ (F 7)), .int (iZ (F 8)), .int (iZ (F 9)), .int (iZ (F 10)), .ref (af 11), .ref (af 12), .int (iZ (F 13)), .int (iZ (F 14)), .int (iZ (F 15)), .ref (af 16), .ref (af 17), .ref (af 18), .ref (af 19), .ref (af 20), .ref (af 21), .int (iZ (F 22)), .int (iZ (F 23)), .ref (af 24), .long tr, .int (iZ (F 26)), .int (iZ (F 27)), .int (iZ (F 28))])), (af 1, .inl (Y 0, 200, .inl (aI (A 1)))), (af 11, .inl (Y 0, 7, .inl (aI (A 11)))), (af 12, .inl (Y 0, 36, .inl (aI (A 12)))), (af 16, .inl (Y 0, 7, .inl (aI (A 16)))), (af 17, .inl (Y 0, 36, .inl (aI (A 17)))), (af 18, .inl (Y 0, 41, .inl (aI (A 18)))), (af 19, .inl (Y 0, 72, .inl (aI (A 19)))), (af 20, .inl (Y 1, 2, .inl (aI (A 20)))), (af 21, .inl (Y 0, 360, .inl (aI (va_up f k (f (k + 36)))))), (af 24, .inl (Y 0, 10, .inl (aI (A 24))))] := hD
        refine lv_iinc (v := iZ ((k + 1 : Nat) : Int)) (lv' := [(1, .int (iZ ((k + 1 : Nat) : Int))), (0, .ref g9)]) hx hb dX7_note_33 hl (k := 0) rfl (iZ_inc _) (by decide) rfl (fun ls hl => ?_)
        refine lv_goto (tgt := 11) hx hb dX7_note_36 (by decide) ?_
        exact ih2 (ls := ls) (k := k + 1) (f := va_up f k (f (k + 36))) (H := H) (locs := locs) (hS := hS) (hI := by exact ⟨by rw [hI.1]; exact shN_up _ _, by omega⟩) (hl := lv_sub hl [0, 1] rfl) (hP := hP) (hD := hD) (hn_ := by omega)

set_option maxHeartbeats 4000000 in
set_option maxRecDepth 100000 in
theorem c_X7_type (l : Launch) (G : va_G) (Y : Nat → ClassId) (g9 : Nat) (af : Nat → Nat) (F : Nat → Int) (A : Kom) (tr : Int64) (a : Int) (r : zR a ∧ 0 ≤ F 0 ∧ F 0 ≤ 200) : Met l yX7_type wsX7_type ({ frames := 1, cells := 0, slots := 0, locals := 22 }) (mP G Y [.ref g9, .int (iZ a)] (moW Y g9 af F A tr)) (mQ G (moW Y g9 af F A tr) (some (.int (iZ (rType (F 0).toNat a)))) (moW Y g9 af (bif decide ((0 ≤ a ∧ a ≤ 255) ∧ F 0 ≠ 200) then va_up F 0 (F 0 + 1) else F) (bif decide ((0 ≤ a ∧ a ≤ 255) ∧ F 0 ≠ 200) then va_up A 1 (va_up (A 1) (F 0).toNat a) else A) (tr))) 0 0 (fun q => q ∈ List.map Prod.fst (moW Y g9 af F A tr)) := by
  refine Met.ofW (cc := cX7_type) (maxL := 2) (ret := (some .int)) (by decide) rfl ?_
  intro p e s m args below meth c s₁ B hml hv
  obtain ⟨rfl, hK, hP, hD0⟩ := hv
  have hx := B.exec
  have hb := B.bytes
  have hr := B.returns
  have hts := atoms_spec (ws := wsX7_type) B.pre
  have hown : s.vm.findClass RX7 = some m.cls := findClass_of_methodNamed B.named
  have hlocks := B.notSynchronized
  have hFX7 : ∀ w ∈ wsX70, w ∈ wsX7_type := by decide +kernel
  have kf58 := (hts (.fieldLink RX7 58 "ShadeVotesModel" "letters" "I") (by decide +kernel))
  have kf7 := (hts (.fieldLink RX7 7 "ShadeVotesModel" "text" "[I") (by decide +kernel))
  have hD := va_D_self hD0
  have hS : va_S (fun q => q ∈ List.map Prod.fst (moW Y g9 af F A tr)) s.heap s.heap [] := va_S.rf
  obtain ⟨H, hHe⟩ : ∃ H, H = s.heap := ⟨_, rfl⟩
  rw [← hHe] at hP
  replace hS : va_S (fun q => q ∈ List.map Prod.fst (moW Y g9 af F A tr)) s.heap H [] := by rw [hHe]; exact hS
  have hl := lv_entry ([.ref g9, .int (iZ a)]) (n := 2) (Nat.le_of_ble_eq_true rfl)
  rw [lg_entry_eq]
  generalize (lg_sl ([.ref g9, .int (iZ a)]) ++ List.replicate (2 - (lg_sl ([.ref g9, .int (iZ a)])).length) Slot.unset).toArray = ls at hl ⊢
  replace hl : lv_has ls 2 [(0, .ref g9), (1, .int (iZ a))] := hl
  obtain ⟨locs, hLe⟩ : ∃ locs : List Loc, locs = [] := ⟨_, rfl⟩
  rw [← hLe] at hS ⊢
  have hW0 : ∀ {Q : State → Prop} {g : JFrame}, W p l e ({ frames := 1, cells := 0, slots := 0, locals := 22 }) s m [.ref g9, .int (iZ a)].toArray below meth c H locs 0 0 Q g → W p l e ({ frames := 1, cells := 0, slots := 0, locals := 22 }) s m [.ref g9, .int (iZ a)].toArray below meth c s.heap locs 0 0 Q g := fun h => by rw [← hHe]; exact h
  refine hW0 ?_
  clear hW0 hHe hLe
  refine lv_iload_n hx hb dX7_type_0 rfl (lv_at hl 1 rfl) ?_
  refine z_iconst hx hb dX7_type_1 ?_
  refine z_sipush hx hb dX7_type_2 (by decide) ?_
  refine ro_S (As := [.int (iZ a), .int (iZ 0), .int (iZ 255)]) (rest := []) ⟨hx, hb, hml, hown, hts⟩ (c_X7_in l G Y a 0 255 (by omega)) (cwS 3 hts gX7_type_X7_in rfl rfl rfl (by decide +kernel) ⟨Nat.le_of_ble_eq_true rfl, Nat.le_of_ble_eq_true rfl⟩) hK (hP.sub (ws' := []) [] rfl) rfl hl.1 rfl (Nat.le_of_ble_eq_true rfl) dX7_type_5 ⟨Nat.zero_le _, Nat.zero_le _⟩ ?_
  refine z_ifb_ne (tgt := 13) hx hb dX7_type_8 (by decide) (fun c_1 => ?_) (fun c_1 => ?_)
  · skip
    have c_1 := of_decide_eq_true c_1
    refine lv_aload_n hx hb dX7_type_13 rfl (lv_at hl 0 rfl) ?_
    refine va_get (D := G) (ci := 7) (v := .int (iZ (F 0))) (C := RX7) (T := TX7) (N := 29) hx hb hts hFX7 hown hK.1 hP 0 rfl rfl 0 (by decide) kf58 (fun _ h9 => h9) rfl dX7_type_14 ?_
    refine z_sipush hx hb dX7_type_17 (by decide) ?_
    refine z_icmp_ne (tgt := 26) hx hb dX7_type_20 (by decide) (by omega) (fun c_2 => ?_) (fun c_2 => ?_)
    · skip
      refine lv_aload_n hx hb dX7_type_26 rfl (lv_at hl 0 rfl) ?_
      refine va_get (D := G) (ci := 7) (v := .ref (af 1)) (C := RX7) (T := TX7) (N := 29) hx hb hts hFX7 hown hK.1 hP 0 rfl rfl 1 (by decide) kf7 (fun _ h9 => h9) rfl dX7_type_27 ?_
      refine lv_aload_n hx hb dX7_type_30 rfl (lv_at hl 0 rfl) ?_
      refine va_get (D := G) (ci := 7) (v := .int (iZ (F 0))) (C := RX7) (T := TX7) (N := 29) hx hb hts hFX7 hown hK.1 hP 0 rfl rfl 0 (by decide) kf58 (fun _ h9 => h9) rfl dX7_type_31 ?_
      refine lv_iload_n hx hb dX7_type_34 rfl (lv_at hl 1 rfl) ?_
      refine z_iast hx hb hK.1 hP hD hS 1 0 rfl rfl ((F 0).toNat) (by omega) (by decide) dX7_type_35 (fun H locs hP hD hS => ?_)
      replace hP : va_P G vwCl [(g9, .inr (7, [.int (iZ (F 0)), .ref (af 1), .int (iZ (F 2)), .int (iZ (F 3)), .int (iZ (F 4)), .int (iZ (F 5)), .int (iZ (F 6)), .int (iZ (F 7)), .int (iZ (F 8)), .int (iZ (F 9)), .int (iZ (F 10)), .ref (af 11), .ref (af 12), .int (iZ (F 13)), .int (iZ (F 14)), .int (iZ (F 15)), .ref (af 16), .ref (af 17), .ref (af 18), .ref (af 19), .ref (af 20), .ref (af 21), .int (iZ (F 22)), .int (iZ (F 23)), .ref (af 24), .long tr, .int (iZ (F 26)), .int (iZ (F 27)), .int (iZ (F 28))])), (af 1, .inl (Y 0, 200, .inl (aI (va_up (A 1) ((F 0).toNat) a)))), (af 11, .inl (Y 0, 7, .inl (aI (A 11)))), (af 12, .inl (Y 0, 36, .inl (aI (A 12)))), (af 16, .inl (Y 0, 7, .inl (aI (A 16)))), (af 17, .inl (Y 0, 36, .inl (aI (A 17)))), (af 18, .inl (Y 0, 41, .inl (aI (A 18)))), (af 19, .inl (Y 0, 72, .inl (aI (A 19)))), (af 20, .inl (Y 1, 2, .inl (aI (A 20)))), (af 21, .inl (Y 0, 360, .inl (aI (A 21)))), (af 24, .inl (Y 0, 10, .inl (aI (A 24))))] H := hP
      replace hD : va_D _ [(g9, .inr (7, [.int (iZ (F 0)), .ref (af 1), .int (iZ (F 2)), .int (iZ (F 3)), .int (iZ (F 4)), .int (iZ (F 5)), .int (iZ (F 6)), .int (iZ (F 7)), .int (iZ (F 8)), .int (iZ (F 9)), .int (iZ (F 10)), .ref (af 11), .ref (af 12), .int (iZ (F 13)), .int (iZ (F 14)), .int (iZ (F 15)), .ref (af 16), .ref (af 17), .ref (af 18), .ref (af 19), .ref (af 20), .ref (af 21), .int (iZ (F 22)), .int (iZ (F 23)), .ref (af 24), .long tr, .int (iZ (F 26)), .int (iZ (F 27)), .int (iZ (F 28))])), (af 1, .inl (Y 0, 200, .inl (aI (va_up (A 1) ((F 0).toNat) a)))), (af 11, .inl (Y 0, 7, .inl (aI (A 11)))), (af 12, .inl (Y 0, 36, .inl (aI (A 12)))), (af 16, .inl (Y 0, 7, .inl (aI (A 16)))), (af 17, .inl (Y 0, 36, .inl (aI (A 17)))), (af 18, .inl (Y 0, 41, .inl (aI (A 18)))), (af 19, .inl (Y 0, 72, .inl (aI (A 19)))), (af 20, .inl (Y 1, 2, .inl (aI (A 20)))), (af 21, .inl (Y 0, 360, .inl (aI (A 21)))), (af 24, .inl (Y 0, 10, .inl (aI (A 24))))] := hD
      refine lv_aload_n hx hb dX7_type_36 rfl (lv_at hl 0 rfl) ?_
      refine lv_dup hx hb dX7_type_37 rfl ?_
      refine va_get (D := G) (ci := 7) (v := .int (iZ (F 0))) (C := RX7) (T := TX7) (N := 29) hx hb hts hFX7 hown hK.1 hP 0 rfl rfl 0 (by decide) kf58 (fun _ h9 => h9) rfl dX7_type_38 ?_
      refine z_iconst hx hb dX7_type_41 ?_
      refine z_iadd hx hb dX7_type_42 ?_
      refine va_put (D := G) (ci := 7) (v := .int (iZ (F 0 + 1))) (ty := .int) (C := RX7) (T := TX7) (N := 29) hx hb hts hFX7 tyX7 tyX7_ok nmX7 hown hK.1 hP hD hS 0 rfl rfl 0 (by decide) kf58 (fun _ h9 => h9) rfl (by decide +kernel) rfl rfl (Nat.le_of_ble_eq_true rfl) dX7_type_43 (fun H locs hP hD hS => ?_)
      replace hP : va_P G vwCl [(g9, .inr (7, [.int (iZ (F 0 + 1)), .ref (af 1), .int (iZ (F 2)), .int (iZ (F 3)), .int (iZ (F 4)), .int (iZ (F 5)), .int (iZ (F 6)), .int (iZ (F 7)), .int (iZ (F 8)), .int (iZ (F 9)), .int (iZ (F 10)), .ref (af 11), .ref (af 12), .int (iZ (F 13)), .int (iZ (F 14)), .int (iZ (F 15)), .ref (af 16), .ref (af 17), .ref (af 18), .ref (af 19), .ref (af 20), .ref (af 21), .int (iZ (F 22)), .int (iZ (F 23)), .ref (af 24), .long tr, .int (iZ (F 26)), .int (iZ (F 27)), .int (iZ (F 28))])), (af 1, .inl (Y 0, 200, .inl (aI (va_up (A 1) ((F 0).toNat) a)))), (af 11, .inl (Y 0, 7, .inl (aI (A 11)))), (af 12, .inl (Y 0, 36, .inl (aI (A 12)))), (af 16, .inl (Y 0, 7, .inl (aI (A 16)))), (af 17, .inl (Y 0, 36, .inl (aI (A 17)))), (af 18, .inl (Y 0, 41, .inl (aI (A 18)))), (af 19, .inl (Y 0, 72, .inl (aI (A 19)))), (af 20, .inl (Y 1, 2, .inl (aI (A 20)))), (af 21, .inl (Y 0, 360, .inl (aI (A 21)))), (af 24, .inl (Y 0, 10, .inl (aI (A 24))))] H := hP
      replace hD : va_D _ [(g9, .inr (7, [.int (iZ (F 0 + 1)), .ref (af 1), .int (iZ (F 2)), .int (iZ (F 3)), .int (iZ (F 4)), .int (iZ (F 5)), .int (iZ (F 6)), .int (iZ (F 7)), .int (iZ (F 8)), .int (iZ (F 9)), .int (iZ (F 10)), .ref (af 11), .ref (af 12), .int (iZ (F 13)), .int (iZ (F 14)), .int (iZ (F 15)), .ref (af 16), .ref (af 17), .ref (af 18), .ref (af 19), .ref (af 20), .ref (af 21), .int (iZ (F 22)), .int (iZ (F 23)), .ref (af 24), .long tr, .int (iZ (F 26)), .int (iZ (F 27)), .int (iZ (F 28))])), (af 1, .inl (Y 0, 200, .inl (aI (va_up (A 1) ((F 0).toNat) a)))), (af 11, .inl (Y 0, 7, .inl (aI (A 11)))), (af 12, .inl (Y 0, 36, .inl (aI (A 12)))), (af 16, .inl (Y 0, 7, .inl (aI (A 16)))), (af 17, .inl (Y 0, 36, .inl (aI (A 17)))), (af 18, .inl (Y 0, 41, .inl (aI (A 18)))), (af 19, .inl (Y 0, 72, .inl (aI (A 19)))), (af 20, .inl (Y 1, 2, .inl (aI (A 20)))), (af 21, .inl (Y 0, 360, .inl (aI (A 21)))), (af 24, .inl (Y 0, 10, .inl (aI (A 24))))] := hD
      refine lv_aload_n hx hb dX7_type_46 rfl (lv_at hl 0 rfl) ?_
      refine va_get (D := G) (ci := 7) (v := .int (iZ (F 0 + 1))) (C := RX7) (T := TX7) (N := 29) hx hb hts hFX7 hown hK.1 hP 0 rfl rfl 0 (by decide) kf58 (fun _ h9 => h9) rfl dX7_type_47 ?_
      refine z_top (show (F 0 + 1) = rType (F 0).toNat a from ?_) ?_
      · unfold rType; (repeat' split) <;> omega
      have ef : decide ((0 ≤ a ∧ a ≤ 255) ∧ F 0 ≠ 200) = true := decide_eq_true (by omega)
      have hP9 : va_P G vwCl (moW Y g9 af (bif decide ((0 ≤ a ∧ a ≤ 255) ∧ F 0 ≠ 200) then va_up F 0 (F 0 + 1) else F) (bif decide ((0 ≤ a ∧ a ≤ 255) ∧ F 0 ≠ 200) then va_up A 1 (va_up (A 1) (F 0).toNat a) else A) (tr)) H := by rw [ef]; exact hP.sub [0, 1, 2, 3, 4, 5, 6, 7, 8, 9, 10] rfl
      exact W.iret (v := iZ (rType (F 0).toNat a)) hx hb hr (fun t9 ht9 _ => ⟨rfl, by rw [ht9]; exact hP9, hS.F ht9⟩) hS.2.2 dX7_type_50
    · skip
      refine z_bipush hx hb dX7_type_23 (by decide) ?_
      refine z_top (show (-3) = rType (F 0).toNat a from ?_) ?_
      · unfold rType; (repeat' split) <;> omega
      have ef : decide ((0 ≤ a ∧ a ≤ 255) ∧ F 0 ≠ 200) = false := decide_eq_false (by omega)
      have hP9 : va_P G vwCl (moW Y g9 af (bif decide ((0 ≤ a ∧ a ≤ 255) ∧ F 0 ≠ 200) then va_up F 0 (F 0 + 1) else F) (bif decide ((0 ≤ a ∧ a ≤ 255) ∧ F 0 ≠ 200) then va_up A 1 (va_up (A 1) (F 0).toNat a) else A) (tr)) H := by rw [ef]; exact hP.sub [0, 1, 2, 3, 4, 5, 6, 7, 8, 9, 10] rfl
      exact W.iret (v := iZ (rType (F 0).toNat a)) hx hb hr (fun t9 ht9 _ => ⟨rfl, by rw [ht9]; exact hP9, hS.F ht9⟩) hS.2.2 dX7_type_25
  · skip
    have c_1 := of_decide_eq_false c_1
    refine z_iconst hx hb dX7_type_11 ?_
    refine z_top (show (-1) = rType (F 0).toNat a from ?_) ?_
    · unfold rType; (repeat' split) <;> omega
    have ef : decide ((0 ≤ a ∧ a ≤ 255) ∧ F 0 ≠ 200) = false := decide_eq_false (by omega)
    have hP9 : va_P G vwCl (moW Y g9 af (bif decide ((0 ≤ a ∧ a ≤ 255) ∧ F 0 ≠ 200) then va_up F 0 (F 0 + 1) else F) (bif decide ((0 ≤ a ∧ a ≤ 255) ∧ F 0 ≠ 200) then va_up A 1 (va_up (A 1) (F 0).toNat a) else A) (tr)) H := by rw [ef]; exact hP.sub [0, 1, 2, 3, 4, 5, 6, 7, 8, 9, 10] rfl
    exact W.iret (v := iZ (rType (F 0).toNat a)) hx hb hr (fun t9 ht9 _ => ⟨rfl, by rw [ht9]; exact hP9, hS.F ht9⟩) hS.2.2 dX7_type_12

set_option maxHeartbeats 4000000 in
set_option maxRecDepth 100000 in
theorem c_X7_clear (l : Launch) (G : va_G) (Y : Nat → ClassId) (g9 : Nat) (af : Nat → Nat) (F : Nat → Int) (A : Kom) (tr : Int64)  : Met l yX7_clear wsX7_clear ({ frames := 0, cells := 0, slots := 0, locals := 0 }) (mP G Y [.ref g9] (moW Y g9 af F A tr)) (mQ G (moW Y g9 af F A tr) (some (.int (iZ (F 0)))) (moW Y g9 af (va_up F 0 0) (A) (tr))) 0 0 (fun q => q ∈ List.map Prod.fst (moW Y g9 af F A tr)) := by
  refine Met.ofW (cc := cX7_clear) (maxL := 2) (ret := (some .int)) (by decide) rfl ?_
  intro p e s m args below meth c s₁ B hml hv
  obtain ⟨rfl, hK, hP, hD0⟩ := hv
  have hx := B.exec
  have hb := B.bytes
  have hr := B.returns
  have hts := atoms_spec (ws := wsX7_clear) B.pre
  have hown : s.vm.findClass RX7 = some m.cls := findClass_of_methodNamed B.named
  have hlocks := B.notSynchronized
  have hFX7 : ∀ w ∈ wsX70, w ∈ wsX7_clear := by decide +kernel
  have kf58 := (hts (.fieldLink RX7 58 "ShadeVotesModel" "letters" "I") (by decide +kernel))
  have hD := va_D_self hD0
  have hS : va_S (fun q => q ∈ List.map Prod.fst (moW Y g9 af F A tr)) s.heap s.heap [] := va_S.rf
  obtain ⟨H, hHe⟩ : ∃ H, H = s.heap := ⟨_, rfl⟩
  rw [← hHe] at hP
  replace hS : va_S (fun q => q ∈ List.map Prod.fst (moW Y g9 af F A tr)) s.heap H [] := by rw [hHe]; exact hS
  have hl := lv_entry ([.ref g9]) (n := 2) (Nat.le_of_ble_eq_true rfl)
  rw [lg_entry_eq]
  generalize (lg_sl ([.ref g9]) ++ List.replicate (2 - (lg_sl ([.ref g9])).length) Slot.unset).toArray = ls at hl ⊢
  replace hl : lv_has ls 2 [(0, .ref g9)] := hl
  obtain ⟨locs, hLe⟩ : ∃ locs : List Loc, locs = [] := ⟨_, rfl⟩
  rw [← hLe] at hS ⊢
  have hW0 : ∀ {Q : State → Prop} {g : JFrame}, W p l e ({ frames := 0, cells := 0, slots := 0, locals := 0 }) s m [.ref g9].toArray below meth c H locs 0 0 Q g → W p l e ({ frames := 0, cells := 0, slots := 0, locals := 0 }) s m [.ref g9].toArray below meth c s.heap locs 0 0 Q g := fun h => by rw [← hHe]; exact h
  refine hW0 ?_
  clear hW0 hHe hLe
  refine lv_aload_n hx hb dX7_clear_0 rfl (lv_at hl 0 rfl) ?_
  refine va_get (D := G) (ci := 7) (v := .int (iZ (F 0))) (C := RX7) (T := TX7) (N := 29) hx hb hts hFX7 hown hK.1 hP 0 rfl rfl 0 (by decide) kf58 (fun _ h9 => h9) rfl dX7_clear_1 ?_
  refine lv_istore_n (lv' := [(1, .int (iZ (F 0))), (0, .ref g9)]) hx hb dX7_clear_4 rfl hl (by decide) rfl (fun ls hl => ?_)
  refine lv_aload_n hx hb dX7_clear_5 rfl (lv_at hl 1 rfl) ?_
  refine z_iconst hx hb dX7_clear_6 ?_
  refine va_put (D := G) (ci := 7) (v := .int (iZ 0)) (ty := .int) (C := RX7) (T := TX7) (N := 29) hx hb hts hFX7 tyX7 tyX7_ok nmX7 hown hK.1 hP hD hS 0 rfl rfl 0 (by decide) kf58 (fun _ h9 => h9) rfl (by decide +kernel) rfl rfl (Nat.le_of_ble_eq_true rfl) dX7_clear_7 (fun H locs hP hD hS => ?_)
  replace hP : va_P G vwCl [(g9, .inr (7, [.int (iZ 0), .ref (af 1), .int (iZ (F 2)), .int (iZ (F 3)), .int (iZ (F 4)), .int (iZ (F 5)), .int (iZ (F 6)), .int (iZ (F 7)), .int (iZ (F 8)), .int (iZ (F 9)), .int (iZ (F 10)), .ref (af 11), .ref (af 12), .int (iZ (F 13)), .int (iZ (F 14)), .int (iZ (F 15)), .ref (af 16), .ref (af 17), .ref (af 18), .ref (af 19), .ref (af 20), .ref (af 21), .int (iZ (F 22)), .int (iZ (F 23)), .ref (af 24), .long tr, .int (iZ (F 26)), .int (iZ (F 27)), .int (iZ (F 28))])), (af 1, .inl (Y 0, 200, .inl (aI (A 1)))), (af 11, .inl (Y 0, 7, .inl (aI (A 11)))), (af 12, .inl (Y 0, 36, .inl (aI (A 12)))), (af 16, .inl (Y 0, 7, .inl (aI (A 16)))), (af 17, .inl (Y 0, 36, .inl (aI (A 17)))), (af 18, .inl (Y 0, 41, .inl (aI (A 18)))), (af 19, .inl (Y 0, 72, .inl (aI (A 19)))), (af 20, .inl (Y 1, 2, .inl (aI (A 20)))), (af 21, .inl (Y 0, 360, .inl (aI (A 21)))), (af 24, .inl (Y 0, 10, .inl (aI (A 24))))] H := hP
  replace hD : va_D _ [(g9, .inr (7, [.int (iZ 0), .ref (af 1), .int (iZ (F 2)), .int (iZ (F 3)), .int (iZ (F 4)), .int (iZ (F 5)), .int (iZ (F 6)), .int (iZ (F 7)), .int (iZ (F 8)), .int (iZ (F 9)), .int (iZ (F 10)), .ref (af 11), .ref (af 12), .int (iZ (F 13)), .int (iZ (F 14)), .int (iZ (F 15)), .ref (af 16), .ref (af 17), .ref (af 18), .ref (af 19), .ref (af 20), .ref (af 21), .int (iZ (F 22)), .int (iZ (F 23)), .ref (af 24), .long tr, .int (iZ (F 26)), .int (iZ (F 27)), .int (iZ (F 28))])), (af 1, .inl (Y 0, 200, .inl (aI (A 1)))), (af 11, .inl (Y 0, 7, .inl (aI (A 11)))), (af 12, .inl (Y 0, 36, .inl (aI (A 12)))), (af 16, .inl (Y 0, 7, .inl (aI (A 16)))), (af 17, .inl (Y 0, 36, .inl (aI (A 17)))), (af 18, .inl (Y 0, 41, .inl (aI (A 18)))), (af 19, .inl (Y 0, 72, .inl (aI (A 19)))), (af 20, .inl (Y 1, 2, .inl (aI (A 20)))), (af 21, .inl (Y 0, 360, .inl (aI (A 21)))), (af 24, .inl (Y 0, 10, .inl (aI (A 24))))] := hD
  refine lv_iload_n hx hb dX7_clear_10 rfl (lv_at hl 0 rfl) ?_
  have hP9 : va_P G vwCl (moW Y g9 af (va_up F 0 0) (A) (tr)) H := hP.sub [0, 1, 2, 3, 4, 5, 6, 7, 8, 9, 10] rfl
  exact W.iret (v := iZ (F 0)) hx hb hr (fun t9 ht9 _ => ⟨rfl, by rw [ht9]; exact hP9, hS.F ht9⟩) hS.2.2 dX7_clear_11

set_option maxHeartbeats 4000000 in
set_option maxRecDepth 100000 in
theorem c_X7_forget (l : Launch) (G : va_G) (Y : Nat → ClassId) (g9 : Nat) (af : Nat → Nat) (F : Nat → Int) (A : Kom) (tr : Int64)  : Met l yX7_forget wsX7_forget ({ frames := 0, cells := 0, slots := 0, locals := 0 }) (mP G Y [.ref g9] (moW Y g9 af F A tr)) (mQ G (moW Y g9 af F A tr) (some (.int (iZ (F 23)))) (moW Y g9 af (va_up F 23 0) (A) (tr))) 0 0 (fun q => q ∈ List.map Prod.fst (moW Y g9 af F A tr)) := by
  refine Met.ofW (cc := cX7_forget) (maxL := 2) (ret := (some .int)) (by decide) rfl ?_
  intro p e s m args below meth c s₁ B hml hv
  obtain ⟨rfl, hK, hP, hD0⟩ := hv
  have hx := B.exec
  have hb := B.bytes
  have hr := B.returns
  have hts := atoms_spec (ws := wsX7_forget) B.pre
  have hown : s.vm.findClass RX7 = some m.cls := findClass_of_methodNamed B.named
  have hlocks := B.notSynchronized
  have hFX7 : ∀ w ∈ wsX70, w ∈ wsX7_forget := by decide +kernel
  have kf122 := (hts (.fieldLink RX7 122 "ShadeVotesModel" "counts" "I") (by decide +kernel))
  have hD := va_D_self hD0
  have hS : va_S (fun q => q ∈ List.map Prod.fst (moW Y g9 af F A tr)) s.heap s.heap [] := va_S.rf
  obtain ⟨H, hHe⟩ : ∃ H, H = s.heap := ⟨_, rfl⟩
  rw [← hHe] at hP
  replace hS : va_S (fun q => q ∈ List.map Prod.fst (moW Y g9 af F A tr)) s.heap H [] := by rw [hHe]; exact hS
  have hl := lv_entry ([.ref g9]) (n := 2) (Nat.le_of_ble_eq_true rfl)
  rw [lg_entry_eq]
  generalize (lg_sl ([.ref g9]) ++ List.replicate (2 - (lg_sl ([.ref g9])).length) Slot.unset).toArray = ls at hl ⊢
  replace hl : lv_has ls 2 [(0, .ref g9)] := hl
  obtain ⟨locs, hLe⟩ : ∃ locs : List Loc, locs = [] := ⟨_, rfl⟩
  rw [← hLe] at hS ⊢
  have hW0 : ∀ {Q : State → Prop} {g : JFrame}, W p l e ({ frames := 0, cells := 0, slots := 0, locals := 0 }) s m [.ref g9].toArray below meth c H locs 0 0 Q g → W p l e ({ frames := 0, cells := 0, slots := 0, locals := 0 }) s m [.ref g9].toArray below meth c s.heap locs 0 0 Q g := fun h => by rw [← hHe]; exact h
  refine hW0 ?_
  clear hW0 hHe hLe
  refine lv_aload_n hx hb dX7_forget_0 rfl (lv_at hl 0 rfl) ?_
  refine va_get (D := G) (ci := 7) (v := .int (iZ (F 23))) (C := RX7) (T := TX7) (N := 29) hx hb hts hFX7 hown hK.1 hP 0 rfl rfl 23 (by decide) kf122 (fun _ h9 => h9) rfl dX7_forget_1 ?_
  refine lv_istore_n (lv' := [(1, .int (iZ (F 23))), (0, .ref g9)]) hx hb dX7_forget_4 rfl hl (by decide) rfl (fun ls hl => ?_)
  refine lv_aload_n hx hb dX7_forget_5 rfl (lv_at hl 1 rfl) ?_
  refine z_iconst hx hb dX7_forget_6 ?_
  refine va_put (D := G) (ci := 7) (v := .int (iZ 0)) (ty := .int) (C := RX7) (T := TX7) (N := 29) hx hb hts hFX7 tyX7 tyX7_ok nmX7 hown hK.1 hP hD hS 0 rfl rfl 23 (by decide) kf122 (fun _ h9 => h9) rfl (by decide +kernel) rfl rfl (Nat.le_of_ble_eq_true rfl) dX7_forget_7 (fun H locs hP hD hS => ?_)
  replace hP : va_P G vwCl [(g9, .inr (7, [.int (iZ (F 0)), .ref (af 1), .int (iZ (F 2)), .int (iZ (F 3)), .int (iZ (F 4)), .int (iZ (F 5)), .int (iZ (F 6)), .int (iZ (F 7)), .int (iZ (F 8)), .int (iZ (F 9)), .int (iZ (F 10)), .ref (af 11), .ref (af 12), .int (iZ (F 13)), .int (iZ (F 14)), .int (iZ (F 15)), .ref (af 16), .ref (af 17), .ref (af 18), .ref (af 19), .ref (af 20), .ref (af 21), .int (iZ (F 22)), .int (iZ 0), .ref (af 24), .long tr, .int (iZ (F 26)), .int (iZ (F 27)), .int (iZ (F 28))])), (af 1, .inl (Y 0, 200, .inl (aI (A 1)))), (af 11, .inl (Y 0, 7, .inl (aI (A 11)))), (af 12, .inl (Y 0, 36, .inl (aI (A 12)))), (af 16, .inl (Y 0, 7, .inl (aI (A 16)))), (af 17, .inl (Y 0, 36, .inl (aI (A 17)))), (af 18, .inl (Y 0, 41, .inl (aI (A 18)))), (af 19, .inl (Y 0, 72, .inl (aI (A 19)))), (af 20, .inl (Y 1, 2, .inl (aI (A 20)))), (af 21, .inl (Y 0, 360, .inl (aI (A 21)))), (af 24, .inl (Y 0, 10, .inl (aI (A 24))))] H := hP
  replace hD : va_D _ [(g9, .inr (7, [.int (iZ (F 0)), .ref (af 1), .int (iZ (F 2)), .int (iZ (F 3)), .int (iZ (F 4)), .int (iZ (F 5)), .int (iZ (F 6)), .int (iZ (F 7)), .int (iZ (F 8)), .int (iZ (F 9)), .int (iZ (F 10)), .ref (af 11), .ref (af 12), .int (iZ (F 13)), .int (iZ (F 14)), .int (iZ (F 15)), .ref (af 16), .ref (af 17), .ref (af 18), .ref (af 19), .ref (af 20), .ref (af 21), .int (iZ (F 22)), .int (iZ 0), .ref (af 24), .long tr, .int (iZ (F 26)), .int (iZ (F 27)), .int (iZ (F 28))])), (af 1, .inl (Y 0, 200, .inl (aI (A 1)))), (af 11, .inl (Y 0, 7, .inl (aI (A 11)))), (af 12, .inl (Y 0, 36, .inl (aI (A 12)))), (af 16, .inl (Y 0, 7, .inl (aI (A 16)))), (af 17, .inl (Y 0, 36, .inl (aI (A 17)))), (af 18, .inl (Y 0, 41, .inl (aI (A 18)))), (af 19, .inl (Y 0, 72, .inl (aI (A 19)))), (af 20, .inl (Y 1, 2, .inl (aI (A 20)))), (af 21, .inl (Y 0, 360, .inl (aI (A 21)))), (af 24, .inl (Y 0, 10, .inl (aI (A 24))))] := hD
  refine lv_iload_n hx hb dX7_forget_10 rfl (lv_at hl 0 rfl) ?_
  have hP9 : va_P G vwCl (moW Y g9 af (va_up F 23 0) (A) (tr)) H := hP.sub [0, 1, 2, 3, 4, 5, 6, 7, 8, 9, 10] rfl
  exact W.iret (v := iZ (F 23)) hx hb hr (fun t9 ht9 _ => ⟨rfl, by rw [ht9]; exact hP9, hS.F ht9⟩) hS.2.2 dX7_forget_11

set_option maxHeartbeats 4000000 in
set_option maxRecDepth 100000 in
theorem c_X7_counted (l : Launch) (G : va_G) (Y : Nat → ClassId) (g9 : Nat) (af : Nat → Nat) (F : Nat → Int) (A : Kom) (tr : Int64) (a b : Int) (r : (zR a ∧ zR b) ∧ 0 ≤ F 23 ∧ F 23 ≤ 5) : Met l yX7_counted wsX7_counted ({ frames := 1, cells := 0, slots := 0, locals := 22 }) (mP G Y [.ref g9, .int (iZ a), .int (iZ b)] (moW Y g9 af F A tr)) (mQ G (moW Y g9 af F A tr) (some (.int (iZ (rCnt (F 23) a b)))) (moW Y g9 af (bif fCnt a b && decide (F 23 < 5) then va_up F 23 (F 23 + 1) else F) (bif fCnt a b && decide (F 23 < 5) then va_up A 24 (va_up (va_up (A 24) (2 * F 23).toNat a) ((2 * F 23) + 1).toNat b) else A) (tr))) 0 0 (fun q => q ∈ List.map Prod.fst (moW Y g9 af F A tr)) := by
  refine Met.ofW (cc := cX7_counted) (maxL := 3) (ret := (some .int)) (by decide) rfl ?_
  intro p e s m args below meth c s₁ B hml hv
  obtain ⟨rfl, hK, hP, hD0⟩ := hv
  have hx := B.exec
  have hb := B.bytes
  have hr := B.returns
  have hts := atoms_spec (ws := wsX7_counted) B.pre
  have hown : s.vm.findClass RX7 = some m.cls := findClass_of_methodNamed B.named
  have hlocks := B.notSynchronized
  have hFX7 : ∀ w ∈ wsX70, w ∈ wsX7_counted := by decide +kernel
  have kf122 := (hts (.fieldLink RX7 122 "ShadeVotesModel" "counts" "I") (by decide +kernel))
  have kf45 := (hts (.fieldLink RX7 45 "ShadeVotesModel" "count" "[I") (by decide +kernel))
  have hD := va_D_self hD0
  have hS : va_S (fun q => q ∈ List.map Prod.fst (moW Y g9 af F A tr)) s.heap s.heap [] := va_S.rf
  obtain ⟨H, hHe⟩ : ∃ H, H = s.heap := ⟨_, rfl⟩
  rw [← hHe] at hP
  replace hS : va_S (fun q => q ∈ List.map Prod.fst (moW Y g9 af F A tr)) s.heap H [] := by rw [hHe]; exact hS
  have hl := lv_entry ([.ref g9, .int (iZ a), .int (iZ b)]) (n := 3) (Nat.le_of_ble_eq_true rfl)
  rw [lg_entry_eq]
  generalize (lg_sl ([.ref g9, .int (iZ a), .int (iZ b)]) ++ List.replicate (3 - (lg_sl ([.ref g9, .int (iZ a), .int (iZ b)])).length) Slot.unset).toArray = ls at hl ⊢
  replace hl : lv_has ls 3 [(0, .ref g9), (1, .int (iZ a)), (2, .int (iZ b))] := hl
  obtain ⟨locs, hLe⟩ : ∃ locs : List Loc, locs = [] := ⟨_, rfl⟩
  rw [← hLe] at hS ⊢
  have hW0 : ∀ {Q : State → Prop} {g : JFrame}, W p l e ({ frames := 1, cells := 0, slots := 0, locals := 22 }) s m [.ref g9, .int (iZ a), .int (iZ b)].toArray below meth c H locs 0 0 Q g → W p l e ({ frames := 1, cells := 0, slots := 0, locals := 22 }) s m [.ref g9, .int (iZ a), .int (iZ b)].toArray below meth c s.heap locs 0 0 Q g := fun h => by rw [← hHe]; exact h
  refine hW0 ?_
  clear hW0 hHe hLe
  refine lv_iload_n hx hb dX7_counted_0 rfl (lv_at hl 1 rfl) ?_
  refine z_iconst hx hb dX7_counted_1 ?_
  refine z_iconst hx hb dX7_counted_2 ?_
  refine ro_S (As := [.int (iZ a), .int (iZ 0), .int (iZ 2)]) (rest := []) ⟨hx, hb, hml, hown, hts⟩ (c_X7_in l G Y a 0 2 (by omega)) (cwS 3 hts gX7_counted_X7_in rfl rfl rfl (by decide +kernel) ⟨Nat.le_of_ble_eq_true rfl, Nat.le_of_ble_eq_true rfl⟩) hK (hP.sub (ws' := []) [] rfl) rfl hl.1 rfl (Nat.le_of_ble_eq_true rfl) dX7_counted_3 ⟨Nat.zero_le _, Nat.zero_le _⟩ ?_
  refine z_ifb_eq (tgt := 19) hx hb dX7_counted_6 (by decide) (fun c_1 => ?_) (fun c_1 => ?_)
  · skip
    have c_1 := of_decide_eq_false c_1
    refine z_iconst hx hb dX7_counted_19 ?_
    refine z_top (show (-1) = rCnt (F 23) a b from ?_) ?_
    · unfold rCnt; (repeat' split) <;> omega
    have ef : (fCnt a b && decide (F 23 < 5)) = false := by unfold fCnt; rw [decide_eq_false (by omega)]; rfl
    have hP9 : va_P G vwCl (moW Y g9 af (bif fCnt a b && decide (F 23 < 5) then va_up F 23 (F 23 + 1) else F) (bif fCnt a b && decide (F 23 < 5) then va_up A 24 (va_up (va_up (A 24) (2 * F 23).toNat a) ((2 * F 23) + 1).toNat b) else A) (tr)) H := by rw [ef]; exact hP.sub [0, 1, 2, 3, 4, 5, 6, 7, 8, 9, 10] rfl
    exact W.iret (v := iZ (rCnt (F 23) a b)) hx hb hr (fun t9 ht9 _ => ⟨rfl, by rw [ht9]; exact hP9, hS.F ht9⟩) hS.2.2 dX7_counted_20
  · skip
    have c_1 := of_decide_eq_true c_1
    refine lv_iload_n hx hb dX7_counted_9 rfl (lv_at hl 2 rfl) ?_
    refine z_iconst hx hb dX7_counted_10 ?_
    refine z_bipush hx hb dX7_counted_11 (by decide) ?_
    refine ro_S (As := [.int (iZ b), .int (iZ 0), .int (iZ 28)]) (rest := []) ⟨hx, hb, hml, hown, hts⟩ (c_X7_in l G Y b 0 28 (by omega)) (cwS 3 hts gX7_counted_X7_in rfl rfl rfl (by decide +kernel) ⟨Nat.le_of_ble_eq_true rfl, Nat.le_of_ble_eq_true rfl⟩) hK (hP.sub (ws' := []) [] rfl) rfl hl.1 rfl (Nat.le_of_ble_eq_true rfl) dX7_counted_13 ⟨Nat.zero_le _, Nat.zero_le _⟩ ?_
    refine z_ifb_ne (tgt := 21) hx hb dX7_counted_16 (by decide) (fun c_2 => ?_) (fun c_2 => ?_)
    · skip
      have c_2 := of_decide_eq_true c_2
      refine lv_aload_n hx hb dX7_counted_21 rfl (lv_at hl 0 rfl) ?_
      refine va_get (D := G) (ci := 7) (v := .int (iZ (F 23))) (C := RX7) (T := TX7) (N := 29) hx hb hts hFX7 hown hK.1 hP 0 rfl rfl 23 (by decide) kf122 (fun _ h9 => h9) rfl dX7_counted_22 ?_
      refine z_iconst hx hb dX7_counted_25 ?_
      refine z_icmp_ne (tgt := 32) hx hb dX7_counted_26 (by decide) (by omega) (fun c_3 => ?_) (fun c_3 => ?_)
      · skip
        refine lv_aload_n hx hb dX7_counted_32 rfl (lv_at hl 0 rfl) ?_
        refine va_get (D := G) (ci := 7) (v := .ref (af 24)) (C := RX7) (T := TX7) (N := 29) hx hb hts hFX7 hown hK.1 hP 0 rfl rfl 24 (by decide) kf45 (fun _ h9 => h9) rfl dX7_counted_33 ?_
        refine z_iconst hx hb dX7_counted_36 ?_
        refine lv_aload_n hx hb dX7_counted_37 rfl (lv_at hl 0 rfl) ?_
        refine va_get (D := G) (ci := 7) (v := .int (iZ (F 23))) (C := RX7) (T := TX7) (N := 29) hx hb hts hFX7 hown hK.1 hP 0 rfl rfl 23 (by decide) kf122 (fun _ h9 => h9) rfl dX7_counted_38 ?_
        refine z_imul hx hb dX7_counted_41 ?_
        refine lv_iload_n hx hb dX7_counted_42 rfl (lv_at hl 1 rfl) ?_
        refine z_iast hx hb hK.1 hP hD hS 10 0 rfl rfl (((2 * F 23)).toNat) (by omega) (by decide) dX7_counted_43 (fun H locs hP hD hS => ?_)
        replace hP : va_P G vwCl [(g9, .inr (7, [.int (iZ (F 0)), .ref (af 1), .int (iZ (F 2)), .int (iZ (F 3)), .int (iZ (F 4)), .int (iZ (F 5)), .int (iZ (F 6)), .int (iZ (F 7)), .int (iZ (F 8)), .int (iZ (F 9)), .int (iZ (F 10)), .ref (af 11), .ref (af 12), .int (iZ (F 13)), .int (iZ (F 14)), .int (iZ (F 15)), .ref (af 16), .ref (af 17), .ref (af 18), .ref (af 19), .ref (af 20), .ref (af 21), .int (iZ (F 22)), .int (iZ (F 23)), .ref (af 24), .long tr, .int (iZ (F 26)), .int (iZ (F 27)), .int (iZ (F 28))])), (af 1, .inl (Y 0, 200, .inl (aI (A 1)))), (af 11, .inl (Y 0, 7, .inl (aI (A 11)))), (af 12, .inl (Y 0, 36, .inl (aI (A 12)))), (af 16, .inl (Y 0, 7, .inl (aI (A 16)))), (af 17, .inl (Y 0, 36, .inl (aI (A 17)))), (af 18, .inl (Y 0, 41, .inl (aI (A 18)))), (af 19, .inl (Y 0, 72, .inl (aI (A 19)))), (af 20, .inl (Y 1, 2, .inl (aI (A 20)))), (af 21, .inl (Y 0, 360, .inl (aI (A 21)))), (af 24, .inl (Y 0, 10, .inl (aI (va_up (A 24) (((2 * F 23)).toNat) a))))] H := hP
        replace hD : va_D _ [(g9, .inr (7, [.int (iZ (F 0)), .ref (af 1), .int (iZ (F 2)), .int (iZ (F 3)), .int (iZ (F 4)), .int (iZ (F 5)), .int (iZ (F 6)), .int (iZ (F 7)), .int (iZ (F 8)), .int (iZ (F 9)), .int (iZ (F 10)), .ref (af 11), .ref (af 12), .int (iZ (F 13)), .int (iZ (F 14)), .int (iZ (F 15)), .ref (af 16), .ref (af 17), .ref (af 18), .ref (af 19), .ref (af 20), .ref (af 21), .int (iZ (F 22)), .int (iZ (F 23)), .ref (af 24), .long tr, .int (iZ (F 26)), .int (iZ (F 27)), .int (iZ (F 28))])), (af 1, .inl (Y 0, 200, .inl (aI (A 1)))), (af 11, .inl (Y 0, 7, .inl (aI (A 11)))), (af 12, .inl (Y 0, 36, .inl (aI (A 12)))), (af 16, .inl (Y 0, 7, .inl (aI (A 16)))), (af 17, .inl (Y 0, 36, .inl (aI (A 17)))), (af 18, .inl (Y 0, 41, .inl (aI (A 18)))), (af 19, .inl (Y 0, 72, .inl (aI (A 19)))), (af 20, .inl (Y 1, 2, .inl (aI (A 20)))), (af 21, .inl (Y 0, 360, .inl (aI (A 21)))), (af 24, .inl (Y 0, 10, .inl (aI (va_up (A 24) (((2 * F 23)).toNat) a))))] := hD
        refine lv_aload_n hx hb dX7_counted_44 rfl (lv_at hl 0 rfl) ?_
        refine va_get (D := G) (ci := 7) (v := .ref (af 24)) (C := RX7) (T := TX7) (N := 29) hx hb hts hFX7 hown hK.1 hP 0 rfl rfl 24 (by decide) kf45 (fun _ h9 => h9) rfl dX7_counted_45 ?_
        refine z_iconst hx hb dX7_counted_48 ?_
        refine lv_aload_n hx hb dX7_counted_49 rfl (lv_at hl 0 rfl) ?_
        refine va_get (D := G) (ci := 7) (v := .int (iZ (F 23))) (C := RX7) (T := TX7) (N := 29) hx hb hts hFX7 hown hK.1 hP 0 rfl rfl 23 (by decide) kf122 (fun _ h9 => h9) rfl dX7_counted_50 ?_
        refine z_imul hx hb dX7_counted_53 ?_
        refine z_iconst hx hb dX7_counted_54 ?_
        refine z_iadd hx hb dX7_counted_55 ?_
        refine lv_iload_n hx hb dX7_counted_56 rfl (lv_at hl 2 rfl) ?_
        refine z_iast hx hb hK.1 hP hD hS 10 0 rfl rfl ((((2 * F 23) + 1)).toNat) (by omega) (by decide) dX7_counted_57 (fun H locs hP hD hS => ?_)
        replace hP : va_P G vwCl [(g9, .inr (7, [.int (iZ (F 0)), .ref (af 1), .int (iZ (F 2)), .int (iZ (F 3)), .int (iZ (F 4)), .int (iZ (F 5)), .int (iZ (F 6)), .int (iZ (F 7)), .int (iZ (F 8)), .int (iZ (F 9)), .int (iZ (F 10)), .ref (af 11), .ref (af 12), .int (iZ (F 13)), .int (iZ (F 14)), .int (iZ (F 15)), .ref (af 16), .ref (af 17), .ref (af 18), .ref (af 19), .ref (af 20), .ref (af 21), .int (iZ (F 22)), .int (iZ (F 23)), .ref (af 24), .long tr, .int (iZ (F 26)), .int (iZ (F 27)), .int (iZ (F 28))])), (af 1, .inl (Y 0, 200, .inl (aI (A 1)))), (af 11, .inl (Y 0, 7, .inl (aI (A 11)))), (af 12, .inl (Y 0, 36, .inl (aI (A 12)))), (af 16, .inl (Y 0, 7, .inl (aI (A 16)))), (af 17, .inl (Y 0, 36, .inl (aI (A 17)))), (af 18, .inl (Y 0, 41, .inl (aI (A 18)))), (af 19, .inl (Y 0, 72, .inl (aI (A 19)))), (af 20, .inl (Y 1, 2, .inl (aI (A 20)))), (af 21, .inl (Y 0, 360, .inl (aI (A 21)))), (af 24, .inl (Y 0, 10, .inl (aI (va_up (va_up (A 24) (((2 * F 23)).toNat) a) ((((2 * F 23) + 1)).toNat) b))))] H := hP
        replace hD : va_D _ [(g9, .inr (7, [.int (iZ (F 0)), .ref (af 1), .int (iZ (F 2)), .int (iZ (F 3)), .int (iZ (F 4)), .int (iZ (F 5)), .int (iZ (F 6)), .int (iZ (F 7)), .int (iZ (F 8)), .int (iZ (F 9)), .int (iZ (F 10)), .ref (af 11), .ref (af 12), .int (iZ (F 13)), .int (iZ (F 14)), .int (iZ (F 15)), .ref (af 16), .ref (af 17), .ref (af 18), .ref (af 19), .ref (af 20), .ref (af 21), .int (iZ (F 22)), .int (iZ (F 23)), .ref (af 24), .long tr, .int (iZ (F 26)), .int (iZ (F 27)), .int (iZ (F 28))])), (af 1, .inl (Y 0, 200, .inl (aI (A 1)))), (af 11, .inl (Y 0, 7, .inl (aI (A 11)))), (af 12, .inl (Y 0, 36, .inl (aI (A 12)))), (af 16, .inl (Y 0, 7, .inl (aI (A 16)))), (af 17, .inl (Y 0, 36, .inl (aI (A 17)))), (af 18, .inl (Y 0, 41, .inl (aI (A 18)))), (af 19, .inl (Y 0, 72, .inl (aI (A 19)))), (af 20, .inl (Y 1, 2, .inl (aI (A 20)))), (af 21, .inl (Y 0, 360, .inl (aI (A 21)))), (af 24, .inl (Y 0, 10, .inl (aI (va_up (va_up (A 24) (((2 * F 23)).toNat) a) ((((2 * F 23) + 1)).toNat) b))))] := hD
        refine lv_aload_n hx hb dX7_counted_58 rfl (lv_at hl 0 rfl) ?_
        refine lv_dup hx hb dX7_counted_59 rfl ?_
        refine va_get (D := G) (ci := 7) (v := .int (iZ (F 23))) (C := RX7) (T := TX7) (N := 29) hx hb hts hFX7 hown hK.1 hP 0 rfl rfl 23 (by decide) kf122 (fun _ h9 => h9) rfl dX7_counted_60 ?_
        refine z_iconst hx hb dX7_counted_63 ?_
        refine z_iadd hx hb dX7_counted_64 ?_
        refine va_put (D := G) (ci := 7) (v := .int (iZ (F 23 + 1))) (ty := .int) (C := RX7) (T := TX7) (N := 29) hx hb hts hFX7 tyX7 tyX7_ok nmX7 hown hK.1 hP hD hS 0 rfl rfl 23 (by decide) kf122 (fun _ h9 => h9) rfl (by decide +kernel) rfl rfl (Nat.le_of_ble_eq_true rfl) dX7_counted_65 (fun H locs hP hD hS => ?_)
        replace hP : va_P G vwCl [(g9, .inr (7, [.int (iZ (F 0)), .ref (af 1), .int (iZ (F 2)), .int (iZ (F 3)), .int (iZ (F 4)), .int (iZ (F 5)), .int (iZ (F 6)), .int (iZ (F 7)), .int (iZ (F 8)), .int (iZ (F 9)), .int (iZ (F 10)), .ref (af 11), .ref (af 12), .int (iZ (F 13)), .int (iZ (F 14)), .int (iZ (F 15)), .ref (af 16), .ref (af 17), .ref (af 18), .ref (af 19), .ref (af 20), .ref (af 21), .int (iZ (F 22)), .int (iZ (F 23 + 1)), .ref (af 24), .long tr, .int (iZ (F 26)), .int (iZ (F 27)), .int (iZ (F 28))])), (af 1, .inl (Y 0, 200, .inl (aI (A 1)))), (af 11, .inl (Y 0, 7, .inl (aI (A 11)))), (af 12, .inl (Y 0, 36, .inl (aI (A 12)))), (af 16, .inl (Y 0, 7, .inl (aI (A 16)))), (af 17, .inl (Y 0, 36, .inl (aI (A 17)))), (af 18, .inl (Y 0, 41, .inl (aI (A 18)))), (af 19, .inl (Y 0, 72, .inl (aI (A 19)))), (af 20, .inl (Y 1, 2, .inl (aI (A 20)))), (af 21, .inl (Y 0, 360, .inl (aI (A 21)))), (af 24, .inl (Y 0, 10, .inl (aI (va_up (va_up (A 24) (((2 * F 23)).toNat) a) ((((2 * F 23) + 1)).toNat) b))))] H := hP
        replace hD : va_D _ [(g9, .inr (7, [.int (iZ (F 0)), .ref (af 1), .int (iZ (F 2)), .int (iZ (F 3)), .int (iZ (F 4)), .int (iZ (F 5)), .int (iZ (F 6)), .int (iZ (F 7)), .int (iZ (F 8)), .int (iZ (F 9)), .int (iZ (F 10)), .ref (af 11), .ref (af 12), .int (iZ (F 13)), .int (iZ (F 14)), .int (iZ (F 15)), .ref (af 16), .ref (af 17), .ref (af 18), .ref (af 19), .ref (af 20), .ref (af 21), .int (iZ (F 22)), .int (iZ (F 23 + 1)), .ref (af 24), .long tr, .int (iZ (F 26)), .int (iZ (F 27)), .int (iZ (F 28))])), (af 1, .inl (Y 0, 200, .inl (aI (A 1)))), (af 11, .inl (Y 0, 7, .inl (aI (A 11)))), (af 12, .inl (Y 0, 36, .inl (aI (A 12)))), (af 16, .inl (Y 0, 7, .inl (aI (A 16)))), (af 17, .inl (Y 0, 36, .inl (aI (A 17)))), (af 18, .inl (Y 0, 41, .inl (aI (A 18)))), (af 19, .inl (Y 0, 72, .inl (aI (A 19)))), (af 20, .inl (Y 1, 2, .inl (aI (A 20)))), (af 21, .inl (Y 0, 360, .inl (aI (A 21)))), (af 24, .inl (Y 0, 10, .inl (aI (va_up (va_up (A 24) (((2 * F 23)).toNat) a) ((((2 * F 23) + 1)).toNat) b))))] := hD
        refine lv_aload_n hx hb dX7_counted_68 rfl (lv_at hl 0 rfl) ?_
        refine va_get (D := G) (ci := 7) (v := .int (iZ (F 23 + 1))) (C := RX7) (T := TX7) (N := 29) hx hb hts hFX7 hown hK.1 hP 0 rfl rfl 23 (by decide) kf122 (fun _ h9 => h9) rfl dX7_counted_69 ?_
        refine z_top (show (F 23 + 1) = rCnt (F 23) a b from ?_) ?_
        · unfold rCnt; (repeat' split) <;> omega
        have ef : (fCnt a b && decide (F 23 < 5)) = true := by unfold fCnt; rw [decide_eq_true (by omega), decide_eq_true (by omega)]; rfl
        have hP9 : va_P G vwCl (moW Y g9 af (bif fCnt a b && decide (F 23 < 5) then va_up F 23 (F 23 + 1) else F) (bif fCnt a b && decide (F 23 < 5) then va_up A 24 (va_up (va_up (A 24) (2 * F 23).toNat a) ((2 * F 23) + 1).toNat b) else A) (tr)) H := by rw [ef]; exact hP.sub [0, 1, 2, 3, 4, 5, 6, 7, 8, 9, 10] rfl
        exact W.iret (v := iZ (rCnt (F 23) a b)) hx hb hr (fun t9 ht9 _ => ⟨rfl, by rw [ht9]; exact hP9, hS.F ht9⟩) hS.2.2 dX7_counted_72
      · skip
        refine z_bipush hx hb dX7_counted_29 (by decide) ?_
        refine z_top (show (-3) = rCnt (F 23) a b from ?_) ?_
        · unfold rCnt; (repeat' split) <;> omega
        have ef : (fCnt a b && decide (F 23 < 5)) = false := by rw [decide_eq_false (p := F 23 < 5) (by omega), Bool.and_false]
        have hP9 : va_P G vwCl (moW Y g9 af (bif fCnt a b && decide (F 23 < 5) then va_up F 23 (F 23 + 1) else F) (bif fCnt a b && decide (F 23 < 5) then va_up A 24 (va_up (va_up (A 24) (2 * F 23).toNat a) ((2 * F 23) + 1).toNat b) else A) (tr)) H := by rw [ef]; exact hP.sub [0, 1, 2, 3, 4, 5, 6, 7, 8, 9, 10] rfl
        exact W.iret (v := iZ (rCnt (F 23) a b)) hx hb hr (fun t9 ht9 _ => ⟨rfl, by rw [ht9]; exact hP9, hS.F ht9⟩) hS.2.2 dX7_counted_31
    · skip
      have c_2 := of_decide_eq_false c_2
      refine z_iconst hx hb dX7_counted_19 ?_
      refine z_top (show (-1) = rCnt (F 23) a b from ?_) ?_
      · unfold rCnt; (repeat' split) <;> omega
      have ef : (fCnt a b && decide (F 23 < 5)) = false := by unfold fCnt; rw [decide_eq_false (by omega)]; rfl
      have hP9 : va_P G vwCl (moW Y g9 af (bif fCnt a b && decide (F 23 < 5) then va_up F 23 (F 23 + 1) else F) (bif fCnt a b && decide (F 23 < 5) then va_up A 24 (va_up (va_up (A 24) (2 * F 23).toNat a) ((2 * F 23) + 1).toNat b) else A) (tr)) H := by rw [ef]; exact hP.sub [0, 1, 2, 3, 4, 5, 6, 7, 8, 9, 10] rfl
      exact W.iret (v := iZ (rCnt (F 23) a b)) hx hb hr (fun t9 ht9 _ => ⟨rfl, by rw [ht9]; exact hP9, hS.F ht9⟩) hS.2.2 dX7_counted_20
