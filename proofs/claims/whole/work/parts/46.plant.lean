set_option maxHeartbeats 4000000 in
set_option maxRecDepth 100000 in
theorem c_X7_plant (l : Launch) (G : va_G) (Y : Nat → ClassId) (g9 : Nat) (af : Nat → Nat) (F : Nat → Int) (A : Kom) (tr : Int64) (hV : mV F A (A 17)) (hno : F 26 < 0) (a b : Int) (r : zR a ∧ zR b) : Met l yX7_plant wsX7_plant ({ frames := 5, cells := 0, slots := 0, locals := 123 }) (mP G Y [.ref g9, .int (iZ a), .int (iZ b)] (moW Y g9 af F A tr)) (mQ G (moW Y g9 af F A tr) (some (.int (iZ (rPlant (kF F A (A 17)) a b)))) (moW Y g9 af (bif fPl a b then va_up (va_up (va_up F 26 (-1)) 27 b) 28 ((2 ^ a.toNat : Nat) : Int) else F) (A) (tr))) 0 0 (fun q => q ∈ List.map Prod.fst (moW Y g9 af F A tr)) := by
  refine Met.ofW (cc := cX7_plant) (maxL := 5) (ret := (some .int)) (by decide) rfl ?_
  intro p e s m args below meth c s₁ B hml hv
  obtain ⟨rfl, hK, hP, hD0⟩ := hv
  have hx := B.exec
  have hb := B.bytes
  have hr := B.returns
  have hts := atoms_spec (ws := wsX7_plant) B.pre
  have hown : s.vm.findClass RX7 = some m.cls := findClass_of_methodNamed B.named
  have hlocks := B.notSynchronized
  have hFX7 : ∀ w ∈ wsX70, w ∈ wsX7_plant := by decide +kernel
  have kf19 := (hts (.fieldLink RX7 19 "ShadeVotesModel" "wide" "I") (by decide +kernel))
  have kf23 := (hts (.fieldLink RX7 23 "ShadeVotesModel" "high" "I") (by decide +kernel))
  have kf48 := (hts (.fieldLink RX7 48 "ShadeVotesModel" "moreCell" "I") (by decide +kernel))
  have kf136 := (hts (.fieldLink RX7 136 "ShadeVotesModel" "moreHeight" "I") (by decide +kernel))
  have kf139 := (hts (.fieldLink RX7 139 "ShadeVotesModel" "moreWants" "I") (by decide +kernel))
  have kf29 := (hts (.fieldLink RX7 29 "ShadeVotesModel" "now" "[I") (by decide +kernel))
  have hD := va_D_self hD0
  have hS : va_S (fun q => q ∈ List.map Prod.fst (moW Y g9 af F A tr)) s.heap s.heap [] := va_S.rf
  obtain ⟨H, hHe⟩ : ∃ H, H = s.heap := ⟨_, rfl⟩
  rw [← hHe] at hP
  replace hS : va_S (fun q => q ∈ List.map Prod.fst (moW Y g9 af F A tr)) s.heap H [] := by rw [hHe]; exact hS
  have hl := lv_entry ([.ref g9, .int (iZ a), .int (iZ b)]) (n := 5) (Nat.le_of_ble_eq_true rfl)
  rw [lg_entry_eq]
  generalize (lg_sl ([.ref g9, .int (iZ a), .int (iZ b)]) ++ List.replicate (5 - (lg_sl ([.ref g9, .int (iZ a), .int (iZ b)])).length) Slot.unset).toArray = ls at hl ⊢
  replace hl : lv_has ls 5 [(0, .ref g9), (1, .int (iZ a)), (2, .int (iZ b))] := hl
  obtain ⟨locs, hLe⟩ : ∃ locs : List Loc, locs = [] := ⟨_, rfl⟩
  rw [← hLe] at hS ⊢
  have hW0 : ∀ {Q : State → Prop} {g : JFrame}, W p l e ({ frames := 5, cells := 0, slots := 0, locals := 123 }) s m [.ref g9, .int (iZ a), .int (iZ b)].toArray below meth c H locs 0 0 Q g → W p l e ({ frames := 5, cells := 0, slots := 0, locals := 123 }) s m [.ref g9, .int (iZ a), .int (iZ b)].toArray below meth c s.heap locs 0 0 Q g := fun h => by rw [← hHe]; exact h
  refine hW0 ?_
  clear hW0 hHe hLe
  have v3 := hV.2.2.1
  have v7 := hV.2.2.2.2.2.2.1
  have v8 := hV.2.2.2.2.2.2.2.1
  have v5 := hV.2.1
  have v4 := hV.2.2.2.1
  have k00 : kF F A (A 17) 0 0 = F 13 := rfl
  have k01 : kF F A (A 17) 0 1 = F 14 := rfl
  have k02 : kF F A (A 17) 0 2 = A 17 3 := rfl
  have k03 : kF F A (A 17) 0 3 = F 15 := rfl
  have k04 : kF F A (A 17) 0 4 = A 17 1 := rfl
  have k05 : kF F A (A 17) 0 5 = A 17 0 := rfl
  have k06 : kF F A (A 17) 0 6 = A 17 2 := rfl
  have kpr : kF F A (A 17) 0 0 * kF F A (A 17) 0 1 = F 13 * F 14 := rfl
  have hW := hV.1
  have hp2 := p2_in (F 15).toNat (by omega)
  have hpa := p2w a.toNat
  refine lv_iload_n hx hb dX7_plant_0 rfl (lv_at hl 1 rfl) ?_
  refine z_iconst hx hb dX7_plant_1 ?_
  refine z_iconst hx hb dX7_plant_2 ?_
  refine ro_S (As := [.int (iZ a), .int (iZ 0), .int (iZ 2)]) (rest := []) ⟨hx, hb, hml, hown, hts⟩ (c_X7_in l G Y a 0 2 (by omega)) (cwS 3 hts gX7_plant_X7_in rfl rfl rfl (by decide +kernel) ⟨Nat.le_of_ble_eq_true rfl, Nat.le_of_ble_eq_true rfl⟩) hK (hP.sub (ws' := []) [] rfl) rfl hl.1 rfl (Nat.le_of_ble_eq_true rfl) dX7_plant_3 ⟨Nat.zero_le _, Nat.zero_le _⟩ ?_
  refine z_ifb_eq (tgt := 19) hx hb dX7_plant_6 (by decide) (fun c_1 => ?_) (fun c_1 => ?_)
  · skip
    have c_1 := of_decide_eq_false c_1
    refine z_iconst hx hb dX7_plant_19 ?_
    refine z_top (show (-1) = rPlant (kF F A (A 17)) a b from ?_) ?_
    · unfold rPlant; (repeat' split) <;> first | rfl | omega | (simp_all; done)
    have ef : fPl a b = false := decide_eq_false (by omega)
    have hP9 : va_P G vwCl (moW Y g9 af (bif fPl a b then va_up (va_up (va_up F 26 (-1)) 27 b) 28 ((2 ^ a.toNat : Nat) : Int) else F) (A) (tr)) H := by rw [ef]; exact hP.sub [0, 1, 2, 3, 4, 5, 6, 7, 8, 9, 10] rfl
    exact W.iret (v := iZ (rPlant (kF F A (A 17)) a b)) hx hb hr (fun t9 ht9 _ => ⟨rfl, by rw [ht9]; exact hP9, hS.F ht9⟩) hS.2.2 dX7_plant_20
  · skip
    have c_1 := of_decide_eq_true c_1
    refine lv_iload_n hx hb dX7_plant_9 rfl (lv_at hl 2 rfl) ?_
    refine z_iconst hx hb dX7_plant_10 ?_
    refine z_bipush hx hb dX7_plant_11 (by decide) ?_
    refine ro_S (As := [.int (iZ b), .int (iZ 1), .int (iZ 20)]) (rest := []) ⟨hx, hb, hml, hown, hts⟩ (c_X7_in l G Y b 1 20 (by omega)) (cwS 3 hts gX7_plant_X7_in rfl rfl rfl (by decide +kernel) ⟨Nat.le_of_ble_eq_true rfl, Nat.le_of_ble_eq_true rfl⟩) hK (hP.sub (ws' := []) [] rfl) rfl hl.1 rfl (Nat.le_of_ble_eq_true rfl) dX7_plant_13 ⟨Nat.zero_le _, Nat.zero_le _⟩ ?_
    refine z_ifb_ne (tgt := 21) hx hb dX7_plant_16 (by decide) (fun c_2 => ?_) (fun c_2 => ?_)
    · skip
      have c_2 := of_decide_eq_true c_2
      refine z_bipush hx hb dX7_plant_21 (by decide) ?_
      refine lv_istore_n (lv' := [(3, .int (iZ (-9))), (0, .ref g9), (1, .int (iZ a)), (2, .int (iZ b))]) hx hb dX7_plant_23 rfl hl (by decide) rfl (fun ls hl => ?_)
      refine lv_aload_n hx hb dX7_plant_24 rfl (lv_at hl 1 rfl) ?_
      refine va_get (D := G) (ci := 7) (v := .int (iZ (F 13))) (C := RX7) (T := TX7) (N := 29) hx hb hts hFX7 hown hK.1 hP 0 rfl rfl 13 (by decide) kf19 (fun _ h9 => h9) rfl dX7_plant_25 ?_
      refine lv_aload_n hx hb dX7_plant_28 rfl (lv_at hl 1 rfl) ?_
      refine va_get (D := G) (ci := 7) (v := .int (iZ (F 14))) (C := RX7) (T := TX7) (N := 29) hx hb hts hFX7 hown hK.1 hP 0 rfl rfl 14 (by decide) kf23 (fun _ h9 => h9) rfl dX7_plant_29 ?_
      refine z_imul hx hb dX7_plant_32 ?_
      refine z_iconst hx hb dX7_plant_33 ?_
      refine z_isub hx hb dX7_plant_34 ?_
      refine z_top (show ((F 13 * F 14) - 1) = (((F 13 * F 14).toNat : Nat) : Int) - 1 by omega) ?_
      refine lv_istore (lv' := [(4, .int (iZ ((((F 13 * F 14).toNat : Nat) : Int) - 1))), (3, .int (iZ (-9))), (0, .ref g9), (1, .int (iZ a)), (2, .int (iZ b))]) hx hb dX7_plant_35 hl (by decide) rfl (fun ls hl => ?_)
      obtain ⟨k, fd, x6, x7, x8, hI, hl1, hP1, hD1⟩ : ∃ (k : Nat) (fd : Int) (x6 : Int) (x7 : Int) (x8 : Int), (fb (ctG (kF F A (A 17)) a.toNat b) k fd = fb (ctG (kF F A (A 17)) a.toNat b) (F 13 * F 14).toNat (-9) ∧ (k : Int) ≤ F 13 * F 14 ∧ (x6 = -1 ∨ (0 ≤ x6 ∧ x6 < F 13 * F 14 ∧ 1 ≤ x7 ∧ x7 ≤ 20 ∧ 0 ≤ x8 ∧ x8 ≤ 7)) ∧ (k = 0 → x7 = b ∧ x8 = ((2 ^ a.toNat : Nat) : Int)) ∧ (fd = -9 ∨ (0 ≤ fd ∧ fd ≤ 20))) ∧ lv_has ls 5 [(4, .int (iZ (((k : Nat) : Int) - 1))), (3, .int (iZ fd)), (0, .ref g9), (1, .int (iZ a)), (2, .int (iZ b))] ∧ va_P G vwCl [(g9, .inr (7, [.int (iZ (F 0)), .ref (af 1), .int (iZ (F 2)), .int (iZ (F 3)), .int (iZ (F 4)), .int (iZ (F 5)), .int (iZ (F 6)), .int (iZ (F 7)), .int (iZ (F 8)), .int (iZ (F 9)), .int (iZ (F 10)), .ref (af 11), .ref (af 12), .int (iZ (F 13)), .int (iZ (F 14)), .int (iZ (F 15)), .ref (af 16), .ref (af 17), .ref (af 18), .ref (af 19), .ref (af 20), .ref (af 21), .int (iZ (F 22)), .int (iZ (F 23)), .ref (af 24), .long tr, .int (iZ x6), .int (iZ x7), .int (iZ x8)])), (af 1, .inl (Y 0, 200, .inl (aI (A 1)))), (af 11, .inl (Y 0, 7, .inl (aI (A 11)))), (af 12, .inl (Y 0, 36, .inl (aI (A 12)))), (af 16, .inl (Y 0, 7, .inl (aI (A 16)))), (af 17, .inl (Y 0, 36, .inl (aI (A 17)))), (af 18, .inl (Y 0, 41, .inl (aI (A 18)))), (af 19, .inl (Y 0, 72, .inl (aI (A 19)))), (af 20, .inl (Y 1, 2, .inl (aI (A 20)))), (af 21, .inl (Y 0, 360, .inl (aI (A 21)))), (af 24, .inl (Y 0, 10, .inl (aI (A 24))))] H ∧ va_D (fun q => q ∈ List.map Prod.fst (moW Y g9 af F A tr)) [(g9, .inr (7, [.int (iZ (F 0)), .ref (af 1), .int (iZ (F 2)), .int (iZ (F 3)), .int (iZ (F 4)), .int (iZ (F 5)), .int (iZ (F 6)), .int (iZ (F 7)), .int (iZ (F 8)), .int (iZ (F 9)), .int (iZ (F 10)), .ref (af 11), .ref (af 12), .int (iZ (F 13)), .int (iZ (F 14)), .int (iZ (F 15)), .ref (af 16), .ref (af 17), .ref (af 18), .ref (af 19), .ref (af 20), .ref (af 21), .int (iZ (F 22)), .int (iZ (F 23)), .ref (af 24), .long tr, .int (iZ x6), .int (iZ x7), .int (iZ x8)])), (af 1, .inl (Y 0, 200, .inl (aI (A 1)))), (af 11, .inl (Y 0, 7, .inl (aI (A 11)))), (af 12, .inl (Y 0, 36, .inl (aI (A 12)))), (af 16, .inl (Y 0, 7, .inl (aI (A 16)))), (af 17, .inl (Y 0, 36, .inl (aI (A 17)))), (af 18, .inl (Y 0, 41, .inl (aI (A 18)))), (af 19, .inl (Y 0, 72, .inl (aI (A 19)))), (af 20, .inl (Y 1, 2, .inl (aI (A 20)))), (af 21, .inl (Y 0, 360, .inl (aI (A 21)))), (af 24, .inl (Y 0, 10, .inl (aI (A 24))))] := ⟨(F 13 * F 14).toNat, -9, F 26, F 27, F 28, by exact ⟨rfl, by omega, by omega, fun h => absurd h (by omega), by omega⟩, lv_sub hl [0, 1, 2, 3, 4] rfl, hP, hD⟩
      clear hl hP hD
      have hl := hl1
      clear hl1
      have hP := hP1
      have hD := hD1
      clear hP1 hD1
      obtain ⟨n_, hn_⟩ : ∃ n_ : Nat, k < n_ := ⟨_, Nat.lt_succ_self _⟩
      induction n_ generalizing k fd x6 x7 x8 ls H locs with
      | zero => exact absurd hn_ (Nat.not_lt_zero _)
      | succ n_ ih3 =>
        refine lv_iload hx hb dX7_plant_37 (lv_at hl 0 rfl) ?_
        refine z_if_lt (tgt := 109) hx hb dX7_plant_39 (by decide) (by omega) (fun c_4 => ?_) (fun c_4 => ?_)
        · skip
          refine lv_aload_n hx hb dX7_plant_109 rfl (lv_at hl 2 rfl) ?_
          refine z_iconst hx hb dX7_plant_110 ?_
          refine va_put (D := G) (ci := 7) (v := .int (iZ (-1))) (ty := .int) (C := RX7) (T := TX7) (N := 29) hx hb hts hFX7 tyX7 tyX7_ok nmX7 hown hK.1 hP hD hS 0 rfl rfl 26 (by decide) kf48 (fun _ h9 => h9) rfl (by decide +kernel) rfl rfl (Nat.le_of_ble_eq_true rfl) dX7_plant_111 (fun H locs hP hD hS => ?_)
          replace hP : va_P G vwCl [(g9, .inr (7, [.int (iZ (F 0)), .ref (af 1), .int (iZ (F 2)), .int (iZ (F 3)), .int (iZ (F 4)), .int (iZ (F 5)), .int (iZ (F 6)), .int (iZ (F 7)), .int (iZ (F 8)), .int (iZ (F 9)), .int (iZ (F 10)), .ref (af 11), .ref (af 12), .int (iZ (F 13)), .int (iZ (F 14)), .int (iZ (F 15)), .ref (af 16), .ref (af 17), .ref (af 18), .ref (af 19), .ref (af 20), .ref (af 21), .int (iZ (F 22)), .int (iZ (F 23)), .ref (af 24), .long tr, .int (iZ (-1)), .int (iZ x7), .int (iZ x8)])), (af 1, .inl (Y 0, 200, .inl (aI (A 1)))), (af 11, .inl (Y 0, 7, .inl (aI (A 11)))), (af 12, .inl (Y 0, 36, .inl (aI (A 12)))), (af 16, .inl (Y 0, 7, .inl (aI (A 16)))), (af 17, .inl (Y 0, 36, .inl (aI (A 17)))), (af 18, .inl (Y 0, 41, .inl (aI (A 18)))), (af 19, .inl (Y 0, 72, .inl (aI (A 19)))), (af 20, .inl (Y 1, 2, .inl (aI (A 20)))), (af 21, .inl (Y 0, 360, .inl (aI (A 21)))), (af 24, .inl (Y 0, 10, .inl (aI (A 24))))] H := hP
          replace hD : va_D _ [(g9, .inr (7, [.int (iZ (F 0)), .ref (af 1), .int (iZ (F 2)), .int (iZ (F 3)), .int (iZ (F 4)), .int (iZ (F 5)), .int (iZ (F 6)), .int (iZ (F 7)), .int (iZ (F 8)), .int (iZ (F 9)), .int (iZ (F 10)), .ref (af 11), .ref (af 12), .int (iZ (F 13)), .int (iZ (F 14)), .int (iZ (F 15)), .ref (af 16), .ref (af 17), .ref (af 18), .ref (af 19), .ref (af 20), .ref (af 21), .int (iZ (F 22)), .int (iZ (F 23)), .ref (af 24), .long tr, .int (iZ (-1)), .int (iZ x7), .int (iZ x8)])), (af 1, .inl (Y 0, 200, .inl (aI (A 1)))), (af 11, .inl (Y 0, 7, .inl (aI (A 11)))), (af 12, .inl (Y 0, 36, .inl (aI (A 12)))), (af 16, .inl (Y 0, 7, .inl (aI (A 16)))), (af 17, .inl (Y 0, 36, .inl (aI (A 17)))), (af 18, .inl (Y 0, 41, .inl (aI (A 18)))), (af 19, .inl (Y 0, 72, .inl (aI (A 19)))), (af 20, .inl (Y 1, 2, .inl (aI (A 20)))), (af 21, .inl (Y 0, 360, .inl (aI (A 21)))), (af 24, .inl (Y 0, 10, .inl (aI (A 24))))] := hD
          refine lv_iload_n hx hb dX7_plant_114 rfl (lv_at hl 1 rfl) ?_
          refine z_top (show fd = rPlant (kF F A (A 17)) a b from ?_) ?_
          · unfold rPlant; rw [if_pos (by omega), kpr, ← fb_fnd, ← hI.1, show k = 0 by omega]; rfl
          have ef : fPl a b = true := decide_eq_true (by omega)
          have hx9 := hI.2.2.2.1 (by omega)
          have hP9 : va_P G vwCl (moW Y g9 af (bif fPl a b then va_up (va_up (va_up F 26 (-1)) 27 b) 28 ((2 ^ a.toNat : Nat) : Int) else F) (A) (tr)) H := by rw [ef, ← hx9.1, ← hx9.2]; exact hP.sub [0, 1, 2, 3, 4, 5, 6, 7, 8, 9, 10] rfl
          exact W.iret (v := iZ (rPlant (kF F A (A 17)) a b)) hx hb hr (fun t9 ht9 _ => ⟨rfl, by rw [ht9]; exact hP9, hS.F ht9⟩) hS.2.2 dX7_plant_115
        · skip
          have hJ := hI
          obtain ⟨z, hz⟩ : ∃ z : Nat, k = z + 1 := ⟨k - 1, by omega⟩
          have hz4 : (((k : Nat) : Int) - 1) = ((z : Nat) : Int) := by omega
          rw [hz4] at hl
          refine lv_aload_n hx hb dX7_plant_42 rfl (lv_at hl 2 rfl) ?_
          refine lv_aload_n hx hb dX7_plant_43 rfl (lv_at hl 2 rfl) ?_
          refine lv_iload hx hb dX7_plant_44 (lv_at hl 0 rfl) ?_
          refine ro_V (As := [.int (iZ ((z : Nat) : Int))]) (rest := [.ref g9]) ⟨hx, hb, hml, hown, hts⟩ (c_X7_isTaken l G Y g9 af (flds (F 0) (F 2) (F 3) (F 4) (F 5) (F 6) (F 7) (F 8) (F 9) (F 10) (F 13) (F 14) (F 15) (F 22) (F 23) x6 x7 x8) A tr (mV_of (F := (flds (F 0) (F 2) (F 3) (F 4) (F 5) (F 6) (F 7) (F 8) (F 9) (F 10) (F 13) (F 14) (F 15) (F 22) (F 23) x6 x7 x8)) (A := A) (S := A 17) hV.1 hV.2.1 hJ.2.2.1) ((z : Nat) : Int) (by omega)) (cwV 1 hts gX7_plant_X7_isTaken rfl rfl rfl (by decide +kernel) ⟨Nat.le_of_ble_eq_true rfl, Nat.le_of_ble_eq_true rfl⟩) hK (hP.sub (ws' := moW Y g9 af (flds (F 0) (F 2) (F 3) (F 4) (F 5) (F 6) (F 7) (F 8) (F 9) (F 10) (F 13) (F 14) (F 15) (F 22) (F 23) x6 x7 x8) A tr) [0, 1, 2, 3, 4, 5, 6, 7, 8, 9, 10] rfl) 0 rfl rfl rfl hl.1 rfl (Nat.le_of_ble_eq_true rfl) dX7_plant_46 ⟨Nat.zero_le _, Nat.zero_le _⟩ ?_
          rw [show htA (kF (flds (F 0) (F 2) (F 3) (F 4) (F 5) (F 6) (F 7) (F 8) (F 9) (F 10) (F 13) (F 14) (F 15) (F 22) (F 23) x6 x7 x8) A (A 17)) ((z : Nat) : Int) ((A 17) 3).toNat = htA (kF F A (A 17)) ((z : Nat) : Int) ((A 17) 3).toNat from rfl]
          refine z_ifb_eq (tgt := 56) hx hb dX7_plant_49 (by decide) (fun c_6 => ?_) (fun c_6 => ?_)
          · skip
            refine lv_iload hx hb dX7_plant_56 (lv_at hl 0 rfl) ?_
            refine va_put (D := G) (ci := 7) (v := .int (iZ ((z : Nat) : Int))) (ty := .int) (C := RX7) (T := TX7) (N := 29) hx hb hts hFX7 tyX7 tyX7_ok nmX7 hown hK.1 hP hD hS 0 rfl rfl 26 (by decide) kf48 (fun _ h9 => h9) rfl (by decide +kernel) rfl rfl (Nat.le_of_ble_eq_true rfl) dX7_plant_58 (fun H locs hP hD hS => ?_)
            replace hP : va_P G vwCl [(g9, .inr (7, [.int (iZ (F 0)), .ref (af 1), .int (iZ (F 2)), .int (iZ (F 3)), .int (iZ (F 4)), .int (iZ (F 5)), .int (iZ (F 6)), .int (iZ (F 7)), .int (iZ (F 8)), .int (iZ (F 9)), .int (iZ (F 10)), .ref (af 11), .ref (af 12), .int (iZ (F 13)), .int (iZ (F 14)), .int (iZ (F 15)), .ref (af 16), .ref (af 17), .ref (af 18), .ref (af 19), .ref (af 20), .ref (af 21), .int (iZ (F 22)), .int (iZ (F 23)), .ref (af 24), .long tr, .int (iZ ((z : Nat) : Int)), .int (iZ x7), .int (iZ x8)])), (af 1, .inl (Y 0, 200, .inl (aI (A 1)))), (af 11, .inl (Y 0, 7, .inl (aI (A 11)))), (af 12, .inl (Y 0, 36, .inl (aI (A 12)))), (af 16, .inl (Y 0, 7, .inl (aI (A 16)))), (af 17, .inl (Y 0, 36, .inl (aI (A 17)))), (af 18, .inl (Y 0, 41, .inl (aI (A 18)))), (af 19, .inl (Y 0, 72, .inl (aI (A 19)))), (af 20, .inl (Y 1, 2, .inl (aI (A 20)))), (af 21, .inl (Y 0, 360, .inl (aI (A 21)))), (af 24, .inl (Y 0, 10, .inl (aI (A 24))))] H := hP
            replace hD : va_D _ [(g9, .inr (7, [.int (iZ (F 0)), .ref (af 1), .int (iZ (F 2)), .int (iZ (F 3)), .int (iZ (F 4)), .int (iZ (F 5)), .int (iZ (F 6)), .int (iZ (F 7)), .int (iZ (F 8)), .int (iZ (F 9)), .int (iZ (F 10)), .ref (af 11), .ref (af 12), .int (iZ (F 13)), .int (iZ (F 14)), .int (iZ (F 15)), .ref (af 16), .ref (af 17), .ref (af 18), .ref (af 19), .ref (af 20), .ref (af 21), .int (iZ (F 22)), .int (iZ (F 23)), .ref (af 24), .long tr, .int (iZ ((z : Nat) : Int)), .int (iZ x7), .int (iZ x8)])), (af 1, .inl (Y 0, 200, .inl (aI (A 1)))), (af 11, .inl (Y 0, 7, .inl (aI (A 11)))), (af 12, .inl (Y 0, 36, .inl (aI (A 12)))), (af 16, .inl (Y 0, 7, .inl (aI (A 16)))), (af 17, .inl (Y 0, 36, .inl (aI (A 17)))), (af 18, .inl (Y 0, 41, .inl (aI (A 18)))), (af 19, .inl (Y 0, 72, .inl (aI (A 19)))), (af 20, .inl (Y 1, 2, .inl (aI (A 20)))), (af 21, .inl (Y 0, 360, .inl (aI (A 21)))), (af 24, .inl (Y 0, 10, .inl (aI (A 24))))] := hD
            refine lv_aload_n hx hb dX7_plant_61 rfl (lv_at hl 2 rfl) ?_
            refine lv_iload_n hx hb dX7_plant_62 rfl (lv_at hl 4 rfl) ?_
            refine va_put (D := G) (ci := 7) (v := .int (iZ b)) (ty := .int) (C := RX7) (T := TX7) (N := 29) hx hb hts hFX7 tyX7 tyX7_ok nmX7 hown hK.1 hP hD hS 0 rfl rfl 27 (by decide) kf136 (fun _ h9 => h9) rfl (by decide +kernel) rfl rfl (Nat.le_of_ble_eq_true rfl) dX7_plant_63 (fun H locs hP hD hS => ?_)
            replace hP : va_P G vwCl [(g9, .inr (7, [.int (iZ (F 0)), .ref (af 1), .int (iZ (F 2)), .int (iZ (F 3)), .int (iZ (F 4)), .int (iZ (F 5)), .int (iZ (F 6)), .int (iZ (F 7)), .int (iZ (F 8)), .int (iZ (F 9)), .int (iZ (F 10)), .ref (af 11), .ref (af 12), .int (iZ (F 13)), .int (iZ (F 14)), .int (iZ (F 15)), .ref (af 16), .ref (af 17), .ref (af 18), .ref (af 19), .ref (af 20), .ref (af 21), .int (iZ (F 22)), .int (iZ (F 23)), .ref (af 24), .long tr, .int (iZ ((z : Nat) : Int)), .int (iZ b), .int (iZ x8)])), (af 1, .inl (Y 0, 200, .inl (aI (A 1)))), (af 11, .inl (Y 0, 7, .inl (aI (A 11)))), (af 12, .inl (Y 0, 36, .inl (aI (A 12)))), (af 16, .inl (Y 0, 7, .inl (aI (A 16)))), (af 17, .inl (Y 0, 36, .inl (aI (A 17)))), (af 18, .inl (Y 0, 41, .inl (aI (A 18)))), (af 19, .inl (Y 0, 72, .inl (aI (A 19)))), (af 20, .inl (Y 1, 2, .inl (aI (A 20)))), (af 21, .inl (Y 0, 360, .inl (aI (A 21)))), (af 24, .inl (Y 0, 10, .inl (aI (A 24))))] H := hP
            replace hD : va_D _ [(g9, .inr (7, [.int (iZ (F 0)), .ref (af 1), .int (iZ (F 2)), .int (iZ (F 3)), .int (iZ (F 4)), .int (iZ (F 5)), .int (iZ (F 6)), .int (iZ (F 7)), .int (iZ (F 8)), .int (iZ (F 9)), .int (iZ (F 10)), .ref (af 11), .ref (af 12), .int (iZ (F 13)), .int (iZ (F 14)), .int (iZ (F 15)), .ref (af 16), .ref (af 17), .ref (af 18), .ref (af 19), .ref (af 20), .ref (af 21), .int (iZ (F 22)), .int (iZ (F 23)), .ref (af 24), .long tr, .int (iZ ((z : Nat) : Int)), .int (iZ b), .int (iZ x8)])), (af 1, .inl (Y 0, 200, .inl (aI (A 1)))), (af 11, .inl (Y 0, 7, .inl (aI (A 11)))), (af 12, .inl (Y 0, 36, .inl (aI (A 12)))), (af 16, .inl (Y 0, 7, .inl (aI (A 16)))), (af 17, .inl (Y 0, 36, .inl (aI (A 17)))), (af 18, .inl (Y 0, 41, .inl (aI (A 18)))), (af 19, .inl (Y 0, 72, .inl (aI (A 19)))), (af 20, .inl (Y 1, 2, .inl (aI (A 20)))), (af 21, .inl (Y 0, 360, .inl (aI (A 21)))), (af 24, .inl (Y 0, 10, .inl (aI (A 24))))] := hD
            refine lv_aload_n hx hb dX7_plant_66 rfl (lv_at hl 2 rfl) ?_
            refine z_iconst hx hb dX7_plant_67 ?_
            refine lv_iload_n hx hb dX7_plant_68 rfl (lv_at hl 3 rfl) ?_
            have hpa1 := hpa (by omega)
            have hpi : 0 ≤ ((2 ^ a.toNat : Nat) : Int) ∧ ((2 ^ a.toNat : Nat) : Int) ≤ 7 := ⟨Int.natCast_nonneg _, Int.ofNat_le.mpr hpa1⟩
            refine z_ishl1 (k := a.toNat) hx hb dX7_plant_69 (by omega) ?_
            refine va_put (D := G) (ci := 7) (v := .int (iZ ((2 ^ a.toNat : Nat) : Int))) (ty := .int) (C := RX7) (T := TX7) (N := 29) hx hb hts hFX7 tyX7 tyX7_ok nmX7 hown hK.1 hP hD hS 0 rfl rfl 28 (by decide) kf139 (fun _ h9 => h9) rfl (by decide +kernel) rfl rfl (Nat.le_of_ble_eq_true rfl) dX7_plant_70 (fun H locs hP hD hS => ?_)
            replace hP : va_P G vwCl [(g9, .inr (7, [.int (iZ (F 0)), .ref (af 1), .int (iZ (F 2)), .int (iZ (F 3)), .int (iZ (F 4)), .int (iZ (F 5)), .int (iZ (F 6)), .int (iZ (F 7)), .int (iZ (F 8)), .int (iZ (F 9)), .int (iZ (F 10)), .ref (af 11), .ref (af 12), .int (iZ (F 13)), .int (iZ (F 14)), .int (iZ (F 15)), .ref (af 16), .ref (af 17), .ref (af 18), .ref (af 19), .ref (af 20), .ref (af 21), .int (iZ (F 22)), .int (iZ (F 23)), .ref (af 24), .long tr, .int (iZ ((z : Nat) : Int)), .int (iZ b), .int (iZ ((2 ^ a.toNat : Nat) : Int))])), (af 1, .inl (Y 0, 200, .inl (aI (A 1)))), (af 11, .inl (Y 0, 7, .inl (aI (A 11)))), (af 12, .inl (Y 0, 36, .inl (aI (A 12)))), (af 16, .inl (Y 0, 7, .inl (aI (A 16)))), (af 17, .inl (Y 0, 36, .inl (aI (A 17)))), (af 18, .inl (Y 0, 41, .inl (aI (A 18)))), (af 19, .inl (Y 0, 72, .inl (aI (A 19)))), (af 20, .inl (Y 1, 2, .inl (aI (A 20)))), (af 21, .inl (Y 0, 360, .inl (aI (A 21)))), (af 24, .inl (Y 0, 10, .inl (aI (A 24))))] H := hP
            replace hD : va_D _ [(g9, .inr (7, [.int (iZ (F 0)), .ref (af 1), .int (iZ (F 2)), .int (iZ (F 3)), .int (iZ (F 4)), .int (iZ (F 5)), .int (iZ (F 6)), .int (iZ (F 7)), .int (iZ (F 8)), .int (iZ (F 9)), .int (iZ (F 10)), .ref (af 11), .ref (af 12), .int (iZ (F 13)), .int (iZ (F 14)), .int (iZ (F 15)), .ref (af 16), .ref (af 17), .ref (af 18), .ref (af 19), .ref (af 20), .ref (af 21), .int (iZ (F 22)), .int (iZ (F 23)), .ref (af 24), .long tr, .int (iZ ((z : Nat) : Int)), .int (iZ b), .int (iZ ((2 ^ a.toNat : Nat) : Int))])), (af 1, .inl (Y 0, 200, .inl (aI (A 1)))), (af 11, .inl (Y 0, 7, .inl (aI (A 11)))), (af 12, .inl (Y 0, 36, .inl (aI (A 12)))), (af 16, .inl (Y 0, 7, .inl (aI (A 16)))), (af 17, .inl (Y 0, 36, .inl (aI (A 17)))), (af 18, .inl (Y 0, 41, .inl (aI (A 18)))), (af 19, .inl (Y 0, 72, .inl (aI (A 19)))), (af 20, .inl (Y 1, 2, .inl (aI (A 20)))), (af 21, .inl (Y 0, 360, .inl (aI (A 21)))), (af 24, .inl (Y 0, 10, .inl (aI (A 24))))] := hD
            refine lv_aload_n hx hb dX7_plant_73 rfl (lv_at hl 2 rfl) ?_
            refine va_get (D := G) (ci := 7) (v := .int (iZ ((z : Nat) : Int))) (C := RX7) (T := TX7) (N := 29) hx hb hts hFX7 hown hK.1 hP 0 rfl rfl 26 (by decide) kf48 (fun _ h9 => h9) rfl dX7_plant_74 ?_
            refine z_if_lt (tgt := 101) hx hb dX7_plant_77 (by decide) (by omega) (fun c_7 => ?_) (fun c_7 => ?_)
            · skip
              exfalso; omega
            · skip
              refine lv_aload_n hx hb dX7_plant_80 rfl (lv_at hl 2 rfl) ?_
              refine lv_aload_n hx hb dX7_plant_81 rfl (lv_at hl 2 rfl) ?_
              refine va_get (D := G) (ci := 7) (v := .ref (af 17)) (C := RX7) (T := TX7) (N := 29) hx hb hts hFX7 hown hK.1 hP 0 rfl rfl 17 (by decide) kf29 (fun _ h9 => h9) rfl dX7_plant_82 ?_
              refine lv_iload_n hx hb dX7_plant_85 rfl (lv_at hl 3 rfl) ?_
              refine lv_aload_n hx hb dX7_plant_86 rfl (lv_at hl 2 rfl) ?_
              refine ro_V (As := []) (rest := [.int (iZ a), .ref (af 17), .ref g9]) ⟨hx, hb, hml, hown, hts⟩ (c_X7_everybody l G Y g9 af (flds (F 0) (F 2) (F 3) (F 4) (F 5) (F 6) (F 7) (F 8) (F 9) (F 10) (F 13) (F 14) (F 15) (F 22) (F 23) ((z : Nat) : Int) b ((2 ^ a.toNat : Nat) : Int)) A tr (show 0 ≤ F 15 ∧ F 15 ≤ 7 by omega)) (cwV 0 hts gX7_plant_X7_everybody rfl rfl rfl (by decide +kernel) ⟨Nat.le_of_ble_eq_true rfl, Nat.le_of_ble_eq_true rfl⟩) hK (hP.sub (ws' := moW Y g9 af (flds (F 0) (F 2) (F 3) (F 4) (F 5) (F 6) (F 7) (F 8) (F 9) (F 10) (F 13) (F 14) (F 15) (F 22) (F 23) ((z : Nat) : Int) b ((2 ^ a.toNat : Nat) : Int)) A tr) [0, 1, 2, 3, 4, 5, 6, 7, 8, 9, 10] rfl) 0 rfl rfl rfl hl.1 rfl (Nat.le_of_ble_eq_true rfl) dX7_plant_87 ⟨Nat.zero_le _, Nat.zero_le _⟩ ?_
              refine W.eq (g2 := F0 _ _ _ (.int (iZ ((2 ^ (F 15).toNat - 1 : Nat) : Int)) :: _)) rfl ?_
              refine ro_V (As := [.ref (af 17), .int (iZ a), .int (iZ ((2 ^ (F 15).toNat - 1 : Nat) : Int))]) (rest := []) ⟨hx, hb, hml, hown, hts⟩ (c_X7_balance l G Y g9 af (flds (F 0) (F 2) (F 3) (F 4) (F 5) (F 6) (F 7) (F 8) (F 9) (F 10) (F 13) (F 14) (F 15) (F 22) (F 23) ((z : Nat) : Int) b ((2 ^ a.toNat : Nat) : Int)) A tr (af 17) 5 36 (A 17) rfl (by decide) (mV_of (F := (flds (F 0) (F 2) (F 3) (F 4) (F 5) (F 6) (F 7) (F 8) (F 9) (F 10) (F 13) (F 14) (F 15) (F 22) (F 23) ((z : Nat) : Int) b ((2 ^ a.toNat : Nat) : Int))) (A := A) (S := A 17) hV.1 hV.2.1 (Or.inr (show 0 ≤ ((z : Nat) : Int) ∧ ((z : Nat) : Int) < F 13 * F 14 ∧ 1 ≤ b ∧ b ≤ 20 ∧ 0 ≤ ((2 ^ a.toNat : Nat) : Int) ∧ ((2 ^ a.toNat : Nat) : Int) ≤ 7 by omega))) a (2 ^ (F 15).toNat - 1) (by omega)) (cwV 3 hts gX7_plant_X7_balance rfl rfl rfl (by decide +kernel) ⟨Nat.le_of_ble_eq_true rfl, Nat.le_of_ble_eq_true rfl⟩) hK (hP.sub (ws' := moW Y g9 af (flds (F 0) (F 2) (F 3) (F 4) (F 5) (F 6) (F 7) (F 8) (F 9) (F 10) (F 13) (F 14) (F 15) (F 22) (F 23) ((z : Nat) : Int) b ((2 ^ a.toNat : Nat) : Int)) A tr) [0, 1, 2, 3, 4, 5, 6, 7, 8, 9, 10] rfl) 0 rfl rfl rfl hl.1 rfl (Nat.le_of_ble_eq_true rfl) dX7_plant_90 ⟨Nat.zero_le _, Nat.zero_le _⟩ ?_
              have hbi := blN_in (kM_WF (mV_of (F := (flds (F 0) (F 2) (F 3) (F 4) (F 5) (F 6) (F 7) (F 8) (F 9) (F 10) (F 13) (F 14) (F 15) (F 22) (F 23) ((z : Nat) : Int) b ((2 ^ a.toNat : Nat) : Int))) (A := A) (S := A 17) hV.1 hV.2.1 (Or.inr (show 0 ≤ ((z : Nat) : Int) ∧ ((z : Nat) : Int) < F 13 * F 14 ∧ 1 ≤ b ∧ b ≤ 20 ∧ 0 ≤ ((2 ^ a.toNat : Nat) : Int) ∧ ((2 ^ a.toNat : Nat) : Int) ≤ 7 by omega)))) a.toNat (2 ^ (F 15).toNat - 1) (F 15).toNat (by omega)
              have hs9 : 0 < (blN (kM (flds (F 0) (F 2) (F 3) (F 4) (F 5) (F 6) (F 7) (F 8) (F 9) (F 10) (F 13) (F 14) (F 15) (F 22) (F 23) ((z : Nat) : Int) b ((2 ^ a.toNat : Nat) : Int)) A (A 17)) a.toNat (2 ^ (F 15).toNat - 1) (F 15).toNat) ↔ crd (adT (kF F A (A 17)) ((z : Nat) : Int) b 1 ((2 ^ a.toNat : Nat) : Int)) a.toNat = true := more_b (F := (flds (F 0) (F 2) (F 3) (F 4) (F 5) (F 6) (F 7) (F 8) (F 9) (F 10) (F 13) (F 14) (F 15) (F 22) (F 23) ((z : Nat) : Int) b ((2 ^ a.toNat : Nat) : Int))) (show (0 : Int) ≤ ((z : Nat) : Int) by omega) _
              refine W.eq (g2 := F0 _ _ _ (.int (iZ (blN (kM (flds (F 0) (F 2) (F 3) (F 4) (F 5) (F 6) (F 7) (F 8) (F 9) (F 10) (F 13) (F 14) (F 15) (F 22) (F 23) ((z : Nat) : Int) b ((2 ^ a.toNat : Nat) : Int)) A (A 17)) a.toNat (2 ^ (F 15).toNat - 1) (F 15).toNat)) :: _)) rfl ?_
              refine z_if_le (tgt := 101) hx hb dX7_plant_93 (by decide) (by omega) (fun c_12 => ?_) (fun c_12 => ?_)
              · skip
                refine lv_iload_n hx hb dX7_plant_101 rfl (lv_at hl 1 rfl) ?_
                refine lv_istore_n (lv' := [(3, .int (iZ fd)), (4, .int (iZ ((z : Nat) : Int))), (0, .ref g9), (1, .int (iZ a)), (2, .int (iZ b))]) hx hb dX7_plant_102 rfl hl (by decide) rfl (fun ls hl => ?_)
                refine lv_iinc (v := iZ (((z : Nat) : Int) - 1)) (lv' := [(4, .int (iZ (((z : Nat) : Int) - 1))), (3, .int (iZ fd)), (0, .ref g9), (1, .int (iZ a)), (2, .int (iZ b))]) hx hb dX7_plant_103 hl (k := 1) rfl (by rw [show Int32.ofInt (-1) = iZ (-1) from rfl, iZ_add]; congr 1) (by decide) rfl (fun ls hl => ?_)
                refine lv_goto (tgt := 37) hx hb dX7_plant_106 (by decide) ?_
                exact ih3 (ls := ls) (k := z) (fd := fd) (x6 := ((z : Nat) : Int)) (x7 := b) (x8 := ((2 ^ a.toNat : Nat) : Int)) (H := H) (locs := locs) (hS := hS) (hI := by refine ⟨?_, by omega, by omega, fun _ => ⟨rfl, rfl⟩, by omega⟩; rw [← hJ.1, hz, fb]; first | rw [if_pos (ctG_t (show htA (kF F A (A 17)) ((z : Nat) : Int) ((A 17) 3).toNat = false by assumption) (hs9.mp (by omega)))] | rw [if_neg (by rw [ctG_f1 (show htA (kF F A (A 17)) ((z : Nat) : Int) ((A 17) 3).toNat = true by assumption)]; exact Bool.false_ne_true)] | rw [if_neg (by rw [ctG_f2 (Bool.eq_false_iff.mpr (fun h => absurd (hs9.mpr h) (by omega)))]; exact Bool.false_ne_true)]) (hl := lv_sub hl [0, 1, 2, 3, 4] rfl) (hP := hP) (hD := hD) (hn_ := by omega)
              · skip
                refine lv_iload hx hb dX7_plant_96 (lv_at hl 0 rfl) ?_
                refine lv_goto (tgt := 102) hx hb dX7_plant_98 (by decide) ?_
                refine lv_istore_n (lv' := [(3, .int (iZ ((z : Nat) : Int))), (4, .int (iZ ((z : Nat) : Int))), (0, .ref g9), (1, .int (iZ a)), (2, .int (iZ b))]) hx hb dX7_plant_102 rfl hl (by decide) rfl (fun ls hl => ?_)
                refine lv_iinc (v := iZ (((z : Nat) : Int) - 1)) (lv' := [(4, .int (iZ (((z : Nat) : Int) - 1))), (3, .int (iZ ((z : Nat) : Int))), (0, .ref g9), (1, .int (iZ a)), (2, .int (iZ b))]) hx hb dX7_plant_103 hl (k := 1) rfl (by rw [show Int32.ofInt (-1) = iZ (-1) from rfl, iZ_add]; congr 1) (by decide) rfl (fun ls hl => ?_)
                refine lv_goto (tgt := 37) hx hb dX7_plant_106 (by decide) ?_
                exact ih3 (ls := ls) (k := z) (fd := ((z : Nat) : Int)) (x6 := ((z : Nat) : Int)) (x7 := b) (x8 := ((2 ^ a.toNat : Nat) : Int)) (H := H) (locs := locs) (hS := hS) (hI := by refine ⟨?_, by omega, by omega, fun _ => ⟨rfl, rfl⟩, by omega⟩; rw [← hJ.1, hz, fb]; first | rw [if_pos (ctG_t (show htA (kF F A (A 17)) ((z : Nat) : Int) ((A 17) 3).toNat = false by assumption) (hs9.mp (by omega)))] | rw [if_neg (by rw [ctG_f1 (show htA (kF F A (A 17)) ((z : Nat) : Int) ((A 17) 3).toNat = true by assumption)]; exact Bool.false_ne_true)] | rw [if_neg (by rw [ctG_f2 (Bool.eq_false_iff.mpr (fun h => absurd (hs9.mpr h) (by omega)))]; exact Bool.false_ne_true)]) (hl := lv_sub hl [0, 1, 2, 3, 4] rfl) (hP := hP) (hD := hD) (hn_ := by omega)
          · skip
            refine z_iconst hx hb dX7_plant_52 ?_
            refine lv_goto (tgt := 58) hx hb dX7_plant_53 (by decide) ?_
            refine va_put (D := G) (ci := 7) (v := .int (iZ (-1))) (ty := .int) (C := RX7) (T := TX7) (N := 29) hx hb hts hFX7 tyX7 tyX7_ok nmX7 hown hK.1 hP hD hS 0 rfl rfl 26 (by decide) kf48 (fun _ h9 => h9) rfl (by decide +kernel) rfl rfl (Nat.le_of_ble_eq_true rfl) dX7_plant_58 (fun H locs hP hD hS => ?_)
            replace hP : va_P G vwCl [(g9, .inr (7, [.int (iZ (F 0)), .ref (af 1), .int (iZ (F 2)), .int (iZ (F 3)), .int (iZ (F 4)), .int (iZ (F 5)), .int (iZ (F 6)), .int (iZ (F 7)), .int (iZ (F 8)), .int (iZ (F 9)), .int (iZ (F 10)), .ref (af 11), .ref (af 12), .int (iZ (F 13)), .int (iZ (F 14)), .int (iZ (F 15)), .ref (af 16), .ref (af 17), .ref (af 18), .ref (af 19), .ref (af 20), .ref (af 21), .int (iZ (F 22)), .int (iZ (F 23)), .ref (af 24), .long tr, .int (iZ (-1)), .int (iZ x7), .int (iZ x8)])), (af 1, .inl (Y 0, 200, .inl (aI (A 1)))), (af 11, .inl (Y 0, 7, .inl (aI (A 11)))), (af 12, .inl (Y 0, 36, .inl (aI (A 12)))), (af 16, .inl (Y 0, 7, .inl (aI (A 16)))), (af 17, .inl (Y 0, 36, .inl (aI (A 17)))), (af 18, .inl (Y 0, 41, .inl (aI (A 18)))), (af 19, .inl (Y 0, 72, .inl (aI (A 19)))), (af 20, .inl (Y 1, 2, .inl (aI (A 20)))), (af 21, .inl (Y 0, 360, .inl (aI (A 21)))), (af 24, .inl (Y 0, 10, .inl (aI (A 24))))] H := hP
            replace hD : va_D _ [(g9, .inr (7, [.int (iZ (F 0)), .ref (af 1), .int (iZ (F 2)), .int (iZ (F 3)), .int (iZ (F 4)), .int (iZ (F 5)), .int (iZ (F 6)), .int (iZ (F 7)), .int (iZ (F 8)), .int (iZ (F 9)), .int (iZ (F 10)), .ref (af 11), .ref (af 12), .int (iZ (F 13)), .int (iZ (F 14)), .int (iZ (F 15)), .ref (af 16), .ref (af 17), .ref (af 18), .ref (af 19), .ref (af 20), .ref (af 21), .int (iZ (F 22)), .int (iZ (F 23)), .ref (af 24), .long tr, .int (iZ (-1)), .int (iZ x7), .int (iZ x8)])), (af 1, .inl (Y 0, 200, .inl (aI (A 1)))), (af 11, .inl (Y 0, 7, .inl (aI (A 11)))), (af 12, .inl (Y 0, 36, .inl (aI (A 12)))), (af 16, .inl (Y 0, 7, .inl (aI (A 16)))), (af 17, .inl (Y 0, 36, .inl (aI (A 17)))), (af 18, .inl (Y 0, 41, .inl (aI (A 18)))), (af 19, .inl (Y 0, 72, .inl (aI (A 19)))), (af 20, .inl (Y 1, 2, .inl (aI (A 20)))), (af 21, .inl (Y 0, 360, .inl (aI (A 21)))), (af 24, .inl (Y 0, 10, .inl (aI (A 24))))] := hD
            refine lv_aload_n hx hb dX7_plant_61 rfl (lv_at hl 2 rfl) ?_
            refine lv_iload_n hx hb dX7_plant_62 rfl (lv_at hl 4 rfl) ?_
            refine va_put (D := G) (ci := 7) (v := .int (iZ b)) (ty := .int) (C := RX7) (T := TX7) (N := 29) hx hb hts hFX7 tyX7 tyX7_ok nmX7 hown hK.1 hP hD hS 0 rfl rfl 27 (by decide) kf136 (fun _ h9 => h9) rfl (by decide +kernel) rfl rfl (Nat.le_of_ble_eq_true rfl) dX7_plant_63 (fun H locs hP hD hS => ?_)
            replace hP : va_P G vwCl [(g9, .inr (7, [.int (iZ (F 0)), .ref (af 1), .int (iZ (F 2)), .int (iZ (F 3)), .int (iZ (F 4)), .int (iZ (F 5)), .int (iZ (F 6)), .int (iZ (F 7)), .int (iZ (F 8)), .int (iZ (F 9)), .int (iZ (F 10)), .ref (af 11), .ref (af 12), .int (iZ (F 13)), .int (iZ (F 14)), .int (iZ (F 15)), .ref (af 16), .ref (af 17), .ref (af 18), .ref (af 19), .ref (af 20), .ref (af 21), .int (iZ (F 22)), .int (iZ (F 23)), .ref (af 24), .long tr, .int (iZ (-1)), .int (iZ b), .int (iZ x8)])), (af 1, .inl (Y 0, 200, .inl (aI (A 1)))), (af 11, .inl (Y 0, 7, .inl (aI (A 11)))), (af 12, .inl (Y 0, 36, .inl (aI (A 12)))), (af 16, .inl (Y 0, 7, .inl (aI (A 16)))), (af 17, .inl (Y 0, 36, .inl (aI (A 17)))), (af 18, .inl (Y 0, 41, .inl (aI (A 18)))), (af 19, .inl (Y 0, 72, .inl (aI (A 19)))), (af 20, .inl (Y 1, 2, .inl (aI (A 20)))), (af 21, .inl (Y 0, 360, .inl (aI (A 21)))), (af 24, .inl (Y 0, 10, .inl (aI (A 24))))] H := hP
            replace hD : va_D _ [(g9, .inr (7, [.int (iZ (F 0)), .ref (af 1), .int (iZ (F 2)), .int (iZ (F 3)), .int (iZ (F 4)), .int (iZ (F 5)), .int (iZ (F 6)), .int (iZ (F 7)), .int (iZ (F 8)), .int (iZ (F 9)), .int (iZ (F 10)), .ref (af 11), .ref (af 12), .int (iZ (F 13)), .int (iZ (F 14)), .int (iZ (F 15)), .ref (af 16), .ref (af 17), .ref (af 18), .ref (af 19), .ref (af 20), .ref (af 21), .int (iZ (F 22)), .int (iZ (F 23)), .ref (af 24), .long tr, .int (iZ (-1)), .int (iZ b), .int (iZ x8)])), (af 1, .inl (Y 0, 200, .inl (aI (A 1)))), (af 11, .inl (Y 0, 7, .inl (aI (A 11)))), (af 12, .inl (Y 0, 36, .inl (aI (A 12)))), (af 16, .inl (Y 0, 7, .inl (aI (A 16)))), (af 17, .inl (Y 0, 36, .inl (aI (A 17)))), (af 18, .inl (Y 0, 41, .inl (aI (A 18)))), (af 19, .inl (Y 0, 72, .inl (aI (A 19)))), (af 20, .inl (Y 1, 2, .inl (aI (A 20)))), (af 21, .inl (Y 0, 360, .inl (aI (A 21)))), (af 24, .inl (Y 0, 10, .inl (aI (A 24))))] := hD
            refine lv_aload_n hx hb dX7_plant_66 rfl (lv_at hl 2 rfl) ?_
            refine z_iconst hx hb dX7_plant_67 ?_
            refine lv_iload_n hx hb dX7_plant_68 rfl (lv_at hl 3 rfl) ?_
            have hpa1 := hpa (by omega)
            have hpi : 0 ≤ ((2 ^ a.toNat : Nat) : Int) ∧ ((2 ^ a.toNat : Nat) : Int) ≤ 7 := ⟨Int.natCast_nonneg _, Int.ofNat_le.mpr hpa1⟩
            refine z_ishl1 (k := a.toNat) hx hb dX7_plant_69 (by omega) ?_
            refine va_put (D := G) (ci := 7) (v := .int (iZ ((2 ^ a.toNat : Nat) : Int))) (ty := .int) (C := RX7) (T := TX7) (N := 29) hx hb hts hFX7 tyX7 tyX7_ok nmX7 hown hK.1 hP hD hS 0 rfl rfl 28 (by decide) kf139 (fun _ h9 => h9) rfl (by decide +kernel) rfl rfl (Nat.le_of_ble_eq_true rfl) dX7_plant_70 (fun H locs hP hD hS => ?_)
            replace hP : va_P G vwCl [(g9, .inr (7, [.int (iZ (F 0)), .ref (af 1), .int (iZ (F 2)), .int (iZ (F 3)), .int (iZ (F 4)), .int (iZ (F 5)), .int (iZ (F 6)), .int (iZ (F 7)), .int (iZ (F 8)), .int (iZ (F 9)), .int (iZ (F 10)), .ref (af 11), .ref (af 12), .int (iZ (F 13)), .int (iZ (F 14)), .int (iZ (F 15)), .ref (af 16), .ref (af 17), .ref (af 18), .ref (af 19), .ref (af 20), .ref (af 21), .int (iZ (F 22)), .int (iZ (F 23)), .ref (af 24), .long tr, .int (iZ (-1)), .int (iZ b), .int (iZ ((2 ^ a.toNat : Nat) : Int))])), (af 1, .inl (Y 0, 200, .inl (aI (A 1)))), (af 11, .inl (Y 0, 7, .inl (aI (A 11)))), (af 12, .inl (Y 0, 36, .inl (aI (A 12)))), (af 16, .inl (Y 0, 7, .inl (aI (A 16)))), (af 17, .inl (Y 0, 36, .inl (aI (A 17)))), (af 18, .inl (Y 0, 41, .inl (aI (A 18)))), (af 19, .inl (Y 0, 72, .inl (aI (A 19)))), (af 20, .inl (Y 1, 2, .inl (aI (A 20)))), (af 21, .inl (Y 0, 360, .inl (aI (A 21)))), (af 24, .inl (Y 0, 10, .inl (aI (A 24))))] H := hP
            replace hD : va_D _ [(g9, .inr (7, [.int (iZ (F 0)), .ref (af 1), .int (iZ (F 2)), .int (iZ (F 3)), .int (iZ (F 4)), .int (iZ (F 5)), .int (iZ (F 6)), .int (iZ (F 7)), .int (iZ (F 8)), .int (iZ (F 9)), .int (iZ (F 10)), .ref (af 11), .ref (af 12), .int (iZ (F 13)), .int (iZ (F 14)), .int (iZ (F 15)), .ref (af 16), .ref (af 17), .ref (af 18), .ref (af 19), .ref (af 20), .ref (af 21), .int (iZ (F 22)), .int (iZ (F 23)), .ref (af 24), .long tr, .int (iZ (-1)), .int (iZ b), .int (iZ ((2 ^ a.toNat : Nat) : Int))])), (af 1, .inl (Y 0, 200, .inl (aI (A 1)))), (af 11, .inl (Y 0, 7, .inl (aI (A 11)))), (af 12, .inl (Y 0, 36, .inl (aI (A 12)))), (af 16, .inl (Y 0, 7, .inl (aI (A 16)))), (af 17, .inl (Y 0, 36, .inl (aI (A 17)))), (af 18, .inl (Y 0, 41, .inl (aI (A 18)))), (af 19, .inl (Y 0, 72, .inl (aI (A 19)))), (af 20, .inl (Y 1, 2, .inl (aI (A 20)))), (af 21, .inl (Y 0, 360, .inl (aI (A 21)))), (af 24, .inl (Y 0, 10, .inl (aI (A 24))))] := hD
            refine lv_aload_n hx hb dX7_plant_73 rfl (lv_at hl 2 rfl) ?_
            refine va_get (D := G) (ci := 7) (v := .int (iZ (-1))) (C := RX7) (T := TX7) (N := 29) hx hb hts hFX7 hown hK.1 hP 0 rfl rfl 26 (by decide) kf48 (fun _ h9 => h9) rfl dX7_plant_74 ?_
            refine z_if_lt (tgt := 101) hx hb dX7_plant_77 (by decide) (by omega) (fun c_13 => ?_) (fun c_13 => ?_)
            · skip
              refine lv_iload_n hx hb dX7_plant_101 rfl (lv_at hl 1 rfl) ?_
              refine lv_istore_n (lv' := [(3, .int (iZ fd)), (4, .int (iZ ((z : Nat) : Int))), (0, .ref g9), (1, .int (iZ a)), (2, .int (iZ b))]) hx hb dX7_plant_102 rfl hl (by decide) rfl (fun ls hl => ?_)
              refine lv_iinc (v := iZ (((z : Nat) : Int) - 1)) (lv' := [(4, .int (iZ (((z : Nat) : Int) - 1))), (3, .int (iZ fd)), (0, .ref g9), (1, .int (iZ a)), (2, .int (iZ b))]) hx hb dX7_plant_103 hl (k := 1) rfl (by rw [show Int32.ofInt (-1) = iZ (-1) from rfl, iZ_add]; congr 1) (by decide) rfl (fun ls hl => ?_)
              refine lv_goto (tgt := 37) hx hb dX7_plant_106 (by decide) ?_
              exact ih3 (ls := ls) (k := z) (fd := fd) (x6 := (-1)) (x7 := b) (x8 := ((2 ^ a.toNat : Nat) : Int)) (H := H) (locs := locs) (hS := hS) (hI := by refine ⟨?_, by omega, by omega, fun _ => ⟨rfl, rfl⟩, by omega⟩; rw [← hJ.1, hz, fb]; first | rw [if_pos (ctG_t (show htA (kF F A (A 17)) ((z : Nat) : Int) ((A 17) 3).toNat = false by assumption) (hs9.mp (by omega)))] | rw [if_neg (by rw [ctG_f1 (show htA (kF F A (A 17)) ((z : Nat) : Int) ((A 17) 3).toNat = true by assumption)]; exact Bool.false_ne_true)] | rw [if_neg (by rw [ctG_f2 (Bool.eq_false_iff.mpr (fun h => absurd (hs9.mpr h) (by omega)))]; exact Bool.false_ne_true)]) (hl := lv_sub hl [0, 1, 2, 3, 4] rfl) (hP := hP) (hD := hD) (hn_ := by omega)
            · skip
              exfalso; omega
    · skip
      have c_2 := of_decide_eq_false c_2
      refine z_iconst hx hb dX7_plant_19 ?_
      refine z_top (show (-1) = rPlant (kF F A (A 17)) a b from ?_) ?_
      · unfold rPlant; (repeat' split) <;> first | rfl | omega | (simp_all; done)
      have ef : fPl a b = false := decide_eq_false (by omega)
      have hP9 : va_P G vwCl (moW Y g9 af (bif fPl a b then va_up (va_up (va_up F 26 (-1)) 27 b) 28 ((2 ^ a.toNat : Nat) : Int) else F) (A) (tr)) H := by rw [ef]; exact hP.sub [0, 1, 2, 3, 4, 5, 6, 7, 8, 9, 10] rfl
      exact W.iret (v := iZ (rPlant (kF F A (A 17)) a b)) hx hb hr (fun t9 ht9 _ => ⟨rfl, by rw [ht9]; exact hP9, hS.F ht9⟩) hS.2.2 dX7_plant_20
