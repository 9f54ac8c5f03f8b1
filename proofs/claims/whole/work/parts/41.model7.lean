set_option maxHeartbeats 4000000 in
set_option maxRecDepth 100000 in
theorem c_X7_prunes (l : Launch) (G : va_G) (Y : Nat → ClassId) (g9 : Nat) (af : Nat → Nat) (F : Nat → Int) (A : Kom) (tr : Int64) (hV : mV F A (A 17)) (hno : F 26 < 0) (ro : 0 ≤ F 22 ∧ F 22 ≤ 10) (a b : Int) (r : zR a ∧ zR b) : Met l yX7_prunes wsX7_prunes ({ frames := 2, cells := 0, slots := 0, locals := 45 }) (mP G Y [.ref g9, .int (iZ a), .int (iZ b)] (moW Y g9 af F A tr)) (mQ G (moW Y g9 af F A tr) (some (.int (iZ (rPrunes (kF F A (A 17)) a b)))) (moW Y g9 af (bif fPrunes (kF F A (A 17)) a b then opF F else F) (bif fPrunes (kF F A (A 17)) a b then opA F A (va_up (A 17) (9 + a).toNat (max ((A 17) (9 + a.toNat) - b) 0)) else A) (tr))) 0 0 (fun q => q ∈ List.map Prod.fst (moW Y g9 af F A tr)) := by
  refine Met.ofW (cc := cX7_prunes) (maxL := 3) (ret := (some .int)) (by decide) rfl ?_
  intro p e s m args below meth c s₁ B hml hv
  obtain ⟨rfl, hK, hP, hD0⟩ := hv
  have hx := B.exec
  have hb := B.bytes
  have hr := B.returns
  have hts := atoms_spec (ws := wsX7_prunes) B.pre
  have hown : s.vm.findClass RX7 = some m.cls := findClass_of_methodNamed B.named
  have hlocks := B.notSynchronized
  have hFX7 : ∀ w ∈ wsX70, w ∈ wsX7_prunes := by decide +kernel
  have kf29 := (hts (.fieldLink RX7 29 "ShadeVotesModel" "now" "[I") (by decide +kernel))
  have hD := va_D_self hD0
  have hS : va_S (fun q => q ∈ List.map Prod.fst (moW Y g9 af F A tr)) s.heap s.heap [] := va_S.rf
  obtain ⟨H, hHe⟩ : ∃ H, H = s.heap := ⟨_, rfl⟩
  rw [← hHe] at hP
  replace hS : va_S (fun q => q ∈ List.map Prod.fst (moW Y g9 af F A tr)) s.heap H [] := by rw [hHe]; exact hS
  have hl := lv_entry ([.ref g9, .int (iZ a), .int (iZ b)]) (n := 3) (Nat.le_of_ble_eq_true rfl)
  rw [lg_entry_eq]
  generalize (lg_sl ([.ref g9, .int (iZ a), .int (iZ b)]) ++ List.replicate (3 - (lg_sl ([.ref g9, .int (iZ a), .int (iZ b)])).length) Slot.unset).toArray = ls at hl ⊢
  replace hl : lv_has ls 3 [(0, .ref g9), (1, .int (iZ a)), (2, .int (iZ b))] := hl
  obtain ⟨locs, hLe⟩ : ∃ locs : List Loc, locs = [] := ⟨_, rfl⟩
  rw [← hLe] at hS ⊢
  have hW0 : ∀ {Q : State → Prop} {g : JFrame}, W p l e ({ frames := 2, cells := 0, slots := 0, locals := 45 }) s m [.ref g9, .int (iZ a), .int (iZ b)].toArray below meth c H locs 0 0 Q g → W p l e ({ frames := 2, cells := 0, slots := 0, locals := 45 }) s m [.ref g9, .int (iZ a), .int (iZ b)].toArray below meth c s.heap locs 0 0 Q g := fun h => by rw [← hHe]; exact h
  refine hW0 ?_
  clear hW0 hHe hLe
  have v3 := hV.2.2.1
  have v7 := hV.2.2.2.2.2.2.1
  have v8 := hV.2.2.2.2.2.2.2.1
  have v5 := hV.2.1
  have v4 := hV.2.2.2.1
  have k00 : kF F A (A 17) 0 0 = F 13 := rfl
  have k01 : kF F A (A 17) 0 1 = F 14 := rfl
  have k02 : kF F A (A 17) 0 2 = A 17 3 := rfl
  have k03 : kF F A (A 17) 0 3 = F 15 := rfl
  have k04 : kF F A (A 17) 0 4 = A 17 1 := rfl
  have k05 : kF F A (A 17) 0 5 = A 17 0 := rfl
  have k06 : kF F A (A 17) 0 6 = A 17 2 := rfl
  have kpr : kF F A (A 17) 0 0 * kF F A (A 17) 0 1 = F 13 * F 14 := rfl
  have hW := hV.1
  refine lv_aload_n hx hb dX7_prunes_0 rfl (lv_at hl 0 rfl) ?_
  refine lv_iload_n hx hb dX7_prunes_1 rfl (lv_at hl 1 rfl) ?_
  refine ro_V (As := [.int (iZ a)]) (rest := []) ⟨hx, hb, hml, hown, hts⟩ (c_X7_isTree l G Y g9 af F A tr a (by omega)) (cwV 1 hts gX7_prunes_X7_isTree rfl rfl rfl (by decide +kernel) ⟨Nat.le_of_ble_eq_true rfl, Nat.le_of_ble_eq_true rfl⟩) hK (hP.sub (ws' := moW Y g9 af F A tr) [0, 1, 2, 3, 4, 5, 6, 7, 8, 9, 10] rfl) 0 rfl rfl rfl hl.1 rfl (Nat.le_of_ble_eq_true rfl) dX7_prunes_2 ⟨Nat.zero_le _, Nat.zero_le _⟩ ?_
  refine z_ifb_eq (tgt := 18) hx hb dX7_prunes_5 (by decide) (fun c_1 => ?_) (fun c_1 => ?_)
  · skip
    have c_1 := of_decide_eq_false c_1
    refine z_iconst hx hb dX7_prunes_18 ?_
    refine z_top (show (-1) = rPrunes (kF F A (A 17)) a b from ?_) ?_
    · unfold rPrunes; rw [if_neg (by omega)]
    have ef : fPrunes (kF F A (A 17)) a b = false := decide_eq_false (by omega)
    have hP9 : va_P G vwCl (moW Y g9 af (bif fPrunes (kF F A (A 17)) a b then opF F else F) (bif fPrunes (kF F A (A 17)) a b then opA F A (va_up (A 17) (9 + a).toNat (max ((A 17) (9 + a.toNat) - b) 0)) else A) (tr)) H := by rw [ef]; exact hP.sub [0, 1, 2, 3, 4, 5, 6, 7, 8, 9, 10] rfl
    exact W.iret (v := iZ (rPrunes (kF F A (A 17)) a b)) hx hb hr (fun t9 ht9 _ => ⟨rfl, by rw [ht9]; exact hP9, hS.F ht9⟩) hS.2.2 dX7_prunes_19
  · skip
    have c_1 := of_decide_eq_true c_1
    refine lv_iload_n hx hb dX7_prunes_8 rfl (lv_at hl 2 rfl) ?_
    refine z_iconst hx hb dX7_prunes_9 ?_
    refine z_bipush hx hb dX7_prunes_10 (by decide) ?_
    refine ro_S (As := [.int (iZ b), .int (iZ 1), .int (iZ 20)]) (rest := []) ⟨hx, hb, hml, hown, hts⟩ (c_X7_in l G Y b 1 20 (by omega)) (cwS 3 hts gX7_prunes_X7_in rfl rfl rfl (by decide +kernel) ⟨Nat.le_of_ble_eq_true rfl, Nat.le_of_ble_eq_true rfl⟩) hK (hP.sub (ws' := []) [] rfl) rfl hl.1 rfl (Nat.le_of_ble_eq_true rfl) dX7_prunes_12 ⟨Nat.zero_le _, Nat.zero_le _⟩ ?_
    refine z_ifb_ne (tgt := 20) hx hb dX7_prunes_15 (by decide) (fun c_2 => ?_) (fun c_2 => ?_)
    · skip
      have c_2 := of_decide_eq_true c_2
      refine lv_aload_n hx hb dX7_prunes_20 rfl (lv_at hl 0 rfl) ?_
      have hP := hP.sub (ws' := [(g9, .inr (7, [.int (iZ (F 0)), .ref (af 1), .int (iZ (F 2)), .int (iZ (F 3)), .int (iZ (F 4)), .int (iZ (F 5)), .int (iZ (F 6)), .int (iZ (F 7)), .int (iZ (F 8)), .int (iZ (F 9)), .int (iZ (F 10)), .ref (af 11), .ref (af 12), .int (iZ (F 13)), .int (iZ (F 14)), .int (iZ (F 15)), .ref (af 16), .ref (af 17), .ref (af 18), .ref (af 19), .ref (af 20), .ref (af 21), .int (iZ (F 22)), .int (iZ (F 23)), .ref (af 24), .long tr, .int (iZ (F 26)), .int (iZ (F 27)), .int (iZ (F 28))])), (af 1, .inl (Y 0, 200, .inl (aI (A 1)))), (af 11, .inl (Y 0, 7, .inl (aI (A 11)))), (af 12, .inl (Y 0, 36, .inl (aI (A 12)))), (af 16, .inl (Y 0, 7, .inl (aI (A 16)))), (af 17, .inl (Y 0, 36, .inl (aI (A 17)))), (af 18, .inl (Y 0, 41, .inl (aI (A 18)))), (af 19, .inl (Y 0, 72, .inl (aI (A 19)))), (af 20, .inl (Y 1, 2, .inl (aI (A 20)))), (af 21, .inl (Y 0, 360, .inl (aI (A 21)))), (af 24, .inl (Y 0, 10, .inl (aI (A 24))))] ++ []) [0, 1, 2, 3, 4, 5, 6, 7, 8, 9, 10] rfl
      have hD := hD.sub (ws' := [(g9, .inr (7, [.int (iZ (F 0)), .ref (af 1), .int (iZ (F 2)), .int (iZ (F 3)), .int (iZ (F 4)), .int (iZ (F 5)), .int (iZ (F 6)), .int (iZ (F 7)), .int (iZ (F 8)), .int (iZ (F 9)), .int (iZ (F 10)), .ref (af 11), .ref (af 12), .int (iZ (F 13)), .int (iZ (F 14)), .int (iZ (F 15)), .ref (af 16), .ref (af 17), .ref (af 18), .ref (af 19), .ref (af 20), .ref (af 21), .int (iZ (F 22)), .int (iZ (F 23)), .ref (af 24), .long tr, .int (iZ (F 26)), .int (iZ (F 27)), .int (iZ (F 28))])), (af 1, .inl (Y 0, 200, .inl (aI (A 1)))), (af 11, .inl (Y 0, 7, .inl (aI (A 11)))), (af 12, .inl (Y 0, 36, .inl (aI (A 12)))), (af 16, .inl (Y 0, 7, .inl (aI (A 16)))), (af 17, .inl (Y 0, 36, .inl (aI (A 17)))), (af 18, .inl (Y 0, 41, .inl (aI (A 18)))), (af 19, .inl (Y 0, 72, .inl (aI (A 19)))), (af 20, .inl (Y 1, 2, .inl (aI (A 20)))), (af 21, .inl (Y 0, 360, .inl (aI (A 21)))), (af 24, .inl (Y 0, 10, .inl (aI (A 24))))] ++ []) [0, 1, 2, 3, 4, 5, 6, 7, 8, 9, 10] (by decide) rfl
      refine mu_V (As := []) (rest := []) (wc := [(g9, .inr (7, [.int (iZ (F 0)), .ref (af 1), .int (iZ (F 2)), .int (iZ (F 3)), .int (iZ (F 4)), .int (iZ (F 5)), .int (iZ (F 6)), .int (iZ (F 7)), .int (iZ (F 8)), .int (iZ (F 9)), .int (iZ (F 10)), .ref (af 11), .ref (af 12), .int (iZ (F 13)), .int (iZ (F 14)), .int (iZ (F 15)), .ref (af 16), .ref (af 17), .ref (af 18), .ref (af 19), .ref (af 20), .ref (af 21), .int (iZ (F 22)), .int (iZ (F 23)), .ref (af 24), .long tr, .int (iZ (F 26)), .int (iZ (F 27)), .int (iZ (F 28))])), (af 1, .inl (Y 0, 200, .inl (aI (A 1)))), (af 11, .inl (Y 0, 7, .inl (aI (A 11)))), (af 12, .inl (Y 0, 36, .inl (aI (A 12)))), (af 16, .inl (Y 0, 7, .inl (aI (A 16)))), (af 17, .inl (Y 0, 36, .inl (aI (A 17)))), (af 18, .inl (Y 0, 41, .inl (aI (A 18)))), (af 19, .inl (Y 0, 72, .inl (aI (A 19)))), (af 20, .inl (Y 1, 2, .inl (aI (A 20)))), (af 21, .inl (Y 0, 360, .inl (aI (A 21)))), (af 24, .inl (Y 0, 10, .inl (aI (A 24))))]) (wc' := moW Y g9 af (va_up F 22 (min (F 22 + 1) 10)) (va_up A 21 (ntA (A 21) (A 17) (F 22))) tr) (F := []) ⟨hx, hb, hml, hown, hts⟩ (c_X7_note l G Y g9 af F A tr (by omega)) (cwV 0 hts gX7_prunes_X7_note rfl rfl rfl (by decide +kernel) ⟨Nat.le_of_ble_eq_true rfl, Nat.le_of_ble_eq_true rfl⟩) hK hP hD hS 0 rfl rfl (Eq.refl [g9, af 1, af 11, af 12, af 16, af 17, af 18, af 19, af 20, af 21, af 24]) rfl hl.1 rfl (Nat.le_of_ble_eq_true rfl) dX7_prunes_21 ⟨Nat.zero_le _, Nat.zero_le _⟩ (fun H locs hP hD hS => ?_)
      show W _ _ _ _ _ _ _ _ _ _ _ _ _ _ _ (F0 _ _ _ [])
      replace hP : va_P G vwCl [(g9, .inr (7, [.int (iZ (F 0)), .ref (af 1), .int (iZ (F 2)), .int (iZ (F 3)), .int (iZ (F 4)), .int (iZ (F 5)), .int (iZ (F 6)), .int (iZ (F 7)), .int (iZ (F 8)), .int (iZ (F 9)), .int (iZ (F 10)), .ref (af 11), .ref (af 12), .int (iZ (F 13)), .int (iZ (F 14)), .int (iZ (F 15)), .ref (af 16), .ref (af 17), .ref (af 18), .ref (af 19), .ref (af 20), .ref (af 21), .int (iZ (min (F 22 + 1) 10)), .int (iZ (F 23)), .ref (af 24), .long tr, .int (iZ (F 26)), .int (iZ (F 27)), .int (iZ (F 28))])), (af 1, .inl (Y 0, 200, .inl (aI (A 1)))), (af 11, .inl (Y 0, 7, .inl (aI (A 11)))), (af 12, .inl (Y 0, 36, .inl (aI (A 12)))), (af 16, .inl (Y 0, 7, .inl (aI (A 16)))), (af 17, .inl (Y 0, 36, .inl (aI (A 17)))), (af 18, .inl (Y 0, 41, .inl (aI (A 18)))), (af 19, .inl (Y 0, 72, .inl (aI (A 19)))), (af 20, .inl (Y 1, 2, .inl (aI (A 20)))), (af 21, .inl (Y 0, 360, .inl (aI (ntA (A 21) (A 17) (F 22))))), (af 24, .inl (Y 0, 10, .inl (aI (A 24))))] H := hP
      replace hD : va_D _ [(g9, .inr (7, [.int (iZ (F 0)), .ref (af 1), .int (iZ (F 2)), .int (iZ (F 3)), .int (iZ (F 4)), .int (iZ (F 5)), .int (iZ (F 6)), .int (iZ (F 7)), .int (iZ (F 8)), .int (iZ (F 9)), .int (iZ (F 10)), .ref (af 11), .ref (af 12), .int (iZ (F 13)), .int (iZ (F 14)), .int (iZ (F 15)), .ref (af 16), .ref (af 17), .ref (af 18), .ref (af 19), .ref (af 20), .ref (af 21), .int (iZ (min (F 22 + 1) 10)), .int (iZ (F 23)), .ref (af 24), .long tr, .int (iZ (F 26)), .int (iZ (F 27)), .int (iZ (F 28))])), (af 1, .inl (Y 0, 200, .inl (aI (A 1)))), (af 11, .inl (Y 0, 7, .inl (aI (A 11)))), (af 12, .inl (Y 0, 36, .inl (aI (A 12)))), (af 16, .inl (Y 0, 7, .inl (aI (A 16)))), (af 17, .inl (Y 0, 36, .inl (aI (A 17)))), (af 18, .inl (Y 0, 41, .inl (aI (A 18)))), (af 19, .inl (Y 0, 72, .inl (aI (A 19)))), (af 20, .inl (Y 1, 2, .inl (aI (A 20)))), (af 21, .inl (Y 0, 360, .inl (aI (ntA (A 21) (A 17) (F 22))))), (af 24, .inl (Y 0, 10, .inl (aI (A 24))))] := hD
      refine lv_aload_n hx hb dX7_prunes_24 rfl (lv_at hl 0 rfl) ?_
      refine va_get (D := G) (ci := 7) (v := .ref (af 17)) (C := RX7) (T := TX7) (N := 29) hx hb hts hFX7 hown hK.1 hP 0 rfl rfl 17 (by decide) kf29 (fun _ h9 => h9) rfl dX7_prunes_25 ?_
      refine z_bipush hx hb dX7_prunes_28 (by decide) ?_
      refine lv_iload_n hx hb dX7_prunes_30 rfl (lv_at hl 1 rfl) ?_
      refine z_iadd hx hb dX7_prunes_31 ?_
      refine lv_aload_n hx hb dX7_prunes_32 rfl (lv_at hl 0 rfl) ?_
      refine va_get (D := G) (ci := 7) (v := .ref (af 17)) (C := RX7) (T := TX7) (N := 29) hx hb hts hFX7 hown hK.1 hP 0 rfl rfl 17 (by decide) kf29 (fun _ h9 => h9) rfl dX7_prunes_33 ?_
      refine z_bipush hx hb dX7_prunes_36 (by decide) ?_
      refine lv_iload_n hx hb dX7_prunes_38 rfl (lv_at hl 1 rfl) ?_
      refine z_iadd hx hb dX7_prunes_39 ?_
      refine z_iald hx hb hK.1 hP 5 0 rfl rfl (((9 + a)).toNat) (by omega) (by decide) dX7_prunes_40 ?_
      have eO3 : ((9 + a)).toNat = 9 + a.toNat := by omega
      have hbeO3 := hV.2.2.2.2.1 a.toNat (by omega)
      refine z_top (show (A 17) (((9 + a)).toNat) = (A 17) (9 + a.toNat) by rw [eO3]) ?_
      refine lv_iload_n hx hb dX7_prunes_41 rfl (lv_at hl 2 rfl) ?_
      refine z_icmp_le (tgt := 59) hx hb dX7_prunes_42 (by decide) (by omega) (fun c_4 => ?_) (fun c_4 => ?_)
      · skip
        refine z_iconst hx hb dX7_prunes_59 ?_
        refine z_top (show 0 = max ((A 17) (9 + a.toNat) - b) 0 by omega) ?_
        refine z_iast hx hb hK.1 hP hD hS 5 0 rfl rfl (((9 + a)).toNat) (by omega) (by decide) dX7_prunes_60 (fun H locs hP hD hS => ?_)
        replace hP : va_P G vwCl [(g9, .inr (7, [.int (iZ (F 0)), .ref (af 1), .int (iZ (F 2)), .int (iZ (F 3)), .int (iZ (F 4)), .int (iZ (F 5)), .int (iZ (F 6)), .int (iZ (F 7)), .int (iZ (F 8)), .int (iZ (F 9)), .int (iZ (F 10)), .ref (af 11), .ref (af 12), .int (iZ (F 13)), .int (iZ (F 14)), .int (iZ (F 15)), .ref (af 16), .ref (af 17), .ref (af 18), .ref (af 19), .ref (af 20), .ref (af 21), .int (iZ (min (F 22 + 1) 10)), .int (iZ (F 23)), .ref (af 24), .long tr, .int (iZ (F 26)), .int (iZ (F 27)), .int (iZ (F 28))])), (af 1, .inl (Y 0, 200, .inl (aI (A 1)))), (af 11, .inl (Y 0, 7, .inl (aI (A 11)))), (af 12, .inl (Y 0, 36, .inl (aI (A 12)))), (af 16, .inl (Y 0, 7, .inl (aI (A 16)))), (af 17, .inl (Y 0, 36, .inl (aI (va_up (A 17) (((9 + a)).toNat) (max ((A 17) (9 + a.toNat) - b) 0))))), (af 18, .inl (Y 0, 41, .inl (aI (A 18)))), (af 19, .inl (Y 0, 72, .inl (aI (A 19)))), (af 20, .inl (Y 1, 2, .inl (aI (A 20)))), (af 21, .inl (Y 0, 360, .inl (aI (ntA (A 21) (A 17) (F 22))))), (af 24, .inl (Y 0, 10, .inl (aI (A 24))))] H := hP
        replace hD : va_D _ [(g9, .inr (7, [.int (iZ (F 0)), .ref (af 1), .int (iZ (F 2)), .int (iZ (F 3)), .int (iZ (F 4)), .int (iZ (F 5)), .int (iZ (F 6)), .int (iZ (F 7)), .int (iZ (F 8)), .int (iZ (F 9)), .int (iZ (F 10)), .ref (af 11), .ref (af 12), .int (iZ (F 13)), .int (iZ (F 14)), .int (iZ (F 15)), .ref (af 16), .ref (af 17), .ref (af 18), .ref (af 19), .ref (af 20), .ref (af 21), .int (iZ (min (F 22 + 1) 10)), .int (iZ (F 23)), .ref (af 24), .long tr, .int (iZ (F 26)), .int (iZ (F 27)), .int (iZ (F 28))])), (af 1, .inl (Y 0, 200, .inl (aI (A 1)))), (af 11, .inl (Y 0, 7, .inl (aI (A 11)))), (af 12, .inl (Y 0, 36, .inl (aI (A 12)))), (af 16, .inl (Y 0, 7, .inl (aI (A 16)))), (af 17, .inl (Y 0, 36, .inl (aI (va_up (A 17) (((9 + a)).toNat) (max ((A 17) (9 + a.toNat) - b) 0))))), (af 18, .inl (Y 0, 41, .inl (aI (A 18)))), (af 19, .inl (Y 0, 72, .inl (aI (A 19)))), (af 20, .inl (Y 1, 2, .inl (aI (A 20)))), (af 21, .inl (Y 0, 360, .inl (aI (ntA (A 21) (A 17) (F 22))))), (af 24, .inl (Y 0, 10, .inl (aI (A 24))))] := hD
        refine lv_aload_n hx hb dX7_prunes_61 rfl (lv_at hl 0 rfl) ?_
        refine va_get (D := G) (ci := 7) (v := .ref (af 17)) (C := RX7) (T := TX7) (N := 29) hx hb hts hFX7 hown hK.1 hP 0 rfl rfl 17 (by decide) kf29 (fun _ h9 => h9) rfl dX7_prunes_62 ?_
        refine z_bipush hx hb dX7_prunes_65 (by decide) ?_
        refine lv_iload_n hx hb dX7_prunes_67 rfl (lv_at hl 1 rfl) ?_
        refine z_iadd hx hb dX7_prunes_68 ?_
        refine z_iald hx hb hK.1 hP 5 0 rfl rfl (((9 + a)).toNat) (by omega) (by decide) dX7_prunes_69 ?_
        refine z_top (up_eq _ _ _) ?_
        refine z_top (show max ((A 17) (9 + a.toNat) - b) 0 = rPrunes (kF F A (A 17)) a b from ?_) ?_
        · unfold rPrunes; rw [if_pos (by omega), kF_2 (t := a.toNat) (by omega)]
        have ef : fPrunes (kF F A (A 17)) a b = true := decide_eq_true (by omega)
        have hP9 : va_P G vwCl (moW Y g9 af (bif fPrunes (kF F A (A 17)) a b then opF F else F) (bif fPrunes (kF F A (A 17)) a b then opA F A (va_up (A 17) (9 + a).toNat (max ((A 17) (9 + a.toNat) - b) 0)) else A) (tr)) H := by rw [ef]; exact hP.sub [0, 1, 2, 3, 4, 5, 6, 7, 8, 9, 10] rfl
        exact W.iret (v := iZ (rPrunes (kF F A (A 17)) a b)) hx hb hr (fun t9 ht9 _ => ⟨rfl, by rw [ht9]; exact hP9, hS.F ht9⟩) hS.2.2 dX7_prunes_70
      · skip
        refine lv_aload_n hx hb dX7_prunes_45 rfl (lv_at hl 0 rfl) ?_
        refine va_get (D := G) (ci := 7) (v := .ref (af 17)) (C := RX7) (T := TX7) (N := 29) hx hb hts hFX7 hown hK.1 hP 0 rfl rfl 17 (by decide) kf29 (fun _ h9 => h9) rfl dX7_prunes_46 ?_
        refine z_bipush hx hb dX7_prunes_49 (by decide) ?_
        refine lv_iload_n hx hb dX7_prunes_51 rfl (lv_at hl 1 rfl) ?_
        refine z_iadd hx hb dX7_prunes_52 ?_
        refine z_iald hx hb hK.1 hP 5 0 rfl rfl (((9 + a)).toNat) (by omega) (by decide) dX7_prunes_53 ?_
        have eO5 : ((9 + a)).toNat = 9 + a.toNat := by omega
        have hbeO5 := hV.2.2.2.2.1 a.toNat (by omega)
        refine z_top (show (A 17) (((9 + a)).toNat) = (A 17) (9 + a.toNat) by rw [eO5]) ?_
        refine lv_iload_n hx hb dX7_prunes_54 rfl (lv_at hl 2 rfl) ?_
        refine z_isub hx hb dX7_prunes_55 ?_
        refine lv_goto (tgt := 60) hx hb dX7_prunes_56 (by decide) ?_
        refine z_top (show ((A 17) (9 + a.toNat) - b) = max ((A 17) (9 + a.toNat) - b) 0 by omega) ?_
        refine z_iast hx hb hK.1 hP hD hS 5 0 rfl rfl (((9 + a)).toNat) (by omega) (by decide) dX7_prunes_60 (fun H locs hP hD hS => ?_)
        replace hP : va_P G vwCl [(g9, .inr (7, [.int (iZ (F 0)), .ref (af 1), .int (iZ (F 2)), .int (iZ (F 3)), .int (iZ (F 4)), .int (iZ (F 5)), .int (iZ (F 6)), .int (iZ (F 7)), .int (iZ (F 8)), .int (iZ (F 9)), .int (iZ (F 10)), .ref (af 11), .ref (af 12), .int (iZ (F 13)), .int (iZ (F 14)), .int (iZ (F 15)), .ref (af 16), .ref (af 17), .ref (af 18), .ref (af 19), .ref (af 20), .ref (af 21), .int (iZ (min (F 22 + 1) 10)), .int (iZ (F 23)), .ref (af 24), .long tr, .int (iZ (F 26)), .int (iZ (F 27)), .int (iZ (F 28))])), (af 1, .inl (Y 0, 200, .inl (aI (A 1)))), (af 11, .inl (Y 0, 7, .inl (aI (A 11)))), (af 12, .inl (Y 0, 36, .inl (aI (A 12)))), (af 16, .inl (Y 0, 7, .inl (aI (A 16)))), (af 17, .inl (Y 0, 36, .inl (aI (va_up (A 17) (((9 + a)).toNat) (max ((A 17) (9 + a.toNat) - b) 0))))), (af 18, .inl (Y 0, 41, .inl (aI (A 18)))), (af 19, .inl (Y 0, 72, .inl (aI (A 19)))), (af 20, .inl (Y 1, 2, .inl (aI (A 20)))), (af 21, .inl (Y 0, 360, .inl (aI (ntA (A 21) (A 17) (F 22))))), (af 24, .inl (Y 0, 10, .inl (aI (A 24))))] H := hP
        replace hD : va_D _ [(g9, .inr (7, [.int (iZ (F 0)), .ref (af 1), .int (iZ (F 2)), .int (iZ (F 3)), .int (iZ (F 4)), .int (iZ (F 5)), .int (iZ (F 6)), .int (iZ (F 7)), .int (iZ (F 8)), .int (iZ (F 9)), .int (iZ (F 10)), .ref (af 11), .ref (af 12), .int (iZ (F 13)), .int (iZ (F 14)), .int (iZ (F 15)), .ref (af 16), .ref (af 17), .ref (af 18), .ref (af 19), .ref (af 20), .ref (af 21), .int (iZ (min (F 22 + 1) 10)), .int (iZ (F 23)), .ref (af 24), .long tr, .int (iZ (F 26)), .int (iZ (F 27)), .int (iZ (F 28))])), (af 1, .inl (Y 0, 200, .inl (aI (A 1)))), (af 11, .inl (Y 0, 7, .inl (aI (A 11)))), (af 12, .inl (Y 0, 36, .inl (aI (A 12)))), (af 16, .inl (Y 0, 7, .inl (aI (A 16)))), (af 17, .inl (Y 0, 36, .inl (aI (va_up (A 17) (((9 + a)).toNat) (max ((A 17) (9 + a.toNat) - b) 0))))), (af 18, .inl (Y 0, 41, .inl (aI (A 18)))), (af 19, .inl (Y 0, 72, .inl (aI (A 19)))), (af 20, .inl (Y 1, 2, .inl (aI (A 20)))), (af 21, .inl (Y 0, 360, .inl (aI (ntA (A 21) (A 17) (F 22))))), (af 24, .inl (Y 0, 10, .inl (aI (A 24))))] := hD
        refine lv_aload_n hx hb dX7_prunes_61 rfl (lv_at hl 0 rfl) ?_
        refine va_get (D := G) (ci := 7) (v := .ref (af 17)) (C := RX7) (T := TX7) (N := 29) hx hb hts hFX7 hown hK.1 hP 0 rfl rfl 17 (by decide) kf29 (fun _ h9 => h9) rfl dX7_prunes_62 ?_
        refine z_bipush hx hb dX7_prunes_65 (by decide) ?_
        refine lv_iload_n hx hb dX7_prunes_67 rfl (lv_at hl 1 rfl) ?_
        refine z_iadd hx hb dX7_prunes_68 ?_
        refine z_iald hx hb hK.1 hP 5 0 rfl rfl (((9 + a)).toNat) (by omega) (by decide) dX7_prunes_69 ?_
        refine z_top (up_eq _ _ _) ?_
        refine z_top (show max ((A 17) (9 + a.toNat) - b) 0 = rPrunes (kF F A (A 17)) a b from ?_) ?_
        · unfold rPrunes; rw [if_pos (by omega), kF_2 (t := a.toNat) (by omega)]
        have ef : fPrunes (kF F A (A 17)) a b = true := decide_eq_true (by omega)
        have hP9 : va_P G vwCl (moW Y g9 af (bif fPrunes (kF F A (A 17)) a b then opF F else F) (bif fPrunes (kF F A (A 17)) a b then opA F A (va_up (A 17) (9 + a).toNat (max ((A 17) (9 + a.toNat) - b) 0)) else A) (tr)) H := by rw [ef]; exact hP.sub [0, 1, 2, 3, 4, 5, 6, 7, 8, 9, 10] rfl
        exact W.iret (v := iZ (rPrunes (kF F A (A 17)) a b)) hx hb hr (fun t9 ht9 _ => ⟨rfl, by rw [ht9]; exact hP9, hS.F ht9⟩) hS.2.2 dX7_prunes_70
    · skip
      have c_2 := of_decide_eq_false c_2
      refine z_iconst hx hb dX7_prunes_18 ?_
      refine z_top (show (-1) = rPrunes (kF F A (A 17)) a b from ?_) ?_
      · unfold rPrunes; rw [if_neg (by omega)]
      have ef : fPrunes (kF F A (A 17)) a b = false := decide_eq_false (by omega)
      have hP9 : va_P G vwCl (moW Y g9 af (bif fPrunes (kF F A (A 17)) a b then opF F else F) (bif fPrunes (kF F A (A 17)) a b then opA F A (va_up (A 17) (9 + a).toNat (max ((A 17) (9 + a.toNat) - b) 0)) else A) (tr)) H := by rw [ef]; exact hP.sub [0, 1, 2, 3, 4, 5, 6, 7, 8, 9, 10] rfl
      exact W.iret (v := iZ (rPrunes (kF F A (A 17)) a b)) hx hb hr (fun t9 ht9 _ => ⟨rfl, by rw [ht9]; exact hP9, hS.F ht9⟩) hS.2.2 dX7_prunes_19

set_option maxHeartbeats 4000000 in
set_option maxRecDepth 100000 in
theorem c_X7_grows (l : Launch) (G : va_G) (Y : Nat → ClassId) (g9 : Nat) (af : Nat → Nat) (F : Nat → Int) (A : Kom) (tr : Int64) (hV : mV F A (A 17)) (hno : F 26 < 0) (ro : 0 ≤ F 22 ∧ F 22 ≤ 10)  : Met l yX7_grows wsX7_grows ({ frames := 2, cells := 0, slots := 0, locals := 45 }) (mP G Y [.ref g9] (moW Y g9 af F A tr)) (mQ G (moW Y g9 af F A tr) (some (.int (iZ (rGrows (kF F A (A 17)))))) (moW Y g9 af (bif fGrows (kF F A (A 17)) then opF F else F) (bif fGrows (kF F A (A 17)) then opA F A (gwN (A 17) (A 17 3).toNat) else A) (tr))) 0 0 (fun q => q ∈ List.map Prod.fst (moW Y g9 af F A tr)) := by
  refine Met.ofW (cc := cX7_grows) (maxL := 2) (ret := (some .int)) (by decide) rfl ?_
  intro p e s m args below meth c s₁ B hml hv
  obtain ⟨rfl, hK, hP, hD0⟩ := hv
  have hx := B.exec
  have hb := B.bytes
  have hr := B.returns
  have hts := atoms_spec (ws := wsX7_grows) B.pre
  have hown : s.vm.findClass RX7 = some m.cls := findClass_of_methodNamed B.named
  have hlocks := B.notSynchronized
  have hFX7 : ∀ w ∈ wsX70, w ∈ wsX7_grows := by decide +kernel
  have kf29 := (hts (.fieldLink RX7 29 "ShadeVotesModel" "now" "[I") (by decide +kernel))
  have hD := va_D_self hD0
  have hS : va_S (fun q => q ∈ List.map Prod.fst (moW Y g9 af F A tr)) s.heap s.heap [] := va_S.rf
  obtain ⟨H, hHe⟩ : ∃ H, H = s.heap := ⟨_, rfl⟩
  rw [← hHe] at hP
  replace hS : va_S (fun q => q ∈ List.map Prod.fst (moW Y g9 af F A tr)) s.heap H [] := by rw [hHe]; exact hS
  have hl := lv_entry ([.ref g9]) (n := 2) (Nat.le_of_ble_eq_true rfl)
  rw [lg_entry_eq]
  generalize (lg_sl ([.ref g9]) ++ List.replicate (2 - (lg_sl ([.ref g9])).length) Slot.unset).toArray = ls at hl ⊢
  replace hl : lv_has ls 2 [(0, .ref g9)] := hl
  obtain ⟨locs, hLe⟩ : ∃ locs : List Loc, locs = [] := ⟨_, rfl⟩
  rw [← hLe] at hS ⊢
  have hW0 : ∀ {Q : State → Prop} {g : JFrame}, W p l e ({ frames := 2, cells := 0, slots := 0, locals := 45 }) s m [.ref g9].toArray below meth c H locs 0 0 Q g → W p l e ({ frames := 2, cells := 0, slots := 0, locals := 45 }) s m [.ref g9].toArray below meth c s.heap locs 0 0 Q g := fun h => by rw [← hHe]; exact h
  refine hW0 ?_
  clear hW0 hHe hLe
  have v3 := hV.2.2.1
  have v7 := hV.2.2.2.2.2.2.1
  have v8 := hV.2.2.2.2.2.2.2.1
  have v5 := hV.2.1
  have v4 := hV.2.2.2.1
  have k00 : kF F A (A 17) 0 0 = F 13 := rfl
  have k01 : kF F A (A 17) 0 1 = F 14 := rfl
  have k02 : kF F A (A 17) 0 2 = A 17 3 := rfl
  have k03 : kF F A (A 17) 0 3 = F 15 := rfl
  have k04 : kF F A (A 17) 0 4 = A 17 1 := rfl
  have k05 : kF F A (A 17) 0 5 = A 17 0 := rfl
  have k06 : kF F A (A 17) 0 6 = A 17 2 := rfl
  have kpr : kF F A (A 17) 0 0 * kF F A (A 17) 0 1 = F 13 * F 14 := rfl
  have hW := hV.1
  refine lv_aload_n hx hb dX7_grows_0 rfl (lv_at hl 0 rfl) ?_
  refine va_get (D := G) (ci := 7) (v := .ref (af 17)) (C := RX7) (T := TX7) (N := 29) hx hb hts hFX7 hown hK.1 hP 0 rfl rfl 17 (by decide) kf29 (fun _ h9 => h9) rfl dX7_grows_1 ?_
  refine z_iconst hx hb dX7_grows_4 ?_
  refine z_iald hx hb hK.1 hP 5 0 rfl rfl 0 (by omega) (by decide) dX7_grows_5 ?_
  refine z_sipush hx hb dX7_grows_6 (by decide) ?_
  refine z_icmp_ne (tgt := 15) hx hb dX7_grows_9 (by decide) (by omega) (fun c_1 => ?_) (fun c_1 => ?_)
  · skip
    refine lv_aload_n hx hb dX7_grows_15 rfl (lv_at hl 0 rfl) ?_
    have hP := hP.sub (ws' := [(g9, .inr (7, [.int (iZ (F 0)), .ref (af 1), .int (iZ (F 2)), .int (iZ (F 3)), .int (iZ (F 4)), .int (iZ (F 5)), .int (iZ (F 6)), .int (iZ (F 7)), .int (iZ (F 8)), .int (iZ (F 9)), .int (iZ (F 10)), .ref (af 11), .ref (af 12), .int (iZ (F 13)), .int (iZ (F 14)), .int (iZ (F 15)), .ref (af 16), .ref (af 17), .ref (af 18), .ref (af 19), .ref (af 20), .ref (af 21), .int (iZ (F 22)), .int (iZ (F 23)), .ref (af 24), .long tr, .int (iZ (F 26)), .int (iZ (F 27)), .int (iZ (F 28))])), (af 1, .inl (Y 0, 200, .inl (aI (A 1)))), (af 11, .inl (Y 0, 7, .inl (aI (A 11)))), (af 12, .inl (Y 0, 36, .inl (aI (A 12)))), (af 16, .inl (Y 0, 7, .inl (aI (A 16)))), (af 17, .inl (Y 0, 36, .inl (aI (A 17)))), (af 18, .inl (Y 0, 41, .inl (aI (A 18)))), (af 19, .inl (Y 0, 72, .inl (aI (A 19)))), (af 20, .inl (Y 1, 2, .inl (aI (A 20)))), (af 21, .inl (Y 0, 360, .inl (aI (A 21)))), (af 24, .inl (Y 0, 10, .inl (aI (A 24))))] ++ []) [0, 1, 2, 3, 4, 5, 6, 7, 8, 9, 10] rfl
    have hD := hD.sub (ws' := [(g9, .inr (7, [.int (iZ (F 0)), .ref (af 1), .int (iZ (F 2)), .int (iZ (F 3)), .int (iZ (F 4)), .int (iZ (F 5)), .int (iZ (F 6)), .int (iZ (F 7)), .int (iZ (F 8)), .int (iZ (F 9)), .int (iZ (F 10)), .ref (af 11), .ref (af 12), .int (iZ (F 13)), .int (iZ (F 14)), .int (iZ (F 15)), .ref (af 16), .ref (af 17), .ref (af 18), .ref (af 19), .ref (af 20), .ref (af 21), .int (iZ (F 22)), .int (iZ (F 23)), .ref (af 24), .long tr, .int (iZ (F 26)), .int (iZ (F 27)), .int (iZ (F 28))])), (af 1, .inl (Y 0, 200, .inl (aI (A 1)))), (af 11, .inl (Y 0, 7, .inl (aI (A 11)))), (af 12, .inl (Y 0, 36, .inl (aI (A 12)))), (af 16, .inl (Y 0, 7, .inl (aI (A 16)))), (af 17, .inl (Y 0, 36, .inl (aI (A 17)))), (af 18, .inl (Y 0, 41, .inl (aI (A 18)))), (af 19, .inl (Y 0, 72, .inl (aI (A 19)))), (af 20, .inl (Y 1, 2, .inl (aI (A 20)))), (af 21, .inl (Y 0, 360, .inl (aI (A 21)))), (af 24, .inl (Y 0, 10, .inl (aI (A 24))))] ++ []) [0, 1, 2, 3, 4, 5, 6, 7, 8, 9, 10] (by decide) rfl
    refine mu_V (As := []) (rest := []) (wc := [(g9, .inr (7, [.int (iZ (F 0)), .ref (af 1), .int (iZ (F 2)), .int (iZ (F 3)), .int (iZ (F 4)), .int (iZ (F 5)), .int (iZ (F 6)), .int (iZ (F 7)), .int (iZ (F 8)), .int (iZ (F 9)), .int (iZ (F 10)), .ref (af 11), .ref (af 12), .int (iZ (F 13)), .int (iZ (F 14)), .int (iZ (F 15)), .ref (af 16), .ref (af 17), .ref (af 18), .ref (af 19), .ref (af 20), .ref (af 21), .int (iZ (F 22)), .int (iZ (F 23)), .ref (af 24), .long tr, .int (iZ (F 26)), .int (iZ (F 27)), .int (iZ (F 28))])), (af 1, .inl (Y 0, 200, .inl (aI (A 1)))), (af 11, .inl (Y 0, 7, .inl (aI (A 11)))), (af 12, .inl (Y 0, 36, .inl (aI (A 12)))), (af 16, .inl (Y 0, 7, .inl (aI (A 16)))), (af 17, .inl (Y 0, 36, .inl (aI (A 17)))), (af 18, .inl (Y 0, 41, .inl (aI (A 18)))), (af 19, .inl (Y 0, 72, .inl (aI (A 19)))), (af 20, .inl (Y 1, 2, .inl (aI (A 20)))), (af 21, .inl (Y 0, 360, .inl (aI (A 21)))), (af 24, .inl (Y 0, 10, .inl (aI (A 24))))]) (wc' := moW Y g9 af (va_up F 22 (min (F 22 + 1) 10)) (va_up A 21 (ntA (A 21) (A 17) (F 22))) tr) (F := []) ⟨hx, hb, hml, hown, hts⟩ (c_X7_note l G Y g9 af F A tr (by omega)) (cwV 0 hts gX7_grows_X7_note rfl rfl rfl (by decide +kernel) ⟨Nat.le_of_ble_eq_true rfl, Nat.le_of_ble_eq_true rfl⟩) hK hP hD hS 0 rfl rfl (Eq.refl [g9, af 1, af 11, af 12, af 16, af 17, af 18, af 19, af 20, af 21, af 24]) rfl hl.1 rfl (Nat.le_of_ble_eq_true rfl) dX7_grows_16 ⟨Nat.zero_le _, Nat.zero_le _⟩ (fun H locs hP hD hS => ?_)
    show W _ _ _ _ _ _ _ _ _ _ _ _ _ _ _ (F0 _ _ _ [])
    replace hP : va_P G vwCl [(g9, .inr (7, [.int (iZ (F 0)), .ref (af 1), .int (iZ (F 2)), .int (iZ (F 3)), .int (iZ (F 4)), .int (iZ (F 5)), .int (iZ (F 6)), .int (iZ (F 7)), .int (iZ (F 8)), .int (iZ (F 9)), .int (iZ (F 10)), .ref (af 11), .ref (af 12), .int (iZ (F 13)), .int (iZ (F 14)), .int (iZ (F 15)), .ref (af 16), .ref (af 17), .ref (af 18), .ref (af 19), .ref (af 20), .ref (af 21), .int (iZ (min (F 22 + 1) 10)), .int (iZ (F 23)), .ref (af 24), .long tr, .int (iZ (F 26)), .int (iZ (F 27)), .int (iZ (F 28))])), (af 1, .inl (Y 0, 200, .inl (aI (A 1)))), (af 11, .inl (Y 0, 7, .inl (aI (A 11)))), (af 12, .inl (Y 0, 36, .inl (aI (A 12)))), (af 16, .inl (Y 0, 7, .inl (aI (A 16)))), (af 17, .inl (Y 0, 36, .inl (aI (A 17)))), (af 18, .inl (Y 0, 41, .inl (aI (A 18)))), (af 19, .inl (Y 0, 72, .inl (aI (A 19)))), (af 20, .inl (Y 1, 2, .inl (aI (A 20)))), (af 21, .inl (Y 0, 360, .inl (aI (ntA (A 21) (A 17) (F 22))))), (af 24, .inl (Y 0, 10, .inl (aI (A 24))))] H := hP
    replace hD : va_D _ [(g9, .inr (7, [.int (iZ (F 0)), .ref (af 1), .int (iZ (F 2)), .int (iZ (F 3)), .int (iZ (F 4)), .int (iZ (F 5)), .int (iZ (F 6)), .int (iZ (F 7)), .int (iZ (F 8)), .int (iZ (F 9)), .int (iZ (F 10)), .ref (af 11), .ref (af 12), .int (iZ (F 13)), .int (iZ (F 14)), .int (iZ (F 15)), .ref (af 16), .ref (af 17), .ref (af 18), .ref (af 19), .ref (af 20), .ref (af 21), .int (iZ (min (F 22 + 1) 10)), .int (iZ (F 23)), .ref (af 24), .long tr, .int (iZ (F 26)), .int (iZ (F 27)), .int (iZ (F 28))])), (af 1, .inl (Y 0, 200, .inl (aI (A 1)))), (af 11, .inl (Y 0, 7, .inl (aI (A 11)))), (af 12, .inl (Y 0, 36, .inl (aI (A 12)))), (af 16, .inl (Y 0, 7, .inl (aI (A 16)))), (af 17, .inl (Y 0, 36, .inl (aI (A 17)))), (af 18, .inl (Y 0, 41, .inl (aI (A 18)))), (af 19, .inl (Y 0, 72, .inl (aI (A 19)))), (af 20, .inl (Y 1, 2, .inl (aI (A 20)))), (af 21, .inl (Y 0, 360, .inl (aI (ntA (A 21) (A 17) (F 22))))), (af 24, .inl (Y 0, 10, .inl (aI (A 24))))] := hD
    refine lv_aload_n hx hb dX7_grows_19 rfl (lv_at hl 0 rfl) ?_
    refine va_get (D := G) (ci := 7) (v := .ref (af 17)) (C := RX7) (T := TX7) (N := 29) hx hb hts hFX7 hown hK.1 hP 0 rfl rfl 17 (by decide) kf29 (fun _ h9 => h9) rfl dX7_grows_20 ?_
    refine z_iconst hx hb dX7_grows_23 ?_
    refine lv_dup2_11 hx hb dX7_grows_24 rfl rfl ?_
    refine z_iald hx hb hK.1 hP 5 0 rfl rfl 0 (by omega) (by decide) dX7_grows_25 ?_
    refine z_iconst hx hb dX7_grows_26 ?_
    refine z_iadd hx hb dX7_grows_27 ?_
    refine z_iast hx hb hK.1 hP hD hS 5 0 rfl rfl 0 (by omega) (by decide) dX7_grows_28 (fun H locs hP hD hS => ?_)
    replace hP : va_P G vwCl [(g9, .inr (7, [.int (iZ (F 0)), .ref (af 1), .int (iZ (F 2)), .int (iZ (F 3)), .int (iZ (F 4)), .int (iZ (F 5)), .int (iZ (F 6)), .int (iZ (F 7)), .int (iZ (F 8)), .int (iZ (F 9)), .int (iZ (F 10)), .ref (af 11), .ref (af 12), .int (iZ (F 13)), .int (iZ (F 14)), .int (iZ (F 15)), .ref (af 16), .ref (af 17), .ref (af 18), .ref (af 19), .ref (af 20), .ref (af 21), .int (iZ (min (F 22 + 1) 10)), .int (iZ (F 23)), .ref (af 24), .long tr, .int (iZ (F 26)), .int (iZ (F 27)), .int (iZ (F 28))])), (af 1, .inl (Y 0, 200, .inl (aI (A 1)))), (af 11, .inl (Y 0, 7, .inl (aI (A 11)))), (af 12, .inl (Y 0, 36, .inl (aI (A 12)))), (af 16, .inl (Y 0, 7, .inl (aI (A 16)))), (af 17, .inl (Y 0, 36, .inl (aI (va_up (A 17) 0 ((A 17) 0 + 1))))), (af 18, .inl (Y 0, 41, .inl (aI (A 18)))), (af 19, .inl (Y 0, 72, .inl (aI (A 19)))), (af 20, .inl (Y 1, 2, .inl (aI (A 20)))), (af 21, .inl (Y 0, 360, .inl (aI (ntA (A 21) (A 17) (F 22))))), (af 24, .inl (Y 0, 10, .inl (aI (A 24))))] H := hP
    replace hD : va_D _ [(g9, .inr (7, [.int (iZ (F 0)), .ref (af 1), .int (iZ (F 2)), .int (iZ (F 3)), .int (iZ (F 4)), .int (iZ (F 5)), .int (iZ (F 6)), .int (iZ (F 7)), .int (iZ (F 8)), .int (iZ (F 9)), .int (iZ (F 10)), .ref (af 11), .ref (af 12), .int (iZ (F 13)), .int (iZ (F 14)), .int (iZ (F 15)), .ref (af 16), .ref (af 17), .ref (af 18), .ref (af 19), .ref (af 20), .ref (af 21), .int (iZ (min (F 22 + 1) 10)), .int (iZ (F 23)), .ref (af 24), .long tr, .int (iZ (F 26)), .int (iZ (F 27)), .int (iZ (F 28))])), (af 1, .inl (Y 0, 200, .inl (aI (A 1)))), (af 11, .inl (Y 0, 7, .inl (aI (A 11)))), (af 12, .inl (Y 0, 36, .inl (aI (A 12)))), (af 16, .inl (Y 0, 7, .inl (aI (A 16)))), (af 17, .inl (Y 0, 36, .inl (aI (va_up (A 17) 0 ((A 17) 0 + 1))))), (af 18, .inl (Y 0, 41, .inl (aI (A 18)))), (af 19, .inl (Y 0, 72, .inl (aI (A 19)))), (af 20, .inl (Y 1, 2, .inl (aI (A 20)))), (af 21, .inl (Y 0, 360, .inl (aI (ntA (A 21) (A 17) (F 22))))), (af 24, .inl (Y 0, 10, .inl (aI (A 24))))] := hD
    refine z_iconst hx hb dX7_grows_29 ?_
    refine lv_istore_n (lv' := [(1, .int (iZ 0)), (0, .ref g9)]) hx hb dX7_grows_30 rfl hl (by decide) rfl (fun ls hl => ?_)
    obtain ⟨t, fh, hI, hl1, hP1, hD1⟩ : ∃ (t : Nat) (fh : Nat → Int), (fh = gwN (A 17) t ∧ (t : Int) ≤ A 17 3) ∧ lv_has ls 2 [(1, .int (iZ ((t : Nat) : Int))), (0, .ref g9)] ∧ va_P G vwCl [(g9, .inr (7, [.int (iZ (F 0)), .ref (af 1), .int (iZ (F 2)), .int (iZ (F 3)), .int (iZ (F 4)), .int (iZ (F 5)), .int (iZ (F 6)), .int (iZ (F 7)), .int (iZ (F 8)), .int (iZ (F 9)), .int (iZ (F 10)), .ref (af 11), .ref (af 12), .int (iZ (F 13)), .int (iZ (F 14)), .int (iZ (F 15)), .ref (af 16), .ref (af 17), .ref (af 18), .ref (af 19), .ref (af 20), .ref (af 21), .int (iZ (min (F 22 + 1) 10)), .int (iZ (F 23)), .ref (af 24), .long tr, .int (iZ (F 26)), .int (iZ (F 27)), .int (iZ (F 28))])), (af 1, .inl (Y 0, 200, .inl (aI (A 1)))), (af 11, .inl (Y 0, 7, .inl (aI (A 11)))), (af 12, .inl (Y 0, 36, .inl (aI (A 12)))), (af 16, .inl (Y 0, 7, .inl (aI (A 16)))), (af 17, .inl (Y 0, 36, .inl (aI fh))), (af 18, .inl (Y 0, 41, .inl (aI (A 18)))), (af 19, .inl (Y 0, 72, .inl (aI (A 19)))), (af 20, .inl (Y 1, 2, .inl (aI (A 20)))), (af 21, .inl (Y 0, 360, .inl (aI (ntA (A 21) (A 17) (F 22))))), (af 24, .inl (Y 0, 10, .inl (aI (A 24))))] H ∧ va_D (fun q => q ∈ List.map Prod.fst (moW Y g9 af F A tr)) [(g9, .inr (7, [.int (iZ (F 0)), .ref (af 1), .int (iZ (F 2)), .int (iZ (F 3)), .int (iZ (F 4)), .int (iZ (F 5)), .int (iZ (F 6)), .int (iZ (F 7)), .int (iZ (F 8)), .int (iZ (F 9)), .int (iZ (F 10)), .ref (af 11), .ref (af 12), .int (iZ (F 13)), .int (iZ (F 14)), .int (iZ (F 15)), .ref (af 16), .ref (af 17), .ref (af 18), .ref (af 19), .ref (af 20), .ref (af 21), .int (iZ (min (F 22 + 1) 10)), .int (iZ (F 23)), .ref (af 24), .long tr, .int (iZ (F 26)), .int (iZ (F 27)), .int (iZ (F 28))])), (af 1, .inl (Y 0, 200, .inl (aI (A 1)))), (af 11, .inl (Y 0, 7, .inl (aI (A 11)))), (af 12, .inl (Y 0, 36, .inl (aI (A 12)))), (af 16, .inl (Y 0, 7, .inl (aI (A 16)))), (af 17, .inl (Y 0, 36, .inl (aI fh))), (af 18, .inl (Y 0, 41, .inl (aI (A 18)))), (af 19, .inl (Y 0, 72, .inl (aI (A 19)))), (af 20, .inl (Y 1, 2, .inl (aI (A 20)))), (af 21, .inl (Y 0, 360, .inl (aI (ntA (A 21) (A 17) (F 22))))), (af 24, .inl (Y 0, 10, .inl (aI (A 24))))] := ⟨0, va_up (A 17) 0 ((A 17) 0 + 1), by exact ⟨rfl, by omega⟩, lv_sub hl [0, 1] rfl, hP, hD⟩
    clear hl hP hD
    have hl := hl1
    clear hl1
    have hP := hP1
    have hD := hD1
    clear hP1 hD1
    obtain ⟨n_, hn_⟩ : ∃ n_ : Nat, (A 17 3).toNat - t < n_ := ⟨_, Nat.lt_succ_self _⟩
    induction n_ generalizing t fh ls H locs with
    | zero => exact absurd hn_ (Nat.not_lt_zero _)
    | succ n_ ih2 =>
      have hb0 := hV.2.2.2.2.1 t
      have g3 : fh 3 = A 17 3 := by rw [hI.1]; exact gwN_hi _ _ _ (by omega) (by omega)
      have gg9 : fh (9 + t) = A 17 (9 + t) := by rw [hI.1]; exact gwN_hi _ _ _ (by omega) (by omega)
      have g24 : fh (24 + t) = A 17 (24 + t) := by rw [hI.1]; exact gwN_hi _ _ _ (by omega) (by omega)
      refine lv_iload_n hx hb dX7_grows_31 rfl (lv_at hl 0 rfl) ?_
      refine lv_aload_n hx hb dX7_grows_32 rfl (lv_at hl 1 rfl) ?_
      refine va_get (D := G) (ci := 7) (v := .ref (af 17)) (C := RX7) (T := TX7) (N := 29) hx hb hts hFX7 hown hK.1 hP 0 rfl rfl 17 (by decide) kf29 (fun _ h9 => h9) rfl dX7_grows_33 ?_
      refine z_iconst hx hb dX7_grows_36 ?_
      refine z_iald hx hb hK.1 hP 5 0 rfl rfl 3 (by omega) (by decide) dX7_grows_37 ?_
      refine z_icmp_ge (tgt := 90) hx hb dX7_grows_38 (by decide) (by omega) (fun c_3 => ?_) (fun c_3 => ?_)
      · skip
        refine lv_aload_n hx hb dX7_grows_90 rfl (lv_at hl 1 rfl) ?_
        refine va_get (D := G) (ci := 7) (v := .ref (af 17)) (C := RX7) (T := TX7) (N := 29) hx hb hts hFX7 hown hK.1 hP 0 rfl rfl 17 (by decide) kf29 (fun _ h9 => h9) rfl dX7_grows_91 ?_
        refine z_iconst hx hb dX7_grows_94 ?_
        refine z_iald hx hb hK.1 hP 5 0 rfl rfl 0 (by omega) (by decide) dX7_grows_95 ?_
        refine z_top (show fh 0 = rGrows (kF F A (A 17)) from ?_) ?_
        · rw [hI.1, gwN_0]; unfold rGrows; rw [if_pos (by omega)]; rfl
        have ef : fGrows (kF F A (A 17)) = true := decide_eq_true (by omega)
        have hfh : fh = gwN (A 17) (A 17 3).toNat := by rw [hI.1, show t = (A 17 3).toNat by omega]
        have hP9 : va_P G vwCl (moW Y g9 af (bif fGrows (kF F A (A 17)) then opF F else F) (bif fGrows (kF F A (A 17)) then opA F A (gwN (A 17) (A 17 3).toNat) else A) (tr)) H := by rw [ef, ← hfh]; exact hP.sub [0, 1, 2, 3, 4, 5, 6, 7, 8, 9, 10] rfl
        exact W.iret (v := iZ (rGrows (kF F A (A 17)))) hx hb hr (fun t9 ht9 _ => ⟨rfl, by rw [ht9]; exact hP9, hS.F ht9⟩) hS.2.2 dX7_grows_96
      · skip
        refine lv_aload_n hx hb dX7_grows_41 rfl (lv_at hl 1 rfl) ?_
        refine va_get (D := G) (ci := 7) (v := .ref (af 17)) (C := RX7) (T := TX7) (N := 29) hx hb hts hFX7 hown hK.1 hP 0 rfl rfl 17 (by decide) kf29 (fun _ h9 => h9) rfl dX7_grows_42 ?_
        refine z_bipush hx hb dX7_grows_45 (by decide) ?_
        refine lv_iload_n hx hb dX7_grows_47 rfl (lv_at hl 0 rfl) ?_
        refine z_iadd hx hb dX7_grows_48 ?_
        refine lv_dup2_11 hx hb dX7_grows_49 rfl rfl ?_
        refine z_iald hx hb hK.1 hP 5 0 rfl rfl (9 + t) (by omega) (by decide) dX7_grows_50 ?_
        have hb1 := hb0 (by omega)
        refine lv_aload_n hx hb dX7_grows_51 rfl (lv_at hl 1 rfl) ?_
        refine va_get (D := G) (ci := 7) (v := .ref (af 17)) (C := RX7) (T := TX7) (N := 29) hx hb hts hFX7 hown hK.1 hP 0 rfl rfl 17 (by decide) kf29 (fun _ h9 => h9) rfl dX7_grows_52 ?_
        refine z_bipush hx hb dX7_grows_55 (by decide) ?_
        refine lv_iload_n hx hb dX7_grows_57 rfl (lv_at hl 0 rfl) ?_
        refine z_iadd hx hb dX7_grows_58 ?_
        refine z_iald hx hb hK.1 hP 5 0 rfl rfl (24 + t) (by omega) (by decide) dX7_grows_59 ?_
        refine z_if_ne (tgt := 81) hx hb dX7_grows_60 (by decide) (by omega) (fun c_4 => ?_) (fun c_4 => ?_)
        · skip
          refine z_iconst hx hb dX7_grows_81 ?_
          refine z_iadd hx hb dX7_grows_82 ?_
          refine z_iast hx hb hK.1 hP hD hS 5 0 rfl rfl (9 + t) (by omega) (by decide) dX7_grows_83 (fun H locs hP hD hS => ?_)
          replace hP : va_P G vwCl [(g9, .inr (7, [.int (iZ (F 0)), .ref (af 1), .int (iZ (F 2)), .int (iZ (F 3)), .int (iZ (F 4)), .int (iZ (F 5)), .int (iZ (F 6)), .int (iZ (F 7)), .int (iZ (F 8)), .int (iZ (F 9)), .int (iZ (F 10)), .ref (af 11), .ref (af 12), .int (iZ (F 13)), .int (iZ (F 14)), .int (iZ (F 15)), .ref (af 16), .ref (af 17), .ref (af 18), .ref (af 19), .ref (af 20), .ref (af 21), .int (iZ (min (F 22 + 1) 10)), .int (iZ (F 23)), .ref (af 24), .long tr, .int (iZ (F 26)), .int (iZ (F 27)), .int (iZ (F 28))])), (af 1, .inl (Y 0, 200, .inl (aI (A 1)))), (af 11, .inl (Y 0, 7, .inl (aI (A 11)))), (af 12, .inl (Y 0, 36, .inl (aI (A 12)))), (af 16, .inl (Y 0, 7, .inl (aI (A 16)))), (af 17, .inl (Y 0, 36, .inl (aI (va_up fh (9 + t) (fh (9 + t) + 0))))), (af 18, .inl (Y 0, 41, .inl (aI (A 18)))), (af 19, .inl (Y 0, 72, .inl (aI (A 19)))), (af 20, .inl (Y 1, 2, .inl (aI (A 20)))), (af 21, .inl (Y 0, 360, .inl (aI (ntA (A 21) (A 17) (F 22))))), (af 24, .inl (Y 0, 10, .inl (aI (A 24))))] H := hP
          replace hD : va_D _ [(g9, .inr (7, [.int (iZ (F 0)), .ref (af 1), .int (iZ (F 2)), .int (iZ (F 3)), .int (iZ (F 4)), .int (iZ (F 5)), .int (iZ (F 6)), .int (iZ (F 7)), .int (iZ (F 8)), .int (iZ (F 9)), .int (iZ (F 10)), .ref (af 11), .ref (af 12), .int (iZ (F 13)), .int (iZ (F 14)), .int (iZ (F 15)), .ref (af 16), .ref (af 17), .ref (af 18), .ref (af 19), .ref (af 20), .ref (af 21), .int (iZ (min (F 22 + 1) 10)), .int (iZ (F 23)), .ref (af 24), .long tr, .int (iZ (F 26)), .int (iZ (F 27)), .int (iZ (F 28))])), (af 1, .inl (Y 0, 200, .inl (aI (A 1)))), (af 11, .inl (Y 0, 7, .inl (aI (A 11)))), (af 12, .inl (Y 0, 36, .inl (aI (A 12)))), (af 16, .inl (Y 0, 7, .inl (aI (A 16)))), (af 17, .inl (Y 0, 36, .inl (aI (va_up fh (9 + t) (fh (9 + t) + 0))))), (af 18, .inl (Y 0, 41, .inl (aI (A 18)))), (af 19, .inl (Y 0, 72, .inl (aI (A 19)))), (af 20, .inl (Y 1, 2, .inl (aI (A 20)))), (af 21, .inl (Y 0, 360, .inl (aI (ntA (A 21) (A 17) (F 22))))), (af 24, .inl (Y 0, 10, .inl (aI (A 24))))] := hD
          refine lv_iinc (v := iZ ((t + 1 : Nat) : Int)) (lv' := [(1, .int (iZ ((t + 1 : Nat) : Int))), (0, .ref g9)]) hx hb dX7_grows_84 hl (k := 0) rfl (iZ_inc _) (by decide) rfl (fun ls hl => ?_)
          refine lv_goto (tgt := 31) hx hb dX7_grows_87 (by decide) ?_
          exact ih2 (ls := ls) (t := t + 1) (fh := va_up fh (9 + t) (fh (9 + t) + 0)) (H := H) (locs := locs) (hS := hS) (hI := by exact ⟨by rw [gwN, ← hI.1, ← gg9, ← g24]; first | rw [if_pos (by omega)] | rw [if_neg (by omega)], by omega⟩) (hl := lv_sub hl [0, 1] rfl) (hP := hP) (hD := hD) (hn_ := by omega)
        · skip
          refine lv_aload_n hx hb dX7_grows_63 rfl (lv_at hl 1 rfl) ?_
          refine va_get (D := G) (ci := 7) (v := .ref (af 17)) (C := RX7) (T := TX7) (N := 29) hx hb hts hFX7 hown hK.1 hP 0 rfl rfl 17 (by decide) kf29 (fun _ h9 => h9) rfl dX7_grows_64 ?_
          refine z_bipush hx hb dX7_grows_67 (by decide) ?_
          refine lv_iload_n hx hb dX7_grows_69 rfl (lv_at hl 0 rfl) ?_
          refine z_iadd hx hb dX7_grows_70 ?_
          refine z_iald hx hb hK.1 hP 5 0 rfl rfl (9 + t) (by omega) (by decide) dX7_grows_71 ?_
          refine z_bipush hx hb dX7_grows_72 (by decide) ?_
          refine z_icmp_ge (tgt := 81) hx hb dX7_grows_74 (by decide) (by omega) (fun c_5 => ?_) (fun c_5 => ?_)
          · skip
            refine z_iconst hx hb dX7_grows_81 ?_
            refine z_iadd hx hb dX7_grows_82 ?_
            refine z_iast hx hb hK.1 hP hD hS 5 0 rfl rfl (9 + t) (by omega) (by decide) dX7_grows_83 (fun H locs hP hD hS => ?_)
            replace hP : va_P G vwCl [(g9, .inr (7, [.int (iZ (F 0)), .ref (af 1), .int (iZ (F 2)), .int (iZ (F 3)), .int (iZ (F 4)), .int (iZ (F 5)), .int (iZ (F 6)), .int (iZ (F 7)), .int (iZ (F 8)), .int (iZ (F 9)), .int (iZ (F 10)), .ref (af 11), .ref (af 12), .int (iZ (F 13)), .int (iZ (F 14)), .int (iZ (F 15)), .ref (af 16), .ref (af 17), .ref (af 18), .ref (af 19), .ref (af 20), .ref (af 21), .int (iZ (min (F 22 + 1) 10)), .int (iZ (F 23)), .ref (af 24), .long tr, .int (iZ (F 26)), .int (iZ (F 27)), .int (iZ (F 28))])), (af 1, .inl (Y 0, 200, .inl (aI (A 1)))), (af 11, .inl (Y 0, 7, .inl (aI (A 11)))), (af 12, .inl (Y 0, 36, .inl (aI (A 12)))), (af 16, .inl (Y 0, 7, .inl (aI (A 16)))), (af 17, .inl (Y 0, 36, .inl (aI (va_up fh (9 + t) (fh (9 + t) + 0))))), (af 18, .inl (Y 0, 41, .inl (aI (A 18)))), (af 19, .inl (Y 0, 72, .inl (aI (A 19)))), (af 20, .inl (Y 1, 2, .inl (aI (A 20)))), (af 21, .inl (Y 0, 360, .inl (aI (ntA (A 21) (A 17) (F 22))))), (af 24, .inl (Y 0, 10, .inl (aI (A 24))))] H := hP
            replace hD : va_D _ [(g9, .inr (7, [.int (iZ (F 0)), .ref (af 1), .int (iZ (F 2)), .int (iZ (F 3)), .int (iZ (F 4)), .int (iZ (F 5)), .int (iZ (F 6)), .int (iZ (F 7)), .int (iZ (F 8)), .int (iZ (F 9)), .int (iZ (F 10)), .ref (af 11), .ref (af 12), .int (iZ (F 13)), .int (iZ (F 14)), .int (iZ (F 15)), .ref (af 16), .ref (af 17), .ref (af 18), .ref (af 19), .ref (af 20), .ref (af 21), .int (iZ (min (F 22 + 1) 10)), .int (iZ (F 23)), .ref (af 24), .long tr, .int (iZ (F 26)), .int (iZ (F 27)), .int (iZ (F 28))])), (af 1, .inl (Y 0, 200, .inl (aI (A 1)))), (af 11, .inl (Y 0, 7, .inl (aI (A 11)))), (af 12, .inl (Y 0, 36, .inl (aI (A 12)))), (af 16, .inl (Y 0, 7, .inl (aI (A 16)))), (af 17, .inl (Y 0, 36, .inl (aI (va_up fh (9 + t) (fh (9 + t) + 0))))), (af 18, .inl (Y 0, 41, .inl (aI (A 18)))), (af 19, .inl (Y 0, 72, .inl (aI (A 19)))), (af 20, .inl (Y 1, 2, .inl (aI (A 20)))), (af 21, .inl (Y 0, 360, .inl (aI (ntA (A 21) (A 17) (F 22))))), (af 24, .inl (Y 0, 10, .inl (aI (A 24))))] := hD
            refine lv_iinc (v := iZ ((t + 1 : Nat) : Int)) (lv' := [(1, .int (iZ ((t + 1 : Nat) : Int))), (0, .ref g9)]) hx hb dX7_grows_84 hl (k := 0) rfl (iZ_inc _) (by decide) rfl (fun ls hl => ?_)
            refine lv_goto (tgt := 31) hx hb dX7_grows_87 (by decide) ?_
            exact ih2 (ls := ls) (t := t + 1) (fh := va_up fh (9 + t) (fh (9 + t) + 0)) (H := H) (locs := locs) (hS := hS) (hI := by exact ⟨by rw [gwN, ← hI.1, ← gg9, ← g24]; first | rw [if_pos (by omega)] | rw [if_neg (by omega)], by omega⟩) (hl := lv_sub hl [0, 1] rfl) (hP := hP) (hD := hD) (hn_ := by omega)
          · skip
            refine z_iconst hx hb dX7_grows_77 ?_
            refine lv_goto (tgt := 82) hx hb dX7_grows_78 (by decide) ?_
            refine z_iadd hx hb dX7_grows_82 ?_
            refine z_iast hx hb hK.1 hP hD hS 5 0 rfl rfl (9 + t) (by omega) (by decide) dX7_grows_83 (fun H locs hP hD hS => ?_)
            replace hP : va_P G vwCl [(g9, .inr (7, [.int (iZ (F 0)), .ref (af 1), .int (iZ (F 2)), .int (iZ (F 3)), .int (iZ (F 4)), .int (iZ (F 5)), .int (iZ (F 6)), .int (iZ (F 7)), .int (iZ (F 8)), .int (iZ (F 9)), .int (iZ (F 10)), .ref (af 11), .ref (af 12), .int (iZ (F 13)), .int (iZ (F 14)), .int (iZ (F 15)), .ref (af 16), .ref (af 17), .ref (af 18), .ref (af 19), .ref (af 20), .ref (af 21), .int (iZ (min (F 22 + 1) 10)), .int (iZ (F 23)), .ref (af 24), .long tr, .int (iZ (F 26)), .int (iZ (F 27)), .int (iZ (F 28))])), (af 1, .inl (Y 0, 200, .inl (aI (A 1)))), (af 11, .inl (Y 0, 7, .inl (aI (A 11)))), (af 12, .inl (Y 0, 36, .inl (aI (A 12)))), (af 16, .inl (Y 0, 7, .inl (aI (A 16)))), (af 17, .inl (Y 0, 36, .inl (aI (va_up fh (9 + t) (fh (9 + t) + 1))))), (af 18, .inl (Y 0, 41, .inl (aI (A 18)))), (af 19, .inl (Y 0, 72, .inl (aI (A 19)))), (af 20, .inl (Y 1, 2, .inl (aI (A 20)))), (af 21, .inl (Y 0, 360, .inl (aI (ntA (A 21) (A 17) (F 22))))), (af 24, .inl (Y 0, 10, .inl (aI (A 24))))] H := hP
            replace hD : va_D _ [(g9, .inr (7, [.int (iZ (F 0)), .ref (af 1), .int (iZ (F 2)), .int (iZ (F 3)), .int (iZ (F 4)), .int (iZ (F 5)), .int (iZ (F 6)), .int (iZ (F 7)), .int (iZ (F 8)), .int (iZ (F 9)), .int (iZ (F 10)), .ref (af 11), .ref (af 12), .int (iZ (F 13)), .int (iZ (F 14)), .int (iZ (F 15)), .ref (af 16), .ref (af 17), .ref (af 18), .ref (af 19), .ref (af 20), .ref (af 21), .int (iZ (min (F 22 + 1) 10)), .int (iZ (F 23)), .ref (af 24), .long tr, .int (iZ (F 26)), .int (iZ (F 27)), .int (iZ (F 28))])), (af 1, .inl (Y 0, 200, .inl (aI (A 1)))), (af 11, .inl (Y 0, 7, .inl (aI (A 11)))), (af 12, .inl (Y 0, 36, .inl (aI (A 12)))), (af 16, .inl (Y 0, 7, .inl (aI (A 16)))), (af 17, .inl (Y 0, 36, .inl (aI (va_up fh (9 + t) (fh (9 + t) + 1))))), (af 18, .inl (Y 0, 41, .inl (aI (A 18)))), (af 19, .inl (Y 0, 72, .inl (aI (A 19)))), (af 20, .inl (Y 1, 2, .inl (aI (A 20)))), (af 21, .inl (Y 0, 360, .inl (aI (ntA (A 21) (A 17) (F 22))))), (af 24, .inl (Y 0, 10, .inl (aI (A 24))))] := hD
            refine lv_iinc (v := iZ ((t + 1 : Nat) : Int)) (lv' := [(1, .int (iZ ((t + 1 : Nat) : Int))), (0, .ref g9)]) hx hb dX7_grows_84 hl (k := 0) rfl (iZ_inc _) (by decide) rfl (fun ls hl => ?_)
            refine lv_goto (tgt := 31) hx hb dX7_grows_87 (by decide) ?_
            exact ih2 (ls := ls) (t := t + 1) (fh := va_up fh (9 + t) (fh (9 + t) + 1)) (H := H) (locs := locs) (hS := hS) (hI := by exact ⟨by rw [gwN, ← hI.1, ← gg9, ← g24]; first | rw [if_pos (by omega)] | rw [if_neg (by omega)], by omega⟩) (hl := lv_sub hl [0, 1] rfl) (hP := hP) (hD := hD) (hn_ := by omega)
  · skip
    refine z_bipush hx hb dX7_grows_12 (by decide) ?_
    refine z_top (show (-2) = rGrows (kF F A (A 17)) from ?_) ?_
    · unfold rGrows; rw [if_neg (by omega)]
    have ef : fGrows (kF F A (A 17)) = false := decide_eq_false (by omega)
    have hP9 : va_P G vwCl (moW Y g9 af (bif fGrows (kF F A (A 17)) then opF F else F) (bif fGrows (kF F A (A 17)) then opA F A (gwN (A 17) (A 17 3).toNat) else A) (tr)) H := by rw [ef]; exact hP.sub [0, 1, 2, 3, 4, 5, 6, 7, 8, 9, 10] rfl
    exact W.iret (v := iZ (rGrows (kF F A (A 17)))) hx hb hr (fun t9 ht9 _ => ⟨rfl, by rw [ht9]; exact hP9, hS.F ht9⟩) hS.2.2 dX7_grows_14

set_option maxHeartbeats 4000000 in
set_option maxRecDepth 100000 in
theorem c_X7_plants (l : Launch) (G : va_G) (Y : Nat → ClassId) (g9 : Nat) (af : Nat → Nat) (F : Nat → Int) (A : Kom) (tr : Int64) (hV : mV F A (A 17)) (hno : F 26 < 0) (ro : 0 ≤ F 22 ∧ F 22 ≤ 10) (a b : Int) (r : zR a ∧ zR b) : Met l yX7_plants wsX7_plants ({ frames := 2, cells := 0, slots := 0, locals := 45 }) (mP G Y [.ref g9, .int (iZ a), .int (iZ b)] (moW Y g9 af F A tr)) (mQ G (moW Y g9 af F A tr) (some (.int (iZ (rPlants (kF F A (A 17)) a b)))) (moW Y g9 af (bif fPlants (kF F A (A 17)) a b then opF F else F) (bif fPlants (kF F A (A 17)) a b then opA F A (plA (A 17) a b) else A) (tr))) 0 0 (fun q => q ∈ List.map Prod.fst (moW Y g9 af F A tr)) := by
  refine Met.ofW (cc := cX7_plants) (maxL := 4) (ret := (some .int)) (by decide) rfl ?_
  intro p e s m args below meth c s₁ B hml hv
  obtain ⟨rfl, hK, hP, hD0⟩ := hv
  have hx := B.exec
  have hb := B.bytes
  have hr := B.returns
  have hts := atoms_spec (ws := wsX7_plants) B.pre
  have hown : s.vm.findClass RX7 = some m.cls := findClass_of_methodNamed B.named
  have hlocks := B.notSynchronized
  have hFX7 : ∀ w ∈ wsX70, w ∈ wsX7_plants := by decide +kernel
  have kf29 := (hts (.fieldLink RX7 29 "ShadeVotesModel" "now" "[I") (by decide +kernel))
  have hD := va_D_self hD0
  have hS : va_S (fun q => q ∈ List.map Prod.fst (moW Y g9 af F A tr)) s.heap s.heap [] := va_S.rf
  obtain ⟨H, hHe⟩ : ∃ H, H = s.heap := ⟨_, rfl⟩
  rw [← hHe] at hP
  replace hS : va_S (fun q => q ∈ List.map Prod.fst (moW Y g9 af F A tr)) s.heap H [] := by rw [hHe]; exact hS
  have hl := lv_entry ([.ref g9, .int (iZ a), .int (iZ b)]) (n := 4) (Nat.le_of_ble_eq_true rfl)
  rw [lg_entry_eq]
  generalize (lg_sl ([.ref g9, .int (iZ a), .int (iZ b)]) ++ List.replicate (4 - (lg_sl ([.ref g9, .int (iZ a), .int (iZ b)])).length) Slot.unset).toArray = ls at hl ⊢
  replace hl : lv_has ls 4 [(0, .ref g9), (1, .int (iZ a)), (2, .int (iZ b))] := hl
  obtain ⟨locs, hLe⟩ : ∃ locs : List Loc, locs = [] := ⟨_, rfl⟩
  rw [← hLe] at hS ⊢
  have hW0 : ∀ {Q : State → Prop} {g : JFrame}, W p l e ({ frames := 2, cells := 0, slots := 0, locals := 45 }) s m [.ref g9, .int (iZ a), .int (iZ b)].toArray below meth c H locs 0 0 Q g → W p l e ({ frames := 2, cells := 0, slots := 0, locals := 45 }) s m [.ref g9, .int (iZ a), .int (iZ b)].toArray below meth c s.heap locs 0 0 Q g := fun h => by rw [← hHe]; exact h
  refine hW0 ?_
  clear hW0 hHe hLe
  have v3 := hV.2.2.1
  have v7 := hV.2.2.2.2.2.2.1
  have v8 := hV.2.2.2.2.2.2.2.1
  have v5 := hV.2.1
  have v4 := hV.2.2.2.1
  have k00 : kF F A (A 17) 0 0 = F 13 := rfl
  have k01 : kF F A (A 17) 0 1 = F 14 := rfl
  have k02 : kF F A (A 17) 0 2 = A 17 3 := rfl
  have k03 : kF F A (A 17) 0 3 = F 15 := rfl
  have k04 : kF F A (A 17) 0 4 = A 17 1 := rfl
  have k05 : kF F A (A 17) 0 5 = A 17 0 := rfl
  have k06 : kF F A (A 17) 0 6 = A 17 2 := rfl
  have kpr : kF F A (A 17) 0 0 * kF F A (A 17) 0 1 = F 13 * F 14 := rfl
  have hW := hV.1
  refine lv_aload_n hx hb dX7_plants_0 rfl (lv_at hl 0 rfl) ?_
  refine lv_iload_n hx hb dX7_plants_1 rfl (lv_at hl 1 rfl) ?_
  refine ro_V (As := [.int (iZ a)]) (rest := []) ⟨hx, hb, hml, hown, hts⟩ (c_X7_isCell l G Y g9 af F A tr a (by omega)) (cwV 1 hts gX7_plants_X7_isCell rfl rfl rfl (by decide +kernel) ⟨Nat.le_of_ble_eq_true rfl, Nat.le_of_ble_eq_true rfl⟩) hK (hP.sub (ws' := moW Y g9 af F A tr) [0, 1, 2, 3, 4, 5, 6, 7, 8, 9, 10] rfl) 0 rfl rfl rfl hl.1 rfl (Nat.le_of_ble_eq_true rfl) dX7_plants_2 ⟨Nat.zero_le _, Nat.zero_le _⟩ ?_
  refine z_ifb_eq (tgt := 18) hx hb dX7_plants_5 (by decide) (fun c_1 => ?_) (fun c_1 => ?_)
  · skip
    have c_1 := of_decide_eq_false c_1
    refine z_iconst hx hb dX7_plants_18 ?_
    refine z_top (show (-1) = rPlants (kF F A (A 17)) a b from ?_) ?_
    · unfold rPlants; simp only [k02]; rw [if_neg (by omega)]
    have ef : fPlants (kF F A (A 17)) a b = false := decide_eq_false (by rintro ⟨h1, -⟩; omega)
    have hP9 : va_P G vwCl (moW Y g9 af (bif fPlants (kF F A (A 17)) a b then opF F else F) (bif fPlants (kF F A (A 17)) a b then opA F A (plA (A 17) a b) else A) (tr)) H := by rw [ef]; exact hP.sub [0, 1, 2, 3, 4, 5, 6, 7, 8, 9, 10] rfl
    exact W.iret (v := iZ (rPlants (kF F A (A 17)) a b)) hx hb hr (fun t9 ht9 _ => ⟨rfl, by rw [ht9]; exact hP9, hS.F ht9⟩) hS.2.2 dX7_plants_19
  · skip
    have c_1 := of_decide_eq_true c_1
    refine lv_iload_n hx hb dX7_plants_8 rfl (lv_at hl 2 rfl) ?_
    refine z_iconst hx hb dX7_plants_9 ?_
    refine z_bipush hx hb dX7_plants_10 (by decide) ?_
    refine ro_S (As := [.int (iZ b), .int (iZ 0), .int (iZ 7)]) (rest := []) ⟨hx, hb, hml, hown, hts⟩ (c_X7_in l G Y b 0 7 (by omega)) (cwS 3 hts gX7_plants_X7_in rfl rfl rfl (by decide +kernel) ⟨Nat.le_of_ble_eq_true rfl, Nat.le_of_ble_eq_true rfl⟩) hK (hP.sub (ws' := []) [] rfl) rfl hl.1 rfl (Nat.le_of_ble_eq_true rfl) dX7_plants_12 ⟨Nat.zero_le _, Nat.zero_le _⟩ ?_
    refine z_ifb_ne (tgt := 20) hx hb dX7_plants_15 (by decide) (fun c_2 => ?_) (fun c_2 => ?_)
    · skip
      have c_2 := of_decide_eq_true c_2
      refine lv_aload_n hx hb dX7_plants_20 rfl (lv_at hl 0 rfl) ?_
      refine lv_iload_n hx hb dX7_plants_21 rfl (lv_at hl 1 rfl) ?_
      refine ro_V (As := [.int (iZ a)]) (rest := []) ⟨hx, hb, hml, hown, hts⟩ (c_X7_isTaken l G Y g9 af F A tr hV a (by omega)) (cwV 1 hts gX7_plants_X7_isTaken rfl rfl rfl (by decide +kernel) ⟨Nat.le_of_ble_eq_true rfl, Nat.le_of_ble_eq_true rfl⟩) hK (hP.sub (ws' := moW Y g9 af F A tr) [0, 1, 2, 3, 4, 5, 6, 7, 8, 9, 10] rfl) 0 rfl rfl rfl hl.1 rfl (Nat.le_of_ble_eq_true rfl) dX7_plants_22 ⟨Nat.zero_le _, Nat.zero_le _⟩ ?_
      refine z_ifb_eq (tgt := 31) hx hb dX7_plants_25 (by decide) (fun c_3 => ?_) (fun c_3 => ?_)
      · skip
        refine lv_aload_n hx hb dX7_plants_31 rfl (lv_at hl 0 rfl) ?_
        refine va_get (D := G) (ci := 7) (v := .ref (af 17)) (C := RX7) (T := TX7) (N := 29) hx hb hts hFX7 hown hK.1 hP 0 rfl rfl 17 (by decide) kf29 (fun _ h9 => h9) rfl dX7_plants_32 ?_
        refine z_iconst hx hb dX7_plants_35 ?_
        refine z_iald hx hb hK.1 hP 5 0 rfl rfl 3 (by omega) (by decide) dX7_plants_36 ?_
        refine z_iconst hx hb dX7_plants_37 ?_
        refine z_icmp_ne (tgt := 44) hx hb dX7_plants_38 (by decide) (by omega) (fun c_4 => ?_) (fun c_4 => ?_)
        · skip
          refine lv_aload_n hx hb dX7_plants_44 rfl (lv_at hl 0 rfl) ?_
          have hP := hP.sub (ws' := [(g9, .inr (7, [.int (iZ (F 0)), .ref (af 1), .int (iZ (F 2)), .int (iZ (F 3)), .int (iZ (F 4)), .int (iZ (F 5)), .int (iZ (F 6)), .int (iZ (F 7)), .int (iZ (F 8)), .int (iZ (F 9)), .int (iZ (F 10)), .ref (af 11), .ref (af 12), .int (iZ (F 13)), .int (iZ (F 14)), .int (iZ (F 15)), .ref (af 16), .ref (af 17), .ref (af 18), .ref (af 19), .ref (af 20), .ref (af 21), .int (iZ (F 22)), .int (iZ (F 23)), .ref (af 24), .long tr, .int (iZ (F 26)), .int (iZ (F 27)), .int (iZ (F 28))])), (af 1, .inl (Y 0, 200, .inl (aI (A 1)))), (af 11, .inl (Y 0, 7, .inl (aI (A 11)))), (af 12, .inl (Y 0, 36, .inl (aI (A 12)))), (af 16, .inl (Y 0, 7, .inl (aI (A 16)))), (af 17, .inl (Y 0, 36, .inl (aI (A 17)))), (af 18, .inl (Y 0, 41, .inl (aI (A 18)))), (af 19, .inl (Y 0, 72, .inl (aI (A 19)))), (af 20, .inl (Y 1, 2, .inl (aI (A 20)))), (af 21, .inl (Y 0, 360, .inl (aI (A 21)))), (af 24, .inl (Y 0, 10, .inl (aI (A 24))))] ++ []) [0, 1, 2, 3, 4, 5, 6, 7, 8, 9, 10] rfl
          have hD := hD.sub (ws' := [(g9, .inr (7, [.int (iZ (F 0)), .ref (af 1), .int (iZ (F 2)), .int (iZ (F 3)), .int (iZ (F 4)), .int (iZ (F 5)), .int (iZ (F 6)), .int (iZ (F 7)), .int (iZ (F 8)), .int (iZ (F 9)), .int (iZ (F 10)), .ref (af 11), .ref (af 12), .int (iZ (F 13)), .int (iZ (F 14)), .int (iZ (F 15)), .ref (af 16), .ref (af 17), .ref (af 18), .ref (af 19), .ref (af 20), .ref (af 21), .int (iZ (F 22)), .int (iZ (F 23)), .ref (af 24), .long tr, .int (iZ (F 26)), .int (iZ (F 27)), .int (iZ (F 28))])), (af 1, .inl (Y 0, 200, .inl (aI (A 1)))), (af 11, .inl (Y 0, 7, .inl (aI (A 11)))), (af 12, .inl (Y 0, 36, .inl (aI (A 12)))), (af 16, .inl (Y 0, 7, .inl (aI (A 16)))), (af 17, .inl (Y 0, 36, .inl (aI (A 17)))), (af 18, .inl (Y 0, 41, .inl (aI (A 18)))), (af 19, .inl (Y 0, 72, .inl (aI (A 19)))), (af 20, .inl (Y 1, 2, .inl (aI (A 20)))), (af 21, .inl (Y 0, 360, .inl (aI (A 21)))), (af 24, .inl (Y 0, 10, .inl (aI (A 24))))] ++ []) [0, 1, 2, 3, 4, 5, 6, 7, 8, 9, 10] (by decide) rfl
          refine mu_V (As := []) (rest := []) (wc := [(g9, .inr (7, [.int (iZ (F 0)), .ref (af 1), .int (iZ (F 2)), .int (iZ (F 3)), .int (iZ (F 4)), .int (iZ (F 5)), .int (iZ (F 6)), .int (iZ (F 7)), .int (iZ (F 8)), .int (iZ (F 9)), .int (iZ (F 10)), .ref (af 11), .ref (af 12), .int (iZ (F 13)), .int (iZ (F 14)), .int (iZ (F 15)), .ref (af 16), .ref (af 17), .ref (af 18), .ref (af 19), .ref (af 20), .ref (af 21), .int (iZ (F 22)), .int (iZ (F 23)), .ref (af 24), .long tr, .int (iZ (F 26)), .int (iZ (F 27)), .int (iZ (F 28))])), (af 1, .inl (Y 0, 200, .inl (aI (A 1)))), (af 11, .inl (Y 0, 7, .inl (aI (A 11)))), (af 12, .inl (Y 0, 36, .inl (aI (A 12)))), (af 16, .inl (Y 0, 7, .inl (aI (A 16)))), (af 17, .inl (Y 0, 36, .inl (aI (A 17)))), (af 18, .inl (Y 0, 41, .inl (aI (A 18)))), (af 19, .inl (Y 0, 72, .inl (aI (A 19)))), (af 20, .inl (Y 1, 2, .inl (aI (A 20)))), (af 21, .inl (Y 0, 360, .inl (aI (A 21)))), (af 24, .inl (Y 0, 10, .inl (aI (A 24))))]) (wc' := moW Y g9 af (va_up F 22 (min (F 22 + 1) 10)) (va_up A 21 (ntA (A 21) (A 17) (F 22))) tr) (F := []) ⟨hx, hb, hml, hown, hts⟩ (c_X7_note l G Y g9 af F A tr (by omega)) (cwV 0 hts gX7_plants_X7_note rfl rfl rfl (by decide +kernel) ⟨Nat.le_of_ble_eq_true rfl, Nat.le_of_ble_eq_true rfl⟩) hK hP hD hS 0 rfl rfl (Eq.refl [g9, af 1, af 11, af 12, af 16, af 17, af 18, af 19, af 20, af 21, af 24]) rfl hl.1 rfl (Nat.le_of_ble_eq_true rfl) dX7_plants_45 ⟨Nat.zero_le _, Nat.zero_le _⟩ (fun H locs hP hD hS => ?_)
          show W _ _ _ _ _ _ _ _ _ _ _ _ _ _ _ (F0 _ _ _ [])
          replace hP : va_P G vwCl [(g9, .inr (7, [.int (iZ (F 0)), .ref (af 1), .int (iZ (F 2)), .int (iZ (F 3)), .int (iZ (F 4)), .int (iZ (F 5)), .int (iZ (F 6)), .int (iZ (F 7)), .int (iZ (F 8)), .int (iZ (F 9)), .int (iZ (F 10)), .ref (af 11), .ref (af 12), .int (iZ (F 13)), .int (iZ (F 14)), .int (iZ (F 15)), .ref (af 16), .ref (af 17), .ref (af 18), .ref (af 19), .ref (af 20), .ref (af 21), .int (iZ (min (F 22 + 1) 10)), .int (iZ (F 23)), .ref (af 24), .long tr, .int (iZ (F 26)), .int (iZ (F 27)), .int (iZ (F 28))])), (af 1, .inl (Y 0, 200, .inl (aI (A 1)))), (af 11, .inl (Y 0, 7, .inl (aI (A 11)))), (af 12, .inl (Y 0, 36, .inl (aI (A 12)))), (af 16, .inl (Y 0, 7, .inl (aI (A 16)))), (af 17, .inl (Y 0, 36, .inl (aI (A 17)))), (af 18, .inl (Y 0, 41, .inl (aI (A 18)))), (af 19, .inl (Y 0, 72, .inl (aI (A 19)))), (af 20, .inl (Y 1, 2, .inl (aI (A 20)))), (af 21, .inl (Y 0, 360, .inl (aI (ntA (A 21) (A 17) (F 22))))), (af 24, .inl (Y 0, 10, .inl (aI (A 24))))] H := hP
          replace hD : va_D _ [(g9, .inr (7, [.int (iZ (F 0)), .ref (af 1), .int (iZ (F 2)), .int (iZ (F 3)), .int (iZ (F 4)), .int (iZ (F 5)), .int (iZ (F 6)), .int (iZ (F 7)), .int (iZ (F 8)), .int (iZ (F 9)), .int (iZ (F 10)), .ref (af 11), .ref (af 12), .int (iZ (F 13)), .int (iZ (F 14)), .int (iZ (F 15)), .ref (af 16), .ref (af 17), .ref (af 18), .ref (af 19), .ref (af 20), .ref (af 21), .int (iZ (min (F 22 + 1) 10)), .int (iZ (F 23)), .ref (af 24), .long tr, .int (iZ (F 26)), .int (iZ (F 27)), .int (iZ (F 28))])), (af 1, .inl (Y 0, 200, .inl (aI (A 1)))), (af 11, .inl (Y 0, 7, .inl (aI (A 11)))), (af 12, .inl (Y 0, 36, .inl (aI (A 12)))), (af 16, .inl (Y 0, 7, .inl (aI (A 16)))), (af 17, .inl (Y 0, 36, .inl (aI (A 17)))), (af 18, .inl (Y 0, 41, .inl (aI (A 18)))), (af 19, .inl (Y 0, 72, .inl (aI (A 19)))), (af 20, .inl (Y 1, 2, .inl (aI (A 20)))), (af 21, .inl (Y 0, 360, .inl (aI (ntA (A 21) (A 17) (F 22))))), (af 24, .inl (Y 0, 10, .inl (aI (A 24))))] := hD
          refine lv_aload_n hx hb dX7_plants_48 rfl (lv_at hl 0 rfl) ?_
          refine va_get (D := G) (ci := 7) (v := .ref (af 17)) (C := RX7) (T := TX7) (N := 29) hx hb hts hFX7 hown hK.1 hP 0 rfl rfl 17 (by decide) kf29 (fun _ h9 => h9) rfl dX7_plants_49 ?_
          refine z_iconst hx hb dX7_plants_52 ?_
          refine z_iald hx hb hK.1 hP 5 0 rfl rfl 3 (by omega) (by decide) dX7_plants_53 ?_
          refine lv_istore_n (lv' := [(3, .int (iZ ((A 17) 3))), (0, .ref g9), (1, .int (iZ a)), (2, .int (iZ b))]) hx hb dX7_plants_54 rfl hl (by decide) rfl (fun ls hl => ?_)
          refine lv_aload_n hx hb dX7_plants_55 rfl (lv_at hl 1 rfl) ?_
          refine va_get (D := G) (ci := 7) (v := .ref (af 17)) (C := RX7) (T := TX7) (N := 29) hx hb hts hFX7 hown hK.1 hP 0 rfl rfl 17 (by decide) kf29 (fun _ h9 => h9) rfl dX7_plants_56 ?_
          refine z_iconst hx hb dX7_plants_59 ?_
          refine lv_iload_n hx hb dX7_plants_60 rfl (lv_at hl 0 rfl) ?_
          refine z_iadd hx hb dX7_plants_61 ?_
          refine lv_iload_n hx hb dX7_plants_62 rfl (lv_at hl 2 rfl) ?_
          refine z_iast hx hb hK.1 hP hD hS 5 0 rfl rfl (((4 + (A 17) 3)).toNat) (by omega) (by decide) dX7_plants_63 (fun H locs hP hD hS => ?_)
          replace hP : va_P G vwCl [(g9, .inr (7, [.int (iZ (F 0)), .ref (af 1), .int (iZ (F 2)), .int (iZ (F 3)), .int (iZ (F 4)), .int (iZ (F 5)), .int (iZ (F 6)), .int (iZ (F 7)), .int (iZ (F 8)), .int (iZ (F 9)), .int (iZ (F 10)), .ref (af 11), .ref (af 12), .int (iZ (F 13)), .int (iZ (F 14)), .int (iZ (F 15)), .ref (af 16), .ref (af 17), .ref (af 18), .ref (af 19), .ref (af 20), .ref (af 21), .int (iZ (min (F 22 + 1) 10)), .int (iZ (F 23)), .ref (af 24), .long tr, .int (iZ (F 26)), .int (iZ (F 27)), .int (iZ (F 28))])), (af 1, .inl (Y 0, 200, .inl (aI (A 1)))), (af 11, .inl (Y 0, 7, .inl (aI (A 11)))), (af 12, .inl (Y 0, 36, .inl (aI (A 12)))), (af 16, .inl (Y 0, 7, .inl (aI (A 16)))), (af 17, .inl (Y 0, 36, .inl (aI (va_up (A 17) (((4 + (A 17) 3)).toNat) a)))), (af 18, .inl (Y 0, 41, .inl (aI (A 18)))), (af 19, .inl (Y 0, 72, .inl (aI (A 19)))), (af 20, .inl (Y 1, 2, .inl (aI (A 20)))), (af 21, .inl (Y 0, 360, .inl (aI (ntA (A 21) (A 17) (F 22))))), (af 24, .inl (Y 0, 10, .inl (aI (A 24))))] H := hP
          replace hD : va_D _ [(g9, .inr (7, [.int (iZ (F 0)), .ref (af 1), .int (iZ (F 2)), .int (iZ (F 3)), .int (iZ (F 4)), .int (iZ (F 5)), .int (iZ (F 6)), .int (iZ (F 7)), .int (iZ (F 8)), .int (iZ (F 9)), .int (iZ (F 10)), .ref (af 11), .ref (af 12), .int (iZ (F 13)), .int (iZ (F 14)), .int (iZ (F 15)), .ref (af 16), .ref (af 17), .ref (af 18), .ref (af 19), .ref (af 20), .ref (af 21), .int (iZ (min (F 22 + 1) 10)), .int (iZ (F 23)), .ref (af 24), .long tr, .int (iZ (F 26)), .int (iZ (F 27)), .int (iZ (F 28))])), (af 1, .inl (Y 0, 200, .inl (aI (A 1)))), (af 11, .inl (Y 0, 7, .inl (aI (A 11)))), (af 12, .inl (Y 0, 36, .inl (aI (A 12)))), (af 16, .inl (Y 0, 7, .inl (aI (A 16)))), (af 17, .inl (Y 0, 36, .inl (aI (va_up (A 17) (((4 + (A 17) 3)).toNat) a)))), (af 18, .inl (Y 0, 41, .inl (aI (A 18)))), (af 19, .inl (Y 0, 72, .inl (aI (A 19)))), (af 20, .inl (Y 1, 2, .inl (aI (A 20)))), (af 21, .inl (Y 0, 360, .inl (aI (ntA (A 21) (A 17) (F 22))))), (af 24, .inl (Y 0, 10, .inl (aI (A 24))))] := hD
          refine lv_aload_n hx hb dX7_plants_64 rfl (lv_at hl 1 rfl) ?_
          refine va_get (D := G) (ci := 7) (v := .ref (af 17)) (C := RX7) (T := TX7) (N := 29) hx hb hts hFX7 hown hK.1 hP 0 rfl rfl 17 (by decide) kf29 (fun _ h9 => h9) rfl dX7_plants_65 ?_
          refine z_bipush hx hb dX7_plants_68 (by decide) ?_
          refine lv_iload_n hx hb dX7_plants_70 rfl (lv_at hl 0 rfl) ?_
          refine z_iadd hx hb dX7_plants_71 ?_
          refine z_iconst hx hb dX7_plants_72 ?_
          refine z_iast hx hb hK.1 hP hD hS 5 0 rfl rfl (((9 + (A 17) 3)).toNat) (by omega) (by decide) dX7_plants_73 (fun H locs hP hD hS => ?_)
          replace hP : va_P G vwCl [(g9, .inr (7, [.int (iZ (F 0)), .ref (af 1), .int (iZ (F 2)), .int (iZ (F 3)), .int (iZ (F 4)), .int (iZ (F 5)), .int (iZ (F 6)), .int (iZ (F 7)), .int (iZ (F 8)), .int (iZ (F 9)), .int (iZ (F 10)), .ref (af 11), .ref (af 12), .int (iZ (F 13)), .int (iZ (F 14)), .int (iZ (F 15)), .ref (af 16), .ref (af 17), .ref (af 18), .ref (af 19), .ref (af 20), .ref (af 21), .int (iZ (min (F 22 + 1) 10)), .int (iZ (F 23)), .ref (af 24), .long tr, .int (iZ (F 26)), .int (iZ (F 27)), .int (iZ (F 28))])), (af 1, .inl (Y 0, 200, .inl (aI (A 1)))), (af 11, .inl (Y 0, 7, .inl (aI (A 11)))), (af 12, .inl (Y 0, 36, .inl (aI (A 12)))), (af 16, .inl (Y 0, 7, .inl (aI (A 16)))), (af 17, .inl (Y 0, 36, .inl (aI (va_up (va_up (A 17) (((4 + (A 17) 3)).toNat) a) (((9 + (A 17) 3)).toNat) 1)))), (af 18, .inl (Y 0, 41, .inl (aI (A 18)))), (af 19, .inl (Y 0, 72, .inl (aI (A 19)))), (af 20, .inl (Y 1, 2, .inl (aI (A 20)))), (af 21, .inl (Y 0, 360, .inl (aI (ntA (A 21) (A 17) (F 22))))), (af 24, .inl (Y 0, 10, .inl (aI (A 24))))] H := hP
          replace hD : va_D _ [(g9, .inr (7, [.int (iZ (F 0)), .ref (af 1), .int (iZ (F 2)), .int (iZ (F 3)), .int (iZ (F 4)), .int (iZ (F 5)), .int (iZ (F 6)), .int (iZ (F 7)), .int (iZ (F 8)), .int (iZ (F 9)), .int (iZ (F 10)), .ref (af 11), .ref (af 12), .int (iZ (F 13)), .int (iZ (F 14)), .int (iZ (F 15)), .ref (af 16), .ref (af 17), .ref (af 18), .ref (af 19), .ref (af 20), .ref (af 21), .int (iZ (min (F 22 + 1) 10)), .int (iZ (F 23)), .ref (af 24), .long tr, .int (iZ (F 26)), .int (iZ (F 27)), .int (iZ (F 28))])), (af 1, .inl (Y 0, 200, .inl (aI (A 1)))), (af 11, .inl (Y 0, 7, .inl (aI (A 11)))), (af 12, .inl (Y 0, 36, .inl (aI (A 12)))), (af 16, .inl (Y 0, 7, .inl (aI (A 16)))), (af 17, .inl (Y 0, 36, .inl (aI (va_up (va_up (A 17) (((4 + (A 17) 3)).toNat) a) (((9 + (A 17) 3)).toNat) 1)))), (af 18, .inl (Y 0, 41, .inl (aI (A 18)))), (af 19, .inl (Y 0, 72, .inl (aI (A 19)))), (af 20, .inl (Y 1, 2, .inl (aI (A 20)))), (af 21, .inl (Y 0, 360, .inl (aI (ntA (A 21) (A 17) (F 22))))), (af 24, .inl (Y 0, 10, .inl (aI (A 24))))] := hD
          refine lv_aload_n hx hb dX7_plants_74 rfl (lv_at hl 1 rfl) ?_
          refine va_get (D := G) (ci := 7) (v := .ref (af 17)) (C := RX7) (T := TX7) (N := 29) hx hb hts hFX7 hown hK.1 hP 0 rfl rfl 17 (by decide) kf29 (fun _ h9 => h9) rfl dX7_plants_75 ?_
          refine z_bipush hx hb dX7_plants_78 (by decide) ?_
          refine lv_iload_n hx hb dX7_plants_80 rfl (lv_at hl 0 rfl) ?_
          refine z_iadd hx hb dX7_plants_81 ?_
          refine z_iconst hx hb dX7_plants_82 ?_
          refine z_iast hx hb hK.1 hP hD hS 5 0 rfl rfl (((14 + (A 17) 3)).toNat) (by omega) (by decide) dX7_plants_83 (fun H locs hP hD hS => ?_)
          replace hP : va_P G vwCl [(g9, .inr (7, [.int (iZ (F 0)), .ref (af 1), .int (iZ (F 2)), .int (iZ (F 3)), .int (iZ (F 4)), .int (iZ (F 5)), .int (iZ (F 6)), .int (iZ (F 7)), .int (iZ (F 8)), .int (iZ (F 9)), .int (iZ (F 10)), .ref (af 11), .ref (af 12), .int (iZ (F 13)), .int (iZ (F 14)), .int (iZ (F 15)), .ref (af 16), .ref (af 17), .ref (af 18), .ref (af 19), .ref (af 20), .ref (af 21), .int (iZ (min (F 22 + 1) 10)), .int (iZ (F 23)), .ref (af 24), .long tr, .int (iZ (F 26)), .int (iZ (F 27)), .int (iZ (F 28))])), (af 1, .inl (Y 0, 200, .inl (aI (A 1)))), (af 11, .inl (Y 0, 7, .inl (aI (A 11)))), (af 12, .inl (Y 0, 36, .inl (aI (A 12)))), (af 16, .inl (Y 0, 7, .inl (aI (A 16)))), (af 17, .inl (Y 0, 36, .inl (aI (va_up (va_up (va_up (A 17) (((4 + (A 17) 3)).toNat) a) (((9 + (A 17) 3)).toNat) 1) (((14 + (A 17) 3)).toNat) 0)))), (af 18, .inl (Y 0, 41, .inl (aI (A 18)))), (af 19, .inl (Y 0, 72, .inl (aI (A 19)))), (af 20, .inl (Y 1, 2, .inl (aI (A 20)))), (af 21, .inl (Y 0, 360, .inl (aI (ntA (A 21) (A 17) (F 22))))), (af 24, .inl (Y 0, 10, .inl (aI (A 24))))] H := hP
          replace hD : va_D _ [(g9, .inr (7, [.int (iZ (F 0)), .ref (af 1), .int (iZ (F 2)), .int (iZ (F 3)), .int (iZ (F 4)), .int (iZ (F 5)), .int (iZ (F 6)), .int (iZ (F 7)), .int (iZ (F 8)), .int (iZ (F 9)), .int (iZ (F 10)), .ref (af 11), .ref (af 12), .int (iZ (F 13)), .int (iZ (F 14)), .int (iZ (F 15)), .ref (af 16), .ref (af 17), .ref (af 18), .ref (af 19), .ref (af 20), .ref (af 21), .int (iZ (min (F 22 + 1) 10)), .int (iZ (F 23)), .ref (af 24), .long tr, .int (iZ (F 26)), .int (iZ (F 27)), .int (iZ (F 28))])), (af 1, .inl (Y 0, 200, .inl (aI (A 1)))), (af 11, .inl (Y 0, 7, .inl (aI (A 11)))), (af 12, .inl (Y 0, 36, .inl (aI (A 12)))), (af 16, .inl (Y 0, 7, .inl (aI (A 16)))), (af 17, .inl (Y 0, 36, .inl (aI (va_up (va_up (va_up (A 17) (((4 + (A 17) 3)).toNat) a) (((9 + (A 17) 3)).toNat) 1) (((14 + (A 17) 3)).toNat) 0)))), (af 18, .inl (Y 0, 41, .inl (aI (A 18)))), (af 19, .inl (Y 0, 72, .inl (aI (A 19)))), (af 20, .inl (Y 1, 2, .inl (aI (A 20)))), (af 21, .inl (Y 0, 360, .inl (aI (ntA (A 21) (A 17) (F 22))))), (af 24, .inl (Y 0, 10, .inl (aI (A 24))))] := hD
          refine lv_aload_n hx hb dX7_plants_84 rfl (lv_at hl 1 rfl) ?_
          refine va_get (D := G) (ci := 7) (v := .ref (af 17)) (C := RX7) (T := TX7) (N := 29) hx hb hts hFX7 hown hK.1 hP 0 rfl rfl 17 (by decide) kf29 (fun _ h9 => h9) rfl dX7_plants_85 ?_
          refine z_bipush hx hb dX7_plants_88 (by decide) ?_
          refine lv_iload_n hx hb dX7_plants_90 rfl (lv_at hl 0 rfl) ?_
          refine z_iadd hx hb dX7_plants_91 ?_
          refine lv_iload_n hx hb dX7_plants_92 rfl (lv_at hl 3 rfl) ?_
          refine z_iast hx hb hK.1 hP hD hS 5 0 rfl rfl (((19 + (A 17) 3)).toNat) (by omega) (by decide) dX7_plants_93 (fun H locs hP hD hS => ?_)
          replace hP : va_P G vwCl [(g9, .inr (7, [.int (iZ (F 0)), .ref (af 1), .int (iZ (F 2)), .int (iZ (F 3)), .int (iZ (F 4)), .int (iZ (F 5)), .int (iZ (F 6)), .int (iZ (F 7)), .int (iZ (F 8)), .int (iZ (F 9)), .int (iZ (F 10)), .ref (af 11), .ref (af 12), .int (iZ (F 13)), .int (iZ (F 14)), .int (iZ (F 15)), .ref (af 16), .ref (af 17), .ref (af 18), .ref (af 19), .ref (af 20), .ref (af 21), .int (iZ (min (F 22 + 1) 10)), .int (iZ (F 23)), .ref (af 24), .long tr, .int (iZ (F 26)), .int (iZ (F 27)), .int (iZ (F 28))])), (af 1, .inl (Y 0, 200, .inl (aI (A 1)))), (af 11, .inl (Y 0, 7, .inl (aI (A 11)))), (af 12, .inl (Y 0, 36, .inl (aI (A 12)))), (af 16, .inl (Y 0, 7, .inl (aI (A 16)))), (af 17, .inl (Y 0, 36, .inl (aI (va_up (va_up (va_up (va_up (A 17) (((4 + (A 17) 3)).toNat) a) (((9 + (A 17) 3)).toNat) 1) (((14 + (A 17) 3)).toNat) 0) (((19 + (A 17) 3)).toNat) b)))), (af 18, .inl (Y 0, 41, .inl (aI (A 18)))), (af 19, .inl (Y 0, 72, .inl (aI (A 19)))), (af 20, .inl (Y 1, 2, .inl (aI (A 20)))), (af 21, .inl (Y 0, 360, .inl (aI (ntA (A 21) (A 17) (F 22))))), (af 24, .inl (Y 0, 10, .inl (aI (A 24))))] H := hP
          replace hD : va_D _ [(g9, .inr (7, [.int (iZ (F 0)), .ref (af 1), .int (iZ (F 2)), .int (iZ (F 3)), .int (iZ (F 4)), .int (iZ (F 5)), .int (iZ (F 6)), .int (iZ (F 7)), .int (iZ (F 8)), .int (iZ (F 9)), .int (iZ (F 10)), .ref (af 11), .ref (af 12), .int (iZ (F 13)), .int (iZ (F 14)), .int (iZ (F 15)), .ref (af 16), .ref (af 17), .ref (af 18), .ref (af 19), .ref (af 20), .ref (af 21), .int (iZ (min (F 22 + 1) 10)), .int (iZ (F 23)), .ref (af 24), .long tr, .int (iZ (F 26)), .int (iZ (F 27)), .int (iZ (F 28))])), (af 1, .inl (Y 0, 200, .inl (aI (A 1)))), (af 11, .inl (Y 0, 7, .inl (aI (A 11)))), (af 12, .inl (Y 0, 36, .inl (aI (A 12)))), (af 16, .inl (Y 0, 7, .inl (aI (A 16)))), (af 17, .inl (Y 0, 36, .inl (aI (va_up (va_up (va_up (va_up (A 17) (((4 + (A 17) 3)).toNat) a) (((9 + (A 17) 3)).toNat) 1) (((14 + (A 17) 3)).toNat) 0) (((19 + (A 17) 3)).toNat) b)))), (af 18, .inl (Y 0, 41, .inl (aI (A 18)))), (af 19, .inl (Y 0, 72, .inl (aI (A 19)))), (af 20, .inl (Y 1, 2, .inl (aI (A 20)))), (af 21, .inl (Y 0, 360, .inl (aI (ntA (A 21) (A 17) (F 22))))), (af 24, .inl (Y 0, 10, .inl (aI (A 24))))] := hD
          refine lv_aload_n hx hb dX7_plants_94 rfl (lv_at hl 1 rfl) ?_
          refine va_get (D := G) (ci := 7) (v := .ref (af 17)) (C := RX7) (T := TX7) (N := 29) hx hb hts hFX7 hown hK.1 hP 0 rfl rfl 17 (by decide) kf29 (fun _ h9 => h9) rfl dX7_plants_95 ?_
          refine z_bipush hx hb dX7_plants_98 (by decide) ?_
          refine lv_iload_n hx hb dX7_plants_100 rfl (lv_at hl 0 rfl) ?_
          refine z_iadd hx hb dX7_plants_101 ?_
          refine z_iconst hx hb dX7_plants_102 ?_
          refine z_iast hx hb hK.1 hP hD hS 5 0 rfl rfl (((24 + (A 17) 3)).toNat) (by omega) (by decide) dX7_plants_103 (fun H locs hP hD hS => ?_)
          replace hP : va_P G vwCl [(g9, .inr (7, [.int (iZ (F 0)), .ref (af 1), .int (iZ (F 2)), .int (iZ (F 3)), .int (iZ (F 4)), .int (iZ (F 5)), .int (iZ (F 6)), .int (iZ (F 7)), .int (iZ (F 8)), .int (iZ (F 9)), .int (iZ (F 10)), .ref (af 11), .ref (af 12), .int (iZ (F 13)), .int (iZ (F 14)), .int (iZ (F 15)), .ref (af 16), .ref (af 17), .ref (af 18), .ref (af 19), .ref (af 20), .ref (af 21), .int (iZ (min (F 22 + 1) 10)), .int (iZ (F 23)), .ref (af 24), .long tr, .int (iZ (F 26)), .int (iZ (F 27)), .int (iZ (F 28))])), (af 1, .inl (Y 0, 200, .inl (aI (A 1)))), (af 11, .inl (Y 0, 7, .inl (aI (A 11)))), (af 12, .inl (Y 0, 36, .inl (aI (A 12)))), (af 16, .inl (Y 0, 7, .inl (aI (A 16)))), (af 17, .inl (Y 0, 36, .inl (aI (va_up (va_up (va_up (va_up (va_up (A 17) (((4 + (A 17) 3)).toNat) a) (((9 + (A 17) 3)).toNat) 1) (((14 + (A 17) 3)).toNat) 0) (((19 + (A 17) 3)).toNat) b) (((24 + (A 17) 3)).toNat) 0)))), (af 18, .inl (Y 0, 41, .inl (aI (A 18)))), (af 19, .inl (Y 0, 72, .inl (aI (A 19)))), (af 20, .inl (Y 1, 2, .inl (aI (A 20)))), (af 21, .inl (Y 0, 360, .inl (aI (ntA (A 21) (A 17) (F 22))))), (af 24, .inl (Y 0, 10, .inl (aI (A 24))))] H := hP
          replace hD : va_D _ [(g9, .inr (7, [.int (iZ (F 0)), .ref (af 1), .int (iZ (F 2)), .int (iZ (F 3)), .int (iZ (F 4)), .int (iZ (F 5)), .int (iZ (F 6)), .int (iZ (F 7)), .int (iZ (F 8)), .int (iZ (F 9)), .int (iZ (F 10)), .ref (af 11), .ref (af 12), .int (iZ (F 13)), .int (iZ (F 14)), .int (iZ (F 15)), .ref (af 16), .ref (af 17), .ref (af 18), .ref (af 19), .ref (af 20), .ref (af 21), .int (iZ (min (F 22 + 1) 10)), .int (iZ (F 23)), .ref (af 24), .long tr, .int (iZ (F 26)), .int (iZ (F 27)), .int (iZ (F 28))])), (af 1, .inl (Y 0, 200, .inl (aI (A 1)))), (af 11, .inl (Y 0, 7, .inl (aI (A 11)))), (af 12, .inl (Y 0, 36, .inl (aI (A 12)))), (af 16, .inl (Y 0, 7, .inl (aI (A 16)))), (af 17, .inl (Y 0, 36, .inl (aI (va_up (va_up (va_up (va_up (va_up (A 17) (((4 + (A 17) 3)).toNat) a) (((9 + (A 17) 3)).toNat) 1) (((14 + (A 17) 3)).toNat) 0) (((19 + (A 17) 3)).toNat) b) (((24 + (A 17) 3)).toNat) 0)))), (af 18, .inl (Y 0, 41, .inl (aI (A 18)))), (af 19, .inl (Y 0, 72, .inl (aI (A 19)))), (af 20, .inl (Y 1, 2, .inl (aI (A 20)))), (af 21, .inl (Y 0, 360, .inl (aI (ntA (A 21) (A 17) (F 22))))), (af 24, .inl (Y 0, 10, .inl (aI (A 24))))] := hD
          refine lv_aload_n hx hb dX7_plants_104 rfl (lv_at hl 1 rfl) ?_
          refine va_get (D := G) (ci := 7) (v := .ref (af 17)) (C := RX7) (T := TX7) (N := 29) hx hb hts hFX7 hown hK.1 hP 0 rfl rfl 17 (by decide) kf29 (fun _ h9 => h9) rfl dX7_plants_105 ?_
          refine z_iconst hx hb dX7_plants_108 ?_
          refine lv_dup2_11 hx hb dX7_plants_109 rfl rfl ?_
          refine z_iald hx hb hK.1 hP 5 0 rfl rfl 3 (by omega) (by decide) dX7_plants_110 ?_
          rw [up_ne _ _ (by omega), up_ne _ _ (by omega), up_ne _ _ (by omega), up_ne _ _ (by omega), up_ne _ _ (by omega)]
          refine z_iconst hx hb dX7_plants_111 ?_
          refine z_iadd hx hb dX7_plants_112 ?_
          refine z_iast hx hb hK.1 hP hD hS 5 0 rfl rfl 3 (by omega) (by decide) dX7_plants_113 (fun H locs hP hD hS => ?_)
          replace hP : va_P G vwCl [(g9, .inr (7, [.int (iZ (F 0)), .ref (af 1), .int (iZ (F 2)), .int (iZ (F 3)), .int (iZ (F 4)), .int (iZ (F 5)), .int (iZ (F 6)), .int (iZ (F 7)), .int (iZ (F 8)), .int (iZ (F 9)), .int (iZ (F 10)), .ref (af 11), .ref (af 12), .int (iZ (F 13)), .int (iZ (F 14)), .int (iZ (F 15)), .ref (af 16), .ref (af 17), .ref (af 18), .ref (af 19), .ref (af 20), .ref (af 21), .int (iZ (min (F 22 + 1) 10)), .int (iZ (F 23)), .ref (af 24), .long tr, .int (iZ (F 26)), .int (iZ (F 27)), .int (iZ (F 28))])), (af 1, .inl (Y 0, 200, .inl (aI (A 1)))), (af 11, .inl (Y 0, 7, .inl (aI (A 11)))), (af 12, .inl (Y 0, 36, .inl (aI (A 12)))), (af 16, .inl (Y 0, 7, .inl (aI (A 16)))), (af 17, .inl (Y 0, 36, .inl (aI (va_up (va_up (va_up (va_up (va_up (va_up (A 17) (((4 + (A 17) 3)).toNat) a) (((9 + (A 17) 3)).toNat) 1) (((14 + (A 17) 3)).toNat) 0) (((19 + (A 17) 3)).toNat) b) (((24 + (A 17) 3)).toNat) 0) 3 ((A 17) 3 + 1))))), (af 18, .inl (Y 0, 41, .inl (aI (A 18)))), (af 19, .inl (Y 0, 72, .inl (aI (A 19)))), (af 20, .inl (Y 1, 2, .inl (aI (A 20)))), (af 21, .inl (Y 0, 360, .inl (aI (ntA (A 21) (A 17) (F 22))))), (af 24, .inl (Y 0, 10, .inl (aI (A 24))))] H := hP
          replace hD : va_D _ [(g9, .inr (7, [.int (iZ (F 0)), .ref (af 1), .int (iZ (F 2)), .int (iZ (F 3)), .int (iZ (F 4)), .int (iZ (F 5)), .int (iZ (F 6)), .int (iZ (F 7)), .int (iZ (F 8)), .int (iZ (F 9)), .int (iZ (F 10)), .ref (af 11), .ref (af 12), .int (iZ (F 13)), .int (iZ (F 14)), .int (iZ (F 15)), .ref (af 16), .ref (af 17), .ref (af 18), .ref (af 19), .ref (af 20), .ref (af 21), .int (iZ (min (F 22 + 1) 10)), .int (iZ (F 23)), .ref (af 24), .long tr, .int (iZ (F 26)), .int (iZ (F 27)), .int (iZ (F 28))])), (af 1, .inl (Y 0, 200, .inl (aI (A 1)))), (af 11, .inl (Y 0, 7, .inl (aI (A 11)))), (af 12, .inl (Y 0, 36, .inl (aI (A 12)))), (af 16, .inl (Y 0, 7, .inl (aI (A 16)))), (af 17, .inl (Y 0, 36, .inl (aI (va_up (va_up (va_up (va_up (va_up (va_up (A 17) (((4 + (A 17) 3)).toNat) a) (((9 + (A 17) 3)).toNat) 1) (((14 + (A 17) 3)).toNat) 0) (((19 + (A 17) 3)).toNat) b) (((24 + (A 17) 3)).toNat) 0) 3 ((A 17) 3 + 1))))), (af 18, .inl (Y 0, 41, .inl (aI (A 18)))), (af 19, .inl (Y 0, 72, .inl (aI (A 19)))), (af 20, .inl (Y 1, 2, .inl (aI (A 20)))), (af 21, .inl (Y 0, 360, .inl (aI (ntA (A 21) (A 17) (F 22))))), (af 24, .inl (Y 0, 10, .inl (aI (A 24))))] := hD
          refine lv_iload_n hx hb dX7_plants_114 rfl (lv_at hl 0 rfl) ?_
          refine z_top (show (A 17) 3 = rPlants (kF F A (A 17)) a b from ?_) ?_
          · unfold rPlants; simp only [k02]; rw [if_pos (by omega), if_neg (show ¬ htA (kF F A (A 17)) a ((A 17) 3).toNat = true by simp_all), if_pos (by omega)]
          have ef : fPlants (kF F A (A 17)) a b = true := decide_eq_true (⟨by omega, (show htA (kF F A (A 17)) a ((A 17) 3).toNat = false by assumption), by omega⟩)
          have hP9 : va_P G vwCl (moW Y g9 af (bif fPlants (kF F A (A 17)) a b then opF F else F) (bif fPlants (kF F A (A 17)) a b then opA F A (plA (A 17) a b) else A) (tr)) H := by rw [ef]; exact hP.sub [0, 1, 2, 3, 4, 5, 6, 7, 8, 9, 10] rfl
          exact W.iret (v := iZ (rPlants (kF F A (A 17)) a b)) hx hb hr (fun t9 ht9 _ => ⟨rfl, by rw [ht9]; exact hP9, hS.F ht9⟩) hS.2.2 dX7_plants_115
        · skip
          refine z_bipush hx hb dX7_plants_41 (by decide) ?_
          refine z_top (show (-3) = rPlants (kF F A (A 17)) a b from ?_) ?_
          · unfold rPlants; simp only [k02]; rw [if_pos (by omega), if_neg (show ¬ htA (kF F A (A 17)) a ((A 17) 3).toNat = true by simp_all), if_neg (by omega)]
          have ef : fPlants (kF F A (A 17)) a b = false := decide_eq_false (by rintro ⟨-, -, h3⟩; omega)
          have hP9 : va_P G vwCl (moW Y g9 af (bif fPlants (kF F A (A 17)) a b then opF F else F) (bif fPlants (kF F A (A 17)) a b then opA F A (plA (A 17) a b) else A) (tr)) H := by rw [ef]; exact hP.sub [0, 1, 2, 3, 4, 5, 6, 7, 8, 9, 10] rfl
          exact W.iret (v := iZ (rPlants (kF F A (A 17)) a b)) hx hb hr (fun t9 ht9 _ => ⟨rfl, by rw [ht9]; exact hP9, hS.F ht9⟩) hS.2.2 dX7_plants_43
      · skip
        refine z_bipush hx hb dX7_plants_28 (by decide) ?_
        refine z_top (show (-2) = rPlants (kF F A (A 17)) a b from ?_) ?_
        · unfold rPlants; simp only [k02]; rw [if_pos (by omega), if_pos (show htA (kF F A (A 17)) a ((A 17) 3).toNat = true by assumption)]
        have ef : fPlants (kF F A (A 17)) a b = false := decide_eq_false (fun h => Bool.noConfusion (h.2.1.symm.trans (show htA (kF F A (A 17)) a ((A 17) 3).toNat = true by assumption)))
        have hP9 : va_P G vwCl (moW Y g9 af (bif fPlants (kF F A (A 17)) a b then opF F else F) (bif fPlants (kF F A (A 17)) a b then opA F A (plA (A 17) a b) else A) (tr)) H := by rw [ef]; exact hP.sub [0, 1, 2, 3, 4, 5, 6, 7, 8, 9, 10] rfl
        exact W.iret (v := iZ (rPlants (kF F A (A 17)) a b)) hx hb hr (fun t9 ht9 _ => ⟨rfl, by rw [ht9]; exact hP9, hS.F ht9⟩) hS.2.2 dX7_plants_30
    · skip
      have c_2 := of_decide_eq_false c_2
      refine z_iconst hx hb dX7_plants_18 ?_
      refine z_top (show (-1) = rPlants (kF F A (A 17)) a b from ?_) ?_
      · unfold rPlants; simp only [k02]; rw [if_neg (by omega)]
      have ef : fPlants (kF F A (A 17)) a b = false := decide_eq_false (by rintro ⟨h1, -⟩; omega)
      have hP9 : va_P G vwCl (moW Y g9 af (bif fPlants (kF F A (A 17)) a b then opF F else F) (bif fPlants (kF F A (A 17)) a b then opA F A (plA (A 17) a b) else A) (tr)) H := by rw [ef]; exact hP.sub [0, 1, 2, 3, 4, 5, 6, 7, 8, 9, 10] rfl
      exact W.iret (v := iZ (rPlants (kF F A (A 17)) a b)) hx hb hr (fun t9 ht9 _ => ⟨rfl, by rw [ht9]; exact hP9, hS.F ht9⟩) hS.2.2 dX7_plants_19

set_option maxHeartbeats 4000000 in
set_option maxRecDepth 100000 in
theorem c_X7_fells (l : Launch) (G : va_G) (Y : Nat → ClassId) (g9 : Nat) (af : Nat → Nat) (F : Nat → Int) (A : Kom) (tr : Int64) (hV : mV F A (A 17)) (hno : F 26 < 0) (ro : 0 ≤ F 22 ∧ F 22 ≤ 10) (a : Int) (r : zR a) : Met l yX7_fells wsX7_fells ({ frames := 2, cells := 0, slots := 0, locals := 45 }) (mP G Y [.ref g9, .int (iZ a)] (moW Y g9 af F A tr)) (mQ G (moW Y g9 af F A tr) (some (.int (iZ (rFells (kF F A (A 17)) a)))) (moW Y g9 af (bif fFells (kF F A (A 17)) a then opF F else F) (bif fFells (kF F A (A 17)) a then opA F A (va_up (va_up (A 17) (24 + a).toNat 1) (9 + a).toNat 0) else A) (tr))) 0 0 (fun q => q ∈ List.map Prod.fst (moW Y g9 af F A tr)) := by
  refine Met.ofW (cc := cX7_fells) (maxL := 3) (ret := (some .int)) (by decide) rfl ?_
  intro p e s m args below meth c s₁ B hml hv
  obtain ⟨rfl, hK, hP, hD0⟩ := hv
  have hx := B.exec
  have hb := B.bytes
  have hr := B.returns
  have hts := atoms_spec (ws := wsX7_fells) B.pre
  have hown : s.vm.findClass RX7 = some m.cls := findClass_of_methodNamed B.named
  have hlocks := B.notSynchronized
  have hFX7 : ∀ w ∈ wsX70, w ∈ wsX7_fells := by decide +kernel
  have kf29 := (hts (.fieldLink RX7 29 "ShadeVotesModel" "now" "[I") (by decide +kernel))
  have hD := va_D_self hD0
  have hS : va_S (fun q => q ∈ List.map Prod.fst (moW Y g9 af F A tr)) s.heap s.heap [] := va_S.rf
  obtain ⟨H, hHe⟩ : ∃ H, H = s.heap := ⟨_, rfl⟩
  rw [← hHe] at hP
  replace hS : va_S (fun q => q ∈ List.map Prod.fst (moW Y g9 af F A tr)) s.heap H [] := by rw [hHe]; exact hS
  have hl := lv_entry ([.ref g9, .int (iZ a)]) (n := 3) (Nat.le_of_ble_eq_true rfl)
  rw [lg_entry_eq]
  generalize (lg_sl ([.ref g9, .int (iZ a)]) ++ List.replicate (3 - (lg_sl ([.ref g9, .int (iZ a)])).length) Slot.unset).toArray = ls at hl ⊢
  replace hl : lv_has ls 3 [(0, .ref g9), (1, .int (iZ a))] := hl
  obtain ⟨locs, hLe⟩ : ∃ locs : List Loc, locs = [] := ⟨_, rfl⟩
  rw [← hLe] at hS ⊢
  have hW0 : ∀ {Q : State → Prop} {g : JFrame}, W p l e ({ frames := 2, cells := 0, slots := 0, locals := 45 }) s m [.ref g9, .int (iZ a)].toArray below meth c H locs 0 0 Q g → W p l e ({ frames := 2, cells := 0, slots := 0, locals := 45 }) s m [.ref g9, .int (iZ a)].toArray below meth c s.heap locs 0 0 Q g := fun h => by rw [← hHe]; exact h
  refine hW0 ?_
  clear hW0 hHe hLe
  have v3 := hV.2.2.1
  have v7 := hV.2.2.2.2.2.2.1
  have v8 := hV.2.2.2.2.2.2.2.1
  have v5 := hV.2.1
  have v4 := hV.2.2.2.1
  have k00 : kF F A (A 17) 0 0 = F 13 := rfl
  have k01 : kF F A (A 17) 0 1 = F 14 := rfl
  have k02 : kF F A (A 17) 0 2 = A 17 3 := rfl
  have k03 : kF F A (A 17) 0 3 = F 15 := rfl
  have k04 : kF F A (A 17) 0 4 = A 17 1 := rfl
  have k05 : kF F A (A 17) 0 5 = A 17 0 := rfl
  have k06 : kF F A (A 17) 0 6 = A 17 2 := rfl
  have kpr : kF F A (A 17) 0 0 * kF F A (A 17) 0 1 = F 13 * F 14 := rfl
  have hW := hV.1
  refine lv_aload_n hx hb dX7_fells_0 rfl (lv_at hl 0 rfl) ?_
  refine lv_iload_n hx hb dX7_fells_1 rfl (lv_at hl 1 rfl) ?_
  refine ro_V (As := [.int (iZ a)]) (rest := []) ⟨hx, hb, hml, hown, hts⟩ (c_X7_isTree l G Y g9 af F A tr a (by omega)) (cwV 1 hts gX7_fells_X7_isTree rfl rfl rfl (by decide +kernel) ⟨Nat.le_of_ble_eq_true rfl, Nat.le_of_ble_eq_true rfl⟩) hK (hP.sub (ws' := moW Y g9 af F A tr) [0, 1, 2, 3, 4, 5, 6, 7, 8, 9, 10] rfl) 0 rfl rfl rfl hl.1 rfl (Nat.le_of_ble_eq_true rfl) dX7_fells_2 ⟨Nat.zero_le _, Nat.zero_le _⟩ ?_
  refine z_ifb_ne (tgt := 10) hx hb dX7_fells_5 (by decide) (fun c_1 => ?_) (fun c_1 => ?_)
  · skip
    have c_1 := of_decide_eq_true c_1
    refine lv_aload_n hx hb dX7_fells_10 rfl (lv_at hl 0 rfl) ?_
    refine va_get (D := G) (ci := 7) (v := .ref (af 17)) (C := RX7) (T := TX7) (N := 29) hx hb hts hFX7 hown hK.1 hP 0 rfl rfl 17 (by decide) kf29 (fun _ h9 => h9) rfl dX7_fells_11 ?_
    refine z_bipush hx hb dX7_fells_14 (by decide) ?_
    refine lv_iload_n hx hb dX7_fells_16 rfl (lv_at hl 1 rfl) ?_
    refine z_iadd hx hb dX7_fells_17 ?_
    refine z_iald hx hb hK.1 hP 5 0 rfl rfl (((24 + a)).toNat) (by omega) (by decide) dX7_fells_18 ?_
    have eO2 : ((24 + a)).toNat = 24 + a.toNat := by omega
    have hbeO2 := hV.2.2.2.2.1 a.toNat (by omega)
    refine z_top (show (A 17) (((24 + a)).toNat) = (A 17) (24 + a.toNat) by rw [eO2]) ?_
    refine z_iconst hx hb dX7_fells_19 ?_
    refine z_icmp_ne (tgt := 26) hx hb dX7_fells_20 (by decide) (by omega) (fun c_3 => ?_) (fun c_3 => ?_)
    · skip
      refine lv_aload_n hx hb dX7_fells_26 rfl (lv_at hl 0 rfl) ?_
      have hP := hP.sub (ws' := [(g9, .inr (7, [.int (iZ (F 0)), .ref (af 1), .int (iZ (F 2)), .int (iZ (F 3)), .int (iZ (F 4)), .int (iZ (F 5)), .int (iZ (F 6)), .int (iZ (F 7)), .int (iZ (F 8)), .int (iZ (F 9)), .int (iZ (F 10)), .ref (af 11), .ref (af 12), .int (iZ (F 13)), .int (iZ (F 14)), .int (iZ (F 15)), .ref (af 16), .ref (af 17), .ref (af 18), .ref (af 19), .ref (af 20), .ref (af 21), .int (iZ (F 22)), .int (iZ (F 23)), .ref (af 24), .long tr, .int (iZ (F 26)), .int (iZ (F 27)), .int (iZ (F 28))])), (af 1, .inl (Y 0, 200, .inl (aI (A 1)))), (af 11, .inl (Y 0, 7, .inl (aI (A 11)))), (af 12, .inl (Y 0, 36, .inl (aI (A 12)))), (af 16, .inl (Y 0, 7, .inl (aI (A 16)))), (af 17, .inl (Y 0, 36, .inl (aI (A 17)))), (af 18, .inl (Y 0, 41, .inl (aI (A 18)))), (af 19, .inl (Y 0, 72, .inl (aI (A 19)))), (af 20, .inl (Y 1, 2, .inl (aI (A 20)))), (af 21, .inl (Y 0, 360, .inl (aI (A 21)))), (af 24, .inl (Y 0, 10, .inl (aI (A 24))))] ++ []) [0, 1, 2, 3, 4, 5, 6, 7, 8, 9, 10] rfl
      have hD := hD.sub (ws' := [(g9, .inr (7, [.int (iZ (F 0)), .ref (af 1), .int (iZ (F 2)), .int (iZ (F 3)), .int (iZ (F 4)), .int (iZ (F 5)), .int (iZ (F 6)), .int (iZ (F 7)), .int (iZ (F 8)), .int (iZ (F 9)), .int (iZ (F 10)), .ref (af 11), .ref (af 12), .int (iZ (F 13)), .int (iZ (F 14)), .int (iZ (F 15)), .ref (af 16), .ref (af 17), .ref (af 18), .ref (af 19), .ref (af 20), .ref (af 21), .int (iZ (F 22)), .int (iZ (F 23)), .ref (af 24), .long tr, .int (iZ (F 26)), .int (iZ (F 27)), .int (iZ (F 28))])), (af 1, .inl (Y 0, 200, .inl (aI (A 1)))), (af 11, .inl (Y 0, 7, .inl (aI (A 11)))), (af 12, .inl (Y 0, 36, .inl (aI (A 12)))), (af 16, .inl (Y 0, 7, .inl (aI (A 16)))), (af 17, .inl (Y 0, 36, .inl (aI (A 17)))), (af 18, .inl (Y 0, 41, .inl (aI (A 18)))), (af 19, .inl (Y 0, 72, .inl (aI (A 19)))), (af 20, .inl (Y 1, 2, .inl (aI (A 20)))), (af 21, .inl (Y 0, 360, .inl (aI (A 21)))), (af 24, .inl (Y 0, 10, .inl (aI (A 24))))] ++ []) [0, 1, 2, 3, 4, 5, 6, 7, 8, 9, 10] (by decide) rfl
      refine mu_V (As := []) (rest := []) (wc := [(g9, .inr (7, [.int (iZ (F 0)), .ref (af 1), .int (iZ (F 2)), .int (iZ (F 3)), .int (iZ (F 4)), .int (iZ (F 5)), .int (iZ (F 6)), .int (iZ (F 7)), .int (iZ (F 8)), .int (iZ (F 9)), .int (iZ (F 10)), .ref (af 11), .ref (af 12), .int (iZ (F 13)), .int (iZ (F 14)), .int (iZ (F 15)), .ref (af 16), .ref (af 17), .ref (af 18), .ref (af 19), .ref (af 20), .ref (af 21), .int (iZ (F 22)), .int (iZ (F 23)), .ref (af 24), .long tr, .int (iZ (F 26)), .int (iZ (F 27)), .int (iZ (F 28))])), (af 1, .inl (Y 0, 200, .inl (aI (A 1)))), (af 11, .inl (Y 0, 7, .inl (aI (A 11)))), (af 12, .inl (Y 0, 36, .inl (aI (A 12)))), (af 16, .inl (Y 0, 7, .inl (aI (A 16)))), (af 17, .inl (Y 0, 36, .inl (aI (A 17)))), (af 18, .inl (Y 0, 41, .inl (aI (A 18)))), (af 19, .inl (Y 0, 72, .inl (aI (A 19)))), (af 20, .inl (Y 1, 2, .inl (aI (A 20)))), (af 21, .inl (Y 0, 360, .inl (aI (A 21)))), (af 24, .inl (Y 0, 10, .inl (aI (A 24))))]) (wc' := moW Y g9 af (va_up F 22 (min (F 22 + 1) 10)) (va_up A 21 (ntA (A 21) (A 17) (F 22))) tr) (F := []) ⟨hx, hb, hml, hown, hts⟩ (c_X7_note l G Y g9 af F A tr (by omega)) (cwV 0 hts gX7_fells_X7_note rfl rfl rfl (by decide +kernel) ⟨Nat.le_of_ble_eq_true rfl, Nat.le_of_ble_eq_true rfl⟩) hK hP hD hS 0 rfl rfl (Eq.refl [g9, af 1, af 11, af 12, af 16, af 17, af 18, af 19, af 20, af 21, af 24]) rfl hl.1 rfl (Nat.le_of_ble_eq_true rfl) dX7_fells_27 ⟨Nat.zero_le _, Nat.zero_le _⟩ (fun H locs hP hD hS => ?_)
      show W _ _ _ _ _ _ _ _ _ _ _ _ _ _ _ (F0 _ _ _ [])
      replace hP : va_P G vwCl [(g9, .inr (7, [.int (iZ (F 0)), .ref (af 1), .int (iZ (F 2)), .int (iZ (F 3)), .int (iZ (F 4)), .int (iZ (F 5)), .int (iZ (F 6)), .int (iZ (F 7)), .int (iZ (F 8)), .int (iZ (F 9)), .int (iZ (F 10)), .ref (af 11), .ref (af 12), .int (iZ (F 13)), .int (iZ (F 14)), .int (iZ (F 15)), .ref (af 16), .ref (af 17), .ref (af 18), .ref (af 19), .ref (af 20), .ref (af 21), .int (iZ (min (F 22 + 1) 10)), .int (iZ (F 23)), .ref (af 24), .long tr, .int (iZ (F 26)), .int (iZ (F 27)), .int (iZ (F 28))])), (af 1, .inl (Y 0, 200, .inl (aI (A 1)))), (af 11, .inl (Y 0, 7, .inl (aI (A 11)))), (af 12, .inl (Y 0, 36, .inl (aI (A 12)))), (af 16, .inl (Y 0, 7, .inl (aI (A 16)))), (af 17, .inl (Y 0, 36, .inl (aI (A 17)))), (af 18, .inl (Y 0, 41, .inl (aI (A 18)))), (af 19, .inl (Y 0, 72, .inl (aI (A 19)))), (af 20, .inl (Y 1, 2, .inl (aI (A 20)))), (af 21, .inl (Y 0, 360, .inl (aI (ntA (A 21) (A 17) (F 22))))), (af 24, .inl (Y 0, 10, .inl (aI (A 24))))] H := hP
      replace hD : va_D _ [(g9, .inr (7, [.int (iZ (F 0)), .ref (af 1), .int (iZ (F 2)), .int (iZ (F 3)), .int (iZ (F 4)), .int (iZ (F 5)), .int (iZ (F 6)), .int (iZ (F 7)), .int (iZ (F 8)), .int (iZ (F 9)), .int (iZ (F 10)), .ref (af 11), .ref (af 12), .int (iZ (F 13)), .int (iZ (F 14)), .int (iZ (F 15)), .ref (af 16), .ref (af 17), .ref (af 18), .ref (af 19), .ref (af 20), .ref (af 21), .int (iZ (min (F 22 + 1) 10)), .int (iZ (F 23)), .ref (af 24), .long tr, .int (iZ (F 26)), .int (iZ (F 27)), .int (iZ (F 28))])), (af 1, .inl (Y 0, 200, .inl (aI (A 1)))), (af 11, .inl (Y 0, 7, .inl (aI (A 11)))), (af 12, .inl (Y 0, 36, .inl (aI (A 12)))), (af 16, .inl (Y 0, 7, .inl (aI (A 16)))), (af 17, .inl (Y 0, 36, .inl (aI (A 17)))), (af 18, .inl (Y 0, 41, .inl (aI (A 18)))), (af 19, .inl (Y 0, 72, .inl (aI (A 19)))), (af 20, .inl (Y 1, 2, .inl (aI (A 20)))), (af 21, .inl (Y 0, 360, .inl (aI (ntA (A 21) (A 17) (F 22))))), (af 24, .inl (Y 0, 10, .inl (aI (A 24))))] := hD
      refine lv_aload_n hx hb dX7_fells_30 rfl (lv_at hl 0 rfl) ?_
      refine va_get (D := G) (ci := 7) (v := .ref (af 17)) (C := RX7) (T := TX7) (N := 29) hx hb hts hFX7 hown hK.1 hP 0 rfl rfl 17 (by decide) kf29 (fun _ h9 => h9) rfl dX7_fells_31 ?_
      refine z_bipush hx hb dX7_fells_34 (by decide) ?_
      refine lv_iload_n hx hb dX7_fells_36 rfl (lv_at hl 1 rfl) ?_
      refine z_iadd hx hb dX7_fells_37 ?_
      refine z_iald hx hb hK.1 hP 5 0 rfl rfl (((9 + a)).toNat) (by omega) (by decide) dX7_fells_38 ?_
      have eO4 : ((9 + a)).toNat = 9 + a.toNat := by omega
      have hbeO4 := hV.2.2.2.2.1 a.toNat (by omega)
      refine z_top (show (A 17) (((9 + a)).toNat) = (A 17) (9 + a.toNat) by rw [eO4]) ?_
      refine lv_istore_n (lv' := [(2, .int (iZ ((A 17) (9 + a.toNat)))), (0, .ref g9), (1, .int (iZ a))]) hx hb dX7_fells_39 rfl hl (by decide) rfl (fun ls hl => ?_)
      refine lv_aload_n hx hb dX7_fells_40 rfl (lv_at hl 1 rfl) ?_
      refine va_get (D := G) (ci := 7) (v := .ref (af 17)) (C := RX7) (T := TX7) (N := 29) hx hb hts hFX7 hown hK.1 hP 0 rfl rfl 17 (by decide) kf29 (fun _ h9 => h9) rfl dX7_fells_41 ?_
      refine z_bipush hx hb dX7_fells_44 (by decide) ?_
      refine lv_iload_n hx hb dX7_fells_46 rfl (lv_at hl 2 rfl) ?_
      refine z_iadd hx hb dX7_fells_47 ?_
      refine z_iconst hx hb dX7_fells_48 ?_
      refine z_iast hx hb hK.1 hP hD hS 5 0 rfl rfl (((24 + a)).toNat) (by omega) (by decide) dX7_fells_49 (fun H locs hP hD hS => ?_)
      replace hP : va_P G vwCl [(g9, .inr (7, [.int (iZ (F 0)), .ref (af 1), .int (iZ (F 2)), .int (iZ (F 3)), .int (iZ (F 4)), .int (iZ (F 5)), .int (iZ (F 6)), .int (iZ (F 7)), .int (iZ (F 8)), .int (iZ (F 9)), .int (iZ (F 10)), .ref (af 11), .ref (af 12), .int (iZ (F 13)), .int (iZ (F 14)), .int (iZ (F 15)), .ref (af 16), .ref (af 17), .ref (af 18), .ref (af 19), .ref (af 20), .ref (af 21), .int (iZ (min (F 22 + 1) 10)), .int (iZ (F 23)), .ref (af 24), .long tr, .int (iZ (F 26)), .int (iZ (F 27)), .int (iZ (F 28))])), (af 1, .inl (Y 0, 200, .inl (aI (A 1)))), (af 11, .inl (Y 0, 7, .inl (aI (A 11)))), (af 12, .inl (Y 0, 36, .inl (aI (A 12)))), (af 16, .inl (Y 0, 7, .inl (aI (A 16)))), (af 17, .inl (Y 0, 36, .inl (aI (va_up (A 17) (((24 + a)).toNat) 1)))), (af 18, .inl (Y 0, 41, .inl (aI (A 18)))), (af 19, .inl (Y 0, 72, .inl (aI (A 19)))), (af 20, .inl (Y 1, 2, .inl (aI (A 20)))), (af 21, .inl (Y 0, 360, .inl (aI (ntA (A 21) (A 17) (F 22))))), (af 24, .inl (Y 0, 10, .inl (aI (A 24))))] H := hP
      replace hD : va_D _ [(g9, .inr (7, [.int (iZ (F 0)), .ref (af 1), .int (iZ (F 2)), .int (iZ (F 3)), .int (iZ (F 4)), .int (iZ (F 5)), .int (iZ (F 6)), .int (iZ (F 7)), .int (iZ (F 8)), .int (iZ (F 9)), .int (iZ (F 10)), .ref (af 11), .ref (af 12), .int (iZ (F 13)), .int (iZ (F 14)), .int (iZ (F 15)), .ref (af 16), .ref (af 17), .ref (af 18), .ref (af 19), .ref (af 20), .ref (af 21), .int (iZ (min (F 22 + 1) 10)), .int (iZ (F 23)), .ref (af 24), .long tr, .int (iZ (F 26)), .int (iZ (F 27)), .int (iZ (F 28))])), (af 1, .inl (Y 0, 200, .inl (aI (A 1)))), (af 11, .inl (Y 0, 7, .inl (aI (A 11)))), (af 12, .inl (Y 0, 36, .inl (aI (A 12)))), (af 16, .inl (Y 0, 7, .inl (aI (A 16)))), (af 17, .inl (Y 0, 36, .inl (aI (va_up (A 17) (((24 + a)).toNat) 1)))), (af 18, .inl (Y 0, 41, .inl (aI (A 18)))), (af 19, .inl (Y 0, 72, .inl (aI (A 19)))), (af 20, .inl (Y 1, 2, .inl (aI (A 20)))), (af 21, .inl (Y 0, 360, .inl (aI (ntA (A 21) (A 17) (F 22))))), (af 24, .inl (Y 0, 10, .inl (aI (A 24))))] := hD
      refine lv_aload_n hx hb dX7_fells_50 rfl (lv_at hl 1 rfl) ?_
      refine va_get (D := G) (ci := 7) (v := .ref (af 17)) (C := RX7) (T := TX7) (N := 29) hx hb hts hFX7 hown hK.1 hP 0 rfl rfl 17 (by decide) kf29 (fun _ h9 => h9) rfl dX7_fells_51 ?_
      refine z_bipush hx hb dX7_fells_54 (by decide) ?_
      refine lv_iload_n hx hb dX7_fells_56 rfl (lv_at hl 2 rfl) ?_
      refine z_iadd hx hb dX7_fells_57 ?_
      refine z_iconst hx hb dX7_fells_58 ?_
      refine z_iast hx hb hK.1 hP hD hS 5 0 rfl rfl (((9 + a)).toNat) (by omega) (by decide) dX7_fells_59 (fun H locs hP hD hS => ?_)
      replace hP : va_P G vwCl [(g9, .inr (7, [.int (iZ (F 0)), .ref (af 1), .int (iZ (F 2)), .int (iZ (F 3)), .int (iZ (F 4)), .int (iZ (F 5)), .int (iZ (F 6)), .int (iZ (F 7)), .int (iZ (F 8)), .int (iZ (F 9)), .int (iZ (F 10)), .ref (af 11), .ref (af 12), .int (iZ (F 13)), .int (iZ (F 14)), .int (iZ (F 15)), .ref (af 16), .ref (af 17), .ref (af 18), .ref (af 19), .ref (af 20), .ref (af 21), .int (iZ (min (F 22 + 1) 10)), .int (iZ (F 23)), .ref (af 24), .long tr, .int (iZ (F 26)), .int (iZ (F 27)), .int (iZ (F 28))])), (af 1, .inl (Y 0, 200, .inl (aI (A 1)))), (af 11, .inl (Y 0, 7, .inl (aI (A 11)))), (af 12, .inl (Y 0, 36, .inl (aI (A 12)))), (af 16, .inl (Y 0, 7, .inl (aI (A 16)))), (af 17, .inl (Y 0, 36, .inl (aI (va_up (va_up (A 17) (((24 + a)).toNat) 1) (((9 + a)).toNat) 0)))), (af 18, .inl (Y 0, 41, .inl (aI (A 18)))), (af 19, .inl (Y 0, 72, .inl (aI (A 19)))), (af 20, .inl (Y 1, 2, .inl (aI (A 20)))), (af 21, .inl (Y 0, 360, .inl (aI (ntA (A 21) (A 17) (F 22))))), (af 24, .inl (Y 0, 10, .inl (aI (A 24))))] H := hP
      replace hD : va_D _ [(g9, .inr (7, [.int (iZ (F 0)), .ref (af 1), .int (iZ (F 2)), .int (iZ (F 3)), .int (iZ (F 4)), .int (iZ (F 5)), .int (iZ (F 6)), .int (iZ (F 7)), .int (iZ (F 8)), .int (iZ (F 9)), .int (iZ (F 10)), .ref (af 11), .ref (af 12), .int (iZ (F 13)), .int (iZ (F 14)), .int (iZ (F 15)), .ref (af 16), .ref (af 17), .ref (af 18), .ref (af 19), .ref (af 20), .ref (af 21), .int (iZ (min (F 22 + 1) 10)), .int (iZ (F 23)), .ref (af 24), .long tr, .int (iZ (F 26)), .int (iZ (F 27)), .int (iZ (F 28))])), (af 1, .inl (Y 0, 200, .inl (aI (A 1)))), (af 11, .inl (Y 0, 7, .inl (aI (A 11)))), (af 12, .inl (Y 0, 36, .inl (aI (A 12)))), (af 16, .inl (Y 0, 7, .inl (aI (A 16)))), (af 17, .inl (Y 0, 36, .inl (aI (va_up (va_up (A 17) (((24 + a)).toNat) 1) (((9 + a)).toNat) 0)))), (af 18, .inl (Y 0, 41, .inl (aI (A 18)))), (af 19, .inl (Y 0, 72, .inl (aI (A 19)))), (af 20, .inl (Y 1, 2, .inl (aI (A 20)))), (af 21, .inl (Y 0, 360, .inl (aI (ntA (A 21) (A 17) (F 22))))), (af 24, .inl (Y 0, 10, .inl (aI (A 24))))] := hD
      refine lv_iload_n hx hb dX7_fells_60 rfl (lv_at hl 0 rfl) ?_
      refine z_top (show (A 17) (9 + a.toNat) = rFells (kF F A (A 17)) a from ?_) ?_
      · unfold rFells; rw [if_pos (by omega), if_pos (by rw [kF_5 (t := a.toNat) (by omega)]; omega), kF_2 (t := a.toNat) (by omega)]
      have ef : fFells (kF F A (A 17)) a = true := decide_eq_true (⟨by omega, by rw [kF_5 (t := a.toNat) (by omega)]; omega⟩)
      have hP9 : va_P G vwCl (moW Y g9 af (bif fFells (kF F A (A 17)) a then opF F else F) (bif fFells (kF F A (A 17)) a then opA F A (va_up (va_up (A 17) (24 + a).toNat 1) (9 + a).toNat 0) else A) (tr)) H := by rw [ef]; exact hP.sub [0, 1, 2, 3, 4, 5, 6, 7, 8, 9, 10] rfl
      exact W.iret (v := iZ (rFells (kF F A (A 17)) a)) hx hb hr (fun t9 ht9 _ => ⟨rfl, by rw [ht9]; exact hP9, hS.F ht9⟩) hS.2.2 dX7_fells_61
    · skip
      refine z_bipush hx hb dX7_fells_23 (by decide) ?_
      refine z_top (show (-2) = rFells (kF F A (A 17)) a from ?_) ?_
      · unfold rFells; rw [if_pos (by omega), if_neg (by rw [kF_5 (t := a.toNat) (by omega)]; omega)]
      have ef : fFells (kF F A (A 17)) a = false := decide_eq_false (by rintro ⟨-, h2⟩; rw [kF_5 (t := a.toNat) (by omega)] at h2; omega)
      have hP9 : va_P G vwCl (moW Y g9 af (bif fFells (kF F A (A 17)) a then opF F else F) (bif fFells (kF F A (A 17)) a then opA F A (va_up (va_up (A 17) (24 + a).toNat 1) (9 + a).toNat 0) else A) (tr)) H := by rw [ef]; exact hP.sub [0, 1, 2, 3, 4, 5, 6, 7, 8, 9, 10] rfl
      exact W.iret (v := iZ (rFells (kF F A (A 17)) a)) hx hb hr (fun t9 ht9 _ => ⟨rfl, by rw [ht9]; exact hP9, hS.F ht9⟩) hS.2.2 dX7_fells_25
  · skip
    have c_1 := of_decide_eq_false c_1
    refine z_iconst hx hb dX7_fells_8 ?_
    refine z_top (show (-1) = rFells (kF F A (A 17)) a from ?_) ?_
    · unfold rFells; rw [if_neg (by omega)]
    have ef : fFells (kF F A (A 17)) a = false := decide_eq_false (by rintro ⟨h1, -⟩; omega)
    have hP9 : va_P G vwCl (moW Y g9 af (bif fFells (kF F A (A 17)) a then opF F else F) (bif fFells (kF F A (A 17)) a then opA F A (va_up (va_up (A 17) (24 + a).toNat 1) (9 + a).toNat 0) else A) (tr)) H := by rw [ef]; exact hP.sub [0, 1, 2, 3, 4, 5, 6, 7, 8, 9, 10] rfl
    exact W.iret (v := iZ (rFells (kF F A (A 17)) a)) hx hb hr (fun t9 ht9 _ => ⟨rfl, by rw [ht9]; exact hP9, hS.F ht9⟩) hS.2.2 dX7_fells_9

set_option maxHeartbeats 4000000 in
set_option maxRecDepth 100000 in
theorem c_X7_winter (l : Launch) (G : va_G) (Y : Nat → ClassId) (g9 : Nat) (af : Nat → Nat) (F : Nat → Int) (A : Kom) (tr : Int64) (hV : mV F A (A 17)) (hno : F 26 < 0) (ro : 0 ≤ F 22 ∧ F 22 ≤ 10) (a : Int) (r : zR a) : Met l yX7_winter wsX7_winter ({ frames := 2, cells := 0, slots := 0, locals := 45 }) (mP G Y [.ref g9, .int (iZ a)] (moW Y g9 af F A tr)) (mQ G (moW Y g9 af F A tr) (some (.int (iZ (rWint (kF F A (A 17)) a)))) (moW Y g9 af (bif fWint a then opF F else F) (bif fWint a then opA F A (va_up (A 17) 2 a) else A) (tr))) 0 0 (fun q => q ∈ List.map Prod.fst (moW Y g9 af F A tr)) := by
  refine Met.ofW (cc := cX7_winter) (maxL := 3) (ret := (some .int)) (by decide) rfl ?_
  intro p e s m args below meth c s₁ B hml hv
  obtain ⟨rfl, hK, hP, hD0⟩ := hv
  have hx := B.exec
  have hb := B.bytes
  have hr := B.returns
  have hts := atoms_spec (ws := wsX7_winter) B.pre
  have hown : s.vm.findClass RX7 = some m.cls := findClass_of_methodNamed B.named
  have hlocks := B.notSynchronized
  have hFX7 : ∀ w ∈ wsX70, w ∈ wsX7_winter := by decide +kernel
  have kf29 := (hts (.fieldLink RX7 29 "ShadeVotesModel" "now" "[I") (by decide +kernel))
  have hD := va_D_self hD0
  have hS : va_S (fun q => q ∈ List.map Prod.fst (moW Y g9 af F A tr)) s.heap s.heap [] := va_S.rf
  obtain ⟨H, hHe⟩ : ∃ H, H = s.heap := ⟨_, rfl⟩
  rw [← hHe] at hP
  replace hS : va_S (fun q => q ∈ List.map Prod.fst (moW Y g9 af F A tr)) s.heap H [] := by rw [hHe]; exact hS
  have hl := lv_entry ([.ref g9, .int (iZ a)]) (n := 3) (Nat.le_of_ble_eq_true rfl)
  rw [lg_entry_eq]
  generalize (lg_sl ([.ref g9, .int (iZ a)]) ++ List.replicate (3 - (lg_sl ([.ref g9, .int (iZ a)])).length) Slot.unset).toArray = ls at hl ⊢
  replace hl : lv_has ls 3 [(0, .ref g9), (1, .int (iZ a))] := hl
  obtain ⟨locs, hLe⟩ : ∃ locs : List Loc, locs = [] := ⟨_, rfl⟩
  rw [← hLe] at hS ⊢
  have hW0 : ∀ {Q : State → Prop} {g : JFrame}, W p l e ({ frames := 2, cells := 0, slots := 0, locals := 45 }) s m [.ref g9, .int (iZ a)].toArray below meth c H locs 0 0 Q g → W p l e ({ frames := 2, cells := 0, slots := 0, locals := 45 }) s m [.ref g9, .int (iZ a)].toArray below meth c s.heap locs 0 0 Q g := fun h => by rw [← hHe]; exact h
  refine hW0 ?_
  clear hW0 hHe hLe
  have v3 := hV.2.2.1
  have v7 := hV.2.2.2.2.2.2.1
  have v8 := hV.2.2.2.2.2.2.2.1
  have v5 := hV.2.1
  have v4 := hV.2.2.2.1
  have k00 : kF F A (A 17) 0 0 = F 13 := rfl
  have k01 : kF F A (A 17) 0 1 = F 14 := rfl
  have k02 : kF F A (A 17) 0 2 = A 17 3 := rfl
  have k03 : kF F A (A 17) 0 3 = F 15 := rfl
  have k04 : kF F A (A 17) 0 4 = A 17 1 := rfl
  have k05 : kF F A (A 17) 0 5 = A 17 0 := rfl
  have k06 : kF F A (A 17) 0 6 = A 17 2 := rfl
  have kpr : kF F A (A 17) 0 0 * kF F A (A 17) 0 1 = F 13 * F 14 := rfl
  have hW := hV.1
  refine lv_iload_n hx hb dX7_winter_0 rfl (lv_at hl 1 rfl) ?_
  refine z_iconst hx hb dX7_winter_1 ?_
  refine z_iconst hx hb dX7_winter_2 ?_
  refine ro_S (As := [.int (iZ a), .int (iZ 0), .int (iZ 1)]) (rest := []) ⟨hx, hb, hml, hown, hts⟩ (c_X7_in l G Y a 0 1 (by omega)) (cwS 3 hts gX7_winter_X7_in rfl rfl rfl (by decide +kernel) ⟨Nat.le_of_ble_eq_true rfl, Nat.le_of_ble_eq_true rfl⟩) hK (hP.sub (ws' := []) [] rfl) rfl hl.1 rfl (Nat.le_of_ble_eq_true rfl) dX7_winter_3 ⟨Nat.zero_le _, Nat.zero_le _⟩ ?_
  refine z_ifb_ne (tgt := 11) hx hb dX7_winter_6 (by decide) (fun c_1 => ?_) (fun c_1 => ?_)
  · skip
    have c_1 := of_decide_eq_true c_1
    refine lv_aload_n hx hb dX7_winter_11 rfl (lv_at hl 0 rfl) ?_
    have hP := hP.sub (ws' := [(g9, .inr (7, [.int (iZ (F 0)), .ref (af 1), .int (iZ (F 2)), .int (iZ (F 3)), .int (iZ (F 4)), .int (iZ (F 5)), .int (iZ (F 6)), .int (iZ (F 7)), .int (iZ (F 8)), .int (iZ (F 9)), .int (iZ (F 10)), .ref (af 11), .ref (af 12), .int (iZ (F 13)), .int (iZ (F 14)), .int (iZ (F 15)), .ref (af 16), .ref (af 17), .ref (af 18), .ref (af 19), .ref (af 20), .ref (af 21), .int (iZ (F 22)), .int (iZ (F 23)), .ref (af 24), .long tr, .int (iZ (F 26)), .int (iZ (F 27)), .int (iZ (F 28))])), (af 1, .inl (Y 0, 200, .inl (aI (A 1)))), (af 11, .inl (Y 0, 7, .inl (aI (A 11)))), (af 12, .inl (Y 0, 36, .inl (aI (A 12)))), (af 16, .inl (Y 0, 7, .inl (aI (A 16)))), (af 17, .inl (Y 0, 36, .inl (aI (A 17)))), (af 18, .inl (Y 0, 41, .inl (aI (A 18)))), (af 19, .inl (Y 0, 72, .inl (aI (A 19)))), (af 20, .inl (Y 1, 2, .inl (aI (A 20)))), (af 21, .inl (Y 0, 360, .inl (aI (A 21)))), (af 24, .inl (Y 0, 10, .inl (aI (A 24))))] ++ []) [0, 1, 2, 3, 4, 5, 6, 7, 8, 9, 10] rfl
    have hD := hD.sub (ws' := [(g9, .inr (7, [.int (iZ (F 0)), .ref (af 1), .int (iZ (F 2)), .int (iZ (F 3)), .int (iZ (F 4)), .int (iZ (F 5)), .int (iZ (F 6)), .int (iZ (F 7)), .int (iZ (F 8)), .int (iZ (F 9)), .int (iZ (F 10)), .ref (af 11), .ref (af 12), .int (iZ (F 13)), .int (iZ (F 14)), .int (iZ (F 15)), .ref (af 16), .ref (af 17), .ref (af 18), .ref (af 19), .ref (af 20), .ref (af 21), .int (iZ (F 22)), .int (iZ (F 23)), .ref (af 24), .long tr, .int (iZ (F 26)), .int (iZ (F 27)), .int (iZ (F 28))])), (af 1, .inl (Y 0, 200, .inl (aI (A 1)))), (af 11, .inl (Y 0, 7, .inl (aI (A 11)))), (af 12, .inl (Y 0, 36, .inl (aI (A 12)))), (af 16, .inl (Y 0, 7, .inl (aI (A 16)))), (af 17, .inl (Y 0, 36, .inl (aI (A 17)))), (af 18, .inl (Y 0, 41, .inl (aI (A 18)))), (af 19, .inl (Y 0, 72, .inl (aI (A 19)))), (af 20, .inl (Y 1, 2, .inl (aI (A 20)))), (af 21, .inl (Y 0, 360, .inl (aI (A 21)))), (af 24, .inl (Y 0, 10, .inl (aI (A 24))))] ++ []) [0, 1, 2, 3, 4, 5, 6, 7, 8, 9, 10] (by decide) rfl
    refine mu_V (As := []) (rest := []) (wc := [(g9, .inr (7, [.int (iZ (F 0)), .ref (af 1), .int (iZ (F 2)), .int (iZ (F 3)), .int (iZ (F 4)), .int (iZ (F 5)), .int (iZ (F 6)), .int (iZ (F 7)), .int (iZ (F 8)), .int (iZ (F 9)), .int (iZ (F 10)), .ref (af 11), .ref (af 12), .int (iZ (F 13)), .int (iZ (F 14)), .int (iZ (F 15)), .ref (af 16), .ref (af 17), .ref (af 18), .ref (af 19), .ref (af 20), .ref (af 21), .int (iZ (F 22)), .int (iZ (F 23)), .ref (af 24), .long tr, .int (iZ (F 26)), .int (iZ (F 27)), .int (iZ (F 28))])), (af 1, .inl (Y 0, 200, .inl (aI (A 1)))), (af 11, .inl (Y 0, 7, .inl (aI (A 11)))), (af 12, .inl (Y 0, 36, .inl (aI (A 12)))), (af 16, .inl (Y 0, 7, .inl (aI (A 16)))), (af 17, .inl (Y 0, 36, .inl (aI (A 17)))), (af 18, .inl (Y 0, 41, .inl (aI (A 18)))), (af 19, .inl (Y 0, 72, .inl (aI (A 19)))), (af 20, .inl (Y 1, 2, .inl (aI (A 20)))), (af 21, .inl (Y 0, 360, .inl (aI (A 21)))), (af 24, .inl (Y 0, 10, .inl (aI (A 24))))]) (wc' := moW Y g9 af (va_up F 22 (min (F 22 + 1) 10)) (va_up A 21 (ntA (A 21) (A 17) (F 22))) tr) (F := []) ⟨hx, hb, hml, hown, hts⟩ (c_X7_note l G Y g9 af F A tr (by omega)) (cwV 0 hts gX7_winter_X7_note rfl rfl rfl (by decide +kernel) ⟨Nat.le_of_ble_eq_true rfl, Nat.le_of_ble_eq_true rfl⟩) hK hP hD hS 0 rfl rfl (Eq.refl [g9, af 1, af 11, af 12, af 16, af 17, af 18, af 19, af 20, af 21, af 24]) rfl hl.1 rfl (Nat.le_of_ble_eq_true rfl) dX7_winter_12 ⟨Nat.zero_le _, Nat.zero_le _⟩ (fun H locs hP hD hS => ?_)
    show W _ _ _ _ _ _ _ _ _ _ _ _ _ _ _ (F0 _ _ _ [])
    replace hP : va_P G vwCl [(g9, .inr (7, [.int (iZ (F 0)), .ref (af 1), .int (iZ (F 2)), .int (iZ (F 3)), .int (iZ (F 4)), .int (iZ (F 5)), .int (iZ (F 6)), .int (iZ (F 7)), .int (iZ (F 8)), .int (iZ (F 9)), .int (iZ (F 10)), .ref (af 11), .ref (af 12), .int (iZ (F 13)), .int (iZ (F 14)), .int (iZ (F 15)), .ref (af 16), .ref (af 17), .ref (af 18), .ref (af 19), .ref (af 20), .ref (af 21), .int (iZ (min (F 22 + 1) 10)), .int (iZ (F 23)), .ref (af 24), .long tr, .int (iZ (F 26)), .int (iZ (F 27)), .int (iZ (F 28))])), (af 1, .inl (Y 0, 200, .inl (aI (A 1)))), (af 11, .inl (Y 0, 7, .inl (aI (A 11)))), (af 12, .inl (Y 0, 36, .inl (aI (A 12)))), (af 16, .inl (Y 0, 7, .inl (aI (A 16)))), (af 17, .inl (Y 0, 36, .inl (aI (A 17)))), (af 18, .inl (Y 0, 41, .inl (aI (A 18)))), (af 19, .inl (Y 0, 72, .inl (aI (A 19)))), (af 20, .inl (Y 1, 2, .inl (aI (A 20)))), (af 21, .inl (Y 0, 360, .inl (aI (ntA (A 21) (A 17) (F 22))))), (af 24, .inl (Y 0, 10, .inl (aI (A 24))))] H := hP
    replace hD : va_D _ [(g9, .inr (7, [.int (iZ (F 0)), .ref (af 1), .int (iZ (F 2)), .int (iZ (F 3)), .int (iZ (F 4)), .int (iZ (F 5)), .int (iZ (F 6)), .int (iZ (F 7)), .int (iZ (F 8)), .int (iZ (F 9)), .int (iZ (F 10)), .ref (af 11), .ref (af 12), .int (iZ (F 13)), .int (iZ (F 14)), .int (iZ (F 15)), .ref (af 16), .ref (af 17), .ref (af 18), .ref (af 19), .ref (af 20), .ref (af 21), .int (iZ (min (F 22 + 1) 10)), .int (iZ (F 23)), .ref (af 24), .long tr, .int (iZ (F 26)), .int (iZ (F 27)), .int (iZ (F 28))])), (af 1, .inl (Y 0, 200, .inl (aI (A 1)))), (af 11, .inl (Y 0, 7, .inl (aI (A 11)))), (af 12, .inl (Y 0, 36, .inl (aI (A 12)))), (af 16, .inl (Y 0, 7, .inl (aI (A 16)))), (af 17, .inl (Y 0, 36, .inl (aI (A 17)))), (af 18, .inl (Y 0, 41, .inl (aI (A 18)))), (af 19, .inl (Y 0, 72, .inl (aI (A 19)))), (af 20, .inl (Y 1, 2, .inl (aI (A 20)))), (af 21, .inl (Y 0, 360, .inl (aI (ntA (A 21) (A 17) (F 22))))), (af 24, .inl (Y 0, 10, .inl (aI (A 24))))] := hD
    refine lv_aload_n hx hb dX7_winter_15 rfl (lv_at hl 0 rfl) ?_
    refine va_get (D := G) (ci := 7) (v := .ref (af 17)) (C := RX7) (T := TX7) (N := 29) hx hb hts hFX7 hown hK.1 hP 0 rfl rfl 17 (by decide) kf29 (fun _ h9 => h9) rfl dX7_winter_16 ?_
    refine z_iconst hx hb dX7_winter_19 ?_
    refine z_iald hx hb hK.1 hP 5 0 rfl rfl 2 (by omega) (by decide) dX7_winter_20 ?_
    refine lv_istore_n (lv' := [(2, .int (iZ ((A 17) 2))), (0, .ref g9), (1, .int (iZ a))]) hx hb dX7_winter_21 rfl hl (by decide) rfl (fun ls hl => ?_)
    refine lv_aload_n hx hb dX7_winter_22 rfl (lv_at hl 1 rfl) ?_
    refine va_get (D := G) (ci := 7) (v := .ref (af 17)) (C := RX7) (T := TX7) (N := 29) hx hb hts hFX7 hown hK.1 hP 0 rfl rfl 17 (by decide) kf29 (fun _ h9 => h9) rfl dX7_winter_23 ?_
    refine z_iconst hx hb dX7_winter_26 ?_
    refine lv_iload_n hx hb dX7_winter_27 rfl (lv_at hl 2 rfl) ?_
    refine z_iast hx hb hK.1 hP hD hS 5 0 rfl rfl 2 (by omega) (by decide) dX7_winter_28 (fun H locs hP hD hS => ?_)
    replace hP : va_P G vwCl [(g9, .inr (7, [.int (iZ (F 0)), .ref (af 1), .int (iZ (F 2)), .int (iZ (F 3)), .int (iZ (F 4)), .int (iZ (F 5)), .int (iZ (F 6)), .int (iZ (F 7)), .int (iZ (F 8)), .int (iZ (F 9)), .int (iZ (F 10)), .ref (af 11), .ref (af 12), .int (iZ (F 13)), .int (iZ (F 14)), .int (iZ (F 15)), .ref (af 16), .ref (af 17), .ref (af 18), .ref (af 19), .ref (af 20), .ref (af 21), .int (iZ (min (F 22 + 1) 10)), .int (iZ (F 23)), .ref (af 24), .long tr, .int (iZ (F 26)), .int (iZ (F 27)), .int (iZ (F 28))])), (af 1, .inl (Y 0, 200, .inl (aI (A 1)))), (af 11, .inl (Y 0, 7, .inl (aI (A 11)))), (af 12, .inl (Y 0, 36, .inl (aI (A 12)))), (af 16, .inl (Y 0, 7, .inl (aI (A 16)))), (af 17, .inl (Y 0, 36, .inl (aI (va_up (A 17) 2 a)))), (af 18, .inl (Y 0, 41, .inl (aI (A 18)))), (af 19, .inl (Y 0, 72, .inl (aI (A 19)))), (af 20, .inl (Y 1, 2, .inl (aI (A 20)))), (af 21, .inl (Y 0, 360, .inl (aI (ntA (A 21) (A 17) (F 22))))), (af 24, .inl (Y 0, 10, .inl (aI (A 24))))] H := hP
    replace hD : va_D _ [(g9, .inr (7, [.int (iZ (F 0)), .ref (af 1), .int (iZ (F 2)), .int (iZ (F 3)), .int (iZ (F 4)), .int (iZ (F 5)), .int (iZ (F 6)), .int (iZ (F 7)), .int (iZ (F 8)), .int (iZ (F 9)), .int (iZ (F 10)), .ref (af 11), .ref (af 12), .int (iZ (F 13)), .int (iZ (F 14)), .int (iZ (F 15)), .ref (af 16), .ref (af 17), .ref (af 18), .ref (af 19), .ref (af 20), .ref (af 21), .int (iZ (min (F 22 + 1) 10)), .int (iZ (F 23)), .ref (af 24), .long tr, .int (iZ (F 26)), .int (iZ (F 27)), .int (iZ (F 28))])), (af 1, .inl (Y 0, 200, .inl (aI (A 1)))), (af 11, .inl (Y 0, 7, .inl (aI (A 11)))), (af 12, .inl (Y 0, 36, .inl (aI (A 12)))), (af 16, .inl (Y 0, 7, .inl (aI (A 16)))), (af 17, .inl (Y 0, 36, .inl (aI (va_up (A 17) 2 a)))), (af 18, .inl (Y 0, 41, .inl (aI (A 18)))), (af 19, .inl (Y 0, 72, .inl (aI (A 19)))), (af 20, .inl (Y 1, 2, .inl (aI (A 20)))), (af 21, .inl (Y 0, 360, .inl (aI (ntA (A 21) (A 17) (F 22))))), (af 24, .inl (Y 0, 10, .inl (aI (A 24))))] := hD
    refine lv_iload_n hx hb dX7_winter_29 rfl (lv_at hl 0 rfl) ?_
    refine z_top (show (A 17) 2 = rWint (kF F A (A 17)) a from ?_) ?_
    · unfold rWint; rw [if_pos (by omega)]; rfl
    have ef : fWint a = true := decide_eq_true (by omega)
    have hP9 : va_P G vwCl (moW Y g9 af (bif fWint a then opF F else F) (bif fWint a then opA F A (va_up (A 17) 2 a) else A) (tr)) H := by rw [ef]; exact hP.sub [0, 1, 2, 3, 4, 5, 6, 7, 8, 9, 10] rfl
    exact W.iret (v := iZ (rWint (kF F A (A 17)) a)) hx hb hr (fun t9 ht9 _ => ⟨rfl, by rw [ht9]; exact hP9, hS.F ht9⟩) hS.2.2 dX7_winter_30
  · skip
    have c_1 := of_decide_eq_false c_1
    refine z_iconst hx hb dX7_winter_9 ?_
    refine z_top (show (-1) = rWint (kF F A (A 17)) a from ?_) ?_
    · unfold rWint; rw [if_neg (by omega)]
    have ef : fWint a = false := decide_eq_false (by omega)
    have hP9 : va_P G vwCl (moW Y g9 af (bif fWint a then opF F else F) (bif fWint a then opA F A (va_up (A 17) 2 a) else A) (tr)) H := by rw [ef]; exact hP.sub [0, 1, 2, 3, 4, 5, 6, 7, 8, 9, 10] rfl
    exact W.iret (v := iZ (rWint (kF F A (A 17)) a)) hx hb hr (fun t9 ht9 _ => ⟨rfl, by rw [ht9]; exact hP9, hS.F ht9⟩) hS.2.2 dX7_winter_10

set_option maxHeartbeats 4000000 in
set_option maxRecDepth 100000 in
theorem c_X7_sun (l : Launch) (G : va_G) (Y : Nat → ClassId) (g9 : Nat) (af : Nat → Nat) (F : Nat → Int) (A : Kom) (tr : Int64) (hV : mV F A (A 17)) (hno : F 26 < 0) (ro : 0 ≤ F 22 ∧ F 22 ≤ 10) (a : Int) (r : zR a) : Met l yX7_sun wsX7_sun ({ frames := 2, cells := 0, slots := 0, locals := 45 }) (mP G Y [.ref g9, .int (iZ a)] (moW Y g9 af F A tr)) (mQ G (moW Y g9 af F A tr) (some (.int (iZ (rSun (kF F A (A 17)) a)))) (moW Y g9 af (bif fSun a then opF F else F) (bif fSun a then opA F A (va_up (A 17) 1 a) else A) (tr))) 0 0 (fun q => q ∈ List.map Prod.fst (moW Y g9 af F A tr)) := by
  refine Met.ofW (cc := cX7_sun) (maxL := 3) (ret := (some .int)) (by decide) rfl ?_
  intro p e s m args below meth c s₁ B hml hv
  obtain ⟨rfl, hK, hP, hD0⟩ := hv
  have hx := B.exec
  have hb := B.bytes
  have hr := B.returns
  have hts := atoms_spec (ws := wsX7_sun) B.pre
  have hown : s.vm.findClass RX7 = some m.cls := findClass_of_methodNamed B.named
  have hlocks := B.notSynchronized
  have hFX7 : ∀ w ∈ wsX70, w ∈ wsX7_sun := by decide +kernel
  have kf29 := (hts (.fieldLink RX7 29 "ShadeVotesModel" "now" "[I") (by decide +kernel))
  have hD := va_D_self hD0
  have hS : va_S (fun q => q ∈ List.map Prod.fst (moW Y g9 af F A tr)) s.heap s.heap [] := va_S.rf
  obtain ⟨H, hHe⟩ : ∃ H, H = s.heap := ⟨_, rfl⟩
  rw [← hHe] at hP
  replace hS : va_S (fun q => q ∈ List.map Prod.fst (moW Y g9 af F A tr)) s.heap H [] := by rw [hHe]; exact hS
  have hl := lv_entry ([.ref g9, .int (iZ a)]) (n := 3) (Nat.le_of_ble_eq_true rfl)
  rw [lg_entry_eq]
  generalize (lg_sl ([.ref g9, .int (iZ a)]) ++ List.replicate (3 - (lg_sl ([.ref g9, .int (iZ a)])).length) Slot.unset).toArray = ls at hl ⊢
  replace hl : lv_has ls 3 [(0, .ref g9), (1, .int (iZ a))] := hl
  obtain ⟨locs, hLe⟩ : ∃ locs : List Loc, locs = [] := ⟨_, rfl⟩
  rw [← hLe] at hS ⊢
  have hW0 : ∀ {Q : State → Prop} {g : JFrame}, W p l e ({ frames := 2, cells := 0, slots := 0, locals := 45 }) s m [.ref g9, .int (iZ a)].toArray below meth c H locs 0 0 Q g → W p l e ({ frames := 2, cells := 0, slots := 0, locals := 45 }) s m [.ref g9, .int (iZ a)].toArray below meth c s.heap locs 0 0 Q g := fun h => by rw [← hHe]; exact h
  refine hW0 ?_
  clear hW0 hHe hLe
  have v3 := hV.2.2.1
  have v7 := hV.2.2.2.2.2.2.1
  have v8 := hV.2.2.2.2.2.2.2.1
  have v5 := hV.2.1
  have v4 := hV.2.2.2.1
  have k00 : kF F A (A 17) 0 0 = F 13 := rfl
  have k01 : kF F A (A 17) 0 1 = F 14 := rfl
  have k02 : kF F A (A 17) 0 2 = A 17 3 := rfl
  have k03 : kF F A (A 17) 0 3 = F 15 := rfl
  have k04 : kF F A (A 17) 0 4 = A 17 1 := rfl
  have k05 : kF F A (A 17) 0 5 = A 17 0 := rfl
  have k06 : kF F A (A 17) 0 6 = A 17 2 := rfl
  have kpr : kF F A (A 17) 0 0 * kF F A (A 17) 0 1 = F 13 * F 14 := rfl
  have hW := hV.1
  refine lv_iload_n hx hb dX7_sun_0 rfl (lv_at hl 1 rfl) ?_
  refine z_iconst hx hb dX7_sun_1 ?_
  refine z_bipush hx hb dX7_sun_2 (by decide) ?_
  refine ro_S (As := [.int (iZ a), .int (iZ 1), .int (iZ 9)]) (rest := []) ⟨hx, hb, hml, hown, hts⟩ (c_X7_in l G Y a 1 9 (by omega)) (cwS 3 hts gX7_sun_X7_in rfl rfl rfl (by decide +kernel) ⟨Nat.le_of_ble_eq_true rfl, Nat.le_of_ble_eq_true rfl⟩) hK (hP.sub (ws' := []) [] rfl) rfl hl.1 rfl (Nat.le_of_ble_eq_true rfl) dX7_sun_4 ⟨Nat.zero_le _, Nat.zero_le _⟩ ?_
  refine z_ifb_ne (tgt := 12) hx hb dX7_sun_7 (by decide) (fun c_1 => ?_) (fun c_1 => ?_)
  · skip
    have c_1 := of_decide_eq_true c_1
    refine lv_aload_n hx hb dX7_sun_12 rfl (lv_at hl 0 rfl) ?_
    have hP := hP.sub (ws' := [(g9, .inr (7, [.int (iZ (F 0)), .ref (af 1), .int (iZ (F 2)), .int (iZ (F 3)), .int (iZ (F 4)), .int (iZ (F 5)), .int (iZ (F 6)), .int (iZ (F 7)), .int (iZ (F 8)), .int (iZ (F 9)), .int (iZ (F 10)), .ref (af 11), .ref (af 12), .int (iZ (F 13)), .int (iZ (F 14)), .int (iZ (F 15)), .ref (af 16), .ref (af 17), .ref (af 18), .ref (af 19), .ref (af 20), .ref (af 21), .int (iZ (F 22)), .int (iZ (F 23)), .ref (af 24), .long tr, .int (iZ (F 26)), .int (iZ (F 27)), .int (iZ (F 28))])), (af 1, .inl (Y 0, 200, .inl (aI (A 1)))), (af 11, .inl (Y 0, 7, .inl (aI (A 11)))), (af 12, .inl (Y 0, 36, .inl (aI (A 12)))), (af 16, .inl (Y 0, 7, .inl (aI (A 16)))), (af 17, .inl (Y 0, 36, .inl (aI (A 17)))), (af 18, .inl (Y 0, 41, .inl (aI (A 18)))), (af 19, .inl (Y 0, 72, .inl (aI (A 19)))), (af 20, .inl (Y 1, 2, .inl (aI (A 20)))), (af 21, .inl (Y 0, 360, .inl (aI (A 21)))), (af 24, .inl (Y 0, 10, .inl (aI (A 24))))] ++ []) [0, 1, 2, 3, 4, 5, 6, 7, 8, 9, 10] rfl
    have hD := hD.sub (ws' := [(g9, .inr (7, [.int (iZ (F 0)), .ref (af 1), .int (iZ (F 2)), .int (iZ (F 3)), .int (iZ (F 4)), .int (iZ (F 5)), .int (iZ (F 6)), .int (iZ (F 7)), .int (iZ (F 8)), .int (iZ (F 9)), .int (iZ (F 10)), .ref (af 11), .ref (af 12), .int (iZ (F 13)), .int (iZ (F 14)), .int (iZ (F 15)), .ref (af 16), .ref (af 17), .ref (af 18), .ref (af 19), .ref (af 20), .ref (af 21), .int (iZ (F 22)), .int (iZ (F 23)), .ref (af 24), .long tr, .int (iZ (F 26)), .int (iZ (F 27)), .int (iZ (F 28))])), (af 1, .inl (Y 0, 200, .inl (aI (A 1)))), (af 11, .inl (Y 0, 7, .inl (aI (A 11)))), (af 12, .inl (Y 0, 36, .inl (aI (A 12)))), (af 16, .inl (Y 0, 7, .inl (aI (A 16)))), (af 17, .inl (Y 0, 36, .inl (aI (A 17)))), (af 18, .inl (Y 0, 41, .inl (aI (A 18)))), (af 19, .inl (Y 0, 72, .inl (aI (A 19)))), (af 20, .inl (Y 1, 2, .inl (aI (A 20)))), (af 21, .inl (Y 0, 360, .inl (aI (A 21)))), (af 24, .inl (Y 0, 10, .inl (aI (A 24))))] ++ []) [0, 1, 2, 3, 4, 5, 6, 7, 8, 9, 10] (by decide) rfl
    refine mu_V (As := []) (rest := []) (wc := [(g9, .inr (7, [.int (iZ (F 0)), .ref (af 1), .int (iZ (F 2)), .int (iZ (F 3)), .int (iZ (F 4)), .int (iZ (F 5)), .int (iZ (F 6)), .int (iZ (F 7)), .int (iZ (F 8)), .int (iZ (F 9)), .int (iZ (F 10)), .ref (af 11), .ref (af 12), .int (iZ (F 13)), .int (iZ (F 14)), .int (iZ (F 15)), .ref (af 16), .ref (af 17), .ref (af 18), .ref (af 19), .ref (af 20), .ref (af 21), .int (iZ (F 22)), .int (iZ (F 23)), .ref (af 24), .long tr, .int (iZ (F 26)), .int (iZ (F 27)), .int (iZ (F 28))])), (af 1, .inl (Y 0, 200, .inl (aI (A 1)))), (af 11, .inl (Y 0, 7, .inl (aI (A 11)))), (af 12, .inl (Y 0, 36, .inl (aI (A 12)))), (af 16, .inl (Y 0, 7, .inl (aI (A 16)))), (af 17, .inl (Y 0, 36, .inl (aI (A 17)))), (af 18, .inl (Y 0, 41, .inl (aI (A 18)))), (af 19, .inl (Y 0, 72, .inl (aI (A 19)))), (af 20, .inl (Y 1, 2, .inl (aI (A 20)))), (af 21, .inl (Y 0, 360, .inl (aI (A 21)))), (af 24, .inl (Y 0, 10, .inl (aI (A 24))))]) (wc' := moW Y g9 af (va_up F 22 (min (F 22 + 1) 10)) (va_up A 21 (ntA (A 21) (A 17) (F 22))) tr) (F := []) ⟨hx, hb, hml, hown, hts⟩ (c_X7_note l G Y g9 af F A tr (by omega)) (cwV 0 hts gX7_sun_X7_note rfl rfl rfl (by decide +kernel) ⟨Nat.le_of_ble_eq_true rfl, Nat.le_of_ble_eq_true rfl⟩) hK hP hD hS 0 rfl rfl (Eq.refl [g9, af 1, af 11, af 12, af 16, af 17, af 18, af 19, af 20, af 21, af 24]) rfl hl.1 rfl (Nat.le_of_ble_eq_true rfl) dX7_sun_13 ⟨Nat.zero_le _, Nat.zero_le _⟩ (fun H locs hP hD hS => ?_)
    show W _ _ _ _ _ _ _ _ _ _ _ _ _ _ _ (F0 _ _ _ [])
    replace hP : va_P G vwCl [(g9, .inr (7, [.int (iZ (F 0)), .ref (af 1), .int (iZ (F 2)), .int (iZ (F 3)), .int (iZ (F 4)), .int (iZ (F 5)), .int (iZ (F 6)), .int (iZ (F 7)), .int (iZ (F 8)), .int (iZ (F 9)), .int (iZ (F 10)), .ref (af 11), .ref (af 12), .int (iZ (F 13)), .int (iZ (F 14)), .int (iZ (F 15)), .ref (af 16), .ref (af 17), .ref (af 18), .ref (af 19), .ref (af 20), .ref (af 21), .int (iZ (min (F 22 + 1) 10)), .int (iZ (F 23)), .ref (af 24), .long tr, .int (iZ (F 26)), .int (iZ (F 27)), .int (iZ (F 28))])), (af 1, .inl (Y 0, 200, .inl (aI (A 1)))), (af 11, .inl (Y 0, 7, .inl (aI (A 11)))), (af 12, .inl (Y 0, 36, .inl (aI (A 12)))), (af 16, .inl (Y 0, 7, .inl (aI (A 16)))), (af 17, .inl (Y 0, 36, .inl (aI (A 17)))), (af 18, .inl (Y 0, 41, .inl (aI (A 18)))), (af 19, .inl (Y 0, 72, .inl (aI (A 19)))), (af 20, .inl (Y 1, 2, .inl (aI (A 20)))), (af 21, .inl (Y 0, 360, .inl (aI (ntA (A 21) (A 17) (F 22))))), (af 24, .inl (Y 0, 10, .inl (aI (A 24))))] H := hP
    replace hD : va_D _ [(g9, .inr (7, [.int (iZ (F 0)), .ref (af 1), .int (iZ (F 2)), .int (iZ (F 3)), .int (iZ (F 4)), .int (iZ (F 5)), .int (iZ (F 6)), .int (iZ (F 7)), .int (iZ (F 8)), .int (iZ (F 9)), .int (iZ (F 10)), .ref (af 11), .ref (af 12), .int (iZ (F 13)), .int (iZ (F 14)), .int (iZ (F 15)), .ref (af 16), .ref (af 17), .ref (af 18), .ref (af 19), .ref (af 20), .ref (af 21), .int (iZ (min (F 22 + 1) 10)), .int (iZ (F 23)), .ref (af 24), .long tr, .int (iZ (F 26)), .int (iZ (F 27)), .int (iZ (F 28))])), (af 1, .inl (Y 0, 200, .inl (aI (A 1)))), (af 11, .inl (Y 0, 7, .inl (aI (A 11)))), (af 12, .inl (Y 0, 36, .inl (aI (A 12)))), (af 16, .inl (Y 0, 7, .inl (aI (A 16)))), (af 17, .inl (Y 0, 36, .inl (aI (A 17)))), (af 18, .inl (Y 0, 41, .inl (aI (A 18)))), (af 19, .inl (Y 0, 72, .inl (aI (A 19)))), (af 20, .inl (Y 1, 2, .inl (aI (A 20)))), (af 21, .inl (Y 0, 360, .inl (aI (ntA (A 21) (A 17) (F 22))))), (af 24, .inl (Y 0, 10, .inl (aI (A 24))))] := hD
    refine lv_aload_n hx hb dX7_sun_16 rfl (lv_at hl 0 rfl) ?_
    refine va_get (D := G) (ci := 7) (v := .ref (af 17)) (C := RX7) (T := TX7) (N := 29) hx hb hts hFX7 hown hK.1 hP 0 rfl rfl 17 (by decide) kf29 (fun _ h9 => h9) rfl dX7_sun_17 ?_
    refine z_iconst hx hb dX7_sun_20 ?_
    refine z_iald hx hb hK.1 hP 5 0 rfl rfl 1 (by omega) (by decide) dX7_sun_21 ?_
    refine lv_istore_n (lv' := [(2, .int (iZ ((A 17) 1))), (0, .ref g9), (1, .int (iZ a))]) hx hb dX7_sun_22 rfl hl (by decide) rfl (fun ls hl => ?_)
    refine lv_aload_n hx hb dX7_sun_23 rfl (lv_at hl 1 rfl) ?_
    refine va_get (D := G) (ci := 7) (v := .ref (af 17)) (C := RX7) (T := TX7) (N := 29) hx hb hts hFX7 hown hK.1 hP 0 rfl rfl 17 (by decide) kf29 (fun _ h9 => h9) rfl dX7_sun_24 ?_
    refine z_iconst hx hb dX7_sun_27 ?_
    refine lv_iload_n hx hb dX7_sun_28 rfl (lv_at hl 2 rfl) ?_
    refine z_iast hx hb hK.1 hP hD hS 5 0 rfl rfl 1 (by omega) (by decide) dX7_sun_29 (fun H locs hP hD hS => ?_)
    replace hP : va_P G vwCl [(g9, .inr (7, [.int (iZ (F 0)), .ref (af 1), .int (iZ (F 2)), .int (iZ (F 3)), .int (iZ (F 4)), .int (iZ (F 5)), .int (iZ (F 6)), .int (iZ (F 7)), .int (iZ (F 8)), .int (iZ (F 9)), .int (iZ (F 10)), .ref (af 11), .ref (af 12), .int (iZ (F 13)), .int (iZ (F 14)), .int (iZ (F 15)), .ref (af 16), .ref (af 17), .ref (af 18), .ref (af 19), .ref (af 20), .ref (af 21), .int (iZ (min (F 22 + 1) 10)), .int (iZ (F 23)), .ref (af 24), .long tr, .int (iZ (F 26)), .int (iZ (F 27)), .int (iZ (F 28))])), (af 1, .inl (Y 0, 200, .inl (aI (A 1)))), (af 11, .inl (Y 0, 7, .inl (aI (A 11)))), (af 12, .inl (Y 0, 36, .inl (aI (A 12)))), (af 16, .inl (Y 0, 7, .inl (aI (A 16)))), (af 17, .inl (Y 0, 36, .inl (aI (va_up (A 17) 1 a)))), (af 18, .inl (Y 0, 41, .inl (aI (A 18)))), (af 19, .inl (Y 0, 72, .inl (aI (A 19)))), (af 20, .inl (Y 1, 2, .inl (aI (A 20)))), (af 21, .inl (Y 0, 360, .inl (aI (ntA (A 21) (A 17) (F 22))))), (af 24, .inl (Y 0, 10, .inl (aI (A 24))))] H := hP
    replace hD : va_D _ [(g9, .inr (7, [.int (iZ (F 0)), .ref (af 1), .int (iZ (F 2)), .int (iZ (F 3)), .int (iZ (F 4)), .int (iZ (F 5)), .int (iZ (F 6)), .int (iZ (F 7)), .int (iZ (F 8)), .int (iZ (F 9)), .int (iZ (F 10)), .ref (af 11), .ref (af 12), .int (iZ (F 13)), .int (iZ (F 14)), .int (iZ (F 15)), .ref (af 16), .ref (af 17), .ref (af 18), .ref (af 19), .ref (af 20), .ref (af 21), .int (iZ (min (F 22 + 1) 10)), .int (iZ (F 23)), .ref (af 24), .long tr, .int (iZ (F 26)), .int (iZ (F 27)), .int (iZ (F 28))])), (af 1, .inl (Y 0, 200, .inl (aI (A 1)))), (af 11, .inl (Y 0, 7, .inl (aI (A 11)))), (af 12, .inl (Y 0, 36, .inl (aI (A 12)))), (af 16, .inl (Y 0, 7, .inl (aI (A 16)))), (af 17, .inl (Y 0, 36, .inl (aI (va_up (A 17) 1 a)))), (af 18, .inl (Y 0, 41, .inl (aI (A 18)))), (af 19, .inl (Y 0, 72, .inl (aI (A 19)))), (af 20, .inl (Y 1, 2, .inl (aI (A 20)))), (af 21, .inl (Y 0, 360, .inl (aI (ntA (A 21) (A 17) (F 22))))), (af 24, .inl (Y 0, 10, .inl (aI (A 24))))] := hD
    refine lv_iload_n hx hb dX7_sun_30 rfl (lv_at hl 0 rfl) ?_
    refine z_top (show (A 17) 1 = rSun (kF F A (A 17)) a from ?_) ?_
    · unfold rSun; rw [if_pos (by omega)]; rfl
    have ef : fSun a = true := decide_eq_true (by omega)
    have hP9 : va_P G vwCl (moW Y g9 af (bif fSun a then opF F else F) (bif fSun a then opA F A (va_up (A 17) 1 a) else A) (tr)) H := by rw [ef]; exact hP.sub [0, 1, 2, 3, 4, 5, 6, 7, 8, 9, 10] rfl
    exact W.iret (v := iZ (rSun (kF F A (A 17)) a)) hx hb hr (fun t9 ht9 _ => ⟨rfl, by rw [ht9]; exact hP9, hS.F ht9⟩) hS.2.2 dX7_sun_31
  · skip
    have c_1 := of_decide_eq_false c_1
    refine z_iconst hx hb dX7_sun_10 ?_
    refine z_top (show (-1) = rSun (kF F A (A 17)) a from ?_) ?_
    · unfold rSun; rw [if_neg (by omega)]
    have ef : fSun a = false := decide_eq_false (by omega)
    have hP9 : va_P G vwCl (moW Y g9 af (bif fSun a then opF F else F) (bif fSun a then opA F A (va_up (A 17) 1 a) else A) (tr)) H := by rw [ef]; exact hP.sub [0, 1, 2, 3, 4, 5, 6, 7, 8, 9, 10] rfl
    exact W.iret (v := iZ (rSun (kF F A (A 17)) a)) hx hb hr (fun t9 ht9 _ => ⟨rfl, by rw [ht9]; exact hP9, hS.F ht9⟩) hS.2.2 dX7_sun_11

set_option maxHeartbeats 4000000 in
set_option maxRecDepth 100000 in
theorem c_X7_undo (l : Launch) (G : va_G) (Y : Nat → ClassId) (g9 : Nat) (af : Nat → Nat) (F : Nat → Int) (A : Kom) (tr : Int64) (ro : 0 ≤ F 22 ∧ F 22 ≤ 10) : Met l yX7_undo wsX7_undo ({ frames := 1, cells := 0, slots := 0, locals := 24 }) (mP G Y [.ref g9] (moW Y g9 af F A tr)) (mQ G (moW Y g9 af F A tr) (some (.int (iZ (rUndo (F 22))))) (moW Y g9 af (bif decide (F 22 ≠ 0) then va_up F 22 (F 22 - 1) else F) (bif decide (F 22 ≠ 0) then va_up A 17 (va_cpy (A 21) (A 17) (36 * (F 22 - 1)).toNat 0 36) else A) (tr))) 0 0 (fun q => q ∈ List.map Prod.fst (moW Y g9 af F A tr)) := by
  refine Met.ofW (cc := cX7_undo) (maxL := 1) (ret := (some .int)) (by decide) rfl ?_
  intro p e s m args below meth c s₁ B hml hv
  obtain ⟨rfl, hK, hP, hD0⟩ := hv
  have hx := B.exec
  have hb := B.bytes
  have hr := B.returns
  have hts := atoms_spec (ws := wsX7_undo) B.pre
  have hown : s.vm.findClass RX7 = some m.cls := findClass_of_methodNamed B.named
  have hlocks := B.notSynchronized
  have hFX7 : ∀ w ∈ wsX70, w ∈ wsX7_undo := by decide +kernel
  have kf119 := (hts (.fieldLink RX7 119 "ShadeVotesModel" "backs" "I") (by decide +kernel))
  have kf42 := (hts (.fieldLink RX7 42 "ShadeVotesModel" "backOf" "[I") (by decide +kernel))
  have kf29 := (hts (.fieldLink RX7 29 "ShadeVotesModel" "now" "[I") (by decide +kernel))
  have hD := va_D_self hD0
  have hS : va_S (fun q => q ∈ List.map Prod.fst (moW Y g9 af F A tr)) s.heap s.heap [] := va_S.rf
  obtain ⟨H, hHe⟩ : ∃ H, H = s.heap := ⟨_, rfl⟩
  rw [← hHe] at hP
  replace hS : va_S (fun q => q ∈ List.map Prod.fst (moW Y g9 af F A tr)) s.heap H [] := by rw [hHe]; exact hS
  have hl := lv_entry ([.ref g9]) (n := 1) (Nat.le_of_ble_eq_true rfl)
  rw [lg_entry_eq]
  generalize (lg_sl ([.ref g9]) ++ List.replicate (1 - (lg_sl ([.ref g9])).length) Slot.unset).toArray = ls at hl ⊢
  replace hl : lv_has ls 1 [(0, .ref g9)] := hl
  obtain ⟨locs, hLe⟩ : ∃ locs : List Loc, locs = [] := ⟨_, rfl⟩
  rw [← hLe] at hS ⊢
  have hW0 : ∀ {Q : State → Prop} {g : JFrame}, W p l e ({ frames := 1, cells := 0, slots := 0, locals := 24 }) s m [.ref g9].toArray below meth c H locs 0 0 Q g → W p l e ({ frames := 1, cells := 0, slots := 0, locals := 24 }) s m [.ref g9].toArray below meth c s.heap locs 0 0 Q g := fun h => by rw [← hHe]; exact h
  refine hW0 ?_
  clear hW0 hHe hLe
  refine lv_aload_n hx hb dX7_undo_0 rfl (lv_at hl 0 rfl) ?_
  refine va_get (D := G) (ci := 7) (v := .int (iZ (F 22))) (C := RX7) (T := TX7) (N := 29) hx hb hts hFX7 hown hK.1 hP 0 rfl rfl 22 (by decide) kf119 (fun _ h9 => h9) rfl dX7_undo_1 ?_
  refine z_if_ne (tgt := 10) hx hb dX7_undo_4 (by decide) (by omega) (fun c_1 => ?_) (fun c_1 => ?_)
  · skip
    refine lv_aload_n hx hb dX7_undo_10 rfl (lv_at hl 0 rfl) ?_
    refine lv_dup hx hb dX7_undo_11 rfl ?_
    refine va_get (D := G) (ci := 7) (v := .int (iZ (F 22))) (C := RX7) (T := TX7) (N := 29) hx hb hts hFX7 hown hK.1 hP 0 rfl rfl 22 (by decide) kf119 (fun _ h9 => h9) rfl dX7_undo_12 ?_
    refine z_iconst hx hb dX7_undo_15 ?_
    refine z_isub hx hb dX7_undo_16 ?_
    refine va_put (D := G) (ci := 7) (v := .int (iZ (F 22 - 1))) (ty := .int) (C := RX7) (T := TX7) (N := 29) hx hb hts hFX7 tyX7 tyX7_ok nmX7 hown hK.1 hP hD hS 0 rfl rfl 22 (by decide) kf119 (fun _ h9 => h9) rfl (by decide +kernel) rfl rfl (Nat.le_of_ble_eq_true rfl) dX7_undo_17 (fun H locs hP hD hS => ?_)
    replace hP : va_P G vwCl [(g9, .inr (7, [.int (iZ (F 0)), .ref (af 1), .int (iZ (F 2)), .int (iZ (F 3)), .int (iZ (F 4)), .int (iZ (F 5)), .int (iZ (F 6)), .int (iZ (F 7)), .int (iZ (F 8)), .int (iZ (F 9)), .int (iZ (F 10)), .ref (af 11), .ref (af 12), .int (iZ (F 13)), .int (iZ (F 14)), .int (iZ (F 15)), .ref (af 16), .ref (af 17), .ref (af 18), .ref (af 19), .ref (af 20), .ref (af 21), .int (iZ (F 22 - 1)), .int (iZ (F 23)), .ref (af 24), .long tr, .int (iZ (F 26)), .int (iZ (F 27)), .int (iZ (F 28))])), (af 1, .inl (Y 0, 200, .inl (aI (A 1)))), (af 11, .inl (Y 0, 7, .inl (aI (A 11)))), (af 12, .inl (Y 0, 36, .inl (aI (A 12)))), (af 16, .inl (Y 0, 7, .inl (aI (A 16)))), (af 17, .inl (Y 0, 36, .inl (aI (A 17)))), (af 18, .inl (Y 0, 41, .inl (aI (A 18)))), (af 19, .inl (Y 0, 72, .inl (aI (A 19)))), (af 20, .inl (Y 1, 2, .inl (aI (A 20)))), (af 21, .inl (Y 0, 360, .inl (aI (A 21)))), (af 24, .inl (Y 0, 10, .inl (aI (A 24))))] H := hP
    replace hD : va_D _ [(g9, .inr (7, [.int (iZ (F 0)), .ref (af 1), .int (iZ (F 2)), .int (iZ (F 3)), .int (iZ (F 4)), .int (iZ (F 5)), .int (iZ (F 6)), .int (iZ (F 7)), .int (iZ (F 8)), .int (iZ (F 9)), .int (iZ (F 10)), .ref (af 11), .ref (af 12), .int (iZ (F 13)), .int (iZ (F 14)), .int (iZ (F 15)), .ref (af 16), .ref (af 17), .ref (af 18), .ref (af 19), .ref (af 20), .ref (af 21), .int (iZ (F 22 - 1)), .int (iZ (F 23)), .ref (af 24), .long tr, .int (iZ (F 26)), .int (iZ (F 27)), .int (iZ (F 28))])), (af 1, .inl (Y 0, 200, .inl (aI (A 1)))), (af 11, .inl (Y 0, 7, .inl (aI (A 11)))), (af 12, .inl (Y 0, 36, .inl (aI (A 12)))), (af 16, .inl (Y 0, 7, .inl (aI (A 16)))), (af 17, .inl (Y 0, 36, .inl (aI (A 17)))), (af 18, .inl (Y 0, 41, .inl (aI (A 18)))), (af 19, .inl (Y 0, 72, .inl (aI (A 19)))), (af 20, .inl (Y 1, 2, .inl (aI (A 20)))), (af 21, .inl (Y 0, 360, .inl (aI (A 21)))), (af 24, .inl (Y 0, 10, .inl (aI (A 24))))] := hD
    refine lv_aload_n hx hb dX7_undo_20 rfl (lv_at hl 0 rfl) ?_
    refine va_get (D := G) (ci := 7) (v := .ref (af 21)) (C := RX7) (T := TX7) (N := 29) hx hb hts hFX7 hown hK.1 hP 0 rfl rfl 21 (by decide) kf42 (fun _ h9 => h9) rfl dX7_undo_21 ?_
    refine z_bipush hx hb dX7_undo_24 (by decide) ?_
    refine lv_aload_n hx hb dX7_undo_26 rfl (lv_at hl 0 rfl) ?_
    refine va_get (D := G) (ci := 7) (v := .int (iZ (F 22 - 1))) (C := RX7) (T := TX7) (N := 29) hx hb hts hFX7 hown hK.1 hP 0 rfl rfl 22 (by decide) kf119 (fun _ h9 => h9) rfl dX7_undo_27 ?_
    refine z_imul hx hb dX7_undo_30 ?_
    refine lv_aload_n hx hb dX7_undo_31 rfl (lv_at hl 0 rfl) ?_
    refine va_get (D := G) (ci := 7) (v := .ref (af 17)) (C := RX7) (T := TX7) (N := 29) hx hb hts hFX7 hown hK.1 hP 0 rfl rfl 17 (by decide) kf29 (fun _ h9 => h9) rfl dX7_undo_32 ?_
    refine z_iconst hx hb dX7_undo_35 ?_
    have hP := hP.sub (ws' := [(af 21, .inl (Y 0, 360, .inl (aI (A 21)))), (af 17, .inl (Y 0, 36, .inl (aI (A 17))))] ++ [(g9, .inr (7, [.int (iZ (F 0)), .ref (af 1), .int (iZ (F 2)), .int (iZ (F 3)), .int (iZ (F 4)), .int (iZ (F 5)), .int (iZ (F 6)), .int (iZ (F 7)), .int (iZ (F 8)), .int (iZ (F 9)), .int (iZ (F 10)), .ref (af 11), .ref (af 12), .int (iZ (F 13)), .int (iZ (F 14)), .int (iZ (F 15)), .ref (af 16), .ref (af 17), .ref (af 18), .ref (af 19), .ref (af 20), .ref (af 21), .int (iZ (F 22 - 1)), .int (iZ (F 23)), .ref (af 24), .long tr, .int (iZ (F 26)), .int (iZ (F 27)), .int (iZ (F 28))])), (af 1, .inl (Y 0, 200, .inl (aI (A 1)))), (af 11, .inl (Y 0, 7, .inl (aI (A 11)))), (af 12, .inl (Y 0, 36, .inl (aI (A 12)))), (af 16, .inl (Y 0, 7, .inl (aI (A 16)))), (af 18, .inl (Y 0, 41, .inl (aI (A 18)))), (af 19, .inl (Y 0, 72, .inl (aI (A 19)))), (af 20, .inl (Y 1, 2, .inl (aI (A 20)))), (af 24, .inl (Y 0, 10, .inl (aI (A 24))))]) [9, 5, 0, 1, 2, 3, 4, 6, 7, 8, 10] rfl
    have hD := hD.sub (ws' := [(af 21, .inl (Y 0, 360, .inl (aI (A 21)))), (af 17, .inl (Y 0, 36, .inl (aI (A 17))))] ++ [(g9, .inr (7, [.int (iZ (F 0)), .ref (af 1), .int (iZ (F 2)), .int (iZ (F 3)), .int (iZ (F 4)), .int (iZ (F 5)), .int (iZ (F 6)), .int (iZ (F 7)), .int (iZ (F 8)), .int (iZ (F 9)), .int (iZ (F 10)), .ref (af 11), .ref (af 12), .int (iZ (F 13)), .int (iZ (F 14)), .int (iZ (F 15)), .ref (af 16), .ref (af 17), .ref (af 18), .ref (af 19), .ref (af 20), .ref (af 21), .int (iZ (F 22 - 1)), .int (iZ (F 23)), .ref (af 24), .long tr, .int (iZ (F 26)), .int (iZ (F 27)), .int (iZ (F 28))])), (af 1, .inl (Y 0, 200, .inl (aI (A 1)))), (af 11, .inl (Y 0, 7, .inl (aI (A 11)))), (af 12, .inl (Y 0, 36, .inl (aI (A 12)))), (af 16, .inl (Y 0, 7, .inl (aI (A 16)))), (af 18, .inl (Y 0, 41, .inl (aI (A 18)))), (af 19, .inl (Y 0, 72, .inl (aI (A 19)))), (af 20, .inl (Y 1, 2, .inl (aI (A 20)))), (af 24, .inl (Y 0, 10, .inl (aI (A 24))))]) [9, 5, 0, 1, 2, 3, 4, 6, 7, 8, 10] (by decide) rfl
    refine mu_S (As := [.ref (af 21), .int (iZ (36 * (F 22 - 1))), .ref (af 17), .int (iZ 0)]) (rest := []) (wc := [(af 21, .inl (Y 0, 360, .inl (aI (A 21)))), (af 17, .inl (Y 0, 36, .inl (aI (A 17))))]) (wc' := cpW Y (af 21) (af 17) 360 36 (A 21) (va_cpy (A 21) (A 17) (Int.toNat (36 * (F 22 - 1))) (Int.toNat 0) 36)) (F := [(g9, .inr (7, [.int (iZ (F 0)), .ref (af 1), .int (iZ (F 2)), .int (iZ (F 3)), .int (iZ (F 4)), .int (iZ (F 5)), .int (iZ (F 6)), .int (iZ (F 7)), .int (iZ (F 8)), .int (iZ (F 9)), .int (iZ (F 10)), .ref (af 11), .ref (af 12), .int (iZ (F 13)), .int (iZ (F 14)), .int (iZ (F 15)), .ref (af 16), .ref (af 17), .ref (af 18), .ref (af 19), .ref (af 20), .ref (af 21), .int (iZ (F 22 - 1)), .int (iZ (F 23)), .ref (af 24), .long tr, .int (iZ (F 26)), .int (iZ (F 27)), .int (iZ (F 28))])), (af 1, .inl (Y 0, 200, .inl (aI (A 1)))), (af 11, .inl (Y 0, 7, .inl (aI (A 11)))), (af 12, .inl (Y 0, 36, .inl (aI (A 12)))), (af 16, .inl (Y 0, 7, .inl (aI (A 16)))), (af 18, .inl (Y 0, 41, .inl (aI (A 18)))), (af 19, .inl (Y 0, 72, .inl (aI (A 19)))), (af 20, .inl (Y 1, 2, .inl (aI (A 20)))), (af 24, .inl (Y 0, 10, .inl (aI (A 24))))]) ⟨hx, hb, hml, hown, hts⟩ (c_X7_copy l G Y (af 21) (af 17) 360 36 (A 21) (A 17) (36 * (F 22 - 1)) 0 (by omega)) (cwS 4 hts gX7_undo_X7_copy rfl rfl rfl (by decide +kernel) ⟨Nat.le_of_ble_eq_true rfl, Nat.le_of_ble_eq_true rfl⟩) hK hP hD hS (Eq.refl [af 21, af 17]) rfl hl.1 rfl (Nat.le_of_ble_eq_true rfl) dX7_undo_36 ⟨Nat.zero_le _, Nat.zero_le _⟩ (fun H locs hP hD hS => ?_)
    show W _ _ _ _ _ _ _ _ _ _ _ _ _ _ _ (F0 _ _ _ [])
    replace hP : va_P G vwCl [(af 21, .inl (Y 0, 360, .inl (aI (A 21)))), (af 17, .inl (Y 0, 36, .inl (aI (va_cpy (A 21) (A 17) (Int.toNat (36 * (F 22 - 1))) (Int.toNat 0) 36)))), (g9, .inr (7, [.int (iZ (F 0)), .ref (af 1), .int (iZ (F 2)), .int (iZ (F 3)), .int (iZ (F 4)), .int (iZ (F 5)), .int (iZ (F 6)), .int (iZ (F 7)), .int (iZ (F 8)), .int (iZ (F 9)), .int (iZ (F 10)), .ref (af 11), .ref (af 12), .int (iZ (F 13)), .int (iZ (F 14)), .int (iZ (F 15)), .ref (af 16), .ref (af 17), .ref (af 18), .ref (af 19), .ref (af 20), .ref (af 21), .int (iZ (F 22 - 1)), .int (iZ (F 23)), .ref (af 24), .long tr, .int (iZ (F 26)), .int (iZ (F 27)), .int (iZ (F 28))])), (af 1, .inl (Y 0, 200, .inl (aI (A 1)))), (af 11, .inl (Y 0, 7, .inl (aI (A 11)))), (af 12, .inl (Y 0, 36, .inl (aI (A 12)))), (af 16, .inl (Y 0, 7, .inl (aI (A 16)))), (af 18, .inl (Y 0, 41, .inl (aI (A 18)))), (af 19, .inl (Y 0, 72, .inl (aI (A 19)))), (af 20, .inl (Y 1, 2, .inl (aI (A 20)))), (af 24, .inl (Y 0, 10, .inl (aI (A 24))))] H := hP
    replace hD : va_D _ [(af 21, .inl (Y 0, 360, .inl (aI (A 21)))), (af 17, .inl (Y 0, 36, .inl (aI (va_cpy (A 21) (A 17) (Int.toNat (36 * (F 22 - 1))) (Int.toNat 0) 36)))), (g9, .inr (7, [.int (iZ (F 0)), .ref (af 1), .int (iZ (F 2)), .int (iZ (F 3)), .int (iZ (F 4)), .int (iZ (F 5)), .int (iZ (F 6)), .int (iZ (F 7)), .int (iZ (F 8)), .int (iZ (F 9)), .int (iZ (F 10)), .ref (af 11), .ref (af 12), .int (iZ (F 13)), .int (iZ (F 14)), .int (iZ (F 15)), .ref (af 16), .ref (af 17), .ref (af 18), .ref (af 19), .ref (af 20), .ref (af 21), .int (iZ (F 22 - 1)), .int (iZ (F 23)), .ref (af 24), .long tr, .int (iZ (F 26)), .int (iZ (F 27)), .int (iZ (F 28))])), (af 1, .inl (Y 0, 200, .inl (aI (A 1)))), (af 11, .inl (Y 0, 7, .inl (aI (A 11)))), (af 12, .inl (Y 0, 36, .inl (aI (A 12)))), (af 16, .inl (Y 0, 7, .inl (aI (A 16)))), (af 18, .inl (Y 0, 41, .inl (aI (A 18)))), (af 19, .inl (Y 0, 72, .inl (aI (A 19)))), (af 20, .inl (Y 1, 2, .inl (aI (A 20)))), (af 24, .inl (Y 0, 10, .inl (aI (A 24))))] := hD
    refine lv_aload_n hx hb dX7_undo_39 rfl (lv_at hl 0 rfl) ?_
    refine va_get (D := G) (ci := 7) (v := .int (iZ (F 22 - 1))) (C := RX7) (T := TX7) (N := 29) hx hb hts hFX7 hown hK.1 hP 2 rfl rfl 22 (by decide) kf119 (fun _ h9 => h9) rfl dX7_undo_40 ?_
    refine z_top (show (F 22 - 1) = rUndo (F 22) from ?_) ?_
    · unfold rUndo; (repeat' split) <;> omega
    have ef : decide (F 22 ≠ 0) = true := decide_eq_true (by omega)
    have hP9 : va_P G vwCl (moW Y g9 af (bif decide (F 22 ≠ 0) then va_up F 22 (F 22 - 1) else F) (bif decide (F 22 ≠ 0) then va_up A 17 (va_cpy (A 21) (A 17) (36 * (F 22 - 1)).toNat 0 36) else A) (tr)) H := by rw [ef]; exact hP.sub [2, 3, 4, 5, 6, 1, 7, 8, 9, 0, 10] rfl
    exact W.iret (v := iZ (rUndo (F 22))) hx hb hr (fun t9 ht9 _ => ⟨rfl, by rw [ht9]; exact hP9, hS.F ht9⟩) hS.2.2 dX7_undo_43
  · skip
    refine z_bipush hx hb dX7_undo_7 (by decide) ?_
    refine z_top (show (-2) = rUndo (F 22) from ?_) ?_
    · unfold rUndo; (repeat' split) <;> omega
    have ef : decide (F 22 ≠ 0) = false := decide_eq_false (by omega)
    have hP9 : va_P G vwCl (moW Y g9 af (bif decide (F 22 ≠ 0) then va_up F 22 (F 22 - 1) else F) (bif decide (F 22 ≠ 0) then va_up A 17 (va_cpy (A 21) (A 17) (36 * (F 22 - 1)).toNat 0 36) else A) (tr)) H := by rw [ef]; exact hP.sub [0, 1, 2, 3, 4, 5, 6, 7, 8, 9, 10] rfl
    exact W.iret (v := iZ (rUndo (F 22))) hx hb hr (fun t9 ht9 _ => ⟨rfl, by rw [ht9]; exact hP9, hS.F ht9⟩) hS.2.2 dX7_undo_9

set_option maxHeartbeats 4000000 in
set_option maxRecDepth 100000 in
theorem c_X7_keep (l : Launch) (G : va_G) (Y : Nat → ClassId) (g9 : Nat) (af : Nat → Nat) (F : Nat → Int) (A : Kom) (tr : Int64) (a : Int) (r : zR a) : Met l yX7_keep wsX7_keep ({ frames := 1, cells := 0, slots := 0, locals := 24 }) (mP G Y [.ref g9, .int (iZ a)] (moW Y g9 af F A tr)) (mQ G (moW Y g9 af F A tr) (some (.int (iZ (rKeep (kF F A (A 17)) a)))) (moW Y g9 af (F) (bif fImg a then va_up (va_up A 19 (va_cpy (A 17) (A 19) 0 (36 * a).toNat 36)) 20 (va_up (A 20) a.toNat 1) else A) (tr))) 0 0 (fun q => q ∈ List.map Prod.fst (moW Y g9 af F A tr)) := by
  refine Met.ofW (cc := cX7_keep) (maxL := 2) (ret := (some .int)) (by decide) rfl ?_
  intro p e s m args below meth c s₁ B hml hv
  obtain ⟨rfl, hK, hP, hD0⟩ := hv
  have hx := B.exec
  have hb := B.bytes
  have hr := B.returns
  have hts := atoms_spec (ws := wsX7_keep) B.pre
  have hown : s.vm.findClass RX7 = some m.cls := findClass_of_methodNamed B.named
  have hlocks := B.notSynchronized
  have hFX7 : ∀ w ∈ wsX70, w ∈ wsX7_keep := by decide +kernel
  have kf29 := (hts (.fieldLink RX7 29 "ShadeVotesModel" "now" "[I") (by decide +kernel))
  have kf35 := (hts (.fieldLink RX7 35 "ShadeVotesModel" "image" "[I") (by decide +kernel))
  have kf38 := (hts (.fieldLink RX7 38 "ShadeVotesModel" "isKept" "[Z") (by decide +kernel))
  have hD := va_D_self hD0
  have hS : va_S (fun q => q ∈ List.map Prod.fst (moW Y g9 af F A tr)) s.heap s.heap [] := va_S.rf
  obtain ⟨H, hHe⟩ : ∃ H, H = s.heap := ⟨_, rfl⟩
  rw [← hHe] at hP
  replace hS : va_S (fun q => q ∈ List.map Prod.fst (moW Y g9 af F A tr)) s.heap H [] := by rw [hHe]; exact hS
  have hl := lv_entry ([.ref g9, .int (iZ a)]) (n := 2) (Nat.le_of_ble_eq_true rfl)
  rw [lg_entry_eq]
  generalize (lg_sl ([.ref g9, .int (iZ a)]) ++ List.replicate (2 - (lg_sl ([.ref g9, .int (iZ a)])).length) Slot.unset).toArray = ls at hl ⊢
  replace hl : lv_has ls 2 [(0, .ref g9), (1, .int (iZ a))] := hl
  obtain ⟨locs, hLe⟩ : ∃ locs : List Loc, locs = [] := ⟨_, rfl⟩
  rw [← hLe] at hS ⊢
  have hW0 : ∀ {Q : State → Prop} {g : JFrame}, W p l e ({ frames := 1, cells := 0, slots := 0, locals := 24 }) s m [.ref g9, .int (iZ a)].toArray below meth c H locs 0 0 Q g → W p l e ({ frames := 1, cells := 0, slots := 0, locals := 24 }) s m [.ref g9, .int (iZ a)].toArray below meth c s.heap locs 0 0 Q g := fun h => by rw [← hHe]; exact h
  refine hW0 ?_
  clear hW0 hHe hLe
  refine lv_iload_n hx hb dX7_keep_0 rfl (lv_at hl 1 rfl) ?_
  refine z_iconst hx hb dX7_keep_1 ?_
  refine z_iconst hx hb dX7_keep_2 ?_
  refine ro_S (As := [.int (iZ a), .int (iZ 0), .int (iZ 1)]) (rest := []) ⟨hx, hb, hml, hown, hts⟩ (c_X7_in l G Y a 0 1 (by omega)) (cwS 3 hts gX7_keep_X7_in rfl rfl rfl (by decide +kernel) ⟨Nat.le_of_ble_eq_true rfl, Nat.le_of_ble_eq_true rfl⟩) hK (hP.sub (ws' := []) [] rfl) rfl hl.1 rfl (Nat.le_of_ble_eq_true rfl) dX7_keep_3 ⟨Nat.zero_le _, Nat.zero_le _⟩ ?_
  refine z_ifb_ne (tgt := 11) hx hb dX7_keep_6 (by decide) (fun c_1 => ?_) (fun c_1 => ?_)
  · skip
    have c_1 := of_decide_eq_true c_1
    refine lv_aload_n hx hb dX7_keep_11 rfl (lv_at hl 0 rfl) ?_
    refine va_get (D := G) (ci := 7) (v := .ref (af 17)) (C := RX7) (T := TX7) (N := 29) hx hb hts hFX7 hown hK.1 hP 0 rfl rfl 17 (by decide) kf29 (fun _ h9 => h9) rfl dX7_keep_12 ?_
    refine z_iconst hx hb dX7_keep_15 ?_
    refine lv_aload_n hx hb dX7_keep_16 rfl (lv_at hl 0 rfl) ?_
    refine va_get (D := G) (ci := 7) (v := .ref (af 19)) (C := RX7) (T := TX7) (N := 29) hx hb hts hFX7 hown hK.1 hP 0 rfl rfl 19 (by decide) kf35 (fun _ h9 => h9) rfl dX7_keep_17 ?_
    refine z_bipush hx hb dX7_keep_20 (by decide) ?_
    refine lv_iload_n hx hb dX7_keep_22 rfl (lv_at hl 1 rfl) ?_
    refine z_imul hx hb dX7_keep_23 ?_
    have hP := hP.sub (ws' := [(af 17, .inl (Y 0, 36, .inl (aI (A 17)))), (af 19, .inl (Y 0, 72, .inl (aI (A 19))))] ++ [(g9, .inr (7, [.int (iZ (F 0)), .ref (af 1), .int (iZ (F 2)), .int (iZ (F 3)), .int (iZ (F 4)), .int (iZ (F 5)), .int (iZ (F 6)), .int (iZ (F 7)), .int (iZ (F 8)), .int (iZ (F 9)), .int (iZ (F 10)), .ref (af 11), .ref (af 12), .int (iZ (F 13)), .int (iZ (F 14)), .int (iZ (F 15)), .ref (af 16), .ref (af 17), .ref (af 18), .ref (af 19), .ref (af 20), .ref (af 21), .int (iZ (F 22)), .int (iZ (F 23)), .ref (af 24), .long tr, .int (iZ (F 26)), .int (iZ (F 27)), .int (iZ (F 28))])), (af 1, .inl (Y 0, 200, .inl (aI (A 1)))), (af 11, .inl (Y 0, 7, .inl (aI (A 11)))), (af 12, .inl (Y 0, 36, .inl (aI (A 12)))), (af 16, .inl (Y 0, 7, .inl (aI (A 16)))), (af 18, .inl (Y 0, 41, .inl (aI (A 18)))), (af 20, .inl (Y 1, 2, .inl (aI (A 20)))), (af 21, .inl (Y 0, 360, .inl (aI (A 21)))), (af 24, .inl (Y 0, 10, .inl (aI (A 24))))]) [5, 7, 0, 1, 2, 3, 4, 6, 8, 9, 10] rfl
    have hD := hD.sub (ws' := [(af 17, .inl (Y 0, 36, .inl (aI (A 17)))), (af 19, .inl (Y 0, 72, .inl (aI (A 19))))] ++ [(g9, .inr (7, [.int (iZ (F 0)), .ref (af 1), .int (iZ (F 2)), .int (iZ (F 3)), .int (iZ (F 4)), .int (iZ (F 5)), .int (iZ (F 6)), .int (iZ (F 7)), .int (iZ (F 8)), .int (iZ (F 9)), .int (iZ (F 10)), .ref (af 11), .ref (af 12), .int (iZ (F 13)), .int (iZ (F 14)), .int (iZ (F 15)), .ref (af 16), .ref (af 17), .ref (af 18), .ref (af 19), .ref (af 20), .ref (af 21), .int (iZ (F 22)), .int (iZ (F 23)), .ref (af 24), .long tr, .int (iZ (F 26)), .int (iZ (F 27)), .int (iZ (F 28))])), (af 1, .inl (Y 0, 200, .inl (aI (A 1)))), (af 11, .inl (Y 0, 7, .inl (aI (A 11)))), (af 12, .inl (Y 0, 36, .inl (aI (A 12)))), (af 16, .inl (Y 0, 7, .inl (aI (A 16)))), (af 18, .inl (Y 0, 41, .inl (aI (A 18)))), (af 20, .inl (Y 1, 2, .inl (aI (A 20)))), (af 21, .inl (Y 0, 360, .inl (aI (A 21)))), (af 24, .inl (Y 0, 10, .inl (aI (A 24))))]) [5, 7, 0, 1, 2, 3, 4, 6, 8, 9, 10] (by decide) rfl
    refine mu_S (As := [.ref (af 17), .int (iZ 0), .ref (af 19), .int (iZ (36 * a))]) (rest := []) (wc := [(af 17, .inl (Y 0, 36, .inl (aI (A 17)))), (af 19, .inl (Y 0, 72, .inl (aI (A 19))))]) (wc' := cpW Y (af 17) (af 19) 36 72 (A 17) (va_cpy (A 17) (A 19) (Int.toNat 0) (Int.toNat (36 * a)) 36)) (F := [(g9, .inr (7, [.int (iZ (F 0)), .ref (af 1), .int (iZ (F 2)), .int (iZ (F 3)), .int (iZ (F 4)), .int (iZ (F 5)), .int (iZ (F 6)), .int (iZ (F 7)), .int (iZ (F 8)), .int (iZ (F 9)), .int (iZ (F 10)), .ref (af 11), .ref (af 12), .int (iZ (F 13)), .int (iZ (F 14)), .int (iZ (F 15)), .ref (af 16), .ref (af 17), .ref (af 18), .ref (af 19), .ref (af 20), .ref (af 21), .int (iZ (F 22)), .int (iZ (F 23)), .ref (af 24), .long tr, .int (iZ (F 26)), .int (iZ (F 27)), .int (iZ (F 28))])), (af 1, .inl (Y 0, 200, .inl (aI (A 1)))), (af 11, .inl (Y 0, 7, .inl (aI (A 11)))), (af 12, .inl (Y 0, 36, .inl (aI (A 12)))), (af 16, .inl (Y 0, 7, .inl (aI (A 16)))), (af 18, .inl (Y 0, 41, .inl (aI (A 18)))), (af 20, .inl (Y 1, 2, .inl (aI (A 20)))), (af 21, .inl (Y 0, 360, .inl (aI (A 21)))), (af 24, .inl (Y 0, 10, .inl (aI (A 24))))]) ⟨hx, hb, hml, hown, hts⟩ (c_X7_copy l G Y (af 17) (af 19) 36 72 (A 17) (A 19) 0 (36 * a) (by omega)) (cwS 4 hts gX7_keep_X7_copy rfl rfl rfl (by decide +kernel) ⟨Nat.le_of_ble_eq_true rfl, Nat.le_of_ble_eq_true rfl⟩) hK hP hD hS (Eq.refl [af 17, af 19]) rfl hl.1 rfl (Nat.le_of_ble_eq_true rfl) dX7_keep_24 ⟨Nat.zero_le _, Nat.zero_le _⟩ (fun H locs hP hD hS => ?_)
    show W _ _ _ _ _ _ _ _ _ _ _ _ _ _ _ (F0 _ _ _ [])
    replace hP : va_P G vwCl [(af 17, .inl (Y 0, 36, .inl (aI (A 17)))), (af 19, .inl (Y 0, 72, .inl (aI (va_cpy (A 17) (A 19) (Int.toNat 0) (Int.toNat (36 * a)) 36)))), (g9, .inr (7, [.int (iZ (F 0)), .ref (af 1), .int (iZ (F 2)), .int (iZ (F 3)), .int (iZ (F 4)), .int (iZ (F 5)), .int (iZ (F 6)), .int (iZ (F 7)), .int (iZ (F 8)), .int (iZ (F 9)), .int (iZ (F 10)), .ref (af 11), .ref (af 12), .int (iZ (F 13)), .int (iZ (F 14)), .int (iZ (F 15)), .ref (af 16), .ref (af 17), .ref (af 18), .ref (af 19), .ref (af 20), .ref (af 21), .int (iZ (F 22)), .int (iZ (F 23)), .ref (af 24), .long tr, .int (iZ (F 26)), .int (iZ (F 27)), .int (iZ (F 28))])), (af 1, .inl (Y 0, 200, .inl (aI (A 1)))), (af 11, .inl (Y 0, 7, .inl (aI (A 11)))), (af 12, .inl (Y 0, 36, .inl (aI (A 12)))), (af 16, .inl (Y 0, 7, .inl (aI (A 16)))), (af 18, .inl (Y 0, 41, .inl (aI (A 18)))), (af 20, .inl (Y 1, 2, .inl (aI (A 20)))), (af 21, .inl (Y 0, 360, .inl (aI (A 21)))), (af 24, .inl (Y 0, 10, .inl (aI (A 24))))] H := hP
    replace hD : va_D _ [(af 17, .inl (Y 0, 36, .inl (aI (A 17)))), (af 19, .inl (Y 0, 72, .inl (aI (va_cpy (A 17) (A 19) (Int.toNat 0) (Int.toNat (36 * a)) 36)))), (g9, .inr (7, [.int (iZ (F 0)), .ref (af 1), .int (iZ (F 2)), .int (iZ (F 3)), .int (iZ (F 4)), .int (iZ (F 5)), .int (iZ (F 6)), .int (iZ (F 7)), .int (iZ (F 8)), .int (iZ (F 9)), .int (iZ (F 10)), .ref (af 11), .ref (af 12), .int (iZ (F 13)), .int (iZ (F 14)), .int (iZ (F 15)), .ref (af 16), .ref (af 17), .ref (af 18), .ref (af 19), .ref (af 20), .ref (af 21), .int (iZ (F 22)), .int (iZ (F 23)), .ref (af 24), .long tr, .int (iZ (F 26)), .int (iZ (F 27)), .int (iZ (F 28))])), (af 1, .inl (Y 0, 200, .inl (aI (A 1)))), (af 11, .inl (Y 0, 7, .inl (aI (A 11)))), (af 12, .inl (Y 0, 36, .inl (aI (A 12)))), (af 16, .inl (Y 0, 7, .inl (aI (A 16)))), (af 18, .inl (Y 0, 41, .inl (aI (A 18)))), (af 20, .inl (Y 1, 2, .inl (aI (A 20)))), (af 21, .inl (Y 0, 360, .inl (aI (A 21)))), (af 24, .inl (Y 0, 10, .inl (aI (A 24))))] := hD
    refine lv_aload_n hx hb dX7_keep_27 rfl (lv_at hl 0 rfl) ?_
    refine va_get (D := G) (ci := 7) (v := .ref (af 20)) (C := RX7) (T := TX7) (N := 29) hx hb hts hFX7 hown hK.1 hP 2 rfl rfl 20 (by decide) kf38 (fun _ h9 => h9) rfl dX7_keep_28 ?_
    refine lv_iload_n hx hb dX7_keep_31 rfl (lv_at hl 1 rfl) ?_
    refine z_iconst hx hb dX7_keep_32 ?_
    refine z_zast hx hb hK.1 hP hD hS 8 1 rfl rfl ((a).toNat) (by omega) (by decide) (by omega) dX7_keep_33 (fun H locs hP hD hS => ?_)
    replace hP : va_P G vwCl [(af 17, .inl (Y 0, 36, .inl (aI (A 17)))), (af 19, .inl (Y 0, 72, .inl (aI (va_cpy (A 17) (A 19) (Int.toNat 0) (Int.toNat (36 * a)) 36)))), (g9, .inr (7, [.int (iZ (F 0)), .ref (af 1), .int (iZ (F 2)), .int (iZ (F 3)), .int (iZ (F 4)), .int (iZ (F 5)), .int (iZ (F 6)), .int (iZ (F 7)), .int (iZ (F 8)), .int (iZ (F 9)), .int (iZ (F 10)), .ref (af 11), .ref (af 12), .int (iZ (F 13)), .int (iZ (F 14)), .int (iZ (F 15)), .ref (af 16), .ref (af 17), .ref (af 18), .ref (af 19), .ref (af 20), .ref (af 21), .int (iZ (F 22)), .int (iZ (F 23)), .ref (af 24), .long tr, .int (iZ (F 26)), .int (iZ (F 27)), .int (iZ (F 28))])), (af 1, .inl (Y 0, 200, .inl (aI (A 1)))), (af 11, .inl (Y 0, 7, .inl (aI (A 11)))), (af 12, .inl (Y 0, 36, .inl (aI (A 12)))), (af 16, .inl (Y 0, 7, .inl (aI (A 16)))), (af 18, .inl (Y 0, 41, .inl (aI (A 18)))), (af 20, .inl (Y 1, 2, .inl (aI (va_up (A 20) ((a).toNat) 1)))), (af 21, .inl (Y 0, 360, .inl (aI (A 21)))), (af 24, .inl (Y 0, 10, .inl (aI (A 24))))] H := hP
    replace hD : va_D _ [(af 17, .inl (Y 0, 36, .inl (aI (A 17)))), (af 19, .inl (Y 0, 72, .inl (aI (va_cpy (A 17) (A 19) (Int.toNat 0) (Int.toNat (36 * a)) 36)))), (g9, .inr (7, [.int (iZ (F 0)), .ref (af 1), .int (iZ (F 2)), .int (iZ (F 3)), .int (iZ (F 4)), .int (iZ (F 5)), .int (iZ (F 6)), .int (iZ (F 7)), .int (iZ (F 8)), .int (iZ (F 9)), .int (iZ (F 10)), .ref (af 11), .ref (af 12), .int (iZ (F 13)), .int (iZ (F 14)), .int (iZ (F 15)), .ref (af 16), .ref (af 17), .ref (af 18), .ref (af 19), .ref (af 20), .ref (af 21), .int (iZ (F 22)), .int (iZ (F 23)), .ref (af 24), .long tr, .int (iZ (F 26)), .int (iZ (F 27)), .int (iZ (F 28))])), (af 1, .inl (Y 0, 200, .inl (aI (A 1)))), (af 11, .inl (Y 0, 7, .inl (aI (A 11)))), (af 12, .inl (Y 0, 36, .inl (aI (A 12)))), (af 16, .inl (Y 0, 7, .inl (aI (A 16)))), (af 18, .inl (Y 0, 41, .inl (aI (A 18)))), (af 20, .inl (Y 1, 2, .inl (aI (va_up (A 20) ((a).toNat) 1)))), (af 21, .inl (Y 0, 360, .inl (aI (A 21)))), (af 24, .inl (Y 0, 10, .inl (aI (A 24))))] := hD
    refine lv_aload_n hx hb dX7_keep_34 rfl (lv_at hl 0 rfl) ?_
    refine va_get (D := G) (ci := 7) (v := .ref (af 17)) (C := RX7) (T := TX7) (N := 29) hx hb hts hFX7 hown hK.1 hP 2 rfl rfl 17 (by decide) kf29 (fun _ h9 => h9) rfl dX7_keep_35 ?_
    refine z_iconst hx hb dX7_keep_38 ?_
    refine z_iald hx hb hK.1 hP 0 0 rfl rfl 0 (by omega) (by decide) dX7_keep_39 ?_
    refine z_top (show (A 17) 0 = rKeep (kF F A (A 17)) a from ?_) ?_
    · unfold rKeep; rw [if_pos (by omega)]; rfl
    have ef : fImg a = true := decide_eq_true (by omega)
    have hP9 : va_P G vwCl (moW Y g9 af (F) (bif fImg a then va_up (va_up A 19 (va_cpy (A 17) (A 19) 0 (36 * a).toNat 36)) 20 (va_up (A 20) a.toNat 1) else A) (tr)) H := by rw [ef]; exact hP.sub [2, 3, 4, 5, 6, 0, 7, 1, 8, 9, 10] rfl
    exact W.iret (v := iZ (rKeep (kF F A (A 17)) a)) hx hb hr (fun t9 ht9 _ => ⟨rfl, by rw [ht9]; exact hP9, hS.F ht9⟩) hS.2.2 dX7_keep_40
  · skip
    have c_1 := of_decide_eq_false c_1
    refine z_iconst hx hb dX7_keep_9 ?_
    refine z_top (show (-1) = rKeep (kF F A (A 17)) a from ?_) ?_
    · unfold rKeep; rw [if_neg (by omega)]
    have ef : fImg a = false := decide_eq_false (by omega)
    have hP9 : va_P G vwCl (moW Y g9 af (F) (bif fImg a then va_up (va_up A 19 (va_cpy (A 17) (A 19) 0 (36 * a).toNat 36)) 20 (va_up (A 20) a.toNat 1) else A) (tr)) H := by rw [ef]; exact hP.sub [0, 1, 2, 3, 4, 5, 6, 7, 8, 9, 10] rfl
    exact W.iret (v := iZ (rKeep (kF F A (A 17)) a)) hx hb hr (fun t9 ht9 _ => ⟨rfl, by rw [ht9]; exact hP9, hS.F ht9⟩) hS.2.2 dX7_keep_10

set_option maxHeartbeats 4000000 in
set_option maxRecDepth 100000 in
theorem c_X7_back (l : Launch) (G : va_G) (Y : Nat → ClassId) (g9 : Nat) (af : Nat → Nat) (F : Nat → Int) (A : Kom) (tr : Int64) (a : Int) (r : zR a) (hkp : ∀ j : Nat, j < 2 → 0 ≤ A 20 j ∧ A 20 j ≤ 1) : Met l yX7_back wsX7_back ({ frames := 1, cells := 0, slots := 0, locals := 24 }) (mP G Y [.ref g9, .int (iZ a)] (moW Y g9 af F A tr)) (mQ G (moW Y g9 af F A tr) (some (.int (iZ (xBack A a)))) (moW Y g9 af (bif fBack (A 20) a then va_up F 22 0 else F) (bif fBack (A 20) a then va_up A 17 (va_cpy (A 19) (A 17) (36 * a).toNat 0 36) else A) (tr))) 0 0 (fun q => q ∈ List.map Prod.fst (moW Y g9 af F A tr)) := by
  refine Met.ofW (cc := cX7_back) (maxL := 2) (ret := (some .int)) (by decide) rfl ?_
  intro p e s m args below meth c s₁ B hml hv
  obtain ⟨rfl, hK, hP, hD0⟩ := hv
  have hx := B.exec
  have hb := B.bytes
  have hr := B.returns
  have hts := atoms_spec (ws := wsX7_back) B.pre
  have hown : s.vm.findClass RX7 = some m.cls := findClass_of_methodNamed B.named
  have hlocks := B.notSynchronized
  have hFX7 : ∀ w ∈ wsX70, w ∈ wsX7_back := by decide +kernel
  have kf38 := (hts (.fieldLink RX7 38 "ShadeVotesModel" "isKept" "[Z") (by decide +kernel))
  have kf35 := (hts (.fieldLink RX7 35 "ShadeVotesModel" "image" "[I") (by decide +kernel))
  have kf29 := (hts (.fieldLink RX7 29 "ShadeVotesModel" "now" "[I") (by decide +kernel))
  have kf119 := (hts (.fieldLink RX7 119 "ShadeVotesModel" "backs" "I") (by decide +kernel))
  have hD := va_D_self hD0
  have hS : va_S (fun q => q ∈ List.map Prod.fst (moW Y g9 af F A tr)) s.heap s.heap [] := va_S.rf
  obtain ⟨H, hHe⟩ : ∃ H, H = s.heap := ⟨_, rfl⟩
  rw [← hHe] at hP
  replace hS : va_S (fun q => q ∈ List.map Prod.fst (moW Y g9 af F A tr)) s.heap H [] := by rw [hHe]; exact hS
  have hl := lv_entry ([.ref g9, .int (iZ a)]) (n := 2) (Nat.le_of_ble_eq_true rfl)
  rw [lg_entry_eq]
  generalize (lg_sl ([.ref g9, .int (iZ a)]) ++ List.replicate (2 - (lg_sl ([.ref g9, .int (iZ a)])).length) Slot.unset).toArray = ls at hl ⊢
  replace hl : lv_has ls 2 [(0, .ref g9), (1, .int (iZ a))] := hl
  obtain ⟨locs, hLe⟩ : ∃ locs : List Loc, locs = [] := ⟨_, rfl⟩
  rw [← hLe] at hS ⊢
  have hW0 : ∀ {Q : State → Prop} {g : JFrame}, W p l e ({ frames := 1, cells := 0, slots := 0, locals := 24 }) s m [.ref g9, .int (iZ a)].toArray below meth c H locs 0 0 Q g → W p l e ({ frames := 1, cells := 0, slots := 0, locals := 24 }) s m [.ref g9, .int (iZ a)].toArray below meth c s.heap locs 0 0 Q g := fun h => by rw [← hHe]; exact h
  refine hW0 ?_
  clear hW0 hHe hLe
  refine lv_iload_n hx hb dX7_back_0 rfl (lv_at hl 1 rfl) ?_
  refine z_iconst hx hb dX7_back_1 ?_
  refine z_iconst hx hb dX7_back_2 ?_
  refine ro_S (As := [.int (iZ a), .int (iZ 0), .int (iZ 1)]) (rest := []) ⟨hx, hb, hml, hown, hts⟩ (c_X7_in l G Y a 0 1 (by omega)) (cwS 3 hts gX7_back_X7_in rfl rfl rfl (by decide +kernel) ⟨Nat.le_of_ble_eq_true rfl, Nat.le_of_ble_eq_true rfl⟩) hK (hP.sub (ws' := []) [] rfl) rfl hl.1 rfl (Nat.le_of_ble_eq_true rfl) dX7_back_3 ⟨Nat.zero_le _, Nat.zero_le _⟩ ?_
  refine z_ifb_ne (tgt := 11) hx hb dX7_back_6 (by decide) (fun c_1 => ?_) (fun c_1 => ?_)
  · skip
    have c_1 := of_decide_eq_true c_1
    refine lv_aload_n hx hb dX7_back_11 rfl (lv_at hl 0 rfl) ?_
    refine va_get (D := G) (ci := 7) (v := .ref (af 20)) (C := RX7) (T := TX7) (N := 29) hx hb hts hFX7 hown hK.1 hP 0 rfl rfl 20 (by decide) kf38 (fun _ h9 => h9) rfl dX7_back_12 ?_
    refine lv_iload_n hx hb dX7_back_15 rfl (lv_at hl 1 rfl) ?_
    refine z_zald hx hb hK.1 hP 8 1 rfl rfl ((a).toNat) (by omega) (by decide) dX7_back_16 ?_
    have hk9 := hkp ((a).toNat) (by omega)
    refine z_if_ne (tgt := 23) hx hb dX7_back_17 (by decide) (by omega) (fun c_2 => ?_) (fun c_2 => ?_)
    · skip
      refine lv_aload_n hx hb dX7_back_23 rfl (lv_at hl 0 rfl) ?_
      refine va_get (D := G) (ci := 7) (v := .ref (af 19)) (C := RX7) (T := TX7) (N := 29) hx hb hts hFX7 hown hK.1 hP 0 rfl rfl 19 (by decide) kf35 (fun _ h9 => h9) rfl dX7_back_24 ?_
      refine z_bipush hx hb dX7_back_27 (by decide) ?_
      refine lv_iload_n hx hb dX7_back_29 rfl (lv_at hl 1 rfl) ?_
      refine z_imul hx hb dX7_back_30 ?_
      refine lv_aload_n hx hb dX7_back_31 rfl (lv_at hl 0 rfl) ?_
      refine va_get (D := G) (ci := 7) (v := .ref (af 17)) (C := RX7) (T := TX7) (N := 29) hx hb hts hFX7 hown hK.1 hP 0 rfl rfl 17 (by decide) kf29 (fun _ h9 => h9) rfl dX7_back_32 ?_
      refine z_iconst hx hb dX7_back_35 ?_
      have hP := hP.sub (ws' := [(af 19, .inl (Y 0, 72, .inl (aI (A 19)))), (af 17, .inl (Y 0, 36, .inl (aI (A 17))))] ++ [(g9, .inr (7, [.int (iZ (F 0)), .ref (af 1), .int (iZ (F 2)), .int (iZ (F 3)), .int (iZ (F 4)), .int (iZ (F 5)), .int (iZ (F 6)), .int (iZ (F 7)), .int (iZ (F 8)), .int (iZ (F 9)), .int (iZ (F 10)), .ref (af 11), .ref (af 12), .int (iZ (F 13)), .int (iZ (F 14)), .int (iZ (F 15)), .ref (af 16), .ref (af 17), .ref (af 18), .ref (af 19), .ref (af 20), .ref (af 21), .int (iZ (F 22)), .int (iZ (F 23)), .ref (af 24), .long tr, .int (iZ (F 26)), .int (iZ (F 27)), .int (iZ (F 28))])), (af 1, .inl (Y 0, 200, .inl (aI (A 1)))), (af 11, .inl (Y 0, 7, .inl (aI (A 11)))), (af 12, .inl (Y 0, 36, .inl (aI (A 12)))), (af 16, .inl (Y 0, 7, .inl (aI (A 16)))), (af 18, .inl (Y 0, 41, .inl (aI (A 18)))), (af 20, .inl (Y 1, 2, .inl (aI (A 20)))), (af 21, .inl (Y 0, 360, .inl (aI (A 21)))), (af 24, .inl (Y 0, 10, .inl (aI (A 24))))]) [7, 5, 0, 1, 2, 3, 4, 6, 8, 9, 10] rfl
      have hD := hD.sub (ws' := [(af 19, .inl (Y 0, 72, .inl (aI (A 19)))), (af 17, .inl (Y 0, 36, .inl (aI (A 17))))] ++ [(g9, .inr (7, [.int (iZ (F 0)), .ref (af 1), .int (iZ (F 2)), .int (iZ (F 3)), .int (iZ (F 4)), .int (iZ (F 5)), .int (iZ (F 6)), .int (iZ (F 7)), .int (iZ (F 8)), .int (iZ (F 9)), .int (iZ (F 10)), .ref (af 11), .ref (af 12), .int (iZ (F 13)), .int (iZ (F 14)), .int (iZ (F 15)), .ref (af 16), .ref (af 17), .ref (af 18), .ref (af 19), .ref (af 20), .ref (af 21), .int (iZ (F 22)), .int (iZ (F 23)), .ref (af 24), .long tr, .int (iZ (F 26)), .int (iZ (F 27)), .int (iZ (F 28))])), (af 1, .inl (Y 0, 200, .inl (aI (A 1)))), (af 11, .inl (Y 0, 7, .inl (aI (A 11)))), (af 12, .inl (Y 0, 36, .inl (aI (A 12)))), (af 16, .inl (Y 0, 7, .inl (aI (A 16)))), (af 18, .inl (Y 0, 41, .inl (aI (A 18)))), (af 20, .inl (Y 1, 2, .inl (aI (A 20)))), (af 21, .inl (Y 0, 360, .inl (aI (A 21)))), (af 24, .inl (Y 0, 10, .inl (aI (A 24))))]) [7, 5, 0, 1, 2, 3, 4, 6, 8, 9, 10] (by decide) rfl
      refine mu_S (As := [.ref (af 19), .int (iZ (36 * a)), .ref (af 17), .int (iZ 0)]) (rest := []) (wc := [(af 19, .inl (Y 0, 72, .inl (aI (A 19)))), (af 17, .inl (Y 0, 36, .inl (aI (A 17))))]) (wc' := cpW Y (af 19) (af 17) 72 36 (A 19) (va_cpy (A 19) (A 17) (Int.toNat (36 * a)) (Int.toNat 0) 36)) (F := [(g9, .inr (7, [.int (iZ (F 0)), .ref (af 1), .int (iZ (F 2)), .int (iZ (F 3)), .int (iZ (F 4)), .int (iZ (F 5)), .int (iZ (F 6)), .int (iZ (F 7)), .int (iZ (F 8)), .int (iZ (F 9)), .int (iZ (F 10)), .ref (af 11), .ref (af 12), .int (iZ (F 13)), .int (iZ (F 14)), .int (iZ (F 15)), .ref (af 16), .ref (af 17), .ref (af 18), .ref (af 19), .ref (af 20), .ref (af 21), .int (iZ (F 22)), .int (iZ (F 23)), .ref (af 24), .long tr, .int (iZ (F 26)), .int (iZ (F 27)), .int (iZ (F 28))])), (af 1, .inl (Y 0, 200, .inl (aI (A 1)))), (af 11, .inl (Y 0, 7, .inl (aI (A 11)))), (af 12, .inl (Y 0, 36, .inl (aI (A 12)))), (af 16, .inl (Y 0, 7, .inl (aI (A 16)))), (af 18, .inl (Y 0, 41, .inl (aI (A 18)))), (af 20, .inl (Y 1, 2, .inl (aI (A 20)))), (af 21, .inl (Y 0, 360, .inl (aI (A 21)))), (af 24, .inl (Y 0, 10, .inl (aI (A 24))))]) ⟨hx, hb, hml, hown, hts⟩ (c_X7_copy l G Y (af 19) (af 17) 72 36 (A 19) (A 17) (36 * a) 0 (by omega)) (cwS 4 hts gX7_back_X7_copy rfl rfl rfl (by decide +kernel) ⟨Nat.le_of_ble_eq_true rfl, Nat.le_of_ble_eq_true rfl⟩) hK hP hD hS (Eq.refl [af 19, af 17]) rfl hl.1 rfl (Nat.le_of_ble_eq_true rfl) dX7_back_36 ⟨Nat.zero_le _, Nat.zero_le _⟩ (fun H locs hP hD hS => ?_)
      show W _ _ _ _ _ _ _ _ _ _ _ _ _ _ _ (F0 _ _ _ [])
      replace hP : va_P G vwCl [(af 19, .inl (Y 0, 72, .inl (aI (A 19)))), (af 17, .inl (Y 0, 36, .inl (aI (va_cpy (A 19) (A 17) (Int.toNat (36 * a)) (Int.toNat 0) 36)))), (g9, .inr (7, [.int (iZ (F 0)), .ref (af 1), .int (iZ (F 2)), .int (iZ (F 3)), .int (iZ (F 4)), .int (iZ (F 5)), .int (iZ (F 6)), .int (iZ (F 7)), .int (iZ (F 8)), .int (iZ (F 9)), .int (iZ (F 10)), .ref (af 11), .ref (af 12), .int (iZ (F 13)), .int (iZ (F 14)), .int (iZ (F 15)), .ref (af 16), .ref (af 17), .ref (af 18), .ref (af 19), .ref (af 20), .ref (af 21), .int (iZ (F 22)), .int (iZ (F 23)), .ref (af 24), .long tr, .int (iZ (F 26)), .int (iZ (F 27)), .int (iZ (F 28))])), (af 1, .inl (Y 0, 200, .inl (aI (A 1)))), (af 11, .inl (Y 0, 7, .inl (aI (A 11)))), (af 12, .inl (Y 0, 36, .inl (aI (A 12)))), (af 16, .inl (Y 0, 7, .inl (aI (A 16)))), (af 18, .inl (Y 0, 41, .inl (aI (A 18)))), (af 20, .inl (Y 1, 2, .inl (aI (A 20)))), (af 21, .inl (Y 0, 360, .inl (aI (A 21)))), (af 24, .inl (Y 0, 10, .inl (aI (A 24))))] H := hP
      replace hD : va_D _ [(af 19, .inl (Y 0, 72, .inl (aI (A 19)))), (af 17, .inl (Y 0, 36, .inl (aI (va_cpy (A 19) (A 17) (Int.toNat (36 * a)) (Int.toNat 0) 36)))), (g9, .inr (7, [.int (iZ (F 0)), .ref (af 1), .int (iZ (F 2)), .int (iZ (F 3)), .int (iZ (F 4)), .int (iZ (F 5)), .int (iZ (F 6)), .int (iZ (F 7)), .int (iZ (F 8)), .int (iZ (F 9)), .int (iZ (F 10)), .ref (af 11), .ref (af 12), .int (iZ (F 13)), .int (iZ (F 14)), .int (iZ (F 15)), .ref (af 16), .ref (af 17), .ref (af 18), .ref (af 19), .ref (af 20), .ref (af 21), .int (iZ (F 22)), .int (iZ (F 23)), .ref (af 24), .long tr, .int (iZ (F 26)), .int (iZ (F 27)), .int (iZ (F 28))])), (af 1, .inl (Y 0, 200, .inl (aI (A 1)))), (af 11, .inl (Y 0, 7, .inl (aI (A 11)))), (af 12, .inl (Y 0, 36, .inl (aI (A 12)))), (af 16, .inl (Y 0, 7, .inl (aI (A 16)))), (af 18, .inl (Y 0, 41, .inl (aI (A 18)))), (af 20, .inl (Y 1, 2, .inl (aI (A 20)))), (af 21, .inl (Y 0, 360, .inl (aI (A 21)))), (af 24, .inl (Y 0, 10, .inl (aI (A 24))))] := hD
      refine lv_aload_n hx hb dX7_back_39 rfl (lv_at hl 0 rfl) ?_
      refine z_iconst hx hb dX7_back_40 ?_
      refine va_put (D := G) (ci := 7) (v := .int (iZ 0)) (ty := .int) (C := RX7) (T := TX7) (N := 29) hx hb hts hFX7 tyX7 tyX7_ok nmX7 hown hK.1 hP hD hS 2 rfl rfl 22 (by decide) kf119 (fun _ h9 => h9) rfl (by decide +kernel) rfl rfl (Nat.le_of_ble_eq_true rfl) dX7_back_41 (fun H locs hP hD hS => ?_)
      replace hP : va_P G vwCl [(af 19, .inl (Y 0, 72, .inl (aI (A 19)))), (af 17, .inl (Y 0, 36, .inl (aI (va_cpy (A 19) (A 17) (Int.toNat (36 * a)) (Int.toNat 0) 36)))), (g9, .inr (7, [.int (iZ (F 0)), .ref (af 1), .int (iZ (F 2)), .int (iZ (F 3)), .int (iZ (F 4)), .int (iZ (F 5)), .int (iZ (F 6)), .int (iZ (F 7)), .int (iZ (F 8)), .int (iZ (F 9)), .int (iZ (F 10)), .ref (af 11), .ref (af 12), .int (iZ (F 13)), .int (iZ (F 14)), .int (iZ (F 15)), .ref (af 16), .ref (af 17), .ref (af 18), .ref (af 19), .ref (af 20), .ref (af 21), .int (iZ 0), .int (iZ (F 23)), .ref (af 24), .long tr, .int (iZ (F 26)), .int (iZ (F 27)), .int (iZ (F 28))])), (af 1, .inl (Y 0, 200, .inl (aI (A 1)))), (af 11, .inl (Y 0, 7, .inl (aI (A 11)))), (af 12, .inl (Y 0, 36, .inl (aI (A 12)))), (af 16, .inl (Y 0, 7, .inl (aI (A 16)))), (af 18, .inl (Y 0, 41, .inl (aI (A 18)))), (af 20, .inl (Y 1, 2, .inl (aI (A 20)))), (af 21, .inl (Y 0, 360, .inl (aI (A 21)))), (af 24, .inl (Y 0, 10, .inl (aI (A 24))))] H := hP
      replace hD : va_D _ [(af 19, .inl (Y 0, 72, .inl (aI (A 19)))), (af 17, .inl (Y 0, 36, .inl (aI (va_cpy (A 19) (A 17) (Int.toNat (36 * a)) (Int.toNat 0) 36)))), (g9, .inr (7, [.int (iZ (F 0)), .ref (af 1), .int (iZ (F 2)), .int (iZ (F 3)), .int (iZ (F 4)), .int (iZ (F 5)), .int (iZ (F 6)), .int (iZ (F 7)), .int (iZ (F 8)), .int (iZ (F 9)), .int (iZ (F 10)), .ref (af 11), .ref (af 12), .int (iZ (F 13)), .int (iZ (F 14)), .int (iZ (F 15)), .ref (af 16), .ref (af 17), .ref (af 18), .ref (af 19), .ref (af 20), .ref (af 21), .int (iZ 0), .int (iZ (F 23)), .ref (af 24), .long tr, .int (iZ (F 26)), .int (iZ (F 27)), .int (iZ (F 28))])), (af 1, .inl (Y 0, 200, .inl (aI (A 1)))), (af 11, .inl (Y 0, 7, .inl (aI (A 11)))), (af 12, .inl (Y 0, 36, .inl (aI (A 12)))), (af 16, .inl (Y 0, 7, .inl (aI (A 16)))), (af 18, .inl (Y 0, 41, .inl (aI (A 18)))), (af 20, .inl (Y 1, 2, .inl (aI (A 20)))), (af 21, .inl (Y 0, 360, .inl (aI (A 21)))), (af 24, .inl (Y 0, 10, .inl (aI (A 24))))] := hD
      refine lv_aload_n hx hb dX7_back_44 rfl (lv_at hl 0 rfl) ?_
      refine va_get (D := G) (ci := 7) (v := .ref (af 17)) (C := RX7) (T := TX7) (N := 29) hx hb hts hFX7 hown hK.1 hP 2 rfl rfl 17 (by decide) kf29 (fun _ h9 => h9) rfl dX7_back_45 ?_
      refine z_iconst hx hb dX7_back_48 ?_
      refine z_iald hx hb hK.1 hP 1 0 rfl rfl 0 (by omega) (by decide) dX7_back_49 ?_
      refine z_top (show (va_cpy (A 19) (A 17) (Int.toNat (36 * a)) (Int.toNat 0) 36) 0 = xBack A a from ?_) ?_
      · unfold xBack; rw [if_pos (by omega), if_neg (by omega)]; exact cpy_at
      have ef : fBack (A 20) a = true := decide_eq_true (by omega)
      have hP9 : va_P G vwCl (moW Y g9 af (bif fBack (A 20) a then va_up F 22 0 else F) (bif fBack (A 20) a then va_up A 17 (va_cpy (A 19) (A 17) (36 * a).toNat 0 36) else A) (tr)) H := by rw [ef]; exact hP.sub [2, 3, 4, 5, 6, 1, 7, 0, 8, 9, 10] rfl
      exact W.iret (v := iZ (xBack A a)) hx hb hr (fun t9 ht9 _ => ⟨rfl, by rw [ht9]; exact hP9, hS.F ht9⟩) hS.2.2 dX7_back_50
    · skip
      refine z_bipush hx hb dX7_back_20 (by decide) ?_
      refine z_top (show (-2) = xBack A a from ?_) ?_
      · unfold xBack; rw [if_pos (by omega), if_pos (by omega)]
      have ef : fBack (A 20) a = false := decide_eq_false (by omega)
      have hP9 : va_P G vwCl (moW Y g9 af (bif fBack (A 20) a then va_up F 22 0 else F) (bif fBack (A 20) a then va_up A 17 (va_cpy (A 19) (A 17) (36 * a).toNat 0 36) else A) (tr)) H := by rw [ef]; exact hP.sub [0, 1, 2, 3, 4, 5, 6, 7, 8, 9, 10] rfl
      exact W.iret (v := iZ (xBack A a)) hx hb hr (fun t9 ht9 _ => ⟨rfl, by rw [ht9]; exact hP9, hS.F ht9⟩) hS.2.2 dX7_back_22
  · skip
    have c_1 := of_decide_eq_false c_1
    refine z_iconst hx hb dX7_back_9 ?_
    refine z_top (show (-1) = xBack A a from ?_) ?_
    · unfold xBack; rw [if_neg (by omega)]
    have ef : fBack (A 20) a = false := decide_eq_false (by omega)
    have hP9 : va_P G vwCl (moW Y g9 af (bif fBack (A 20) a then va_up F 22 0 else F) (bif fBack (A 20) a then va_up A 17 (va_cpy (A 19) (A 17) (36 * a).toNat 0 36) else A) (tr)) H := by rw [ef]; exact hP.sub [0, 1, 2, 3, 4, 5, 6, 7, 8, 9, 10] rfl
    exact W.iret (v := iZ (xBack A a)) hx hb hr (fun t9 ht9 _ => ⟨rfl, by rw [ht9]; exact hP9, hS.F ht9⟩) hS.2.2 dX7_back_10

set_option maxHeartbeats 4000000 in
set_option maxRecDepth 100000 in
theorem c_X7_heightOf (l : Launch) (G : va_G) (Y : Nat → ClassId) (g9 : Nat) (af : Nat → Nat) (F : Nat → Int) (A : Kom) (tr : Int64) (hV : mV F A (A 17)) (hno : F 26 < 0) (a : Int) (r : 0 ≤ a ∧ a ≤ A 17 3 - 1) : Met l yX7_heightOf wsX7_heightOf ({ frames := 0, cells := 0, slots := 0, locals := 0 }) (mP G Y [.ref g9, .int (iZ a)] (moW Y g9 af F A tr)) (mQ G (moW Y g9 af F A tr) (some (.int (iZ ((A 17) (9 + Int.toNat a))))) (moW Y g9 af (F) (A) (tr + 1))) 0 0 (fun q => q ∈ List.map Prod.fst (moW Y g9 af F A tr)) := by
  refine Met.ofW (cc := cX7_heightOf) (maxL := 2) (ret := (some .int)) (by decide) rfl ?_
  intro p e s m args below meth c s₁ B hml hv
  obtain ⟨rfl, hK, hP, hD0⟩ := hv
  have hx := B.exec
  have hb := B.bytes
  have hr := B.returns
  have hts := atoms_spec (ws := wsX7_heightOf) B.pre
  have hown : s.vm.findClass RX7 = some m.cls := findClass_of_methodNamed B.named
  have hlocks := B.notSynchronized
  have hFX7 : ∀ w ∈ wsX70, w ∈ wsX7_heightOf := by decide +kernel
  have kf193 := (hts (.fieldLink RX7 193 "ShadeVotesModel" "trace" "J") (by decide +kernel))
  have kf29 := (hts (.fieldLink RX7 29 "ShadeVotesModel" "now" "[I") (by decide +kernel))
  have hD := va_D_self hD0
  have hS : va_S (fun q => q ∈ List.map Prod.fst (moW Y g9 af F A tr)) s.heap s.heap [] := va_S.rf
  obtain ⟨H, hHe⟩ : ∃ H, H = s.heap := ⟨_, rfl⟩
  rw [← hHe] at hP
  replace hS : va_S (fun q => q ∈ List.map Prod.fst (moW Y g9 af F A tr)) s.heap H [] := by rw [hHe]; exact hS
  have hl := lv_entry ([.ref g9, .int (iZ a)]) (n := 2) (Nat.le_of_ble_eq_true rfl)
  rw [lg_entry_eq]
  generalize (lg_sl ([.ref g9, .int (iZ a)]) ++ List.replicate (2 - (lg_sl ([.ref g9, .int (iZ a)])).length) Slot.unset).toArray = ls at hl ⊢
  replace hl : lv_has ls 2 [(0, .ref g9), (1, .int (iZ a))] := hl
  obtain ⟨locs, hLe⟩ : ∃ locs : List Loc, locs = [] := ⟨_, rfl⟩
  rw [← hLe] at hS ⊢
  have hW0 : ∀ {Q : State → Prop} {g : JFrame}, W p l e ({ frames := 0, cells := 0, slots := 0, locals := 0 }) s m [.ref g9, .int (iZ a)].toArray below meth c H locs 0 0 Q g → W p l e ({ frames := 0, cells := 0, slots := 0, locals := 0 }) s m [.ref g9, .int (iZ a)].toArray below meth c s.heap locs 0 0 Q g := fun h => by rw [← hHe]; exact h
  refine hW0 ?_
  clear hW0 hHe hLe
  have v3 := hV.2.2.1
  have v7 := hV.2.2.2.2.2.2.1
  have v8 := hV.2.2.2.2.2.2.2.1
  have v5 := hV.2.1
  have v4 := hV.2.2.2.1
  have k00 : kF F A (A 17) 0 0 = F 13 := rfl
  have k01 : kF F A (A 17) 0 1 = F 14 := rfl
  have k02 : kF F A (A 17) 0 2 = A 17 3 := rfl
  have k03 : kF F A (A 17) 0 3 = F 15 := rfl
  have k04 : kF F A (A 17) 0 4 = A 17 1 := rfl
  have k05 : kF F A (A 17) 0 5 = A 17 0 := rfl
  have k06 : kF F A (A 17) 0 6 = A 17 2 := rfl
  have kpr : kF F A (A 17) 0 0 * kF F A (A 17) 0 1 = F 13 * F 14 := rfl
  have hW := hV.1
  refine lv_aload_n hx hb dX7_heightOf_0 rfl (lv_at hl 0 rfl) ?_
  refine lv_dup hx hb dX7_heightOf_1 rfl ?_
  refine va_get (D := G) (ci := 7) (v := .long tr) (C := RX7) (T := TX7) (N := 29) hx hb hts hFX7 hown hK.1 hP 0 rfl rfl 25 (by decide) kf193 (fun _ h9 => h9) rfl dX7_heightOf_2 ?_
  refine lv_lconst (v := 1) hx hb dX7_heightOf_5 (by decide) ?_
  refine lv_ladd hx hb dX7_heightOf_6 ?_
  refine va_put (D := G) (ci := 7) (v := .long (tr + 1)) (ty := .long) (C := RX7) (T := TX7) (N := 29) hx hb hts hFX7 tyX7 tyX7_ok nmX7 hown hK.1 hP hD hS 0 rfl rfl 25 (by decide) kf193 (fun _ h9 => h9) rfl (by decide +kernel) rfl rfl (Nat.le_of_ble_eq_true rfl) dX7_heightOf_7 (fun H locs hP hD hS => ?_)
  replace hP : va_P G vwCl [(g9, .inr (7, [.int (iZ (F 0)), .ref (af 1), .int (iZ (F 2)), .int (iZ (F 3)), .int (iZ (F 4)), .int (iZ (F 5)), .int (iZ (F 6)), .int (iZ (F 7)), .int (iZ (F 8)), .int (iZ (F 9)), .int (iZ (F 10)), .ref (af 11), .ref (af 12), .int (iZ (F 13)), .int (iZ (F 14)), .int (iZ (F 15)), .ref (af 16), .ref (af 17), .ref (af 18), .ref (af 19), .ref (af 20), .ref (af 21), .int (iZ (F 22)), .int (iZ (F 23)), .ref (af 24), .long (tr + 1), .int (iZ (F 26)), .int (iZ (F 27)), .int (iZ (F 28))])), (af 1, .inl (Y 0, 200, .inl (aI (A 1)))), (af 11, .inl (Y 0, 7, .inl (aI (A 11)))), (af 12, .inl (Y 0, 36, .inl (aI (A 12)))), (af 16, .inl (Y 0, 7, .inl (aI (A 16)))), (af 17, .inl (Y 0, 36, .inl (aI (A 17)))), (af 18, .inl (Y 0, 41, .inl (aI (A 18)))), (af 19, .inl (Y 0, 72, .inl (aI (A 19)))), (af 20, .inl (Y 1, 2, .inl (aI (A 20)))), (af 21, .inl (Y 0, 360, .inl (aI (A 21)))), (af 24, .inl (Y 0, 10, .inl (aI (A 24))))] H := hP
  replace hD : va_D _ [(g9, .inr (7, [.int (iZ (F 0)), .ref (af 1), .int (iZ (F 2)), .int (iZ (F 3)), .int (iZ (F 4)), .int (iZ (F 5)), .int (iZ (F 6)), .int (iZ (F 7)), .int (iZ (F 8)), .int (iZ (F 9)), .int (iZ (F 10)), .ref (af 11), .ref (af 12), .int (iZ (F 13)), .int (iZ (F 14)), .int (iZ (F 15)), .ref (af 16), .ref (af 17), .ref (af 18), .ref (af 19), .ref (af 20), .ref (af 21), .int (iZ (F 22)), .int (iZ (F 23)), .ref (af 24), .long (tr + 1), .int (iZ (F 26)), .int (iZ (F 27)), .int (iZ (F 28))])), (af 1, .inl (Y 0, 200, .inl (aI (A 1)))), (af 11, .inl (Y 0, 7, .inl (aI (A 11)))), (af 12, .inl (Y 0, 36, .inl (aI (A 12)))), (af 16, .inl (Y 0, 7, .inl (aI (A 16)))), (af 17, .inl (Y 0, 36, .inl (aI (A 17)))), (af 18, .inl (Y 0, 41, .inl (aI (A 18)))), (af 19, .inl (Y 0, 72, .inl (aI (A 19)))), (af 20, .inl (Y 1, 2, .inl (aI (A 20)))), (af 21, .inl (Y 0, 360, .inl (aI (A 21)))), (af 24, .inl (Y 0, 10, .inl (aI (A 24))))] := hD
  refine lv_aload_n hx hb dX7_heightOf_10 rfl (lv_at hl 0 rfl) ?_
  refine va_get (D := G) (ci := 7) (v := .ref (af 17)) (C := RX7) (T := TX7) (N := 29) hx hb hts hFX7 hown hK.1 hP 0 rfl rfl 17 (by decide) kf29 (fun _ h9 => h9) rfl dX7_heightOf_11 ?_
  refine z_bipush hx hb dX7_heightOf_14 (by decide) ?_
  refine lv_iload_n hx hb dX7_heightOf_16 rfl (lv_at hl 1 rfl) ?_
  refine z_iadd hx hb dX7_heightOf_17 ?_
  refine z_iald hx hb hK.1 hP 5 0 rfl rfl (((9 + a)).toNat) (by omega) (by decide) dX7_heightOf_18 ?_
  have eO1 : ((9 + a)).toNat = 9 + a.toNat := by omega
  have hbeO1 := hV.2.2.2.2.1 a.toNat (by omega)
  refine z_top (show (A 17) (((9 + a)).toNat) = (A 17) (9 + a.toNat) by rw [eO1]) ?_
  refine z_top (show (A 17) (9 + a.toNat) = (A 17) (9 + Int.toNat a) from ?_) ?_
  · rfl
  have hP9 : va_P G vwCl (moW Y g9 af (F) (A) (tr + 1)) H := by exact hP.sub [0, 1, 2, 3, 4, 5, 6, 7, 8, 9, 10] rfl
  exact W.iret (v := iZ ((A 17) (9 + Int.toNat a))) hx hb hr (fun t9 ht9 _ => ⟨rfl, by rw [ht9]; exact hP9, hS.F ht9⟩) hS.2.2 dX7_heightOf_19

set_option maxHeartbeats 4000000 in
set_option maxRecDepth 100000 in
theorem c_X7_oakOf (l : Launch) (G : va_G) (Y : Nat → ClassId) (g9 : Nat) (af : Nat → Nat) (F : Nat → Int) (A : Kom) (tr : Int64) (hV : mV F A (A 17)) (hno : F 26 < 0) (a : Int) (r : 0 ≤ a ∧ a ≤ A 17 3 - 1) : Met l yX7_oakOf wsX7_oakOf ({ frames := 4, cells := 0, slots := 0, locals := 97 }) (mP G Y [.ref g9, .int (iZ a)] (moW Y g9 af F A tr)) (mQ G (moW Y g9 af F A tr) (some (.int (iZ (((A 17) (9 + Int.toNat a) + wu (kF F A (A 17)) a))))) (moW Y g9 af (F) (A) (tr + kC10 + 1))) 0 0 (fun q => q ∈ List.map Prod.fst (moW Y g9 af F A tr)) := by
  refine Met.ofW (cc := cX7_oakOf) (maxL := 2) (ret := (some .int)) (by decide) rfl ?_
  intro p e s m args below meth c s₁ B hml hv
  obtain ⟨rfl, hK, hP, hD0⟩ := hv
  have hx := B.exec
  have hb := B.bytes
  have hr := B.returns
  have hts := atoms_spec (ws := wsX7_oakOf) B.pre
  have hown : s.vm.findClass RX7 = some m.cls := findClass_of_methodNamed B.named
  have hlocks := B.notSynchronized
  have hFX7 : ∀ w ∈ wsX70, w ∈ wsX7_oakOf := by decide +kernel
  have kf193 := (hts (.fieldLink RX7 193 "ShadeVotesModel" "trace" "J") (by decide +kernel))
  have hD := va_D_self hD0
  have hS : va_S (fun q => q ∈ List.map Prod.fst (moW Y g9 af F A tr)) s.heap s.heap [] := va_S.rf
  obtain ⟨H, hHe⟩ : ∃ H, H = s.heap := ⟨_, rfl⟩
  rw [← hHe] at hP
  replace hS : va_S (fun q => q ∈ List.map Prod.fst (moW Y g9 af F A tr)) s.heap H [] := by rw [hHe]; exact hS
  have hl := lv_entry ([.ref g9, .int (iZ a)]) (n := 2) (Nat.le_of_ble_eq_true rfl)
  rw [lg_entry_eq]
  generalize (lg_sl ([.ref g9, .int (iZ a)]) ++ List.replicate (2 - (lg_sl ([.ref g9, .int (iZ a)])).length) Slot.unset).toArray = ls at hl ⊢
  replace hl : lv_has ls 2 [(0, .ref g9), (1, .int (iZ a))] := hl
  obtain ⟨locs, hLe⟩ : ∃ locs : List Loc, locs = [] := ⟨_, rfl⟩
  rw [← hLe] at hS ⊢
  have hW0 : ∀ {Q : State → Prop} {g : JFrame}, W p l e ({ frames := 4, cells := 0, slots := 0, locals := 97 }) s m [.ref g9, .int (iZ a)].toArray below meth c H locs 0 0 Q g → W p l e ({ frames := 4, cells := 0, slots := 0, locals := 97 }) s m [.ref g9, .int (iZ a)].toArray below meth c s.heap locs 0 0 Q g := fun h => by rw [← hHe]; exact h
  refine hW0 ?_
  clear hW0 hHe hLe
  have v3 := hV.2.2.1
  have v7 := hV.2.2.2.2.2.2.1
  have v8 := hV.2.2.2.2.2.2.2.1
  have v5 := hV.2.1
  have v4 := hV.2.2.2.1
  have k00 : kF F A (A 17) 0 0 = F 13 := rfl
  have k01 : kF F A (A 17) 0 1 = F 14 := rfl
  have k02 : kF F A (A 17) 0 2 = A 17 3 := rfl
  have k03 : kF F A (A 17) 0 3 = F 15 := rfl
  have k04 : kF F A (A 17) 0 4 = A 17 1 := rfl
  have k05 : kF F A (A 17) 0 5 = A 17 0 := rfl
  have k06 : kF F A (A 17) 0 6 = A 17 2 := rfl
  have kpr : kF F A (A 17) 0 0 * kF F A (A 17) 0 1 = F 13 * F 14 := rfl
  have hW := hV.1
  refine lv_aload_n hx hb dX7_oakOf_0 rfl (lv_at hl 0 rfl) ?_
  refine lv_dup hx hb dX7_oakOf_1 rfl ?_
  refine va_get (D := G) (ci := 7) (v := .long tr) (C := RX7) (T := TX7) (N := 29) hx hb hts hFX7 hown hK.1 hP 0 rfl rfl 25 (by decide) kf193 (fun _ h9 => h9) rfl dX7_oakOf_2 ?_
  refine lv_ldc2 (v := 10) hx hb hown (hts (.constantLong RX7 197 (10)) (by decide +kernel)) dX7_oakOf_5 ?_
  refine lv_topl (fun kl1 ekl1 => ?_)
  refine lv_ladd hx hb dX7_oakOf_8 ?_
  refine va_put (D := G) (ci := 7) (v := .long (tr + kl1)) (ty := .long) (C := RX7) (T := TX7) (N := 29) hx hb hts hFX7 tyX7 tyX7_ok nmX7 hown hK.1 hP hD hS 0 rfl rfl 25 (by decide) kf193 (fun _ h9 => h9) rfl (by decide +kernel) rfl rfl (Nat.le_of_ble_eq_true rfl) dX7_oakOf_9 (fun H locs hP hD hS => ?_)
  replace hP : va_P G vwCl [(g9, .inr (7, [.int (iZ (F 0)), .ref (af 1), .int (iZ (F 2)), .int (iZ (F 3)), .int (iZ (F 4)), .int (iZ (F 5)), .int (iZ (F 6)), .int (iZ (F 7)), .int (iZ (F 8)), .int (iZ (F 9)), .int (iZ (F 10)), .ref (af 11), .ref (af 12), .int (iZ (F 13)), .int (iZ (F 14)), .int (iZ (F 15)), .ref (af 16), .ref (af 17), .ref (af 18), .ref (af 19), .ref (af 20), .ref (af 21), .int (iZ (F 22)), .int (iZ (F 23)), .ref (af 24), .long (tr + kl1), .int (iZ (F 26)), .int (iZ (F 27)), .int (iZ (F 28))])), (af 1, .inl (Y 0, 200, .inl (aI (A 1)))), (af 11, .inl (Y 0, 7, .inl (aI (A 11)))), (af 12, .inl (Y 0, 36, .inl (aI (A 12)))), (af 16, .inl (Y 0, 7, .inl (aI (A 16)))), (af 17, .inl (Y 0, 36, .inl (aI (A 17)))), (af 18, .inl (Y 0, 41, .inl (aI (A 18)))), (af 19, .inl (Y 0, 72, .inl (aI (A 19)))), (af 20, .inl (Y 1, 2, .inl (aI (A 20)))), (af 21, .inl (Y 0, 360, .inl (aI (A 21)))), (af 24, .inl (Y 0, 10, .inl (aI (A 24))))] H := hP
  replace hD : va_D _ [(g9, .inr (7, [.int (iZ (F 0)), .ref (af 1), .int (iZ (F 2)), .int (iZ (F 3)), .int (iZ (F 4)), .int (iZ (F 5)), .int (iZ (F 6)), .int (iZ (F 7)), .int (iZ (F 8)), .int (iZ (F 9)), .int (iZ (F 10)), .ref (af 11), .ref (af 12), .int (iZ (F 13)), .int (iZ (F 14)), .int (iZ (F 15)), .ref (af 16), .ref (af 17), .ref (af 18), .ref (af 19), .ref (af 20), .ref (af 21), .int (iZ (F 22)), .int (iZ (F 23)), .ref (af 24), .long (tr + kl1), .int (iZ (F 26)), .int (iZ (F 27)), .int (iZ (F 28))])), (af 1, .inl (Y 0, 200, .inl (aI (A 1)))), (af 11, .inl (Y 0, 7, .inl (aI (A 11)))), (af 12, .inl (Y 0, 36, .inl (aI (A 12)))), (af 16, .inl (Y 0, 7, .inl (aI (A 16)))), (af 17, .inl (Y 0, 36, .inl (aI (A 17)))), (af 18, .inl (Y 0, 41, .inl (aI (A 18)))), (af 19, .inl (Y 0, 72, .inl (aI (A 19)))), (af 20, .inl (Y 1, 2, .inl (aI (A 20)))), (af 21, .inl (Y 0, 360, .inl (aI (A 21)))), (af 24, .inl (Y 0, 10, .inl (aI (A 24))))] := hD
  refine lv_aload_n hx hb dX7_oakOf_12 rfl (lv_at hl 0 rfl) ?_
  refine lv_iload_n hx hb dX7_oakOf_13 rfl (lv_at hl 1 rfl) ?_
  have hP := hP.sub (ws' := [(g9, .inr (7, [.int (iZ (F 0)), .ref (af 1), .int (iZ (F 2)), .int (iZ (F 3)), .int (iZ (F 4)), .int (iZ (F 5)), .int (iZ (F 6)), .int (iZ (F 7)), .int (iZ (F 8)), .int (iZ (F 9)), .int (iZ (F 10)), .ref (af 11), .ref (af 12), .int (iZ (F 13)), .int (iZ (F 14)), .int (iZ (F 15)), .ref (af 16), .ref (af 17), .ref (af 18), .ref (af 19), .ref (af 20), .ref (af 21), .int (iZ (F 22)), .int (iZ (F 23)), .ref (af 24), .long (tr + kl1), .int (iZ (F 26)), .int (iZ (F 27)), .int (iZ (F 28))])), (af 1, .inl (Y 0, 200, .inl (aI (A 1)))), (af 11, .inl (Y 0, 7, .inl (aI (A 11)))), (af 12, .inl (Y 0, 36, .inl (aI (A 12)))), (af 16, .inl (Y 0, 7, .inl (aI (A 16)))), (af 17, .inl (Y 0, 36, .inl (aI (A 17)))), (af 18, .inl (Y 0, 41, .inl (aI (A 18)))), (af 19, .inl (Y 0, 72, .inl (aI (A 19)))), (af 20, .inl (Y 1, 2, .inl (aI (A 20)))), (af 21, .inl (Y 0, 360, .inl (aI (A 21)))), (af 24, .inl (Y 0, 10, .inl (aI (A 24))))] ++ []) [0, 1, 2, 3, 4, 5, 6, 7, 8, 9, 10] rfl
  have hD := hD.sub (ws' := [(g9, .inr (7, [.int (iZ (F 0)), .ref (af 1), .int (iZ (F 2)), .int (iZ (F 3)), .int (iZ (F 4)), .int (iZ (F 5)), .int (iZ (F 6)), .int (iZ (F 7)), .int (iZ (F 8)), .int (iZ (F 9)), .int (iZ (F 10)), .ref (af 11), .ref (af 12), .int (iZ (F 13)), .int (iZ (F 14)), .int (iZ (F 15)), .ref (af 16), .ref (af 17), .ref (af 18), .ref (af 19), .ref (af 20), .ref (af 21), .int (iZ (F 22)), .int (iZ (F 23)), .ref (af 24), .long (tr + kl1), .int (iZ (F 26)), .int (iZ (F 27)), .int (iZ (F 28))])), (af 1, .inl (Y 0, 200, .inl (aI (A 1)))), (af 11, .inl (Y 0, 7, .inl (aI (A 11)))), (af 12, .inl (Y 0, 36, .inl (aI (A 12)))), (af 16, .inl (Y 0, 7, .inl (aI (A 16)))), (af 17, .inl (Y 0, 36, .inl (aI (A 17)))), (af 18, .inl (Y 0, 41, .inl (aI (A 18)))), (af 19, .inl (Y 0, 72, .inl (aI (A 19)))), (af 20, .inl (Y 1, 2, .inl (aI (A 20)))), (af 21, .inl (Y 0, 360, .inl (aI (A 21)))), (af 24, .inl (Y 0, 10, .inl (aI (A 24))))] ++ []) [0, 1, 2, 3, 4, 5, 6, 7, 8, 9, 10] (by decide) rfl
  refine mu_V (As := [.int (iZ a)]) (rest := []) (wc := [(g9, .inr (7, [.int (iZ (F 0)), .ref (af 1), .int (iZ (F 2)), .int (iZ (F 3)), .int (iZ (F 4)), .int (iZ (F 5)), .int (iZ (F 6)), .int (iZ (F 7)), .int (iZ (F 8)), .int (iZ (F 9)), .int (iZ (F 10)), .ref (af 11), .ref (af 12), .int (iZ (F 13)), .int (iZ (F 14)), .int (iZ (F 15)), .ref (af 16), .ref (af 17), .ref (af 18), .ref (af 19), .ref (af 20), .ref (af 21), .int (iZ (F 22)), .int (iZ (F 23)), .ref (af 24), .long (tr + kl1), .int (iZ (F 26)), .int (iZ (F 27)), .int (iZ (F 28))])), (af 1, .inl (Y 0, 200, .inl (aI (A 1)))), (af 11, .inl (Y 0, 7, .inl (aI (A 11)))), (af 12, .inl (Y 0, 36, .inl (aI (A 12)))), (af 16, .inl (Y 0, 7, .inl (aI (A 16)))), (af 17, .inl (Y 0, 36, .inl (aI (A 17)))), (af 18, .inl (Y 0, 41, .inl (aI (A 18)))), (af 19, .inl (Y 0, 72, .inl (aI (A 19)))), (af 20, .inl (Y 1, 2, .inl (aI (A 20)))), (af 21, .inl (Y 0, 360, .inl (aI (A 21)))), (af 24, .inl (Y 0, 10, .inl (aI (A 24))))]) (wc' := moW Y g9 af F A ((tr + kl1) + 1)) (F := []) ⟨hx, hb, hml, hown, hts⟩ (c_X7_heightOf l G Y g9 af F A (tr + kl1) hV hno a (by omega)) (cwV 1 hts gX7_oakOf_X7_heightOf rfl rfl rfl (by decide +kernel) ⟨Nat.le_of_ble_eq_true rfl, Nat.le_of_ble_eq_true rfl⟩) hK hP hD hS 0 rfl rfl (Eq.refl [g9, af 1, af 11, af 12, af 16, af 17, af 18, af 19, af 20, af 21, af 24]) rfl hl.1 rfl (Nat.le_of_ble_eq_true rfl) dX7_oakOf_14 ⟨Nat.zero_le _, Nat.zero_le _⟩ (fun H locs hP hD hS => ?_)
  show W _ _ _ _ _ _ _ _ _ _ _ _ _ _ _ (F0 _ _ _ [.int (iZ ((A 17) (9 + Int.toNat a)))])
  replace hP : va_P G vwCl [(g9, .inr (7, [.int (iZ (F 0)), .ref (af 1), .int (iZ (F 2)), .int (iZ (F 3)), .int (iZ (F 4)), .int (iZ (F 5)), .int (iZ (F 6)), .int (iZ (F 7)), .int (iZ (F 8)), .int (iZ (F 9)), .int (iZ (F 10)), .ref (af 11), .ref (af 12), .int (iZ (F 13)), .int (iZ (F 14)), .int (iZ (F 15)), .ref (af 16), .ref (af 17), .ref (af 18), .ref (af 19), .ref (af 20), .ref (af 21), .int (iZ (F 22)), .int (iZ (F 23)), .ref (af 24), .long ((tr + kl1) + 1), .int (iZ (F 26)), .int (iZ (F 27)), .int (iZ (F 28))])), (af 1, .inl (Y 0, 200, .inl (aI (A 1)))), (af 11, .inl (Y 0, 7, .inl (aI (A 11)))), (af 12, .inl (Y 0, 36, .inl (aI (A 12)))), (af 16, .inl (Y 0, 7, .inl (aI (A 16)))), (af 17, .inl (Y 0, 36, .inl (aI (A 17)))), (af 18, .inl (Y 0, 41, .inl (aI (A 18)))), (af 19, .inl (Y 0, 72, .inl (aI (A 19)))), (af 20, .inl (Y 1, 2, .inl (aI (A 20)))), (af 21, .inl (Y 0, 360, .inl (aI (A 21)))), (af 24, .inl (Y 0, 10, .inl (aI (A 24))))] H := hP
  replace hD : va_D _ [(g9, .inr (7, [.int (iZ (F 0)), .ref (af 1), .int (iZ (F 2)), .int (iZ (F 3)), .int (iZ (F 4)), .int (iZ (F 5)), .int (iZ (F 6)), .int (iZ (F 7)), .int (iZ (F 8)), .int (iZ (F 9)), .int (iZ (F 10)), .ref (af 11), .ref (af 12), .int (iZ (F 13)), .int (iZ (F 14)), .int (iZ (F 15)), .ref (af 16), .ref (af 17), .ref (af 18), .ref (af 19), .ref (af 20), .ref (af 21), .int (iZ (F 22)), .int (iZ (F 23)), .ref (af 24), .long ((tr + kl1) + 1), .int (iZ (F 26)), .int (iZ (F 27)), .int (iZ (F 28))])), (af 1, .inl (Y 0, 200, .inl (aI (A 1)))), (af 11, .inl (Y 0, 7, .inl (aI (A 11)))), (af 12, .inl (Y 0, 36, .inl (aI (A 12)))), (af 16, .inl (Y 0, 7, .inl (aI (A 16)))), (af 17, .inl (Y 0, 36, .inl (aI (A 17)))), (af 18, .inl (Y 0, 41, .inl (aI (A 18)))), (af 19, .inl (Y 0, 72, .inl (aI (A 19)))), (af 20, .inl (Y 1, 2, .inl (aI (A 20)))), (af 21, .inl (Y 0, 360, .inl (aI (A 21)))), (af 24, .inl (Y 0, 10, .inl (aI (A 24))))] := hD
  have hb_2 := hV.2.2.2.2.1 (Int.toNat a) (by omega)
  have hb_3 := wu_in hV.1 a
  refine lv_aload_n hx hb dX7_oakOf_17 rfl (lv_at hl 0 rfl) ?_
  refine lv_iload_n hx hb dX7_oakOf_18 rfl (lv_at hl 1 rfl) ?_
  refine ro_V (As := [.int (iZ a)]) (rest := [.int (iZ ((A 17) (9 + Int.toNat a)))]) ⟨hx, hb, hml, hown, hts⟩ (c_X7_weightUnder l G Y g9 af F A ((tr + kl1) + 1) hV a (by omega)) (cwV 1 hts gX7_oakOf_X7_weightUnder rfl rfl rfl (by decide +kernel) ⟨Nat.le_of_ble_eq_true rfl, Nat.le_of_ble_eq_true rfl⟩) hK (hP.sub (ws' := moW Y g9 af F A ((tr + kl1) + 1)) [0, 1, 2, 3, 4, 5, 6, 7, 8, 9, 10] rfl) 0 rfl rfl rfl hl.1 rfl (Nat.le_of_ble_eq_true rfl) dX7_oakOf_19 ⟨Nat.zero_le _, Nat.zero_le _⟩ ?_
  rw [kM_no hno]
  have hb_4 := wu_in (kM_WF hV) a
  rw [kM_no hno] at hb_4
  refine z_iadd hx hb dX7_oakOf_22 ?_
  replace ekl1 : kl1 = kC10 := ekl1
  subst ekl1
  have hP9 : va_P G vwCl (moW Y g9 af (F) (A) (tr + kC10 + 1)) H := by exact hP.sub [0, 1, 2, 3, 4, 5, 6, 7, 8, 9, 10] rfl
  exact W.iret (v := iZ ((A 17) (9 + Int.toNat a) + wu (kF F A (A 17)) a)) hx hb hr (fun t9 ht9 _ => ⟨rfl, by rw [ht9]; exact hP9, hS.F ht9⟩) hS.2.2 dX7_oakOf_23

set_option maxHeartbeats 4000000 in
set_option maxRecDepth 100000 in
theorem c_X7_poplarOf (l : Launch) (G : va_G) (Y : Nat → ClassId) (g9 : Nat) (af : Nat → Nat) (F : Nat → Int) (A : Kom) (tr : Int64) (hV : mV F A (A 17)) (hno : F 26 < 0) (a : Int) (r : 0 ≤ a ∧ a ≤ A 17 3 - 1) : Met l yX7_poplarOf wsX7_poplarOf ({ frames := 1, cells := 0, slots := 0, locals := 21 }) (mP G Y [.ref g9, .int (iZ a)] (moW Y g9 af F A tr)) (mQ G (moW Y g9 af F A tr) (some (.int (iZ (((A 17) (9 + Int.toNat a) - (A 17) (4 + Int.toNat a)))))) (moW Y g9 af (F) (A) (tr + kC100 + 1))) 0 0 (fun q => q ∈ List.map Prod.fst (moW Y g9 af F A tr)) := by
  refine Met.ofW (cc := cX7_poplarOf) (maxL := 2) (ret := (some .int)) (by decide) rfl ?_
  intro p e s m args below meth c s₁ B hml hv
  obtain ⟨rfl, hK, hP, hD0⟩ := hv
  have hx := B.exec
  have hb := B.bytes
  have hr := B.returns
  have hts := atoms_spec (ws := wsX7_poplarOf) B.pre
  have hown : s.vm.findClass RX7 = some m.cls := findClass_of_methodNamed B.named
  have hlocks := B.notSynchronized
  have hFX7 : ∀ w ∈ wsX70, w ∈ wsX7_poplarOf := by decide +kernel
  have kf193 := (hts (.fieldLink RX7 193 "ShadeVotesModel" "trace" "J") (by decide +kernel))
  have kf29 := (hts (.fieldLink RX7 29 "ShadeVotesModel" "now" "[I") (by decide +kernel))
  have hD := va_D_self hD0
  have hS : va_S (fun q => q ∈ List.map Prod.fst (moW Y g9 af F A tr)) s.heap s.heap [] := va_S.rf
  obtain ⟨H, hHe⟩ : ∃ H, H = s.heap := ⟨_, rfl⟩
  rw [← hHe] at hP
  replace hS : va_S (fun q => q ∈ List.map Prod.fst (moW Y g9 af F A tr)) s.heap H [] := by rw [hHe]; exact hS
  have hl := lv_entry ([.ref g9, .int (iZ a)]) (n := 2) (Nat.le_of_ble_eq_true rfl)
  rw [lg_entry_eq]
  generalize (lg_sl ([.ref g9, .int (iZ a)]) ++ List.replicate (2 - (lg_sl ([.ref g9, .int (iZ a)])).length) Slot.unset).toArray = ls at hl ⊢
  replace hl : lv_has ls 2 [(0, .ref g9), (1, .int (iZ a))] := hl
  obtain ⟨locs, hLe⟩ : ∃ locs : List Loc, locs = [] := ⟨_, rfl⟩
  rw [← hLe] at hS ⊢
  have hW0 : ∀ {Q : State → Prop} {g : JFrame}, W p l e ({ frames := 1, cells := 0, slots := 0, locals := 21 }) s m [.ref g9, .int (iZ a)].toArray below meth c H locs 0 0 Q g → W p l e ({ frames := 1, cells := 0, slots := 0, locals := 21 }) s m [.ref g9, .int (iZ a)].toArray below meth c s.heap locs 0 0 Q g := fun h => by rw [← hHe]; exact h
  refine hW0 ?_
  clear hW0 hHe hLe
  have v3 := hV.2.2.1
  have v7 := hV.2.2.2.2.2.2.1
  have v8 := hV.2.2.2.2.2.2.2.1
  have v5 := hV.2.1
  have v4 := hV.2.2.2.1
  have k00 : kF F A (A 17) 0 0 = F 13 := rfl
  have k01 : kF F A (A 17) 0 1 = F 14 := rfl
  have k02 : kF F A (A 17) 0 2 = A 17 3 := rfl
  have k03 : kF F A (A 17) 0 3 = F 15 := rfl
  have k04 : kF F A (A 17) 0 4 = A 17 1 := rfl
  have k05 : kF F A (A 17) 0 5 = A 17 0 := rfl
  have k06 : kF F A (A 17) 0 6 = A 17 2 := rfl
  have kpr : kF F A (A 17) 0 0 * kF F A (A 17) 0 1 = F 13 * F 14 := rfl
  have hW := hV.1
  refine lv_aload_n hx hb dX7_poplarOf_0 rfl (lv_at hl 0 rfl) ?_
  refine lv_dup hx hb dX7_poplarOf_1 rfl ?_
  refine va_get (D := G) (ci := 7) (v := .long tr) (C := RX7) (T := TX7) (N := 29) hx hb hts hFX7 hown hK.1 hP 0 rfl rfl 25 (by decide) kf193 (fun _ h9 => h9) rfl dX7_poplarOf_2 ?_
  refine lv_ldc2 (v := 100) hx hb hown (hts (.constantLong RX7 202 (100)) (by decide +kernel)) dX7_poplarOf_5 ?_
  refine lv_topl (fun kl1 ekl1 => ?_)
  refine lv_ladd hx hb dX7_poplarOf_8 ?_
  refine va_put (D := G) (ci := 7) (v := .long (tr + kl1)) (ty := .long) (C := RX7) (T := TX7) (N := 29) hx hb hts hFX7 tyX7 tyX7_ok nmX7 hown hK.1 hP hD hS 0 rfl rfl 25 (by decide) kf193 (fun _ h9 => h9) rfl (by decide +kernel) rfl rfl (Nat.le_of_ble_eq_true rfl) dX7_poplarOf_9 (fun H locs hP hD hS => ?_)
  replace hP : va_P G vwCl [(g9, .inr (7, [.int (iZ (F 0)), .ref (af 1), .int (iZ (F 2)), .int (iZ (F 3)), .int (iZ (F 4)), .int (iZ (F 5)), .int (iZ (F 6)), .int (iZ (F 7)), .int (iZ (F 8)), .int (iZ (F 9)), .int (iZ (F 10)), .ref (af 11), .ref (af 12), .int (iZ (F 13)), .int (iZ (F 14)), .int (iZ (F 15)), .ref (af 16), .ref (af 17), .ref (af 18), .ref (af 19), .ref (af 20), .ref (af 21), .int (iZ (F 22)), .int (iZ (F 23)), .ref (af 24), .long (tr + kl1), .int (iZ (F 26)), .int (iZ (F 27)), .int (iZ (F 28))])), (af 1, .inl (Y 0, 200, .inl (aI (A 1)))), (af 11, .inl (Y 0, 7, .inl (aI (A 11)))), (af 12, .inl (Y 0, 36, .inl (aI (A 12)))), (af 16, .inl (Y 0, 7, .inl (aI (A 16)))), (af 17, .inl (Y 0, 36, .inl (aI (A 17)))), (af 18, .inl (Y 0, 41, .inl (aI (A 18)))), (af 19, .inl (Y 0, 72, .inl (aI (A 19)))), (af 20, .inl (Y 1, 2, .inl (aI (A 20)))), (af 21, .inl (Y 0, 360, .inl (aI (A 21)))), (af 24, .inl (Y 0, 10, .inl (aI (A 24))))] H := hP
  replace hD : va_D _ [(g9, .inr (7, [.int (iZ (F 0)), .ref (af 1), .int (iZ (F 2)), .int (iZ (F 3)), .int (iZ (F 4)), .int (iZ (F 5)), .int (iZ (F 6)), .int (iZ (F 7)), .int (iZ (F 8)), .int (iZ (F 9)), .int (iZ (F 10)), .ref (af 11), .ref (af 12), .int (iZ (F 13)), .int (iZ (F 14)), .int (iZ (F 15)), .ref (af 16), .ref (af 17), .ref (af 18), .ref (af 19), .ref (af 20), .ref (af 21), .int (iZ (F 22)), .int (iZ (F 23)), .ref (af 24), .long (tr + kl1), .int (iZ (F 26)), .int (iZ (F 27)), .int (iZ (F 28))])), (af 1, .inl (Y 0, 200, .inl (aI (A 1)))), (af 11, .inl (Y 0, 7, .inl (aI (A 11)))), (af 12, .inl (Y 0, 36, .inl (aI (A 12)))), (af 16, .inl (Y 0, 7, .inl (aI (A 16)))), (af 17, .inl (Y 0, 36, .inl (aI (A 17)))), (af 18, .inl (Y 0, 41, .inl (aI (A 18)))), (af 19, .inl (Y 0, 72, .inl (aI (A 19)))), (af 20, .inl (Y 1, 2, .inl (aI (A 20)))), (af 21, .inl (Y 0, 360, .inl (aI (A 21)))), (af 24, .inl (Y 0, 10, .inl (aI (A 24))))] := hD
  refine lv_aload_n hx hb dX7_poplarOf_12 rfl (lv_at hl 0 rfl) ?_
  refine lv_iload_n hx hb dX7_poplarOf_13 rfl (lv_at hl 1 rfl) ?_
  have hP := hP.sub (ws' := [(g9, .inr (7, [.int (iZ (F 0)), .ref (af 1), .int (iZ (F 2)), .int (iZ (F 3)), .int (iZ (F 4)), .int (iZ (F 5)), .int (iZ (F 6)), .int (iZ (F 7)), .int (iZ (F 8)), .int (iZ (F 9)), .int (iZ (F 10)), .ref (af 11), .ref (af 12), .int (iZ (F 13)), .int (iZ (F 14)), .int (iZ (F 15)), .ref (af 16), .ref (af 17), .ref (af 18), .ref (af 19), .ref (af 20), .ref (af 21), .int (iZ (F 22)), .int (iZ (F 23)), .ref (af 24), .long (tr + kl1), .int (iZ (F 26)), .int (iZ (F 27)), .int (iZ (F 28))])), (af 1, .inl (Y 0, 200, .inl (aI (A 1)))), (af 11, .inl (Y 0, 7, .inl (aI (A 11)))), (af 12, .inl (Y 0, 36, .inl (aI (A 12)))), (af 16, .inl (Y 0, 7, .inl (aI (A 16)))), (af 17, .inl (Y 0, 36, .inl (aI (A 17)))), (af 18, .inl (Y 0, 41, .inl (aI (A 18)))), (af 19, .inl (Y 0, 72, .inl (aI (A 19)))), (af 20, .inl (Y 1, 2, .inl (aI (A 20)))), (af 21, .inl (Y 0, 360, .inl (aI (A 21)))), (af 24, .inl (Y 0, 10, .inl (aI (A 24))))] ++ []) [0, 1, 2, 3, 4, 5, 6, 7, 8, 9, 10] rfl
  have hD := hD.sub (ws' := [(g9, .inr (7, [.int (iZ (F 0)), .ref (af 1), .int (iZ (F 2)), .int (iZ (F 3)), .int (iZ (F 4)), .int (iZ (F 5)), .int (iZ (F 6)), .int (iZ (F 7)), .int (iZ (F 8)), .int (iZ (F 9)), .int (iZ (F 10)), .ref (af 11), .ref (af 12), .int (iZ (F 13)), .int (iZ (F 14)), .int (iZ (F 15)), .ref (af 16), .ref (af 17), .ref (af 18), .ref (af 19), .ref (af 20), .ref (af 21), .int (iZ (F 22)), .int (iZ (F 23)), .ref (af 24), .long (tr + kl1), .int (iZ (F 26)), .int (iZ (F 27)), .int (iZ (F 28))])), (af 1, .inl (Y 0, 200, .inl (aI (A 1)))), (af 11, .inl (Y 0, 7, .inl (aI (A 11)))), (af 12, .inl (Y 0, 36, .inl (aI (A 12)))), (af 16, .inl (Y 0, 7, .inl (aI (A 16)))), (af 17, .inl (Y 0, 36, .inl (aI (A 17)))), (af 18, .inl (Y 0, 41, .inl (aI (A 18)))), (af 19, .inl (Y 0, 72, .inl (aI (A 19)))), (af 20, .inl (Y 1, 2, .inl (aI (A 20)))), (af 21, .inl (Y 0, 360, .inl (aI (A 21)))), (af 24, .inl (Y 0, 10, .inl (aI (A 24))))] ++ []) [0, 1, 2, 3, 4, 5, 6, 7, 8, 9, 10] (by decide) rfl
  refine mu_V (As := [.int (iZ a)]) (rest := []) (wc := [(g9, .inr (7, [.int (iZ (F 0)), .ref (af 1), .int (iZ (F 2)), .int (iZ (F 3)), .int (iZ (F 4)), .int (iZ (F 5)), .int (iZ (F 6)), .int (iZ (F 7)), .int (iZ (F 8)), .int (iZ (F 9)), .int (iZ (F 10)), .ref (af 11), .ref (af 12), .int (iZ (F 13)), .int (iZ (F 14)), .int (iZ (F 15)), .ref (af 16), .ref (af 17), .ref (af 18), .ref (af 19), .ref (af 20), .ref (af 21), .int (iZ (F 22)), .int (iZ (F 23)), .ref (af 24), .long (tr + kl1), .int (iZ (F 26)), .int (iZ (F 27)), .int (iZ (F 28))])), (af 1, .inl (Y 0, 200, .inl (aI (A 1)))), (af 11, .inl (Y 0, 7, .inl (aI (A 11)))), (af 12, .inl (Y 0, 36, .inl (aI (A 12)))), (af 16, .inl (Y 0, 7, .inl (aI (A 16)))), (af 17, .inl (Y 0, 36, .inl (aI (A 17)))), (af 18, .inl (Y 0, 41, .inl (aI (A 18)))), (af 19, .inl (Y 0, 72, .inl (aI (A 19)))), (af 20, .inl (Y 1, 2, .inl (aI (A 20)))), (af 21, .inl (Y 0, 360, .inl (aI (A 21)))), (af 24, .inl (Y 0, 10, .inl (aI (A 24))))]) (wc' := moW Y g9 af F A ((tr + kl1) + 1)) (F := []) ⟨hx, hb, hml, hown, hts⟩ (c_X7_heightOf l G Y g9 af F A (tr + kl1) hV hno a (by omega)) (cwV 1 hts gX7_poplarOf_X7_heightOf rfl rfl rfl (by decide +kernel) ⟨Nat.le_of_ble_eq_true rfl, Nat.le_of_ble_eq_true rfl⟩) hK hP hD hS 0 rfl rfl (Eq.refl [g9, af 1, af 11, af 12, af 16, af 17, af 18, af 19, af 20, af 21, af 24]) rfl hl.1 rfl (Nat.le_of_ble_eq_true rfl) dX7_poplarOf_14 ⟨Nat.zero_le _, Nat.zero_le _⟩ (fun H locs hP hD hS => ?_)
  show W _ _ _ _ _ _ _ _ _ _ _ _ _ _ _ (F0 _ _ _ [.int (iZ ((A 17) (9 + Int.toNat a)))])
  replace hP : va_P G vwCl [(g9, .inr (7, [.int (iZ (F 0)), .ref (af 1), .int (iZ (F 2)), .int (iZ (F 3)), .int (iZ (F 4)), .int (iZ (F 5)), .int (iZ (F 6)), .int (iZ (F 7)), .int (iZ (F 8)), .int (iZ (F 9)), .int (iZ (F 10)), .ref (af 11), .ref (af 12), .int (iZ (F 13)), .int (iZ (F 14)), .int (iZ (F 15)), .ref (af 16), .ref (af 17), .ref (af 18), .ref (af 19), .ref (af 20), .ref (af 21), .int (iZ (F 22)), .int (iZ (F 23)), .ref (af 24), .long ((tr + kl1) + 1), .int (iZ (F 26)), .int (iZ (F 27)), .int (iZ (F 28))])), (af 1, .inl (Y 0, 200, .inl (aI (A 1)))), (af 11, .inl (Y 0, 7, .inl (aI (A 11)))), (af 12, .inl (Y 0, 36, .inl (aI (A 12)))), (af 16, .inl (Y 0, 7, .inl (aI (A 16)))), (af 17, .inl (Y 0, 36, .inl (aI (A 17)))), (af 18, .inl (Y 0, 41, .inl (aI (A 18)))), (af 19, .inl (Y 0, 72, .inl (aI (A 19)))), (af 20, .inl (Y 1, 2, .inl (aI (A 20)))), (af 21, .inl (Y 0, 360, .inl (aI (A 21)))), (af 24, .inl (Y 0, 10, .inl (aI (A 24))))] H := hP
  replace hD : va_D _ [(g9, .inr (7, [.int (iZ (F 0)), .ref (af 1), .int (iZ (F 2)), .int (iZ (F 3)), .int (iZ (F 4)), .int (iZ (F 5)), .int (iZ (F 6)), .int (iZ (F 7)), .int (iZ (F 8)), .int (iZ (F 9)), .int (iZ (F 10)), .ref (af 11), .ref (af 12), .int (iZ (F 13)), .int (iZ (F 14)), .int (iZ (F 15)), .ref (af 16), .ref (af 17), .ref (af 18), .ref (af 19), .ref (af 20), .ref (af 21), .int (iZ (F 22)), .int (iZ (F 23)), .ref (af 24), .long ((tr + kl1) + 1), .int (iZ (F 26)), .int (iZ (F 27)), .int (iZ (F 28))])), (af 1, .inl (Y 0, 200, .inl (aI (A 1)))), (af 11, .inl (Y 0, 7, .inl (aI (A 11)))), (af 12, .inl (Y 0, 36, .inl (aI (A 12)))), (af 16, .inl (Y 0, 7, .inl (aI (A 16)))), (af 17, .inl (Y 0, 36, .inl (aI (A 17)))), (af 18, .inl (Y 0, 41, .inl (aI (A 18)))), (af 19, .inl (Y 0, 72, .inl (aI (A 19)))), (af 20, .inl (Y 1, 2, .inl (aI (A 20)))), (af 21, .inl (Y 0, 360, .inl (aI (A 21)))), (af 24, .inl (Y 0, 10, .inl (aI (A 24))))] := hD
  have hb_2 := hV.2.2.2.2.1 (Int.toNat a) (by omega)
  have hb_3 := wu_in hV.1 a
  refine lv_aload_n hx hb dX7_poplarOf_17 rfl (lv_at hl 0 rfl) ?_
  refine va_get (D := G) (ci := 7) (v := .ref (af 17)) (C := RX7) (T := TX7) (N := 29) hx hb hts hFX7 hown hK.1 hP 0 rfl rfl 17 (by decide) kf29 (fun _ h9 => h9) rfl dX7_poplarOf_18 ?_
  refine z_iconst hx hb dX7_poplarOf_21 ?_
  refine lv_iload_n hx hb dX7_poplarOf_22 rfl (lv_at hl 1 rfl) ?_
  refine z_iadd hx hb dX7_poplarOf_23 ?_
  refine z_iald hx hb hK.1 hP 5 0 rfl rfl (((4 + a)).toNat) (by omega) (by decide) dX7_poplarOf_24 ?_
  have eO4 : ((4 + a)).toNat = 4 + a.toNat := by omega
  have hbeO4 := hV.2.2.2.2.1 a.toNat (by omega)
  refine z_top (show (A 17) (((4 + a)).toNat) = (A 17) (4 + a.toNat) by rw [eO4]) ?_
  refine z_isub hx hb dX7_poplarOf_25 ?_
  refine z_top (show ((A 17) (9 + Int.toNat a) - (A 17) (4 + a.toNat)) = ((A 17) (9 + Int.toNat a) - (A 17) (4 + Int.toNat a)) from ?_) ?_
  · rfl
  replace ekl1 : kl1 = kC100 := ekl1
  subst ekl1
  have hP9 : va_P G vwCl (moW Y g9 af (F) (A) (tr + kC100 + 1)) H := by exact hP.sub [0, 1, 2, 3, 4, 5, 6, 7, 8, 9, 10] rfl
  exact W.iret (v := iZ ((A 17) (9 + Int.toNat a) - (A 17) (4 + Int.toNat a))) hx hb hr (fun t9 ht9 _ => ⟨rfl, by rw [ht9]; exact hP9, hS.F ht9⟩) hS.2.2 dX7_poplarOf_26

set_option maxHeartbeats 4000000 in
set_option maxRecDepth 100000 in
theorem c_X7_rate (l : Launch) (G : va_G) (Y : Nat → ClassId) (g9 : Nat) (af : Nat → Nat) (F : Nat → Int) (A : Kom) (tr : Int64) (hV : mV F A (A 17)) (hno : F 26 < 0) (a b : Int) (r : zR a ∧ zR b) : Met l yX7_rate wsX7_rate ({ frames := 5, cells := 0, slots := 0, locals := 118 }) (mP G Y [.ref g9, .int (iZ a), .int (iZ b)] (moW Y g9 af F A tr)) (mQ G (moW Y g9 af F A tr) (some (.int (iZ (rRate (kF F A (A 17)) a b)))) (moW Y g9 af (F) (A) (tRate tr (kF F A (A 17)) a b))) 0 0 (fun q => q ∈ List.map Prod.fst (moW Y g9 af F A tr)) := by
  refine Met.ofW (cc := cX7_rate) (maxL := 5) (ret := (some .int)) (by decide) rfl ?_
  intro p e s m args below meth c s₁ B hml hv
  obtain ⟨rfl, hK, hP, hD0⟩ := hv
  have hx := B.exec
  have hb := B.bytes
  have hr := B.returns
  have hts := atoms_spec (ws := wsX7_rate) B.pre
  have hown : s.vm.findClass RX7 = some m.cls := findClass_of_methodNamed B.named
  have hlocks := B.notSynchronized
  have hFX7 : ∀ w ∈ wsX70, w ∈ wsX7_rate := by decide +kernel
  have kf193 := (hts (.fieldLink RX7 193 "ShadeVotesModel" "trace" "J") (by decide +kernel))
  have kf19 := (hts (.fieldLink RX7 19 "ShadeVotesModel" "wide" "I") (by decide +kernel))
  have kf23 := (hts (.fieldLink RX7 23 "ShadeVotesModel" "high" "I") (by decide +kernel))
  have kf29 := (hts (.fieldLink RX7 29 "ShadeVotesModel" "now" "[I") (by decide +kernel))
  have hD := va_D_self hD0
  have hS : va_S (fun q => q ∈ List.map Prod.fst (moW Y g9 af F A tr)) s.heap s.heap [] := va_S.rf
  obtain ⟨H, hHe⟩ : ∃ H, H = s.heap := ⟨_, rfl⟩
  rw [← hHe] at hP
  replace hS : va_S (fun q => q ∈ List.map Prod.fst (moW Y g9 af F A tr)) s.heap H [] := by rw [hHe]; exact hS
  have hl := lv_entry ([.ref g9, .int (iZ a), .int (iZ b)]) (n := 5) (Nat.le_of_ble_eq_true rfl)
  rw [lg_entry_eq]
  generalize (lg_sl ([.ref g9, .int (iZ a), .int (iZ b)]) ++ List.replicate (5 - (lg_sl ([.ref g9, .int (iZ a), .int (iZ b)])).length) Slot.unset).toArray = ls at hl ⊢
  replace hl : lv_has ls 5 [(0, .ref g9), (1, .int (iZ a)), (2, .int (iZ b))] := hl
  obtain ⟨locs, hLe⟩ : ∃ locs : List Loc, locs = [] := ⟨_, rfl⟩
  rw [← hLe] at hS ⊢
  have hW0 : ∀ {Q : State → Prop} {g : JFrame}, W p l e ({ frames := 5, cells := 0, slots := 0, locals := 118 }) s m [.ref g9, .int (iZ a), .int (iZ b)].toArray below meth c H locs 0 0 Q g → W p l e ({ frames := 5, cells := 0, slots := 0, locals := 118 }) s m [.ref g9, .int (iZ a), .int (iZ b)].toArray below meth c s.heap locs 0 0 Q g := fun h => by rw [← hHe]; exact h
  refine hW0 ?_
  clear hW0 hHe hLe
  have v3 := hV.2.2.1
  have v7 := hV.2.2.2.2.2.2.1
  have v8 := hV.2.2.2.2.2.2.2.1
  have v5 := hV.2.1
  have v4 := hV.2.2.2.1
  have k00 : kF F A (A 17) 0 0 = F 13 := rfl
  have k01 : kF F A (A 17) 0 1 = F 14 := rfl
  have k02 : kF F A (A 17) 0 2 = A 17 3 := rfl
  have k03 : kF F A (A 17) 0 3 = F 15 := rfl
  have k04 : kF F A (A 17) 0 4 = A 17 1 := rfl
  have k05 : kF F A (A 17) 0 5 = A 17 0 := rfl
  have k06 : kF F A (A 17) 0 6 = A 17 2 := rfl
  have kpr : kF F A (A 17) 0 0 * kF F A (A 17) 0 1 = F 13 * F 14 := rfl
  have hW := hV.1
  refine lv_iload_n hx hb dX7_rate_0 rfl (lv_at hl 1 rfl) ?_
  refine z_iconst hx hb dX7_rate_1 ?_
  refine z_iconst hx hb dX7_rate_2 ?_
  refine ro_S (As := [.int (iZ a), .int (iZ 0), .int (iZ 5)]) (rest := []) ⟨hx, hb, hml, hown, hts⟩ (c_X7_in l G Y a 0 5 (by omega)) (cwS 3 hts gX7_rate_X7_in rfl rfl rfl (by decide +kernel) ⟨Nat.le_of_ble_eq_true rfl, Nat.le_of_ble_eq_true rfl⟩) hK (hP.sub (ws' := []) [] rfl) rfl hl.1 rfl (Nat.le_of_ble_eq_true rfl) dX7_rate_3 ⟨Nat.zero_le _, Nat.zero_le _⟩ ?_
  refine z_ifb_eq (tgt := 17) hx hb dX7_rate_6 (by decide) (fun c_1 => ?_) (fun c_1 => ?_)
  · skip
    have c_1 := of_decide_eq_false c_1
    refine lv_ldc (v := iZ (-1000000)) hx hb hown (hts (.constant RX7 204 (-1000000)) (by decide +kernel)) dX7_rate_17 ?_
    refine z_top (show (-1000000) = rRate (kF F A (A 17)) a b from ?_) ?_
    · unfold rRate; by_cases hq : 0 ≤ b ∧ b ≤ kF F A (A 17) 0 2 - 1; (rw [if_pos hq]; unfold raR; rw [if_neg (by omega), if_neg (by omega), if_neg (by omega), if_neg (by omega), if_neg (by omega), if_neg (by omega)]); (rw [if_neg hq])
    have ef : tRate tr (kF F A (A 17)) a b = tr := by unfold tRate; by_cases hq : 0 ≤ b ∧ b ≤ kF F A (A 17) 0 2 - 1; (rw [decide_eq_true hq]; exact raT_6 (by omega)); (rw [decide_eq_false hq]; rfl)
    have hP9 : va_P G vwCl (moW Y g9 af (F) (A) (tRate tr (kF F A (A 17)) a b)) H := by rw [ef]; exact hP.sub [0, 1, 2, 3, 4, 5, 6, 7, 8, 9, 10] rfl
    exact W.iret (v := iZ (rRate (kF F A (A 17)) a b)) hx hb hr (fun t9 ht9 _ => ⟨rfl, by rw [ht9]; exact hP9, hS.F ht9⟩) hS.2.2 dX7_rate_19
  · skip
    have c_1 := of_decide_eq_true c_1
    refine lv_aload_n hx hb dX7_rate_9 rfl (lv_at hl 0 rfl) ?_
    refine lv_iload_n hx hb dX7_rate_10 rfl (lv_at hl 2 rfl) ?_
    refine ro_V (As := [.int (iZ b)]) (rest := []) ⟨hx, hb, hml, hown, hts⟩ (c_X7_isTree l G Y g9 af F A tr b (by omega)) (cwV 1 hts gX7_rate_X7_isTree rfl rfl rfl (by decide +kernel) ⟨Nat.le_of_ble_eq_true rfl, Nat.le_of_ble_eq_true rfl⟩) hK (hP.sub (ws' := moW Y g9 af F A tr) [0, 1, 2, 3, 4, 5, 6, 7, 8, 9, 10] rfl) 0 rfl rfl rfl hl.1 rfl (Nat.le_of_ble_eq_true rfl) dX7_rate_11 ⟨Nat.zero_le _, Nat.zero_le _⟩ ?_
    refine z_ifb_ne (tgt := 20) hx hb dX7_rate_14 (by decide) (fun c_2 => ?_) (fun c_2 => ?_)
    · skip
      have c_2 := of_decide_eq_true c_2
      refine lv_iload_n hx hb dX7_rate_20 rfl (lv_at hl 1 rfl) ?_
      have c_3_r : (iZ a).toInt = a := iZ_toInt (by omega)
      rcases (show (a < 0 ∨ 4 < a) ∨ a = 0 ∨ a = 1 ∨ a = 2 ∨ a = 3 ∨ a = 4 by omega) with c_3 | c_3 | c_3 | c_3 | c_3 | c_3
      · skip
        refine lv_tableOut (tgt := 114) hx hb dX7_rate_21 (by rw [c_3_r]; exact c_3) (by decide) ?_
        obtain ⟨t9, ht9⟩ : ∃ t9 : Nat, b = ((t9 : Nat) : Int) := ⟨b.toNat, by omega⟩
        have ht9t : b.toNat = t9 := by omega
        rw [ht9] at hl
        refine lv_aload_n hx hb dX7_rate_114 rfl (lv_at hl 0 rfl) ?_
        refine lv_dup hx hb dX7_rate_115 rfl ?_
        refine va_get (D := G) (ci := 7) (v := .long tr) (C := RX7) (T := TX7) (N := 29) hx hb hts hFX7 hown hK.1 hP 0 rfl rfl 25 (by decide) kf193 (fun _ h9 => h9) rfl dX7_rate_116 ?_
        refine lv_ldc2 (v := 100000) hx hb hown (hts (.constantLong RX7 215 (100000)) (by decide +kernel)) dX7_rate_119 ?_
        refine lv_topl (fun kl4 ekl4 => ?_)
        refine lv_ladd hx hb dX7_rate_122 ?_
        refine va_put (D := G) (ci := 7) (v := .long (tr + kl4)) (ty := .long) (C := RX7) (T := TX7) (N := 29) hx hb hts hFX7 tyX7 tyX7_ok nmX7 hown hK.1 hP hD hS 0 rfl rfl 25 (by decide) kf193 (fun _ h9 => h9) rfl (by decide +kernel) rfl rfl (Nat.le_of_ble_eq_true rfl) dX7_rate_123 (fun H locs hP hD hS => ?_)
        replace hP : va_P G vwCl [(g9, .inr (7, [.int (iZ (F 0)), .ref (af 1), .int (iZ (F 2)), .int (iZ (F 3)), .int (iZ (F 4)), .int (iZ (F 5)), .int (iZ (F 6)), .int (iZ (F 7)), .int (iZ (F 8)), .int (iZ (F 9)), .int (iZ (F 10)), .ref (af 11), .ref (af 12), .int (iZ (F 13)), .int (iZ (F 14)), .int (iZ (F 15)), .ref (af 16), .ref (af 17), .ref (af 18), .ref (af 19), .ref (af 20), .ref (af 21), .int (iZ (F 22)), .int (iZ (F 23)), .ref (af 24), .long (tr + kl4), .int (iZ (F 26)), .int (iZ (F 27)), .int (iZ (F 28))])), (af 1, .inl (Y 0, 200, .inl (aI (A 1)))), (af 11, .inl (Y 0, 7, .inl (aI (A 11)))), (af 12, .inl (Y 0, 36, .inl (aI (A 12)))), (af 16, .inl (Y 0, 7, .inl (aI (A 16)))), (af 17, .inl (Y 0, 36, .inl (aI (A 17)))), (af 18, .inl (Y 0, 41, .inl (aI (A 18)))), (af 19, .inl (Y 0, 72, .inl (aI (A 19)))), (af 20, .inl (Y 1, 2, .inl (aI (A 20)))), (af 21, .inl (Y 0, 360, .inl (aI (A 21)))), (af 24, .inl (Y 0, 10, .inl (aI (A 24))))] H := hP
        replace hD : va_D _ [(g9, .inr (7, [.int (iZ (F 0)), .ref (af 1), .int (iZ (F 2)), .int (iZ (F 3)), .int (iZ (F 4)), .int (iZ (F 5)), .int (iZ (F 6)), .int (iZ (F 7)), .int (iZ (F 8)), .int (iZ (F 9)), .int (iZ (F 10)), .ref (af 11), .ref (af 12), .int (iZ (F 13)), .int (iZ (F 14)), .int (iZ (F 15)), .ref (af 16), .ref (af 17), .ref (af 18), .ref (af 19), .ref (af 20), .ref (af 21), .int (iZ (F 22)), .int (iZ (F 23)), .ref (af 24), .long (tr + kl4), .int (iZ (F 26)), .int (iZ (F 27)), .int (iZ (F 28))])), (af 1, .inl (Y 0, 200, .inl (aI (A 1)))), (af 11, .inl (Y 0, 7, .inl (aI (A 11)))), (af 12, .inl (Y 0, 36, .inl (aI (A 12)))), (af 16, .inl (Y 0, 7, .inl (aI (A 16)))), (af 17, .inl (Y 0, 36, .inl (aI (A 17)))), (af 18, .inl (Y 0, 41, .inl (aI (A 18)))), (af 19, .inl (Y 0, 72, .inl (aI (A 19)))), (af 20, .inl (Y 1, 2, .inl (aI (A 20)))), (af 21, .inl (Y 0, 360, .inl (aI (A 21)))), (af 24, .inl (Y 0, 10, .inl (aI (A 24))))] := hD
        refine z_iconst hx hb dX7_rate_126 ?_
        refine lv_istore_n (lv' := [(3, .int (iZ 0)), (0, .ref g9), (1, .int (iZ a)), (2, .int (iZ ((t9 : Nat) : Int)))]) hx hb dX7_rate_127 rfl hl (by decide) rfl (fun ls hl => ?_)
        refine z_iconst hx hb dX7_rate_128 ?_
        refine lv_istore (lv' := [(4, .int (iZ 0)), (3, .int (iZ 0)), (0, .ref g9), (1, .int (iZ a)), (2, .int (iZ ((t9 : Nat) : Int)))]) hx hb dX7_rate_129 hl (by decide) rfl (fun ls hl => ?_)
        obtain ⟨i, q, hI, hl1⟩ : ∃ (i : Nat) (q : Nat), (q = pcN (shB (kF F A (A 17)) t9 (F 13 * F 14).toNat) i ∧ (i : Int) ≤ F 13 * F 14) ∧ lv_has ls 5 [(4, .int (iZ ((i : Nat) : Int))), (3, .int (iZ ((q : Nat) : Int))), (0, .ref g9), (1, .int (iZ a)), (2, .int (iZ ((t9 : Nat) : Int)))] := ⟨0, 0, by exact ⟨rfl, by omega⟩, lv_sub hl [0, 1, 2, 3, 4] rfl⟩
        clear hl
        have hl := hl1
        clear hl1
        obtain ⟨n_, hn_⟩ : ∃ n_ : Nat, (F 13 * F 14).toNat - i < n_ := ⟨_, Nat.lt_succ_self _⟩
        induction n_ generalizing i q ls with
        | zero => exact absurd hn_ (Nat.not_lt_zero _)
        | succ n_ ih5 =>
          have hq9 := pcN_le (shB (kF F A (A 17)) t9 (F 13 * F 14).toNat) i
          refine lv_iload hx hb dX7_rate_131 (lv_at hl 0 rfl) ?_
          refine lv_aload_n hx hb dX7_rate_133 rfl (lv_at hl 2 rfl) ?_
          refine va_get (D := G) (ci := 7) (v := .int (iZ (F 13))) (C := RX7) (T := TX7) (N := 29) hx hb hts hFX7 hown hK.1 hP 0 rfl rfl 13 (by decide) kf19 (fun _ h9 => h9) rfl dX7_rate_134 ?_
          refine lv_aload_n hx hb dX7_rate_137 rfl (lv_at hl 2 rfl) ?_
          refine va_get (D := G) (ci := 7) (v := .int (iZ (F 14))) (C := RX7) (T := TX7) (N := 29) hx hb hts hFX7 hown hK.1 hP 0 rfl rfl 14 (by decide) kf23 (fun _ h9 => h9) rfl dX7_rate_138 ?_
          refine z_imul hx hb dX7_rate_141 ?_
          refine z_icmp_ge (tgt := 168) hx hb dX7_rate_142 (by decide) (by omega) (fun c_6 => ?_) (fun c_6 => ?_)
          · skip
            refine lv_aload_n hx hb dX7_rate_168 rfl (lv_at hl 2 rfl) ?_
            refine lv_iload_n hx hb dX7_rate_169 rfl (lv_at hl 4 rfl) ?_
            have hP := hP.sub (ws' := [(g9, .inr (7, [.int (iZ (F 0)), .ref (af 1), .int (iZ (F 2)), .int (iZ (F 3)), .int (iZ (F 4)), .int (iZ (F 5)), .int (iZ (F 6)), .int (iZ (F 7)), .int (iZ (F 8)), .int (iZ (F 9)), .int (iZ (F 10)), .ref (af 11), .ref (af 12), .int (iZ (F 13)), .int (iZ (F 14)), .int (iZ (F 15)), .ref (af 16), .ref (af 17), .ref (af 18), .ref (af 19), .ref (af 20), .ref (af 21), .int (iZ (F 22)), .int (iZ (F 23)), .ref (af 24), .long (tr + kl4), .int (iZ (F 26)), .int (iZ (F 27)), .int (iZ (F 28))])), (af 1, .inl (Y 0, 200, .inl (aI (A 1)))), (af 11, .inl (Y 0, 7, .inl (aI (A 11)))), (af 12, .inl (Y 0, 36, .inl (aI (A 12)))), (af 16, .inl (Y 0, 7, .inl (aI (A 16)))), (af 17, .inl (Y 0, 36, .inl (aI (A 17)))), (af 18, .inl (Y 0, 41, .inl (aI (A 18)))), (af 19, .inl (Y 0, 72, .inl (aI (A 19)))), (af 20, .inl (Y 1, 2, .inl (aI (A 20)))), (af 21, .inl (Y 0, 360, .inl (aI (A 21)))), (af 24, .inl (Y 0, 10, .inl (aI (A 24))))] ++ []) [0, 1, 2, 3, 4, 5, 6, 7, 8, 9, 10] rfl
            have hD := hD.sub (ws' := [(g9, .inr (7, [.int (iZ (F 0)), .ref (af 1), .int (iZ (F 2)), .int (iZ (F 3)), .int (iZ (F 4)), .int (iZ (F 5)), .int (iZ (F 6)), .int (iZ (F 7)), .int (iZ (F 8)), .int (iZ (F 9)), .int (iZ (F 10)), .ref (af 11), .ref (af 12), .int (iZ (F 13)), .int (iZ (F 14)), .int (iZ (F 15)), .ref (af 16), .ref (af 17), .ref (af 18), .ref (af 19), .ref (af 20), .ref (af 21), .int (iZ (F 22)), .int (iZ (F 23)), .ref (af 24), .long (tr + kl4), .int (iZ (F 26)), .int (iZ (F 27)), .int (iZ (F 28))])), (af 1, .inl (Y 0, 200, .inl (aI (A 1)))), (af 11, .inl (Y 0, 7, .inl (aI (A 11)))), (af 12, .inl (Y 0, 36, .inl (aI (A 12)))), (af 16, .inl (Y 0, 7, .inl (aI (A 16)))), (af 17, .inl (Y 0, 36, .inl (aI (A 17)))), (af 18, .inl (Y 0, 41, .inl (aI (A 18)))), (af 19, .inl (Y 0, 72, .inl (aI (A 19)))), (af 20, .inl (Y 1, 2, .inl (aI (A 20)))), (af 21, .inl (Y 0, 360, .inl (aI (A 21)))), (af 24, .inl (Y 0, 10, .inl (aI (A 24))))] ++ []) [0, 1, 2, 3, 4, 5, 6, 7, 8, 9, 10] (by decide) rfl
            refine mu_V (As := [.int (iZ ((t9 : Nat) : Int))]) (rest := []) (wc := [(g9, .inr (7, [.int (iZ (F 0)), .ref (af 1), .int (iZ (F 2)), .int (iZ (F 3)), .int (iZ (F 4)), .int (iZ (F 5)), .int (iZ (F 6)), .int (iZ (F 7)), .int (iZ (F 8)), .int (iZ (F 9)), .int (iZ (F 10)), .ref (af 11), .ref (af 12), .int (iZ (F 13)), .int (iZ (F 14)), .int (iZ (F 15)), .ref (af 16), .ref (af 17), .ref (af 18), .ref (af 19), .ref (af 20), .ref (af 21), .int (iZ (F 22)), .int (iZ (F 23)), .ref (af 24), .long (tr + kl4), .int (iZ (F 26)), .int (iZ (F 27)), .int (iZ (F 28))])), (af 1, .inl (Y 0, 200, .inl (aI (A 1)))), (af 11, .inl (Y 0, 7, .inl (aI (A 11)))), (af 12, .inl (Y 0, 36, .inl (aI (A 12)))), (af 16, .inl (Y 0, 7, .inl (aI (A 16)))), (af 17, .inl (Y 0, 36, .inl (aI (A 17)))), (af 18, .inl (Y 0, 41, .inl (aI (A 18)))), (af 19, .inl (Y 0, 72, .inl (aI (A 19)))), (af 20, .inl (Y 1, 2, .inl (aI (A 20)))), (af 21, .inl (Y 0, 360, .inl (aI (A 21)))), (af 24, .inl (Y 0, 10, .inl (aI (A 24))))]) (wc' := moW Y g9 af F A ((tr + kl4) + 1)) (F := []) ⟨hx, hb, hml, hown, hts⟩ (c_X7_heightOf l G Y g9 af F A (tr + kl4) hV hno ((t9 : Nat) : Int) (by omega)) (cwV 1 hts gX7_rate_X7_heightOf rfl rfl rfl (by decide +kernel) ⟨Nat.le_of_ble_eq_true rfl, Nat.le_of_ble_eq_true rfl⟩) hK hP hD hS 0 rfl rfl (Eq.refl [g9, af 1, af 11, af 12, af 16, af 17, af 18, af 19, af 20, af 21, af 24]) rfl hl.1 rfl (Nat.le_of_ble_eq_true rfl) dX7_rate_170 ⟨Nat.zero_le _, Nat.zero_le _⟩ (fun H locs hP hD hS => ?_)
            show W _ _ _ _ _ _ _ _ _ _ _ _ _ _ _ (F0 _ _ _ [.int (iZ ((A 17) (9 + Int.toNat ((t9 : Nat) : Int))))])
            replace hP : va_P G vwCl [(g9, .inr (7, [.int (iZ (F 0)), .ref (af 1), .int (iZ (F 2)), .int (iZ (F 3)), .int (iZ (F 4)), .int (iZ (F 5)), .int (iZ (F 6)), .int (iZ (F 7)), .int (iZ (F 8)), .int (iZ (F 9)), .int (iZ (F 10)), .ref (af 11), .ref (af 12), .int (iZ (F 13)), .int (iZ (F 14)), .int (iZ (F 15)), .ref (af 16), .ref (af 17), .ref (af 18), .ref (af 19), .ref (af 20), .ref (af 21), .int (iZ (F 22)), .int (iZ (F 23)), .ref (af 24), .long ((tr + kl4) + 1), .int (iZ (F 26)), .int (iZ (F 27)), .int (iZ (F 28))])), (af 1, .inl (Y 0, 200, .inl (aI (A 1)))), (af 11, .inl (Y 0, 7, .inl (aI (A 11)))), (af 12, .inl (Y 0, 36, .inl (aI (A 12)))), (af 16, .inl (Y 0, 7, .inl (aI (A 16)))), (af 17, .inl (Y 0, 36, .inl (aI (A 17)))), (af 18, .inl (Y 0, 41, .inl (aI (A 18)))), (af 19, .inl (Y 0, 72, .inl (aI (A 19)))), (af 20, .inl (Y 1, 2, .inl (aI (A 20)))), (af 21, .inl (Y 0, 360, .inl (aI (A 21)))), (af 24, .inl (Y 0, 10, .inl (aI (A 24))))] H := hP
            replace hD : va_D _ [(g9, .inr (7, [.int (iZ (F 0)), .ref (af 1), .int (iZ (F 2)), .int (iZ (F 3)), .int (iZ (F 4)), .int (iZ (F 5)), .int (iZ (F 6)), .int (iZ (F 7)), .int (iZ (F 8)), .int (iZ (F 9)), .int (iZ (F 10)), .ref (af 11), .ref (af 12), .int (iZ (F 13)), .int (iZ (F 14)), .int (iZ (F 15)), .ref (af 16), .ref (af 17), .ref (af 18), .ref (af 19), .ref (af 20), .ref (af 21), .int (iZ (F 22)), .int (iZ (F 23)), .ref (af 24), .long ((tr + kl4) + 1), .int (iZ (F 26)), .int (iZ (F 27)), .int (iZ (F 28))])), (af 1, .inl (Y 0, 200, .inl (aI (A 1)))), (af 11, .inl (Y 0, 7, .inl (aI (A 11)))), (af 12, .inl (Y 0, 36, .inl (aI (A 12)))), (af 16, .inl (Y 0, 7, .inl (aI (A 16)))), (af 17, .inl (Y 0, 36, .inl (aI (A 17)))), (af 18, .inl (Y 0, 41, .inl (aI (A 18)))), (af 19, .inl (Y 0, 72, .inl (aI (A 19)))), (af 20, .inl (Y 1, 2, .inl (aI (A 20)))), (af 21, .inl (Y 0, 360, .inl (aI (A 21)))), (af 24, .inl (Y 0, 10, .inl (aI (A 24))))] := hD
            have hb_7 := hV.2.2.2.2.1 (Int.toNat ((t9 : Nat) : Int)) (by omega)
            have hb_8 := wu_in hV.1 ((t9 : Nat) : Int)
            refine lv_iload_n hx hb dX7_rate_173 rfl (lv_at hl 1 rfl) ?_
            refine z_iadd hx hb dX7_rate_174 ?_
            refine z_top (show ((A 17) (9 + Int.toNat ((t9 : Nat) : Int)) + ((q : Nat) : Int)) = rRate (kF F A (A 17)) a b from ?_) ?_
            · unfold rRate; rw [if_pos (by omega), show a = 5 by omega]; unfold raR; rw [if_neg (by decide), if_neg (by decide), if_neg (by decide), if_neg (by decide), if_neg (by decide), if_pos rfl, ht9t, kpr, kF_2 (t := t9) (by omega), hI.1, show i = (F 13 * F 14).toNat by omega]; rfl
            replace ekl4 : kl4 = kC100000 := ekl4
            subst ekl4
            have ef : tRate tr (kF F A (A 17)) a b = raT tr a := by unfold tRate; rw [decide_eq_true (show 0 ≤ b ∧ b ≤ kF F A (A 17) 0 2 - 1 by omega)]; rfl
            have hP9 : va_P G vwCl (moW Y g9 af (F) (A) (tRate tr (kF F A (A 17)) a b)) H := by rw [ef, raT_5 (show a = 5 by omega)]; exact hP.sub [0, 1, 2, 3, 4, 5, 6, 7, 8, 9, 10] rfl
            exact W.iret (v := iZ (rRate (kF F A (A 17)) a b)) hx hb hr (fun t9 ht9 _ => ⟨rfl, by rw [ht9]; exact hP9, hS.F ht9⟩) hS.2.2 dX7_rate_175
          · skip
            refine lv_iload_n hx hb dX7_rate_145 rfl (lv_at hl 1 rfl) ?_
            refine lv_aload_n hx hb dX7_rate_146 rfl (lv_at hl 2 rfl) ?_
            refine lv_aload_n hx hb dX7_rate_147 rfl (lv_at hl 2 rfl) ?_
            refine va_get (D := G) (ci := 7) (v := .ref (af 17)) (C := RX7) (T := TX7) (N := 29) hx hb hts hFX7 hown hK.1 hP 0 rfl rfl 17 (by decide) kf29 (fun _ h9 => h9) rfl dX7_rate_148 ?_
            refine lv_iload_n hx hb dX7_rate_151 rfl (lv_at hl 4 rfl) ?_
            refine ro_V (As := [.ref (af 17), .int (iZ ((t9 : Nat) : Int))]) (rest := [.int (iZ ((q : Nat) : Int))]) ⟨hx, hb, hml, hown, hts⟩ (c_X7_shadeOf l G Y g9 af F A (tr + kl4) (af 17) 5 36 (A 17) rfl (by decide) hV t9 (by omega)) (cwV 2 hts gX7_rate_X7_shadeOf rfl rfl rfl (by decide +kernel) ⟨Nat.le_of_ble_eq_true rfl, Nat.le_of_ble_eq_true rfl⟩) hK (hP.sub (ws' := moW Y g9 af F A (tr + kl4)) [0, 1, 2, 3, 4, 5, 6, 7, 8, 9, 10] rfl) 0 rfl rfl rfl hl.1 rfl (Nat.le_of_ble_eq_true rfl) dX7_rate_152 ⟨Nat.zero_le _, Nat.zero_le _⟩ ?_
            have hb_9 := shB_20 (K := kF F A (A 17)) t9 (n := (F 13 * F 14).toNat) (by omega)
            refine lv_iload hx hb dX7_rate_155 (lv_at hl 0 rfl) ?_
            refine z_ishr (n := (shB (kF F A (A 17)) t9 (F 13 * F 14).toNat)) (k := i) hx hb dX7_rate_157 (by omega) ?_
            refine z_iconst hx hb dX7_rate_158 ?_
            refine z_iand1 (a := ((shB (kF F A (A 17)) t9 (F 13 * F 14).toNat) / 2 ^ i)) hx hb dX7_rate_159 (by omega) ?_
            refine z_iadd hx hb dX7_rate_160 ?_
            refine z_top (show (((q : Nat) : Int) + ((((shB (kF F A (A 17)) t9 (F 13 * F 14).toNat) / 2 ^ i) % 2 : Nat) : Int)) = ((q + shB (kF F A (A 17)) t9 (F 13 * F 14).toNat / 2 ^ i % 2 : Nat) : Int) from rfl) ?_
            refine lv_istore_n (lv' := [(3, .int (iZ ((q + shB (kF F A (A 17)) t9 (F 13 * F 14).toNat / 2 ^ i % 2 : Nat) : Int))), (4, .int (iZ ((i : Nat) : Int))), (0, .ref g9), (1, .int (iZ a)), (2, .int (iZ ((t9 : Nat) : Int)))]) hx hb dX7_rate_161 rfl hl (by decide) rfl (fun ls hl => ?_)
            refine lv_iinc (v := iZ ((i + 1 : Nat) : Int)) (lv' := [(4, .int (iZ ((i + 1 : Nat) : Int))), (3, .int (iZ ((q + shB (kF F A (A 17)) t9 (F 13 * F 14).toNat / 2 ^ i % 2 : Nat) : Int))), (0, .ref g9), (1, .int (iZ a)), (2, .int (iZ ((t9 : Nat) : Int)))]) hx hb dX7_rate_162 hl (k := 1) rfl (iZ_inc _) (by decide) rfl (fun ls hl => ?_)
            refine lv_goto (tgt := 131) hx hb dX7_rate_165 (by decide) ?_
            exact ih5 (ls := ls) (i := i + 1) (q := q + shB (kF F A (A 17)) t9 (F 13 * F 14).toNat / 2 ^ i % 2) (hI := by exact ⟨by rw [pcN, hI.1], by omega⟩) (hl := lv_sub hl [0, 1, 2, 3, 4] rfl) (hn_ := by omega)
      · skip
        replace c_3_r := c_3_r.trans c_3
        refine lv_tableIn (tgt := 56) (off := 35) hx hb dX7_rate_21 (by rw [c_3_r]; decide) (by rw [c_3_r]; decide) (by rw [c_3_r]; rfl) (by decide) ?_
        refine lv_aload_n hx hb dX7_rate_56 rfl (lv_at hl 0 rfl) ?_
        refine lv_iload_n hx hb dX7_rate_57 rfl (lv_at hl 2 rfl) ?_
        have hP := hP.sub (ws' := [(g9, .inr (7, [.int (iZ (F 0)), .ref (af 1), .int (iZ (F 2)), .int (iZ (F 3)), .int (iZ (F 4)), .int (iZ (F 5)), .int (iZ (F 6)), .int (iZ (F 7)), .int (iZ (F 8)), .int (iZ (F 9)), .int (iZ (F 10)), .ref (af 11), .ref (af 12), .int (iZ (F 13)), .int (iZ (F 14)), .int (iZ (F 15)), .ref (af 16), .ref (af 17), .ref (af 18), .ref (af 19), .ref (af 20), .ref (af 21), .int (iZ (F 22)), .int (iZ (F 23)), .ref (af 24), .long tr, .int (iZ (F 26)), .int (iZ (F 27)), .int (iZ (F 28))])), (af 1, .inl (Y 0, 200, .inl (aI (A 1)))), (af 11, .inl (Y 0, 7, .inl (aI (A 11)))), (af 12, .inl (Y 0, 36, .inl (aI (A 12)))), (af 16, .inl (Y 0, 7, .inl (aI (A 16)))), (af 17, .inl (Y 0, 36, .inl (aI (A 17)))), (af 18, .inl (Y 0, 41, .inl (aI (A 18)))), (af 19, .inl (Y 0, 72, .inl (aI (A 19)))), (af 20, .inl (Y 1, 2, .inl (aI (A 20)))), (af 21, .inl (Y 0, 360, .inl (aI (A 21)))), (af 24, .inl (Y 0, 10, .inl (aI (A 24))))] ++ []) [0, 1, 2, 3, 4, 5, 6, 7, 8, 9, 10] rfl
        have hD := hD.sub (ws' := [(g9, .inr (7, [.int (iZ (F 0)), .ref (af 1), .int (iZ (F 2)), .int (iZ (F 3)), .int (iZ (F 4)), .int (iZ (F 5)), .int (iZ (F 6)), .int (iZ (F 7)), .int (iZ (F 8)), .int (iZ (F 9)), .int (iZ (F 10)), .ref (af 11), .ref (af 12), .int (iZ (F 13)), .int (iZ (F 14)), .int (iZ (F 15)), .ref (af 16), .ref (af 17), .ref (af 18), .ref (af 19), .ref (af 20), .ref (af 21), .int (iZ (F 22)), .int (iZ (F 23)), .ref (af 24), .long tr, .int (iZ (F 26)), .int (iZ (F 27)), .int (iZ (F 28))])), (af 1, .inl (Y 0, 200, .inl (aI (A 1)))), (af 11, .inl (Y 0, 7, .inl (aI (A 11)))), (af 12, .inl (Y 0, 36, .inl (aI (A 12)))), (af 16, .inl (Y 0, 7, .inl (aI (A 16)))), (af 17, .inl (Y 0, 36, .inl (aI (A 17)))), (af 18, .inl (Y 0, 41, .inl (aI (A 18)))), (af 19, .inl (Y 0, 72, .inl (aI (A 19)))), (af 20, .inl (Y 1, 2, .inl (aI (A 20)))), (af 21, .inl (Y 0, 360, .inl (aI (A 21)))), (af 24, .inl (Y 0, 10, .inl (aI (A 24))))] ++ []) [0, 1, 2, 3, 4, 5, 6, 7, 8, 9, 10] (by decide) rfl
        refine mu_V (As := [.int (iZ b)]) (rest := []) (wc := [(g9, .inr (7, [.int (iZ (F 0)), .ref (af 1), .int (iZ (F 2)), .int (iZ (F 3)), .int (iZ (F 4)), .int (iZ (F 5)), .int (iZ (F 6)), .int (iZ (F 7)), .int (iZ (F 8)), .int (iZ (F 9)), .int (iZ (F 10)), .ref (af 11), .ref (af 12), .int (iZ (F 13)), .int (iZ (F 14)), .int (iZ (F 15)), .ref (af 16), .ref (af 17), .ref (af 18), .ref (af 19), .ref (af 20), .ref (af 21), .int (iZ (F 22)), .int (iZ (F 23)), .ref (af 24), .long tr, .int (iZ (F 26)), .int (iZ (F 27)), .int (iZ (F 28))])), (af 1, .inl (Y 0, 200, .inl (aI (A 1)))), (af 11, .inl (Y 0, 7, .inl (aI (A 11)))), (af 12, .inl (Y 0, 36, .inl (aI (A 12)))), (af 16, .inl (Y 0, 7, .inl (aI (A 16)))), (af 17, .inl (Y 0, 36, .inl (aI (A 17)))), (af 18, .inl (Y 0, 41, .inl (aI (A 18)))), (af 19, .inl (Y 0, 72, .inl (aI (A 19)))), (af 20, .inl (Y 1, 2, .inl (aI (A 20)))), (af 21, .inl (Y 0, 360, .inl (aI (A 21)))), (af 24, .inl (Y 0, 10, .inl (aI (A 24))))]) (wc' := moW Y g9 af F A (tr + 1)) (F := []) ⟨hx, hb, hml, hown, hts⟩ (c_X7_heightOf l G Y g9 af F A tr hV hno b (by omega)) (cwV 1 hts gX7_rate_X7_heightOf rfl rfl rfl (by decide +kernel) ⟨Nat.le_of_ble_eq_true rfl, Nat.le_of_ble_eq_true rfl⟩) hK hP hD hS 0 rfl rfl (Eq.refl [g9, af 1, af 11, af 12, af 16, af 17, af 18, af 19, af 20, af 21, af 24]) rfl hl.1 rfl (Nat.le_of_ble_eq_true rfl) dX7_rate_58 ⟨Nat.zero_le _, Nat.zero_le _⟩ (fun H locs hP hD hS => ?_)
        show W _ _ _ _ _ _ _ _ _ _ _ _ _ _ _ (F0 _ _ _ [.int (iZ ((A 17) (9 + Int.toNat b)))])
        replace hP : va_P G vwCl [(g9, .inr (7, [.int (iZ (F 0)), .ref (af 1), .int (iZ (F 2)), .int (iZ (F 3)), .int (iZ (F 4)), .int (iZ (F 5)), .int (iZ (F 6)), .int (iZ (F 7)), .int (iZ (F 8)), .int (iZ (F 9)), .int (iZ (F 10)), .ref (af 11), .ref (af 12), .int (iZ (F 13)), .int (iZ (F 14)), .int (iZ (F 15)), .ref (af 16), .ref (af 17), .ref (af 18), .ref (af 19), .ref (af 20), .ref (af 21), .int (iZ (F 22)), .int (iZ (F 23)), .ref (af 24), .long (tr + 1), .int (iZ (F 26)), .int (iZ (F 27)), .int (iZ (F 28))])), (af 1, .inl (Y 0, 200, .inl (aI (A 1)))), (af 11, .inl (Y 0, 7, .inl (aI (A 11)))), (af 12, .inl (Y 0, 36, .inl (aI (A 12)))), (af 16, .inl (Y 0, 7, .inl (aI (A 16)))), (af 17, .inl (Y 0, 36, .inl (aI (A 17)))), (af 18, .inl (Y 0, 41, .inl (aI (A 18)))), (af 19, .inl (Y 0, 72, .inl (aI (A 19)))), (af 20, .inl (Y 1, 2, .inl (aI (A 20)))), (af 21, .inl (Y 0, 360, .inl (aI (A 21)))), (af 24, .inl (Y 0, 10, .inl (aI (A 24))))] H := hP
        replace hD : va_D _ [(g9, .inr (7, [.int (iZ (F 0)), .ref (af 1), .int (iZ (F 2)), .int (iZ (F 3)), .int (iZ (F 4)), .int (iZ (F 5)), .int (iZ (F 6)), .int (iZ (F 7)), .int (iZ (F 8)), .int (iZ (F 9)), .int (iZ (F 10)), .ref (af 11), .ref (af 12), .int (iZ (F 13)), .int (iZ (F 14)), .int (iZ (F 15)), .ref (af 16), .ref (af 17), .ref (af 18), .ref (af 19), .ref (af 20), .ref (af 21), .int (iZ (F 22)), .int (iZ (F 23)), .ref (af 24), .long (tr + 1), .int (iZ (F 26)), .int (iZ (F 27)), .int (iZ (F 28))])), (af 1, .inl (Y 0, 200, .inl (aI (A 1)))), (af 11, .inl (Y 0, 7, .inl (aI (A 11)))), (af 12, .inl (Y 0, 36, .inl (aI (A 12)))), (af 16, .inl (Y 0, 7, .inl (aI (A 16)))), (af 17, .inl (Y 0, 36, .inl (aI (A 17)))), (af 18, .inl (Y 0, 41, .inl (aI (A 18)))), (af 19, .inl (Y 0, 72, .inl (aI (A 19)))), (af 20, .inl (Y 1, 2, .inl (aI (A 20)))), (af 21, .inl (Y 0, 360, .inl (aI (A 21)))), (af 24, .inl (Y 0, 10, .inl (aI (A 24))))] := hD
        have hb_10 := hV.2.2.2.2.1 (Int.toNat b) (by omega)
        have hb_11 := wu_in hV.1 b
        refine z_top (show (A 17) (9 + Int.toNat b) = rRate (kF F A (A 17)) a b from ?_) ?_
        · unfold rRate; rw [if_pos (by omega), show a = 0 by omega]; unfold raR; rw [if_pos rfl, kF_2 (t := b.toNat) (by omega)]
        have ef : tRate tr (kF F A (A 17)) a b = raT tr a := by unfold tRate; rw [decide_eq_true (show 0 ≤ b ∧ b ≤ kF F A (A 17) 0 2 - 1 by omega)]; rfl
        have hP9 : va_P G vwCl (moW Y g9 af (F) (A) (tRate tr (kF F A (A 17)) a b)) H := by rw [ef, raT_0 (show a = 0 by omega)]; exact hP.sub [0, 1, 2, 3, 4, 5, 6, 7, 8, 9, 10] rfl
        exact W.iret (v := iZ (rRate (kF F A (A 17)) a b)) hx hb hr (fun t9 ht9 _ => ⟨rfl, by rw [ht9]; exact hP9, hS.F ht9⟩) hS.2.2 dX7_rate_61
      · skip
        replace c_3_r := c_3_r.trans c_3
        refine lv_tableIn (tgt := 62) (off := 41) hx hb dX7_rate_21 (by rw [c_3_r]; decide) (by rw [c_3_r]; decide) (by rw [c_3_r]; rfl) (by decide) ?_
        refine lv_aload_n hx hb dX7_rate_62 rfl (lv_at hl 0 rfl) ?_
        refine lv_iload_n hx hb dX7_rate_63 rfl (lv_at hl 2 rfl) ?_
        have hP := hP.sub (ws' := [(g9, .inr (7, [.int (iZ (F 0)), .ref (af 1), .int (iZ (F 2)), .int (iZ (F 3)), .int (iZ (F 4)), .int (iZ (F 5)), .int (iZ (F 6)), .int (iZ (F 7)), .int (iZ (F 8)), .int (iZ (F 9)), .int (iZ (F 10)), .ref (af 11), .ref (af 12), .int (iZ (F 13)), .int (iZ (F 14)), .int (iZ (F 15)), .ref (af 16), .ref (af 17), .ref (af 18), .ref (af 19), .ref (af 20), .ref (af 21), .int (iZ (F 22)), .int (iZ (F 23)), .ref (af 24), .long tr, .int (iZ (F 26)), .int (iZ (F 27)), .int (iZ (F 28))])), (af 1, .inl (Y 0, 200, .inl (aI (A 1)))), (af 11, .inl (Y 0, 7, .inl (aI (A 11)))), (af 12, .inl (Y 0, 36, .inl (aI (A 12)))), (af 16, .inl (Y 0, 7, .inl (aI (A 16)))), (af 17, .inl (Y 0, 36, .inl (aI (A 17)))), (af 18, .inl (Y 0, 41, .inl (aI (A 18)))), (af 19, .inl (Y 0, 72, .inl (aI (A 19)))), (af 20, .inl (Y 1, 2, .inl (aI (A 20)))), (af 21, .inl (Y 0, 360, .inl (aI (A 21)))), (af 24, .inl (Y 0, 10, .inl (aI (A 24))))] ++ []) [0, 1, 2, 3, 4, 5, 6, 7, 8, 9, 10] rfl
        have hD := hD.sub (ws' := [(g9, .inr (7, [.int (iZ (F 0)), .ref (af 1), .int (iZ (F 2)), .int (iZ (F 3)), .int (iZ (F 4)), .int (iZ (F 5)), .int (iZ (F 6)), .int (iZ (F 7)), .int (iZ (F 8)), .int (iZ (F 9)), .int (iZ (F 10)), .ref (af 11), .ref (af 12), .int (iZ (F 13)), .int (iZ (F 14)), .int (iZ (F 15)), .ref (af 16), .ref (af 17), .ref (af 18), .ref (af 19), .ref (af 20), .ref (af 21), .int (iZ (F 22)), .int (iZ (F 23)), .ref (af 24), .long tr, .int (iZ (F 26)), .int (iZ (F 27)), .int (iZ (F 28))])), (af 1, .inl (Y 0, 200, .inl (aI (A 1)))), (af 11, .inl (Y 0, 7, .inl (aI (A 11)))), (af 12, .inl (Y 0, 36, .inl (aI (A 12)))), (af 16, .inl (Y 0, 7, .inl (aI (A 16)))), (af 17, .inl (Y 0, 36, .inl (aI (A 17)))), (af 18, .inl (Y 0, 41, .inl (aI (A 18)))), (af 19, .inl (Y 0, 72, .inl (aI (A 19)))), (af 20, .inl (Y 1, 2, .inl (aI (A 20)))), (af 21, .inl (Y 0, 360, .inl (aI (A 21)))), (af 24, .inl (Y 0, 10, .inl (aI (A 24))))] ++ []) [0, 1, 2, 3, 4, 5, 6, 7, 8, 9, 10] (by decide) rfl
        refine mu_V (As := [.int (iZ b)]) (rest := []) (wc := [(g9, .inr (7, [.int (iZ (F 0)), .ref (af 1), .int (iZ (F 2)), .int (iZ (F 3)), .int (iZ (F 4)), .int (iZ (F 5)), .int (iZ (F 6)), .int (iZ (F 7)), .int (iZ (F 8)), .int (iZ (F 9)), .int (iZ (F 10)), .ref (af 11), .ref (af 12), .int (iZ (F 13)), .int (iZ (F 14)), .int (iZ (F 15)), .ref (af 16), .ref (af 17), .ref (af 18), .ref (af 19), .ref (af 20), .ref (af 21), .int (iZ (F 22)), .int (iZ (F 23)), .ref (af 24), .long tr, .int (iZ (F 26)), .int (iZ (F 27)), .int (iZ (F 28))])), (af 1, .inl (Y 0, 200, .inl (aI (A 1)))), (af 11, .inl (Y 0, 7, .inl (aI (A 11)))), (af 12, .inl (Y 0, 36, .inl (aI (A 12)))), (af 16, .inl (Y 0, 7, .inl (aI (A 16)))), (af 17, .inl (Y 0, 36, .inl (aI (A 17)))), (af 18, .inl (Y 0, 41, .inl (aI (A 18)))), (af 19, .inl (Y 0, 72, .inl (aI (A 19)))), (af 20, .inl (Y 1, 2, .inl (aI (A 20)))), (af 21, .inl (Y 0, 360, .inl (aI (A 21)))), (af 24, .inl (Y 0, 10, .inl (aI (A 24))))]) (wc' := moW Y g9 af F A (tr + kC10 + 1)) (F := []) ⟨hx, hb, hml, hown, hts⟩ (c_X7_oakOf l G Y g9 af F A tr hV hno b (by omega)) (cwV 1 hts gX7_rate_X7_oakOf rfl rfl rfl (by decide +kernel) ⟨Nat.le_of_ble_eq_true rfl, Nat.le_of_ble_eq_true rfl⟩) hK hP hD hS 0 rfl rfl (Eq.refl [g9, af 1, af 11, af 12, af 16, af 17, af 18, af 19, af 20, af 21, af 24]) rfl hl.1 rfl (Nat.le_of_ble_eq_true rfl) dX7_rate_64 ⟨Nat.zero_le _, Nat.zero_le _⟩ (fun H locs hP hD hS => ?_)
        show W _ _ _ _ _ _ _ _ _ _ _ _ _ _ _ (F0 _ _ _ [.int (iZ ((A 17) (9 + Int.toNat b) + wu (kF F A (A 17)) b))])
        replace hP : va_P G vwCl [(g9, .inr (7, [.int (iZ (F 0)), .ref (af 1), .int (iZ (F 2)), .int (iZ (F 3)), .int (iZ (F 4)), .int (iZ (F 5)), .int (iZ (F 6)), .int (iZ (F 7)), .int (iZ (F 8)), .int (iZ (F 9)), .int (iZ (F 10)), .ref (af 11), .ref (af 12), .int (iZ (F 13)), .int (iZ (F 14)), .int (iZ (F 15)), .ref (af 16), .ref (af 17), .ref (af 18), .ref (af 19), .ref (af 20), .ref (af 21), .int (iZ (F 22)), .int (iZ (F 23)), .ref (af 24), .long (tr + kC10 + 1), .int (iZ (F 26)), .int (iZ (F 27)), .int (iZ (F 28))])), (af 1, .inl (Y 0, 200, .inl (aI (A 1)))), (af 11, .inl (Y 0, 7, .inl (aI (A 11)))), (af 12, .inl (Y 0, 36, .inl (aI (A 12)))), (af 16, .inl (Y 0, 7, .inl (aI (A 16)))), (af 17, .inl (Y 0, 36, .inl (aI (A 17)))), (af 18, .inl (Y 0, 41, .inl (aI (A 18)))), (af 19, .inl (Y 0, 72, .inl (aI (A 19)))), (af 20, .inl (Y 1, 2, .inl (aI (A 20)))), (af 21, .inl (Y 0, 360, .inl (aI (A 21)))), (af 24, .inl (Y 0, 10, .inl (aI (A 24))))] H := hP
        replace hD : va_D _ [(g9, .inr (7, [.int (iZ (F 0)), .ref (af 1), .int (iZ (F 2)), .int (iZ (F 3)), .int (iZ (F 4)), .int (iZ (F 5)), .int (iZ (F 6)), .int (iZ (F 7)), .int (iZ (F 8)), .int (iZ (F 9)), .int (iZ (F 10)), .ref (af 11), .ref (af 12), .int (iZ (F 13)), .int (iZ (F 14)), .int (iZ (F 15)), .ref (af 16), .ref (af 17), .ref (af 18), .ref (af 19), .ref (af 20), .ref (af 21), .int (iZ (F 22)), .int (iZ (F 23)), .ref (af 24), .long (tr + kC10 + 1), .int (iZ (F 26)), .int (iZ (F 27)), .int (iZ (F 28))])), (af 1, .inl (Y 0, 200, .inl (aI (A 1)))), (af 11, .inl (Y 0, 7, .inl (aI (A 11)))), (af 12, .inl (Y 0, 36, .inl (aI (A 12)))), (af 16, .inl (Y 0, 7, .inl (aI (A 16)))), (af 17, .inl (Y 0, 36, .inl (aI (A 17)))), (af 18, .inl (Y 0, 41, .inl (aI (A 18)))), (af 19, .inl (Y 0, 72, .inl (aI (A 19)))), (af 20, .inl (Y 1, 2, .inl (aI (A 20)))), (af 21, .inl (Y 0, 360, .inl (aI (A 21)))), (af 24, .inl (Y 0, 10, .inl (aI (A 24))))] := hD
        have hb_12 := hV.2.2.2.2.1 (Int.toNat b) (by omega)
        have hb_13 := wu_in hV.1 b
        refine z_top (show ((A 17) (9 + Int.toNat b) + wu (kF F A (A 17)) b) = rRate (kF F A (A 17)) a b from ?_) ?_
        · unfold rRate; rw [if_pos (by omega), show a = 1 by omega]; unfold raR; rw [if_neg (by decide), if_pos rfl, kF_2 (t := b.toNat) (by omega), show ((b.toNat : Nat) : Int) = b by omega]
        have ef : tRate tr (kF F A (A 17)) a b = raT tr a := by unfold tRate; rw [decide_eq_true (show 0 ≤ b ∧ b ≤ kF F A (A 17) 0 2 - 1 by omega)]; rfl
        have hP9 : va_P G vwCl (moW Y g9 af (F) (A) (tRate tr (kF F A (A 17)) a b)) H := by rw [ef, raT_1 (show a = 1 by omega)]; exact hP.sub [0, 1, 2, 3, 4, 5, 6, 7, 8, 9, 10] rfl
        exact W.iret (v := iZ (rRate (kF F A (A 17)) a b)) hx hb hr (fun t9 ht9 _ => ⟨rfl, by rw [ht9]; exact hP9, hS.F ht9⟩) hS.2.2 dX7_rate_67
      · skip
        replace c_3_r := c_3_r.trans c_3
        refine lv_tableIn (tgt := 68) (off := 47) hx hb dX7_rate_21 (by rw [c_3_r]; decide) (by rw [c_3_r]; decide) (by rw [c_3_r]; rfl) (by decide) ?_
        refine lv_aload_n hx hb dX7_rate_68 rfl (lv_at hl 0 rfl) ?_
        refine lv_iload_n hx hb dX7_rate_69 rfl (lv_at hl 2 rfl) ?_
        have hP := hP.sub (ws' := [(g9, .inr (7, [.int (iZ (F 0)), .ref (af 1), .int (iZ (F 2)), .int (iZ (F 3)), .int (iZ (F 4)), .int (iZ (F 5)), .int (iZ (F 6)), .int (iZ (F 7)), .int (iZ (F 8)), .int (iZ (F 9)), .int (iZ (F 10)), .ref (af 11), .ref (af 12), .int (iZ (F 13)), .int (iZ (F 14)), .int (iZ (F 15)), .ref (af 16), .ref (af 17), .ref (af 18), .ref (af 19), .ref (af 20), .ref (af 21), .int (iZ (F 22)), .int (iZ (F 23)), .ref (af 24), .long tr, .int (iZ (F 26)), .int (iZ (F 27)), .int (iZ (F 28))])), (af 1, .inl (Y 0, 200, .inl (aI (A 1)))), (af 11, .inl (Y 0, 7, .inl (aI (A 11)))), (af 12, .inl (Y 0, 36, .inl (aI (A 12)))), (af 16, .inl (Y 0, 7, .inl (aI (A 16)))), (af 17, .inl (Y 0, 36, .inl (aI (A 17)))), (af 18, .inl (Y 0, 41, .inl (aI (A 18)))), (af 19, .inl (Y 0, 72, .inl (aI (A 19)))), (af 20, .inl (Y 1, 2, .inl (aI (A 20)))), (af 21, .inl (Y 0, 360, .inl (aI (A 21)))), (af 24, .inl (Y 0, 10, .inl (aI (A 24))))] ++ []) [0, 1, 2, 3, 4, 5, 6, 7, 8, 9, 10] rfl
        have hD := hD.sub (ws' := [(g9, .inr (7, [.int (iZ (F 0)), .ref (af 1), .int (iZ (F 2)), .int (iZ (F 3)), .int (iZ (F 4)), .int (iZ (F 5)), .int (iZ (F 6)), .int (iZ (F 7)), .int (iZ (F 8)), .int (iZ (F 9)), .int (iZ (F 10)), .ref (af 11), .ref (af 12), .int (iZ (F 13)), .int (iZ (F 14)), .int (iZ (F 15)), .ref (af 16), .ref (af 17), .ref (af 18), .ref (af 19), .ref (af 20), .ref (af 21), .int (iZ (F 22)), .int (iZ (F 23)), .ref (af 24), .long tr, .int (iZ (F 26)), .int (iZ (F 27)), .int (iZ (F 28))])), (af 1, .inl (Y 0, 200, .inl (aI (A 1)))), (af 11, .inl (Y 0, 7, .inl (aI (A 11)))), (af 12, .inl (Y 0, 36, .inl (aI (A 12)))), (af 16, .inl (Y 0, 7, .inl (aI (A 16)))), (af 17, .inl (Y 0, 36, .inl (aI (A 17)))), (af 18, .inl (Y 0, 41, .inl (aI (A 18)))), (af 19, .inl (Y 0, 72, .inl (aI (A 19)))), (af 20, .inl (Y 1, 2, .inl (aI (A 20)))), (af 21, .inl (Y 0, 360, .inl (aI (A 21)))), (af 24, .inl (Y 0, 10, .inl (aI (A 24))))] ++ []) [0, 1, 2, 3, 4, 5, 6, 7, 8, 9, 10] (by decide) rfl
        refine mu_V (As := [.int (iZ b)]) (rest := []) (wc := [(g9, .inr (7, [.int (iZ (F 0)), .ref (af 1), .int (iZ (F 2)), .int (iZ (F 3)), .int (iZ (F 4)), .int (iZ (F 5)), .int (iZ (F 6)), .int (iZ (F 7)), .int (iZ (F 8)), .int (iZ (F 9)), .int (iZ (F 10)), .ref (af 11), .ref (af 12), .int (iZ (F 13)), .int (iZ (F 14)), .int (iZ (F 15)), .ref (af 16), .ref (af 17), .ref (af 18), .ref (af 19), .ref (af 20), .ref (af 21), .int (iZ (F 22)), .int (iZ (F 23)), .ref (af 24), .long tr, .int (iZ (F 26)), .int (iZ (F 27)), .int (iZ (F 28))])), (af 1, .inl (Y 0, 200, .inl (aI (A 1)))), (af 11, .inl (Y 0, 7, .inl (aI (A 11)))), (af 12, .inl (Y 0, 36, .inl (aI (A 12)))), (af 16, .inl (Y 0, 7, .inl (aI (A 16)))), (af 17, .inl (Y 0, 36, .inl (aI (A 17)))), (af 18, .inl (Y 0, 41, .inl (aI (A 18)))), (af 19, .inl (Y 0, 72, .inl (aI (A 19)))), (af 20, .inl (Y 1, 2, .inl (aI (A 20)))), (af 21, .inl (Y 0, 360, .inl (aI (A 21)))), (af 24, .inl (Y 0, 10, .inl (aI (A 24))))]) (wc' := moW Y g9 af F A (tr + kC100 + 1)) (F := []) ⟨hx, hb, hml, hown, hts⟩ (c_X7_poplarOf l G Y g9 af F A tr hV hno b (by omega)) (cwV 1 hts gX7_rate_X7_poplarOf rfl rfl rfl (by decide +kernel) ⟨Nat.le_of_ble_eq_true rfl, Nat.le_of_ble_eq_true rfl⟩) hK hP hD hS 0 rfl rfl (Eq.refl [g9, af 1, af 11, af 12, af 16, af 17, af 18, af 19, af 20, af 21, af 24]) rfl hl.1 rfl (Nat.le_of_ble_eq_true rfl) dX7_rate_70 ⟨Nat.zero_le _, Nat.zero_le _⟩ (fun H locs hP hD hS => ?_)
        show W _ _ _ _ _ _ _ _ _ _ _ _ _ _ _ (F0 _ _ _ [.int (iZ ((A 17) (9 + Int.toNat b) - (A 17) (4 + Int.toNat b)))])
        replace hP : va_P G vwCl [(g9, .inr (7, [.int (iZ (F 0)), .ref (af 1), .int (iZ (F 2)), .int (iZ (F 3)), .int (iZ (F 4)), .int (iZ (F 5)), .int (iZ (F 6)), .int (iZ (F 7)), .int (iZ (F 8)), .int (iZ (F 9)), .int (iZ (F 10)), .ref (af 11), .ref (af 12), .int (iZ (F 13)), .int (iZ (F 14)), .int (iZ (F 15)), .ref (af 16), .ref (af 17), .ref (af 18), .ref (af 19), .ref (af 20), .ref (af 21), .int (iZ (F 22)), .int (iZ (F 23)), .ref (af 24), .long (tr + kC100 + 1), .int (iZ (F 26)), .int (iZ (F 27)), .int (iZ (F 28))])), (af 1, .inl (Y 0, 200, .inl (aI (A 1)))), (af 11, .inl (Y 0, 7, .inl (aI (A 11)))), (af 12, .inl (Y 0, 36, .inl (aI (A 12)))), (af 16, .inl (Y 0, 7, .inl (aI (A 16)))), (af 17, .inl (Y 0, 36, .inl (aI (A 17)))), (af 18, .inl (Y 0, 41, .inl (aI (A 18)))), (af 19, .inl (Y 0, 72, .inl (aI (A 19)))), (af 20, .inl (Y 1, 2, .inl (aI (A 20)))), (af 21, .inl (Y 0, 360, .inl (aI (A 21)))), (af 24, .inl (Y 0, 10, .inl (aI (A 24))))] H := hP
        replace hD : va_D _ [(g9, .inr (7, [.int (iZ (F 0)), .ref (af 1), .int (iZ (F 2)), .int (iZ (F 3)), .int (iZ (F 4)), .int (iZ (F 5)), .int (iZ (F 6)), .int (iZ (F 7)), .int (iZ (F 8)), .int (iZ (F 9)), .int (iZ (F 10)), .ref (af 11), .ref (af 12), .int (iZ (F 13)), .int (iZ (F 14)), .int (iZ (F 15)), .ref (af 16), .ref (af 17), .ref (af 18), .ref (af 19), .ref (af 20), .ref (af 21), .int (iZ (F 22)), .int (iZ (F 23)), .ref (af 24), .long (tr + kC100 + 1), .int (iZ (F 26)), .int (iZ (F 27)), .int (iZ (F 28))])), (af 1, .inl (Y 0, 200, .inl (aI (A 1)))), (af 11, .inl (Y 0, 7, .inl (aI (A 11)))), (af 12, .inl (Y 0, 36, .inl (aI (A 12)))), (af 16, .inl (Y 0, 7, .inl (aI (A 16)))), (af 17, .inl (Y 0, 36, .inl (aI (A 17)))), (af 18, .inl (Y 0, 41, .inl (aI (A 18)))), (af 19, .inl (Y 0, 72, .inl (aI (A 19)))), (af 20, .inl (Y 1, 2, .inl (aI (A 20)))), (af 21, .inl (Y 0, 360, .inl (aI (A 21)))), (af 24, .inl (Y 0, 10, .inl (aI (A 24))))] := hD
        have hb_14 := hV.2.2.2.2.1 (Int.toNat b) (by omega)
        have hb_15 := wu_in hV.1 b
        refine z_top (show ((A 17) (9 + Int.toNat b) - (A 17) (4 + Int.toNat b)) = rRate (kF F A (A 17)) a b from ?_) ?_
        · unfold rRate; rw [if_pos (by omega), show a = 2 by omega]; unfold raR; rw [if_neg (by decide), if_neg (by decide), if_pos rfl, kF_2 (t := b.toNat) (by omega), kF_1 (t := b.toNat) (by omega)]
        have ef : tRate tr (kF F A (A 17)) a b = raT tr a := by unfold tRate; rw [decide_eq_true (show 0 ≤ b ∧ b ≤ kF F A (A 17) 0 2 - 1 by omega)]; rfl
        have hP9 : va_P G vwCl (moW Y g9 af (F) (A) (tRate tr (kF F A (A 17)) a b)) H := by rw [ef, raT_2 (show a = 2 by omega)]; exact hP.sub [0, 1, 2, 3, 4, 5, 6, 7, 8, 9, 10] rfl
        exact W.iret (v := iZ (rRate (kF F A (A 17)) a b)) hx hb hr (fun t9 ht9 _ => ⟨rfl, by rw [ht9]; exact hP9, hS.F ht9⟩) hS.2.2 dX7_rate_73
      · skip
        replace c_3_r := c_3_r.trans c_3
        refine lv_tableIn (tgt := 74) (off := 53) hx hb dX7_rate_21 (by rw [c_3_r]; decide) (by rw [c_3_r]; decide) (by rw [c_3_r]; rfl) (by decide) ?_
        refine lv_aload_n hx hb dX7_rate_74 rfl (lv_at hl 0 rfl) ?_
        refine lv_dup hx hb dX7_rate_75 rfl ?_
        refine va_get (D := G) (ci := 7) (v := .long tr) (C := RX7) (T := TX7) (N := 29) hx hb hts hFX7 hown hK.1 hP 0 rfl rfl 25 (by decide) kf193 (fun _ h9 => h9) rfl dX7_rate_76 ?_
        refine lv_ldc2 (v := 1000) hx hb hown (hts (.constantLong RX7 211 (1000)) (by decide +kernel)) dX7_rate_79 ?_
        refine lv_topl (fun kl16 ekl16 => ?_)
        refine lv_ladd hx hb dX7_rate_82 ?_
        refine va_put (D := G) (ci := 7) (v := .long (tr + kl16)) (ty := .long) (C := RX7) (T := TX7) (N := 29) hx hb hts hFX7 tyX7 tyX7_ok nmX7 hown hK.1 hP hD hS 0 rfl rfl 25 (by decide) kf193 (fun _ h9 => h9) rfl (by decide +kernel) rfl rfl (Nat.le_of_ble_eq_true rfl) dX7_rate_83 (fun H locs hP hD hS => ?_)
        replace hP : va_P G vwCl [(g9, .inr (7, [.int (iZ (F 0)), .ref (af 1), .int (iZ (F 2)), .int (iZ (F 3)), .int (iZ (F 4)), .int (iZ (F 5)), .int (iZ (F 6)), .int (iZ (F 7)), .int (iZ (F 8)), .int (iZ (F 9)), .int (iZ (F 10)), .ref (af 11), .ref (af 12), .int (iZ (F 13)), .int (iZ (F 14)), .int (iZ (F 15)), .ref (af 16), .ref (af 17), .ref (af 18), .ref (af 19), .ref (af 20), .ref (af 21), .int (iZ (F 22)), .int (iZ (F 23)), .ref (af 24), .long (tr + kl16), .int (iZ (F 26)), .int (iZ (F 27)), .int (iZ (F 28))])), (af 1, .inl (Y 0, 200, .inl (aI (A 1)))), (af 11, .inl (Y 0, 7, .inl (aI (A 11)))), (af 12, .inl (Y 0, 36, .inl (aI (A 12)))), (af 16, .inl (Y 0, 7, .inl (aI (A 16)))), (af 17, .inl (Y 0, 36, .inl (aI (A 17)))), (af 18, .inl (Y 0, 41, .inl (aI (A 18)))), (af 19, .inl (Y 0, 72, .inl (aI (A 19)))), (af 20, .inl (Y 1, 2, .inl (aI (A 20)))), (af 21, .inl (Y 0, 360, .inl (aI (A 21)))), (af 24, .inl (Y 0, 10, .inl (aI (A 24))))] H := hP
        replace hD : va_D _ [(g9, .inr (7, [.int (iZ (F 0)), .ref (af 1), .int (iZ (F 2)), .int (iZ (F 3)), .int (iZ (F 4)), .int (iZ (F 5)), .int (iZ (F 6)), .int (iZ (F 7)), .int (iZ (F 8)), .int (iZ (F 9)), .int (iZ (F 10)), .ref (af 11), .ref (af 12), .int (iZ (F 13)), .int (iZ (F 14)), .int (iZ (F 15)), .ref (af 16), .ref (af 17), .ref (af 18), .ref (af 19), .ref (af 20), .ref (af 21), .int (iZ (F 22)), .int (iZ (F 23)), .ref (af 24), .long (tr + kl16), .int (iZ (F 26)), .int (iZ (F 27)), .int (iZ (F 28))])), (af 1, .inl (Y 0, 200, .inl (aI (A 1)))), (af 11, .inl (Y 0, 7, .inl (aI (A 11)))), (af 12, .inl (Y 0, 36, .inl (aI (A 12)))), (af 16, .inl (Y 0, 7, .inl (aI (A 16)))), (af 17, .inl (Y 0, 36, .inl (aI (A 17)))), (af 18, .inl (Y 0, 41, .inl (aI (A 18)))), (af 19, .inl (Y 0, 72, .inl (aI (A 19)))), (af 20, .inl (Y 1, 2, .inl (aI (A 20)))), (af 21, .inl (Y 0, 360, .inl (aI (A 21)))), (af 24, .inl (Y 0, 10, .inl (aI (A 24))))] := hD
        refine z_iconst hx hb dX7_rate_86 ?_
        refine lv_aload_n hx hb dX7_rate_87 rfl (lv_at hl 0 rfl) ?_
        refine lv_iload_n hx hb dX7_rate_88 rfl (lv_at hl 2 rfl) ?_
        have hP := hP.sub (ws' := [(g9, .inr (7, [.int (iZ (F 0)), .ref (af 1), .int (iZ (F 2)), .int (iZ (F 3)), .int (iZ (F 4)), .int (iZ (F 5)), .int (iZ (F 6)), .int (iZ (F 7)), .int (iZ (F 8)), .int (iZ (F 9)), .int (iZ (F 10)), .ref (af 11), .ref (af 12), .int (iZ (F 13)), .int (iZ (F 14)), .int (iZ (F 15)), .ref (af 16), .ref (af 17), .ref (af 18), .ref (af 19), .ref (af 20), .ref (af 21), .int (iZ (F 22)), .int (iZ (F 23)), .ref (af 24), .long (tr + kl16), .int (iZ (F 26)), .int (iZ (F 27)), .int (iZ (F 28))])), (af 1, .inl (Y 0, 200, .inl (aI (A 1)))), (af 11, .inl (Y 0, 7, .inl (aI (A 11)))), (af 12, .inl (Y 0, 36, .inl (aI (A 12)))), (af 16, .inl (Y 0, 7, .inl (aI (A 16)))), (af 17, .inl (Y 0, 36, .inl (aI (A 17)))), (af 18, .inl (Y 0, 41, .inl (aI (A 18)))), (af 19, .inl (Y 0, 72, .inl (aI (A 19)))), (af 20, .inl (Y 1, 2, .inl (aI (A 20)))), (af 21, .inl (Y 0, 360, .inl (aI (A 21)))), (af 24, .inl (Y 0, 10, .inl (aI (A 24))))] ++ []) [0, 1, 2, 3, 4, 5, 6, 7, 8, 9, 10] rfl
        have hD := hD.sub (ws' := [(g9, .inr (7, [.int (iZ (F 0)), .ref (af 1), .int (iZ (F 2)), .int (iZ (F 3)), .int (iZ (F 4)), .int (iZ (F 5)), .int (iZ (F 6)), .int (iZ (F 7)), .int (iZ (F 8)), .int (iZ (F 9)), .int (iZ (F 10)), .ref (af 11), .ref (af 12), .int (iZ (F 13)), .int (iZ (F 14)), .int (iZ (F 15)), .ref (af 16), .ref (af 17), .ref (af 18), .ref (af 19), .ref (af 20), .ref (af 21), .int (iZ (F 22)), .int (iZ (F 23)), .ref (af 24), .long (tr + kl16), .int (iZ (F 26)), .int (iZ (F 27)), .int (iZ (F 28))])), (af 1, .inl (Y 0, 200, .inl (aI (A 1)))), (af 11, .inl (Y 0, 7, .inl (aI (A 11)))), (af 12, .inl (Y 0, 36, .inl (aI (A 12)))), (af 16, .inl (Y 0, 7, .inl (aI (A 16)))), (af 17, .inl (Y 0, 36, .inl (aI (A 17)))), (af 18, .inl (Y 0, 41, .inl (aI (A 18)))), (af 19, .inl (Y 0, 72, .inl (aI (A 19)))), (af 20, .inl (Y 1, 2, .inl (aI (A 20)))), (af 21, .inl (Y 0, 360, .inl (aI (A 21)))), (af 24, .inl (Y 0, 10, .inl (aI (A 24))))] ++ []) [0, 1, 2, 3, 4, 5, 6, 7, 8, 9, 10] (by decide) rfl
        refine mu_V (As := [.int (iZ b)]) (rest := [.int (iZ 2)]) (wc := [(g9, .inr (7, [.int (iZ (F 0)), .ref (af 1), .int (iZ (F 2)), .int (iZ (F 3)), .int (iZ (F 4)), .int (iZ (F 5)), .int (iZ (F 6)), .int (iZ (F 7)), .int (iZ (F 8)), .int (iZ (F 9)), .int (iZ (F 10)), .ref (af 11), .ref (af 12), .int (iZ (F 13)), .int (iZ (F 14)), .int (iZ (F 15)), .ref (af 16), .ref (af 17), .ref (af 18), .ref (af 19), .ref (af 20), .ref (af 21), .int (iZ (F 22)), .int (iZ (F 23)), .ref (af 24), .long (tr + kl16), .int (iZ (F 26)), .int (iZ (F 27)), .int (iZ (F 28))])), (af 1, .inl (Y 0, 200, .inl (aI (A 1)))), (af 11, .inl (Y 0, 7, .inl (aI (A 11)))), (af 12, .inl (Y 0, 36, .inl (aI (A 12)))), (af 16, .inl (Y 0, 7, .inl (aI (A 16)))), (af 17, .inl (Y 0, 36, .inl (aI (A 17)))), (af 18, .inl (Y 0, 41, .inl (aI (A 18)))), (af 19, .inl (Y 0, 72, .inl (aI (A 19)))), (af 20, .inl (Y 1, 2, .inl (aI (A 20)))), (af 21, .inl (Y 0, 360, .inl (aI (A 21)))), (af 24, .inl (Y 0, 10, .inl (aI (A 24))))]) (wc' := moW Y g9 af F A ((tr + kl16) + kC10 + 1)) (F := []) ⟨hx, hb, hml, hown, hts⟩ (c_X7_oakOf l G Y g9 af F A (tr + kl16) hV hno b (by omega)) (cwV 1 hts gX7_rate_X7_oakOf rfl rfl rfl (by decide +kernel) ⟨Nat.le_of_ble_eq_true rfl, Nat.le_of_ble_eq_true rfl⟩) hK hP hD hS 0 rfl rfl (Eq.refl [g9, af 1, af 11, af 12, af 16, af 17, af 18, af 19, af 20, af 21, af 24]) rfl hl.1 rfl (Nat.le_of_ble_eq_true rfl) dX7_rate_89 ⟨Nat.zero_le _, Nat.zero_le _⟩ (fun H locs hP hD hS => ?_)
        show W _ _ _ _ _ _ _ _ _ _ _ _ _ _ _ (F0 _ _ _ [.int (iZ ((A 17) (9 + Int.toNat b) + wu (kF F A (A 17)) b)), .int (iZ 2)])
        replace hP : va_P G vwCl [(g9, .inr (7, [.int (iZ (F 0)), .ref (af 1), .int (iZ (F 2)), .int (iZ (F 3)), .int (iZ (F 4)), .int (iZ (F 5)), .int (iZ (F 6)), .int (iZ (F 7)), .int (iZ (F 8)), .int (iZ (F 9)), .int (iZ (F 10)), .ref (af 11), .ref (af 12), .int (iZ (F 13)), .int (iZ (F 14)), .int (iZ (F 15)), .ref (af 16), .ref (af 17), .ref (af 18), .ref (af 19), .ref (af 20), .ref (af 21), .int (iZ (F 22)), .int (iZ (F 23)), .ref (af 24), .long ((tr + kl16) + kC10 + 1), .int (iZ (F 26)), .int (iZ (F 27)), .int (iZ (F 28))])), (af 1, .inl (Y 0, 200, .inl (aI (A 1)))), (af 11, .inl (Y 0, 7, .inl (aI (A 11)))), (af 12, .inl (Y 0, 36, .inl (aI (A 12)))), (af 16, .inl (Y 0, 7, .inl (aI (A 16)))), (af 17, .inl (Y 0, 36, .inl (aI (A 17)))), (af 18, .inl (Y 0, 41, .inl (aI (A 18)))), (af 19, .inl (Y 0, 72, .inl (aI (A 19)))), (af 20, .inl (Y 1, 2, .inl (aI (A 20)))), (af 21, .inl (Y 0, 360, .inl (aI (A 21)))), (af 24, .inl (Y 0, 10, .inl (aI (A 24))))] H := hP
        replace hD : va_D _ [(g9, .inr (7, [.int (iZ (F 0)), .ref (af 1), .int (iZ (F 2)), .int (iZ (F 3)), .int (iZ (F 4)), .int (iZ (F 5)), .int (iZ (F 6)), .int (iZ (F 7)), .int (iZ (F 8)), .int (iZ (F 9)), .int (iZ (F 10)), .ref (af 11), .ref (af 12), .int (iZ (F 13)), .int (iZ (F 14)), .int (iZ (F 15)), .ref (af 16), .ref (af 17), .ref (af 18), .ref (af 19), .ref (af 20), .ref (af 21), .int (iZ (F 22)), .int (iZ (F 23)), .ref (af 24), .long ((tr + kl16) + kC10 + 1), .int (iZ (F 26)), .int (iZ (F 27)), .int (iZ (F 28))])), (af 1, .inl (Y 0, 200, .inl (aI (A 1)))), (af 11, .inl (Y 0, 7, .inl (aI (A 11)))), (af 12, .inl (Y 0, 36, .inl (aI (A 12)))), (af 16, .inl (Y 0, 7, .inl (aI (A 16)))), (af 17, .inl (Y 0, 36, .inl (aI (A 17)))), (af 18, .inl (Y 0, 41, .inl (aI (A 18)))), (af 19, .inl (Y 0, 72, .inl (aI (A 19)))), (af 20, .inl (Y 1, 2, .inl (aI (A 20)))), (af 21, .inl (Y 0, 360, .inl (aI (A 21)))), (af 24, .inl (Y 0, 10, .inl (aI (A 24))))] := hD
        have hb_17 := hV.2.2.2.2.1 (Int.toNat b) (by omega)
        have hb_18 := wu_in hV.1 b
        refine z_imul hx hb dX7_rate_92 ?_
        refine z_top (show (2 * ((A 17) (9 + Int.toNat b) + wu (kF F A (A 17)) b)) = rRate (kF F A (A 17)) a b from ?_) ?_
        · unfold rRate; rw [if_pos (by omega), show a = 3 by omega]; unfold raR; rw [if_neg (by decide), if_neg (by decide), if_neg (by decide), if_pos rfl, kF_2 (t := b.toNat) (by omega), show ((b.toNat : Nat) : Int) = b by omega]
        replace ekl16 : kl16 = kC1000 := ekl16
        subst ekl16
        have ef : tRate tr (kF F A (A 17)) a b = raT tr a := by unfold tRate; rw [decide_eq_true (show 0 ≤ b ∧ b ≤ kF F A (A 17) 0 2 - 1 by omega)]; rfl
        have hP9 : va_P G vwCl (moW Y g9 af (F) (A) (tRate tr (kF F A (A 17)) a b)) H := by rw [ef, raT_3 (show a = 3 by omega)]; exact hP.sub [0, 1, 2, 3, 4, 5, 6, 7, 8, 9, 10] rfl
        exact W.iret (v := iZ (rRate (kF F A (A 17)) a b)) hx hb hr (fun t9 ht9 _ => ⟨rfl, by rw [ht9]; exact hP9, hS.F ht9⟩) hS.2.2 dX7_rate_93
      · skip
        replace c_3_r := c_3_r.trans c_3
        refine lv_tableIn (tgt := 94) (off := 73) hx hb dX7_rate_21 (by rw [c_3_r]; decide) (by rw [c_3_r]; decide) (by rw [c_3_r]; rfl) (by decide) ?_
        refine lv_aload_n hx hb dX7_rate_94 rfl (lv_at hl 0 rfl) ?_
        refine lv_dup hx hb dX7_rate_95 rfl ?_
        refine va_get (D := G) (ci := 7) (v := .long tr) (C := RX7) (T := TX7) (N := 29) hx hb hts hFX7 hown hK.1 hP 0 rfl rfl 25 (by decide) kf193 (fun _ h9 => h9) rfl dX7_rate_96 ?_
        refine lv_ldc2 (v := 10000) hx hb hown (hts (.constantLong RX7 213 (10000)) (by decide +kernel)) dX7_rate_99 ?_
        refine lv_topl (fun kl19 ekl19 => ?_)
        refine lv_ladd hx hb dX7_rate_102 ?_
        refine va_put (D := G) (ci := 7) (v := .long (tr + kl19)) (ty := .long) (C := RX7) (T := TX7) (N := 29) hx hb hts hFX7 tyX7 tyX7_ok nmX7 hown hK.1 hP hD hS 0 rfl rfl 25 (by decide) kf193 (fun _ h9 => h9) rfl (by decide +kernel) rfl rfl (Nat.le_of_ble_eq_true rfl) dX7_rate_103 (fun H locs hP hD hS => ?_)
        replace hP : va_P G vwCl [(g9, .inr (7, [.int (iZ (F 0)), .ref (af 1), .int (iZ (F 2)), .int (iZ (F 3)), .int (iZ (F 4)), .int (iZ (F 5)), .int (iZ (F 6)), .int (iZ (F 7)), .int (iZ (F 8)), .int (iZ (F 9)), .int (iZ (F 10)), .ref (af 11), .ref (af 12), .int (iZ (F 13)), .int (iZ (F 14)), .int (iZ (F 15)), .ref (af 16), .ref (af 17), .ref (af 18), .ref (af 19), .ref (af 20), .ref (af 21), .int (iZ (F 22)), .int (iZ (F 23)), .ref (af 24), .long (tr + kl19), .int (iZ (F 26)), .int (iZ (F 27)), .int (iZ (F 28))])), (af 1, .inl (Y 0, 200, .inl (aI (A 1)))), (af 11, .inl (Y 0, 7, .inl (aI (A 11)))), (af 12, .inl (Y 0, 36, .inl (aI (A 12)))), (af 16, .inl (Y 0, 7, .inl (aI (A 16)))), (af 17, .inl (Y 0, 36, .inl (aI (A 17)))), (af 18, .inl (Y 0, 41, .inl (aI (A 18)))), (af 19, .inl (Y 0, 72, .inl (aI (A 19)))), (af 20, .inl (Y 1, 2, .inl (aI (A 20)))), (af 21, .inl (Y 0, 360, .inl (aI (A 21)))), (af 24, .inl (Y 0, 10, .inl (aI (A 24))))] H := hP
        replace hD : va_D _ [(g9, .inr (7, [.int (iZ (F 0)), .ref (af 1), .int (iZ (F 2)), .int (iZ (F 3)), .int (iZ (F 4)), .int (iZ (F 5)), .int (iZ (F 6)), .int (iZ (F 7)), .int (iZ (F 8)), .int (iZ (F 9)), .int (iZ (F 10)), .ref (af 11), .ref (af 12), .int (iZ (F 13)), .int (iZ (F 14)), .int (iZ (F 15)), .ref (af 16), .ref (af 17), .ref (af 18), .ref (af 19), .ref (af 20), .ref (af 21), .int (iZ (F 22)), .int (iZ (F 23)), .ref (af 24), .long (tr + kl19), .int (iZ (F 26)), .int (iZ (F 27)), .int (iZ (F 28))])), (af 1, .inl (Y 0, 200, .inl (aI (A 1)))), (af 11, .inl (Y 0, 7, .inl (aI (A 11)))), (af 12, .inl (Y 0, 36, .inl (aI (A 12)))), (af 16, .inl (Y 0, 7, .inl (aI (A 16)))), (af 17, .inl (Y 0, 36, .inl (aI (A 17)))), (af 18, .inl (Y 0, 41, .inl (aI (A 18)))), (af 19, .inl (Y 0, 72, .inl (aI (A 19)))), (af 20, .inl (Y 1, 2, .inl (aI (A 20)))), (af 21, .inl (Y 0, 360, .inl (aI (A 21)))), (af 24, .inl (Y 0, 10, .inl (aI (A 24))))] := hD
        refine lv_aload_n hx hb dX7_rate_106 rfl (lv_at hl 0 rfl) ?_
        refine lv_iload_n hx hb dX7_rate_107 rfl (lv_at hl 2 rfl) ?_
        have hP := hP.sub (ws' := [(g9, .inr (7, [.int (iZ (F 0)), .ref (af 1), .int (iZ (F 2)), .int (iZ (F 3)), .int (iZ (F 4)), .int (iZ (F 5)), .int (iZ (F 6)), .int (iZ (F 7)), .int (iZ (F 8)), .int (iZ (F 9)), .int (iZ (F 10)), .ref (af 11), .ref (af 12), .int (iZ (F 13)), .int (iZ (F 14)), .int (iZ (F 15)), .ref (af 16), .ref (af 17), .ref (af 18), .ref (af 19), .ref (af 20), .ref (af 21), .int (iZ (F 22)), .int (iZ (F 23)), .ref (af 24), .long (tr + kl19), .int (iZ (F 26)), .int (iZ (F 27)), .int (iZ (F 28))])), (af 1, .inl (Y 0, 200, .inl (aI (A 1)))), (af 11, .inl (Y 0, 7, .inl (aI (A 11)))), (af 12, .inl (Y 0, 36, .inl (aI (A 12)))), (af 16, .inl (Y 0, 7, .inl (aI (A 16)))), (af 17, .inl (Y 0, 36, .inl (aI (A 17)))), (af 18, .inl (Y 0, 41, .inl (aI (A 18)))), (af 19, .inl (Y 0, 72, .inl (aI (A 19)))), (af 20, .inl (Y 1, 2, .inl (aI (A 20)))), (af 21, .inl (Y 0, 360, .inl (aI (A 21)))), (af 24, .inl (Y 0, 10, .inl (aI (A 24))))] ++ []) [0, 1, 2, 3, 4, 5, 6, 7, 8, 9, 10] rfl
        have hD := hD.sub (ws' := [(g9, .inr (7, [.int (iZ (F 0)), .ref (af 1), .int (iZ (F 2)), .int (iZ (F 3)), .int (iZ (F 4)), .int (iZ (F 5)), .int (iZ (F 6)), .int (iZ (F 7)), .int (iZ (F 8)), .int (iZ (F 9)), .int (iZ (F 10)), .ref (af 11), .ref (af 12), .int (iZ (F 13)), .int (iZ (F 14)), .int (iZ (F 15)), .ref (af 16), .ref (af 17), .ref (af 18), .ref (af 19), .ref (af 20), .ref (af 21), .int (iZ (F 22)), .int (iZ (F 23)), .ref (af 24), .long (tr + kl19), .int (iZ (F 26)), .int (iZ (F 27)), .int (iZ (F 28))])), (af 1, .inl (Y 0, 200, .inl (aI (A 1)))), (af 11, .inl (Y 0, 7, .inl (aI (A 11)))), (af 12, .inl (Y 0, 36, .inl (aI (A 12)))), (af 16, .inl (Y 0, 7, .inl (aI (A 16)))), (af 17, .inl (Y 0, 36, .inl (aI (A 17)))), (af 18, .inl (Y 0, 41, .inl (aI (A 18)))), (af 19, .inl (Y 0, 72, .inl (aI (A 19)))), (af 20, .inl (Y 1, 2, .inl (aI (A 20)))), (af 21, .inl (Y 0, 360, .inl (aI (A 21)))), (af 24, .inl (Y 0, 10, .inl (aI (A 24))))] ++ []) [0, 1, 2, 3, 4, 5, 6, 7, 8, 9, 10] (by decide) rfl
        refine mu_V (As := [.int (iZ b)]) (rest := []) (wc := [(g9, .inr (7, [.int (iZ (F 0)), .ref (af 1), .int (iZ (F 2)), .int (iZ (F 3)), .int (iZ (F 4)), .int (iZ (F 5)), .int (iZ (F 6)), .int (iZ (F 7)), .int (iZ (F 8)), .int (iZ (F 9)), .int (iZ (F 10)), .ref (af 11), .ref (af 12), .int (iZ (F 13)), .int (iZ (F 14)), .int (iZ (F 15)), .ref (af 16), .ref (af 17), .ref (af 18), .ref (af 19), .ref (af 20), .ref (af 21), .int (iZ (F 22)), .int (iZ (F 23)), .ref (af 24), .long (tr + kl19), .int (iZ (F 26)), .int (iZ (F 27)), .int (iZ (F 28))])), (af 1, .inl (Y 0, 200, .inl (aI (A 1)))), (af 11, .inl (Y 0, 7, .inl (aI (A 11)))), (af 12, .inl (Y 0, 36, .inl (aI (A 12)))), (af 16, .inl (Y 0, 7, .inl (aI (A 16)))), (af 17, .inl (Y 0, 36, .inl (aI (A 17)))), (af 18, .inl (Y 0, 41, .inl (aI (A 18)))), (af 19, .inl (Y 0, 72, .inl (aI (A 19)))), (af 20, .inl (Y 1, 2, .inl (aI (A 20)))), (af 21, .inl (Y 0, 360, .inl (aI (A 21)))), (af 24, .inl (Y 0, 10, .inl (aI (A 24))))]) (wc' := moW Y g9 af F A ((tr + kl19) + kC100 + 1)) (F := []) ⟨hx, hb, hml, hown, hts⟩ (c_X7_poplarOf l G Y g9 af F A (tr + kl19) hV hno b (by omega)) (cwV 1 hts gX7_rate_X7_poplarOf rfl rfl rfl (by decide +kernel) ⟨Nat.le_of_ble_eq_true rfl, Nat.le_of_ble_eq_true rfl⟩) hK hP hD hS 0 rfl rfl (Eq.refl [g9, af 1, af 11, af 12, af 16, af 17, af 18, af 19, af 20, af 21, af 24]) rfl hl.1 rfl (Nat.le_of_ble_eq_true rfl) dX7_rate_108 ⟨Nat.zero_le _, Nat.zero_le _⟩ (fun H locs hP hD hS => ?_)
        show W _ _ _ _ _ _ _ _ _ _ _ _ _ _ _ (F0 _ _ _ [.int (iZ ((A 17) (9 + Int.toNat b) - (A 17) (4 + Int.toNat b)))])
        replace hP : va_P G vwCl [(g9, .inr (7, [.int (iZ (F 0)), .ref (af 1), .int (iZ (F 2)), .int (iZ (F 3)), .int (iZ (F 4)), .int (iZ (F 5)), .int (iZ (F 6)), .int (iZ (F 7)), .int (iZ (F 8)), .int (iZ (F 9)), .int (iZ (F 10)), .ref (af 11), .ref (af 12), .int (iZ (F 13)), .int (iZ (F 14)), .int (iZ (F 15)), .ref (af 16), .ref (af 17), .ref (af 18), .ref (af 19), .ref (af 20), .ref (af 21), .int (iZ (F 22)), .int (iZ (F 23)), .ref (af 24), .long ((tr + kl19) + kC100 + 1), .int (iZ (F 26)), .int (iZ (F 27)), .int (iZ (F 28))])), (af 1, .inl (Y 0, 200, .inl (aI (A 1)))), (af 11, .inl (Y 0, 7, .inl (aI (A 11)))), (af 12, .inl (Y 0, 36, .inl (aI (A 12)))), (af 16, .inl (Y 0, 7, .inl (aI (A 16)))), (af 17, .inl (Y 0, 36, .inl (aI (A 17)))), (af 18, .inl (Y 0, 41, .inl (aI (A 18)))), (af 19, .inl (Y 0, 72, .inl (aI (A 19)))), (af 20, .inl (Y 1, 2, .inl (aI (A 20)))), (af 21, .inl (Y 0, 360, .inl (aI (A 21)))), (af 24, .inl (Y 0, 10, .inl (aI (A 24))))] H := hP
        replace hD : va_D _ [(g9, .inr (7, [.int (iZ (F 0)), .ref (af 1), .int (iZ (F 2)), .int (iZ (F 3)), .int (iZ (F 4)), .int (iZ (F 5)), .int (iZ (F 6)), .int (iZ (F 7)), .int (iZ (F 8)), .int (iZ (F 9)), .int (iZ (F 10)), .ref (af 11), .ref (af 12), .int (iZ (F 13)), .int (iZ (F 14)), .int (iZ (F 15)), .ref (af 16), .ref (af 17), .ref (af 18), .ref (af 19), .ref (af 20), .ref (af 21), .int (iZ (F 22)), .int (iZ (F 23)), .ref (af 24), .long ((tr + kl19) + kC100 + 1), .int (iZ (F 26)), .int (iZ (F 27)), .int (iZ (F 28))])), (af 1, .inl (Y 0, 200, .inl (aI (A 1)))), (af 11, .inl (Y 0, 7, .inl (aI (A 11)))), (af 12, .inl (Y 0, 36, .inl (aI (A 12)))), (af 16, .inl (Y 0, 7, .inl (aI (A 16)))), (af 17, .inl (Y 0, 36, .inl (aI (A 17)))), (af 18, .inl (Y 0, 41, .inl (aI (A 18)))), (af 19, .inl (Y 0, 72, .inl (aI (A 19)))), (af 20, .inl (Y 1, 2, .inl (aI (A 20)))), (af 21, .inl (Y 0, 360, .inl (aI (A 21)))), (af 24, .inl (Y 0, 10, .inl (aI (A 24))))] := hD
        have hb_20 := hV.2.2.2.2.1 (Int.toNat b) (by omega)
        have hb_21 := wu_in hV.1 b
        refine lv_iload_n hx hb dX7_rate_111 rfl (lv_at hl 2 rfl) ?_
        refine z_iadd hx hb dX7_rate_112 ?_
        refine z_top (show (((A 17) (9 + Int.toNat b) - (A 17) (4 + Int.toNat b)) + b) = rRate (kF F A (A 17)) a b from ?_) ?_
        · unfold rRate; rw [if_pos (by omega), show a = 4 by omega]; unfold raR; rw [if_neg (by decide), if_neg (by decide), if_neg (by decide), if_neg (by decide), if_pos rfl, kF_2 (t := b.toNat) (by omega), kF_1 (t := b.toNat) (by omega), show ((b.toNat : Nat) : Int) = b by omega]
        replace ekl19 : kl19 = kC10000 := ekl19
        subst ekl19
        have ef : tRate tr (kF F A (A 17)) a b = raT tr a := by unfold tRate; rw [decide_eq_true (show 0 ≤ b ∧ b ≤ kF F A (A 17) 0 2 - 1 by omega)]; rfl
        have hP9 : va_P G vwCl (moW Y g9 af (F) (A) (tRate tr (kF F A (A 17)) a b)) H := by rw [ef, raT_4 (show a = 4 by omega)]; exact hP.sub [0, 1, 2, 3, 4, 5, 6, 7, 8, 9, 10] rfl
        exact W.iret (v := iZ (rRate (kF F A (A 17)) a b)) hx hb hr (fun t9 ht9 _ => ⟨rfl, by rw [ht9]; exact hP9, hS.F ht9⟩) hS.2.2 dX7_rate_113
    · skip
      have c_2 := of_decide_eq_false c_2
      refine lv_ldc (v := iZ (-1000000)) hx hb hown (hts (.constant RX7 204 (-1000000)) (by decide +kernel)) dX7_rate_17 ?_
      refine z_top (show (-1000000) = rRate (kF F A (A 17)) a b from ?_) ?_
      · unfold rRate; by_cases hq : 0 ≤ b ∧ b ≤ kF F A (A 17) 0 2 - 1; (rw [if_pos hq]; unfold raR; rw [if_neg (by omega), if_neg (by omega), if_neg (by omega), if_neg (by omega), if_neg (by omega), if_neg (by omega)]); (rw [if_neg hq])
      have ef : tRate tr (kF F A (A 17)) a b = tr := by unfold tRate; by_cases hq : 0 ≤ b ∧ b ≤ kF F A (A 17) 0 2 - 1; (rw [decide_eq_true hq]; exact raT_6 (by omega)); (rw [decide_eq_false hq]; rfl)
      have hP9 : va_P G vwCl (moW Y g9 af (F) (A) (tRate tr (kF F A (A 17)) a b)) H := by rw [ef]; exact hP.sub [0, 1, 2, 3, 4, 5, 6, 7, 8, 9, 10] rfl
      exact W.iret (v := iZ (rRate (kF F A (A 17)) a b)) hx hb hr (fun t9 ht9 _ => ⟨rfl, by rw [ht9]; exact hP9, hS.F ht9⟩) hS.2.2 dX7_rate_19
