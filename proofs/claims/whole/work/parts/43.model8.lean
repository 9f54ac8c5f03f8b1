set_option maxHeartbeats 4000000 in
set_option maxRecDepth 100000 in
theorem c_X7_suns (l : Launch) (G : va_G) (Y : Nat → ClassId) (g9 : Nat) (af : Nat → Nat) (F : Nat → Int) (A : Kom) (tr : Int64) (hV : mV F A (A 17)) (hno : F 26 < 0) (a : Int) (r : zR a) : Met l yX7_suns wsX7_suns ({ frames := 5, cells := 0, slots := 0, locals := 123 }) (mP G Y [.ref g9, .int (iZ a)] (moW Y g9 af F A tr)) (eQ G (moW Y g9 af F A tr) (some (.int (iZ (rSuns (kF F A (A 17)) a)))) (fun u => moW Y g9 af F (va_up A 18 (u 0)) tr)) 0 0 (fun q => q ∈ List.map Prod.fst (moW Y g9 af F A tr)) := by
  refine Met.ofW (cc := cX7_suns) (maxL := 4) (ret := (some .int)) (by decide) rfl ?_
  intro p e s m args below meth c s₁ B hml hv
  obtain ⟨rfl, hK, hP, hD0⟩ := hv
  have hx := B.exec
  have hb := B.bytes
  have hr := B.returns
  have hts := atoms_spec (ws := wsX7_suns) B.pre
  have hown : s.vm.findClass RX7 = some m.cls := findClass_of_methodNamed B.named
  have hlocks := B.notSynchronized
  have hFX7 : ∀ w ∈ wsX70, w ∈ wsX7_suns := by decide +kernel
  have kf29 := (hts (.fieldLink RX7 29 "ShadeVotesModel" "now" "[I") (by decide +kernel))
  have kf32 := (hts (.fieldLink RX7 32 "ShadeVotesModel" "tried" "[I") (by decide +kernel))
  have hD := va_D_self hD0
  have hS : va_S (fun q => q ∈ List.map Prod.fst (moW Y g9 af F A tr)) s.heap s.heap [] := va_S.rf
  obtain ⟨H, hHe⟩ : ∃ H, H = s.heap := ⟨_, rfl⟩
  rw [← hHe] at hP
  replace hS : va_S (fun q => q ∈ List.map Prod.fst (moW Y g9 af F A tr)) s.heap H [] := by rw [hHe]; exact hS
  have hl := lv_entry ([.ref g9, .int (iZ a)]) (n := 4) (Nat.le_of_ble_eq_true rfl)
  rw [lg_entry_eq]
  generalize (lg_sl ([.ref g9, .int (iZ a)]) ++ List.replicate (4 - (lg_sl ([.ref g9, .int (iZ a)])).length) Slot.unset).toArray = ls at hl ⊢
  replace hl : lv_has ls 4 [(0, .ref g9), (1, .int (iZ a))] := hl
  obtain ⟨locs, hLe⟩ : ∃ locs : List Loc, locs = [] := ⟨_, rfl⟩
  rw [← hLe] at hS ⊢
  have hW0 : ∀ {Q : State → Prop} {g : JFrame}, W p l e ({ frames := 5, cells := 0, slots := 0, locals := 123 }) s m [.ref g9, .int (iZ a)].toArray below meth c H locs 0 0 Q g → W p l e ({ frames := 5, cells := 0, slots := 0, locals := 123 }) s m [.ref g9, .int (iZ a)].toArray below meth c s.heap locs 0 0 Q g := fun h => by rw [← hHe]; exact h
  refine hW0 ?_
  clear hW0 hHe hLe
  have v3 := hV.2.2.1
  have v7 := hV.2.2.2.2.2.2.1
  have v8 := hV.2.2.2.2.2.2.2.1
  have v5 := hV.2.1
  have v4 := hV.2.2.2.1
  have k00 : kF F A (A 17) 0 0 = F 13 := rfl
  have k01 : kF F A (A 17) 0 1 = F 14 := rfl
  have k02 : kF F A (A 17) 0 2 = A 17 3 := rfl
  have k03 : kF F A (A 17) 0 3 = F 15 := rfl
  have k04 : kF F A (A 17) 0 4 = A 17 1 := rfl
  have k05 : kF F A (A 17) 0 5 = A 17 0 := rfl
  have k06 : kF F A (A 17) 0 6 = A 17 2 := rfl
  have kpr : kF F A (A 17) 0 0 * kF F A (A 17) 0 1 = F 13 * F 14 := rfl
  have hW := hV.1
  have hp2 := p2_in (F 15).toNat (by omega)
  refine lv_iload_n hx hb dX7_suns_0 rfl (lv_at hl 1 rfl) ?_
  refine z_iconst hx hb dX7_suns_1 ?_
  refine z_iconst hx hb dX7_suns_2 ?_
  refine ro_S (As := [.int (iZ a), .int (iZ 0), .int (iZ 2)]) (rest := []) ⟨hx, hb, hml, hown, hts⟩ (c_X7_in l G Y a 0 2 (by omega)) (cwS 3 hts gX7_suns_X7_in rfl rfl rfl (by decide +kernel) ⟨Nat.le_of_ble_eq_true rfl, Nat.le_of_ble_eq_true rfl⟩) hK (hP.sub (ws' := []) [] rfl) rfl hl.1 rfl (Nat.le_of_ble_eq_true rfl) dX7_suns_3 ⟨Nat.zero_le _, Nat.zero_le _⟩ ?_
  refine z_ifb_ne (tgt := 11) hx hb dX7_suns_6 (by decide) (fun c_1 => ?_) (fun c_1 => ?_)
  · skip
    have c_1 := of_decide_eq_true c_1
    refine z_iconst hx hb dX7_suns_11 ?_
    refine lv_istore_n (lv' := [(2, .int (iZ 0)), (0, .ref g9), (1, .int (iZ a))]) hx hb dX7_suns_12 rfl hl (by decide) rfl (fun ls hl => ?_)
    refine z_iconst hx hb dX7_suns_13 ?_
    refine lv_istore_n (lv' := [(3, .int (iZ 1)), (2, .int (iZ 0)), (0, .ref g9), (1, .int (iZ a))]) hx hb dX7_suns_14 rfl hl (by decide) rfl (fun ls hl => ?_)
    obtain ⟨i, q, fh, hI, hl1, hP1, hD1⟩ : ∃ (i : Nat) (q : Nat) (fh : Nat → Int), (i ≤ 9 ∧ q = snN (snG (kF F A (A 17)) a.toNat) i) ∧ lv_has ls 4 [(3, .int (iZ ((i + 1 : Nat) : Int))), (2, .int (iZ ((q : Nat) : Int))), (0, .ref g9), (1, .int (iZ a))] ∧ va_P G vwCl [(g9, .inr (7, [.int (iZ (F 0)), .ref (af 1), .int (iZ (F 2)), .int (iZ (F 3)), .int (iZ (F 4)), .int (iZ (F 5)), .int (iZ (F 6)), .int (iZ (F 7)), .int (iZ (F 8)), .int (iZ (F 9)), .int (iZ (F 10)), .ref (af 11), .ref (af 12), .int (iZ (F 13)), .int (iZ (F 14)), .int (iZ (F 15)), .ref (af 16), .ref (af 17), .ref (af 18), .ref (af 19), .ref (af 20), .ref (af 21), .int (iZ (F 22)), .int (iZ (F 23)), .ref (af 24), .long tr, .int (iZ (F 26)), .int (iZ (F 27)), .int (iZ (F 28))])), (af 1, .inl (Y 0, 200, .inl (aI (A 1)))), (af 11, .inl (Y 0, 7, .inl (aI (A 11)))), (af 12, .inl (Y 0, 36, .inl (aI (A 12)))), (af 16, .inl (Y 0, 7, .inl (aI (A 16)))), (af 17, .inl (Y 0, 36, .inl (aI (A 17)))), (af 18, .inl (Y 0, 41, .inl (aI fh))), (af 19, .inl (Y 0, 72, .inl (aI (A 19)))), (af 20, .inl (Y 1, 2, .inl (aI (A 20)))), (af 21, .inl (Y 0, 360, .inl (aI (A 21)))), (af 24, .inl (Y 0, 10, .inl (aI (A 24))))] H ∧ va_D (fun q => q ∈ List.map Prod.fst (moW Y g9 af F A tr)) [(g9, .inr (7, [.int (iZ (F 0)), .ref (af 1), .int (iZ (F 2)), .int (iZ (F 3)), .int (iZ (F 4)), .int (iZ (F 5)), .int (iZ (F 6)), .int (iZ (F 7)), .int (iZ (F 8)), .int (iZ (F 9)), .int (iZ (F 10)), .ref (af 11), .ref (af 12), .int (iZ (F 13)), .int (iZ (F 14)), .int (iZ (F 15)), .ref (af 16), .ref (af 17), .ref (af 18), .ref (af 19), .ref (af 20), .ref (af 21), .int (iZ (F 22)), .int (iZ (F 23)), .ref (af 24), .long tr, .int (iZ (F 26)), .int (iZ (F 27)), .int (iZ (F 28))])), (af 1, .inl (Y 0, 200, .inl (aI (A 1)))), (af 11, .inl (Y 0, 7, .inl (aI (A 11)))), (af 12, .inl (Y 0, 36, .inl (aI (A 12)))), (af 16, .inl (Y 0, 7, .inl (aI (A 16)))), (af 17, .inl (Y 0, 36, .inl (aI (A 17)))), (af 18, .inl (Y 0, 41, .inl (aI fh))), (af 19, .inl (Y 0, 72, .inl (aI (A 19)))), (af 20, .inl (Y 1, 2, .inl (aI (A 20)))), (af 21, .inl (Y 0, 360, .inl (aI (A 21)))), (af 24, .inl (Y 0, 10, .inl (aI (A 24))))] := ⟨0, 0, A 18, by exact ⟨by omega, rfl⟩, lv_sub hl [0, 1, 2, 3] rfl, hP, hD⟩
    clear hl hP hD
    have hl := hl1
    clear hl1
    have hP := hP1
    have hD := hD1
    clear hP1 hD1
    obtain ⟨n_, hn_⟩ : ∃ n_ : Nat, 9 - i < n_ := ⟨_, Nat.lt_succ_self _⟩
    induction n_ generalizing i q fh ls H locs with
    | zero => exact absurd hn_ (Nat.not_lt_zero _)
    | succ n_ ih2 =>
      refine lv_iload_n hx hb dX7_suns_15 rfl (lv_at hl 0 rfl) ?_
      refine z_bipush hx hb dX7_suns_16 (by decide) ?_
      refine z_icmp_gt (tgt := 75) hx hb dX7_suns_18 (by decide) (by omega) (fun c_3 => ?_) (fun c_3 => ?_)
      · skip
        refine lv_iload_n hx hb dX7_suns_75 rfl (lv_at hl 1 rfl) ?_
        refine z_top (show ((q : Nat) : Int) = rSuns (kF F A (A 17)) a from ?_) ?_
        · unfold rSuns; rw [if_pos (by omega), hI.2, show i = 9 by omega]
        have hP9 : va_P G vwCl (moW Y g9 af F (va_up A 18 fh) tr) H := hP.sub [0, 1, 2, 3, 4, 5, 6, 7, 8, 9, 10] rfl
        exact W.iret (v := iZ (rSuns (kF F A (A 17)) a)) hx hb hr (fun t9 ht9 _ => ⟨rfl, ⟨(fun _ => fh), by rw [ht9]; exact hP9⟩, hS.F ht9⟩) hS.2.2 dX7_suns_76
      · skip
        refine lv_aload_n hx hb dX7_suns_21 rfl (lv_at hl 2 rfl) ?_
        refine va_get (D := G) (ci := 7) (v := .ref (af 17)) (C := RX7) (T := TX7) (N := 29) hx hb hts hFX7 hown hK.1 hP 0 rfl rfl 17 (by decide) kf29 (fun _ h9 => h9) rfl dX7_suns_22 ?_
        refine z_iconst hx hb dX7_suns_25 ?_
        refine lv_aload_n hx hb dX7_suns_26 rfl (lv_at hl 2 rfl) ?_
        refine va_get (D := G) (ci := 7) (v := .ref (af 18)) (C := RX7) (T := TX7) (N := 29) hx hb hts hFX7 hown hK.1 hP 0 rfl rfl 18 (by decide) kf32 (fun _ h9 => h9) rfl dX7_suns_27 ?_
        refine z_iconst hx hb dX7_suns_30 ?_
        have hP := hP.sub (ws' := [(af 17, .inl (Y 0, 36, .inl (aI (A 17)))), (af 18, .inl (Y 0, 41, .inl (aI fh)))] ++ [(g9, .inr (7, [.int (iZ (F 0)), .ref (af 1), .int (iZ (F 2)), .int (iZ (F 3)), .int (iZ (F 4)), .int (iZ (F 5)), .int (iZ (F 6)), .int (iZ (F 7)), .int (iZ (F 8)), .int (iZ (F 9)), .int (iZ (F 10)), .ref (af 11), .ref (af 12), .int (iZ (F 13)), .int (iZ (F 14)), .int (iZ (F 15)), .ref (af 16), .ref (af 17), .ref (af 18), .ref (af 19), .ref (af 20), .ref (af 21), .int (iZ (F 22)), .int (iZ (F 23)), .ref (af 24), .long tr, .int (iZ (F 26)), .int (iZ (F 27)), .int (iZ (F 28))])), (af 1, .inl (Y 0, 200, .inl (aI (A 1)))), (af 11, .inl (Y 0, 7, .inl (aI (A 11)))), (af 12, .inl (Y 0, 36, .inl (aI (A 12)))), (af 16, .inl (Y 0, 7, .inl (aI (A 16)))), (af 19, .inl (Y 0, 72, .inl (aI (A 19)))), (af 20, .inl (Y 1, 2, .inl (aI (A 20)))), (af 21, .inl (Y 0, 360, .inl (aI (A 21)))), (af 24, .inl (Y 0, 10, .inl (aI (A 24))))]) [5, 6, 0, 1, 2, 3, 4, 7, 8, 9, 10] rfl
        have hD := hD.sub (ws' := [(af 17, .inl (Y 0, 36, .inl (aI (A 17)))), (af 18, .inl (Y 0, 41, .inl (aI fh)))] ++ [(g9, .inr (7, [.int (iZ (F 0)), .ref (af 1), .int (iZ (F 2)), .int (iZ (F 3)), .int (iZ (F 4)), .int (iZ (F 5)), .int (iZ (F 6)), .int (iZ (F 7)), .int (iZ (F 8)), .int (iZ (F 9)), .int (iZ (F 10)), .ref (af 11), .ref (af 12), .int (iZ (F 13)), .int (iZ (F 14)), .int (iZ (F 15)), .ref (af 16), .ref (af 17), .ref (af 18), .ref (af 19), .ref (af 20), .ref (af 21), .int (iZ (F 22)), .int (iZ (F 23)), .ref (af 24), .long tr, .int (iZ (F 26)), .int (iZ (F 27)), .int (iZ (F 28))])), (af 1, .inl (Y 0, 200, .inl (aI (A 1)))), (af 11, .inl (Y 0, 7, .inl (aI (A 11)))), (af 12, .inl (Y 0, 36, .inl (aI (A 12)))), (af 16, .inl (Y 0, 7, .inl (aI (A 16)))), (af 19, .inl (Y 0, 72, .inl (aI (A 19)))), (af 20, .inl (Y 1, 2, .inl (aI (A 20)))), (af 21, .inl (Y 0, 360, .inl (aI (A 21)))), (af 24, .inl (Y 0, 10, .inl (aI (A 24))))]) [5, 6, 0, 1, 2, 3, 4, 7, 8, 9, 10] (by decide) rfl
        refine mu_S (As := [.ref (af 17), .int (iZ 0), .ref (af 18), .int (iZ 0)]) (rest := []) (wc := [(af 17, .inl (Y 0, 36, .inl (aI (A 17)))), (af 18, .inl (Y 0, 41, .inl (aI fh)))]) (wc' := cpW Y (af 17) (af 18) 36 41 (A 17) (va_cpy (A 17) fh (Int.toNat 0) (Int.toNat 0) 36)) (F := [(g9, .inr (7, [.int (iZ (F 0)), .ref (af 1), .int (iZ (F 2)), .int (iZ (F 3)), .int (iZ (F 4)), .int (iZ (F 5)), .int (iZ (F 6)), .int (iZ (F 7)), .int (iZ (F 8)), .int (iZ (F 9)), .int (iZ (F 10)), .ref (af 11), .ref (af 12), .int (iZ (F 13)), .int (iZ (F 14)), .int (iZ (F 15)), .ref (af 16), .ref (af 17), .ref (af 18), .ref (af 19), .ref (af 20), .ref (af 21), .int (iZ (F 22)), .int (iZ (F 23)), .ref (af 24), .long tr, .int (iZ (F 26)), .int (iZ (F 27)), .int (iZ (F 28))])), (af 1, .inl (Y 0, 200, .inl (aI (A 1)))), (af 11, .inl (Y 0, 7, .inl (aI (A 11)))), (af 12, .inl (Y 0, 36, .inl (aI (A 12)))), (af 16, .inl (Y 0, 7, .inl (aI (A 16)))), (af 19, .inl (Y 0, 72, .inl (aI (A 19)))), (af 20, .inl (Y 1, 2, .inl (aI (A 20)))), (af 21, .inl (Y 0, 360, .inl (aI (A 21)))), (af 24, .inl (Y 0, 10, .inl (aI (A 24))))]) ⟨hx, hb, hml, hown, hts⟩ (c_X7_copy l G Y (af 17) (af 18) 36 41 (A 17) fh 0 0 (by omega)) (cwS 4 hts gX7_suns_X7_copy rfl rfl rfl (by decide +kernel) ⟨Nat.le_of_ble_eq_true rfl, Nat.le_of_ble_eq_true rfl⟩) hK hP hD hS (Eq.refl [af 17, af 18]) rfl hl.1 rfl (Nat.le_of_ble_eq_true rfl) dX7_suns_31 ⟨Nat.zero_le _, Nat.zero_le _⟩ (fun H locs hP hD hS => ?_)
        show W _ _ _ _ _ _ _ _ _ _ _ _ _ _ _ (F0 _ _ _ [])
        replace hP : va_P G vwCl [(af 17, .inl (Y 0, 36, .inl (aI (A 17)))), (af 18, .inl (Y 0, 41, .inl (aI (va_cpy (A 17) fh (Int.toNat 0) (Int.toNat 0) 36)))), (g9, .inr (7, [.int (iZ (F 0)), .ref (af 1), .int (iZ (F 2)), .int (iZ (F 3)), .int (iZ (F 4)), .int (iZ (F 5)), .int (iZ (F 6)), .int (iZ (F 7)), .int (iZ (F 8)), .int (iZ (F 9)), .int (iZ (F 10)), .ref (af 11), .ref (af 12), .int (iZ (F 13)), .int (iZ (F 14)), .int (iZ (F 15)), .ref (af 16), .ref (af 17), .ref (af 18), .ref (af 19), .ref (af 20), .ref (af 21), .int (iZ (F 22)), .int (iZ (F 23)), .ref (af 24), .long tr, .int (iZ (F 26)), .int (iZ (F 27)), .int (iZ (F 28))])), (af 1, .inl (Y 0, 200, .inl (aI (A 1)))), (af 11, .inl (Y 0, 7, .inl (aI (A 11)))), (af 12, .inl (Y 0, 36, .inl (aI (A 12)))), (af 16, .inl (Y 0, 7, .inl (aI (A 16)))), (af 19, .inl (Y 0, 72, .inl (aI (A 19)))), (af 20, .inl (Y 1, 2, .inl (aI (A 20)))), (af 21, .inl (Y 0, 360, .inl (aI (A 21)))), (af 24, .inl (Y 0, 10, .inl (aI (A 24))))] H := hP
        replace hD : va_D _ [(af 17, .inl (Y 0, 36, .inl (aI (A 17)))), (af 18, .inl (Y 0, 41, .inl (aI (va_cpy (A 17) fh (Int.toNat 0) (Int.toNat 0) 36)))), (g9, .inr (7, [.int (iZ (F 0)), .ref (af 1), .int (iZ (F 2)), .int (iZ (F 3)), .int (iZ (F 4)), .int (iZ (F 5)), .int (iZ (F 6)), .int (iZ (F 7)), .int (iZ (F 8)), .int (iZ (F 9)), .int (iZ (F 10)), .ref (af 11), .ref (af 12), .int (iZ (F 13)), .int (iZ (F 14)), .int (iZ (F 15)), .ref (af 16), .ref (af 17), .ref (af 18), .ref (af 19), .ref (af 20), .ref (af 21), .int (iZ (F 22)), .int (iZ (F 23)), .ref (af 24), .long tr, .int (iZ (F 26)), .int (iZ (F 27)), .int (iZ (F 28))])), (af 1, .inl (Y 0, 200, .inl (aI (A 1)))), (af 11, .inl (Y 0, 7, .inl (aI (A 11)))), (af 12, .inl (Y 0, 36, .inl (aI (A 12)))), (af 16, .inl (Y 0, 7, .inl (aI (A 16)))), (af 19, .inl (Y 0, 72, .inl (aI (A 19)))), (af 20, .inl (Y 1, 2, .inl (aI (A 20)))), (af 21, .inl (Y 0, 360, .inl (aI (A 21)))), (af 24, .inl (Y 0, 10, .inl (aI (A 24))))] := hD
        refine lv_aload_n hx hb dX7_suns_34 rfl (lv_at hl 2 rfl) ?_
        refine va_get (D := G) (ci := 7) (v := .ref (af 18)) (C := RX7) (T := TX7) (N := 29) hx hb hts hFX7 hown hK.1 hP 2 rfl rfl 18 (by decide) kf32 (fun _ h9 => h9) rfl dX7_suns_35 ?_
        refine z_iconst hx hb dX7_suns_38 ?_
        refine lv_iload_n hx hb dX7_suns_39 rfl (lv_at hl 0 rfl) ?_
        refine z_iast hx hb hK.1 hP hD hS 1 0 rfl rfl 1 (by omega) (by decide) dX7_suns_40 (fun H locs hP hD hS => ?_)
        replace hP : va_P G vwCl [(af 17, .inl (Y 0, 36, .inl (aI (A 17)))), (af 18, .inl (Y 0, 41, .inl (aI (va_up (va_cpy (A 17) fh (Int.toNat 0) (Int.toNat 0) 36) 1 ((i + 1 : Nat) : Int))))), (g9, .inr (7, [.int (iZ (F 0)), .ref (af 1), .int (iZ (F 2)), .int (iZ (F 3)), .int (iZ (F 4)), .int (iZ (F 5)), .int (iZ (F 6)), .int (iZ (F 7)), .int (iZ (F 8)), .int (iZ (F 9)), .int (iZ (F 10)), .ref (af 11), .ref (af 12), .int (iZ (F 13)), .int (iZ (F 14)), .int (iZ (F 15)), .ref (af 16), .ref (af 17), .ref (af 18), .ref (af 19), .ref (af 20), .ref (af 21), .int (iZ (F 22)), .int (iZ (F 23)), .ref (af 24), .long tr, .int (iZ (F 26)), .int (iZ (F 27)), .int (iZ (F 28))])), (af 1, .inl (Y 0, 200, .inl (aI (A 1)))), (af 11, .inl (Y 0, 7, .inl (aI (A 11)))), (af 12, .inl (Y 0, 36, .inl (aI (A 12)))), (af 16, .inl (Y 0, 7, .inl (aI (A 16)))), (af 19, .inl (Y 0, 72, .inl (aI (A 19)))), (af 20, .inl (Y 1, 2, .inl (aI (A 20)))), (af 21, .inl (Y 0, 360, .inl (aI (A 21)))), (af 24, .inl (Y 0, 10, .inl (aI (A 24))))] H := hP
        replace hD : va_D _ [(af 17, .inl (Y 0, 36, .inl (aI (A 17)))), (af 18, .inl (Y 0, 41, .inl (aI (va_up (va_cpy (A 17) fh (Int.toNat 0) (Int.toNat 0) 36) 1 ((i + 1 : Nat) : Int))))), (g9, .inr (7, [.int (iZ (F 0)), .ref (af 1), .int (iZ (F 2)), .int (iZ (F 3)), .int (iZ (F 4)), .int (iZ (F 5)), .int (iZ (F 6)), .int (iZ (F 7)), .int (iZ (F 8)), .int (iZ (F 9)), .int (iZ (F 10)), .ref (af 11), .ref (af 12), .int (iZ (F 13)), .int (iZ (F 14)), .int (iZ (F 15)), .ref (af 16), .ref (af 17), .ref (af 18), .ref (af 19), .ref (af 20), .ref (af 21), .int (iZ (F 22)), .int (iZ (F 23)), .ref (af 24), .long tr, .int (iZ (F 26)), .int (iZ (F 27)), .int (iZ (F 28))])), (af 1, .inl (Y 0, 200, .inl (aI (A 1)))), (af 11, .inl (Y 0, 7, .inl (aI (A 11)))), (af 12, .inl (Y 0, 36, .inl (aI (A 12)))), (af 16, .inl (Y 0, 7, .inl (aI (A 16)))), (af 19, .inl (Y 0, 72, .inl (aI (A 19)))), (af 20, .inl (Y 1, 2, .inl (aI (A 20)))), (af 21, .inl (Y 0, 360, .inl (aI (A 21)))), (af 24, .inl (Y 0, 10, .inl (aI (A 24))))] := hD
        refine lv_iload_n hx hb dX7_suns_41 rfl (lv_at hl 1 rfl) ?_
        refine lv_aload_n hx hb dX7_suns_42 rfl (lv_at hl 2 rfl) ?_
        refine lv_aload_n hx hb dX7_suns_43 rfl (lv_at hl 2 rfl) ?_
        refine va_get (D := G) (ci := 7) (v := .ref (af 18)) (C := RX7) (T := TX7) (N := 29) hx hb hts hFX7 hown hK.1 hP 2 rfl rfl 18 (by decide) kf32 (fun _ h9 => h9) rfl dX7_suns_44 ?_
        refine lv_iload_n hx hb dX7_suns_47 rfl (lv_at hl 3 rfl) ?_
        refine lv_aload_n hx hb dX7_suns_48 rfl (lv_at hl 2 rfl) ?_
        refine ro_V (As := []) (rest := [.int (iZ a), .ref (af 18), .ref g9, .int (iZ ((q : Nat) : Int))]) ⟨hx, hb, hml, hown, hts⟩ (c_X7_everybody l G Y g9 af F (arrs (A 1) (A 11) (A 12) (A 16) (A 17) (va_up (va_cpy (A 17) fh (Int.toNat 0) (Int.toNat 0) 36) 1 ((i + 1 : Nat) : Int)) (A 19) (A 20) (A 21) (A 24)) tr (by omega)) (cwV 0 hts gX7_suns_X7_everybody rfl rfl rfl (by decide +kernel) ⟨Nat.le_of_ble_eq_true rfl, Nat.le_of_ble_eq_true rfl⟩) hK (hP.sub (ws' := moW Y g9 af F (arrs (A 1) (A 11) (A 12) (A 16) (A 17) (va_up (va_cpy (A 17) fh (Int.toNat 0) (Int.toNat 0) 36) 1 ((i + 1 : Nat) : Int)) (A 19) (A 20) (A 21) (A 24)) tr) [2, 3, 4, 5, 6, 0, 1, 7, 8, 9, 10] rfl) 0 rfl rfl rfl hl.1 rfl (Nat.le_of_ble_eq_true rfl) dX7_suns_49 ⟨Nat.zero_le _, Nat.zero_le _⟩ ?_
        refine ro_V (As := [.ref (af 18), .int (iZ a), .int (iZ ((2 ^ (F 15).toNat - 1 : Nat) : Int))]) (rest := [.int (iZ ((q : Nat) : Int))]) ⟨hx, hb, hml, hown, hts⟩ (c_X7_balance l G Y g9 af F (arrs (A 1) (A 11) (A 12) (A 16) (A 17) (va_up (va_cpy (A 17) fh (Int.toNat 0) (Int.toNat 0) 36) 1 ((i + 1 : Nat) : Int)) (A 19) (A 20) (A 21) (A 24)) tr (af 18) 6 41 (va_up (va_cpy (A 17) fh (Int.toNat 0) (Int.toNat 0) 36) 1 ((i + 1 : Nat) : Int)) rfl (by decide) (mV_A (A := A) (S := va_up (va_cpy (A 17) fh (Int.toNat 0) (Int.toNat 0) 36) 1 ((i + 1 : Nat) : Int)) (B := (arrs (A 1) (A 11) (A 12) (A 16) (A 17) (va_up (va_cpy (A 17) fh (Int.toNat 0) (Int.toNat 0) 36) 1 ((i + 1 : Nat) : Int)) (A 19) (A 20) (A 21) (A 24))) (suS_V hV (by omega) hno) rfl) a (2 ^ (F 15).toNat - 1) (by omega)) (cwV 3 hts gX7_suns_X7_balance rfl rfl rfl (by decide +kernel) ⟨Nat.le_of_ble_eq_true rfl, Nat.le_of_ble_eq_true rfl⟩) hK (hP.sub (ws' := moW Y g9 af F (arrs (A 1) (A 11) (A 12) (A 16) (A 17) (va_up (va_cpy (A 17) fh (Int.toNat 0) (Int.toNat 0) 36) 1 ((i + 1 : Nat) : Int)) (A 19) (A 20) (A 21) (A 24)) tr) [2, 3, 4, 5, 6, 0, 1, 7, 8, 9, 10] rfl) 0 rfl rfl rfl hl.1 rfl (Nat.le_of_ble_eq_true rfl) dX7_suns_52 ⟨Nat.zero_le _, Nat.zero_le _⟩ ?_
        rw [kM_no hno]
        have hb_4 := blN_in (kM_WF (mV_A (A := A) (S := va_up (va_cpy (A 17) fh (Int.toNat 0) (Int.toNat 0) 36) 1 ((i + 1 : Nat) : Int)) (B := (arrs (A 1) (A 11) (A 12) (A 16) (A 17) (va_up (va_cpy (A 17) fh (Int.toNat 0) (Int.toNat 0) 36) 1 ((i + 1 : Nat) : Int)) (A 19) (A 20) (A 21) (A 24))) (suS_V hV (by omega) hno) rfl)) (a).toNat (2 ^ (F 15).toNat - 1) (F 15).toNat (by omega)
        rw [kM_no hno] at hb_4
        have hs9 : 0 < blN (kF F (arrs (A 1) (A 11) (A 12) (A 16) (A 17) (va_up (va_cpy (A 17) fh (Int.toNat 0) (Int.toNat 0) 36) 1 ((i + 1 : Nat) : Int)) (A 19) (A 20) (A 21) (A 24)) (va_up (va_cpy (A 17) fh (Int.toNat 0) (Int.toNat 0) 36) 1 ((i + 1 : Nat) : Int))) (a).toNat (2 ^ (F 15).toNat - 1) (F 15).toNat ↔ crd (kS (kF F A (A 17)) 0 4 ((i + 1 : Nat) : Int)) a.toNat = true := suS_b hV _
        refine z_if_le (tgt := 66) hx hb dX7_suns_55 (by decide) (by omega) (fun c_9 => ?_) (fun c_9 => ?_)
        · skip
          refine z_iconst hx hb dX7_suns_66 ?_
          refine z_ior (a := q) (b := 0) hx hb dX7_suns_67 rfl (by omega) ?_
          refine lv_istore_n (lv' := [(2, .int (iZ ((q ||| 0 : Nat) : Int))), (3, .int (iZ ((i + 1 : Nat) : Int))), (0, .ref g9), (1, .int (iZ a))]) hx hb dX7_suns_68 rfl hl (by decide) rfl (fun ls hl => ?_)
          refine lv_iinc (v := iZ ((i + 1 + 1 : Nat) : Int)) (lv' := [(3, .int (iZ ((i + 1 + 1 : Nat) : Int))), (2, .int (iZ ((q ||| 0 : Nat) : Int))), (0, .ref g9), (1, .int (iZ a))]) hx hb dX7_suns_69 hl (k := 1) rfl (iZ_inc _) (by decide) rfl (fun ls hl => ?_)
          refine lv_goto (tgt := 15) hx hb dX7_suns_72 (by decide) ?_
          exact ih2 (ls := ls) (i := i + 1) (q := q ||| 0) (fh := va_up (va_cpy (A 17) fh (Int.toNat 0) (Int.toNat 0) 36) 1 ((i + 1 : Nat) : Int)) (H := H) (locs := locs) (hS := hS) (hI := by refine ⟨by omega, ?_⟩; rw [snN, hI.2]; first | rw [if_pos (show snG (kF F A (A 17)) a.toNat (i + 1) = true from hs9.mp (by omega))] | rw [if_neg (show ¬ snG (kF F A (A 17)) a.toNat (i + 1) = true from fun h => absurd (hs9.mpr h) (by omega))]) (hl := lv_sub hl [0, 1, 2, 3] rfl) (hP := hP.sub [2, 3, 4, 5, 6, 0, 1, 7, 8, 9, 10] rfl) (hD := hD.sub [2, 3, 4, 5, 6, 0, 1, 7, 8, 9, 10] (by decide) rfl) (hn_ := by omega)
        · skip
          refine z_iconst hx hb dX7_suns_58 ?_
          refine lv_iload_n hx hb dX7_suns_59 rfl (lv_at hl 0 rfl) ?_
          refine z_iconst hx hb dX7_suns_60 ?_
          refine z_isub hx hb dX7_suns_61 ?_
          refine z_ishl1 (k := i) hx hb dX7_suns_62 (by omega) ?_
          refine lv_goto (tgt := 67) hx hb dX7_suns_63 (by decide) ?_
          refine z_ior (a := q) (b := (2 ^ i)) hx hb dX7_suns_67 rfl rfl ?_
          refine lv_istore_n (lv' := [(2, .int (iZ ((q ||| (2 ^ i) : Nat) : Int))), (3, .int (iZ ((i + 1 : Nat) : Int))), (0, .ref g9), (1, .int (iZ a))]) hx hb dX7_suns_68 rfl hl (by decide) rfl (fun ls hl => ?_)
          refine lv_iinc (v := iZ ((i + 1 + 1 : Nat) : Int)) (lv' := [(3, .int (iZ ((i + 1 + 1 : Nat) : Int))), (2, .int (iZ ((q ||| (2 ^ i) : Nat) : Int))), (0, .ref g9), (1, .int (iZ a))]) hx hb dX7_suns_69 hl (k := 1) rfl (iZ_inc _) (by decide) rfl (fun ls hl => ?_)
          refine lv_goto (tgt := 15) hx hb dX7_suns_72 (by decide) ?_
          exact ih2 (ls := ls) (i := i + 1) (q := q ||| (2 ^ i)) (fh := va_up (va_cpy (A 17) fh (Int.toNat 0) (Int.toNat 0) 36) 1 ((i + 1 : Nat) : Int)) (H := H) (locs := locs) (hS := hS) (hI := by refine ⟨by omega, ?_⟩; rw [snN, hI.2]; first | rw [if_pos (show snG (kF F A (A 17)) a.toNat (i + 1) = true from hs9.mp (by omega))] | rw [if_neg (show ¬ snG (kF F A (A 17)) a.toNat (i + 1) = true from fun h => absurd (hs9.mpr h) (by omega))]) (hl := lv_sub hl [0, 1, 2, 3] rfl) (hP := hP.sub [2, 3, 4, 5, 6, 0, 1, 7, 8, 9, 10] rfl) (hD := hD.sub [2, 3, 4, 5, 6, 0, 1, 7, 8, 9, 10] (by decide) rfl) (hn_ := by omega)
  · skip
    have c_1 := of_decide_eq_false c_1
    refine z_iconst hx hb dX7_suns_9 ?_
    refine z_top (show (-1) = rSuns (kF F A (A 17)) a from ?_) ?_
    · unfold rSuns; (repeat' split) <;> first | rfl | omega | (simp_all; done)
    have hP9 : va_P G vwCl (moW Y g9 af F (va_up A 18 (A 18)) tr) H := hP.sub [0, 1, 2, 3, 4, 5, 6, 7, 8, 9, 10] rfl
    exact W.iret (v := iZ (rSuns (kF F A (A 17)) a)) hx hb hr (fun t9 ht9 _ => ⟨rfl, ⟨(fun _ => A 18), by rw [ht9]; exact hP9⟩, hS.F ht9⟩) hS.2.2 dX7_suns_10

set_option maxHeartbeats 4000000 in
set_option maxRecDepth 100000 in
theorem c_X7_prune (l : Launch) (G : va_G) (Y : Nat → ClassId) (g9 : Nat) (af : Nat → Nat) (F : Nat → Int) (A : Kom) (tr : Int64) (hV : mV F A (A 17)) (hno : F 26 < 0) (a : Int) (r : zR a) : Met l yX7_prune wsX7_prune ({ frames := 5, cells := 0, slots := 0, locals := 123 }) (mP G Y [.ref g9, .int (iZ a)] (moW Y g9 af F A tr)) (eQ G (moW Y g9 af F A tr) (some (.int (iZ (rPrune (kF F A (A 17)) a)))) (fun u => moW Y g9 af F (va_up A 18 (u 0)) tr)) 0 0 (fun q => q ∈ List.map Prod.fst (moW Y g9 af F A tr)) := by
  refine Met.ofW (cc := cX7_prune) (maxL := 4) (ret := (some .int)) (by decide) rfl ?_
  intro p e s m args below meth c s₁ B hml hv
  obtain ⟨rfl, hK, hP, hD0⟩ := hv
  have hx := B.exec
  have hb := B.bytes
  have hr := B.returns
  have hts := atoms_spec (ws := wsX7_prune) B.pre
  have hown : s.vm.findClass RX7 = some m.cls := findClass_of_methodNamed B.named
  have hlocks := B.notSynchronized
  have hFX7 : ∀ w ∈ wsX70, w ∈ wsX7_prune := by decide +kernel
  have kf29 := (hts (.fieldLink RX7 29 "ShadeVotesModel" "now" "[I") (by decide +kernel))
  have kf32 := (hts (.fieldLink RX7 32 "ShadeVotesModel" "tried" "[I") (by decide +kernel))
  have hD := va_D_self hD0
  have hS : va_S (fun q => q ∈ List.map Prod.fst (moW Y g9 af F A tr)) s.heap s.heap [] := va_S.rf
  obtain ⟨H, hHe⟩ : ∃ H, H = s.heap := ⟨_, rfl⟩
  rw [← hHe] at hP
  replace hS : va_S (fun q => q ∈ List.map Prod.fst (moW Y g9 af F A tr)) s.heap H [] := by rw [hHe]; exact hS
  have hl := lv_entry ([.ref g9, .int (iZ a)]) (n := 4) (Nat.le_of_ble_eq_true rfl)
  rw [lg_entry_eq]
  generalize (lg_sl ([.ref g9, .int (iZ a)]) ++ List.replicate (4 - (lg_sl ([.ref g9, .int (iZ a)])).length) Slot.unset).toArray = ls at hl ⊢
  replace hl : lv_has ls 4 [(0, .ref g9), (1, .int (iZ a))] := hl
  obtain ⟨locs, hLe⟩ : ∃ locs : List Loc, locs = [] := ⟨_, rfl⟩
  rw [← hLe] at hS ⊢
  have hW0 : ∀ {Q : State → Prop} {g : JFrame}, W p l e ({ frames := 5, cells := 0, slots := 0, locals := 123 }) s m [.ref g9, .int (iZ a)].toArray below meth c H locs 0 0 Q g → W p l e ({ frames := 5, cells := 0, slots := 0, locals := 123 }) s m [.ref g9, .int (iZ a)].toArray below meth c s.heap locs 0 0 Q g := fun h => by rw [← hHe]; exact h
  refine hW0 ?_
  clear hW0 hHe hLe
  have v3 := hV.2.2.1
  have v7 := hV.2.2.2.2.2.2.1
  have v8 := hV.2.2.2.2.2.2.2.1
  have v5 := hV.2.1
  have v4 := hV.2.2.2.1
  have k00 : kF F A (A 17) 0 0 = F 13 := rfl
  have k01 : kF F A (A 17) 0 1 = F 14 := rfl
  have k02 : kF F A (A 17) 0 2 = A 17 3 := rfl
  have k03 : kF F A (A 17) 0 3 = F 15 := rfl
  have k04 : kF F A (A 17) 0 4 = A 17 1 := rfl
  have k05 : kF F A (A 17) 0 5 = A 17 0 := rfl
  have k06 : kF F A (A 17) 0 6 = A 17 2 := rfl
  have kpr : kF F A (A 17) 0 0 * kF F A (A 17) 0 1 = F 13 * F 14 := rfl
  have hW := hV.1
  have hp2 := p2_in (F 15).toNat (by omega)
  refine lv_iload_n hx hb dX7_prune_0 rfl (lv_at hl 1 rfl) ?_
  refine z_iconst hx hb dX7_prune_1 ?_
  refine z_iconst hx hb dX7_prune_2 ?_
  refine ro_S (As := [.int (iZ a), .int (iZ 0), .int (iZ 2)]) (rest := []) ⟨hx, hb, hml, hown, hts⟩ (c_X7_in l G Y a 0 2 (by omega)) (cwS 3 hts gX7_prune_X7_in rfl rfl rfl (by decide +kernel) ⟨Nat.le_of_ble_eq_true rfl, Nat.le_of_ble_eq_true rfl⟩) hK (hP.sub (ws' := []) [] rfl) rfl hl.1 rfl (Nat.le_of_ble_eq_true rfl) dX7_prune_3 ⟨Nat.zero_le _, Nat.zero_le _⟩ ?_
  refine z_ifb_ne (tgt := 11) hx hb dX7_prune_6 (by decide) (fun c_1 => ?_) (fun c_1 => ?_)
  · skip
    have c_1 := of_decide_eq_true c_1
    refine lv_aload_n hx hb dX7_prune_11 rfl (lv_at hl 0 rfl) ?_
    refine lv_aload_n hx hb dX7_prune_12 rfl (lv_at hl 0 rfl) ?_
    refine va_get (D := G) (ci := 7) (v := .ref (af 17)) (C := RX7) (T := TX7) (N := 29) hx hb hts hFX7 hown hK.1 hP 0 rfl rfl 17 (by decide) kf29 (fun _ h9 => h9) rfl dX7_prune_13 ?_
    refine lv_iload_n hx hb dX7_prune_16 rfl (lv_at hl 1 rfl) ?_
    refine lv_aload_n hx hb dX7_prune_17 rfl (lv_at hl 0 rfl) ?_
    refine ro_V (As := []) (rest := [.int (iZ a), .ref (af 17), .ref g9]) ⟨hx, hb, hml, hown, hts⟩ (c_X7_everybody l G Y g9 af F A tr (by omega)) (cwV 0 hts gX7_prune_X7_everybody rfl rfl rfl (by decide +kernel) ⟨Nat.le_of_ble_eq_true rfl, Nat.le_of_ble_eq_true rfl⟩) hK (hP.sub (ws' := moW Y g9 af F A tr) [0, 1, 2, 3, 4, 5, 6, 7, 8, 9, 10] rfl) 0 rfl rfl rfl hl.1 rfl (Nat.le_of_ble_eq_true rfl) dX7_prune_18 ⟨Nat.zero_le _, Nat.zero_le _⟩ ?_
    refine ro_V (As := [.ref (af 17), .int (iZ a), .int (iZ ((2 ^ (F 15).toNat - 1 : Nat) : Int))]) (rest := []) ⟨hx, hb, hml, hown, hts⟩ (c_X7_balance l G Y g9 af F A tr (af 17) 5 36 (A 17) rfl (by decide) hV a (2 ^ (F 15).toNat - 1) (by omega)) (cwV 3 hts gX7_prune_X7_balance rfl rfl rfl (by decide +kernel) ⟨Nat.le_of_ble_eq_true rfl, Nat.le_of_ble_eq_true rfl⟩) hK (hP.sub (ws' := moW Y g9 af F A tr) [0, 1, 2, 3, 4, 5, 6, 7, 8, 9, 10] rfl) 0 rfl rfl rfl hl.1 rfl (Nat.le_of_ble_eq_true rfl) dX7_prune_21 ⟨Nat.zero_le _, Nat.zero_le _⟩ ?_
    rw [kM_no hno]
    have hb_2 := blN_in (kM_WF hV) (a).toNat (2 ^ (F 15).toNat - 1) (F 15).toNat (by omega)
    rw [kM_no hno] at hb_2
    have hs9 : 0 < blN (kF F A (A 17)) (a).toNat (2 ^ (F 15).toNat - 1) (F 15).toNat ↔ crd (kF F A (A 17)) a.toNat = true := now_b _
    refine z_if_le (tgt := 29) hx hb dX7_prune_24 (by decide) (by omega) (fun c_7 => ?_) (fun c_7 => ?_)
    · skip
      have hcn : ¬ crd (kF F A (A 17)) a.toNat = true := fun h => absurd (hs9.mpr h) (by omega)
      refine z_iconst hx hb dX7_prune_29 ?_
      refine lv_istore_n (lv' := [(2, .int (iZ 1)), (0, .ref g9), (1, .int (iZ a))]) hx hb dX7_prune_30 rfl hl (by decide) rfl (fun ls hl => ?_)
      obtain ⟨n1, fh, hI, hl1, hP1, hD1⟩ : ∃ (n1 : Nat) (fh : Nat → Int), (n1 ≤ 20 ∧ prS (kF F A (A 17)) a.toNat n1 = -9) ∧ lv_has ls 4 [(2, .int (iZ ((n1 + 1 : Nat) : Int))), (0, .ref g9), (1, .int (iZ a))] ∧ va_P G vwCl [(g9, .inr (7, [.int (iZ (F 0)), .ref (af 1), .int (iZ (F 2)), .int (iZ (F 3)), .int (iZ (F 4)), .int (iZ (F 5)), .int (iZ (F 6)), .int (iZ (F 7)), .int (iZ (F 8)), .int (iZ (F 9)), .int (iZ (F 10)), .ref (af 11), .ref (af 12), .int (iZ (F 13)), .int (iZ (F 14)), .int (iZ (F 15)), .ref (af 16), .ref (af 17), .ref (af 18), .ref (af 19), .ref (af 20), .ref (af 21), .int (iZ (F 22)), .int (iZ (F 23)), .ref (af 24), .long tr, .int (iZ (F 26)), .int (iZ (F 27)), .int (iZ (F 28))])), (af 1, .inl (Y 0, 200, .inl (aI (A 1)))), (af 11, .inl (Y 0, 7, .inl (aI (A 11)))), (af 12, .inl (Y 0, 36, .inl (aI (A 12)))), (af 16, .inl (Y 0, 7, .inl (aI (A 16)))), (af 17, .inl (Y 0, 36, .inl (aI (A 17)))), (af 18, .inl (Y 0, 41, .inl (aI fh))), (af 19, .inl (Y 0, 72, .inl (aI (A 19)))), (af 20, .inl (Y 1, 2, .inl (aI (A 20)))), (af 21, .inl (Y 0, 360, .inl (aI (A 21)))), (af 24, .inl (Y 0, 10, .inl (aI (A 24))))] H ∧ va_D (fun q => q ∈ List.map Prod.fst (moW Y g9 af F A tr)) [(g9, .inr (7, [.int (iZ (F 0)), .ref (af 1), .int (iZ (F 2)), .int (iZ (F 3)), .int (iZ (F 4)), .int (iZ (F 5)), .int (iZ (F 6)), .int (iZ (F 7)), .int (iZ (F 8)), .int (iZ (F 9)), .int (iZ (F 10)), .ref (af 11), .ref (af 12), .int (iZ (F 13)), .int (iZ (F 14)), .int (iZ (F 15)), .ref (af 16), .ref (af 17), .ref (af 18), .ref (af 19), .ref (af 20), .ref (af 21), .int (iZ (F 22)), .int (iZ (F 23)), .ref (af 24), .long tr, .int (iZ (F 26)), .int (iZ (F 27)), .int (iZ (F 28))])), (af 1, .inl (Y 0, 200, .inl (aI (A 1)))), (af 11, .inl (Y 0, 7, .inl (aI (A 11)))), (af 12, .inl (Y 0, 36, .inl (aI (A 12)))), (af 16, .inl (Y 0, 7, .inl (aI (A 16)))), (af 17, .inl (Y 0, 36, .inl (aI (A 17)))), (af 18, .inl (Y 0, 41, .inl (aI fh))), (af 19, .inl (Y 0, 72, .inl (aI (A 19)))), (af 20, .inl (Y 1, 2, .inl (aI (A 20)))), (af 21, .inl (Y 0, 360, .inl (aI (A 21)))), (af 24, .inl (Y 0, 10, .inl (aI (A 24))))] := ⟨0, A 18, by exact ⟨by omega, rfl⟩, lv_sub hl [0, 1, 2] rfl, hP, hD⟩
      clear hl hP hD
      have hl := hl1
      clear hl1
      have hP := hP1
      have hD := hD1
      clear hP1 hD1
      obtain ⟨n_, hn_⟩ : ∃ n_ : Nat, 20 - n1 < n_ := ⟨_, Nat.lt_succ_self _⟩
      induction n_ generalizing n1 fh ls H locs with
      | zero => exact absurd hn_ (Nat.not_lt_zero _)
      | succ n_ ih8 =>
        refine lv_iload_n hx hb dX7_prune_31 rfl (lv_at hl 0 rfl) ?_
        refine z_bipush hx hb dX7_prune_32 (by decide) ?_
        refine z_icmp_gt (tgt := 134) hx hb dX7_prune_34 (by decide) (by omega) (fun c_9 => ?_) (fun c_9 => ?_)
        · skip
          refine z_bipush hx hb dX7_prune_134 (by decide) ?_
          refine z_top (show (-9) = rPrune (kF F A (A 17)) a from ?_) ?_
          · unfold rPrune lpr; rw [if_pos (by omega), if_neg hcn, show (20 : Nat) = n1 by omega, hI.2]
          have hP9 : va_P G vwCl (moW Y g9 af F (va_up A 18 fh) tr) H := hP.sub [0, 1, 2, 3, 4, 5, 6, 7, 8, 9, 10] rfl
          exact W.iret (v := iZ (rPrune (kF F A (A 17)) a)) hx hb hr (fun t9 ht9 _ => ⟨rfl, ⟨(fun _ => fh), by rw [ht9]; exact hP9⟩, hS.F ht9⟩) hS.2.2 dX7_prune_136
        · skip
          have hJ := hI
          refine z_iconst hx hb dX7_prune_37 ?_
          refine lv_istore_n (lv' := [(3, .int (iZ 0)), (2, .int (iZ ((n1 + 1 : Nat) : Int))), (0, .ref g9), (1, .int (iZ a))]) hx hb dX7_prune_38 rfl hl (by decide) rfl (fun ls hl => ?_)
          obtain ⟨t, fk, hI, hl1, hP1, hD1⟩ : ∃ (t : Nat) (fk : Nat → Int), ((t : Int) ≤ A 17 3 ∧ fnd (fun t => crd (lowK (kF F A (A 17)) t ((n1 + 1 : Nat) : Int)) a.toNat) t = -9) ∧ lv_has ls 4 [(3, .int (iZ ((t : Nat) : Int))), (2, .int (iZ ((n1 + 1 : Nat) : Int))), (0, .ref g9), (1, .int (iZ a))] ∧ va_P G vwCl [(g9, .inr (7, [.int (iZ (F 0)), .ref (af 1), .int (iZ (F 2)), .int (iZ (F 3)), .int (iZ (F 4)), .int (iZ (F 5)), .int (iZ (F 6)), .int (iZ (F 7)), .int (iZ (F 8)), .int (iZ (F 9)), .int (iZ (F 10)), .ref (af 11), .ref (af 12), .int (iZ (F 13)), .int (iZ (F 14)), .int (iZ (F 15)), .ref (af 16), .ref (af 17), .ref (af 18), .ref (af 19), .ref (af 20), .ref (af 21), .int (iZ (F 22)), .int (iZ (F 23)), .ref (af 24), .long tr, .int (iZ (F 26)), .int (iZ (F 27)), .int (iZ (F 28))])), (af 1, .inl (Y 0, 200, .inl (aI (A 1)))), (af 11, .inl (Y 0, 7, .inl (aI (A 11)))), (af 12, .inl (Y 0, 36, .inl (aI (A 12)))), (af 16, .inl (Y 0, 7, .inl (aI (A 16)))), (af 17, .inl (Y 0, 36, .inl (aI (A 17)))), (af 18, .inl (Y 0, 41, .inl (aI fk))), (af 19, .inl (Y 0, 72, .inl (aI (A 19)))), (af 20, .inl (Y 1, 2, .inl (aI (A 20)))), (af 21, .inl (Y 0, 360, .inl (aI (A 21)))), (af 24, .inl (Y 0, 10, .inl (aI (A 24))))] H ∧ va_D (fun q => q ∈ List.map Prod.fst (moW Y g9 af F A tr)) [(g9, .inr (7, [.int (iZ (F 0)), .ref (af 1), .int (iZ (F 2)), .int (iZ (F 3)), .int (iZ (F 4)), .int (iZ (F 5)), .int (iZ (F 6)), .int (iZ (F 7)), .int (iZ (F 8)), .int (iZ (F 9)), .int (iZ (F 10)), .ref (af 11), .ref (af 12), .int (iZ (F 13)), .int (iZ (F 14)), .int (iZ (F 15)), .ref (af 16), .ref (af 17), .ref (af 18), .ref (af 19), .ref (af 20), .ref (af 21), .int (iZ (F 22)), .int (iZ (F 23)), .ref (af 24), .long tr, .int (iZ (F 26)), .int (iZ (F 27)), .int (iZ (F 28))])), (af 1, .inl (Y 0, 200, .inl (aI (A 1)))), (af 11, .inl (Y 0, 7, .inl (aI (A 11)))), (af 12, .inl (Y 0, 36, .inl (aI (A 12)))), (af 16, .inl (Y 0, 7, .inl (aI (A 16)))), (af 17, .inl (Y 0, 36, .inl (aI (A 17)))), (af 18, .inl (Y 0, 41, .inl (aI fk))), (af 19, .inl (Y 0, 72, .inl (aI (A 19)))), (af 20, .inl (Y 1, 2, .inl (aI (A 20)))), (af 21, .inl (Y 0, 360, .inl (aI (A 21)))), (af 24, .inl (Y 0, 10, .inl (aI (A 24))))] := ⟨0, fh, by exact ⟨by omega, rfl⟩, lv_sub hl [0, 1, 2, 3] rfl, hP, hD⟩
          clear hl hP hD
          have hl := hl1
          clear hl1
          have hP := hP1
          have hD := hD1
          clear hP1 hD1
          obtain ⟨n_, hn_⟩ : ∃ n_ : Nat, (A 17 3).toNat - t < n_ := ⟨_, Nat.lt_succ_self _⟩
          induction n_ generalizing t fk ls H locs with
          | zero => exact absurd hn_ (Nat.not_lt_zero _)
          | succ n_ ih10 =>
            have hb0 := hV.2.2.2.2.1 t
            refine lv_iload_n hx hb dX7_prune_39 rfl (lv_at hl 0 rfl) ?_
            refine lv_aload_n hx hb dX7_prune_40 rfl (lv_at hl 2 rfl) ?_
            refine va_get (D := G) (ci := 7) (v := .ref (af 17)) (C := RX7) (T := TX7) (N := 29) hx hb hts hFX7 hown hK.1 hP 0 rfl rfl 17 (by decide) kf29 (fun _ h9 => h9) rfl dX7_prune_41 ?_
            refine z_iconst hx hb dX7_prune_44 ?_
            refine z_iald hx hb hK.1 hP 5 0 rfl rfl 3 (by omega) (by decide) dX7_prune_45 ?_
            refine z_icmp_ge (tgt := 128) hx hb dX7_prune_46 (by decide) (by omega) (fun c_11 => ?_) (fun c_11 => ?_)
            · skip
              refine lv_iinc (v := iZ ((n1 + 1 + 1 : Nat) : Int)) (lv' := [(2, .int (iZ ((n1 + 1 + 1 : Nat) : Int))), (3, .int (iZ ((t : Nat) : Int))), (0, .ref g9), (1, .int (iZ a))]) hx hb dX7_prune_128 hl (k := 1) rfl (iZ_inc _) (by decide) rfl (fun ls hl => ?_)
              refine lv_goto (tgt := 31) hx hb dX7_prune_131 (by decide) ?_
              exact ih8 (ls := ls) (n1 := n1 + 1) (fh := fk) (H := H) (locs := locs) (hS := hS) (hI := by exact ⟨by omega, prS_no hJ.2 (show pr1 (kF F A (A 17)) a.toNat ((n1 + 1 : Nat) : Int) = -9 from by unfold pr1; rw [k02, show (A 17 3).toNat = t by omega]; exact hI.2)⟩) (hl := lv_sub hl [0, 2, 3] rfl) (hP := hP) (hD := hD) (hn_ := by omega)
            · skip
              have hb1 := hb0 (by omega)
              refine lv_aload_n hx hb dX7_prune_49 rfl (lv_at hl 2 rfl) ?_
              refine va_get (D := G) (ci := 7) (v := .ref (af 17)) (C := RX7) (T := TX7) (N := 29) hx hb hts hFX7 hown hK.1 hP 0 rfl rfl 17 (by decide) kf29 (fun _ h9 => h9) rfl dX7_prune_50 ?_
              refine z_iconst hx hb dX7_prune_53 ?_
              refine lv_aload_n hx hb dX7_prune_54 rfl (lv_at hl 2 rfl) ?_
              refine va_get (D := G) (ci := 7) (v := .ref (af 18)) (C := RX7) (T := TX7) (N := 29) hx hb hts hFX7 hown hK.1 hP 0 rfl rfl 18 (by decide) kf32 (fun _ h9 => h9) rfl dX7_prune_55 ?_
              refine z_iconst hx hb dX7_prune_58 ?_
              have hP := hP.sub (ws' := [(af 17, .inl (Y 0, 36, .inl (aI (A 17)))), (af 18, .inl (Y 0, 41, .inl (aI fk)))] ++ [(g9, .inr (7, [.int (iZ (F 0)), .ref (af 1), .int (iZ (F 2)), .int (iZ (F 3)), .int (iZ (F 4)), .int (iZ (F 5)), .int (iZ (F 6)), .int (iZ (F 7)), .int (iZ (F 8)), .int (iZ (F 9)), .int (iZ (F 10)), .ref (af 11), .ref (af 12), .int (iZ (F 13)), .int (iZ (F 14)), .int (iZ (F 15)), .ref (af 16), .ref (af 17), .ref (af 18), .ref (af 19), .ref (af 20), .ref (af 21), .int (iZ (F 22)), .int (iZ (F 23)), .ref (af 24), .long tr, .int (iZ (F 26)), .int (iZ (F 27)), .int (iZ (F 28))])), (af 1, .inl (Y 0, 200, .inl (aI (A 1)))), (af 11, .inl (Y 0, 7, .inl (aI (A 11)))), (af 12, .inl (Y 0, 36, .inl (aI (A 12)))), (af 16, .inl (Y 0, 7, .inl (aI (A 16)))), (af 19, .inl (Y 0, 72, .inl (aI (A 19)))), (af 20, .inl (Y 1, 2, .inl (aI (A 20)))), (af 21, .inl (Y 0, 360, .inl (aI (A 21)))), (af 24, .inl (Y 0, 10, .inl (aI (A 24))))]) [5, 6, 0, 1, 2, 3, 4, 7, 8, 9, 10] rfl
              have hD := hD.sub (ws' := [(af 17, .inl (Y 0, 36, .inl (aI (A 17)))), (af 18, .inl (Y 0, 41, .inl (aI fk)))] ++ [(g9, .inr (7, [.int (iZ (F 0)), .ref (af 1), .int (iZ (F 2)), .int (iZ (F 3)), .int (iZ (F 4)), .int (iZ (F 5)), .int (iZ (F 6)), .int (iZ (F 7)), .int (iZ (F 8)), .int (iZ (F 9)), .int (iZ (F 10)), .ref (af 11), .ref (af 12), .int (iZ (F 13)), .int (iZ (F 14)), .int (iZ (F 15)), .ref (af 16), .ref (af 17), .ref (af 18), .ref (af 19), .ref (af 20), .ref (af 21), .int (iZ (F 22)), .int (iZ (F 23)), .ref (af 24), .long tr, .int (iZ (F 26)), .int (iZ (F 27)), .int (iZ (F 28))])), (af 1, .inl (Y 0, 200, .inl (aI (A 1)))), (af 11, .inl (Y 0, 7, .inl (aI (A 11)))), (af 12, .inl (Y 0, 36, .inl (aI (A 12)))), (af 16, .inl (Y 0, 7, .inl (aI (A 16)))), (af 19, .inl (Y 0, 72, .inl (aI (A 19)))), (af 20, .inl (Y 1, 2, .inl (aI (A 20)))), (af 21, .inl (Y 0, 360, .inl (aI (A 21)))), (af 24, .inl (Y 0, 10, .inl (aI (A 24))))]) [5, 6, 0, 1, 2, 3, 4, 7, 8, 9, 10] (by decide) rfl
              refine mu_S (As := [.ref (af 17), .int (iZ 0), .ref (af 18), .int (iZ 0)]) (rest := []) (wc := [(af 17, .inl (Y 0, 36, .inl (aI (A 17)))), (af 18, .inl (Y 0, 41, .inl (aI fk)))]) (wc' := cpW Y (af 17) (af 18) 36 41 (A 17) (va_cpy (A 17) fk (Int.toNat 0) (Int.toNat 0) 36)) (F := [(g9, .inr (7, [.int (iZ (F 0)), .ref (af 1), .int (iZ (F 2)), .int (iZ (F 3)), .int (iZ (F 4)), .int (iZ (F 5)), .int (iZ (F 6)), .int (iZ (F 7)), .int (iZ (F 8)), .int (iZ (F 9)), .int (iZ (F 10)), .ref (af 11), .ref (af 12), .int (iZ (F 13)), .int (iZ (F 14)), .int (iZ (F 15)), .ref (af 16), .ref (af 17), .ref (af 18), .ref (af 19), .ref (af 20), .ref (af 21), .int (iZ (F 22)), .int (iZ (F 23)), .ref (af 24), .long tr, .int (iZ (F 26)), .int (iZ (F 27)), .int (iZ (F 28))])), (af 1, .inl (Y 0, 200, .inl (aI (A 1)))), (af 11, .inl (Y 0, 7, .inl (aI (A 11)))), (af 12, .inl (Y 0, 36, .inl (aI (A 12)))), (af 16, .inl (Y 0, 7, .inl (aI (A 16)))), (af 19, .inl (Y 0, 72, .inl (aI (A 19)))), (af 20, .inl (Y 1, 2, .inl (aI (A 20)))), (af 21, .inl (Y 0, 360, .inl (aI (A 21)))), (af 24, .inl (Y 0, 10, .inl (aI (A 24))))]) ⟨hx, hb, hml, hown, hts⟩ (c_X7_copy l G Y (af 17) (af 18) 36 41 (A 17) fk 0 0 (by omega)) (cwS 4 hts gX7_prune_X7_copy rfl rfl rfl (by decide +kernel) ⟨Nat.le_of_ble_eq_true rfl, Nat.le_of_ble_eq_true rfl⟩) hK hP hD hS (Eq.refl [af 17, af 18]) rfl hl.1 rfl (Nat.le_of_ble_eq_true rfl) dX7_prune_59 ⟨Nat.zero_le _, Nat.zero_le _⟩ (fun H locs hP hD hS => ?_)
              show W _ _ _ _ _ _ _ _ _ _ _ _ _ _ _ (F0 _ _ _ [])
              replace hP : va_P G vwCl [(af 17, .inl (Y 0, 36, .inl (aI (A 17)))), (af 18, .inl (Y 0, 41, .inl (aI (va_cpy (A 17) fk (Int.toNat 0) (Int.toNat 0) 36)))), (g9, .inr (7, [.int (iZ (F 0)), .ref (af 1), .int (iZ (F 2)), .int (iZ (F 3)), .int (iZ (F 4)), .int (iZ (F 5)), .int (iZ (F 6)), .int (iZ (F 7)), .int (iZ (F 8)), .int (iZ (F 9)), .int (iZ (F 10)), .ref (af 11), .ref (af 12), .int (iZ (F 13)), .int (iZ (F 14)), .int (iZ (F 15)), .ref (af 16), .ref (af 17), .ref (af 18), .ref (af 19), .ref (af 20), .ref (af 21), .int (iZ (F 22)), .int (iZ (F 23)), .ref (af 24), .long tr, .int (iZ (F 26)), .int (iZ (F 27)), .int (iZ (F 28))])), (af 1, .inl (Y 0, 200, .inl (aI (A 1)))), (af 11, .inl (Y 0, 7, .inl (aI (A 11)))), (af 12, .inl (Y 0, 36, .inl (aI (A 12)))), (af 16, .inl (Y 0, 7, .inl (aI (A 16)))), (af 19, .inl (Y 0, 72, .inl (aI (A 19)))), (af 20, .inl (Y 1, 2, .inl (aI (A 20)))), (af 21, .inl (Y 0, 360, .inl (aI (A 21)))), (af 24, .inl (Y 0, 10, .inl (aI (A 24))))] H := hP
              replace hD : va_D _ [(af 17, .inl (Y 0, 36, .inl (aI (A 17)))), (af 18, .inl (Y 0, 41, .inl (aI (va_cpy (A 17) fk (Int.toNat 0) (Int.toNat 0) 36)))), (g9, .inr (7, [.int (iZ (F 0)), .ref (af 1), .int (iZ (F 2)), .int (iZ (F 3)), .int (iZ (F 4)), .int (iZ (F 5)), .int (iZ (F 6)), .int (iZ (F 7)), .int (iZ (F 8)), .int (iZ (F 9)), .int (iZ (F 10)), .ref (af 11), .ref (af 12), .int (iZ (F 13)), .int (iZ (F 14)), .int (iZ (F 15)), .ref (af 16), .ref (af 17), .ref (af 18), .ref (af 19), .ref (af 20), .ref (af 21), .int (iZ (F 22)), .int (iZ (F 23)), .ref (af 24), .long tr, .int (iZ (F 26)), .int (iZ (F 27)), .int (iZ (F 28))])), (af 1, .inl (Y 0, 200, .inl (aI (A 1)))), (af 11, .inl (Y 0, 7, .inl (aI (A 11)))), (af 12, .inl (Y 0, 36, .inl (aI (A 12)))), (af 16, .inl (Y 0, 7, .inl (aI (A 16)))), (af 19, .inl (Y 0, 72, .inl (aI (A 19)))), (af 20, .inl (Y 1, 2, .inl (aI (A 20)))), (af 21, .inl (Y 0, 360, .inl (aI (A 21)))), (af 24, .inl (Y 0, 10, .inl (aI (A 24))))] := hD
              refine lv_aload_n hx hb dX7_prune_62 rfl (lv_at hl 2 rfl) ?_
              refine va_get (D := G) (ci := 7) (v := .ref (af 18)) (C := RX7) (T := TX7) (N := 29) hx hb hts hFX7 hown hK.1 hP 2 rfl rfl 18 (by decide) kf32 (fun _ h9 => h9) rfl dX7_prune_63 ?_
              refine z_bipush hx hb dX7_prune_66 (by decide) ?_
              refine lv_iload_n hx hb dX7_prune_68 rfl (lv_at hl 0 rfl) ?_
              refine z_iadd hx hb dX7_prune_69 ?_
              refine lv_aload_n hx hb dX7_prune_70 rfl (lv_at hl 2 rfl) ?_
              refine va_get (D := G) (ci := 7) (v := .ref (af 17)) (C := RX7) (T := TX7) (N := 29) hx hb hts hFX7 hown hK.1 hP 2 rfl rfl 17 (by decide) kf29 (fun _ h9 => h9) rfl dX7_prune_71 ?_
              refine z_bipush hx hb dX7_prune_74 (by decide) ?_
              refine lv_iload_n hx hb dX7_prune_76 rfl (lv_at hl 0 rfl) ?_
              refine z_iadd hx hb dX7_prune_77 ?_
              refine z_iald hx hb hK.1 hP 0 0 rfl rfl (9 + t) (by omega) (by decide) dX7_prune_78 ?_
              refine lv_iload_n hx hb dX7_prune_79 rfl (lv_at hl 1 rfl) ?_
              refine z_icmp_le (tgt := 97) hx hb dX7_prune_80 (by decide) (by omega) (fun c_12 => ?_) (fun c_12 => ?_)
              · skip
                refine z_iconst hx hb dX7_prune_97 ?_
                refine z_top (show 0 = max ((A 17) (9 + t) - ((n1 + 1 : Nat) : Int)) 0 by omega) ?_
                refine z_iast hx hb hK.1 hP hD hS 1 0 rfl rfl (9 + t) (by omega) (by decide) dX7_prune_98 (fun H locs hP hD hS => ?_)
                replace hP : va_P G vwCl [(af 17, .inl (Y 0, 36, .inl (aI (A 17)))), (af 18, .inl (Y 0, 41, .inl (aI (va_up (va_cpy (A 17) fk (Int.toNat 0) (Int.toNat 0) 36) (9 + t) (max ((A 17) (9 + t) - ((n1 + 1 : Nat) : Int)) 0))))), (g9, .inr (7, [.int (iZ (F 0)), .ref (af 1), .int (iZ (F 2)), .int (iZ (F 3)), .int (iZ (F 4)), .int (iZ (F 5)), .int (iZ (F 6)), .int (iZ (F 7)), .int (iZ (F 8)), .int (iZ (F 9)), .int (iZ (F 10)), .ref (af 11), .ref (af 12), .int (iZ (F 13)), .int (iZ (F 14)), .int (iZ (F 15)), .ref (af 16), .ref (af 17), .ref (af 18), .ref (af 19), .ref (af 20), .ref (af 21), .int (iZ (F 22)), .int (iZ (F 23)), .ref (af 24), .long tr, .int (iZ (F 26)), .int (iZ (F 27)), .int (iZ (F 28))])), (af 1, .inl (Y 0, 200, .inl (aI (A 1)))), (af 11, .inl (Y 0, 7, .inl (aI (A 11)))), (af 12, .inl (Y 0, 36, .inl (aI (A 12)))), (af 16, .inl (Y 0, 7, .inl (aI (A 16)))), (af 19, .inl (Y 0, 72, .inl (aI (A 19)))), (af 20, .inl (Y 1, 2, .inl (aI (A 20)))), (af 21, .inl (Y 0, 360, .inl (aI (A 21)))), (af 24, .inl (Y 0, 10, .inl (aI (A 24))))] H := hP
                replace hD : va_D _ [(af 17, .inl (Y 0, 36, .inl (aI (A 17)))), (af 18, .inl (Y 0, 41, .inl (aI (va_up (va_cpy (A 17) fk (Int.toNat 0) (Int.toNat 0) 36) (9 + t) (max ((A 17) (9 + t) - ((n1 + 1 : Nat) : Int)) 0))))), (g9, .inr (7, [.int (iZ (F 0)), .ref (af 1), .int (iZ (F 2)), .int (iZ (F 3)), .int (iZ (F 4)), .int (iZ (F 5)), .int (iZ (F 6)), .int (iZ (F 7)), .int (iZ (F 8)), .int (iZ (F 9)), .int (iZ (F 10)), .ref (af 11), .ref (af 12), .int (iZ (F 13)), .int (iZ (F 14)), .int (iZ (F 15)), .ref (af 16), .ref (af 17), .ref (af 18), .ref (af 19), .ref (af 20), .ref (af 21), .int (iZ (F 22)), .int (iZ (F 23)), .ref (af 24), .long tr, .int (iZ (F 26)), .int (iZ (F 27)), .int (iZ (F 28))])), (af 1, .inl (Y 0, 200, .inl (aI (A 1)))), (af 11, .inl (Y 0, 7, .inl (aI (A 11)))), (af 12, .inl (Y 0, 36, .inl (aI (A 12)))), (af 16, .inl (Y 0, 7, .inl (aI (A 16)))), (af 19, .inl (Y 0, 72, .inl (aI (A 19)))), (af 20, .inl (Y 1, 2, .inl (aI (A 20)))), (af 21, .inl (Y 0, 360, .inl (aI (A 21)))), (af 24, .inl (Y 0, 10, .inl (aI (A 24))))] := hD
                refine lv_aload_n hx hb dX7_prune_99 rfl (lv_at hl 2 rfl) ?_
                refine lv_aload_n hx hb dX7_prune_100 rfl (lv_at hl 2 rfl) ?_
                refine va_get (D := G) (ci := 7) (v := .ref (af 18)) (C := RX7) (T := TX7) (N := 29) hx hb hts hFX7 hown hK.1 hP 2 rfl rfl 18 (by decide) kf32 (fun _ h9 => h9) rfl dX7_prune_101 ?_
                refine lv_iload_n hx hb dX7_prune_104 rfl (lv_at hl 3 rfl) ?_
                refine lv_aload_n hx hb dX7_prune_105 rfl (lv_at hl 2 rfl) ?_
                refine ro_V (As := []) (rest := [.int (iZ a), .ref (af 18), .ref g9]) ⟨hx, hb, hml, hown, hts⟩ (c_X7_everybody l G Y g9 af F (arrs (A 1) (A 11) (A 12) (A 16) (A 17) (va_up (va_cpy (A 17) fk (Int.toNat 0) (Int.toNat 0) 36) (9 + t) (max ((A 17) (9 + t) - ((n1 + 1 : Nat) : Int)) 0)) (A 19) (A 20) (A 21) (A 24)) tr (by omega)) (cwV 0 hts gX7_prune_X7_everybody rfl rfl rfl (by decide +kernel) ⟨Nat.le_of_ble_eq_true rfl, Nat.le_of_ble_eq_true rfl⟩) hK (hP.sub (ws' := moW Y g9 af F (arrs (A 1) (A 11) (A 12) (A 16) (A 17) (va_up (va_cpy (A 17) fk (Int.toNat 0) (Int.toNat 0) 36) (9 + t) (max ((A 17) (9 + t) - ((n1 + 1 : Nat) : Int)) 0)) (A 19) (A 20) (A 21) (A 24)) tr) [2, 3, 4, 5, 6, 0, 1, 7, 8, 9, 10] rfl) 0 rfl rfl rfl hl.1 rfl (Nat.le_of_ble_eq_true rfl) dX7_prune_106 ⟨Nat.zero_le _, Nat.zero_le _⟩ ?_
                refine ro_V (As := [.ref (af 18), .int (iZ a), .int (iZ ((2 ^ (F 15).toNat - 1 : Nat) : Int))]) (rest := []) ⟨hx, hb, hml, hown, hts⟩ (c_X7_balance l G Y g9 af F (arrs (A 1) (A 11) (A 12) (A 16) (A 17) (va_up (va_cpy (A 17) fk (Int.toNat 0) (Int.toNat 0) 36) (9 + t) (max ((A 17) (9 + t) - ((n1 + 1 : Nat) : Int)) 0)) (A 19) (A 20) (A 21) (A 24)) tr (af 18) 6 41 (va_up (va_cpy (A 17) fk (Int.toNat 0) (Int.toNat 0) 36) (9 + t) (max ((A 17) (9 + t) - ((n1 + 1 : Nat) : Int)) 0)) rfl (by decide) (mV_A (A := A) (S := va_up (va_cpy (A 17) fk (Int.toNat 0) (Int.toNat 0) 36) (9 + t) (max ((A 17) (9 + t) - ((n1 + 1 : Nat) : Int)) 0)) (B := (arrs (A 1) (A 11) (A 12) (A 16) (A 17) (va_up (va_cpy (A 17) fk (Int.toNat 0) (Int.toNat 0) 36) (9 + t) (max ((A 17) (9 + t) - ((n1 + 1 : Nat) : Int)) 0)) (A 19) (A 20) (A 21) (A 24))) (loS_V hV (by omega) (by omega) hno) rfl) a (2 ^ (F 15).toNat - 1) (by omega)) (cwV 3 hts gX7_prune_X7_balance rfl rfl rfl (by decide +kernel) ⟨Nat.le_of_ble_eq_true rfl, Nat.le_of_ble_eq_true rfl⟩) hK (hP.sub (ws' := moW Y g9 af F (arrs (A 1) (A 11) (A 12) (A 16) (A 17) (va_up (va_cpy (A 17) fk (Int.toNat 0) (Int.toNat 0) 36) (9 + t) (max ((A 17) (9 + t) - ((n1 + 1 : Nat) : Int)) 0)) (A 19) (A 20) (A 21) (A 24)) tr) [2, 3, 4, 5, 6, 0, 1, 7, 8, 9, 10] rfl) 0 rfl rfl rfl hl.1 rfl (Nat.le_of_ble_eq_true rfl) dX7_prune_109 ⟨Nat.zero_le _, Nat.zero_le _⟩ ?_
                rw [kM_no hno]
                have hb_13 := blN_in (kM_WF (mV_A (A := A) (S := va_up (va_cpy (A 17) fk (Int.toNat 0) (Int.toNat 0) 36) (9 + t) (max ((A 17) (9 + t) - ((n1 + 1 : Nat) : Int)) 0)) (B := (arrs (A 1) (A 11) (A 12) (A 16) (A 17) (va_up (va_cpy (A 17) fk (Int.toNat 0) (Int.toNat 0) 36) (9 + t) (max ((A 17) (9 + t) - ((n1 + 1 : Nat) : Int)) 0)) (A 19) (A 20) (A 21) (A 24))) (loS_V hV (by omega) (by omega) hno) rfl)) (a).toNat (2 ^ (F 15).toNat - 1) (F 15).toNat (by omega)
                rw [kM_no hno] at hb_13
                have hs9 : 0 < blN (kF F (arrs (A 1) (A 11) (A 12) (A 16) (A 17) (va_up (va_cpy (A 17) fk (Int.toNat 0) (Int.toNat 0) 36) (9 + t) (max ((A 17) (9 + t) - ((n1 + 1 : Nat) : Int)) 0)) (A 19) (A 20) (A 21) (A 24)) (va_up (va_cpy (A 17) fk (Int.toNat 0) (Int.toNat 0) 36) (9 + t) (max ((A 17) (9 + t) - ((n1 + 1 : Nat) : Int)) 0))) (a).toNat (2 ^ (F 15).toNat - 1) (F 15).toNat ↔ crd (lowK (kF F A (A 17)) t ((n1 + 1 : Nat) : Int)) a.toNat = true := loS_b hV (by omega) _
                refine z_if_le (tgt := 122) hx hb dX7_prune_112 (by decide) (by omega) (fun c_18 => ?_) (fun c_18 => ?_)
                · skip
                  refine lv_iinc (v := iZ ((t + 1 : Nat) : Int)) (lv' := [(3, .int (iZ ((t + 1 : Nat) : Int))), (2, .int (iZ ((n1 + 1 : Nat) : Int))), (0, .ref g9), (1, .int (iZ a))]) hx hb dX7_prune_122 hl (k := 0) rfl (iZ_inc _) (by decide) rfl (fun ls hl => ?_)
                  refine lv_goto (tgt := 39) hx hb dX7_prune_125 (by decide) ?_
                  exact ih10 (ls := ls) (t := t + 1) (fk := va_up (va_cpy (A 17) fk (Int.toNat 0) (Int.toNat 0) 36) (9 + t) (max ((A 17) (9 + t) - ((n1 + 1 : Nat) : Int)) 0)) (H := H) (locs := locs) (hS := hS) (hI := by exact ⟨by omega, fnd_no hI.2 (Bool.eq_false_iff.mpr (fun h => absurd (hs9.mpr h) (by omega)))⟩) (hl := lv_sub hl [0, 1, 2, 3] rfl) (hP := hP.sub [2, 3, 4, 5, 6, 0, 1, 7, 8, 9, 10] rfl) (hD := hD.sub [2, 3, 4, 5, 6, 0, 1, 7, 8, 9, 10] (by decide) rfl) (hn_ := by omega)
                · skip
                  refine z_bipush hx hb dX7_prune_115 (by decide) ?_
                  refine lv_iload_n hx hb dX7_prune_117 rfl (lv_at hl 0 rfl) ?_
                  refine z_imul hx hb dX7_prune_118 ?_
                  refine lv_iload_n hx hb dX7_prune_119 rfl (lv_at hl 1 rfl) ?_
                  refine z_iadd hx hb dX7_prune_120 ?_
                  refine z_top (show ((100 * ((t : Nat) : Int)) + ((n1 + 1 : Nat) : Int)) = rPrune (kF F A (A 17)) a from ?_) ?_
                  · unfold rPrune lpr; rw [if_pos (by omega), if_neg hcn, prS_at (i := n1) (n := 20) (t := t) hJ.2 (show pr1 (kF F A (A 17)) a.toNat ((n1 + 1 : Nat) : Int) = (t : Int) from fnd_at hI.2 (hs9.mp (by omega)) (by rw [k02]; omega)) (by omega)]
                  have hP9 : va_P G vwCl (moW Y g9 af F (va_up A 18 (va_up (va_cpy (A 17) fk (Int.toNat 0) (Int.toNat 0) 36) (9 + t) (max ((A 17) (9 + t) - ((n1 + 1 : Nat) : Int)) 0))) tr) H := hP.sub [2, 3, 4, 5, 6, 0, 1, 7, 8, 9, 10] rfl
                  exact W.iret (v := iZ (rPrune (kF F A (A 17)) a)) hx hb hr (fun t9 ht9 _ => ⟨rfl, ⟨(fun _ => va_up (va_cpy (A 17) fk (Int.toNat 0) (Int.toNat 0) 36) (9 + t) (max ((A 17) (9 + t) - ((n1 + 1 : Nat) : Int)) 0)), by rw [ht9]; exact hP9⟩, hS.F ht9⟩) hS.2.2 dX7_prune_121
              · skip
                refine lv_aload_n hx hb dX7_prune_83 rfl (lv_at hl 2 rfl) ?_
                refine va_get (D := G) (ci := 7) (v := .ref (af 17)) (C := RX7) (T := TX7) (N := 29) hx hb hts hFX7 hown hK.1 hP 2 rfl rfl 17 (by decide) kf29 (fun _ h9 => h9) rfl dX7_prune_84 ?_
                refine z_bipush hx hb dX7_prune_87 (by decide) ?_
                refine lv_iload_n hx hb dX7_prune_89 rfl (lv_at hl 0 rfl) ?_
                refine z_iadd hx hb dX7_prune_90 ?_
                refine z_iald hx hb hK.1 hP 0 0 rfl rfl (9 + t) (by omega) (by decide) dX7_prune_91 ?_
                refine lv_iload_n hx hb dX7_prune_92 rfl (lv_at hl 1 rfl) ?_
                refine z_isub hx hb dX7_prune_93 ?_
                refine lv_goto (tgt := 98) hx hb dX7_prune_94 (by decide) ?_
                refine z_top (show ((A 17) (9 + t) - ((n1 + 1 : Nat) : Int)) = max ((A 17) (9 + t) - ((n1 + 1 : Nat) : Int)) 0 by omega) ?_
                refine z_iast hx hb hK.1 hP hD hS 1 0 rfl rfl (9 + t) (by omega) (by decide) dX7_prune_98 (fun H locs hP hD hS => ?_)
                replace hP : va_P G vwCl [(af 17, .inl (Y 0, 36, .inl (aI (A 17)))), (af 18, .inl (Y 0, 41, .inl (aI (va_up (va_cpy (A 17) fk (Int.toNat 0) (Int.toNat 0) 36) (9 + t) (max ((A 17) (9 + t) - ((n1 + 1 : Nat) : Int)) 0))))), (g9, .inr (7, [.int (iZ (F 0)), .ref (af 1), .int (iZ (F 2)), .int (iZ (F 3)), .int (iZ (F 4)), .int (iZ (F 5)), .int (iZ (F 6)), .int (iZ (F 7)), .int (iZ (F 8)), .int (iZ (F 9)), .int (iZ (F 10)), .ref (af 11), .ref (af 12), .int (iZ (F 13)), .int (iZ (F 14)), .int (iZ (F 15)), .ref (af 16), .ref (af 17), .ref (af 18), .ref (af 19), .ref (af 20), .ref (af 21), .int (iZ (F 22)), .int (iZ (F 23)), .ref (af 24), .long tr, .int (iZ (F 26)), .int (iZ (F 27)), .int (iZ (F 28))])), (af 1, .inl (Y 0, 200, .inl (aI (A 1)))), (af 11, .inl (Y 0, 7, .inl (aI (A 11)))), (af 12, .inl (Y 0, 36, .inl (aI (A 12)))), (af 16, .inl (Y 0, 7, .inl (aI (A 16)))), (af 19, .inl (Y 0, 72, .inl (aI (A 19)))), (af 20, .inl (Y 1, 2, .inl (aI (A 20)))), (af 21, .inl (Y 0, 360, .inl (aI (A 21)))), (af 24, .inl (Y 0, 10, .inl (aI (A 24))))] H := hP
                replace hD : va_D _ [(af 17, .inl (Y 0, 36, .inl (aI (A 17)))), (af 18, .inl (Y 0, 41, .inl (aI (va_up (va_cpy (A 17) fk (Int.toNat 0) (Int.toNat 0) 36) (9 + t) (max ((A 17) (9 + t) - ((n1 + 1 : Nat) : Int)) 0))))), (g9, .inr (7, [.int (iZ (F 0)), .ref (af 1), .int (iZ (F 2)), .int (iZ (F 3)), .int (iZ (F 4)), .int (iZ (F 5)), .int (iZ (F 6)), .int (iZ (F 7)), .int (iZ (F 8)), .int (iZ (F 9)), .int (iZ (F 10)), .ref (af 11), .ref (af 12), .int (iZ (F 13)), .int (iZ (F 14)), .int (iZ (F 15)), .ref (af 16), .ref (af 17), .ref (af 18), .ref (af 19), .ref (af 20), .ref (af 21), .int (iZ (F 22)), .int (iZ (F 23)), .ref (af 24), .long tr, .int (iZ (F 26)), .int (iZ (F 27)), .int (iZ (F 28))])), (af 1, .inl (Y 0, 200, .inl (aI (A 1)))), (af 11, .inl (Y 0, 7, .inl (aI (A 11)))), (af 12, .inl (Y 0, 36, .inl (aI (A 12)))), (af 16, .inl (Y 0, 7, .inl (aI (A 16)))), (af 19, .inl (Y 0, 72, .inl (aI (A 19)))), (af 20, .inl (Y 1, 2, .inl (aI (A 20)))), (af 21, .inl (Y 0, 360, .inl (aI (A 21)))), (af 24, .inl (Y 0, 10, .inl (aI (A 24))))] := hD
                refine lv_aload_n hx hb dX7_prune_99 rfl (lv_at hl 2 rfl) ?_
                refine lv_aload_n hx hb dX7_prune_100 rfl (lv_at hl 2 rfl) ?_
                refine va_get (D := G) (ci := 7) (v := .ref (af 18)) (C := RX7) (T := TX7) (N := 29) hx hb hts hFX7 hown hK.1 hP 2 rfl rfl 18 (by decide) kf32 (fun _ h9 => h9) rfl dX7_prune_101 ?_
                refine lv_iload_n hx hb dX7_prune_104 rfl (lv_at hl 3 rfl) ?_
                refine lv_aload_n hx hb dX7_prune_105 rfl (lv_at hl 2 rfl) ?_
                refine ro_V (As := []) (rest := [.int (iZ a), .ref (af 18), .ref g9]) ⟨hx, hb, hml, hown, hts⟩ (c_X7_everybody l G Y g9 af F (arrs (A 1) (A 11) (A 12) (A 16) (A 17) (va_up (va_cpy (A 17) fk (Int.toNat 0) (Int.toNat 0) 36) (9 + t) (max ((A 17) (9 + t) - ((n1 + 1 : Nat) : Int)) 0)) (A 19) (A 20) (A 21) (A 24)) tr (by omega)) (cwV 0 hts gX7_prune_X7_everybody rfl rfl rfl (by decide +kernel) ⟨Nat.le_of_ble_eq_true rfl, Nat.le_of_ble_eq_true rfl⟩) hK (hP.sub (ws' := moW Y g9 af F (arrs (A 1) (A 11) (A 12) (A 16) (A 17) (va_up (va_cpy (A 17) fk (Int.toNat 0) (Int.toNat 0) 36) (9 + t) (max ((A 17) (9 + t) - ((n1 + 1 : Nat) : Int)) 0)) (A 19) (A 20) (A 21) (A 24)) tr) [2, 3, 4, 5, 6, 0, 1, 7, 8, 9, 10] rfl) 0 rfl rfl rfl hl.1 rfl (Nat.le_of_ble_eq_true rfl) dX7_prune_106 ⟨Nat.zero_le _, Nat.zero_le _⟩ ?_
                refine ro_V (As := [.ref (af 18), .int (iZ a), .int (iZ ((2 ^ (F 15).toNat - 1 : Nat) : Int))]) (rest := []) ⟨hx, hb, hml, hown, hts⟩ (c_X7_balance l G Y g9 af F (arrs (A 1) (A 11) (A 12) (A 16) (A 17) (va_up (va_cpy (A 17) fk (Int.toNat 0) (Int.toNat 0) 36) (9 + t) (max ((A 17) (9 + t) - ((n1 + 1 : Nat) : Int)) 0)) (A 19) (A 20) (A 21) (A 24)) tr (af 18) 6 41 (va_up (va_cpy (A 17) fk (Int.toNat 0) (Int.toNat 0) 36) (9 + t) (max ((A 17) (9 + t) - ((n1 + 1 : Nat) : Int)) 0)) rfl (by decide) (mV_A (A := A) (S := va_up (va_cpy (A 17) fk (Int.toNat 0) (Int.toNat 0) 36) (9 + t) (max ((A 17) (9 + t) - ((n1 + 1 : Nat) : Int)) 0)) (B := (arrs (A 1) (A 11) (A 12) (A 16) (A 17) (va_up (va_cpy (A 17) fk (Int.toNat 0) (Int.toNat 0) 36) (9 + t) (max ((A 17) (9 + t) - ((n1 + 1 : Nat) : Int)) 0)) (A 19) (A 20) (A 21) (A 24))) (loS_V hV (by omega) (by omega) hno) rfl) a (2 ^ (F 15).toNat - 1) (by omega)) (cwV 3 hts gX7_prune_X7_balance rfl rfl rfl (by decide +kernel) ⟨Nat.le_of_ble_eq_true rfl, Nat.le_of_ble_eq_true rfl⟩) hK (hP.sub (ws' := moW Y g9 af F (arrs (A 1) (A 11) (A 12) (A 16) (A 17) (va_up (va_cpy (A 17) fk (Int.toNat 0) (Int.toNat 0) 36) (9 + t) (max ((A 17) (9 + t) - ((n1 + 1 : Nat) : Int)) 0)) (A 19) (A 20) (A 21) (A 24)) tr) [2, 3, 4, 5, 6, 0, 1, 7, 8, 9, 10] rfl) 0 rfl rfl rfl hl.1 rfl (Nat.le_of_ble_eq_true rfl) dX7_prune_109 ⟨Nat.zero_le _, Nat.zero_le _⟩ ?_
                rw [kM_no hno]
                have hb_19 := blN_in (kM_WF (mV_A (A := A) (S := va_up (va_cpy (A 17) fk (Int.toNat 0) (Int.toNat 0) 36) (9 + t) (max ((A 17) (9 + t) - ((n1 + 1 : Nat) : Int)) 0)) (B := (arrs (A 1) (A 11) (A 12) (A 16) (A 17) (va_up (va_cpy (A 17) fk (Int.toNat 0) (Int.toNat 0) 36) (9 + t) (max ((A 17) (9 + t) - ((n1 + 1 : Nat) : Int)) 0)) (A 19) (A 20) (A 21) (A 24))) (loS_V hV (by omega) (by omega) hno) rfl)) (a).toNat (2 ^ (F 15).toNat - 1) (F 15).toNat (by omega)
                rw [kM_no hno] at hb_19
                have hs9 : 0 < blN (kF F (arrs (A 1) (A 11) (A 12) (A 16) (A 17) (va_up (va_cpy (A 17) fk (Int.toNat 0) (Int.toNat 0) 36) (9 + t) (max ((A 17) (9 + t) - ((n1 + 1 : Nat) : Int)) 0)) (A 19) (A 20) (A 21) (A 24)) (va_up (va_cpy (A 17) fk (Int.toNat 0) (Int.toNat 0) 36) (9 + t) (max ((A 17) (9 + t) - ((n1 + 1 : Nat) : Int)) 0))) (a).toNat (2 ^ (F 15).toNat - 1) (F 15).toNat ↔ crd (lowK (kF F A (A 17)) t ((n1 + 1 : Nat) : Int)) a.toNat = true := loS_b hV (by omega) _
                refine z_if_le (tgt := 122) hx hb dX7_prune_112 (by decide) (by omega) (fun c_24 => ?_) (fun c_24 => ?_)
                · skip
                  refine lv_iinc (v := iZ ((t + 1 : Nat) : Int)) (lv' := [(3, .int (iZ ((t + 1 : Nat) : Int))), (2, .int (iZ ((n1 + 1 : Nat) : Int))), (0, .ref g9), (1, .int (iZ a))]) hx hb dX7_prune_122 hl (k := 0) rfl (iZ_inc _) (by decide) rfl (fun ls hl => ?_)
                  refine lv_goto (tgt := 39) hx hb dX7_prune_125 (by decide) ?_
                  exact ih10 (ls := ls) (t := t + 1) (fk := va_up (va_cpy (A 17) fk (Int.toNat 0) (Int.toNat 0) 36) (9 + t) (max ((A 17) (9 + t) - ((n1 + 1 : Nat) : Int)) 0)) (H := H) (locs := locs) (hS := hS) (hI := by exact ⟨by omega, fnd_no hI.2 (Bool.eq_false_iff.mpr (fun h => absurd (hs9.mpr h) (by omega)))⟩) (hl := lv_sub hl [0, 1, 2, 3] rfl) (hP := hP.sub [2, 3, 4, 5, 6, 0, 1, 7, 8, 9, 10] rfl) (hD := hD.sub [2, 3, 4, 5, 6, 0, 1, 7, 8, 9, 10] (by decide) rfl) (hn_ := by omega)
                · skip
                  refine z_bipush hx hb dX7_prune_115 (by decide) ?_
                  refine lv_iload_n hx hb dX7_prune_117 rfl (lv_at hl 0 rfl) ?_
                  refine z_imul hx hb dX7_prune_118 ?_
                  refine lv_iload_n hx hb dX7_prune_119 rfl (lv_at hl 1 rfl) ?_
                  refine z_iadd hx hb dX7_prune_120 ?_
                  refine z_top (show ((100 * ((t : Nat) : Int)) + ((n1 + 1 : Nat) : Int)) = rPrune (kF F A (A 17)) a from ?_) ?_
                  · unfold rPrune lpr; rw [if_pos (by omega), if_neg hcn, prS_at (i := n1) (n := 20) (t := t) hJ.2 (show pr1 (kF F A (A 17)) a.toNat ((n1 + 1 : Nat) : Int) = (t : Int) from fnd_at hI.2 (hs9.mp (by omega)) (by rw [k02]; omega)) (by omega)]
                  have hP9 : va_P G vwCl (moW Y g9 af F (va_up A 18 (va_up (va_cpy (A 17) fk (Int.toNat 0) (Int.toNat 0) 36) (9 + t) (max ((A 17) (9 + t) - ((n1 + 1 : Nat) : Int)) 0))) tr) H := hP.sub [2, 3, 4, 5, 6, 0, 1, 7, 8, 9, 10] rfl
                  exact W.iret (v := iZ (rPrune (kF F A (A 17)) a)) hx hb hr (fun t9 ht9 _ => ⟨rfl, ⟨(fun _ => va_up (va_cpy (A 17) fk (Int.toNat 0) (Int.toNat 0) 36) (9 + t) (max ((A 17) (9 + t) - ((n1 + 1 : Nat) : Int)) 0)), by rw [ht9]; exact hP9⟩, hS.F ht9⟩) hS.2.2 dX7_prune_121
    · skip
      refine z_iconst hx hb dX7_prune_27 ?_
      refine z_top (show 0 = rPrune (kF F A (A 17)) a from ?_) ?_
      · unfold rPrune lpr; rw [if_pos (by omega), if_pos (hs9.mp (by omega))]
      have hP9 : va_P G vwCl (moW Y g9 af F (va_up A 18 (A 18)) tr) H := hP.sub [0, 1, 2, 3, 4, 5, 6, 7, 8, 9, 10] rfl
      exact W.iret (v := iZ (rPrune (kF F A (A 17)) a)) hx hb hr (fun t9 ht9 _ => ⟨rfl, ⟨(fun _ => A 18), by rw [ht9]; exact hP9⟩, hS.F ht9⟩) hS.2.2 dX7_prune_28
  · skip
    have c_1 := of_decide_eq_false c_1
    refine z_iconst hx hb dX7_prune_9 ?_
    refine z_top (show (-1) = rPrune (kF F A (A 17)) a from ?_) ?_
    · unfold rPrune; (repeat' split) <;> first | rfl | omega | (simp_all; done)
    have hP9 : va_P G vwCl (moW Y g9 af F (va_up A 18 (A 18)) tr) H := hP.sub [0, 1, 2, 3, 4, 5, 6, 7, 8, 9, 10] rfl
    exact W.iret (v := iZ (rPrune (kF F A (A 17)) a)) hx hb hr (fun t9 ht9 _ => ⟨rfl, ⟨(fun _ => A 18), by rw [ht9]; exact hP9⟩, hS.F ht9⟩) hS.2.2 dX7_prune_10
