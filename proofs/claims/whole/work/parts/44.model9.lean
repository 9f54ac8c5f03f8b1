set_option maxHeartbeats 4000000 in
set_option maxRecDepth 100000 in
theorem c_X7_mayBe (l : Launch) (G : va_G) (Y : Nat → ClassId) (g9 : Nat) (af : Nat → Nat) (F : Nat → Int) (A : Kom) (tr : Int64) (hV : mV F A (A 17)) (hno : F 26 < 0) (rc : (0 ≤ F 23 ∧ F 23 ≤ 5) ∧ ∀ j : Nat, j < 5 → 0 ≤ A 24 (2 * j) ∧ A 24 (2 * j) ≤ 2 ∧ 0 ≤ A 24 (2 * j + 1) ∧ A 24 (2 * j + 1) ≤ 28) : Met l yX7_mayBe wsX7_mayBe ({ frames := 5, cells := 0, slots := 0, locals := 122 }) (mP G Y [.ref g9] (moW Y g9 af F A tr)) (eQ G (moW Y g9 af F A tr) (some (.int (iZ (((snN (snH (kF F A (A 17)) (fun j => A 24 (2 * j)) (fun j => A 24 (2 * j + 1)) (F 23).toNat) 9 : Nat) : Int))))) (fun u => moW Y g9 af F (va_up A 18 (u 0)) tr)) 0 0 (fun q => q ∈ List.map Prod.fst (moW Y g9 af F A tr)) := by
  refine Met.ofW (cc := cX7_mayBe) (maxL := 5) (ret := (some .int)) (by decide) rfl ?_
  intro p e s m args below meth c s₁ B hml hv
  obtain ⟨rfl, hK, hP, hD0⟩ := hv
  have hx := B.exec
  have hb := B.bytes
  have hr := B.returns
  have hts := atoms_spec (ws := wsX7_mayBe) B.pre
  have hown : s.vm.findClass RX7 = some m.cls := findClass_of_methodNamed B.named
  have hlocks := B.notSynchronized
  have hFX7 : ∀ w ∈ wsX70, w ∈ wsX7_mayBe := by decide +kernel
  have kf29 := (hts (.fieldLink RX7 29 "ShadeVotesModel" "now" "[I") (by decide +kernel))
  have kf32 := (hts (.fieldLink RX7 32 "ShadeVotesModel" "tried" "[I") (by decide +kernel))
  have kf122 := (hts (.fieldLink RX7 122 "ShadeVotesModel" "counts" "I") (by decide +kernel))
  have kf45 := (hts (.fieldLink RX7 45 "ShadeVotesModel" "count" "[I") (by decide +kernel))
  have hD := va_D_self hD0
  have hS : va_S (fun q => q ∈ List.map Prod.fst (moW Y g9 af F A tr)) s.heap s.heap [] := va_S.rf
  obtain ⟨H, hHe⟩ : ∃ H, H = s.heap := ⟨_, rfl⟩
  rw [← hHe] at hP
  replace hS : va_S (fun q => q ∈ List.map Prod.fst (moW Y g9 af F A tr)) s.heap H [] := by rw [hHe]; exact hS
  have hl := lv_entry ([.ref g9]) (n := 5) (Nat.le_of_ble_eq_true rfl)
  rw [lg_entry_eq]
  generalize (lg_sl ([.ref g9]) ++ List.replicate (5 - (lg_sl ([.ref g9])).length) Slot.unset).toArray = ls at hl ⊢
  replace hl : lv_has ls 5 [(0, .ref g9)] := hl
  obtain ⟨locs, hLe⟩ : ∃ locs : List Loc, locs = [] := ⟨_, rfl⟩
  rw [← hLe] at hS ⊢
  have hW0 : ∀ {Q : State → Prop} {g : JFrame}, W p l e ({ frames := 5, cells := 0, slots := 0, locals := 122 }) s m [.ref g9].toArray below meth c H locs 0 0 Q g → W p l e ({ frames := 5, cells := 0, slots := 0, locals := 122 }) s m [.ref g9].toArray below meth c s.heap locs 0 0 Q g := fun h => by rw [← hHe]; exact h
  refine hW0 ?_
  clear hW0 hHe hLe
  have v3 := hV.2.2.1
  have v7 := hV.2.2.2.2.2.2.1
  have v8 := hV.2.2.2.2.2.2.2.1
  have v5 := hV.2.1
  have v4 := hV.2.2.2.1
  have k00 : kF F A (A 17) 0 0 = F 13 := rfl
  have k01 : kF F A (A 17) 0 1 = F 14 := rfl
  have k02 : kF F A (A 17) 0 2 = A 17 3 := rfl
  have k03 : kF F A (A 17) 0 3 = F 15 := rfl
  have k04 : kF F A (A 17) 0 4 = A 17 1 := rfl
  have k05 : kF F A (A 17) 0 5 = A 17 0 := rfl
  have k06 : kF F A (A 17) 0 6 = A 17 2 := rfl
  have kpr : kF F A (A 17) 0 0 * kF F A (A 17) 0 1 = F 13 * F 14 := rfl
  have hW := hV.1
  have hp2 := p2_in (F 15).toNat (by omega)
  have rc1 := rc.1
  refine z_iconst hx hb dX7_mayBe_0 ?_
  refine lv_istore_n (lv' := [(1, .int (iZ 0)), (0, .ref g9)]) hx hb dX7_mayBe_1 rfl hl (by decide) rfl (fun ls hl => ?_)
  refine z_iconst hx hb dX7_mayBe_2 ?_
  refine lv_istore_n (lv' := [(2, .int (iZ 1)), (1, .int (iZ 0)), (0, .ref g9)]) hx hb dX7_mayBe_3 rfl hl (by decide) rfl (fun ls hl => ?_)
  obtain ⟨i, q, fh, hI, hl1, hP1, hD1⟩ : ∃ (i : Nat) (q : Nat) (fh : Nat → Int), (i ≤ 9 ∧ q = snN (snH (kF F A (A 17)) (fun j => A 24 (2 * j)) (fun j => A 24 (2 * j + 1)) (F 23).toNat) i) ∧ lv_has ls 5 [(2, .int (iZ ((i + 1 : Nat) : Int))), (1, .int (iZ ((q : Nat) : Int))), (0, .ref g9)] ∧ va_P G vwCl [(g9, .inr (7, [.int (iZ (F 0)), .ref (af 1), .int (iZ (F 2)), .int (iZ (F 3)), .int (iZ (F 4)), .int (iZ (F 5)), .int (iZ (F 6)), .int (iZ (F 7)), .int (iZ (F 8)), .int (iZ (F 9)), .int (iZ (F 10)), .ref (af 11), .ref (af 12), .int (iZ (F 13)), .int (iZ (F 14)), .int (iZ (F 15)), .ref (af 16), .ref (af 17), .ref (af 18), .ref (af 19), .ref (af 20), .ref (af 21), .int (iZ (F 22)), .int (iZ (F 23)), .ref (af 24), .long tr, .int (iZ (F 26)), .int (iZ (F 27)), .int (iZ (F 28))])), (af 1, .inl (Y 0, 200, .inl (aI (A 1)))), (af 11, .inl (Y 0, 7, .inl (aI (A 11)))), (af 12, .inl (Y 0, 36, .inl (aI (A 12)))), (af 16, .inl (Y 0, 7, .inl (aI (A 16)))), (af 17, .inl (Y 0, 36, .inl (aI (A 17)))), (af 18, .inl (Y 0, 41, .inl (aI fh))), (af 19, .inl (Y 0, 72, .inl (aI (A 19)))), (af 20, .inl (Y 1, 2, .inl (aI (A 20)))), (af 21, .inl (Y 0, 360, .inl (aI (A 21)))), (af 24, .inl (Y 0, 10, .inl (aI (A 24))))] H ∧ va_D (fun q => q ∈ List.map Prod.fst (moW Y g9 af F A tr)) [(g9, .inr (7, [.int (iZ (F 0)), .ref (af 1), .int (iZ (F 2)), .int (iZ (F 3)), .int (iZ (F 4)), .int (iZ (F 5)), .int (iZ (F 6)), .int (iZ (F 7)), .int (iZ (F 8)), .int (iZ (F 9)), .int (iZ (F 10)), .ref (af 11), .ref (af 12), .int (iZ (F 13)), .int (iZ (F 14)), .int (iZ (F 15)), .ref (af 16), .ref (af 17), .ref (af 18), .ref (af 19), .ref (af 20), .ref (af 21), .int (iZ (F 22)), .int (iZ (F 23)), .ref (af 24), .long tr, .int (iZ (F 26)), .int (iZ (F 27)), .int (iZ (F 28))])), (af 1, .inl (Y 0, 200, .inl (aI (A 1)))), (af 11, .inl (Y 0, 7, .inl (aI (A 11)))), (af 12, .inl (Y 0, 36, .inl (aI (A 12)))), (af 16, .inl (Y 0, 7, .inl (aI (A 16)))), (af 17, .inl (Y 0, 36, .inl (aI (A 17)))), (af 18, .inl (Y 0, 41, .inl (aI fh))), (af 19, .inl (Y 0, 72, .inl (aI (A 19)))), (af 20, .inl (Y 1, 2, .inl (aI (A 20)))), (af 21, .inl (Y 0, 360, .inl (aI (A 21)))), (af 24, .inl (Y 0, 10, .inl (aI (A 24))))] := ⟨0, 0, A 18, by exact ⟨by omega, rfl⟩, lv_sub hl [0, 1, 2] rfl, hP, hD⟩
  clear hl hP hD
  have hl := hl1
  clear hl1
  have hP := hP1
  have hD := hD1
  clear hP1 hD1
  obtain ⟨n_, hn_⟩ : ∃ n_ : Nat, 9 - i < n_ := ⟨_, Nat.lt_succ_self _⟩
  induction n_ generalizing i q fh ls H locs with
  | zero => exact absurd hn_ (Nat.not_lt_zero _)
  | succ n_ ih1 =>
    refine lv_iload_n hx hb dX7_mayBe_4 rfl (lv_at hl 0 rfl) ?_
    refine z_bipush hx hb dX7_mayBe_5 (by decide) ?_
    refine z_icmp_gt (tgt := 113) hx hb dX7_mayBe_7 (by decide) (by omega) (fun c_2 => ?_) (fun c_2 => ?_)
    · skip
      refine lv_iload_n hx hb dX7_mayBe_113 rfl (lv_at hl 1 rfl) ?_
      refine z_top (show ((q : Nat) : Int) = ((snN (snH (kF F A (A 17)) (fun j => A 24 (2 * j)) (fun j => A 24 (2 * j + 1)) (F 23).toNat) 9 : Nat) : Int) from ?_) ?_
      · rw [hI.2, show i = 9 by omega]
      have hP9 : va_P G vwCl (moW Y g9 af F (va_up A 18 fh) tr) H := hP.sub [0, 1, 2, 3, 4, 5, 6, 7, 8, 9, 10] rfl
      exact W.iret (v := iZ ((snN (snH (kF F A (A 17)) (fun j => A 24 (2 * j)) (fun j => A 24 (2 * j + 1)) (F 23).toNat) 9 : Nat) : Int)) hx hb hr (fun t9 ht9 _ => ⟨rfl, ⟨(fun _ => fh), by rw [ht9]; exact hP9⟩, hS.F ht9⟩) hS.2.2 dX7_mayBe_114
    · skip
      have hJ := hI
      refine lv_aload_n hx hb dX7_mayBe_10 rfl (lv_at hl 2 rfl) ?_
      refine va_get (D := G) (ci := 7) (v := .ref (af 17)) (C := RX7) (T := TX7) (N := 29) hx hb hts hFX7 hown hK.1 hP 0 rfl rfl 17 (by decide) kf29 (fun _ h9 => h9) rfl dX7_mayBe_11 ?_
      refine z_iconst hx hb dX7_mayBe_14 ?_
      refine lv_aload_n hx hb dX7_mayBe_15 rfl (lv_at hl 2 rfl) ?_
      refine va_get (D := G) (ci := 7) (v := .ref (af 18)) (C := RX7) (T := TX7) (N := 29) hx hb hts hFX7 hown hK.1 hP 0 rfl rfl 18 (by decide) kf32 (fun _ h9 => h9) rfl dX7_mayBe_16 ?_
      refine z_iconst hx hb dX7_mayBe_19 ?_
      have hP := hP.sub (ws' := [(af 17, .inl (Y 0, 36, .inl (aI (A 17)))), (af 18, .inl (Y 0, 41, .inl (aI fh)))] ++ [(g9, .inr (7, [.int (iZ (F 0)), .ref (af 1), .int (iZ (F 2)), .int (iZ (F 3)), .int (iZ (F 4)), .int (iZ (F 5)), .int (iZ (F 6)), .int (iZ (F 7)), .int (iZ (F 8)), .int (iZ (F 9)), .int (iZ (F 10)), .ref (af 11), .ref (af 12), .int (iZ (F 13)), .int (iZ (F 14)), .int (iZ (F 15)), .ref (af 16), .ref (af 17), .ref (af 18), .ref (af 19), .ref (af 20), .ref (af 21), .int (iZ (F 22)), .int (iZ (F 23)), .ref (af 24), .long tr, .int (iZ (F 26)), .int (iZ (F 27)), .int (iZ (F 28))])), (af 1, .inl (Y 0, 200, .inl (aI (A 1)))), (af 11, .inl (Y 0, 7, .inl (aI (A 11)))), (af 12, .inl (Y 0, 36, .inl (aI (A 12)))), (af 16, .inl (Y 0, 7, .inl (aI (A 16)))), (af 19, .inl (Y 0, 72, .inl (aI (A 19)))), (af 20, .inl (Y 1, 2, .inl (aI (A 20)))), (af 21, .inl (Y 0, 360, .inl (aI (A 21)))), (af 24, .inl (Y 0, 10, .inl (aI (A 24))))]) [5, 6, 0, 1, 2, 3, 4, 7, 8, 9, 10] rfl
      have hD := hD.sub (ws' := [(af 17, .inl (Y 0, 36, .inl (aI (A 17)))), (af 18, .inl (Y 0, 41, .inl (aI fh)))] ++ [(g9, .inr (7, [.int (iZ (F 0)), .ref (af 1), .int (iZ (F 2)), .int (iZ (F 3)), .int (iZ (F 4)), .int (iZ (F 5)), .int (iZ (F 6)), .int (iZ (F 7)), .int (iZ (F 8)), .int (iZ (F 9)), .int (iZ (F 10)), .ref (af 11), .ref (af 12), .int (iZ (F 13)), .int (iZ (F 14)), .int (iZ (F 15)), .ref (af 16), .ref (af 17), .ref (af 18), .ref (af 19), .ref (af 20), .ref (af 21), .int (iZ (F 22)), .int (iZ (F 23)), .ref (af 24), .long tr, .int (iZ (F 26)), .int (iZ (F 27)), .int (iZ (F 28))])), (af 1, .inl (Y 0, 200, .inl (aI (A 1)))), (af 11, .inl (Y 0, 7, .inl (aI (A 11)))), (af 12, .inl (Y 0, 36, .inl (aI (A 12)))), (af 16, .inl (Y 0, 7, .inl (aI (A 16)))), (af 19, .inl (Y 0, 72, .inl (aI (A 19)))), (af 20, .inl (Y 1, 2, .inl (aI (A 20)))), (af 21, .inl (Y 0, 360, .inl (aI (A 21)))), (af 24, .inl (Y 0, 10, .inl (aI (A 24))))]) [5, 6, 0, 1, 2, 3, 4, 7, 8, 9, 10] (by decide) rfl
      refine mu_S (As := [.ref (af 17), .int (iZ 0), .ref (af 18), .int (iZ 0)]) (rest := []) (wc := [(af 17, .inl (Y 0, 36, .inl (aI (A 17)))), (af 18, .inl (Y 0, 41, .inl (aI fh)))]) (wc' := cpW Y (af 17) (af 18) 36 41 (A 17) (va_cpy (A 17) fh (Int.toNat 0) (Int.toNat 0) 36)) (F := [(g9, .inr (7, [.int (iZ (F 0)), .ref (af 1), .int (iZ (F 2)), .int (iZ (F 3)), .int (iZ (F 4)), .int (iZ (F 5)), .int (iZ (F 6)), .int (iZ (F 7)), .int (iZ (F 8)), .int (iZ (F 9)), .int (iZ (F 10)), .ref (af 11), .ref (af 12), .int (iZ (F 13)), .int (iZ (F 14)), .int (iZ (F 15)), .ref (af 16), .ref (af 17), .ref (af 18), .ref (af 19), .ref (af 20), .ref (af 21), .int (iZ (F 22)), .int (iZ (F 23)), .ref (af 24), .long tr, .int (iZ (F 26)), .int (iZ (F 27)), .int (iZ (F 28))])), (af 1, .inl (Y 0, 200, .inl (aI (A 1)))), (af 11, .inl (Y 0, 7, .inl (aI (A 11)))), (af 12, .inl (Y 0, 36, .inl (aI (A 12)))), (af 16, .inl (Y 0, 7, .inl (aI (A 16)))), (af 19, .inl (Y 0, 72, .inl (aI (A 19)))), (af 20, .inl (Y 1, 2, .inl (aI (A 20)))), (af 21, .inl (Y 0, 360, .inl (aI (A 21)))), (af 24, .inl (Y 0, 10, .inl (aI (A 24))))]) ⟨hx, hb, hml, hown, hts⟩ (c_X7_copy l G Y (af 17) (af 18) 36 41 (A 17) fh 0 0 (by omega)) (cwS 4 hts gX7_mayBe_X7_copy rfl rfl rfl (by decide +kernel) ⟨Nat.le_of_ble_eq_true rfl, Nat.le_of_ble_eq_true rfl⟩) hK hP hD hS (Eq.refl [af 17, af 18]) rfl hl.1 rfl (Nat.le_of_ble_eq_true rfl) dX7_mayBe_20 ⟨Nat.zero_le _, Nat.zero_le _⟩ (fun H locs hP hD hS => ?_)
      show W _ _ _ _ _ _ _ _ _ _ _ _ _ _ _ (F0 _ _ _ [])
      replace hP : va_P G vwCl [(af 17, .inl (Y 0, 36, .inl (aI (A 17)))), (af 18, .inl (Y 0, 41, .inl (aI (va_cpy (A 17) fh (Int.toNat 0) (Int.toNat 0) 36)))), (g9, .inr (7, [.int (iZ (F 0)), .ref (af 1), .int (iZ (F 2)), .int (iZ (F 3)), .int (iZ (F 4)), .int (iZ (F 5)), .int (iZ (F 6)), .int (iZ (F 7)), .int (iZ (F 8)), .int (iZ (F 9)), .int (iZ (F 10)), .ref (af 11), .ref (af 12), .int (iZ (F 13)), .int (iZ (F 14)), .int (iZ (F 15)), .ref (af 16), .ref (af 17), .ref (af 18), .ref (af 19), .ref (af 20), .ref (af 21), .int (iZ (F 22)), .int (iZ (F 23)), .ref (af 24), .long tr, .int (iZ (F 26)), .int (iZ (F 27)), .int (iZ (F 28))])), (af 1, .inl (Y 0, 200, .inl (aI (A 1)))), (af 11, .inl (Y 0, 7, .inl (aI (A 11)))), (af 12, .inl (Y 0, 36, .inl (aI (A 12)))), (af 16, .inl (Y 0, 7, .inl (aI (A 16)))), (af 19, .inl (Y 0, 72, .inl (aI (A 19)))), (af 20, .inl (Y 1, 2, .inl (aI (A 20)))), (af 21, .inl (Y 0, 360, .inl (aI (A 21)))), (af 24, .inl (Y 0, 10, .inl (aI (A 24))))] H := hP
      replace hD : va_D _ [(af 17, .inl (Y 0, 36, .inl (aI (A 17)))), (af 18, .inl (Y 0, 41, .inl (aI (va_cpy (A 17) fh (Int.toNat 0) (Int.toNat 0) 36)))), (g9, .inr (7, [.int (iZ (F 0)), .ref (af 1), .int (iZ (F 2)), .int (iZ (F 3)), .int (iZ (F 4)), .int (iZ (F 5)), .int (iZ (F 6)), .int (iZ (F 7)), .int (iZ (F 8)), .int (iZ (F 9)), .int (iZ (F 10)), .ref (af 11), .ref (af 12), .int (iZ (F 13)), .int (iZ (F 14)), .int (iZ (F 15)), .ref (af 16), .ref (af 17), .ref (af 18), .ref (af 19), .ref (af 20), .ref (af 21), .int (iZ (F 22)), .int (iZ (F 23)), .ref (af 24), .long tr, .int (iZ (F 26)), .int (iZ (F 27)), .int (iZ (F 28))])), (af 1, .inl (Y 0, 200, .inl (aI (A 1)))), (af 11, .inl (Y 0, 7, .inl (aI (A 11)))), (af 12, .inl (Y 0, 36, .inl (aI (A 12)))), (af 16, .inl (Y 0, 7, .inl (aI (A 16)))), (af 19, .inl (Y 0, 72, .inl (aI (A 19)))), (af 20, .inl (Y 1, 2, .inl (aI (A 20)))), (af 21, .inl (Y 0, 360, .inl (aI (A 21)))), (af 24, .inl (Y 0, 10, .inl (aI (A 24))))] := hD
      refine lv_aload_n hx hb dX7_mayBe_23 rfl (lv_at hl 2 rfl) ?_
      refine va_get (D := G) (ci := 7) (v := .ref (af 18)) (C := RX7) (T := TX7) (N := 29) hx hb hts hFX7 hown hK.1 hP 2 rfl rfl 18 (by decide) kf32 (fun _ h9 => h9) rfl dX7_mayBe_24 ?_
      refine z_iconst hx hb dX7_mayBe_27 ?_
      refine lv_iload_n hx hb dX7_mayBe_28 rfl (lv_at hl 0 rfl) ?_
      refine z_iast hx hb hK.1 hP hD hS 1 0 rfl rfl 1 (by omega) (by decide) dX7_mayBe_29 (fun H locs hP hD hS => ?_)
      replace hP : va_P G vwCl [(af 17, .inl (Y 0, 36, .inl (aI (A 17)))), (af 18, .inl (Y 0, 41, .inl (aI (va_up (va_cpy (A 17) fh (Int.toNat 0) (Int.toNat 0) 36) 1 ((i + 1 : Nat) : Int))))), (g9, .inr (7, [.int (iZ (F 0)), .ref (af 1), .int (iZ (F 2)), .int (iZ (F 3)), .int (iZ (F 4)), .int (iZ (F 5)), .int (iZ (F 6)), .int (iZ (F 7)), .int (iZ (F 8)), .int (iZ (F 9)), .int (iZ (F 10)), .ref (af 11), .ref (af 12), .int (iZ (F 13)), .int (iZ (F 14)), .int (iZ (F 15)), .ref (af 16), .ref (af 17), .ref (af 18), .ref (af 19), .ref (af 20), .ref (af 21), .int (iZ (F 22)), .int (iZ (F 23)), .ref (af 24), .long tr, .int (iZ (F 26)), .int (iZ (F 27)), .int (iZ (F 28))])), (af 1, .inl (Y 0, 200, .inl (aI (A 1)))), (af 11, .inl (Y 0, 7, .inl (aI (A 11)))), (af 12, .inl (Y 0, 36, .inl (aI (A 12)))), (af 16, .inl (Y 0, 7, .inl (aI (A 16)))), (af 19, .inl (Y 0, 72, .inl (aI (A 19)))), (af 20, .inl (Y 1, 2, .inl (aI (A 20)))), (af 21, .inl (Y 0, 360, .inl (aI (A 21)))), (af 24, .inl (Y 0, 10, .inl (aI (A 24))))] H := hP
      replace hD : va_D _ [(af 17, .inl (Y 0, 36, .inl (aI (A 17)))), (af 18, .inl (Y 0, 41, .inl (aI (va_up (va_cpy (A 17) fh (Int.toNat 0) (Int.toNat 0) 36) 1 ((i + 1 : Nat) : Int))))), (g9, .inr (7, [.int (iZ (F 0)), .ref (af 1), .int (iZ (F 2)), .int (iZ (F 3)), .int (iZ (F 4)), .int (iZ (F 5)), .int (iZ (F 6)), .int (iZ (F 7)), .int (iZ (F 8)), .int (iZ (F 9)), .int (iZ (F 10)), .ref (af 11), .ref (af 12), .int (iZ (F 13)), .int (iZ (F 14)), .int (iZ (F 15)), .ref (af 16), .ref (af 17), .ref (af 18), .ref (af 19), .ref (af 20), .ref (af 21), .int (iZ (F 22)), .int (iZ (F 23)), .ref (af 24), .long tr, .int (iZ (F 26)), .int (iZ (F 27)), .int (iZ (F 28))])), (af 1, .inl (Y 0, 200, .inl (aI (A 1)))), (af 11, .inl (Y 0, 7, .inl (aI (A 11)))), (af 12, .inl (Y 0, 36, .inl (aI (A 12)))), (af 16, .inl (Y 0, 7, .inl (aI (A 16)))), (af 19, .inl (Y 0, 72, .inl (aI (A 19)))), (af 20, .inl (Y 1, 2, .inl (aI (A 20)))), (af 21, .inl (Y 0, 360, .inl (aI (A 21)))), (af 24, .inl (Y 0, 10, .inl (aI (A 24))))] := hD
      refine z_iconst hx hb dX7_mayBe_30 ?_
      refine z_top (show 1 = bZ true from rfl) ?_
      refine lv_istore_n (lv' := [(3, .int (iZ (bZ true))), (2, .int (iZ ((i + 1 : Nat) : Int))), (1, .int (iZ ((q : Nat) : Int))), (0, .ref g9)]) hx hb dX7_mayBe_31 rfl hl (by decide) rfl (fun ls hl => ?_)
      refine z_iconst hx hb dX7_mayBe_32 ?_
      refine lv_istore (lv' := [(4, .int (iZ 0)), (3, .int (iZ (bZ true))), (2, .int (iZ ((i + 1 : Nat) : Int))), (1, .int (iZ ((q : Nat) : Int))), (0, .ref g9)]) hx hb dX7_mayBe_33 hl (by decide) rfl (fun ls hl => ?_)
      obtain ⟨k, w9, hI, hl1⟩ : ∃ (k : Nat) (w9 : Bool), (w9 = soN (kS (kF F A (A 17)) 0 4 ((i + 1 : Nat) : Int)) (fun j => A 24 (2 * j)) (fun j => A 24 (2 * j + 1)) k ∧ (k : Int) ≤ F 23) ∧ lv_has ls 5 [(4, .int (iZ ((k : Nat) : Int))), (3, .int (iZ (bZ w9))), (2, .int (iZ ((i + 1 : Nat) : Int))), (1, .int (iZ ((q : Nat) : Int))), (0, .ref g9)] := ⟨0, true, by exact ⟨rfl, by omega⟩, lv_sub hl [0, 1, 2, 3, 4] rfl⟩
      clear hl
      have hl := hl1
      clear hl1
      obtain ⟨n_, hn_⟩ : ∃ n_ : Nat, (F 23).toNat - k < n_ := ⟨_, Nat.lt_succ_self _⟩
      induction n_ generalizing k w9 ls with
      | zero => exact absurd hn_ (Nat.not_lt_zero _)
      | succ n_ ih3 =>
        have hc0 := rc.2 k
        refine lv_iload hx hb dX7_mayBe_35 (lv_at hl 0 rfl) ?_
        refine lv_aload_n hx hb dX7_mayBe_37 rfl (lv_at hl 4 rfl) ?_
        refine va_get (D := G) (ci := 7) (v := .int (iZ (F 23))) (C := RX7) (T := TX7) (N := 29) hx hb hts hFX7 hown hK.1 hP 2 rfl rfl 23 (by decide) kf122 (fun _ h9 => h9) rfl dX7_mayBe_38 ?_
        refine z_icmp_ge (tgt := 91) hx hb dX7_mayBe_41 (by decide) (by omega) (fun c_4 => ?_) (fun c_4 => ?_)
        · skip
          have hw9 : w9 = snH (kF F A (A 17)) (fun j => A 24 (2 * j)) (fun j => A 24 (2 * j + 1)) (F 23).toNat (i + 1) := by rw [hI.1, show k = (F 23).toNat by omega]; rfl
          refine lv_iload_n hx hb dX7_mayBe_91 rfl (lv_at hl 3 rfl) ?_
          refine lv_iload_n hx hb dX7_mayBe_92 rfl (lv_at hl 1 rfl) ?_
          refine z_ifb_eq (tgt := 104) hx hb dX7_mayBe_93 (by decide) (fun c_5 => ?_) (fun c_5 => ?_)
          · skip
            refine z_iconst hx hb dX7_mayBe_104 ?_
            refine z_ior (a := q) (b := 0) hx hb dX7_mayBe_105 rfl (by omega) ?_
            refine lv_istore_n (lv' := [(1, .int (iZ ((q ||| 0 : Nat) : Int))), (4, .int (iZ ((k : Nat) : Int))), (3, .int (iZ (bZ w9))), (2, .int (iZ ((i + 1 : Nat) : Int))), (0, .ref g9)]) hx hb dX7_mayBe_106 rfl hl (by decide) rfl (fun ls hl => ?_)
            refine lv_iinc (v := iZ ((i + 1 + 1 : Nat) : Int)) (lv' := [(2, .int (iZ ((i + 1 + 1 : Nat) : Int))), (1, .int (iZ ((q ||| 0 : Nat) : Int))), (4, .int (iZ ((k : Nat) : Int))), (3, .int (iZ (bZ w9))), (0, .ref g9)]) hx hb dX7_mayBe_107 hl (k := 3) rfl (iZ_inc _) (by decide) rfl (fun ls hl => ?_)
            refine lv_goto (tgt := 4) hx hb dX7_mayBe_110 (by decide) ?_
            exact ih1 (ls := ls) (i := i + 1) (q := q ||| 0) (fh := va_up (va_cpy (A 17) fh (Int.toNat 0) (Int.toNat 0) 36) 1 ((i + 1 : Nat) : Int)) (H := H) (locs := locs) (hS := hS) (hI := by refine ⟨by omega, ?_⟩; rw [snN, hJ.2]; first | rw [if_pos (show snH (kF F A (A 17)) (fun j => A 24 (2 * j)) (fun j => A 24 (2 * j + 1)) (F 23).toNat (i + 1) = true from by rw [← hw9]; assumption)] | rw [if_neg (show ¬ snH (kF F A (A 17)) (fun j => A 24 (2 * j)) (fun j => A 24 (2 * j + 1)) (F 23).toNat (i + 1) = true from by rw [← hw9, show w9 = false by assumption]; exact Bool.false_ne_true)]) (hl := lv_sub hl [0, 1, 4] rfl) (hP := hP.sub [2, 3, 4, 5, 6, 0, 1, 7, 8, 9, 10] rfl) (hD := hD.sub [2, 3, 4, 5, 6, 0, 1, 7, 8, 9, 10] (by decide) rfl) (hn_ := by omega)
          · skip
            refine z_iconst hx hb dX7_mayBe_96 ?_
            refine lv_iload_n hx hb dX7_mayBe_97 rfl (lv_at hl 2 rfl) ?_
            refine z_iconst hx hb dX7_mayBe_98 ?_
            refine z_isub hx hb dX7_mayBe_99 ?_
            refine z_ishl1 (k := i) hx hb dX7_mayBe_100 (by omega) ?_
            refine lv_goto (tgt := 105) hx hb dX7_mayBe_101 (by decide) ?_
            refine z_ior (a := q) (b := (2 ^ i)) hx hb dX7_mayBe_105 rfl rfl ?_
            refine lv_istore_n (lv' := [(1, .int (iZ ((q ||| (2 ^ i) : Nat) : Int))), (4, .int (iZ ((k : Nat) : Int))), (3, .int (iZ (bZ w9))), (2, .int (iZ ((i + 1 : Nat) : Int))), (0, .ref g9)]) hx hb dX7_mayBe_106 rfl hl (by decide) rfl (fun ls hl => ?_)
            refine lv_iinc (v := iZ ((i + 1 + 1 : Nat) : Int)) (lv' := [(2, .int (iZ ((i + 1 + 1 : Nat) : Int))), (1, .int (iZ ((q ||| (2 ^ i) : Nat) : Int))), (4, .int (iZ ((k : Nat) : Int))), (3, .int (iZ (bZ w9))), (0, .ref g9)]) hx hb dX7_mayBe_107 hl (k := 3) rfl (iZ_inc _) (by decide) rfl (fun ls hl => ?_)
            refine lv_goto (tgt := 4) hx hb dX7_mayBe_110 (by decide) ?_
            exact ih1 (ls := ls) (i := i + 1) (q := q ||| (2 ^ i)) (fh := va_up (va_cpy (A 17) fh (Int.toNat 0) (Int.toNat 0) 36) 1 ((i + 1 : Nat) : Int)) (H := H) (locs := locs) (hS := hS) (hI := by refine ⟨by omega, ?_⟩; rw [snN, hJ.2]; first | rw [if_pos (show snH (kF F A (A 17)) (fun j => A 24 (2 * j)) (fun j => A 24 (2 * j + 1)) (F 23).toNat (i + 1) = true from by rw [← hw9]; assumption)] | rw [if_neg (show ¬ snH (kF F A (A 17)) (fun j => A 24 (2 * j)) (fun j => A 24 (2 * j + 1)) (F 23).toNat (i + 1) = true from by rw [← hw9, show w9 = false by assumption]; exact Bool.false_ne_true)]) (hl := lv_sub hl [0, 1, 4] rfl) (hP := hP.sub [2, 3, 4, 5, 6, 0, 1, 7, 8, 9, 10] rfl) (hD := hD.sub [2, 3, 4, 5, 6, 0, 1, 7, 8, 9, 10] (by decide) rfl) (hn_ := by omega)
        · skip
          refine lv_iload_n hx hb dX7_mayBe_44 rfl (lv_at hl 1 rfl) ?_
          refine z_ifb_eq (tgt := 83) hx hb dX7_mayBe_45 (by decide) (fun c_6 => ?_) (fun c_6 => ?_)
          · skip
            refine z_iconst hx hb dX7_mayBe_83 ?_
            refine z_top (show 0 = bZ false from rfl) ?_
            refine lv_istore_n (lv' := [(3, .int (iZ (bZ false))), (4, .int (iZ ((k : Nat) : Int))), (2, .int (iZ ((i + 1 : Nat) : Int))), (1, .int (iZ ((q : Nat) : Int))), (0, .ref g9)]) hx hb dX7_mayBe_84 rfl hl (by decide) rfl (fun ls hl => ?_)
            refine lv_iinc (v := iZ ((k + 1 : Nat) : Int)) (lv' := [(4, .int (iZ ((k + 1 : Nat) : Int))), (3, .int (iZ (bZ false))), (2, .int (iZ ((i + 1 : Nat) : Int))), (1, .int (iZ ((q : Nat) : Int))), (0, .ref g9)]) hx hb dX7_mayBe_85 hl (k := 1) rfl (iZ_inc _) (by decide) rfl (fun ls hl => ?_)
            refine lv_goto (tgt := 35) hx hb dX7_mayBe_88 (by decide) ?_
            exact ih3 (ls := ls) (k := k + 1) (w9 := false) (hI := by refine ⟨?_, by omega⟩; rw [soN, ← hI.1]; first | (rw [show w9 = false by assumption]; rfl) | (rw [show w9 = true by assumption, Bool.true_and]; first | exact (decide_eq_true (show wb (kS (kF F A (A 17)) 0 4 ((i + 1 : Nat) : Int)) (A 24 (2 * k)).toNat 1 = A 24 (2 * k + 1) by omega)).symm | exact (decide_eq_false (show ¬ wb (kS (kF F A (A 17)) 0 4 ((i + 1 : Nat) : Int)) (A 24 (2 * k)).toNat 1 = A 24 (2 * k + 1) by omega)).symm)) (hl := lv_sub hl [0, 1, 2, 3, 4] rfl) (hn_ := by omega)
          · skip
            have hc1 := hc0 (by omega)
            refine lv_aload_n hx hb dX7_mayBe_48 rfl (lv_at hl 4 rfl) ?_
            refine lv_aload_n hx hb dX7_mayBe_49 rfl (lv_at hl 4 rfl) ?_
            refine va_get (D := G) (ci := 7) (v := .ref (af 18)) (C := RX7) (T := TX7) (N := 29) hx hb hts hFX7 hown hK.1 hP 2 rfl rfl 18 (by decide) kf32 (fun _ h9 => h9) rfl dX7_mayBe_50 ?_
            refine lv_aload_n hx hb dX7_mayBe_53 rfl (lv_at hl 4 rfl) ?_
            refine va_get (D := G) (ci := 7) (v := .ref (af 24)) (C := RX7) (T := TX7) (N := 29) hx hb hts hFX7 hown hK.1 hP 2 rfl rfl 24 (by decide) kf45 (fun _ h9 => h9) rfl dX7_mayBe_54 ?_
            refine z_iconst hx hb dX7_mayBe_57 ?_
            refine lv_iload hx hb dX7_mayBe_58 (lv_at hl 0 rfl) ?_
            refine z_imul hx hb dX7_mayBe_60 ?_
            refine z_iald hx hb hK.1 hP 10 0 rfl rfl (2 * k) (by omega) (by decide) dX7_mayBe_61 ?_
            refine ro_V (As := [.ref (af 18), .int (iZ ((A 24) (2 * k)))]) (rest := []) ⟨hx, hb, hml, hown, hts⟩ (c_X7_forOf l G Y g9 af F (arrs (A 1) (A 11) (A 12) (A 16) (A 17) (va_up (va_cpy (A 17) fh (Int.toNat 0) (Int.toNat 0) 36) 1 ((i + 1 : Nat) : Int)) (A 19) (A 20) (A 21) (A 24)) tr (af 18) 6 41 (va_up (va_cpy (A 17) fh (Int.toNat 0) (Int.toNat 0) 36) 1 ((i + 1 : Nat) : Int)) rfl (by decide) (mV_A (A := A) (S := va_up (va_cpy (A 17) fh (Int.toNat 0) (Int.toNat 0) 36) 1 ((i + 1 : Nat) : Int)) (B := (arrs (A 1) (A 11) (A 12) (A 16) (A 17) (va_up (va_cpy (A 17) fh (Int.toNat 0) (Int.toNat 0) 36) 1 ((i + 1 : Nat) : Int)) (A 19) (A 20) (A 21) (A 24))) (suS_V hV (by omega) hno) rfl) ((A 24) (2 * k)) (by omega)) (cwV 2 hts gX7_mayBe_X7_forOf rfl rfl rfl (by decide +kernel) ⟨Nat.le_of_ble_eq_true rfl, Nat.le_of_ble_eq_true rfl⟩) hK (hP.sub (ws' := moW Y g9 af F (arrs (A 1) (A 11) (A 12) (A 16) (A 17) (va_up (va_cpy (A 17) fh (Int.toNat 0) (Int.toNat 0) 36) 1 ((i + 1 : Nat) : Int)) (A 19) (A 20) (A 21) (A 24)) tr) [2, 3, 4, 5, 6, 0, 1, 7, 8, 9, 10] rfl) 0 rfl rfl rfl hl.1 rfl (Nat.le_of_ble_eq_true rfl) dX7_mayBe_62 ⟨Nat.zero_le _, Nat.zero_le _⟩ ?_
            rw [kM_no hno]
            have hb_7 := wb_in (kM_WF (mV_A (A := A) (S := va_up (va_cpy (A 17) fh (Int.toNat 0) (Int.toNat 0) 36) 1 ((i + 1 : Nat) : Int)) (B := (arrs (A 1) (A 11) (A 12) (A 16) (A 17) (va_up (va_cpy (A 17) fh (Int.toNat 0) (Int.toNat 0) 36) 1 ((i + 1 : Nat) : Int)) (A 19) (A 20) (A 21) (A 24))) (suS_V hV (by omega) hno) rfl)) ((A 24) (2 * k)).toNat 1
            rw [kM_no hno] at hb_7
            have hs9 : wb (kF F (arrs (A 1) (A 11) (A 12) (A 16) (A 17) (va_up (va_cpy (A 17) fh (Int.toNat 0) (Int.toNat 0) 36) 1 ((i + 1 : Nat) : Int)) (A 19) (A 20) (A 21) (A 24)) (va_up (va_cpy (A 17) fh (Int.toNat 0) (Int.toNat 0) 36) 1 ((i + 1 : Nat) : Int))) ((A 24) (2 * k)).toNat 1 = wb (kS (kF F A (A 17)) 0 4 ((i + 1 : Nat) : Int)) (A 24 (2 * k)).toNat 1 := wb_c (suS_e hV) _ _
            refine lv_aload_n hx hb dX7_mayBe_65 rfl (lv_at hl 4 rfl) ?_
            refine va_get (D := G) (ci := 7) (v := .ref (af 24)) (C := RX7) (T := TX7) (N := 29) hx hb hts hFX7 hown hK.1 hP 2 rfl rfl 24 (by decide) kf45 (fun _ h9 => h9) rfl dX7_mayBe_66 ?_
            refine z_iconst hx hb dX7_mayBe_69 ?_
            refine lv_iload hx hb dX7_mayBe_70 (lv_at hl 0 rfl) ?_
            refine z_imul hx hb dX7_mayBe_72 ?_
            refine z_iconst hx hb dX7_mayBe_73 ?_
            refine z_iadd hx hb dX7_mayBe_74 ?_
            refine z_iald hx hb hK.1 hP 10 0 rfl rfl ((2 * k) + 1) (by omega) (by decide) dX7_mayBe_75 ?_
            refine z_icmp_ne (tgt := 83) hx hb dX7_mayBe_76 (by decide) (by omega) (fun c_12 => ?_) (fun c_12 => ?_)
            · skip
              refine z_iconst hx hb dX7_mayBe_83 ?_
              refine z_top (show 0 = bZ false from rfl) ?_
              refine lv_istore_n (lv' := [(3, .int (iZ (bZ false))), (4, .int (iZ ((k : Nat) : Int))), (2, .int (iZ ((i + 1 : Nat) : Int))), (1, .int (iZ ((q : Nat) : Int))), (0, .ref g9)]) hx hb dX7_mayBe_84 rfl hl (by decide) rfl (fun ls hl => ?_)
              refine lv_iinc (v := iZ ((k + 1 : Nat) : Int)) (lv' := [(4, .int (iZ ((k + 1 : Nat) : Int))), (3, .int (iZ (bZ false))), (2, .int (iZ ((i + 1 : Nat) : Int))), (1, .int (iZ ((q : Nat) : Int))), (0, .ref g9)]) hx hb dX7_mayBe_85 hl (k := 1) rfl (iZ_inc _) (by decide) rfl (fun ls hl => ?_)
              refine lv_goto (tgt := 35) hx hb dX7_mayBe_88 (by decide) ?_
              exact ih3 (ls := ls) (k := k + 1) (w9 := false) (hI := by refine ⟨?_, by omega⟩; rw [soN, ← hI.1]; first | (rw [show w9 = false by assumption]; rfl) | (rw [show w9 = true by assumption, Bool.true_and]; first | exact (decide_eq_true (show wb (kS (kF F A (A 17)) 0 4 ((i + 1 : Nat) : Int)) (A 24 (2 * k)).toNat 1 = A 24 (2 * k + 1) by omega)).symm | exact (decide_eq_false (show ¬ wb (kS (kF F A (A 17)) 0 4 ((i + 1 : Nat) : Int)) (A 24 (2 * k)).toNat 1 = A 24 (2 * k + 1) by omega)).symm)) (hl := lv_sub hl [0, 1, 2, 3, 4] rfl) (hn_ := by omega)
            · skip
              refine z_iconst hx hb dX7_mayBe_79 ?_
              refine lv_goto (tgt := 84) hx hb dX7_mayBe_80 (by decide) ?_
              refine z_top (show 1 = bZ true from rfl) ?_
              refine lv_istore_n (lv' := [(3, .int (iZ (bZ true))), (4, .int (iZ ((k : Nat) : Int))), (2, .int (iZ ((i + 1 : Nat) : Int))), (1, .int (iZ ((q : Nat) : Int))), (0, .ref g9)]) hx hb dX7_mayBe_84 rfl hl (by decide) rfl (fun ls hl => ?_)
              refine lv_iinc (v := iZ ((k + 1 : Nat) : Int)) (lv' := [(4, .int (iZ ((k + 1 : Nat) : Int))), (3, .int (iZ (bZ true))), (2, .int (iZ ((i + 1 : Nat) : Int))), (1, .int (iZ ((q : Nat) : Int))), (0, .ref g9)]) hx hb dX7_mayBe_85 hl (k := 1) rfl (iZ_inc _) (by decide) rfl (fun ls hl => ?_)
              refine lv_goto (tgt := 35) hx hb dX7_mayBe_88 (by decide) ?_
              exact ih3 (ls := ls) (k := k + 1) (w9 := true) (hI := by refine ⟨?_, by omega⟩; rw [soN, ← hI.1]; first | (rw [show w9 = false by assumption]; rfl) | (rw [show w9 = true by assumption, Bool.true_and]; first | exact (decide_eq_true (show wb (kS (kF F A (A 17)) 0 4 ((i + 1 : Nat) : Int)) (A 24 (2 * k)).toNat 1 = A 24 (2 * k + 1) by omega)).symm | exact (decide_eq_false (show ¬ wb (kS (kF F A (A 17)) 0 4 ((i + 1 : Nat) : Int)) (A 24 (2 * k)).toNat 1 = A 24 (2 * k + 1) by omega)).symm)) (hl := lv_sub hl [0, 1, 2, 3, 4] rfl) (hn_ := by omega)
