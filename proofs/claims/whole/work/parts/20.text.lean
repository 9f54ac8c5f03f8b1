set_option maxHeartbeats 4000000 in
set_option maxRecDepth 100000 in
theorem c_X5_skipBlanks (l : Launch) (G : va_G) (Y : Nat → ClassId) (h7 xa : Nat) (tx : Nat → Int) (hX : tX tx) (ln pl : Nat) (su : Bool) (tk : Nat) (nu : Int) (r : pl ≤ ln ∧ ln ≤ 200) : Met l yX5_skipBlanks wsX5_skipBlanks ({ frames := 0, cells := 0, slots := 0, locals := 0 }) (mP G Y [.ref h7] (txW Y h7 xa tx ln pl su tk nu)) (mQ G (txW Y h7 xa tx ln pl su tk nu) none (txW Y h7 xa tx ln (sk tx ln pl) su (sk tx ln pl) nu)) 0 0 (fun q => q ∈ List.map Prod.fst (txW Y h7 xa tx ln pl su tk nu)) := by
  refine Met.ofW (cc := cX5_skipBlanks) (maxL := 1) (ret := none) (by decide) rfl ?_
  intro p e s m args below meth c s₁ B hml hv
  obtain ⟨rfl, hK, hP, hD0⟩ := hv
  have hx := B.exec
  have hb := B.bytes
  have hr := B.returns
  have hts := atoms_spec (ws := wsX5_skipBlanks) B.pre
  have hown : s.vm.findClass RX5 = some m.cls := findClass_of_methodNamed B.named
  have hlocks := B.notSynchronized
  have hFX5 : ∀ w ∈ wsX50, w ∈ wsX5_skipBlanks := by decide +kernel
  have kf24 := (hts (.fieldLink RX5 24 "ShadeVotes$Text" "place" "I") (by decide +kernel))
  have kf15 := (hts (.fieldLink RX5 15 "ShadeVotes$Text" "length" "I") (by decide +kernel))
  have kf42 := (hts (.fieldLink RX5 42 "ShadeVotes$Text" "tokenPlace" "I") (by decide +kernel))
  have kf9 := (hts (.fieldLink RX5 9 "ShadeVotes$Text" "letters" "[C") (by decide +kernel))
  have hD := va_D_self hD0
  have hS : va_S (fun q => q ∈ List.map Prod.fst (txW Y h7 xa tx ln pl su tk nu)) s.heap s.heap [] := va_S.rf
  obtain ⟨H, hHe⟩ : ∃ H, H = s.heap := ⟨_, rfl⟩
  rw [← hHe] at hP
  replace hS : va_S (fun q => q ∈ List.map Prod.fst (txW Y h7 xa tx ln pl su tk nu)) s.heap H [] := by rw [hHe]; exact hS
  have hl := lv_entry ([.ref h7]) (n := 1) (Nat.le_of_ble_eq_true rfl)
  rw [lg_entry_eq]
  generalize (lg_sl ([.ref h7]) ++ List.replicate (1 - (lg_sl ([.ref h7])).length) Slot.unset).toArray = ls at hl ⊢
  replace hl : lv_has ls 1 [(0, .ref h7)] := hl
  obtain ⟨locs, hLe⟩ : ∃ locs : List Loc, locs = [] := ⟨_, rfl⟩
  rw [← hLe] at hS ⊢
  have hW0 : ∀ {Q : State → Prop} {g : JFrame}, W p l e ({ frames := 0, cells := 0, slots := 0, locals := 0 }) s m [.ref h7].toArray below meth c H locs 0 0 Q g → W p l e ({ frames := 0, cells := 0, slots := 0, locals := 0 }) s m [.ref h7].toArray below meth c s.heap locs 0 0 Q g := fun h => by rw [← hHe]; exact h
  refine hW0 ?_
  clear hW0 hHe hLe
  obtain ⟨q, hI, hl1, hP1, hD1⟩ : ∃ (q : Nat), (q ≤ ln ∧ sk tx ln q = sk tx ln pl) ∧ lv_has ls 1 [(0, .ref h7)] ∧ va_P G vwCl [(h7, .inr (5, [.ref xa, .int (iZ ((ln : Nat) : Int)), .int (iZ ((q : Nat) : Int)), .int (iZ (bZ su)), .int (iZ ((tk : Nat) : Int)), .int (iZ nu)])), (xa, .inl (Y 2, 200, .inl (aI tx)))] H ∧ va_D (fun q => q ∈ List.map Prod.fst (txW Y h7 xa tx ln pl su tk nu)) [(h7, .inr (5, [.ref xa, .int (iZ ((ln : Nat) : Int)), .int (iZ ((q : Nat) : Int)), .int (iZ (bZ su)), .int (iZ ((tk : Nat) : Int)), .int (iZ nu)])), (xa, .inl (Y 2, 200, .inl (aI tx)))] := ⟨pl, by exact ⟨r.1, rfl⟩, lv_sub hl [0] rfl, hP, hD⟩
  clear hl hP hD
  have hl := hl1
  clear hl1
  have hP := hP1
  have hD := hD1
  clear hP1 hD1
  obtain ⟨n_, hn_⟩ : ∃ n_ : Nat, ln - q < n_ := ⟨_, Nat.lt_succ_self _⟩
  induction n_ generalizing q ls H locs with
  | zero => exact absurd hn_ (Nat.not_lt_zero _)
  | succ n_ ih1 =>
    refine lv_aload_n hx hb dX5_skipBlanks_0 rfl (lv_at hl 0 rfl) ?_
    refine va_get (D := G) (ci := 5) (v := .int (iZ ((q : Nat) : Int))) (C := RX5) (T := TX5) (N := 6) hx hb hts hFX5 hown hK.1 hP 0 rfl rfl 2 (by decide) kf24 (fun _ h9 => h9) rfl dX5_skipBlanks_1 ?_
    refine lv_aload_n hx hb dX5_skipBlanks_4 rfl (lv_at hl 0 rfl) ?_
    refine va_get (D := G) (ci := 5) (v := .int (iZ ((ln : Nat) : Int))) (C := RX5) (T := TX5) (N := 6) hx hb hts hFX5 hown hK.1 hP 0 rfl rfl 1 (by decide) kf15 (fun _ h9 => h9) rfl dX5_skipBlanks_5 ?_
    refine z_icmp_ge (tgt := 38) hx hb dX5_skipBlanks_8 (by decide) (by omega) (fun c_2 => ?_) (fun c_2 => ?_)
    · skip
      refine lv_aload_n hx hb dX5_skipBlanks_38 rfl (lv_at hl 0 rfl) ?_
      refine lv_aload_n hx hb dX5_skipBlanks_39 rfl (lv_at hl 0 rfl) ?_
      refine va_get (D := G) (ci := 5) (v := .int (iZ ((q : Nat) : Int))) (C := RX5) (T := TX5) (N := 6) hx hb hts hFX5 hown hK.1 hP 0 rfl rfl 2 (by decide) kf24 (fun _ h9 => h9) rfl dX5_skipBlanks_40 ?_
      refine va_put (D := G) (ci := 5) (v := .int (iZ ((q : Nat) : Int))) (ty := .int) (C := RX5) (T := TX5) (N := 6) hx hb hts hFX5 tyX5 tyX5_ok nmX5 hown hK.1 hP hD hS 0 rfl rfl 4 (by decide) kf42 (fun _ h9 => h9) rfl (by decide +kernel) rfl rfl (Nat.le_of_ble_eq_true rfl) dX5_skipBlanks_43 (fun H locs hP hD hS => ?_)
      replace hP : va_P G vwCl [(h7, .inr (5, [.ref xa, .int (iZ ((ln : Nat) : Int)), .int (iZ ((q : Nat) : Int)), .int (iZ (bZ su)), .int (iZ ((q : Nat) : Int)), .int (iZ nu)])), (xa, .inl (Y 2, 200, .inl (aI tx)))] H := hP
      replace hD : va_D _ [(h7, .inr (5, [.ref xa, .int (iZ ((ln : Nat) : Int)), .int (iZ ((q : Nat) : Int)), .int (iZ (bZ su)), .int (iZ ((q : Nat) : Int)), .int (iZ nu)])), (xa, .inl (Y 2, 200, .inl (aI tx)))] := hD
      have e9 : sk tx ln pl = q := by rw [← hI.2]; exact sk_stop (by omega)
      have hP9 : va_P G vwCl (txW Y h7 xa tx ln (sk tx ln pl) su (sk tx ln pl) nu) H := by rw [e9]; exact hP
      exact W.vret hx hb hr (fun t9 ht9 _ => ⟨rfl, by rw [ht9]; exact hP9, hS.F ht9⟩) hS.2.2 dX5_skipBlanks_46
    · skip
      refine lv_aload_n hx hb dX5_skipBlanks_11 rfl (lv_at hl 0 rfl) ?_
      refine va_get (D := G) (ci := 5) (v := .ref xa) (C := RX5) (T := TX5) (N := 6) hx hb hts hFX5 hown hK.1 hP 0 rfl rfl 0 (by decide) kf9 (fun _ h9 => h9) rfl dX5_skipBlanks_12 ?_
      refine lv_aload_n hx hb dX5_skipBlanks_15 rfl (lv_at hl 0 rfl) ?_
      refine va_get (D := G) (ci := 5) (v := .int (iZ ((q : Nat) : Int))) (C := RX5) (T := TX5) (N := 6) hx hb hts hFX5 hown hK.1 hP 0 rfl rfl 2 (by decide) kf24 (fun _ h9 => h9) rfl dX5_skipBlanks_16 ?_
      refine z_cald hx hb hK.1 hP 1 2 rfl rfl q (by omega) (by decide) dX5_skipBlanks_19 ?_
      have hb_3 := hX q (by omega)
      refine z_bipush hx hb dX5_skipBlanks_20 (by decide) ?_
      refine z_icmp_ne (tgt := 38) hx hb dX5_skipBlanks_22 (by decide) (by omega) (fun c_4 => ?_) (fun c_4 => ?_)
      · skip
        refine lv_aload_n hx hb dX5_skipBlanks_38 rfl (lv_at hl 0 rfl) ?_
        refine lv_aload_n hx hb dX5_skipBlanks_39 rfl (lv_at hl 0 rfl) ?_
        refine va_get (D := G) (ci := 5) (v := .int (iZ ((q : Nat) : Int))) (C := RX5) (T := TX5) (N := 6) hx hb hts hFX5 hown hK.1 hP 0 rfl rfl 2 (by decide) kf24 (fun _ h9 => h9) rfl dX5_skipBlanks_40 ?_
        refine va_put (D := G) (ci := 5) (v := .int (iZ ((q : Nat) : Int))) (ty := .int) (C := RX5) (T := TX5) (N := 6) hx hb hts hFX5 tyX5 tyX5_ok nmX5 hown hK.1 hP hD hS 0 rfl rfl 4 (by decide) kf42 (fun _ h9 => h9) rfl (by decide +kernel) rfl rfl (Nat.le_of_ble_eq_true rfl) dX5_skipBlanks_43 (fun H locs hP hD hS => ?_)
        replace hP : va_P G vwCl [(h7, .inr (5, [.ref xa, .int (iZ ((ln : Nat) : Int)), .int (iZ ((q : Nat) : Int)), .int (iZ (bZ su)), .int (iZ ((q : Nat) : Int)), .int (iZ nu)])), (xa, .inl (Y 2, 200, .inl (aI tx)))] H := hP
        replace hD : va_D _ [(h7, .inr (5, [.ref xa, .int (iZ ((ln : Nat) : Int)), .int (iZ ((q : Nat) : Int)), .int (iZ (bZ su)), .int (iZ ((q : Nat) : Int)), .int (iZ nu)])), (xa, .inl (Y 2, 200, .inl (aI tx)))] := hD
        have e9 : sk tx ln pl = q := by rw [← hI.2]; exact sk_stop (by omega)
        have hP9 : va_P G vwCl (txW Y h7 xa tx ln (sk tx ln pl) su (sk tx ln pl) nu) H := by rw [e9]; exact hP
        exact W.vret hx hb hr (fun t9 ht9 _ => ⟨rfl, by rw [ht9]; exact hP9, hS.F ht9⟩) hS.2.2 dX5_skipBlanks_46
      · skip
        refine lv_aload_n hx hb dX5_skipBlanks_25 rfl (lv_at hl 0 rfl) ?_
        refine lv_dup hx hb dX5_skipBlanks_26 rfl ?_
        refine va_get (D := G) (ci := 5) (v := .int (iZ ((q : Nat) : Int))) (C := RX5) (T := TX5) (N := 6) hx hb hts hFX5 hown hK.1 hP 0 rfl rfl 2 (by decide) kf24 (fun _ h9 => h9) rfl dX5_skipBlanks_27 ?_
        refine z_iconst hx hb dX5_skipBlanks_30 ?_
        refine z_iadd hx hb dX5_skipBlanks_31 ?_
        refine z_top (show (((q : Nat) : Int) + 1) = ((q + 1 : Nat) : Int) by omega) ?_
        refine va_put (D := G) (ci := 5) (v := .int (iZ ((q + 1 : Nat) : Int))) (ty := .int) (C := RX5) (T := TX5) (N := 6) hx hb hts hFX5 tyX5 tyX5_ok nmX5 hown hK.1 hP hD hS 0 rfl rfl 2 (by decide) kf24 (fun _ h9 => h9) rfl (by decide +kernel) rfl rfl (Nat.le_of_ble_eq_true rfl) dX5_skipBlanks_32 (fun H locs hP hD hS => ?_)
        replace hP : va_P G vwCl [(h7, .inr (5, [.ref xa, .int (iZ ((ln : Nat) : Int)), .int (iZ ((q + 1 : Nat) : Int)), .int (iZ (bZ su)), .int (iZ ((tk : Nat) : Int)), .int (iZ nu)])), (xa, .inl (Y 2, 200, .inl (aI tx)))] H := hP
        replace hD : va_D _ [(h7, .inr (5, [.ref xa, .int (iZ ((ln : Nat) : Int)), .int (iZ ((q + 1 : Nat) : Int)), .int (iZ (bZ su)), .int (iZ ((tk : Nat) : Int)), .int (iZ nu)])), (xa, .inl (Y 2, 200, .inl (aI tx)))] := hD
        refine lv_goto (tgt := 0) hx hb dX5_skipBlanks_35 (by decide) ?_
        exact ih1 (ls := ls) (q := q + 1) (H := H) (locs := locs) (hS := hS) (hI := by exact ⟨by omega, by rw [← hI.2]; exact (sk_step (by omega) (by omega)).symm⟩) (hl := lv_sub hl [0] rfl) (hP := hP) (hD := hD) (hn_ := by omega)

set_option maxHeartbeats 4000000 in
set_option maxRecDepth 100000 in
theorem c_X5_readSign (l : Launch) (G : va_G) (Y : Nat → ClassId) (h7 xa : Nat) (tx : Nat → Int) (hX : tX tx) (ln pl : Nat) (su : Bool) (tk : Nat) (nu : Int) (r : pl ≤ ln ∧ ln ≤ 200) (x : Int) (rx : 0 ≤ x ∧ x ≤ 255) : Met l yX5_readSign wsX5_readSign ({ frames := 1, cells := 0, slots := 0, locals := 20 }) (mP G Y [.ref h7, .int (iZ x)] (txW Y h7 xa tx ln pl su tk nu)) (mQ G (txW Y h7 xa tx ln pl su tk nu) (some (.int (iZ (bZ (sgO tx ln pl x))))) (txW Y h7 xa tx ln (sgE tx ln pl x) su (sk tx ln pl) nu)) 0 0 (fun q => q ∈ List.map Prod.fst (txW Y h7 xa tx ln pl su tk nu)) := by
  refine Met.ofW (cc := cX5_readSign) (maxL := 2) (ret := (some .boolean)) (by decide) rfl ?_
  intro p e s m args below meth c s₁ B hml hv
  obtain ⟨rfl, hK, hP, hD0⟩ := hv
  have hx := B.exec
  have hb := B.bytes
  have hr := B.returns
  have hts := atoms_spec (ws := wsX5_readSign) B.pre
  have hown : s.vm.findClass RX5 = some m.cls := findClass_of_methodNamed B.named
  have hlocks := B.notSynchronized
  have hFX5 : ∀ w ∈ wsX50, w ∈ wsX5_readSign := by decide +kernel
  have kf24 := (hts (.fieldLink RX5 24 "ShadeVotes$Text" "place" "I") (by decide +kernel))
  have kf15 := (hts (.fieldLink RX5 15 "ShadeVotes$Text" "length" "I") (by decide +kernel))
  have kf9 := (hts (.fieldLink RX5 9 "ShadeVotes$Text" "letters" "[C") (by decide +kernel))
  have hD := va_D_self hD0
  have hS : va_S (fun q => q ∈ List.map Prod.fst (txW Y h7 xa tx ln pl su tk nu)) s.heap s.heap [] := va_S.rf
  obtain ⟨H, hHe⟩ : ∃ H, H = s.heap := ⟨_, rfl⟩
  rw [← hHe] at hP
  replace hS : va_S (fun q => q ∈ List.map Prod.fst (txW Y h7 xa tx ln pl su tk nu)) s.heap H [] := by rw [hHe]; exact hS
  have hl := lv_entry ([.ref h7, .int (iZ x)]) (n := 2) (Nat.le_of_ble_eq_true rfl)
  rw [lg_entry_eq]
  generalize (lg_sl ([.ref h7, .int (iZ x)]) ++ List.replicate (2 - (lg_sl ([.ref h7, .int (iZ x)])).length) Slot.unset).toArray = ls at hl ⊢
  replace hl : lv_has ls 2 [(0, .ref h7), (1, .int (iZ x))] := hl
  obtain ⟨locs, hLe⟩ : ∃ locs : List Loc, locs = [] := ⟨_, rfl⟩
  rw [← hLe] at hS ⊢
  have hW0 : ∀ {Q : State → Prop} {g : JFrame}, W p l e ({ frames := 1, cells := 0, slots := 0, locals := 20 }) s m [.ref h7, .int (iZ x)].toArray below meth c H locs 0 0 Q g → W p l e ({ frames := 1, cells := 0, slots := 0, locals := 20 }) s m [.ref h7, .int (iZ x)].toArray below meth c s.heap locs 0 0 Q g := fun h => by rw [← hHe]; exact h
  refine hW0 ?_
  clear hW0 hHe hLe
  refine lv_aload_n hx hb dX5_readSign_0 rfl (lv_at hl 0 rfl) ?_
  have hP := hP.sub (ws' := [(h7, .inr (5, [.ref xa, .int (iZ ((ln : Nat) : Int)), .int (iZ ((pl : Nat) : Int)), .int (iZ (bZ su)), .int (iZ ((tk : Nat) : Int)), .int (iZ nu)])), (xa, .inl (Y 2, 200, .inl (aI tx)))] ++ []) [0, 1] rfl
  have hD := hD.sub (ws' := [(h7, .inr (5, [.ref xa, .int (iZ ((ln : Nat) : Int)), .int (iZ ((pl : Nat) : Int)), .int (iZ (bZ su)), .int (iZ ((tk : Nat) : Int)), .int (iZ nu)])), (xa, .inl (Y 2, 200, .inl (aI tx)))] ++ []) [0, 1] (by decide) rfl
  refine mu_V (As := []) (rest := []) (wc := [(h7, .inr (5, [.ref xa, .int (iZ ((ln : Nat) : Int)), .int (iZ ((pl : Nat) : Int)), .int (iZ (bZ su)), .int (iZ ((tk : Nat) : Int)), .int (iZ nu)])), (xa, .inl (Y 2, 200, .inl (aI tx)))]) (wc' := txW Y h7 xa tx ln (sk tx ln pl) su (sk tx ln pl) nu) (F := []) ⟨hx, hb, hml, hown, hts⟩ (c_X5_skipBlanks l G Y h7 xa tx hX ln pl su tk nu (by omega)) (cwV 0 hts gX5_readSign_X5_skipBlanks rfl rfl rfl (by decide +kernel) ⟨Nat.le_of_ble_eq_true rfl, Nat.le_of_ble_eq_true rfl⟩) hK hP hD hS 0 rfl rfl (Eq.refl [h7, xa]) rfl hl.1 rfl (Nat.le_of_ble_eq_true rfl) dX5_readSign_1 ⟨Nat.zero_le _, Nat.zero_le _⟩ (fun H locs hP hD hS => ?_)
  show W _ _ _ _ _ _ _ _ _ _ _ _ _ _ _ (F0 _ _ _ [])
  replace hP : va_P G vwCl [(h7, .inr (5, [.ref xa, .int (iZ ((ln : Nat) : Int)), .int (iZ ((sk tx ln pl : Nat) : Int)), .int (iZ (bZ su)), .int (iZ ((sk tx ln pl : Nat) : Int)), .int (iZ nu)])), (xa, .inl (Y 2, 200, .inl (aI tx)))] H := hP
  replace hD : va_D _ [(h7, .inr (5, [.ref xa, .int (iZ ((ln : Nat) : Int)), .int (iZ ((sk tx ln pl : Nat) : Int)), .int (iZ (bZ su)), .int (iZ ((sk tx ln pl : Nat) : Int)), .int (iZ nu)])), (xa, .inl (Y 2, 200, .inl (aI tx)))] := hD
  have hb_1 := sk_in (tx := tx) (ln := ln) (q := pl) (by omega)
  refine lv_aload_n hx hb dX5_readSign_4 rfl (lv_at hl 0 rfl) ?_
  refine va_get (D := G) (ci := 5) (v := .int (iZ ((sk tx ln pl : Nat) : Int))) (C := RX5) (T := TX5) (N := 6) hx hb hts hFX5 hown hK.1 hP 0 rfl rfl 2 (by decide) kf24 (fun _ h9 => h9) rfl dX5_readSign_5 ?_
  refine lv_aload_n hx hb dX5_readSign_8 rfl (lv_at hl 0 rfl) ?_
  refine va_get (D := G) (ci := 5) (v := .int (iZ ((ln : Nat) : Int))) (C := RX5) (T := TX5) (N := 6) hx hb hts hFX5 hown hK.1 hP 0 rfl rfl 1 (by decide) kf15 (fun _ h9 => h9) rfl dX5_readSign_9 ?_
  refine z_icmp_ge (tgt := 28) hx hb dX5_readSign_12 (by decide) (by omega) (fun c_2 => ?_) (fun c_2 => ?_)
  · skip
    refine z_iconst hx hb dX5_readSign_28 ?_
    have e9 : sgO tx ln pl x = false := decide_eq_false (by omega)
    refine z_top (show 0 = bZ (sgO tx ln pl x) from ?_) ?_
    · rw [e9]; rfl
    have hP9 : va_P G vwCl (txW Y h7 xa tx ln (sgE tx ln pl x) su (sk tx ln pl) nu) H := by rw [sgE_f e9]; exact hP
    exact W.zret (v := iZ (bZ (sgO tx ln pl x))) hx hb hr (b01_nar (bZ_in _)) (fun t9 ht9 _ => ⟨rfl, by rw [ht9]; exact hP9, hS.F ht9⟩) hS.2.2 dX5_readSign_29
  · skip
    refine lv_aload_n hx hb dX5_readSign_15 rfl (lv_at hl 0 rfl) ?_
    refine va_get (D := G) (ci := 5) (v := .ref xa) (C := RX5) (T := TX5) (N := 6) hx hb hts hFX5 hown hK.1 hP 0 rfl rfl 0 (by decide) kf9 (fun _ h9 => h9) rfl dX5_readSign_16 ?_
    refine lv_aload_n hx hb dX5_readSign_19 rfl (lv_at hl 0 rfl) ?_
    refine va_get (D := G) (ci := 5) (v := .int (iZ ((sk tx ln pl : Nat) : Int))) (C := RX5) (T := TX5) (N := 6) hx hb hts hFX5 hown hK.1 hP 0 rfl rfl 2 (by decide) kf24 (fun _ h9 => h9) rfl dX5_readSign_20 ?_
    refine z_cald hx hb hK.1 hP 1 2 rfl rfl (sk tx ln pl) (by omega) (by decide) dX5_readSign_23 ?_
    have hb_3 := hX (sk tx ln pl) (by omega)
    refine lv_iload_n hx hb dX5_readSign_24 rfl (lv_at hl 1 rfl) ?_
    refine z_icmp_eq (tgt := 30) hx hb dX5_readSign_25 (by decide) (by omega) (fun c_4 => ?_) (fun c_4 => ?_)
    · skip
      refine lv_aload_n hx hb dX5_readSign_30 rfl (lv_at hl 0 rfl) ?_
      refine lv_dup hx hb dX5_readSign_31 rfl ?_
      refine va_get (D := G) (ci := 5) (v := .int (iZ ((sk tx ln pl : Nat) : Int))) (C := RX5) (T := TX5) (N := 6) hx hb hts hFX5 hown hK.1 hP 0 rfl rfl 2 (by decide) kf24 (fun _ h9 => h9) rfl dX5_readSign_32 ?_
      refine z_iconst hx hb dX5_readSign_35 ?_
      refine z_iadd hx hb dX5_readSign_36 ?_
      refine z_top (show (((sk tx ln pl : Nat) : Int) + 1) = ((sk tx ln pl + 1 : Nat) : Int) by omega) ?_
      refine va_put (D := G) (ci := 5) (v := .int (iZ ((sk tx ln pl + 1 : Nat) : Int))) (ty := .int) (C := RX5) (T := TX5) (N := 6) hx hb hts hFX5 tyX5 tyX5_ok nmX5 hown hK.1 hP hD hS 0 rfl rfl 2 (by decide) kf24 (fun _ h9 => h9) rfl (by decide +kernel) rfl rfl (Nat.le_of_ble_eq_true rfl) dX5_readSign_37 (fun H locs hP hD hS => ?_)
      replace hP : va_P G vwCl [(h7, .inr (5, [.ref xa, .int (iZ ((ln : Nat) : Int)), .int (iZ ((sk tx ln pl + 1 : Nat) : Int)), .int (iZ (bZ su)), .int (iZ ((sk tx ln pl : Nat) : Int)), .int (iZ nu)])), (xa, .inl (Y 2, 200, .inl (aI tx)))] H := hP
      replace hD : va_D _ [(h7, .inr (5, [.ref xa, .int (iZ ((ln : Nat) : Int)), .int (iZ ((sk tx ln pl + 1 : Nat) : Int)), .int (iZ (bZ su)), .int (iZ ((sk tx ln pl : Nat) : Int)), .int (iZ nu)])), (xa, .inl (Y 2, 200, .inl (aI tx)))] := hD
      refine z_iconst hx hb dX5_readSign_40 ?_
      have e9 : sgO tx ln pl x = true := decide_eq_true (by omega)
      refine z_top (show 1 = bZ (sgO tx ln pl x) from ?_) ?_
      · rw [e9]; rfl
      have hP9 : va_P G vwCl (txW Y h7 xa tx ln (sgE tx ln pl x) su (sk tx ln pl) nu) H := by rw [sgE_t e9]; exact hP
      exact W.zret (v := iZ (bZ (sgO tx ln pl x))) hx hb hr (b01_nar (bZ_in _)) (fun t9 ht9 _ => ⟨rfl, by rw [ht9]; exact hP9, hS.F ht9⟩) hS.2.2 dX5_readSign_41
    · skip
      refine z_iconst hx hb dX5_readSign_28 ?_
      have e9 : sgO tx ln pl x = false := decide_eq_false (by omega)
      refine z_top (show 0 = bZ (sgO tx ln pl x) from ?_) ?_
      · rw [e9]; rfl
      have hP9 : va_P G vwCl (txW Y h7 xa tx ln (sgE tx ln pl x) su (sk tx ln pl) nu) H := by rw [sgE_f e9]; exact hP
      exact W.zret (v := iZ (bZ (sgO tx ln pl x))) hx hb hr (b01_nar (bZ_in _)) (fun t9 ht9 _ => ⟨rfl, by rw [ht9]; exact hP9, hS.F ht9⟩) hS.2.2 dX5_readSign_29

set_option maxHeartbeats 4000000 in
set_option maxRecDepth 100000 in
theorem c_X5_readNumber (l : Launch) (G : va_G) (Y : Nat → ClassId) (h7 xa : Nat) (tx : Nat → Int) (hX : tX tx) (ln pl : Nat) (su : Bool) (tk : Nat) (nu : Int) (r : pl ≤ ln ∧ ln ≤ 200) (lo hi : Int) (rh : zR lo ∧ 0 ≤ hi ∧ hi ≤ 20) : Met l yX5_readNumber wsX5_readNumber ({ frames := 1, cells := 0, slots := 0, locals := 22 }) (mP G Y [.ref h7, .int (iZ lo), .int (iZ hi)] (txW Y h7 xa tx ln pl su tk nu)) (mQ G (txW Y h7 xa tx ln pl su tk nu) (some (.int (iZ (bZ (rnO tx ln pl lo hi))))) (txW Y h7 xa tx ln (rnE tx ln pl) su (sk tx ln pl) (rnV tx ln pl hi))) 0 0 (fun q => q ∈ List.map Prod.fst (txW Y h7 xa tx ln pl su tk nu)) := by
  refine Met.ofW (cc := cX5_readNumber) (maxL := 5) (ret := (some .boolean)) (by decide) rfl ?_
  intro p e s m args below meth c s₁ B hml hv
  obtain ⟨rfl, hK, hP, hD0⟩ := hv
  have hx := B.exec
  have hb := B.bytes
  have hr := B.returns
  have hts := atoms_spec (ws := wsX5_readNumber) B.pre
  have hown : s.vm.findClass RX5 = some m.cls := findClass_of_methodNamed B.named
  have hlocks := B.notSynchronized
  have hFX5 : ∀ w ∈ wsX50, w ∈ wsX5_readNumber := by decide +kernel
  have kf68 := (hts (.fieldLink RX5 68 "ShadeVotes$Text" "number" "I") (by decide +kernel))
  have kf24 := (hts (.fieldLink RX5 24 "ShadeVotes$Text" "place" "I") (by decide +kernel))
  have kf15 := (hts (.fieldLink RX5 15 "ShadeVotes$Text" "length" "I") (by decide +kernel))
  have kf42 := (hts (.fieldLink RX5 42 "ShadeVotes$Text" "tokenPlace" "I") (by decide +kernel))
  have kf9 := (hts (.fieldLink RX5 9 "ShadeVotes$Text" "letters" "[C") (by decide +kernel))
  have hD := va_D_self hD0
  have hS : va_S (fun q => q ∈ List.map Prod.fst (txW Y h7 xa tx ln pl su tk nu)) s.heap s.heap [] := va_S.rf
  obtain ⟨H, hHe⟩ : ∃ H, H = s.heap := ⟨_, rfl⟩
  rw [← hHe] at hP
  replace hS : va_S (fun q => q ∈ List.map Prod.fst (txW Y h7 xa tx ln pl su tk nu)) s.heap H [] := by rw [hHe]; exact hS
  have hl := lv_entry ([.ref h7, .int (iZ lo), .int (iZ hi)]) (n := 5) (Nat.le_of_ble_eq_true rfl)
  rw [lg_entry_eq]
  generalize (lg_sl ([.ref h7, .int (iZ lo), .int (iZ hi)]) ++ List.replicate (5 - (lg_sl ([.ref h7, .int (iZ lo), .int (iZ hi)])).length) Slot.unset).toArray = ls at hl ⊢
  replace hl : lv_has ls 5 [(0, .ref h7), (1, .int (iZ lo)), (2, .int (iZ hi))] := hl
  obtain ⟨locs, hLe⟩ : ∃ locs : List Loc, locs = [] := ⟨_, rfl⟩
  rw [← hLe] at hS ⊢
  have hW0 : ∀ {Q : State → Prop} {g : JFrame}, W p l e ({ frames := 1, cells := 0, slots := 0, locals := 22 }) s m [.ref h7, .int (iZ lo), .int (iZ hi)].toArray below meth c H locs 0 0 Q g → W p l e ({ frames := 1, cells := 0, slots := 0, locals := 22 }) s m [.ref h7, .int (iZ lo), .int (iZ hi)].toArray below meth c s.heap locs 0 0 Q g := fun h => by rw [← hHe]; exact h
  refine hW0 ?_
  clear hW0 hHe hLe
  refine lv_aload_n hx hb dX5_readNumber_0 rfl (lv_at hl 0 rfl) ?_
  have hP := hP.sub (ws' := [(h7, .inr (5, [.ref xa, .int (iZ ((ln : Nat) : Int)), .int (iZ ((pl : Nat) : Int)), .int (iZ (bZ su)), .int (iZ ((tk : Nat) : Int)), .int (iZ nu)])), (xa, .inl (Y 2, 200, .inl (aI tx)))] ++ []) [0, 1] rfl
  have hD := hD.sub (ws' := [(h7, .inr (5, [.ref xa, .int (iZ ((ln : Nat) : Int)), .int (iZ ((pl : Nat) : Int)), .int (iZ (bZ su)), .int (iZ ((tk : Nat) : Int)), .int (iZ nu)])), (xa, .inl (Y 2, 200, .inl (aI tx)))] ++ []) [0, 1] (by decide) rfl
  refine mu_V (As := []) (rest := []) (wc := [(h7, .inr (5, [.ref xa, .int (iZ ((ln : Nat) : Int)), .int (iZ ((pl : Nat) : Int)), .int (iZ (bZ su)), .int (iZ ((tk : Nat) : Int)), .int (iZ nu)])), (xa, .inl (Y 2, 200, .inl (aI tx)))]) (wc' := txW Y h7 xa tx ln (sk tx ln pl) su (sk tx ln pl) nu) (F := []) ⟨hx, hb, hml, hown, hts⟩ (c_X5_skipBlanks l G Y h7 xa tx hX ln pl su tk nu (by omega)) (cwV 0 hts gX5_readNumber_X5_skipBlanks rfl rfl rfl (by decide +kernel) ⟨Nat.le_of_ble_eq_true rfl, Nat.le_of_ble_eq_true rfl⟩) hK hP hD hS 0 rfl rfl (Eq.refl [h7, xa]) rfl hl.1 rfl (Nat.le_of_ble_eq_true rfl) dX5_readNumber_1 ⟨Nat.zero_le _, Nat.zero_le _⟩ (fun H locs hP hD hS => ?_)
  show W _ _ _ _ _ _ _ _ _ _ _ _ _ _ _ (F0 _ _ _ [])
  replace hP : va_P G vwCl [(h7, .inr (5, [.ref xa, .int (iZ ((ln : Nat) : Int)), .int (iZ ((sk tx ln pl : Nat) : Int)), .int (iZ (bZ su)), .int (iZ ((sk tx ln pl : Nat) : Int)), .int (iZ nu)])), (xa, .inl (Y 2, 200, .inl (aI tx)))] H := hP
  replace hD : va_D _ [(h7, .inr (5, [.ref xa, .int (iZ ((ln : Nat) : Int)), .int (iZ ((sk tx ln pl : Nat) : Int)), .int (iZ (bZ su)), .int (iZ ((sk tx ln pl : Nat) : Int)), .int (iZ nu)])), (xa, .inl (Y 2, 200, .inl (aI tx)))] := hD
  have hb_1 := sk_in (tx := tx) (ln := ln) (q := pl) (by omega)
  refine lv_aload_n hx hb dX5_readNumber_4 rfl (lv_at hl 0 rfl) ?_
  refine z_iconst hx hb dX5_readNumber_5 ?_
  refine va_put (D := G) (ci := 5) (v := .int (iZ 0)) (ty := .int) (C := RX5) (T := TX5) (N := 6) hx hb hts hFX5 tyX5 tyX5_ok nmX5 hown hK.1 hP hD hS 0 rfl rfl 5 (by decide) kf68 (fun _ h9 => h9) rfl (by decide +kernel) rfl rfl (Nat.le_of_ble_eq_true rfl) dX5_readNumber_6 (fun H locs hP hD hS => ?_)
  replace hP : va_P G vwCl [(h7, .inr (5, [.ref xa, .int (iZ ((ln : Nat) : Int)), .int (iZ ((sk tx ln pl : Nat) : Int)), .int (iZ (bZ su)), .int (iZ ((sk tx ln pl : Nat) : Int)), .int (iZ 0)])), (xa, .inl (Y 2, 200, .inl (aI tx)))] H := hP
  replace hD : va_D _ [(h7, .inr (5, [.ref xa, .int (iZ ((ln : Nat) : Int)), .int (iZ ((sk tx ln pl : Nat) : Int)), .int (iZ (bZ su)), .int (iZ ((sk tx ln pl : Nat) : Int)), .int (iZ 0)])), (xa, .inl (Y 2, 200, .inl (aI tx)))] := hD
  obtain ⟨q, v, hI, hl1, hP1, hD1⟩ : ∃ (q : Nat) (v : Int), ((sk tx ln pl ≤ q ∧ q ≤ ln) ∧ dg tx ln q = rnE tx ln pl ∧ nm tx ln hi q v = rnV tx ln pl hi ∧ 0 ≤ v ∧ v ≤ 300) ∧ lv_has ls 5 [(0, .ref h7), (1, .int (iZ lo)), (2, .int (iZ hi))] ∧ va_P G vwCl [(h7, .inr (5, [.ref xa, .int (iZ ((ln : Nat) : Int)), .int (iZ ((q : Nat) : Int)), .int (iZ (bZ su)), .int (iZ ((sk tx ln pl : Nat) : Int)), .int (iZ v)])), (xa, .inl (Y 2, 200, .inl (aI tx)))] H ∧ va_D (fun q => q ∈ List.map Prod.fst (txW Y h7 xa tx ln pl su tk nu)) [(h7, .inr (5, [.ref xa, .int (iZ ((ln : Nat) : Int)), .int (iZ ((q : Nat) : Int)), .int (iZ (bZ su)), .int (iZ ((sk tx ln pl : Nat) : Int)), .int (iZ v)])), (xa, .inl (Y 2, 200, .inl (aI tx)))] := ⟨sk tx ln pl, 0, by exact ⟨by omega, rfl, rfl, by decide⟩, lv_sub hl [0, 1, 2] rfl, hP, hD⟩
  clear hl hP hD
  have hl := hl1
  clear hl1
  have hP := hP1
  have hD := hD1
  clear hP1 hD1
  obtain ⟨n_, hn_⟩ : ∃ n_ : Nat, ln - q < n_ := ⟨_, Nat.lt_succ_self _⟩
  induction n_ generalizing q v ls H locs with
  | zero => exact absurd hn_ (Nat.not_lt_zero _)
  | succ n_ ih2 =>
    refine lv_aload_n hx hb dX5_readNumber_9 rfl (lv_at hl 0 rfl) ?_
    refine va_get (D := G) (ci := 5) (v := .int (iZ ((q : Nat) : Int))) (C := RX5) (T := TX5) (N := 6) hx hb hts hFX5 hown hK.1 hP 0 rfl rfl 2 (by decide) kf24 (fun _ h9 => h9) rfl dX5_readNumber_10 ?_
    refine lv_aload_n hx hb dX5_readNumber_13 rfl (lv_at hl 0 rfl) ?_
    refine va_get (D := G) (ci := 5) (v := .int (iZ ((ln : Nat) : Int))) (C := RX5) (T := TX5) (N := 6) hx hb hts hFX5 hown hK.1 hP 0 rfl rfl 1 (by decide) kf15 (fun _ h9 => h9) rfl dX5_readNumber_14 ?_
    refine z_icmp_ge (tgt := 93) hx hb dX5_readNumber_17 (by decide) (by omega) (fun c_3 => ?_) (fun c_3 => ?_)
    · skip
      have hE : rnE tx ln pl = q := by rw [← hI.2.1]; exact dg_stop (by omega)
      have hV : rnV tx ln pl hi = v := by rw [← hI.2.2.1]; exact nm_stop (by omega)
      refine lv_aload_n hx hb dX5_readNumber_93 rfl (lv_at hl 0 rfl) ?_
      refine va_get (D := G) (ci := 5) (v := .int (iZ ((q : Nat) : Int))) (C := RX5) (T := TX5) (N := 6) hx hb hts hFX5 hown hK.1 hP 0 rfl rfl 2 (by decide) kf24 (fun _ h9 => h9) rfl dX5_readNumber_94 ?_
      refine lv_aload_n hx hb dX5_readNumber_97 rfl (lv_at hl 0 rfl) ?_
      refine va_get (D := G) (ci := 5) (v := .int (iZ ((sk tx ln pl : Nat) : Int))) (C := RX5) (T := TX5) (N := 6) hx hb hts hFX5 hown hK.1 hP 0 rfl rfl 4 (by decide) kf42 (fun _ h9 => h9) rfl dX5_readNumber_98 ?_
      refine z_isub hx hb dX5_readNumber_101 ?_
      refine lv_istore_n (lv' := [(3, .int (iZ (((q : Nat) : Int) - ((sk tx ln pl : Nat) : Int)))), (0, .ref h7), (1, .int (iZ lo)), (2, .int (iZ hi))]) hx hb dX5_readNumber_102 rfl hl (by decide) rfl (fun ls hl => ?_)
      refine lv_iload_n hx hb dX5_readNumber_103 rfl (lv_at hl 0 rfl) ?_
      refine z_iconst hx hb dX5_readNumber_104 ?_
      refine z_icmp_le (tgt := 126) hx hb dX5_readNumber_105 (by decide) (by omega) (fun c_4 => ?_) (fun c_4 => ?_)
      · skip
        refine z_iconst hx hb dX5_readNumber_126 ?_
        refine lv_istore (lv' := [(4, .int (iZ 0)), (3, .int (iZ (((q : Nat) : Int) - ((sk tx ln pl : Nat) : Int)))), (0, .ref h7), (1, .int (iZ lo)), (2, .int (iZ hi))]) hx hb dX5_readNumber_127 hl (by decide) rfl (fun ls hl => ?_)
        refine lv_iload_n hx hb dX5_readNumber_129 rfl (lv_at hl 1 rfl) ?_
        refine z_if_le (tgt := 154) hx hb dX5_readNumber_130 (by decide) (by omega) (fun c_5 => ?_) (fun c_5 => ?_)
        · skip
          refine z_iconst hx hb dX5_readNumber_154 ?_
          refine z_top (show 0 = bZ (rnO tx ln pl lo hi) from ?_) ?_
          · first | (exfalso; omega) | (unfold rnO; rw [hE, hV]; first | exact bZ_1 (by omega) | exact bZ_00 (by omega))
          have hP9 : va_P G vwCl (txW Y h7 xa tx ln (rnE tx ln pl) su (sk tx ln pl) (rnV tx ln pl hi)) H := by rw [hE, hV]; exact hP
          exact W.zret (v := iZ (bZ (rnO tx ln pl lo hi))) hx hb hr (b01_nar (bZ_in _)) (fun t9 ht9 _ => ⟨rfl, by rw [ht9]; exact hP9, hS.F ht9⟩) hS.2.2 dX5_readNumber_155
        · skip
          refine lv_iload hx hb dX5_readNumber_133 (lv_at hl 0 rfl) ?_
          refine z_if_ne (tgt := 154) hx hb dX5_readNumber_135 (by decide) (by omega) (fun c_6 => ?_) (fun c_6 => ?_)
          · skip
            refine z_iconst hx hb dX5_readNumber_154 ?_
            refine z_top (show 0 = bZ (rnO tx ln pl lo hi) from ?_) ?_
            · first | (exfalso; omega) | (unfold rnO; rw [hE, hV]; first | exact bZ_1 (by omega) | exact bZ_00 (by omega))
            have hP9 : va_P G vwCl (txW Y h7 xa tx ln (rnE tx ln pl) su (sk tx ln pl) (rnV tx ln pl hi)) H := by rw [hE, hV]; exact hP
            exact W.zret (v := iZ (bZ (rnO tx ln pl lo hi))) hx hb hr (b01_nar (bZ_in _)) (fun t9 ht9 _ => ⟨rfl, by rw [ht9]; exact hP9, hS.F ht9⟩) hS.2.2 dX5_readNumber_155
          · skip
            refine lv_aload_n hx hb dX5_readNumber_138 rfl (lv_at hl 2 rfl) ?_
            refine va_get (D := G) (ci := 5) (v := .int (iZ v)) (C := RX5) (T := TX5) (N := 6) hx hb hts hFX5 hown hK.1 hP 0 rfl rfl 5 (by decide) kf68 (fun _ h9 => h9) rfl dX5_readNumber_139 ?_
            refine lv_iload_n hx hb dX5_readNumber_142 rfl (lv_at hl 3 rfl) ?_
            refine lv_iload_n hx hb dX5_readNumber_143 rfl (lv_at hl 4 rfl) ?_
            refine ro_SN (As := [.int (iZ v), .int (iZ lo), .int (iZ hi)]) (rest := []) ⟨hx, hb, hml, hown, hts⟩ (c_X6_isWithin l G Y v lo hi (by omega)) ⟨va_cnB 3 hts gX5_readNumber_X6_isWithin_n96 rfl rfl rfl (nk_X5_96 hK.2) (hts (.initialized RX6) (by decide +kernel)) (by decide +kernel) ⟨Nat.le_of_ble_eq_true rfl, Nat.le_of_ble_eq_true rfl⟩, hts (.static yX6_isWithin) (by decide +kernel), trivial⟩ hK (hP.sub (ws' := []) [] rfl) rfl hl.1 rfl (Nat.le_of_ble_eq_true rfl) dX5_readNumber_144 ⟨Nat.zero_le _, Nat.zero_le _⟩ ?_
            refine z_ifb_eq (tgt := 154) hx hb dX5_readNumber_147 (by decide) (fun c_7 => ?_) (fun c_7 => ?_)
            · skip
              have c_7 := of_decide_eq_false c_7
              refine z_iconst hx hb dX5_readNumber_154 ?_
              refine z_top (show 0 = bZ (rnO tx ln pl lo hi) from ?_) ?_
              · first | (exfalso; omega) | (unfold rnO; rw [hE, hV]; first | exact bZ_1 (by omega) | exact bZ_00 (by omega))
              have hP9 : va_P G vwCl (txW Y h7 xa tx ln (rnE tx ln pl) su (sk tx ln pl) (rnV tx ln pl hi)) H := by rw [hE, hV]; exact hP
              exact W.zret (v := iZ (bZ (rnO tx ln pl lo hi))) hx hb hr (b01_nar (bZ_in _)) (fun t9 ht9 _ => ⟨rfl, by rw [ht9]; exact hP9, hS.F ht9⟩) hS.2.2 dX5_readNumber_155
            · skip
              have c_7 := of_decide_eq_true c_7
              refine z_iconst hx hb dX5_readNumber_150 ?_
              refine lv_goto (tgt := 155) hx hb dX5_readNumber_151 (by decide) ?_
              refine z_top (show 1 = bZ (rnO tx ln pl lo hi) from ?_) ?_
              · first | (exfalso; omega) | (unfold rnO; rw [hE, hV]; first | exact bZ_1 (by omega) | exact bZ_00 (by omega))
              have hP9 : va_P G vwCl (txW Y h7 xa tx ln (rnE tx ln pl) su (sk tx ln pl) (rnV tx ln pl hi)) H := by rw [hE, hV]; exact hP
              exact W.zret (v := iZ (bZ (rnO tx ln pl lo hi))) hx hb hr (b01_nar (bZ_in _)) (fun t9 ht9 _ => ⟨rfl, by rw [ht9]; exact hP9, hS.F ht9⟩) hS.2.2 dX5_readNumber_155
      · skip
        refine lv_aload_n hx hb dX5_readNumber_108 rfl (lv_at hl 1 rfl) ?_
        refine va_get (D := G) (ci := 5) (v := .ref xa) (C := RX5) (T := TX5) (N := 6) hx hb hts hFX5 hown hK.1 hP 0 rfl rfl 0 (by decide) kf9 (fun _ h9 => h9) rfl dX5_readNumber_109 ?_
        refine lv_aload_n hx hb dX5_readNumber_112 rfl (lv_at hl 1 rfl) ?_
        refine va_get (D := G) (ci := 5) (v := .int (iZ ((sk tx ln pl : Nat) : Int))) (C := RX5) (T := TX5) (N := 6) hx hb hts hFX5 hown hK.1 hP 0 rfl rfl 4 (by decide) kf42 (fun _ h9 => h9) rfl dX5_readNumber_113 ?_
        refine z_cald hx hb hK.1 hP 1 2 rfl rfl (sk tx ln pl) (by omega) (by decide) dX5_readNumber_116 ?_
        have hb_8 := hX (sk tx ln pl) (by omega)
        refine z_bipush hx hb dX5_readNumber_117 (by decide) ?_
        refine z_icmp_ne (tgt := 126) hx hb dX5_readNumber_119 (by decide) (by omega) (fun c_9 => ?_) (fun c_9 => ?_)
        · skip
          refine z_iconst hx hb dX5_readNumber_126 ?_
          refine lv_istore (lv' := [(4, .int (iZ 0)), (3, .int (iZ (((q : Nat) : Int) - ((sk tx ln pl : Nat) : Int)))), (0, .ref h7), (1, .int (iZ lo)), (2, .int (iZ hi))]) hx hb dX5_readNumber_127 hl (by decide) rfl (fun ls hl => ?_)
          refine lv_iload_n hx hb dX5_readNumber_129 rfl (lv_at hl 1 rfl) ?_
          refine z_if_le (tgt := 154) hx hb dX5_readNumber_130 (by decide) (by omega) (fun c_10 => ?_) (fun c_10 => ?_)
          · skip
            refine z_iconst hx hb dX5_readNumber_154 ?_
            refine z_top (show 0 = bZ (rnO tx ln pl lo hi) from ?_) ?_
            · first | (exfalso; omega) | (unfold rnO; rw [hE, hV]; first | exact bZ_1 (by omega) | exact bZ_00 (by omega))
            have hP9 : va_P G vwCl (txW Y h7 xa tx ln (rnE tx ln pl) su (sk tx ln pl) (rnV tx ln pl hi)) H := by rw [hE, hV]; exact hP
            exact W.zret (v := iZ (bZ (rnO tx ln pl lo hi))) hx hb hr (b01_nar (bZ_in _)) (fun t9 ht9 _ => ⟨rfl, by rw [ht9]; exact hP9, hS.F ht9⟩) hS.2.2 dX5_readNumber_155
          · skip
            refine lv_iload hx hb dX5_readNumber_133 (lv_at hl 0 rfl) ?_
            refine z_if_ne (tgt := 154) hx hb dX5_readNumber_135 (by decide) (by omega) (fun c_11 => ?_) (fun c_11 => ?_)
            · skip
              refine z_iconst hx hb dX5_readNumber_154 ?_
              refine z_top (show 0 = bZ (rnO tx ln pl lo hi) from ?_) ?_
              · first | (exfalso; omega) | (unfold rnO; rw [hE, hV]; first | exact bZ_1 (by omega) | exact bZ_00 (by omega))
              have hP9 : va_P G vwCl (txW Y h7 xa tx ln (rnE tx ln pl) su (sk tx ln pl) (rnV tx ln pl hi)) H := by rw [hE, hV]; exact hP
              exact W.zret (v := iZ (bZ (rnO tx ln pl lo hi))) hx hb hr (b01_nar (bZ_in _)) (fun t9 ht9 _ => ⟨rfl, by rw [ht9]; exact hP9, hS.F ht9⟩) hS.2.2 dX5_readNumber_155
            · skip
              refine lv_aload_n hx hb dX5_readNumber_138 rfl (lv_at hl 2 rfl) ?_
              refine va_get (D := G) (ci := 5) (v := .int (iZ v)) (C := RX5) (T := TX5) (N := 6) hx hb hts hFX5 hown hK.1 hP 0 rfl rfl 5 (by decide) kf68 (fun _ h9 => h9) rfl dX5_readNumber_139 ?_
              refine lv_iload_n hx hb dX5_readNumber_142 rfl (lv_at hl 3 rfl) ?_
              refine lv_iload_n hx hb dX5_readNumber_143 rfl (lv_at hl 4 rfl) ?_
              refine ro_SN (As := [.int (iZ v), .int (iZ lo), .int (iZ hi)]) (rest := []) ⟨hx, hb, hml, hown, hts⟩ (c_X6_isWithin l G Y v lo hi (by omega)) ⟨va_cnB 3 hts gX5_readNumber_X6_isWithin_n96 rfl rfl rfl (nk_X5_96 hK.2) (hts (.initialized RX6) (by decide +kernel)) (by decide +kernel) ⟨Nat.le_of_ble_eq_true rfl, Nat.le_of_ble_eq_true rfl⟩, hts (.static yX6_isWithin) (by decide +kernel), trivial⟩ hK (hP.sub (ws' := []) [] rfl) rfl hl.1 rfl (Nat.le_of_ble_eq_true rfl) dX5_readNumber_144 ⟨Nat.zero_le _, Nat.zero_le _⟩ ?_
              refine z_ifb_eq (tgt := 154) hx hb dX5_readNumber_147 (by decide) (fun c_12 => ?_) (fun c_12 => ?_)
              · skip
                have c_12 := of_decide_eq_false c_12
                refine z_iconst hx hb dX5_readNumber_154 ?_
                refine z_top (show 0 = bZ (rnO tx ln pl lo hi) from ?_) ?_
                · first | (exfalso; omega) | (unfold rnO; rw [hE, hV]; first | exact bZ_1 (by omega) | exact bZ_00 (by omega))
                have hP9 : va_P G vwCl (txW Y h7 xa tx ln (rnE tx ln pl) su (sk tx ln pl) (rnV tx ln pl hi)) H := by rw [hE, hV]; exact hP
                exact W.zret (v := iZ (bZ (rnO tx ln pl lo hi))) hx hb hr (b01_nar (bZ_in _)) (fun t9 ht9 _ => ⟨rfl, by rw [ht9]; exact hP9, hS.F ht9⟩) hS.2.2 dX5_readNumber_155
              · skip
                have c_12 := of_decide_eq_true c_12
                refine z_iconst hx hb dX5_readNumber_150 ?_
                refine lv_goto (tgt := 155) hx hb dX5_readNumber_151 (by decide) ?_
                refine z_top (show 1 = bZ (rnO tx ln pl lo hi) from ?_) ?_
                · first | (exfalso; omega) | (unfold rnO; rw [hE, hV]; first | exact bZ_1 (by omega) | exact bZ_00 (by omega))
                have hP9 : va_P G vwCl (txW Y h7 xa tx ln (rnE tx ln pl) su (sk tx ln pl) (rnV tx ln pl hi)) H := by rw [hE, hV]; exact hP
                exact W.zret (v := iZ (bZ (rnO tx ln pl lo hi))) hx hb hr (b01_nar (bZ_in _)) (fun t9 ht9 _ => ⟨rfl, by rw [ht9]; exact hP9, hS.F ht9⟩) hS.2.2 dX5_readNumber_155
        · skip
          refine z_iconst hx hb dX5_readNumber_122 ?_
          refine lv_goto (tgt := 127) hx hb dX5_readNumber_123 (by decide) ?_
          refine lv_istore (lv' := [(4, .int (iZ 1)), (3, .int (iZ (((q : Nat) : Int) - ((sk tx ln pl : Nat) : Int)))), (0, .ref h7), (1, .int (iZ lo)), (2, .int (iZ hi))]) hx hb dX5_readNumber_127 hl (by decide) rfl (fun ls hl => ?_)
          refine lv_iload_n hx hb dX5_readNumber_129 rfl (lv_at hl 1 rfl) ?_
          refine z_if_le (tgt := 154) hx hb dX5_readNumber_130 (by decide) (by omega) (fun c_13 => ?_) (fun c_13 => ?_)
          · skip
            refine z_iconst hx hb dX5_readNumber_154 ?_
            refine z_top (show 0 = bZ (rnO tx ln pl lo hi) from ?_) ?_
            · first | (exfalso; omega) | (unfold rnO; rw [hE, hV]; first | exact bZ_1 (by omega) | exact bZ_00 (by omega))
            have hP9 : va_P G vwCl (txW Y h7 xa tx ln (rnE tx ln pl) su (sk tx ln pl) (rnV tx ln pl hi)) H := by rw [hE, hV]; exact hP
            exact W.zret (v := iZ (bZ (rnO tx ln pl lo hi))) hx hb hr (b01_nar (bZ_in _)) (fun t9 ht9 _ => ⟨rfl, by rw [ht9]; exact hP9, hS.F ht9⟩) hS.2.2 dX5_readNumber_155
          · skip
            refine lv_iload hx hb dX5_readNumber_133 (lv_at hl 0 rfl) ?_
            refine z_if_ne (tgt := 154) hx hb dX5_readNumber_135 (by decide) (by omega) (fun c_14 => ?_) (fun c_14 => ?_)
            · skip
              refine z_iconst hx hb dX5_readNumber_154 ?_
              refine z_top (show 0 = bZ (rnO tx ln pl lo hi) from ?_) ?_
              · first | (exfalso; omega) | (unfold rnO; rw [hE, hV]; first | exact bZ_1 (by omega) | exact bZ_00 (by omega))
              have hP9 : va_P G vwCl (txW Y h7 xa tx ln (rnE tx ln pl) su (sk tx ln pl) (rnV tx ln pl hi)) H := by rw [hE, hV]; exact hP
              exact W.zret (v := iZ (bZ (rnO tx ln pl lo hi))) hx hb hr (b01_nar (bZ_in _)) (fun t9 ht9 _ => ⟨rfl, by rw [ht9]; exact hP9, hS.F ht9⟩) hS.2.2 dX5_readNumber_155
            · skip
              refine lv_aload_n hx hb dX5_readNumber_138 rfl (lv_at hl 2 rfl) ?_
              refine va_get (D := G) (ci := 5) (v := .int (iZ v)) (C := RX5) (T := TX5) (N := 6) hx hb hts hFX5 hown hK.1 hP 0 rfl rfl 5 (by decide) kf68 (fun _ h9 => h9) rfl dX5_readNumber_139 ?_
              refine lv_iload_n hx hb dX5_readNumber_142 rfl (lv_at hl 3 rfl) ?_
              refine lv_iload_n hx hb dX5_readNumber_143 rfl (lv_at hl 4 rfl) ?_
              refine ro_SN (As := [.int (iZ v), .int (iZ lo), .int (iZ hi)]) (rest := []) ⟨hx, hb, hml, hown, hts⟩ (c_X6_isWithin l G Y v lo hi (by omega)) ⟨va_cnB 3 hts gX5_readNumber_X6_isWithin_n96 rfl rfl rfl (nk_X5_96 hK.2) (hts (.initialized RX6) (by decide +kernel)) (by decide +kernel) ⟨Nat.le_of_ble_eq_true rfl, Nat.le_of_ble_eq_true rfl⟩, hts (.static yX6_isWithin) (by decide +kernel), trivial⟩ hK (hP.sub (ws' := []) [] rfl) rfl hl.1 rfl (Nat.le_of_ble_eq_true rfl) dX5_readNumber_144 ⟨Nat.zero_le _, Nat.zero_le _⟩ ?_
              refine z_ifb_eq (tgt := 154) hx hb dX5_readNumber_147 (by decide) (fun c_15 => ?_) (fun c_15 => ?_)
              · skip
                have c_15 := of_decide_eq_false c_15
                refine z_iconst hx hb dX5_readNumber_154 ?_
                refine z_top (show 0 = bZ (rnO tx ln pl lo hi) from ?_) ?_
                · first | (exfalso; omega) | (unfold rnO; rw [hE, hV]; first | exact bZ_1 (by omega) | exact bZ_00 (by omega))
                have hP9 : va_P G vwCl (txW Y h7 xa tx ln (rnE tx ln pl) su (sk tx ln pl) (rnV tx ln pl hi)) H := by rw [hE, hV]; exact hP
                exact W.zret (v := iZ (bZ (rnO tx ln pl lo hi))) hx hb hr (b01_nar (bZ_in _)) (fun t9 ht9 _ => ⟨rfl, by rw [ht9]; exact hP9, hS.F ht9⟩) hS.2.2 dX5_readNumber_155
              · skip
                have c_15 := of_decide_eq_true c_15
                refine z_iconst hx hb dX5_readNumber_150 ?_
                refine lv_goto (tgt := 155) hx hb dX5_readNumber_151 (by decide) ?_
                refine z_top (show 1 = bZ (rnO tx ln pl lo hi) from ?_) ?_
                · first | (exfalso; omega) | (unfold rnO; rw [hE, hV]; first | exact bZ_1 (by omega) | exact bZ_00 (by omega))
                have hP9 : va_P G vwCl (txW Y h7 xa tx ln (rnE tx ln pl) su (sk tx ln pl) (rnV tx ln pl hi)) H := by rw [hE, hV]; exact hP
                exact W.zret (v := iZ (bZ (rnO tx ln pl lo hi))) hx hb hr (b01_nar (bZ_in _)) (fun t9 ht9 _ => ⟨rfl, by rw [ht9]; exact hP9, hS.F ht9⟩) hS.2.2 dX5_readNumber_155
    · skip
      refine lv_aload_n hx hb dX5_readNumber_20 rfl (lv_at hl 0 rfl) ?_
      refine va_get (D := G) (ci := 5) (v := .ref xa) (C := RX5) (T := TX5) (N := 6) hx hb hts hFX5 hown hK.1 hP 0 rfl rfl 0 (by decide) kf9 (fun _ h9 => h9) rfl dX5_readNumber_21 ?_
      refine lv_aload_n hx hb dX5_readNumber_24 rfl (lv_at hl 0 rfl) ?_
      refine va_get (D := G) (ci := 5) (v := .int (iZ ((q : Nat) : Int))) (C := RX5) (T := TX5) (N := 6) hx hb hts hFX5 hown hK.1 hP 0 rfl rfl 2 (by decide) kf24 (fun _ h9 => h9) rfl dX5_readNumber_25 ?_
      refine z_cald hx hb hK.1 hP 1 2 rfl rfl q (by omega) (by decide) dX5_readNumber_28 ?_
      have hb_16 := hX q (by omega)
      refine z_bipush hx hb dX5_readNumber_29 (by decide) ?_
      refine z_icmp_lt (tgt := 93) hx hb dX5_readNumber_31 (by decide) (by omega) (fun c_17 => ?_) (fun c_17 => ?_)
      · skip
        have hE : rnE tx ln pl = q := by rw [← hI.2.1]; exact dg_stop (by omega)
        have hV : rnV tx ln pl hi = v := by rw [← hI.2.2.1]; exact nm_stop (by omega)
        refine lv_aload_n hx hb dX5_readNumber_93 rfl (lv_at hl 0 rfl) ?_
        refine va_get (D := G) (ci := 5) (v := .int (iZ ((q : Nat) : Int))) (C := RX5) (T := TX5) (N := 6) hx hb hts hFX5 hown hK.1 hP 0 rfl rfl 2 (by decide) kf24 (fun _ h9 => h9) rfl dX5_readNumber_94 ?_
        refine lv_aload_n hx hb dX5_readNumber_97 rfl (lv_at hl 0 rfl) ?_
        refine va_get (D := G) (ci := 5) (v := .int (iZ ((sk tx ln pl : Nat) : Int))) (C := RX5) (T := TX5) (N := 6) hx hb hts hFX5 hown hK.1 hP 0 rfl rfl 4 (by decide) kf42 (fun _ h9 => h9) rfl dX5_readNumber_98 ?_
        refine z_isub hx hb dX5_readNumber_101 ?_
        refine lv_istore_n (lv' := [(3, .int (iZ (((q : Nat) : Int) - ((sk tx ln pl : Nat) : Int)))), (0, .ref h7), (1, .int (iZ lo)), (2, .int (iZ hi))]) hx hb dX5_readNumber_102 rfl hl (by decide) rfl (fun ls hl => ?_)
        refine lv_iload_n hx hb dX5_readNumber_103 rfl (lv_at hl 0 rfl) ?_
        refine z_iconst hx hb dX5_readNumber_104 ?_
        refine z_icmp_le (tgt := 126) hx hb dX5_readNumber_105 (by decide) (by omega) (fun c_18 => ?_) (fun c_18 => ?_)
        · skip
          refine z_iconst hx hb dX5_readNumber_126 ?_
          refine lv_istore (lv' := [(4, .int (iZ 0)), (3, .int (iZ (((q : Nat) : Int) - ((sk tx ln pl : Nat) : Int)))), (0, .ref h7), (1, .int (iZ lo)), (2, .int (iZ hi))]) hx hb dX5_readNumber_127 hl (by decide) rfl (fun ls hl => ?_)
          refine lv_iload_n hx hb dX5_readNumber_129 rfl (lv_at hl 1 rfl) ?_
          refine z_if_le (tgt := 154) hx hb dX5_readNumber_130 (by decide) (by omega) (fun c_19 => ?_) (fun c_19 => ?_)
          · skip
            refine z_iconst hx hb dX5_readNumber_154 ?_
            refine z_top (show 0 = bZ (rnO tx ln pl lo hi) from ?_) ?_
            · first | (exfalso; omega) | (unfold rnO; rw [hE, hV]; first | exact bZ_1 (by omega) | exact bZ_00 (by omega))
            have hP9 : va_P G vwCl (txW Y h7 xa tx ln (rnE tx ln pl) su (sk tx ln pl) (rnV tx ln pl hi)) H := by rw [hE, hV]; exact hP
            exact W.zret (v := iZ (bZ (rnO tx ln pl lo hi))) hx hb hr (b01_nar (bZ_in _)) (fun t9 ht9 _ => ⟨rfl, by rw [ht9]; exact hP9, hS.F ht9⟩) hS.2.2 dX5_readNumber_155
          · skip
            refine lv_iload hx hb dX5_readNumber_133 (lv_at hl 0 rfl) ?_
            refine z_if_ne (tgt := 154) hx hb dX5_readNumber_135 (by decide) (by omega) (fun c_20 => ?_) (fun c_20 => ?_)
            · skip
              refine z_iconst hx hb dX5_readNumber_154 ?_
              refine z_top (show 0 = bZ (rnO tx ln pl lo hi) from ?_) ?_
              · first | (exfalso; omega) | (unfold rnO; rw [hE, hV]; first | exact bZ_1 (by omega) | exact bZ_00 (by omega))
              have hP9 : va_P G vwCl (txW Y h7 xa tx ln (rnE tx ln pl) su (sk tx ln pl) (rnV tx ln pl hi)) H := by rw [hE, hV]; exact hP
              exact W.zret (v := iZ (bZ (rnO tx ln pl lo hi))) hx hb hr (b01_nar (bZ_in _)) (fun t9 ht9 _ => ⟨rfl, by rw [ht9]; exact hP9, hS.F ht9⟩) hS.2.2 dX5_readNumber_155
            · skip
              refine lv_aload_n hx hb dX5_readNumber_138 rfl (lv_at hl 2 rfl) ?_
              refine va_get (D := G) (ci := 5) (v := .int (iZ v)) (C := RX5) (T := TX5) (N := 6) hx hb hts hFX5 hown hK.1 hP 0 rfl rfl 5 (by decide) kf68 (fun _ h9 => h9) rfl dX5_readNumber_139 ?_
              refine lv_iload_n hx hb dX5_readNumber_142 rfl (lv_at hl 3 rfl) ?_
              refine lv_iload_n hx hb dX5_readNumber_143 rfl (lv_at hl 4 rfl) ?_
              refine ro_SN (As := [.int (iZ v), .int (iZ lo), .int (iZ hi)]) (rest := []) ⟨hx, hb, hml, hown, hts⟩ (c_X6_isWithin l G Y v lo hi (by omega)) ⟨va_cnB 3 hts gX5_readNumber_X6_isWithin_n96 rfl rfl rfl (nk_X5_96 hK.2) (hts (.initialized RX6) (by decide +kernel)) (by decide +kernel) ⟨Nat.le_of_ble_eq_true rfl, Nat.le_of_ble_eq_true rfl⟩, hts (.static yX6_isWithin) (by decide +kernel), trivial⟩ hK (hP.sub (ws' := []) [] rfl) rfl hl.1 rfl (Nat.le_of_ble_eq_true rfl) dX5_readNumber_144 ⟨Nat.zero_le _, Nat.zero_le _⟩ ?_
              refine z_ifb_eq (tgt := 154) hx hb dX5_readNumber_147 (by decide) (fun c_21 => ?_) (fun c_21 => ?_)
              · skip
                have c_21 := of_decide_eq_false c_21
                refine z_iconst hx hb dX5_readNumber_154 ?_
                refine z_top (show 0 = bZ (rnO tx ln pl lo hi) from ?_) ?_
                · first | (exfalso; omega) | (unfold rnO; rw [hE, hV]; first | exact bZ_1 (by omega) | exact bZ_00 (by omega))
                have hP9 : va_P G vwCl (txW Y h7 xa tx ln (rnE tx ln pl) su (sk tx ln pl) (rnV tx ln pl hi)) H := by rw [hE, hV]; exact hP
                exact W.zret (v := iZ (bZ (rnO tx ln pl lo hi))) hx hb hr (b01_nar (bZ_in _)) (fun t9 ht9 _ => ⟨rfl, by rw [ht9]; exact hP9, hS.F ht9⟩) hS.2.2 dX5_readNumber_155
              · skip
                have c_21 := of_decide_eq_true c_21
                refine z_iconst hx hb dX5_readNumber_150 ?_
                refine lv_goto (tgt := 155) hx hb dX5_readNumber_151 (by decide) ?_
                refine z_top (show 1 = bZ (rnO tx ln pl lo hi) from ?_) ?_
                · first | (exfalso; omega) | (unfold rnO; rw [hE, hV]; first | exact bZ_1 (by omega) | exact bZ_00 (by omega))
                have hP9 : va_P G vwCl (txW Y h7 xa tx ln (rnE tx ln pl) su (sk tx ln pl) (rnV tx ln pl hi)) H := by rw [hE, hV]; exact hP
                exact W.zret (v := iZ (bZ (rnO tx ln pl lo hi))) hx hb hr (b01_nar (bZ_in _)) (fun t9 ht9 _ => ⟨rfl, by rw [ht9]; exact hP9, hS.F ht9⟩) hS.2.2 dX5_readNumber_155
        · skip
          refine lv_aload_n hx hb dX5_readNumber_108 rfl (lv_at hl 1 rfl) ?_
          refine va_get (D := G) (ci := 5) (v := .ref xa) (C := RX5) (T := TX5) (N := 6) hx hb hts hFX5 hown hK.1 hP 0 rfl rfl 0 (by decide) kf9 (fun _ h9 => h9) rfl dX5_readNumber_109 ?_
          refine lv_aload_n hx hb dX5_readNumber_112 rfl (lv_at hl 1 rfl) ?_
          refine va_get (D := G) (ci := 5) (v := .int (iZ ((sk tx ln pl : Nat) : Int))) (C := RX5) (T := TX5) (N := 6) hx hb hts hFX5 hown hK.1 hP 0 rfl rfl 4 (by decide) kf42 (fun _ h9 => h9) rfl dX5_readNumber_113 ?_
          refine z_cald hx hb hK.1 hP 1 2 rfl rfl (sk tx ln pl) (by omega) (by decide) dX5_readNumber_116 ?_
          have hb_22 := hX (sk tx ln pl) (by omega)
          refine z_bipush hx hb dX5_readNumber_117 (by decide) ?_
          refine z_icmp_ne (tgt := 126) hx hb dX5_readNumber_119 (by decide) (by omega) (fun c_23 => ?_) (fun c_23 => ?_)
          · skip
            refine z_iconst hx hb dX5_readNumber_126 ?_
            refine lv_istore (lv' := [(4, .int (iZ 0)), (3, .int (iZ (((q : Nat) : Int) - ((sk tx ln pl : Nat) : Int)))), (0, .ref h7), (1, .int (iZ lo)), (2, .int (iZ hi))]) hx hb dX5_readNumber_127 hl (by decide) rfl (fun ls hl => ?_)
            refine lv_iload_n hx hb dX5_readNumber_129 rfl (lv_at hl 1 rfl) ?_
            refine z_if_le (tgt := 154) hx hb dX5_readNumber_130 (by decide) (by omega) (fun c_24 => ?_) (fun c_24 => ?_)
            · skip
              refine z_iconst hx hb dX5_readNumber_154 ?_
              refine z_top (show 0 = bZ (rnO tx ln pl lo hi) from ?_) ?_
              · first | (exfalso; omega) | (unfold rnO; rw [hE, hV]; first | exact bZ_1 (by omega) | exact bZ_00 (by omega))
              have hP9 : va_P G vwCl (txW Y h7 xa tx ln (rnE tx ln pl) su (sk tx ln pl) (rnV tx ln pl hi)) H := by rw [hE, hV]; exact hP
              exact W.zret (v := iZ (bZ (rnO tx ln pl lo hi))) hx hb hr (b01_nar (bZ_in _)) (fun t9 ht9 _ => ⟨rfl, by rw [ht9]; exact hP9, hS.F ht9⟩) hS.2.2 dX5_readNumber_155
            · skip
              refine lv_iload hx hb dX5_readNumber_133 (lv_at hl 0 rfl) ?_
              refine z_if_ne (tgt := 154) hx hb dX5_readNumber_135 (by decide) (by omega) (fun c_25 => ?_) (fun c_25 => ?_)
              · skip
                refine z_iconst hx hb dX5_readNumber_154 ?_
                refine z_top (show 0 = bZ (rnO tx ln pl lo hi) from ?_) ?_
                · first | (exfalso; omega) | (unfold rnO; rw [hE, hV]; first | exact bZ_1 (by omega) | exact bZ_00 (by omega))
                have hP9 : va_P G vwCl (txW Y h7 xa tx ln (rnE tx ln pl) su (sk tx ln pl) (rnV tx ln pl hi)) H := by rw [hE, hV]; exact hP
                exact W.zret (v := iZ (bZ (rnO tx ln pl lo hi))) hx hb hr (b01_nar (bZ_in _)) (fun t9 ht9 _ => ⟨rfl, by rw [ht9]; exact hP9, hS.F ht9⟩) hS.2.2 dX5_readNumber_155
              · skip
                refine lv_aload_n hx hb dX5_readNumber_138 rfl (lv_at hl 2 rfl) ?_
                refine va_get (D := G) (ci := 5) (v := .int (iZ v)) (C := RX5) (T := TX5) (N := 6) hx hb hts hFX5 hown hK.1 hP 0 rfl rfl 5 (by decide) kf68 (fun _ h9 => h9) rfl dX5_readNumber_139 ?_
                refine lv_iload_n hx hb dX5_readNumber_142 rfl (lv_at hl 3 rfl) ?_
                refine lv_iload_n hx hb dX5_readNumber_143 rfl (lv_at hl 4 rfl) ?_
                refine ro_SN (As := [.int (iZ v), .int (iZ lo), .int (iZ hi)]) (rest := []) ⟨hx, hb, hml, hown, hts⟩ (c_X6_isWithin l G Y v lo hi (by omega)) ⟨va_cnB 3 hts gX5_readNumber_X6_isWithin_n96 rfl rfl rfl (nk_X5_96 hK.2) (hts (.initialized RX6) (by decide +kernel)) (by decide +kernel) ⟨Nat.le_of_ble_eq_true rfl, Nat.le_of_ble_eq_true rfl⟩, hts (.static yX6_isWithin) (by decide +kernel), trivial⟩ hK (hP.sub (ws' := []) [] rfl) rfl hl.1 rfl (Nat.le_of_ble_eq_true rfl) dX5_readNumber_144 ⟨Nat.zero_le _, Nat.zero_le _⟩ ?_
                refine z_ifb_eq (tgt := 154) hx hb dX5_readNumber_147 (by decide) (fun c_26 => ?_) (fun c_26 => ?_)
                · skip
                  have c_26 := of_decide_eq_false c_26
                  refine z_iconst hx hb dX5_readNumber_154 ?_
                  refine z_top (show 0 = bZ (rnO tx ln pl lo hi) from ?_) ?_
                  · first | (exfalso; omega) | (unfold rnO; rw [hE, hV]; first | exact bZ_1 (by omega) | exact bZ_00 (by omega))
                  have hP9 : va_P G vwCl (txW Y h7 xa tx ln (rnE tx ln pl) su (sk tx ln pl) (rnV tx ln pl hi)) H := by rw [hE, hV]; exact hP
                  exact W.zret (v := iZ (bZ (rnO tx ln pl lo hi))) hx hb hr (b01_nar (bZ_in _)) (fun t9 ht9 _ => ⟨rfl, by rw [ht9]; exact hP9, hS.F ht9⟩) hS.2.2 dX5_readNumber_155
                · skip
                  have c_26 := of_decide_eq_true c_26
                  refine z_iconst hx hb dX5_readNumber_150 ?_
                  refine lv_goto (tgt := 155) hx hb dX5_readNumber_151 (by decide) ?_
                  refine z_top (show 1 = bZ (rnO tx ln pl lo hi) from ?_) ?_
                  · first | (exfalso; omega) | (unfold rnO; rw [hE, hV]; first | exact bZ_1 (by omega) | exact bZ_00 (by omega))
                  have hP9 : va_P G vwCl (txW Y h7 xa tx ln (rnE tx ln pl) su (sk tx ln pl) (rnV tx ln pl hi)) H := by rw [hE, hV]; exact hP
                  exact W.zret (v := iZ (bZ (rnO tx ln pl lo hi))) hx hb hr (b01_nar (bZ_in _)) (fun t9 ht9 _ => ⟨rfl, by rw [ht9]; exact hP9, hS.F ht9⟩) hS.2.2 dX5_readNumber_155
          · skip
            refine z_iconst hx hb dX5_readNumber_122 ?_
            refine lv_goto (tgt := 127) hx hb dX5_readNumber_123 (by decide) ?_
            refine lv_istore (lv' := [(4, .int (iZ 1)), (3, .int (iZ (((q : Nat) : Int) - ((sk tx ln pl : Nat) : Int)))), (0, .ref h7), (1, .int (iZ lo)), (2, .int (iZ hi))]) hx hb dX5_readNumber_127 hl (by decide) rfl (fun ls hl => ?_)
            refine lv_iload_n hx hb dX5_readNumber_129 rfl (lv_at hl 1 rfl) ?_
            refine z_if_le (tgt := 154) hx hb dX5_readNumber_130 (by decide) (by omega) (fun c_27 => ?_) (fun c_27 => ?_)
            · skip
              refine z_iconst hx hb dX5_readNumber_154 ?_
              refine z_top (show 0 = bZ (rnO tx ln pl lo hi) from ?_) ?_
              · first | (exfalso; omega) | (unfold rnO; rw [hE, hV]; first | exact bZ_1 (by omega) | exact bZ_00 (by omega))
              have hP9 : va_P G vwCl (txW Y h7 xa tx ln (rnE tx ln pl) su (sk tx ln pl) (rnV tx ln pl hi)) H := by rw [hE, hV]; exact hP
              exact W.zret (v := iZ (bZ (rnO tx ln pl lo hi))) hx hb hr (b01_nar (bZ_in _)) (fun t9 ht9 _ => ⟨rfl, by rw [ht9]; exact hP9, hS.F ht9⟩) hS.2.2 dX5_readNumber_155
            · skip
              refine lv_iload hx hb dX5_readNumber_133 (lv_at hl 0 rfl) ?_
              refine z_if_ne (tgt := 154) hx hb dX5_readNumber_135 (by decide) (by omega) (fun c_28 => ?_) (fun c_28 => ?_)
              · skip
                refine z_iconst hx hb dX5_readNumber_154 ?_
                refine z_top (show 0 = bZ (rnO tx ln pl lo hi) from ?_) ?_
                · first | (exfalso; omega) | (unfold rnO; rw [hE, hV]; first | exact bZ_1 (by omega) | exact bZ_00 (by omega))
                have hP9 : va_P G vwCl (txW Y h7 xa tx ln (rnE tx ln pl) su (sk tx ln pl) (rnV tx ln pl hi)) H := by rw [hE, hV]; exact hP
                exact W.zret (v := iZ (bZ (rnO tx ln pl lo hi))) hx hb hr (b01_nar (bZ_in _)) (fun t9 ht9 _ => ⟨rfl, by rw [ht9]; exact hP9, hS.F ht9⟩) hS.2.2 dX5_readNumber_155
              · skip
                refine lv_aload_n hx hb dX5_readNumber_138 rfl (lv_at hl 2 rfl) ?_
                refine va_get (D := G) (ci := 5) (v := .int (iZ v)) (C := RX5) (T := TX5) (N := 6) hx hb hts hFX5 hown hK.1 hP 0 rfl rfl 5 (by decide) kf68 (fun _ h9 => h9) rfl dX5_readNumber_139 ?_
                refine lv_iload_n hx hb dX5_readNumber_142 rfl (lv_at hl 3 rfl) ?_
                refine lv_iload_n hx hb dX5_readNumber_143 rfl (lv_at hl 4 rfl) ?_
                refine ro_SN (As := [.int (iZ v), .int (iZ lo), .int (iZ hi)]) (rest := []) ⟨hx, hb, hml, hown, hts⟩ (c_X6_isWithin l G Y v lo hi (by omega)) ⟨va_cnB 3 hts gX5_readNumber_X6_isWithin_n96 rfl rfl rfl (nk_X5_96 hK.2) (hts (.initialized RX6) (by decide +kernel)) (by decide +kernel) ⟨Nat.le_of_ble_eq_true rfl, Nat.le_of_ble_eq_true rfl⟩, hts (.static yX6_isWithin) (by decide +kernel), trivial⟩ hK (hP.sub (ws' := []) [] rfl) rfl hl.1 rfl (Nat.le_of_ble_eq_true rfl) dX5_readNumber_144 ⟨Nat.zero_le _, Nat.zero_le _⟩ ?_
                refine z_ifb_eq (tgt := 154) hx hb dX5_readNumber_147 (by decide) (fun c_29 => ?_) (fun c_29 => ?_)
                · skip
                  have c_29 := of_decide_eq_false c_29
                  refine z_iconst hx hb dX5_readNumber_154 ?_
                  refine z_top (show 0 = bZ (rnO tx ln pl lo hi) from ?_) ?_
                  · first | (exfalso; omega) | (unfold rnO; rw [hE, hV]; first | exact bZ_1 (by omega) | exact bZ_00 (by omega))
                  have hP9 : va_P G vwCl (txW Y h7 xa tx ln (rnE tx ln pl) su (sk tx ln pl) (rnV tx ln pl hi)) H := by rw [hE, hV]; exact hP
                  exact W.zret (v := iZ (bZ (rnO tx ln pl lo hi))) hx hb hr (b01_nar (bZ_in _)) (fun t9 ht9 _ => ⟨rfl, by rw [ht9]; exact hP9, hS.F ht9⟩) hS.2.2 dX5_readNumber_155
                · skip
                  have c_29 := of_decide_eq_true c_29
                  refine z_iconst hx hb dX5_readNumber_150 ?_
                  refine lv_goto (tgt := 155) hx hb dX5_readNumber_151 (by decide) ?_
                  refine z_top (show 1 = bZ (rnO tx ln pl lo hi) from ?_) ?_
                  · first | (exfalso; omega) | (unfold rnO; rw [hE, hV]; first | exact bZ_1 (by omega) | exact bZ_00 (by omega))
                  have hP9 : va_P G vwCl (txW Y h7 xa tx ln (rnE tx ln pl) su (sk tx ln pl) (rnV tx ln pl hi)) H := by rw [hE, hV]; exact hP
                  exact W.zret (v := iZ (bZ (rnO tx ln pl lo hi))) hx hb hr (b01_nar (bZ_in _)) (fun t9 ht9 _ => ⟨rfl, by rw [ht9]; exact hP9, hS.F ht9⟩) hS.2.2 dX5_readNumber_155
      · skip
        refine lv_aload_n hx hb dX5_readNumber_34 rfl (lv_at hl 0 rfl) ?_
        refine va_get (D := G) (ci := 5) (v := .ref xa) (C := RX5) (T := TX5) (N := 6) hx hb hts hFX5 hown hK.1 hP 0 rfl rfl 0 (by decide) kf9 (fun _ h9 => h9) rfl dX5_readNumber_35 ?_
        refine lv_aload_n hx hb dX5_readNumber_38 rfl (lv_at hl 0 rfl) ?_
        refine va_get (D := G) (ci := 5) (v := .int (iZ ((q : Nat) : Int))) (C := RX5) (T := TX5) (N := 6) hx hb hts hFX5 hown hK.1 hP 0 rfl rfl 2 (by decide) kf24 (fun _ h9 => h9) rfl dX5_readNumber_39 ?_
        refine z_cald hx hb hK.1 hP 1 2 rfl rfl q (by omega) (by decide) dX5_readNumber_42 ?_
        have hb_30 := hX q (by omega)
        refine z_bipush hx hb dX5_readNumber_43 (by decide) ?_
        refine z_icmp_gt (tgt := 93) hx hb dX5_readNumber_45 (by decide) (by omega) (fun c_31 => ?_) (fun c_31 => ?_)
        · skip
          have hE : rnE tx ln pl = q := by rw [← hI.2.1]; exact dg_stop (by omega)
          have hV : rnV tx ln pl hi = v := by rw [← hI.2.2.1]; exact nm_stop (by omega)
          refine lv_aload_n hx hb dX5_readNumber_93 rfl (lv_at hl 0 rfl) ?_
          refine va_get (D := G) (ci := 5) (v := .int (iZ ((q : Nat) : Int))) (C := RX5) (T := TX5) (N := 6) hx hb hts hFX5 hown hK.1 hP 0 rfl rfl 2 (by decide) kf24 (fun _ h9 => h9) rfl dX5_readNumber_94 ?_
          refine lv_aload_n hx hb dX5_readNumber_97 rfl (lv_at hl 0 rfl) ?_
          refine va_get (D := G) (ci := 5) (v := .int (iZ ((sk tx ln pl : Nat) : Int))) (C := RX5) (T := TX5) (N := 6) hx hb hts hFX5 hown hK.1 hP 0 rfl rfl 4 (by decide) kf42 (fun _ h9 => h9) rfl dX5_readNumber_98 ?_
          refine z_isub hx hb dX5_readNumber_101 ?_
          refine lv_istore_n (lv' := [(3, .int (iZ (((q : Nat) : Int) - ((sk tx ln pl : Nat) : Int)))), (0, .ref h7), (1, .int (iZ lo)), (2, .int (iZ hi))]) hx hb dX5_readNumber_102 rfl hl (by decide) rfl (fun ls hl => ?_)
          refine lv_iload_n hx hb dX5_readNumber_103 rfl (lv_at hl 0 rfl) ?_
          refine z_iconst hx hb dX5_readNumber_104 ?_
          refine z_icmp_le (tgt := 126) hx hb dX5_readNumber_105 (by decide) (by omega) (fun c_32 => ?_) (fun c_32 => ?_)
          · skip
            refine z_iconst hx hb dX5_readNumber_126 ?_
            refine lv_istore (lv' := [(4, .int (iZ 0)), (3, .int (iZ (((q : Nat) : Int) - ((sk tx ln pl : Nat) : Int)))), (0, .ref h7), (1, .int (iZ lo)), (2, .int (iZ hi))]) hx hb dX5_readNumber_127 hl (by decide) rfl (fun ls hl => ?_)
            refine lv_iload_n hx hb dX5_readNumber_129 rfl (lv_at hl 1 rfl) ?_
            refine z_if_le (tgt := 154) hx hb dX5_readNumber_130 (by decide) (by omega) (fun c_33 => ?_) (fun c_33 => ?_)
            · skip
              refine z_iconst hx hb dX5_readNumber_154 ?_
              refine z_top (show 0 = bZ (rnO tx ln pl lo hi) from ?_) ?_
              · first | (exfalso; omega) | (unfold rnO; rw [hE, hV]; first | exact bZ_1 (by omega) | exact bZ_00 (by omega))
              have hP9 : va_P G vwCl (txW Y h7 xa tx ln (rnE tx ln pl) su (sk tx ln pl) (rnV tx ln pl hi)) H := by rw [hE, hV]; exact hP
              exact W.zret (v := iZ (bZ (rnO tx ln pl lo hi))) hx hb hr (b01_nar (bZ_in _)) (fun t9 ht9 _ => ⟨rfl, by rw [ht9]; exact hP9, hS.F ht9⟩) hS.2.2 dX5_readNumber_155
            · skip
              refine lv_iload hx hb dX5_readNumber_133 (lv_at hl 0 rfl) ?_
              refine z_if_ne (tgt := 154) hx hb dX5_readNumber_135 (by decide) (by omega) (fun c_34 => ?_) (fun c_34 => ?_)
              · skip
                refine z_iconst hx hb dX5_readNumber_154 ?_
                refine z_top (show 0 = bZ (rnO tx ln pl lo hi) from ?_) ?_
                · first | (exfalso; omega) | (unfold rnO; rw [hE, hV]; first | exact bZ_1 (by omega) | exact bZ_00 (by omega))
                have hP9 : va_P G vwCl (txW Y h7 xa tx ln (rnE tx ln pl) su (sk tx ln pl) (rnV tx ln pl hi)) H := by rw [hE, hV]; exact hP
                exact W.zret (v := iZ (bZ (rnO tx ln pl lo hi))) hx hb hr (b01_nar (bZ_in _)) (fun t9 ht9 _ => ⟨rfl, by rw [ht9]; exact hP9, hS.F ht9⟩) hS.2.2 dX5_readNumber_155
              · skip
                refine lv_aload_n hx hb dX5_readNumber_138 rfl (lv_at hl 2 rfl) ?_
                refine va_get (D := G) (ci := 5) (v := .int (iZ v)) (C := RX5) (T := TX5) (N := 6) hx hb hts hFX5 hown hK.1 hP 0 rfl rfl 5 (by decide) kf68 (fun _ h9 => h9) rfl dX5_readNumber_139 ?_
                refine lv_iload_n hx hb dX5_readNumber_142 rfl (lv_at hl 3 rfl) ?_
                refine lv_iload_n hx hb dX5_readNumber_143 rfl (lv_at hl 4 rfl) ?_
                refine ro_SN (As := [.int (iZ v), .int (iZ lo), .int (iZ hi)]) (rest := []) ⟨hx, hb, hml, hown, hts⟩ (c_X6_isWithin l G Y v lo hi (by omega)) ⟨va_cnB 3 hts gX5_readNumber_X6_isWithin_n96 rfl rfl rfl (nk_X5_96 hK.2) (hts (.initialized RX6) (by decide +kernel)) (by decide +kernel) ⟨Nat.le_of_ble_eq_true rfl, Nat.le_of_ble_eq_true rfl⟩, hts (.static yX6_isWithin) (by decide +kernel), trivial⟩ hK (hP.sub (ws' := []) [] rfl) rfl hl.1 rfl (Nat.le_of_ble_eq_true rfl) dX5_readNumber_144 ⟨Nat.zero_le _, Nat.zero_le _⟩ ?_
                refine z_ifb_eq (tgt := 154) hx hb dX5_readNumber_147 (by decide) (fun c_35 => ?_) (fun c_35 => ?_)
                · skip
                  have c_35 := of_decide_eq_false c_35
                  refine z_iconst hx hb dX5_readNumber_154 ?_
                  refine z_top (show 0 = bZ (rnO tx ln pl lo hi) from ?_) ?_
                  · first | (exfalso; omega) | (unfold rnO; rw [hE, hV]; first | exact bZ_1 (by omega) | exact bZ_00 (by omega))
                  have hP9 : va_P G vwCl (txW Y h7 xa tx ln (rnE tx ln pl) su (sk tx ln pl) (rnV tx ln pl hi)) H := by rw [hE, hV]; exact hP
                  exact W.zret (v := iZ (bZ (rnO tx ln pl lo hi))) hx hb hr (b01_nar (bZ_in _)) (fun t9 ht9 _ => ⟨rfl, by rw [ht9]; exact hP9, hS.F ht9⟩) hS.2.2 dX5_readNumber_155
                · skip
                  have c_35 := of_decide_eq_true c_35
                  refine z_iconst hx hb dX5_readNumber_150 ?_
                  refine lv_goto (tgt := 155) hx hb dX5_readNumber_151 (by decide) ?_
                  refine z_top (show 1 = bZ (rnO tx ln pl lo hi) from ?_) ?_
                  · first | (exfalso; omega) | (unfold rnO; rw [hE, hV]; first | exact bZ_1 (by omega) | exact bZ_00 (by omega))
                  have hP9 : va_P G vwCl (txW Y h7 xa tx ln (rnE tx ln pl) su (sk tx ln pl) (rnV tx ln pl hi)) H := by rw [hE, hV]; exact hP
                  exact W.zret (v := iZ (bZ (rnO tx ln pl lo hi))) hx hb hr (b01_nar (bZ_in _)) (fun t9 ht9 _ => ⟨rfl, by rw [ht9]; exact hP9, hS.F ht9⟩) hS.2.2 dX5_readNumber_155
          · skip
            refine lv_aload_n hx hb dX5_readNumber_108 rfl (lv_at hl 1 rfl) ?_
            refine va_get (D := G) (ci := 5) (v := .ref xa) (C := RX5) (T := TX5) (N := 6) hx hb hts hFX5 hown hK.1 hP 0 rfl rfl 0 (by decide) kf9 (fun _ h9 => h9) rfl dX5_readNumber_109 ?_
            refine lv_aload_n hx hb dX5_readNumber_112 rfl (lv_at hl 1 rfl) ?_
            refine va_get (D := G) (ci := 5) (v := .int (iZ ((sk tx ln pl : Nat) : Int))) (C := RX5) (T := TX5) (N := 6) hx hb hts hFX5 hown hK.1 hP 0 rfl rfl 4 (by decide) kf42 (fun _ h9 => h9) rfl dX5_readNumber_113 ?_
            refine z_cald hx hb hK.1 hP 1 2 rfl rfl (sk tx ln pl) (by omega) (by decide) dX5_readNumber_116 ?_
            have hb_36 := hX (sk tx ln pl) (by omega)
            refine z_bipush hx hb dX5_readNumber_117 (by decide) ?_
            refine z_icmp_ne (tgt := 126) hx hb dX5_readNumber_119 (by decide) (by omega) (fun c_37 => ?_) (fun c_37 => ?_)
            · skip
              refine z_iconst hx hb dX5_readNumber_126 ?_
              refine lv_istore (lv' := [(4, .int (iZ 0)), (3, .int (iZ (((q : Nat) : Int) - ((sk tx ln pl : Nat) : Int)))), (0, .ref h7), (1, .int (iZ lo)), (2, .int (iZ hi))]) hx hb dX5_readNumber_127 hl (by decide) rfl (fun ls hl => ?_)
              refine lv_iload_n hx hb dX5_readNumber_129 rfl (lv_at hl 1 rfl) ?_
              refine z_if_le (tgt := 154) hx hb dX5_readNumber_130 (by decide) (by omega) (fun c_38 => ?_) (fun c_38 => ?_)
              · skip
                refine z_iconst hx hb dX5_readNumber_154 ?_
                refine z_top (show 0 = bZ (rnO tx ln pl lo hi) from ?_) ?_
                · first | (exfalso; omega) | (unfold rnO; rw [hE, hV]; first | exact bZ_1 (by omega) | exact bZ_00 (by omega))
                have hP9 : va_P G vwCl (txW Y h7 xa tx ln (rnE tx ln pl) su (sk tx ln pl) (rnV tx ln pl hi)) H := by rw [hE, hV]; exact hP
                exact W.zret (v := iZ (bZ (rnO tx ln pl lo hi))) hx hb hr (b01_nar (bZ_in _)) (fun t9 ht9 _ => ⟨rfl, by rw [ht9]; exact hP9, hS.F ht9⟩) hS.2.2 dX5_readNumber_155
              · skip
                refine lv_iload hx hb dX5_readNumber_133 (lv_at hl 0 rfl) ?_
                refine z_if_ne (tgt := 154) hx hb dX5_readNumber_135 (by decide) (by omega) (fun c_39 => ?_) (fun c_39 => ?_)
                · skip
                  refine z_iconst hx hb dX5_readNumber_154 ?_
                  refine z_top (show 0 = bZ (rnO tx ln pl lo hi) from ?_) ?_
                  · first | (exfalso; omega) | (unfold rnO; rw [hE, hV]; first | exact bZ_1 (by omega) | exact bZ_00 (by omega))
                  have hP9 : va_P G vwCl (txW Y h7 xa tx ln (rnE tx ln pl) su (sk tx ln pl) (rnV tx ln pl hi)) H := by rw [hE, hV]; exact hP
                  exact W.zret (v := iZ (bZ (rnO tx ln pl lo hi))) hx hb hr (b01_nar (bZ_in _)) (fun t9 ht9 _ => ⟨rfl, by rw [ht9]; exact hP9, hS.F ht9⟩) hS.2.2 dX5_readNumber_155
                · skip
                  refine lv_aload_n hx hb dX5_readNumber_138 rfl (lv_at hl 2 rfl) ?_
                  refine va_get (D := G) (ci := 5) (v := .int (iZ v)) (C := RX5) (T := TX5) (N := 6) hx hb hts hFX5 hown hK.1 hP 0 rfl rfl 5 (by decide) kf68 (fun _ h9 => h9) rfl dX5_readNumber_139 ?_
                  refine lv_iload_n hx hb dX5_readNumber_142 rfl (lv_at hl 3 rfl) ?_
                  refine lv_iload_n hx hb dX5_readNumber_143 rfl (lv_at hl 4 rfl) ?_
                  refine ro_SN (As := [.int (iZ v), .int (iZ lo), .int (iZ hi)]) (rest := []) ⟨hx, hb, hml, hown, hts⟩ (c_X6_isWithin l G Y v lo hi (by omega)) ⟨va_cnB 3 hts gX5_readNumber_X6_isWithin_n96 rfl rfl rfl (nk_X5_96 hK.2) (hts (.initialized RX6) (by decide +kernel)) (by decide +kernel) ⟨Nat.le_of_ble_eq_true rfl, Nat.le_of_ble_eq_true rfl⟩, hts (.static yX6_isWithin) (by decide +kernel), trivial⟩ hK (hP.sub (ws' := []) [] rfl) rfl hl.1 rfl (Nat.le_of_ble_eq_true rfl) dX5_readNumber_144 ⟨Nat.zero_le _, Nat.zero_le _⟩ ?_
                  refine z_ifb_eq (tgt := 154) hx hb dX5_readNumber_147 (by decide) (fun c_40 => ?_) (fun c_40 => ?_)
                  · skip
                    have c_40 := of_decide_eq_false c_40
                    refine z_iconst hx hb dX5_readNumber_154 ?_
                    refine z_top (show 0 = bZ (rnO tx ln pl lo hi) from ?_) ?_
                    · first | (exfalso; omega) | (unfold rnO; rw [hE, hV]; first | exact bZ_1 (by omega) | exact bZ_00 (by omega))
                    have hP9 : va_P G vwCl (txW Y h7 xa tx ln (rnE tx ln pl) su (sk tx ln pl) (rnV tx ln pl hi)) H := by rw [hE, hV]; exact hP
                    exact W.zret (v := iZ (bZ (rnO tx ln pl lo hi))) hx hb hr (b01_nar (bZ_in _)) (fun t9 ht9 _ => ⟨rfl, by rw [ht9]; exact hP9, hS.F ht9⟩) hS.2.2 dX5_readNumber_155
                  · skip
                    have c_40 := of_decide_eq_true c_40
                    refine z_iconst hx hb dX5_readNumber_150 ?_
                    refine lv_goto (tgt := 155) hx hb dX5_readNumber_151 (by decide) ?_
                    refine z_top (show 1 = bZ (rnO tx ln pl lo hi) from ?_) ?_
                    · first | (exfalso; omega) | (unfold rnO; rw [hE, hV]; first | exact bZ_1 (by omega) | exact bZ_00 (by omega))
                    have hP9 : va_P G vwCl (txW Y h7 xa tx ln (rnE tx ln pl) su (sk tx ln pl) (rnV tx ln pl hi)) H := by rw [hE, hV]; exact hP
                    exact W.zret (v := iZ (bZ (rnO tx ln pl lo hi))) hx hb hr (b01_nar (bZ_in _)) (fun t9 ht9 _ => ⟨rfl, by rw [ht9]; exact hP9, hS.F ht9⟩) hS.2.2 dX5_readNumber_155
            · skip
              refine z_iconst hx hb dX5_readNumber_122 ?_
              refine lv_goto (tgt := 127) hx hb dX5_readNumber_123 (by decide) ?_
              refine lv_istore (lv' := [(4, .int (iZ 1)), (3, .int (iZ (((q : Nat) : Int) - ((sk tx ln pl : Nat) : Int)))), (0, .ref h7), (1, .int (iZ lo)), (2, .int (iZ hi))]) hx hb dX5_readNumber_127 hl (by decide) rfl (fun ls hl => ?_)
              refine lv_iload_n hx hb dX5_readNumber_129 rfl (lv_at hl 1 rfl) ?_
              refine z_if_le (tgt := 154) hx hb dX5_readNumber_130 (by decide) (by omega) (fun c_41 => ?_) (fun c_41 => ?_)
              · skip
                refine z_iconst hx hb dX5_readNumber_154 ?_
                refine z_top (show 0 = bZ (rnO tx ln pl lo hi) from ?_) ?_
                · first | (exfalso; omega) | (unfold rnO; rw [hE, hV]; first | exact bZ_1 (by omega) | exact bZ_00 (by omega))
                have hP9 : va_P G vwCl (txW Y h7 xa tx ln (rnE tx ln pl) su (sk tx ln pl) (rnV tx ln pl hi)) H := by rw [hE, hV]; exact hP
                exact W.zret (v := iZ (bZ (rnO tx ln pl lo hi))) hx hb hr (b01_nar (bZ_in _)) (fun t9 ht9 _ => ⟨rfl, by rw [ht9]; exact hP9, hS.F ht9⟩) hS.2.2 dX5_readNumber_155
              · skip
                refine lv_iload hx hb dX5_readNumber_133 (lv_at hl 0 rfl) ?_
                refine z_if_ne (tgt := 154) hx hb dX5_readNumber_135 (by decide) (by omega) (fun c_42 => ?_) (fun c_42 => ?_)
                · skip
                  refine z_iconst hx hb dX5_readNumber_154 ?_
                  refine z_top (show 0 = bZ (rnO tx ln pl lo hi) from ?_) ?_
                  · first | (exfalso; omega) | (unfold rnO; rw [hE, hV]; first | exact bZ_1 (by omega) | exact bZ_00 (by omega))
                  have hP9 : va_P G vwCl (txW Y h7 xa tx ln (rnE tx ln pl) su (sk tx ln pl) (rnV tx ln pl hi)) H := by rw [hE, hV]; exact hP
                  exact W.zret (v := iZ (bZ (rnO tx ln pl lo hi))) hx hb hr (b01_nar (bZ_in _)) (fun t9 ht9 _ => ⟨rfl, by rw [ht9]; exact hP9, hS.F ht9⟩) hS.2.2 dX5_readNumber_155
                · skip
                  refine lv_aload_n hx hb dX5_readNumber_138 rfl (lv_at hl 2 rfl) ?_
                  refine va_get (D := G) (ci := 5) (v := .int (iZ v)) (C := RX5) (T := TX5) (N := 6) hx hb hts hFX5 hown hK.1 hP 0 rfl rfl 5 (by decide) kf68 (fun _ h9 => h9) rfl dX5_readNumber_139 ?_
                  refine lv_iload_n hx hb dX5_readNumber_142 rfl (lv_at hl 3 rfl) ?_
                  refine lv_iload_n hx hb dX5_readNumber_143 rfl (lv_at hl 4 rfl) ?_
                  refine ro_SN (As := [.int (iZ v), .int (iZ lo), .int (iZ hi)]) (rest := []) ⟨hx, hb, hml, hown, hts⟩ (c_X6_isWithin l G Y v lo hi (by omega)) ⟨va_cnB 3 hts gX5_readNumber_X6_isWithin_n96 rfl rfl rfl (nk_X5_96 hK.2) (hts (.initialized RX6) (by decide +kernel)) (by decide +kernel) ⟨Nat.le_of_ble_eq_true rfl, Nat.le_of_ble_eq_true rfl⟩, hts (.static yX6_isWithin) (by decide +kernel), trivial⟩ hK (hP.sub (ws' := []) [] rfl) rfl hl.1 rfl (Nat.le_of_ble_eq_true rfl) dX5_readNumber_144 ⟨Nat.zero_le _, Nat.zero_le _⟩ ?_
                  refine z_ifb_eq (tgt := 154) hx hb dX5_readNumber_147 (by decide) (fun c_43 => ?_) (fun c_43 => ?_)
                  · skip
                    have c_43 := of_decide_eq_false c_43
                    refine z_iconst hx hb dX5_readNumber_154 ?_
                    refine z_top (show 0 = bZ (rnO tx ln pl lo hi) from ?_) ?_
                    · first | (exfalso; omega) | (unfold rnO; rw [hE, hV]; first | exact bZ_1 (by omega) | exact bZ_00 (by omega))
                    have hP9 : va_P G vwCl (txW Y h7 xa tx ln (rnE tx ln pl) su (sk tx ln pl) (rnV tx ln pl hi)) H := by rw [hE, hV]; exact hP
                    exact W.zret (v := iZ (bZ (rnO tx ln pl lo hi))) hx hb hr (b01_nar (bZ_in _)) (fun t9 ht9 _ => ⟨rfl, by rw [ht9]; exact hP9, hS.F ht9⟩) hS.2.2 dX5_readNumber_155
                  · skip
                    have c_43 := of_decide_eq_true c_43
                    refine z_iconst hx hb dX5_readNumber_150 ?_
                    refine lv_goto (tgt := 155) hx hb dX5_readNumber_151 (by decide) ?_
                    refine z_top (show 1 = bZ (rnO tx ln pl lo hi) from ?_) ?_
                    · first | (exfalso; omega) | (unfold rnO; rw [hE, hV]; first | exact bZ_1 (by omega) | exact bZ_00 (by omega))
                    have hP9 : va_P G vwCl (txW Y h7 xa tx ln (rnE tx ln pl) su (sk tx ln pl) (rnV tx ln pl hi)) H := by rw [hE, hV]; exact hP
                    exact W.zret (v := iZ (bZ (rnO tx ln pl lo hi))) hx hb hr (b01_nar (bZ_in _)) (fun t9 ht9 _ => ⟨rfl, by rw [ht9]; exact hP9, hS.F ht9⟩) hS.2.2 dX5_readNumber_155
        · skip
          refine lv_aload_n hx hb dX5_readNumber_48 rfl (lv_at hl 0 rfl) ?_
          refine va_get (D := G) (ci := 5) (v := .int (iZ v)) (C := RX5) (T := TX5) (N := 6) hx hb hts hFX5 hown hK.1 hP 0 rfl rfl 5 (by decide) kf68 (fun _ h9 => h9) rfl dX5_readNumber_49 ?_
          refine lv_iload_n hx hb dX5_readNumber_52 rfl (lv_at hl 2 rfl) ?_
          refine z_icmp_gt (tgt := 80) hx hb dX5_readNumber_53 (by decide) (by omega) (fun c_44 => ?_) (fun c_44 => ?_)
          · skip
            refine lv_aload_n hx hb dX5_readNumber_80 rfl (lv_at hl 0 rfl) ?_
            refine lv_dup hx hb dX5_readNumber_81 rfl ?_
            refine va_get (D := G) (ci := 5) (v := .int (iZ ((q : Nat) : Int))) (C := RX5) (T := TX5) (N := 6) hx hb hts hFX5 hown hK.1 hP 0 rfl rfl 2 (by decide) kf24 (fun _ h9 => h9) rfl dX5_readNumber_82 ?_
            refine z_iconst hx hb dX5_readNumber_85 ?_
            refine z_iadd hx hb dX5_readNumber_86 ?_
            refine z_top (show (((q : Nat) : Int) + 1) = ((q + 1 : Nat) : Int) by omega) ?_
            refine va_put (D := G) (ci := 5) (v := .int (iZ ((q + 1 : Nat) : Int))) (ty := .int) (C := RX5) (T := TX5) (N := 6) hx hb hts hFX5 tyX5 tyX5_ok nmX5 hown hK.1 hP hD hS 0 rfl rfl 2 (by decide) kf24 (fun _ h9 => h9) rfl (by decide +kernel) rfl rfl (Nat.le_of_ble_eq_true rfl) dX5_readNumber_87 (fun H locs hP hD hS => ?_)
            replace hP : va_P G vwCl [(h7, .inr (5, [.ref xa, .int (iZ ((ln : Nat) : Int)), .int (iZ ((q + 1 : Nat) : Int)), .int (iZ (bZ su)), .int (iZ ((sk tx ln pl : Nat) : Int)), .int (iZ v)])), (xa, .inl (Y 2, 200, .inl (aI tx)))] H := hP
            replace hD : va_D _ [(h7, .inr (5, [.ref xa, .int (iZ ((ln : Nat) : Int)), .int (iZ ((q + 1 : Nat) : Int)), .int (iZ (bZ su)), .int (iZ ((sk tx ln pl : Nat) : Int)), .int (iZ v)])), (xa, .inl (Y 2, 200, .inl (aI tx)))] := hD
            refine lv_goto (tgt := 9) hx hb dX5_readNumber_90 (by decide) ?_
            exact ih2 (ls := ls) (q := q + 1) (v := v) (H := H) (locs := locs) (hS := hS) (hI := by refine ⟨by omega, ?_, ?_, by omega⟩; (rw [← hI.2.1]; exact (dg_step (by omega) (by omega)).symm); rw [← hI.2.2.1]; first | exact (nm_step1 (by omega) (by omega) (by omega)).symm | exact (nm_step2 (by omega) (by omega) (by omega)).symm) (hl := lv_sub hl [0, 1, 2] rfl) (hP := hP) (hD := hD) (hn_ := by omega)
          · skip
            refine lv_aload_n hx hb dX5_readNumber_56 rfl (lv_at hl 0 rfl) ?_
            refine lv_aload_n hx hb dX5_readNumber_57 rfl (lv_at hl 0 rfl) ?_
            refine va_get (D := G) (ci := 5) (v := .int (iZ v)) (C := RX5) (T := TX5) (N := 6) hx hb hts hFX5 hown hK.1 hP 0 rfl rfl 5 (by decide) kf68 (fun _ h9 => h9) rfl dX5_readNumber_58 ?_
            refine z_bipush hx hb dX5_readNumber_61 (by decide) ?_
            refine z_imul hx hb dX5_readNumber_63 ?_
            refine lv_aload_n hx hb dX5_readNumber_64 rfl (lv_at hl 0 rfl) ?_
            refine va_get (D := G) (ci := 5) (v := .ref xa) (C := RX5) (T := TX5) (N := 6) hx hb hts hFX5 hown hK.1 hP 0 rfl rfl 0 (by decide) kf9 (fun _ h9 => h9) rfl dX5_readNumber_65 ?_
            refine lv_aload_n hx hb dX5_readNumber_68 rfl (lv_at hl 0 rfl) ?_
            refine va_get (D := G) (ci := 5) (v := .int (iZ ((q : Nat) : Int))) (C := RX5) (T := TX5) (N := 6) hx hb hts hFX5 hown hK.1 hP 0 rfl rfl 2 (by decide) kf24 (fun _ h9 => h9) rfl dX5_readNumber_69 ?_
            refine z_cald hx hb hK.1 hP 1 2 rfl rfl q (by omega) (by decide) dX5_readNumber_72 ?_
            have hb_45 := hX q (by omega)
            refine z_iadd hx hb dX5_readNumber_73 ?_
            refine z_bipush hx hb dX5_readNumber_74 (by decide) ?_
            refine z_isub hx hb dX5_readNumber_76 ?_
            refine va_put (D := G) (ci := 5) (v := .int (iZ (((v * 10) + tx q) - 48))) (ty := .int) (C := RX5) (T := TX5) (N := 6) hx hb hts hFX5 tyX5 tyX5_ok nmX5 hown hK.1 hP hD hS 0 rfl rfl 5 (by decide) kf68 (fun _ h9 => h9) rfl (by decide +kernel) rfl rfl (Nat.le_of_ble_eq_true rfl) dX5_readNumber_77 (fun H locs hP hD hS => ?_)
            replace hP : va_P G vwCl [(h7, .inr (5, [.ref xa, .int (iZ ((ln : Nat) : Int)), .int (iZ ((q : Nat) : Int)), .int (iZ (bZ su)), .int (iZ ((sk tx ln pl : Nat) : Int)), .int (iZ (((v * 10) + tx q) - 48))])), (xa, .inl (Y 2, 200, .inl (aI tx)))] H := hP
            replace hD : va_D _ [(h7, .inr (5, [.ref xa, .int (iZ ((ln : Nat) : Int)), .int (iZ ((q : Nat) : Int)), .int (iZ (bZ su)), .int (iZ ((sk tx ln pl : Nat) : Int)), .int (iZ (((v * 10) + tx q) - 48))])), (xa, .inl (Y 2, 200, .inl (aI tx)))] := hD
            refine lv_aload_n hx hb dX5_readNumber_80 rfl (lv_at hl 0 rfl) ?_
            refine lv_dup hx hb dX5_readNumber_81 rfl ?_
            refine va_get (D := G) (ci := 5) (v := .int (iZ ((q : Nat) : Int))) (C := RX5) (T := TX5) (N := 6) hx hb hts hFX5 hown hK.1 hP 0 rfl rfl 2 (by decide) kf24 (fun _ h9 => h9) rfl dX5_readNumber_82 ?_
            refine z_iconst hx hb dX5_readNumber_85 ?_
            refine z_iadd hx hb dX5_readNumber_86 ?_
            refine z_top (show (((q : Nat) : Int) + 1) = ((q + 1 : Nat) : Int) by omega) ?_
            refine va_put (D := G) (ci := 5) (v := .int (iZ ((q + 1 : Nat) : Int))) (ty := .int) (C := RX5) (T := TX5) (N := 6) hx hb hts hFX5 tyX5 tyX5_ok nmX5 hown hK.1 hP hD hS 0 rfl rfl 2 (by decide) kf24 (fun _ h9 => h9) rfl (by decide +kernel) rfl rfl (Nat.le_of_ble_eq_true rfl) dX5_readNumber_87 (fun H locs hP hD hS => ?_)
            replace hP : va_P G vwCl [(h7, .inr (5, [.ref xa, .int (iZ ((ln : Nat) : Int)), .int (iZ ((q + 1 : Nat) : Int)), .int (iZ (bZ su)), .int (iZ ((sk tx ln pl : Nat) : Int)), .int (iZ (((v * 10) + tx q) - 48))])), (xa, .inl (Y 2, 200, .inl (aI tx)))] H := hP
            replace hD : va_D _ [(h7, .inr (5, [.ref xa, .int (iZ ((ln : Nat) : Int)), .int (iZ ((q + 1 : Nat) : Int)), .int (iZ (bZ su)), .int (iZ ((sk tx ln pl : Nat) : Int)), .int (iZ (((v * 10) + tx q) - 48))])), (xa, .inl (Y 2, 200, .inl (aI tx)))] := hD
            refine lv_goto (tgt := 9) hx hb dX5_readNumber_90 (by decide) ?_
            exact ih2 (ls := ls) (q := q + 1) (v := (((v * 10) + tx q) - 48)) (H := H) (locs := locs) (hS := hS) (hI := by refine ⟨by omega, ?_, ?_, by omega⟩; (rw [← hI.2.1]; exact (dg_step (by omega) (by omega)).symm); rw [← hI.2.2.1]; first | exact (nm_step1 (by omega) (by omega) (by omega)).symm | exact (nm_step2 (by omega) (by omega) (by omega)).symm) (hl := lv_sub hl [0, 1, 2] rfl) (hP := hP) (hD := hD) (hn_ := by omega)

set_option maxHeartbeats 4000000 in
set_option maxRecDepth 100000 in
theorem c_X5_tellLand (l : Launch) (G : va_G) (Y : Nat → ClassId) (h7 xa : Nat) (tx : Nat → Int) (hX : tX tx) (ln pl : Nat) (su : Bool) (tk : Nat) (nu : Int) (r : pl ≤ ln ∧ ln ≤ 200) (h : Nat) (ad : Nat → Nat) (K : Kom) : Met l yX5_tellLand wsX5_tellLand ({ frames := 2, cells := 0, slots := 0, locals := 46 }) (mP G Y [.ref h7, .ref h] (txW Y h7 xa tx ln pl su tk nu ++ cmW Y h ad K)) (mQ G (txW Y h7 xa tx ln pl su tk nu ++ cmW Y h ad K) (some (.int (iZ (bZ (tLand tx ln pl su K).1)))) (txR Y h7 xa tx ln h ad (tLand tx ln pl su K))) 0 0 (fun q => q ∈ List.map Prod.fst (txW Y h7 xa tx ln pl su tk nu ++ cmW Y h ad K)) := by
  refine Met.ofW (cc := cX5_tellLand) (maxL := 2) (ret := (some .boolean)) (by decide) rfl ?_
  intro p e s m args below meth c s₁ B hml hv
  obtain ⟨rfl, hK, hP, hD0⟩ := hv
  have hx := B.exec
  have hb := B.bytes
  have hr := B.returns
  have hts := atoms_spec (ws := wsX5_tellLand) B.pre
  have hown : s.vm.findClass RX5 = some m.cls := findClass_of_methodNamed B.named
  have hlocks := B.notSynchronized
  have hFX0 : ∀ w ∈ wsX00, w ∈ wsX5_tellLand := by decide +kernel
  have hFX5 : ∀ w ∈ wsX50, w ∈ wsX5_tellLand := by decide +kernel
  have kf68 := (hts (.fieldLink RX5 68 "ShadeVotes$Text" "number" "I") (by decide +kernel))
  have kf71 := (hts (.fieldLink RX5 71 "ShadeVotes$Commune" "wide" "I") (by decide +kernel))
  have kf74 := (hts (.fieldLink RX5 74 "ShadeVotes$Commune" "high" "I") (by decide +kernel))
  have hD := va_D_self hD0
  have hS : va_S (fun q => q ∈ List.map Prod.fst (txW Y h7 xa tx ln pl su tk nu ++ cmW Y h ad K)) s.heap s.heap [] := va_S.rf
  obtain ⟨H, hHe⟩ : ∃ H, H = s.heap := ⟨_, rfl⟩
  rw [← hHe] at hP
  replace hS : va_S (fun q => q ∈ List.map Prod.fst (txW Y h7 xa tx ln pl su tk nu ++ cmW Y h ad K)) s.heap H [] := by rw [hHe]; exact hS
  have hl := lv_entry ([.ref h7, .ref h]) (n := 2) (Nat.le_of_ble_eq_true rfl)
  rw [lg_entry_eq]
  generalize (lg_sl ([.ref h7, .ref h]) ++ List.replicate (2 - (lg_sl ([.ref h7, .ref h])).length) Slot.unset).toArray = ls at hl ⊢
  replace hl : lv_has ls 2 [(0, .ref h7), (1, .ref h)] := hl
  obtain ⟨locs, hLe⟩ : ∃ locs : List Loc, locs = [] := ⟨_, rfl⟩
  rw [← hLe] at hS ⊢
  have hW0 : ∀ {Q : State → Prop} {g : JFrame}, W p l e ({ frames := 2, cells := 0, slots := 0, locals := 46 }) s m [.ref h7, .ref h].toArray below meth c H locs 0 0 Q g → W p l e ({ frames := 2, cells := 0, slots := 0, locals := 46 }) s m [.ref h7, .ref h].toArray below meth c s.heap locs 0 0 Q g := fun h => by rw [← hHe]; exact h
  refine hW0 ?_
  clear hW0 hHe hLe
  refine lv_aload_n hx hb dX5_tellLand_0 rfl (lv_at hl 0 rfl) ?_
  refine z_iconst hx hb dX5_tellLand_1 ?_
  refine z_iconst hx hb dX5_tellLand_2 ?_
  have hP := hP.sub (ws' := [(h7, .inr (5, [.ref xa, .int (iZ ((ln : Nat) : Int)), .int (iZ ((pl : Nat) : Int)), .int (iZ (bZ su)), .int (iZ ((tk : Nat) : Int)), .int (iZ nu)])), (xa, .inl (Y 2, 200, .inl (aI tx)))] ++ [(h, .inr (0, [.int (iZ (K 0 0)), .int (iZ (K 0 1)), .int (iZ (K 0 2)), .int (iZ (K 0 3)), .int (iZ (K 0 4)), .int (iZ (K 0 5)), .int (iZ (K 0 6)), .ref (ad 1), .ref (ad 2), .ref (ad 3), .ref (ad 4), .ref (ad 5), .ref (ad 6), .ref (ad 7)])), (ad 1, .inl (Y 0, 6, .inl (aI (K 1)))), (ad 2, .inl (Y 0, 6, .inl (aI (K 2)))), (ad 3, .inl (Y 0, 6, .inl (aI (K 3)))), (ad 4, .inl (Y 1, 6, .inl (aI (K 4)))), (ad 5, .inl (Y 1, 6, .inl (aI (K 5)))), (ad 6, .inl (Y 0, 7, .inl (aI (K 6)))), (ad 7, .inl (Y 0, 7, .inl (aI (K 7))))]) [0, 1, 2, 3, 4, 5, 6, 7, 8, 9] rfl
  have hD := hD.sub (ws' := [(h7, .inr (5, [.ref xa, .int (iZ ((ln : Nat) : Int)), .int (iZ ((pl : Nat) : Int)), .int (iZ (bZ su)), .int (iZ ((tk : Nat) : Int)), .int (iZ nu)])), (xa, .inl (Y 2, 200, .inl (aI tx)))] ++ [(h, .inr (0, [.int (iZ (K 0 0)), .int (iZ (K 0 1)), .int (iZ (K 0 2)), .int (iZ (K 0 3)), .int (iZ (K 0 4)), .int (iZ (K 0 5)), .int (iZ (K 0 6)), .ref (ad 1), .ref (ad 2), .ref (ad 3), .ref (ad 4), .ref (ad 5), .ref (ad 6), .ref (ad 7)])), (ad 1, .inl (Y 0, 6, .inl (aI (K 1)))), (ad 2, .inl (Y 0, 6, .inl (aI (K 2)))), (ad 3, .inl (Y 0, 6, .inl (aI (K 3)))), (ad 4, .inl (Y 1, 6, .inl (aI (K 4)))), (ad 5, .inl (Y 1, 6, .inl (aI (K 5)))), (ad 6, .inl (Y 0, 7, .inl (aI (K 6)))), (ad 7, .inl (Y 0, 7, .inl (aI (K 7))))]) [0, 1, 2, 3, 4, 5, 6, 7, 8, 9] (by decide) rfl
  refine mu_V (As := [.int (iZ 2), .int (iZ 5)]) (rest := []) (wc := [(h7, .inr (5, [.ref xa, .int (iZ ((ln : Nat) : Int)), .int (iZ ((pl : Nat) : Int)), .int (iZ (bZ su)), .int (iZ ((tk : Nat) : Int)), .int (iZ nu)])), (xa, .inl (Y 2, 200, .inl (aI tx)))]) (wc' := txW Y h7 xa tx ln (rnE tx ln pl) su (sk tx ln pl) (rnV tx ln pl 5)) (F := [(h, .inr (0, [.int (iZ (K 0 0)), .int (iZ (K 0 1)), .int (iZ (K 0 2)), .int (iZ (K 0 3)), .int (iZ (K 0 4)), .int (iZ (K 0 5)), .int (iZ (K 0 6)), .ref (ad 1), .ref (ad 2), .ref (ad 3), .ref (ad 4), .ref (ad 5), .ref (ad 6), .ref (ad 7)])), (ad 1, .inl (Y 0, 6, .inl (aI (K 1)))), (ad 2, .inl (Y 0, 6, .inl (aI (K 2)))), (ad 3, .inl (Y 0, 6, .inl (aI (K 3)))), (ad 4, .inl (Y 1, 6, .inl (aI (K 4)))), (ad 5, .inl (Y 1, 6, .inl (aI (K 5)))), (ad 6, .inl (Y 0, 7, .inl (aI (K 6)))), (ad 7, .inl (Y 0, 7, .inl (aI (K 7))))]) ⟨hx, hb, hml, hown, hts⟩ (c_X5_readNumber l G Y h7 xa tx hX ln pl su tk nu (by omega) 2 5 (by omega)) (cwV 2 hts gX5_tellLand_X5_readNumber rfl rfl rfl (by decide +kernel) ⟨Nat.le_of_ble_eq_true rfl, Nat.le_of_ble_eq_true rfl⟩) hK hP hD hS 0 rfl rfl (Eq.refl [h7, xa]) rfl hl.1 rfl (Nat.le_of_ble_eq_true rfl) dX5_tellLand_3 ⟨Nat.zero_le _, Nat.zero_le _⟩ (fun H locs hP hD hS => ?_)
  show W _ _ _ _ _ _ _ _ _ _ _ _ _ _ _ (F0 _ _ _ [.int (iZ (bZ (rnO tx ln pl 2 5)))])
  replace hP : va_P G vwCl [(h7, .inr (5, [.ref xa, .int (iZ ((ln : Nat) : Int)), .int (iZ ((rnE tx ln pl : Nat) : Int)), .int (iZ (bZ su)), .int (iZ ((sk tx ln pl : Nat) : Int)), .int (iZ (rnV tx ln pl 5))])), (xa, .inl (Y 2, 200, .inl (aI tx))), (h, .inr (0, [.int (iZ (K 0 0)), .int (iZ (K 0 1)), .int (iZ (K 0 2)), .int (iZ (K 0 3)), .int (iZ (K 0 4)), .int (iZ (K 0 5)), .int (iZ (K 0 6)), .ref (ad 1), .ref (ad 2), .ref (ad 3), .ref (ad 4), .ref (ad 5), .ref (ad 6), .ref (ad 7)])), (ad 1, .inl (Y 0, 6, .inl (aI (K 1)))), (ad 2, .inl (Y 0, 6, .inl (aI (K 2)))), (ad 3, .inl (Y 0, 6, .inl (aI (K 3)))), (ad 4, .inl (Y 1, 6, .inl (aI (K 4)))), (ad 5, .inl (Y 1, 6, .inl (aI (K 5)))), (ad 6, .inl (Y 0, 7, .inl (aI (K 6)))), (ad 7, .inl (Y 0, 7, .inl (aI (K 7))))] H := hP
  replace hD : va_D _ [(h7, .inr (5, [.ref xa, .int (iZ ((ln : Nat) : Int)), .int (iZ ((rnE tx ln pl : Nat) : Int)), .int (iZ (bZ su)), .int (iZ ((sk tx ln pl : Nat) : Int)), .int (iZ (rnV tx ln pl 5))])), (xa, .inl (Y 2, 200, .inl (aI tx))), (h, .inr (0, [.int (iZ (K 0 0)), .int (iZ (K 0 1)), .int (iZ (K 0 2)), .int (iZ (K 0 3)), .int (iZ (K 0 4)), .int (iZ (K 0 5)), .int (iZ (K 0 6)), .ref (ad 1), .ref (ad 2), .ref (ad 3), .ref (ad 4), .ref (ad 5), .ref (ad 6), .ref (ad 7)])), (ad 1, .inl (Y 0, 6, .inl (aI (K 1)))), (ad 2, .inl (Y 0, 6, .inl (aI (K 2)))), (ad 3, .inl (Y 0, 6, .inl (aI (K 3)))), (ad 4, .inl (Y 1, 6, .inl (aI (K 4)))), (ad 5, .inl (Y 1, 6, .inl (aI (K 5)))), (ad 6, .inl (Y 0, 7, .inl (aI (K 6)))), (ad 7, .inl (Y 0, 7, .inl (aI (K 7))))] := hD
  have hb_1 := rnE_in (tx := tx) (ln := ln) (q := pl) (by omega)
  have hb_2 := rnV_in (tx := tx) (ln := ln) (q := pl) (hi := 5) (by omega)
  refine z_ifb_ne (tgt := 11) hx hb dX5_tellLand_6 (by decide) (fun c_3 => ?_) (fun c_3 => ?_)
  · skip
    refine lv_aload_n hx hb dX5_tellLand_11 rfl (lv_at hl 1 rfl) ?_
    refine lv_aload_n hx hb dX5_tellLand_12 rfl (lv_at hl 0 rfl) ?_
    refine va_get (D := G) (ci := 5) (v := .int (iZ (rnV tx ln pl 5))) (C := RX5) (T := TX5) (N := 6) hx hb hts hFX5 hown hK.1 hP 0 rfl rfl 5 (by decide) kf68 (fun _ h9 => h9) rfl dX5_tellLand_13 ?_
    refine va_put (D := G) (ci := 0) (v := .int (iZ (rnV tx ln pl 5))) (ty := .int) (C := RX0) (T := TX0) (N := 14) hx hb hts hFX0 tyX0 tyX0_ok nmX0 hown hK.1 hP hD hS 2 rfl rfl 0 (by decide) kf71 (fun _ h9 => h9) rfl (by decide +kernel) rfl rfl (Nat.le_of_ble_eq_true rfl) dX5_tellLand_16 (fun H locs hP hD hS => ?_)
    replace hP : va_P G vwCl [(h7, .inr (5, [.ref xa, .int (iZ ((ln : Nat) : Int)), .int (iZ ((rnE tx ln pl : Nat) : Int)), .int (iZ (bZ su)), .int (iZ ((sk tx ln pl : Nat) : Int)), .int (iZ (rnV tx ln pl 5))])), (xa, .inl (Y 2, 200, .inl (aI tx))), (h, .inr (0, [.int (iZ (rnV tx ln pl 5)), .int (iZ (K 0 1)), .int (iZ (K 0 2)), .int (iZ (K 0 3)), .int (iZ (K 0 4)), .int (iZ (K 0 5)), .int (iZ (K 0 6)), .ref (ad 1), .ref (ad 2), .ref (ad 3), .ref (ad 4), .ref (ad 5), .ref (ad 6), .ref (ad 7)])), (ad 1, .inl (Y 0, 6, .inl (aI (K 1)))), (ad 2, .inl (Y 0, 6, .inl (aI (K 2)))), (ad 3, .inl (Y 0, 6, .inl (aI (K 3)))), (ad 4, .inl (Y 1, 6, .inl (aI (K 4)))), (ad 5, .inl (Y 1, 6, .inl (aI (K 5)))), (ad 6, .inl (Y 0, 7, .inl (aI (K 6)))), (ad 7, .inl (Y 0, 7, .inl (aI (K 7))))] H := hP
    replace hD : va_D _ [(h7, .inr (5, [.ref xa, .int (iZ ((ln : Nat) : Int)), .int (iZ ((rnE tx ln pl : Nat) : Int)), .int (iZ (bZ su)), .int (iZ ((sk tx ln pl : Nat) : Int)), .int (iZ (rnV tx ln pl 5))])), (xa, .inl (Y 2, 200, .inl (aI tx))), (h, .inr (0, [.int (iZ (rnV tx ln pl 5)), .int (iZ (K 0 1)), .int (iZ (K 0 2)), .int (iZ (K 0 3)), .int (iZ (K 0 4)), .int (iZ (K 0 5)), .int (iZ (K 0 6)), .ref (ad 1), .ref (ad 2), .ref (ad 3), .ref (ad 4), .ref (ad 5), .ref (ad 6), .ref (ad 7)])), (ad 1, .inl (Y 0, 6, .inl (aI (K 1)))), (ad 2, .inl (Y 0, 6, .inl (aI (K 2)))), (ad 3, .inl (Y 0, 6, .inl (aI (K 3)))), (ad 4, .inl (Y 1, 6, .inl (aI (K 4)))), (ad 5, .inl (Y 1, 6, .inl (aI (K 5)))), (ad 6, .inl (Y 0, 7, .inl (aI (K 6)))), (ad 7, .inl (Y 0, 7, .inl (aI (K 7))))] := hD
    refine lv_aload_n hx hb dX5_tellLand_19 rfl (lv_at hl 0 rfl) ?_
    refine z_iconst hx hb dX5_tellLand_20 ?_
    refine z_iconst hx hb dX5_tellLand_21 ?_
    have hP := hP.sub (ws' := [(h7, .inr (5, [.ref xa, .int (iZ ((ln : Nat) : Int)), .int (iZ ((rnE tx ln pl : Nat) : Int)), .int (iZ (bZ su)), .int (iZ ((sk tx ln pl : Nat) : Int)), .int (iZ (rnV tx ln pl 5))])), (xa, .inl (Y 2, 200, .inl (aI tx)))] ++ [(h, .inr (0, [.int (iZ (rnV tx ln pl 5)), .int (iZ (K 0 1)), .int (iZ (K 0 2)), .int (iZ (K 0 3)), .int (iZ (K 0 4)), .int (iZ (K 0 5)), .int (iZ (K 0 6)), .ref (ad 1), .ref (ad 2), .ref (ad 3), .ref (ad 4), .ref (ad 5), .ref (ad 6), .ref (ad 7)])), (ad 1, .inl (Y 0, 6, .inl (aI (K 1)))), (ad 2, .inl (Y 0, 6, .inl (aI (K 2)))), (ad 3, .inl (Y 0, 6, .inl (aI (K 3)))), (ad 4, .inl (Y 1, 6, .inl (aI (K 4)))), (ad 5, .inl (Y 1, 6, .inl (aI (K 5)))), (ad 6, .inl (Y 0, 7, .inl (aI (K 6)))), (ad 7, .inl (Y 0, 7, .inl (aI (K 7))))]) [0, 1, 2, 3, 4, 5, 6, 7, 8, 9] rfl
    have hD := hD.sub (ws' := [(h7, .inr (5, [.ref xa, .int (iZ ((ln : Nat) : Int)), .int (iZ ((rnE tx ln pl : Nat) : Int)), .int (iZ (bZ su)), .int (iZ ((sk tx ln pl : Nat) : Int)), .int (iZ (rnV tx ln pl 5))])), (xa, .inl (Y 2, 200, .inl (aI tx)))] ++ [(h, .inr (0, [.int (iZ (rnV tx ln pl 5)), .int (iZ (K 0 1)), .int (iZ (K 0 2)), .int (iZ (K 0 3)), .int (iZ (K 0 4)), .int (iZ (K 0 5)), .int (iZ (K 0 6)), .ref (ad 1), .ref (ad 2), .ref (ad 3), .ref (ad 4), .ref (ad 5), .ref (ad 6), .ref (ad 7)])), (ad 1, .inl (Y 0, 6, .inl (aI (K 1)))), (ad 2, .inl (Y 0, 6, .inl (aI (K 2)))), (ad 3, .inl (Y 0, 6, .inl (aI (K 3)))), (ad 4, .inl (Y 1, 6, .inl (aI (K 4)))), (ad 5, .inl (Y 1, 6, .inl (aI (K 5)))), (ad 6, .inl (Y 0, 7, .inl (aI (K 6)))), (ad 7, .inl (Y 0, 7, .inl (aI (K 7))))]) [0, 1, 2, 3, 4, 5, 6, 7, 8, 9] (by decide) rfl
    refine mu_V (As := [.int (iZ 2), .int (iZ 4)]) (rest := []) (wc := [(h7, .inr (5, [.ref xa, .int (iZ ((ln : Nat) : Int)), .int (iZ ((rnE tx ln pl : Nat) : Int)), .int (iZ (bZ su)), .int (iZ ((sk tx ln pl : Nat) : Int)), .int (iZ (rnV tx ln pl 5))])), (xa, .inl (Y 2, 200, .inl (aI tx)))]) (wc' := txW Y h7 xa tx ln (rnE tx ln (rnE tx ln pl)) su (sk tx ln (rnE tx ln pl)) (rnV tx ln (rnE tx ln pl) 4)) (F := [(h, .inr (0, [.int (iZ (rnV tx ln pl 5)), .int (iZ (K 0 1)), .int (iZ (K 0 2)), .int (iZ (K 0 3)), .int (iZ (K 0 4)), .int (iZ (K 0 5)), .int (iZ (K 0 6)), .ref (ad 1), .ref (ad 2), .ref (ad 3), .ref (ad 4), .ref (ad 5), .ref (ad 6), .ref (ad 7)])), (ad 1, .inl (Y 0, 6, .inl (aI (K 1)))), (ad 2, .inl (Y 0, 6, .inl (aI (K 2)))), (ad 3, .inl (Y 0, 6, .inl (aI (K 3)))), (ad 4, .inl (Y 1, 6, .inl (aI (K 4)))), (ad 5, .inl (Y 1, 6, .inl (aI (K 5)))), (ad 6, .inl (Y 0, 7, .inl (aI (K 6)))), (ad 7, .inl (Y 0, 7, .inl (aI (K 7))))]) ⟨hx, hb, hml, hown, hts⟩ (c_X5_readNumber l G Y h7 xa tx hX ln (rnE tx ln pl) su (sk tx ln pl) (rnV tx ln pl 5) (by omega) 2 4 (by omega)) (cwV 2 hts gX5_tellLand_X5_readNumber rfl rfl rfl (by decide +kernel) ⟨Nat.le_of_ble_eq_true rfl, Nat.le_of_ble_eq_true rfl⟩) hK hP hD hS 0 rfl rfl (Eq.refl [h7, xa]) rfl hl.1 rfl (Nat.le_of_ble_eq_true rfl) dX5_tellLand_22 ⟨Nat.zero_le _, Nat.zero_le _⟩ (fun H locs hP hD hS => ?_)
    show W _ _ _ _ _ _ _ _ _ _ _ _ _ _ _ (F0 _ _ _ [.int (iZ (bZ (rnO tx ln (rnE tx ln pl) 2 4)))])
    replace hP : va_P G vwCl [(h7, .inr (5, [.ref xa, .int (iZ ((ln : Nat) : Int)), .int (iZ ((rnE tx ln (rnE tx ln pl) : Nat) : Int)), .int (iZ (bZ su)), .int (iZ ((sk tx ln (rnE tx ln pl) : Nat) : Int)), .int (iZ (rnV tx ln (rnE tx ln pl) 4))])), (xa, .inl (Y 2, 200, .inl (aI tx))), (h, .inr (0, [.int (iZ (rnV tx ln pl 5)), .int (iZ (K 0 1)), .int (iZ (K 0 2)), .int (iZ (K 0 3)), .int (iZ (K 0 4)), .int (iZ (K 0 5)), .int (iZ (K 0 6)), .ref (ad 1), .ref (ad 2), .ref (ad 3), .ref (ad 4), .ref (ad 5), .ref (ad 6), .ref (ad 7)])), (ad 1, .inl (Y 0, 6, .inl (aI (K 1)))), (ad 2, .inl (Y 0, 6, .inl (aI (K 2)))), (ad 3, .inl (Y 0, 6, .inl (aI (K 3)))), (ad 4, .inl (Y 1, 6, .inl (aI (K 4)))), (ad 5, .inl (Y 1, 6, .inl (aI (K 5)))), (ad 6, .inl (Y 0, 7, .inl (aI (K 6)))), (ad 7, .inl (Y 0, 7, .inl (aI (K 7))))] H := hP
    replace hD : va_D _ [(h7, .inr (5, [.ref xa, .int (iZ ((ln : Nat) : Int)), .int (iZ ((rnE tx ln (rnE tx ln pl) : Nat) : Int)), .int (iZ (bZ su)), .int (iZ ((sk tx ln (rnE tx ln pl) : Nat) : Int)), .int (iZ (rnV tx ln (rnE tx ln pl) 4))])), (xa, .inl (Y 2, 200, .inl (aI tx))), (h, .inr (0, [.int (iZ (rnV tx ln pl 5)), .int (iZ (K 0 1)), .int (iZ (K 0 2)), .int (iZ (K 0 3)), .int (iZ (K 0 4)), .int (iZ (K 0 5)), .int (iZ (K 0 6)), .ref (ad 1), .ref (ad 2), .ref (ad 3), .ref (ad 4), .ref (ad 5), .ref (ad 6), .ref (ad 7)])), (ad 1, .inl (Y 0, 6, .inl (aI (K 1)))), (ad 2, .inl (Y 0, 6, .inl (aI (K 2)))), (ad 3, .inl (Y 0, 6, .inl (aI (K 3)))), (ad 4, .inl (Y 1, 6, .inl (aI (K 4)))), (ad 5, .inl (Y 1, 6, .inl (aI (K 5)))), (ad 6, .inl (Y 0, 7, .inl (aI (K 6)))), (ad 7, .inl (Y 0, 7, .inl (aI (K 7))))] := hD
    have hb_4 := rnE_in (tx := tx) (ln := ln) (q := rnE tx ln pl) (by omega)
    have hb_5 := rnV_in (tx := tx) (ln := ln) (q := rnE tx ln pl) (hi := 4) (by omega)
    refine z_ifb_ne (tgt := 30) hx hb dX5_tellLand_25 (by decide) (fun c_6 => ?_) (fun c_6 => ?_)
    · skip
      refine lv_aload_n hx hb dX5_tellLand_30 rfl (lv_at hl 1 rfl) ?_
      refine lv_aload_n hx hb dX5_tellLand_31 rfl (lv_at hl 0 rfl) ?_
      refine va_get (D := G) (ci := 5) (v := .int (iZ (rnV tx ln (rnE tx ln pl) 4))) (C := RX5) (T := TX5) (N := 6) hx hb hts hFX5 hown hK.1 hP 0 rfl rfl 5 (by decide) kf68 (fun _ h9 => h9) rfl dX5_tellLand_32 ?_
      refine va_put (D := G) (ci := 0) (v := .int (iZ (rnV tx ln (rnE tx ln pl) 4))) (ty := .int) (C := RX0) (T := TX0) (N := 14) hx hb hts hFX0 tyX0 tyX0_ok nmX0 hown hK.1 hP hD hS 2 rfl rfl 1 (by decide) kf74 (fun _ h9 => h9) rfl (by decide +kernel) rfl rfl (Nat.le_of_ble_eq_true rfl) dX5_tellLand_35 (fun H locs hP hD hS => ?_)
      replace hP : va_P G vwCl [(h7, .inr (5, [.ref xa, .int (iZ ((ln : Nat) : Int)), .int (iZ ((rnE tx ln (rnE tx ln pl) : Nat) : Int)), .int (iZ (bZ su)), .int (iZ ((sk tx ln (rnE tx ln pl) : Nat) : Int)), .int (iZ (rnV tx ln (rnE tx ln pl) 4))])), (xa, .inl (Y 2, 200, .inl (aI tx))), (h, .inr (0, [.int (iZ (rnV tx ln pl 5)), .int (iZ (rnV tx ln (rnE tx ln pl) 4)), .int (iZ (K 0 2)), .int (iZ (K 0 3)), .int (iZ (K 0 4)), .int (iZ (K 0 5)), .int (iZ (K 0 6)), .ref (ad 1), .ref (ad 2), .ref (ad 3), .ref (ad 4), .ref (ad 5), .ref (ad 6), .ref (ad 7)])), (ad 1, .inl (Y 0, 6, .inl (aI (K 1)))), (ad 2, .inl (Y 0, 6, .inl (aI (K 2)))), (ad 3, .inl (Y 0, 6, .inl (aI (K 3)))), (ad 4, .inl (Y 1, 6, .inl (aI (K 4)))), (ad 5, .inl (Y 1, 6, .inl (aI (K 5)))), (ad 6, .inl (Y 0, 7, .inl (aI (K 6)))), (ad 7, .inl (Y 0, 7, .inl (aI (K 7))))] H := hP
      replace hD : va_D _ [(h7, .inr (5, [.ref xa, .int (iZ ((ln : Nat) : Int)), .int (iZ ((rnE tx ln (rnE tx ln pl) : Nat) : Int)), .int (iZ (bZ su)), .int (iZ ((sk tx ln (rnE tx ln pl) : Nat) : Int)), .int (iZ (rnV tx ln (rnE tx ln pl) 4))])), (xa, .inl (Y 2, 200, .inl (aI tx))), (h, .inr (0, [.int (iZ (rnV tx ln pl 5)), .int (iZ (rnV tx ln (rnE tx ln pl) 4)), .int (iZ (K 0 2)), .int (iZ (K 0 3)), .int (iZ (K 0 4)), .int (iZ (K 0 5)), .int (iZ (K 0 6)), .ref (ad 1), .ref (ad 2), .ref (ad 3), .ref (ad 4), .ref (ad 5), .ref (ad 6), .ref (ad 7)])), (ad 1, .inl (Y 0, 6, .inl (aI (K 1)))), (ad 2, .inl (Y 0, 6, .inl (aI (K 2)))), (ad 3, .inl (Y 0, 6, .inl (aI (K 3)))), (ad 4, .inl (Y 1, 6, .inl (aI (K 4)))), (ad 5, .inl (Y 1, 6, .inl (aI (K 5)))), (ad 6, .inl (Y 0, 7, .inl (aI (K 6)))), (ad 7, .inl (Y 0, 7, .inl (aI (K 7))))] := hD
      refine z_iconst hx hb dX5_tellLand_38 ?_
      have e9 : tLand tx ln pl su K = (true, rnE tx ln (rnE tx ln pl), sk tx ln (rnE tx ln pl), rnV tx ln (rnE tx ln pl) 4, su, kS (kS K 0 0 (rnV tx ln pl 5)) 0 1 (rnV tx ln (rnE tx ln pl) 4)) := by unfold tLand; simp only [c_3, c_6, cond_true, cond_false]
      refine z_top (show 1 = bZ (tLand tx ln pl su K).1 from ?_) ?_
      · rw [e9]; rfl
      have hP9 : va_P G vwCl (txR Y h7 xa tx ln h ad (tLand tx ln pl su K)) H := by rw [e9]; exact hP.sub [0, 1, 2, 3, 4, 5, 6, 7, 8, 9] rfl
      exact W.zret (v := iZ (bZ (tLand tx ln pl su K).1)) hx hb hr (b01_nar (bZ_in _)) (fun t9 ht9 _ => ⟨rfl, by rw [ht9]; exact hP9, hS.F ht9⟩) hS.2.2 dX5_tellLand_39
    · skip
      refine z_iconst hx hb dX5_tellLand_28 ?_
      have e9 : tLand tx ln pl su K = (false, rnE tx ln (rnE tx ln pl), sk tx ln (rnE tx ln pl), rnV tx ln (rnE tx ln pl) 4, su, kS K 0 0 (rnV tx ln pl 5)) := by unfold tLand; simp only [c_3, c_6, cond_true, cond_false]
      refine z_top (show 0 = bZ (tLand tx ln pl su K).1 from ?_) ?_
      · rw [e9]; rfl
      have hP9 : va_P G vwCl (txR Y h7 xa tx ln h ad (tLand tx ln pl su K)) H := by rw [e9]; exact hP.sub [0, 1, 2, 3, 4, 5, 6, 7, 8, 9] rfl
      exact W.zret (v := iZ (bZ (tLand tx ln pl su K).1)) hx hb hr (b01_nar (bZ_in _)) (fun t9 ht9 _ => ⟨rfl, by rw [ht9]; exact hP9, hS.F ht9⟩) hS.2.2 dX5_tellLand_29
  · skip
    refine z_iconst hx hb dX5_tellLand_9 ?_
    have e9 : tLand tx ln pl su K = (false, rnE tx ln pl, sk tx ln pl, rnV tx ln pl 5, su, K) := by unfold tLand; simp only [c_3, cond_true, cond_false]
    refine z_top (show 0 = bZ (tLand tx ln pl su K).1 from ?_) ?_
    · rw [e9]; rfl
    have hP9 : va_P G vwCl (txR Y h7 xa tx ln h ad (tLand tx ln pl su K)) H := by rw [e9]; exact hP.sub [0, 1, 2, 3, 4, 5, 6, 7, 8, 9] rfl
    exact W.zret (v := iZ (bZ (tLand tx ln pl su K).1)) hx hb hr (b01_nar (bZ_in _)) (fun t9 ht9 _ => ⟨rfl, by rw [ht9]; exact hP9, hS.F ht9⟩) hS.2.2 dX5_tellLand_10

set_option maxHeartbeats 4000000 in
set_option maxRecDepth 100000 in
theorem c_X5_tellTree (l : Launch) (G : va_G) (Y : Nat → ClassId) (h7 xa : Nat) (tx : Nat → Int) (hX : tX tx) (ln pl : Nat) (su : Bool) (tk : Nat) (nu : Int) (r : pl ≤ ln ∧ ln ≤ 200) (h : Nat) (ad : Nat → Nat) (K : Kom) (hW : cWF K) (r4 : K 0 2 ≤ 4) : Met l yX5_tellTree wsX5_tellTree ({ frames := 2, cells := 0, slots := 0, locals := 46 }) (mP G Y [.ref h7, .ref h] (txW Y h7 xa tx ln pl su tk nu ++ cmW Y h ad K)) (mQ G (txW Y h7 xa tx ln pl su tk nu ++ cmW Y h ad K) (some (.int (iZ (bZ (tTree tx ln pl su K).1)))) (txR Y h7 xa tx ln h ad (tTree tx ln pl su K))) 0 0 (fun q => q ∈ List.map Prod.fst (txW Y h7 xa tx ln pl su tk nu ++ cmW Y h ad K)) := by
  refine Met.ofW (cc := cX5_tellTree) (maxL := 5) (ret := (some .boolean)) (by decide) rfl ?_
  intro p e s m args below meth c s₁ B hml hv
  obtain ⟨rfl, hK, hP, hD0⟩ := hv
  have hx := B.exec
  have hb := B.bytes
  have hr := B.returns
  have hts := atoms_spec (ws := wsX5_tellTree) B.pre
  have hown : s.vm.findClass RX5 = some m.cls := findClass_of_methodNamed B.named
  have hlocks := B.notSynchronized
  have hFX5 : ∀ w ∈ wsX50, w ∈ wsX5_tellTree := by decide +kernel
  have kf68 := (hts (.fieldLink RX5 68 "ShadeVotes$Text" "number" "I") (by decide +kernel))
  have hD := va_D_self hD0
  have hS : va_S (fun q => q ∈ List.map Prod.fst (txW Y h7 xa tx ln pl su tk nu ++ cmW Y h ad K)) s.heap s.heap [] := va_S.rf
  obtain ⟨H, hHe⟩ : ∃ H, H = s.heap := ⟨_, rfl⟩
  rw [← hHe] at hP
  replace hS : va_S (fun q => q ∈ List.map Prod.fst (txW Y h7 xa tx ln pl su tk nu ++ cmW Y h ad K)) s.heap H [] := by rw [hHe]; exact hS
  have hl := lv_entry ([.ref h7, .ref h]) (n := 5) (Nat.le_of_ble_eq_true rfl)
  rw [lg_entry_eq]
  generalize (lg_sl ([.ref h7, .ref h]) ++ List.replicate (5 - (lg_sl ([.ref h7, .ref h])).length) Slot.unset).toArray = ls at hl ⊢
  replace hl : lv_has ls 5 [(0, .ref h7), (1, .ref h)] := hl
  obtain ⟨locs, hLe⟩ : ∃ locs : List Loc, locs = [] := ⟨_, rfl⟩
  rw [← hLe] at hS ⊢
  have hW0 : ∀ {Q : State → Prop} {g : JFrame}, W p l e ({ frames := 2, cells := 0, slots := 0, locals := 46 }) s m [.ref h7, .ref h].toArray below meth c H locs 0 0 Q g → W p l e ({ frames := 2, cells := 0, slots := 0, locals := 46 }) s m [.ref h7, .ref h].toArray below meth c s.heap locs 0 0 Q g := fun h => by rw [← hHe]; exact h
  refine hW0 ?_
  clear hW0 hHe hLe
  have h0 := hW.1
  have hnc := hW.nc
  refine lv_aload_n hx hb dX5_tellTree_0 rfl (lv_at hl 0 rfl) ?_
  refine z_iconst hx hb dX5_tellTree_1 ?_
  refine lv_aload_n hx hb dX5_tellTree_2 rfl (lv_at hl 1 rfl) ?_
  refine ro_V (As := []) (rest := [.int (iZ 0), .ref h7]) ⟨hx, hb, hml, hown, hts⟩ (c_X0_cells l G Y h ad K hW ) (cwV 0 hts gX5_tellTree_X0_cells rfl rfl rfl (by decide +kernel) ⟨Nat.le_of_ble_eq_true rfl, Nat.le_of_ble_eq_true rfl⟩) hK (hP.sub (ws' := cmW Y h ad K) [2, 3, 4, 5, 6, 7, 8, 9] rfl) 0 rfl rfl rfl hl.1 rfl (Nat.le_of_ble_eq_true rfl) dX5_tellTree_3 ⟨Nat.zero_le _, Nat.zero_le _⟩ ?_
  refine z_iconst hx hb dX5_tellTree_6 ?_
  refine z_isub hx hb dX5_tellTree_7 ?_
  have hP := hP.sub (ws' := [(h7, .inr (5, [.ref xa, .int (iZ ((ln : Nat) : Int)), .int (iZ ((pl : Nat) : Int)), .int (iZ (bZ su)), .int (iZ ((tk : Nat) : Int)), .int (iZ nu)])), (xa, .inl (Y 2, 200, .inl (aI tx)))] ++ [(h, .inr (0, [.int (iZ (K 0 0)), .int (iZ (K 0 1)), .int (iZ (K 0 2)), .int (iZ (K 0 3)), .int (iZ (K 0 4)), .int (iZ (K 0 5)), .int (iZ (K 0 6)), .ref (ad 1), .ref (ad 2), .ref (ad 3), .ref (ad 4), .ref (ad 5), .ref (ad 6), .ref (ad 7)])), (ad 1, .inl (Y 0, 6, .inl (aI (K 1)))), (ad 2, .inl (Y 0, 6, .inl (aI (K 2)))), (ad 3, .inl (Y 0, 6, .inl (aI (K 3)))), (ad 4, .inl (Y 1, 6, .inl (aI (K 4)))), (ad 5, .inl (Y 1, 6, .inl (aI (K 5)))), (ad 6, .inl (Y 0, 7, .inl (aI (K 6)))), (ad 7, .inl (Y 0, 7, .inl (aI (K 7))))]) [0, 1, 2, 3, 4, 5, 6, 7, 8, 9] rfl
  have hD := hD.sub (ws' := [(h7, .inr (5, [.ref xa, .int (iZ ((ln : Nat) : Int)), .int (iZ ((pl : Nat) : Int)), .int (iZ (bZ su)), .int (iZ ((tk : Nat) : Int)), .int (iZ nu)])), (xa, .inl (Y 2, 200, .inl (aI tx)))] ++ [(h, .inr (0, [.int (iZ (K 0 0)), .int (iZ (K 0 1)), .int (iZ (K 0 2)), .int (iZ (K 0 3)), .int (iZ (K 0 4)), .int (iZ (K 0 5)), .int (iZ (K 0 6)), .ref (ad 1), .ref (ad 2), .ref (ad 3), .ref (ad 4), .ref (ad 5), .ref (ad 6), .ref (ad 7)])), (ad 1, .inl (Y 0, 6, .inl (aI (K 1)))), (ad 2, .inl (Y 0, 6, .inl (aI (K 2)))), (ad 3, .inl (Y 0, 6, .inl (aI (K 3)))), (ad 4, .inl (Y 1, 6, .inl (aI (K 4)))), (ad 5, .inl (Y 1, 6, .inl (aI (K 5)))), (ad 6, .inl (Y 0, 7, .inl (aI (K 6)))), (ad 7, .inl (Y 0, 7, .inl (aI (K 7))))]) [0, 1, 2, 3, 4, 5, 6, 7, 8, 9] (by decide) rfl
  refine mu_V (As := [.int (iZ 0), .int (iZ ((K 0 0 * K 0 1) - 1))]) (rest := []) (wc := [(h7, .inr (5, [.ref xa, .int (iZ ((ln : Nat) : Int)), .int (iZ ((pl : Nat) : Int)), .int (iZ (bZ su)), .int (iZ ((tk : Nat) : Int)), .int (iZ nu)])), (xa, .inl (Y 2, 200, .inl (aI tx)))]) (wc' := txW Y h7 xa tx ln (rnE tx ln pl) su (sk tx ln pl) (rnV tx ln pl ((K 0 0 * K 0 1) - 1))) (F := [(h, .inr (0, [.int (iZ (K 0 0)), .int (iZ (K 0 1)), .int (iZ (K 0 2)), .int (iZ (K 0 3)), .int (iZ (K 0 4)), .int (iZ (K 0 5)), .int (iZ (K 0 6)), .ref (ad 1), .ref (ad 2), .ref (ad 3), .ref (ad 4), .ref (ad 5), .ref (ad 6), .ref (ad 7)])), (ad 1, .inl (Y 0, 6, .inl (aI (K 1)))), (ad 2, .inl (Y 0, 6, .inl (aI (K 2)))), (ad 3, .inl (Y 0, 6, .inl (aI (K 3)))), (ad 4, .inl (Y 1, 6, .inl (aI (K 4)))), (ad 5, .inl (Y 1, 6, .inl (aI (K 5)))), (ad 6, .inl (Y 0, 7, .inl (aI (K 6)))), (ad 7, .inl (Y 0, 7, .inl (aI (K 7))))]) ⟨hx, hb, hml, hown, hts⟩ (c_X5_readNumber l G Y h7 xa tx hX ln pl su tk nu (by omega) 0 ((K 0 0 * K 0 1) - 1) (by omega)) (cwV 2 hts gX5_tellTree_X5_readNumber rfl rfl rfl (by decide +kernel) ⟨Nat.le_of_ble_eq_true rfl, Nat.le_of_ble_eq_true rfl⟩) hK hP hD hS 0 rfl rfl (Eq.refl [h7, xa]) rfl hl.1 rfl (Nat.le_of_ble_eq_true rfl) dX5_tellTree_8 ⟨Nat.zero_le _, Nat.zero_le _⟩ (fun H locs hP hD hS => ?_)
  show W _ _ _ _ _ _ _ _ _ _ _ _ _ _ _ (F0 _ _ _ [.int (iZ (bZ (rnO tx ln pl 0 ((K 0 0 * K 0 1) - 1))))])
  replace hP : va_P G vwCl [(h7, .inr (5, [.ref xa, .int (iZ ((ln : Nat) : Int)), .int (iZ ((rnE tx ln pl : Nat) : Int)), .int (iZ (bZ su)), .int (iZ ((sk tx ln pl : Nat) : Int)), .int (iZ (rnV tx ln pl ((K 0 0 * K 0 1) - 1)))])), (xa, .inl (Y 2, 200, .inl (aI tx))), (h, .inr (0, [.int (iZ (K 0 0)), .int (iZ (K 0 1)), .int (iZ (K 0 2)), .int (iZ (K 0 3)), .int (iZ (K 0 4)), .int (iZ (K 0 5)), .int (iZ (K 0 6)), .ref (ad 1), .ref (ad 2), .ref (ad 3), .ref (ad 4), .ref (ad 5), .ref (ad 6), .ref (ad 7)])), (ad 1, .inl (Y 0, 6, .inl (aI (K 1)))), (ad 2, .inl (Y 0, 6, .inl (aI (K 2)))), (ad 3, .inl (Y 0, 6, .inl (aI (K 3)))), (ad 4, .inl (Y 1, 6, .inl (aI (K 4)))), (ad 5, .inl (Y 1, 6, .inl (aI (K 5)))), (ad 6, .inl (Y 0, 7, .inl (aI (K 6)))), (ad 7, .inl (Y 0, 7, .inl (aI (K 7))))] H := hP
  replace hD : va_D _ [(h7, .inr (5, [.ref xa, .int (iZ ((ln : Nat) : Int)), .int (iZ ((rnE tx ln pl : Nat) : Int)), .int (iZ (bZ su)), .int (iZ ((sk tx ln pl : Nat) : Int)), .int (iZ (rnV tx ln pl ((K 0 0 * K 0 1) - 1)))])), (xa, .inl (Y 2, 200, .inl (aI tx))), (h, .inr (0, [.int (iZ (K 0 0)), .int (iZ (K 0 1)), .int (iZ (K 0 2)), .int (iZ (K 0 3)), .int (iZ (K 0 4)), .int (iZ (K 0 5)), .int (iZ (K 0 6)), .ref (ad 1), .ref (ad 2), .ref (ad 3), .ref (ad 4), .ref (ad 5), .ref (ad 6), .ref (ad 7)])), (ad 1, .inl (Y 0, 6, .inl (aI (K 1)))), (ad 2, .inl (Y 0, 6, .inl (aI (K 2)))), (ad 3, .inl (Y 0, 6, .inl (aI (K 3)))), (ad 4, .inl (Y 1, 6, .inl (aI (K 4)))), (ad 5, .inl (Y 1, 6, .inl (aI (K 5)))), (ad 6, .inl (Y 0, 7, .inl (aI (K 6)))), (ad 7, .inl (Y 0, 7, .inl (aI (K 7))))] := hD
  have hb_1 := rnE_in (tx := tx) (ln := ln) (q := pl) (by omega)
  have hb_2 := rnV_in (tx := tx) (ln := ln) (q := pl) (hi := ((K 0 0 * K 0 1) - 1)) (by omega)
  refine z_ifb_eq (tgt := 25) hx hb dX5_tellTree_11 (by decide) (fun c_3 => ?_) (fun c_3 => ?_)
  · skip
    refine z_iconst hx hb dX5_tellTree_25 ?_
    have e9 : tTree tx ln pl su K = (false, rnE tx ln pl, sk tx ln pl, rnV tx ln pl ((K 0 0 * K 0 1) - 1), su, K) := by unfold tTree; simp only [c_3, cond_true, cond_false]
    refine z_top (show 0 = bZ (tTree tx ln pl su K).1 from ?_) ?_
    · rw [e9]; rfl
    have hP9 : va_P G vwCl (txR Y h7 xa tx ln h ad (tTree tx ln pl su K)) H := by rw [e9]; exact hP.sub [0, 1, 2, 3, 4, 5, 6, 7, 8, 9] rfl
    exact W.zret (v := iZ (bZ (tTree tx ln pl su K).1)) hx hb hr (b01_nar (bZ_in _)) (fun t9 ht9 _ => ⟨rfl, by rw [ht9]; exact hP9, hS.F ht9⟩) hS.2.2 dX5_tellTree_26
  · skip
    refine lv_aload_n hx hb dX5_tellTree_14 rfl (lv_at hl 1 rfl) ?_
    refine lv_aload_n hx hb dX5_tellTree_15 rfl (lv_at hl 0 rfl) ?_
    refine va_get (D := G) (ci := 5) (v := .int (iZ (rnV tx ln pl ((K 0 0 * K 0 1) - 1)))) (C := RX5) (T := TX5) (N := 6) hx hb hts hFX5 hown hK.1 hP 0 rfl rfl 5 (by decide) kf68 (fun _ h9 => h9) rfl dX5_tellTree_16 ?_
    refine ro_V (As := [.int (iZ (rnV tx ln pl ((K 0 0 * K 0 1) - 1)))]) (rest := []) ⟨hx, hb, hml, hown, hts⟩ (c_X0_hasTreeAt l G Y h ad K hW (rnV tx ln pl ((K 0 0 * K 0 1) - 1)) (by omega)) (cwV 1 hts gX5_tellTree_X0_hasTreeAt rfl rfl rfl (by decide +kernel) ⟨Nat.le_of_ble_eq_true rfl, Nat.le_of_ble_eq_true rfl⟩) hK (hP.sub (ws' := cmW Y h ad K) [2, 3, 4, 5, 6, 7, 8, 9] rfl) 0 rfl rfl rfl hl.1 rfl (Nat.le_of_ble_eq_true rfl) dX5_tellTree_19 ⟨Nat.zero_le _, Nat.zero_le _⟩ ?_
    refine z_ifb_eq (tgt := 27) hx hb dX5_tellTree_22 (by decide) (fun c_4 => ?_) (fun c_4 => ?_)
    · skip
      refine lv_aload_n hx hb dX5_tellTree_27 rfl (lv_at hl 0 rfl) ?_
      refine va_get (D := G) (ci := 5) (v := .int (iZ (rnV tx ln pl ((K 0 0 * K 0 1) - 1)))) (C := RX5) (T := TX5) (N := 6) hx hb hts hFX5 hown hK.1 hP 0 rfl rfl 5 (by decide) kf68 (fun _ h9 => h9) rfl dX5_tellTree_28 ?_
      refine lv_istore_n (lv' := [(2, .int (iZ (rnV tx ln pl ((K 0 0 * K 0 1) - 1)))), (0, .ref h7), (1, .ref h)]) hx hb dX5_tellTree_31 rfl hl (by decide) rfl (fun ls hl => ?_)
      refine lv_aload_n hx hb dX5_tellTree_32 rfl (lv_at hl 1 rfl) ?_
      refine z_iconst hx hb dX5_tellTree_33 ?_
      refine z_bipush hx hb dX5_tellTree_34 (by decide) ?_
      have hP := hP.sub (ws' := [(h7, .inr (5, [.ref xa, .int (iZ ((ln : Nat) : Int)), .int (iZ ((rnE tx ln pl : Nat) : Int)), .int (iZ (bZ su)), .int (iZ ((sk tx ln pl : Nat) : Int)), .int (iZ (rnV tx ln pl ((K 0 0 * K 0 1) - 1)))])), (xa, .inl (Y 2, 200, .inl (aI tx)))] ++ [(h, .inr (0, [.int (iZ (K 0 0)), .int (iZ (K 0 1)), .int (iZ (K 0 2)), .int (iZ (K 0 3)), .int (iZ (K 0 4)), .int (iZ (K 0 5)), .int (iZ (K 0 6)), .ref (ad 1), .ref (ad 2), .ref (ad 3), .ref (ad 4), .ref (ad 5), .ref (ad 6), .ref (ad 7)])), (ad 1, .inl (Y 0, 6, .inl (aI (K 1)))), (ad 2, .inl (Y 0, 6, .inl (aI (K 2)))), (ad 3, .inl (Y 0, 6, .inl (aI (K 3)))), (ad 4, .inl (Y 1, 6, .inl (aI (K 4)))), (ad 5, .inl (Y 1, 6, .inl (aI (K 5)))), (ad 6, .inl (Y 0, 7, .inl (aI (K 6)))), (ad 7, .inl (Y 0, 7, .inl (aI (K 7))))]) [0, 1, 2, 3, 4, 5, 6, 7, 8, 9] rfl
      have hD := hD.sub (ws' := [(h7, .inr (5, [.ref xa, .int (iZ ((ln : Nat) : Int)), .int (iZ ((rnE tx ln pl : Nat) : Int)), .int (iZ (bZ su)), .int (iZ ((sk tx ln pl : Nat) : Int)), .int (iZ (rnV tx ln pl ((K 0 0 * K 0 1) - 1)))])), (xa, .inl (Y 2, 200, .inl (aI tx)))] ++ [(h, .inr (0, [.int (iZ (K 0 0)), .int (iZ (K 0 1)), .int (iZ (K 0 2)), .int (iZ (K 0 3)), .int (iZ (K 0 4)), .int (iZ (K 0 5)), .int (iZ (K 0 6)), .ref (ad 1), .ref (ad 2), .ref (ad 3), .ref (ad 4), .ref (ad 5), .ref (ad 6), .ref (ad 7)])), (ad 1, .inl (Y 0, 6, .inl (aI (K 1)))), (ad 2, .inl (Y 0, 6, .inl (aI (K 2)))), (ad 3, .inl (Y 0, 6, .inl (aI (K 3)))), (ad 4, .inl (Y 1, 6, .inl (aI (K 4)))), (ad 5, .inl (Y 1, 6, .inl (aI (K 5)))), (ad 6, .inl (Y 0, 7, .inl (aI (K 6)))), (ad 7, .inl (Y 0, 7, .inl (aI (K 7))))]) [0, 1, 2, 3, 4, 5, 6, 7, 8, 9] (by decide) rfl
      refine mu_V (As := [.int (iZ 0), .int (iZ 20)]) (rest := []) (wc := [(h7, .inr (5, [.ref xa, .int (iZ ((ln : Nat) : Int)), .int (iZ ((rnE tx ln pl : Nat) : Int)), .int (iZ (bZ su)), .int (iZ ((sk tx ln pl : Nat) : Int)), .int (iZ (rnV tx ln pl ((K 0 0 * K 0 1) - 1)))])), (xa, .inl (Y 2, 200, .inl (aI tx)))]) (wc' := txW Y h7 xa tx ln (rnE tx ln (rnE tx ln pl)) su (sk tx ln (rnE tx ln pl)) (rnV tx ln (rnE tx ln pl) 20)) (F := [(h, .inr (0, [.int (iZ (K 0 0)), .int (iZ (K 0 1)), .int (iZ (K 0 2)), .int (iZ (K 0 3)), .int (iZ (K 0 4)), .int (iZ (K 0 5)), .int (iZ (K 0 6)), .ref (ad 1), .ref (ad 2), .ref (ad 3), .ref (ad 4), .ref (ad 5), .ref (ad 6), .ref (ad 7)])), (ad 1, .inl (Y 0, 6, .inl (aI (K 1)))), (ad 2, .inl (Y 0, 6, .inl (aI (K 2)))), (ad 3, .inl (Y 0, 6, .inl (aI (K 3)))), (ad 4, .inl (Y 1, 6, .inl (aI (K 4)))), (ad 5, .inl (Y 1, 6, .inl (aI (K 5)))), (ad 6, .inl (Y 0, 7, .inl (aI (K 6)))), (ad 7, .inl (Y 0, 7, .inl (aI (K 7))))]) ⟨hx, hb, hml, hown, hts⟩ (c_X5_readNumber l G Y h7 xa tx hX ln (rnE tx ln pl) su (sk tx ln pl) (rnV tx ln pl ((K 0 0 * K 0 1) - 1)) (by omega) 0 20 (by omega)) (cwV 2 hts gX5_tellTree_X5_readNumber rfl rfl rfl (by decide +kernel) ⟨Nat.le_of_ble_eq_true rfl, Nat.le_of_ble_eq_true rfl⟩) hK hP hD hS 0 rfl rfl (Eq.refl [h7, xa]) rfl hl.1 rfl (Nat.le_of_ble_eq_true rfl) dX5_tellTree_36 ⟨Nat.zero_le _, Nat.zero_le _⟩ (fun H locs hP hD hS => ?_)
      show W _ _ _ _ _ _ _ _ _ _ _ _ _ _ _ (F0 _ _ _ [.int (iZ (bZ (rnO tx ln (rnE tx ln pl) 0 20)))])
      replace hP : va_P G vwCl [(h7, .inr (5, [.ref xa, .int (iZ ((ln : Nat) : Int)), .int (iZ ((rnE tx ln (rnE tx ln pl) : Nat) : Int)), .int (iZ (bZ su)), .int (iZ ((sk tx ln (rnE tx ln pl) : Nat) : Int)), .int (iZ (rnV tx ln (rnE tx ln pl) 20))])), (xa, .inl (Y 2, 200, .inl (aI tx))), (h, .inr (0, [.int (iZ (K 0 0)), .int (iZ (K 0 1)), .int (iZ (K 0 2)), .int (iZ (K 0 3)), .int (iZ (K 0 4)), .int (iZ (K 0 5)), .int (iZ (K 0 6)), .ref (ad 1), .ref (ad 2), .ref (ad 3), .ref (ad 4), .ref (ad 5), .ref (ad 6), .ref (ad 7)])), (ad 1, .inl (Y 0, 6, .inl (aI (K 1)))), (ad 2, .inl (Y 0, 6, .inl (aI (K 2)))), (ad 3, .inl (Y 0, 6, .inl (aI (K 3)))), (ad 4, .inl (Y 1, 6, .inl (aI (K 4)))), (ad 5, .inl (Y 1, 6, .inl (aI (K 5)))), (ad 6, .inl (Y 0, 7, .inl (aI (K 6)))), (ad 7, .inl (Y 0, 7, .inl (aI (K 7))))] H := hP
      replace hD : va_D _ [(h7, .inr (5, [.ref xa, .int (iZ ((ln : Nat) : Int)), .int (iZ ((rnE tx ln (rnE tx ln pl) : Nat) : Int)), .int (iZ (bZ su)), .int (iZ ((sk tx ln (rnE tx ln pl) : Nat) : Int)), .int (iZ (rnV tx ln (rnE tx ln pl) 20))])), (xa, .inl (Y 2, 200, .inl (aI tx))), (h, .inr (0, [.int (iZ (K 0 0)), .int (iZ (K 0 1)), .int (iZ (K 0 2)), .int (iZ (K 0 3)), .int (iZ (K 0 4)), .int (iZ (K 0 5)), .int (iZ (K 0 6)), .ref (ad 1), .ref (ad 2), .ref (ad 3), .ref (ad 4), .ref (ad 5), .ref (ad 6), .ref (ad 7)])), (ad 1, .inl (Y 0, 6, .inl (aI (K 1)))), (ad 2, .inl (Y 0, 6, .inl (aI (K 2)))), (ad 3, .inl (Y 0, 6, .inl (aI (K 3)))), (ad 4, .inl (Y 1, 6, .inl (aI (K 4)))), (ad 5, .inl (Y 1, 6, .inl (aI (K 5)))), (ad 6, .inl (Y 0, 7, .inl (aI (K 6)))), (ad 7, .inl (Y 0, 7, .inl (aI (K 7))))] := hD
      have hb_5 := rnE_in (tx := tx) (ln := ln) (q := rnE tx ln pl) (by omega)
      have hb_6 := rnV_in (tx := tx) (ln := ln) (q := rnE tx ln pl) (hi := 20) (by omega)
      refine z_ifb_ne (tgt := 44) hx hb dX5_tellTree_39 (by decide) (fun c_7 => ?_) (fun c_7 => ?_)
      · skip
        refine lv_aload_n hx hb dX5_tellTree_44 rfl (lv_at hl 1 rfl) ?_
        refine va_get (D := G) (ci := 5) (v := .int (iZ (rnV tx ln (rnE tx ln pl) 20))) (C := RX5) (T := TX5) (N := 6) hx hb hts hFX5 hown hK.1 hP 0 rfl rfl 5 (by decide) kf68 (fun _ h9 => h9) rfl dX5_tellTree_45 ?_
        refine lv_istore_n (lv' := [(3, .int (iZ (rnV tx ln (rnE tx ln pl) 20))), (2, .int (iZ (rnV tx ln pl ((K 0 0 * K 0 1) - 1)))), (0, .ref h7), (1, .ref h)]) hx hb dX5_tellTree_48 rfl hl (by decide) rfl (fun ls hl => ?_)
        refine lv_aload_n hx hb dX5_tellTree_49 rfl (lv_at hl 2 rfl) ?_
        refine z_iconst hx hb dX5_tellTree_50 ?_
        refine z_iconst hx hb dX5_tellTree_51 ?_
        have hP := hP.sub (ws' := [(h7, .inr (5, [.ref xa, .int (iZ ((ln : Nat) : Int)), .int (iZ ((rnE tx ln (rnE tx ln pl) : Nat) : Int)), .int (iZ (bZ su)), .int (iZ ((sk tx ln (rnE tx ln pl) : Nat) : Int)), .int (iZ (rnV tx ln (rnE tx ln pl) 20))])), (xa, .inl (Y 2, 200, .inl (aI tx)))] ++ [(h, .inr (0, [.int (iZ (K 0 0)), .int (iZ (K 0 1)), .int (iZ (K 0 2)), .int (iZ (K 0 3)), .int (iZ (K 0 4)), .int (iZ (K 0 5)), .int (iZ (K 0 6)), .ref (ad 1), .ref (ad 2), .ref (ad 3), .ref (ad 4), .ref (ad 5), .ref (ad 6), .ref (ad 7)])), (ad 1, .inl (Y 0, 6, .inl (aI (K 1)))), (ad 2, .inl (Y 0, 6, .inl (aI (K 2)))), (ad 3, .inl (Y 0, 6, .inl (aI (K 3)))), (ad 4, .inl (Y 1, 6, .inl (aI (K 4)))), (ad 5, .inl (Y 1, 6, .inl (aI (K 5)))), (ad 6, .inl (Y 0, 7, .inl (aI (K 6)))), (ad 7, .inl (Y 0, 7, .inl (aI (K 7))))]) [0, 1, 2, 3, 4, 5, 6, 7, 8, 9] rfl
        have hD := hD.sub (ws' := [(h7, .inr (5, [.ref xa, .int (iZ ((ln : Nat) : Int)), .int (iZ ((rnE tx ln (rnE tx ln pl) : Nat) : Int)), .int (iZ (bZ su)), .int (iZ ((sk tx ln (rnE tx ln pl) : Nat) : Int)), .int (iZ (rnV tx ln (rnE tx ln pl) 20))])), (xa, .inl (Y 2, 200, .inl (aI tx)))] ++ [(h, .inr (0, [.int (iZ (K 0 0)), .int (iZ (K 0 1)), .int (iZ (K 0 2)), .int (iZ (K 0 3)), .int (iZ (K 0 4)), .int (iZ (K 0 5)), .int (iZ (K 0 6)), .ref (ad 1), .ref (ad 2), .ref (ad 3), .ref (ad 4), .ref (ad 5), .ref (ad 6), .ref (ad 7)])), (ad 1, .inl (Y 0, 6, .inl (aI (K 1)))), (ad 2, .inl (Y 0, 6, .inl (aI (K 2)))), (ad 3, .inl (Y 0, 6, .inl (aI (K 3)))), (ad 4, .inl (Y 1, 6, .inl (aI (K 4)))), (ad 5, .inl (Y 1, 6, .inl (aI (K 5)))), (ad 6, .inl (Y 0, 7, .inl (aI (K 6)))), (ad 7, .inl (Y 0, 7, .inl (aI (K 7))))]) [0, 1, 2, 3, 4, 5, 6, 7, 8, 9] (by decide) rfl
        refine mu_V (As := [.int (iZ 0), .int (iZ 1)]) (rest := []) (wc := [(h7, .inr (5, [.ref xa, .int (iZ ((ln : Nat) : Int)), .int (iZ ((rnE tx ln (rnE tx ln pl) : Nat) : Int)), .int (iZ (bZ su)), .int (iZ ((sk tx ln (rnE tx ln pl) : Nat) : Int)), .int (iZ (rnV tx ln (rnE tx ln pl) 20))])), (xa, .inl (Y 2, 200, .inl (aI tx)))]) (wc' := txW Y h7 xa tx ln (rnE tx ln (rnE tx ln (rnE tx ln pl))) su (sk tx ln (rnE tx ln (rnE tx ln pl))) (rnV tx ln (rnE tx ln (rnE tx ln pl)) 1)) (F := [(h, .inr (0, [.int (iZ (K 0 0)), .int (iZ (K 0 1)), .int (iZ (K 0 2)), .int (iZ (K 0 3)), .int (iZ (K 0 4)), .int (iZ (K 0 5)), .int (iZ (K 0 6)), .ref (ad 1), .ref (ad 2), .ref (ad 3), .ref (ad 4), .ref (ad 5), .ref (ad 6), .ref (ad 7)])), (ad 1, .inl (Y 0, 6, .inl (aI (K 1)))), (ad 2, .inl (Y 0, 6, .inl (aI (K 2)))), (ad 3, .inl (Y 0, 6, .inl (aI (K 3)))), (ad 4, .inl (Y 1, 6, .inl (aI (K 4)))), (ad 5, .inl (Y 1, 6, .inl (aI (K 5)))), (ad 6, .inl (Y 0, 7, .inl (aI (K 6)))), (ad 7, .inl (Y 0, 7, .inl (aI (K 7))))]) ⟨hx, hb, hml, hown, hts⟩ (c_X5_readNumber l G Y h7 xa tx hX ln (rnE tx ln (rnE tx ln pl)) su (sk tx ln (rnE tx ln pl)) (rnV tx ln (rnE tx ln pl) 20) (by omega) 0 1 (by omega)) (cwV 2 hts gX5_tellTree_X5_readNumber rfl rfl rfl (by decide +kernel) ⟨Nat.le_of_ble_eq_true rfl, Nat.le_of_ble_eq_true rfl⟩) hK hP hD hS 0 rfl rfl (Eq.refl [h7, xa]) rfl hl.1 rfl (Nat.le_of_ble_eq_true rfl) dX5_tellTree_52 ⟨Nat.zero_le _, Nat.zero_le _⟩ (fun H locs hP hD hS => ?_)
        show W _ _ _ _ _ _ _ _ _ _ _ _ _ _ _ (F0 _ _ _ [.int (iZ (bZ (rnO tx ln (rnE tx ln (rnE tx ln pl)) 0 1)))])
        replace hP : va_P G vwCl [(h7, .inr (5, [.ref xa, .int (iZ ((ln : Nat) : Int)), .int (iZ ((rnE tx ln (rnE tx ln (rnE tx ln pl)) : Nat) : Int)), .int (iZ (bZ su)), .int (iZ ((sk tx ln (rnE tx ln (rnE tx ln pl)) : Nat) : Int)), .int (iZ (rnV tx ln (rnE tx ln (rnE tx ln pl)) 1))])), (xa, .inl (Y 2, 200, .inl (aI tx))), (h, .inr (0, [.int (iZ (K 0 0)), .int (iZ (K 0 1)), .int (iZ (K 0 2)), .int (iZ (K 0 3)), .int (iZ (K 0 4)), .int (iZ (K 0 5)), .int (iZ (K 0 6)), .ref (ad 1), .ref (ad 2), .ref (ad 3), .ref (ad 4), .ref (ad 5), .ref (ad 6), .ref (ad 7)])), (ad 1, .inl (Y 0, 6, .inl (aI (K 1)))), (ad 2, .inl (Y 0, 6, .inl (aI (K 2)))), (ad 3, .inl (Y 0, 6, .inl (aI (K 3)))), (ad 4, .inl (Y 1, 6, .inl (aI (K 4)))), (ad 5, .inl (Y 1, 6, .inl (aI (K 5)))), (ad 6, .inl (Y 0, 7, .inl (aI (K 6)))), (ad 7, .inl (Y 0, 7, .inl (aI (K 7))))] H := hP
        replace hD : va_D _ [(h7, .inr (5, [.ref xa, .int (iZ ((ln : Nat) : Int)), .int (iZ ((rnE tx ln (rnE tx ln (rnE tx ln pl)) : Nat) : Int)), .int (iZ (bZ su)), .int (iZ ((sk tx ln (rnE tx ln (rnE tx ln pl)) : Nat) : Int)), .int (iZ (rnV tx ln (rnE tx ln (rnE tx ln pl)) 1))])), (xa, .inl (Y 2, 200, .inl (aI tx))), (h, .inr (0, [.int (iZ (K 0 0)), .int (iZ (K 0 1)), .int (iZ (K 0 2)), .int (iZ (K 0 3)), .int (iZ (K 0 4)), .int (iZ (K 0 5)), .int (iZ (K 0 6)), .ref (ad 1), .ref (ad 2), .ref (ad 3), .ref (ad 4), .ref (ad 5), .ref (ad 6), .ref (ad 7)])), (ad 1, .inl (Y 0, 6, .inl (aI (K 1)))), (ad 2, .inl (Y 0, 6, .inl (aI (K 2)))), (ad 3, .inl (Y 0, 6, .inl (aI (K 3)))), (ad 4, .inl (Y 1, 6, .inl (aI (K 4)))), (ad 5, .inl (Y 1, 6, .inl (aI (K 5)))), (ad 6, .inl (Y 0, 7, .inl (aI (K 6)))), (ad 7, .inl (Y 0, 7, .inl (aI (K 7))))] := hD
        have hb_8 := rnE_in (tx := tx) (ln := ln) (q := rnE tx ln (rnE tx ln pl)) (by omega)
        have hb_9 := rnV_in (tx := tx) (ln := ln) (q := rnE tx ln (rnE tx ln pl)) (hi := 1) (by omega)
        refine z_ifb_ne (tgt := 60) hx hb dX5_tellTree_55 (by decide) (fun c_10 => ?_) (fun c_10 => ?_)
        · skip
          have hi9 := rnO_in (show rnO tx ln (rnE tx ln (rnE tx ln pl)) 0 1 = true by assumption)
          refine lv_aload_n hx hb dX5_tellTree_60 rfl (lv_at hl 2 rfl) ?_
          refine va_get (D := G) (ci := 5) (v := .int (iZ (rnV tx ln (rnE tx ln (rnE tx ln pl)) 1))) (C := RX5) (T := TX5) (N := 6) hx hb hts hFX5 hown hK.1 hP 0 rfl rfl 5 (by decide) kf68 (fun _ h9 => h9) rfl dX5_tellTree_61 ?_
          refine z_iconst hx hb dX5_tellTree_64 ?_
          refine z_icmp_ne (tgt := 72) hx hb dX5_tellTree_65 (by decide) (by omega) (fun c_11 => ?_) (fun c_11 => ?_)
          · skip
            refine z_iconst hx hb dX5_tellTree_72 ?_
            refine z_top (show 0 = rnV tx ln (rnE tx ln (rnE tx ln pl)) 1 by omega) ?_
            refine lv_istore (lv' := [(4, .int (iZ (rnV tx ln (rnE tx ln (rnE tx ln pl)) 1))), (3, .int (iZ (rnV tx ln (rnE tx ln pl) 20))), (2, .int (iZ (rnV tx ln pl ((K 0 0 * K 0 1) - 1)))), (0, .ref h7), (1, .ref h)]) hx hb dX5_tellTree_73 hl (by decide) rfl (fun ls hl => ?_)
            refine lv_aload_n hx hb dX5_tellTree_75 rfl (lv_at hl 3 rfl) ?_
            refine z_iconst hx hb dX5_tellTree_76 ?_
            refine z_bipush hx hb dX5_tellTree_77 (by decide) ?_
            have hP := hP.sub (ws' := [(h7, .inr (5, [.ref xa, .int (iZ ((ln : Nat) : Int)), .int (iZ ((rnE tx ln (rnE tx ln (rnE tx ln pl)) : Nat) : Int)), .int (iZ (bZ su)), .int (iZ ((sk tx ln (rnE tx ln (rnE tx ln pl)) : Nat) : Int)), .int (iZ (rnV tx ln (rnE tx ln (rnE tx ln pl)) 1))])), (xa, .inl (Y 2, 200, .inl (aI tx)))] ++ [(h, .inr (0, [.int (iZ (K 0 0)), .int (iZ (K 0 1)), .int (iZ (K 0 2)), .int (iZ (K 0 3)), .int (iZ (K 0 4)), .int (iZ (K 0 5)), .int (iZ (K 0 6)), .ref (ad 1), .ref (ad 2), .ref (ad 3), .ref (ad 4), .ref (ad 5), .ref (ad 6), .ref (ad 7)])), (ad 1, .inl (Y 0, 6, .inl (aI (K 1)))), (ad 2, .inl (Y 0, 6, .inl (aI (K 2)))), (ad 3, .inl (Y 0, 6, .inl (aI (K 3)))), (ad 4, .inl (Y 1, 6, .inl (aI (K 4)))), (ad 5, .inl (Y 1, 6, .inl (aI (K 5)))), (ad 6, .inl (Y 0, 7, .inl (aI (K 6)))), (ad 7, .inl (Y 0, 7, .inl (aI (K 7))))]) [0, 1, 2, 3, 4, 5, 6, 7, 8, 9] rfl
            have hD := hD.sub (ws' := [(h7, .inr (5, [.ref xa, .int (iZ ((ln : Nat) : Int)), .int (iZ ((rnE tx ln (rnE tx ln (rnE tx ln pl)) : Nat) : Int)), .int (iZ (bZ su)), .int (iZ ((sk tx ln (rnE tx ln (rnE tx ln pl)) : Nat) : Int)), .int (iZ (rnV tx ln (rnE tx ln (rnE tx ln pl)) 1))])), (xa, .inl (Y 2, 200, .inl (aI tx)))] ++ [(h, .inr (0, [.int (iZ (K 0 0)), .int (iZ (K 0 1)), .int (iZ (K 0 2)), .int (iZ (K 0 3)), .int (iZ (K 0 4)), .int (iZ (K 0 5)), .int (iZ (K 0 6)), .ref (ad 1), .ref (ad 2), .ref (ad 3), .ref (ad 4), .ref (ad 5), .ref (ad 6), .ref (ad 7)])), (ad 1, .inl (Y 0, 6, .inl (aI (K 1)))), (ad 2, .inl (Y 0, 6, .inl (aI (K 2)))), (ad 3, .inl (Y 0, 6, .inl (aI (K 3)))), (ad 4, .inl (Y 1, 6, .inl (aI (K 4)))), (ad 5, .inl (Y 1, 6, .inl (aI (K 5)))), (ad 6, .inl (Y 0, 7, .inl (aI (K 6)))), (ad 7, .inl (Y 0, 7, .inl (aI (K 7))))]) [0, 1, 2, 3, 4, 5, 6, 7, 8, 9] (by decide) rfl
            refine mu_V (As := [.int (iZ 0), .int (iZ 7)]) (rest := []) (wc := [(h7, .inr (5, [.ref xa, .int (iZ ((ln : Nat) : Int)), .int (iZ ((rnE tx ln (rnE tx ln (rnE tx ln pl)) : Nat) : Int)), .int (iZ (bZ su)), .int (iZ ((sk tx ln (rnE tx ln (rnE tx ln pl)) : Nat) : Int)), .int (iZ (rnV tx ln (rnE tx ln (rnE tx ln pl)) 1))])), (xa, .inl (Y 2, 200, .inl (aI tx)))]) (wc' := txW Y h7 xa tx ln (rnE tx ln (rnE tx ln (rnE tx ln (rnE tx ln pl)))) su (sk tx ln (rnE tx ln (rnE tx ln (rnE tx ln pl)))) (rnV tx ln (rnE tx ln (rnE tx ln (rnE tx ln pl))) 7)) (F := [(h, .inr (0, [.int (iZ (K 0 0)), .int (iZ (K 0 1)), .int (iZ (K 0 2)), .int (iZ (K 0 3)), .int (iZ (K 0 4)), .int (iZ (K 0 5)), .int (iZ (K 0 6)), .ref (ad 1), .ref (ad 2), .ref (ad 3), .ref (ad 4), .ref (ad 5), .ref (ad 6), .ref (ad 7)])), (ad 1, .inl (Y 0, 6, .inl (aI (K 1)))), (ad 2, .inl (Y 0, 6, .inl (aI (K 2)))), (ad 3, .inl (Y 0, 6, .inl (aI (K 3)))), (ad 4, .inl (Y 1, 6, .inl (aI (K 4)))), (ad 5, .inl (Y 1, 6, .inl (aI (K 5)))), (ad 6, .inl (Y 0, 7, .inl (aI (K 6)))), (ad 7, .inl (Y 0, 7, .inl (aI (K 7))))]) ⟨hx, hb, hml, hown, hts⟩ (c_X5_readNumber l G Y h7 xa tx hX ln (rnE tx ln (rnE tx ln (rnE tx ln pl))) su (sk tx ln (rnE tx ln (rnE tx ln pl))) (rnV tx ln (rnE tx ln (rnE tx ln pl)) 1) (by omega) 0 7 (by omega)) (cwV 2 hts gX5_tellTree_X5_readNumber rfl rfl rfl (by decide +kernel) ⟨Nat.le_of_ble_eq_true rfl, Nat.le_of_ble_eq_true rfl⟩) hK hP hD hS 0 rfl rfl (Eq.refl [h7, xa]) rfl hl.1 rfl (Nat.le_of_ble_eq_true rfl) dX5_tellTree_79 ⟨Nat.zero_le _, Nat.zero_le _⟩ (fun H locs hP hD hS => ?_)
            show W _ _ _ _ _ _ _ _ _ _ _ _ _ _ _ (F0 _ _ _ [.int (iZ (bZ (rnO tx ln (rnE tx ln (rnE tx ln (rnE tx ln pl))) 0 7)))])
            replace hP : va_P G vwCl [(h7, .inr (5, [.ref xa, .int (iZ ((ln : Nat) : Int)), .int (iZ ((rnE tx ln (rnE tx ln (rnE tx ln (rnE tx ln pl))) : Nat) : Int)), .int (iZ (bZ su)), .int (iZ ((sk tx ln (rnE tx ln (rnE tx ln (rnE tx ln pl))) : Nat) : Int)), .int (iZ (rnV tx ln (rnE tx ln (rnE tx ln (rnE tx ln pl))) 7))])), (xa, .inl (Y 2, 200, .inl (aI tx))), (h, .inr (0, [.int (iZ (K 0 0)), .int (iZ (K 0 1)), .int (iZ (K 0 2)), .int (iZ (K 0 3)), .int (iZ (K 0 4)), .int (iZ (K 0 5)), .int (iZ (K 0 6)), .ref (ad 1), .ref (ad 2), .ref (ad 3), .ref (ad 4), .ref (ad 5), .ref (ad 6), .ref (ad 7)])), (ad 1, .inl (Y 0, 6, .inl (aI (K 1)))), (ad 2, .inl (Y 0, 6, .inl (aI (K 2)))), (ad 3, .inl (Y 0, 6, .inl (aI (K 3)))), (ad 4, .inl (Y 1, 6, .inl (aI (K 4)))), (ad 5, .inl (Y 1, 6, .inl (aI (K 5)))), (ad 6, .inl (Y 0, 7, .inl (aI (K 6)))), (ad 7, .inl (Y 0, 7, .inl (aI (K 7))))] H := hP
            replace hD : va_D _ [(h7, .inr (5, [.ref xa, .int (iZ ((ln : Nat) : Int)), .int (iZ ((rnE tx ln (rnE tx ln (rnE tx ln (rnE tx ln pl))) : Nat) : Int)), .int (iZ (bZ su)), .int (iZ ((sk tx ln (rnE tx ln (rnE tx ln (rnE tx ln pl))) : Nat) : Int)), .int (iZ (rnV tx ln (rnE tx ln (rnE tx ln (rnE tx ln pl))) 7))])), (xa, .inl (Y 2, 200, .inl (aI tx))), (h, .inr (0, [.int (iZ (K 0 0)), .int (iZ (K 0 1)), .int (iZ (K 0 2)), .int (iZ (K 0 3)), .int (iZ (K 0 4)), .int (iZ (K 0 5)), .int (iZ (K 0 6)), .ref (ad 1), .ref (ad 2), .ref (ad 3), .ref (ad 4), .ref (ad 5), .ref (ad 6), .ref (ad 7)])), (ad 1, .inl (Y 0, 6, .inl (aI (K 1)))), (ad 2, .inl (Y 0, 6, .inl (aI (K 2)))), (ad 3, .inl (Y 0, 6, .inl (aI (K 3)))), (ad 4, .inl (Y 1, 6, .inl (aI (K 4)))), (ad 5, .inl (Y 1, 6, .inl (aI (K 5)))), (ad 6, .inl (Y 0, 7, .inl (aI (K 6)))), (ad 7, .inl (Y 0, 7, .inl (aI (K 7))))] := hD
            have hb_12 := rnE_in (tx := tx) (ln := ln) (q := rnE tx ln (rnE tx ln (rnE tx ln pl))) (by omega)
            have hb_13 := rnV_in (tx := tx) (ln := ln) (q := rnE tx ln (rnE tx ln (rnE tx ln pl))) (hi := 7) (by omega)
            refine z_ifb_ne (tgt := 87) hx hb dX5_tellTree_82 (by decide) (fun c_14 => ?_) (fun c_14 => ?_)
            · skip
              refine lv_aload_n hx hb dX5_tellTree_87 rfl (lv_at hl 4 rfl) ?_
              refine lv_iload_n hx hb dX5_tellTree_88 rfl (lv_at hl 2 rfl) ?_
              refine lv_iload_n hx hb dX5_tellTree_89 rfl (lv_at hl 1 rfl) ?_
              refine lv_iload hx hb dX5_tellTree_90 (lv_at hl 0 rfl) ?_
              refine lv_aload_n hx hb dX5_tellTree_92 rfl (lv_at hl 3 rfl) ?_
              refine va_get (D := G) (ci := 5) (v := .int (iZ (rnV tx ln (rnE tx ln (rnE tx ln (rnE tx ln pl))) 7))) (C := RX5) (T := TX5) (N := 6) hx hb hts hFX5 hown hK.1 hP 0 rfl rfl 5 (by decide) kf68 (fun _ h9 => h9) rfl dX5_tellTree_93 ?_
              have hP := hP.sub (ws' := [(h, .inr (0, [.int (iZ (K 0 0)), .int (iZ (K 0 1)), .int (iZ (K 0 2)), .int (iZ (K 0 3)), .int (iZ (K 0 4)), .int (iZ (K 0 5)), .int (iZ (K 0 6)), .ref (ad 1), .ref (ad 2), .ref (ad 3), .ref (ad 4), .ref (ad 5), .ref (ad 6), .ref (ad 7)])), (ad 1, .inl (Y 0, 6, .inl (aI (K 1)))), (ad 2, .inl (Y 0, 6, .inl (aI (K 2)))), (ad 3, .inl (Y 0, 6, .inl (aI (K 3)))), (ad 4, .inl (Y 1, 6, .inl (aI (K 4)))), (ad 5, .inl (Y 1, 6, .inl (aI (K 5)))), (ad 6, .inl (Y 0, 7, .inl (aI (K 6)))), (ad 7, .inl (Y 0, 7, .inl (aI (K 7))))] ++ [(h7, .inr (5, [.ref xa, .int (iZ ((ln : Nat) : Int)), .int (iZ ((rnE tx ln (rnE tx ln (rnE tx ln (rnE tx ln pl))) : Nat) : Int)), .int (iZ (bZ su)), .int (iZ ((sk tx ln (rnE tx ln (rnE tx ln (rnE tx ln pl))) : Nat) : Int)), .int (iZ (rnV tx ln (rnE tx ln (rnE tx ln (rnE tx ln pl))) 7))])), (xa, .inl (Y 2, 200, .inl (aI tx)))]) [2, 3, 4, 5, 6, 7, 8, 9, 0, 1] rfl
              have hD := hD.sub (ws' := [(h, .inr (0, [.int (iZ (K 0 0)), .int (iZ (K 0 1)), .int (iZ (K 0 2)), .int (iZ (K 0 3)), .int (iZ (K 0 4)), .int (iZ (K 0 5)), .int (iZ (K 0 6)), .ref (ad 1), .ref (ad 2), .ref (ad 3), .ref (ad 4), .ref (ad 5), .ref (ad 6), .ref (ad 7)])), (ad 1, .inl (Y 0, 6, .inl (aI (K 1)))), (ad 2, .inl (Y 0, 6, .inl (aI (K 2)))), (ad 3, .inl (Y 0, 6, .inl (aI (K 3)))), (ad 4, .inl (Y 1, 6, .inl (aI (K 4)))), (ad 5, .inl (Y 1, 6, .inl (aI (K 5)))), (ad 6, .inl (Y 0, 7, .inl (aI (K 6)))), (ad 7, .inl (Y 0, 7, .inl (aI (K 7))))] ++ [(h7, .inr (5, [.ref xa, .int (iZ ((ln : Nat) : Int)), .int (iZ ((rnE tx ln (rnE tx ln (rnE tx ln (rnE tx ln pl))) : Nat) : Int)), .int (iZ (bZ su)), .int (iZ ((sk tx ln (rnE tx ln (rnE tx ln (rnE tx ln pl))) : Nat) : Int)), .int (iZ (rnV tx ln (rnE tx ln (rnE tx ln (rnE tx ln pl))) 7))])), (xa, .inl (Y 2, 200, .inl (aI tx)))]) [2, 3, 4, 5, 6, 7, 8, 9, 0, 1] (by decide) rfl
              refine mu_V (As := [.int (iZ (rnV tx ln pl ((K 0 0 * K 0 1) - 1))), .int (iZ (rnV tx ln (rnE tx ln pl) 20)), .int (iZ (rnV tx ln (rnE tx ln (rnE tx ln pl)) 1)), .int (iZ (rnV tx ln (rnE tx ln (rnE tx ln (rnE tx ln pl))) 7))]) (rest := []) (wc := [(h, .inr (0, [.int (iZ (K 0 0)), .int (iZ (K 0 1)), .int (iZ (K 0 2)), .int (iZ (K 0 3)), .int (iZ (K 0 4)), .int (iZ (K 0 5)), .int (iZ (K 0 6)), .ref (ad 1), .ref (ad 2), .ref (ad 3), .ref (ad 4), .ref (ad 5), .ref (ad 6), .ref (ad 7)])), (ad 1, .inl (Y 0, 6, .inl (aI (K 1)))), (ad 2, .inl (Y 0, 6, .inl (aI (K 2)))), (ad 3, .inl (Y 0, 6, .inl (aI (K 3)))), (ad 4, .inl (Y 1, 6, .inl (aI (K 4)))), (ad 5, .inl (Y 1, 6, .inl (aI (K 5)))), (ad 6, .inl (Y 0, 7, .inl (aI (K 6)))), (ad 7, .inl (Y 0, 7, .inl (aI (K 7))))]) (wc' := cmW Y h ad (adT K (rnV tx ln pl ((K 0 0 * K 0 1) - 1)) (rnV tx ln (rnE tx ln pl) 20) (rnV tx ln (rnE tx ln (rnE tx ln pl)) 1) (rnV tx ln (rnE tx ln (rnE tx ln (rnE tx ln pl))) 7))) (F := [(h7, .inr (5, [.ref xa, .int (iZ ((ln : Nat) : Int)), .int (iZ ((rnE tx ln (rnE tx ln (rnE tx ln (rnE tx ln pl))) : Nat) : Int)), .int (iZ (bZ su)), .int (iZ ((sk tx ln (rnE tx ln (rnE tx ln (rnE tx ln pl))) : Nat) : Int)), .int (iZ (rnV tx ln (rnE tx ln (rnE tx ln (rnE tx ln pl))) 7))])), (xa, .inl (Y 2, 200, .inl (aI tx)))]) ⟨hx, hb, hml, hown, hts⟩ (c_X0_addTree l G Y h ad K (rnV tx ln pl ((K 0 0 * K 0 1) - 1)) (rnV tx ln (rnE tx ln pl) 20) (rnV tx ln (rnE tx ln (rnE tx ln pl)) 1) (rnV tx ln (rnE tx ln (rnE tx ln (rnE tx ln pl))) 7) (by omega)) (cwV 4 hts gX5_tellTree_X0_addTree rfl rfl rfl (by decide +kernel) ⟨Nat.le_of_ble_eq_true rfl, Nat.le_of_ble_eq_true rfl⟩) hK hP hD hS 0 rfl rfl (Eq.refl [h, ad 1, ad 2, ad 3, ad 4, ad 5, ad 6, ad 7]) rfl hl.1 rfl (Nat.le_of_ble_eq_true rfl) dX5_tellTree_96 ⟨Nat.zero_le _, Nat.zero_le _⟩ (fun H locs hP hD hS => ?_)
              show W _ _ _ _ _ _ _ _ _ _ _ _ _ _ _ (F0 _ _ _ [])
              replace hP : va_P G vwCl [(h, .inr (0, [.int (iZ ((adT K (rnV tx ln pl ((K 0 0 * K 0 1) - 1)) (rnV tx ln (rnE tx ln pl) 20) (rnV tx ln (rnE tx ln (rnE tx ln pl)) 1) (rnV tx ln (rnE tx ln (rnE tx ln (rnE tx ln pl))) 7)) 0 0)), .int (iZ ((adT K (rnV tx ln pl ((K 0 0 * K 0 1) - 1)) (rnV tx ln (rnE tx ln pl) 20) (rnV tx ln (rnE tx ln (rnE tx ln pl)) 1) (rnV tx ln (rnE tx ln (rnE tx ln (rnE tx ln pl))) 7)) 0 1)), .int (iZ ((adT K (rnV tx ln pl ((K 0 0 * K 0 1) - 1)) (rnV tx ln (rnE tx ln pl) 20) (rnV tx ln (rnE tx ln (rnE tx ln pl)) 1) (rnV tx ln (rnE tx ln (rnE tx ln (rnE tx ln pl))) 7)) 0 2)), .int (iZ ((adT K (rnV tx ln pl ((K 0 0 * K 0 1) - 1)) (rnV tx ln (rnE tx ln pl) 20) (rnV tx ln (rnE tx ln (rnE tx ln pl)) 1) (rnV tx ln (rnE tx ln (rnE tx ln (rnE tx ln pl))) 7)) 0 3)), .int (iZ ((adT K (rnV tx ln pl ((K 0 0 * K 0 1) - 1)) (rnV tx ln (rnE tx ln pl) 20) (rnV tx ln (rnE tx ln (rnE tx ln pl)) 1) (rnV tx ln (rnE tx ln (rnE tx ln (rnE tx ln pl))) 7)) 0 4)), .int (iZ ((adT K (rnV tx ln pl ((K 0 0 * K 0 1) - 1)) (rnV tx ln (rnE tx ln pl) 20) (rnV tx ln (rnE tx ln (rnE tx ln pl)) 1) (rnV tx ln (rnE tx ln (rnE tx ln (rnE tx ln pl))) 7)) 0 5)), .int (iZ ((adT K (rnV tx ln pl ((K 0 0 * K 0 1) - 1)) (rnV tx ln (rnE tx ln pl) 20) (rnV tx ln (rnE tx ln (rnE tx ln pl)) 1) (rnV tx ln (rnE tx ln (rnE tx ln (rnE tx ln pl))) 7)) 0 6)), .ref (ad 1), .ref (ad 2), .ref (ad 3), .ref (ad 4), .ref (ad 5), .ref (ad 6), .ref (ad 7)])), (ad 1, .inl (Y 0, 6, .inl (aI ((adT K (rnV tx ln pl ((K 0 0 * K 0 1) - 1)) (rnV tx ln (rnE tx ln pl) 20) (rnV tx ln (rnE tx ln (rnE tx ln pl)) 1) (rnV tx ln (rnE tx ln (rnE tx ln (rnE tx ln pl))) 7)) 1)))), (ad 2, .inl (Y 0, 6, .inl (aI ((adT K (rnV tx ln pl ((K 0 0 * K 0 1) - 1)) (rnV tx ln (rnE tx ln pl) 20) (rnV tx ln (rnE tx ln (rnE tx ln pl)) 1) (rnV tx ln (rnE tx ln (rnE tx ln (rnE tx ln pl))) 7)) 2)))), (ad 3, .inl (Y 0, 6, .inl (aI ((adT K (rnV tx ln pl ((K 0 0 * K 0 1) - 1)) (rnV tx ln (rnE tx ln pl) 20) (rnV tx ln (rnE tx ln (rnE tx ln pl)) 1) (rnV tx ln (rnE tx ln (rnE tx ln (rnE tx ln pl))) 7)) 3)))), (ad 4, .inl (Y 1, 6, .inl (aI ((adT K (rnV tx ln pl ((K 0 0 * K 0 1) - 1)) (rnV tx ln (rnE tx ln pl) 20) (rnV tx ln (rnE tx ln (rnE tx ln pl)) 1) (rnV tx ln (rnE tx ln (rnE tx ln (rnE tx ln pl))) 7)) 4)))), (ad 5, .inl (Y 1, 6, .inl (aI ((adT K (rnV tx ln pl ((K 0 0 * K 0 1) - 1)) (rnV tx ln (rnE tx ln pl) 20) (rnV tx ln (rnE tx ln (rnE tx ln pl)) 1) (rnV tx ln (rnE tx ln (rnE tx ln (rnE tx ln pl))) 7)) 5)))), (ad 6, .inl (Y 0, 7, .inl (aI ((adT K (rnV tx ln pl ((K 0 0 * K 0 1) - 1)) (rnV tx ln (rnE tx ln pl) 20) (rnV tx ln (rnE tx ln (rnE tx ln pl)) 1) (rnV tx ln (rnE tx ln (rnE tx ln (rnE tx ln pl))) 7)) 6)))), (ad 7, .inl (Y 0, 7, .inl (aI ((adT K (rnV tx ln pl ((K 0 0 * K 0 1) - 1)) (rnV tx ln (rnE tx ln pl) 20) (rnV tx ln (rnE tx ln (rnE tx ln pl)) 1) (rnV tx ln (rnE tx ln (rnE tx ln (rnE tx ln pl))) 7)) 7)))), (h7, .inr (5, [.ref xa, .int (iZ ((ln : Nat) : Int)), .int (iZ ((rnE tx ln (rnE tx ln (rnE tx ln (rnE tx ln pl))) : Nat) : Int)), .int (iZ (bZ su)), .int (iZ ((sk tx ln (rnE tx ln (rnE tx ln (rnE tx ln pl))) : Nat) : Int)), .int (iZ (rnV tx ln (rnE tx ln (rnE tx ln (rnE tx ln pl))) 7))])), (xa, .inl (Y 2, 200, .inl (aI tx)))] H := hP
              replace hD : va_D _ [(h, .inr (0, [.int (iZ ((adT K (rnV tx ln pl ((K 0 0 * K 0 1) - 1)) (rnV tx ln (rnE tx ln pl) 20) (rnV tx ln (rnE tx ln (rnE tx ln pl)) 1) (rnV tx ln (rnE tx ln (rnE tx ln (rnE tx ln pl))) 7)) 0 0)), .int (iZ ((adT K (rnV tx ln pl ((K 0 0 * K 0 1) - 1)) (rnV tx ln (rnE tx ln pl) 20) (rnV tx ln (rnE tx ln (rnE tx ln pl)) 1) (rnV tx ln (rnE tx ln (rnE tx ln (rnE tx ln pl))) 7)) 0 1)), .int (iZ ((adT K (rnV tx ln pl ((K 0 0 * K 0 1) - 1)) (rnV tx ln (rnE tx ln pl) 20) (rnV tx ln (rnE tx ln (rnE tx ln pl)) 1) (rnV tx ln (rnE tx ln (rnE tx ln (rnE tx ln pl))) 7)) 0 2)), .int (iZ ((adT K (rnV tx ln pl ((K 0 0 * K 0 1) - 1)) (rnV tx ln (rnE tx ln pl) 20) (rnV tx ln (rnE tx ln (rnE tx ln pl)) 1) (rnV tx ln (rnE tx ln (rnE tx ln (rnE tx ln pl))) 7)) 0 3)), .int (iZ ((adT K (rnV tx ln pl ((K 0 0 * K 0 1) - 1)) (rnV tx ln (rnE tx ln pl) 20) (rnV tx ln (rnE tx ln (rnE tx ln pl)) 1) (rnV tx ln (rnE tx ln (rnE tx ln (rnE tx ln pl))) 7)) 0 4)), .int (iZ ((adT K (rnV tx ln pl ((K 0 0 * K 0 1) - 1)) (rnV tx ln (rnE tx ln pl) 20) (rnV tx ln (rnE tx ln (rnE tx ln pl)) 1) (rnV tx ln (rnE tx ln (rnE tx ln (rnE tx ln pl))) 7)) 0 5)), .int (iZ ((adT K (rnV tx ln pl ((K 0 0 * K 0 1) - 1)) (rnV tx ln (rnE tx ln pl) 20) (rnV tx ln (rnE tx ln (rnE tx ln pl)) 1) (rnV tx ln (rnE tx ln (rnE tx ln (rnE tx ln pl))) 7)) 0 6)), .ref (ad 1), .ref (ad 2), .ref (ad 3), .ref (ad 4), .ref (ad 5), .ref (ad 6), .ref (ad 7)])), (ad 1, .inl (Y 0, 6, .inl (aI ((adT K (rnV tx ln pl ((K 0 0 * K 0 1) - 1)) (rnV tx ln (rnE tx ln pl) 20) (rnV tx ln (rnE tx ln (rnE tx ln pl)) 1) (rnV tx ln (rnE tx ln (rnE tx ln (rnE tx ln pl))) 7)) 1)))), (ad 2, .inl (Y 0, 6, .inl (aI ((adT K (rnV tx ln pl ((K 0 0 * K 0 1) - 1)) (rnV tx ln (rnE tx ln pl) 20) (rnV tx ln (rnE tx ln (rnE tx ln pl)) 1) (rnV tx ln (rnE tx ln (rnE tx ln (rnE tx ln pl))) 7)) 2)))), (ad 3, .inl (Y 0, 6, .inl (aI ((adT K (rnV tx ln pl ((K 0 0 * K 0 1) - 1)) (rnV tx ln (rnE tx ln pl) 20) (rnV tx ln (rnE tx ln (rnE tx ln pl)) 1) (rnV tx ln (rnE tx ln (rnE tx ln (rnE tx ln pl))) 7)) 3)))), (ad 4, .inl (Y 1, 6, .inl (aI ((adT K (rnV tx ln pl ((K 0 0 * K 0 1) - 1)) (rnV tx ln (rnE tx ln pl) 20) (rnV tx ln (rnE tx ln (rnE tx ln pl)) 1) (rnV tx ln (rnE tx ln (rnE tx ln (rnE tx ln pl))) 7)) 4)))), (ad 5, .inl (Y 1, 6, .inl (aI ((adT K (rnV tx ln pl ((K 0 0 * K 0 1) - 1)) (rnV tx ln (rnE tx ln pl) 20) (rnV tx ln (rnE tx ln (rnE tx ln pl)) 1) (rnV tx ln (rnE tx ln (rnE tx ln (rnE tx ln pl))) 7)) 5)))), (ad 6, .inl (Y 0, 7, .inl (aI ((adT K (rnV tx ln pl ((K 0 0 * K 0 1) - 1)) (rnV tx ln (rnE tx ln pl) 20) (rnV tx ln (rnE tx ln (rnE tx ln pl)) 1) (rnV tx ln (rnE tx ln (rnE tx ln (rnE tx ln pl))) 7)) 6)))), (ad 7, .inl (Y 0, 7, .inl (aI ((adT K (rnV tx ln pl ((K 0 0 * K 0 1) - 1)) (rnV tx ln (rnE tx ln pl) 20) (rnV tx ln (rnE tx ln (rnE tx ln pl)) 1) (rnV tx ln (rnE tx ln (rnE tx ln (rnE tx ln pl))) 7)) 7)))), (h7, .inr (5, [.ref xa, .int (iZ ((ln : Nat) : Int)), .int (iZ ((rnE tx ln (rnE tx ln (rnE tx ln (rnE tx ln pl))) : Nat) : Int)), .int (iZ (bZ su)), .int (iZ ((sk tx ln (rnE tx ln (rnE tx ln (rnE tx ln pl))) : Nat) : Int)), .int (iZ (rnV tx ln (rnE tx ln (rnE tx ln (rnE tx ln pl))) 7))])), (xa, .inl (Y 2, 200, .inl (aI tx)))] := hD
              refine z_iconst hx hb dX5_tellTree_99 ?_
              have e9 : tTree tx ln pl su K = (true, rnE tx ln (rnE tx ln (rnE tx ln (rnE tx ln pl))), sk tx ln (rnE tx ln (rnE tx ln (rnE tx ln pl))), rnV tx ln (rnE tx ln (rnE tx ln (rnE tx ln pl))) 7, su, adT K (rnV tx ln pl (K 0 0 * K 0 1 - 1)) (rnV tx ln (rnE tx ln pl) 20) (rnV tx ln (rnE tx ln (rnE tx ln pl)) 1) (rnV tx ln (rnE tx ln (rnE tx ln (rnE tx ln pl))) 7)) := by unfold tTree; simp only [c_3, c_4, c_7, c_10, c_14, cond_true, cond_false]
              refine z_top (show 1 = bZ (tTree tx ln pl su K).1 from ?_) ?_
              · rw [e9]; rfl
              have hP9 : va_P G vwCl (txR Y h7 xa tx ln h ad (tTree tx ln pl su K)) H := by rw [e9]; exact hP.sub [8, 9, 0, 1, 2, 3, 4, 5, 6, 7] rfl
              exact W.zret (v := iZ (bZ (tTree tx ln pl su K).1)) hx hb hr (b01_nar (bZ_in _)) (fun t9 ht9 _ => ⟨rfl, by rw [ht9]; exact hP9, hS.F ht9⟩) hS.2.2 dX5_tellTree_100
            · skip
              refine z_iconst hx hb dX5_tellTree_85 ?_
              have e9 : tTree tx ln pl su K = (false, rnE tx ln (rnE tx ln (rnE tx ln (rnE tx ln pl))), sk tx ln (rnE tx ln (rnE tx ln (rnE tx ln pl))), rnV tx ln (rnE tx ln (rnE tx ln (rnE tx ln pl))) 7, su, K) := by unfold tTree; simp only [c_3, c_4, c_7, c_10, c_14, cond_true, cond_false]
              refine z_top (show 0 = bZ (tTree tx ln pl su K).1 from ?_) ?_
              · rw [e9]; rfl
              have hP9 : va_P G vwCl (txR Y h7 xa tx ln h ad (tTree tx ln pl su K)) H := by rw [e9]; exact hP.sub [0, 1, 2, 3, 4, 5, 6, 7, 8, 9] rfl
              exact W.zret (v := iZ (bZ (tTree tx ln pl su K).1)) hx hb hr (b01_nar (bZ_in _)) (fun t9 ht9 _ => ⟨rfl, by rw [ht9]; exact hP9, hS.F ht9⟩) hS.2.2 dX5_tellTree_86
          · skip
            refine z_iconst hx hb dX5_tellTree_68 ?_
            refine lv_goto (tgt := 73) hx hb dX5_tellTree_69 (by decide) ?_
            refine z_top (show 1 = rnV tx ln (rnE tx ln (rnE tx ln pl)) 1 by omega) ?_
            refine lv_istore (lv' := [(4, .int (iZ (rnV tx ln (rnE tx ln (rnE tx ln pl)) 1))), (3, .int (iZ (rnV tx ln (rnE tx ln pl) 20))), (2, .int (iZ (rnV tx ln pl ((K 0 0 * K 0 1) - 1)))), (0, .ref h7), (1, .ref h)]) hx hb dX5_tellTree_73 hl (by decide) rfl (fun ls hl => ?_)
            refine lv_aload_n hx hb dX5_tellTree_75 rfl (lv_at hl 3 rfl) ?_
            refine z_iconst hx hb dX5_tellTree_76 ?_
            refine z_bipush hx hb dX5_tellTree_77 (by decide) ?_
            have hP := hP.sub (ws' := [(h7, .inr (5, [.ref xa, .int (iZ ((ln : Nat) : Int)), .int (iZ ((rnE tx ln (rnE tx ln (rnE tx ln pl)) : Nat) : Int)), .int (iZ (bZ su)), .int (iZ ((sk tx ln (rnE tx ln (rnE tx ln pl)) : Nat) : Int)), .int (iZ (rnV tx ln (rnE tx ln (rnE tx ln pl)) 1))])), (xa, .inl (Y 2, 200, .inl (aI tx)))] ++ [(h, .inr (0, [.int (iZ (K 0 0)), .int (iZ (K 0 1)), .int (iZ (K 0 2)), .int (iZ (K 0 3)), .int (iZ (K 0 4)), .int (iZ (K 0 5)), .int (iZ (K 0 6)), .ref (ad 1), .ref (ad 2), .ref (ad 3), .ref (ad 4), .ref (ad 5), .ref (ad 6), .ref (ad 7)])), (ad 1, .inl (Y 0, 6, .inl (aI (K 1)))), (ad 2, .inl (Y 0, 6, .inl (aI (K 2)))), (ad 3, .inl (Y 0, 6, .inl (aI (K 3)))), (ad 4, .inl (Y 1, 6, .inl (aI (K 4)))), (ad 5, .inl (Y 1, 6, .inl (aI (K 5)))), (ad 6, .inl (Y 0, 7, .inl (aI (K 6)))), (ad 7, .inl (Y 0, 7, .inl (aI (K 7))))]) [0, 1, 2, 3, 4, 5, 6, 7, 8, 9] rfl
            have hD := hD.sub (ws' := [(h7, .inr (5, [.ref xa, .int (iZ ((ln : Nat) : Int)), .int (iZ ((rnE tx ln (rnE tx ln (rnE tx ln pl)) : Nat) : Int)), .int (iZ (bZ su)), .int (iZ ((sk tx ln (rnE tx ln (rnE tx ln pl)) : Nat) : Int)), .int (iZ (rnV tx ln (rnE tx ln (rnE tx ln pl)) 1))])), (xa, .inl (Y 2, 200, .inl (aI tx)))] ++ [(h, .inr (0, [.int (iZ (K 0 0)), .int (iZ (K 0 1)), .int (iZ (K 0 2)), .int (iZ (K 0 3)), .int (iZ (K 0 4)), .int (iZ (K 0 5)), .int (iZ (K 0 6)), .ref (ad 1), .ref (ad 2), .ref (ad 3), .ref (ad 4), .ref (ad 5), .ref (ad 6), .ref (ad 7)])), (ad 1, .inl (Y 0, 6, .inl (aI (K 1)))), (ad 2, .inl (Y 0, 6, .inl (aI (K 2)))), (ad 3, .inl (Y 0, 6, .inl (aI (K 3)))), (ad 4, .inl (Y 1, 6, .inl (aI (K 4)))), (ad 5, .inl (Y 1, 6, .inl (aI (K 5)))), (ad 6, .inl (Y 0, 7, .inl (aI (K 6)))), (ad 7, .inl (Y 0, 7, .inl (aI (K 7))))]) [0, 1, 2, 3, 4, 5, 6, 7, 8, 9] (by decide) rfl
            refine mu_V (As := [.int (iZ 0), .int (iZ 7)]) (rest := []) (wc := [(h7, .inr (5, [.ref xa, .int (iZ ((ln : Nat) : Int)), .int (iZ ((rnE tx ln (rnE tx ln (rnE tx ln pl)) : Nat) : Int)), .int (iZ (bZ su)), .int (iZ ((sk tx ln (rnE tx ln (rnE tx ln pl)) : Nat) : Int)), .int (iZ (rnV tx ln (rnE tx ln (rnE tx ln pl)) 1))])), (xa, .inl (Y 2, 200, .inl (aI tx)))]) (wc' := txW Y h7 xa tx ln (rnE tx ln (rnE tx ln (rnE tx ln (rnE tx ln pl)))) su (sk tx ln (rnE tx ln (rnE tx ln (rnE tx ln pl)))) (rnV tx ln (rnE tx ln (rnE tx ln (rnE tx ln pl))) 7)) (F := [(h, .inr (0, [.int (iZ (K 0 0)), .int (iZ (K 0 1)), .int (iZ (K 0 2)), .int (iZ (K 0 3)), .int (iZ (K 0 4)), .int (iZ (K 0 5)), .int (iZ (K 0 6)), .ref (ad 1), .ref (ad 2), .ref (ad 3), .ref (ad 4), .ref (ad 5), .ref (ad 6), .ref (ad 7)])), (ad 1, .inl (Y 0, 6, .inl (aI (K 1)))), (ad 2, .inl (Y 0, 6, .inl (aI (K 2)))), (ad 3, .inl (Y 0, 6, .inl (aI (K 3)))), (ad 4, .inl (Y 1, 6, .inl (aI (K 4)))), (ad 5, .inl (Y 1, 6, .inl (aI (K 5)))), (ad 6, .inl (Y 0, 7, .inl (aI (K 6)))), (ad 7, .inl (Y 0, 7, .inl (aI (K 7))))]) ⟨hx, hb, hml, hown, hts⟩ (c_X5_readNumber l G Y h7 xa tx hX ln (rnE tx ln (rnE tx ln (rnE tx ln pl))) su (sk tx ln (rnE tx ln (rnE tx ln pl))) (rnV tx ln (rnE tx ln (rnE tx ln pl)) 1) (by omega) 0 7 (by omega)) (cwV 2 hts gX5_tellTree_X5_readNumber rfl rfl rfl (by decide +kernel) ⟨Nat.le_of_ble_eq_true rfl, Nat.le_of_ble_eq_true rfl⟩) hK hP hD hS 0 rfl rfl (Eq.refl [h7, xa]) rfl hl.1 rfl (Nat.le_of_ble_eq_true rfl) dX5_tellTree_79 ⟨Nat.zero_le _, Nat.zero_le _⟩ (fun H locs hP hD hS => ?_)
            show W _ _ _ _ _ _ _ _ _ _ _ _ _ _ _ (F0 _ _ _ [.int (iZ (bZ (rnO tx ln (rnE tx ln (rnE tx ln (rnE tx ln pl))) 0 7)))])
            replace hP : va_P G vwCl [(h7, .inr (5, [.ref xa, .int (iZ ((ln : Nat) : Int)), .int (iZ ((rnE tx ln (rnE tx ln (rnE tx ln (rnE tx ln pl))) : Nat) : Int)), .int (iZ (bZ su)), .int (iZ ((sk tx ln (rnE tx ln (rnE tx ln (rnE tx ln pl))) : Nat) : Int)), .int (iZ (rnV tx ln (rnE tx ln (rnE tx ln (rnE tx ln pl))) 7))])), (xa, .inl (Y 2, 200, .inl (aI tx))), (h, .inr (0, [.int (iZ (K 0 0)), .int (iZ (K 0 1)), .int (iZ (K 0 2)), .int (iZ (K 0 3)), .int (iZ (K 0 4)), .int (iZ (K 0 5)), .int (iZ (K 0 6)), .ref (ad 1), .ref (ad 2), .ref (ad 3), .ref (ad 4), .ref (ad 5), .ref (ad 6), .ref (ad 7)])), (ad 1, .inl (Y 0, 6, .inl (aI (K 1)))), (ad 2, .inl (Y 0, 6, .inl (aI (K 2)))), (ad 3, .inl (Y 0, 6, .inl (aI (K 3)))), (ad 4, .inl (Y 1, 6, .inl (aI (K 4)))), (ad 5, .inl (Y 1, 6, .inl (aI (K 5)))), (ad 6, .inl (Y 0, 7, .inl (aI (K 6)))), (ad 7, .inl (Y 0, 7, .inl (aI (K 7))))] H := hP
            replace hD : va_D _ [(h7, .inr (5, [.ref xa, .int (iZ ((ln : Nat) : Int)), .int (iZ ((rnE tx ln (rnE tx ln (rnE tx ln (rnE tx ln pl))) : Nat) : Int)), .int (iZ (bZ su)), .int (iZ ((sk tx ln (rnE tx ln (rnE tx ln (rnE tx ln pl))) : Nat) : Int)), .int (iZ (rnV tx ln (rnE tx ln (rnE tx ln (rnE tx ln pl))) 7))])), (xa, .inl (Y 2, 200, .inl (aI tx))), (h, .inr (0, [.int (iZ (K 0 0)), .int (iZ (K 0 1)), .int (iZ (K 0 2)), .int (iZ (K 0 3)), .int (iZ (K 0 4)), .int (iZ (K 0 5)), .int (iZ (K 0 6)), .ref (ad 1), .ref (ad 2), .ref (ad 3), .ref (ad 4), .ref (ad 5), .ref (ad 6), .ref (ad 7)])), (ad 1, .inl (Y 0, 6, .inl (aI (K 1)))), (ad 2, .inl (Y 0, 6, .inl (aI (K 2)))), (ad 3, .inl (Y 0, 6, .inl (aI (K 3)))), (ad 4, .inl (Y 1, 6, .inl (aI (K 4)))), (ad 5, .inl (Y 1, 6, .inl (aI (K 5)))), (ad 6, .inl (Y 0, 7, .inl (aI (K 6)))), (ad 7, .inl (Y 0, 7, .inl (aI (K 7))))] := hD
            have hb_15 := rnE_in (tx := tx) (ln := ln) (q := rnE tx ln (rnE tx ln (rnE tx ln pl))) (by omega)
            have hb_16 := rnV_in (tx := tx) (ln := ln) (q := rnE tx ln (rnE tx ln (rnE tx ln pl))) (hi := 7) (by omega)
            refine z_ifb_ne (tgt := 87) hx hb dX5_tellTree_82 (by decide) (fun c_17 => ?_) (fun c_17 => ?_)
            · skip
              refine lv_aload_n hx hb dX5_tellTree_87 rfl (lv_at hl 4 rfl) ?_
              refine lv_iload_n hx hb dX5_tellTree_88 rfl (lv_at hl 2 rfl) ?_
              refine lv_iload_n hx hb dX5_tellTree_89 rfl (lv_at hl 1 rfl) ?_
              refine lv_iload hx hb dX5_tellTree_90 (lv_at hl 0 rfl) ?_
              refine lv_aload_n hx hb dX5_tellTree_92 rfl (lv_at hl 3 rfl) ?_
              refine va_get (D := G) (ci := 5) (v := .int (iZ (rnV tx ln (rnE tx ln (rnE tx ln (rnE tx ln pl))) 7))) (C := RX5) (T := TX5) (N := 6) hx hb hts hFX5 hown hK.1 hP 0 rfl rfl 5 (by decide) kf68 (fun _ h9 => h9) rfl dX5_tellTree_93 ?_
              have hP := hP.sub (ws' := [(h, .inr (0, [.int (iZ (K 0 0)), .int (iZ (K 0 1)), .int (iZ (K 0 2)), .int (iZ (K 0 3)), .int (iZ (K 0 4)), .int (iZ (K 0 5)), .int (iZ (K 0 6)), .ref (ad 1), .ref (ad 2), .ref (ad 3), .ref (ad 4), .ref (ad 5), .ref (ad 6), .ref (ad 7)])), (ad 1, .inl (Y 0, 6, .inl (aI (K 1)))), (ad 2, .inl (Y 0, 6, .inl (aI (K 2)))), (ad 3, .inl (Y 0, 6, .inl (aI (K 3)))), (ad 4, .inl (Y 1, 6, .inl (aI (K 4)))), (ad 5, .inl (Y 1, 6, .inl (aI (K 5)))), (ad 6, .inl (Y 0, 7, .inl (aI (K 6)))), (ad 7, .inl (Y 0, 7, .inl (aI (K 7))))] ++ [(h7, .inr (5, [.ref xa, .int (iZ ((ln : Nat) : Int)), .int (iZ ((rnE tx ln (rnE tx ln (rnE tx ln (rnE tx ln pl))) : Nat) : Int)), .int (iZ (bZ su)), .int (iZ ((sk tx ln (rnE tx ln (rnE tx ln (rnE tx ln pl))) : Nat) : Int)), .int (iZ (rnV tx ln (rnE tx ln (rnE tx ln (rnE tx ln pl))) 7))])), (xa, .inl (Y 2, 200, .inl (aI tx)))]) [2, 3, 4, 5, 6, 7, 8, 9, 0, 1] rfl
              have hD := hD.sub (ws' := [(h, .inr (0, [.int (iZ (K 0 0)), .int (iZ (K 0 1)), .int (iZ (K 0 2)), .int (iZ (K 0 3)), .int (iZ (K 0 4)), .int (iZ (K 0 5)), .int (iZ (K 0 6)), .ref (ad 1), .ref (ad 2), .ref (ad 3), .ref (ad 4), .ref (ad 5), .ref (ad 6), .ref (ad 7)])), (ad 1, .inl (Y 0, 6, .inl (aI (K 1)))), (ad 2, .inl (Y 0, 6, .inl (aI (K 2)))), (ad 3, .inl (Y 0, 6, .inl (aI (K 3)))), (ad 4, .inl (Y 1, 6, .inl (aI (K 4)))), (ad 5, .inl (Y 1, 6, .inl (aI (K 5)))), (ad 6, .inl (Y 0, 7, .inl (aI (K 6)))), (ad 7, .inl (Y 0, 7, .inl (aI (K 7))))] ++ [(h7, .inr (5, [.ref xa, .int (iZ ((ln : Nat) : Int)), .int (iZ ((rnE tx ln (rnE tx ln (rnE tx ln (rnE tx ln pl))) : Nat) : Int)), .int (iZ (bZ su)), .int (iZ ((sk tx ln (rnE tx ln (rnE tx ln (rnE tx ln pl))) : Nat) : Int)), .int (iZ (rnV tx ln (rnE tx ln (rnE tx ln (rnE tx ln pl))) 7))])), (xa, .inl (Y 2, 200, .inl (aI tx)))]) [2, 3, 4, 5, 6, 7, 8, 9, 0, 1] (by decide) rfl
              refine mu_V (As := [.int (iZ (rnV tx ln pl ((K 0 0 * K 0 1) - 1))), .int (iZ (rnV tx ln (rnE tx ln pl) 20)), .int (iZ (rnV tx ln (rnE tx ln (rnE tx ln pl)) 1)), .int (iZ (rnV tx ln (rnE tx ln (rnE tx ln (rnE tx ln pl))) 7))]) (rest := []) (wc := [(h, .inr (0, [.int (iZ (K 0 0)), .int (iZ (K 0 1)), .int (iZ (K 0 2)), .int (iZ (K 0 3)), .int (iZ (K 0 4)), .int (iZ (K 0 5)), .int (iZ (K 0 6)), .ref (ad 1), .ref (ad 2), .ref (ad 3), .ref (ad 4), .ref (ad 5), .ref (ad 6), .ref (ad 7)])), (ad 1, .inl (Y 0, 6, .inl (aI (K 1)))), (ad 2, .inl (Y 0, 6, .inl (aI (K 2)))), (ad 3, .inl (Y 0, 6, .inl (aI (K 3)))), (ad 4, .inl (Y 1, 6, .inl (aI (K 4)))), (ad 5, .inl (Y 1, 6, .inl (aI (K 5)))), (ad 6, .inl (Y 0, 7, .inl (aI (K 6)))), (ad 7, .inl (Y 0, 7, .inl (aI (K 7))))]) (wc' := cmW Y h ad (adT K (rnV tx ln pl ((K 0 0 * K 0 1) - 1)) (rnV tx ln (rnE tx ln pl) 20) (rnV tx ln (rnE tx ln (rnE tx ln pl)) 1) (rnV tx ln (rnE tx ln (rnE tx ln (rnE tx ln pl))) 7))) (F := [(h7, .inr (5, [.ref xa, .int (iZ ((ln : Nat) : Int)), .int (iZ ((rnE tx ln (rnE tx ln (rnE tx ln (rnE tx ln pl))) : Nat) : Int)), .int (iZ (bZ su)), .int (iZ ((sk tx ln (rnE tx ln (rnE tx ln (rnE tx ln pl))) : Nat) : Int)), .int (iZ (rnV tx ln (rnE tx ln (rnE tx ln (rnE tx ln pl))) 7))])), (xa, .inl (Y 2, 200, .inl (aI tx)))]) ⟨hx, hb, hml, hown, hts⟩ (c_X0_addTree l G Y h ad K (rnV tx ln pl ((K 0 0 * K 0 1) - 1)) (rnV tx ln (rnE tx ln pl) 20) (rnV tx ln (rnE tx ln (rnE tx ln pl)) 1) (rnV tx ln (rnE tx ln (rnE tx ln (rnE tx ln pl))) 7) (by omega)) (cwV 4 hts gX5_tellTree_X0_addTree rfl rfl rfl (by decide +kernel) ⟨Nat.le_of_ble_eq_true rfl, Nat.le_of_ble_eq_true rfl⟩) hK hP hD hS 0 rfl rfl (Eq.refl [h, ad 1, ad 2, ad 3, ad 4, ad 5, ad 6, ad 7]) rfl hl.1 rfl (Nat.le_of_ble_eq_true rfl) dX5_tellTree_96 ⟨Nat.zero_le _, Nat.zero_le _⟩ (fun H locs hP hD hS => ?_)
              show W _ _ _ _ _ _ _ _ _ _ _ _ _ _ _ (F0 _ _ _ [])
              replace hP : va_P G vwCl [(h, .inr (0, [.int (iZ ((adT K (rnV tx ln pl ((K 0 0 * K 0 1) - 1)) (rnV tx ln (rnE tx ln pl) 20) (rnV tx ln (rnE tx ln (rnE tx ln pl)) 1) (rnV tx ln (rnE tx ln (rnE tx ln (rnE tx ln pl))) 7)) 0 0)), .int (iZ ((adT K (rnV tx ln pl ((K 0 0 * K 0 1) - 1)) (rnV tx ln (rnE tx ln pl) 20) (rnV tx ln (rnE tx ln (rnE tx ln pl)) 1) (rnV tx ln (rnE tx ln (rnE tx ln (rnE tx ln pl))) 7)) 0 1)), .int (iZ ((adT K (rnV tx ln pl ((K 0 0 * K 0 1) - 1)) (rnV tx ln (rnE tx ln pl) 20) (rnV tx ln (rnE tx ln (rnE tx ln pl)) 1) (rnV tx ln (rnE tx ln (rnE tx ln (rnE tx ln pl))) 7)) 0 2)), .int (iZ ((adT K (rnV tx ln pl ((K 0 0 * K 0 1) - 1)) (rnV tx ln (rnE tx ln pl) 20) (rnV tx ln (rnE tx ln (rnE tx ln pl)) 1) (rnV tx ln (rnE tx ln (rnE tx ln (rnE tx ln pl))) 7)) 0 3)), .int (iZ ((adT K (rnV tx ln pl ((K 0 0 * K 0 1) - 1)) (rnV tx ln (rnE tx ln pl) 20) (rnV tx ln (rnE tx ln (rnE tx ln pl)) 1) (rnV tx ln (rnE tx ln (rnE tx ln (rnE tx ln pl))) 7)) 0 4)), .int (iZ ((adT K (rnV tx ln pl ((K 0 0 * K 0 1) - 1)) (rnV tx ln (rnE tx ln pl) 20) (rnV tx ln (rnE tx ln (rnE tx ln pl)) 1) (rnV tx ln (rnE tx ln (rnE tx ln (rnE tx ln pl))) 7)) 0 5)), .int (iZ ((adT K (rnV tx ln pl ((K 0 0 * K 0 1) - 1)) (rnV tx ln (rnE tx ln pl) 20) (rnV tx ln (rnE tx ln (rnE tx ln pl)) 1) (rnV tx ln (rnE tx ln (rnE tx ln (rnE tx ln pl))) 7)) 0 6)), .ref (ad 1), .ref (ad 2), .ref (ad 3), .ref (ad 4), .ref (ad 5), .ref (ad 6), .ref (ad 7)])), (ad 1, .inl (Y 0, 6, .inl (aI ((adT K (rnV tx ln pl ((K 0 0 * K 0 1) - 1)) (rnV tx ln (rnE tx ln pl) 20) (rnV tx ln (rnE tx ln (rnE tx ln pl)) 1) (rnV tx ln (rnE tx ln (rnE tx ln (rnE tx ln pl))) 7)) 1)))), (ad 2, .inl (Y 0, 6, .inl (aI ((adT K (rnV tx ln pl ((K 0 0 * K 0 1) - 1)) (rnV tx ln (rnE tx ln pl) 20) (rnV tx ln (rnE tx ln (rnE tx ln pl)) 1) (rnV tx ln (rnE tx ln (rnE tx ln (rnE tx ln pl))) 7)) 2)))), (ad 3, .inl (Y 0, 6, .inl (aI ((adT K (rnV tx ln pl ((K 0 0 * K 0 1) - 1)) (rnV tx ln (rnE tx ln pl) 20) (rnV tx ln (rnE tx ln (rnE tx ln pl)) 1) (rnV tx ln (rnE tx ln (rnE tx ln (rnE tx ln pl))) 7)) 3)))), (ad 4, .inl (Y 1, 6, .inl (aI ((adT K (rnV tx ln pl ((K 0 0 * K 0 1) - 1)) (rnV tx ln (rnE tx ln pl) 20) (rnV tx ln (rnE tx ln (rnE tx ln pl)) 1) (rnV tx ln (rnE tx ln (rnE tx ln (rnE tx ln pl))) 7)) 4)))), (ad 5, .inl (Y 1, 6, .inl (aI ((adT K (rnV tx ln pl ((K 0 0 * K 0 1) - 1)) (rnV tx ln (rnE tx ln pl) 20) (rnV tx ln (rnE tx ln (rnE tx ln pl)) 1) (rnV tx ln (rnE tx ln (rnE tx ln (rnE tx ln pl))) 7)) 5)))), (ad 6, .inl (Y 0, 7, .inl (aI ((adT K (rnV tx ln pl ((K 0 0 * K 0 1) - 1)) (rnV tx ln (rnE tx ln pl) 20) (rnV tx ln (rnE tx ln (rnE tx ln pl)) 1) (rnV tx ln (rnE tx ln (rnE tx ln (rnE tx ln pl))) 7)) 6)))), (ad 7, .inl (Y 0, 7, .inl (aI ((adT K (rnV tx ln pl ((K 0 0 * K 0 1) - 1)) (rnV tx ln (rnE tx ln pl) 20) (rnV tx ln (rnE tx ln (rnE tx ln pl)) 1) (rnV tx ln (rnE tx ln (rnE tx ln (rnE tx ln pl))) 7)) 7)))), (h7, .inr (5, [.ref xa, .int (iZ ((ln : Nat) : Int)), .int (iZ ((rnE tx ln (rnE tx ln (rnE tx ln (rnE tx ln pl))) : Nat) : Int)), .int (iZ (bZ su)), .int (iZ ((sk tx ln (rnE tx ln (rnE tx ln (rnE tx ln pl))) : Nat) : Int)), .int (iZ (rnV tx ln (rnE tx ln (rnE tx ln (rnE tx ln pl))) 7))])), (xa, .inl (Y 2, 200, .inl (aI tx)))] H := hP
              replace hD : va_D _ [(h, .inr (0, [.int (iZ ((adT K (rnV tx ln pl ((K 0 0 * K 0 1) - 1)) (rnV tx ln (rnE tx ln pl) 20) (rnV tx ln (rnE tx ln (rnE tx ln pl)) 1) (rnV tx ln (rnE tx ln (rnE tx ln (rnE tx ln pl))) 7)) 0 0)), .int (iZ ((adT K (rnV tx ln pl ((K 0 0 * K 0 1) - 1)) (rnV tx ln (rnE tx ln pl) 20) (rnV tx ln (rnE tx ln (rnE tx ln pl)) 1) (rnV tx ln (rnE tx ln (rnE tx ln (rnE tx ln pl))) 7)) 0 1)), .int (iZ ((adT K (rnV tx ln pl ((K 0 0 * K 0 1) - 1)) (rnV tx ln (rnE tx ln pl) 20) (rnV tx ln (rnE tx ln (rnE tx ln pl)) 1) (rnV tx ln (rnE tx ln (rnE tx ln (rnE tx ln pl))) 7)) 0 2)), .int (iZ ((adT K (rnV tx ln pl ((K 0 0 * K 0 1) - 1)) (rnV tx ln (rnE tx ln pl) 20) (rnV tx ln (rnE tx ln (rnE tx ln pl)) 1) (rnV tx ln (rnE tx ln (rnE tx ln (rnE tx ln pl))) 7)) 0 3)), .int (iZ ((adT K (rnV tx ln pl ((K 0 0 * K 0 1) - 1)) (rnV tx ln (rnE tx ln pl) 20) (rnV tx ln (rnE tx ln (rnE tx ln pl)) 1) (rnV tx ln (rnE tx ln (rnE tx ln (rnE tx ln pl))) 7)) 0 4)), .int (iZ ((adT K (rnV tx ln pl ((K 0 0 * K 0 1) - 1)) (rnV tx ln (rnE tx ln pl) 20) (rnV tx ln (rnE tx ln (rnE tx ln pl)) 1) (rnV tx ln (rnE tx ln (rnE tx ln (rnE tx ln pl))) 7)) 0 5)), .int (iZ ((adT K (rnV tx ln pl ((K 0 0 * K 0 1) - 1)) (rnV tx ln (rnE tx ln pl) 20) (rnV tx ln (rnE tx ln (rnE tx ln pl)) 1) (rnV tx ln (rnE tx ln (rnE tx ln (rnE tx ln pl))) 7)) 0 6)), .ref (ad 1), .ref (ad 2), .ref (ad 3), .ref (ad 4), .ref (ad 5), .ref (ad 6), .ref (ad 7)])), (ad 1, .inl (Y 0, 6, .inl (aI ((adT K (rnV tx ln pl ((K 0 0 * K 0 1) - 1)) (rnV tx ln (rnE tx ln pl) 20) (rnV tx ln (rnE tx ln (rnE tx ln pl)) 1) (rnV tx ln (rnE tx ln (rnE tx ln (rnE tx ln pl))) 7)) 1)))), (ad 2, .inl (Y 0, 6, .inl (aI ((adT K (rnV tx ln pl ((K 0 0 * K 0 1) - 1)) (rnV tx ln (rnE tx ln pl) 20) (rnV tx ln (rnE tx ln (rnE tx ln pl)) 1) (rnV tx ln (rnE tx ln (rnE tx ln (rnE tx ln pl))) 7)) 2)))), (ad 3, .inl (Y 0, 6, .inl (aI ((adT K (rnV tx ln pl ((K 0 0 * K 0 1) - 1)) (rnV tx ln (rnE tx ln pl) 20) (rnV tx ln (rnE tx ln (rnE tx ln pl)) 1) (rnV tx ln (rnE tx ln (rnE tx ln (rnE tx ln pl))) 7)) 3)))), (ad 4, .inl (Y 1, 6, .inl (aI ((adT K (rnV tx ln pl ((K 0 0 * K 0 1) - 1)) (rnV tx ln (rnE tx ln pl) 20) (rnV tx ln (rnE tx ln (rnE tx ln pl)) 1) (rnV tx ln (rnE tx ln (rnE tx ln (rnE tx ln pl))) 7)) 4)))), (ad 5, .inl (Y 1, 6, .inl (aI ((adT K (rnV tx ln pl ((K 0 0 * K 0 1) - 1)) (rnV tx ln (rnE tx ln pl) 20) (rnV tx ln (rnE tx ln (rnE tx ln pl)) 1) (rnV tx ln (rnE tx ln (rnE tx ln (rnE tx ln pl))) 7)) 5)))), (ad 6, .inl (Y 0, 7, .inl (aI ((adT K (rnV tx ln pl ((K 0 0 * K 0 1) - 1)) (rnV tx ln (rnE tx ln pl) 20) (rnV tx ln (rnE tx ln (rnE tx ln pl)) 1) (rnV tx ln (rnE tx ln (rnE tx ln (rnE tx ln pl))) 7)) 6)))), (ad 7, .inl (Y 0, 7, .inl (aI ((adT K (rnV tx ln pl ((K 0 0 * K 0 1) - 1)) (rnV tx ln (rnE tx ln pl) 20) (rnV tx ln (rnE tx ln (rnE tx ln pl)) 1) (rnV tx ln (rnE tx ln (rnE tx ln (rnE tx ln pl))) 7)) 7)))), (h7, .inr (5, [.ref xa, .int (iZ ((ln : Nat) : Int)), .int (iZ ((rnE tx ln (rnE tx ln (rnE tx ln (rnE tx ln pl))) : Nat) : Int)), .int (iZ (bZ su)), .int (iZ ((sk tx ln (rnE tx ln (rnE tx ln (rnE tx ln pl))) : Nat) : Int)), .int (iZ (rnV tx ln (rnE tx ln (rnE tx ln (rnE tx ln pl))) 7))])), (xa, .inl (Y 2, 200, .inl (aI tx)))] := hD
              refine z_iconst hx hb dX5_tellTree_99 ?_
              have e9 : tTree tx ln pl su K = (true, rnE tx ln (rnE tx ln (rnE tx ln (rnE tx ln pl))), sk tx ln (rnE tx ln (rnE tx ln (rnE tx ln pl))), rnV tx ln (rnE tx ln (rnE tx ln (rnE tx ln pl))) 7, su, adT K (rnV tx ln pl (K 0 0 * K 0 1 - 1)) (rnV tx ln (rnE tx ln pl) 20) (rnV tx ln (rnE tx ln (rnE tx ln pl)) 1) (rnV tx ln (rnE tx ln (rnE tx ln (rnE tx ln pl))) 7)) := by unfold tTree; simp only [c_3, c_4, c_7, c_10, c_17, cond_true, cond_false]
              refine z_top (show 1 = bZ (tTree tx ln pl su K).1 from ?_) ?_
              · rw [e9]; rfl
              have hP9 : va_P G vwCl (txR Y h7 xa tx ln h ad (tTree tx ln pl su K)) H := by rw [e9]; exact hP.sub [8, 9, 0, 1, 2, 3, 4, 5, 6, 7] rfl
              exact W.zret (v := iZ (bZ (tTree tx ln pl su K).1)) hx hb hr (b01_nar (bZ_in _)) (fun t9 ht9 _ => ⟨rfl, by rw [ht9]; exact hP9, hS.F ht9⟩) hS.2.2 dX5_tellTree_100
            · skip
              refine z_iconst hx hb dX5_tellTree_85 ?_
              have e9 : tTree tx ln pl su K = (false, rnE tx ln (rnE tx ln (rnE tx ln (rnE tx ln pl))), sk tx ln (rnE tx ln (rnE tx ln (rnE tx ln pl))), rnV tx ln (rnE tx ln (rnE tx ln (rnE tx ln pl))) 7, su, K) := by unfold tTree; simp only [c_3, c_4, c_7, c_10, c_17, cond_true, cond_false]
              refine z_top (show 0 = bZ (tTree tx ln pl su K).1 from ?_) ?_
              · rw [e9]; rfl
              have hP9 : va_P G vwCl (txR Y h7 xa tx ln h ad (tTree tx ln pl su K)) H := by rw [e9]; exact hP.sub [0, 1, 2, 3, 4, 5, 6, 7, 8, 9] rfl
              exact W.zret (v := iZ (bZ (tTree tx ln pl su K).1)) hx hb hr (b01_nar (bZ_in _)) (fun t9 ht9 _ => ⟨rfl, by rw [ht9]; exact hP9, hS.F ht9⟩) hS.2.2 dX5_tellTree_86
        · skip
          refine z_iconst hx hb dX5_tellTree_58 ?_
          have e9 : tTree tx ln pl su K = (false, rnE tx ln (rnE tx ln (rnE tx ln pl)), sk tx ln (rnE tx ln (rnE tx ln pl)), rnV tx ln (rnE tx ln (rnE tx ln pl)) 1, su, K) := by unfold tTree; simp only [c_3, c_4, c_7, c_10, cond_true, cond_false]
          refine z_top (show 0 = bZ (tTree tx ln pl su K).1 from ?_) ?_
          · rw [e9]; rfl
          have hP9 : va_P G vwCl (txR Y h7 xa tx ln h ad (tTree tx ln pl su K)) H := by rw [e9]; exact hP.sub [0, 1, 2, 3, 4, 5, 6, 7, 8, 9] rfl
          exact W.zret (v := iZ (bZ (tTree tx ln pl su K).1)) hx hb hr (b01_nar (bZ_in _)) (fun t9 ht9 _ => ⟨rfl, by rw [ht9]; exact hP9, hS.F ht9⟩) hS.2.2 dX5_tellTree_59
      · skip
        refine z_iconst hx hb dX5_tellTree_42 ?_
        have e9 : tTree tx ln pl su K = (false, rnE tx ln (rnE tx ln pl), sk tx ln (rnE tx ln pl), rnV tx ln (rnE tx ln pl) 20, su, K) := by unfold tTree; simp only [c_3, c_4, c_7, cond_true, cond_false]
        refine z_top (show 0 = bZ (tTree tx ln pl su K).1 from ?_) ?_
        · rw [e9]; rfl
        have hP9 : va_P G vwCl (txR Y h7 xa tx ln h ad (tTree tx ln pl su K)) H := by rw [e9]; exact hP.sub [0, 1, 2, 3, 4, 5, 6, 7, 8, 9] rfl
        exact W.zret (v := iZ (bZ (tTree tx ln pl su K).1)) hx hb hr (b01_nar (bZ_in _)) (fun t9 ht9 _ => ⟨rfl, by rw [ht9]; exact hP9, hS.F ht9⟩) hS.2.2 dX5_tellTree_43
    · skip
      refine z_iconst hx hb dX5_tellTree_25 ?_
      have e9 : tTree tx ln pl su K = (false, rnE tx ln pl, sk tx ln pl, rnV tx ln pl ((K 0 0 * K 0 1) - 1), su, K) := by unfold tTree; simp only [c_3, c_4, cond_true, cond_false]
      refine z_top (show 0 = bZ (tTree tx ln pl su K).1 from ?_) ?_
      · rw [e9]; rfl
      have hP9 : va_P G vwCl (txR Y h7 xa tx ln h ad (tTree tx ln pl su K)) H := by rw [e9]; exact hP.sub [0, 1, 2, 3, 4, 5, 6, 7, 8, 9] rfl
      exact W.zret (v := iZ (bZ (tTree tx ln pl su K).1)) hx hb hr (b01_nar (bZ_in _)) (fun t9 ht9 _ => ⟨rfl, by rw [ht9]; exact hP9, hS.F ht9⟩) hS.2.2 dX5_tellTree_26

set_option maxHeartbeats 4000000 in
set_option maxRecDepth 100000 in
theorem c_X5_tellPerson (l : Launch) (G : va_G) (Y : Nat → ClassId) (h7 xa : Nat) (tx : Nat → Int) (hX : tX tx) (ln pl : Nat) (su : Bool) (tk : Nat) (nu : Int) (r : pl ≤ ln ∧ ln ≤ 200) (h : Nat) (ad : Nat → Nat) (K : Kom) (hW : cWF K) (r6 : K 0 3 ≤ 6) : Met l yX5_tellPerson wsX5_tellPerson ({ frames := 2, cells := 0, slots := 0, locals := 46 }) (mP G Y [.ref h7, .ref h] (txW Y h7 xa tx ln pl su tk nu ++ cmW Y h ad K)) (mQ G (txW Y h7 xa tx ln pl su tk nu ++ cmW Y h ad K) (some (.int (iZ (bZ (tPers tx ln pl su K).1)))) (txR Y h7 xa tx ln h ad (tPers tx ln pl su K))) 0 0 (fun q => q ∈ List.map Prod.fst (txW Y h7 xa tx ln pl su tk nu ++ cmW Y h ad K)) := by
  refine Met.ofW (cc := cX5_tellPerson) (maxL := 3) (ret := (some .boolean)) (by decide) rfl ?_
  intro p e s m args below meth c s₁ B hml hv
  obtain ⟨rfl, hK, hP, hD0⟩ := hv
  have hx := B.exec
  have hb := B.bytes
  have hr := B.returns
  have hts := atoms_spec (ws := wsX5_tellPerson) B.pre
  have hown : s.vm.findClass RX5 = some m.cls := findClass_of_methodNamed B.named
  have hlocks := B.notSynchronized
  have hFX5 : ∀ w ∈ wsX50, w ∈ wsX5_tellPerson := by decide +kernel
  have kf68 := (hts (.fieldLink RX5 68 "ShadeVotes$Text" "number" "I") (by decide +kernel))
  have hD := va_D_self hD0
  have hS : va_S (fun q => q ∈ List.map Prod.fst (txW Y h7 xa tx ln pl su tk nu ++ cmW Y h ad K)) s.heap s.heap [] := va_S.rf
  obtain ⟨H, hHe⟩ : ∃ H, H = s.heap := ⟨_, rfl⟩
  rw [← hHe] at hP
  replace hS : va_S (fun q => q ∈ List.map Prod.fst (txW Y h7 xa tx ln pl su tk nu ++ cmW Y h ad K)) s.heap H [] := by rw [hHe]; exact hS
  have hl := lv_entry ([.ref h7, .ref h]) (n := 3) (Nat.le_of_ble_eq_true rfl)
  rw [lg_entry_eq]
  generalize (lg_sl ([.ref h7, .ref h]) ++ List.replicate (3 - (lg_sl ([.ref h7, .ref h])).length) Slot.unset).toArray = ls at hl ⊢
  replace hl : lv_has ls 3 [(0, .ref h7), (1, .ref h)] := hl
  obtain ⟨locs, hLe⟩ : ∃ locs : List Loc, locs = [] := ⟨_, rfl⟩
  rw [← hLe] at hS ⊢
  have hW0 : ∀ {Q : State → Prop} {g : JFrame}, W p l e ({ frames := 2, cells := 0, slots := 0, locals := 46 }) s m [.ref h7, .ref h].toArray below meth c H locs 0 0 Q g → W p l e ({ frames := 2, cells := 0, slots := 0, locals := 46 }) s m [.ref h7, .ref h].toArray below meth c s.heap locs 0 0 Q g := fun h => by rw [← hHe]; exact h
  refine hW0 ?_
  clear hW0 hHe hLe
  have h0 := hW.1
  have hnc := hW.nc
  refine lv_aload_n hx hb dX5_tellPerson_0 rfl (lv_at hl 0 rfl) ?_
  refine z_iconst hx hb dX5_tellPerson_1 ?_
  refine lv_aload_n hx hb dX5_tellPerson_2 rfl (lv_at hl 1 rfl) ?_
  refine ro_V (As := []) (rest := [.int (iZ 0), .ref h7]) ⟨hx, hb, hml, hown, hts⟩ (c_X0_cells l G Y h ad K hW ) (cwV 0 hts gX5_tellPerson_X0_cells rfl rfl rfl (by decide +kernel) ⟨Nat.le_of_ble_eq_true rfl, Nat.le_of_ble_eq_true rfl⟩) hK (hP.sub (ws' := cmW Y h ad K) [2, 3, 4, 5, 6, 7, 8, 9] rfl) 0 rfl rfl rfl hl.1 rfl (Nat.le_of_ble_eq_true rfl) dX5_tellPerson_3 ⟨Nat.zero_le _, Nat.zero_le _⟩ ?_
  refine z_iconst hx hb dX5_tellPerson_6 ?_
  refine z_isub hx hb dX5_tellPerson_7 ?_
  have hP := hP.sub (ws' := [(h7, .inr (5, [.ref xa, .int (iZ ((ln : Nat) : Int)), .int (iZ ((pl : Nat) : Int)), .int (iZ (bZ su)), .int (iZ ((tk : Nat) : Int)), .int (iZ nu)])), (xa, .inl (Y 2, 200, .inl (aI tx)))] ++ [(h, .inr (0, [.int (iZ (K 0 0)), .int (iZ (K 0 1)), .int (iZ (K 0 2)), .int (iZ (K 0 3)), .int (iZ (K 0 4)), .int (iZ (K 0 5)), .int (iZ (K 0 6)), .ref (ad 1), .ref (ad 2), .ref (ad 3), .ref (ad 4), .ref (ad 5), .ref (ad 6), .ref (ad 7)])), (ad 1, .inl (Y 0, 6, .inl (aI (K 1)))), (ad 2, .inl (Y 0, 6, .inl (aI (K 2)))), (ad 3, .inl (Y 0, 6, .inl (aI (K 3)))), (ad 4, .inl (Y 1, 6, .inl (aI (K 4)))), (ad 5, .inl (Y 1, 6, .inl (aI (K 5)))), (ad 6, .inl (Y 0, 7, .inl (aI (K 6)))), (ad 7, .inl (Y 0, 7, .inl (aI (K 7))))]) [0, 1, 2, 3, 4, 5, 6, 7, 8, 9] rfl
  have hD := hD.sub (ws' := [(h7, .inr (5, [.ref xa, .int (iZ ((ln : Nat) : Int)), .int (iZ ((pl : Nat) : Int)), .int (iZ (bZ su)), .int (iZ ((tk : Nat) : Int)), .int (iZ nu)])), (xa, .inl (Y 2, 200, .inl (aI tx)))] ++ [(h, .inr (0, [.int (iZ (K 0 0)), .int (iZ (K 0 1)), .int (iZ (K 0 2)), .int (iZ (K 0 3)), .int (iZ (K 0 4)), .int (iZ (K 0 5)), .int (iZ (K 0 6)), .ref (ad 1), .ref (ad 2), .ref (ad 3), .ref (ad 4), .ref (ad 5), .ref (ad 6), .ref (ad 7)])), (ad 1, .inl (Y 0, 6, .inl (aI (K 1)))), (ad 2, .inl (Y 0, 6, .inl (aI (K 2)))), (ad 3, .inl (Y 0, 6, .inl (aI (K 3)))), (ad 4, .inl (Y 1, 6, .inl (aI (K 4)))), (ad 5, .inl (Y 1, 6, .inl (aI (K 5)))), (ad 6, .inl (Y 0, 7, .inl (aI (K 6)))), (ad 7, .inl (Y 0, 7, .inl (aI (K 7))))]) [0, 1, 2, 3, 4, 5, 6, 7, 8, 9] (by decide) rfl
  refine mu_V (As := [.int (iZ 0), .int (iZ ((K 0 0 * K 0 1) - 1))]) (rest := []) (wc := [(h7, .inr (5, [.ref xa, .int (iZ ((ln : Nat) : Int)), .int (iZ ((pl : Nat) : Int)), .int (iZ (bZ su)), .int (iZ ((tk : Nat) : Int)), .int (iZ nu)])), (xa, .inl (Y 2, 200, .inl (aI tx)))]) (wc' := txW Y h7 xa tx ln (rnE tx ln pl) su (sk tx ln pl) (rnV tx ln pl ((K 0 0 * K 0 1) - 1))) (F := [(h, .inr (0, [.int (iZ (K 0 0)), .int (iZ (K 0 1)), .int (iZ (K 0 2)), .int (iZ (K 0 3)), .int (iZ (K 0 4)), .int (iZ (K 0 5)), .int (iZ (K 0 6)), .ref (ad 1), .ref (ad 2), .ref (ad 3), .ref (ad 4), .ref (ad 5), .ref (ad 6), .ref (ad 7)])), (ad 1, .inl (Y 0, 6, .inl (aI (K 1)))), (ad 2, .inl (Y 0, 6, .inl (aI (K 2)))), (ad 3, .inl (Y 0, 6, .inl (aI (K 3)))), (ad 4, .inl (Y 1, 6, .inl (aI (K 4)))), (ad 5, .inl (Y 1, 6, .inl (aI (K 5)))), (ad 6, .inl (Y 0, 7, .inl (aI (K 6)))), (ad 7, .inl (Y 0, 7, .inl (aI (K 7))))]) ⟨hx, hb, hml, hown, hts⟩ (c_X5_readNumber l G Y h7 xa tx hX ln pl su tk nu (by omega) 0 ((K 0 0 * K 0 1) - 1) (by omega)) (cwV 2 hts gX5_tellPerson_X5_readNumber rfl rfl rfl (by decide +kernel) ⟨Nat.le_of_ble_eq_true rfl, Nat.le_of_ble_eq_true rfl⟩) hK hP hD hS 0 rfl rfl (Eq.refl [h7, xa]) rfl hl.1 rfl (Nat.le_of_ble_eq_true rfl) dX5_tellPerson_8 ⟨Nat.zero_le _, Nat.zero_le _⟩ (fun H locs hP hD hS => ?_)
  show W _ _ _ _ _ _ _ _ _ _ _ _ _ _ _ (F0 _ _ _ [.int (iZ (bZ (rnO tx ln pl 0 ((K 0 0 * K 0 1) - 1))))])
  replace hP : va_P G vwCl [(h7, .inr (5, [.ref xa, .int (iZ ((ln : Nat) : Int)), .int (iZ ((rnE tx ln pl : Nat) : Int)), .int (iZ (bZ su)), .int (iZ ((sk tx ln pl : Nat) : Int)), .int (iZ (rnV tx ln pl ((K 0 0 * K 0 1) - 1)))])), (xa, .inl (Y 2, 200, .inl (aI tx))), (h, .inr (0, [.int (iZ (K 0 0)), .int (iZ (K 0 1)), .int (iZ (K 0 2)), .int (iZ (K 0 3)), .int (iZ (K 0 4)), .int (iZ (K 0 5)), .int (iZ (K 0 6)), .ref (ad 1), .ref (ad 2), .ref (ad 3), .ref (ad 4), .ref (ad 5), .ref (ad 6), .ref (ad 7)])), (ad 1, .inl (Y 0, 6, .inl (aI (K 1)))), (ad 2, .inl (Y 0, 6, .inl (aI (K 2)))), (ad 3, .inl (Y 0, 6, .inl (aI (K 3)))), (ad 4, .inl (Y 1, 6, .inl (aI (K 4)))), (ad 5, .inl (Y 1, 6, .inl (aI (K 5)))), (ad 6, .inl (Y 0, 7, .inl (aI (K 6)))), (ad 7, .inl (Y 0, 7, .inl (aI (K 7))))] H := hP
  replace hD : va_D _ [(h7, .inr (5, [.ref xa, .int (iZ ((ln : Nat) : Int)), .int (iZ ((rnE tx ln pl : Nat) : Int)), .int (iZ (bZ su)), .int (iZ ((sk tx ln pl : Nat) : Int)), .int (iZ (rnV tx ln pl ((K 0 0 * K 0 1) - 1)))])), (xa, .inl (Y 2, 200, .inl (aI tx))), (h, .inr (0, [.int (iZ (K 0 0)), .int (iZ (K 0 1)), .int (iZ (K 0 2)), .int (iZ (K 0 3)), .int (iZ (K 0 4)), .int (iZ (K 0 5)), .int (iZ (K 0 6)), .ref (ad 1), .ref (ad 2), .ref (ad 3), .ref (ad 4), .ref (ad 5), .ref (ad 6), .ref (ad 7)])), (ad 1, .inl (Y 0, 6, .inl (aI (K 1)))), (ad 2, .inl (Y 0, 6, .inl (aI (K 2)))), (ad 3, .inl (Y 0, 6, .inl (aI (K 3)))), (ad 4, .inl (Y 1, 6, .inl (aI (K 4)))), (ad 5, .inl (Y 1, 6, .inl (aI (K 5)))), (ad 6, .inl (Y 0, 7, .inl (aI (K 6)))), (ad 7, .inl (Y 0, 7, .inl (aI (K 7))))] := hD
  have hb_1 := rnE_in (tx := tx) (ln := ln) (q := pl) (by omega)
  have hb_2 := rnV_in (tx := tx) (ln := ln) (q := pl) (hi := ((K 0 0 * K 0 1) - 1)) (by omega)
  refine z_ifb_ne (tgt := 16) hx hb dX5_tellPerson_11 (by decide) (fun c_3 => ?_) (fun c_3 => ?_)
  · skip
    refine lv_aload_n hx hb dX5_tellPerson_16 rfl (lv_at hl 0 rfl) ?_
    refine va_get (D := G) (ci := 5) (v := .int (iZ (rnV tx ln pl ((K 0 0 * K 0 1) - 1)))) (C := RX5) (T := TX5) (N := 6) hx hb hts hFX5 hown hK.1 hP 0 rfl rfl 5 (by decide) kf68 (fun _ h9 => h9) rfl dX5_tellPerson_17 ?_
    refine lv_istore_n (lv' := [(2, .int (iZ (rnV tx ln pl ((K 0 0 * K 0 1) - 1)))), (0, .ref h7), (1, .ref h)]) hx hb dX5_tellPerson_20 rfl hl (by decide) rfl (fun ls hl => ?_)
    refine lv_aload_n hx hb dX5_tellPerson_21 rfl (lv_at hl 1 rfl) ?_
    refine z_iconst hx hb dX5_tellPerson_22 ?_
    refine z_iconst hx hb dX5_tellPerson_23 ?_
    have hP := hP.sub (ws' := [(h7, .inr (5, [.ref xa, .int (iZ ((ln : Nat) : Int)), .int (iZ ((rnE tx ln pl : Nat) : Int)), .int (iZ (bZ su)), .int (iZ ((sk tx ln pl : Nat) : Int)), .int (iZ (rnV tx ln pl ((K 0 0 * K 0 1) - 1)))])), (xa, .inl (Y 2, 200, .inl (aI tx)))] ++ [(h, .inr (0, [.int (iZ (K 0 0)), .int (iZ (K 0 1)), .int (iZ (K 0 2)), .int (iZ (K 0 3)), .int (iZ (K 0 4)), .int (iZ (K 0 5)), .int (iZ (K 0 6)), .ref (ad 1), .ref (ad 2), .ref (ad 3), .ref (ad 4), .ref (ad 5), .ref (ad 6), .ref (ad 7)])), (ad 1, .inl (Y 0, 6, .inl (aI (K 1)))), (ad 2, .inl (Y 0, 6, .inl (aI (K 2)))), (ad 3, .inl (Y 0, 6, .inl (aI (K 3)))), (ad 4, .inl (Y 1, 6, .inl (aI (K 4)))), (ad 5, .inl (Y 1, 6, .inl (aI (K 5)))), (ad 6, .inl (Y 0, 7, .inl (aI (K 6)))), (ad 7, .inl (Y 0, 7, .inl (aI (K 7))))]) [0, 1, 2, 3, 4, 5, 6, 7, 8, 9] rfl
    have hD := hD.sub (ws' := [(h7, .inr (5, [.ref xa, .int (iZ ((ln : Nat) : Int)), .int (iZ ((rnE tx ln pl : Nat) : Int)), .int (iZ (bZ su)), .int (iZ ((sk tx ln pl : Nat) : Int)), .int (iZ (rnV tx ln pl ((K 0 0 * K 0 1) - 1)))])), (xa, .inl (Y 2, 200, .inl (aI tx)))] ++ [(h, .inr (0, [.int (iZ (K 0 0)), .int (iZ (K 0 1)), .int (iZ (K 0 2)), .int (iZ (K 0 3)), .int (iZ (K 0 4)), .int (iZ (K 0 5)), .int (iZ (K 0 6)), .ref (ad 1), .ref (ad 2), .ref (ad 3), .ref (ad 4), .ref (ad 5), .ref (ad 6), .ref (ad 7)])), (ad 1, .inl (Y 0, 6, .inl (aI (K 1)))), (ad 2, .inl (Y 0, 6, .inl (aI (K 2)))), (ad 3, .inl (Y 0, 6, .inl (aI (K 3)))), (ad 4, .inl (Y 1, 6, .inl (aI (K 4)))), (ad 5, .inl (Y 1, 6, .inl (aI (K 5)))), (ad 6, .inl (Y 0, 7, .inl (aI (K 6)))), (ad 7, .inl (Y 0, 7, .inl (aI (K 7))))]) [0, 1, 2, 3, 4, 5, 6, 7, 8, 9] (by decide) rfl
    refine mu_V (As := [.int (iZ 1), .int (iZ 4)]) (rest := []) (wc := [(h7, .inr (5, [.ref xa, .int (iZ ((ln : Nat) : Int)), .int (iZ ((rnE tx ln pl : Nat) : Int)), .int (iZ (bZ su)), .int (iZ ((sk tx ln pl : Nat) : Int)), .int (iZ (rnV tx ln pl ((K 0 0 * K 0 1) - 1)))])), (xa, .inl (Y 2, 200, .inl (aI tx)))]) (wc' := txW Y h7 xa tx ln (rnE tx ln (rnE tx ln pl)) su (sk tx ln (rnE tx ln pl)) (rnV tx ln (rnE tx ln pl) 4)) (F := [(h, .inr (0, [.int (iZ (K 0 0)), .int (iZ (K 0 1)), .int (iZ (K 0 2)), .int (iZ (K 0 3)), .int (iZ (K 0 4)), .int (iZ (K 0 5)), .int (iZ (K 0 6)), .ref (ad 1), .ref (ad 2), .ref (ad 3), .ref (ad 4), .ref (ad 5), .ref (ad 6), .ref (ad 7)])), (ad 1, .inl (Y 0, 6, .inl (aI (K 1)))), (ad 2, .inl (Y 0, 6, .inl (aI (K 2)))), (ad 3, .inl (Y 0, 6, .inl (aI (K 3)))), (ad 4, .inl (Y 1, 6, .inl (aI (K 4)))), (ad 5, .inl (Y 1, 6, .inl (aI (K 5)))), (ad 6, .inl (Y 0, 7, .inl (aI (K 6)))), (ad 7, .inl (Y 0, 7, .inl (aI (K 7))))]) ⟨hx, hb, hml, hown, hts⟩ (c_X5_readNumber l G Y h7 xa tx hX ln (rnE tx ln pl) su (sk tx ln pl) (rnV tx ln pl ((K 0 0 * K 0 1) - 1)) (by omega) 1 4 (by omega)) (cwV 2 hts gX5_tellPerson_X5_readNumber rfl rfl rfl (by decide +kernel) ⟨Nat.le_of_ble_eq_true rfl, Nat.le_of_ble_eq_true rfl⟩) hK hP hD hS 0 rfl rfl (Eq.refl [h7, xa]) rfl hl.1 rfl (Nat.le_of_ble_eq_true rfl) dX5_tellPerson_24 ⟨Nat.zero_le _, Nat.zero_le _⟩ (fun H locs hP hD hS => ?_)
    show W _ _ _ _ _ _ _ _ _ _ _ _ _ _ _ (F0 _ _ _ [.int (iZ (bZ (rnO tx ln (rnE tx ln pl) 1 4)))])
    replace hP : va_P G vwCl [(h7, .inr (5, [.ref xa, .int (iZ ((ln : Nat) : Int)), .int (iZ ((rnE tx ln (rnE tx ln pl) : Nat) : Int)), .int (iZ (bZ su)), .int (iZ ((sk tx ln (rnE tx ln pl) : Nat) : Int)), .int (iZ (rnV tx ln (rnE tx ln pl) 4))])), (xa, .inl (Y 2, 200, .inl (aI tx))), (h, .inr (0, [.int (iZ (K 0 0)), .int (iZ (K 0 1)), .int (iZ (K 0 2)), .int (iZ (K 0 3)), .int (iZ (K 0 4)), .int (iZ (K 0 5)), .int (iZ (K 0 6)), .ref (ad 1), .ref (ad 2), .ref (ad 3), .ref (ad 4), .ref (ad 5), .ref (ad 6), .ref (ad 7)])), (ad 1, .inl (Y 0, 6, .inl (aI (K 1)))), (ad 2, .inl (Y 0, 6, .inl (aI (K 2)))), (ad 3, .inl (Y 0, 6, .inl (aI (K 3)))), (ad 4, .inl (Y 1, 6, .inl (aI (K 4)))), (ad 5, .inl (Y 1, 6, .inl (aI (K 5)))), (ad 6, .inl (Y 0, 7, .inl (aI (K 6)))), (ad 7, .inl (Y 0, 7, .inl (aI (K 7))))] H := hP
    replace hD : va_D _ [(h7, .inr (5, [.ref xa, .int (iZ ((ln : Nat) : Int)), .int (iZ ((rnE tx ln (rnE tx ln pl) : Nat) : Int)), .int (iZ (bZ su)), .int (iZ ((sk tx ln (rnE tx ln pl) : Nat) : Int)), .int (iZ (rnV tx ln (rnE tx ln pl) 4))])), (xa, .inl (Y 2, 200, .inl (aI tx))), (h, .inr (0, [.int (iZ (K 0 0)), .int (iZ (K 0 1)), .int (iZ (K 0 2)), .int (iZ (K 0 3)), .int (iZ (K 0 4)), .int (iZ (K 0 5)), .int (iZ (K 0 6)), .ref (ad 1), .ref (ad 2), .ref (ad 3), .ref (ad 4), .ref (ad 5), .ref (ad 6), .ref (ad 7)])), (ad 1, .inl (Y 0, 6, .inl (aI (K 1)))), (ad 2, .inl (Y 0, 6, .inl (aI (K 2)))), (ad 3, .inl (Y 0, 6, .inl (aI (K 3)))), (ad 4, .inl (Y 1, 6, .inl (aI (K 4)))), (ad 5, .inl (Y 1, 6, .inl (aI (K 5)))), (ad 6, .inl (Y 0, 7, .inl (aI (K 6)))), (ad 7, .inl (Y 0, 7, .inl (aI (K 7))))] := hD
    have hb_4 := rnE_in (tx := tx) (ln := ln) (q := rnE tx ln pl) (by omega)
    have hb_5 := rnV_in (tx := tx) (ln := ln) (q := rnE tx ln pl) (hi := 4) (by omega)
    refine z_ifb_ne (tgt := 32) hx hb dX5_tellPerson_27 (by decide) (fun c_6 => ?_) (fun c_6 => ?_)
    · skip
      refine lv_aload_n hx hb dX5_tellPerson_32 rfl (lv_at hl 2 rfl) ?_
      refine lv_iload_n hx hb dX5_tellPerson_33 rfl (lv_at hl 0 rfl) ?_
      refine lv_aload_n hx hb dX5_tellPerson_34 rfl (lv_at hl 1 rfl) ?_
      refine va_get (D := G) (ci := 5) (v := .int (iZ (rnV tx ln (rnE tx ln pl) 4))) (C := RX5) (T := TX5) (N := 6) hx hb hts hFX5 hown hK.1 hP 0 rfl rfl 5 (by decide) kf68 (fun _ h9 => h9) rfl dX5_tellPerson_35 ?_
      have hP := hP.sub (ws' := [(h, .inr (0, [.int (iZ (K 0 0)), .int (iZ (K 0 1)), .int (iZ (K 0 2)), .int (iZ (K 0 3)), .int (iZ (K 0 4)), .int (iZ (K 0 5)), .int (iZ (K 0 6)), .ref (ad 1), .ref (ad 2), .ref (ad 3), .ref (ad 4), .ref (ad 5), .ref (ad 6), .ref (ad 7)])), (ad 1, .inl (Y 0, 6, .inl (aI (K 1)))), (ad 2, .inl (Y 0, 6, .inl (aI (K 2)))), (ad 3, .inl (Y 0, 6, .inl (aI (K 3)))), (ad 4, .inl (Y 1, 6, .inl (aI (K 4)))), (ad 5, .inl (Y 1, 6, .inl (aI (K 5)))), (ad 6, .inl (Y 0, 7, .inl (aI (K 6)))), (ad 7, .inl (Y 0, 7, .inl (aI (K 7))))] ++ [(h7, .inr (5, [.ref xa, .int (iZ ((ln : Nat) : Int)), .int (iZ ((rnE tx ln (rnE tx ln pl) : Nat) : Int)), .int (iZ (bZ su)), .int (iZ ((sk tx ln (rnE tx ln pl) : Nat) : Int)), .int (iZ (rnV tx ln (rnE tx ln pl) 4))])), (xa, .inl (Y 2, 200, .inl (aI tx)))]) [2, 3, 4, 5, 6, 7, 8, 9, 0, 1] rfl
      have hD := hD.sub (ws' := [(h, .inr (0, [.int (iZ (K 0 0)), .int (iZ (K 0 1)), .int (iZ (K 0 2)), .int (iZ (K 0 3)), .int (iZ (K 0 4)), .int (iZ (K 0 5)), .int (iZ (K 0 6)), .ref (ad 1), .ref (ad 2), .ref (ad 3), .ref (ad 4), .ref (ad 5), .ref (ad 6), .ref (ad 7)])), (ad 1, .inl (Y 0, 6, .inl (aI (K 1)))), (ad 2, .inl (Y 0, 6, .inl (aI (K 2)))), (ad 3, .inl (Y 0, 6, .inl (aI (K 3)))), (ad 4, .inl (Y 1, 6, .inl (aI (K 4)))), (ad 5, .inl (Y 1, 6, .inl (aI (K 5)))), (ad 6, .inl (Y 0, 7, .inl (aI (K 6)))), (ad 7, .inl (Y 0, 7, .inl (aI (K 7))))] ++ [(h7, .inr (5, [.ref xa, .int (iZ ((ln : Nat) : Int)), .int (iZ ((rnE tx ln (rnE tx ln pl) : Nat) : Int)), .int (iZ (bZ su)), .int (iZ ((sk tx ln (rnE tx ln pl) : Nat) : Int)), .int (iZ (rnV tx ln (rnE tx ln pl) 4))])), (xa, .inl (Y 2, 200, .inl (aI tx)))]) [2, 3, 4, 5, 6, 7, 8, 9, 0, 1] (by decide) rfl
      refine mu_V (As := [.int (iZ (rnV tx ln pl ((K 0 0 * K 0 1) - 1))), .int (iZ (rnV tx ln (rnE tx ln pl) 4))]) (rest := []) (wc := [(h, .inr (0, [.int (iZ (K 0 0)), .int (iZ (K 0 1)), .int (iZ (K 0 2)), .int (iZ (K 0 3)), .int (iZ (K 0 4)), .int (iZ (K 0 5)), .int (iZ (K 0 6)), .ref (ad 1), .ref (ad 2), .ref (ad 3), .ref (ad 4), .ref (ad 5), .ref (ad 6), .ref (ad 7)])), (ad 1, .inl (Y 0, 6, .inl (aI (K 1)))), (ad 2, .inl (Y 0, 6, .inl (aI (K 2)))), (ad 3, .inl (Y 0, 6, .inl (aI (K 3)))), (ad 4, .inl (Y 1, 6, .inl (aI (K 4)))), (ad 5, .inl (Y 1, 6, .inl (aI (K 5)))), (ad 6, .inl (Y 0, 7, .inl (aI (K 6)))), (ad 7, .inl (Y 0, 7, .inl (aI (K 7))))]) (wc' := cmW Y h ad (adP K (rnV tx ln pl ((K 0 0 * K 0 1) - 1)) (rnV tx ln (rnE tx ln pl) 4))) (F := [(h7, .inr (5, [.ref xa, .int (iZ ((ln : Nat) : Int)), .int (iZ ((rnE tx ln (rnE tx ln pl) : Nat) : Int)), .int (iZ (bZ su)), .int (iZ ((sk tx ln (rnE tx ln pl) : Nat) : Int)), .int (iZ (rnV tx ln (rnE tx ln pl) 4))])), (xa, .inl (Y 2, 200, .inl (aI tx)))]) ⟨hx, hb, hml, hown, hts⟩ (c_X0_addPerson l G Y h ad K (rnV tx ln pl ((K 0 0 * K 0 1) - 1)) (rnV tx ln (rnE tx ln pl) 4) (by omega)) (cwV 2 hts gX5_tellPerson_X0_addPerson rfl rfl rfl (by decide +kernel) ⟨Nat.le_of_ble_eq_true rfl, Nat.le_of_ble_eq_true rfl⟩) hK hP hD hS 0 rfl rfl (Eq.refl [h, ad 1, ad 2, ad 3, ad 4, ad 5, ad 6, ad 7]) rfl hl.1 rfl (Nat.le_of_ble_eq_true rfl) dX5_tellPerson_38 ⟨Nat.zero_le _, Nat.zero_le _⟩ (fun H locs hP hD hS => ?_)
      show W _ _ _ _ _ _ _ _ _ _ _ _ _ _ _ (F0 _ _ _ [])
      replace hP : va_P G vwCl [(h, .inr (0, [.int (iZ ((adP K (rnV tx ln pl ((K 0 0 * K 0 1) - 1)) (rnV tx ln (rnE tx ln pl) 4)) 0 0)), .int (iZ ((adP K (rnV tx ln pl ((K 0 0 * K 0 1) - 1)) (rnV tx ln (rnE tx ln pl) 4)) 0 1)), .int (iZ ((adP K (rnV tx ln pl ((K 0 0 * K 0 1) - 1)) (rnV tx ln (rnE tx ln pl) 4)) 0 2)), .int (iZ ((adP K (rnV tx ln pl ((K 0 0 * K 0 1) - 1)) (rnV tx ln (rnE tx ln pl) 4)) 0 3)), .int (iZ ((adP K (rnV tx ln pl ((K 0 0 * K 0 1) - 1)) (rnV tx ln (rnE tx ln pl) 4)) 0 4)), .int (iZ ((adP K (rnV tx ln pl ((K 0 0 * K 0 1) - 1)) (rnV tx ln (rnE tx ln pl) 4)) 0 5)), .int (iZ ((adP K (rnV tx ln pl ((K 0 0 * K 0 1) - 1)) (rnV tx ln (rnE tx ln pl) 4)) 0 6)), .ref (ad 1), .ref (ad 2), .ref (ad 3), .ref (ad 4), .ref (ad 5), .ref (ad 6), .ref (ad 7)])), (ad 1, .inl (Y 0, 6, .inl (aI ((adP K (rnV tx ln pl ((K 0 0 * K 0 1) - 1)) (rnV tx ln (rnE tx ln pl) 4)) 1)))), (ad 2, .inl (Y 0, 6, .inl (aI ((adP K (rnV tx ln pl ((K 0 0 * K 0 1) - 1)) (rnV tx ln (rnE tx ln pl) 4)) 2)))), (ad 3, .inl (Y 0, 6, .inl (aI ((adP K (rnV tx ln pl ((K 0 0 * K 0 1) - 1)) (rnV tx ln (rnE tx ln pl) 4)) 3)))), (ad 4, .inl (Y 1, 6, .inl (aI ((adP K (rnV tx ln pl ((K 0 0 * K 0 1) - 1)) (rnV tx ln (rnE tx ln pl) 4)) 4)))), (ad 5, .inl (Y 1, 6, .inl (aI ((adP K (rnV tx ln pl ((K 0 0 * K 0 1) - 1)) (rnV tx ln (rnE tx ln pl) 4)) 5)))), (ad 6, .inl (Y 0, 7, .inl (aI ((adP K (rnV tx ln pl ((K 0 0 * K 0 1) - 1)) (rnV tx ln (rnE tx ln pl) 4)) 6)))), (ad 7, .inl (Y 0, 7, .inl (aI ((adP K (rnV tx ln pl ((K 0 0 * K 0 1) - 1)) (rnV tx ln (rnE tx ln pl) 4)) 7)))), (h7, .inr (5, [.ref xa, .int (iZ ((ln : Nat) : Int)), .int (iZ ((rnE tx ln (rnE tx ln pl) : Nat) : Int)), .int (iZ (bZ su)), .int (iZ ((sk tx ln (rnE tx ln pl) : Nat) : Int)), .int (iZ (rnV tx ln (rnE tx ln pl) 4))])), (xa, .inl (Y 2, 200, .inl (aI tx)))] H := hP
      replace hD : va_D _ [(h, .inr (0, [.int (iZ ((adP K (rnV tx ln pl ((K 0 0 * K 0 1) - 1)) (rnV tx ln (rnE tx ln pl) 4)) 0 0)), .int (iZ ((adP K (rnV tx ln pl ((K 0 0 * K 0 1) - 1)) (rnV tx ln (rnE tx ln pl) 4)) 0 1)), .int (iZ ((adP K (rnV tx ln pl ((K 0 0 * K 0 1) - 1)) (rnV tx ln (rnE tx ln pl) 4)) 0 2)), .int (iZ ((adP K (rnV tx ln pl ((K 0 0 * K 0 1) - 1)) (rnV tx ln (rnE tx ln pl) 4)) 0 3)), .int (iZ ((adP K (rnV tx ln pl ((K 0 0 * K 0 1) - 1)) (rnV tx ln (rnE tx ln pl) 4)) 0 4)), .int (iZ ((adP K (rnV tx ln pl ((K 0 0 * K 0 1) - 1)) (rnV tx ln (rnE tx ln pl) 4)) 0 5)), .int (iZ ((adP K (rnV tx ln pl ((K 0 0 * K 0 1) - 1)) (rnV tx ln (rnE tx ln pl) 4)) 0 6)), .ref (ad 1), .ref (ad 2), .ref (ad 3), .ref (ad 4), .ref (ad 5), .ref (ad 6), .ref (ad 7)])), (ad 1, .inl (Y 0, 6, .inl (aI ((adP K (rnV tx ln pl ((K 0 0 * K 0 1) - 1)) (rnV tx ln (rnE tx ln pl) 4)) 1)))), (ad 2, .inl (Y 0, 6, .inl (aI ((adP K (rnV tx ln pl ((K 0 0 * K 0 1) - 1)) (rnV tx ln (rnE tx ln pl) 4)) 2)))), (ad 3, .inl (Y 0, 6, .inl (aI ((adP K (rnV tx ln pl ((K 0 0 * K 0 1) - 1)) (rnV tx ln (rnE tx ln pl) 4)) 3)))), (ad 4, .inl (Y 1, 6, .inl (aI ((adP K (rnV tx ln pl ((K 0 0 * K 0 1) - 1)) (rnV tx ln (rnE tx ln pl) 4)) 4)))), (ad 5, .inl (Y 1, 6, .inl (aI ((adP K (rnV tx ln pl ((K 0 0 * K 0 1) - 1)) (rnV tx ln (rnE tx ln pl) 4)) 5)))), (ad 6, .inl (Y 0, 7, .inl (aI ((adP K (rnV tx ln pl ((K 0 0 * K 0 1) - 1)) (rnV tx ln (rnE tx ln pl) 4)) 6)))), (ad 7, .inl (Y 0, 7, .inl (aI ((adP K (rnV tx ln pl ((K 0 0 * K 0 1) - 1)) (rnV tx ln (rnE tx ln pl) 4)) 7)))), (h7, .inr (5, [.ref xa, .int (iZ ((ln : Nat) : Int)), .int (iZ ((rnE tx ln (rnE tx ln pl) : Nat) : Int)), .int (iZ (bZ su)), .int (iZ ((sk tx ln (rnE tx ln pl) : Nat) : Int)), .int (iZ (rnV tx ln (rnE tx ln pl) 4))])), (xa, .inl (Y 2, 200, .inl (aI tx)))] := hD
      refine z_iconst hx hb dX5_tellPerson_41 ?_
      have e9 : tPers tx ln pl su K = (true, rnE tx ln (rnE tx ln pl), sk tx ln (rnE tx ln pl), rnV tx ln (rnE tx ln pl) 4, su, adP K (rnV tx ln pl (K 0 0 * K 0 1 - 1)) (rnV tx ln (rnE tx ln pl) 4)) := by unfold tPers; simp only [c_3, c_6, cond_true, cond_false]
      refine z_top (show 1 = bZ (tPers tx ln pl su K).1 from ?_) ?_
      · rw [e9]; rfl
      have hP9 : va_P G vwCl (txR Y h7 xa tx ln h ad (tPers tx ln pl su K)) H := by rw [e9]; exact hP.sub [8, 9, 0, 1, 2, 3, 4, 5, 6, 7] rfl
      exact W.zret (v := iZ (bZ (tPers tx ln pl su K).1)) hx hb hr (b01_nar (bZ_in _)) (fun t9 ht9 _ => ⟨rfl, by rw [ht9]; exact hP9, hS.F ht9⟩) hS.2.2 dX5_tellPerson_42
    · skip
      refine z_iconst hx hb dX5_tellPerson_30 ?_
      have e9 : tPers tx ln pl su K = (false, rnE tx ln (rnE tx ln pl), sk tx ln (rnE tx ln pl), rnV tx ln (rnE tx ln pl) 4, su, K) := by unfold tPers; simp only [c_3, c_6, cond_true, cond_false]
      refine z_top (show 0 = bZ (tPers tx ln pl su K).1 from ?_) ?_
      · rw [e9]; rfl
      have hP9 : va_P G vwCl (txR Y h7 xa tx ln h ad (tPers tx ln pl su K)) H := by rw [e9]; exact hP.sub [0, 1, 2, 3, 4, 5, 6, 7, 8, 9] rfl
      exact W.zret (v := iZ (bZ (tPers tx ln pl su K).1)) hx hb hr (b01_nar (bZ_in _)) (fun t9 ht9 _ => ⟨rfl, by rw [ht9]; exact hP9, hS.F ht9⟩) hS.2.2 dX5_tellPerson_31
  · skip
    refine z_iconst hx hb dX5_tellPerson_14 ?_
    have e9 : tPers tx ln pl su K = (false, rnE tx ln pl, sk tx ln pl, rnV tx ln pl ((K 0 0 * K 0 1) - 1), su, K) := by unfold tPers; simp only [c_3, cond_true, cond_false]
    refine z_top (show 0 = bZ (tPers tx ln pl su K).1 from ?_) ?_
    · rw [e9]; rfl
    have hP9 : va_P G vwCl (txR Y h7 xa tx ln h ad (tPers tx ln pl su K)) H := by rw [e9]; exact hP.sub [0, 1, 2, 3, 4, 5, 6, 7, 8, 9] rfl
    exact W.zret (v := iZ (bZ (tPers tx ln pl su K).1)) hx hb hr (b01_nar (bZ_in _)) (fun t9 ht9 _ => ⟨rfl, by rw [ht9]; exact hP9, hS.F ht9⟩) hS.2.2 dX5_tellPerson_15

set_option maxHeartbeats 4000000 in
set_option maxRecDepth 100000 in
theorem c_X5_tellSun (l : Launch) (G : va_G) (Y : Nat → ClassId) (h7 xa : Nat) (tx : Nat → Int) (hX : tX tx) (ln pl : Nat) (su : Bool) (tk : Nat) (nu : Int) (r : pl ≤ ln ∧ ln ≤ 200) (h : Nat) (ad : Nat → Nat) (K : Kom) : Met l yX5_tellSun wsX5_tellSun ({ frames := 2, cells := 0, slots := 0, locals := 46 }) (mP G Y [.ref h7, .ref h] (txW Y h7 xa tx ln pl su tk nu ++ cmW Y h ad K)) (mQ G (txW Y h7 xa tx ln pl su tk nu ++ cmW Y h ad K) (some (.int (iZ (bZ (tSun tx ln pl su K).1)))) (txR Y h7 xa tx ln h ad (tSun tx ln pl su K))) 0 0 (fun q => q ∈ List.map Prod.fst (txW Y h7 xa tx ln pl su tk nu ++ cmW Y h ad K)) := by
  refine Met.ofW (cc := cX5_tellSun) (maxL := 2) (ret := (some .boolean)) (by decide) rfl ?_
  intro p e s m args below meth c s₁ B hml hv
  obtain ⟨rfl, hK, hP, hD0⟩ := hv
  have hx := B.exec
  have hb := B.bytes
  have hr := B.returns
  have hts := atoms_spec (ws := wsX5_tellSun) B.pre
  have hown : s.vm.findClass RX5 = some m.cls := findClass_of_methodNamed B.named
  have hlocks := B.notSynchronized
  have hFX0 : ∀ w ∈ wsX00, w ∈ wsX5_tellSun := by decide +kernel
  have hFX5 : ∀ w ∈ wsX50, w ∈ wsX5_tellSun := by decide +kernel
  have kf68 := (hts (.fieldLink RX5 68 "ShadeVotes$Text" "number" "I") (by decide +kernel))
  have kf93 := (hts (.fieldLink RX5 93 "ShadeVotes$Commune" "sunlight" "I") (by decide +kernel))
  have kf27 := (hts (.fieldLink RX5 27 "ShadeVotes$Text" "isSunTold" "Z") (by decide +kernel))
  have hD := va_D_self hD0
  have hS : va_S (fun q => q ∈ List.map Prod.fst (txW Y h7 xa tx ln pl su tk nu ++ cmW Y h ad K)) s.heap s.heap [] := va_S.rf
  obtain ⟨H, hHe⟩ : ∃ H, H = s.heap := ⟨_, rfl⟩
  rw [← hHe] at hP
  replace hS : va_S (fun q => q ∈ List.map Prod.fst (txW Y h7 xa tx ln pl su tk nu ++ cmW Y h ad K)) s.heap H [] := by rw [hHe]; exact hS
  have hl := lv_entry ([.ref h7, .ref h]) (n := 2) (Nat.le_of_ble_eq_true rfl)
  rw [lg_entry_eq]
  generalize (lg_sl ([.ref h7, .ref h]) ++ List.replicate (2 - (lg_sl ([.ref h7, .ref h])).length) Slot.unset).toArray = ls at hl ⊢
  replace hl : lv_has ls 2 [(0, .ref h7), (1, .ref h)] := hl
  obtain ⟨locs, hLe⟩ : ∃ locs : List Loc, locs = [] := ⟨_, rfl⟩
  rw [← hLe] at hS ⊢
  have hW0 : ∀ {Q : State → Prop} {g : JFrame}, W p l e ({ frames := 2, cells := 0, slots := 0, locals := 46 }) s m [.ref h7, .ref h].toArray below meth c H locs 0 0 Q g → W p l e ({ frames := 2, cells := 0, slots := 0, locals := 46 }) s m [.ref h7, .ref h].toArray below meth c s.heap locs 0 0 Q g := fun h => by rw [← hHe]; exact h
  refine hW0 ?_
  clear hW0 hHe hLe
  refine lv_aload_n hx hb dX5_tellSun_0 rfl (lv_at hl 0 rfl) ?_
  refine z_iconst hx hb dX5_tellSun_1 ?_
  refine z_bipush hx hb dX5_tellSun_2 (by decide) ?_
  have hP := hP.sub (ws' := [(h7, .inr (5, [.ref xa, .int (iZ ((ln : Nat) : Int)), .int (iZ ((pl : Nat) : Int)), .int (iZ (bZ su)), .int (iZ ((tk : Nat) : Int)), .int (iZ nu)])), (xa, .inl (Y 2, 200, .inl (aI tx)))] ++ [(h, .inr (0, [.int (iZ (K 0 0)), .int (iZ (K 0 1)), .int (iZ (K 0 2)), .int (iZ (K 0 3)), .int (iZ (K 0 4)), .int (iZ (K 0 5)), .int (iZ (K 0 6)), .ref (ad 1), .ref (ad 2), .ref (ad 3), .ref (ad 4), .ref (ad 5), .ref (ad 6), .ref (ad 7)])), (ad 1, .inl (Y 0, 6, .inl (aI (K 1)))), (ad 2, .inl (Y 0, 6, .inl (aI (K 2)))), (ad 3, .inl (Y 0, 6, .inl (aI (K 3)))), (ad 4, .inl (Y 1, 6, .inl (aI (K 4)))), (ad 5, .inl (Y 1, 6, .inl (aI (K 5)))), (ad 6, .inl (Y 0, 7, .inl (aI (K 6)))), (ad 7, .inl (Y 0, 7, .inl (aI (K 7))))]) [0, 1, 2, 3, 4, 5, 6, 7, 8, 9] rfl
  have hD := hD.sub (ws' := [(h7, .inr (5, [.ref xa, .int (iZ ((ln : Nat) : Int)), .int (iZ ((pl : Nat) : Int)), .int (iZ (bZ su)), .int (iZ ((tk : Nat) : Int)), .int (iZ nu)])), (xa, .inl (Y 2, 200, .inl (aI tx)))] ++ [(h, .inr (0, [.int (iZ (K 0 0)), .int (iZ (K 0 1)), .int (iZ (K 0 2)), .int (iZ (K 0 3)), .int (iZ (K 0 4)), .int (iZ (K 0 5)), .int (iZ (K 0 6)), .ref (ad 1), .ref (ad 2), .ref (ad 3), .ref (ad 4), .ref (ad 5), .ref (ad 6), .ref (ad 7)])), (ad 1, .inl (Y 0, 6, .inl (aI (K 1)))), (ad 2, .inl (Y 0, 6, .inl (aI (K 2)))), (ad 3, .inl (Y 0, 6, .inl (aI (K 3)))), (ad 4, .inl (Y 1, 6, .inl (aI (K 4)))), (ad 5, .inl (Y 1, 6, .inl (aI (K 5)))), (ad 6, .inl (Y 0, 7, .inl (aI (K 6)))), (ad 7, .inl (Y 0, 7, .inl (aI (K 7))))]) [0, 1, 2, 3, 4, 5, 6, 7, 8, 9] (by decide) rfl
  refine mu_V (As := [.int (iZ 1), .int (iZ 9)]) (rest := []) (wc := [(h7, .inr (5, [.ref xa, .int (iZ ((ln : Nat) : Int)), .int (iZ ((pl : Nat) : Int)), .int (iZ (bZ su)), .int (iZ ((tk : Nat) : Int)), .int (iZ nu)])), (xa, .inl (Y 2, 200, .inl (aI tx)))]) (wc' := txW Y h7 xa tx ln (rnE tx ln pl) su (sk tx ln pl) (rnV tx ln pl 9)) (F := [(h, .inr (0, [.int (iZ (K 0 0)), .int (iZ (K 0 1)), .int (iZ (K 0 2)), .int (iZ (K 0 3)), .int (iZ (K 0 4)), .int (iZ (K 0 5)), .int (iZ (K 0 6)), .ref (ad 1), .ref (ad 2), .ref (ad 3), .ref (ad 4), .ref (ad 5), .ref (ad 6), .ref (ad 7)])), (ad 1, .inl (Y 0, 6, .inl (aI (K 1)))), (ad 2, .inl (Y 0, 6, .inl (aI (K 2)))), (ad 3, .inl (Y 0, 6, .inl (aI (K 3)))), (ad 4, .inl (Y 1, 6, .inl (aI (K 4)))), (ad 5, .inl (Y 1, 6, .inl (aI (K 5)))), (ad 6, .inl (Y 0, 7, .inl (aI (K 6)))), (ad 7, .inl (Y 0, 7, .inl (aI (K 7))))]) ⟨hx, hb, hml, hown, hts⟩ (c_X5_readNumber l G Y h7 xa tx hX ln pl su tk nu (by omega) 1 9 (by omega)) (cwV 2 hts gX5_tellSun_X5_readNumber rfl rfl rfl (by decide +kernel) ⟨Nat.le_of_ble_eq_true rfl, Nat.le_of_ble_eq_true rfl⟩) hK hP hD hS 0 rfl rfl (Eq.refl [h7, xa]) rfl hl.1 rfl (Nat.le_of_ble_eq_true rfl) dX5_tellSun_4 ⟨Nat.zero_le _, Nat.zero_le _⟩ (fun H locs hP hD hS => ?_)
  show W _ _ _ _ _ _ _ _ _ _ _ _ _ _ _ (F0 _ _ _ [.int (iZ (bZ (rnO tx ln pl 1 9)))])
  replace hP : va_P G vwCl [(h7, .inr (5, [.ref xa, .int (iZ ((ln : Nat) : Int)), .int (iZ ((rnE tx ln pl : Nat) : Int)), .int (iZ (bZ su)), .int (iZ ((sk tx ln pl : Nat) : Int)), .int (iZ (rnV tx ln pl 9))])), (xa, .inl (Y 2, 200, .inl (aI tx))), (h, .inr (0, [.int (iZ (K 0 0)), .int (iZ (K 0 1)), .int (iZ (K 0 2)), .int (iZ (K 0 3)), .int (iZ (K 0 4)), .int (iZ (K 0 5)), .int (iZ (K 0 6)), .ref (ad 1), .ref (ad 2), .ref (ad 3), .ref (ad 4), .ref (ad 5), .ref (ad 6), .ref (ad 7)])), (ad 1, .inl (Y 0, 6, .inl (aI (K 1)))), (ad 2, .inl (Y 0, 6, .inl (aI (K 2)))), (ad 3, .inl (Y 0, 6, .inl (aI (K 3)))), (ad 4, .inl (Y 1, 6, .inl (aI (K 4)))), (ad 5, .inl (Y 1, 6, .inl (aI (K 5)))), (ad 6, .inl (Y 0, 7, .inl (aI (K 6)))), (ad 7, .inl (Y 0, 7, .inl (aI (K 7))))] H := hP
  replace hD : va_D _ [(h7, .inr (5, [.ref xa, .int (iZ ((ln : Nat) : Int)), .int (iZ ((rnE tx ln pl : Nat) : Int)), .int (iZ (bZ su)), .int (iZ ((sk tx ln pl : Nat) : Int)), .int (iZ (rnV tx ln pl 9))])), (xa, .inl (Y 2, 200, .inl (aI tx))), (h, .inr (0, [.int (iZ (K 0 0)), .int (iZ (K 0 1)), .int (iZ (K 0 2)), .int (iZ (K 0 3)), .int (iZ (K 0 4)), .int (iZ (K 0 5)), .int (iZ (K 0 6)), .ref (ad 1), .ref (ad 2), .ref (ad 3), .ref (ad 4), .ref (ad 5), .ref (ad 6), .ref (ad 7)])), (ad 1, .inl (Y 0, 6, .inl (aI (K 1)))), (ad 2, .inl (Y 0, 6, .inl (aI (K 2)))), (ad 3, .inl (Y 0, 6, .inl (aI (K 3)))), (ad 4, .inl (Y 1, 6, .inl (aI (K 4)))), (ad 5, .inl (Y 1, 6, .inl (aI (K 5)))), (ad 6, .inl (Y 0, 7, .inl (aI (K 6)))), (ad 7, .inl (Y 0, 7, .inl (aI (K 7))))] := hD
  have hb_1 := rnE_in (tx := tx) (ln := ln) (q := pl) (by omega)
  have hb_2 := rnV_in (tx := tx) (ln := ln) (q := pl) (hi := 9) (by omega)
  refine z_ifb_ne (tgt := 12) hx hb dX5_tellSun_7 (by decide) (fun c_3 => ?_) (fun c_3 => ?_)
  · skip
    refine lv_aload_n hx hb dX5_tellSun_12 rfl (lv_at hl 1 rfl) ?_
    refine lv_aload_n hx hb dX5_tellSun_13 rfl (lv_at hl 0 rfl) ?_
    refine va_get (D := G) (ci := 5) (v := .int (iZ (rnV tx ln pl 9))) (C := RX5) (T := TX5) (N := 6) hx hb hts hFX5 hown hK.1 hP 0 rfl rfl 5 (by decide) kf68 (fun _ h9 => h9) rfl dX5_tellSun_14 ?_
    refine va_put (D := G) (ci := 0) (v := .int (iZ (rnV tx ln pl 9))) (ty := .int) (C := RX0) (T := TX0) (N := 14) hx hb hts hFX0 tyX0 tyX0_ok nmX0 hown hK.1 hP hD hS 2 rfl rfl 4 (by decide) kf93 (fun _ h9 => h9) rfl (by decide +kernel) rfl rfl (Nat.le_of_ble_eq_true rfl) dX5_tellSun_17 (fun H locs hP hD hS => ?_)
    replace hP : va_P G vwCl [(h7, .inr (5, [.ref xa, .int (iZ ((ln : Nat) : Int)), .int (iZ ((rnE tx ln pl : Nat) : Int)), .int (iZ (bZ su)), .int (iZ ((sk tx ln pl : Nat) : Int)), .int (iZ (rnV tx ln pl 9))])), (xa, .inl (Y 2, 200, .inl (aI tx))), (h, .inr (0, [.int (iZ (K 0 0)), .int (iZ (K 0 1)), .int (iZ (K 0 2)), .int (iZ (K 0 3)), .int (iZ (rnV tx ln pl 9)), .int (iZ (K 0 5)), .int (iZ (K 0 6)), .ref (ad 1), .ref (ad 2), .ref (ad 3), .ref (ad 4), .ref (ad 5), .ref (ad 6), .ref (ad 7)])), (ad 1, .inl (Y 0, 6, .inl (aI (K 1)))), (ad 2, .inl (Y 0, 6, .inl (aI (K 2)))), (ad 3, .inl (Y 0, 6, .inl (aI (K 3)))), (ad 4, .inl (Y 1, 6, .inl (aI (K 4)))), (ad 5, .inl (Y 1, 6, .inl (aI (K 5)))), (ad 6, .inl (Y 0, 7, .inl (aI (K 6)))), (ad 7, .inl (Y 0, 7, .inl (aI (K 7))))] H := hP
    replace hD : va_D _ [(h7, .inr (5, [.ref xa, .int (iZ ((ln : Nat) : Int)), .int (iZ ((rnE tx ln pl : Nat) : Int)), .int (iZ (bZ su)), .int (iZ ((sk tx ln pl : Nat) : Int)), .int (iZ (rnV tx ln pl 9))])), (xa, .inl (Y 2, 200, .inl (aI tx))), (h, .inr (0, [.int (iZ (K 0 0)), .int (iZ (K 0 1)), .int (iZ (K 0 2)), .int (iZ (K 0 3)), .int (iZ (rnV tx ln pl 9)), .int (iZ (K 0 5)), .int (iZ (K 0 6)), .ref (ad 1), .ref (ad 2), .ref (ad 3), .ref (ad 4), .ref (ad 5), .ref (ad 6), .ref (ad 7)])), (ad 1, .inl (Y 0, 6, .inl (aI (K 1)))), (ad 2, .inl (Y 0, 6, .inl (aI (K 2)))), (ad 3, .inl (Y 0, 6, .inl (aI (K 3)))), (ad 4, .inl (Y 1, 6, .inl (aI (K 4)))), (ad 5, .inl (Y 1, 6, .inl (aI (K 5)))), (ad 6, .inl (Y 0, 7, .inl (aI (K 6)))), (ad 7, .inl (Y 0, 7, .inl (aI (K 7))))] := hD
    refine lv_aload_n hx hb dX5_tellSun_20 rfl (lv_at hl 0 rfl) ?_
    refine z_iconst hx hb dX5_tellSun_21 ?_
    refine z_top (show 1 = bZ true from rfl) ?_
    refine va_put (D := G) (ci := 5) (v := .int (iZ (bZ true))) (ty := .boolean) (C := RX5) (T := TX5) (N := 6) hx hb hts hFX5 tyX5 tyX5_ok nmX5 hown hK.1 hP hD hS 0 rfl rfl 3 (by decide) kf27 (fun _ h9 => h9) rfl (by decide +kernel) (bZ_nar _) (bZ_fit _) (Nat.le_of_ble_eq_true rfl) dX5_tellSun_22 (fun H locs hP hD hS => ?_)
    replace hP : va_P G vwCl [(h7, .inr (5, [.ref xa, .int (iZ ((ln : Nat) : Int)), .int (iZ ((rnE tx ln pl : Nat) : Int)), .int (iZ (bZ true)), .int (iZ ((sk tx ln pl : Nat) : Int)), .int (iZ (rnV tx ln pl 9))])), (xa, .inl (Y 2, 200, .inl (aI tx))), (h, .inr (0, [.int (iZ (K 0 0)), .int (iZ (K 0 1)), .int (iZ (K 0 2)), .int (iZ (K 0 3)), .int (iZ (rnV tx ln pl 9)), .int (iZ (K 0 5)), .int (iZ (K 0 6)), .ref (ad 1), .ref (ad 2), .ref (ad 3), .ref (ad 4), .ref (ad 5), .ref (ad 6), .ref (ad 7)])), (ad 1, .inl (Y 0, 6, .inl (aI (K 1)))), (ad 2, .inl (Y 0, 6, .inl (aI (K 2)))), (ad 3, .inl (Y 0, 6, .inl (aI (K 3)))), (ad 4, .inl (Y 1, 6, .inl (aI (K 4)))), (ad 5, .inl (Y 1, 6, .inl (aI (K 5)))), (ad 6, .inl (Y 0, 7, .inl (aI (K 6)))), (ad 7, .inl (Y 0, 7, .inl (aI (K 7))))] H := hP
    replace hD : va_D _ [(h7, .inr (5, [.ref xa, .int (iZ ((ln : Nat) : Int)), .int (iZ ((rnE tx ln pl : Nat) : Int)), .int (iZ (bZ true)), .int (iZ ((sk tx ln pl : Nat) : Int)), .int (iZ (rnV tx ln pl 9))])), (xa, .inl (Y 2, 200, .inl (aI tx))), (h, .inr (0, [.int (iZ (K 0 0)), .int (iZ (K 0 1)), .int (iZ (K 0 2)), .int (iZ (K 0 3)), .int (iZ (rnV tx ln pl 9)), .int (iZ (K 0 5)), .int (iZ (K 0 6)), .ref (ad 1), .ref (ad 2), .ref (ad 3), .ref (ad 4), .ref (ad 5), .ref (ad 6), .ref (ad 7)])), (ad 1, .inl (Y 0, 6, .inl (aI (K 1)))), (ad 2, .inl (Y 0, 6, .inl (aI (K 2)))), (ad 3, .inl (Y 0, 6, .inl (aI (K 3)))), (ad 4, .inl (Y 1, 6, .inl (aI (K 4)))), (ad 5, .inl (Y 1, 6, .inl (aI (K 5)))), (ad 6, .inl (Y 0, 7, .inl (aI (K 6)))), (ad 7, .inl (Y 0, 7, .inl (aI (K 7))))] := hD
    refine z_iconst hx hb dX5_tellSun_25 ?_
    have e9 : tSun tx ln pl su K = (true, rnE tx ln pl, sk tx ln pl, rnV tx ln pl 9, true, kS K 0 4 (rnV tx ln pl 9)) := by unfold tSun; simp only [c_3, cond_true, cond_false]
    refine z_top (show 1 = bZ (tSun tx ln pl su K).1 from ?_) ?_
    · rw [e9]; rfl
    have hP9 : va_P G vwCl (txR Y h7 xa tx ln h ad (tSun tx ln pl su K)) H := by rw [e9]; exact hP.sub [0, 1, 2, 3, 4, 5, 6, 7, 8, 9] rfl
    exact W.zret (v := iZ (bZ (tSun tx ln pl su K).1)) hx hb hr (b01_nar (bZ_in _)) (fun t9 ht9 _ => ⟨rfl, by rw [ht9]; exact hP9, hS.F ht9⟩) hS.2.2 dX5_tellSun_26
  · skip
    refine z_iconst hx hb dX5_tellSun_10 ?_
    have e9 : tSun tx ln pl su K = (false, rnE tx ln pl, sk tx ln pl, rnV tx ln pl 9, su, K) := by unfold tSun; simp only [c_3, cond_true, cond_false]
    refine z_top (show 0 = bZ (tSun tx ln pl su K).1 from ?_) ?_
    · rw [e9]; rfl
    have hP9 : va_P G vwCl (txR Y h7 xa tx ln h ad (tSun tx ln pl su K)) H := by rw [e9]; exact hP.sub [0, 1, 2, 3, 4, 5, 6, 7, 8, 9] rfl
    exact W.zret (v := iZ (bZ (tSun tx ln pl su K).1)) hx hb hr (b01_nar (bZ_in _)) (fun t9 ht9 _ => ⟨rfl, by rw [ht9]; exact hP9, hS.F ht9⟩) hS.2.2 dX5_tellSun_11

set_option maxHeartbeats 4000000 in
set_option maxRecDepth 100000 in
theorem c_X5_tellItem (l : Launch) (G : va_G) (Y : Nat → ClassId) (h7 xa : Nat) (tx : Nat → Int) (hX : tX tx) (ln pl : Nat) (su : Bool) (tk : Nat) (nu : Int) (r : pl ≤ ln ∧ ln ≤ 200) (h : Nat) (ad : Nat → Nat) (K : Kom) (hW : cWF K) (r5 : K 0 2 ≤ 5 ∧ K 0 3 ≤ 7) (fi : Bool) : Met l yX5_tellItem wsX5_tellItem ({ frames := 3, cells := 0, slots := 0, locals := 70 }) (mP G Y [.ref h7, .ref h, .int (iZ (bZ fi))] (txW Y h7 xa tx ln pl su tk nu ++ cmW Y h ad K)) (mQ G (txW Y h7 xa tx ln pl su tk nu ++ cmW Y h ad K) (some (.int (iZ (bZ (tItem tx ln pl su nu K fi).1)))) (txR Y h7 xa tx ln h ad (tItem tx ln pl su nu K fi))) 0 0 (fun q => q ∈ List.map Prod.fst (txW Y h7 xa tx ln pl su tk nu ++ cmW Y h ad K)) := by
  refine Met.ofW (cc := cX5_tellItem) (maxL := 3) (ret := (some .boolean)) (by decide) rfl ?_
  intro p e s m args below meth c s₁ B hml hv
  obtain ⟨rfl, hK, hP, hD0⟩ := hv
  have hx := B.exec
  have hb := B.bytes
  have hr := B.returns
  have hts := atoms_spec (ws := wsX5_tellItem) B.pre
  have hown : s.vm.findClass RX5 = some m.cls := findClass_of_methodNamed B.named
  have hlocks := B.notSynchronized
  have hFX0 : ∀ w ∈ wsX00, w ∈ wsX5_tellItem := by decide +kernel
  have hFX5 : ∀ w ∈ wsX50, w ∈ wsX5_tellItem := by decide +kernel
  have kf27 := (hts (.fieldLink RX5 27 "ShadeVotes$Text" "isSunTold" "Z") (by decide +kernel))
  have kf55 := (hts (.fieldLink RX5 55 "ShadeVotes$Commune" "people" "I") (by decide +kernel))
  have kf49 := (hts (.fieldLink RX5 49 "ShadeVotes$Commune" "trees" "I") (by decide +kernel))
  have hD := va_D_self hD0
  have hS : va_S (fun q => q ∈ List.map Prod.fst (txW Y h7 xa tx ln pl su tk nu ++ cmW Y h ad K)) s.heap s.heap [] := va_S.rf
  obtain ⟨H, hHe⟩ : ∃ H, H = s.heap := ⟨_, rfl⟩
  rw [← hHe] at hP
  replace hS : va_S (fun q => q ∈ List.map Prod.fst (txW Y h7 xa tx ln pl su tk nu ++ cmW Y h ad K)) s.heap H [] := by rw [hHe]; exact hS
  have hl := lv_entry ([.ref h7, .ref h, .int (iZ (bZ fi))]) (n := 3) (Nat.le_of_ble_eq_true rfl)
  rw [lg_entry_eq]
  generalize (lg_sl ([.ref h7, .ref h, .int (iZ (bZ fi))]) ++ List.replicate (3 - (lg_sl ([.ref h7, .ref h, .int (iZ (bZ fi))])).length) Slot.unset).toArray = ls at hl ⊢
  replace hl : lv_has ls 3 [(0, .ref h7), (1, .ref h), (2, .int (iZ (bZ fi)))] := hl
  obtain ⟨locs, hLe⟩ : ∃ locs : List Loc, locs = [] := ⟨_, rfl⟩
  rw [← hLe] at hS ⊢
  have hW0 : ∀ {Q : State → Prop} {g : JFrame}, W p l e ({ frames := 3, cells := 0, slots := 0, locals := 70 }) s m [.ref h7, .ref h, .int (iZ (bZ fi))].toArray below meth c H locs 0 0 Q g → W p l e ({ frames := 3, cells := 0, slots := 0, locals := 70 }) s m [.ref h7, .ref h, .int (iZ (bZ fi))].toArray below meth c s.heap locs 0 0 Q g := fun h => by rw [← hHe]; exact h
  refine hW0 ?_
  clear hW0 hHe hLe
  have h0 := hW.1
  have hnc := hW.nc
  refine lv_aload_n hx hb dX5_tellItem_0 rfl (lv_at hl 0 rfl) ?_
  refine z_bipush hx hb dX5_tellItem_1 (by decide) ?_
  have hP := hP.sub (ws' := [(h7, .inr (5, [.ref xa, .int (iZ ((ln : Nat) : Int)), .int (iZ ((pl : Nat) : Int)), .int (iZ (bZ su)), .int (iZ ((tk : Nat) : Int)), .int (iZ nu)])), (xa, .inl (Y 2, 200, .inl (aI tx)))] ++ [(h, .inr (0, [.int (iZ (K 0 0)), .int (iZ (K 0 1)), .int (iZ (K 0 2)), .int (iZ (K 0 3)), .int (iZ (K 0 4)), .int (iZ (K 0 5)), .int (iZ (K 0 6)), .ref (ad 1), .ref (ad 2), .ref (ad 3), .ref (ad 4), .ref (ad 5), .ref (ad 6), .ref (ad 7)])), (ad 1, .inl (Y 0, 6, .inl (aI (K 1)))), (ad 2, .inl (Y 0, 6, .inl (aI (K 2)))), (ad 3, .inl (Y 0, 6, .inl (aI (K 3)))), (ad 4, .inl (Y 1, 6, .inl (aI (K 4)))), (ad 5, .inl (Y 1, 6, .inl (aI (K 5)))), (ad 6, .inl (Y 0, 7, .inl (aI (K 6)))), (ad 7, .inl (Y 0, 7, .inl (aI (K 7))))]) [0, 1, 2, 3, 4, 5, 6, 7, 8, 9] rfl
  have hD := hD.sub (ws' := [(h7, .inr (5, [.ref xa, .int (iZ ((ln : Nat) : Int)), .int (iZ ((pl : Nat) : Int)), .int (iZ (bZ su)), .int (iZ ((tk : Nat) : Int)), .int (iZ nu)])), (xa, .inl (Y 2, 200, .inl (aI tx)))] ++ [(h, .inr (0, [.int (iZ (K 0 0)), .int (iZ (K 0 1)), .int (iZ (K 0 2)), .int (iZ (K 0 3)), .int (iZ (K 0 4)), .int (iZ (K 0 5)), .int (iZ (K 0 6)), .ref (ad 1), .ref (ad 2), .ref (ad 3), .ref (ad 4), .ref (ad 5), .ref (ad 6), .ref (ad 7)])), (ad 1, .inl (Y 0, 6, .inl (aI (K 1)))), (ad 2, .inl (Y 0, 6, .inl (aI (K 2)))), (ad 3, .inl (Y 0, 6, .inl (aI (K 3)))), (ad 4, .inl (Y 1, 6, .inl (aI (K 4)))), (ad 5, .inl (Y 1, 6, .inl (aI (K 5)))), (ad 6, .inl (Y 0, 7, .inl (aI (K 6)))), (ad 7, .inl (Y 0, 7, .inl (aI (K 7))))]) [0, 1, 2, 3, 4, 5, 6, 7, 8, 9] (by decide) rfl
  refine mu_V (As := [.int (iZ 103)]) (rest := []) (wc := [(h7, .inr (5, [.ref xa, .int (iZ ((ln : Nat) : Int)), .int (iZ ((pl : Nat) : Int)), .int (iZ (bZ su)), .int (iZ ((tk : Nat) : Int)), .int (iZ nu)])), (xa, .inl (Y 2, 200, .inl (aI tx)))]) (wc' := txW Y h7 xa tx ln (sgE tx ln pl 103) su (sk tx ln pl) nu) (F := [(h, .inr (0, [.int (iZ (K 0 0)), .int (iZ (K 0 1)), .int (iZ (K 0 2)), .int (iZ (K 0 3)), .int (iZ (K 0 4)), .int (iZ (K 0 5)), .int (iZ (K 0 6)), .ref (ad 1), .ref (ad 2), .ref (ad 3), .ref (ad 4), .ref (ad 5), .ref (ad 6), .ref (ad 7)])), (ad 1, .inl (Y 0, 6, .inl (aI (K 1)))), (ad 2, .inl (Y 0, 6, .inl (aI (K 2)))), (ad 3, .inl (Y 0, 6, .inl (aI (K 3)))), (ad 4, .inl (Y 1, 6, .inl (aI (K 4)))), (ad 5, .inl (Y 1, 6, .inl (aI (K 5)))), (ad 6, .inl (Y 0, 7, .inl (aI (K 6)))), (ad 7, .inl (Y 0, 7, .inl (aI (K 7))))]) ⟨hx, hb, hml, hown, hts⟩ (c_X5_readSign l G Y h7 xa tx hX ln pl su tk nu (by omega) 103 (by omega)) (cwV 1 hts gX5_tellItem_X5_readSign rfl rfl rfl (by decide +kernel) ⟨Nat.le_of_ble_eq_true rfl, Nat.le_of_ble_eq_true rfl⟩) hK hP hD hS 0 rfl rfl (Eq.refl [h7, xa]) rfl hl.1 rfl (Nat.le_of_ble_eq_true rfl) dX5_tellItem_3 ⟨Nat.zero_le _, Nat.zero_le _⟩ (fun H locs hP hD hS => ?_)
  show W _ _ _ _ _ _ _ _ _ _ _ _ _ _ _ (F0 _ _ _ [.int (iZ (bZ (sgO tx ln pl 103)))])
  replace hP : va_P G vwCl [(h7, .inr (5, [.ref xa, .int (iZ ((ln : Nat) : Int)), .int (iZ ((sgE tx ln pl 103 : Nat) : Int)), .int (iZ (bZ su)), .int (iZ ((sk tx ln pl : Nat) : Int)), .int (iZ nu)])), (xa, .inl (Y 2, 200, .inl (aI tx))), (h, .inr (0, [.int (iZ (K 0 0)), .int (iZ (K 0 1)), .int (iZ (K 0 2)), .int (iZ (K 0 3)), .int (iZ (K 0 4)), .int (iZ (K 0 5)), .int (iZ (K 0 6)), .ref (ad 1), .ref (ad 2), .ref (ad 3), .ref (ad 4), .ref (ad 5), .ref (ad 6), .ref (ad 7)])), (ad 1, .inl (Y 0, 6, .inl (aI (K 1)))), (ad 2, .inl (Y 0, 6, .inl (aI (K 2)))), (ad 3, .inl (Y 0, 6, .inl (aI (K 3)))), (ad 4, .inl (Y 1, 6, .inl (aI (K 4)))), (ad 5, .inl (Y 1, 6, .inl (aI (K 5)))), (ad 6, .inl (Y 0, 7, .inl (aI (K 6)))), (ad 7, .inl (Y 0, 7, .inl (aI (K 7))))] H := hP
  replace hD : va_D _ [(h7, .inr (5, [.ref xa, .int (iZ ((ln : Nat) : Int)), .int (iZ ((sgE tx ln pl 103 : Nat) : Int)), .int (iZ (bZ su)), .int (iZ ((sk tx ln pl : Nat) : Int)), .int (iZ nu)])), (xa, .inl (Y 2, 200, .inl (aI tx))), (h, .inr (0, [.int (iZ (K 0 0)), .int (iZ (K 0 1)), .int (iZ (K 0 2)), .int (iZ (K 0 3)), .int (iZ (K 0 4)), .int (iZ (K 0 5)), .int (iZ (K 0 6)), .ref (ad 1), .ref (ad 2), .ref (ad 3), .ref (ad 4), .ref (ad 5), .ref (ad 6), .ref (ad 7)])), (ad 1, .inl (Y 0, 6, .inl (aI (K 1)))), (ad 2, .inl (Y 0, 6, .inl (aI (K 2)))), (ad 3, .inl (Y 0, 6, .inl (aI (K 3)))), (ad 4, .inl (Y 1, 6, .inl (aI (K 4)))), (ad 5, .inl (Y 1, 6, .inl (aI (K 5)))), (ad 6, .inl (Y 0, 7, .inl (aI (K 6)))), (ad 7, .inl (Y 0, 7, .inl (aI (K 7))))] := hD
  have hb_1 := sk_in (tx := tx) (ln := ln) (q := pl) (by omega)
  have hb_2 := sgE_in (tx := tx) (ln := ln) (q := pl) 103 (by omega)
  refine z_ifb_eq (tgt := 27) hx hb dX5_tellItem_6 (by decide) (fun c_3 => ?_) (fun c_3 => ?_)
  · skip
    refine lv_aload_n hx hb dX5_tellItem_27 rfl (lv_at hl 0 rfl) ?_
    refine z_bipush hx hb dX5_tellItem_28 (by decide) ?_
    have hP := hP.sub (ws' := [(h7, .inr (5, [.ref xa, .int (iZ ((ln : Nat) : Int)), .int (iZ ((sgE tx ln pl 103 : Nat) : Int)), .int (iZ (bZ su)), .int (iZ ((sk tx ln pl : Nat) : Int)), .int (iZ nu)])), (xa, .inl (Y 2, 200, .inl (aI tx)))] ++ [(h, .inr (0, [.int (iZ (K 0 0)), .int (iZ (K 0 1)), .int (iZ (K 0 2)), .int (iZ (K 0 3)), .int (iZ (K 0 4)), .int (iZ (K 0 5)), .int (iZ (K 0 6)), .ref (ad 1), .ref (ad 2), .ref (ad 3), .ref (ad 4), .ref (ad 5), .ref (ad 6), .ref (ad 7)])), (ad 1, .inl (Y 0, 6, .inl (aI (K 1)))), (ad 2, .inl (Y 0, 6, .inl (aI (K 2)))), (ad 3, .inl (Y 0, 6, .inl (aI (K 3)))), (ad 4, .inl (Y 1, 6, .inl (aI (K 4)))), (ad 5, .inl (Y 1, 6, .inl (aI (K 5)))), (ad 6, .inl (Y 0, 7, .inl (aI (K 6)))), (ad 7, .inl (Y 0, 7, .inl (aI (K 7))))]) [0, 1, 2, 3, 4, 5, 6, 7, 8, 9] rfl
    have hD := hD.sub (ws' := [(h7, .inr (5, [.ref xa, .int (iZ ((ln : Nat) : Int)), .int (iZ ((sgE tx ln pl 103 : Nat) : Int)), .int (iZ (bZ su)), .int (iZ ((sk tx ln pl : Nat) : Int)), .int (iZ nu)])), (xa, .inl (Y 2, 200, .inl (aI tx)))] ++ [(h, .inr (0, [.int (iZ (K 0 0)), .int (iZ (K 0 1)), .int (iZ (K 0 2)), .int (iZ (K 0 3)), .int (iZ (K 0 4)), .int (iZ (K 0 5)), .int (iZ (K 0 6)), .ref (ad 1), .ref (ad 2), .ref (ad 3), .ref (ad 4), .ref (ad 5), .ref (ad 6), .ref (ad 7)])), (ad 1, .inl (Y 0, 6, .inl (aI (K 1)))), (ad 2, .inl (Y 0, 6, .inl (aI (K 2)))), (ad 3, .inl (Y 0, 6, .inl (aI (K 3)))), (ad 4, .inl (Y 1, 6, .inl (aI (K 4)))), (ad 5, .inl (Y 1, 6, .inl (aI (K 5)))), (ad 6, .inl (Y 0, 7, .inl (aI (K 6)))), (ad 7, .inl (Y 0, 7, .inl (aI (K 7))))]) [0, 1, 2, 3, 4, 5, 6, 7, 8, 9] (by decide) rfl
    refine mu_V (As := [.int (iZ 116)]) (rest := []) (wc := [(h7, .inr (5, [.ref xa, .int (iZ ((ln : Nat) : Int)), .int (iZ ((sgE tx ln pl 103 : Nat) : Int)), .int (iZ (bZ su)), .int (iZ ((sk tx ln pl : Nat) : Int)), .int (iZ nu)])), (xa, .inl (Y 2, 200, .inl (aI tx)))]) (wc' := txW Y h7 xa tx ln (sgE tx ln (sgE tx ln pl 103) 116) su (sk tx ln (sgE tx ln pl 103)) nu) (F := [(h, .inr (0, [.int (iZ (K 0 0)), .int (iZ (K 0 1)), .int (iZ (K 0 2)), .int (iZ (K 0 3)), .int (iZ (K 0 4)), .int (iZ (K 0 5)), .int (iZ (K 0 6)), .ref (ad 1), .ref (ad 2), .ref (ad 3), .ref (ad 4), .ref (ad 5), .ref (ad 6), .ref (ad 7)])), (ad 1, .inl (Y 0, 6, .inl (aI (K 1)))), (ad 2, .inl (Y 0, 6, .inl (aI (K 2)))), (ad 3, .inl (Y 0, 6, .inl (aI (K 3)))), (ad 4, .inl (Y 1, 6, .inl (aI (K 4)))), (ad 5, .inl (Y 1, 6, .inl (aI (K 5)))), (ad 6, .inl (Y 0, 7, .inl (aI (K 6)))), (ad 7, .inl (Y 0, 7, .inl (aI (K 7))))]) ⟨hx, hb, hml, hown, hts⟩ (c_X5_readSign l G Y h7 xa tx hX ln (sgE tx ln pl 103) su (sk tx ln pl) nu (by omega) 116 (by omega)) (cwV 1 hts gX5_tellItem_X5_readSign rfl rfl rfl (by decide +kernel) ⟨Nat.le_of_ble_eq_true rfl, Nat.le_of_ble_eq_true rfl⟩) hK hP hD hS 0 rfl rfl (Eq.refl [h7, xa]) rfl hl.1 rfl (Nat.le_of_ble_eq_true rfl) dX5_tellItem_30 ⟨Nat.zero_le _, Nat.zero_le _⟩ (fun H locs hP hD hS => ?_)
    show W _ _ _ _ _ _ _ _ _ _ _ _ _ _ _ (F0 _ _ _ [.int (iZ (bZ (sgO tx ln (sgE tx ln pl 103) 116)))])
    replace hP : va_P G vwCl [(h7, .inr (5, [.ref xa, .int (iZ ((ln : Nat) : Int)), .int (iZ ((sgE tx ln (sgE tx ln pl 103) 116 : Nat) : Int)), .int (iZ (bZ su)), .int (iZ ((sk tx ln (sgE tx ln pl 103) : Nat) : Int)), .int (iZ nu)])), (xa, .inl (Y 2, 200, .inl (aI tx))), (h, .inr (0, [.int (iZ (K 0 0)), .int (iZ (K 0 1)), .int (iZ (K 0 2)), .int (iZ (K 0 3)), .int (iZ (K 0 4)), .int (iZ (K 0 5)), .int (iZ (K 0 6)), .ref (ad 1), .ref (ad 2), .ref (ad 3), .ref (ad 4), .ref (ad 5), .ref (ad 6), .ref (ad 7)])), (ad 1, .inl (Y 0, 6, .inl (aI (K 1)))), (ad 2, .inl (Y 0, 6, .inl (aI (K 2)))), (ad 3, .inl (Y 0, 6, .inl (aI (K 3)))), (ad 4, .inl (Y 1, 6, .inl (aI (K 4)))), (ad 5, .inl (Y 1, 6, .inl (aI (K 5)))), (ad 6, .inl (Y 0, 7, .inl (aI (K 6)))), (ad 7, .inl (Y 0, 7, .inl (aI (K 7))))] H := hP
    replace hD : va_D _ [(h7, .inr (5, [.ref xa, .int (iZ ((ln : Nat) : Int)), .int (iZ ((sgE tx ln (sgE tx ln pl 103) 116 : Nat) : Int)), .int (iZ (bZ su)), .int (iZ ((sk tx ln (sgE tx ln pl 103) : Nat) : Int)), .int (iZ nu)])), (xa, .inl (Y 2, 200, .inl (aI tx))), (h, .inr (0, [.int (iZ (K 0 0)), .int (iZ (K 0 1)), .int (iZ (K 0 2)), .int (iZ (K 0 3)), .int (iZ (K 0 4)), .int (iZ (K 0 5)), .int (iZ (K 0 6)), .ref (ad 1), .ref (ad 2), .ref (ad 3), .ref (ad 4), .ref (ad 5), .ref (ad 6), .ref (ad 7)])), (ad 1, .inl (Y 0, 6, .inl (aI (K 1)))), (ad 2, .inl (Y 0, 6, .inl (aI (K 2)))), (ad 3, .inl (Y 0, 6, .inl (aI (K 3)))), (ad 4, .inl (Y 1, 6, .inl (aI (K 4)))), (ad 5, .inl (Y 1, 6, .inl (aI (K 5)))), (ad 6, .inl (Y 0, 7, .inl (aI (K 6)))), (ad 7, .inl (Y 0, 7, .inl (aI (K 7))))] := hD
    have hb_4 := sk_in (tx := tx) (ln := ln) (q := sgE tx ln pl 103) (by omega)
    have hb_5 := sgE_in (tx := tx) (ln := ln) (q := sgE tx ln pl 103) 116 (by omega)
    refine z_ifb_eq (tgt := 58) hx hb dX5_tellItem_33 (by decide) (fun c_6 => ?_) (fun c_6 => ?_)
    · skip
      refine lv_aload_n hx hb dX5_tellItem_58 rfl (lv_at hl 0 rfl) ?_
      refine z_bipush hx hb dX5_tellItem_59 (by decide) ?_
      have hP := hP.sub (ws' := [(h7, .inr (5, [.ref xa, .int (iZ ((ln : Nat) : Int)), .int (iZ ((sgE tx ln (sgE tx ln pl 103) 116 : Nat) : Int)), .int (iZ (bZ su)), .int (iZ ((sk tx ln (sgE tx ln pl 103) : Nat) : Int)), .int (iZ nu)])), (xa, .inl (Y 2, 200, .inl (aI tx)))] ++ [(h, .inr (0, [.int (iZ (K 0 0)), .int (iZ (K 0 1)), .int (iZ (K 0 2)), .int (iZ (K 0 3)), .int (iZ (K 0 4)), .int (iZ (K 0 5)), .int (iZ (K 0 6)), .ref (ad 1), .ref (ad 2), .ref (ad 3), .ref (ad 4), .ref (ad 5), .ref (ad 6), .ref (ad 7)])), (ad 1, .inl (Y 0, 6, .inl (aI (K 1)))), (ad 2, .inl (Y 0, 6, .inl (aI (K 2)))), (ad 3, .inl (Y 0, 6, .inl (aI (K 3)))), (ad 4, .inl (Y 1, 6, .inl (aI (K 4)))), (ad 5, .inl (Y 1, 6, .inl (aI (K 5)))), (ad 6, .inl (Y 0, 7, .inl (aI (K 6)))), (ad 7, .inl (Y 0, 7, .inl (aI (K 7))))]) [0, 1, 2, 3, 4, 5, 6, 7, 8, 9] rfl
      have hD := hD.sub (ws' := [(h7, .inr (5, [.ref xa, .int (iZ ((ln : Nat) : Int)), .int (iZ ((sgE tx ln (sgE tx ln pl 103) 116 : Nat) : Int)), .int (iZ (bZ su)), .int (iZ ((sk tx ln (sgE tx ln pl 103) : Nat) : Int)), .int (iZ nu)])), (xa, .inl (Y 2, 200, .inl (aI tx)))] ++ [(h, .inr (0, [.int (iZ (K 0 0)), .int (iZ (K 0 1)), .int (iZ (K 0 2)), .int (iZ (K 0 3)), .int (iZ (K 0 4)), .int (iZ (K 0 5)), .int (iZ (K 0 6)), .ref (ad 1), .ref (ad 2), .ref (ad 3), .ref (ad 4), .ref (ad 5), .ref (ad 6), .ref (ad 7)])), (ad 1, .inl (Y 0, 6, .inl (aI (K 1)))), (ad 2, .inl (Y 0, 6, .inl (aI (K 2)))), (ad 3, .inl (Y 0, 6, .inl (aI (K 3)))), (ad 4, .inl (Y 1, 6, .inl (aI (K 4)))), (ad 5, .inl (Y 1, 6, .inl (aI (K 5)))), (ad 6, .inl (Y 0, 7, .inl (aI (K 6)))), (ad 7, .inl (Y 0, 7, .inl (aI (K 7))))]) [0, 1, 2, 3, 4, 5, 6, 7, 8, 9] (by decide) rfl
      refine mu_V (As := [.int (iZ 112)]) (rest := []) (wc := [(h7, .inr (5, [.ref xa, .int (iZ ((ln : Nat) : Int)), .int (iZ ((sgE tx ln (sgE tx ln pl 103) 116 : Nat) : Int)), .int (iZ (bZ su)), .int (iZ ((sk tx ln (sgE tx ln pl 103) : Nat) : Int)), .int (iZ nu)])), (xa, .inl (Y 2, 200, .inl (aI tx)))]) (wc' := txW Y h7 xa tx ln (sgE tx ln (sgE tx ln (sgE tx ln pl 103) 116) 112) su (sk tx ln (sgE tx ln (sgE tx ln pl 103) 116)) nu) (F := [(h, .inr (0, [.int (iZ (K 0 0)), .int (iZ (K 0 1)), .int (iZ (K 0 2)), .int (iZ (K 0 3)), .int (iZ (K 0 4)), .int (iZ (K 0 5)), .int (iZ (K 0 6)), .ref (ad 1), .ref (ad 2), .ref (ad 3), .ref (ad 4), .ref (ad 5), .ref (ad 6), .ref (ad 7)])), (ad 1, .inl (Y 0, 6, .inl (aI (K 1)))), (ad 2, .inl (Y 0, 6, .inl (aI (K 2)))), (ad 3, .inl (Y 0, 6, .inl (aI (K 3)))), (ad 4, .inl (Y 1, 6, .inl (aI (K 4)))), (ad 5, .inl (Y 1, 6, .inl (aI (K 5)))), (ad 6, .inl (Y 0, 7, .inl (aI (K 6)))), (ad 7, .inl (Y 0, 7, .inl (aI (K 7))))]) ⟨hx, hb, hml, hown, hts⟩ (c_X5_readSign l G Y h7 xa tx hX ln (sgE tx ln (sgE tx ln pl 103) 116) su (sk tx ln (sgE tx ln pl 103)) nu (by omega) 112 (by omega)) (cwV 1 hts gX5_tellItem_X5_readSign rfl rfl rfl (by decide +kernel) ⟨Nat.le_of_ble_eq_true rfl, Nat.le_of_ble_eq_true rfl⟩) hK hP hD hS 0 rfl rfl (Eq.refl [h7, xa]) rfl hl.1 rfl (Nat.le_of_ble_eq_true rfl) dX5_tellItem_61 ⟨Nat.zero_le _, Nat.zero_le _⟩ (fun H locs hP hD hS => ?_)
      show W _ _ _ _ _ _ _ _ _ _ _ _ _ _ _ (F0 _ _ _ [.int (iZ (bZ (sgO tx ln (sgE tx ln (sgE tx ln pl 103) 116) 112)))])
      replace hP : va_P G vwCl [(h7, .inr (5, [.ref xa, .int (iZ ((ln : Nat) : Int)), .int (iZ ((sgE tx ln (sgE tx ln (sgE tx ln pl 103) 116) 112 : Nat) : Int)), .int (iZ (bZ su)), .int (iZ ((sk tx ln (sgE tx ln (sgE tx ln pl 103) 116) : Nat) : Int)), .int (iZ nu)])), (xa, .inl (Y 2, 200, .inl (aI tx))), (h, .inr (0, [.int (iZ (K 0 0)), .int (iZ (K 0 1)), .int (iZ (K 0 2)), .int (iZ (K 0 3)), .int (iZ (K 0 4)), .int (iZ (K 0 5)), .int (iZ (K 0 6)), .ref (ad 1), .ref (ad 2), .ref (ad 3), .ref (ad 4), .ref (ad 5), .ref (ad 6), .ref (ad 7)])), (ad 1, .inl (Y 0, 6, .inl (aI (K 1)))), (ad 2, .inl (Y 0, 6, .inl (aI (K 2)))), (ad 3, .inl (Y 0, 6, .inl (aI (K 3)))), (ad 4, .inl (Y 1, 6, .inl (aI (K 4)))), (ad 5, .inl (Y 1, 6, .inl (aI (K 5)))), (ad 6, .inl (Y 0, 7, .inl (aI (K 6)))), (ad 7, .inl (Y 0, 7, .inl (aI (K 7))))] H := hP
      replace hD : va_D _ [(h7, .inr (5, [.ref xa, .int (iZ ((ln : Nat) : Int)), .int (iZ ((sgE tx ln (sgE tx ln (sgE tx ln pl 103) 116) 112 : Nat) : Int)), .int (iZ (bZ su)), .int (iZ ((sk tx ln (sgE tx ln (sgE tx ln pl 103) 116) : Nat) : Int)), .int (iZ nu)])), (xa, .inl (Y 2, 200, .inl (aI tx))), (h, .inr (0, [.int (iZ (K 0 0)), .int (iZ (K 0 1)), .int (iZ (K 0 2)), .int (iZ (K 0 3)), .int (iZ (K 0 4)), .int (iZ (K 0 5)), .int (iZ (K 0 6)), .ref (ad 1), .ref (ad 2), .ref (ad 3), .ref (ad 4), .ref (ad 5), .ref (ad 6), .ref (ad 7)])), (ad 1, .inl (Y 0, 6, .inl (aI (K 1)))), (ad 2, .inl (Y 0, 6, .inl (aI (K 2)))), (ad 3, .inl (Y 0, 6, .inl (aI (K 3)))), (ad 4, .inl (Y 1, 6, .inl (aI (K 4)))), (ad 5, .inl (Y 1, 6, .inl (aI (K 5)))), (ad 6, .inl (Y 0, 7, .inl (aI (K 6)))), (ad 7, .inl (Y 0, 7, .inl (aI (K 7))))] := hD
      have hb_7 := sk_in (tx := tx) (ln := ln) (q := sgE tx ln (sgE tx ln pl 103) 116) (by omega)
      have hb_8 := sgE_in (tx := tx) (ln := ln) (q := sgE tx ln (sgE tx ln pl 103) 116) 112 (by omega)
      refine z_ifb_eq (tgt := 90) hx hb dX5_tellItem_64 (by decide) (fun c_9 => ?_) (fun c_9 => ?_)
      · skip
        refine lv_aload_n hx hb dX5_tellItem_90 rfl (lv_at hl 0 rfl) ?_
        refine z_bipush hx hb dX5_tellItem_91 (by decide) ?_
        have hP := hP.sub (ws' := [(h7, .inr (5, [.ref xa, .int (iZ ((ln : Nat) : Int)), .int (iZ ((sgE tx ln (sgE tx ln (sgE tx ln pl 103) 116) 112 : Nat) : Int)), .int (iZ (bZ su)), .int (iZ ((sk tx ln (sgE tx ln (sgE tx ln pl 103) 116) : Nat) : Int)), .int (iZ nu)])), (xa, .inl (Y 2, 200, .inl (aI tx)))] ++ [(h, .inr (0, [.int (iZ (K 0 0)), .int (iZ (K 0 1)), .int (iZ (K 0 2)), .int (iZ (K 0 3)), .int (iZ (K 0 4)), .int (iZ (K 0 5)), .int (iZ (K 0 6)), .ref (ad 1), .ref (ad 2), .ref (ad 3), .ref (ad 4), .ref (ad 5), .ref (ad 6), .ref (ad 7)])), (ad 1, .inl (Y 0, 6, .inl (aI (K 1)))), (ad 2, .inl (Y 0, 6, .inl (aI (K 2)))), (ad 3, .inl (Y 0, 6, .inl (aI (K 3)))), (ad 4, .inl (Y 1, 6, .inl (aI (K 4)))), (ad 5, .inl (Y 1, 6, .inl (aI (K 5)))), (ad 6, .inl (Y 0, 7, .inl (aI (K 6)))), (ad 7, .inl (Y 0, 7, .inl (aI (K 7))))]) [0, 1, 2, 3, 4, 5, 6, 7, 8, 9] rfl
        have hD := hD.sub (ws' := [(h7, .inr (5, [.ref xa, .int (iZ ((ln : Nat) : Int)), .int (iZ ((sgE tx ln (sgE tx ln (sgE tx ln pl 103) 116) 112 : Nat) : Int)), .int (iZ (bZ su)), .int (iZ ((sk tx ln (sgE tx ln (sgE tx ln pl 103) 116) : Nat) : Int)), .int (iZ nu)])), (xa, .inl (Y 2, 200, .inl (aI tx)))] ++ [(h, .inr (0, [.int (iZ (K 0 0)), .int (iZ (K 0 1)), .int (iZ (K 0 2)), .int (iZ (K 0 3)), .int (iZ (K 0 4)), .int (iZ (K 0 5)), .int (iZ (K 0 6)), .ref (ad 1), .ref (ad 2), .ref (ad 3), .ref (ad 4), .ref (ad 5), .ref (ad 6), .ref (ad 7)])), (ad 1, .inl (Y 0, 6, .inl (aI (K 1)))), (ad 2, .inl (Y 0, 6, .inl (aI (K 2)))), (ad 3, .inl (Y 0, 6, .inl (aI (K 3)))), (ad 4, .inl (Y 1, 6, .inl (aI (K 4)))), (ad 5, .inl (Y 1, 6, .inl (aI (K 5)))), (ad 6, .inl (Y 0, 7, .inl (aI (K 6)))), (ad 7, .inl (Y 0, 7, .inl (aI (K 7))))]) [0, 1, 2, 3, 4, 5, 6, 7, 8, 9] (by decide) rfl
        refine mu_V (As := [.int (iZ 115)]) (rest := []) (wc := [(h7, .inr (5, [.ref xa, .int (iZ ((ln : Nat) : Int)), .int (iZ ((sgE tx ln (sgE tx ln (sgE tx ln pl 103) 116) 112 : Nat) : Int)), .int (iZ (bZ su)), .int (iZ ((sk tx ln (sgE tx ln (sgE tx ln pl 103) 116) : Nat) : Int)), .int (iZ nu)])), (xa, .inl (Y 2, 200, .inl (aI tx)))]) (wc' := txW Y h7 xa tx ln (sgE tx ln (sgE tx ln (sgE tx ln (sgE tx ln pl 103) 116) 112) 115) su (sk tx ln (sgE tx ln (sgE tx ln (sgE tx ln pl 103) 116) 112)) nu) (F := [(h, .inr (0, [.int (iZ (K 0 0)), .int (iZ (K 0 1)), .int (iZ (K 0 2)), .int (iZ (K 0 3)), .int (iZ (K 0 4)), .int (iZ (K 0 5)), .int (iZ (K 0 6)), .ref (ad 1), .ref (ad 2), .ref (ad 3), .ref (ad 4), .ref (ad 5), .ref (ad 6), .ref (ad 7)])), (ad 1, .inl (Y 0, 6, .inl (aI (K 1)))), (ad 2, .inl (Y 0, 6, .inl (aI (K 2)))), (ad 3, .inl (Y 0, 6, .inl (aI (K 3)))), (ad 4, .inl (Y 1, 6, .inl (aI (K 4)))), (ad 5, .inl (Y 1, 6, .inl (aI (K 5)))), (ad 6, .inl (Y 0, 7, .inl (aI (K 6)))), (ad 7, .inl (Y 0, 7, .inl (aI (K 7))))]) ⟨hx, hb, hml, hown, hts⟩ (c_X5_readSign l G Y h7 xa tx hX ln (sgE tx ln (sgE tx ln (sgE tx ln pl 103) 116) 112) su (sk tx ln (sgE tx ln (sgE tx ln pl 103) 116)) nu (by omega) 115 (by omega)) (cwV 1 hts gX5_tellItem_X5_readSign rfl rfl rfl (by decide +kernel) ⟨Nat.le_of_ble_eq_true rfl, Nat.le_of_ble_eq_true rfl⟩) hK hP hD hS 0 rfl rfl (Eq.refl [h7, xa]) rfl hl.1 rfl (Nat.le_of_ble_eq_true rfl) dX5_tellItem_93 ⟨Nat.zero_le _, Nat.zero_le _⟩ (fun H locs hP hD hS => ?_)
        show W _ _ _ _ _ _ _ _ _ _ _ _ _ _ _ (F0 _ _ _ [.int (iZ (bZ (sgO tx ln (sgE tx ln (sgE tx ln (sgE tx ln pl 103) 116) 112) 115)))])
        replace hP : va_P G vwCl [(h7, .inr (5, [.ref xa, .int (iZ ((ln : Nat) : Int)), .int (iZ ((sgE tx ln (sgE tx ln (sgE tx ln (sgE tx ln pl 103) 116) 112) 115 : Nat) : Int)), .int (iZ (bZ su)), .int (iZ ((sk tx ln (sgE tx ln (sgE tx ln (sgE tx ln pl 103) 116) 112) : Nat) : Int)), .int (iZ nu)])), (xa, .inl (Y 2, 200, .inl (aI tx))), (h, .inr (0, [.int (iZ (K 0 0)), .int (iZ (K 0 1)), .int (iZ (K 0 2)), .int (iZ (K 0 3)), .int (iZ (K 0 4)), .int (iZ (K 0 5)), .int (iZ (K 0 6)), .ref (ad 1), .ref (ad 2), .ref (ad 3), .ref (ad 4), .ref (ad 5), .ref (ad 6), .ref (ad 7)])), (ad 1, .inl (Y 0, 6, .inl (aI (K 1)))), (ad 2, .inl (Y 0, 6, .inl (aI (K 2)))), (ad 3, .inl (Y 0, 6, .inl (aI (K 3)))), (ad 4, .inl (Y 1, 6, .inl (aI (K 4)))), (ad 5, .inl (Y 1, 6, .inl (aI (K 5)))), (ad 6, .inl (Y 0, 7, .inl (aI (K 6)))), (ad 7, .inl (Y 0, 7, .inl (aI (K 7))))] H := hP
        replace hD : va_D _ [(h7, .inr (5, [.ref xa, .int (iZ ((ln : Nat) : Int)), .int (iZ ((sgE tx ln (sgE tx ln (sgE tx ln (sgE tx ln pl 103) 116) 112) 115 : Nat) : Int)), .int (iZ (bZ su)), .int (iZ ((sk tx ln (sgE tx ln (sgE tx ln (sgE tx ln pl 103) 116) 112) : Nat) : Int)), .int (iZ nu)])), (xa, .inl (Y 2, 200, .inl (aI tx))), (h, .inr (0, [.int (iZ (K 0 0)), .int (iZ (K 0 1)), .int (iZ (K 0 2)), .int (iZ (K 0 3)), .int (iZ (K 0 4)), .int (iZ (K 0 5)), .int (iZ (K 0 6)), .ref (ad 1), .ref (ad 2), .ref (ad 3), .ref (ad 4), .ref (ad 5), .ref (ad 6), .ref (ad 7)])), (ad 1, .inl (Y 0, 6, .inl (aI (K 1)))), (ad 2, .inl (Y 0, 6, .inl (aI (K 2)))), (ad 3, .inl (Y 0, 6, .inl (aI (K 3)))), (ad 4, .inl (Y 1, 6, .inl (aI (K 4)))), (ad 5, .inl (Y 1, 6, .inl (aI (K 5)))), (ad 6, .inl (Y 0, 7, .inl (aI (K 6)))), (ad 7, .inl (Y 0, 7, .inl (aI (K 7))))] := hD
        have hb_10 := sk_in (tx := tx) (ln := ln) (q := sgE tx ln (sgE tx ln (sgE tx ln pl 103) 116) 112) (by omega)
        have hb_11 := sgE_in (tx := tx) (ln := ln) (q := sgE tx ln (sgE tx ln (sgE tx ln pl 103) 116) 112) 115 (by omega)
        refine z_ifb_eq (tgt := 118) hx hb dX5_tellItem_96 (by decide) (fun c_12 => ?_) (fun c_12 => ?_)
        · skip
          refine z_iconst hx hb dX5_tellItem_118 ?_
          have e9 : tItem tx ln pl su nu K fi = (false, sgE tx ln (sgE tx ln (sgE tx ln (sgE tx ln pl 103) 116) 112) 115, sk tx ln (sgE tx ln (sgE tx ln (sgE tx ln pl 103) 116) 112), nu, su, K) := by unfold tItem; simp only [c_3, c_6, c_9, c_12, cond_true, cond_true, cond_false]
          refine z_top (show 0 = bZ (tItem tx ln pl su nu K fi).1 from ?_) ?_
          · rw [e9]; rfl
          have hP9 : va_P G vwCl (txR Y h7 xa tx ln h ad (tItem tx ln pl su nu K fi)) H := by rw [e9]; exact hP.sub [0, 1, 2, 3, 4, 5, 6, 7, 8, 9] rfl
          exact W.zret (v := iZ (bZ (tItem tx ln pl su nu K fi).1)) hx hb hr (b01_nar (bZ_in _)) (fun t9 ht9 _ => ⟨rfl, by rw [ht9]; exact hP9, hS.F ht9⟩) hS.2.2 dX5_tellItem_119
        · skip
          refine lv_aload_n hx hb dX5_tellItem_99 rfl (lv_at hl 0 rfl) ?_
          refine va_get (D := G) (ci := 5) (v := .int (iZ (bZ su))) (C := RX5) (T := TX5) (N := 6) hx hb hts hFX5 hown hK.1 hP 0 rfl rfl 3 (by decide) kf27 (fun _ h9 => h9) rfl dX5_tellItem_100 ?_
          refine z_ifb_ne (tgt := 118) hx hb dX5_tellItem_103 (by decide) (fun c_13 => ?_) (fun c_13 => ?_)
          · skip
            refine z_iconst hx hb dX5_tellItem_118 ?_
            have e9 : tItem tx ln pl su nu K fi = (false, sgE tx ln (sgE tx ln (sgE tx ln (sgE tx ln pl 103) 116) 112) 115, sk tx ln (sgE tx ln (sgE tx ln (sgE tx ln pl 103) 116) 112), nu, su, K) := by unfold tItem; simp only [c_3, c_6, c_9, c_12, c_13, cond_true, cond_true, cond_false]
            refine z_top (show 0 = bZ (tItem tx ln pl su nu K fi).1 from ?_) ?_
            · rw [e9]; rfl
            have hP9 : va_P G vwCl (txR Y h7 xa tx ln h ad (tItem tx ln pl su nu K fi)) H := by rw [e9]; exact hP.sub [0, 1, 2, 3, 4, 5, 6, 7, 8, 9] rfl
            exact W.zret (v := iZ (bZ (tItem tx ln pl su nu K fi).1)) hx hb hr (b01_nar (bZ_in _)) (fun t9 ht9 _ => ⟨rfl, by rw [ht9]; exact hP9, hS.F ht9⟩) hS.2.2 dX5_tellItem_119
          · skip
            refine lv_aload_n hx hb dX5_tellItem_106 rfl (lv_at hl 0 rfl) ?_
            refine lv_aload_n hx hb dX5_tellItem_107 rfl (lv_at hl 1 rfl) ?_
            have hP := hP.sub (ws' := [(h7, .inr (5, [.ref xa, .int (iZ ((ln : Nat) : Int)), .int (iZ ((sgE tx ln (sgE tx ln (sgE tx ln (sgE tx ln pl 103) 116) 112) 115 : Nat) : Int)), .int (iZ (bZ su)), .int (iZ ((sk tx ln (sgE tx ln (sgE tx ln (sgE tx ln pl 103) 116) 112) : Nat) : Int)), .int (iZ nu)])), (xa, .inl (Y 2, 200, .inl (aI tx))), (h, .inr (0, [.int (iZ (K 0 0)), .int (iZ (K 0 1)), .int (iZ (K 0 2)), .int (iZ (K 0 3)), .int (iZ (K 0 4)), .int (iZ (K 0 5)), .int (iZ (K 0 6)), .ref (ad 1), .ref (ad 2), .ref (ad 3), .ref (ad 4), .ref (ad 5), .ref (ad 6), .ref (ad 7)])), (ad 1, .inl (Y 0, 6, .inl (aI (K 1)))), (ad 2, .inl (Y 0, 6, .inl (aI (K 2)))), (ad 3, .inl (Y 0, 6, .inl (aI (K 3)))), (ad 4, .inl (Y 1, 6, .inl (aI (K 4)))), (ad 5, .inl (Y 1, 6, .inl (aI (K 5)))), (ad 6, .inl (Y 0, 7, .inl (aI (K 6)))), (ad 7, .inl (Y 0, 7, .inl (aI (K 7))))] ++ []) [0, 1, 2, 3, 4, 5, 6, 7, 8, 9] rfl
            have hD := hD.sub (ws' := [(h7, .inr (5, [.ref xa, .int (iZ ((ln : Nat) : Int)), .int (iZ ((sgE tx ln (sgE tx ln (sgE tx ln (sgE tx ln pl 103) 116) 112) 115 : Nat) : Int)), .int (iZ (bZ su)), .int (iZ ((sk tx ln (sgE tx ln (sgE tx ln (sgE tx ln pl 103) 116) 112) : Nat) : Int)), .int (iZ nu)])), (xa, .inl (Y 2, 200, .inl (aI tx))), (h, .inr (0, [.int (iZ (K 0 0)), .int (iZ (K 0 1)), .int (iZ (K 0 2)), .int (iZ (K 0 3)), .int (iZ (K 0 4)), .int (iZ (K 0 5)), .int (iZ (K 0 6)), .ref (ad 1), .ref (ad 2), .ref (ad 3), .ref (ad 4), .ref (ad 5), .ref (ad 6), .ref (ad 7)])), (ad 1, .inl (Y 0, 6, .inl (aI (K 1)))), (ad 2, .inl (Y 0, 6, .inl (aI (K 2)))), (ad 3, .inl (Y 0, 6, .inl (aI (K 3)))), (ad 4, .inl (Y 1, 6, .inl (aI (K 4)))), (ad 5, .inl (Y 1, 6, .inl (aI (K 5)))), (ad 6, .inl (Y 0, 7, .inl (aI (K 6)))), (ad 7, .inl (Y 0, 7, .inl (aI (K 7))))] ++ []) [0, 1, 2, 3, 4, 5, 6, 7, 8, 9] (by decide) rfl
            refine mu_V (As := [.ref h]) (rest := []) (wc := [(h7, .inr (5, [.ref xa, .int (iZ ((ln : Nat) : Int)), .int (iZ ((sgE tx ln (sgE tx ln (sgE tx ln (sgE tx ln pl 103) 116) 112) 115 : Nat) : Int)), .int (iZ (bZ su)), .int (iZ ((sk tx ln (sgE tx ln (sgE tx ln (sgE tx ln pl 103) 116) 112) : Nat) : Int)), .int (iZ nu)])), (xa, .inl (Y 2, 200, .inl (aI tx))), (h, .inr (0, [.int (iZ (K 0 0)), .int (iZ (K 0 1)), .int (iZ (K 0 2)), .int (iZ (K 0 3)), .int (iZ (K 0 4)), .int (iZ (K 0 5)), .int (iZ (K 0 6)), .ref (ad 1), .ref (ad 2), .ref (ad 3), .ref (ad 4), .ref (ad 5), .ref (ad 6), .ref (ad 7)])), (ad 1, .inl (Y 0, 6, .inl (aI (K 1)))), (ad 2, .inl (Y 0, 6, .inl (aI (K 2)))), (ad 3, .inl (Y 0, 6, .inl (aI (K 3)))), (ad 4, .inl (Y 1, 6, .inl (aI (K 4)))), (ad 5, .inl (Y 1, 6, .inl (aI (K 5)))), (ad 6, .inl (Y 0, 7, .inl (aI (K 6)))), (ad 7, .inl (Y 0, 7, .inl (aI (K 7))))]) (wc' := txR Y h7 xa tx ln h ad (tSun tx ln (sgE tx ln (sgE tx ln (sgE tx ln (sgE tx ln pl 103) 116) 112) 115) su K)) (F := []) ⟨hx, hb, hml, hown, hts⟩ (c_X5_tellSun l G Y h7 xa tx hX ln (sgE tx ln (sgE tx ln (sgE tx ln (sgE tx ln pl 103) 116) 112) 115) su (sk tx ln (sgE tx ln (sgE tx ln (sgE tx ln pl 103) 116) 112)) nu (by omega) h ad K ) (cwV 1 hts gX5_tellItem_X5_tellSun rfl rfl rfl (by decide +kernel) ⟨Nat.le_of_ble_eq_true rfl, Nat.le_of_ble_eq_true rfl⟩) hK hP hD hS 0 rfl rfl (Eq.refl [h7, xa, h, ad 1, ad 2, ad 3, ad 4, ad 5, ad 6, ad 7]) rfl hl.1 rfl (Nat.le_of_ble_eq_true rfl) dX5_tellItem_108 ⟨Nat.zero_le _, Nat.zero_le _⟩ (fun H locs hP hD hS => ?_)
            show W _ _ _ _ _ _ _ _ _ _ _ _ _ _ _ (F0 _ _ _ [.int (iZ (bZ ((tSun tx ln (sgE tx ln (sgE tx ln (sgE tx ln (sgE tx ln pl 103) 116) 112) 115) su K).1)))])
            replace hP : va_P G vwCl [(h7, .inr (5, [.ref xa, .int (iZ ((ln : Nat) : Int)), .int (iZ (((tSun tx ln (sgE tx ln (sgE tx ln (sgE tx ln (sgE tx ln pl 103) 116) 112) 115) su K).2.1 : Nat) : Int)), .int (iZ (bZ ((tSun tx ln (sgE tx ln (sgE tx ln (sgE tx ln (sgE tx ln pl 103) 116) 112) 115) su K).2.2.2.2.1))), .int (iZ (((tSun tx ln (sgE tx ln (sgE tx ln (sgE tx ln (sgE tx ln pl 103) 116) 112) 115) su K).2.2.1 : Nat) : Int)), .int (iZ ((tSun tx ln (sgE tx ln (sgE tx ln (sgE tx ln (sgE tx ln pl 103) 116) 112) 115) su K).2.2.2.1))])), (xa, .inl (Y 2, 200, .inl (aI tx))), (h, .inr (0, [.int (iZ ((tSun tx ln (sgE tx ln (sgE tx ln (sgE tx ln (sgE tx ln pl 103) 116) 112) 115) su K).2.2.2.2.2 0 0)), .int (iZ ((tSun tx ln (sgE tx ln (sgE tx ln (sgE tx ln (sgE tx ln pl 103) 116) 112) 115) su K).2.2.2.2.2 0 1)), .int (iZ ((tSun tx ln (sgE tx ln (sgE tx ln (sgE tx ln (sgE tx ln pl 103) 116) 112) 115) su K).2.2.2.2.2 0 2)), .int (iZ ((tSun tx ln (sgE tx ln (sgE tx ln (sgE tx ln (sgE tx ln pl 103) 116) 112) 115) su K).2.2.2.2.2 0 3)), .int (iZ ((tSun tx ln (sgE tx ln (sgE tx ln (sgE tx ln (sgE tx ln pl 103) 116) 112) 115) su K).2.2.2.2.2 0 4)), .int (iZ ((tSun tx ln (sgE tx ln (sgE tx ln (sgE tx ln (sgE tx ln pl 103) 116) 112) 115) su K).2.2.2.2.2 0 5)), .int (iZ ((tSun tx ln (sgE tx ln (sgE tx ln (sgE tx ln (sgE tx ln pl 103) 116) 112) 115) su K).2.2.2.2.2 0 6)), .ref (ad 1), .ref (ad 2), .ref (ad 3), .ref (ad 4), .ref (ad 5), .ref (ad 6), .ref (ad 7)])), (ad 1, .inl (Y 0, 6, .inl (aI ((tSun tx ln (sgE tx ln (sgE tx ln (sgE tx ln (sgE tx ln pl 103) 116) 112) 115) su K).2.2.2.2.2 1)))), (ad 2, .inl (Y 0, 6, .inl (aI ((tSun tx ln (sgE tx ln (sgE tx ln (sgE tx ln (sgE tx ln pl 103) 116) 112) 115) su K).2.2.2.2.2 2)))), (ad 3, .inl (Y 0, 6, .inl (aI ((tSun tx ln (sgE tx ln (sgE tx ln (sgE tx ln (sgE tx ln pl 103) 116) 112) 115) su K).2.2.2.2.2 3)))), (ad 4, .inl (Y 1, 6, .inl (aI ((tSun tx ln (sgE tx ln (sgE tx ln (sgE tx ln (sgE tx ln pl 103) 116) 112) 115) su K).2.2.2.2.2 4)))), (ad 5, .inl (Y 1, 6, .inl (aI ((tSun tx ln (sgE tx ln (sgE tx ln (sgE tx ln (sgE tx ln pl 103) 116) 112) 115) su K).2.2.2.2.2 5)))), (ad 6, .inl (Y 0, 7, .inl (aI ((tSun tx ln (sgE tx ln (sgE tx ln (sgE tx ln (sgE tx ln pl 103) 116) 112) 115) su K).2.2.2.2.2 6)))), (ad 7, .inl (Y 0, 7, .inl (aI ((tSun tx ln (sgE tx ln (sgE tx ln (sgE tx ln (sgE tx ln pl 103) 116) 112) 115) su K).2.2.2.2.2 7))))] H := hP
            replace hD : va_D _ [(h7, .inr (5, [.ref xa, .int (iZ ((ln : Nat) : Int)), .int (iZ (((tSun tx ln (sgE tx ln (sgE tx ln (sgE tx ln (sgE tx ln pl 103) 116) 112) 115) su K).2.1 : Nat) : Int)), .int (iZ (bZ ((tSun tx ln (sgE tx ln (sgE tx ln (sgE tx ln (sgE tx ln pl 103) 116) 112) 115) su K).2.2.2.2.1))), .int (iZ (((tSun tx ln (sgE tx ln (sgE tx ln (sgE tx ln (sgE tx ln pl 103) 116) 112) 115) su K).2.2.1 : Nat) : Int)), .int (iZ ((tSun tx ln (sgE tx ln (sgE tx ln (sgE tx ln (sgE tx ln pl 103) 116) 112) 115) su K).2.2.2.1))])), (xa, .inl (Y 2, 200, .inl (aI tx))), (h, .inr (0, [.int (iZ ((tSun tx ln (sgE tx ln (sgE tx ln (sgE tx ln (sgE tx ln pl 103) 116) 112) 115) su K).2.2.2.2.2 0 0)), .int (iZ ((tSun tx ln (sgE tx ln (sgE tx ln (sgE tx ln (sgE tx ln pl 103) 116) 112) 115) su K).2.2.2.2.2 0 1)), .int (iZ ((tSun tx ln (sgE tx ln (sgE tx ln (sgE tx ln (sgE tx ln pl 103) 116) 112) 115) su K).2.2.2.2.2 0 2)), .int (iZ ((tSun tx ln (sgE tx ln (sgE tx ln (sgE tx ln (sgE tx ln pl 103) 116) 112) 115) su K).2.2.2.2.2 0 3)), .int (iZ ((tSun tx ln (sgE tx ln (sgE tx ln (sgE tx ln (sgE tx ln pl 103) 116) 112) 115) su K).2.2.2.2.2 0 4)), .int (iZ ((tSun tx ln (sgE tx ln (sgE tx ln (sgE tx ln (sgE tx ln pl 103) 116) 112) 115) su K).2.2.2.2.2 0 5)), .int (iZ ((tSun tx ln (sgE tx ln (sgE tx ln (sgE tx ln (sgE tx ln pl 103) 116) 112) 115) su K).2.2.2.2.2 0 6)), .ref (ad 1), .ref (ad 2), .ref (ad 3), .ref (ad 4), .ref (ad 5), .ref (ad 6), .ref (ad 7)])), (ad 1, .inl (Y 0, 6, .inl (aI ((tSun tx ln (sgE tx ln (sgE tx ln (sgE tx ln (sgE tx ln pl 103) 116) 112) 115) su K).2.2.2.2.2 1)))), (ad 2, .inl (Y 0, 6, .inl (aI ((tSun tx ln (sgE tx ln (sgE tx ln (sgE tx ln (sgE tx ln pl 103) 116) 112) 115) su K).2.2.2.2.2 2)))), (ad 3, .inl (Y 0, 6, .inl (aI ((tSun tx ln (sgE tx ln (sgE tx ln (sgE tx ln (sgE tx ln pl 103) 116) 112) 115) su K).2.2.2.2.2 3)))), (ad 4, .inl (Y 1, 6, .inl (aI ((tSun tx ln (sgE tx ln (sgE tx ln (sgE tx ln (sgE tx ln pl 103) 116) 112) 115) su K).2.2.2.2.2 4)))), (ad 5, .inl (Y 1, 6, .inl (aI ((tSun tx ln (sgE tx ln (sgE tx ln (sgE tx ln (sgE tx ln pl 103) 116) 112) 115) su K).2.2.2.2.2 5)))), (ad 6, .inl (Y 0, 7, .inl (aI ((tSun tx ln (sgE tx ln (sgE tx ln (sgE tx ln (sgE tx ln pl 103) 116) 112) 115) su K).2.2.2.2.2 6)))), (ad 7, .inl (Y 0, 7, .inl (aI ((tSun tx ln (sgE tx ln (sgE tx ln (sgE tx ln (sgE tx ln pl 103) 116) 112) 115) su K).2.2.2.2.2 7))))] := hD
            refine z_ifb_eq (tgt := 118) hx hb dX5_tellItem_111 (by decide) (fun c_14 => ?_) (fun c_14 => ?_)
            · skip
              refine z_iconst hx hb dX5_tellItem_118 ?_
              have e9 : tItem tx ln pl su nu K fi = tSun tx ln (sgE tx ln (sgE tx ln (sgE tx ln (sgE tx ln pl 103) 116) 112) 115) su K := by unfold tItem; simp only [c_3, c_6, c_9, c_12, c_13, c_14, cond_true, cond_true, cond_false]
              refine z_top (show 0 = bZ (tItem tx ln pl su nu K fi).1 from ?_) ?_
              · rw [e9, c_14]; rfl
              have hP9 : va_P G vwCl (txR Y h7 xa tx ln h ad (tItem tx ln pl su nu K fi)) H := by rw [e9]; exact hP.sub [0, 1, 2, 3, 4, 5, 6, 7, 8, 9] rfl
              exact W.zret (v := iZ (bZ (tItem tx ln pl su nu K fi).1)) hx hb hr (b01_nar (bZ_in _)) (fun t9 ht9 _ => ⟨rfl, by rw [ht9]; exact hP9, hS.F ht9⟩) hS.2.2 dX5_tellItem_119
            · skip
              refine z_iconst hx hb dX5_tellItem_114 ?_
              refine lv_goto (tgt := 119) hx hb dX5_tellItem_115 (by decide) ?_
              have e9 : tItem tx ln pl su nu K fi = tSun tx ln (sgE tx ln (sgE tx ln (sgE tx ln (sgE tx ln pl 103) 116) 112) 115) su K := by unfold tItem; simp only [c_3, c_6, c_9, c_12, c_13, c_14, cond_true, cond_true, cond_false]
              refine z_top (show 1 = bZ (tItem tx ln pl su nu K fi).1 from ?_) ?_
              · rw [e9, c_14]; rfl
              have hP9 : va_P G vwCl (txR Y h7 xa tx ln h ad (tItem tx ln pl su nu K fi)) H := by rw [e9]; exact hP.sub [0, 1, 2, 3, 4, 5, 6, 7, 8, 9] rfl
              exact W.zret (v := iZ (bZ (tItem tx ln pl su nu K fi).1)) hx hb hr (b01_nar (bZ_in _)) (fun t9 ht9 _ => ⟨rfl, by rw [ht9]; exact hP9, hS.F ht9⟩) hS.2.2 dX5_tellItem_119
      · skip
        refine lv_aload_n hx hb dX5_tellItem_67 rfl (lv_at hl 1 rfl) ?_
        refine va_get (D := G) (ci := 0) (v := .int (iZ (K 0 3))) (C := RX0) (T := TX0) (N := 14) hx hb hts hFX0 hown hK.1 hP 2 rfl rfl 3 (by decide) kf55 (fun _ h9 => h9) rfl dX5_tellItem_68 ?_
        refine z_bipush hx hb dX5_tellItem_71 (by decide) ?_
        refine z_icmp_ge (tgt := 88) hx hb dX5_tellItem_73 (by decide) (by omega) (fun c_15 => ?_) (fun c_15 => ?_)
        · skip
          refine z_iconst hx hb dX5_tellItem_88 ?_
          have e9 : tItem tx ln pl su nu K fi = (false, sgE tx ln (sgE tx ln (sgE tx ln pl 103) 116) 112, sk tx ln (sgE tx ln (sgE tx ln pl 103) 116), nu, su, K) := by unfold tItem; simp only [c_3, c_6, c_9, decide_eq_false (show ¬ K 0 3 < 7 by omega), cond_true, cond_false]
          refine z_top (show 0 = bZ (tItem tx ln pl su nu K fi).1 from ?_) ?_
          · rw [e9]; rfl
          have hP9 : va_P G vwCl (txR Y h7 xa tx ln h ad (tItem tx ln pl su nu K fi)) H := by rw [e9]; exact hP.sub [0, 1, 2, 3, 4, 5, 6, 7, 8, 9] rfl
          exact W.zret (v := iZ (bZ (tItem tx ln pl su nu K fi).1)) hx hb hr (b01_nar (bZ_in _)) (fun t9 ht9 _ => ⟨rfl, by rw [ht9]; exact hP9, hS.F ht9⟩) hS.2.2 dX5_tellItem_89
        · skip
          refine lv_aload_n hx hb dX5_tellItem_76 rfl (lv_at hl 0 rfl) ?_
          refine lv_aload_n hx hb dX5_tellItem_77 rfl (lv_at hl 1 rfl) ?_
          have hP := hP.sub (ws' := [(h7, .inr (5, [.ref xa, .int (iZ ((ln : Nat) : Int)), .int (iZ ((sgE tx ln (sgE tx ln (sgE tx ln pl 103) 116) 112 : Nat) : Int)), .int (iZ (bZ su)), .int (iZ ((sk tx ln (sgE tx ln (sgE tx ln pl 103) 116) : Nat) : Int)), .int (iZ nu)])), (xa, .inl (Y 2, 200, .inl (aI tx))), (h, .inr (0, [.int (iZ (K 0 0)), .int (iZ (K 0 1)), .int (iZ (K 0 2)), .int (iZ (K 0 3)), .int (iZ (K 0 4)), .int (iZ (K 0 5)), .int (iZ (K 0 6)), .ref (ad 1), .ref (ad 2), .ref (ad 3), .ref (ad 4), .ref (ad 5), .ref (ad 6), .ref (ad 7)])), (ad 1, .inl (Y 0, 6, .inl (aI (K 1)))), (ad 2, .inl (Y 0, 6, .inl (aI (K 2)))), (ad 3, .inl (Y 0, 6, .inl (aI (K 3)))), (ad 4, .inl (Y 1, 6, .inl (aI (K 4)))), (ad 5, .inl (Y 1, 6, .inl (aI (K 5)))), (ad 6, .inl (Y 0, 7, .inl (aI (K 6)))), (ad 7, .inl (Y 0, 7, .inl (aI (K 7))))] ++ []) [0, 1, 2, 3, 4, 5, 6, 7, 8, 9] rfl
          have hD := hD.sub (ws' := [(h7, .inr (5, [.ref xa, .int (iZ ((ln : Nat) : Int)), .int (iZ ((sgE tx ln (sgE tx ln (sgE tx ln pl 103) 116) 112 : Nat) : Int)), .int (iZ (bZ su)), .int (iZ ((sk tx ln (sgE tx ln (sgE tx ln pl 103) 116) : Nat) : Int)), .int (iZ nu)])), (xa, .inl (Y 2, 200, .inl (aI tx))), (h, .inr (0, [.int (iZ (K 0 0)), .int (iZ (K 0 1)), .int (iZ (K 0 2)), .int (iZ (K 0 3)), .int (iZ (K 0 4)), .int (iZ (K 0 5)), .int (iZ (K 0 6)), .ref (ad 1), .ref (ad 2), .ref (ad 3), .ref (ad 4), .ref (ad 5), .ref (ad 6), .ref (ad 7)])), (ad 1, .inl (Y 0, 6, .inl (aI (K 1)))), (ad 2, .inl (Y 0, 6, .inl (aI (K 2)))), (ad 3, .inl (Y 0, 6, .inl (aI (K 3)))), (ad 4, .inl (Y 1, 6, .inl (aI (K 4)))), (ad 5, .inl (Y 1, 6, .inl (aI (K 5)))), (ad 6, .inl (Y 0, 7, .inl (aI (K 6)))), (ad 7, .inl (Y 0, 7, .inl (aI (K 7))))] ++ []) [0, 1, 2, 3, 4, 5, 6, 7, 8, 9] (by decide) rfl
          refine mu_V (As := [.ref h]) (rest := []) (wc := [(h7, .inr (5, [.ref xa, .int (iZ ((ln : Nat) : Int)), .int (iZ ((sgE tx ln (sgE tx ln (sgE tx ln pl 103) 116) 112 : Nat) : Int)), .int (iZ (bZ su)), .int (iZ ((sk tx ln (sgE tx ln (sgE tx ln pl 103) 116) : Nat) : Int)), .int (iZ nu)])), (xa, .inl (Y 2, 200, .inl (aI tx))), (h, .inr (0, [.int (iZ (K 0 0)), .int (iZ (K 0 1)), .int (iZ (K 0 2)), .int (iZ (K 0 3)), .int (iZ (K 0 4)), .int (iZ (K 0 5)), .int (iZ (K 0 6)), .ref (ad 1), .ref (ad 2), .ref (ad 3), .ref (ad 4), .ref (ad 5), .ref (ad 6), .ref (ad 7)])), (ad 1, .inl (Y 0, 6, .inl (aI (K 1)))), (ad 2, .inl (Y 0, 6, .inl (aI (K 2)))), (ad 3, .inl (Y 0, 6, .inl (aI (K 3)))), (ad 4, .inl (Y 1, 6, .inl (aI (K 4)))), (ad 5, .inl (Y 1, 6, .inl (aI (K 5)))), (ad 6, .inl (Y 0, 7, .inl (aI (K 6)))), (ad 7, .inl (Y 0, 7, .inl (aI (K 7))))]) (wc' := txR Y h7 xa tx ln h ad (tPers tx ln (sgE tx ln (sgE tx ln (sgE tx ln pl 103) 116) 112) su K)) (F := []) ⟨hx, hb, hml, hown, hts⟩ (c_X5_tellPerson l G Y h7 xa tx hX ln (sgE tx ln (sgE tx ln (sgE tx ln pl 103) 116) 112) su (sk tx ln (sgE tx ln (sgE tx ln pl 103) 116)) nu (by omega) h ad K hW (by omega)) (cwV 1 hts gX5_tellItem_X5_tellPerson rfl rfl rfl (by decide +kernel) ⟨Nat.le_of_ble_eq_true rfl, Nat.le_of_ble_eq_true rfl⟩) hK hP hD hS 0 rfl rfl (Eq.refl [h7, xa, h, ad 1, ad 2, ad 3, ad 4, ad 5, ad 6, ad 7]) rfl hl.1 rfl (Nat.le_of_ble_eq_true rfl) dX5_tellItem_78 ⟨Nat.zero_le _, Nat.zero_le _⟩ (fun H locs hP hD hS => ?_)
          show W _ _ _ _ _ _ _ _ _ _ _ _ _ _ _ (F0 _ _ _ [.int (iZ (bZ ((tPers tx ln (sgE tx ln (sgE tx ln (sgE tx ln pl 103) 116) 112) su K).1)))])
          replace hP : va_P G vwCl [(h7, .inr (5, [.ref xa, .int (iZ ((ln : Nat) : Int)), .int (iZ (((tPers tx ln (sgE tx ln (sgE tx ln (sgE tx ln pl 103) 116) 112) su K).2.1 : Nat) : Int)), .int (iZ (bZ ((tPers tx ln (sgE tx ln (sgE tx ln (sgE tx ln pl 103) 116) 112) su K).2.2.2.2.1))), .int (iZ (((tPers tx ln (sgE tx ln (sgE tx ln (sgE tx ln pl 103) 116) 112) su K).2.2.1 : Nat) : Int)), .int (iZ ((tPers tx ln (sgE tx ln (sgE tx ln (sgE tx ln pl 103) 116) 112) su K).2.2.2.1))])), (xa, .inl (Y 2, 200, .inl (aI tx))), (h, .inr (0, [.int (iZ ((tPers tx ln (sgE tx ln (sgE tx ln (sgE tx ln pl 103) 116) 112) su K).2.2.2.2.2 0 0)), .int (iZ ((tPers tx ln (sgE tx ln (sgE tx ln (sgE tx ln pl 103) 116) 112) su K).2.2.2.2.2 0 1)), .int (iZ ((tPers tx ln (sgE tx ln (sgE tx ln (sgE tx ln pl 103) 116) 112) su K).2.2.2.2.2 0 2)), .int (iZ ((tPers tx ln (sgE tx ln (sgE tx ln (sgE tx ln pl 103) 116) 112) su K).2.2.2.2.2 0 3)), .int (iZ ((tPers tx ln (sgE tx ln (sgE tx ln (sgE tx ln pl 103) 116) 112) su K).2.2.2.2.2 0 4)), .int (iZ ((tPers tx ln (sgE tx ln (sgE tx ln (sgE tx ln pl 103) 116) 112) su K).2.2.2.2.2 0 5)), .int (iZ ((tPers tx ln (sgE tx ln (sgE tx ln (sgE tx ln pl 103) 116) 112) su K).2.2.2.2.2 0 6)), .ref (ad 1), .ref (ad 2), .ref (ad 3), .ref (ad 4), .ref (ad 5), .ref (ad 6), .ref (ad 7)])), (ad 1, .inl (Y 0, 6, .inl (aI ((tPers tx ln (sgE tx ln (sgE tx ln (sgE tx ln pl 103) 116) 112) su K).2.2.2.2.2 1)))), (ad 2, .inl (Y 0, 6, .inl (aI ((tPers tx ln (sgE tx ln (sgE tx ln (sgE tx ln pl 103) 116) 112) su K).2.2.2.2.2 2)))), (ad 3, .inl (Y 0, 6, .inl (aI ((tPers tx ln (sgE tx ln (sgE tx ln (sgE tx ln pl 103) 116) 112) su K).2.2.2.2.2 3)))), (ad 4, .inl (Y 1, 6, .inl (aI ((tPers tx ln (sgE tx ln (sgE tx ln (sgE tx ln pl 103) 116) 112) su K).2.2.2.2.2 4)))), (ad 5, .inl (Y 1, 6, .inl (aI ((tPers tx ln (sgE tx ln (sgE tx ln (sgE tx ln pl 103) 116) 112) su K).2.2.2.2.2 5)))), (ad 6, .inl (Y 0, 7, .inl (aI ((tPers tx ln (sgE tx ln (sgE tx ln (sgE tx ln pl 103) 116) 112) su K).2.2.2.2.2 6)))), (ad 7, .inl (Y 0, 7, .inl (aI ((tPers tx ln (sgE tx ln (sgE tx ln (sgE tx ln pl 103) 116) 112) su K).2.2.2.2.2 7))))] H := hP
          replace hD : va_D _ [(h7, .inr (5, [.ref xa, .int (iZ ((ln : Nat) : Int)), .int (iZ (((tPers tx ln (sgE tx ln (sgE tx ln (sgE tx ln pl 103) 116) 112) su K).2.1 : Nat) : Int)), .int (iZ (bZ ((tPers tx ln (sgE tx ln (sgE tx ln (sgE tx ln pl 103) 116) 112) su K).2.2.2.2.1))), .int (iZ (((tPers tx ln (sgE tx ln (sgE tx ln (sgE tx ln pl 103) 116) 112) su K).2.2.1 : Nat) : Int)), .int (iZ ((tPers tx ln (sgE tx ln (sgE tx ln (sgE tx ln pl 103) 116) 112) su K).2.2.2.1))])), (xa, .inl (Y 2, 200, .inl (aI tx))), (h, .inr (0, [.int (iZ ((tPers tx ln (sgE tx ln (sgE tx ln (sgE tx ln pl 103) 116) 112) su K).2.2.2.2.2 0 0)), .int (iZ ((tPers tx ln (sgE tx ln (sgE tx ln (sgE tx ln pl 103) 116) 112) su K).2.2.2.2.2 0 1)), .int (iZ ((tPers tx ln (sgE tx ln (sgE tx ln (sgE tx ln pl 103) 116) 112) su K).2.2.2.2.2 0 2)), .int (iZ ((tPers tx ln (sgE tx ln (sgE tx ln (sgE tx ln pl 103) 116) 112) su K).2.2.2.2.2 0 3)), .int (iZ ((tPers tx ln (sgE tx ln (sgE tx ln (sgE tx ln pl 103) 116) 112) su K).2.2.2.2.2 0 4)), .int (iZ ((tPers tx ln (sgE tx ln (sgE tx ln (sgE tx ln pl 103) 116) 112) su K).2.2.2.2.2 0 5)), .int (iZ ((tPers tx ln (sgE tx ln (sgE tx ln (sgE tx ln pl 103) 116) 112) su K).2.2.2.2.2 0 6)), .ref (ad 1), .ref (ad 2), .ref (ad 3), .ref (ad 4), .ref (ad 5), .ref (ad 6), .ref (ad 7)])), (ad 1, .inl (Y 0, 6, .inl (aI ((tPers tx ln (sgE tx ln (sgE tx ln (sgE tx ln pl 103) 116) 112) su K).2.2.2.2.2 1)))), (ad 2, .inl (Y 0, 6, .inl (aI ((tPers tx ln (sgE tx ln (sgE tx ln (sgE tx ln pl 103) 116) 112) su K).2.2.2.2.2 2)))), (ad 3, .inl (Y 0, 6, .inl (aI ((tPers tx ln (sgE tx ln (sgE tx ln (sgE tx ln pl 103) 116) 112) su K).2.2.2.2.2 3)))), (ad 4, .inl (Y 1, 6, .inl (aI ((tPers tx ln (sgE tx ln (sgE tx ln (sgE tx ln pl 103) 116) 112) su K).2.2.2.2.2 4)))), (ad 5, .inl (Y 1, 6, .inl (aI ((tPers tx ln (sgE tx ln (sgE tx ln (sgE tx ln pl 103) 116) 112) su K).2.2.2.2.2 5)))), (ad 6, .inl (Y 0, 7, .inl (aI ((tPers tx ln (sgE tx ln (sgE tx ln (sgE tx ln pl 103) 116) 112) su K).2.2.2.2.2 6)))), (ad 7, .inl (Y 0, 7, .inl (aI ((tPers tx ln (sgE tx ln (sgE tx ln (sgE tx ln pl 103) 116) 112) su K).2.2.2.2.2 7))))] := hD
          refine z_ifb_eq (tgt := 88) hx hb dX5_tellItem_81 (by decide) (fun c_16 => ?_) (fun c_16 => ?_)
          · skip
            refine z_iconst hx hb dX5_tellItem_88 ?_
            have e9 : tItem tx ln pl su nu K fi = tPers tx ln (sgE tx ln (sgE tx ln (sgE tx ln pl 103) 116) 112) su K := by unfold tItem; simp only [c_3, c_6, c_9, c_16, decide_eq_true (show K 0 3 < 7 by omega), cond_true, cond_false]
            refine z_top (show 0 = bZ (tItem tx ln pl su nu K fi).1 from ?_) ?_
            · rw [e9, c_16]; rfl
            have hP9 : va_P G vwCl (txR Y h7 xa tx ln h ad (tItem tx ln pl su nu K fi)) H := by rw [e9]; exact hP.sub [0, 1, 2, 3, 4, 5, 6, 7, 8, 9] rfl
            exact W.zret (v := iZ (bZ (tItem tx ln pl su nu K fi).1)) hx hb hr (b01_nar (bZ_in _)) (fun t9 ht9 _ => ⟨rfl, by rw [ht9]; exact hP9, hS.F ht9⟩) hS.2.2 dX5_tellItem_89
          · skip
            refine z_iconst hx hb dX5_tellItem_84 ?_
            refine lv_goto (tgt := 89) hx hb dX5_tellItem_85 (by decide) ?_
            have e9 : tItem tx ln pl su nu K fi = tPers tx ln (sgE tx ln (sgE tx ln (sgE tx ln pl 103) 116) 112) su K := by unfold tItem; simp only [c_3, c_6, c_9, c_16, decide_eq_true (show K 0 3 < 7 by omega), cond_true, cond_false]
            refine z_top (show 1 = bZ (tItem tx ln pl su nu K fi).1 from ?_) ?_
            · rw [e9, c_16]; rfl
            have hP9 : va_P G vwCl (txR Y h7 xa tx ln h ad (tItem tx ln pl su nu K fi)) H := by rw [e9]; exact hP.sub [0, 1, 2, 3, 4, 5, 6, 7, 8, 9] rfl
            exact W.zret (v := iZ (bZ (tItem tx ln pl su nu K fi).1)) hx hb hr (b01_nar (bZ_in _)) (fun t9 ht9 _ => ⟨rfl, by rw [ht9]; exact hP9, hS.F ht9⟩) hS.2.2 dX5_tellItem_89
    · skip
      refine lv_aload_n hx hb dX5_tellItem_36 rfl (lv_at hl 1 rfl) ?_
      refine va_get (D := G) (ci := 0) (v := .int (iZ (K 0 2))) (C := RX0) (T := TX0) (N := 14) hx hb hts hFX0 hown hK.1 hP 2 rfl rfl 2 (by decide) kf49 (fun _ h9 => h9) rfl dX5_tellItem_37 ?_
      refine z_iconst hx hb dX5_tellItem_40 ?_
      refine z_icmp_ge (tgt := 56) hx hb dX5_tellItem_41 (by decide) (by omega) (fun c_17 => ?_) (fun c_17 => ?_)
      · skip
        refine z_iconst hx hb dX5_tellItem_56 ?_
        have e9 : tItem tx ln pl su nu K fi = (false, sgE tx ln (sgE tx ln pl 103) 116, sk tx ln (sgE tx ln pl 103), nu, su, K) := by unfold tItem; simp only [c_3, c_6, decide_eq_false (show ¬ K 0 2 < 5 by omega), cond_true, cond_false]
        refine z_top (show 0 = bZ (tItem tx ln pl su nu K fi).1 from ?_) ?_
        · rw [e9]; rfl
        have hP9 : va_P G vwCl (txR Y h7 xa tx ln h ad (tItem tx ln pl su nu K fi)) H := by rw [e9]; exact hP.sub [0, 1, 2, 3, 4, 5, 6, 7, 8, 9] rfl
        exact W.zret (v := iZ (bZ (tItem tx ln pl su nu K fi).1)) hx hb hr (b01_nar (bZ_in _)) (fun t9 ht9 _ => ⟨rfl, by rw [ht9]; exact hP9, hS.F ht9⟩) hS.2.2 dX5_tellItem_57
      · skip
        refine lv_aload_n hx hb dX5_tellItem_44 rfl (lv_at hl 0 rfl) ?_
        refine lv_aload_n hx hb dX5_tellItem_45 rfl (lv_at hl 1 rfl) ?_
        have hP := hP.sub (ws' := [(h7, .inr (5, [.ref xa, .int (iZ ((ln : Nat) : Int)), .int (iZ ((sgE tx ln (sgE tx ln pl 103) 116 : Nat) : Int)), .int (iZ (bZ su)), .int (iZ ((sk tx ln (sgE tx ln pl 103) : Nat) : Int)), .int (iZ nu)])), (xa, .inl (Y 2, 200, .inl (aI tx))), (h, .inr (0, [.int (iZ (K 0 0)), .int (iZ (K 0 1)), .int (iZ (K 0 2)), .int (iZ (K 0 3)), .int (iZ (K 0 4)), .int (iZ (K 0 5)), .int (iZ (K 0 6)), .ref (ad 1), .ref (ad 2), .ref (ad 3), .ref (ad 4), .ref (ad 5), .ref (ad 6), .ref (ad 7)])), (ad 1, .inl (Y 0, 6, .inl (aI (K 1)))), (ad 2, .inl (Y 0, 6, .inl (aI (K 2)))), (ad 3, .inl (Y 0, 6, .inl (aI (K 3)))), (ad 4, .inl (Y 1, 6, .inl (aI (K 4)))), (ad 5, .inl (Y 1, 6, .inl (aI (K 5)))), (ad 6, .inl (Y 0, 7, .inl (aI (K 6)))), (ad 7, .inl (Y 0, 7, .inl (aI (K 7))))] ++ []) [0, 1, 2, 3, 4, 5, 6, 7, 8, 9] rfl
        have hD := hD.sub (ws' := [(h7, .inr (5, [.ref xa, .int (iZ ((ln : Nat) : Int)), .int (iZ ((sgE tx ln (sgE tx ln pl 103) 116 : Nat) : Int)), .int (iZ (bZ su)), .int (iZ ((sk tx ln (sgE tx ln pl 103) : Nat) : Int)), .int (iZ nu)])), (xa, .inl (Y 2, 200, .inl (aI tx))), (h, .inr (0, [.int (iZ (K 0 0)), .int (iZ (K 0 1)), .int (iZ (K 0 2)), .int (iZ (K 0 3)), .int (iZ (K 0 4)), .int (iZ (K 0 5)), .int (iZ (K 0 6)), .ref (ad 1), .ref (ad 2), .ref (ad 3), .ref (ad 4), .ref (ad 5), .ref (ad 6), .ref (ad 7)])), (ad 1, .inl (Y 0, 6, .inl (aI (K 1)))), (ad 2, .inl (Y 0, 6, .inl (aI (K 2)))), (ad 3, .inl (Y 0, 6, .inl (aI (K 3)))), (ad 4, .inl (Y 1, 6, .inl (aI (K 4)))), (ad 5, .inl (Y 1, 6, .inl (aI (K 5)))), (ad 6, .inl (Y 0, 7, .inl (aI (K 6)))), (ad 7, .inl (Y 0, 7, .inl (aI (K 7))))] ++ []) [0, 1, 2, 3, 4, 5, 6, 7, 8, 9] (by decide) rfl
        refine mu_V (As := [.ref h]) (rest := []) (wc := [(h7, .inr (5, [.ref xa, .int (iZ ((ln : Nat) : Int)), .int (iZ ((sgE tx ln (sgE tx ln pl 103) 116 : Nat) : Int)), .int (iZ (bZ su)), .int (iZ ((sk tx ln (sgE tx ln pl 103) : Nat) : Int)), .int (iZ nu)])), (xa, .inl (Y 2, 200, .inl (aI tx))), (h, .inr (0, [.int (iZ (K 0 0)), .int (iZ (K 0 1)), .int (iZ (K 0 2)), .int (iZ (K 0 3)), .int (iZ (K 0 4)), .int (iZ (K 0 5)), .int (iZ (K 0 6)), .ref (ad 1), .ref (ad 2), .ref (ad 3), .ref (ad 4), .ref (ad 5), .ref (ad 6), .ref (ad 7)])), (ad 1, .inl (Y 0, 6, .inl (aI (K 1)))), (ad 2, .inl (Y 0, 6, .inl (aI (K 2)))), (ad 3, .inl (Y 0, 6, .inl (aI (K 3)))), (ad 4, .inl (Y 1, 6, .inl (aI (K 4)))), (ad 5, .inl (Y 1, 6, .inl (aI (K 5)))), (ad 6, .inl (Y 0, 7, .inl (aI (K 6)))), (ad 7, .inl (Y 0, 7, .inl (aI (K 7))))]) (wc' := txR Y h7 xa tx ln h ad (tTree tx ln (sgE tx ln (sgE tx ln pl 103) 116) su K)) (F := []) ⟨hx, hb, hml, hown, hts⟩ (c_X5_tellTree l G Y h7 xa tx hX ln (sgE tx ln (sgE tx ln pl 103) 116) su (sk tx ln (sgE tx ln pl 103)) nu (by omega) h ad K hW (by omega)) (cwV 1 hts gX5_tellItem_X5_tellTree rfl rfl rfl (by decide +kernel) ⟨Nat.le_of_ble_eq_true rfl, Nat.le_of_ble_eq_true rfl⟩) hK hP hD hS 0 rfl rfl (Eq.refl [h7, xa, h, ad 1, ad 2, ad 3, ad 4, ad 5, ad 6, ad 7]) rfl hl.1 rfl (Nat.le_of_ble_eq_true rfl) dX5_tellItem_46 ⟨Nat.zero_le _, Nat.zero_le _⟩ (fun H locs hP hD hS => ?_)
        show W _ _ _ _ _ _ _ _ _ _ _ _ _ _ _ (F0 _ _ _ [.int (iZ (bZ ((tTree tx ln (sgE tx ln (sgE tx ln pl 103) 116) su K).1)))])
        replace hP : va_P G vwCl [(h7, .inr (5, [.ref xa, .int (iZ ((ln : Nat) : Int)), .int (iZ (((tTree tx ln (sgE tx ln (sgE tx ln pl 103) 116) su K).2.1 : Nat) : Int)), .int (iZ (bZ ((tTree tx ln (sgE tx ln (sgE tx ln pl 103) 116) su K).2.2.2.2.1))), .int (iZ (((tTree tx ln (sgE tx ln (sgE tx ln pl 103) 116) su K).2.2.1 : Nat) : Int)), .int (iZ ((tTree tx ln (sgE tx ln (sgE tx ln pl 103) 116) su K).2.2.2.1))])), (xa, .inl (Y 2, 200, .inl (aI tx))), (h, .inr (0, [.int (iZ ((tTree tx ln (sgE tx ln (sgE tx ln pl 103) 116) su K).2.2.2.2.2 0 0)), .int (iZ ((tTree tx ln (sgE tx ln (sgE tx ln pl 103) 116) su K).2.2.2.2.2 0 1)), .int (iZ ((tTree tx ln (sgE tx ln (sgE tx ln pl 103) 116) su K).2.2.2.2.2 0 2)), .int (iZ ((tTree tx ln (sgE tx ln (sgE tx ln pl 103) 116) su K).2.2.2.2.2 0 3)), .int (iZ ((tTree tx ln (sgE tx ln (sgE tx ln pl 103) 116) su K).2.2.2.2.2 0 4)), .int (iZ ((tTree tx ln (sgE tx ln (sgE tx ln pl 103) 116) su K).2.2.2.2.2 0 5)), .int (iZ ((tTree tx ln (sgE tx ln (sgE tx ln pl 103) 116) su K).2.2.2.2.2 0 6)), .ref (ad 1), .ref (ad 2), .ref (ad 3), .ref (ad 4), .ref (ad 5), .ref (ad 6), .ref (ad 7)])), (ad 1, .inl (Y 0, 6, .inl (aI ((tTree tx ln (sgE tx ln (sgE tx ln pl 103) 116) su K).2.2.2.2.2 1)))), (ad 2, .inl (Y 0, 6, .inl (aI ((tTree tx ln (sgE tx ln (sgE tx ln pl 103) 116) su K).2.2.2.2.2 2)))), (ad 3, .inl (Y 0, 6, .inl (aI ((tTree tx ln (sgE tx ln (sgE tx ln pl 103) 116) su K).2.2.2.2.2 3)))), (ad 4, .inl (Y 1, 6, .inl (aI ((tTree tx ln (sgE tx ln (sgE tx ln pl 103) 116) su K).2.2.2.2.2 4)))), (ad 5, .inl (Y 1, 6, .inl (aI ((tTree tx ln (sgE tx ln (sgE tx ln pl 103) 116) su K).2.2.2.2.2 5)))), (ad 6, .inl (Y 0, 7, .inl (aI ((tTree tx ln (sgE tx ln (sgE tx ln pl 103) 116) su K).2.2.2.2.2 6)))), (ad 7, .inl (Y 0, 7, .inl (aI ((tTree tx ln (sgE tx ln (sgE tx ln pl 103) 116) su K).2.2.2.2.2 7))))] H := hP
        replace hD : va_D _ [(h7, .inr (5, [.ref xa, .int (iZ ((ln : Nat) : Int)), .int (iZ (((tTree tx ln (sgE tx ln (sgE tx ln pl 103) 116) su K).2.1 : Nat) : Int)), .int (iZ (bZ ((tTree tx ln (sgE tx ln (sgE tx ln pl 103) 116) su K).2.2.2.2.1))), .int (iZ (((tTree tx ln (sgE tx ln (sgE tx ln pl 103) 116) su K).2.2.1 : Nat) : Int)), .int (iZ ((tTree tx ln (sgE tx ln (sgE tx ln pl 103) 116) su K).2.2.2.1))])), (xa, .inl (Y 2, 200, .inl (aI tx))), (h, .inr (0, [.int (iZ ((tTree tx ln (sgE tx ln (sgE tx ln pl 103) 116) su K).2.2.2.2.2 0 0)), .int (iZ ((tTree tx ln (sgE tx ln (sgE tx ln pl 103) 116) su K).2.2.2.2.2 0 1)), .int (iZ ((tTree tx ln (sgE tx ln (sgE tx ln pl 103) 116) su K).2.2.2.2.2 0 2)), .int (iZ ((tTree tx ln (sgE tx ln (sgE tx ln pl 103) 116) su K).2.2.2.2.2 0 3)), .int (iZ ((tTree tx ln (sgE tx ln (sgE tx ln pl 103) 116) su K).2.2.2.2.2 0 4)), .int (iZ ((tTree tx ln (sgE tx ln (sgE tx ln pl 103) 116) su K).2.2.2.2.2 0 5)), .int (iZ ((tTree tx ln (sgE tx ln (sgE tx ln pl 103) 116) su K).2.2.2.2.2 0 6)), .ref (ad 1), .ref (ad 2), .ref (ad 3), .ref (ad 4), .ref (ad 5), .ref (ad 6), .ref (ad 7)])), (ad 1, .inl (Y 0, 6, .inl (aI ((tTree tx ln (sgE tx ln (sgE tx ln pl 103) 116) su K).2.2.2.2.2 1)))), (ad 2, .inl (Y 0, 6, .inl (aI ((tTree tx ln (sgE tx ln (sgE tx ln pl 103) 116) su K).2.2.2.2.2 2)))), (ad 3, .inl (Y 0, 6, .inl (aI ((tTree tx ln (sgE tx ln (sgE tx ln pl 103) 116) su K).2.2.2.2.2 3)))), (ad 4, .inl (Y 1, 6, .inl (aI ((tTree tx ln (sgE tx ln (sgE tx ln pl 103) 116) su K).2.2.2.2.2 4)))), (ad 5, .inl (Y 1, 6, .inl (aI ((tTree tx ln (sgE tx ln (sgE tx ln pl 103) 116) su K).2.2.2.2.2 5)))), (ad 6, .inl (Y 0, 7, .inl (aI ((tTree tx ln (sgE tx ln (sgE tx ln pl 103) 116) su K).2.2.2.2.2 6)))), (ad 7, .inl (Y 0, 7, .inl (aI ((tTree tx ln (sgE tx ln (sgE tx ln pl 103) 116) su K).2.2.2.2.2 7))))] := hD
        refine z_ifb_eq (tgt := 56) hx hb dX5_tellItem_49 (by decide) (fun c_18 => ?_) (fun c_18 => ?_)
        · skip
          refine z_iconst hx hb dX5_tellItem_56 ?_
          have e9 : tItem tx ln pl su nu K fi = tTree tx ln (sgE tx ln (sgE tx ln pl 103) 116) su K := by unfold tItem; simp only [c_3, c_6, c_18, decide_eq_true (show K 0 2 < 5 by omega), cond_true, cond_false]
          refine z_top (show 0 = bZ (tItem tx ln pl su nu K fi).1 from ?_) ?_
          · rw [e9, c_18]; rfl
          have hP9 : va_P G vwCl (txR Y h7 xa tx ln h ad (tItem tx ln pl su nu K fi)) H := by rw [e9]; exact hP.sub [0, 1, 2, 3, 4, 5, 6, 7, 8, 9] rfl
          exact W.zret (v := iZ (bZ (tItem tx ln pl su nu K fi).1)) hx hb hr (b01_nar (bZ_in _)) (fun t9 ht9 _ => ⟨rfl, by rw [ht9]; exact hP9, hS.F ht9⟩) hS.2.2 dX5_tellItem_57
        · skip
          refine z_iconst hx hb dX5_tellItem_52 ?_
          refine lv_goto (tgt := 57) hx hb dX5_tellItem_53 (by decide) ?_
          have e9 : tItem tx ln pl su nu K fi = tTree tx ln (sgE tx ln (sgE tx ln pl 103) 116) su K := by unfold tItem; simp only [c_3, c_6, c_18, decide_eq_true (show K 0 2 < 5 by omega), cond_true, cond_false]
          refine z_top (show 1 = bZ (tItem tx ln pl su nu K fi).1 from ?_) ?_
          · rw [e9, c_18]; rfl
          have hP9 : va_P G vwCl (txR Y h7 xa tx ln h ad (tItem tx ln pl su nu K fi)) H := by rw [e9]; exact hP.sub [0, 1, 2, 3, 4, 5, 6, 7, 8, 9] rfl
          exact W.zret (v := iZ (bZ (tItem tx ln pl su nu K fi).1)) hx hb hr (b01_nar (bZ_in _)) (fun t9 ht9 _ => ⟨rfl, by rw [ht9]; exact hP9, hS.F ht9⟩) hS.2.2 dX5_tellItem_57
  · skip
    refine lv_iload_n hx hb dX5_tellItem_9 rfl (lv_at hl 2 rfl) ?_
    refine z_ifb_eq (tgt := 25) hx hb dX5_tellItem_10 (by decide) (fun c_19 => ?_) (fun c_19 => ?_)
    · skip
      refine z_iconst hx hb dX5_tellItem_25 ?_
      have e9 : tItem tx ln pl su nu K fi = (false, sgE tx ln pl 103, sk tx ln pl, nu, su, K) := by unfold tItem; simp only [c_3, c_19, cond_true, cond_true, cond_false]
      refine z_top (show 0 = bZ (tItem tx ln pl su nu K fi).1 from ?_) ?_
      · rw [e9]; rfl
      have hP9 : va_P G vwCl (txR Y h7 xa tx ln h ad (tItem tx ln pl su nu K fi)) H := by rw [e9]; exact hP.sub [0, 1, 2, 3, 4, 5, 6, 7, 8, 9] rfl
      exact W.zret (v := iZ (bZ (tItem tx ln pl su nu K fi).1)) hx hb hr (b01_nar (bZ_in _)) (fun t9 ht9 _ => ⟨rfl, by rw [ht9]; exact hP9, hS.F ht9⟩) hS.2.2 dX5_tellItem_26
    · skip
      refine lv_aload_n hx hb dX5_tellItem_13 rfl (lv_at hl 0 rfl) ?_
      refine lv_aload_n hx hb dX5_tellItem_14 rfl (lv_at hl 1 rfl) ?_
      have hP := hP.sub (ws' := [(h7, .inr (5, [.ref xa, .int (iZ ((ln : Nat) : Int)), .int (iZ ((sgE tx ln pl 103 : Nat) : Int)), .int (iZ (bZ su)), .int (iZ ((sk tx ln pl : Nat) : Int)), .int (iZ nu)])), (xa, .inl (Y 2, 200, .inl (aI tx))), (h, .inr (0, [.int (iZ (K 0 0)), .int (iZ (K 0 1)), .int (iZ (K 0 2)), .int (iZ (K 0 3)), .int (iZ (K 0 4)), .int (iZ (K 0 5)), .int (iZ (K 0 6)), .ref (ad 1), .ref (ad 2), .ref (ad 3), .ref (ad 4), .ref (ad 5), .ref (ad 6), .ref (ad 7)])), (ad 1, .inl (Y 0, 6, .inl (aI (K 1)))), (ad 2, .inl (Y 0, 6, .inl (aI (K 2)))), (ad 3, .inl (Y 0, 6, .inl (aI (K 3)))), (ad 4, .inl (Y 1, 6, .inl (aI (K 4)))), (ad 5, .inl (Y 1, 6, .inl (aI (K 5)))), (ad 6, .inl (Y 0, 7, .inl (aI (K 6)))), (ad 7, .inl (Y 0, 7, .inl (aI (K 7))))] ++ []) [0, 1, 2, 3, 4, 5, 6, 7, 8, 9] rfl
      have hD := hD.sub (ws' := [(h7, .inr (5, [.ref xa, .int (iZ ((ln : Nat) : Int)), .int (iZ ((sgE tx ln pl 103 : Nat) : Int)), .int (iZ (bZ su)), .int (iZ ((sk tx ln pl : Nat) : Int)), .int (iZ nu)])), (xa, .inl (Y 2, 200, .inl (aI tx))), (h, .inr (0, [.int (iZ (K 0 0)), .int (iZ (K 0 1)), .int (iZ (K 0 2)), .int (iZ (K 0 3)), .int (iZ (K 0 4)), .int (iZ (K 0 5)), .int (iZ (K 0 6)), .ref (ad 1), .ref (ad 2), .ref (ad 3), .ref (ad 4), .ref (ad 5), .ref (ad 6), .ref (ad 7)])), (ad 1, .inl (Y 0, 6, .inl (aI (K 1)))), (ad 2, .inl (Y 0, 6, .inl (aI (K 2)))), (ad 3, .inl (Y 0, 6, .inl (aI (K 3)))), (ad 4, .inl (Y 1, 6, .inl (aI (K 4)))), (ad 5, .inl (Y 1, 6, .inl (aI (K 5)))), (ad 6, .inl (Y 0, 7, .inl (aI (K 6)))), (ad 7, .inl (Y 0, 7, .inl (aI (K 7))))] ++ []) [0, 1, 2, 3, 4, 5, 6, 7, 8, 9] (by decide) rfl
      refine mu_V (As := [.ref h]) (rest := []) (wc := [(h7, .inr (5, [.ref xa, .int (iZ ((ln : Nat) : Int)), .int (iZ ((sgE tx ln pl 103 : Nat) : Int)), .int (iZ (bZ su)), .int (iZ ((sk tx ln pl : Nat) : Int)), .int (iZ nu)])), (xa, .inl (Y 2, 200, .inl (aI tx))), (h, .inr (0, [.int (iZ (K 0 0)), .int (iZ (K 0 1)), .int (iZ (K 0 2)), .int (iZ (K 0 3)), .int (iZ (K 0 4)), .int (iZ (K 0 5)), .int (iZ (K 0 6)), .ref (ad 1), .ref (ad 2), .ref (ad 3), .ref (ad 4), .ref (ad 5), .ref (ad 6), .ref (ad 7)])), (ad 1, .inl (Y 0, 6, .inl (aI (K 1)))), (ad 2, .inl (Y 0, 6, .inl (aI (K 2)))), (ad 3, .inl (Y 0, 6, .inl (aI (K 3)))), (ad 4, .inl (Y 1, 6, .inl (aI (K 4)))), (ad 5, .inl (Y 1, 6, .inl (aI (K 5)))), (ad 6, .inl (Y 0, 7, .inl (aI (K 6)))), (ad 7, .inl (Y 0, 7, .inl (aI (K 7))))]) (wc' := txR Y h7 xa tx ln h ad (tLand tx ln (sgE tx ln pl 103) su K)) (F := []) ⟨hx, hb, hml, hown, hts⟩ (c_X5_tellLand l G Y h7 xa tx hX ln (sgE tx ln pl 103) su (sk tx ln pl) nu (by omega) h ad K ) (cwV 1 hts gX5_tellItem_X5_tellLand rfl rfl rfl (by decide +kernel) ⟨Nat.le_of_ble_eq_true rfl, Nat.le_of_ble_eq_true rfl⟩) hK hP hD hS 0 rfl rfl (Eq.refl [h7, xa, h, ad 1, ad 2, ad 3, ad 4, ad 5, ad 6, ad 7]) rfl hl.1 rfl (Nat.le_of_ble_eq_true rfl) dX5_tellItem_15 ⟨Nat.zero_le _, Nat.zero_le _⟩ (fun H locs hP hD hS => ?_)
      show W _ _ _ _ _ _ _ _ _ _ _ _ _ _ _ (F0 _ _ _ [.int (iZ (bZ ((tLand tx ln (sgE tx ln pl 103) su K).1)))])
      replace hP : va_P G vwCl [(h7, .inr (5, [.ref xa, .int (iZ ((ln : Nat) : Int)), .int (iZ (((tLand tx ln (sgE tx ln pl 103) su K).2.1 : Nat) : Int)), .int (iZ (bZ ((tLand tx ln (sgE tx ln pl 103) su K).2.2.2.2.1))), .int (iZ (((tLand tx ln (sgE tx ln pl 103) su K).2.2.1 : Nat) : Int)), .int (iZ ((tLand tx ln (sgE tx ln pl 103) su K).2.2.2.1))])), (xa, .inl (Y 2, 200, .inl (aI tx))), (h, .inr (0, [.int (iZ ((tLand tx ln (sgE tx ln pl 103) su K).2.2.2.2.2 0 0)), .int (iZ ((tLand tx ln (sgE tx ln pl 103) su K).2.2.2.2.2 0 1)), .int (iZ ((tLand tx ln (sgE tx ln pl 103) su K).2.2.2.2.2 0 2)), .int (iZ ((tLand tx ln (sgE tx ln pl 103) su K).2.2.2.2.2 0 3)), .int (iZ ((tLand tx ln (sgE tx ln pl 103) su K).2.2.2.2.2 0 4)), .int (iZ ((tLand tx ln (sgE tx ln pl 103) su K).2.2.2.2.2 0 5)), .int (iZ ((tLand tx ln (sgE tx ln pl 103) su K).2.2.2.2.2 0 6)), .ref (ad 1), .ref (ad 2), .ref (ad 3), .ref (ad 4), .ref (ad 5), .ref (ad 6), .ref (ad 7)])), (ad 1, .inl (Y 0, 6, .inl (aI ((tLand tx ln (sgE tx ln pl 103) su K).2.2.2.2.2 1)))), (ad 2, .inl (Y 0, 6, .inl (aI ((tLand tx ln (sgE tx ln pl 103) su K).2.2.2.2.2 2)))), (ad 3, .inl (Y 0, 6, .inl (aI ((tLand tx ln (sgE tx ln pl 103) su K).2.2.2.2.2 3)))), (ad 4, .inl (Y 1, 6, .inl (aI ((tLand tx ln (sgE tx ln pl 103) su K).2.2.2.2.2 4)))), (ad 5, .inl (Y 1, 6, .inl (aI ((tLand tx ln (sgE tx ln pl 103) su K).2.2.2.2.2 5)))), (ad 6, .inl (Y 0, 7, .inl (aI ((tLand tx ln (sgE tx ln pl 103) su K).2.2.2.2.2 6)))), (ad 7, .inl (Y 0, 7, .inl (aI ((tLand tx ln (sgE tx ln pl 103) su K).2.2.2.2.2 7))))] H := hP
      replace hD : va_D _ [(h7, .inr (5, [.ref xa, .int (iZ ((ln : Nat) : Int)), .int (iZ (((tLand tx ln (sgE tx ln pl 103) su K).2.1 : Nat) : Int)), .int (iZ (bZ ((tLand tx ln (sgE tx ln pl 103) su K).2.2.2.2.1))), .int (iZ (((tLand tx ln (sgE tx ln pl 103) su K).2.2.1 : Nat) : Int)), .int (iZ ((tLand tx ln (sgE tx ln pl 103) su K).2.2.2.1))])), (xa, .inl (Y 2, 200, .inl (aI tx))), (h, .inr (0, [.int (iZ ((tLand tx ln (sgE tx ln pl 103) su K).2.2.2.2.2 0 0)), .int (iZ ((tLand tx ln (sgE tx ln pl 103) su K).2.2.2.2.2 0 1)), .int (iZ ((tLand tx ln (sgE tx ln pl 103) su K).2.2.2.2.2 0 2)), .int (iZ ((tLand tx ln (sgE tx ln pl 103) su K).2.2.2.2.2 0 3)), .int (iZ ((tLand tx ln (sgE tx ln pl 103) su K).2.2.2.2.2 0 4)), .int (iZ ((tLand tx ln (sgE tx ln pl 103) su K).2.2.2.2.2 0 5)), .int (iZ ((tLand tx ln (sgE tx ln pl 103) su K).2.2.2.2.2 0 6)), .ref (ad 1), .ref (ad 2), .ref (ad 3), .ref (ad 4), .ref (ad 5), .ref (ad 6), .ref (ad 7)])), (ad 1, .inl (Y 0, 6, .inl (aI ((tLand tx ln (sgE tx ln pl 103) su K).2.2.2.2.2 1)))), (ad 2, .inl (Y 0, 6, .inl (aI ((tLand tx ln (sgE tx ln pl 103) su K).2.2.2.2.2 2)))), (ad 3, .inl (Y 0, 6, .inl (aI ((tLand tx ln (sgE tx ln pl 103) su K).2.2.2.2.2 3)))), (ad 4, .inl (Y 1, 6, .inl (aI ((tLand tx ln (sgE tx ln pl 103) su K).2.2.2.2.2 4)))), (ad 5, .inl (Y 1, 6, .inl (aI ((tLand tx ln (sgE tx ln pl 103) su K).2.2.2.2.2 5)))), (ad 6, .inl (Y 0, 7, .inl (aI ((tLand tx ln (sgE tx ln pl 103) su K).2.2.2.2.2 6)))), (ad 7, .inl (Y 0, 7, .inl (aI ((tLand tx ln (sgE tx ln pl 103) su K).2.2.2.2.2 7))))] := hD
      refine z_ifb_eq (tgt := 25) hx hb dX5_tellItem_18 (by decide) (fun c_20 => ?_) (fun c_20 => ?_)
      · skip
        refine z_iconst hx hb dX5_tellItem_25 ?_
        have e9 : tItem tx ln pl su nu K fi = tLand tx ln (sgE tx ln pl 103) su K := by unfold tItem; simp only [c_3, c_19, c_20, cond_true, cond_true, cond_false]
        refine z_top (show 0 = bZ (tItem tx ln pl su nu K fi).1 from ?_) ?_
        · rw [e9, c_20]; rfl
        have hP9 : va_P G vwCl (txR Y h7 xa tx ln h ad (tItem tx ln pl su nu K fi)) H := by rw [e9]; exact hP.sub [0, 1, 2, 3, 4, 5, 6, 7, 8, 9] rfl
        exact W.zret (v := iZ (bZ (tItem tx ln pl su nu K fi).1)) hx hb hr (b01_nar (bZ_in _)) (fun t9 ht9 _ => ⟨rfl, by rw [ht9]; exact hP9, hS.F ht9⟩) hS.2.2 dX5_tellItem_26
      · skip
        refine z_iconst hx hb dX5_tellItem_21 ?_
        refine lv_goto (tgt := 26) hx hb dX5_tellItem_22 (by decide) ?_
        have e9 : tItem tx ln pl su nu K fi = tLand tx ln (sgE tx ln pl 103) su K := by unfold tItem; simp only [c_3, c_19, c_20, cond_true, cond_true, cond_false]
        refine z_top (show 1 = bZ (tItem tx ln pl su nu K fi).1 from ?_) ?_
        · rw [e9, c_20]; rfl
        have hP9 : va_P G vwCl (txR Y h7 xa tx ln h ad (tItem tx ln pl su nu K fi)) H := by rw [e9]; exact hP.sub [0, 1, 2, 3, 4, 5, 6, 7, 8, 9] rfl
        exact W.zret (v := iZ (bZ (tItem tx ln pl su nu K fi).1)) hx hb hr (b01_nar (bZ_in _)) (fun t9 ht9 _ => ⟨rfl, by rw [ht9]; exact hP9, hS.F ht9⟩) hS.2.2 dX5_tellItem_26
