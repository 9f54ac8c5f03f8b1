set_option maxHeartbeats 4000000 in
set_option maxRecDepth 100000 in
theorem c_X3_bestVote (l : Launch) (G : va_G) (Y : Nat → ClassId) (h : Nat) (ad : Nat → Nat) (K : Kom) (hW : cWF K) (p9 mo : Nat) (k : Int) (r : (p9 < 7 ∧ mo ≤ 2) ∧ 0 ≤ k ∧ k ≤ 9) : Met l yX3_bestVote wsX3_bestVote ({ frames := 3, cells := 0, slots := 0, locals := 70 }) (rP G Y [.ref h, .int (iZ ((p9 : Nat) : Int)), .int (iZ ((mo : Nat) : Int)), .int (iZ k)] (cmW Y h ad K)) (rQ (.int (iZ (bv K p9 mo k)))) 0 0 (fun _ => False) := by
  refine Met.ofW (cc := cX3_bestVote) (maxL := 6) (ret := (some .int)) (by decide) rfl ?_
  intro p e s m args below meth c s₁ B hml hv
  obtain ⟨rfl, hK, hP⟩ := hv
  have hx := B.exec
  have hb := B.bytes
  have hr := B.returns
  have hts := atoms_spec (ws := wsX3_bestVote) B.pre
  have hown : s.vm.findClass RX3 = some m.cls := findClass_of_methodNamed B.named
  have hlocks := B.notSynchronized
  have hFX0 : ∀ w ∈ wsX00, w ∈ wsX3_bestVote := by decide +kernel
  have kf64 := (hts (.fieldLink RX3 64 "ShadeVotes$Commune" "personWeight" "[I") (by decide +kernel))
  have kf50 := (hts (.fieldLink RX3 50 "ShadeVotes$Commune" "personCell" "[I") (by decide +kernel))
  have hl := lv_entry ([.ref h, .int (iZ ((p9 : Nat) : Int)), .int (iZ ((mo : Nat) : Int)), .int (iZ k)]) (n := 6) (Nat.le_of_ble_eq_true rfl)
  rw [lg_entry_eq]
  generalize (lg_sl ([.ref h, .int (iZ ((p9 : Nat) : Int)), .int (iZ ((mo : Nat) : Int)), .int (iZ k)]) ++ List.replicate (6 - (lg_sl ([.ref h, .int (iZ ((p9 : Nat) : Int)), .int (iZ ((mo : Nat) : Int)), .int (iZ k)])).length) Slot.unset).toArray = ls at hl ⊢
  replace hl : lv_has ls 6 [(0, .ref h), (1, .int (iZ ((p9 : Nat) : Int))), (2, .int (iZ ((mo : Nat) : Int))), (3, .int (iZ k))] := hl
  have h0 := hW.1
  have hnc := hW.nc
  refine z_iconst hx hb dX3_bestVote_0 ?_
  refine lv_istore (lv' := [(4, .int (iZ (-1))), (0, .ref h), (1, .int (iZ ((p9 : Nat) : Int))), (2, .int (iZ ((mo : Nat) : Int))), (3, .int (iZ k))]) hx hb dX3_bestVote_1 hl (by decide) rfl (fun ls hl => ?_)
  refine z_iconst hx hb dX3_bestVote_3 ?_
  refine lv_istore (lv' := [(5, .int (iZ 0)), (4, .int (iZ (-1))), (0, .ref h), (1, .int (iZ ((p9 : Nat) : Int))), (2, .int (iZ ((mo : Nat) : Int))), (3, .int (iZ k))]) hx hb dX3_bestVote_4 hl (by decide) rfl (fun ls hl => ?_)
  obtain ⟨i, q, hI, hl1⟩ : ∃ (i : Nat) (q : Int), (q = bvN K (K 6 p9) mo k i ∧ (i : Int) ≤ K 0 0 * K 0 1) ∧ lv_has ls 6 [(5, .int (iZ ((i : Nat) : Int))), (4, .int (iZ q)), (0, .ref h), (1, .int (iZ ((p9 : Nat) : Int))), (2, .int (iZ ((mo : Nat) : Int))), (3, .int (iZ k))] := ⟨0, -1, by exact ⟨rfl, by omega⟩, lv_sub hl [0, 1, 2, 3, 4, 5] rfl⟩
  clear hl
  have hl := hl1
  clear hl1
  obtain ⟨n_, hn_⟩ : ∃ n_ : Nat, (K 0 0 * K 0 1).toNat - i < n_ := ⟨_, Nat.lt_succ_self _⟩
  induction n_ generalizing i q ls with
  | zero => exact absurd hn_ (Nat.not_lt_zero _)
  | succ n_ ih1 =>
    have hq := bvN_in K (K 6 p9) mo k i
    have hp9 := hW.2.2.1 p9 (by omega)
    refine lv_iload hx hb dX3_bestVote_6 (lv_at hl 0 rfl) ?_
    refine lv_aload_n hx hb dX3_bestVote_8 rfl (lv_at hl 2 rfl) ?_
    refine ro_V (As := []) (rest := [.int (iZ ((i : Nat) : Int))]) ⟨hx, hb, hml, hown, hts⟩ (c_X0_cells l G Y h ad K hW ) (cwV 0 hts gX3_bestVote_X0_cells rfl rfl rfl (by decide +kernel) ⟨Nat.le_of_ble_eq_true rfl, Nat.le_of_ble_eq_true rfl⟩) hK (hP.sub (ws' := cmW Y h ad K) [0, 1, 2, 3, 4, 5, 6, 7] rfl) 0 rfl rfl rfl hl.1 rfl (Nat.le_of_ble_eq_true rfl) dX3_bestVote_9 ⟨Nat.zero_le _, Nat.zero_le _⟩ ?_
    refine z_icmp_ge (tgt := 51) hx hb dX3_bestVote_12 (by decide) (by omega) (fun c_2 => ?_) (fun c_2 => ?_)
    · skip
      refine lv_iload hx hb dX3_bestVote_51 (lv_at hl 1 rfl) ?_
      refine lv_aload_n hx hb dX3_bestVote_53 rfl (lv_at hl 2 rfl) ?_
      refine va_get (D := G) (ci := 0) (v := .ref (ad 7)) (C := RX0) (T := TX0) (N := 14) hx hb hts hFX0 hown hK.1 hP 0 rfl rfl 13 (by decide) kf64 (fun _ h9 => h9) rfl dX3_bestVote_54 ?_
      refine lv_iload_n hx hb dX3_bestVote_57 rfl (lv_at hl 3 rfl) ?_
      refine z_iald hx hb hK.1 hP 7 0 rfl rfl p9 (by omega) (by decide) dX3_bestVote_58 ?_
      have hb_3 := hW.2.2.1 p9 (by omega)
      refine z_imul hx hb dX3_bestVote_59 ?_
      refine z_top (show (q * (K 7) p9) = bv K p9 mo k from ?_) ?_
      · unfold bv; rw [hI.1, show (K 0 0 * K 0 1).toNat = i by omega]
      exact W.iret (v := iZ (bv K p9 mo k)) hx hb hr (fun t9 ht9 _ => ⟨rfl, ht9⟩) (fun q h => absurd h List.not_mem_nil) dX3_bestVote_60
    · skip
      refine lv_aload_n hx hb dX3_bestVote_15 rfl (lv_at hl 2 rfl) ?_
      refine lv_aload_n hx hb dX3_bestVote_16 rfl (lv_at hl 2 rfl) ?_
      refine va_get (D := G) (ci := 0) (v := .ref (ad 6)) (C := RX0) (T := TX0) (N := 14) hx hb hts hFX0 hown hK.1 hP 0 rfl rfl 12 (by decide) kf50 (fun _ h9 => h9) rfl dX3_bestVote_17 ?_
      refine lv_iload_n hx hb dX3_bestVote_20 rfl (lv_at hl 3 rfl) ?_
      refine z_iald hx hb hK.1 hP 6 0 rfl rfl p9 (by omega) (by decide) dX3_bestVote_21 ?_
      have hb_4 := hW.2.2.1 p9 (by omega)
      refine lv_iload hx hb dX3_bestVote_22 (lv_at hl 0 rfl) ?_
      refine ro_V (As := [.int (iZ ((K 6) p9)), .int (iZ ((i : Nat) : Int))]) (rest := []) ⟨hx, hb, hml, hown, hts⟩ (c_X0_steps l G Y h ad K hW ((K 6) p9) ((i : Nat) : Int) (by omega)) (cwV 2 hts gX3_bestVote_X0_steps rfl rfl rfl (by decide +kernel) ⟨Nat.le_of_ble_eq_true rfl, Nat.le_of_ble_eq_true rfl⟩) hK (hP.sub (ws' := cmW Y h ad K) [0, 1, 2, 3, 4, 5, 6, 7] rfl) 0 rfl rfl rfl hl.1 rfl (Nat.le_of_ble_eq_true rfl) dX3_bestVote_24 ⟨Nat.zero_le _, Nat.zero_le _⟩ ?_
      have hb_5 := stp_in hW (a := (K 6) p9) (b := ((i : Nat) : Int)) (by omega) (by omega)
      refine lv_iload_n hx hb dX3_bestVote_27 rfl (lv_at hl 5 rfl) ?_
      refine z_icmp_gt (tgt := 45) hx hb dX3_bestVote_28 (by decide) (by omega) (fun c_6 => ?_) (fun c_6 => ?_)
      · skip
        refine lv_iinc (v := iZ ((i + 1 : Nat) : Int)) (lv' := [(5, .int (iZ ((i + 1 : Nat) : Int))), (4, .int (iZ q)), (0, .ref h), (1, .int (iZ ((p9 : Nat) : Int))), (2, .int (iZ ((mo : Nat) : Int))), (3, .int (iZ k))]) hx hb dX3_bestVote_45 hl (k := 0) rfl (iZ_inc _) (by decide) rfl (fun ls hl => ?_)
        refine lv_goto (tgt := 6) hx hb dX3_bestVote_48 (by decide) ?_
        exact ih1 (ls := ls) (i := i + 1) (q := q) (hI := by exact ⟨by rw [bvN]; first | rw [if_pos (by omega), hI.1] | rw [if_neg (by omega), hI.1], by omega⟩) (hl := lv_sub hl [0, 1, 2, 3, 4, 5] rfl) (hn_ := by omega)
      · skip
        refine lv_iload hx hb dX3_bestVote_31 (lv_at hl 1 rfl) ?_
        refine lv_aload_n hx hb dX3_bestVote_33 rfl (lv_at hl 2 rfl) ?_
        refine lv_iload hx hb dX3_bestVote_34 (lv_at hl 0 rfl) ?_
        refine lv_iload_n hx hb dX3_bestVote_36 rfl (lv_at hl 4 rfl) ?_
        refine ro_V (As := [.int (iZ ((i : Nat) : Int)), .int (iZ ((mo : Nat) : Int))]) (rest := [.int (iZ q)]) ⟨hx, hb, hml, hown, hts⟩ (c_X0_voiceAt l G Y h ad K hW ((i : Nat) : Int) mo (by omega)) (cwV 2 hts gX3_bestVote_X0_voiceAt rfl rfl rfl (by decide +kernel) ⟨Nat.le_of_ble_eq_true rfl, Nat.le_of_ble_eq_true rfl⟩) hK (hP.sub (ws' := cmW Y h ad K) [0, 1, 2, 3, 4, 5, 6, 7] rfl) 0 rfl rfl rfl hl.1 rfl (Nat.le_of_ble_eq_true rfl) dX3_bestVote_37 ⟨Nat.zero_le _, Nat.zero_le _⟩ ?_
        have hb_7 := vo_in K ((i : Nat) : Int) mo
        refine z_mmax hx hb (hml.trans hl.1.symm) hown (hts (.methodLink RX3 59 Lib.Math.max.name) (by decide +kernel)) (hts (.static Lib.Math.max.name) (by decide +kernel)) (hts (.initialized "java/lang/Math") (by decide +kernel)) (hts (.code Lib.Math.max.name Lib.Math.max.code 2 (some .int)) (by decide +kernel)) (Nat.le_of_ble_eq_true rfl) (Nat.le_of_ble_eq_true rfl) (Nat.zero_le _) (Nat.zero_le _) (by omega) dX3_bestVote_40 ?_
        refine lv_istore (lv' := [(4, .int (iZ (max q (vo K ((i : Nat) : Int) mo)))), (5, .int (iZ ((i : Nat) : Int))), (0, .ref h), (1, .int (iZ ((p9 : Nat) : Int))), (2, .int (iZ ((mo : Nat) : Int))), (3, .int (iZ k))]) hx hb dX3_bestVote_43 hl (by decide) rfl (fun ls hl => ?_)
        refine lv_iinc (v := iZ ((i + 1 : Nat) : Int)) (lv' := [(5, .int (iZ ((i + 1 : Nat) : Int))), (4, .int (iZ (max q (vo K ((i : Nat) : Int) mo)))), (0, .ref h), (1, .int (iZ ((p9 : Nat) : Int))), (2, .int (iZ ((mo : Nat) : Int))), (3, .int (iZ k))]) hx hb dX3_bestVote_45 hl (k := 1) rfl (iZ_inc _) (by decide) rfl (fun ls hl => ?_)
        refine lv_goto (tgt := 6) hx hb dX3_bestVote_48 (by decide) ?_
        exact ih1 (ls := ls) (i := i + 1) (q := (max q (vo K ((i : Nat) : Int) mo))) (hI := by exact ⟨by rw [bvN]; first | rw [if_pos (by omega), hI.1] | rw [if_neg (by omega), hI.1], by omega⟩) (hl := lv_sub hl [0, 1, 2, 3, 4, 5] rfl) (hn_ := by omega)

set_option maxHeartbeats 4000000 in
set_option maxRecDepth 100000 in
theorem c_X3_sumOfVotes (l : Launch) (G : va_G) (Y : Nat → ClassId) (h4 ht va vb : Nat) (E C : Nat → Int) (n9 : Int) (ch : Nat) (r : (0 ≤ n9 ∧ n9 ≤ 7) ∧ ch < 2147483648) : Met l yX3_sumOfVotes wsX3_sumOfVotes ({ frames := 1, cells := 0, slots := 0, locals := 21 }) (rP G Y [.ref h4, .int (iZ n9), .int (iZ ((ch : Nat) : Int))] (quW Y h4 ht va vb E C)) (rQ (.int (iZ (svN E C ch n9.toNat)))) 0 0 (fun _ => False) := by
  refine Met.ofW (cc := cX3_sumOfVotes) (maxL := 5) (ret := (some .int)) (by decide) rfl ?_
  intro p e s m args below meth c s₁ B hml hv
  obtain ⟨rfl, hK, hP⟩ := hv
  have hx := B.exec
  have hb := B.bytes
  have hr := B.returns
  have hts := atoms_spec (ws := wsX3_sumOfVotes) B.pre
  have hown : s.vm.findClass RX3 = some m.cls := findClass_of_methodNamed B.named
  have hlocks := B.notSynchronized
  have hFX3 : ∀ w ∈ wsX30, w ∈ wsX3_sumOfVotes := by decide +kernel
  have kf18 := (hts (.fieldLink RX3 18 "ShadeVotes$Question" "voteElse" "[I") (by decide +kernel))
  have kf22 := (hts (.fieldLink RX3 22 "ShadeVotes$Question" "voteIfChosen" "[I") (by decide +kernel))
  have hl := lv_entry ([.ref h4, .int (iZ n9), .int (iZ ((ch : Nat) : Int))]) (n := 5) (Nat.le_of_ble_eq_true rfl)
  rw [lg_entry_eq]
  generalize (lg_sl ([.ref h4, .int (iZ n9), .int (iZ ((ch : Nat) : Int))]) ++ List.replicate (5 - (lg_sl ([.ref h4, .int (iZ n9), .int (iZ ((ch : Nat) : Int))])).length) Slot.unset).toArray = ls at hl ⊢
  replace hl : lv_has ls 5 [(0, .ref h4), (1, .int (iZ n9)), (2, .int (iZ ((ch : Nat) : Int)))] := hl
  refine z_iconst hx hb dX3_sumOfVotes_0 ?_
  refine lv_istore_n (lv' := [(3, .int (iZ 0)), (0, .ref h4), (1, .int (iZ n9)), (2, .int (iZ ((ch : Nat) : Int)))]) hx hb dX3_sumOfVotes_1 rfl hl (by decide) rfl (fun ls hl => ?_)
  refine z_iconst hx hb dX3_sumOfVotes_2 ?_
  refine lv_istore (lv' := [(4, .int (iZ 0)), (3, .int (iZ 0)), (0, .ref h4), (1, .int (iZ n9)), (2, .int (iZ ((ch : Nat) : Int)))]) hx hb dX3_sumOfVotes_3 hl (by decide) rfl (fun ls hl => ?_)
  obtain ⟨i, q, hI, hl1⟩ : ∃ (i : Nat) (q : Int), (q = svN E C ch i ∧ (i : Int) ≤ n9) ∧ lv_has ls 5 [(4, .int (iZ ((i : Nat) : Int))), (3, .int (iZ q)), (0, .ref h4), (1, .int (iZ n9)), (2, .int (iZ ((ch : Nat) : Int)))] := ⟨0, 0, by exact ⟨rfl, by omega⟩, lv_sub hl [0, 1, 2, 3, 4] rfl⟩
  clear hl
  have hl := hl1
  clear hl1
  obtain ⟨n_, hn_⟩ : ∃ n_ : Nat, n9.toNat - i < n_ := ⟨_, Nat.lt_succ_self _⟩
  induction n_ generalizing i q ls with
  | zero => exact absurd hn_ (Nat.not_lt_zero _)
  | succ n_ ih1 =>
    refine lv_iload hx hb dX3_sumOfVotes_5 (lv_at hl 0 rfl) ?_
    refine lv_iload_n hx hb dX3_sumOfVotes_7 rfl (lv_at hl 3 rfl) ?_
    refine z_icmp_ge (tgt := 46) hx hb dX3_sumOfVotes_8 (by decide) (by omega) (fun c_2 => ?_) (fun c_2 => ?_)
    · skip
      refine lv_iload_n hx hb dX3_sumOfVotes_46 rfl (lv_at hl 1 rfl) ?_
      refine z_top (show q = svN E C ch n9.toNat from ?_) ?_
      · rw [hI.1, show n9.toNat = i by omega]
      exact W.iret (v := iZ (svN E C ch n9.toNat)) hx hb hr (fun t9 ht9 _ => ⟨rfl, ht9⟩) (fun q h => absurd h List.not_mem_nil) dX3_sumOfVotes_47
    · skip
      refine lv_iload_n hx hb dX3_sumOfVotes_11 rfl (lv_at hl 1 rfl) ?_
      refine lv_iload_n hx hb dX3_sumOfVotes_12 rfl (lv_at hl 4 rfl) ?_
      refine lv_iload hx hb dX3_sumOfVotes_13 (lv_at hl 0 rfl) ?_
      refine ro_SN (As := [.int (iZ ((ch : Nat) : Int)), .int (iZ ((i : Nat) : Int))]) (rest := [.int (iZ q)]) ⟨hx, hb, hml, hown, hts⟩ (c_X6_hasBit l G Y ch i (by omega)) ⟨va_cnB 2 hts gX3_sumOfVotes_X6_hasBit_n67 rfl rfl rfl (nk_X3_67 hK.2) (hts (.initialized RX6) (by decide +kernel)) (by decide +kernel) ⟨Nat.le_of_ble_eq_true rfl, Nat.le_of_ble_eq_true rfl⟩, hts (.static yX6_hasBit) (by decide +kernel), trivial⟩ hK (hP.sub (ws' := []) [] rfl) rfl hl.1 rfl (Nat.le_of_ble_eq_true rfl) dX3_sumOfVotes_15 ⟨Nat.zero_le _, Nat.zero_le _⟩ ?_
      refine z_ifb_eq (tgt := 31) hx hb dX3_sumOfVotes_18 (by decide) (fun c_3 => ?_) (fun c_3 => ?_)
      · skip
        refine lv_aload_n hx hb dX3_sumOfVotes_31 rfl (lv_at hl 2 rfl) ?_
        refine va_get (D := G) (ci := 3) (v := .ref va) (C := RX3) (T := TX3) (N := 3) hx hb hts hFX3 hown hK.1 hP 0 rfl rfl 1 (by decide) kf18 (fun _ h9 => h9) rfl dX3_sumOfVotes_32 ?_
        refine lv_iload hx hb dX3_sumOfVotes_35 (lv_at hl 0 rfl) ?_
        refine z_iald hx hb hK.1 hP 1 0 rfl rfl i (by omega) (by decide) dX3_sumOfVotes_37 ?_
        refine z_iadd hx hb dX3_sumOfVotes_38 ?_
        refine lv_istore_n (lv' := [(3, .int (iZ (q + E i))), (4, .int (iZ ((i : Nat) : Int))), (0, .ref h4), (1, .int (iZ n9)), (2, .int (iZ ((ch : Nat) : Int)))]) hx hb dX3_sumOfVotes_39 rfl hl (by decide) rfl (fun ls hl => ?_)
        refine lv_iinc (v := iZ ((i + 1 : Nat) : Int)) (lv' := [(4, .int (iZ ((i + 1 : Nat) : Int))), (3, .int (iZ (q + E i))), (0, .ref h4), (1, .int (iZ n9)), (2, .int (iZ ((ch : Nat) : Int)))]) hx hb dX3_sumOfVotes_40 hl (k := 1) rfl (iZ_inc _) (by decide) rfl (fun ls hl => ?_)
        refine lv_goto (tgt := 5) hx hb dX3_sumOfVotes_43 (by decide) ?_
        exact ih1 (ls := ls) (i := i + 1) (q := (q + E i)) (hI := by exact ⟨by rw [svN, hI.1]; simp [*], by omega⟩) (hl := lv_sub hl [0, 1, 2, 3, 4] rfl) (hn_ := by omega)
      · skip
        refine lv_aload_n hx hb dX3_sumOfVotes_21 rfl (lv_at hl 2 rfl) ?_
        refine va_get (D := G) (ci := 3) (v := .ref vb) (C := RX3) (T := TX3) (N := 3) hx hb hts hFX3 hown hK.1 hP 0 rfl rfl 2 (by decide) kf22 (fun _ h9 => h9) rfl dX3_sumOfVotes_22 ?_
        refine lv_iload hx hb dX3_sumOfVotes_25 (lv_at hl 0 rfl) ?_
        refine z_iald hx hb hK.1 hP 2 0 rfl rfl i (by omega) (by decide) dX3_sumOfVotes_27 ?_
        refine lv_goto (tgt := 38) hx hb dX3_sumOfVotes_28 (by decide) ?_
        refine z_iadd hx hb dX3_sumOfVotes_38 ?_
        refine lv_istore_n (lv' := [(3, .int (iZ (q + C i))), (4, .int (iZ ((i : Nat) : Int))), (0, .ref h4), (1, .int (iZ n9)), (2, .int (iZ ((ch : Nat) : Int)))]) hx hb dX3_sumOfVotes_39 rfl hl (by decide) rfl (fun ls hl => ?_)
        refine lv_iinc (v := iZ ((i + 1 : Nat) : Int)) (lv' := [(4, .int (iZ ((i + 1 : Nat) : Int))), (3, .int (iZ (q + C i))), (0, .ref h4), (1, .int (iZ n9)), (2, .int (iZ ((ch : Nat) : Int)))]) hx hb dX3_sumOfVotes_40 hl (k := 1) rfl (iZ_inc _) (by decide) rfl (fun ls hl => ?_)
        refine lv_goto (tgt := 5) hx hb dX3_sumOfVotes_43 (by decide) ?_
        exact ih1 (ls := ls) (i := i + 1) (q := (q + C i)) (hI := by exact ⟨by rw [svN, hI.1]; simp [*], by omega⟩) (hl := lv_sub hl [0, 1, 2, 3, 4] rfl) (hn_ := by omega)

set_option maxHeartbeats 4000000 in
set_option maxRecDepth 100000 in
theorem c_X3_fewestMovers (l : Launch) (G : va_G) (Y : Nat → ClassId) (h4 ht va vb : Nat) (E C : Nat → Int) (h : Nat) (ad : Nat → Nat) (K : Kom) (hW : cWF K) (mo : Nat) (k : Int) (r : mo ≤ 2 ∧ 0 ≤ k ∧ k ≤ 9) : Met l yX3_fewestMovers wsX3_fewestMovers ({ frames := 4, cells := 0, slots := 0, locals := 95 }) (mP G Y [.ref h4, .ref h, .int (iZ ((mo : Nat) : Int)), .int (iZ k)] (quW Y h4 ht va vb E C ++ cmW Y h ad K)) (eQ G (quW Y h4 ht va vb E C ++ cmW Y h ad K) (some (.int (iZ (fm K mo k)))) (fun u => quW Y h4 ht va vb (u 0) (u 1) ++ cmW Y h ad K)) 0 0 (fun q => q ∈ List.map Prod.fst (quW Y h4 ht va vb E C ++ cmW Y h ad K)) := by
  refine Met.ofW (cc := cX3_fewestMovers) (maxL := 8) (ret := (some .int)) (by decide) rfl ?_
  intro p e s m args below meth c s₁ B hml hv
  obtain ⟨rfl, hK, hP, hD0⟩ := hv
  have hx := B.exec
  have hb := B.bytes
  have hr := B.returns
  have hts := atoms_spec (ws := wsX3_fewestMovers) B.pre
  have hown : s.vm.findClass RX3 = some m.cls := findClass_of_methodNamed B.named
  have hlocks := B.notSynchronized
  have hFX0 : ∀ w ∈ wsX00, w ∈ wsX3_fewestMovers := by decide +kernel
  have hFX3 : ∀ w ∈ wsX30, w ∈ wsX3_fewestMovers := by decide +kernel
  have kf25 := (hts (.fieldLink RX3 25 "ShadeVotes$Commune" "people" "I") (by decide +kernel))
  have kf18 := (hts (.fieldLink RX3 18 "ShadeVotes$Question" "voteElse" "[I") (by decide +kernel))
  have kf22 := (hts (.fieldLink RX3 22 "ShadeVotes$Question" "voteIfChosen" "[I") (by decide +kernel))
  have hD := va_D_self hD0
  have hS : va_S (fun q => q ∈ List.map Prod.fst (quW Y h4 ht va vb E C ++ cmW Y h ad K)) s.heap s.heap [] := va_S.rf
  obtain ⟨H, hHe⟩ : ∃ H, H = s.heap := ⟨_, rfl⟩
  rw [← hHe] at hP
  replace hS : va_S (fun q => q ∈ List.map Prod.fst (quW Y h4 ht va vb E C ++ cmW Y h ad K)) s.heap H [] := by rw [hHe]; exact hS
  have hl := lv_entry ([.ref h4, .ref h, .int (iZ ((mo : Nat) : Int)), .int (iZ k)]) (n := 8) (Nat.le_of_ble_eq_true rfl)
  rw [lg_entry_eq]
  generalize (lg_sl ([.ref h4, .ref h, .int (iZ ((mo : Nat) : Int)), .int (iZ k)]) ++ List.replicate (8 - (lg_sl ([.ref h4, .ref h, .int (iZ ((mo : Nat) : Int)), .int (iZ k)])).length) Slot.unset).toArray = ls at hl ⊢
  replace hl : lv_has ls 8 [(0, .ref h4), (1, .ref h), (2, .int (iZ ((mo : Nat) : Int))), (3, .int (iZ k))] := hl
  obtain ⟨locs, hLe⟩ : ∃ locs : List Loc, locs = [] := ⟨_, rfl⟩
  rw [← hLe] at hS ⊢
  have hW0 : ∀ {Q : State → Prop} {g : JFrame}, W p l e ({ frames := 4, cells := 0, slots := 0, locals := 95 }) s m [.ref h4, .ref h, .int (iZ ((mo : Nat) : Int)), .int (iZ k)].toArray below meth c H locs 0 0 Q g → W p l e ({ frames := 4, cells := 0, slots := 0, locals := 95 }) s m [.ref h4, .ref h, .int (iZ ((mo : Nat) : Int)), .int (iZ k)].toArray below meth c s.heap locs 0 0 Q g := fun h => by rw [← hHe]; exact h
  refine hW0 ?_
  clear hW0 hHe hLe
  have h0 := hW.1
  have hnc := hW.nc
  have hp2 := p2_in (K 0 3).toNat (by omega)
  refine z_iconst hx hb dX3_fewestMovers_0 ?_
  refine lv_istore (lv' := [(4, .int (iZ 0)), (0, .ref h4), (1, .ref h), (2, .int (iZ ((mo : Nat) : Int))), (3, .int (iZ k))]) hx hb dX3_fewestMovers_1 hl (by decide) rfl (fun ls hl => ?_)
  obtain ⟨i, E1, C1, hI, hl1, hP1, hD1⟩ : ∃ (i : Nat) (E1 : Nat → Int) (C1 : Nat → Int), ((i : Int) ≤ K 0 3 ∧ agr E1 (fE K mo) i ∧ agr C1 (fC K mo k) i) ∧ lv_has ls 8 [(4, .int (iZ ((i : Nat) : Int))), (0, .ref h4), (1, .ref h), (2, .int (iZ ((mo : Nat) : Int))), (3, .int (iZ k))] ∧ va_P G vwCl [(h4, .inr (3, [.ref ht, .ref va, .ref vb])), (va, .inl (Y 0, 7, .inl (aI E1))), (vb, .inl (Y 0, 7, .inl (aI C1))), (h, .inr (0, [.int (iZ (K 0 0)), .int (iZ (K 0 1)), .int (iZ (K 0 2)), .int (iZ (K 0 3)), .int (iZ (K 0 4)), .int (iZ (K 0 5)), .int (iZ (K 0 6)), .ref (ad 1), .ref (ad 2), .ref (ad 3), .ref (ad 4), .ref (ad 5), .ref (ad 6), .ref (ad 7)])), (ad 1, .inl (Y 0, 6, .inl (aI (K 1)))), (ad 2, .inl (Y 0, 6, .inl (aI (K 2)))), (ad 3, .inl (Y 0, 6, .inl (aI (K 3)))), (ad 4, .inl (Y 1, 6, .inl (aI (K 4)))), (ad 5, .inl (Y 1, 6, .inl (aI (K 5)))), (ad 6, .inl (Y 0, 7, .inl (aI (K 6)))), (ad 7, .inl (Y 0, 7, .inl (aI (K 7))))] H ∧ va_D (fun q => q ∈ List.map Prod.fst (quW Y h4 ht va vb E C ++ cmW Y h ad K)) [(h4, .inr (3, [.ref ht, .ref va, .ref vb])), (va, .inl (Y 0, 7, .inl (aI E1))), (vb, .inl (Y 0, 7, .inl (aI C1))), (h, .inr (0, [.int (iZ (K 0 0)), .int (iZ (K 0 1)), .int (iZ (K 0 2)), .int (iZ (K 0 3)), .int (iZ (K 0 4)), .int (iZ (K 0 5)), .int (iZ (K 0 6)), .ref (ad 1), .ref (ad 2), .ref (ad 3), .ref (ad 4), .ref (ad 5), .ref (ad 6), .ref (ad 7)])), (ad 1, .inl (Y 0, 6, .inl (aI (K 1)))), (ad 2, .inl (Y 0, 6, .inl (aI (K 2)))), (ad 3, .inl (Y 0, 6, .inl (aI (K 3)))), (ad 4, .inl (Y 1, 6, .inl (aI (K 4)))), (ad 5, .inl (Y 1, 6, .inl (aI (K 5)))), (ad 6, .inl (Y 0, 7, .inl (aI (K 6)))), (ad 7, .inl (Y 0, 7, .inl (aI (K 7))))] := ⟨0, E, C, by exact ⟨by omega, agr_0, agr_0⟩, lv_sub hl [0, 1, 2, 3, 4] rfl, hP, hD⟩
  clear hl hP hD
  have hl := hl1
  clear hl1
  have hP := hP1
  have hD := hD1
  clear hP1 hD1
  obtain ⟨n_, hn_⟩ : ∃ n_ : Nat, (K 0 3).toNat - i < n_ := ⟨_, Nat.lt_succ_self _⟩
  induction n_ generalizing i E1 C1 ls H locs with
  | zero => exact absurd hn_ (Nat.not_lt_zero _)
  | succ n_ ih1 =>
    refine lv_iload hx hb dX3_fewestMovers_3 (lv_at hl 0 rfl) ?_
    refine lv_aload_n hx hb dX3_fewestMovers_5 rfl (lv_at hl 2 rfl) ?_
    refine va_get (D := G) (ci := 0) (v := .int (iZ (K 0 3))) (C := RX0) (T := TX0) (N := 14) hx hb hts hFX0 hown hK.1 hP 3 rfl rfl 3 (by decide) kf25 (fun _ h9 => h9) rfl dX3_fewestMovers_6 ?_
    refine z_icmp_ge (tgt := 47) hx hb dX3_fewestMovers_9 (by decide) (by omega) (fun c_2 => ?_) (fun c_2 => ?_)
    · skip
      have e9 : i = (K 0 3).toNat := by omega
      have hA : agr E1 (fE K mo) (K 0 3).toNat := by rw [← e9]; exact hI.2.1
      have hB : agr C1 (fC K mo k) (K 0 3).toNat := by rw [← e9]; exact hI.2.2
      have hAB : ∀ j, j < (K 0 3).toNat → (-4 ≤ fE K mo j ∧ fE K mo j ≤ 4) ∧ -4 ≤ fC K mo k j ∧ fC K mo k j ≤ 4 := fun j hj => ⟨vt_in hW j mo (by omega), bv_in hW j mo k (by omega)⟩
      refine z_bipush hx hb dX3_fewestMovers_47 (by decide) ?_
      refine lv_istore (lv' := [(4, .int (iZ (-9))), (0, .ref h4), (1, .ref h), (2, .int (iZ ((mo : Nat) : Int))), (3, .int (iZ k))]) hx hb dX3_fewestMovers_49 hl (by decide) rfl (fun ls hl => ?_)
      refine z_bipush hx hb dX3_fewestMovers_51 (by decide) ?_
      refine lv_istore (lv' := [(5, .int (iZ 8)), (4, .int (iZ (-9))), (0, .ref h4), (1, .ref h), (2, .int (iZ ((mo : Nat) : Int))), (3, .int (iZ k))]) hx hb dX3_fewestMovers_53 hl (by decide) rfl (fun ls hl => ?_)
      refine z_iconst hx hb dX3_fewestMovers_55 ?_
      refine lv_istore (lv' := [(6, .int (iZ 0)), (5, .int (iZ 8)), (4, .int (iZ (-9))), (0, .ref h4), (1, .ref h), (2, .int (iZ ((mo : Nat) : Int))), (3, .int (iZ k))]) hx hb dX3_fewestMovers_56 hl (by decide) rfl (fun ls hl => ?_)
      obtain ⟨ch, q, u, hI, hl1⟩ : ∃ (ch : Nat) (q : Int) (u : Int), (q = (fmS (fE K mo) (fC K mo k) (K 0 3).toNat ch).1 ∧ u = (fmS (fE K mo) (fC K mo k) (K 0 3).toNat ch).2 ∧ ch ≤ 2 ^ (K 0 3).toNat) ∧ lv_has ls 8 [(6, .int (iZ ((ch : Nat) : Int))), (4, .int (iZ q)), (5, .int (iZ u)), (0, .ref h4), (1, .ref h), (2, .int (iZ ((mo : Nat) : Int))), (3, .int (iZ k))] := ⟨0, -9, 8, by exact ⟨rfl, rfl, Nat.zero_le _⟩, lv_sub hl [0, 2, 1, 3, 4, 5, 6] rfl⟩
      clear hl
      have hl := hl1
      clear hl1
      obtain ⟨n_, hn_⟩ : ∃ n_ : Nat, 2 ^ (K 0 3).toNat - ch < n_ := ⟨_, Nat.lt_succ_self _⟩
      induction n_ generalizing ch q u ls with
      | zero => exact absurd hn_ (Nat.not_lt_zero _)
      | succ n_ ih3 =>
        have hf := fmS_in (fE K mo) (fC K mo k) (K 0 3).toNat ch
        refine lv_iload hx hb dX3_fewestMovers_58 (lv_at hl 0 rfl) ?_
        refine z_iconst hx hb dX3_fewestMovers_60 ?_
        refine lv_aload_n hx hb dX3_fewestMovers_61 rfl (lv_at hl 4 rfl) ?_
        refine va_get (D := G) (ci := 0) (v := .int (iZ (K 0 3))) (C := RX0) (T := TX0) (N := 14) hx hb hts hFX0 hown hK.1 hP 3 rfl rfl 3 (by decide) kf25 (fun _ h9 => h9) rfl dX3_fewestMovers_62 ?_
        refine z_ishl1 (k := (K 0 3).toNat) hx hb dX3_fewestMovers_65 (by omega) ?_
        refine z_icmp_ge (tgt := 110) hx hb dX3_fewestMovers_66 (by decide) (by omega) (fun c_4 => ?_) (fun c_4 => ?_)
        · skip
          refine lv_iload hx hb dX3_fewestMovers_110 (lv_at hl 1 rfl) ?_
          refine z_top (show q = fm K mo k from ?_) ?_
          · rw [hI.1, show ch = 2 ^ (K 0 3).toNat by omega]; rfl
          have hP9 : va_P G vwCl (quW Y h4 ht va vb (ecU E1 C1 0) (ecU E1 C1 1) ++ cmW Y h ad K) H := hP.sub [0, 1, 2, 3, 4, 5, 6, 7, 8, 9, 10] rfl
          exact W.iret (v := iZ (fm K mo k)) hx hb hr (fun t9 ht9 _ => ⟨rfl, ⟨ecU E1 C1, by rw [ht9]; exact hP9⟩, hS.F ht9⟩) hS.2.2 dX3_fewestMovers_112
        · skip
          refine lv_iload hx hb dX3_fewestMovers_69 (lv_at hl 0 rfl) ?_
          refine ro_S (As := [.int (iZ ((ch : Nat) : Int))]) (rest := []) ⟨hx, hb, hml, hown, hts⟩ (c_J6_bitCount_0f7a4 l G Y (iZ ((ch : Nat) : Int))) (va_cwS 1 hts gX3_fewestMovers_J6_bitCount_0f7a4 rfl rfl rfl (by decide +kernel) ⟨Nat.le_of_ble_eq_true rfl, Nat.le_of_ble_eq_true rfl⟩) hK (hP.sub (ws' := []) [] rfl) rfl hl.1 rfl (Nat.le_of_ble_eq_true rfl) dX3_fewestMovers_71 ⟨Nat.zero_le _, Nat.zero_le _⟩ ?_
          rw [bc_ch (show ch < 128 by omega)]
          have hb_6 := pcN_le ch 7
          refine lv_istore (lv' := [(7, .int (iZ ((pcN ch 7 : Nat) : Int))), (6, .int (iZ ((ch : Nat) : Int))), (4, .int (iZ q)), (5, .int (iZ u)), (0, .ref h4), (1, .ref h), (2, .int (iZ ((mo : Nat) : Int))), (3, .int (iZ k))]) hx hb dX3_fewestMovers_74 hl (by decide) rfl (fun ls hl => ?_)
          refine lv_iload hx hb dX3_fewestMovers_76 (lv_at hl 0 rfl) ?_
          refine lv_iload hx hb dX3_fewestMovers_78 (lv_at hl 3 rfl) ?_
          refine z_icmp_ge (tgt := 104) hx hb dX3_fewestMovers_80 (by decide) (by omega) (fun c_7 => ?_) (fun c_7 => ?_)
          · skip
            refine lv_iinc (v := iZ ((ch + 1 : Nat) : Int)) (lv' := [(6, .int (iZ ((ch + 1 : Nat) : Int))), (7, .int (iZ ((pcN ch 7 : Nat) : Int))), (4, .int (iZ q)), (5, .int (iZ u)), (0, .ref h4), (1, .ref h), (2, .int (iZ ((mo : Nat) : Int))), (3, .int (iZ k))]) hx hb dX3_fewestMovers_104 hl (k := 1) rfl (iZ_inc _) (by decide) rfl (fun ls hl => ?_)
            refine lv_goto (tgt := 58) hx hb dX3_fewestMovers_107 (by decide) ?_
            exact ih3 (ls := ls) (ch := ch + 1) (q := q) (u := u) (hI := by first | (rw [fmS_t (by omega) (by omega)]; exact ⟨rfl, rfl, by omega⟩) | (rw [fmS_f2 (by omega)]; exact ⟨hI.1, hI.2.1, by omega⟩) | (rw [fmS_f1 (by omega)]; exact ⟨hI.1, hI.2.1, by omega⟩)) (hl := lv_sub hl [0, 2, 3, 4, 5, 6, 7] rfl) (hn_ := by omega)
          · skip
            refine lv_aload_n hx hb dX3_fewestMovers_83 rfl (lv_at hl 4 rfl) ?_
            refine lv_aload_n hx hb dX3_fewestMovers_84 rfl (lv_at hl 5 rfl) ?_
            refine va_get (D := G) (ci := 0) (v := .int (iZ (K 0 3))) (C := RX0) (T := TX0) (N := 14) hx hb hts hFX0 hown hK.1 hP 3 rfl rfl 3 (by decide) kf25 (fun _ h9 => h9) rfl dX3_fewestMovers_85 ?_
            refine lv_iload hx hb dX3_fewestMovers_88 (lv_at hl 1 rfl) ?_
            refine ro_V (As := [.int (iZ (K 0 3)), .int (iZ ((ch : Nat) : Int))]) (rest := []) ⟨hx, hb, hml, hown, hts⟩ (c_X3_sumOfVotes l G Y h4 ht va vb E1 C1 (K 0 3) ch (by omega)) (cwV 2 hts gX3_fewestMovers_X3_sumOfVotes rfl rfl rfl (by decide +kernel) ⟨Nat.le_of_ble_eq_true rfl, Nat.le_of_ble_eq_true rfl⟩) hK (hP.sub (ws' := quW Y h4 ht va vb E1 C1) [0, 1, 2] rfl) 0 rfl rfl rfl hl.1 rfl (Nat.le_of_ble_eq_true rfl) dX3_fewestMovers_90 ⟨Nat.zero_le _, Nat.zero_le _⟩ ?_
            rw [svN_congr ch (K 0 3).toNat hA hB]
            have hb_9 := svN_in ch (K 0 3).toNat hAB
            refine z_if_le (tgt := 104) hx hb dX3_fewestMovers_93 (by decide) (by omega) (fun c_10 => ?_) (fun c_10 => ?_)
            · skip
              refine lv_iinc (v := iZ ((ch + 1 : Nat) : Int)) (lv' := [(6, .int (iZ ((ch + 1 : Nat) : Int))), (7, .int (iZ ((pcN ch 7 : Nat) : Int))), (4, .int (iZ q)), (5, .int (iZ u)), (0, .ref h4), (1, .ref h), (2, .int (iZ ((mo : Nat) : Int))), (3, .int (iZ k))]) hx hb dX3_fewestMovers_104 hl (k := 1) rfl (iZ_inc _) (by decide) rfl (fun ls hl => ?_)
              refine lv_goto (tgt := 58) hx hb dX3_fewestMovers_107 (by decide) ?_
              exact ih3 (ls := ls) (ch := ch + 1) (q := q) (u := u) (hI := by first | (rw [fmS_t (by omega) (by omega)]; exact ⟨rfl, rfl, by omega⟩) | (rw [fmS_f2 (by omega)]; exact ⟨hI.1, hI.2.1, by omega⟩) | (rw [fmS_f1 (by omega)]; exact ⟨hI.1, hI.2.1, by omega⟩)) (hl := lv_sub hl [0, 2, 3, 4, 5, 6, 7] rfl) (hn_ := by omega)
            · skip
              refine lv_iload hx hb dX3_fewestMovers_96 (lv_at hl 1 rfl) ?_
              refine lv_istore (lv' := [(4, .int (iZ ((ch : Nat) : Int))), (7, .int (iZ ((pcN ch 7 : Nat) : Int))), (6, .int (iZ ((ch : Nat) : Int))), (5, .int (iZ u)), (0, .ref h4), (1, .ref h), (2, .int (iZ ((mo : Nat) : Int))), (3, .int (iZ k))]) hx hb dX3_fewestMovers_98 hl (by decide) rfl (fun ls hl => ?_)
              refine lv_iload hx hb dX3_fewestMovers_100 (lv_at hl 1 rfl) ?_
              refine lv_istore (lv' := [(5, .int (iZ ((pcN ch 7 : Nat) : Int))), (4, .int (iZ ((ch : Nat) : Int))), (7, .int (iZ ((pcN ch 7 : Nat) : Int))), (6, .int (iZ ((ch : Nat) : Int))), (0, .ref h4), (1, .ref h), (2, .int (iZ ((mo : Nat) : Int))), (3, .int (iZ k))]) hx hb dX3_fewestMovers_102 hl (by decide) rfl (fun ls hl => ?_)
              refine lv_iinc (v := iZ ((ch + 1 : Nat) : Int)) (lv' := [(6, .int (iZ ((ch + 1 : Nat) : Int))), (5, .int (iZ ((pcN ch 7 : Nat) : Int))), (4, .int (iZ ((ch : Nat) : Int))), (7, .int (iZ ((pcN ch 7 : Nat) : Int))), (0, .ref h4), (1, .ref h), (2, .int (iZ ((mo : Nat) : Int))), (3, .int (iZ k))]) hx hb dX3_fewestMovers_104 hl (k := 3) rfl (iZ_inc _) (by decide) rfl (fun ls hl => ?_)
              refine lv_goto (tgt := 58) hx hb dX3_fewestMovers_107 (by decide) ?_
              exact ih3 (ls := ls) (ch := ch + 1) (q := ((ch : Nat) : Int)) (u := ((pcN ch 7 : Nat) : Int)) (hI := by first | (rw [fmS_t (by omega) (by omega)]; exact ⟨rfl, rfl, by omega⟩) | (rw [fmS_f2 (by omega)]; exact ⟨hI.1, hI.2.1, by omega⟩) | (rw [fmS_f1 (by omega)]; exact ⟨hI.1, hI.2.1, by omega⟩)) (hl := lv_sub hl [0, 2, 1, 4, 5, 6, 7] rfl) (hn_ := by omega)
    · skip
      refine lv_aload_n hx hb dX3_fewestMovers_12 rfl (lv_at hl 1 rfl) ?_
      refine va_get (D := G) (ci := 3) (v := .ref va) (C := RX3) (T := TX3) (N := 3) hx hb hts hFX3 hown hK.1 hP 0 rfl rfl 1 (by decide) kf18 (fun _ h9 => h9) rfl dX3_fewestMovers_13 ?_
      refine lv_iload hx hb dX3_fewestMovers_16 (lv_at hl 0 rfl) ?_
      refine lv_aload_n hx hb dX3_fewestMovers_18 rfl (lv_at hl 2 rfl) ?_
      refine lv_iload hx hb dX3_fewestMovers_19 (lv_at hl 0 rfl) ?_
      refine lv_iload_n hx hb dX3_fewestMovers_21 rfl (lv_at hl 3 rfl) ?_
      refine ro_V (As := [.int (iZ ((i : Nat) : Int)), .int (iZ ((mo : Nat) : Int))]) (rest := [.int (iZ ((i : Nat) : Int)), .ref va]) ⟨hx, hb, hml, hown, hts⟩ (c_X0_voteOf l G Y h ad K hW i mo (by omega)) (cwV 2 hts gX3_fewestMovers_X0_voteOf rfl rfl rfl (by decide +kernel) ⟨Nat.le_of_ble_eq_true rfl, Nat.le_of_ble_eq_true rfl⟩) hK (hP.sub (ws' := cmW Y h ad K) [3, 4, 5, 6, 7, 8, 9, 10] rfl) 0 rfl rfl rfl hl.1 rfl (Nat.le_of_ble_eq_true rfl) dX3_fewestMovers_22 ⟨Nat.zero_le _, Nat.zero_le _⟩ ?_
      have hb_11 := vt_in hW i mo (by omega)
      refine z_iast hx hb hK.1 hP hD hS 1 0 rfl rfl i (by omega) (by decide) dX3_fewestMovers_25 (fun H locs hP hD hS => ?_)
      replace hP : va_P G vwCl [(h4, .inr (3, [.ref ht, .ref va, .ref vb])), (va, .inl (Y 0, 7, .inl (aI (va_up E1 i (vt K i mo))))), (vb, .inl (Y 0, 7, .inl (aI C1))), (h, .inr (0, [.int (iZ (K 0 0)), .int (iZ (K 0 1)), .int (iZ (K 0 2)), .int (iZ (K 0 3)), .int (iZ (K 0 4)), .int (iZ (K 0 5)), .int (iZ (K 0 6)), .ref (ad 1), .ref (ad 2), .ref (ad 3), .ref (ad 4), .ref (ad 5), .ref (ad 6), .ref (ad 7)])), (ad 1, .inl (Y 0, 6, .inl (aI (K 1)))), (ad 2, .inl (Y 0, 6, .inl (aI (K 2)))), (ad 3, .inl (Y 0, 6, .inl (aI (K 3)))), (ad 4, .inl (Y 1, 6, .inl (aI (K 4)))), (ad 5, .inl (Y 1, 6, .inl (aI (K 5)))), (ad 6, .inl (Y 0, 7, .inl (aI (K 6)))), (ad 7, .inl (Y 0, 7, .inl (aI (K 7))))] H := hP
      replace hD : va_D _ [(h4, .inr (3, [.ref ht, .ref va, .ref vb])), (va, .inl (Y 0, 7, .inl (aI (va_up E1 i (vt K i mo))))), (vb, .inl (Y 0, 7, .inl (aI C1))), (h, .inr (0, [.int (iZ (K 0 0)), .int (iZ (K 0 1)), .int (iZ (K 0 2)), .int (iZ (K 0 3)), .int (iZ (K 0 4)), .int (iZ (K 0 5)), .int (iZ (K 0 6)), .ref (ad 1), .ref (ad 2), .ref (ad 3), .ref (ad 4), .ref (ad 5), .ref (ad 6), .ref (ad 7)])), (ad 1, .inl (Y 0, 6, .inl (aI (K 1)))), (ad 2, .inl (Y 0, 6, .inl (aI (K 2)))), (ad 3, .inl (Y 0, 6, .inl (aI (K 3)))), (ad 4, .inl (Y 1, 6, .inl (aI (K 4)))), (ad 5, .inl (Y 1, 6, .inl (aI (K 5)))), (ad 6, .inl (Y 0, 7, .inl (aI (K 6)))), (ad 7, .inl (Y 0, 7, .inl (aI (K 7))))] := hD
      refine lv_aload_n hx hb dX3_fewestMovers_26 rfl (lv_at hl 1 rfl) ?_
      refine va_get (D := G) (ci := 3) (v := .ref vb) (C := RX3) (T := TX3) (N := 3) hx hb hts hFX3 hown hK.1 hP 0 rfl rfl 2 (by decide) kf22 (fun _ h9 => h9) rfl dX3_fewestMovers_27 ?_
      refine lv_iload hx hb dX3_fewestMovers_30 (lv_at hl 0 rfl) ?_
      refine lv_aload_n hx hb dX3_fewestMovers_32 rfl (lv_at hl 2 rfl) ?_
      refine lv_iload hx hb dX3_fewestMovers_33 (lv_at hl 0 rfl) ?_
      refine lv_iload_n hx hb dX3_fewestMovers_35 rfl (lv_at hl 3 rfl) ?_
      refine lv_iload_n hx hb dX3_fewestMovers_36 rfl (lv_at hl 4 rfl) ?_
      refine ro_S (As := [.ref h, .int (iZ ((i : Nat) : Int)), .int (iZ ((mo : Nat) : Int)), .int (iZ k)]) (rest := [.int (iZ ((i : Nat) : Int)), .ref vb]) ⟨hx, hb, hml, hown, hts⟩ (c_X3_bestVote l G Y h ad K hW i mo k (by omega)) (cwS 4 hts gX3_fewestMovers_X3_bestVote rfl rfl rfl (by decide +kernel) ⟨Nat.le_of_ble_eq_true rfl, Nat.le_of_ble_eq_true rfl⟩) hK (hP.sub (ws' := cmW Y h ad K) [3, 4, 5, 6, 7, 8, 9, 10] rfl) rfl hl.1 rfl (Nat.le_of_ble_eq_true rfl) dX3_fewestMovers_37 ⟨Nat.zero_le _, Nat.zero_le _⟩ ?_
      have hb_12 := bv_in hW i mo k (by omega)
      refine z_iast hx hb hK.1 hP hD hS 2 0 rfl rfl i (by omega) (by decide) dX3_fewestMovers_40 (fun H locs hP hD hS => ?_)
      replace hP : va_P G vwCl [(h4, .inr (3, [.ref ht, .ref va, .ref vb])), (va, .inl (Y 0, 7, .inl (aI (va_up E1 i (vt K i mo))))), (vb, .inl (Y 0, 7, .inl (aI (va_up C1 i (bv K i mo k))))), (h, .inr (0, [.int (iZ (K 0 0)), .int (iZ (K 0 1)), .int (iZ (K 0 2)), .int (iZ (K 0 3)), .int (iZ (K 0 4)), .int (iZ (K 0 5)), .int (iZ (K 0 6)), .ref (ad 1), .ref (ad 2), .ref (ad 3), .ref (ad 4), .ref (ad 5), .ref (ad 6), .ref (ad 7)])), (ad 1, .inl (Y 0, 6, .inl (aI (K 1)))), (ad 2, .inl (Y 0, 6, .inl (aI (K 2)))), (ad 3, .inl (Y 0, 6, .inl (aI (K 3)))), (ad 4, .inl (Y 1, 6, .inl (aI (K 4)))), (ad 5, .inl (Y 1, 6, .inl (aI (K 5)))), (ad 6, .inl (Y 0, 7, .inl (aI (K 6)))), (ad 7, .inl (Y 0, 7, .inl (aI (K 7))))] H := hP
      replace hD : va_D _ [(h4, .inr (3, [.ref ht, .ref va, .ref vb])), (va, .inl (Y 0, 7, .inl (aI (va_up E1 i (vt K i mo))))), (vb, .inl (Y 0, 7, .inl (aI (va_up C1 i (bv K i mo k))))), (h, .inr (0, [.int (iZ (K 0 0)), .int (iZ (K 0 1)), .int (iZ (K 0 2)), .int (iZ (K 0 3)), .int (iZ (K 0 4)), .int (iZ (K 0 5)), .int (iZ (K 0 6)), .ref (ad 1), .ref (ad 2), .ref (ad 3), .ref (ad 4), .ref (ad 5), .ref (ad 6), .ref (ad 7)])), (ad 1, .inl (Y 0, 6, .inl (aI (K 1)))), (ad 2, .inl (Y 0, 6, .inl (aI (K 2)))), (ad 3, .inl (Y 0, 6, .inl (aI (K 3)))), (ad 4, .inl (Y 1, 6, .inl (aI (K 4)))), (ad 5, .inl (Y 1, 6, .inl (aI (K 5)))), (ad 6, .inl (Y 0, 7, .inl (aI (K 6)))), (ad 7, .inl (Y 0, 7, .inl (aI (K 7))))] := hD
      refine lv_iinc (v := iZ ((i + 1 : Nat) : Int)) (lv' := [(4, .int (iZ ((i + 1 : Nat) : Int))), (0, .ref h4), (1, .ref h), (2, .int (iZ ((mo : Nat) : Int))), (3, .int (iZ k))]) hx hb dX3_fewestMovers_41 hl (k := 0) rfl (iZ_inc _) (by decide) rfl (fun ls hl => ?_)
      refine lv_goto (tgt := 3) hx hb dX3_fewestMovers_44 (by decide) ?_
      exact ih1 (ls := ls) (i := i + 1) (E1 := va_up E1 i (vt K i mo)) (C1 := va_up C1 i (bv K i mo k)) (H := H) (locs := locs) (hS := hS) (hI := by exact ⟨by omega, agr_up hI.2.1, agr_up hI.2.2⟩) (hl := lv_sub hl [0, 1, 2, 3, 4] rfl) (hP := hP) (hD := hD) (hn_ := by omega)

set_option maxHeartbeats 4000000 in
set_option maxRecDepth 100000 in
theorem c_X3_chancesToCarry (l : Launch) (G : va_G) (Y : Nat → ClassId) (h4 ht va vb : Nat) (E C : Nat → Int) (h : Nat) (ad : Nat → Nat) (K : Kom) (hW : cWF K) (mo : Nat) (k : Int) (r : mo ≤ 2 ∧ 0 ≤ k ∧ k ≤ 10) : Met l yX3_chancesToCarry wsX3_chancesToCarry ({ frames := 4, cells := 0, slots := 0, locals := 92 }) (mP G Y [.ref h4, .ref h, .int (iZ ((mo : Nat) : Int)), .int (iZ k)] (quW Y h4 ht va vb E C ++ cmW Y h ad K)) (eQ G (quW Y h4 ht va vb E C ++ cmW Y h ad K) (some (.int (iZ (chN (fE K mo) (K 0 3).toNat k (2 ^ (K 0 3).toNat))))) (fun u => quW Y h4 ht va vb (u 0) (u 1) ++ cmW Y h ad K)) 0 0 (fun q => q ∈ List.map Prod.fst (quW Y h4 ht va vb E C ++ cmW Y h ad K)) := by
  refine Met.ofW (cc := cX3_chancesToCarry) (maxL := 7) (ret := (some .int)) (by decide) rfl ?_
  intro p e s m args below meth c s₁ B hml hv
  obtain ⟨rfl, hK, hP, hD0⟩ := hv
  have hx := B.exec
  have hb := B.bytes
  have hr := B.returns
  have hts := atoms_spec (ws := wsX3_chancesToCarry) B.pre
  have hown : s.vm.findClass RX3 = some m.cls := findClass_of_methodNamed B.named
  have hlocks := B.notSynchronized
  have hFX0 : ∀ w ∈ wsX00, w ∈ wsX3_chancesToCarry := by decide +kernel
  have hFX3 : ∀ w ∈ wsX30, w ∈ wsX3_chancesToCarry := by decide +kernel
  have kf25 := (hts (.fieldLink RX3 25 "ShadeVotes$Commune" "people" "I") (by decide +kernel))
  have kf18 := (hts (.fieldLink RX3 18 "ShadeVotes$Question" "voteElse" "[I") (by decide +kernel))
  have kf22 := (hts (.fieldLink RX3 22 "ShadeVotes$Question" "voteIfChosen" "[I") (by decide +kernel))
  have hD := va_D_self hD0
  have hS : va_S (fun q => q ∈ List.map Prod.fst (quW Y h4 ht va vb E C ++ cmW Y h ad K)) s.heap s.heap [] := va_S.rf
  obtain ⟨H, hHe⟩ : ∃ H, H = s.heap := ⟨_, rfl⟩
  rw [← hHe] at hP
  replace hS : va_S (fun q => q ∈ List.map Prod.fst (quW Y h4 ht va vb E C ++ cmW Y h ad K)) s.heap H [] := by rw [hHe]; exact hS
  have hl := lv_entry ([.ref h4, .ref h, .int (iZ ((mo : Nat) : Int)), .int (iZ k)]) (n := 7) (Nat.le_of_ble_eq_true rfl)
  rw [lg_entry_eq]
  generalize (lg_sl ([.ref h4, .ref h, .int (iZ ((mo : Nat) : Int)), .int (iZ k)]) ++ List.replicate (7 - (lg_sl ([.ref h4, .ref h, .int (iZ ((mo : Nat) : Int)), .int (iZ k)])).length) Slot.unset).toArray = ls at hl ⊢
  replace hl : lv_has ls 7 [(0, .ref h4), (1, .ref h), (2, .int (iZ ((mo : Nat) : Int))), (3, .int (iZ k))] := hl
  obtain ⟨locs, hLe⟩ : ∃ locs : List Loc, locs = [] := ⟨_, rfl⟩
  rw [← hLe] at hS ⊢
  have hW0 : ∀ {Q : State → Prop} {g : JFrame}, W p l e ({ frames := 4, cells := 0, slots := 0, locals := 92 }) s m [.ref h4, .ref h, .int (iZ ((mo : Nat) : Int)), .int (iZ k)].toArray below meth c H locs 0 0 Q g → W p l e ({ frames := 4, cells := 0, slots := 0, locals := 92 }) s m [.ref h4, .ref h, .int (iZ ((mo : Nat) : Int)), .int (iZ k)].toArray below meth c s.heap locs 0 0 Q g := fun h => by rw [← hHe]; exact h
  refine hW0 ?_
  clear hW0 hHe hLe
  have h0 := hW.1
  have hnc := hW.nc
  have hp2 := p2_in (K 0 3).toNat (by omega)
  refine z_iconst hx hb dX3_chancesToCarry_0 ?_
  refine lv_istore (lv' := [(4, .int (iZ 0)), (0, .ref h4), (1, .ref h), (2, .int (iZ ((mo : Nat) : Int))), (3, .int (iZ k))]) hx hb dX3_chancesToCarry_1 hl (by decide) rfl (fun ls hl => ?_)
  obtain ⟨i, E1, C1, hI, hl1, hP1, hD1⟩ : ∃ (i : Nat) (E1 : Nat → Int) (C1 : Nat → Int), ((i : Int) ≤ K 0 3 ∧ agr E1 fZ i ∧ agr C1 (fE K mo) i) ∧ lv_has ls 7 [(4, .int (iZ ((i : Nat) : Int))), (0, .ref h4), (1, .ref h), (2, .int (iZ ((mo : Nat) : Int))), (3, .int (iZ k))] ∧ va_P G vwCl [(h4, .inr (3, [.ref ht, .ref va, .ref vb])), (va, .inl (Y 0, 7, .inl (aI E1))), (vb, .inl (Y 0, 7, .inl (aI C1))), (h, .inr (0, [.int (iZ (K 0 0)), .int (iZ (K 0 1)), .int (iZ (K 0 2)), .int (iZ (K 0 3)), .int (iZ (K 0 4)), .int (iZ (K 0 5)), .int (iZ (K 0 6)), .ref (ad 1), .ref (ad 2), .ref (ad 3), .ref (ad 4), .ref (ad 5), .ref (ad 6), .ref (ad 7)])), (ad 1, .inl (Y 0, 6, .inl (aI (K 1)))), (ad 2, .inl (Y 0, 6, .inl (aI (K 2)))), (ad 3, .inl (Y 0, 6, .inl (aI (K 3)))), (ad 4, .inl (Y 1, 6, .inl (aI (K 4)))), (ad 5, .inl (Y 1, 6, .inl (aI (K 5)))), (ad 6, .inl (Y 0, 7, .inl (aI (K 6)))), (ad 7, .inl (Y 0, 7, .inl (aI (K 7))))] H ∧ va_D (fun q => q ∈ List.map Prod.fst (quW Y h4 ht va vb E C ++ cmW Y h ad K)) [(h4, .inr (3, [.ref ht, .ref va, .ref vb])), (va, .inl (Y 0, 7, .inl (aI E1))), (vb, .inl (Y 0, 7, .inl (aI C1))), (h, .inr (0, [.int (iZ (K 0 0)), .int (iZ (K 0 1)), .int (iZ (K 0 2)), .int (iZ (K 0 3)), .int (iZ (K 0 4)), .int (iZ (K 0 5)), .int (iZ (K 0 6)), .ref (ad 1), .ref (ad 2), .ref (ad 3), .ref (ad 4), .ref (ad 5), .ref (ad 6), .ref (ad 7)])), (ad 1, .inl (Y 0, 6, .inl (aI (K 1)))), (ad 2, .inl (Y 0, 6, .inl (aI (K 2)))), (ad 3, .inl (Y 0, 6, .inl (aI (K 3)))), (ad 4, .inl (Y 1, 6, .inl (aI (K 4)))), (ad 5, .inl (Y 1, 6, .inl (aI (K 5)))), (ad 6, .inl (Y 0, 7, .inl (aI (K 6)))), (ad 7, .inl (Y 0, 7, .inl (aI (K 7))))] := ⟨0, E, C, by exact ⟨by omega, agr_0, agr_0⟩, lv_sub hl [0, 1, 2, 3, 4] rfl, hP, hD⟩
  clear hl hP hD
  have hl := hl1
  clear hl1
  have hP := hP1
  have hD := hD1
  clear hP1 hD1
  obtain ⟨n_, hn_⟩ : ∃ n_ : Nat, (K 0 3).toNat - i < n_ := ⟨_, Nat.lt_succ_self _⟩
  induction n_ generalizing i E1 C1 ls H locs with
  | zero => exact absurd hn_ (Nat.not_lt_zero _)
  | succ n_ ih1 =>
    refine lv_iload hx hb dX3_chancesToCarry_3 (lv_at hl 0 rfl) ?_
    refine lv_aload_n hx hb dX3_chancesToCarry_5 rfl (lv_at hl 2 rfl) ?_
    refine va_get (D := G) (ci := 0) (v := .int (iZ (K 0 3))) (C := RX0) (T := TX0) (N := 14) hx hb hts hFX0 hown hK.1 hP 3 rfl rfl 3 (by decide) kf25 (fun _ h9 => h9) rfl dX3_chancesToCarry_6 ?_
    refine z_icmp_ge (tgt := 40) hx hb dX3_chancesToCarry_9 (by decide) (by omega) (fun c_2 => ?_) (fun c_2 => ?_)
    · skip
      have e9 : i = (K 0 3).toNat := by omega
      have hA : agr E1 fZ (K 0 3).toNat := by rw [← e9]; exact hI.2.1
      have hB : agr C1 (fE K mo) (K 0 3).toNat := by rw [← e9]; exact hI.2.2
      have hAB : ∀ j, j < (K 0 3).toNat → (-4 ≤ fZ j ∧ fZ j ≤ 4) ∧ -4 ≤ fE K mo j ∧ fE K mo j ≤ 4 := fun j hj => ⟨by unfold fZ; omega, vt_in hW j mo (by omega)⟩
      refine z_iconst hx hb dX3_chancesToCarry_40 ?_
      refine lv_istore (lv' := [(4, .int (iZ 0)), (0, .ref h4), (1, .ref h), (2, .int (iZ ((mo : Nat) : Int))), (3, .int (iZ k))]) hx hb dX3_chancesToCarry_41 hl (by decide) rfl (fun ls hl => ?_)
      refine z_iconst hx hb dX3_chancesToCarry_43 ?_
      refine lv_istore (lv' := [(5, .int (iZ 0)), (4, .int (iZ 0)), (0, .ref h4), (1, .ref h), (2, .int (iZ ((mo : Nat) : Int))), (3, .int (iZ k))]) hx hb dX3_chancesToCarry_44 hl (by decide) rfl (fun ls hl => ?_)
      obtain ⟨ch, q, hI, hl1⟩ : ∃ (ch : Nat) (q : Int), (q = chN (fE K mo) (K 0 3).toNat k ch ∧ ch ≤ 2 ^ (K 0 3).toNat) ∧ lv_has ls 7 [(5, .int (iZ ((ch : Nat) : Int))), (4, .int (iZ q)), (0, .ref h4), (1, .ref h), (2, .int (iZ ((mo : Nat) : Int))), (3, .int (iZ k))] := ⟨0, 0, by exact ⟨rfl, Nat.zero_le _⟩, lv_sub hl [0, 1, 2, 3, 4, 5] rfl⟩
      clear hl
      have hl := hl1
      clear hl1
      obtain ⟨n_, hn_⟩ : ∃ n_ : Nat, 2 ^ (K 0 3).toNat - ch < n_ := ⟨_, Nat.lt_succ_self _⟩
      induction n_ generalizing ch q ls with
      | zero => exact absurd hn_ (Nat.not_lt_zero _)
      | succ n_ ih3 =>
        refine lv_iload hx hb dX3_chancesToCarry_46 (lv_at hl 0 rfl) ?_
        refine z_iconst hx hb dX3_chancesToCarry_48 ?_
        refine lv_aload_n hx hb dX3_chancesToCarry_49 rfl (lv_at hl 3 rfl) ?_
        refine va_get (D := G) (ci := 0) (v := .int (iZ (K 0 3))) (C := RX0) (T := TX0) (N := 14) hx hb hts hFX0 hown hK.1 hP 3 rfl rfl 3 (by decide) kf25 (fun _ h9 => h9) rfl dX3_chancesToCarry_50 ?_
        refine z_ishl1 (k := (K 0 3).toNat) hx hb dX3_chancesToCarry_53 (by omega) ?_
        refine z_icmp_ge (tgt := 109) hx hb dX3_chancesToCarry_54 (by decide) (by omega) (fun c_4 => ?_) (fun c_4 => ?_)
        · skip
          refine lv_iload hx hb dX3_chancesToCarry_109 (lv_at hl 1 rfl) ?_
          refine z_top (show q = chN (fE K mo) (K 0 3).toNat k (2 ^ (K 0 3).toNat) from ?_) ?_
          · rw [hI.1, show ch = 2 ^ (K 0 3).toNat by omega]
          have hP9 : va_P G vwCl (quW Y h4 ht va vb (ecU E1 C1 0) (ecU E1 C1 1) ++ cmW Y h ad K) H := hP.sub [0, 1, 2, 3, 4, 5, 6, 7, 8, 9, 10] rfl
          exact W.iret (v := iZ (chN (fE K mo) (K 0 3).toNat k (2 ^ (K 0 3).toNat))) hx hb hr (fun t9 ht9 _ => ⟨rfl, ⟨ecU E1 C1, by rw [ht9]; exact hP9⟩, hS.F ht9⟩) hS.2.2 dX3_chancesToCarry_111
        · skip
          refine lv_aload_n hx hb dX3_chancesToCarry_57 rfl (lv_at hl 2 rfl) ?_
          refine lv_aload_n hx hb dX3_chancesToCarry_58 rfl (lv_at hl 3 rfl) ?_
          refine va_get (D := G) (ci := 0) (v := .int (iZ (K 0 3))) (C := RX0) (T := TX0) (N := 14) hx hb hts hFX0 hown hK.1 hP 3 rfl rfl 3 (by decide) kf25 (fun _ h9 => h9) rfl dX3_chancesToCarry_59 ?_
          refine lv_iload hx hb dX3_chancesToCarry_62 (lv_at hl 0 rfl) ?_
          refine ro_V (As := [.int (iZ (K 0 3)), .int (iZ ((ch : Nat) : Int))]) (rest := []) ⟨hx, hb, hml, hown, hts⟩ (c_X3_sumOfVotes l G Y h4 ht va vb E1 C1 (K 0 3) ch (by omega)) (cwV 2 hts gX3_chancesToCarry_X3_sumOfVotes rfl rfl rfl (by decide +kernel) ⟨Nat.le_of_ble_eq_true rfl, Nat.le_of_ble_eq_true rfl⟩) hK (hP.sub (ws' := quW Y h4 ht va vb E1 C1) [0, 1, 2] rfl) 0 rfl rfl rfl hl.1 rfl (Nat.le_of_ble_eq_true rfl) dX3_chancesToCarry_64 ⟨Nat.zero_le _, Nat.zero_le _⟩ ?_
          rw [svN_congr ch (K 0 3).toNat hA hB]
          have hb_6 := svN_in ch (K 0 3).toNat hAB
          refine z_if_le (tgt := 103) hx hb dX3_chancesToCarry_67 (by decide) (by omega) (fun c_7 => ?_) (fun c_7 => ?_)
          · skip
            refine lv_iinc (v := iZ ((ch + 1 : Nat) : Int)) (lv' := [(5, .int (iZ ((ch + 1 : Nat) : Int))), (4, .int (iZ q)), (0, .ref h4), (1, .ref h), (2, .int (iZ ((mo : Nat) : Int))), (3, .int (iZ k))]) hx hb dX3_chancesToCarry_103 hl (k := 0) rfl (iZ_inc _) (by decide) rfl (fun ls hl => ?_)
            refine lv_goto (tgt := 46) hx hb dX3_chancesToCarry_106 (by decide) ?_
            exact ih3 (ls := ls) (ch := ch + 1) (q := q) (hI := by refine ⟨?_, by omega⟩; rw [chN]; first | (rw [if_neg (show ¬ 0 < svN (fun _ => 0) (fE K mo) ch (K 0 3).toNat from Int.not_lt.mpr (by assumption))]; exact hI.1) | (rw [if_pos (show 0 < svN (fun _ => 0) (fE K mo) ch (K 0 3).toNat by assumption), hI.1, show (K 0 3 - ((pcN ch 7 : Nat) : Int)).toNat = (K 0 3).toNat - pcN ch 7 by omega]; rfl)) (hl := lv_sub hl [0, 1, 2, 3, 4, 5] rfl) (hn_ := by omega)
          · skip
            refine lv_iload hx hb dX3_chancesToCarry_70 (lv_at hl 0 rfl) ?_
            refine ro_S (As := [.int (iZ ((ch : Nat) : Int))]) (rest := []) ⟨hx, hb, hml, hown, hts⟩ (c_J6_bitCount_0f7a4 l G Y (iZ ((ch : Nat) : Int))) (va_cwS 1 hts gX3_chancesToCarry_J6_bitCount_0f7a4 rfl rfl rfl (by decide +kernel) ⟨Nat.le_of_ble_eq_true rfl, Nat.le_of_ble_eq_true rfl⟩) hK (hP.sub (ws' := []) [] rfl) rfl hl.1 rfl (Nat.le_of_ble_eq_true rfl) dX3_chancesToCarry_72 ⟨Nat.zero_le _, Nat.zero_le _⟩ ?_
            rw [bc_ch (show ch < 128 by omega)]
            have hb_9 := pcN_le ch 7
            refine lv_istore (lv' := [(6, .int (iZ ((pcN ch 7 : Nat) : Int))), (5, .int (iZ ((ch : Nat) : Int))), (4, .int (iZ q)), (0, .ref h4), (1, .ref h), (2, .int (iZ ((mo : Nat) : Int))), (3, .int (iZ k))]) hx hb dX3_chancesToCarry_75 hl (by decide) rfl (fun ls hl => ?_)
            have hpn := pcN_n (K 0 3).toNat (by omega) ch (by omega)
            refine lv_iload hx hb dX3_chancesToCarry_77 (lv_at hl 2 rfl) ?_
            refine lv_iload_n hx hb dX3_chancesToCarry_79 rfl (lv_at hl 6 rfl) ?_
            refine lv_iload hx hb dX3_chancesToCarry_80 (lv_at hl 0 rfl) ?_
            refine ro_SN (As := [.int (iZ k), .int (iZ ((pcN ch 7 : Nat) : Int))]) (rest := [.int (iZ q)]) ⟨hx, hb, hml, hown, hts⟩ (c_X6_power l G Y k ((pcN ch 7 : Nat) : Int) (by omega)) ⟨va_cnB 2 hts gX3_chancesToCarry_X6_power_n113 rfl rfl rfl (nk_X3_113 hK.2) (hts (.initialized RX6) (by decide +kernel)) (by decide +kernel) ⟨Nat.le_of_ble_eq_true rfl, Nat.le_of_ble_eq_true rfl⟩, hts (.static yX6_power) (by decide +kernel), trivial⟩ hK (hP.sub (ws' := []) [] rfl) rfl hl.1 rfl (Nat.le_of_ble_eq_true rfl) dX3_chancesToCarry_82 ⟨Nat.zero_le _, Nat.zero_le _⟩ ?_
            refine z_bipush hx hb dX3_chancesToCarry_85 (by decide) ?_
            refine lv_iload_n hx hb dX3_chancesToCarry_87 rfl (lv_at hl 6 rfl) ?_
            refine z_isub hx hb dX3_chancesToCarry_88 ?_
            refine lv_aload_n hx hb dX3_chancesToCarry_89 rfl (lv_at hl 4 rfl) ?_
            refine va_get (D := G) (ci := 0) (v := .int (iZ (K 0 3))) (C := RX0) (T := TX0) (N := 14) hx hb hts hFX0 hown hK.1 hP 3 rfl rfl 3 (by decide) kf25 (fun _ h9 => h9) rfl dX3_chancesToCarry_90 ?_
            refine lv_iload hx hb dX3_chancesToCarry_93 (lv_at hl 0 rfl) ?_
            refine z_isub hx hb dX3_chancesToCarry_95 ?_
            refine ro_SN (As := [.int (iZ (10 - k)), .int (iZ (K 0 3 - ((pcN ch 7 : Nat) : Int)))]) (rest := [.int (iZ (k ^ (((pcN ch 7 : Nat) : Int)).toNat)), .int (iZ q)]) ⟨hx, hb, hml, hown, hts⟩ (c_X6_power l G Y (10 - k) (K 0 3 - ((pcN ch 7 : Nat) : Int)) (by omega)) ⟨va_cnB 2 hts gX3_chancesToCarry_X6_power_n113 rfl rfl rfl (nk_X3_113 hK.2) (hts (.initialized RX6) (by decide +kernel)) (by decide +kernel) ⟨Nat.le_of_ble_eq_true rfl, Nat.le_of_ble_eq_true rfl⟩, hts (.static yX6_power) (by decide +kernel), trivial⟩ hK (hP.sub (ws' := []) [] rfl) rfl hl.1 rfl (Nat.le_of_ble_eq_true rfl) dX3_chancesToCarry_96 ⟨Nat.zero_le _, Nat.zero_le _⟩ ?_
            refine z_imul hx hb dX3_chancesToCarry_99 ?_
            refine z_iadd hx hb dX3_chancesToCarry_100 ?_
            refine lv_istore (lv' := [(4, .int (iZ (q + ((k ^ (((pcN ch 7 : Nat) : Int)).toNat) * ((10 - k) ^ ((K 0 3 - ((pcN ch 7 : Nat) : Int))).toNat))))), (6, .int (iZ ((pcN ch 7 : Nat) : Int))), (5, .int (iZ ((ch : Nat) : Int))), (0, .ref h4), (1, .ref h), (2, .int (iZ ((mo : Nat) : Int))), (3, .int (iZ k))]) hx hb dX3_chancesToCarry_101 hl (by decide) rfl (fun ls hl => ?_)
            refine lv_iinc (v := iZ ((ch + 1 : Nat) : Int)) (lv' := [(5, .int (iZ ((ch + 1 : Nat) : Int))), (4, .int (iZ (q + ((k ^ (((pcN ch 7 : Nat) : Int)).toNat) * ((10 - k) ^ ((K 0 3 - ((pcN ch 7 : Nat) : Int))).toNat))))), (6, .int (iZ ((pcN ch 7 : Nat) : Int))), (0, .ref h4), (1, .ref h), (2, .int (iZ ((mo : Nat) : Int))), (3, .int (iZ k))]) hx hb dX3_chancesToCarry_103 hl (k := 2) rfl (iZ_inc _) (by decide) rfl (fun ls hl => ?_)
            refine lv_goto (tgt := 46) hx hb dX3_chancesToCarry_106 (by decide) ?_
            exact ih3 (ls := ls) (ch := ch + 1) (q := (q + ((k ^ (((pcN ch 7 : Nat) : Int)).toNat) * ((10 - k) ^ ((K 0 3 - ((pcN ch 7 : Nat) : Int))).toNat)))) (hI := by refine ⟨?_, by omega⟩; rw [chN]; first | (rw [if_neg (show ¬ 0 < svN (fun _ => 0) (fE K mo) ch (K 0 3).toNat from Int.not_lt.mpr (by assumption))]; exact hI.1) | (rw [if_pos (show 0 < svN (fun _ => 0) (fE K mo) ch (K 0 3).toNat by assumption), hI.1, show (K 0 3 - ((pcN ch 7 : Nat) : Int)).toNat = (K 0 3).toNat - pcN ch 7 by omega]; rfl)) (hl := lv_sub hl [0, 1, 3, 4, 5, 6] rfl) (hn_ := by omega)
    · skip
      refine lv_aload_n hx hb dX3_chancesToCarry_12 rfl (lv_at hl 1 rfl) ?_
      refine va_get (D := G) (ci := 3) (v := .ref va) (C := RX3) (T := TX3) (N := 3) hx hb hts hFX3 hown hK.1 hP 0 rfl rfl 1 (by decide) kf18 (fun _ h9 => h9) rfl dX3_chancesToCarry_13 ?_
      refine lv_iload hx hb dX3_chancesToCarry_16 (lv_at hl 0 rfl) ?_
      refine z_iconst hx hb dX3_chancesToCarry_18 ?_
      refine z_iast hx hb hK.1 hP hD hS 1 0 rfl rfl i (by omega) (by decide) dX3_chancesToCarry_19 (fun H locs hP hD hS => ?_)
      replace hP : va_P G vwCl [(h4, .inr (3, [.ref ht, .ref va, .ref vb])), (va, .inl (Y 0, 7, .inl (aI (va_up E1 i 0)))), (vb, .inl (Y 0, 7, .inl (aI C1))), (h, .inr (0, [.int (iZ (K 0 0)), .int (iZ (K 0 1)), .int (iZ (K 0 2)), .int (iZ (K 0 3)), .int (iZ (K 0 4)), .int (iZ (K 0 5)), .int (iZ (K 0 6)), .ref (ad 1), .ref (ad 2), .ref (ad 3), .ref (ad 4), .ref (ad 5), .ref (ad 6), .ref (ad 7)])), (ad 1, .inl (Y 0, 6, .inl (aI (K 1)))), (ad 2, .inl (Y 0, 6, .inl (aI (K 2)))), (ad 3, .inl (Y 0, 6, .inl (aI (K 3)))), (ad 4, .inl (Y 1, 6, .inl (aI (K 4)))), (ad 5, .inl (Y 1, 6, .inl (aI (K 5)))), (ad 6, .inl (Y 0, 7, .inl (aI (K 6)))), (ad 7, .inl (Y 0, 7, .inl (aI (K 7))))] H := hP
      replace hD : va_D _ [(h4, .inr (3, [.ref ht, .ref va, .ref vb])), (va, .inl (Y 0, 7, .inl (aI (va_up E1 i 0)))), (vb, .inl (Y 0, 7, .inl (aI C1))), (h, .inr (0, [.int (iZ (K 0 0)), .int (iZ (K 0 1)), .int (iZ (K 0 2)), .int (iZ (K 0 3)), .int (iZ (K 0 4)), .int (iZ (K 0 5)), .int (iZ (K 0 6)), .ref (ad 1), .ref (ad 2), .ref (ad 3), .ref (ad 4), .ref (ad 5), .ref (ad 6), .ref (ad 7)])), (ad 1, .inl (Y 0, 6, .inl (aI (K 1)))), (ad 2, .inl (Y 0, 6, .inl (aI (K 2)))), (ad 3, .inl (Y 0, 6, .inl (aI (K 3)))), (ad 4, .inl (Y 1, 6, .inl (aI (K 4)))), (ad 5, .inl (Y 1, 6, .inl (aI (K 5)))), (ad 6, .inl (Y 0, 7, .inl (aI (K 6)))), (ad 7, .inl (Y 0, 7, .inl (aI (K 7))))] := hD
      refine lv_aload_n hx hb dX3_chancesToCarry_20 rfl (lv_at hl 1 rfl) ?_
      refine va_get (D := G) (ci := 3) (v := .ref vb) (C := RX3) (T := TX3) (N := 3) hx hb hts hFX3 hown hK.1 hP 0 rfl rfl 2 (by decide) kf22 (fun _ h9 => h9) rfl dX3_chancesToCarry_21 ?_
      refine lv_iload hx hb dX3_chancesToCarry_24 (lv_at hl 0 rfl) ?_
      refine lv_aload_n hx hb dX3_chancesToCarry_26 rfl (lv_at hl 2 rfl) ?_
      refine lv_iload hx hb dX3_chancesToCarry_27 (lv_at hl 0 rfl) ?_
      refine lv_iload_n hx hb dX3_chancesToCarry_29 rfl (lv_at hl 3 rfl) ?_
      refine ro_V (As := [.int (iZ ((i : Nat) : Int)), .int (iZ ((mo : Nat) : Int))]) (rest := [.int (iZ ((i : Nat) : Int)), .ref vb]) ⟨hx, hb, hml, hown, hts⟩ (c_X0_voteOf l G Y h ad K hW i mo (by omega)) (cwV 2 hts gX3_chancesToCarry_X0_voteOf rfl rfl rfl (by decide +kernel) ⟨Nat.le_of_ble_eq_true rfl, Nat.le_of_ble_eq_true rfl⟩) hK (hP.sub (ws' := cmW Y h ad K) [3, 4, 5, 6, 7, 8, 9, 10] rfl) 0 rfl rfl rfl hl.1 rfl (Nat.le_of_ble_eq_true rfl) dX3_chancesToCarry_30 ⟨Nat.zero_le _, Nat.zero_le _⟩ ?_
      have hb_10 := vt_in hW i mo (by omega)
      refine z_iast hx hb hK.1 hP hD hS 2 0 rfl rfl i (by omega) (by decide) dX3_chancesToCarry_33 (fun H locs hP hD hS => ?_)
      replace hP : va_P G vwCl [(h4, .inr (3, [.ref ht, .ref va, .ref vb])), (va, .inl (Y 0, 7, .inl (aI (va_up E1 i 0)))), (vb, .inl (Y 0, 7, .inl (aI (va_up C1 i (vt K i mo))))), (h, .inr (0, [.int (iZ (K 0 0)), .int (iZ (K 0 1)), .int (iZ (K 0 2)), .int (iZ (K 0 3)), .int (iZ (K 0 4)), .int (iZ (K 0 5)), .int (iZ (K 0 6)), .ref (ad 1), .ref (ad 2), .ref (ad 3), .ref (ad 4), .ref (ad 5), .ref (ad 6), .ref (ad 7)])), (ad 1, .inl (Y 0, 6, .inl (aI (K 1)))), (ad 2, .inl (Y 0, 6, .inl (aI (K 2)))), (ad 3, .inl (Y 0, 6, .inl (aI (K 3)))), (ad 4, .inl (Y 1, 6, .inl (aI (K 4)))), (ad 5, .inl (Y 1, 6, .inl (aI (K 5)))), (ad 6, .inl (Y 0, 7, .inl (aI (K 6)))), (ad 7, .inl (Y 0, 7, .inl (aI (K 7))))] H := hP
      replace hD : va_D _ [(h4, .inr (3, [.ref ht, .ref va, .ref vb])), (va, .inl (Y 0, 7, .inl (aI (va_up E1 i 0)))), (vb, .inl (Y 0, 7, .inl (aI (va_up C1 i (vt K i mo))))), (h, .inr (0, [.int (iZ (K 0 0)), .int (iZ (K 0 1)), .int (iZ (K 0 2)), .int (iZ (K 0 3)), .int (iZ (K 0 4)), .int (iZ (K 0 5)), .int (iZ (K 0 6)), .ref (ad 1), .ref (ad 2), .ref (ad 3), .ref (ad 4), .ref (ad 5), .ref (ad 6), .ref (ad 7)])), (ad 1, .inl (Y 0, 6, .inl (aI (K 1)))), (ad 2, .inl (Y 0, 6, .inl (aI (K 2)))), (ad 3, .inl (Y 0, 6, .inl (aI (K 3)))), (ad 4, .inl (Y 1, 6, .inl (aI (K 4)))), (ad 5, .inl (Y 1, 6, .inl (aI (K 5)))), (ad 6, .inl (Y 0, 7, .inl (aI (K 6)))), (ad 7, .inl (Y 0, 7, .inl (aI (K 7))))] := hD
      refine lv_iinc (v := iZ ((i + 1 : Nat) : Int)) (lv' := [(4, .int (iZ ((i + 1 : Nat) : Int))), (0, .ref h4), (1, .ref h), (2, .int (iZ ((mo : Nat) : Int))), (3, .int (iZ k))]) hx hb dX3_chancesToCarry_34 hl (k := 0) rfl (iZ_inc _) (by decide) rfl (fun ls hl => ?_)
      refine lv_goto (tgt := 3) hx hb dX3_chancesToCarry_37 (by decide) ?_
      exact ih1 (ls := ls) (i := i + 1) (E1 := va_up E1 i 0) (C1 := va_up C1 i (vt K i mo)) (H := H) (locs := locs) (hS := hS) (hI := by exact ⟨by omega, agr_up (g := fZ) hI.2.1, agr_up hI.2.2⟩) (hl := lv_sub hl [0, 1, 2, 3, 4] rfl) (hP := hP) (hD := hD) (hn_ := by omega)

set_option maxHeartbeats 4000000 in
set_option maxRecDepth 100000 in
theorem c_X3_leastPruning (l : Launch) (G : va_G) (Y : Nat → ClassId) (h4 ht va vb : Nat) (adt : Nat → Nat) (Kt : Kom) (h : Nat) (ad : Nat → Nat) (K : Kom) (hW : cWF K) (mo : Nat) (r : mo ≤ 2) : Met l yX3_leastPruning wsX3_leastPruning ({ frames := 5, cells := 0, slots := 0, locals := 115 }) (mP G Y [.ref h4, .ref h, .int (iZ ((mo : Nat) : Int))] (qoW Y h4 ht va vb ++ (cmW Y ht adt Kt ++ cmW Y h ad K))) (eQ G (qoW Y h4 ht va vb ++ (cmW Y ht adt Kt ++ cmW Y h ad K)) (some (.int (iZ (lpr K mo)))) (fun u => qoW Y h4 ht va vb ++ (cmW Y ht adt u ++ cmW Y h ad K))) 0 0 (fun q => q ∈ List.map Prod.fst (qoW Y h4 ht va vb ++ (cmW Y ht adt Kt ++ cmW Y h ad K))) := by
  refine Met.ofW (cc := cX3_leastPruning) (maxL := 5) (ret := (some .int)) (by decide) rfl ?_
  intro p e s m args below meth c s₁ B hml hv
  obtain ⟨rfl, hK, hP, hD0⟩ := hv
  have hx := B.exec
  have hb := B.bytes
  have hr := B.returns
  have hts := atoms_spec (ws := wsX3_leastPruning) B.pre
  have hown : s.vm.findClass RX3 = some m.cls := findClass_of_methodNamed B.named
  have hlocks := B.notSynchronized
  have hFX0 : ∀ w ∈ wsX00, w ∈ wsX3_leastPruning := by decide +kernel
  have hFX3 : ∀ w ∈ wsX30, w ∈ wsX3_leastPruning := by decide +kernel
  have kf75 := (hts (.fieldLink RX3 75 "ShadeVotes$Commune" "trees" "I") (by decide +kernel))
  have kf12 := (hts (.fieldLink RX3 12 "ShadeVotes$Question" "trial" "LShadeVotes$Commune;") (by decide +kernel))
  have hD := va_D_self hD0
  have hS : va_S (fun q => q ∈ List.map Prod.fst (qoW Y h4 ht va vb ++ (cmW Y ht adt Kt ++ cmW Y h ad K))) s.heap s.heap [] := va_S.rf
  obtain ⟨H, hHe⟩ : ∃ H, H = s.heap := ⟨_, rfl⟩
  rw [← hHe] at hP
  replace hS : va_S (fun q => q ∈ List.map Prod.fst (qoW Y h4 ht va vb ++ (cmW Y ht adt Kt ++ cmW Y h ad K))) s.heap H [] := by rw [hHe]; exact hS
  have hl := lv_entry ([.ref h4, .ref h, .int (iZ ((mo : Nat) : Int))]) (n := 5) (Nat.le_of_ble_eq_true rfl)
  rw [lg_entry_eq]
  generalize (lg_sl ([.ref h4, .ref h, .int (iZ ((mo : Nat) : Int))]) ++ List.replicate (5 - (lg_sl ([.ref h4, .ref h, .int (iZ ((mo : Nat) : Int))])).length) Slot.unset).toArray = ls at hl ⊢
  replace hl : lv_has ls 5 [(0, .ref h4), (1, .ref h), (2, .int (iZ ((mo : Nat) : Int)))] := hl
  obtain ⟨locs, hLe⟩ : ∃ locs : List Loc, locs = [] := ⟨_, rfl⟩
  rw [← hLe] at hS ⊢
  have hW0 : ∀ {Q : State → Prop} {g : JFrame}, W p l e ({ frames := 5, cells := 0, slots := 0, locals := 115 }) s m [.ref h4, .ref h, .int (iZ ((mo : Nat) : Int))].toArray below meth c H locs 0 0 Q g → W p l e ({ frames := 5, cells := 0, slots := 0, locals := 115 }) s m [.ref h4, .ref h, .int (iZ ((mo : Nat) : Int))].toArray below meth c s.heap locs 0 0 Q g := fun h => by rw [← hHe]; exact h
  refine hW0 ?_
  clear hW0 hHe hLe
  have h0 := hW.1
  have hnc := hW.nc
  refine lv_aload_n hx hb dX3_leastPruning_0 rfl (lv_at hl 1 rfl) ?_
  refine lv_iload_n hx hb dX3_leastPruning_1 rfl (lv_at hl 2 rfl) ?_
  refine ro_V (As := [.int (iZ ((mo : Nat) : Int))]) (rest := []) ⟨hx, hb, hml, hown, hts⟩ (c_X0_isCarried l G Y h ad K hW mo (by omega)) (cwV 1 hts gX3_leastPruning_X0_isCarried rfl rfl rfl (by decide +kernel) ⟨Nat.le_of_ble_eq_true rfl, Nat.le_of_ble_eq_true rfl⟩) hK (hP.sub (ws' := cmW Y h ad K) [9, 10, 11, 12, 13, 14, 15, 16] rfl) 0 rfl rfl rfl hl.1 rfl (Nat.le_of_ble_eq_true rfl) dX3_leastPruning_2 ⟨Nat.zero_le _, Nat.zero_le _⟩ ?_
  refine z_ifb_eq (tgt := 10) hx hb dX3_leastPruning_5 (by decide) (fun c_1 => ?_) (fun c_1 => ?_)
  · skip
    refine z_iconst hx hb dX3_leastPruning_10 ?_
    refine lv_istore_n (lv' := [(3, .int (iZ 1)), (0, .ref h4), (1, .ref h), (2, .int (iZ ((mo : Nat) : Int)))]) hx hb dX3_leastPruning_11 rfl hl (by decide) rfl (fun ls hl => ?_)
    obtain ⟨n1, Kt1, hI, hl1, hP1, hD1⟩ : ∃ (n1 : Nat) (Kt1 : Kom), (n1 ≤ 20 ∧ prS K mo n1 = -9) ∧ lv_has ls 5 [(3, .int (iZ ((n1 + 1 : Nat) : Int))), (0, .ref h4), (1, .ref h), (2, .int (iZ ((mo : Nat) : Int)))] ∧ va_P G vwCl [(h4, .inr (3, [.ref ht, .ref va, .ref vb])), (ht, .inr (0, [.int (iZ (Kt1 0 0)), .int (iZ (Kt1 0 1)), .int (iZ (Kt1 0 2)), .int (iZ (Kt1 0 3)), .int (iZ (Kt1 0 4)), .int (iZ (Kt1 0 5)), .int (iZ (Kt1 0 6)), .ref (adt 1), .ref (adt 2), .ref (adt 3), .ref (adt 4), .ref (adt 5), .ref (adt 6), .ref (adt 7)])), (adt 1, .inl (Y 0, 6, .inl (aI (Kt1 1)))), (adt 2, .inl (Y 0, 6, .inl (aI (Kt1 2)))), (adt 3, .inl (Y 0, 6, .inl (aI (Kt1 3)))), (adt 4, .inl (Y 1, 6, .inl (aI (Kt1 4)))), (adt 5, .inl (Y 1, 6, .inl (aI (Kt1 5)))), (adt 6, .inl (Y 0, 7, .inl (aI (Kt1 6)))), (adt 7, .inl (Y 0, 7, .inl (aI (Kt1 7)))), (h, .inr (0, [.int (iZ (K 0 0)), .int (iZ (K 0 1)), .int (iZ (K 0 2)), .int (iZ (K 0 3)), .int (iZ (K 0 4)), .int (iZ (K 0 5)), .int (iZ (K 0 6)), .ref (ad 1), .ref (ad 2), .ref (ad 3), .ref (ad 4), .ref (ad 5), .ref (ad 6), .ref (ad 7)])), (ad 1, .inl (Y 0, 6, .inl (aI (K 1)))), (ad 2, .inl (Y 0, 6, .inl (aI (K 2)))), (ad 3, .inl (Y 0, 6, .inl (aI (K 3)))), (ad 4, .inl (Y 1, 6, .inl (aI (K 4)))), (ad 5, .inl (Y 1, 6, .inl (aI (K 5)))), (ad 6, .inl (Y 0, 7, .inl (aI (K 6)))), (ad 7, .inl (Y 0, 7, .inl (aI (K 7))))] H ∧ va_D (fun q => q ∈ List.map Prod.fst (qoW Y h4 ht va vb ++ (cmW Y ht adt Kt ++ cmW Y h ad K))) [(h4, .inr (3, [.ref ht, .ref va, .ref vb])), (ht, .inr (0, [.int (iZ (Kt1 0 0)), .int (iZ (Kt1 0 1)), .int (iZ (Kt1 0 2)), .int (iZ (Kt1 0 3)), .int (iZ (Kt1 0 4)), .int (iZ (Kt1 0 5)), .int (iZ (Kt1 0 6)), .ref (adt 1), .ref (adt 2), .ref (adt 3), .ref (adt 4), .ref (adt 5), .ref (adt 6), .ref (adt 7)])), (adt 1, .inl (Y 0, 6, .inl (aI (Kt1 1)))), (adt 2, .inl (Y 0, 6, .inl (aI (Kt1 2)))), (adt 3, .inl (Y 0, 6, .inl (aI (Kt1 3)))), (adt 4, .inl (Y 1, 6, .inl (aI (Kt1 4)))), (adt 5, .inl (Y 1, 6, .inl (aI (Kt1 5)))), (adt 6, .inl (Y 0, 7, .inl (aI (Kt1 6)))), (adt 7, .inl (Y 0, 7, .inl (aI (Kt1 7)))), (h, .inr (0, [.int (iZ (K 0 0)), .int (iZ (K 0 1)), .int (iZ (K 0 2)), .int (iZ (K 0 3)), .int (iZ (K 0 4)), .int (iZ (K 0 5)), .int (iZ (K 0 6)), .ref (ad 1), .ref (ad 2), .ref (ad 3), .ref (ad 4), .ref (ad 5), .ref (ad 6), .ref (ad 7)])), (ad 1, .inl (Y 0, 6, .inl (aI (K 1)))), (ad 2, .inl (Y 0, 6, .inl (aI (K 2)))), (ad 3, .inl (Y 0, 6, .inl (aI (K 3)))), (ad 4, .inl (Y 1, 6, .inl (aI (K 4)))), (ad 5, .inl (Y 1, 6, .inl (aI (K 5)))), (ad 6, .inl (Y 0, 7, .inl (aI (K 6)))), (ad 7, .inl (Y 0, 7, .inl (aI (K 7))))] := ⟨0, Kt, by exact ⟨by omega, rfl⟩, lv_sub hl [0, 1, 2, 3] rfl, hP, hD⟩
    clear hl hP hD
    have hl := hl1
    clear hl1
    have hP := hP1
    have hD := hD1
    clear hP1 hD1
    obtain ⟨n_, hn_⟩ : ∃ n_ : Nat, 20 - n1 < n_ := ⟨_, Nat.lt_succ_self _⟩
    induction n_ generalizing n1 Kt1 ls H locs with
    | zero => exact absurd hn_ (Nat.not_lt_zero _)
    | succ n_ ih2 =>
      refine lv_iload_n hx hb dX3_leastPruning_12 rfl (lv_at hl 0 rfl) ?_
      refine z_bipush hx hb dX3_leastPruning_13 (by decide) ?_
      refine z_icmp_gt (tgt := 79) hx hb dX3_leastPruning_15 (by decide) (by omega) (fun c_3 => ?_) (fun c_3 => ?_)
      · skip
        refine z_bipush hx hb dX3_leastPruning_79 (by decide) ?_
        refine z_top (show (-9) = lpr K mo from ?_) ?_
        · unfold lpr; rw [if_neg (by rw [c_1]; exact Bool.false_ne_true), show (20 : Nat) = n1 by omega, hI.2]
        have hP9 : va_P G vwCl (qoW Y h4 ht va vb ++ (cmW Y ht adt Kt1 ++ cmW Y h ad K)) H := hP.sub [0, 1, 2, 3, 4, 5, 6, 7, 8, 9, 10, 11, 12, 13, 14, 15, 16] rfl
        exact W.iret (v := iZ (lpr K mo)) hx hb hr (fun t9 ht9 _ => ⟨rfl, ⟨Kt1, by rw [ht9]; exact hP9⟩, hS.F ht9⟩) hS.2.2 dX3_leastPruning_81
      · skip
        have hJ := hI
        refine z_iconst hx hb dX3_leastPruning_18 ?_
        refine lv_istore (lv' := [(4, .int (iZ 0)), (3, .int (iZ ((n1 + 1 : Nat) : Int))), (0, .ref h4), (1, .ref h), (2, .int (iZ ((mo : Nat) : Int)))]) hx hb dX3_leastPruning_19 hl (by decide) rfl (fun ls hl => ?_)
        obtain ⟨t, Kt2, hI, hl1, hP1, hD1⟩ : ∃ (t : Nat) (Kt2 : Kom), ((t : Int) ≤ K 0 2 ∧ fnd (fun t => crd (lowK K t ((n1 + 1 : Nat) : Int)) mo) t = -9) ∧ lv_has ls 5 [(4, .int (iZ ((t : Nat) : Int))), (3, .int (iZ ((n1 + 1 : Nat) : Int))), (0, .ref h4), (1, .ref h), (2, .int (iZ ((mo : Nat) : Int)))] ∧ va_P G vwCl [(h4, .inr (3, [.ref ht, .ref va, .ref vb])), (ht, .inr (0, [.int (iZ (Kt2 0 0)), .int (iZ (Kt2 0 1)), .int (iZ (Kt2 0 2)), .int (iZ (Kt2 0 3)), .int (iZ (Kt2 0 4)), .int (iZ (Kt2 0 5)), .int (iZ (Kt2 0 6)), .ref (adt 1), .ref (adt 2), .ref (adt 3), .ref (adt 4), .ref (adt 5), .ref (adt 6), .ref (adt 7)])), (adt 1, .inl (Y 0, 6, .inl (aI (Kt2 1)))), (adt 2, .inl (Y 0, 6, .inl (aI (Kt2 2)))), (adt 3, .inl (Y 0, 6, .inl (aI (Kt2 3)))), (adt 4, .inl (Y 1, 6, .inl (aI (Kt2 4)))), (adt 5, .inl (Y 1, 6, .inl (aI (Kt2 5)))), (adt 6, .inl (Y 0, 7, .inl (aI (Kt2 6)))), (adt 7, .inl (Y 0, 7, .inl (aI (Kt2 7)))), (h, .inr (0, [.int (iZ (K 0 0)), .int (iZ (K 0 1)), .int (iZ (K 0 2)), .int (iZ (K 0 3)), .int (iZ (K 0 4)), .int (iZ (K 0 5)), .int (iZ (K 0 6)), .ref (ad 1), .ref (ad 2), .ref (ad 3), .ref (ad 4), .ref (ad 5), .ref (ad 6), .ref (ad 7)])), (ad 1, .inl (Y 0, 6, .inl (aI (K 1)))), (ad 2, .inl (Y 0, 6, .inl (aI (K 2)))), (ad 3, .inl (Y 0, 6, .inl (aI (K 3)))), (ad 4, .inl (Y 1, 6, .inl (aI (K 4)))), (ad 5, .inl (Y 1, 6, .inl (aI (K 5)))), (ad 6, .inl (Y 0, 7, .inl (aI (K 6)))), (ad 7, .inl (Y 0, 7, .inl (aI (K 7))))] H ∧ va_D (fun q => q ∈ List.map Prod.fst (qoW Y h4 ht va vb ++ (cmW Y ht adt Kt ++ cmW Y h ad K))) [(h4, .inr (3, [.ref ht, .ref va, .ref vb])), (ht, .inr (0, [.int (iZ (Kt2 0 0)), .int (iZ (Kt2 0 1)), .int (iZ (Kt2 0 2)), .int (iZ (Kt2 0 3)), .int (iZ (Kt2 0 4)), .int (iZ (Kt2 0 5)), .int (iZ (Kt2 0 6)), .ref (adt 1), .ref (adt 2), .ref (adt 3), .ref (adt 4), .ref (adt 5), .ref (adt 6), .ref (adt 7)])), (adt 1, .inl (Y 0, 6, .inl (aI (Kt2 1)))), (adt 2, .inl (Y 0, 6, .inl (aI (Kt2 2)))), (adt 3, .inl (Y 0, 6, .inl (aI (Kt2 3)))), (adt 4, .inl (Y 1, 6, .inl (aI (Kt2 4)))), (adt 5, .inl (Y 1, 6, .inl (aI (Kt2 5)))), (adt 6, .inl (Y 0, 7, .inl (aI (Kt2 6)))), (adt 7, .inl (Y 0, 7, .inl (aI (Kt2 7)))), (h, .inr (0, [.int (iZ (K 0 0)), .int (iZ (K 0 1)), .int (iZ (K 0 2)), .int (iZ (K 0 3)), .int (iZ (K 0 4)), .int (iZ (K 0 5)), .int (iZ (K 0 6)), .ref (ad 1), .ref (ad 2), .ref (ad 3), .ref (ad 4), .ref (ad 5), .ref (ad 6), .ref (ad 7)])), (ad 1, .inl (Y 0, 6, .inl (aI (K 1)))), (ad 2, .inl (Y 0, 6, .inl (aI (K 2)))), (ad 3, .inl (Y 0, 6, .inl (aI (K 3)))), (ad 4, .inl (Y 1, 6, .inl (aI (K 4)))), (ad 5, .inl (Y 1, 6, .inl (aI (K 5)))), (ad 6, .inl (Y 0, 7, .inl (aI (K 6)))), (ad 7, .inl (Y 0, 7, .inl (aI (K 7))))] := ⟨0, Kt1, by exact ⟨by omega, rfl⟩, lv_sub hl [0, 1, 2, 3, 4] rfl, hP, hD⟩
        clear hl hP hD
        have hl := hl1
        clear hl1
        have hP := hP1
        have hD := hD1
        clear hP1 hD1
        obtain ⟨n_, hn_⟩ : ∃ n_ : Nat, (K 0 2).toNat - t < n_ := ⟨_, Nat.lt_succ_self _⟩
        induction n_ generalizing t Kt2 ls H locs with
        | zero => exact absurd hn_ (Nat.not_lt_zero _)
        | succ n_ ih4 =>
          refine lv_iload hx hb dX3_leastPruning_21 (lv_at hl 0 rfl) ?_
          refine lv_aload_n hx hb dX3_leastPruning_23 rfl (lv_at hl 3 rfl) ?_
          refine va_get (D := G) (ci := 0) (v := .int (iZ (K 0 2))) (C := RX0) (T := TX0) (N := 14) hx hb hts hFX0 hown hK.1 hP 9 rfl rfl 2 (by decide) kf75 (fun _ h9 => h9) rfl dX3_leastPruning_24 ?_
          refine z_icmp_ge (tgt := 73) hx hb dX3_leastPruning_27 (by decide) (by omega) (fun c_5 => ?_) (fun c_5 => ?_)
          · skip
            refine lv_iinc (v := iZ ((n1 + 1 + 1 : Nat) : Int)) (lv' := [(3, .int (iZ ((n1 + 1 + 1 : Nat) : Int))), (4, .int (iZ ((t : Nat) : Int))), (0, .ref h4), (1, .ref h), (2, .int (iZ ((mo : Nat) : Int)))]) hx hb dX3_leastPruning_73 hl (k := 1) rfl (iZ_inc _) (by decide) rfl (fun ls hl => ?_)
            refine lv_goto (tgt := 12) hx hb dX3_leastPruning_76 (by decide) ?_
            exact ih2 (ls := ls) (n1 := n1 + 1) (Kt1 := Kt2) (H := H) (locs := locs) (hS := hS) (hI := by exact ⟨by omega, prS_no hJ.2 (show pr1 K mo ((n1 + 1 : Nat) : Int) = -9 from by unfold pr1; rw [show (K 0 2).toNat = t by omega]; exact hI.2)⟩) (hl := lv_sub hl [0, 2, 3, 4] rfl) (hP := hP) (hD := hD) (hn_ := by omega)
          · skip
            refine lv_aload_n hx hb dX3_leastPruning_30 rfl (lv_at hl 2 rfl) ?_
            refine va_get (D := G) (ci := 3) (v := .ref ht) (C := RX3) (T := TX3) (N := 3) hx hb hts hFX3 hown hK.1 hP 0 rfl rfl 0 (by decide) kf12 (fun _ h9 => h9) rfl dX3_leastPruning_31 ?_
            refine lv_aload_n hx hb dX3_leastPruning_34 rfl (lv_at hl 3 rfl) ?_
            have hP := hP.sub (ws' := [(ht, .inr (0, [.int (iZ (Kt2 0 0)), .int (iZ (Kt2 0 1)), .int (iZ (Kt2 0 2)), .int (iZ (Kt2 0 3)), .int (iZ (Kt2 0 4)), .int (iZ (Kt2 0 5)), .int (iZ (Kt2 0 6)), .ref (adt 1), .ref (adt 2), .ref (adt 3), .ref (adt 4), .ref (adt 5), .ref (adt 6), .ref (adt 7)])), (adt 1, .inl (Y 0, 6, .inl (aI (Kt2 1)))), (adt 2, .inl (Y 0, 6, .inl (aI (Kt2 2)))), (adt 3, .inl (Y 0, 6, .inl (aI (Kt2 3)))), (adt 4, .inl (Y 1, 6, .inl (aI (Kt2 4)))), (adt 5, .inl (Y 1, 6, .inl (aI (Kt2 5)))), (adt 6, .inl (Y 0, 7, .inl (aI (Kt2 6)))), (adt 7, .inl (Y 0, 7, .inl (aI (Kt2 7)))), (h, .inr (0, [.int (iZ (K 0 0)), .int (iZ (K 0 1)), .int (iZ (K 0 2)), .int (iZ (K 0 3)), .int (iZ (K 0 4)), .int (iZ (K 0 5)), .int (iZ (K 0 6)), .ref (ad 1), .ref (ad 2), .ref (ad 3), .ref (ad 4), .ref (ad 5), .ref (ad 6), .ref (ad 7)])), (ad 1, .inl (Y 0, 6, .inl (aI (K 1)))), (ad 2, .inl (Y 0, 6, .inl (aI (K 2)))), (ad 3, .inl (Y 0, 6, .inl (aI (K 3)))), (ad 4, .inl (Y 1, 6, .inl (aI (K 4)))), (ad 5, .inl (Y 1, 6, .inl (aI (K 5)))), (ad 6, .inl (Y 0, 7, .inl (aI (K 6)))), (ad 7, .inl (Y 0, 7, .inl (aI (K 7))))] ++ [(h4, .inr (3, [.ref ht, .ref va, .ref vb]))]) [1, 2, 3, 4, 5, 6, 7, 8, 9, 10, 11, 12, 13, 14, 15, 16, 0] rfl
            have hD := hD.sub (ws' := [(ht, .inr (0, [.int (iZ (Kt2 0 0)), .int (iZ (Kt2 0 1)), .int (iZ (Kt2 0 2)), .int (iZ (Kt2 0 3)), .int (iZ (Kt2 0 4)), .int (iZ (Kt2 0 5)), .int (iZ (Kt2 0 6)), .ref (adt 1), .ref (adt 2), .ref (adt 3), .ref (adt 4), .ref (adt 5), .ref (adt 6), .ref (adt 7)])), (adt 1, .inl (Y 0, 6, .inl (aI (Kt2 1)))), (adt 2, .inl (Y 0, 6, .inl (aI (Kt2 2)))), (adt 3, .inl (Y 0, 6, .inl (aI (Kt2 3)))), (adt 4, .inl (Y 1, 6, .inl (aI (Kt2 4)))), (adt 5, .inl (Y 1, 6, .inl (aI (Kt2 5)))), (adt 6, .inl (Y 0, 7, .inl (aI (Kt2 6)))), (adt 7, .inl (Y 0, 7, .inl (aI (Kt2 7)))), (h, .inr (0, [.int (iZ (K 0 0)), .int (iZ (K 0 1)), .int (iZ (K 0 2)), .int (iZ (K 0 3)), .int (iZ (K 0 4)), .int (iZ (K 0 5)), .int (iZ (K 0 6)), .ref (ad 1), .ref (ad 2), .ref (ad 3), .ref (ad 4), .ref (ad 5), .ref (ad 6), .ref (ad 7)])), (ad 1, .inl (Y 0, 6, .inl (aI (K 1)))), (ad 2, .inl (Y 0, 6, .inl (aI (K 2)))), (ad 3, .inl (Y 0, 6, .inl (aI (K 3)))), (ad 4, .inl (Y 1, 6, .inl (aI (K 4)))), (ad 5, .inl (Y 1, 6, .inl (aI (K 5)))), (ad 6, .inl (Y 0, 7, .inl (aI (K 6)))), (ad 7, .inl (Y 0, 7, .inl (aI (K 7))))] ++ [(h4, .inr (3, [.ref ht, .ref va, .ref vb]))]) [1, 2, 3, 4, 5, 6, 7, 8, 9, 10, 11, 12, 13, 14, 15, 16, 0] (by decide) rfl
            refine mu_V (As := [.ref h]) (rest := []) (wc := [(ht, .inr (0, [.int (iZ (Kt2 0 0)), .int (iZ (Kt2 0 1)), .int (iZ (Kt2 0 2)), .int (iZ (Kt2 0 3)), .int (iZ (Kt2 0 4)), .int (iZ (Kt2 0 5)), .int (iZ (Kt2 0 6)), .ref (adt 1), .ref (adt 2), .ref (adt 3), .ref (adt 4), .ref (adt 5), .ref (adt 6), .ref (adt 7)])), (adt 1, .inl (Y 0, 6, .inl (aI (Kt2 1)))), (adt 2, .inl (Y 0, 6, .inl (aI (Kt2 2)))), (adt 3, .inl (Y 0, 6, .inl (aI (Kt2 3)))), (adt 4, .inl (Y 1, 6, .inl (aI (Kt2 4)))), (adt 5, .inl (Y 1, 6, .inl (aI (Kt2 5)))), (adt 6, .inl (Y 0, 7, .inl (aI (Kt2 6)))), (adt 7, .inl (Y 0, 7, .inl (aI (Kt2 7)))), (h, .inr (0, [.int (iZ (K 0 0)), .int (iZ (K 0 1)), .int (iZ (K 0 2)), .int (iZ (K 0 3)), .int (iZ (K 0 4)), .int (iZ (K 0 5)), .int (iZ (K 0 6)), .ref (ad 1), .ref (ad 2), .ref (ad 3), .ref (ad 4), .ref (ad 5), .ref (ad 6), .ref (ad 7)])), (ad 1, .inl (Y 0, 6, .inl (aI (K 1)))), (ad 2, .inl (Y 0, 6, .inl (aI (K 2)))), (ad 3, .inl (Y 0, 6, .inl (aI (K 3)))), (ad 4, .inl (Y 1, 6, .inl (aI (K 4)))), (ad 5, .inl (Y 1, 6, .inl (aI (K 5)))), (ad 6, .inl (Y 0, 7, .inl (aI (K 6)))), (ad 7, .inl (Y 0, 7, .inl (aI (K 7))))]) (wc' := cmW Y ht adt K ++ cmW Y h ad K) (F := [(h4, .inr (3, [.ref ht, .ref va, .ref vb]))]) ⟨hx, hb, hml, hown, hts⟩ (c_X0_become l G Y ht h adt ad Kt2 K hW) (cwV 1 hts gX3_leastPruning_X0_become rfl rfl rfl (by decide +kernel) ⟨Nat.le_of_ble_eq_true rfl, Nat.le_of_ble_eq_true rfl⟩) hK hP hD hS 0 rfl rfl (Eq.refl [ht, adt 1, adt 2, adt 3, adt 4, adt 5, adt 6, adt 7, h, ad 1, ad 2, ad 3, ad 4, ad 5, ad 6, ad 7]) rfl hl.1 rfl (Nat.le_of_ble_eq_true rfl) dX3_leastPruning_35 ⟨Nat.zero_le _, Nat.zero_le _⟩ (fun H locs hP hD hS => ?_)
            show W _ _ _ _ _ _ _ _ _ _ _ _ _ _ _ (F0 _ _ _ [])
            replace hP : va_P G vwCl [(ht, .inr (0, [.int (iZ (K 0 0)), .int (iZ (K 0 1)), .int (iZ (K 0 2)), .int (iZ (K 0 3)), .int (iZ (K 0 4)), .int (iZ (K 0 5)), .int (iZ (K 0 6)), .ref (adt 1), .ref (adt 2), .ref (adt 3), .ref (adt 4), .ref (adt 5), .ref (adt 6), .ref (adt 7)])), (adt 1, .inl (Y 0, 6, .inl (aI (K 1)))), (adt 2, .inl (Y 0, 6, .inl (aI (K 2)))), (adt 3, .inl (Y 0, 6, .inl (aI (K 3)))), (adt 4, .inl (Y 1, 6, .inl (aI (K 4)))), (adt 5, .inl (Y 1, 6, .inl (aI (K 5)))), (adt 6, .inl (Y 0, 7, .inl (aI (K 6)))), (adt 7, .inl (Y 0, 7, .inl (aI (K 7)))), (h, .inr (0, [.int (iZ (K 0 0)), .int (iZ (K 0 1)), .int (iZ (K 0 2)), .int (iZ (K 0 3)), .int (iZ (K 0 4)), .int (iZ (K 0 5)), .int (iZ (K 0 6)), .ref (ad 1), .ref (ad 2), .ref (ad 3), .ref (ad 4), .ref (ad 5), .ref (ad 6), .ref (ad 7)])), (ad 1, .inl (Y 0, 6, .inl (aI (K 1)))), (ad 2, .inl (Y 0, 6, .inl (aI (K 2)))), (ad 3, .inl (Y 0, 6, .inl (aI (K 3)))), (ad 4, .inl (Y 1, 6, .inl (aI (K 4)))), (ad 5, .inl (Y 1, 6, .inl (aI (K 5)))), (ad 6, .inl (Y 0, 7, .inl (aI (K 6)))), (ad 7, .inl (Y 0, 7, .inl (aI (K 7)))), (h4, .inr (3, [.ref ht, .ref va, .ref vb]))] H := hP
            replace hD : va_D _ [(ht, .inr (0, [.int (iZ (K 0 0)), .int (iZ (K 0 1)), .int (iZ (K 0 2)), .int (iZ (K 0 3)), .int (iZ (K 0 4)), .int (iZ (K 0 5)), .int (iZ (K 0 6)), .ref (adt 1), .ref (adt 2), .ref (adt 3), .ref (adt 4), .ref (adt 5), .ref (adt 6), .ref (adt 7)])), (adt 1, .inl (Y 0, 6, .inl (aI (K 1)))), (adt 2, .inl (Y 0, 6, .inl (aI (K 2)))), (adt 3, .inl (Y 0, 6, .inl (aI (K 3)))), (adt 4, .inl (Y 1, 6, .inl (aI (K 4)))), (adt 5, .inl (Y 1, 6, .inl (aI (K 5)))), (adt 6, .inl (Y 0, 7, .inl (aI (K 6)))), (adt 7, .inl (Y 0, 7, .inl (aI (K 7)))), (h, .inr (0, [.int (iZ (K 0 0)), .int (iZ (K 0 1)), .int (iZ (K 0 2)), .int (iZ (K 0 3)), .int (iZ (K 0 4)), .int (iZ (K 0 5)), .int (iZ (K 0 6)), .ref (ad 1), .ref (ad 2), .ref (ad 3), .ref (ad 4), .ref (ad 5), .ref (ad 6), .ref (ad 7)])), (ad 1, .inl (Y 0, 6, .inl (aI (K 1)))), (ad 2, .inl (Y 0, 6, .inl (aI (K 2)))), (ad 3, .inl (Y 0, 6, .inl (aI (K 3)))), (ad 4, .inl (Y 1, 6, .inl (aI (K 4)))), (ad 5, .inl (Y 1, 6, .inl (aI (K 5)))), (ad 6, .inl (Y 0, 7, .inl (aI (K 6)))), (ad 7, .inl (Y 0, 7, .inl (aI (K 7)))), (h4, .inr (3, [.ref ht, .ref va, .ref vb]))] := hD
            refine lv_aload_n hx hb dX3_leastPruning_38 rfl (lv_at hl 2 rfl) ?_
            refine va_get (D := G) (ci := 3) (v := .ref ht) (C := RX3) (T := TX3) (N := 3) hx hb hts hFX3 hown hK.1 hP 16 rfl rfl 0 (by decide) kf12 (fun _ h9 => h9) rfl dX3_leastPruning_39 ?_
            refine lv_iload hx hb dX3_leastPruning_42 (lv_at hl 0 rfl) ?_
            refine lv_iload_n hx hb dX3_leastPruning_44 rfl (lv_at hl 1 rfl) ?_
            have hP := hP.sub (ws' := [(ht, .inr (0, [.int (iZ (K 0 0)), .int (iZ (K 0 1)), .int (iZ (K 0 2)), .int (iZ (K 0 3)), .int (iZ (K 0 4)), .int (iZ (K 0 5)), .int (iZ (K 0 6)), .ref (adt 1), .ref (adt 2), .ref (adt 3), .ref (adt 4), .ref (adt 5), .ref (adt 6), .ref (adt 7)])), (adt 1, .inl (Y 0, 6, .inl (aI (K 1)))), (adt 2, .inl (Y 0, 6, .inl (aI (K 2)))), (adt 3, .inl (Y 0, 6, .inl (aI (K 3)))), (adt 4, .inl (Y 1, 6, .inl (aI (K 4)))), (adt 5, .inl (Y 1, 6, .inl (aI (K 5)))), (adt 6, .inl (Y 0, 7, .inl (aI (K 6)))), (adt 7, .inl (Y 0, 7, .inl (aI (K 7))))] ++ [(h, .inr (0, [.int (iZ (K 0 0)), .int (iZ (K 0 1)), .int (iZ (K 0 2)), .int (iZ (K 0 3)), .int (iZ (K 0 4)), .int (iZ (K 0 5)), .int (iZ (K 0 6)), .ref (ad 1), .ref (ad 2), .ref (ad 3), .ref (ad 4), .ref (ad 5), .ref (ad 6), .ref (ad 7)])), (ad 1, .inl (Y 0, 6, .inl (aI (K 1)))), (ad 2, .inl (Y 0, 6, .inl (aI (K 2)))), (ad 3, .inl (Y 0, 6, .inl (aI (K 3)))), (ad 4, .inl (Y 1, 6, .inl (aI (K 4)))), (ad 5, .inl (Y 1, 6, .inl (aI (K 5)))), (ad 6, .inl (Y 0, 7, .inl (aI (K 6)))), (ad 7, .inl (Y 0, 7, .inl (aI (K 7)))), (h4, .inr (3, [.ref ht, .ref va, .ref vb]))]) [0, 1, 2, 3, 4, 5, 6, 7, 8, 9, 10, 11, 12, 13, 14, 15, 16] rfl
            have hD := hD.sub (ws' := [(ht, .inr (0, [.int (iZ (K 0 0)), .int (iZ (K 0 1)), .int (iZ (K 0 2)), .int (iZ (K 0 3)), .int (iZ (K 0 4)), .int (iZ (K 0 5)), .int (iZ (K 0 6)), .ref (adt 1), .ref (adt 2), .ref (adt 3), .ref (adt 4), .ref (adt 5), .ref (adt 6), .ref (adt 7)])), (adt 1, .inl (Y 0, 6, .inl (aI (K 1)))), (adt 2, .inl (Y 0, 6, .inl (aI (K 2)))), (adt 3, .inl (Y 0, 6, .inl (aI (K 3)))), (adt 4, .inl (Y 1, 6, .inl (aI (K 4)))), (adt 5, .inl (Y 1, 6, .inl (aI (K 5)))), (adt 6, .inl (Y 0, 7, .inl (aI (K 6)))), (adt 7, .inl (Y 0, 7, .inl (aI (K 7))))] ++ [(h, .inr (0, [.int (iZ (K 0 0)), .int (iZ (K 0 1)), .int (iZ (K 0 2)), .int (iZ (K 0 3)), .int (iZ (K 0 4)), .int (iZ (K 0 5)), .int (iZ (K 0 6)), .ref (ad 1), .ref (ad 2), .ref (ad 3), .ref (ad 4), .ref (ad 5), .ref (ad 6), .ref (ad 7)])), (ad 1, .inl (Y 0, 6, .inl (aI (K 1)))), (ad 2, .inl (Y 0, 6, .inl (aI (K 2)))), (ad 3, .inl (Y 0, 6, .inl (aI (K 3)))), (ad 4, .inl (Y 1, 6, .inl (aI (K 4)))), (ad 5, .inl (Y 1, 6, .inl (aI (K 5)))), (ad 6, .inl (Y 0, 7, .inl (aI (K 6)))), (ad 7, .inl (Y 0, 7, .inl (aI (K 7)))), (h4, .inr (3, [.ref ht, .ref va, .ref vb]))]) [0, 1, 2, 3, 4, 5, 6, 7, 8, 9, 10, 11, 12, 13, 14, 15, 16] (by decide) rfl
            refine mu_V (As := [.int (iZ ((t : Nat) : Int)), .int (iZ ((n1 + 1 : Nat) : Int))]) (rest := []) (wc := [(ht, .inr (0, [.int (iZ (K 0 0)), .int (iZ (K 0 1)), .int (iZ (K 0 2)), .int (iZ (K 0 3)), .int (iZ (K 0 4)), .int (iZ (K 0 5)), .int (iZ (K 0 6)), .ref (adt 1), .ref (adt 2), .ref (adt 3), .ref (adt 4), .ref (adt 5), .ref (adt 6), .ref (adt 7)])), (adt 1, .inl (Y 0, 6, .inl (aI (K 1)))), (adt 2, .inl (Y 0, 6, .inl (aI (K 2)))), (adt 3, .inl (Y 0, 6, .inl (aI (K 3)))), (adt 4, .inl (Y 1, 6, .inl (aI (K 4)))), (adt 5, .inl (Y 1, 6, .inl (aI (K 5)))), (adt 6, .inl (Y 0, 7, .inl (aI (K 6)))), (adt 7, .inl (Y 0, 7, .inl (aI (K 7))))]) (wc' := cmW Y ht adt (kS K 2 t (max (K 2 t - ((n1 + 1 : Nat) : Int)) 0))) (F := [(h, .inr (0, [.int (iZ (K 0 0)), .int (iZ (K 0 1)), .int (iZ (K 0 2)), .int (iZ (K 0 3)), .int (iZ (K 0 4)), .int (iZ (K 0 5)), .int (iZ (K 0 6)), .ref (ad 1), .ref (ad 2), .ref (ad 3), .ref (ad 4), .ref (ad 5), .ref (ad 6), .ref (ad 7)])), (ad 1, .inl (Y 0, 6, .inl (aI (K 1)))), (ad 2, .inl (Y 0, 6, .inl (aI (K 2)))), (ad 3, .inl (Y 0, 6, .inl (aI (K 3)))), (ad 4, .inl (Y 1, 6, .inl (aI (K 4)))), (ad 5, .inl (Y 1, 6, .inl (aI (K 5)))), (ad 6, .inl (Y 0, 7, .inl (aI (K 6)))), (ad 7, .inl (Y 0, 7, .inl (aI (K 7)))), (h4, .inr (3, [.ref ht, .ref va, .ref vb]))]) ⟨hx, hb, hml, hown, hts⟩ (c_X0_lower l G Y ht adt K hW t ((n1 + 1 : Nat) : Int) (by omega)) (cwV 2 hts gX3_leastPruning_X0_lower rfl rfl rfl (by decide +kernel) ⟨Nat.le_of_ble_eq_true rfl, Nat.le_of_ble_eq_true rfl⟩) hK hP hD hS 0 rfl rfl (Eq.refl [ht, adt 1, adt 2, adt 3, adt 4, adt 5, adt 6, adt 7]) rfl hl.1 rfl (Nat.le_of_ble_eq_true rfl) dX3_leastPruning_45 ⟨Nat.zero_le _, Nat.zero_le _⟩ (fun H locs hP hD hS => ?_)
            show W _ _ _ _ _ _ _ _ _ _ _ _ _ _ _ (F0 _ _ _ [])
            replace hP : va_P G vwCl [(ht, .inr (0, [.int (iZ ((kS K 2 t (max (K 2 t - ((n1 + 1 : Nat) : Int)) 0)) 0 0)), .int (iZ ((kS K 2 t (max (K 2 t - ((n1 + 1 : Nat) : Int)) 0)) 0 1)), .int (iZ ((kS K 2 t (max (K 2 t - ((n1 + 1 : Nat) : Int)) 0)) 0 2)), .int (iZ ((kS K 2 t (max (K 2 t - ((n1 + 1 : Nat) : Int)) 0)) 0 3)), .int (iZ ((kS K 2 t (max (K 2 t - ((n1 + 1 : Nat) : Int)) 0)) 0 4)), .int (iZ ((kS K 2 t (max (K 2 t - ((n1 + 1 : Nat) : Int)) 0)) 0 5)), .int (iZ ((kS K 2 t (max (K 2 t - ((n1 + 1 : Nat) : Int)) 0)) 0 6)), .ref (adt 1), .ref (adt 2), .ref (adt 3), .ref (adt 4), .ref (adt 5), .ref (adt 6), .ref (adt 7)])), (adt 1, .inl (Y 0, 6, .inl (aI ((kS K 2 t (max (K 2 t - ((n1 + 1 : Nat) : Int)) 0)) 1)))), (adt 2, .inl (Y 0, 6, .inl (aI ((kS K 2 t (max (K 2 t - ((n1 + 1 : Nat) : Int)) 0)) 2)))), (adt 3, .inl (Y 0, 6, .inl (aI ((kS K 2 t (max (K 2 t - ((n1 + 1 : Nat) : Int)) 0)) 3)))), (adt 4, .inl (Y 1, 6, .inl (aI ((kS K 2 t (max (K 2 t - ((n1 + 1 : Nat) : Int)) 0)) 4)))), (adt 5, .inl (Y 1, 6, .inl (aI ((kS K 2 t (max (K 2 t - ((n1 + 1 : Nat) : Int)) 0)) 5)))), (adt 6, .inl (Y 0, 7, .inl (aI ((kS K 2 t (max (K 2 t - ((n1 + 1 : Nat) : Int)) 0)) 6)))), (adt 7, .inl (Y 0, 7, .inl (aI ((kS K 2 t (max (K 2 t - ((n1 + 1 : Nat) : Int)) 0)) 7)))), (h, .inr (0, [.int (iZ (K 0 0)), .int (iZ (K 0 1)), .int (iZ (K 0 2)), .int (iZ (K 0 3)), .int (iZ (K 0 4)), .int (iZ (K 0 5)), .int (iZ (K 0 6)), .ref (ad 1), .ref (ad 2), .ref (ad 3), .ref (ad 4), .ref (ad 5), .ref (ad 6), .ref (ad 7)])), (ad 1, .inl (Y 0, 6, .inl (aI (K 1)))), (ad 2, .inl (Y 0, 6, .inl (aI (K 2)))), (ad 3, .inl (Y 0, 6, .inl (aI (K 3)))), (ad 4, .inl (Y 1, 6, .inl (aI (K 4)))), (ad 5, .inl (Y 1, 6, .inl (aI (K 5)))), (ad 6, .inl (Y 0, 7, .inl (aI (K 6)))), (ad 7, .inl (Y 0, 7, .inl (aI (K 7)))), (h4, .inr (3, [.ref ht, .ref va, .ref vb]))] H := hP
            replace hD : va_D _ [(ht, .inr (0, [.int (iZ ((kS K 2 t (max (K 2 t - ((n1 + 1 : Nat) : Int)) 0)) 0 0)), .int (iZ ((kS K 2 t (max (K 2 t - ((n1 + 1 : Nat) : Int)) 0)) 0 1)), .int (iZ ((kS K 2 t (max (K 2 t - ((n1 + 1 : Nat) : Int)) 0)) 0 2)), .int (iZ ((kS K 2 t (max (K 2 t - ((n1 + 1 : Nat) : Int)) 0)) 0 3)), .int (iZ ((kS K 2 t (max (K 2 t - ((n1 + 1 : Nat) : Int)) 0)) 0 4)), .int (iZ ((kS K 2 t (max (K 2 t - ((n1 + 1 : Nat) : Int)) 0)) 0 5)), .int (iZ ((kS K 2 t (max (K 2 t - ((n1 + 1 : Nat) : Int)) 0)) 0 6)), .ref (adt 1), .ref (adt 2), .ref (adt 3), .ref (adt 4), .ref (adt 5), .ref (adt 6), .ref (adt 7)])), (adt 1, .inl (Y 0, 6, .inl (aI ((kS K 2 t (max (K 2 t - ((n1 + 1 : Nat) : Int)) 0)) 1)))), (adt 2, .inl (Y 0, 6, .inl (aI ((kS K 2 t (max (K 2 t - ((n1 + 1 : Nat) : Int)) 0)) 2)))), (adt 3, .inl (Y 0, 6, .inl (aI ((kS K 2 t (max (K 2 t - ((n1 + 1 : Nat) : Int)) 0)) 3)))), (adt 4, .inl (Y 1, 6, .inl (aI ((kS K 2 t (max (K 2 t - ((n1 + 1 : Nat) : Int)) 0)) 4)))), (adt 5, .inl (Y 1, 6, .inl (aI ((kS K 2 t (max (K 2 t - ((n1 + 1 : Nat) : Int)) 0)) 5)))), (adt 6, .inl (Y 0, 7, .inl (aI ((kS K 2 t (max (K 2 t - ((n1 + 1 : Nat) : Int)) 0)) 6)))), (adt 7, .inl (Y 0, 7, .inl (aI ((kS K 2 t (max (K 2 t - ((n1 + 1 : Nat) : Int)) 0)) 7)))), (h, .inr (0, [.int (iZ (K 0 0)), .int (iZ (K 0 1)), .int (iZ (K 0 2)), .int (iZ (K 0 3)), .int (iZ (K 0 4)), .int (iZ (K 0 5)), .int (iZ (K 0 6)), .ref (ad 1), .ref (ad 2), .ref (ad 3), .ref (ad 4), .ref (ad 5), .ref (ad 6), .ref (ad 7)])), (ad 1, .inl (Y 0, 6, .inl (aI (K 1)))), (ad 2, .inl (Y 0, 6, .inl (aI (K 2)))), (ad 3, .inl (Y 0, 6, .inl (aI (K 3)))), (ad 4, .inl (Y 1, 6, .inl (aI (K 4)))), (ad 5, .inl (Y 1, 6, .inl (aI (K 5)))), (ad 6, .inl (Y 0, 7, .inl (aI (K 6)))), (ad 7, .inl (Y 0, 7, .inl (aI (K 7)))), (h4, .inr (3, [.ref ht, .ref va, .ref vb]))] := hD
            have hWl : cWF (kS K 2 t (max (K 2 t - ((n1 + 1 : Nat) : Int)) 0)) := cWF_low hW (t := t) (n := ((n1 + 1 : Nat) : Int)) (by omega)
            refine lv_aload_n hx hb dX3_leastPruning_48 rfl (lv_at hl 2 rfl) ?_
            refine va_get (D := G) (ci := 3) (v := .ref ht) (C := RX3) (T := TX3) (N := 3) hx hb hts hFX3 hown hK.1 hP 16 rfl rfl 0 (by decide) kf12 (fun _ h9 => h9) rfl dX3_leastPruning_49 ?_
            refine lv_iload_n hx hb dX3_leastPruning_52 rfl (lv_at hl 4 rfl) ?_
            refine ro_V (As := [.int (iZ ((mo : Nat) : Int))]) (rest := []) ⟨hx, hb, hml, hown, hts⟩ (c_X0_isCarried l G Y ht adt (kS K 2 t (max (K 2 t - ((n1 + 1 : Nat) : Int)) 0)) (by assumption) mo (by omega)) (cwV 1 hts gX3_leastPruning_X0_isCarried rfl rfl rfl (by decide +kernel) ⟨Nat.le_of_ble_eq_true rfl, Nat.le_of_ble_eq_true rfl⟩) hK (hP.sub (ws' := cmW Y ht adt (kS K 2 t (max (K 2 t - ((n1 + 1 : Nat) : Int)) 0))) [0, 1, 2, 3, 4, 5, 6, 7] rfl) 0 rfl rfl rfl hl.1 rfl (Nat.le_of_ble_eq_true rfl) dX3_leastPruning_53 ⟨Nat.zero_le _, Nat.zero_le _⟩ ?_
            refine z_ifb_eq (tgt := 67) hx hb dX3_leastPruning_56 (by decide) (fun c_6 => ?_) (fun c_6 => ?_)
            · skip
              refine lv_iinc (v := iZ ((t + 1 : Nat) : Int)) (lv' := [(4, .int (iZ ((t + 1 : Nat) : Int))), (3, .int (iZ ((n1 + 1 : Nat) : Int))), (0, .ref h4), (1, .ref h), (2, .int (iZ ((mo : Nat) : Int)))]) hx hb dX3_leastPruning_67 hl (k := 0) rfl (iZ_inc _) (by decide) rfl (fun ls hl => ?_)
              refine lv_goto (tgt := 21) hx hb dX3_leastPruning_70 (by decide) ?_
              exact ih4 (ls := ls) (t := t + 1) (Kt2 := (kS K 2 t (max (K 2 t - ((n1 + 1 : Nat) : Int)) 0))) (H := H) (locs := locs) (hS := hS) (hI := by exact ⟨by omega, fnd_no hI.2 (by assumption)⟩) (hl := lv_sub hl [0, 1, 2, 3, 4] rfl) (hP := hP.sub [16, 0, 1, 2, 3, 4, 5, 6, 7, 8, 9, 10, 11, 12, 13, 14, 15] rfl) (hD := hD.sub [16, 0, 1, 2, 3, 4, 5, 6, 7, 8, 9, 10, 11, 12, 13, 14, 15] (by decide) rfl) (hn_ := by omega)
            · skip
              refine z_bipush hx hb dX3_leastPruning_59 (by decide) ?_
              refine lv_iload hx hb dX3_leastPruning_61 (lv_at hl 0 rfl) ?_
              refine z_imul hx hb dX3_leastPruning_63 ?_
              refine lv_iload_n hx hb dX3_leastPruning_64 rfl (lv_at hl 1 rfl) ?_
              refine z_iadd hx hb dX3_leastPruning_65 ?_
              refine z_top (show ((100 * ((t : Nat) : Int)) + ((n1 + 1 : Nat) : Int)) = lpr K mo from ?_) ?_
              · unfold lpr; rw [if_neg (by rw [c_1]; exact Bool.false_ne_true), prS_at (i := n1) (n := 20) (t := t) hJ.2 (show pr1 K mo ((n1 + 1 : Nat) : Int) = (t : Int) from fnd_at hI.2 (by assumption) (by omega)) (by omega)]
              have hP9 : va_P G vwCl (qoW Y h4 ht va vb ++ (cmW Y ht adt (kS K 2 t (max (K 2 t - ((n1 + 1 : Nat) : Int)) 0)) ++ cmW Y h ad K)) H := hP.sub [16, 0, 1, 2, 3, 4, 5, 6, 7, 8, 9, 10, 11, 12, 13, 14, 15] rfl
              exact W.iret (v := iZ (lpr K mo)) hx hb hr (fun t9 ht9 _ => ⟨rfl, ⟨(kS K 2 t (max (K 2 t - ((n1 + 1 : Nat) : Int)) 0)), by rw [ht9]; exact hP9⟩, hS.F ht9⟩) hS.2.2 dX3_leastPruning_66
  · skip
    refine z_iconst hx hb dX3_leastPruning_8 ?_
    refine z_top (show 0 = lpr K mo from ?_) ?_
    · unfold lpr; rw [if_pos (by assumption)]
    have hP9 : va_P G vwCl (qoW Y h4 ht va vb ++ (cmW Y ht adt Kt ++ cmW Y h ad K)) H := hP.sub [0, 1, 2, 3, 4, 5, 6, 7, 8, 9, 10, 11, 12, 13, 14, 15, 16] rfl
    exact W.iret (v := iZ (lpr K mo)) hx hb hr (fun t9 ht9 _ => ⟨rfl, ⟨Kt, by rw [ht9]; exact hP9⟩, hS.F ht9⟩) hS.2.2 dX3_leastPruning_9

set_option maxHeartbeats 4000000 in
set_option maxRecDepth 100000 in
theorem c_X3_cellToPlant (l : Launch) (G : va_G) (Y : Nat → ClassId) (h4 ht va vb : Nat) (adt : Nat → Nat) (Kt : Kom) (h : Nat) (ad : Nat → Nat) (K : Kom) (hW : cWF K) (mo : Nat) (n9 : Int) (r : (mo ≤ 2 ∧ K 0 2 ≤ 5) ∧ 1 ≤ n9 ∧ n9 ≤ 20) : Met l yX3_cellToPlant wsX3_cellToPlant ({ frames := 5, cells := 0, slots := 0, locals := 115 }) (mP G Y [.ref h4, .ref h, .int (iZ ((mo : Nat) : Int)), .int (iZ n9)] (qoW Y h4 ht va vb ++ (cmW Y ht adt Kt ++ cmW Y h ad K))) (eQ G (qoW Y h4 ht va vb ++ (cmW Y ht adt Kt ++ cmW Y h ad K)) (some (.int (iZ (fnd (ctG K mo n9) (K 0 0 * K 0 1).toNat)))) (fun u => qoW Y h4 ht va vb ++ (cmW Y ht adt u ++ cmW Y h ad K))) 0 0 (fun q => q ∈ List.map Prod.fst (qoW Y h4 ht va vb ++ (cmW Y ht adt Kt ++ cmW Y h ad K))) := by
  refine Met.ofW (cc := cX3_cellToPlant) (maxL := 5) (ret := (some .int)) (by decide) rfl ?_
  intro p e s m args below meth c s₁ B hml hv
  obtain ⟨rfl, hK, hP, hD0⟩ := hv
  have hx := B.exec
  have hb := B.bytes
  have hr := B.returns
  have hts := atoms_spec (ws := wsX3_cellToPlant) B.pre
  have hown : s.vm.findClass RX3 = some m.cls := findClass_of_methodNamed B.named
  have hlocks := B.notSynchronized
  have hFX3 : ∀ w ∈ wsX30, w ∈ wsX3_cellToPlant := by decide +kernel
  have kf12 := (hts (.fieldLink RX3 12 "ShadeVotes$Question" "trial" "LShadeVotes$Commune;") (by decide +kernel))
  have hD := va_D_self hD0
  have hS : va_S (fun q => q ∈ List.map Prod.fst (qoW Y h4 ht va vb ++ (cmW Y ht adt Kt ++ cmW Y h ad K))) s.heap s.heap [] := va_S.rf
  obtain ⟨H, hHe⟩ : ∃ H, H = s.heap := ⟨_, rfl⟩
  rw [← hHe] at hP
  replace hS : va_S (fun q => q ∈ List.map Prod.fst (qoW Y h4 ht va vb ++ (cmW Y ht adt Kt ++ cmW Y h ad K))) s.heap H [] := by rw [hHe]; exact hS
  have hl := lv_entry ([.ref h4, .ref h, .int (iZ ((mo : Nat) : Int)), .int (iZ n9)]) (n := 5) (Nat.le_of_ble_eq_true rfl)
  rw [lg_entry_eq]
  generalize (lg_sl ([.ref h4, .ref h, .int (iZ ((mo : Nat) : Int)), .int (iZ n9)]) ++ List.replicate (5 - (lg_sl ([.ref h4, .ref h, .int (iZ ((mo : Nat) : Int)), .int (iZ n9)])).length) Slot.unset).toArray = ls at hl ⊢
  replace hl : lv_has ls 5 [(0, .ref h4), (1, .ref h), (2, .int (iZ ((mo : Nat) : Int))), (3, .int (iZ n9))] := hl
  obtain ⟨locs, hLe⟩ : ∃ locs : List Loc, locs = [] := ⟨_, rfl⟩
  rw [← hLe] at hS ⊢
  have hW0 : ∀ {Q : State → Prop} {g : JFrame}, W p l e ({ frames := 5, cells := 0, slots := 0, locals := 115 }) s m [.ref h4, .ref h, .int (iZ ((mo : Nat) : Int)), .int (iZ n9)].toArray below meth c H locs 0 0 Q g → W p l e ({ frames := 5, cells := 0, slots := 0, locals := 115 }) s m [.ref h4, .ref h, .int (iZ ((mo : Nat) : Int)), .int (iZ n9)].toArray below meth c s.heap locs 0 0 Q g := fun h => by rw [← hHe]; exact h
  refine hW0 ?_
  clear hW0 hHe hLe
  have h0 := hW.1
  have hnc := hW.nc
  have hp2 := p2w mo (by omega)
  have hp3 : (0 : Int) ≤ ((2 ^ mo : Nat) : Int) := Int.natCast_nonneg _
  refine z_iconst hx hb dX3_cellToPlant_0 ?_
  refine lv_istore (lv' := [(4, .int (iZ 0)), (0, .ref h4), (1, .ref h), (2, .int (iZ ((mo : Nat) : Int))), (3, .int (iZ n9))]) hx hb dX3_cellToPlant_1 hl (by decide) rfl (fun ls hl => ?_)
  obtain ⟨i, Kt1, hI, hl1, hP1, hD1⟩ : ∃ (i : Nat) (Kt1 : Kom), ((i : Int) ≤ K 0 0 * K 0 1 ∧ fnd (ctG K mo n9) i = -9) ∧ lv_has ls 5 [(4, .int (iZ ((i : Nat) : Int))), (0, .ref h4), (1, .ref h), (2, .int (iZ ((mo : Nat) : Int))), (3, .int (iZ n9))] ∧ va_P G vwCl [(h4, .inr (3, [.ref ht, .ref va, .ref vb])), (ht, .inr (0, [.int (iZ (Kt1 0 0)), .int (iZ (Kt1 0 1)), .int (iZ (Kt1 0 2)), .int (iZ (Kt1 0 3)), .int (iZ (Kt1 0 4)), .int (iZ (Kt1 0 5)), .int (iZ (Kt1 0 6)), .ref (adt 1), .ref (adt 2), .ref (adt 3), .ref (adt 4), .ref (adt 5), .ref (adt 6), .ref (adt 7)])), (adt 1, .inl (Y 0, 6, .inl (aI (Kt1 1)))), (adt 2, .inl (Y 0, 6, .inl (aI (Kt1 2)))), (adt 3, .inl (Y 0, 6, .inl (aI (Kt1 3)))), (adt 4, .inl (Y 1, 6, .inl (aI (Kt1 4)))), (adt 5, .inl (Y 1, 6, .inl (aI (Kt1 5)))), (adt 6, .inl (Y 0, 7, .inl (aI (Kt1 6)))), (adt 7, .inl (Y 0, 7, .inl (aI (Kt1 7)))), (h, .inr (0, [.int (iZ (K 0 0)), .int (iZ (K 0 1)), .int (iZ (K 0 2)), .int (iZ (K 0 3)), .int (iZ (K 0 4)), .int (iZ (K 0 5)), .int (iZ (K 0 6)), .ref (ad 1), .ref (ad 2), .ref (ad 3), .ref (ad 4), .ref (ad 5), .ref (ad 6), .ref (ad 7)])), (ad 1, .inl (Y 0, 6, .inl (aI (K 1)))), (ad 2, .inl (Y 0, 6, .inl (aI (K 2)))), (ad 3, .inl (Y 0, 6, .inl (aI (K 3)))), (ad 4, .inl (Y 1, 6, .inl (aI (K 4)))), (ad 5, .inl (Y 1, 6, .inl (aI (K 5)))), (ad 6, .inl (Y 0, 7, .inl (aI (K 6)))), (ad 7, .inl (Y 0, 7, .inl (aI (K 7))))] H ∧ va_D (fun q => q ∈ List.map Prod.fst (qoW Y h4 ht va vb ++ (cmW Y ht adt Kt ++ cmW Y h ad K))) [(h4, .inr (3, [.ref ht, .ref va, .ref vb])), (ht, .inr (0, [.int (iZ (Kt1 0 0)), .int (iZ (Kt1 0 1)), .int (iZ (Kt1 0 2)), .int (iZ (Kt1 0 3)), .int (iZ (Kt1 0 4)), .int (iZ (Kt1 0 5)), .int (iZ (Kt1 0 6)), .ref (adt 1), .ref (adt 2), .ref (adt 3), .ref (adt 4), .ref (adt 5), .ref (adt 6), .ref (adt 7)])), (adt 1, .inl (Y 0, 6, .inl (aI (Kt1 1)))), (adt 2, .inl (Y 0, 6, .inl (aI (Kt1 2)))), (adt 3, .inl (Y 0, 6, .inl (aI (Kt1 3)))), (adt 4, .inl (Y 1, 6, .inl (aI (Kt1 4)))), (adt 5, .inl (Y 1, 6, .inl (aI (Kt1 5)))), (adt 6, .inl (Y 0, 7, .inl (aI (Kt1 6)))), (adt 7, .inl (Y 0, 7, .inl (aI (Kt1 7)))), (h, .inr (0, [.int (iZ (K 0 0)), .int (iZ (K 0 1)), .int (iZ (K 0 2)), .int (iZ (K 0 3)), .int (iZ (K 0 4)), .int (iZ (K 0 5)), .int (iZ (K 0 6)), .ref (ad 1), .ref (ad 2), .ref (ad 3), .ref (ad 4), .ref (ad 5), .ref (ad 6), .ref (ad 7)])), (ad 1, .inl (Y 0, 6, .inl (aI (K 1)))), (ad 2, .inl (Y 0, 6, .inl (aI (K 2)))), (ad 3, .inl (Y 0, 6, .inl (aI (K 3)))), (ad 4, .inl (Y 1, 6, .inl (aI (K 4)))), (ad 5, .inl (Y 1, 6, .inl (aI (K 5)))), (ad 6, .inl (Y 0, 7, .inl (aI (K 6)))), (ad 7, .inl (Y 0, 7, .inl (aI (K 7))))] := ⟨0, Kt, by exact ⟨by omega, rfl⟩, lv_sub hl [0, 1, 2, 3, 4] rfl, hP, hD⟩
  clear hl hP hD
  have hl := hl1
  clear hl1
  have hP := hP1
  have hD := hD1
  clear hP1 hD1
  obtain ⟨n_, hn_⟩ : ∃ n_ : Nat, (K 0 0 * K 0 1).toNat - i < n_ := ⟨_, Nat.lt_succ_self _⟩
  induction n_ generalizing i Kt1 ls H locs with
  | zero => exact absurd hn_ (Nat.not_lt_zero _)
  | succ n_ ih1 =>
    refine lv_iload hx hb dX3_cellToPlant_3 (lv_at hl 0 rfl) ?_
    refine lv_aload_n hx hb dX3_cellToPlant_5 rfl (lv_at hl 2 rfl) ?_
    refine ro_V (As := []) (rest := [.int (iZ ((i : Nat) : Int))]) ⟨hx, hb, hml, hown, hts⟩ (c_X0_cells l G Y h ad K hW ) (cwV 0 hts gX3_cellToPlant_X0_cells rfl rfl rfl (by decide +kernel) ⟨Nat.le_of_ble_eq_true rfl, Nat.le_of_ble_eq_true rfl⟩) hK (hP.sub (ws' := cmW Y h ad K) [9, 10, 11, 12, 13, 14, 15, 16] rfl) 0 rfl rfl rfl hl.1 rfl (Nat.le_of_ble_eq_true rfl) dX3_cellToPlant_6 ⟨Nat.zero_le _, Nat.zero_le _⟩ ?_
    refine z_icmp_ge (tgt := 66) hx hb dX3_cellToPlant_9 (by decide) (by omega) (fun c_2 => ?_) (fun c_2 => ?_)
    · skip
      refine z_bipush hx hb dX3_cellToPlant_66 (by decide) ?_
      refine z_top (show (-9) = fnd (ctG K mo n9) (K 0 0 * K 0 1).toNat from ?_) ?_
      · rw [show (K 0 0 * K 0 1).toNat = i by omega, hI.2]
      have hP9 : va_P G vwCl (qoW Y h4 ht va vb ++ (cmW Y ht adt Kt1 ++ cmW Y h ad K)) H := hP.sub [0, 1, 2, 3, 4, 5, 6, 7, 8, 9, 10, 11, 12, 13, 14, 15, 16] rfl
      exact W.iret (v := iZ (fnd (ctG K mo n9) (K 0 0 * K 0 1).toNat)) hx hb hr (fun t9 ht9 _ => ⟨rfl, ⟨Kt1, by rw [ht9]; exact hP9⟩, hS.F ht9⟩) hS.2.2 dX3_cellToPlant_68
    · skip
      refine lv_aload_n hx hb dX3_cellToPlant_12 rfl (lv_at hl 2 rfl) ?_
      refine lv_iload hx hb dX3_cellToPlant_13 (lv_at hl 0 rfl) ?_
      refine ro_V (As := [.int (iZ ((i : Nat) : Int))]) (rest := []) ⟨hx, hb, hml, hown, hts⟩ (c_X0_hasTreeAt l G Y h ad K hW ((i : Nat) : Int) (by omega)) (cwV 1 hts gX3_cellToPlant_X0_hasTreeAt rfl rfl rfl (by decide +kernel) ⟨Nat.le_of_ble_eq_true rfl, Nat.le_of_ble_eq_true rfl⟩) hK (hP.sub (ws' := cmW Y h ad K) [9, 10, 11, 12, 13, 14, 15, 16] rfl) 0 rfl rfl rfl hl.1 rfl (Nat.le_of_ble_eq_true rfl) dX3_cellToPlant_15 ⟨Nat.zero_le _, Nat.zero_le _⟩ ?_
      refine z_ifb_eq (tgt := 24) hx hb dX3_cellToPlant_18 (by decide) (fun c_3 => ?_) (fun c_3 => ?_)
      · skip
        refine lv_aload_n hx hb dX3_cellToPlant_24 rfl (lv_at hl 1 rfl) ?_
        refine va_get (D := G) (ci := 3) (v := .ref ht) (C := RX3) (T := TX3) (N := 3) hx hb hts hFX3 hown hK.1 hP 0 rfl rfl 0 (by decide) kf12 (fun _ h9 => h9) rfl dX3_cellToPlant_25 ?_
        refine lv_aload_n hx hb dX3_cellToPlant_28 rfl (lv_at hl 2 rfl) ?_
        have hP := hP.sub (ws' := [(ht, .inr (0, [.int (iZ (Kt1 0 0)), .int (iZ (Kt1 0 1)), .int (iZ (Kt1 0 2)), .int (iZ (Kt1 0 3)), .int (iZ (Kt1 0 4)), .int (iZ (Kt1 0 5)), .int (iZ (Kt1 0 6)), .ref (adt 1), .ref (adt 2), .ref (adt 3), .ref (adt 4), .ref (adt 5), .ref (adt 6), .ref (adt 7)])), (adt 1, .inl (Y 0, 6, .inl (aI (Kt1 1)))), (adt 2, .inl (Y 0, 6, .inl (aI (Kt1 2)))), (adt 3, .inl (Y 0, 6, .inl (aI (Kt1 3)))), (adt 4, .inl (Y 1, 6, .inl (aI (Kt1 4)))), (adt 5, .inl (Y 1, 6, .inl (aI (Kt1 5)))), (adt 6, .inl (Y 0, 7, .inl (aI (Kt1 6)))), (adt 7, .inl (Y 0, 7, .inl (aI (Kt1 7)))), (h, .inr (0, [.int (iZ (K 0 0)), .int (iZ (K 0 1)), .int (iZ (K 0 2)), .int (iZ (K 0 3)), .int (iZ (K 0 4)), .int (iZ (K 0 5)), .int (iZ (K 0 6)), .ref (ad 1), .ref (ad 2), .ref (ad 3), .ref (ad 4), .ref (ad 5), .ref (ad 6), .ref (ad 7)])), (ad 1, .inl (Y 0, 6, .inl (aI (K 1)))), (ad 2, .inl (Y 0, 6, .inl (aI (K 2)))), (ad 3, .inl (Y 0, 6, .inl (aI (K 3)))), (ad 4, .inl (Y 1, 6, .inl (aI (K 4)))), (ad 5, .inl (Y 1, 6, .inl (aI (K 5)))), (ad 6, .inl (Y 0, 7, .inl (aI (K 6)))), (ad 7, .inl (Y 0, 7, .inl (aI (K 7))))] ++ [(h4, .inr (3, [.ref ht, .ref va, .ref vb]))]) [1, 2, 3, 4, 5, 6, 7, 8, 9, 10, 11, 12, 13, 14, 15, 16, 0] rfl
        have hD := hD.sub (ws' := [(ht, .inr (0, [.int (iZ (Kt1 0 0)), .int (iZ (Kt1 0 1)), .int (iZ (Kt1 0 2)), .int (iZ (Kt1 0 3)), .int (iZ (Kt1 0 4)), .int (iZ (Kt1 0 5)), .int (iZ (Kt1 0 6)), .ref (adt 1), .ref (adt 2), .ref (adt 3), .ref (adt 4), .ref (adt 5), .ref (adt 6), .ref (adt 7)])), (adt 1, .inl (Y 0, 6, .inl (aI (Kt1 1)))), (adt 2, .inl (Y 0, 6, .inl (aI (Kt1 2)))), (adt 3, .inl (Y 0, 6, .inl (aI (Kt1 3)))), (adt 4, .inl (Y 1, 6, .inl (aI (Kt1 4)))), (adt 5, .inl (Y 1, 6, .inl (aI (Kt1 5)))), (adt 6, .inl (Y 0, 7, .inl (aI (Kt1 6)))), (adt 7, .inl (Y 0, 7, .inl (aI (Kt1 7)))), (h, .inr (0, [.int (iZ (K 0 0)), .int (iZ (K 0 1)), .int (iZ (K 0 2)), .int (iZ (K 0 3)), .int (iZ (K 0 4)), .int (iZ (K 0 5)), .int (iZ (K 0 6)), .ref (ad 1), .ref (ad 2), .ref (ad 3), .ref (ad 4), .ref (ad 5), .ref (ad 6), .ref (ad 7)])), (ad 1, .inl (Y 0, 6, .inl (aI (K 1)))), (ad 2, .inl (Y 0, 6, .inl (aI (K 2)))), (ad 3, .inl (Y 0, 6, .inl (aI (K 3)))), (ad 4, .inl (Y 1, 6, .inl (aI (K 4)))), (ad 5, .inl (Y 1, 6, .inl (aI (K 5)))), (ad 6, .inl (Y 0, 7, .inl (aI (K 6)))), (ad 7, .inl (Y 0, 7, .inl (aI (K 7))))] ++ [(h4, .inr (3, [.ref ht, .ref va, .ref vb]))]) [1, 2, 3, 4, 5, 6, 7, 8, 9, 10, 11, 12, 13, 14, 15, 16, 0] (by decide) rfl
        refine mu_V (As := [.ref h]) (rest := []) (wc := [(ht, .inr (0, [.int (iZ (Kt1 0 0)), .int (iZ (Kt1 0 1)), .int (iZ (Kt1 0 2)), .int (iZ (Kt1 0 3)), .int (iZ (Kt1 0 4)), .int (iZ (Kt1 0 5)), .int (iZ (Kt1 0 6)), .ref (adt 1), .ref (adt 2), .ref (adt 3), .ref (adt 4), .ref (adt 5), .ref (adt 6), .ref (adt 7)])), (adt 1, .inl (Y 0, 6, .inl (aI (Kt1 1)))), (adt 2, .inl (Y 0, 6, .inl (aI (Kt1 2)))), (adt 3, .inl (Y 0, 6, .inl (aI (Kt1 3)))), (adt 4, .inl (Y 1, 6, .inl (aI (Kt1 4)))), (adt 5, .inl (Y 1, 6, .inl (aI (Kt1 5)))), (adt 6, .inl (Y 0, 7, .inl (aI (Kt1 6)))), (adt 7, .inl (Y 0, 7, .inl (aI (Kt1 7)))), (h, .inr (0, [.int (iZ (K 0 0)), .int (iZ (K 0 1)), .int (iZ (K 0 2)), .int (iZ (K 0 3)), .int (iZ (K 0 4)), .int (iZ (K 0 5)), .int (iZ (K 0 6)), .ref (ad 1), .ref (ad 2), .ref (ad 3), .ref (ad 4), .ref (ad 5), .ref (ad 6), .ref (ad 7)])), (ad 1, .inl (Y 0, 6, .inl (aI (K 1)))), (ad 2, .inl (Y 0, 6, .inl (aI (K 2)))), (ad 3, .inl (Y 0, 6, .inl (aI (K 3)))), (ad 4, .inl (Y 1, 6, .inl (aI (K 4)))), (ad 5, .inl (Y 1, 6, .inl (aI (K 5)))), (ad 6, .inl (Y 0, 7, .inl (aI (K 6)))), (ad 7, .inl (Y 0, 7, .inl (aI (K 7))))]) (wc' := cmW Y ht adt K ++ cmW Y h ad K) (F := [(h4, .inr (3, [.ref ht, .ref va, .ref vb]))]) ⟨hx, hb, hml, hown, hts⟩ (c_X0_become l G Y ht h adt ad Kt1 K hW) (cwV 1 hts gX3_cellToPlant_X0_become rfl rfl rfl (by decide +kernel) ⟨Nat.le_of_ble_eq_true rfl, Nat.le_of_ble_eq_true rfl⟩) hK hP hD hS 0 rfl rfl (Eq.refl [ht, adt 1, adt 2, adt 3, adt 4, adt 5, adt 6, adt 7, h, ad 1, ad 2, ad 3, ad 4, ad 5, ad 6, ad 7]) rfl hl.1 rfl (Nat.le_of_ble_eq_true rfl) dX3_cellToPlant_29 ⟨Nat.zero_le _, Nat.zero_le _⟩ (fun H locs hP hD hS => ?_)
        show W _ _ _ _ _ _ _ _ _ _ _ _ _ _ _ (F0 _ _ _ [])
        replace hP : va_P G vwCl [(ht, .inr (0, [.int (iZ (K 0 0)), .int (iZ (K 0 1)), .int (iZ (K 0 2)), .int (iZ (K 0 3)), .int (iZ (K 0 4)), .int (iZ (K 0 5)), .int (iZ (K 0 6)), .ref (adt 1), .ref (adt 2), .ref (adt 3), .ref (adt 4), .ref (adt 5), .ref (adt 6), .ref (adt 7)])), (adt 1, .inl (Y 0, 6, .inl (aI (K 1)))), (adt 2, .inl (Y 0, 6, .inl (aI (K 2)))), (adt 3, .inl (Y 0, 6, .inl (aI (K 3)))), (adt 4, .inl (Y 1, 6, .inl (aI (K 4)))), (adt 5, .inl (Y 1, 6, .inl (aI (K 5)))), (adt 6, .inl (Y 0, 7, .inl (aI (K 6)))), (adt 7, .inl (Y 0, 7, .inl (aI (K 7)))), (h, .inr (0, [.int (iZ (K 0 0)), .int (iZ (K 0 1)), .int (iZ (K 0 2)), .int (iZ (K 0 3)), .int (iZ (K 0 4)), .int (iZ (K 0 5)), .int (iZ (K 0 6)), .ref (ad 1), .ref (ad 2), .ref (ad 3), .ref (ad 4), .ref (ad 5), .ref (ad 6), .ref (ad 7)])), (ad 1, .inl (Y 0, 6, .inl (aI (K 1)))), (ad 2, .inl (Y 0, 6, .inl (aI (K 2)))), (ad 3, .inl (Y 0, 6, .inl (aI (K 3)))), (ad 4, .inl (Y 1, 6, .inl (aI (K 4)))), (ad 5, .inl (Y 1, 6, .inl (aI (K 5)))), (ad 6, .inl (Y 0, 7, .inl (aI (K 6)))), (ad 7, .inl (Y 0, 7, .inl (aI (K 7)))), (h4, .inr (3, [.ref ht, .ref va, .ref vb]))] H := hP
        replace hD : va_D _ [(ht, .inr (0, [.int (iZ (K 0 0)), .int (iZ (K 0 1)), .int (iZ (K 0 2)), .int (iZ (K 0 3)), .int (iZ (K 0 4)), .int (iZ (K 0 5)), .int (iZ (K 0 6)), .ref (adt 1), .ref (adt 2), .ref (adt 3), .ref (adt 4), .ref (adt 5), .ref (adt 6), .ref (adt 7)])), (adt 1, .inl (Y 0, 6, .inl (aI (K 1)))), (adt 2, .inl (Y 0, 6, .inl (aI (K 2)))), (adt 3, .inl (Y 0, 6, .inl (aI (K 3)))), (adt 4, .inl (Y 1, 6, .inl (aI (K 4)))), (adt 5, .inl (Y 1, 6, .inl (aI (K 5)))), (adt 6, .inl (Y 0, 7, .inl (aI (K 6)))), (adt 7, .inl (Y 0, 7, .inl (aI (K 7)))), (h, .inr (0, [.int (iZ (K 0 0)), .int (iZ (K 0 1)), .int (iZ (K 0 2)), .int (iZ (K 0 3)), .int (iZ (K 0 4)), .int (iZ (K 0 5)), .int (iZ (K 0 6)), .ref (ad 1), .ref (ad 2), .ref (ad 3), .ref (ad 4), .ref (ad 5), .ref (ad 6), .ref (ad 7)])), (ad 1, .inl (Y 0, 6, .inl (aI (K 1)))), (ad 2, .inl (Y 0, 6, .inl (aI (K 2)))), (ad 3, .inl (Y 0, 6, .inl (aI (K 3)))), (ad 4, .inl (Y 1, 6, .inl (aI (K 4)))), (ad 5, .inl (Y 1, 6, .inl (aI (K 5)))), (ad 6, .inl (Y 0, 7, .inl (aI (K 6)))), (ad 7, .inl (Y 0, 7, .inl (aI (K 7)))), (h4, .inr (3, [.ref ht, .ref va, .ref vb]))] := hD
        refine lv_aload_n hx hb dX3_cellToPlant_32 rfl (lv_at hl 1 rfl) ?_
        refine va_get (D := G) (ci := 3) (v := .ref ht) (C := RX3) (T := TX3) (N := 3) hx hb hts hFX3 hown hK.1 hP 16 rfl rfl 0 (by decide) kf12 (fun _ h9 => h9) rfl dX3_cellToPlant_33 ?_
        refine lv_iload hx hb dX3_cellToPlant_36 (lv_at hl 0 rfl) ?_
        refine lv_iload_n hx hb dX3_cellToPlant_38 rfl (lv_at hl 4 rfl) ?_
        refine z_iconst hx hb dX3_cellToPlant_39 ?_
        refine z_iconst hx hb dX3_cellToPlant_40 ?_
        refine lv_iload_n hx hb dX3_cellToPlant_41 rfl (lv_at hl 3 rfl) ?_
        refine z_ishl1 (k := mo) hx hb dX3_cellToPlant_42 (by omega) ?_
        have hP := hP.sub (ws' := [(ht, .inr (0, [.int (iZ (K 0 0)), .int (iZ (K 0 1)), .int (iZ (K 0 2)), .int (iZ (K 0 3)), .int (iZ (K 0 4)), .int (iZ (K 0 5)), .int (iZ (K 0 6)), .ref (adt 1), .ref (adt 2), .ref (adt 3), .ref (adt 4), .ref (adt 5), .ref (adt 6), .ref (adt 7)])), (adt 1, .inl (Y 0, 6, .inl (aI (K 1)))), (adt 2, .inl (Y 0, 6, .inl (aI (K 2)))), (adt 3, .inl (Y 0, 6, .inl (aI (K 3)))), (adt 4, .inl (Y 1, 6, .inl (aI (K 4)))), (adt 5, .inl (Y 1, 6, .inl (aI (K 5)))), (adt 6, .inl (Y 0, 7, .inl (aI (K 6)))), (adt 7, .inl (Y 0, 7, .inl (aI (K 7))))] ++ [(h, .inr (0, [.int (iZ (K 0 0)), .int (iZ (K 0 1)), .int (iZ (K 0 2)), .int (iZ (K 0 3)), .int (iZ (K 0 4)), .int (iZ (K 0 5)), .int (iZ (K 0 6)), .ref (ad 1), .ref (ad 2), .ref (ad 3), .ref (ad 4), .ref (ad 5), .ref (ad 6), .ref (ad 7)])), (ad 1, .inl (Y 0, 6, .inl (aI (K 1)))), (ad 2, .inl (Y 0, 6, .inl (aI (K 2)))), (ad 3, .inl (Y 0, 6, .inl (aI (K 3)))), (ad 4, .inl (Y 1, 6, .inl (aI (K 4)))), (ad 5, .inl (Y 1, 6, .inl (aI (K 5)))), (ad 6, .inl (Y 0, 7, .inl (aI (K 6)))), (ad 7, .inl (Y 0, 7, .inl (aI (K 7)))), (h4, .inr (3, [.ref ht, .ref va, .ref vb]))]) [0, 1, 2, 3, 4, 5, 6, 7, 8, 9, 10, 11, 12, 13, 14, 15, 16] rfl
        have hD := hD.sub (ws' := [(ht, .inr (0, [.int (iZ (K 0 0)), .int (iZ (K 0 1)), .int (iZ (K 0 2)), .int (iZ (K 0 3)), .int (iZ (K 0 4)), .int (iZ (K 0 5)), .int (iZ (K 0 6)), .ref (adt 1), .ref (adt 2), .ref (adt 3), .ref (adt 4), .ref (adt 5), .ref (adt 6), .ref (adt 7)])), (adt 1, .inl (Y 0, 6, .inl (aI (K 1)))), (adt 2, .inl (Y 0, 6, .inl (aI (K 2)))), (adt 3, .inl (Y 0, 6, .inl (aI (K 3)))), (adt 4, .inl (Y 1, 6, .inl (aI (K 4)))), (adt 5, .inl (Y 1, 6, .inl (aI (K 5)))), (adt 6, .inl (Y 0, 7, .inl (aI (K 6)))), (adt 7, .inl (Y 0, 7, .inl (aI (K 7))))] ++ [(h, .inr (0, [.int (iZ (K 0 0)), .int (iZ (K 0 1)), .int (iZ (K 0 2)), .int (iZ (K 0 3)), .int (iZ (K 0 4)), .int (iZ (K 0 5)), .int (iZ (K 0 6)), .ref (ad 1), .ref (ad 2), .ref (ad 3), .ref (ad 4), .ref (ad 5), .ref (ad 6), .ref (ad 7)])), (ad 1, .inl (Y 0, 6, .inl (aI (K 1)))), (ad 2, .inl (Y 0, 6, .inl (aI (K 2)))), (ad 3, .inl (Y 0, 6, .inl (aI (K 3)))), (ad 4, .inl (Y 1, 6, .inl (aI (K 4)))), (ad 5, .inl (Y 1, 6, .inl (aI (K 5)))), (ad 6, .inl (Y 0, 7, .inl (aI (K 6)))), (ad 7, .inl (Y 0, 7, .inl (aI (K 7)))), (h4, .inr (3, [.ref ht, .ref va, .ref vb]))]) [0, 1, 2, 3, 4, 5, 6, 7, 8, 9, 10, 11, 12, 13, 14, 15, 16] (by decide) rfl
        refine mu_V (As := [.int (iZ ((i : Nat) : Int)), .int (iZ n9), .int (iZ 1), .int (iZ ((2 ^ mo : Nat) : Int))]) (rest := []) (wc := [(ht, .inr (0, [.int (iZ (K 0 0)), .int (iZ (K 0 1)), .int (iZ (K 0 2)), .int (iZ (K 0 3)), .int (iZ (K 0 4)), .int (iZ (K 0 5)), .int (iZ (K 0 6)), .ref (adt 1), .ref (adt 2), .ref (adt 3), .ref (adt 4), .ref (adt 5), .ref (adt 6), .ref (adt 7)])), (adt 1, .inl (Y 0, 6, .inl (aI (K 1)))), (adt 2, .inl (Y 0, 6, .inl (aI (K 2)))), (adt 3, .inl (Y 0, 6, .inl (aI (K 3)))), (adt 4, .inl (Y 1, 6, .inl (aI (K 4)))), (adt 5, .inl (Y 1, 6, .inl (aI (K 5)))), (adt 6, .inl (Y 0, 7, .inl (aI (K 6)))), (adt 7, .inl (Y 0, 7, .inl (aI (K 7))))]) (wc' := cmW Y ht adt (adT K ((i : Nat) : Int) n9 1 ((2 ^ mo : Nat) : Int))) (F := [(h, .inr (0, [.int (iZ (K 0 0)), .int (iZ (K 0 1)), .int (iZ (K 0 2)), .int (iZ (K 0 3)), .int (iZ (K 0 4)), .int (iZ (K 0 5)), .int (iZ (K 0 6)), .ref (ad 1), .ref (ad 2), .ref (ad 3), .ref (ad 4), .ref (ad 5), .ref (ad 6), .ref (ad 7)])), (ad 1, .inl (Y 0, 6, .inl (aI (K 1)))), (ad 2, .inl (Y 0, 6, .inl (aI (K 2)))), (ad 3, .inl (Y 0, 6, .inl (aI (K 3)))), (ad 4, .inl (Y 1, 6, .inl (aI (K 4)))), (ad 5, .inl (Y 1, 6, .inl (aI (K 5)))), (ad 6, .inl (Y 0, 7, .inl (aI (K 6)))), (ad 7, .inl (Y 0, 7, .inl (aI (K 7)))), (h4, .inr (3, [.ref ht, .ref va, .ref vb]))]) ⟨hx, hb, hml, hown, hts⟩ (c_X0_addTree l G Y ht adt K ((i : Nat) : Int) n9 1 ((2 ^ mo : Nat) : Int) (by omega)) (cwV 4 hts gX3_cellToPlant_X0_addTree rfl rfl rfl (by decide +kernel) ⟨Nat.le_of_ble_eq_true rfl, Nat.le_of_ble_eq_true rfl⟩) hK hP hD hS 0 rfl rfl (Eq.refl [ht, adt 1, adt 2, adt 3, adt 4, adt 5, adt 6, adt 7]) rfl hl.1 rfl (Nat.le_of_ble_eq_true rfl) dX3_cellToPlant_43 ⟨Nat.zero_le _, Nat.zero_le _⟩ (fun H locs hP hD hS => ?_)
        show W _ _ _ _ _ _ _ _ _ _ _ _ _ _ _ (F0 _ _ _ [])
        replace hP : va_P G vwCl [(ht, .inr (0, [.int (iZ ((adT K ((i : Nat) : Int) n9 1 ((2 ^ mo : Nat) : Int)) 0 0)), .int (iZ ((adT K ((i : Nat) : Int) n9 1 ((2 ^ mo : Nat) : Int)) 0 1)), .int (iZ ((adT K ((i : Nat) : Int) n9 1 ((2 ^ mo : Nat) : Int)) 0 2)), .int (iZ ((adT K ((i : Nat) : Int) n9 1 ((2 ^ mo : Nat) : Int)) 0 3)), .int (iZ ((adT K ((i : Nat) : Int) n9 1 ((2 ^ mo : Nat) : Int)) 0 4)), .int (iZ ((adT K ((i : Nat) : Int) n9 1 ((2 ^ mo : Nat) : Int)) 0 5)), .int (iZ ((adT K ((i : Nat) : Int) n9 1 ((2 ^ mo : Nat) : Int)) 0 6)), .ref (adt 1), .ref (adt 2), .ref (adt 3), .ref (adt 4), .ref (adt 5), .ref (adt 6), .ref (adt 7)])), (adt 1, .inl (Y 0, 6, .inl (aI ((adT K ((i : Nat) : Int) n9 1 ((2 ^ mo : Nat) : Int)) 1)))), (adt 2, .inl (Y 0, 6, .inl (aI ((adT K ((i : Nat) : Int) n9 1 ((2 ^ mo : Nat) : Int)) 2)))), (adt 3, .inl (Y 0, 6, .inl (aI ((adT K ((i : Nat) : Int) n9 1 ((2 ^ mo : Nat) : Int)) 3)))), (adt 4, .inl (Y 1, 6, .inl (aI ((adT K ((i : Nat) : Int) n9 1 ((2 ^ mo : Nat) : Int)) 4)))), (adt 5, .inl (Y 1, 6, .inl (aI ((adT K ((i : Nat) : Int) n9 1 ((2 ^ mo : Nat) : Int)) 5)))), (adt 6, .inl (Y 0, 7, .inl (aI ((adT K ((i : Nat) : Int) n9 1 ((2 ^ mo : Nat) : Int)) 6)))), (adt 7, .inl (Y 0, 7, .inl (aI ((adT K ((i : Nat) : Int) n9 1 ((2 ^ mo : Nat) : Int)) 7)))), (h, .inr (0, [.int (iZ (K 0 0)), .int (iZ (K 0 1)), .int (iZ (K 0 2)), .int (iZ (K 0 3)), .int (iZ (K 0 4)), .int (iZ (K 0 5)), .int (iZ (K 0 6)), .ref (ad 1), .ref (ad 2), .ref (ad 3), .ref (ad 4), .ref (ad 5), .ref (ad 6), .ref (ad 7)])), (ad 1, .inl (Y 0, 6, .inl (aI (K 1)))), (ad 2, .inl (Y 0, 6, .inl (aI (K 2)))), (ad 3, .inl (Y 0, 6, .inl (aI (K 3)))), (ad 4, .inl (Y 1, 6, .inl (aI (K 4)))), (ad 5, .inl (Y 1, 6, .inl (aI (K 5)))), (ad 6, .inl (Y 0, 7, .inl (aI (K 6)))), (ad 7, .inl (Y 0, 7, .inl (aI (K 7)))), (h4, .inr (3, [.ref ht, .ref va, .ref vb]))] H := hP
        replace hD : va_D _ [(ht, .inr (0, [.int (iZ ((adT K ((i : Nat) : Int) n9 1 ((2 ^ mo : Nat) : Int)) 0 0)), .int (iZ ((adT K ((i : Nat) : Int) n9 1 ((2 ^ mo : Nat) : Int)) 0 1)), .int (iZ ((adT K ((i : Nat) : Int) n9 1 ((2 ^ mo : Nat) : Int)) 0 2)), .int (iZ ((adT K ((i : Nat) : Int) n9 1 ((2 ^ mo : Nat) : Int)) 0 3)), .int (iZ ((adT K ((i : Nat) : Int) n9 1 ((2 ^ mo : Nat) : Int)) 0 4)), .int (iZ ((adT K ((i : Nat) : Int) n9 1 ((2 ^ mo : Nat) : Int)) 0 5)), .int (iZ ((adT K ((i : Nat) : Int) n9 1 ((2 ^ mo : Nat) : Int)) 0 6)), .ref (adt 1), .ref (adt 2), .ref (adt 3), .ref (adt 4), .ref (adt 5), .ref (adt 6), .ref (adt 7)])), (adt 1, .inl (Y 0, 6, .inl (aI ((adT K ((i : Nat) : Int) n9 1 ((2 ^ mo : Nat) : Int)) 1)))), (adt 2, .inl (Y 0, 6, .inl (aI ((adT K ((i : Nat) : Int) n9 1 ((2 ^ mo : Nat) : Int)) 2)))), (adt 3, .inl (Y 0, 6, .inl (aI ((adT K ((i : Nat) : Int) n9 1 ((2 ^ mo : Nat) : Int)) 3)))), (adt 4, .inl (Y 1, 6, .inl (aI ((adT K ((i : Nat) : Int) n9 1 ((2 ^ mo : Nat) : Int)) 4)))), (adt 5, .inl (Y 1, 6, .inl (aI ((adT K ((i : Nat) : Int) n9 1 ((2 ^ mo : Nat) : Int)) 5)))), (adt 6, .inl (Y 0, 7, .inl (aI ((adT K ((i : Nat) : Int) n9 1 ((2 ^ mo : Nat) : Int)) 6)))), (adt 7, .inl (Y 0, 7, .inl (aI ((adT K ((i : Nat) : Int) n9 1 ((2 ^ mo : Nat) : Int)) 7)))), (h, .inr (0, [.int (iZ (K 0 0)), .int (iZ (K 0 1)), .int (iZ (K 0 2)), .int (iZ (K 0 3)), .int (iZ (K 0 4)), .int (iZ (K 0 5)), .int (iZ (K 0 6)), .ref (ad 1), .ref (ad 2), .ref (ad 3), .ref (ad 4), .ref (ad 5), .ref (ad 6), .ref (ad 7)])), (ad 1, .inl (Y 0, 6, .inl (aI (K 1)))), (ad 2, .inl (Y 0, 6, .inl (aI (K 2)))), (ad 3, .inl (Y 0, 6, .inl (aI (K 3)))), (ad 4, .inl (Y 1, 6, .inl (aI (K 4)))), (ad 5, .inl (Y 1, 6, .inl (aI (K 5)))), (ad 6, .inl (Y 0, 7, .inl (aI (K 6)))), (ad 7, .inl (Y 0, 7, .inl (aI (K 7)))), (h4, .inr (3, [.ref ht, .ref va, .ref vb]))] := hD
        have hWl : cWF (adT K ((i : Nat) : Int) n9 1 ((2 ^ mo : Nat) : Int)) := cWF_adT hW (by omega) (by omega) (by omega) (by omega) (by omega)
        refine lv_aload_n hx hb dX3_cellToPlant_46 rfl (lv_at hl 1 rfl) ?_
        refine va_get (D := G) (ci := 3) (v := .ref ht) (C := RX3) (T := TX3) (N := 3) hx hb hts hFX3 hown hK.1 hP 16 rfl rfl 0 (by decide) kf12 (fun _ h9 => h9) rfl dX3_cellToPlant_47 ?_
        refine lv_iload_n hx hb dX3_cellToPlant_50 rfl (lv_at hl 3 rfl) ?_
        refine ro_V (As := [.int (iZ ((mo : Nat) : Int))]) (rest := []) ⟨hx, hb, hml, hown, hts⟩ (c_X0_isCarried l G Y ht adt (adT K ((i : Nat) : Int) n9 1 ((2 ^ mo : Nat) : Int)) (by assumption) mo (by omega)) (cwV 1 hts gX3_cellToPlant_X0_isCarried rfl rfl rfl (by decide +kernel) ⟨Nat.le_of_ble_eq_true rfl, Nat.le_of_ble_eq_true rfl⟩) hK (hP.sub (ws' := cmW Y ht adt (adT K ((i : Nat) : Int) n9 1 ((2 ^ mo : Nat) : Int))) [0, 1, 2, 3, 4, 5, 6, 7] rfl) 0 rfl rfl rfl hl.1 rfl (Nat.le_of_ble_eq_true rfl) dX3_cellToPlant_51 ⟨Nat.zero_le _, Nat.zero_le _⟩ ?_
        refine z_ifb_eq (tgt := 60) hx hb dX3_cellToPlant_54 (by decide) (fun c_4 => ?_) (fun c_4 => ?_)
        · skip
          refine lv_iinc (v := iZ ((i + 1 : Nat) : Int)) (lv' := [(4, .int (iZ ((i + 1 : Nat) : Int))), (0, .ref h4), (1, .ref h), (2, .int (iZ ((mo : Nat) : Int))), (3, .int (iZ n9))]) hx hb dX3_cellToPlant_60 hl (k := 0) rfl (iZ_inc _) (by decide) rfl (fun ls hl => ?_)
          refine lv_goto (tgt := 3) hx hb dX3_cellToPlant_63 (by decide) ?_
          exact ih1 (ls := ls) (i := i + 1) (Kt1 := (adT K ((i : Nat) : Int) n9 1 ((2 ^ mo : Nat) : Int))) (H := H) (locs := locs) (hS := hS) (hI := by exact ⟨by omega, fnd_no hI.2 (by first | exact ctG_f1 (by assumption) | exact ctG_f2 (by assumption))⟩) (hl := lv_sub hl [0, 1, 2, 3, 4] rfl) (hP := hP.sub [16, 0, 1, 2, 3, 4, 5, 6, 7, 8, 9, 10, 11, 12, 13, 14, 15] rfl) (hD := hD.sub [16, 0, 1, 2, 3, 4, 5, 6, 7, 8, 9, 10, 11, 12, 13, 14, 15] (by decide) rfl) (hn_ := by omega)
        · skip
          refine lv_iload hx hb dX3_cellToPlant_57 (lv_at hl 0 rfl) ?_
          refine z_top (show ((i : Nat) : Int) = fnd (ctG K mo n9) (K 0 0 * K 0 1).toNat from ?_) ?_
          · exact (fnd_at hI.2 (ctG_t (by assumption) (by assumption)) (by omega)).symm
          have hP9 : va_P G vwCl (qoW Y h4 ht va vb ++ (cmW Y ht adt (adT K ((i : Nat) : Int) n9 1 ((2 ^ mo : Nat) : Int)) ++ cmW Y h ad K)) H := hP.sub [16, 0, 1, 2, 3, 4, 5, 6, 7, 8, 9, 10, 11, 12, 13, 14, 15] rfl
          exact W.iret (v := iZ (fnd (ctG K mo n9) (K 0 0 * K 0 1).toNat)) hx hb hr (fun t9 ht9 _ => ⟨rfl, ⟨(adT K ((i : Nat) : Int) n9 1 ((2 ^ mo : Nat) : Int)), by rw [ht9]; exact hP9⟩, hS.F ht9⟩) hS.2.2 dX3_cellToPlant_59
      · skip
        refine lv_goto (tgt := 60) hx hb dX3_cellToPlant_21 (by decide) ?_
        refine lv_iinc (v := iZ ((i + 1 : Nat) : Int)) (lv' := [(4, .int (iZ ((i + 1 : Nat) : Int))), (0, .ref h4), (1, .ref h), (2, .int (iZ ((mo : Nat) : Int))), (3, .int (iZ n9))]) hx hb dX3_cellToPlant_60 hl (k := 0) rfl (iZ_inc _) (by decide) rfl (fun ls hl => ?_)
        refine lv_goto (tgt := 3) hx hb dX3_cellToPlant_63 (by decide) ?_
        exact ih1 (ls := ls) (i := i + 1) (Kt1 := Kt1) (H := H) (locs := locs) (hS := hS) (hI := by exact ⟨by omega, fnd_no hI.2 (by first | exact ctG_f1 (by assumption) | exact ctG_f2 (by assumption))⟩) (hl := lv_sub hl [0, 1, 2, 3, 4] rfl) (hP := hP) (hD := hD) (hn_ := by omega)

set_option maxHeartbeats 4000000 in
set_option maxRecDepth 100000 in
theorem c_X3_carryingSuns (l : Launch) (G : va_G) (Y : Nat → ClassId) (h4 ht va vb : Nat) (adt : Nat → Nat) (Kt : Kom) (h : Nat) (ad : Nat → Nat) (K : Kom) (hW : cWF K) (mo : Nat) (r : mo ≤ 2) : Met l yX3_carryingSuns wsX3_carryingSuns ({ frames := 5, cells := 0, slots := 0, locals := 115 }) (mP G Y [.ref h4, .ref h, .int (iZ ((mo : Nat) : Int))] (qoW Y h4 ht va vb ++ (cmW Y ht adt Kt ++ cmW Y h ad K))) (eQ G (qoW Y h4 ht va vb ++ (cmW Y ht adt Kt ++ cmW Y h ad K)) (some (.int (iZ ((snN (snG K mo) 9 : Nat) : Int)))) (fun u => qoW Y h4 ht va vb ++ (cmW Y ht adt u ++ cmW Y h ad K))) 0 0 (fun q => q ∈ List.map Prod.fst (qoW Y h4 ht va vb ++ (cmW Y ht adt Kt ++ cmW Y h ad K))) := by
  refine Met.ofW (cc := cX3_carryingSuns) (maxL := 5) (ret := (some .int)) (by decide) rfl ?_
  intro p e s m args below meth c s₁ B hml hv
  obtain ⟨rfl, hK, hP, hD0⟩ := hv
  have hx := B.exec
  have hb := B.bytes
  have hr := B.returns
  have hts := atoms_spec (ws := wsX3_carryingSuns) B.pre
  have hown : s.vm.findClass RX3 = some m.cls := findClass_of_methodNamed B.named
  have hlocks := B.notSynchronized
  have hFX0 : ∀ w ∈ wsX00, w ∈ wsX3_carryingSuns := by decide +kernel
  have hFX3 : ∀ w ∈ wsX30, w ∈ wsX3_carryingSuns := by decide +kernel
  have kf12 := (hts (.fieldLink RX3 12 "ShadeVotes$Question" "trial" "LShadeVotes$Commune;") (by decide +kernel))
  have kf93 := (hts (.fieldLink RX3 93 "ShadeVotes$Commune" "sunlight" "I") (by decide +kernel))
  have hD := va_D_self hD0
  have hS : va_S (fun q => q ∈ List.map Prod.fst (qoW Y h4 ht va vb ++ (cmW Y ht adt Kt ++ cmW Y h ad K))) s.heap s.heap [] := va_S.rf
  obtain ⟨H, hHe⟩ : ∃ H, H = s.heap := ⟨_, rfl⟩
  rw [← hHe] at hP
  replace hS : va_S (fun q => q ∈ List.map Prod.fst (qoW Y h4 ht va vb ++ (cmW Y ht adt Kt ++ cmW Y h ad K))) s.heap H [] := by rw [hHe]; exact hS
  have hl := lv_entry ([.ref h4, .ref h, .int (iZ ((mo : Nat) : Int))]) (n := 5) (Nat.le_of_ble_eq_true rfl)
  rw [lg_entry_eq]
  generalize (lg_sl ([.ref h4, .ref h, .int (iZ ((mo : Nat) : Int))]) ++ List.replicate (5 - (lg_sl ([.ref h4, .ref h, .int (iZ ((mo : Nat) : Int))])).length) Slot.unset).toArray = ls at hl ⊢
  replace hl : lv_has ls 5 [(0, .ref h4), (1, .ref h), (2, .int (iZ ((mo : Nat) : Int)))] := hl
  obtain ⟨locs, hLe⟩ : ∃ locs : List Loc, locs = [] := ⟨_, rfl⟩
  rw [← hLe] at hS ⊢
  have hW0 : ∀ {Q : State → Prop} {g : JFrame}, W p l e ({ frames := 5, cells := 0, slots := 0, locals := 115 }) s m [.ref h4, .ref h, .int (iZ ((mo : Nat) : Int))].toArray below meth c H locs 0 0 Q g → W p l e ({ frames := 5, cells := 0, slots := 0, locals := 115 }) s m [.ref h4, .ref h, .int (iZ ((mo : Nat) : Int))].toArray below meth c s.heap locs 0 0 Q g := fun h => by rw [← hHe]; exact h
  refine hW0 ?_
  clear hW0 hHe hLe
  have h0 := hW.1
  have hnc := hW.nc
  refine lv_aload_n hx hb dX3_carryingSuns_0 rfl (lv_at hl 0 rfl) ?_
  refine va_get (D := G) (ci := 3) (v := .ref ht) (C := RX3) (T := TX3) (N := 3) hx hb hts hFX3 hown hK.1 hP 0 rfl rfl 0 (by decide) kf12 (fun _ h9 => h9) rfl dX3_carryingSuns_1 ?_
  refine lv_aload_n hx hb dX3_carryingSuns_4 rfl (lv_at hl 1 rfl) ?_
  have hP := hP.sub (ws' := [(ht, .inr (0, [.int (iZ (Kt 0 0)), .int (iZ (Kt 0 1)), .int (iZ (Kt 0 2)), .int (iZ (Kt 0 3)), .int (iZ (Kt 0 4)), .int (iZ (Kt 0 5)), .int (iZ (Kt 0 6)), .ref (adt 1), .ref (adt 2), .ref (adt 3), .ref (adt 4), .ref (adt 5), .ref (adt 6), .ref (adt 7)])), (adt 1, .inl (Y 0, 6, .inl (aI (Kt 1)))), (adt 2, .inl (Y 0, 6, .inl (aI (Kt 2)))), (adt 3, .inl (Y 0, 6, .inl (aI (Kt 3)))), (adt 4, .inl (Y 1, 6, .inl (aI (Kt 4)))), (adt 5, .inl (Y 1, 6, .inl (aI (Kt 5)))), (adt 6, .inl (Y 0, 7, .inl (aI (Kt 6)))), (adt 7, .inl (Y 0, 7, .inl (aI (Kt 7)))), (h, .inr (0, [.int (iZ (K 0 0)), .int (iZ (K 0 1)), .int (iZ (K 0 2)), .int (iZ (K 0 3)), .int (iZ (K 0 4)), .int (iZ (K 0 5)), .int (iZ (K 0 6)), .ref (ad 1), .ref (ad 2), .ref (ad 3), .ref (ad 4), .ref (ad 5), .ref (ad 6), .ref (ad 7)])), (ad 1, .inl (Y 0, 6, .inl (aI (K 1)))), (ad 2, .inl (Y 0, 6, .inl (aI (K 2)))), (ad 3, .inl (Y 0, 6, .inl (aI (K 3)))), (ad 4, .inl (Y 1, 6, .inl (aI (K 4)))), (ad 5, .inl (Y 1, 6, .inl (aI (K 5)))), (ad 6, .inl (Y 0, 7, .inl (aI (K 6)))), (ad 7, .inl (Y 0, 7, .inl (aI (K 7))))] ++ [(h4, .inr (3, [.ref ht, .ref va, .ref vb]))]) [1, 2, 3, 4, 5, 6, 7, 8, 9, 10, 11, 12, 13, 14, 15, 16, 0] rfl
  have hD := hD.sub (ws' := [(ht, .inr (0, [.int (iZ (Kt 0 0)), .int (iZ (Kt 0 1)), .int (iZ (Kt 0 2)), .int (iZ (Kt 0 3)), .int (iZ (Kt 0 4)), .int (iZ (Kt 0 5)), .int (iZ (Kt 0 6)), .ref (adt 1), .ref (adt 2), .ref (adt 3), .ref (adt 4), .ref (adt 5), .ref (adt 6), .ref (adt 7)])), (adt 1, .inl (Y 0, 6, .inl (aI (Kt 1)))), (adt 2, .inl (Y 0, 6, .inl (aI (Kt 2)))), (adt 3, .inl (Y 0, 6, .inl (aI (Kt 3)))), (adt 4, .inl (Y 1, 6, .inl (aI (Kt 4)))), (adt 5, .inl (Y 1, 6, .inl (aI (Kt 5)))), (adt 6, .inl (Y 0, 7, .inl (aI (Kt 6)))), (adt 7, .inl (Y 0, 7, .inl (aI (Kt 7)))), (h, .inr (0, [.int (iZ (K 0 0)), .int (iZ (K 0 1)), .int (iZ (K 0 2)), .int (iZ (K 0 3)), .int (iZ (K 0 4)), .int (iZ (K 0 5)), .int (iZ (K 0 6)), .ref (ad 1), .ref (ad 2), .ref (ad 3), .ref (ad 4), .ref (ad 5), .ref (ad 6), .ref (ad 7)])), (ad 1, .inl (Y 0, 6, .inl (aI (K 1)))), (ad 2, .inl (Y 0, 6, .inl (aI (K 2)))), (ad 3, .inl (Y 0, 6, .inl (aI (K 3)))), (ad 4, .inl (Y 1, 6, .inl (aI (K 4)))), (ad 5, .inl (Y 1, 6, .inl (aI (K 5)))), (ad 6, .inl (Y 0, 7, .inl (aI (K 6)))), (ad 7, .inl (Y 0, 7, .inl (aI (K 7))))] ++ [(h4, .inr (3, [.ref ht, .ref va, .ref vb]))]) [1, 2, 3, 4, 5, 6, 7, 8, 9, 10, 11, 12, 13, 14, 15, 16, 0] (by decide) rfl
  refine mu_V (As := [.ref h]) (rest := []) (wc := [(ht, .inr (0, [.int (iZ (Kt 0 0)), .int (iZ (Kt 0 1)), .int (iZ (Kt 0 2)), .int (iZ (Kt 0 3)), .int (iZ (Kt 0 4)), .int (iZ (Kt 0 5)), .int (iZ (Kt 0 6)), .ref (adt 1), .ref (adt 2), .ref (adt 3), .ref (adt 4), .ref (adt 5), .ref (adt 6), .ref (adt 7)])), (adt 1, .inl (Y 0, 6, .inl (aI (Kt 1)))), (adt 2, .inl (Y 0, 6, .inl (aI (Kt 2)))), (adt 3, .inl (Y 0, 6, .inl (aI (Kt 3)))), (adt 4, .inl (Y 1, 6, .inl (aI (Kt 4)))), (adt 5, .inl (Y 1, 6, .inl (aI (Kt 5)))), (adt 6, .inl (Y 0, 7, .inl (aI (Kt 6)))), (adt 7, .inl (Y 0, 7, .inl (aI (Kt 7)))), (h, .inr (0, [.int (iZ (K 0 0)), .int (iZ (K 0 1)), .int (iZ (K 0 2)), .int (iZ (K 0 3)), .int (iZ (K 0 4)), .int (iZ (K 0 5)), .int (iZ (K 0 6)), .ref (ad 1), .ref (ad 2), .ref (ad 3), .ref (ad 4), .ref (ad 5), .ref (ad 6), .ref (ad 7)])), (ad 1, .inl (Y 0, 6, .inl (aI (K 1)))), (ad 2, .inl (Y 0, 6, .inl (aI (K 2)))), (ad 3, .inl (Y 0, 6, .inl (aI (K 3)))), (ad 4, .inl (Y 1, 6, .inl (aI (K 4)))), (ad 5, .inl (Y 1, 6, .inl (aI (K 5)))), (ad 6, .inl (Y 0, 7, .inl (aI (K 6)))), (ad 7, .inl (Y 0, 7, .inl (aI (K 7))))]) (wc' := cmW Y ht adt K ++ cmW Y h ad K) (F := [(h4, .inr (3, [.ref ht, .ref va, .ref vb]))]) ⟨hx, hb, hml, hown, hts⟩ (c_X0_become l G Y ht h adt ad Kt K hW) (cwV 1 hts gX3_carryingSuns_X0_become rfl rfl rfl (by decide +kernel) ⟨Nat.le_of_ble_eq_true rfl, Nat.le_of_ble_eq_true rfl⟩) hK hP hD hS 0 rfl rfl (Eq.refl [ht, adt 1, adt 2, adt 3, adt 4, adt 5, adt 6, adt 7, h, ad 1, ad 2, ad 3, ad 4, ad 5, ad 6, ad 7]) rfl hl.1 rfl (Nat.le_of_ble_eq_true rfl) dX3_carryingSuns_5 ⟨Nat.zero_le _, Nat.zero_le _⟩ (fun H locs hP hD hS => ?_)
  show W _ _ _ _ _ _ _ _ _ _ _ _ _ _ _ (F0 _ _ _ [])
  replace hP : va_P G vwCl [(ht, .inr (0, [.int (iZ (K 0 0)), .int (iZ (K 0 1)), .int (iZ (K 0 2)), .int (iZ (K 0 3)), .int (iZ (K 0 4)), .int (iZ (K 0 5)), .int (iZ (K 0 6)), .ref (adt 1), .ref (adt 2), .ref (adt 3), .ref (adt 4), .ref (adt 5), .ref (adt 6), .ref (adt 7)])), (adt 1, .inl (Y 0, 6, .inl (aI (K 1)))), (adt 2, .inl (Y 0, 6, .inl (aI (K 2)))), (adt 3, .inl (Y 0, 6, .inl (aI (K 3)))), (adt 4, .inl (Y 1, 6, .inl (aI (K 4)))), (adt 5, .inl (Y 1, 6, .inl (aI (K 5)))), (adt 6, .inl (Y 0, 7, .inl (aI (K 6)))), (adt 7, .inl (Y 0, 7, .inl (aI (K 7)))), (h, .inr (0, [.int (iZ (K 0 0)), .int (iZ (K 0 1)), .int (iZ (K 0 2)), .int (iZ (K 0 3)), .int (iZ (K 0 4)), .int (iZ (K 0 5)), .int (iZ (K 0 6)), .ref (ad 1), .ref (ad 2), .ref (ad 3), .ref (ad 4), .ref (ad 5), .ref (ad 6), .ref (ad 7)])), (ad 1, .inl (Y 0, 6, .inl (aI (K 1)))), (ad 2, .inl (Y 0, 6, .inl (aI (K 2)))), (ad 3, .inl (Y 0, 6, .inl (aI (K 3)))), (ad 4, .inl (Y 1, 6, .inl (aI (K 4)))), (ad 5, .inl (Y 1, 6, .inl (aI (K 5)))), (ad 6, .inl (Y 0, 7, .inl (aI (K 6)))), (ad 7, .inl (Y 0, 7, .inl (aI (K 7)))), (h4, .inr (3, [.ref ht, .ref va, .ref vb]))] H := hP
  replace hD : va_D _ [(ht, .inr (0, [.int (iZ (K 0 0)), .int (iZ (K 0 1)), .int (iZ (K 0 2)), .int (iZ (K 0 3)), .int (iZ (K 0 4)), .int (iZ (K 0 5)), .int (iZ (K 0 6)), .ref (adt 1), .ref (adt 2), .ref (adt 3), .ref (adt 4), .ref (adt 5), .ref (adt 6), .ref (adt 7)])), (adt 1, .inl (Y 0, 6, .inl (aI (K 1)))), (adt 2, .inl (Y 0, 6, .inl (aI (K 2)))), (adt 3, .inl (Y 0, 6, .inl (aI (K 3)))), (adt 4, .inl (Y 1, 6, .inl (aI (K 4)))), (adt 5, .inl (Y 1, 6, .inl (aI (K 5)))), (adt 6, .inl (Y 0, 7, .inl (aI (K 6)))), (adt 7, .inl (Y 0, 7, .inl (aI (K 7)))), (h, .inr (0, [.int (iZ (K 0 0)), .int (iZ (K 0 1)), .int (iZ (K 0 2)), .int (iZ (K 0 3)), .int (iZ (K 0 4)), .int (iZ (K 0 5)), .int (iZ (K 0 6)), .ref (ad 1), .ref (ad 2), .ref (ad 3), .ref (ad 4), .ref (ad 5), .ref (ad 6), .ref (ad 7)])), (ad 1, .inl (Y 0, 6, .inl (aI (K 1)))), (ad 2, .inl (Y 0, 6, .inl (aI (K 2)))), (ad 3, .inl (Y 0, 6, .inl (aI (K 3)))), (ad 4, .inl (Y 1, 6, .inl (aI (K 4)))), (ad 5, .inl (Y 1, 6, .inl (aI (K 5)))), (ad 6, .inl (Y 0, 7, .inl (aI (K 6)))), (ad 7, .inl (Y 0, 7, .inl (aI (K 7)))), (h4, .inr (3, [.ref ht, .ref va, .ref vb]))] := hD
  refine z_iconst hx hb dX3_carryingSuns_8 ?_
  refine lv_istore_n (lv' := [(3, .int (iZ 0)), (0, .ref h4), (1, .ref h), (2, .int (iZ ((mo : Nat) : Int)))]) hx hb dX3_carryingSuns_9 rfl hl (by decide) rfl (fun ls hl => ?_)
  refine z_iconst hx hb dX3_carryingSuns_10 ?_
  refine lv_istore (lv' := [(4, .int (iZ 1)), (3, .int (iZ 0)), (0, .ref h4), (1, .ref h), (2, .int (iZ ((mo : Nat) : Int)))]) hx hb dX3_carryingSuns_11 hl (by decide) rfl (fun ls hl => ?_)
  obtain ⟨i, q, sn, hI, hl1, hP1, hD1⟩ : ∃ (i : Nat) (q : Nat) (sn : Int), (i ≤ 9 ∧ q = snN (snG K mo) i) ∧ lv_has ls 5 [(4, .int (iZ ((i + 1 : Nat) : Int))), (3, .int (iZ ((q : Nat) : Int))), (0, .ref h4), (1, .ref h), (2, .int (iZ ((mo : Nat) : Int)))] ∧ va_P G vwCl [(ht, .inr (0, [.int (iZ (K 0 0)), .int (iZ (K 0 1)), .int (iZ (K 0 2)), .int (iZ (K 0 3)), .int (iZ sn), .int (iZ (K 0 5)), .int (iZ (K 0 6)), .ref (adt 1), .ref (adt 2), .ref (adt 3), .ref (adt 4), .ref (adt 5), .ref (adt 6), .ref (adt 7)])), (adt 1, .inl (Y 0, 6, .inl (aI (K 1)))), (adt 2, .inl (Y 0, 6, .inl (aI (K 2)))), (adt 3, .inl (Y 0, 6, .inl (aI (K 3)))), (adt 4, .inl (Y 1, 6, .inl (aI (K 4)))), (adt 5, .inl (Y 1, 6, .inl (aI (K 5)))), (adt 6, .inl (Y 0, 7, .inl (aI (K 6)))), (adt 7, .inl (Y 0, 7, .inl (aI (K 7)))), (h, .inr (0, [.int (iZ (K 0 0)), .int (iZ (K 0 1)), .int (iZ (K 0 2)), .int (iZ (K 0 3)), .int (iZ (K 0 4)), .int (iZ (K 0 5)), .int (iZ (K 0 6)), .ref (ad 1), .ref (ad 2), .ref (ad 3), .ref (ad 4), .ref (ad 5), .ref (ad 6), .ref (ad 7)])), (ad 1, .inl (Y 0, 6, .inl (aI (K 1)))), (ad 2, .inl (Y 0, 6, .inl (aI (K 2)))), (ad 3, .inl (Y 0, 6, .inl (aI (K 3)))), (ad 4, .inl (Y 1, 6, .inl (aI (K 4)))), (ad 5, .inl (Y 1, 6, .inl (aI (K 5)))), (ad 6, .inl (Y 0, 7, .inl (aI (K 6)))), (ad 7, .inl (Y 0, 7, .inl (aI (K 7)))), (h4, .inr (3, [.ref ht, .ref va, .ref vb]))] H ∧ va_D (fun q => q ∈ List.map Prod.fst (qoW Y h4 ht va vb ++ (cmW Y ht adt Kt ++ cmW Y h ad K))) [(ht, .inr (0, [.int (iZ (K 0 0)), .int (iZ (K 0 1)), .int (iZ (K 0 2)), .int (iZ (K 0 3)), .int (iZ sn), .int (iZ (K 0 5)), .int (iZ (K 0 6)), .ref (adt 1), .ref (adt 2), .ref (adt 3), .ref (adt 4), .ref (adt 5), .ref (adt 6), .ref (adt 7)])), (adt 1, .inl (Y 0, 6, .inl (aI (K 1)))), (adt 2, .inl (Y 0, 6, .inl (aI (K 2)))), (adt 3, .inl (Y 0, 6, .inl (aI (K 3)))), (adt 4, .inl (Y 1, 6, .inl (aI (K 4)))), (adt 5, .inl (Y 1, 6, .inl (aI (K 5)))), (adt 6, .inl (Y 0, 7, .inl (aI (K 6)))), (adt 7, .inl (Y 0, 7, .inl (aI (K 7)))), (h, .inr (0, [.int (iZ (K 0 0)), .int (iZ (K 0 1)), .int (iZ (K 0 2)), .int (iZ (K 0 3)), .int (iZ (K 0 4)), .int (iZ (K 0 5)), .int (iZ (K 0 6)), .ref (ad 1), .ref (ad 2), .ref (ad 3), .ref (ad 4), .ref (ad 5), .ref (ad 6), .ref (ad 7)])), (ad 1, .inl (Y 0, 6, .inl (aI (K 1)))), (ad 2, .inl (Y 0, 6, .inl (aI (K 2)))), (ad 3, .inl (Y 0, 6, .inl (aI (K 3)))), (ad 4, .inl (Y 1, 6, .inl (aI (K 4)))), (ad 5, .inl (Y 1, 6, .inl (aI (K 5)))), (ad 6, .inl (Y 0, 7, .inl (aI (K 6)))), (ad 7, .inl (Y 0, 7, .inl (aI (K 7)))), (h4, .inr (3, [.ref ht, .ref va, .ref vb]))] := ⟨0, 0, K 0 4, by exact ⟨by omega, rfl⟩, lv_sub hl [0, 1, 2, 3, 4] rfl, hP, hD⟩
  clear hl hP hD
  have hl := hl1
  clear hl1
  have hP := hP1
  have hD := hD1
  clear hP1 hD1
  obtain ⟨n_, hn_⟩ : ∃ n_ : Nat, 9 - i < n_ := ⟨_, Nat.lt_succ_self _⟩
  induction n_ generalizing i q sn ls H locs with
  | zero => exact absurd hn_ (Nat.not_lt_zero _)
  | succ n_ ih1 =>
    refine lv_iload hx hb dX3_carryingSuns_13 (lv_at hl 0 rfl) ?_
    refine z_bipush hx hb dX3_carryingSuns_15 (by decide) ?_
    refine z_icmp_gt (tgt := 54) hx hb dX3_carryingSuns_17 (by decide) (by omega) (fun c_2 => ?_) (fun c_2 => ?_)
    · skip
      refine lv_iload_n hx hb dX3_carryingSuns_54 rfl (lv_at hl 1 rfl) ?_
      refine z_top (show ((q : Nat) : Int) = ((snN (snG K mo) 9 : Nat) : Int) from ?_) ?_
      · rw [hI.2, show i = 9 by omega]
      have hP9 : va_P G vwCl (qoW Y h4 ht va vb ++ (cmW Y ht adt (kS K 0 4 sn) ++ cmW Y h ad K)) H := hP.sub [16, 0, 1, 2, 3, 4, 5, 6, 7, 8, 9, 10, 11, 12, 13, 14, 15] rfl
      exact W.iret (v := iZ ((snN (snG K mo) 9 : Nat) : Int)) hx hb hr (fun t9 ht9 _ => ⟨rfl, ⟨(kS K 0 4 sn), by rw [ht9]; exact hP9⟩, hS.F ht9⟩) hS.2.2 dX3_carryingSuns_55
    · skip
      refine lv_aload_n hx hb dX3_carryingSuns_20 rfl (lv_at hl 2 rfl) ?_
      refine va_get (D := G) (ci := 3) (v := .ref ht) (C := RX3) (T := TX3) (N := 3) hx hb hts hFX3 hown hK.1 hP 16 rfl rfl 0 (by decide) kf12 (fun _ h9 => h9) rfl dX3_carryingSuns_21 ?_
      refine lv_iload hx hb dX3_carryingSuns_24 (lv_at hl 0 rfl) ?_
      refine va_put (D := G) (ci := 0) (v := .int (iZ ((i + 1 : Nat) : Int))) (ty := .int) (C := RX0) (T := TX0) (N := 14) hx hb hts hFX0 tyX0 tyX0_ok nmX0 hown hK.1 hP hD hS 0 rfl rfl 4 (by decide) kf93 (fun _ h9 => h9) rfl (by decide +kernel) rfl rfl (Nat.le_of_ble_eq_true rfl) dX3_carryingSuns_26 (fun H locs hP hD hS => ?_)
      replace hP : va_P G vwCl [(ht, .inr (0, [.int (iZ (K 0 0)), .int (iZ (K 0 1)), .int (iZ (K 0 2)), .int (iZ (K 0 3)), .int (iZ ((i + 1 : Nat) : Int)), .int (iZ (K 0 5)), .int (iZ (K 0 6)), .ref (adt 1), .ref (adt 2), .ref (adt 3), .ref (adt 4), .ref (adt 5), .ref (adt 6), .ref (adt 7)])), (adt 1, .inl (Y 0, 6, .inl (aI (K 1)))), (adt 2, .inl (Y 0, 6, .inl (aI (K 2)))), (adt 3, .inl (Y 0, 6, .inl (aI (K 3)))), (adt 4, .inl (Y 1, 6, .inl (aI (K 4)))), (adt 5, .inl (Y 1, 6, .inl (aI (K 5)))), (adt 6, .inl (Y 0, 7, .inl (aI (K 6)))), (adt 7, .inl (Y 0, 7, .inl (aI (K 7)))), (h, .inr (0, [.int (iZ (K 0 0)), .int (iZ (K 0 1)), .int (iZ (K 0 2)), .int (iZ (K 0 3)), .int (iZ (K 0 4)), .int (iZ (K 0 5)), .int (iZ (K 0 6)), .ref (ad 1), .ref (ad 2), .ref (ad 3), .ref (ad 4), .ref (ad 5), .ref (ad 6), .ref (ad 7)])), (ad 1, .inl (Y 0, 6, .inl (aI (K 1)))), (ad 2, .inl (Y 0, 6, .inl (aI (K 2)))), (ad 3, .inl (Y 0, 6, .inl (aI (K 3)))), (ad 4, .inl (Y 1, 6, .inl (aI (K 4)))), (ad 5, .inl (Y 1, 6, .inl (aI (K 5)))), (ad 6, .inl (Y 0, 7, .inl (aI (K 6)))), (ad 7, .inl (Y 0, 7, .inl (aI (K 7)))), (h4, .inr (3, [.ref ht, .ref va, .ref vb]))] H := hP
      replace hD : va_D _ [(ht, .inr (0, [.int (iZ (K 0 0)), .int (iZ (K 0 1)), .int (iZ (K 0 2)), .int (iZ (K 0 3)), .int (iZ ((i + 1 : Nat) : Int)), .int (iZ (K 0 5)), .int (iZ (K 0 6)), .ref (adt 1), .ref (adt 2), .ref (adt 3), .ref (adt 4), .ref (adt 5), .ref (adt 6), .ref (adt 7)])), (adt 1, .inl (Y 0, 6, .inl (aI (K 1)))), (adt 2, .inl (Y 0, 6, .inl (aI (K 2)))), (adt 3, .inl (Y 0, 6, .inl (aI (K 3)))), (adt 4, .inl (Y 1, 6, .inl (aI (K 4)))), (adt 5, .inl (Y 1, 6, .inl (aI (K 5)))), (adt 6, .inl (Y 0, 7, .inl (aI (K 6)))), (adt 7, .inl (Y 0, 7, .inl (aI (K 7)))), (h, .inr (0, [.int (iZ (K 0 0)), .int (iZ (K 0 1)), .int (iZ (K 0 2)), .int (iZ (K 0 3)), .int (iZ (K 0 4)), .int (iZ (K 0 5)), .int (iZ (K 0 6)), .ref (ad 1), .ref (ad 2), .ref (ad 3), .ref (ad 4), .ref (ad 5), .ref (ad 6), .ref (ad 7)])), (ad 1, .inl (Y 0, 6, .inl (aI (K 1)))), (ad 2, .inl (Y 0, 6, .inl (aI (K 2)))), (ad 3, .inl (Y 0, 6, .inl (aI (K 3)))), (ad 4, .inl (Y 1, 6, .inl (aI (K 4)))), (ad 5, .inl (Y 1, 6, .inl (aI (K 5)))), (ad 6, .inl (Y 0, 7, .inl (aI (K 6)))), (ad 7, .inl (Y 0, 7, .inl (aI (K 7)))), (h4, .inr (3, [.ref ht, .ref va, .ref vb]))] := hD
      refine lv_iload_n hx hb dX3_carryingSuns_29 rfl (lv_at hl 1 rfl) ?_
      refine lv_aload_n hx hb dX3_carryingSuns_30 rfl (lv_at hl 2 rfl) ?_
      refine va_get (D := G) (ci := 3) (v := .ref ht) (C := RX3) (T := TX3) (N := 3) hx hb hts hFX3 hown hK.1 hP 16 rfl rfl 0 (by decide) kf12 (fun _ h9 => h9) rfl dX3_carryingSuns_31 ?_
      refine lv_iload_n hx hb dX3_carryingSuns_34 rfl (lv_at hl 4 rfl) ?_
      refine ro_V (As := [.int (iZ ((mo : Nat) : Int))]) (rest := [.int (iZ ((q : Nat) : Int))]) ⟨hx, hb, hml, hown, hts⟩ (c_X0_isCarried l G Y ht adt (kS K 0 4 ((i + 1 : Nat) : Int)) (cWF_sun hW (by omega)) mo (by omega)) (cwV 1 hts gX3_carryingSuns_X0_isCarried rfl rfl rfl (by decide +kernel) ⟨Nat.le_of_ble_eq_true rfl, Nat.le_of_ble_eq_true rfl⟩) hK (hP.sub (ws' := cmW Y ht adt (kS K 0 4 ((i + 1 : Nat) : Int))) [0, 1, 2, 3, 4, 5, 6, 7] rfl) 0 rfl rfl rfl hl.1 rfl (Nat.le_of_ble_eq_true rfl) dX3_carryingSuns_35 ⟨Nat.zero_le _, Nat.zero_le _⟩ ?_
      refine ro_SN (As := [.int (iZ (bZ (crd (kS K 0 4 ((i + 1 : Nat) : Int)) mo)))]) (rest := [.int (iZ ((q : Nat) : Int))]) ⟨hx, hb, hml, hown, hts⟩ (c_X6_asNumber l G Y (crd (kS K 0 4 ((i + 1 : Nat) : Int)) mo)) ⟨va_cnB 1 hts gX3_carryingSuns_X6_asNumber_n96 rfl rfl rfl (nk_X3_96 hK.2) (hts (.initialized RX6) (by decide +kernel)) (by decide +kernel) ⟨Nat.le_of_ble_eq_true rfl, Nat.le_of_ble_eq_true rfl⟩, hts (.static yX6_asNumber) (by decide +kernel), trivial⟩ hK (hP.sub (ws' := []) [] rfl) rfl hl.1 rfl (Nat.le_of_ble_eq_true rfl) dX3_carryingSuns_38 ⟨Nat.zero_le _, Nat.zero_le _⟩ ?_
      refine lv_iload hx hb dX3_carryingSuns_41 (lv_at hl 0 rfl) ?_
      refine z_iconst hx hb dX3_carryingSuns_43 ?_
      refine z_isub hx hb dX3_carryingSuns_44 ?_
      refine z_ishlb (k := i) hx hb dX3_carryingSuns_45 (by omega) ?_
      refine z_ior (a := q) (b := (if crd (kS K 0 4 ((i + 1 : Nat) : Int)) mo then 2 ^ i else 0)) hx hb dX3_carryingSuns_46 rfl rfl ?_
      refine lv_istore_n (lv' := [(3, .int (iZ ((q ||| (if crd (kS K 0 4 ((i + 1 : Nat) : Int)) mo then 2 ^ i else 0) : Nat) : Int))), (4, .int (iZ ((i + 1 : Nat) : Int))), (0, .ref h4), (1, .ref h), (2, .int (iZ ((mo : Nat) : Int)))]) hx hb dX3_carryingSuns_47 rfl hl (by decide) rfl (fun ls hl => ?_)
      refine lv_iinc (v := iZ ((i + 1 + 1 : Nat) : Int)) (lv' := [(4, .int (iZ ((i + 1 + 1 : Nat) : Int))), (3, .int (iZ ((q ||| (if crd (kS K 0 4 ((i + 1 : Nat) : Int)) mo then 2 ^ i else 0) : Nat) : Int))), (0, .ref h4), (1, .ref h), (2, .int (iZ ((mo : Nat) : Int)))]) hx hb dX3_carryingSuns_48 hl (k := 1) rfl (iZ_inc _) (by decide) rfl (fun ls hl => ?_)
      refine lv_goto (tgt := 13) hx hb dX3_carryingSuns_51 (by decide) ?_
      exact ih1 (ls := ls) (i := i + 1) (q := q ||| (if crd (kS K 0 4 ((i + 1 : Nat) : Int)) mo then 2 ^ i else 0)) (sn := ((i + 1 : Nat) : Int)) (H := H) (locs := locs) (hS := hS) (hI := by exact ⟨by omega, by rw [snN, hI.2]; rfl⟩) (hl := lv_sub hl [0, 1, 2, 3, 4] rfl) (hP := hP) (hD := hD) (hn_ := by omega)

set_option maxHeartbeats 4000000 in
set_option maxRecDepth 100000 in
theorem c_X3_possibleSuns (l : Launch) (G : va_G) (Y : Nat → ClassId) (h4 ht va vb : Nat) (adt : Nat → Nat) (Kt : Kom) (h : Nat) (ad : Nat → Nat) (K : Kom) (hW : cWF K) (h5 ta tb : Nat) (M T : Nat → Int) (n9 : Int) (r : (0 ≤ n9 ∧ n9 ≤ 5) ∧ ∀ j : Nat, j < 5 → 0 ≤ M j ∧ M j ≤ 2 ∧ 0 ≤ T j ∧ T j ≤ 28) : Met l yX3_possibleSuns wsX3_possibleSuns ({ frames := 5, cells := 0, slots := 0, locals := 116 }) (mP G Y [.ref h4, .ref h, .ref h5] (qoW Y h4 ht va vb ++ (cmW Y ht adt Kt ++ (cmW Y h ad K ++ tlW Y h5 ta tb M T n9)))) (eQ G (qoW Y h4 ht va vb ++ (cmW Y ht adt Kt ++ (cmW Y h ad K ++ tlW Y h5 ta tb M T n9))) (some (.int (iZ ((snN (snH K M T n9.toNat) 9 : Nat) : Int)))) (fun u => qoW Y h4 ht va vb ++ (cmW Y ht adt u ++ (cmW Y h ad K ++ tlW Y h5 ta tb M T n9)))) 0 0 (fun q => q ∈ List.map Prod.fst (qoW Y h4 ht va vb ++ (cmW Y ht adt Kt ++ (cmW Y h ad K ++ tlW Y h5 ta tb M T n9)))) := by
  refine Met.ofW (cc := cX3_possibleSuns) (maxL := 5) (ret := (some .int)) (by decide) rfl ?_
  intro p e s m args below meth c s₁ B hml hv
  obtain ⟨rfl, hK, hP, hD0⟩ := hv
  have hx := B.exec
  have hb := B.bytes
  have hr := B.returns
  have hts := atoms_spec (ws := wsX3_possibleSuns) B.pre
  have hown : s.vm.findClass RX3 = some m.cls := findClass_of_methodNamed B.named
  have hlocks := B.notSynchronized
  have hFX0 : ∀ w ∈ wsX00, w ∈ wsX3_possibleSuns := by decide +kernel
  have hFX3 : ∀ w ∈ wsX30, w ∈ wsX3_possibleSuns := by decide +kernel
  have kf12 := (hts (.fieldLink RX3 12 "ShadeVotes$Question" "trial" "LShadeVotes$Commune;") (by decide +kernel))
  have kf93 := (hts (.fieldLink RX3 93 "ShadeVotes$Commune" "sunlight" "I") (by decide +kernel))
  have hD := va_D_self hD0
  have hS : va_S (fun q => q ∈ List.map Prod.fst (qoW Y h4 ht va vb ++ (cmW Y ht adt Kt ++ (cmW Y h ad K ++ tlW Y h5 ta tb M T n9)))) s.heap s.heap [] := va_S.rf
  obtain ⟨H, hHe⟩ : ∃ H, H = s.heap := ⟨_, rfl⟩
  rw [← hHe] at hP
  replace hS : va_S (fun q => q ∈ List.map Prod.fst (qoW Y h4 ht va vb ++ (cmW Y ht adt Kt ++ (cmW Y h ad K ++ tlW Y h5 ta tb M T n9)))) s.heap H [] := by rw [hHe]; exact hS
  have hl := lv_entry ([.ref h4, .ref h, .ref h5]) (n := 5) (Nat.le_of_ble_eq_true rfl)
  rw [lg_entry_eq]
  generalize (lg_sl ([.ref h4, .ref h, .ref h5]) ++ List.replicate (5 - (lg_sl ([.ref h4, .ref h, .ref h5])).length) Slot.unset).toArray = ls at hl ⊢
  replace hl : lv_has ls 5 [(0, .ref h4), (1, .ref h), (2, .ref h5)] := hl
  obtain ⟨locs, hLe⟩ : ∃ locs : List Loc, locs = [] := ⟨_, rfl⟩
  rw [← hLe] at hS ⊢
  have hW0 : ∀ {Q : State → Prop} {g : JFrame}, W p l e ({ frames := 5, cells := 0, slots := 0, locals := 116 }) s m [.ref h4, .ref h, .ref h5].toArray below meth c H locs 0 0 Q g → W p l e ({ frames := 5, cells := 0, slots := 0, locals := 116 }) s m [.ref h4, .ref h, .ref h5].toArray below meth c s.heap locs 0 0 Q g := fun h => by rw [← hHe]; exact h
  refine hW0 ?_
  clear hW0 hHe hLe
  have h0 := hW.1
  have hnc := hW.nc
  refine lv_aload_n hx hb dX3_possibleSuns_0 rfl (lv_at hl 0 rfl) ?_
  refine va_get (D := G) (ci := 3) (v := .ref ht) (C := RX3) (T := TX3) (N := 3) hx hb hts hFX3 hown hK.1 hP 0 rfl rfl 0 (by decide) kf12 (fun _ h9 => h9) rfl dX3_possibleSuns_1 ?_
  refine lv_aload_n hx hb dX3_possibleSuns_4 rfl (lv_at hl 1 rfl) ?_
  have hP := hP.sub (ws' := [(ht, .inr (0, [.int (iZ (Kt 0 0)), .int (iZ (Kt 0 1)), .int (iZ (Kt 0 2)), .int (iZ (Kt 0 3)), .int (iZ (Kt 0 4)), .int (iZ (Kt 0 5)), .int (iZ (Kt 0 6)), .ref (adt 1), .ref (adt 2), .ref (adt 3), .ref (adt 4), .ref (adt 5), .ref (adt 6), .ref (adt 7)])), (adt 1, .inl (Y 0, 6, .inl (aI (Kt 1)))), (adt 2, .inl (Y 0, 6, .inl (aI (Kt 2)))), (adt 3, .inl (Y 0, 6, .inl (aI (Kt 3)))), (adt 4, .inl (Y 1, 6, .inl (aI (Kt 4)))), (adt 5, .inl (Y 1, 6, .inl (aI (Kt 5)))), (adt 6, .inl (Y 0, 7, .inl (aI (Kt 6)))), (adt 7, .inl (Y 0, 7, .inl (aI (Kt 7)))), (h, .inr (0, [.int (iZ (K 0 0)), .int (iZ (K 0 1)), .int (iZ (K 0 2)), .int (iZ (K 0 3)), .int (iZ (K 0 4)), .int (iZ (K 0 5)), .int (iZ (K 0 6)), .ref (ad 1), .ref (ad 2), .ref (ad 3), .ref (ad 4), .ref (ad 5), .ref (ad 6), .ref (ad 7)])), (ad 1, .inl (Y 0, 6, .inl (aI (K 1)))), (ad 2, .inl (Y 0, 6, .inl (aI (K 2)))), (ad 3, .inl (Y 0, 6, .inl (aI (K 3)))), (ad 4, .inl (Y 1, 6, .inl (aI (K 4)))), (ad 5, .inl (Y 1, 6, .inl (aI (K 5)))), (ad 6, .inl (Y 0, 7, .inl (aI (K 6)))), (ad 7, .inl (Y 0, 7, .inl (aI (K 7))))] ++ [(h4, .inr (3, [.ref ht, .ref va, .ref vb])), (h5, .inr (4, [.ref ta, .ref tb, .int (iZ n9)])), (ta, .inl (Y 0, 5, .inl (aI M))), (tb, .inl (Y 0, 5, .inl (aI T)))]) [1, 2, 3, 4, 5, 6, 7, 8, 9, 10, 11, 12, 13, 14, 15, 16, 0, 17, 18, 19] rfl
  have hD := hD.sub (ws' := [(ht, .inr (0, [.int (iZ (Kt 0 0)), .int (iZ (Kt 0 1)), .int (iZ (Kt 0 2)), .int (iZ (Kt 0 3)), .int (iZ (Kt 0 4)), .int (iZ (Kt 0 5)), .int (iZ (Kt 0 6)), .ref (adt 1), .ref (adt 2), .ref (adt 3), .ref (adt 4), .ref (adt 5), .ref (adt 6), .ref (adt 7)])), (adt 1, .inl (Y 0, 6, .inl (aI (Kt 1)))), (adt 2, .inl (Y 0, 6, .inl (aI (Kt 2)))), (adt 3, .inl (Y 0, 6, .inl (aI (Kt 3)))), (adt 4, .inl (Y 1, 6, .inl (aI (Kt 4)))), (adt 5, .inl (Y 1, 6, .inl (aI (Kt 5)))), (adt 6, .inl (Y 0, 7, .inl (aI (Kt 6)))), (adt 7, .inl (Y 0, 7, .inl (aI (Kt 7)))), (h, .inr (0, [.int (iZ (K 0 0)), .int (iZ (K 0 1)), .int (iZ (K 0 2)), .int (iZ (K 0 3)), .int (iZ (K 0 4)), .int (iZ (K 0 5)), .int (iZ (K 0 6)), .ref (ad 1), .ref (ad 2), .ref (ad 3), .ref (ad 4), .ref (ad 5), .ref (ad 6), .ref (ad 7)])), (ad 1, .inl (Y 0, 6, .inl (aI (K 1)))), (ad 2, .inl (Y 0, 6, .inl (aI (K 2)))), (ad 3, .inl (Y 0, 6, .inl (aI (K 3)))), (ad 4, .inl (Y 1, 6, .inl (aI (K 4)))), (ad 5, .inl (Y 1, 6, .inl (aI (K 5)))), (ad 6, .inl (Y 0, 7, .inl (aI (K 6)))), (ad 7, .inl (Y 0, 7, .inl (aI (K 7))))] ++ [(h4, .inr (3, [.ref ht, .ref va, .ref vb])), (h5, .inr (4, [.ref ta, .ref tb, .int (iZ n9)])), (ta, .inl (Y 0, 5, .inl (aI M))), (tb, .inl (Y 0, 5, .inl (aI T)))]) [1, 2, 3, 4, 5, 6, 7, 8, 9, 10, 11, 12, 13, 14, 15, 16, 0, 17, 18, 19] (by decide) rfl
  refine mu_V (As := [.ref h]) (rest := []) (wc := [(ht, .inr (0, [.int (iZ (Kt 0 0)), .int (iZ (Kt 0 1)), .int (iZ (Kt 0 2)), .int (iZ (Kt 0 3)), .int (iZ (Kt 0 4)), .int (iZ (Kt 0 5)), .int (iZ (Kt 0 6)), .ref (adt 1), .ref (adt 2), .ref (adt 3), .ref (adt 4), .ref (adt 5), .ref (adt 6), .ref (adt 7)])), (adt 1, .inl (Y 0, 6, .inl (aI (Kt 1)))), (adt 2, .inl (Y 0, 6, .inl (aI (Kt 2)))), (adt 3, .inl (Y 0, 6, .inl (aI (Kt 3)))), (adt 4, .inl (Y 1, 6, .inl (aI (Kt 4)))), (adt 5, .inl (Y 1, 6, .inl (aI (Kt 5)))), (adt 6, .inl (Y 0, 7, .inl (aI (Kt 6)))), (adt 7, .inl (Y 0, 7, .inl (aI (Kt 7)))), (h, .inr (0, [.int (iZ (K 0 0)), .int (iZ (K 0 1)), .int (iZ (K 0 2)), .int (iZ (K 0 3)), .int (iZ (K 0 4)), .int (iZ (K 0 5)), .int (iZ (K 0 6)), .ref (ad 1), .ref (ad 2), .ref (ad 3), .ref (ad 4), .ref (ad 5), .ref (ad 6), .ref (ad 7)])), (ad 1, .inl (Y 0, 6, .inl (aI (K 1)))), (ad 2, .inl (Y 0, 6, .inl (aI (K 2)))), (ad 3, .inl (Y 0, 6, .inl (aI (K 3)))), (ad 4, .inl (Y 1, 6, .inl (aI (K 4)))), (ad 5, .inl (Y 1, 6, .inl (aI (K 5)))), (ad 6, .inl (Y 0, 7, .inl (aI (K 6)))), (ad 7, .inl (Y 0, 7, .inl (aI (K 7))))]) (wc' := cmW Y ht adt K ++ cmW Y h ad K) (F := [(h4, .inr (3, [.ref ht, .ref va, .ref vb])), (h5, .inr (4, [.ref ta, .ref tb, .int (iZ n9)])), (ta, .inl (Y 0, 5, .inl (aI M))), (tb, .inl (Y 0, 5, .inl (aI T)))]) ⟨hx, hb, hml, hown, hts⟩ (c_X0_become l G Y ht h adt ad Kt K hW) (cwV 1 hts gX3_possibleSuns_X0_become rfl rfl rfl (by decide +kernel) ⟨Nat.le_of_ble_eq_true rfl, Nat.le_of_ble_eq_true rfl⟩) hK hP hD hS 0 rfl rfl (Eq.refl [ht, adt 1, adt 2, adt 3, adt 4, adt 5, adt 6, adt 7, h, ad 1, ad 2, ad 3, ad 4, ad 5, ad 6, ad 7]) rfl hl.1 rfl (Nat.le_of_ble_eq_true rfl) dX3_possibleSuns_5 ⟨Nat.zero_le _, Nat.zero_le _⟩ (fun H locs hP hD hS => ?_)
  show W _ _ _ _ _ _ _ _ _ _ _ _ _ _ _ (F0 _ _ _ [])
  replace hP : va_P G vwCl [(ht, .inr (0, [.int (iZ (K 0 0)), .int (iZ (K 0 1)), .int (iZ (K 0 2)), .int (iZ (K 0 3)), .int (iZ (K 0 4)), .int (iZ (K 0 5)), .int (iZ (K 0 6)), .ref (adt 1), .ref (adt 2), .ref (adt 3), .ref (adt 4), .ref (adt 5), .ref (adt 6), .ref (adt 7)])), (adt 1, .inl (Y 0, 6, .inl (aI (K 1)))), (adt 2, .inl (Y 0, 6, .inl (aI (K 2)))), (adt 3, .inl (Y 0, 6, .inl (aI (K 3)))), (adt 4, .inl (Y 1, 6, .inl (aI (K 4)))), (adt 5, .inl (Y 1, 6, .inl (aI (K 5)))), (adt 6, .inl (Y 0, 7, .inl (aI (K 6)))), (adt 7, .inl (Y 0, 7, .inl (aI (K 7)))), (h, .inr (0, [.int (iZ (K 0 0)), .int (iZ (K 0 1)), .int (iZ (K 0 2)), .int (iZ (K 0 3)), .int (iZ (K 0 4)), .int (iZ (K 0 5)), .int (iZ (K 0 6)), .ref (ad 1), .ref (ad 2), .ref (ad 3), .ref (ad 4), .ref (ad 5), .ref (ad 6), .ref (ad 7)])), (ad 1, .inl (Y 0, 6, .inl (aI (K 1)))), (ad 2, .inl (Y 0, 6, .inl (aI (K 2)))), (ad 3, .inl (Y 0, 6, .inl (aI (K 3)))), (ad 4, .inl (Y 1, 6, .inl (aI (K 4)))), (ad 5, .inl (Y 1, 6, .inl (aI (K 5)))), (ad 6, .inl (Y 0, 7, .inl (aI (K 6)))), (ad 7, .inl (Y 0, 7, .inl (aI (K 7)))), (h4, .inr (3, [.ref ht, .ref va, .ref vb])), (h5, .inr (4, [.ref ta, .ref tb, .int (iZ n9)])), (ta, .inl (Y 0, 5, .inl (aI M))), (tb, .inl (Y 0, 5, .inl (aI T)))] H := hP
  replace hD : va_D _ [(ht, .inr (0, [.int (iZ (K 0 0)), .int (iZ (K 0 1)), .int (iZ (K 0 2)), .int (iZ (K 0 3)), .int (iZ (K 0 4)), .int (iZ (K 0 5)), .int (iZ (K 0 6)), .ref (adt 1), .ref (adt 2), .ref (adt 3), .ref (adt 4), .ref (adt 5), .ref (adt 6), .ref (adt 7)])), (adt 1, .inl (Y 0, 6, .inl (aI (K 1)))), (adt 2, .inl (Y 0, 6, .inl (aI (K 2)))), (adt 3, .inl (Y 0, 6, .inl (aI (K 3)))), (adt 4, .inl (Y 1, 6, .inl (aI (K 4)))), (adt 5, .inl (Y 1, 6, .inl (aI (K 5)))), (adt 6, .inl (Y 0, 7, .inl (aI (K 6)))), (adt 7, .inl (Y 0, 7, .inl (aI (K 7)))), (h, .inr (0, [.int (iZ (K 0 0)), .int (iZ (K 0 1)), .int (iZ (K 0 2)), .int (iZ (K 0 3)), .int (iZ (K 0 4)), .int (iZ (K 0 5)), .int (iZ (K 0 6)), .ref (ad 1), .ref (ad 2), .ref (ad 3), .ref (ad 4), .ref (ad 5), .ref (ad 6), .ref (ad 7)])), (ad 1, .inl (Y 0, 6, .inl (aI (K 1)))), (ad 2, .inl (Y 0, 6, .inl (aI (K 2)))), (ad 3, .inl (Y 0, 6, .inl (aI (K 3)))), (ad 4, .inl (Y 1, 6, .inl (aI (K 4)))), (ad 5, .inl (Y 1, 6, .inl (aI (K 5)))), (ad 6, .inl (Y 0, 7, .inl (aI (K 6)))), (ad 7, .inl (Y 0, 7, .inl (aI (K 7)))), (h4, .inr (3, [.ref ht, .ref va, .ref vb])), (h5, .inr (4, [.ref ta, .ref tb, .int (iZ n9)])), (ta, .inl (Y 0, 5, .inl (aI M))), (tb, .inl (Y 0, 5, .inl (aI T)))] := hD
  refine z_iconst hx hb dX3_possibleSuns_8 ?_
  refine lv_istore_n (lv' := [(3, .int (iZ 0)), (0, .ref h4), (1, .ref h), (2, .ref h5)]) hx hb dX3_possibleSuns_9 rfl hl (by decide) rfl (fun ls hl => ?_)
  refine z_iconst hx hb dX3_possibleSuns_10 ?_
  refine lv_istore (lv' := [(4, .int (iZ 1)), (3, .int (iZ 0)), (0, .ref h4), (1, .ref h), (2, .ref h5)]) hx hb dX3_possibleSuns_11 hl (by decide) rfl (fun ls hl => ?_)
  obtain ⟨i, q, sn, hI, hl1, hP1, hD1⟩ : ∃ (i : Nat) (q : Nat) (sn : Int), (i ≤ 9 ∧ q = snN (snH K M T n9.toNat) i) ∧ lv_has ls 5 [(4, .int (iZ ((i + 1 : Nat) : Int))), (3, .int (iZ ((q : Nat) : Int))), (0, .ref h4), (1, .ref h), (2, .ref h5)] ∧ va_P G vwCl [(ht, .inr (0, [.int (iZ (K 0 0)), .int (iZ (K 0 1)), .int (iZ (K 0 2)), .int (iZ (K 0 3)), .int (iZ sn), .int (iZ (K 0 5)), .int (iZ (K 0 6)), .ref (adt 1), .ref (adt 2), .ref (adt 3), .ref (adt 4), .ref (adt 5), .ref (adt 6), .ref (adt 7)])), (adt 1, .inl (Y 0, 6, .inl (aI (K 1)))), (adt 2, .inl (Y 0, 6, .inl (aI (K 2)))), (adt 3, .inl (Y 0, 6, .inl (aI (K 3)))), (adt 4, .inl (Y 1, 6, .inl (aI (K 4)))), (adt 5, .inl (Y 1, 6, .inl (aI (K 5)))), (adt 6, .inl (Y 0, 7, .inl (aI (K 6)))), (adt 7, .inl (Y 0, 7, .inl (aI (K 7)))), (h, .inr (0, [.int (iZ (K 0 0)), .int (iZ (K 0 1)), .int (iZ (K 0 2)), .int (iZ (K 0 3)), .int (iZ (K 0 4)), .int (iZ (K 0 5)), .int (iZ (K 0 6)), .ref (ad 1), .ref (ad 2), .ref (ad 3), .ref (ad 4), .ref (ad 5), .ref (ad 6), .ref (ad 7)])), (ad 1, .inl (Y 0, 6, .inl (aI (K 1)))), (ad 2, .inl (Y 0, 6, .inl (aI (K 2)))), (ad 3, .inl (Y 0, 6, .inl (aI (K 3)))), (ad 4, .inl (Y 1, 6, .inl (aI (K 4)))), (ad 5, .inl (Y 1, 6, .inl (aI (K 5)))), (ad 6, .inl (Y 0, 7, .inl (aI (K 6)))), (ad 7, .inl (Y 0, 7, .inl (aI (K 7)))), (h4, .inr (3, [.ref ht, .ref va, .ref vb])), (h5, .inr (4, [.ref ta, .ref tb, .int (iZ n9)])), (ta, .inl (Y 0, 5, .inl (aI M))), (tb, .inl (Y 0, 5, .inl (aI T)))] H ∧ va_D (fun q => q ∈ List.map Prod.fst (qoW Y h4 ht va vb ++ (cmW Y ht adt Kt ++ (cmW Y h ad K ++ tlW Y h5 ta tb M T n9)))) [(ht, .inr (0, [.int (iZ (K 0 0)), .int (iZ (K 0 1)), .int (iZ (K 0 2)), .int (iZ (K 0 3)), .int (iZ sn), .int (iZ (K 0 5)), .int (iZ (K 0 6)), .ref (adt 1), .ref (adt 2), .ref (adt 3), .ref (adt 4), .ref (adt 5), .ref (adt 6), .ref (adt 7)])), (adt 1, .inl (Y 0, 6, .inl (aI (K 1)))), (adt 2, .inl (Y 0, 6, .inl (aI (K 2)))), (adt 3, .inl (Y 0, 6, .inl (aI (K 3)))), (adt 4, .inl (Y 1, 6, .inl (aI (K 4)))), (adt 5, .inl (Y 1, 6, .inl (aI (K 5)))), (adt 6, .inl (Y 0, 7, .inl (aI (K 6)))), (adt 7, .inl (Y 0, 7, .inl (aI (K 7)))), (h, .inr (0, [.int (iZ (K 0 0)), .int (iZ (K 0 1)), .int (iZ (K 0 2)), .int (iZ (K 0 3)), .int (iZ (K 0 4)), .int (iZ (K 0 5)), .int (iZ (K 0 6)), .ref (ad 1), .ref (ad 2), .ref (ad 3), .ref (ad 4), .ref (ad 5), .ref (ad 6), .ref (ad 7)])), (ad 1, .inl (Y 0, 6, .inl (aI (K 1)))), (ad 2, .inl (Y 0, 6, .inl (aI (K 2)))), (ad 3, .inl (Y 0, 6, .inl (aI (K 3)))), (ad 4, .inl (Y 1, 6, .inl (aI (K 4)))), (ad 5, .inl (Y 1, 6, .inl (aI (K 5)))), (ad 6, .inl (Y 0, 7, .inl (aI (K 6)))), (ad 7, .inl (Y 0, 7, .inl (aI (K 7)))), (h4, .inr (3, [.ref ht, .ref va, .ref vb])), (h5, .inr (4, [.ref ta, .ref tb, .int (iZ n9)])), (ta, .inl (Y 0, 5, .inl (aI M))), (tb, .inl (Y 0, 5, .inl (aI T)))] := ⟨0, 0, K 0 4, by exact ⟨by omega, rfl⟩, lv_sub hl [0, 1, 2, 3, 4] rfl, hP, hD⟩
  clear hl hP hD
  have hl := hl1
  clear hl1
  have hP := hP1
  have hD := hD1
  clear hP1 hD1
  obtain ⟨n_, hn_⟩ : ∃ n_ : Nat, 9 - i < n_ := ⟨_, Nat.lt_succ_self _⟩
  induction n_ generalizing i q sn ls H locs with
  | zero => exact absurd hn_ (Nat.not_lt_zero _)
  | succ n_ ih1 =>
    refine lv_iload hx hb dX3_possibleSuns_13 (lv_at hl 0 rfl) ?_
    refine z_bipush hx hb dX3_possibleSuns_15 (by decide) ?_
    refine z_icmp_gt (tgt := 54) hx hb dX3_possibleSuns_17 (by decide) (by omega) (fun c_2 => ?_) (fun c_2 => ?_)
    · skip
      refine lv_iload_n hx hb dX3_possibleSuns_54 rfl (lv_at hl 1 rfl) ?_
      refine z_top (show ((q : Nat) : Int) = ((snN (snH K M T n9.toNat) 9 : Nat) : Int) from ?_) ?_
      · rw [hI.2, show i = 9 by omega]
      have hP9 : va_P G vwCl (qoW Y h4 ht va vb ++ (cmW Y ht adt (kS K 0 4 sn) ++ (cmW Y h ad K ++ tlW Y h5 ta tb M T n9))) H := hP.sub [16, 0, 1, 2, 3, 4, 5, 6, 7, 8, 9, 10, 11, 12, 13, 14, 15, 17, 18, 19] rfl
      exact W.iret (v := iZ ((snN (snH K M T n9.toNat) 9 : Nat) : Int)) hx hb hr (fun t9 ht9 _ => ⟨rfl, ⟨(kS K 0 4 sn), by rw [ht9]; exact hP9⟩, hS.F ht9⟩) hS.2.2 dX3_possibleSuns_55
    · skip
      refine lv_aload_n hx hb dX3_possibleSuns_20 rfl (lv_at hl 2 rfl) ?_
      refine va_get (D := G) (ci := 3) (v := .ref ht) (C := RX3) (T := TX3) (N := 3) hx hb hts hFX3 hown hK.1 hP 16 rfl rfl 0 (by decide) kf12 (fun _ h9 => h9) rfl dX3_possibleSuns_21 ?_
      refine lv_iload hx hb dX3_possibleSuns_24 (lv_at hl 0 rfl) ?_
      refine va_put (D := G) (ci := 0) (v := .int (iZ ((i + 1 : Nat) : Int))) (ty := .int) (C := RX0) (T := TX0) (N := 14) hx hb hts hFX0 tyX0 tyX0_ok nmX0 hown hK.1 hP hD hS 0 rfl rfl 4 (by decide) kf93 (fun _ h9 => h9) rfl (by decide +kernel) rfl rfl (Nat.le_of_ble_eq_true rfl) dX3_possibleSuns_26 (fun H locs hP hD hS => ?_)
      replace hP : va_P G vwCl [(ht, .inr (0, [.int (iZ (K 0 0)), .int (iZ (K 0 1)), .int (iZ (K 0 2)), .int (iZ (K 0 3)), .int (iZ ((i + 1 : Nat) : Int)), .int (iZ (K 0 5)), .int (iZ (K 0 6)), .ref (adt 1), .ref (adt 2), .ref (adt 3), .ref (adt 4), .ref (adt 5), .ref (adt 6), .ref (adt 7)])), (adt 1, .inl (Y 0, 6, .inl (aI (K 1)))), (adt 2, .inl (Y 0, 6, .inl (aI (K 2)))), (adt 3, .inl (Y 0, 6, .inl (aI (K 3)))), (adt 4, .inl (Y 1, 6, .inl (aI (K 4)))), (adt 5, .inl (Y 1, 6, .inl (aI (K 5)))), (adt 6, .inl (Y 0, 7, .inl (aI (K 6)))), (adt 7, .inl (Y 0, 7, .inl (aI (K 7)))), (h, .inr (0, [.int (iZ (K 0 0)), .int (iZ (K 0 1)), .int (iZ (K 0 2)), .int (iZ (K 0 3)), .int (iZ (K 0 4)), .int (iZ (K 0 5)), .int (iZ (K 0 6)), .ref (ad 1), .ref (ad 2), .ref (ad 3), .ref (ad 4), .ref (ad 5), .ref (ad 6), .ref (ad 7)])), (ad 1, .inl (Y 0, 6, .inl (aI (K 1)))), (ad 2, .inl (Y 0, 6, .inl (aI (K 2)))), (ad 3, .inl (Y 0, 6, .inl (aI (K 3)))), (ad 4, .inl (Y 1, 6, .inl (aI (K 4)))), (ad 5, .inl (Y 1, 6, .inl (aI (K 5)))), (ad 6, .inl (Y 0, 7, .inl (aI (K 6)))), (ad 7, .inl (Y 0, 7, .inl (aI (K 7)))), (h4, .inr (3, [.ref ht, .ref va, .ref vb])), (h5, .inr (4, [.ref ta, .ref tb, .int (iZ n9)])), (ta, .inl (Y 0, 5, .inl (aI M))), (tb, .inl (Y 0, 5, .inl (aI T)))] H := hP
      replace hD : va_D _ [(ht, .inr (0, [.int (iZ (K 0 0)), .int (iZ (K 0 1)), .int (iZ (K 0 2)), .int (iZ (K 0 3)), .int (iZ ((i + 1 : Nat) : Int)), .int (iZ (K 0 5)), .int (iZ (K 0 6)), .ref (adt 1), .ref (adt 2), .ref (adt 3), .ref (adt 4), .ref (adt 5), .ref (adt 6), .ref (adt 7)])), (adt 1, .inl (Y 0, 6, .inl (aI (K 1)))), (adt 2, .inl (Y 0, 6, .inl (aI (K 2)))), (adt 3, .inl (Y 0, 6, .inl (aI (K 3)))), (adt 4, .inl (Y 1, 6, .inl (aI (K 4)))), (adt 5, .inl (Y 1, 6, .inl (aI (K 5)))), (adt 6, .inl (Y 0, 7, .inl (aI (K 6)))), (adt 7, .inl (Y 0, 7, .inl (aI (K 7)))), (h, .inr (0, [.int (iZ (K 0 0)), .int (iZ (K 0 1)), .int (iZ (K 0 2)), .int (iZ (K 0 3)), .int (iZ (K 0 4)), .int (iZ (K 0 5)), .int (iZ (K 0 6)), .ref (ad 1), .ref (ad 2), .ref (ad 3), .ref (ad 4), .ref (ad 5), .ref (ad 6), .ref (ad 7)])), (ad 1, .inl (Y 0, 6, .inl (aI (K 1)))), (ad 2, .inl (Y 0, 6, .inl (aI (K 2)))), (ad 3, .inl (Y 0, 6, .inl (aI (K 3)))), (ad 4, .inl (Y 1, 6, .inl (aI (K 4)))), (ad 5, .inl (Y 1, 6, .inl (aI (K 5)))), (ad 6, .inl (Y 0, 7, .inl (aI (K 6)))), (ad 7, .inl (Y 0, 7, .inl (aI (K 7)))), (h4, .inr (3, [.ref ht, .ref va, .ref vb])), (h5, .inr (4, [.ref ta, .ref tb, .int (iZ n9)])), (ta, .inl (Y 0, 5, .inl (aI M))), (tb, .inl (Y 0, 5, .inl (aI T)))] := hD
      refine lv_iload_n hx hb dX3_possibleSuns_29 rfl (lv_at hl 1 rfl) ?_
      refine lv_aload_n hx hb dX3_possibleSuns_30 rfl (lv_at hl 4 rfl) ?_
      refine lv_aload_n hx hb dX3_possibleSuns_31 rfl (lv_at hl 2 rfl) ?_
      refine va_get (D := G) (ci := 3) (v := .ref ht) (C := RX3) (T := TX3) (N := 3) hx hb hts hFX3 hown hK.1 hP 16 rfl rfl 0 (by decide) kf12 (fun _ h9 => h9) rfl dX3_possibleSuns_32 ?_
      refine ro_V (As := [.ref ht]) (rest := [.int (iZ ((q : Nat) : Int))]) ⟨hx, hb, hml, hown, hts⟩ (c_X4_isSoIn l G Y h5 ta tb M T n9 ht adt (kS K 0 4 ((i + 1 : Nat) : Int)) (cWF_sun hW (by omega)) r) (cwV 1 hts gX3_possibleSuns_X4_isSoIn rfl rfl rfl (by decide +kernel) ⟨Nat.le_of_ble_eq_true rfl, Nat.le_of_ble_eq_true rfl⟩) hK (hP.sub (ws' := tlW Y h5 ta tb M T n9 ++ cmW Y ht adt (kS K 0 4 ((i + 1 : Nat) : Int))) [17, 18, 19, 0, 1, 2, 3, 4, 5, 6, 7] rfl) 0 rfl rfl rfl hl.1 rfl (Nat.le_of_ble_eq_true rfl) dX3_possibleSuns_35 ⟨Nat.zero_le _, Nat.zero_le _⟩ ?_
      refine ro_SN (As := [.int (iZ (bZ (soN (kS K 0 4 ((i + 1 : Nat) : Int)) M T (n9).toNat)))]) (rest := [.int (iZ ((q : Nat) : Int))]) ⟨hx, hb, hml, hown, hts⟩ (c_X6_asNumber l G Y (soN (kS K 0 4 ((i + 1 : Nat) : Int)) M T (n9).toNat)) ⟨va_cnB 1 hts gX3_possibleSuns_X6_asNumber_n96 rfl rfl rfl (nk_X3_96 hK.2) (hts (.initialized RX6) (by decide +kernel)) (by decide +kernel) ⟨Nat.le_of_ble_eq_true rfl, Nat.le_of_ble_eq_true rfl⟩, hts (.static yX6_asNumber) (by decide +kernel), trivial⟩ hK (hP.sub (ws' := []) [] rfl) rfl hl.1 rfl (Nat.le_of_ble_eq_true rfl) dX3_possibleSuns_38 ⟨Nat.zero_le _, Nat.zero_le _⟩ ?_
      refine lv_iload hx hb dX3_possibleSuns_41 (lv_at hl 0 rfl) ?_
      refine z_iconst hx hb dX3_possibleSuns_43 ?_
      refine z_isub hx hb dX3_possibleSuns_44 ?_
      refine z_ishlb (k := i) hx hb dX3_possibleSuns_45 (by omega) ?_
      refine z_ior (a := q) (b := (if soN (kS K 0 4 ((i + 1 : Nat) : Int)) M T n9.toNat then 2 ^ i else 0)) hx hb dX3_possibleSuns_46 rfl rfl ?_
      refine lv_istore_n (lv' := [(3, .int (iZ ((q ||| (if soN (kS K 0 4 ((i + 1 : Nat) : Int)) M T n9.toNat then 2 ^ i else 0) : Nat) : Int))), (4, .int (iZ ((i + 1 : Nat) : Int))), (0, .ref h4), (1, .ref h), (2, .ref h5)]) hx hb dX3_possibleSuns_47 rfl hl (by decide) rfl (fun ls hl => ?_)
      refine lv_iinc (v := iZ ((i + 1 + 1 : Nat) : Int)) (lv' := [(4, .int (iZ ((i + 1 + 1 : Nat) : Int))), (3, .int (iZ ((q ||| (if soN (kS K 0 4 ((i + 1 : Nat) : Int)) M T n9.toNat then 2 ^ i else 0) : Nat) : Int))), (0, .ref h4), (1, .ref h), (2, .ref h5)]) hx hb dX3_possibleSuns_48 hl (k := 1) rfl (iZ_inc _) (by decide) rfl (fun ls hl => ?_)
      refine lv_goto (tgt := 13) hx hb dX3_possibleSuns_51 (by decide) ?_
      exact ih1 (ls := ls) (i := i + 1) (q := q ||| (if soN (kS K 0 4 ((i + 1 : Nat) : Int)) M T n9.toNat then 2 ^ i else 0)) (sn := ((i + 1 : Nat) : Int)) (H := H) (locs := locs) (hS := hS) (hI := by exact ⟨by omega, by rw [snN, hI.2]; rfl⟩) (hl := lv_sub hl [0, 1, 2, 3, 4] rfl) (hP := hP) (hD := hD) (hn_ := by omega)

set_option maxHeartbeats 4000000 in
set_option maxRecDepth 100000 in
theorem c_X3_partingColumn (l : Launch) (G : va_G) (Y : Nat → ClassId) (h4 ht va vb : Nat) (h : Nat) (ad : Nat → Nat) (K : Kom) (hW : cWF K) (mo : Nat) (r : mo ≤ 2) : Met l yX3_partingColumn wsX3_partingColumn ({ frames := 5, cells := 0, slots := 0, locals := 117 }) (rP G Y [.ref h4, .ref h, .int (iZ ((mo : Nat) : Int))] (qoW Y h4 ht va vb ++ cmW Y h ad K)) (rQ (.int (iZ (hgC K mo)))) 0 0 (fun _ => False) := by
  refine Met.ofW (cc := cX3_partingColumn) (maxL := 4) (ret := (some .int)) (by decide) rfl ?_
  intro p e s m args below meth c s₁ B hml hv
  obtain ⟨rfl, hK, hP⟩ := hv
  have hx := B.exec
  have hb := B.bytes
  have hr := B.returns
  have hts := atoms_spec (ws := wsX3_partingColumn) B.pre
  have hown : s.vm.findClass RX3 = some m.cls := findClass_of_methodNamed B.named
  have hlocks := B.notSynchronized
  have hFX0 : ∀ w ∈ wsX00, w ∈ wsX3_partingColumn := by decide +kernel
  have kf106 := (hts (.fieldLink RX3 106 "ShadeVotes$Commune" "wide" "I") (by decide +kernel))
  have hl := lv_entry ([.ref h4, .ref h, .int (iZ ((mo : Nat) : Int))]) (n := 4) (Nat.le_of_ble_eq_true rfl)
  rw [lg_entry_eq]
  generalize (lg_sl ([.ref h4, .ref h, .int (iZ ((mo : Nat) : Int))]) ++ List.replicate (4 - (lg_sl ([.ref h4, .ref h, .int (iZ ((mo : Nat) : Int))])).length) Slot.unset).toArray = ls at hl ⊢
  replace hl : lv_has ls 4 [(0, .ref h4), (1, .ref h), (2, .int (iZ ((mo : Nat) : Int)))] := hl
  have h0 := hW.1
  have hnc := hW.nc
  refine z_iconst hx hb dX3_partingColumn_0 ?_
  refine lv_istore_n (lv' := [(3, .int (iZ 1)), (0, .ref h4), (1, .ref h), (2, .int (iZ ((mo : Nat) : Int)))]) hx hb dX3_partingColumn_1 rfl hl (by decide) rfl (fun ls hl => ?_)
  obtain ⟨i, hI, hl1⟩ : ∃ (i : Nat), ((i : Int) + 1 ≤ K 0 0 ∧ fnd (hgG K mo) i = -9) ∧ lv_has ls 4 [(3, .int (iZ ((i + 1 : Nat) : Int))), (0, .ref h4), (1, .ref h), (2, .int (iZ ((mo : Nat) : Int)))] := ⟨0, by exact ⟨by omega, rfl⟩, lv_sub hl [0, 1, 2, 3] rfl⟩
  clear hl
  have hl := hl1
  clear hl1
  obtain ⟨n_, hn_⟩ : ∃ n_ : Nat, (K 0 0).toNat - i < n_ := ⟨_, Nat.lt_succ_self _⟩
  induction n_ generalizing i ls with
  | zero => exact absurd hn_ (Nat.not_lt_zero _)
  | succ n_ ih1 =>
    refine lv_iload_n hx hb dX3_partingColumn_2 rfl (lv_at hl 0 rfl) ?_
    refine lv_aload_n hx hb dX3_partingColumn_3 rfl (lv_at hl 2 rfl) ?_
    refine va_get (D := G) (ci := 0) (v := .int (iZ (K 0 0))) (C := RX0) (T := TX0) (N := 14) hx hb hts hFX0 hown hK.1 hP 1 rfl rfl 0 (by decide) kf106 (fun _ h9 => h9) rfl dX3_partingColumn_4 ?_
    refine z_icmp_ge (tgt := 45) hx hb dX3_partingColumn_7 (by decide) (by omega) (fun c_2 => ?_) (fun c_2 => ?_)
    · skip
      refine z_bipush hx hb dX3_partingColumn_45 (by decide) ?_
      refine z_top (show (-9) = hgC K mo from ?_) ?_
      · unfold hgC; rw [show (K 0 0 - 1).toNat = i by omega, hI.2]; rfl
      exact W.iret (v := iZ (hgC K mo)) hx hb hr (fun t9 ht9 _ => ⟨rfl, ht9⟩) (fun q h => absurd h List.not_mem_nil) dX3_partingColumn_47
    · skip
      refine lv_aload_n hx hb dX3_partingColumn_10 rfl (lv_at hl 2 rfl) ?_
      refine lv_iload_n hx hb dX3_partingColumn_11 rfl (lv_at hl 3 rfl) ?_
      refine z_iconst hx hb dX3_partingColumn_12 ?_
      refine lv_iload_n hx hb dX3_partingColumn_13 rfl (lv_at hl 0 rfl) ?_
      refine z_iconst hx hb dX3_partingColumn_14 ?_
      refine z_isub hx hb dX3_partingColumn_15 ?_
      refine ro_V (As := [.int (iZ ((mo : Nat) : Int)), .int (iZ 0), .int (iZ (((i + 1 : Nat) : Int) - 1))]) (rest := []) ⟨hx, hb, hml, hown, hts⟩ (c_X0_isCarriedWithin l G Y h ad K hW mo 0 (((i + 1 : Nat) : Int) - 1) (by omega)) (cwV 3 hts gX3_partingColumn_X0_isCarriedWithin rfl rfl rfl (by decide +kernel) ⟨Nat.le_of_ble_eq_true rfl, Nat.le_of_ble_eq_true rfl⟩) hK (hP.sub (ws' := cmW Y h ad K) [1, 2, 3, 4, 5, 6, 7, 8] rfl) 0 rfl rfl rfl hl.1 rfl (Nat.le_of_ble_eq_true rfl) dX3_partingColumn_16 ⟨Nat.zero_le _, Nat.zero_le _⟩ ?_
      refine z_ifb_eq (tgt := 39) hx hb dX3_partingColumn_19 (by decide) (fun c_3 => ?_) (fun c_3 => ?_)
      · skip
        have c_3 := of_decide_eq_false c_3
        refine lv_iinc (v := iZ ((i + 1 + 1 : Nat) : Int)) (lv' := [(3, .int (iZ ((i + 1 + 1 : Nat) : Int))), (0, .ref h4), (1, .ref h), (2, .int (iZ ((mo : Nat) : Int)))]) hx hb dX3_partingColumn_39 hl (k := 0) rfl (iZ_inc _) (by decide) rfl (fun ls hl => ?_)
        refine lv_goto (tgt := 2) hx hb dX3_partingColumn_42 (by decide) ?_
        exact ih1 (ls := ls) (i := i + 1) (hI := by exact ⟨by omega, fnd_no hI.2 (by unfold hgG; first | (rw [decide_eq_false (by assumption), Bool.false_and]; done) | (rw [decide_eq_false (p := 0 < cdW K mo ((i + 1 : Nat) : Int) (K 0 0 - 1) (K 0 3).toNat) (by assumption), Bool.and_false]))⟩) (hl := lv_sub hl [0, 1, 2, 3] rfl) (hn_ := by omega)
      · skip
        have c_3 := of_decide_eq_true c_3
        refine lv_aload_n hx hb dX3_partingColumn_22 rfl (lv_at hl 2 rfl) ?_
        refine lv_iload_n hx hb dX3_partingColumn_23 rfl (lv_at hl 3 rfl) ?_
        refine lv_iload_n hx hb dX3_partingColumn_24 rfl (lv_at hl 0 rfl) ?_
        refine lv_aload_n hx hb dX3_partingColumn_25 rfl (lv_at hl 2 rfl) ?_
        refine va_get (D := G) (ci := 0) (v := .int (iZ (K 0 0))) (C := RX0) (T := TX0) (N := 14) hx hb hts hFX0 hown hK.1 hP 1 rfl rfl 0 (by decide) kf106 (fun _ h9 => h9) rfl dX3_partingColumn_26 ?_
        refine z_iconst hx hb dX3_partingColumn_29 ?_
        refine z_isub hx hb dX3_partingColumn_30 ?_
        refine ro_V (As := [.int (iZ ((mo : Nat) : Int)), .int (iZ ((i + 1 : Nat) : Int)), .int (iZ (K 0 0 - 1))]) (rest := []) ⟨hx, hb, hml, hown, hts⟩ (c_X0_isCarriedWithin l G Y h ad K hW mo ((i + 1 : Nat) : Int) (K 0 0 - 1) (by omega)) (cwV 3 hts gX3_partingColumn_X0_isCarriedWithin rfl rfl rfl (by decide +kernel) ⟨Nat.le_of_ble_eq_true rfl, Nat.le_of_ble_eq_true rfl⟩) hK (hP.sub (ws' := cmW Y h ad K) [1, 2, 3, 4, 5, 6, 7, 8] rfl) 0 rfl rfl rfl hl.1 rfl (Nat.le_of_ble_eq_true rfl) dX3_partingColumn_31 ⟨Nat.zero_le _, Nat.zero_le _⟩ ?_
        refine z_ifb_eq (tgt := 39) hx hb dX3_partingColumn_34 (by decide) (fun c_4 => ?_) (fun c_4 => ?_)
        · skip
          have c_4 := of_decide_eq_false c_4
          refine lv_iinc (v := iZ ((i + 1 + 1 : Nat) : Int)) (lv' := [(3, .int (iZ ((i + 1 + 1 : Nat) : Int))), (0, .ref h4), (1, .ref h), (2, .int (iZ ((mo : Nat) : Int)))]) hx hb dX3_partingColumn_39 hl (k := 0) rfl (iZ_inc _) (by decide) rfl (fun ls hl => ?_)
          refine lv_goto (tgt := 2) hx hb dX3_partingColumn_42 (by decide) ?_
          exact ih1 (ls := ls) (i := i + 1) (hI := by exact ⟨by omega, fnd_no hI.2 (by unfold hgG; first | (rw [decide_eq_false (by assumption), Bool.false_and]; done) | (rw [decide_eq_false (p := 0 < cdW K mo ((i + 1 : Nat) : Int) (K 0 0 - 1) (K 0 3).toNat) (by assumption), Bool.and_false]))⟩) (hl := lv_sub hl [0, 1, 2, 3] rfl) (hn_ := by omega)
        · skip
          have c_4 := of_decide_eq_true c_4
          refine lv_iload_n hx hb dX3_partingColumn_37 rfl (lv_at hl 0 rfl) ?_
          refine z_top (show ((i + 1 : Nat) : Int) = hgC K mo from ?_) ?_
          · unfold hgC; rw [fnd_at (n := (K 0 0 - 1).toNat) hI.2 (by unfold hgG; rw [decide_eq_true (by assumption), decide_eq_true (by assumption)]; rfl) (by omega), if_pos (by omega)]; omega
          exact W.iret (v := iZ (hgC K mo)) hx hb hr (fun t9 ht9 _ => ⟨rfl, ht9⟩) (fun q h => absurd h List.not_mem_nil) dX3_partingColumn_38

set_option maxHeartbeats 4000000 in
set_option maxRecDepth 100000 in
theorem c_X3_whoSways (l : Launch) (G : va_G) (Y : Nat → ClassId) (h4 ht va vb : Nat) (h : Nat) (ad : Nat → Nat) (K : Kom) (hW : cWF K) (mo : Nat) (r : mo ≤ 2) : Met l yX3_whoSways wsX3_whoSways ({ frames := 4, cells := 0, slots := 0, locals := 94 }) (rP G Y [.ref h4, .ref h, .int (iZ ((mo : Nat) : Int))] (qoW Y h4 ht va vb ++ cmW Y h ad K)) (rQ (.int (iZ ((swN K mo (K 0 3).toNat : Nat) : Int)))) 0 0 (fun _ => False) := by
  refine Met.ofW (cc := cX3_whoSways) (maxL := 7) (ret := (some .int)) (by decide) rfl ?_
  intro p e s m args below meth c s₁ B hml hv
  obtain ⟨rfl, hK, hP⟩ := hv
  have hx := B.exec
  have hb := B.bytes
  have hr := B.returns
  have hts := atoms_spec (ws := wsX3_whoSways) B.pre
  have hown : s.vm.findClass RX3 = some m.cls := findClass_of_methodNamed B.named
  have hlocks := B.notSynchronized
  have hFX0 : ∀ w ∈ wsX00, w ∈ wsX3_whoSways := by decide +kernel
  have kf25 := (hts (.fieldLink RX3 25 "ShadeVotes$Commune" "people" "I") (by decide +kernel))
  have hl := lv_entry ([.ref h4, .ref h, .int (iZ ((mo : Nat) : Int))]) (n := 7) (Nat.le_of_ble_eq_true rfl)
  rw [lg_entry_eq]
  generalize (lg_sl ([.ref h4, .ref h, .int (iZ ((mo : Nat) : Int))]) ++ List.replicate (7 - (lg_sl ([.ref h4, .ref h, .int (iZ ((mo : Nat) : Int))])).length) Slot.unset).toArray = ls at hl ⊢
  replace hl : lv_has ls 7 [(0, .ref h4), (1, .ref h), (2, .int (iZ ((mo : Nat) : Int)))] := hl
  have h0 := hW.1
  have hnc := hW.nc
  refine lv_aload_n hx hb dX3_whoSways_0 rfl (lv_at hl 1 rfl) ?_
  refine lv_iload_n hx hb dX3_whoSways_1 rfl (lv_at hl 2 rfl) ?_
  refine z_iconst hx hb dX3_whoSways_2 ?_
  refine ro_V (As := [.int (iZ ((mo : Nat) : Int)), .int (iZ 1)]) (rest := []) ⟨hx, hb, hml, hown, hts⟩ (c_X0_weightBehind l G Y h ad K hW mo 1 (by omega)) (cwV 2 hts gX3_whoSways_X0_weightBehind rfl rfl rfl (by decide +kernel) ⟨Nat.le_of_ble_eq_true rfl, Nat.le_of_ble_eq_true rfl⟩) hK (hP.sub (ws' := cmW Y h ad K) [1, 2, 3, 4, 5, 6, 7, 8] rfl) 0 rfl rfl rfl hl.1 rfl (Nat.le_of_ble_eq_true rfl) dX3_whoSways_3 ⟨Nat.zero_le _, Nat.zero_le _⟩ ?_
  have hb_1 := wb_in hW mo 1
  refine lv_aload_n hx hb dX3_whoSways_6 rfl (lv_at hl 1 rfl) ?_
  refine lv_iload_n hx hb dX3_whoSways_7 rfl (lv_at hl 2 rfl) ?_
  refine z_iconst hx hb dX3_whoSways_8 ?_
  refine ro_V (As := [.int (iZ ((mo : Nat) : Int)), .int (iZ (-1))]) (rest := [.int (iZ (wb K mo 1))]) ⟨hx, hb, hml, hown, hts⟩ (c_X0_weightBehind l G Y h ad K hW mo (-1) (by omega)) (cwV 2 hts gX3_whoSways_X0_weightBehind rfl rfl rfl (by decide +kernel) ⟨Nat.le_of_ble_eq_true rfl, Nat.le_of_ble_eq_true rfl⟩) hK (hP.sub (ws' := cmW Y h ad K) [1, 2, 3, 4, 5, 6, 7, 8] rfl) 0 rfl rfl rfl hl.1 rfl (Nat.le_of_ble_eq_true rfl) dX3_whoSways_9 ⟨Nat.zero_le _, Nat.zero_le _⟩ ?_
  have hb_2 := wb_in hW mo (-1)
  refine z_isub hx hb dX3_whoSways_12 ?_
  refine lv_istore_n (lv' := [(3, .int (iZ (wb K mo 1 - wb K mo (-1)))), (0, .ref h4), (1, .ref h), (2, .int (iZ ((mo : Nat) : Int)))]) hx hb dX3_whoSways_13 rfl hl (by decide) rfl (fun ls hl => ?_)
  refine z_iconst hx hb dX3_whoSways_14 ?_
  refine lv_istore (lv' := [(4, .int (iZ 0)), (3, .int (iZ (wb K mo 1 - wb K mo (-1)))), (0, .ref h4), (1, .ref h), (2, .int (iZ ((mo : Nat) : Int)))]) hx hb dX3_whoSways_15 hl (by decide) rfl (fun ls hl => ?_)
  refine z_iconst hx hb dX3_whoSways_17 ?_
  refine lv_istore (lv' := [(5, .int (iZ 0)), (4, .int (iZ 0)), (3, .int (iZ (wb K mo 1 - wb K mo (-1)))), (0, .ref h4), (1, .ref h), (2, .int (iZ ((mo : Nat) : Int)))]) hx hb dX3_whoSways_18 hl (by decide) rfl (fun ls hl => ?_)
  obtain ⟨i, q, hI, hl1⟩ : ∃ (i : Nat) (q : Nat), (q = swN K mo i ∧ (i : Int) ≤ K 0 3) ∧ lv_has ls 7 [(5, .int (iZ ((i : Nat) : Int))), (4, .int (iZ ((q : Nat) : Int))), (3, .int (iZ (wb K mo 1 - wb K mo (-1)))), (0, .ref h4), (1, .ref h), (2, .int (iZ ((mo : Nat) : Int)))] := ⟨0, 0, by exact ⟨rfl, by omega⟩, lv_sub hl [0, 1, 2, 3, 4, 5] rfl⟩
  clear hl
  have hl := hl1
  clear hl1
  obtain ⟨n_, hn_⟩ : ∃ n_ : Nat, (K 0 3).toNat - i < n_ := ⟨_, Nat.lt_succ_self _⟩
  induction n_ generalizing i q ls with
  | zero => exact absurd hn_ (Nat.not_lt_zero _)
  | succ n_ ih3 =>
    refine lv_iload hx hb dX3_whoSways_20 (lv_at hl 0 rfl) ?_
    refine lv_aload_n hx hb dX3_whoSways_22 rfl (lv_at hl 4 rfl) ?_
    refine va_get (D := G) (ci := 0) (v := .int (iZ (K 0 3))) (C := RX0) (T := TX0) (N := 14) hx hb hts hFX0 hown hK.1 hP 1 rfl rfl 3 (by decide) kf25 (fun _ h9 => h9) rfl dX3_whoSways_23 ?_
    refine z_icmp_ge (tgt := 77) hx hb dX3_whoSways_26 (by decide) (by omega) (fun c_4 => ?_) (fun c_4 => ?_)
    · skip
      refine lv_iload hx hb dX3_whoSways_77 (lv_at hl 1 rfl) ?_
      refine z_top (show ((q : Nat) : Int) = ((swN K mo (K 0 3).toNat : Nat) : Int) from ?_) ?_
      · rw [hI.1, show (K 0 3).toNat = i by omega]
      exact W.iret (v := iZ ((swN K mo (K 0 3).toNat : Nat) : Int)) hx hb hr (fun t9 ht9 _ => ⟨rfl, ht9⟩) (fun q h => absurd h List.not_mem_nil) dX3_whoSways_79
    · skip
      refine lv_iload_n hx hb dX3_whoSways_29 rfl (lv_at hl 2 rfl) ?_
      refine lv_aload_n hx hb dX3_whoSways_30 rfl (lv_at hl 4 rfl) ?_
      refine lv_iload hx hb dX3_whoSways_31 (lv_at hl 0 rfl) ?_
      refine lv_iload_n hx hb dX3_whoSways_33 rfl (lv_at hl 5 rfl) ?_
      refine ro_V (As := [.int (iZ ((i : Nat) : Int)), .int (iZ ((mo : Nat) : Int))]) (rest := [.int (iZ (wb K mo 1 - wb K mo (-1)))]) ⟨hx, hb, hml, hown, hts⟩ (c_X0_voteOf l G Y h ad K hW i mo (by omega)) (cwV 2 hts gX3_whoSways_X0_voteOf rfl rfl rfl (by decide +kernel) ⟨Nat.le_of_ble_eq_true rfl, Nat.le_of_ble_eq_true rfl⟩) hK (hP.sub (ws' := cmW Y h ad K) [1, 2, 3, 4, 5, 6, 7, 8] rfl) 0 rfl rfl rfl hl.1 rfl (Nat.le_of_ble_eq_true rfl) dX3_whoSways_34 ⟨Nat.zero_le _, Nat.zero_le _⟩ ?_
      have hb_5 := vt_in hW i mo (by omega)
      refine z_isub hx hb dX3_whoSways_37 ?_
      refine lv_istore (lv' := [(6, .int (iZ ((wb K mo 1 - wb K mo (-1)) - vt K i mo))), (5, .int (iZ ((i : Nat) : Int))), (4, .int (iZ ((q : Nat) : Int))), (3, .int (iZ (wb K mo 1 - wb K mo (-1)))), (0, .ref h4), (1, .ref h), (2, .int (iZ ((mo : Nat) : Int)))]) hx hb dX3_whoSways_38 hl (by decide) rfl (fun ls hl => ?_)
      refine lv_iload hx hb dX3_whoSways_40 (lv_at hl 0 rfl) ?_
      refine z_if_le (tgt := 49) hx hb dX3_whoSways_42 (by decide) (by omega) (fun c_6 => ?_) (fun c_6 => ?_)
      · skip
        refine z_iconst hx hb dX3_whoSways_49 ?_
        refine lv_iload_n hx hb dX3_whoSways_50 rfl (lv_at hl 3 rfl) ?_
        refine z_if_le (tgt := 58) hx hb dX3_whoSways_51 (by decide) (by omega) (fun c_7 => ?_) (fun c_7 => ?_)
        · skip
          refine z_iconst hx hb dX3_whoSways_58 ?_
          refine z_icmp_eq (tgt := 71) hx hb dX3_whoSways_59 (by decide) (by omega) (fun c_8 => ?_) (fun c_8 => ?_)
          · skip
            refine lv_iinc (v := iZ ((i + 1 : Nat) : Int)) (lv' := [(5, .int (iZ ((i + 1 : Nat) : Int))), (6, .int (iZ ((wb K mo 1 - wb K mo (-1)) - vt K i mo))), (4, .int (iZ ((q : Nat) : Int))), (3, .int (iZ (wb K mo 1 - wb K mo (-1)))), (0, .ref h4), (1, .ref h), (2, .int (iZ ((mo : Nat) : Int)))]) hx hb dX3_whoSways_71 hl (k := 1) rfl (iZ_inc _) (by decide) rfl (fun ls hl => ?_)
            refine lv_goto (tgt := 20) hx hb dX3_whoSways_74 (by decide) ?_
            exact ih3 (ls := ls) (i := i + 1) (q := q) (hI := by first | (exfalso; omega) | exact ⟨by rw [swN_t (by omega), hI.1], by omega⟩ | exact ⟨by rw [swN_f (by omega), hI.1], by omega⟩) (hl := lv_sub hl [0, 2, 3, 4, 5, 6] rfl) (hn_ := by omega)
          · skip
            refine lv_iload hx hb dX3_whoSways_62 (lv_at hl 2 rfl) ?_
            refine z_iconst hx hb dX3_whoSways_64 ?_
            refine lv_iload hx hb dX3_whoSways_65 (lv_at hl 1 rfl) ?_
            refine z_ishl1 (k := i) hx hb dX3_whoSways_67 (by omega) ?_
            refine z_ior (a := q) (b := (2 ^ i)) hx hb dX3_whoSways_68 rfl rfl ?_
            refine lv_istore (lv' := [(4, .int (iZ ((q ||| (2 ^ i) : Nat) : Int))), (6, .int (iZ ((wb K mo 1 - wb K mo (-1)) - vt K i mo))), (5, .int (iZ ((i : Nat) : Int))), (3, .int (iZ (wb K mo 1 - wb K mo (-1)))), (0, .ref h4), (1, .ref h), (2, .int (iZ ((mo : Nat) : Int)))]) hx hb dX3_whoSways_69 hl (by decide) rfl (fun ls hl => ?_)
            refine lv_iinc (v := iZ ((i + 1 : Nat) : Int)) (lv' := [(5, .int (iZ ((i + 1 : Nat) : Int))), (4, .int (iZ ((q ||| (2 ^ i) : Nat) : Int))), (6, .int (iZ ((wb K mo 1 - wb K mo (-1)) - vt K i mo))), (3, .int (iZ (wb K mo 1 - wb K mo (-1)))), (0, .ref h4), (1, .ref h), (2, .int (iZ ((mo : Nat) : Int)))]) hx hb dX3_whoSways_71 hl (k := 2) rfl (iZ_inc _) (by decide) rfl (fun ls hl => ?_)
            refine lv_goto (tgt := 20) hx hb dX3_whoSways_74 (by decide) ?_
            exact ih3 (ls := ls) (i := i + 1) (q := q ||| (2 ^ i)) (hI := by first | (exfalso; omega) | exact ⟨by rw [swN_t (by omega), hI.1], by omega⟩ | exact ⟨by rw [swN_f (by omega), hI.1], by omega⟩) (hl := lv_sub hl [0, 1, 3, 4, 5, 6] rfl) (hn_ := by omega)
        · skip
          refine z_iconst hx hb dX3_whoSways_54 ?_
          refine lv_goto (tgt := 59) hx hb dX3_whoSways_55 (by decide) ?_
          refine z_icmp_eq (tgt := 71) hx hb dX3_whoSways_59 (by decide) (by omega) (fun c_9 => ?_) (fun c_9 => ?_)
          · skip
            refine lv_iinc (v := iZ ((i + 1 : Nat) : Int)) (lv' := [(5, .int (iZ ((i + 1 : Nat) : Int))), (6, .int (iZ ((wb K mo 1 - wb K mo (-1)) - vt K i mo))), (4, .int (iZ ((q : Nat) : Int))), (3, .int (iZ (wb K mo 1 - wb K mo (-1)))), (0, .ref h4), (1, .ref h), (2, .int (iZ ((mo : Nat) : Int)))]) hx hb dX3_whoSways_71 hl (k := 1) rfl (iZ_inc _) (by decide) rfl (fun ls hl => ?_)
            refine lv_goto (tgt := 20) hx hb dX3_whoSways_74 (by decide) ?_
            exact ih3 (ls := ls) (i := i + 1) (q := q) (hI := by first | (exfalso; omega) | exact ⟨by rw [swN_t (by omega), hI.1], by omega⟩ | exact ⟨by rw [swN_f (by omega), hI.1], by omega⟩) (hl := lv_sub hl [0, 2, 3, 4, 5, 6] rfl) (hn_ := by omega)
          · skip
            refine lv_iload hx hb dX3_whoSways_62 (lv_at hl 2 rfl) ?_
            refine z_iconst hx hb dX3_whoSways_64 ?_
            refine lv_iload hx hb dX3_whoSways_65 (lv_at hl 1 rfl) ?_
            refine z_ishl1 (k := i) hx hb dX3_whoSways_67 (by omega) ?_
            refine z_ior (a := q) (b := (2 ^ i)) hx hb dX3_whoSways_68 rfl rfl ?_
            refine lv_istore (lv' := [(4, .int (iZ ((q ||| (2 ^ i) : Nat) : Int))), (6, .int (iZ ((wb K mo 1 - wb K mo (-1)) - vt K i mo))), (5, .int (iZ ((i : Nat) : Int))), (3, .int (iZ (wb K mo 1 - wb K mo (-1)))), (0, .ref h4), (1, .ref h), (2, .int (iZ ((mo : Nat) : Int)))]) hx hb dX3_whoSways_69 hl (by decide) rfl (fun ls hl => ?_)
            refine lv_iinc (v := iZ ((i + 1 : Nat) : Int)) (lv' := [(5, .int (iZ ((i + 1 : Nat) : Int))), (4, .int (iZ ((q ||| (2 ^ i) : Nat) : Int))), (6, .int (iZ ((wb K mo 1 - wb K mo (-1)) - vt K i mo))), (3, .int (iZ (wb K mo 1 - wb K mo (-1)))), (0, .ref h4), (1, .ref h), (2, .int (iZ ((mo : Nat) : Int)))]) hx hb dX3_whoSways_71 hl (k := 2) rfl (iZ_inc _) (by decide) rfl (fun ls hl => ?_)
            refine lv_goto (tgt := 20) hx hb dX3_whoSways_74 (by decide) ?_
            exact ih3 (ls := ls) (i := i + 1) (q := q ||| (2 ^ i)) (hI := by first | (exfalso; omega) | exact ⟨by rw [swN_t (by omega), hI.1], by omega⟩ | exact ⟨by rw [swN_f (by omega), hI.1], by omega⟩) (hl := lv_sub hl [0, 1, 3, 4, 5, 6] rfl) (hn_ := by omega)
      · skip
        refine z_iconst hx hb dX3_whoSways_45 ?_
        refine lv_goto (tgt := 50) hx hb dX3_whoSways_46 (by decide) ?_
        refine lv_iload_n hx hb dX3_whoSways_50 rfl (lv_at hl 3 rfl) ?_
        refine z_if_le (tgt := 58) hx hb dX3_whoSways_51 (by decide) (by omega) (fun c_10 => ?_) (fun c_10 => ?_)
        · skip
          refine z_iconst hx hb dX3_whoSways_58 ?_
          refine z_icmp_eq (tgt := 71) hx hb dX3_whoSways_59 (by decide) (by omega) (fun c_11 => ?_) (fun c_11 => ?_)
          · skip
            refine lv_iinc (v := iZ ((i + 1 : Nat) : Int)) (lv' := [(5, .int (iZ ((i + 1 : Nat) : Int))), (6, .int (iZ ((wb K mo 1 - wb K mo (-1)) - vt K i mo))), (4, .int (iZ ((q : Nat) : Int))), (3, .int (iZ (wb K mo 1 - wb K mo (-1)))), (0, .ref h4), (1, .ref h), (2, .int (iZ ((mo : Nat) : Int)))]) hx hb dX3_whoSways_71 hl (k := 1) rfl (iZ_inc _) (by decide) rfl (fun ls hl => ?_)
            refine lv_goto (tgt := 20) hx hb dX3_whoSways_74 (by decide) ?_
            exact ih3 (ls := ls) (i := i + 1) (q := q) (hI := by first | (exfalso; omega) | exact ⟨by rw [swN_t (by omega), hI.1], by omega⟩ | exact ⟨by rw [swN_f (by omega), hI.1], by omega⟩) (hl := lv_sub hl [0, 2, 3, 4, 5, 6] rfl) (hn_ := by omega)
          · skip
            refine lv_iload hx hb dX3_whoSways_62 (lv_at hl 2 rfl) ?_
            refine z_iconst hx hb dX3_whoSways_64 ?_
            refine lv_iload hx hb dX3_whoSways_65 (lv_at hl 1 rfl) ?_
            refine z_ishl1 (k := i) hx hb dX3_whoSways_67 (by omega) ?_
            refine z_ior (a := q) (b := (2 ^ i)) hx hb dX3_whoSways_68 rfl rfl ?_
            refine lv_istore (lv' := [(4, .int (iZ ((q ||| (2 ^ i) : Nat) : Int))), (6, .int (iZ ((wb K mo 1 - wb K mo (-1)) - vt K i mo))), (5, .int (iZ ((i : Nat) : Int))), (3, .int (iZ (wb K mo 1 - wb K mo (-1)))), (0, .ref h4), (1, .ref h), (2, .int (iZ ((mo : Nat) : Int)))]) hx hb dX3_whoSways_69 hl (by decide) rfl (fun ls hl => ?_)
            refine lv_iinc (v := iZ ((i + 1 : Nat) : Int)) (lv' := [(5, .int (iZ ((i + 1 : Nat) : Int))), (4, .int (iZ ((q ||| (2 ^ i) : Nat) : Int))), (6, .int (iZ ((wb K mo 1 - wb K mo (-1)) - vt K i mo))), (3, .int (iZ (wb K mo 1 - wb K mo (-1)))), (0, .ref h4), (1, .ref h), (2, .int (iZ ((mo : Nat) : Int)))]) hx hb dX3_whoSways_71 hl (k := 2) rfl (iZ_inc _) (by decide) rfl (fun ls hl => ?_)
            refine lv_goto (tgt := 20) hx hb dX3_whoSways_74 (by decide) ?_
            exact ih3 (ls := ls) (i := i + 1) (q := q ||| (2 ^ i)) (hI := by first | (exfalso; omega) | exact ⟨by rw [swN_t (by omega), hI.1], by omega⟩ | exact ⟨by rw [swN_f (by omega), hI.1], by omega⟩) (hl := lv_sub hl [0, 1, 3, 4, 5, 6] rfl) (hn_ := by omega)
        · skip
          refine z_iconst hx hb dX3_whoSways_54 ?_
          refine lv_goto (tgt := 59) hx hb dX3_whoSways_55 (by decide) ?_
          refine z_icmp_eq (tgt := 71) hx hb dX3_whoSways_59 (by decide) (by omega) (fun c_12 => ?_) (fun c_12 => ?_)
          · skip
            refine lv_iinc (v := iZ ((i + 1 : Nat) : Int)) (lv' := [(5, .int (iZ ((i + 1 : Nat) : Int))), (6, .int (iZ ((wb K mo 1 - wb K mo (-1)) - vt K i mo))), (4, .int (iZ ((q : Nat) : Int))), (3, .int (iZ (wb K mo 1 - wb K mo (-1)))), (0, .ref h4), (1, .ref h), (2, .int (iZ ((mo : Nat) : Int)))]) hx hb dX3_whoSways_71 hl (k := 1) rfl (iZ_inc _) (by decide) rfl (fun ls hl => ?_)
            refine lv_goto (tgt := 20) hx hb dX3_whoSways_74 (by decide) ?_
            exact ih3 (ls := ls) (i := i + 1) (q := q) (hI := by first | (exfalso; omega) | exact ⟨by rw [swN_t (by omega), hI.1], by omega⟩ | exact ⟨by rw [swN_f (by omega), hI.1], by omega⟩) (hl := lv_sub hl [0, 2, 3, 4, 5, 6] rfl) (hn_ := by omega)
          · skip
            refine lv_iload hx hb dX3_whoSways_62 (lv_at hl 2 rfl) ?_
            refine z_iconst hx hb dX3_whoSways_64 ?_
            refine lv_iload hx hb dX3_whoSways_65 (lv_at hl 1 rfl) ?_
            refine z_ishl1 (k := i) hx hb dX3_whoSways_67 (by omega) ?_
            refine z_ior (a := q) (b := (2 ^ i)) hx hb dX3_whoSways_68 rfl rfl ?_
            refine lv_istore (lv' := [(4, .int (iZ ((q ||| (2 ^ i) : Nat) : Int))), (6, .int (iZ ((wb K mo 1 - wb K mo (-1)) - vt K i mo))), (5, .int (iZ ((i : Nat) : Int))), (3, .int (iZ (wb K mo 1 - wb K mo (-1)))), (0, .ref h4), (1, .ref h), (2, .int (iZ ((mo : Nat) : Int)))]) hx hb dX3_whoSways_69 hl (by decide) rfl (fun ls hl => ?_)
            refine lv_iinc (v := iZ ((i + 1 : Nat) : Int)) (lv' := [(5, .int (iZ ((i + 1 : Nat) : Int))), (4, .int (iZ ((q ||| (2 ^ i) : Nat) : Int))), (6, .int (iZ ((wb K mo 1 - wb K mo (-1)) - vt K i mo))), (3, .int (iZ (wb K mo 1 - wb K mo (-1)))), (0, .ref h4), (1, .ref h), (2, .int (iZ ((mo : Nat) : Int)))]) hx hb dX3_whoSways_71 hl (k := 2) rfl (iZ_inc _) (by decide) rfl (fun ls hl => ?_)
            refine lv_goto (tgt := 20) hx hb dX3_whoSways_74 (by decide) ?_
            exact ih3 (ls := ls) (i := i + 1) (q := q ||| (2 ^ i)) (hI := by first | (exfalso; omega) | exact ⟨by rw [swN_t (by omega), hI.1], by omega⟩ | exact ⟨by rw [swN_f (by omega), hI.1], by omega⟩) (hl := lv_sub hl [0, 1, 3, 4, 5, 6] rfl) (hn_ := by omega)

set_option maxHeartbeats 4000000 in
set_option maxRecDepth 100000 in
theorem c_X3_nearestShade (l : Launch) (G : va_G) (Y : Nat → ClassId) (h4 ht va vb : Nat) (h : Nat) (ad : Nat → Nat) (K : Kom) (hW : cWF K) (a : Int) (r : 0 ≤ a ∧ a ≤ 19) : Met l yX3_nearestShade wsX3_nearestShade ({ frames := 2, cells := 0, slots := 0, locals := 46 }) (rP G Y [.ref h4, .ref h, .int (iZ a)] (qoW Y h4 ht va vb ++ cmW Y h ad K)) (rQ (.int (iZ ((nsS K a (K 0 0 * K 0 1).toNat).1)))) 0 0 (fun _ => False) := by
  refine Met.ofW (cc := cX3_nearestShade) (maxL := 7) (ret := (some .int)) (by decide) rfl ?_
  intro p e s m args below meth c s₁ B hml hv
  obtain ⟨rfl, hK, hP⟩ := hv
  have hx := B.exec
  have hb := B.bytes
  have hr := B.returns
  have hts := atoms_spec (ws := wsX3_nearestShade) B.pre
  have hown : s.vm.findClass RX3 = some m.cls := findClass_of_methodNamed B.named
  have hlocks := B.notSynchronized
  have hl := lv_entry ([.ref h4, .ref h, .int (iZ a)]) (n := 7) (Nat.le_of_ble_eq_true rfl)
  rw [lg_entry_eq]
  generalize (lg_sl ([.ref h4, .ref h, .int (iZ a)]) ++ List.replicate (7 - (lg_sl ([.ref h4, .ref h, .int (iZ a)])).length) Slot.unset).toArray = ls at hl ⊢
  replace hl : lv_has ls 7 [(0, .ref h4), (1, .ref h), (2, .int (iZ a))] := hl
  have h0 := hW.1
  have hnc := hW.nc
  refine z_bipush hx hb dX3_nearestShade_0 (by decide) ?_
  refine lv_istore_n (lv' := [(3, .int (iZ (-9))), (0, .ref h4), (1, .ref h), (2, .int (iZ a))]) hx hb dX3_nearestShade_2 rfl hl (by decide) rfl (fun ls hl => ?_)
  refine lv_aload_n hx hb dX3_nearestShade_3 rfl (lv_at hl 2 rfl) ?_
  refine ro_V (As := []) (rest := []) ⟨hx, hb, hml, hown, hts⟩ (c_X0_cells l G Y h ad K hW ) (cwV 0 hts gX3_nearestShade_X0_cells rfl rfl rfl (by decide +kernel) ⟨Nat.le_of_ble_eq_true rfl, Nat.le_of_ble_eq_true rfl⟩) hK (hP.sub (ws' := cmW Y h ad K) [1, 2, 3, 4, 5, 6, 7, 8] rfl) 0 rfl rfl rfl hl.1 rfl (Nat.le_of_ble_eq_true rfl) dX3_nearestShade_4 ⟨Nat.zero_le _, Nat.zero_le _⟩ ?_
  refine lv_istore (lv' := [(4, .int (iZ (K 0 0 * K 0 1))), (3, .int (iZ (-9))), (0, .ref h4), (1, .ref h), (2, .int (iZ a))]) hx hb dX3_nearestShade_7 hl (by decide) rfl (fun ls hl => ?_)
  refine z_iconst hx hb dX3_nearestShade_9 ?_
  refine lv_istore (lv' := [(5, .int (iZ 0)), (4, .int (iZ (K 0 0 * K 0 1))), (3, .int (iZ (-9))), (0, .ref h4), (1, .ref h), (2, .int (iZ a))]) hx hb dX3_nearestShade_10 hl (by decide) rfl (fun ls hl => ?_)
  obtain ⟨i, q, u, hI, hl1⟩ : ∃ (i : Nat) (q : Int) (u : Int), (q = (nsS K a i).1 ∧ u = (nsS K a i).2 ∧ (i : Int) ≤ K 0 0 * K 0 1) ∧ lv_has ls 7 [(5, .int (iZ ((i : Nat) : Int))), (3, .int (iZ q)), (4, .int (iZ u)), (0, .ref h4), (1, .ref h), (2, .int (iZ a))] := ⟨0, -9, K 0 0 * K 0 1, by exact ⟨rfl, rfl, by omega⟩, lv_sub hl [0, 2, 1, 3, 4, 5] rfl⟩
  clear hl
  have hl := hl1
  clear hl1
  obtain ⟨n_, hn_⟩ : ∃ n_ : Nat, (K 0 0 * K 0 1).toNat - i < n_ := ⟨_, Nat.lt_succ_self _⟩
  induction n_ generalizing i q u ls with
  | zero => exact absurd hn_ (Nat.not_lt_zero _)
  | succ n_ ih1 =>
    have hf := nsS_in hW (a := a) (by omega) i (by omega)
    refine lv_iload hx hb dX3_nearestShade_12 (lv_at hl 0 rfl) ?_
    refine lv_aload_n hx hb dX3_nearestShade_14 rfl (lv_at hl 4 rfl) ?_
    refine ro_V (As := []) (rest := [.int (iZ ((i : Nat) : Int))]) ⟨hx, hb, hml, hown, hts⟩ (c_X0_cells l G Y h ad K hW ) (cwV 0 hts gX3_nearestShade_X0_cells rfl rfl rfl (by decide +kernel) ⟨Nat.le_of_ble_eq_true rfl, Nat.le_of_ble_eq_true rfl⟩) hK (hP.sub (ws' := cmW Y h ad K) [1, 2, 3, 4, 5, 6, 7, 8] rfl) 0 rfl rfl rfl hl.1 rfl (Nat.le_of_ble_eq_true rfl) dX3_nearestShade_15 ⟨Nat.zero_le _, Nat.zero_le _⟩ ?_
    refine z_icmp_ge (tgt := 59) hx hb dX3_nearestShade_18 (by decide) (by omega) (fun c_2 => ?_) (fun c_2 => ?_)
    · skip
      refine lv_iload_n hx hb dX3_nearestShade_59 rfl (lv_at hl 1 rfl) ?_
      refine z_top (show q = (nsS K a (K 0 0 * K 0 1).toNat).1 from ?_) ?_
      · rw [hI.1, show (K 0 0 * K 0 1).toNat = i by omega]
      exact W.iret (v := iZ ((nsS K a (K 0 0 * K 0 1).toNat).1)) hx hb hr (fun t9 ht9 _ => ⟨rfl, ht9⟩) (fun q h => absurd h List.not_mem_nil) dX3_nearestShade_60
    · skip
      refine lv_aload_n hx hb dX3_nearestShade_21 rfl (lv_at hl 4 rfl) ?_
      refine lv_iload_n hx hb dX3_nearestShade_22 rfl (lv_at hl 5 rfl) ?_
      refine lv_iload hx hb dX3_nearestShade_23 (lv_at hl 0 rfl) ?_
      refine ro_V (As := [.int (iZ a), .int (iZ ((i : Nat) : Int))]) (rest := []) ⟨hx, hb, hml, hown, hts⟩ (c_X0_steps l G Y h ad K hW a ((i : Nat) : Int) (by omega)) (cwV 2 hts gX3_nearestShade_X0_steps rfl rfl rfl (by decide +kernel) ⟨Nat.le_of_ble_eq_true rfl, Nat.le_of_ble_eq_true rfl⟩) hK (hP.sub (ws' := cmW Y h ad K) [1, 2, 3, 4, 5, 6, 7, 8] rfl) 0 rfl rfl rfl hl.1 rfl (Nat.le_of_ble_eq_true rfl) dX3_nearestShade_25 ⟨Nat.zero_le _, Nat.zero_le _⟩ ?_
      have hb_3 := stp_in hW (a := a) (b := ((i : Nat) : Int)) (by omega) (by omega)
      refine lv_istore (lv' := [(6, .int (iZ (stp K a ((i : Nat) : Int)))), (5, .int (iZ ((i : Nat) : Int))), (3, .int (iZ q)), (4, .int (iZ u)), (0, .ref h4), (1, .ref h), (2, .int (iZ a))]) hx hb dX3_nearestShade_28 hl (by decide) rfl (fun ls hl => ?_)
      refine lv_iload hx hb dX3_nearestShade_30 (lv_at hl 0 rfl) ?_
      refine lv_iload hx hb dX3_nearestShade_32 (lv_at hl 3 rfl) ?_
      refine z_icmp_ge (tgt := 53) hx hb dX3_nearestShade_34 (by decide) (by omega) (fun c_4 => ?_) (fun c_4 => ?_)
      · skip
        refine lv_iinc (v := iZ ((i + 1 : Nat) : Int)) (lv' := [(5, .int (iZ ((i + 1 : Nat) : Int))), (6, .int (iZ (stp K a ((i : Nat) : Int)))), (3, .int (iZ q)), (4, .int (iZ u)), (0, .ref h4), (1, .ref h), (2, .int (iZ a))]) hx hb dX3_nearestShade_53 hl (k := 1) rfl (iZ_inc _) (by decide) rfl (fun ls hl => ?_)
        refine lv_goto (tgt := 12) hx hb dX3_nearestShade_56 (by decide) ?_
        exact ih1 (ls := ls) (i := i + 1) (q := q) (u := u) (hI := by first | (rw [nsS_t (by omega) (by omega)]; exact ⟨rfl, rfl, by omega⟩) | (rw [nsS_f2 (by omega)]; exact ⟨hI.1, hI.2.1, by omega⟩) | (rw [nsS_f1 (by omega)]; exact ⟨hI.1, hI.2.1, by omega⟩)) (hl := lv_sub hl [0, 2, 3, 4, 5, 6] rfl) (hn_ := by omega)
      · skip
        refine lv_aload_n hx hb dX3_nearestShade_37 rfl (lv_at hl 5 rfl) ?_
        refine lv_iload hx hb dX3_nearestShade_38 (lv_at hl 1 rfl) ?_
        refine ro_V (As := [.int (iZ ((i : Nat) : Int))]) (rest := []) ⟨hx, hb, hml, hown, hts⟩ (c_X0_shadesAt l G Y h ad K hW ((i : Nat) : Int) (by omega)) (cwV 1 hts gX3_nearestShade_X0_shadesAt rfl rfl rfl (by decide +kernel) ⟨Nat.le_of_ble_eq_true rfl, Nat.le_of_ble_eq_true rfl⟩) hK (hP.sub (ws' := cmW Y h ad K) [1, 2, 3, 4, 5, 6, 7, 8] rfl) 0 rfl rfl rfl hl.1 rfl (Nat.le_of_ble_eq_true rfl) dX3_nearestShade_40 ⟨Nat.zero_le _, Nat.zero_le _⟩ ?_
        have hb_5 := sdN_in K ((i : Nat) : Int) (K 0 2).toNat
        refine z_if_le (tgt := 53) hx hb dX3_nearestShade_43 (by decide) (by omega) (fun c_6 => ?_) (fun c_6 => ?_)
        · skip
          refine lv_iinc (v := iZ ((i + 1 : Nat) : Int)) (lv' := [(5, .int (iZ ((i + 1 : Nat) : Int))), (6, .int (iZ (stp K a ((i : Nat) : Int)))), (3, .int (iZ q)), (4, .int (iZ u)), (0, .ref h4), (1, .ref h), (2, .int (iZ a))]) hx hb dX3_nearestShade_53 hl (k := 1) rfl (iZ_inc _) (by decide) rfl (fun ls hl => ?_)
          refine lv_goto (tgt := 12) hx hb dX3_nearestShade_56 (by decide) ?_
          exact ih1 (ls := ls) (i := i + 1) (q := q) (u := u) (hI := by first | (rw [nsS_t (by omega) (by omega)]; exact ⟨rfl, rfl, by omega⟩) | (rw [nsS_f2 (by omega)]; exact ⟨hI.1, hI.2.1, by omega⟩) | (rw [nsS_f1 (by omega)]; exact ⟨hI.1, hI.2.1, by omega⟩)) (hl := lv_sub hl [0, 2, 3, 4, 5, 6] rfl) (hn_ := by omega)
        · skip
          refine lv_iload hx hb dX3_nearestShade_46 (lv_at hl 1 rfl) ?_
          refine lv_istore_n (lv' := [(3, .int (iZ ((i : Nat) : Int))), (6, .int (iZ (stp K a ((i : Nat) : Int)))), (5, .int (iZ ((i : Nat) : Int))), (4, .int (iZ u)), (0, .ref h4), (1, .ref h), (2, .int (iZ a))]) hx hb dX3_nearestShade_48 rfl hl (by decide) rfl (fun ls hl => ?_)
          refine lv_iload hx hb dX3_nearestShade_49 (lv_at hl 1 rfl) ?_
          refine lv_istore (lv' := [(4, .int (iZ (stp K a ((i : Nat) : Int)))), (3, .int (iZ ((i : Nat) : Int))), (6, .int (iZ (stp K a ((i : Nat) : Int)))), (5, .int (iZ ((i : Nat) : Int))), (0, .ref h4), (1, .ref h), (2, .int (iZ a))]) hx hb dX3_nearestShade_51 hl (by decide) rfl (fun ls hl => ?_)
          refine lv_iinc (v := iZ ((i + 1 : Nat) : Int)) (lv' := [(5, .int (iZ ((i + 1 : Nat) : Int))), (4, .int (iZ (stp K a ((i : Nat) : Int)))), (3, .int (iZ ((i : Nat) : Int))), (6, .int (iZ (stp K a ((i : Nat) : Int)))), (0, .ref h4), (1, .ref h), (2, .int (iZ a))]) hx hb dX3_nearestShade_53 hl (k := 3) rfl (iZ_inc _) (by decide) rfl (fun ls hl => ?_)
          refine lv_goto (tgt := 12) hx hb dX3_nearestShade_56 (by decide) ?_
          exact ih1 (ls := ls) (i := i + 1) (q := ((i : Nat) : Int)) (u := stp K a ((i : Nat) : Int)) (hI := by first | (rw [nsS_t (by omega) (by omega)]; exact ⟨rfl, rfl, by omega⟩) | (rw [nsS_f2 (by omega)]; exact ⟨hI.1, hI.2.1, by omega⟩) | (rw [nsS_f1 (by omega)]; exact ⟨hI.1, hI.2.1, by omega⟩)) (hl := lv_sub hl [0, 2, 1, 4, 5, 6] rfl) (hn_ := by omega)
