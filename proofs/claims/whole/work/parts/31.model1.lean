set_option maxHeartbeats 4000000 in
set_option maxRecDepth 100000 in
theorem c_X7_in (l : Launch) (G : va_G) (Y : Nat → ClassId) (a b d : Int) (r : zR a ∧ zR b ∧ zR d) : Met l yX7_in wsX7_in ({ frames := 0, cells := 0, slots := 0, locals := 0 }) (rP G Y [.int (iZ a), .int (iZ b), .int (iZ d)] ([])) (rQ (.int (iZ (bZ (decide (b ≤ a ∧ a ≤ d)))))) 0 0 (fun _ => False) := by
  refine Met.ofW (cc := cX7_in) (maxL := 3) (ret := (some .boolean)) (by decide) rfl ?_
  intro p e s m args below meth c s₁ B hml hv
  obtain ⟨rfl, hK, hP⟩ := hv
  have hx := B.exec
  have hb := B.bytes
  have hr := B.returns
  have hts := atoms_spec (ws := wsX7_in) B.pre
  have hown : s.vm.findClass RX7 = some m.cls := findClass_of_methodNamed B.named
  have hlocks := B.notSynchronized
  have hl := lv_entry ([.int (iZ a), .int (iZ b), .int (iZ d)]) (n := 3) (Nat.le_of_ble_eq_true rfl)
  rw [lg_entry_eq]
  generalize (lg_sl ([.int (iZ a), .int (iZ b), .int (iZ d)]) ++ List.replicate (3 - (lg_sl ([.int (iZ a), .int (iZ b), .int (iZ d)])).length) Slot.unset).toArray = ls at hl ⊢
  replace hl : lv_has ls 3 [(0, .int (iZ a)), (1, .int (iZ b)), (2, .int (iZ d))] := hl
  refine lv_iload_n hx hb dX7_in_0 rfl (lv_at hl 0 rfl) ?_
  refine lv_iload_n hx hb dX7_in_1 rfl (lv_at hl 1 rfl) ?_
  refine z_icmp_lt (tgt := 14) hx hb dX7_in_2 (by decide) (by omega) (fun c_1 => ?_) (fun c_1 => ?_)
  · skip
    refine z_iconst hx hb dX7_in_14 ?_
    refine z_top (show 0 = bZ (decide (b ≤ a ∧ a ≤ d)) from ?_) ?_
    · first | exact bZ_1 (by omega) | exact bZ_00 (by omega)
    exact W.zret (v := iZ (bZ (decide (b ≤ a ∧ a ≤ d)))) hx hb hr (b01_nar (bZ_in _)) (fun t9 ht9 _ => ⟨rfl, ht9⟩) (fun q h => absurd h List.not_mem_nil) dX7_in_15
  · skip
    refine lv_iload_n hx hb dX7_in_5 rfl (lv_at hl 0 rfl) ?_
    refine lv_iload_n hx hb dX7_in_6 rfl (lv_at hl 2 rfl) ?_
    refine z_icmp_gt (tgt := 14) hx hb dX7_in_7 (by decide) (by omega) (fun c_2 => ?_) (fun c_2 => ?_)
    · skip
      refine z_iconst hx hb dX7_in_14 ?_
      refine z_top (show 0 = bZ (decide (b ≤ a ∧ a ≤ d)) from ?_) ?_
      · first | exact bZ_1 (by omega) | exact bZ_00 (by omega)
      exact W.zret (v := iZ (bZ (decide (b ≤ a ∧ a ≤ d)))) hx hb hr (b01_nar (bZ_in _)) (fun t9 ht9 _ => ⟨rfl, ht9⟩) (fun q h => absurd h List.not_mem_nil) dX7_in_15
    · skip
      refine z_iconst hx hb dX7_in_10 ?_
      refine lv_goto (tgt := 15) hx hb dX7_in_11 (by decide) ?_
      refine z_top (show 1 = bZ (decide (b ≤ a ∧ a ≤ d)) from ?_) ?_
      · first | exact bZ_1 (by omega) | exact bZ_00 (by omega)
      exact W.zret (v := iZ (bZ (decide (b ≤ a ∧ a ≤ d)))) hx hb hr (b01_nar (bZ_in _)) (fun t9 ht9 _ => ⟨rfl, ht9⟩) (fun q h => absurd h List.not_mem_nil) dX7_in_15

set_option maxHeartbeats 4000000 in
set_option maxRecDepth 100000 in
theorem c_X7_has (l : Launch) (G : va_G) (Y : Nat → ClassId) (b : Nat) (k : Int) (r : b < 2147483648 ∧ 0 ≤ k ∧ k < 32) : Met l yX7_has wsX7_has ({ frames := 0, cells := 0, slots := 0, locals := 0 }) (rP G Y [.int (iZ ((b : Nat) : Int)), .int (iZ k)] ([])) (rQ (.int (iZ (bZ (b.testBit k.toNat))))) 0 0 (fun _ => False) := by
  refine Met.ofW (cc := cX7_has) (maxL := 2) (ret := (some .boolean)) (by decide) rfl ?_
  intro p e s m args below meth c s₁ B hml hv
  obtain ⟨rfl, hK, hP⟩ := hv
  have hx := B.exec
  have hb := B.bytes
  have hr := B.returns
  have hts := atoms_spec (ws := wsX7_has) B.pre
  have hown : s.vm.findClass RX7 = some m.cls := findClass_of_methodNamed B.named
  have hlocks := B.notSynchronized
  have hl := lv_entry ([.int (iZ ((b : Nat) : Int)), .int (iZ k)]) (n := 2) (Nat.le_of_ble_eq_true rfl)
  rw [lg_entry_eq]
  generalize (lg_sl ([.int (iZ ((b : Nat) : Int)), .int (iZ k)]) ++ List.replicate (2 - (lg_sl ([.int (iZ ((b : Nat) : Int)), .int (iZ k)])).length) Slot.unset).toArray = ls at hl ⊢
  replace hl : lv_has ls 2 [(0, .int (iZ ((b : Nat) : Int))), (1, .int (iZ k))] := hl
  refine lv_iload_n hx hb dX7_has_0 rfl (lv_at hl 0 rfl) ?_
  refine lv_iload_n hx hb dX7_has_1 rfl (lv_at hl 1 rfl) ?_
  refine z_ishr (n := b) (k := k.toNat) hx hb dX7_has_2 (by omega) ?_
  refine z_iconst hx hb dX7_has_3 ?_
  refine z_iand1 (a := (b / 2 ^ k.toNat)) hx hb dX7_has_4 (by omega) ?_
  refine z_iconst hx hb dX7_has_5 ?_
  refine z_icmp_ne (tgt := 13) hx hb dX7_has_6 (by decide) (by omega) (fun c_1 => ?_) (fun c_1 => ?_)
  · skip
    refine z_iconst hx hb dX7_has_13 ?_
    refine z_top (show 0 = bZ (b.testBit k.toNat) from ?_) ?_
    · rw [Nat.testBit_eq_decide_div_mod_eq]; first | exact bZ_1 (by omega) | exact bZ_00 (by omega)
    exact W.zret (v := iZ (bZ (b.testBit k.toNat))) hx hb hr (b01_nar (bZ_in _)) (fun t9 ht9 _ => ⟨rfl, ht9⟩) (fun q h => absurd h List.not_mem_nil) dX7_has_14
  · skip
    refine z_iconst hx hb dX7_has_9 ?_
    refine lv_goto (tgt := 14) hx hb dX7_has_10 (by decide) ?_
    refine z_top (show 1 = bZ (b.testBit k.toNat) from ?_) ?_
    · rw [Nat.testBit_eq_decide_div_mod_eq]; first | exact bZ_1 (by omega) | exact bZ_00 (by omega)
    exact W.zret (v := iZ (bZ (b.testBit k.toNat))) hx hb hr (b01_nar (bZ_in _)) (fun t9 ht9 _ => ⟨rfl, ht9⟩) (fun q h => absurd h List.not_mem_nil) dX7_has_14

set_option maxHeartbeats 4000000 in
set_option maxRecDepth 100000 in
theorem c_X7_bits (l : Launch) (G : va_G) (Y : Nat → ClassId) (b : Nat) (r : b < 2147483648) : Met l yX7_bits wsX7_bits ({ frames := 0, cells := 0, slots := 0, locals := 0 }) (rP G Y [.int (iZ ((b : Nat) : Int))] ([])) (rQ (.int (iZ ((pcN b 7 : Nat) : Int)))) 0 0 (fun _ => False) := by
  refine Met.ofW (cc := cX7_bits) (maxL := 3) (ret := (some .int)) (by decide) rfl ?_
  intro p e s m args below meth c s₁ B hml hv
  obtain ⟨rfl, hK, hP⟩ := hv
  have hx := B.exec
  have hb := B.bytes
  have hr := B.returns
  have hts := atoms_spec (ws := wsX7_bits) B.pre
  have hown : s.vm.findClass RX7 = some m.cls := findClass_of_methodNamed B.named
  have hlocks := B.notSynchronized
  have hl := lv_entry ([.int (iZ ((b : Nat) : Int))]) (n := 3) (Nat.le_of_ble_eq_true rfl)
  rw [lg_entry_eq]
  generalize (lg_sl ([.int (iZ ((b : Nat) : Int))]) ++ List.replicate (3 - (lg_sl ([.int (iZ ((b : Nat) : Int))])).length) Slot.unset).toArray = ls at hl ⊢
  replace hl : lv_has ls 3 [(0, .int (iZ ((b : Nat) : Int)))] := hl
  refine z_iconst hx hb dX7_bits_0 ?_
  refine lv_istore_n (lv' := [(1, .int (iZ 0)), (0, .int (iZ ((b : Nat) : Int)))]) hx hb dX7_bits_1 rfl hl (by decide) rfl (fun ls hl => ?_)
  refine z_iconst hx hb dX7_bits_2 ?_
  refine lv_istore_n (lv' := [(2, .int (iZ 0)), (1, .int (iZ 0)), (0, .int (iZ ((b : Nat) : Int)))]) hx hb dX7_bits_3 rfl hl (by decide) rfl (fun ls hl => ?_)
  obtain ⟨i, q, hI, hl1⟩ : ∃ (i : Nat) (q : Nat), (q = pcN b i ∧ i ≤ 7) ∧ lv_has ls 3 [(2, .int (iZ ((i : Nat) : Int))), (1, .int (iZ ((q : Nat) : Int))), (0, .int (iZ ((b : Nat) : Int)))] := ⟨0, 0, by exact ⟨rfl, by omega⟩, lv_sub hl [0, 1, 2] rfl⟩
  clear hl
  have hl := hl1
  clear hl1
  obtain ⟨n_, hn_⟩ : ∃ n_ : Nat, 7 - i < n_ := ⟨_, Nat.lt_succ_self _⟩
  induction n_ generalizing i q ls with
  | zero => exact absurd hn_ (Nat.not_lt_zero _)
  | succ n_ ih1 =>
    refine lv_iload_n hx hb dX7_bits_4 rfl (lv_at hl 0 rfl) ?_
    refine z_bipush hx hb dX7_bits_5 (by decide) ?_
    refine z_icmp_ge (tgt := 24) hx hb dX7_bits_7 (by decide) (by omega) (fun c_2 => ?_) (fun c_2 => ?_)
    · skip
      refine lv_iload_n hx hb dX7_bits_24 rfl (lv_at hl 1 rfl) ?_
      refine z_top (show ((q : Nat) : Int) = ((pcN b 7 : Nat) : Int) from ?_) ?_
      · rw [hI.1, show i = 7 by omega]
      exact W.iret (v := iZ ((pcN b 7 : Nat) : Int)) hx hb hr (fun t9 ht9 _ => ⟨rfl, ht9⟩) (fun q h => absurd h List.not_mem_nil) dX7_bits_25
    · skip
      refine lv_iload_n hx hb dX7_bits_10 rfl (lv_at hl 1 rfl) ?_
      refine lv_iload_n hx hb dX7_bits_11 rfl (lv_at hl 2 rfl) ?_
      refine lv_iload_n hx hb dX7_bits_12 rfl (lv_at hl 0 rfl) ?_
      refine z_ishr (n := b) (k := i) hx hb dX7_bits_13 (by omega) ?_
      refine z_iconst hx hb dX7_bits_14 ?_
      refine z_iand1 (a := (b / 2 ^ i)) hx hb dX7_bits_15 (by omega) ?_
      refine z_iadd hx hb dX7_bits_16 ?_
      refine z_top (show (((q : Nat) : Int) + (((b / 2 ^ i) % 2 : Nat) : Int)) = ((q + b / 2 ^ i % 2 : Nat) : Int) from rfl) ?_
      refine lv_istore_n (lv' := [(1, .int (iZ ((q + b / 2 ^ i % 2 : Nat) : Int))), (2, .int (iZ ((i : Nat) : Int))), (0, .int (iZ ((b : Nat) : Int)))]) hx hb dX7_bits_17 rfl hl (by decide) rfl (fun ls hl => ?_)
      refine lv_iinc (v := iZ ((i + 1 : Nat) : Int)) (lv' := [(2, .int (iZ ((i + 1 : Nat) : Int))), (1, .int (iZ ((q + b / 2 ^ i % 2 : Nat) : Int))), (0, .int (iZ ((b : Nat) : Int)))]) hx hb dX7_bits_18 hl (k := 1) rfl (iZ_inc _) (by decide) rfl (fun ls hl => ?_)
      refine lv_goto (tgt := 4) hx hb dX7_bits_21 (by decide) ?_
      exact ih1 (ls := ls) (i := i + 1) (q := q + b / 2 ^ i % 2) (hI := by exact ⟨by rw [pcN, hI.1], by omega⟩) (hl := lv_sub hl [0, 1, 2] rfl) (hn_ := by omega)

set_option maxHeartbeats 4000000 in
set_option maxRecDepth 100000 in
theorem c_X7_isTree (l : Launch) (G : va_G) (Y : Nat → ClassId) (g9 : Nat) (af : Nat → Nat) (F : Nat → Int) (A : Kom) (tr : Int64) (a : Int) (r : zR a ∧ 0 ≤ A 17 3 ∧ A 17 3 ≤ 5) : Met l yX7_isTree wsX7_isTree ({ frames := 1, cells := 0, slots := 0, locals := 22 }) (rP G Y [.ref g9, .int (iZ a)] (moW Y g9 af F A tr)) (rQ (.int (iZ (bZ (decide (0 ≤ a ∧ a ≤ (A 17) 3 - 1)))))) 0 0 (fun _ => False) := by
  refine Met.ofW (cc := cX7_isTree) (maxL := 2) (ret := (some .boolean)) (by decide) rfl ?_
  intro p e s m args below meth c s₁ B hml hv
  obtain ⟨rfl, hK, hP⟩ := hv
  have hx := B.exec
  have hb := B.bytes
  have hr := B.returns
  have hts := atoms_spec (ws := wsX7_isTree) B.pre
  have hown : s.vm.findClass RX7 = some m.cls := findClass_of_methodNamed B.named
  have hlocks := B.notSynchronized
  have hFX7 : ∀ w ∈ wsX70, w ∈ wsX7_isTree := by decide +kernel
  have kf29 := (hts (.fieldLink RX7 29 "ShadeVotesModel" "now" "[I") (by decide +kernel))
  have hl := lv_entry ([.ref g9, .int (iZ a)]) (n := 2) (Nat.le_of_ble_eq_true rfl)
  rw [lg_entry_eq]
  generalize (lg_sl ([.ref g9, .int (iZ a)]) ++ List.replicate (2 - (lg_sl ([.ref g9, .int (iZ a)])).length) Slot.unset).toArray = ls at hl ⊢
  replace hl : lv_has ls 2 [(0, .ref g9), (1, .int (iZ a))] := hl
  refine lv_iload_n hx hb dX7_isTree_0 rfl (lv_at hl 1 rfl) ?_
  refine z_iconst hx hb dX7_isTree_1 ?_
  refine lv_aload_n hx hb dX7_isTree_2 rfl (lv_at hl 0 rfl) ?_
  refine va_get (D := G) (ci := 7) (v := .ref (af 17)) (C := RX7) (T := TX7) (N := 29) hx hb hts hFX7 hown hK.1 hP 0 rfl rfl 17 (by decide) kf29 (fun _ h9 => h9) rfl dX7_isTree_3 ?_
  refine z_iconst hx hb dX7_isTree_6 ?_
  refine z_iald hx hb hK.1 hP 5 0 rfl rfl 3 (by omega) (by decide) dX7_isTree_7 ?_
  refine z_iconst hx hb dX7_isTree_8 ?_
  refine z_isub hx hb dX7_isTree_9 ?_
  refine ro_S (As := [.int (iZ a), .int (iZ 0), .int (iZ ((A 17) 3 - 1))]) (rest := []) ⟨hx, hb, hml, hown, hts⟩ (c_X7_in l G Y a 0 ((A 17) 3 - 1) (by omega)) (cwS 3 hts gX7_isTree_X7_in rfl rfl rfl (by decide +kernel) ⟨Nat.le_of_ble_eq_true rfl, Nat.le_of_ble_eq_true rfl⟩) hK (hP.sub (ws' := []) [] rfl) rfl hl.1 rfl (Nat.le_of_ble_eq_true rfl) dX7_isTree_10 ⟨Nat.zero_le _, Nat.zero_le _⟩ ?_
  refine z_top (show bZ (decide (0 ≤ a ∧ a ≤ ((A 17) 3 - 1))) = bZ (decide (0 ≤ a ∧ a ≤ (A 17) 3 - 1)) from ?_) ?_
  · rfl
  exact W.zret (v := iZ (bZ (decide (0 ≤ a ∧ a ≤ (A 17) 3 - 1)))) hx hb hr (b01_nar (bZ_in _)) (fun t9 ht9 _ => ⟨rfl, ht9⟩) (fun q h => absurd h List.not_mem_nil) dX7_isTree_13

set_option maxHeartbeats 4000000 in
set_option maxRecDepth 100000 in
theorem c_X7_isOne (l : Launch) (G : va_G) (Y : Nat → ClassId) (g9 : Nat) (af : Nat → Nat) (F : Nat → Int) (A : Kom) (tr : Int64) (a : Int) (r : zR a ∧ 0 ≤ F 15 ∧ F 15 ≤ 7) : Met l yX7_isOne wsX7_isOne ({ frames := 1, cells := 0, slots := 0, locals := 22 }) (rP G Y [.ref g9, .int (iZ a)] (moW Y g9 af F A tr)) (rQ (.int (iZ (bZ (decide (0 ≤ a ∧ a ≤ F 15 - 1)))))) 0 0 (fun _ => False) := by
  refine Met.ofW (cc := cX7_isOne) (maxL := 2) (ret := (some .boolean)) (by decide) rfl ?_
  intro p e s m args below meth c s₁ B hml hv
  obtain ⟨rfl, hK, hP⟩ := hv
  have hx := B.exec
  have hb := B.bytes
  have hr := B.returns
  have hts := atoms_spec (ws := wsX7_isOne) B.pre
  have hown : s.vm.findClass RX7 = some m.cls := findClass_of_methodNamed B.named
  have hlocks := B.notSynchronized
  have hFX7 : ∀ w ∈ wsX70, w ∈ wsX7_isOne := by decide +kernel
  have kf55 := (hts (.fieldLink RX7 55 "ShadeVotesModel" "people" "I") (by decide +kernel))
  have hl := lv_entry ([.ref g9, .int (iZ a)]) (n := 2) (Nat.le_of_ble_eq_true rfl)
  rw [lg_entry_eq]
  generalize (lg_sl ([.ref g9, .int (iZ a)]) ++ List.replicate (2 - (lg_sl ([.ref g9, .int (iZ a)])).length) Slot.unset).toArray = ls at hl ⊢
  replace hl : lv_has ls 2 [(0, .ref g9), (1, .int (iZ a))] := hl
  refine lv_iload_n hx hb dX7_isOne_0 rfl (lv_at hl 1 rfl) ?_
  refine z_iconst hx hb dX7_isOne_1 ?_
  refine lv_aload_n hx hb dX7_isOne_2 rfl (lv_at hl 0 rfl) ?_
  refine va_get (D := G) (ci := 7) (v := .int (iZ (F 15))) (C := RX7) (T := TX7) (N := 29) hx hb hts hFX7 hown hK.1 hP 0 rfl rfl 15 (by decide) kf55 (fun _ h9 => h9) rfl dX7_isOne_3 ?_
  refine z_iconst hx hb dX7_isOne_6 ?_
  refine z_isub hx hb dX7_isOne_7 ?_
  refine ro_S (As := [.int (iZ a), .int (iZ 0), .int (iZ (F 15 - 1))]) (rest := []) ⟨hx, hb, hml, hown, hts⟩ (c_X7_in l G Y a 0 (F 15 - 1) (by omega)) (cwS 3 hts gX7_isOne_X7_in rfl rfl rfl (by decide +kernel) ⟨Nat.le_of_ble_eq_true rfl, Nat.le_of_ble_eq_true rfl⟩) hK (hP.sub (ws' := []) [] rfl) rfl hl.1 rfl (Nat.le_of_ble_eq_true rfl) dX7_isOne_8 ⟨Nat.zero_le _, Nat.zero_le _⟩ ?_
  refine z_top (show bZ (decide (0 ≤ a ∧ a ≤ (F 15 - 1))) = bZ (decide (0 ≤ a ∧ a ≤ F 15 - 1)) from ?_) ?_
  · rfl
  exact W.zret (v := iZ (bZ (decide (0 ≤ a ∧ a ≤ F 15 - 1)))) hx hb hr (b01_nar (bZ_in _)) (fun t9 ht9 _ => ⟨rfl, ht9⟩) (fun q h => absurd h List.not_mem_nil) dX7_isOne_11

set_option maxHeartbeats 4000000 in
set_option maxRecDepth 100000 in
theorem c_X7_isCell (l : Launch) (G : va_G) (Y : Nat → ClassId) (g9 : Nat) (af : Nat → Nat) (F : Nat → Int) (A : Kom) (tr : Int64) (a : Int) (r : zR a ∧ 0 ≤ F 13 * F 14 ∧ F 13 * F 14 ≤ 20) : Met l yX7_isCell wsX7_isCell ({ frames := 1, cells := 0, slots := 0, locals := 22 }) (rP G Y [.ref g9, .int (iZ a)] (moW Y g9 af F A tr)) (rQ (.int (iZ (bZ (decide (0 ≤ a ∧ a ≤ F 13 * F 14 - 1)))))) 0 0 (fun _ => False) := by
  refine Met.ofW (cc := cX7_isCell) (maxL := 2) (ret := (some .boolean)) (by decide) rfl ?_
  intro p e s m args below meth c s₁ B hml hv
  obtain ⟨rfl, hK, hP⟩ := hv
  have hx := B.exec
  have hb := B.bytes
  have hr := B.returns
  have hts := atoms_spec (ws := wsX7_isCell) B.pre
  have hown : s.vm.findClass RX7 = some m.cls := findClass_of_methodNamed B.named
  have hlocks := B.notSynchronized
  have hFX7 : ∀ w ∈ wsX70, w ∈ wsX7_isCell := by decide +kernel
  have kf19 := (hts (.fieldLink RX7 19 "ShadeVotesModel" "wide" "I") (by decide +kernel))
  have kf23 := (hts (.fieldLink RX7 23 "ShadeVotesModel" "high" "I") (by decide +kernel))
  have hl := lv_entry ([.ref g9, .int (iZ a)]) (n := 2) (Nat.le_of_ble_eq_true rfl)
  rw [lg_entry_eq]
  generalize (lg_sl ([.ref g9, .int (iZ a)]) ++ List.replicate (2 - (lg_sl ([.ref g9, .int (iZ a)])).length) Slot.unset).toArray = ls at hl ⊢
  replace hl : lv_has ls 2 [(0, .ref g9), (1, .int (iZ a))] := hl
  refine lv_iload_n hx hb dX7_isCell_0 rfl (lv_at hl 1 rfl) ?_
  refine z_iconst hx hb dX7_isCell_1 ?_
  refine lv_aload_n hx hb dX7_isCell_2 rfl (lv_at hl 0 rfl) ?_
  refine va_get (D := G) (ci := 7) (v := .int (iZ (F 13))) (C := RX7) (T := TX7) (N := 29) hx hb hts hFX7 hown hK.1 hP 0 rfl rfl 13 (by decide) kf19 (fun _ h9 => h9) rfl dX7_isCell_3 ?_
  refine lv_aload_n hx hb dX7_isCell_6 rfl (lv_at hl 0 rfl) ?_
  refine va_get (D := G) (ci := 7) (v := .int (iZ (F 14))) (C := RX7) (T := TX7) (N := 29) hx hb hts hFX7 hown hK.1 hP 0 rfl rfl 14 (by decide) kf23 (fun _ h9 => h9) rfl dX7_isCell_7 ?_
  refine z_imul hx hb dX7_isCell_10 ?_
  refine z_iconst hx hb dX7_isCell_11 ?_
  refine z_isub hx hb dX7_isCell_12 ?_
  refine ro_S (As := [.int (iZ a), .int (iZ 0), .int (iZ ((F 13 * F 14) - 1))]) (rest := []) ⟨hx, hb, hml, hown, hts⟩ (c_X7_in l G Y a 0 ((F 13 * F 14) - 1) (by omega)) (cwS 3 hts gX7_isCell_X7_in rfl rfl rfl (by decide +kernel) ⟨Nat.le_of_ble_eq_true rfl, Nat.le_of_ble_eq_true rfl⟩) hK (hP.sub (ws' := []) [] rfl) rfl hl.1 rfl (Nat.le_of_ble_eq_true rfl) dX7_isCell_13 ⟨Nat.zero_le _, Nat.zero_le _⟩ ?_
  refine z_top (show bZ (decide (0 ≤ a ∧ a ≤ ((F 13 * F 14) - 1))) = bZ (decide (0 ≤ a ∧ a ≤ F 13 * F 14 - 1)) from ?_) ?_
  · rfl
  exact W.zret (v := iZ (bZ (decide (0 ≤ a ∧ a ≤ F 13 * F 14 - 1)))) hx hb hr (b01_nar (bZ_in _)) (fun t9 ht9 _ => ⟨rfl, ht9⟩) (fun q h => absurd h List.not_mem_nil) dX7_isCell_16

set_option maxHeartbeats 4000000 in
set_option maxRecDepth 100000 in
theorem c_X7_everybody (l : Launch) (G : va_G) (Y : Nat → ClassId) (g9 : Nat) (af : Nat → Nat) (F : Nat → Int) (A : Kom) (tr : Int64) (r : 0 ≤ F 15 ∧ F 15 ≤ 7) : Met l yX7_everybody wsX7_everybody ({ frames := 0, cells := 0, slots := 0, locals := 0 }) (rP G Y [.ref g9] (moW Y g9 af F A tr)) (rQ (.int (iZ ((2 ^ (F 15).toNat - 1 : Nat) : Int)))) 0 0 (fun _ => False) := by
  refine Met.ofW (cc := cX7_everybody) (maxL := 1) (ret := (some .int)) (by decide) rfl ?_
  intro p e s m args below meth c s₁ B hml hv
  obtain ⟨rfl, hK, hP⟩ := hv
  have hx := B.exec
  have hb := B.bytes
  have hr := B.returns
  have hts := atoms_spec (ws := wsX7_everybody) B.pre
  have hown : s.vm.findClass RX7 = some m.cls := findClass_of_methodNamed B.named
  have hlocks := B.notSynchronized
  have hFX7 : ∀ w ∈ wsX70, w ∈ wsX7_everybody := by decide +kernel
  have kf55 := (hts (.fieldLink RX7 55 "ShadeVotesModel" "people" "I") (by decide +kernel))
  have hl := lv_entry ([.ref g9]) (n := 1) (Nat.le_of_ble_eq_true rfl)
  rw [lg_entry_eq]
  generalize (lg_sl ([.ref g9]) ++ List.replicate (1 - (lg_sl ([.ref g9])).length) Slot.unset).toArray = ls at hl ⊢
  replace hl : lv_has ls 1 [(0, .ref g9)] := hl
  have hp2 := p2_in (F 15).toNat (by omega)
  refine z_iconst hx hb dX7_everybody_0 ?_
  refine lv_aload_n hx hb dX7_everybody_1 rfl (lv_at hl 0 rfl) ?_
  refine va_get (D := G) (ci := 7) (v := .int (iZ (F 15))) (C := RX7) (T := TX7) (N := 29) hx hb hts hFX7 hown hK.1 hP 0 rfl rfl 15 (by decide) kf55 (fun _ h9 => h9) rfl dX7_everybody_2 ?_
  refine z_ishl1 (k := (F 15).toNat) hx hb dX7_everybody_5 (by omega) ?_
  refine z_iconst hx hb dX7_everybody_6 ?_
  refine z_isub hx hb dX7_everybody_7 ?_
  refine z_top (show (((2 ^ (F 15).toNat : Nat) : Int) - 1) = ((2 ^ (F 15).toNat - 1 : Nat) : Int) from ?_) ?_
  · omega
  exact W.iret (v := iZ ((2 ^ (F 15).toNat - 1 : Nat) : Int)) hx hb hr (fun t9 ht9 _ => ⟨rfl, ht9⟩) (fun q h => absurd h List.not_mem_nil) dX7_everybody_8

set_option maxHeartbeats 4000000 in
set_option maxRecDepth 100000 in
theorem c_X7_steps (l : Launch) (G : va_G) (Y : Nat → ClassId) (g9 : Nat) (af : Nat → Nat) (F : Nat → Int) (A : Kom) (tr : Int64) (a b : Int) (r : (0 ≤ a ∧ a ≤ 19) ∧ 0 ≤ b ∧ b ≤ 19) (rw9 : 2 ≤ F 13 ∧ F 13 ≤ 5) : Met l yX7_steps wsX7_steps ({ frames := 0, cells := 0, slots := 0, locals := 0 }) (rP G Y [.ref g9, .int (iZ a), .int (iZ b)] (moW Y g9 af F A tr)) (rQ (.int (iZ (zabs (a % F 13 - b % F 13) + zabs (a / F 13 - b / F 13))))) 0 0 (fun _ => False) := by
  refine Met.ofW (cc := cX7_steps) (maxL := 5) (ret := (some .int)) (by decide) rfl ?_
  intro p e s m args below meth c s₁ B hml hv
  obtain ⟨rfl, hK, hP⟩ := hv
  have hx := B.exec
  have hb := B.bytes
  have hr := B.returns
  have hts := atoms_spec (ws := wsX7_steps) B.pre
  have hown : s.vm.findClass RX7 = some m.cls := findClass_of_methodNamed B.named
  have hlocks := B.notSynchronized
  have hFX7 : ∀ w ∈ wsX70, w ∈ wsX7_steps := by decide +kernel
  have kf19 := (hts (.fieldLink RX7 19 "ShadeVotesModel" "wide" "I") (by decide +kernel))
  have hl := lv_entry ([.ref g9, .int (iZ a), .int (iZ b)]) (n := 5) (Nat.le_of_ble_eq_true rfl)
  rw [lg_entry_eq]
  generalize (lg_sl ([.ref g9, .int (iZ a), .int (iZ b)]) ++ List.replicate (5 - (lg_sl ([.ref g9, .int (iZ a), .int (iZ b)])).length) Slot.unset).toArray = ls at hl ⊢
  replace hl : lv_has ls 5 [(0, .ref g9), (1, .int (iZ a)), (2, .int (iZ b))] := hl
  have hd1 := dm_in (c := a) (w := F 13) (by omega) (by omega)
  have hd2 := dm_in (c := b) (w := F 13) (by omega) (by omega)
  refine lv_iload_n hx hb dX7_steps_0 rfl (lv_at hl 1 rfl) ?_
  refine lv_aload_n hx hb dX7_steps_1 rfl (lv_at hl 0 rfl) ?_
  refine va_get (D := G) (ci := 7) (v := .int (iZ (F 13))) (C := RX7) (T := TX7) (N := 29) hx hb hts hFX7 hown hK.1 hP 0 rfl rfl 13 (by decide) kf19 (fun _ h9 => h9) rfl dX7_steps_2 ?_
  refine z_irem hx hb dX7_steps_5 (by omega) ?_
  refine lv_iload_n hx hb dX7_steps_6 rfl (lv_at hl 2 rfl) ?_
  refine lv_aload_n hx hb dX7_steps_7 rfl (lv_at hl 0 rfl) ?_
  refine va_get (D := G) (ci := 7) (v := .int (iZ (F 13))) (C := RX7) (T := TX7) (N := 29) hx hb hts hFX7 hown hK.1 hP 0 rfl rfl 13 (by decide) kf19 (fun _ h9 => h9) rfl dX7_steps_8 ?_
  refine z_irem hx hb dX7_steps_11 (by omega) ?_
  refine z_isub hx hb dX7_steps_12 ?_
  refine lv_istore_n (lv' := [(3, .int (iZ ((a % F 13) - (b % F 13)))), (0, .ref g9), (1, .int (iZ a)), (2, .int (iZ b))]) hx hb dX7_steps_13 rfl hl (by decide) rfl (fun ls hl => ?_)
  refine lv_iload_n hx hb dX7_steps_14 rfl (lv_at hl 2 rfl) ?_
  refine lv_aload_n hx hb dX7_steps_15 rfl (lv_at hl 1 rfl) ?_
  refine va_get (D := G) (ci := 7) (v := .int (iZ (F 13))) (C := RX7) (T := TX7) (N := 29) hx hb hts hFX7 hown hK.1 hP 0 rfl rfl 13 (by decide) kf19 (fun _ h9 => h9) rfl dX7_steps_16 ?_
  refine z_idiv hx hb dX7_steps_19 (by omega) ?_
  refine lv_iload_n hx hb dX7_steps_20 rfl (lv_at hl 3 rfl) ?_
  refine lv_aload_n hx hb dX7_steps_21 rfl (lv_at hl 1 rfl) ?_
  refine va_get (D := G) (ci := 7) (v := .int (iZ (F 13))) (C := RX7) (T := TX7) (N := 29) hx hb hts hFX7 hown hK.1 hP 0 rfl rfl 13 (by decide) kf19 (fun _ h9 => h9) rfl dX7_steps_22 ?_
  refine z_idiv hx hb dX7_steps_25 (by omega) ?_
  refine z_isub hx hb dX7_steps_26 ?_
  refine lv_istore (lv' := [(4, .int (iZ ((a / F 13) - (b / F 13)))), (3, .int (iZ ((a % F 13) - (b % F 13)))), (0, .ref g9), (1, .int (iZ a)), (2, .int (iZ b))]) hx hb dX7_steps_27 hl (by decide) rfl (fun ls hl => ?_)
  refine lv_iload_n hx hb dX7_steps_29 rfl (lv_at hl 1 rfl) ?_
  refine z_if_ge (tgt := 38) hx hb dX7_steps_30 (by decide) (by omega) (fun c_1 => ?_) (fun c_1 => ?_)
  · skip
    refine lv_iload_n hx hb dX7_steps_38 rfl (lv_at hl 1 rfl) ?_
    refine lv_iload hx hb dX7_steps_39 (lv_at hl 0 rfl) ?_
    refine z_if_ge (tgt := 50) hx hb dX7_steps_41 (by decide) (by omega) (fun c_2 => ?_) (fun c_2 => ?_)
    · skip
      refine lv_iload hx hb dX7_steps_50 (lv_at hl 0 rfl) ?_
      refine z_iadd hx hb dX7_steps_52 ?_
      refine z_top (show (((a % F 13) - (b % F 13)) + ((a / F 13) - (b / F 13))) = (zabs (a % F 13 - b % F 13) + zabs (a / F 13 - b / F 13)) from ?_) ?_
      · unfold zabs; (repeat' split) <;> omega
      exact W.iret (v := iZ (zabs (a % F 13 - b % F 13) + zabs (a / F 13 - b / F 13))) hx hb hr (fun t9 ht9 _ => ⟨rfl, ht9⟩) (fun q h => absurd h List.not_mem_nil) dX7_steps_53
    · skip
      refine lv_iload hx hb dX7_steps_44 (lv_at hl 0 rfl) ?_
      refine z_ineg hx hb dX7_steps_46 ?_
      refine lv_goto (tgt := 52) hx hb dX7_steps_47 (by decide) ?_
      refine z_iadd hx hb dX7_steps_52 ?_
      refine z_top (show (((a % F 13) - (b % F 13)) + (-((a / F 13) - (b / F 13)))) = (zabs (a % F 13 - b % F 13) + zabs (a / F 13 - b / F 13)) from ?_) ?_
      · unfold zabs; (repeat' split) <;> omega
      exact W.iret (v := iZ (zabs (a % F 13 - b % F 13) + zabs (a / F 13 - b / F 13))) hx hb hr (fun t9 ht9 _ => ⟨rfl, ht9⟩) (fun q h => absurd h List.not_mem_nil) dX7_steps_53
  · skip
    refine lv_iload_n hx hb dX7_steps_33 rfl (lv_at hl 1 rfl) ?_
    refine z_ineg hx hb dX7_steps_34 ?_
    refine lv_goto (tgt := 39) hx hb dX7_steps_35 (by decide) ?_
    refine lv_iload hx hb dX7_steps_39 (lv_at hl 0 rfl) ?_
    refine z_if_ge (tgt := 50) hx hb dX7_steps_41 (by decide) (by omega) (fun c_3 => ?_) (fun c_3 => ?_)
    · skip
      refine lv_iload hx hb dX7_steps_50 (lv_at hl 0 rfl) ?_
      refine z_iadd hx hb dX7_steps_52 ?_
      refine z_top (show ((-((a % F 13) - (b % F 13))) + ((a / F 13) - (b / F 13))) = (zabs (a % F 13 - b % F 13) + zabs (a / F 13 - b / F 13)) from ?_) ?_
      · unfold zabs; (repeat' split) <;> omega
      exact W.iret (v := iZ (zabs (a % F 13 - b % F 13) + zabs (a / F 13 - b / F 13))) hx hb hr (fun t9 ht9 _ => ⟨rfl, ht9⟩) (fun q h => absurd h List.not_mem_nil) dX7_steps_53
    · skip
      refine lv_iload hx hb dX7_steps_44 (lv_at hl 0 rfl) ?_
      refine z_ineg hx hb dX7_steps_46 ?_
      refine lv_goto (tgt := 52) hx hb dX7_steps_47 (by decide) ?_
      refine z_iadd hx hb dX7_steps_52 ?_
      refine z_top (show ((-((a % F 13) - (b % F 13))) + (-((a / F 13) - (b / F 13)))) = (zabs (a % F 13 - b % F 13) + zabs (a / F 13 - b / F 13)) from ?_) ?_
      · unfold zabs; (repeat' split) <;> omega
      exact W.iret (v := iZ (zabs (a % F 13 - b % F 13) + zabs (a / F 13 - b / F 13))) hx hb hr (fun t9 ht9 _ => ⟨rfl, ht9⟩) (fun q h => absurd h List.not_mem_nil) dX7_steps_53

set_option maxHeartbeats 4000000 in
set_option maxRecDepth 100000 in
theorem c_X7_shadeBy (l : Launch) (G : va_G) (Y : Nat → ClassId) (g9 : Nat) (af : Nat → Nat) (F : Nat → Int) (A : Kom) (tr : Int64) (sa q0 n9 : Nat) (S : Nat → Int) (hq : (moW Y g9 af F A tr)[q0]? = some (sa, .inl (Y 0, n9, .inl (aI S)))) (hn : 36 ≤ n9 ∧ n9 < 2147483648) (hV : mV F A S) (a b : Int) (gr : Bool) (r : (0 ≤ a ∧ a ≤ 19) ∧ 0 ≤ b ∧ b ≤ 20) : Met l yX7_shadeBy wsX7_shadeBy ({ frames := 0, cells := 0, slots := 0, locals := 0 }) (rP G Y [.ref g9, .int (iZ a), .int (iZ b), .int (iZ (bZ gr)), .ref sa] (moW Y g9 af F A tr)) (rQ (.int (iZ ((shF (F 13) (S 1) (S 2) a b (bZ gr) : Nat) : Int)))) 0 0 (fun _ => False) := by
  refine Met.ofW (cc := cX7_shadeBy) (maxL := 8) (ret := (some .int)) (by decide) rfl ?_
  intro p e s m args below meth c s₁ B hml hv
  obtain ⟨rfl, hK, hP⟩ := hv
  have hx := B.exec
  have hb := B.bytes
  have hr := B.returns
  have hts := atoms_spec (ws := wsX7_shadeBy) B.pre
  have hown : s.vm.findClass RX7 = some m.cls := findClass_of_methodNamed B.named
  have hlocks := B.notSynchronized
  have hFX7 : ∀ w ∈ wsX70, w ∈ wsX7_shadeBy := by decide +kernel
  have kf19 := (hts (.fieldLink RX7 19 "ShadeVotesModel" "wide" "I") (by decide +kernel))
  have hl := lv_entry ([.ref g9, .int (iZ a), .int (iZ b), .int (iZ (bZ gr)), .ref sa]) (n := 8) (Nat.le_of_ble_eq_true rfl)
  rw [lg_entry_eq]
  generalize (lg_sl ([.ref g9, .int (iZ a), .int (iZ b), .int (iZ (bZ gr)), .ref sa]) ++ List.replicate (8 - (lg_sl ([.ref g9, .int (iZ a), .int (iZ b), .int (iZ (bZ gr)), .ref sa])).length) Slot.unset).toArray = ls at hl ⊢
  replace hl : lv_has ls 8 [(0, .ref g9), (1, .int (iZ a)), (2, .int (iZ b)), (3, .int (iZ (bZ gr))), (4, .ref sa)] := hl
  have v3 := hV.2.2.1
  have v7 := hV.2.2.2.2.2.2.1
  have v8 := hV.2.2.2.2.2.2.2.1
  have v5 := hV.2.1
  have v4 := hV.2.2.2.1
  have hd1 := dv_in (a := b) (b := S 1) (by omega) (by omega)
  refine lv_iload_n hx hb dX7_shadeBy_0 rfl (lv_at hl 2 rfl) ?_
  refine z_if_eq (tgt := 16) hx hb dX7_shadeBy_1 (by decide) (by omega) (fun c_1 => ?_) (fun c_1 => ?_)
  · skip
    refine z_iconst hx hb dX7_shadeBy_16 ?_
    refine z_top (show 0 = ((shF (F 13) (S 1) (S 2) a b (bZ gr) : Nat) : Int) from ?_) ?_
    · unfold shF; rw [if_pos]; rfl; first | (left; omega) | (right; exact ⟨by rw [show gr = false by assumption]; rfl, by omega⟩)
    exact W.iret (v := iZ ((shF (F 13) (S 1) (S 2) a b (bZ gr) : Nat) : Int)) hx hb hr (fun t9 ht9 _ => ⟨rfl, ht9⟩) (fun q h => absurd h List.not_mem_nil) dX7_shadeBy_17
  · skip
    refine lv_iload_n hx hb dX7_shadeBy_4 rfl (lv_at hl 3 rfl) ?_
    refine z_ifb_ne (tgt := 18) hx hb dX7_shadeBy_5 (by decide) (fun c_2 => ?_) (fun c_2 => ?_)
    · skip
      refine z_iconst hx hb dX7_shadeBy_18 ?_
      refine lv_istore (lv' := [(5, .int (iZ 0)), (0, .ref g9), (1, .int (iZ a)), (2, .int (iZ b)), (3, .int (iZ (bZ gr))), (4, .ref sa)]) hx hb dX7_shadeBy_19 hl (by decide) rfl (fun ls hl => ?_)
      refine lv_iload_n hx hb dX7_shadeBy_21 rfl (lv_at hl 3 rfl) ?_
      refine lv_aload hx hb dX7_shadeBy_22 (lv_at hl 5 rfl) ?_
      refine z_iconst hx hb dX7_shadeBy_24 ?_
      refine z_iald hx hb hK.1 hP q0 0 hq rfl 1 (by omega) hn.2 dX7_shadeBy_25 ?_
      refine z_idiv hx hb dX7_shadeBy_26 (by omega) ?_
      refine lv_istore (lv' := [(6, .int (iZ (b / S 1))), (5, .int (iZ 0)), (0, .ref g9), (1, .int (iZ a)), (2, .int (iZ b)), (3, .int (iZ (bZ gr))), (4, .ref sa)]) hx hb dX7_shadeBy_27 hl (by decide) rfl (fun ls hl => ?_)
      refine lv_iload_n hx hb dX7_shadeBy_29 rfl (lv_at hl 3 rfl) ?_
      refine lv_istore (lv' := [(7, .int (iZ a)), (6, .int (iZ (b / S 1))), (5, .int (iZ 0)), (0, .ref g9), (1, .int (iZ a)), (2, .int (iZ b)), (3, .int (iZ (bZ gr))), (4, .ref sa)]) hx hb dX7_shadeBy_30 hl (by decide) rfl (fun ls hl => ?_)
      obtain ⟨f, z, lf, cc, hI, hl1⟩ : ∃ (f : Nat) (z : Nat) (lf : Int) (cc : Int), (sbN (F 13) f cc lf z = sbN (F 13) 21 a (b / S 1) 0 ∧ cc < f ∧ cc ≤ 19 ∧ -10 ≤ cc ∧ -1 ≤ lf ∧ lf ≤ 20 ∧ f ≤ 21) ∧ lv_has ls 8 [(5, .int (iZ ((z : Nat) : Int))), (6, .int (iZ lf)), (7, .int (iZ cc)), (0, .ref g9), (1, .int (iZ a)), (2, .int (iZ b)), (3, .int (iZ (bZ gr))), (4, .ref sa)] := ⟨21, 0, b / S 1, a, by exact ⟨rfl, by omega, by omega, by omega, by omega, by omega, by omega⟩, lv_sub hl [2, 1, 0, 3, 4, 5, 6, 7] rfl⟩
      clear hl
      have hl := hl1
      clear hl1
      obtain ⟨n_, hn_⟩ : ∃ n_ : Nat, f < n_ := ⟨_, Nat.lt_succ_self _⟩
      induction n_ generalizing f z lf cc ls with
      | zero => exact absurd hn_ (Nat.not_lt_zero _)
      | succ n_ ih3 =>
        refine lv_iload hx hb dX7_shadeBy_32 (lv_at hl 2 rfl) ?_
        refine z_if_lt (tgt := 66) hx hb dX7_shadeBy_34 (by decide) (by omega) (fun c_4 => ?_) (fun c_4 => ?_)
        · skip
          refine lv_iload hx hb dX7_shadeBy_66 (lv_at hl 0 rfl) ?_
          refine z_top (show ((z : Nat) : Int) = ((shF (F 13) (S 1) (S 2) a b (bZ gr) : Nat) : Int) from ?_) ?_
          · unfold shF; rw [if_neg (by rintro (q | ⟨q1, q2⟩); omega; first | omega | (rw [show gr = true by assumption] at q1; exact absurd q1 (by decide))), ← hI.1, sbN_stop (by omega)]
          exact W.iret (v := iZ ((shF (F 13) (S 1) (S 2) a b (bZ gr) : Nat) : Int)) hx hb hr (fun t9 ht9 _ => ⟨rfl, ht9⟩) (fun q h => absurd h List.not_mem_nil) dX7_shadeBy_68
        · skip
          refine lv_iload hx hb dX7_shadeBy_37 (lv_at hl 1 rfl) ?_
          refine z_if_lt (tgt := 66) hx hb dX7_shadeBy_39 (by decide) (by omega) (fun c_5 => ?_) (fun c_5 => ?_)
          · skip
            refine lv_iload hx hb dX7_shadeBy_66 (lv_at hl 0 rfl) ?_
            refine z_top (show ((z : Nat) : Int) = ((shF (F 13) (S 1) (S 2) a b (bZ gr) : Nat) : Int) from ?_) ?_
            · unfold shF; rw [if_neg (by rintro (q | ⟨q1, q2⟩); omega; first | omega | (rw [show gr = true by assumption] at q1; exact absurd q1 (by decide))), ← hI.1, sbN_stop (by omega)]
            exact W.iret (v := iZ ((shF (F 13) (S 1) (S 2) a b (bZ gr) : Nat) : Int)) hx hb hr (fun t9 ht9 _ => ⟨rfl, ht9⟩) (fun q h => absurd h List.not_mem_nil) dX7_shadeBy_68
          · skip
            refine lv_iload hx hb dX7_shadeBy_42 (lv_at hl 0 rfl) ?_
            refine z_iconst hx hb dX7_shadeBy_44 ?_
            refine lv_iload hx hb dX7_shadeBy_45 (lv_at hl 2 rfl) ?_
            refine z_ishl1 (k := cc.toNat) hx hb dX7_shadeBy_47 (by omega) ?_
            refine z_ior (a := z) (b := (2 ^ cc.toNat)) hx hb dX7_shadeBy_48 rfl rfl ?_
            refine lv_istore (lv' := [(5, .int (iZ ((z ||| (2 ^ cc.toNat) : Nat) : Int))), (6, .int (iZ lf)), (7, .int (iZ cc)), (0, .ref g9), (1, .int (iZ a)), (2, .int (iZ b)), (3, .int (iZ (bZ gr))), (4, .ref sa)]) hx hb dX7_shadeBy_49 hl (by decide) rfl (fun ls hl => ?_)
            refine lv_iinc (v := iZ (lf + (-1))) (lv' := [(6, .int (iZ (lf + (-1)))), (5, .int (iZ ((z ||| (2 ^ cc.toNat) : Nat) : Int))), (7, .int (iZ cc)), (0, .ref g9), (1, .int (iZ a)), (2, .int (iZ b)), (3, .int (iZ (bZ gr))), (4, .ref sa)]) hx hb dX7_shadeBy_51 hl (k := 1) rfl (iZ_add _ _) (by decide) rfl (fun ls hl => ?_)
            refine lv_iload hx hb dX7_shadeBy_54 (lv_at hl 2 rfl) ?_
            refine lv_aload_n hx hb dX7_shadeBy_56 rfl (lv_at hl 3 rfl) ?_
            refine va_get (D := G) (ci := 7) (v := .int (iZ (F 13))) (C := RX7) (T := TX7) (N := 29) hx hb hts hFX7 hown hK.1 hP 0 rfl rfl 13 (by decide) kf19 (fun _ h9 => h9) rfl dX7_shadeBy_57 ?_
            refine z_isub hx hb dX7_shadeBy_60 ?_
            refine lv_istore (lv' := [(7, .int (iZ (cc - F 13))), (6, .int (iZ (lf + (-1)))), (5, .int (iZ ((z ||| (2 ^ cc.toNat) : Nat) : Int))), (0, .ref g9), (1, .int (iZ a)), (2, .int (iZ b)), (3, .int (iZ (bZ gr))), (4, .ref sa)]) hx hb dX7_shadeBy_61 hl (by decide) rfl (fun ls hl => ?_)
            refine lv_goto (tgt := 32) hx hb dX7_shadeBy_63 (by decide) ?_
            exact ih3 (ls := ls) (f := f - 1) (z := z ||| (2 ^ cc.toNat)) (lf := (lf + (-1))) (cc := (cc - F 13)) (hI := by refine ⟨?_, by omega, by omega, by omega, by omega, by omega, by omega⟩; rw [← hI.1]; obtain ⟨f9, hf9⟩ : ∃ f9, f = f9 + 1 := ⟨f - 1, by omega⟩; subst hf9; rw [sbN, if_pos (by omega)]; rfl) (hl := lv_sub hl [2, 1, 0, 3, 4, 5, 6, 7] rfl) (hn_ := by omega)
    · skip
      refine lv_aload hx hb dX7_shadeBy_8 (lv_at hl 4 rfl) ?_
      refine z_iconst hx hb dX7_shadeBy_10 ?_
      refine z_iald hx hb hK.1 hP q0 0 hq rfl 2 (by omega) hn.2 dX7_shadeBy_11 ?_
      refine z_iconst hx hb dX7_shadeBy_12 ?_
      refine z_icmp_ne (tgt := 18) hx hb dX7_shadeBy_13 (by decide) (by omega) (fun c_6 => ?_) (fun c_6 => ?_)
      · skip
        refine z_iconst hx hb dX7_shadeBy_18 ?_
        refine lv_istore (lv' := [(5, .int (iZ 0)), (0, .ref g9), (1, .int (iZ a)), (2, .int (iZ b)), (3, .int (iZ (bZ gr))), (4, .ref sa)]) hx hb dX7_shadeBy_19 hl (by decide) rfl (fun ls hl => ?_)
        refine lv_iload_n hx hb dX7_shadeBy_21 rfl (lv_at hl 3 rfl) ?_
        refine lv_aload hx hb dX7_shadeBy_22 (lv_at hl 5 rfl) ?_
        refine z_iconst hx hb dX7_shadeBy_24 ?_
        refine z_iald hx hb hK.1 hP q0 0 hq rfl 1 (by omega) hn.2 dX7_shadeBy_25 ?_
        refine z_idiv hx hb dX7_shadeBy_26 (by omega) ?_
        refine lv_istore (lv' := [(6, .int (iZ (b / S 1))), (5, .int (iZ 0)), (0, .ref g9), (1, .int (iZ a)), (2, .int (iZ b)), (3, .int (iZ (bZ gr))), (4, .ref sa)]) hx hb dX7_shadeBy_27 hl (by decide) rfl (fun ls hl => ?_)
        refine lv_iload_n hx hb dX7_shadeBy_29 rfl (lv_at hl 3 rfl) ?_
        refine lv_istore (lv' := [(7, .int (iZ a)), (6, .int (iZ (b / S 1))), (5, .int (iZ 0)), (0, .ref g9), (1, .int (iZ a)), (2, .int (iZ b)), (3, .int (iZ (bZ gr))), (4, .ref sa)]) hx hb dX7_shadeBy_30 hl (by decide) rfl (fun ls hl => ?_)
        obtain ⟨f, z, lf, cc, hI, hl1⟩ : ∃ (f : Nat) (z : Nat) (lf : Int) (cc : Int), (sbN (F 13) f cc lf z = sbN (F 13) 21 a (b / S 1) 0 ∧ cc < f ∧ cc ≤ 19 ∧ -10 ≤ cc ∧ -1 ≤ lf ∧ lf ≤ 20 ∧ f ≤ 21) ∧ lv_has ls 8 [(5, .int (iZ ((z : Nat) : Int))), (6, .int (iZ lf)), (7, .int (iZ cc)), (0, .ref g9), (1, .int (iZ a)), (2, .int (iZ b)), (3, .int (iZ (bZ gr))), (4, .ref sa)] := ⟨21, 0, b / S 1, a, by exact ⟨rfl, by omega, by omega, by omega, by omega, by omega, by omega⟩, lv_sub hl [2, 1, 0, 3, 4, 5, 6, 7] rfl⟩
        clear hl
        have hl := hl1
        clear hl1
        obtain ⟨n_, hn_⟩ : ∃ n_ : Nat, f < n_ := ⟨_, Nat.lt_succ_self _⟩
        induction n_ generalizing f z lf cc ls with
        | zero => exact absurd hn_ (Nat.not_lt_zero _)
        | succ n_ ih7 =>
          refine lv_iload hx hb dX7_shadeBy_32 (lv_at hl 2 rfl) ?_
          refine z_if_lt (tgt := 66) hx hb dX7_shadeBy_34 (by decide) (by omega) (fun c_8 => ?_) (fun c_8 => ?_)
          · skip
            refine lv_iload hx hb dX7_shadeBy_66 (lv_at hl 0 rfl) ?_
            refine z_top (show ((z : Nat) : Int) = ((shF (F 13) (S 1) (S 2) a b (bZ gr) : Nat) : Int) from ?_) ?_
            · unfold shF; rw [if_neg (by rintro (q | ⟨q1, q2⟩); omega; first | omega | (rw [show gr = true by assumption] at q1; exact absurd q1 (by decide))), ← hI.1, sbN_stop (by omega)]
            exact W.iret (v := iZ ((shF (F 13) (S 1) (S 2) a b (bZ gr) : Nat) : Int)) hx hb hr (fun t9 ht9 _ => ⟨rfl, ht9⟩) (fun q h => absurd h List.not_mem_nil) dX7_shadeBy_68
          · skip
            refine lv_iload hx hb dX7_shadeBy_37 (lv_at hl 1 rfl) ?_
            refine z_if_lt (tgt := 66) hx hb dX7_shadeBy_39 (by decide) (by omega) (fun c_9 => ?_) (fun c_9 => ?_)
            · skip
              refine lv_iload hx hb dX7_shadeBy_66 (lv_at hl 0 rfl) ?_
              refine z_top (show ((z : Nat) : Int) = ((shF (F 13) (S 1) (S 2) a b (bZ gr) : Nat) : Int) from ?_) ?_
              · unfold shF; rw [if_neg (by rintro (q | ⟨q1, q2⟩); omega; first | omega | (rw [show gr = true by assumption] at q1; exact absurd q1 (by decide))), ← hI.1, sbN_stop (by omega)]
              exact W.iret (v := iZ ((shF (F 13) (S 1) (S 2) a b (bZ gr) : Nat) : Int)) hx hb hr (fun t9 ht9 _ => ⟨rfl, ht9⟩) (fun q h => absurd h List.not_mem_nil) dX7_shadeBy_68
            · skip
              refine lv_iload hx hb dX7_shadeBy_42 (lv_at hl 0 rfl) ?_
              refine z_iconst hx hb dX7_shadeBy_44 ?_
              refine lv_iload hx hb dX7_shadeBy_45 (lv_at hl 2 rfl) ?_
              refine z_ishl1 (k := cc.toNat) hx hb dX7_shadeBy_47 (by omega) ?_
              refine z_ior (a := z) (b := (2 ^ cc.toNat)) hx hb dX7_shadeBy_48 rfl rfl ?_
              refine lv_istore (lv' := [(5, .int (iZ ((z ||| (2 ^ cc.toNat) : Nat) : Int))), (6, .int (iZ lf)), (7, .int (iZ cc)), (0, .ref g9), (1, .int (iZ a)), (2, .int (iZ b)), (3, .int (iZ (bZ gr))), (4, .ref sa)]) hx hb dX7_shadeBy_49 hl (by decide) rfl (fun ls hl => ?_)
              refine lv_iinc (v := iZ (lf + (-1))) (lv' := [(6, .int (iZ (lf + (-1)))), (5, .int (iZ ((z ||| (2 ^ cc.toNat) : Nat) : Int))), (7, .int (iZ cc)), (0, .ref g9), (1, .int (iZ a)), (2, .int (iZ b)), (3, .int (iZ (bZ gr))), (4, .ref sa)]) hx hb dX7_shadeBy_51 hl (k := 1) rfl (iZ_add _ _) (by decide) rfl (fun ls hl => ?_)
              refine lv_iload hx hb dX7_shadeBy_54 (lv_at hl 2 rfl) ?_
              refine lv_aload_n hx hb dX7_shadeBy_56 rfl (lv_at hl 3 rfl) ?_
              refine va_get (D := G) (ci := 7) (v := .int (iZ (F 13))) (C := RX7) (T := TX7) (N := 29) hx hb hts hFX7 hown hK.1 hP 0 rfl rfl 13 (by decide) kf19 (fun _ h9 => h9) rfl dX7_shadeBy_57 ?_
              refine z_isub hx hb dX7_shadeBy_60 ?_
              refine lv_istore (lv' := [(7, .int (iZ (cc - F 13))), (6, .int (iZ (lf + (-1)))), (5, .int (iZ ((z ||| (2 ^ cc.toNat) : Nat) : Int))), (0, .ref g9), (1, .int (iZ a)), (2, .int (iZ b)), (3, .int (iZ (bZ gr))), (4, .ref sa)]) hx hb dX7_shadeBy_61 hl (by decide) rfl (fun ls hl => ?_)
              refine lv_goto (tgt := 32) hx hb dX7_shadeBy_63 (by decide) ?_
              exact ih7 (ls := ls) (f := f - 1) (z := z ||| (2 ^ cc.toNat)) (lf := (lf + (-1))) (cc := (cc - F 13)) (hI := by refine ⟨?_, by omega, by omega, by omega, by omega, by omega, by omega⟩; rw [← hI.1]; obtain ⟨f9, hf9⟩ : ∃ f9, f = f9 + 1 := ⟨f - 1, by omega⟩; subst hf9; rw [sbN, if_pos (by omega)]; rfl) (hl := lv_sub hl [2, 1, 0, 3, 4, 5, 6, 7] rfl) (hn_ := by omega)
      · skip
        refine z_iconst hx hb dX7_shadeBy_16 ?_
        refine z_top (show 0 = ((shF (F 13) (S 1) (S 2) a b (bZ gr) : Nat) : Int) from ?_) ?_
        · unfold shF; rw [if_pos]; rfl; first | (left; omega) | (right; exact ⟨by rw [show gr = false by assumption]; rfl, by omega⟩)
        exact W.iret (v := iZ ((shF (F 13) (S 1) (S 2) a b (bZ gr) : Nat) : Int)) hx hb hr (fun t9 ht9 _ => ⟨rfl, ht9⟩) (fun q h => absurd h List.not_mem_nil) dX7_shadeBy_17

set_option maxHeartbeats 4000000 in
set_option maxRecDepth 100000 in
theorem c_X7_shadeOf (l : Launch) (G : va_G) (Y : Nat → ClassId) (g9 : Nat) (af : Nat → Nat) (F : Nat → Int) (A : Kom) (tr : Int64) (sa q0 n9 : Nat) (S : Nat → Int) (hq : (moW Y g9 af F A tr)[q0]? = some (sa, .inl (Y 0, n9, .inl (aI S)))) (hn : 36 ≤ n9 ∧ n9 < 2147483648) (hV : mV F A S) (t : Nat) (r : (t : Int) < S 3) : Met l yX7_shadeOf wsX7_shadeOf ({ frames := 1, cells := 0, slots := 0, locals := 27 }) (rP G Y [.ref g9, .ref sa, .int (iZ ((t : Nat) : Int))] (moW Y g9 af F A tr)) (rQ (.int (iZ ((shB (kF F A S) t (F 13 * F 14).toNat : Nat) : Int)))) 0 0 (fun _ => False) := by
  refine Met.ofW (cc := cX7_shadeOf) (maxL := 3) (ret := (some .int)) (by decide) rfl ?_
  intro p e s m args below meth c s₁ B hml hv
  obtain ⟨rfl, hK, hP⟩ := hv
  have hx := B.exec
  have hb := B.bytes
  have hr := B.returns
  have hts := atoms_spec (ws := wsX7_shadeOf) B.pre
  have hown : s.vm.findClass RX7 = some m.cls := findClass_of_methodNamed B.named
  have hlocks := B.notSynchronized
  have hl := lv_entry ([.ref g9, .ref sa, .int (iZ ((t : Nat) : Int))]) (n := 3) (Nat.le_of_ble_eq_true rfl)
  rw [lg_entry_eq]
  generalize (lg_sl ([.ref g9, .ref sa, .int (iZ ((t : Nat) : Int))]) ++ List.replicate (3 - (lg_sl ([.ref g9, .ref sa, .int (iZ ((t : Nat) : Int))])).length) Slot.unset).toArray = ls at hl ⊢
  replace hl : lv_has ls 3 [(0, .ref g9), (1, .ref sa), (2, .int (iZ ((t : Nat) : Int)))] := hl
  have v3 := hV.2.2.1
  have v7 := hV.2.2.2.2.2.2.1
  have v8 := hV.2.2.2.2.2.2.2.1
  have v5 := hV.2.1
  have v4 := hV.2.2.2.1
  have hb0 := hV.2.2.2.2.1 t (by omega)
  refine lv_aload_n hx hb dX7_shadeOf_0 rfl (lv_at hl 0 rfl) ?_
  refine lv_aload_n hx hb dX7_shadeOf_1 rfl (lv_at hl 1 rfl) ?_
  refine z_iconst hx hb dX7_shadeOf_2 ?_
  refine lv_iload_n hx hb dX7_shadeOf_3 rfl (lv_at hl 2 rfl) ?_
  refine z_iadd hx hb dX7_shadeOf_4 ?_
  refine z_iald hx hb hK.1 hP q0 0 hq rfl (4 + t) (by omega) hn.2 dX7_shadeOf_5 ?_
  refine lv_aload_n hx hb dX7_shadeOf_6 rfl (lv_at hl 1 rfl) ?_
  refine z_bipush hx hb dX7_shadeOf_7 (by decide) ?_
  refine lv_iload_n hx hb dX7_shadeOf_9 rfl (lv_at hl 2 rfl) ?_
  refine z_iadd hx hb dX7_shadeOf_10 ?_
  refine z_iald hx hb hK.1 hP q0 0 hq rfl (9 + t) (by omega) hn.2 dX7_shadeOf_11 ?_
  refine lv_aload_n hx hb dX7_shadeOf_12 rfl (lv_at hl 1 rfl) ?_
  refine z_bipush hx hb dX7_shadeOf_13 (by decide) ?_
  refine lv_iload_n hx hb dX7_shadeOf_15 rfl (lv_at hl 2 rfl) ?_
  refine z_iadd hx hb dX7_shadeOf_16 ?_
  refine z_iald hx hb hK.1 hP q0 0 hq rfl (14 + t) (by omega) hn.2 dX7_shadeOf_17 ?_
  refine z_iconst hx hb dX7_shadeOf_18 ?_
  refine z_icmp_ne (tgt := 26) hx hb dX7_shadeOf_19 (by decide) (by omega) (fun c_1 => ?_) (fun c_1 => ?_)
  · skip
    refine z_iconst hx hb dX7_shadeOf_26 ?_
    refine z_top (show (0 : Int) = bZ (decide (S (14 + t) = 1)) from bZ_00 (by omega)) ?_
    refine lv_aload_n hx hb dX7_shadeOf_27 rfl (lv_at hl 1 rfl) ?_
    refine ro_V (As := [.int (iZ (S (4 + t))), .int (iZ (S (9 + t))), .int (iZ (bZ (decide (S (14 + t) = 1)))), .ref sa]) (rest := []) ⟨hx, hb, hml, hown, hts⟩ (c_X7_shadeBy l G Y g9 af F A tr sa q0 n9 S hq hn hV (S (4 + t)) (S (9 + t)) (decide (S (14 + t) = 1)) (by omega)) (cwV 4 hts gX7_shadeOf_X7_shadeBy rfl rfl rfl (by decide +kernel) ⟨Nat.le_of_ble_eq_true rfl, Nat.le_of_ble_eq_true rfl⟩) hK hP 0 rfl rfl rfl hl.1 rfl (Nat.le_of_ble_eq_true rfl) dX7_shadeOf_28 ⟨Nat.zero_le _, Nat.zero_le _⟩ ?_
    refine z_top (show ((shF (F 13) (S 1) (S 2) (S (4 + t)) (S (9 + t)) (bZ (decide (S (14 + t) = 1))) : Nat) : Int) = ((shB (kF F A S) t (F 13 * F 14).toNat : Nat) : Int) from ?_) ?_
    · rw [← shF_kv hV r]
    exact W.iret (v := iZ ((shB (kF F A S) t (F 13 * F 14).toNat : Nat) : Int)) hx hb hr (fun t9 ht9 _ => ⟨rfl, ht9⟩) (fun q h => absurd h List.not_mem_nil) dX7_shadeOf_31
  · skip
    refine z_iconst hx hb dX7_shadeOf_22 ?_
    refine lv_goto (tgt := 27) hx hb dX7_shadeOf_23 (by decide) ?_
    refine z_top (show (1 : Int) = bZ (decide (S (14 + t) = 1)) from bZ_1 (by omega)) ?_
    refine lv_aload_n hx hb dX7_shadeOf_27 rfl (lv_at hl 1 rfl) ?_
    refine ro_V (As := [.int (iZ (S (4 + t))), .int (iZ (S (9 + t))), .int (iZ (bZ (decide (S (14 + t) = 1)))), .ref sa]) (rest := []) ⟨hx, hb, hml, hown, hts⟩ (c_X7_shadeBy l G Y g9 af F A tr sa q0 n9 S hq hn hV (S (4 + t)) (S (9 + t)) (decide (S (14 + t) = 1)) (by omega)) (cwV 4 hts gX7_shadeOf_X7_shadeBy rfl rfl rfl (by decide +kernel) ⟨Nat.le_of_ble_eq_true rfl, Nat.le_of_ble_eq_true rfl⟩) hK hP 0 rfl rfl rfl hl.1 rfl (Nat.le_of_ble_eq_true rfl) dX7_shadeOf_28 ⟨Nat.zero_le _, Nat.zero_le _⟩ ?_
    refine z_top (show ((shF (F 13) (S 1) (S 2) (S (4 + t)) (S (9 + t)) (bZ (decide (S (14 + t) = 1))) : Nat) : Int) = ((shB (kF F A S) t (F 13 * F 14).toNat : Nat) : Int) from ?_) ?_
    · rw [← shF_kv hV r]
    exact W.iret (v := iZ ((shB (kF F A S) t (F 13 * F 14).toNat : Nat) : Int)) hx hb hr (fun t9 ht9 _ => ⟨rfl, ht9⟩) (fun q h => absurd h List.not_mem_nil) dX7_shadeOf_31
