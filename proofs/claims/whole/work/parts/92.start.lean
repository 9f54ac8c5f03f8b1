theorem cs_arr {s : State} {ty : FieldType} {args : Array Value} (h : (Cond.arrayClass ty).before args s = true) : ∃ cA : ClassId, ArrOfT s cA ty ∧ s.vm.findClass ("[" ++ ty.toString) = some cA := by
  obtain ⟨cA, kA, comp, h1, h2, h3⟩ := Cond.arrayClass_spec h
  exact ⟨cA, fun n z => ⟨fun k h => (by cases h), kA, h2, comp, h3⟩, h1⟩
theorem cs_over {s : State} {C : String} {args : Array Value} (h : (Cond.arrayOver (.object C)).before args s = true) : ∃ cA : ClassId, ArrOfT s cA (.object C) ∧ va_RA s cA (.object C) := by
  obtain ⟨comp, cA, kA, h1, h2, h3, h4, h5⟩ := Cond.arrayOver_spec h
  exact ⟨cA, fun n z => ⟨fun k h => (by cases h), kA, h3, comp, h4⟩, kA, comp, h3, h4, h1, h5⟩
set_option maxHeartbeats 4000000 in
set_option maxRecDepth 100000 in
theorem lw_w0 (Y : Nat → ClassId) (hv g9 : Nat) (u : svU) (af : Nat → Nat) : moW Y g9 af (flds 0 0 0 0 0 0 0 0 0 0 3 3 0 0 0 (-1) 0 0) (arrs (fun _ => 0) (fun _ => 0) (fun _ => 0) (fun _ => 0) (va_up (fun _ => 0) 1 3) (fun _ => 0) (fun _ => 0) (fun _ => 0) (fun _ => 0) (fun _ => 0)) 0 ++ (sv0 Y hv u ++ []) = (([12, 0, 10, 13, 14, 11, 9, 8, 5, 6, 7, 4, 15, 16, 17, 18, 19, 20, 21, 22, 23, 24, 3, 2, 1] : List Nat).map (lwC Y hv g9 u af (fun _ => 0) 0 0 false 0 0 kom0 kom0 kom0 0 0 (fun _ => 0) (fun _ => 0) (fun _ => 0) (fun _ => 0) 0 0 0 (fun _ => 0) (fun _ => kom0) (fun _ => kom0) F00 A00)).flatten := rfl
set_option maxHeartbeats 4000000 in
set_option maxRecDepth 100000 in
/-- the law, from its entry -/
theorem whole_start {p : Program} {e : Env} {s : State} {m : MethodId} {below : List Frame} {meth : Method} {c : Code} (l : Launch) {b L : Nat} {xs : Nat → Int32} (hL : L ≤ 256) (C0 : lw_At p s m meth c b L xs) : W p l e room_1 s m #[Value.ref b] below meth c s.heap [] 0 0 (lw_Z below #[Value.ref b] s) (entryFrame m ([Value.ref b] : List Value).toArray 4) := by
  obtain ⟨hx, hb, hr, hml, hown, hts0, hX, hbl, hlocks, hgv⟩ := C0
  have hts : ∀ w ∈ wsL_law, w.before #[Value.ref b] s = true := fun w h => hts0 w (wsL_law_in w h)
  have hA0 : ∀ q : Nat, s.heap.size ≤ q → (fun q : Nat => s.heap.size ≤ q) q := fun _ h => h
  obtain ⟨c0, iS0, hKn0⟩ := u_known (C := RX0) (T := TX0) (N := 14) (n := 14) hts0 inX0 (hts0 (.instantiable RX0 14) (by decide +kernel))
  obtain ⟨c1, iS1, hKn1⟩ := u_known (C := RX1) (T := TX1) (N := 1) (n := 1) hts0 inX1 (hts0 (.instantiable RX1 1) (by decide +kernel))
  obtain ⟨c2, iS2, hKn2⟩ := u_known (C := RX2) (T := TX2) (N := 3) (n := 3) hts0 inX2 (hts0 (.instantiable RX2 3) (by decide +kernel))
  obtain ⟨c3, iS3, hKn3⟩ := u_known (C := RX3) (T := TX3) (N := 3) (n := 3) hts0 inX3 (hts0 (.instantiable RX3 3) (by decide +kernel))
  obtain ⟨c4, iS4, hKn4⟩ := u_known (C := RX4) (T := TX4) (N := 3) (n := 3) hts0 inX4 (hts0 (.instantiable RX4 3) (by decide +kernel))
  obtain ⟨c5, iS5, hKn5⟩ := u_known (C := RX5) (T := TX5) (N := 6) (n := 6) hts0 inX5 (hts0 (.instantiable RX5 6) (by decide +kernel))
  obtain ⟨c6, iS6, hKn6⟩ := u_known (C := RX6) (T := TX6) (N := 9) (n := 9) hts0 inX6 (hts0 (.instantiable RX6 9) (by decide +kernel))
  obtain ⟨c7, iS7, hKn7⟩ := u_known (C := RX7) (T := TX7) (N := 29) (n := 29) hts0 inX7 (hts0 (.instantiable RX7 29) (by decide +kernel))
  obtain ⟨G, hKc⟩ : ∃ G : va_G, ∀ (k : Nat) (q : vw_C), vwCl[k]? = some q → u_Kn s q.1 q.2.1 q.2.2 (G.1 k) (G.2 k) := by
    refine ⟨(fun k => if k = 0 then c0 else if k = 1 then c1 else if k = 2 then c2 else if k = 3 then c3 else if k = 4 then c4 else if k = 5 then c5 else if k = 6 then c6 else c7, fun k => if k = 0 then iS0 else if k = 1 then iS1 else if k = 2 then iS2 else if k = 3 then iS3 else if k = 4 then iS4 else if k = 5 then iS5 else if k = 6 then iS6 else iS7), ?_⟩
    intro k q hq
    match k, hq with
    | 0, hq => cases hq; exact hKn0
    | 1, hq => cases hq; exact hKn1
    | 2, hq => cases hq; exact hKn2
    | 3, hq => cases hq; exact hKn3
    | 4, hq => cases hq; exact hKn4
    | 5, hq => cases hq; exact hKn5
    | 6, hq => cases hq; exact hKn6
    | 7, hq => cases hq; exact hKn7
    | k + 8, hq => simp [vwCl] at hq
  obtain ⟨y0, ya0, yb0⟩ := cs_arr (hts0 (.arrayClass .int) (by decide +kernel))
  obtain ⟨y1, ya1, yb1⟩ := cs_arr (hts0 (.arrayClass .boolean) (by decide +kernel))
  obtain ⟨y2, ya2, yb2⟩ := cs_arr (hts0 (.arrayClass .char) (by decide +kernel))
  have hov := hts0 (.arrayOver (.object "ShadeVotes$Commune")) (by decide +kernel)
  obtain ⟨y3, ya3, yb3⟩ := cs_over hov
  have hO : va_AO RX0 s := va_AO.of hov
  obtain ⟨Y, hY⟩ : ∃ Y : Nat → ClassId, (Y 0 = y0 ∧ Y 1 = y1) ∧ Y 2 = y2 ∧ Y 3 = y3 := ⟨fun k => if k = 0 then y0 else if k = 1 then y1 else if k = 2 then y2 else y3, ⟨rfl, rfl⟩, rfl, rfl⟩
  obtain ⟨⟨rfl, rfl⟩, rfl, rfl⟩ := hY
  have hK : wK G Y s := by
    refine ⟨⟨hKc, ?_⟩, va_Nw.of rfl (hts0 (.methodLinkNest RX6 35 yX3_init RX6) (by decide +kernel)), va_Nw.of rfl (hts0 (.methodLinkNest RX6 42 yX4_init RX6) (by decide +kernel)), va_Nw.of rfl (hts0 (.methodLinkNest RX6 49 yX1_init RX6) (by decide +kernel)), va_Nw.of rfl (hts0 (.methodLinkNest RX6 9 yX5_init RX6) (by decide +kernel)), va_Nw.of rfl (hts0 (.methodLinkNest RX0 102 yX6_hasBit RX6) (by decide +kernel)), va_Nw.of rfl (hts0 (.methodLinkNest RX0 64 yX6_isWithin RX6) (by decide +kernel)), va_Nw.of rfl (hts0 (.methodLinkNest RX0 91 yX6_asNumber RX6) (by decide +kernel)), va_Nw.of rfl (hts0 (.methodLinkNest RX3 113 yX6_power RX6) (by decide +kernel)), va_Nw.of rfl (hts0 (.methodLinkNest RX3 67 yX6_hasBit RX6) (by decide +kernel)), va_Nw.of rfl (hts0 (.methodLinkNest RX3 96 yX6_asNumber RX6) (by decide +kernel)), va_Nw.of rfl (hts0 (.methodLinkNest RX5 96 yX6_isWithin RX6) (by decide +kernel))⟩
    intro k q hq
    match k, hq with
    | 0, hq => cases hq; exact ⟨ya0, yb0⟩
    | 1, hq => cases hq; exact ⟨ya1, yb1⟩
    | 2, hq => cases hq; exact ⟨ya2, yb2⟩
    | 3, hq => cases hq; exact ⟨ya3, yb3⟩
    | k + 4, hq => simp at hq
  have hS : va_S (fun q : Nat => s.heap.size ≤ q) s.heap s.heap [] := va_S.rf
  have hP : va_P G vwCl [] s.heap := fun k q h => by simp at h
  have hD : va_D (fun q : Nat => s.heap.size ≤ q) [] := ⟨fun i j p q h => by simp at h, fun k q h => by simp at h⟩
  have hl := lv_entry ([.ref b]) (n := 4) (Nat.le_of_ble_eq_true rfl)
  rw [lg_entry_eq]
  generalize (lg_sl ([.ref b]) ++ List.replicate (4 - (lg_sl ([.ref b])).length) Slot.unset).toArray = ls at hl ⊢
  replace hl : lv_has ls 4 [(0, .ref b)] := hl
  refine va_new (ci := 6) (fs := [.null, .null, .null, .null, .null, .null, .null, .null, .null]) (C := RX6) (T := TX6) (N := 9) hx hb hts0 inX6 tyX6 tyX6_ok hown (hts0 (.classLink RL 7 RX6) (by decide +kernel)) (hts0 (.instantiable RX6 9) (by decide +kernel)) (hts0 (.initialized RX6) (by decide +kernel)) hK.1 hP hD hS hA0 rfl df_X6 (Nat.le_of_ble_eq_true rfl) (Nat.le_of_ble_eq_true rfl) dL_law_0 (fun hv H hP hD hS => ?_)
  refine lv_dup hx hb dL_law_3 rfl ?_
  refine cn_I (e0 := .inr (6, [.null, .null, .null, .null, .null, .null, .null, .null, .null])) (F := []) (rest := [.ref hv]) ⟨hx, hb, hml, hown, hts⟩ (fun sz => c_X6_init l G Y hv sz) (cwI 0 hts gL_law_X6_init rfl rfl rfl (hts0 (.initialized RX6) (by decide +kernel)) (hts0 (.methodLink RL 9 yX6_init) (by decide +kernel)) (hts0 (.instanceMethod yX6_init) (by decide +kernel)) rfl (by decide +kernel) ⟨Nat.le_of_ble_eq_true rfl, Nat.le_of_ble_eq_true rfl⟩) hK hO hP hD hS hA0 hl.1 rfl (Nat.le_of_ble_eq_true rfl) dL_law_4 ⟨Nat.le_of_ble_eq_true rfl, Nat.le_of_ble_eq_true rfl⟩ (fun u H locs hP hD hS => ?_)
  refine lv_astore_n (lv' := [(1, .ref hv), (0, .ref b)]) hx hb dL_law_7 rfl hl (by decide) rfl (fun ls hl => ?_)
  replace hP : va_P G vwCl (sv0 Y hv u ++ []) H := hP
  replace hD : va_D (fun q : Nat => s.heap.size ≤ q) (sv0 Y hv u ++ []) := hD
  refine va_new (ci := 7) (fs := [.int (iZ 0), .null, .int (iZ 0), .int (iZ 0), .int (iZ 0), .int (iZ 0), .int (iZ 0), .int (iZ 0), .int (iZ 0), .int (iZ 0), .int (iZ 0), .null, .null, .int (iZ 0), .int (iZ 0), .int (iZ 0), .null, .null, .null, .null, .null, .null, .int (iZ 0), .int (iZ 0), .null, .long 0, .int (iZ 0), .int (iZ 0), .int (iZ 0)]) (C := RX7) (T := TX7) (N := 29) hx hb hts0 inX7 tyX7 tyX7_ok hown (hts0 (.classLink RL 10 RX7) (by decide +kernel)) (hts0 (.instantiable RX7 29) (by decide +kernel)) (hts0 (.initialized RX7) (by decide +kernel)) hK.1 hP hD hS hA0 rfl df_X7 (Nat.le_of_ble_eq_true rfl) (Nat.le_of_ble_eq_true rfl) dL_law_8 (fun g9 H hP hD hS => ?_)
  replace hP := va_P_pm List.perm_append_comm hP
  replace hD := va_D_pm List.perm_append_comm hD
  refine lv_dup hx hb dL_law_11 rfl ?_
  refine cn_I (e0 := .inr (7, [.int (iZ 0), .null, .int (iZ 0), .int (iZ 0), .int (iZ 0), .int (iZ 0), .int (iZ 0), .int (iZ 0), .int (iZ 0), .int (iZ 0), .int (iZ 0), .null, .null, .int (iZ 0), .int (iZ 0), .int (iZ 0), .null, .null, .null, .null, .null, .null, .int (iZ 0), .int (iZ 0), .null, .long 0, .int (iZ 0), .int (iZ 0), .int (iZ 0)])) (F := sv0 Y hv u ++ []) (rest := [.ref g9]) ⟨hx, hb, hml, hown, hts⟩ (fun sz => c_X7_init l G Y g9 sz) (cwI 0 hts gL_law_X7_init rfl rfl rfl (hts0 (.initialized RX7) (by decide +kernel)) (hts0 (.methodLink RL 12 yX7_init) (by decide +kernel)) (hts0 (.instanceMethod yX7_init) (by decide +kernel)) rfl (by decide +kernel) ⟨Nat.le_of_ble_eq_true rfl, Nat.le_of_ble_eq_true rfl⟩) hK hO hP hD hS hA0 hl.1 rfl (Nat.le_of_ble_eq_true rfl) dL_law_12 ⟨Nat.le_of_ble_eq_true rfl, Nat.le_of_ble_eq_true rfl⟩ (fun af H locs hP hD hS => ?_)
  refine lv_astore_n (lv' := [(2, .ref g9), (1, .ref hv), (0, .ref b)]) hx hb dL_law_15 rfl hl (by decide) rfl (fun ls hl => ?_)
  refine z_iconst hx hb dL_law_16 ?_
  refine lv_istore_n (lv' := [(3, .int (iZ 0)), (2, .ref g9), (1, .ref hv), (0, .ref b)]) hx hb dL_law_17 rfl hl (by decide) rfl (fun ls hl => ?_)
  replace hP : va_P G vwCl (moW Y g9 af (flds 0 0 0 0 0 0 0 0 0 0 3 3 0 0 0 (-1) 0 0) (arrs (fun _ => 0) (fun _ => 0) (fun _ => 0) (fun _ => 0) (va_up (fun _ => 0) 1 3) (fun _ => 0) (fun _ => 0) (fun _ => 0) (fun _ => 0) (fun _ => 0)) 0 ++ (sv0 Y hv u ++ [])) H := hP
  replace hD : va_D (fun q : Nat => s.heap.size ≤ q) (moW Y g9 af (flds 0 0 0 0 0 0 0 0 0 0 3 3 0 0 0 (-1) 0 0) (arrs (fun _ => 0) (fun _ => 0) (fun _ => 0) (fun _ => 0) (va_up (fun _ => 0) 1 3) (fun _ => 0) (fun _ => 0) (fun _ => 0) (fun _ => 0) (fun _ => 0)) 0 ++ (sv0 Y hv u ++ [])) := hD
  rw [lw_w0] at hP hD
  have pm : List.Perm ([12, 0, 10, 13, 14, 11, 9, 8, 5, 6, 7, 4, 15, 16, 17, 18, 19, 20, 21, 22, 23, 24, 3, 2, 1] : List Nat) (List.range 25) := by decide
  have pm2 := (pm.map (lwC Y hv g9 u af (fun _ => 0) 0 0 false 0 0 kom0 kom0 kom0 0 0 (fun _ => 0) (fun _ => 0) (fun _ => 0) (fun _ => 0) 0 0 0 (fun _ => 0) (fun _ => kom0) (fun _ => kom0) F00 A00)).flatten
  exact law_loop ⟨hx, hb, hml, hown, hts, ⟨hX, hbl, hL⟩, hK⟩ hr hlocks ⟨Nat.le_of_ble_eq_true rfl, Nat.le_of_ble_eq_true rfl⟩ (L + 1) 0 (Nat.zero_le _) (by omega) (fun _ => 0) 0 0 false 0 0 kom0 kom0 kom0 0 0 (fun _ => 0) (fun _ => 0) (fun _ => 0) (fun _ => 0) 0 0 (fun _ => 0) (fun _ => kom0) (fun _ => kom0) F00 A00 H locs ls lwI_0 ⟨va_P_pm pm2 hP, va_D_pm pm2 hD, hS⟩ (lv_sub hl [3, 2, 1, 0] rfl)
