/-! ===== worlds, contracts, calls ===== -/
abbrev tyL (Y : Nat → ClassId) : List (ClassId × FieldType) := [(Y 0, .int), (Y 1, .boolean), (Y 2, .char), (Y 3, .object "ShadeVotes$Commune")]
/-- the words on nest mates -/
def nsK (U : State) : Prop := va_Nw (.methodLinkNest RX6 35 yX3_init RX6) U ∧ va_Nw (.methodLinkNest RX6 42 yX4_init RX6) U ∧ va_Nw (.methodLinkNest RX6 49 yX1_init RX6) U ∧ va_Nw (.methodLinkNest RX6 9 yX5_init RX6) U ∧ va_Nw (.methodLinkNest RX0 102 yX6_hasBit RX6) U ∧ va_Nw (.methodLinkNest RX0 64 yX6_isWithin RX6) U ∧ va_Nw (.methodLinkNest RX0 91 yX6_asNumber RX6) U ∧ va_Nw (.methodLinkNest RX3 113 yX6_power RX6) U ∧ va_Nw (.methodLinkNest RX3 67 yX6_hasBit RX6) U ∧ va_Nw (.methodLinkNest RX3 96 yX6_asNumber RX6) U ∧ va_Nw (.methodLinkNest RX5 96 yX6_isWithin RX6) U
theorem nsK.moved {s U : State} (hW : s.WarmedH U.vm) (h : nsK s) : nsK U := by
  obtain ⟨h1, h2, h3, h4, h5, h6, h7, h8, h9, h10, h11⟩ := h
  exact ⟨h1.warmM hW, h2.warmM hW, h3.warmM hW, h4.warmM hW, h5.warmM hW, h6.warmM hW, h7.warmM hW, h8.warmM hW, h9.warmM hW, h10.warmM hW, h11.warmM hW⟩
theorem nsK.same {u U : State} (e : u.vm = U.vm) (h : nsK u) : nsK U := by
  obtain ⟨h1, h2, h3, h4, h5, h6, h7, h8, h9, h10, h11⟩ := h
  exact ⟨h1.same rfl e, h2.same rfl e, h3.same rfl e, h4.same rfl e, h5.same rfl e, h6.same rfl e, h7.same rfl e, h8.same rfl e, h9.same rfl e, h10.same rfl e, h11.same rfl e⟩
def wK (G : va_G) (Y : Nat → ClassId) (U : State) : Prop := va_K G vwCl (tyL Y) U ∧ nsK U
theorem wK.moved {G : va_G} {Y : Nat → ClassId} {s U : State} (hW : s.WarmedH U.vm) (h : wK G Y s) : wK G Y U := ⟨va_K.moved hW.alike h.1, h.2.moved hW⟩
theorem wK.calling {G : va_G} {Y : Nat → ClassId} {U : State} {g : JFrame} {mk : MethodId} {a : Array Value} (h : wK G Y U) : wK G Y (U.calling g mk a) := ⟨va_K.moved (u := U) (U := U.calling g mk a) (Vm.Alike.refl U.vm) h.1, h.2.same rfl⟩
/-- a method that only reads: its start, its end -/
abbrev rP (G : va_G) (Y : Nat → ClassId) (av : List Value) (ws : va_W) : Array Value → State → Prop := va_Pc av (fun U => wK G Y U ∧ va_P G vwCl ws U.heap)
abbrev rQ (v : Value) : Array Value → State → Outcome → State → Prop := fun _ st oc t => oc = .returned (some v) ∧ t.heap = st.heap
theorem rP_blind {G : va_G} {Y : Nat → ClassId} {av : List Value} {ws : va_W} : FrameBlind (rP G Y av ws) := fun a U g mk q => by
  obtain ⟨q0, q1, q2⟩ := q
  exact ⟨q0, q1.calling, q2⟩
/-- a method that changes cells that are there: its start, its end -/
abbrev mP (G : va_G) (Y : Nat → ClassId) (av : List Value) (ws : va_W) : Array Value → State → Prop := va_Pc av (fun U => wK G Y U ∧ va_P G vwCl ws U.heap ∧ va_D (fun _ => True) ws)
abbrev mQ (G : va_G) (ws : va_W) (v : Option Value) (ws' : va_W) : Array Value → State → Outcome → State → Prop := fun _ st oc t => oc = .returned v ∧ va_P G vwCl ws' t.heap ∧ va_F (fun q => q ∈ ws.map Prod.fst) st t
theorem mP_blind {G : va_G} {Y : Nat → ClassId} {av : List Value} {ws : va_W} : FrameBlind (mP G Y av ws) := fun a U g mk q => by
  obtain ⟨q0, q1, q2⟩ := q
  exact ⟨q0, q1.calling, q2⟩
theorem va_D_self {ws : va_W} {A : Nat → Prop} (h : va_D A ws) : va_D (fun q => q ∈ ws.map Prod.fst) ws := ⟨h.1, fun k q hk => List.mem_map.mpr ⟨q, List.mem_of_getElem? hk, rfl⟩⟩
theorem va_D_congr {ws ws' : va_W} {A : Nat → Prop} (e : ws'.map Prod.fst = ws.map Prod.fst) (h : va_D A ws) : va_D A ws' := by
  have key : ∀ (i : Nat) (p : Nat × va_E), ws'[i]? = some p → ∃ q : Nat × va_E, ws[i]? = some q ∧ q.1 = p.1 := by
    intro i p hp
    have h1 : (ws'.map Prod.fst)[i]? = some p.1 := by rw [List.getElem?_map, hp]; rfl
    rw [e, List.getElem?_map] at h1
    cases hq : ws[i]? with
    | none => rw [hq] at h1; cases h1
    | some q => rw [hq] at h1; exact ⟨q, rfl, Option.some.inj h1⟩
  refine ⟨fun i j p q hp hq hpq => ?_, fun k q hk => ?_⟩
  · obtain ⟨p', h1, h2⟩ := key i p hp
    obtain ⟨q', h3, h4⟩ := key j q hq
    exact h.1 i j p' q' h1 h3 (by rw [h2, h4, hpq])
  · obtain ⟨q', h1, h2⟩ := key k q hk
    rw [← h2]
    exact h.2 k q' h1
section ZC
variable {p : Program} {l : Launch} {e : Env} {R : Room} {s : State} {m : MethodId} {args : Array Value} {below : List Frame} {meth : Method} {c : Code} {H : Heap} {locs : List Loc} {cells slots : Nat} {Q : State → Prop}
variable {cc : ByteArray} {pc : Nat} {ls : Array Slot} {rest st0 : List Value} {a : Array Value}
theorem ro_go {v : Value} (hr : va_Run p l e R s m args below meth c H locs cells slots 0 0 (F0 m pc ls st0) rest (rQ v a) (fun _ => False))
    (kk : W p l e R s m args below meth c H locs cells slots Q (F0 m (pc + 3) ls (v :: rest))) : W p l e R s m args below meth c H locs cells slots Q (F0 m pc ls st0) := by
  intro T hT X
  obtain ⟨v', st₀, t, T', L, h0, X', hL, e1, -, ⟨hv, hh⟩, st⟩ := hr T hT X
  cases hv
  obtain ⟨t2, a1, b1⟩ := kk T' (by rw [e1, hh, h0]) (Stand.forget X' (fun q h => (hL q h).elim))
  exact ⟨t2, st t2 a1, b1⟩
theorem mu_go {G : va_G} {C C' F : va_W} {v : Option Value} {A : Nat → Prop} {H0 : Heap} (hr : va_Run p l e R s m args below meth c H locs cells slots 0 0 (F0 m pc ls st0) rest (mQ G C v C' a) (fun q => q ∈ C.map Prod.fst))
    (hP : va_P G vwCl (C ++ F) H) (hD : va_D A (C ++ F)) (hS : va_S A H0 H locs) (hC : C'.map Prod.fst = C.map Prod.fst)
    (kk : ∀ (H1 : Heap) (locs1 : List Loc), va_P G vwCl (C' ++ F) H1 → va_D A (C' ++ F) → va_S A H0 H1 locs1 → W p l e R s m args below meth c H1 locs1 cells slots Q (F0 m (pc + 3) ls (v.toList ++ rest))) : W p l e R s m args below meth c H locs cells slots Q (F0 m pc ls st0) := by
  intro T hT X
  obtain ⟨v', st₀, t, T', L, h0, X', hL, e1, -, ⟨hv, hP1, hz, hk⟩, st⟩ := hr T hT X
  cases hv
  rw [h0] at hz hk
  have hAC : ∀ q : Nat, q ∈ C.map Prod.fst → A q := by
    intro q hq
    obtain ⟨x, hx, rfl⟩ := List.mem_map.mp hq
    obtain ⟨i, hi⟩ := List.getElem?_of_mem (List.mem_append_left F hx)
    exact hD.2 i x hi
  have hPF : va_P G vwCl F t.heap := by
    intro k q hq
    have h1 : (C ++ F)[C.length + k]? = some q := by rw [List.getElem?_append_right (Nat.le_add_right _ _)]; simpa using hq
    have h2 := hP _ _ h1
    refine h2.kept (hk q.1 h2.lt (fun hm => ?_))
    obtain ⟨x, hx, hxq⟩ := List.mem_map.mp hm
    obtain ⟨i, hi⟩ := List.getElem?_of_mem hx
    have hlt : i < C.length := (List.getElem?_eq_some_iff.mp hi).1
    have h3 : (C ++ F)[i]? = some x := by rw [List.getElem?_append_left hlt]; exact hi
    have h4 := hD.1 _ _ _ _ h3 h1 hxq
    omega
  have hD' : va_D A (C' ++ F) := va_D_congr (by rw [List.map_append, List.map_append, hC]) hD
  obtain ⟨t2, a1, b1⟩ := kk T'.heap (locs ++ L) (by rw [e1]; exact va_P.app hP1 hPF) hD'
    ⟨Nat.le_trans hS.1 (by rw [e1]; exact hz), fun q h1 h2 => by rw [e1, hk q (Nat.lt_of_lt_of_le h1 hS.1) (fun z => h2 (hAC q z))]; exact hS.2.1 q h1 h2, fun q hq => by
      rcases List.mem_append.mp hq with h | h
      · exact hS.2.2 q h
      · exact hAC _ (hL q h)⟩ T' rfl X'
  exact ⟨t2, st t2 a1, b1⟩
variable {G : va_G} {Y : Nat → ClassId} {y : MethodName} {bytes : ByteArray} {maxL nL n index : Nat} {ret : Option FieldType} {ws : List Cond} {rm : Room} {Ts : List Cond} {own C host : String} {b : Addr} {As : List Value} {T : u_T} {N ci : Nat} {fs : List Value}
theorem ro_V {wc : va_W} {v : Value} (S : CallFix p m c cc nL s args Ts own) (hM : Met l y ws rm (rP G Y (.ref b :: As) wc) (rQ v) 0 0 (fun _ => False)) (cw : CallW R s args own C index y bytes maxL ret ws rm 0 0 n) (hK : wK G Y s) (hP : va_P G vwCl wc H) (q0 : Nat) (he : wc[q0]? = some (b, .inr (ci, fs))) (hc : vwCl[ci]? = some (C, T, N)) (hn : As.length = n) (hsize : ls.size = nL) (hst : st0 = As.reverse ++ .ref b :: rest) (hw : (rest.map fun v => v.category).sum ≤ 8) (hdg : decode cc pc = .ok (.invokevirtual index, 3)) (hf : cells ≤ R.cells ∧ slots ≤ R.slots)
    (kk : W p l e R s m args below meth c H locs cells slots Q (F0 m (pc + 3) ls (v :: rest))) : W p l e R s m args below meth c H locs cells slots Q (F0 m pc ls st0) :=
  ro_go (va_runV S hM cw ⟨rP_blind, va_recv hK.1 hP hc he, fun U hU hW => ⟨rfl, hK.moved hW, by rw [hU]; exact hP⟩⟩ rfl hn hsize hst (lv_room hw) hdg hf) kk
theorem ro_S {wc : va_W} {v : Value} (S : CallFix p m c cc nL s args Ts own) (hM : Met l y ws rm (rP G Y As wc) (rQ v) 0 0 (fun _ => False)) (cw : CallB R s args own index y bytes maxL ret ws rm 0 0 n ∧ (Cond.static y).before args s = true) (hK : wK G Y s) (hP : va_P G vwCl wc H) (hn : As.length = n) (hsize : ls.size = nL) (hst : st0 = As.reverse ++ rest) (hw : (rest.map fun v => v.category).sum ≤ 8) (hdg : decode cc pc = .ok (.invokestatic index, 3)) (hf : cells ≤ R.cells ∧ slots ≤ R.slots)
    (kk : W p l e R s m args below meth c H locs cells slots Q (F0 m (pc + 3) ls (v :: rest))) : W p l e R s m args below meth c H locs cells slots Q (F0 m pc ls st0) :=
  ro_go (va_runS S hM cw ⟨rP_blind, fun U hU hW => ⟨rfl, hK.moved hW, by rw [hU]; exact hP⟩⟩ rfl hn hsize hst (lv_room hw) hdg hf) kk
theorem ro_SN {wc : va_W} {v : Value} (S : CallFix p m c cc nL s args Ts own) (hM : Met l y ws rm (rP G Y As wc) (rQ v) 0 0 (fun _ => False)) (cw : va_CN R s args own index y host bytes maxL ret ws rm 0 0 n ∧ (Cond.static y).before args s = true ∧ True) (hK : wK G Y s) (hP : va_P G vwCl wc H) (hn : As.length = n) (hsize : ls.size = nL) (hst : st0 = As.reverse ++ rest) (hw : (rest.map fun v => v.category).sum ≤ 8) (hdg : decode cc pc = .ok (.invokestatic index, 3)) (hf : cells ≤ R.cells ∧ slots ≤ R.slots)
    (kk : W p l e R s m args below meth c H locs cells slots Q (F0 m (pc + 3) ls (v :: rest))) : W p l e R s m args below meth c H locs cells slots Q (F0 m pc ls st0) :=
  ro_go (va_runSN S hM cw ⟨rP_blind, fun U hU hW => ⟨rfl, hK.moved hW, by rw [hU]; exact hP⟩⟩ rfl hn hsize hst (lv_room hw) hdg hf) kk
theorem mu_V {wc wc' F : va_W} {v : Option Value} {A : Nat → Prop} {H0 : Heap} (S : CallFix p m c cc nL s args Ts own) (hM : Met l y ws rm (mP G Y (.ref b :: As) wc) (mQ G wc v wc') 0 0 (fun q => q ∈ wc.map Prod.fst)) (cw : CallW R s args own C index y bytes maxL ret ws rm 0 0 n) (hK : wK G Y s) (hP : va_P G vwCl (wc ++ F) H) (hD : va_D A (wc ++ F)) (hS : va_S A H0 H locs) (q0 : Nat) (he : wc[q0]? = some (b, .inr (ci, fs))) (hc : vwCl[ci]? = some (C, T, N)) (hC : wc'.map Prod.fst = wc.map Prod.fst) (hn : As.length = n) (hsize : ls.size = nL) (hst : st0 = As.reverse ++ .ref b :: rest) (hw : (rest.map fun v => v.category).sum ≤ 8) (hdg : decode cc pc = .ok (.invokevirtual index, 3)) (hf : cells ≤ R.cells ∧ slots ≤ R.slots)
    (kk : ∀ (H1 : Heap) (locs1 : List Loc), va_P G vwCl (wc' ++ F) H1 → va_D A (wc' ++ F) → va_S A H0 H1 locs1 → W p l e R s m args below meth c H1 locs1 cells slots Q (F0 m (pc + 3) ls (v.toList ++ rest))) : W p l e R s m args below meth c H locs cells slots Q (F0 m pc ls st0) := by
  have hPc : va_P G vwCl wc H := fun k q hk => hP k q (by rw [List.getElem?_append_left (List.getElem?_eq_some_iff.mp hk).1]; exact hk)
  have hDc : va_D (fun _ => True) wc := by
    refine ⟨fun i j x z hi hj => hD.1 i j x z ?_ ?_, fun _ _ _ => trivial⟩
    · rw [List.getElem?_append_left (List.getElem?_eq_some_iff.mp hi).1]; exact hi
    · rw [List.getElem?_append_left (List.getElem?_eq_some_iff.mp hj).1]; exact hj
  exact mu_go (va_runV S hM cw ⟨mP_blind, va_recv hK.1 hPc hc he, fun U hU hW => ⟨rfl, hK.moved hW, by rw [hU]; exact hPc, hDc⟩⟩ rfl hn hsize hst (lv_room hw) hdg hf) hP hD hS hC kk
end ZC
section ZE
variable {p : Program} {l : Launch} {e : Env} {R : Room} {s : State} {m : MethodId} {args : Array Value} {below : List Frame} {meth : Method} {c : Code} {H : Heap} {locs : List Loc} {cells slots : Nat} {Q : State → Prop}
variable {cc : ByteArray} {pc : Nat} {ls : Array Slot} {rest st0 : List Value} {G : va_G} {Y : Nat → ClassId} {y : MethodName} {bytes : ByteArray} {maxL nL n index : Nat} {ret : Option FieldType} {ws : List Cond} {rm : Room} {Ts : List Cond} {own : String} {As : List Value}
theorem mu_S {wc wc' F : va_W} {v : Option Value} {A : Nat → Prop} {H0 : Heap} (S : CallFix p m c cc nL s args Ts own) (hM : Met l y ws rm (mP G Y As wc) (mQ G wc v wc') 0 0 (fun q => q ∈ wc.map Prod.fst)) (cw : CallB R s args own index y bytes maxL ret ws rm 0 0 n ∧ (Cond.static y).before args s = true) (hK : wK G Y s) (hP : va_P G vwCl (wc ++ F) H) (hD : va_D A (wc ++ F)) (hS : va_S A H0 H locs) (hC : wc'.map Prod.fst = wc.map Prod.fst) (hn : As.length = n) (hsize : ls.size = nL) (hst : st0 = As.reverse ++ rest) (hw : (rest.map fun v => v.category).sum ≤ 8) (hdg : decode cc pc = .ok (.invokestatic index, 3)) (hf : cells ≤ R.cells ∧ slots ≤ R.slots)
    (kk : ∀ (H1 : Heap) (locs1 : List Loc), va_P G vwCl (wc' ++ F) H1 → va_D A (wc' ++ F) → va_S A H0 H1 locs1 → W p l e R s m args below meth c H1 locs1 cells slots Q (F0 m (pc + 3) ls (v.toList ++ rest))) : W p l e R s m args below meth c H locs cells slots Q (F0 m pc ls st0) := by
  have hPc : va_P G vwCl wc H := fun k q hk => hP k q (by rw [List.getElem?_append_left (List.getElem?_eq_some_iff.mp hk).1]; exact hk)
  have hDc : va_D (fun _ => True) wc := by
    refine ⟨fun i j x z hi hj => hD.1 i j x z ?_ ?_, fun _ _ _ => trivial⟩
    · rw [List.getElem?_append_left (List.getElem?_eq_some_iff.mp hi).1]; exact hi
    · rw [List.getElem?_append_left (List.getElem?_eq_some_iff.mp hj).1]; exact hj
  exact mu_go (va_runS S hM cw ⟨mP_blind, fun U hU hW => ⟨rfl, hK.moved hW, by rw [hU]; exact hPc, hDc⟩⟩ rfl hn hsize hst (lv_room hw) hdg hf) hP hD hS hC kk
end ZE
