/-! ===== worlds in any order ===== -/
theorem va_P_mem {G : va_G} {cl : List vw_C} {ws : va_W} {H : Heap} : va_P G cl ws H ↔ ∀ x ∈ ws, va_at G cl x H :=
  ⟨fun h x hx => by obtain ⟨i, hi⟩ := List.getElem?_of_mem hx; exact h i x hi, fun h k q hk => h q (List.mem_of_getElem? hk)⟩
theorem va_P_pm {G : va_G} {cl : List vw_C} {ws ws' : va_W} {H : Heap} (hp : List.Perm ws ws') (h : va_P G cl ws H) : va_P G cl ws' H := va_P_mem.mpr (fun x hx => va_P_mem.mp h x (hp.mem_iff.mpr hx))
theorem va_D_nd {A : Nat → Prop} {ws : va_W} : va_D A ws ↔ (ws.map Prod.fst).Nodup ∧ ∀ x ∈ ws, A x.1 := by
  constructor
  · intro h
    refine ⟨List.pairwise_iff_getElem.mpr (fun i j hi hj hij he => ?_), fun x hx => ?_⟩
    · rw [List.getElem_map, List.getElem_map] at he
      have := h.1 i j _ _ (List.getElem?_eq_getElem (by simpa using hi)) (List.getElem?_eq_getElem (by simpa using hj)) he
      omega
    · obtain ⟨i, hi⟩ := List.getElem?_of_mem hx
      exact h.2 i x hi
  · rintro ⟨h1, h2⟩
    have h3 := List.pairwise_iff_getElem.mp h1
    have key : ∀ (i j : Nat) (x z : Nat × va_E), ws[i]? = some x → ws[j]? = some z → x.1 = z.1 → ¬ i < j := by
      intro i j x z hi hj he hij
      obtain ⟨hi1, hi2⟩ := List.getElem?_eq_some_iff.mp hi
      obtain ⟨hj1, hj2⟩ := List.getElem?_eq_some_iff.mp hj
      refine h3 i j (by simpa using hi1) (by simpa using hj1) hij ?_
      rw [List.getElem_map, List.getElem_map, hi2, hj2, he]
    refine ⟨fun i j x z hi hj he => ?_, fun k q hk => h2 q (List.mem_of_getElem? hk)⟩
    have := key i j x z hi hj he
    have := key j i z x hj hi he.symm
    omega
theorem va_D_pm {A : Nat → Prop} {ws ws' : va_W} (hp : List.Perm ws ws') (h : va_D A ws) : va_D A ws' := by
  obtain ⟨h1, h2⟩ := va_D_nd.mp h
  exact va_D_nd.mpr ⟨(hp.map Prod.fst).nodup_iff.mp h1, fun x hx => h2 x (hp.mem_iff.mpr hx)⟩
theorem va_D_1 {A : Nat → Prop} {b : Nat} {e0 : va_E} (h : A b) : va_D A [(b, e0)] := va_D_nd.mpr ⟨by simp, fun x hx => by rw [List.mem_singleton.mp hx]; exact h⟩
theorem va_P_l {G : va_G} {cl : List vw_C} {w1 w2 : va_W} {H : Heap} (h : va_P G cl (w1 ++ w2) H) : va_P G cl w1 H := va_P_mem.mpr (fun x hx => va_P_mem.mp h x (List.mem_append_left _ hx))
theorem va_P_r {G : va_G} {cl : List vw_C} {w1 w2 : va_W} {H : Heap} (h : va_P G cl (w1 ++ w2) H) : va_P G cl w2 H := va_P_mem.mpr (fun x hx => va_P_mem.mp h x (List.mem_append_right _ hx))
/-! ===== what makes cells ===== -/
def nA (b sz : Nat) : Nat → Prop := fun q => q = b ∨ sz ≤ q
abbrev nP (G : va_G) (Y : Nat → ClassId) (b : Nat) (e0 : va_E) (sz : Nat) : Array Value → State → Prop := va_Pc [.ref b] (fun U => U.heap.size = sz ∧ (wK G Y U ∧ va_AO RX0 U) ∧ va_P G vwCl [(b, e0)] U.heap)
abbrev nQ {α : Type} (G : va_G) (b sz : Nat) (W1 : α → va_W) : Array Value → State → Outcome → State → Prop := fun _ st oc t => oc = .returned none ∧ (∃ u : α, va_P G vwCl (W1 u) t.heap ∧ va_D (nA b sz) (W1 u)) ∧ va_F (nA b sz) st t
theorem nP_blind {G : va_G} {Y : Nat → ClassId} {b : Nat} {e0 : va_E} {sz : Nat} : FrameBlind (nP G Y b e0 sz) := fun a U g mk q => by
  obtain ⟨q0, q1, ⟨q2, q3⟩, q4⟩ := q
  exact ⟨q0, q1, ⟨q2.calling, va_AO.moved (u := U) (U := U.calling g mk a) (Vm.Alike.refl U.vm) q3⟩, q4⟩
section ZN
variable {p : Program} {l : Launch} {e : Env} {R : Room} {s : State} {m : MethodId} {args : Array Value} {below : List Frame} {meth : Method} {c : Code} {H : Heap} {locs : List Loc} {cells slots : Nat} {Q : State → Prop}
variable {cc : ByteArray} {pc : Nat} {ls : Array Slot} {rest st0 : List Value} {a : Array Value} {A : Nat → Prop} {H0 : Heap} {ws : va_W}
theorem nc_go {α : Type} {G : va_G} {b mc ms : Nat} {e0 : va_E} {F : va_W} {W1 : α → va_W} (hr : va_Run p l e R s m args below meth c H locs cells slots mc ms (F0 m pc ls st0) rest (nQ G b H.size W1 a) (nA b H.size))
    (hP : va_P G vwCl ((b, e0) :: F) H) (hD : va_D A ((b, e0) :: F)) (hS : va_S A H0 H locs) (hA : ∀ q, H0.size ≤ q → A q)
    (kk : ∀ (u : α) (H1 : Heap) (locs1 : List Loc), va_P G vwCl (W1 u ++ F) H1 → va_D A (W1 u ++ F) → va_S A H0 H1 locs1 → W p l e R s m args below meth c H1 locs1 (cells + mc) (slots + ms) Q (F0 m (pc + 3) ls rest)) : W p l e R s m args below meth c H locs cells slots Q (F0 m pc ls st0) := by
  intro T hT X
  obtain ⟨v', st₀, t, T', L, h0, X', hL, e1, -, ⟨hv, ⟨u, hP1, hD1⟩, hz, hk⟩, st⟩ := hr T hT X
  cases hv
  rw [h0] at hz hk
  have hPm := va_P_mem.mp hP
  obtain ⟨hn0, hAm⟩ := va_D_nd.mp hD
  have hn : (b :: F.map Prod.fst).Nodup := hn0
  obtain ⟨hb0, hnF⟩ := List.nodup_cons.mp hn
  have hAb : A b := hAm (b, e0) List.mem_cons_self
  have hAC : ∀ q, nA b H.size q → A q := fun q hq => hq.elim (fun h => by rw [h]; exact hAb) (fun h => hA q (Nat.le_trans hS.1 h))
  have hout : ∀ x ∈ F, ¬ nA b H.size x.1 := fun x hx hm => by
    rcases hm with hm | hm
    · exact hb0 (List.mem_map.mpr ⟨x, hx, hm⟩)
    · have := (hPm x (List.mem_cons_of_mem _ hx)).lt
      omega
  have hPF : va_P G vwCl F t.heap := va_P_mem.mpr (fun x hx => (hPm x (List.mem_cons_of_mem _ hx)).kept (hk x.1 (hPm x (List.mem_cons_of_mem _ hx)).lt (hout x hx)))
  obtain ⟨hn1, hA1⟩ := va_D_nd.mp hD1
  have hD' : va_D A (W1 u ++ F) := by
    refine va_D_nd.mpr ⟨?_, fun x hx => ?_⟩
    · rw [List.map_append]
      refine List.nodup_append.mpr ⟨hn1, hnF, fun x hx y hy he => ?_⟩
      obtain ⟨x1, hx1, rfl⟩ := List.mem_map.mp hx
      obtain ⟨y1, hy1, rfl⟩ := List.mem_map.mp hy
      exact hout y1 hy1 (by rw [← he]; exact hA1 x1 hx1)
    · rcases List.mem_append.mp hx with h | h
      · exact hAC _ (hA1 x h)
      · exact hAm x (List.mem_cons_of_mem _ h)
  obtain ⟨t2, a1, b1⟩ := kk u T'.heap (locs ++ L) (by rw [e1]; exact va_P.app hP1 hPF) hD'
    ⟨Nat.le_trans hS.1 (by rw [e1]; exact hz), fun q h1 h2 => by rw [e1, hk q (Nat.lt_of_lt_of_le h1 hS.1) (fun z => h2 (hAC q z))]; exact hS.2.1 q h1 h2, fun q hq => by
      rcases List.mem_append.mp hq with h | h
      · exact hS.2.2 q h
      · exact hAC _ (hL q h)⟩ T' rfl X'
  exact ⟨t2, st t2 a1, b1⟩
variable {G : va_G} {Y : Nat → ClassId} {y : MethodName} {bytes : ByteArray} {maxL nL n index mc ms : Nat} {wc : List Cond} {rm : Room} {Ts : List Cond} {own host : String} {b : Addr}
theorem cn_I {α : Type} {e0 : va_E} {F : va_W} {W1 : α → va_W} (S : CallFix p m c cc nL s args Ts own) (hM : ∀ sz, Met l y wc rm (nP G Y b e0 sz) (nQ G b sz W1) mc ms (nA b sz)) (cw : CallB R s args own index y bytes maxL none wc rm mc ms 0 ∧ y.name = "<init>" ∧ (Cond.instanceMethod y).before args s = true) (hK : wK G Y s) (hO : va_AO RX0 s)
    (hP : va_P G vwCl ((b, e0) :: F) H) (hD : va_D A ((b, e0) :: F)) (hS : va_S A H0 H locs) (hA : ∀ q, H0.size ≤ q → A q) (hsize : ls.size = nL) (hst : st0 = .ref b :: rest) (hw : (rest.map fun v => v.category).sum ≤ 8) (hdg : decode cc pc = .ok (.invokespecial index, 3)) (hf : cells + mc ≤ R.cells ∧ slots + ms ≤ R.slots)
    (kk : ∀ (u : α) (H1 : Heap) (locs1 : List Loc), va_P G vwCl (W1 u ++ F) H1 → va_D A (W1 u ++ F) → va_S A H0 H1 locs1 → W p l e R s m args below meth c H1 locs1 (cells + mc) (slots + ms) Q (F0 m (pc + 3) ls rest)) : W p l e R s m args below meth c H locs cells slots Q (F0 m pc ls st0) :=
  nc_go (va_runI (As := []) S (hM H.size) cw ⟨nP_blind, fun U hU hW => ⟨rfl, by rw [hU], ⟨hK.moved hW, hO.moved hW.alike⟩, by rw [hU]; exact va_P_l (w1 := [(b, e0)]) (w2 := F) hP⟩⟩ rfl rfl hsize hst (lv_room hw) hdg hf) hP hD hS hA kk
theorem cn_IN {α : Type} {e0 : va_E} {F : va_W} {W1 : α → va_W} (S : CallFix p m c cc nL s args Ts own) (hM : ∀ sz, Met l y wc rm (nP G Y b e0 sz) (nQ G b sz W1) mc ms (nA b sz)) (cw : va_CN R s args own index y host bytes maxL none wc rm mc ms 0 ∧ y.name = "<init>" ∧ (Cond.instanceMethod y).before args s = true) (hK : wK G Y s) (hO : va_AO RX0 s)
    (hP : va_P G vwCl ((b, e0) :: F) H) (hD : va_D A ((b, e0) :: F)) (hS : va_S A H0 H locs) (hA : ∀ q, H0.size ≤ q → A q) (hsize : ls.size = nL) (hst : st0 = .ref b :: rest) (hw : (rest.map fun v => v.category).sum ≤ 8) (hdg : decode cc pc = .ok (.invokespecial index, 3)) (hf : cells + mc ≤ R.cells ∧ slots + ms ≤ R.slots)
    (kk : ∀ (u : α) (H1 : Heap) (locs1 : List Loc), va_P G vwCl (W1 u ++ F) H1 → va_D A (W1 u ++ F) → va_S A H0 H1 locs1 → W p l e R s m args below meth c H1 locs1 (cells + mc) (slots + ms) Q (F0 m (pc + 3) ls rest)) : W p l e R s m args below meth c H locs cells slots Q (F0 m pc ls st0) :=
  nc_go (va_runIN (As := []) S (hM H.size) cw ⟨nP_blind, fun U hU hW => ⟨rfl, by rw [hU], ⟨hK.moved hW, hO.moved hW.alike⟩, by rw [hU]; exact va_P_l (w1 := [(b, e0)]) (w2 := F) hP⟩⟩ rfl rfl hsize hst (lv_room hw) hdg hf) hP hD hS hA kk
/-- arrays made: all are 0 -/
theorem z_newI (hx : p.tables.exec = Jvm.exec) (hb : c.code = cc) (harr : (Cond.arrayClass .int).before args s = true) (hK : wK G Y s) (hP : va_P G vwCl ws H) (hD : va_D A ws) (hS : va_S A H0 H locs) (hA : ∀ q, H0.size ≤ q → A q) {k : Nat} (hk : k < 1000) (hc : cells + 1 ≤ R.cells ∧ slots + k ≤ R.slots) (hdg : decode cc pc = .ok (.newarray .int, 2))
    (kk : ∀ (q : Nat) (H1 : Heap), va_P G vwCl (ws ++ [(q, .inl (Y 0, k, .inl (aI (fun _ => 0))))]) H1 → va_D A (ws ++ [(q, .inl (Y 0, k, .inl (aI (fun _ => 0))))]) → va_S A H0 H1 locs → W p l e R s m args below meth c H1 locs (cells + 1) (slots + k) Q (F0 m (pc + 2) ls (.ref q :: rest))) : W p l e R s m args below meth c H locs cells slots Q (F0 m pc ls (.int (iZ ((k : Nat) : Int)) :: rest)) := by
  refine va_newa (a0 := (k, .inl (aI (fun _ => 0)))) hx hb (atype := .int) harr rfl hK.1 hP hD hS hA (fun _ => rfl) (by rw [← iZ_0, iZ_lt (by omega) (by decide)]; omega) (iZ_ix rfl (by omega)) (by show k * 4 ≤ _; omega) hc.1 hc.2 hdg (fun q cA H1 hK1 hP1 hD1 hS1 => ?_)
  have h1 := va_nm_int ((hK1.2 4 (cA, .int) rfl).2)
  have h2 := va_nm_int ((hK.1.2 0 (Y 0, .int) rfl).2)
  have h3 : cA = Y 0 := Option.some.inj (h1.symm.trans h2)
  subst h3
  exact kk q H1 hP1 hD1 hS1
theorem z_newZ (hx : p.tables.exec = Jvm.exec) (hb : c.code = cc) (harr : (Cond.arrayClass .boolean).before args s = true) (hK : wK G Y s) (hP : va_P G vwCl ws H) (hD : va_D A ws) (hS : va_S A H0 H locs) (hA : ∀ q, H0.size ≤ q → A q) {k : Nat} (hk : k < 1000) (hc : cells + 1 ≤ R.cells ∧ slots + k ≤ R.slots) (hdg : decode cc pc = .ok (.newarray .boolean, 2))
    (kk : ∀ (q : Nat) (H1 : Heap), va_P G vwCl (ws ++ [(q, .inl (Y 1, k, .inl (aI (fun _ => 0))))]) H1 → va_D A (ws ++ [(q, .inl (Y 1, k, .inl (aI (fun _ => 0))))]) → va_S A H0 H1 locs → W p l e R s m args below meth c H1 locs (cells + 1) (slots + k) Q (F0 m (pc + 2) ls (.ref q :: rest))) : W p l e R s m args below meth c H locs cells slots Q (F0 m pc ls (.int (iZ ((k : Nat) : Int)) :: rest)) := by
  refine va_newa (a0 := (k, .inl (aI (fun _ => 0)))) hx hb (atype := .boolean) harr rfl hK.1 hP hD hS hA (fun _ => rfl) (by rw [← iZ_0, iZ_lt (by omega) (by decide)]; omega) (iZ_ix rfl (by omega)) (by show k * 1 ≤ _; omega) hc.1 hc.2 hdg (fun q cA H1 hK1 hP1 hD1 hS1 => ?_)
  have h1 := va_nm_boolean ((hK1.2 4 (cA, .boolean) rfl).2)
  have h2 := va_nm_boolean ((hK.1.2 1 (Y 1, .boolean) rfl).2)
  have h3 : cA = Y 1 := Option.some.inj (h1.symm.trans h2)
  subst h3
  exact kk q H1 hP1 hD1 hS1
theorem z_newC (hx : p.tables.exec = Jvm.exec) (hb : c.code = cc) (harr : (Cond.arrayClass .char).before args s = true) (hK : wK G Y s) (hP : va_P G vwCl ws H) (hD : va_D A ws) (hS : va_S A H0 H locs) (hA : ∀ q, H0.size ≤ q → A q) {k : Nat} (hk : k < 1000) (hc : cells + 1 ≤ R.cells ∧ slots + k ≤ R.slots) (hdg : decode cc pc = .ok (.newarray .char, 2))
    (kk : ∀ (q : Nat) (H1 : Heap), va_P G vwCl (ws ++ [(q, .inl (Y 2, k, .inl (aI (fun _ => 0))))]) H1 → va_D A (ws ++ [(q, .inl (Y 2, k, .inl (aI (fun _ => 0))))]) → va_S A H0 H1 locs → W p l e R s m args below meth c H1 locs (cells + 1) (slots + k) Q (F0 m (pc + 2) ls (.ref q :: rest))) : W p l e R s m args below meth c H locs cells slots Q (F0 m pc ls (.int (iZ ((k : Nat) : Int)) :: rest)) := by
  refine va_newa (a0 := (k, .inl (aI (fun _ => 0)))) hx hb (atype := .char) harr rfl hK.1 hP hD hS hA (fun _ => rfl) (by rw [← iZ_0, iZ_lt (by omega) (by decide)]; omega) (iZ_ix rfl (by omega)) (by show k * 2 ≤ _; omega) hc.1 hc.2 hdg (fun q cA H1 hK1 hP1 hD1 hS1 => ?_)
  have h1 := va_nm_char ((hK1.2 4 (cA, .char) rfl).2)
  have h2 := va_nm_char ((hK.1.2 2 (Y 2, .char) rfl).2)
  have h3 : cA = Y 2 := Option.some.inj (h1.symm.trans h2)
  subst h3
  exact kk q H1 hP1 hD1 hS1
theorem z_newq (hx : p.tables.exec = Jvm.exec) (hb : c.code = cc) (hown : s.vm.findClass own = some m.cls) (hcl : (Cond.classLink own index RX0).before args s = true) (hO : va_AO RX0 s) (hK : wK G Y s) (hP : va_P G vwCl ws H) (hD : va_D A ws) (hS : va_S A H0 H locs) (hA : ∀ q, H0.size ≤ q → A q) {k : Nat} (hk : k < 1000) (hc : cells + 1 ≤ R.cells ∧ slots + k ≤ R.slots) (hdg : decode cc pc = .ok (.anewarray index, 3))
    (kk : ∀ (q : Nat) (H1 : Heap), va_P G vwCl (ws ++ [(q, .inl (Y 3, k, .inr (.inr (.inr (.inr (fun _ => none))))))]) H1 → va_D A (ws ++ [(q, .inl (Y 3, k, .inr (.inr (.inr (.inr (fun _ => none))))))]) → va_S A H0 H1 locs → W p l e R s m args below meth c H1 locs (cells + 1) (slots + k) Q (F0 m (pc + 3) ls (.ref q :: rest))) : W p l e R s m args below meth c H locs cells slots Q (F0 m pc ls (.int (iZ ((k : Nat) : Int)) :: rest)) := by
  refine va_newq (C := RX0) hx hb hown hcl hO hK.1 hP hD hS hA (by rw [← iZ_0, iZ_lt (by omega) (by decide)]; omega) (iZ_ix rfl (by omega)) (by omega) hc.1 hc.2 hdg (fun q cA H1 hK1 hP1 hD1 hS1 => ?_)
  have h1 := va_nmO ((hK1.2 4 (cA, .object RX0) rfl).2) rfl
  have h2 := va_nmO ((hK.1.2 3 (Y 3, .object RX0) rfl).2) rfl
  have h3 : cA = Y 3 := Option.some.inj (h1.symm.trans h2)
  subst h3
  exact kk q H1 hP1 hD1 hS1
end ZN
def kom0 : Kom := stA (fun _ _ => 0)
def ad7 (q1 q2 q3 q4 q5 q6 q7 : Nat) : Nat → Nat
  | 1 => q1
  | 2 => q2
  | 3 => q3
  | 4 => q4
  | 5 => q5
  | 6 => q6
  | _ => q7
def af10 (q1 q11 q12 q16 q17 q18 q19 q20 q21 q24 : Nat) : Nat → Nat
  | 1 => q1
  | 11 => q11
  | 12 => q12
  | 16 => q16
  | 17 => q17
  | 18 => q18
  | 19 => q19
  | 20 => q20
  | 21 => q21
  | _ => q24
