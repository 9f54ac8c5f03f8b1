/-! ===== Question, Past, ShadeVotes are made ===== -/
def cms (Y : Nat → ClassId) (hk : Nat → Nat) (adk : Nat → Nat → Nat) (i : Nat) : va_W := ((List.range i).map (fun j => cmW Y (hk j) (adk j) kom0)).flatten
theorem cms_s (Y : Nat → ClassId) (hk : Nat → Nat) (adk : Nat → Nat → Nat) (i q : Nat) (a : Nat → Nat) : cms Y (va_up hk i q) (va_up adk i a) (i + 1) = cms Y hk adk i ++ cmW Y q a kom0 := by
  have h1 : (List.range i).map (fun j => cmW Y (va_up hk i q j) (va_up adk i a j) kom0) = (List.range i).map (fun j => cmW Y (hk j) (adk j) kom0) := by
    refine List.map_congr_left (fun j hj => ?_)
    have hj2 : j ≠ i := by have := List.mem_range.mp hj; omega
    rw [up_ne _ _ hj2, up_ne _ _ hj2]
  have h2 : cmW Y (va_up hk i q i) (va_up adk i a i) kom0 = cmW Y q a kom0 := by rw [up_eq, up_eq]
  unfold cms
  rw [List.range_succ, List.map_append, List.flatten_append, h1]
  show _ ++ (cmW Y (va_up hk i q i) (va_up adk i a i) kom0 ++ []) = _
  rw [h2, List.append_nil]
def pfR (hk : Nat → Nat) (i : Nat) : Nat → Option Nat := fun j => if j < i then some (hk j) else none
theorem pfR_0 (hk : Nat → Nat) : pfR hk 0 = fun _ => none := by
  funext j
  exact if_neg (Nat.not_lt_zero j)
theorem pfR_s (hk : Nat → Nat) (i q : Nat) : va_up (pfR hk i) i (some q) = pfR (va_up hk i q) (i + 1) := by
  funext j
  unfold pfR va_up
  by_cases h : j = i
  · rw [if_pos h, if_pos (by omega), if_pos h]
  · rw [if_neg h]
    dsimp only
    by_cases h2 : j < i
    · rw [if_pos h2, if_pos (by omega), if_neg h]
    · rw [if_neg h2, if_neg (by omega)]
theorem at_refs {G : va_G} {cl : List vw_C} {a n : Nat} {cA : ClassId} {hk : Nat → Nat} {H : Heap} (h : va_at G cl (a, .inl (cA, n, .inr (.inr (.inr (.inr (pfR hk n)))))) H) : va_at G cl (a, .inl (cA, n, .inr (.inr (.inr (.inr (aR hk)))))) H := by
  show H[a]? = some (vp_cell cA (n, .inr (.inr (.inr (.inr (aR hk))))))
  have e : vp_cell cA (n, .inr (.inr (.inr (.inr (aR hk))))) = vp_cell cA (n, .inr (.inr (.inr (.inr (pfR hk n))))) := by
    rw [vp_cell_q, vp_cell_q]
    unfold arrV
    congr 2
    funext j
    show va_rf (some (hk j.val)) = va_rf (pfR hk n j.val)
    unfold pfR
    rw [if_pos j.isLt]
  rw [e]
  exact h

theorem df_X0 : ∀ j, j < 14 → defaultValue (tyX0 j) = vp_V [.int (iZ 0), .int (iZ 0), .int (iZ 0), .int (iZ 0), .int (iZ 0), .int (iZ 0), .int (iZ 0), .null, .null, .null, .null, .null, .null, .null] j := fun j hj => by rcases (show j = 0 ∨ j = 1 ∨ j = 2 ∨ j = 3 ∨ j = 4 ∨ j = 5 ∨ j = 6 ∨ j = 7 ∨ j = 8 ∨ j = 9 ∨ j = 10 ∨ j = 11 ∨ j = 12 ∨ j = 13 by omega) with rfl | rfl | rfl | rfl | rfl | rfl | rfl | rfl | rfl | rfl | rfl | rfl | rfl | rfl <;> rfl

theorem df_X1 : ∀ j, j < 1 → defaultValue (tyX1 j) = vp_V [.long 0] j := fun j hj => by rcases (show j = 0 by omega) with rfl <;> rfl

theorem df_X2 : ∀ j, j < 3 → defaultValue (tyX2 j) = vp_V [.null, .int (iZ 0), .int (iZ 0)] j := fun j hj => by rcases (show j = 0 ∨ j = 1 ∨ j = 2 by omega) with rfl | rfl | rfl <;> rfl

theorem df_X3 : ∀ j, j < 3 → defaultValue (tyX3 j) = vp_V [.null, .null, .null] j := fun j hj => by rcases (show j = 0 ∨ j = 1 ∨ j = 2 by omega) with rfl | rfl | rfl <;> rfl

theorem df_X4 : ∀ j, j < 3 → defaultValue (tyX4 j) = vp_V [.null, .null, .int (iZ 0)] j := fun j hj => by rcases (show j = 0 ∨ j = 1 ∨ j = 2 by omega) with rfl | rfl | rfl <;> rfl

theorem df_X5 : ∀ j, j < 6 → defaultValue (tyX5 j) = vp_V [.null, .int (iZ 0), .int (iZ 0), .int (iZ 0), .int (iZ 0), .int (iZ 0)] j := fun j hj => by rcases (show j = 0 ∨ j = 1 ∨ j = 2 ∨ j = 3 ∨ j = 4 ∨ j = 5 by omega) with rfl | rfl | rfl | rfl | rfl | rfl <;> rfl

theorem df_X6 : ∀ j, j < 9 → defaultValue (tyX6 j) = vp_V [.null, .null, .null, .null, .null, .null, .null, .null, .null] j := fun j hj => by rcases (show j = 0 ∨ j = 1 ∨ j = 2 ∨ j = 3 ∨ j = 4 ∨ j = 5 ∨ j = 6 ∨ j = 7 ∨ j = 8 by omega) with rfl | rfl | rfl | rfl | rfl | rfl | rfl | rfl | rfl <;> rfl

theorem df_X7 : ∀ j, j < 29 → defaultValue (tyX7 j) = vp_V [.int (iZ 0), .null, .int (iZ 0), .int (iZ 0), .int (iZ 0), .int (iZ 0), .int (iZ 0), .int (iZ 0), .int (iZ 0), .int (iZ 0), .int (iZ 0), .null, .null, .int (iZ 0), .int (iZ 0), .int (iZ 0), .null, .null, .null, .null, .null, .null, .int (iZ 0), .int (iZ 0), .null, .long 0, .int (iZ 0), .int (iZ 0), .int (iZ 0)] j := fun j hj => by rcases (show j = 0 ∨ j = 1 ∨ j = 2 ∨ j = 3 ∨ j = 4 ∨ j = 5 ∨ j = 6 ∨ j = 7 ∨ j = 8 ∨ j = 9 ∨ j = 10 ∨ j = 11 ∨ j = 12 ∨ j = 13 ∨ j = 14 ∨ j = 15 ∨ j = 16 ∨ j = 17 ∨ j = 18 ∨ j = 19 ∨ j = 20 ∨ j = 21 ∨ j = 22 ∨ j = 23 ∨ j = 24 ∨ j = 25 ∨ j = 26 ∨ j = 27 ∨ j = 28 by omega) with rfl | rfl | rfl | rfl | rfl | rfl | rfl | rfl | rfl | rfl | rfl | rfl | rfl | rfl | rfl | rfl | rfl | rfl | rfl | rfl | rfl | rfl | rfl | rfl | rfl | rfl | rfl | rfl | rfl <;> rfl

set_option maxHeartbeats 4000000 in
set_option maxRecDepth 100000 in
theorem c_X3_init (l : Launch) (G : va_G) (Y : Nat → ClassId) (h0 sz : Nat) : Met l yX3_init wsX3_init ({ frames := 2, cells := 10, slots := 72, locals := 41 }) (nP G Y h0 (.inr (3, [.null, .null, .null])) sz) (nQ G h0 sz (fun u : Nat × Nat × Nat × (Nat → Nat) => quW Y h0 u.1 u.2.1 u.2.2.1 (fun _ => 0) (fun _ => 0) ++ cmW Y u.1 u.2.2.2 kom0)) 10 72 (nA h0 sz) := by
  refine Met.ofW (cc := cX3_init) (maxL := 1) (ret := none) (by decide) rfl ?_
  intro p e s m args below meth c s₁ B hml hv
  obtain ⟨rfl, hsz, ⟨hK, hO⟩, hP⟩ := hv
  have hx := B.exec
  have hb := B.bytes
  have hr := B.returns
  have hts := atoms_spec (ws := wsX3_init) B.pre
  have hown : s.vm.findClass RX3 = some m.cls := findClass_of_methodNamed B.named
  have hin : meth.name = "<init>" := (name_of_methodNamed B.named B.method).1
  subst hsz
  have hD : va_D (nA h0 s.heap.size) [(h0, .inr (3, [.null, .null, .null]))] := va_D_1 (Or.inl rfl)
  have hA0 : ∀ q : Nat, s.heap.size ≤ q → nA h0 s.heap.size q := fun q h => Or.inr h
  generalize hAe : nA h0 s.heap.size = A at hD hA0 ⊢
  have hS : va_S A s.heap s.heap [] := va_S.rf
  have hl := lv_entry ([.ref h0]) (n := 1) (Nat.le_of_ble_eq_true rfl)
  rw [lg_entry_eq]
  generalize (lg_sl ([.ref h0]) ++ List.replicate (1 - (lg_sl ([.ref h0])).length) Slot.unset).toArray = ls at hl ⊢
  replace hl : lv_has ls 1 [(0, .ref h0)] := hl
  have hFX0 : ∀ w ∈ wsX00, w ∈ wsX3_init := by decide +kernel
  have hFX3 : ∀ w ∈ wsX30, w ∈ wsX3_init := by decide +kernel
  refine lv_aload_n hx hb dX3_init_0 rfl (lv_at hl 0 rfl) ?_
  refine W.objInit hx hb hown (hts (.methodLink RX3 3 objectInit) (by decide +kernel)) (hts (.instanceMethod objectInit) (by decide +kernel)) (hts (.code objectInit ⟨#[0xb1]⟩ 1 none) (by decide +kernel)) rfl (by rw [hml]; exact hl.1) rfl dX3_init_1 (Nat.le_of_ble_eq_true rfl) (Nat.le_of_ble_eq_true rfl) ?_
  refine W.eq (g2 := F0 m 4 ls []) rfl ?_
  refine lv_aload_n hx hb dX3_init_4 rfl (lv_at hl 0 rfl) ?_
  refine va_new (ci := 0) (fs := [.int (iZ 0), .int (iZ 0), .int (iZ 0), .int (iZ 0), .int (iZ 0), .int (iZ 0), .int (iZ 0), .null, .null, .null, .null, .null, .null, .null]) (C := RX0) (T := TX0) (N := 14) hx hb hts hFX0 tyX0 tyX0_ok hown (hts (.classLink RX3 9 RX0) (by decide +kernel)) (hts (.instantiable RX0 14) (by decide +kernel)) (hts (.initialized RX0) (by decide +kernel)) hK.1 hP hD hS hA0 rfl df_X0 (Nat.le_of_ble_eq_true rfl) (Nat.le_of_ble_eq_true rfl) dX3_init_5 (fun q1 H hP hD hS => ?_)
  replace hP := va_P_pm List.perm_append_comm hP
  replace hD := va_D_pm List.perm_append_comm hD
  refine lv_dup hx hb dX3_init_8 rfl ?_
  refine cn_I (e0 := .inr (0, [.int (iZ 0), .int (iZ 0), .int (iZ 0), .int (iZ 0), .int (iZ 0), .int (iZ 0), .int (iZ 0), .null, .null, .null, .null, .null, .null, .null])) (F := [(h0, .inr (3, [.null, .null, .null]))]) (rest := [.ref q1, .ref h0]) ⟨hx, hb, hml, hown, hts⟩ (fun sz => c_X0_init l G Y q1 sz) (cwI 0 hts gX3_init_X0_init rfl rfl rfl (hts (.initialized RX0) (by decide +kernel)) (hts (.methodLink RX3 11 yX0_init) (by decide +kernel)) (hts (.instanceMethod yX0_init) (by decide +kernel)) rfl (by decide +kernel) ⟨Nat.le_of_ble_eq_true rfl, Nat.le_of_ble_eq_true rfl⟩) hK hO hP hD hS hA0 hl.1 rfl (Nat.le_of_ble_eq_true rfl) dX3_init_9 ⟨Nat.le_of_ble_eq_true rfl, Nat.le_of_ble_eq_true rfl⟩ (fun u H locs hP hD hS => ?_)
  replace hP := hP.sub (ws' := [(h0, .inr (3, [.null, .null, .null])), (q1, .inr (0, [.int (iZ (kom0 0 0)), .int (iZ (kom0 0 1)), .int (iZ (kom0 0 2)), .int (iZ (kom0 0 3)), .int (iZ (kom0 0 4)), .int (iZ (kom0 0 5)), .int (iZ (kom0 0 6)), .ref (u 1), .ref (u 2), .ref (u 3), .ref (u 4), .ref (u 5), .ref (u 6), .ref (u 7)])), (u 1, .inl (Y 0, 6, .inl (aI (kom0 1)))), (u 2, .inl (Y 0, 6, .inl (aI (kom0 2)))), (u 3, .inl (Y 0, 6, .inl (aI (kom0 3)))), (u 4, .inl (Y 1, 6, .inl (aI (kom0 4)))), (u 5, .inl (Y 1, 6, .inl (aI (kom0 5)))), (u 6, .inl (Y 0, 7, .inl (aI (kom0 6)))), (u 7, .inl (Y 0, 7, .inl (aI (kom0 7))))]) [8, 0, 1, 2, 3, 4, 5, 6, 7] rfl
  replace hD := hD.sub (ws' := [(h0, .inr (3, [.null, .null, .null])), (q1, .inr (0, [.int (iZ (kom0 0 0)), .int (iZ (kom0 0 1)), .int (iZ (kom0 0 2)), .int (iZ (kom0 0 3)), .int (iZ (kom0 0 4)), .int (iZ (kom0 0 5)), .int (iZ (kom0 0 6)), .ref (u 1), .ref (u 2), .ref (u 3), .ref (u 4), .ref (u 5), .ref (u 6), .ref (u 7)])), (u 1, .inl (Y 0, 6, .inl (aI (kom0 1)))), (u 2, .inl (Y 0, 6, .inl (aI (kom0 2)))), (u 3, .inl (Y 0, 6, .inl (aI (kom0 3)))), (u 4, .inl (Y 1, 6, .inl (aI (kom0 4)))), (u 5, .inl (Y 1, 6, .inl (aI (kom0 5)))), (u 6, .inl (Y 0, 7, .inl (aI (kom0 6)))), (u 7, .inl (Y 0, 7, .inl (aI (kom0 7))))]) [8, 0, 1, 2, 3, 4, 5, 6, 7] (by decide) rfl
  refine va_putF (D := G) (ci := 3) (v := .ref q1) (ty := .object "ShadeVotes$Commune") (C := RX3) (T := TX3) (N := 3) hx hb hts hFX3 tyX3 tyX3_ok nmX3 hown hK.1 hP hD hS 0 rfl rfl 0 (by decide) (hts (.fieldLink RX3 12 "ShadeVotes$Question" "trial" "LShadeVotes$Commune;") (by decide +kernel)) (fun _ h9 => h9) rfl hin rfl (by decide +kernel) rfl rfl (Nat.le_of_ble_eq_true rfl) dX3_init_12 (fun H locs hP hD hS => ?_)
  replace hP : va_P G vwCl ([(h0, .inr (3, [.ref q1, .null, .null])), (q1, .inr (0, [.int (iZ (kom0 0 0)), .int (iZ (kom0 0 1)), .int (iZ (kom0 0 2)), .int (iZ (kom0 0 3)), .int (iZ (kom0 0 4)), .int (iZ (kom0 0 5)), .int (iZ (kom0 0 6)), .ref (u 1), .ref (u 2), .ref (u 3), .ref (u 4), .ref (u 5), .ref (u 6), .ref (u 7)])), (u 1, .inl (Y 0, 6, .inl (aI (kom0 1)))), (u 2, .inl (Y 0, 6, .inl (aI (kom0 2)))), (u 3, .inl (Y 0, 6, .inl (aI (kom0 3)))), (u 4, .inl (Y 1, 6, .inl (aI (kom0 4)))), (u 5, .inl (Y 1, 6, .inl (aI (kom0 5)))), (u 6, .inl (Y 0, 7, .inl (aI (kom0 6)))), (u 7, .inl (Y 0, 7, .inl (aI (kom0 7))))]) H := hP
  replace hD : va_D A ([(h0, .inr (3, [.ref q1, .null, .null])), (q1, .inr (0, [.int (iZ (kom0 0 0)), .int (iZ (kom0 0 1)), .int (iZ (kom0 0 2)), .int (iZ (kom0 0 3)), .int (iZ (kom0 0 4)), .int (iZ (kom0 0 5)), .int (iZ (kom0 0 6)), .ref (u 1), .ref (u 2), .ref (u 3), .ref (u 4), .ref (u 5), .ref (u 6), .ref (u 7)])), (u 1, .inl (Y 0, 6, .inl (aI (kom0 1)))), (u 2, .inl (Y 0, 6, .inl (aI (kom0 2)))), (u 3, .inl (Y 0, 6, .inl (aI (kom0 3)))), (u 4, .inl (Y 1, 6, .inl (aI (kom0 4)))), (u 5, .inl (Y 1, 6, .inl (aI (kom0 5)))), (u 6, .inl (Y 0, 7, .inl (aI (kom0 6)))), (u 7, .inl (Y 0, 7, .inl (aI (kom0 7))))]) := hD
  refine lv_aload_n hx hb dX3_init_15 rfl (lv_at hl 0 rfl) ?_
  refine z_bipush hx hb dX3_init_16 (by decide) ?_
  refine z_newI (k := 7) hx hb (hts (.arrayClass .int) (by decide +kernel)) hK hP hD hS hA0 (by decide) ⟨Nat.le_of_ble_eq_true rfl, Nat.le_of_ble_eq_true rfl⟩ dX3_init_18 (fun q2 H hP hD hS => ?_)
  replace hP : va_P G vwCl ([(h0, .inr (3, [.ref q1, .null, .null])), (q1, .inr (0, [.int (iZ (kom0 0 0)), .int (iZ (kom0 0 1)), .int (iZ (kom0 0 2)), .int (iZ (kom0 0 3)), .int (iZ (kom0 0 4)), .int (iZ (kom0 0 5)), .int (iZ (kom0 0 6)), .ref (u 1), .ref (u 2), .ref (u 3), .ref (u 4), .ref (u 5), .ref (u 6), .ref (u 7)])), (u 1, .inl (Y 0, 6, .inl (aI (kom0 1)))), (u 2, .inl (Y 0, 6, .inl (aI (kom0 2)))), (u 3, .inl (Y 0, 6, .inl (aI (kom0 3)))), (u 4, .inl (Y 1, 6, .inl (aI (kom0 4)))), (u 5, .inl (Y 1, 6, .inl (aI (kom0 5)))), (u 6, .inl (Y 0, 7, .inl (aI (kom0 6)))), (u 7, .inl (Y 0, 7, .inl (aI (kom0 7)))), (q2, .inl (Y 0, 7, .inl (aI (fun _ => 0))))]) H := hP
  replace hD : va_D A ([(h0, .inr (3, [.ref q1, .null, .null])), (q1, .inr (0, [.int (iZ (kom0 0 0)), .int (iZ (kom0 0 1)), .int (iZ (kom0 0 2)), .int (iZ (kom0 0 3)), .int (iZ (kom0 0 4)), .int (iZ (kom0 0 5)), .int (iZ (kom0 0 6)), .ref (u 1), .ref (u 2), .ref (u 3), .ref (u 4), .ref (u 5), .ref (u 6), .ref (u 7)])), (u 1, .inl (Y 0, 6, .inl (aI (kom0 1)))), (u 2, .inl (Y 0, 6, .inl (aI (kom0 2)))), (u 3, .inl (Y 0, 6, .inl (aI (kom0 3)))), (u 4, .inl (Y 1, 6, .inl (aI (kom0 4)))), (u 5, .inl (Y 1, 6, .inl (aI (kom0 5)))), (u 6, .inl (Y 0, 7, .inl (aI (kom0 6)))), (u 7, .inl (Y 0, 7, .inl (aI (kom0 7)))), (q2, .inl (Y 0, 7, .inl (aI (fun _ => 0))))]) := hD
  refine va_putF (D := G) (ci := 3) (v := .ref q2) (ty := .array .int) (C := RX3) (T := TX3) (N := 3) hx hb hts hFX3 tyX3 tyX3_ok nmX3 hown hK.1 hP hD hS 0 rfl rfl 1 (by decide) (hts (.fieldLink RX3 18 "ShadeVotes$Question" "voteElse" "[I") (by decide +kernel)) (fun _ h9 => h9) rfl hin rfl (by decide +kernel) rfl rfl (Nat.le_of_ble_eq_true rfl) dX3_init_20 (fun H locs hP hD hS => ?_)
  replace hP : va_P G vwCl ([(h0, .inr (3, [.ref q1, .ref q2, .null])), (q1, .inr (0, [.int (iZ (kom0 0 0)), .int (iZ (kom0 0 1)), .int (iZ (kom0 0 2)), .int (iZ (kom0 0 3)), .int (iZ (kom0 0 4)), .int (iZ (kom0 0 5)), .int (iZ (kom0 0 6)), .ref (u 1), .ref (u 2), .ref (u 3), .ref (u 4), .ref (u 5), .ref (u 6), .ref (u 7)])), (u 1, .inl (Y 0, 6, .inl (aI (kom0 1)))), (u 2, .inl (Y 0, 6, .inl (aI (kom0 2)))), (u 3, .inl (Y 0, 6, .inl (aI (kom0 3)))), (u 4, .inl (Y 1, 6, .inl (aI (kom0 4)))), (u 5, .inl (Y 1, 6, .inl (aI (kom0 5)))), (u 6, .inl (Y 0, 7, .inl (aI (kom0 6)))), (u 7, .inl (Y 0, 7, .inl (aI (kom0 7)))), (q2, .inl (Y 0, 7, .inl (aI (fun _ => 0))))]) H := hP
  replace hD : va_D A ([(h0, .inr (3, [.ref q1, .ref q2, .null])), (q1, .inr (0, [.int (iZ (kom0 0 0)), .int (iZ (kom0 0 1)), .int (iZ (kom0 0 2)), .int (iZ (kom0 0 3)), .int (iZ (kom0 0 4)), .int (iZ (kom0 0 5)), .int (iZ (kom0 0 6)), .ref (u 1), .ref (u 2), .ref (u 3), .ref (u 4), .ref (u 5), .ref (u 6), .ref (u 7)])), (u 1, .inl (Y 0, 6, .inl (aI (kom0 1)))), (u 2, .inl (Y 0, 6, .inl (aI (kom0 2)))), (u 3, .inl (Y 0, 6, .inl (aI (kom0 3)))), (u 4, .inl (Y 1, 6, .inl (aI (kom0 4)))), (u 5, .inl (Y 1, 6, .inl (aI (kom0 5)))), (u 6, .inl (Y 0, 7, .inl (aI (kom0 6)))), (u 7, .inl (Y 0, 7, .inl (aI (kom0 7)))), (q2, .inl (Y 0, 7, .inl (aI (fun _ => 0))))]) := hD
  refine lv_aload_n hx hb dX3_init_23 rfl (lv_at hl 0 rfl) ?_
  refine z_bipush hx hb dX3_init_24 (by decide) ?_
  refine z_newI (k := 7) hx hb (hts (.arrayClass .int) (by decide +kernel)) hK hP hD hS hA0 (by decide) ⟨Nat.le_of_ble_eq_true rfl, Nat.le_of_ble_eq_true rfl⟩ dX3_init_26 (fun q3 H hP hD hS => ?_)
  replace hP : va_P G vwCl ([(h0, .inr (3, [.ref q1, .ref q2, .null])), (q1, .inr (0, [.int (iZ (kom0 0 0)), .int (iZ (kom0 0 1)), .int (iZ (kom0 0 2)), .int (iZ (kom0 0 3)), .int (iZ (kom0 0 4)), .int (iZ (kom0 0 5)), .int (iZ (kom0 0 6)), .ref (u 1), .ref (u 2), .ref (u 3), .ref (u 4), .ref (u 5), .ref (u 6), .ref (u 7)])), (u 1, .inl (Y 0, 6, .inl (aI (kom0 1)))), (u 2, .inl (Y 0, 6, .inl (aI (kom0 2)))), (u 3, .inl (Y 0, 6, .inl (aI (kom0 3)))), (u 4, .inl (Y 1, 6, .inl (aI (kom0 4)))), (u 5, .inl (Y 1, 6, .inl (aI (kom0 5)))), (u 6, .inl (Y 0, 7, .inl (aI (kom0 6)))), (u 7, .inl (Y 0, 7, .inl (aI (kom0 7)))), (q2, .inl (Y 0, 7, .inl (aI (fun _ => 0)))), (q3, .inl (Y 0, 7, .inl (aI (fun _ => 0))))]) H := hP
  replace hD : va_D A ([(h0, .inr (3, [.ref q1, .ref q2, .null])), (q1, .inr (0, [.int (iZ (kom0 0 0)), .int (iZ (kom0 0 1)), .int (iZ (kom0 0 2)), .int (iZ (kom0 0 3)), .int (iZ (kom0 0 4)), .int (iZ (kom0 0 5)), .int (iZ (kom0 0 6)), .ref (u 1), .ref (u 2), .ref (u 3), .ref (u 4), .ref (u 5), .ref (u 6), .ref (u 7)])), (u 1, .inl (Y 0, 6, .inl (aI (kom0 1)))), (u 2, .inl (Y 0, 6, .inl (aI (kom0 2)))), (u 3, .inl (Y 0, 6, .inl (aI (kom0 3)))), (u 4, .inl (Y 1, 6, .inl (aI (kom0 4)))), (u 5, .inl (Y 1, 6, .inl (aI (kom0 5)))), (u 6, .inl (Y 0, 7, .inl (aI (kom0 6)))), (u 7, .inl (Y 0, 7, .inl (aI (kom0 7)))), (q2, .inl (Y 0, 7, .inl (aI (fun _ => 0)))), (q3, .inl (Y 0, 7, .inl (aI (fun _ => 0))))]) := hD
  refine va_putF (D := G) (ci := 3) (v := .ref q3) (ty := .array .int) (C := RX3) (T := TX3) (N := 3) hx hb hts hFX3 tyX3 tyX3_ok nmX3 hown hK.1 hP hD hS 0 rfl rfl 2 (by decide) (hts (.fieldLink RX3 22 "ShadeVotes$Question" "voteIfChosen" "[I") (by decide +kernel)) (fun _ h9 => h9) rfl hin rfl (by decide +kernel) rfl rfl (Nat.le_of_ble_eq_true rfl) dX3_init_28 (fun H locs hP hD hS => ?_)
  replace hP : va_P G vwCl ([(h0, .inr (3, [.ref q1, .ref q2, .ref q3])), (q1, .inr (0, [.int (iZ (kom0 0 0)), .int (iZ (kom0 0 1)), .int (iZ (kom0 0 2)), .int (iZ (kom0 0 3)), .int (iZ (kom0 0 4)), .int (iZ (kom0 0 5)), .int (iZ (kom0 0 6)), .ref (u 1), .ref (u 2), .ref (u 3), .ref (u 4), .ref (u 5), .ref (u 6), .ref (u 7)])), (u 1, .inl (Y 0, 6, .inl (aI (kom0 1)))), (u 2, .inl (Y 0, 6, .inl (aI (kom0 2)))), (u 3, .inl (Y 0, 6, .inl (aI (kom0 3)))), (u 4, .inl (Y 1, 6, .inl (aI (kom0 4)))), (u 5, .inl (Y 1, 6, .inl (aI (kom0 5)))), (u 6, .inl (Y 0, 7, .inl (aI (kom0 6)))), (u 7, .inl (Y 0, 7, .inl (aI (kom0 7)))), (q2, .inl (Y 0, 7, .inl (aI (fun _ => 0)))), (q3, .inl (Y 0, 7, .inl (aI (fun _ => 0))))]) H := hP
  replace hD : va_D A ([(h0, .inr (3, [.ref q1, .ref q2, .ref q3])), (q1, .inr (0, [.int (iZ (kom0 0 0)), .int (iZ (kom0 0 1)), .int (iZ (kom0 0 2)), .int (iZ (kom0 0 3)), .int (iZ (kom0 0 4)), .int (iZ (kom0 0 5)), .int (iZ (kom0 0 6)), .ref (u 1), .ref (u 2), .ref (u 3), .ref (u 4), .ref (u 5), .ref (u 6), .ref (u 7)])), (u 1, .inl (Y 0, 6, .inl (aI (kom0 1)))), (u 2, .inl (Y 0, 6, .inl (aI (kom0 2)))), (u 3, .inl (Y 0, 6, .inl (aI (kom0 3)))), (u 4, .inl (Y 1, 6, .inl (aI (kom0 4)))), (u 5, .inl (Y 1, 6, .inl (aI (kom0 5)))), (u 6, .inl (Y 0, 7, .inl (aI (kom0 6)))), (u 7, .inl (Y 0, 7, .inl (aI (kom0 7)))), (q2, .inl (Y 0, 7, .inl (aI (fun _ => 0)))), (q3, .inl (Y 0, 7, .inl (aI (fun _ => 0))))]) := hD
  have hP9 := hP.sub (ws' := quW Y h0 q1 q2 q3 (fun _ => 0) (fun _ => 0) ++ cmW Y q1 u kom0) [0, 9, 10, 1, 2, 3, 4, 5, 6, 7, 8] rfl
  have hD9 := hD.sub (ws' := quW Y h0 q1 q2 q3 (fun _ => 0) (fun _ => 0) ++ cmW Y q1 u kom0) [0, 9, 10, 1, 2, 3, 4, 5, 6, 7, 8] (by decide) rfl
  refine W.widen (k := 10) (n := 72) (Nat.le_of_ble_eq_true rfl) (Nat.le_of_ble_eq_true rfl) ?_
  subst hAe
  exact W.vret hx hb hr (fun t9 ht9 _ => ⟨rfl, ⟨(q1, q2, q3, u), by rw [ht9]; exact hP9, hD9⟩, hS.F ht9⟩) hS.2.2 dX3_init_31

set_option maxHeartbeats 4000000 in
set_option maxRecDepth 100000 in
theorem c_X2_init (l : Launch) (G : va_G) (Y : Nat → ClassId) (h0 sz : Nat) : Met l yX2_init wsX2_init ({ frames := 2, cells := 81, slots := 590, locals := 41 }) (nP G Y h0 (.inr (2, [.null, .int (iZ 0), .int (iZ 0)])) sz) (nQ G h0 sz (fun u : Nat × (Nat → Nat) × (Nat → Nat → Nat) => paW Y h0 u.1 u.2.1 0 0 ++ cms Y u.2.1 u.2.2 10)) 81 590 (nA h0 sz) := by
  refine Met.ofW (cc := cX2_init) (maxL := 2) (ret := none) (by decide) rfl ?_
  intro p e s m args below meth c s₁ B hml hv
  obtain ⟨rfl, hsz, ⟨hK, hO⟩, hP⟩ := hv
  have hx := B.exec
  have hb := B.bytes
  have hr := B.returns
  have hts := atoms_spec (ws := wsX2_init) B.pre
  have hown : s.vm.findClass RX2 = some m.cls := findClass_of_methodNamed B.named
  have hin : meth.name = "<init>" := (name_of_methodNamed B.named B.method).1
  subst hsz
  have hD : va_D (nA h0 s.heap.size) [(h0, .inr (2, [.null, .int (iZ 0), .int (iZ 0)]))] := va_D_1 (Or.inl rfl)
  have hA0 : ∀ q : Nat, s.heap.size ≤ q → nA h0 s.heap.size q := fun q h => Or.inr h
  generalize hAe : nA h0 s.heap.size = A at hD hA0 ⊢
  have hS : va_S A s.heap s.heap [] := va_S.rf
  have hl := lv_entry ([.ref h0]) (n := 2) (Nat.le_of_ble_eq_true rfl)
  rw [lg_entry_eq]
  generalize (lg_sl ([.ref h0]) ++ List.replicate (2 - (lg_sl ([.ref h0])).length) Slot.unset).toArray = ls at hl ⊢
  replace hl : lv_has ls 2 [(0, .ref h0)] := hl
  have hFX0 : ∀ w ∈ wsX00, w ∈ wsX2_init := by decide +kernel
  have hFX2 : ∀ w ∈ wsX20, w ∈ wsX2_init := by decide +kernel
  refine lv_aload_n hx hb dX2_init_0 rfl (lv_at hl 0 rfl) ?_
  refine W.objInit hx hb hown (hts (.methodLink RX2 3 objectInit) (by decide +kernel)) (hts (.instanceMethod objectInit) (by decide +kernel)) (hts (.code objectInit ⟨#[0xb1]⟩ 1 none) (by decide +kernel)) rfl (by rw [hml]; exact hl.1) rfl dX2_init_1 (Nat.le_of_ble_eq_true rfl) (Nat.le_of_ble_eq_true rfl) ?_
  refine W.eq (g2 := F0 m 4 ls []) rfl ?_
  refine lv_aload_n hx hb dX2_init_4 rfl (lv_at hl 0 rfl) ?_
  refine z_bipush hx hb dX2_init_5 (by decide) ?_
  refine z_newq (k := 10) hx hb hown (hts (.classLink RX2 9 RX0) (by decide +kernel)) hO hK hP hD hS hA0 (by decide) ⟨Nat.le_of_ble_eq_true rfl, Nat.le_of_ble_eq_true rfl⟩ dX2_init_7 (fun q1 H hP hD hS => ?_)
  replace hP : va_P G vwCl ([(h0, .inr (2, [.null, .int (iZ 0), .int (iZ 0)])), (q1, .inl (Y 3, 10, .inr (.inr (.inr (.inr (fun _ => none))))))]) H := hP
  replace hD : va_D A ([(h0, .inr (2, [.null, .int (iZ 0), .int (iZ 0)])), (q1, .inl (Y 3, 10, .inr (.inr (.inr (.inr (fun _ => none))))))]) := hD
  refine va_putF (D := G) (ci := 2) (v := .ref q1) (ty := .array (.object "ShadeVotes$Commune")) (C := RX2) (T := TX2) (N := 3) hx hb hts hFX2 tyX2 tyX2_ok nmX2 hown hK.1 hP hD hS 0 rfl rfl 0 (by decide) (hts (.fieldLink RX2 11 "ShadeVotes$Past" "known" "[LShadeVotes$Commune;") (by decide +kernel)) (fun _ h9 => h9) rfl hin rfl (by decide +kernel) rfl rfl (Nat.le_of_ble_eq_true rfl) dX2_init_10 (fun H locs hP hD hS => ?_)
  replace hP : va_P G vwCl ([(h0, .inr (2, [.ref q1, .int (iZ 0), .int (iZ 0)])), (q1, .inl (Y 3, 10, .inr (.inr (.inr (.inr (fun _ => none))))))]) H := hP
  replace hD : va_D A ([(h0, .inr (2, [.ref q1, .int (iZ 0), .int (iZ 0)])), (q1, .inl (Y 3, 10, .inr (.inr (.inr (.inr (fun _ => none))))))]) := hD
  refine z_iconst hx hb dX2_init_13 ?_
  refine lv_istore_n (lv' := [(1, .int (iZ 0)), (0, .ref h0)]) hx hb dX2_init_14 rfl hl (by decide) rfl (fun ls hl => ?_)
  obtain ⟨i, hk, adk, hi0, hiN, hl1, hP1, hD1⟩ : ∃ (i : Nat) (hk : Nat → Nat) (adk : Nat → Nat → Nat), i = 0 ∧ i ≤ 10 ∧ lv_has ls 2 [(1, .int (iZ ((i : Nat) : Int))), (0, .ref h0)] ∧ va_P G vwCl ((h0, .inr (2, [.ref q1, .int (iZ 0), .int (iZ 0)])) :: (q1, .inl (Y 3, 10, .inr (.inr (.inr (.inr (pfR hk i)))))) :: (cms Y hk adk i ++ [])) H ∧ va_D A ((h0, .inr (2, [.ref q1, .int (iZ 0), .int (iZ 0)])) :: (q1, .inl (Y 3, 10, .inr (.inr (.inr (.inr (pfR hk i)))))) :: (cms Y hk adk i ++ [])) := ⟨0, fun _ => 0, fun _ _ => 0, rfl, by decide, hl, by rw [pfR_0]; exact hP, by rw [pfR_0]; exact hD⟩
  refine W.widen (k := 1 + 8 * i) (n := 10 + 58 * i) (show _ ≤ _ from by rw [hi0]; exact Nat.le_of_ble_eq_true rfl) (show _ ≤ _ from by rw [hi0]; exact Nat.le_of_ble_eq_true rfl) ?_
  clear hl hP hD hi0
  have hl := hl1
  have hP := hP1
  have hD := hD1
  clear hl1 hP1 hD1
  obtain ⟨n_, hn_⟩ : ∃ n_ : Nat, 10 - i < n_ := ⟨_, Nat.lt_succ_self _⟩
  induction n_ generalizing i hk adk ls H locs with
  | zero => exact absurd hn_ (Nat.not_lt_zero _)
  | succ n_ ih =>
    refine lv_iload_n hx hb dX2_init_15 rfl (lv_at hl 0 rfl) ?_
    refine z_bipush hx hb dX2_init_16 (by decide) ?_
    refine z_icmp_ge (tgt := 40) hx hb dX2_init_18 (by decide) (by omega) (fun c_1 => ?_) (fun c_1 => ?_)
    · skip
      have hi9 : i = 10 := by omega
      subst hi9
      rw [List.append_nil] at hP hD
      have hP9 : va_P G vwCl (paW Y h0 q1 hk 0 0 ++ cms Y hk adk 10) H := by
        have h1 := va_P_mem.mp hP
        refine va_P_mem.mpr (fun x hx9 => ?_)
        rcases List.mem_cons.mp hx9 with rfl | hx9
        · exact h1 _ List.mem_cons_self
        · rcases List.mem_cons.mp hx9 with rfl | hx9
          · exact at_refs (h1 _ (List.mem_cons_of_mem _ List.mem_cons_self))
          · exact h1 x (List.mem_cons_of_mem _ (List.mem_cons_of_mem _ hx9))
      have hD9 : va_D A (paW Y h0 q1 hk 0 0 ++ cms Y hk adk 10) := by refine va_D_congr ?_ hD; rfl
      refine W.widen (k := 81) (n := 590) (by omega) (by omega) ?_
      subst hAe
      exact W.vret hx hb hr (fun t9 ht9 _ => ⟨rfl, ⟨(q1, hk, adk), by rw [ht9]; exact hP9, hD9⟩, hS.F ht9⟩) hS.2.2 dX2_init_40
    · skip
      refine lv_aload_n hx hb dX2_init_21 rfl (lv_at hl 1 rfl) ?_
      refine va_get (D := G) (ci := 2) (v := .ref q1) (C := RX2) (T := TX2) (N := 3) hx hb hts hFX2 hown hK.1 hP 0 rfl rfl 0 (by decide) (hts (.fieldLink RX2 11 "ShadeVotes$Past" "known" "[LShadeVotes$Commune;") (by decide +kernel)) (fun _ h9 => h9) rfl dX2_init_22 ?_
      refine lv_iload_n hx hb dX2_init_25 rfl (lv_at hl 0 rfl) ?_
      refine va_new (ci := 0) (fs := [.int (iZ 0), .int (iZ 0), .int (iZ 0), .int (iZ 0), .int (iZ 0), .int (iZ 0), .int (iZ 0), .null, .null, .null, .null, .null, .null, .null]) (C := RX0) (T := TX0) (N := 14) hx hb hts hFX0 tyX0 tyX0_ok hown (hts (.classLink RX2 9 RX0) (by decide +kernel)) (hts (.instantiable RX0 14) (by decide +kernel)) (hts (.initialized RX0) (by decide +kernel)) hK.1 hP hD hS hA0 rfl df_X0 (show 1 + 8 * i + 1 ≤ 81 by omega) (show 10 + 58 * i + 14 ≤ 590 by omega) dX2_init_26 (fun q H hP hD hS => ?_)
      replace hP := va_P_pm List.perm_append_comm hP
      replace hD := va_D_pm List.perm_append_comm hD
      refine lv_dup hx hb dX2_init_29 rfl ?_
      refine cn_I (e0 := .inr (0, [.int (iZ 0), .int (iZ 0), .int (iZ 0), .int (iZ 0), .int (iZ 0), .int (iZ 0), .int (iZ 0), .null, .null, .null, .null, .null, .null, .null])) (F := (h0, .inr (2, [.ref q1, .int (iZ 0), .int (iZ 0)])) :: (q1, .inl (Y 3, 10, .inr (.inr (.inr (.inr (pfR hk i)))))) :: (cms Y hk adk i ++ [])) (rest := [.ref q, .int (iZ ((i : Nat) : Int)), .ref q1]) ⟨hx, hb, hml, hown, hts⟩ (fun sz => c_X0_init l G Y q sz) (cwI 0 hts gX2_init_X0_init rfl rfl rfl (hts (.initialized RX0) (by decide +kernel)) (hts (.methodLink RX2 17 yX0_init) (by decide +kernel)) (hts (.instanceMethod yX0_init) (by decide +kernel)) rfl (by decide +kernel) ⟨Nat.le_of_ble_eq_true rfl, Nat.le_of_ble_eq_true rfl⟩) hK hO hP hD hS hA0 hl.1 rfl (Nat.le_of_ble_eq_true rfl) dX2_init_30 ⟨show 1 + 8 * i + 1 + 7 ≤ 81 by omega, show 10 + 58 * i + 14 + 44 ≤ 590 by omega⟩ (fun u H locs hP hD hS => ?_)
      refine va_astq hx hb hK.1 hP hD hS 9 3 0 0 rfl rfl rfl rfl (iZ_in (i := i) rfl (by omega) (by decide)) dX2_init_33 (fun H locs hP hD hS => ?_)
      rw [iZ_ix (i := i) rfl (by omega), pfR_s] at hP hD
      have pm : List.Perm (cmW Y q u kom0 ++ ((h0, .inr (2, [.ref q1, .int (iZ 0), .int (iZ 0)])) :: (q1, .inl (Y 3, 10, .inr (.inr (.inr (.inr (pfR (va_up hk i q) (i + 1))))))) :: (cms Y hk adk i ++ []))) ((h0, .inr (2, [.ref q1, .int (iZ 0), .int (iZ 0)])) :: (q1, .inl (Y 3, 10, .inr (.inr (.inr (.inr (pfR (va_up hk i q) (i + 1))))))) :: (cms Y (va_up hk i q) (va_up adk i u) (i + 1) ++ [])) := by
        rw [cms_s, List.append_assoc (cms Y hk adk i)]
        refine List.Perm.trans List.perm_middle (List.Perm.cons _ (List.Perm.trans List.perm_middle (List.Perm.cons _ ?_)))
        exact List.perm_append_comm_assoc _ _ _
      replace hP : va_P G vwCl ((h0, .inr (2, [.ref q1, .int (iZ 0), .int (iZ 0)])) :: (q1, .inl (Y 3, 10, .inr (.inr (.inr (.inr (pfR (va_up hk i q) (i + 1))))))) :: (cms Y (va_up hk i q) (va_up adk i u) (i + 1) ++ [])) H := va_P_pm pm hP
      replace hD : va_D A ((h0, .inr (2, [.ref q1, .int (iZ 0), .int (iZ 0)])) :: (q1, .inl (Y 3, 10, .inr (.inr (.inr (.inr (pfR (va_up hk i q) (i + 1))))))) :: (cms Y (va_up hk i q) (va_up adk i u) (i + 1) ++ [])) := va_D_pm pm hD
      refine lv_iinc (v := iZ ((i + 1 : Nat) : Int)) (lv' := [(1, .int (iZ ((i + 1 : Nat) : Int))), (0, .ref h0)]) hx hb dX2_init_34 hl (k := 0) rfl (iZ_inc _) (by decide) rfl (fun ls hl => ?_)
      refine lv_goto (tgt := 15) hx hb dX2_init_37 (by decide) ?_
      refine W.widen (k := 1 + 8 * (i + 1)) (n := 10 + 58 * (i + 1)) (show _ ≤ _ by omega) (show _ ≤ _ by omega) ?_
      exact ih (ls := ls) (i := i + 1) (hk := va_up hk i q) (adk := va_up adk i u) (H := H) (locs := locs) (hS := hS) (hiN := by omega) (hl := hl) (hP := hP) (hD := hD) (hn_ := by omega)
