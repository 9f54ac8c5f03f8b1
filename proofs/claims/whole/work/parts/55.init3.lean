def aq16 (a1 a2 a3 a4 a5 a6 a7 a8 a9 a10 a11 a12 a13 a14 a15 a16 : Nat) : Nat → Nat
  | 1 => a1
  | 2 => a2
  | 3 => a3
  | 4 => a4
  | 5 => a5
  | 6 => a6
  | 7 => a7
  | 8 => a8
  | 9 => a9
  | 10 => a10
  | 11 => a11
  | 12 => a12
  | 13 => a13
  | 14 => a14
  | 15 => a15
  | _ => a16
def aQ5 (f0 f1 f2 f3 f4 : Nat → Nat) : Nat → Nat → Nat
  | 0 => f0
  | 1 => f1
  | 2 => f2
  | 3 => f3
  | _ => f4
/-- where the cells of a ShadeVotes are: single ones, rows, the communes of the past and of the images -/
abbrev svU : Type := (Nat → Nat) × (Nat → Nat → Nat) × (Nat → Nat → Nat) × (Nat → Nat → Nat)
abbrev sv0 (Y : Nat → ClassId) (h0 : Nat) (u : svU) : va_W := svO Y h0 (u.1 1) (u.1 2) (u.1 3) (u.1 4) (u.1 5) (u.1 6) (u.1 7) (u.1 8) (u.1 9) ++ (imW Y (u.1 8) (u.2.1 4) ++ (cms Y (u.2.1 4) u.2.2.2 2 ++ (ikW Y (u.1 9) (fun _ => 0) ++ (kiW Y (u.1 7) 0 ++ (tlW Y (u.1 6) (u.1 15) (u.1 16) (fun _ => 0) (fun _ => 0) 0 ++ ((quW Y (u.1 5) (u.1 12) (u.1 13) (u.1 14) (fun _ => 0) (fun _ => 0) ++ cmW Y (u.1 12) (u.2.1 3) kom0) ++ ((paW Y (u.1 4) (u.1 11) (u.2.1 2) 0 0 ++ cms Y (u.2.1 2) u.2.2.1 10) ++ (cmW Y (u.1 3) (u.2.1 1) kom0 ++ (cmW Y (u.1 2) (u.2.1 0) kom0 ++ (txW Y (u.1 1) (u.1 10) (fun _ => 0) 0 0 false 0 0 ++ []))))))))))

set_option maxHeartbeats 4000000 in
set_option maxRecDepth 100000 in
theorem c_X6_init (l : Launch) (G : va_G) (Y : Nat → ClassId) (h0 sz : Nat) : Met l yX6_init wsX6_init ({ frames := 3, cells := 133, slots := 1124, locals := 62 }) (nP G Y h0 (.inr (6, [.null, .null, .null, .null, .null, .null, .null, .null, .null])) sz) (nQ G h0 sz (fun u : svU => sv0 Y h0 u)) 133 1124 (nA h0 sz) := by
  refine Met.ofW (cc := cX6_init) (maxL := 2) (ret := none) (by decide) rfl ?_
  intro p e s m args below meth c s₁ B hml hv
  obtain ⟨rfl, hsz, ⟨hK, hO⟩, hP⟩ := hv
  have hx := B.exec
  have hb := B.bytes
  have hr := B.returns
  have hts := atoms_spec (ws := wsX6_init) B.pre
  have hown : s.vm.findClass RX6 = some m.cls := findClass_of_methodNamed B.named
  have hin : meth.name = "<init>" := (name_of_methodNamed B.named B.method).1
  subst hsz
  have hD : va_D (nA h0 s.heap.size) [(h0, .inr (6, [.null, .null, .null, .null, .null, .null, .null, .null, .null]))] := va_D_1 (Or.inl rfl)
  have hA0 : ∀ q : Nat, s.heap.size ≤ q → nA h0 s.heap.size q := fun q h => Or.inr h
  generalize hAe : nA h0 s.heap.size = A at hD hA0 ⊢
  have hS : va_S A s.heap s.heap [] := va_S.rf
  have hl := lv_entry ([.ref h0]) (n := 2) (Nat.le_of_ble_eq_true rfl)
  rw [lg_entry_eq]
  generalize (lg_sl ([.ref h0]) ++ List.replicate (2 - (lg_sl ([.ref h0])).length) Slot.unset).toArray = ls at hl ⊢
  replace hl : lv_has ls 2 [(0, .ref h0)] := hl
  have hFX0 : ∀ w ∈ wsX00, w ∈ wsX6_init := by decide +kernel
  have hFX1 : ∀ w ∈ wsX10, w ∈ wsX6_init := by decide +kernel
  have hFX2 : ∀ w ∈ wsX20, w ∈ wsX6_init := by decide +kernel
  have hFX3 : ∀ w ∈ wsX30, w ∈ wsX6_init := by decide +kernel
  have hFX4 : ∀ w ∈ wsX40, w ∈ wsX6_init := by decide +kernel
  have hFX5 : ∀ w ∈ wsX50, w ∈ wsX6_init := by decide +kernel
  have hFX6 : ∀ w ∈ wsX60, w ∈ wsX6_init := by decide +kernel
  refine lv_aload_n hx hb dX6_init_0 rfl (lv_at hl 0 rfl) ?_
  refine W.objInit hx hb hown (hts (.methodLink RX6 1 objectInit) (by decide +kernel)) (hts (.instanceMethod objectInit) (by decide +kernel)) (hts (.code objectInit ⟨#[0xb1]⟩ 1 none) (by decide +kernel)) rfl (by rw [hml]; exact hl.1) rfl dX6_init_1 (Nat.le_of_ble_eq_true rfl) (Nat.le_of_ble_eq_true rfl) ?_
  refine W.eq (g2 := F0 m 4 ls []) rfl ?_
  replace hP : va_P G vwCl ((h0, .inr (6, [.null, .null, .null, .null, .null, .null, .null, .null, .null])) :: ([])) _ := hP
  replace hD : va_D A ((h0, .inr (6, [.null, .null, .null, .null, .null, .null, .null, .null, .null])) :: ([])) := hD
  refine lv_aload_n hx hb dX6_init_4 rfl (lv_at hl 0 rfl) ?_
  refine va_new (ci := 5) (fs := [.null, .int (iZ 0), .int (iZ 0), .int (iZ 0), .int (iZ 0), .int (iZ 0)]) (C := RX5) (T := TX5) (N := 6) hx hb hts hFX5 tyX5 tyX5_ok hown (hts (.classLink RX6 7 RX5) (by decide +kernel)) (hts (.instantiable RX5 6) (by decide +kernel)) (hts (.initialized RX5) (by decide +kernel)) hK.1 hP hD hS hA0 rfl df_X5 (Nat.le_of_ble_eq_true rfl) (Nat.le_of_ble_eq_true rfl) dX6_init_5 (fun a1 H hP hD hS => ?_)
  replace hP := va_P_pm List.perm_append_comm hP
  replace hD := va_D_pm List.perm_append_comm hD
  refine lv_dup hx hb dX6_init_8 rfl ?_
  refine cn_IN (e0 := .inr (5, [.null, .int (iZ 0), .int (iZ 0), .int (iZ 0), .int (iZ 0), .int (iZ 0)])) (F := (h0, .inr (6, [.null, .null, .null, .null, .null, .null, .null, .null, .null])) :: ([])) (rest := [.ref a1, .ref h0]) ⟨hx, hb, hml, hown, hts⟩ (fun sz => c_X5_init l G Y a1 sz) ⟨va_cnB 0 hts gX6_init_X5_init_n9 rfl rfl rfl hK.2.2.2.2.1 (hts (.initialized RX5) (by decide +kernel)) (by decide +kernel) ⟨Nat.le_of_ble_eq_true rfl, Nat.le_of_ble_eq_true rfl⟩, rfl, hts (.instanceMethod yX5_init) (by decide +kernel)⟩ hK hO hP hD hS hA0 hl.1 rfl (Nat.le_of_ble_eq_true rfl) dX6_init_9 ⟨Nat.le_of_ble_eq_true rfl, Nat.le_of_ble_eq_true rfl⟩ (fun a10 H locs hP hD hS => ?_)
  replace hP : va_P G vwCl ((h0, .inr (6, [.null, .null, .null, .null, .null, .null, .null, .null, .null])) :: (txW Y a1 a10 (fun _ => 0) 0 0 false 0 0 ++ ([]))) H := va_P_pm List.perm_middle hP
  replace hD : va_D A ((h0, .inr (6, [.null, .null, .null, .null, .null, .null, .null, .null, .null])) :: (txW Y a1 a10 (fun _ => 0) 0 0 false 0 0 ++ ([]))) := va_D_pm List.perm_middle hD
  refine va_putF (D := G) (ci := 6) (v := .ref a1) (ty := .object "ShadeVotes$Text") (C := RX6) (T := TX6) (N := 9) hx hb hts hFX6 tyX6 tyX6_ok nmX6 hown hK.1 hP hD hS 0 rfl rfl 0 (by decide) (hts (.fieldLink RX6 10 "ShadeVotes" "text" "LShadeVotes$Text;") (by decide +kernel)) (fun _ h9 => h9) rfl hin rfl (by decide +kernel) rfl rfl (Nat.le_of_ble_eq_true rfl) dX6_init_12 (fun H locs hP hD hS => ?_)
  replace hP : va_P G vwCl ((h0, .inr (6, [.ref a1, .null, .null, .null, .null, .null, .null, .null, .null])) :: (txW Y a1 a10 (fun _ => 0) 0 0 false 0 0 ++ ([]))) H := hP
  replace hD : va_D A ((h0, .inr (6, [.ref a1, .null, .null, .null, .null, .null, .null, .null, .null])) :: (txW Y a1 a10 (fun _ => 0) 0 0 false 0 0 ++ ([]))) := hD
  refine lv_aload_n hx hb dX6_init_15 rfl (lv_at hl 0 rfl) ?_
  refine va_new (ci := 0) (fs := [.int (iZ 0), .int (iZ 0), .int (iZ 0), .int (iZ 0), .int (iZ 0), .int (iZ 0), .int (iZ 0), .null, .null, .null, .null, .null, .null, .null]) (C := RX0) (T := TX0) (N := 14) hx hb hts hFX0 tyX0 tyX0_ok hown (hts (.classLink RX6 16 RX0) (by decide +kernel)) (hts (.instantiable RX0 14) (by decide +kernel)) (hts (.initialized RX0) (by decide +kernel)) hK.1 hP hD hS hA0 rfl df_X0 (Nat.le_of_ble_eq_true rfl) (Nat.le_of_ble_eq_true rfl) dX6_init_16 (fun a2 H hP hD hS => ?_)
  replace hP := va_P_pm List.perm_append_comm hP
  replace hD := va_D_pm List.perm_append_comm hD
  refine lv_dup hx hb dX6_init_19 rfl ?_
  refine cn_I (e0 := .inr (0, [.int (iZ 0), .int (iZ 0), .int (iZ 0), .int (iZ 0), .int (iZ 0), .int (iZ 0), .int (iZ 0), .null, .null, .null, .null, .null, .null, .null])) (F := (h0, .inr (6, [.ref a1, .null, .null, .null, .null, .null, .null, .null, .null])) :: (txW Y a1 a10 (fun _ => 0) 0 0 false 0 0 ++ ([]))) (rest := [.ref a2, .ref h0]) ⟨hx, hb, hml, hown, hts⟩ (fun sz => c_X0_init l G Y a2 sz) (cwI 0 hts gX6_init_X0_init rfl rfl rfl (hts (.initialized RX0) (by decide +kernel)) (hts (.methodLink RX6 18 yX0_init) (by decide +kernel)) (hts (.instanceMethod yX0_init) (by decide +kernel)) rfl (by decide +kernel) ⟨Nat.le_of_ble_eq_true rfl, Nat.le_of_ble_eq_true rfl⟩) hK hO hP hD hS hA0 hl.1 rfl (Nat.le_of_ble_eq_true rfl) dX6_init_20 ⟨Nat.le_of_ble_eq_true rfl, Nat.le_of_ble_eq_true rfl⟩ (fun f0 H locs hP hD hS => ?_)
  replace hP : va_P G vwCl ((h0, .inr (6, [.ref a1, .null, .null, .null, .null, .null, .null, .null, .null])) :: (cmW Y a2 f0 kom0 ++ (txW Y a1 a10 (fun _ => 0) 0 0 false 0 0 ++ ([])))) H := va_P_pm List.perm_middle hP
  replace hD : va_D A ((h0, .inr (6, [.ref a1, .null, .null, .null, .null, .null, .null, .null, .null])) :: (cmW Y a2 f0 kom0 ++ (txW Y a1 a10 (fun _ => 0) 0 0 false 0 0 ++ ([])))) := va_D_pm List.perm_middle hD
  refine va_putF (D := G) (ci := 6) (v := .ref a2) (ty := .object "ShadeVotes$Commune") (C := RX6) (T := TX6) (N := 9) hx hb hts hFX6 tyX6 tyX6_ok nmX6 hown hK.1 hP hD hS 0 rfl rfl 1 (by decide) (hts (.fieldLink RX6 19 "ShadeVotes" "present" "LShadeVotes$Commune;") (by decide +kernel)) (fun _ h9 => h9) rfl hin rfl (by decide +kernel) rfl rfl (Nat.le_of_ble_eq_true rfl) dX6_init_23 (fun H locs hP hD hS => ?_)
  replace hP : va_P G vwCl ((h0, .inr (6, [.ref a1, .ref a2, .null, .null, .null, .null, .null, .null, .null])) :: (cmW Y a2 f0 kom0 ++ (txW Y a1 a10 (fun _ => 0) 0 0 false 0 0 ++ ([])))) H := hP
  replace hD : va_D A ((h0, .inr (6, [.ref a1, .ref a2, .null, .null, .null, .null, .null, .null, .null])) :: (cmW Y a2 f0 kom0 ++ (txW Y a1 a10 (fun _ => 0) 0 0 false 0 0 ++ ([])))) := hD
  refine lv_aload_n hx hb dX6_init_26 rfl (lv_at hl 0 rfl) ?_
  refine va_new (ci := 0) (fs := [.int (iZ 0), .int (iZ 0), .int (iZ 0), .int (iZ 0), .int (iZ 0), .int (iZ 0), .int (iZ 0), .null, .null, .null, .null, .null, .null, .null]) (C := RX0) (T := TX0) (N := 14) hx hb hts hFX0 tyX0 tyX0_ok hown (hts (.classLink RX6 16 RX0) (by decide +kernel)) (hts (.instantiable RX0 14) (by decide +kernel)) (hts (.initialized RX0) (by decide +kernel)) hK.1 hP hD hS hA0 rfl df_X0 (Nat.le_of_ble_eq_true rfl) (Nat.le_of_ble_eq_true rfl) dX6_init_27 (fun a3 H hP hD hS => ?_)
  replace hP := va_P_pm List.perm_append_comm hP
  replace hD := va_D_pm List.perm_append_comm hD
  refine lv_dup hx hb dX6_init_30 rfl ?_
  refine cn_I (e0 := .inr (0, [.int (iZ 0), .int (iZ 0), .int (iZ 0), .int (iZ 0), .int (iZ 0), .int (iZ 0), .int (iZ 0), .null, .null, .null, .null, .null, .null, .null])) (F := (h0, .inr (6, [.ref a1, .ref a2, .null, .null, .null, .null, .null, .null, .null])) :: (cmW Y a2 f0 kom0 ++ (txW Y a1 a10 (fun _ => 0) 0 0 false 0 0 ++ ([])))) (rest := [.ref a3, .ref h0]) ⟨hx, hb, hml, hown, hts⟩ (fun sz => c_X0_init l G Y a3 sz) (cwI 0 hts gX6_init_X0_init rfl rfl rfl (hts (.initialized RX0) (by decide +kernel)) (hts (.methodLink RX6 18 yX0_init) (by decide +kernel)) (hts (.instanceMethod yX0_init) (by decide +kernel)) rfl (by decide +kernel) ⟨Nat.le_of_ble_eq_true rfl, Nat.le_of_ble_eq_true rfl⟩) hK hO hP hD hS hA0 hl.1 rfl (Nat.le_of_ble_eq_true rfl) dX6_init_31 ⟨Nat.le_of_ble_eq_true rfl, Nat.le_of_ble_eq_true rfl⟩ (fun f1 H locs hP hD hS => ?_)
  replace hP : va_P G vwCl ((h0, .inr (6, [.ref a1, .ref a2, .null, .null, .null, .null, .null, .null, .null])) :: (cmW Y a3 f1 kom0 ++ (cmW Y a2 f0 kom0 ++ (txW Y a1 a10 (fun _ => 0) 0 0 false 0 0 ++ ([]))))) H := va_P_pm List.perm_middle hP
  replace hD : va_D A ((h0, .inr (6, [.ref a1, .ref a2, .null, .null, .null, .null, .null, .null, .null])) :: (cmW Y a3 f1 kom0 ++ (cmW Y a2 f0 kom0 ++ (txW Y a1 a10 (fun _ => 0) 0 0 false 0 0 ++ ([]))))) := va_D_pm List.perm_middle hD
  refine va_putF (D := G) (ci := 6) (v := .ref a3) (ty := .object "ShadeVotes$Commune") (C := RX6) (T := TX6) (N := 9) hx hb hts hFX6 tyX6 tyX6_ok nmX6 hown hK.1 hP hD hS 0 rfl rfl 2 (by decide) (hts (.fieldLink RX6 23 "ShadeVotes" "told" "LShadeVotes$Commune;") (by decide +kernel)) (fun _ h9 => h9) rfl hin rfl (by decide +kernel) rfl rfl (Nat.le_of_ble_eq_true rfl) dX6_init_34 (fun H locs hP hD hS => ?_)
  replace hP : va_P G vwCl ((h0, .inr (6, [.ref a1, .ref a2, .ref a3, .null, .null, .null, .null, .null, .null])) :: (cmW Y a3 f1 kom0 ++ (cmW Y a2 f0 kom0 ++ (txW Y a1 a10 (fun _ => 0) 0 0 false 0 0 ++ ([]))))) H := hP
  replace hD : va_D A ((h0, .inr (6, [.ref a1, .ref a2, .ref a3, .null, .null, .null, .null, .null, .null])) :: (cmW Y a3 f1 kom0 ++ (cmW Y a2 f0 kom0 ++ (txW Y a1 a10 (fun _ => 0) 0 0 false 0 0 ++ ([]))))) := hD
  refine lv_aload_n hx hb dX6_init_37 rfl (lv_at hl 0 rfl) ?_
  refine va_new (ci := 2) (fs := [.null, .int (iZ 0), .int (iZ 0)]) (C := RX2) (T := TX2) (N := 3) hx hb hts hFX2 tyX2 tyX2_ok hown (hts (.classLink RX6 26 RX2) (by decide +kernel)) (hts (.instantiable RX2 3) (by decide +kernel)) (hts (.initialized RX2) (by decide +kernel)) hK.1 hP hD hS hA0 rfl df_X2 (Nat.le_of_ble_eq_true rfl) (Nat.le_of_ble_eq_true rfl) dX6_init_38 (fun a4 H hP hD hS => ?_)
  replace hP := va_P_pm List.perm_append_comm hP
  replace hD := va_D_pm List.perm_append_comm hD
  refine lv_dup hx hb dX6_init_41 rfl ?_
  refine cn_I (e0 := .inr (2, [.null, .int (iZ 0), .int (iZ 0)])) (F := (h0, .inr (6, [.ref a1, .ref a2, .ref a3, .null, .null, .null, .null, .null, .null])) :: (cmW Y a3 f1 kom0 ++ (cmW Y a2 f0 kom0 ++ (txW Y a1 a10 (fun _ => 0) 0 0 false 0 0 ++ ([]))))) (rest := [.ref a4, .ref h0]) ⟨hx, hb, hml, hown, hts⟩ (fun sz => c_X2_init l G Y a4 sz) (cwI 0 hts gX6_init_X2_init rfl rfl rfl (hts (.initialized RX2) (by decide +kernel)) (hts (.methodLink RX6 28 yX2_init) (by decide +kernel)) (hts (.instanceMethod yX2_init) (by decide +kernel)) rfl (by decide +kernel) ⟨Nat.le_of_ble_eq_true rfl, Nat.le_of_ble_eq_true rfl⟩) hK hO hP hD hS hA0 hl.1 rfl (Nat.le_of_ble_eq_true rfl) dX6_init_42 ⟨Nat.le_of_ble_eq_true rfl, Nat.le_of_ble_eq_true rfl⟩ (fun u4 H locs hP hD hS => ?_)
  replace hP : va_P G vwCl ((h0, .inr (6, [.ref a1, .ref a2, .ref a3, .null, .null, .null, .null, .null, .null])) :: ((paW Y a4 u4.1 u4.2.1 0 0 ++ cms Y u4.2.1 u4.2.2 10) ++ (cmW Y a3 f1 kom0 ++ (cmW Y a2 f0 kom0 ++ (txW Y a1 a10 (fun _ => 0) 0 0 false 0 0 ++ ([])))))) H := va_P_pm List.perm_middle hP
  replace hD : va_D A ((h0, .inr (6, [.ref a1, .ref a2, .ref a3, .null, .null, .null, .null, .null, .null])) :: ((paW Y a4 u4.1 u4.2.1 0 0 ++ cms Y u4.2.1 u4.2.2 10) ++ (cmW Y a3 f1 kom0 ++ (cmW Y a2 f0 kom0 ++ (txW Y a1 a10 (fun _ => 0) 0 0 false 0 0 ++ ([])))))) := va_D_pm List.perm_middle hD
  refine va_putF (D := G) (ci := 6) (v := .ref a4) (ty := .object "ShadeVotes$Past") (C := RX6) (T := TX6) (N := 9) hx hb hts hFX6 tyX6 tyX6_ok nmX6 hown hK.1 hP hD hS 0 rfl rfl 3 (by decide) (hts (.fieldLink RX6 29 "ShadeVotes" "past" "LShadeVotes$Past;") (by decide +kernel)) (fun _ h9 => h9) rfl hin rfl (by decide +kernel) rfl rfl (Nat.le_of_ble_eq_true rfl) dX6_init_45 (fun H locs hP hD hS => ?_)
  replace hP : va_P G vwCl ((h0, .inr (6, [.ref a1, .ref a2, .ref a3, .ref a4, .null, .null, .null, .null, .null])) :: ((paW Y a4 u4.1 u4.2.1 0 0 ++ cms Y u4.2.1 u4.2.2 10) ++ (cmW Y a3 f1 kom0 ++ (cmW Y a2 f0 kom0 ++ (txW Y a1 a10 (fun _ => 0) 0 0 false 0 0 ++ ([])))))) H := hP
  replace hD : va_D A ((h0, .inr (6, [.ref a1, .ref a2, .ref a3, .ref a4, .null, .null, .null, .null, .null])) :: ((paW Y a4 u4.1 u4.2.1 0 0 ++ cms Y u4.2.1 u4.2.2 10) ++ (cmW Y a3 f1 kom0 ++ (cmW Y a2 f0 kom0 ++ (txW Y a1 a10 (fun _ => 0) 0 0 false 0 0 ++ ([])))))) := hD
  refine lv_aload_n hx hb dX6_init_48 rfl (lv_at hl 0 rfl) ?_
  refine va_new (ci := 3) (fs := [.null, .null, .null]) (C := RX3) (T := TX3) (N := 3) hx hb hts hFX3 tyX3 tyX3_ok hown (hts (.classLink RX6 33 RX3) (by decide +kernel)) (hts (.instantiable RX3 3) (by decide +kernel)) (hts (.initialized RX3) (by decide +kernel)) hK.1 hP hD hS hA0 rfl df_X3 (Nat.le_of_ble_eq_true rfl) (Nat.le_of_ble_eq_true rfl) dX6_init_49 (fun a5 H hP hD hS => ?_)
  replace hP := va_P_pm List.perm_append_comm hP
  replace hD := va_D_pm List.perm_append_comm hD
  refine lv_dup hx hb dX6_init_52 rfl ?_
  refine cn_IN (e0 := .inr (3, [.null, .null, .null])) (F := (h0, .inr (6, [.ref a1, .ref a2, .ref a3, .ref a4, .null, .null, .null, .null, .null])) :: ((paW Y a4 u4.1 u4.2.1 0 0 ++ cms Y u4.2.1 u4.2.2 10) ++ (cmW Y a3 f1 kom0 ++ (cmW Y a2 f0 kom0 ++ (txW Y a1 a10 (fun _ => 0) 0 0 false 0 0 ++ ([])))))) (rest := [.ref a5, .ref h0]) ⟨hx, hb, hml, hown, hts⟩ (fun sz => c_X3_init l G Y a5 sz) ⟨va_cnB 0 hts gX6_init_X3_init_n35 rfl rfl rfl hK.2.1 (hts (.initialized RX3) (by decide +kernel)) (by decide +kernel) ⟨Nat.le_of_ble_eq_true rfl, Nat.le_of_ble_eq_true rfl⟩, rfl, hts (.instanceMethod yX3_init) (by decide +kernel)⟩ hK hO hP hD hS hA0 hl.1 rfl (Nat.le_of_ble_eq_true rfl) dX6_init_53 ⟨Nat.le_of_ble_eq_true rfl, Nat.le_of_ble_eq_true rfl⟩ (fun u5 H locs hP hD hS => ?_)
  replace hP : va_P G vwCl ((h0, .inr (6, [.ref a1, .ref a2, .ref a3, .ref a4, .null, .null, .null, .null, .null])) :: ((quW Y a5 u5.1 u5.2.1 u5.2.2.1 (fun _ => 0) (fun _ => 0) ++ cmW Y u5.1 u5.2.2.2 kom0) ++ ((paW Y a4 u4.1 u4.2.1 0 0 ++ cms Y u4.2.1 u4.2.2 10) ++ (cmW Y a3 f1 kom0 ++ (cmW Y a2 f0 kom0 ++ (txW Y a1 a10 (fun _ => 0) 0 0 false 0 0 ++ ([]))))))) H := va_P_pm List.perm_middle hP
  replace hD : va_D A ((h0, .inr (6, [.ref a1, .ref a2, .ref a3, .ref a4, .null, .null, .null, .null, .null])) :: ((quW Y a5 u5.1 u5.2.1 u5.2.2.1 (fun _ => 0) (fun _ => 0) ++ cmW Y u5.1 u5.2.2.2 kom0) ++ ((paW Y a4 u4.1 u4.2.1 0 0 ++ cms Y u4.2.1 u4.2.2 10) ++ (cmW Y a3 f1 kom0 ++ (cmW Y a2 f0 kom0 ++ (txW Y a1 a10 (fun _ => 0) 0 0 false 0 0 ++ ([]))))))) := va_D_pm List.perm_middle hD
  refine va_putF (D := G) (ci := 6) (v := .ref a5) (ty := .object "ShadeVotes$Question") (C := RX6) (T := TX6) (N := 9) hx hb hts hFX6 tyX6 tyX6_ok nmX6 hown hK.1 hP hD hS 0 rfl rfl 4 (by decide) (hts (.fieldLink RX6 36 "ShadeVotes" "question" "LShadeVotes$Question;") (by decide +kernel)) (fun _ h9 => h9) rfl hin rfl (by decide +kernel) rfl rfl (Nat.le_of_ble_eq_true rfl) dX6_init_56 (fun H locs hP hD hS => ?_)
  replace hP : va_P G vwCl ((h0, .inr (6, [.ref a1, .ref a2, .ref a3, .ref a4, .ref a5, .null, .null, .null, .null])) :: ((quW Y a5 u5.1 u5.2.1 u5.2.2.1 (fun _ => 0) (fun _ => 0) ++ cmW Y u5.1 u5.2.2.2 kom0) ++ ((paW Y a4 u4.1 u4.2.1 0 0 ++ cms Y u4.2.1 u4.2.2 10) ++ (cmW Y a3 f1 kom0 ++ (cmW Y a2 f0 kom0 ++ (txW Y a1 a10 (fun _ => 0) 0 0 false 0 0 ++ ([]))))))) H := hP
  replace hD : va_D A ((h0, .inr (6, [.ref a1, .ref a2, .ref a3, .ref a4, .ref a5, .null, .null, .null, .null])) :: ((quW Y a5 u5.1 u5.2.1 u5.2.2.1 (fun _ => 0) (fun _ => 0) ++ cmW Y u5.1 u5.2.2.2 kom0) ++ ((paW Y a4 u4.1 u4.2.1 0 0 ++ cms Y u4.2.1 u4.2.2 10) ++ (cmW Y a3 f1 kom0 ++ (cmW Y a2 f0 kom0 ++ (txW Y a1 a10 (fun _ => 0) 0 0 false 0 0 ++ ([]))))))) := hD
  refine lv_aload_n hx hb dX6_init_59 rfl (lv_at hl 0 rfl) ?_
  refine va_new (ci := 4) (fs := [.null, .null, .int (iZ 0)]) (C := RX4) (T := TX4) (N := 3) hx hb hts hFX4 tyX4 tyX4_ok hown (hts (.classLink RX6 40 RX4) (by decide +kernel)) (hts (.instantiable RX4 3) (by decide +kernel)) (hts (.initialized RX4) (by decide +kernel)) hK.1 hP hD hS hA0 rfl df_X4 (Nat.le_of_ble_eq_true rfl) (Nat.le_of_ble_eq_true rfl) dX6_init_60 (fun a6 H hP hD hS => ?_)
  replace hP := va_P_pm List.perm_append_comm hP
  replace hD := va_D_pm List.perm_append_comm hD
  refine lv_dup hx hb dX6_init_63 rfl ?_
  refine cn_IN (e0 := .inr (4, [.null, .null, .int (iZ 0)])) (F := (h0, .inr (6, [.ref a1, .ref a2, .ref a3, .ref a4, .ref a5, .null, .null, .null, .null])) :: ((quW Y a5 u5.1 u5.2.1 u5.2.2.1 (fun _ => 0) (fun _ => 0) ++ cmW Y u5.1 u5.2.2.2 kom0) ++ ((paW Y a4 u4.1 u4.2.1 0 0 ++ cms Y u4.2.1 u4.2.2 10) ++ (cmW Y a3 f1 kom0 ++ (cmW Y a2 f0 kom0 ++ (txW Y a1 a10 (fun _ => 0) 0 0 false 0 0 ++ ([]))))))) (rest := [.ref a6, .ref h0]) ⟨hx, hb, hml, hown, hts⟩ (fun sz => c_X4_init l G Y a6 sz) ⟨va_cnB 0 hts gX6_init_X4_init_n42 rfl rfl rfl hK.2.2.1 (hts (.initialized RX4) (by decide +kernel)) (by decide +kernel) ⟨Nat.le_of_ble_eq_true rfl, Nat.le_of_ble_eq_true rfl⟩, rfl, hts (.instanceMethod yX4_init) (by decide +kernel)⟩ hK hO hP hD hS hA0 hl.1 rfl (Nat.le_of_ble_eq_true rfl) dX6_init_64 ⟨Nat.le_of_ble_eq_true rfl, Nat.le_of_ble_eq_true rfl⟩ (fun u6 H locs hP hD hS => ?_)
  replace hP : va_P G vwCl ((h0, .inr (6, [.ref a1, .ref a2, .ref a3, .ref a4, .ref a5, .null, .null, .null, .null])) :: (tlW Y a6 u6.1 u6.2 (fun _ => 0) (fun _ => 0) 0 ++ ((quW Y a5 u5.1 u5.2.1 u5.2.2.1 (fun _ => 0) (fun _ => 0) ++ cmW Y u5.1 u5.2.2.2 kom0) ++ ((paW Y a4 u4.1 u4.2.1 0 0 ++ cms Y u4.2.1 u4.2.2 10) ++ (cmW Y a3 f1 kom0 ++ (cmW Y a2 f0 kom0 ++ (txW Y a1 a10 (fun _ => 0) 0 0 false 0 0 ++ ([])))))))) H := va_P_pm List.perm_middle hP
  replace hD : va_D A ((h0, .inr (6, [.ref a1, .ref a2, .ref a3, .ref a4, .ref a5, .null, .null, .null, .null])) :: (tlW Y a6 u6.1 u6.2 (fun _ => 0) (fun _ => 0) 0 ++ ((quW Y a5 u5.1 u5.2.1 u5.2.2.1 (fun _ => 0) (fun _ => 0) ++ cmW Y u5.1 u5.2.2.2 kom0) ++ ((paW Y a4 u4.1 u4.2.1 0 0 ++ cms Y u4.2.1 u4.2.2 10) ++ (cmW Y a3 f1 kom0 ++ (cmW Y a2 f0 kom0 ++ (txW Y a1 a10 (fun _ => 0) 0 0 false 0 0 ++ ([])))))))) := va_D_pm List.perm_middle hD
  refine va_putF (D := G) (ci := 6) (v := .ref a6) (ty := .object "ShadeVotes$Tally") (C := RX6) (T := TX6) (N := 9) hx hb hts hFX6 tyX6 tyX6_ok nmX6 hown hK.1 hP hD hS 0 rfl rfl 5 (by decide) (hts (.fieldLink RX6 43 "ShadeVotes" "tally" "LShadeVotes$Tally;") (by decide +kernel)) (fun _ h9 => h9) rfl hin rfl (by decide +kernel) rfl rfl (Nat.le_of_ble_eq_true rfl) dX6_init_67 (fun H locs hP hD hS => ?_)
  replace hP : va_P G vwCl ((h0, .inr (6, [.ref a1, .ref a2, .ref a3, .ref a4, .ref a5, .ref a6, .null, .null, .null])) :: (tlW Y a6 u6.1 u6.2 (fun _ => 0) (fun _ => 0) 0 ++ ((quW Y a5 u5.1 u5.2.1 u5.2.2.1 (fun _ => 0) (fun _ => 0) ++ cmW Y u5.1 u5.2.2.2 kom0) ++ ((paW Y a4 u4.1 u4.2.1 0 0 ++ cms Y u4.2.1 u4.2.2 10) ++ (cmW Y a3 f1 kom0 ++ (cmW Y a2 f0 kom0 ++ (txW Y a1 a10 (fun _ => 0) 0 0 false 0 0 ++ ([])))))))) H := hP
  replace hD : va_D A ((h0, .inr (6, [.ref a1, .ref a2, .ref a3, .ref a4, .ref a5, .ref a6, .null, .null, .null])) :: (tlW Y a6 u6.1 u6.2 (fun _ => 0) (fun _ => 0) 0 ++ ((quW Y a5 u5.1 u5.2.1 u5.2.2.1 (fun _ => 0) (fun _ => 0) ++ cmW Y u5.1 u5.2.2.2 kom0) ++ ((paW Y a4 u4.1 u4.2.1 0 0 ++ cms Y u4.2.1 u4.2.2 10) ++ (cmW Y a3 f1 kom0 ++ (cmW Y a2 f0 kom0 ++ (txW Y a1 a10 (fun _ => 0) 0 0 false 0 0 ++ ([])))))))) := hD
  refine lv_aload_n hx hb dX6_init_70 rfl (lv_at hl 0 rfl) ?_
  refine va_new (ci := 1) (fs := [.long 0]) (C := RX1) (T := TX1) (N := 1) hx hb hts hFX1 tyX1 tyX1_ok hown (hts (.classLink RX6 47 RX1) (by decide +kernel)) (hts (.instantiable RX1 1) (by decide +kernel)) (hts (.initialized RX1) (by decide +kernel)) hK.1 hP hD hS hA0 rfl df_X1 (Nat.le_of_ble_eq_true rfl) (Nat.le_of_ble_eq_true rfl) dX6_init_71 (fun a7 H hP hD hS => ?_)
  replace hP := va_P_pm List.perm_append_comm hP
  replace hD := va_D_pm List.perm_append_comm hD
  refine lv_dup hx hb dX6_init_74 rfl ?_
  refine cn_IN (e0 := .inr (1, [.long 0])) (F := (h0, .inr (6, [.ref a1, .ref a2, .ref a3, .ref a4, .ref a5, .ref a6, .null, .null, .null])) :: (tlW Y a6 u6.1 u6.2 (fun _ => 0) (fun _ => 0) 0 ++ ((quW Y a5 u5.1 u5.2.1 u5.2.2.1 (fun _ => 0) (fun _ => 0) ++ cmW Y u5.1 u5.2.2.2 kom0) ++ ((paW Y a4 u4.1 u4.2.1 0 0 ++ cms Y u4.2.1 u4.2.2 10) ++ (cmW Y a3 f1 kom0 ++ (cmW Y a2 f0 kom0 ++ (txW Y a1 a10 (fun _ => 0) 0 0 false 0 0 ++ ([])))))))) (rest := [.ref a7, .ref h0]) ⟨hx, hb, hml, hown, hts⟩ (fun sz => c_X1_init l G Y a7 sz) ⟨va_cnB 0 hts gX6_init_X1_init_n49 rfl rfl rfl hK.2.2.2.1 (hts (.initialized RX1) (by decide +kernel)) (by decide +kernel) ⟨Nat.le_of_ble_eq_true rfl, Nat.le_of_ble_eq_true rfl⟩, rfl, hts (.instanceMethod yX1_init) (by decide +kernel)⟩ hK hO hP hD hS hA0 hl.1 rfl (Nat.le_of_ble_eq_true rfl) dX6_init_75 ⟨Nat.le_of_ble_eq_true rfl, Nat.le_of_ble_eq_true rfl⟩ (fun u7 H locs hP hD hS => ?_)
  replace hP : va_P G vwCl ((h0, .inr (6, [.ref a1, .ref a2, .ref a3, .ref a4, .ref a5, .ref a6, .null, .null, .null])) :: (kiW Y a7 0 ++ (tlW Y a6 u6.1 u6.2 (fun _ => 0) (fun _ => 0) 0 ++ ((quW Y a5 u5.1 u5.2.1 u5.2.2.1 (fun _ => 0) (fun _ => 0) ++ cmW Y u5.1 u5.2.2.2 kom0) ++ ((paW Y a4 u4.1 u4.2.1 0 0 ++ cms Y u4.2.1 u4.2.2 10) ++ (cmW Y a3 f1 kom0 ++ (cmW Y a2 f0 kom0 ++ (txW Y a1 a10 (fun _ => 0) 0 0 false 0 0 ++ ([]))))))))) H := va_P_pm List.perm_middle hP
  replace hD : va_D A ((h0, .inr (6, [.ref a1, .ref a2, .ref a3, .ref a4, .ref a5, .ref a6, .null, .null, .null])) :: (kiW Y a7 0 ++ (tlW Y a6 u6.1 u6.2 (fun _ => 0) (fun _ => 0) 0 ++ ((quW Y a5 u5.1 u5.2.1 u5.2.2.1 (fun _ => 0) (fun _ => 0) ++ cmW Y u5.1 u5.2.2.2 kom0) ++ ((paW Y a4 u4.1 u4.2.1 0 0 ++ cms Y u4.2.1 u4.2.2 10) ++ (cmW Y a3 f1 kom0 ++ (cmW Y a2 f0 kom0 ++ (txW Y a1 a10 (fun _ => 0) 0 0 false 0 0 ++ ([]))))))))) := va_D_pm List.perm_middle hD
  refine va_putF (D := G) (ci := 6) (v := .ref a7) (ty := .object "ShadeVotes$Kinds") (C := RX6) (T := TX6) (N := 9) hx hb hts hFX6 tyX6 tyX6_ok nmX6 hown hK.1 hP hD hS 0 rfl rfl 6 (by decide) (hts (.fieldLink RX6 50 "ShadeVotes" "kinds" "LShadeVotes$Kinds;") (by decide +kernel)) (fun _ h9 => h9) rfl hin rfl (by decide +kernel) rfl rfl (Nat.le_of_ble_eq_true rfl) dX6_init_78 (fun H locs hP hD hS => ?_)
  replace hP : va_P G vwCl ((h0, .inr (6, [.ref a1, .ref a2, .ref a3, .ref a4, .ref a5, .ref a6, .ref a7, .null, .null])) :: (kiW Y a7 0 ++ (tlW Y a6 u6.1 u6.2 (fun _ => 0) (fun _ => 0) 0 ++ ((quW Y a5 u5.1 u5.2.1 u5.2.2.1 (fun _ => 0) (fun _ => 0) ++ cmW Y u5.1 u5.2.2.2 kom0) ++ ((paW Y a4 u4.1 u4.2.1 0 0 ++ cms Y u4.2.1 u4.2.2 10) ++ (cmW Y a3 f1 kom0 ++ (cmW Y a2 f0 kom0 ++ (txW Y a1 a10 (fun _ => 0) 0 0 false 0 0 ++ ([]))))))))) H := hP
  replace hD : va_D A ((h0, .inr (6, [.ref a1, .ref a2, .ref a3, .ref a4, .ref a5, .ref a6, .ref a7, .null, .null])) :: (kiW Y a7 0 ++ (tlW Y a6 u6.1 u6.2 (fun _ => 0) (fun _ => 0) 0 ++ ((quW Y a5 u5.1 u5.2.1 u5.2.2.1 (fun _ => 0) (fun _ => 0) ++ cmW Y u5.1 u5.2.2.2 kom0) ++ ((paW Y a4 u4.1 u4.2.1 0 0 ++ cms Y u4.2.1 u4.2.2 10) ++ (cmW Y a3 f1 kom0 ++ (cmW Y a2 f0 kom0 ++ (txW Y a1 a10 (fun _ => 0) 0 0 false 0 0 ++ ([]))))))))) := hD
  refine lv_aload_n hx hb dX6_init_81 rfl (lv_at hl 0 rfl) ?_
  refine z_iconst hx hb dX6_init_82 ?_
  refine z_newq (k := 2) hx hb hown (hts (.classLink RX6 16 RX0) (by decide +kernel)) hO hK hP hD hS hA0 (by decide) ⟨Nat.le_of_ble_eq_true rfl, Nat.le_of_ble_eq_true rfl⟩ dX6_init_83 (fun a8 H hP hD hS => ?_)
  replace hP : va_P G vwCl ((h0, .inr (6, [.ref a1, .ref a2, .ref a3, .ref a4, .ref a5, .ref a6, .ref a7, .null, .null])) :: ((a8, .inl (Y 3, 2, .inr (.inr (.inr (.inr (fun _ => none)))))) :: (kiW Y a7 0 ++ (tlW Y a6 u6.1 u6.2 (fun _ => 0) (fun _ => 0) 0 ++ ((quW Y a5 u5.1 u5.2.1 u5.2.2.1 (fun _ => 0) (fun _ => 0) ++ cmW Y u5.1 u5.2.2.2 kom0) ++ ((paW Y a4 u4.1 u4.2.1 0 0 ++ cms Y u4.2.1 u4.2.2 10) ++ (cmW Y a3 f1 kom0 ++ (cmW Y a2 f0 kom0 ++ (txW Y a1 a10 (fun _ => 0) 0 0 false 0 0 ++ ([])))))))))) H := va_P_pm (List.Perm.cons _ List.perm_append_comm) hP
  replace hD : va_D A ((h0, .inr (6, [.ref a1, .ref a2, .ref a3, .ref a4, .ref a5, .ref a6, .ref a7, .null, .null])) :: ((a8, .inl (Y 3, 2, .inr (.inr (.inr (.inr (fun _ => none)))))) :: (kiW Y a7 0 ++ (tlW Y a6 u6.1 u6.2 (fun _ => 0) (fun _ => 0) 0 ++ ((quW Y a5 u5.1 u5.2.1 u5.2.2.1 (fun _ => 0) (fun _ => 0) ++ cmW Y u5.1 u5.2.2.2 kom0) ++ ((paW Y a4 u4.1 u4.2.1 0 0 ++ cms Y u4.2.1 u4.2.2 10) ++ (cmW Y a3 f1 kom0 ++ (cmW Y a2 f0 kom0 ++ (txW Y a1 a10 (fun _ => 0) 0 0 false 0 0 ++ ([])))))))))) := va_D_pm (List.Perm.cons _ List.perm_append_comm) hD
  refine va_putF (D := G) (ci := 6) (v := .ref a8) (ty := .array (.object "ShadeVotes$Commune")) (C := RX6) (T := TX6) (N := 9) hx hb hts hFX6 tyX6 tyX6_ok nmX6 hown hK.1 hP hD hS 0 rfl rfl 7 (by decide) (hts (.fieldLink RX6 54 "ShadeVotes" "images" "[LShadeVotes$Commune;") (by decide +kernel)) (fun _ h9 => h9) rfl hin rfl (by decide +kernel) rfl rfl (Nat.le_of_ble_eq_true rfl) dX6_init_86 (fun H locs hP hD hS => ?_)
  replace hP : va_P G vwCl ((h0, .inr (6, [.ref a1, .ref a2, .ref a3, .ref a4, .ref a5, .ref a6, .ref a7, .ref a8, .null])) :: ((a8, .inl (Y 3, 2, .inr (.inr (.inr (.inr (fun _ => none)))))) :: (kiW Y a7 0 ++ (tlW Y a6 u6.1 u6.2 (fun _ => 0) (fun _ => 0) 0 ++ ((quW Y a5 u5.1 u5.2.1 u5.2.2.1 (fun _ => 0) (fun _ => 0) ++ cmW Y u5.1 u5.2.2.2 kom0) ++ ((paW Y a4 u4.1 u4.2.1 0 0 ++ cms Y u4.2.1 u4.2.2 10) ++ (cmW Y a3 f1 kom0 ++ (cmW Y a2 f0 kom0 ++ (txW Y a1 a10 (fun _ => 0) 0 0 false 0 0 ++ ([])))))))))) H := hP
  replace hD : va_D A ((h0, .inr (6, [.ref a1, .ref a2, .ref a3, .ref a4, .ref a5, .ref a6, .ref a7, .ref a8, .null])) :: ((a8, .inl (Y 3, 2, .inr (.inr (.inr (.inr (fun _ => none)))))) :: (kiW Y a7 0 ++ (tlW Y a6 u6.1 u6.2 (fun _ => 0) (fun _ => 0) 0 ++ ((quW Y a5 u5.1 u5.2.1 u5.2.2.1 (fun _ => 0) (fun _ => 0) ++ cmW Y u5.1 u5.2.2.2 kom0) ++ ((paW Y a4 u4.1 u4.2.1 0 0 ++ cms Y u4.2.1 u4.2.2 10) ++ (cmW Y a3 f1 kom0 ++ (cmW Y a2 f0 kom0 ++ (txW Y a1 a10 (fun _ => 0) 0 0 false 0 0 ++ ([])))))))))) := hD
  refine lv_aload_n hx hb dX6_init_89 rfl (lv_at hl 0 rfl) ?_
  refine z_iconst hx hb dX6_init_90 ?_
  refine z_newZ (k := 2) hx hb (hts (.arrayClass .boolean) (by decide +kernel)) hK hP hD hS hA0 (by decide) ⟨Nat.le_of_ble_eq_true rfl, Nat.le_of_ble_eq_true rfl⟩ dX6_init_91 (fun a9 H hP hD hS => ?_)
  replace hP : va_P G vwCl ((h0, .inr (6, [.ref a1, .ref a2, .ref a3, .ref a4, .ref a5, .ref a6, .ref a7, .ref a8, .null])) :: ((a8, .inl (Y 3, 2, .inr (.inr (.inr (.inr (fun _ => none)))))) :: (ikW Y a9 (fun _ => 0) ++ (kiW Y a7 0 ++ (tlW Y a6 u6.1 u6.2 (fun _ => 0) (fun _ => 0) 0 ++ ((quW Y a5 u5.1 u5.2.1 u5.2.2.1 (fun _ => 0) (fun _ => 0) ++ cmW Y u5.1 u5.2.2.2 kom0) ++ ((paW Y a4 u4.1 u4.2.1 0 0 ++ cms Y u4.2.1 u4.2.2 10) ++ (cmW Y a3 f1 kom0 ++ (cmW Y a2 f0 kom0 ++ (txW Y a1 a10 (fun _ => 0) 0 0 false 0 0 ++ ([]))))))))))) H := va_P_pm (List.Perm.cons _ (List.Perm.cons _ List.perm_append_comm)) hP
  replace hD : va_D A ((h0, .inr (6, [.ref a1, .ref a2, .ref a3, .ref a4, .ref a5, .ref a6, .ref a7, .ref a8, .null])) :: ((a8, .inl (Y 3, 2, .inr (.inr (.inr (.inr (fun _ => none)))))) :: (ikW Y a9 (fun _ => 0) ++ (kiW Y a7 0 ++ (tlW Y a6 u6.1 u6.2 (fun _ => 0) (fun _ => 0) 0 ++ ((quW Y a5 u5.1 u5.2.1 u5.2.2.1 (fun _ => 0) (fun _ => 0) ++ cmW Y u5.1 u5.2.2.2 kom0) ++ ((paW Y a4 u4.1 u4.2.1 0 0 ++ cms Y u4.2.1 u4.2.2 10) ++ (cmW Y a3 f1 kom0 ++ (cmW Y a2 f0 kom0 ++ (txW Y a1 a10 (fun _ => 0) 0 0 false 0 0 ++ ([]))))))))))) := va_D_pm (List.Perm.cons _ (List.Perm.cons _ List.perm_append_comm)) hD
  refine va_putF (D := G) (ci := 6) (v := .ref a9) (ty := .array .boolean) (C := RX6) (T := TX6) (N := 9) hx hb hts hFX6 tyX6 tyX6_ok nmX6 hown hK.1 hP hD hS 0 rfl rfl 8 (by decide) (hts (.fieldLink RX6 58 "ShadeVotes" "isKept" "[Z") (by decide +kernel)) (fun _ h9 => h9) rfl hin rfl (by decide +kernel) rfl rfl (Nat.le_of_ble_eq_true rfl) dX6_init_93 (fun H locs hP hD hS => ?_)
  replace hP : va_P G vwCl ((h0, .inr (6, [.ref a1, .ref a2, .ref a3, .ref a4, .ref a5, .ref a6, .ref a7, .ref a8, .ref a9])) :: ((a8, .inl (Y 3, 2, .inr (.inr (.inr (.inr (fun _ => none)))))) :: (ikW Y a9 (fun _ => 0) ++ (kiW Y a7 0 ++ (tlW Y a6 u6.1 u6.2 (fun _ => 0) (fun _ => 0) 0 ++ ((quW Y a5 u5.1 u5.2.1 u5.2.2.1 (fun _ => 0) (fun _ => 0) ++ cmW Y u5.1 u5.2.2.2 kom0) ++ ((paW Y a4 u4.1 u4.2.1 0 0 ++ cms Y u4.2.1 u4.2.2 10) ++ (cmW Y a3 f1 kom0 ++ (cmW Y a2 f0 kom0 ++ (txW Y a1 a10 (fun _ => 0) 0 0 false 0 0 ++ ([]))))))))))) H := hP
  replace hD : va_D A ((h0, .inr (6, [.ref a1, .ref a2, .ref a3, .ref a4, .ref a5, .ref a6, .ref a7, .ref a8, .ref a9])) :: ((a8, .inl (Y 3, 2, .inr (.inr (.inr (.inr (fun _ => none)))))) :: (ikW Y a9 (fun _ => 0) ++ (kiW Y a7 0 ++ (tlW Y a6 u6.1 u6.2 (fun _ => 0) (fun _ => 0) 0 ++ ((quW Y a5 u5.1 u5.2.1 u5.2.2.1 (fun _ => 0) (fun _ => 0) ++ cmW Y u5.1 u5.2.2.2 kom0) ++ ((paW Y a4 u4.1 u4.2.1 0 0 ++ cms Y u4.2.1 u4.2.2 10) ++ (cmW Y a3 f1 kom0 ++ (cmW Y a2 f0 kom0 ++ (txW Y a1 a10 (fun _ => 0) 0 0 false 0 0 ++ ([]))))))))))) := hD
  refine z_iconst hx hb dX6_init_96 ?_
  refine lv_istore_n (lv' := [(1, .int (iZ 0)), (0, .ref h0)]) hx hb dX6_init_97 rfl hl (by decide) rfl (fun ls hl => ?_)
  obtain ⟨i, hk, adk, hi0, hiN, hl1, hP1, hD1⟩ : ∃ (i : Nat) (hk : Nat → Nat) (adk : Nat → Nat → Nat), i = 0 ∧ i ≤ 2 ∧ lv_has ls 2 [(1, .int (iZ ((i : Nat) : Int))), (0, .ref h0)] ∧ va_P G vwCl ((h0, .inr (6, [.ref a1, .ref a2, .ref a3, .ref a4, .ref a5, .ref a6, .ref a7, .ref a8, .ref a9])) :: (a8, .inl (Y 3, 2, .inr (.inr (.inr (.inr (pfR hk i)))))) :: (cms Y hk adk i ++ (ikW Y a9 (fun _ => 0) ++ (kiW Y a7 0 ++ (tlW Y a6 u6.1 u6.2 (fun _ => 0) (fun _ => 0) 0 ++ ((quW Y a5 u5.1 u5.2.1 u5.2.2.1 (fun _ => 0) (fun _ => 0) ++ cmW Y u5.1 u5.2.2.2 kom0) ++ ((paW Y a4 u4.1 u4.2.1 0 0 ++ cms Y u4.2.1 u4.2.2 10) ++ (cmW Y a3 f1 kom0 ++ (cmW Y a2 f0 kom0 ++ (txW Y a1 a10 (fun _ => 0) 0 0 false 0 0 ++ ([]))))))))))) H ∧ va_D A ((h0, .inr (6, [.ref a1, .ref a2, .ref a3, .ref a4, .ref a5, .ref a6, .ref a7, .ref a8, .ref a9])) :: (a8, .inl (Y 3, 2, .inr (.inr (.inr (.inr (pfR hk i)))))) :: (cms Y hk adk i ++ (ikW Y a9 (fun _ => 0) ++ (kiW Y a7 0 ++ (tlW Y a6 u6.1 u6.2 (fun _ => 0) (fun _ => 0) 0 ++ ((quW Y a5 u5.1 u5.2.1 u5.2.2.1 (fun _ => 0) (fun _ => 0) ++ cmW Y u5.1 u5.2.2.2 kom0) ++ ((paW Y a4 u4.1 u4.2.1 0 0 ++ cms Y u4.2.1 u4.2.2 10) ++ (cmW Y a3 f1 kom0 ++ (cmW Y a2 f0 kom0 ++ (txW Y a1 a10 (fun _ => 0) 0 0 false 0 0 ++ ([]))))))))))) := ⟨0, fun _ => 0, fun _ _ => 0, rfl, by decide, hl, by rw [pfR_0]; exact hP, by rw [pfR_0]; exact hD⟩
  refine W.widen (k := 117 + 8 * i) (n := 1008 + 58 * i) (show _ ≤ _ from by rw [hi0]; exact Nat.le_of_ble_eq_true rfl) (show _ ≤ _ from by rw [hi0]; exact Nat.le_of_ble_eq_true rfl) ?_
  clear hl hP hD hi0
  have hl := hl1
  have hP := hP1
  have hD := hD1
  clear hl1 hP1 hD1
  obtain ⟨n_, hn_⟩ : ∃ n_ : Nat, 2 - i < n_ := ⟨_, Nat.lt_succ_self _⟩
  induction n_ generalizing i hk adk ls H locs with
  | zero => exact absurd hn_ (Nat.not_lt_zero _)
  | succ n_ ih =>
    refine lv_iload_n hx hb dX6_init_98 rfl (lv_at hl 0 rfl) ?_
    refine z_iconst hx hb dX6_init_99 ?_
    refine z_icmp_ge (tgt := 122) hx hb dX6_init_100 (by decide) (by omega) (fun c_1 => ?_) (fun c_1 => ?_)
    · skip
      have hi9 : i = 2 := by omega
      subst hi9
      have hP9 : va_P G vwCl (sv0 Y h0 (aq16 a1 a2 a3 a4 a5 a6 a7 a8 a9 a10 u4.1 u5.1 u5.2.1 u5.2.2.1 u6.1 u6.2, aQ5 f0 f1 u4.2.1 u5.2.2.2 hk, u4.2.2, adk)) H := by
        have h1 := va_P_mem.mp hP
        refine va_P_mem.mpr (fun x hx9 => ?_)
        rcases List.mem_cons.mp hx9 with rfl | hx9
        · exact h1 _ List.mem_cons_self
        · rcases List.mem_cons.mp hx9 with rfl | hx9
          · exact at_refs (h1 _ (List.mem_cons_of_mem _ List.mem_cons_self))
          · exact h1 x (List.mem_cons_of_mem _ (List.mem_cons_of_mem _ hx9))
      have hD9 : va_D A (sv0 Y h0 (aq16 a1 a2 a3 a4 a5 a6 a7 a8 a9 a10 u4.1 u5.1 u5.2.1 u5.2.2.1 u6.1 u6.2, aQ5 f0 f1 u4.2.1 u5.2.2.2 hk, u4.2.2, adk)) := by refine va_D_congr ?_ hD; rfl
      refine W.widen (k := 133) (n := 1124) (by omega) (by omega) ?_
      subst hAe
      exact W.vret hx hb hr (fun t9 ht9 _ => ⟨rfl, ⟨(aq16 a1 a2 a3 a4 a5 a6 a7 a8 a9 a10 u4.1 u5.1 u5.2.1 u5.2.2.1 u6.1 u6.2, aQ5 f0 f1 u4.2.1 u5.2.2.2 hk, u4.2.2, adk), by rw [ht9]; exact hP9, hD9⟩, hS.F ht9⟩) hS.2.2 dX6_init_122
    · skip
      refine lv_aload_n hx hb dX6_init_103 rfl (lv_at hl 1 rfl) ?_
      refine va_get (D := G) (ci := 6) (v := .ref a8) (C := RX6) (T := TX6) (N := 9) hx hb hts hFX6 hown hK.1 hP 0 rfl rfl 7 (by decide) (hts (.fieldLink RX6 54 "ShadeVotes" "images" "[LShadeVotes$Commune;") (by decide +kernel)) (fun _ h9 => h9) rfl dX6_init_104 ?_
      refine lv_iload_n hx hb dX6_init_107 rfl (lv_at hl 0 rfl) ?_
      refine va_new (ci := 0) (fs := [.int (iZ 0), .int (iZ 0), .int (iZ 0), .int (iZ 0), .int (iZ 0), .int (iZ 0), .int (iZ 0), .null, .null, .null, .null, .null, .null, .null]) (C := RX0) (T := TX0) (N := 14) hx hb hts hFX0 tyX0 tyX0_ok hown (hts (.classLink RX6 16 RX0) (by decide +kernel)) (hts (.instantiable RX0 14) (by decide +kernel)) (hts (.initialized RX0) (by decide +kernel)) hK.1 hP hD hS hA0 rfl df_X0 (show 117 + 8 * i + 1 ≤ 133 by omega) (show 1008 + 58 * i + 14 ≤ 1124 by omega) dX6_init_108 (fun q H hP hD hS => ?_)
      replace hP := va_P_pm List.perm_append_comm hP
      replace hD := va_D_pm List.perm_append_comm hD
      refine lv_dup hx hb dX6_init_111 rfl ?_
      refine cn_I (e0 := .inr (0, [.int (iZ 0), .int (iZ 0), .int (iZ 0), .int (iZ 0), .int (iZ 0), .int (iZ 0), .int (iZ 0), .null, .null, .null, .null, .null, .null, .null])) (F := (h0, .inr (6, [.ref a1, .ref a2, .ref a3, .ref a4, .ref a5, .ref a6, .ref a7, .ref a8, .ref a9])) :: (a8, .inl (Y 3, 2, .inr (.inr (.inr (.inr (pfR hk i)))))) :: (cms Y hk adk i ++ (ikW Y a9 (fun _ => 0) ++ (kiW Y a7 0 ++ (tlW Y a6 u6.1 u6.2 (fun _ => 0) (fun _ => 0) 0 ++ ((quW Y a5 u5.1 u5.2.1 u5.2.2.1 (fun _ => 0) (fun _ => 0) ++ cmW Y u5.1 u5.2.2.2 kom0) ++ ((paW Y a4 u4.1 u4.2.1 0 0 ++ cms Y u4.2.1 u4.2.2 10) ++ (cmW Y a3 f1 kom0 ++ (cmW Y a2 f0 kom0 ++ (txW Y a1 a10 (fun _ => 0) 0 0 false 0 0 ++ ([]))))))))))) (rest := [.ref q, .int (iZ ((i : Nat) : Int)), .ref a8]) ⟨hx, hb, hml, hown, hts⟩ (fun sz => c_X0_init l G Y q sz) (cwI 0 hts gX6_init_X0_init rfl rfl rfl (hts (.initialized RX0) (by decide +kernel)) (hts (.methodLink RX6 18 yX0_init) (by decide +kernel)) (hts (.instanceMethod yX0_init) (by decide +kernel)) rfl (by decide +kernel) ⟨Nat.le_of_ble_eq_true rfl, Nat.le_of_ble_eq_true rfl⟩) hK hO hP hD hS hA0 hl.1 rfl (Nat.le_of_ble_eq_true rfl) dX6_init_112 ⟨show 117 + 8 * i + 1 + 7 ≤ 133 by omega, show 1008 + 58 * i + 14 + 44 ≤ 1124 by omega⟩ (fun u H locs hP hD hS => ?_)
      refine va_astq hx hb hK.1 hP hD hS 9 3 0 0 rfl rfl rfl rfl (iZ_in (i := i) rfl (by omega) (by decide)) dX6_init_115 (fun H locs hP hD hS => ?_)
      rw [iZ_ix (i := i) rfl (by omega), pfR_s] at hP hD
      have pm : List.Perm (cmW Y q u kom0 ++ ((h0, .inr (6, [.ref a1, .ref a2, .ref a3, .ref a4, .ref a5, .ref a6, .ref a7, .ref a8, .ref a9])) :: (a8, .inl (Y 3, 2, .inr (.inr (.inr (.inr (pfR (va_up hk i q) (i + 1))))))) :: (cms Y hk adk i ++ (ikW Y a9 (fun _ => 0) ++ (kiW Y a7 0 ++ (tlW Y a6 u6.1 u6.2 (fun _ => 0) (fun _ => 0) 0 ++ ((quW Y a5 u5.1 u5.2.1 u5.2.2.1 (fun _ => 0) (fun _ => 0) ++ cmW Y u5.1 u5.2.2.2 kom0) ++ ((paW Y a4 u4.1 u4.2.1 0 0 ++ cms Y u4.2.1 u4.2.2 10) ++ (cmW Y a3 f1 kom0 ++ (cmW Y a2 f0 kom0 ++ (txW Y a1 a10 (fun _ => 0) 0 0 false 0 0 ++ ([])))))))))))) ((h0, .inr (6, [.ref a1, .ref a2, .ref a3, .ref a4, .ref a5, .ref a6, .ref a7, .ref a8, .ref a9])) :: (a8, .inl (Y 3, 2, .inr (.inr (.inr (.inr (pfR (va_up hk i q) (i + 1))))))) :: (cms Y (va_up hk i q) (va_up adk i u) (i + 1) ++ (ikW Y a9 (fun _ => 0) ++ (kiW Y a7 0 ++ (tlW Y a6 u6.1 u6.2 (fun _ => 0) (fun _ => 0) 0 ++ ((quW Y a5 u5.1 u5.2.1 u5.2.2.1 (fun _ => 0) (fun _ => 0) ++ cmW Y u5.1 u5.2.2.2 kom0) ++ ((paW Y a4 u4.1 u4.2.1 0 0 ++ cms Y u4.2.1 u4.2.2 10) ++ (cmW Y a3 f1 kom0 ++ (cmW Y a2 f0 kom0 ++ (txW Y a1 a10 (fun _ => 0) 0 0 false 0 0 ++ ([]))))))))))) := by
        rw [cms_s, List.append_assoc (cms Y hk adk i)]
        refine List.Perm.trans List.perm_middle (List.Perm.cons _ (List.Perm.trans List.perm_middle (List.Perm.cons _ ?_)))
        exact List.perm_append_comm_assoc _ _ _
      replace hP : va_P G vwCl ((h0, .inr (6, [.ref a1, .ref a2, .ref a3, .ref a4, .ref a5, .ref a6, .ref a7, .ref a8, .ref a9])) :: (a8, .inl (Y 3, 2, .inr (.inr (.inr (.inr (pfR (va_up hk i q) (i + 1))))))) :: (cms Y (va_up hk i q) (va_up adk i u) (i + 1) ++ (ikW Y a9 (fun _ => 0) ++ (kiW Y a7 0 ++ (tlW Y a6 u6.1 u6.2 (fun _ => 0) (fun _ => 0) 0 ++ ((quW Y a5 u5.1 u5.2.1 u5.2.2.1 (fun _ => 0) (fun _ => 0) ++ cmW Y u5.1 u5.2.2.2 kom0) ++ ((paW Y a4 u4.1 u4.2.1 0 0 ++ cms Y u4.2.1 u4.2.2 10) ++ (cmW Y a3 f1 kom0 ++ (cmW Y a2 f0 kom0 ++ (txW Y a1 a10 (fun _ => 0) 0 0 false 0 0 ++ ([]))))))))))) H := va_P_pm pm hP
      replace hD : va_D A ((h0, .inr (6, [.ref a1, .ref a2, .ref a3, .ref a4, .ref a5, .ref a6, .ref a7, .ref a8, .ref a9])) :: (a8, .inl (Y 3, 2, .inr (.inr (.inr (.inr (pfR (va_up hk i q) (i + 1))))))) :: (cms Y (va_up hk i q) (va_up adk i u) (i + 1) ++ (ikW Y a9 (fun _ => 0) ++ (kiW Y a7 0 ++ (tlW Y a6 u6.1 u6.2 (fun _ => 0) (fun _ => 0) 0 ++ ((quW Y a5 u5.1 u5.2.1 u5.2.2.1 (fun _ => 0) (fun _ => 0) ++ cmW Y u5.1 u5.2.2.2 kom0) ++ ((paW Y a4 u4.1 u4.2.1 0 0 ++ cms Y u4.2.1 u4.2.2 10) ++ (cmW Y a3 f1 kom0 ++ (cmW Y a2 f0 kom0 ++ (txW Y a1 a10 (fun _ => 0) 0 0 false 0 0 ++ ([]))))))))))) := va_D_pm pm hD
      refine lv_iinc (v := iZ ((i + 1 : Nat) : Int)) (lv' := [(1, .int (iZ ((i + 1 : Nat) : Int))), (0, .ref h0)]) hx hb dX6_init_116 hl (k := 0) rfl (iZ_inc _) (by decide) rfl (fun ls hl => ?_)
      refine lv_goto (tgt := 98) hx hb dX6_init_119 (by decide) ?_
      refine W.widen (k := 117 + 8 * (i + 1)) (n := 1008 + 58 * (i + 1)) (show _ ≤ _ by omega) (show _ ≤ _ by omega) ?_
      exact ih (ls := ls) (i := i + 1) (hk := va_up hk i q) (adk := va_up adk i u) (H := H) (locs := locs) (hS := hS) (hiN := by omega) (hl := hl) (hP := hP) (hD := hD) (hn_ := by omega)
