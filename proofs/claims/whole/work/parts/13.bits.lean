/-! ===== Integer.bitCount, as the library has it ===== -/
def us (x y : Int32) : Int32 := (x.toUInt32 >>> (y.toUInt32 &&& Int32.toUInt32 31)).toInt32
def bc1 (x : Int32) : Int32 := x - (us x 1 &&& 1431655765)
def bc2 (x : Int32) : Int32 := (x &&& 858993459) + (us x 2 &&& 858993459)
def bc3 (x : Int32) : Int32 := (x + us x 4) &&& 252645135
def bc4 (x : Int32) : Int32 := x + us x 8
def bc5 (x : Int32) : Int32 := x + us x 16
def bcI (x : Int32) : Int32 := bc5 (bc4 (bc3 (bc2 (bc1 x)))) &&& 63
set_option maxHeartbeats 4000000 in
set_option maxRecDepth 100000 in
theorem c_J6_bitCount_0f7a4 (l : Launch) (G : va_G) (Y : Nat → ClassId) (x : Int32) : Met l yJ6_bitCount_0f7a4 wsJ6_bitCount_0f7a4 ({ frames := 0, cells := 0, slots := 0, locals := 0 }) (rP G Y [.int x] []) (rQ (.int (bcI x))) 0 0 (fun _ => False) := by
  refine Met.ofW (cc := cJ6_bitCount_0f7a4) (maxL := 1) (ret := (some .int)) (by decide) rfl ?_
  intro p e s m args below meth c s₁ B hml hv
  obtain ⟨rfl, hK, hP⟩ := hv
  have hx := B.exec
  have hb := B.bytes
  have hr := B.returns
  have hts := atoms_spec (ws := wsJ6_bitCount_0f7a4) B.pre
  have hown : s.vm.findClass RJ6 = some m.cls := findClass_of_methodNamed B.named
  have hlocks := B.notSynchronized
  have hl := lv_entry ([.int x]) (n := 1) (Nat.le_of_ble_eq_true rfl)
  rw [lg_entry_eq]
  generalize (lg_sl ([.int x]) ++ List.replicate (1 - (lg_sl ([.int x])).length) Slot.unset).toArray = ls at hl ⊢
  have hl : lv_has ls 1 [(0, .int x)] := hl
  refine lv_iload_n hx hb dJ6_bitCount_0f7a4_0 rfl (lv_at hl 0 rfl) ?_
  refine lv_iload_n hx hb dJ6_bitCount_0f7a4_1 rfl (lv_at hl 0 rfl) ?_
  refine lv_iconst (v := 1) hx hb dJ6_bitCount_0f7a4_2 (by decide) ?_
  refine lv_iushr (v := us x 1) hx hb dJ6_bitCount_0f7a4_3 rfl ?_
  refine lv_ldcw (v := 1431655765) hx hb hown (hts (.constant RJ6 265 (1431655765)) (by decide +kernel)) dJ6_bitCount_0f7a4_4 ?_
  refine lv_iand hx hb dJ6_bitCount_0f7a4_7 ?_
  refine lv_isub hx hb dJ6_bitCount_0f7a4_8 ?_
  refine lv_istore_n (x := bc1 x) (lv' := [(0, .int (bc1 x))]) hx hb dJ6_bitCount_0f7a4_9 rfl hl (by decide) rfl (fun ls hl => ?_)
  generalize hx1 : bc1 x = x1 at hl ⊢
  refine lv_iload_n hx hb dJ6_bitCount_0f7a4_10 rfl (lv_at hl 0 rfl) ?_
  refine lv_ldcw (v := 858993459) hx hb hown (hts (.constant RJ6 266 (858993459)) (by decide +kernel)) dJ6_bitCount_0f7a4_11 ?_
  refine lv_iand hx hb dJ6_bitCount_0f7a4_14 ?_
  refine lv_iload_n hx hb dJ6_bitCount_0f7a4_15 rfl (lv_at hl 0 rfl) ?_
  refine lv_iconst (v := 2) hx hb dJ6_bitCount_0f7a4_16 (by decide) ?_
  refine lv_iushr (v := us x1 2) hx hb dJ6_bitCount_0f7a4_17 rfl ?_
  refine lv_ldcw (v := 858993459) hx hb hown (hts (.constant RJ6 266 (858993459)) (by decide +kernel)) dJ6_bitCount_0f7a4_18 ?_
  refine lv_iand hx hb dJ6_bitCount_0f7a4_21 ?_
  refine lv_iadd hx hb dJ6_bitCount_0f7a4_22 ?_
  refine lv_istore_n (x := bc2 x1) (lv' := [(0, .int (bc2 x1))]) hx hb dJ6_bitCount_0f7a4_23 rfl hl (by decide) rfl (fun ls hl => ?_)
  generalize hx2 : bc2 x1 = x2 at hl ⊢
  refine lv_iload_n hx hb dJ6_bitCount_0f7a4_24 rfl (lv_at hl 0 rfl) ?_
  refine lv_iload_n hx hb dJ6_bitCount_0f7a4_25 rfl (lv_at hl 0 rfl) ?_
  refine lv_iconst (v := 4) hx hb dJ6_bitCount_0f7a4_26 (by decide) ?_
  refine lv_iushr (v := us x2 4) hx hb dJ6_bitCount_0f7a4_27 rfl ?_
  refine lv_iadd hx hb dJ6_bitCount_0f7a4_28 ?_
  refine lv_ldcw (v := 252645135) hx hb hown (hts (.constant RJ6 267 (252645135)) (by decide +kernel)) dJ6_bitCount_0f7a4_29 ?_
  refine lv_iand hx hb dJ6_bitCount_0f7a4_32 ?_
  refine lv_istore_n (x := bc3 x2) (lv' := [(0, .int (bc3 x2))]) hx hb dJ6_bitCount_0f7a4_33 rfl hl (by decide) rfl (fun ls hl => ?_)
  generalize hx3 : bc3 x2 = x3 at hl ⊢
  refine lv_iload_n hx hb dJ6_bitCount_0f7a4_34 rfl (lv_at hl 0 rfl) ?_
  refine lv_iload_n hx hb dJ6_bitCount_0f7a4_35 rfl (lv_at hl 0 rfl) ?_
  refine lv_bipush (v := 8) hx hb dJ6_bitCount_0f7a4_36 (by decide) ?_
  refine lv_iushr (v := us x3 8) hx hb dJ6_bitCount_0f7a4_38 rfl ?_
  refine lv_iadd hx hb dJ6_bitCount_0f7a4_39 ?_
  refine lv_istore_n (x := bc4 x3) (lv' := [(0, .int (bc4 x3))]) hx hb dJ6_bitCount_0f7a4_40 rfl hl (by decide) rfl (fun ls hl => ?_)
  generalize hx4 : bc4 x3 = x4 at hl ⊢
  refine lv_iload_n hx hb dJ6_bitCount_0f7a4_41 rfl (lv_at hl 0 rfl) ?_
  refine lv_iload_n hx hb dJ6_bitCount_0f7a4_42 rfl (lv_at hl 0 rfl) ?_
  refine lv_bipush (v := 16) hx hb dJ6_bitCount_0f7a4_43 (by decide) ?_
  refine lv_iushr (v := us x4 16) hx hb dJ6_bitCount_0f7a4_45 rfl ?_
  refine lv_iadd hx hb dJ6_bitCount_0f7a4_46 ?_
  refine lv_istore_n (x := bc5 x4) (lv' := [(0, .int (bc5 x4))]) hx hb dJ6_bitCount_0f7a4_47 rfl hl (by decide) rfl (fun ls hl => ?_)
  refine lv_iload_n hx hb dJ6_bitCount_0f7a4_48 rfl (lv_at hl 0 rfl) ?_
  refine lv_bipush (v := 63) hx hb dJ6_bitCount_0f7a4_49 (by decide) ?_
  refine lv_iand hx hb dJ6_bitCount_0f7a4_51 ?_
  have e9 : bc5 x4 &&& 63 = bcI x := by rw [← hx4, ← hx3, ← hx2, ← hx1]; rfl
  rw [e9]
  exact W.iret (v := bcI x) hx hb hr (fun t ht _ => ⟨rfl, ht⟩) (fun q h => absurd h List.not_mem_nil) dJ6_bitCount_0f7a4_52
/-- how many of the first k bits are set -/
def pcN (n : Nat) : Nat → Nat
  | 0 => 0
  | k + 1 => pcN n k + n / 2 ^ k % 2
theorem bcI_128 : ∀ n, n < 128 → bcI (nI n) = nI (pcN n 7) := by decide +kernel
theorem pcN_le (n k : Nat) : pcN n k ≤ k := by
  induction k with
  | zero => exact Nat.le_refl 0
  | succ k ih => rw [pcN]; omega
/-! ===== worlds of Tally, Past, Kinds ===== -/
abbrev tlW (Y : Nat → ClassId) (h5 ta tb : Nat) (M T : Nat → Int) (n9 : Int) : va_W := [(h5, .inr (4, [.ref ta, .ref tb, .int (iZ n9)])), (ta, .inl (Y 0, 5, .inl (aI M))), (tb, .inl (Y 0, 5, .inl (aI T)))]
def tlM (M : Nat → Int) (n a : Int) : Nat → Int := if n < 5 then va_up M n.toNat a else M
def tlS (n : Int) : Int := if n < 5 then n + 1 else n
theorem tlM_t {M : Nat → Int} {n a : Int} (h : n < 5) : tlM M n a = va_up M n.toNat a := if_pos h
theorem tlM_f {M : Nat → Int} {n a : Int} (h : 5 ≤ n) : tlM M n a = M := if_neg (by omega)
theorem tlS_t {n : Int} (h : n < 5) : tlS n = n + 1 := if_pos h
theorem tlS_f {n : Int} (h : 5 ≤ n) : tlS n = n := if_neg (by omega)
/-- whether the first i that was counted are so -/
def soN (K : Kom) (M T : Nat → Int) : Nat → Bool
  | 0 => true
  | i + 1 => soN K M T i && decide (wb K (M i).toNat 1 = T i)
theorem soN_f {K : Kom} {M T : Nat → Int} {t n : Nat} (h : t < n) (e : wb K (M t).toNat 1 ≠ T t) : soN K M T n = false := by
  induction n with
  | zero => omega
  | succ n ih =>
    rw [soN]
    by_cases q : t = n
    · subst q
      rw [decide_eq_false e, Bool.and_false]
    · rw [ih (by omega), Bool.false_and]
def kC10 : Int64 := 10
def kC100 : Int64 := 100
def kC1000 : Int64 := 1000
def kC10000 : Int64 := 10000
def kC100000 : Int64 := 100000
def aR (hk : Nat → Nat) : Nat → Option Nat := fun j => some (hk j)
abbrev paW (Y : Nat → ClassId) (h3 kn : Nat) (hk : Nat → Nat) (nx sz : Int) : va_W := [(h3, .inr (2, [.ref kn, .int (iZ nx), .int (iZ sz)])), (kn, .inl (Y 3, 10, .inr (.inr (.inr (.inr (aR hk))))))]
abbrev kiW (_ : Nat → ClassId) (h6 : Nat) (tr : Int64) : va_W := [(h6, .inr (1, [.long tr]))]
section ZF
variable {p : Program} {l : Launch} {e : Env} {R : Room} {s : State} {m : MethodId} {args : Array Value} {below : List Frame} {meth : Method} {c : Code} {H : Heap} {locs : List Loc} {cells slots : Nat} {Q : State → Prop}
variable {cc : ByteArray} {pc : Nat} {ls : Array Slot} {rest : List Value} {D : va_G} {cl : List vw_C} {a : Nat} {tys : List (ClassId × FieldType)} {ws : va_W}
theorem z_aald (hx : p.tables.exec = Jvm.exec) (hb : c.code = cc) (hK : va_K D cl tys s) (hP : va_P D cl ws H) (q0 t0 : Nat) {cA : ClassId} {C : String} {n : Nat} {hk : Nat → Nat} (ha : ws[q0]? = some (a, .inl (cA, n, .inr (.inr (.inr (.inr (aR hk))))))) (ht : tys[t0]? = some (cA, .object C)) {z : Int} (i : Nat) (hi : z = (i : Int) ∧ i < n) (hn : n < 2147483648) (hdg : decode cc pc = .ok (.aaload, 1)) (kk : W p l e R s m args below meth c H locs cells slots Q (F0 m (pc + 1) ls (.ref (hk i) :: rest))) : W p l e R s m args below meth c H locs cells slots Q (F0 m pc ls (.int (iZ z) :: .ref a :: rest)) :=
  va_aldq hx hb hK hP q0 t0 ha ht (iZ_in hi.1 hi.2 hn) hdg (by rw [iZ_ix hi.1 (by omega)]; exact kk)
end ZF
