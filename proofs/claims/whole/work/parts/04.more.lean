/-! ===== more rows: counting up, bits, the library's max, min, abs; words on nest mates by name ===== -/
theorem iZ_inc (t : Nat) : iZ (t : Int) + Int32.ofInt 1 = iZ ((t + 1 : Nat) : Int) := by
  rw [show Int32.ofInt 1 = iZ 1 from rfl, iZ_add]
  congr 1
theorem sh_l : ∀ n, n < 32 → ((nI n &&& 31).toBitVec.smod 32).toNat = n := by decide
theorem iZ_shl1 {k : Nat} (hk : k < 31) : iZ 1 <<< (iZ (k : Int) &&& 31) = iZ ((2 ^ k : Nat) : Int) := by
  rw [iZ_nat, show iZ 1 = nI 1 from iZ_nat 1, pk_shlN (n := 1) _ k (sh_l k (by omega)) (by have := Nat.pow_lt_pow_right (a := 2) (by decide) (show k < 32 by omega); omega), Nat.one_mul, iZ_nat]
theorem iZ_shr {n k : Nat} (hn : n < 2147483648) (hk : k < 32) : iZ (n : Int) >>> (iZ (k : Int) &&& 31) = iZ ((n / 2 ^ k : Nat) : Int) := by
  rw [iZ_nat, iZ_nat, pk_shrN (by omega) _ k (sh_l k hk), iZ_nat]
theorem nI_tb (n : Nat) : (nI n).toBitVec = BitVec.ofNat 32 n := rfl
theorem nI_or (a b : Nat) : nI a ||| nI b = nI (a ||| b) := by
  apply Int32.toBitVec.inj
  rw [Int32.toBitVec_or, nI_tb, nI_tb, nI_tb]
  apply BitVec.eq_of_toNat_eq
  simp [BitVec.toNat_or, BitVec.toNat_ofNat, Nat.or_mod_two_pow]
theorem nI_and (a b : Nat) : nI a &&& nI b = nI (a &&& b) := by
  apply Int32.toBitVec.inj
  rw [Int32.toBitVec_and, nI_tb, nI_tb, nI_tb]
  apply BitVec.eq_of_toNat_eq
  simp [BitVec.toNat_and, BitVec.toNat_ofNat, Nat.and_mod_two_pow]
theorem iZ_or (a b : Nat) : iZ (a : Int) ||| iZ (b : Int) = iZ ((a ||| b : Nat) : Int) := by rw [iZ_nat, iZ_nat, nI_or, iZ_nat]
theorem iZ_and (a b : Nat) : iZ (a : Int) &&& iZ (b : Int) = iZ ((a &&& b : Nat) : Int) := by rw [iZ_nat, iZ_nat, nI_and, iZ_nat]
theorem iZ_and1 (a : Nat) : iZ (a : Int) &&& iZ 1 = iZ ((a % 2 : Nat) : Int) := by
  rw [show iZ 1 = iZ ((1 : Nat) : Int) from rfl, iZ_and, Nat.and_one_is_mod]
def zabs (z : Int) : Int := if 0 ≤ z then z else -z
theorem zabs_ge (z : Int) : 0 ≤ zabs z ∧ z ≤ zabs z ∧ -z ≤ zabs z ∧ (zabs z = z ∨ zabs z = -z) := by unfold zabs; split <;> omega
section ZD
variable {p : Program} {l : Launch} {e : Env} {R : Room} {s : State} {m : MethodId} {args : Array Value} {below : List Frame} {meth : Method} {c : Code} {H : Heap} {locs : List Loc} {cells slots : Nat} {Q : State → Prop}
variable {cc : ByteArray} {pc : Nat} {ls : Array Slot} {rest : List Value}
theorem z_ior (hx : p.tables.exec = Jvm.exec) (hb : c.code = cc) {a b : Nat} {x y : Int} (hdg : decode cc pc = .ok (.ior, 1)) (ha : x = (a : Int)) (hy : y = (b : Int)) (k : W p l e R s m args below meth c H locs cells slots Q (F0 m (pc + 1) ls (.int (iZ ((a ||| b : Nat) : Int)) :: rest))) : W p l e R s m args below meth c H locs cells slots Q (F0 m pc ls (.int (iZ y) :: .int (iZ x) :: rest)) := by
  subst ha; subst hy
  exact lv_ior hx hb hdg (by rw [iZ_or]; exact k)
theorem z_iand (hx : p.tables.exec = Jvm.exec) (hb : c.code = cc) {a b : Nat} {x y : Int} (hdg : decode cc pc = .ok (.iand, 1)) (ha : x = (a : Int)) (hy : y = (b : Int)) (k : W p l e R s m args below meth c H locs cells slots Q (F0 m (pc + 1) ls (.int (iZ ((a &&& b : Nat) : Int)) :: rest))) : W p l e R s m args below meth c H locs cells slots Q (F0 m pc ls (.int (iZ y) :: .int (iZ x) :: rest)) := by
  subst ha; subst hy
  exact lv_iand hx hb hdg (by rw [iZ_and]; exact k)
theorem z_iand1 (hx : p.tables.exec = Jvm.exec) (hb : c.code = cc) {a : Nat} {x : Int} (hdg : decode cc pc = .ok (.iand, 1)) (ha : x = (a : Int)) (k : W p l e R s m args below meth c H locs cells slots Q (F0 m (pc + 1) ls (.int (iZ ((a % 2 : Nat) : Int)) :: rest))) : W p l e R s m args below meth c H locs cells slots Q (F0 m pc ls (.int (iZ 1) :: .int (iZ x) :: rest)) := by
  subst ha
  exact lv_iand hx hb hdg (by rw [iZ_and1]; exact k)
theorem z_ishl1 (hx : p.tables.exec = Jvm.exec) (hb : c.code = cc) {k : Nat} {y : Int} (hdg : decode cc pc = .ok (.ishl, 1)) (hk : y = (k : Int) ∧ k < 31) (kk : W p l e R s m args below meth c H locs cells slots Q (F0 m (pc + 1) ls (.int (iZ ((2 ^ k : Nat) : Int)) :: rest))) : W p l e R s m args below meth c H locs cells slots Q (F0 m pc ls (.int (iZ y) :: .int (iZ 1) :: rest)) := by
  obtain ⟨rfl, hk⟩ := hk
  exact lv_ishl hx hb hdg (by rw [iZ_shl1 hk]; exact kk)
theorem z_ishr (hx : p.tables.exec = Jvm.exec) (hb : c.code = cc) {n k : Nat} {x y : Int} (hdg : decode cc pc = .ok (.ishr, 1)) (hk : (x = (n : Int) ∧ n < 2147483648) ∧ y = (k : Int) ∧ k < 32) (kk : W p l e R s m args below meth c H locs cells slots Q (F0 m (pc + 1) ls (.int (iZ ((n / 2 ^ k : Nat) : Int)) :: rest))) : W p l e R s m args below meth c H locs cells slots Q (F0 m pc ls (.int (iZ y) :: .int (iZ x) :: rest)) := by
  obtain ⟨⟨rfl, hn⟩, rfl, hk⟩ := hk
  exact lv_ishr hx hb hdg (by rw [iZ_shr hn hk]; exact kk)
theorem z_mmax (hx : p.tables.exec = Jvm.exec) (hb : c.code = cc) (hml : c.maxLocals = ls.size) {own : String} {index : Nat} (hown : s.vm.findClass own = some m.cls) (hlink : (Cond.methodLink own index Lib.Math.max.name).before args s = true) (hstat : (Cond.static Lib.Math.max.name).before args s = true) (hini : (Cond.initialized "java/lang/Math").before args s = true) (hcode : (Cond.code Lib.Math.max.name Lib.Math.max.code 2 (some .int)).before args s = true)
    (hframes : 1 ≤ R.frames) (hlocals : (rest.map fun v => v.category).sum + 13 ≤ R.locals) (hc : cells ≤ R.cells) (hs : slots ≤ R.slots) {a b : Int} (r : zR a ∧ zR b) (hdg : decode cc pc = .ok (.invokestatic index, 3))
    (kk : W p l e R s m args below meth c H locs cells slots Q (F0 m (pc + 3) ls (.int (iZ (max a b)) :: rest))) : W p l e R s m args below meth c H locs cells slots Q (F0 m pc ls (.int (iZ b) :: .int (iZ a) :: rest)) := by
  refine va_mmax hx hb hml hown hlink hstat hini hcode hframes hlocals hc hs hdg ?_
  have e1 : (if iZ a < iZ b then iZ b else iZ a) = iZ (max a b) := by
    by_cases h : a < b
    · rw [if_pos ((iZ_lt r.1 r.2).mpr h), show max a b = b by omega]
    · rw [if_neg (fun q => h ((iZ_lt r.1 r.2).mp q)), show max a b = a by omega]
  rw [e1]; exact kk
theorem z_mmin (hx : p.tables.exec = Jvm.exec) (hb : c.code = cc) (hml : c.maxLocals = ls.size) {own : String} {index : Nat} (hown : s.vm.findClass own = some m.cls) (hlink : (Cond.methodLink own index Lib.Math.min.name).before args s = true) (hstat : (Cond.static Lib.Math.min.name).before args s = true) (hini : (Cond.initialized "java/lang/Math").before args s = true) (hcode : (Cond.code Lib.Math.min.name Lib.Math.min.code 2 (some .int)).before args s = true)
    (hframes : 1 ≤ R.frames) (hlocals : (rest.map fun v => v.category).sum + 13 ≤ R.locals) (hc : cells ≤ R.cells) (hs : slots ≤ R.slots) {a b : Int} (r : zR a ∧ zR b) (hdg : decode cc pc = .ok (.invokestatic index, 3))
    (kk : W p l e R s m args below meth c H locs cells slots Q (F0 m (pc + 3) ls (.int (iZ (min a b)) :: rest))) : W p l e R s m args below meth c H locs cells slots Q (F0 m pc ls (.int (iZ b) :: .int (iZ a) :: rest)) := by
  refine va_mmin hx hb hml hown hlink hstat hini hcode hframes hlocals hc hs hdg ?_
  have e1 : (if iZ b < iZ a then iZ b else iZ a) = iZ (min a b) := by
    by_cases h : b < a
    · rw [if_pos ((iZ_lt r.2 r.1).mpr h), show min a b = b by omega]
    · rw [if_neg (fun q => h ((iZ_lt r.2 r.1).mp q)), show min a b = a by omega]
  rw [e1]; exact kk
theorem z_mabs (hx : p.tables.exec = Jvm.exec) (hb : c.code = cc) (hml : c.maxLocals = ls.size) {own : String} {index : Nat} (hown : s.vm.findClass own = some m.cls) (hlink : (Cond.methodLink own index Lib.Math.abs.name).before args s = true) (hstat : (Cond.static Lib.Math.abs.name).before args s = true) (hini : (Cond.initialized "java/lang/Math").before args s = true) (hcode : (Cond.code Lib.Math.abs.name Lib.Math.abs.code 1 (some .int)).before args s = true)
    (hframes : 1 ≤ R.frames) (hlocals : (rest.map fun v => v.category).sum + 13 ≤ R.locals) (hc : cells ≤ R.cells) (hs : slots ≤ R.slots) {a : Int} (r : zR a) (hdg : decode cc pc = .ok (.invokestatic index, 3))
    (kk : W p l e R s m args below meth c H locs cells slots Q (F0 m (pc + 3) ls (.int (iZ (zabs a)) :: rest))) : W p l e R s m args below meth c H locs cells slots Q (F0 m pc ls (.int (iZ a) :: rest)) := by
  refine va_mabs hx hb hml hown hlink hstat hini hcode hframes hlocals hc hs hdg ?_
  have e1 : (if 0 ≤ iZ a then iZ a else 0 - iZ a) = iZ (zabs a) := by
    unfold zabs
    rw [← iZ_0]
    by_cases h : 0 ≤ a
    · rw [if_pos ((iZ_le (a := 0) (by decide) r).mpr h), if_pos h]
    · rw [if_neg (fun q => h ((iZ_le (a := 0) (by decide) r).mp q)), if_neg h, iZ_sub, Int.zero_sub]
  rw [e1]; exact kk
end ZD
theorem nk_X0_102 {U : State} (h : nsK U) : va_Nw (.methodLinkNest RX0 102 yX6_hasBit RX6) U := h.2.2.2.2.1
theorem nk_X0_64 {U : State} (h : nsK U) : va_Nw (.methodLinkNest RX0 64 yX6_isWithin RX6) U := h.2.2.2.2.2.1
theorem nk_X0_91 {U : State} (h : nsK U) : va_Nw (.methodLinkNest RX0 91 yX6_asNumber RX6) U := h.2.2.2.2.2.2.1
theorem nk_X3_113 {U : State} (h : nsK U) : va_Nw (.methodLinkNest RX3 113 yX6_power RX6) U := h.2.2.2.2.2.2.2.1
theorem nk_X3_67 {U : State} (h : nsK U) : va_Nw (.methodLinkNest RX3 67 yX6_hasBit RX6) U := h.2.2.2.2.2.2.2.2.1
theorem nk_X3_96 {U : State} (h : nsK U) : va_Nw (.methodLinkNest RX3 96 yX6_asNumber RX6) U := h.2.2.2.2.2.2.2.2.2.1
theorem nk_X5_96 {U : State} (h : nsK U) : va_Nw (.methodLinkNest RX5 96 yX6_isWithin RX6) U := h.2.2.2.2.2.2.2.2.2.2
theorem bZ_1 {p : Prop} [Decidable p] (h : p) : (1 : Int) = bZ (decide p) := by rw [decide_eq_true h]; rfl
theorem bZ_00 {p : Prop} [Decidable p] (h : ¬ p) : (0 : Int) = bZ (decide p) := by rw [decide_eq_false h]; rfl
