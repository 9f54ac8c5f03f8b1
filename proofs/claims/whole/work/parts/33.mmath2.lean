/-! ===== the reference's own ways of reckoning ===== -/
theorem rTree_kF {F : Nat → Int} {A : Kom} {a b : Int} (h5 : A 17 3 ≤ 5) (ha : 0 ≤ a ∧ a ≤ A 17 3 - 1) (hb : 0 ≤ b ∧ b ≤ 3) : rTree (kF F A (A 17)) a b = A 17 ((4 + 5 * b) + a).toNat := by
  unfold rTree
  rw [if_pos (show 0 ≤ a ∧ a ≤ kF F A (A 17) 0 2 - 1 from ha)]
  have h : b = 0 ∨ b = 1 ∨ b = 2 ∨ b = 3 := by omega
  rcases h with rfl | rfl | rfl | rfl
  · rw [if_pos rfl, kF_1 (t := a.toNat) (by omega)]; congr 1; omega
  · rw [if_neg (by decide), if_pos rfl, kF_2 (t := a.toNat) (by omega)]; congr 1; omega
  · rw [if_neg (by decide), if_neg (by decide), if_pos rfl, kF_4 (t := a.toNat) (by omega)]; congr 1; omega
  · rw [if_neg (by decide), if_neg (by decide), if_neg (by decide), if_pos rfl, kF_3 (t := a.toNat) (by omega)]; congr 1; omega
def xMot (K : Kom) (a b : Int) : Int := if (0 ≤ a ∧ a ≤ 2) ∧ 0 ≤ b ∧ b ≤ 2 then (if b = 0 then wb K a.toNat 1 else if b = 1 then wb K a.toNat 1 - blN K a.toNat (2 ^ (K 0 3).toNat - 1) (K 0 3).toNat else if 0 < blN K a.toNat (2 ^ (K 0 3).toNat - 1) (K 0 3).toNat then 1 else 0) else -1
def rvN (K : Kom) (a : Int) (mo : Nat) (k : Int) : Nat → Int
  | 0 => vo K a mo
  | i + 1 => max (rvN K a mo k i) (if stp K a i ≤ k then vo K i mo else -1)
theorem rvN_in (K : Kom) (a : Int) (mo : Nat) (k : Int) (i : Nat) : -1 ≤ rvN K a mo k i ∧ rvN K a mo k i ≤ 1 := by
  induction i with
  | zero => exact vo_in K a mo
  | succ i ih =>
    have := vo_in K i mo
    simp only [rvN]
    split <;> omega
def smN (K : Kom) (mo : Nat) (k : Int) (z : Nat) : Nat → Int
  | 0 => 0
  | i + 1 => smN K mo k z i + (if z.testBit i then rvN K (K 6 i) mo k (K 0 0 * K 0 1).toNat else vo K (K 6 i) mo) * K 7 i
theorem smN_in {K : Kom} (hW : cWF K) (mo : Nat) (k : Int) (z n : Nat) (hn : n ≤ 7) : -4 * n ≤ smN K mo k z n ∧ smN K mo k z n ≤ 4 * n := by
  induction n with
  | zero => simp [smN]
  | succ n ih =>
    have h1 := hW.2.2.1 n (by omega)
    have h2 := ih (by omega)
    have h3 := rvN_in K (K 6 n) mo k (K 0 0 * K 0 1).toNat
    have h4 := vo_in K (K 6 n) mo
    simp only [smN]
    generalize hx : (if z.testBit n = true then rvN K (K 6 n) mo k (K 0 0 * K 0 1).toNat else vo K (K 6 n) mo) = x
    have h5 : x = -1 ∨ x = 0 ∨ x = 1 := by rw [← hx]; split <;> omega
    rcases h5 with h | h | h <;> rw [h] <;> omega
/-- sets from all downwards: k of them are left -/
def gmS (K : Kom) (mo : Nat) (k : Int) : Nat → Int → Int
  | 0, fd => fd
  | z + 1, fd => gmS K mo k z (if 0 < smN K mo k z (K 0 3).toNat ∧ (fd < 0 ∨ pcN z 7 ≤ pcN fd.toNat 7) then (z : Int) else fd)
def xMov (K : Kom) (a b : Int) : Int := if (0 ≤ a ∧ a ≤ 2) ∧ 0 ≤ b ∧ b ≤ 9 then gmS K a.toNat b (2 ^ (K 0 3).toNat) (-9) else -1
def hwN (K : Kom) (x : Int) : Nat → Nat
  | 0 => 0
  | i + 1 => hwN K x i ||| (if K 6 i % K 0 0 < x then 2 ^ i else 0)
theorem hwN_lt (K : Kom) (x : Int) (n : Nat) : hwN K x n < 2 ^ n := by
  induction n with
  | zero => simp [hwN]
  | succ n ih =>
    rw [hwN]
    have h2 : 2 ^ n < 2 ^ (n + 1) := Nat.pow_lt_pow_right (by decide) (by omega)
    refine Nat.or_lt_two_pow (by omega) ?_
    split <;> omega
def evb (K : Kom) : Nat := 2 ^ (K 0 3).toNat - 1
def hxG (K : Kom) (mo i : Nat) : Bool := decide (0 < blN K mo (hwN K ((i + 1 : Nat) : Int) (K 0 3).toNat) (K 0 3).toNat) && decide (0 < blN K mo (evb K ^^^ (evb K &&& hwN K ((i + 1 : Nat) : Int) (K 0 3).toNat)) (K 0 3).toNat)
def xHedge (K : Kom) (a : Int) : Int := if 0 ≤ a ∧ a ≤ 2 then (if 0 ≤ fnd (hxG K a.toNat) (K 0 0 - 1).toNat then fnd (hxG K a.toNat) (K 0 0 - 1).toNat + 1 else -9) else -1
def xwN (K : Kom) (mo : Nat) : Nat → Nat
  | 0 => 0
  | i + 1 => xwN K mo i ||| (if decide (0 < blN K mo (evb K ^^^ (evb K &&& 2 ^ i)) (K 0 3).toNat) ≠ decide (0 < blN K mo (evb K) (K 0 3).toNat) then 2 ^ i else 0)
def xSway (K : Kom) (a : Int) : Int := if 0 ≤ a ∧ a ≤ 2 then ((xwN K a.toNat (K 0 3).toNat : Nat) : Int) else -1
def xcS (K : Kom) (a : Int) : Nat → Int
  | 0 => -9
  | i + 1 => if 0 < sdN K i (K 0 2).toNat ∧ (xcS K a i < 0 ∨ stp K a i < stp K a (xcS K a i)) then (i : Int) else xcS K a i
theorem xcS_in (K : Kom) (a : Int) (n : Nat) : xcS K a n = -9 ∨ (0 ≤ xcS K a n ∧ xcS K a n < n) := by
  induction n with
  | zero => exact Or.inl rfl
  | succ n ih =>
    rw [xcS]
    split <;> omega
def xCool (K : Kom) (a : Int) : Int := if 0 ≤ a ∧ a ≤ K 0 3 - 1 then xcS K (K 6 a.toNat) (K 0 0 * K 0 1).toNat else -1
def prN (q : Int) (z : Nat) : Nat → Int
  | 0 => 1
  | i + 1 => prN q z i * (if z.testBit i then q else 10 - q)
def upN (K : Kom) (mo : Nat) (q : Int) : Nat → Int
  | 0 => 0
  | z + 1 => upN K mo q z + (if 0 < blN K mo z (K 0 3).toNat then prN q z (K 0 3).toNat else 0)
def xOdds (K : Kom) (a b d : Int) : Int := if (0 ≤ a ∧ a ≤ 2) ∧ (0 ≤ b ∧ b ≤ 10) ∧ 0 ≤ d ∧ d ≤ 1 then (if d = 0 then upN K a.toNat b (2 ^ (K 0 3).toNat) else 10 ^ (K 0 3).toNat) / gdc (upN K a.toNat b (2 ^ (K 0 3).toNat)) (10 ^ (K 0 3).toNat) else -1
theorem zabs_sym (x y : Int) : zabs (x - y) = zabs (y - x) := by unfold zabs; (repeat' split) <;> omega
theorem stp_sym {K : Kom} {a b : Int} : zabs (b % K 0 0 - a % K 0 0) + zabs (b / K 0 0 - a / K 0 0) = stp K a b := by
  unfold stp
  rw [zabs_sym (b % K 0 0), zabs_sym (b / K 0 0)]
  omega
theorem pr_in {q : Int} (hq : 0 ≤ q ∧ q ≤ 10) (z n : Nat) (hn : n ≤ 7) : 0 ≤ prN q z n ∧ prN q z n ≤ 10000000 := by
  have key : ∀ n, 0 ≤ prN q z n ∧ prN q z n ≤ 10 ^ n := by
    intro n
    induction n with
    | zero => simp [prN]
    | succ n ih =>
      rw [prN, Int.pow_succ]
      have h1 : 0 ≤ (if z.testBit n = true then q else 10 - q) ∧ (if z.testBit n = true then q else 10 - q) ≤ 10 := by split <;> omega
      exact ⟨Int.mul_nonneg ih.1 h1.1, Int.mul_le_mul ih.2 h1.2 h1.1 (Int.le_trans ih.1 ih.2)⟩
  have h1 := key n
  have h2 := ten_in n hn
  omega
theorem upN_in {K : Kom} {mo : Nat} {q : Int} (hq : 0 ≤ q ∧ q ≤ 10) (hn : (K 0 3).toNat ≤ 7) (z : Nat) : 0 ≤ upN K mo q z ∧ upN K mo q z ≤ 10000000 * z := by
  induction z with
  | zero => simp [upN]
  | succ z ih =>
    have h1 := pr_in hq z (K 0 3).toNat hn
    simp only [upN]
    split <;> omega
theorem iZ_andn (a b : Nat) : iZ (a : Int) &&& (iZ (b : Int) ^^^ iZ (-1)) = iZ ((a ^^^ (a &&& b) : Nat) : Int) := by
  rw [iZ_nat, iZ_nat, iZ_nat]
  apply Int32.toBitVec.inj
  rw [Int32.toBitVec_and, Int32.toBitVec_xor, nI_tb, nI_tb, nI_tb]
  apply BitVec.eq_of_getLsbD_eq
  intro i hi
  rw [BitVec.getLsbD_and, BitVec.getLsbD_xor, BitVec.getLsbD_ofNat, BitVec.getLsbD_ofNat, BitVec.getLsbD_ofNat, Nat.testBit_xor, Nat.testBit_and]
  have h1 : ∀ j, j < 32 → (iZ (-1)).toBitVec.getLsbD j = true := by decide
  rw [h1 i hi]
  simp only [hi, decide_true, Bool.true_and, Bool.xor_true]
  cases a.testBit i <;> cases b.testBit i <;> rfl
section ZI
variable {p : Program} {l : Launch} {e : Env} {R : Room} {s : State} {m : MethodId} {args : Array Value} {below : List Frame} {meth : Method} {c : Code} {H : Heap} {locs : List Loc} {cells slots : Nat} {Q : State → Prop}
variable {cc : ByteArray} {pc : Nat} {ls : Array Slot} {rest : List Value}
theorem z_iandn (hx : p.tables.exec = Jvm.exec) (hb : c.code = cc) {a b : Nat} (hdg : decode cc pc = .ok (.iand, 1)) (k : W p l e R s m args below meth c H locs cells slots Q (F0 m (pc + 1) ls (.int (iZ ((a ^^^ (a &&& b) : Nat) : Int)) :: rest))) : W p l e R s m args below meth c H locs cells slots Q (F0 m pc ls (.int (iZ (b : Int) ^^^ iZ (-1)) :: .int (iZ (a : Int)) :: rest)) := lv_iand hx hb hdg (by rw [iZ_andn]; exact k)
end ZI
theorem xa_lt {a b : Nat} (ha : a < 128) (hb : b < 128) : a ^^^ (a &&& b) < 128 := Nat.xor_lt_two_pow (n := 7) ha (Nat.and_lt_two_pow (n := 7) a hb)
theorem d_ne {p q : Prop} [Decidable p] [Decidable q] (h : (p ∧ ¬ q) ∨ (¬ p ∧ q)) : decide p ≠ decide q := by
  rcases h with ⟨h1, h2⟩ | ⟨h1, h2⟩
  · rw [decide_eq_true h1, decide_eq_false h2]; decide
  · rw [decide_eq_false h1, decide_eq_true h2]; decide
theorem d_eq {p q : Prop} [Decidable p] [Decidable q] (h : (p ∧ q) ∨ (¬ p ∧ ¬ q)) : ¬ decide p ≠ decide q := by
  rcases h with ⟨h1, h2⟩ | ⟨h1, h2⟩
  · rw [decide_eq_true h1, decide_eq_true h2]; decide
  · rw [decide_eq_false h1, decide_eq_false h2]; decide
theorem p2_lt {i : Nat} (h : i < 7) : 2 ^ i < 128 := Nat.pow_lt_pow_right (by decide) h
