/-! ===== the reference, changed ===== -/
theorem cpy_0 {f g : Nat → Int} {x y : Nat} : va_cpy f g x y 0 = g := by
  funext j
  unfold va_cpy
  rw [if_neg (by omega)]
theorem cpy_up {f g : Nat → Int} {fr to : Int} {k : Nat} (h1 : 0 ≤ fr) (h2 : 0 ≤ to) : va_up (va_cpy f g fr.toNat to.toNat k) (to + k).toNat (f (fr + k).toNat) = va_cpy f g fr.toNat to.toNat (k + 1) := by
  funext j
  rw [show (to + k).toNat = to.toNat + k by omega, show (fr + k).toNat = fr.toNat + k by omega]
  by_cases h : j = to.toNat + k
  · subst h
    rw [up_eq]
    unfold va_cpy
    rw [if_pos (by omega)]
    congr 1
    omega
  · rw [up_ne _ _ h]
    unfold va_cpy
    by_cases q : to.toNat ≤ j ∧ j < to.toNat + k
    · rw [if_pos q, if_pos (by omega)]
    · rw [if_neg q, if_neg (by omega)]
def shN (f : Nat → Int) (k : Nat) : Nat → Int := fun j => if j < k then f (j + 36) else f j
theorem shN_0 (f : Nat → Int) : shN f 0 = f := by
  funext j
  unfold shN
  rw [if_neg (by omega)]
theorem shN_up (f : Nat → Int) (k : Nat) : va_up (shN f k) k (shN f k (k + 36)) = shN f (k + 1) := by
  funext j
  by_cases h : j = k
  · subst h
    rw [up_eq]
    unfold shN
    rw [if_neg (by omega), if_pos (by omega)]
  · rw [up_ne _ _ h]
    unfold shN
    by_cases q : j < k
    · rw [if_pos q, if_pos (by omega)]
    · rw [if_neg q, if_neg (by omega)]
def bkS (f : Nat → Int) (n : Int) : Nat → Int := if n = 10 then shN f 324 else f
def ntA (B S : Nat → Int) (n : Int) : Nat → Int := va_cpy S (bkS B n) 0 (36 * (if n = 10 then 9 else n)).toNat 36
def opF (F : Nat → Int) : Nat → Int := va_up F 22 (min (F 22 + 1) 10)
def opA (F : Nat → Int) (A : Kom) (S' : Nat → Int) : Kom := va_up (va_up A 21 (ntA (A 21) (A 17) (F 22))) 17 S'
def gwN (S : Nat → Int) : Nat → Nat → Int
  | 0 => va_up S 0 (S 0 + 1)
  | t + 1 => va_up (gwN S t) (9 + t) (S (9 + t) + (if S (24 + t) = 0 ∧ S (9 + t) < 20 then 1 else 0))
theorem gwN_hi (S : Nat → Int) (t j : Nat) (h : j ≠ 0) (h2 : j < 9 ∨ 9 + t ≤ j) : gwN S t j = S j := by
  induction t with
  | zero => exact up_ne _ _ h
  | succ t ih => rw [gwN, up_ne _ _ (by omega)]; exact ih (by omega)
theorem gwN_0 (S : Nat → Int) (t : Nat) : gwN S t 0 = S 0 + 1 := by
  induction t with
  | zero => exact up_eq _ _ _
  | succ t ih => rw [gwN, up_ne _ _ (by omega)]; exact ih
def plA (S : Nat → Int) (a b : Int) : Nat → Int := va_up (va_up (va_up (va_up (va_up (va_up S (4 + S 3).toNat a) (9 + S 3).toNat 1) (14 + S 3).toNat 0) (19 + S 3).toNat b) (24 + S 3).toNat 0) 3 (S 3 + 1)
theorem row_lt {c w h : Int} (hc : 0 ≤ c) (hw : 2 ≤ w ∧ w ≤ 5) : (0 < c / w ↔ w ≤ c) ∧ (c / w < h - 1 ↔ c < w * (h - 1)) := by
  have h1 : 1 ≤ c / w ↔ 1 * w ≤ c := Int.le_ediv_iff_mul_le (by omega)
  have h2 : c / w < h - 1 ↔ c < (h - 1) * w := Int.ediv_lt_iff_lt_mul (by omega)
  rw [Int.mul_comm w]
  omega
abbrev cpW (Y : Nat → ClassId) (aa bb na nb : Nat) (fa fb : Nat → Int) : va_W := [(aa, .inl (Y 0, na, .inl (aI fa))), (bb, .inl (Y 0, nb, .inl (aI fb)))]
theorem wh1_in {w h : Int} (hw : 2 ≤ w ∧ w ≤ 5) (hh : 2 ≤ h ∧ h ≤ 4) : 0 ≤ w * (h - 1) ∧ w * (h - 1) ≤ 20 := by
  have h1 : w = 2 ∨ w = 3 ∨ w = 4 ∨ w = 5 := by omega
  have h2 : h = 2 ∨ h = 3 ∨ h = 4 := by omega
  rcases h1 with rfl | rfl | rfl | rfl <;> rcases h2 with rfl | rfl | rfl <;> decide
def xBack (A : Kom) (a : Int) : Int := if 0 ≤ a ∧ a ≤ 1 then (if A 20 a.toNat = 0 then -2 else A 19 (36 * a).toNat) else -1
theorem cpy_at {f g : Nat → Int} {x : Nat} : va_cpy f g x 0 36 0 = f x := by
  unfold va_cpy
  rw [if_pos (by omega)]
  rfl
