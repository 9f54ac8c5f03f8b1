/-! ===== how many cells a tree shades ===== -/
def shV (w cl lf : Nat) : Nat → Nat
  | 0 => 0
  | n + 1 => if n ≤ cl ∧ (cl - n) % w = 0 ∧ (cl - n) / w ≤ lf then shV w cl lf n ||| 2 ^ n else shV w cl lf n
theorem shV_dec : ∀ w, w < 6 → ∀ h, h < 5 → ∀ cl, cl < 20 → ∀ lf, lf < 4 → 2 ≤ w → bcI (nI (shV w cl lf (w * h))) = nI (pcN (shV w cl lf (w * h)) (w * h)) := by decide +kernel
theorem shV_big (w cl lf n : Nat) (hw : 0 < w) (hc : cl < 4 * w) (h : 3 ≤ lf) : shV w cl lf n = shV w cl 3 n := by
  induction n with
  | zero => rfl
  | succ n ih =>
    have h1 : (cl - n) / w ≤ 3 := by
      have : (cl - n) / w < 4 := Nat.div_lt_of_lt_mul (by rw [Nat.mul_comm]; omega)
      omega
    rw [shV, shV, ih]
    by_cases q : n ≤ cl ∧ (cl - n) % w = 0
    · rw [if_pos ⟨q.1, q.2, by omega⟩, if_pos ⟨q.1, q.2, h1⟩]
    · rw [if_neg (fun z => q ⟨z.1, z.2.1⟩), if_neg (fun z => q ⟨z.1, z.2.1⟩)]
/-- what t shades is nothing, or a part of a column -/
theorem shB_V {K : Kom} (hW : cWF K) {t : Nat} (ht : t < 6) (n : Nat) : (K 2 t ≠ 0 ∧ (K 0 6 = 0 ∨ K 4 t ≠ 0) → shB K t n = shV (K 0 0).toNat (K 1 t).toNat (K 2 t / K 0 4).toNat n) ∧ (¬ (K 2 t ≠ 0 ∧ (K 0 6 = 0 ∨ K 4 t ≠ 0)) → shB K t n = 0) := by
  have h0 := hW.1
  have hb := hW.2.1 t ht
  have hd := dv_in (a := K 2 t) (b := K 0 4) (by omega) (by omega)
  induction n with
  | zero => exact ⟨fun _ => rfl, fun _ => rfl⟩
  | succ n ih =>
    constructor
    · intro hA
      rw [shB, shV, ih.1 hA]
      obtain ⟨w, hw⟩ := Int.eq_ofNat_of_zero_le (show 0 ≤ K 0 0 by omega)
      obtain ⟨cl, hcl⟩ := Int.eq_ofNat_of_zero_le (show 0 ≤ K 1 t by omega)
      obtain ⟨lf, hlf⟩ := Int.eq_ofNat_of_zero_le (show 0 ≤ K 2 t / K 0 4 by omega)
      have key : shd K t n = true ↔ n ≤ cl ∧ (cl - n) % w = 0 ∧ (cl - n) / w ≤ lf := by
        unfold shd
        rw [decide_eq_true_iff, hw, hcl, hlf]
        constructor
        · rintro ⟨-, -, h3, h4, h5⟩
          have e1 : (cl : Int) - (n : Int) = ((cl - n : Nat) : Int) := by omega
          rw [e1] at h4 h5
          exact ⟨by omega, by exact_mod_cast h4, by exact_mod_cast h5⟩
        · rintro ⟨h3, h4, h5⟩
          have e1 : (cl : Int) - (n : Int) = ((cl - n : Nat) : Int) := by omega
          rw [e1]
          exact ⟨hA.1, hA.2, by omega, by exact_mod_cast h4, by exact_mod_cast h5⟩
      rw [hw, hcl, hlf]
      show (if shd K t n = true then _ else _) = if n ≤ cl ∧ (cl - n) % w = 0 ∧ (cl - n) / w ≤ lf then _ else _
      by_cases q : shd K t n = true
      · rw [if_pos q, if_pos (key.mp q)]
      · rw [if_neg q, if_neg (fun z => q (key.mpr z))]
    · intro hA
      rw [shB, ih.2 hA, if_neg]
      unfold shd
      rw [decide_eq_true_iff]
      exact fun z => hA ⟨z.1, z.2.1⟩
theorem pcN_0 (k : Nat) : pcN 0 k = 0 := by
  induction k with
  | zero => rfl
  | succ k ih => rw [pcN, ih, Nat.zero_div]
theorem bc_sh {K : Kom} (hW : cWF K) {t : Nat} (ht : (t : Int) < K 0 2) : bcI (iZ ((shB K t (K 0 0 * K 0 1).toNat : Nat) : Int)) = iZ ((pcN (shB K t (K 0 0 * K 0 1).toNat) (K 0 0 * K 0 1).toNat : Nat) : Int) := by
  have h0 := hW.1
  have hb := hW.2.1 t (by omega)
  have hc := hW.2.2.2.1 t ht
  have hd := dv_in (a := K 2 t) (b := K 0 4) (by omega) (by omega)
  rw [iZ_nat, iZ_nat]
  by_cases hA : K 2 t ≠ 0 ∧ (K 0 6 = 0 ∨ K 4 t ≠ 0)
  · rw [(shB_V hW (by omega) _).1 hA]
    obtain ⟨w, hw⟩ := Int.eq_ofNat_of_zero_le (show 0 ≤ K 0 0 by omega)
    obtain ⟨h, hh⟩ := Int.eq_ofNat_of_zero_le (show 0 ≤ K 0 1 by omega)
    have e1 : (K 0 0 * K 0 1).toNat = w * h := by rw [hw, hh]; rfl
    have hcl : (K 1 t).toNat < w * h := by rw [← e1]; omega
    have hw5 : (K 0 0).toNat = w := by rw [hw]; rfl
    have hwh : w * h ≤ 4 * w := by rw [Nat.mul_comm]; exact Nat.mul_le_mul_right w (by omega)
    rw [e1, hw5]
    by_cases hl : (K 2 t / K 0 4).toNat < 4
    · exact shV_dec w (by omega) h (by omega) _ (by omega) _ hl (by omega)
    · rw [shV_big w _ _ _ (by omega) (by omega) (by omega)]
      exact shV_dec w (by omega) h (by omega) _ (by omega) 3 (by decide) (by omega)
  · rw [(shB_V hW (by omega) _).2 hA, pcN_0]
    decide
def raR (K : Kom) (k : Int) (t : Nat) : Int :=
  if k = 0 then K 2 t else if k = 1 then K 2 t + wu K t else if k = 2 then K 2 t - K 1 t else if k = 3 then 2 * (K 2 t + wu K t) else if k = 4 then K 2 t - K 1 t + t else if k = 5 then K 2 t + ((pcN (shB K t (K 0 0 * K 0 1).toNat) (K 0 0 * K 0 1).toNat : Nat) : Int) else -1000000
def raT (tr : Int64) (k : Int) : Int64 :=
  if k = 0 then tr + 1 else if k = 1 then tr + kC10 + 1 else if k = 2 then tr + kC100 + 1 else if k = 3 then tr + kC1000 + kC10 + 1 else if k = 4 then tr + kC10000 + kC100 + 1 else if k = 5 then tr + kC100000 + 1 else tr
theorem raT_0 {tr : Int64} {k : Int} (h : k = 0) : raT tr k = tr + 1 := by subst h; rfl
theorem raT_1 {tr : Int64} {k : Int} (h : k = 1) : raT tr k = tr + kC10 + 1 := by subst h; rfl
theorem raT_2 {tr : Int64} {k : Int} (h : k = 2) : raT tr k = tr + kC100 + 1 := by subst h; rfl
theorem raT_3 {tr : Int64} {k : Int} (h : k = 3) : raT tr k = tr + kC1000 + kC10 + 1 := by subst h; rfl
theorem raT_4 {tr : Int64} {k : Int} (h : k = 4) : raT tr k = tr + kC10000 + kC100 + 1 := by subst h; rfl
theorem raT_5 {tr : Int64} {k : Int} (h : k = 5) : raT tr k = tr + kC100000 + 1 := by subst h; rfl
theorem raT_6 {tr : Int64} {k : Int} (h : k < 0 ∨ 5 < k) : raT tr k = tr := by
  unfold raT
  rw [if_neg (by omega), if_neg (by omega), if_neg (by omega), if_neg (by omega), if_neg (by omega), if_neg (by omega)]
