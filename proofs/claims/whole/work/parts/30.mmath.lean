/-! ===== the reference: its rows seen as a commune ===== -/
abbrev moW (Y : Nat → ClassId) (g9 : Nat) (af : Nat → Nat) (F : Nat → Int) (A : Kom) (tr : Int64) : va_W := [(g9, .inr (7, [.int (iZ (F 0)), .ref (af 1), .int (iZ (F 2)), .int (iZ (F 3)), .int (iZ (F 4)), .int (iZ (F 5)), .int (iZ (F 6)), .int (iZ (F 7)), .int (iZ (F 8)), .int (iZ (F 9)), .int (iZ (F 10)), .ref (af 11), .ref (af 12), .int (iZ (F 13)), .int (iZ (F 14)), .int (iZ (F 15)), .ref (af 16), .ref (af 17), .ref (af 18), .ref (af 19), .ref (af 20), .ref (af 21), .int (iZ (F 22)), .int (iZ (F 23)), .ref (af 24), .long tr, .int (iZ (F 26)), .int (iZ (F 27)), .int (iZ (F 28))])), (af 1, .inl (Y 0, 200, .inl (aI (A 1)))), (af 11, .inl (Y 0, 7, .inl (aI (A 11)))), (af 12, .inl (Y 0, 36, .inl (aI (A 12)))), (af 16, .inl (Y 0, 7, .inl (aI (A 16)))), (af 17, .inl (Y 0, 36, .inl (aI (A 17)))), (af 18, .inl (Y 0, 41, .inl (aI (A 18)))), (af 19, .inl (Y 0, 72, .inl (aI (A 19)))), (af 20, .inl (Y 1, 2, .inl (aI (A 20)))), (af 21, .inl (Y 0, 360, .inl (aI (A 21)))), (af 24, .inl (Y 0, 10, .inl (aI (A 24))))]
def kv (w h n : Int) (Wt S : Nat → Int) : Kom
  | 0 => fun j => match j with
    | 0 => w
    | 1 => h
    | 2 => S 3
    | 3 => n
    | 4 => S 1
    | 5 => S 0
    | _ => S 2
  | 1 => fun t => if t < 5 then S (4 + t) else 0
  | 2 => fun t => if t < 5 then S (9 + t) else 0
  | 3 => fun t => if t < 5 then S (19 + t) else 0
  | 4 => fun t => if t < 5 then S (14 + t) else 0
  | 5 => fun t => if t < 5 then S (24 + t) else 0
  | 6 => fun t => S (29 + t)
  | _ => Wt
abbrev kF (F : Nat → Int) (A : Kom) (S : Nat → Int) : Kom := kv (F 13) (F 14) (F 15) (A 16) S
def kM (F : Nat → Int) (A : Kom) (S : Nat → Int) : Kom := if 0 ≤ F 26 then adT (kF F A S) (F 26) (F 27) 1 (F 28) else kF F A S
theorem kM_no {F : Nat → Int} {A : Kom} {S : Nat → Int} (h : F 26 < 0) : kM F A S = kF F A S := if_neg (by omega)
theorem kv_1 {w h n : Int} {Wt S : Nat → Int} {t : Nat} (ht : t < 5) : kv w h n Wt S 1 t = S (4 + t) := if_pos ht
theorem kv_2 {w h n : Int} {Wt S : Nat → Int} {t : Nat} (ht : t < 5) : kv w h n Wt S 2 t = S (9 + t) := if_pos ht
theorem kv_3 {w h n : Int} {Wt S : Nat → Int} {t : Nat} (ht : t < 5) : kv w h n Wt S 3 t = S (19 + t) := if_pos ht
theorem kv_4 {w h n : Int} {Wt S : Nat → Int} {t : Nat} (ht : t < 5) : kv w h n Wt S 4 t = S (14 + t) := if_pos ht
theorem kv_5 {w h n : Int} {Wt S : Nat → Int} {t : Nat} (ht : t < 5) : kv w h n Wt S 5 t = S (24 + t) := if_pos ht
theorem kF_1 {F : Nat → Int} {A : Kom} {S : Nat → Int} {t : Nat} (ht : t < 5) : kF F A S 1 t = S (4 + t) := if_pos ht
theorem kF_2 {F : Nat → Int} {A : Kom} {S : Nat → Int} {t : Nat} (ht : t < 5) : kF F A S 2 t = S (9 + t) := if_pos ht
theorem kF_3 {F : Nat → Int} {A : Kom} {S : Nat → Int} {t : Nat} (ht : t < 5) : kF F A S 3 t = S (19 + t) := if_pos ht
theorem kF_4 {F : Nat → Int} {A : Kom} {S : Nat → Int} {t : Nat} (ht : t < 5) : kF F A S 4 t = S (14 + t) := if_pos ht
theorem kF_5 {F : Nat → Int} {A : Kom} {S : Nat → Int} {t : Nat} (ht : t < 5) : kF F A S 5 t = S (24 + t) := if_pos ht
/-- what the reference's rows must be like, with the view at S -/
def mV (F : Nat → Int) (A : Kom) (S : Nat → Int) : Prop := cWF (kF F A S) ∧ S 3 ≤ 5 ∧ (F 26 < 0 ∨ (0 ≤ F 26 ∧ F 26 < F 13 * F 14 ∧ 1 ≤ F 27 ∧ F 27 ≤ 20 ∧ 0 ≤ F 28 ∧ F 28 ≤ 7)) ∧ -1 ≤ F 26 ∧ (∀ t : Nat, t < 5 → 0 ≤ S (4 + t) ∧ S (4 + t) ≤ 19 ∧ 0 ≤ S (9 + t) ∧ S (9 + t) ≤ 20 ∧ 0 ≤ S (19 + t) ∧ S (19 + t) ≤ 7 ∧ 0 ≤ S (14 + t) ∧ S (14 + t) ≤ 1 ∧ 0 ≤ S (24 + t) ∧ S (24 + t) ≤ 1) ∧ (∀ i : Nat, i < 7 → 0 ≤ S (29 + i) ∧ S (29 + i) ≤ 19 ∧ 0 ≤ A 16 i ∧ A 16 i ≤ 4) ∧ (2 ≤ F 13 ∧ F 13 ≤ 5 ∧ 2 ≤ F 14 ∧ F 14 ≤ 4 ∧ 0 ≤ S 3 ∧ 0 ≤ F 15 ∧ F 15 ≤ 7 ∧ 1 ≤ S 1 ∧ S 1 ≤ 9 ∧ 0 ≤ S 0 ∧ S 0 ≤ 999 ∧ 0 ≤ S 2 ∧ S 2 ≤ 1) ∧ (4 ≤ F 13 * F 14 ∧ F 13 * F 14 ≤ 20) ∧ (∀ i : Nat, (i : Int) < F 15 → S (29 + i) < F 13 * F 14) ∧ (∀ t : Nat, (t : Int) < S 3 → S (4 + t) < F 13 * F 14)
theorem mV_of {F : Nat → Int} {A : Kom} {S : Nat → Int} (hW : cWF (kF F A S)) (h5 : S 3 ≤ 5) (hm : F 26 = -1 ∨ (0 ≤ F 26 ∧ F 26 < F 13 * F 14 ∧ 1 ≤ F 27 ∧ F 27 ≤ 20 ∧ 0 ≤ F 28 ∧ F 28 ≤ 7)) : mV F A S := by
  refine ⟨hW, h5, by omega, by omega, fun t ht => ?_, fun i hi => hW.2.2.1 i hi, ?_, hW.nc, hW.2.2.2.2, fun t ht => ?_⟩
  · have h := hW.2.1 t (by omega)
    rw [kF_1 ht, kF_2 ht, kF_3 ht, kF_4 ht, kF_5 ht] at h
    exact h
  · have h : 2 ≤ F 13 ∧ F 13 ≤ 5 ∧ 2 ≤ F 14 ∧ F 14 ≤ 4 ∧ 0 ≤ S 3 ∧ S 3 ≤ 6 ∧ 0 ≤ F 15 ∧ F 15 ≤ 7 ∧ 1 ≤ S 1 ∧ S 1 ≤ 9 ∧ 0 ≤ S 0 ∧ S 0 ≤ 999 ∧ 0 ≤ S 2 ∧ S 2 ≤ 1 := hW.1
    omega
  · have h := hW.2.2.2.1 t ht
    rw [kF_1 (t := t) (by omega)] at h
    exact h
theorem kM_WF {F : Nat → Int} {A : Kom} {S : Nat → Int} (h : mV F A S) : cWF (kM F A S) := by
  obtain ⟨hW, h5, hm, -⟩ := h
  unfold kM
  split
  · exact cWF_adT hW h5 (by show 0 ≤ F 26 ∧ F 26 < F 13 * F 14; omega) (by omega) (by decide) (by omega)
  · exact hW
/-- shade as the reference makes it -/
def sbN (w : Int) : Nat → Int → Int → Nat → Nat
  | 0, _, _, z => z
  | f + 1, c, lf, z => if 0 ≤ c ∧ 0 ≤ lf then sbN w f (c - w) (lf + (-1)) (z ||| 2 ^ c.toNat) else z
def shF (w sn wi c hh gr : Int) : Nat := if hh = 0 ∨ (gr = 0 ∧ wi = 1) then 0 else sbN w 21 c (hh / sn) 0
theorem sbN_stop {w : Int} {f : Nat} {c lf : Int} {z : Nat} (h : ¬ (0 ≤ c ∧ 0 ≤ lf)) : sbN w f c lf z = z := by
  cases f with
  | zero => rfl
  | succ f => rw [sbN, if_neg h]
/-- the bits of sbN: what was there, and the column's cells -/
theorem sbN_bit {w : Int} (hw : 0 < w) : ∀ (f : Nat) (c lf : Int) (z j : Nat), c < f → ((sbN w f c lf z).testBit j = true ↔ z.testBit j = true ∨ ((j : Int) ≤ c ∧ (c - j) % w = 0 ∧ (c - j) / w ≤ lf)) := by
  intro f
  induction f with
  | zero =>
    intro c lf z j hc
    rw [sbN]
    constructor
    · exact Or.inl
    · rintro (h | ⟨h, -⟩)
      · exact h
      · omega
  | succ f ih =>
    intro c lf z j hc
    rw [sbN]
    by_cases h : 0 ≤ c ∧ 0 ≤ lf
    · rw [if_pos h, ih (c - w) (lf + (-1)) _ j (by omega), Nat.testBit_or, Bool.or_eq_true, Nat.testBit_two_pow, decide_eq_true_iff]
      have e1 : c - w - (j : Int) = (c - j) - w := by omega
      have e2 : ((c - j) - w) % w = (c - j) % w := Int.sub_emod_right _ _
      have e3 : ((c - j) - w) / w = (c - j) / w - 1 := by
        rw [show (c - (j : Int)) - w = (c - j) + (-1) * w by omega, Int.add_mul_ediv_right _ _ (by omega)]
        omega
      rw [e1, e2, e3]
      constructor
      · rintro ((h1 | h1) | ⟨h1, h2, h3⟩)
        · exact Or.inl h1
        · refine Or.inr ⟨by omega, ?_, ?_⟩
          · rw [show c - (j : Int) = 0 by omega]; exact Int.zero_emod _
          · rw [show c - (j : Int) = 0 by omega, Int.zero_ediv]; exact h.2
        · exact Or.inr ⟨by omega, h2, by omega⟩
      · rintro (h1 | ⟨h1, h2, h3⟩)
        · exact Or.inl (Or.inl h1)
        · by_cases q : (j : Int) = c
          · exact Or.inl (Or.inr (by omega))
          · refine Or.inr ⟨?_, h2, by omega⟩
            have h4 : 0 < c - (j : Int) := by omega
            have h5 := Int.mul_ediv_add_emod (c - (j : Int)) w
            rw [h2] at h5
            have h6 : 0 < (c - (j : Int)) / w := by
              rcases Int.lt_or_le 0 ((c - (j : Int)) / w) with h | h
              · exact h
              · have h8 : w * ((c - (j : Int)) / w) ≤ 0 := Int.mul_nonpos_of_nonneg_of_nonpos (by omega) h
                omega
            have h7 : w * 1 ≤ w * ((c - (j : Int)) / w) := Int.mul_le_mul_of_nonneg_left (by omega) (by omega)
            omega
    · rw [if_neg h]
      constructor
      · exact Or.inl
      · rintro (h1 | ⟨h1, h2, h3⟩)
        · exact h1
        · exfalso
          have h4 : 0 ≤ (c - (j : Int)) / w := Int.ediv_nonneg (by omega) (by omega)
          omega
theorem shB_bit (K : Kom) (t n j : Nat) : (shB K t n).testBit j = true ↔ j < n ∧ shd K t j = true := by
  induction n with
  | zero => simp [shB]
  | succ n ih =>
    rw [shB]
    by_cases h : shd K t n = true
    · rw [if_pos h, Nat.testBit_or, Bool.or_eq_true, ih, Nat.testBit_two_pow, decide_eq_true_iff]
      constructor
      · rintro (h1 | rfl)
        · exact ⟨by omega, h1.2⟩
        · exact ⟨by omega, h⟩
      · rintro ⟨h1, h2⟩
        by_cases q : j = n
        · exact Or.inr q.symm
        · exact Or.inl ⟨by omega, h2⟩
    · rw [if_neg h, ih]
      constructor
      · exact fun h1 => ⟨by omega, h1.2⟩
      · rintro ⟨h1, h2⟩
        refine ⟨?_, h2⟩
        by_cases q : j = n
        · subst q; exact absurd h2 h
        · omega
theorem shF_eq {K : Kom} (hW : cWF K) {t : Nat} (ht : (t : Int) < K 0 2) : shF (K 0 0) (K 0 4) (K 0 6) (K 1 t) (K 2 t) (K 4 t) = shB K t (K 0 0 * K 0 1).toNat := by
  have h0 := hW.1
  have hb := hW.2.1 t (by omega)
  have hc := hW.2.2.2.1 t ht
  have hnc := hW.nc
  apply Nat.eq_of_testBit_eq
  intro j
  rw [Bool.eq_iff_iff, shB_bit]
  unfold shF
  by_cases h : K 2 t = 0 ∨ (K 4 t = 0 ∧ K 0 6 = 1)
  · rw [if_pos h, Nat.zero_testBit]
    constructor
    · intro q; cases q
    · rintro ⟨-, q⟩
      have := of_decide_eq_true q
      omega
  · rw [if_neg h, sbN_bit (by omega) 21 (K 1 t) _ 0 j (by omega), Nat.zero_testBit]
    unfold shd
    rw [decide_eq_true_iff]
    constructor
    · rintro (q | ⟨q1, q2, q3⟩)
      · cases q
      · exact ⟨by omega, by omega, by omega, q1, q2, q3⟩
    · rintro ⟨q0, -, -, q1, q2, q3⟩
      exact Or.inr ⟨q1, q2, q3⟩
theorem shF_kv {F : Nat → Int} {A : Kom} {S : Nat → Int} (h : mV F A S) {t : Nat} (ht : (t : Int) < S 3) : shF (F 13) (S 1) (S 2) (S (4 + t)) (S (9 + t)) (bZ (decide (S (14 + t) = 1))) = shB (kF F A S) t (F 13 * F 14).toNat := by
  have h5 := h.2.1
  have hb := h.2.2.2.2.1 t (by omega)
  have e := shF_eq h.1 (t := t) ht
  rw [kF_1 (t := t) (by omega), kF_2 (t := t) (by omega), kF_4 (t := t) (by omega)] at e
  rw [← b01_dec (by omega)]
  exact e
/-- one tree more, of the highest number -/
theorem ovS_adT {K : Kom} {a h e w : Int} (x : Int) (t : Nat) (ht : t ≤ (K 0 2).toNat) : ovS (adT K a h e w) x t = ovS K x t := by
  induction t with
  | zero => rfl
  | succ t ih =>
    have e1 : adT K a h e w 2 t = K 2 t := up_ne _ _ (by omega)
    have e2 : shd (adT K a h e w) t x = shd K t x := by
      unfold shd
      rw [e1, show adT K a h e w 1 t = K 1 t from up_ne _ _ (by omega), show adT K a h e w 4 t = K 4 t from up_ne _ _ (by omega)]
      rfl
    rw [ovS, ovS, ih (by omega), e1, e2]
theorem ov_adT {K : Kom} (h0 : 0 ≤ K 0 2) {a h e w : Int} (x : Int) : ov (adT K a h e w) x = if (ovS K x (K 0 2).toNat).2 < h ∧ shd (adT K a h e w) (K 0 2).toNat x = true then K 0 2 else ov K x := by
  unfold ov
  rw [show (adT K a h e w 0 2).toNat = (K 0 2).toNat + 1 from by show (K 0 2 + 1).toNat = _; omega, ovS, ovS_adT x _ (Nat.le_refl _), show adT K a h e w 2 (K 0 2).toNat = h from up_eq _ _ _]
  split
  · dsimp only; omega
  · rfl
def blN (K : Kom) (mo z : Nat) : Nat → Int
  | 0 => 0
  | i + 1 => blN K mo z i + (if z.testBit i then K 7 i * vo K (K 6 i) mo else 0)
theorem blN_in {K : Kom} (hW : cWF K) (mo z n : Nat) (hn : n ≤ 7) : -4 * n ≤ blN K mo z n ∧ blN K mo z n ≤ 4 * n := by
  induction n with
  | zero => simp [blN]
  | succ n ih =>
    have h1 := vt_in hW n mo (by omega)
    have h2 := ih (by omega)
    unfold vt at h1
    rw [Int.mul_comm] at h1
    simp only [blN]
    split <;> omega
theorem shB_20 {K : Kom} (t : Nat) {n : Nat} (hn : n ≤ 20) : shB K t n < 1048576 := by
  have h1 := shB_lt K t n
  have h2 : 2 ^ n ≤ 2 ^ 20 := Nat.pow_le_pow_right (by decide) hn
  have h3 : (2 : Nat) ^ 20 = 1048576 := by decide
  omega
def flds (v0 v2 v3 v4 v5 v6 v7 v8 v9 v10 v13 v14 v15 v22 v23 v26 v27 v28 : Int) : Nat → Int
  | 0 => v0
  | 1 => 0
  | 2 => v2
  | 3 => v3
  | 4 => v4
  | 5 => v5
  | 6 => v6
  | 7 => v7
  | 8 => v8
  | 9 => v9
  | 10 => v10
  | 11 => 0
  | 12 => 0
  | 13 => v13
  | 14 => v14
  | 15 => v15
  | 16 => 0
  | 17 => 0
  | 18 => 0
  | 19 => 0
  | 20 => 0
  | 21 => 0
  | 22 => v22
  | 23 => v23
  | 24 => 0
  | 25 => 0
  | 26 => v26
  | 27 => v27
  | _ => v28
def arrs (a1 a11 a12 a16 a17 a18 a19 a20 a21 a24 : Nat → Int) : Kom
  | 1 => a1
  | 11 => a11
  | 12 => a12
  | 16 => a16
  | 17 => a17
  | 18 => a18
  | 19 => a19
  | 20 => a20
  | 21 => a21
  | _ => a24
theorem shd_of {K : Kom} {t : Nat} {n a : Int} (ha : 0 ≤ a ∧ a < n) : (shB K t n.toNat).testBit a.toNat = shd K t a := by
  obtain ⟨j, rfl⟩ := Int.eq_ofNat_of_zero_le ha.1
  rw [Bool.eq_iff_iff, shB_bit]
  constructor
  · exact fun h => h.2
  · exact fun h => ⟨by omega, h⟩
theorem bit_shd {K : Kom} {t : Nat} {n a : Int} (ha : 0 ≤ a ∧ a < n) : ((shB K t n.toNat / 2 ^ a.toNat % 2 : Nat) : Int) = bZ (shd K t a) := by
  rw [← shd_of ha, Nat.testBit_eq_decide_div_mod_eq]
  have h : shB K t n.toNat / 2 ^ a.toNat % 2 < 2 := Nat.mod_lt _ (by decide)
  by_cases q : shB K t n.toNat / 2 ^ a.toNat % 2 = 1
  · rw [decide_eq_true q, q]; rfl
  · rw [decide_eq_false q, show shB K t n.toNat / 2 ^ a.toNat % 2 = 0 by omega]; rfl
theorem kM_yes {F : Nat → Int} {A : Kom} {S : Nat → Int} (h : 0 ≤ F 26) : kM F A S = adT (kF F A S) (F 26) (F 27) 1 (F 28) := if_pos h
theorem shF_more {F : Nat → Int} {A : Kom} {S : Nat → Int} (h : mV F A S) (hm : 0 ≤ F 26) : shF (F 13) (S 1) (S 2) (F 26) (F 27) (bZ true) = shB (kM F A S) (S 3).toNat (F 13 * F 14).toNat := by
  have h3 : 0 ≤ S 3 := h.2.2.2.2.2.2.1.2.2.2.2.1
  have e := shF_eq (kM_WF h) (t := (S 3).toNat) (by rw [kM_yes hm]; show (((S 3).toNat : Nat) : Int) < S 3 + 1; omega)
  rw [kM_yes hm] at e ⊢
  rw [show adT (kF F A S) (F 26) (F 27) 1 (F 28) 1 (S 3).toNat = F 26 from up_eq _ _ _, show adT (kF F A S) (F 26) (F 27) 1 (F 28) 2 (S 3).toNat = F 27 from up_eq _ _ _, show adT (kF F A S) (F 26) (F 27) 1 (F 28) 4 (S 3).toNat = 1 from up_eq _ _ _] at e
  exact e
theorem un_0 {F : Nat → Int} {A : Kom} {S : Nat → Int} {a : Int} (h : F 26 < 0) : ov (kM F A S) a = (ovS (kF F A S) a (S 3).toNat).1 := by rw [kM_no h]; rfl
theorem un_no {F : Nat → Int} {A : Kom} {S : Nat → Int} {a : Int} (hm : 0 ≤ F 26) (h3 : 0 ≤ S 3) (h : F 27 ≤ (ovS (kF F A S) a (S 3).toNat).2 ∨ shd (kM F A S) (S 3).toNat a = false) : ov (kM F A S) a = (ovS (kF F A S) a (S 3).toNat).1 := by
  rw [kM_yes hm] at h ⊢
  rw [ov_adT (K := kF F A S) h3, if_neg]
  · rfl
  · rintro ⟨q1, q2⟩
    have q1' : (ovS (kF F A S) a (S 3).toNat).2 < F 27 := q1
    have q2' : shd (adT (kF F A S) (F 26) (F 27) 1 (F 28)) (S 3).toNat a = true := q2
    rcases h with h | h
    · omega
    · rw [h] at q2'; exact Bool.noConfusion q2'
theorem un_yes {F : Nat → Int} {A : Kom} {S : Nat → Int} {a : Int} (hm : 0 ≤ F 26) (h3 : 0 ≤ S 3) (h1 : (ovS (kF F A S) a (S 3).toNat).2 < F 27) (h2 : shd (kM F A S) (S 3).toNat a = true) : ov (kM F A S) a = S 3 := by
  rw [kM_yes hm] at h2 ⊢
  rw [ov_adT (K := kF F A S) h3, if_pos ⟨h1, h2⟩]
  rfl
def wnF (F S : Nat → Int) (t b : Int) : Bool := Nat.testBit (if t = S 3 then F 28 else S (19 + t).toNat).toNat b.toNat
theorem ov_kM {F : Nat → Int} {A : Kom} {S : Nat → Int} (h : mV F A S) (a : Int) : ov (kM F A S) a = -9 ∨ (0 ≤ ov (kM F A S) a ∧ ov (kM F A S) a ≤ S 3 ∧ (F 26 < 0 → ov (kM F A S) a < S 3)) := by
  have q := ov_in (kM_WF h) a
  have h3 : 0 ≤ S 3 := h.2.2.2.2.2.2.1.2.2.2.2.1
  by_cases hm : 0 ≤ F 26
  · have e : kM F A S 0 2 = S 3 + 1 := by rw [kM_yes hm]; rfl
    omega
  · have e : kM F A S 0 2 = S 3 := by rw [kM_no (by omega)]; rfl
    omega
theorem vo_kM {F : Nat → Int} {A : Kom} {S : Nat → Int} (h : mV F A S) (a b : Int) : vo (kM F A S) a b.toNat = if ov (kM F A S) a = -9 then 0 else if wnF F S (ov (kM F A S) a) b = true then 1 else -1 := by
  have q := ov_kM h a
  have h5 := h.2.1
  unfold vo
  by_cases c : ov (kM F A S) a = -9
  · rw [if_neg (by omega), if_pos c]
  · rw [if_pos (by omega), if_neg c]
    have e : kM F A S 3 (ov (kM F A S) a).toNat = if ov (kM F A S) a = S 3 then F 28 else S (19 + ov (kM F A S) a).toNat := by
      have q2 : 0 ≤ ov (kM F A S) a ∧ ov (kM F A S) a ≤ S 3 ∧ (F 26 < 0 → ov (kM F A S) a < S 3) := by omega
      generalize ov (kM F A S) a = x at q2
      by_cases hm : 0 ≤ F 26
      · rw [kM_yes hm]
        by_cases d : x = S 3
        · rw [if_pos d, d]; exact up_eq _ _ _
        · rw [if_neg d]
          have e1 : adT (kF F A S) (F 26) (F 27) 1 (F 28) 3 x.toNat = kF F A S 3 x.toNat := up_ne _ _ (by show x.toNat ≠ (S 3).toNat; omega)
          rw [e1, kF_3 (t := x.toNat) (by omega), show (19 + x).toNat = 19 + x.toNat by omega]
      · rw [kM_no (by omega), if_neg (by omega), kF_3 (t := x.toNat) (by omega), show (19 + x).toNat = 19 + x.toNat by omega]
    rw [e]
    rfl
theorem kM_6 {F : Nat → Int} {A : Kom} {S : Nat → Int} (i : Nat) : kM F A S 6 i = S (29 + i) := by
  by_cases hm : 0 ≤ F 26
  · rw [kM_yes hm]; rfl
  · rw [kM_no (by omega)]
    rfl
theorem kM_7 {F : Nat → Int} {A : Kom} {S : Nat → Int} (i : Nat) : kM F A S 7 i = A 16 i := by
  by_cases hm : 0 ≤ F 26
  · rw [kM_yes hm]; rfl
  · rw [kM_no (by omega)]
    rfl
theorem kM_03 {F : Nat → Int} {A : Kom} {S : Nat → Int} : kM F A S 0 3 = F 15 := by
  by_cases hm : 0 ≤ F 26
  · rw [kM_yes hm]; rfl
  · rw [kM_no (by omega)]
    rfl
