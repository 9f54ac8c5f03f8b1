/-! ===== two communes that agree where they are looked at ===== -/
def EqK (K K' : Kom) : Prop := (∀ j : Nat, j < 7 → K 0 j = K' 0 j) ∧ (∀ t : Nat, (t : Int) < K 0 2 → K 1 t = K' 1 t ∧ K 2 t = K' 2 t ∧ K 3 t = K' 3 t ∧ K 4 t = K' 4 t ∧ K 5 t = K' 5 t) ∧ (∀ i : Nat, (i : Int) < K 0 3 → K 6 i = K' 6 i ∧ K 7 i = K' 7 i)
theorem EqK.rf (K : Kom) : EqK K K := ⟨fun _ _ => rfl, fun _ _ => ⟨rfl, rfl, rfl, rfl, rfl⟩, fun _ _ => ⟨rfl, rfl⟩⟩
theorem EqK.s {K K' : Kom} (e : EqK K K') : EqK K' K := by
  refine ⟨fun j hj => (e.1 j hj).symm, fun t ht => ?_, fun i hi => ?_⟩
  · have h := e.2.1 t (by rw [e.1 2 (by decide)]; exact ht)
    exact ⟨h.1.symm, h.2.1.symm, h.2.2.1.symm, h.2.2.2.1.symm, h.2.2.2.2.symm⟩
  · have h := e.2.2 i (by rw [e.1 3 (by decide)]; exact hi)
    exact ⟨h.1.symm, h.2.symm⟩
theorem EqK.t {K K' K2 : Kom} (e : EqK K K') (e2 : EqK K' K2) : EqK K K2 := by
  refine ⟨fun j hj => (e.1 j hj).trans (e2.1 j hj), fun t ht => ?_, fun i hi => ?_⟩
  · have h := e.2.1 t ht
    have h2 := e2.2.1 t (by rw [← e.1 2 (by decide)]; exact ht)
    exact ⟨h.1.trans h2.1, h.2.1.trans h2.2.1, h.2.2.1.trans h2.2.2.1, h.2.2.2.1.trans h2.2.2.2.1, h.2.2.2.2.trans h2.2.2.2.2⟩
  · have h := e.2.2 i hi
    have h2 := e2.2.2 i (by rw [← e.1 3 (by decide)]; exact hi)
    exact ⟨h.1.trans h2.1, h.2.trans h2.2⟩
theorem EqK.k0 {K K' : Kom} (e : EqK K K') : K 0 0 = K' 0 0 := e.1 0 (by decide)
theorem EqK.k1 {K K' : Kom} (e : EqK K K') : K 0 1 = K' 0 1 := e.1 1 (by decide)
theorem EqK.k2 {K K' : Kom} (e : EqK K K') : K 0 2 = K' 0 2 := e.1 2 (by decide)
theorem EqK.k3 {K K' : Kom} (e : EqK K K') : K 0 3 = K' 0 3 := e.1 3 (by decide)
theorem EqK.k4 {K K' : Kom} (e : EqK K K') : K 0 4 = K' 0 4 := e.1 4 (by decide)
theorem EqK.k5 {K K' : Kom} (e : EqK K K') : K 0 5 = K' 0 5 := e.1 5 (by decide)
theorem EqK.k6 {K K' : Kom} (e : EqK K K') : K 0 6 = K' 0 6 := e.1 6 (by decide)
theorem shd_c {K K' : Kom} (e : EqK K K') {t : Nat} (ht : (t : Int) < K 0 2) (c : Int) : shd K t c = shd K' t c := by
  have h := e.2.1 t ht
  unfold shd
  rw [h.1, h.2.1, h.2.2.2.1, e.k0, e.k4, e.k6]
theorem shB_c {K K' : Kom} (e : EqK K K') {t : Nat} (ht : (t : Int) < K 0 2) (n : Nat) : shB K t n = shB K' t n := by
  induction n with
  | zero => rfl
  | succ n ih => rw [shB, shB, ih, shd_c e ht]
theorem sdN_c {K K' : Kom} (e : EqK K K') (c : Int) (t : Nat) (ht : (t : Int) ≤ K 0 2) : sdN K c t = sdN K' c t := by
  induction t with
  | zero => rfl
  | succ t ih => rw [sdN, sdN, ih (by omega), shd_c e (by omega)]
theorem sdA_c {K K' : Kom} (e : EqK K K') (c : Int) : sdN K c (K 0 2).toNat = sdN K' c (K' 0 2).toNat := by
  rw [← e.k2]
  by_cases h : 0 ≤ K 0 2
  · exact sdN_c e c _ (by omega)
  · rw [show (K 0 2).toNat = 0 by omega]; rfl
theorem ovS_c {K K' : Kom} (e : EqK K K') (c : Int) (t : Nat) (ht : (t : Int) ≤ K 0 2) : ovS K c t = ovS K' c t := by
  induction t with
  | zero => rfl
  | succ t ih => rw [ovS, ovS, ih (by omega), shd_c e (by omega), (e.2.1 t (by omega)).2.1]
theorem ov_c {K K' : Kom} (e : EqK K K') (c : Int) : ov K c = ov K' c := by
  unfold ov
  rw [← e.k2]
  by_cases h : 0 ≤ K 0 2
  · rw [ovS_c e c _ (by omega)]
  · rw [show (K 0 2).toNat = 0 by omega]; rfl
theorem ovS_b (K : Kom) (c : Int) (t : Nat) : (ovS K c t).1 = -9 ∨ (0 ≤ (ovS K c t).1 ∧ (ovS K c t).1 < t) := by
  induction t with
  | zero => exact Or.inl rfl
  | succ t ih =>
    rw [ovS]
    split
    · right; dsimp only; omega
    · omega
theorem ov_b (K : Kom) (c : Int) : ov K c = -9 ∨ (0 ≤ ov K c ∧ ov K c < K 0 2) := by
  have h := ovS_b K c (K 0 2).toNat
  unfold ov
  omega
theorem vo_c {K K' : Kom} (e : EqK K K') (c : Int) (m : Nat) : vo K c m = vo K' c m := by
  unfold vo
  have h := ov_b K c
  rw [← ov_c e c]
  by_cases q : 0 ≤ ov K c
  · rw [if_pos q, if_pos q, (e.2.1 (ov K c).toNat (by omega)).2.2.1]
  · rw [if_neg q, if_neg q]
theorem wbN_c {K K' : Kom} (e : EqK K K') (m : Nat) (v : Int) (i : Nat) (hi : (i : Int) ≤ K 0 3) : wbN K m v i = wbN K' m v i := by
  induction i with
  | zero => rfl
  | succ i ih =>
    have h := e.2.2 i (by omega)
    rw [wbN, wbN, ih (by omega), h.1, h.2, vo_c e]
theorem wb_c {K K' : Kom} (e : EqK K K') (m : Nat) (v : Int) : wb K m v = wb K' m v := by
  unfold wb
  rw [← e.k3]
  by_cases h : 0 ≤ K 0 3
  · exact wbN_c e m v _ (by omega)
  · rw [show (K 0 3).toNat = 0 by omega]; rfl
theorem crd_c {K K' : Kom} (e : EqK K K') (m : Nat) : crd K m = crd K' m := by unfold crd; rw [wb_c e, wb_c e]
theorem vt_c {K K' : Kom} (e : EqK K K') {i : Nat} (hi : (i : Int) < K 0 3) (m : Nat) : vt K i m = vt K' i m := by
  have h := e.2.2 i hi
  unfold vt
  rw [h.1, h.2, vo_c e]
theorem cdW_c {K K' : Kom} (e : EqK K K') (m : Nat) (a b : Int) (i : Nat) (hi : (i : Int) ≤ K 0 3) : cdW K m a b i = cdW K' m a b i := by
  induction i with
  | zero => rfl
  | succ i ih =>
    have h := e.2.2 i (by omega)
    rw [cdW, cdW, ih (by omega), vt_c e (by omega), h.1, e.k0]
theorem wuN_c {K K' : Kom} (e : EqK K K') (t : Int) (i : Nat) (hi : (i : Int) ≤ K 0 3) : wuN K t i = wuN K' t i := by
  induction i with
  | zero => rfl
  | succ i ih =>
    have h := e.2.2 i (by omega)
    rw [wuN, wuN, ih (by omega), h.1, h.2, ov_c e]
theorem wu_c {K K' : Kom} (e : EqK K K') (t : Int) : wu K t = wu K' t := by
  unfold wu
  rw [← e.k3]
  by_cases h : 0 ≤ K 0 3
  · exact wuN_c e t _ (by omega)
  · rw [show (K 0 3).toNat = 0 by omega]; rfl
theorem wtN_c {K K' : Kom} (e : EqK K K') (t : Nat) : wtN K t = wtN K' t := by
  induction t with
  | zero => rfl
  | succ t ih => rw [wtN, wtN, ih, wu_c e]
theorem htA_c {K K' : Kom} (e : EqK K K') (c : Int) (t : Nat) (ht : (t : Int) ≤ K 0 2) : htA K c t = htA K' c t := by
  induction t with
  | zero => rfl
  | succ t ih => rw [htA, htA, ih (by omega), (e.2.1 t (by omega)).1]
theorem htT_c {K K' : Kom} (e : EqK K K') (c : Int) : htA K c (K 0 2).toNat = htA K' c (K' 0 2).toNat := by
  rw [← e.k2]
  by_cases h : 0 ≤ K 0 2
  · exact htA_c e c _ (by omega)
  · rw [show (K 0 2).toNat = 0 by omega]; rfl
theorem stp_c {K K' : Kom} (e : EqK K K') (a b : Int) : stp K a b = stp K' a b := by unfold stp; rw [e.k0]
theorem nbr_c {K K' : Kom} (e : EqK K K') (c w : Int) : nbr K c w = nbr K' c w := by unfold nbr; rw [e.k0, e.k1]
theorem blN_c {K K' : Kom} (e : EqK K K') (mo z i : Nat) (hi : (i : Int) ≤ K 0 3) : blN K mo z i = blN K' mo z i := by
  induction i with
  | zero => rfl
  | succ i ih =>
    have h := e.2.2 i (by omega)
    rw [blN, blN, ih (by omega), h.1, h.2, vo_c e]
theorem cdA_c {K K' : Kom} (e : EqK K K') (m : Nat) (a b : Int) : cdW K m a b (K 0 3).toNat = cdW K' m a b (K' 0 3).toNat := by
  rw [← e.k3]
  by_cases h : 0 ≤ K 0 3
  · exact cdW_c e m a b _ (by omega)
  · rw [show (K 0 3).toNat = 0 by omega]; rfl
/-! changed alike -/
theorem sun_c {K K' : Kom} (e : EqK K K') (s : Int) : EqK (kS K 0 4 s) (kS K' 0 4 s) := by
  have q : ∀ (K : Kom) (j : Nat), j ≠ 4 → kS K 0 4 s 0 j = K 0 j := fun K j h => by unfold kS; rw [up_eq, up_ne _ _ h]
  have q4 : ∀ (K : Kom), kS K 0 4 s 0 4 = s := fun K => by unfold kS; rw [up_eq, up_eq]
  refine ⟨fun j hj => ?_, fun t ht => ?_, fun i hi => ?_⟩
  · by_cases h : j = 4
    · subst h; rw [q4, q4]
    · rw [q _ _ h, q _ _ h]; exact e.1 j hj
  · rw [q _ _ (by decide)] at ht; exact e.2.1 t ht
  · rw [q _ _ (by decide)] at hi; exact e.2.2 i hi
/-- all who are there: for, less against -/
theorem bl_all (K : Kom) (mo n m : Nat) (hn : n ≤ m) : blN K mo (2 ^ m - 1) n = wbN K mo 1 n - wbN K mo (-1) n := by
  induction n with
  | zero => rfl
  | succ n ih =>
    have hv := vo_in K (K 6 n) mo
    rw [blN, wbN, wbN, ih (by omega), Nat.testBit_two_pow_sub_one, decide_eq_true (by omega), if_pos rfl]
    have h3 : vo K (K 6 n) mo = -1 ∨ vo K (K 6 n) mo = 0 ∨ vo K (K 6 n) mo = 1 := by omega
    rcases h3 with h | h | h <;> rw [h]
    · rw [if_neg (by decide), if_pos rfl]; omega
    · rw [if_neg (by decide), if_neg (by decide)]; omega
    · rw [if_pos rfl, if_neg (by decide)]; omega
theorem bl_crd (K : Kom) (mo : Nat) : crd K mo = decide (0 < blN K mo (2 ^ (K 0 3).toNat - 1) (K 0 3).toNat) := by
  rw [bl_all K mo _ _ (Nat.le_refl _)]
  unfold crd wb
  by_cases h : wbN K mo (-1) (K 0 3).toNat < wbN K mo 1 (K 0 3).toNat
  · rw [decide_eq_true h, decide_eq_true (by omega)]
  · rw [decide_eq_false h, decide_eq_false (by omega)]
/-! the reference's trials -/
theorem cpy_in {f g : Nat → Int} {j : Nat} (h : j < 36) : va_cpy f g 0 0 36 j = f j := by
  unfold va_cpy
  rw [if_pos (by omega)]
  congr 1
  omega
theorem mV_A {F : Nat → Int} {A B : Kom} {S : Nat → Int} (h : mV F A S) (e : B 16 = A 16) : mV F B S := by
  have h2 : kF F B S = kF F A S := by show kv _ _ _ (B 16) S = kv _ _ _ (A 16) S; rw [e]
  unfold mV
  rw [h2, e]
  exact h
theorem KEq.e {K K' : Kom} (q : KEq K K') (h2 : K 0 2 ≤ 6) (h3 : K 0 3 ≤ 7) : EqK K K' := by
  obtain ⟨e0, e1, e2, e3, e4, e5, e6, e7⟩ := q
  exact ⟨e0, fun t ht => ⟨e1 t (by omega), e2 t (by omega), e3 t (by omega), e4 t (by omega), e5 t (by omega)⟩, fun i hi => ⟨e6 i (by omega), e7 i (by omega)⟩⟩
theorem KEq.wf {K K' : Kom} (q : KEq K K') (h : cWF K') : cWF K := by
  obtain ⟨e0, e1, e2, e3, e4, e5, e6, e7⟩ := q
  obtain ⟨h0, h1, h2, h3, h4⟩ := h
  unfold cWF
  rw [e0 0 (by decide), e0 1 (by decide), e0 2 (by decide), e0 3 (by decide), e0 4 (by decide), e0 5 (by decide), e0 6 (by decide)]
  refine ⟨h0, fun t ht => ?_, fun i hi => ?_, fun t ht => ?_, fun i hi => ?_⟩
  · rw [e1 t ht, e2 t ht, e3 t ht, e4 t ht, e5 t ht]; exact h1 t ht
  · rw [e6 i hi, e7 i hi]; exact h2 i hi
  · rw [e1 t (by omega)]; exact h3 t ht
  · rw [e6 i (by omega)]; exact h4 i hi
abbrev suS (S f : Nat → Int) (s : Int) : Nat → Int := va_up (va_cpy S f 0 0 36) 1 s
theorem suS_k {F : Nat → Int} {A : Kom} {S f : Nat → Int} {s : Int} : KEq (kF F A (suS S f s)) (kS (kF F A S) 0 4 s) := by
  have q : ∀ j : Nat, j ≠ 1 → j < 36 → suS S f s j = S j := fun j h h2 => by unfold suS; rw [up_ne _ _ h]; exact cpy_in h2
  have q1 : suS S f s 1 = s := up_eq _ _ _
  refine ⟨fun j hj => ?_, fun t ht => ?_, fun t ht => ?_, fun t ht => ?_, fun t ht => ?_, fun t ht => ?_, fun t ht => ?_, fun _ _ => rfl⟩
  · rcases (show j = 0 ∨ j = 1 ∨ j = 2 ∨ j = 3 ∨ j = 4 ∨ j = 5 ∨ j = 6 by omega) with rfl | rfl | rfl | rfl | rfl | rfl | rfl
    · rfl
    · rfl
    · exact q 3 (by decide) (by decide)
    · rfl
    · exact q1
    · exact q 0 (by decide) (by decide)
    · exact q 2 (by decide) (by decide)
  · show (if t < 5 then suS S f s (4 + t) else 0) = (if t < 5 then S (4 + t) else 0)
    split
    · exact q _ (by omega) (by omega)
    · rfl
  · show (if t < 5 then suS S f s (9 + t) else 0) = (if t < 5 then S (9 + t) else 0)
    split
    · exact q _ (by omega) (by omega)
    · rfl
  · show (if t < 5 then suS S f s (19 + t) else 0) = (if t < 5 then S (19 + t) else 0)
    split
    · exact q _ (by omega) (by omega)
    · rfl
  · show (if t < 5 then suS S f s (14 + t) else 0) = (if t < 5 then S (14 + t) else 0)
    split
    · exact q _ (by omega) (by omega)
    · rfl
  · show (if t < 5 then suS S f s (24 + t) else 0) = (if t < 5 then S (24 + t) else 0)
    split
    · exact q _ (by omega) (by omega)
    · rfl
  · exact q _ (by omega) (by omega)
theorem suS_V {F : Nat → Int} {A : Kom} {S f : Nat → Int} {s : Int} (h : mV F A S) (hs : 1 ≤ s ∧ s ≤ 9) (hno : F 26 < 0) : mV F A (suS S f s) := by
  have h4 := h.2.2.2.1
  exact mV_of (suS_k.wf (cWF_sun h.1 hs)) (by rw [show suS S f s 3 = S 3 from (up_ne _ _ (by decide)).trans (cpy_in (by decide))]; exact h.2.1) (Or.inl (by omega))
theorem suS_e {F : Nat → Int} {A : Kom} {S f : Nat → Int} {s : Int} (h : mV F A S) : EqK (kF F A (suS S f s)) (kS (kF F A S) 0 4 s) := by
  have h5 := h.2.1
  have h7 := h.2.2.2.2.2.2.1
  exact suS_k.e (by show suS S f s 3 ≤ 6; rw [show suS S f s 3 = S 3 from (up_ne _ _ (by decide)).trans (cpy_in (by decide))]; omega) (by show F 15 ≤ 7; omega)
theorem suS_b {F : Nat → Int} {A : Kom} {S f : Nat → Int} {s : Int} (h : mV F A S) (mo : Nat) : 0 < blN (kF F A (suS S f s)) mo (2 ^ (F 15).toNat - 1) (F 15).toNat ↔ crd (kS (kF F A S) 0 4 s) mo = true := by
  rw [← crd_c (suS_e (f := f) h) mo, bl_crd]
  exact decide_eq_true_iff.symm
/-- the one tree lower -/
abbrev loS (S f : Nat → Int) (t : Nat) (n : Int) : Nat → Int := va_up (va_cpy S f 0 0 36) (9 + t) (max (S (9 + t) - n) 0)
theorem loS_k {F : Nat → Int} {A : Kom} {S f : Nat → Int} {t : Nat} {n : Int} (ht5 : t < 5) : KEq (kF F A (loS S f t n)) (lowK (kF F A S) t n) := by
  have q : ∀ j : Nat, j ≠ 9 + t → j < 36 → loS S f t n j = S j := fun j h h2 => by unfold loS; rw [up_ne _ _ h]; exact cpy_in h2
  have q1 : loS S f t n (9 + t) = max (S (9 + t) - n) 0 := up_eq _ _ _
  refine ⟨fun j hj => ?_, fun u hu => ?_, fun u hu => ?_, fun u hu => ?_, fun u hu => ?_, fun u hu => ?_, fun u hu => ?_, fun _ _ => rfl⟩
  · rcases (show j = 0 ∨ j = 1 ∨ j = 2 ∨ j = 3 ∨ j = 4 ∨ j = 5 ∨ j = 6 by omega) with rfl | rfl | rfl | rfl | rfl | rfl | rfl
    · rfl
    · rfl
    · exact q 3 (by omega) (by decide)
    · rfl
    · exact q 1 (by omega) (by decide)
    · exact q 0 (by omega) (by decide)
    · exact q 2 (by omega) (by decide)
  · show (if u < 5 then loS S f t n (4 + u) else 0) = (if u < 5 then S (4 + u) else 0)
    split
    · exact q _ (by omega) (by omega)
    · rfl
  · show (if u < 5 then loS S f t n (9 + u) else 0) = lowK (kF F A S) t n 2 u
    have e2 : lowK (kF F A S) t n 2 u = va_up (kF F A S 2) t (max (kF F A S 2 t - n) 0) u := rfl
    rw [e2]
    by_cases hut : u = t
    · subst hut
      rw [if_pos ht5, up_eq, q1, kF_2 ht5]
    · rw [up_ne _ _ hut]
      show _ = (if u < 5 then S (9 + u) else 0)
      split
      · exact q _ (by omega) (by omega)
      · rfl
  · show (if u < 5 then loS S f t n (19 + u) else 0) = (if u < 5 then S (19 + u) else 0)
    split
    · exact q _ (by omega) (by omega)
    · rfl
  · show (if u < 5 then loS S f t n (14 + u) else 0) = (if u < 5 then S (14 + u) else 0)
    split
    · exact q _ (by omega) (by omega)
    · rfl
  · show (if u < 5 then loS S f t n (24 + u) else 0) = (if u < 5 then S (24 + u) else 0)
    split
    · exact q _ (by omega) (by omega)
    · rfl
  · exact q _ (by omega) (by omega)
theorem loS_V {F : Nat → Int} {A : Kom} {S f : Nat → Int} {t : Nat} {n : Int} (h : mV F A S) (ht : (t : Int) < S 3) (hn : 0 ≤ n) (hno : F 26 < 0) : mV F A (loS S f t n) := by
  have h4 := h.2.2.2.1
  have h5 := h.2.1
  exact mV_of ((loS_k (by omega)).wf (cWF_low h.1 hn)) (by rw [show loS S f t n 3 = S 3 from (up_ne _ _ (by omega)).trans (cpy_in (by decide))]; exact h.2.1) (Or.inl (by omega))
theorem loS_b {F : Nat → Int} {A : Kom} {S f : Nat → Int} {t : Nat} {n : Int} (h : mV F A S) (ht : (t : Int) < S 3) (mo : Nat) : 0 < blN (kF F A (loS S f t n)) mo (2 ^ (F 15).toNat - 1) (F 15).toNat ↔ crd (lowK (kF F A S) t n) mo = true := by
  have h5 := h.2.1
  have h7 := h.2.2.2.2.2.2.1
  have e : EqK (kF F A (loS S f t n)) (lowK (kF F A S) t n) := (loS_k (by omega)).e (by show loS S f t n 3 ≤ 6; rw [show loS S f t n 3 = S 3 from (up_ne _ _ (by omega)).trans (cpy_in (by decide))]; omega) (by show F 15 ≤ 7; omega)
  rw [← crd_c e mo, bl_crd]
  exact decide_eq_true_iff.symm
theorem now_b {F : Nat → Int} {A : Kom} {S : Nat → Int} (mo : Nat) : 0 < blN (kF F A S) mo (2 ^ (F 15).toNat - 1) (F 15).toNat ↔ crd (kF F A S) mo = true := by
  rw [bl_crd]
  exact decide_eq_true_iff.symm
