/-! ===== communes that agree answer alike ===== -/
theorem rTree_c {K K' : Kom} (e : EqK K K') (a b : Int) : rTree K a b = rTree K' a b := by
  unfold rTree
  rw [← e.k2]
  by_cases c : 0 ≤ a ∧ a ≤ K 0 2 - 1
  · have h := e.2.1 a.toNat (by omega)
    rw [if_pos c, if_pos c, h.1, h.2.1, h.2.2.1, h.2.2.2.1, h.2.2.2.2, shB_c e (by omega), e.k0, e.k1]
  · rw [if_neg c, if_neg c]
theorem rPers_c {K K' : Kom} (e : EqK K K') (a b : Int) : rPers K a b = rPers K' a b := by
  unfold rPers
  rw [← e.k3]
  by_cases c : 0 ≤ a ∧ a ≤ K 0 3 - 1
  · have h := e.2.2 a.toNat (by omega)
    rw [if_pos c, if_pos c, h.1, h.2, ov_c e]
  · rw [if_neg c, if_neg c]
theorem rMot_c {K K' : Kom} (e : EqK K K') (a b : Int) : rMot K a b = rMot K' a b := by
  unfold rMot
  rw [wb_c e, wb_c e, crd_c e]
theorem rNow_c {K K' : Kom} (e : EqK K K') (z a : Int) : rNow K z a = rNow K' z a := by
  unfold rNow
  rw [e.k5, e.k4, e.k6, e.k2]
theorem rMoves_c {K K' : Kom} (e : EqK K K') (a b : Int) : rMoves K a b = rMoves K' a b ∧ fMoves K a b = fMoves K' a b := by
  unfold rMoves fMoves
  rw [← e.k3]
  by_cases c : 0 ≤ a ∧ a ≤ K 0 3 - 1
  · have h := e.2.2 a.toNat (by omega)
    rw [h.1, nbr_c e]
    exact ⟨rfl, rfl⟩
  · rw [if_neg (fun z => c z.1), if_neg (fun z => c z.1), decide_eq_false (fun z => c z.1), decide_eq_false (fun z => c z.1)]
    exact ⟨rfl, rfl⟩
theorem rPrunes_c {K K' : Kom} (e : EqK K K') (a b : Int) : rPrunes K a b = rPrunes K' a b ∧ fPrunes K a b = fPrunes K' a b := by
  unfold rPrunes fPrunes
  rw [← e.k2]
  by_cases c : 0 ≤ a ∧ a ≤ K 0 2 - 1
  · have h := e.2.1 a.toNat (by omega)
    rw [h.2.1]
    exact ⟨rfl, rfl⟩
  · rw [if_neg (fun z => c z.1), if_neg (fun z => c z.1)]
    exact ⟨rfl, rfl⟩
theorem rGrows_c {K K' : Kom} (e : EqK K K') : rGrows K = rGrows K' ∧ fGrows K = fGrows K' := by
  unfold rGrows fGrows
  rw [e.k5]
  exact ⟨rfl, rfl⟩
theorem rPlants_c {K K' : Kom} (e : EqK K K') (a b : Int) : rPlants K a b = rPlants K' a b ∧ fPlants K a b = fPlants K' a b := by
  unfold rPlants fPlants
  rw [htT_c e, e.k0, e.k1, e.k2]
  exact ⟨rfl, rfl⟩
theorem rFells_c {K K' : Kom} (e : EqK K K') (a : Int) : rFells K a = rFells K' a ∧ fFells K a = fFells K' a := by
  unfold rFells fFells
  rw [← e.k2]
  by_cases c : 0 ≤ a ∧ a ≤ K 0 2 - 1
  · have h := e.2.1 a.toNat (by omega)
    rw [h.2.2.2.2, h.2.1]
    exact ⟨rfl, rfl⟩
  · rw [if_neg c, if_neg c, decide_eq_false (fun z => c z.1), decide_eq_false (fun z => c z.1)]
    exact ⟨rfl, rfl⟩
theorem rWint_c {K K' : Kom} (e : EqK K K') (a : Int) : rWint K a = rWint K' a := by unfold rWint; rw [e.k6]
theorem rSun_c {K K' : Kom} (e : EqK K K') (a : Int) : rSun K a = rSun K' a := by unfold rSun; rw [e.k4]
theorem bvN_c {K K' : Kom} (e : EqK K K') (a : Int) (mo : Nat) (k : Int) (i : Nat) : bvN K a mo k i = bvN K' a mo k i := by
  induction i with
  | zero => rfl
  | succ i ih => rw [bvN, bvN, ih, stp_c e, vo_c e]
theorem bv_c {K K' : Kom} (e : EqK K K') {i : Nat} (hi : (i : Int) < K 0 3) (mo : Nat) (k : Int) : bv K i mo k = bv K' i mo k := by
  have h := e.2.2 i hi
  unfold bv
  rw [h.1, h.2, bvN_c e, e.k0, e.k1]
theorem fmS_c {E C E' C' : Nat → Int} {n : Nat} (h1 : agr E E' n) (h2 : agr C C' n) (N : Nat) : fmS E C n N = fmS E' C' n N := by
  induction N with
  | zero => rfl
  | succ N ih => rw [fmS, fmS, ih, svN_congr N n h1 h2]
theorem rMovers_c {K K' : Kom} (e : EqK K K') (a b : Int) : rMovers K a b = rMovers K' a b := by
  unfold rMovers fm
  rw [← e.k3, fmS_c (E' := fun j => vt K' j a.toNat) (C' := fun j => bv K' j a.toNat b) (fun j hj => vt_c e (by omega) _) (fun j hj => bv_c e (by omega) _ _)]
theorem fnd_c {g g' : Nat → Bool} (n : Nat) (h : ∀ i, i < n → g i = g' i) : fnd g n = fnd g' n := by
  induction n with
  | zero => rfl
  | succ n ih => rw [fnd, fnd, ih (fun i hi => h i (by omega)), h n (by omega)]
theorem kS_at (K : Kom) (i t : Nat) (v : Int) (i' j : Nat) : kS K i t v i' j = if i' = i ∧ j = t then v else K i' j := by
  unfold kS va_up
  by_cases h : i' = i
  · subst h
    rw [if_pos rfl]
    by_cases q : j = t
    · rw [if_pos q, if_pos ⟨rfl, q⟩]
    · rw [if_neg q, if_neg (fun z => q z.2)]
  · rw [if_neg h, if_neg (fun z => h z.1)]
/-- one number of a row other than the first, changed alike -/
theorem kr_c {K K' : Kom} (e : EqK K K') {i : Nat} (hi : i ≠ 0) (t : Nat) (v : Int) : EqK (kS K i t v) (kS K' i t v) := by
  have z0 : ∀ (K : Kom) (j : Nat), kS K i t v 0 j = K 0 j := fun K j => by rw [kS_at, if_neg (fun z => hi z.1.symm)]
  refine ⟨fun j hj => by rw [z0, z0]; exact e.1 j hj, fun u hu => ?_, fun u hu => ?_⟩
  · rw [z0] at hu
    have h := e.2.1 u hu
    simp only [kS_at]
    rw [h.1, h.2.1, h.2.2.1, h.2.2.2.1, h.2.2.2.2]
    exact ⟨rfl, rfl, rfl, rfl, rfl⟩
  · rw [z0] at hu
    have h := e.2.2 u hu
    simp only [kS_at]
    rw [h.1, h.2]
    exact ⟨rfl, rfl⟩
theorem low_c {K K' : Kom} (e : EqK K K') {t : Nat} (ht : (t : Int) < K 0 2) (n : Int) : EqK (lowK K t n) (lowK K' t n) := by
  unfold lowK
  rw [(e.2.1 t ht).2.1]
  exact kr_c e (by decide) t _
theorem rPrune_c {K K' : Kom} (e : EqK K K') (a : Int) : rPrune K a = rPrune K' a := by
  have h1 : ∀ n : Int, pr1 K a.toNat n = pr1 K' a.toNat n := fun n => by
    unfold pr1
    rw [← e.k2]
    exact fnd_c _ (fun t ht => crd_c (low_c e (by omega) n) _)
  have h2 : ∀ n, prS K a.toNat n = prS K' a.toNat n := fun n => by
    induction n with
    | zero => rfl
    | succ n ih => rw [prS, prS, ih, h1]
  unfold rPrune lpr
  rw [h2, crd_c e]
theorem rPlant_c {K K' : Kom} (e : EqK K K') (h0 : 0 ≤ K 0 2) (a b : Int) : rPlant K a b = rPlant K' a b := by
  unfold rPlant
  rw [← e.k0, ← e.k1, fnd_c (g := ctG K a.toNat b) (g' := ctG K' a.toNat b) _ (fun i hi => by
    unfold ctG
    rw [htT_c e, crd_c (adT_c e h0 _ _ _ _)])]
theorem snN_c {g g' : Nat → Bool} (n : Nat) (h : ∀ i, g i = g' i) : snN g n = snN g' n := by
  rw [show g = g' from funext h]
theorem rSuns_c {K K' : Kom} (e : EqK K K') (a : Int) : rSuns K a = rSuns K' a := by
  unfold rSuns
  rw [snN_c (g := snG K a.toNat) (g' := snG K' a.toNat) 9 (fun i => crd_c (sun_c e _) _)]
theorem soN_c {K K' : Kom} (e : EqK K K') (M T : Nat → Int) (n : Nat) : soN K M T n = soN K' M T n := by
  induction n with
  | zero => rfl
  | succ n ih => rw [soN, soN, ih, wb_c e]
theorem may_c {K K' : Kom} (e : EqK K K') (M T : Nat → Int) (n : Nat) : snN (snH K M T n) 9 = snN (snH K' M T n) 9 := snN_c 9 (fun _ => soN_c (sun_c e _) M T n)
theorem rHedge_c {K K' : Kom} (e : EqK K K') (a : Int) : rHedge K a = rHedge K' a := by
  unfold rHedge hgC
  rw [← e.k0, fnd_c (g := hgG K a.toNat) (g' := hgG K' a.toNat) _ (fun i hi => by
    unfold hgG
    rw [cdA_c e, cdA_c e, e.k0])]
theorem rShare_c {K K' : Kom} (e : EqK K K') (a : Int) : rShare K a = rShare K' a := by
  unfold rShare
  rw [wu_c e, wtN_c e, e.k2]
theorem chN_c {C C' : Nat → Int} {n : Nat} (h : agr C C' n) (q : Int) (z : Nat) : chN C n q z = chN C' n q z := by
  induction z with
  | zero => rfl
  | succ z ih => rw [chN, chN, ih, svN_congr z n (fun _ _ => rfl) h]
theorem rOdds_c {K K' : Kom} (e : EqK K K') (a b d : Int) : rOdds K a b d = rOdds K' a b d := by
  unfold rOdds
  rw [← e.k3, chN_c (C := fE K a.toNat) (C' := fE K' a.toNat) (fun j hj => vt_c e (by omega) _)]
theorem rSway_c {K K' : Kom} (e : EqK K K') (a : Int) : rSway K a = rSway K' a := by
  have h : ∀ n : Nat, (n : Int) ≤ K 0 3 → swN K a.toNat n = swN K' a.toNat n := fun n => by
    induction n with
    | zero => intro _; rfl
    | succ n ih =>
      intro hn
      rw [swN, swN, ih (by omega), wb_c e, wb_c e, vt_c e (by omega)]
  unfold rSway
  rw [← e.k3]
  by_cases q : 0 ≤ K 0 3
  · rw [h _ (by omega)]
  · rw [show (K 0 3).toNat = 0 by omega]
    rfl
theorem nsS_c {K K' : Kom} (e : EqK K K') (a : Int) (n : Nat) : nsS K a n = nsS K' a n := by
  induction n with
  | zero => rw [nsS, nsS, e.k0, e.k1]
  | succ n ih => rw [nsS, nsS, ih, stp_c e, sdA_c e]
theorem rCool_c {K K' : Kom} (e : EqK K K') (a : Int) : rCool K a = rCool K' a := by
  unfold rCool
  rw [← e.k3]
  by_cases c : 0 ≤ a ∧ a ≤ K 0 3 - 1
  · have h := e.2.2 a.toNat (by omega)
    rw [if_pos c, if_pos c, h.1, nsS_c e, e.k0, e.k1]
  · rw [if_neg c, if_neg c]
theorem rDark_c {K K' : Kom} (e : EqK K K') (a : Int) : rDark K a = rDark K' a := by
  unfold rDark
  rw [sdA_c e, e.k0, e.k1]
theorem rRate_c {K K' : Kom} (e : EqK K K') (a b : Int) (tr : Int64) : rRate K a b = rRate K' a b ∧ tRate tr K a b = tRate tr K' a b := by
  unfold rRate tRate
  rw [← e.k2]
  refine ⟨?_, rfl⟩
  by_cases c : 0 ≤ b ∧ b ≤ K 0 2 - 1
  · have h := e.2.1 b.toNat (by omega)
    rw [if_pos c, if_pos c]
    unfold raR
    rw [h.1, h.2.1, wu_c e, shB_c e (by omega), e.k0, e.k1]
  · rw [if_neg c, if_neg c]
theorem rKeep_c {K K' : Kom} (e : EqK K K') (a : Int) : rKeep K a = rKeep K' a := by unfold rKeep; rw [e.k5]
theorem rCount_c {K K' : Kom} (e : EqK K K') (n : Int) (ln : Nat) (a : Int) : rCount K n ln a = rCount K' n ln a := by unfold rCount; rw [e.k0, e.k1, e.k3]
/-! ===== what is done, done alike ===== -/
theorem kMoves_c {K K' : Kom} (e : EqK K K') {a : Int} (ha : 0 ≤ a ∧ a ≤ K 0 3 - 1) (b : Int) : EqK (kMoves K a b) (kMoves K' a b) := by
  unfold kMoves
  rw [(e.2.2 a.toNat (by omega)).1, nbr_c e]
  exact kr_c e (by decide) _ _
theorem kFells_c {K K' : Kom} (e : EqK K K') (a : Int) : EqK (kFells K a) (kFells K' a) := kr_c (kr_c e (by decide) _ _) (by decide) _ _
theorem grN_at (K : Kom) (t j : Nat) : grN K t j = if j < t ∧ K 5 j = 0 then min (K 2 j + 1) 20 else K 2 j := by
  induction t with
  | zero => rw [grN, if_neg (by omega)]
  | succ t ih =>
    rw [grN]
    by_cases q : K 5 t = 0
    · rw [if_pos q]
      by_cases h : j = t
      · subst h
        rw [up_eq, if_pos ⟨by omega, q⟩]
      · rw [up_ne _ _ h, ih]
        by_cases h2 : j < t ∧ K 5 j = 0
        · rw [if_pos h2, if_pos ⟨by omega, h2.2⟩]
        · rw [if_neg h2, if_neg (by rintro ⟨z1, z2⟩; exact h2 ⟨by omega, z2⟩)]
    · rw [if_neg q, ih]
      by_cases h2 : j < t ∧ K 5 j = 0
      · rw [if_pos h2, if_pos ⟨by omega, h2.2⟩]
      · rw [if_neg h2, if_neg]
        rintro ⟨z1, z2⟩
        by_cases h : j = t
        · subst h; exact q z2
        · exact h2 ⟨by omega, z2⟩
theorem kGrows_c {K K' : Kom} (e : EqK K K') : EqK (kGrows K) (kGrows K') := by
  have z0 : ∀ (K : Kom) (j : Nat), kGrows K 0 j = if j = 5 then K 0 5 + 1 else K 0 j := fun K j => rfl
  refine ⟨fun j hj => by rw [z0, z0, e.k5, e.1 j hj], fun t ht => ?_, fun i hi => e.2.2 i hi⟩
  have ht2 : (t : Int) < K 0 2 := ht
  have h := e.2.1 t ht2
  refine ⟨h.1, ?_, h.2.2.1, h.2.2.2.1, h.2.2.2.2⟩
  show grN K (K 0 2).toNat t = grN K' (K' 0 2).toNat t
  rw [grN_at, grN_at, h.2.2.2.2, h.2.1, e.k2]
/-! within their bounds -/
theorem cWF_moves {K : Kom} (hW : cWF K) {a b : Int} (h : fMoves K a b = true) : cWF (kMoves K a b) := by
  have h0 := hW.1
  have hnc := hW.nc
  obtain ⟨h1, h2, h3⟩ := of_decide_eq_true h
  have hp := hW.2.2.1 a.toNat (by omega)
  have hq := hW.2.2.2.2 a.toNat (by omega)
  have hd := dm_in (c := K 6 a.toNat) (w := K 0 0) (by omega) (by omega)
  have hr := row_lt (c := K 6 a.toNat) (w := K 0 0) (h := K 0 1) (by omega) (by omega)
  have hw1 : K 0 0 * (K 0 1 - 1) = K 0 0 * K 0 1 - K 0 0 := by rw [Int.mul_sub, Int.mul_one]
  have hdm := Int.mul_ediv_add_emod (K 6 a.toNat) (K 0 0)
  have hn : 0 ≤ nbr K (K 6 a.toNat) b ∧ nbr K (K 6 a.toNat) b < K 0 0 * K 0 1 := by
    have hrow : K 6 a.toNat / K 0 0 < K 0 1 := Int.ediv_lt_of_lt_mul (by omega) (by rw [Int.mul_comm]; exact hq)
    have hmul : K 0 0 * (K 6 a.toNat / K 0 0) ≤ K 0 0 * (K 0 1 - 1) := Int.mul_le_mul_of_nonneg_left (by omega) (by omega)
    have hm0 : 0 ≤ K 0 0 * (K 6 a.toNat / K 0 0) := Int.mul_nonneg (by omega) (by omega)
    unfold nbr at h3 ⊢
    (repeat' split at h3) <;> (repeat' split) <;> omega
  refine ⟨hW.1, hW.2.1, fun j hj => ?_, hW.2.2.2.1, fun j hj => ?_⟩
  · show 0 ≤ va_up (K 6) a.toNat (nbr K (K 6 a.toNat) b) j ∧ va_up (K 6) a.toNat (nbr K (K 6 a.toNat) b) j ≤ 19 ∧ 0 ≤ K 7 j ∧ K 7 j ≤ 4
    have hj9 := hW.2.2.1 j hj
    by_cases q : j = a.toNat
    · subst q; rw [up_eq]; omega
    · rw [up_ne _ _ q]; exact hj9
  · show va_up (K 6) a.toNat (nbr K (K 6 a.toNat) b) j < K 0 0 * K 0 1
    by_cases q : j = a.toNat
    · subst q; rw [up_eq]; omega
    · rw [up_ne _ _ q]; exact hW.2.2.2.2 j hj
theorem cWF_fells {K : Kom} (hW : cWF K) (a : Int) : cWF (kFells K a) := by
  refine ⟨hW.1, fun j hj => ?_, hW.2.2.1, hW.2.2.2.1, hW.2.2.2.2⟩
  have h := hW.2.1 j hj
  show 0 ≤ K 1 j ∧ K 1 j ≤ 19 ∧ 0 ≤ va_up (K 2) a.toNat 0 j ∧ va_up (K 2) a.toNat 0 j ≤ 20 ∧ 0 ≤ K 3 j ∧ K 3 j ≤ 7 ∧ 0 ≤ K 4 j ∧ K 4 j ≤ 1 ∧ 0 ≤ va_up (K 5) a.toNat 1 j ∧ va_up (K 5) a.toNat 1 j ≤ 1
  by_cases q : j = a.toNat
  · subst q; rw [up_eq, up_eq]; omega
  · rw [up_ne _ _ q, up_ne _ _ q]; exact h
theorem cWF_wint {K : Kom} (hW : cWF K) {a : Int} (ha : 0 ≤ a ∧ a ≤ 1) : cWF (kS K 0 6 a) := by
  have h0 := hW.1
  refine ⟨?_, hW.2.1, hW.2.2.1, hW.2.2.2.1, hW.2.2.2.2⟩
  show 2 ≤ K 0 0 ∧ K 0 0 ≤ 5 ∧ 2 ≤ K 0 1 ∧ K 0 1 ≤ 4 ∧ 0 ≤ K 0 2 ∧ K 0 2 ≤ 6 ∧ 0 ≤ K 0 3 ∧ K 0 3 ≤ 7 ∧ 1 ≤ K 0 4 ∧ K 0 4 ≤ 9 ∧ 0 ≤ K 0 5 ∧ K 0 5 ≤ 999 ∧ 0 ≤ a ∧ a ≤ 1
  omega
theorem cWF_grows {K : Kom} (hW : cWF K) (h : K 0 5 < 999) : cWF (kGrows K) := by
  have h0 := hW.1
  refine ⟨?_, fun j hj => ?_, hW.2.2.1, hW.2.2.2.1, hW.2.2.2.2⟩
  · show 2 ≤ K 0 0 ∧ K 0 0 ≤ 5 ∧ 2 ≤ K 0 1 ∧ K 0 1 ≤ 4 ∧ 0 ≤ K 0 2 ∧ K 0 2 ≤ 6 ∧ 0 ≤ K 0 3 ∧ K 0 3 ≤ 7 ∧ 1 ≤ K 0 4 ∧ K 0 4 ≤ 9 ∧ 0 ≤ K 0 5 + 1 ∧ K 0 5 + 1 ≤ 999 ∧ 0 ≤ K 0 6 ∧ K 0 6 ≤ 1
    omega
  · have h := hW.2.1 j hj
    show 0 ≤ K 1 j ∧ K 1 j ≤ 19 ∧ 0 ≤ grN K (K 0 2).toNat j ∧ grN K (K 0 2).toNat j ≤ 20 ∧ 0 ≤ K 3 j ∧ K 3 j ≤ 7 ∧ 0 ≤ K 4 j ∧ K 4 j ≤ 1 ∧ 0 ≤ K 5 j ∧ K 5 j ≤ 1
    rw [grN_at]
    split <;> omega
