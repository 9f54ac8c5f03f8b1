/-! ===== the reader's weights ===== -/
def rwB (RW : Nat → Int) : Prop := ∀ i : Nat, i < 7 → 0 ≤ RW i ∧ RW i ≤ 4
theorem xLand_rw (tx : Nat → Int) (ln q : Nat) (su : Bool) (w h n : Int) (RW S : Nat → Int) : (xLand tx ln q su w h n RW S).2.2.2.2.2.2.1 = RW := by
  unfold xLand
  cases isn tx ln (ntE tx ln q) 2 5 <;> cases isn tx ln (ntE tx ln (ntE tx ln q)) 2 4 <;> rfl
theorem xTree_rw (tx : Nat → Int) (ln q : Nat) (su : Bool) (w h n : Int) (RW S : Nat → Int) : (xTree tx ln q su w h n RW S).2.2.2.2.2.2.1 = RW := by
  unfold xTree
  cases decide (S 3 = 5) with
  | true => rfl
  | false =>
    cases isn tx ln (ntE tx ln q) 0 (w * h - 1) with
    | false => rfl
    | true =>
      cases hsA S (ntV tx ln (ntE tx ln q)) (S 3).toNat with
      | true => rfl
      | false =>
        cases isn tx ln (ntE tx ln (ntE tx ln q)) 0 20 with
        | false => rfl
        | true =>
          cases isn tx ln (ntE tx ln (ntE tx ln (ntE tx ln q))) 0 1 with
          | false => rfl
          | true => cases isn tx ln (ntE tx ln (ntE tx ln (ntE tx ln (ntE tx ln q)))) 0 7 <;> rfl
theorem xPers_rw {tx : Nat → Int} {ln q : Nat} {su : Bool} {w h n : Int} {RW S : Nat → Int} (hR : rwB RW) : rwB (xPers tx ln q su w h n RW S).2.2.2.2.2.2.1 := by
  unfold xPers
  cases decide (n = 7) with
  | true => exact hR
  | false =>
    cases isn tx ln (ntE tx ln q) 0 (w * h - 1) with
    | false => exact hR
    | true =>
      cases c : isn tx ln (ntE tx ln (ntE tx ln q)) 1 4 with
      | false => exact hR
      | true =>
        have b := of_decide_eq_true c
        intro i hi
        show 0 ≤ va_up RW n.toNat (ntV tx ln (ntE tx ln (ntE tx ln q))) i ∧ va_up RW n.toNat (ntV tx ln (ntE tx ln (ntE tx ln q))) i ≤ 4
        by_cases e : i = n.toNat
        · subst e; rw [up_eq]; omega
        · rw [up_ne _ _ e]; exact hR i hi
theorem xIt_rw {tx : Nat → Int} {ln it : Nat} {r : rR} (hR : rwB r.2.2.2.2.2.2.1) : rwB (xItR tx ln it r).2.2.2.2.2.2.1 := by
  obtain ⟨b0, q, su, w, h, n, RW, S⟩ := r
  replace hR : rwB RW := hR
  show rwB (xItem tx ln q it su w h n RW S).2.2.2.2.2.2.1
  unfold xItem
  cases decide (ntT tx ln q = 103 ∧ it = 0) with
  | true => show rwB (xLand tx ln q su w h n RW S).2.2.2.2.2.2.1; rw [xLand_rw]; exact hR
  | false =>
    cases decide (ntT tx ln q = 116) with
    | true => show rwB (xTree tx ln q su w h n RW S).2.2.2.2.2.2.1; rw [xTree_rw]; exact hR
    | false =>
      cases decide (ntT tx ln q = 112) with
      | true => exact xPers_rw hR
      | false =>
        cases decide (ntT tx ln q = 115) with
        | false => exact hR
        | true =>
          cases su with
          | true => exact hR
          | false => cases isn tx ln (ntE tx ln q) 1 9 <;> exact hR
theorem xRd_rw {tx : Nat → Int} {ln : Nat} : ∀ (f it : Nat) (r : rR), rwB r.2.2.2.2.2.2.1 → rwB (xRd tx ln f it r).2.2.2.2.2.2.2.1 := by
  intro f
  induction f with
  | zero => intro it r h; exact h
  | succ f ih =>
    intro it r h
    by_cases c1 : ntT tx ln r.2.1 = -2
    · rw [xRd_end c1]; exact h
    · cases c2 : (xItR tx ln it r).1 with
      | false => rw [xRd_bad c1 c2]; exact xIt_rw h
      | true => rw [xRd_go c1 c2]; exact ih _ _ (xIt_rw h)
/-! ===== the whole goes on ===== -/
theorem mV_F {F F' : Nat → Int} {A A' : Kom} {S : Nat → Int} (h : mV F A S) (h13 : F' 13 = F 13) (h14 : F' 14 = F 14) (h15 : F' 15 = F 15) (h16 : A' 16 = A 16) (h26 : F' 26 = -1) : mV F' A' S := by
  refine mV_of ?_ h.2.1 (Or.inl h26)
  have e : kF F' A' S = kF F A S := by show kv (F' 13) (F' 14) (F' 15) (A' 16) S = kv (F 13) (F 14) (F 15) (A 16) S; rw [h13, h14, h15, h16]
  rw [e]
  exact h.1
theorem lwI_FA {tx : Nat → Int} {ln tk : Nat} {K Kto : Kom} {ix z : Nat} {M T : Nat → Int} {n9 : Int} {kp : Nat → Int} {Ki Kk : Nat → Kom} {F F' : Nat → Int} {A A' : Kom} (h : lwI tx ln tk K Kto ix z M T n9 kp Ki Kk F A) (f0 : F' 0 = F 0) (f13 : F' 13 = F 13) (f14 : F' 14 = F 14) (f15 : F' 15 = F 15) (f22 : F' 22 = F 22) (f23 : F' 23 = F 23) (f26 : F' 26 = -1) (a1 : A' 1 = A 1) (a11 : rwB (A' 11)) (a16 : A' 16 = A 16) (a17 : A' 17 = A 17) (a19 : A' 19 = A 19) (a20 : A' 20 = A 20) (a21 : A' 21 = A 21) (a24 : A' 24 = A 24) {Kt' : Kom} {tk' : Nat} (ht : tk' ≤ 200) (hto : aWF Kt') : lwI tx ln tk' K Kt' ix z M T n9 kp Ki Kk F' A' := by
  obtain ⟨h1, h2, h3, h4, h5, h6⟩ := h
  have ek : ∀ S, kF F' A' S = kF F A S := fun S => by show kv (F' 13) (F' 14) (F' 15) (A' 16) S = kv (F 13) (F 14) (F 15) (A 16) S; rw [f13, f14, f15, a16]
  have ev : ∀ S, mV F A S → mV F' A' S := fun S q => mV_F q f13 f14 f15 a16 f26
  refine ⟨⟨h1.1, h1.2.1, ht, a1.trans h1.2.2.2.1, f0.trans h1.2.2.2.2⟩, ⟨h2.1, ?_, ?_, f26⟩, ⟨hto, a11⟩, ⟨h4.1, h4.2.1, f22.trans h4.2.2.1, fun j hj => ?_⟩, ⟨⟨h5.1.1, h5.1.2.1, f23.trans h5.1.2.2⟩, ?_, h5.2.2⟩, ⟨h6.1.trans a20.symm, h6.2.1, fun j hj hk => ?_⟩⟩
  · rw [ek, a17]; exact h2.2.1
  · rw [a17]; exact ev _ h2.2.2.1
  · have q := h4.2.2.2 j hj
    rw [ek, a21]
    exact ⟨q.1, q.2.1, ev _ q.2.2⟩
  · rw [a24]; exact h5.2.1
  · have q := h6.2.2 j hj hk
    rw [ek, a19]
    exact ⟨q.1, q.2.1, ev _ q.2.2⟩
theorem lwI_type {tx : Nat → Int} {ln tk : Nat} {K Kto : Kom} {ix z : Nat} {M T : Nat → Int} {n9 : Int} {kp : Nat → Int} {Ki Kk : Nat → Kom} {F : Nat → Int} {A : Kom} (h : lwI tx ln tk K Kto ix z M T n9 kp Ki Kk F A) {a : Int} (ha : 0 ≤ a ∧ a ≤ 255) (hl : ln < 200) : lwI (va_up tx ln a) (ln + 1) tk K Kto ix z M T n9 kp Ki Kk (va_up F 0 (F 0 + 1)) (va_up A 1 (va_up (A 1) (F 0).toNat a)) := by
  obtain ⟨h1, h2, h3, h4, h5, h6⟩ := h
  have e0 : (F 0).toNat = ln := by rw [h1.2.2.2.2]; omega
  refine ⟨⟨fun j hj => ?_, by omega, h1.2.2.1, ?_, ?_⟩, h2, h3, h4, h5, h6⟩
  · by_cases e : j = ln
    · subst e; rw [up_eq]; omega
    · rw [up_ne _ _ e]; exact h1.1 j hj
  · show va_up (A 1) (F 0).toNat a = _
    rw [e0, h1.2.2.2.1]
  · show F 0 + 1 = _
    rw [h1.2.2.2.2]
    omega
theorem lwI_clear {tx : Nat → Int} {ln tk : Nat} {K Kto : Kom} {ix z : Nat} {M T : Nat → Int} {n9 : Int} {kp : Nat → Int} {Ki Kk : Nat → Kom} {F : Nat → Int} {A : Kom} (h : lwI tx ln tk K Kto ix z M T n9 kp Ki Kk F A) : lwI tx 0 tk K Kto ix z M T n9 kp Ki Kk (va_up F 0 0) A := by
  obtain ⟨h1, h2, h3, h4, h5, h6⟩ := h
  exact ⟨⟨h1.1, Nat.zero_le _, h1.2.2.1, h1.2.2.2.1, rfl⟩, h2, h3, h4, h5, h6⟩
theorem lwI_forget {tx : Nat → Int} {ln tk : Nat} {K Kto : Kom} {ix z : Nat} {M T : Nat → Int} {n9 : Int} {kp : Nat → Int} {Ki Kk : Nat → Kom} {F : Nat → Int} {A : Kom} (h : lwI tx ln tk K Kto ix z M T n9 kp Ki Kk F A) : lwI tx ln tk K Kto ix z M T 0 kp Ki Kk (va_up F 23 0) A := by
  obtain ⟨h1, h2, h3, h4, h5, h6⟩ := h
  exact ⟨h1, h2, h3, h4, ⟨⟨by decide, by decide, rfl⟩, h5.2⟩, h6⟩
theorem lwI_cnt {tx : Nat → Int} {ln tk : Nat} {K Kto : Kom} {ix z : Nat} {M T : Nat → Int} {n9 : Int} {kp : Nat → Int} {Ki Kk : Nat → Kom} {F : Nat → Int} {A : Kom} (h : lwI tx ln tk K Kto ix z M T n9 kp Ki Kk F A) {a b : Int} (ha : 0 ≤ a ∧ a ≤ 2) (hb : 0 ≤ b ∧ b ≤ 28) (hn : n9 < 5) : lwI tx ln tk K Kto ix z (va_up M n9.toNat a) (va_up T n9.toNat b) (n9 + 1) kp Ki Kk (va_up F 23 (F 23 + 1)) (va_up A 24 (va_up (va_up (A 24) (2 * F 23).toNat a) ((2 * F 23) + 1).toNat b)) := by
  obtain ⟨h1, h2, h3, h4, h5, h6⟩ := h
  obtain ⟨n, rfl⟩ := Int.eq_ofNat_of_zero_le h5.1.1
  have e1 : (2 * F 23).toNat = 2 * n := by rw [h5.1.2.2]; omega
  have e2 : ((2 * F 23) + 1).toNat = 2 * n + 1 := by rw [h5.1.2.2]; omega
  refine ⟨h1, h2, h3, h4, ⟨⟨by omega, by omega, ?_⟩, ⟨?_, ?_⟩, fun j hj => ?_⟩, h6⟩
  · show F 23 + 1 = _
    rw [h5.1.2.2]
  · rw [h5.2.1.1]
    show va_up (fun j => A 24 (2 * j)) n a = fun j => va_up (va_up (A 24) (2 * F 23).toNat a) ((2 * F 23) + 1).toNat b (2 * j)
    rw [e1, e2]
    funext j
    unfold va_up
    by_cases e : j = n
    · rw [if_pos e, if_neg (by omega), if_pos (by omega)]
    · rw [if_neg e, if_neg (by omega), if_neg (by omega)]
  · rw [h5.2.1.2]
    show va_up (fun j => A 24 (2 * j + 1)) n b = fun j => va_up (va_up (A 24) (2 * F 23).toNat a) ((2 * F 23) + 1).toNat b (2 * j + 1)
    rw [e1, e2]
    funext j
    unfold va_up
    by_cases e : j = n
    · rw [if_pos e, if_pos (by omega)]
    · rw [if_neg e, if_neg (by omega), if_neg (by omega)]
  · have q := h5.2.2 j hj
    show 0 ≤ va_up M n a j ∧ va_up M n a j ≤ 2 ∧ 0 ≤ va_up T n b j ∧ va_up T n b j ≤ 28
    by_cases e : j = n
    · subst e; rw [up_eq, up_eq]; omega
    · rw [up_ne _ _ e, up_ne _ _ e]; exact q
theorem lwI_keep {tx : Nat → Int} {ln tk : Nat} {K Kto : Kom} {ix z : Nat} {M T : Nat → Int} {n9 : Int} {kp : Nat → Int} {Ki Kk : Nat → Kom} {F : Nat → Int} {A : Kom} (h : lwI tx ln tk K Kto ix z M T n9 kp Ki Kk F A) {i : Nat} (hi : i < 2) {a : Int} (ha : a = (i : Int)) : lwI tx ln tk K Kto ix z M T n9 (va_up kp a.toNat 1) (va_up Ki i K) Kk F (va_up (va_up A 19 (va_cpy (A 17) (A 19) 0 (36 * a).toNat 36)) 20 (va_up (A 20) a.toNat 1)) := by
  subst ha
  obtain ⟨h1, h2, h3, h4, h5, h6⟩ := h
  have e1 : ((i : Int)).toNat = i := rfl
  have e2 : (36 * (i : Int)).toNat = 36 * i := by omega
  refine ⟨h1, h2, h3, h4, h5, ⟨?_, fun j hj => ?_, fun j hj hk => ?_⟩⟩
  · rw [h6.1]; rfl
  · have q := h6.2.1 j hj
    rw [e1]
    by_cases e : j = i
    · subst e; rw [up_eq]; omega
    · rw [up_ne _ _ e]; exact q
  · show EqK (va_up Ki i K j) (kF F A (sg (va_cpy (A 17) (A 19) 0 (36 * (i : Int)).toNat 36) j)) ∧ cWF (va_up Ki i K j) ∧ mV F A (sg (va_cpy (A 17) (A 19) 0 (36 * (i : Int)).toNat 36) j)
    rw [e2]
    by_cases e : j = i
    · subst e
      have hc : agr (sg (va_cpy (A 17) (A 19) 0 (36 * j) 36) j) (A 17) 36 := by
        intro y hy
        unfold sg va_cpy
        rw [if_pos (by omega)]
        refine congrArg (A 17) ?_
        omega
      rw [up_eq]
      exact ⟨EqK_agr h2.2.2.1 h2.2.1 hc, h2.1, mV_agr h2.2.2.1 hc⟩
    · rw [e1, up_ne _ _ e] at hk
      have q := h6.2.2 j hj hk
      have hc : agr (sg (va_cpy (A 17) (A 19) 0 (36 * i) 36) j) (sg (A 19) j) 36 := by
        intro y hy
        unfold sg va_cpy
        rw [if_neg (by omega)]
      rw [up_ne _ _ e]
      exact ⟨EqK_agr q.2.2 q.1 hc, q.2.1, mV_agr q.2.2 hc⟩
theorem lwI_back {tx : Nat → Int} {ln tk : Nat} {K Kto : Kom} {ix z : Nat} {M T : Nat → Int} {n9 : Int} {kp : Nat → Int} {Ki Kk : Nat → Kom} {F : Nat → Int} {A : Kom} (h : lwI tx ln tk K Kto ix z M T n9 kp Ki Kk F A) {i : Nat} (hi : i < 2) {a : Int} (ha : a = (i : Int)) (hk : kp i ≠ 0) : lwI tx ln tk (Ki i) Kto ix 0 M T n9 kp Ki Kk (va_up F 22 0) (va_up A 17 (va_cpy (A 19) (A 17) (36 * a).toNat 0 36)) := by
  subst ha
  obtain ⟨h1, h2, h3, h4, h5, h6⟩ := h
  have e2 : (36 * (i : Int)).toNat = 36 * i := by omega
  rw [e2]
  have q := h6.2.2 i hi hk
  have hc := cpy_sg (f := A 19) (g := A 17) (k := i)
  exact ⟨h1, ⟨q.2.1, EqK_agr q.2.2 q.1 hc, mV_agr q.2.2 hc, h2.2.2.2⟩, h3, ⟨h4.1, Nat.zero_le _, rfl, fun j hj => absurd hj (Nat.not_lt_zero j)⟩, h5, h6⟩
/-! ===== the text is told ===== -/
def coF (F : Nat → Int) (A : Kom) (ln : Nat) (x : Nat × rR) : Nat → Int := flds (bif x.2.1 then 0 else ((ln : Nat) : Int)) ((ntE (A 1) ln x.2.2.1 : Nat) : Int) ((sk (A 1) ln x.2.2.1 : Nat) : Int) (ntT (A 1) ln x.2.2.1) (ntV (A 1) ln x.2.2.1) ((x.1 : Nat) : Int) (bZ x.2.2.2.1) x.2.2.2.2.1 x.2.2.2.2.2.1 x.2.2.2.2.2.2.1 (bif x.2.1 then x.2.2.2.2.1 else F 13) (bif x.2.1 then x.2.2.2.2.2.1 else F 14) (bif x.2.1 then x.2.2.2.2.2.2.1 else F 15) (bif x.2.1 then 0 else F 22) (bif x.2.1 then 0 else F 23) (F 26) (F 27) (F 28)
def coA (A : Kom) (x : Nat × rR) : Kom := arrs (A 1) x.2.2.2.2.2.2.2.1 x.2.2.2.2.2.2.2.2 (bif x.2.1 then wgN (A 16) x.2.2.2.2.2.2.2.1 (Int.toNat x.2.2.2.2.2.2.1) else A 16) (bif x.2.1 then va_cpy x.2.2.2.2.2.2.2.2 (A 17) 0 0 36 else A 17) (A 18) (A 19) (bif x.2.1 then va_up (va_up (A 20) 0 0) 1 0 else A 20) (A 21) (A 24)
theorem wgN_at (W R : Nat → Int) (n j : Nat) : wgN W R n j = if j < n then R j else W j := by
  induction n with
  | zero => rw [if_neg (by omega)]; rfl
  | succ n ih =>
    rw [wgN]
    by_cases e : j = n
    · subst e; rw [up_eq, if_pos (by omega)]
    · rw [up_ne _ _ e, ih]
      by_cases q : j < n
      · rw [if_pos q, if_pos (by omega)]
      · rw [if_neg q, if_neg (by omega)]
theorem lwI_bad {tx : Nat → Int} {ln tk : Nat} {K Kto : Kom} {ix z : Nat} {M T : Nat → Int} {n9 : Int} {kp : Nat → Int} {Ki Kk : Nat → Kom} {F : Nat → Int} {A : Kom} (h : lwI tx ln tk K Kto ix z M T n9 kp Ki Kk F A) {x : Nat × rR} (hx : x.2.1 = false) (hR : rwB x.2.2.2.2.2.2.2.1) {Kt' : Kom} {tk' : Nat} (ht : tk' ≤ 200) (hto : aWF Kt') : lwI tx ln tk' K Kt' ix z M T n9 kp Ki Kk (coF F A ln x) (coA A x) := by
  obtain ⟨n, b, r⟩ := x
  replace hx : b = false := hx
  subst hx
  exact lwI_FA (F' := coF F A ln (n, false, r)) (A' := coA A (n, false, r)) h (h.1.2.2.2.2.symm) rfl rfl rfl rfl rfl h.2.1.2.2.2 rfl hR rfl rfl rfl rfl rfl rfl ht hto
theorem lwI_ok {tx : Nat → Int} {ln tk : Nat} {K Kto : Kom} {ix z : Nat} {M T : Nat → Int} {n9 : Int} {kp : Nat → Int} {Ki Kk : Nat → Kom} {F : Nat → Int} {A : Kom} (h : lwI tx ln tk K Kto ix z M T n9 kp Ki Kk F A) {x : Nat × rR} (hx : x.2.1 = true) (ok : rOk ln x.2) {K' : Kom} (hW : cWF K') (e : EqK K' (kv x.2.2.2.2.1 x.2.2.2.2.2.1 x.2.2.2.2.2.2.1 x.2.2.2.2.2.2.2.1 x.2.2.2.2.2.2.2.2)) {tk' : Nat} (ht : tk' ≤ 200) : lwI tx 0 tk' K' K' ix 0 M T 0 (kpN kp 2) Ki Kk (coF F A ln x) (coA A x) := by
  obtain ⟨it, b, q, su, w, hh, n, RW, S⟩ := x
  replace hx : b = true := hx
  subst hx
  replace e : EqK K' (kv w hh n RW S) := e
  have ob := rOk_b ok
  obtain ⟨o1, o2, o3, o4, o5, o6⟩ := ok
  replace o2 : cWF (kv w hh n RW S) := o2
  replace o3 : S 3 ≤ 5 := o3
  have ob2 : 0 ≤ S 3 ∧ S 3 ≤ 5 := ob.2.1
  have ob3 : 0 ≤ n ∧ n ≤ 7 := ob.2.2.1
  obtain ⟨h1, h2, h3, h4, h5, h6⟩ := h
  have hw16 := h2.2.2.1.2.2.2.2.2.1
  have hWt : ∀ i : Nat, i < 7 → 0 ≤ wgN (A 16) RW n.toNat i ∧ wgN (A 16) RW n.toNat i ≤ 4 := fun i hi => by
    have a1 := hw16 i hi
    have a2 : 0 ≤ S (29 + i) ∧ S (29 + i) ≤ 19 ∧ 0 ≤ RW i ∧ RW i ≤ 4 := o2.2.2.1 i hi
    rw [wgN_at]
    split <;> omega
  have o9 : cWF (kv w hh n (wgN (A 16) RW n.toNat) S) := by
    refine ⟨o2.1, o2.2.1, fun i hi => ?_, o2.2.2.2.1, o2.2.2.2.2⟩
    have a2 : 0 ≤ S (29 + i) ∧ S (29 + i) ≤ 19 ∧ 0 ≤ RW i ∧ RW i ≤ 4 := o2.2.2.1 i hi
    have a3 := hWt i hi
    exact ⟨a2.1, a2.2.1, a3.1, a3.2⟩
  have e2 : EqK (kv w hh n RW S) (kv w hh n (wgN (A 16) RW n.toNat) S) := by
    refine ⟨fun _ _ => rfl, fun _ _ => ⟨rfl, rfl, rfl, rfl, rfl⟩, fun i hi => ⟨rfl, ?_⟩⟩
    have hi2 : (i : Int) < n := hi
    show RW i = wgN (A 16) RW n.toNat i
    rw [wgN_at, if_pos (by omega)]
  have hc : agr (va_cpy S (A 17) 0 0 36) S 36 := fun j hj => cpy_in hj
  have hV0 : mV (coF F A ln (it, true, q, su, w, hh, n, RW, S)) (coA A (it, true, q, su, w, hh, n, RW, S)) S := mV_of o9 o3 (Or.inl h2.2.2.2)
  refine ⟨⟨h1.1, Nat.zero_le _, ht, h1.2.2.2.1, rfl⟩, ⟨hW, EqK_agr hV0 (e.t e2) hc, mV_agr hV0 hc, h2.2.2.2⟩, ⟨hW.a, fun i hi => ?_⟩, ⟨h4.1, Nat.zero_le _, rfl, fun j hj => absurd hj (Nat.not_lt_zero j)⟩, ⟨⟨by decide, by decide, rfl⟩, h5.2⟩, ⟨?_, fun j hj => ?_, fun j hj hk => ?_⟩⟩
  · have a2 : 0 ≤ S (29 + i) ∧ S (29 + i) ≤ 19 ∧ 0 ≤ RW i ∧ RW i ≤ 4 := o2.2.2.1 i hi
    exact ⟨a2.2.2.1, a2.2.2.2⟩
  · show va_up (va_up kp 0 0) 1 0 = va_up (va_up (A 20) 0 0) 1 0
    rw [h6.1]
  · have z9 : kpN kp 2 j = 0 := by
      show va_up (va_up kp 0 0) 1 0 j = 0
      rcases (show j = 0 ∨ j = 1 by omega) with rfl | rfl
      · rw [up_ne _ _ (by decide), up_eq]
      · rw [up_eq]
    rw [z9]
    decide
  · have z9 : kpN kp 2 j = 0 := by
      show va_up (va_up kp 0 0) 1 0 j = 0
      rcases (show j = 0 ∨ j = 1 by omega) with rfl | rfl
      · rw [up_ne _ _ (by decide), up_eq]
      · rw [up_eq]
    exact absurd z9 hk
/-! ===== the beginning ===== -/
def F00 : Nat → Int := flds 0 0 0 0 0 0 0 0 0 0 3 3 0 0 0 (-1) 0 0
def A00 : Kom := arrs (fun _ => 0) (fun _ => 0) (fun _ => 0) (fun _ => 0) (va_up (fun _ => 0) 1 3) (fun _ => 0) (fun _ => 0) (fun _ => 0) (fun _ => 0) (fun _ => 0)
theorem kom0_WF : cWF kom0 := cWF_stA ⟨fun t ht => (by decide : (0 : Int) ≤ 0 ∧ (0 : Int) ≤ 19 ∧ (0 : Int) ≤ 0 ∧ (0 : Int) ≤ 20 ∧ (0 : Int) ≤ 0 ∧ (0 : Int) ≤ 7 ∧ (0 : Int) ≤ 0 ∧ (0 : Int) ≤ 1 ∧ (0 : Int) ≤ 0 ∧ (0 : Int) ≤ 1), fun i hi => (by decide : (0 : Int) ≤ 0 ∧ (0 : Int) ≤ 19 ∧ (0 : Int) ≤ 0 ∧ (0 : Int) ≤ 4)⟩
theorem lwI_0 : lwI (fun _ => 0) 0 0 kom0 kom0 0 0 (fun _ => 0) (fun _ => 0) 0 (fun _ => 0) (fun _ => kom0) (fun _ => kom0) F00 A00 := by
  have hE : EqK kom0 (kF F00 A00 (A00 17)) := by
    refine ⟨fun j hj => ?_, fun t ht => ?_, fun i hi => ?_⟩
    · rcases (show j = 0 ∨ j = 1 ∨ j = 2 ∨ j = 3 ∨ j = 4 ∨ j = 5 ∨ j = 6 by omega) with rfl | rfl | rfl | rfl | rfl | rfl | rfl <;> rfl
    · have : (t : Int) < 0 := ht
      omega
    · have : (i : Int) < 0 := hi
      omega
  have hk : KEq (kF F00 A00 (A00 17)) kom0 := by
    have q : ∀ j : Nat, j ≠ 1 → A00 17 j = 0 := fun j hj => up_ne (fun _ => 0) 3 hj
    refine ⟨fun j hj => (hE.1 j hj).symm, fun u hu => ?_, fun u hu => ?_, fun u hu => ?_, fun u hu => ?_, fun u hu => ?_, fun u hu => q _ (by omega), fun _ _ => rfl⟩
    · show (if u < 5 then A00 17 (4 + u) else 0) = 0
      split
      · exact q _ (by omega)
      · rfl
    · show (if u < 5 then A00 17 (9 + u) else 0) = 0
      split
      · exact q _ (by omega)
      · rfl
    · show (if u < 5 then A00 17 (19 + u) else 0) = 0
      split
      · exact q _ (by omega)
      · rfl
    · show (if u < 5 then A00 17 (14 + u) else 0) = 0
      split
      · exact q _ (by omega)
      · rfl
    · show (if u < 5 then A00 17 (24 + u) else 0) = 0
      split
      · exact q _ (by omega)
      · rfl
  refine ⟨⟨fun j hj => (by decide : (0 : Int) ≤ 0 ∧ (0 : Int) ≤ 255), by decide, by decide, rfl, rfl⟩, ⟨kom0_WF, hE, mV_of (hk.wf kom0_WF) (by decide) (Or.inl rfl), rfl⟩, ⟨kom0_WF.a, fun i hi => (by decide : (0 : Int) ≤ 0 ∧ (0 : Int) ≤ 4)⟩, ⟨by decide, by decide, rfl, fun j hj => absurd hj (Nat.not_lt_zero j)⟩, ⟨⟨by decide, by decide, rfl⟩, ⟨rfl, rfl⟩, fun j hj => (by decide : (0 : Int) ≤ 0 ∧ (0 : Int) ≤ 2 ∧ (0 : Int) ≤ 0 ∧ (0 : Int) ≤ 28)⟩, ⟨rfl, fun j hj => (by decide : (0 : Int) ≤ 0 ∧ (0 : Int) ≤ 1), fun j hj hk => absurd rfl hk⟩⟩
