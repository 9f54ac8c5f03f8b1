/-! ===== class and reference read alike ===== -/
theorem nmp_stay {tx : Nat → Int} {ln : Nat} {hi : Int} : ∀ (f q : Nat) (a : Int), hi < a → nmp tx ln hi f q a = a := by
  intro f
  induction f with
  | zero => intro q a h; rfl
  | succ f ih =>
    intro q a h
    rw [nmp]
    split
    · rw [if_neg (by omega)]; exact ih _ _ h
    · rfl
theorem nm_stay {tx : Nat → Int} {ln q : Nat} {hi a : Int} (h : hi < a) : nm tx ln hi q a = a := nmp_stay _ _ _ h
theorem num_v {tx : Nat → Int} (hX : tX tx) {ln s : Nat} (hl : ln ≤ 200) (h1 : s < ln) (h2 : isD (tx s)) {hi : Int} (hh : 0 ≤ hi ∧ hi ≤ 20) :
    (nvF tx s (dg tx ln s) = nm tx ln hi s 0 ∧ s + 1 ≤ dg tx ln s) ∨ (hi < nvF tx s (dg tx ln s) ∧ hi < nm tx ln hi s 0 ∧ s + 1 ≤ dg tx ln s) ∨ (s + 1 < dg tx ln s ∧ tx s = 48) := by
  have hs := hX s (by omega)
  rw [dg_step h1 h2, nm_step1 h1 h2 hh.1]
  by_cases c3 : s + 1 < ln ∧ isD (tx (s + 1))
  · have hs1 := hX (s + 1) (by omega)
    rw [dg_step c3.1 c3.2]
    by_cases c4 : s + 1 + 1 < ln ∧ isD (tx (s + 1 + 1))
    · have hs2 := hX (s + 1 + 1) (by omega)
      have d2 := dg_in (tx := tx) (ln := ln) (q := s + 1 + 1 + 1) (by omega)
      rw [dg_step c4.1 c4.2]
      by_cases c5 : tx s = 48
      · exact Or.inr (Or.inr ⟨by omega, c5⟩)
      · refine Or.inr (Or.inl ⟨?_, ?_, by omega⟩)
        · unfold nvF
          rw [if_neg (by omega), if_neg (by omega), if_neg (by omega)]
          omega
        · by_cases c6 : 0 * 10 + tx s - 48 ≤ hi
          · rw [nm_step1 c3.1 c3.2 c6]
            by_cases c7 : (0 * 10 + tx s - 48) * 10 + tx (s + 1) - 48 ≤ hi
            · rw [nm_step1 c4.1 c4.2 c7, nm_stay (by omega)]
              omega
            · rw [nm_stay (by omega)]
              omega
          · rw [nm_stay (by omega)]
            omega
    · rw [dg_stop c4]
      by_cases c6 : 0 * 10 + tx s - 48 ≤ hi
      · left
        rw [nm_step1 c3.1 c3.2 c6, nm_stop c4]
        unfold nvF
        rw [if_neg (by omega), if_neg (by omega), if_pos (by omega)]
        exact ⟨by omega, by omega⟩
      · right; left
        rw [nm_stay (by omega)]
        unfold nvF
        rw [if_neg (by omega), if_neg (by omega), if_pos (by omega)]
        exact ⟨by omega, by omega, by omega⟩
  · left
    rw [dg_stop c3, nm_stop c3]
    unfold nvF
    rw [if_neg (by omega), if_pos rfl]
    exact ⟨by omega, by omega⟩
theorem num_eq {tx : Nat → Int} (hX : tX tx) {ln q : Nat} (hq : q ≤ ln) (hl : ln ≤ 200) (lo : Int) {hi : Int} (hh : 0 ≤ hi ∧ hi ≤ 20) :
    isn tx ln q lo hi = rnO tx ln q lo hi ∧ (isn tx ln q lo hi = true → ntE tx ln q = rnE tx ln q ∧ ntV tx ln q = rnV tx ln q hi) := by
  have hs := sk_in (tx := tx) hq
  unfold isn rnO rnE rnV ntT ntV ntE
  generalize sk tx ln q = s at hs
  by_cases c1 : ln ≤ s
  · have d : dg tx ln s = s := dg_stop (by omega)
    rw [if_pos c1, if_pos c1, if_pos c1, d]
    rw [decide_eq_false (p := (-2 : Int) = -1 ∧ lo ≤ 0 ∧ 0 ≤ hi) (by omega), decide_eq_false (by omega)]
    exact ⟨rfl, fun h => absurd h Bool.false_ne_true⟩
  · have hs9 := hX s (by omega)
    rw [if_neg c1, if_neg c1, if_neg c1]
    by_cases c2 : isD (tx s)
    · rw [if_pos c2, if_pos c2, if_pos c2]
      have hv := num_v hX hl (by omega) c2 hh
      generalize nvF tx s (dg tx ln s) = a at hv
      generalize nm tx ln hi s 0 = b at hv
      generalize dg tx ln s = d at hv
      by_cases c3 : (s + 1 < d ∧ tx s = 48) ∨ 20 < a
      · rw [if_pos c3]
        rw [decide_eq_false (p := (-3 : Int) = -1 ∧ lo ≤ a ∧ a ≤ hi) (by omega), decide_eq_false (by omega)]
        exact ⟨rfl, fun h => absurd h Bool.false_ne_true⟩
      · rw [if_neg c3]
        by_cases c4 : lo ≤ a ∧ a ≤ hi
        · rw [decide_eq_true (p := (-1 : Int) = -1 ∧ lo ≤ a ∧ a ≤ hi) (by omega), decide_eq_true (by omega)]
          exact ⟨rfl, fun _ => ⟨rfl, by omega⟩⟩
        · rw [decide_eq_false (p := (-1 : Int) = -1 ∧ lo ≤ a ∧ a ≤ hi) (by omega), decide_eq_false (by omega)]
          exact ⟨rfl, fun h => absurd h Bool.false_ne_true⟩
    · have d : dg tx ln s = s := dg_stop (fun h => c2 h.2)
      rw [if_neg c2, if_neg c2, if_neg c2, d]
      rw [decide_eq_false (p := tx s = -1 ∧ lo ≤ 0 ∧ 0 ≤ hi) (by omega), decide_eq_false (by omega)]
      exact ⟨rfl, fun h => absurd h Bool.false_ne_true⟩
theorem sgn_eq {tx : Nat → Int} {ln q : Nat} {x : Int} (hx : 57 < x) : sgO tx ln q x = decide (ntT tx ln q = x) ∧ (sgO tx ln q x = true → sgE tx ln q x = ntE tx ln q) := by
  unfold sgE sgO ntT ntE
  generalize sk tx ln q = s
  by_cases c1 : ln ≤ s
  · rw [if_pos c1, if_pos c1, decide_eq_false (p := s < ln ∧ tx s = x) (by omega), decide_eq_false (by omega)]
    exact ⟨rfl, fun h => absurd h Bool.false_ne_true⟩
  · rw [if_neg c1, if_neg c1]
    by_cases c2 : isD (tx s)
    · rw [if_pos c2, if_pos c2, decide_eq_false (p := s < ln ∧ tx s = x) (by omega), decide_eq_false (by split <;> omega)]
      exact ⟨rfl, fun h => absurd h Bool.false_ne_true⟩
    · rw [if_neg c2, if_neg c2]
      by_cases c3 : tx s = x
      · rw [decide_eq_true c3, decide_eq_true (p := s < ln ∧ tx s = x) (by omega)]
        exact ⟨rfl, fun _ => rfl⟩
      · rw [decide_eq_false c3, decide_eq_false (p := s < ln ∧ tx s = x) (by omega)]
        exact ⟨rfl, fun h => absurd h Bool.false_ne_true⟩
theorem sgO_sk (tx : Nat → Int) (ln q : Nat) (x : Int) : sgO tx ln (sk tx ln q) x = sgO tx ln q x := by unfold sgO; rw [sk_sk]
theorem sgE_sk (tx : Nat → Int) (ln q : Nat) (x : Int) : sgE tx ln (sk tx ln q) x = sgE tx ln q x := by unfold sgE; rw [sgO_sk, sk_sk]
theorem ntT_2 {tx : Nat → Int} (hX : tX tx) {ln q : Nat} (hl : ln ≤ 200) : ntT tx ln q = -2 ↔ ln ≤ sk tx ln q := by
  unfold ntT
  generalize sk tx ln q = s
  by_cases c1 : ln ≤ s
  · rw [if_pos c1]; exact ⟨fun _ => c1, fun _ => rfl⟩
  · have := hX s (by omega)
    rw [if_neg c1]
    split
    · split <;> omega
    · omega
/-! changed alike -/
theorem k0_c {K K' : Kom} (e : EqK K K') {j : Nat} (h2 : j ≠ 2) (h3 : j ≠ 3) (v : Int) : EqK (kS K 0 j v) (kS K' 0 j v) := by
  have q : ∀ (K : Kom) (i : Nat), i ≠ j → kS K 0 j v 0 i = K 0 i := fun K i h => by unfold kS; rw [up_eq, up_ne _ _ h]
  have qj : ∀ (K : Kom), kS K 0 j v 0 j = v := fun K => by unfold kS; rw [up_eq, up_eq]
  refine ⟨fun i hi => ?_, fun t ht => ?_, fun i hi => ?_⟩
  · by_cases h : i = j
    · subst h; rw [qj, qj]
    · rw [q _ _ h, q _ _ h]; exact e.1 i hi
  · rw [q _ _ (by omega)] at ht; exact e.2.1 t ht
  · rw [q _ _ (by omega)] at hi; exact e.2.2 i hi
theorem adT_c {K K' : Kom} (e : EqK K K') (h0 : 0 ≤ K 0 2) (a h e9 w : Int) : EqK (adT K a h e9 w) (adT K' a h e9 w) := by
  have k2 := e.k2
  have z0 : ∀ (K : Kom) (j : Nat), adT K a h e9 w 0 j = if j = 2 then K 0 2 + 1 else K 0 j := fun K j => rfl
  refine ⟨fun j hj => ?_, fun t ht => ?_, fun i hi => ?_⟩
  · rw [z0, z0, k2, e.1 j hj]
  · have ht2 : (t : Int) < K 0 2 + 1 := ht
    show va_up (K 1) (K 0 2).toNat a t = va_up (K' 1) (K' 0 2).toNat a t ∧ va_up (K 2) (K 0 2).toNat h t = va_up (K' 2) (K' 0 2).toNat h t ∧ va_up (K 3) (K 0 2).toNat w t = va_up (K' 3) (K' 0 2).toNat w t ∧ va_up (K 4) (K 0 2).toNat e9 t = va_up (K' 4) (K' 0 2).toNat e9 t ∧ va_up (K 5) (K 0 2).toNat 0 t = va_up (K' 5) (K' 0 2).toNat 0 t
    rw [← k2]
    by_cases q : t = (K 0 2).toNat
    · subst q
      simp only [up_eq, and_self]
    · have h9 := e.2.1 t (by omega)
      rw [up_ne _ _ q, up_ne _ _ q, up_ne _ _ q, up_ne _ _ q, up_ne _ _ q, up_ne _ _ q, up_ne _ _ q, up_ne _ _ q, up_ne _ _ q, up_ne _ _ q]
      exact h9
  · exact e.2.2 i hi
theorem adP_c {K K' : Kom} (e : EqK K K') (h0 : 0 ≤ K 0 3) (a w : Int) : EqK (adP K a w) (adP K' a w) := by
  have k3 := e.k3
  have z0 : ∀ (K : Kom) (j : Nat), adP K a w 0 j = if j = 3 then K 0 3 + 1 else K 0 j := fun K j => rfl
  refine ⟨fun j hj => ?_, fun t ht => ?_, fun i hi => ?_⟩
  · rw [z0, z0, k3, e.1 j hj]
  · exact e.2.1 t ht
  · have hi2 : (i : Int) < K 0 3 + 1 := hi
    show va_up (K 6) (K 0 3).toNat a i = va_up (K' 6) (K' 0 3).toNat a i ∧ va_up (K 7) (K 0 3).toNat w i = va_up (K' 7) (K' 0 3).toNat w i
    rw [← k3]
    by_cases q : i = (K 0 3).toNat
    · subst q
      simp only [up_eq, and_self]
    · have h9 := e.2.2 i (by omega)
      rw [up_ne _ _ q, up_ne _ _ q, up_ne _ _ q, up_ne _ _ q]
      exact h9
/-- how an item that the class has read stands to one that the reference has read -/
def itRel (tx : Nat → Int) (ln : Nat) (T : tR) (X : rR) : Prop :=
  (X.1 = true ∧ T.1 = true ∧ sgO tx ln T.2.1 59 = true ∧ T.2.2.2.2.1 = X.2.2.1 ∧ sgE tx ln T.2.1 59 = ntE tx ln X.2.1 ∧ EqK T.2.2.2.2.2 (kv X.2.2.2.1 X.2.2.2.2.1 X.2.2.2.2.2.1 X.2.2.2.2.2.2.1 X.2.2.2.2.2.2.2)) ∨
  (X.1 = false ∧ T.1 = false ∧ T.2.2.1 = sk tx ln X.2.1) ∨
  (X.1 = false ∧ T.1 = true ∧ sgO tx ln T.2.1 59 = false ∧ sk tx ln T.2.1 = sk tx ln X.2.1)
theorem itRel_bad {tx : Nat → Int} {ln : Nat} {T : tR} {X : rR} {q tk : Nat} {nu : Int} {su : Bool} {K : Kom} {z : Nat × Bool × Int × Int × Int × (Nat → Int) × (Nat → Int)} (eT : T = (false, q, tk, nu, su, K)) (eX : X = (false, z)) (h : tk = sk tx ln z.1) : itRel tx ln T X := by
  subst eT; subst eX
  exact Or.inr (Or.inl ⟨rfl, rfl, h⟩)
theorem itRel_end {tx : Nat → Int} {ln : Nat} {T : tR} {X : rR} {q tk : Nat} {nu : Int} {su : Bool} {K : Kom} {w h n : Int} {RW S : Nat → Int} (eT : T = (true, q, tk, nu, su, K)) (eX : X = (ise tx ln q, q, su, w, h, n, RW, S)) (e : EqK K (kv w h n RW S)) : itRel tx ln T X := by
  subst eT; subst eX
  have g := sgn_eq (tx := tx) (ln := ln) (q := q) (x := 59) (by decide)
  cases c : sgO tx ln q 59 with
  | true => exact Or.inl ⟨g.1.symm.trans c, rfl, c, rfl, g.2 c, e⟩
  | false => exact Or.inr (Or.inr ⟨g.1.symm.trans c, rfl, c, rfl⟩)
theorem land_rel {tx : Nat → Int} (hX : tX tx) {ln q : Nat} (hl : ln ≤ 200) {su : Bool} {w h n : Int} {RW S : Nat → Int} (ok : rOk ln (true, q, su, w, h, n, RW, S)) {K : Kom} (e : EqK K (kv w h n RW S)) : itRel tx ln (tLand tx ln (ntE tx ln q) su K) (xLand tx ln q su w h n RW S) := by
  have ob := rOk_b ok
  have ob2 : 0 ≤ S 3 ∧ S 3 ≤ 5 := ob.2.1
  have ob3 : 0 ≤ n ∧ n ≤ 7 := ob.2.2.1
  have o1 : q ≤ ln := ok.1
  have e1 := ntE_in (tx := tx) o1
  have e2 := ntE_in (tx := tx) e1.2
  have n1 := num_eq hX e1.2 hl 2 (hi := 5) (by decide)
  have n2 := num_eq hX e2.2 hl 2 (hi := 4) (by decide)
  cases c1 : isn tx ln (ntE tx ln q) 2 5 with
  | false => exact itRel_bad (z := (ntE tx ln q, su, w, h, n, RW, S)) (by unfold tLand; rw [← n1.1, c1]; rfl) (by unfold xLand; rw [c1]; rfl) rfl
  | true =>
    have v1 := n1.2 c1
    cases c2 : isn tx ln (ntE tx ln (ntE tx ln q)) 2 4 with
    | false => exact itRel_bad (z := (ntE tx ln (ntE tx ln q), su, ntV tx ln (ntE tx ln q), h, n, RW, S)) (by unfold tLand; rw [← n1.1, c1, ← v1.1, ← n2.1, c2]; rfl) (by unfold xLand; rw [c1, c2]; rfl) rfl
    | true =>
      have v2 := n2.2 c2
      refine itRel_end (K := kS (kS K 0 0 (ntV tx ln (ntE tx ln q))) 0 1 (ntV tx ln (ntE tx ln (ntE tx ln q)))) (by unfold tLand; rw [← n1.1, c1, ← v1.1, ← v1.2, ← n2.1, c2, ← v2.1, ← v2.2]; rfl) (by unfold xLand; rw [c1, c2]; rfl) ?_
      exact (k0_c (k0_c e (by decide) (by decide) _) (by decide) (by decide) _).t ((kvL (w := w) (h := h)).e (show S 3 ≤ 6 by omega) (show n ≤ 7 by omega)).s
theorem hs_eq {K : Kom} {S : Nat → Int} {x : Int} (m : Nat) (h : ∀ t : Nat, t < m → K 1 t = S (4 + t)) : htA K x m = hsA S x m := by
  induction m with
  | zero => rfl
  | succ m ih => rw [htA, hsA, ih (fun t ht => h t (by omega)), h m (by omega)]
theorem tree_rel {tx : Nat → Int} (hX : tX tx) {ln q : Nat} (hl : ln ≤ 200) {su : Bool} {w h n : Int} {RW S : Nat → Int} (ok : rOk ln (true, q, su, w, h, n, RW, S)) {K : Kom} (e : EqK K (kv w h n RW S)) (p0 : Nat) (nu : Int) : itRel tx ln (bif decide (K 0 2 < 5) then tTree tx ln (ntE tx ln q) su K else (false, p0, sk tx ln q, nu, su, K)) (xTree tx ln q su w h n RW S) := by
  have ob := rOk_b ok
  have ob2 : 0 ≤ S 3 ∧ S 3 ≤ 5 := ob.2.1
  have ob3 : 0 ≤ n ∧ n ≤ 7 := ob.2.2.1
  have ob4 : 4 ≤ w * h ∧ w * h ≤ 20 := ob.2.2.2
  have o1 : q ≤ ln := ok.1
  have o6 : ∀ t : Nat, t < 5 → S (24 + t) = 0 := ok.2.2.2.2.2
  have k2 : K 0 2 = S 3 := e.k2
  have kwh : K 0 0 * K 0 1 = w * h := by rw [e.k0, e.k1]; rfl
  have e1 := ntE_in (tx := tx) o1
  have e2 := ntE_in (tx := tx) e1.2
  have e3 := ntE_in (tx := tx) e2.2
  have e4 := ntE_in (tx := tx) e3.2
  have n1 := num_eq hX e1.2 hl 0 (hi := w * h - 1) (by omega)
  have n2 := num_eq hX e2.2 hl 0 (hi := 20) (by decide)
  have n3 := num_eq hX e3.2 hl 0 (hi := 1) (by decide)
  have n4 := num_eq hX e4.2 hl 0 (hi := 7) (by decide)
  have hh : ∀ x, htA K x (K 0 2).toNat = hsA S x (S 3).toNat := fun x => by
    rw [k2]
    refine hs_eq _ (fun t ht => ?_)
    rw [(e.2.1 t (by omega)).1, kv_1 (by omega)]
  by_cases c0 : S 3 = 5
  · exact itRel_bad (z := (q, su, w, h, n, RW, S)) (by rw [decide_eq_false (by omega)]; rfl) (by unfold xTree; rw [decide_eq_true c0]; rfl) rfl
  · rw [decide_eq_true (show K 0 2 < 5 by omega), cond_true]
    cases c1 : isn tx ln (ntE tx ln q) 0 (w * h - 1) with
    | false => exact itRel_bad (z := (ntE tx ln q, su, w, h, n, RW, S)) (by unfold tTree; rw [kwh, ← n1.1, c1]; rfl) (by unfold xTree; rw [decide_eq_false c0, c1]; rfl) rfl
    | true =>
      have v1 := n1.2 c1
      cases c2 : hsA S (ntV tx ln (ntE tx ln q)) (S 3).toNat with
      | true => exact itRel_bad (z := (ntE tx ln q, su, w, h, n, RW, S)) (by unfold tTree; rw [kwh, ← n1.1, c1, ← v1.2, hh, c2]; rfl) (by unfold xTree; rw [decide_eq_false c0, c1, c2]; rfl) rfl
      | false =>
        cases c3 : isn tx ln (ntE tx ln (ntE tx ln q)) 0 20 with
        | false => exact itRel_bad (z := (ntE tx ln (ntE tx ln q), su, w, h, n, RW, tS1 S (ntV tx ln (ntE tx ln q)))) (by unfold tTree; rw [kwh, ← n1.1, c1, ← v1.2, hh, c2, ← v1.1, ← n2.1, c3]; rfl) (by unfold xTree; rw [decide_eq_false c0, c1, c2, c3]; rfl) rfl
        | true =>
          have v2 := n2.2 c3
          cases c4 : isn tx ln (ntE tx ln (ntE tx ln (ntE tx ln q))) 0 1 with
          | false => exact itRel_bad (z := (ntE tx ln (ntE tx ln (ntE tx ln q)), su, w, h, n, RW, tS2 S (ntV tx ln (ntE tx ln q)) (ntV tx ln (ntE tx ln (ntE tx ln q))))) (by unfold tTree; rw [kwh, ← n1.1, c1, ← v1.2, hh, c2, ← v1.1, ← n2.1, c3, ← v2.1, ← n3.1, c4]; rfl) (by unfold xTree; rw [decide_eq_false c0, c1, c2, c3, c4]; rfl) rfl
          | true =>
            have v3 := n3.2 c4
            cases c5 : isn tx ln (ntE tx ln (ntE tx ln (ntE tx ln (ntE tx ln q)))) 0 7 with
            | false => exact itRel_bad (z := (ntE tx ln (ntE tx ln (ntE tx ln (ntE tx ln q))), su, w, h, n, RW, tS3 S (ntV tx ln (ntE tx ln q)) (ntV tx ln (ntE tx ln (ntE tx ln q))) (ntV tx ln (ntE tx ln (ntE tx ln (ntE tx ln q)))))) (by unfold tTree; rw [kwh, ← n1.1, c1, ← v1.2, hh, c2, ← v1.1, ← n2.1, c3, ← v2.1, ← n3.1, c4, ← v3.1, ← n4.1, c5]; rfl) (by unfold xTree; rw [decide_eq_false c0, c1, c2, c3, c4, c5]; rfl) rfl
            | true =>
              have v4 := n4.2 c5
              refine itRel_end (K := adT K (ntV tx ln (ntE tx ln q)) (ntV tx ln (ntE tx ln (ntE tx ln q))) (ntV tx ln (ntE tx ln (ntE tx ln (ntE tx ln q)))) (ntV tx ln (ntE tx ln (ntE tx ln (ntE tx ln (ntE tx ln q)))))) (by unfold tTree; rw [kwh, ← n1.1, c1, ← v1.2, hh, c2, ← v1.1, ← n2.1, c3, ← v2.1, ← n3.1, c4, ← v3.1, ← n4.1, c5, ← v4.1, ← v2.2, ← v3.2, ← v4.2]; rfl) (by unfold xTree; rw [decide_eq_false c0, c1, c2, c3, c4, c5]; rfl) ?_
              have hT := kvT (w := w) (h := h) (n := n) (RW := RW) (S := S) (a := ntV tx ln (ntE tx ln q)) (b := ntV tx ln (ntE tx ln (ntE tx ln q))) (d := ntV tx ln (ntE tx ln (ntE tx ln (ntE tx ln q)))) (e := ntV tx ln (ntE tx ln (ntE tx ln (ntE tx ln (ntE tx ln q))))) (by omega) (o6 (S 3).toNat (by omega))
              exact (adT_c e (by omega) _ _ _ _).t (hT.e (by rw [hT.1 2 (by decide)]; show S 3 + 1 ≤ 6; omega) (show n ≤ 7 by omega)).s
theorem pers_rel {tx : Nat → Int} (hX : tX tx) {ln q : Nat} (hl : ln ≤ 200) {su : Bool} {w h n : Int} {RW S : Nat → Int} (ok : rOk ln (true, q, su, w, h, n, RW, S)) {K : Kom} (e : EqK K (kv w h n RW S)) (p0 : Nat) (nu : Int) : itRel tx ln (bif decide (K 0 3 < 7) then tPers tx ln (ntE tx ln q) su K else (false, p0, sk tx ln q, nu, su, K)) (xPers tx ln q su w h n RW S) := by
  have ob := rOk_b ok
  have ob2 : 0 ≤ S 3 ∧ S 3 ≤ 5 := ob.2.1
  have ob3 : 0 ≤ n ∧ n ≤ 7 := ob.2.2.1
  have ob4 : 4 ≤ w * h ∧ w * h ≤ 20 := ob.2.2.2
  have o1 : q ≤ ln := ok.1
  have k3 : K 0 3 = n := e.k3
  have kwh : K 0 0 * K 0 1 = w * h := by rw [e.k0, e.k1]; rfl
  have e1 := ntE_in (tx := tx) o1
  have e2 := ntE_in (tx := tx) e1.2
  have n1 := num_eq hX e1.2 hl 0 (hi := w * h - 1) (by omega)
  have n2 := num_eq hX e2.2 hl 1 (hi := 4) (by decide)
  by_cases c0 : n = 7
  · exact itRel_bad (z := (q, su, w, h, n, RW, S)) (by rw [decide_eq_false (by omega)]; rfl) (by unfold xPers; rw [decide_eq_true c0]; rfl) rfl
  · rw [decide_eq_true (show K 0 3 < 7 by omega), cond_true]
    cases c1 : isn tx ln (ntE tx ln q) 0 (w * h - 1) with
    | false => exact itRel_bad (z := (ntE tx ln q, su, w, h, n, RW, S)) (by unfold tPers; rw [kwh, ← n1.1, c1]; rfl) (by unfold xPers; rw [decide_eq_false c0, c1]; rfl) rfl
    | true =>
      have v1 := n1.2 c1
      cases c2 : isn tx ln (ntE tx ln (ntE tx ln q)) 1 4 with
      | false => exact itRel_bad (z := (ntE tx ln (ntE tx ln q), su, w, h, n, RW, pS1 S n (ntV tx ln (ntE tx ln q)))) (by unfold tPers; rw [kwh, ← n1.1, c1, ← v1.1, ← n2.1, c2]; rfl) (by unfold xPers; rw [decide_eq_false c0, c1, c2]; rfl) rfl
      | true =>
        have v2 := n2.2 c2
        refine itRel_end (K := adP K (ntV tx ln (ntE tx ln q)) (ntV tx ln (ntE tx ln (ntE tx ln q)))) (by unfold tPers; rw [kwh, ← n1.1, c1, ← v1.2, ← v1.1, ← n2.1, c2, ← v2.1, ← v2.2]; rfl) (by unfold xPers; rw [decide_eq_false c0, c1, c2]; rfl) ?_
        have hT := kvP (w := w) (h := h) (n := n) (RW := RW) (S := S) (a := ntV tx ln (ntE tx ln q)) (b := ntV tx ln (ntE tx ln (ntE tx ln q))) (by omega)
        exact (adP_c e (by omega) _ _).t (hT.e (by rw [hT.1 2 (by decide)]; show S 3 ≤ 6; omega) (show n + 1 ≤ 7 by omega)).s
theorem sun_rel {tx : Nat → Int} (hX : tX tx) {ln q : Nat} (hl : ln ≤ 200) {w h n : Int} {RW S : Nat → Int} (ok : rOk ln (true, q, false, w, h, n, RW, S)) {K : Kom} (e : EqK K (kv w h n RW S)) : itRel tx ln (tSun tx ln (ntE tx ln q) false K) (bif isn tx ln (ntE tx ln q) 1 9 then (ise tx ln (ntE tx ln (ntE tx ln q)), ntE tx ln (ntE tx ln q), true, w, h, n, RW, va_up S 1 (ntV tx ln (ntE tx ln q))) else (false, ntE tx ln q, false, w, h, n, RW, S)) := by
  have ob := rOk_b ok
  have ob2 : 0 ≤ S 3 ∧ S 3 ≤ 5 := ob.2.1
  have ob3 : 0 ≤ n ∧ n ≤ 7 := ob.2.2.1
  have o1 : q ≤ ln := ok.1
  have e1 := ntE_in (tx := tx) o1
  have n1 := num_eq hX e1.2 hl 1 (hi := 9) (by decide)
  cases c1 : isn tx ln (ntE tx ln q) 1 9 with
  | false => exact itRel_bad (z := (ntE tx ln q, false, w, h, n, RW, S)) (by unfold tSun; rw [← n1.1, c1]; rfl) rfl rfl
  | true =>
    have v1 := n1.2 c1
    refine itRel_end (K := kS K 0 4 (ntV tx ln (ntE tx ln q))) (by unfold tSun; rw [← n1.1, c1, ← v1.1, ← v1.2]; rfl) rfl ?_
    exact (sun_c e _).t ((kvS (w := w) (h := h) (n := n) (RW := RW)).e (by show va_up S 1 _ 3 ≤ 6; rw [up_ne _ _ (by decide)]; omega) (show n ≤ 7 by omega)).s
theorem item_rel {tx : Nat → Int} (hX : tX tx) {ln q it : Nat} (hl : ln ≤ 200) {su : Bool} {w h n : Int} {RW S : Nat → Int} (ok : rOk ln (true, q, su, w, h, n, RW, S)) {K : Kom} (e : EqK K (kv w h n RW S)) (nu : Int) : itRel tx ln (tItem tx ln (sk tx ln q) su nu K (decide (it = 0))) (xItem tx ln q it su w h n RW S) := by
  have g : ∀ x : Int, 57 < x → sgO tx ln (sk tx ln q) x = decide (ntT tx ln q = x) := fun x hx => by rw [sgO_sk]; exact (sgn_eq hx).1
  have gt : ∀ x : Int, 57 < x → ntT tx ln q = x → sgE tx ln (sk tx ln q) x = ntE tx ln q := fun x hx hc => by rw [sgE_sk]; exact (sgn_eq hx).2 ((sgn_eq hx).1.trans (decide_eq_true hc))
  have gf : ∀ x : Int, 57 < x → ntT tx ln q ≠ x → sgE tx ln (sk tx ln q) x = sk tx ln q := fun x hx hc => by rw [sgE_f ((g x hx).trans (decide_eq_false hc)), sk_sk]
  by_cases c1 : ntT tx ln q = 103
  · have t1 : tItem tx ln (sk tx ln q) su nu K (decide (it = 0)) = bif decide (it = 0) then tLand tx ln (ntE tx ln q) su K else (false, ntE tx ln q, sk tx ln q, nu, su, K) := by
      unfold tItem
      rw [g 103 (by decide), decide_eq_true c1, cond_true, gt 103 (by decide) c1, sk_sk]
    rw [t1]
    by_cases c2 : it = 0
    · have x1 : xItem tx ln q it su w h n RW S = xLand tx ln q su w h n RW S := by unfold xItem; rw [decide_eq_true ⟨c1, c2⟩]; rfl
      rw [x1, decide_eq_true c2]
      exact land_rel hX hl ok e
    · rw [decide_eq_false c2]
      exact itRel_bad (z := (q, su, w, h, n, RW, S)) rfl (by unfold xItem; rw [decide_eq_false (fun z => c2 z.2), decide_eq_false (p := ntT tx ln q = 116) (by omega), decide_eq_false (p := ntT tx ln q = 112) (by omega), decide_eq_false (p := ntT tx ln q = 115) (by omega)]; rfl) rfl
  · have y1 : decide (ntT tx ln q = 103 ∧ it = 0) = false := decide_eq_false (fun z => c1 z.1)
    by_cases c2 : ntT tx ln q = 116
    · have t1 : tItem tx ln (sk tx ln q) su nu K (decide (it = 0)) = bif decide (K 0 2 < 5) then tTree tx ln (ntE tx ln q) su K else (false, ntE tx ln q, sk tx ln q, nu, su, K) := by
        unfold tItem
        rw [g 103 (by decide), decide_eq_false c1, cond_false, gf 103 (by decide) c1, g 116 (by decide), decide_eq_true c2, cond_true, gt 116 (by decide) c2, sk_sk]
      have x1 : xItem tx ln q it su w h n RW S = xTree tx ln q su w h n RW S := by unfold xItem; rw [y1, decide_eq_true c2]; rfl
      rw [t1, x1]
      exact tree_rel hX hl ok e _ _
    · by_cases c3 : ntT tx ln q = 112
      · have t1 : tItem tx ln (sk tx ln q) su nu K (decide (it = 0)) = bif decide (K 0 3 < 7) then tPers tx ln (ntE tx ln q) su K else (false, ntE tx ln q, sk tx ln q, nu, su, K) := by
          unfold tItem
          rw [g 103 (by decide), decide_eq_false c1, cond_false, gf 103 (by decide) c1, g 116 (by decide), decide_eq_false c2, cond_false, gf 116 (by decide) c2, g 112 (by decide), decide_eq_true c3, cond_true, gt 112 (by decide) c3, sk_sk]
        have x1 : xItem tx ln q it su w h n RW S = xPers tx ln q su w h n RW S := by unfold xItem; rw [y1, decide_eq_false c2, decide_eq_true c3]; rfl
        rw [t1, x1]
        exact pers_rel hX hl ok e _ _
      · by_cases c4 : ntT tx ln q = 115
        · have t1 : tItem tx ln (sk tx ln q) su nu K (decide (it = 0)) = bif su then (false, ntE tx ln q, sk tx ln q, nu, su, K) else tSun tx ln (ntE tx ln q) su K := by
            unfold tItem
            rw [g 103 (by decide), decide_eq_false c1, cond_false, gf 103 (by decide) c1, g 116 (by decide), decide_eq_false c2, cond_false, gf 116 (by decide) c2, g 112 (by decide), decide_eq_false c3, cond_false, gf 112 (by decide) c3, g 115 (by decide), decide_eq_true c4, cond_true, gt 115 (by decide) c4, sk_sk]
          rw [t1]
          cases c5 : su with
          | true => exact itRel_bad (z := (q, true, w, h, n, RW, S)) rfl (by unfold xItem; rw [y1, decide_eq_false c2, decide_eq_false c3, decide_eq_true c4]; rfl) rfl
          | false =>
            have x1 : xItem tx ln q it false w h n RW S = bif isn tx ln (ntE tx ln q) 1 9 then (ise tx ln (ntE tx ln (ntE tx ln q)), ntE tx ln (ntE tx ln q), true, w, h, n, RW, va_up S 1 (ntV tx ln (ntE tx ln q))) else (false, ntE tx ln q, false, w, h, n, RW, S) := by unfold xItem; rw [y1, decide_eq_false c2, decide_eq_false c3, decide_eq_true c4]; rfl
            rw [x1]
            subst c5
            exact sun_rel hX hl ok e
        · have t1 : tItem tx ln (sk tx ln q) su nu K (decide (it = 0)) = (false, sk tx ln q, sk tx ln q, nu, su, K) := by
            unfold tItem
            rw [g 103 (by decide), decide_eq_false c1, cond_false, gf 103 (by decide) c1, g 116 (by decide), decide_eq_false c2, cond_false, gf 116 (by decide) c2, g 112 (by decide), decide_eq_false c3, cond_false, gf 112 (by decide) c3, g 115 (by decide), decide_eq_false c4, cond_false, gf 115 (by decide) c4, sk_sk]
          exact itRel_bad (z := (q, su, w, h, n, RW, S)) t1 (by unfold xItem; rw [y1, decide_eq_false c2, decide_eq_false c3, decide_eq_false c4]; rfl) rfl
/-- the class's reading and the reference's end alike -/
theorem rd_eq {tx : Nat → Int} (hX : tX tx) {ln : Nat} (hl : ln ≤ 200) : ∀ (f it : Nat) (r : rR) (tk : Nat) (nu : Int) (K : Kom), rOk ln r → it ≤ r.2.1 → (it = 0 → r.2.2.2.2.2.2.2 3 = 0 ∧ r.2.2.2.2.2.1 = 0) → EqK K (kv r.2.2.2.1 r.2.2.2.2.1 r.2.2.2.2.2.1 r.2.2.2.2.2.2.1 r.2.2.2.2.2.2.2) → 201 ≤ f + it →
    ((xRd tx ln f it r).2.1 = true ∧ (tlF tx ln f it r.2.1 r.2.2.1 tk nu K).1 = ((xRd tx ln f it r).1 : Int) ∧ EqK (tlF tx ln f it r.2.1 r.2.2.1 tk nu K).2.2.2.2.2.2 (kv (xRd tx ln f it r).2.2.2.2.1 (xRd tx ln f it r).2.2.2.2.2.1 (xRd tx ln f it r).2.2.2.2.2.2.1 (xRd tx ln f it r).2.2.2.2.2.2.2.1 (xRd tx ln f it r).2.2.2.2.2.2.2.2)) ∨
    ((xRd tx ln f it r).2.1 = false ∧ (tlF tx ln f it r.2.1 r.2.2.1 tk nu K).1 = -10 - ((sk tx ln (xRd tx ln f it r).2.2.1 : Nat) : Int)) := by
  intro f
  induction f with
  | zero => intro it r tk nu K ok h1 _ _ h2; have := ok.1; omega
  | succ f ih =>
    intro it r tk nu K ok h1 hz e h2
    by_cases c1 : ln ≤ sk tx ln r.2.1
    · left
      rw [xRd_end ((ntT_2 hX hl).mpr c1), tlF_end c1]
      exact ⟨rfl, rfl, e⟩
    · have c1' : ntT tx ln r.2.1 ≠ -2 := fun h => c1 ((ntT_2 hX hl).mp h)
      have rel := item_rel hX (it := it) hl (q := r.2.1) (su := r.2.2.1) (w := r.2.2.2.1) (h := r.2.2.2.2.1) (n := r.2.2.2.2.2.1) (RW := r.2.2.2.2.2.2.1) (S := r.2.2.2.2.2.2.2) ok e nu
      rcases rel with ⟨r1, r2, r3, r4, r5, r6⟩ | ⟨r1, r2, r3⟩ | ⟨r1, r2, r3, r4⟩
      · have hf := xIt_fit ok hz r1
        rw [xRd_go c1' r1, tlF_go (by omega) rfl r2 r3, r5, r4]
        exact ih (it + 1) (true, ntE tx ln (xItR tx ln it r).2.1, (xItR tx ln it r).2.2) _ _ _ hf.1 (by have := hf.2; show it + 1 ≤ ntE tx ln (xItR tx ln it r).2.1; omega) (fun h => absurd h (by omega)) r6 (by omega)
      · right
        rw [xRd_bad c1' r1, tlF_bad (by omega) r2, r3]
        exact ⟨r1, rfl⟩
      · right
        rw [xRd_bad c1' r1, tlF_semi (by omega) rfl r2 r3, r4]
        exact ⟨r1, rfl⟩
