/-! ===== what is read keeps within its bounds ===== -/
def aWF (K : Kom) : Prop := (∀ t : Nat, t < 6 → 0 ≤ K 1 t ∧ K 1 t ≤ 19 ∧ 0 ≤ K 2 t ∧ K 2 t ≤ 20 ∧ 0 ≤ K 3 t ∧ K 3 t ≤ 7 ∧ 0 ≤ K 4 t ∧ K 4 t ≤ 1 ∧ 0 ≤ K 5 t ∧ K 5 t ≤ 1) ∧ (∀ p : Nat, p < 7 → 0 ≤ K 6 p ∧ K 6 p ≤ 19 ∧ 0 ≤ K 7 p ∧ K 7 p ≤ 4)
theorem cWF.a {K : Kom} (h : cWF K) : aWF K := ⟨h.2.1, h.2.2.1⟩
theorem cWF_stA {K : Kom} (h : aWF K) : cWF (stA K) := by
  refine ⟨?_, h.1, h.2, fun t ht => ?_, fun p hp => ?_⟩
  · show (2 : Int) ≤ 3 ∧ (3 : Int) ≤ 5 ∧ (2 : Int) ≤ 3 ∧ (3 : Int) ≤ 4 ∧ (0 : Int) ≤ 0 ∧ (0 : Int) ≤ 6 ∧ (0 : Int) ≤ 0 ∧ (0 : Int) ≤ 7 ∧ (1 : Int) ≤ 3 ∧ (3 : Int) ≤ 9 ∧ (0 : Int) ≤ 0 ∧ (0 : Int) ≤ 999 ∧ (0 : Int) ≤ 0 ∧ (0 : Int) ≤ 1
    decide
  · have : (t : Int) < 0 := ht
    omega
  · have : (p : Int) < 0 := hp
    omega
theorem cWF_land {K : Kom} (hW : cWF K) (hz : K 0 2 = 0 ∧ K 0 3 = 0) {a b : Int} (ha : 2 ≤ a ∧ a ≤ 5) (hb : 2 ≤ b ∧ b ≤ 4) : cWF (kS (kS K 0 0 a) 0 1 b) := by
  have h0 := hW.1
  refine ⟨?_, hW.2.1, hW.2.2.1, fun t ht => ?_, fun p hp => ?_⟩
  · show 2 ≤ a ∧ a ≤ 5 ∧ 2 ≤ b ∧ b ≤ 4 ∧ 0 ≤ K 0 2 ∧ K 0 2 ≤ 6 ∧ 0 ≤ K 0 3 ∧ K 0 3 ≤ 7 ∧ 1 ≤ K 0 4 ∧ K 0 4 ≤ 9 ∧ 0 ≤ K 0 5 ∧ K 0 5 ≤ 999 ∧ 0 ≤ K 0 6 ∧ K 0 6 ≤ 1
    omega
  · have : (t : Int) < K 0 2 := ht
    omega
  · have : (p : Int) < K 0 3 := hp
    omega
theorem cWF_adP {K : Kom} (hW : cWF K) (hp : K 0 3 ≤ 6) {a w : Int} (ha : 0 ≤ a ∧ a < K 0 0 * K 0 1) (hw : 0 ≤ w ∧ w ≤ 4) : cWF (adP K a w) := by
  have h0 := hW.1
  have hnc := hW.nc
  refine ⟨?_, hW.2.1, fun j hj => ?_, hW.2.2.2.1, fun j hj => ?_⟩
  · show 2 ≤ K 0 0 ∧ K 0 0 ≤ 5 ∧ 2 ≤ K 0 1 ∧ K 0 1 ≤ 4 ∧ 0 ≤ K 0 2 ∧ K 0 2 ≤ 6 ∧ 0 ≤ K 0 3 + 1 ∧ K 0 3 + 1 ≤ 7 ∧ 1 ≤ K 0 4 ∧ K 0 4 ≤ 9 ∧ 0 ≤ K 0 5 ∧ K 0 5 ≤ 999 ∧ 0 ≤ K 0 6 ∧ K 0 6 ≤ 1
    omega
  · have q := hW.2.2.1 j hj
    show 0 ≤ va_up (K 6) (K 0 3).toNat a j ∧ va_up (K 6) (K 0 3).toNat a j ≤ 19 ∧ 0 ≤ va_up (K 7) (K 0 3).toNat w j ∧ va_up (K 7) (K 0 3).toNat w j ≤ 4
    by_cases e9 : j = (K 0 3).toNat
    · subst e9
      rw [up_eq, up_eq]
      omega
    · rw [up_ne _ _ e9, up_ne _ _ e9]
      exact q
  · show va_up (K 6) (K 0 3).toNat a j < K 0 0 * K 0 1
    have hj2 : (j : Int) < K 0 3 + 1 := hj
    by_cases e9 : j = (K 0 3).toNat
    · subst e9
      rw [up_eq]
      omega
    · rw [up_ne _ _ e9]
      exact hW.2.2.2.2 j (by omega)
/-- what a reading leaves is fit: its place, its commune, and, where it stands, the whole -/
def rFit (ln : Nat) (r : tR) : Prop := r.2.1 ≤ ln ∧ aWF r.2.2.2.2.2 ∧ (r.1 = true → cWF r.2.2.2.2.2 ∧ r.2.2.2.2.2 0 2 ≤ 5 ∧ r.2.2.2.2.2 0 3 ≤ 7)
theorem tLand_fit {tx : Nat → Int} {ln q : Nat} {su : Bool} {K : Kom} (hq : q ≤ ln) (hW : cWF K) (hz : K 0 2 = 0 ∧ K 0 3 = 0) : rFit ln (tLand tx ln q su K) := by
  have h1 := rnE_in (tx := tx) hq
  have h2 := rnE_in (tx := tx) h1.2
  unfold tLand
  cases c1 : rnO tx ln q 2 5 with
  | false => exact ⟨h1.2, hW.a, fun h => Bool.noConfusion h⟩
  | true =>
    cases c2 : rnO tx ln (rnE tx ln q) 2 4 with
    | false => exact ⟨h2.2, hW.a, fun h => Bool.noConfusion h⟩
    | true =>
      refine ⟨h2.2, hW.a, fun _ => ⟨cWF_land hW hz (rnO_in c1) (rnO_in c2), ?_, ?_⟩⟩
      · show K 0 2 ≤ 5
        omega
      · show K 0 3 ≤ 7
        omega
theorem tTree_fit {tx : Nat → Int} {ln q : Nat} {su : Bool} {K : Kom} (hq : q ≤ ln) (hW : cWF K) (h4 : K 0 2 ≤ 4) : rFit ln (tTree tx ln q su K) := by
  have h0 := hW.1
  have hnc := hW.nc
  have h1 := rnE_in (tx := tx) hq
  have h2 := rnE_in (tx := tx) h1.2
  have h3 := rnE_in (tx := tx) h2.2
  have h5 := rnE_in (tx := tx) h3.2
  unfold tTree
  cases c1 : rnO tx ln q 0 (K 0 0 * K 0 1 - 1) with
  | false => exact ⟨h1.2, hW.a, fun h => Bool.noConfusion h⟩
  | true =>
    cases c2 : htA K (rnV tx ln q (K 0 0 * K 0 1 - 1)) (K 0 2).toNat with
    | true => exact ⟨h1.2, hW.a, fun h => Bool.noConfusion h⟩
    | false =>
      cases c3 : rnO tx ln (rnE tx ln q) 0 20 with
      | false => exact ⟨h2.2, hW.a, fun h => Bool.noConfusion h⟩
      | true =>
        cases c4 : rnO tx ln (rnE tx ln (rnE tx ln q)) 0 1 with
        | false => exact ⟨h3.2, hW.a, fun h => Bool.noConfusion h⟩
        | true =>
          cases c5 : rnO tx ln (rnE tx ln (rnE tx ln (rnE tx ln q))) 0 7 with
          | false => exact ⟨h5.2, hW.a, fun h => Bool.noConfusion h⟩
          | true =>
            have i1 := rnO_in c1
            have i3 := rnO_in c3
            have i4 := rnO_in c4
            have i5 := rnO_in c5
            have hT := cWF_adT hW (by omega) (a := rnV tx ln q (K 0 0 * K 0 1 - 1)) (h := rnV tx ln (rnE tx ln q) 20) (e := rnV tx ln (rnE tx ln (rnE tx ln q)) 1) (w := rnV tx ln (rnE tx ln (rnE tx ln (rnE tx ln q))) 7) (by omega) (by omega) (by omega) (by omega)
            refine ⟨h5.2, hT.a, fun _ => ⟨hT, ?_, ?_⟩⟩
            · show K 0 2 + 1 ≤ 5
              omega
            · show K 0 3 ≤ 7
              omega
theorem tPers_fit {tx : Nat → Int} {ln q : Nat} {su : Bool} {K : Kom} (hq : q ≤ ln) (hW : cWF K) (h4 : K 0 3 ≤ 6) (h5' : K 0 2 ≤ 5) : rFit ln (tPers tx ln q su K) := by
  have h0 := hW.1
  have hnc := hW.nc
  have h1 := rnE_in (tx := tx) hq
  have h2 := rnE_in (tx := tx) h1.2
  unfold tPers
  cases c1 : rnO tx ln q 0 (K 0 0 * K 0 1 - 1) with
  | false => exact ⟨h1.2, hW.a, fun h => Bool.noConfusion h⟩
  | true =>
    cases c2 : rnO tx ln (rnE tx ln q) 1 4 with
    | false => exact ⟨h2.2, hW.a, fun h => Bool.noConfusion h⟩
    | true =>
      have i1 := rnO_in c1
      have i2 := rnO_in c2
      have hT := cWF_adP hW (by omega) (a := rnV tx ln q (K 0 0 * K 0 1 - 1)) (w := rnV tx ln (rnE tx ln q) 4) (by omega) (by omega)
      refine ⟨h2.2, hT.a, fun _ => ⟨hT, ?_, ?_⟩⟩
      · show K 0 2 ≤ 5
        omega
      · show K 0 3 + 1 ≤ 7
        omega
theorem tSun_fit {tx : Nat → Int} {ln q : Nat} {su : Bool} {K : Kom} (hq : q ≤ ln) (hW : cWF K) (h5 : K 0 2 ≤ 5 ∧ K 0 3 ≤ 7) : rFit ln (tSun tx ln q su K) := by
  have h1 := rnE_in (tx := tx) hq
  unfold tSun
  cases c1 : rnO tx ln q 1 9 with
  | false => exact ⟨h1.2, hW.a, fun h => Bool.noConfusion h⟩
  | true => exact ⟨h1.2, hW.a, fun _ => ⟨cWF_sun hW (rnO_in c1), h5.1, h5.2⟩⟩
theorem tItem_fit {tx : Nat → Int} {ln q : Nat} {su : Bool} {nu : Int} {K : Kom} {fi : Bool} (hq : q ≤ ln) (hW : cWF K) (h5 : K 0 2 ≤ 5 ∧ K 0 3 ≤ 7) (hz : fi = true → K 0 2 = 0 ∧ K 0 3 = 0) : rFit ln (tItem tx ln q su nu K fi) := by
  have h1 := sgE_in (tx := tx) 103 hq
  have h2 := sgE_in (tx := tx) 116 h1.2
  have h3 := sgE_in (tx := tx) 112 h2.2
  have h4 := sgE_in (tx := tx) 115 h3.2
  unfold tItem
  cases c1 : sgO tx ln q 103 with
  | true =>
    cases c2 : fi with
    | true => exact tLand_fit h1.2 hW (hz c2)
    | false => exact ⟨h1.2, hW.a, fun h => Bool.noConfusion h⟩
  | false =>
    cases c2 : sgO tx ln (sgE tx ln q 103) 116 with
    | true =>
      by_cases c3 : K 0 2 < 5
      · rw [decide_eq_true c3]
        exact tTree_fit h2.2 hW (by omega)
      · rw [decide_eq_false c3]
        exact ⟨h2.2, hW.a, fun h => Bool.noConfusion h⟩
    | false =>
      cases c3 : sgO tx ln (sgE tx ln (sgE tx ln q 103) 116) 112 with
      | true =>
        by_cases c4 : K 0 3 < 7
        · rw [decide_eq_true c4]
          exact tPers_fit h3.2 hW (by omega) h5.1
        · rw [decide_eq_false c4]
          exact ⟨h3.2, hW.a, fun h => Bool.noConfusion h⟩
      | false =>
        cases c4 : sgO tx ln (sgE tx ln (sgE tx ln (sgE tx ln q 103) 116) 112) 115 with
        | true =>
          cases c5 : su with
          | true => exact ⟨h4.2, hW.a, fun h => Bool.noConfusion h⟩
          | false => exact tSun_fit h4.2 hW h5
        | false => exact ⟨h4.2, hW.a, fun h => Bool.noConfusion h⟩
/-- letters more -/
def txP (tx : Nat → Int) (ln : Nat) (a : Int) : Nat → Int := bif decide (ln < 200) then va_up tx ln a else tx
def lnP (ln : Nat) : Nat := bif decide (ln < 200) then ln + 1 else ln
theorem txP_t {tx : Nat → Int} {ln : Nat} {a : Int} (h : ln < 200) : txP tx ln a = va_up tx ln a := by unfold txP; rw [decide_eq_true h]; rfl
theorem txP_f {tx : Nat → Int} {ln : Nat} {a : Int} (h : 200 ≤ ln) : txP tx ln a = tx := by unfold txP; rw [decide_eq_false (by omega)]; rfl
theorem lnP_t {ln : Nat} (h : ln < 200) : lnP ln = ln + 1 := by unfold lnP; rw [decide_eq_true h]; rfl
theorem lnP_f {ln : Nat} (h : 200 ≤ ln) : lnP ln = ln := by unfold lnP; rw [decide_eq_false (by omega)]; rfl
theorem tlF_0 (tx : Nat → Int) (ln it q : Nat) (su : Bool) (tk : Nat) (nu : Int) (K : Kom) : tlF tx ln 0 it q su tk nu K = (-10 - (tk : Int), false, q, tk, nu, su, K) := rfl
theorem tlF_end {tx : Nat → Int} {ln f it q : Nat} {su : Bool} {tk : Nat} {nu : Int} {K : Kom} (h : ln ≤ sk tx ln q) : tlF tx ln (f + 1) it q su tk nu K = ((it : Int), true, sk tx ln q, sk tx ln q, nu, su, K) := by
  rw [tlF, decide_eq_true h]; rfl
theorem tlF_bad {tx : Nat → Int} {ln f it q : Nat} {su : Bool} {tk : Nat} {nu : Int} {K : Kom} (h : sk tx ln q < ln) (h2 : (tItem tx ln (sk tx ln q) su nu K (decide (it = 0))).1 = false) : tlF tx ln (f + 1) it q su tk nu K = (-10 - (((tItem tx ln (sk tx ln q) su nu K (decide (it = 0))).2.2.1 : Nat) : Int), tItem tx ln (sk tx ln q) su nu K (decide (it = 0))) := by
  rw [tlF, decide_eq_false (by omega), h2]; rfl
theorem tlF_semi {tx : Nat → Int} {ln f it q : Nat} {su : Bool} {tk : Nat} {nu : Int} {K : Kom} (h : sk tx ln q < ln) {r : tR} (e : tItem tx ln (sk tx ln q) su nu K (decide (it = 0)) = r) (h2 : r.1 = true) (h3 : sgO tx ln r.2.1 59 = false) : tlF tx ln (f + 1) it q su tk nu K = (-10 - ((sk tx ln r.2.1 : Nat) : Int), false, sgE tx ln r.2.1 59, sk tx ln r.2.1, r.2.2.2) := by
  rw [tlF, e, decide_eq_false (by omega), h2, h3]; rfl
theorem tlF_go {tx : Nat → Int} {ln f it q : Nat} {su : Bool} {tk : Nat} {nu : Int} {K : Kom} (h : sk tx ln q < ln) {r : tR} (e : tItem tx ln (sk tx ln q) su nu K (decide (it = 0)) = r) (h2 : r.1 = true) (h3 : sgO tx ln r.2.1 59 = true) : tlF tx ln (f + 1) it q su tk nu K = tlF tx ln f (it + 1) (sgE tx ln r.2.1 59) r.2.2.2.2.1 (sk tx ln r.2.1) r.2.2.2.1 r.2.2.2.2.2 := by
  rw [tlF, e, decide_eq_false (by omega), h2, h3]; rfl
