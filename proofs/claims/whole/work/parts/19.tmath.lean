/-! ===== the text: how it is read ===== -/
def tX (tx : Nat → Int) : Prop := ∀ j : Nat, j < 200 → 0 ≤ tx j ∧ tx j ≤ 255
def skp (tx : Nat → Int) (ln : Nat) : Nat → Nat → Nat
  | 0, q => q
  | f + 1, q => if q < ln ∧ tx q = 32 then skp tx ln f (q + 1) else q
def sk (tx : Nat → Int) (ln q : Nat) : Nat := skp tx ln (ln - q) q
theorem sk_step {tx : Nat → Int} {ln q : Nat} (h1 : q < ln) (h2 : tx q = 32) : sk tx ln q = sk tx ln (q + 1) := by
  unfold sk
  rw [show ln - q = (ln - (q + 1)) + 1 by omega, skp, if_pos ⟨h1, h2⟩]
theorem sk_stop {tx : Nat → Int} {ln q : Nat} (h : ¬ (q < ln ∧ tx q = 32)) : sk tx ln q = q := by
  unfold sk
  cases hf : ln - q with
  | zero => rfl
  | succ f => rw [skp, if_neg h]
theorem skp_in (tx : Nat → Int) (ln : Nat) : ∀ f q, q ≤ ln → q ≤ skp tx ln f q ∧ skp tx ln f q ≤ ln := by
  intro f
  induction f with
  | zero => intro q h; exact ⟨Nat.le_refl q, h⟩
  | succ f ih =>
    intro q h
    rw [skp]
    split
    · rename_i hc
      have := ih (q + 1) (by omega)
      omega
    · omega
theorem sk_in {tx : Nat → Int} {ln q : Nat} (h : q ≤ ln) : q ≤ sk tx ln q ∧ sk tx ln q ≤ ln := skp_in tx ln _ q h
theorem skp_end (tx : Nat → Int) (ln : Nat) : ∀ f q, ln - q ≤ f → ¬ (skp tx ln f q < ln ∧ tx (skp tx ln f q) = 32) := by
  intro f
  induction f with
  | zero => intro q h; rw [skp]; omega
  | succ f ih =>
    intro q h
    rw [skp]
    split
    · exact ih (q + 1) (by omega)
    · assumption
theorem sk_sk (tx : Nat → Int) (ln q : Nat) : sk tx ln (sk tx ln q) = sk tx ln q := sk_stop (skp_end tx ln _ q (Nat.le_refl _))
abbrev isD (x : Int) : Prop := 48 ≤ x ∧ x ≤ 57
def dgp (tx : Nat → Int) (ln : Nat) : Nat → Nat → Nat
  | 0, q => q
  | f + 1, q => if q < ln ∧ isD (tx q) then dgp tx ln f (q + 1) else q
def dg (tx : Nat → Int) (ln q : Nat) : Nat := dgp tx ln (ln - q) q
theorem dg_step {tx : Nat → Int} {ln q : Nat} (h1 : q < ln) (h2 : isD (tx q)) : dg tx ln q = dg tx ln (q + 1) := by
  unfold dg
  rw [show ln - q = (ln - (q + 1)) + 1 by omega, dgp, if_pos ⟨h1, h2⟩]
theorem dg_stop {tx : Nat → Int} {ln q : Nat} (h : ¬ (q < ln ∧ isD (tx q))) : dg tx ln q = q := by
  unfold dg
  cases hf : ln - q with
  | zero => rfl
  | succ f => rw [dgp, if_neg h]
theorem dgp_in (tx : Nat → Int) (ln : Nat) : ∀ f q, q ≤ ln → q ≤ dgp tx ln f q ∧ dgp tx ln f q ≤ ln := by
  intro f
  induction f with
  | zero => intro q h; exact ⟨Nat.le_refl q, h⟩
  | succ f ih =>
    intro q h
    rw [dgp]
    split
    · have := ih (q + 1) (by omega)
      omega
    · omega
theorem dg_in {tx : Nat → Int} {ln q : Nat} (h : q ≤ ln) : q ≤ dg tx ln q ∧ dg tx ln q ≤ ln := dgp_in tx ln _ q h
def nmp (tx : Nat → Int) (ln : Nat) (hi : Int) : Nat → Nat → Int → Int
  | 0, _, a => a
  | f + 1, q, a => if q < ln ∧ isD (tx q) then nmp tx ln hi f (q + 1) (if a ≤ hi then a * 10 + tx q - 48 else a) else a
def nm (tx : Nat → Int) (ln : Nat) (hi : Int) (q : Nat) (a : Int) : Int := nmp tx ln hi (ln - q) q a
theorem nm_step1 {tx : Nat → Int} {ln q : Nat} {hi a : Int} (h1 : q < ln) (h2 : isD (tx q)) (h3 : a ≤ hi) : nm tx ln hi q a = nm tx ln hi (q + 1) (a * 10 + tx q - 48) := by
  unfold nm
  rw [show ln - q = (ln - (q + 1)) + 1 by omega, nmp, if_pos ⟨h1, h2⟩, if_pos h3]
theorem nm_step2 {tx : Nat → Int} {ln q : Nat} {hi a : Int} (h1 : q < ln) (h2 : isD (tx q)) (h3 : hi < a) : nm tx ln hi q a = nm tx ln hi (q + 1) a := by
  unfold nm
  rw [show ln - q = (ln - (q + 1)) + 1 by omega, nmp, if_pos ⟨h1, h2⟩, if_neg (by omega)]
theorem nm_stop {tx : Nat → Int} {ln q : Nat} {hi a : Int} (h : ¬ (q < ln ∧ isD (tx q))) : nm tx ln hi q a = a := by
  unfold nm
  cases hf : ln - q with
  | zero => rfl
  | succ f => rw [nmp, if_neg h]
theorem nmp_in {tx : Nat → Int} {ln : Nat} {hi : Int} (hh : 0 ≤ hi ∧ hi ≤ 20) : ∀ f q a, 0 ≤ a ∧ a ≤ 300 → 0 ≤ nmp tx ln hi f q a ∧ nmp tx ln hi f q a ≤ 300 := by
  intro f
  induction f with
  | zero => intro q a h; exact h
  | succ f ih =>
    intro q a h
    rw [nmp]
    split
    · rename_i hc
      refine ih _ _ ?_
      have := hc.2
      split <;> omega
    · exact h
def sgO (tx : Nat → Int) (ln q : Nat) (x : Int) : Bool := decide (sk tx ln q < ln ∧ tx (sk tx ln q) = x)
def sgE (tx : Nat → Int) (ln q : Nat) (x : Int) : Nat := bif sgO tx ln q x then sk tx ln q + 1 else sk tx ln q
theorem sgE_t {tx : Nat → Int} {ln q : Nat} {x : Int} (h : sgO tx ln q x = true) : sgE tx ln q x = sk tx ln q + 1 := by unfold sgE; rw [h]; rfl
theorem sgE_f {tx : Nat → Int} {ln q : Nat} {x : Int} (h : sgO tx ln q x = false) : sgE tx ln q x = sk tx ln q := by unfold sgE; rw [h]; rfl
theorem sgE_in {tx : Nat → Int} {ln q : Nat} (x : Int) (h : q ≤ ln) : q ≤ sgE tx ln q x ∧ sgE tx ln q x ≤ ln := by
  have h1 := sk_in (tx := tx) h
  cases hc : sgO tx ln q x with
  | true =>
    rw [sgE_t hc]
    have := (of_decide_eq_true hc).1
    omega
  | false => rw [sgE_f hc]; exact h1
def rnE (tx : Nat → Int) (ln q : Nat) : Nat := dg tx ln (sk tx ln q)
def rnV (tx : Nat → Int) (ln q : Nat) (hi : Int) : Int := nm tx ln hi (sk tx ln q) 0
def rnO (tx : Nat → Int) (ln q : Nat) (lo hi : Int) : Bool := decide (sk tx ln q < rnE tx ln q ∧ ¬ (sk tx ln q + 1 < rnE tx ln q ∧ tx (sk tx ln q) = 48) ∧ lo ≤ rnV tx ln q hi ∧ rnV tx ln q hi ≤ hi)
theorem rnE_in {tx : Nat → Int} {ln q : Nat} (h : q ≤ ln) : q ≤ rnE tx ln q ∧ rnE tx ln q ≤ ln := by
  have h1 := sk_in (tx := tx) h
  have h2 := dg_in (tx := tx) h1.2
  unfold rnE
  omega
theorem rnV_in {tx : Nat → Int} {ln q : Nat} {hi : Int} (hh : 0 ≤ hi ∧ hi ≤ 20) : 0 ≤ rnV tx ln q hi ∧ rnV tx ln q hi ≤ 300 := nmp_in hh _ _ _ (by decide)
theorem rnO_in {tx : Nat → Int} {ln q : Nat} {lo hi : Int} (h : rnO tx ln q lo hi = true) : lo ≤ rnV tx ln q hi ∧ rnV tx ln q hi ≤ hi := (of_decide_eq_true h).2.2
abbrev txW (Y : Nat → ClassId) (h7 xa : Nat) (tx : Nat → Int) (ln pl : Nat) (su : Bool) (tk : Nat) (nu : Int) : va_W := [(h7, .inr (5, [.ref xa, .int (iZ ((ln : Nat) : Int)), .int (iZ ((pl : Nat) : Int)), .int (iZ (bZ su)), .int (iZ ((tk : Nat) : Int)), .int (iZ nu)])), (xa, .inl (Y 2, 200, .inl (aI tx)))]
/-- what reading an item leaves: whether it stands, place, token's place, number, whether the sun is told, the commune -/
abbrev tR : Type := Bool × Nat × Nat × Int × Bool × Kom
abbrev txR (Y : Nat → ClassId) (h7 xa : Nat) (tx : Nat → Int) (ln : Nat) (h : Nat) (ad : Nat → Nat) (r : tR) : va_W := txW Y h7 xa tx ln r.2.1 r.2.2.2.2.1 r.2.2.1 r.2.2.2.1 ++ cmW Y h ad r.2.2.2.2.2
def tLand (tx : Nat → Int) (ln q : Nat) (su : Bool) (K : Kom) : tR :=
  bif rnO tx ln q 2 5 then
    bif rnO tx ln (rnE tx ln q) 2 4 then (true, rnE tx ln (rnE tx ln q), sk tx ln (rnE tx ln q), rnV tx ln (rnE tx ln q) 4, su, kS (kS K 0 0 (rnV tx ln q 5)) 0 1 (rnV tx ln (rnE tx ln q) 4))
    else (false, rnE tx ln (rnE tx ln q), sk tx ln (rnE tx ln q), rnV tx ln (rnE tx ln q) 4, su, kS K 0 0 (rnV tx ln q 5))
  else (false, rnE tx ln q, sk tx ln q, rnV tx ln q 5, su, K)
def tTree (tx : Nat → Int) (ln q : Nat) (su : Bool) (K : Kom) : tR :=
  bif rnO tx ln q 0 (K 0 0 * K 0 1 - 1) then
    bif htA K (rnV tx ln q (K 0 0 * K 0 1 - 1)) (K 0 2).toNat then (false, rnE tx ln q, sk tx ln q, rnV tx ln q (K 0 0 * K 0 1 - 1), su, K)
    else bif rnO tx ln (rnE tx ln q) 0 20 then
      bif rnO tx ln (rnE tx ln (rnE tx ln q)) 0 1 then
        bif rnO tx ln (rnE tx ln (rnE tx ln (rnE tx ln q))) 0 7 then (true, rnE tx ln (rnE tx ln (rnE tx ln (rnE tx ln q))), sk tx ln (rnE tx ln (rnE tx ln (rnE tx ln q))), rnV tx ln (rnE tx ln (rnE tx ln (rnE tx ln q))) 7, su, adT K (rnV tx ln q (K 0 0 * K 0 1 - 1)) (rnV tx ln (rnE tx ln q) 20) (rnV tx ln (rnE tx ln (rnE tx ln q)) 1) (rnV tx ln (rnE tx ln (rnE tx ln (rnE tx ln q))) 7))
        else (false, rnE tx ln (rnE tx ln (rnE tx ln (rnE tx ln q))), sk tx ln (rnE tx ln (rnE tx ln (rnE tx ln q))), rnV tx ln (rnE tx ln (rnE tx ln (rnE tx ln q))) 7, su, K)
      else (false, rnE tx ln (rnE tx ln (rnE tx ln q)), sk tx ln (rnE tx ln (rnE tx ln q)), rnV tx ln (rnE tx ln (rnE tx ln q)) 1, su, K)
    else (false, rnE tx ln (rnE tx ln q), sk tx ln (rnE tx ln q), rnV tx ln (rnE tx ln q) 20, su, K)
  else (false, rnE tx ln q, sk tx ln q, rnV tx ln q (K 0 0 * K 0 1 - 1), su, K)
def tPers (tx : Nat → Int) (ln q : Nat) (su : Bool) (K : Kom) : tR :=
  bif rnO tx ln q 0 (K 0 0 * K 0 1 - 1) then
    bif rnO tx ln (rnE tx ln q) 1 4 then (true, rnE tx ln (rnE tx ln q), sk tx ln (rnE tx ln q), rnV tx ln (rnE tx ln q) 4, su, adP K (rnV tx ln q (K 0 0 * K 0 1 - 1)) (rnV tx ln (rnE tx ln q) 4))
    else (false, rnE tx ln (rnE tx ln q), sk tx ln (rnE tx ln q), rnV tx ln (rnE tx ln q) 4, su, K)
  else (false, rnE tx ln q, sk tx ln q, rnV tx ln q (K 0 0 * K 0 1 - 1), su, K)
def tSun (tx : Nat → Int) (ln q : Nat) (su : Bool) (K : Kom) : tR :=
  bif rnO tx ln q 1 9 then (true, rnE tx ln q, sk tx ln q, rnV tx ln q 9, true, kS K 0 4 (rnV tx ln q 9))
  else (false, rnE tx ln q, sk tx ln q, rnV tx ln q 9, su, K)
def tItem (tx : Nat → Int) (ln q : Nat) (su : Bool) (nu : Int) (K : Kom) (fi : Bool) : tR :=
  bif sgO tx ln q 103 then
    bif fi then tLand tx ln (sgE tx ln q 103) su K else (false, sgE tx ln q 103, sk tx ln q, nu, su, K)
  else bif sgO tx ln (sgE tx ln q 103) 116 then
    bif decide (K 0 2 < 5) then tTree tx ln (sgE tx ln (sgE tx ln q 103) 116) su K else (false, sgE tx ln (sgE tx ln q 103) 116, sk tx ln (sgE tx ln q 103), nu, su, K)
  else bif sgO tx ln (sgE tx ln (sgE tx ln q 103) 116) 112 then
    bif decide (K 0 3 < 7) then tPers tx ln (sgE tx ln (sgE tx ln (sgE tx ln q 103) 116) 112) su K else (false, sgE tx ln (sgE tx ln (sgE tx ln q 103) 116) 112, sk tx ln (sgE tx ln (sgE tx ln q 103) 116), nu, su, K)
  else bif sgO tx ln (sgE tx ln (sgE tx ln (sgE tx ln q 103) 116) 112) 115 then
    bif su then (false, sgE tx ln (sgE tx ln (sgE tx ln (sgE tx ln q 103) 116) 112) 115, sk tx ln (sgE tx ln (sgE tx ln (sgE tx ln q 103) 116) 112), nu, su, K)
    else tSun tx ln (sgE tx ln (sgE tx ln (sgE tx ln (sgE tx ln q 103) 116) 112) 115) su K
  else (false, sgE tx ln (sgE tx ln (sgE tx ln (sgE tx ln q 103) 116) 112) 115, sk tx ln (sgE tx ln (sgE tx ln (sgE tx ln q 103) 116) 112), nu, su, K)
/-- reading on, with it items read: what tell() answers, and what it leaves -/
def tlF (tx : Nat → Int) (ln : Nat) : Nat → Nat → Nat → Bool → Nat → Int → Kom → Int × tR
  | 0, _, q, su, tk, nu, K => (-10 - (tk : Int), false, q, tk, nu, su, K)
  | f + 1, it, q, su, _, nu, K =>
    bif decide (ln ≤ sk tx ln q) then ((it : Int), true, sk tx ln q, sk tx ln q, nu, su, K)
    else bif (tItem tx ln (sk tx ln q) su nu K (decide (it = 0))).1 then
      bif sgO tx ln (tItem tx ln (sk tx ln q) su nu K (decide (it = 0))).2.1 59 then
        tlF tx ln f (it + 1) (sgE tx ln (tItem tx ln (sk tx ln q) su nu K (decide (it = 0))).2.1 59) (tItem tx ln (sk tx ln q) su nu K (decide (it = 0))).2.2.2.2.1 (sk tx ln (tItem tx ln (sk tx ln q) su nu K (decide (it = 0))).2.1) (tItem tx ln (sk tx ln q) su nu K (decide (it = 0))).2.2.2.1 (tItem tx ln (sk tx ln q) su nu K (decide (it = 0))).2.2.2.2.2
      else (-10 - ((sk tx ln (tItem tx ln (sk tx ln q) su nu K (decide (it = 0))).2.1 : Nat) : Int), false, sgE tx ln (tItem tx ln (sk tx ln q) su nu K (decide (it = 0))).2.1 59, sk tx ln (tItem tx ln (sk tx ln q) su nu K (decide (it = 0))).2.1, (tItem tx ln (sk tx ln q) su nu K (decide (it = 0))).2.2.2)
    else (-10 - (((tItem tx ln (sk tx ln q) su nu K (decide (it = 0))).2.2.1 : Nat) : Int), tItem tx ln (sk tx ln q) su nu K (decide (it = 0)))
section ZH
variable {p : Program} {l : Launch} {e : Env} {R : Room} {s : State} {m : MethodId} {args : Array Value} {below : List Frame} {meth : Method} {c : Code} {H : Heap} {locs : List Loc} {cells slots : Nat} {Q : State → Prop}
variable {cc : ByteArray} {pc : Nat} {ls : Array Slot} {rest : List Value} {D : va_G} {cl : List vw_C} {A : Nat → Prop} {a : Nat} {tys : List (ClassId × FieldType)} {ws : va_W} {H0 : Heap}
theorem ch_id {v : Int} (hv : 0 ≤ v ∧ v < 65536) : ((iZ v).toUInt32 % 65536).toInt32 = iZ v := by
  obtain ⟨n, rfl⟩ := Int.eq_ofNat_of_zero_le hv.1
  rw [iZ_nat, pk_char, pk_tn (by omega), Nat.mod_eq_of_lt (by omega)]
theorem z_i2c (hx : p.tables.exec = Jvm.exec) (hb : c.code = cc) {v : Int} (hdg : decode cc pc = .ok (.i2c, 1)) (hv : 0 ≤ v ∧ v < 65536) (k : W p l e R s m args below meth c H locs cells slots Q (F0 m (pc + 1) ls (.int (iZ v) :: rest))) : W p l e R s m args below meth c H locs cells slots Q (F0 m pc ls (.int (iZ v) :: rest)) := lv_i2c hx hb hdg (ch_id hv) k
theorem vnar_ch {v : Int} (hv : 0 ≤ v ∧ v < 65536) : vp_nar .char (iZ v) = iZ v := by
  obtain ⟨n, rfl⟩ := Int.eq_ofNat_of_zero_le hv.1
  unfold vp_nar
  rw [iZ_nat, (pk_charN (by omega)).1]
theorem z_cast (hx : p.tables.exec = Jvm.exec) (hb : c.code = cc) (hK : va_K D cl tys s) (hP : va_P D cl ws H) (hD : va_D A ws) (hS : va_S A H0 H locs) (q0 t0 : Nat) {cA : ClassId} {n : Nat} {f : Nat → Int} (ha : ws[q0]? = some (a, .inl (cA, n, .inl (aI f)))) (ht : tys[t0]? = some (cA, .char)) {z v : Int} (i : Nat) (hi : z = (i : Int) ∧ i < n) (hn : n < 2147483648) (hv : 0 ≤ v ∧ v < 65536) (hdg : decode cc pc = .ok (.castore, 1)) (kk : ∀ (H1 : Heap) (locs1 : List Loc), va_P D cl (ws.set q0 (a, .inl (cA, n, .inl (aI (va_up f i v))))) H1 → va_D A (ws.set q0 (a, .inl (cA, n, .inl (aI (va_up f i v))))) → va_S A H0 H1 locs1 → W p l e R s m args below meth c H1 locs1 cells slots Q (F0 m (pc + 1) ls rest)) : W p l e R s m args below meth c H locs cells slots Q (F0 m pc ls (.int (iZ v) :: .int (iZ z) :: .ref a :: rest)) :=
  va_cast hx hb hK hP hD hS q0 t0 ha ht (iZ_in hi.1 hi.2 hn) hdg (by rw [iZ_ix hi.1 (by omega), vnar_ch hv, aI_up]; exact kk)
end ZH
