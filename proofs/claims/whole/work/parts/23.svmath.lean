/-! ===== the whole object: its answers as numbers ===== -/
abbrev svO (_ : Nat → ClassId) (hv h7 h hto h3 h4 h5 h6 im ik : Nat) : va_W := [(hv, .inr (6, [.ref h7, .ref h, .ref hto, .ref h3, .ref h4, .ref h5, .ref h6, .ref im, .ref ik]))]
abbrev opW (Y : Nat → ClassId) (h3 kn : Nat) (hk : Nat → Nat) (nx sz : Int) (ix : Nat) (adk : Nat → Nat) (Kk : Kom) (h : Nat) (ad : Nat → Nat) (K : Kom) (f : Bool) (K' : Kom) : va_W := paW Y h3 kn hk (bif f then (nx + 1) % 10 else nx) (bif f then min (sz + 1) 10 else sz) ++ (cmW Y (hk ix) adk (bif f then K else Kk) ++ cmW Y h ad (bif f then K' else K))
theorem b01_dec {z : Int} (h : 0 ≤ z ∧ z ≤ 1) : z = bZ (decide (z = 1)) := by
  have : z = 0 ∨ z = 1 := by omega
  rcases this with rfl | rfl <;> decide
def rType (ln : Nat) (a : Int) : Int := if 0 ≤ a ∧ a ≤ 255 then (if ln < 200 then (ln : Int) + 1 else -3) else -1
def rTree (K : Kom) (a b : Int) : Int := if 0 ≤ a ∧ a ≤ K 0 2 - 1 then (if b = 0 then K 1 a.toNat else if b = 1 then K 2 a.toNat else if b = 2 then K 4 a.toNat else if b = 3 then K 3 a.toNat else if b = 4 then ((shB K a.toNat (K 0 0 * K 0 1).toNat : Nat) : Int) else if b = 5 then K 5 a.toNat else -1) else -1
def rPers (K : Kom) (a b : Int) : Int := if 0 ≤ a ∧ a ≤ K 0 3 - 1 then (if b = 0 then K 6 a.toNat else if b = 1 then K 7 a.toNat else if b = 2 then ov K (K 6 a.toNat) else -1) else -1
def rMot (K : Kom) (a b : Int) : Int := if 0 ≤ a ∧ a ≤ 2 then (if b = 0 then wb K a.toNat 1 else if b = 1 then wb K a.toNat (-1) else if b = 2 then bZ (crd K a.toNat) else -1) else -1
def rNow (K : Kom) (sz a : Int) : Int := if a = 0 then K 0 5 else if a = 1 then K 0 4 else if a = 2 then K 0 6 else if a = 3 then K 0 2 else if a = 4 then sz else -1
def fMoves (K : Kom) (a b : Int) : Bool := decide ((0 ≤ a ∧ a ≤ K 0 3 - 1) ∧ (0 ≤ b ∧ b ≤ 3) ∧ nbr K (K 6 a.toNat) b ≠ -9)
def kMoves (K : Kom) (a b : Int) : Kom := kS K 6 a.toNat (nbr K (K 6 a.toNat) b)
def rMoves (K : Kom) (a b : Int) : Int := if (0 ≤ a ∧ a ≤ K 0 3 - 1) ∧ 0 ≤ b ∧ b ≤ 3 then (if nbr K (K 6 a.toNat) b = -9 then -2 else nbr K (K 6 a.toNat) b) else -1
def fPrunes (K : Kom) (a b : Int) : Bool := decide ((0 ≤ a ∧ a ≤ K 0 2 - 1) ∧ 1 ≤ b ∧ b ≤ 20)
def rPrunes (K : Kom) (a b : Int) : Int := if (0 ≤ a ∧ a ≤ K 0 2 - 1) ∧ 1 ≤ b ∧ b ≤ 20 then max (K 2 a.toNat - b) 0 else -1
def fGrows (K : Kom) : Bool := decide (K 0 5 < 999)
def kGrows (K : Kom) : Kom := kS (va_up K 2 (grN K (K 0 2).toNat)) 0 5 (K 0 5 + 1)
def rGrows (K : Kom) : Int := if K 0 5 < 999 then K 0 5 + 1 else -2
def fPlants (K : Kom) (a b : Int) : Bool := decide (((0 ≤ a ∧ a ≤ K 0 0 * K 0 1 - 1) ∧ 0 ≤ b ∧ b ≤ 7) ∧ htA K a (K 0 2).toNat = false ∧ K 0 2 < 5)
def rPlants (K : Kom) (a b : Int) : Int := if (0 ≤ a ∧ a ≤ K 0 0 * K 0 1 - 1) ∧ 0 ≤ b ∧ b ≤ 7 then (if htA K a (K 0 2).toNat = true then -2 else if K 0 2 < 5 then K 0 2 else -3) else -1
def fFells (K : Kom) (a : Int) : Bool := decide ((0 ≤ a ∧ a ≤ K 0 2 - 1) ∧ K 5 a.toNat = 0)
def kFells (K : Kom) (a : Int) : Kom := kS (kS K 2 a.toNat 0) 5 a.toNat 1
def rFells (K : Kom) (a : Int) : Int := if 0 ≤ a ∧ a ≤ K 0 2 - 1 then (if K 5 a.toNat = 0 then K 2 a.toNat else -2) else -1
def fWint (a : Int) : Bool := decide (0 ≤ a ∧ a ≤ 1)
def rWint (K : Kom) (a : Int) : Int := if 0 ≤ a ∧ a ≤ 1 then K 0 6 else -1
def fSun (a : Int) : Bool := decide (1 ≤ a ∧ a ≤ 9)
def rSun (K : Kom) (a : Int) : Int := if 1 ≤ a ∧ a ≤ 9 then K 0 4 else -1
def rUndo (sz : Int) : Int := if sz = 0 then -2 else sz - 1
def rMovers (K : Kom) (a b : Int) : Int := if (0 ≤ a ∧ a ≤ 2) ∧ 0 ≤ b ∧ b ≤ 9 then fm K a.toNat b else -1
def rPrune (K : Kom) (a : Int) : Int := if 0 ≤ a ∧ a ≤ 2 then lpr K a.toNat else -1
def rPlant (K : Kom) (a b : Int) : Int := if (0 ≤ a ∧ a ≤ 2) ∧ 1 ≤ b ∧ b ≤ 20 then fnd (ctG K a.toNat b) (K 0 0 * K 0 1).toNat else -1
def rSuns (K : Kom) (a : Int) : Int := if 0 ≤ a ∧ a ≤ 2 then ((snN (snG K a.toNat) 9 : Nat) : Int) else -1
def rHedge (K : Kom) (a : Int) : Int := if 0 ≤ a ∧ a ≤ 2 then hgC K a.toNat else -1
def rShare (K : Kom) (a : Int) : Int := if 0 ≤ a ∧ a ≤ K 0 2 - 1 then 100 * wu K a / wtN K (K 0 2).toNat else -1
def fCnt (a b : Int) : Bool := decide ((0 ≤ a ∧ a ≤ 2) ∧ 0 ≤ b ∧ b ≤ 28)
def rCnt (n a b : Int) : Int := if (0 ≤ a ∧ a ≤ 2) ∧ 0 ≤ b ∧ b ≤ 28 then (if n < 5 then n + 1 else -3) else -1
def gdc (a b : Int) : Int := ((Nat.gcd a.toNat b.toNat : Nat) : Int)
def rOdds (K : Kom) (a b d : Int) : Int := if (0 ≤ a ∧ a ≤ 2) ∧ (0 ≤ b ∧ b ≤ 10) ∧ 0 ≤ d ∧ d ≤ 1 then (if d = 0 then chN (fE K a.toNat) (K 0 3).toNat b (2 ^ (K 0 3).toNat) else 10 ^ (K 0 3).toNat) / gdc (chN (fE K a.toNat) (K 0 3).toNat b (2 ^ (K 0 3).toNat)) (10 ^ (K 0 3).toNat) else -1
def rSway (K : Kom) (a : Int) : Int := if 0 ≤ a ∧ a ≤ 2 then ((swN K a.toNat (K 0 3).toNat : Nat) : Int) else -1
def rCool (K : Kom) (a : Int) : Int := if 0 ≤ a ∧ a ≤ K 0 3 - 1 then (nsS K (K 6 a.toNat) (K 0 0 * K 0 1).toNat).1 else -1
def rDark (K : Kom) (a : Int) : Int := if 0 ≤ a ∧ a ≤ K 0 0 * K 0 1 - 1 then sdN K a (K 0 2).toNat else -1
def rRate (K : Kom) (a b : Int) : Int := if 0 ≤ b ∧ b ≤ K 0 2 - 1 then raR K a b.toNat else -1000000
def tRate (tr : Int64) (K : Kom) (a b : Int) : Int64 := bif decide (0 ≤ b ∧ b ≤ K 0 2 - 1) then raT tr a else tr
def fImg (a : Int) : Bool := decide (0 ≤ a ∧ a ≤ 1)
def rKeep (K : Kom) (a : Int) : Int := if 0 ≤ a ∧ a ≤ 1 then K 0 5 else -1
def fBack (kp : Nat → Int) (a : Int) : Bool := decide ((0 ≤ a ∧ a ≤ 1) ∧ kp a.toNat ≠ 0)
def rBack (kp : Nat → Int) (Ki : Kom) (a : Int) : Int := if 0 ≤ a ∧ a ≤ 1 then (if kp a.toNat = 0 then -2 else Ki 0 5) else -1
def rCount (K : Kom) (n : Int) (ln : Nat) (a : Int) : Int := if a = 0 then K 0 0 else if a = 1 then K 0 1 else if a = 2 then K 0 3 else if a = 3 then n else if a = 4 then (ln : Int) else -1
/-! Euclid -/
theorem gd_step {u v i : Nat} (hu : 0 < u) (h : u * v * 2 ^ i ≤ 2 ^ 62 ∧ u ≤ v) : (v % u) * u * 2 ^ (i + 1) ≤ 2 ^ 62 ∧ v % u ≤ u := by
  have h1 : v % u < u := Nat.mod_lt _ hu
  have h2 : 2 * (v % u) ≤ v := by
    have h3 := Nat.div_add_mod v u
    have h4 : 1 ≤ v / u := (Nat.le_div_iff_mul_le hu).mpr (by omega)
    have h5 : u * 1 ≤ u * (v / u) := Nat.mul_le_mul_left u h4
    omega
  refine ⟨?_, by omega⟩
  calc (v % u) * u * 2 ^ (i + 1) = (2 * (v % u)) * (u * 2 ^ i) := by rw [Nat.pow_succ]; ac_rfl
    _ ≤ v * (u * 2 ^ i) := Nat.mul_le_mul_right _ h2
    _ = u * v * 2 ^ i := by ac_rfl
    _ ≤ 2 ^ 62 := h.1
theorem gd_end {u v i : Nat} (h : u * v * 2 ^ i ≤ 2 ^ 62 ∧ u ≤ v) (hi : 63 ≤ i) : u = 0 := by
  rcases Nat.eq_zero_or_pos u with h0 | h0
  · exact h0
  · exfalso
    have h1 : 1 * 1 ≤ u * v := Nat.mul_le_mul h0 (by omega)
    have h2 : 2 ^ 63 ≤ 2 ^ i := Nat.pow_le_pow_right (by decide) hi
    have h3 : 1 * 2 ^ 63 ≤ u * v * 2 ^ i := Nat.mul_le_mul (by omega) h2
    have h4 : (2 : Nat) ^ 62 < 1 * 2 ^ 63 := by decide
    omega
/-- the invariant of Euclid's steps: i of them were made on (a, b) -/
def gdI (a b i u v : Nat) : Prop := Nat.gcd u v = Nat.gcd a b ∧ v ≤ 2147483647 ∧ ((i = 0 ∧ u = a ∧ v = b) ∨ (0 < i ∧ u * v * 2 ^ (i - 1) ≤ 2 ^ 62 ∧ u ≤ v))
theorem gdI_step {a b i u v : Nat} (ha : a ≤ 2147483647) (hb : b ≤ 2147483647) (h : gdI a b i u v) (hu : 0 < u) : gdI a b (i + 1) (v % u) u := by
  obtain ⟨h1, h2, h3⟩ := h
  have hm : v % u < u := Nat.mod_lt _ hu
  have hg : Nat.gcd (v % u) u = Nat.gcd a b := by rw [← h1, ← Nat.gcd_rec u v]
  refine ⟨hg, ?_, Or.inr ⟨by omega, ?_⟩⟩
  · rcases h3 with ⟨-, rfl, -⟩ | ⟨-, -, h⟩ <;> omega
  · rcases h3 with ⟨rfl, rfl, rfl⟩ | ⟨hi, h4, h5⟩
    · refine ⟨?_, by omega⟩
      show v % u * u * 2 ^ 0 ≤ 2 ^ 62
      have h6 : v % u * u ≤ 2147483647 * 2147483647 := Nat.mul_le_mul (by omega) (by omega)
      have h7 : 2147483647 * 2147483647 ≤ 2 ^ 62 := by decide
      omega
    · have h8 := gd_step hu ⟨h4, h5⟩
      rw [show i - 1 + 1 = i + 1 - 1 by omega] at h8
      exact h8
theorem gdI_end {a b i u v : Nat} (h : gdI a b i u v) (he : 64 ≤ i ∨ u = 0) : Nat.gcd a b = v := by
  obtain ⟨h1, h2, h3⟩ := h
  have hu : u = 0 := by
    rcases he with he | he
    · rcases h3 with ⟨h, -⟩ | ⟨-, h⟩
      · omega
      · exact gd_end h (by omega)
    · exact he
  rw [← h1, hu, Nat.gcd_zero_left]
/-! odds are no more than all -/
theorem tm_in {n x : Nat} {q : Int} (hq : 0 ≤ q ∧ q ≤ 10) (hn : n ≤ 7) (hx : x ≤ n) : 0 ≤ q ^ x * (10 - q) ^ (n - x) ∧ q ^ x * (10 - q) ^ (n - x) ≤ 10000000 := by
  have e : ∀ (y : Int) (k : Nat), 0 ≤ y ∧ y ≤ 10 → 0 ≤ y ^ k ∧ y ^ k ≤ 10 ^ k := by
    intro y k hy
    induction k with
    | zero => simp
    | succ k ih =>
      rw [Int.pow_succ, Int.pow_succ]
      exact ⟨Int.mul_nonneg ih.1 hy.1, Int.mul_le_mul ih.2 hy.2 hy.1 (Int.le_trans ih.1 ih.2)⟩
  have h1 := e q x hq
  have h2 := e (10 - q) (n - x) (by omega)
  refine ⟨Int.mul_nonneg h1.1 h2.1, ?_⟩
  refine Int.le_trans (Int.mul_le_mul h1.2 h2.2 h2.1 (Int.le_trans h1.1 h1.2)) ?_
  rw [← Int.pow_add, show x + (n - x) = n by omega]
  have h3 : ∀ k, k ≤ 7 → (10 : Int) ^ k ≤ 10000000 := by decide
  exact h3 n hn
theorem chN_in {Cf : Nat → Int} {n : Nat} {q : Int} (hq : 0 ≤ q ∧ q ≤ 10) (hn : n ≤ 7) (ch : Nat) (hc : ch ≤ 2 ^ n) : 0 ≤ chN Cf n q ch ∧ chN Cf n q ch ≤ 10000000 * ch := by
  induction ch with
  | zero => simp [chN]
  | succ ch ih =>
    have h1 := ih (by omega)
    have h2 := tm_in (x := pcN ch 7) hq hn (pcN_n n hn ch (by omega))
    simp only [chN]
    split <;> omega
theorem ten_in : ∀ k, k ≤ 7 → 1 ≤ (10 : Int) ^ k ∧ (10 : Int) ^ k ≤ 10000000 := by decide
theorem gdc_in {a b : Int} (ha : 0 ≤ a ∧ a ≤ 2147483647) (hb : 1 ≤ b ∧ b ≤ 2147483647) : 0 ≤ gdc a b ∧ gdc a b ≤ 2147483647 := by
  unfold gdc
  have h1 : Nat.gcd a.toNat b.toNat ≤ b.toNat := Nat.gcd_le_right _ (by omega)
  omega
theorem gdI_u {a b i u v : Nat} (h : gdI a b i u v) (ha : a ≤ 2147483647) : u ≤ 2147483647 := by
  obtain ⟨-, h2, ⟨-, rfl, -⟩ | ⟨-, -, h3⟩⟩ := h <;> omega
def kpN (kp : Nat → Int) : Nat → Nat → Int
  | 0 => kp
  | i + 1 => va_up (kpN kp i) i 0
abbrev ikW (Y : Nat → ClassId) (ik : Nat) (kp : Nat → Int) : va_W := [(ik, .inl (Y 1, 2, .inl (aI kp)))]
abbrev imW (Y : Nat → ClassId) (im : Nat) (hi : Nat → Nat) : va_W := [(im, .inl (Y 3, 2, .inr (.inr (.inr (.inr (aR hi))))))]
theorem tItem_tk {tx : Nat → Int} {ln q : Nat} {su : Bool} {nu : Int} {K : Kom} {fi : Bool} (hq : q ≤ ln) : (tItem tx ln q su nu K fi).2.2.1 ≤ ln := by
  have h0 := sk_in (tx := tx) hq
  have h1 := sgE_in (tx := tx) 103 hq
  have h2 := sgE_in (tx := tx) 116 h1.2
  have h3 := sgE_in (tx := tx) 112 h2.2
  have h4 := sgE_in (tx := tx) 115 h3.2
  have s1 := sk_in (tx := tx) h1.2
  have s2 := sk_in (tx := tx) h2.2
  have s3 := sk_in (tx := tx) h3.2
  have s4 := sk_in (tx := tx) h4.2
  have r1 : ∀ x, x ≤ ln → sk tx ln x ≤ ln := fun x hx => (sk_in hx).2
  have r2 : ∀ x, x ≤ ln → rnE tx ln x ≤ ln := fun x hx => (rnE_in hx).2
  unfold tItem
  cases c1 : sgO tx ln q 103 with
  | true =>
    cases c2 : fi with
    | true =>
      show (tLand tx ln (sgE tx ln q 103) su K).2.2.1 ≤ ln
      unfold tLand
      cases rnO tx ln (sgE tx ln q 103) 2 5 with
      | false => exact s1.2
      | true => cases rnO tx ln (rnE tx ln (sgE tx ln q 103)) 2 4 <;> exact r1 _ (r2 _ h1.2)
    | false => exact h0.2
  | false =>
    cases c2 : sgO tx ln (sgE tx ln q 103) 116 with
    | true =>
      by_cases c3 : K 0 2 < 5
      · rw [decide_eq_true c3]
        show (tTree tx ln (sgE tx ln (sgE tx ln q 103) 116) su K).2.2.1 ≤ ln
        unfold tTree
        generalize sgE tx ln (sgE tx ln q 103) 116 = x at h2 s2
        cases rnO tx ln x 0 (K 0 0 * K 0 1 - 1) with
        | false => exact s2.2
        | true =>
          cases htA K (rnV tx ln x (K 0 0 * K 0 1 - 1)) (K 0 2).toNat with
          | true => exact s2.2
          | false =>
            cases rnO tx ln (rnE tx ln x) 0 20 with
            | false => exact r1 _ (r2 _ h2.2)
            | true =>
              cases rnO tx ln (rnE tx ln (rnE tx ln x)) 0 1 with
              | false => exact r1 _ (r2 _ (r2 _ h2.2))
              | true => cases rnO tx ln (rnE tx ln (rnE tx ln (rnE tx ln x))) 0 7 <;> exact r1 _ (r2 _ (r2 _ (r2 _ h2.2)))
      · rw [decide_eq_false c3]
        exact s1.2
    | false =>
      cases c3 : sgO tx ln (sgE tx ln (sgE tx ln q 103) 116) 112 with
      | true =>
        by_cases c4 : K 0 3 < 7
        · rw [decide_eq_true c4]
          show (tPers tx ln (sgE tx ln (sgE tx ln (sgE tx ln q 103) 116) 112) su K).2.2.1 ≤ ln
          unfold tPers
          generalize sgE tx ln (sgE tx ln (sgE tx ln q 103) 116) 112 = x at h3 s3
          cases rnO tx ln x 0 (K 0 0 * K 0 1 - 1) with
          | false => exact s3.2
          | true => cases rnO tx ln (rnE tx ln x) 1 4 <;> exact r1 _ (r2 _ h3.2)
        · rw [decide_eq_false c4]
          exact s2.2
      | false =>
        cases c4 : sgO tx ln (sgE tx ln (sgE tx ln (sgE tx ln q 103) 116) 112) 115 with
        | true =>
          cases c5 : su with
          | true => exact s3.2
          | false =>
            show (tSun tx ln (sgE tx ln (sgE tx ln (sgE tx ln (sgE tx ln q 103) 116) 112) 115) false K).2.2.1 ≤ ln
            unfold tSun
            cases rnO tx ln (sgE tx ln (sgE tx ln (sgE tx ln (sgE tx ln q 103) 116) 112) 115) 1 9 <;> exact s4.2
        | false => exact s3.2
def tlOk (ln : Nat) (n : Int) (r : Int × tR) : Prop := aWF r.2.2.2.2.2.2 ∧ r.2.2.2.1 ≤ 200 ∧ -300 ≤ r.1 ∧ r.1 ≤ n ∧ (0 ≤ r.1 → cWF r.2.2.2.2.2.2 ∧ r.2.2.2.2.2.2 0 2 ≤ 5 ∧ r.2.2.2.2.2.2 0 3 ≤ 7)
theorem tlF_fit {tx : Nat → Int} {ln : Nat} (hln : ln ≤ 200) : ∀ (f it q : Nat) (su : Bool) (tk : Nat) (nu : Int) (K : Kom), q ≤ ln → tk ≤ 200 → cWF K → K 0 2 ≤ 5 → K 0 3 ≤ 7 → (it = 0 → K 0 2 = 0 ∧ K 0 3 = 0) → tlOk ln ((it : Int) + f) (tlF tx ln f it q su tk nu K) := by
  intro f
  induction f with
  | zero =>
    intro it q su tk nu K hq htk hW h5 h7 hz
    rw [tlF_0]
    refine ⟨hW.a, htk, ?_, ?_, fun h => ?_⟩
    · show (-300 : Int) ≤ -10 - (tk : Int); omega
    · show -10 - (tk : Int) ≤ (it : Int) + ((0 : Nat) : Int); omega
    · have h9 : (0 : Int) ≤ -10 - (tk : Int) := h
      omega
  | succ f ih =>
    intro it q su tk nu K hq htk hW h5 h7 hz
    have hs := sk_in (tx := tx) hq
    by_cases hend : ln ≤ sk tx ln q
    · rw [tlF_end hend]
      refine ⟨hW.a, ?_, ?_, ?_, fun _ => ⟨hW, h5, h7⟩⟩
      · show sk tx ln q ≤ 200; omega
      · show (-300 : Int) ≤ (it : Int); omega
      · show (it : Int) ≤ (it : Int) + ((f + 1 : Nat) : Int); omega
    · have hfit := tItem_fit (tx := tx) (ln := ln) (q := sk tx ln q) (su := su) (nu := nu) (K := K) (fi := decide (it = 0)) hs.2 hW ⟨h5, h7⟩ (fun h => hz (of_decide_eq_true h))
      have htk2 := tItem_tk (tx := tx) (ln := ln) (q := sk tx ln q) (su := su) (nu := nu) (K := K) (fi := decide (it = 0)) hs.2
      cases h1 : (tItem tx ln (sk tx ln q) su nu K (decide (it = 0))).1 with
      | false =>
        rw [tlF_bad (by omega) h1]
        generalize tItem tx ln (sk tx ln q) su nu K (decide (it = 0)) = r at hfit htk2
        refine ⟨hfit.2.1, ?_, ?_, ?_, fun h => ?_⟩
        · show r.2.2.1 ≤ 200; omega
        · show (-300 : Int) ≤ -10 - ((r.2.2.1 : Nat) : Int); omega
        · show -10 - ((r.2.2.1 : Nat) : Int) ≤ (it : Int) + ((f + 1 : Nat) : Int); omega
        · have h9 : (0 : Int) ≤ -10 - ((r.2.2.1 : Nat) : Int) := h
          omega
      | true =>
        generalize hr : tItem tx ln (sk tx ln q) su nu K (decide (it = 0)) = r at hfit htk2 h1
        have hs2 := sk_in (tx := tx) hfit.1
        have hg2 := sgE_in (tx := tx) 59 hfit.1
        cases h2 : sgO tx ln r.2.1 59 with
        | false =>
          rw [tlF_semi (by omega) hr h1 h2]
          refine ⟨hfit.2.1, ?_, ?_, ?_, fun h => ?_⟩
          · show sk tx ln r.2.1 ≤ 200; omega
          · show (-300 : Int) ≤ -10 - ((sk tx ln r.2.1 : Nat) : Int); omega
          · show -10 - ((sk tx ln r.2.1 : Nat) : Int) ≤ (it : Int) + ((f + 1 : Nat) : Int); omega
          · have h9 : (0 : Int) ≤ -10 - ((sk tx ln r.2.1 : Nat) : Int) := h
            omega
        | true =>
          rw [tlF_go (by omega) hr h1 h2]
          have h9 := hfit.2.2 h1
          have := ih (it + 1) (sgE tx ln r.2.1 59) r.2.2.2.2.1 (sk tx ln r.2.1) r.2.2.2.1 r.2.2.2.2.2 hg2.2 (by omega) h9.1 h9.2.1 h9.2.2 (fun h => absurd h (by omega))
          rw [show (((it + 1 : Nat) : Int) + (f : Int)) = (it : Int) + ((f + 1 : Nat) : Int) by omega] at this
          exact this
theorem nbr_in {K : Kom} (hW : cWF K) {c : Int} (hc : 0 ≤ c ∧ c ≤ 19) (w : Int) : -9 ≤ nbr K c w ∧ nbr K c w ≤ 30 := by
  have h0 := hW.1
  have h1 := dm_in (c := c) (w := K 0 0) hc (by omega)
  unfold nbr
  (repeat' split) <;> omega
