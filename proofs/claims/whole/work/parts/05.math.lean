/-! ===== a commune as numbers: K 0 = wide, high, trees, people, sun, day, winter; K 1 .. 5 of trees: cell, height, wants, evergreen, felled; K 6, 7 of people: cell, weight ===== -/
abbrev Kom : Type := Nat → Nat → Int
abbrev cmW (Y : Nat → ClassId) (h : Nat) (ad : Nat → Nat) (K : Kom) : va_W := [(h, .inr (0, [.int (iZ (K 0 0)), .int (iZ (K 0 1)), .int (iZ (K 0 2)), .int (iZ (K 0 3)), .int (iZ (K 0 4)), .int (iZ (K 0 5)), .int (iZ (K 0 6)), .ref (ad 1), .ref (ad 2), .ref (ad 3), .ref (ad 4), .ref (ad 5), .ref (ad 6), .ref (ad 7)])), (ad 1, .inl (Y 0, 6, .inl (aI (K 1)))), (ad 2, .inl (Y 0, 6, .inl (aI (K 2)))), (ad 3, .inl (Y 0, 6, .inl (aI (K 3)))), (ad 4, .inl (Y 1, 6, .inl (aI (K 4)))), (ad 5, .inl (Y 1, 6, .inl (aI (K 5)))), (ad 6, .inl (Y 0, 7, .inl (aI (K 6)))), (ad 7, .inl (Y 0, 7, .inl (aI (K 7))))]
def cWF (K : Kom) : Prop :=
  (2 ≤ K 0 0 ∧ K 0 0 ≤ 5 ∧ 2 ≤ K 0 1 ∧ K 0 1 ≤ 4 ∧ 0 ≤ K 0 2 ∧ K 0 2 ≤ 6 ∧ 0 ≤ K 0 3 ∧ K 0 3 ≤ 7 ∧ 1 ≤ K 0 4 ∧ K 0 4 ≤ 9 ∧ 0 ≤ K 0 5 ∧ K 0 5 ≤ 999 ∧ 0 ≤ K 0 6 ∧ K 0 6 ≤ 1) ∧
  (∀ t : Nat, t < 6 → 0 ≤ K 1 t ∧ K 1 t ≤ 19 ∧ 0 ≤ K 2 t ∧ K 2 t ≤ 20 ∧ 0 ≤ K 3 t ∧ K 3 t ≤ 7 ∧ 0 ≤ K 4 t ∧ K 4 t ≤ 1 ∧ 0 ≤ K 5 t ∧ K 5 t ≤ 1) ∧
  (∀ p : Nat, p < 7 → 0 ≤ K 6 p ∧ K 6 p ≤ 19 ∧ 0 ≤ K 7 p ∧ K 7 p ≤ 4) ∧
  (∀ t : Nat, (t : Int) < K 0 2 → K 1 t < K 0 0 * K 0 1) ∧
  (∀ p : Nat, (p : Int) < K 0 3 → K 6 p < K 0 0 * K 0 1)
theorem wh_in {w h : Int} (hw : 2 ≤ w ∧ w ≤ 5) (hh : 2 ≤ h ∧ h ≤ 4) : 4 ≤ w * h ∧ w * h ≤ 20 ∧ w + w ≤ w * h ∧ h + h ≤ w * h := by
  have h1 : w = 2 ∨ w = 3 ∨ w = 4 ∨ w = 5 := by omega
  have h2 : h = 2 ∨ h = 3 ∨ h = 4 := by omega
  rcases h1 with rfl | rfl | rfl | rfl <;> rcases h2 with rfl | rfl | rfl <;> decide
theorem cWF.nc {K : Kom} (h : cWF K) : 4 ≤ K 0 0 * K 0 1 ∧ K 0 0 * K 0 1 ≤ 20 := by
  obtain ⟨h0, -⟩ := h
  have := wh_in (w := K 0 0) (h := K 0 1) (by omega) (by omega)
  omega
/-- a row and a column of a cell are small -/
theorem dm_in {c w : Int} (hc : 0 ≤ c ∧ c ≤ 19) (hw : 2 ≤ w ∧ w ≤ 5) : 0 ≤ c / w ∧ c / w ≤ 9 ∧ 0 ≤ c % w ∧ c % w < w := by
  have h1 : w = 2 ∨ w = 3 ∨ w = 4 ∨ w = 5 := by omega
  rcases h1 with rfl | rfl | rfl | rfl <;> omega
theorem dv_in {a b : Int} (ha : 0 ≤ a ∧ a ≤ 20) (hb : 1 ≤ b ∧ b ≤ 9) : 0 ≤ a / b ∧ a / b ≤ 20 := by
  have h1 : b = 1 ∨ b = 2 ∨ b = 3 ∨ b = 4 ∨ b = 5 ∨ b = 6 ∨ b = 7 ∨ b = 8 ∨ b = 9 := by omega
  rcases h1 with rfl | rfl | rfl | rfl | rfl | rfl | rfl | rfl | rfl <;> omega
/-- whether tree t shades the cell c -/
def shd (K : Kom) (t : Nat) (c : Int) : Bool := decide (K 2 t ≠ 0 ∧ (K 0 6 = 0 ∨ K 4 t ≠ 0) ∧ c ≤ K 1 t ∧ (K 1 t - c) % K 0 0 = 0 ∧ (K 1 t - c) / K 0 0 ≤ K 2 t / K 0 4)
/-- the cells, of the first n, that t shades, as bits -/
def shB (K : Kom) (t : Nat) : Nat → Nat
  | 0 => 0
  | n + 1 => if shd K t n then shB K t n ||| 2 ^ n else shB K t n
theorem shB_lt (K : Kom) (t n : Nat) : shB K t n < 2 ^ n := by
  induction n with
  | zero => simp [shB]
  | succ n ih =>
    rw [shB]
    have h2 : 2 ^ n < 2 ^ (n + 1) := Nat.pow_lt_pow_right (by decide) (by omega)
    split
    · exact Nat.or_lt_two_pow (by omega) h2
    · omega
def sdN (K : Kom) (c : Int) : Nat → Int
  | 0 => 0
  | t + 1 => sdN K c t + bZ (shd K t c)
theorem sdN_in (K : Kom) (c : Int) (t : Nat) : 0 ≤ sdN K c t ∧ sdN K c t ≤ t := by
  induction t with
  | zero => simp [sdN]
  | succ t ih =>
    have := bZ_in (shd K t c)
    simp only [sdN]
    omega
/-- which tree is over the cell c, and how high it is, among the first trees -/
def ovS (K : Kom) (c : Int) : Nat → Int × Int
  | 0 => (-9, 0)
  | t + 1 => if (ovS K c t).2 < K 2 t ∧ shd K t c = true then ((t : Int), K 2 t) else ovS K c t
theorem ovS_in {K : Kom} (hW : cWF K) (c : Int) (t : Nat) (ht : t ≤ 6) : ((ovS K c t).1 = -9 ∨ (0 ≤ (ovS K c t).1 ∧ (ovS K c t).1 < t)) ∧ 0 ≤ (ovS K c t).2 ∧ (ovS K c t).2 ≤ 20 := by
  induction t with
  | zero => simp [ovS]
  | succ t ih =>
    have h1 := hW.2.1 t (by omega)
    have h2 := ih (by omega)
    simp only [ovS]
    split
    · dsimp only; omega
    · omega
def ov (K : Kom) (c : Int) : Int := (ovS K c (K 0 2).toNat).1
theorem ov_in {K : Kom} (hW : cWF K) (c : Int) : ov K c = -9 ∨ (0 ≤ ov K c ∧ ov K c < K 0 2) := by
  have h0 := hW.1
  have := ovS_in hW c (K 0 2).toNat (by omega)
  unfold ov
  omega
/-- what who is at c says of m -/
def vo (K : Kom) (c : Int) (m : Nat) : Int := if 0 ≤ ov K c then (if (K 3 (ov K c).toNat).toNat.testBit m then 1 else -1) else 0
theorem vo_in (K : Kom) (c : Int) (m : Nat) : -1 ≤ vo K c m ∧ vo K c m ≤ 1 := by
  unfold vo
  split
  · split <;> decide
  · decide
def wbN (K : Kom) (m : Nat) (v : Int) : Nat → Int
  | 0 => 0
  | p + 1 => if vo K (K 6 p) m = v then wbN K m v p + K 7 p else wbN K m v p
theorem wbN_in {K : Kom} (hW : cWF K) (m : Nat) (v : Int) (p : Nat) (hp : p ≤ 7) : 0 ≤ wbN K m v p ∧ wbN K m v p ≤ 4 * p := by
  induction p with
  | zero => simp [wbN]
  | succ p ih =>
    have h1 := hW.2.2.1 p (by omega)
    have h2 := ih (by omega)
    simp only [wbN]
    split <;> omega
def wb (K : Kom) (m : Nat) (v : Int) : Int := wbN K m v (K 0 3).toNat
theorem wb_in {K : Kom} (hW : cWF K) (m : Nat) (v : Int) : 0 ≤ wb K m v ∧ wb K m v ≤ 28 := by
  have h0 := hW.1
  have := wbN_in hW m v (K 0 3).toNat (by omega)
  unfold wb
  omega
def vt (K : Kom) (p m : Nat) : Int := vo K (K 6 p) m * K 7 p
theorem vt_in {K : Kom} (hW : cWF K) (p m : Nat) (hp : p < 7) : -4 ≤ vt K p m ∧ vt K p m ≤ 4 := by
  have h1 := hW.2.2.1 p hp
  have h2 := vo_in K (K 6 p) m
  unfold vt
  have h3 : vo K (K 6 p) m = -1 ∨ vo K (K 6 p) m = 0 ∨ vo K (K 6 p) m = 1 := by omega
  rcases h3 with h | h | h <;> rw [h] <;> omega
def cdW (K : Kom) (m : Nat) (a b : Int) : Nat → Int
  | 0 => 0
  | p + 1 => if a ≤ K 6 p % K 0 0 ∧ K 6 p % K 0 0 ≤ b then cdW K m a b p + vt K p m else cdW K m a b p
theorem cdW_in {K : Kom} (hW : cWF K) (m : Nat) (a b : Int) (p : Nat) (hp : p ≤ 7) : -4 * p ≤ cdW K m a b p ∧ cdW K m a b p ≤ 4 * p := by
  induction p with
  | zero => simp [cdW]
  | succ p ih =>
    have h1 := vt_in hW p m (by omega)
    have h2 := ih (by omega)
    simp only [cdW]
    split <;> omega
def crd (K : Kom) (m : Nat) : Bool := decide (wb K m (-1) < wb K m 1)
def wuN (K : Kom) (t : Int) : Nat → Int
  | 0 => 0
  | p + 1 => if ov K (K 6 p) = t then wuN K t p + K 7 p else wuN K t p
theorem wuN_in {K : Kom} (hW : cWF K) (t : Int) (p : Nat) (hp : p ≤ 7) : 0 ≤ wuN K t p ∧ wuN K t p ≤ 4 * p := by
  induction p with
  | zero => simp [wuN]
  | succ p ih =>
    have h1 := hW.2.2.1 p (by omega)
    have h2 := ih (by omega)
    simp only [wuN]
    split <;> omega
def wu (K : Kom) (t : Int) : Int := wuN K t (K 0 3).toNat
theorem wu_in {K : Kom} (hW : cWF K) (t : Int) : 0 ≤ wu K t ∧ wu K t ≤ 28 := by
  have h0 := hW.1
  have := wuN_in hW t (K 0 3).toNat (by omega)
  unfold wu
  omega
def wtN (K : Kom) : Nat → Int
  | 0 => 0
  | t + 1 => wtN K t + wu K t
theorem wtN_in {K : Kom} (hW : cWF K) (t : Nat) : 0 ≤ wtN K t ∧ wtN K t ≤ 28 * t := by
  induction t with
  | zero => simp [wtN]
  | succ t ih =>
    have h1 := wu_in hW t
    simp only [wtN]
    omega
def htA (K : Kom) (c : Int) : Nat → Bool
  | 0 => false
  | t + 1 => htA K c t || decide (K 1 t = c)
def stp (K : Kom) (a b : Int) : Int := zabs (a / K 0 0 - b / K 0 0) + zabs (a % K 0 0 - b % K 0 0)
theorem stp_in {K : Kom} (hW : cWF K) {a b : Int} (ha : 0 ≤ a ∧ a ≤ 19) (hb : 0 ≤ b ∧ b ≤ 19) : 0 ≤ stp K a b ∧ stp K a b ≤ 100 := by
  have h0 := hW.1
  have h1 := dm_in (w := K 0 0) ha (by omega)
  have h2 := dm_in (w := K 0 0) hb (by omega)
  have h3 := zabs_ge (a / K 0 0 - b / K 0 0)
  have h4 := zabs_ge (a % K 0 0 - b % K 0 0)
  unfold stp
  omega
/-- the cell that is next, or -9 -/
def nbr (K : Kom) (c w : Int) : Int :=
  if w = 0 then (if 0 < c / K 0 0 then c - K 0 0 else -9) else if w = 1 then (if c % K 0 0 < K 0 0 - 1 then c + 1 else -9) else if w = 2 then (if c / K 0 0 < K 0 1 - 1 then c + K 0 0 else -9) else if w = 3 then (if 0 < c % K 0 0 then c - 1 else -9) else -9
theorem htA_mono (K : Kom) (a : Int) {t n : Nat} (h : t < n) (e : K 1 t = a) : htA K a n = true := by
  induction n with
  | zero => omega
  | succ n ih =>
    rw [htA]
    by_cases q : t = n
    · subst q
      rw [decide_eq_true e, Bool.or_true]
    · rw [ih (by omega), Bool.true_or]
theorem ovS_t {K : Kom} {a : Int} {t : Nat} (h1 : (ovS K a t).2 < K 2 t) (h2 : shd K t a = true) : ovS K a (t + 1) = ((t : Int), K 2 t) := by rw [ovS, if_pos ⟨h1, h2⟩]
theorem ovS_f1 {K : Kom} {a : Int} {t : Nat} (h1 : K 2 t ≤ (ovS K a t).2) : ovS K a (t + 1) = ovS K a t := by rw [ovS, if_neg (fun h => absurd h.1 (by omega))]
theorem ovS_f2 {K : Kom} {a : Int} {t : Nat} (h2 : shd K t a = false) : ovS K a (t + 1) = ovS K a t := by rw [ovS, if_neg (fun h => by rw [h2] at h; exact Bool.noConfusion h.2)]
