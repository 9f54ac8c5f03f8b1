/-! ===== the reference's plant: cells from the last to the first ===== -/
def fb (g : Nat → Bool) : Nat → Int → Int
  | 0, fd => fd
  | k + 1, fd => fb g k (if g k then (k : Int) else fd)
theorem fb_eq (g : Nat → Bool) (n : Nat) (fd : Int) : fb g n fd = if 0 ≤ fnd g n then fnd g n else fd := by
  induction n generalizing fd with
  | zero => rfl
  | succ n ih =>
    rw [fb, ih, fnd]
    by_cases h : 0 ≤ fnd g n
    · rw [if_pos h, if_pos h, if_pos h]
    · rw [if_neg h, if_neg h]
      by_cases q : g n = true
      · rw [if_pos q, if_pos q, if_pos (by omega)]
      · rw [if_neg q, if_neg q, if_neg (by omega)]
theorem fb_fnd (g : Nat → Bool) (n : Nat) : fb g n (-9) = fnd g n := by
  rw [fb_eq]
  have := fnd_in g n
  split <;> omega
theorem more_b {F : Nat → Int} {A : Kom} {S : Nat → Int} (hm : 0 ≤ F 26) (mo : Nat) : 0 < blN (kM F A S) mo (2 ^ (F 15).toNat - 1) (F 15).toNat ↔ crd (adT (kF F A S) (F 26) (F 27) 1 (F 28)) mo = true := by
  rw [kM_yes hm, bl_crd]
  exact decide_eq_true_iff.symm
def fPl (a b : Int) : Bool := decide ((0 ≤ a ∧ a ≤ 2) ∧ 1 ≤ b ∧ b ≤ 20)
/-! ===== the reference's reader ===== -/
/-- the number of the digits from s to e -/
def nvF (tx : Nat → Int) (s e : Nat) : Int := if e ≤ s then 0 else if e = s + 1 then tx s - 48 else if e = s + 2 then 10 * (tx s - 48) + tx (s + 1) - 48 else 100
theorem nvF_0 (tx : Nat → Int) (s : Nat) : nvF tx s s = 0 := if_pos (Nat.le_refl s)
theorem nvF_s {tx : Nat → Int} {s e : Nat} (h : s ≤ e) (h2 : e < s + 2) : nvF tx s (e + 1) = 10 * nvF tx s e + tx e - 48 := by
  unfold nvF
  by_cases q : e = s
  · subst q
    rw [if_neg (by omega), if_pos rfl, if_pos (Nat.le_refl e)]
    omega
  · have q2 : e = s + 1 := by omega
    subst q2
    rw [if_neg (by omega), if_neg (by omega), if_pos rfl, if_neg (by omega), if_pos rfl]
theorem nvF_b {tx : Nat → Int} {s e : Nat} (h2 : s + 2 ≤ e) : nvF tx s (e + 1) = 100 := by
  unfold nvF
  rw [if_neg (by omega), if_neg (by omega), if_neg (by omega)]
theorem nvF_in {tx : Nat → Int} (hX : tX tx) {s e : Nat} (he : e ≤ 200) : -3000 ≤ nvF tx s e ∧ nvF tx s e ≤ 3000 := by
  unfold nvF
  split
  · omega
  · split
    · have := hX s (by omega)
      omega
    · split
      · have := hX s (by omega)
        have := hX (s + 1) (by omega)
        omega
      · omega
def ntE (tx : Nat → Int) (ln q : Nat) : Nat := if ln ≤ sk tx ln q then sk tx ln q else if isD (tx (sk tx ln q)) then dg tx ln (sk tx ln q) else sk tx ln q + 1
def ntV (tx : Nat → Int) (ln q : Nat) : Int := if ln ≤ sk tx ln q then 0 else if isD (tx (sk tx ln q)) then nvF tx (sk tx ln q) (dg tx ln (sk tx ln q)) else 0
def ntT (tx : Nat → Int) (ln q : Nat) : Int := if ln ≤ sk tx ln q then -2 else if isD (tx (sk tx ln q)) then (if (sk tx ln q + 1 < dg tx ln (sk tx ln q) ∧ tx (sk tx ln q) = 48) ∨ 20 < nvF tx (sk tx ln q) (dg tx ln (sk tx ln q)) then -3 else -1) else tx (sk tx ln q)
theorem ntE_in {tx : Nat → Int} {ln q : Nat} (h : q ≤ ln) : q ≤ ntE tx ln q ∧ ntE tx ln q ≤ ln := by
  have h1 := sk_in (tx := tx) h
  have h2 := dg_in (tx := tx) h1.2
  unfold ntE
  split
  · exact h1
  · split <;> omega
theorem ntV_in {tx : Nat → Int} (hX : tX tx) {ln q : Nat} (h : q ≤ ln) (hl : ln ≤ 200) : -3000 ≤ ntV tx ln q ∧ ntV tx ln q ≤ 3000 := by
  have h1 := sk_in (tx := tx) h
  have h2 := dg_in (tx := tx) h1.2
  have h3 := nvF_in hX (s := sk tx ln q) (e := dg tx ln (sk tx ln q)) (by omega)
  unfold ntV
  split
  · omega
  · split <;> omega
theorem ntT_in {tx : Nat → Int} (hX : tX tx) {ln q : Nat} (hl : ln ≤ 200) : -3 ≤ ntT tx ln q ∧ ntT tx ln q ≤ 255 := by
  unfold ntT
  split
  · omega
  · have := hX (sk tx ln q) (by omega)
    split
    · split <;> omega
    · omega
def isn (tx : Nat → Int) (ln q : Nat) (lo hi : Int) : Bool := decide (ntT tx ln q = -1 ∧ lo ≤ ntV tx ln q ∧ ntV tx ln q ≤ hi)
def ise (tx : Nat → Int) (ln q : Nat) : Bool := decide (ntT tx ln q = 59)
/-- what reading leaves: whether it stands, where the last token began to be looked for, the sun told, wide, high, people, weights, the row -/
abbrev rR : Type := Bool × Nat × Bool × Int × Int × Int × (Nat → Int) × (Nat → Int)
abbrev rdW (Y : Nat → ClassId) (g9 : Nat) (af : Nat → Nat) (F : Nat → Int) (A : Kom) (tr : Int64) (ln pl : Nat) (tk to nu : Int) (it : Nat) (su : Bool) (w h n : Int) (RW S : Nat → Int) : va_W := moW Y g9 af (flds ((ln : Nat) : Int) ((pl : Nat) : Int) tk to nu ((it : Nat) : Int) (bZ su) w h n (F 13) (F 14) (F 15) (F 22) (F 23) (F 26) (F 27) (F 28)) (arrs (A 1) RW S (A 16) (A 17) (A 18) (A 19) (A 20) (A 21) (A 24)) tr
abbrev rdQ (Y : Nat → ClassId) (g9 : Nat) (af : Nat → Nat) (F : Nat → Int) (A : Kom) (tr : Int64) (ln q it : Nat) (su : Bool) (w h n : Int) (RW S : Nat → Int) : va_W := rdW Y g9 af F A tr ln (ntE (A 1) ln q) ((sk (A 1) ln q : Nat) : Int) (ntT (A 1) ln q) (ntV (A 1) ln q) it su w h n RW S
abbrev rdR (Y : Nat → ClassId) (g9 : Nat) (af : Nat → Nat) (F : Nat → Int) (A : Kom) (tr : Int64) (ln it : Nat) (r : rR) : va_W := rdQ Y g9 af F A tr ln r.2.1 it r.2.2.1 r.2.2.2.1 r.2.2.2.2.1 r.2.2.2.2.2.1 r.2.2.2.2.2.2.1 r.2.2.2.2.2.2.2
def xLand (tx : Nat → Int) (ln q : Nat) (su : Bool) (w h n : Int) (RW S : Nat → Int) : rR :=
  bif isn tx ln (ntE tx ln q) 2 5 then
    bif isn tx ln (ntE tx ln (ntE tx ln q)) 2 4 then (ise tx ln (ntE tx ln (ntE tx ln (ntE tx ln q))), ntE tx ln (ntE tx ln (ntE tx ln q)), su, ntV tx ln (ntE tx ln q), ntV tx ln (ntE tx ln (ntE tx ln q)), n, RW, S)
    else (false, ntE tx ln (ntE tx ln q), su, ntV tx ln (ntE tx ln q), h, n, RW, S)
  else (false, ntE tx ln q, su, w, h, n, RW, S)
def hsA (S : Nat → Int) (c : Int) : Nat → Bool
  | 0 => false
  | t + 1 => hsA S c t || decide (S (4 + t) = c)
theorem hsA_mono (S : Nat → Int) (c : Int) {t n : Nat} (h : t < n) (e : S (4 + t) = c) : hsA S c n = true := by
  induction n with
  | zero => omega
  | succ n ih =>
    rw [hsA]
    by_cases q : t = n
    · subst q
      rw [decide_eq_true e, Bool.or_true]
    · rw [ih (by omega), Bool.true_or]
def tS1 (S : Nat → Int) (a : Int) : Nat → Int := va_up S (4 + S 3).toNat a
def tS2 (S : Nat → Int) (a b : Int) : Nat → Int := va_up (tS1 S a) (9 + S 3).toNat b
def tS3 (S : Nat → Int) (a b d : Int) : Nat → Int := va_up (tS2 S a b) (14 + S 3).toNat d
def tS4 (S : Nat → Int) (a b d e : Int) : Nat → Int := va_up (tS3 S a b d) (19 + S 3).toNat e
def tS5 (S : Nat → Int) (a b d e : Int) : Nat → Int := va_up (tS4 S a b d e) 3 (S 3 + 1)
def xTree (tx : Nat → Int) (ln q : Nat) (su : Bool) (w h n : Int) (RW S : Nat → Int) : rR :=
  bif decide (S 3 = 5) then (false, q, su, w, h, n, RW, S)
  else bif isn tx ln (ntE tx ln q) 0 (w * h - 1) then
    bif hsA S (ntV tx ln (ntE tx ln q)) (S 3).toNat then (false, ntE tx ln q, su, w, h, n, RW, S)
    else bif isn tx ln (ntE tx ln (ntE tx ln q)) 0 20 then
      bif isn tx ln (ntE tx ln (ntE tx ln (ntE tx ln q))) 0 1 then
        bif isn tx ln (ntE tx ln (ntE tx ln (ntE tx ln (ntE tx ln q)))) 0 7 then (ise tx ln (ntE tx ln (ntE tx ln (ntE tx ln (ntE tx ln (ntE tx ln q))))), ntE tx ln (ntE tx ln (ntE tx ln (ntE tx ln (ntE tx ln q)))), su, w, h, n, RW, tS5 S (ntV tx ln (ntE tx ln q)) (ntV tx ln (ntE tx ln (ntE tx ln q))) (ntV tx ln (ntE tx ln (ntE tx ln (ntE tx ln q)))) (ntV tx ln (ntE tx ln (ntE tx ln (ntE tx ln (ntE tx ln q))))))
        else (false, ntE tx ln (ntE tx ln (ntE tx ln (ntE tx ln q))), su, w, h, n, RW, tS3 S (ntV tx ln (ntE tx ln q)) (ntV tx ln (ntE tx ln (ntE tx ln q))) (ntV tx ln (ntE tx ln (ntE tx ln (ntE tx ln q)))))
      else (false, ntE tx ln (ntE tx ln (ntE tx ln q)), su, w, h, n, RW, tS2 S (ntV tx ln (ntE tx ln q)) (ntV tx ln (ntE tx ln (ntE tx ln q))))
    else (false, ntE tx ln (ntE tx ln q), su, w, h, n, RW, tS1 S (ntV tx ln (ntE tx ln q)))
  else (false, ntE tx ln q, su, w, h, n, RW, S)
def pS1 (S : Nat → Int) (n a : Int) : Nat → Int := va_up S (29 + n).toNat a
def xPers (tx : Nat → Int) (ln q : Nat) (su : Bool) (w h n : Int) (RW S : Nat → Int) : rR :=
  bif decide (n = 7) then (false, q, su, w, h, n, RW, S)
  else bif isn tx ln (ntE tx ln q) 0 (w * h - 1) then
    bif isn tx ln (ntE tx ln (ntE tx ln q)) 1 4 then (ise tx ln (ntE tx ln (ntE tx ln (ntE tx ln q))), ntE tx ln (ntE tx ln (ntE tx ln q)), su, w, h, n + 1, va_up RW n.toNat (ntV tx ln (ntE tx ln (ntE tx ln q))), pS1 S n (ntV tx ln (ntE tx ln q)))
    else (false, ntE tx ln (ntE tx ln q), su, w, h, n, RW, pS1 S n (ntV tx ln (ntE tx ln q)))
  else (false, ntE tx ln q, su, w, h, n, RW, S)
def xItem (tx : Nat → Int) (ln q it : Nat) (su : Bool) (w h n : Int) (RW S : Nat → Int) : rR :=
  bif decide (ntT tx ln q = 103 ∧ it = 0) then xLand tx ln q su w h n RW S
  else bif decide (ntT tx ln q = 116) then xTree tx ln q su w h n RW S
  else bif decide (ntT tx ln q = 112) then xPers tx ln q su w h n RW S
  else bif decide (ntT tx ln q = 115) then
    bif su then (false, q, su, w, h, n, RW, S)
    else bif isn tx ln (ntE tx ln q) 1 9 then (ise tx ln (ntE tx ln (ntE tx ln q)), ntE tx ln (ntE tx ln q), true, w, h, n, RW, va_up S 1 (ntV tx ln (ntE tx ln q)))
    else (false, ntE tx ln q, su, w, h, n, RW, S)
  else (false, q, su, w, h, n, RW, S)
abbrev xItR (tx : Nat → Int) (ln it : Nat) (r : rR) : rR := xItem tx ln r.2.1 it r.2.2.1 r.2.2.2.1 r.2.2.2.2.1 r.2.2.2.2.2.1 r.2.2.2.2.2.2.1 r.2.2.2.2.2.2.2
/-- reading on, with it items read -/
def xRd (tx : Nat → Int) (ln : Nat) : Nat → Nat → rR → Nat × rR
  | 0, it, r => (it, false, r.2)
  | f + 1, it, r =>
    bif decide (ntT tx ln r.2.1 = -2) then (it, true, r.2)
    else bif (xItR tx ln it r).1 then xRd tx ln f (it + 1) (true, ntE tx ln (xItR tx ln it r).2.1, (xItR tx ln it r).2.2)
    else (it, xItR tx ln it r)
theorem xRd_end {tx : Nat → Int} {ln f it : Nat} {r : rR} (h : ntT tx ln r.2.1 = -2) : xRd tx ln (f + 1) it r = (it, true, r.2) := by rw [xRd, decide_eq_true h]; rfl
theorem xRd_bad {tx : Nat → Int} {ln f it : Nat} {r : rR} (h : ntT tx ln r.2.1 ≠ -2) (h2 : (xItR tx ln it r).1 = false) : xRd tx ln (f + 1) it r = (it, xItR tx ln it r) := by rw [xRd, decide_eq_false h, h2]; rfl
theorem xRd_go {tx : Nat → Int} {ln f it : Nat} {r : rR} (h : ntT tx ln r.2.1 ≠ -2) (h2 : (xItR tx ln it r).1 = true) : xRd tx ln (f + 1) it r = xRd tx ln f (it + 1) (true, ntE tx ln (xItR tx ln it r).2.1, (xItR tx ln it r).2.2) := by rw [xRd, decide_eq_false h, h2]; rfl
/-- what holds of what is being read -/
def rOk (ln : Nat) (r : rR) : Prop := r.2.1 ≤ ln ∧ cWF (kv r.2.2.2.1 r.2.2.2.2.1 r.2.2.2.2.2.1 r.2.2.2.2.2.2.1 r.2.2.2.2.2.2.2) ∧ r.2.2.2.2.2.2.2 3 ≤ 5 ∧ r.2.2.2.2.2.2.2 0 = 0 ∧ r.2.2.2.2.2.2.2 2 = 0 ∧ (∀ t : Nat, t < 5 → r.2.2.2.2.2.2.2 (24 + t) = 0)
theorem rOk_b {ln : Nat} {r : rR} (h : rOk ln r) : (2 ≤ r.2.2.2.1 ∧ r.2.2.2.1 ≤ 5 ∧ 2 ≤ r.2.2.2.2.1 ∧ r.2.2.2.2.1 ≤ 4) ∧ (0 ≤ r.2.2.2.2.2.2.2 3 ∧ r.2.2.2.2.2.2.2 3 ≤ 5) ∧ (0 ≤ r.2.2.2.2.2.1 ∧ r.2.2.2.2.2.1 ≤ 7) ∧ 4 ≤ r.2.2.2.1 * r.2.2.2.2.1 ∧ r.2.2.2.1 * r.2.2.2.2.1 ≤ 20 := by
  have h0 : 2 ≤ r.2.2.2.1 ∧ r.2.2.2.1 ≤ 5 ∧ 2 ≤ r.2.2.2.2.1 ∧ r.2.2.2.2.1 ≤ 4 ∧ 0 ≤ r.2.2.2.2.2.2.2 3 ∧ r.2.2.2.2.2.2.2 3 ≤ 6 ∧ 0 ≤ r.2.2.2.2.2.1 ∧ r.2.2.2.2.2.1 ≤ 7 ∧ _ := h.2.1.1
  have h1 : 4 ≤ r.2.2.2.1 * r.2.2.2.2.1 ∧ r.2.2.2.1 * r.2.2.2.2.1 ≤ 20 := h.2.1.nc
  have h2 := h.2.2.1
  refine ⟨by omega, by omega, by omega, h1⟩
theorem rOk_t {ln : Nat} {r : rR} (h : rOk ln r) (t : Nat) (ht : t < 5) : 0 ≤ r.2.2.2.2.2.2.2 (4 + t) ∧ r.2.2.2.2.2.2.2 (4 + t) ≤ 19 := by
  have h1 := h.2.1.2.1 t (by omega)
  rw [kv_1 ht] at h1
  exact ⟨h1.1, h1.2.1⟩
/-! ===== rows changed, as communes ===== -/
theorem tS5_at {S : Nat → Int} {a b d e : Int} {t : Nat} (h3 : S 3 = (t : Int)) (j : Nat) : tS5 S a b d e j = if j = 3 then S 3 + 1 else if j = 19 + t then e else if j = 14 + t then d else if j = 9 + t then b else if j = 4 + t then a else S j := by
  unfold tS5 tS4 tS3 tS2 tS1
  rw [show (4 + S 3).toNat = 4 + t by omega, show (9 + S 3).toNat = 9 + t by omega, show (14 + S 3).toNat = 14 + t by omega, show (19 + S 3).toNat = 19 + t by omega]
  rfl
theorem KEq.mk0 {K K' : Kom} (h0 : K 0 0 = K' 0 0) (h1 : K 0 1 = K' 0 1) (h2 : K 0 2 = K' 0 2) (h3 : K 0 3 = K' 0 3) (h4 : K 0 4 = K' 0 4) (h5 : K 0 5 = K' 0 5) (h6 : K 0 6 = K' 0 6) : agr (K 0) (K' 0) 7 := by
  intro j hj
  rcases (show j = 0 ∨ j = 1 ∨ j = 2 ∨ j = 3 ∨ j = 4 ∨ j = 5 ∨ j = 6 by omega) with rfl | rfl | rfl | rfl | rfl | rfl | rfl
  · exact h0
  · exact h1
  · exact h2
  · exact h3
  · exact h4
  · exact h5
  · exact h6
theorem kvT {w h n : Int} {RW S : Nat → Int} {a b d e : Int} (h3 : 0 ≤ S 3 ∧ S 3 ≤ 4) (h24 : S (24 + (S 3).toNat) = 0) : KEq (kv w h n RW (tS5 S a b d e)) (adT (kv w h n RW S) a b d e) := by
  obtain ⟨t, ht⟩ := Int.eq_ofNat_of_zero_le h3.1
  have et : (S 3).toNat = t := by omega
  have at9 := fun j => tS5_at (S := S) (a := a) (b := b) (d := d) (e := e) ht j
  rw [et] at h24
  have ek : ∀ (f : Nat → Int) (v : Int) (u : Nat), va_up f (S 3).toNat v u = if u = t then v else f u := fun f v u => by rw [et]; rfl
  refine ⟨KEq.mk0 rfl rfl ?_ rfl ?_ ?_ ?_, fun u hu => ?_, fun u hu => ?_, fun u hu => ?_, fun u hu => ?_, fun u hu => ?_, fun u hu => ?_, fun _ _ => rfl⟩
  · show tS5 S a b d e 3 = S 3 + 1
    rw [at9, if_pos rfl]
  · show tS5 S a b d e 1 = S 1
    rw [at9]; (repeat' split) <;> first | rfl | omega
  · show tS5 S a b d e 0 = S 0
    rw [at9]; (repeat' split) <;> first | rfl | omega
  · show tS5 S a b d e 2 = S 2
    rw [at9]; (repeat' split) <;> first | rfl | omega
  · show (if u < 5 then tS5 S a b d e (4 + u) else 0) = va_up (fun t => if t < 5 then S (4 + t) else 0) (S 3).toNat a u
    rw [at9, ek]; (repeat' split) <;> first | rfl | omega
  · show (if u < 5 then tS5 S a b d e (9 + u) else 0) = va_up (fun t => if t < 5 then S (9 + t) else 0) (S 3).toNat b u
    rw [at9, ek]; (repeat' split) <;> first | rfl | omega
  · show (if u < 5 then tS5 S a b d e (19 + u) else 0) = va_up (fun t => if t < 5 then S (19 + t) else 0) (S 3).toNat e u
    rw [at9, ek]; (repeat' split) <;> first | rfl | omega
  · show (if u < 5 then tS5 S a b d e (14 + u) else 0) = va_up (fun t => if t < 5 then S (14 + t) else 0) (S 3).toNat d u
    rw [at9, ek]; (repeat' split) <;> first | rfl | omega
  · show (if u < 5 then tS5 S a b d e (24 + u) else 0) = va_up (fun t => if t < 5 then S (24 + t) else 0) (S 3).toNat 0 u
    rw [at9, ek]
    by_cases q : u = t
    · subst q
      rw [if_pos rfl]; (repeat' split) <;> first | rfl | omega
    · rw [if_neg q]; (repeat' split) <;> first | rfl | omega
  · show tS5 S a b d e (29 + u) = S (29 + u)
    rw [at9]; (repeat' split) <;> first | rfl | omega
theorem kvP {w h n : Int} {RW S : Nat → Int} {a b : Int} (hn : 0 ≤ n ∧ n ≤ 6) : KEq (kv w h (n + 1) (va_up RW n.toNat b) (pS1 S n a)) (adP (kv w h n RW S) a b) := by
  obtain ⟨i, rfl⟩ := Int.eq_ofNat_of_zero_le hn.1
  have at9 : ∀ j, pS1 S (i : Int) a j = if j = 29 + i then a else S j := fun j => by
    unfold pS1
    rw [show ((29 : Int) + (i : Int)).toNat = 29 + i by omega]
    rfl
  have ek : ∀ (f : Nat → Int) (v : Int) (u : Nat), va_up f ((i : Int)).toNat v u = if u = i then v else f u := fun f v u => rfl
  refine ⟨KEq.mk0 rfl rfl ?_ rfl ?_ ?_ ?_, fun u hu => ?_, fun u hu => ?_, fun u hu => ?_, fun u hu => ?_, fun u hu => ?_, fun u hu => ?_, fun _ _ => rfl⟩
  · show pS1 S (i : Int) a 3 = S 3
    rw [at9, if_neg (by omega)]
  · show pS1 S (i : Int) a 1 = S 1
    rw [at9, if_neg (by omega)]
  · show pS1 S (i : Int) a 0 = S 0
    rw [at9, if_neg (by omega)]
  · show pS1 S (i : Int) a 2 = S 2
    rw [at9, if_neg (by omega)]
  · show (if u < 5 then pS1 S (i : Int) a (4 + u) else 0) = (if u < 5 then S (4 + u) else 0)
    split
    · rw [at9, if_neg (by omega)]
    · rfl
  · show (if u < 5 then pS1 S (i : Int) a (9 + u) else 0) = (if u < 5 then S (9 + u) else 0)
    split
    · rw [at9, if_neg (by omega)]
    · rfl
  · show (if u < 5 then pS1 S (i : Int) a (19 + u) else 0) = (if u < 5 then S (19 + u) else 0)
    split
    · rw [at9, if_neg (by omega)]
    · rfl
  · show (if u < 5 then pS1 S (i : Int) a (14 + u) else 0) = (if u < 5 then S (14 + u) else 0)
    split
    · rw [at9, if_neg (by omega)]
    · rfl
  · show (if u < 5 then pS1 S (i : Int) a (24 + u) else 0) = (if u < 5 then S (24 + u) else 0)
    split
    · rw [at9, if_neg (by omega)]
    · rfl
  · show pS1 S (i : Int) a (29 + u) = va_up (fun t => S (29 + t)) ((i : Int)).toNat a u
    rw [at9, ek]; (repeat' split) <;> first | rfl | omega
theorem kvS {w h n : Int} {RW S : Nat → Int} {v : Int} : KEq (kv w h n RW (va_up S 1 v)) (kS (kv w h n RW S) 0 4 v) := by
  have q : ∀ j : Nat, j ≠ 1 → va_up S 1 v j = S j := fun j hj => up_ne _ _ hj
  refine ⟨KEq.mk0 rfl rfl ?_ rfl ?_ ?_ ?_, fun u hu => ?_, fun u hu => ?_, fun u hu => ?_, fun u hu => ?_, fun u hu => ?_, fun u hu => ?_, fun _ _ => rfl⟩
  · exact q 3 (by decide)
  · exact up_eq _ _ _
  · exact q 0 (by decide)
  · exact q 2 (by decide)
  · show (if u < 5 then va_up S 1 v (4 + u) else 0) = (if u < 5 then S (4 + u) else 0)
    rw [q _ (by omega)]
  · show (if u < 5 then va_up S 1 v (9 + u) else 0) = (if u < 5 then S (9 + u) else 0)
    rw [q _ (by omega)]
  · show (if u < 5 then va_up S 1 v (19 + u) else 0) = (if u < 5 then S (19 + u) else 0)
    rw [q _ (by omega)]
  · show (if u < 5 then va_up S 1 v (14 + u) else 0) = (if u < 5 then S (14 + u) else 0)
    rw [q _ (by omega)]
  · show (if u < 5 then va_up S 1 v (24 + u) else 0) = (if u < 5 then S (24 + u) else 0)
    rw [q _ (by omega)]
  · exact q _ (by omega)
theorem kvL {w h n : Int} {RW S : Nat → Int} {w' h' : Int} : KEq (kv w' h' n RW S) (kS (kS (kv w h n RW S) 0 0 w') 0 1 h') :=
  ⟨KEq.mk0 rfl rfl rfl rfl rfl rfl rfl, fun _ _ => rfl, fun _ _ => rfl, fun _ _ => rfl, fun _ _ => rfl, fun _ _ => rfl, fun _ _ => rfl, fun _ _ => rfl⟩
/-! ===== what is read keeps within its bounds ===== -/
theorem ise_E {tx : Nat → Int} {ln q : Nat} (hq : q ≤ ln) (h : ise tx ln q = true) : q + 1 ≤ ntE tx ln q := by
  have h1 := sk_in (tx := tx) hq
  have h2 : ntT tx ln q = 59 := of_decide_eq_true h
  unfold ntT at h2
  unfold ntE
  split at h2
  · omega
  · rename_i c1
    rw [if_neg c1]
    split at h2
    · split at h2 <;> omega
    · rename_i c2
      rw [if_neg c2]
      omega
def xFt (tx : Nat → Int) (ln q : Nat) (x : rR) : Prop := rOk ln (true, ntE tx ln x.2.1, x.2.2) ∧ q + 1 ≤ ntE tx ln x.2.1
theorem xLand_fit {tx : Nat → Int} {ln q : Nat} {su : Bool} {w h n : Int} {RW S : Nat → Int} (ok : rOk ln (true, q, su, w, h, n, RW, S)) (hz : S 3 = 0 ∧ n = 0) (h2 : (xLand tx ln q su w h n RW S).1 = true) : xFt tx ln q (xLand tx ln q su w h n RW S) := by
  obtain ⟨o1, o2, o3, o4, o5, o6⟩ := ok
  replace o1 : q ≤ ln := o1
  replace o2 : cWF (kv w h n RW S) := o2
  replace o3 : S 3 ≤ 5 := o3
  replace o4 : S 0 = 0 := o4
  replace o5 : S 2 = 0 := o5
  have e1 := ntE_in (tx := tx) o1
  have e2 := ntE_in (tx := tx) e1.2
  have e3 := ntE_in (tx := tx) e2.2
  have e4 := ntE_in (tx := tx) e3.2
  cases c1 : isn tx ln (ntE tx ln q) 2 5 with
  | false => unfold xLand at h2; rw [c1] at h2; exact absurd h2 Bool.false_ne_true
  | true =>
    cases c2 : isn tx ln (ntE tx ln (ntE tx ln q)) 2 4 with
    | false => unfold xLand at h2; rw [c1, c2] at h2; exact absurd h2 Bool.false_ne_true
    | true =>
      have ex : xLand tx ln q su w h n RW S = (ise tx ln (ntE tx ln (ntE tx ln (ntE tx ln q))), ntE tx ln (ntE tx ln (ntE tx ln q)), su, ntV tx ln (ntE tx ln q), ntV tx ln (ntE tx ln (ntE tx ln q)), n, RW, S) := by unfold xLand; simp only [c1, c2, cond_true]
      rw [ex] at h2 ⊢
      have h3 := ise_E e3.2 h2
      have b1 := of_decide_eq_true c1
      have b2 := of_decide_eq_true c2
      refine ⟨⟨e4.2, ?_, o3, o4, o5, o6⟩, ?_⟩
      · exact (kvL (w := w) (h := h)).wf (cWF_land o2 hz (show 2 ≤ ntV tx ln (ntE tx ln q) ∧ ntV tx ln (ntE tx ln q) ≤ 5 by omega) (show 2 ≤ ntV tx ln (ntE tx ln (ntE tx ln q)) ∧ ntV tx ln (ntE tx ln (ntE tx ln q)) ≤ 4 by omega))
      · show q + 1 ≤ ntE tx ln (ntE tx ln (ntE tx ln (ntE tx ln q)))
        omega
theorem xTree_fit {tx : Nat → Int} {ln q : Nat} {su : Bool} {w h n : Int} {RW S : Nat → Int} (ok : rOk ln (true, q, su, w, h, n, RW, S)) (h2 : (xTree tx ln q su w h n RW S).1 = true) : xFt tx ln q (xTree tx ln q su w h n RW S) := by
  have ob := rOk_b ok
  obtain ⟨o1, o2, o3, o4, o5, o6⟩ := ok
  replace o1 : q ≤ ln := o1
  replace o2 : cWF (kv w h n RW S) := o2
  replace o3 : S 3 ≤ 5 := o3
  replace o4 : S 0 = 0 := o4
  replace o5 : S 2 = 0 := o5
  replace o3 : S 3 ≤ 5 := o3
  have ob2 : 0 ≤ S 3 ∧ S 3 ≤ 5 := ob.2.1
  have e1 := ntE_in (tx := tx) o1
  have e2 := ntE_in (tx := tx) e1.2
  have e3 := ntE_in (tx := tx) e2.2
  have e4 := ntE_in (tx := tx) e3.2
  have e5 := ntE_in (tx := tx) e4.2
  have e6 := ntE_in (tx := tx) e5.2
  by_cases c0 : S 3 = 5
  · unfold xTree at h2; rw [decide_eq_true c0] at h2; exact absurd h2 Bool.false_ne_true
  · cases c1 : isn tx ln (ntE tx ln q) 0 (w * h - 1) with
    | false => unfold xTree at h2; rw [decide_eq_false c0, c1] at h2; exact absurd h2 Bool.false_ne_true
    | true =>
      cases c2 : hsA S (ntV tx ln (ntE tx ln q)) (S 3).toNat with
      | true => unfold xTree at h2; rw [decide_eq_false c0, c1, c2] at h2; exact absurd h2 Bool.false_ne_true
      | false =>
        cases c3 : isn tx ln (ntE tx ln (ntE tx ln q)) 0 20 with
        | false => unfold xTree at h2; rw [decide_eq_false c0, c1, c2, c3] at h2; exact absurd h2 Bool.false_ne_true
        | true =>
          cases c4 : isn tx ln (ntE tx ln (ntE tx ln (ntE tx ln q))) 0 1 with
          | false => unfold xTree at h2; rw [decide_eq_false c0, c1, c2, c3, c4] at h2; exact absurd h2 Bool.false_ne_true
          | true =>
            cases c5 : isn tx ln (ntE tx ln (ntE tx ln (ntE tx ln (ntE tx ln q)))) 0 7 with
            | false => unfold xTree at h2; rw [decide_eq_false c0, c1, c2, c3, c4, c5] at h2; exact absurd h2 Bool.false_ne_true
            | true =>
              have ex : xTree tx ln q su w h n RW S = (ise tx ln (ntE tx ln (ntE tx ln (ntE tx ln (ntE tx ln (ntE tx ln q))))), ntE tx ln (ntE tx ln (ntE tx ln (ntE tx ln (ntE tx ln q)))), su, w, h, n, RW, tS5 S (ntV tx ln (ntE tx ln q)) (ntV tx ln (ntE tx ln (ntE tx ln q))) (ntV tx ln (ntE tx ln (ntE tx ln (ntE tx ln q)))) (ntV tx ln (ntE tx ln (ntE tx ln (ntE tx ln (ntE tx ln q)))))) := by unfold xTree; simp only [decide_eq_false c0, c1, c2, c3, c4, c5, cond_true, cond_false]
              rw [ex] at h2 ⊢
              have h3 := ise_E e5.2 h2
              have b1 := of_decide_eq_true c1
              have b2 := of_decide_eq_true c3
              have b3 := of_decide_eq_true c4
              have b4 := of_decide_eq_true c5
              obtain ⟨t, ht⟩ := Int.eq_ofNat_of_zero_le ob2.1
              have at9 := fun j => tS5_at (S := S) (a := ntV tx ln (ntE tx ln q)) (b := ntV tx ln (ntE tx ln (ntE tx ln q))) (d := ntV tx ln (ntE tx ln (ntE tx ln (ntE tx ln q)))) (e := ntV tx ln (ntE tx ln (ntE tx ln (ntE tx ln (ntE tx ln q))))) ht j
              refine ⟨⟨e6.2, ?_, ?_, ?_, ?_, fun u hu => ?_⟩, ?_⟩
              · exact (kvT (w := w) (h := h) (n := n) (RW := RW) (by omega) (o6 (S 3).toNat (by omega))).wf (cWF_adT o2 (show S 3 ≤ 5 by omega) (show 0 ≤ ntV tx ln (ntE tx ln q) ∧ ntV tx ln (ntE tx ln q) < w * h by omega) (by omega) (by omega) (by omega))
              · refine Int.le_trans (Int.le_of_eq ((at9 3).trans (if_pos rfl))) ?_; omega
              · refine (at9 0).trans ?_; rw [if_neg (by omega), if_neg (by omega), if_neg (by omega), if_neg (by omega), if_neg (by omega)]; exact o4
              · refine (at9 2).trans ?_; rw [if_neg (by omega), if_neg (by omega), if_neg (by omega), if_neg (by omega), if_neg (by omega)]; exact o5
              · refine (at9 (24 + u)).trans ?_; rw [if_neg (by omega), if_neg (by omega), if_neg (by omega), if_neg (by omega), if_neg (by omega)]; exact o6 u hu
              · show q + 1 ≤ ntE tx ln (ntE tx ln (ntE tx ln (ntE tx ln (ntE tx ln (ntE tx ln q)))))
                omega
theorem xPers_fit {tx : Nat → Int} {ln q : Nat} {su : Bool} {w h n : Int} {RW S : Nat → Int} (ok : rOk ln (true, q, su, w, h, n, RW, S)) (h2 : (xPers tx ln q su w h n RW S).1 = true) : xFt tx ln q (xPers tx ln q su w h n RW S) := by
  have ob := rOk_b ok
  obtain ⟨o1, o2, o3, o4, o5, o6⟩ := ok
  replace o1 : q ≤ ln := o1
  replace o2 : cWF (kv w h n RW S) := o2
  replace o3 : S 3 ≤ 5 := o3
  replace o4 : S 0 = 0 := o4
  replace o5 : S 2 = 0 := o5
  have ob2 : 0 ≤ n ∧ n ≤ 7 := ob.2.2.1
  have e1 := ntE_in (tx := tx) o1
  have e2 := ntE_in (tx := tx) e1.2
  have e3 := ntE_in (tx := tx) e2.2
  have e4 := ntE_in (tx := tx) e3.2
  by_cases c0 : n = 7
  · unfold xPers at h2; rw [decide_eq_true c0] at h2; exact absurd h2 Bool.false_ne_true
  · cases c1 : isn tx ln (ntE tx ln q) 0 (w * h - 1) with
    | false => unfold xPers at h2; rw [decide_eq_false c0, c1] at h2; exact absurd h2 Bool.false_ne_true
    | true =>
      cases c2 : isn tx ln (ntE tx ln (ntE tx ln q)) 1 4 with
      | false => unfold xPers at h2; rw [decide_eq_false c0, c1, c2] at h2; exact absurd h2 Bool.false_ne_true
      | true =>
        have ex : xPers tx ln q su w h n RW S = (ise tx ln (ntE tx ln (ntE tx ln (ntE tx ln q))), ntE tx ln (ntE tx ln (ntE tx ln q)), su, w, h, n + 1, va_up RW n.toNat (ntV tx ln (ntE tx ln (ntE tx ln q))), pS1 S n (ntV tx ln (ntE tx ln q))) := by unfold xPers; simp only [decide_eq_false c0, c1, c2, cond_true, cond_false]
        rw [ex] at h2 ⊢
        have h3 := ise_E e3.2 h2
        have b1 := of_decide_eq_true c1
        have b2 := of_decide_eq_true c2
        have q9 : ∀ j : Nat, j < 29 → pS1 S n (ntV tx ln (ntE tx ln q)) j = S j := fun j hj => up_ne _ _ (by omega)
        refine ⟨⟨e4.2, ?_, ?_, ?_, ?_, fun u hu => ?_⟩, ?_⟩
        · exact (kvP (w := w) (h := h) (n := n) (RW := RW) (by omega)).wf (cWF_adP o2 (show n ≤ 6 by omega) (show 0 ≤ ntV tx ln (ntE tx ln q) ∧ ntV tx ln (ntE tx ln q) < w * h by omega) (by omega))
        · exact Int.le_trans (Int.le_of_eq (q9 3 (by decide))) o3
        · exact (q9 0 (by decide)).trans o4
        · exact (q9 2 (by decide)).trans o5
        · exact (q9 (24 + u) (by omega)).trans (o6 u hu)
        · show q + 1 ≤ ntE tx ln (ntE tx ln (ntE tx ln (ntE tx ln q)))
          omega
theorem xIt_fit {tx : Nat → Int} {ln it : Nat} {r : rR} (ok : rOk ln r) (hz : it = 0 → r.2.2.2.2.2.2.2 3 = 0 ∧ r.2.2.2.2.2.1 = 0) (h2 : (xItR tx ln it r).1 = true) : xFt tx ln r.2.1 (xItR tx ln it r) := by
  obtain ⟨b0, q, su, w, h, n, RW, S⟩ := r
  replace hz : it = 0 → S 3 = 0 ∧ n = 0 := hz
  replace ok : rOk ln (true, q, su, w, h, n, RW, S) := ok
  show xFt tx ln q (xItem tx ln q it su w h n RW S)
  replace h2 : (xItem tx ln q it su w h n RW S).1 = true := h2
  by_cases c1 : ntT tx ln q = 103 ∧ it = 0
  · have ex : xItem tx ln q it su w h n RW S = xLand tx ln q su w h n RW S := by unfold xItem; rw [decide_eq_true c1]; rfl
    rw [ex] at h2 ⊢
    exact xLand_fit ok (hz c1.2) h2
  · by_cases c2 : ntT tx ln q = 116
    · have ex : xItem tx ln q it su w h n RW S = xTree tx ln q su w h n RW S := by unfold xItem; rw [decide_eq_false c1, decide_eq_true c2]; rfl
      rw [ex] at h2 ⊢
      exact xTree_fit ok h2
    · by_cases c3 : ntT tx ln q = 112
      · have ex : xItem tx ln q it su w h n RW S = xPers tx ln q su w h n RW S := by unfold xItem; rw [decide_eq_false c1, decide_eq_false c2, decide_eq_true c3]; rfl
        rw [ex] at h2 ⊢
        exact xPers_fit ok h2
      · by_cases c4 : ntT tx ln q = 115
        · cases c5 : su with
          | true => unfold xItem at h2; rw [decide_eq_false c1, decide_eq_false c2, decide_eq_false c3, decide_eq_true c4, c5] at h2; exact absurd h2 Bool.false_ne_true
          | false =>
            cases c6 : isn tx ln (ntE tx ln q) 1 9 with
            | false => unfold xItem at h2; rw [decide_eq_false c1, decide_eq_false c2, decide_eq_false c3, decide_eq_true c4, c5, c6] at h2; exact absurd h2 Bool.false_ne_true
            | true =>
              have ex : xItem tx ln q it false w h n RW S = (ise tx ln (ntE tx ln (ntE tx ln q)), ntE tx ln (ntE tx ln q), true, w, h, n, RW, va_up S 1 (ntV tx ln (ntE tx ln q))) := by unfold xItem; simp only [decide_eq_false c1, decide_eq_false c2, decide_eq_false c3, decide_eq_true c4, c6, cond_true, cond_false]
              rw [c5, ex] at h2
              rw [ex]
              obtain ⟨o1, o2, o3, o4, o5, o6⟩ := ok
              replace o1 : q ≤ ln := o1
              replace o2 : cWF (kv w h n RW S) := o2
              replace o3 : S 3 ≤ 5 := o3
              replace o4 : S 0 = 0 := o4
              replace o5 : S 2 = 0 := o5
              have e1 := ntE_in (tx := tx) o1
              have e2 := ntE_in (tx := tx) e1.2
              have e3 := ntE_in (tx := tx) e2.2
              have h3 := ise_E e2.2 h2
              have b1 := of_decide_eq_true c6
              have q9 : ∀ j : Nat, j ≠ 1 → va_up S 1 (ntV tx ln (ntE tx ln q)) j = S j := fun j hj => up_ne _ _ hj
              refine ⟨⟨e3.2, ?_, ?_, ?_, ?_, fun u hu => ?_⟩, ?_⟩
              · exact (kvS (w := w) (h := h) (n := n) (RW := RW)).wf (cWF_sun o2 (by omega))
              · exact Int.le_trans (Int.le_of_eq (q9 3 (by decide))) o3
              · exact (q9 0 (by decide)).trans o4
              · exact (q9 2 (by decide)).trans o5
              · exact (q9 (24 + u) (by omega)).trans (o6 u hu)
              · show q + 1 ≤ ntE tx ln (ntE tx ln (ntE tx ln q))
                omega
        · unfold xItem at h2; rw [decide_eq_false c1, decide_eq_false c2, decide_eq_false c3, decide_eq_false c4] at h2; exact absurd h2 Bool.false_ne_true
theorem xRd_fit {tx : Nat → Int} {ln : Nat} : ∀ (f it : Nat) (r : rR), rOk ln r → (it = 0 → r.2.2.2.2.2.2.2 3 = 0 ∧ r.2.2.2.2.2.1 = 0) → (xRd tx ln f it r).2.1 = true → rOk ln (xRd tx ln f it r).2 := by
  intro f
  induction f with
  | zero => intro it r _ _ h; exact absurd h Bool.false_ne_true
  | succ f ih =>
    intro it r ok hz h
    by_cases c1 : ntT tx ln r.2.1 = -2
    · rw [xRd_end c1]; exact ok
    · cases c2 : (xItR tx ln it r).1 with
      | false => rw [xRd_bad c1 c2] at h; exact absurd (c2.symm.trans h) Bool.false_ne_true
      | true =>
        rw [xRd_go c1 c2] at h ⊢
        exact ih _ _ (xIt_fit ok hz c2).1 (fun h => absurd h (by omega)) h
def zrN (S : Nat → Int) (k : Nat) : Nat → Int := fun j => if j < k then 0 else S j
theorem zrN_0 (S : Nat → Int) : zrN S 0 = S := by
  funext j
  unfold zrN
  rw [if_neg (by omega)]
theorem zrN_up (S : Nat → Int) (k : Nat) : va_up (zrN S k) k 0 = zrN S (k + 1) := by
  funext j
  by_cases h : j = k
  · subst h
    rw [up_eq]
    unfold zrN
    rw [if_pos (by omega)]
  · rw [up_ne _ _ h]
    unfold zrN
    by_cases q : j < k
    · rw [if_pos q, if_pos (by omega)]
    · rw [if_neg q, if_neg (by omega)]
/-- how reading begins -/
def rd0 (RW S : Nat → Int) : rR := (true, 0, false, 3, 3, 0, RW, va_up (zrN S 36) 1 3)
theorem rd0_at (S : Nat → Int) (j : Nat) (h : j ≠ 1) (h2 : j < 36) : va_up (zrN S 36) 1 3 j = 0 := by
  rw [up_ne _ _ h]
  exact if_pos h2
theorem rd0_ok {ln : Nat} {RW S : Nat → Int} (hR : ∀ i : Nat, i < 7 → 0 ≤ RW i ∧ RW i ≤ 4) : rOk ln (rd0 RW S) := by
  have z := rd0_at S
  have z1 : va_up (zrN S 36) 1 3 1 = 3 := up_eq _ _ _
  refine ⟨Nat.zero_le _, ⟨?_, fun t ht => ?_, fun i hi => ?_, fun t ht => ?_, fun i hi => ?_⟩, ?_, z 0 (by decide) (by decide), z 2 (by decide) (by decide), fun t ht => z (24 + t) (by omega) (by omega)⟩
  · show (2 : Int) ≤ 3 ∧ (3 : Int) ≤ 5 ∧ (2 : Int) ≤ 3 ∧ (3 : Int) ≤ 4 ∧ 0 ≤ va_up (zrN S 36) 1 3 3 ∧ va_up (zrN S 36) 1 3 3 ≤ 6 ∧ (0 : Int) ≤ 0 ∧ (0 : Int) ≤ 7 ∧ 1 ≤ va_up (zrN S 36) 1 3 1 ∧ va_up (zrN S 36) 1 3 1 ≤ 9 ∧ 0 ≤ va_up (zrN S 36) 1 3 0 ∧ va_up (zrN S 36) 1 3 0 ≤ 999 ∧ 0 ≤ va_up (zrN S 36) 1 3 2 ∧ va_up (zrN S 36) 1 3 2 ≤ 1
    rw [z1, z 3 (by decide) (by decide), z 0 (by decide) (by decide), z 2 (by decide) (by decide)]
    decide
  · show 0 ≤ (if t < 5 then va_up (zrN S 36) 1 3 (4 + t) else 0) ∧ (if t < 5 then va_up (zrN S 36) 1 3 (4 + t) else 0) ≤ 19 ∧ 0 ≤ (if t < 5 then va_up (zrN S 36) 1 3 (9 + t) else 0) ∧ (if t < 5 then va_up (zrN S 36) 1 3 (9 + t) else 0) ≤ 20 ∧ 0 ≤ (if t < 5 then va_up (zrN S 36) 1 3 (19 + t) else 0) ∧ (if t < 5 then va_up (zrN S 36) 1 3 (19 + t) else 0) ≤ 7 ∧ 0 ≤ (if t < 5 then va_up (zrN S 36) 1 3 (14 + t) else 0) ∧ (if t < 5 then va_up (zrN S 36) 1 3 (14 + t) else 0) ≤ 1 ∧ 0 ≤ (if t < 5 then va_up (zrN S 36) 1 3 (24 + t) else 0) ∧ (if t < 5 then va_up (zrN S 36) 1 3 (24 + t) else 0) ≤ 1
    rw [z (4 + t) (by omega) (by omega), z (9 + t) (by omega) (by omega), z (14 + t) (by omega) (by omega), z (19 + t) (by omega) (by omega), z (24 + t) (by omega) (by omega)]
    rw [ite_self]
    decide
  · show 0 ≤ va_up (zrN S 36) 1 3 (29 + i) ∧ va_up (zrN S 36) 1 3 (29 + i) ≤ 19 ∧ 0 ≤ RW i ∧ RW i ≤ 4
    rw [z (29 + i) (by omega) (by omega)]
    have := hR i hi
    omega
  · have h9 : (t : Int) < va_up (zrN S 36) 1 3 3 := ht
    rw [z 3 (by decide) (by decide)] at h9
    omega
  · have h9 : (i : Int) < 0 := hi
    omega
  · show va_up (zrN S 36) 1 3 3 ≤ 5
    rw [z 3 (by decide) (by decide)]
    decide
theorem rd0_z (RW S : Nat → Int) : (rd0 RW S).2.2.2.2.2.2.2 3 = 0 ∧ (rd0 RW S).2.2.2.2.2.1 = 0 := ⟨rd0_at S 3 (by decide) (by decide), rfl⟩
def wgN (W R : Nat → Int) : Nat → Nat → Int
  | 0 => W
  | i + 1 => va_up (wgN W R i) i (R i)
