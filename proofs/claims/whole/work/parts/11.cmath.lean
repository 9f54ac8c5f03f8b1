/-! ===== communes changed ===== -/
abbrev kS (K : Kom) (i j : Nat) (v : Int) : Kom := va_up K i (va_up (K i) j v)
def agr (f g : Nat → Int) (t : Nat) : Prop := ∀ j, j < t → f j = g j
theorem agr_0 {f g : Nat → Int} : agr f g 0 := fun j h => absurd h (Nat.not_lt_zero j)
theorem agr_up {f g : Nat → Int} {t : Nat} (h : agr f g t) : agr (va_up f t (g t)) g (t + 1) := by
  intro j hj
  by_cases q : j = t
  · subst q; rw [up_eq]
  · rw [up_ne _ _ q]; exact h j (by omega)
theorem arr_congr {cA : ClassId} {n : Nat} {f g : Nat → Int} (h : agr f g n) : vp_cell cA (n, .inl (aI f)) = vp_cell cA (n, .inl (aI g)) := by
  show arrV cA n (fun j => .int (aI f j)) = arrV cA n (fun j => .int (aI g j))
  unfold arrV
  congr 2
  funext j
  show Value.int (iZ (f j.val)) = Value.int (iZ (g j.val))
  rw [h j.val j.isLt]
theorem at_congr {G : va_G} {cl : List vw_C} {a : Nat} {cA : ClassId} {n : Nat} {f g : Nat → Int} {H : Heap} (h : agr f g n) (hv : va_at G cl (a, .inl (cA, n, .inl (aI f))) H) : va_at G cl (a, .inl (cA, n, .inl (aI g))) H := by
  show H[a]? = some (vp_cell cA (n, .inl (aI g)))
  rw [← arr_congr h]
  exact hv
theorem va_P_nil {G : va_G} {cl : List vw_C} {H : Heap} : va_P G cl [] H := fun k q h => by simp at h
theorem va_P_cons {G : va_G} {cl : List vw_C} {x : Nat × va_E} {ws : va_W} {H : Heap} : va_P G cl (x :: ws) H ↔ va_at G cl x H ∧ va_P G cl ws H := by
  constructor
  · intro h
    exact ⟨h 0 x rfl, fun k q hk => h (k + 1) q hk⟩
  · rintro ⟨h1, h2⟩ k q hk
    cases k with
    | zero => cases hk; exact h1
    | succ k => exact h2 k q hk
/-- two communes that hold the same numbers -/
def KEq (K K' : Kom) : Prop := agr (K 0) (K' 0) 7 ∧ agr (K 1) (K' 1) 6 ∧ agr (K 2) (K' 2) 6 ∧ agr (K 3) (K' 3) 6 ∧ agr (K 4) (K' 4) 6 ∧ agr (K 5) (K' 5) 6 ∧ agr (K 6) (K' 6) 7 ∧ agr (K 7) (K' 7) 7
theorem cmW_congr {G : va_G} {Y : Nat → ClassId} {h : Nat} {ad : Nat → Nat} {K K' : Kom} {H : Heap} (e : KEq K K') (hP : va_P G vwCl (cmW Y h ad K) H) : va_P G vwCl (cmW Y h ad K') H := by
  obtain ⟨e0, e1, e2, e3, e4, e5, e6, e7⟩ := e
  unfold cmW at hP ⊢
  rw [← e0 0 (by decide), ← e0 1 (by decide), ← e0 2 (by decide), ← e0 3 (by decide), ← e0 4 (by decide), ← e0 5 (by decide), ← e0 6 (by decide)]
  simp only [va_P_cons] at hP ⊢
  obtain ⟨p0, p1, p2, p3, p4, p5, p6, p7, -⟩ := hP
  exact ⟨p0, at_congr e1 p1, at_congr e2 p2, at_congr e3 p3, at_congr e4 p4, at_congr e5 p5, at_congr e6 p6, at_congr e7 p7, va_P_nil⟩
def stA (K : Kom) : Kom
  | 0 => fun j => match j with
    | 0 => 3
    | 1 => 3
    | 2 => 0
    | 3 => 0
    | 4 => 3
    | 5 => 0
    | _ => 0
  | i + 1 => K (i + 1)
/-- heights as they have grown, of the first t -/
def grN (K : Kom) : Nat → Nat → Int
  | 0 => K 2
  | t + 1 => if K 5 t = 0 then va_up (grN K t) t (min (K 2 t + 1) 20) else grN K t
theorem grN_hi (K : Kom) (t j : Nat) (h : t ≤ j) : grN K t j = K 2 j := by
  induction t with
  | zero => rfl
  | succ t ih =>
    rw [grN]
    split
    · rw [up_ne _ _ (by omega)]; exact ih (by omega)
    · exact ih (by omega)
def adT (K : Kom) (a h e w : Int) : Kom := kS (kS (kS (kS (kS (kS K 1 (K 0 2).toNat a) 2 (K 0 2).toNat h) 3 (K 0 2).toNat w) 4 (K 0 2).toNat e) 5 (K 0 2).toNat 0) 0 2 (K 0 2 + 1)
def adP (K : Kom) (a w : Int) : Kom := kS (kS (kS K 6 (K 0 3).toNat a) 7 (K 0 3).toNat w) 0 3 (K 0 3 + 1)
def bcF (K2 : Kom) (f1 f2 f3 f4 f5 f6 f7 : Nat → Int) : Kom
  | 0 => K2 0
  | 1 => f1
  | 2 => f2
  | 3 => f3
  | 4 => f4
  | 5 => f5
  | 6 => f6
  | _ => f7
theorem bcF_eq {K2 : Kom} {f1 f2 f3 f4 f5 f6 f7 : Nat → Int} (a1 : agr f1 (K2 1) 6) (a2 : agr f2 (K2 2) 6) (a3 : agr f3 (K2 3) 6) (a4 : agr f4 (K2 4) 6) (a5 : agr f5 (K2 5) 6) (a6 : agr f6 (K2 6) 7) (a7 : agr f7 (K2 7) 7) : KEq (bcF K2 f1 f2 f3 f4 f5 f6 f7) K2 := ⟨fun _ _ => rfl, a1, a2, a3, a4, a5, a6, a7⟩
