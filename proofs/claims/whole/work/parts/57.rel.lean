/-! ===== how class and reference stand to each other ===== -/
theorem kv_agr {w h n : Int} {RW S S' : Nat → Int} (e : agr S S' 36) : KEq (kv w h n RW S) (kv w h n RW S') := by
  refine ⟨KEq.mk0 rfl rfl (e 3 (by decide)) rfl (e 1 (by decide)) (e 0 (by decide)) (e 2 (by decide)), fun u hu => ?_, fun u hu => ?_, fun u hu => ?_, fun u hu => ?_, fun u hu => ?_, fun u hu => e _ (by omega), fun _ _ => rfl⟩
  · show (if u < 5 then S (4 + u) else 0) = (if u < 5 then S' (4 + u) else 0)
    rw [e _ (by omega)]
  · show (if u < 5 then S (9 + u) else 0) = (if u < 5 then S' (9 + u) else 0)
    rw [e _ (by omega)]
  · show (if u < 5 then S (19 + u) else 0) = (if u < 5 then S' (19 + u) else 0)
    rw [e _ (by omega)]
  · show (if u < 5 then S (14 + u) else 0) = (if u < 5 then S' (14 + u) else 0)
    rw [e _ (by omega)]
  · show (if u < 5 then S (24 + u) else 0) = (if u < 5 then S' (24 + u) else 0)
    rw [e _ (by omega)]
theorem agr_s {f g : Nat → Int} {n : Nat} (h : agr f g n) : agr g f n := fun j hj => (h j hj).symm
theorem mV_b {F : Nat → Int} {A : Kom} {S : Nat → Int} (h : mV F A S) : (0 ≤ S 3 ∧ S 3 ≤ 5) ∧ (0 ≤ F 15 ∧ F 15 ≤ 7) := by
  have h7 := h.2.2.2.2.2.2.1
  have h5 := h.2.1
  omega
theorem mV_agr {F : Nat → Int} {A : Kom} {S S' : Nat → Int} (h : mV F A S) (e : agr S' S 36) : mV F A S' := by
  have h3 := h.2.2.1
  have h4 := h.2.2.2.1
  refine mV_of ((kv_agr e).wf h.1) (by rw [e 3 (by decide)]; exact h.2.1) ?_
  omega
theorem EqK_agr {F : Nat → Int} {A K : Kom} {S S' : Nat → Int} (h : mV F A S) (q : EqK K (kF F A S)) (e : agr S' S 36) : EqK K (kF F A S') := by
  have hb := mV_b h
  refine q.t ((kv_agr e).e ?_ ?_).s
  · show S' 3 ≤ 6
    rw [e 3 (by decide)]
    omega
  · show F 15 ≤ 7
    omega
def sg (f : Nat → Int) (k : Nat) : Nat → Int := fun i => f (36 * k + i)
def pRel (F : Nat → Int) (A : Kom) (ix z : Nat) (Kk : Nat → Kom) : Prop := ∀ j : Nat, j < z → EqK (Kk ((ix + 9 - j) % 10)) (kF F A (sg (A 21) (z - 1 - j))) ∧ cWF (Kk ((ix + 9 - j) % 10)) ∧ mV F A (sg (A 21) (z - 1 - j))
def iRel (F : Nat → Int) (A : Kom) (kp : Nat → Int) (Ki : Nat → Kom) : Prop := ∀ j : Nat, j < 2 → kp j ≠ 0 → EqK (Ki j) (kF F A (sg (A 19) j)) ∧ cWF (Ki j) ∧ mV F A (sg (A 19) j)
theorem nt_new {B S : Nat → Int} {z : Nat} (hz : z ≤ 10) : agr (sg (ntA B S (z : Int)) (min (z + 1) 10 - 1)) S 36 := by
  intro i hi
  unfold sg ntA va_cpy
  by_cases h : z = 10
  · subst h
    rw [if_pos (show ((10 : Nat) : Int) = 10 from rfl)]
    rw [if_pos (by omega)]
    refine congrArg S ?_
    omega
  · rw [if_neg (show ¬ (z : Int) = 10 by omega), if_pos (by omega)]
    refine congrArg S ?_
    omega
theorem nt_old {B S : Nat → Int} {z j : Nat} (hz : z ≤ 10) (h1 : 1 ≤ j) (h2 : j < min (z + 1) 10) : agr (sg (ntA B S (z : Int)) (min (z + 1) 10 - 1 - j)) (sg B (z - 1 - (j - 1))) 36 := by
  intro i hi
  unfold sg ntA va_cpy bkS
  by_cases h : z = 10
  · subst h
    rw [if_pos (show ((10 : Nat) : Int) = 10 from rfl), if_pos (show ((10 : Nat) : Int) = 10 from rfl), if_neg (by omega)]
    unfold shN
    rw [if_pos (by omega)]
    refine congrArg B ?_
    omega
  · rw [if_neg (show ¬ (z : Int) = 10 by omega), if_neg (show ¬ (z : Int) = 10 by omega), if_neg (by omega)]
    refine congrArg B ?_
    omega
theorem pRel_op {F : Nat → Int} {A K : Kom} {ix z : Nat} {Kk : Nat → Kom} {S' : Nat → Int} (h : pRel F A ix z Kk) (hi : ix < 10) (hz : z ≤ 10) (e : EqK K (kF F A (A 17))) (hW : cWF K) (hV : mV F A (A 17)) (h22 : F 22 = (z : Int)) : pRel (opF F) (opA F A S') ((ix + 1) % 10) (min (z + 1) 10) (va_up Kk ix K) := by
  intro j hj
  show EqK (va_up Kk ix K (((ix + 1) % 10 + 9 - j) % 10)) (kF F A (sg (ntA (A 21) (A 17) (F 22)) (min (z + 1) 10 - 1 - j))) ∧ cWF (va_up Kk ix K (((ix + 1) % 10 + 9 - j) % 10)) ∧ mV F A (sg (ntA (A 21) (A 17) (F 22)) (min (z + 1) 10 - 1 - j))
  rw [h22]
  by_cases h0 : j = 0
  · subst h0
    rw [show ((ix + 1) % 10 + 9 - 0) % 10 = ix by omega, up_eq, Nat.sub_zero]
    have hn := nt_new (B := A 21) (S := A 17) hz
    exact ⟨EqK_agr hV e hn, hW, mV_agr hV hn⟩
  · have q := h (j - 1) (by omega)
    rw [show (ix + 9 - (j - 1)) % 10 = ((ix + 1) % 10 + 9 - j) % 10 by omega] at q
    rw [up_ne _ _ (show ((ix + 1) % 10 + 9 - j) % 10 ≠ ix by omega)]
    have hn := nt_old (B := A 21) (S := A 17) hz (show 1 ≤ j by omega) hj
    exact ⟨EqK_agr q.2.2 q.1 hn, q.2.1, mV_agr q.2.2 hn⟩
theorem pRel_undo {F F' : Nat → Int} {A : Kom} {ix z : Nat} {Kk : Nat → Kom} {S' : Nat → Int} (h : pRel F A ix z Kk) (hz : 0 < z) (hz2 : z ≤ 10) (hi : ix < 10) (hF : F' 13 = F 13 ∧ F' 14 = F 14 ∧ F' 15 = F 15 ∧ F' 26 = F 26 ∧ F' 27 = F 27 ∧ F' 28 = F 28) : pRel F' (va_up A 17 S') ((ix + 9) % 10) (z - 1) Kk := by
  intro j hj
  have q := h (j + 1) (by omega)
  rw [show (ix + 9 - (j + 1)) % 10 = ((ix + 9) % 10 + 9 - j) % 10 by omega, show z - 1 - (j + 1) = z - 1 - 1 - j by omega] at q
  show EqK (Kk (((ix + 9) % 10 + 9 - j) % 10)) (kv (F' 13) (F' 14) (F' 15) (A 16) (sg (A 21) (z - 1 - 1 - j))) ∧ cWF (Kk (((ix + 9) % 10 + 9 - j) % 10)) ∧ mV F' (va_up A 17 S') (sg (A 21) (z - 1 - 1 - j))
  refine ⟨?_, q.2.1, ?_⟩
  · rw [hF.1, hF.2.1, hF.2.2.1]; exact q.1
  · have h9 := q.2.2
    unfold mV kF at h9 ⊢
    rw [hF.1, hF.2.1, hF.2.2.1, hF.2.2.2.1, hF.2.2.2.2.1, hF.2.2.2.2.2]
    exact h9
/-- the whole -/
def lwI (tx : Nat → Int) (ln tk : Nat) (K Kto : Kom) (ix z : Nat) (M T : Nat → Int) (n9 : Int) (kp : Nat → Int) (Ki Kk : Nat → Kom) (F : Nat → Int) (A : Kom) : Prop :=
  (tX tx ∧ ln ≤ 200 ∧ tk ≤ 200 ∧ A 1 = tx ∧ F 0 = ((ln : Nat) : Int)) ∧
  (cWF K ∧ EqK K (kF F A (A 17)) ∧ mV F A (A 17) ∧ F 26 = -1) ∧
  (aWF Kto ∧ ∀ i : Nat, i < 7 → 0 ≤ A 11 i ∧ A 11 i ≤ 4) ∧
  (ix < 10 ∧ z ≤ 10 ∧ F 22 = ((z : Nat) : Int) ∧ pRel F A ix z Kk) ∧
  ((0 ≤ n9 ∧ n9 ≤ 5 ∧ F 23 = n9) ∧ (M = (fun j => A 24 (2 * j)) ∧ T = (fun j => A 24 (2 * j + 1))) ∧ ∀ j : Nat, j < 5 → 0 ≤ M j ∧ M j ≤ 2 ∧ 0 ≤ T j ∧ T j ≤ 28) ∧
  (kp = A 20 ∧ (∀ j : Nat, j < 2 → 0 ≤ kp j ∧ kp j ≤ 1) ∧ iRel F A kp Ki)
/-- something is done -/
theorem lwI_op {tx : Nat → Int} {ln tk : Nat} {K Kto : Kom} {ix z : Nat} {M T : Nat → Int} {n9 : Int} {kp : Nat → Int} {Ki Kk : Nat → Kom} {F : Nat → Int} {A : Kom} (h : lwI tx ln tk K Kto ix z M T n9 kp Ki Kk F A) {K' : Kom} {S' : Nat → Int} (hW : cWF K') (e : EqK K' (kF F A S')) (hV : mV F A S') : lwI tx ln tk K' Kto ((ix + 1) % 10) (min (z + 1) 10) M T n9 kp Ki (va_up Kk ix K) (opF F) (opA F A S') := by
  obtain ⟨h1, h2, h3, h4, h5, h6⟩ := h
  refine ⟨h1, ⟨hW, e, hV, h2.2.2.2⟩, h3, ⟨Nat.mod_lt _ (by decide), by omega, ?_, pRel_op h4.2.2.2 h4.1 h4.2.1 h2.2.1 h2.1 h2.2.2.1 h4.2.2.1⟩, h5, h6⟩
  show min (F 22 + 1) 10 = _
  rw [h4.2.2.1]
  omega
theorem cpy_sg {f g : Nat → Int} {k : Nat} : agr (va_cpy f g (36 * k) 0 36) (sg f k) 36 := by
  intro j hj
  unfold va_cpy sg
  rw [if_pos (by omega)]
  congr 1
theorem lwI_undo {tx : Nat → Int} {ln tk : Nat} {K Kto : Kom} {ix z : Nat} {M T : Nat → Int} {n9 : Int} {kp : Nat → Int} {Ki Kk : Nat → Kom} {F : Nat → Int} {A : Kom} (h : lwI tx ln tk K Kto ix z M T n9 kp Ki Kk F A) (hz : 0 < z) : lwI tx ln tk (Kk ((ix + 9) % 10)) Kto ((ix + 9) % 10) (z - 1) M T n9 kp Ki Kk (va_up F 22 (F 22 - 1)) (va_up A 17 (va_cpy (A 21) (A 17) (36 * (F 22 - 1)).toNat 0 36)) := by
  obtain ⟨h1, h2, h3, h4, h5, h6⟩ := h
  have q := h4.2.2.2 0 hz
  rw [Nat.sub_zero, Nat.sub_zero] at q
  have e1 : (36 * (F 22 - 1)).toNat = 36 * (z - 1) := by rw [h4.2.2.1]; omega
  rw [e1]
  have hc := cpy_sg (f := A 21) (g := A 17) (k := z - 1)
  refine ⟨h1, ⟨q.2.1, EqK_agr q.2.2 q.1 hc, mV_agr q.2.2 hc, h2.2.2.2⟩, h3, ⟨Nat.mod_lt _ (by decide), by omega, ?_, pRel_undo (F := F) h4.2.2.2 hz h4.2.1 h4.1 ⟨rfl, rfl, rfl, rfl, rfl, rfl⟩⟩, h5, h6⟩
  show F 22 - 1 = _
  rw [h4.2.2.1]
  omega
/-! rows that a thing done changes -/
theorem kv6 {w h n : Int} {RW S : Nat → Int} {i : Nat} {v : Int} : KEq (kv w h n RW (va_up S (29 + i) v)) (kS (kv w h n RW S) 6 i v) := by
  have q : ∀ j : Nat, j < 29 → va_up S (29 + i) v j = S j := fun j hj => up_ne _ _ (by omega)
  refine ⟨KEq.mk0 rfl rfl (q 3 (by decide)) rfl (q 1 (by decide)) (q 0 (by decide)) (q 2 (by decide)), fun u hu => ?_, fun u hu => ?_, fun u hu => ?_, fun u hu => ?_, fun u hu => ?_, fun u hu => ?_, fun _ _ => rfl⟩
  · show (if u < 5 then va_up S (29 + i) v (4 + u) else 0) = (if u < 5 then S (4 + u) else 0)
    rw [q _ (by omega)]
  · show (if u < 5 then va_up S (29 + i) v (9 + u) else 0) = (if u < 5 then S (9 + u) else 0)
    rw [q _ (by omega)]
  · show (if u < 5 then va_up S (29 + i) v (19 + u) else 0) = (if u < 5 then S (19 + u) else 0)
    rw [q _ (by omega)]
  · show (if u < 5 then va_up S (29 + i) v (14 + u) else 0) = (if u < 5 then S (14 + u) else 0)
    rw [q _ (by omega)]
  · show (if u < 5 then va_up S (29 + i) v (24 + u) else 0) = (if u < 5 then S (24 + u) else 0)
    split
    · exact q _ (by omega)
    · rfl
  · show va_up S (29 + i) v (29 + u) = va_up (fun t => S (29 + t)) i v u
    unfold va_up
    by_cases h : u = i
    · rw [if_pos h, if_pos (by omega)]
    · rw [if_neg h, if_neg (by omega)]
theorem kv2 {w h n : Int} {RW S : Nat → Int} {i : Nat} {v : Int} (hi : i < 5) : KEq (kv w h n RW (va_up S (9 + i) v)) (kS (kv w h n RW S) 2 i v) := by
  have q : ∀ j : Nat, j ≠ 9 + i → va_up S (9 + i) v j = S j := fun j hj => up_ne _ _ hj
  refine ⟨KEq.mk0 rfl rfl (q 3 (by omega)) rfl (q 1 (by omega)) (q 0 (by omega)) (q 2 (by omega)), fun u hu => ?_, fun u hu => ?_, fun u hu => ?_, fun u hu => ?_, fun u hu => ?_, fun u hu => q _ (by omega), fun _ _ => rfl⟩
  · show (if u < 5 then va_up S (9 + i) v (4 + u) else 0) = (if u < 5 then S (4 + u) else 0)
    split
    · exact q _ (by omega)
    · rfl
  · show (if u < 5 then va_up S (9 + i) v (9 + u) else 0) = va_up (fun t => if t < 5 then S (9 + t) else 0) i v u
    by_cases h : u = i
    · subst h
      rw [up_eq, if_pos hi, up_eq]
    · rw [up_ne _ _ h]
      split
      · exact q _ (by omega)
      · rfl
  · show (if u < 5 then va_up S (9 + i) v (19 + u) else 0) = (if u < 5 then S (19 + u) else 0)
    split
    · exact q _ (by omega)
    · rfl
  · show (if u < 5 then va_up S (9 + i) v (14 + u) else 0) = (if u < 5 then S (14 + u) else 0)
    split
    · exact q _ (by omega)
    · rfl
  · show (if u < 5 then va_up S (9 + i) v (24 + u) else 0) = (if u < 5 then S (24 + u) else 0)
    split
    · exact q _ (by omega)
    · rfl
theorem kv5 {w h n : Int} {RW S : Nat → Int} {i : Nat} {v : Int} (hi : i < 5) : KEq (kv w h n RW (va_up S (24 + i) v)) (kS (kv w h n RW S) 5 i v) := by
  have q : ∀ j : Nat, j ≠ 24 + i → va_up S (24 + i) v j = S j := fun j hj => up_ne _ _ hj
  refine ⟨KEq.mk0 rfl rfl (q 3 (by omega)) rfl (q 1 (by omega)) (q 0 (by omega)) (q 2 (by omega)), fun u hu => ?_, fun u hu => ?_, fun u hu => ?_, fun u hu => ?_, fun u hu => ?_, fun u hu => q _ (by omega), fun _ _ => rfl⟩
  · show (if u < 5 then va_up S (24 + i) v (4 + u) else 0) = (if u < 5 then S (4 + u) else 0)
    split
    · exact q _ (by omega)
    · rfl
  · show (if u < 5 then va_up S (24 + i) v (9 + u) else 0) = (if u < 5 then S (9 + u) else 0)
    split
    · exact q _ (by omega)
    · rfl
  · show (if u < 5 then va_up S (24 + i) v (19 + u) else 0) = (if u < 5 then S (19 + u) else 0)
    split
    · exact q _ (by omega)
    · rfl
  · show (if u < 5 then va_up S (24 + i) v (14 + u) else 0) = (if u < 5 then S (14 + u) else 0)
    split
    · exact q _ (by omega)
    · rfl
  · show (if u < 5 then va_up S (24 + i) v (24 + u) else 0) = va_up (fun t => if t < 5 then S (24 + t) else 0) i v u
    by_cases h : u = i
    · subst h
      rw [up_eq, if_pos hi, up_eq]
    · rw [up_ne _ _ h]
      split
      · exact q _ (by omega)
      · rfl
theorem kvW {w h n : Int} {RW S : Nat → Int} {v : Int} : KEq (kv w h n RW (va_up S 2 v)) (kS (kv w h n RW S) 0 6 v) := by
  have q : ∀ j : Nat, j ≠ 2 → va_up S 2 v j = S j := fun j hj => up_ne _ _ hj
  refine ⟨KEq.mk0 rfl rfl (q 3 (by decide)) rfl (q 1 (by decide)) (q 0 (by decide)) (up_eq _ _ _), fun u hu => ?_, fun u hu => ?_, fun u hu => ?_, fun u hu => ?_, fun u hu => ?_, fun u hu => q _ (by omega), fun _ _ => rfl⟩
  · show (if u < 5 then va_up S 2 v (4 + u) else 0) = (if u < 5 then S (4 + u) else 0)
    rw [q _ (by omega)]
  · show (if u < 5 then va_up S 2 v (9 + u) else 0) = (if u < 5 then S (9 + u) else 0)
    rw [q _ (by omega)]
  · show (if u < 5 then va_up S 2 v (19 + u) else 0) = (if u < 5 then S (19 + u) else 0)
    rw [q _ (by omega)]
  · show (if u < 5 then va_up S 2 v (14 + u) else 0) = (if u < 5 then S (14 + u) else 0)
    rw [q _ (by omega)]
  · show (if u < 5 then va_up S 2 v (24 + u) else 0) = (if u < 5 then S (24 + u) else 0)
    rw [q _ (by omega)]
theorem gwN_at (S : Nat → Int) (t : Nat) (ht : t ≤ 5) (j : Nat) : gwN S t j = if j = 0 then S 0 + 1 else if 9 ≤ j ∧ j < 9 + t ∧ S (j + 15) = 0 ∧ S j < 20 then S j + 1 else S j := by
  induction t with
  | zero =>
    rw [gwN]
    unfold va_up
    by_cases h : j = 0
    · rw [if_pos h, if_pos h]
    · rw [if_neg h, if_neg h, if_neg (by omega)]
  | succ t ih =>
    rw [gwN]
    by_cases h : j = 9 + t
    · subst h
      rw [up_eq, if_neg (show ¬ 9 + t = 0 by omega), show 9 + t + 15 = 24 + t by omega]
      by_cases q : S (24 + t) = 0 ∧ S (9 + t) < 20
      · rw [if_pos q, if_pos ⟨by omega, by omega, q.1, q.2⟩]
      · rw [if_neg q, if_neg (fun z => q ⟨z.2.2.1, z.2.2.2⟩), Int.add_zero]
    · rw [up_ne _ _ h, ih (by omega)]
      by_cases h0 : j = 0
      · rw [if_pos h0, if_pos h0]
      · rw [if_neg h0, if_neg h0]
        by_cases q : 9 ≤ j ∧ j < 9 + t ∧ S (j + 15) = 0 ∧ S j < 20
        · rw [if_pos q, if_pos ⟨q.1, by omega, q.2.2⟩]
        · rw [if_neg q, if_neg (fun z => q ⟨z.1, by omega, z.2.2⟩)]
theorem kvG {w h n : Int} {RW S : Nat → Int} (h3 : 0 ≤ S 3 ∧ S 3 ≤ 5) (hb : ∀ t : Nat, t < 5 → S (9 + t) ≤ 20) : KEq (kv w h n RW (gwN S (S 3).toNat)) (kGrows (kv w h n RW S)) := by
  have at9 := fun j => gwN_at S (S 3).toNat (by omega) j
  have q : ∀ j : Nat, j ≠ 0 → (j < 9 ∨ 14 ≤ j) → gwN S (S 3).toNat j = S j := fun j h0 hj => by rw [at9, if_neg h0, if_neg (by omega)]
  refine ⟨KEq.mk0 rfl rfl (q 3 (by decide) (by omega)) rfl (q 1 (by decide) (by omega)) ?_ (q 2 (by decide) (by omega)), fun u hu => ?_, fun u hu => ?_, fun u hu => ?_, fun u hu => ?_, fun u hu => ?_, fun u hu => q _ (by omega) (by omega), fun _ _ => rfl⟩
  · show gwN S (S 3).toNat 0 = S 0 + 1
    rw [at9, if_pos rfl]
  · show (if u < 5 then gwN S (S 3).toNat (4 + u) else 0) = (if u < 5 then S (4 + u) else 0)
    split
    · exact q _ (by omega) (by omega)
    · rfl
  · show (if u < 5 then gwN S (S 3).toNat (9 + u) else 0) = grN (kv w h n RW S) (S 3).toNat u
    rw [grN_at, at9]
    show _ = if u < (S 3).toNat ∧ (if u < 5 then S (24 + u) else 0) = 0 then min ((if u < 5 then S (9 + u) else 0) + 1) 20 else (if u < 5 then S (9 + u) else 0)
    by_cases hu5 : u < 5
    · have hb5 := hb u hu5
      rw [if_pos hu5, if_pos hu5, if_pos hu5, if_neg (by omega), show 9 + u + 15 = 24 + u by omega]
      by_cases c1 : u < (S 3).toNat ∧ S (24 + u) = 0
      · rw [if_pos c1]
        by_cases c2 : S (9 + u) < 20
        · rw [if_pos ⟨by omega, by omega, c1.2, c2⟩]; omega
        · rw [if_neg (fun z => c2 z.2.2.2)]; omega
      · rw [if_neg c1, if_neg (fun z => c1 ⟨by omega, z.2.2.1⟩)]
    · rw [if_neg hu5, if_neg (show ¬ (u < (S 3).toNat ∧ (if u < 5 then S (24 + u) else 0) = 0) by omega), if_neg hu5]
  · show (if u < 5 then gwN S (S 3).toNat (19 + u) else 0) = (if u < 5 then S (19 + u) else 0)
    split
    · exact q _ (by omega) (by omega)
    · rfl
  · show (if u < 5 then gwN S (S 3).toNat (14 + u) else 0) = (if u < 5 then S (14 + u) else 0)
    split
    · exact q _ (by omega) (by omega)
    · rfl
  · show (if u < 5 then gwN S (S 3).toNat (24 + u) else 0) = (if u < 5 then S (24 + u) else 0)
    split
    · exact q _ (by omega) (by omega)
    · rfl
theorem plA_at {S : Nat → Int} {a b : Int} {t : Nat} (h3 : S 3 = (t : Int)) (j : Nat) : plA S a b j = if j = 3 then S 3 + 1 else if j = 24 + t then 0 else if j = 19 + t then b else if j = 14 + t then 0 else if j = 9 + t then 1 else if j = 4 + t then a else S j := by
  unfold plA
  rw [show (4 + S 3).toNat = 4 + t by omega, show (9 + S 3).toNat = 9 + t by omega, show (14 + S 3).toNat = 14 + t by omega, show (19 + S 3).toNat = 19 + t by omega, show (24 + S 3).toNat = 24 + t by omega]
  rfl
theorem kvA {w h n : Int} {RW S : Nat → Int} {a b : Int} (h3 : 0 ≤ S 3 ∧ S 3 ≤ 4) : KEq (kv w h n RW (plA S a b)) (adT (kv w h n RW S) a 1 0 b) := by
  obtain ⟨t, ht⟩ := Int.eq_ofNat_of_zero_le h3.1
  have et : (S 3).toNat = t := by omega
  have at9 := fun j => plA_at (S := S) (a := a) (b := b) ht j
  have ek : ∀ (f : Nat → Int) (v : Int) (u : Nat), va_up f (S 3).toNat v u = if u = t then v else f u := fun f v u => by rw [et]; rfl
  refine ⟨KEq.mk0 rfl rfl ?_ rfl ?_ ?_ ?_, fun u hu => ?_, fun u hu => ?_, fun u hu => ?_, fun u hu => ?_, fun u hu => ?_, fun u hu => ?_, fun _ _ => rfl⟩
  · show plA S a b 3 = S 3 + 1
    rw [at9, if_pos rfl]
  · show plA S a b 1 = S 1
    rw [at9]; (repeat' split) <;> first | rfl | omega
  · show plA S a b 0 = S 0
    rw [at9]; (repeat' split) <;> first | rfl | omega
  · show plA S a b 2 = S 2
    rw [at9]; (repeat' split) <;> first | rfl | omega
  · show (if u < 5 then plA S a b (4 + u) else 0) = va_up (fun t => if t < 5 then S (4 + t) else 0) (S 3).toNat a u
    rw [at9, ek]; (repeat' split) <;> first | rfl | omega
  · show (if u < 5 then plA S a b (9 + u) else 0) = va_up (fun t => if t < 5 then S (9 + t) else 0) (S 3).toNat 1 u
    rw [at9, ek]; (repeat' split) <;> first | rfl | omega
  · show (if u < 5 then plA S a b (19 + u) else 0) = va_up (fun t => if t < 5 then S (19 + t) else 0) (S 3).toNat b u
    rw [at9, ek]; (repeat' split) <;> first | rfl | omega
  · show (if u < 5 then plA S a b (14 + u) else 0) = va_up (fun t => if t < 5 then S (14 + t) else 0) (S 3).toNat 0 u
    rw [at9, ek]; (repeat' split) <;> first | rfl | omega
  · show (if u < 5 then plA S a b (24 + u) else 0) = va_up (fun t => if t < 5 then S (24 + t) else 0) (S 3).toNat 0 u
    rw [at9, ek]; (repeat' split) <;> first | rfl | omega
  · show plA S a b (29 + u) = S (29 + u)
    rw [at9]; (repeat' split) <;> first | rfl | omega
