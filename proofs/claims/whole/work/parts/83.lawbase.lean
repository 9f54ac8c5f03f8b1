/-! ===== the law: its world, in pieces ===== -/
def fl : List va_W → va_W
  | [] => []
  | [x] => x
  | x :: y :: t => x ++ fl (y :: t)
theorem fl_eq : ∀ cs : List va_W, fl cs = cs.flatten
  | [] => rfl
  | [x] => (List.append_nil x).symm
  | x :: y :: t => by rw [fl, fl_eq (y :: t)]; rfl
abbrev rsI (ps : List Nat) : List Nat := (List.range 25).filter (fun i => !ps.contains i)
abbrev lwF (ch : Nat → va_W) : va_W := ((List.range 25).map ch).flatten
abbrev lwR (ps : List Nat) (ch : Nat → va_W) : va_W := ((rsI ps).map ch).flatten
theorem lw_pm (ch : Nat → va_W) {ps : List Nat} (hp : List.Perm (List.range 25) (ps ++ rsI ps)) : List.Perm (lwF ch) (fl (ps.map ch) ++ lwR ps ch) := by
  rw [fl_eq]
  have h := (hp.map ch).flatten
  rw [List.map_append, List.flatten_append] at h
  exact h
theorem lw_back {ch ch' : Nat → va_W} {ps : List Nat} (hp : List.Perm (List.range 25) (ps ++ rsI ps)) (hc : (rsI ps).map ch' = (rsI ps).map ch) {w : va_W} (hw : w = fl (ps.map ch')) : List.Perm (w ++ lwR ps ch) (lwF ch') := by
  have h := (lw_pm ch' hp).symm
  rw [show lwR ps ch' = lwR ps ch by unfold lwR; rw [hc], ← hw] at h
  exact h
def lwC (Y : Nat → ClassId) (hv g9 : Nat) (u : svU) (af : Nat → Nat) (tx : Nat → Int) (ln pl : Nat) (su : Bool) (tk : Nat) (nu : Int) (K Kto Kt : Kom) (ix z : Nat) (E C M T : Nat → Int) (n9 : Int) (tr tq : Int64) (kp : Nat → Int) (Ki Kk : Nat → Kom) (F : Nat → Int) (A : Kom) : Nat → va_W
  | 0 => svO Y hv (u.1 1) (u.1 2) (u.1 3) (u.1 4) (u.1 5) (u.1 6) (u.1 7) (u.1 8) (u.1 9)
  | 1 => txW Y (u.1 1) (u.1 10) tx ln pl su tk nu
  | 2 => cmW Y (u.1 2) (u.2.1 0) K
  | 3 => cmW Y (u.1 3) (u.2.1 1) Kto
  | 4 => paW Y (u.1 4) (u.1 11) (u.2.1 2) ((ix : Nat) : Int) ((z : Nat) : Int)
  | 5 => qoW Y (u.1 5) (u.1 12) (u.1 13) (u.1 14)
  | 6 => [(u.1 13, .inl (Y 0, 7, .inl (aI E))), (u.1 14, .inl (Y 0, 7, .inl (aI C)))]
  | 7 => cmW Y (u.1 12) (u.2.1 3) Kt
  | 8 => tlW Y (u.1 6) (u.1 15) (u.1 16) M T n9
  | 9 => kiW Y (u.1 7) tr
  | 10 => imW Y (u.1 8) (u.2.1 4)
  | 11 => ikW Y (u.1 9) kp
  | 12 => moW Y g9 af F A tq
  | 13 => cmW Y (u.2.1 4 0) (u.2.2.2 0) (Ki 0)
  | 14 => cmW Y (u.2.1 4 1) (u.2.2.2 1) (Ki 1)
  | n + 15 => cmW Y (u.2.1 2 n) (u.2.2.1 n) (Kk n)
/-- the machine's side of the whole -/
def lwH (G : va_G) (s : State) (ch : Nat → va_W) (H : Heap) (locs : List Loc) : Prop := va_P G vwCl (lwF ch) H ∧ va_D (fun q => s.heap.size ≤ q) (lwF ch) ∧ va_S (fun q => s.heap.size ≤ q) s.heap H locs
/-- what stays in the law -/
def lwX (p : Program) (s : State) (m : MethodId) (meth : Method) (c : Code) (b L : Nat) (xs : Nat → Int32) (G : va_G) (Y : Nat → ClassId) : Prop := p.tables.exec = Jvm.exec ∧ c.code = cL_law ∧ c.maxLocals = 4 ∧ s.vm.findClass RL = some m.cls ∧ (∀ w ∈ wsL_law, w.before #[Value.ref b] s = true) ∧ (va_X b L xs s s.heap ∧ b < s.heap.size ∧ L ≤ 256) ∧ wK G Y s
/-- what follows a call: the next one -/
def lwK (p : Program) (l : Launch) (e : Env) (s : State) (m : MethodId) (below : List Frame) (meth : Method) (c : Code) (cells slots : Nat) (Q : State → Prop) (G : va_G) (Y : Nat → ClassId) (b hv g9 : Nat) (u : svU) (af : Nat → Nat) (ls : Array Slot) : Prop :=
  ∀ (tx : Nat → Int) (ln pl : Nat) (su : Bool) (tk : Nat) (nu : Int) (K Kto Kt : Kom) (ix z : Nat) (E C M T : Nat → Int) (n9 : Int) (tr : Int64) (kp : Nat → Int) (Ki Kk : Nat → Kom) (F : Nat → Int) (A : Kom) (H : Heap) (locs : List Loc), lwI tx ln tk K Kto ix z M T n9 kp Ki Kk F A → lwH G s (lwC Y hv g9 u af tx ln pl su tk nu K Kto Kt ix z E C M T n9 tr tr kp Ki Kk F A) H locs → W p l e room_1 s m #[Value.ref b] below meth c H locs cells slots Q (F0 m 990 ls [])
section LB
variable {p : Program} {l : Launch} {e : Env} {R : Room} {s : State} {m : MethodId} {args : Array Value} {below : List Frame} {meth : Method} {c : Code} {H : Heap} {locs : List Loc} {cells slots : Nat} {Q : State → Prop}
variable {cc : ByteArray} {pc : Nat} {ls : Array Slot} {rest : List Value} {A : Nat → Prop} {H0 : Heap}
theorem z_sld (hx : p.tables.exec = Jvm.exec) (hb : c.code = cc) {b L : Nat} {xs : Nat → Int32} (hX : va_X b L xs s H0 ∧ b < H0.size ∧ L ≤ 256) (hbA : ¬ A b) (hS : va_S A H0 H locs) {z : Int} (j : Nat) (hj : z = (j : Int) ∧ j < L) (hdg : decode cc pc = .ok (.iaload, 1))
    (kk : W p l e R s m args below meth c H locs cells slots Q (F0 m (pc + 1) ls (.int (iZ (xs j).toInt) :: rest))) : W p l e R s m args below meth c H locs cells slots Q (F0 m pc ls (.int (iZ z) :: .ref b :: rest)) := by
  refine va_sld hx hb hX.1 hX.2.1 hbA hS (iZ_in hj.1 hj.2 (by omega)) hdg ?_
  rw [iZ_ix hj.1 (by omega)]
  rw [iZ_of] at kk
  exact kk
theorem z_cmpeq (hx : p.tables.exec = Jvm.exec) (hb : c.code = cc) {a b : Int} (h : b = a) {off : Int} {tgt : Nat} (hdg : decode cc pc = .ok (.if_icmp .eq off, 3)) (ht : (pc : Int) + off = (tgt : Int)) (kt : W p l e R s m args below meth c H locs cells slots Q (F0 m tgt ls rest)) : W p l e R s m args below meth c H locs cells slots Q (F0 m pc ls (.int (iZ b) :: .int (iZ a) :: rest)) := by
  subst h
  exact lv_icmp_eq hx hb hdg ht (fun _ => kt) (fun q => absurd rfl q)
end LB
theorem and63 (x : Int32) : ∃ k : Nat, k < 64 ∧ x &&& iZ 63 = iZ ((k : Nat) : Int) := by
  refine ⟨(x.toBitVec &&& 63#32).toNat, ?_, ?_⟩
  · rw [BitVec.toNat_and]
    exact Nat.lt_of_le_of_lt Nat.and_le_right (by decide)
  · rw [iZ_nat]
    apply Int32.toBitVec.inj
    rw [Int32.toBitVec_and, nI_tb, BitVec.ofNat_toNat, BitVec.setWidth_eq]
    rfl
theorem op_t (Y : Nat → ClassId) (h3 kn : Nat) (hk : Nat → Nat) (ix z : Nat) (adk : Nat → Nat) (Kk : Kom) (h : Nat) (ad : Nat → Nat) (K K' : Kom) : opW Y h3 kn hk ((ix : Nat) : Int) ((z : Nat) : Int) ix adk Kk h ad K true K' = paW Y h3 kn hk (((ix + 1) % 10 : Nat) : Int) ((min (z + 1) 10 : Nat) : Int) ++ (cmW Y (hk ix) adk K ++ cmW Y h ad K') := by
  have e1 : ((ix : Nat) : Int) + 1 = ((ix + 1 : Nat) : Int) := by omega
  have e2 : (((ix : Nat) : Int) + 1) % 10 = (((ix + 1) % 10 : Nat) : Int) := by omega
  have e3 : min (((z : Nat) : Int) + 1) 10 = ((min (z + 1) 10 : Nat) : Int) := by omega
  show paW Y h3 kn hk ((((ix : Nat) : Int) + 1) % 10) (min (((z : Nat) : Int) + 1) 10) ++ _ = _
  rw [e2, e3]
  rfl
theorem pm_op : ∀ ix, ix < 10 → List.Perm (List.range 25) ([0, 4, ix + 15, 2] ++ rsI [0, 4, ix + 15, 2]) := by decide
theorem rs_op (Y : Nat → ClassId) (hv g9 : Nat) (u : svU) (af : Nat → Nat) (tx : Nat → Int) (ln pl : Nat) (su : Bool) (tk : Nat) (nu : Int) (K Kto Kt : Kom) (ix z : Nat) (E C M T : Nat → Int) (n9 : Int) (tr tq : Int64) (kp : Nat → Int) (Ki Kk : Nat → Kom) (F : Nat → Int) (A : Kom) (K1 K0 : Kom) (ix1 z1 : Nat) (hi : ix < 10) : (rsI [0, 4, ix + 15, 2]).map (lwC Y hv g9 u af tx ln pl su tk nu K1 Kto Kt ix1 z1 E C M T n9 tr tq kp Ki (va_up Kk ix K0) F A) = (rsI [0, 4, ix + 15, 2]).map (lwC Y hv g9 u af tx ln pl su tk nu K Kto Kt ix z E C M T n9 tr tq kp Ki Kk F A) := by
  rcases (show ix = 0 ∨ ix = 1 ∨ ix = 2 ∨ ix = 3 ∨ ix = 4 ∨ ix = 5 ∨ ix = 6 ∨ ix = 7 ∨ ix = 8 ∨ ix = 9 by omega) with rfl | rfl | rfl | rfl | rfl | rfl | rfl | rfl | rfl | rfl <;> rfl
theorem rs_un (Y : Nat → ClassId) (hv g9 : Nat) (u : svU) (af : Nat → Nat) (tx : Nat → Int) (ln pl : Nat) (su : Bool) (tk : Nat) (nu : Int) (K Kto Kt : Kom) (ix z : Nat) (E C M T : Nat → Int) (n9 : Int) (tr tq : Int64) (kp : Nat → Int) (Ki Kk : Nat → Kom) (F : Nat → Int) (A : Kom) (K1 : Kom) (ix1 z1 j : Nat) (hj : j < 10) : (rsI [0, 4, j + 15, 2]).map (lwC Y hv g9 u af tx ln pl su tk nu K1 Kto Kt ix1 z1 E C M T n9 tr tq kp Ki Kk F A) = (rsI [0, 4, j + 15, 2]).map (lwC Y hv g9 u af tx ln pl su tk nu K Kto Kt ix z E C M T n9 tr tq kp Ki Kk F A) := by
  rcases (show j = 0 ∨ j = 1 ∨ j = 2 ∨ j = 3 ∨ j = 4 ∨ j = 5 ∨ j = 6 ∨ j = 7 ∨ j = 8 ∨ j = 9 by omega) with rfl | rfl | rfl | rfl | rfl | rfl | rfl | rfl | rfl | rfl <;> rfl
theorem oi_moves {tx : Nat → Int} {ln tk : Nat} {K Kto : Kom} {ix z : Nat} {M T : Nat → Int} {n9 : Int} {kp : Nat → Int} {Ki Kk : Nat → Kom} {F : Nat → Int} {A : Kom} (hI : lwI tx ln tk K Kto ix z M T n9 kp Ki Kk F A) {a b : Int} (hf : fMoves K a b = true) : lwI tx ln tk (kMoves K a b) Kto ((ix + 1) % 10) (min (z + 1) 10) M T n9 kp Ki (va_up Kk ix K) (opF F) (opA F A (va_up (A 17) (29 + a).toNat (nbr (kF F A (A 17)) (A 17 (29 + a.toNat)) b))) := by
  have i2 := hI.2.1
  have hvb := mV_b i2.2.2.1
  have hk2 : K 0 2 = A 17 3 := i2.2.1.k2
  have hk3 : K 0 3 = F 15 := i2.2.1.k3
  have hm := i2.2.2.2
  have hf7 : fMoves (kF F A (A 17)) a b = true := (rMoves_c i2.2.1 _ _).2.symm.trans hf
  have ha := (of_decide_eq_true hf).1
  rw [show (29 + a).toNat = 29 + a.toNat by omega]
  have hq : KEq (kF F A (va_up (A 17) (29 + a.toNat) (nbr (kF F A (A 17)) (A 17 (29 + a.toNat)) b))) (kMoves (kF F A (A 17)) a b) := kv6
  have hw7 : cWF (kMoves (kF F A (A 17)) a b) := cWF_moves i2.2.2.1.1 hf7
  have h3 : (va_up (A 17) (29 + a.toNat) (nbr (kF F A (A 17)) (A 17 (29 + a.toNat)) b)) 3 ≤ 5 := by rw [up_ne _ _ (by omega)]; omega
  exact lwI_op hI (cWF_moves i2.1 hf) ((kMoves_c i2.2.1 ha b).t (hq.e (by show (va_up (A 17) (29 + a.toNat) (nbr (kF F A (A 17)) (A 17 (29 + a.toNat)) b)) 3 ≤ 6; omega) (by show F 15 ≤ 7; omega)).s) (mV_of (hq.wf hw7) h3 (Or.inl hm))
theorem oi_prunes {tx : Nat → Int} {ln tk : Nat} {K Kto : Kom} {ix z : Nat} {M T : Nat → Int} {n9 : Int} {kp : Nat → Int} {Ki Kk : Nat → Kom} {F : Nat → Int} {A : Kom} (hI : lwI tx ln tk K Kto ix z M T n9 kp Ki Kk F A) {a b : Int} (hf : fPrunes K a b = true) : lwI tx ln tk (kS K 2 a.toNat (max (K 2 a.toNat - b) 0)) Kto ((ix + 1) % 10) (min (z + 1) 10) M T n9 kp Ki (va_up Kk ix K) (opF F) (opA F A (va_up (A 17) (9 + a).toNat (max ((A 17) (9 + a.toNat) - b) 0))) := by
  have i2 := hI.2.1
  have hvb := mV_b i2.2.2.1
  have hk2 : K 0 2 = A 17 3 := i2.2.1.k2
  have hk3 : K 0 3 = F 15 := i2.2.1.k3
  have hm := i2.2.2.2
  have ha := of_decide_eq_true hf
  rw [show (9 + a).toNat = 9 + a.toNat by omega]
  have hq : KEq (kF F A (va_up (A 17) (9 + a.toNat) (max ((A 17) (9 + a.toNat) - b) 0))) (lowK (kF F A (A 17)) a.toNat b) := by unfold lowK; rw [kF_2 (t := a.toNat) (by omega)]; exact kv2 (by omega)
  have hw7 : cWF (lowK (kF F A (A 17)) a.toNat b) := cWF_low i2.2.2.1.1 (by omega)
  have h3 : (va_up (A 17) (9 + a.toNat) (max ((A 17) (9 + a.toNat) - b) 0)) 3 ≤ 5 := by rw [up_ne _ _ (by omega)]; omega
  exact lwI_op hI (cWF_low i2.1 (by omega)) ((low_c i2.2.1 (t := a.toNat) (by omega) b).t (hq.e (by show (va_up (A 17) (9 + a.toNat) (max ((A 17) (9 + a.toNat) - b) 0)) 3 ≤ 6; omega) (by show F 15 ≤ 7; omega)).s) (mV_of (hq.wf hw7) h3 (Or.inl hm))
theorem oi_grows {tx : Nat → Int} {ln tk : Nat} {K Kto : Kom} {ix z : Nat} {M T : Nat → Int} {n9 : Int} {kp : Nat → Int} {Ki Kk : Nat → Kom} {F : Nat → Int} {A : Kom} (hI : lwI tx ln tk K Kto ix z M T n9 kp Ki Kk F A)  (hf : fGrows K = true) : lwI tx ln tk (kGrows K) Kto ((ix + 1) % 10) (min (z + 1) 10) M T n9 kp Ki (va_up Kk ix K) (opF F) (opA F A (gwN (A 17) (A 17 3).toNat)) := by
  have i2 := hI.2.1
  have hvb := mV_b i2.2.2.1
  have hk2 : K 0 2 = A 17 3 := i2.2.1.k2
  have hk3 : K 0 3 = F 15 := i2.2.1.k3
  have hm := i2.2.2.2
  have ha : K 0 5 < 999 := of_decide_eq_true hf
  have ha7 : kF F A (A 17) 0 5 < 999 := by rw [← i2.2.1.k5]; exact ha
  have hq : KEq (kF F A (gwN (A 17) (A 17 3).toNat)) (kGrows (kF F A (A 17))) := kvG (by omega) (fun t ht => by have := i2.2.2.1.2.2.2.2.1 t ht; omega)
  have hw7 : cWF (kGrows (kF F A (A 17))) := cWF_grows i2.2.2.1.1 ha7
  have h3 : (gwN (A 17) (A 17 3).toNat) 3 ≤ 5 := by rw [gwN_hi _ _ _ (by decide) (by omega)]; omega
  exact lwI_op hI (cWF_grows i2.1 ha) ((kGrows_c i2.2.1).t (hq.e (by show (gwN (A 17) (A 17 3).toNat) 3 ≤ 6; omega) (by show F 15 ≤ 7; omega)).s) (mV_of (hq.wf hw7) h3 (Or.inl hm))
theorem oi_plants {tx : Nat → Int} {ln tk : Nat} {K Kto : Kom} {ix z : Nat} {M T : Nat → Int} {n9 : Int} {kp : Nat → Int} {Ki Kk : Nat → Kom} {F : Nat → Int} {A : Kom} (hI : lwI tx ln tk K Kto ix z M T n9 kp Ki Kk F A) {a b : Int} (hf : fPlants K a b = true) : lwI tx ln tk (adT K a 1 0 b) Kto ((ix + 1) % 10) (min (z + 1) 10) M T n9 kp Ki (va_up Kk ix K) (opF F) (opA F A (plA (A 17) a b)) := by
  have i2 := hI.2.1
  have hvb := mV_b i2.2.2.1
  have hk2 : K 0 2 = A 17 3 := i2.2.1.k2
  have hk3 : K 0 3 = F 15 := i2.2.1.k3
  have hm := i2.2.2.2
  have ha := of_decide_eq_true hf
  have kwh : K 0 0 * K 0 1 = F 13 * F 14 := by rw [i2.2.1.k0, i2.2.1.k1]; rfl
  have hq : KEq (kF F A (plA (A 17) a b)) (adT (kF F A (A 17)) a 1 0 b) := kvA (by omega)
  have hw7 : cWF (adT (kF F A (A 17)) a 1 0 b) := cWF_adT i2.2.2.1.1 (show A 17 3 ≤ 5 by omega) (show 0 ≤ a ∧ a < F 13 * F 14 by omega) (by decide) (by decide) (by omega)
  have h3 : (plA (A 17) a b) 3 ≤ 5 := by show va_up _ 3 (A 17 3 + 1) 3 ≤ 5; rw [up_eq]; omega
  exact lwI_op hI (cWF_adT i2.1 (by omega) (by omega) (by decide) (by decide) (by omega)) ((adT_c i2.2.1 (by omega) _ _ _ _).t (hq.e (by show (plA (A 17) a b) 3 ≤ 6; omega) (by show F 15 ≤ 7; omega)).s) (mV_of (hq.wf hw7) h3 (Or.inl hm))
theorem oi_fells {tx : Nat → Int} {ln tk : Nat} {K Kto : Kom} {ix z : Nat} {M T : Nat → Int} {n9 : Int} {kp : Nat → Int} {Ki Kk : Nat → Kom} {F : Nat → Int} {A : Kom} (hI : lwI tx ln tk K Kto ix z M T n9 kp Ki Kk F A) {a : Int} (hf : fFells K a = true) : lwI tx ln tk (kFells K a) Kto ((ix + 1) % 10) (min (z + 1) 10) M T n9 kp Ki (va_up Kk ix K) (opF F) (opA F A (va_up (va_up (A 17) (24 + a).toNat 1) (9 + a).toNat 0)) := by
  have i2 := hI.2.1
  have hvb := mV_b i2.2.2.1
  have hk2 : K 0 2 = A 17 3 := i2.2.1.k2
  have hk3 : K 0 3 = F 15 := i2.2.1.k3
  have hm := i2.2.2.2
  have ha := of_decide_eq_true hf
  rw [show (9 + a).toNat = 9 + a.toNat by omega, show (24 + a).toNat = 24 + a.toNat by omega]
  have hq0 : KEq (kF F A (va_up (A 17) (24 + a.toNat) 1)) (kS (kF F A (A 17)) 5 a.toNat 1) := kv5 (by omega)
  have hq1 : KEq (kF F A (va_up (va_up (A 17) (24 + a.toNat) 1) (9 + a.toNat) 0)) (kS (kF F A (va_up (A 17) (24 + a.toNat) 1)) 2 a.toNat 0) := kv2 (by omega)
  have hq2 : KEq (kS (kF F A (va_up (A 17) (24 + a.toNat) 1)) 2 a.toNat 0) (kFells (kF F A (A 17)) a) := by
    obtain ⟨q0, q1, q2, q3, q4, q5, q6, q7⟩ := hq0
    refine ⟨q0, q1, fun j hj => ?_, q3, q4, q5, q6, q7⟩
    show va_up (kF F A (va_up (A 17) (24 + a.toNat) 1) 2) a.toNat 0 j = va_up (kF F A (A 17) 2) a.toNat 0 j
    have := q2 j hj
    unfold va_up
    split
    · rfl
    · exact this
  have hq : KEq (kF F A (va_up (va_up (A 17) (24 + a.toNat) 1) (9 + a.toNat) 0)) (kFells (kF F A (A 17)) a) := ⟨fun j hj => (hq1.1 j hj).trans (hq2.1 j hj), fun j hj => (hq1.2.1 j hj).trans (hq2.2.1 j hj), fun j hj => (hq1.2.2.1 j hj).trans (hq2.2.2.1 j hj), fun j hj => (hq1.2.2.2.1 j hj).trans (hq2.2.2.2.1 j hj), fun j hj => (hq1.2.2.2.2.1 j hj).trans (hq2.2.2.2.2.1 j hj), fun j hj => (hq1.2.2.2.2.2.1 j hj).trans (hq2.2.2.2.2.2.1 j hj), fun j hj => (hq1.2.2.2.2.2.2.1 j hj).trans (hq2.2.2.2.2.2.2.1 j hj), fun j hj => (hq1.2.2.2.2.2.2.2 j hj).trans (hq2.2.2.2.2.2.2.2 j hj)⟩
  have hw7 : cWF (kFells (kF F A (A 17)) a) := cWF_fells i2.2.2.1.1 a
  have h3 : (va_up (va_up (A 17) (24 + a.toNat) 1) (9 + a.toNat) 0) 3 ≤ 5 := by rw [up_ne _ _ (by omega), up_ne _ _ (by omega)]; omega
  exact lwI_op hI (cWF_fells i2.1 a) ((kFells_c i2.2.1 a).t (hq.e (by show (va_up (va_up (A 17) (24 + a.toNat) 1) (9 + a.toNat) 0) 3 ≤ 6; omega) (by show F 15 ≤ 7; omega)).s) (mV_of (hq.wf hw7) h3 (Or.inl hm))
theorem oi_winter {tx : Nat → Int} {ln tk : Nat} {K Kto : Kom} {ix z : Nat} {M T : Nat → Int} {n9 : Int} {kp : Nat → Int} {Ki Kk : Nat → Kom} {F : Nat → Int} {A : Kom} (hI : lwI tx ln tk K Kto ix z M T n9 kp Ki Kk F A) {a : Int} (hf : fWint a = true) : lwI tx ln tk (kS K 0 6 a) Kto ((ix + 1) % 10) (min (z + 1) 10) M T n9 kp Ki (va_up Kk ix K) (opF F) (opA F A (va_up (A 17) 2 a)) := by
  have i2 := hI.2.1
  have hvb := mV_b i2.2.2.1
  have hk2 : K 0 2 = A 17 3 := i2.2.1.k2
  have hk3 : K 0 3 = F 15 := i2.2.1.k3
  have hm := i2.2.2.2
  have ha := of_decide_eq_true hf
  have hq : KEq (kF F A (va_up (A 17) 2 a)) (kS (kF F A (A 17)) 0 6 a) := kvW
  have hw7 : cWF (kS (kF F A (A 17)) 0 6 a) := cWF_wint i2.2.2.1.1 ha
  have h3 : (va_up (A 17) 2 a) 3 ≤ 5 := by rw [up_ne _ _ (by decide)]; omega
  exact lwI_op hI (cWF_wint i2.1 ha) ((k0_c i2.2.1 (by decide) (by decide) a).t (hq.e (by show (va_up (A 17) 2 a) 3 ≤ 6; omega) (by show F 15 ≤ 7; omega)).s) (mV_of (hq.wf hw7) h3 (Or.inl hm))
theorem oi_sun {tx : Nat → Int} {ln tk : Nat} {K Kto : Kom} {ix z : Nat} {M T : Nat → Int} {n9 : Int} {kp : Nat → Int} {Ki Kk : Nat → Kom} {F : Nat → Int} {A : Kom} (hI : lwI tx ln tk K Kto ix z M T n9 kp Ki Kk F A) {a : Int} (hf : fSun a = true) : lwI tx ln tk (kS K 0 4 a) Kto ((ix + 1) % 10) (min (z + 1) 10) M T n9 kp Ki (va_up Kk ix K) (opF F) (opA F A (va_up (A 17) 1 a)) := by
  have i2 := hI.2.1
  have hvb := mV_b i2.2.2.1
  have hk2 : K 0 2 = A 17 3 := i2.2.1.k2
  have hk3 : K 0 3 = F 15 := i2.2.1.k3
  have hm := i2.2.2.2
  have ha := of_decide_eq_true hf
  have hq : KEq (kF F A (va_up (A 17) 1 a)) (kS (kF F A (A 17)) 0 4 a) := kvS
  have hw7 : cWF (kS (kF F A (A 17)) 0 4 a) := cWF_sun i2.2.2.1.1 ha
  have h3 : (va_up (A 17) 1 a) 3 ≤ 5 := by rw [up_ne _ _ (by decide)]; omega
  exact lwI_op hI (cWF_sun i2.1 ha) ((sun_c i2.2.1 a).t (hq.e (by show (va_up (A 17) 1 a) 3 ≤ 6; omega) (by show F 15 ≤ 7; omega)).s) (mV_of (hq.wf hw7) h3 (Or.inl hm))
