/-! ===== what is asked: the numbers ===== -/
abbrev eQ (G : va_G) (ws : va_W) (v : Option Value) (W1 : Kom → va_W) : Array Value → State → Outcome → State → Prop := fun _ st oc t => oc = .returned v ∧ (∃ u : Kom, va_P G vwCl (W1 u) t.heap) ∧ va_F (fun q => q ∈ ws.map Prod.fst) st t
section ZG
variable {p : Program} {l : Launch} {e : Env} {R : Room} {s : State} {m : MethodId} {args : Array Value} {below : List Frame} {meth : Method} {c : Code} {H : Heap} {locs : List Loc} {cells slots : Nat} {Q : State → Prop}
variable {cc : ByteArray} {pc : Nat} {ls : Array Slot} {rest st0 : List Value} {a : Array Value}
theorem eu_go {G : va_G} {C F : va_W} {W1 : Kom → va_W} {v : Option Value} {A : Nat → Prop} {H0 : Heap} (hr : va_Run p l e R s m args below meth c H locs cells slots 0 0 (F0 m pc ls st0) rest (eQ G C v W1 a) (fun q => q ∈ C.map Prod.fst))
    (hP : va_P G vwCl (C ++ F) H) (hD : va_D A (C ++ F)) (hS : va_S A H0 H locs) (hC : ∀ u, (W1 u).map Prod.fst = C.map Prod.fst)
    (kk : ∀ (u : Kom) (H1 : Heap) (locs1 : List Loc), va_P G vwCl (W1 u ++ F) H1 → va_D A (W1 u ++ F) → va_S A H0 H1 locs1 → W p l e R s m args below meth c H1 locs1 cells slots Q (F0 m (pc + 3) ls (v.toList ++ rest))) : W p l e R s m args below meth c H locs cells slots Q (F0 m pc ls st0) := by
  intro T hT X
  obtain ⟨v', st₀, t, T', L, h0, X', hL, e1, -, ⟨hv, ⟨u, hP1⟩, hz, hk⟩, st⟩ := hr T hT X
  cases hv
  rw [h0] at hz hk
  have hAC : ∀ q : Nat, q ∈ C.map Prod.fst → A q := by
    intro q hq
    obtain ⟨x, hx, rfl⟩ := List.mem_map.mp hq
    obtain ⟨i, hi⟩ := List.getElem?_of_mem (List.mem_append_left F hx)
    exact hD.2 i x hi
  have hPF : va_P G vwCl F t.heap := by
    intro k q hq
    have h1 : (C ++ F)[C.length + k]? = some q := by rw [List.getElem?_append_right (Nat.le_add_right _ _)]; simpa using hq
    have h2 := hP _ _ h1
    refine h2.kept (hk q.1 h2.lt (fun hm => ?_))
    obtain ⟨x, hx, hxq⟩ := List.mem_map.mp hm
    obtain ⟨i, hi⟩ := List.getElem?_of_mem hx
    have hlt : i < C.length := (List.getElem?_eq_some_iff.mp hi).1
    have h3 : (C ++ F)[i]? = some x := by rw [List.getElem?_append_left hlt]; exact hi
    have h4 := hD.1 _ _ _ _ h3 h1 hxq
    omega
  have hD' : va_D A (W1 u ++ F) := va_D_congr (by rw [List.map_append, List.map_append, hC]) hD
  obtain ⟨t2, a1, b1⟩ := kk u T'.heap (locs ++ L) (by rw [e1]; exact va_P.app hP1 hPF) hD'
    ⟨Nat.le_trans hS.1 (by rw [e1]; exact hz), fun q h1 h2 => by rw [e1, hk q (Nat.lt_of_lt_of_le h1 hS.1) (fun z => h2 (hAC q z))]; exact hS.2.1 q h1 h2, fun q hq => by
      rcases List.mem_append.mp hq with h | h
      · exact hS.2.2 q h
      · exact hAC _ (hL q h)⟩ T' rfl X'
  exact ⟨t2, st t2 a1, b1⟩
variable {G : va_G} {Y : Nat → ClassId} {y : MethodName} {bytes : ByteArray} {maxL nL n index : Nat} {ret : Option FieldType} {ws : List Cond} {rm : Room} {Ts : List Cond} {own C : String} {b : Addr} {As : List Value} {T : u_T} {N ci : Nat} {fs : List Value}
theorem eu_V {wc F : va_W} {W1 : Kom → va_W} {v : Option Value} {A : Nat → Prop} {H0 : Heap} (S : CallFix p m c cc nL s args Ts own) (hM : Met l y ws rm (mP G Y (.ref b :: As) wc) (eQ G wc v W1) 0 0 (fun q => q ∈ wc.map Prod.fst)) (cw : CallW R s args own C index y bytes maxL ret ws rm 0 0 n) (hK : wK G Y s) (hP : va_P G vwCl (wc ++ F) H) (hD : va_D A (wc ++ F)) (hS : va_S A H0 H locs) (q0 : Nat) (he : wc[q0]? = some (b, .inr (ci, fs))) (hc : vwCl[ci]? = some (C, T, N)) (hC : ∀ u, (W1 u).map Prod.fst = wc.map Prod.fst) (hn : As.length = n) (hsize : ls.size = nL) (hst : st0 = As.reverse ++ .ref b :: rest) (hw : (rest.map fun v => v.category).sum ≤ 8) (hdg : decode cc pc = .ok (.invokevirtual index, 3)) (hf : cells ≤ R.cells ∧ slots ≤ R.slots)
    (kk : ∀ (u : Kom) (H1 : Heap) (locs1 : List Loc), va_P G vwCl (W1 u ++ F) H1 → va_D A (W1 u ++ F) → va_S A H0 H1 locs1 → W p l e R s m args below meth c H1 locs1 cells slots Q (F0 m (pc + 3) ls (v.toList ++ rest))) : W p l e R s m args below meth c H locs cells slots Q (F0 m pc ls st0) := by
  have hPc : va_P G vwCl wc H := fun k q hk => hP k q (by rw [List.getElem?_append_left (List.getElem?_eq_some_iff.mp hk).1]; exact hk)
  have hDc : va_D (fun _ => True) wc := by
    refine ⟨fun i j x z hi hj => hD.1 i j x z ?_ ?_, fun _ _ _ => trivial⟩
    · rw [List.getElem?_append_left (List.getElem?_eq_some_iff.mp hi).1]; exact hi
    · rw [List.getElem?_append_left (List.getElem?_eq_some_iff.mp hj).1]; exact hj
  exact eu_go (va_runV S hM cw ⟨mP_blind, va_recv hK.1 hPc hc he, fun U hU hW => ⟨rfl, hK.moved hW, by rw [hU]; exact hPc, hDc⟩⟩ rfl hn hsize hst (lv_room hw) hdg hf) hP hD hS hC kk
theorem z_ishlb (hx : p.tables.exec = Jvm.exec) (hb : c.code = cc) {k : Nat} {y : Int} {b9 : Bool} (hdg : decode cc pc = .ok (.ishl, 1)) (hk : y = (k : Int) ∧ k < 31) (kk : W p l e R s m args below meth c H locs cells slots Q (F0 m (pc + 1) ls (.int (iZ (((if b9 then 2 ^ k else 0) : Nat) : Int)) :: rest))) : W p l e R s m args below meth c H locs cells slots Q (F0 m pc ls (.int (iZ y) :: .int (iZ (bZ b9)) :: rest)) := by
  obtain ⟨rfl, hk⟩ := hk
  refine lv_ishl hx hb hdg ?_
  cases b9 with
  | true => rw [bZ_t, iZ_shl1 hk]; exact kk
  | false =>
    have e0 : iZ (bZ false) <<< (iZ (k : Int) &&& 31) = iZ ((0 : Nat) : Int) := by
      rw [bZ_f, iZ_nat, show iZ 0 = nI 0 from iZ_nat 0, pk_shlN (n := 0) _ k (sh_l k (by omega)) (by omega), Nat.zero_mul, iZ_nat]
    rw [e0]; exact kk
end ZG
abbrev quW (Y : Nat → ClassId) (h4 ht va vb : Nat) (E C : Nat → Int) : va_W := [(h4, .inr (3, [.ref ht, .ref va, .ref vb])), (va, .inl (Y 0, 7, .inl (aI E))), (vb, .inl (Y 0, 7, .inl (aI C)))]
abbrev qoW (_ : Nat → ClassId) (h4 ht va vb : Nat) : va_W := [(h4, .inr (3, [.ref ht, .ref va, .ref vb]))]
def bvN (K : Kom) (a : Int) (mo : Nat) (k : Int) : Nat → Int
  | 0 => -1
  | i + 1 => if stp K a i ≤ k then max (bvN K a mo k i) (vo K i mo) else bvN K a mo k i
theorem bvN_in (K : Kom) (a : Int) (mo : Nat) (k : Int) (i : Nat) : -1 ≤ bvN K a mo k i ∧ bvN K a mo k i ≤ 1 := by
  induction i with
  | zero => simp [bvN]
  | succ i ih =>
    have := vo_in K i mo
    simp only [bvN]
    split <;> omega
def bv (K : Kom) (p9 mo : Nat) (k : Int) : Int := bvN K (K 6 p9) mo k (K 0 0 * K 0 1).toNat * K 7 p9
theorem bv_in {K : Kom} (hW : cWF K) (p9 mo : Nat) (k : Int) (hp : p9 < 7) : -4 ≤ bv K p9 mo k ∧ bv K p9 mo k ≤ 4 := by
  have h1 := hW.2.2.1 p9 hp
  have h2 := bvN_in K (K 6 p9) mo k (K 0 0 * K 0 1).toNat
  unfold bv
  generalize bvN K (K 6 p9) mo k (K 0 0 * K 0 1).toNat = x at h2 ⊢
  have h3 : x = -1 ∨ x = 0 ∨ x = 1 := by omega
  rcases h3 with h | h | h <;> rw [h] <;> omega
def svN (E C : Nat → Int) (ch : Nat) : Nat → Int
  | 0 => 0
  | i + 1 => svN E C ch i + (if ch.testBit i then C i else E i)
theorem svN_congr {E C E' C' : Nat → Int} (ch n : Nat) (h1 : agr E E' n) (h2 : agr C C' n) : svN E C ch n = svN E' C' ch n := by
  induction n with
  | zero => rfl
  | succ n ih => rw [svN, svN, ih (fun j hj => h1 j (by omega)) (fun j hj => h2 j (by omega)), h1 n (by omega), h2 n (by omega)]
theorem svN_in {E C : Nat → Int} (ch n : Nat) (h : ∀ j, j < n → (-4 ≤ E j ∧ E j ≤ 4) ∧ -4 ≤ C j ∧ C j ≤ 4) : -4 * n ≤ svN E C ch n ∧ svN E C ch n ≤ 4 * n := by
  induction n with
  | zero => simp [svN]
  | succ n ih =>
    have h1 := ih (fun j hj => h j (by omega))
    have h2 := h n (by omega)
    simp only [svN]
    split <;> omega
def fmS (E C : Nat → Int) (n : Nat) : Nat → Int × Int
  | 0 => (-9, 8)
  | ch + 1 => if ((pcN ch 7 : Nat) : Int) < (fmS E C n ch).2 ∧ 0 < svN E C ch n then ((ch : Int), ((pcN ch 7 : Nat) : Int)) else fmS E C n ch
theorem fmS_t {E C : Nat → Int} {n ch : Nat} (h1 : ((pcN ch 7 : Nat) : Int) < (fmS E C n ch).2) (h2 : 0 < svN E C ch n) : fmS E C n (ch + 1) = ((ch : Int), ((pcN ch 7 : Nat) : Int)) := by rw [fmS, if_pos ⟨h1, h2⟩]
theorem fmS_f1 {E C : Nat → Int} {n ch : Nat} (h1 : (fmS E C n ch).2 ≤ ((pcN ch 7 : Nat) : Int)) : fmS E C n (ch + 1) = fmS E C n ch := by rw [fmS, if_neg (fun h => absurd h.1 (by omega))]
theorem fmS_f2 {E C : Nat → Int} {n ch : Nat} (h1 : svN E C ch n ≤ 0) : fmS E C n (ch + 1) = fmS E C n ch := by rw [fmS, if_neg (fun h => absurd h.2 (by omega))]
theorem fmS_in (E C : Nat → Int) (n ch : Nat) : 0 ≤ (fmS E C n ch).2 ∧ (fmS E C n ch).2 ≤ 8 := by
  induction ch with
  | zero => simp [fmS]
  | succ ch ih =>
    have := pcN_le ch 7
    simp only [fmS]
    split
    · dsimp only; omega
    · exact ih
def fm (K : Kom) (mo : Nat) (k : Int) : Int := (fmS (fun j => vt K j mo) (fun j => bv K j mo k) (K 0 3).toNat (2 ^ (K 0 3).toNat)).1
theorem bc_ch {ch : Nat} (h : ch < 128) : bcI (iZ (ch : Int)) = iZ ((pcN ch 7 : Nat) : Int) := by rw [iZ_nat, iZ_nat]; exact bcI_128 ch h
theorem p2_in : ∀ n, n ≤ 7 → 2 ^ n ≤ 128 ∧ 1 ≤ 2 ^ n := by decide
/-- the first i below n with g, or -9 -/
def fnd (g : Nat → Bool) : Nat → Int
  | 0 => -9
  | i + 1 => if 0 ≤ fnd g i then fnd g i else if g i then (i : Int) else -9
theorem fnd_no {g : Nat → Bool} {i : Nat} (h : fnd g i = -9) (q : g i = false) : fnd g (i + 1) = -9 := by rw [fnd, h, q]; rfl
theorem fnd_at {g : Nat → Bool} {i n : Nat} (h : fnd g i = -9) (q : g i = true) (hn : i < n) : fnd g n = (i : Int) := by
  induction n with
  | zero => omega
  | succ n ih =>
    rw [fnd]
    by_cases e : i = n
    · subst e
      rw [h, q]; rfl
    · rw [ih (by omega), if_pos (by omega)]
theorem fnd_in (g : Nat → Bool) (n : Nat) : fnd g n = -9 ∨ (0 ≤ fnd g n ∧ fnd g n < n) := by
  induction n with
  | zero => exact Or.inl rfl
  | succ n ih =>
    rw [fnd]
    split
    · right; omega
    · split
      · right; omega
      · exact Or.inl rfl
def lowK (K : Kom) (t : Nat) (n : Int) : Kom := kS K 2 t (max (K 2 t - n) 0)
def pr1 (K : Kom) (mo : Nat) (n : Int) : Int := fnd (fun t => crd (lowK K t n) mo) (K 0 2).toNat
def prS (K : Kom) (mo : Nat) : Nat → Int
  | 0 => -9
  | n + 1 => if 0 ≤ prS K mo n then prS K mo n else if 0 ≤ pr1 K mo ((n + 1 : Nat) : Int) then 100 * pr1 K mo ((n + 1 : Nat) : Int) + ((n + 1 : Nat) : Int) else -9
theorem prS_no {K : Kom} {mo n : Nat} (h : prS K mo n = -9) (q : pr1 K mo ((n + 1 : Nat) : Int) = -9) : prS K mo (n + 1) = -9 := by rw [prS, h, q]; rfl
theorem prS_at {K : Kom} {mo i n : Nat} {t : Nat} (h : prS K mo i = -9) (q : pr1 K mo ((i + 1 : Nat) : Int) = (t : Int)) (hn : i < n) : prS K mo n = 100 * (t : Int) + ((i + 1 : Nat) : Int) := by
  induction n with
  | zero => omega
  | succ n ih =>
    rw [prS]
    by_cases e : i = n
    · subst e
      rw [h, if_neg (by omega), q, if_pos (by omega)]
    · rw [ih (by omega), if_pos (by omega)]
def lpr (K : Kom) (mo : Nat) : Int := if crd K mo then 0 else prS K mo 20
theorem cWF_low {K : Kom} (hW : cWF K) {t : Nat} {n : Int} (hn : 0 ≤ n) : cWF (lowK K t n) := by
  refine ⟨hW.1, fun j hj => ?_, hW.2.2.1, hW.2.2.2.1, hW.2.2.2.2⟩
  have h := hW.2.1 j hj
  show 0 ≤ K 1 j ∧ K 1 j ≤ 19 ∧ 0 ≤ va_up (K 2) t (max (K 2 t - n) 0) j ∧ va_up (K 2) t (max (K 2 t - n) 0) j ≤ 20 ∧ 0 ≤ K 3 j ∧ K 3 j ≤ 7 ∧ 0 ≤ K 4 j ∧ K 4 j ≤ 1 ∧ 0 ≤ K 5 j ∧ K 5 j ≤ 1
  by_cases e : j = t
  · subst e
    rw [up_eq]
    omega
  · rw [up_ne _ _ e]
    exact h
theorem cWF_sun {K : Kom} (hW : cWF K) {s : Int} (hs : 1 ≤ s ∧ s ≤ 9) : cWF (kS K 0 4 s) := by
  have h0 := hW.1
  refine ⟨?_, hW.2.1, hW.2.2.1, hW.2.2.2.1, hW.2.2.2.2⟩
  show 2 ≤ K 0 0 ∧ K 0 0 ≤ 5 ∧ 2 ≤ K 0 1 ∧ K 0 1 ≤ 4 ∧ 0 ≤ K 0 2 ∧ K 0 2 ≤ 6 ∧ 0 ≤ K 0 3 ∧ K 0 3 ≤ 7 ∧ 1 ≤ s ∧ s ≤ 9 ∧ 0 ≤ K 0 5 ∧ K 0 5 ≤ 999 ∧ 0 ≤ K 0 6 ∧ K 0 6 ≤ 1
  omega
theorem cWF_adT {K : Kom} (hW : cWF K) (ht : K 0 2 ≤ 5) {a h e w : Int} (ha : 0 ≤ a ∧ a < K 0 0 * K 0 1) (hh : 0 ≤ h ∧ h ≤ 20) (he : 0 ≤ e ∧ e ≤ 1) (hw : 0 ≤ w ∧ w ≤ 7) : cWF (adT K a h e w) := by
  have h0 := hW.1
  have hnc := hW.nc
  refine ⟨?_, fun j hj => ?_, hW.2.2.1, fun j hj => ?_, hW.2.2.2.2⟩
  · show 2 ≤ K 0 0 ∧ K 0 0 ≤ 5 ∧ 2 ≤ K 0 1 ∧ K 0 1 ≤ 4 ∧ 0 ≤ K 0 2 + 1 ∧ K 0 2 + 1 ≤ 6 ∧ 0 ≤ K 0 3 ∧ K 0 3 ≤ 7 ∧ 1 ≤ K 0 4 ∧ K 0 4 ≤ 9 ∧ 0 ≤ K 0 5 ∧ K 0 5 ≤ 999 ∧ 0 ≤ K 0 6 ∧ K 0 6 ≤ 1
    omega
  · have q := hW.2.1 j hj
    show 0 ≤ va_up (K 1) (K 0 2).toNat a j ∧ va_up (K 1) (K 0 2).toNat a j ≤ 19 ∧ 0 ≤ va_up (K 2) (K 0 2).toNat h j ∧ va_up (K 2) (K 0 2).toNat h j ≤ 20 ∧ 0 ≤ va_up (K 3) (K 0 2).toNat w j ∧ va_up (K 3) (K 0 2).toNat w j ≤ 7 ∧ 0 ≤ va_up (K 4) (K 0 2).toNat e j ∧ va_up (K 4) (K 0 2).toNat e j ≤ 1 ∧ 0 ≤ va_up (K 5) (K 0 2).toNat 0 j ∧ va_up (K 5) (K 0 2).toNat 0 j ≤ 1
    by_cases e9 : j = (K 0 2).toNat
    · subst e9
      rw [up_eq, up_eq, up_eq, up_eq, up_eq]
      omega
    · rw [up_ne _ _ e9, up_ne _ _ e9, up_ne _ _ e9, up_ne _ _ e9, up_ne _ _ e9]
      exact q
  · show va_up (K 1) (K 0 2).toNat a j < K 0 0 * K 0 1
    have hj2 : (j : Int) < K 0 2 + 1 := hj
    by_cases e9 : j = (K 0 2).toNat
    · subst e9
      rw [up_eq]
      omega
    · rw [up_ne _ _ e9]
      exact hW.2.2.2.1 j (by omega)
def ctG (K : Kom) (mo : Nat) (n : Int) (i : Nat) : Bool := !htA K i (K 0 2).toNat && crd (adT K i n 1 ((2 ^ mo : Nat) : Int)) mo
theorem p2w : ∀ mo, mo ≤ 2 → 2 ^ mo ≤ 7 := by decide
def snN (g : Nat → Bool) : Nat → Nat
  | 0 => 0
  | i + 1 => snN g i ||| (if g (i + 1) then 2 ^ i else 0)
theorem snN_lt (g : Nat → Bool) (n : Nat) : snN g n < 2 ^ n := by
  induction n with
  | zero => simp [snN]
  | succ n ih =>
    rw [snN]
    have h2 : 2 ^ n < 2 ^ (n + 1) := Nat.pow_lt_pow_right (by decide) (by omega)
    refine Nat.or_lt_two_pow (by omega) ?_
    split <;> omega
def swN (K : Kom) (mo : Nat) : Nat → Nat
  | 0 => 0
  | i + 1 => if decide (0 < wb K mo 1 - wb K mo (-1) - vt K i mo) ≠ decide (0 < wb K mo 1 - wb K mo (-1)) then swN K mo i ||| 2 ^ i else swN K mo i
def nsS (K : Kom) (a : Int) : Nat → Int × Int
  | 0 => (-9, K 0 0 * K 0 1)
  | i + 1 => if stp K a i < (nsS K a i).2 ∧ 0 < sdN K i (K 0 2).toNat then ((i : Int), stp K a i) else nsS K a i
theorem nsS_t {K : Kom} {a : Int} {i : Nat} (h1 : stp K a i < (nsS K a i).2) (h2 : 0 < sdN K i (K 0 2).toNat) : nsS K a (i + 1) = ((i : Int), stp K a i) := by rw [nsS, if_pos ⟨h1, h2⟩]
theorem nsS_f1 {K : Kom} {a : Int} {i : Nat} (h1 : (nsS K a i).2 ≤ stp K a i) : nsS K a (i + 1) = nsS K a i := by rw [nsS, if_neg (fun h => absurd h.1 (by omega))]
theorem nsS_f2 {K : Kom} {a : Int} {i : Nat} (h1 : sdN K i (K 0 2).toNat ≤ 0) : nsS K a (i + 1) = nsS K a i := by rw [nsS, if_neg (fun h => absurd h.2 (by omega))]
theorem nsS_in {K : Kom} (hW : cWF K) {a : Int} (ha : 0 ≤ a ∧ a ≤ 19) (i : Nat) (hi : i ≤ 20) : 0 ≤ (nsS K a i).2 ∧ (nsS K a i).2 ≤ 100 := by
  have hnc := hW.nc
  induction i with
  | zero => simp only [nsS]; omega
  | succ i ih =>
    have h1 := stp_in hW (a := a) (b := i) ha (by omega)
    have h2 := ih (by omega)
    simp only [nsS]
    split
    · dsimp only; omega
    · exact h2
/-- in how many chances it is carried, of the first who come -/
def chN (C : Nat → Int) (n : Nat) (q : Int) : Nat → Int
  | 0 => 0
  | ch + 1 => if 0 < svN (fun _ => 0) C ch n then chN C n q ch + q ^ (pcN ch 7) * (10 - q) ^ (n - pcN ch 7) else chN C n q ch
def fE (K : Kom) (mo : Nat) : Nat → Int := fun j => vt K j mo
def fC (K : Kom) (mo : Nat) (k : Int) : Nat → Int := fun j => bv K j mo k
def fZ : Nat → Int := fun _ => 0
def hgG (K : Kom) (mo i : Nat) : Bool := decide (0 < cdW K mo 0 (((i + 1 : Nat) : Int) - 1) (K 0 3).toNat) && decide (0 < cdW K mo ((i + 1 : Nat) : Int) (K 0 0 - 1) (K 0 3).toNat)
def hgC (K : Kom) (mo : Nat) : Int := if 0 ≤ fnd (hgG K mo) (K 0 0 - 1).toNat then fnd (hgG K mo) (K 0 0 - 1).toNat + 1 else -9
theorem swN_t {K : Kom} {mo i : Nat} (h : (0 < wb K mo 1 - wb K mo (-1) - vt K i mo ∧ ¬ 0 < wb K mo 1 - wb K mo (-1)) ∨ (¬ 0 < wb K mo 1 - wb K mo (-1) - vt K i mo ∧ 0 < wb K mo 1 - wb K mo (-1))) : swN K mo (i + 1) = swN K mo i ||| 2 ^ i := by
  rw [swN, if_pos]
  rcases h with ⟨h1, h2⟩ | ⟨h1, h2⟩
  · rw [decide_eq_true h1, decide_eq_false h2]; decide
  · rw [decide_eq_false h1, decide_eq_true h2]; decide
theorem swN_f {K : Kom} {mo i : Nat} (h : (0 < wb K mo 1 - wb K mo (-1) - vt K i mo ∧ 0 < wb K mo 1 - wb K mo (-1)) ∨ (¬ 0 < wb K mo 1 - wb K mo (-1) - vt K i mo ∧ ¬ 0 < wb K mo 1 - wb K mo (-1))) : swN K mo (i + 1) = swN K mo i := by
  rw [swN, if_neg]
  rcases h with ⟨h1, h2⟩ | ⟨h1, h2⟩
  · rw [decide_eq_true h1, decide_eq_true h2]; decide
  · rw [decide_eq_false h1, decide_eq_false h2]; decide
theorem pcN_n : ∀ n, n ≤ 7 → ∀ ch, ch < 2 ^ n → pcN ch 7 ≤ n := by decide +kernel
def snG (K : Kom) (mo : Nat) (i : Nat) : Bool := crd (kS K 0 4 (i : Int)) mo
def snH (K : Kom) (M T : Nat → Int) (n : Nat) (i : Nat) : Bool := soN (kS K 0 4 (i : Int)) M T n
def ecU (E C : Nat → Int) : Kom
  | 0 => E
  | _ => C
theorem ctG_f1 {K : Kom} {mo : Nat} {n : Int} {i : Nat} (h : htA K (i : Int) (K 0 2).toNat = true) : ctG K mo n i = false := by unfold ctG; rw [h]; rfl
theorem ctG_f2 {K : Kom} {mo : Nat} {n : Int} {i : Nat} (h : crd (adT K (i : Int) n 1 ((2 ^ mo : Nat) : Int)) mo = false) : ctG K mo n i = false := by unfold ctG; rw [h, Bool.and_false]
theorem ctG_t {K : Kom} {mo : Nat} {n : Int} {i : Nat} (h : htA K (i : Int) (K 0 2).toNat = false) (h2 : crd (adT K (i : Int) n 1 ((2 ^ mo : Nat) : Int)) mo = true) : ctG K mo n i = true := by unfold ctG; rw [h, h2]; rfl
