/-! ===== the reference's ways of reckoning and the class's are one ===== -/
theorem xMot_eq (K : Kom) (a b : Int) : xMot K a b = rMot K a b := by
  unfold xMot rMot
  have h := bl_all K a.toNat (K 0 3).toNat (K 0 3).toNat (Nat.le_refl _)
  by_cases c1 : 0 ≤ a ∧ a ≤ 2
  · rw [if_pos c1]
    by_cases c2 : 0 ≤ b ∧ b ≤ 2
    · rw [if_pos ⟨c1, c2⟩]
      rcases (show b = 0 ∨ b = 1 ∨ b = 2 by omega) with rfl | rfl | rfl
      · rfl
      · rw [if_neg (by decide), if_pos rfl, if_neg (by decide), if_pos rfl, h]
        unfold wb
        omega
      · rw [if_neg (show ¬ (2 : Int) = 0 by decide), if_neg (show ¬ (2 : Int) = 1 by decide), if_neg (show ¬ (2 : Int) = 0 by decide), if_neg (show ¬ (2 : Int) = 1 by decide), if_pos rfl, bl_crd]
        unfold bZ
        by_cases q : 0 < blN K a.toNat (2 ^ (K 0 3).toNat - 1) (K 0 3).toNat
        · rw [if_pos q, if_pos (decide_eq_true q)]
        · rw [if_neg q, if_neg (by rw [decide_eq_false q]; exact Bool.false_ne_true)]
    · rw [if_neg (fun z => c2 z.2), if_neg (by omega), if_neg (by omega), if_neg (by omega)]
  · rw [if_neg (fun z => c1 z.1), if_neg c1]
theorem bl_cd {K : Kom} (mo : Nat) {z : Nat} {a b : Int} (n : Nat) (h : ∀ i : Nat, i < n → (z.testBit i = true ↔ a ≤ K 6 i % K 0 0 ∧ K 6 i % K 0 0 ≤ b)) : blN K mo z n = cdW K mo a b n := by
  induction n with
  | zero => rfl
  | succ n ih =>
    rw [blN, cdW, ih (fun i hi => h i (by omega))]
    have h1 := h n (by omega)
    by_cases q : z.testBit n = true
    · rw [if_pos q, if_pos (h1.mp q)]
      unfold vt
      rw [Int.mul_comm]
    · rw [if_neg q, if_neg (fun z => q (h1.mpr z)), Int.add_zero]
theorem hw_bit (K : Kom) (x : Int) (n j : Nat) : (hwN K x n).testBit j = true ↔ j < n ∧ K 6 j % K 0 0 < x := by
  induction n with
  | zero => simp [hwN]
  | succ n ih =>
    rw [hwN, Nat.testBit_or, Bool.or_eq_true, ih]
    by_cases h : K 6 n % K 0 0 < x
    · rw [if_pos h, Nat.testBit_two_pow, decide_eq_true_iff]
      constructor
      · rintro (h1 | rfl)
        · exact ⟨by omega, h1.2⟩
        · exact ⟨by omega, h⟩
      · rintro ⟨h1, h2⟩
        by_cases q : j = n
        · exact Or.inr q.symm
        · exact Or.inl ⟨by omega, h2⟩
    · rw [if_neg h, Nat.zero_testBit]
      constructor
      · rintro (h1 | h1)
        · exact ⟨by omega, h1.2⟩
        · exact absurd h1 Bool.false_ne_true
      · rintro ⟨h1, h2⟩
        left
        refine ⟨?_, h2⟩
        by_cases q : j = n
        · subst q; exact absurd h2 h
        · omega
theorem ev_bit {m z j : Nat} (h : j < m) : ((2 ^ m - 1) ^^^ ((2 ^ m - 1) &&& z)).testBit j = !z.testBit j := by
  rw [Nat.testBit_xor, Nat.testBit_and, Nat.testBit_two_pow_sub_one, decide_eq_true h]
  cases z.testBit j <;> rfl
theorem xHedge_eq {K : Kom} (hW : cWF K) (a : Int) : xHedge K a = rHedge K a := by
  have h0 := hW.1
  have hg : hxG K a.toNat = hgG K a.toNat := by
    funext i
    unfold hxG hgG evb
    have hc : ∀ j : Nat, j < (K 0 3).toNat → 0 ≤ K 6 j % K 0 0 ∧ K 6 j % K 0 0 < K 0 0 := fun j hj => by
      have := hW.2.2.1 j (by omega)
      have := dm_in (c := K 6 j) (w := K 0 0) (by omega) (by omega)
      omega
    rw [bl_cd (a := 0) (b := ((i + 1 : Nat) : Int) - 1) a.toNat (K 0 3).toNat (fun j hj => by
      rw [hw_bit]
      have := hc j hj
      omega), bl_cd (a := ((i + 1 : Nat) : Int)) (b := K 0 0 - 1) a.toNat (K 0 3).toNat (fun j hj => by
      rw [ev_bit hj]
      have h1 := hw_bit K ((i + 1 : Nat) : Int) (K 0 3).toNat j
      have := hc j hj
      cases hb : (hwN K ((i + 1 : Nat) : Int) (K 0 3).toNat).testBit j with
      | true =>
        rw [hb] at h1
        have h2 := h1.mp rfl
        constructor
        · intro h; exact absurd h Bool.false_ne_true
        · intro h; omega
      | false =>
        rw [hb] at h1
        have h2 : ¬ (j < (K 0 3).toNat ∧ K 6 j % K 0 0 < ((i + 1 : Nat) : Int)) := fun z => absurd (h1.mpr z) Bool.false_ne_true
        constructor
        · intro _; omega
        · intro _; rfl)]
  unfold xHedge rHedge hgC
  rw [hg]
theorem bl_minus (K : Kom) (mo i m n : Nat) (hn : n ≤ m) : blN K mo ((2 ^ m - 1) ^^^ ((2 ^ m - 1) &&& 2 ^ i)) n = blN K mo (2 ^ m - 1) n - (if i < n then vt K i mo else 0) := by
  induction n with
  | zero => rfl
  | succ n ih =>
    rw [blN, blN, ih (by omega), ev_bit (by omega), Nat.testBit_two_pow, Nat.testBit_two_pow_sub_one, decide_eq_true (show n < m by omega), if_pos rfl]
    by_cases q : i = n
    · subst q
      rw [decide_eq_true (show i = i from rfl), if_neg (show ¬ i < i by omega), if_pos (show i < i + 1 by omega), if_neg (show ¬ (!true) = true by decide)]
      unfold vt
      rw [Int.mul_comm]
      omega
    · rw [decide_eq_false q, if_pos (show (!false) = true from rfl)]
      by_cases q2 : i < n
      · rw [if_pos q2, if_pos (by omega)]; omega
      · rw [if_neg q2, if_neg (by omega)]; omega
theorem xSway_eq (K : Kom) (a : Int) : xSway K a = rSway K a := by
  have h : ∀ n, n ≤ (K 0 3).toNat → xwN K a.toNat n = swN K a.toNat n := by
    intro n
    induction n with
    | zero => intro _; rfl
    | succ n ih =>
      intro hn
      rw [xwN, swN, ih (by omega)]
      unfold evb
      rw [bl_minus K a.toNat n (K 0 3).toNat (K 0 3).toNat (Nat.le_refl _), if_pos (show n < (K 0 3).toNat by omega), bl_all K a.toNat (K 0 3).toNat (K 0 3).toNat (Nat.le_refl _)]
      unfold wb
      split
      · rfl
      · rw [Nat.or_zero]
  unfold xSway rSway
  rw [h _ (Nat.le_refl _)]
theorem stp_lt {K : Kom} (hW : cWF K) {a b : Int} (ha : 0 ≤ a ∧ a < K 0 0 * K 0 1) (hb : 0 ≤ b ∧ b < K 0 0 * K 0 1) : stp K a b < K 0 0 * K 0 1 := by
  have h0 := hW.1
  have hnc := hW.nc
  have hw := wh_in (w := K 0 0) (h := K 0 1) (by omega) (by omega)
  have row : ∀ x : Int, 0 ≤ x ∧ x < K 0 0 * K 0 1 → 0 ≤ x / K 0 0 ∧ x / K 0 0 < K 0 1 ∧ 0 ≤ x % K 0 0 ∧ x % K 0 0 < K 0 0 := fun x hx => by
    have h1 := dm_in (c := x) (w := K 0 0) (by omega) (by omega)
    have h2 : x / K 0 0 < K 0 1 := Int.ediv_lt_of_lt_mul (by omega) (by rw [Int.mul_comm]; exact hx.2)
    omega
  have h1 := row a ha
  have h2 := row b hb
  unfold stp
  have h3 := zabs_ge (a / K 0 0 - b / K 0 0)
  have h4 := zabs_ge (a % K 0 0 - b % K 0 0)
  omega
theorem xCool_eq {K : Kom} (hW : cWF K) (a : Int) : xCool K a = rCool K a := by
  have h0 := hW.1
  have hnc := hW.nc
  unfold xCool rCool
  by_cases c1 : 0 ≤ a ∧ a ≤ K 0 3 - 1
  · rw [if_pos c1, if_pos c1]
    have hp := hW.2.2.1 a.toNat (by omega)
    have hq := hW.2.2.2.2 a.toNat (by omega)
    generalize K 6 a.toNat = x at hp hq
    have key : ∀ n : Nat, (n : Int) ≤ K 0 0 * K 0 1 → (nsS K x n).1 = xcS K x n ∧ (nsS K x n).2 = (if xcS K x n < 0 then K 0 0 * K 0 1 else stp K x (xcS K x n)) := by
      intro n
      induction n with
      | zero => intro _; exact ⟨rfl, (if_pos (show xcS K x 0 < 0 from (by decide : (-9 : Int) < 0))).symm⟩
      | succ n ih =>
        intro hn
        obtain ⟨i1, i2⟩ := ih (by omega)
        have hs := stp_lt hW (a := x) (b := (n : Int)) ⟨by omega, by omega⟩ (by omega)
        have hi := xcS_in K x n
        by_cases c2 : 0 < sdN K n (K 0 2).toNat
        · by_cases c3 : xcS K x n < 0
          · rw [nsS_t (by rw [i2, if_pos c3]; exact hs) c2, show xcS K x (n + 1) = (n : Int) by rw [xcS, if_pos ⟨c2, Or.inl c3⟩]]
            exact ⟨rfl, (if_neg (by omega)).symm⟩
          · by_cases c4 : stp K x n < stp K x (xcS K x n)
            · rw [nsS_t (by rw [i2, if_neg c3]; exact c4) c2, show xcS K x (n + 1) = (n : Int) by rw [xcS, if_pos ⟨c2, Or.inr c4⟩]]
              exact ⟨rfl, (if_neg (by omega)).symm⟩
            · rw [nsS_f1 (by rw [i2, if_neg c3]; omega), show xcS K x (n + 1) = xcS K x n by rw [xcS, if_neg (fun z => z.2.elim c3 c4)]]
              exact ⟨i1, i2⟩
        · rw [nsS_f2 (by omega), show xcS K x (n + 1) = xcS K x n by rw [xcS, if_neg (fun z => c2 z.1)]]
          exact ⟨i1, i2⟩
    exact (key _ (by omega)).1.symm
  · rw [if_neg c1, if_neg c1]
theorem sv_bl (K : Kom) (mo z n : Nat) : svN (fun _ => 0) (fE K mo) z n = blN K mo z n := by
  induction n with
  | zero => rfl
  | succ n ih =>
    rw [svN, blN, ih]
    unfold fE vt
    rw [Int.mul_comm]
theorem pcN_ext {z n : Nat} (hz : z < 2 ^ n) (m : Nat) (h : n ≤ m) : pcN z m = pcN z n := by
  induction m with
  | zero => rw [show n = 0 by omega]
  | succ m ih =>
    by_cases q : n = m + 1
    · rw [q]
    · rw [pcN, ih (by omega), Nat.div_eq_of_lt (Nat.lt_of_lt_of_le hz (Nat.pow_le_pow_right (by decide) (by omega)))]
      rfl
theorem pr_pow (q : Int) (z n : Nat) : prN q z n = q ^ pcN z n * (10 - q) ^ (n - pcN z n) := by
  induction n with
  | zero =>
    show (1 : Int) = q ^ 0 * (10 - q) ^ 0
    rw [Int.pow_zero, Int.pow_zero]
    rfl
  | succ n ih =>
    have hle := pcN_le z n
    rw [prN, pcN, ih, Nat.testBit_eq_decide_div_mod_eq]
    have hm : z / 2 ^ n % 2 < 2 := Nat.mod_lt _ (by decide)
    by_cases c : z / 2 ^ n % 2 = 1
    · rw [decide_eq_true c, if_pos rfl, c, show n + 1 - (pcN z n + 1) = n - pcN z n by omega, Int.pow_succ]
      ac_rfl
    · rw [decide_eq_false c, if_neg Bool.false_ne_true, show z / 2 ^ n % 2 = 0 by omega, Nat.add_zero, show n + 1 - pcN z n = (n - pcN z n) + 1 by omega, Int.pow_succ]
      ac_rfl
theorem up_ch {K : Kom} {mo : Nat} {q : Int} (hn : (K 0 3).toNat ≤ 7) (z : Nat) (hz : z ≤ 2 ^ (K 0 3).toNat) : upN K mo q z = chN (fE K mo) (K 0 3).toNat q z := by
  induction z with
  | zero => rfl
  | succ z ih =>
    rw [upN, chN, ih (by omega), sv_bl, pr_pow, pcN_ext (show z < 2 ^ (K 0 3).toNat by omega) 7 hn]
    split
    · rfl
    · rw [Int.add_zero]
theorem xOdds_eq {K : Kom} (hW : cWF K) (a b d : Int) : xOdds K a b d = rOdds K a b d := by
  have h0 := hW.1
  unfold xOdds rOdds
  rw [up_ch (by omega) _ (Nat.le_refl _)]
theorem rv_bv (K : Kom) (a : Int) (mo : Nat) (k : Int) (i : Nat) : rvN K a mo k i = max (vo K a mo) (bvN K a mo k i) := by
  induction i with
  | zero =>
    have := vo_in K a mo
    rw [rvN, bvN]
    omega
  | succ i ih =>
    have h1 := bvN_in K a mo k i
    have h2 := vo_in K a mo
    have h3 := vo_in K i mo
    rw [rvN, bvN, ih]
    split <;> omega
theorem bv_ge {K : Kom} {a : Int} {mo : Nat} {k : Int} {i j : Nat} (h : j < i) (hs : stp K a j ≤ k) : vo K j mo ≤ bvN K a mo k i := by
  induction i with
  | zero => omega
  | succ i ih =>
    rw [bvN]
    by_cases q : j = i
    · subst q
      rw [if_pos hs]
      omega
    · have := ih (by omega)
      split <;> omega
theorem stp_self (K : Kom) (a : Int) : stp K a a = 0 := by
  unfold stp
  rw [Int.sub_self, Int.sub_self]
  rfl
theorem rv_bv2 {K : Kom} (hW : cWF K) {i : Nat} (hi : (i : Int) < K 0 3) (mo : Nat) {k : Int} (hk : 0 ≤ k) : rvN K (K 6 i) mo k (K 0 0 * K 0 1).toNat = bvN K (K 6 i) mo k (K 0 0 * K 0 1).toNat := by
  have h0 := hW.1
  have hp := hW.2.2.1 i (by omega)
  have hq := hW.2.2.2.2 i hi
  rw [rv_bv]
  obtain ⟨j, hj⟩ := Int.eq_ofNat_of_zero_le hp.1
  rw [hj] at hq ⊢
  have := bv_ge (K := K) (a := (j : Int)) (mo := mo) (k := k) (i := (K 0 0 * K 0 1).toNat) (j := j) (by omega) (by rw [stp_self]; exact hk)
  omega
theorem sm_sv {K : Kom} (hW : cWF K) (mo : Nat) {k : Int} (hk : 0 ≤ k) (z n : Nat) (hn : (n : Int) ≤ K 0 3) : smN K mo k z n = svN (fun j => vt K j mo) (fun j => bv K j mo k) z n := by
  induction n with
  | zero => rfl
  | succ n ih =>
    rw [smN, svN, ih (by omega)]
    split
    · rw [rv_bv2 hW (by omega) mo hk]; rfl
    · rfl
/-- b is the best of the sets from lo to below N: of as few the least; -9 if there is none -/
def bst (P : Nat → Prop) (ct : Nat → Nat) (lo N : Nat) (b : Int) : Prop := (b = -9 ∧ ∀ z, lo ≤ z → z < N → ¬ P z) ∨ ∃ z0 : Nat, lo ≤ z0 ∧ z0 < N ∧ b = (z0 : Int) ∧ P z0 ∧ ∀ z, lo ≤ z → z < N → P z → ct z0 < ct z ∨ (ct z0 = ct z ∧ z0 ≤ z)
theorem bst_u {P : Nat → Prop} {ct : Nat → Nat} {lo N : Nat} {b d : Int} (h1 : bst P ct lo N b) (h2 : bst P ct lo N d) : b = d := by
  rcases h1 with ⟨e1, n1⟩ | ⟨z1, a1, b1, e1, p1, m1⟩
  · rcases h2 with ⟨e2, n2⟩ | ⟨z2, a2, b2, e2, p2, m2⟩
    · rw [e1, e2]
    · exact absurd p2 (n1 z2 a2 b2)
  · rcases h2 with ⟨e2, n2⟩ | ⟨z2, a2, b2, e2, p2, m2⟩
    · exact absurd p1 (n2 z1 a1 b1)
    · have := m1 z2 a2 b2 p2
      have := m2 z1 a1 b1 p1
      omega
theorem fm_bst (E C : Nat → Int) (n N : Nat) : bst (fun z => 0 < svN E C z n) (fun z => pcN z 7) 0 N (fmS E C n N).1 ∧ (((fmS E C n N).1 = -9 ∧ (fmS E C n N).2 = 8) ∨ (0 ≤ (fmS E C n N).1 ∧ (fmS E C n N).2 = ((pcN (fmS E C n N).1.toNat 7 : Nat) : Int))) := by
  induction N with
  | zero => exact ⟨Or.inl ⟨rfl, fun z _ h => absurd h (Nat.not_lt_zero z)⟩, Or.inl ⟨rfl, rfl⟩⟩
  | succ N ih =>
    obtain ⟨ib, ii⟩ := ih
    have hle := pcN_le N 7
    rw [fmS]
    by_cases c : ((pcN N 7 : Nat) : Int) < (fmS E C n N).2 ∧ 0 < svN E C N n
    · rw [if_pos c]
      refine ⟨Or.inr ⟨N, Nat.zero_le _, by omega, rfl, c.2, fun z _ hz hp => ?_⟩, Or.inr ⟨by omega, rfl⟩⟩
      by_cases q : z = N
      · subst q; exact Or.inr ⟨rfl, Nat.le_refl _⟩
      · left
        rcases ib with ⟨e1, n1⟩ | ⟨z1, a1, b1, e1, p1, m1⟩
        · exact absurd hp (n1 z (Nat.zero_le _) (by omega))
        · have h9 := m1 z (Nat.zero_le _) (by omega) hp
          rcases ii with ⟨i1, i2⟩ | ⟨i1, i2⟩
          · omega
          · rw [e1] at i2
            have h8 : (fmS E C n N).2 = ((pcN z1 7 : Nat) : Int) := i2
            have h7 := c.1
            show pcN N 7 < pcN z 7
            have h9' : pcN z1 7 < pcN z 7 ∨ (pcN z1 7 = pcN z 7 ∧ z1 ≤ z) := h9
            omega
    · rw [if_neg c]
      refine ⟨?_, ii⟩
      rcases ib with ⟨e1, n1⟩ | ⟨z1, a1, b1, e1, p1, m1⟩
      · left
        refine ⟨e1, fun z h1 h2 hp => ?_⟩
        by_cases q : z = N
        · subst q
          rcases ii with ⟨i1, i2⟩ | ⟨i1, i2⟩
          · exact c ⟨by omega, hp⟩
          · omega
        · exact n1 z h1 (by omega) hp
      · right
        refine ⟨z1, a1, by omega, e1, p1, fun z h1 h2 hp => ?_⟩
        by_cases q : z = N
        · subst q
          rcases ii with ⟨i1, i2⟩ | ⟨i1, i2⟩
          · omega
          · rw [e1] at i2
            have h8 : (fmS E C n z).2 = ((pcN z1 7 : Nat) : Int) := i2
            have h7 : ¬ ((pcN z 7 : Nat) : Int) < (fmS E C n z).2 := fun h => c ⟨h, hp⟩
            show pcN z1 7 < pcN z 7 ∨ (pcN z1 7 = pcN z 7 ∧ z1 ≤ z)
            omega
        · exact m1 z h1 (by omega) hp
theorem gm_bst {K : Kom} {mo : Nat} {k : Int} (N : Nat) : ∀ (z : Nat) (fd : Int), bst (fun z => 0 < smN K mo k z (K 0 3).toNat) (fun z => pcN z 7) z N fd → z ≤ N → bst (fun z => 0 < smN K mo k z (K 0 3).toNat) (fun z => pcN z 7) 0 N (gmS K mo k z fd) := by
  intro z
  induction z with
  | zero => intro fd h _; exact h
  | succ z ih =>
    intro fd h hz
    rw [gmS]
    refine ih _ ?_ (by omega)
    by_cases c : 0 < smN K mo k z (K 0 3).toNat ∧ (fd < 0 ∨ pcN z 7 ≤ pcN fd.toNat 7)
    · rw [if_pos c]
      refine Or.inr ⟨z, Nat.le_refl _, by omega, rfl, c.1, fun y h1 h2 hp => ?_⟩
      show pcN z 7 < pcN y 7 ∨ (pcN z 7 = pcN y 7 ∧ z ≤ y)
      by_cases q : y = z
      · subst q; omega
      · rcases h with ⟨e1, n1⟩ | ⟨z1, a1, b1, e1, p1, m1⟩
        · exact absurd hp (n1 y (by omega) h2)
        · have h9 : pcN z1 7 < pcN y 7 ∨ (pcN z1 7 = pcN y 7 ∧ z1 ≤ y) := m1 y (by omega) h2 hp
          have h8 : pcN z 7 ≤ pcN z1 7 := by
            rcases c.2 with h | h
            · omega
            · rw [e1] at h; exact h
          omega
    · rw [if_neg c]
      rcases h with ⟨e1, n1⟩ | ⟨z1, a1, b1, e1, p1, m1⟩
      · left
        refine ⟨e1, fun y h1 h2 hp => ?_⟩
        by_cases q : y = z
        · subst q; exact c ⟨hp, Or.inl (by omega)⟩
        · exact n1 y (by omega) h2 hp
      · right
        refine ⟨z1, by omega, b1, e1, p1, fun y h1 h2 hp => ?_⟩
        by_cases q : y = z
        · subst q
          left
          show pcN z1 7 < pcN y 7
          have h7 : ¬ pcN y 7 ≤ pcN fd.toNat 7 := fun h => c ⟨hp, Or.inr h⟩
          rw [e1] at h7
          have h8 : ¬ pcN y 7 ≤ pcN z1 7 := h7
          omega
        · exact m1 y (by omega) h2 hp
theorem xMov_eq {K : Kom} (hW : cWF K) (a b : Int) : xMov K a b = rMovers K a b := by
  have h0 := hW.1
  unfold xMov rMovers fm
  by_cases c : (0 ≤ a ∧ a ≤ 2) ∧ 0 ≤ b ∧ b ≤ 9
  · rw [if_pos c, if_pos c]
    have h1 := gm_bst (K := K) (mo := a.toNat) (k := b) (2 ^ (K 0 3).toNat) (2 ^ (K 0 3).toNat) (-9) (Or.inl ⟨rfl, fun z h1 h2 => by omega⟩) (Nat.le_refl _)
    have h2 := (fm_bst (fun j => vt K j a.toNat) (fun j => bv K j a.toNat b) (K 0 3).toNat (2 ^ (K 0 3).toNat)).1
    have e : (fun z => 0 < smN K a.toNat b z (K 0 3).toNat) = (fun z => 0 < svN (fun j => vt K j a.toNat) (fun j => bv K j a.toNat b) z (K 0 3).toNat) := by
      funext z
      rw [sm_sv hW a.toNat c.2.1 z _ (by omega)]
    rw [e] at h1
    exact bst_u h1 h2
  · rw [if_neg c, if_neg c]
