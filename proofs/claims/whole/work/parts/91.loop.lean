set_option maxHeartbeats 4000000 in
set_option maxRecDepth 100000 in
/-- the law's loop: at its head, with i ints read, class and reference stand as they should -/
theorem law_loop {p : Program} {l : Launch} {e : Env} {s : State} {m : MethodId} {below : List Frame} {meth : Method} {c : Code} {cells slots : Nat} {G : va_G} {Y : Nat → ClassId} {b L : Nat} {xs : Nat → Int32} (X : lwX p s m meth c b L xs G Y) (hr : meth.sig.returnType = ret) (hlocks : meth.locks = false) (hce : cells ≤ 600000 ∧ slots ≤ 7302249) {hv g9 : Nat} {u : svU} {af : Nat → Nat} : ∀ (n i : Nat), i ≤ L → L + 1 ≤ i + n → ∀ (tx : Nat → Int) (ln : Nat) (pl : Nat) (su : Bool) (tk : Nat) (nu : Int) (K : Kom) (Kto : Kom) (Kt : Kom) (ix : Nat) (z : Nat) (E : Nat → Int) (C : Nat → Int) (M : Nat → Int) (T : Nat → Int) (n9 : Int) (tr : Int64) (kp : Nat → Int) (Ki : Nat → Kom) (Kk : Nat → Kom) (F : Nat → Int) (A : Kom) (H : Heap) (locs : List Loc) (ls : Array Slot), lwI tx ln tk K Kto ix z M T n9 kp Ki Kk F A → lwH G s (lwC Y hv g9 u af tx ln pl su tk nu K Kto Kt ix z E C M T n9 tr tr kp Ki Kk F A) H locs → lv_has ls 4 [(0, .ref b), (1, .ref hv), (2, .ref g9), (3, .int (iZ ((i : Nat) : Int)))] → W p l e room_1 s m #[Value.ref b] below meth c H locs cells slots (lw_Z below #[Value.ref b] s) (F0 m 18 ls []) := by
  have X0 := X
  obtain ⟨hx, hb, hml, hown, hts, hX, hK⟩ := X
  have hbA : ¬ (fun q : Nat => s.heap.size ≤ q) b := Nat.not_le.mpr hX.2.1
  have hL9 := hX.2.2
  intro n
  induction n with
  | zero => intro i h1 h2; omega
  | succ n ih =>
    intro i hi hin tx ln pl su tk nu K Kto Kt ix z E C M T n9 tr kp Ki Kk F A H locs ls hI hH hl
    have hS := hH.2.2
    have kk : lwK p l e s m below meth c cells slots (lw_Z below #[Value.ref b] s) G Y b hv g9 u af ls ∨ ¬ (i + 4 ≤ L) := by
      by_cases hq : i + 4 ≤ L
      · left
        intro tx ln pl su tk nu K Kto Kt ix z E C M T n9 tr kp Ki Kk F A H locs hI hH
        refine lv_iinc (v := iZ ((i + 4 : Nat) : Int)) (lv' := [(3, .int (iZ ((i + 4 : Nat) : Int))), (0, .ref b), (1, .ref hv), (2, .ref g9)]) hx hb dL_law_990 hl (k := 3) rfl (by rw [show Int32.ofInt 4 = iZ 4 from rfl, iZ_add]; congr 1) (by decide) rfl (fun ls hl => ?_)
        refine lv_goto (tgt := 18) hx hb dL_law_993 (by decide) ?_
        exact ih (i + 4) hq (by omega) tx ln pl su tk nu K Kto Kt ix z E C M T n9 tr kp Ki Kk F A H locs ls hI hH (lv_sub hl [1, 2, 3, 0] rfl)
      · exact Or.inr hq
    refine lv_iload_n hx hb dL_law_18 rfl (lv_at hl 3 rfl) ?_
    refine lv_aload_n hx hb dL_law_19 rfl (lv_at hl 0 rfl) ?_
    refine va_slen hx hb hX.1 hX.2.1 hbA hS dL_law_20 ?_
    rw [show Int32.ofNat L = iZ ((L : Nat) : Int) from (iZ_nat L).symm]
    refine z_iconst hx hb dL_law_21 ?_
    refine z_isub hx hb dL_law_22 ?_
    refine z_icmp_gt (tgt := 996) hx hb dL_law_23 (by decide) (by omega) (fun c_1 => ?_) (fun c_1 => ?_)
    · refine lv_iconst (v := 1) hx hb dL_law_996 (by decide) ?_
      refine va_forget (fun q hq => hS.2.2 q hq) ?_
      refine W.widen (k := 600000) (n := 7302249) hce.1 hce.2 ?_
      exact lw_ret hx hb hr hlocks dL_law_997
    · have hi4 : i + 4 ≤ L := by omega
      replace kk := kk.resolve_right (fun q => q hi4)
      refine lv_aload_n hx hb dL_law_26 rfl (lv_at hl 0 rfl) ?_
      refine lv_iload_n hx hb dL_law_27 rfl (lv_at hl 3 rfl) ?_
      refine z_sld hx hb hX hbA hS i (by omega) dL_law_28 ?_
      refine z_bipush hx hb dL_law_29 (by decide) ?_
      refine lv_iand hx hb dL_law_31 ?_
      obtain ⟨k, hk, ek⟩ := and63 (iZ (xs i).toInt)
      rw [ek]
      have hkr : (iZ ((k : Nat) : Int)).toInt = ((k : Nat) : Int) := iZ_toInt (by omega)
      rcases (show 32 < k ∨ k = 0 ∨ k = 1 ∨ k = 2 ∨ k = 3 ∨ k = 4 ∨ k = 5 ∨ k = 6 ∨ k = 7 ∨ k = 8 ∨ k = 9 ∨ k = 10 ∨ k = 11 ∨ k = 12 ∨ k = 13 ∨ k = 14 ∨ k = 15 ∨ k = 16 ∨ k = 17 ∨ k = 18 ∨ k = 19 ∨ k = 20 ∨ k = 21 ∨ k = 22 ∨ k = 23 ∨ k = 24 ∨ k = 25 ∨ k = 26 ∨ k = 27 ∨ k = 28 ∨ k = 29 ∨ k = 30 ∨ k = 31 ∨ k = 32 by omega) with hq | rfl | rfl | rfl | rfl | rfl | rfl | rfl | rfl | rfl | rfl | rfl | rfl | rfl | rfl | rfl | rfl | rfl | rfl | rfl | rfl | rfl | rfl | rfl | rfl | rfl | rfl | rfl | rfl | rfl | rfl | rfl | rfl | rfl
      · refine lv_tableOut (tgt := 990) hx hb dL_law_32 (by rw [hkr]; exact Or.inr (by omega)) (by decide) ?_
        exact kk tx ln pl su tk nu K Kto Kt ix z E C M T n9 tr kp Ki Kk F A H locs hI hH
      · refine lv_tableIn (tgt := 180) (off := 148) hx hb dL_law_32 (by rw [hkr]; decide) (by rw [hkr]; decide) (by rw [hkr]; rfl) (by decide) ?_
        exact lc_type X0 hce hi4 hl hI hH kk
      · refine lv_tableIn (tgt := 203) (off := 171) hx hb dL_law_32 (by rw [hkr]; decide) (by rw [hkr]; decide) (by rw [hkr]; rfl) (by decide) ?_
        exact lc_clear X0 hce hi4 hl hI hH kk
      · refine lv_tableIn (tgt := 216) (off := 184) hx hb dL_law_32 (by rw [hkr]; decide) (by rw [hkr]; decide) (by rw [hkr]; rfl) (by decide) ?_
        exact lc_commune X0 hce hi4 hl hI hH kk
      · refine lv_tableIn (tgt := 229) (off := 197) hx hb dL_law_32 (by rw [hkr]; decide) (by rw [hkr]; decide) (by rw [hkr]; rfl) (by decide) ?_
        exact lc_tree X0 hce hi4 hl hI hH kk
      · refine lv_tableIn (tgt := 262) (off := 230) hx hb dL_law_32 (by rw [hkr]; decide) (by rw [hkr]; decide) (by rw [hkr]; rfl) (by decide) ?_
        exact lc_person X0 hce hi4 hl hI hH kk
      · refine lv_tableIn (tgt := 295) (off := 263) hx hb dL_law_32 (by rw [hkr]; decide) (by rw [hkr]; decide) (by rw [hkr]; rfl) (by decide) ?_
        exact lc_motion X0 hce hi4 hl hI hH kk
      · refine lv_tableIn (tgt := 328) (off := 296) hx hb dL_law_32 (by rw [hkr]; decide) (by rw [hkr]; decide) (by rw [hkr]; rfl) (by decide) ?_
        exact lc_now X0 hce hi4 hl hI hH kk
      · refine lv_tableIn (tgt := 351) (off := 319) hx hb dL_law_32 (by rw [hkr]; decide) (by rw [hkr]; decide) (by rw [hkr]; rfl) (by decide) ?_
        exact lc_moves X0 hce hi4 hl hI hH kk
      · refine lv_tableIn (tgt := 384) (off := 352) hx hb dL_law_32 (by rw [hkr]; decide) (by rw [hkr]; decide) (by rw [hkr]; rfl) (by decide) ?_
        exact lc_prunes X0 hce hi4 hl hI hH kk
      · refine lv_tableIn (tgt := 417) (off := 385) hx hb dL_law_32 (by rw [hkr]; decide) (by rw [hkr]; decide) (by rw [hkr]; rfl) (by decide) ?_
        exact lc_grows X0 hce hi4 hl hI hH kk
      · refine lv_tableIn (tgt := 430) (off := 398) hx hb dL_law_32 (by rw [hkr]; decide) (by rw [hkr]; decide) (by rw [hkr]; rfl) (by decide) ?_
        exact lc_plants X0 hce hi4 hl hI hH kk
      · refine lv_tableIn (tgt := 463) (off := 431) hx hb dL_law_32 (by rw [hkr]; decide) (by rw [hkr]; decide) (by rw [hkr]; rfl) (by decide) ?_
        exact lc_fells X0 hce hi4 hl hI hH kk
      · refine lv_tableIn (tgt := 486) (off := 454) hx hb dL_law_32 (by rw [hkr]; decide) (by rw [hkr]; decide) (by rw [hkr]; rfl) (by decide) ?_
        exact lc_winter X0 hce hi4 hl hI hH kk
      · refine lv_tableIn (tgt := 509) (off := 477) hx hb dL_law_32 (by rw [hkr]; decide) (by rw [hkr]; decide) (by rw [hkr]; rfl) (by decide) ?_
        exact lc_sun X0 hce hi4 hl hI hH kk
      · refine lv_tableIn (tgt := 532) (off := 500) hx hb dL_law_32 (by rw [hkr]; decide) (by rw [hkr]; decide) (by rw [hkr]; rfl) (by decide) ?_
        exact lc_undo X0 hce hi4 hl hI hH kk
      · refine lv_tableIn (tgt := 545) (off := 513) hx hb dL_law_32 (by rw [hkr]; decide) (by rw [hkr]; decide) (by rw [hkr]; rfl) (by decide) ?_
        exact lc_movers X0 hce hi4 hl hI hH kk
      · refine lv_tableIn (tgt := 578) (off := 546) hx hb dL_law_32 (by rw [hkr]; decide) (by rw [hkr]; decide) (by rw [hkr]; rfl) (by decide) ?_
        exact lc_prune X0 hce hi4 hl hI hH kk
      · refine lv_tableIn (tgt := 601) (off := 569) hx hb dL_law_32 (by rw [hkr]; decide) (by rw [hkr]; decide) (by rw [hkr]; rfl) (by decide) ?_
        exact lc_plant X0 hce hi4 hl hI hH kk
      · refine lv_tableIn (tgt := 634) (off := 602) hx hb dL_law_32 (by rw [hkr]; decide) (by rw [hkr]; decide) (by rw [hkr]; rfl) (by decide) ?_
        exact lc_suns X0 hce hi4 hl hI hH kk
      · refine lv_tableIn (tgt := 657) (off := 625) hx hb dL_law_32 (by rw [hkr]; decide) (by rw [hkr]; decide) (by rw [hkr]; rfl) (by decide) ?_
        exact lc_hedge X0 hce hi4 hl hI hH kk
      · refine lv_tableIn (tgt := 680) (off := 648) hx hb dL_law_32 (by rw [hkr]; decide) (by rw [hkr]; decide) (by rw [hkr]; rfl) (by decide) ?_
        exact lc_share X0 hce hi4 hl hI hH kk
      · refine lv_tableIn (tgt := 703) (off := 671) hx hb dL_law_32 (by rw [hkr]; decide) (by rw [hkr]; decide) (by rw [hkr]; rfl) (by decide) ?_
        exact lc_counted X0 hce hi4 hl hI hH kk
      · refine lv_tableIn (tgt := 736) (off := 704) hx hb dL_law_32 (by rw [hkr]; decide) (by rw [hkr]; decide) (by rw [hkr]; rfl) (by decide) ?_
        exact lc_forget X0 hce hi4 hl hI hH kk
      · refine lv_tableIn (tgt := 749) (off := 717) hx hb dL_law_32 (by rw [hkr]; decide) (by rw [hkr]; decide) (by rw [hkr]; rfl) (by decide) ?_
        exact lc_mayBe X0 hce hi4 hl hI hH kk
      · refine lv_tableIn (tgt := 762) (off := 730) hx hb dL_law_32 (by rw [hkr]; decide) (by rw [hkr]; decide) (by rw [hkr]; rfl) (by decide) ?_
        exact lc_odds X0 hce hi4 hl hI hH kk
      · refine lv_tableIn (tgt := 805) (off := 773) hx hb dL_law_32 (by rw [hkr]; decide) (by rw [hkr]; decide) (by rw [hkr]; rfl) (by decide) ?_
        exact lc_sway X0 hce hi4 hl hI hH kk
      · refine lv_tableIn (tgt := 828) (off := 796) hx hb dL_law_32 (by rw [hkr]; decide) (by rw [hkr]; decide) (by rw [hkr]; rfl) (by decide) ?_
        exact lc_cool X0 hce hi4 hl hI hH kk
      · refine lv_tableIn (tgt := 851) (off := 819) hx hb dL_law_32 (by rw [hkr]; decide) (by rw [hkr]; decide) (by rw [hkr]; rfl) (by decide) ?_
        exact lc_dark X0 hce hi4 hl hI hH kk
      · refine lv_tableIn (tgt := 874) (off := 842) hx hb dL_law_32 (by rw [hkr]; decide) (by rw [hkr]; decide) (by rw [hkr]; rfl) (by decide) ?_
        exact lc_rate X0 hce hi4 hl hI hH kk
      · refine lv_tableIn (tgt := 907) (off := 875) hx hb dL_law_32 (by rw [hkr]; decide) (by rw [hkr]; decide) (by rw [hkr]; rfl) (by decide) ?_
        exact lc_keep X0 hce hi4 hl hI hH kk
      · refine lv_tableIn (tgt := 930) (off := 898) hx hb dL_law_32 (by rw [hkr]; decide) (by rw [hkr]; decide) (by rw [hkr]; rfl) (by decide) ?_
        exact lc_back X0 hce hi4 hl hI hH kk
      · refine lv_tableIn (tgt := 953) (off := 921) hx hb dL_law_32 (by rw [hkr]; decide) (by rw [hkr]; decide) (by rw [hkr]; rfl) (by decide) ?_
        exact lc_count X0 hce hi4 hl hI hH kk
      · refine lv_tableIn (tgt := 976) (off := 944) hx hb dL_law_32 (by rw [hkr]; decide) (by rw [hkr]; decide) (by rw [hkr]; rfl) (by decide) ?_
        exact lc_trace X0 hce hi4 hl hI hH kk
