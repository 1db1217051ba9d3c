set_option maxRecDepth 20000 in
set_option maxHeartbeats 4000000 in
theorem l_loop {d : Nat} {G : zG} {A : Int → Int → Int} {P : Option zV → zG → Prop} {b L : Nat} (hL : L ≤ 100000) {xs : Nat → Int} {Z W : Nat} {x o : Int} {S0 T0 tl0 : Nat} {tf0 : Nat → Int} {wl0 : Nat} {wf0 : Nat → Int} (h0 : LH b L xs Z W G A x o S0 T0 tl0 tf0 wl0 wf0 S0 T0 tl0 tf0 wl0 wf0) (k : ∀ G2 A2 (S T tl : Nat) (tf : Nat → Int) (wl : Nat) (wf : Nat → Int), LH b L xs Z W G2 A2 x o S T tl tf wl wf S T tl tf wl wf → P (some (0, 1)) (gw G2 A2)) : ZE 12 M_Law_law (gw G A) 18 [(2, (b : Int)), (2, x), (2, o), (0, 0)] [] P := by
  have L18 : ∀ (tt0 : Nat) (i : Nat) (G1 : zG) (A1 : Int → Int → Int) (S : Nat) (T : Nat) (tl : Nat) (tf : Nat → Int) (wl : Nat) (wf : Nat → Int) (hi : i ≤ L + 6) (h : LH b L xs Z W G1 A1 x o S T tl tf wl wf S T tl tf wl wf), L + 6 - i < tt0 → ZE 12 M_Law_law (gw G1 A1) 18 [(2, (b : Int)), (2, x), (2, o), (0, (i : Int))] [] P := by
    intro tt0
    induction tt0 with
    | zero => intro i G1 A1 S T tl tf wl wf hi h hm; exact absurd hm (Nat.not_lt_zero _)
    | succ tt0 ih =>
      intro i G1 A1 S T tl tf wl wf hi h hm
      refine ZE.iload_n d_Law_law_18 rfl ?_
      refine ZE.aload_n d_Law_law_19 rfl ?_
      refine ZE.alenE (v := (L : Int)) d_Law_law_20 (by have hk0 := h.2.2.2.2.1.1.1; show 1 ≤ gk G1 (b : Int) ∧ gk G1 (b : Int) ≤ 6; omega) h.2.2.2.2.1.1.2 ?_
      refine ZE.bipush (n := 6) d_Law_law_21 rfl ?_
      refine ZE.isub d_Law_law_23 ?_
      refine ZE.icmp_gt (tgt := 2029) d_Law_law_24 rfl (by unfold zR; omega) (by unfold zR; omega) (fun c24 => ?_) (fun c24 => ?_)
      · refine ZE.iconst (n := 1) d_Law_law_2029 ?_
        refine ZE.zret d_Law_law_2030 rfl (by omega) ?_
        exact k _ _ _ _ _ _ _ _ h
      · have hi6 : i + 6 ≤ L := by omega
        have kk : ∀ G2 A2 (S2 T2 tl2 : Nat) (tf2 : Nat → Int) (wl2 : Nat) (wf2 : Nat → Int), LH b L xs Z W G2 A2 x o S2 T2 tl2 tf2 wl2 wf2 S2 T2 tl2 tf2 wl2 wf2 → ZE 12 M_Law_law (gw G2 A2) 2023 [(2, (b : Int)), (2, x), (2, o), (0, (i : Int))] [] P := by
          intro G2 A2 S2 T2 tl2 tf2 wl2 wf2 h2
          refine ZE.iinc (ls2 := [(2, (b : Int)), (2, x), (2, o), (0, (i : Int) + 6)]) d_Law_law_2023 rfl rfl ?_
          refine ZE.goto (tgt := 18) d_Law_law_2026 rfl ?_
          rw [show (i : Int) + 6 = ((i + 6 : Nat) : Int) by omega]
          exact ih (i + 6) G2 A2 S2 T2 tl2 tf2 wl2 wf2 (by omega) h2 (by omega)
        refine ZE.aload_n d_Law_law_27 rfl ?_
        refine ZE.iload_n d_Law_law_28 rfl ?_
        refine ZE.ialdRE (v := (xs i)) d_Law_law_29 h.2.2.2.2.1.1.1 (by have hn0 := h.2.2.2.2.1.1.2; show 0 ≤ (i : Int) ∧ (i : Int) < gn G1 (b : Int); omega) (h.2.2.2.2.1.2.1 i (by omega)).1 ?_
        refine ZE.bipush (n := 63) d_Law_law_30 rfl ?_
        refine ZE.iand d_Law_law_32 ?_
        obtain ⟨zq, hzq⟩ : ∃ zq, zq = zand (xs i) 63 := ⟨_, rfl⟩
        have hzR : zR zq := by rw [hzq]; exact zR_and _ _
        rw [← hzq]
        rcases (show (zq < 0 ∨ 61 < zq) ∨ zq = 0 ∨ zq = 1 ∨ zq = 2 ∨ zq = 3 ∨ zq = 4 ∨ zq = 5 ∨ zq = 6 ∨ zq = 7 ∨ zq = 8 ∨ zq = 9 ∨ zq = 10 ∨ zq = 11 ∨ zq = 12 ∨ zq = 13 ∨ zq = 14 ∨ zq = 15 ∨ zq = 16 ∨ zq = 17 ∨ zq = 18 ∨ zq = 19 ∨ zq = 20 ∨ zq = 21 ∨ zq = 22 ∨ zq = 23 ∨ zq = 24 ∨ zq = 25 ∨ zq = 26 ∨ zq = 27 ∨ zq = 28 ∨ zq = 29 ∨ zq = 30 ∨ zq = 31 ∨ zq = 32 ∨ zq = 33 ∨ zq = 34 ∨ zq = 35 ∨ zq = 36 ∨ zq = 37 ∨ zq = 38 ∨ zq = 39 ∨ zq = 40 ∨ zq = 41 ∨ zq = 42 ∨ zq = 43 ∨ zq = 44 ∨ zq = 45 ∨ zq = 46 ∨ zq = 47 ∨ zq = 48 ∨ zq = 49 ∨ zq = 50 ∨ zq = 51 ∨ zq = 52 ∨ zq = 53 ∨ zq = 54 ∨ zq = 55 ∨ zq = 56 ∨ zq = 57 ∨ zq = 58 ∨ zq = 59 ∨ zq = 60 ∨ zq = 61 by omega) with eo | rfl | rfl | rfl | rfl | rfl | rfl | rfl | rfl | rfl | rfl | rfl | rfl | rfl | rfl | rfl | rfl | rfl | rfl | rfl | rfl | rfl | rfl | rfl | rfl | rfl | rfl | rfl | rfl | rfl | rfl | rfl | rfl | rfl | rfl | rfl | rfl | rfl | rfl | rfl | rfl | rfl | rfl | rfl | rfl | rfl | rfl | rfl | rfl | rfl | rfl | rfl | rfl | rfl | rfl | rfl | rfl | rfl | rfl | rfl | rfl | rfl | rfl
        · refine ZE.tableOut (tgt := 2023) d_Law_law_33 (by unfold zR at *; omega) eo rfl ?_
          exact kk _ _ _ _ _ _ _ _ h
        · refine ZE.tableIn (tgt := 296) d_Law_law_33 (by unfold zR; omega) (by omega) rfl rfl ?_
          exact lc_add (d := 0) h hi6 kk
        · refine ZE.tableIn (tgt := 319) d_Law_law_33 (by unfold zR; omega) (by omega) rfl rfl ?_
          exact lc_drop (d := 0) h hi6 kk
        · refine ZE.tableIn (tgt := 342) d_Law_law_33 (by unfold zR; omega) (by omega) rfl rfl ?_
          exact lc_choose (d := 0) h hi6 kk
        · refine ZE.tableIn (tgt := 365) d_Law_law_33 (by unfold zR; omega) (by omega) rfl rfl ?_
          exact lc_is (d := 0) h hi6 kk
        · refine ZE.tableIn (tgt := 388) d_Law_law_33 (by unfold zR; omega) (by omega) rfl rfl ?_
          exact lc_of (d := 0) h hi6 kk
        · refine ZE.tableIn (tgt := 421) d_Law_law_33 (by unfold zR; omega) (by omega) rfl rfl ?_
          exact lc_step (d := 0) h hi6 kk
        · refine ZE.tableIn (tgt := 454) d_Law_law_33 (by unfold zR; omega) (by omega) rfl rfl ?_
          exact lc_unit (d := 0) h hi6 kk
        · refine ZE.tableIn (tgt := 497) d_Law_law_33 (by unfold zR; omega) (by omega) rfl rfl ?_
          exact lc_power (d := 0) h hi6 kk
        · refine ZE.tableIn (tgt := 540) d_Law_law_33 (by unfold zR; omega) (by omega) rfl rfl ?_
          exact lc_powerLong (d := 0) h hi6 kk
        · refine ZE.tableIn (tgt := 573) d_Law_law_33 (by unfold zR; omega) (by omega) rfl rfl ?_
          exact lc_digit (d := 0) h hi6 kk
        · refine ZE.tableIn (tgt := 606) d_Law_law_33 (by unfold zR; omega) (by omega) rfl rfl ?_
          exact lc_left (d := 0) h hi6 kk
        · refine ZE.tableIn (tgt := 639) d_Law_law_33 (by unfold zR; omega) (by omega) rfl rfl ?_
          exact lc_small (d := 0) h hi6 kk
        · refine ZE.tableIn (tgt := 662) d_Law_law_33 (by unfold zR; omega) (by omega) rfl rfl ?_
          exact lc_measure (d := 0) h hi6 kk
        · refine ZE.tableIn (tgt := 695) d_Law_law_33 (by unfold zR; omega) (by omega) rfl rfl ?_
          exact lc_inPair (d := 0) h hi6 kk
        · refine ZE.tableIn (tgt := 738) d_Law_law_33 (by unfold zR; omega) (by omega) rfl rfl ?_
          exact lc_order (d := 0) h hi6 kk
        · refine ZE.tableIn (tgt := 781) d_Law_law_33 (by unfold zR; omega) (by omega) rfl rfl ?_
          exact lc_count (d := 0) h hi6 kk
        · refine ZE.tableIn (tgt := 824) d_Law_law_33 (by unfold zR; omega) (by omega) rfl rfl ?_
          exact lc_top (d := 0) h hi6 kk
        · refine ZE.tableIn (tgt := 847) d_Law_law_33 (by unfold zR; omega) (by omega) rfl rfl ?_
          exact lc_below (d := 0) h hi6 kk
        · refine ZE.tableIn (tgt := 870) d_Law_law_33 (by unfold zR; omega) (by omega) rfl rfl ?_
          exact lc_run (d := 0) h hi6 kk
        · refine ZE.tableIn (tgt := 903) d_Law_law_33 (by unfold zR; omega) (by omega) rfl rfl ?_
          exact lc_rank (d := 0) h hi6 kk
        · refine ZE.tableIn (tgt := 926) d_Law_law_33 (by unfold zR; omega) (by omega) rfl rfl ?_
          exact lc_smooth (d := 0) h hi6 kk
        · refine ZE.tableIn (tgt := 949) d_Law_law_33 (by unfold zR; omega) (by omega) rfl rfl ?_
          exact lc_smoothUpTo (d := 0) h hi6 kk
        · refine ZE.tableIn (tgt := 972) d_Law_law_33 (by unfold zR; omega) (by omega) rfl rfl ?_
          exact lc_smoothAt (d := 0) h hi6 kk
        · refine ZE.tableIn (tgt := 995) d_Law_law_33 (by unfold zR; omega) (by omega) rfl rfl ?_
          exact lc_next (d := 0) h hi6 kk
        · refine ZE.tableIn (tgt := 1018) d_Law_law_33 (by unfold zR; omega) (by omega) rfl rfl ?_
          exact lc_sieved (d := 0) h hi6 kk
        · refine ZE.tableIn (tgt := 1041) d_Law_law_33 (by unfold zR; omega) (by omega) rfl rfl ?_
          exact lc_agrees (d := 0) h hi6 kk
        · refine ZE.tableIn (tgt := 1064) d_Law_law_33 (by unfold zR; omega) (by omega) rfl rfl ?_
          exact lc_gap (d := 0) h hi6 kk
        · refine ZE.tableIn (tgt := 1097) d_Law_law_33 (by unfold zR; omega) (by omega) rfl rfl ?_
          exact lc_would (d := 0) h hi6 kk
        · refine ZE.tableIn (tgt := 1120) d_Law_law_33 (by unfold zR; omega) (by omega) rfl rfl ?_
          exact lc_without (d := 0) h hi6 kk
        · refine ZE.tableIn (tgt := 1143) d_Law_law_33 (by unfold zR; omega) (by omega) rfl rfl ?_
          exact lc_bestPrime (d := 0) h hi6 kk
        · refine ZE.tableIn (tgt := 1156) d_Law_law_33 (by unfold zR; omega) (by omega) rfl rfl ?_
          exact lc_madeOf (d := 0) h hi6 kk
        · refine ZE.tableIn (tgt := 1179) d_Law_law_33 (by unfold zR; omega) (by omega) rfl rfl ?_
          exact lc_witness (d := 0) h hi6 kk
        · refine ZE.tableIn (tgt := 1212) d_Law_law_33 (by unfold zR; omega) (by omega) rfl rfl ?_
          exact lc_entry (d := 0) h hi6 kk
        · refine ZE.tableIn (tgt := 1245) d_Law_law_33 (by unfold zR; omega) (by omega) rfl rfl ?_
          exact lc_leaves (d := 0) h hi6 kk
        · refine ZE.tableIn (tgt := 1278) d_Law_law_33 (by unfold zR; omega) (by omega) rfl rfl ?_
          exact lc_nearing (d := 0) h hi6 kk
        · refine ZE.tableIn (tgt := 1331) d_Law_law_33 (by unfold zR; omega) (by omega) rfl rfl ?_
          exact lc_middle (d := 0) h hi6 kk
        · refine ZE.tableIn (tgt := 1354) d_Law_law_33 (by unfold zR; omega) (by omega) rfl rfl ?_
          exact lc_least (d := 0) h hi6 kk
        · refine ZE.tableIn (tgt := 1387) d_Law_law_33 (by unfold zR; omega) (by omega) rfl rfl ?_
          exact lc_apart (d := 0) h hi6 kk
        · refine ZE.tableIn (tgt := 1420) d_Law_law_33 (by unfold zR; omega) (by omega) rfl rfl ?_
          exact lc_sums (d := 0) h hi6 kk
        · refine ZE.tableIn (tgt := 1453) d_Law_law_33 (by unfold zR; omega) (by omega) rfl rfl ?_
          exact lc_greatLong (d := 0) h hi6 kk
        · refine ZE.tableIn (tgt := 1476) d_Law_law_33 (by unfold zR; omega) (by omega) rfl rfl ?_
          exact lc_greatDigit (d := 0) h hi6 kk
        · refine ZE.tableIn (tgt := 1509) d_Law_law_33 (by unfold zR; omega) (by omega) rfl rfl ?_
          exact lc_growth (d := 0) h hi6 kk
        · refine ZE.tableIn (tgt := 1532) d_Law_law_33 (by unfold zR; omega) (by omega) rfl rfl ?_
          exact lc_madeBy (d := 0) h hi6 kk
        · refine ZE.tableIn (tgt := 1555) d_Law_law_33 (by unfold zR; omega) (by omega) rfl rfl ?_
          exact lc_share (d := 0) h hi6 kk
        · refine ZE.tableIn (tgt := 1578) d_Law_law_33 (by unfold zR; omega) (by omega) rfl rfl ?_
          exact lc_twos (d := 0) h hi6 kk
        · refine ZE.tableIn (tgt := 1591) d_Law_law_33 (by unfold zR; omega) (by omega) rfl rfl ?_
          exact lc_twoClasses (d := 0) h hi6 kk
        · refine ZE.tableIn (tgt := 1604) d_Law_law_33 (by unfold zR; omega) (by omega) rfl rfl ?_
          exact lc_twoClass (d := 0) h hi6 kk
        · refine ZE.tableIn (tgt := 1637) d_Law_law_33 (by unfold zR; omega) (by omega) rfl rfl ?_
          exact lc_two (d := 0) h hi6 kk
        · refine ZE.tableIn (tgt := 1670) d_Law_law_33 (by unfold zR; omega) (by omega) rfl rfl ?_
          exact lc_twoDigit (d := 0) h hi6 kk
        · refine ZE.tableIn (tgt := 1703) d_Law_law_33 (by unfold zR; omega) (by omega) rfl rfl ?_
          exact lc_twosAgree (d := 0) h hi6 kk
        · refine ZE.tableIn (tgt := 1726) d_Law_law_33 (by unfold zR; omega) (by omega) rfl rfl ?_
          exact lc_threes (d := 0) h hi6 kk
        · refine ZE.tableIn (tgt := 1739) d_Law_law_33 (by unfold zR; omega) (by omega) rfl rfl ?_
          exact lc_number (d := 0) h hi6 kk
        · refine ZE.tableIn (tgt := 1752) d_Law_law_33 (by unfold zR; omega) (by omega) rfl rfl ?_
          exact lc_inNumber (d := 0) h hi6 kk
        · refine ZE.tableIn (tgt := 1785) d_Law_law_33 (by unfold zR; omega) (by omega) rfl rfl ?_
          exact lc_ofNumber (d := 0) h hi6 kk
        · refine ZE.tableIn (tgt := 1808) d_Law_law_33 (by unfold zR; omega) (by omega) rfl rfl ?_
          exact lc_half (d := 0) h hi6 kk
        · refine ZE.tableIn (tgt := 1851) d_Law_law_33 (by unfold zR; omega) (by omega) rfl rfl ?_
          exact lc_proof (d := 0) h hi6 kk
        · refine ZE.tableIn (tgt := 1864) d_Law_law_33 (by unfold zR; omega) (by omega) rfl rfl ?_
          exact lc_octet (d := 0) h hi6 kk
        · refine ZE.tableIn (tgt := 1887) d_Law_law_33 (by unfold zR; omega) (by omega) rfl rfl ?_
          exact lc_feed (d := 0) h hi6 kk
        · refine ZE.tableIn (tgt := 1950) d_Law_law_33 (by unfold zR; omega) (by omega) rfl rfl ?_
          exact lc_end (d := 0) h hi6 kk
        · refine ZE.tableIn (tgt := 1973) d_Law_law_33 (by unfold zR; omega) (by omega) rfl rfl ?_
          exact lc_proves (d := 0) h hi6 kk
        · refine ZE.tableIn (tgt := 1986) d_Law_law_33 (by unfold zR; omega) (by omega) rfl rfl ?_
          exact lc_meanLength (d := 0) h hi6 kk
        · refine ZE.tableIn (tgt := 1999) d_Law_law_33 (by unfold zR; omega) (by omega) rfl rfl ?_
          exact lc_thick (d := 0) h hi6 kk
  exact L18 _ 0 G A _ _ _ _ _ _ (by omega) h0 (Nat.lt_succ_self _)
