set_option maxRecDepth 20000 in
set_option maxHeartbeats 4000000 in
theorem s_measureOf {d : Nat} {G : zG} {A : Int → Int → Int} {P : Option zV → zG → Prop} {s E0 : Int} {S : Nat} (hR : sR G A s E0 1 S) (hL : lG G A) {pn : Nat} (hpn : pn < (prs S).length) {m : Int} (hm : 0 ≤ m ∧ m ≤ 8) (k : P (some (0, msN S pn m)) (gw G A)) : ZE (d + 2) M_Sea_measureOf (gw G A) 0 [(2, s), (0, (pn : Int)), (0, m), (9, 0)] [] P := by
  have hs0 := hR.K.2.1
  have hE0 := hR.E
  have hL64 := hR.l64
  have hpl : (prL 1 S).length = (prs S).length := by rw [prL_1 hR.s7 hR.p5]
  have hc1 := hR.cp (k := pn) (by omega)
  have hv1 := hR.v (k := pn) (by omega)
  have hn1 := nN_1 hR.s7 hR.p5 pn
  have hC1 := nC_1 hR.s7 hR.p5 pn
  have hI1 := nIx_1 hR.s7 hR.p5 pn
  have hb7 : (mb (nN 1 S pn) ||| mb (nN 1 S pn + 1)) < 128 := or_128 _ (mb_lt _) _ (mb_lt _)
  refine ZE.aload_n d_Sea_measureOf_0 rfl ?_
  refine ZE.iload_n d_Sea_measureOf_1 rfl ?_
  refine ZE.cV [(0, (pn : Int))] [] [(2, s), (0, (pn : Int)), (9, 0)] d_Sea_measureOf_2 l_Sea_135 rfl rfl rfl rfl rfl rfl hR.K.1 ?_
  refine s_coupleAt (d := d + 1) hR.K hR.F hR.n12 hL64 (k1 := pn) (by omega) (v1 := A (s + 30) (pn : Int)) rfl (by omega) ?_
  show ZE (d + 2) M_Sea_measureOf (gw G A) 5 [(2, s), (0, (pn : Int)), (0, m), (9, 0)] [(2, A (s + 30) (pn : Int))] _
  refine ZE.astore_n (ls2 := [(2, s), (0, (pn : Int)), (0, m), (2, A (s + 30) (pn : Int))]) d_Sea_measureOf_5 (Nat.le_of_ble_eq_true rfl) rfl ?_
  refine ZE.iload_n d_Sea_measureOf_6 rfl ?_
  rcases (show m = 0 ∨ m = 1 ∨ m = 2 ∨ m = 3 ∨ m = 4 ∨ m = 5 ∨ m = 6 ∨ m = 7 ∨ m = 8 by omega) with rfl | rfl | rfl | rfl | rfl | rfl | rfl | rfl | rfl
  · refine ZE.tableIn (tgt := 56) d_Sea_measureOf_7 (by unfold zR; omega) (by omega) rfl rfl ?_
    refine ZE.iload_n d_Sea_measureOf_56 rfl ?_
    refine ZE.iret d_Sea_measureOf_57 rfl ?_
    exact k
  · refine ZE.tableIn (tgt := 58) d_Sea_measureOf_7 (by unfold zR; omega) (by omega) rfl rfl ?_
    refine ZE.aload_n d_Sea_measureOf_58 rfl ?_
    refine ZE.getE (v := A (s + 30) (pn : Int) + 3) d_Sea_measureOf_59 f_Sea_139 (tg := 2) rfl hc1.2.2.1.1.1 hc1.2.2.1.2.1 ?_
    refine ZE.cV [] [] [(2, A (s + 30) (pn : Int) + 3), (9, 0), (9, 0)] d_Sea_measureOf_62 l_Sea_177 rfl rfl rfl rfl rfl rfl hc1.2.2.1.1.2.2.2.2.1 ?_
    refine B_digits (d := d) hc1.2.2.1.1.2.2.2.2 hc1.2.2.1.2.2.2.2.2.2.1 (Nat.le_refl _) ?_
    show ZE (d + 2) M_Sea_measureOf (gw G A) 65 [(2, s), (0, (pn : Int)), (0, 1), (2, A (s + 30) (pn : Int))] [(0, (dl (nN 1 S pn) : Int))] _
    refine ZE.iret d_Sea_measureOf_65 rfl ?_
    rw [hn1]
    exact k
  · refine ZE.tableIn (tgt := 66) d_Sea_measureOf_7 (by unfold zR; omega) (by omega) rfl rfl ?_
    refine ZE.aload_n d_Sea_measureOf_66 rfl ?_
    refine ZE.getE (v := (nC 1 S pn : Int)) d_Sea_measureOf_67 f_Sea_132 (tg := 0) rfl hc1.2.2.1.1.1 hc1.2.2.2.1 ?_
    refine ZE.iret d_Sea_measureOf_70 rfl ?_
    rw [hC1]
    exact k
  · refine ZE.tableIn (tgt := 71) d_Sea_measureOf_7 (by unfold zR; omega) (by omega) rfl rfl ?_
    refine ZE.aload_n d_Sea_measureOf_71 rfl ?_
    refine ZE.getE (v := (nIx 1 S pn : Int)) d_Sea_measureOf_72 f_Sea_180 (tg := 0) rfl hc1.2.2.1.1.1 hc1.2.2.1.2.2.1 ?_
    refine ZE.iret d_Sea_measureOf_75 rfl ?_
    rw [hI1]
    exact k
  · refine ZE.tableIn (tgt := 76) d_Sea_measureOf_7 (by unfold zR; omega) (by omega) rfl rfl ?_
    refine ZE.aload_n d_Sea_measureOf_76 rfl ?_
    refine ZE.cV [] [] [(2, A (s + 30) (pn : Int)), (9, 0), (9, 0)] d_Sea_measureOf_77 l_Sea_183 rfl rfl rfl rfl rfl rfl hc1.2.2.1.1.1 ?_
    refine c_weight (d := d) hc1.2.2.1.1 hc1.2.2.1.2 (by omega) ?_
    show ZE (d + 2) M_Sea_measureOf (gw G A) 80 [(2, s), (0, (pn : Int)), (0, 4), (2, A (s + 30) (pn : Int))] [(0, (wt (nN 1 S pn) : Int) + (wt (nN 1 S pn + 1) : Int))] _
    refine ZE.iret d_Sea_measureOf_80 rfl ?_
    rw [hn1]
    exact k
  · refine ZE.tableIn (tgt := 81) d_Sea_measureOf_7 (by unfold zR; omega) (by omega) rfl rfl ?_
    refine ZE.aload_n d_Sea_measureOf_81 rfl ?_
    refine ZE.getE (v := ((mb (nN 1 S pn) ||| mb (nN 1 S pn + 1) : Nat) : Int)) d_Sea_measureOf_82 f_Sea_186 (tg := 0) rfl hc1.2.2.1.1.1 hc1.2.2.1.2.2.2.1 ?_
    refine ZE.cS [(0, ((mb (nN 1 S pn) ||| mb (nN 1 S pn + 1) : Nat) : Int))] [] [(0, ((mb (nN 1 S pn) ||| mb (nN 1 S pn + 1) : Nat) : Int)), (9, 0), (9, 0)] d_Sea_measureOf_85 l_Sea_189 rfl rfl rfl rfl rfl rfl ?_
    refine p_greatest (d := d) hb7 hL ?_
    show ZE (d + 2) M_Sea_measureOf (gw G A) 88 [(2, s), (0, (pn : Int)), (0, 5), (2, A (s + 30) (pn : Int))] [(0, (gr (mb (nN 1 S pn) ||| mb (nN 1 S pn + 1)) : Int))] _
    refine ZE.iret d_Sea_measureOf_88 rfl ?_
    rw [hn1]
    exact k
  · refine ZE.tableIn (tgt := 89) d_Sea_measureOf_7 (by unfold zR; omega) (by omega) rfl rfl ?_
    refine ZE.aload_n d_Sea_measureOf_89 rfl ?_
    refine ZE.getE (v := ((mb (nN 1 S pn) ||| mb (nN 1 S pn + 1) : Nat) : Int)) d_Sea_measureOf_90 f_Sea_186 (tg := 0) rfl hc1.2.2.1.1.1 hc1.2.2.1.2.2.2.1 ?_
    refine ZE.cS [(0, ((mb (nN 1 S pn) ||| mb (nN 1 S pn + 1) : Nat) : Int))] [] [(0, ((mb (nN 1 S pn) ||| mb (nN 1 S pn + 1) : Nat) : Int)), (9, 0), (9, 0)] d_Sea_measureOf_93 l_Sea_116 rfl rfl rfl rfl rfl rfl ?_
    refine p_product (d := d) hb7 hL ?_
    show ZE (d + 2) M_Sea_measureOf (gw G A) 96 [(2, s), (0, (pn : Int)), (0, 6), (2, A (s + 30) (pn : Int))] [(0, (rad (mb (nN 1 S pn) ||| mb (nN 1 S pn + 1)) : Int))] _
    refine ZE.iret d_Sea_measureOf_96 rfl ?_
    rw [hn1]
    exact k
  · refine ZE.tableIn (tgt := 97) d_Sea_measureOf_7 (by unfold zR; omega) (by omega) rfl rfl ?_
    refine ZE.aload_n d_Sea_measureOf_97 rfl ?_
    refine ZE.getE (v := A (s + 30) (pn : Int) + 3) d_Sea_measureOf_98 f_Sea_139 (tg := 2) rfl hc1.2.2.1.1.1 hc1.2.2.1.2.1 ?_
    refine ZE.sipush (n := 10000) d_Sea_measureOf_101 rfl ?_
    refine ZE.cV [(0, 10000)] [] [(2, A (s + 30) (pn : Int) + 3), (0, 10000), (9, 0), (9, 0), (9, 0)] d_Sea_measureOf_104 l_Sea_192 rfl rfl rfl rfl rfl rfl hc1.2.2.1.1.2.2.2.2.1 ?_
    refine B_remainder (d := d) hc1.2.2.1.1.2.2.2.2 hc1.2.2.1.2.2.2.2.2.2.1 (y := 10000) (by omega) (by omega) (Nat.le_refl _) ?_
    show ZE (d + 2) M_Sea_measureOf (gw G A) 107 [(2, s), (0, (pn : Int)), (0, 7), (2, A (s + 30) (pn : Int))] [(0, ((nN 1 S pn % 10000 : Nat) : Int))] _
    refine ZE.iret d_Sea_measureOf_107 rfl ?_
    rw [hn1]
    exact k
  · refine ZE.tableIn (tgt := 108) d_Sea_measureOf_7 (by unfold zR; omega) (by omega) rfl rfl ?_
    refine ZE.aload_n d_Sea_measureOf_108 rfl ?_
    refine ZE.cV [] [] [(2, A (s + 30) (pn : Int)), (9, 0), (9, 0)] d_Sea_measureOf_109 l_Sea_195 rfl rfl rfl rfl rfl rfl hc1.2.2.1.1.1 ?_
    refine c_more (d := d) hc1.2.2.1.1 hc1.2.2.1.2 (by omega) ?_
    show ZE (d + 2) M_Sea_measureOf (gw G A) 112 [(2, s), (0, (pn : Int)), (0, 8), (2, A (s + 30) (pn : Int))] [(0, (pop (mb (nN 1 S pn)) : Int) - (pop (mb (nN 1 S pn + 1)) : Int))] _
    refine ZE.iret d_Sea_measureOf_112 rfl ?_
    rw [hn1]
    exact k
def yK (G : zG) (y : Int) : Prop := gk G y = 15 ∧ 0 ≤ y ∧ (gk G (y + 1) = 1 ∧ gn G (y + 1) = 64) ∧ (gk G (y + 2) = 1 ∧ gn G (y + 2) = 64) ∧ (gk G (y + 3) = 1 ∧ gn G (y + 3) = 64) ∧ (gk G (y + 4) = 1 ∧ gn G (y + 4) = 49) ∧ (gk G (y + 5) = 1 ∧ gn G (y + 5) = 7)
def yF (A : Int → Int → Int) (y : Int) : Prop := A y 0 = y + 1 ∧ A y 1 = y + 2 ∧ A y 2 = y + 3 ∧ A y 3 = y + 4 ∧ A y 4 = y + 5
theorem yK.gr {G G2 : zG} {y : Int} {n m : Nat} (h : yK G y) (g : gR G G2 n m) (hb : y + 6 ≤ (gz G : Int)) : yK G2 y := by
  have e := g.2.2.1
  obtain ⟨h1, h2, h3, h4, h5, h6, h7⟩ := h
  exact ⟨(e y (by omega)).1.trans h1, h2, ⟨(e _ (by omega)).1.trans h3.1, (e _ (by omega)).2.trans h3.2⟩, ⟨(e _ (by omega)).1.trans h4.1, (e _ (by omega)).2.trans h4.2⟩, ⟨(e _ (by omega)).1.trans h5.1, (e _ (by omega)).2.trans h5.2⟩, ⟨(e _ (by omega)).1.trans h6.1, (e _ (by omega)).2.trans h6.2⟩, ⟨(e _ (by omega)).1.trans h7.1, (e _ (by omega)).2.trans h7.2⟩⟩
theorem yF.ab {A B : Int → Int → Int} {y : Int} (h : yF A y) (e : B y = A y) : yF B y := by unfold yF; rw [e]; exact h
/-- what a ranking may change -/
def yQ (A B : Int → Int → Int) (y : Int) : Prop := ∀ a : Int, (a < y + 1 ∨ y + 5 < a) → B a = A a
theorem yQ.rf {A : Int → Int → Int} {y : Int} : yQ A A y := fun _ _ => rfl
theorem yQ.tr {A B C : Int → Int → Int} {y : Int} (h : yQ A B y) (g : yQ B C y) : yQ A C y := fun a ha => (g a ha).trans (h a ha)
theorem yQ.u {A : Int → Int → Int} {y a i v : Int} (h : y + 1 ≤ a ∧ a ≤ y + 5) : yQ A (up2 A a i v) y := fun b hb => by rw [up2_A, upA_ne _ _ (by omega)]
/-- a row ahead of another by two measures -/
def ahM (m1 m2 : Nat → Int) (i k : Nat) : Prop := m1 i < m1 k ∨ (m1 i = m1 k ∧ m2 i < m2 k)
set_option maxRecDepth 20000 in
set_option maxHeartbeats 4000000 in
theorem y_isAhead {d : Nat} {G : zG} {A : Int → Int → Int} {P : Option zV → zG → Prop} {y : Int} (hK : yK G y) (hF : yF A y) {i1 k1 : Nat} (hi : i1 < 64) (hk : k1 < 64) {v1 v2 w1 w2 : Int} (h1 : A (y + 2) i1 = v1) (h2 : A (y + 2) k1 = v2) (g1 : A (y + 3) i1 = w1) (g2 : A (y + 3) k1 = w2) (hr : zR v1 ∧ zR v2 ∧ zR w1 ∧ zR w2) (k : P (some (0, b2i (v1 < v2 ∨ (v1 = v2 ∧ w1 < w2)))) (gw G A)) : ZE d M_Ran_isAhead (gw G A) 0 [(2, y), (0, (i1 : Int)), (0, (k1 : Int))] [] P := by
  refine ZE.iload_n d_Ran_isAhead_0 rfl ?_
  refine ZE.if_lt (tgt := 20) d_Ran_isAhead_1 rfl (by unfold zR; omega) (fun c1 => ?_) (fun c1 => ?_)
  · exact absurd c1 (by omega)
  · refine ZE.iload_n d_Ran_isAhead_4 rfl ?_
    refine ZE.bipush (n := 64) d_Ran_isAhead_5 rfl ?_
    refine ZE.icmp_ge (tgt := 20) d_Ran_isAhead_7 rfl (by unfold zR; omega) (by unfold zR; omega) (fun c7 => ?_) (fun c7 => ?_)
    · exact absurd c7 (by omega)
    · refine ZE.iload_n d_Ran_isAhead_10 rfl ?_
      refine ZE.if_lt (tgt := 20) d_Ran_isAhead_11 rfl (by unfold zR; omega) (fun c11 => ?_) (fun c11 => ?_)
      · exact absurd c11 (by omega)
      · refine ZE.iload_n d_Ran_isAhead_14 rfl ?_
        refine ZE.bipush (n := 64) d_Ran_isAhead_15 rfl ?_
        refine ZE.icmp_lt (tgt := 22) d_Ran_isAhead_17 rfl (by unfold zR; omega) (by unfold zR; omega) (fun c17 => ?_) (fun c17 => ?_)
        · refine ZE.aload_n d_Ran_isAhead_22 rfl ?_
          refine ZE.getE (v := y + 2) d_Ran_isAhead_23 f_Ran_15 (tg := 2) rfl hK.1 hF.2.1 ?_
          refine ZE.iload_n d_Ran_isAhead_26 rfl ?_
          refine ZE.ialdE (v := v1) d_Ran_isAhead_27 hK.2.2.2.1.1 (by have hn0 := hK.2.2.2.1.2; show 0 ≤ (i1 : Int) ∧ (i1 : Int) < gn G (y + 2); omega) h1 ?_
          refine ZE.aload_n d_Ran_isAhead_28 rfl ?_
          refine ZE.getE (v := y + 2) d_Ran_isAhead_29 f_Ran_15 (tg := 2) rfl hK.1 hF.2.1 ?_
          refine ZE.iload_n d_Ran_isAhead_32 rfl ?_
          refine ZE.ialdE (v := v2) d_Ran_isAhead_33 hK.2.2.2.1.1 (by have hn0 := hK.2.2.2.1.2; show 0 ≤ (k1 : Int) ∧ (k1 : Int) < gn G (y + 2); omega) h2 ?_
          refine ZE.icmp_lt (tgt := 67) d_Ran_isAhead_34 rfl hr.1 hr.2.1 (fun c34 => ?_) (fun c34 => ?_)
          · refine ZE.iconst (n := 1) d_Ran_isAhead_67 ?_
            refine ZE.goto (tgt := 72) d_Ran_isAhead_68 rfl ?_
            refine ZE.zret d_Ran_isAhead_72 rfl (by omega) ?_
            first | exact (by rw [b2i_t (by omega)] at k; exact k) | exact (by rw [b2i_f (by omega)] at k; exact k)
          · refine ZE.aload_n d_Ran_isAhead_37 rfl ?_
            refine ZE.getE (v := y + 2) d_Ran_isAhead_38 f_Ran_15 (tg := 2) rfl hK.1 hF.2.1 ?_
            refine ZE.iload_n d_Ran_isAhead_41 rfl ?_
            refine ZE.ialdE (v := v1) d_Ran_isAhead_42 hK.2.2.2.1.1 (by have hn0 := hK.2.2.2.1.2; show 0 ≤ (i1 : Int) ∧ (i1 : Int) < gn G (y + 2); omega) h1 ?_
            refine ZE.aload_n d_Ran_isAhead_43 rfl ?_
            refine ZE.getE (v := y + 2) d_Ran_isAhead_44 f_Ran_15 (tg := 2) rfl hK.1 hF.2.1 ?_
            refine ZE.iload_n d_Ran_isAhead_47 rfl ?_
            refine ZE.ialdE (v := v2) d_Ran_isAhead_48 hK.2.2.2.1.1 (by have hn0 := hK.2.2.2.1.2; show 0 ≤ (k1 : Int) ∧ (k1 : Int) < gn G (y + 2); omega) h2 ?_
            refine ZE.icmp_ne (tgt := 71) d_Ran_isAhead_49 rfl hr.1 hr.2.1 (fun c49 => ?_) (fun c49 => ?_)
            · refine ZE.iconst (n := 0) d_Ran_isAhead_71 ?_
              refine ZE.zret d_Ran_isAhead_72 rfl (by omega) ?_
              first | exact (by rw [b2i_t (by omega)] at k; exact k) | exact (by rw [b2i_f (by omega)] at k; exact k)
            · refine ZE.aload_n d_Ran_isAhead_52 rfl ?_
              refine ZE.getE (v := y + 3) d_Ran_isAhead_53 f_Ran_18 (tg := 2) rfl hK.1 hF.2.2.1 ?_
              refine ZE.iload_n d_Ran_isAhead_56 rfl ?_
              refine ZE.ialdE (v := w1) d_Ran_isAhead_57 hK.2.2.2.2.1.1 (by have hn0 := hK.2.2.2.2.1.2; show 0 ≤ (i1 : Int) ∧ (i1 : Int) < gn G (y + 3); omega) g1 ?_
              refine ZE.aload_n d_Ran_isAhead_58 rfl ?_
              refine ZE.getE (v := y + 3) d_Ran_isAhead_59 f_Ran_18 (tg := 2) rfl hK.1 hF.2.2.1 ?_
              refine ZE.iload_n d_Ran_isAhead_62 rfl ?_
              refine ZE.ialdE (v := w2) d_Ran_isAhead_63 hK.2.2.2.2.1.1 (by have hn0 := hK.2.2.2.2.1.2; show 0 ≤ (k1 : Int) ∧ (k1 : Int) < gn G (y + 3); omega) g2 ?_
              refine ZE.icmp_ge (tgt := 71) d_Ran_isAhead_64 rfl hr.2.2.1 hr.2.2.2 (fun c64 => ?_) (fun c64 => ?_)
              · refine ZE.iconst (n := 0) d_Ran_isAhead_71 ?_
                refine ZE.zret d_Ran_isAhead_72 rfl (by omega) ?_
                first | exact (by rw [b2i_t (by omega)] at k; exact k) | exact (by rw [b2i_f (by omega)] at k; exact k)
              · refine ZE.iconst (n := 1) d_Ran_isAhead_67 ?_
                refine ZE.goto (tgt := 72) d_Ran_isAhead_68 rfl ?_
                refine ZE.zret d_Ran_isAhead_72 rfl (by omega) ?_
                first | exact (by rw [b2i_t (by omega)] at k; exact k) | exact (by rw [b2i_f (by omega)] at k; exact k)
        · exact absurd c17 (by omega)
