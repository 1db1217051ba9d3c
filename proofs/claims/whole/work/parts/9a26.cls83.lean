theorem nuT_ok {tf : Nat → Int} {tl T : Nat} (h0 : 0 < T) (h9 : nd 10000 T ≤ 75) : 0 < nuT tf tl T ∧ nd 10000 (nuT tf tl T) ≤ 75 := by
  unfold nuT
  split
  · next q =>
    have q2 := q
    unfold isnB at q2
    rw [Bool.and_eq_true] at q2
    have q3 := (of_decide_eq_true q2.1).1
    exact ⟨nuN_pos q tl q3 (Nat.le_refl _), nuN_75 q tl (Nat.le_refl _)⟩
  · exact ⟨h0, h9⟩
theorem tcV_R {S : Nat} (hS : S < 128) (n : Int) : zR64 (tcV S n) := by
  unfold tcV
  split
  · next q =>
    have hs1 : 0 < smC S n.toNat := cnt_pos (smB_1 S hS) n.toNat (by omega)
    have hs2 : smC S n.toNat ≤ n.toNat := cnt_le _ n.toNat
    have hd := (dvN_ok hs1 hs2 (by omega)).2.1
    unfold zR64
    omega
  · unfold zR64; omega
set_option maxRecDepth 20000 in
set_option maxHeartbeats 4000000 in
theorem lc_number {d : Nat} {G : zG} {A : Int → Int → Int} {P : Option zV → zG → Prop} {b L : Nat} {xs : Nat → Int} {Z W : Nat} {x o : Int} {S T tl : Nat} {tf : Nat → Int} {wl : Nat} {wf : Nat → Int} (h : LH b L xs Z W G A x o S T tl tf wl wf S T tl tf wl wf) {i : Nat} (hi : i + 6 ≤ L) (k : ∀ G2 A2 (S2 T2 tl2 : Nat) (tf2 : Nat → Int) (wl2 : Nat) (wf2 : Nat → Int), LH b L xs Z W G2 A2 x o S2 T2 tl2 tf2 wl2 wf2 S2 T2 tl2 tf2 wl2 wf2 → ZE 12 M_Law_law (gw G2 A2) 2023 [(2, (b : Int)), (2, x), (2, o), (0, (i : Int))] [] P) : ZE 12 M_Law_law (gw G A) 1739 [(2, (b : Int)), (2, x), (2, o), (0, (i : Int))] [] P := by
  refine ZE.aload_n d_Law_law_1739 rfl ?_
  refine ZE.cV [] [] [(2, x), (9, 0), (9, 0)] d_Law_law_1740 l_Law_223 rfl rfl rfl rfl rfl rfl h.1.cCK.1 ?_
  refine c_number (d := 0) h.1 (fun G2 A2 hC hT => ?_)
  show ZE 12 M_Law_law (gw G2 A2) 1743 [(2, (b : Int)), (2, x), (2, o), (0, (i : Int))] [(0, nuV tf tl)] _
  have h2 := h.c hC hT
  refine ZE.aload_n d_Law_law_1743 rfl ?_
  refine ZE.cV [] [(0, nuV tf tl)] [(2, o), (9, 0), (9, 0)] d_Law_law_1744 l_Law_226 rfl rfl rfl rfl rfl rfl h2.2.1.1 ?_
  refine r_number h2.2.1 h2.2.2.1.1 h2.2.2.1.2.2.2.1.2 h.1.ct.2.2 h.1.ct.2.1 h2.2.2.1.2.2.2.1.1 h2.2.2.1.2.2.1 (fun B gB hTB => ?_)
  show ZE 12 M_Law_law (gw G2 B) 1747 [(2, (b : Int)), (2, x), (2, o), (0, (i : Int))] [(0, nuV tf tl), (0, nuV tf tl)] _
  have h3 := h2.r (ri_nu h2.2.2.1 gB hTB (nuT_ok h.2.2.1.2.2.2.2.2.2.2.1 h.2.2.1.2.2.2.2.2.2.2.2.1).1 (nuT_ok h.2.2.1.2.2.2.2.2.2.2.1 h.2.2.1.2.2.2.2.2.2.2.2.1).2)
  refine ZE.same (tgt := 2023) d_Law_law_1747 rfl ?_
  exact k _ _ _ _ _ _ _ _ h3
set_option maxRecDepth 20000 in
set_option maxHeartbeats 4000000 in
theorem lc_inNumber {d : Nat} {G : zG} {A : Int → Int → Int} {P : Option zV → zG → Prop} {b L : Nat} {xs : Nat → Int} {Z W : Nat} {x o : Int} {S T tl : Nat} {tf : Nat → Int} {wl : Nat} {wf : Nat → Int} (h : LH b L xs Z W G A x o S T tl tf wl wf S T tl tf wl wf) {i : Nat} (hi : i + 6 ≤ L) (k : ∀ G2 A2 (S2 T2 tl2 : Nat) (tf2 : Nat → Int) (wl2 : Nat) (wf2 : Nat → Int), LH b L xs Z W G2 A2 x o S2 T2 tl2 tf2 wl2 wf2 S2 T2 tl2 tf2 wl2 wf2 → ZE 12 M_Law_law (gw G2 A2) 2023 [(2, (b : Int)), (2, x), (2, o), (0, (i : Int))] [] P) : ZE 12 M_Law_law (gw G A) 1752 [(2, (b : Int)), (2, x), (2, o), (0, (i : Int))] [] P := by
  refine ZE.aload_n d_Law_law_1752 rfl ?_
  refine ZE.aload_n d_Law_law_1753 rfl ?_
  refine ZE.iload_n d_Law_law_1754 rfl ?_
  refine ZE.iconst (n := 1) d_Law_law_1755 ?_
  refine ZE.iadd d_Law_law_1756 ?_
  refine ZE.ialdRE (v := (xs (i + 1))) d_Law_law_1757 h.2.2.2.2.1.1.1 (by have hn0 := h.2.2.2.2.1.1.2; show 0 ≤ (i : Int) + 1 ∧ (i : Int) + 1 < gn G (b : Int); omega) (by rw [show (i : Int) + 1 = ((i + 1 : Nat) : Int) by omega]; exact (h.2.2.2.2.1.2.1 (i + 1) (by omega)).1) ?_
  refine ZE.aload_n d_Law_law_1758 rfl ?_
  refine ZE.iload_n d_Law_law_1759 rfl ?_
  refine ZE.iconst (n := 2) d_Law_law_1760 ?_
  refine ZE.iadd d_Law_law_1761 ?_
  refine ZE.ialdRE (v := (xs (i + 2))) d_Law_law_1762 h.2.2.2.2.1.1.1 (by have hn0 := h.2.2.2.2.1.1.2; show 0 ≤ (i : Int) + 2 ∧ (i : Int) + 2 < gn G (b : Int); omega) (by rw [show (i : Int) + 2 = ((i + 2 : Nat) : Int) by omega]; exact (h.2.2.2.2.1.2.1 (i + 2) (by omega)).1) ?_
  refine ZE.cV [(0, (xs (i + 1))), (0, (xs (i + 2)))] [] [(2, x), (0, (xs (i + 1))), (0, (xs (i + 2)))] d_Law_law_1763 l_Law_227 rfl rfl rfl rfl rfl rfl h.1.cCK.1 ?_
  refine c_inNumber (d := 0) h.1 h.2.2.1.2.2.2.2.2.2.2.1 (h.2.2.2.2.1.2.1 (i + 1) (by omega)).2 (h.2.2.2.2.1.2.1 (i + 2) (by omega)).2 (fun G2 A2 hC hT => ?_)
  show ZE 12 M_Law_law (gw G2 A2) 1766 [(2, (b : Int)), (2, x), (2, o), (0, (i : Int))] [(0, inV T (xs (i + 1)) (xs (i + 2)))] _
  have h2 := h.c hC hT
  refine ZE.aload_n d_Law_law_1766 rfl ?_
  refine ZE.aload_n d_Law_law_1767 rfl ?_
  refine ZE.iload_n d_Law_law_1768 rfl ?_
  refine ZE.iconst (n := 1) d_Law_law_1769 ?_
  refine ZE.iadd d_Law_law_1770 ?_
  refine ZE.ialdRE (v := (xs (i + 1))) d_Law_law_1771 h2.2.2.2.2.1.1.1 (by have hn0 := h2.2.2.2.2.1.1.2; show 0 ≤ (i : Int) + 1 ∧ (i : Int) + 1 < gn G2 (b : Int); omega) (by rw [show (i : Int) + 1 = ((i + 1 : Nat) : Int) by omega]; exact (h2.2.2.2.2.1.2.1 (i + 1) (by omega)).1) ?_
  refine ZE.aload_n d_Law_law_1772 rfl ?_
  refine ZE.iload_n d_Law_law_1773 rfl ?_
  refine ZE.iconst (n := 2) d_Law_law_1774 ?_
  refine ZE.iadd d_Law_law_1775 ?_
  refine ZE.ialdRE (v := (xs (i + 2))) d_Law_law_1776 h2.2.2.2.2.1.1.1 (by have hn0 := h2.2.2.2.2.1.1.2; show 0 ≤ (i : Int) + 2 ∧ (i : Int) + 2 < gn G2 (b : Int); omega) (by rw [show (i : Int) + 2 = ((i + 2 : Nat) : Int) by omega]; exact (h2.2.2.2.2.1.2.1 (i + 2) (by omega)).1) ?_
  refine ZE.cV [(0, (xs (i + 1))), (0, (xs (i + 2)))] [(0, inV T (xs (i + 1)) (xs (i + 2)))] [(2, o), (0, (xs (i + 1))), (0, (xs (i + 2))), (9, 0)] d_Law_law_1777 l_Law_230 rfl rfl rfl rfl rfl rfl h2.2.1.1 ?_
  refine r_inNumber h2.2.1 h2.2.2.1.1 h2.2.2.1.2.2.1 h.2.2.1.2.2.2.2.2.2.2.1 h.2.2.1.2.2.2.2.2.2.2.2.1 (h.2.2.2.2.1.2.1 (i + 1) (by omega)).2 (h.2.2.2.2.1.2.1 (i + 2) (by omega)).2 (fun B gB => ?_)
  show ZE 12 M_Law_law (gw G2 B) 1780 [(2, (b : Int)), (2, x), (2, o), (0, (i : Int))] [(0, inV T (xs (i + 1)) (xs (i + 2))), (0, inV T (xs (i + 1)) (xs (i + 2)))] _
  have h3 := h2.r (ri_qu h2.2.2.1 gB)
  refine ZE.same (tgt := 2023) d_Law_law_1780 rfl ?_
  exact k _ _ _ _ _ _ _ _ h3
set_option maxRecDepth 20000 in
set_option maxHeartbeats 4000000 in
theorem lc_ofNumber {d : Nat} {G : zG} {A : Int → Int → Int} {P : Option zV → zG → Prop} {b L : Nat} {xs : Nat → Int} {Z W : Nat} {x o : Int} {S T tl : Nat} {tf : Nat → Int} {wl : Nat} {wf : Nat → Int} (h : LH b L xs Z W G A x o S T tl tf wl wf S T tl tf wl wf) {i : Nat} (hi : i + 6 ≤ L) (k : ∀ G2 A2 (S2 T2 tl2 : Nat) (tf2 : Nat → Int) (wl2 : Nat) (wf2 : Nat → Int), LH b L xs Z W G2 A2 x o S2 T2 tl2 tf2 wl2 wf2 S2 T2 tl2 tf2 wl2 wf2 → ZE 12 M_Law_law (gw G2 A2) 2023 [(2, (b : Int)), (2, x), (2, o), (0, (i : Int))] [] P) : ZE 12 M_Law_law (gw G A) 1785 [(2, (b : Int)), (2, x), (2, o), (0, (i : Int))] [] P := by
  refine ZE.aload_n d_Law_law_1785 rfl ?_
  refine ZE.aload_n d_Law_law_1786 rfl ?_
  refine ZE.iload_n d_Law_law_1787 rfl ?_
  refine ZE.iconst (n := 1) d_Law_law_1788 ?_
  refine ZE.iadd d_Law_law_1789 ?_
  refine ZE.ialdRE (v := (xs (i + 1))) d_Law_law_1790 h.2.2.2.2.1.1.1 (by have hn0 := h.2.2.2.2.1.1.2; show 0 ≤ (i : Int) + 1 ∧ (i : Int) + 1 < gn G (b : Int); omega) (by rw [show (i : Int) + 1 = ((i + 1 : Nat) : Int) by omega]; exact (h.2.2.2.2.1.2.1 (i + 1) (by omega)).1) ?_
  refine ZE.cV [(0, (xs (i + 1)))] [] [(2, x), (0, (xs (i + 1)))] d_Law_law_1791 l_Law_231 rfl rfl rfl rfl rfl rfl h.1.cCK.1 ?_
  refine c_ofNumber (d := 0) h.1 h.2.2.1.2.2.2.2.2.2.2.1 (h.2.2.2.2.1.2.1 (i + 1) (by omega)).2 (fun G2 A2 hC hT => ?_)
  show ZE 12 M_Law_law (gw G2 A2) 1794 [(2, (b : Int)), (2, x), (2, o), (0, (i : Int))] [(0, onV S T (xs (i + 1)))] _
  have h2 := h.c hC hT
  refine ZE.aload_n d_Law_law_1794 rfl ?_
  refine ZE.aload_n d_Law_law_1795 rfl ?_
  refine ZE.iload_n d_Law_law_1796 rfl ?_
  refine ZE.iconst (n := 1) d_Law_law_1797 ?_
  refine ZE.iadd d_Law_law_1798 ?_
  refine ZE.ialdRE (v := (xs (i + 1))) d_Law_law_1799 h2.2.2.2.2.1.1.1 (by have hn0 := h2.2.2.2.2.1.1.2; show 0 ≤ (i : Int) + 1 ∧ (i : Int) + 1 < gn G2 (b : Int); omega) (by rw [show (i : Int) + 1 = ((i + 1 : Nat) : Int) by omega]; exact (h2.2.2.2.2.1.2.1 (i + 1) (by omega)).1) ?_
  refine ZE.cV [(0, (xs (i + 1)))] [(0, onV S T (xs (i + 1)))] [(2, o), (0, (xs (i + 1)))] d_Law_law_1800 l_Law_234 rfl rfl rfl rfl rfl rfl h2.2.1.1 ?_
  refine r_ofNumber h2.2.1 h2.2.2.1.1 h2.2.2.1.2.1 h.1.cS.2.1 h.1.cS.2.2 h2.2.2.1.2.2.1 h.2.2.1.2.2.2.2.2.2.2.1 h.2.2.1.2.2.2.2.2.2.2.2.1 (h.2.2.2.2.1.2.1 (i + 1) (by omega)).2 (fun B gB => ?_)
  show ZE 12 M_Law_law (gw G2 B) 1803 [(2, (b : Int)), (2, x), (2, o), (0, (i : Int))] [(0, onV S T (xs (i + 1))), (0, onV S T (xs (i + 1)))] _
  have h3 := h2.r (ri_qu h2.2.2.1 gB)
  refine ZE.same (tgt := 2023) d_Law_law_1803 rfl ?_
  exact k _ _ _ _ _ _ _ _ h3
set_option maxRecDepth 20000 in
set_option maxHeartbeats 4000000 in
theorem lc_proof {d : Nat} {G : zG} {A : Int → Int → Int} {P : Option zV → zG → Prop} {b L : Nat} {xs : Nat → Int} {Z W : Nat} {x o : Int} {S T tl : Nat} {tf : Nat → Int} {wl : Nat} {wf : Nat → Int} (h : LH b L xs Z W G A x o S T tl tf wl wf S T tl tf wl wf) {i : Nat} (hi : i + 6 ≤ L) (k : ∀ G2 A2 (S2 T2 tl2 : Nat) (tf2 : Nat → Int) (wl2 : Nat) (wf2 : Nat → Int), LH b L xs Z W G2 A2 x o S2 T2 tl2 tf2 wl2 wf2 S2 T2 tl2 tf2 wl2 wf2 → ZE 12 M_Law_law (gw G2 A2) 2023 [(2, (b : Int)), (2, x), (2, o), (0, (i : Int))] [] P) : ZE 12 M_Law_law (gw G A) 1851 [(2, (b : Int)), (2, x), (2, o), (0, (i : Int))] [] P := by
  refine ZE.aload_n d_Law_law_1851 rfl ?_
  refine ZE.cV [] [] [(2, x)] d_Law_law_1852 l_Law_239 rfl rfl rfl rfl rfl rfl h.1.cCK.1 ?_
  refine c_proof (d := 0) h.1 (fun G2 A2 hC hT => ?_)
  show ZE 12 M_Law_law (gw G2 A2) 1855 [(2, (b : Int)), (2, x), (2, o), (0, (i : Int))] [(0, ((prfL S).length : Int))] _
  have h2 := h.c hC hT
  refine ZE.aload_n d_Law_law_1855 rfl ?_
  refine ZE.cV [] [(0, ((prfL S).length : Int))] [(2, o), (9, 0)] d_Law_law_1856 l_Law_242 rfl rfl rfl rfl rfl rfl h2.2.1.1 ?_
  refine r_proof h2.2.1 h2.2.2.1.1 h2.2.2.1.2.1 h.1.cS.2.1 h.1.cS.2.2 (fun B gB hwB heB e19 => ?_)
  show ZE 12 M_Law_law (gw G2 B) 1859 [(2, (b : Int)), (2, x), (2, o), (0, (i : Int))] [(0, ((prfL S).length : Int)), (0, ((prfL S).length : Int))] _
  have h3 := h2.r (ri_fu h2.2.2.1 gB ⟨(heB 31 (by omega) (by omega)).trans h2.2.2.1.2.2.2.1.1, fun k hk => (congrFun e19 _).trans (h2.2.2.1.2.2.2.1.2 k hk)⟩ hwB (Nat.le_trans (prfL_len h.1.cS.2.1 h.1.cS.2.2) (by omega)))
  refine ZE.same (tgt := 2023) d_Law_law_1859 rfl ?_
  exact k _ _ _ _ _ _ _ _ h3
set_option maxRecDepth 20000 in
set_option maxHeartbeats 4000000 in
theorem lc_octet {d : Nat} {G : zG} {A : Int → Int → Int} {P : Option zV → zG → Prop} {b L : Nat} {xs : Nat → Int} {Z W : Nat} {x o : Int} {S T tl : Nat} {tf : Nat → Int} {wl : Nat} {wf : Nat → Int} (h : LH b L xs Z W G A x o S T tl tf wl wf S T tl tf wl wf) {i : Nat} (hi : i + 6 ≤ L) (k : ∀ G2 A2 (S2 T2 tl2 : Nat) (tf2 : Nat → Int) (wl2 : Nat) (wf2 : Nat → Int), LH b L xs Z W G2 A2 x o S2 T2 tl2 tf2 wl2 wf2 S2 T2 tl2 tf2 wl2 wf2 → ZE 12 M_Law_law (gw G2 A2) 2023 [(2, (b : Int)), (2, x), (2, o), (0, (i : Int))] [] P) : ZE 12 M_Law_law (gw G A) 1864 [(2, (b : Int)), (2, x), (2, o), (0, (i : Int))] [] P := by
  refine ZE.aload_n d_Law_law_1864 rfl ?_
  refine ZE.aload_n d_Law_law_1865 rfl ?_
  refine ZE.iload_n d_Law_law_1866 rfl ?_
  refine ZE.iconst (n := 1) d_Law_law_1867 ?_
  refine ZE.iadd d_Law_law_1868 ?_
  refine ZE.ialdRE (v := (xs (i + 1))) d_Law_law_1869 h.2.2.2.2.1.1.1 (by have hn0 := h.2.2.2.2.1.1.2; show 0 ≤ (i : Int) + 1 ∧ (i : Int) + 1 < gn G (b : Int); omega) (by rw [show (i : Int) + 1 = ((i + 1 : Nat) : Int) by omega]; exact (h.2.2.2.2.1.2.1 (i + 1) (by omega)).1) ?_
  refine ZE.cV [(0, (xs (i + 1)))] [] [(2, x), (0, (xs (i + 1)))] d_Law_law_1870 l_Law_243 rfl rfl rfl rfl rfl rfl h.1.cCK.1 ?_
  refine c_octet (d := 0) h.1 (h.2.2.2.2.1.2.1 (i + 1) (by omega)).2 (fun G2 A2 hC hT => ?_)
  show ZE 12 M_Law_law (gw G2 A2) 1873 [(2, (b : Int)), (2, x), (2, o), (0, (i : Int))] [(0, ocV wl wf (xs (i + 1)))] _
  have h2 := h.c hC hT
  refine ZE.aload_n d_Law_law_1873 rfl ?_
  refine ZE.aload_n d_Law_law_1874 rfl ?_
  refine ZE.iload_n d_Law_law_1875 rfl ?_
  refine ZE.iconst (n := 1) d_Law_law_1876 ?_
  refine ZE.iadd d_Law_law_1877 ?_
  refine ZE.ialdRE (v := (xs (i + 1))) d_Law_law_1878 h2.2.2.2.2.1.1.1 (by have hn0 := h2.2.2.2.2.1.1.2; show 0 ≤ (i : Int) + 1 ∧ (i : Int) + 1 < gn G2 (b : Int); omega) (by rw [show (i : Int) + 1 = ((i + 1 : Nat) : Int) by omega]; exact (h2.2.2.2.2.1.2.1 (i + 1) (by omega)).1) ?_
  refine ZE.cV [(0, (xs (i + 1)))] [(0, ocV wl wf (xs (i + 1)))] [(2, o), (0, (xs (i + 1)))] d_Law_law_1879 l_Law_246 rfl rfl rfl rfl rfl rfl h2.2.1.1 ?_
  refine r_octet h2.2.1 h2.2.2.1.1 h2.2.2.1.2.2.2.2.1 h.2.2.1.2.2.2.2.2.2.2.2.2 (h.2.2.2.2.1.2.1 (i + 1) (by omega)).2 ?_
  show ZE 12 M_Law_law (gw G2 A2) 1882 [(2, (b : Int)), (2, x), (2, o), (0, (i : Int))] [(0, ocV wl wf (xs (i + 1))), (0, ocV wl wf (xs (i + 1)))] _
  refine ZE.same (tgt := 2023) d_Law_law_1882 rfl ?_
  exact k _ _ _ _ _ _ _ _ h2
set_option maxRecDepth 20000 in
set_option maxHeartbeats 4000000 in
theorem lc_feed {d : Nat} {G : zG} {A : Int → Int → Int} {P : Option zV → zG → Prop} {b L : Nat} {xs : Nat → Int} {Z W : Nat} {x o : Int} {S T tl : Nat} {tf : Nat → Int} {wl : Nat} {wf : Nat → Int} (h : LH b L xs Z W G A x o S T tl tf wl wf S T tl tf wl wf) {i : Nat} (hi : i + 6 ≤ L) (k : ∀ G2 A2 (S2 T2 tl2 : Nat) (tf2 : Nat → Int) (wl2 : Nat) (wf2 : Nat → Int), LH b L xs Z W G2 A2 x o S2 T2 tl2 tf2 wl2 wf2 S2 T2 tl2 tf2 wl2 wf2 → ZE 12 M_Law_law (gw G2 A2) 2023 [(2, (b : Int)), (2, x), (2, o), (0, (i : Int))] [] P) : ZE 12 M_Law_law (gw G A) 1887 [(2, (b : Int)), (2, x), (2, o), (0, (i : Int))] [] P := by
  refine ZE.aload_n d_Law_law_1887 rfl ?_
  refine ZE.aload_n d_Law_law_1888 rfl ?_
  refine ZE.iload_n d_Law_law_1889 rfl ?_
  refine ZE.iconst (n := 1) d_Law_law_1890 ?_
  refine ZE.iadd d_Law_law_1891 ?_
  refine ZE.ialdRE (v := (xs (i + 1))) d_Law_law_1892 h.2.2.2.2.1.1.1 (by have hn0 := h.2.2.2.2.1.1.2; show 0 ≤ (i : Int) + 1 ∧ (i : Int) + 1 < gn G (b : Int); omega) (by rw [show (i : Int) + 1 = ((i + 1 : Nat) : Int) by omega]; exact (h.2.2.2.2.1.2.1 (i + 1) (by omega)).1) ?_
  refine ZE.aload_n d_Law_law_1893 rfl ?_
  refine ZE.iload_n d_Law_law_1894 rfl ?_
  refine ZE.iconst (n := 2) d_Law_law_1895 ?_
  refine ZE.iadd d_Law_law_1896 ?_
  refine ZE.ialdRE (v := (xs (i + 2))) d_Law_law_1897 h.2.2.2.2.1.1.1 (by have hn0 := h.2.2.2.2.1.1.2; show 0 ≤ (i : Int) + 2 ∧ (i : Int) + 2 < gn G (b : Int); omega) (by rw [show (i : Int) + 2 = ((i + 2 : Nat) : Int) by omega]; exact (h.2.2.2.2.1.2.1 (i + 2) (by omega)).1) ?_
  refine ZE.aload_n d_Law_law_1898 rfl ?_
  refine ZE.iload_n d_Law_law_1899 rfl ?_
  refine ZE.iconst (n := 3) d_Law_law_1900 ?_
  refine ZE.iadd d_Law_law_1901 ?_
  refine ZE.ialdRE (v := (xs (i + 3))) d_Law_law_1902 h.2.2.2.2.1.1.1 (by have hn0 := h.2.2.2.2.1.1.2; show 0 ≤ (i : Int) + 3 ∧ (i : Int) + 3 < gn G (b : Int); omega) (by rw [show (i : Int) + 3 = ((i + 3 : Nat) : Int) by omega]; exact (h.2.2.2.2.1.2.1 (i + 3) (by omega)).1) ?_
  refine ZE.aload_n d_Law_law_1903 rfl ?_
  refine ZE.iload_n d_Law_law_1904 rfl ?_
  refine ZE.iconst (n := 4) d_Law_law_1905 ?_
  refine ZE.iadd d_Law_law_1906 ?_
  refine ZE.ialdRE (v := (xs (i + 4))) d_Law_law_1907 h.2.2.2.2.1.1.1 (by have hn0 := h.2.2.2.2.1.1.2; show 0 ≤ (i : Int) + 4 ∧ (i : Int) + 4 < gn G (b : Int); omega) (by rw [show (i : Int) + 4 = ((i + 4 : Nat) : Int) by omega]; exact (h.2.2.2.2.1.2.1 (i + 4) (by omega)).1) ?_
  refine ZE.aload_n d_Law_law_1908 rfl ?_
  refine ZE.iload_n d_Law_law_1909 rfl ?_
  refine ZE.iconst (n := 5) d_Law_law_1910 ?_
  refine ZE.iadd d_Law_law_1911 ?_
  refine ZE.ialdRE (v := (xs (i + 5))) d_Law_law_1912 h.2.2.2.2.1.1.1 (by have hn0 := h.2.2.2.2.1.1.2; show 0 ≤ (i : Int) + 5 ∧ (i : Int) + 5 < gn G (b : Int); omega) (by rw [show (i : Int) + 5 = ((i + 5 : Nat) : Int) by omega]; exact (h.2.2.2.2.1.2.1 (i + 5) (by omega)).1) ?_
  refine ZE.cV [(0, (xs (i + 1))), (0, (xs (i + 2))), (0, (xs (i + 3))), (0, (xs (i + 4))), (0, (xs (i + 5)))] [] [(2, x), (0, (xs (i + 1))), (0, (xs (i + 2))), (0, (xs (i + 3))), (0, (xs (i + 4))), (0, (xs (i + 5)))] d_Law_law_1913 l_Law_247 rfl rfl rfl rfl rfl rfl h.1.cCK.1 ?_
  refine c_feed (d := 0) h.1 (fun G2 A2 hC hT => ?_)
  show ZE 12 M_Law_law (gw G2 A2) 1916 [(2, (b : Int)), (2, x), (2, o), (0, (i : Int))] [(0, feV tl)] _
  have h2 := h.c hC hT
  refine ZE.aload_n d_Law_law_1916 rfl ?_
  refine ZE.aload_n d_Law_law_1917 rfl ?_
  refine ZE.iload_n d_Law_law_1918 rfl ?_
  refine ZE.iconst (n := 1) d_Law_law_1919 ?_
  refine ZE.iadd d_Law_law_1920 ?_
  refine ZE.ialdRE (v := (xs (i + 1))) d_Law_law_1921 h2.2.2.2.2.1.1.1 (by have hn0 := h2.2.2.2.2.1.1.2; show 0 ≤ (i : Int) + 1 ∧ (i : Int) + 1 < gn G2 (b : Int); omega) (by rw [show (i : Int) + 1 = ((i + 1 : Nat) : Int) by omega]; exact (h2.2.2.2.2.1.2.1 (i + 1) (by omega)).1) ?_
  refine ZE.aload_n d_Law_law_1922 rfl ?_
  refine ZE.iload_n d_Law_law_1923 rfl ?_
  refine ZE.iconst (n := 2) d_Law_law_1924 ?_
  refine ZE.iadd d_Law_law_1925 ?_
  refine ZE.ialdRE (v := (xs (i + 2))) d_Law_law_1926 h2.2.2.2.2.1.1.1 (by have hn0 := h2.2.2.2.2.1.1.2; show 0 ≤ (i : Int) + 2 ∧ (i : Int) + 2 < gn G2 (b : Int); omega) (by rw [show (i : Int) + 2 = ((i + 2 : Nat) : Int) by omega]; exact (h2.2.2.2.2.1.2.1 (i + 2) (by omega)).1) ?_
  refine ZE.aload_n d_Law_law_1927 rfl ?_
  refine ZE.iload_n d_Law_law_1928 rfl ?_
  refine ZE.iconst (n := 3) d_Law_law_1929 ?_
  refine ZE.iadd d_Law_law_1930 ?_
  refine ZE.ialdRE (v := (xs (i + 3))) d_Law_law_1931 h2.2.2.2.2.1.1.1 (by have hn0 := h2.2.2.2.2.1.1.2; show 0 ≤ (i : Int) + 3 ∧ (i : Int) + 3 < gn G2 (b : Int); omega) (by rw [show (i : Int) + 3 = ((i + 3 : Nat) : Int) by omega]; exact (h2.2.2.2.2.1.2.1 (i + 3) (by omega)).1) ?_
  refine ZE.aload_n d_Law_law_1932 rfl ?_
  refine ZE.iload_n d_Law_law_1933 rfl ?_
  refine ZE.iconst (n := 4) d_Law_law_1934 ?_
  refine ZE.iadd d_Law_law_1935 ?_
  refine ZE.ialdRE (v := (xs (i + 4))) d_Law_law_1936 h2.2.2.2.2.1.1.1 (by have hn0 := h2.2.2.2.2.1.1.2; show 0 ≤ (i : Int) + 4 ∧ (i : Int) + 4 < gn G2 (b : Int); omega) (by rw [show (i : Int) + 4 = ((i + 4 : Nat) : Int) by omega]; exact (h2.2.2.2.2.1.2.1 (i + 4) (by omega)).1) ?_
  refine ZE.aload_n d_Law_law_1937 rfl ?_
  refine ZE.iload_n d_Law_law_1938 rfl ?_
  refine ZE.iconst (n := 5) d_Law_law_1939 ?_
  refine ZE.iadd d_Law_law_1940 ?_
  refine ZE.ialdRE (v := (xs (i + 5))) d_Law_law_1941 h2.2.2.2.2.1.1.1 (by have hn0 := h2.2.2.2.2.1.1.2; show 0 ≤ (i : Int) + 5 ∧ (i : Int) + 5 < gn G2 (b : Int); omega) (by rw [show (i : Int) + 5 = ((i + 5 : Nat) : Int) by omega]; exact (h2.2.2.2.2.1.2.1 (i + 5) (by omega)).1) ?_
  refine ZE.cV [(0, (xs (i + 1))), (0, (xs (i + 2))), (0, (xs (i + 3))), (0, (xs (i + 4))), (0, (xs (i + 5)))] [(0, feV tl)] [(2, o), (0, (xs (i + 1))), (0, (xs (i + 2))), (0, (xs (i + 3))), (0, (xs (i + 4))), (0, (xs (i + 5)))] d_Law_law_1942 l_Law_251 rfl rfl rfl rfl rfl rfl h2.2.1.1 ?_
  refine r_feed h2.2.1 h2.2.2.1.1 h2.2.2.1.2.2.2.1 h.1.ct.2.2 h.1.ct.2.1 (fun B gB htB e29 e18 => ?_)
  show ZE 12 M_Law_law (gw G2 B) 1945 [(2, (b : Int)), (2, x), (2, o), (0, (i : Int))] [(0, feV tl), (0, feV tl)] _
  have h3 := h2.r (ri_fu h2.2.2.1 gB htB (wr_29 h2.2.2.1.2.2.2.2.1 e29 e18) h.2.2.1.2.2.2.2.2.2.2.2.2)
  refine ZE.same (tgt := 2023) d_Law_law_1945 rfl ?_
  exact k _ _ _ _ _ _ _ _ h3
set_option maxRecDepth 20000 in
set_option maxHeartbeats 4000000 in
theorem lc_end {d : Nat} {G : zG} {A : Int → Int → Int} {P : Option zV → zG → Prop} {b L : Nat} {xs : Nat → Int} {Z W : Nat} {x o : Int} {S T tl : Nat} {tf : Nat → Int} {wl : Nat} {wf : Nat → Int} (h : LH b L xs Z W G A x o S T tl tf wl wf S T tl tf wl wf) {i : Nat} (hi : i + 6 ≤ L) (k : ∀ G2 A2 (S2 T2 tl2 : Nat) (tf2 : Nat → Int) (wl2 : Nat) (wf2 : Nat → Int), LH b L xs Z W G2 A2 x o S2 T2 tl2 tf2 wl2 wf2 S2 T2 tl2 tf2 wl2 wf2 → ZE 12 M_Law_law (gw G2 A2) 2023 [(2, (b : Int)), (2, x), (2, o), (0, (i : Int))] [] P) : ZE 12 M_Law_law (gw G A) 1950 [(2, (b : Int)), (2, x), (2, o), (0, (i : Int))] [] P := by
  refine ZE.aload_n d_Law_law_1950 rfl ?_
  refine ZE.aload_n d_Law_law_1951 rfl ?_
  refine ZE.iload_n d_Law_law_1952 rfl ?_
  refine ZE.iconst (n := 1) d_Law_law_1953 ?_
  refine ZE.iadd d_Law_law_1954 ?_
  refine ZE.ialdRE (v := (xs (i + 1))) d_Law_law_1955 h.2.2.2.2.1.1.1 (by have hn0 := h.2.2.2.2.1.1.2; show 0 ≤ (i : Int) + 1 ∧ (i : Int) + 1 < gn G (b : Int); omega) (by rw [show (i : Int) + 1 = ((i + 1 : Nat) : Int) by omega]; exact (h.2.2.2.2.1.2.1 (i + 1) (by omega)).1) ?_
  refine ZE.cV [(0, (xs (i + 1)))] [] [(2, x), (0, (xs (i + 1)))] d_Law_law_1956 l_Law_252 rfl rfl rfl rfl rfl rfl h.1.cCK.1 ?_
  refine c_end (d := 0) h.1 (h.2.2.2.2.1.2.1 (i + 1) (by omega)).2 (fun G2 A2 hC hT => ?_)
  show ZE 12 M_Law_law (gw G2 A2) 1959 [(2, (b : Int)), (2, x), (2, o), (0, (i : Int))] [(0, enD tl (xs (i + 1)))] _
  have h2 := h.c hC hT
  refine ZE.aload_n d_Law_law_1959 rfl ?_
  refine ZE.aload_n d_Law_law_1960 rfl ?_
  refine ZE.iload_n d_Law_law_1961 rfl ?_
  refine ZE.iconst (n := 1) d_Law_law_1962 ?_
  refine ZE.iadd d_Law_law_1963 ?_
  refine ZE.ialdRE (v := (xs (i + 1))) d_Law_law_1964 h2.2.2.2.2.1.1.1 (by have hn0 := h2.2.2.2.2.1.1.2; show 0 ≤ (i : Int) + 1 ∧ (i : Int) + 1 < gn G2 (b : Int); omega) (by rw [show (i : Int) + 1 = ((i + 1 : Nat) : Int) by omega]; exact (h2.2.2.2.2.1.2.1 (i + 1) (by omega)).1) ?_
  refine ZE.cV [(0, (xs (i + 1)))] [(0, enD tl (xs (i + 1)))] [(2, o), (0, (xs (i + 1)))] d_Law_law_1965 l_Law_255 rfl rfl rfl rfl rfl rfl h2.2.1.1 ?_
  refine r_end h2.2.1 h2.2.2.1.1 h2.2.2.1.2.2.2.1 h.1.ct.2.2 h.1.ct.2.1 (h.2.2.2.2.1.2.1 (i + 1) (by omega)).2 (fun B gB htB e29 e18 => ?_)
  show ZE 12 M_Law_law (gw G2 B) 1968 [(2, (b : Int)), (2, x), (2, o), (0, (i : Int))] [(0, enD tl (xs (i + 1))), (0, enD tl (xs (i + 1)))] _
  have h3 := h2.r (ri_fu h2.2.2.1 gB htB (wr_29 h2.2.2.1.2.2.2.2.1 e29 e18) h.2.2.1.2.2.2.2.2.2.2.2.2)
  refine ZE.same (tgt := 2023) d_Law_law_1968 rfl ?_
  exact k _ _ _ _ _ _ _ _ h3
set_option maxRecDepth 20000 in
set_option maxHeartbeats 4000000 in
theorem lc_proves {d : Nat} {G : zG} {A : Int → Int → Int} {P : Option zV → zG → Prop} {b L : Nat} {xs : Nat → Int} {Z W : Nat} {x o : Int} {S T tl : Nat} {tf : Nat → Int} {wl : Nat} {wf : Nat → Int} (h : LH b L xs Z W G A x o S T tl tf wl wf S T tl tf wl wf) {i : Nat} (hi : i + 6 ≤ L) (k : ∀ G2 A2 (S2 T2 tl2 : Nat) (tf2 : Nat → Int) (wl2 : Nat) (wf2 : Nat → Int), LH b L xs Z W G2 A2 x o S2 T2 tl2 tf2 wl2 wf2 S2 T2 tl2 tf2 wl2 wf2 → ZE 12 M_Law_law (gw G2 A2) 2023 [(2, (b : Int)), (2, x), (2, o), (0, (i : Int))] [] P) : ZE 12 M_Law_law (gw G A) 1973 [(2, (b : Int)), (2, x), (2, o), (0, (i : Int))] [] P := by
  refine ZE.aload_n d_Law_law_1973 rfl ?_
  refine ZE.cV [] [] [(2, x), (9, 0)] d_Law_law_1974 l_Law_256 rfl rfl rfl rfl rfl rfl h.1.cCK.1 ?_
  refine c_proves (d := 0) h.1 (fun G2 A2 hC hT => ?_)
  show ZE 12 M_Law_law (gw G2 A2) 1977 [(2, (b : Int)), (2, x), (2, o), (0, (i : Int))] [(0, pvV S tl tf)] _
  have h2 := h.c hC hT
  refine ZE.aload_n d_Law_law_1977 rfl ?_
  refine ZE.cV [] [(0, pvV S tl tf)] [(2, o), (9, 0), (9, 0)] d_Law_law_1978 l_Law_259 rfl rfl rfl rfl rfl rfl h2.2.1.1 ?_
  refine r_proves h2.2.1 h2.2.2.1.1 h2.2.2.1.2.1 h.1.cS.2.1 h.1.cS.2.2 h2.2.2.1.2.2.2.1 h.1.ct.2.2 h.1.ct.2.1 (fun B gB htB e29 e18 => ?_)
  show ZE 12 M_Law_law (gw G2 B) 1981 [(2, (b : Int)), (2, x), (2, o), (0, (i : Int))] [(0, pvV S tl tf), (0, pvV S tl tf)] _
  have h3 := h2.r (ri_fu h2.2.2.1 gB htB (wr_29 h2.2.2.1.2.2.2.2.1 e29 e18) h.2.2.1.2.2.2.2.2.2.2.2.2)
  refine ZE.same (tgt := 2023) d_Law_law_1981 rfl ?_
  exact k _ _ _ _ _ _ _ _ h3
set_option maxRecDepth 20000 in
set_option maxHeartbeats 4000000 in
theorem lc_thick {d : Nat} {G : zG} {A : Int → Int → Int} {P : Option zV → zG → Prop} {b L : Nat} {xs : Nat → Int} {Z W : Nat} {x o : Int} {S T tl : Nat} {tf : Nat → Int} {wl : Nat} {wf : Nat → Int} (h : LH b L xs Z W G A x o S T tl tf wl wf S T tl tf wl wf) {i : Nat} (hi : i + 6 ≤ L) (k : ∀ G2 A2 (S2 T2 tl2 : Nat) (tf2 : Nat → Int) (wl2 : Nat) (wf2 : Nat → Int), LH b L xs Z W G2 A2 x o S2 T2 tl2 tf2 wl2 wf2 S2 T2 tl2 tf2 wl2 wf2 → ZE 12 M_Law_law (gw G2 A2) 2023 [(2, (b : Int)), (2, x), (2, o), (0, (i : Int))] [] P) : ZE 12 M_Law_law (gw G A) 1999 [(2, (b : Int)), (2, x), (2, o), (0, (i : Int))] [] P := by
  refine ZE.aload_n d_Law_law_1999 rfl ?_
  refine ZE.aload_n d_Law_law_2000 rfl ?_
  refine ZE.iload_n d_Law_law_2001 rfl ?_
  refine ZE.iconst (n := 1) d_Law_law_2002 ?_
  refine ZE.iadd d_Law_law_2003 ?_
  refine ZE.ialdRE (v := (xs (i + 1))) d_Law_law_2004 h.2.2.2.2.1.1.1 (by have hn0 := h.2.2.2.2.1.1.2; show 0 ≤ (i : Int) + 1 ∧ (i : Int) + 1 < gn G (b : Int); omega) (by rw [show (i : Int) + 1 = ((i + 1 : Nat) : Int) by omega]; exact (h.2.2.2.2.1.2.1 (i + 1) (by omega)).1) ?_
  refine ZE.cV [(0, (xs (i + 1)))] [] [(2, x), (0, (xs (i + 1)))] d_Law_law_2005 l_Law_264 rfl rfl rfl rfl rfl rfl h.1.cCK.1 ?_
  refine c_thick (d := 0) h.1 (h.2.2.2.2.1.2.1 (i + 1) (by omega)).2 (fun G2 A2 hC hT => ?_)
  show ZE 12 M_Law_law (gw G2 A2) 2008 [(2, (b : Int)), (2, x), (2, o), (0, (i : Int))] [(1, tcV S (xs (i + 1)))] _
  have h2 := h.c hC hT
  refine ZE.aload_n d_Law_law_2008 rfl ?_
  refine ZE.aload_n d_Law_law_2009 rfl ?_
  refine ZE.iload_n d_Law_law_2010 rfl ?_
  refine ZE.iconst (n := 1) d_Law_law_2011 ?_
  refine ZE.iadd d_Law_law_2012 ?_
  refine ZE.ialdRE (v := (xs (i + 1))) d_Law_law_2013 h2.2.2.2.2.1.1.1 (by have hn0 := h2.2.2.2.2.1.1.2; show 0 ≤ (i : Int) + 1 ∧ (i : Int) + 1 < gn G2 (b : Int); omega) (by rw [show (i : Int) + 1 = ((i + 1 : Nat) : Int) by omega]; exact (h2.2.2.2.2.1.2.1 (i + 1) (by omega)).1) ?_
  refine ZE.cV [(0, (xs (i + 1)))] [(1, tcV S (xs (i + 1)))] [(2, o), (0, (xs (i + 1)))] d_Law_law_2014 l_Law_268 rfl rfl rfl rfl rfl rfl h2.2.1.1 ?_
  refine r_thick h2.2.1 h2.2.2.1.1 h2.2.2.1.2.1 h.1.cS.2.1 h.1.cS.2.2 (h.2.2.2.2.1.2.1 (i + 1) (by omega)).2 ?_
  show ZE 12 M_Law_law (gw G2 A2) 2017 [(2, (b : Int)), (2, x), (2, o), (0, (i : Int))] [(1, tcV S (xs (i + 1))), (1, tcV S (xs (i + 1)))] _
  have hz := tcV_R h.1.cS.2.1 (xs (i + 1))
  refine ZE.lcmp d_Law_law_2017 hz hz ?_
  rw [show zcmp (tcV S (xs (i + 1))) (tcV S (xs (i + 1))) = 0 from zcmp_eq.mpr rfl]
  refine ZE.if_eq (tgt := 2023) d_Law_law_2018 rfl (by unfold zR; omega) (fun _ => ?_) (fun q => absurd rfl q)
  exact k _ _ _ _ _ _ _ _ h2
