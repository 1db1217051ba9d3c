set_option maxRecDepth 20000 in
set_option maxHeartbeats 4000000 in
theorem c_digit {d : Nat} {G : zG} {A : Int → Int → Int} {P : Option zV → zG → Prop} {x : Int} {S T tl : Nat} {tf : Nat → Int} {wl : Nat} {wf : Nat → Int} (h : CI G A x S T tl tf wl wf) {p : Int} (hp : zR p) {i : Int} (hi : zR i) (k : ∀ G2 A2, CI G2 A2 x S T tl tf wl wf → cT G A G2 A2 x → P (some (0, dgV S p i)) (gw G2 A2)) : ZE 11 M_SN_digit (gw G A) 0 [(2, x), (0, p), (0, i)] [] P := by
  have hx0 := h.cCK.2.1
  have hR := h.cR
  have hL := h.cL.1
  have hgx := h.cL.2
  have hS7 := h.cS.2.1
  have hp5 := h.cS.2.2
  have hE0 := hR.E
  have hL64 := hR.l64
  have hC32 := hR.c32
  have hpl : (prL 1 S).length = (prs S).length := by rw [prL_1 hS7 hp5]
  have hcl : (csA 1 S).length = (csF S 1 128).length := rfl
  refine ZE.aload_n d_SN_digit_0 rfl ?_
  refine ZE.getE (v := x + 1) d_SN_digit_1 f_SN_12 (tg := 2) rfl h.cCK.1 h.cCF.1 ?_
  refine ZE.iload_n d_SN_digit_4 rfl ?_
  refine ZE.cV [(0, p)] [] [(2, x + 1), (0, p)] d_SN_digit_5 l_SN_231 rfl rfl rfl rfl rfl rfl h.cCK.2.2.1.1 ?_
  refine s_isCouple hR.K hR.F hR.n12 hL64 hp ?_
  show ZE 11 M_SN_digit (gw G A) 8 [(2, x), (0, p), (0, i)] [(0, b2i (0 ≤ p ∧ p < ((prL 1 S).length : Int)))] _
  refine ZE.if_eq (tgt := 29) d_SN_digit_8 rfl (zR_b2i _) (fun c8 => ?_) (fun c8 => ?_)
  · replace c8 := b2i_0.mp c8
    refine ZE.iconst (n := (-1)) d_SN_digit_29 ?_
    refine ZE.iret d_SN_digit_30 rfl ?_
    have e0 : inL S p = false := decide_eq_false (fun q => c8 (by omega))
    have k1 := k G A h cT.rf
    rw [show dgV S p i = (-1) from by unfold dgV; rw [e0]; rfl] at k1
    exact k1
  · replace c8 := b2i_n0.mp c8
    obtain ⟨pn, hpn⟩ : ∃ q : Nat, p = (q : Int) := ⟨p.toNat, by omega⟩
    subst hpn
    have e0 : inL S (pn : Int) = true := decide_eq_true (by omega)
    have hn1 := nN_1 hS7 hp5 pn
    refine ZE.aload_n d_SN_digit_11 rfl ?_
    refine ZE.getE (v := x + 1) d_SN_digit_12 f_SN_12 (tg := 2) rfl h.cCK.1 h.cCF.1 ?_
    refine ZE.iload_n d_SN_digit_15 rfl ?_
    have hc1 := hR.cp (k := pn) (by omega)
    have hvk := hR.v (k := pn) (by omega)
    refine ZE.cV [(0, (pn : Int))] [] [(2, x + 1), (0, (pn : Int)), (9, 0)] d_SN_digit_16 l_SN_118 rfl rfl rfl rfl rfl rfl h.cCK.2.2.1.1 ?_
    refine s_coupleAt hR.K hR.F hR.n12 hL64 (k1 := pn) (by omega) (v1 := A (x + 1 + 30) (pn : Int)) rfl (by omega) ?_
    show ZE 11 M_SN_digit (gw G A) 19 [(2, x), (0, (pn : Int)), (0, i)] [(2, A (x + 1 + 30) (pn : Int))] _
    refine ZE.getE (v := A (x + 1 + 30) (pn : Int) + 3) d_SN_digit_19 f_SN_122 (tg := 2) rfl hc1.2.2.1.1.1 hc1.2.2.1.2.1 ?_
    refine ZE.iload_n d_SN_digit_22 rfl ?_
    refine ZE.cV [(0, i)] [] [(2, A (x + 1 + 30) (pn : Int) + 3), (0, i), (9, 0), (9, 0)] d_SN_digit_23 l_SN_186 rfl rfl rfl rfl rfl rfl hc1.2.2.1.1.2.2.2.2.1 ?_
    refine B_digitAt hc1.2.2.1.1.2.2.2.2 hc1.2.2.1.2.2.2.2.2.2.1 (by have := nd_le (b := 1000000000) (n := 1) (by omega) (show nN 1 S pn < 1000000000 ^ 1 by omega); omega) hi ?_
    show ZE 11 M_SN_digit (gw G A) 26 [(2, x), (0, (pn : Int)), (0, i)] [(0, dgN (nN 1 S pn) i)] _
    refine ZE.goto (tgt := 30) d_SN_digit_26 rfl ?_
    refine ZE.iret d_SN_digit_30 rfl ?_
    have k1 := k G A h cT.rf
    rw [show dgV S (pn : Int) i = (dgN (nN 1 S pn) i) from by unfold dgV; rw [e0, if_pos rfl, Int.toNat_natCast, hn1]; rfl] at k1
    exact k1
set_option maxRecDepth 20000 in
set_option maxHeartbeats 4000000 in
theorem c_left {d : Nat} {G : zG} {A : Int → Int → Int} {P : Option zV → zG → Prop} {x : Int} {S T tl : Nat} {tf : Nat → Int} {wl : Nat} {wf : Nat → Int} (h : CI G A x S T tl tf wl wf) {p : Int} (hp : zR p) {m : Int} (hm : zR m) (k : ∀ G2 A2, CI G2 A2 x S T tl tf wl wf → cT G A G2 A2 x → P (some (0, lfV S p m)) (gw G2 A2)) : ZE 11 M_SN_left (gw G A) 0 [(2, x), (0, p), (0, m), (9, 0)] [] P := by
  have hx0 := h.cCK.2.1
  have hR := h.cR
  have hL := h.cL.1
  have hgx := h.cL.2
  have hS7 := h.cS.2.1
  have hp5 := h.cS.2.2
  have hE0 := hR.E
  have hL64 := hR.l64
  have hC32 := hR.c32
  have hpl : (prL 1 S).length = (prs S).length := by rw [prL_1 hS7 hp5]
  have hcl : (csA 1 S).length = (csF S 1 128).length := rfl
  refine ZE.aload_n d_SN_left_0 rfl ?_
  refine ZE.getE (v := x + 1) d_SN_left_1 f_SN_12 (tg := 2) rfl h.cCK.1 h.cCF.1 ?_
  refine ZE.iload_n d_SN_left_4 rfl ?_
  refine ZE.cV [(0, p)] [] [(2, x + 1), (0, p)] d_SN_left_5 l_SN_231 rfl rfl rfl rfl rfl rfl h.cCK.2.2.1.1 ?_
  refine s_isCouple hR.K hR.F hR.n12 hL64 hp ?_
  show ZE 11 M_SN_left (gw G A) 8 [(2, x), (0, p), (0, m), (9, 0)] [(0, b2i (0 ≤ p ∧ p < ((prL 1 S).length : Int)))] _
  refine ZE.if_eq (tgt := 22) d_SN_left_8 rfl (zR_b2i _) (fun c8 => ?_) (fun c8 => ?_)
  · replace c8 := b2i_0.mp c8
    refine ZE.iconst (n := 0) d_SN_left_22 ?_
    refine ZE.istore_n (ls2 := [(2, x), (0, p), (0, m), (0, 0)]) d_SN_left_23 (Nat.le_of_ble_eq_true rfl) rfl ?_
    refine ZE.iload_n d_SN_left_24 rfl ?_
    refine ZE.if_eq (tgt := 46) d_SN_left_25 rfl (by unfold zR; omega) (fun c25 => ?_) (fun c25 => ?_)
    · refine ZE.iconst (n := (-1)) d_SN_left_46 ?_
      refine ZE.iret d_SN_left_47 rfl ?_
      have e0 : inL S p = false := decide_eq_false (fun q => c8 (by omega))
      have k1 := k G A h cT.rf
      rw [show lfV S p m = (-1) from by unfold lfV; rw [e0]; rfl] at k1
      exact k1
    · exact absurd c25 (by decide)
  · replace c8 := b2i_n0.mp c8
    obtain ⟨pn, hpn⟩ : ∃ q : Nat, p = (q : Int) := ⟨p.toNat, by omega⟩
    subst hpn
    have e0 : inL S (pn : Int) = true := decide_eq_true (by omega)
    have hn1 := nN_1 hS7 hp5 pn
    refine ZE.iload_n d_SN_left_11 rfl ?_
    refine ZE.cS [(0, m)] [] [(0, m)] d_SN_left_12 l_SN_189 rfl rfl rfl rfl rfl rfl ?_
    refine c_modulus hm ?_
    show ZE 11 M_SN_left (gw G A) 15 [(2, x), (0, (pn : Int)), (0, m), (9, 0)] [(0, b2i (2 ≤ m ∧ m ≤ 10000))] _
    refine ZE.if_eq (tgt := 22) d_SN_left_15 rfl (zR_b2i _) (fun c15 => ?_) (fun c15 => ?_)
    · replace c15 := b2i_0.mp c15
      refine ZE.iconst (n := 0) d_SN_left_22 ?_
      refine ZE.istore_n (ls2 := [(2, x), (0, (pn : Int)), (0, m), (0, 0)]) d_SN_left_23 (Nat.le_of_ble_eq_true rfl) rfl ?_
      refine ZE.iload_n d_SN_left_24 rfl ?_
      refine ZE.if_eq (tgt := 46) d_SN_left_25 rfl (by unfold zR; omega) (fun c25 => ?_) (fun c25 => ?_)
      · refine ZE.iconst (n := (-1)) d_SN_left_46 ?_
        refine ZE.iret d_SN_left_47 rfl ?_
        have k1 := k G A h cT.rf
        rw [show lfV S (pn : Int) m = (-1) from by unfold lfV; rw [e0, if_pos rfl]; exact if_neg (by omega)] at k1
        exact k1
      · exact absurd c25 (by decide)
    · replace c15 := b2i_n0.mp c15
      obtain ⟨mm, hmm⟩ : ∃ q : Nat, m = (q : Int) := ⟨m.toNat, by omega⟩
      subst hmm
      refine ZE.iconst (n := 1) d_SN_left_18 ?_
      refine ZE.goto (tgt := 23) d_SN_left_19 rfl ?_
      refine ZE.istore_n (ls2 := [(2, x), (0, (pn : Int)), (0, (mm : Int)), (0, 1)]) d_SN_left_23 (Nat.le_of_ble_eq_true rfl) rfl ?_
      refine ZE.iload_n d_SN_left_24 rfl ?_
      refine ZE.if_eq (tgt := 46) d_SN_left_25 rfl (by unfold zR; omega) (fun c25 => ?_) (fun c25 => ?_)
      · exact absurd c25 (by decide)
      · refine ZE.aload_n d_SN_left_28 rfl ?_
        refine ZE.getE (v := x + 1) d_SN_left_29 f_SN_12 (tg := 2) rfl h.cCK.1 h.cCF.1 ?_
        refine ZE.iload_n d_SN_left_32 rfl ?_
        have hc1 := hR.cp (k := pn) (by omega)
        have hvk := hR.v (k := pn) (by omega)
        refine ZE.cV [(0, (pn : Int))] [] [(2, x + 1), (0, (pn : Int)), (9, 0)] d_SN_left_33 l_SN_118 rfl rfl rfl rfl rfl rfl h.cCK.2.2.1.1 ?_
        refine s_coupleAt hR.K hR.F hR.n12 hL64 (k1 := pn) (by omega) (v1 := A (x + 1 + 30) (pn : Int)) rfl (by omega) ?_
        show ZE 11 M_SN_left (gw G A) 36 [(2, x), (0, (pn : Int)), (0, (mm : Int)), (0, 1)] [(2, A (x + 1 + 30) (pn : Int))] _
        refine ZE.getE (v := A (x + 1 + 30) (pn : Int) + 3) d_SN_left_36 f_SN_122 (tg := 2) rfl hc1.2.2.1.1.1 hc1.2.2.1.2.1 ?_
        refine ZE.iload_n d_SN_left_39 rfl ?_
        refine ZE.cV [(0, (mm : Int))] [] [(2, A (x + 1 + 30) (pn : Int) + 3), (0, (mm : Int)), (9, 0), (9, 0), (9, 0)] d_SN_left_40 l_SN_234 rfl rfl rfl rfl rfl rfl hc1.2.2.1.1.2.2.2.2.1 ?_
        refine B_remainder hc1.2.2.1.1.2.2.2.2 hc1.2.2.1.2.2.2.2.2.2.1 (y := mm) (by omega) (by omega) (by have := nd_le (b := 1000000000) (n := 1) (by omega) (show nN 1 S pn < 1000000000 ^ 1 by omega); omega) ?_
        show ZE 11 M_SN_left (gw G A) 43 [(2, x), (0, (pn : Int)), (0, (mm : Int)), (0, 1)] [(0, ((nN 1 S pn % mm : Nat) : Int))] _
        refine ZE.goto (tgt := 47) d_SN_left_43 rfl ?_
        refine ZE.iret d_SN_left_47 rfl ?_
        have k1 := k G A h cT.rf
        rw [show lfV S (pn : Int) (mm : Int) = (((nN 1 S pn % mm : Nat) : Int)) from by unfold lfV; rw [e0, if_pos rfl, if_pos (by omega), Int.toNat_natCast, Int.toNat_natCast, hn1]] at k1
        exact k1
set_option maxRecDepth 20000 in
set_option maxHeartbeats 4000000 in
theorem c_small {d : Nat} {G : zG} {A : Int → Int → Int} {P : Option zV → zG → Prop} {x : Int} {S T tl : Nat} {tf : Nat → Int} {wl : Nat} {wf : Nat → Int} (h : CI G A x S T tl tf wl wf) {p : Int} (hp : zR p) (k : ∀ G2 A2, CI G2 A2 x S T tl tf wl wf → cT G A G2 A2 x → P (some (0, smV S p)) (gw G2 A2)) : ZE 11 M_SN_small (gw G A) 0 [(2, x), (0, p)] [] P := by
  have hx0 := h.cCK.2.1
  have hR := h.cR
  have hL := h.cL.1
  have hgx := h.cL.2
  have hS7 := h.cS.2.1
  have hp5 := h.cS.2.2
  have hE0 := hR.E
  have hL64 := hR.l64
  have hC32 := hR.c32
  have hpl : (prL 1 S).length = (prs S).length := by rw [prL_1 hS7 hp5]
  have hcl : (csA 1 S).length = (csF S 1 128).length := rfl
  refine ZE.aload_n d_SN_small_0 rfl ?_
  refine ZE.getE (v := x + 1) d_SN_small_1 f_SN_12 (tg := 2) rfl h.cCK.1 h.cCF.1 ?_
  refine ZE.iload_n d_SN_small_4 rfl ?_
  refine ZE.cV [(0, p)] [] [(2, x + 1), (0, p)] d_SN_small_5 l_SN_237 rfl rfl rfl rfl rfl rfl h.cCK.2.2.1.1 ?_
  refine s_smallAt hR hp ?_
  show ZE 11 M_SN_small (gw G A) 8 [(2, x), (0, p)] [(0, snV 1 S p)] _
  refine ZE.iret d_SN_small_8 rfl ?_
  have e1 : smV S p = snV 1 S p := by
    unfold smV snV inL
    rw [hpl]
    by_cases q : 0 ≤ p ∧ p < ((prs S).length : Int)
    · rw [if_pos (decide_eq_true q), if_pos q, nN_1 hS7 hp5]
    · rw [if_neg (fun z => q (of_decide_eq_true z)), if_neg q]
  have k1 := k G A h cT.rf
  rw [show smV S p = (snV 1 S p) from e1] at k1
  exact k1
set_option maxRecDepth 20000 in
set_option maxHeartbeats 4000000 in
theorem c_measure {d : Nat} {G : zG} {A : Int → Int → Int} {P : Option zV → zG → Prop} {x : Int} {S T tl : Nat} {tf : Nat → Int} {wl : Nat} {wf : Nat → Int} (h : CI G A x S T tl tf wl wf) {p : Int} (hp : zR p) {m : Int} (hm : zR m) (k : ∀ G2 A2, CI G2 A2 x S T tl tf wl wf → cT G A G2 A2 x → P (some (0, msV S p m)) (gw G2 A2)) : ZE 11 M_SN_measure (gw G A) 0 [(2, x), (0, p), (0, m), (9, 0)] [] P := by
  have hx0 := h.cCK.2.1
  have hR := h.cR
  have hL := h.cL.1
  have hgx := h.cL.2
  have hS7 := h.cS.2.1
  have hp5 := h.cS.2.2
  have hE0 := hR.E
  have hL64 := hR.l64
  have hC32 := hR.c32
  have hpl : (prL 1 S).length = (prs S).length := by rw [prL_1 hS7 hp5]
  have hcl : (csA 1 S).length = (csF S 1 128).length := rfl
  refine ZE.aload_n d_SN_measure_0 rfl ?_
  refine ZE.getE (v := x + 1) d_SN_measure_1 f_SN_12 (tg := 2) rfl h.cCK.1 h.cCF.1 ?_
  refine ZE.iload_n d_SN_measure_4 rfl ?_
  refine ZE.cV [(0, p)] [] [(2, x + 1), (0, p)] d_SN_measure_5 l_SN_231 rfl rfl rfl rfl rfl rfl h.cCK.2.2.1.1 ?_
  refine s_isCouple hR.K hR.F hR.n12 hL64 hp ?_
  show ZE 11 M_SN_measure (gw G A) 8 [(2, x), (0, p), (0, m), (9, 0)] [(0, b2i (0 ≤ p ∧ p < ((prL 1 S).length : Int)))] _
  refine ZE.if_eq (tgt := 22) d_SN_measure_8 rfl (zR_b2i _) (fun c8 => ?_) (fun c8 => ?_)
  · replace c8 := b2i_0.mp c8
    refine ZE.iconst (n := 0) d_SN_measure_22 ?_
    refine ZE.istore_n (ls2 := [(2, x), (0, p), (0, m), (0, 0)]) d_SN_measure_23 (Nat.le_of_ble_eq_true rfl) rfl ?_
    refine ZE.iload_n d_SN_measure_24 rfl ?_
    refine ZE.if_eq (tgt := 40) d_SN_measure_25 rfl (by unfold zR; omega) (fun c25 => ?_) (fun c25 => ?_)
    · refine ZE.bipush (n := (-100)) d_SN_measure_40 rfl ?_
      refine ZE.iret d_SN_measure_42 rfl ?_
      have e0 : inL S p = false := decide_eq_false (fun q => c8 (by omega))
      have k1 := k G A h cT.rf
      rw [show msV S p m = (-100) from by unfold msV; rw [e0]; rfl] at k1
      exact k1
    · exact absurd c25 (by decide)
  · replace c8 := b2i_n0.mp c8
    obtain ⟨pn, hpn⟩ : ∃ q : Nat, p = (q : Int) := ⟨p.toNat, by omega⟩
    subst hpn
    have e0 : inL S (pn : Int) = true := decide_eq_true (by omega)
    have hn1 := nN_1 hS7 hp5 pn
    refine ZE.iload_n d_SN_measure_11 rfl ?_
    refine ZE.cS [(0, m)] [] [(0, m)] d_SN_measure_12 l_SN_240 rfl rfl rfl rfl rfl rfl ?_
    refine c_isM hm ?_
    show ZE 11 M_SN_measure (gw G A) 15 [(2, x), (0, (pn : Int)), (0, m), (9, 0)] [(0, b2i (0 ≤ m ∧ m ≤ 8))] _
    refine ZE.if_eq (tgt := 22) d_SN_measure_15 rfl (zR_b2i _) (fun c15 => ?_) (fun c15 => ?_)
    · replace c15 := b2i_0.mp c15
      refine ZE.iconst (n := 0) d_SN_measure_22 ?_
      refine ZE.istore_n (ls2 := [(2, x), (0, (pn : Int)), (0, m), (0, 0)]) d_SN_measure_23 (Nat.le_of_ble_eq_true rfl) rfl ?_
      refine ZE.iload_n d_SN_measure_24 rfl ?_
      refine ZE.if_eq (tgt := 40) d_SN_measure_25 rfl (by unfold zR; omega) (fun c25 => ?_) (fun c25 => ?_)
      · refine ZE.bipush (n := (-100)) d_SN_measure_40 rfl ?_
        refine ZE.iret d_SN_measure_42 rfl ?_
        have k1 := k G A h cT.rf
        rw [show msV S (pn : Int) m = (-100) from by unfold msV; rw [e0, if_pos rfl]; exact if_neg (fun q => c15 (of_decide_eq_true q))] at k1
        exact k1
      · exact absurd c25 (by decide)
    · replace c15 := b2i_n0.mp c15
      refine ZE.iconst (n := 1) d_SN_measure_18 ?_
      refine ZE.goto (tgt := 23) d_SN_measure_19 rfl ?_
      refine ZE.istore_n (ls2 := [(2, x), (0, (pn : Int)), (0, m), (0, 1)]) d_SN_measure_23 (Nat.le_of_ble_eq_true rfl) rfl ?_
      refine ZE.iload_n d_SN_measure_24 rfl ?_
      refine ZE.if_eq (tgt := 40) d_SN_measure_25 rfl (by unfold zR; omega) (fun c25 => ?_) (fun c25 => ?_)
      · exact absurd c25 (by decide)
      · refine ZE.aload_n d_SN_measure_28 rfl ?_
        refine ZE.getE (v := x + 1) d_SN_measure_29 f_SN_12 (tg := 2) rfl h.cCK.1 h.cCF.1 ?_
        refine ZE.iload_n d_SN_measure_32 rfl ?_
        refine ZE.iload_n d_SN_measure_33 rfl ?_
        refine ZE.cV [(0, (pn : Int)), (0, m)] [] [(2, x + 1), (0, (pn : Int)), (0, m), (9, 0)] d_SN_measure_34 l_SN_243 rfl rfl rfl rfl rfl rfl h.cCK.2.2.1.1 ?_
        refine s_measureOf hR hL (pn := pn) (by omega) (by omega) ?_
        show ZE 11 M_SN_measure (gw G A) 37 [(2, x), (0, (pn : Int)), (0, m), (0, 1)] [(0, msN S pn m)] _
        refine ZE.goto (tgt := 42) d_SN_measure_37 rfl ?_
        refine ZE.iret d_SN_measure_42 rfl ?_
        have k1 := k G A h cT.rf
        rw [show msV S (pn : Int) m = (msN S pn m) from by unfold msV; rw [e0, if_pos rfl, Int.toNat_natCast]; exact if_pos (decide_eq_true (by omega))] at k1
        exact k1
set_option maxRecDepth 20000 in
set_option maxHeartbeats 4000000 in
theorem c_inPair {d : Nat} {G : zG} {A : Int → Int → Int} {P : Option zV → zG → Prop} {x : Int} {S T tl : Nat} {tf : Nat → Int} {wl : Nat} {wf : Nat → Int} (h : CI G A x S T tl tf wl wf) {p : Int} (hp : zR p) {q wh : Int} (hq : zR q) (hw : zR wh) (k : ∀ G2 A2, CI G2 A2 x S T tl tf wl wf → cT G A G2 A2 x → P (some (0, ipV S p q wh)) (gw G2 A2)) : ZE 11 M_SN_inPair (gw G A) 0 [(2, x), (0, p), (0, q), (0, wh), (9, 0), (9, 0)] [] P := by
  have hx0 := h.cCK.2.1
  have hR := h.cR
  have hL := h.cL.1
  have hgx := h.cL.2
  have hS7 := h.cS.2.1
  have hp5 := h.cS.2.2
  have hE0 := hR.E
  have hL64 := hR.l64
  have hC32 := hR.c32
  have hpl : (prL 1 S).length = (prs S).length := by rw [prL_1 hS7 hp5]
  have hcl : (csA 1 S).length = (csF S 1 128).length := rfl
  refine ZE.aload_n d_SN_inPair_0 rfl ?_
  refine ZE.getE (v := x + 1) d_SN_inPair_1 f_SN_12 (tg := 2) rfl h.cCK.1 h.cCF.1 ?_
  refine ZE.iload_n d_SN_inPair_4 rfl ?_
  refine ZE.cV [(0, p)] [] [(2, x + 1), (0, p)] d_SN_inPair_5 l_SN_231 rfl rfl rfl rfl rfl rfl h.cCK.2.2.1.1 ?_
  refine s_isCouple hR.K hR.F hR.n12 hL64 hp ?_
  show ZE 11 M_SN_inPair (gw G A) 8 [(2, x), (0, p), (0, q), (0, wh), (9, 0), (9, 0)] [(0, b2i (0 ≤ p ∧ p < ((prL 1 S).length : Int)))] _
  refine ZE.if_eq (tgt := 29) d_SN_inPair_8 rfl (zR_b2i _) (fun c8 => ?_) (fun c8 => ?_)
  · replace c8 := b2i_0.mp c8
    refine ZE.iconst (n := (-1)) d_SN_inPair_29 ?_
    refine ZE.iret d_SN_inPair_30 rfl ?_
    have e0 : inL S p = false := decide_eq_false (fun q => c8 (by omega))
    have k1 := k G A h cT.rf
    rw [show ipV S p q wh = (-1) from by unfold ipV; rw [e0]; rfl] at k1
    exact k1
  · replace c8 := b2i_n0.mp c8
    obtain ⟨pn, hpn⟩ : ∃ q : Nat, p = (q : Int) := ⟨p.toNat, by omega⟩
    subst hpn
    have e0 : inL S (pn : Int) = true := decide_eq_true (by omega)
    have hn1 := nN_1 hS7 hp5 pn
    refine ZE.aload_n d_SN_inPair_11 rfl ?_
    refine ZE.getE (v := (S : Int)) d_SN_inPair_12 f_SN_72 (tg := 0) rfl h.cCK.1 h.cS.1 ?_
    refine ZE.iload_n d_SN_inPair_15 rfl ?_
    refine ZE.cS [(0, (S : Int)), (0, q)] [] [(0, (S : Int)), (0, q)] d_SN_inPair_16 l_SN_96 rfl rfl rfl rfl rfl rfl ?_
    refine p_has hS7 hq hL ?_
    show ZE 11 M_SN_inPair (gw G A) 19 [(2, x), (0, (pn : Int)), (0, q), (0, wh), (9, 0), (9, 0)] [(0, b2i (hasB S q = true))] _
    refine ZE.if_eq (tgt := 29) d_SN_inPair_19 rfl (zR_b2i _) (fun c19 => ?_) (fun c19 => ?_)
    · replace c19 := b2i_0.mp c19
      refine ZE.iconst (n := (-1)) d_SN_inPair_29 ?_
      refine ZE.iret d_SN_inPair_30 rfl ?_
      have k1 := k G A h cT.rf
      rw [show ipV S (pn : Int) q wh = (-1) from by unfold ipV; rw [e0, if_pos rfl]; first | exact if_neg c19 | (rw [if_pos c19]; exact if_neg c26) | (rw [if_pos hyes]; exact if_neg c26)] at k1
      exact k1
    · replace c19 := b2i_n0.mp c19
      refine ZE.iload_n d_SN_inPair_22 rfl ?_
      refine ZE.cS [(0, wh)] [] [(0, wh)] d_SN_inPair_23 l_SN_183 rfl rfl rfl rfl rfl rfl ?_
      refine c_one2 hw ?_
      show ZE 11 M_SN_inPair (gw G A) 26 [(2, x), (0, (pn : Int)), (0, q), (0, wh), (9, 0), (9, 0)] [(0, b2i (wh = 0 ∨ wh = 1))] _
      refine ZE.if_ne (tgt := 31) d_SN_inPair_26 rfl (zR_b2i _) (fun c26 => ?_) (fun c26 => ?_)
      · replace c26 := b2i_n0.mp c26
        have hyes : hasB S q = true := c19
        obtain ⟨kk, hk7, hqk, hbt⟩ := hasB_iff.mp c19
        subst hqk
        refine ZE.aload_n d_SN_inPair_31 rfl ?_
        refine ZE.getE (v := x + 1) d_SN_inPair_32 f_SN_12 (tg := 2) rfl h.cCK.1 h.cCF.1 ?_
        refine ZE.iload_n d_SN_inPair_35 rfl ?_
        have hc1 := hR.cp (k := pn) (by omega)
        have hvk := hR.v (k := pn) (by omega)
        refine ZE.cV [(0, (pn : Int))] [] [(2, x + 1), (0, (pn : Int)), (9, 0)] d_SN_inPair_36 l_SN_118 rfl rfl rfl rfl rfl rfl h.cCK.2.2.1.1 ?_
        refine s_coupleAt hR.K hR.F hR.n12 hL64 (k1 := pn) (by omega) (v1 := A (x + 1 + 30) (pn : Int)) rfl (by omega) ?_
        show ZE 11 M_SN_inPair (gw G A) 39 [(2, x), (0, (pn : Int)), (0, (sev kk : Int)), (0, wh), (9, 0), (9, 0)] [(2, A (x + 1 + 30) (pn : Int))] _
        refine ZE.astore (ls2 := [(2, x), (0, (pn : Int)), (0, (sev kk : Int)), (0, wh), (2, A (x + 1 + 30) (pn : Int)), (9, 0)]) d_SN_inPair_39 (Nat.le_of_ble_eq_true rfl) rfl ?_
        refine ZE.iload_n d_SN_inPair_41 rfl ?_
        refine ZE.cS [(0, (sev kk : Int))] [] [(0, (sev kk : Int)), (9, 0)] d_SN_inPair_42 l_SN_246 rfl rfl rfl rfl rfl rfl ?_
        refine p_placeOf hq hL ?_
        show ZE 11 M_SN_inPair (gw G A) 45 [(2, x), (0, (pn : Int)), (0, (sev kk : Int)), (0, wh), (2, A (x + 1 + 30) (pn : Int)), (9, 0)] [(0, plc (sev kk : Int))] _
        rw [show plc (sev kk : Int) = (kk : Int) from plc_sev kk hk7]
        refine ZE.istore (ls2 := [(2, x), (0, (pn : Int)), (0, (sev kk : Int)), (0, wh), (2, A (x + 1 + 30) (pn : Int)), (0, (kk : Int))]) d_SN_inPair_45 (Nat.le_of_ble_eq_true rfl) rfl ?_
        refine ZE.iload_n d_SN_inPair_47 rfl ?_
        refine ZE.if_ne (tgt := 61) d_SN_inPair_48 rfl hw (fun c48 => ?_) (fun c48 => ?_)
        · refine ZE.aload d_SN_inPair_61 rfl ?_
          refine ZE.iload d_SN_inPair_63 rfl ?_
          refine ZE.cV [(0, (kk : Int))] [] [(2, A (x + 1 + 30) (pn : Int)), (0, (kk : Int))] d_SN_inPair_65 l_SN_252 rfl rfl rfl rfl rfl rfl hc1.2.2.1.1.1 ?_
          refine c_highPower hc1.2.2.1.1 hc1.2.2.1.2 (k0 := kk) hk7 ?_
          show ZE 11 M_SN_inPair (gw G A) 68 [(2, x), (0, (pn : Int)), (0, (sev kk : Int)), (0, wh), (2, A (x + 1 + 30) (pn : Int)), (0, (kk : Int))] [(0, (vp (sev kk) (nN 1 S pn + 1) : Int))] _
          refine ZE.iret d_SN_inPair_68 rfl ?_
          have k1 := k G A h cT.rf
          rw [show ipV S (pn : Int) (sev kk : Int) wh = ((vp (sev kk) (nN 1 S pn + 1) : Int)) from by unfold ipV; rw [e0, if_pos rfl, if_pos hyes, if_pos (by omega), Int.toNat_natCast, Int.toNat_natCast, ← hn1, show wh.toNat = 1 by omega]] at k1
          exact k1
        · refine ZE.aload d_SN_inPair_51 rfl ?_
          refine ZE.iload d_SN_inPair_53 rfl ?_
          refine ZE.cV [(0, (kk : Int))] [] [(2, A (x + 1 + 30) (pn : Int)), (0, (kk : Int))] d_SN_inPair_55 l_SN_249 rfl rfl rfl rfl rfl rfl hc1.2.2.1.1.1 ?_
          refine c_lowPower hc1.2.2.1.1 hc1.2.2.1.2 (k0 := kk) hk7 ?_
          show ZE 11 M_SN_inPair (gw G A) 58 [(2, x), (0, (pn : Int)), (0, (sev kk : Int)), (0, wh), (2, A (x + 1 + 30) (pn : Int)), (0, (kk : Int))] [(0, (vp (sev kk) (nN 1 S pn) : Int))] _
          refine ZE.goto (tgt := 68) d_SN_inPair_58 rfl ?_
          refine ZE.iret d_SN_inPair_68 rfl ?_
          have k1 := k G A h cT.rf
          rw [show ipV S (pn : Int) (sev kk : Int) wh = ((vp (sev kk) (nN 1 S pn) : Int)) from by unfold ipV; rw [e0, if_pos rfl, if_pos hyes, if_pos (by omega), Int.toNat_natCast, Int.toNat_natCast, ← hn1, show wh.toNat = 0 by omega]; rfl] at k1
          exact k1
      · replace c26 := b2i_0.mp c26
        refine ZE.iconst (n := (-1)) d_SN_inPair_29 ?_
        refine ZE.iret d_SN_inPair_30 rfl ?_
        have k1 := k G A h cT.rf
        rw [show ipV S (pn : Int) q wh = (-1) from by unfold ipV; rw [e0, if_pos rfl]; first | exact if_neg c19 | (rw [if_pos c19]; exact if_neg c26) | (rw [if_pos hyes]; exact if_neg c26)] at k1
        exact k1
set_option maxRecDepth 20000 in
set_option maxHeartbeats 4000000 in
theorem c_order {d : Nat} {G : zG} {A : Int → Int → Int} {P : Option zV → zG → Prop} {x : Int} {S T tl : Nat} {tf : Nat → Int} {wl : Nat} {wf : Nat → Int} (h : CI G A x S T tl tf wl wf) {m m2 p : Int} (hm : zR m) (hm2 : zR m2) (hp : zR p) (k : ∀ G2 A2, CI G2 A2 x S T tl tf wl wf → cT G A G2 A2 x → P (some (0, orV S m m2 p)) (gw G2 A2)) : ZE 11 M_SN_order (gw G A) 0 [(2, x), (0, m), (0, m2), (0, p)] [] P := by
  have hx0 := h.cCK.2.1
  have hR := h.cR
  have hL := h.cL.1
  have hgx := h.cL.2
  have hS7 := h.cS.2.1
  have hp5 := h.cS.2.2
  have hE0 := hR.E
  have hL64 := hR.l64
  have hC32 := hR.c32
  have hpl : (prL 1 S).length = (prs S).length := by rw [prL_1 hS7 hp5]
  have hcl : (csA 1 S).length = (csF S 1 128).length := rfl
  refine ZE.iload_n d_SN_order_0 rfl ?_
  refine ZE.cS [(0, m)] [] [(0, m)] d_SN_order_1 l_SN_240 rfl rfl rfl rfl rfl rfl ?_
  refine c_isM hm ?_
  show ZE 11 M_SN_order (gw G A) 4 [(2, x), (0, m), (0, m2), (0, p)] [(0, b2i (0 ≤ m ∧ m ≤ 8))] _
  refine ZE.if_eq (tgt := 25) d_SN_order_4 rfl (zR_b2i _) (fun c4 => ?_) (fun c4 => ?_)
  · replace c4 := b2i_0.mp c4
    refine ZE.iconst (n := (-1)) d_SN_order_25 ?_
    refine ZE.iret d_SN_order_26 rfl ?_
    have k1 := k G A h cT.rf
    rw [show orV S m m2 p = (-1) from if_neg (by intro z; rw [Bool.and_eq_true, Bool.and_eq_true] at z; first | exact c4 (of_decide_eq_true z.1.1) | exact c11 (of_decide_eq_true z.1.2) | (have z2 := of_decide_eq_true z.2; rw [← hpl] at z2; exact c22 z2))] at k1
    exact k1
  · replace c4 := b2i_n0.mp c4
    refine ZE.iload_n d_SN_order_7 rfl ?_
    refine ZE.cS [(0, m2)] [] [(0, m2)] d_SN_order_8 l_SN_240 rfl rfl rfl rfl rfl rfl ?_
    refine c_isM hm2 ?_
    show ZE 11 M_SN_order (gw G A) 11 [(2, x), (0, m), (0, m2), (0, p)] [(0, b2i (0 ≤ m2 ∧ m2 ≤ 8))] _
    refine ZE.if_eq (tgt := 25) d_SN_order_11 rfl (zR_b2i _) (fun c11 => ?_) (fun c11 => ?_)
    · replace c11 := b2i_0.mp c11
      refine ZE.iconst (n := (-1)) d_SN_order_25 ?_
      refine ZE.iret d_SN_order_26 rfl ?_
      have k1 := k G A h cT.rf
      rw [show orV S m m2 p = (-1) from if_neg (by intro z; rw [Bool.and_eq_true, Bool.and_eq_true] at z; first | exact c4 (of_decide_eq_true z.1.1) | exact c11 (of_decide_eq_true z.1.2) | (have z2 := of_decide_eq_true z.2; rw [← hpl] at z2; exact c22 z2))] at k1
      exact k1
    · replace c11 := b2i_n0.mp c11
      refine ZE.aload_n d_SN_order_14 rfl ?_
      refine ZE.getE (v := x + 1) d_SN_order_15 f_SN_12 (tg := 2) rfl h.cCK.1 h.cCF.1 ?_
      refine ZE.iload_n d_SN_order_18 rfl ?_
      refine ZE.cV [(0, p)] [] [(2, x + 1), (0, p)] d_SN_order_19 l_SN_231 rfl rfl rfl rfl rfl rfl h.cCK.2.2.1.1 ?_
      refine s_isCouple hR.K hR.F hR.n12 hL64 hp ?_
      show ZE 11 M_SN_order (gw G A) 22 [(2, x), (0, m), (0, m2), (0, p)] [(0, b2i (0 ≤ p ∧ p < ((prL 1 S).length : Int)))] _
      refine ZE.if_ne (tgt := 27) d_SN_order_22 rfl (zR_b2i _) (fun c22 => ?_) (fun c22 => ?_)
      · replace c22 := b2i_n0.mp c22
        obtain ⟨pn, hpn⟩ : ∃ q : Nat, p = (q : Int) := ⟨p.toNat, by omega⟩
        subst hpn
        have e0 : inL S (pn : Int) = true := decide_eq_true (by omega)
        have hn1 := nN_1 hS7 hp5 pn
        refine ZE.aload_n d_SN_order_27 rfl ?_
        refine ZE.getE (v := x + 120) d_SN_order_28 f_SN_38 (tg := 2) rfl h.cCK.1 h.cCF.2.2.2.2.1 ?_
        refine ZE.aload_n d_SN_order_31 rfl ?_
        refine ZE.getE (v := x + 1) d_SN_order_32 f_SN_12 (tg := 2) rfl h.cCK.1 h.cCF.1 ?_
        refine ZE.iload_n d_SN_order_35 rfl ?_
        refine ZE.iload_n d_SN_order_36 rfl ?_
        refine ZE.iload_n d_SN_order_37 rfl ?_
        refine ZE.cV [(2, x + 1), (0, m), (0, m2), (0, (pn : Int))] [] [(2, x + 120), (2, x + 1), (0, m), (0, m2), (0, (pn : Int)), (9, 0), (9, 0)] d_SN_order_38 l_SN_255 rfl rfl rfl rfl rfl rfl h.cCK.2.2.2.2.2.2.1.1 ?_
        refine y_placed h.cCK.2.2.2.2.2.2.1 h.cY hR hL (by omega) (by omega) (by omega) c4 c11 (pn := pn) (by omega) (fun B gB => ?_)
        show ZE 11 M_SN_order (gw G B) 41 [(2, x), (0, m), (0, m2), (0, (pn : Int))] [(0, fst1 (orP S m m2 (pn : Int)) (prs S).length)] _
        refine ZE.iret d_SN_order_41 rfl ?_
        have k1 := k G B (yq_CI h gB).1 (yq_CI h gB).2
        rw [show orV S m m2 (pn : Int) = (fst1 (orP S m m2 (pn : Int)) (prs S).length) from if_pos (by unfold isM; rw [e0, decide_eq_true (show 0 ≤ m ∧ m ≤ 8 by omega), decide_eq_true (show 0 ≤ m2 ∧ m2 ≤ 8 by omega)]; rfl)] at k1
        exact k1
      · replace c22 := b2i_0.mp c22
        refine ZE.iconst (n := (-1)) d_SN_order_25 ?_
        refine ZE.iret d_SN_order_26 rfl ?_
        have k1 := k G A h cT.rf
        rw [show orV S m m2 p = (-1) from if_neg (by intro z; rw [Bool.and_eq_true, Bool.and_eq_true] at z; first | exact c4 (of_decide_eq_true z.1.1) | exact c11 (of_decide_eq_true z.1.2) | (have z2 := of_decide_eq_true z.2; rw [← hpl] at z2; exact c22 z2))] at k1
        exact k1
set_option maxRecDepth 20000 in
set_option maxHeartbeats 4000000 in
theorem c_count {d : Nat} {G : zG} {A : Int → Int → Int} {P : Option zV → zG → Prop} {x : Int} {S T tl : Nat} {tf : Nat → Int} {wl : Nat} {wf : Nat → Int} (h : CI G A x S T tl tf wl wf) {m lo hi : Int} (hm : zR m) (hlo : zR lo) (hhi : zR hi) (k : ∀ G2 A2, CI G2 A2 x S T tl tf wl wf → cT G A G2 A2 x → P (some (0, ctV S m lo hi)) (gw G2 A2)) : ZE 11 M_SN_count (gw G A) 0 [(2, x), (0, m), (0, lo), (0, hi), (9, 0), (9, 0), (9, 0)] [] P := by
  have hx0 := h.cCK.2.1
  have hR := h.cR
  have hL := h.cL.1
  have hgx := h.cL.2
  have hS7 := h.cS.2.1
  have hp5 := h.cS.2.2
  have hE0 := hR.E
  have hL64 := hR.l64
  have hC32 := hR.c32
  have hpl : (prL 1 S).length = (prs S).length := by rw [prL_1 hS7 hp5]
  have hcl : (csA 1 S).length = (csF S 1 128).length := rfl
  refine ZE.iload_n d_SN_count_0 rfl ?_
  refine ZE.cS [(0, m)] [] [(0, m)] d_SN_count_1 l_SN_240 rfl rfl rfl rfl rfl rfl ?_
  refine c_isM hm ?_
  show ZE 11 M_SN_count (gw G A) 4 [(2, x), (0, m), (0, lo), (0, hi), (9, 0), (9, 0), (9, 0)] [(0, b2i (0 ≤ m ∧ m ≤ 8))] _
  refine ZE.if_ne (tgt := 9) d_SN_count_4 rfl (zR_b2i _) (fun c4 => ?_) (fun c4 => ?_)
  · replace c4 := b2i_n0.mp c4
    refine ZE.iconst (n := 0) d_SN_count_9 ?_
    refine ZE.istore (ls2 := [(2, x), (0, m), (0, lo), (0, hi), (0, 0), (9, 0), (9, 0)]) d_SN_count_10 (Nat.le_of_ble_eq_true rfl) rfl ?_
    refine ZE.iconst (n := 0) d_SN_count_12 ?_
    refine ZE.istore (ls2 := [(2, x), (0, m), (0, lo), (0, hi), (0, 0), (0, 0), (9, 0)]) d_SN_count_13 (Nat.le_of_ble_eq_true rfl) rfl ?_
    have L15 : ∀ (tt0 : Nat) (j : Nat) (hj : j ≤ ((prL 1 S).length)), ((prL 1 S).length) - j < tt0 → ZE 11 M_SN_count (gw G A) 15 [(2, x), (0, m), (0, lo), (0, hi), (0, (cnt (fun k => decide (lo ≤ msN S k m ∧ msN S k m ≤ hi)) j : Int)), (0, (j : Int)), (9, 0)] [] P := by
      intro tt0
      induction tt0 with
      | zero => intro j hj hm; exact absurd hm (Nat.not_lt_zero _)
      | succ tt0 ih =>
        intro j hj hm
        have hcn := cnt_le (fun k => decide (lo ≤ msN S k m ∧ msN S k m ≤ hi)) j
        refine ZE.iload d_SN_count_15 rfl ?_
        refine ZE.aload_n d_SN_count_17 rfl ?_
        refine ZE.getE (v := x + 1) d_SN_count_18 f_SN_12 (tg := 2) rfl h.cCK.1 h.cCF.1 ?_
        refine ZE.getE (v := ((prL 1 S).length : Int)) d_SN_count_21 f_SN_93 (tg := 0) rfl h.cCK.2.2.1.1 h.cR.n12 ?_
        refine ZE.icmp_ge (tgt := 67) d_SN_count_24 rfl (by unfold zR; omega) (by unfold zR; omega) (fun c24 => ?_) (fun c24 => ?_)
        · have e1 : j = (prs S).length := by omega
          refine ZE.iload d_SN_count_67 rfl ?_
          refine ZE.iret d_SN_count_69 rfl ?_
          have k1 := k G A h cT.rf
          rw [show ctV S m lo hi = ((cnt (fun k => decide (lo ≤ msN S k m ∧ msN S k m ≤ hi)) j : Int)) from by unfold ctV; rw [e1]; exact if_pos (decide_eq_true c4)] at k1
          exact k1
        · refine ZE.aload_n d_SN_count_27 rfl ?_
          refine ZE.getE (v := x + 1) d_SN_count_28 f_SN_12 (tg := 2) rfl h.cCK.1 h.cCF.1 ?_
          refine ZE.iload d_SN_count_31 rfl ?_
          refine ZE.iload_n d_SN_count_33 rfl ?_
          have a1 := msN_R hS7 hp5 (k := j) (by omega) m
          refine ZE.cV [(0, (j : Int)), (0, m)] [] [(2, x + 1), (0, (j : Int)), (0, m), (9, 0)] d_SN_count_34 l_SN_243 rfl rfl rfl rfl rfl rfl h.cCK.2.2.1.1 ?_
          refine s_measureOf hR hL (pn := j) (by omega) c4 ?_
          show ZE 11 M_SN_count (gw G A) 37 [(2, x), (0, m), (0, lo), (0, hi), (0, (cnt (fun k => decide (lo ≤ msN S k m ∧ msN S k m ≤ hi)) j : Int)), (0, (j : Int)), (9, 0)] [(0, msN S j m)] _
          refine ZE.istore (ls2 := [(2, x), (0, m), (0, lo), (0, hi), (0, (cnt (fun k => decide (lo ≤ msN S k m ∧ msN S k m ≤ hi)) j : Int)), (0, (j : Int)), (0, msN S j m)]) d_SN_count_37 (Nat.le_of_ble_eq_true rfl) rfl ?_
          refine ZE.iload d_SN_count_39 rfl ?_
          refine ZE.iload d_SN_count_41 rfl ?_
          refine ZE.iload_n d_SN_count_43 rfl ?_
          refine ZE.icmp_lt (tgt := 57) d_SN_count_44 rfl (by unfold zR; omega) hlo (fun c44 => ?_) (fun c44 => ?_)
          · have hno : ¬ (decide (lo ≤ msN S j m ∧ msN S j m ≤ hi)) = true := fun q => by have := of_decide_eq_true q; omega
            refine ZE.iconst (n := 0) d_SN_count_57 ?_
            refine ZE.iadd d_SN_count_58 ?_
            refine ZE.istore (ls2 := [(2, x), (0, m), (0, lo), (0, hi), (0, (cnt (fun k => decide (lo ≤ msN S k m ∧ msN S k m ≤ hi)) j : Int) + 0), (0, (j : Int)), (0, msN S j m)]) d_SN_count_59 (Nat.le_of_ble_eq_true rfl) rfl ?_
            refine ZE.iinc (ls2 := [(2, x), (0, m), (0, lo), (0, hi), (0, (cnt (fun k => decide (lo ≤ msN S k m ∧ msN S k m ≤ hi)) j : Int) + 0), (0, (j : Int) + 1), (0, msN S j m)]) d_SN_count_61 rfl rfl ?_
            refine ZE.goto (tgt := 15) d_SN_count_64 rfl ?_
            refine ZE.mask [true, true, true, true, true, true, false] ?_
            show ZE 11 M_SN_count (gw G A) 15 [(2, x), (0, m), (0, lo), (0, hi), (0, (cnt (fun k => decide (lo ≤ msN S k m ∧ msN S k m ≤ hi)) j : Int) + 0), (0, (j : Int) + 1), (9, 0)] [] _
            have e1 : cnt (fun k => decide (lo ≤ msN S k m ∧ msN S k m ≤ hi)) (j + 1) = cnt (fun k => decide (lo ≤ msN S k m ∧ msN S k m ≤ hi)) j := if_neg hno
            rw [show (cnt (fun k => decide (lo ≤ msN S k m ∧ msN S k m ≤ hi)) j : Int) + 0 = (cnt (fun k => decide (lo ≤ msN S k m ∧ msN S k m ≤ hi)) (j + 1) : Int) by rw [e1]; omega, show (j : Int) + 1 = ((j + 1 : Nat) : Int) by omega]
            exact ih (j + 1) (by omega) (by omega)
          · refine ZE.iload d_SN_count_47 rfl ?_
            refine ZE.iload_n d_SN_count_49 rfl ?_
            refine ZE.icmp_gt (tgt := 57) d_SN_count_50 rfl (by unfold zR; omega) hhi (fun c50 => ?_) (fun c50 => ?_)
            · have hno : ¬ (decide (lo ≤ msN S j m ∧ msN S j m ≤ hi)) = true := fun q => by have := of_decide_eq_true q; omega
              refine ZE.iconst (n := 0) d_SN_count_57 ?_
              refine ZE.iadd d_SN_count_58 ?_
              refine ZE.istore (ls2 := [(2, x), (0, m), (0, lo), (0, hi), (0, (cnt (fun k => decide (lo ≤ msN S k m ∧ msN S k m ≤ hi)) j : Int) + 0), (0, (j : Int)), (0, msN S j m)]) d_SN_count_59 (Nat.le_of_ble_eq_true rfl) rfl ?_
              refine ZE.iinc (ls2 := [(2, x), (0, m), (0, lo), (0, hi), (0, (cnt (fun k => decide (lo ≤ msN S k m ∧ msN S k m ≤ hi)) j : Int) + 0), (0, (j : Int) + 1), (0, msN S j m)]) d_SN_count_61 rfl rfl ?_
              refine ZE.goto (tgt := 15) d_SN_count_64 rfl ?_
              refine ZE.mask [true, true, true, true, true, true, false] ?_
              show ZE 11 M_SN_count (gw G A) 15 [(2, x), (0, m), (0, lo), (0, hi), (0, (cnt (fun k => decide (lo ≤ msN S k m ∧ msN S k m ≤ hi)) j : Int) + 0), (0, (j : Int) + 1), (9, 0)] [] _
              have e1 : cnt (fun k => decide (lo ≤ msN S k m ∧ msN S k m ≤ hi)) (j + 1) = cnt (fun k => decide (lo ≤ msN S k m ∧ msN S k m ≤ hi)) j := if_neg hno
              rw [show (cnt (fun k => decide (lo ≤ msN S k m ∧ msN S k m ≤ hi)) j : Int) + 0 = (cnt (fun k => decide (lo ≤ msN S k m ∧ msN S k m ≤ hi)) (j + 1) : Int) by rw [e1]; omega, show (j : Int) + 1 = ((j + 1 : Nat) : Int) by omega]
              exact ih (j + 1) (by omega) (by omega)
            · have hyes : (decide (lo ≤ msN S j m ∧ msN S j m ≤ hi)) = true := decide_eq_true (by omega)
              refine ZE.iconst (n := 1) d_SN_count_53 ?_
              refine ZE.goto (tgt := 58) d_SN_count_54 rfl ?_
              refine ZE.iadd d_SN_count_58 ?_
              refine ZE.istore (ls2 := [(2, x), (0, m), (0, lo), (0, hi), (0, (cnt (fun k => decide (lo ≤ msN S k m ∧ msN S k m ≤ hi)) j : Int) + 1), (0, (j : Int)), (0, msN S j m)]) d_SN_count_59 (Nat.le_of_ble_eq_true rfl) rfl ?_
              refine ZE.iinc (ls2 := [(2, x), (0, m), (0, lo), (0, hi), (0, (cnt (fun k => decide (lo ≤ msN S k m ∧ msN S k m ≤ hi)) j : Int) + 1), (0, (j : Int) + 1), (0, msN S j m)]) d_SN_count_61 rfl rfl ?_
              refine ZE.goto (tgt := 15) d_SN_count_64 rfl ?_
              refine ZE.mask [true, true, true, true, true, true, false] ?_
              show ZE 11 M_SN_count (gw G A) 15 [(2, x), (0, m), (0, lo), (0, hi), (0, (cnt (fun k => decide (lo ≤ msN S k m ∧ msN S k m ≤ hi)) j : Int) + 1), (0, (j : Int) + 1), (9, 0)] [] _
              have e1 : cnt (fun k => decide (lo ≤ msN S k m ∧ msN S k m ≤ hi)) (j + 1) = cnt (fun k => decide (lo ≤ msN S k m ∧ msN S k m ≤ hi)) j + 1 := if_pos hyes
              rw [show (cnt (fun k => decide (lo ≤ msN S k m ∧ msN S k m ≤ hi)) j : Int) + 1 = (cnt (fun k => decide (lo ≤ msN S k m ∧ msN S k m ≤ hi)) (j + 1) : Int) by rw [e1]; omega, show (j : Int) + 1 = ((j + 1 : Nat) : Int) by omega]
              exact ih (j + 1) (by omega) (by omega)
    exact L15 _ 0 (by omega) (Nat.lt_succ_self _)
  · replace c4 := b2i_0.mp c4
    refine ZE.iconst (n := (-1)) d_SN_count_7 ?_
    refine ZE.iret d_SN_count_8 rfl ?_
    have k1 := k G A h cT.rf
    rw [show ctV S m lo hi = (-1) from if_neg (fun q => c4 (of_decide_eq_true q))] at k1
    exact k1
theorem s_measureOf2 {d : Nat} {G : zG} {A : Int → Int → Int} {P : Option zV → zG → Prop} {s E0 : Int} {S : Nat} (hR : sR G A s E0 1 S) (hL : lG G A) {pn : Nat} {p : Int} (hpe : p = (pn : Int)) (hpn : pn < (prs S).length) {m : Int} (hm : 0 ≤ m ∧ m ≤ 8) (k : P (some (0, msN S pn m)) (gw G A)) : ZE (d + 2) M_Sea_measureOf (gw G A) 0 [(2, s), (0, p), (0, m), (9, 0)] [] P := by
  rw [hpe]
  exact s_measureOf hR hL hpn hm k
theorem cnt_gob {S : Nat} : ∀ n, n ≤ (prs S).length → cnt (gob S) n = cnt (thB S) (n - 1) := by
  intro n
  induction n with
  | zero => intro _; rfl
  | succ n ih =>
    intro h
    show (if gob S n = true then cnt (gob S) n + 1 else cnt (gob S) n) = cnt (thB S) (n + 1 - 1)
    rw [ih (by omega)]
    cases n with
    | zero => rw [if_neg (by rw [gob_0]; exact Bool.false_ne_true)]
    | succ n =>
      have e : gob S (n + 1) = thB S n := by
        unfold gob thB
        exact decide_eq_decide.mpr ⟨fun q => q.2.2, fun q => ⟨by omega, by omega, q⟩⟩
      rw [e]
      rfl
set_option maxRecDepth 20000 in
set_option maxHeartbeats 4000000 in
theorem c_top {d : Nat} {G : zG} {A : Int → Int → Int} {P : Option zV → zG → Prop} {x : Int} {S T tl : Nat} {tf : Nat → Int} {wl : Nat} {wf : Nat → Int} (h : CI G A x S T tl tf wl wf) {m : Int} (hm : zR m) (k : ∀ G2 A2, CI G2 A2 x S T tl tf wl wf → cT G A G2 A2 x → P (some (0, tpV S m)) (gw G2 A2)) : ZE 11 M_SN_top (gw G A) 0 [(2, x), (0, m), (9, 0), (9, 0)] [] P := by
  have hx0 := h.cCK.2.1
  have hR := h.cR
  have hL := h.cL.1
  have hgx := h.cL.2
  have hS7 := h.cS.2.1
  have hp5 := h.cS.2.2
  have hE0 := hR.E
  have hL64 := hR.l64
  have hC32 := hR.c32
  have hpl : (prL 1 S).length = (prs S).length := by rw [prL_1 hS7 hp5]
  have hcl : (csA 1 S).length = (csF S 1 128).length := rfl
  have e00 : tpF S m (0 + 1) = 0 := if_pos (Or.inl rfl)
  refine ZE.iload_n d_SN_top_0 rfl ?_
  refine ZE.cS [(0, m)] [] [(0, m)] d_SN_top_1 l_SN_240 rfl rfl rfl rfl rfl rfl ?_
  refine c_isM hm ?_
  show ZE 11 M_SN_top (gw G A) 4 [(2, x), (0, m), (9, 0), (9, 0)] [(0, b2i (0 ≤ m ∧ m ≤ 8))] _
  refine ZE.if_eq (tgt := 17) d_SN_top_4 rfl (zR_b2i _) (fun c4 => ?_) (fun c4 => ?_)
  · replace c4 := b2i_0.mp c4
    refine ZE.iconst (n := (-1)) d_SN_top_17 ?_
    refine ZE.iret d_SN_top_18 rfl ?_
    have k1 := k G A h cT.rf
    rw [show tpV S m = (-1) from by unfold tpV; first | exact if_neg (fun q => c4 (of_decide_eq_true q)) | (rw [if_pos (show isM m = true from decide_eq_true c4), show (prs S).length = 0 by omega]; rfl)] at k1
    exact k1
  · replace c4 := b2i_n0.mp c4
    refine ZE.aload_n d_SN_top_7 rfl ?_
    refine ZE.getE (v := x + 1) d_SN_top_8 f_SN_12 (tg := 2) rfl h.cCK.1 h.cCF.1 ?_
    refine ZE.getE (v := ((prL 1 S).length : Int)) d_SN_top_11 f_SN_93 (tg := 0) rfl h.cCK.2.2.1.1 h.cR.n12 ?_
    refine ZE.if_ne (tgt := 19) d_SN_top_14 rfl (by unfold zR; omega) (fun c14 => ?_) (fun c14 => ?_)
    · refine ZE.iconst (n := 0) d_SN_top_19 ?_
      refine ZE.istore_n (ls2 := [(2, x), (0, m), (0, 0), (9, 0)]) d_SN_top_20 (Nat.le_of_ble_eq_true rfl) rfl ?_
      refine ZE.iconst (n := 1) d_SN_top_21 ?_
      refine ZE.istore_n (ls2 := [(2, x), (0, m), (0, 0), (0, 1)]) d_SN_top_22 (Nat.le_of_ble_eq_true rfl) rfl ?_
      have L23 : ∀ (tt0 : Nat) (j : Nat) (hj : j + 1 ≤ ((prL 1 S).length)) (hb0 : 0 ≤ tpF S m (j + 1)), ((prL 1 S).length) - j < tt0 → ZE 11 M_SN_top (gw G A) 23 [(2, x), (0, m), (0, tpF S m (j + 1)), (0, (j : Int) + 1)] [] P := by
        intro tt0
        induction tt0 with
        | zero => intro j hj hb0 hm; exact absurd hm (Nat.not_lt_zero _)
        | succ tt0 ih =>
          intro j hj hb0 hm
          have htp := tpF_R S m (j + 1)
          refine ZE.iload_n d_SN_top_23 rfl ?_
          refine ZE.aload_n d_SN_top_24 rfl ?_
          refine ZE.getE (v := x + 1) d_SN_top_25 f_SN_12 (tg := 2) rfl h.cCK.1 h.cCF.1 ?_
          refine ZE.getE (v := ((prL 1 S).length : Int)) d_SN_top_28 f_SN_93 (tg := 0) rfl h.cCK.2.2.1.1 h.cR.n12 ?_
          refine ZE.icmp_ge (tgt := 63) d_SN_top_31 rfl (by unfold zR; omega) (by unfold zR; omega) (fun c31 => ?_) (fun c31 => ?_)
          · have e1 : j + 1 = (prs S).length := by omega
            refine ZE.iload_n d_SN_top_63 rfl ?_
            refine ZE.iret d_SN_top_64 rfl ?_
            have k1 := k G A h cT.rf
            rw [show tpV S m = (tpF S m (j + 1)) from by unfold tpV; rw [← e1]; exact if_pos (decide_eq_true c4)] at k1
            exact k1
          · refine ZE.aload_n d_SN_top_34 rfl ?_
            refine ZE.getE (v := x + 1) d_SN_top_35 f_SN_12 (tg := 2) rfl h.cCK.1 h.cCF.1 ?_
            refine ZE.iload_n d_SN_top_38 rfl ?_
            refine ZE.iload_n d_SN_top_39 rfl ?_
            have a1 := msN_R hS7 hp5 (k := j + 1) (by omega) m
            refine ZE.cV [(0, (j : Int) + 1), (0, m)] [] [(2, x + 1), (0, (j : Int) + 1), (0, m), (9, 0)] d_SN_top_40 l_SN_243 rfl rfl rfl rfl rfl rfl h.cCK.2.2.1.1 ?_
            refine s_measureOf2 hR hL (pn := j + 1) (by omega) (by omega) c4 ?_
            show ZE 11 M_SN_top (gw G A) 43 [(2, x), (0, m), (0, tpF S m (j + 1)), (0, (j : Int) + 1)] [(0, msN S (j + 1) m)] _
            refine ZE.aload_n d_SN_top_43 rfl ?_
            refine ZE.getE (v := x + 1) d_SN_top_44 f_SN_12 (tg := 2) rfl h.cCK.1 h.cCF.1 ?_
            refine ZE.iload_n d_SN_top_47 rfl ?_
            refine ZE.iload_n d_SN_top_48 rfl ?_
            have htn : tpF S m (j + 1) = (((tpF S m (j + 1)).toNat : Nat) : Int) := by omega
            have a2 := msN_R hS7 hp5 (k := (tpF S m (j + 1)).toNat) (by omega) m
            refine ZE.cV [(0, tpF S m (j + 1)), (0, m)] [(0, msN S (j + 1) m)] [(2, x + 1), (0, tpF S m (j + 1)), (0, m), (9, 0)] d_SN_top_49 l_SN_243 rfl rfl rfl rfl rfl rfl h.cCK.2.2.1.1 ?_
            refine s_measureOf2 hR hL htn (by omega) c4 ?_
            show ZE 11 M_SN_top (gw G A) 52 [(2, x), (0, m), (0, tpF S m (j + 1)), (0, (j : Int) + 1)] [(0, msN S (tpF S m (j + 1)).toNat m), (0, msN S (j + 1) m)] _
            refine ZE.icmp_le (tgt := 57) d_SN_top_52 rfl (by unfold zR; omega) (by unfold zR; omega) (fun c52 => ?_) (fun c52 => ?_)
            · refine ZE.iinc (ls2 := [(2, x), (0, m), (0, tpF S m (j + 1)), (0, ((j : Int) + 1) + 1)]) d_SN_top_57 rfl rfl ?_
              refine ZE.goto (tgt := 23) d_SN_top_60 rfl ?_
              have e1 : tpF S m (j + 1 + 1) = tpF S m (j + 1) := if_neg (by omega)
              have e2 : ((j + 1 : Nat) : Int) = (j : Int) + 1 := by omega
              have ih1 := ih (j + 1) (by omega) (by rw [e1]; omega) (by omega)
              rw [e1, e2] at ih1
              exact ih1
            · refine ZE.iload_n d_SN_top_55 rfl ?_
              refine ZE.istore_n (ls2 := [(2, x), (0, m), (0, (j : Int) + 1), (0, (j : Int) + 1)]) d_SN_top_56 (Nat.le_of_ble_eq_true rfl) rfl ?_
              refine ZE.iinc (ls2 := [(2, x), (0, m), (0, (j : Int) + 1), (0, ((j : Int) + 1) + 1)]) d_SN_top_57 rfl rfl ?_
              refine ZE.goto (tgt := 23) d_SN_top_60 rfl ?_
              have e1 : tpF S m (j + 1 + 1) = ((j + 1 : Nat) : Int) := if_pos (Or.inr (by omega))
              have e2 : ((j + 1 : Nat) : Int) = (j : Int) + 1 := by omega
              have ih1 := ih (j + 1) (by omega) (by rw [e1]; omega) (by omega)
              rw [e1, e2] at ih1
              exact ih1
      have e3 := L23 _ 0 (by omega) (by rw [e00]; omega) (Nat.lt_succ_self _)
      rw [e00] at e3
      exact e3
    · refine ZE.iconst (n := (-1)) d_SN_top_17 ?_
      refine ZE.iret d_SN_top_18 rfl ?_
      have k1 := k G A h cT.rf
      rw [show tpV S m = (-1) from by unfold tpV; first | exact if_neg (fun q => c4 (of_decide_eq_true q)) | (rw [if_pos (show isM m = true from decide_eq_true c4), show (prs S).length = 0 by omega]; rfl)] at k1
      exact k1
set_option maxRecDepth 20000 in
set_option maxHeartbeats 4000000 in
theorem c_below {d : Nat} {G : zG} {A : Int → Int → Int} {P : Option zV → zG → Prop} {x : Int} {S T tl : Nat} {tf : Nat → Int} {wl : Nat} {wf : Nat → Int} (h : CI G A x S T tl tf wl wf) {e : Int} (he : zR e) (k : ∀ G2 A2, CI G2 A2 x S T tl tf wl wf → cT G A G2 A2 x → P (some (0, blV S e)) (gw G2 A2)) : ZE 11 M_SN_below (gw G A) 0 [(2, x), (0, e), (9, 0), (9, 0)] [] P := by
  have hx0 := h.cCK.2.1
  have hR := h.cR
  have hL := h.cL.1
  have hgx := h.cL.2
  have hS7 := h.cS.2.1
  have hp5 := h.cS.2.2
  have hE0 := hR.E
  have hL64 := hR.l64
  have hC32 := hR.c32
  have hpl : (prL 1 S).length = (prs S).length := by rw [prL_1 hS7 hp5]
  have hcl : (csA 1 S).length = (csF S 1 128).length := rfl
  refine ZE.iload_n d_SN_below_0 rfl ?_
  refine ZE.if_lt (tgt := 11) d_SN_below_1 rfl he (fun c1 => ?_) (fun c1 => ?_)
  · refine ZE.iconst (n := (-1)) d_SN_below_11 ?_
    refine ZE.iret d_SN_below_12 rfl ?_
    have k1 := k G A h cT.rf
    rw [show blV S e = (-1) from if_neg (by omega)] at k1
    exact k1
  · refine ZE.iload_n d_SN_below_4 rfl ?_
    refine ZE.sipush (n := 400) d_SN_below_5 rfl ?_
    refine ZE.icmp_le (tgt := 13) d_SN_below_8 rfl he (by unfold zR; omega) (fun c8 => ?_) (fun c8 => ?_)
    · refine ZE.iconst (n := 0) d_SN_below_13 ?_
      refine ZE.istore_n (ls2 := [(2, x), (0, e), (0, 0), (9, 0)]) d_SN_below_14 (Nat.le_of_ble_eq_true rfl) rfl ?_
      refine ZE.iconst (n := 0) d_SN_below_15 ?_
      refine ZE.istore_n (ls2 := [(2, x), (0, e), (0, 0), (0, 0)]) d_SN_below_16 (Nat.le_of_ble_eq_true rfl) rfl ?_
      have L17 : ∀ (tt0 : Nat) (j : Nat) (hj : j ≤ ((prL 1 S).length)), ((prL 1 S).length) - j < tt0 → ZE 11 M_SN_below (gw G A) 17 [(2, x), (0, e), (0, (cnt (fun k => decide ((dl (pN S k) : Int) ≤ e)) j : Int)), (0, (j : Int))] [] P := by
        intro tt0
        induction tt0 with
        | zero => intro j hj hm; exact absurd hm (Nat.not_lt_zero _)
        | succ tt0 ih =>
          intro j hj hm
          have hcn := cnt_le (fun k => decide ((dl (pN S k) : Int) ≤ e)) j
          have hdz : (dl (nN 1 S j) : Int) = dl (pN S j) := by rw [nN_1 hS7 hp5]
          refine ZE.iload_n d_SN_below_17 rfl ?_
          refine ZE.aload_n d_SN_below_18 rfl ?_
          refine ZE.getE (v := x + 1) d_SN_below_19 f_SN_12 (tg := 2) rfl h.cCK.1 h.cCF.1 ?_
          refine ZE.getE (v := ((prL 1 S).length : Int)) d_SN_below_22 f_SN_93 (tg := 0) rfl h.cCK.2.2.1.1 h.cR.n12 ?_
          refine ZE.icmp_ge (tgt := 60) d_SN_below_25 rfl (by unfold zR; omega) (by unfold zR; omega) (fun c25 => ?_) (fun c25 => ?_)
          · have e1 : j = (prs S).length := by omega
            refine ZE.iload_n d_SN_below_60 rfl ?_
            refine ZE.iret d_SN_below_61 rfl ?_
            have k1 := k G A h cT.rf
            rw [show blV S e = ((cnt (fun k => decide ((dl (pN S k) : Int) ≤ e)) j : Int)) from by unfold blV; rw [e1]; exact if_pos (by omega)] at k1
            exact k1
          · refine ZE.iload_n d_SN_below_28 rfl ?_
            refine ZE.aload_n d_SN_below_29 rfl ?_
            refine ZE.getE (v := x + 1) d_SN_below_30 f_SN_12 (tg := 2) rfl h.cCK.1 h.cCF.1 ?_
            refine ZE.iload_n d_SN_below_33 rfl ?_
            have hc1 := hR.cp (k := j) (by omega)
            have hvk := hR.v (k := j) (by omega)
            refine ZE.cV [(0, (j : Int))] [(0, (cnt (fun k => decide ((dl (pN S k) : Int) ≤ e)) j : Int))] [(2, x + 1), (0, (j : Int)), (9, 0)] d_SN_below_34 l_SN_118 rfl rfl rfl rfl rfl rfl h.cCK.2.2.1.1 ?_
            refine s_coupleAt hR.K hR.F hR.n12 hL64 (k1 := j) (by omega) (v1 := A (x + 1 + 30) (j : Int)) rfl (by omega) ?_
            show ZE 11 M_SN_below (gw G A) 37 [(2, x), (0, e), (0, (cnt (fun k => decide ((dl (pN S k) : Int) ≤ e)) j : Int)), (0, (j : Int))] [(2, A (x + 1 + 30) (j : Int)), (0, (cnt (fun k => decide ((dl (pN S k) : Int) ≤ e)) j : Int))] _
            refine ZE.getE (v := A (x + 1 + 30) (j : Int) + 3) d_SN_below_37 f_SN_122 (tg := 2) rfl hc1.2.2.1.1.1 hc1.2.2.1.2.1 ?_
            refine ZE.cV [] [(0, (cnt (fun k => decide ((dl (pN S k) : Int) ≤ e)) j : Int))] [(2, A (x + 1 + 30) (j : Int) + 3), (9, 0), (9, 0)] d_SN_below_40 l_SN_127 rfl rfl rfl rfl rfl rfl hc1.2.2.1.1.2.2.2.2.1 ?_
            refine B_digits hc1.2.2.1.1.2.2.2.2 hc1.2.2.1.2.2.2.2.2.2.1 (by have := nd_le (b := 1000000000) (n := 1) (by omega) (show nN 1 S j < 1000000000 ^ 1 by omega); omega) ?_
            show ZE 11 M_SN_below (gw G A) 43 [(2, x), (0, e), (0, (cnt (fun k => decide ((dl (pN S k) : Int) ≤ e)) j : Int)), (0, (j : Int))] [(0, (dl (nN 1 S j) : Int)), (0, (cnt (fun k => decide ((dl (pN S k) : Int) ≤ e)) j : Int))] _
            have hdn : dl (nN 1 S j) ≤ 9 := dl_9.mpr (by omega)
            refine ZE.iload_n d_SN_below_43 rfl ?_
            refine ZE.icmp_gt (tgt := 51) d_SN_below_44 rfl (by unfold zR; omega) (by unfold zR; omega) (fun c44 => ?_) (fun c44 => ?_)
            · have hno : ¬ (decide ((dl (pN S j) : Int) ≤ e)) = true := fun q => by have := of_decide_eq_true q; omega
              refine ZE.iconst (n := 0) d_SN_below_51 ?_
              refine ZE.iadd d_SN_below_52 ?_
              refine ZE.istore_n (ls2 := [(2, x), (0, e), (0, (cnt (fun k => decide ((dl (pN S k) : Int) ≤ e)) j : Int) + 0), (0, (j : Int))]) d_SN_below_53 (Nat.le_of_ble_eq_true rfl) rfl ?_
              refine ZE.iinc (ls2 := [(2, x), (0, e), (0, (cnt (fun k => decide ((dl (pN S k) : Int) ≤ e)) j : Int) + 0), (0, (j : Int) + 1)]) d_SN_below_54 rfl rfl ?_
              refine ZE.goto (tgt := 17) d_SN_below_57 rfl ?_
              have e1 : cnt (fun k => decide ((dl (pN S k) : Int) ≤ e)) (j + 1) = cnt (fun k => decide ((dl (pN S k) : Int) ≤ e)) j := if_neg hno
              rw [show (cnt (fun k => decide ((dl (pN S k) : Int) ≤ e)) j : Int) + 0 = (cnt (fun k => decide ((dl (pN S k) : Int) ≤ e)) (j + 1) : Int) by rw [e1]; omega, show (j : Int) + 1 = ((j + 1 : Nat) : Int) by omega]
              exact ih (j + 1) (by omega) (by omega)
            · have hyes : (decide ((dl (pN S j) : Int) ≤ e)) = true := decide_eq_true (by omega)
              refine ZE.iconst (n := 1) d_SN_below_47 ?_
              refine ZE.goto (tgt := 52) d_SN_below_48 rfl ?_
              refine ZE.iadd d_SN_below_52 ?_
              refine ZE.istore_n (ls2 := [(2, x), (0, e), (0, (cnt (fun k => decide ((dl (pN S k) : Int) ≤ e)) j : Int) + 1), (0, (j : Int))]) d_SN_below_53 (Nat.le_of_ble_eq_true rfl) rfl ?_
              refine ZE.iinc (ls2 := [(2, x), (0, e), (0, (cnt (fun k => decide ((dl (pN S k) : Int) ≤ e)) j : Int) + 1), (0, (j : Int) + 1)]) d_SN_below_54 rfl rfl ?_
              refine ZE.goto (tgt := 17) d_SN_below_57 rfl ?_
              have e1 : cnt (fun k => decide ((dl (pN S k) : Int) ≤ e)) (j + 1) = cnt (fun k => decide ((dl (pN S k) : Int) ≤ e)) j + 1 := if_pos hyes
              rw [show (cnt (fun k => decide ((dl (pN S k) : Int) ≤ e)) j : Int) + 1 = (cnt (fun k => decide ((dl (pN S k) : Int) ≤ e)) (j + 1) : Int) by rw [e1]; omega, show (j : Int) + 1 = ((j + 1 : Nat) : Int) by omega]
              exact ih (j + 1) (by omega) (by omega)
      exact L17 _ 0 (by omega) (Nat.lt_succ_self _)
    · refine ZE.iconst (n := (-1)) d_SN_below_11 ?_
      refine ZE.iret d_SN_below_12 rfl ?_
      have k1 := k G A h cT.rf
      rw [show blV S e = (-1) from if_neg (by omega)] at k1
      exact k1
set_option maxRecDepth 20000 in
set_option maxHeartbeats 4000000 in
theorem c_madeOf {d : Nat} {G : zG} {A : Int → Int → Int} {P : Option zV → zG → Prop} {x : Int} {S T tl : Nat} {tf : Nat → Int} {wl : Nat} {wf : Nat → Int} (h : CI G A x S T tl tf wl wf) {p : Int} (hp : zR p) (k : ∀ G2 A2, CI G2 A2 x S T tl tf wl wf → cT G A G2 A2 x → P (some (0, moV S p)) (gw G2 A2)) : ZE 11 M_SN_madeOf (gw G A) 0 [(2, x), (0, p)] [] P := by
  have hx0 := h.cCK.2.1
  have hR := h.cR
  have hL := h.cL.1
  have hgx := h.cL.2
  have hS7 := h.cS.2.1
  have hp5 := h.cS.2.2
  have hE0 := hR.E
  have hL64 := hR.l64
  have hC32 := hR.c32
  have hpl : (prL 1 S).length = (prs S).length := by rw [prL_1 hS7 hp5]
  have hcl : (csA 1 S).length = (csF S 1 128).length := rfl
  refine ZE.aload_n d_SN_madeOf_0 rfl ?_
  refine ZE.getE (v := x + 1) d_SN_madeOf_1 f_SN_12 (tg := 2) rfl h.cCK.1 h.cCF.1 ?_
  refine ZE.iload_n d_SN_madeOf_4 rfl ?_
  refine ZE.cV [(0, p)] [] [(2, x + 1), (0, p)] d_SN_madeOf_5 l_SN_231 rfl rfl rfl rfl rfl rfl h.cCK.2.2.1.1 ?_
  refine s_isCouple hR.K hR.F hR.n12 hL64 hp ?_
  show ZE 11 M_SN_madeOf (gw G A) 8 [(2, x), (0, p)] [(0, b2i (0 ≤ p ∧ p < ((prL 1 S).length : Int)))] _
  refine ZE.if_eq (tgt := 25) d_SN_madeOf_8 rfl (zR_b2i _) (fun c8 => ?_) (fun c8 => ?_)
  · replace c8 := b2i_0.mp c8
    refine ZE.iconst (n := (-1)) d_SN_madeOf_25 ?_
    refine ZE.iret d_SN_madeOf_26 rfl ?_
    have e0 : inL S p = false := decide_eq_false (fun q => c8 (by omega))
    have k1 := k G A h cT.rf
    rw [show moV S p = (-1) from by unfold moV; rw [e0]; rfl] at k1
    exact k1
  · replace c8 := b2i_n0.mp c8
    obtain ⟨pn, hpn⟩ : ∃ q : Nat, p = (q : Int) := ⟨p.toNat, by omega⟩
    subst hpn
    have e0 : inL S (pn : Int) = true := decide_eq_true (by omega)
    have hn1 := nN_1 hS7 hp5 pn
    refine ZE.aload_n d_SN_madeOf_11 rfl ?_
    refine ZE.getE (v := x + 1) d_SN_madeOf_12 f_SN_12 (tg := 2) rfl h.cCK.1 h.cCF.1 ?_
    refine ZE.iload_n d_SN_madeOf_15 rfl ?_
    have hc1 := hR.cp (k := pn) (by omega)
    have hvk := hR.v (k := pn) (by omega)
    refine ZE.cV [(0, (pn : Int))] [] [(2, x + 1), (0, (pn : Int)), (9, 0)] d_SN_madeOf_16 l_SN_118 rfl rfl rfl rfl rfl rfl h.cCK.2.2.1.1 ?_
    refine s_coupleAt hR.K hR.F hR.n12 hL64 (k1 := pn) (by omega) (v1 := A (x + 1 + 30) (pn : Int)) rfl (by omega) ?_
    show ZE 11 M_SN_madeOf (gw G A) 19 [(2, x), (0, (pn : Int))] [(2, A (x + 1 + 30) (pn : Int))] _
    refine ZE.getE (v := ((mb (nN 1 S pn) ||| mb (nN 1 S pn + 1) : Nat) : Int)) d_SN_madeOf_19 f_SN_269 (tg := 0) rfl hc1.2.2.1.1.1 hc1.2.2.1.2.2.2.1 ?_
    refine ZE.goto (tgt := 26) d_SN_madeOf_22 rfl ?_
    refine ZE.iret d_SN_madeOf_26 rfl ?_
    have k1 := k G A h cT.rf
    rw [show moV S (pn : Int) = (((mb (nN 1 S pn) ||| mb (nN 1 S pn + 1) : Nat) : Int)) from by unfold moV; rw [e0, if_pos rfl, Int.toNat_natCast]; unfold btN; rw [hn1]] at k1
    exact k1
set_option maxRecDepth 20000 in
set_option maxHeartbeats 4000000 in
theorem c_madeBy {d : Nat} {G : zG} {A : Int → Int → Int} {P : Option zV → zG → Prop} {x : Int} {S T tl : Nat} {tf : Nat → Int} {wl : Nat} {wf : Nat → Int} (h : CI G A x S T tl tf wl wf) {s : Int} (hs : zR s) (k : ∀ G2 A2, CI G2 A2 x S T tl tf wl wf → cT G A G2 A2 x → P (some (0, mbV S s)) (gw G2 A2)) : ZE 11 M_SN_madeBy (gw G A) 0 [(2, x), (0, s), (9, 0), (9, 0)] [] P := by
  have hx0 := h.cCK.2.1
  have hR := h.cR
  have hL := h.cL.1
  have hgx := h.cL.2
  have hS7 := h.cS.2.1
  have hp5 := h.cS.2.2
  have hE0 := hR.E
  have hL64 := hR.l64
  have hC32 := hR.c32
  have hpl : (prL 1 S).length = (prs S).length := by rw [prL_1 hS7 hp5]
  have hcl : (csA 1 S).length = (csF S 1 128).length := rfl
  refine ZE.iconst (n := 0) d_SN_madeBy_0 ?_
  refine ZE.istore_n (ls2 := [(2, x), (0, s), (0, 0), (9, 0)]) d_SN_madeBy_1 (Nat.le_of_ble_eq_true rfl) rfl ?_
  refine ZE.iconst (n := 0) d_SN_madeBy_2 ?_
  refine ZE.istore_n (ls2 := [(2, x), (0, s), (0, 0), (0, 0)]) d_SN_madeBy_3 (Nat.le_of_ble_eq_true rfl) rfl ?_
  have L4 : ∀ (tt0 : Nat) (j : Nat) (hj : j ≤ ((prL 1 S).length)), ((prL 1 S).length) - j < tt0 → ZE 11 M_SN_madeBy (gw G A) 4 [(2, x), (0, s), (0, (cnt (fun k => decide ((btN S k : Int) = s)) j : Int)), (0, (j : Int))] [] P := by
    intro tt0
    induction tt0 with
    | zero => intro j hj hm; exact absurd hm (Nat.not_lt_zero _)
    | succ tt0 ih =>
      intro j hj hm
      have hcn := cnt_le (fun k => decide ((btN S k : Int) = s)) j
      have hm1 := mb_lt (nN 1 S j)
      have hm2 := mb_lt (nN 1 S j + 1)
      have hnj := nN_1 hS7 hp5 j
      have hb7 : mb (nN 1 S j) ||| mb (nN 1 S j + 1) < 128 := Nat.or_lt_two_pow (n := 7) hm1 hm2
      have hbe : mb (nN 1 S j) ||| mb (nN 1 S j + 1) = btN S j := by rw [hnj]; rfl
      refine ZE.iload_n d_SN_madeBy_4 rfl ?_
      refine ZE.aload_n d_SN_madeBy_5 rfl ?_
      refine ZE.getE (v := x + 1) d_SN_madeBy_6 f_SN_12 (tg := 2) rfl h.cCK.1 h.cCF.1 ?_
      refine ZE.getE (v := ((prL 1 S).length : Int)) d_SN_madeBy_9 f_SN_93 (tg := 0) rfl h.cCK.2.2.1.1 h.cR.n12 ?_
      refine ZE.icmp_ge (tgt := 44) d_SN_madeBy_12 rfl (by unfold zR; omega) (by unfold zR; omega) (fun c12 => ?_) (fun c12 => ?_)
      · have e1 : j = (prs S).length := by omega
        refine ZE.iload_n d_SN_madeBy_44 rfl ?_
        refine ZE.iret d_SN_madeBy_45 rfl ?_
        have k1 := k G A h cT.rf
        rw [show mbV S s = ((cnt (fun k => decide ((btN S k : Int) = s)) j : Int)) from by unfold mbV; rw [e1]] at k1
        exact k1
      · refine ZE.iload_n d_SN_madeBy_15 rfl ?_
        refine ZE.aload_n d_SN_madeBy_16 rfl ?_
        refine ZE.getE (v := x + 1) d_SN_madeBy_17 f_SN_12 (tg := 2) rfl h.cCK.1 h.cCF.1 ?_
        refine ZE.iload_n d_SN_madeBy_20 rfl ?_
        have hc1 := hR.cp (k := j) (by omega)
        have hvk := hR.v (k := j) (by omega)
        refine ZE.cV [(0, (j : Int))] [(0, (cnt (fun k => decide ((btN S k : Int) = s)) j : Int))] [(2, x + 1), (0, (j : Int)), (9, 0)] d_SN_madeBy_21 l_SN_118 rfl rfl rfl rfl rfl rfl h.cCK.2.2.1.1 ?_
        refine s_coupleAt hR.K hR.F hR.n12 hL64 (k1 := j) (by omega) (v1 := A (x + 1 + 30) (j : Int)) rfl (by omega) ?_
        show ZE 11 M_SN_madeBy (gw G A) 24 [(2, x), (0, s), (0, (cnt (fun k => decide ((btN S k : Int) = s)) j : Int)), (0, (j : Int))] [(2, A (x + 1 + 30) (j : Int)), (0, (cnt (fun k => decide ((btN S k : Int) = s)) j : Int))] _
        refine ZE.getE (v := ((mb (nN 1 S j) ||| mb (nN 1 S j + 1) : Nat) : Int)) d_SN_madeBy_24 f_SN_269 (tg := 0) rfl hc1.2.2.1.1.1 hc1.2.2.1.2.2.2.1 ?_
        refine ZE.iload_n d_SN_madeBy_27 rfl ?_
        refine ZE.icmp_ne (tgt := 35) d_SN_madeBy_28 rfl (by unfold zR; omega) hs (fun c28 => ?_) (fun c28 => ?_)
        · have hno : ¬ (decide ((btN S j : Int) = s)) = true := fun q => by have := of_decide_eq_true q; omega
          refine ZE.iconst (n := 0) d_SN_madeBy_35 ?_
          refine ZE.iadd d_SN_madeBy_36 ?_
          refine ZE.istore_n (ls2 := [(2, x), (0, s), (0, (cnt (fun k => decide ((btN S k : Int) = s)) j : Int) + 0), (0, (j : Int))]) d_SN_madeBy_37 (Nat.le_of_ble_eq_true rfl) rfl ?_
          refine ZE.iinc (ls2 := [(2, x), (0, s), (0, (cnt (fun k => decide ((btN S k : Int) = s)) j : Int) + 0), (0, (j : Int) + 1)]) d_SN_madeBy_38 rfl rfl ?_
          refine ZE.goto (tgt := 4) d_SN_madeBy_41 rfl ?_
          have e1 : cnt (fun k => decide ((btN S k : Int) = s)) (j + 1) = cnt (fun k => decide ((btN S k : Int) = s)) j := if_neg hno
          rw [show (cnt (fun k => decide ((btN S k : Int) = s)) j : Int) + 0 = (cnt (fun k => decide ((btN S k : Int) = s)) (j + 1) : Int) by rw [e1]; omega, show (j : Int) + 1 = ((j + 1 : Nat) : Int) by omega]
          exact ih (j + 1) (by omega) (by omega)
        · have hyes : (decide ((btN S j : Int) = s)) = true := decide_eq_true (by omega)
          refine ZE.iconst (n := 1) d_SN_madeBy_31 ?_
          refine ZE.goto (tgt := 36) d_SN_madeBy_32 rfl ?_
          refine ZE.iadd d_SN_madeBy_36 ?_
          refine ZE.istore_n (ls2 := [(2, x), (0, s), (0, (cnt (fun k => decide ((btN S k : Int) = s)) j : Int) + 1), (0, (j : Int))]) d_SN_madeBy_37 (Nat.le_of_ble_eq_true rfl) rfl ?_
          refine ZE.iinc (ls2 := [(2, x), (0, s), (0, (cnt (fun k => decide ((btN S k : Int) = s)) j : Int) + 1), (0, (j : Int) + 1)]) d_SN_madeBy_38 rfl rfl ?_
          refine ZE.goto (tgt := 4) d_SN_madeBy_41 rfl ?_
          have e1 : cnt (fun k => decide ((btN S k : Int) = s)) (j + 1) = cnt (fun k => decide ((btN S k : Int) = s)) j + 1 := if_pos hyes
          rw [show (cnt (fun k => decide ((btN S k : Int) = s)) j : Int) + 1 = (cnt (fun k => decide ((btN S k : Int) = s)) (j + 1) : Int) by rw [e1]; omega, show (j : Int) + 1 = ((j + 1 : Nat) : Int) by omega]
          exact ih (j + 1) (by omega) (by omega)
  exact L4 _ 0 (by omega) (Nat.lt_succ_self _)
set_option maxRecDepth 20000 in
set_option maxHeartbeats 4000000 in
theorem c_share {d : Nat} {G : zG} {A : Int → Int → Int} {P : Option zV → zG → Prop} {x : Int} {S T tl : Nat} {tf : Nat → Int} {wl : Nat} {wf : Nat → Int} (h : CI G A x S T tl tf wl wf) {q : Int} (hq : zR q) (k : ∀ G2 A2, CI G2 A2 x S T tl tf wl wf → cT G A G2 A2 x → P (some (0, shV S q)) (gw G2 A2)) : ZE 11 M_SN_share (gw G A) 0 [(2, x), (0, q), (9, 0), (9, 0)] [] P := by
  have hx0 := h.cCK.2.1
  have hR := h.cR
  have hL := h.cL.1
  have hgx := h.cL.2
  have hS7 := h.cS.2.1
  have hp5 := h.cS.2.2
  have hE0 := hR.E
  have hL64 := hR.l64
  have hC32 := hR.c32
  have hpl : (prL 1 S).length = (prs S).length := by rw [prL_1 hS7 hp5]
  have hcl : (csA 1 S).length = (csF S 1 128).length := rfl
  refine ZE.aload_n d_SN_share_0 rfl ?_
  refine ZE.getE (v := (S : Int)) d_SN_share_1 f_SN_72 (tg := 0) rfl h.cCK.1 h.cS.1 ?_
  refine ZE.iload_n d_SN_share_4 rfl ?_
  refine ZE.cS [(0, (S : Int)), (0, q)] [] [(0, (S : Int)), (0, q)] d_SN_share_5 l_SN_96 rfl rfl rfl rfl rfl rfl ?_
  refine p_has hS7 hq hL ?_
  show ZE 11 M_SN_share (gw G A) 8 [(2, x), (0, q), (9, 0), (9, 0)] [(0, b2i (hasB S q = true))] _
  refine ZE.if_ne (tgt := 13) d_SN_share_8 rfl (zR_b2i _) (fun c8 => ?_) (fun c8 => ?_)
  · replace c8 := b2i_n0.mp c8
    have hpc : decide (plc q ≠ -1) = true := by unfold hasB at c8; rw [Bool.and_eq_true] at c8; exact c8.1
    refine ZE.iconst (n := 0) d_SN_share_13 ?_
    refine ZE.istore_n (ls2 := [(2, x), (0, q), (0, 0), (9, 0)]) d_SN_share_14 (Nat.le_of_ble_eq_true rfl) rfl ?_
    refine ZE.iconst (n := 0) d_SN_share_15 ?_
    refine ZE.istore_n (ls2 := [(2, x), (0, q), (0, 0), (0, 0)]) d_SN_share_16 (Nat.le_of_ble_eq_true rfl) rfl ?_
    have L17 : ∀ (tt0 : Nat) (j : Nat) (hj : j ≤ ((prL 1 S).length)), ((prL 1 S).length) - j < tt0 → ZE 11 M_SN_share (gw G A) 17 [(2, x), (0, q), (0, (cnt (fun k => (btN S k).testBit (plc q).toNat) j : Int)), (0, (j : Int))] [] P := by
      intro tt0
      induction tt0 with
      | zero => intro j hj hm; exact absurd hm (Nat.not_lt_zero _)
      | succ tt0 ih =>
        intro j hj hm
        have hcn := cnt_le (fun k => (btN S k).testBit (plc q).toNat) j
        have hm1 := mb_lt (nN 1 S j)
        have hm2 := mb_lt (nN 1 S j + 1)
        have hnj := nN_1 hS7 hp5 j
        have hb7 : mb (nN 1 S j) ||| mb (nN 1 S j + 1) < 128 := Nat.or_lt_two_pow (n := 7) hm1 hm2
        have hbe : mb (nN 1 S j) ||| mb (nN 1 S j + 1) = btN S j := by rw [hnj]; rfl
        refine ZE.iload_n d_SN_share_17 rfl ?_
        refine ZE.aload_n d_SN_share_18 rfl ?_
        refine ZE.getE (v := x + 1) d_SN_share_19 f_SN_12 (tg := 2) rfl h.cCK.1 h.cCF.1 ?_
        refine ZE.getE (v := ((prL 1 S).length : Int)) d_SN_share_22 f_SN_93 (tg := 0) rfl h.cCK.2.2.1.1 h.cR.n12 ?_
        refine ZE.icmp_ge (tgt := 60) d_SN_share_25 rfl (by unfold zR; omega) (by unfold zR; omega) (fun c25 => ?_) (fun c25 => ?_)
        · have e1 : j = (prs S).length := by omega
          refine ZE.iload_n d_SN_share_60 rfl ?_
          refine ZE.iret d_SN_share_61 rfl ?_
          have k1 := k G A h cT.rf
          rw [show shV S q = ((cnt (fun k => (btN S k).testBit (plc q).toNat) j : Int)) from by unfold shV; rw [e1]; exact if_pos c8] at k1
          exact k1
        · refine ZE.iload_n d_SN_share_28 rfl ?_
          refine ZE.aload_n d_SN_share_29 rfl ?_
          refine ZE.getE (v := x + 1) d_SN_share_30 f_SN_12 (tg := 2) rfl h.cCK.1 h.cCF.1 ?_
          refine ZE.iload_n d_SN_share_33 rfl ?_
          have hc1 := hR.cp (k := j) (by omega)
          have hvk := hR.v (k := j) (by omega)
          refine ZE.cV [(0, (j : Int))] [(0, (cnt (fun k => (btN S k).testBit (plc q).toNat) j : Int))] [(2, x + 1), (0, (j : Int)), (9, 0)] d_SN_share_34 l_SN_118 rfl rfl rfl rfl rfl rfl h.cCK.2.2.1.1 ?_
          refine s_coupleAt hR.K hR.F hR.n12 hL64 (k1 := j) (by omega) (v1 := A (x + 1 + 30) (j : Int)) rfl (by omega) ?_
          show ZE 11 M_SN_share (gw G A) 37 [(2, x), (0, q), (0, (cnt (fun k => (btN S k).testBit (plc q).toNat) j : Int)), (0, (j : Int))] [(2, A (x + 1 + 30) (j : Int)), (0, (cnt (fun k => (btN S k).testBit (plc q).toNat) j : Int))] _
          refine ZE.getE (v := ((mb (nN 1 S j) ||| mb (nN 1 S j + 1) : Nat) : Int)) d_SN_share_37 f_SN_269 (tg := 0) rfl hc1.2.2.1.1.1 hc1.2.2.1.2.2.2.1 ?_
          refine ZE.iload_n d_SN_share_40 rfl ?_
          refine ZE.cS [(0, ((mb (nN 1 S j) ||| mb (nN 1 S j + 1) : Nat) : Int)), (0, q)] [(0, (cnt (fun k => (btN S k).testBit (plc q).toNat) j : Int))] [(0, ((mb (nN 1 S j) ||| mb (nN 1 S j + 1) : Nat) : Int)), (0, q)] d_SN_share_41 l_SN_96 rfl rfl rfl rfl rfl rfl ?_
          refine p_has (S := mb (nN 1 S j) ||| mb (nN 1 S j + 1)) hb7 hq hL ?_
          show ZE 11 M_SN_share (gw G A) 44 [(2, x), (0, q), (0, (cnt (fun k => (btN S k).testBit (plc q).toNat) j : Int)), (0, (j : Int))] [(0, b2i (hasB (mb (nN 1 S j) ||| mb (nN 1 S j + 1)) q = true)), (0, (cnt (fun k => (btN S k).testBit (plc q).toNat) j : Int))] _
          refine ZE.if_eq (tgt := 51) d_SN_share_44 rfl (zR_b2i _) (fun c44 => ?_) (fun c44 => ?_)
          · replace c44 := b2i_0.mp c44
            have hno : ¬ ((btN S j).testBit (plc q).toNat) = true := fun z => c44 (by unfold hasB; rw [hbe, z, hpc]; rfl)
            refine ZE.iconst (n := 0) d_SN_share_51 ?_
            refine ZE.iadd d_SN_share_52 ?_
            refine ZE.istore_n (ls2 := [(2, x), (0, q), (0, (cnt (fun k => (btN S k).testBit (plc q).toNat) j : Int) + 0), (0, (j : Int))]) d_SN_share_53 (Nat.le_of_ble_eq_true rfl) rfl ?_
            refine ZE.iinc (ls2 := [(2, x), (0, q), (0, (cnt (fun k => (btN S k).testBit (plc q).toNat) j : Int) + 0), (0, (j : Int) + 1)]) d_SN_share_54 rfl rfl ?_
            refine ZE.goto (tgt := 17) d_SN_share_57 rfl ?_
            have e1 : cnt (fun k => (btN S k).testBit (plc q).toNat) (j + 1) = cnt (fun k => (btN S k).testBit (plc q).toNat) j := if_neg hno
            rw [show (cnt (fun k => (btN S k).testBit (plc q).toNat) j : Int) + 0 = (cnt (fun k => (btN S k).testBit (plc q).toNat) (j + 1) : Int) by rw [e1]; omega, show (j : Int) + 1 = ((j + 1 : Nat) : Int) by omega]
            exact ih (j + 1) (by omega) (by omega)
          · replace c44 := b2i_n0.mp c44
            have hyes : ((btN S j).testBit (plc q).toNat) = true := by unfold hasB at c44; rw [hpc, hbe, Bool.true_and] at c44; exact c44
            refine ZE.iconst (n := 1) d_SN_share_47 ?_
            refine ZE.goto (tgt := 52) d_SN_share_48 rfl ?_
            refine ZE.iadd d_SN_share_52 ?_
            refine ZE.istore_n (ls2 := [(2, x), (0, q), (0, (cnt (fun k => (btN S k).testBit (plc q).toNat) j : Int) + 1), (0, (j : Int))]) d_SN_share_53 (Nat.le_of_ble_eq_true rfl) rfl ?_
            refine ZE.iinc (ls2 := [(2, x), (0, q), (0, (cnt (fun k => (btN S k).testBit (plc q).toNat) j : Int) + 1), (0, (j : Int) + 1)]) d_SN_share_54 rfl rfl ?_
            refine ZE.goto (tgt := 17) d_SN_share_57 rfl ?_
            have e1 : cnt (fun k => (btN S k).testBit (plc q).toNat) (j + 1) = cnt (fun k => (btN S k).testBit (plc q).toNat) j + 1 := if_pos hyes
            rw [show (cnt (fun k => (btN S k).testBit (plc q).toNat) j : Int) + 1 = (cnt (fun k => (btN S k).testBit (plc q).toNat) (j + 1) : Int) by rw [e1]; omega, show (j : Int) + 1 = ((j + 1 : Nat) : Int) by omega]
            exact ih (j + 1) (by omega) (by omega)
    exact L17 _ 0 (by omega) (Nat.lt_succ_self _)
  · replace c8 := b2i_0.mp c8
    refine ZE.iconst (n := (-1)) d_SN_share_11 ?_
    refine ZE.iret d_SN_share_12 rfl ?_
    have k1 := k G A h cT.rf
    rw [show shV S q = (-1) from if_neg c8] at k1
    exact k1
