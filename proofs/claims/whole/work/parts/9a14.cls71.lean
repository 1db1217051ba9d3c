theorem zR_set {S : Nat} (h : S < 128) : zR (S : Int) := by unfold zR; omega
theorem orS_z {S : Nat} {p : Int} (hS : S < 128) (h : canB S p = true) : zor (S : Int) ((if plc p = -1 then 0 else 2 ^ (plc p).toNat : Nat) : Int) = ((orS S p : Nat) : Int) ∧ orS S p < 128 ∧ pop (orS S p) ≤ 5 := by
  obtain ⟨⟨k, h1, h2, h3⟩, h4⟩ := canB_iff.mp h
  have hp : plc p = k := by rw [h2]; exact plc_sev k h1
  have ho : orS S p = S ||| 2 ^ k := by unfold orS; rw [hp, Int.toNat_natCast]
  have h5 := or_tab S hS k h1 (Bool.eq_false_iff.mpr h3) h4
  have h6 : 2 ^ k ≤ 2 ^ 6 := Nat.pow_le_pow_right (by omega) (by omega)
  rw [if_neg (by omega), hp, Int.toNat_natCast, ho, zor_nat (by omega) (by omega)]
  exact ⟨rfl, h5⟩
theorem noS_z {S : Nat} {p : Int} (hS : S < 128) (hp5 : pop S ≤ 5) (h : hasB S p = true) : zand (S : Int) (zxor ((if plc p = -1 then 0 else 2 ^ (plc p).toNat : Nat) : Int) (-1)) = ((noS S p : Nat) : Int) ∧ noS S p < 128 ∧ pop (noS S p) ≤ 5 := by
  obtain ⟨k, h1, h2, h3⟩ := hasB_iff.mp h
  have hp : plc p = k := by rw [h2]; exact plc_sev k h1
  have ho : noS S p = S - 2 ^ k := by unfold noS; rw [hp, Int.toNat_natCast]
  have h5 := no_tab S hS k h1 h3
  rw [if_neg (by omega), hp, Int.toNat_natCast, ho]
  exact ⟨h5.1, h5.2.1, h5.2.2 hp5⟩
set_option maxRecDepth 20000 in
set_option maxHeartbeats 4000000 in
theorem c_fill {P : Option zV → zG → Prop} {G : zG} {A : Int → Int → Int} {x : Int} {S T tl : Nat} {tf : Nat → Int} {wl : Nat} {wf : Nat → Int} (h : CI G A x S T tl tf wl wf) {S2 : Nat} (hS2 : S2 < 128) (hp2 : pop S2 ≤ 5) (k : ∀ G2 A2, CI G2 A2 x S2 T tl tf wl wf → cT G A G2 A2 x → P (some (2, x + 1)) (gw G2 A2)) : ZE 10 M_Sea_fill (gw G (up2 A x 11 (S2 : Int))) 0 [(2, x + 1), (0, (S2 : Int)), (9, 0), (9, 0)] [] P := by
  have hx0 := h.cCK.2.1
  have hgx := h.cL.2
  have hE := h.cR.E
  have hS := h.cS.2
  have ha0 : ∀ a : Int, a ≠ x → up2 A x 11 (S2 : Int) a = A a := fun a ha => by rw [up2_A, upA_ne _ _ ha]
  obtain ⟨A0, hA0⟩ : ∃ A0, A0 = up2 A x 11 (S2 : Int) := ⟨_, rfl⟩
  have hR : sR G A0 (x + 1) (x + 145) 1 S := h.cR.ab (fun a ha => by rw [hA0]; exact ha0 a (by omega))
  have hL0 : lG G A0 := h.cL.1.ab (by rw [hA0]; exact ha0 _ (by omega))
  have h0 : cT G A G A0 x := cT.lo (fun a ha => by rw [hA0]; exact ha0 a (by omega)) (by rw [hA0]; exact ha0 _ (by omega)) (by rw [hA0]; exact ha0 _ (by omega))
  rw [← hA0]
  refine s_fill (d := 4) hR.K hR.F hL0 (by omega) (Or.inl rfl) ⟨by omega, hE.2⟩ hR.P hS2 hp2 (b0 := (S : Int)) hR.N.1.1 (zR_set hS.1) (fun e => ?_) (fun G2 A2 n m hP hF hN f g hn hm => k G2 A2 (CI.fl1 hS2 hp2 h g hP hF hN (by rw [hA0] at f; exact f)) (h0.tr (cT.fl g (Or.inl rfl) (by omega) f hn hm)))
  have e1 : S = S2 := by omega
  subst e1
  exact hR.N
set_option maxRecDepth 20000 in
set_option maxHeartbeats 4000000 in
theorem c_cpl {P : Option zV → zG → Prop} {G : zG} {A : Int → Int → Int} {x : Int} {S T tl : Nat} {tf : Nat → Int} {wl : Nat} {wf : Nat → Int} (h : CI G A x S T tl tf wl wf) {S2 : Nat} (hS2 : S2 < 128) (hp2 : pop S2 ≤ 5) (k : ∀ G2 A2, CI G2 A2 x S T tl tf wl wf → cT G A G2 A2 x → P (some (0, ((prs S2).length : Int))) (gw G2 A2)) : ZE 10 M_Sea_couplesFor (gw G A) 0 [(2, x + 1), (0, (S2 : Int)), (9, 0), (9, 0)] [] P := by
  have hgx := h.cL.2
  have hE := h.cR.E
  refine s_couplesFor (d := 4) h.cR.K h.cR.F h.cL.1 (by omega) (Or.inl rfl) ⟨by omega, hE.2⟩ h.cR.P hS2 hp2 (fun G2 A2 n m hP hF f g hn hm => ?_)
  have k1 := k G2 A2 (h.cpl g hP hF f) (cT.cpl g (by omega) f hn hm)
  rw [prL_1 hS2 hp2]
  exact k1
set_option maxRecDepth 20000 in
set_option maxHeartbeats 4000000 in
theorem c_run {d : Nat} {G : zG} {A : Int → Int → Int} {P : Option zV → zG → Prop} {x : Int} {S T tl : Nat} {tf : Nat → Int} {wl : Nat} {wf : Nat → Int} (h : CI G A x S T tl tf wl wf) {i wh : Int} (hi : zR i) (hw : zR wh) (k : ∀ G2 A2, CI G2 A2 x S T tl tf wl wf → cT G A G2 A2 x → P (some (0, rnV S i wh)) (gw G2 A2)) : ZE 11 M_SN_run (gw G A) 0 [(2, x), (0, i), (0, wh), (9, 0)] [] P := by
  have hx0 := h.cCK.2.1
  have hR := h.cR
  have hL := h.cL.1
  have hgx := h.cL.2
  have hS7 := h.cS.2.1
  have hp5 := h.cS.2.2
  have hE0 := hR.E
  have hL64 := hR.l64
  have hC32 := hR.c32
  have hpl : (prL 1 S).length = (prs S).length := by rw [prL_1 hS7 hp5]
  have hcl : (csA 1 S).length = (csF S 1 128).length := rfl
  refine ZE.aload_n d_SN_run_0 rfl ?_
  refine ZE.getE (v := x + 1) d_SN_run_1 f_SN_12 (tg := 2) rfl h.cCK.1 h.cCF.1 ?_
  refine ZE.iload_n d_SN_run_4 rfl ?_
  refine ZE.cV [(0, i)] [] [(2, x + 1), (0, i), (9, 0), (9, 0)] d_SN_run_5 l_SN_259 rfl rfl rfl rfl rfl rfl h.cCK.2.2.1.1 ?_
  refine s_startOfRun hR hi (fun B gB => ?_)
  show ZE 11 M_SN_run (gw G B) 8 [(2, x), (0, i), (0, wh), (9, 0)] [(0, soR S i)] _
  have hB := qq_CI h gB
  have hsR : zR (soR S i) := by
    have hrl := prs_len hS7
    by_cases q : 0 ≤ i ∧ i < ((rnS S).length : Int)
    · have := soR_y q; have := (rn_2 (S := S) (i := i.toNat) (by omega)).2; unfold zR; omega
    · have := soR_no q; unfold zR; omega
  refine ZE.istore_n (ls2 := [(2, x), (0, i), (0, wh), (0, soR S i)]) d_SN_run_8 (Nat.le_of_ble_eq_true rfl) rfl ?_
  refine ZE.iload_n d_SN_run_9 rfl ?_
  refine ZE.iconst (n := (-1)) d_SN_run_10 ?_
  refine ZE.icmp_eq (tgt := 21) d_SN_run_11 rfl hsR (by unfold zR; omega) (fun c11 => ?_) (fun c11 => ?_)
  · refine ZE.iconst (n := (-1)) d_SN_run_21 ?_
    refine ZE.iret d_SN_run_22 rfl ?_
    have k1 := k G B hB.1 hB.2
    rw [show rnV S i wh = (-1) from by unfold rnV; first | (exact if_neg (fun q => by have := soR_y q; omega)) | (rw [if_pos hir, if_neg (by omega), if_neg (by omega)])] at k1
    exact k1
  · have hir : 0 ≤ i ∧ i < ((rnS S).length : Int) := Classical.byContradiction (fun q => c11 (soR_no q))
    refine ZE.iload_n d_SN_run_14 rfl ?_
    refine ZE.cS [(0, wh)] [] [(0, wh)] d_SN_run_15 l_SN_183 rfl rfl rfl rfl rfl rfl ?_
    refine c_one2 hw ?_
    show ZE 11 M_SN_run (gw G B) 18 [(2, x), (0, i), (0, wh), (0, soR S i)] [(0, b2i (wh = 0 ∨ wh = 1))] _
    refine ZE.if_ne (tgt := 23) d_SN_run_18 rfl (zR_b2i _) (fun c18 => ?_) (fun c18 => ?_)
    · replace c18 := b2i_n0.mp c18
      refine ZE.iload_n d_SN_run_23 rfl ?_
      refine ZE.if_ne (tgt := 31) d_SN_run_24 rfl hw (fun c24 => ?_) (fun c24 => ?_)
      · obtain ⟨f1, hf1⟩ : ∃ f1, f1 = ((rnS S).getD i.toNat (0, 0)).1 := ⟨_, rfl⟩
        have hf2 := (rn_2 (S := S) (i := i.toNat) (by omega)).2
        rw [soR_y hir, ← hf1]
        refine ZE.aload_n d_SN_run_31 rfl ?_
        refine ZE.getE (v := x + 1) d_SN_run_32 f_SN_12 (tg := 2) rfl h.cCK.1 hB.1.cCF.1 ?_
        refine ZE.iload_n d_SN_run_35 rfl ?_
        refine ZE.cV [(0, (f1 : Int))] [] [(2, x + 1), (0, (f1 : Int)), (9, 0), (9, 0)] d_SN_run_36 l_SN_262 rfl rfl rfl rfl rfl rfl h.cCK.2.2.1.1 ?_
        refine s_numbersInRun hB.1.cR (f1 := f1) (by rw [hpl]; omega) (fun B2 gB2 => ?_)
        show ZE 11 M_SN_run (gw G B2) 39 [(2, x), (0, i), (0, wh), (0, (f1 : Int))] [(0, ((nuR S f1 : Nat) : Int))] _
        refine ZE.iret d_SN_run_39 rfl ?_
        have k1 := k G B2 (qq_CI hB.1 gB2).1 (hB.2.tr (qq_CI hB.1 gB2).2)
        rw [show rnV S i wh = (((nuR S f1 : Nat) : Int)) from by unfold rnV; rw [if_pos hir, if_neg (by omega), if_pos (by omega), (rn_2 (by omega)).1, ← hf1]] at k1
        exact k1
      · refine ZE.iload_n d_SN_run_27 rfl ?_
        refine ZE.goto (tgt := 39) d_SN_run_28 rfl ?_
        refine ZE.iret d_SN_run_39 rfl ?_
        have k1 := k G B hB.1 hB.2
        rw [show rnV S i wh = (soR S i) from by unfold rnV; rw [if_pos hir, if_pos (by omega)]; exact (soR_y hir).symm] at k1
        exact k1
    · replace c18 := b2i_0.mp c18
      refine ZE.iconst (n := (-1)) d_SN_run_21 ?_
      refine ZE.iret d_SN_run_22 rfl ?_
      have k1 := k G B hB.1 hB.2
      rw [show rnV S i wh = (-1) from by unfold rnV; first | (exact if_neg (fun q => by have := soR_y q; omega)) | (rw [if_pos hir, if_neg (by omega), if_neg (by omega)])] at k1
      exact k1
set_option maxRecDepth 20000 in
set_option maxHeartbeats 4000000 in
theorem c_rank {d : Nat} {G : zG} {A : Int → Int → Int} {P : Option zV → zG → Prop} {x : Int} {S T tl : Nat} {tf : Nat → Int} {wl : Nat} {wf : Nat → Int} (h : CI G A x S T tl tf wl wf) {m : Int} (hm : zR m) (k : ∀ G2 A2, CI G2 A2 x S T tl tf wl wf → cT G A G2 A2 x → P (some (0, rkV S m)) (gw G2 A2)) : ZE 11 M_SN_rank (gw G A) 0 [(2, x), (0, m)] [] P := by
  have hx0 := h.cCK.2.1
  have hR := h.cR
  have hL := h.cL.1
  have hgx := h.cL.2
  have hS7 := h.cS.2.1
  have hp5 := h.cS.2.2
  have hE0 := hR.E
  have hL64 := hR.l64
  have hC32 := hR.c32
  have hpl : (prL 1 S).length = (prs S).length := by rw [prL_1 hS7 hp5]
  have hcl : (csA 1 S).length = (csF S 1 128).length := rfl
  refine ZE.iload_n d_SN_rank_0 rfl ?_
  refine ZE.if_lt (tgt := 30) d_SN_rank_1 rfl hm (fun c1 => ?_) (fun c1 => ?_)
  · refine ZE.iconst (n := (-1)) d_SN_rank_30 ?_
    refine ZE.iret d_SN_rank_31 rfl ?_
    have k1 := k G A h cT.rf
    rw [show rkV S m = (-1) from if_neg (by omega)] at k1
    exact k1
  · refine ZE.iload_n d_SN_rank_4 rfl ?_
    refine ZE.aload_n d_SN_rank_5 rfl ?_
    refine ZE.getE (v := x + 1) d_SN_rank_6 f_SN_12 (tg := 2) rfl h.cCK.1 h.cCF.1 ?_
    refine ZE.getE (v := ((prL 1 S).length : Int)) d_SN_rank_9 f_SN_93 (tg := 0) rfl h.cCK.2.2.1.1 h.cR.n12 ?_
    refine ZE.icmp_gt (tgt := 30) d_SN_rank_12 rfl hm (by unfold zR; omega) (fun c12 => ?_) (fun c12 => ?_)
    · refine ZE.iconst (n := (-1)) d_SN_rank_30 ?_
      refine ZE.iret d_SN_rank_31 rfl ?_
      have k1 := k G A h cT.rf
      rw [show rkV S m = (-1) from if_neg (by omega)] at k1
      exact k1
    · obtain ⟨mm, hmm⟩ : ∃ q : Nat, m = (q : Int) := ⟨m.toNat, by omega⟩
      subst hmm
      refine ZE.aload_n d_SN_rank_15 rfl ?_
      refine ZE.getE (v := x + 120) d_SN_rank_16 f_SN_38 (tg := 2) rfl h.cCK.1 h.cCF.2.2.2.2.1 ?_
      refine ZE.aload_n d_SN_rank_19 rfl ?_
      refine ZE.getE (v := x + 1) d_SN_rank_20 f_SN_12 (tg := 2) rfl h.cCK.1 h.cCF.1 ?_
      refine ZE.iload_n d_SN_rank_23 rfl ?_
      refine ZE.cV [(2, x + 1), (0, (mm : Int))] [] [(2, x + 120), (2, x + 1), (0, (mm : Int)), (9, 0), (9, 0), (9, 0), (9, 0)] d_SN_rank_24 l_SN_265 rfl rfl rfl rfl rfl rfl h.cCK.2.2.2.2.2.2.1.1 ?_
      refine y_rankOf h.cCK.2.2.2.2.2.2.1 h.cY hR (by omega) (by omega) (mm := mm) (by omega) (fun B gB => ?_)
      show ZE 11 M_SN_rank (gw G B) 27 [(2, x), (0, (mm : Int))] [(0, ((cSt S mm).2 : Int))] _
      refine ZE.goto (tgt := 31) d_SN_rank_27 rfl ?_
      refine ZE.iret d_SN_rank_31 rfl ?_
      have k1 := k G B (yq_CI h gB).1 (yq_CI h gB).2
      rw [show rkV S (mm : Int) = (((cSt S mm).2 : Int)) from by unfold rkV; rw [if_pos (by omega), Int.toNat_natCast, rk_eq hS7 hp5 (by omega)]] at k1
      exact k1
set_option maxRecDepth 20000 in
set_option maxHeartbeats 4000000 in
theorem c_threes {d : Nat} {G : zG} {A : Int → Int → Int} {P : Option zV → zG → Prop} {x : Int} {S T tl : Nat} {tf : Nat → Int} {wl : Nat} {wf : Nat → Int} (h : CI G A x S T tl tf wl wf)  (k : ∀ G2 A2, CI G2 A2 x S T tl tf wl wf → cT G A G2 A2 x → P (some (0, thV S)) (gw G2 A2)) : ZE 11 M_SN_threes (gw G A) 0 [(2, x), (9, 0), (9, 0)] [] P := by
  have hx0 := h.cCK.2.1
  have hR := h.cR
  have hL := h.cL.1
  have hgx := h.cL.2
  have hS7 := h.cS.2.1
  have hp5 := h.cS.2.2
  have hE0 := hR.E
  have hL64 := hR.l64
  have hC32 := hR.c32
  have hpl : (prL 1 S).length = (prs S).length := by rw [prL_1 hS7 hp5]
  have hcl : (csA 1 S).length = (csF S 1 128).length := rfl
  refine ZE.iconst (n := 0) d_SN_threes_0 ?_
  refine ZE.istore_n (ls2 := [(2, x), (0, 0), (9, 0)]) d_SN_threes_1 (Nat.le_of_ble_eq_true rfl) rfl ?_
  refine ZE.iconst (n := 0) d_SN_threes_2 ?_
  refine ZE.istore_n (ls2 := [(2, x), (0, 0), (0, 0)]) d_SN_threes_3 (Nat.le_of_ble_eq_true rfl) rfl ?_
  have L4 : ∀ (tt0 : Nat) (j : Nat) (B : Int → Int → Int) (hj : j ≤ (prL 1 S).length) (hq : qF A B (x + 1)), (prL 1 S).length - j < tt0 → ZE 11 M_SN_threes (gw G B) 4 [(2, x), (0, (cnt (gob S) j : Int)), (0, (j : Int))] [] P := by
    intro tt0
    induction tt0 with
    | zero => intro j B hj hq hm; exact absurd hm (Nat.not_lt_zero _)
    | succ tt0 ih =>
      intro j B hj hq hm
      have hcn := cnt_le (gob S) j
      have hB := qq_CI h hq
      refine ZE.iload_n d_SN_threes_4 rfl ?_
      refine ZE.aload_n d_SN_threes_5 rfl ?_
      refine ZE.getE (v := x + 1) d_SN_threes_6 f_SN_12 (tg := 2) rfl h.cCK.1 hB.1.cCF.1 ?_
      refine ZE.getE (v := ((prL 1 S).length : Int)) d_SN_threes_9 f_SN_93 (tg := 0) rfl h.cCK.2.2.1.1 hB.1.cR.n12 ?_
      refine ZE.icmp_ge (tgt := 40) d_SN_threes_12 rfl (by unfold zR; omega) (by unfold zR; omega) (fun c12 => ?_) (fun c12 => ?_)
      · have e1 : j = (prs S).length := by omega
        refine ZE.iload_n d_SN_threes_40 rfl ?_
        refine ZE.iret d_SN_threes_41 rfl ?_
        have k1 := k G B hB.1 hB.2
        rw [show thV S = ((cnt (gob S) j : Int)) from by unfold thV; rw [e1, cnt_gob _ (Nat.le_refl _)]] at k1
        exact k1
      · refine ZE.iload_n d_SN_threes_15 rfl ?_
        refine ZE.aload_n d_SN_threes_16 rfl ?_
        refine ZE.getE (v := x + 1) d_SN_threes_17 f_SN_12 (tg := 2) rfl h.cCK.1 hB.1.cCF.1 ?_
        refine ZE.iload_n d_SN_threes_20 rfl ?_
        refine ZE.cV [(0, (j : Int))] [(0, (cnt (gob S) j : Int))] [(2, x + 1), (0, (j : Int))] d_SN_threes_21 l_SN_272 rfl rfl rfl rfl rfl rfl h.cCK.2.2.1.1 ?_
        refine s_goesOn hB.1.cR (j := j) (by omega) (fun B2 gB2 => ?_)
        show ZE 11 M_SN_threes (gw G B2) 24 [(2, x), (0, (cnt (gob S) j : Int)), (0, (j : Int))] [(0, b2i (gob S j = true)), (0, (cnt (gob S) j : Int))] _
        refine ZE.if_eq (tgt := 31) d_SN_threes_24 rfl (zR_b2i _) (fun c24 => ?_) (fun c24 => ?_)
        · replace c24 := b2i_0.mp c24
          refine ZE.iconst (n := 0) d_SN_threes_31 ?_
          refine ZE.iadd d_SN_threes_32 ?_
          refine ZE.istore_n (ls2 := [(2, x), (0, (cnt (gob S) j : Int) + 0), (0, (j : Int))]) d_SN_threes_33 (Nat.le_of_ble_eq_true rfl) rfl ?_
          refine ZE.iinc (ls2 := [(2, x), (0, (cnt (gob S) j : Int) + 0), (0, (j : Int) + 1)]) d_SN_threes_34 rfl rfl ?_
          refine ZE.goto (tgt := 4) d_SN_threes_37 rfl ?_
          have e1 : cnt (gob S) (j + 1) = cnt (gob S) j := if_neg c24
          rw [show (cnt (gob S) j : Int) + 0 = (cnt (gob S) (j + 1) : Int) by rw [e1]; omega, show (j : Int) + 1 = ((j + 1 : Nat) : Int) by omega]
          exact ih (j + 1) B2 (by omega) (hq.tr gB2) (by omega)
        · replace c24 := b2i_n0.mp c24
          refine ZE.iconst (n := 1) d_SN_threes_27 ?_
          refine ZE.goto (tgt := 32) d_SN_threes_28 rfl ?_
          refine ZE.iadd d_SN_threes_32 ?_
          refine ZE.istore_n (ls2 := [(2, x), (0, (cnt (gob S) j : Int) + 1), (0, (j : Int))]) d_SN_threes_33 (Nat.le_of_ble_eq_true rfl) rfl ?_
          refine ZE.iinc (ls2 := [(2, x), (0, (cnt (gob S) j : Int) + 1), (0, (j : Int) + 1)]) d_SN_threes_34 rfl rfl ?_
          refine ZE.goto (tgt := 4) d_SN_threes_37 rfl ?_
          have e1 : cnt (gob S) (j + 1) = cnt (gob S) j + 1 := if_pos c24
          rw [show (cnt (gob S) j : Int) + 1 = (cnt (gob S) (j + 1) : Int) by rw [e1]; omega, show (j : Int) + 1 = ((j + 1 : Nat) : Int) by omega]
          exact ih (j + 1) B2 (by omega) (hq.tr gB2) (by omega)
  exact L4 _ 0 A (by omega) hR.rfq (Nat.lt_succ_self _)
set_option maxRecDepth 20000 in
set_option maxHeartbeats 4000000 in
theorem c_meanLength {d : Nat} {G : zG} {A : Int → Int → Int} {P : Option zV → zG → Prop} {x : Int} {S T tl : Nat} {tf : Nat → Int} {wl : Nat} {wf : Nat → Int} (h : CI G A x S T tl tf wl wf)  (k : ∀ G2 A2, CI G2 A2 x S T tl tf wl wf → cT G A G2 A2 x → P (some (0, mlV S)) (gw G2 A2)) : ZE 11 M_SN_meanLength (gw G A) 0 [(2, x), (9, 0), (9, 0)] [] P := by
  have hx0 := h.cCK.2.1
  have hR := h.cR
  have hL := h.cL.1
  have hgx := h.cL.2
  have hS7 := h.cS.2.1
  have hp5 := h.cS.2.2
  have hE0 := hR.E
  have hL64 := hR.l64
  have hC32 := hR.c32
  have hpl : (prL 1 S).length = (prs S).length := by rw [prL_1 hS7 hp5]
  have hcl : (csA 1 S).length = (csF S 1 128).length := rfl
  refine ZE.aload_n d_SN_meanLength_0 rfl ?_
  refine ZE.getE (v := x + 1) d_SN_meanLength_1 f_SN_12 (tg := 2) rfl h.cCK.1 h.cCF.1 ?_
  refine ZE.getE (v := ((prL 1 S).length : Int)) d_SN_meanLength_4 f_SN_93 (tg := 0) rfl h.cCK.2.2.1.1 h.cR.n12 ?_
  refine ZE.if_ne (tgt := 12) d_SN_meanLength_7 rfl (by unfold zR; omega) (fun c7 => ?_) (fun c7 => ?_)
  · refine ZE.iconst (n := 0) d_SN_meanLength_12 ?_
    refine ZE.istore_n (ls2 := [(2, x), (0, 0), (9, 0)]) d_SN_meanLength_13 (Nat.le_of_ble_eq_true rfl) rfl ?_
    refine ZE.iconst (n := 0) d_SN_meanLength_14 ?_
    refine ZE.istore_n (ls2 := [(2, x), (0, 0), (0, 0)]) d_SN_meanLength_15 (Nat.le_of_ble_eq_true rfl) rfl ?_
    have L16 : ∀ (tt0 : Nat) (j : Nat) (hj : j ≤ (prL 1 S).length), (prL 1 S).length - j < tt0 → ZE 11 M_SN_meanLength (gw G A) 16 [(2, x), (0, (sumF (fun k => dl (pN S k)) j : Int)), (0, (j : Int))] [] P := by
      intro tt0
      induction tt0 with
      | zero => intro j hj hm; exact absurd hm (Nat.not_lt_zero _)
      | succ tt0 ih =>
        intro j hj hm
        have hdz : (dl (nN 1 S j) : Int) = (dl (pN S j) : Int) := by rw [nN_1 hS7 hp5]
        refine ZE.iload_n d_SN_meanLength_16 rfl ?_
        refine ZE.aload_n d_SN_meanLength_17 rfl ?_
        refine ZE.getE (v := x + 1) d_SN_meanLength_18 f_SN_12 (tg := 2) rfl h.cCK.1 h.cCF.1 ?_
        refine ZE.getE (v := ((prL 1 S).length : Int)) d_SN_meanLength_21 f_SN_93 (tg := 0) rfl h.cCK.2.2.1.1 h.cR.n12 ?_
        refine ZE.icmp_ge (tgt := 50) d_SN_meanLength_24 rfl (by unfold zR; omega) (by unfold zR; omega) (fun c24 => ?_) (fun c24 => ?_)
        · have e1 : j = (prs S).length := by omega
          have hml := mlU_ok hS7 hp5 (by omega)
          refine ZE.iload_n d_SN_meanLength_50 rfl ?_
          refine ZE.i2f d_SN_meanLength_51 ?_
          refine ZE.aload_n d_SN_meanLength_52 rfl ?_
          refine ZE.getE (v := x + 1) d_SN_meanLength_53 f_SN_12 (tg := 2) rfl h.cCK.1 h.cCF.1 ?_
          refine ZE.getE (v := ((prL 1 S).length : Int)) d_SN_meanLength_56 f_SN_93 (tg := 0) rfl h.cCK.2.2.1.1 h.cR.n12 ?_
          refine ZE.i2f d_SN_meanLength_59 ?_
          refine ZE.fdiv d_SN_meanLength_60 (by rw [zf_fI, zf_fI, e1, hpl]; exact hml.1) ?_
          rw [show (fI (FP.fdiv (zf (fI (FP.i2f (Int32.ofInt (sumF (fun k => dl (pN S k)) j : Int))))) (zf (fI (FP.i2f (Int32.ofInt ((prL 1 S).length : Int)))))) : Int) = fI (mlU S) from (by rw [zf_fI, zf_fI, e1, hpl]; rfl)]
          refine ZE.cS [(3, fI (mlU S))] [] [(3, fI (mlU S)), (9, 0), (9, 0), (9, 0)] d_SN_meanLength_61 l_SN_275 rfl rfl rfl rfl rfl rfl ?_
          refine c_floatBits (fb_ok hS7 hp5 (by omega)) ?_
          show ZE 11 M_SN_meanLength (gw G A) 64 [(2, x), (0, (sumF (fun k => dl (pN S k)) j : Int)), (0, (j : Int))] [(0, fI (mlU S))] _
          refine ZE.iret d_SN_meanLength_64 rfl ?_
          have k1 := k G A h cT.rf
          rw [show mlV S = (fI (mlU S)) from if_neg (by omega)] at k1
          exact k1
        · refine ZE.iload_n d_SN_meanLength_27 rfl ?_
          refine ZE.aload_n d_SN_meanLength_28 rfl ?_
          refine ZE.getE (v := x + 1) d_SN_meanLength_29 f_SN_12 (tg := 2) rfl h.cCK.1 h.cCF.1 ?_
          refine ZE.iload_n d_SN_meanLength_32 rfl ?_
          have hc1 := hR.cp (k := j) (by omega)
          have hvk := hR.v (k := j) (by omega)
          refine ZE.cV [(0, (j : Int))] [(0, (sumF (fun k => dl (pN S k)) j : Int))] [(2, x + 1), (0, (j : Int)), (9, 0)] d_SN_meanLength_33 l_SN_118 rfl rfl rfl rfl rfl rfl h.cCK.2.2.1.1 ?_
          refine s_coupleAt hR.K hR.F hR.n12 hL64 (k1 := j) (by omega) (v1 := A (x + 1 + 30) (j : Int)) rfl (by omega) ?_
          show ZE 11 M_SN_meanLength (gw G A) 36 [(2, x), (0, (sumF (fun k => dl (pN S k)) j : Int)), (0, (j : Int))] [(2, A (x + 1 + 30) (j : Int)), (0, (sumF (fun k => dl (pN S k)) j : Int))] _
          refine ZE.getE (v := A (x + 1 + 30) (j : Int) + 3) d_SN_meanLength_36 f_SN_122 (tg := 2) rfl hc1.2.2.1.1.1 hc1.2.2.1.2.1 ?_
          refine ZE.cV [] [(0, (sumF (fun k => dl (pN S k)) j : Int))] [(2, A (x + 1 + 30) (j : Int) + 3), (9, 0), (9, 0)] d_SN_meanLength_39 l_SN_127 rfl rfl rfl rfl rfl rfl hc1.2.2.1.1.2.2.2.2.1 ?_
          refine B_digits hc1.2.2.1.1.2.2.2.2 hc1.2.2.1.2.2.2.2.2.2.1 (by have := nd_le (b := 1000000000) (n := 1) (by omega) (show nN 1 S j < 1000000000 ^ 1 by omega); omega) ?_
          show ZE 11 M_SN_meanLength (gw G A) 42 [(2, x), (0, (sumF (fun k => dl (pN S k)) j : Int)), (0, (j : Int))] [(0, (dl (nN 1 S j) : Int)), (0, (sumF (fun k => dl (pN S k)) j : Int))] _
          refine ZE.iadd d_SN_meanLength_42 ?_
          refine ZE.istore_n (ls2 := [(2, x), (0, (sumF (fun k => dl (pN S k)) j : Int) + (dl (nN 1 S j) : Int)), (0, (j : Int))]) d_SN_meanLength_43 (Nat.le_of_ble_eq_true rfl) rfl ?_
          refine ZE.iinc (ls2 := [(2, x), (0, (sumF (fun k => dl (pN S k)) j : Int) + (dl (nN 1 S j) : Int)), (0, (j : Int) + 1)]) d_SN_meanLength_44 rfl rfl ?_
          refine ZE.goto (tgt := 16) d_SN_meanLength_47 rfl ?_
          rw [hdz, show (sumF (fun k => dl (pN S k)) j : Int) + (dl (pN S j) : Int) = (sumF (fun k => dl (pN S k)) (j + 1) : Int) from by show _ = ((sumF (fun k => dl (pN S k)) j + dl (pN S j) : Nat) : Int); omega, show (j : Int) + 1 = ((j + 1 : Nat) : Int) by omega]
          exact ih (j + 1) (by omega) (by omega)
    exact L16 _ 0 (by omega) (Nat.lt_succ_self _)
  · refine ZE.iconst (n := 0) d_SN_meanLength_10 ?_
    refine ZE.iret d_SN_meanLength_11 rfl ?_
    have k1 := k G A h cT.rf
    rw [show mlV S = (0) from if_pos (by omega)] at k1
    exact k1
set_option maxRecDepth 20000 in
set_option maxHeartbeats 4000000 in
theorem c_add {d : Nat} {G : zG} {A : Int → Int → Int} {P : Option zV → zG → Prop} {x : Int} {S T tl : Nat} {tf : Nat → Int} {wl : Nat} {wf : Nat → Int} (h : CI G A x S T tl tf wl wf) {p : Int} (hp : zR p) (k : ∀ G2 A2, CI G2 A2 x (addS S p) T tl tf wl wf → cT G A G2 A2 x → P (some (0, addV S p)) (gw G2 A2)) : ZE 11 M_SN_add (gw G A) 0 [(2, x), (0, p)] [] P := by
  have hx0 := h.cCK.2.1
  have hR := h.cR
  have hL := h.cL.1
  have hgx := h.cL.2
  have hS7 := h.cS.2.1
  have hp5 := h.cS.2.2
  have hE0 := hR.E
  have hL64 := hR.l64
  have hC32 := hR.c32
  have hpl : (prL 1 S).length = (prs S).length := by rw [prL_1 hS7 hp5]
  have hcl : (csA 1 S).length = (csF S 1 128).length := rfl
  refine ZE.aload_n d_SN_add_0 rfl ?_
  refine ZE.iload_n d_SN_add_1 rfl ?_
  refine ZE.cV [(0, p)] [] [(2, x), (0, p)] d_SN_add_2 l_SN_83 rfl rfl rfl rfl rfl rfl h.cCK.1 ?_
  refine c_canCome h hp ?_
  show ZE 11 M_SN_add (gw G A) 5 [(2, x), (0, p)] [(0, b2i (canB S p = true))] _
  refine ZE.if_ne (tgt := 10) d_SN_add_5 rfl (zR_b2i _) (fun c5 => ?_) (fun c5 => ?_)
  · replace c5 := b2i_n0.mp c5
    have hoz := (orS_z hS7 c5).1
    have hq2 := (orS_z hS7 c5).2
    refine ZE.aload_n d_SN_add_10 rfl ?_
    refine ZE.dup d_SN_add_11 (Or.inr rfl) ?_
    refine ZE.getE (v := (S : Int)) d_SN_add_12 f_SN_72 (tg := 0) rfl h.cCK.1 h.cS.1 ?_
    refine ZE.iload_n d_SN_add_15 rfl ?_
    refine ZE.cS [(0, p)] [(0, (S : Int)), (2, x)] [(0, p), (9, 0)] d_SN_add_16 l_SN_87 rfl rfl rfl rfl rfl rfl ?_
    refine p_bitOf hp hL ?_
    show ZE 11 M_SN_add (gw G A) 19 [(2, x), (0, p)] [(0, ((if plc p = -1 then 0 else 2 ^ (plc p).toNat : Nat) : Int)), (0, (S : Int)), (2, x)] _
    refine ZE.ior d_SN_add_19 ?_
    rw [show (zor (S : Int) ((if plc p = -1 then 0 else 2 ^ (plc p).toNat : Nat) : Int) : Int) = ((orS S p : Nat) : Int) from hoz]
    refine ZE.put d_SN_add_20 f_SN_72 (tg := 0) rfl trivial (Or.inl ⟨_, _, _, rfl, rfl, rfl⟩) h.cCK.1 ?_
    show ZE 11 M_SN_add (gw G (up2 A x 11 ((orS S p : Nat) : Int))) 23 [(2, x), (0, p)] [] _
    refine ZE.aload_n d_SN_add_23 rfl ?_
    refine ZE.getE (v := x + 1) d_SN_add_24 f_SN_12 (tg := 2) rfl h.cCK.1 ((up2_ne _ _ (by omega)).trans h.cCF.1) ?_
    refine ZE.aload_n d_SN_add_27 rfl ?_
    refine ZE.getE (v := ((orS S p : Nat) : Int)) d_SN_add_28 f_SN_72 (tg := 0) rfl h.cCK.1 (up2_at _ _ _ _) ?_
    refine ZE.cV [(0, ((orS S p : Nat) : Int))] [] [(2, x + 1), (0, ((orS S p : Nat) : Int)), (9, 0), (9, 0)] d_SN_add_31 l_SN_79 rfl rfl rfl rfl rfl rfl h.cCK.2.2.1.1 ?_
    refine c_fill h (S2 := (orS S p)) hq2.1 hq2.2 (fun G2 A2 hB hT => ?_)
    show ZE 11 M_SN_add (gw G2 A2) 34 [(2, x), (0, p)] [(2, x + 1)] _
    refine ZE.getE (v := ((prL 1 (orS S p)).length : Int)) d_SN_add_34 f_SN_93 (tg := 0) rfl hB.cCK.2.2.1.1 hB.cR.n12 ?_
    refine ZE.iret d_SN_add_37 rfl ?_
    have es : addS S p = (orS S p) := if_pos c5
    rw [es] at k
    have k1 := k G2 A2 hB hT
    rw [show addV S p = (((prL 1 (orS S p)).length : Int)) from by rw [prL_1 hq2.1 hq2.2]; exact if_pos c5] at k1
    exact k1
  · replace c5 := b2i_0.mp c5
    refine ZE.iconst (n := (-1)) d_SN_add_8 ?_
    refine ZE.iret d_SN_add_9 rfl ?_
    have es : addS S p = S := if_neg c5
    rw [es] at k
    have k1 := k G A h cT.rf
    rw [show addV S p = (-1) from if_neg c5] at k1
    exact k1
set_option maxRecDepth 20000 in
set_option maxHeartbeats 4000000 in
theorem c_drop {d : Nat} {G : zG} {A : Int → Int → Int} {P : Option zV → zG → Prop} {x : Int} {S T tl : Nat} {tf : Nat → Int} {wl : Nat} {wf : Nat → Int} (h : CI G A x S T tl tf wl wf) {p : Int} (hp : zR p) (k : ∀ G2 A2, CI G2 A2 x (drpS S p) T tl tf wl wf → cT G A G2 A2 x → P (some (0, drpV S p)) (gw G2 A2)) : ZE 11 M_SN_drop (gw G A) 0 [(2, x), (0, p)] [] P := by
  have hx0 := h.cCK.2.1
  have hR := h.cR
  have hL := h.cL.1
  have hgx := h.cL.2
  have hS7 := h.cS.2.1
  have hp5 := h.cS.2.2
  have hE0 := hR.E
  have hL64 := hR.l64
  have hC32 := hR.c32
  have hpl : (prL 1 S).length = (prs S).length := by rw [prL_1 hS7 hp5]
  have hcl : (csA 1 S).length = (csF S 1 128).length := rfl
  refine ZE.aload_n d_SN_drop_0 rfl ?_
  refine ZE.getE (v := (S : Int)) d_SN_drop_1 f_SN_72 (tg := 0) rfl h.cCK.1 h.cS.1 ?_
  refine ZE.iload_n d_SN_drop_4 rfl ?_
  refine ZE.cS [(0, (S : Int)), (0, p)] [] [(0, (S : Int)), (0, p)] d_SN_drop_5 l_SN_96 rfl rfl rfl rfl rfl rfl ?_
  refine p_has hS7 hp hL ?_
  show ZE 11 M_SN_drop (gw G A) 8 [(2, x), (0, p)] [(0, b2i (hasB S p = true))] _
  refine ZE.if_ne (tgt := 13) d_SN_drop_8 rfl (zR_b2i _) (fun c8 => ?_) (fun c8 => ?_)
  · replace c8 := b2i_n0.mp c8
    have hoz := (noS_z hS7 hp5 c8).1
    have hq2 := (noS_z hS7 hp5 c8).2
    refine ZE.aload_n d_SN_drop_13 rfl ?_
    refine ZE.dup d_SN_drop_14 (Or.inr rfl) ?_
    refine ZE.getE (v := (S : Int)) d_SN_drop_15 f_SN_72 (tg := 0) rfl h.cCK.1 h.cS.1 ?_
    refine ZE.iload_n d_SN_drop_18 rfl ?_
    refine ZE.cS [(0, p)] [(0, (S : Int)), (2, x)] [(0, p), (9, 0)] d_SN_drop_19 l_SN_87 rfl rfl rfl rfl rfl rfl ?_
    refine p_bitOf hp hL ?_
    show ZE 11 M_SN_drop (gw G A) 22 [(2, x), (0, p)] [(0, ((if plc p = -1 then 0 else 2 ^ (plc p).toNat : Nat) : Int)), (0, (S : Int)), (2, x)] _
    refine ZE.iconst (n := (-1)) d_SN_drop_22 ?_
    refine ZE.ixor d_SN_drop_23 ?_
    refine ZE.iand d_SN_drop_24 ?_
    rw [show (zand (S : Int) (zxor ((if plc p = -1 then 0 else 2 ^ (plc p).toNat : Nat) : Int) (-1)) : Int) = ((noS S p : Nat) : Int) from hoz]
    refine ZE.put d_SN_drop_25 f_SN_72 (tg := 0) rfl trivial (Or.inl ⟨_, _, _, rfl, rfl, rfl⟩) h.cCK.1 ?_
    show ZE 11 M_SN_drop (gw G (up2 A x 11 ((noS S p : Nat) : Int))) 28 [(2, x), (0, p)] [] _
    refine ZE.aload_n d_SN_drop_28 rfl ?_
    refine ZE.getE (v := x + 1) d_SN_drop_29 f_SN_12 (tg := 2) rfl h.cCK.1 ((up2_ne _ _ (by omega)).trans h.cCF.1) ?_
    refine ZE.aload_n d_SN_drop_32 rfl ?_
    refine ZE.getE (v := ((noS S p : Nat) : Int)) d_SN_drop_33 f_SN_72 (tg := 0) rfl h.cCK.1 (up2_at _ _ _ _) ?_
    refine ZE.cV [(0, ((noS S p : Nat) : Int))] [] [(2, x + 1), (0, ((noS S p : Nat) : Int)), (9, 0), (9, 0)] d_SN_drop_36 l_SN_79 rfl rfl rfl rfl rfl rfl h.cCK.2.2.1.1 ?_
    refine c_fill h (S2 := (noS S p)) hq2.1 hq2.2 (fun G2 A2 hB hT => ?_)
    show ZE 11 M_SN_drop (gw G2 A2) 39 [(2, x), (0, p)] [(2, x + 1)] _
    refine ZE.getE (v := ((prL 1 (noS S p)).length : Int)) d_SN_drop_39 f_SN_93 (tg := 0) rfl hB.cCK.2.2.1.1 hB.cR.n12 ?_
    refine ZE.iret d_SN_drop_42 rfl ?_
    have es : drpS S p = (noS S p) := if_pos c8
    rw [es] at k
    have k1 := k G2 A2 hB hT
    rw [show drpV S p = (((prL 1 (noS S p)).length : Int)) from by rw [prL_1 hq2.1 hq2.2]; exact if_pos c8] at k1
    exact k1
  · replace c8 := b2i_0.mp c8
    refine ZE.iconst (n := (-1)) d_SN_drop_11 ?_
    refine ZE.iret d_SN_drop_12 rfl ?_
    have es : drpS S p = S := if_neg c8
    rw [es] at k
    have k1 := k G A h cT.rf
    rw [show drpV S p = (-1) from if_neg c8] at k1
    exact k1
set_option maxRecDepth 20000 in
set_option maxHeartbeats 4000000 in
theorem c_choose {d : Nat} {G : zG} {A : Int → Int → Int} {P : Option zV → zG → Prop} {x : Int} {S T tl : Nat} {tf : Nat → Int} {wl : Nat} {wf : Nat → Int} (h : CI G A x S T tl tf wl wf) {b : Int} (hb : zR b) (k : ∀ G2 A2, CI G2 A2 x (chS S b) T tl tf wl wf → cT G A G2 A2 x → P (some (0, chV b)) (gw G2 A2)) : ZE 11 M_SN_choose (gw G A) 0 [(2, x), (0, b)] [] P := by
  have hx0 := h.cCK.2.1
  have hR := h.cR
  have hL := h.cL.1
  have hgx := h.cL.2
  have hS7 := h.cS.2.1
  have hp5 := h.cS.2.2
  have hE0 := hR.E
  have hL64 := hR.l64
  have hC32 := hR.c32
  have hpl : (prL 1 S).length = (prs S).length := by rw [prL_1 hS7 hp5]
  have hcl : (csA 1 S).length = (csF S 1 128).length := rfl
  refine ZE.iload_n d_SN_choose_0 rfl ?_
  refine ZE.if_lt (tgt := 19) d_SN_choose_1 rfl hb (fun c1 => ?_) (fun c1 => ?_)
  · refine ZE.iconst (n := (-1)) d_SN_choose_19 ?_
    refine ZE.iret d_SN_choose_20 rfl ?_
    have hno : ¬ chC b = true := by
      intro q
      have q := of_decide_eq_true q
      omega
    have es : chS S b = S := if_neg hno
    rw [es] at k
    have k1 := k G A h cT.rf
    rw [show chV b = (-1) from if_neg hno] at k1
    exact k1
  · refine ZE.iload_n d_SN_choose_4 rfl ?_
    refine ZE.sipush (n := 128) d_SN_choose_5 rfl ?_
    refine ZE.icmp_ge (tgt := 19) d_SN_choose_8 rfl hb (by unfold zR; omega) (fun c8 => ?_) (fun c8 => ?_)
    · refine ZE.iconst (n := (-1)) d_SN_choose_19 ?_
      refine ZE.iret d_SN_choose_20 rfl ?_
      have hno : ¬ chC b = true := by
        intro q
        have q := of_decide_eq_true q
        omega
      have es : chS S b = S := if_neg hno
      rw [es] at k
      have k1 := k G A h cT.rf
      rw [show chV b = (-1) from if_neg hno] at k1
      exact k1
    · obtain ⟨b2, hb2⟩ : ∃ q : Nat, b = (q : Int) := ⟨b.toNat, by omega⟩
      subst hb2
      have hpo := pop_le b2 (by omega)
      refine ZE.iload_n d_SN_choose_11 rfl ?_
      refine ZE.cS [(0, (b2 : Int))] [] [(0, (b2 : Int))] d_SN_choose_12 l_SN_100 rfl rfl rfl rfl rfl rfl ?_
      refine j_bitCount (n := b2) (by omega) ?_
      show ZE 11 M_SN_choose (gw G A) 15 [(2, x), (0, (b2 : Int))] [(0, (pop b2 : Int))] _
      refine ZE.iconst (n := 5) d_SN_choose_15 ?_
      refine ZE.icmp_le (tgt := 21) d_SN_choose_16 rfl (by unfold zR; omega) (by unfold zR; omega) (fun c16 => ?_) (fun c16 => ?_)
      · refine ZE.aload_n d_SN_choose_21 rfl ?_
        refine ZE.iload_n d_SN_choose_22 rfl ?_
        refine ZE.put d_SN_choose_23 f_SN_72 (tg := 0) rfl trivial (Or.inl ⟨_, _, _, rfl, rfl, rfl⟩) h.cCK.1 ?_
        show ZE 11 M_SN_choose (gw G (up2 A x 11 (b2 : Int))) 26 [(2, x), (0, (b2 : Int))] [] _
        refine ZE.aload_n d_SN_choose_26 rfl ?_
        refine ZE.getE (v := x + 1) d_SN_choose_27 f_SN_12 (tg := 2) rfl h.cCK.1 ((up2_ne _ _ (by omega)).trans h.cCF.1) ?_
        refine ZE.aload_n d_SN_choose_30 rfl ?_
        refine ZE.getE (v := (b2 : Int)) d_SN_choose_31 f_SN_72 (tg := 0) rfl h.cCK.1 (up2_at _ _ _ _) ?_
        refine ZE.cV [(0, (b2 : Int))] [] [(2, x + 1), (0, (b2 : Int)), (9, 0), (9, 0)] d_SN_choose_34 l_SN_79 rfl rfl rfl rfl rfl rfl h.cCK.2.2.1.1 ?_
        refine c_fill h (S2 := b2) (by omega) (by omega) (fun G2 A2 hB hT => ?_)
        show ZE 11 M_SN_choose (gw G2 A2) 37 [(2, x), (0, (b2 : Int))] [(2, x + 1)] _
        refine ZE.getE (v := ((prL 1 b2).length : Int)) d_SN_choose_37 f_SN_93 (tg := 0) rfl hB.cCK.2.2.1.1 hB.cR.n12 ?_
        refine ZE.iret d_SN_choose_40 rfl ?_
        have hcn := ch_nat (S2 := b2) (by omega) (by omega) S
        rw [hcn.2] at k
        have k1 := k G2 A2 hB hT
        rw [show chV (b2 : Int) = (((prL 1 b2).length : Int)) from by rw [prL_1 (by omega) (by omega)]; exact hcn.1] at k1
        exact k1
      · refine ZE.iconst (n := (-1)) d_SN_choose_19 ?_
        refine ZE.iret d_SN_choose_20 rfl ?_
        have hno : ¬ chC (b2 : Int) = true := by
          intro q
          have q := of_decide_eq_true q
          have q2 := q.2.2; rw [Int.toNat_natCast] at q2; omega
        have es : chS S (b2 : Int) = S := if_neg hno
        rw [es] at k
        have k1 := k G A h cT.rf
        rw [show chV (b2 : Int) = (-1) from if_neg hno] at k1
        exact k1
set_option maxRecDepth 20000 in
set_option maxHeartbeats 4000000 in
theorem c_would {d : Nat} {G : zG} {A : Int → Int → Int} {P : Option zV → zG → Prop} {x : Int} {S T tl : Nat} {tf : Nat → Int} {wl : Nat} {wf : Nat → Int} (h : CI G A x S T tl tf wl wf) {p : Int} (hp : zR p) (k : ∀ G2 A2, CI G2 A2 x S T tl tf wl wf → cT G A G2 A2 x → P (some (0, addV S p)) (gw G2 A2)) : ZE 11 M_SN_would (gw G A) 0 [(2, x), (0, p)] [] P := by
  have hx0 := h.cCK.2.1
  have hR := h.cR
  have hL := h.cL.1
  have hgx := h.cL.2
  have hS7 := h.cS.2.1
  have hp5 := h.cS.2.2
  have hE0 := hR.E
  have hL64 := hR.l64
  have hC32 := hR.c32
  have hpl : (prL 1 S).length = (prs S).length := by rw [prL_1 hS7 hp5]
  have hcl : (csA 1 S).length = (csF S 1 128).length := rfl
  refine ZE.aload_n d_SN_would_0 rfl ?_
  refine ZE.iload_n d_SN_would_1 rfl ?_
  refine ZE.cV [(0, p)] [] [(2, x), (0, p)] d_SN_would_2 l_SN_83 rfl rfl rfl rfl rfl rfl h.cCK.1 ?_
  refine c_canCome h hp ?_
  show ZE 11 M_SN_would (gw G A) 5 [(2, x), (0, p)] [(0, b2i (canB S p = true))] _
  refine ZE.if_eq (tgt := 27) d_SN_would_5 rfl (zR_b2i _) (fun c5 => ?_) (fun c5 => ?_)
  · replace c5 := b2i_0.mp c5
    refine ZE.iconst (n := (-1)) d_SN_would_27 ?_
    refine ZE.iret d_SN_would_28 rfl ?_
    have k1 := k G A h cT.rf
    rw [show addV S p = (-1) from if_neg c5] at k1
    exact k1
  · replace c5 := b2i_n0.mp c5
    have hoz := (orS_z hS7 c5).1
    have hq2 := (orS_z hS7 c5).2
    refine ZE.aload_n d_SN_would_8 rfl ?_
    refine ZE.getE (v := x + 1) d_SN_would_9 f_SN_12 (tg := 2) rfl h.cCK.1 h.cCF.1 ?_
    refine ZE.aload_n d_SN_would_12 rfl ?_
    refine ZE.getE (v := (S : Int)) d_SN_would_13 f_SN_72 (tg := 0) rfl h.cCK.1 h.cS.1 ?_
    refine ZE.iload_n d_SN_would_16 rfl ?_
    refine ZE.cS [(0, p)] [(0, (S : Int)), (2, x + 1)] [(0, p), (9, 0)] d_SN_would_17 l_SN_87 rfl rfl rfl rfl rfl rfl ?_
    refine p_bitOf hp hL ?_
    show ZE 11 M_SN_would (gw G A) 20 [(2, x), (0, p)] [(0, ((if plc p = -1 then 0 else 2 ^ (plc p).toNat : Nat) : Int)), (0, (S : Int)), (2, x + 1)] _
    refine ZE.ior d_SN_would_20 ?_
    rw [show (zor (S : Int) ((if plc p = -1 then 0 else 2 ^ (plc p).toNat : Nat) : Int) : Int) = ((orS S p : Nat) : Int) from hoz]
    refine ZE.cV [(0, ((orS S p : Nat) : Int))] [] [(2, x + 1), (0, ((orS S p : Nat) : Int)), (9, 0), (9, 0)] d_SN_would_21 l_SN_279 rfl rfl rfl rfl rfl rfl h.cCK.2.2.1.1 ?_
    refine c_cpl h (S2 := (orS S p)) hq2.1 hq2.2 (fun G2 A2 hB hT => ?_)
    show ZE 11 M_SN_would (gw G2 A2) 24 [(2, x), (0, p)] [(0, ((prs (orS S p)).length : Int))] _
    refine ZE.goto (tgt := 28) d_SN_would_24 rfl ?_
    refine ZE.iret d_SN_would_28 rfl ?_
    have k1 := k G2 A2 hB hT
    rw [show addV S p = (((prs (orS S p)).length : Int)) from if_pos c5] at k1
    exact k1
set_option maxRecDepth 20000 in
set_option maxHeartbeats 4000000 in
theorem c_without {d : Nat} {G : zG} {A : Int → Int → Int} {P : Option zV → zG → Prop} {x : Int} {S T tl : Nat} {tf : Nat → Int} {wl : Nat} {wf : Nat → Int} (h : CI G A x S T tl tf wl wf) {p : Int} (hp : zR p) (k : ∀ G2 A2, CI G2 A2 x S T tl tf wl wf → cT G A G2 A2 x → P (some (0, drpV S p)) (gw G2 A2)) : ZE 11 M_SN_without (gw G A) 0 [(2, x), (0, p)] [] P := by
  have hx0 := h.cCK.2.1
  have hR := h.cR
  have hL := h.cL.1
  have hgx := h.cL.2
  have hS7 := h.cS.2.1
  have hp5 := h.cS.2.2
  have hE0 := hR.E
  have hL64 := hR.l64
  have hC32 := hR.c32
  have hpl : (prL 1 S).length = (prs S).length := by rw [prL_1 hS7 hp5]
  have hcl : (csA 1 S).length = (csF S 1 128).length := rfl
  refine ZE.aload_n d_SN_without_0 rfl ?_
  refine ZE.getE (v := (S : Int)) d_SN_without_1 f_SN_72 (tg := 0) rfl h.cCK.1 h.cS.1 ?_
  refine ZE.iload_n d_SN_without_4 rfl ?_
  refine ZE.cS [(0, (S : Int)), (0, p)] [] [(0, (S : Int)), (0, p)] d_SN_without_5 l_SN_96 rfl rfl rfl rfl rfl rfl ?_
  refine p_has hS7 hp hL ?_
  show ZE 11 M_SN_without (gw G A) 8 [(2, x), (0, p)] [(0, b2i (hasB S p = true))] _
  refine ZE.if_eq (tgt := 32) d_SN_without_8 rfl (zR_b2i _) (fun c8 => ?_) (fun c8 => ?_)
  · replace c8 := b2i_0.mp c8
    refine ZE.iconst (n := (-1)) d_SN_without_32 ?_
    refine ZE.iret d_SN_without_33 rfl ?_
    have k1 := k G A h cT.rf
    rw [show drpV S p = (-1) from if_neg c8] at k1
    exact k1
  · replace c8 := b2i_n0.mp c8
    have hoz := (noS_z hS7 hp5 c8).1
    have hq2 := (noS_z hS7 hp5 c8).2
    refine ZE.aload_n d_SN_without_11 rfl ?_
    refine ZE.getE (v := x + 1) d_SN_without_12 f_SN_12 (tg := 2) rfl h.cCK.1 h.cCF.1 ?_
    refine ZE.aload_n d_SN_without_15 rfl ?_
    refine ZE.getE (v := (S : Int)) d_SN_without_16 f_SN_72 (tg := 0) rfl h.cCK.1 h.cS.1 ?_
    refine ZE.iload_n d_SN_without_19 rfl ?_
    refine ZE.cS [(0, p)] [(0, (S : Int)), (2, x + 1)] [(0, p), (9, 0)] d_SN_without_20 l_SN_87 rfl rfl rfl rfl rfl rfl ?_
    refine p_bitOf hp hL ?_
    show ZE 11 M_SN_without (gw G A) 23 [(2, x), (0, p)] [(0, ((if plc p = -1 then 0 else 2 ^ (plc p).toNat : Nat) : Int)), (0, (S : Int)), (2, x + 1)] _
    refine ZE.iconst (n := (-1)) d_SN_without_23 ?_
    refine ZE.ixor d_SN_without_24 ?_
    refine ZE.iand d_SN_without_25 ?_
    rw [show (zand (S : Int) (zxor ((if plc p = -1 then 0 else 2 ^ (plc p).toNat : Nat) : Int) (-1)) : Int) = ((noS S p : Nat) : Int) from hoz]
    refine ZE.cV [(0, ((noS S p : Nat) : Int))] [] [(2, x + 1), (0, ((noS S p : Nat) : Int)), (9, 0), (9, 0)] d_SN_without_26 l_SN_279 rfl rfl rfl rfl rfl rfl h.cCK.2.2.1.1 ?_
    refine c_cpl h (S2 := (noS S p)) hq2.1 hq2.2 (fun G2 A2 hB hT => ?_)
    show ZE 11 M_SN_without (gw G2 A2) 29 [(2, x), (0, p)] [(0, ((prs (noS S p)).length : Int))] _
    refine ZE.goto (tgt := 33) d_SN_without_29 rfl ?_
    refine ZE.iret d_SN_without_33 rfl ?_
    have k1 := k G2 A2 hB hT
    rw [show drpV S p = (((prs (noS S p)).length : Int)) from if_pos c8] at k1
    exact k1
set_option maxRecDepth 20000 in
set_option maxHeartbeats 4000000 in
theorem c_growth {d : Nat} {G : zG} {A : Int → Int → Int} {P : Option zV → zG → Prop} {x : Int} {S T tl : Nat} {tf : Nat → Int} {wl : Nat} {wf : Nat → Int} (h : CI G A x S T tl tf wl wf) {c : Int} (hc : zR c) (k : ∀ G2 A2, CI G2 A2 x S T tl tf wl wf → cT G A G2 A2 x → P (some (0, grV S c)) (gw G2 A2)) : ZE 11 M_SN_growth (gw G A) 0 [(2, x), (0, c), (9, 0)] [] P := by
  have hx0 := h.cCK.2.1
  have hR := h.cR
  have hL := h.cL.1
  have hgx := h.cL.2
  have hS7 := h.cS.2.1
  have hp5 := h.cS.2.2
  have hE0 := hR.E
  have hL64 := hR.l64
  have hC32 := hR.c32
  have hpl : (prL 1 S).length = (prs S).length := by rw [prL_1 hS7 hp5]
  have hcl : (csA 1 S).length = (csF S 1 128).length := rfl
  refine ZE.iload_n d_SN_growth_0 rfl ?_
  refine ZE.if_lt (tgt := 19) d_SN_growth_1 rfl hc (fun c1 => ?_) (fun c1 => ?_)
  · refine ZE.iconst (n := 0) d_SN_growth_19 ?_
    refine ZE.istore_n (ls2 := [(2, x), (0, c), (0, 0)]) d_SN_growth_20 (Nat.le_of_ble_eq_true rfl) rfl ?_
    refine ZE.iload_n d_SN_growth_21 rfl ?_
    refine ZE.if_eq (tgt := 43) d_SN_growth_22 rfl (by unfold zR; omega) (fun c22 => ?_) (fun c22 => ?_)
    · refine ZE.iconst (n := (-1)) d_SN_growth_43 ?_
      refine ZE.iret d_SN_growth_44 rfl ?_
      have k1 := k G A h cT.rf
      rw [show grV S c = (-1) from if_neg (by omega)] at k1
      exact k1
    · exact absurd c22 (by decide)
  · refine ZE.iload_n d_SN_growth_4 rfl ?_
    refine ZE.aload_n d_SN_growth_5 rfl ?_
    refine ZE.getE (v := (S : Int)) d_SN_growth_6 f_SN_72 (tg := 0) rfl h.cCK.1 h.cS.1 ?_
    refine ZE.cS [(0, (S : Int))] [(0, c)] [(0, (S : Int))] d_SN_growth_9 l_SN_100 rfl rfl rfl rfl rfl rfl ?_
    refine j_bitCount (n := S) (by omega) ?_
    show ZE 11 M_SN_growth (gw G A) 12 [(2, x), (0, c), (9, 0)] [(0, (pop S : Int)), (0, c)] _
    refine ZE.icmp_gt (tgt := 19) d_SN_growth_12 rfl hc (by unfold zR; omega) (fun c12 => ?_) (fun c12 => ?_)
    · refine ZE.iconst (n := 0) d_SN_growth_19 ?_
      refine ZE.istore_n (ls2 := [(2, x), (0, c), (0, 0)]) d_SN_growth_20 (Nat.le_of_ble_eq_true rfl) rfl ?_
      refine ZE.iload_n d_SN_growth_21 rfl ?_
      refine ZE.if_eq (tgt := 43) d_SN_growth_22 rfl (by unfold zR; omega) (fun c22 => ?_) (fun c22 => ?_)
      · refine ZE.iconst (n := (-1)) d_SN_growth_43 ?_
        refine ZE.iret d_SN_growth_44 rfl ?_
        have k1 := k G A h cT.rf
        rw [show grV S c = (-1) from if_neg (by omega)] at k1
        exact k1
      · exact absurd c22 (by decide)
    · obtain ⟨kn, hkn⟩ : ∃ q : Nat, c = (q : Int) := ⟨c.toNat, by omega⟩
      subst hkn
      have hgt := gw_tab S hS7 kn (by omega) 7 (by omega)
      refine ZE.iconst (n := 1) d_SN_growth_15 ?_
      refine ZE.goto (tgt := 20) d_SN_growth_16 rfl ?_
      refine ZE.istore_n (ls2 := [(2, x), (0, (kn : Int)), (0, 1)]) d_SN_growth_20 (Nat.le_of_ble_eq_true rfl) rfl ?_
      refine ZE.iload_n d_SN_growth_21 rfl ?_
      refine ZE.if_eq (tgt := 43) d_SN_growth_22 rfl (by unfold zR; omega) (fun c22 => ?_) (fun c22 => ?_)
      · exact absurd c22 (by decide)
      · refine ZE.aload_n d_SN_growth_25 rfl ?_
        refine ZE.getE (v := x + 1) d_SN_growth_26 f_SN_12 (tg := 2) rfl h.cCK.1 h.cCF.1 ?_
        refine ZE.aload_n d_SN_growth_29 rfl ?_
        refine ZE.getE (v := (S : Int)) d_SN_growth_30 f_SN_72 (tg := 0) rfl h.cCK.1 h.cS.1 ?_
        refine ZE.iload_n d_SN_growth_33 rfl ?_
        refine ZE.cS [(0, (S : Int)), (0, (kn : Int))] [(2, x + 1)] [(0, (S : Int)), (0, (kn : Int)), (9, 0), (9, 0)] d_SN_growth_34 l_SN_285 rfl rfl rfl rfl rfl rfl ?_
        refine p_lowest hS7 (kn := kn) (by omega) ?_
        show ZE 11 M_SN_growth (gw G A) 37 [(2, x), (0, (kn : Int)), (0, 1)] [(0, ((gwF S kn 7).1 : Int)), (2, x + 1)] _
        refine ZE.cV [(0, ((gwF S kn 7).1 : Int))] [] [(2, x + 1), (0, ((gwF S kn 7).1 : Int)), (9, 0), (9, 0)] d_SN_growth_37 l_SN_279 rfl rfl rfl rfl rfl rfl h.cCK.2.2.1.1 ?_
        refine c_cpl h (S2 := ((gwF S kn 7).1)) hgt.1 hgt.2.2 (fun G2 A2 hB hT => ?_)
        show ZE 11 M_SN_growth (gw G2 A2) 40 [(2, x), (0, (kn : Int)), (0, 1)] [(0, ((prs ((gwF S kn 7).1)).length : Int))] _
        refine ZE.goto (tgt := 44) d_SN_growth_40 rfl ?_
        refine ZE.iret d_SN_growth_44 rfl ?_
        have k1 := k G2 A2 hB hT
        rw [show grV S (kn : Int) = (((prs ((gwF S kn 7).1)).length : Int)) from by unfold grV; rw [if_pos (by omega), Int.toNat_natCast]] at k1
        exact k1
set_option maxRecDepth 20000 in
set_option maxHeartbeats 4000000 in
theorem c_bestPrime {d : Nat} {G : zG} {A : Int → Int → Int} {P : Option zV → zG → Prop} {x : Int} {S T tl : Nat} {tf : Nat → Int} {wl : Nat} {wf : Nat → Int} (h : CI G A x S T tl tf wl wf)  (k : ∀ G2 A2, CI G2 A2 x S T tl tf wl wf → cT G A G2 A2 x → P (some (0, (bpF S 7).1)) (gw G2 A2)) : ZE 11 M_SN_bestPrime (gw G A) 0 [(2, x), (9, 0), (9, 0), (9, 0), (9, 0), (9, 0)] [] P := by
  have hx0 := h.cCK.2.1
  have hR := h.cR
  have hL := h.cL.1
  have hgx := h.cL.2
  have hS7 := h.cS.2.1
  have hp5 := h.cS.2.2
  have hE0 := hR.E
  have hL64 := hR.l64
  have hC32 := hR.c32
  have hpl : (prL 1 S).length = (prs S).length := by rw [prL_1 hS7 hp5]
  have hcl : (csA 1 S).length = (csF S 1 128).length := rfl
  refine ZE.iconst (n := (-1)) d_SN_bestPrime_0 ?_
  refine ZE.istore_n (ls2 := [(2, x), (0, (-1)), (9, 0), (9, 0), (9, 0), (9, 0)]) d_SN_bestPrime_1 (Nat.le_of_ble_eq_true rfl) rfl ?_
  refine ZE.iconst (n := (-1)) d_SN_bestPrime_2 ?_
  refine ZE.istore_n (ls2 := [(2, x), (0, (-1)), (0, (-1)), (9, 0), (9, 0), (9, 0)]) d_SN_bestPrime_3 (Nat.le_of_ble_eq_true rfl) rfl ?_
  refine ZE.iconst (n := 0) d_SN_bestPrime_4 ?_
  refine ZE.istore_n (ls2 := [(2, x), (0, (-1)), (0, (-1)), (0, 0), (9, 0), (9, 0)]) d_SN_bestPrime_5 (Nat.le_of_ble_eq_true rfl) rfl ?_
  have L6 : ∀ (tt0 : Nat) (j : Nat) (G1 : zG) (A1 : Int → Int → Int) (hj : j ≤ 7) (hC1 : CI G1 A1 x S T tl tf wl wf) (hT1 : cT G A G1 A1 x), 7 - j < tt0 → ZE 11 M_SN_bestPrime (gw G1 A1) 6 [(2, x), (0, (bpF S j).1), (0, (bpF S j).2), (0, (j : Int)), (9, 0), (9, 0)] [] P := by
    intro tt0
    induction tt0 with
    | zero => intro j G1 A1 hj hC1 hT1 hm; exact absurd hm (Nat.not_lt_zero _)
    | succ tt0 ih =>
      intro j G1 A1 hj hC1 hT1 hm
      have hbp := bpF_R hS7 j hj
      refine ZE.iload_n d_SN_bestPrime_6 rfl ?_
      refine ZE.bipush (n := 7) d_SN_bestPrime_7 rfl ?_
      refine ZE.icmp_ge (tgt := 68) d_SN_bestPrime_9 rfl (by unfold zR; omega) (by unfold zR; omega) (fun c9 => ?_) (fun c9 => ?_)
      · have e7 : j = 7 := by omega
        subst e7
        refine ZE.iload_n d_SN_bestPrime_68 rfl ?_
        refine ZE.iret d_SN_bestPrime_69 rfl ?_
        exact k G1 A1 hC1 hT1
      · refine ZE.iload_n d_SN_bestPrime_12 rfl ?_
        have hz7 := zPf_sev j (by omega)
        have hsl := sev_lt j (by omega)
        have hav := addV_R hS7 (sev j)
        refine ZE.cS [(0, (j : Int))] [] [(0, (j : Int))] d_SN_bestPrime_13 l_SN_282 rfl rfl rfl rfl rfl rfl ?_
        refine p_at (j := j) (by omega) hC1.cL.1 ?_
        show ZE 11 M_SN_bestPrime (gw G1 A1) 16 [(2, x), (0, (bpF S j).1), (0, (bpF S j).2), (0, (j : Int)), (9, 0), (9, 0)] [(0, zPf j)] _
        rw [hz7]
        refine ZE.istore (ls2 := [(2, x), (0, (bpF S j).1), (0, (bpF S j).2), (0, (j : Int)), (0, (sev j : Int)), (9, 0)]) d_SN_bestPrime_16 (Nat.le_of_ble_eq_true rfl) rfl ?_
        refine ZE.aload_n d_SN_bestPrime_18 rfl ?_
        refine ZE.iload d_SN_bestPrime_19 rfl ?_
        refine ZE.cV [(0, (sev j : Int))] [] [(2, x), (0, (sev j : Int))] d_SN_bestPrime_21 l_SN_83 rfl rfl rfl rfl rfl rfl hC1.cCK.1 ?_
        refine c_canCome hC1 (by unfold zR; omega) ?_
        show ZE 11 M_SN_bestPrime (gw G1 A1) 24 [(2, x), (0, (bpF S j).1), (0, (bpF S j).2), (0, (j : Int)), (0, (sev j : Int)), (9, 0)] [(0, b2i (canB S (sev j : Int) = true))] _
        refine ZE.if_eq (tgt := 47) d_SN_bestPrime_24 rfl (zR_b2i _) (fun c24 => ?_) (fun c24 => ?_)
        · replace c24 := b2i_0.mp c24
          refine ZE.iconst (n := (-1)) d_SN_bestPrime_47 ?_
          rw [show (-1 : Int) = addV S (sev j : Int) from (if_neg c24).symm]
          refine ZE.istore (ls2 := [(2, x), (0, (bpF S j).1), (0, (bpF S j).2), (0, (j : Int)), (0, (sev j : Int)), (0, addV S (sev j : Int))]) d_SN_bestPrime_48 (Nat.le_of_ble_eq_true rfl) rfl ?_
          refine ZE.iload d_SN_bestPrime_50 rfl ?_
          refine ZE.iload_n d_SN_bestPrime_52 rfl ?_
          refine ZE.icmp_le (tgt := 62) d_SN_bestPrime_53 rfl (by unfold zR; omega) (by unfold zR; omega) (fun c53 => ?_) (fun c53 => ?_)
          · refine ZE.iinc (ls2 := [(2, x), (0, (bpF S j).1), (0, (bpF S j).2), (0, (j : Int) + 1), (0, (sev j : Int)), (0, addV S (sev j : Int))]) d_SN_bestPrime_62 rfl rfl ?_
            refine ZE.goto (tgt := 6) d_SN_bestPrime_65 rfl ?_
            refine ZE.mask [true, true, true, true, false, false] ?_
            show ZE 11 M_SN_bestPrime (gw G1 A1) 6 [(2, x), (0, (bpF S j).1), (0, (bpF S j).2), (0, (j : Int) + 1), (9, 0), (9, 0)] [] _
            have e1 : bpF S (j + 1) = bpF S j := if_pos c53
            have ih1 := ih (j + 1) G1 A1 (by omega) hC1 hT1 (by omega)
            rw [e1, show ((j + 1 : Nat) : Int) = (j : Int) + 1 by omega] at ih1
            exact ih1
          · refine ZE.iload d_SN_bestPrime_56 rfl ?_
            refine ZE.istore_n (ls2 := [(2, x), (0, (bpF S j).1), (0, addV S (sev j : Int)), (0, (j : Int)), (0, (sev j : Int)), (0, addV S (sev j : Int))]) d_SN_bestPrime_58 (Nat.le_of_ble_eq_true rfl) rfl ?_
            refine ZE.iload d_SN_bestPrime_59 rfl ?_
            refine ZE.istore_n (ls2 := [(2, x), (0, (sev j : Int)), (0, addV S (sev j : Int)), (0, (j : Int)), (0, (sev j : Int)), (0, addV S (sev j : Int))]) d_SN_bestPrime_61 (Nat.le_of_ble_eq_true rfl) rfl ?_
            refine ZE.iinc (ls2 := [(2, x), (0, (sev j : Int)), (0, addV S (sev j : Int)), (0, (j : Int) + 1), (0, (sev j : Int)), (0, addV S (sev j : Int))]) d_SN_bestPrime_62 rfl rfl ?_
            refine ZE.goto (tgt := 6) d_SN_bestPrime_65 rfl ?_
            refine ZE.mask [true, true, true, true, false, false] ?_
            show ZE 11 M_SN_bestPrime (gw G1 A1) 6 [(2, x), (0, (sev j : Int)), (0, addV S (sev j : Int)), (0, (j : Int) + 1), (9, 0), (9, 0)] [] _
            have e1 : bpF S (j + 1) = ((sev j : Int), addV S (sev j : Int)) := if_neg c53
            have ih1 := ih (j + 1) G1 A1 (by omega) hC1 hT1 (by omega)
            rw [e1, show ((j + 1 : Nat) : Int) = (j : Int) + 1 by omega] at ih1
            exact ih1
        · replace c24 := b2i_n0.mp c24
          have hoz := (orS_z hS7 c24).1
          have hq2 := (orS_z hS7 c24).2
          refine ZE.aload_n d_SN_bestPrime_27 rfl ?_
          refine ZE.getE (v := x + 1) d_SN_bestPrime_28 f_SN_12 (tg := 2) rfl hC1.cCK.1 hC1.cCF.1 ?_
          refine ZE.aload_n d_SN_bestPrime_31 rfl ?_
          refine ZE.getE (v := (S : Int)) d_SN_bestPrime_32 f_SN_72 (tg := 0) rfl hC1.cCK.1 hC1.cS.1 ?_
          refine ZE.iload d_SN_bestPrime_35 rfl ?_
          refine ZE.cS [(0, (sev j : Int))] [(0, (S : Int)), (2, x + 1)] [(0, (sev j : Int)), (9, 0)] d_SN_bestPrime_37 l_SN_87 rfl rfl rfl rfl rfl rfl ?_
          refine p_bitOf (by unfold zR; omega) hC1.cL.1 ?_
          show ZE 11 M_SN_bestPrime (gw G1 A1) 40 [(2, x), (0, (bpF S j).1), (0, (bpF S j).2), (0, (j : Int)), (0, (sev j : Int)), (9, 0)] [(0, ((if plc (sev j : Int) = -1 then 0 else 2 ^ (plc (sev j : Int)).toNat : Nat) : Int)), (0, (S : Int)), (2, x + 1)] _
          refine ZE.ior d_SN_bestPrime_40 ?_
          rw [show (zor (S : Int) ((if plc (sev j : Int) = -1 then 0 else 2 ^ (plc (sev j : Int)).toNat : Nat) : Int) : Int) = (((orS S (sev j : Int)) : Nat) : Int) from hoz]
          refine ZE.cV [(0, (((orS S (sev j : Int)) : Nat) : Int))] [] [(2, x + 1), (0, (((orS S (sev j : Int)) : Nat) : Int)), (9, 0), (9, 0)] d_SN_bestPrime_41 l_SN_279 rfl rfl rfl rfl rfl rfl hC1.cCK.2.2.1.1 ?_
          refine c_cpl hC1 (S2 := (orS S (sev j : Int))) hq2.1 hq2.2 (fun G2 A2 hB hT => ?_)
          show ZE 11 M_SN_bestPrime (gw G2 A2) 44 [(2, x), (0, (bpF S j).1), (0, (bpF S j).2), (0, (j : Int)), (0, (sev j : Int)), (9, 0)] [(0, ((prs (orS S (sev j : Int))).length : Int))] _
          refine ZE.goto (tgt := 48) d_SN_bestPrime_44 rfl ?_
          rw [show (((prs (orS S (sev j : Int))).length : Nat) : Int) = addV S (sev j : Int) from (if_pos c24).symm]
          refine ZE.istore (ls2 := [(2, x), (0, (bpF S j).1), (0, (bpF S j).2), (0, (j : Int)), (0, (sev j : Int)), (0, addV S (sev j : Int))]) d_SN_bestPrime_48 (Nat.le_of_ble_eq_true rfl) rfl ?_
          refine ZE.iload d_SN_bestPrime_50 rfl ?_
          refine ZE.iload_n d_SN_bestPrime_52 rfl ?_
          refine ZE.icmp_le (tgt := 62) d_SN_bestPrime_53 rfl (by unfold zR; omega) (by unfold zR; omega) (fun c53 => ?_) (fun c53 => ?_)
          · refine ZE.iinc (ls2 := [(2, x), (0, (bpF S j).1), (0, (bpF S j).2), (0, (j : Int) + 1), (0, (sev j : Int)), (0, addV S (sev j : Int))]) d_SN_bestPrime_62 rfl rfl ?_
            refine ZE.goto (tgt := 6) d_SN_bestPrime_65 rfl ?_
            refine ZE.mask [true, true, true, true, false, false] ?_
            show ZE 11 M_SN_bestPrime (gw G2 A2) 6 [(2, x), (0, (bpF S j).1), (0, (bpF S j).2), (0, (j : Int) + 1), (9, 0), (9, 0)] [] _
            have e1 : bpF S (j + 1) = bpF S j := if_pos c53
            have ih1 := ih (j + 1) G2 A2 (by omega) hB (hT1.tr hT) (by omega)
            rw [e1, show ((j + 1 : Nat) : Int) = (j : Int) + 1 by omega] at ih1
            exact ih1
          · refine ZE.iload d_SN_bestPrime_56 rfl ?_
            refine ZE.istore_n (ls2 := [(2, x), (0, (bpF S j).1), (0, addV S (sev j : Int)), (0, (j : Int)), (0, (sev j : Int)), (0, addV S (sev j : Int))]) d_SN_bestPrime_58 (Nat.le_of_ble_eq_true rfl) rfl ?_
            refine ZE.iload d_SN_bestPrime_59 rfl ?_
            refine ZE.istore_n (ls2 := [(2, x), (0, (sev j : Int)), (0, addV S (sev j : Int)), (0, (j : Int)), (0, (sev j : Int)), (0, addV S (sev j : Int))]) d_SN_bestPrime_61 (Nat.le_of_ble_eq_true rfl) rfl ?_
            refine ZE.iinc (ls2 := [(2, x), (0, (sev j : Int)), (0, addV S (sev j : Int)), (0, (j : Int) + 1), (0, (sev j : Int)), (0, addV S (sev j : Int))]) d_SN_bestPrime_62 rfl rfl ?_
            refine ZE.goto (tgt := 6) d_SN_bestPrime_65 rfl ?_
            refine ZE.mask [true, true, true, true, false, false] ?_
            show ZE 11 M_SN_bestPrime (gw G2 A2) 6 [(2, x), (0, (sev j : Int)), (0, addV S (sev j : Int)), (0, (j : Int) + 1), (9, 0), (9, 0)] [] _
            have e1 : bpF S (j + 1) = ((sev j : Int), addV S (sev j : Int)) := if_neg c53
            have ih1 := ih (j + 1) G2 A2 (by omega) hB (hT1.tr hT) (by omega)
            rw [e1, show ((j + 1 : Nat) : Int) = (j : Int) + 1 by omega] at ih1
            exact ih1
  exact L6 _ 0 G A (by omega) h cT.rf (Nat.lt_succ_self _)
