set_option maxRecDepth 20000 in
set_option maxHeartbeats 4000000 in
theorem j_dIsNaN {d : Nat} {G : zG} {A : Int → Int → Int} {P : Option zV → zG → Prop} {u : Int} {c : Nat} {q : Int} (hu : FP.Core.decode FP.Core.b64 (zd u).toNat = .fin false c q) (k : P (some (0, 0)) (gw G A)) : ZE d M_JDou_isNaN (gw G A) 0 [(4, u), (9, 0)] [] P := by
  refine ZE.dload_n d_JDou_isNaN_0 rfl ?_
  refine ZE.dload_n d_JDou_isNaN_1 rfl ?_
  refine ZE.dcmp d_JDou_isNaN_2 ?_
  rw [show ((Op.cmpValue (FP.dcmp (zd u) (zd u)) .l).toInt : Int) = 0 from (by rw [dcmp_fin hu]; rfl)]
  refine ZE.if_eq (tgt := 10) d_JDou_isNaN_3 rfl (by unfold zR; omega) (fun c3 => ?_) (fun c3 => ?_)
  · refine ZE.iconst (n := 0) d_JDou_isNaN_10 ?_
    refine ZE.zret d_JDou_isNaN_11 rfl (by omega) ?_
    exact k
  · exact absurd c3 (by decide)
set_option maxRecDepth 20000 in
set_option maxHeartbeats 4000000 in
theorem j_dBits {d : Nat} {G : zG} {A : Int → Int → Int} {P : Option zV → zG → Prop} {u : Int} {c : Nat} {q : Int} (hu : FP.Core.decode FP.Core.b64 (zd u).toNat = .fin false c q) (h0 : 0 ≤ u) (k : P (some (1, u)) (gw G A)) : ZE (d + 1) M_JDou_doubleToLongBits (gw G A) 0 [(4, u), (9, 0)] [] P := by
  refine ZE.dload_n d_JDou_doubleToLongBits_0 rfl ?_
  refine ZE.cS [(4, u)] [] [(4, u), (9, 0)] d_JDou_doubleToLongBits_1 l_JDou_122 rfl rfl rfl rfl rfl rfl ?_
  refine j_dIsNaN hu ?_
  show ZE (d + 1) M_JDou_doubleToLongBits (gw G A) 4 [(4, u), (9, 0)] [(0, 0)] _
  refine ZE.if_ne (tgt := 12) d_JDou_doubleToLongBits_4 rfl (by unfold zR; omega) (fun c4 => ?_) (fun c4 => ?_)
  · exact absurd c4 (by decide)
  · refine ZE.dload_n d_JDou_doubleToLongBits_7 rfl ?_
    refine ZE.rawD d_JDou_doubleToLongBits_8 x_JDou_134 m_JDou_isNaN.2.1 h0 (by decide) ?_
    refine ZE.lret d_JDou_doubleToLongBits_11 rfl ?_
    exact k
set_option maxRecDepth 20000 in
set_option maxHeartbeats 4000000 in
theorem r_thick {d : Nat} {G : zG} {A : Int → Int → Int} {P : Option zV → zG → Prop} {o : Int} (hK : RK G o) (hF : RF A o) {S : Nat} (hR : RS S A o) (hS7 : S < 128) (hp5 : pop S ≤ 5) {n : Int} (hn : zR n) (k : P (some (1, tcV S n)) (gw G A)) : ZE (d + 3) M_Ref_thick (gw G A) 0 [(2, o), (0, n)] [] P := by
  refine ZE.iload_n d_Ref_thick_0 rfl ?_
  refine ZE.i2l d_Ref_thick_1 hn ?_
  refine ZE.lconst d_Ref_thick_2 ?_
  show ZE (d + 3) M_Ref_thick (gw G A) 3 [(2, o), (0, n)] [(1, 1), (1, n)] _
  refine ZE.ldc2 (v := 200000) d_Ref_thick_3 k_Ref_311 ?_
  refine ZE.cS [(1, n), (1, 1), (1, 200000)] [] [(1, n), (9, 0), (1, 1), (9, 0), (1, 200000), (9, 0)] d_Ref_thick_6 l_Ref_111 rfl rfl rfl rfl rfl rfl ?_
  refine r_isIn (by unfold zR at hn; unfold zR64; omega) (by unfold zR64; omega) (by unfold zR64; omega) ?_
  show ZE (d + 3) M_Ref_thick (gw G A) 9 [(2, o), (0, n)] [(0, b2i (1 ≤ n ∧ n ≤ 200000))] _
  refine ZE.if_eq (tgt := 27) d_Ref_thick_9 rfl (zR_b2i _) (fun c9 => ?_) (fun c9 => ?_)
  · replace c9 := b2i_0.mp c9
    refine ZE.lconst d_Ref_thick_27 ?_
    show ZE (d + 3) M_Ref_thick (gw G A) 28 [(2, o), (0, n)] [(1, 0)] _
    refine ZE.lret d_Ref_thick_28 rfl ?_
    rw [show tcV S n = 0 from if_neg c9] at k
    exact k
  · replace c9 := b2i_n0.mp c9
    obtain ⟨nn, hnn⟩ : ∃ nn : Nat, n = nn := ⟨n.toNat, by omega⟩
    subst hnn
    have hs1 : 0 < smC S nn := cnt_pos (smB_1 S hS7) nn (by omega)
    have hs2 : smC S nn ≤ nn := cnt_le _ nn
    have hdv := dvN_ok hs1 hs2 (by omega)
    refine ZE.aload_n d_Ref_thick_12 rfl ?_
    refine ZE.iload_n d_Ref_thick_13 rfl ?_
    refine ZE.cV [(0, (nn : Int))] [] [(2, o), (0, (nn : Int)), (9, 0), (9, 0)] d_Ref_thick_14 l_Ref_313 rfl rfl rfl rfl rfl rfl hK.1 ?_
    refine r_smoothMany (n := nn) hK hF hR hS7 hp5 (by omega) ?_
    show ZE (d + 3) M_Ref_thick (gw G A) 17 [(2, o), (0, (nn : Int))] [(0, (smC S nn : Int))] _
    refine ZE.i2d d_Ref_thick_17 ?_
    refine ZE.iload_n d_Ref_thick_18 rfl ?_
    refine ZE.i2d d_Ref_thick_19 ?_
    refine ZE.ddiv d_Ref_thick_20 (by rw [zd_dI, zd_dI]; exact hdv.1) ?_
    rw [show (dI (FP.ddiv (zd (dI (FP.i2d (Int32.ofInt (smC S nn : Int))))) (zd (dI (FP.i2d (Int32.ofInt (nn : Int)))))) : Int) = dvN (smC S nn) nn from (by rw [zd_dI, zd_dI]; rfl)]
    refine ZE.cS [(4, dvN (smC S nn) nn)] [] [(4, dvN (smC S nn) nn), (9, 0)] d_Ref_thick_21 l_Ref_418 rfl rfl rfl rfl rfl rfl ?_
    refine j_dBits hdv.2.2.choose_spec.choose_spec hdv.2.1.1 ?_
    show ZE (d + 3) M_Ref_thick (gw G A) 24 [(2, o), (0, (nn : Int))] [(1, dvN (smC S nn) nn)] _
    refine ZE.goto (tgt := 28) d_Ref_thick_24 rfl ?_
    refine ZE.lret d_Ref_thick_28 rfl ?_
    rw [show tcV S (nn : Int) = dvN (smC S nn) nn by unfold tcV; rw [if_pos (by omega), Int.toNat_natCast]] at k
    exact k
set_option maxRecDepth 20000 in
set_option maxHeartbeats 4000000 in
theorem j_fIsNaN {d : Nat} {G : zG} {A : Int → Int → Int} {P : Option zV → zG → Prop} {u : UInt32} (hu : FP.fcmp u u = some .eq) (k : P (some (0, 0)) (gw G A)) : ZE d M_JFlo_isNaN (gw G A) 0 [(3, fI u)] [] P := by
  refine ZE.fload_n d_JFlo_isNaN_0 rfl ?_
  refine ZE.fload_n d_JFlo_isNaN_1 rfl ?_
  refine ZE.fcmp d_JFlo_isNaN_2 ?_
  rw [show ((Op.cmpValue (FP.fcmp (zf (fI u)) (zf (fI u))) .l).toInt : Int) = 0 from (by rw [zf_fI, hu]; rfl)]
  refine ZE.if_eq (tgt := 10) d_JFlo_isNaN_3 rfl (by unfold zR; omega) (fun c3 => ?_) (fun c3 => ?_)
  · refine ZE.iconst (n := 0) d_JFlo_isNaN_10 ?_
    refine ZE.zret d_JFlo_isNaN_11 rfl (by omega) ?_
    exact k
  · exact absurd c3 (by decide)
set_option maxRecDepth 20000 in
set_option maxHeartbeats 4000000 in
theorem j_fBits {d : Nat} {G : zG} {A : Int → Int → Int} {P : Option zV → zG → Prop} {u : UInt32} (hu : FP.fcmp u u = some .eq) (k : P (some (0, fI u)) (gw G A)) : ZE (d + 1) M_JFlo_floatToIntBits (gw G A) 0 [(3, fI u)] [] P := by
  refine ZE.fload_n d_JFlo_floatToIntBits_0 rfl ?_
  refine ZE.cS [(3, fI u)] [] [(3, fI u)] d_JFlo_floatToIntBits_1 l_JFlo_59 rfl rfl rfl rfl rfl rfl ?_
  refine j_fIsNaN hu ?_
  show ZE (d + 1) M_JFlo_floatToIntBits (gw G A) 4 [(3, fI u)] [(0, 0)] _
  refine ZE.if_ne (tgt := 12) d_JFlo_floatToIntBits_4 rfl (by unfold zR; omega) (fun c4 => ?_) (fun c4 => ?_)
  · exact absurd c4 (by decide)
  · refine ZE.fload_n d_JFlo_floatToIntBits_7 rfl ?_
    refine ZE.rawF d_JFlo_floatToIntBits_8 x_JFlo_74 m_JFlo_isNaN.2.1 (Int.natCast_nonneg _) (by decide) ?_
    refine ZE.iret d_JFlo_floatToIntBits_11 rfl ?_
    exact k
set_option maxRecDepth 20000 in
set_option maxHeartbeats 4000000 in
theorem r_meanLength {d : Nat} {G : zG} {A : Int → Int → Int} {P : Option zV → zG → Prop} {o : Int} (hK : RK G o) (hF : RF A o) {S : Nat} (hR : RS S A o) (hS7 : S < 128) (hp5 : pop S ≤ 5) (k : P (some (0, mlV S)) (gw G A)) : ZE (d + 2) M_Ref_meanLength (gw G A) 0 [(2, o), (9, 0), (9, 0)] [] P := by
  have hpl := prs_288 hS7 hp5
  have hcl := cls_le hS7 hp5
  refine ZE.iconst (n := 0) d_Ref_meanLength_0 ?_
  refine ZE.istore_n (ls2 := [(2, o), (0, 0), (9, 0)]) d_Ref_meanLength_1 (Nat.le_of_ble_eq_true rfl) rfl ?_
  refine ZE.iconst (n := 0) d_Ref_meanLength_2 ?_
  refine ZE.istore_n (ls2 := [(2, o), (0, 0), (0, 0)]) d_Ref_meanLength_3 (Nat.le_of_ble_eq_true rfl) rfl ?_
  have L4 : ∀ (t : Nat) (j : Nat) (hj : j ≤ (prs S).length), (prs S).length - j < t → ZE (d + 2) M_Ref_meanLength (gw G A) 4 [(2, o), (0, (sumF (fun k => dl (pN S k)) j : Int)), (0, (j : Int))] [] P := by
    intro t
    induction t with
    | zero => intro j hj hm; exact absurd hm (Nat.not_lt_zero _)
    | succ t ih =>
      intro j hj hm
      refine ZE.iload_n d_Ref_meanLength_4 rfl ?_
      refine ZE.aload_n d_Ref_meanLength_5 rfl ?_
      refine ZE.getE (v := ((prs S).length : Int)) d_Ref_meanLength_6 f_Ref_167 (tg := 0) rfl hK.1 hR.np ?_
      refine ZE.icmp_ge (tgt := 30) d_Ref_meanLength_9 rfl (by unfold zR; omega) (by unfold zR; omega) (fun c9 => ?_) (fun c9 => ?_)
      · have e1 : j = (prs S).length := by omega
        refine ZE.aload_n d_Ref_meanLength_30 rfl ?_
        refine ZE.getE (v := ((prs S).length : Int)) d_Ref_meanLength_31 f_Ref_167 (tg := 0) rfl hK.1 hR.np ?_
        refine ZE.if_ne (tgt := 41) d_Ref_meanLength_34 rfl (by unfold zR; omega) (fun c34 => ?_) (fun c34 => ?_)
        · have hml := mlU_ok hS7 hp5 (by omega)
          refine ZE.iload_n d_Ref_meanLength_41 rfl ?_
          refine ZE.i2f d_Ref_meanLength_42 ?_
          refine ZE.aload_n d_Ref_meanLength_43 rfl ?_
          refine ZE.getE (v := ((prs S).length : Int)) d_Ref_meanLength_44 f_Ref_167 (tg := 0) rfl hK.1 hR.np ?_
          refine ZE.i2f d_Ref_meanLength_47 ?_
          refine ZE.fdiv d_Ref_meanLength_48 (by rw [zf_fI, zf_fI, e1]; exact hml.1) ?_
          rw [show (fI (FP.fdiv (zf (fI (FP.i2f (Int32.ofInt (sumF (fun k => dl (pN S k)) j : Int))))) (zf (fI (FP.i2f (Int32.ofInt ((prs S).length : Int)))))) : Int) = fI (mlU S) from (by rw [zf_fI, zf_fI, e1]; rfl)]
          refine ZE.cS [(3, fI (mlU S))] [] [(3, fI (mlU S))] d_Ref_meanLength_49 l_Ref_412 rfl rfl rfl rfl rfl rfl ?_
          refine j_fBits hml.2 ?_
          show ZE (d + 2) M_Ref_meanLength (gw G A) 52 [(2, o), (0, (sumF (fun k => dl (pN S k)) j : Int)), (0, (j : Int))] [(0, fI (mlU S))] _
          refine ZE.iret d_Ref_meanLength_52 rfl ?_
          rw [show mlV S = fI (mlU S) from if_neg (by omega)] at k
          exact k
        · refine ZE.iconst (n := 0) d_Ref_meanLength_37 ?_
          refine ZE.goto (tgt := 52) d_Ref_meanLength_38 rfl ?_
          refine ZE.iret d_Ref_meanLength_52 rfl ?_
          rw [show mlV S = 0 from if_pos (by omega)] at k
          exact k
      · refine ZE.iload_n d_Ref_meanLength_12 rfl ?_
        refine ZE.aload_n d_Ref_meanLength_13 rfl ?_
        refine ZE.getE (v := o + 7) d_Ref_meanLength_14 f_Ref_28 (tg := 2) rfl hK.1 hF.a12 ?_
        refine ZE.iload_n d_Ref_meanLength_17 rfl ?_
        have hQ := prs_ok hS7 hp5 (k := j) (by omega)
        have hQ1 : 1 ≤ pN S j ∧ pN S j < 1000000000 := ⟨hQ.1, hQ.2.1⟩
        refine ZE.ialdE (v := (pN S j : Int)) d_Ref_meanLength_18 hK.k7 (by have hn0 := hK.n7; show 0 ≤ (j : Int) ∧ (j : Int) < gn G (o + 7); omega) (hR.p j (by omega)).1 ?_
        refine ZE.cS [(0, (pN S j : Int))] [(0, (sumF (fun k => dl (pN S k)) j : Int))] [(0, (pN S j : Int)), (9, 0), (9, 0)] d_Ref_meanLength_19 l_Ref_105 rfl rfl rfl rfl rfl rfl ?_
        refine r_digitsOf (s := pN S j) (by omega) ?_
        show ZE (d + 2) M_Ref_meanLength (gw G A) 22 [(2, o), (0, (sumF (fun k => dl (pN S k)) j : Int)), (0, (j : Int))] [(0, (dl (pN S j) : Int)), (0, (sumF (fun k => dl (pN S k)) j : Int))] _
        refine ZE.iadd d_Ref_meanLength_22 ?_
        refine ZE.istore_n (ls2 := [(2, o), (0, (sumF (fun k => dl (pN S k)) j : Int) + (dl (pN S j) : Int)), (0, (j : Int))]) d_Ref_meanLength_23 (Nat.le_of_ble_eq_true rfl) rfl ?_
        refine ZE.iinc (ls2 := [(2, o), (0, (sumF (fun k => dl (pN S k)) j : Int) + (dl (pN S j) : Int)), (0, (j : Int) + 1)]) d_Ref_meanLength_24 rfl rfl ?_
        refine ZE.goto (tgt := 4) d_Ref_meanLength_27 rfl ?_
        rw [show (sumF (fun k => dl (pN S k)) j : Int) + (dl (pN S j) : Int) = (sumF (fun k => dl (pN S k)) (j + 1) : Int) from by show _ = ((sumF (fun k => dl (pN S k)) j + dl (pN S j) : Nat) : Int); omega, show (j : Int) + 1 = ((j + 1 : Nat) : Int) by omega]
        exact ih (j + 1) (by omega) (by omega)
  exact L4 _ 0 (by omega) (Nat.lt_succ_self _)
