def lvN (S cn im : Nat) : Int := if im % 2 = 0 then -((cf (d1 S cn) (isq (d1 S cn)) (im + 1)).2.1 : Int) else ((cf (d1 S cn) (isq (d1 S cn)) (im + 1)).2.1 : Int)
def lvV (S : Nat) (c i : Int) : Int := if inC S c then (if 0 ≤ i ∧ i ≤ 2 * (rnd (d1 S c.toNat) : Int) then lvN S c.toNat i.toNat else -1000000) else -1000000
set_option maxRecDepth 20000 in
set_option maxHeartbeats 4000000 in
theorem r_leaves {d : Nat} {G : zG} {A : Int → Int → Int} {P : Option zV → zG → Prop} {o : Int} (hK : RK G o) (hF : RF A o) {S : Nat} (hR : RS S A o) (hS7 : S < 128) (hp5 : pop S ≤ 5) {c : Int} (hc : zR c) {i : Int} (hi : zR i) (k : ∀ A2, quF A A2 o → P (some (0, lvV S c i)) (gw G A2)) : ZE (d + 3) M_Ref_leaves (gw G A) 0 [(2, o), (0, c), (0, i)] [] P := by
  refine ZE.aload_n d_Ref_leaves_0 rfl ?_
  refine ZE.iload_n d_Ref_leaves_1 rfl ?_
  refine ZE.iload_n d_Ref_leaves_2 rfl ?_
  refine ZE.cV [(0, c), (0, i)] [] [(2, o), (0, c), (0, i)] d_Ref_leaves_3 l_Ref_245 rfl rfl rfl rfl rfl rfl hK.1 ?_
  refine r_isStep hK hF hR hS7 hp5 hc hi ?_
  show ZE (d + 3) M_Ref_leaves (gw G A) 6 [(2, o), (0, c), (0, i)] [(0, b2i (inC S c = true ∧ 0 ≤ i ∧ i ≤ 2 * (rnd (d1 S c.toNat) : Int)))] _
  refine ZE.if_ne (tgt := 13) d_Ref_leaves_6 rfl (zR_b2i _) (fun c6 => ?_) (fun c6 => ?_)
  · replace c6 := b2i_n0.mp c6
    obtain ⟨hc0, hi0⟩ := c6
    have hc1 := of_decide_eq_true hc0
    have hcl0 := cls_le hS7 hp5
    obtain ⟨cn, hcn⟩ : ∃ cn : Nat, c = cn := ⟨c.toNat, by omega⟩
    subst hcn
    have hok := d1_ok (S := S) (k := cn) (by omega)
    have hcl := hR.c1 cn (by omega)
    have hux9 : nd 10000 (ux (d1 S cn)) ≤ 81 := (okD_ns hok.1).2.1
    have huy9 : nd 10000 (uy (d1 S cn)) ≤ 81 := (okD_ns hok.1).2.2
    have hnx : num (A (o + 2)) (2 * (cn : Int)) (ux (d1 S cn)) := hcl.2.2.1
    have hny : num (A (o + 2)) (2 * (cn : Int) + 1) (uy (d1 S cn)) := hcl.2.2.2
    have hcf := (okD_cf hok.1).1
    have hRb := hcf.2.2.2.2.2.1
    rw [Int.toNat_natCast] at hi0
    obtain ⟨im, him⟩ : ∃ im : Nat, i = im := ⟨i.toNat, by omega⟩
    subst him
    refine ZE.aload_n d_Ref_leaves_13 rfl ?_
    refine ZE.iload_n d_Ref_leaves_14 rfl ?_
    refine ZE.iload_n d_Ref_leaves_15 rfl ?_
    refine ZE.iconst (n := 1) d_Ref_leaves_16 ?_
    refine ZE.iadd d_Ref_leaves_17 ?_
    rw [show ((im : Int) + 1 : Int) = ((im + 1 : Nat) : Int) from (by omega)]
    have hqq := hR.q1 cn (by omega)
    refine ZE.cV [(0, (cn : Int)), (0, ((im + 1 : Nat) : Int))] [] [(2, o), (0, (cn : Int)), (0, ((im + 1 : Nat) : Int)), (9, 0)] d_Ref_leaves_18 l_Ref_248 rfl rfl rfl rfl rfl rfl hK.1 ?_
    refine r_goSteps (q := rad ((csF S 1 128).getD cn 0)) (D := d1 S cn) (r := isq (d1 S cn)) (R := rnd (d1 S cn)) (K := 2 * rnd (d1 S cn) + 3) (n := im + 1) hK hF (by omega) hqq (Or.inl ⟨by omega, rfl⟩) hcl.1 hcf (by omega) (by omega) (fun A2 hg2 gg2 => ?_)
    show ZE (d + 3) M_Ref_leaves (gw G A2) 21 [(2, o), (0, (cn : Int)), (0, (im : Int))] [] _
    refine ZE.iload_n d_Ref_leaves_21 rfl ?_
    refine ZE.iconst (n := 2) d_Ref_leaves_22 ?_
    refine ZE.iremP d_Ref_leaves_23 (by omega) ?_
    refine ZE.if_ne (tgt := 35) d_Ref_leaves_24 rfl (by unfold zR; omega) (fun c24 => ?_) (fun c24 => ?_)
    · refine ZE.aload_n d_Ref_leaves_35 rfl ?_
      refine ZE.getE (v := ((cf (d1 S cn) (isq (d1 S cn)) (im + 1)).2.1 : Int)) d_Ref_leaves_36 f_Ref_122 (tg := 0) rfl hK.1 hg2.2.1 ?_
      refine ZE.iret d_Ref_leaves_39 rfl ?_
      have k1 := k A2 gg2.qu
      rw [show lvV S (cn : Int) (im : Int) = ((cf (d1 S cn) (isq (d1 S cn)) (im + 1)).2.1 : Int) by unfold lvV; rw [if_pos hc0, Int.toNat_natCast, if_pos hi0, Int.toNat_natCast]; exact if_neg (by omega)] at k1
      exact k1
    · refine ZE.aload_n d_Ref_leaves_27 rfl ?_
      refine ZE.getE (v := ((cf (d1 S cn) (isq (d1 S cn)) (im + 1)).2.1 : Int)) d_Ref_leaves_28 f_Ref_122 (tg := 0) rfl hK.1 hg2.2.1 ?_
      refine ZE.ineg d_Ref_leaves_31 ?_
      refine ZE.goto (tgt := 39) d_Ref_leaves_32 rfl ?_
      refine ZE.iret d_Ref_leaves_39 rfl ?_
      have k1 := k A2 gg2.qu
      rw [show lvV S (cn : Int) (im : Int) = -((cf (d1 S cn) (isq (d1 S cn)) (im + 1)).2.1 : Int) by unfold lvV; rw [if_pos hc0, Int.toNat_natCast, if_pos hi0, Int.toNat_natCast]; exact if_pos (by omega)] at k1
      exact k1
  · replace c6 := b2i_0.mp c6
    refine ZE.ldcw (v := (-1000000)) d_Ref_leaves_9 (by rw [show Int32.ofInt (-1000000) = (-1000000 : Int32) from by decide]; exact k_Ref_330) ?_
    refine ZE.iret d_Ref_leaves_12 rfl ?_
    have k1 := k A quF.rf
    rw [show lvV S c i = -1000000 from ?_] at k1
    · exact k1
    · unfold lvV
      split
      · next h => rw [if_neg (fun q => c6 ⟨h, q⟩)]
      · rfl
