def miV (S : Nat) (c : Int) : Int := if inC S c then (if rnd (d1 S c.toNat) % 2 = 1 then -1 else ((cf (d1 S c.toNat) (isq (d1 S c.toNat)) (rnd (d1 S c.toNat) / 2)).2.1 : Int)) else -1
def dgN (v : Nat) (i : Int) : Int := if 0 ≤ i ∧ i < dl v then (dg 10 v i.toNat : Int) else -1
def haV (S : Nat) (c wh i : Int) : Int := if inC S c then (if rnd (d1 S c.toNat) % 2 = 1 ∧ 0 ≤ wh ∧ wh ≤ 1 then (if wh = 0 then dgN (hfp (d1 S c.toNat) (isq (d1 S c.toNat)) (rnd (d1 S c.toNat))) i else dgN (hfr (d1 S c.toNat) (isq (d1 S c.toNat)) (rnd (d1 S c.toNat))) i) else -1) else -1
set_option maxRecDepth 20000 in
set_option maxHeartbeats 4000000 in
theorem r_middle {d : Nat} {G : zG} {A : Int → Int → Int} {P : Option zV → zG → Prop} {o : Int} (hK : RK G o) (hF : RF A o) {S : Nat} (hR : RS S A o) (hS7 : S < 128) (hp5 : pop S ≤ 5) {c : Int} (hc : zR c) (k : ∀ A2, quF A A2 o → P (some (0, miV S c)) (gw G A2)) : ZE (d + 3) M_Ref_middle (gw G A) 0 [(2, o), (0, c)] [] P := by
  refine ZE.aload_n d_Ref_middle_0 rfl ?_
  refine ZE.iload_n d_Ref_middle_1 rfl ?_
  have hcl0 := cls_le hS7 hp5
  refine ZE.cV [(0, c)] [] [(2, o), (0, c)] d_Ref_middle_2 l_Ref_242 rfl rfl rfl rfl rfl rfl hK.1 ?_
  refine r_isClass (m := (csF S 1 128).length) hK hF hR.n1 (by omega) hc ?_
  show ZE (d + 3) M_Ref_middle (gw G A) 5 [(2, o), (0, c)] [(0, b2i (0 ≤ c ∧ c < ((csF S 1 128).length : Int)))] _
  refine ZE.if_eq (tgt := 16) d_Ref_middle_5 rfl (zR_b2i _) (fun c5 => ?_) (fun c5 => ?_)
  · replace c5 := b2i_0.mp c5
    refine ZE.iconst (n := (-1)) d_Ref_middle_16 ?_
    refine ZE.iret d_Ref_middle_17 rfl ?_
    have e0 : inC S c = false := decide_eq_false c5
    have k1 := k A quF.rf
    rw [show miV S c = -1 by unfold miV; rw [e0]; rfl] at k1
    exact k1
  · replace c5 := b2i_n0.mp c5
    obtain ⟨cn, hcn⟩ : ∃ cn : Nat, c = cn := ⟨c.toNat, by omega⟩
    subst hcn
    have hok := d1_ok (S := S) (k := cn) (by omega)
    have hcl := hR.c1 cn (by omega)
    have hux9 : nd 10000 (ux (d1 S cn)) ≤ 81 := (okD_ns hok.1).2.1
    have huy9 : nd 10000 (uy (d1 S cn)) ≤ 81 := (okD_ns hok.1).2.2
    have hnx : num (A (o + 2)) (2 * (cn : Int)) (ux (d1 S cn)) := hcl.2.2.1
    have hny : num (A (o + 2)) (2 * (cn : Int) + 1) (uy (d1 S cn)) := hcl.2.2.2
    have hcf := (okD_cf hok.1).1
    have hRb := hcf.2.2.2.2.2.1
    refine ZE.aload_n d_Ref_middle_8 rfl ?_
    refine ZE.iload_n d_Ref_middle_9 rfl ?_
    refine ZE.cV [(0, (cn : Int))] [] [(2, o), (0, (cn : Int))] d_Ref_middle_10 l_Ref_160 rfl rfl rfl rfl rfl rfl hK.1 ?_
    refine r_isNegative (c := (cn : Int)) (R := rnd (d1 S cn)) hK hF (by omega) hcl.2.1 hRb ?_
    show ZE (d + 3) M_Ref_middle (gw G A) 13 [(2, o), (0, (cn : Int))] [(0, b2i (rnd (d1 S cn) % 2 = 1))] _
    refine ZE.if_eq (tgt := 18) d_Ref_middle_13 rfl (zR_b2i _) (fun c13 => ?_) (fun c13 => ?_)
    · replace c13 := b2i_0.mp c13
      refine ZE.aload_n d_Ref_middle_18 rfl ?_
      refine ZE.iload_n d_Ref_middle_19 rfl ?_
      refine ZE.aload_n d_Ref_middle_20 rfl ?_
      refine ZE.getE (v := o + 5) d_Ref_middle_21 f_Ref_22 (tg := 2) rfl hK.1 hF.a5 ?_
      refine ZE.iload_n d_Ref_middle_24 rfl ?_
      refine ZE.ialdE (v := (rnd (d1 S cn) : Int)) d_Ref_middle_25 hK.k5 (by have hn0 := hK.n5; show 0 ≤ (cn : Int) ∧ (cn : Int) < gn G (o + 5); omega) hcl.2.1 ?_
      refine ZE.iconst (n := 2) d_Ref_middle_26 ?_
      refine ZE.idivP d_Ref_middle_27 (by omega) ?_
      rw [show ((rnd (d1 S cn) : Int) / 2 : Int) = ((rnd (d1 S cn) / 2 : Nat) : Int) from (by omega)]
      have hqq := hR.q1 cn (by omega)
      refine ZE.cV [(0, (cn : Int)), (0, ((rnd (d1 S cn) / 2 : Nat) : Int))] [] [(2, o), (0, (cn : Int)), (0, ((rnd (d1 S cn) / 2 : Nat) : Int)), (9, 0)] d_Ref_middle_28 l_Ref_248 rfl rfl rfl rfl rfl rfl hK.1 ?_
      refine r_goSteps (q := rad ((csF S 1 128).getD cn 0)) (D := d1 S cn) (r := isq (d1 S cn)) (R := rnd (d1 S cn)) (K := 2 * rnd (d1 S cn) + 3) (n := rnd (d1 S cn) / 2) hK hF (by omega) hqq (Or.inl ⟨by omega, rfl⟩) hcl.1 hcf (by omega) (by omega) (fun A2 hg2 gg2 => ?_)
      show ZE (d + 3) M_Ref_middle (gw G A2) 31 [(2, o), (0, (cn : Int))] [] _
      refine ZE.aload_n d_Ref_middle_31 rfl ?_
      refine ZE.getE (v := ((cf (d1 S cn) (isq (d1 S cn)) (rnd (d1 S cn) / 2)).2.1 : Int)) d_Ref_middle_32 f_Ref_122 (tg := 0) rfl hK.1 hg2.2.1 ?_
      refine ZE.iret d_Ref_middle_35 rfl ?_
      have e0 : inC S (cn : Int) = true := decide_eq_true (by omega)
      have k1 := k A2 gg2.qu
      rw [show miV S (cn : Int) = ((cf (d1 S cn) (isq (d1 S cn)) (rnd (d1 S cn) / 2)).2.1 : Int) by unfold miV; rw [if_pos e0, Int.toNat_natCast, if_neg c13]] at k1
      exact k1
    · replace c13 := b2i_n0.mp c13
      refine ZE.iconst (n := (-1)) d_Ref_middle_16 ?_
      refine ZE.iret d_Ref_middle_17 rfl ?_
      have e0 : inC S (cn : Int) = true := decide_eq_true (by omega)
      have k1 := k A quF.rf
      rw [show miV S (cn : Int) = -1 by unfold miV; rw [if_pos e0, Int.toNat_natCast, if_pos c13]] at k1
      exact k1
set_option maxRecDepth 20000 in
set_option maxHeartbeats 4000000 in
theorem r_half {d : Nat} {G : zG} {A : Int → Int → Int} {P : Option zV → zG → Prop} {o : Int} (hK : RK G o) (hF : RF A o) {S : Nat} (hR : RS S A o) (hS7 : S < 128) (hp5 : pop S ≤ 5) {c : Int} (hc : zR c) {wh i : Int} (hw : zR wh) (hi : zR i) (k : ∀ A2, quF A A2 o → P (some (0, haV S c wh i)) (gw G A2)) : ZE (d + 4) M_Ref_half (gw G A) 0 [(2, o), (0, c), (0, wh), (0, i)] [] P := by
  refine ZE.aload_n d_Ref_half_0 rfl ?_
  refine ZE.iload_n d_Ref_half_1 rfl ?_
  have hcl0 := cls_le hS7 hp5
  refine ZE.cV [(0, c)] [] [(2, o), (0, c)] d_Ref_half_2 l_Ref_242 rfl rfl rfl rfl rfl rfl hK.1 ?_
  refine r_isClass (m := (csF S 1 128).length) hK hF hR.n1 (by omega) hc ?_
  show ZE (d + 4) M_Ref_half (gw G A) 5 [(2, o), (0, c), (0, wh), (0, i)] [(0, b2i (0 ≤ c ∧ c < ((csF S 1 128).length : Int)))] _
  refine ZE.if_eq (tgt := 26) d_Ref_half_5 rfl (zR_b2i _) (fun c5 => ?_) (fun c5 => ?_)
  · replace c5 := b2i_0.mp c5
    refine ZE.iconst (n := (-1)) d_Ref_half_26 ?_
    refine ZE.iret d_Ref_half_27 rfl ?_
    have e0 : inC S c = false := decide_eq_false c5
    have k1 := k A quF.rf
    rw [show haV S c wh i = -1 by unfold haV; rw [e0]; rfl] at k1
    exact k1
  · replace c5 := b2i_n0.mp c5
    obtain ⟨cn, hcn⟩ : ∃ cn : Nat, c = cn := ⟨c.toNat, by omega⟩
    subst hcn
    have hok := d1_ok (S := S) (k := cn) (by omega)
    have hcl := hR.c1 cn (by omega)
    have hux9 : nd 10000 (ux (d1 S cn)) ≤ 81 := (okD_ns hok.1).2.1
    have huy9 : nd 10000 (uy (d1 S cn)) ≤ 81 := (okD_ns hok.1).2.2
    have hnx : num (A (o + 2)) (2 * (cn : Int)) (ux (d1 S cn)) := hcl.2.2.1
    have hny : num (A (o + 2)) (2 * (cn : Int) + 1) (uy (d1 S cn)) := hcl.2.2.2
    have hcf := (okD_cf hok.1).1
    have hRb := hcf.2.2.2.2.2.1
    refine ZE.aload_n d_Ref_half_8 rfl ?_
    refine ZE.iload_n d_Ref_half_9 rfl ?_
    refine ZE.cV [(0, (cn : Int))] [] [(2, o), (0, (cn : Int))] d_Ref_half_10 l_Ref_160 rfl rfl rfl rfl rfl rfl hK.1 ?_
    refine r_isNegative (c := (cn : Int)) (R := rnd (d1 S cn)) hK hF (by omega) hcl.2.1 hRb ?_
    show ZE (d + 4) M_Ref_half (gw G A) 13 [(2, o), (0, (cn : Int)), (0, wh), (0, i)] [(0, b2i (rnd (d1 S cn) % 2 = 1))] _
    refine ZE.if_eq (tgt := 26) d_Ref_half_13 rfl (zR_b2i _) (fun c13 => ?_) (fun c13 => ?_)
    · replace c13 := b2i_0.mp c13
      refine ZE.iconst (n := (-1)) d_Ref_half_26 ?_
      refine ZE.iret d_Ref_half_27 rfl ?_
      have e0 : inC S (cn : Int) = true := decide_eq_true (by omega)
      have k1 := k A quF.rf
      rw [show haV S (cn : Int) wh i = -1 by unfold haV; rw [if_pos e0, Int.toNat_natCast]; exact if_neg (fun q => by first | exact c13 q.1 | exact c23 q.2)] at k1
      exact k1
    · replace c13 := b2i_n0.mp c13
      refine ZE.iload_n d_Ref_half_16 rfl ?_
      refine ZE.i2l d_Ref_half_17 hw ?_
      refine ZE.lconst d_Ref_half_18 ?_
      show ZE (d + 4) M_Ref_half (gw G A) 19 [(2, o), (0, (cn : Int)), (0, wh), (0, i)] [(1, 0), (1, wh)] _
      refine ZE.lconst d_Ref_half_19 ?_
      show ZE (d + 4) M_Ref_half (gw G A) 20 [(2, o), (0, (cn : Int)), (0, wh), (0, i)] [(1, 1), (1, 0), (1, wh)] _
      refine ZE.cS [(1, wh), (1, 0), (1, 1)] [] [(1, wh), (9, 0), (1, 0), (9, 0), (1, 1), (9, 0)] d_Ref_half_20 l_Ref_111 rfl rfl rfl rfl rfl rfl ?_
      refine r_isIn (by unfold zR at hw; unfold zR64; omega) (by unfold zR64; omega) (by unfold zR64; omega) ?_
      show ZE (d + 4) M_Ref_half (gw G A) 23 [(2, o), (0, (cn : Int)), (0, wh), (0, i)] [(0, b2i (0 ≤ wh ∧ wh ≤ 1))] _
      refine ZE.if_ne (tgt := 28) d_Ref_half_23 rfl (zR_b2i _) (fun c23 => ?_) (fun c23 => ?_)
      · replace c23 := b2i_n0.mp c23
        refine ZE.aload_n d_Ref_half_28 rfl ?_
        refine ZE.iload_n d_Ref_half_29 rfl ?_
        refine ZE.sipush (n := 129) d_Ref_half_30 rfl ?_
        refine ZE.sipush (n := 130) d_Ref_half_33 rfl ?_
        have hqq := hR.q1 cn (by omega)
        have hns := (okD_ns hok.1).1
        refine ZE.cV [(0, (cn : Int)), (0, 129), (0, 130)] [] [(2, o), (0, (cn : Int)), (0, 129), (0, 130), (9, 0)] d_Ref_half_36 l_Ref_156 rfl rfl rfl rfl rfl rfl hK.1 ?_
        refine r_layNearing (q := rad ((csF S 1 128).getD cn 0)) (D := d1 S cn) (r := isq (d1 S cn)) (R := rnd (d1 S cn)) (K := 2 * rnd (d1 S cn) + 3) (sx := 129) (sy := 130) hK hF (by omega) hqq (Or.inl ⟨by omega, rfl⟩) hcl.1 hcf hcl.2.1 (by omega) (by omega) (by omega) (fun j hj => by have := hns.1 j hj; omega) (fun A2 n1 n2 g2 => ?_)
        show ZE (d + 4) M_Ref_half (gw G A2) 39 [(2, o), (0, (cn : Int)), (0, wh), (0, i)] [] _
        refine ZE.aload_n d_Ref_half_39 rfl ?_
        refine ZE.iload_n d_Ref_half_40 rfl ?_
        refine ZE.if_ne (tgt := 50) d_Ref_half_41 rfl (by unfold zR; omega) (fun c41 => ?_) (fun c41 => ?_)
        · refine ZE.sipush (n := 130) d_Ref_half_50 rfl ?_
          refine ZE.iload_n d_Ref_half_53 rfl ?_
          have hA2 : RF A2 o := hF.big g2
          refine ZE.cV [(0, 130), (0, i)] [] [(2, o), (0, 130), (0, i)] d_Ref_half_54 l_Ref_251 rfl rfl rfl rfl rfl rfl hK.1 ?_
          refine r_digitAt (v := hfr (d1 S cn) (isq (d1 S cn)) (rnd (d1 S cn))) hK hA2 (by omega) n2 (by have h1 := (hns.1 (rnd (d1 S cn) - 1) (by have := hcf.2.1; omega)); have h2 : nd 10000 (hfr (d1 S cn) (isq (d1 S cn)) (rnd (d1 S cn))) ≤ 50 := h1.2.2.1; omega) hi ?_
          show ZE (d + 4) M_Ref_half (gw G A2) 57 [(2, o), (0, (cn : Int)), (0, wh), (0, i)] [(0, if 0 ≤ i ∧ i < dl (hfr (d1 S cn) (isq (d1 S cn)) (rnd (d1 S cn))) then (dg 10 (hfr (d1 S cn) (isq (d1 S cn)) (rnd (d1 S cn))) i.toNat : Int) else -1)] _
          refine ZE.iret d_Ref_half_57 rfl ?_
          have e0 : inC S (cn : Int) = true := decide_eq_true (by omega)
          have k1 := k A2 (g2.sub (fun n h => by omega)).qu
          rw [show haV S (cn : Int) wh i = dgN (hfr (d1 S cn) (isq (d1 S cn)) (rnd (d1 S cn))) i by unfold haV; rw [if_pos e0, Int.toNat_natCast, if_pos ⟨c13, c23⟩]; exact if_neg (by omega)] at k1
          exact k1
        · refine ZE.sipush (n := 129) d_Ref_half_44 rfl ?_
          refine ZE.goto (tgt := 53) d_Ref_half_47 rfl ?_
          refine ZE.iload_n d_Ref_half_53 rfl ?_
          have hA2 : RF A2 o := hF.big g2
          refine ZE.cV [(0, 129), (0, i)] [] [(2, o), (0, 129), (0, i)] d_Ref_half_54 l_Ref_251 rfl rfl rfl rfl rfl rfl hK.1 ?_
          refine r_digitAt (v := hfp (d1 S cn) (isq (d1 S cn)) (rnd (d1 S cn))) hK hA2 (by omega) n1 (by have h1 := (hns.1 (rnd (d1 S cn) - 1) (by have := hcf.2.1; omega)); have h2 : nd 10000 (hfp (d1 S cn) (isq (d1 S cn)) (rnd (d1 S cn))) ≤ 50 := h1.1; omega) hi ?_
          show ZE (d + 4) M_Ref_half (gw G A2) 57 [(2, o), (0, (cn : Int)), (0, wh), (0, i)] [(0, if 0 ≤ i ∧ i < dl (hfp (d1 S cn) (isq (d1 S cn)) (rnd (d1 S cn))) then (dg 10 (hfp (d1 S cn) (isq (d1 S cn)) (rnd (d1 S cn))) i.toNat : Int) else -1)] _
          refine ZE.iret d_Ref_half_57 rfl ?_
          have e0 : inC S (cn : Int) = true := decide_eq_true (by omega)
          have k1 := k A2 (g2.sub (fun n h => by omega)).qu
          rw [show haV S (cn : Int) wh i = dgN (hfp (d1 S cn) (isq (d1 S cn)) (rnd (d1 S cn))) i by unfold haV; rw [if_pos e0, Int.toNat_natCast, if_pos ⟨c13, c23⟩]; exact if_pos (by omega)] at k1
          exact k1
      · replace c23 := b2i_0.mp c23
        refine ZE.iconst (n := (-1)) d_Ref_half_26 ?_
        refine ZE.iret d_Ref_half_27 rfl ?_
        have e0 : inC S (cn : Int) = true := decide_eq_true (by omega)
        have k1 := k A quF.rf
        rw [show haV S (cn : Int) wh i = -1 by unfold haV; rw [if_pos e0, Int.toNat_natCast]; exact if_neg (fun q => by first | exact c13 q.1 | exact c23 q.2)] at k1
        exact k1
