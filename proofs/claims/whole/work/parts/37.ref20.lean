def inW (S : Nat) (c : Int) : Bool := decide (0 ≤ c ∧ c ≤ ((csF S 0 128).length : Int) - 1)
def tkN (S k : Nat) (wh : Int) : Int := if wh = 0 then (rad ((csF S 0 128).getD k 0) : Int) else if wh = 1 then (isq (d2 S k) : Int) else if wh = 2 then (rnd (d2 S k) : Int) else if wh = 3 then (dl (ux (d2 S k)) : Int) else if wh = 4 then (dl (uy (d2 S k)) : Int) else if wh = 5 then (pop (ix (gP2 S (ux (d2 S k))) (bnd S)) : Int) else -1
def tkV (S : Nat) (c wh : Int) : Int := if inW S c then tkN S c.toNat wh else -1
theorem tkN_out {S k : Nat} {wh : Int} (h : wh < 0 ∨ 5 < wh) : tkN S k wh = -1 := by
  unfold tkN
  rw [if_neg (by omega), if_neg (by omega), if_neg (by omega), if_neg (by omega), if_neg (by omega), if_neg (by omega)]
def thB (S k : Nat) : Bool := decide (pN S (k + 1) = pN S k + 1)
def thV (S : Nat) : Int := (cnt (thB S) ((prs S).length - 1) : Int)
set_option maxRecDepth 20000 in
set_option maxHeartbeats 4000000 in
theorem r_twoClass {d : Nat} {G : zG} {A : Int → Int → Int} {P : Option zV → zG → Prop} {o : Int} (hK : RK G o) (hF : RF A o) {S : Nat} (hR : RS S A o) (hS7 : S < 128) (hp5 : pop S ≤ 5) {c : Int} (hc : zR c) {wh : Int} (hw : zR wh) (k : P (some (0, tkV S c wh)) (gw G A)) : ZE (d + 3) M_Ref_twoClass (gw G A) 0 [(2, o), (0, c), (0, wh), (9, 0)] [] P := by
  have hpl := prs_288 hS7 hp5
  have htl := tws_288 hS7 hp5
  have hcl0 := cls_le hS7 hp5
  have hbb := bnd_le S hS7
  refine ZE.iload_n d_Ref_twoClass_0 rfl ?_
  refine ZE.i2l d_Ref_twoClass_1 hc ?_
  refine ZE.lconst d_Ref_twoClass_2 ?_
  show ZE (d + 3) M_Ref_twoClass (gw G A) 3 [(2, o), (0, c), (0, wh), (9, 0)] [(1, 0), (1, c)] _
  refine ZE.aload_n d_Ref_twoClass_3 rfl ?_
  refine ZE.getE (v := ((csF S 0 128).length : Int)) d_Ref_twoClass_4 f_Ref_198 (tg := 0) rfl hK.1 hR.n2 ?_
  refine ZE.iconst (n := 1) d_Ref_twoClass_7 ?_
  refine ZE.isub d_Ref_twoClass_8 ?_
  refine ZE.i2l d_Ref_twoClass_9 (by unfold zR; omega) ?_
  refine ZE.cS [(1, c), (1, 0), (1, ((csF S 0 128).length : Int) - 1)] [] [(1, c), (9, 0), (1, 0), (9, 0), (1, ((csF S 0 128).length : Int) - 1), (9, 0)] d_Ref_twoClass_10 l_Ref_111 rfl rfl rfl rfl rfl rfl ?_
  refine r_isIn (by unfold zR at hc; unfold zR64; omega) (by unfold zR64; omega) (by unfold zR64; omega) ?_
  show ZE (d + 3) M_Ref_twoClass (gw G A) 13 [(2, o), (0, c), (0, wh), (9, 0)] [(0, b2i (0 ≤ c ∧ c ≤ ((csF S 0 128).length : Int) - 1))] _
  refine ZE.if_ne (tgt := 18) d_Ref_twoClass_13 rfl (zR_b2i _) (fun c13 => ?_) (fun c13 => ?_)
  · replace c13 := b2i_n0.mp c13
    obtain ⟨cn, hcn⟩ : ∃ cn : Nat, c = cn := ⟨c.toNat, by omega⟩
    subst hcn
    have hok := d2_ok (S := S) (k := cn) (by omega)
    have hcl := hR.c2 cn (by omega)
    have hux9 : nd 10000 (ux (d2 S cn)) ≤ 81 := (okD_ns hok.1).2.1
    have huy9 : nd 10000 (uy (d2 S cn)) ≤ 81 := (okD_ns hok.1).2.2
    have hnx : num (A (o + 2)) (2 * (32 + (cn : Int))) (ux (d2 S cn)) := hcl.2.2.1
    have hny : num (A (o + 2)) (2 * (32 + (cn : Int)) + 1) (uy (d2 S cn)) := hcl.2.2.2
    have e0 : inW S (cn : Int) = true := decide_eq_true (by omega)
    refine ZE.bipush (n := 32) d_Ref_twoClass_18 rfl ?_
    refine ZE.iload_n d_Ref_twoClass_20 rfl ?_
    refine ZE.iadd d_Ref_twoClass_21 ?_
    refine ZE.istore_n (ls2 := [(2, o), (0, (cn : Int)), (0, wh), (0, 32 + (cn : Int))]) d_Ref_twoClass_22 (Nat.le_of_ble_eq_true rfl) rfl ?_
    refine ZE.iload_n d_Ref_twoClass_23 rfl ?_
    rcases (show (wh < 0 ∨ 5 < wh) ∨ wh = 0 ∨ wh = 1 ∨ wh = 2 ∨ wh = 3 ∨ wh = 4 ∨ wh = 5 by omega) with eo | rfl | rfl | rfl | rfl | rfl | rfl
    · refine ZE.tableOut (tgt := 113) d_Ref_twoClass_24 (by unfold zR at *; omega) eo rfl ?_
      refine ZE.iconst (n := (-1)) d_Ref_twoClass_113 ?_
      refine ZE.iret d_Ref_twoClass_114 rfl ?_
      rw [show tkV S (cn : Int) wh = -1 by unfold tkV; rw [if_pos e0, Int.toNat_natCast]; exact tkN_out eo] at k
      exact k
    · refine ZE.tableIn (tgt := 64) d_Ref_twoClass_24 (by unfold zR; omega) (by omega) rfl rfl ?_
      refine ZE.aload_n d_Ref_twoClass_64 rfl ?_
      refine ZE.getE (v := o + 3) d_Ref_twoClass_65 f_Ref_16 (tg := 2) rfl hK.1 hF.a3 ?_
      refine ZE.iload_n d_Ref_twoClass_68 rfl ?_
      refine ZE.ialdE (v := (rad ((csF S 0 128).getD cn 0) : Int)) d_Ref_twoClass_69 hK.k3 (by have hn0 := hK.n3; show 0 ≤ (32 + (cn : Int)) ∧ (32 + (cn : Int)) < gn G (o + 3); omega) (hR.q2 cn (by omega)) ?_
      refine ZE.iret d_Ref_twoClass_70 rfl ?_
      rw [show tkV S (cn : Int) 0 = tkN S cn 0 by unfold tkV; rw [if_pos e0, Int.toNat_natCast]] at k
      exact k
    · refine ZE.tableIn (tgt := 71) d_Ref_twoClass_24 (by unfold zR; omega) (by omega) rfl rfl ?_
      refine ZE.aload_n d_Ref_twoClass_71 rfl ?_
      refine ZE.getE (v := o + 4) d_Ref_twoClass_72 f_Ref_19 (tg := 2) rfl hK.1 hF.a4 ?_
      refine ZE.iload_n d_Ref_twoClass_75 rfl ?_
      refine ZE.ialdE (v := (isq (d2 S cn) : Int)) d_Ref_twoClass_76 hK.k4 (by have hn0 := hK.n4; show 0 ≤ (32 + (cn : Int)) ∧ (32 + (cn : Int)) < gn G (o + 4); omega) hcl.1 ?_
      refine ZE.iret d_Ref_twoClass_77 rfl ?_
      rw [show tkV S (cn : Int) 1 = tkN S cn 1 by unfold tkV; rw [if_pos e0, Int.toNat_natCast]] at k
      exact k
    · refine ZE.tableIn (tgt := 78) d_Ref_twoClass_24 (by unfold zR; omega) (by omega) rfl rfl ?_
      refine ZE.aload_n d_Ref_twoClass_78 rfl ?_
      refine ZE.getE (v := o + 5) d_Ref_twoClass_79 f_Ref_22 (tg := 2) rfl hK.1 hF.a5 ?_
      refine ZE.iload_n d_Ref_twoClass_82 rfl ?_
      refine ZE.ialdE (v := (rnd (d2 S cn) : Int)) d_Ref_twoClass_83 hK.k5 (by have hn0 := hK.n5; show 0 ≤ (32 + (cn : Int)) ∧ (32 + (cn : Int)) < gn G (o + 5); omega) hcl.2.1 ?_
      refine ZE.iret d_Ref_twoClass_84 rfl ?_
      rw [show tkV S (cn : Int) 2 = tkN S cn 2 by unfold tkV; rw [if_pos e0, Int.toNat_natCast]] at k
      exact k
    · refine ZE.tableIn (tgt := 85) d_Ref_twoClass_24 (by unfold zR; omega) (by omega) rfl rfl ?_
      refine ZE.aload_n d_Ref_twoClass_85 rfl ?_
      refine ZE.iconst (n := 2) d_Ref_twoClass_86 ?_
      refine ZE.iload_n d_Ref_twoClass_87 rfl ?_
      refine ZE.imul d_Ref_twoClass_88 ?_
      refine ZE.cV [(0, 2 * (32 + (cn : Int)))] [] [(2, o), (0, 2 * (32 + (cn : Int)))] d_Ref_twoClass_89 l_Ref_108 rfl rfl rfl rfl rfl rfl hK.1 ?_
      refine r_longOf (v := ux (d2 S cn)) hK hF (by omega) hnx (by omega) ?_
      show ZE (d + 3) M_Ref_twoClass (gw G A) 92 [(2, o), (0, (cn : Int)), (0, 3), (0, 32 + (cn : Int))] [(0, (dl (ux (d2 S cn)) : Int))] _
      refine ZE.iret d_Ref_twoClass_92 rfl ?_
      rw [show tkV S (cn : Int) 3 = tkN S cn 3 by unfold tkV; rw [if_pos e0, Int.toNat_natCast]] at k
      exact k
    · refine ZE.tableIn (tgt := 93) d_Ref_twoClass_24 (by unfold zR; omega) (by omega) rfl rfl ?_
      refine ZE.aload_n d_Ref_twoClass_93 rfl ?_
      refine ZE.iconst (n := 2) d_Ref_twoClass_94 ?_
      refine ZE.iload_n d_Ref_twoClass_95 rfl ?_
      refine ZE.imul d_Ref_twoClass_96 ?_
      refine ZE.iconst (n := 1) d_Ref_twoClass_97 ?_
      refine ZE.iadd d_Ref_twoClass_98 ?_
      refine ZE.cV [(0, (2 * (32 + (cn : Int))) + 1)] [] [(2, o), (0, (2 * (32 + (cn : Int))) + 1)] d_Ref_twoClass_99 l_Ref_108 rfl rfl rfl rfl rfl rfl hK.1 ?_
      refine r_longOf (v := uy (d2 S cn)) hK hF (by omega) hny (by omega) ?_
      show ZE (d + 3) M_Ref_twoClass (gw G A) 102 [(2, o), (0, (cn : Int)), (0, 4), (0, 32 + (cn : Int))] [(0, (dl (uy (d2 S cn)) : Int))] _
      refine ZE.iret d_Ref_twoClass_102 rfl ?_
      rw [show tkV S (cn : Int) 4 = tkN S cn 4 by unfold tkV; rw [if_pos e0, Int.toNat_natCast]] at k
      exact k
    · refine ZE.tableIn (tgt := 103) d_Ref_twoClass_24 (by unfold zR; omega) (by omega) rfl rfl ?_
      refine ZE.aload_n d_Ref_twoClass_103 rfl ?_
      refine ZE.getE (v := o + 6) d_Ref_twoClass_104 f_Ref_25 (tg := 2) rfl hK.1 hF.a6 ?_
      refine ZE.iload_n d_Ref_twoClass_107 rfl ?_
      refine ZE.ialdE (v := (ix (gP2 S (ux (d2 S cn))) (bnd S) : Int)) d_Ref_twoClass_108 hK.k6 (by have hn0 := hK.n6; show 0 ≤ (32 + (cn : Int)) ∧ (32 + (cn : Int)) < gn G (o + 6); omega) (hR.i2 cn (by omega)) ?_
      have hil := ix_lt (g := gP2 S (ux (d2 S cn))) (bnd S)
      have hp9 : 2 ^ bnd S ≤ 2 ^ 9 := Nat.pow_le_pow_right (by omega) (by omega)
      refine ZE.cS [(0, (ix (gP2 S (ux (d2 S cn))) (bnd S) : Int))] [] [(0, (ix (gP2 S (ux (d2 S cn))) (bnd S) : Int)), (9, 0), (9, 0)] d_Ref_twoClass_109 l_Ref_206 rfl rfl rfl rfl rfl rfl ?_
      refine r_many (s := ix (gP2 S (ux (d2 S cn))) (bnd S)) (by omega) ?_
      show ZE (d + 3) M_Ref_twoClass (gw G A) 112 [(2, o), (0, (cn : Int)), (0, 5), (0, 32 + (cn : Int))] [(0, (pop (ix (gP2 S (ux (d2 S cn))) (bnd S)) : Int))] _
      refine ZE.iret d_Ref_twoClass_112 rfl ?_
      rw [show tkV S (cn : Int) 5 = tkN S cn 5 by unfold tkV; rw [if_pos e0, Int.toNat_natCast]] at k
      exact k
  · replace c13 := b2i_0.mp c13
    refine ZE.iconst (n := (-1)) d_Ref_twoClass_16 ?_
    refine ZE.iret d_Ref_twoClass_17 rfl ?_
    rw [show tkV S c wh = -1 from if_neg (fun q => c13 (of_decide_eq_true q))] at k
    exact k
set_option maxRecDepth 20000 in
set_option maxHeartbeats 4000000 in
theorem r_threes {d : Nat} {G : zG} {A : Int → Int → Int} {P : Option zV → zG → Prop} {o : Int} (hK : RK G o) (hF : RF A o) {S : Nat} (hR : RS S A o) (hS7 : S < 128) (hp5 : pop S ≤ 5) (k : P (some (0, thV S)) (gw G A)) : ZE (d + 1) M_Ref_threes (gw G A) 0 [(2, o), (9, 0), (9, 0)] [] P := by
  have hpl := prs_288 hS7 hp5
  have htl := tws_288 hS7 hp5
  have hcl0 := cls_le hS7 hp5
  refine ZE.iconst (n := 0) d_Ref_threes_0 ?_
  refine ZE.istore_n (ls2 := [(2, o), (0, 0), (9, 0)]) d_Ref_threes_1 (Nat.le_of_ble_eq_true rfl) rfl ?_
  refine ZE.iconst (n := 0) d_Ref_threes_2 ?_
  refine ZE.istore_n (ls2 := [(2, o), (0, 0), (0, 0)]) d_Ref_threes_3 (Nat.le_of_ble_eq_true rfl) rfl ?_
  have L4 : ∀ (t : Nat) (j : Nat) (hj : j ≤ (prs S).length - 1), (prs S).length - j < t → ZE (d + 1) M_Ref_threes (gw G A) 4 [(2, o), (0, (cnt (thB S) j : Int)), (0, (j : Int))] [] P := by
    intro t
    induction t with
    | zero => intro j hj hm; exact absurd hm (Nat.not_lt_zero _)
    | succ t ih =>
      intro j hj hm
      have hcn := cnt_le (thB S) j
      refine ZE.iload_n d_Ref_threes_4 rfl ?_
      refine ZE.iconst (n := 1) d_Ref_threes_5 ?_
      refine ZE.iadd d_Ref_threes_6 ?_
      refine ZE.aload_n d_Ref_threes_7 rfl ?_
      refine ZE.getE (v := ((prs S).length : Int)) d_Ref_threes_8 f_Ref_167 (tg := 0) rfl hK.1 hR.np ?_
      refine ZE.icmp_ge (tgt := 47) d_Ref_threes_11 rfl (by unfold zR; omega) (by unfold zR; omega) (fun c11 => ?_) (fun c11 => ?_)
      · have e1 : j = (prs S).length - 1 := by omega
        refine ZE.iload_n d_Ref_threes_47 rfl ?_
        refine ZE.iret d_Ref_threes_48 rfl ?_
        rw [e1]
        exact k
      · have hQ1 : 1 ≤ pN S j ∧ pN S j < 1000000000 := ⟨(prs_ok hS7 hp5 (k := j) (by omega)).1, (prs_ok hS7 hp5 (k := j) (by omega)).2.1⟩
        have hQ2 : 1 ≤ pN S (j + 1) ∧ pN S (j + 1) < 1000000000 := ⟨(prs_ok hS7 hp5 (k := j + 1) (by omega)).1, (prs_ok hS7 hp5 (k := j + 1) (by omega)).2.1⟩
        refine ZE.iload_n d_Ref_threes_14 rfl ?_
        refine ZE.aload_n d_Ref_threes_15 rfl ?_
        refine ZE.getE (v := o + 7) d_Ref_threes_16 f_Ref_28 (tg := 2) rfl hK.1 hF.a12 ?_
        refine ZE.iload_n d_Ref_threes_19 rfl ?_
        refine ZE.iconst (n := 1) d_Ref_threes_20 ?_
        refine ZE.iadd d_Ref_threes_21 ?_
        rw [show ((j : Int) + 1 : Int) = ((j + 1 : Nat) : Int) from (by omega)]
        refine ZE.ialdE (v := (pN S (j + 1) : Int)) d_Ref_threes_22 hK.k7 (by have hn0 := hK.n7; show 0 ≤ ((j + 1 : Nat) : Int) ∧ ((j + 1 : Nat) : Int) < gn G (o + 7); omega) (hR.p (j + 1) (by omega)).1 ?_
        refine ZE.aload_n d_Ref_threes_23 rfl ?_
        refine ZE.getE (v := o + 7) d_Ref_threes_24 f_Ref_28 (tg := 2) rfl hK.1 hF.a12 ?_
        refine ZE.iload_n d_Ref_threes_27 rfl ?_
        refine ZE.ialdE (v := (pN S j : Int)) d_Ref_threes_28 hK.k7 (by have hn0 := hK.n7; show 0 ≤ (j : Int) ∧ (j : Int) < gn G (o + 7); omega) (hR.p j (by omega)).1 ?_
        refine ZE.iconst (n := 1) d_Ref_threes_29 ?_
        refine ZE.iadd d_Ref_threes_30 ?_
        refine ZE.icmp_ne (tgt := 38) d_Ref_threes_31 rfl (by unfold zR; omega) (by unfold zR; omega) (fun c31 => ?_) (fun c31 => ?_)
        · refine ZE.iconst (n := 0) d_Ref_threes_38 ?_
          refine ZE.iadd d_Ref_threes_39 ?_
          refine ZE.istore_n (ls2 := [(2, o), (0, (cnt (thB S) j : Int) + 0), (0, (j : Int))]) d_Ref_threes_40 (Nat.le_of_ble_eq_true rfl) rfl ?_
          refine ZE.iinc (ls2 := [(2, o), (0, (cnt (thB S) j : Int) + 0), (0, (j : Int) + 1)]) d_Ref_threes_41 rfl rfl ?_
          refine ZE.goto (tgt := 4) d_Ref_threes_44 rfl ?_
          have e1 : cnt (thB S) (j + 1) = cnt (thB S) j := if_neg (fun q => by have := of_decide_eq_true q; omega)
          rw [show (cnt (thB S) j : Int) + 0 = (cnt (thB S) (j + 1) : Int) by rw [e1]; omega, show (j : Int) + 1 = ((j + 1 : Nat) : Int) by omega]
          exact ih (j + 1) (by omega) (by omega)
        · refine ZE.iconst (n := 1) d_Ref_threes_34 ?_
          refine ZE.goto (tgt := 39) d_Ref_threes_35 rfl ?_
          refine ZE.iadd d_Ref_threes_39 ?_
          refine ZE.istore_n (ls2 := [(2, o), (0, (cnt (thB S) j : Int) + 1), (0, (j : Int))]) d_Ref_threes_40 (Nat.le_of_ble_eq_true rfl) rfl ?_
          refine ZE.iinc (ls2 := [(2, o), (0, (cnt (thB S) j : Int) + 1), (0, (j : Int) + 1)]) d_Ref_threes_41 rfl rfl ?_
          refine ZE.goto (tgt := 4) d_Ref_threes_44 rfl ?_
          have e1 : cnt (thB S) (j + 1) = cnt (thB S) j + 1 := if_pos (decide_eq_true (by omega))
          rw [show (cnt (thB S) j : Int) + 1 = (cnt (thB S) (j + 1) : Int) by rw [e1]; omega, show (j : Int) + 1 = ((j + 1 : Nat) : Int) by omega]
          exact ih (j + 1) (by omega) (by omega)
  exact L4 _ 0 (by omega) (Nat.lt_succ_self _)
