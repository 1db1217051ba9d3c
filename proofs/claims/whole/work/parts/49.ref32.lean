def rnV (S : Nat) (i wh : Int) : Int := if 0 ≤ i ∧ i < ((rnS S).length : Int) then (if wh = 0 then (((rnS S).getD i.toNat (0, 0)).1 : Int) else if wh = 1 then (((rnS S).getD i.toNat (0, 0)).2 : Int) else -1) else -1
theorem rnV_no {S : Nat} {i wh : Int} (h : ¬ (0 ≤ i ∧ i < ((rnS S).length : Int))) : rnV S i wh = -1 := if_neg h
theorem rnV_y {S m : Nat} {wh : Int} (h : m < (rnS S).length) : rnV S (m : Int) wh = if wh = 0 then (((rnS S).getD m (0, 0)).1 : Int) else if wh = 1 then (((rnS S).getD m (0, 0)).2 : Int) else -1 := by
  unfold rnV
  rw [if_pos (by omega), Int.toNat_natCast]
def isV (S : Nat) (wh : Int) : Int := if wh = 0 then (S : Int) else if wh = 1 then (pop S : Int) else if wh = 2 then ((csF S 1 128).length : Int) else if wh = 3 then (bnd S : Int) else if wh = 4 then ((prs S).length : Int) else if wh = 5 then ((rnS S).length : Int) else if wh = 6 then (gr S : Int) else if wh = 7 then (if (prs S).length = 0 then 0 else (dl (pN S ((prs S).length - 1)) : Int)) else if wh = 8 then ngV S else if wh = 9 then wpV S else if wh = 10 then (sumF (fun k => rnd (d1 S k)) (csF S 1 128).length : Int) else -1
theorem isV_out {S : Nat} {wh : Int} (h : wh < 0 ∨ 10 < wh) : isV S wh = -1 := by
  unfold isV
  rw [if_neg (by omega), if_neg (by omega), if_neg (by omega), if_neg (by omega), if_neg (by omega), if_neg (by omega), if_neg (by omega), if_neg (by omega), if_neg (by omega), if_neg (by omega), if_neg (by omega)]
theorem rnS_le (S : Nat) : (rnS S).length ≤ (prs S).length := rnL_len _ _
set_option maxRecDepth 20000 in
set_option maxHeartbeats 4000000 in
theorem r_run {d : Nat} {G : zG} {A : Int → Int → Int} {P : Option zV → zG → Prop} {o : Int} (hK : RK G o) (hF : RF A o) {S : Nat} (hR : RS S A o) (hS7 : S < 128) (hp5 : pop S ≤ 5) {i wh : Int} (hi : zR i) (hw : zR wh) (k : ∀ A2, quF A A2 o → P (some (0, rnV S i wh)) (gw G A2)) : ZE (d + 1) M_Ref_run (gw G A) 0 [(2, o), (0, i), (0, wh)] [] P := by
  have hpl := prs_288 hS7 hp5
  have hcl := cls_le hS7 hp5
  have hrl := rnS_le S
  refine ZE.iload_n d_Ref_run_0 rfl ?_
  refine ZE.if_lt (tgt := 13) d_Ref_run_1 rfl hi (fun c1 => ?_) (fun c1 => ?_)
  · refine ZE.iconst (n := (-1)) d_Ref_run_13 ?_
    refine ZE.iret d_Ref_run_14 rfl ?_
    have k1 := k A quF.rf
    rw [rnV_no (by omega)] at k1
    exact k1
  · refine ZE.iload_n d_Ref_run_4 rfl ?_
    refine ZE.aload_n d_Ref_run_5 rfl ?_
    refine ZE.iload_n d_Ref_run_6 rfl ?_
    refine ZE.cV [(0, i)] [(0, i)] [(2, o), (0, i), (9, 0), (9, 0), (9, 0)] d_Ref_run_7 l_Ref_230 rfl rfl rfl rfl rfl rfl hK.1 ?_
    refine r_layRuns hK hF hR hS7 hp5 hi (fun A2 g2 hf2 => ?_)
    show ZE (d + 1) M_Ref_run (gw G A2) 10 [(2, o), (0, i), (0, wh)] [(0, ((rnS S).length : Int)), (0, i)] _
    refine ZE.icmp_lt (tgt := 15) d_Ref_run_10 rfl hi (by unfold zR; omega) (fun c10 => ?_) (fun c10 => ?_)
    · refine ZE.iload_n d_Ref_run_15 rfl ?_
      refine ZE.if_ne (tgt := 26) d_Ref_run_16 rfl hw (fun c16 => ?_) (fun c16 => ?_)
      · refine ZE.iload_n d_Ref_run_26 rfl ?_
        refine ZE.iconst (n := 1) d_Ref_run_27 ?_
        refine ZE.icmp_ne (tgt := 38) d_Ref_run_28 rfl hw (by unfold zR; omega) (fun c28 => ?_) (fun c28 => ?_)
        · refine ZE.iconst (n := (-1)) d_Ref_run_38 ?_
          refine ZE.iret d_Ref_run_39 rfl ?_
          have k1 := k A2 g2
          obtain ⟨m, hm⟩ : ∃ m : Nat, i = m := ⟨i.toNat, by omega⟩
          subst hm
          have hfm := hf2 m rfl (by omega)
          rw [rnV_y (by omega)] at k1
          first | (rw [if_pos (by omega), ← hfm.1] at k1; exact k1) | (rw [if_neg (by omega), if_pos (by omega), ← hfm.2] at k1; exact k1) | (rw [if_neg (by omega), if_neg (by omega)] at k1; exact k1)
        · refine ZE.aload_n d_Ref_run_31 rfl ?_
          refine ZE.getE (v := A2 o 21) d_Ref_run_32 f_Ref_227 (tg := 0) rfl hK.1 rfl ?_
          refine ZE.goto (tgt := 39) d_Ref_run_35 rfl ?_
          refine ZE.iret d_Ref_run_39 rfl ?_
          have k1 := k A2 g2
          obtain ⟨m, hm⟩ : ∃ m : Nat, i = m := ⟨i.toNat, by omega⟩
          subst hm
          have hfm := hf2 m rfl (by omega)
          rw [rnV_y (by omega)] at k1
          first | (rw [if_pos (by omega), ← hfm.1] at k1; exact k1) | (rw [if_neg (by omega), if_pos (by omega), ← hfm.2] at k1; exact k1) | (rw [if_neg (by omega), if_neg (by omega)] at k1; exact k1)
      · refine ZE.aload_n d_Ref_run_19 rfl ?_
        refine ZE.getE (v := A2 o 20) d_Ref_run_20 f_Ref_224 (tg := 0) rfl hK.1 rfl ?_
        refine ZE.goto (tgt := 39) d_Ref_run_23 rfl ?_
        refine ZE.iret d_Ref_run_39 rfl ?_
        have k1 := k A2 g2
        obtain ⟨m, hm⟩ : ∃ m : Nat, i = m := ⟨i.toNat, by omega⟩
        subst hm
        have hfm := hf2 m rfl (by omega)
        rw [rnV_y (by omega)] at k1
        first | (rw [if_pos (by omega), ← hfm.1] at k1; exact k1) | (rw [if_neg (by omega), if_pos (by omega), ← hfm.2] at k1; exact k1) | (rw [if_neg (by omega), if_neg (by omega)] at k1; exact k1)
    · refine ZE.iconst (n := (-1)) d_Ref_run_13 ?_
      refine ZE.iret d_Ref_run_14 rfl ?_
      have k1 := k A2 g2
      rw [rnV_no (by omega)] at k1
      exact k1
set_option maxRecDepth 20000 in
set_option maxHeartbeats 4000000 in
theorem r_is {d : Nat} {G : zG} {A : Int → Int → Int} {P : Option zV → zG → Prop} {o : Int} (hK : RK G o) (hF : RF A o) {S : Nat} (hR : RS S A o) (hS7 : S < 128) (hp5 : pop S ≤ 5) {wh : Int} (hw : zR wh) (k : ∀ A2, quF A A2 o → P (some (0, isV S wh)) (gw G A2)) : ZE (d + 3) M_Ref_is (gw G A) 0 [(2, o), (0, wh)] [] P := by
  have hpl := prs_288 hS7 hp5
  have hcl := cls_le hS7 hp5
  have hbb := bnd_le S hS7
  refine ZE.iload_n d_Ref_is_0 rfl ?_
  rcases (show (wh < 0 ∨ 10 < wh) ∨ wh = 0 ∨ wh = 1 ∨ wh = 2 ∨ wh = 3 ∨ wh = 4 ∨ wh = 5 ∨ wh = 6 ∨ wh = 7 ∨ wh = 8 ∨ wh = 9 ∨ wh = 10 by omega) with eo | rfl | rfl | rfl | rfl | rfl | rfl | rfl | rfl | rfl | rfl | rfl
  · refine ZE.tableOut (tgt := 140) d_Ref_is_1 (by unfold zR at *; omega) eo rfl ?_
    refine ZE.iconst (n := (-1)) d_Ref_is_140 ?_
    refine ZE.iret d_Ref_is_141 rfl ?_
    have k1 := k A quF.rf
    rw [isV_out eo] at k1
    exact k1
  · refine ZE.tableIn (tgt := 60) d_Ref_is_1 (by unfold zR; omega) (by omega) rfl rfl ?_
    refine ZE.aload_n d_Ref_is_60 rfl ?_
    refine ZE.getE (v := (S : Int)) d_Ref_is_61 f_Ref_81 (tg := 0) rfl hK.1 hR.s ?_
    refine ZE.iret d_Ref_is_64 rfl ?_
    exact k A quF.rf
  · refine ZE.tableIn (tgt := 65) d_Ref_is_1 (by unfold zR; omega) (by omega) rfl rfl ?_
    refine ZE.aload_n d_Ref_is_65 rfl ?_
    refine ZE.getE (v := (S : Int)) d_Ref_is_66 f_Ref_81 (tg := 0) rfl hK.1 hR.s ?_
    refine ZE.cS [(0, (S : Int))] [] [(0, (S : Int)), (9, 0), (9, 0)] d_Ref_is_69 l_Ref_206 rfl rfl rfl rfl rfl rfl ?_
    refine r_many (s := S) (by omega) ?_
    show ZE (d + 3) M_Ref_is (gw G A) 72 [(2, o), (0, 1)] [(0, (pop S : Int))] _
    refine ZE.iret d_Ref_is_72 rfl ?_
    exact k A quF.rf
  · refine ZE.tableIn (tgt := 73) d_Ref_is_1 (by unfold zR; omega) (by omega) rfl rfl ?_
    refine ZE.aload_n d_Ref_is_73 rfl ?_
    refine ZE.getE (v := ((csF S 1 128).length : Int)) d_Ref_is_74 f_Ref_195 (tg := 0) rfl hK.1 hR.n1 ?_
    refine ZE.iret d_Ref_is_77 rfl ?_
    exact k A quF.rf
  · refine ZE.tableIn (tgt := 78) d_Ref_is_1 (by unfold zR; omega) (by omega) rfl rfl ?_
    refine ZE.aload_n d_Ref_is_78 rfl ?_
    refine ZE.cV [] [] [(2, o)] d_Ref_is_79 l_Ref_176 rfl rfl rfl rfl rfl rfl hK.1 ?_
    refine r_bound hK hF hR.s hS7 ?_
    show ZE (d + 3) M_Ref_is (gw G A) 82 [(2, o), (0, 3)] [(0, (bnd S : Int))] _
    refine ZE.iret d_Ref_is_82 rfl ?_
    exact k A quF.rf
  · refine ZE.tableIn (tgt := 83) d_Ref_is_1 (by unfold zR; omega) (by omega) rfl rfl ?_
    refine ZE.aload_n d_Ref_is_83 rfl ?_
    refine ZE.getE (v := ((prs S).length : Int)) d_Ref_is_84 f_Ref_167 (tg := 0) rfl hK.1 hR.np ?_
    refine ZE.iret d_Ref_is_87 rfl ?_
    exact k A quF.rf
  · refine ZE.tableIn (tgt := 88) d_Ref_is_1 (by unfold zR; omega) (by omega) rfl rfl ?_
    refine ZE.aload_n d_Ref_is_88 rfl ?_
    refine ZE.iconst (n := (-1)) d_Ref_is_89 ?_
    refine ZE.cV [(0, (-1))] [] [(2, o), (0, (-1)), (9, 0), (9, 0), (9, 0)] d_Ref_is_90 l_Ref_230 rfl rfl rfl rfl rfl rfl hK.1 ?_
    refine r_layRuns (i := -1) hK hF hR hS7 hp5 (by unfold zR; omega) (fun A2 g2 hf2 => ?_)
    show ZE (d + 3) M_Ref_is (gw G A2) 93 [(2, o), (0, 5)] [(0, ((rnS S).length : Int))] _
    refine ZE.iret d_Ref_is_93 rfl ?_
    exact k A2 g2
  · refine ZE.tableIn (tgt := 94) d_Ref_is_1 (by unfold zR; omega) (by omega) rfl rfl ?_
    refine ZE.aload_n d_Ref_is_94 rfl ?_
    refine ZE.cV [] [] [(2, o), (9, 0), (9, 0)] d_Ref_is_95 l_Ref_89 rfl rfl rfl rfl rfl rfl hK.1 ?_
    refine r_greatest hK hF hR.s hS7 ?_
    show ZE (d + 3) M_Ref_is (gw G A) 98 [(2, o), (0, 6)] [(0, (gr S : Int))] _
    refine ZE.iret d_Ref_is_98 rfl ?_
    exact k A quF.rf
  · refine ZE.tableIn (tgt := 99) d_Ref_is_1 (by unfold zR; omega) (by omega) rfl rfl ?_
    refine ZE.aload_n d_Ref_is_99 rfl ?_
    refine ZE.getE (v := ((prs S).length : Int)) d_Ref_is_100 f_Ref_167 (tg := 0) rfl hK.1 hR.np ?_
    refine ZE.if_ne (tgt := 110) d_Ref_is_103 rfl (by unfold zR; omega) (fun c103 => ?_) (fun c103 => ?_)
    · have hQ := prs_ok hS7 hp5 (k := (prs S).length - 1) (by omega)
      have hQ1 : 1 ≤ pN S ((prs S).length - 1) ∧ pN S ((prs S).length - 1) < 1000000000 := ⟨hQ.1, hQ.2.1⟩
      refine ZE.aload_n d_Ref_is_110 rfl ?_
      refine ZE.getE (v := o + 7) d_Ref_is_111 f_Ref_28 (tg := 2) rfl hK.1 hF.a12 ?_
      refine ZE.aload_n d_Ref_is_114 rfl ?_
      refine ZE.getE (v := ((prs S).length : Int)) d_Ref_is_115 f_Ref_167 (tg := 0) rfl hK.1 hR.np ?_
      refine ZE.iconst (n := 1) d_Ref_is_118 ?_
      refine ZE.isub d_Ref_is_119 ?_
      rw [show (((prs S).length : Int) - 1 : Int) = (((prs S).length - 1 : Nat) : Int) from (by omega)]
      refine ZE.ialdE (v := (pN S ((prs S).length - 1) : Int)) d_Ref_is_120 hK.k7 (by have hn0 := hK.n7; show 0 ≤ (((prs S).length - 1 : Nat) : Int) ∧ (((prs S).length - 1 : Nat) : Int) < gn G (o + 7); omega) (hR.p ((prs S).length - 1) (by omega)).1 ?_
      refine ZE.cS [(0, (pN S ((prs S).length - 1) : Int))] [] [(0, (pN S ((prs S).length - 1) : Int)), (9, 0), (9, 0)] d_Ref_is_121 l_Ref_105 rfl rfl rfl rfl rfl rfl ?_
      refine r_digitsOf (s := pN S ((prs S).length - 1)) (by omega) ?_
      show ZE (d + 3) M_Ref_is (gw G A) 124 [(2, o), (0, 7)] [(0, (dl (pN S ((prs S).length - 1)) : Int))] _
      refine ZE.iret d_Ref_is_124 rfl ?_
      have k1 := k A quF.rf
      have e7 : isV S 7 = if (prs S).length = 0 then 0 else (dl (pN S ((prs S).length - 1)) : Int) := rfl
      rw [e7] at k1
      first | (rw [if_pos (by omega)] at k1; exact k1) | (rw [if_neg (by omega)] at k1; exact k1)
    · refine ZE.iconst (n := 0) d_Ref_is_106 ?_
      refine ZE.goto (tgt := 124) d_Ref_is_107 rfl ?_
      refine ZE.iret d_Ref_is_124 rfl ?_
      have k1 := k A quF.rf
      have e7 : isV S 7 = if (prs S).length = 0 then 0 else (dl (pN S ((prs S).length - 1)) : Int) := rfl
      rw [e7] at k1
      first | (rw [if_pos (by omega)] at k1; exact k1) | (rw [if_neg (by omega)] at k1; exact k1)
  · refine ZE.tableIn (tgt := 125) d_Ref_is_1 (by unfold zR; omega) (by omega) rfl rfl ?_
    refine ZE.aload_n d_Ref_is_125 rfl ?_
    refine ZE.cV [] [] [(2, o), (9, 0), (9, 0)] d_Ref_is_126 l_Ref_233 rfl rfl rfl rfl rfl rfl hK.1 ?_
    refine r_negatives hK hF hR hS7 hp5 ?_
    show ZE (d + 3) M_Ref_is (gw G A) 129 [(2, o), (0, 8)] [(0, ngV S)] _
    refine ZE.iret d_Ref_is_129 rfl ?_
    exact k A quF.rf
  · refine ZE.tableIn (tgt := 130) d_Ref_is_1 (by unfold zR; omega) (by omega) rfl rfl ?_
    refine ZE.aload_n d_Ref_is_130 rfl ?_
    refine ZE.cV [] [] [(2, o), (9, 0), (9, 0)] d_Ref_is_131 l_Ref_236 rfl rfl rfl rfl rfl rfl hK.1 ?_
    refine r_withPairs hK hF hR hS7 hp5 ?_
    show ZE (d + 3) M_Ref_is (gw G A) 134 [(2, o), (0, 9)] [(0, wpV S)] _
    refine ZE.iret d_Ref_is_134 rfl ?_
    exact k A quF.rf
  · refine ZE.tableIn (tgt := 135) d_Ref_is_1 (by unfold zR; omega) (by omega) rfl rfl ?_
    refine ZE.aload_n d_Ref_is_135 rfl ?_
    refine ZE.cV [] [] [(2, o), (9, 0), (9, 0)] d_Ref_is_136 l_Ref_239 rfl rfl rfl rfl rfl rfl hK.1 ?_
    refine r_rounds hK hF hR hS7 hp5 ?_
    show ZE (d + 3) M_Ref_is (gw G A) 139 [(2, o), (0, 10)] [(0, (sumF (fun k => rnd (d1 S k)) (csF S 1 128).length : Int))] _
    refine ZE.iret d_Ref_is_139 rfl ?_
    exact k A quF.rf
