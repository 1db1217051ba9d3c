/-- the last smooth number, the widest gap, where it begins: up to j + 1 -/
def gpF (S : Nat) : Nat → Int × Int × Int
  | 0 => (1, -1, -1)
  | j + 1 => if smB S (j + 2) = true then (if (j : Int) + 2 - (gpF S j).1 ≤ (gpF S j).2.1 then ((j : Int) + 2, (gpF S j).2.1, (gpF S j).2.2) else ((j : Int) + 2, (j : Int) + 2 - (gpF S j).1, (gpF S j).1)) else gpF S j
theorem gpF_R (S : Nat) : ∀ j : Nat, (1 ≤ (gpF S j).1 ∧ (gpF S j).1 ≤ (j : Int) + 1) ∧ (-1 ≤ (gpF S j).2.1 ∧ (gpF S j).2.1 ≤ (j : Int) + 1) ∧ (-1 ≤ (gpF S j).2.2 ∧ (gpF S j).2.2 ≤ (j : Int) + 1) := by
  intro j
  induction j with
  | zero => exact ⟨⟨by show (1 : Int) ≤ 1; omega, by show (1 : Int) ≤ 0 + 1; omega⟩, ⟨by show (-1 : Int) ≤ -1; omega, by show (-1 : Int) ≤ 0 + 1; omega⟩, ⟨by show (-1 : Int) ≤ -1; omega, by show (-1 : Int) ≤ 0 + 1; omega⟩⟩
  | succ j ih =>
    unfold gpF
    split
    · split
      · dsimp only; omega
      · dsimp only; omega
    · omega
def gpV (S : Nat) (u wh : Int) : Int := if (0 ≤ u ∧ u ≤ 200000) ∧ (0 ≤ wh ∧ wh ≤ 1) then (if wh = 0 then (gpF S (u.toNat - 1)).2.1 else (gpF S (u.toNat - 1)).2.2) else -1
set_option maxRecDepth 20000 in
set_option maxHeartbeats 4000000 in
theorem r_gap {d : Nat} {G : zG} {A : Int → Int → Int} {P : Option zV → zG → Prop} {o : Int} (hK : RK G o) (hF : RF A o) {S : Nat} (hR : RS S A o) (hS7 : S < 128) (hp5 : pop S ≤ 5) {u wh : Int} (hu : zR u) (hw : zR wh) (k : P (some (0, gpV S u wh)) (gw G A)) : ZE (d + 2) M_Ref_gap (gw G A) 0 [(2, o), (0, u), (0, wh), (9, 0), (9, 0), (9, 0), (9, 0)] [] P := by
  refine ZE.iload_n d_Ref_gap_0 rfl ?_
  refine ZE.i2l d_Ref_gap_1 hu ?_
  refine ZE.lconst d_Ref_gap_2 ?_
  show ZE (d + 2) M_Ref_gap (gw G A) 3 [(2, o), (0, u), (0, wh), (9, 0), (9, 0), (9, 0), (9, 0)] [(1, 0), (1, u)] _
  refine ZE.ldc2 (v := 200000) d_Ref_gap_3 k_Ref_311 ?_
  refine ZE.cS [(1, u), (1, 0), (1, 200000)] [] [(1, u), (9, 0), (1, 0), (9, 0), (1, 200000), (9, 0)] d_Ref_gap_6 l_Ref_111 rfl rfl rfl rfl rfl rfl ?_
  refine r_isIn (by unfold zR at hu; unfold zR64; omega) (by unfold zR64; omega) (by unfold zR64; omega) ?_
  show ZE (d + 2) M_Ref_gap (gw G A) 9 [(2, o), (0, u), (0, wh), (9, 0), (9, 0), (9, 0), (9, 0)] [(0, b2i (0 ≤ u ∧ u ≤ 200000))] _
  refine ZE.if_eq (tgt := 22) d_Ref_gap_9 rfl (zR_b2i _) (fun c9 => ?_) (fun c9 => ?_)
  · replace c9 := b2i_0.mp c9
    refine ZE.iconst (n := (-1)) d_Ref_gap_22 ?_
    refine ZE.iret d_Ref_gap_23 rfl ?_
    rw [show gpV S u wh = -1 from if_neg (by omega)] at k
    exact k
  · replace c9 := b2i_n0.mp c9
    refine ZE.iload_n d_Ref_gap_12 rfl ?_
    refine ZE.i2l d_Ref_gap_13 hw ?_
    refine ZE.lconst d_Ref_gap_14 ?_
    show ZE (d + 2) M_Ref_gap (gw G A) 15 [(2, o), (0, u), (0, wh), (9, 0), (9, 0), (9, 0), (9, 0)] [(1, 0), (1, wh)] _
    refine ZE.lconst d_Ref_gap_15 ?_
    show ZE (d + 2) M_Ref_gap (gw G A) 16 [(2, o), (0, u), (0, wh), (9, 0), (9, 0), (9, 0), (9, 0)] [(1, 1), (1, 0), (1, wh)] _
    refine ZE.cS [(1, wh), (1, 0), (1, 1)] [] [(1, wh), (9, 0), (1, 0), (9, 0), (1, 1), (9, 0)] d_Ref_gap_16 l_Ref_111 rfl rfl rfl rfl rfl rfl ?_
    refine r_isIn (by unfold zR at hw; unfold zR64; omega) (by unfold zR64; omega) (by unfold zR64; omega) ?_
    show ZE (d + 2) M_Ref_gap (gw G A) 19 [(2, o), (0, u), (0, wh), (9, 0), (9, 0), (9, 0), (9, 0)] [(0, b2i (0 ≤ wh ∧ wh ≤ 1))] _
    refine ZE.if_ne (tgt := 24) d_Ref_gap_19 rfl (zR_b2i _) (fun c19 => ?_) (fun c19 => ?_)
    · replace c19 := b2i_n0.mp c19
      obtain ⟨un, hun⟩ : ∃ un : Nat, u = un := ⟨u.toNat, by omega⟩
      subst hun
      refine ZE.iconst (n := 1) d_Ref_gap_24 ?_
      refine ZE.istore_n (ls2 := [(2, o), (0, (un : Int)), (0, wh), (0, 1), (9, 0), (9, 0), (9, 0)]) d_Ref_gap_25 (Nat.le_of_ble_eq_true rfl) rfl ?_
      refine ZE.iconst (n := (-1)) d_Ref_gap_26 ?_
      refine ZE.istore (ls2 := [(2, o), (0, (un : Int)), (0, wh), (0, 1), (0, (-1)), (9, 0), (9, 0)]) d_Ref_gap_27 (Nat.le_of_ble_eq_true rfl) rfl ?_
      refine ZE.iconst (n := (-1)) d_Ref_gap_29 ?_
      refine ZE.istore (ls2 := [(2, o), (0, (un : Int)), (0, wh), (0, 1), (0, (-1)), (0, (-1)), (9, 0)]) d_Ref_gap_30 (Nat.le_of_ble_eq_true rfl) rfl ?_
      refine ZE.iconst (n := 2) d_Ref_gap_32 ?_
      refine ZE.istore (ls2 := [(2, o), (0, (un : Int)), (0, wh), (0, 1), (0, (-1)), (0, (-1)), (0, 2)]) d_Ref_gap_33 (Nat.le_of_ble_eq_true rfl) rfl ?_
      have L35 : ∀ (t : Nat) (j : Nat) (hj : j ≤ un - 1), un - j < t → ZE (d + 2) M_Ref_gap (gw G A) 35 [(2, o), (0, (un : Int)), (0, wh), (0, (gpF S j).1), (0, (gpF S j).2.1), (0, (gpF S j).2.2), (0, (j : Int) + 2)] [] P := by
        intro t
        induction t with
        | zero => intro j hj hm; exact absurd hm (Nat.not_lt_zero _)
        | succ t ih =>
          intro j hj hm
          have hgp := gpF_R S j
          refine ZE.iload d_Ref_gap_35 rfl ?_
          refine ZE.iload_n d_Ref_gap_37 rfl ?_
          refine ZE.icmp_gt (tgt := 80) d_Ref_gap_38 rfl (by unfold zR; omega) (by unfold zR; omega) (fun c38 => ?_) (fun c38 => ?_)
          · have e1 : j = un - 1 := by omega
            refine ZE.iload_n d_Ref_gap_80 rfl ?_
            refine ZE.if_ne (tgt := 89) d_Ref_gap_81 rfl (by unfold zR; omega) (fun c81 => ?_) (fun c81 => ?_)
            · refine ZE.iload d_Ref_gap_89 rfl ?_
              refine ZE.iret d_Ref_gap_91 rfl ?_
              rw [show gpV S (un : Int) wh = (gpF S (un - 1)).2.2 by unfold gpV; rw [if_pos (by omega), Int.toNat_natCast]; exact if_neg (by omega)] at k
              rw [e1]
              exact k
            · refine ZE.iload d_Ref_gap_84 rfl ?_
              refine ZE.goto (tgt := 91) d_Ref_gap_86 rfl ?_
              refine ZE.iret d_Ref_gap_91 rfl ?_
              rw [show gpV S (un : Int) wh = (gpF S (un - 1)).2.1 by unfold gpV; rw [if_pos (by omega), Int.toNat_natCast]; exact if_pos (by omega)] at k
              rw [e1]
              exact k
          · refine ZE.aload_n d_Ref_gap_41 rfl ?_
            refine ZE.iload d_Ref_gap_42 rfl ?_
            refine ZE.cV [(0, (j : Int) + 2)] [] [(2, o), (0, (j : Int) + 2), (9, 0), (9, 0)] d_Ref_gap_44 l_Ref_183 rfl rfl rfl rfl rfl rfl hK.1 ?_
            refine r_isSmooth (n := j + 2) hK hF hR.s hS7 (by omega) (by omega) ?_
            show ZE (d + 2) M_Ref_gap (gw G A) 47 [(2, o), (0, (un : Int)), (0, wh), (0, (gpF S j).1), (0, (gpF S j).2.1), (0, (gpF S j).2.2), (0, (j : Int) + 2)] [(0, b2i (sm S (j + 2)))] _
            refine ZE.if_ne (tgt := 53) d_Ref_gap_47 rfl (zR_b2i _) (fun c47 => ?_) (fun c47 => ?_)
            · replace c47 := b2i_n0.mp c47
              refine ZE.iload d_Ref_gap_53 rfl ?_
              refine ZE.iload_n d_Ref_gap_55 rfl ?_
              refine ZE.isub d_Ref_gap_56 ?_
              refine ZE.iload d_Ref_gap_57 rfl ?_
              refine ZE.icmp_le (tgt := 71) d_Ref_gap_59 rfl (by unfold zR; omega) (by unfold zR; omega) (fun c59 => ?_) (fun c59 => ?_)
              · refine ZE.iload d_Ref_gap_71 rfl ?_
                refine ZE.istore_n (ls2 := [(2, o), (0, (un : Int)), (0, wh), (0, (j : Int) + 2), (0, (gpF S j).2.1), (0, (gpF S j).2.2), (0, (j : Int) + 2)]) d_Ref_gap_73 (Nat.le_of_ble_eq_true rfl) rfl ?_
                refine ZE.iinc (ls2 := [(2, o), (0, (un : Int)), (0, wh), (0, (j : Int) + 2), (0, (gpF S j).2.1), (0, (gpF S j).2.2), (0, ((j : Int) + 2) + 1)]) d_Ref_gap_74 rfl rfl ?_
                refine ZE.goto (tgt := 35) d_Ref_gap_77 rfl ?_
                rw [show (j : Int) + 2 + 1 = ((j + 1 : Nat) : Int) + 2 by omega]
                have e1 : gpF S (j + 1) = ((j : Int) + 2, (gpF S j).2.1, (gpF S j).2.2) := (if_pos (smB_iff.mpr c47)).trans (if_pos (by omega))
                have ih1 := ih (j + 1) (by omega) (by omega)
                rw [e1] at ih1
                exact ih1
              · refine ZE.iload d_Ref_gap_62 rfl ?_
                refine ZE.iload_n d_Ref_gap_64 rfl ?_
                refine ZE.isub d_Ref_gap_65 ?_
                refine ZE.istore (ls2 := [(2, o), (0, (un : Int)), (0, wh), (0, (gpF S j).1), (0, ((j : Int) + 2) - ((gpF S j).1)), (0, (gpF S j).2.2), (0, (j : Int) + 2)]) d_Ref_gap_66 (Nat.le_of_ble_eq_true rfl) rfl ?_
                refine ZE.iload_n d_Ref_gap_68 rfl ?_
                refine ZE.istore (ls2 := [(2, o), (0, (un : Int)), (0, wh), (0, (gpF S j).1), (0, ((j : Int) + 2) - ((gpF S j).1)), (0, (gpF S j).1), (0, (j : Int) + 2)]) d_Ref_gap_69 (Nat.le_of_ble_eq_true rfl) rfl ?_
                refine ZE.iload d_Ref_gap_71 rfl ?_
                refine ZE.istore_n (ls2 := [(2, o), (0, (un : Int)), (0, wh), (0, (j : Int) + 2), (0, ((j : Int) + 2) - ((gpF S j).1)), (0, (gpF S j).1), (0, (j : Int) + 2)]) d_Ref_gap_73 (Nat.le_of_ble_eq_true rfl) rfl ?_
                refine ZE.iinc (ls2 := [(2, o), (0, (un : Int)), (0, wh), (0, (j : Int) + 2), (0, ((j : Int) + 2) - ((gpF S j).1)), (0, (gpF S j).1), (0, ((j : Int) + 2) + 1)]) d_Ref_gap_74 rfl rfl ?_
                refine ZE.goto (tgt := 35) d_Ref_gap_77 rfl ?_
                rw [show (j : Int) + 2 + 1 = ((j + 1 : Nat) : Int) + 2 by omega]
                have e1 : gpF S (j + 1) = ((j : Int) + 2, ((j : Int) + 2) - ((gpF S j).1), (gpF S j).1) := (if_pos (smB_iff.mpr c47)).trans (if_neg (by omega))
                have ih1 := ih (j + 1) (by omega) (by omega)
                rw [e1] at ih1
                exact ih1
            · replace c47 := b2i_0.mp c47
              refine ZE.goto (tgt := 74) d_Ref_gap_50 rfl ?_
              refine ZE.iinc (ls2 := [(2, o), (0, (un : Int)), (0, wh), (0, (gpF S j).1), (0, (gpF S j).2.1), (0, (gpF S j).2.2), (0, ((j : Int) + 2) + 1)]) d_Ref_gap_74 rfl rfl ?_
              refine ZE.goto (tgt := 35) d_Ref_gap_77 rfl ?_
              rw [show (j : Int) + 2 + 1 = ((j + 1 : Nat) : Int) + 2 by omega]
              have e1 : gpF S (j + 1) = gpF S j := if_neg (fun q => c47 (smB_iff.mp q))
              rw [← e1]
              exact ih (j + 1) (by omega) (by omega)
      exact L35 _ 0 (by omega) (Nat.lt_succ_self _)
    · replace c19 := b2i_0.mp c19
      refine ZE.iconst (n := (-1)) d_Ref_gap_22 ?_
      refine ZE.iret d_Ref_gap_23 rfl ?_
      rw [show gpV S u wh = -1 from if_neg (by omega)] at k
      exact k
