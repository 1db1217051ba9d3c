def b2F (A B : Int → Int → Int) (b c : Int) : Prop := ∀ a : Int, a ≠ b → a ≠ b + 1 → a ≠ c → a ≠ c + 1 → B a = A a
theorem b2F.tr {A B C : Int → Int → Int} {b c : Int} (a : b2F A B b c) (e : b2F B C b c) : b2F A C b c := fun x1 h1 h2 h3 h4 => (e x1 h1 h2 h3 h4).trans (a x1 h1 h2 h3 h4)
theorem bF.l {A B : Int → Int → Int} {b c : Int} (h : bF A B b) : b2F A B b c := fun a h1 h2 _ _ => h a h1 h2
theorem bF.r {A B : Int → Int → Int} {b c : Int} (h : bF A B c) : b2F A B b c := fun a _ _ h1 h2 => h a h1 h2
set_option maxRecDepth 20000 in
set_option maxHeartbeats 4000000 in
theorem B_follow {d : Nat} {G : zG} {A : Int → Int → Int} {P : Option zV → zG → Prop}  {b : Int} {cap : Nat} (hB : bK G b cap) {v : Nat} (hv : bN A b v) {c : Int} {cap2 : Nat} (hC : bK G c cap2) {u : Nat} (hu : bN A c u) {y : Nat} (hy : 1 ≤ y) (hy2 : y < 1000000000) (huv : nd 1000000000 u ≤ nd 1000000000 v) (h9 : nd 1000000000 v ≤ cap) (h9c : nd 1000000000 v ≤ cap2) (h92 : nd 1000000000 (v * y + u) ≤ cap) (h93 : nd 1000000000 (v * y + u) ≤ cap2) (hne : c ≠ b ∧ c ≠ b + 1 ∧ c + 1 ≠ b) (k : ∀ A2, b2F A A2 b c → bN A2 b (v * y + u) → bN A2 c v → P none (gw G A2)) : ZE (d + 1) M_Big_follow (gw G A) 0 [(2, b), (0, (y : Int)), (2, c), (9, 0), (9, 0), (9, 0), (9, 0), (9, 0), (9, 0), (9, 0)] [] P := by
  have hcp := hB.2.2.2.2.2
  have hcp2 := hC.2.2.2.2.2
  refine ZE.aload_n d_Big_follow_0 rfl ?_
  refine ZE.getE (v := (nd 1000000000 v : Int)) d_Big_follow_1 f_Big_15 (tg := 0) rfl hB.1 hv.2.1 ?_
  refine ZE.istore_n (ls2 := [(2, b), (0, (y : Int)), (2, c), (0, (nd 1000000000 v : Int)), (9, 0), (9, 0), (9, 0), (9, 0), (9, 0), (9, 0)]) d_Big_follow_4 (Nat.le_of_ble_eq_true rfl) rfl ?_
  refine ZE.lconst d_Big_follow_5 ?_
  show ZE (d + 1) M_Big_follow (gw G A) 6 [(2, b), (0, (y : Int)), (2, c), (0, (nd 1000000000 v : Int)), (9, 0), (9, 0), (9, 0), (9, 0), (9, 0), (9, 0)] [(1, 0)] _
  refine ZE.lstore (ls2 := [(2, b), (0, (y : Int)), (2, c), (0, (nd 1000000000 v : Int)), (1, 0), (9, 0), (9, 0), (9, 0), (9, 0), (9, 0)]) d_Big_follow_6 (Nat.le_of_ble_eq_true rfl) rfl ?_
  refine ZE.iconst (n := 0) d_Big_follow_8 ?_
  refine ZE.istore (ls2 := [(2, b), (0, (y : Int)), (2, c), (0, (nd 1000000000 v : Int)), (1, 0), (9, 0), (0, 0), (9, 0), (9, 0), (9, 0)]) d_Big_follow_9 (Nat.le_of_ble_eq_true rfl) rfl ?_
  have L11 : ∀ (t : Nat) (i : Nat) (A1 : Int → Int → Int) (hi : i ≤ cap ∧ i ≤ cap2) (gF : b2F A A1 b c) (e0 : A1 b 0 = b + 1) (e1 : A1 b 1 = ((max (nd 1000000000 v) i : Nat) : Int)) (k0 : A1 c 0 = c + 1) (k1 : A1 c 1 = (nd 1000000000 u : Int)) (e2 : ∀ q : Nat, q < i → A1 (b + 1) q = (dg 1000000000 (v * y + u) q : Int)) (e3 : ∀ q : Nat, i ≤ q → q < nd 1000000000 v → A1 (b + 1) q = (dg 1000000000 v q : Int)) (k2 : ∀ q : Nat, q < i → A1 (c + 1) q = (dg 1000000000 v q : Int)) (k3 : ∀ q : Nat, i ≤ q → q < nd 1000000000 u → A1 (c + 1) q = (dg 1000000000 u q : Int)) (hiv : i ≤ nd 1000000000 v ∨ 1000000000 ^ (i - 1) ≤ v * y + u), cap - i < t → ZE (d + 1) M_Big_follow (gw G A1) 11 [(2, b), (0, (y : Int)), (2, c), (0, (nd 1000000000 v : Int)), (1, (cry 1000000000 v u y i : Int)), (9, 0), (0, (i : Int)), (9, 0), (9, 0), (9, 0)] [] P := by
    intro t
    induction t with
    | zero => intro i A1 hi gF e0 e1 k0 k1 e2 e3 k2 k3 hiv hm; exact absurd hm (Nat.not_lt_zero _)
    | succ t ih =>
      intro i A1 hi gF e0 e1 k0 k1 e2 e3 k2 k3 hiv hm
      have hcl := cry_le (b := 1000000000) (by omega) v u y i
      have hdl := dB_lt v i
      have hdu := dB_lt u i
      refine ZE.iload d_Big_follow_11 rfl ?_
      refine ZE.aload_n d_Big_follow_13 rfl ?_
      refine ZE.getE (v := b + 1) d_Big_follow_14 f_Big_9 (tg := 2) rfl hB.1 e0 ?_
      refine ZE.alenE (v := (cap : Int)) d_Big_follow_17 (by have hk0 := hB.2.1; show 1 ≤ gk G (b + 1) ∧ gk G (b + 1) ≤ 6; omega) hB.2.2.1 ?_
      refine ZE.icmp_ge (tgt := 123) d_Big_follow_18 rfl (by unfold zR; omega) (by unfold zR; omega) (fun c18 => ?_) (fun c18 => ?_)
      · have hlt : v * y + u < 1000000000 ^ i := Nat.lt_of_lt_of_le (nd_self (by omega) (v * y + u)) (Nat.pow_le_pow_right (by omega) (by omega))
        have hiv0 : nd 1000000000 v ≤ i := by
          rcases Nat.lt_or_ge i (nd 1000000000 v) with q | q
          · have h3 := nd_ge (b := 1000000000) (by omega) q
            have h4 : v * 1 ≤ v * y := Nat.mul_le_mul_left _ hy
            omega
          · exact q
        have hnv : nd 1000000000 (v * y + u) = max (nd 1000000000 v) i := by
          refine nd_eq (by omega) (Nat.lt_of_lt_of_le hlt (Nat.pow_le_pow_right (by omega) (by omega))) ?_
          rcases Nat.eq_zero_or_pos i with q | q
          · left; omega
          · right
            rw [show max (nd 1000000000 v) i = i by omega]
            rcases hiv with q1 | q1
            · have h3 := nd_ge (b := 1000000000) (by omega) (show i - 1 < nd 1000000000 v by omega)
              have h4 : v * 1 ≤ v * y := Nat.mul_le_mul_left _ hy
              omega
            · exact q1
        refine ZE.aload_n d_Big_follow_123 rfl ?_
        refine ZE.iload_n d_Big_follow_124 rfl ?_
        refine ZE.aload_n d_Big_follow_125 rfl ?_
        refine ZE.getE (v := c + 1) d_Big_follow_126 f_Big_9 (tg := 2) rfl hC.1 k0 ?_
        refine ZE.alenE (v := (cap2 : Int)) d_Big_follow_129 (by have hk0 := hC.2.1; show 1 ≤ gk G (c + 1) ∧ gk G (c + 1) ≤ 6; omega) hC.2.2.1 ?_
        refine ZE.cS [(0, (nd 1000000000 v : Int)), (0, (cap2 : Int))] [(2, c)] [(0, (nd 1000000000 v : Int)), (0, (cap2 : Int))] d_Big_follow_130 l_Big_19 rfl rfl rfl rfl rfl rfl ?_
        refine j_min (by unfold zR; omega) (by unfold zR; omega) ?_
        show ZE (d + 1) M_Big_follow (gw G A1) 133 [(2, b), (0, (y : Int)), (2, c), (0, (nd 1000000000 v : Int)), (1, (cry 1000000000 v u y i : Int)), (9, 0), (0, (i : Int)), (9, 0), (9, 0), (9, 0)] [(0, if (nd 1000000000 v : Int) ≤ (cap2 : Int) then (nd 1000000000 v : Int) else (cap2 : Int)), (2, c)] _
        rw [show (if (nd 1000000000 v : Int) ≤ (cap2 : Int) then (nd 1000000000 v : Int) else (cap2 : Int)) = (nd 1000000000 v : Int) from if_pos (by omega)]
        refine ZE.put d_Big_follow_133 f_Big_15 (tg := 0) rfl trivial (Or.inl ⟨_, _, _, rfl, rfl, rfl⟩) hC.1 ?_
        show ZE (d + 1) M_Big_follow (gw G (up2 A1 c 1 (nd 1000000000 v : Int))) 136 [(2, b), (0, (y : Int)), (2, c), (0, (nd 1000000000 v : Int)), (1, (cry 1000000000 v u y i : Int)), (9, 0), (0, (i : Int)), (9, 0), (9, 0), (9, 0)] [] _
        refine ZE.vret d_Big_follow_136 rfl ?_
        refine k _ (gF.tr bF.fld.r) ⟨(up2_ne _ _ (by omega)).trans e0, (up2_ne _ _ (by omega)).trans (by rw [hnv]; exact e1), fun q hq => ?_⟩ ⟨(up2_ne _ _ (by omega)).trans k0, up2_at _ _ _ _, fun q hq => ?_⟩
        · rw [up2_ne _ _ (by omega)]; exact e2 q (by omega)
        · rw [up2_ne _ _ (by omega)]; exact k2 q (by omega)
      · refine ZE.iload d_Big_follow_21 rfl ?_
        refine ZE.aload_n d_Big_follow_23 rfl ?_
        refine ZE.getE (v := c + 1) d_Big_follow_24 f_Big_9 (tg := 2) rfl hC.1 k0 ?_
        refine ZE.alenE (v := (cap2 : Int)) d_Big_follow_27 (by have hk0 := hC.2.1; show 1 ≤ gk G (c + 1) ∧ gk G (c + 1) ≤ 6; omega) hC.2.2.1 ?_
        refine ZE.icmp_ge (tgt := 123) d_Big_follow_28 rfl (by unfold zR; omega) (by unfold zR; omega) (fun c28 => ?_) (fun c28 => ?_)
        · have hlt : v * y + u < 1000000000 ^ i := Nat.lt_of_lt_of_le (nd_self (by omega) (v * y + u)) (Nat.pow_le_pow_right (by omega) (by omega))
          have hiv0 : nd 1000000000 v ≤ i := by
            rcases Nat.lt_or_ge i (nd 1000000000 v) with q | q
            · have h3 := nd_ge (b := 1000000000) (by omega) q
              have h4 : v * 1 ≤ v * y := Nat.mul_le_mul_left _ hy
              omega
            · exact q
          have hnv : nd 1000000000 (v * y + u) = max (nd 1000000000 v) i := by
            refine nd_eq (by omega) (Nat.lt_of_lt_of_le hlt (Nat.pow_le_pow_right (by omega) (by omega))) ?_
            rcases Nat.eq_zero_or_pos i with q | q
            · left; omega
            · right
              rw [show max (nd 1000000000 v) i = i by omega]
              rcases hiv with q1 | q1
              · have h3 := nd_ge (b := 1000000000) (by omega) (show i - 1 < nd 1000000000 v by omega)
                have h4 : v * 1 ≤ v * y := Nat.mul_le_mul_left _ hy
                omega
              · exact q1
          refine ZE.aload_n d_Big_follow_123 rfl ?_
          refine ZE.iload_n d_Big_follow_124 rfl ?_
          refine ZE.aload_n d_Big_follow_125 rfl ?_
          refine ZE.getE (v := c + 1) d_Big_follow_126 f_Big_9 (tg := 2) rfl hC.1 k0 ?_
          refine ZE.alenE (v := (cap2 : Int)) d_Big_follow_129 (by have hk0 := hC.2.1; show 1 ≤ gk G (c + 1) ∧ gk G (c + 1) ≤ 6; omega) hC.2.2.1 ?_
          refine ZE.cS [(0, (nd 1000000000 v : Int)), (0, (cap2 : Int))] [(2, c)] [(0, (nd 1000000000 v : Int)), (0, (cap2 : Int))] d_Big_follow_130 l_Big_19 rfl rfl rfl rfl rfl rfl ?_
          refine j_min (by unfold zR; omega) (by unfold zR; omega) ?_
          show ZE (d + 1) M_Big_follow (gw G A1) 133 [(2, b), (0, (y : Int)), (2, c), (0, (nd 1000000000 v : Int)), (1, (cry 1000000000 v u y i : Int)), (9, 0), (0, (i : Int)), (9, 0), (9, 0), (9, 0)] [(0, if (nd 1000000000 v : Int) ≤ (cap2 : Int) then (nd 1000000000 v : Int) else (cap2 : Int)), (2, c)] _
          rw [show (if (nd 1000000000 v : Int) ≤ (cap2 : Int) then (nd 1000000000 v : Int) else (cap2 : Int)) = (nd 1000000000 v : Int) from if_pos (by omega)]
          refine ZE.put d_Big_follow_133 f_Big_15 (tg := 0) rfl trivial (Or.inl ⟨_, _, _, rfl, rfl, rfl⟩) hC.1 ?_
          show ZE (d + 1) M_Big_follow (gw G (up2 A1 c 1 (nd 1000000000 v : Int))) 136 [(2, b), (0, (y : Int)), (2, c), (0, (nd 1000000000 v : Int)), (1, (cry 1000000000 v u y i : Int)), (9, 0), (0, (i : Int)), (9, 0), (9, 0), (9, 0)] [] _
          refine ZE.vret d_Big_follow_136 rfl ?_
          refine k _ (gF.tr bF.fld.r) ⟨(up2_ne _ _ (by omega)).trans e0, (up2_ne _ _ (by omega)).trans (by rw [hnv]; exact e1), fun q hq => ?_⟩ ⟨(up2_ne _ _ (by omega)).trans k0, up2_at _ _ _ _, fun q hq => ?_⟩
          · rw [up2_ne _ _ (by omega)]; exact e2 q (by omega)
          · rw [up2_ne _ _ (by omega)]; exact k2 q (by omega)
        · refine ZE.iload d_Big_follow_31 rfl ?_
          refine ZE.iload_n d_Big_follow_33 rfl ?_
          refine ZE.icmp_lt (tgt := 44) d_Big_follow_34 rfl (by unfold zR; omega) (by unfold zR; omega) (fun c34 => ?_) (fun c34 => ?_)
          · have hiv2 : i + 1 ≤ nd 1000000000 v ∨ 1000000000 ^ (i + 1 - 1) ≤ v * y + u := Or.inl (by omega)
            obtain ⟨T, hT⟩ : ∃ T : Nat, T = dg 1000000000 v i * y + dg 1000000000 u i + cry 1000000000 v u y i := ⟨_, rfl⟩
            obtain ⟨s1, s2⟩ := mul_step (b := 1000000000) (by omega) v u y i
            rw [← hT] at s1 s2
            have hT2 : dg 1000000000 v i * y ≤ 1000000000 * y := Nat.mul_le_mul_right _ (by omega)
            refine ZE.aload_n d_Big_follow_44 rfl ?_
            refine ZE.iload d_Big_follow_45 rfl ?_
            refine ZE.cV [(0, (i : Int))] [] [(2, b), (0, (i : Int))] d_Big_follow_47 l_Big_25 rfl rfl rfl rfl rfl rfl hB.1 ?_
            refine B_limbR (s := max (nd 1000000000 v) i) (i := i) (z := dg 1000000000 v i) hB e0 e1 (by omega) (by omega) (fun q => e3 i (by omega) (by omega)) (fun q => dg_big (by omega) (by omega)) ?_
            show ZE (d + 1) M_Big_follow (gw G A1) 50 [(2, b), (0, (y : Int)), (2, c), (0, (nd 1000000000 v : Int)), (1, (cry 1000000000 v u y i : Int)), (9, 0), (0, (i : Int)), (9, 0), (9, 0), (9, 0)] [(0, (dg 1000000000 v i : Int))] _
            refine ZE.istore (ls2 := [(2, b), (0, (y : Int)), (2, c), (0, (nd 1000000000 v : Int)), (1, (cry 1000000000 v u y i : Int)), (9, 0), (0, (i : Int)), (0, (dg 1000000000 v i : Int)), (9, 0), (9, 0)]) d_Big_follow_50 (Nat.le_of_ble_eq_true rfl) rfl ?_
            refine ZE.lload d_Big_follow_52 rfl ?_
            refine ZE.iload d_Big_follow_54 rfl ?_
            refine ZE.i2l d_Big_follow_56 (by unfold zR; omega) ?_
            refine ZE.iload_n d_Big_follow_57 rfl ?_
            refine ZE.i2l d_Big_follow_58 (by unfold zR; omega) ?_
            refine ZE.lmul d_Big_follow_59 ?_
            refine ZE.ladd d_Big_follow_60 ?_
            refine ZE.aload_n d_Big_follow_61 rfl ?_
            refine ZE.iload d_Big_follow_62 rfl ?_
            refine ZE.cV [(0, (i : Int))] [(1, (cry 1000000000 v u y i : Int) + ((dg 1000000000 v i : Int) * (y : Int)))] [(2, c), (0, (i : Int))] d_Big_follow_64 l_Big_25 rfl rfl rfl rfl rfl rfl hC.1 ?_
            refine B_limbR (s := nd 1000000000 u) (i := i) (z := dg 1000000000 u i) hC k0 k1 (by omega) (by omega) (fun q => k3 i (by omega) (by omega)) (fun q => dg_big (by omega) (by omega)) ?_
            show ZE (d + 1) M_Big_follow (gw G A1) 67 [(2, b), (0, (y : Int)), (2, c), (0, (nd 1000000000 v : Int)), (1, (cry 1000000000 v u y i : Int)), (9, 0), (0, (i : Int)), (0, (dg 1000000000 v i : Int)), (9, 0), (9, 0)] [(0, (dg 1000000000 u i : Int)), (1, (cry 1000000000 v u y i : Int) + ((dg 1000000000 v i : Int) * (y : Int)))] _
            refine ZE.i2l d_Big_follow_67 (by unfold zR; omega) ?_
            refine ZE.ladd d_Big_follow_68 ?_
            rw [show (((cry 1000000000 v u y i : Int) + ((dg 1000000000 v i : Int) * (y : Int))) + (dg 1000000000 u i : Int) : Int) = (T : Int) from (by rw [hT]; simp only [Int.natCast_add, Int.natCast_mul]; omega)]
            refine ZE.lstore (ls2 := [(2, b), (0, (y : Int)), (2, c), (0, (nd 1000000000 v : Int)), (1, (cry 1000000000 v u y i : Int)), (9, 0), (0, (i : Int)), (0, (dg 1000000000 v i : Int)), (1, (T : Int)), (9, 0)]) d_Big_follow_69 (Nat.le_of_ble_eq_true rfl) rfl ?_
            refine ZE.aload_n d_Big_follow_71 rfl ?_
            refine ZE.getE (v := c + 1) d_Big_follow_72 f_Big_9 (tg := 2) rfl hC.1 k0 ?_
            refine ZE.iload d_Big_follow_75 rfl ?_
            refine ZE.iload d_Big_follow_77 rfl ?_
            refine ZE.iast d_Big_follow_79 hC.2.1 (by have hn0 := hC.2.2.1; show 0 ≤ (i : Int) ∧ (i : Int) < gn G (c + 1); omega) ?_
            show ZE (d + 1) M_Big_follow (gw G (up2 A1 (c + 1) (i : Int) (dg 1000000000 v i : Int))) 80 [(2, b), (0, (y : Int)), (2, c), (0, (nd 1000000000 v : Int)), (1, (cry 1000000000 v u y i : Int)), (9, 0), (0, (i : Int)), (0, (dg 1000000000 v i : Int)), (1, (T : Int)), (9, 0)] [] _
            refine ZE.aload_n d_Big_follow_80 rfl ?_
            refine ZE.getE (v := b + 1) d_Big_follow_81 f_Big_9 (tg := 2) rfl hB.1 ((up2_ne _ _ (by omega)).trans e0) ?_
            refine ZE.iload d_Big_follow_84 rfl ?_
            refine ZE.lload d_Big_follow_86 rfl ?_
            refine ZE.ldc2 (v := 1000000000) d_Big_follow_88 k_Big_29 ?_
            refine ZE.lremP d_Big_follow_91 (by omega) ?_
            rw [show ((T : Int) % 1000000000 : Int) = ((T % 1000000000 : Nat) : Int) from (by omega)]
            refine ZE.l2i d_Big_follow_92 ?_
            refine ZE.iast d_Big_follow_93 hB.2.1 (by have hn0 := hB.2.2.1; show 0 ≤ (i : Int) ∧ (i : Int) < gn G (b + 1); omega) ?_
            show ZE (d + 1) M_Big_follow (gw G (up2 (up2 A1 (c + 1) (i : Int) (dg 1000000000 v i : Int)) (b + 1) (i : Int) ((T % 1000000000 : Nat) : Int))) 94 [(2, b), (0, (y : Int)), (2, c), (0, (nd 1000000000 v : Int)), (1, (cry 1000000000 v u y i : Int)), (9, 0), (0, (i : Int)), (0, (dg 1000000000 v i : Int)), (1, (T : Int)), (9, 0)] [] _
            refine ZE.lload d_Big_follow_94 rfl ?_
            refine ZE.ldc2 (v := 1000000000) d_Big_follow_96 k_Big_29 ?_
            refine ZE.ldivP d_Big_follow_99 (by omega) ?_
            rw [show ((T : Int) / 1000000000 : Int) = ((T / 1000000000 : Nat) : Int) from (by omega)]
            refine ZE.lstore (ls2 := [(2, b), (0, (y : Int)), (2, c), (0, (nd 1000000000 v : Int)), (1, ((T / 1000000000 : Nat) : Int)), (9, 0), (0, (i : Int)), (0, (dg 1000000000 v i : Int)), (1, (T : Int)), (9, 0)]) d_Big_follow_100 (Nat.le_of_ble_eq_true rfl) rfl ?_
            refine ZE.aload_n d_Big_follow_102 rfl ?_
            refine ZE.aload_n d_Big_follow_103 rfl ?_
            refine ZE.getE (v := ((max (nd 1000000000 v) i : Nat) : Int)) d_Big_follow_104 f_Big_15 (tg := 0) rfl hB.1 ((up2_ne _ _ (by omega)).trans ((up2_ne _ _ (by omega)).trans e1)) ?_
            refine ZE.iload d_Big_follow_107 rfl ?_
            refine ZE.iconst (n := 1) d_Big_follow_109 ?_
            refine ZE.iadd d_Big_follow_110 ?_
            refine ZE.cS [(0, ((max (nd 1000000000 v) i : Nat) : Int)), (0, (i : Int) + 1)] [(2, b)] [(0, ((max (nd 1000000000 v) i : Nat) : Int)), (0, (i : Int) + 1)] d_Big_follow_111 l_Big_31 rfl rfl rfl rfl rfl rfl ?_
            refine j_max (by unfold zR; omega) (by unfold zR; omega) ?_
            show ZE (d + 1) M_Big_follow (gw G (up2 (up2 A1 (c + 1) (i : Int) (dg 1000000000 v i : Int)) (b + 1) (i : Int) ((T % 1000000000 : Nat) : Int))) 114 [(2, b), (0, (y : Int)), (2, c), (0, (nd 1000000000 v : Int)), (1, ((T / 1000000000 : Nat) : Int)), (9, 0), (0, (i : Int)), (0, (dg 1000000000 v i : Int)), (1, (T : Int)), (9, 0)] [(0, if (i : Int) + 1 ≤ ((max (nd 1000000000 v) i : Nat) : Int) then ((max (nd 1000000000 v) i : Nat) : Int) else (i : Int) + 1), (2, b)] _
            rw [show (if (i : Int) + 1 ≤ ((max (nd 1000000000 v) i : Nat) : Int) then ((max (nd 1000000000 v) i : Nat) : Int) else (i : Int) + 1) = ((max (nd 1000000000 v) (i + 1) : Nat) : Int) by split <;> omega]
            refine ZE.put d_Big_follow_114 f_Big_15 (tg := 0) rfl trivial (Or.inl ⟨_, _, _, rfl, rfl, rfl⟩) hB.1 ?_
            show ZE (d + 1) M_Big_follow (gw G (up2 (up2 (up2 A1 (c + 1) (i : Int) (dg 1000000000 v i : Int)) (b + 1) (i : Int) ((T % 1000000000 : Nat) : Int)) b 1 ((max (nd 1000000000 v) (i + 1) : Nat) : Int))) 117 [(2, b), (0, (y : Int)), (2, c), (0, (nd 1000000000 v : Int)), (1, ((T / 1000000000 : Nat) : Int)), (9, 0), (0, (i : Int)), (0, (dg 1000000000 v i : Int)), (1, (T : Int)), (9, 0)] [] _
            refine ZE.iinc (ls2 := [(2, b), (0, (y : Int)), (2, c), (0, (nd 1000000000 v : Int)), (1, ((T / 1000000000 : Nat) : Int)), (9, 0), (0, (i : Int) + 1), (0, (dg 1000000000 v i : Int)), (1, (T : Int)), (9, 0)]) d_Big_follow_117 rfl rfl ?_
            refine ZE.goto (tgt := 11) d_Big_follow_120 rfl ?_
            refine ZE.mask [true, true, true, true, true, true, true, false, false, true] ?_
            show ZE (d + 1) M_Big_follow (gw G (up2 (up2 (up2 A1 (c + 1) (i : Int) (dg 1000000000 v i : Int)) (b + 1) (i : Int) ((T % 1000000000 : Nat) : Int)) b 1 ((max (nd 1000000000 v) (i + 1) : Nat) : Int))) 11 [(2, b), (0, (y : Int)), (2, c), (0, (nd 1000000000 v : Int)), (1, ((T / 1000000000 : Nat) : Int)), (9, 0), (0, (i : Int) + 1), (9, 0), (9, 0), (9, 0)] [] _
            rw [show (i : Int) + 1 = ((i + 1 : Nat) : Int) by omega, s2]
            refine ih (i + 1) _ (by omega) (((gF.tr bF.row.r).tr bF.row.l).tr bF.fld.l) ((up2_ne _ _ (by omega)).trans ((up2_ne _ _ (by omega)).trans ((up2_ne _ _ (by omega)).trans e0))) ((up2_at _ _ _ _).trans (by omega)) ((up2_ne _ _ (by omega)).trans ((up2_ne _ _ (by omega)).trans ((up2_ne _ _ (by omega)).trans k0))) ((up2_ne _ _ (by omega)).trans ((up2_ne _ _ (by omega)).trans ((up2_ne _ _ (by omega)).trans k1))) ?_ ?_ ?_ ?_ hiv2 (by omega)
            · intro q hq; rw [up2_ne _ _ (by omega)]
              by_cases e : q = i
              · subst e; rw [up2_at]; exact congrArg Nat.cast s1
              · rw [up2_ne _ _ (by omega), up2_ne _ _ (by omega)]; exact e2 q (by omega)
            · intro q hq1 hq2; rw [up2_ne _ _ (by omega), up2_ne _ _ (by omega), up2_ne _ _ (by omega)]; exact e3 q (by omega) hq2
            · intro q hq; rw [up2_ne _ _ (by omega), up2_ne _ _ (by omega)]
              by_cases e : q = i
              · subst e; rw [up2_at]
              · rw [up2_ne _ _ (by omega)]; exact k2 q (by omega)
            · intro q hq1 hq2; rw [up2_ne _ _ (by omega), up2_ne _ _ (by omega), up2_ne _ _ (by omega)]; exact k3 q (by omega) hq2
          · refine ZE.lload d_Big_follow_37 rfl ?_
            refine ZE.lconst d_Big_follow_39 ?_
            show ZE (d + 1) M_Big_follow (gw G A1) 40 [(2, b), (0, (y : Int)), (2, c), (0, (nd 1000000000 v : Int)), (1, (cry 1000000000 v u y i : Int)), (9, 0), (0, (i : Int)), (9, 0), (9, 0), (9, 0)] [(1, 0), (1, (cry 1000000000 v u y i : Int))] _
            refine ZE.lcmp d_Big_follow_40 (by unfold zR64; omega) (by unfold zR64; omega) ?_
            refine ZE.if_le (tgt := 123) d_Big_follow_41 rfl (zR_zcmp _ _) (fun c41 => ?_) (fun c41 => ?_)
            · replace c41 := zcmp_le.mp c41
              have hlt : v * y + u < 1000000000 ^ i := cry_end (by omega) (by omega) (by omega) (by omega)
              have hiv0 : nd 1000000000 v ≤ i := by
                rcases Nat.lt_or_ge i (nd 1000000000 v) with q | q
                · have h3 := nd_ge (b := 1000000000) (by omega) q
                  have h4 : v * 1 ≤ v * y := Nat.mul_le_mul_left _ hy
                  omega
                · exact q
              have hnv : nd 1000000000 (v * y + u) = max (nd 1000000000 v) i := by
                refine nd_eq (by omega) (Nat.lt_of_lt_of_le hlt (Nat.pow_le_pow_right (by omega) (by omega))) ?_
                rcases Nat.eq_zero_or_pos i with q | q
                · left; omega
                · right
                  rw [show max (nd 1000000000 v) i = i by omega]
                  rcases hiv with q1 | q1
                  · have h3 := nd_ge (b := 1000000000) (by omega) (show i - 1 < nd 1000000000 v by omega)
                    have h4 : v * 1 ≤ v * y := Nat.mul_le_mul_left _ hy
                    omega
                  · exact q1
              refine ZE.aload_n d_Big_follow_123 rfl ?_
              refine ZE.iload_n d_Big_follow_124 rfl ?_
              refine ZE.aload_n d_Big_follow_125 rfl ?_
              refine ZE.getE (v := c + 1) d_Big_follow_126 f_Big_9 (tg := 2) rfl hC.1 k0 ?_
              refine ZE.alenE (v := (cap2 : Int)) d_Big_follow_129 (by have hk0 := hC.2.1; show 1 ≤ gk G (c + 1) ∧ gk G (c + 1) ≤ 6; omega) hC.2.2.1 ?_
              refine ZE.cS [(0, (nd 1000000000 v : Int)), (0, (cap2 : Int))] [(2, c)] [(0, (nd 1000000000 v : Int)), (0, (cap2 : Int))] d_Big_follow_130 l_Big_19 rfl rfl rfl rfl rfl rfl ?_
              refine j_min (by unfold zR; omega) (by unfold zR; omega) ?_
              show ZE (d + 1) M_Big_follow (gw G A1) 133 [(2, b), (0, (y : Int)), (2, c), (0, (nd 1000000000 v : Int)), (1, (cry 1000000000 v u y i : Int)), (9, 0), (0, (i : Int)), (9, 0), (9, 0), (9, 0)] [(0, if (nd 1000000000 v : Int) ≤ (cap2 : Int) then (nd 1000000000 v : Int) else (cap2 : Int)), (2, c)] _
              rw [show (if (nd 1000000000 v : Int) ≤ (cap2 : Int) then (nd 1000000000 v : Int) else (cap2 : Int)) = (nd 1000000000 v : Int) from if_pos (by omega)]
              refine ZE.put d_Big_follow_133 f_Big_15 (tg := 0) rfl trivial (Or.inl ⟨_, _, _, rfl, rfl, rfl⟩) hC.1 ?_
              show ZE (d + 1) M_Big_follow (gw G (up2 A1 c 1 (nd 1000000000 v : Int))) 136 [(2, b), (0, (y : Int)), (2, c), (0, (nd 1000000000 v : Int)), (1, (cry 1000000000 v u y i : Int)), (9, 0), (0, (i : Int)), (9, 0), (9, 0), (9, 0)] [] _
              refine ZE.vret d_Big_follow_136 rfl ?_
              refine k _ (gF.tr bF.fld.r) ⟨(up2_ne _ _ (by omega)).trans e0, (up2_ne _ _ (by omega)).trans (by rw [hnv]; exact e1), fun q hq => ?_⟩ ⟨(up2_ne _ _ (by omega)).trans k0, up2_at _ _ _ _, fun q hq => ?_⟩
              · rw [up2_ne _ _ (by omega)]; exact e2 q (by omega)
              · rw [up2_ne _ _ (by omega)]; exact k2 q (by omega)
            · replace c41 := (not_congr zcmp_le).mp c41
              have hiv2 : i + 1 ≤ nd 1000000000 v ∨ 1000000000 ^ (i + 1 - 1) ≤ v * y + u := Or.inr (by rw [Nat.add_sub_cancel]; exact cry_pos (b := 1000000000) (v := v) (w := u) (y := y) (i := i) (by omega) (by omega))
              obtain ⟨T, hT⟩ : ∃ T : Nat, T = dg 1000000000 v i * y + dg 1000000000 u i + cry 1000000000 v u y i := ⟨_, rfl⟩
              obtain ⟨s1, s2⟩ := mul_step (b := 1000000000) (by omega) v u y i
              rw [← hT] at s1 s2
              have hT2 : dg 1000000000 v i * y ≤ 1000000000 * y := Nat.mul_le_mul_right _ (by omega)
              refine ZE.aload_n d_Big_follow_44 rfl ?_
              refine ZE.iload d_Big_follow_45 rfl ?_
              refine ZE.cV [(0, (i : Int))] [] [(2, b), (0, (i : Int))] d_Big_follow_47 l_Big_25 rfl rfl rfl rfl rfl rfl hB.1 ?_
              refine B_limbR (s := max (nd 1000000000 v) i) (i := i) (z := dg 1000000000 v i) hB e0 e1 (by omega) (by omega) (fun q => e3 i (by omega) (by omega)) (fun q => dg_big (by omega) (by omega)) ?_
              show ZE (d + 1) M_Big_follow (gw G A1) 50 [(2, b), (0, (y : Int)), (2, c), (0, (nd 1000000000 v : Int)), (1, (cry 1000000000 v u y i : Int)), (9, 0), (0, (i : Int)), (9, 0), (9, 0), (9, 0)] [(0, (dg 1000000000 v i : Int))] _
              refine ZE.istore (ls2 := [(2, b), (0, (y : Int)), (2, c), (0, (nd 1000000000 v : Int)), (1, (cry 1000000000 v u y i : Int)), (9, 0), (0, (i : Int)), (0, (dg 1000000000 v i : Int)), (9, 0), (9, 0)]) d_Big_follow_50 (Nat.le_of_ble_eq_true rfl) rfl ?_
              refine ZE.lload d_Big_follow_52 rfl ?_
              refine ZE.iload d_Big_follow_54 rfl ?_
              refine ZE.i2l d_Big_follow_56 (by unfold zR; omega) ?_
              refine ZE.iload_n d_Big_follow_57 rfl ?_
              refine ZE.i2l d_Big_follow_58 (by unfold zR; omega) ?_
              refine ZE.lmul d_Big_follow_59 ?_
              refine ZE.ladd d_Big_follow_60 ?_
              refine ZE.aload_n d_Big_follow_61 rfl ?_
              refine ZE.iload d_Big_follow_62 rfl ?_
              refine ZE.cV [(0, (i : Int))] [(1, (cry 1000000000 v u y i : Int) + ((dg 1000000000 v i : Int) * (y : Int)))] [(2, c), (0, (i : Int))] d_Big_follow_64 l_Big_25 rfl rfl rfl rfl rfl rfl hC.1 ?_
              refine B_limbR (s := nd 1000000000 u) (i := i) (z := dg 1000000000 u i) hC k0 k1 (by omega) (by omega) (fun q => k3 i (by omega) (by omega)) (fun q => dg_big (by omega) (by omega)) ?_
              show ZE (d + 1) M_Big_follow (gw G A1) 67 [(2, b), (0, (y : Int)), (2, c), (0, (nd 1000000000 v : Int)), (1, (cry 1000000000 v u y i : Int)), (9, 0), (0, (i : Int)), (0, (dg 1000000000 v i : Int)), (9, 0), (9, 0)] [(0, (dg 1000000000 u i : Int)), (1, (cry 1000000000 v u y i : Int) + ((dg 1000000000 v i : Int) * (y : Int)))] _
              refine ZE.i2l d_Big_follow_67 (by unfold zR; omega) ?_
              refine ZE.ladd d_Big_follow_68 ?_
              rw [show (((cry 1000000000 v u y i : Int) + ((dg 1000000000 v i : Int) * (y : Int))) + (dg 1000000000 u i : Int) : Int) = (T : Int) from (by rw [hT]; simp only [Int.natCast_add, Int.natCast_mul]; omega)]
              refine ZE.lstore (ls2 := [(2, b), (0, (y : Int)), (2, c), (0, (nd 1000000000 v : Int)), (1, (cry 1000000000 v u y i : Int)), (9, 0), (0, (i : Int)), (0, (dg 1000000000 v i : Int)), (1, (T : Int)), (9, 0)]) d_Big_follow_69 (Nat.le_of_ble_eq_true rfl) rfl ?_
              refine ZE.aload_n d_Big_follow_71 rfl ?_
              refine ZE.getE (v := c + 1) d_Big_follow_72 f_Big_9 (tg := 2) rfl hC.1 k0 ?_
              refine ZE.iload d_Big_follow_75 rfl ?_
              refine ZE.iload d_Big_follow_77 rfl ?_
              refine ZE.iast d_Big_follow_79 hC.2.1 (by have hn0 := hC.2.2.1; show 0 ≤ (i : Int) ∧ (i : Int) < gn G (c + 1); omega) ?_
              show ZE (d + 1) M_Big_follow (gw G (up2 A1 (c + 1) (i : Int) (dg 1000000000 v i : Int))) 80 [(2, b), (0, (y : Int)), (2, c), (0, (nd 1000000000 v : Int)), (1, (cry 1000000000 v u y i : Int)), (9, 0), (0, (i : Int)), (0, (dg 1000000000 v i : Int)), (1, (T : Int)), (9, 0)] [] _
              refine ZE.aload_n d_Big_follow_80 rfl ?_
              refine ZE.getE (v := b + 1) d_Big_follow_81 f_Big_9 (tg := 2) rfl hB.1 ((up2_ne _ _ (by omega)).trans e0) ?_
              refine ZE.iload d_Big_follow_84 rfl ?_
              refine ZE.lload d_Big_follow_86 rfl ?_
              refine ZE.ldc2 (v := 1000000000) d_Big_follow_88 k_Big_29 ?_
              refine ZE.lremP d_Big_follow_91 (by omega) ?_
              rw [show ((T : Int) % 1000000000 : Int) = ((T % 1000000000 : Nat) : Int) from (by omega)]
              refine ZE.l2i d_Big_follow_92 ?_
              refine ZE.iast d_Big_follow_93 hB.2.1 (by have hn0 := hB.2.2.1; show 0 ≤ (i : Int) ∧ (i : Int) < gn G (b + 1); omega) ?_
              show ZE (d + 1) M_Big_follow (gw G (up2 (up2 A1 (c + 1) (i : Int) (dg 1000000000 v i : Int)) (b + 1) (i : Int) ((T % 1000000000 : Nat) : Int))) 94 [(2, b), (0, (y : Int)), (2, c), (0, (nd 1000000000 v : Int)), (1, (cry 1000000000 v u y i : Int)), (9, 0), (0, (i : Int)), (0, (dg 1000000000 v i : Int)), (1, (T : Int)), (9, 0)] [] _
              refine ZE.lload d_Big_follow_94 rfl ?_
              refine ZE.ldc2 (v := 1000000000) d_Big_follow_96 k_Big_29 ?_
              refine ZE.ldivP d_Big_follow_99 (by omega) ?_
              rw [show ((T : Int) / 1000000000 : Int) = ((T / 1000000000 : Nat) : Int) from (by omega)]
              refine ZE.lstore (ls2 := [(2, b), (0, (y : Int)), (2, c), (0, (nd 1000000000 v : Int)), (1, ((T / 1000000000 : Nat) : Int)), (9, 0), (0, (i : Int)), (0, (dg 1000000000 v i : Int)), (1, (T : Int)), (9, 0)]) d_Big_follow_100 (Nat.le_of_ble_eq_true rfl) rfl ?_
              refine ZE.aload_n d_Big_follow_102 rfl ?_
              refine ZE.aload_n d_Big_follow_103 rfl ?_
              refine ZE.getE (v := ((max (nd 1000000000 v) i : Nat) : Int)) d_Big_follow_104 f_Big_15 (tg := 0) rfl hB.1 ((up2_ne _ _ (by omega)).trans ((up2_ne _ _ (by omega)).trans e1)) ?_
              refine ZE.iload d_Big_follow_107 rfl ?_
              refine ZE.iconst (n := 1) d_Big_follow_109 ?_
              refine ZE.iadd d_Big_follow_110 ?_
              refine ZE.cS [(0, ((max (nd 1000000000 v) i : Nat) : Int)), (0, (i : Int) + 1)] [(2, b)] [(0, ((max (nd 1000000000 v) i : Nat) : Int)), (0, (i : Int) + 1)] d_Big_follow_111 l_Big_31 rfl rfl rfl rfl rfl rfl ?_
              refine j_max (by unfold zR; omega) (by unfold zR; omega) ?_
              show ZE (d + 1) M_Big_follow (gw G (up2 (up2 A1 (c + 1) (i : Int) (dg 1000000000 v i : Int)) (b + 1) (i : Int) ((T % 1000000000 : Nat) : Int))) 114 [(2, b), (0, (y : Int)), (2, c), (0, (nd 1000000000 v : Int)), (1, ((T / 1000000000 : Nat) : Int)), (9, 0), (0, (i : Int)), (0, (dg 1000000000 v i : Int)), (1, (T : Int)), (9, 0)] [(0, if (i : Int) + 1 ≤ ((max (nd 1000000000 v) i : Nat) : Int) then ((max (nd 1000000000 v) i : Nat) : Int) else (i : Int) + 1), (2, b)] _
              rw [show (if (i : Int) + 1 ≤ ((max (nd 1000000000 v) i : Nat) : Int) then ((max (nd 1000000000 v) i : Nat) : Int) else (i : Int) + 1) = ((max (nd 1000000000 v) (i + 1) : Nat) : Int) by split <;> omega]
              refine ZE.put d_Big_follow_114 f_Big_15 (tg := 0) rfl trivial (Or.inl ⟨_, _, _, rfl, rfl, rfl⟩) hB.1 ?_
              show ZE (d + 1) M_Big_follow (gw G (up2 (up2 (up2 A1 (c + 1) (i : Int) (dg 1000000000 v i : Int)) (b + 1) (i : Int) ((T % 1000000000 : Nat) : Int)) b 1 ((max (nd 1000000000 v) (i + 1) : Nat) : Int))) 117 [(2, b), (0, (y : Int)), (2, c), (0, (nd 1000000000 v : Int)), (1, ((T / 1000000000 : Nat) : Int)), (9, 0), (0, (i : Int)), (0, (dg 1000000000 v i : Int)), (1, (T : Int)), (9, 0)] [] _
              refine ZE.iinc (ls2 := [(2, b), (0, (y : Int)), (2, c), (0, (nd 1000000000 v : Int)), (1, ((T / 1000000000 : Nat) : Int)), (9, 0), (0, (i : Int) + 1), (0, (dg 1000000000 v i : Int)), (1, (T : Int)), (9, 0)]) d_Big_follow_117 rfl rfl ?_
              refine ZE.goto (tgt := 11) d_Big_follow_120 rfl ?_
              refine ZE.mask [true, true, true, true, true, true, true, false, false, true] ?_
              show ZE (d + 1) M_Big_follow (gw G (up2 (up2 (up2 A1 (c + 1) (i : Int) (dg 1000000000 v i : Int)) (b + 1) (i : Int) ((T % 1000000000 : Nat) : Int)) b 1 ((max (nd 1000000000 v) (i + 1) : Nat) : Int))) 11 [(2, b), (0, (y : Int)), (2, c), (0, (nd 1000000000 v : Int)), (1, ((T / 1000000000 : Nat) : Int)), (9, 0), (0, (i : Int) + 1), (9, 0), (9, 0), (9, 0)] [] _
              rw [show (i : Int) + 1 = ((i + 1 : Nat) : Int) by omega, s2]
              refine ih (i + 1) _ (by omega) (((gF.tr bF.row.r).tr bF.row.l).tr bF.fld.l) ((up2_ne _ _ (by omega)).trans ((up2_ne _ _ (by omega)).trans ((up2_ne _ _ (by omega)).trans e0))) ((up2_at _ _ _ _).trans (by omega)) ((up2_ne _ _ (by omega)).trans ((up2_ne _ _ (by omega)).trans ((up2_ne _ _ (by omega)).trans k0))) ((up2_ne _ _ (by omega)).trans ((up2_ne _ _ (by omega)).trans ((up2_ne _ _ (by omega)).trans k1))) ?_ ?_ ?_ ?_ hiv2 (by omega)
              · intro q hq; rw [up2_ne _ _ (by omega)]
                by_cases e : q = i
                · subst e; rw [up2_at]; exact congrArg Nat.cast s1
                · rw [up2_ne _ _ (by omega), up2_ne _ _ (by omega)]; exact e2 q (by omega)
              · intro q hq1 hq2; rw [up2_ne _ _ (by omega), up2_ne _ _ (by omega), up2_ne _ _ (by omega)]; exact e3 q (by omega) hq2
              · intro q hq; rw [up2_ne _ _ (by omega), up2_ne _ _ (by omega)]
                by_cases e : q = i
                · subst e; rw [up2_at]
                · rw [up2_ne _ _ (by omega)]; exact k2 q (by omega)
              · intro q hq1 hq2; rw [up2_ne _ _ (by omega), up2_ne _ _ (by omega), up2_ne _ _ (by omega)]; exact k3 q (by omega) hq2
  have L0 := L11 _ 0 A (by omega) bF.rf.l hv.1 (by rw [hv.2.1]; omega) hu.1 hu.2.1 (fun q h => absurd h (Nat.not_lt_zero _)) (fun q _ h => hv.2.2 q h) (fun q h => absurd h (Nat.not_lt_zero _)) (fun q _ h => hu.2.2 q h) (Or.inl (Nat.zero_le _)) (Nat.lt_succ_self _)
  rw [cry_0] at L0
  exact L0
set_option maxRecDepth 20000 in
set_option maxHeartbeats 4000000 in
theorem B_load {d : Nat} {G : zG} {A : Int → Int → Int} {P : Option zV → zG → Prop}  {b : Int} {cap : Nat} (hB : bK G b cap) (h0 : A b 0 = b + 1) {r : Int} {len fr : Nat} (hk : gk G r = 1) (hn : gn G r = (len : Int)) (hl : len ≤ 100000) {v : Nat} (hr : ∀ q : Nat, q < nd 1000000000 v → A r (fr + q) = (dg 1000000000 v q : Int)) (h9 : nd 1000000000 v ≤ cap) (hfr : fr + nd 1000000000 v ≤ len) (hne : r ≠ b ∧ r ≠ b + 1) (k : ∀ A2, bF A A2 b → bN A2 b v → P none (gw G A2)) : ZE d M_Big_load (gw G A) 0 [(2, b), (2, r), (0, (fr : Int)), (0, (nd 1000000000 v : Int)), (9, 0)] [] P := by
  have hcp := hB.2.2.2.2.2
  refine ZE.aload_n d_Big_load_0 rfl ?_
  refine ZE.iconst (n := 0) d_Big_load_1 ?_
  refine ZE.put d_Big_load_2 f_Big_15 (tg := 0) rfl trivial (Or.inl ⟨_, _, _, rfl, rfl, rfl⟩) hB.1 ?_
  show ZE d M_Big_load (gw G (up2 A b 1 0)) 5 [(2, b), (2, r), (0, (fr : Int)), (0, (nd 1000000000 v : Int)), (9, 0)] [] _
  refine ZE.iconst (n := 0) d_Big_load_5 ?_
  refine ZE.istore (ls2 := [(2, b), (2, r), (0, (fr : Int)), (0, (nd 1000000000 v : Int)), (0, 0)]) d_Big_load_6 (Nat.le_of_ble_eq_true rfl) rfl ?_
  have L8 : ∀ (t : Nat) (j : Nat) (A1 : Int → Int → Int) (hj : j ≤ nd 1000000000 v) (gF : bF A A1 b) (e0 : A1 b 0 = b + 1) (e1 : A1 b 1 = (j : Int)) (e2 : ∀ q : Nat, q < j → A1 (b + 1) q = (dg 1000000000 v q : Int)), nd 1000000000 v - j < t → ZE d M_Big_load (gw G A1) 8 [(2, b), (2, r), (0, (fr : Int)), (0, (nd 1000000000 v : Int)), (0, (j : Int))] [] P := by
    intro t
    induction t with
    | zero => intro j A1 hj gF e0 e1 e2 hm; exact absurd hm (Nat.not_lt_zero _)
    | succ t ih =>
      intro j A1 hj gF e0 e1 e2 hm
      have hrr : A1 r = A r := gF r (by omega) (by omega)
      refine ZE.iload d_Big_load_8 rfl ?_
      refine ZE.iload_n d_Big_load_10 rfl ?_
      refine ZE.icmp_ge (tgt := 64) d_Big_load_11 rfl (by unfold zR; omega) (by unfold zR; omega) (fun c11 => ?_) (fun c11 => ?_)
      · have hjn : j = nd 1000000000 v := by omega
        refine ZE.vret d_Big_load_64 rfl ?_
        exact k A1 gF ⟨e0, by rw [e1, hjn], fun q hq => e2 q (by omega)⟩
      · refine ZE.iload d_Big_load_14 rfl ?_
        refine ZE.aload_n d_Big_load_16 rfl ?_
        refine ZE.getE (v := b + 1) d_Big_load_17 f_Big_9 (tg := 2) rfl hB.1 e0 ?_
        refine ZE.alenE (v := (cap : Int)) d_Big_load_20 (by have hk0 := hB.2.1; show 1 ≤ gk G (b + 1) ∧ gk G (b + 1) ≤ 6; omega) hB.2.2.1 ?_
        refine ZE.icmp_ge (tgt := 64) d_Big_load_21 rfl (by unfold zR; omega) (by unfold zR; omega) (fun c21 => ?_) (fun c21 => ?_)
        · exact absurd c21 (by omega)
        · refine ZE.iload_n d_Big_load_24 rfl ?_
          refine ZE.if_lt (tgt := 64) d_Big_load_25 rfl (by unfold zR; omega) (fun c25 => ?_) (fun c25 => ?_)
          · exact absurd c25 (by omega)
          · refine ZE.iload_n d_Big_load_28 rfl ?_
            refine ZE.aload_n d_Big_load_29 rfl ?_
            refine ZE.alenE (v := (len : Int)) d_Big_load_30 (by have hk0 := hk; show 1 ≤ gk G (r) ∧ gk G (r) ≤ 6; omega) hn ?_
            refine ZE.iload d_Big_load_31 rfl ?_
            refine ZE.isub d_Big_load_33 ?_
            refine ZE.icmp_ge (tgt := 64) d_Big_load_34 rfl (by unfold zR; omega) (by unfold zR; omega) (fun c34 => ?_) (fun c34 => ?_)
            · exact absurd c34 (by omega)
            · refine ZE.aload_n d_Big_load_37 rfl ?_
              refine ZE.getE (v := b + 1) d_Big_load_38 f_Big_9 (tg := 2) rfl hB.1 e0 ?_
              refine ZE.iload d_Big_load_41 rfl ?_
              refine ZE.aload_n d_Big_load_43 rfl ?_
              refine ZE.iload_n d_Big_load_44 rfl ?_
              refine ZE.iload d_Big_load_45 rfl ?_
              refine ZE.iadd d_Big_load_47 ?_
              refine ZE.ialdE (v := (dg 1000000000 v j : Int)) d_Big_load_48 hk (by have hn0 := hn; show 0 ≤ ((fr : Int) + (j : Int)) ∧ ((fr : Int) + (j : Int)) < gn G (r); omega) (by show A1 r ((fr : Int) + (j : Int)) = _; rw [hrr]; exact hr j (by omega)) ?_
              refine ZE.iast d_Big_load_49 hB.2.1 (by have hn0 := hB.2.2.1; show 0 ≤ (j : Int) ∧ (j : Int) < gn G (b + 1); omega) ?_
              show ZE d M_Big_load (gw G (up2 A1 (b + 1) (j : Int) (dg 1000000000 v j : Int))) 50 [(2, b), (2, r), (0, (fr : Int)), (0, (nd 1000000000 v : Int)), (0, (j : Int))] [] _
              refine ZE.aload_n d_Big_load_50 rfl ?_
              refine ZE.iload d_Big_load_51 rfl ?_
              refine ZE.iconst (n := 1) d_Big_load_53 ?_
              refine ZE.iadd d_Big_load_54 ?_
              refine ZE.put d_Big_load_55 f_Big_15 (tg := 0) rfl trivial (Or.inl ⟨_, _, _, rfl, rfl, rfl⟩) hB.1 ?_
              show ZE d M_Big_load (gw G (up2 (up2 A1 (b + 1) (j : Int) (dg 1000000000 v j : Int)) b 1 ((j : Int) + 1))) 58 [(2, b), (2, r), (0, (fr : Int)), (0, (nd 1000000000 v : Int)), (0, (j : Int))] [] _
              refine ZE.iinc (ls2 := [(2, b), (2, r), (0, (fr : Int)), (0, (nd 1000000000 v : Int)), (0, (j : Int) + 1)]) d_Big_load_58 rfl rfl ?_
              refine ZE.goto (tgt := 8) d_Big_load_61 rfl ?_
              rw [show (j : Int) + 1 = ((j + 1 : Nat) : Int) by omega]
              refine ih (j + 1) _ (by omega) ((gF.tr bF.row).tr bF.fld) ((up2_ne _ _ (by omega)).trans ((up2_ne _ _ (by omega)).trans e0)) ((up2_at _ _ _ _).trans (by omega)) ?_ (by omega)
              intro q hq; rw [up2_ne _ _ (by omega)]
              by_cases e : q = j
              · subst e; exact up2_at _ _ _ _
              · rw [up2_ne _ _ (by omega)]; exact e2 q (by omega)
  exact L8 _ 0 (up2 A b 1 0) (by omega) bF.fld ((up2_ne _ _ (by omega)).trans h0) (up2_at _ _ _ _) (fun q h => absurd h (Nat.not_lt_zero _)) (Nat.lt_succ_self _)
set_option maxRecDepth 20000 in
set_option maxHeartbeats 4000000 in
theorem B_store {d : Nat} {G : zG} {A : Int → Int → Int} {P : Option zV → zG → Prop}  {b : Int} {cap : Nat} (hB : bK G b cap) {v : Nat} (hv : bN A b v) {r : Int} {len fr : Nat} (hk : gk G r = 1) (hn : gn G r = (len : Int)) (hl : len ≤ 100000) (h9 : nd 1000000000 v ≤ cap) (hfr : fr + nd 1000000000 v ≤ len) (hne : r ≠ b ∧ r ≠ b + 1) (k : ∀ A2, (∀ a : Int, a ≠ r → A2 a = A a) → (∀ q : Nat, q < nd 1000000000 v → A2 r (fr + q) = (dg 1000000000 v q : Int)) → (∀ q : Int, (q < fr ∨ (fr : Int) + nd 1000000000 v ≤ q) → A2 r q = A r q) → P (some (0, (nd 1000000000 v : Int))) (gw G A2)) : ZE d M_Big_store (gw G A) 0 [(2, b), (2, r), (0, (fr : Int)), (9, 0)] [] P := by
  have hcp := hB.2.2.2.2.2
  refine ZE.iconst (n := 0) d_Big_store_0 ?_
  refine ZE.istore_n (ls2 := [(2, b), (2, r), (0, (fr : Int)), (0, 0)]) d_Big_store_1 (Nat.le_of_ble_eq_true rfl) rfl ?_
  have L2 : ∀ (t : Nat) (j : Nat) (A1 : Int → Int → Int) (hj : j ≤ nd 1000000000 v) (gr : ∀ a : Int, a ≠ r → A1 a = A a) (e2 : ∀ q : Nat, q < j → A1 r (fr + q) = (dg 1000000000 v q : Int)) (e3 : ∀ q : Int, (q < fr ∨ (fr : Int) + j ≤ q) → A1 r q = A r q), nd 1000000000 v - j < t → ZE d M_Big_store (gw G A1) 2 [(2, b), (2, r), (0, (fr : Int)), (0, (j : Int))] [] P := by
    intro t
    induction t with
    | zero => intro j A1 hj gr e2 e3 hm; exact absurd hm (Nat.not_lt_zero _)
    | succ t ih =>
      intro j A1 hj gr e2 e3 hm
      refine ZE.iload_n d_Big_store_2 rfl ?_
      refine ZE.aload_n d_Big_store_3 rfl ?_
      refine ZE.getE (v := (nd 1000000000 v : Int)) d_Big_store_4 f_Big_15 (tg := 0) rfl hB.1 ((congrFun (gr b (by omega)) _).trans hv.2.1) ?_
      refine ZE.icmp_ge (tgt := 48) d_Big_store_7 rfl (by unfold zR; omega) (by unfold zR; omega) (fun c7 => ?_) (fun c7 => ?_)
      · have hjn : j = nd 1000000000 v := by omega
        refine ZE.aload_n d_Big_store_48 rfl ?_
        refine ZE.getE (v := (nd 1000000000 v : Int)) d_Big_store_49 f_Big_15 (tg := 0) rfl hB.1 ((congrFun (gr b (by omega)) _).trans hv.2.1) ?_
        refine ZE.iret d_Big_store_52 rfl ?_
        exact k A1 gr (fun q hq => e2 q (by omega)) (fun q hq => e3 q (by omega))
      · refine ZE.iload_n d_Big_store_10 rfl ?_
        refine ZE.aload_n d_Big_store_11 rfl ?_
        refine ZE.getE (v := b + 1) d_Big_store_12 f_Big_9 (tg := 2) rfl hB.1 ((congrFun (gr b (by omega)) _).trans hv.1) ?_
        refine ZE.alenE (v := (cap : Int)) d_Big_store_15 (by have hk0 := hB.2.1; show 1 ≤ gk G (b + 1) ∧ gk G (b + 1) ≤ 6; omega) hB.2.2.1 ?_
        refine ZE.icmp_ge (tgt := 48) d_Big_store_16 rfl (by unfold zR; omega) (by unfold zR; omega) (fun c16 => ?_) (fun c16 => ?_)
        · exact absurd c16 (by omega)
        · refine ZE.iload_n d_Big_store_19 rfl ?_
          refine ZE.if_lt (tgt := 48) d_Big_store_20 rfl (by unfold zR; omega) (fun c20 => ?_) (fun c20 => ?_)
          · exact absurd c20 (by omega)
          · refine ZE.iload_n d_Big_store_23 rfl ?_
            refine ZE.aload_n d_Big_store_24 rfl ?_
            refine ZE.alenE (v := (len : Int)) d_Big_store_25 (by have hk0 := hk; show 1 ≤ gk G (r) ∧ gk G (r) ≤ 6; omega) hn ?_
            refine ZE.iload_n d_Big_store_26 rfl ?_
            refine ZE.isub d_Big_store_27 ?_
            refine ZE.icmp_ge (tgt := 48) d_Big_store_28 rfl (by unfold zR; omega) (by unfold zR; omega) (fun c28 => ?_) (fun c28 => ?_)
            · exact absurd c28 (by omega)
            · refine ZE.aload_n d_Big_store_31 rfl ?_
              refine ZE.iload_n d_Big_store_32 rfl ?_
              refine ZE.iload_n d_Big_store_33 rfl ?_
              refine ZE.iadd d_Big_store_34 ?_
              refine ZE.aload_n d_Big_store_35 rfl ?_
              refine ZE.getE (v := b + 1) d_Big_store_36 f_Big_9 (tg := 2) rfl hB.1 ((congrFun (gr b (by omega)) _).trans hv.1) ?_
              refine ZE.iload_n d_Big_store_39 rfl ?_
              refine ZE.ialdE (v := (dg 1000000000 v j : Int)) d_Big_store_40 hB.2.1 (by have hn0 := hB.2.2.1; show 0 ≤ (j : Int) ∧ (j : Int) < gn G (b + 1); omega) (by show A1 (b + 1) (j : Int) = _; rw [gr (b + 1) (by omega)]; exact hv.2.2 j (by omega)) ?_
              refine ZE.iast d_Big_store_41 hk (by have hn0 := hn; show 0 ≤ ((fr : Int) + (j : Int)) ∧ ((fr : Int) + (j : Int)) < gn G (r); omega) ?_
              show ZE d M_Big_store (gw G (up2 A1 r ((fr : Int) + (j : Int)) (dg 1000000000 v j : Int))) 42 [(2, b), (2, r), (0, (fr : Int)), (0, (j : Int))] [] _
              refine ZE.iinc (ls2 := [(2, b), (2, r), (0, (fr : Int)), (0, (j : Int) + 1)]) d_Big_store_42 rfl rfl ?_
              refine ZE.goto (tgt := 2) d_Big_store_45 rfl ?_
              rw [show (j : Int) + 1 = ((j + 1 : Nat) : Int) by omega]
              refine ih (j + 1) _ (by omega) (fun a ha => (show up2 A1 r ((fr : Int) + (j : Int)) (dg 1000000000 v j : Int) a = A1 a by rw [up2_A, upA_ne _ _ ha]).trans (gr a ha)) ?_ ?_ (by omega)
              · intro q hq
                by_cases e : q = j
                · subst e; exact up2_at _ _ _ _
                · rw [up2_ne _ _ (by omega)]; exact e2 q (by omega)
              · intro q hq
                rw [up2_ne _ _ (by omega)]; exact e3 q (by omega)
  exact L2 _ 0 A (by omega) (fun _ _ => rfl) (fun q h => absurd h (Nat.not_lt_zero _)) (fun _ _ => rfl) (Nat.lt_succ_self _)
set_option maxRecDepth 20000 in
set_option maxHeartbeats 4000000 in
theorem B_init {d : Nat} {G : zG} {A : Int → Int → Int} {P : Option zV → zG → Prop} {b : Int} {cap : Nat} (hz : (gz G : Int) = b + 1) (h0 : 0 ≤ b) (hk : gk G b = 10) (hc : 1 ≤ cap ∧ cap ≤ 100) (hs : A b 1 = 0) (k : ∀ G2 A2, bK G2 b cap → bN A2 b 0 → gR G G2 1 cap → (∀ a : Int, a < b → A2 a = A a) → P none (gw G2 A2)) : ZE (d + 1) M_Big_init (gw G A) 0 [(2, b), (0, (cap : Int))] [] P := by
  refine ZE.aload_n d_Big_init_0 rfl ?_
  refine ZE.objInit d_Big_init_1 o_Big_3 (by omega) (Nat.le_of_ble_eq_true rfl) ?_
  refine ZE.aload_n d_Big_init_4 rfl ?_
  refine ZE.iload_n d_Big_init_5 rfl ?_
  refine ZE.if_le (tgt := 13) d_Big_init_6 rfl (by unfold zR; omega) (fun c6 => ?_) (fun c6 => ?_)
  · exact absurd c6 (by omega)
  · refine ZE.iload_n d_Big_init_9 rfl ?_
    refine ZE.goto (tgt := 14) d_Big_init_10 rfl ?_
    refine ZE.newI (n := cap) d_Big_init_14 rfl (by omega) ?_
    rw [gnew_gw, show (gz (gw G A) : Int) = (gz G : Int) from rfl, hz]
    obtain ⟨G1, hE⟩ : ∃ H1, H1 = gnew G 1 cap (fun _ => 0) := ⟨_, rfl⟩
    rw [← hE]
    have hgr : gR G G1 1 cap := by rw [hE]; exact gR.new
    have hk1 : gk G1 b = 10 := (hgr.2.2.1 b (by omega)).1.trans hk
    have hk2 : gk G1 (b + 1) = 1 ∧ gn G1 (b + 1) = (cap : Int) := by rw [hE, ← hz]; exact ⟨gnew_gk, gnew_gn⟩
    refine ZE.put d_Big_init_16 f_Big_9 (tg := 2) rfl trivial (Or.inr ⟨⟨_, _, _, rfl, rfl, rfl⟩, rfl⟩) hk1 ?_
    show ZE (d + 1) M_Big_init (gw G1 (up2 (upA A (b + 1) (fun _ => 0)) b 0 (b + 1))) 19 [(2, b), (0, (cap : Int))] [] _
    refine ZE.vret d_Big_init_19 rfl ?_
    refine k G1 _ ⟨hk1, hk2.1, hk2.2, h0, hc⟩ ⟨up2_at _ _ _ _, ?_, fun q hq => absurd hq (Nat.not_lt_zero _)⟩ hgr (fun a ha => ?_)
    · rw [up2_ne _ _ (by omega), upA_ne _ _ (by omega)]; exact hs
    · rw [up2_A, upA_ne _ _ (by omega), upA_ne _ _ (by omega)]
