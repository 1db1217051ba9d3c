theorem cry_end {b v w y i : Nat} (hb : 2 ≤ b) (hv : nd b v ≤ i) (hw : nd b w ≤ i) (hc : cry b v w y i = 0) : v * y + w < b ^ i := by
  have h1 : v < b ^ i := (nd_lt hb i v).mpr hv
  have h2 : w < b ^ i := (nd_lt hb i w).mpr hw
  unfold cry at hc
  rw [Nat.mod_eq_of_lt h1, Nat.mod_eq_of_lt h2] at hc
  rcases Nat.lt_or_ge (v * y + w) (b ^ i) with q | q
  · exact q
  · have := Nat.div_pos q (Nat.pow_pos (by omega)); omega
theorem cry_pos {b v w y i : Nat} (hb : 2 ≤ b) (hc : 0 < cry b v w y i) : b ^ i ≤ v * y + w := by
  unfold cry at hc
  have h0 : 0 < b ^ i := Nat.pow_pos (by omega)
  rcases Nat.lt_or_ge (v % b ^ i * y + w % b ^ i) (b ^ i) with q | q
  · rw [Nat.div_eq_of_lt q] at hc; omega
  · have h1 : v % b ^ i * y ≤ v * y := Nat.mul_le_mul_right _ (Nat.mod_le _ _)
    have h2 : w % b ^ i ≤ w := Nat.mod_le _ _
    omega
theorem B_limbR {d : Nat} {G : zG} {A : Int → Int → Int} {P : Option zV → zG → Prop} {b : Int} {cap : Nat} (hB : bK G b cap) (h0 : A b 0 = b + 1) {s i : Nat} (h1 : A b 1 = (s : Int)) (hs : s ≤ cap) (hi : i < 2147483648) {z : Nat} (hz : i < s → A (b + 1) i = (z : Int)) (hn : ¬ i < s → z = 0) (k : P (some (0, (z : Int))) (gw G A)) : ZE d M_Big_limbAt (gw G A) 0 [(2, b), (0, (i : Int))] [] P := by
  have hcp := hB.2.2.2.2.2
  refine ZE.iload_n d_Big_limbAt_0 rfl ?_
  refine ZE.if_lt (tgt := 30) d_Big_limbAt_1 rfl (by unfold zR; omega) (fun c1 => ?_) (fun c1 => ?_)
  · exact absurd c1 (by omega)
  · refine ZE.iload_n d_Big_limbAt_4 rfl ?_
    refine ZE.aload_n d_Big_limbAt_5 rfl ?_
    refine ZE.getE (v := (s : Int)) d_Big_limbAt_6 f_Big_15 (tg := 0) rfl hB.1 h1 ?_
    refine ZE.icmp_ge (tgt := 30) d_Big_limbAt_9 rfl (by unfold zR; omega) (by unfold zR; omega) (fun c9 => ?_) (fun c9 => ?_)
    · refine ZE.iconst (n := 0) d_Big_limbAt_30 ?_
      refine ZE.iret d_Big_limbAt_31 rfl ?_
      have hz0 := hn (by omega)
      subst hz0
      exact k
    · refine ZE.iload_n d_Big_limbAt_12 rfl ?_
      refine ZE.aload_n d_Big_limbAt_13 rfl ?_
      refine ZE.getE (v := b + 1) d_Big_limbAt_14 f_Big_9 (tg := 2) rfl hB.1 h0 ?_
      refine ZE.alenE (v := (cap : Int)) d_Big_limbAt_17 (by have hk0 := hB.2.1; show 1 ≤ gk G (b + 1) ∧ gk G (b + 1) ≤ 6; omega) hB.2.2.1 ?_
      refine ZE.icmp_ge (tgt := 30) d_Big_limbAt_18 rfl (by unfold zR; omega) (by unfold zR; omega) (fun c18 => ?_) (fun c18 => ?_)
      · exact absurd c18 (by omega)
      · refine ZE.aload_n d_Big_limbAt_21 rfl ?_
        refine ZE.getE (v := b + 1) d_Big_limbAt_22 f_Big_9 (tg := 2) rfl hB.1 h0 ?_
        refine ZE.iload_n d_Big_limbAt_25 rfl ?_
        refine ZE.ialdE (v := (z : Int)) d_Big_limbAt_26 hB.2.1 (by have hn0 := hB.2.2.1; show 0 ≤ (i : Int) ∧ (i : Int) < gn G (b + 1); omega) (hz (by omega)) ?_
        refine ZE.goto (tgt := 31) d_Big_limbAt_27 rfl ?_
        refine ZE.iret d_Big_limbAt_31 rfl ?_
        exact k
set_option maxRecDepth 20000 in
set_option maxHeartbeats 4000000 in
theorem B_multiply {d : Nat} {G : zG} {A : Int → Int → Int} {P : Option zV → zG → Prop}  {b : Int} {cap : Nat} (hB : bK G b cap) {v : Nat} (hv : bN A b v) {f : Nat} (hf : 1 ≤ f) (hf2 : f < 2147483648) (h9 : nd 1000000000 v ≤ cap) (h92 : nd 1000000000 (v * f) ≤ cap) (k : ∀ A2, bF A A2 b → bN A2 b (v * f) → P none (gw G A2)) : ZE (d + 1) M_Big_multiply (gw G A) 0 [(2, b), (0, (f : Int)), (9, 0), (9, 0), (9, 0), (9, 0), (9, 0)] [] P := by
  have hcp := hB.2.2.2.2.2
  refine ZE.lconst d_Big_multiply_0 ?_
  show ZE (d + 1) M_Big_multiply (gw G A) 1 [(2, b), (0, (f : Int)), (9, 0), (9, 0), (9, 0), (9, 0), (9, 0)] [(1, 0)] _
  refine ZE.lstore_n (ls2 := [(2, b), (0, (f : Int)), (1, 0), (9, 0), (9, 0), (9, 0), (9, 0)]) d_Big_multiply_1 (Nat.le_of_ble_eq_true rfl) rfl ?_
  refine ZE.iconst (n := 0) d_Big_multiply_2 ?_
  refine ZE.istore (ls2 := [(2, b), (0, (f : Int)), (1, 0), (9, 0), (0, 0), (9, 0), (9, 0)]) d_Big_multiply_3 (Nat.le_of_ble_eq_true rfl) rfl ?_
  have L5 : ∀ (t : Nat) (i : Nat) (A1 : Int → Int → Int) (hi : i ≤ cap) (gF : bF A A1 b) (e0 : A1 b 0 = b + 1) (e1 : A1 b 1 = ((max (nd 1000000000 v) i : Nat) : Int)) (e2 : ∀ q : Nat, q < i → A1 (b + 1) q = (dg 1000000000 (v * f + 0) q : Int)) (e3 : ∀ q : Nat, i ≤ q → q < nd 1000000000 v → A1 (b + 1) q = (dg 1000000000 v q : Int)) (hiv : i ≤ nd 1000000000 v ∨ 1000000000 ^ (i - 1) ≤ v * f + 0), cap - i < t → ZE (d + 1) M_Big_multiply (gw G A1) 5 [(2, b), (0, (f : Int)), (1, (cry 1000000000 v 0 f i : Int)), (9, 0), (0, (i : Int)), (9, 0), (9, 0)] [] P := by
    intro t
    induction t with
    | zero => intro i A1 hi gF e0 e1 e2 e3 hiv hm; exact absurd hm (Nat.not_lt_zero _)
    | succ t ih =>
      intro i A1 hi gF e0 e1 e2 e3 hiv hm
      have hcl := cry_le (b := 1000000000) (by omega) v 0 f i
      have hdl := dB_lt v i
      refine ZE.iload d_Big_multiply_5 rfl ?_
      refine ZE.aload_n d_Big_multiply_7 rfl ?_
      refine ZE.getE (v := b + 1) d_Big_multiply_8 f_Big_9 (tg := 2) rfl hB.1 e0 ?_
      refine ZE.alenE (v := (cap : Int)) d_Big_multiply_11 (by have hk0 := hB.2.1; show 1 ≤ gk G (b + 1) ∧ gk G (b + 1) ≤ 6; omega) hB.2.2.1 ?_
      refine ZE.icmp_ge (tgt := 86) d_Big_multiply_12 rfl (by unfold zR; omega) (by unfold zR; omega) (fun c12 => ?_) (fun c12 => ?_)
      · have hlt : v * f + 0 < 1000000000 ^ i := (nd_lt (by omega) _ _).mpr (by rw [Nat.add_zero]; omega)
        have hnv : nd 1000000000 (v * f + 0) = max (nd 1000000000 v) i := by
          refine nd_eq (by omega) (Nat.lt_of_lt_of_le hlt (Nat.pow_le_pow_right (by omega) (by omega))) ?_
          rcases Nat.eq_zero_or_pos i with q | q
          · left; omega
          · right
            rcases hiv with q1 | q1
            · have h3 := nd_ge (b := 1000000000) (by omega) (show i - 1 < nd 1000000000 v by omega)
              have h4 : v * 1 ≤ v * f := Nat.mul_le_mul_left _ hf
              rw [show max (nd 1000000000 v) i = i by omega]; omega
            · rw [show max (nd 1000000000 v) i = i by omega]; exact q1
        refine ZE.vret d_Big_multiply_86 rfl ?_
        rw [Nat.add_zero] at hnv e2
        exact k A1 gF ⟨e0, by rw [hnv]; exact e1, fun q hq => e2 q (by omega)⟩
      · refine ZE.iload d_Big_multiply_15 rfl ?_
        refine ZE.aload_n d_Big_multiply_17 rfl ?_
        refine ZE.getE (v := ((max (nd 1000000000 v) i : Nat) : Int)) d_Big_multiply_18 f_Big_15 (tg := 0) rfl hB.1 e1 ?_
        refine ZE.icmp_lt (tgt := 30) d_Big_multiply_21 rfl (by unfold zR; omega) (by unfold zR; omega) (fun c21 => ?_) (fun c21 => ?_)
        · have hiv2 : i + 1 ≤ nd 1000000000 v ∨ 1000000000 ^ (i + 1 - 1) ≤ v * f + 0 := Or.inl (by omega)
          obtain ⟨T, hT⟩ : ∃ T : Nat, T = dg 1000000000 v i * f + dg 1000000000 0 i + cry 1000000000 v 0 f i := ⟨_, rfl⟩
          obtain ⟨s1, s2⟩ := mul_step (b := 1000000000) (by omega) v 0 f i
          rw [← hT] at s1 s2
          have hT2 : dg 1000000000 v i * f ≤ 1000000000 * f := Nat.mul_le_mul_right _ (by omega)
          have hT3 : dg 1000000000 0 i = 0 := dg_0 _ _
          refine ZE.lload_n d_Big_multiply_30 rfl ?_
          refine ZE.aload_n d_Big_multiply_31 rfl ?_
          refine ZE.iload d_Big_multiply_32 rfl ?_
          refine ZE.cV [(0, (i : Int))] [(1, (cry 1000000000 v 0 f i : Int))] [(2, b), (0, (i : Int))] d_Big_multiply_34 l_Big_25 rfl rfl rfl rfl rfl rfl hB.1 ?_
          refine B_limbR (s := max (nd 1000000000 v) i) (i := i) (z := dg 1000000000 v i) hB e0 e1 (by omega) (by omega) (fun q => e3 i (by omega) (by omega)) (fun q => dg_big (by omega) (by omega)) ?_
          show ZE (d + 1) M_Big_multiply (gw G A1) 37 [(2, b), (0, (f : Int)), (1, (cry 1000000000 v 0 f i : Int)), (9, 0), (0, (i : Int)), (9, 0), (9, 0)] [(0, (dg 1000000000 v i : Int)), (1, (cry 1000000000 v 0 f i : Int))] _
          refine ZE.i2l d_Big_multiply_37 (by unfold zR; omega) ?_
          refine ZE.iload_n d_Big_multiply_38 rfl ?_
          refine ZE.i2l d_Big_multiply_39 (by unfold zR; omega) ?_
          refine ZE.lmul d_Big_multiply_40 ?_
          refine ZE.ladd d_Big_multiply_41 ?_
          rw [show ((cry 1000000000 v 0 f i : Int) + ((dg 1000000000 v i : Int) * (f : Int)) : Int) = (T : Int) from (by rw [hT, hT3]; simp only [Int.natCast_add, Int.natCast_mul]; omega)]
          refine ZE.lstore (ls2 := [(2, b), (0, (f : Int)), (1, (cry 1000000000 v 0 f i : Int)), (9, 0), (0, (i : Int)), (1, (T : Int)), (9, 0)]) d_Big_multiply_42 (Nat.le_of_ble_eq_true rfl) rfl ?_
          refine ZE.aload_n d_Big_multiply_44 rfl ?_
          refine ZE.getE (v := b + 1) d_Big_multiply_45 f_Big_9 (tg := 2) rfl hB.1 e0 ?_
          refine ZE.iload d_Big_multiply_48 rfl ?_
          refine ZE.lload d_Big_multiply_50 rfl ?_
          refine ZE.ldc2 (v := 1000000000) d_Big_multiply_52 k_Big_29 ?_
          refine ZE.lremP d_Big_multiply_55 (by omega) ?_
          rw [show ((T : Int) % 1000000000 : Int) = ((T % 1000000000 : Nat) : Int) from (by omega)]
          refine ZE.l2i d_Big_multiply_56 ?_
          refine ZE.iast d_Big_multiply_57 hB.2.1 (by have hn0 := hB.2.2.1; show 0 ≤ (i : Int) ∧ (i : Int) < gn G (b + 1); omega) ?_
          show ZE (d + 1) M_Big_multiply (gw G (up2 A1 (b + 1) (i : Int) ((T % 1000000000 : Nat) : Int))) 58 [(2, b), (0, (f : Int)), (1, (cry 1000000000 v 0 f i : Int)), (9, 0), (0, (i : Int)), (1, (T : Int)), (9, 0)] [] _
          refine ZE.lload d_Big_multiply_58 rfl ?_
          refine ZE.ldc2 (v := 1000000000) d_Big_multiply_60 k_Big_29 ?_
          refine ZE.ldivP d_Big_multiply_63 (by omega) ?_
          rw [show ((T : Int) / 1000000000 : Int) = ((T / 1000000000 : Nat) : Int) from (by omega)]
          refine ZE.lstore_n (ls2 := [(2, b), (0, (f : Int)), (1, ((T / 1000000000 : Nat) : Int)), (9, 0), (0, (i : Int)), (1, (T : Int)), (9, 0)]) d_Big_multiply_64 (Nat.le_of_ble_eq_true rfl) rfl ?_
          refine ZE.aload_n d_Big_multiply_65 rfl ?_
          refine ZE.aload_n d_Big_multiply_66 rfl ?_
          refine ZE.getE (v := ((max (nd 1000000000 v) i : Nat) : Int)) d_Big_multiply_67 f_Big_15 (tg := 0) rfl hB.1 ((up2_ne _ _ (by omega)).trans e1) ?_
          refine ZE.iload d_Big_multiply_70 rfl ?_
          refine ZE.iconst (n := 1) d_Big_multiply_72 ?_
          refine ZE.iadd d_Big_multiply_73 ?_
          refine ZE.cS [(0, ((max (nd 1000000000 v) i : Nat) : Int)), (0, (i : Int) + 1)] [(2, b)] [(0, ((max (nd 1000000000 v) i : Nat) : Int)), (0, (i : Int) + 1)] d_Big_multiply_74 l_Big_31 rfl rfl rfl rfl rfl rfl ?_
          refine j_max (by unfold zR; omega) (by unfold zR; omega) ?_
          show ZE (d + 1) M_Big_multiply (gw G (up2 A1 (b + 1) (i : Int) ((T % 1000000000 : Nat) : Int))) 77 [(2, b), (0, (f : Int)), (1, ((T / 1000000000 : Nat) : Int)), (9, 0), (0, (i : Int)), (1, (T : Int)), (9, 0)] [(0, if (i : Int) + 1 ≤ ((max (nd 1000000000 v) i : Nat) : Int) then ((max (nd 1000000000 v) i : Nat) : Int) else (i : Int) + 1), (2, b)] _
          rw [show (if (i : Int) + 1 ≤ ((max (nd 1000000000 v) i : Nat) : Int) then ((max (nd 1000000000 v) i : Nat) : Int) else (i : Int) + 1) = ((max (nd 1000000000 v) (i + 1) : Nat) : Int) by split <;> omega]
          refine ZE.put d_Big_multiply_77 f_Big_15 (tg := 0) rfl trivial (Or.inl ⟨_, _, _, rfl, rfl, rfl⟩) hB.1 ?_
          show ZE (d + 1) M_Big_multiply (gw G (up2 (up2 A1 (b + 1) (i : Int) ((T % 1000000000 : Nat) : Int)) b 1 ((max (nd 1000000000 v) (i + 1) : Nat) : Int))) 80 [(2, b), (0, (f : Int)), (1, ((T / 1000000000 : Nat) : Int)), (9, 0), (0, (i : Int)), (1, (T : Int)), (9, 0)] [] _
          refine ZE.iinc (ls2 := [(2, b), (0, (f : Int)), (1, ((T / 1000000000 : Nat) : Int)), (9, 0), (0, (i : Int) + 1), (1, (T : Int)), (9, 0)]) d_Big_multiply_80 rfl rfl ?_
          refine ZE.goto (tgt := 5) d_Big_multiply_83 rfl ?_
          refine ZE.mask [true, true, true, true, true, false, true] ?_
          show ZE (d + 1) M_Big_multiply (gw G (up2 (up2 A1 (b + 1) (i : Int) ((T % 1000000000 : Nat) : Int)) b 1 ((max (nd 1000000000 v) (i + 1) : Nat) : Int))) 5 [(2, b), (0, (f : Int)), (1, ((T / 1000000000 : Nat) : Int)), (9, 0), (0, (i : Int) + 1), (9, 0), (9, 0)] [] _
          rw [show (i : Int) + 1 = ((i + 1 : Nat) : Int) by omega, s2]
          refine ih (i + 1) _ (by omega) ((gF.tr bF.row).tr bF.fld) ((up2_ne _ _ (by omega)).trans ((up2_ne _ _ (by omega)).trans e0)) ((up2_at _ _ _ _).trans (by omega)) ?_ ?_ hiv2 (by omega)
          · intro q hq; rw [up2_ne _ _ (by omega)]
            by_cases e : q = i
            · subst e; rw [up2_at]; exact congrArg Nat.cast s1
            · rw [up2_ne _ _ (by omega)]; exact e2 q (by omega)
          · intro q hq1 hq2; rw [up2_ne _ _ (by omega), up2_ne _ _ (by omega)]; exact e3 q (by omega) hq2
        · refine ZE.lload_n d_Big_multiply_24 rfl ?_
          refine ZE.lconst d_Big_multiply_25 ?_
          show ZE (d + 1) M_Big_multiply (gw G A1) 26 [(2, b), (0, (f : Int)), (1, (cry 1000000000 v 0 f i : Int)), (9, 0), (0, (i : Int)), (9, 0), (9, 0)] [(1, 0), (1, (cry 1000000000 v 0 f i : Int))] _
          refine ZE.lcmp d_Big_multiply_26 (by unfold zR64; omega) (by unfold zR64; omega) ?_
          refine ZE.if_le (tgt := 86) d_Big_multiply_27 rfl (zR_zcmp _ _) (fun c27 => ?_) (fun c27 => ?_)
          · replace c27 := zcmp_le.mp c27
            have hlt : v * f + 0 < 1000000000 ^ i := cry_end (by omega) (by omega) (by rw [nd_0]; omega) (by omega)
            have hnv : nd 1000000000 (v * f + 0) = max (nd 1000000000 v) i := by
              refine nd_eq (by omega) (Nat.lt_of_lt_of_le hlt (Nat.pow_le_pow_right (by omega) (by omega))) ?_
              rcases Nat.eq_zero_or_pos i with q | q
              · left; omega
              · right
                rcases hiv with q1 | q1
                · have h3 := nd_ge (b := 1000000000) (by omega) (show i - 1 < nd 1000000000 v by omega)
                  have h4 : v * 1 ≤ v * f := Nat.mul_le_mul_left _ hf
                  rw [show max (nd 1000000000 v) i = i by omega]; omega
                · rw [show max (nd 1000000000 v) i = i by omega]; exact q1
            refine ZE.vret d_Big_multiply_86 rfl ?_
            rw [Nat.add_zero] at hnv e2
            exact k A1 gF ⟨e0, by rw [hnv]; exact e1, fun q hq => e2 q (by omega)⟩
          · replace c27 := (not_congr zcmp_le).mp c27
            have hiv2 : i + 1 ≤ nd 1000000000 v ∨ 1000000000 ^ (i + 1 - 1) ≤ v * f + 0 := Or.inr (by rw [Nat.add_sub_cancel]; exact cry_pos (b := 1000000000) (v := v) (w := 0) (y := f) (i := i) (by omega) (by omega))
            obtain ⟨T, hT⟩ : ∃ T : Nat, T = dg 1000000000 v i * f + dg 1000000000 0 i + cry 1000000000 v 0 f i := ⟨_, rfl⟩
            obtain ⟨s1, s2⟩ := mul_step (b := 1000000000) (by omega) v 0 f i
            rw [← hT] at s1 s2
            have hT2 : dg 1000000000 v i * f ≤ 1000000000 * f := Nat.mul_le_mul_right _ (by omega)
            have hT3 : dg 1000000000 0 i = 0 := dg_0 _ _
            refine ZE.lload_n d_Big_multiply_30 rfl ?_
            refine ZE.aload_n d_Big_multiply_31 rfl ?_
            refine ZE.iload d_Big_multiply_32 rfl ?_
            refine ZE.cV [(0, (i : Int))] [(1, (cry 1000000000 v 0 f i : Int))] [(2, b), (0, (i : Int))] d_Big_multiply_34 l_Big_25 rfl rfl rfl rfl rfl rfl hB.1 ?_
            refine B_limbR (s := max (nd 1000000000 v) i) (i := i) (z := dg 1000000000 v i) hB e0 e1 (by omega) (by omega) (fun q => e3 i (by omega) (by omega)) (fun q => dg_big (by omega) (by omega)) ?_
            show ZE (d + 1) M_Big_multiply (gw G A1) 37 [(2, b), (0, (f : Int)), (1, (cry 1000000000 v 0 f i : Int)), (9, 0), (0, (i : Int)), (9, 0), (9, 0)] [(0, (dg 1000000000 v i : Int)), (1, (cry 1000000000 v 0 f i : Int))] _
            refine ZE.i2l d_Big_multiply_37 (by unfold zR; omega) ?_
            refine ZE.iload_n d_Big_multiply_38 rfl ?_
            refine ZE.i2l d_Big_multiply_39 (by unfold zR; omega) ?_
            refine ZE.lmul d_Big_multiply_40 ?_
            refine ZE.ladd d_Big_multiply_41 ?_
            rw [show ((cry 1000000000 v 0 f i : Int) + ((dg 1000000000 v i : Int) * (f : Int)) : Int) = (T : Int) from (by rw [hT, hT3]; simp only [Int.natCast_add, Int.natCast_mul]; omega)]
            refine ZE.lstore (ls2 := [(2, b), (0, (f : Int)), (1, (cry 1000000000 v 0 f i : Int)), (9, 0), (0, (i : Int)), (1, (T : Int)), (9, 0)]) d_Big_multiply_42 (Nat.le_of_ble_eq_true rfl) rfl ?_
            refine ZE.aload_n d_Big_multiply_44 rfl ?_
            refine ZE.getE (v := b + 1) d_Big_multiply_45 f_Big_9 (tg := 2) rfl hB.1 e0 ?_
            refine ZE.iload d_Big_multiply_48 rfl ?_
            refine ZE.lload d_Big_multiply_50 rfl ?_
            refine ZE.ldc2 (v := 1000000000) d_Big_multiply_52 k_Big_29 ?_
            refine ZE.lremP d_Big_multiply_55 (by omega) ?_
            rw [show ((T : Int) % 1000000000 : Int) = ((T % 1000000000 : Nat) : Int) from (by omega)]
            refine ZE.l2i d_Big_multiply_56 ?_
            refine ZE.iast d_Big_multiply_57 hB.2.1 (by have hn0 := hB.2.2.1; show 0 ≤ (i : Int) ∧ (i : Int) < gn G (b + 1); omega) ?_
            show ZE (d + 1) M_Big_multiply (gw G (up2 A1 (b + 1) (i : Int) ((T % 1000000000 : Nat) : Int))) 58 [(2, b), (0, (f : Int)), (1, (cry 1000000000 v 0 f i : Int)), (9, 0), (0, (i : Int)), (1, (T : Int)), (9, 0)] [] _
            refine ZE.lload d_Big_multiply_58 rfl ?_
            refine ZE.ldc2 (v := 1000000000) d_Big_multiply_60 k_Big_29 ?_
            refine ZE.ldivP d_Big_multiply_63 (by omega) ?_
            rw [show ((T : Int) / 1000000000 : Int) = ((T / 1000000000 : Nat) : Int) from (by omega)]
            refine ZE.lstore_n (ls2 := [(2, b), (0, (f : Int)), (1, ((T / 1000000000 : Nat) : Int)), (9, 0), (0, (i : Int)), (1, (T : Int)), (9, 0)]) d_Big_multiply_64 (Nat.le_of_ble_eq_true rfl) rfl ?_
            refine ZE.aload_n d_Big_multiply_65 rfl ?_
            refine ZE.aload_n d_Big_multiply_66 rfl ?_
            refine ZE.getE (v := ((max (nd 1000000000 v) i : Nat) : Int)) d_Big_multiply_67 f_Big_15 (tg := 0) rfl hB.1 ((up2_ne _ _ (by omega)).trans e1) ?_
            refine ZE.iload d_Big_multiply_70 rfl ?_
            refine ZE.iconst (n := 1) d_Big_multiply_72 ?_
            refine ZE.iadd d_Big_multiply_73 ?_
            refine ZE.cS [(0, ((max (nd 1000000000 v) i : Nat) : Int)), (0, (i : Int) + 1)] [(2, b)] [(0, ((max (nd 1000000000 v) i : Nat) : Int)), (0, (i : Int) + 1)] d_Big_multiply_74 l_Big_31 rfl rfl rfl rfl rfl rfl ?_
            refine j_max (by unfold zR; omega) (by unfold zR; omega) ?_
            show ZE (d + 1) M_Big_multiply (gw G (up2 A1 (b + 1) (i : Int) ((T % 1000000000 : Nat) : Int))) 77 [(2, b), (0, (f : Int)), (1, ((T / 1000000000 : Nat) : Int)), (9, 0), (0, (i : Int)), (1, (T : Int)), (9, 0)] [(0, if (i : Int) + 1 ≤ ((max (nd 1000000000 v) i : Nat) : Int) then ((max (nd 1000000000 v) i : Nat) : Int) else (i : Int) + 1), (2, b)] _
            rw [show (if (i : Int) + 1 ≤ ((max (nd 1000000000 v) i : Nat) : Int) then ((max (nd 1000000000 v) i : Nat) : Int) else (i : Int) + 1) = ((max (nd 1000000000 v) (i + 1) : Nat) : Int) by split <;> omega]
            refine ZE.put d_Big_multiply_77 f_Big_15 (tg := 0) rfl trivial (Or.inl ⟨_, _, _, rfl, rfl, rfl⟩) hB.1 ?_
            show ZE (d + 1) M_Big_multiply (gw G (up2 (up2 A1 (b + 1) (i : Int) ((T % 1000000000 : Nat) : Int)) b 1 ((max (nd 1000000000 v) (i + 1) : Nat) : Int))) 80 [(2, b), (0, (f : Int)), (1, ((T / 1000000000 : Nat) : Int)), (9, 0), (0, (i : Int)), (1, (T : Int)), (9, 0)] [] _
            refine ZE.iinc (ls2 := [(2, b), (0, (f : Int)), (1, ((T / 1000000000 : Nat) : Int)), (9, 0), (0, (i : Int) + 1), (1, (T : Int)), (9, 0)]) d_Big_multiply_80 rfl rfl ?_
            refine ZE.goto (tgt := 5) d_Big_multiply_83 rfl ?_
            refine ZE.mask [true, true, true, true, true, false, true] ?_
            show ZE (d + 1) M_Big_multiply (gw G (up2 (up2 A1 (b + 1) (i : Int) ((T % 1000000000 : Nat) : Int)) b 1 ((max (nd 1000000000 v) (i + 1) : Nat) : Int))) 5 [(2, b), (0, (f : Int)), (1, ((T / 1000000000 : Nat) : Int)), (9, 0), (0, (i : Int) + 1), (9, 0), (9, 0)] [] _
            rw [show (i : Int) + 1 = ((i + 1 : Nat) : Int) by omega, s2]
            refine ih (i + 1) _ (by omega) ((gF.tr bF.row).tr bF.fld) ((up2_ne _ _ (by omega)).trans ((up2_ne _ _ (by omega)).trans e0)) ((up2_at _ _ _ _).trans (by omega)) ?_ ?_ hiv2 (by omega)
            · intro q hq; rw [up2_ne _ _ (by omega)]
              by_cases e : q = i
              · subst e; rw [up2_at]; exact congrArg Nat.cast s1
              · rw [up2_ne _ _ (by omega)]; exact e2 q (by omega)
            · intro q hq1 hq2; rw [up2_ne _ _ (by omega), up2_ne _ _ (by omega)]; exact e3 q (by omega) hq2
  have L0 := L5 _ 0 A (by omega) bF.rf hv.1 (by rw [hv.2.1]; omega) (fun q h => absurd h (Nat.not_lt_zero _)) (fun q _ h => hv.2.2 q h) (Or.inl (Nat.zero_le _)) (Nat.lt_succ_self _)
  rw [cry_0] at L0
  exact L0
