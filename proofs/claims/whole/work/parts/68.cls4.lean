theorem dec_step {b v i : Nat} (hb : 2 ≤ b) (hv : 1 ≤ v) (h : v % b ^ i = 0) : dg b (v - 1) i = (if dg b v i = 0 then b - 1 else dg b v i - 1) := by
  have h0 : 0 < b ^ i := Nat.pow_pos (by omega)
  have h1 : v = b ^ i * (v / b ^ i) := by have := Nat.mod_add_div v (b ^ i); omega
  have h2 : v / b ^ i ≠ 0 := fun q => by rw [q] at h1; omega
  obtain ⟨V, hV⟩ := Nat.exists_eq_succ_of_ne_zero h2
  have h3 : (v - 1) / b ^ i = V := by
    rw [hV, Nat.mul_succ] at h1
    have h4 : v - 1 = (b ^ i - 1) + b ^ i * V := by
      generalize b ^ i * V = Q at h1 ⊢
      omega
    rw [h4, Nat.add_mul_div_left _ _ h0, Nat.div_eq_of_lt (by omega), Nat.zero_add]
  unfold dg
  rw [h3, hV]
  have h5 := Nat.mod_add_div V b
  have h6 := Nat.mod_lt V (show 0 < b by omega)
  rcases Nat.lt_or_ge (V % b + 1) b with q | q
  · have h7 : (V + 1) % b = V % b + 1 := by
      rw [show V + 1 = (V % b + 1) + b * (V / b) by omega, Nat.add_mul_mod_self_left, Nat.mod_eq_of_lt q]
    rw [h7, if_neg (by omega)]; omega
  · have h7 : (V + 1) % b = 0 := by
      rw [show V + 1 = b * (V / b + 1) by rw [Nat.mul_succ]; omega]
      exact Nat.mul_mod_right _ _
    rw [h7, if_pos rfl]; omega
theorem dec_end {b v i : Nat} (hb : 2 ≤ b) (h : v % b ^ i ≠ 0) : (v - 1) / b ^ i = v / b ^ i := by
  have h0 : 0 < b ^ i := Nat.pow_pos (by omega)
  have h1 := Nat.mod_add_div v (b ^ i)
  have h2 := Nat.mod_lt v h0
  have h4 : v - 1 = (v % b ^ i - 1) + b ^ i * (v / b ^ i) := by
    generalize v % b ^ i = R at h h1 ⊢
    generalize b ^ i * (v / b ^ i) = Q at h1 ⊢
    omega
  rw [h4, Nat.add_mul_div_left _ _ h0, Nat.div_eq_of_lt (by omega), Nat.zero_add]
theorem mod_z {b v i : Nat} (hb : 2 ≤ b) : v % b ^ (i + 1) = 0 ↔ v % b ^ i = 0 ∧ dg b v i = 0 := by
  have h0 : 0 < b ^ i := Nat.pow_pos (by omega)
  rw [mod_step]
  constructor
  · intro h
    have h1 := Nat.add_eq_zero_iff.mp h
    rcases Nat.mul_eq_zero.mp h1.2 with q | q
    · omega
    · exact ⟨h1.1, q⟩
  · rintro ⟨h1, h2⟩
    rw [h1, h2, Nat.mul_zero]
set_option maxRecDepth 20000 in
set_option maxHeartbeats 4000000 in
theorem B_minus {d : Nat} {G : zG} {A : Int → Int → Int} {P : Option zV → zG → Prop}  {b : Int} {cap : Nat} (hB : bK G b cap) {v : Nat} (hv : bN A b v) {c : Int} {cap2 : Nat} (hC : bK G c cap2) {u : Nat} (hu : bN A c u) (huv : u ≤ v) (h9 : nd 1000000000 v ≤ cap) (h9c : nd 1000000000 u ≤ cap2) (hne : c ≠ b ∧ c ≠ b + 1 ∧ c + 1 ≠ b) (k : ∀ A2, bF A A2 b → bN A2 b (v - u) → P none (gw G A2)) : ZE (d + 2) M_Big_minus (gw G A) 0 [(2, b), (2, c), (9, 0), (9, 0), (9, 0)] [] P := by
  have hcp := hB.2.2.2.2.2
  refine ZE.iconst (n := 0) d_Big_minus_0 ?_
  refine ZE.istore_n (ls2 := [(2, b), (2, c), (0, 0), (9, 0), (9, 0)]) d_Big_minus_1 (Nat.le_of_ble_eq_true rfl) rfl ?_
  refine ZE.iconst (n := 0) d_Big_minus_2 ?_
  refine ZE.istore_n (ls2 := [(2, b), (2, c), (0, 0), (0, 0), (9, 0)]) d_Big_minus_3 (Nat.le_of_ble_eq_true rfl) rfl ?_
  have L4 : ∀ (t : Nat) (i : Nat) (A1 : Int → Int → Int) (m1 : Nat) (hi : i ≤ nd 1000000000 v) (gF : bF A A1 b) (e0 : A1 b 0 = b + 1) (e1 : A1 b 1 = (nd 1000000000 v : Int)) (e2 : ∀ q : Nat, q < i → A1 (b + 1) q = (dg 1000000000 (v - u) q : Int)) (e3 : ∀ q : Nat, i ≤ q → q < nd 1000000000 v → A1 (b + 1) q = (dg 1000000000 v q : Int)) (hm1 : m1 = brw 1000000000 v u i), nd 1000000000 v - i < t → ZE (d + 2) M_Big_minus (gw G A1) 4 [(2, b), (2, c), (0, (m1 : Int)), (0, (i : Int)), (9, 0)] [] P := by
    intro t
    induction t with
    | zero => intro i A1 m1 hi gF e0 e1 e2 e3 hm1 hm; exact absurd hm (Nat.not_lt_zero _)
    | succ t ih =>
      intro i A1 m1 hi gF e0 e1 e2 e3 hm1 hm
      have hbl := brw_le 1000000000 v u i
      have hdl := dB_lt v i
      have hdu := dB_lt u i
      have huA : bN A1 c u := hu.fr gF (by omega)
      have hst := sub_step (b := 1000000000) (by omega) (v := v) (w := u) i huv
      rw [← hm1] at hst hbl
      refine ZE.iload_n d_Big_minus_4 rfl ?_
      refine ZE.aload_n d_Big_minus_5 rfl ?_
      refine ZE.getE (v := (nd 1000000000 v : Int)) d_Big_minus_6 f_Big_15 (tg := 0) rfl hB.1 e1 ?_
      refine ZE.icmp_ge (tgt := 67) d_Big_minus_9 rfl (by unfold zR; omega) (by unfold zR; omega) (fun c9 => ?_) (fun c9 => ?_)
      · refine ZE.aload_n d_Big_minus_67 rfl ?_
        refine ZE.cV [] [] [(2, b), (9, 0)] d_Big_minus_68 l_Big_40 rfl rfl rfl rfl rfl rfl hB.1 ?_
        refine B_trim (m := nd 1000000000 v) (v := v - u) hB h9 e0 e1 (fun q hq => e2 q (by omega)) (Nat.lt_of_le_of_lt (Nat.sub_le _ _) (nd_self (by omega) v)) (fun A2 g2 hn2 => ?_)
        show ZE (d + 2) M_Big_minus (gw G A2) 71 [(2, b), (2, c), (0, (m1 : Int)), (0, (i : Int)), (9, 0)] [] _
        refine ZE.vret d_Big_minus_71 rfl ?_
        exact k A2 (gF.tr g2) hn2
      · refine ZE.iload_n d_Big_minus_12 rfl ?_
        refine ZE.aload_n d_Big_minus_13 rfl ?_
        refine ZE.getE (v := b + 1) d_Big_minus_14 f_Big_9 (tg := 2) rfl hB.1 e0 ?_
        refine ZE.alenE (v := (cap : Int)) d_Big_minus_17 (by have hk0 := hB.2.1; show 1 ≤ gk G (b + 1) ∧ gk G (b + 1) ≤ 6; omega) hB.2.2.1 ?_
        refine ZE.icmp_ge (tgt := 67) d_Big_minus_18 rfl (by unfold zR; omega) (by unfold zR; omega) (fun c18 => ?_) (fun c18 => ?_)
        · exact absurd c18 (by omega)
        · refine ZE.aload_n d_Big_minus_21 rfl ?_
          refine ZE.getE (v := b + 1) d_Big_minus_22 f_Big_9 (tg := 2) rfl hB.1 e0 ?_
          refine ZE.iload_n d_Big_minus_25 rfl ?_
          refine ZE.ialdE (v := (dg 1000000000 v i : Int)) d_Big_minus_26 hB.2.1 (by have hn0 := hB.2.2.1; show 0 ≤ (i : Int) ∧ (i : Int) < gn G (b + 1); omega) (e3 i (by omega) (by omega)) ?_
          refine ZE.aload_n d_Big_minus_27 rfl ?_
          refine ZE.iload_n d_Big_minus_28 rfl ?_
          refine ZE.cV [(0, (i : Int))] [(0, (dg 1000000000 v i : Int))] [(2, c), (0, (i : Int))] d_Big_minus_29 l_Big_25 rfl rfl rfl rfl rfl rfl hC.1 ?_
          refine B_limbAt (v := u) (i := i) hC huA h9c (by omega) ?_
          show ZE (d + 2) M_Big_minus (gw G A1) 32 [(2, b), (2, c), (0, (m1 : Int)), (0, (i : Int)), (9, 0)] [(0, (dg 1000000000 u i : Int)), (0, (dg 1000000000 v i : Int))] _
          refine ZE.isub d_Big_minus_32 ?_
          refine ZE.iload_n d_Big_minus_33 rfl ?_
          refine ZE.isub d_Big_minus_34 ?_
          refine ZE.istore (ls2 := [(2, b), (2, c), (0, (m1 : Int)), (0, (i : Int)), (0, ((dg 1000000000 v i : Int) - (dg 1000000000 u i : Int)) - (m1 : Int))]) d_Big_minus_35 (Nat.le_of_ble_eq_true rfl) rfl ?_
          refine ZE.iload d_Big_minus_37 rfl ?_
          refine ZE.if_ge (tgt := 46) d_Big_minus_39 rfl (by unfold zR; omega) (fun c39 => ?_) (fun c39 => ?_)
          · rw [if_neg (by omega)] at hst
            have hss := hst
            refine ZE.iconst (n := 0) d_Big_minus_46 ?_
            refine ZE.istore_n (ls2 := [(2, b), (2, c), (0, 0), (0, (i : Int)), (0, ((dg 1000000000 v i : Int) - (dg 1000000000 u i : Int)) - (m1 : Int))]) d_Big_minus_47 (Nat.le_of_ble_eq_true rfl) rfl ?_
            refine ZE.aload_n d_Big_minus_48 rfl ?_
            refine ZE.getE (v := b + 1) d_Big_minus_49 f_Big_9 (tg := 2) rfl hB.1 e0 ?_
            refine ZE.iload_n d_Big_minus_52 rfl ?_
            refine ZE.iload d_Big_minus_53 rfl ?_
            refine ZE.iload_n d_Big_minus_55 rfl ?_
            refine ZE.ldc (v := 1000000000) d_Big_minus_56 k_Big_43 ?_
            refine ZE.imul d_Big_minus_58 ?_
            refine ZE.iadd d_Big_minus_59 ?_
            refine ZE.iast d_Big_minus_60 hB.2.1 (by have hn0 := hB.2.2.1; show 0 ≤ (i : Int) ∧ (i : Int) < gn G (b + 1); omega) ?_
            show ZE (d + 2) M_Big_minus (gw G (up2 A1 (b + 1) (i : Int) ((((dg 1000000000 v i : Int) - (dg 1000000000 u i : Int)) - (m1 : Int)) + (0 * 1000000000)))) 61 [(2, b), (2, c), (0, 0), (0, (i : Int)), (0, ((dg 1000000000 v i : Int) - (dg 1000000000 u i : Int)) - (m1 : Int))] [] _
            refine ZE.iinc (ls2 := [(2, b), (2, c), (0, 0), (0, (i : Int) + 1), (0, ((dg 1000000000 v i : Int) - (dg 1000000000 u i : Int)) - (m1 : Int))]) d_Big_minus_61 rfl rfl ?_
            refine ZE.goto (tgt := 4) d_Big_minus_64 rfl ?_
            refine ZE.mask [true, true, true, true, false] ?_
            show ZE (d + 2) M_Big_minus (gw G (up2 A1 (b + 1) (i : Int) ((((dg 1000000000 v i : Int) - (dg 1000000000 u i : Int)) - (m1 : Int)) + (0 * 1000000000)))) 4 [(2, b), (2, c), (0, 0), (0, (i : Int) + 1), (9, 0)] [] _
            rw [show (i : Int) + 1 = ((i + 1 : Nat) : Int) by omega]
            refine ih (i + 1) (up2 A1 (b + 1) (i : Int) ((((dg 1000000000 v i : Int) - (dg 1000000000 u i : Int)) - (m1 : Int)) + (0 * 1000000000))) 0 (by omega) (gF.tr bF.row) ((up2_ne _ _ (by omega)).trans e0) ((up2_ne _ _ (by omega)).trans e1) ?_ ?_ hss.1.symm (by omega)
            · intro q hq
              by_cases e : q = i
              · subst e; rw [up2_at, ← hss.2]; omega
              · rw [up2_ne _ _ (by omega)]; exact e2 q (by omega)
            · intro q hq1 hq2; rw [up2_ne _ _ (by omega)]; exact e3 q (by omega) hq2
          · rw [if_pos (by omega)] at hst
            have hss := hst
            refine ZE.iconst (n := 1) d_Big_minus_42 ?_
            refine ZE.goto (tgt := 47) d_Big_minus_43 rfl ?_
            refine ZE.istore_n (ls2 := [(2, b), (2, c), (0, 1), (0, (i : Int)), (0, ((dg 1000000000 v i : Int) - (dg 1000000000 u i : Int)) - (m1 : Int))]) d_Big_minus_47 (Nat.le_of_ble_eq_true rfl) rfl ?_
            refine ZE.aload_n d_Big_minus_48 rfl ?_
            refine ZE.getE (v := b + 1) d_Big_minus_49 f_Big_9 (tg := 2) rfl hB.1 e0 ?_
            refine ZE.iload_n d_Big_minus_52 rfl ?_
            refine ZE.iload d_Big_minus_53 rfl ?_
            refine ZE.iload_n d_Big_minus_55 rfl ?_
            refine ZE.ldc (v := 1000000000) d_Big_minus_56 k_Big_43 ?_
            refine ZE.imul d_Big_minus_58 ?_
            refine ZE.iadd d_Big_minus_59 ?_
            refine ZE.iast d_Big_minus_60 hB.2.1 (by have hn0 := hB.2.2.1; show 0 ≤ (i : Int) ∧ (i : Int) < gn G (b + 1); omega) ?_
            show ZE (d + 2) M_Big_minus (gw G (up2 A1 (b + 1) (i : Int) ((((dg 1000000000 v i : Int) - (dg 1000000000 u i : Int)) - (m1 : Int)) + (1 * 1000000000)))) 61 [(2, b), (2, c), (0, 1), (0, (i : Int)), (0, ((dg 1000000000 v i : Int) - (dg 1000000000 u i : Int)) - (m1 : Int))] [] _
            refine ZE.iinc (ls2 := [(2, b), (2, c), (0, 1), (0, (i : Int) + 1), (0, ((dg 1000000000 v i : Int) - (dg 1000000000 u i : Int)) - (m1 : Int))]) d_Big_minus_61 rfl rfl ?_
            refine ZE.goto (tgt := 4) d_Big_minus_64 rfl ?_
            refine ZE.mask [true, true, true, true, false] ?_
            show ZE (d + 2) M_Big_minus (gw G (up2 A1 (b + 1) (i : Int) ((((dg 1000000000 v i : Int) - (dg 1000000000 u i : Int)) - (m1 : Int)) + (1 * 1000000000)))) 4 [(2, b), (2, c), (0, 1), (0, (i : Int) + 1), (9, 0)] [] _
            rw [show (i : Int) + 1 = ((i + 1 : Nat) : Int) by omega]
            refine ih (i + 1) (up2 A1 (b + 1) (i : Int) ((((dg 1000000000 v i : Int) - (dg 1000000000 u i : Int)) - (m1 : Int)) + (1 * 1000000000))) 1 (by omega) (gF.tr bF.row) ((up2_ne _ _ (by omega)).trans e0) ((up2_ne _ _ (by omega)).trans e1) ?_ ?_ hss.1.symm (by omega)
            · intro q hq
              by_cases e : q = i
              · subst e; rw [up2_at, ← hss.2]; omega
              · rw [up2_ne _ _ (by omega)]; exact e2 q (by omega)
            · intro q hq1 hq2; rw [up2_ne _ _ (by omega)]; exact e3 q (by omega) hq2
  exact L4 _ 0 A 0 (by omega) bF.rf hv.1 hv.2.1 (fun q h => absurd h (Nat.not_lt_zero _)) (fun q _ h => hv.2.2 q h) (brw_0 _ _ _).symm (Nat.lt_succ_self _)
set_option maxRecDepth 20000 in
set_option maxHeartbeats 4000000 in
theorem B_decrease {d : Nat} {G : zG} {A : Int → Int → Int} {P : Option zV → zG → Prop}  {b : Int} {cap : Nat} (hB : bK G b cap) {v : Nat} (hv : bN A b v) (hv1 : 1 ≤ v) (h9 : nd 1000000000 v ≤ cap) (k : ∀ A2, bF A A2 b → bN A2 b (v - 1) → P none (gw G A2)) : ZE (d + 2) M_Big_decrease (gw G A) 0 [(2, b), (9, 0), (9, 0)] [] P := by
  have hcp := hB.2.2.2.2.2
  refine ZE.iconst (n := 1) d_Big_decrease_0 ?_
  refine ZE.istore_n (ls2 := [(2, b), (0, 1), (9, 0)]) d_Big_decrease_1 (Nat.le_of_ble_eq_true rfl) rfl ?_
  refine ZE.iconst (n := 0) d_Big_decrease_2 ?_
  refine ZE.istore_n (ls2 := [(2, b), (0, 1), (0, 0)]) d_Big_decrease_3 (Nat.le_of_ble_eq_true rfl) rfl ?_
  have L4 : ∀ (t : Nat) (i : Nat) (A1 : Int → Int → Int) (m1 : Nat) (hi : i ≤ nd 1000000000 v) (gF : bF A A1 b) (e0 : A1 b 0 = b + 1) (e1 : A1 b 1 = (nd 1000000000 v : Int)) (e2 : ∀ q : Nat, q < i → A1 (b + 1) q = (dg 1000000000 (v - 1) q : Int)) (e3 : ∀ q : Nat, i ≤ q → q < nd 1000000000 v → A1 (b + 1) q = (dg 1000000000 v q : Int)) (hm1 : (m1 = 1 ∧ v % 1000000000 ^ i = 0) ∨ (m1 = 0 ∧ v % 1000000000 ^ i ≠ 0)), nd 1000000000 v - i < t → ZE (d + 2) M_Big_decrease (gw G A1) 4 [(2, b), (0, (m1 : Int)), (0, (i : Int))] [] P := by
    intro t
    induction t with
    | zero => intro i A1 m1 hi gF e0 e1 e2 e3 hm1 hm; exact absurd hm (Nat.not_lt_zero _)
    | succ t ih =>
      intro i A1 m1 hi gF e0 e1 e2 e3 hm1 hm
      have hdl := dB_lt v i
      refine ZE.iload_n d_Big_decrease_4 rfl ?_
      refine ZE.aload_n d_Big_decrease_5 rfl ?_
      refine ZE.getE (v := (nd 1000000000 v : Int)) d_Big_decrease_6 f_Big_15 (tg := 0) rfl hB.1 e1 ?_
      refine ZE.icmp_ge (tgt := 70) d_Big_decrease_9 rfl (by unfold zR; omega) (by unfold zR; omega) (fun c9 => ?_) (fun c9 => ?_)
      · refine ZE.aload_n d_Big_decrease_70 rfl ?_
        have hdv : ∀ q : Nat, q < nd 1000000000 v → A1 (b + 1) q = (dg 1000000000 (v - 1) q : Int) := by
          intro q hq
          rcases Nat.lt_or_ge q i with q1 | q1
          · exact e2 q q1
          · rcases hm1 with q2 | q2
            · exact absurd q2.1 (by omega)
            · rw [e3 q q1 hq, dg_hi (dec_end (by omega) q2.2).symm q1]
        refine ZE.cV [] [] [(2, b), (9, 0)] d_Big_decrease_71 l_Big_40 rfl rfl rfl rfl rfl rfl hB.1 ?_
        refine B_trim (m := nd 1000000000 v) (v := v - 1) hB h9 e0 e1 hdv (Nat.lt_of_le_of_lt (Nat.sub_le _ _) (nd_self (by omega) v)) (fun A2 g2 hn2 => ?_)
        show ZE (d + 2) M_Big_decrease (gw G A2) 74 [(2, b), (0, (m1 : Int)), (0, (i : Int))] [] _
        refine ZE.vret d_Big_decrease_74 rfl ?_
        exact k A2 (gF.tr g2) hn2
      · refine ZE.iload_n d_Big_decrease_12 rfl ?_
        refine ZE.aload_n d_Big_decrease_13 rfl ?_
        refine ZE.getE (v := b + 1) d_Big_decrease_14 f_Big_9 (tg := 2) rfl hB.1 e0 ?_
        refine ZE.alenE (v := (cap : Int)) d_Big_decrease_17 (by have hk0 := hB.2.1; show 1 ≤ gk G (b + 1) ∧ gk G (b + 1) ≤ 6; omega) hB.2.2.1 ?_
        refine ZE.icmp_ge (tgt := 70) d_Big_decrease_18 rfl (by unfold zR; omega) (by unfold zR; omega) (fun c18 => ?_) (fun c18 => ?_)
        · exact absurd c18 (by omega)
        · refine ZE.iload_n d_Big_decrease_21 rfl ?_
          refine ZE.if_le (tgt := 70) d_Big_decrease_22 rfl (by unfold zR; omega) (fun c22 => ?_) (fun c22 => ?_)
          · refine ZE.aload_n d_Big_decrease_70 rfl ?_
            have hdv : ∀ q : Nat, q < nd 1000000000 v → A1 (b + 1) q = (dg 1000000000 (v - 1) q : Int) := by
              intro q hq
              rcases Nat.lt_or_ge q i with q1 | q1
              · exact e2 q q1
              · rcases hm1 with q2 | q2
                · exact absurd q2.1 (by omega)
                · rw [e3 q q1 hq, dg_hi (dec_end (by omega) q2.2).symm q1]
            refine ZE.cV [] [] [(2, b), (9, 0)] d_Big_decrease_71 l_Big_40 rfl rfl rfl rfl rfl rfl hB.1 ?_
            refine B_trim (m := nd 1000000000 v) (v := v - 1) hB h9 e0 e1 hdv (Nat.lt_of_le_of_lt (Nat.sub_le _ _) (nd_self (by omega) v)) (fun A2 g2 hn2 => ?_)
            show ZE (d + 2) M_Big_decrease (gw G A2) 74 [(2, b), (0, (m1 : Int)), (0, (i : Int))] [] _
            refine ZE.vret d_Big_decrease_74 rfl ?_
            exact k A2 (gF.tr g2) hn2
          · have hzz : v % 1000000000 ^ i = 0 := by rcases hm1 with q | q; exact q.2; exact absurd q.1 (by omega)
            have hds := dec_step (b := 1000000000) (by omega) hv1 hzz
            refine ZE.aload_n d_Big_decrease_25 rfl ?_
            refine ZE.getE (v := b + 1) d_Big_decrease_26 f_Big_9 (tg := 2) rfl hB.1 e0 ?_
            refine ZE.iload_n d_Big_decrease_29 rfl ?_
            refine ZE.ialdE (v := (dg 1000000000 v i : Int)) d_Big_decrease_30 hB.2.1 (by have hn0 := hB.2.2.1; show 0 ≤ (i : Int) ∧ (i : Int) < gn G (b + 1); omega) (e3 i (by omega) (by omega)) ?_
            refine ZE.if_ne (tgt := 38) d_Big_decrease_31 rfl (by unfold zR; omega) (fun c31 => ?_) (fun c31 => ?_)
            · refine ZE.iconst (n := 0) d_Big_decrease_38 ?_
              refine ZE.istore_n (ls2 := [(2, b), (0, 0), (0, (i : Int))]) d_Big_decrease_39 (Nat.le_of_ble_eq_true rfl) rfl ?_
              refine ZE.aload_n d_Big_decrease_40 rfl ?_
              refine ZE.getE (v := b + 1) d_Big_decrease_41 f_Big_9 (tg := 2) rfl hB.1 e0 ?_
              refine ZE.iload_n d_Big_decrease_44 rfl ?_
              refine ZE.iload_n d_Big_decrease_45 rfl ?_
              refine ZE.iconst (n := 1) d_Big_decrease_46 ?_
              refine ZE.icmp_ne (tgt := 55) d_Big_decrease_47 rfl (by unfold zR; omega) (by unfold zR; omega) (fun c47 => ?_) (fun c47 => ?_)
              · refine ZE.aload_n d_Big_decrease_55 rfl ?_
                refine ZE.getE (v := b + 1) d_Big_decrease_56 f_Big_9 (tg := 2) rfl hB.1 e0 ?_
                refine ZE.iload_n d_Big_decrease_59 rfl ?_
                refine ZE.ialdE (v := (dg 1000000000 v i : Int)) d_Big_decrease_60 hB.2.1 (by have hn0 := hB.2.2.1; show 0 ≤ (i : Int) ∧ (i : Int) < gn G (b + 1); omega) (e3 i (by omega) (by omega)) ?_
                refine ZE.iconst (n := 1) d_Big_decrease_61 ?_
                refine ZE.isub d_Big_decrease_62 ?_
                refine ZE.iast d_Big_decrease_63 hB.2.1 (by have hn0 := hB.2.2.1; show 0 ≤ (i : Int) ∧ (i : Int) < gn G (b + 1); omega) ?_
                show ZE (d + 2) M_Big_decrease (gw G (up2 A1 (b + 1) (i : Int) ((dg 1000000000 v i : Int) - 1))) 64 [(2, b), (0, 0), (0, (i : Int))] [] _
                refine ZE.iinc (ls2 := [(2, b), (0, 0), (0, (i : Int) + 1)]) d_Big_decrease_64 rfl rfl ?_
                refine ZE.goto (tgt := 4) d_Big_decrease_67 rfl ?_
                rw [show (i : Int) + 1 = ((i + 1 : Nat) : Int) by omega]
                refine ih (i + 1) (up2 A1 (b + 1) (i : Int) ((dg 1000000000 v i : Int) - 1)) 0 (by omega) (gF.tr bF.row) ((up2_ne _ _ (by omega)).trans e0) ((up2_ne _ _ (by omega)).trans e1) ?_ ?_ (Or.inr ⟨rfl, fun q => by have := ((mod_z (by omega)).mp q).2; omega⟩) (by omega)
                · intro q hq
                  by_cases e : q = i
                  · subst e; rw [up2_at, hds]; rw [if_neg (by omega)]; omega
                  · rw [up2_ne _ _ (by omega)]; exact e2 q (by omega)
                · intro q hq1 hq2; rw [up2_ne _ _ (by omega)]; exact e3 q (by omega) hq2
              · exact absurd c47 (by decide)
            · refine ZE.iconst (n := 1) d_Big_decrease_34 ?_
              refine ZE.goto (tgt := 39) d_Big_decrease_35 rfl ?_
              refine ZE.istore_n (ls2 := [(2, b), (0, 1), (0, (i : Int))]) d_Big_decrease_39 (Nat.le_of_ble_eq_true rfl) rfl ?_
              refine ZE.aload_n d_Big_decrease_40 rfl ?_
              refine ZE.getE (v := b + 1) d_Big_decrease_41 f_Big_9 (tg := 2) rfl hB.1 e0 ?_
              refine ZE.iload_n d_Big_decrease_44 rfl ?_
              refine ZE.iload_n d_Big_decrease_45 rfl ?_
              refine ZE.iconst (n := 1) d_Big_decrease_46 ?_
              refine ZE.icmp_ne (tgt := 55) d_Big_decrease_47 rfl (by unfold zR; omega) (by unfold zR; omega) (fun c47 => ?_) (fun c47 => ?_)
              · exact absurd c47 (by decide)
              · refine ZE.ldc (v := 999999999) d_Big_decrease_50 k_Big_44 ?_
                refine ZE.goto (tgt := 63) d_Big_decrease_52 rfl ?_
                refine ZE.iast d_Big_decrease_63 hB.2.1 (by have hn0 := hB.2.2.1; show 0 ≤ (i : Int) ∧ (i : Int) < gn G (b + 1); omega) ?_
                show ZE (d + 2) M_Big_decrease (gw G (up2 A1 (b + 1) (i : Int) 999999999)) 64 [(2, b), (0, 1), (0, (i : Int))] [] _
                refine ZE.iinc (ls2 := [(2, b), (0, 1), (0, (i : Int) + 1)]) d_Big_decrease_64 rfl rfl ?_
                refine ZE.goto (tgt := 4) d_Big_decrease_67 rfl ?_
                rw [show (i : Int) + 1 = ((i + 1 : Nat) : Int) by omega]
                refine ih (i + 1) (up2 A1 (b + 1) (i : Int) 999999999) 1 (by omega) (gF.tr bF.row) ((up2_ne _ _ (by omega)).trans e0) ((up2_ne _ _ (by omega)).trans e1) ?_ ?_ (Or.inl ⟨rfl, (mod_z (by omega)).mpr ⟨hzz, by omega⟩⟩) (by omega)
                · intro q hq
                  by_cases e : q = i
                  · subst e; rw [up2_at, hds]; rw [if_pos (by omega)]; rfl
                  · rw [up2_ne _ _ (by omega)]; exact e2 q (by omega)
                · intro q hq1 hq2; rw [up2_ne _ _ (by omega)]; exact e3 q (by omega) hq2
  exact L4 _ 0 A 1 (by omega) bF.rf hv.1 hv.2.1 (fun q h => absurd h (Nat.not_lt_zero _)) (fun q _ h => hv.2.2 q h) (Or.inl ⟨rfl, Nat.mod_one _⟩) (Nat.lt_succ_self _)
set_option maxRecDepth 20000 in
set_option maxHeartbeats 4000000 in
theorem B_remainder {d : Nat} {G : zG} {A : Int → Int → Int} {P : Option zV → zG → Prop}  {b : Int} {cap : Nat} (hB : bK G b cap) {v : Nat} (hv : bN A b v) {y : Nat} (hy : 0 < y) (hy2 : y < 2147483648) (h9 : nd 1000000000 v ≤ cap) (k : P (some (0, ((v % y : Nat) : Int))) (gw G A)) : ZE (d + 1) M_Big_remainder (gw G A) 0 [(2, b), (0, (y : Int)), (9, 0), (9, 0), (9, 0)] [] P := by
  have hcp := hB.2.2.2.2.2
  refine ZE.lconst d_Big_remainder_0 ?_
  show ZE (d + 1) M_Big_remainder (gw G A) 1 [(2, b), (0, (y : Int)), (9, 0), (9, 0), (9, 0)] [(1, 0)] _
  refine ZE.lstore_n (ls2 := [(2, b), (0, (y : Int)), (1, 0), (9, 0), (9, 0)]) d_Big_remainder_1 (Nat.le_of_ble_eq_true rfl) rfl ?_
  refine ZE.aload_n d_Big_remainder_2 rfl ?_
  refine ZE.getE (v := (nd 1000000000 v : Int)) d_Big_remainder_3 f_Big_15 (tg := 0) rfl hB.1 hv.2.1 ?_
  refine ZE.aload_n d_Big_remainder_6 rfl ?_
  refine ZE.getE (v := b + 1) d_Big_remainder_7 f_Big_9 (tg := 2) rfl hB.1 hv.1 ?_
  refine ZE.alenE (v := (cap : Int)) d_Big_remainder_10 (by have hk0 := hB.2.1; show 1 ≤ gk G (b + 1) ∧ gk G (b + 1) ≤ 6; omega) hB.2.2.1 ?_
  refine ZE.cS [(0, (nd 1000000000 v : Int)), (0, (cap : Int))] [] [(0, (nd 1000000000 v : Int)), (0, (cap : Int))] d_Big_remainder_11 l_Big_19 rfl rfl rfl rfl rfl rfl ?_
  refine j_min (by unfold zR; omega) (by unfold zR; omega) ?_
  show ZE (d + 1) M_Big_remainder (gw G A) 14 [(2, b), (0, (y : Int)), (1, 0), (9, 0), (9, 0)] [(0, if (nd 1000000000 v : Int) ≤ (cap : Int) then (nd 1000000000 v : Int) else (cap : Int))] _
  rw [if_pos (by omega)]
  refine ZE.iconst (n := 1) d_Big_remainder_14 ?_
  refine ZE.isub d_Big_remainder_15 ?_
  refine ZE.istore (ls2 := [(2, b), (0, (y : Int)), (1, 0), (9, 0), (0, (nd 1000000000 v : Int) - 1)]) d_Big_remainder_16 (Nat.le_of_ble_eq_true rfl) rfl ?_
  have L18 : ∀ (t : Nat) (j : Nat) (hj : j ≤ nd 1000000000 v), j < t → ZE (d + 1) M_Big_remainder (gw G A) 18 [(2, b), (0, (y : Int)), (1, ((v / 1000000000 ^ j % y : Nat) : Int)), (9, 0), (0, (j : Int) - 1)] [] P := by
    intro t
    induction t with
    | zero => intro j hj hm; exact absurd hm (Nat.not_lt_zero _)
    | succ t ih =>
      intro j hj hm
      rcases Nat.eq_zero_or_pos j with hj0 | hj0
      · subst hj0
        refine ZE.iload d_Big_remainder_18 rfl ?_
        refine ZE.if_lt (tgt := 51) d_Big_remainder_20 rfl (by unfold zR; omega) (fun c20 => ?_) (fun c20 => ?_)
        · refine ZE.lload_n d_Big_remainder_51 rfl ?_
          refine ZE.l2i d_Big_remainder_52 ?_
          refine ZE.iret d_Big_remainder_53 rfl ?_
          rw [Nat.pow_zero, Nat.div_one]
          exact k
        · exact absurd c20 (by omega)
      · obtain ⟨i, rfl⟩ : ∃ i, j = i + 1 := ⟨j - 1, by omega⟩
        rw [show ((i + 1 : Nat) : Int) - 1 = (i : Int) by omega]
        obtain ⟨T, hT⟩ : ∃ T : Nat, T = v / 1000000000 ^ (i + 1) % y * 1000000000 + dg 1000000000 v i := ⟨_, rfl⟩
        obtain ⟨s1, s2⟩ := div_step_d (b := 1000000000) (by omega) v y i hy
        rw [← hT] at s1 s2
        have hdl := dB_lt v i
        have hrl : v / 1000000000 ^ (i + 1) % y < y := Nat.mod_lt _ hy
        obtain ⟨rs, hrs⟩ : ∃ rs : Nat, rs = v / 1000000000 ^ (i + 1) % y := ⟨_, rfl⟩
        rw [← hrs]
        rw [← hrs] at hT hrl
        refine ZE.iload d_Big_remainder_18 rfl ?_
        refine ZE.if_lt (tgt := 51) d_Big_remainder_20 rfl (by unfold zR; omega) (fun c20 => ?_) (fun c20 => ?_)
        · exact absurd c20 (by omega)
        · refine ZE.iload_n d_Big_remainder_23 rfl ?_
          refine ZE.if_le (tgt := 51) d_Big_remainder_24 rfl (by unfold zR; omega) (fun c24 => ?_) (fun c24 => ?_)
          · exact absurd c24 (by omega)
          · refine ZE.lload_n d_Big_remainder_27 rfl ?_
            refine ZE.ldc2 (v := 1000000000) d_Big_remainder_28 k_Big_29 ?_
            refine ZE.lmul d_Big_remainder_31 ?_
            refine ZE.aload_n d_Big_remainder_32 rfl ?_
            refine ZE.getE (v := b + 1) d_Big_remainder_33 f_Big_9 (tg := 2) rfl hB.1 hv.1 ?_
            refine ZE.iload d_Big_remainder_36 rfl ?_
            refine ZE.ialdE (v := (dg 1000000000 v i : Int)) d_Big_remainder_38 hB.2.1 (by have hn0 := hB.2.2.1; show 0 ≤ (i : Int) ∧ (i : Int) < gn G (b + 1); omega) (hv.2.2 i (by omega)) ?_
            refine ZE.i2l d_Big_remainder_39 (by unfold zR; omega) ?_
            refine ZE.ladd d_Big_remainder_40 ?_
            rw [show (((rs : Int) * 1000000000) + (dg 1000000000 v i : Int) : Int) = (T : Int) from (by omega)]
            refine ZE.iload_n d_Big_remainder_41 rfl ?_
            refine ZE.i2l d_Big_remainder_42 (by unfold zR; omega) ?_
            refine ZE.lremP d_Big_remainder_43 (by omega) ?_
            rw [show ((T : Int) % (y : Int) : Int) = ((T % y : Nat) : Int) from (Int.natCast_emod _ _).symm]
            refine ZE.lstore_n (ls2 := [(2, b), (0, (y : Int)), (1, ((T % y : Nat) : Int)), (9, 0), (0, (i : Int))]) d_Big_remainder_44 (Nat.le_of_ble_eq_true rfl) rfl ?_
            refine ZE.iinc (ls2 := [(2, b), (0, (y : Int)), (1, ((T % y : Nat) : Int)), (9, 0), (0, (i : Int) + (-1))]) d_Big_remainder_45 rfl rfl ?_
            refine ZE.goto (tgt := 18) d_Big_remainder_48 rfl ?_
            rw [show (i : Int) + (-1) = (i : Int) - 1 by omega, s1]
            exact ih i (by omega) (by omega)
  have L0 := L18 _ (nd 1000000000 v) (Nat.le_refl _) (Nat.lt_succ_self _)
  rw [Nat.div_eq_of_lt (nd_self (by omega) v), Nat.zero_mod] at L0
  exact L0
set_option maxRecDepth 20000 in
set_option maxHeartbeats 4000000 in
theorem B_divide {d : Nat} {G : zG} {A : Int → Int → Int} {P : Option zV → zG → Prop}  {b : Int} {cap : Nat} (hB : bK G b cap) {v : Nat} (hv : bN A b v) {y : Nat} (hy : 0 < y) (hy2 : y < 2147483648) (h9 : nd 1000000000 v ≤ cap) (k : ∀ A2, bF A A2 b → bN A2 b (v / y) → P none (gw G A2)) : ZE (d + 1) M_Big_divide (gw G A) 0 [(2, b), (0, (y : Int)), (9, 0), (9, 0), (9, 0), (9, 0), (9, 0)] [] P := by
  have hcp := hB.2.2.2.2.2
  refine ZE.lconst d_Big_divide_0 ?_
  show ZE (d + 1) M_Big_divide (gw G A) 1 [(2, b), (0, (y : Int)), (9, 0), (9, 0), (9, 0), (9, 0), (9, 0)] [(1, 0)] _
  refine ZE.lstore_n (ls2 := [(2, b), (0, (y : Int)), (1, 0), (9, 0), (9, 0), (9, 0), (9, 0)]) d_Big_divide_1 (Nat.le_of_ble_eq_true rfl) rfl ?_
  refine ZE.aload_n d_Big_divide_2 rfl ?_
  refine ZE.getE (v := (nd 1000000000 v : Int)) d_Big_divide_3 f_Big_15 (tg := 0) rfl hB.1 hv.2.1 ?_
  refine ZE.aload_n d_Big_divide_6 rfl ?_
  refine ZE.getE (v := b + 1) d_Big_divide_7 f_Big_9 (tg := 2) rfl hB.1 hv.1 ?_
  refine ZE.alenE (v := (cap : Int)) d_Big_divide_10 (by have hk0 := hB.2.1; show 1 ≤ gk G (b + 1) ∧ gk G (b + 1) ≤ 6; omega) hB.2.2.1 ?_
  refine ZE.cS [(0, (nd 1000000000 v : Int)), (0, (cap : Int))] [] [(0, (nd 1000000000 v : Int)), (0, (cap : Int))] d_Big_divide_11 l_Big_19 rfl rfl rfl rfl rfl rfl ?_
  refine j_min (by unfold zR; omega) (by unfold zR; omega) ?_
  show ZE (d + 1) M_Big_divide (gw G A) 14 [(2, b), (0, (y : Int)), (1, 0), (9, 0), (9, 0), (9, 0), (9, 0)] [(0, if (nd 1000000000 v : Int) ≤ (cap : Int) then (nd 1000000000 v : Int) else (cap : Int))] _
  rw [if_pos (by omega)]
  refine ZE.iconst (n := 1) d_Big_divide_14 ?_
  refine ZE.isub d_Big_divide_15 ?_
  refine ZE.istore (ls2 := [(2, b), (0, (y : Int)), (1, 0), (9, 0), (0, (nd 1000000000 v : Int) - 1), (9, 0), (9, 0)]) d_Big_divide_16 (Nat.le_of_ble_eq_true rfl) rfl ?_
  have L18 : ∀ (t : Nat) (j : Nat) (A1 : Int → Int → Int) (s : Nat) (hj : j ≤ nd 1000000000 v) (gF : bF A A1 b) (e0 : A1 b 0 = b + 1) (e1 : A1 b 1 = (s : Int)) (e2 : ∀ q : Nat, j ≤ q → q < nd 1000000000 v → A1 (b + 1) q = (dg 1000000000 (v / y) q : Int)) (e3 : ∀ q : Nat, q < j → A1 (b + 1) q = (dg 1000000000 v q : Int)) (hsj : j ≤ s ∧ s ≤ nd 1000000000 v) (hlt : v / y < 1000000000 ^ s) (hkp : s = j ∨ dg 1000000000 (v / y) (s - 1) ≠ 0), j < t → ZE (d + 1) M_Big_divide (gw G A1) 18 [(2, b), (0, (y : Int)), (1, ((v / 1000000000 ^ j % y : Nat) : Int)), (9, 0), (0, (j : Int) - 1), (9, 0), (9, 0)] [] P := by
    intro t
    induction t with
    | zero => intro j A1 s hj gF e0 e1 e2 e3 hsj hlt hkp hm; exact absurd hm (Nat.not_lt_zero _)
    | succ t ih =>
      intro j A1 s hj gF e0 e1 e2 e3 hsj hlt hkp hm
      rcases Nat.eq_zero_or_pos j with hj0 | hj0
      · subst hj0
        refine ZE.iload d_Big_divide_18 rfl ?_
        refine ZE.if_lt (tgt := 95) d_Big_divide_20 rfl (by unfold zR; omega) (fun c20 => ?_) (fun c20 => ?_)
        · refine ZE.vret d_Big_divide_95 rfl ?_
          have hns : nd 1000000000 (v / y) = s := by
            refine nd_eq (by omega) hlt ?_
            rcases hkp with q | q
            · exact Or.inl q
            · right
              rcases Nat.lt_or_ge (v / y) (1000000000 ^ (s - 1)) with q1 | q1
              · exact absurd (show dg 1000000000 (v / y) (s - 1) = 0 by unfold dg; rw [Nat.div_eq_of_lt q1]) q
              · exact q1
          exact k A1 gF ⟨e0, by rw [hns]; exact e1, fun q hq => e2 q (Nat.zero_le _) (by omega)⟩
        · exact absurd c20 (by omega)
      · obtain ⟨i, rfl⟩ : ∃ i, j = i + 1 := ⟨j - 1, by omega⟩
        rw [show ((i + 1 : Nat) : Int) - 1 = (i : Int) by omega]
        obtain ⟨T, hT⟩ : ∃ T : Nat, T = v / 1000000000 ^ (i + 1) % y * 1000000000 + dg 1000000000 v i := ⟨_, rfl⟩
        obtain ⟨s1, s2⟩ := div_step_d (b := 1000000000) (by omega) v y i hy
        rw [← hT] at s1 s2
        have hdl := dB_lt v i
        have hrl : v / 1000000000 ^ (i + 1) % y < y := Nat.mod_lt _ hy
        obtain ⟨rs, hrs⟩ : ∃ rs : Nat, rs = v / 1000000000 ^ (i + 1) % y := ⟨_, rfl⟩
        rw [← hrs]
        rw [← hrs] at hT hrl
        refine ZE.iload d_Big_divide_18 rfl ?_
        refine ZE.if_lt (tgt := 95) d_Big_divide_20 rfl (by unfold zR; omega) (fun c20 => ?_) (fun c20 => ?_)
        · exact absurd c20 (by omega)
        · refine ZE.iload_n d_Big_divide_23 rfl ?_
          refine ZE.if_le (tgt := 95) d_Big_divide_24 rfl (by unfold zR; omega) (fun c24 => ?_) (fun c24 => ?_)
          · exact absurd c24 (by omega)
          · refine ZE.lload_n d_Big_divide_27 rfl ?_
            refine ZE.ldc2 (v := 1000000000) d_Big_divide_28 k_Big_29 ?_
            refine ZE.lmul d_Big_divide_31 ?_
            refine ZE.aload_n d_Big_divide_32 rfl ?_
            refine ZE.getE (v := b + 1) d_Big_divide_33 f_Big_9 (tg := 2) rfl hB.1 e0 ?_
            refine ZE.iload d_Big_divide_36 rfl ?_
            refine ZE.ialdE (v := (dg 1000000000 v i : Int)) d_Big_divide_38 hB.2.1 (by have hn0 := hB.2.2.1; show 0 ≤ (i : Int) ∧ (i : Int) < gn G (b + 1); omega) (e3 i (by omega)) ?_
            refine ZE.i2l d_Big_divide_39 (by unfold zR; omega) ?_
            refine ZE.ladd d_Big_divide_40 ?_
            rw [show (((rs : Int) * 1000000000) + (dg 1000000000 v i : Int) : Int) = (T : Int) from (by omega)]
            refine ZE.lstore (ls2 := [(2, b), (0, (y : Int)), (1, (rs : Int)), (9, 0), (0, (i : Int)), (1, (T : Int)), (9, 0)]) d_Big_divide_41 (Nat.le_of_ble_eq_true rfl) rfl ?_
            refine ZE.aload_n d_Big_divide_43 rfl ?_
            refine ZE.getE (v := b + 1) d_Big_divide_44 f_Big_9 (tg := 2) rfl hB.1 e0 ?_
            refine ZE.iload d_Big_divide_47 rfl ?_
            refine ZE.lload d_Big_divide_49 rfl ?_
            refine ZE.iload_n d_Big_divide_51 rfl ?_
            refine ZE.i2l d_Big_divide_52 (by unfold zR; omega) ?_
            refine ZE.ldivP d_Big_divide_53 (by omega) ?_
            rw [show ((T : Int) / (y : Int) : Int) = ((T / y : Nat) : Int) from (Int.natCast_ediv _ _).symm]
            refine ZE.l2i d_Big_divide_54 ?_
            refine ZE.iast d_Big_divide_55 hB.2.1 (by have hn0 := hB.2.2.1; show 0 ≤ (i : Int) ∧ (i : Int) < gn G (b + 1); omega) ?_
            show ZE (d + 1) M_Big_divide (gw G (up2 A1 (b + 1) (i : Int) ((T / y : Nat) : Int))) 56 [(2, b), (0, (y : Int)), (1, (rs : Int)), (9, 0), (0, (i : Int)), (1, (T : Int)), (9, 0)] [] _
            refine ZE.lload d_Big_divide_56 rfl ?_
            refine ZE.iload_n d_Big_divide_58 rfl ?_
            refine ZE.i2l d_Big_divide_59 (by unfold zR; omega) ?_
            refine ZE.lremP d_Big_divide_60 (by omega) ?_
            rw [show ((T : Int) % (y : Int) : Int) = ((T % y : Nat) : Int) from (Int.natCast_emod _ _).symm]
            refine ZE.lstore_n (ls2 := [(2, b), (0, (y : Int)), (1, ((T % y : Nat) : Int)), (9, 0), (0, (i : Int)), (1, (T : Int)), (9, 0)]) d_Big_divide_61 (Nat.le_of_ble_eq_true rfl) rfl ?_
            have hTy : T / y < 1000000000 := by rw [s2]; exact dB_lt _ _
            refine ZE.aload_n d_Big_divide_62 rfl ?_
            refine ZE.getE (v := b + 1) d_Big_divide_63 f_Big_9 (tg := 2) rfl hB.1 ((up2_ne _ _ (by omega)).trans e0) ?_
            refine ZE.iload d_Big_divide_66 rfl ?_
            refine ZE.ialdE (v := ((T / y : Nat) : Int)) d_Big_divide_68 hB.2.1 (by have hn0 := hB.2.2.1; show 0 ≤ (i : Int) ∧ (i : Int) < gn G (b + 1); omega) (up2_at _ _ _ _) ?_
            refine ZE.if_ne (tgt := 89) d_Big_divide_69 rfl (by unfold zR; omega) (fun c69 => ?_) (fun c69 => ?_)
            · have hkeep : s = i ∨ dg 1000000000 (v / y) (s - 1) ≠ 0 := by
                rcases hkp with q | q
                · right; rw [show s - 1 = i by omega, ← s2]; omega
                · exact Or.inr q
              refine ZE.iinc (ls2 := [(2, b), (0, (y : Int)), (1, ((T % y : Nat) : Int)), (9, 0), (0, (i : Int) + (-1)), (1, (T : Int)), (9, 0)]) d_Big_divide_89 rfl rfl ?_
              refine ZE.goto (tgt := 18) d_Big_divide_92 rfl ?_
              refine ZE.mask [true, true, true, true, true, false, true] ?_
              show ZE (d + 1) M_Big_divide (gw G (up2 A1 (b + 1) (i : Int) ((T / y : Nat) : Int))) 18 [(2, b), (0, (y : Int)), (1, ((T % y : Nat) : Int)), (9, 0), (0, (i : Int) + (-1)), (9, 0), (9, 0)] [] _
              rw [show (i : Int) + (-1) = (i : Int) - 1 by omega, s1]
              refine ih i _ s (by omega) (gF.tr bF.row) ((up2_ne _ _ (by omega)).trans e0) ((up2_ne _ _ (by omega)).trans e1) ?_ ?_ (by omega) hlt hkeep (by omega)
              · intro q hq1 hq2; skip
                by_cases e : q = i
                · subst e; rw [up2_at]; exact congrArg Nat.cast s2
                · rw [up2_ne _ _ (by omega)]; exact e2 q (by omega) hq2
              · intro q hq; rw [up2_ne _ _ (by omega)]; exact e3 q (by omega)
            · refine ZE.iload d_Big_divide_72 rfl ?_
              refine ZE.aload_n d_Big_divide_74 rfl ?_
              refine ZE.getE (v := (s : Int)) d_Big_divide_75 f_Big_15 (tg := 0) rfl hB.1 ((up2_ne _ _ (by omega)).trans e1) ?_
              refine ZE.iconst (n := 1) d_Big_divide_78 ?_
              refine ZE.isub d_Big_divide_79 ?_
              refine ZE.icmp_ne (tgt := 89) d_Big_divide_80 rfl (by unfold zR; omega) (by unfold zR; omega) (fun c80 => ?_) (fun c80 => ?_)
              · have hkeep : s = i ∨ dg 1000000000 (v / y) (s - 1) ≠ 0 := Or.inr (hkp.resolve_left (by omega))
                refine ZE.iinc (ls2 := [(2, b), (0, (y : Int)), (1, ((T % y : Nat) : Int)), (9, 0), (0, (i : Int) + (-1)), (1, (T : Int)), (9, 0)]) d_Big_divide_89 rfl rfl ?_
                refine ZE.goto (tgt := 18) d_Big_divide_92 rfl ?_
                refine ZE.mask [true, true, true, true, true, false, true] ?_
                show ZE (d + 1) M_Big_divide (gw G (up2 A1 (b + 1) (i : Int) ((T / y : Nat) : Int))) 18 [(2, b), (0, (y : Int)), (1, ((T % y : Nat) : Int)), (9, 0), (0, (i : Int) + (-1)), (9, 0), (9, 0)] [] _
                rw [show (i : Int) + (-1) = (i : Int) - 1 by omega, s1]
                refine ih i _ s (by omega) (gF.tr bF.row) ((up2_ne _ _ (by omega)).trans e0) ((up2_ne _ _ (by omega)).trans e1) ?_ ?_ (by omega) hlt hkeep (by omega)
                · intro q hq1 hq2; skip
                  by_cases e : q = i
                  · subst e; rw [up2_at]; exact congrArg Nat.cast s2
                  · rw [up2_ne _ _ (by omega)]; exact e2 q (by omega) hq2
                · intro q hq; rw [up2_ne _ _ (by omega)]; exact e3 q (by omega)
              · have hlt2 : v / y < 1000000000 ^ i := by
                  have hd0 : dg 1000000000 (v / y) i = 0 := by rw [← s2]; omega
                  have e5 : s = i + 1 := by omega
                  rw [e5] at hlt
                  rcases Nat.lt_or_ge (v / y) (1000000000 ^ i) with q | q
                  · exact q
                  · unfold dg at hd0
                    have q1 : v / y / 1000000000 ^ i < 1000000000 := (Nat.div_lt_iff_lt_mul (Nat.pow_pos (by omega))).mpr (by rw [Nat.mul_comm, ← Nat.pow_succ]; exact hlt)
                    have q2 : 0 < v / y / 1000000000 ^ i := Nat.div_pos q (Nat.pow_pos (by omega))
                    omega
                refine ZE.aload_n d_Big_divide_83 rfl ?_
                refine ZE.iload d_Big_divide_84 rfl ?_
                refine ZE.put d_Big_divide_86 f_Big_15 (tg := 0) rfl trivial (Or.inl ⟨_, _, _, rfl, rfl, rfl⟩) hB.1 ?_
                show ZE (d + 1) M_Big_divide (gw G (up2 (up2 A1 (b + 1) (i : Int) ((T / y : Nat) : Int)) b 1 (i : Int))) 89 [(2, b), (0, (y : Int)), (1, ((T % y : Nat) : Int)), (9, 0), (0, (i : Int)), (1, (T : Int)), (9, 0)] [] _
                refine ZE.iinc (ls2 := [(2, b), (0, (y : Int)), (1, ((T % y : Nat) : Int)), (9, 0), (0, (i : Int) + (-1)), (1, (T : Int)), (9, 0)]) d_Big_divide_89 rfl rfl ?_
                refine ZE.goto (tgt := 18) d_Big_divide_92 rfl ?_
                refine ZE.mask [true, true, true, true, true, false, true] ?_
                show ZE (d + 1) M_Big_divide (gw G (up2 (up2 A1 (b + 1) (i : Int) ((T / y : Nat) : Int)) b 1 (i : Int))) 18 [(2, b), (0, (y : Int)), (1, ((T % y : Nat) : Int)), (9, 0), (0, (i : Int) + (-1)), (9, 0), (9, 0)] [] _
                rw [show (i : Int) + (-1) = (i : Int) - 1 by omega, s1]
                refine ih i _ i (by omega) ((gF.tr bF.row).tr bF.fld) ((up2_ne _ _ (by omega)).trans ((up2_ne _ _ (by omega)).trans e0)) (up2_at _ _ _ _) ?_ ?_ (by omega) hlt2 (Or.inl rfl) (by omega)
                · intro q hq1 hq2; rw [up2_ne _ _ (by omega)]; skip
                  by_cases e : q = i
                  · subst e; rw [up2_at]; exact congrArg Nat.cast s2
                  · rw [up2_ne _ _ (by omega)]; exact e2 q (by omega) hq2
                · intro q hq; rw [up2_ne _ _ (by omega)]; rw [up2_ne _ _ (by omega)]; exact e3 q (by omega)
  have L0 := L18 _ (nd 1000000000 v) A (nd 1000000000 v) (Nat.le_refl _) bF.rf hv.1 hv.2.1 (fun q h1 h2 => absurd h1 (by omega)) (fun q h => hv.2.2 q h) (by omega) (Nat.lt_of_le_of_lt (Nat.div_le_self _ _) (nd_self (by omega) v)) (Or.inl rfl) (Nat.lt_succ_self _)
  rw [Nat.div_eq_of_lt (nd_self (by omega) v), Nat.zero_mod] at L0
  exact L0
