def taOk (S : Nat) : Nat → Bool
  | 0 => true
  | j + 1 => taOk S j && (!apB S 2 j || (decide (cnt (apB S 2) j < (tws S).length) && decide (tN S (cnt (apB S 2) j) = j + 1)))
theorem taOk_f {S j : Nat} (h : taOk S j = false) : ∀ n, j ≤ n → taOk S n = false := by
  intro n hn
  induction n with
  | zero => have : j = 0 := by omega
            subst this; exact h
  | succ n ih =>
    by_cases q : j = n + 1
    · subst q; exact h
    · unfold taOk; rw [ih (by omega)]; rfl
def taV (S : Nat) (u : Int) : Bool := decide (0 ≤ u ∧ u ≤ 200000) && taOk S (u.toNat - 2) && (decide (cnt (apB S 2) (u.toNat - 2) = (tws S).length) || decide (u < (tN S (cnt (apB S 2) (u.toNat - 2)) : Int) + 2))
set_option maxRecDepth 20000 in
set_option maxHeartbeats 4000000 in
theorem r_twosAgree {d : Nat} {G : zG} {A : Int → Int → Int} {P : Option zV → zG → Prop} {o : Int} (hK : RK G o) (hF : RF A o) {S : Nat} (hR : RS S A o) (hS7 : S < 128) (hp5 : pop S ≤ 5) {u : Int} (hu : zR u) (k : P (some (0, b2i (taV S u = true))) (gw G A)) : ZE (d + 2) M_Ref_twosAgree (gw G A) 0 [(2, o), (0, u), (9, 0), (9, 0)] [] P := by
  have hpl := tws_288 hS7 hp5
  refine ZE.iload_n d_Ref_twosAgree_0 rfl ?_
  refine ZE.i2l d_Ref_twosAgree_1 hu ?_
  refine ZE.lconst d_Ref_twosAgree_2 ?_
  show ZE (d + 2) M_Ref_twosAgree (gw G A) 3 [(2, o), (0, u), (9, 0), (9, 0)] [(1, 0), (1, u)] _
  refine ZE.ldc2 (v := 200000) d_Ref_twosAgree_3 k_Ref_311 ?_
  refine ZE.cS [(1, u), (1, 0), (1, 200000)] [] [(1, u), (9, 0), (1, 0), (9, 0), (1, 200000), (9, 0)] d_Ref_twosAgree_6 l_Ref_111 rfl rfl rfl rfl rfl rfl ?_
  refine r_isIn (by unfold zR at hu; unfold zR64; omega) (by unfold zR64; omega) (by unfold zR64; omega) ?_
  show ZE (d + 2) M_Ref_twosAgree (gw G A) 9 [(2, o), (0, u), (9, 0), (9, 0)] [(0, b2i (0 ≤ u ∧ u ≤ 200000))] _
  refine ZE.if_ne (tgt := 14) d_Ref_twosAgree_9 rfl (zR_b2i _) (fun c9 => ?_) (fun c9 => ?_)
  · replace c9 := b2i_n0.mp c9
    obtain ⟨un, hun⟩ : ∃ un : Nat, u = un := ⟨u.toNat, by omega⟩
    subst hun
    refine ZE.iconst (n := 0) d_Ref_twosAgree_14 ?_
    refine ZE.istore_n (ls2 := [(2, o), (0, (un : Int)), (0, 0), (9, 0)]) d_Ref_twosAgree_15 (Nat.le_of_ble_eq_true rfl) rfl ?_
    refine ZE.iconst (n := 1) d_Ref_twosAgree_16 ?_
    refine ZE.istore_n (ls2 := [(2, o), (0, (un : Int)), (0, 0), (0, 1)]) d_Ref_twosAgree_17 (Nat.le_of_ble_eq_true rfl) rfl ?_
    have L18 : ∀ (t : Nat) (j : Nat) (hj : j ≤ un - 2) (hag : taOk S j = true) (hle : cnt (apB S 2) j ≤ (tws S).length), un - j < t → ZE (d + 2) M_Ref_twosAgree (gw G A) 18 [(2, o), (0, (un : Int)), (0, (cnt (apB S 2) j : Int)), (0, (j : Int) + 1)] [] P := by
      intro t
      induction t with
      | zero => intro j hj hag hle hm; exact absurd hm (Nat.not_lt_zero _)
      | succ t ih =>
        intro j hj hag hle hm
        have hcn := cnt_le (apB S 2) j
        refine ZE.iload_n d_Ref_twosAgree_18 rfl ?_
        refine ZE.iconst (n := 2) d_Ref_twosAgree_19 ?_
        refine ZE.iadd d_Ref_twosAgree_20 ?_
        refine ZE.iload_n d_Ref_twosAgree_21 rfl ?_
        refine ZE.icmp_gt (tgt := 75) d_Ref_twosAgree_22 rfl (by unfold zR; omega) (by unfold zR; omega) (fun c22 => ?_) (fun c22 => ?_)
        · have e1 : j = un - 2 := by omega
          refine ZE.iload_n d_Ref_twosAgree_75 rfl ?_
          refine ZE.aload_n d_Ref_twosAgree_76 rfl ?_
          refine ZE.getE (v := ((tws S).length : Int)) d_Ref_twosAgree_77 f_Ref_170 (tg := 0) rfl hK.1 hR.nt ?_
          refine ZE.icmp_eq (tgt := 95) d_Ref_twosAgree_80 rfl (by unfold zR; omega) (by unfold zR; omega) (fun c80 => ?_) (fun c80 => ?_)
          · refine ZE.iconst (n := 1) d_Ref_twosAgree_95 ?_
            refine ZE.goto (tgt := 100) d_Ref_twosAgree_96 rfl ?_
            refine ZE.zret d_Ref_twosAgree_100 rfl (by omega) ?_
            first
            | (rw [b2i_t (show taV S (un : Int) = true from by unfold taV; rw [decide_eq_true c9, Int.toNat_natCast, ← e1, hag, Bool.true_and, Bool.true_and]; first | (rw [decide_eq_true (show cnt (apB S 2) j = (tws S).length by omega)]; rfl) | (rw [decide_eq_true (show (un : Int) < (tN S (cnt (apB S 2) j) : Int) + 2 by omega), Bool.or_true]))] at k; exact k)
            | (rw [b2i_f (show ¬ taV S (un : Int) = true from by unfold taV; rw [Int.toNat_natCast, ← e1, decide_eq_false (show ¬ cnt (apB S 2) j = (tws S).length by omega), decide_eq_false (show ¬ (un : Int) < (tN S (cnt (apB S 2) j) : Int) + 2 by omega), Bool.or_false, Bool.and_false]; decide)] at k; exact k)
            | (rw [b2i_f (show ¬ taV S (un : Int) = true from by unfold taV; rw [Int.toNat_natCast, taOk_f hbad (un - 2) (by omega), Bool.and_false, Bool.false_and]; decide)] at k; exact k)
          · have hQ := tws_ok hS7 hp5 (k := cnt (apB S 2) j) (by omega)
            have hQ1 : 1 ≤ tN S (cnt (apB S 2) j) ∧ tN S (cnt (apB S 2) j) < 1000000000 := ⟨hQ.1, hQ.2.1⟩
            refine ZE.aload_n d_Ref_twosAgree_83 rfl ?_
            refine ZE.getE (v := o + 10) d_Ref_twosAgree_84 f_Ref_37 (tg := 2) rfl hK.1 hF.a16 ?_
            refine ZE.iload_n d_Ref_twosAgree_87 rfl ?_
            refine ZE.ialdE (v := (tN S (cnt (apB S 2) j) : Int)) d_Ref_twosAgree_88 hK.k10 (by have hn0 := hK.n10; show 0 ≤ (cnt (apB S 2) j : Int) ∧ (cnt (apB S 2) j : Int) < gn G (o + 10); omega) (hR.t (cnt (apB S 2) j) (by omega)).1 ?_
            refine ZE.iconst (n := 2) d_Ref_twosAgree_89 ?_
            refine ZE.iadd d_Ref_twosAgree_90 ?_
            refine ZE.iload_n d_Ref_twosAgree_91 rfl ?_
            refine ZE.icmp_le (tgt := 99) d_Ref_twosAgree_92 rfl (by unfold zR; omega) (by unfold zR; omega) (fun c92 => ?_) (fun c92 => ?_)
            · refine ZE.iconst (n := 0) d_Ref_twosAgree_99 ?_
              refine ZE.zret d_Ref_twosAgree_100 rfl (by omega) ?_
              first
              | (rw [b2i_t (show taV S (un : Int) = true from by unfold taV; rw [decide_eq_true c9, Int.toNat_natCast, ← e1, hag, Bool.true_and, Bool.true_and]; first | (rw [decide_eq_true (show cnt (apB S 2) j = (tws S).length by omega)]; rfl) | (rw [decide_eq_true (show (un : Int) < (tN S (cnt (apB S 2) j) : Int) + 2 by omega), Bool.or_true]))] at k; exact k)
              | (rw [b2i_f (show ¬ taV S (un : Int) = true from by unfold taV; rw [Int.toNat_natCast, ← e1, decide_eq_false (show ¬ cnt (apB S 2) j = (tws S).length by omega), decide_eq_false (show ¬ (un : Int) < (tN S (cnt (apB S 2) j) : Int) + 2 by omega), Bool.or_false, Bool.and_false]; decide)] at k; exact k)
              | (rw [b2i_f (show ¬ taV S (un : Int) = true from by unfold taV; rw [Int.toNat_natCast, taOk_f hbad (un - 2) (by omega), Bool.and_false, Bool.false_and]; decide)] at k; exact k)
            · refine ZE.iconst (n := 1) d_Ref_twosAgree_95 ?_
              refine ZE.goto (tgt := 100) d_Ref_twosAgree_96 rfl ?_
              refine ZE.zret d_Ref_twosAgree_100 rfl (by omega) ?_
              first
              | (rw [b2i_t (show taV S (un : Int) = true from by unfold taV; rw [decide_eq_true c9, Int.toNat_natCast, ← e1, hag, Bool.true_and, Bool.true_and]; first | (rw [decide_eq_true (show cnt (apB S 2) j = (tws S).length by omega)]; rfl) | (rw [decide_eq_true (show (un : Int) < (tN S (cnt (apB S 2) j) : Int) + 2 by omega), Bool.or_true]))] at k; exact k)
              | (rw [b2i_f (show ¬ taV S (un : Int) = true from by unfold taV; rw [Int.toNat_natCast, ← e1, decide_eq_false (show ¬ cnt (apB S 2) j = (tws S).length by omega), decide_eq_false (show ¬ (un : Int) < (tN S (cnt (apB S 2) j) : Int) + 2 by omega), Bool.or_false, Bool.and_false]; decide)] at k; exact k)
              | (rw [b2i_f (show ¬ taV S (un : Int) = true from by unfold taV; rw [Int.toNat_natCast, taOk_f hbad (un - 2) (by omega), Bool.and_false, Bool.false_and]; decide)] at k; exact k)
        · refine ZE.aload_n d_Ref_twosAgree_25 rfl ?_
          refine ZE.iload_n d_Ref_twosAgree_26 rfl ?_
          refine ZE.cV [(0, (j : Int) + 1)] [] [(2, o), (0, (j : Int) + 1), (9, 0), (9, 0)] d_Ref_twosAgree_27 l_Ref_183 rfl rfl rfl rfl rfl rfl hK.1 ?_
          refine r_isSmooth (n := j + 1) hK hF hR.s hS7 (by omega) (by omega) ?_
          show ZE (d + 2) M_Ref_twosAgree (gw G A) 30 [(2, o), (0, (un : Int)), (0, (cnt (apB S 2) j : Int)), (0, (j : Int) + 1)] [(0, b2i (sm S (j + 1)))] _
          refine ZE.if_eq (tgt := 69) d_Ref_twosAgree_30 rfl (zR_b2i _) (fun c30 => ?_) (fun c30 => ?_)
          · replace c30 := b2i_0.mp c30
            have hap : ¬ apB S 2 j = true := fun q => c30 (smB_iff.mp (Bool.and_eq_true _ _ ▸ q).1)
            refine ZE.iinc (ls2 := [(2, o), (0, (un : Int)), (0, (cnt (apB S 2) j : Int)), (0, ((j : Int) + 1) + 1)]) d_Ref_twosAgree_69 rfl rfl ?_
            refine ZE.goto (tgt := 18) d_Ref_twosAgree_72 rfl ?_
            have e1 : cnt (apB S 2) (j + 1) = cnt (apB S 2) j := if_neg hap
            rw [show (cnt (apB S 2) j : Int) = (cnt (apB S 2) (j + 1) : Int) by rw [e1], show (j : Int) + 1 + 1 = ((j + 1 : Nat) : Int) + 1 by omega]
            refine ih (j + 1) (by omega) ?_ (by omega) (by omega)
            unfold taOk; rw [hag, Bool.eq_false_iff.mpr hap]; rfl
          · replace c30 := b2i_n0.mp c30
            refine ZE.aload_n d_Ref_twosAgree_33 rfl ?_
            refine ZE.iload_n d_Ref_twosAgree_34 rfl ?_
            refine ZE.iconst (n := 2) d_Ref_twosAgree_35 ?_
            refine ZE.iadd d_Ref_twosAgree_36 ?_
            rw [show (((j : Int) + 1) + 2 : Int) = ((j + 1 + 2 : Nat) : Int) from (by omega)]
            refine ZE.cV [(0, ((j + 1 + 2 : Nat) : Int))] [] [(2, o), (0, ((j + 1 + 2 : Nat) : Int)), (9, 0), (9, 0)] d_Ref_twosAgree_37 l_Ref_183 rfl rfl rfl rfl rfl rfl hK.1 ?_
            refine r_isSmooth (n := j + 1 + 2) hK hF hR.s hS7 (by omega) (by omega) ?_
            show ZE (d + 2) M_Ref_twosAgree (gw G A) 40 [(2, o), (0, (un : Int)), (0, (cnt (apB S 2) j : Int)), (0, (j : Int) + 1)] [(0, b2i (sm S (j + 1 + 2)))] _
            refine ZE.if_ne (tgt := 46) d_Ref_twosAgree_40 rfl (zR_b2i _) (fun c40 => ?_) (fun c40 => ?_)
            · replace c40 := b2i_n0.mp c40
              have hap : apB S 2 j = true := by unfold apB; rw [smB_iff.mpr c30, smB_iff.mpr c40]; rfl
              refine ZE.iload_n d_Ref_twosAgree_46 rfl ?_
              refine ZE.aload_n d_Ref_twosAgree_47 rfl ?_
              refine ZE.getE (v := ((tws S).length : Int)) d_Ref_twosAgree_48 f_Ref_170 (tg := 0) rfl hK.1 hR.nt ?_
              refine ZE.icmp_eq (tgt := 64) d_Ref_twosAgree_51 rfl (by unfold zR; omega) (by unfold zR; omega) (fun c51 => ?_) (fun c51 => ?_)
              · have hbad : taOk S (j + 1) = false := by
                  unfold taOk
                  rw [hag, hap, decide_eq_false (show ¬ cnt (apB S 2) j < (tws S).length by omega)]
                  rfl
                refine ZE.iconst (n := 0) d_Ref_twosAgree_64 ?_
                refine ZE.zret d_Ref_twosAgree_65 rfl (by omega) ?_
                first
                | (rw [b2i_t (show taV S (un : Int) = true from by unfold taV; rw [decide_eq_true c9, Int.toNat_natCast, ← e1, hag, Bool.true_and, Bool.true_and]; first | (rw [decide_eq_true (show cnt (apB S 2) j = (tws S).length by omega)]; rfl) | (rw [decide_eq_true (show (un : Int) < (tN S (cnt (apB S 2) j) : Int) + 2 by omega), Bool.or_true]))] at k; exact k)
                | (rw [b2i_f (show ¬ taV S (un : Int) = true from by unfold taV; rw [Int.toNat_natCast, ← e1, decide_eq_false (show ¬ cnt (apB S 2) j = (tws S).length by omega), decide_eq_false (show ¬ (un : Int) < (tN S (cnt (apB S 2) j) : Int) + 2 by omega), Bool.or_false, Bool.and_false]; decide)] at k; exact k)
                | (rw [b2i_f (show ¬ taV S (un : Int) = true from by unfold taV; rw [Int.toNat_natCast, taOk_f hbad (un - 2) (by omega), Bool.and_false, Bool.false_and]; decide)] at k; exact k)
              · have hQ := tws_ok hS7 hp5 (k := cnt (apB S 2) j) (by omega)
                have hQ1 : 1 ≤ tN S (cnt (apB S 2) j) ∧ tN S (cnt (apB S 2) j) < 1000000000 := ⟨hQ.1, hQ.2.1⟩
                refine ZE.aload_n d_Ref_twosAgree_54 rfl ?_
                refine ZE.getE (v := o + 10) d_Ref_twosAgree_55 f_Ref_37 (tg := 2) rfl hK.1 hF.a16 ?_
                refine ZE.iload_n d_Ref_twosAgree_58 rfl ?_
                refine ZE.ialdE (v := (tN S (cnt (apB S 2) j) : Int)) d_Ref_twosAgree_59 hK.k10 (by have hn0 := hK.n10; show 0 ≤ (cnt (apB S 2) j : Int) ∧ (cnt (apB S 2) j : Int) < gn G (o + 10); omega) (hR.t (cnt (apB S 2) j) (by omega)).1 ?_
                refine ZE.iload_n d_Ref_twosAgree_60 rfl ?_
                refine ZE.icmp_eq (tgt := 66) d_Ref_twosAgree_61 rfl (by unfold zR; omega) (by unfold zR; omega) (fun c61 => ?_) (fun c61 => ?_)
                · refine ZE.iinc (ls2 := [(2, o), (0, (un : Int)), (0, (cnt (apB S 2) j : Int) + 1), (0, (j : Int) + 1)]) d_Ref_twosAgree_66 rfl rfl ?_
                  refine ZE.iinc (ls2 := [(2, o), (0, (un : Int)), (0, (cnt (apB S 2) j : Int) + 1), (0, ((j : Int) + 1) + 1)]) d_Ref_twosAgree_69 rfl rfl ?_
                  refine ZE.goto (tgt := 18) d_Ref_twosAgree_72 rfl ?_
                  have e1 : cnt (apB S 2) (j + 1) = cnt (apB S 2) j + 1 := if_pos hap
                  rw [show (cnt (apB S 2) j : Int) + 1 = (cnt (apB S 2) (j + 1) : Int) by rw [e1]; omega, show (j : Int) + 1 + 1 = ((j + 1 : Nat) : Int) + 1 by omega]
                  refine ih (j + 1) (by omega) ?_ (by omega) (by omega)
                  unfold taOk; rw [hag, hap, decide_eq_true (show cnt (apB S 2) j < (tws S).length by omega), decide_eq_true (show tN S (cnt (apB S 2) j) = j + 1 by omega)]; rfl
                · have hbad : taOk S (j + 1) = false := by
                    unfold taOk
                    rw [hag, hap, decide_eq_false (show ¬ tN S (cnt (apB S 2) j) = j + 1 by omega), Bool.and_false]
                    rfl
                  refine ZE.iconst (n := 0) d_Ref_twosAgree_64 ?_
                  refine ZE.zret d_Ref_twosAgree_65 rfl (by omega) ?_
                  first
                  | (rw [b2i_t (show taV S (un : Int) = true from by unfold taV; rw [decide_eq_true c9, Int.toNat_natCast, ← e1, hag, Bool.true_and, Bool.true_and]; first | (rw [decide_eq_true (show cnt (apB S 2) j = (tws S).length by omega)]; rfl) | (rw [decide_eq_true (show (un : Int) < (tN S (cnt (apB S 2) j) : Int) + 2 by omega), Bool.or_true]))] at k; exact k)
                  | (rw [b2i_f (show ¬ taV S (un : Int) = true from by unfold taV; rw [Int.toNat_natCast, ← e1, decide_eq_false (show ¬ cnt (apB S 2) j = (tws S).length by omega), decide_eq_false (show ¬ (un : Int) < (tN S (cnt (apB S 2) j) : Int) + 2 by omega), Bool.or_false, Bool.and_false]; decide)] at k; exact k)
                  | (rw [b2i_f (show ¬ taV S (un : Int) = true from by unfold taV; rw [Int.toNat_natCast, taOk_f hbad (un - 2) (by omega), Bool.and_false, Bool.false_and]; decide)] at k; exact k)
            · replace c40 := b2i_0.mp c40
              have hap : ¬ apB S 2 j = true := fun q => c40 (smB_iff.mp (Bool.and_eq_true _ _ ▸ q).2)
              refine ZE.goto (tgt := 69) d_Ref_twosAgree_43 rfl ?_
              refine ZE.iinc (ls2 := [(2, o), (0, (un : Int)), (0, (cnt (apB S 2) j : Int)), (0, ((j : Int) + 1) + 1)]) d_Ref_twosAgree_69 rfl rfl ?_
              refine ZE.goto (tgt := 18) d_Ref_twosAgree_72 rfl ?_
              have e1 : cnt (apB S 2) (j + 1) = cnt (apB S 2) j := if_neg hap
              rw [show (cnt (apB S 2) j : Int) = (cnt (apB S 2) (j + 1) : Int) by rw [e1], show (j : Int) + 1 + 1 = ((j + 1 : Nat) : Int) + 1 by omega]
              refine ih (j + 1) (by omega) ?_ (by omega) (by omega)
              unfold taOk; rw [hag, Bool.eq_false_iff.mpr hap]; rfl
    exact L18 _ 0 (by omega) rfl (Nat.zero_le _) (Nat.lt_succ_self _)
  · replace c9 := b2i_0.mp c9
    refine ZE.iconst (n := 0) d_Ref_twosAgree_12 ?_
    refine ZE.zret d_Ref_twosAgree_13 rfl (by omega) ?_
    rw [b2i_f (show ¬ taV S u = true from fun q => by unfold taV at q; rw [Bool.and_eq_true, Bool.and_eq_true] at q; exact c9 (of_decide_eq_true q.1.1))] at k
    exact k
