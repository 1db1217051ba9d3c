def svV (S : Nat) (u : Int) : Int := if 0 ≤ u ∧ u ≤ 200000 then (cnt (apB S 1) (u.toNat - 1) : Int) else -1
def agOk (S : Nat) : Nat → Bool
  | 0 => true
  | j + 1 => agOk S j && (!apB S 1 j || (decide (cnt (apB S 1) j < (prs S).length) && decide (pN S (cnt (apB S 1) j) = j + 1)))
theorem agOk_f {S j : Nat} (h : agOk S j = false) : ∀ n, j ≤ n → agOk S n = false := by
  intro n hn
  induction n with
  | zero => have : j = 0 := by omega
            subst this; exact h
  | succ n ih =>
    by_cases q : j = n + 1
    · subst q; exact h
    · unfold agOk; rw [ih (by omega)]; rfl
def agV (S : Nat) (u : Int) : Bool := decide (0 ≤ u ∧ u ≤ 200000) && agOk S (u.toNat - 1) && (decide (cnt (apB S 1) (u.toNat - 1) = (prs S).length) || decide (u ≤ (pN S (cnt (apB S 1) (u.toNat - 1)) : Int)))
set_option maxRecDepth 20000 in
set_option maxHeartbeats 4000000 in
theorem r_sieved {d : Nat} {G : zG} {A : Int → Int → Int} {P : Option zV → zG → Prop} {o : Int} (hK : RK G o) (hF : RF A o) {S : Nat} (hR : RS S A o) (hS7 : S < 128) (hp5 : pop S ≤ 5) {u : Int} (hu : zR u) (k : P (some (0, svV S u)) (gw G A)) : ZE (d + 2) M_Ref_sieved (gw G A) 0 [(2, o), (0, u), (9, 0), (9, 0)] [] P := by
  refine ZE.iload_n d_Ref_sieved_0 rfl ?_
  refine ZE.i2l d_Ref_sieved_1 hu ?_
  refine ZE.lconst d_Ref_sieved_2 ?_
  show ZE (d + 2) M_Ref_sieved (gw G A) 3 [(2, o), (0, u), (9, 0), (9, 0)] [(1, 0), (1, u)] _
  refine ZE.ldc2 (v := 200000) d_Ref_sieved_3 k_Ref_311 ?_
  refine ZE.cS [(1, u), (1, 0), (1, 200000)] [] [(1, u), (9, 0), (1, 0), (9, 0), (1, 200000), (9, 0)] d_Ref_sieved_6 l_Ref_111 rfl rfl rfl rfl rfl rfl ?_
  refine r_isIn (by unfold zR at hu; unfold zR64; omega) (by unfold zR64; omega) (by unfold zR64; omega) ?_
  show ZE (d + 2) M_Ref_sieved (gw G A) 9 [(2, o), (0, u), (9, 0), (9, 0)] [(0, b2i (0 ≤ u ∧ u ≤ 200000))] _
  refine ZE.if_ne (tgt := 14) d_Ref_sieved_9 rfl (zR_b2i _) (fun c9 => ?_) (fun c9 => ?_)
  · replace c9 := b2i_n0.mp c9
    obtain ⟨un, hun⟩ : ∃ un : Nat, u = un := ⟨u.toNat, by omega⟩
    subst hun
    refine ZE.iconst (n := 0) d_Ref_sieved_14 ?_
    refine ZE.istore_n (ls2 := [(2, o), (0, (un : Int)), (0, 0), (9, 0)]) d_Ref_sieved_15 (Nat.le_of_ble_eq_true rfl) rfl ?_
    refine ZE.iconst (n := 1) d_Ref_sieved_16 ?_
    refine ZE.istore_n (ls2 := [(2, o), (0, (un : Int)), (0, 0), (0, 1)]) d_Ref_sieved_17 (Nat.le_of_ble_eq_true rfl) rfl ?_
    have L18 : ∀ (t : Nat) (j : Nat) (hj : j ≤ un - 1), un - j < t → ZE (d + 2) M_Ref_sieved (gw G A) 18 [(2, o), (0, (un : Int)), (0, (cnt (apB S 1) j : Int)), (0, (j : Int) + 1)] [] P := by
      intro t
      induction t with
      | zero => intro j hj hm; exact absurd hm (Nat.not_lt_zero _)
      | succ t ih =>
        intro j hj hm
        have hcn := cnt_le (apB S 1) j
        refine ZE.iload_n d_Ref_sieved_18 rfl ?_
        refine ZE.iload_n d_Ref_sieved_19 rfl ?_
        refine ZE.icmp_ge (tgt := 55) d_Ref_sieved_20 rfl (by unfold zR; omega) (by unfold zR; omega) (fun c20 => ?_) (fun c20 => ?_)
        · have e1 : j = un - 1 := by omega
          refine ZE.iload_n d_Ref_sieved_55 rfl ?_
          refine ZE.iret d_Ref_sieved_56 rfl ?_
          rw [e1]
          rw [show svV S (un : Int) = (cnt (apB S 1) (un - 1) : Int) by unfold svV; rw [if_pos (by omega), Int.toNat_natCast]] at k
          exact k
        · refine ZE.iload_n d_Ref_sieved_23 rfl ?_
          refine ZE.aload_n d_Ref_sieved_24 rfl ?_
          refine ZE.iload_n d_Ref_sieved_25 rfl ?_
          refine ZE.cV [(0, (j : Int) + 1)] [(0, (cnt (apB S 1) j : Int))] [(2, o), (0, (j : Int) + 1), (9, 0), (9, 0)] d_Ref_sieved_26 l_Ref_183 rfl rfl rfl rfl rfl rfl hK.1 ?_
          refine r_isSmooth (n := j + 1) hK hF hR.s hS7 (by omega) (by omega) ?_
          show ZE (d + 2) M_Ref_sieved (gw G A) 29 [(2, o), (0, (un : Int)), (0, (cnt (apB S 1) j : Int)), (0, (j : Int) + 1)] [(0, b2i (sm S (j + 1))), (0, (cnt (apB S 1) j : Int))] _
          refine ZE.if_eq (tgt := 46) d_Ref_sieved_29 rfl (zR_b2i _) (fun c29 => ?_) (fun c29 => ?_)
          · replace c29 := b2i_0.mp c29
            have hap : ¬ apB S 1 j = true := fun q => c29 (smB_iff.mp (Bool.and_eq_true _ _ ▸ q).1)
            refine ZE.iconst (n := 0) d_Ref_sieved_46 ?_
            refine ZE.iadd d_Ref_sieved_47 ?_
            refine ZE.istore_n (ls2 := [(2, o), (0, (un : Int)), (0, (cnt (apB S 1) j : Int) + 0), (0, (j : Int) + 1)]) d_Ref_sieved_48 (Nat.le_of_ble_eq_true rfl) rfl ?_
            refine ZE.iinc (ls2 := [(2, o), (0, (un : Int)), (0, (cnt (apB S 1) j : Int) + 0), (0, ((j : Int) + 1) + 1)]) d_Ref_sieved_49 rfl rfl ?_
            refine ZE.goto (tgt := 18) d_Ref_sieved_52 rfl ?_
            have e1 : cnt (apB S 1) (j + 1) = cnt (apB S 1) j := if_neg hap
            rw [show (cnt (apB S 1) j : Int) + 0 = (cnt (apB S 1) (j + 1) : Int) by rw [e1]; omega, show (j : Int) + 1 + 1 = ((j + 1 : Nat) : Int) + 1 by omega]
            exact ih (j + 1) (by omega) (by omega)
          · replace c29 := b2i_n0.mp c29
            refine ZE.aload_n d_Ref_sieved_32 rfl ?_
            refine ZE.iload_n d_Ref_sieved_33 rfl ?_
            refine ZE.iconst (n := 1) d_Ref_sieved_34 ?_
            refine ZE.iadd d_Ref_sieved_35 ?_
            rw [show (((j : Int) + 1) + 1 : Int) = ((j + 1 + 1 : Nat) : Int) from (by omega)]
            refine ZE.cV [(0, ((j + 1 + 1 : Nat) : Int))] [(0, (cnt (apB S 1) j : Int))] [(2, o), (0, ((j + 1 + 1 : Nat) : Int)), (9, 0), (9, 0)] d_Ref_sieved_36 l_Ref_183 rfl rfl rfl rfl rfl rfl hK.1 ?_
            refine r_isSmooth (n := j + 1 + 1) hK hF hR.s hS7 (by omega) (by omega) ?_
            show ZE (d + 2) M_Ref_sieved (gw G A) 39 [(2, o), (0, (un : Int)), (0, (cnt (apB S 1) j : Int)), (0, (j : Int) + 1)] [(0, b2i (sm S (j + 1 + 1))), (0, (cnt (apB S 1) j : Int))] _
            refine ZE.if_eq (tgt := 46) d_Ref_sieved_39 rfl (zR_b2i _) (fun c39 => ?_) (fun c39 => ?_)
            · replace c39 := b2i_0.mp c39
              have hap : ¬ apB S 1 j = true := fun q => c39 (smB_iff.mp (Bool.and_eq_true _ _ ▸ q).2)
              refine ZE.iconst (n := 0) d_Ref_sieved_46 ?_
              refine ZE.iadd d_Ref_sieved_47 ?_
              refine ZE.istore_n (ls2 := [(2, o), (0, (un : Int)), (0, (cnt (apB S 1) j : Int) + 0), (0, (j : Int) + 1)]) d_Ref_sieved_48 (Nat.le_of_ble_eq_true rfl) rfl ?_
              refine ZE.iinc (ls2 := [(2, o), (0, (un : Int)), (0, (cnt (apB S 1) j : Int) + 0), (0, ((j : Int) + 1) + 1)]) d_Ref_sieved_49 rfl rfl ?_
              refine ZE.goto (tgt := 18) d_Ref_sieved_52 rfl ?_
              have e1 : cnt (apB S 1) (j + 1) = cnt (apB S 1) j := if_neg hap
              rw [show (cnt (apB S 1) j : Int) + 0 = (cnt (apB S 1) (j + 1) : Int) by rw [e1]; omega, show (j : Int) + 1 + 1 = ((j + 1 : Nat) : Int) + 1 by omega]
              exact ih (j + 1) (by omega) (by omega)
            · replace c39 := b2i_n0.mp c39
              have hap : apB S 1 j = true := by unfold apB; rw [smB_iff.mpr c29, smB_iff.mpr c39]; rfl
              refine ZE.iconst (n := 1) d_Ref_sieved_42 ?_
              refine ZE.goto (tgt := 47) d_Ref_sieved_43 rfl ?_
              refine ZE.iadd d_Ref_sieved_47 ?_
              refine ZE.istore_n (ls2 := [(2, o), (0, (un : Int)), (0, (cnt (apB S 1) j : Int) + 1), (0, (j : Int) + 1)]) d_Ref_sieved_48 (Nat.le_of_ble_eq_true rfl) rfl ?_
              refine ZE.iinc (ls2 := [(2, o), (0, (un : Int)), (0, (cnt (apB S 1) j : Int) + 1), (0, ((j : Int) + 1) + 1)]) d_Ref_sieved_49 rfl rfl ?_
              refine ZE.goto (tgt := 18) d_Ref_sieved_52 rfl ?_
              have e1 : cnt (apB S 1) (j + 1) = cnt (apB S 1) j + 1 := if_pos hap
              rw [show (cnt (apB S 1) j : Int) + 1 = (cnt (apB S 1) (j + 1) : Int) by rw [e1]; omega, show (j : Int) + 1 + 1 = ((j + 1 : Nat) : Int) + 1 by omega]
              exact ih (j + 1) (by omega) (by omega)
    exact L18 _ 0 (by omega) (Nat.lt_succ_self _)
  · replace c9 := b2i_0.mp c9
    refine ZE.iconst (n := (-1)) d_Ref_sieved_12 ?_
    refine ZE.iret d_Ref_sieved_13 rfl ?_
    rw [show svV S u = -1 from if_neg (by omega)] at k
    exact k
set_option maxRecDepth 20000 in
set_option maxHeartbeats 4000000 in
theorem r_agrees {d : Nat} {G : zG} {A : Int → Int → Int} {P : Option zV → zG → Prop} {o : Int} (hK : RK G o) (hF : RF A o) {S : Nat} (hR : RS S A o) (hS7 : S < 128) (hp5 : pop S ≤ 5) {u : Int} (hu : zR u) (k : P (some (0, b2i (agV S u = true))) (gw G A)) : ZE (d + 2) M_Ref_agrees (gw G A) 0 [(2, o), (0, u), (9, 0), (9, 0)] [] P := by
  have hpl := prs_288 hS7 hp5
  refine ZE.iload_n d_Ref_agrees_0 rfl ?_
  refine ZE.i2l d_Ref_agrees_1 hu ?_
  refine ZE.lconst d_Ref_agrees_2 ?_
  show ZE (d + 2) M_Ref_agrees (gw G A) 3 [(2, o), (0, u), (9, 0), (9, 0)] [(1, 0), (1, u)] _
  refine ZE.ldc2 (v := 200000) d_Ref_agrees_3 k_Ref_311 ?_
  refine ZE.cS [(1, u), (1, 0), (1, 200000)] [] [(1, u), (9, 0), (1, 0), (9, 0), (1, 200000), (9, 0)] d_Ref_agrees_6 l_Ref_111 rfl rfl rfl rfl rfl rfl ?_
  refine r_isIn (by unfold zR at hu; unfold zR64; omega) (by unfold zR64; omega) (by unfold zR64; omega) ?_
  show ZE (d + 2) M_Ref_agrees (gw G A) 9 [(2, o), (0, u), (9, 0), (9, 0)] [(0, b2i (0 ≤ u ∧ u ≤ 200000))] _
  refine ZE.if_ne (tgt := 14) d_Ref_agrees_9 rfl (zR_b2i _) (fun c9 => ?_) (fun c9 => ?_)
  · replace c9 := b2i_n0.mp c9
    obtain ⟨un, hun⟩ : ∃ un : Nat, u = un := ⟨u.toNat, by omega⟩
    subst hun
    refine ZE.iconst (n := 0) d_Ref_agrees_14 ?_
    refine ZE.istore_n (ls2 := [(2, o), (0, (un : Int)), (0, 0), (9, 0)]) d_Ref_agrees_15 (Nat.le_of_ble_eq_true rfl) rfl ?_
    refine ZE.iconst (n := 1) d_Ref_agrees_16 ?_
    refine ZE.istore_n (ls2 := [(2, o), (0, (un : Int)), (0, 0), (0, 1)]) d_Ref_agrees_17 (Nat.le_of_ble_eq_true rfl) rfl ?_
    have L18 : ∀ (t : Nat) (j : Nat) (hj : j ≤ un - 1) (hag : agOk S j = true) (hle : cnt (apB S 1) j ≤ (prs S).length), un - j < t → ZE (d + 2) M_Ref_agrees (gw G A) 18 [(2, o), (0, (un : Int)), (0, (cnt (apB S 1) j : Int)), (0, (j : Int) + 1)] [] P := by
      intro t
      induction t with
      | zero => intro j hj hag hle hm; exact absurd hm (Nat.not_lt_zero _)
      | succ t ih =>
        intro j hj hag hle hm
        have hcn := cnt_le (apB S 1) j
        refine ZE.iload_n d_Ref_agrees_18 rfl ?_
        refine ZE.iload_n d_Ref_agrees_19 rfl ?_
        refine ZE.icmp_ge (tgt := 73) d_Ref_agrees_20 rfl (by unfold zR; omega) (by unfold zR; omega) (fun c20 => ?_) (fun c20 => ?_)
        · have e1 : j = un - 1 := by omega
          refine ZE.iload_n d_Ref_agrees_73 rfl ?_
          refine ZE.aload_n d_Ref_agrees_74 rfl ?_
          refine ZE.getE (v := ((prs S).length : Int)) d_Ref_agrees_75 f_Ref_167 (tg := 0) rfl hK.1 hR.np ?_
          refine ZE.icmp_eq (tgt := 91) d_Ref_agrees_78 rfl (by unfold zR; omega) (by unfold zR; omega) (fun c78 => ?_) (fun c78 => ?_)
          · refine ZE.iconst (n := 1) d_Ref_agrees_91 ?_
            refine ZE.goto (tgt := 96) d_Ref_agrees_92 rfl ?_
            refine ZE.zret d_Ref_agrees_96 rfl (by omega) ?_
            first
            | (rw [b2i_t (show agV S (un : Int) = true from by unfold agV; rw [decide_eq_true c9, Int.toNat_natCast, ← e1, hag, Bool.true_and, Bool.true_and]; first | (rw [decide_eq_true (show cnt (apB S 1) j = (prs S).length by omega)]; rfl) | (rw [decide_eq_true (show (un : Int) ≤ (pN S (cnt (apB S 1) j) : Int) by omega), Bool.or_true]))] at k; exact k)
            | (rw [b2i_f (show ¬ agV S (un : Int) = true from by unfold agV; rw [Int.toNat_natCast, ← e1, decide_eq_false (show ¬ cnt (apB S 1) j = (prs S).length by omega), decide_eq_false (show ¬ (un : Int) ≤ (pN S (cnt (apB S 1) j) : Int) by omega), Bool.or_false, Bool.and_false]; decide)] at k; exact k)
            | (rw [b2i_f (show ¬ agV S (un : Int) = true from by unfold agV; rw [Int.toNat_natCast, agOk_f hbad (un - 1) (by omega), Bool.and_false, Bool.false_and]; decide)] at k; exact k)
          · have hQ := prs_ok hS7 hp5 (k := cnt (apB S 1) j) (by omega)
            have hQ1 : 1 ≤ pN S (cnt (apB S 1) j) ∧ pN S (cnt (apB S 1) j) < 1000000000 := ⟨hQ.1, hQ.2.1⟩
            refine ZE.aload_n d_Ref_agrees_81 rfl ?_
            refine ZE.getE (v := o + 7) d_Ref_agrees_82 f_Ref_28 (tg := 2) rfl hK.1 hF.a12 ?_
            refine ZE.iload_n d_Ref_agrees_85 rfl ?_
            refine ZE.ialdE (v := (pN S (cnt (apB S 1) j) : Int)) d_Ref_agrees_86 hK.k7 (by have hn0 := hK.n7; show 0 ≤ (cnt (apB S 1) j : Int) ∧ (cnt (apB S 1) j : Int) < gn G (o + 7); omega) (hR.p (cnt (apB S 1) j) (by omega)).1 ?_
            refine ZE.iload_n d_Ref_agrees_87 rfl ?_
            refine ZE.icmp_lt (tgt := 95) d_Ref_agrees_88 rfl (by unfold zR; omega) (by unfold zR; omega) (fun c88 => ?_) (fun c88 => ?_)
            · refine ZE.iconst (n := 0) d_Ref_agrees_95 ?_
              refine ZE.zret d_Ref_agrees_96 rfl (by omega) ?_
              first
              | (rw [b2i_t (show agV S (un : Int) = true from by unfold agV; rw [decide_eq_true c9, Int.toNat_natCast, ← e1, hag, Bool.true_and, Bool.true_and]; first | (rw [decide_eq_true (show cnt (apB S 1) j = (prs S).length by omega)]; rfl) | (rw [decide_eq_true (show (un : Int) ≤ (pN S (cnt (apB S 1) j) : Int) by omega), Bool.or_true]))] at k; exact k)
              | (rw [b2i_f (show ¬ agV S (un : Int) = true from by unfold agV; rw [Int.toNat_natCast, ← e1, decide_eq_false (show ¬ cnt (apB S 1) j = (prs S).length by omega), decide_eq_false (show ¬ (un : Int) ≤ (pN S (cnt (apB S 1) j) : Int) by omega), Bool.or_false, Bool.and_false]; decide)] at k; exact k)
              | (rw [b2i_f (show ¬ agV S (un : Int) = true from by unfold agV; rw [Int.toNat_natCast, agOk_f hbad (un - 1) (by omega), Bool.and_false, Bool.false_and]; decide)] at k; exact k)
            · refine ZE.iconst (n := 1) d_Ref_agrees_91 ?_
              refine ZE.goto (tgt := 96) d_Ref_agrees_92 rfl ?_
              refine ZE.zret d_Ref_agrees_96 rfl (by omega) ?_
              first
              | (rw [b2i_t (show agV S (un : Int) = true from by unfold agV; rw [decide_eq_true c9, Int.toNat_natCast, ← e1, hag, Bool.true_and, Bool.true_and]; first | (rw [decide_eq_true (show cnt (apB S 1) j = (prs S).length by omega)]; rfl) | (rw [decide_eq_true (show (un : Int) ≤ (pN S (cnt (apB S 1) j) : Int) by omega), Bool.or_true]))] at k; exact k)
              | (rw [b2i_f (show ¬ agV S (un : Int) = true from by unfold agV; rw [Int.toNat_natCast, ← e1, decide_eq_false (show ¬ cnt (apB S 1) j = (prs S).length by omega), decide_eq_false (show ¬ (un : Int) ≤ (pN S (cnt (apB S 1) j) : Int) by omega), Bool.or_false, Bool.and_false]; decide)] at k; exact k)
              | (rw [b2i_f (show ¬ agV S (un : Int) = true from by unfold agV; rw [Int.toNat_natCast, agOk_f hbad (un - 1) (by omega), Bool.and_false, Bool.false_and]; decide)] at k; exact k)
        · refine ZE.aload_n d_Ref_agrees_23 rfl ?_
          refine ZE.iload_n d_Ref_agrees_24 rfl ?_
          refine ZE.cV [(0, (j : Int) + 1)] [] [(2, o), (0, (j : Int) + 1), (9, 0), (9, 0)] d_Ref_agrees_25 l_Ref_183 rfl rfl rfl rfl rfl rfl hK.1 ?_
          refine r_isSmooth (n := j + 1) hK hF hR.s hS7 (by omega) (by omega) ?_
          show ZE (d + 2) M_Ref_agrees (gw G A) 28 [(2, o), (0, (un : Int)), (0, (cnt (apB S 1) j : Int)), (0, (j : Int) + 1)] [(0, b2i (sm S (j + 1)))] _
          refine ZE.if_eq (tgt := 67) d_Ref_agrees_28 rfl (zR_b2i _) (fun c28 => ?_) (fun c28 => ?_)
          · replace c28 := b2i_0.mp c28
            have hap : ¬ apB S 1 j = true := fun q => c28 (smB_iff.mp (Bool.and_eq_true _ _ ▸ q).1)
            refine ZE.iinc (ls2 := [(2, o), (0, (un : Int)), (0, (cnt (apB S 1) j : Int)), (0, ((j : Int) + 1) + 1)]) d_Ref_agrees_67 rfl rfl ?_
            refine ZE.goto (tgt := 18) d_Ref_agrees_70 rfl ?_
            have e1 : cnt (apB S 1) (j + 1) = cnt (apB S 1) j := if_neg hap
            rw [show (cnt (apB S 1) j : Int) = (cnt (apB S 1) (j + 1) : Int) by rw [e1], show (j : Int) + 1 + 1 = ((j + 1 : Nat) : Int) + 1 by omega]
            refine ih (j + 1) (by omega) ?_ (by omega) (by omega)
            unfold agOk; rw [hag, Bool.eq_false_iff.mpr hap]; rfl
          · replace c28 := b2i_n0.mp c28
            refine ZE.aload_n d_Ref_agrees_31 rfl ?_
            refine ZE.iload_n d_Ref_agrees_32 rfl ?_
            refine ZE.iconst (n := 1) d_Ref_agrees_33 ?_
            refine ZE.iadd d_Ref_agrees_34 ?_
            rw [show (((j : Int) + 1) + 1 : Int) = ((j + 1 + 1 : Nat) : Int) from (by omega)]
            refine ZE.cV [(0, ((j + 1 + 1 : Nat) : Int))] [] [(2, o), (0, ((j + 1 + 1 : Nat) : Int)), (9, 0), (9, 0)] d_Ref_agrees_35 l_Ref_183 rfl rfl rfl rfl rfl rfl hK.1 ?_
            refine r_isSmooth (n := j + 1 + 1) hK hF hR.s hS7 (by omega) (by omega) ?_
            show ZE (d + 2) M_Ref_agrees (gw G A) 38 [(2, o), (0, (un : Int)), (0, (cnt (apB S 1) j : Int)), (0, (j : Int) + 1)] [(0, b2i (sm S (j + 1 + 1)))] _
            refine ZE.if_ne (tgt := 44) d_Ref_agrees_38 rfl (zR_b2i _) (fun c38 => ?_) (fun c38 => ?_)
            · replace c38 := b2i_n0.mp c38
              have hap : apB S 1 j = true := by unfold apB; rw [smB_iff.mpr c28, smB_iff.mpr c38]; rfl
              refine ZE.iload_n d_Ref_agrees_44 rfl ?_
              refine ZE.aload_n d_Ref_agrees_45 rfl ?_
              refine ZE.getE (v := ((prs S).length : Int)) d_Ref_agrees_46 f_Ref_167 (tg := 0) rfl hK.1 hR.np ?_
              refine ZE.icmp_eq (tgt := 62) d_Ref_agrees_49 rfl (by unfold zR; omega) (by unfold zR; omega) (fun c49 => ?_) (fun c49 => ?_)
              · have hbad : agOk S (j + 1) = false := by
                  unfold agOk
                  rw [hag, hap, decide_eq_false (show ¬ cnt (apB S 1) j < (prs S).length by omega)]
                  rfl
                refine ZE.iconst (n := 0) d_Ref_agrees_62 ?_
                refine ZE.zret d_Ref_agrees_63 rfl (by omega) ?_
                first
                | (rw [b2i_t (show agV S (un : Int) = true from by unfold agV; rw [decide_eq_true c9, Int.toNat_natCast, ← e1, hag, Bool.true_and, Bool.true_and]; first | (rw [decide_eq_true (show cnt (apB S 1) j = (prs S).length by omega)]; rfl) | (rw [decide_eq_true (show (un : Int) ≤ (pN S (cnt (apB S 1) j) : Int) by omega), Bool.or_true]))] at k; exact k)
                | (rw [b2i_f (show ¬ agV S (un : Int) = true from by unfold agV; rw [Int.toNat_natCast, ← e1, decide_eq_false (show ¬ cnt (apB S 1) j = (prs S).length by omega), decide_eq_false (show ¬ (un : Int) ≤ (pN S (cnt (apB S 1) j) : Int) by omega), Bool.or_false, Bool.and_false]; decide)] at k; exact k)
                | (rw [b2i_f (show ¬ agV S (un : Int) = true from by unfold agV; rw [Int.toNat_natCast, agOk_f hbad (un - 1) (by omega), Bool.and_false, Bool.false_and]; decide)] at k; exact k)
              · have hQ := prs_ok hS7 hp5 (k := cnt (apB S 1) j) (by omega)
                have hQ1 : 1 ≤ pN S (cnt (apB S 1) j) ∧ pN S (cnt (apB S 1) j) < 1000000000 := ⟨hQ.1, hQ.2.1⟩
                refine ZE.aload_n d_Ref_agrees_52 rfl ?_
                refine ZE.getE (v := o + 7) d_Ref_agrees_53 f_Ref_28 (tg := 2) rfl hK.1 hF.a12 ?_
                refine ZE.iload_n d_Ref_agrees_56 rfl ?_
                refine ZE.ialdE (v := (pN S (cnt (apB S 1) j) : Int)) d_Ref_agrees_57 hK.k7 (by have hn0 := hK.n7; show 0 ≤ (cnt (apB S 1) j : Int) ∧ (cnt (apB S 1) j : Int) < gn G (o + 7); omega) (hR.p (cnt (apB S 1) j) (by omega)).1 ?_
                refine ZE.iload_n d_Ref_agrees_58 rfl ?_
                refine ZE.icmp_eq (tgt := 64) d_Ref_agrees_59 rfl (by unfold zR; omega) (by unfold zR; omega) (fun c59 => ?_) (fun c59 => ?_)
                · refine ZE.iinc (ls2 := [(2, o), (0, (un : Int)), (0, (cnt (apB S 1) j : Int) + 1), (0, (j : Int) + 1)]) d_Ref_agrees_64 rfl rfl ?_
                  refine ZE.iinc (ls2 := [(2, o), (0, (un : Int)), (0, (cnt (apB S 1) j : Int) + 1), (0, ((j : Int) + 1) + 1)]) d_Ref_agrees_67 rfl rfl ?_
                  refine ZE.goto (tgt := 18) d_Ref_agrees_70 rfl ?_
                  have e1 : cnt (apB S 1) (j + 1) = cnt (apB S 1) j + 1 := if_pos hap
                  rw [show (cnt (apB S 1) j : Int) + 1 = (cnt (apB S 1) (j + 1) : Int) by rw [e1]; omega, show (j : Int) + 1 + 1 = ((j + 1 : Nat) : Int) + 1 by omega]
                  refine ih (j + 1) (by omega) ?_ (by omega) (by omega)
                  unfold agOk; rw [hag, hap, decide_eq_true (show cnt (apB S 1) j < (prs S).length by omega), decide_eq_true (show pN S (cnt (apB S 1) j) = j + 1 by omega)]; rfl
                · have hbad : agOk S (j + 1) = false := by
                    unfold agOk
                    rw [hag, hap, decide_eq_false (show ¬ pN S (cnt (apB S 1) j) = j + 1 by omega), Bool.and_false]
                    rfl
                  refine ZE.iconst (n := 0) d_Ref_agrees_62 ?_
                  refine ZE.zret d_Ref_agrees_63 rfl (by omega) ?_
                  first
                  | (rw [b2i_t (show agV S (un : Int) = true from by unfold agV; rw [decide_eq_true c9, Int.toNat_natCast, ← e1, hag, Bool.true_and, Bool.true_and]; first | (rw [decide_eq_true (show cnt (apB S 1) j = (prs S).length by omega)]; rfl) | (rw [decide_eq_true (show (un : Int) ≤ (pN S (cnt (apB S 1) j) : Int) by omega), Bool.or_true]))] at k; exact k)
                  | (rw [b2i_f (show ¬ agV S (un : Int) = true from by unfold agV; rw [Int.toNat_natCast, ← e1, decide_eq_false (show ¬ cnt (apB S 1) j = (prs S).length by omega), decide_eq_false (show ¬ (un : Int) ≤ (pN S (cnt (apB S 1) j) : Int) by omega), Bool.or_false, Bool.and_false]; decide)] at k; exact k)
                  | (rw [b2i_f (show ¬ agV S (un : Int) = true from by unfold agV; rw [Int.toNat_natCast, agOk_f hbad (un - 1) (by omega), Bool.and_false, Bool.false_and]; decide)] at k; exact k)
            · replace c38 := b2i_0.mp c38
              have hap : ¬ apB S 1 j = true := fun q => c38 (smB_iff.mp (Bool.and_eq_true _ _ ▸ q).2)
              refine ZE.goto (tgt := 67) d_Ref_agrees_41 rfl ?_
              refine ZE.iinc (ls2 := [(2, o), (0, (un : Int)), (0, (cnt (apB S 1) j : Int)), (0, ((j : Int) + 1) + 1)]) d_Ref_agrees_67 rfl rfl ?_
              refine ZE.goto (tgt := 18) d_Ref_agrees_70 rfl ?_
              have e1 : cnt (apB S 1) (j + 1) = cnt (apB S 1) j := if_neg hap
              rw [show (cnt (apB S 1) j : Int) = (cnt (apB S 1) (j + 1) : Int) by rw [e1], show (j : Int) + 1 + 1 = ((j + 1 : Nat) : Int) + 1 by omega]
              refine ih (j + 1) (by omega) ?_ (by omega) (by omega)
              unfold agOk; rw [hag, Bool.eq_false_iff.mpr hap]; rfl
    exact L18 _ 0 (by omega) rfl (Nat.zero_le _) (Nat.lt_succ_self _)
  · replace c9 := b2i_0.mp c9
    refine ZE.iconst (n := 0) d_Ref_agrees_12 ?_
    refine ZE.zret d_Ref_agrees_13 rfl (by omega) ?_
    rw [b2i_f (show ¬ agV S u = true from fun q => by unfold agV at q; rw [Bool.and_eq_true, Bool.and_eq_true] at q; exact c9 (of_decide_eq_true q.1.1))] at k
    exact k
