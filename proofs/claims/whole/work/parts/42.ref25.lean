def prB (n : Nat) : Bool := decide (1 < n) && tdF 40 2 n
theorem prB_iff {n : Nat} : prB n = true ↔ prm n := by
  unfold prB prm
  rw [Bool.and_eq_true, decide_eq_true_iff]
def wiB (S cn i p : Nat) : Bool := prB p && !hasB S (p : Int) && (decide (xp (ux (d1 S cn)) i % (2 * p) = 1) || decide (xp (ux (d1 S cn)) i % (2 * p) = 2 * p - 1))
def woN (S cn i : Nat) : Int := if (ix (gP1 S (ux (d1 S cn))) (bnd S)).testBit (i - 1) = true then 0 else if fsA (wiB S cn i) 2 998 = -1 then -2 else fsA (wiB S cn i) 2 998
def wiV (S : Nat) (c i : Int) : Int := if inC S c then (if 1 ≤ i ∧ i ≤ bnd S then woN S c.toNat i.toNat else -1) else -1
set_option maxRecDepth 20000 in
set_option maxHeartbeats 4000000 in
theorem r_witnessOf {d : Nat} {G : zG} {A : Int → Int → Int} {P : Option zV → zG → Prop} {o : Int} (hK : RK G o) (hF : RF A o) {S : Nat} (hR : RS S A o) (hS7 : S < 128) (hp5 : pop S ≤ 5) {cn : Nat} (hcn : cn < (csF S 1 128).length) {im : Nat} (him : 1 ≤ im ∧ im ≤ bnd S) (k : P (some (0, woN S cn im)) (gw G A)) : ZE (d + 4) M_Ref_witnessOf (gw G A) 0 [(2, o), (0, (cn : Int)), (0, (im : Int)), (9, 0), (9, 0)] [] P := by
  have hbb := bnd_le S hS7
  have hcl0 := cls_le hS7 hp5
  have hok := d1_ok (S := S) (k := cn) hcn
  have hcl := hR.c1 cn hcn
  have hux9 : nd 10000 (ux (d1 S cn)) ≤ 81 := (okD_ns hok.1).2.1
  have hnx : num (A (o + 2)) (2 * (cn : Int)) (ux (d1 S cn)) := hcl.2.2.1
  have hil := ix_lt (g := gP1 S (ux (d1 S cn))) (bnd S)
  have hp9 : 2 ^ bnd S ≤ 2 ^ 9 := Nat.pow_le_pow_right (by omega) (by omega)
  refine ZE.aload_n d_Ref_witnessOf_0 rfl ?_
  refine ZE.getE (v := o + 6) d_Ref_witnessOf_1 f_Ref_25 (tg := 2) rfl hK.1 hF.a6 ?_
  refine ZE.iload_n d_Ref_witnessOf_4 rfl ?_
  refine ZE.ialdE (v := (ix (gP1 S (ux (d1 S cn))) (bnd S) : Int)) d_Ref_witnessOf_5 hK.k6 (by have hn0 := hK.n6; show 0 ≤ (cn : Int) ∧ (cn : Int) < gn G (o + 6); omega) (hR.i1 cn hcn) ?_
  refine ZE.iload_n d_Ref_witnessOf_6 rfl ?_
  refine ZE.iconst (n := 1) d_Ref_witnessOf_7 ?_
  refine ZE.isub d_Ref_witnessOf_8 ?_
  rw [show ((im : Int) - 1 : Int) = ((im - 1 : Nat) : Int) from (by omega)]
  refine ZE.cS [(0, (ix (gP1 S (ux (d1 S cn))) (bnd S) : Int)), (0, ((im - 1 : Nat) : Int))] [] [(0, (ix (gP1 S (ux (d1 S cn))) (bnd S) : Int)), (0, ((im - 1 : Nat) : Int))] d_Ref_witnessOf_9 l_Ref_85 rfl rfl rfl rfl rfl rfl ?_
  refine r_has (S := ix (gP1 S (ux (d1 S cn))) (bnd S)) (k0 := im - 1) (by omega) (by omega) ?_
  show ZE (d + 4) M_Ref_witnessOf (gw G A) 12 [(2, o), (0, (cn : Int)), (0, (im : Int)), (9, 0), (9, 0)] [(0, b2i ((ix (gP1 S (ux (d1 S cn))) (bnd S)).testBit (im - 1) = true))] _
  refine ZE.if_eq (tgt := 17) d_Ref_witnessOf_12 rfl (zR_b2i _) (fun c12 => ?_) (fun c12 => ?_)
  · replace c12 := b2i_0.mp c12
    refine ZE.iconst (n := 2) d_Ref_witnessOf_17 ?_
    refine ZE.istore_n (ls2 := [(2, o), (0, (cn : Int)), (0, (im : Int)), (0, 2), (9, 0)]) d_Ref_witnessOf_18 (Nat.le_of_ble_eq_true rfl) rfl ?_
    have L19 : ∀ (t : Nat) (j : Nat) (hj : 2 ≤ j ∧ j ≤ 1000) (hfa : fsA (wiB S cn im) 2 998 = fsA (wiB S cn im) j (1000 - j)), 1000 - j < t → ZE (d + 4) M_Ref_witnessOf (gw G A) 19 [(2, o), (0, (cn : Int)), (0, (im : Int)), (0, (j : Int)), (9, 0)] [] P := by
      intro t
      induction t with
      | zero => intro j hj hfa hm; exact absurd hm (Nat.not_lt_zero _)
      | succ t ih =>
        intro j hj hfa hm
        refine ZE.iload_n d_Ref_witnessOf_19 rfl ?_
        refine ZE.sipush (n := 1000) d_Ref_witnessOf_20 rfl ?_
        refine ZE.icmp_ge (tgt := 79) d_Ref_witnessOf_23 rfl (by unfold zR; omega) (by unfold zR; omega) (fun c23 => ?_) (fun c23 => ?_)
        · refine ZE.bipush (n := (-2)) d_Ref_witnessOf_79 rfl ?_
          refine ZE.iret d_Ref_witnessOf_81 rfl ?_
          have hfj : fsA (wiB S cn im) 2 998 = -1 := by rw [hfa, show 1000 - j = 0 by omega]; rfl
          rw [show woN S cn im = -2 by unfold woN; rw [if_neg c12, hfj, if_pos rfl]] at k
          exact k
        · refine ZE.iload_n d_Ref_witnessOf_26 rfl ?_
          refine ZE.cS [(0, (j : Int))] [] [(0, (j : Int)), (9, 0)] d_Ref_witnessOf_27 l_Ref_322 rfl rfl rfl rfl rfl rfl ?_
          refine r_isPrime (n := j) (by omega) ?_
          show ZE (d + 4) M_Ref_witnessOf (gw G A) 30 [(2, o), (0, (cn : Int)), (0, (im : Int)), (0, (j : Int)), (9, 0)] [(0, b2i (prm j))] _
          refine ZE.if_eq (tgt := 73) d_Ref_witnessOf_30 rfl (zR_b2i _) (fun c30 => ?_) (fun c30 => ?_)
          · replace c30 := b2i_0.mp c30
            have hwi : ¬ wiB S cn im j = true := by
              intro q
              unfold wiB at q
              rw [Bool.and_eq_true, Bool.and_eq_true] at q
              exact c30 (prB_iff.mp q.1.1)
            refine ZE.iinc (ls2 := [(2, o), (0, (cn : Int)), (0, (im : Int)), (0, (j : Int) + 1), (9, 0)]) d_Ref_witnessOf_73 rfl rfl ?_
            refine ZE.goto (tgt := 19) d_Ref_witnessOf_76 rfl ?_
            rw [show (j : Int) + 1 = ((j + 1 : Nat) : Int) by omega]
            refine ih (j + 1) (by omega) ?_ (by omega)
            rw [hfa, fsA_go hwi (by omega), show 1000 - j - 1 = 1000 - (j + 1) by omega]
          · replace c30 := b2i_n0.mp c30
            refine ZE.aload_n d_Ref_witnessOf_33 rfl ?_
            refine ZE.iload_n d_Ref_witnessOf_34 rfl ?_
            refine ZE.cV [(0, (j : Int))] [] [(2, o), (0, (j : Int)), (9, 0)] d_Ref_witnessOf_35 l_Ref_209 rfl rfl rfl rfl rfl rfl hK.1 ?_
            refine r_isPrimeHere (p := (j : Int)) hK hF hR.s hS7 (by unfold zR; omega) ?_
            show ZE (d + 4) M_Ref_witnessOf (gw G A) 38 [(2, o), (0, (cn : Int)), (0, (im : Int)), (0, (j : Int)), (9, 0)] [(0, b2i (∃ k : Nat, k < 7 ∧ (j : Int) = sev k ∧ S.testBit k = true))] _
            refine ZE.if_eq (tgt := 44) d_Ref_witnessOf_38 rfl (zR_b2i _) (fun c38 => ?_) (fun c38 => ?_)
            · replace c38 := b2i_0.mp c38
              refine ZE.aload_n d_Ref_witnessOf_44 rfl ?_
              refine ZE.iload_n d_Ref_witnessOf_45 rfl ?_
              refine ZE.iload_n d_Ref_witnessOf_46 rfl ?_
              refine ZE.iconst (n := 2) d_Ref_witnessOf_47 ?_
              refine ZE.iload_n d_Ref_witnessOf_48 rfl ?_
              refine ZE.imul d_Ref_witnessOf_49 ?_
              rw [show (2 * (j : Int) : Int) = ((2 * j : Nat) : Int) from (by omega)]
              have hxm : xp (ux (d1 S cn)) im % (2 * j) < 2 * j := Nat.mod_lt _ (by omega)
              refine ZE.cV [(0, (cn : Int)), (0, (im : Int)), (0, ((2 * j : Nat) : Int))] [] [(2, o), (0, (cn : Int)), (0, (im : Int)), (0, ((2 * j : Nat) : Int)), (9, 0), (9, 0), (9, 0), (9, 0), (9, 0)] d_Ref_witnessOf_50 l_Ref_259 rfl rfl rfl rfl rfl rfl hK.1 ?_
              refine r_powerMod (u := ux (d1 S cn)) (i := im) (m := 2 * j) hK hF (by omega) (by omega) hnx (by omega) (by omega) (by omega) ?_
              show ZE (d + 4) M_Ref_witnessOf (gw G A) 53 [(2, o), (0, (cn : Int)), (0, (im : Int)), (0, (j : Int)), (9, 0)] [(0, ((xp (ux (d1 S cn)) im % (2 * j) : Nat) : Int))] _
              refine ZE.istore (ls2 := [(2, o), (0, (cn : Int)), (0, (im : Int)), (0, (j : Int)), (0, ((xp (ux (d1 S cn)) im % (2 * j) : Nat) : Int))]) d_Ref_witnessOf_53 (Nat.le_of_ble_eq_true rfl) rfl ?_
              refine ZE.iload d_Ref_witnessOf_55 rfl ?_
              refine ZE.iconst (n := 1) d_Ref_witnessOf_57 ?_
              refine ZE.icmp_eq (tgt := 71) d_Ref_witnessOf_58 rfl (by unfold zR; omega) (by unfold zR; omega) (fun c58 => ?_) (fun c58 => ?_)
              · refine ZE.iload_n d_Ref_witnessOf_71 rfl ?_
                refine ZE.iret d_Ref_witnessOf_72 rfl ?_
                have hwi : wiB S cn im j = true := by
                  unfold wiB
                  rw [prB_iff.mpr c30, Bool.eq_false_iff.mpr (fun q => c38 (hasB_iff.mp q))]
                  first
                  | (rw [decide_eq_true (show xp (ux (d1 S cn)) im % (2 * j) = 1 by omega)]; rfl)
                  | (rw [decide_eq_true (show xp (ux (d1 S cn)) im % (2 * j) = 2 * j - 1 by omega), Bool.or_true]; rfl)
                have hfj : fsA (wiB S cn im) 2 998 = (j : Int) := hfa.trans (fsA_stop hwi (by omega))
                rw [show woN S cn im = (j : Int) by unfold woN; rw [if_neg c12, hfj, if_neg (by omega)]] at k
                exact k
              · refine ZE.iload d_Ref_witnessOf_61 rfl ?_
                refine ZE.iconst (n := 2) d_Ref_witnessOf_63 ?_
                refine ZE.iload_n d_Ref_witnessOf_64 rfl ?_
                refine ZE.imul d_Ref_witnessOf_65 ?_
                rw [show (2 * (j : Int) : Int) = ((2 * j : Nat) : Int) from (by omega)]
                refine ZE.iconst (n := 1) d_Ref_witnessOf_66 ?_
                refine ZE.isub d_Ref_witnessOf_67 ?_
                refine ZE.icmp_ne (tgt := 73) d_Ref_witnessOf_68 rfl (by unfold zR; omega) (by unfold zR; omega) (fun c68 => ?_) (fun c68 => ?_)
                · have hwi : ¬ wiB S cn im j = true := by
                    intro q
                    unfold wiB at q
                    rw [Bool.and_eq_true, Bool.and_eq_true] at q
                    rw [Bool.or_eq_true, decide_eq_true_iff, decide_eq_true_iff] at q
                    omega
                  refine ZE.iinc (ls2 := [(2, o), (0, (cn : Int)), (0, (im : Int)), (0, (j : Int) + 1), (0, ((xp (ux (d1 S cn)) im % (2 * j) : Nat) : Int))]) d_Ref_witnessOf_73 rfl rfl ?_
                  refine ZE.goto (tgt := 19) d_Ref_witnessOf_76 rfl ?_
                  refine ZE.mask [true, true, true, true, false] ?_
                  show ZE (d + 4) M_Ref_witnessOf (gw G A) 19 [(2, o), (0, (cn : Int)), (0, (im : Int)), (0, (j : Int) + 1), (9, 0)] [] _
                  rw [show (j : Int) + 1 = ((j + 1 : Nat) : Int) by omega]
                  refine ih (j + 1) (by omega) ?_ (by omega)
                  rw [hfa, fsA_go hwi (by omega), show 1000 - j - 1 = 1000 - (j + 1) by omega]
                · refine ZE.iload_n d_Ref_witnessOf_71 rfl ?_
                  refine ZE.iret d_Ref_witnessOf_72 rfl ?_
                  have hwi : wiB S cn im j = true := by
                    unfold wiB
                    rw [prB_iff.mpr c30, Bool.eq_false_iff.mpr (fun q => c38 (hasB_iff.mp q))]
                    first
                    | (rw [decide_eq_true (show xp (ux (d1 S cn)) im % (2 * j) = 1 by omega)]; rfl)
                    | (rw [decide_eq_true (show xp (ux (d1 S cn)) im % (2 * j) = 2 * j - 1 by omega), Bool.or_true]; rfl)
                  have hfj : fsA (wiB S cn im) 2 998 = (j : Int) := hfa.trans (fsA_stop hwi (by omega))
                  rw [show woN S cn im = (j : Int) by unfold woN; rw [if_neg c12, hfj, if_neg (by omega)]] at k
                  exact k
            · replace c38 := b2i_n0.mp c38
              have hwi : ¬ wiB S cn im j = true := by
                intro q
                unfold wiB at q
                rw [Bool.and_eq_true, Bool.and_eq_true] at q
                rw [hasB_iff.mpr c38] at q
                exact absurd q.1.2 (by decide)
              refine ZE.goto (tgt := 73) d_Ref_witnessOf_41 rfl ?_
              refine ZE.iinc (ls2 := [(2, o), (0, (cn : Int)), (0, (im : Int)), (0, (j : Int) + 1), (9, 0)]) d_Ref_witnessOf_73 rfl rfl ?_
              refine ZE.goto (tgt := 19) d_Ref_witnessOf_76 rfl ?_
              rw [show (j : Int) + 1 = ((j + 1 : Nat) : Int) by omega]
              refine ih (j + 1) (by omega) ?_ (by omega)
              rw [hfa, fsA_go hwi (by omega), show 1000 - j - 1 = 1000 - (j + 1) by omega]
    exact L19 _ 2 (by omega) rfl (Nat.lt_succ_self _)
  · replace c12 := b2i_n0.mp c12
    refine ZE.iconst (n := 0) d_Ref_witnessOf_15 ?_
    refine ZE.iret d_Ref_witnessOf_16 rfl ?_
    rw [show woN S cn im = 0 from if_pos c12] at k
    exact k
set_option maxRecDepth 20000 in
set_option maxHeartbeats 4000000 in
theorem r_witness {d : Nat} {G : zG} {A : Int → Int → Int} {P : Option zV → zG → Prop} {o : Int} (hK : RK G o) (hF : RF A o) {S : Nat} (hR : RS S A o) (hS7 : S < 128) (hp5 : pop S ≤ 5) {c : Int} (hc : zR c) {i : Int} (hi : zR i) (k : P (some (0, wiV S c i)) (gw G A)) : ZE (d + 5) M_Ref_witness (gw G A) 0 [(2, o), (0, c), (0, i)] [] P := by
  have hbb := bnd_le S hS7
  refine ZE.aload_n d_Ref_witness_0 rfl ?_
  refine ZE.iload_n d_Ref_witness_1 rfl ?_
  have hcl0 := cls_le hS7 hp5
  refine ZE.cV [(0, c)] [] [(2, o), (0, c)] d_Ref_witness_2 l_Ref_242 rfl rfl rfl rfl rfl rfl hK.1 ?_
  refine r_isClass (m := (csF S 1 128).length) hK hF hR.n1 (by omega) hc ?_
  show ZE (d + 5) M_Ref_witness (gw G A) 5 [(2, o), (0, c), (0, i)] [(0, b2i (0 ≤ c ∧ c < ((csF S 1 128).length : Int)))] _
  refine ZE.if_eq (tgt := 31) d_Ref_witness_5 rfl (zR_b2i _) (fun c5 => ?_) (fun c5 => ?_)
  · replace c5 := b2i_0.mp c5
    refine ZE.iconst (n := (-1)) d_Ref_witness_31 ?_
    refine ZE.iret d_Ref_witness_32 rfl ?_
    have e0 : inC S c = false := decide_eq_false c5
    rw [show wiV S c i = -1 by unfold wiV; rw [e0]; rfl] at k
    exact k
  · replace c5 := b2i_n0.mp c5
    obtain ⟨cn, hcn⟩ : ∃ cn : Nat, c = cn := ⟨c.toNat, by omega⟩
    subst hcn
    have hok := d1_ok (S := S) (k := cn) (by omega)
    have hcl := hR.c1 cn (by omega)
    have hux9 : nd 10000 (ux (d1 S cn)) ≤ 81 := (okD_ns hok.1).2.1
    have huy9 : nd 10000 (uy (d1 S cn)) ≤ 81 := (okD_ns hok.1).2.2
    have hnx : num (A (o + 2)) (2 * (cn : Int)) (ux (d1 S cn)) := hcl.2.2.1
    have hny : num (A (o + 2)) (2 * (cn : Int) + 1) (uy (d1 S cn)) := hcl.2.2.2
    have hcf := (okD_cf hok.1).1
    have hRb := hcf.2.2.2.2.2.1
    refine ZE.iload_n d_Ref_witness_8 rfl ?_
    refine ZE.i2l d_Ref_witness_9 hi ?_
    refine ZE.lconst d_Ref_witness_10 ?_
    show ZE (d + 5) M_Ref_witness (gw G A) 11 [(2, o), (0, (cn : Int)), (0, i)] [(1, 1), (1, i)] _
    refine ZE.aload_n d_Ref_witness_11 rfl ?_
    refine ZE.cV [] [(1, 1), (1, i)] [(2, o)] d_Ref_witness_12 l_Ref_176 rfl rfl rfl rfl rfl rfl hK.1 ?_
    refine r_bound hK hF hR.s hS7 ?_
    show ZE (d + 5) M_Ref_witness (gw G A) 15 [(2, o), (0, (cn : Int)), (0, i)] [(0, (bnd S : Int)), (1, 1), (1, i)] _
    refine ZE.i2l d_Ref_witness_15 (by unfold zR; omega) ?_
    refine ZE.cS [(1, i), (1, 1), (1, (bnd S : Int))] [] [(1, i), (9, 0), (1, 1), (9, 0), (1, (bnd S : Int)), (9, 0)] d_Ref_witness_16 l_Ref_111 rfl rfl rfl rfl rfl rfl ?_
    refine r_isIn (by unfold zR at hi; unfold zR64; omega) (by unfold zR64; omega) (by unfold zR64; omega) ?_
    show ZE (d + 5) M_Ref_witness (gw G A) 19 [(2, o), (0, (cn : Int)), (0, i)] [(0, b2i (1 ≤ i ∧ i ≤ (bnd S : Int)))] _
    refine ZE.if_eq (tgt := 31) d_Ref_witness_19 rfl (zR_b2i _) (fun c19 => ?_) (fun c19 => ?_)
    · replace c19 := b2i_0.mp c19
      refine ZE.iconst (n := (-1)) d_Ref_witness_31 ?_
      refine ZE.iret d_Ref_witness_32 rfl ?_
      have e0 : inC S (cn : Int) = true := decide_eq_true (by omega)
      rw [show wiV S (cn : Int) i = -1 by unfold wiV; rw [e0, if_pos rfl, if_neg (by omega)]] at k
      exact k
    · replace c19 := b2i_n0.mp c19
      obtain ⟨im, him⟩ : ∃ im : Nat, i = im := ⟨i.toNat, by omega⟩
      subst him
      refine ZE.aload_n d_Ref_witness_22 rfl ?_
      refine ZE.iload_n d_Ref_witness_23 rfl ?_
      refine ZE.iload_n d_Ref_witness_24 rfl ?_
      refine ZE.cV [(0, (cn : Int)), (0, (im : Int))] [] [(2, o), (0, (cn : Int)), (0, (im : Int)), (9, 0), (9, 0)] d_Ref_witness_25 l_Ref_325 rfl rfl rfl rfl rfl rfl hK.1 ?_
      refine r_witnessOf (cn := cn) (im := im) hK hF hR hS7 hp5 (by omega) (by omega) ?_
      show ZE (d + 5) M_Ref_witness (gw G A) 28 [(2, o), (0, (cn : Int)), (0, (im : Int))] [(0, woN S cn im)] _
      refine ZE.goto (tgt := 32) d_Ref_witness_28 rfl ?_
      refine ZE.iret d_Ref_witness_32 rfl ?_
      have e0 : inC S (cn : Int) = true := decide_eq_true (by omega)
      rw [show wiV S (cn : Int) (im : Int) = woN S cn im by unfold wiV; rw [e0, if_pos rfl, if_pos (by omega), Int.toNat_natCast, Int.toNat_natCast]] at k
      exact k
