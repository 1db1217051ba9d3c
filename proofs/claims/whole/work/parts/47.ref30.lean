noncomputable def sqB (v : Int) : Bool := @decide (∃ r : Nat, (r : Int) * r = v) (Classical.propDecidable _)
theorem sqB_iff {v : Int} : sqB v = true ↔ ∃ r : Nat, (r : Int) * r = v := by
  unfold sqB
  exact @decide_eq_true_iff _ (Classical.propDecidable _)
theorem rad5 : ∀ s, s < 128 → pop s ≤ 5 → rad s ≤ 85085 := by decide +kernel
theorem d1_le {S k : Nat} (hS : S < 128) (hp : pop S ≤ 5) (h : k < (csF S 1 128).length) : d1 S k ≤ 170170 := by
  have h1 := csF_lt S 1 128 k h
  have h2 := pop_sub S hS _ h1.1 h1.2.1
  have h3 := rad5 _ h1.1 (by omega)
  unfold d1
  omega
noncomputable def lsV (S : Nat) (c n : Int) : Int := if inC S c then (if -1000 ≤ n ∧ n ≤ 1000 then fsA (fun y => sqB ((d1 S c.toNat : Int) * (y : Int) * (y : Int) + n)) 1 3000 else -1) else -1
set_option maxRecDepth 20000 in
set_option maxHeartbeats 4000000 in
theorem r_least {d : Nat} {G : zG} {A : Int → Int → Int} {P : Option zV → zG → Prop} {o : Int} (hK : RK G o) (hF : RF A o) {S : Nat} (hR : RS S A o) (hS7 : S < 128) (hp5 : pop S ≤ 5) {c : Int} (hc : zR c) {n : Int} (hn : zR n) (k : P (some (0, lsV S c n)) (gw G A)) : ZE (d + 4) M_Ref_least (gw G A) 0 [(2, o), (0, c), (0, n), (9, 0)] [] P := by
  refine ZE.aload_n d_Ref_least_0 rfl ?_
  refine ZE.iload_n d_Ref_least_1 rfl ?_
  have hcl0 := cls_le hS7 hp5
  refine ZE.cV [(0, c)] [] [(2, o), (0, c)] d_Ref_least_2 l_Ref_242 rfl rfl rfl rfl rfl rfl hK.1 ?_
  refine r_isClass (m := (csF S 1 128).length) hK hF hR.n1 (by omega) hc ?_
  show ZE (d + 4) M_Ref_least (gw G A) 5 [(2, o), (0, c), (0, n), (9, 0)] [(0, b2i (0 ≤ c ∧ c < ((csF S 1 128).length : Int)))] _
  refine ZE.if_eq (tgt := 22) d_Ref_least_5 rfl (zR_b2i _) (fun c5 => ?_) (fun c5 => ?_)
  · replace c5 := b2i_0.mp c5
    refine ZE.iconst (n := (-1)) d_Ref_least_22 ?_
    refine ZE.iret d_Ref_least_23 rfl ?_
    have e0 : inC S c = false := decide_eq_false c5
    rw [show lsV S c n = -1 by unfold lsV; rw [e0]; rfl] at k
    exact k
  · replace c5 := b2i_n0.mp c5
    obtain ⟨cn, hcn⟩ : ∃ cn : Nat, c = cn := ⟨c.toNat, by omega⟩
    subst hcn
    have hok := d1_ok (S := S) (k := cn) (by omega)
    have hcl := hR.c1 cn (by omega)
    have hux9 : nd 10000 (ux (d1 S cn)) ≤ 81 := (okD_ns hok.1).2.1
    have huy9 : nd 10000 (uy (d1 S cn)) ≤ 81 := (okD_ns hok.1).2.2
    have hnx : num (A (o + 2)) (2 * (cn : Int)) (ux (d1 S cn)) := hcl.2.2.1
    have hny : num (A (o + 2)) (2 * (cn : Int) + 1) (uy (d1 S cn)) := hcl.2.2.2
    have hcf := (okD_cf hok.1).1
    have hRb := hcf.2.2.2.2.2.1
    refine ZE.iload_n d_Ref_least_8 rfl ?_
    refine ZE.i2l d_Ref_least_9 hn ?_
    refine ZE.ldc2 (v := (-1000)) d_Ref_least_10 (by rw [show Int64.ofInt (-1000) = (-1000 : Int64) from by decide]; exact k_Ref_333) ?_
    refine ZE.ldc2 (v := 1000) d_Ref_least_13 k_Ref_318 ?_
    refine ZE.cS [(1, n), (1, (-1000)), (1, 1000)] [] [(1, n), (9, 0), (1, (-1000)), (9, 0), (1, 1000), (9, 0)] d_Ref_least_16 l_Ref_111 rfl rfl rfl rfl rfl rfl ?_
    refine r_isIn (by unfold zR at hn; unfold zR64; omega) (by unfold zR64; omega) (by unfold zR64; omega) ?_
    show ZE (d + 4) M_Ref_least (gw G A) 19 [(2, o), (0, (cn : Int)), (0, n), (9, 0)] [(0, b2i ((-1000) ≤ n ∧ n ≤ 1000))] _
    refine ZE.if_ne (tgt := 24) d_Ref_least_19 rfl (zR_b2i _) (fun c19 => ?_) (fun c19 => ?_)
    · replace c19 := b2i_n0.mp c19
      refine ZE.iconst (n := 1) d_Ref_least_24 ?_
      refine ZE.istore_n (ls2 := [(2, o), (0, (cn : Int)), (0, n), (0, 1)]) d_Ref_least_25 (Nat.le_of_ble_eq_true rfl) rfl ?_
      have L26 : ∀ (t : Nat) (j : Nat) (hj : j ≤ 3000) (hfa : fsA (fun y : Nat => sqB ((d1 S cn : Int) * (y : Int) * (y : Int) + n)) 1 3000 = fsA (fun y : Nat => sqB ((d1 S cn : Int) * (y : Int) * (y : Int) + n)) (j + 1) (3000 - j)), 3000 - j < t → ZE (d + 4) M_Ref_least (gw G A) 26 [(2, o), (0, (cn : Int)), (0, n), (0, (j : Int) + 1)] [] P := by
        intro t
        induction t with
        | zero => intro j hj hfa hm; exact absurd hm (Nat.not_lt_zero _)
        | succ t ih =>
          intro j hj hfa hm
          have hd0 : 0 ≤ (d1 S cn : Int) * ((j : Int) + 1) := Int.mul_nonneg (by omega) (by omega)
          refine ZE.iload_n d_Ref_least_26 rfl ?_
          refine ZE.sipush (n := 3000) d_Ref_least_27 rfl ?_
          refine ZE.icmp_gt (tgt := 62) d_Ref_least_30 rfl (by unfold zR; omega) (by unfold zR; omega) (fun c30 => ?_) (fun c30 => ?_)
          · refine ZE.iconst (n := (-1)) d_Ref_least_62 ?_
            refine ZE.iret d_Ref_least_63 rfl ?_
            have e0 : inC S (cn : Int) = true := decide_eq_true (by omega)
            rw [show lsV S (cn : Int) n = fsA (fun y : Nat => sqB ((d1 S cn : Int) * (y : Int) * (y : Int) + n)) 1 3000 by unfold lsV; rw [if_pos e0, if_pos c19, Int.toNat_natCast], hfa, show 3000 - j = 0 by omega] at k
            exact k
          · refine ZE.aload_n d_Ref_least_33 rfl ?_
            refine ZE.iload_n d_Ref_least_34 rfl ?_
            have hqq := hR.q1 cn (by omega)
            have hdl := d1_le hS7 hp5 (k := cn) (by omega)
            refine ZE.cV [(0, (cn : Int))] [] [(2, o), (0, (cn : Int))] d_Ref_least_35 l_Ref_128 rfl rfl rfl rfl rfl rfl hK.1 ?_
            refine r_dOf (c := (cn : Int)) (q := rad ((csF S 1 128).getD cn 0)) (D := d1 S cn) hK hF (by omega) hqq (Or.inl ⟨by omega, rfl⟩) ?_
            show ZE (d + 4) M_Ref_least (gw G A) 38 [(2, o), (0, (cn : Int)), (0, n), (0, (j : Int) + 1)] [(0, (d1 S cn : Int))] _
            refine ZE.i2l d_Ref_least_38 (by unfold zR; omega) ?_
            refine ZE.iload_n d_Ref_least_39 rfl ?_
            refine ZE.i2l d_Ref_least_40 (by unfold zR; omega) ?_
            refine ZE.lmul d_Ref_least_41 ?_
            refine ZE.iload_n d_Ref_least_42 rfl ?_
            refine ZE.i2l d_Ref_least_43 (by unfold zR; omega) ?_
            refine ZE.lmul d_Ref_least_44 ?_
            refine ZE.iload_n d_Ref_least_45 rfl ?_
            refine ZE.i2l d_Ref_least_46 (by unfold zR; omega) ?_
            refine ZE.ladd d_Ref_least_47 ?_
            have hm1 : (d1 S cn : Int) * ((j : Int) + 1) ≤ 170170 * 3000 := Int.mul_le_mul (by omega) (by omega) (by omega) (by omega)
            have hm2 : (d1 S cn : Int) * ((j : Int) + 1) * ((j : Int) + 1) ≤ 170170 * 3000 * 3000 := Int.mul_le_mul hm1 (by omega) (by omega) (by omega)
            have hm3 : 0 ≤ (d1 S cn : Int) * ((j : Int) + 1) * ((j : Int) + 1) := Int.mul_nonneg hd0 (by omega)
            refine ZE.cS [(1, (((d1 S cn : Int) * ((j : Int) + 1)) * ((j : Int) + 1)) + n)] [] [(1, (((d1 S cn : Int) * ((j : Int) + 1)) * ((j : Int) + 1)) + n), (9, 0), (9, 0), (9, 0), (9, 0), (9, 0), (9, 0), (9, 0)] d_Ref_least_48 l_Ref_335 rfl rfl rfl rfl rfl rfl ?_
            refine r_isSquare (v := ((d1 S cn : Int) * ((j : Int) + 1) * ((j : Int) + 1) + n)) (by omega) ?_
            show ZE (d + 4) M_Ref_least (gw G A) 51 [(2, o), (0, (cn : Int)), (0, n), (0, (j : Int) + 1)] [(0, b2i (∃ r : Nat, (r : Int) * r = ((d1 S cn : Int) * ((j : Int) + 1) * ((j : Int) + 1) + n)))] _
            refine ZE.if_eq (tgt := 56) d_Ref_least_51 rfl (zR_b2i _) (fun c51 => ?_) (fun c51 => ?_)
            · replace c51 := b2i_0.mp c51
              refine ZE.iinc (ls2 := [(2, o), (0, (cn : Int)), (0, n), (0, ((j : Int) + 1) + 1)]) d_Ref_least_56 rfl rfl ?_
              refine ZE.goto (tgt := 26) d_Ref_least_59 rfl ?_
              rw [show (j : Int) + 1 + 1 = ((j + 1 : Nat) : Int) + 1 by omega]
              refine ih (j + 1) (by omega) ?_ (by omega)
              rw [hfa, fsA_go (show ¬ (fun y : Nat => sqB ((d1 S cn : Int) * (y : Int) * (y : Int) + n)) (j + 1) = true from fun q => c51 (sqB_iff.mp q)) (by omega), show 3000 - j - 1 = 3000 - (j + 1) by omega]
            · replace c51 := b2i_n0.mp c51
              refine ZE.iload_n d_Ref_least_54 rfl ?_
              refine ZE.iret d_Ref_least_55 rfl ?_
              have e0 : inC S (cn : Int) = true := decide_eq_true (by omega)
              rw [show lsV S (cn : Int) n = fsA (fun y : Nat => sqB ((d1 S cn : Int) * (y : Int) * (y : Int) + n)) 1 3000 by unfold lsV; rw [if_pos e0, if_pos c19, Int.toNat_natCast], hfa, fsA_stop (show (fun y : Nat => sqB ((d1 S cn : Int) * (y : Int) * (y : Int) + n)) (j + 1) = true from sqB_iff.mpr c51) (by omega)] at k
              exact k
      exact L26 _ 0 (by omega) rfl (Nat.lt_succ_self _)
    · replace c19 := b2i_0.mp c19
      refine ZE.iconst (n := (-1)) d_Ref_least_22 ?_
      refine ZE.iret d_Ref_least_23 rfl ?_
      have e0 : inC S (cn : Int) = true := decide_eq_true (by omega)
      rw [show lsV S (cn : Int) n = -1 by unfold lsV; rw [if_pos e0, if_neg c19]] at k
      exact k
