set_option maxRecDepth 20000 in
set_option maxHeartbeats 4000000 in
theorem r_partI {d : Nat} {G : zG} {A : Int → Int → Int} {P : Option zV → zG → Prop} {o : Int} (hK : RK G o) (hF : RF A o) {n : Int} (hn : 0 ≤ n ∧ n ≤ 131) {N i : Nat} (hN : A (o + 2) (130 * n) = N) (hi : i < N) (hN9 : N ≤ 129) {z : Int} (hz : A (o + 2) (130 * n + 1 + i) = z) (k : P (some (0, z)) (gw G A)) : ZE (d + 1) M_Ref_part (gw G A) 0 [(2, o), (0, n), (0, (i : Int))] [] P := by
  refine ZE.iload_n d_Ref_part_0 rfl ?_
  refine ZE.aload_n d_Ref_part_1 rfl ?_
  refine ZE.iload_n d_Ref_part_2 rfl ?_
  refine ZE.cV [(0, n)] [(0, (i : Int))] [(2, o), (0, n)] d_Ref_part_3 l_Ref_93 rfl rfl rfl rfl rfl rfl hK.1 ?_
  refine r_parts (n := n) hK hF (by omega) ?_
  show ZE (d + 1) M_Ref_part (gw G A) 6 [(2, o), (0, n), (0, (i : Int))] [(0, A (o + 2) (130 * n)), (0, (i : Int))] _
  rw [hN]
  refine ZE.icmp_ge (tgt := 26) d_Ref_part_6 rfl (by unfold zR; omega) (by unfold zR; omega) (fun c6 => ?_) (fun c6 => ?_)
  · refine ZE.iconst (n := 0) d_Ref_part_26 ?_
    refine ZE.iret d_Ref_part_27 rfl ?_
    exact absurd c6 (by omega)
  · refine ZE.aload_n d_Ref_part_9 rfl ?_
    refine ZE.getE (v := o + 2) d_Ref_part_10 f_Ref_13 (tg := 2) rfl hK.1 hF.a2 ?_
    refine ZE.sipush (n := 130) d_Ref_part_13 rfl ?_
    refine ZE.iload_n d_Ref_part_16 rfl ?_
    refine ZE.imul d_Ref_part_17 ?_
    refine ZE.iconst (n := 1) d_Ref_part_18 ?_
    refine ZE.iadd d_Ref_part_19 ?_
    refine ZE.iload_n d_Ref_part_20 rfl ?_
    refine ZE.iadd d_Ref_part_21 ?_
    refine ZE.ialdE (v := z) d_Ref_part_22 hK.k2 (by have hn0 := hK.n2; show 0 ≤ (((130 * n) + 1) + (i : Int)) ∧ (((130 * n) + 1) + (i : Int)) < gn G (o + 2); omega) hz ?_
    refine ZE.goto (tgt := 27) d_Ref_part_23 rfl ?_
    refine ZE.iret d_Ref_part_27 rfl ?_
    exact k
set_option maxRecDepth 20000 in
set_option maxHeartbeats 4000000 in
theorem r_less {d : Nat} {G : zG} {A : Int → Int → Int} {P : Option zV → zG → Prop} {o : Int} (hK : RK G o) (hF : RF A o) {n : Int} (hn : 0 ≤ n ∧ n ≤ 131) {m : Int} (hm : 0 ≤ m ∧ m ≤ 131) (hne : n ≠ m) {v w : Nat} (hv : num (A (o + 2)) n v) (hw : num (A (o + 2)) m w) (hwv : w ≤ v) (h9 : nd 10000 v ≤ 129) (k : ∀ f, num f n (v - w) → outs (A (o + 2)) f n → P none (gw G (upA A (o + 2) f))) : ZE (d + 2) M_Ref_less (gw G A) 0 [(2, o), (0, n), (0, m), (9, 0), (9, 0), (9, 0), (9, 0)] [] P := by
  have hw9 : nd 10000 w ≤ nd 10000 v := nd_mono (by omega) hwv
  refine ZE.iconst (n := 0) d_Ref_less_0 ?_
  refine ZE.istore_n (ls2 := [(2, o), (0, n), (0, m), (0, 0), (9, 0), (9, 0), (9, 0)]) d_Ref_less_1 (Nat.le_of_ble_eq_true rfl) rfl ?_
  refine ZE.aload_n d_Ref_less_2 rfl ?_
  refine ZE.iload_n d_Ref_less_3 rfl ?_
  refine ZE.cV [(0, n)] [] [(2, o), (0, n)] d_Ref_less_4 l_Ref_93 rfl rfl rfl rfl rfl rfl hK.1 ?_
  refine r_partsN (v := v) hK hF (by omega) hv ?_
  show ZE (d + 2) M_Ref_less (gw G A) 7 [(2, o), (0, n), (0, m), (0, 0), (9, 0), (9, 0), (9, 0)] [(0, (nd 10000 v : Int))] _
  refine ZE.istore (ls2 := [(2, o), (0, n), (0, m), (0, 0), (0, (nd 10000 v : Int)), (9, 0), (9, 0)]) d_Ref_less_7 (Nat.le_of_ble_eq_true rfl) rfl ?_
  refine ZE.iconst (n := 0) d_Ref_less_9 ?_
  refine ZE.istore (ls2 := [(2, o), (0, n), (0, m), (0, 0), (0, (nd 10000 v : Int)), (0, 0), (9, 0)]) d_Ref_less_10 (Nat.le_of_ble_eq_true rfl) rfl ?_
  have L12 : ∀ (t : Nat) (j : Nat) (f : Int → Int) (hj : j ≤ nd 10000 v) (hr : raw f n j (v - w)) (hp : ∀ p : Nat, j ≤ p → p < nd 10000 v → f (130 * n + 1 + p) = dg 10000 v p) (hp0 : f (130 * n) = nd 10000 v) (ho : outs (A (o + 2)) f n), nd 10000 v - j < t → ZE (d + 2) M_Ref_less (gw G (upA A (o + 2) f)) 12 [(2, o), (0, n), (0, m), (0, (brw 10000 v w j : Int)), (0, (nd 10000 v : Int)), (0, (j : Int)), (9, 0)] [] P := by
    intro t
    induction t with
    | zero => intro j f hj hr hp hp0 ho hm; exact absurd hm (Nat.not_lt_zero _)
    | succ t ih =>
      intro j f hj hr hp hp0 ho hm
      by_cases hjn : j < nd 10000 v
      · skip
        have J48 : ∀ z : Nat, z = brw 10000 v w (j + 1) → (dg 10000 v j : Int) - dg 10000 w j - brw 10000 v w j + z * 10000 = dg 10000 (v - w) j → ZE (d + 2) M_Ref_less (gw G (upA A (o + 2) f)) 48 [(2, o), (0, n), (0, m), (0, (brw 10000 v w j : Int)), (0, (nd 10000 v : Int)), (0, (j : Int)), (0, (dg 10000 v j : Int) - (dg 10000 w j : Int) - (brw 10000 v w j : Int))] [(0, (z : Int))] P := by
          intro z hz hz2
          have hjn : j < nd 10000 v := hjn
          refine ZE.istore_n (ls2 := [(2, o), (0, n), (0, m), (0, (z : Int)), (0, (nd 10000 v : Int)), (0, (j : Int)), (0, (dg 10000 v j : Int) - (dg 10000 w j : Int) - (brw 10000 v w j : Int))]) d_Ref_less_48 (Nat.le_of_ble_eq_true rfl) rfl ?_
          refine ZE.aload_n d_Ref_less_49 rfl ?_
          refine ZE.getE (v := o + 2) d_Ref_less_50 f_Ref_13 (tg := 2) rfl hK.1 (hF.uA (by omega)).a2 ?_
          refine ZE.sipush (n := 130) d_Ref_less_53 rfl ?_
          refine ZE.iload_n d_Ref_less_56 rfl ?_
          refine ZE.imul d_Ref_less_57 ?_
          refine ZE.iconst (n := 1) d_Ref_less_58 ?_
          refine ZE.iadd d_Ref_less_59 ?_
          refine ZE.iload d_Ref_less_60 rfl ?_
          refine ZE.iadd d_Ref_less_62 ?_
          refine ZE.iload d_Ref_less_63 rfl ?_
          refine ZE.iload_n d_Ref_less_65 rfl ?_
          refine ZE.sipush (n := 10000) d_Ref_less_66 rfl ?_
          refine ZE.imul d_Ref_less_69 ?_
          refine ZE.iadd d_Ref_less_70 ?_
          refine ZE.iast d_Ref_less_71 hK.k2 (by have hn0 := hK.n2; show 0 ≤ (((130 * n) + 1) + (j : Int)) ∧ (((130 * n) + 1) + (j : Int)) < gn G (o + 2); omega) ?_
          show ZE (d + 2) M_Ref_less (gw G (up2 (upA A (o + 2) f) (o + 2) (((130 * n) + 1) + (j : Int)) (((dg 10000 v j : Int) - (dg 10000 w j : Int) - (brw 10000 v w j : Int)) + ((z : Int) * 10000)))) 72 [(2, o), (0, n), (0, m), (0, (z : Int)), (0, (nd 10000 v : Int)), (0, (j : Int)), (0, (dg 10000 v j : Int) - (dg 10000 w j : Int) - (brw 10000 v w j : Int))] [] _
          rw [up2_upA]
          refine ZE.iinc (ls2 := [(2, o), (0, n), (0, m), (0, (z : Int)), (0, (nd 10000 v : Int)), (0, (j : Int) + 1), (0, (dg 10000 v j : Int) - (dg 10000 w j : Int) - (brw 10000 v w j : Int))]) d_Ref_less_72 rfl rfl ?_
          refine ZE.goto (tgt := 12) d_Ref_less_75 rfl ?_
          refine ZE.mask [true, true, true, true, true, true, false] ?_
          show ZE (d + 2) M_Ref_less (gw G (upA A (o + 2) (up1 f (((130 * n) + 1) + (j : Int)) (((dg 10000 v j : Int) - (dg 10000 w j : Int) - (brw 10000 v w j : Int)) + ((z : Int) * 10000))))) 12 [(2, o), (0, n), (0, m), (0, (z : Int)), (0, (nd 10000 v : Int)), (0, (j : Int) + 1), (9, 0)] [] _
          subst hz
          rw [show (j : Int) + 1 = ((j + 1 : Nat) : Int) by omega]
          refine ih (j + 1) _ (by omega) ?_ ?_ ?_ (ho.up (by omega)) (by omega)
          · intro i hi
            by_cases q1 : i = j
            · subst q1; rw [up1_at]; exact hz2
            · rw [up1_ne _ _ (by omega)]; exact hr i (by omega)
          · intro p q1 q2; rw [up1_ne _ _ (by omega)]; exact hp p (by omega) q2
          · rw [up1_ne _ _ (by omega)]; exact hp0
        refine ZE.iload d_Ref_less_12 rfl ?_
        refine ZE.iload d_Ref_less_14 rfl ?_
        refine ZE.icmp_ge (tgt := 78) d_Ref_less_16 rfl (by unfold zR; omega) (by unfold zR; omega) (fun c16 => ?_) (fun c16 => ?_)
        · exact absurd c16 (by omega)
        · refine ZE.aload_n d_Ref_less_19 rfl ?_
          refine ZE.iload_n d_Ref_less_20 rfl ?_
          refine ZE.iload d_Ref_less_21 rfl ?_
          refine ZE.cV [(0, n), (0, (j : Int))] [] [(2, o), (0, n), (0, (j : Int))] d_Ref_less_23 l_Ref_96 rfl rfl rfl rfl rfl rfl hK.1 ?_
          refine r_partI (N := nd 10000 v) (i := j) (z := (dg 10000 v j : Int)) hK (hF.uA (by omega)) (by omega) (by rw [upA_at]; exact hp0) (by omega) (by omega) (by rw [upA_at]; exact hp j (Nat.le_refl _) (by omega)) ?_
          show ZE (d + 2) M_Ref_less (gw G (upA A (o + 2) f)) 26 [(2, o), (0, n), (0, m), (0, (brw 10000 v w j : Int)), (0, (nd 10000 v : Int)), (0, (j : Int)), (9, 0)] [(0, (dg 10000 v j : Int))] _
          refine ZE.aload_n d_Ref_less_26 rfl ?_
          refine ZE.iload_n d_Ref_less_27 rfl ?_
          refine ZE.iload d_Ref_less_28 rfl ?_
          refine ZE.cV [(0, m), (0, (j : Int))] [(0, (dg 10000 v j : Int))] [(2, o), (0, m), (0, (j : Int))] d_Ref_less_30 l_Ref_96 rfl rfl rfl rfl rfl rfl hK.1 ?_
          refine r_part (i := j) (v := w) hK (hF.uA (by omega)) (by omega) (by rw [upA_at]; exact ho.num (by omega) (by omega) hw) (by omega) (by omega) ?_
          show ZE (d + 2) M_Ref_less (gw G (upA A (o + 2) f)) 33 [(2, o), (0, n), (0, m), (0, (brw 10000 v w j : Int)), (0, (nd 10000 v : Int)), (0, (j : Int)), (9, 0)] [(0, (dg 10000 w j : Int)), (0, (dg 10000 v j : Int))] _
          refine ZE.isub d_Ref_less_33 ?_
          refine ZE.iload_n d_Ref_less_34 rfl ?_
          refine ZE.isub d_Ref_less_35 ?_
          have t1 := dg_lt (b := 10000) (by omega) v j
          have t2 := dg_lt (b := 10000) (by omega) w j
          have t3 := brw_le 10000 v w j
          refine ZE.istore (ls2 := [(2, o), (0, n), (0, m), (0, (brw 10000 v w j : Int)), (0, (nd 10000 v : Int)), (0, (j : Int)), (0, ((dg 10000 v j : Int) - (dg 10000 w j : Int)) - (brw 10000 v w j : Int))]) d_Ref_less_36 (Nat.le_of_ble_eq_true rfl) rfl ?_
          refine ZE.iload d_Ref_less_38 rfl ?_
          refine ZE.if_ge (tgt := 47) d_Ref_less_40 rfl (by unfold zR; omega) (fun c40 => ?_) (fun c40 => ?_)
          · refine ZE.iconst (n := 0) d_Ref_less_47 ?_
            have := sub_step (b := 10000) (by omega) j hwv
            rw [if_neg (by omega)] at this
            exact J48 0 this.1.symm (by omega)
          · refine ZE.iconst (n := 1) d_Ref_less_43 ?_
            refine ZE.goto (tgt := 48) d_Ref_less_44 rfl ?_
            have := sub_step (b := 10000) (by omega) j hwv
            rw [if_pos (by omega)] at this
            exact J48 1 this.1.symm (by omega)
      · have e1 : j = nd 10000 v := by omega
        have hr3 : raw f n (nd 10000 v) (v - w) := e1 ▸ hr
        refine ZE.iload d_Ref_less_12 rfl ?_
        refine ZE.iload d_Ref_less_14 rfl ?_
        refine ZE.icmp_ge (tgt := 78) d_Ref_less_16 rfl (by unfold zR; omega) (by unfold zR; omega) (fun c16 => ?_) (fun c16 => ?_)
        · refine ZE.aload_n d_Ref_less_78 rfl ?_
          refine ZE.iload_n d_Ref_less_79 rfl ?_
          refine ZE.iload d_Ref_less_80 rfl ?_
          refine ZE.cV [(0, n), (0, (nd 10000 v : Int))] [] [(2, o), (0, n), (0, (nd 10000 v : Int)), (9, 0)] d_Ref_less_82 l_Ref_100 rfl rfl rfl rfl rfl rfl hK.1 ?_
          refine r_trim (m := (nd 10000 v)) (v := (v - w)) hK (hF.uA (by omega)) (by omega) (by omega) (Nat.lt_of_le_of_lt (Nat.sub_le _ _) (nd_self (by omega) v)) (by rw [upA_at]; exact hr3) (fun f2 hn2 ho2 => ?_)
          show ZE (d + 2) M_Ref_less (gw G (upA (upA A (o + 2) f) (o + 2) f2)) 85 [(2, o), (0, n), (0, m), (0, (brw 10000 v w j : Int)), (0, (nd 10000 v : Int)), (0, (j : Int)), (9, 0)] [] _
          rw [upA_upA]
          rw [upA_at] at ho2
          refine ZE.vret d_Ref_less_85 rfl ?_
          exact k f2 hn2 (ho.tr ho2)
        · exact absurd c16 (by omega)
  have L0 := L12 _ 0 (A (o + 2)) (by omega) (fun i hi => absurd hi (Nat.not_lt_zero _)) (fun p _ h => hv.2 p h) hv.1 outs.rf (Nat.lt_succ_self _)
  rw [upA_self, brw_0] at L0
  exact L0
set_option maxRecDepth 20000 in
set_option maxHeartbeats 4000000 in
theorem r_modOf {d : Nat} {G : zG} {A : Int → Int → Int} {P : Option zV → zG → Prop} {o : Int} (hK : RK G o) (hF : RF A o) {n : Int} (hn : 0 ≤ n ∧ n ≤ 131) {v m : Nat} (hv : num (A (o + 2)) n v) (h9 : nd 10000 v ≤ 129) (hmp : 0 < m) (hm2 : m < 2147483648) (k : P (some (0, ((v % m : Nat) : Int))) (gw G A)) : ZE (d + 2) M_Ref_modOf (gw G A) 0 [(2, o), (0, n), (0, (m : Int)), (9, 0), (9, 0), (9, 0)] [] P := by
  refine ZE.lconst d_Ref_modOf_0 ?_
  show ZE (d + 2) M_Ref_modOf (gw G A) 1 [(2, o), (0, n), (0, (m : Int)), (9, 0), (9, 0), (9, 0)] [(1, 0)] _
  refine ZE.lstore_n (ls2 := [(2, o), (0, n), (0, (m : Int)), (1, 0), (9, 0), (9, 0)]) d_Ref_modOf_1 (Nat.le_of_ble_eq_true rfl) rfl ?_
  refine ZE.aload_n d_Ref_modOf_2 rfl ?_
  refine ZE.iload_n d_Ref_modOf_3 rfl ?_
  refine ZE.cV [(0, n)] [] [(2, o), (0, n)] d_Ref_modOf_4 l_Ref_93 rfl rfl rfl rfl rfl rfl hK.1 ?_
  refine r_partsN (v := v) hK hF (by omega) hv ?_
  show ZE (d + 2) M_Ref_modOf (gw G A) 7 [(2, o), (0, n), (0, (m : Int)), (1, 0), (9, 0), (9, 0)] [(0, (nd 10000 v : Int))] _
  refine ZE.iconst (n := 1) d_Ref_modOf_7 ?_
  refine ZE.isub d_Ref_modOf_8 ?_
  refine ZE.istore (ls2 := [(2, o), (0, n), (0, (m : Int)), (1, 0), (9, 0), (0, (nd 10000 v : Int) - 1)]) d_Ref_modOf_9 (Nat.le_of_ble_eq_true rfl) rfl ?_
  have L11 : ∀ (t : Nat) (j : Nat) (hj : j ≤ nd 10000 v), j < t → ZE (d + 2) M_Ref_modOf (gw G A) 11 [(2, o), (0, n), (0, (m : Int)), (1, ((v / 10000 ^ j % m : Nat) : Int)), (9, 0), (0, (j : Int) - 1)] [] P := by
    intro t
    induction t with
    | zero => intro j hj hm; exact absurd hm (Nat.not_lt_zero _)
    | succ t ih =>
      intro j hj hm
      rcases Nat.eq_zero_or_pos j with hj0 | hj0
      · subst hj0
        refine ZE.iload d_Ref_modOf_11 rfl ?_
        refine ZE.if_lt (tgt := 40) d_Ref_modOf_13 rfl (by unfold zR; omega) (fun c13 => ?_) (fun c13 => ?_)
        · refine ZE.lload_n d_Ref_modOf_40 rfl ?_
          refine ZE.l2i d_Ref_modOf_41 ?_
          refine ZE.iret d_Ref_modOf_42 rfl ?_
          rw [Nat.pow_zero, Nat.div_one]
          exact k
        · exact absurd c13 (by omega)
      · obtain ⟨i, rfl⟩ : ∃ i, j = i + 1 := ⟨j - 1, by omega⟩
        rw [show ((i + 1 : Nat) : Int) - 1 = (i : Int) by omega]
        refine ZE.iload d_Ref_modOf_11 rfl ?_
        refine ZE.if_lt (tgt := 40) d_Ref_modOf_13 rfl (by unfold zR; omega) (fun c13 => ?_) (fun c13 => ?_)
        · exact absurd c13 (by omega)
        · refine ZE.lload_n d_Ref_modOf_16 rfl ?_
          refine ZE.ldc2 (v := 10000) d_Ref_modOf_17 k_Ref_103 ?_
          refine ZE.lmul d_Ref_modOf_20 ?_
          refine ZE.aload_n d_Ref_modOf_21 rfl ?_
          refine ZE.iload_n d_Ref_modOf_22 rfl ?_
          refine ZE.iload d_Ref_modOf_23 rfl ?_
          refine ZE.cV [(0, n), (0, (i : Int))] [(1, ((v / 10000 ^ (i + 1) % m : Nat) : Int) * 10000)] [(2, o), (0, n), (0, (i : Int))] d_Ref_modOf_25 l_Ref_96 rfl rfl rfl rfl rfl rfl hK.1 ?_
          refine r_part (i := i) (v := v) hK hF (by omega) hv h9 (by omega) ?_
          show ZE (d + 2) M_Ref_modOf (gw G A) 28 [(2, o), (0, n), (0, (m : Int)), (1, ((v / 10000 ^ (i + 1) % m : Nat) : Int)), (9, 0), (0, (i : Int))] [(0, (dg 10000 v i : Int)), (1, ((v / 10000 ^ (i + 1) % m : Nat) : Int) * 10000)] _
          have t1 := dg_lt (b := 10000) (by omega) v i
          refine ZE.i2l d_Ref_modOf_28 (by unfold zR; omega) ?_
          refine ZE.ladd d_Ref_modOf_29 ?_
          refine ZE.iload_n d_Ref_modOf_30 rfl ?_
          refine ZE.i2l d_Ref_modOf_31 (by unfold zR; omega) ?_
          obtain ⟨T, hT⟩ : ∃ T : Nat, T = v / 10000 ^ (i + 1) % m * 10000 + dg 10000 v i := ⟨_, rfl⟩
          have t1 := dg_lt (b := 10000) (by omega) v i
          have t2 : v / 10000 ^ (i + 1) % m < m := Nat.mod_lt _ hmp
          have e0 : ((v / 10000 ^ (i + 1) % m : Nat) : Int) * 10000 + (dg 10000 v i : Int) = (T : Int) := by rw [hT]; simp only [Int.natCast_add, Int.natCast_mul]; rfl
          refine ZE.lremP d_Ref_modOf_32 (by rw [e0]; refine ⟨by omega, ?_, by omega, by omega⟩; have : v / 10000 ^ (i + 1) % m * 10000 ≤ 2147483647 * 10000 := Nat.mul_le_mul_right _ (by omega); omega) ?_
          refine ZE.lstore_n (ls2 := [(2, o), (0, n), (0, (m : Int)), (1, ((((v / 10000 ^ (i + 1) % m : Nat) : Int) * 10000) + (dg 10000 v i : Int)) % (m : Int)), (9, 0), (0, (i : Int))]) d_Ref_modOf_33 (Nat.le_of_ble_eq_true rfl) rfl ?_
          refine ZE.iinc (ls2 := [(2, o), (0, n), (0, (m : Int)), (1, ((((v / 10000 ^ (i + 1) % m : Nat) : Int) * 10000) + (dg 10000 v i : Int)) % (m : Int)), (9, 0), (0, (i : Int) + (-1))]) d_Ref_modOf_34 rfl rfl ?_
          refine ZE.goto (tgt := 11) d_Ref_modOf_37 rfl ?_
          have s1 := (div_step_d (b := 10000) (by omega) v m i hmp).1
          rw [e0, show ((T : Nat) : Int) % (m : Int) = ((T % m : Nat) : Int) from (Int.natCast_emod _ _).symm, hT, s1]
          rw [show (i : Int) + (-1) = (i : Int) - 1 by omega]
          exact ih i (by omega) (by omega)
  have L0 := L11 _ (nd 10000 v) (Nat.le_refl _) (Nat.lt_succ_self _)
  rw [Nat.div_eq_of_lt (nd_self (by omega) v), Nat.zero_mod] at L0
  exact L0
theorem nd10 {v : Nat} (hv : v ≠ 0) : nd 10 v = 4 * (nd 10000 v - 1) + nd 10 (dg 10000 v (nd 10000 v - 1)) ∧ dg 10000 v (nd 10000 v - 1) ≠ 0 := by
  obtain ⟨h1, h2⟩ := dg_top (b := 10000) (by omega) hv
  have hN : 0 < nd 10000 v := (nd_pos_iff (by omega)).mpr hv
  obtain ⟨N, hN2⟩ : ∃ N, nd 10000 v = N + 1 := ⟨nd 10000 v - 1, by omega⟩
  rw [hN2, Nat.add_sub_cancel] at h1 h2 ⊢
  rw [h1]
  refine ⟨?_, by omega⟩
  obtain ⟨T, hT⟩ : ∃ T, T = v / 10000 ^ N := ⟨_, rfl⟩
  rw [← hT] at h2 ⊢
  have e : (10000 : Nat) ^ N = 10 ^ (4 * N) := by rw [Nat.pow_mul]
  have hp : 0 < 10 ^ (4 * N) := Nat.pow_pos (by omega)
  have hd := Nat.mod_add_div v (10 ^ (4 * N))
  rw [← e, ← hT, e] at hd
  have hl := Nat.mod_lt v hp
  have hq : 0 < nd 10 T := (nd_pos_iff (by omega)).mpr (by omega)
  refine nd_eq (by omega) ?_ (Or.inr ?_)
  · have h3 := nd_self (b := 10) (by omega) T
    rw [Nat.pow_add]
    have h4 : 10 ^ (4 * N) * (T + 1) ≤ 10 ^ (4 * N) * 10 ^ nd 10 T := Nat.mul_le_mul_left _ h3
    rw [Nat.mul_add, Nat.mul_one] at h4
    omega
  · have h3 : 10 ^ (nd 10 T - 1) ≤ T := nd_ge (by omega) (by omega)
    have h4 : 10 ^ (4 * N) * 10 ^ (nd 10 T - 1) ≤ 10 ^ (4 * N) * T := Nat.mul_le_mul_left _ h3
    rw [← Nat.pow_add] at h4
    rw [show 4 * N + nd 10 T - 1 = 4 * N + (nd 10 T - 1) by omega]
    omega
theorem dl_long {v : Nat} (hv : v ≠ 0) : dl v = 4 * (nd 10000 v - 1) + dl (dg 10000 v (nd 10000 v - 1)) := by
  obtain ⟨h1, h2⟩ := nd10 hv
  rw [dl_pos hv, dl_pos h2, h1]
theorem dg10 (v k : Nat) : dg 10 v k = dg 10 (dg 10000 v (k / 4)) (k % 4) := by
  unfold dg
  have e1 : (10000 : Nat) = 10 ^ (k % 4) * (10 * 10 ^ (3 - k % 4)) := by
    have : k % 4 = 0 ∨ k % 4 = 1 ∨ k % 4 = 2 ∨ k % 4 = 3 := by omega
    rcases this with h | h | h | h <;> rw [h]
  have e2 : v / 10 ^ k = v / 10000 ^ (k / 4) / 10 ^ (k % 4) := by
    rw [Nat.div_div_eq_div_mul, show (10000 : Nat) = 10 ^ 4 from rfl, ← Nat.pow_mul, ← Nat.pow_add]
    congr 2
    omega
  rw [e2]
  generalize v / 10000 ^ (k / 4) = u
  rw [e1, Nat.mod_mul_right_div_self, Nat.mod_mul_right_mod]
set_option maxRecDepth 20000 in
set_option maxHeartbeats 4000000 in
theorem r_longOf {d : Nat} {G : zG} {A : Int → Int → Int} {P : Option zV → zG → Prop} {o : Int} (hK : RK G o) (hF : RF A o) {n : Int} (hn : 0 ≤ n ∧ n ≤ 131) {v : Nat} (hv : num (A (o + 2)) n v) (h9 : nd 10000 v ≤ 129) (k : P (some (0, (dl v : Int))) (gw G A)) : ZE (d + 2) M_Ref_longOf (gw G A) 0 [(2, o), (0, n)] [] P := by
  refine ZE.aload_n d_Ref_longOf_0 rfl ?_
  refine ZE.iload_n d_Ref_longOf_1 rfl ?_
  refine ZE.cV [(0, n)] [] [(2, o), (0, n)] d_Ref_longOf_2 l_Ref_93 rfl rfl rfl rfl rfl rfl hK.1 ?_
  refine r_partsN (v := v) hK hF (by omega) hv ?_
  show ZE (d + 2) M_Ref_longOf (gw G A) 5 [(2, o), (0, n)] [(0, (nd 10000 v : Int))] _
  refine ZE.if_ne (tgt := 12) d_Ref_longOf_5 rfl (by unfold zR; omega) (fun c5 => ?_) (fun c5 => ?_)
  · have hv0 : v ≠ 0 := (nd_pos_iff (b := 10000) (by omega)).mp (by omega)
    refine ZE.iconst (n := 4) d_Ref_longOf_12 ?_
    refine ZE.aload_n d_Ref_longOf_13 rfl ?_
    refine ZE.iload_n d_Ref_longOf_14 rfl ?_
    refine ZE.cV [(0, n)] [(0, 4)] [(2, o), (0, n)] d_Ref_longOf_15 l_Ref_93 rfl rfl rfl rfl rfl rfl hK.1 ?_
    refine r_partsN (v := v) hK hF (by omega) hv ?_
    show ZE (d + 2) M_Ref_longOf (gw G A) 18 [(2, o), (0, n)] [(0, (nd 10000 v : Int)), (0, 4)] _
    refine ZE.iconst (n := 1) d_Ref_longOf_18 ?_
    refine ZE.isub d_Ref_longOf_19 ?_
    refine ZE.imul d_Ref_longOf_20 ?_
    refine ZE.aload_n d_Ref_longOf_21 rfl ?_
    refine ZE.iload_n d_Ref_longOf_22 rfl ?_
    refine ZE.aload_n d_Ref_longOf_23 rfl ?_
    refine ZE.iload_n d_Ref_longOf_24 rfl ?_
    refine ZE.cV [(0, n)] [(0, n), (2, o), (0, 4 * ((nd 10000 v : Int) - 1))] [(2, o), (0, n)] d_Ref_longOf_25 l_Ref_93 rfl rfl rfl rfl rfl rfl hK.1 ?_
    refine r_partsN (v := v) hK hF (by omega) hv ?_
    show ZE (d + 2) M_Ref_longOf (gw G A) 28 [(2, o), (0, n)] [(0, (nd 10000 v : Int)), (0, n), (2, o), (0, 4 * ((nd 10000 v : Int) - 1))] _
    refine ZE.iconst (n := 1) d_Ref_longOf_28 ?_
    refine ZE.isub d_Ref_longOf_29 ?_
    rw [show ((nd 10000 v : Int) - 1 : Int) = ((nd 10000 v - 1 : Nat) : Int) from (by omega)]
    refine ZE.cV [(0, n), (0, ((nd 10000 v - 1 : Nat) : Int))] [(0, 4 * ((nd 10000 v - 1 : Nat) : Int))] [(2, o), (0, n), (0, ((nd 10000 v - 1 : Nat) : Int))] d_Ref_longOf_30 l_Ref_96 rfl rfl rfl rfl rfl rfl hK.1 ?_
    refine r_part (i := (nd 10000 v - 1)) (v := v) hK hF (by omega) hv h9 (by omega) ?_
    show ZE (d + 2) M_Ref_longOf (gw G A) 33 [(2, o), (0, n)] [(0, (dg 10000 v (nd 10000 v - 1) : Int)), (0, 4 * ((nd 10000 v - 1 : Nat) : Int))] _
    refine ZE.cS [(0, (dg 10000 v (nd 10000 v - 1) : Int))] [(0, 4 * ((nd 10000 v - 1 : Nat) : Int))] [(0, (dg 10000 v (nd 10000 v - 1) : Int)), (9, 0), (9, 0)] d_Ref_longOf_33 l_Ref_105 rfl rfl rfl rfl rfl rfl ?_
    refine r_digitsOf (s := dg 10000 v (nd 10000 v - 1)) (by have := dg_lt (b := 10000) (by omega) v (nd 10000 v - 1); omega) ?_
    show ZE (d + 2) M_Ref_longOf (gw G A) 36 [(2, o), (0, n)] [(0, (dl (dg 10000 v (nd 10000 v - 1)) : Int)), (0, 4 * ((nd 10000 v - 1 : Nat) : Int))] _
    refine ZE.iadd d_Ref_longOf_36 ?_
    refine ZE.iret d_Ref_longOf_37 rfl ?_
    rw [dl_long hv0] at k
    rw [show (4 : Int) * ((nd 10000 v - 1 : Nat) : Int) + (dl (dg 10000 v (nd 10000 v - 1)) : Int) = ((4 * (nd 10000 v - 1) + dl (dg 10000 v (nd 10000 v - 1)) : Nat) : Int) by omega]
    exact k
  · have e1 : v = 0 := Classical.not_not.mp (fun q => by have := (nd_pos_iff (b := 10000) (by omega)).mpr q; omega)
    refine ZE.iconst (n := 1) d_Ref_longOf_8 ?_
    refine ZE.goto (tgt := 37) d_Ref_longOf_9 rfl ?_
    refine ZE.iret d_Ref_longOf_37 rfl ?_
    rw [e1] at k
    exact k
set_option maxRecDepth 20000 in
set_option maxHeartbeats 4000000 in
theorem r_digitAt {d : Nat} {G : zG} {A : Int → Int → Int} {P : Option zV → zG → Prop} {o : Int} (hK : RK G o) (hF : RF A o) {n : Int} (hn : 0 ≤ n ∧ n ≤ 131) {v : Nat} (hv : num (A (o + 2)) n v) (h9 : nd 10000 v ≤ 129) {i : Int} (hi : zR i) (k : P (some (0, if 0 ≤ i ∧ i < dl v then (dg 10 v i.toNat : Int) else -1)) (gw G A)) : ZE (d + 3) M_Ref_digitAt (gw G A) 0 [(2, o), (0, n), (0, i)] [] P := by
  have hd9 : dl v ≤ 516 ∧ 1 ≤ dl v := by
    refine ⟨?_, by unfold dl; omega⟩
    unfold dl
    have h1 := nd_self (b := 10000) (by omega) v
    have h2 : v < 10000 ^ 129 := Nat.lt_of_lt_of_le h1 (Nat.pow_le_pow_right (by omega) h9)
    have e : (10000 : Nat) ^ 129 = 10 ^ 515 * 10 := by decide +kernel
    have h3 : nd 10 (v / 10) ≤ 515 := nd_le (by omega) (by omega)
    omega
  refine ZE.iload_n d_Ref_digitAt_0 rfl ?_
  refine ZE.i2l d_Ref_digitAt_1 hi ?_
  refine ZE.lconst d_Ref_digitAt_2 ?_
  show ZE (d + 3) M_Ref_digitAt (gw G A) 3 [(2, o), (0, n), (0, i)] [(1, 0), (1, i)] _
  refine ZE.aload_n d_Ref_digitAt_3 rfl ?_
  refine ZE.iload_n d_Ref_digitAt_4 rfl ?_
  refine ZE.cV [(0, n)] [(1, 0), (1, i)] [(2, o), (0, n)] d_Ref_digitAt_5 l_Ref_108 rfl rfl rfl rfl rfl rfl hK.1 ?_
  refine r_longOf (v := v) hK hF (by omega) hv h9 ?_
  show ZE (d + 3) M_Ref_digitAt (gw G A) 8 [(2, o), (0, n), (0, i)] [(0, (dl v : Int)), (1, 0), (1, i)] _
  refine ZE.iconst (n := 1) d_Ref_digitAt_8 ?_
  refine ZE.isub d_Ref_digitAt_9 ?_
  refine ZE.i2l d_Ref_digitAt_10 (by unfold zR; omega) ?_
  refine ZE.cS [(1, i), (1, 0), (1, (dl v : Int) - 1)] [] [(1, i), (9, 0), (1, 0), (9, 0), (1, (dl v : Int) - 1), (9, 0)] d_Ref_digitAt_11 l_Ref_111 rfl rfl rfl rfl rfl rfl ?_
  refine r_isIn (by unfold zR at hi; unfold zR64; omega) (by unfold zR64; omega) (by unfold zR64; omega) ?_
  show ZE (d + 3) M_Ref_digitAt (gw G A) 14 [(2, o), (0, n), (0, i)] [(0, b2i (0 ≤ i ∧ i ≤ (dl v : Int) - 1))] _
  refine ZE.if_eq (tgt := 34) d_Ref_digitAt_14 rfl (zR_b2i _) (fun c14 => ?_) (fun c14 => ?_)
  · replace c14 := b2i_0.mp c14
    refine ZE.iconst (n := (-1)) d_Ref_digitAt_34 ?_
    refine ZE.iret d_Ref_digitAt_35 rfl ?_
    rw [if_neg (by omega)] at k
    exact k
  · replace c14 := b2i_n0.mp c14
    refine ZE.aload_n d_Ref_digitAt_17 rfl ?_
    refine ZE.iload_n d_Ref_digitAt_18 rfl ?_
    refine ZE.iload_n d_Ref_digitAt_19 rfl ?_
    refine ZE.iconst (n := 4) d_Ref_digitAt_20 ?_
    refine ZE.idivP d_Ref_digitAt_21 (by omega) ?_
    rw [show (i / 4 : Int) = ((i.toNat / 4 : Nat) : Int) from (by omega)]
    refine ZE.cV [(0, n), (0, ((i.toNat / 4 : Nat) : Int))] [] [(2, o), (0, n), (0, ((i.toNat / 4 : Nat) : Int))] d_Ref_digitAt_22 l_Ref_96 rfl rfl rfl rfl rfl rfl hK.1 ?_
    refine r_part (i := (i.toNat / 4)) (v := v) hK hF (by omega) hv h9 (by omega) ?_
    show ZE (d + 3) M_Ref_digitAt (gw G A) 25 [(2, o), (0, n), (0, i)] [(0, (dg 10000 v (i.toNat / 4) : Int))] _
    refine ZE.iload_n d_Ref_digitAt_25 rfl ?_
    refine ZE.iconst (n := 4) d_Ref_digitAt_26 ?_
    refine ZE.iremP d_Ref_digitAt_27 (by omega) ?_
    rw [show (i % 4 : Int) = ((i.toNat % 4 : Nat) : Int) from (by unfold zR at hi; omega)]
    refine ZE.cS [(0, (dg 10000 v (i.toNat / 4) : Int)), (0, ((i.toNat % 4 : Nat) : Int))] [] [(0, (dg 10000 v (i.toNat / 4) : Int)), (0, ((i.toNat % 4 : Nat) : Int)), (9, 0), (9, 0)] d_Ref_digitAt_28 l_Ref_115 rfl rfl rfl rfl rfl rfl ?_
    refine r_digitIn (s := dg 10000 v (i.toNat / 4)) (i := i.toNat % 4) (by have := dg_lt (b := 10000) (by omega) v (i.toNat / 4); omega) (by omega) ?_
    show ZE (d + 3) M_Ref_digitAt (gw G A) 31 [(2, o), (0, n), (0, i)] [(0, (dg 10 (dg 10000 v (i.toNat / 4)) (i.toNat % 4) : Int))] _
    refine ZE.goto (tgt := 35) d_Ref_digitAt_31 rfl ?_
    refine ZE.iret d_Ref_digitAt_35 rfl ?_
    rw [if_pos (by omega), dg10] at k
    exact k
