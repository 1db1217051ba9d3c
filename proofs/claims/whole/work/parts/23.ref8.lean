set_option maxRecDepth 20000 in
set_option maxHeartbeats 4000000 in
theorem r_powerMod {d : Nat} {G : zG} {A : Int → Int → Int} {P : Option zV → zG → Prop} {o : Int} (hK : RK G o) (hF : RF A o) {c : Int} (hc : 0 ≤ c ∧ c < 63) {u : Nat} (hu : 1 ≤ u) (hv : num (A (o + 2)) (2 * c) u) (h9 : nd 10000 u ≤ 129) {i m : Nat} (hi : i ≤ 100) (hm2 : 2 ≤ m ∧ m ≤ 10000) (k : P (some (0, ((xp u i % m : Nat) : Int))) (gw G A)) : ZE (d + 3) M_Ref_powerMod (gw G A) 0 [(2, o), (0, c), (0, (i : Int)), (0, (m : Int)), (9, 0), (9, 0), (9, 0), (9, 0), (9, 0)] [] P := by
  refine ZE.aload_n d_Ref_powerMod_0 rfl ?_
  refine ZE.iconst (n := 2) d_Ref_powerMod_1 ?_
  refine ZE.iload_n d_Ref_powerMod_2 rfl ?_
  refine ZE.imul d_Ref_powerMod_3 ?_
  refine ZE.iload_n d_Ref_powerMod_4 rfl ?_
  refine ZE.cV [(0, 2 * c), (0, (m : Int))] [] [(2, o), (0, 2 * c), (0, (m : Int)), (9, 0), (9, 0), (9, 0)] d_Ref_powerMod_5 l_Ref_254 rfl rfl rfl rfl rfl rfl hK.1 ?_
  refine r_modOf (v := u) (m := m) hK hF (by omega) hv h9 (by omega) (by omega) ?_
  show ZE (d + 3) M_Ref_powerMod (gw G A) 8 [(2, o), (0, c), (0, (i : Int)), (0, (m : Int)), (9, 0), (9, 0), (9, 0), (9, 0), (9, 0)] [(0, ((u % m : Nat) : Int))] _
  have hum : u % m < m := Nat.mod_lt _ (by omega)
  refine ZE.istore (ls2 := [(2, o), (0, c), (0, (i : Int)), (0, (m : Int)), (0, ((u % m : Nat) : Int)), (9, 0), (9, 0), (9, 0), (9, 0)]) d_Ref_powerMod_8 (Nat.le_of_ble_eq_true rfl) rfl ?_
  refine ZE.iload d_Ref_powerMod_10 rfl ?_
  refine ZE.istore (ls2 := [(2, o), (0, c), (0, (i : Int)), (0, (m : Int)), (0, ((u % m : Nat) : Int)), (0, ((u % m : Nat) : Int)), (9, 0), (9, 0), (9, 0)]) d_Ref_powerMod_12 (Nat.le_of_ble_eq_true rfl) rfl ?_
  refine ZE.iconst (n := 1) d_Ref_powerMod_14 ?_
  refine ZE.iload_n d_Ref_powerMod_15 rfl ?_
  refine ZE.iremP d_Ref_powerMod_16 (by omega) ?_
  rw [show (1 % (m : Int) : Int) = ((1 % m : Nat) : Int) from (Int.natCast_emod 1 m).symm]
  refine ZE.istore (ls2 := [(2, o), (0, c), (0, (i : Int)), (0, (m : Int)), (0, ((u % m : Nat) : Int)), (0, ((u % m : Nat) : Int)), (0, ((1 % m : Nat) : Int)), (9, 0), (9, 0)]) d_Ref_powerMod_17 (Nat.le_of_ble_eq_true rfl) rfl ?_
  refine ZE.iconst (n := 0) d_Ref_powerMod_19 ?_
  refine ZE.istore (ls2 := [(2, o), (0, c), (0, (i : Int)), (0, (m : Int)), (0, ((u % m : Nat) : Int)), (0, ((u % m : Nat) : Int)), (0, ((1 % m : Nat) : Int)), (0, 0), (9, 0)]) d_Ref_powerMod_20 (Nat.le_of_ble_eq_true rfl) rfl ?_
  have L22 : ∀ (t : Nat) (j : Nat) (hj : j ≤ i), i - j < t → ZE (d + 3) M_Ref_powerMod (gw G A) 22 [(2, o), (0, c), (0, (i : Int)), (0, (m : Int)), (0, ((u % m : Nat) : Int)), (0, ((xq u j % m : Nat) : Int)), (0, ((xp u j % m : Nat) : Int)), (0, (j : Int)), (9, 0)] [] P := by
    intro t
    induction t with
    | zero => intro j hj hm; exact absurd hm (Nat.not_lt_zero _)
    | succ t ih =>
      intro j hj hm
      have hx1 : u % m < m := Nat.mod_lt _ (by omega)
      have hx2 : xp u j % m < m := Nat.mod_lt _ (by omega)
      have hx3 : xq u j % m < m := Nat.mod_lt _ (by omega)
      refine ZE.iload d_Ref_powerMod_22 rfl ?_
      refine ZE.iload_n d_Ref_powerMod_24 rfl ?_
      refine ZE.icmp_ge (tgt := 75) d_Ref_powerMod_25 rfl (by unfold zR; omega) (by unfold zR; omega) (fun c25 => ?_) (fun c25 => ?_)
      · refine ZE.iload d_Ref_powerMod_75 rfl ?_
        refine ZE.iret d_Ref_powerMod_77 rfl ?_
        have e1 : j = i := by omega
        subst e1
        exact k
      · refine ZE.ldc2 (v := 2) d_Ref_powerMod_28 k_Ref_181 ?_
        refine ZE.iload d_Ref_powerMod_31 rfl ?_
        refine ZE.i2l d_Ref_powerMod_33 (by unfold zR; omega) ?_
        refine ZE.lmul d_Ref_powerMod_34 ?_
        refine ZE.iload d_Ref_powerMod_35 rfl ?_
        refine ZE.i2l d_Ref_powerMod_37 (by unfold zR; omega) ?_
        refine ZE.lmul d_Ref_powerMod_38 ?_
        refine ZE.iload d_Ref_powerMod_39 rfl ?_
        refine ZE.i2l d_Ref_powerMod_41 (by unfold zR; omega) ?_
        refine ZE.lsub d_Ref_powerMod_42 ?_
        refine ZE.iload_n d_Ref_powerMod_43 rfl ?_
        refine ZE.i2l d_Ref_powerMod_44 (by unfold zR; omega) ?_
        have hp1 : 2 * (u % m) * (xp u j % m) ≤ 2 * 9999 * 9999 := Nat.mul_le_mul (by omega) (by omega)
        have hp2 : ((2 * (u % m) * (xp u j % m) : Nat) : Int) = 2 * ((u % m : Nat) : Int) * ((xp u j % m : Nat) : Int) := by simp only [Int.natCast_mul]; rfl
        refine ZE.lrem d_Ref_powerMod_45 (by unfold zR64; omega) (by unfold zR64; omega) (by omega) ?_
        refine ZE.l2i d_Ref_powerMod_46 ?_
        refine ZE.istore (ls2 := [(2, o), (0, c), (0, (i : Int)), (0, (m : Int)), (0, ((u % m : Nat) : Int)), (0, ((xq u j % m : Nat) : Int)), (0, ((xp u j % m : Nat) : Int)), (0, (j : Int)), (0, (((2 * ((u % m : Nat) : Int)) * ((xp u j % m : Nat) : Int)) - ((xq u j % m : Nat) : Int)).tmod (m : Int))]) d_Ref_powerMod_47 (Nat.le_of_ble_eq_true rfl) rfl ?_
        have hp5 := Int.lt_tmod_of_pos ((2 * ((u % m : Nat) : Int) * ((xp u j % m : Nat) : Int) - ((xq u j % m : Nat) : Int))) (show (0 : Int) < (m : Int) by omega)
        have hp6 := Int.tmod_lt_of_pos ((2 * ((u % m : Nat) : Int) * ((xp u j % m : Nat) : Int) - ((xq u j % m : Nat) : Int))) (show (0 : Int) < (m : Int) by omega)
        refine ZE.iload d_Ref_powerMod_49 rfl ?_
        refine ZE.istore (ls2 := [(2, o), (0, c), (0, (i : Int)), (0, (m : Int)), (0, ((u % m : Nat) : Int)), (0, ((xp u j % m : Nat) : Int)), (0, ((xp u j % m : Nat) : Int)), (0, (j : Int)), (0, (((2 * ((u % m : Nat) : Int)) * ((xp u j % m : Nat) : Int)) - ((xq u j % m : Nat) : Int)).tmod (m : Int))]) d_Ref_powerMod_51 (Nat.le_of_ble_eq_true rfl) rfl ?_
        refine ZE.iload d_Ref_powerMod_53 rfl ?_
        refine ZE.if_ge (tgt := 65) d_Ref_powerMod_55 rfl (by unfold zR; omega) (fun c55 => ?_) (fun c55 => ?_)
        · refine ZE.iload d_Ref_powerMod_65 rfl ?_
          rw [show (((2 * ((u % m : Nat) : Int)) * ((xp u j % m : Nat) : Int)) - ((xq u j % m : Nat) : Int)).tmod (m : Int) = ((xp u (j + 1) % m : Nat) : Int) from by rw [← xp_mod hu (by omega : 0 < m)]; first | exact (tm_adj (by omega)).1 (by omega) | exact (tm_adj (by omega)).2 (by omega)]
          refine ZE.istore (ls2 := [(2, o), (0, c), (0, (i : Int)), (0, (m : Int)), (0, ((u % m : Nat) : Int)), (0, ((xp u j % m : Nat) : Int)), (0, ((xp u (j + 1) % m : Nat) : Int)), (0, (j : Int)), (0, ((xp u (j + 1) % m : Nat) : Int))]) d_Ref_powerMod_67 (Nat.le_of_ble_eq_true rfl) rfl ?_
          refine ZE.iinc (ls2 := [(2, o), (0, c), (0, (i : Int)), (0, (m : Int)), (0, ((u % m : Nat) : Int)), (0, ((xp u j % m : Nat) : Int)), (0, ((xp u (j + 1) % m : Nat) : Int)), (0, (j : Int) + 1), (0, ((xp u (j + 1) % m : Nat) : Int))]) d_Ref_powerMod_69 rfl rfl ?_
          refine ZE.goto (tgt := 22) d_Ref_powerMod_72 rfl ?_
          refine ZE.mask [true, true, true, true, true, true, true, true, false] ?_
          show ZE (d + 3) M_Ref_powerMod (gw G A) 22 [(2, o), (0, c), (0, (i : Int)), (0, (m : Int)), (0, ((u % m : Nat) : Int)), (0, ((xp u j % m : Nat) : Int)), (0, ((xp u (j + 1) % m : Nat) : Int)), (0, (j : Int) + 1), (9, 0)] [] _
          rw [show (j : Int) + 1 = ((j + 1 : Nat) : Int) by omega]
          exact ih (j + 1) (by omega) (by omega)
        · refine ZE.iload d_Ref_powerMod_58 rfl ?_
          refine ZE.iload_n d_Ref_powerMod_60 rfl ?_
          refine ZE.iadd d_Ref_powerMod_61 ?_
          refine ZE.goto (tgt := 67) d_Ref_powerMod_62 rfl ?_
          rw [show ((((2 * ((u % m : Nat) : Int)) * ((xp u j % m : Nat) : Int)) - ((xq u j % m : Nat) : Int)).tmod (m : Int)) + (m : Int) = ((xp u (j + 1) % m : Nat) : Int) from by rw [← xp_mod hu (by omega : 0 < m)]; first | exact (tm_adj (by omega)).1 (by omega) | exact (tm_adj (by omega)).2 (by omega)]
          refine ZE.istore (ls2 := [(2, o), (0, c), (0, (i : Int)), (0, (m : Int)), (0, ((u % m : Nat) : Int)), (0, ((xp u j % m : Nat) : Int)), (0, ((xp u (j + 1) % m : Nat) : Int)), (0, (j : Int)), (0, (((2 * ((u % m : Nat) : Int)) * ((xp u j % m : Nat) : Int)) - ((xq u j % m : Nat) : Int)).tmod (m : Int))]) d_Ref_powerMod_67 (Nat.le_of_ble_eq_true rfl) rfl ?_
          refine ZE.iinc (ls2 := [(2, o), (0, c), (0, (i : Int)), (0, (m : Int)), (0, ((u % m : Nat) : Int)), (0, ((xp u j % m : Nat) : Int)), (0, ((xp u (j + 1) % m : Nat) : Int)), (0, (j : Int) + 1), (0, (((2 * ((u % m : Nat) : Int)) * ((xp u j % m : Nat) : Int)) - ((xq u j % m : Nat) : Int)).tmod (m : Int))]) d_Ref_powerMod_69 rfl rfl ?_
          refine ZE.goto (tgt := 22) d_Ref_powerMod_72 rfl ?_
          refine ZE.mask [true, true, true, true, true, true, true, true, false] ?_
          show ZE (d + 3) M_Ref_powerMod (gw G A) 22 [(2, o), (0, c), (0, (i : Int)), (0, (m : Int)), (0, ((u % m : Nat) : Int)), (0, ((xp u j % m : Nat) : Int)), (0, ((xp u (j + 1) % m : Nat) : Int)), (0, (j : Int) + 1), (9, 0)] [] _
          rw [show (j : Int) + 1 = ((j + 1 : Nat) : Int) by omega]
          exact ih (j + 1) (by omega) (by omega)
  exact L22 _ 0 (Nat.zero_le _) (Nat.lt_succ_self _)
set_option maxRecDepth 20000 in
set_option maxHeartbeats 4000000 in
theorem r_layPower {d : Nat} {G : zG} {A : Int → Int → Int} {P : Option zV → zG → Prop} {o : Int} (hK : RK G o) (hF : RF A o) {c : Int} (hc : 0 ≤ c ∧ c < 63) {u i : Nat} (hu : 1 ≤ u) (hv : num (A (o + 2)) (2 * c) u) (hi : i ≤ 100) (h7 : ∀ j, j ≤ i + 1 → nd 10000 (xp u j) ≤ 127) (h8 : ∀ j, j + 1 ≤ i → nd 10000 (xp u j * u) ≤ 120 ∧ nd 10000 (xp u j * u * 2 + 0) ≤ 121 ∧ nd 10000 (xp u j) + nd 10000 u ≤ 125) (k : ∀ f, num f (if i = 0 then 126 else 127) (xp u i) → rowF (fun n => 126 ≤ n ∧ n ≤ 130) (A (o + 2)) f → P (some (0, if i = 0 then 126 else 127)) (gw G (upA A (o + 2) f))) : ZE (d + 3) M_Ref_layPower (gw G A) 0 [(2, o), (0, c), (0, (i : Int)), (9, 0)] [] P := by
  refine ZE.aload_n d_Ref_layPower_0 rfl ?_
  refine ZE.bipush (n := 126) d_Ref_layPower_1 rfl ?_
  refine ZE.iconst (n := 1) d_Ref_layPower_3 ?_
  refine ZE.cV [(0, 126), (0, 1)] [] [(2, o), (0, 126), (0, 1), (9, 0), (9, 0)] d_Ref_layPower_4 l_Ref_69 rfl rfl rfl rfl rfl rfl hK.1 ?_
  refine r_setSmall (n := 126) (v := 1) hK hF (by omega) (by omega) (fun f1 hn1 ho1 => ?_)
  show ZE (d + 3) M_Ref_layPower (gw G (upA A (o + 2) f1)) 7 [(2, o), (0, c), (0, (i : Int)), (9, 0)] [] _
  have m1_1 := ho1.num (m := 2 * c) (by omega) (by have h9 : nd 10000 u ≤ 127 := (h7 1 (by omega)); exact Nat.le_trans h9 (by decide)) hv
  have fr1 := rowF.step (rowF.rf (sl := (fun n => 126 ≤ n ∧ n ≤ 130))) ho1 (by omega)
  refine ZE.aload_n d_Ref_layPower_7 rfl ?_
  refine ZE.iconst (n := 2) d_Ref_layPower_8 ?_
  refine ZE.iload_n d_Ref_layPower_9 rfl ?_
  refine ZE.imul d_Ref_layPower_10 ?_
  refine ZE.bipush (n := 127) d_Ref_layPower_11 rfl ?_
  refine ZE.cV [(0, 2 * c), (0, 127)] [] [(2, o), (0, 2 * c), (0, 127), (9, 0)] d_Ref_layPower_13 l_Ref_153 rfl rfl rfl rfl rfl rfl hK.1 ?_
  refine r_copyBig (n := 2 * c) (t0 := 127) hK (hF.uA (by omega)) (by omega) (by omega) (by omega) (fun f2 hc2 ho2 => ?_)
  show ZE (d + 3) M_Ref_layPower (gw G (upA (upA A (o + 2) f1) (o + 2) f2)) 16 [(2, o), (0, c), (0, (i : Int)), (9, 0)] [] _
  rw [upA_upA]
  rw [upA_at] at ho2
  rw [upA_at] at hc2
  have hn2 := hc2 u (by have h9 : nd 10000 u ≤ 127 := (h7 1 (by omega)); exact Nat.le_trans h9 (by decide)) m1_1
  have m2_1 := ho2.num (m := 2 * c) (by omega) (by have h9 : nd 10000 u ≤ 127 := (h7 1 (by omega)); exact Nat.le_trans h9 (by decide)) m1_1
  have m2_2 := ho2.num (m := 126) (by omega) (by have h9 : nd 10000 1 ≤ 127 := (nd_le (by omega) (by omega)); exact Nat.le_trans h9 (by decide)) hn1
  have fr2 := rowF.step fr1 ho2 (by omega)
  refine ZE.aload_n d_Ref_layPower_16 rfl ?_
  refine ZE.sipush (n := 129) d_Ref_layPower_17 rfl ?_
  refine ZE.iconst (n := 0) d_Ref_layPower_20 ?_
  refine ZE.cV [(0, 129), (0, 0)] [] [(2, o), (0, 129), (0, 0), (9, 0), (9, 0)] d_Ref_layPower_21 l_Ref_69 rfl rfl rfl rfl rfl rfl hK.1 ?_
  refine r_setSmall (n := 129) (v := 0) hK (hF.uA (by omega)) (by omega) (by omega) (fun f3 hn3 ho3 => ?_)
  show ZE (d + 3) M_Ref_layPower (gw G (upA (upA A (o + 2) f2) (o + 2) f3)) 24 [(2, o), (0, c), (0, (i : Int)), (9, 0)] [] _
  rw [upA_upA]
  rw [upA_at] at ho3
  have m3_1 := ho3.num (m := 2 * c) (by omega) (by have h9 : nd 10000 u ≤ 127 := (h7 1 (by omega)); exact Nat.le_trans h9 (by decide)) m2_1
  have m3_2 := ho3.num (m := 126) (by omega) (by have h9 : nd 10000 1 ≤ 127 := (nd_le (by omega) (by omega)); exact Nat.le_trans h9 (by decide)) m2_2
  have m3_3 := ho3.num (m := 127) (by omega) (by have h9 : nd 10000 u ≤ 127 := (h7 1 (by omega)); exact Nat.le_trans h9 (by decide)) hn2
  have fr3 := rowF.step fr2 ho3 (by omega)
  refine ZE.iconst (n := 1) d_Ref_layPower_24 ?_
  refine ZE.istore_n (ls2 := [(2, o), (0, c), (0, (i : Int)), (0, 1)]) d_Ref_layPower_25 (Nat.le_of_ble_eq_true rfl) rfl ?_
  have L26 : ∀ (t : Nat) (j : Nat) (f0 : Int → Int) (hj : j + 1 ≤ i ∨ j = 0) (g1 : rowF (fun n => 126 ≤ n ∧ n ≤ 130) (A (o + 2)) f0) (q0 : num f0 (2 * c) u) (q1 : num f0 126 (xp u j)) (q2 : num f0 127 (xp u (j + 1))) (q3 : num f0 129 0), i - j < t → ZE (d + 3) M_Ref_layPower (gw G (upA A (o + 2) f0)) 26 [(2, o), (0, c), (0, (i : Int)), (0, (j : Int) + 1)] [] P := by
    intro t
    induction t with
    | zero => intro j f0 hj g1 q0 q1 q2 q3 hm; exact absurd hm (Nat.not_lt_zero _)
    | succ t ih =>
      intro j f0 hj g1 q0 q1 q2 q3 hm
      refine ZE.iload_n d_Ref_layPower_26 rfl ?_
      refine ZE.iload_n d_Ref_layPower_27 rfl ?_
      refine ZE.icmp_ge (tgt := 89) d_Ref_layPower_28 rfl (by unfold zR; omega) (by unfold zR; omega) (fun c28 => ?_) (fun c28 => ?_)
      · refine ZE.iload_n d_Ref_layPower_89 rfl ?_
        refine ZE.if_ne (tgt := 98) d_Ref_layPower_90 rfl (by unfold zR; omega) (fun c90 => ?_) (fun c90 => ?_)
        · refine ZE.bipush (n := 127) d_Ref_layPower_98 rfl ?_
          refine ZE.iret d_Ref_layPower_100 rfl ?_
          have e1 : j + 1 = i := by omega
          rw [if_neg (by omega), ← e1] at k
          exact k f0 q2 g1
        · refine ZE.bipush (n := 126) d_Ref_layPower_93 rfl ?_
          refine ZE.goto (tgt := 100) d_Ref_layPower_95 rfl ?_
          refine ZE.iret d_Ref_layPower_100 rfl ?_
          have e1 : i = 0 := by omega
          subst e1
          have e2 : j = 0 := by omega
          subst e2
          exact k f0 q1 g1
      · refine ZE.aload_n d_Ref_layPower_31 rfl ?_
        refine ZE.bipush (n := 127) d_Ref_layPower_32 rfl ?_
        refine ZE.iconst (n := 2) d_Ref_layPower_34 ?_
        refine ZE.iload_n d_Ref_layPower_35 rfl ?_
        refine ZE.imul d_Ref_layPower_36 ?_
        refine ZE.sipush (n := 128) d_Ref_layPower_37 rfl ?_
        refine ZE.cV [(0, 127), (0, 2 * c), (0, 128)] [] [(2, o), (0, 127), (0, 2 * c), (0, 128), (9, 0), (9, 0), (9, 0), (9, 0), (9, 0), (9, 0)] d_Ref_layPower_40 l_Ref_164 rfl rfl rfl rfl rfl rfl hK.1 ?_
        refine r_product (n := 127) (m := 2 * c) (t0 := 128) (v := (xp u (j + 1))) (w := u) hK (hF.uA (by omega)) (by omega) (by omega) (by omega) (by omega) (by omega) (by rw [upA_at]; exact q2) (by rw [upA_at]; exact q0) (by have := (h8 (j + 1) (by omega)).2.2; omega) (fun f4 hn4 ho4 => ?_)
        show ZE (d + 3) M_Ref_layPower (gw G (upA (upA A (o + 2) f0) (o + 2) f4)) 43 [(2, o), (0, c), (0, (i : Int)), (0, (j : Int) + 1)] [] _
        rw [upA_upA]
        rw [upA_at] at ho4
        have m4_1 := ho4.num (m := 2 * c) (by omega) (by have h9 : nd 10000 u ≤ 127 := (h7 1 (by omega)); exact Nat.le_trans h9 (by decide)) q0
        have m4_2 := ho4.num (m := 126) (by omega) (by have h9 : nd 10000 (xp u j) ≤ 127 := (h7 j (by omega)); exact Nat.le_trans h9 (by decide)) q1
        have m4_3 := ho4.num (m := 127) (by omega) (by have h9 : nd 10000 (xp u (j + 1)) ≤ 127 := (h7 (j + 1) (by omega)); exact Nat.le_trans h9 (by decide)) q2
        have m4_4 := ho4.num (m := 129) (by omega) (by have h9 : nd 10000 0 ≤ 127 := (nd_le (by omega) (by omega)); exact Nat.le_trans h9 (by decide)) q3
        have fr4 := rowF.step (rowF.rf (sl := (fun n => 126 ≤ n ∧ n ≤ 130)) (f := f0)) ho4 (by omega)
        refine ZE.aload_n d_Ref_layPower_43 rfl ?_
        refine ZE.sipush (n := 128) d_Ref_layPower_44 rfl ?_
        refine ZE.iconst (n := 2) d_Ref_layPower_47 ?_
        refine ZE.sipush (n := 129) d_Ref_layPower_48 rfl ?_
        refine ZE.sipush (n := 130) d_Ref_layPower_51 rfl ?_
        refine ZE.cV [(0, 128), (0, 2), (0, 129), (0, 130)] [] [(2, o), (0, 128), (0, 2), (0, 129), (0, 130), (9, 0), (9, 0), (9, 0), (9, 0)] d_Ref_layPower_54 l_Ref_149 rfl rfl rfl rfl rfl rfl hK.1 ?_
        refine r_times (n := 128) (m := 129) (t0 := 130) (v := (xp u (j + 1) * u)) (w := 0) (y := 2) hK (hF.uA (by omega)) (by omega) (by omega) (by omega) (by omega) (by omega) (by omega) (by rw [upA_at]; exact hn4) (by rw [upA_at]; exact m4_4) (by have h9 : nd 10000 (xp u (j + 1) * u) ≤ 127 := (Nat.le_trans (h8 (j + 1) (by omega)).1 (by decide)); omega) (by have h9 : nd 10000 0 ≤ 127 := (nd_le (by omega) (by omega)); omega) (fun f5 hn5 ho5 => ?_)
        show ZE (d + 3) M_Ref_layPower (gw G (upA (upA A (o + 2) f4) (o + 2) f5)) 57 [(2, o), (0, c), (0, (i : Int)), (0, (j : Int) + 1)] [] _
        rw [upA_upA]
        rw [upA_at] at ho5
        have m5_1 := ho5.num (m := 2 * c) (by omega) (by have h9 : nd 10000 u ≤ 127 := (h7 1 (by omega)); exact Nat.le_trans h9 (by decide)) m4_1
        have m5_2 := ho5.num (m := 126) (by omega) (by have h9 : nd 10000 (xp u j) ≤ 127 := (h7 j (by omega)); exact Nat.le_trans h9 (by decide)) m4_2
        have m5_3 := ho5.num (m := 127) (by omega) (by have h9 : nd 10000 (xp u (j + 1)) ≤ 127 := (h7 (j + 1) (by omega)); exact Nat.le_trans h9 (by decide)) m4_3
        have m5_4 := ho5.num (m := 129) (by omega) (by have h9 : nd 10000 0 ≤ 127 := (nd_le (by omega) (by omega)); exact Nat.le_trans h9 (by decide)) m4_4
        have m5_5 := ho5.num (m := 128) (by omega) (by have h9 : nd 10000 (xp u (j + 1) * u) ≤ 127 := (Nat.le_trans (h8 (j + 1) (by omega)).1 (by decide)); exact Nat.le_trans h9 (by decide)) hn4
        have fr5 := rowF.step fr4 ho5 (by omega)
        refine ZE.aload_n d_Ref_layPower_57 rfl ?_
        refine ZE.sipush (n := 130) d_Ref_layPower_58 rfl ?_
        refine ZE.bipush (n := 126) d_Ref_layPower_61 rfl ?_
        refine ZE.cV [(0, 130), (0, 126)] [] [(2, o), (0, 130), (0, 126), (9, 0), (9, 0), (9, 0), (9, 0)] d_Ref_layPower_63 l_Ref_263 rfl rfl rfl rfl rfl rfl hK.1 ?_
        refine r_less (v := xp u (j + 1) * u * 2 + 0) (w := xp u j) hK (hF.uA (by omega)) (by omega) (by omega) (by omega) (by rw [upA_at]; exact hn5) (by rw [upA_at]; exact m5_2) (by have := xp_mono hu j; have h1 : xp u (j + 1) * 1 ≤ xp u (j + 1) * u := Nat.mul_le_mul_left _ hu; omega) (by have h9 : nd 10000 (xp u (j + 1) * u * 2 + 0) ≤ 127 := (Nat.le_trans (h8 (j + 1) (by omega)).2.1 (by decide)); omega) (fun f6 hn6 ho6 => ?_)
        show ZE (d + 3) M_Ref_layPower (gw G (upA (upA A (o + 2) f5) (o + 2) f6)) 66 [(2, o), (0, c), (0, (i : Int)), (0, (j : Int) + 1)] [] _
        rw [upA_upA]
        rw [upA_at] at ho6
        rw [show xp u (j + 1) * u * 2 + 0 - xp u j = xp u (j + 2) from by show _ = 2 * u * xp u (j + 1) - xp u j; congr 1; rw [Nat.add_zero, Nat.mul_comm (xp u (j + 1)), Nat.mul_comm (u * _) 2, Nat.mul_assoc]] at hn6
        have m6_1 := ho6.num (m := 2 * c) (by omega) (by have h9 : nd 10000 u ≤ 127 := (h7 1 (by omega)); exact Nat.le_trans h9 (by decide)) m5_1
        have m6_2 := ho6.num (m := 126) (by omega) (by have h9 : nd 10000 (xp u j) ≤ 127 := (h7 j (by omega)); exact Nat.le_trans h9 (by decide)) m5_2
        have m6_3 := ho6.num (m := 127) (by omega) (by have h9 : nd 10000 (xp u (j + 1)) ≤ 127 := (h7 (j + 1) (by omega)); exact Nat.le_trans h9 (by decide)) m5_3
        have m6_4 := ho6.num (m := 129) (by omega) (by have h9 : nd 10000 0 ≤ 127 := (nd_le (by omega) (by omega)); exact Nat.le_trans h9 (by decide)) m5_4
        have m6_5 := ho6.num (m := 128) (by omega) (by have h9 : nd 10000 (xp u (j + 1) * u) ≤ 127 := (Nat.le_trans (h8 (j + 1) (by omega)).1 (by decide)); exact Nat.le_trans h9 (by decide)) m5_5
        have fr6 := rowF.step fr5 ho6 (by omega)
        refine ZE.aload_n d_Ref_layPower_66 rfl ?_
        refine ZE.bipush (n := 127) d_Ref_layPower_67 rfl ?_
        refine ZE.bipush (n := 126) d_Ref_layPower_69 rfl ?_
        refine ZE.cV [(0, 127), (0, 126)] [] [(2, o), (0, 127), (0, 126), (9, 0)] d_Ref_layPower_71 l_Ref_153 rfl rfl rfl rfl rfl rfl hK.1 ?_
        refine r_copyBig (n := 127) (t0 := 126) hK (hF.uA (by omega)) (by omega) (by omega) (by omega) (fun f7 hc7 ho7 => ?_)
        show ZE (d + 3) M_Ref_layPower (gw G (upA (upA A (o + 2) f6) (o + 2) f7)) 74 [(2, o), (0, c), (0, (i : Int)), (0, (j : Int) + 1)] [] _
        rw [upA_upA]
        rw [upA_at] at ho7
        rw [upA_at] at hc7
        have hn7 := hc7 (xp u (j + 1)) (by have h9 : nd 10000 (xp u (j + 1)) ≤ 127 := (h7 (j + 1) (by omega)); exact Nat.le_trans h9 (by decide)) m6_3
        have m7_1 := ho7.num (m := 2 * c) (by omega) (by have h9 : nd 10000 u ≤ 127 := (h7 1 (by omega)); exact Nat.le_trans h9 (by decide)) m6_1
        have m7_2 := ho7.num (m := 127) (by omega) (by have h9 : nd 10000 (xp u (j + 1)) ≤ 127 := (h7 (j + 1) (by omega)); exact Nat.le_trans h9 (by decide)) m6_3
        have m7_3 := ho7.num (m := 129) (by omega) (by have h9 : nd 10000 0 ≤ 127 := (nd_le (by omega) (by omega)); exact Nat.le_trans h9 (by decide)) m6_4
        have m7_4 := ho7.num (m := 128) (by omega) (by have h9 : nd 10000 (xp u (j + 1) * u) ≤ 127 := (Nat.le_trans (h8 (j + 1) (by omega)).1 (by decide)); exact Nat.le_trans h9 (by decide)) m6_5
        have m7_5 := ho7.num (m := 130) (by omega) (by have h9 : nd 10000 (xp u (j + 2)) ≤ 127 := (h7 (j + 2) (by omega)); exact Nat.le_trans h9 (by decide)) hn6
        have fr7 := rowF.step fr6 ho7 (by omega)
        refine ZE.aload_n d_Ref_layPower_74 rfl ?_
        refine ZE.sipush (n := 130) d_Ref_layPower_75 rfl ?_
        refine ZE.bipush (n := 127) d_Ref_layPower_78 rfl ?_
        refine ZE.cV [(0, 130), (0, 127)] [] [(2, o), (0, 130), (0, 127), (9, 0)] d_Ref_layPower_80 l_Ref_153 rfl rfl rfl rfl rfl rfl hK.1 ?_
        refine r_copyBig (n := 130) (t0 := 127) hK (hF.uA (by omega)) (by omega) (by omega) (by omega) (fun f8 hc8 ho8 => ?_)
        show ZE (d + 3) M_Ref_layPower (gw G (upA (upA A (o + 2) f7) (o + 2) f8)) 83 [(2, o), (0, c), (0, (i : Int)), (0, (j : Int) + 1)] [] _
        rw [upA_upA]
        rw [upA_at] at ho8
        rw [upA_at] at hc8
        have hn8 := hc8 (xp u (j + 2)) (by have h9 : nd 10000 (xp u (j + 2)) ≤ 127 := (h7 (j + 2) (by omega)); exact Nat.le_trans h9 (by decide)) m7_5
        have m8_1 := ho8.num (m := 2 * c) (by omega) (by have h9 : nd 10000 u ≤ 127 := (h7 1 (by omega)); exact Nat.le_trans h9 (by decide)) m7_1
        have m8_2 := ho8.num (m := 129) (by omega) (by have h9 : nd 10000 0 ≤ 127 := (nd_le (by omega) (by omega)); exact Nat.le_trans h9 (by decide)) m7_3
        have m8_3 := ho8.num (m := 128) (by omega) (by have h9 : nd 10000 (xp u (j + 1) * u) ≤ 127 := (Nat.le_trans (h8 (j + 1) (by omega)).1 (by decide)); exact Nat.le_trans h9 (by decide)) m7_4
        have m8_4 := ho8.num (m := 130) (by omega) (by have h9 : nd 10000 (xp u (j + 2)) ≤ 127 := (h7 (j + 2) (by omega)); exact Nat.le_trans h9 (by decide)) m7_5
        have m8_5 := ho8.num (m := 126) (by omega) (by have h9 : nd 10000 (xp u (j + 1)) ≤ 127 := (h7 (j + 1) (by omega)); exact Nat.le_trans h9 (by decide)) hn7
        have fr8 := rowF.step fr7 ho8 (by omega)
        refine ZE.iinc (ls2 := [(2, o), (0, c), (0, (i : Int)), (0, ((j : Int) + 1) + 1)]) d_Ref_layPower_83 rfl rfl ?_
        refine ZE.goto (tgt := 26) d_Ref_layPower_86 rfl ?_
        rw [show ((j : Int) + 1) + 1 = ((j + 1 : Nat) : Int) + 1 by omega]
        refine ih (j + 1) f8 (by omega) (g1.tr fr8) ?_ ?_ ?_ ?_ (by omega)
        · exact m8_1
        · exact m8_5
        · exact hn8
        · exact m8_2
  exact L26 _ 0 f3 (Or.inr rfl) fr3 m3_1 m3_2 m3_3 hn3 (Nat.lt_succ_self _)
