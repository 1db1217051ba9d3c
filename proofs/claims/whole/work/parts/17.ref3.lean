def strp (p n : Nat) : Nat := n / p ^ vp p n
theorem strp_step {p n : Nat} (hp : 2 ≤ p) (hn : 0 < n) (h : n % p = 0) : strp p n = strp p (n / p) := by
  unfold strp
  rw [(vp_step hp hn h).1, Nat.pow_succ, Nat.mul_comm, Nat.div_div_eq_div_mul]
theorem strp_end {p n : Nat} (h : ¬ n % p = 0) : strp p n = n := by
  unfold strp
  rw [vp_end h, Nat.pow_zero, Nat.div_one]
set_option maxRecDepth 20000 in
set_option maxHeartbeats 4000000 in
theorem r_divides {d : Nat} {G : zG} {A : Int → Int → Int} {P : Option zV → zG → Prop} {o : Int} (hK : RK G o) (hF : RF A o) {n : Int} (hn : 0 ≤ n ∧ n ≤ 131) {v y : Nat} (hv : num (A (o + 2)) n v) (h9 : nd 10000 v ≤ 129) (hy : 0 < y) (hy2 : y ≤ 10000) (k : if v % y = 0 then (∀ f, num f n (v / y) → outs (A (o + 2)) f n → P (some (0, 1)) (gw G (upA A (o + 2) f))) else P (some (0, 0)) (gw G A)) : ZE (d + 3) M_Ref_divides (gw G A) 0 [(2, o), (0, n), (0, (y : Int)), (9, 0), (9, 0), (9, 0), (9, 0)] [] P := by
  refine ZE.aload_n d_Ref_divides_0 rfl ?_
  refine ZE.iload_n d_Ref_divides_1 rfl ?_
  refine ZE.iload_n d_Ref_divides_2 rfl ?_
  refine ZE.cV [(0, n), (0, (y : Int))] [] [(2, o), (0, n), (0, (y : Int)), (9, 0), (9, 0), (9, 0)] d_Ref_divides_3 l_Ref_254 rfl rfl rfl rfl rfl rfl hK.1 ?_
  refine r_modOf (v := v) (m := y) hK hF (by omega) hv h9 hy (by omega) ?_
  show ZE (d + 3) M_Ref_divides (gw G A) 6 [(2, o), (0, n), (0, (y : Int)), (9, 0), (9, 0), (9, 0), (9, 0)] [(0, ((v % y : Nat) : Int))] _
  have hmd : v % y < y := Nat.mod_lt _ hy
  refine ZE.if_eq (tgt := 11) d_Ref_divides_6 rfl (by unfold zR; omega) (fun c6 => ?_) (fun c6 => ?_)
  · refine ZE.iconst (n := 0) d_Ref_divides_11 ?_
    refine ZE.istore_n (ls2 := [(2, o), (0, n), (0, (y : Int)), (0, 0), (9, 0), (9, 0), (9, 0)]) d_Ref_divides_12 (Nat.le_of_ble_eq_true rfl) rfl ?_
    refine ZE.aload_n d_Ref_divides_13 rfl ?_
    refine ZE.iload_n d_Ref_divides_14 rfl ?_
    refine ZE.cV [(0, n)] [] [(2, o), (0, n)] d_Ref_divides_15 l_Ref_93 rfl rfl rfl rfl rfl rfl hK.1 ?_
    refine r_partsN (v := v) hK hF (by omega) hv ?_
    show ZE (d + 3) M_Ref_divides (gw G A) 18 [(2, o), (0, n), (0, (y : Int)), (0, 0), (9, 0), (9, 0), (9, 0)] [(0, (nd 10000 v : Int))] _
    refine ZE.istore (ls2 := [(2, o), (0, n), (0, (y : Int)), (0, 0), (0, (nd 10000 v : Int)), (9, 0), (9, 0)]) d_Ref_divides_18 (Nat.le_of_ble_eq_true rfl) rfl ?_
    refine ZE.iload d_Ref_divides_20 rfl ?_
    refine ZE.iconst (n := 1) d_Ref_divides_22 ?_
    refine ZE.isub d_Ref_divides_23 ?_
    refine ZE.istore (ls2 := [(2, o), (0, n), (0, (y : Int)), (0, 0), (0, (nd 10000 v : Int)), (0, (nd 10000 v : Int) - 1), (9, 0)]) d_Ref_divides_24 (Nat.le_of_ble_eq_true rfl) rfl ?_
    have L26 : ∀ (t : Nat) (j : Nat) (f : Int → Int) (hj : j ≤ nd 10000 v) (hr : ∀ p : Nat, j ≤ p → p < nd 10000 v → f (130 * n + 1 + p) = dg 10000 (v / y) p) (hp : ∀ p : Nat, p < j → f (130 * n + 1 + p) = dg 10000 v p) (hp0 : f (130 * n) = nd 10000 v) (ho : outs (A (o + 2)) f n), j < t → ZE (d + 3) M_Ref_divides (gw G (upA A (o + 2) f)) 26 [(2, o), (0, n), (0, (y : Int)), (0, ((v / 10000 ^ j % y : Nat) : Int)), (0, (nd 10000 v : Int)), (0, (j : Int) - 1), (9, 0)] [] P := by
      intro t
      induction t with
      | zero => intro j f hj hr hp hp0 ho hm; exact absurd hm (Nat.not_lt_zero _)
      | succ t ih =>
        intro j f hj hr hp hp0 ho hm
        rcases Nat.eq_zero_or_pos j with hj0 | hj0
        · subst hj0
          refine ZE.iload d_Ref_divides_26 rfl ?_
          refine ZE.if_lt (tgt := 76) d_Ref_divides_28 rfl (by unfold zR; omega) (fun c28 => ?_) (fun c28 => ?_)
          · refine ZE.aload_n d_Ref_divides_76 rfl ?_
            refine ZE.iload_n d_Ref_divides_77 rfl ?_
            refine ZE.iload d_Ref_divides_78 rfl ?_
            refine ZE.cV [(0, n), (0, (nd 10000 v : Int))] [] [(2, o), (0, n), (0, (nd 10000 v : Int)), (9, 0)] d_Ref_divides_80 l_Ref_100 rfl rfl rfl rfl rfl rfl hK.1 ?_
            refine r_trim (m := (nd 10000 v)) (v := (v / y)) hK (hF.uA (by omega)) (by omega) (by omega) (Nat.lt_of_le_of_lt (Nat.div_le_self _ _) (nd_self (by omega) v)) (by rw [upA_at]; exact (fun p h => hr p (Nat.zero_le _) h)) (fun f2 hn2 ho2 => ?_)
            show ZE (d + 3) M_Ref_divides (gw G (upA (upA A (o + 2) f) (o + 2) f2)) 83 [(2, o), (0, n), (0, (y : Int)), (0, ((v / 10000 ^ 0 % y : Nat) : Int)), (0, (nd 10000 v : Int)), (0, ((0 : Nat) : Int) - 1), (9, 0)] [] _
            rw [upA_upA]
            rw [upA_at] at ho2
            refine ZE.iconst (n := 1) d_Ref_divides_83 ?_
            refine ZE.zret d_Ref_divides_84 rfl (by omega) ?_
            rw [if_pos (by omega)] at k
            exact k f2 hn2 (ho.tr ho2)
          · exact absurd c28 (by omega)
        · obtain ⟨i, rfl⟩ : ∃ i, j = i + 1 := ⟨j - 1, by omega⟩
          rw [show ((i + 1 : Nat) : Int) - 1 = (i : Int) by omega]
          refine ZE.iload d_Ref_divides_26 rfl ?_
          refine ZE.if_lt (tgt := 76) d_Ref_divides_28 rfl (by unfold zR; omega) (fun c28 => ?_) (fun c28 => ?_)
          · exact absurd c28 (by omega)
          · refine ZE.iload_n d_Ref_divides_31 rfl ?_
            refine ZE.sipush (n := 10000) d_Ref_divides_32 rfl ?_
            refine ZE.imul d_Ref_divides_35 ?_
            refine ZE.aload_n d_Ref_divides_36 rfl ?_
            refine ZE.iload_n d_Ref_divides_37 rfl ?_
            refine ZE.iload d_Ref_divides_38 rfl ?_
            refine ZE.cV [(0, n), (0, (i : Int))] [(0, ((v / 10000 ^ (i + 1) % y : Nat) : Int) * 10000)] [(2, o), (0, n), (0, (i : Int))] d_Ref_divides_40 l_Ref_96 rfl rfl rfl rfl rfl rfl hK.1 ?_
            refine r_partI (N := nd 10000 v) (i := i) (z := (dg 10000 v i : Int)) hK (hF.uA (by omega)) (by omega) (by rw [upA_at]; exact hp0) (by omega) (by omega) (by rw [upA_at]; exact hp i (by omega)) ?_
            show ZE (d + 3) M_Ref_divides (gw G (upA A (o + 2) f)) 43 [(2, o), (0, n), (0, (y : Int)), (0, ((v / 10000 ^ (i + 1) % y : Nat) : Int)), (0, (nd 10000 v : Int)), (0, (i : Int)), (9, 0)] [(0, (dg 10000 v i : Int)), (0, ((v / 10000 ^ (i + 1) % y : Nat) : Int) * 10000)] _
            refine ZE.iadd d_Ref_divides_43 ?_
            refine ZE.istore (ls2 := [(2, o), (0, n), (0, (y : Int)), (0, ((v / 10000 ^ (i + 1) % y : Nat) : Int)), (0, (nd 10000 v : Int)), (0, (i : Int)), (0, (((v / 10000 ^ (i + 1) % y : Nat) : Int) * 10000) + (dg 10000 v i : Int))]) d_Ref_divides_44 (Nat.le_of_ble_eq_true rfl) rfl ?_
            obtain ⟨T, hT⟩ : ∃ T : Nat, T = v / 10000 ^ (i + 1) % y * 10000 + dg 10000 v i := ⟨_, rfl⟩
            have t1 := dg_lt (b := 10000) (by omega) v i
            have t2 : v / 10000 ^ (i + 1) % y < y := Nat.mod_lt _ hy
            have t3 : v / 10000 ^ (i + 1) % y * 10000 ≤ 9999 * 10000 := Nat.mul_le_mul_right _ (by omega)
            have e0 : ((v / 10000 ^ (i + 1) % y : Nat) : Int) * 10000 + (dg 10000 v i : Int) = (T : Int) := by rw [hT]; simp only [Int.natCast_add, Int.natCast_mul]; rfl
            rw [e0]
            refine ZE.aload_n d_Ref_divides_46 rfl ?_
            refine ZE.getE (v := o + 2) d_Ref_divides_47 f_Ref_13 (tg := 2) rfl hK.1 (hF.uA (by omega)).a2 ?_
            refine ZE.sipush (n := 130) d_Ref_divides_50 rfl ?_
            refine ZE.iload_n d_Ref_divides_53 rfl ?_
            refine ZE.imul d_Ref_divides_54 ?_
            refine ZE.iconst (n := 1) d_Ref_divides_55 ?_
            refine ZE.iadd d_Ref_divides_56 ?_
            refine ZE.iload d_Ref_divides_57 rfl ?_
            refine ZE.iadd d_Ref_divides_59 ?_
            refine ZE.iload d_Ref_divides_60 rfl ?_
            refine ZE.iload_n d_Ref_divides_62 rfl ?_
            refine ZE.idivP d_Ref_divides_63 (by omega) ?_
            refine ZE.iast d_Ref_divides_64 hK.k2 (by have hn0 := hK.n2; show 0 ≤ (((130 * n) + 1) + (i : Int)) ∧ (((130 * n) + 1) + (i : Int)) < gn G (o + 2); omega) ?_
            show ZE (d + 3) M_Ref_divides (gw G (up2 (upA A (o + 2) f) (o + 2) (((130 * n) + 1) + (i : Int)) ((T : Int) / (y : Int)))) 65 [(2, o), (0, n), (0, (y : Int)), (0, ((v / 10000 ^ (i + 1) % y : Nat) : Int)), (0, (nd 10000 v : Int)), (0, (i : Int)), (0, (T : Int))] [] _
            rw [up2_upA]
            refine ZE.iload d_Ref_divides_65 rfl ?_
            refine ZE.iload_n d_Ref_divides_67 rfl ?_
            refine ZE.iremP d_Ref_divides_68 (by omega) ?_
            refine ZE.istore_n (ls2 := [(2, o), (0, n), (0, (y : Int)), (0, (T : Int) % (y : Int)), (0, (nd 10000 v : Int)), (0, (i : Int)), (0, (T : Int))]) d_Ref_divides_69 (Nat.le_of_ble_eq_true rfl) rfl ?_
            refine ZE.iinc (ls2 := [(2, o), (0, n), (0, (y : Int)), (0, (T : Int) % (y : Int)), (0, (nd 10000 v : Int)), (0, (i : Int) + (-1)), (0, (T : Int))]) d_Ref_divides_70 rfl rfl ?_
            refine ZE.goto (tgt := 26) d_Ref_divides_73 rfl ?_
            refine ZE.mask [true, true, true, true, true, true, false] ?_
            show ZE (d + 3) M_Ref_divides (gw G (upA A (o + 2) (up1 f (((130 * n) + 1) + (i : Int)) ((T : Int) / (y : Int))))) 26 [(2, o), (0, n), (0, (y : Int)), (0, (T : Int) % (y : Int)), (0, (nd 10000 v : Int)), (0, (i : Int) + (-1)), (9, 0)] [] _
            obtain ⟨s1, s2⟩ := div_step_d (b := 10000) (by omega) v y i hy
            rw [← hT] at s1 s2
            rw [show ((T : Nat) : Int) % (y : Int) = ((T % y : Nat) : Int) from (Int.natCast_emod _ _).symm, show ((T : Nat) : Int) / (y : Int) = ((T / y : Nat) : Int) from (Int.natCast_ediv _ _).symm, s1, s2]
            rw [show (i : Int) + (-1) = (i : Int) - 1 by omega]
            refine ih i _ (by omega) ?_ ?_ ?_ (ho.up (by omega)) (by omega)
            · intro p q1 q2
              by_cases q3 : p = i
              · subst q3; rw [up1_at]
              · rw [up1_ne _ _ (by omega)]; exact hr p (by omega) q2
            · intro p q1; rw [up1_ne _ _ (by omega)]; exact hp p (by omega)
            · rw [up1_ne _ _ (by omega)]; exact hp0
    have L0 := L26 _ (nd 10000 v) (A (o + 2)) (Nat.le_refl _) (fun p h1 h2 => absurd h1 (by omega)) (fun p h => hv.2 p h) hv.1 outs.rf (Nat.lt_succ_self _)
    rw [upA_self, Nat.div_eq_of_lt (nd_self (by omega) v), Nat.zero_mod] at L0
    exact L0
  · refine ZE.iconst (n := 0) d_Ref_divides_9 ?_
    refine ZE.zret d_Ref_divides_10 rfl (by omega) ?_
    rw [if_neg (by omega)] at k
    exact k
set_option maxRecDepth 20000 in
set_option maxHeartbeats 4000000 in
theorem r_isLess {d : Nat} {G : zG} {A : Int → Int → Int} {P : Option zV → zG → Prop} {o : Int} (hK : RK G o) (hF : RF A o) {n : Int} (hn : 0 ≤ n ∧ n ≤ 131) {m : Int} (hm : 0 ≤ m ∧ m ≤ 131) {v w : Nat} (hv : num (A (o + 2)) n v) (hw : num (A (o + 2)) m w) (h9 : nd 10000 v ≤ 129) (h9w : nd 10000 w ≤ 129) (k : P (some (0, b2i (v < w))) (gw G A)) : ZE (d + 2) M_Ref_isLess (gw G A) 0 [(2, o), (0, n), (0, m), (9, 0)] [] P := by
  refine ZE.aload_n d_Ref_isLess_0 rfl ?_
  refine ZE.iload_n d_Ref_isLess_1 rfl ?_
  refine ZE.cV [(0, n)] [] [(2, o), (0, n)] d_Ref_isLess_2 l_Ref_93 rfl rfl rfl rfl rfl rfl hK.1 ?_
  refine r_partsN (v := v) hK hF (by omega) hv ?_
  show ZE (d + 2) M_Ref_isLess (gw G A) 5 [(2, o), (0, n), (0, m), (9, 0)] [(0, (nd 10000 v : Int))] _
  refine ZE.aload_n d_Ref_isLess_5 rfl ?_
  refine ZE.iload_n d_Ref_isLess_6 rfl ?_
  refine ZE.cV [(0, m)] [(0, (nd 10000 v : Int))] [(2, o), (0, m)] d_Ref_isLess_7 l_Ref_93 rfl rfl rfl rfl rfl rfl hK.1 ?_
  refine r_partsN (v := w) hK hF (by omega) hw ?_
  show ZE (d + 2) M_Ref_isLess (gw G A) 10 [(2, o), (0, n), (0, m), (9, 0)] [(0, (nd 10000 w : Int)), (0, (nd 10000 v : Int))] _
  refine ZE.icmp_eq (tgt := 32) d_Ref_isLess_10 rfl (by unfold zR; omega) (by unfold zR; omega) (fun c10 => ?_) (fun c10 => ?_)
  · refine ZE.aload_n d_Ref_isLess_32 rfl ?_
    refine ZE.iload_n d_Ref_isLess_33 rfl ?_
    refine ZE.cV [(0, n)] [] [(2, o), (0, n)] d_Ref_isLess_34 l_Ref_93 rfl rfl rfl rfl rfl rfl hK.1 ?_
    refine r_partsN (v := v) hK hF (by omega) hv ?_
    show ZE (d + 2) M_Ref_isLess (gw G A) 37 [(2, o), (0, n), (0, m), (9, 0)] [(0, (nd 10000 v : Int))] _
    refine ZE.iconst (n := 1) d_Ref_isLess_37 ?_
    refine ZE.isub d_Ref_isLess_38 ?_
    refine ZE.istore_n (ls2 := [(2, o), (0, n), (0, m), (0, (nd 10000 v : Int) - 1)]) d_Ref_isLess_39 (Nat.le_of_ble_eq_true rfl) rfl ?_
    have L40 : ∀ (t : Nat) (j : Nat) (hj : j ≤ nd 10000 v) (hq : v / 10000 ^ j = w / 10000 ^ j), j < t → ZE (d + 2) M_Ref_isLess (gw G A) 40 [(2, o), (0, n), (0, m), (0, (j : Int) - 1)] [] P := by
      intro t
      induction t with
      | zero => intro j hj hq hm; exact absurd hm (Nat.not_lt_zero _)
      | succ t ih =>
        intro j hj hq hm
        rcases Nat.eq_zero_or_pos j with hj0 | hj0
        · subst hj0
          refine ZE.iload_n d_Ref_isLess_40 rfl ?_
          refine ZE.if_lt (tgt := 86) d_Ref_isLess_41 rfl (by unfold zR; omega) (fun c41 => ?_) (fun c41 => ?_)
          · refine ZE.iconst (n := 0) d_Ref_isLess_86 ?_
            refine ZE.zret d_Ref_isLess_87 rfl (by omega) ?_
            rw [Nat.pow_zero, Nat.div_one, Nat.div_one] at hq
            rw [b2i_f (by omega)] at k
            exact k
          · exact absurd c41 (by omega)
        · obtain ⟨i, rfl⟩ : ∃ i, j = i + 1 := ⟨j - 1, by omega⟩
          rw [show ((i + 1 : Nat) : Int) - 1 = (i : Int) by omega]
          have s1 := div_step 10000 v i
          have s2 := div_step 10000 w i
          have t1 := dg_lt (b := 10000) (by omega) v i
          have t2 := dg_lt (b := 10000) (by omega) w i
          refine ZE.iload_n d_Ref_isLess_40 rfl ?_
          refine ZE.if_lt (tgt := 86) d_Ref_isLess_41 rfl (by unfold zR; omega) (fun c41 => ?_) (fun c41 => ?_)
          · exact absurd c41 (by omega)
          · refine ZE.aload_n d_Ref_isLess_44 rfl ?_
            refine ZE.iload_n d_Ref_isLess_45 rfl ?_
            refine ZE.iload_n d_Ref_isLess_46 rfl ?_
            refine ZE.cV [(0, n), (0, (i : Int))] [] [(2, o), (0, n), (0, (i : Int))] d_Ref_isLess_47 l_Ref_96 rfl rfl rfl rfl rfl rfl hK.1 ?_
            refine r_part (i := i) (v := v) hK hF (by omega) hv (by omega) (by omega) ?_
            show ZE (d + 2) M_Ref_isLess (gw G A) 50 [(2, o), (0, n), (0, m), (0, (i : Int))] [(0, (dg 10000 v i : Int))] _
            refine ZE.aload_n d_Ref_isLess_50 rfl ?_
            refine ZE.iload_n d_Ref_isLess_51 rfl ?_
            refine ZE.iload_n d_Ref_isLess_52 rfl ?_
            refine ZE.cV [(0, m), (0, (i : Int))] [(0, (dg 10000 v i : Int))] [(2, o), (0, m), (0, (i : Int))] d_Ref_isLess_53 l_Ref_96 rfl rfl rfl rfl rfl rfl hK.1 ?_
            refine r_part (i := i) (v := w) hK hF (by omega) hw (by omega) (by omega) ?_
            show ZE (d + 2) M_Ref_isLess (gw G A) 56 [(2, o), (0, n), (0, m), (0, (i : Int))] [(0, (dg 10000 w i : Int)), (0, (dg 10000 v i : Int))] _
            refine ZE.icmp_eq (tgt := 80) d_Ref_isLess_56 rfl (by unfold zR; omega) (by unfold zR; omega) (fun c56 => ?_) (fun c56 => ?_)
            · refine ZE.iinc (ls2 := [(2, o), (0, n), (0, m), (0, (i : Int) + (-1))]) d_Ref_isLess_80 rfl rfl ?_
              refine ZE.goto (tgt := 40) d_Ref_isLess_83 rfl ?_
              rw [show (i : Int) + (-1) = (i : Int) - 1 by omega]
              exact ih i (by omega) (by omega) (by omega)
            · refine ZE.aload_n d_Ref_isLess_59 rfl ?_
              refine ZE.iload_n d_Ref_isLess_60 rfl ?_
              refine ZE.iload_n d_Ref_isLess_61 rfl ?_
              refine ZE.cV [(0, n), (0, (i : Int))] [] [(2, o), (0, n), (0, (i : Int))] d_Ref_isLess_62 l_Ref_96 rfl rfl rfl rfl rfl rfl hK.1 ?_
              refine r_part (i := i) (v := v) hK hF (by omega) hv (by omega) (by omega) ?_
              show ZE (d + 2) M_Ref_isLess (gw G A) 65 [(2, o), (0, n), (0, m), (0, (i : Int))] [(0, (dg 10000 v i : Int))] _
              refine ZE.aload_n d_Ref_isLess_65 rfl ?_
              refine ZE.iload_n d_Ref_isLess_66 rfl ?_
              refine ZE.iload_n d_Ref_isLess_67 rfl ?_
              refine ZE.cV [(0, m), (0, (i : Int))] [(0, (dg 10000 v i : Int))] [(2, o), (0, m), (0, (i : Int))] d_Ref_isLess_68 l_Ref_96 rfl rfl rfl rfl rfl rfl hK.1 ?_
              refine r_part (i := i) (v := w) hK hF (by omega) hw (by omega) (by omega) ?_
              show ZE (d + 2) M_Ref_isLess (gw G A) 71 [(2, o), (0, n), (0, m), (0, (i : Int))] [(0, (dg 10000 w i : Int)), (0, (dg 10000 v i : Int))] _
              refine ZE.icmp_ge (tgt := 78) d_Ref_isLess_71 rfl (by unfold zR; omega) (by unfold zR; omega) (fun c71 => ?_) (fun c71 => ?_)
              · have h3 : w / 10000 ^ i < v / 10000 ^ i := by omega
                have h4 : w < v := by
                  rcases Nat.lt_or_ge w v with q | q
                  · exact q
                  · have := Nat.div_le_div_right (c := 10000 ^ i) q; omega
                refine ZE.iconst (n := 0) d_Ref_isLess_78 ?_
                refine ZE.zret d_Ref_isLess_79 rfl (by omega) ?_
                rw [b2i_f (by omega)] at k
                exact k
              · have h3 : v / 10000 ^ i < w / 10000 ^ i := by omega
                have h4 : v < w := by
                  rcases Nat.lt_or_ge v w with q | q
                  · exact q
                  · have := Nat.div_le_div_right (c := 10000 ^ i) q; omega
                refine ZE.iconst (n := 1) d_Ref_isLess_74 ?_
                refine ZE.goto (tgt := 79) d_Ref_isLess_75 rfl ?_
                refine ZE.zret d_Ref_isLess_79 rfl (by omega) ?_
                rw [b2i_t (by omega)] at k
                exact k
    exact L40 _ (nd 10000 v) (Nat.le_refl _) (by rw [Nat.div_eq_of_lt (nd_self (by omega) v), Nat.div_eq_of_lt ((nd_lt (by omega) _ _).mpr (by omega))]) (Nat.lt_succ_self _)
  · refine ZE.aload_n d_Ref_isLess_13 rfl ?_
    refine ZE.iload_n d_Ref_isLess_14 rfl ?_
    refine ZE.cV [(0, n)] [] [(2, o), (0, n)] d_Ref_isLess_15 l_Ref_93 rfl rfl rfl rfl rfl rfl hK.1 ?_
    refine r_partsN (v := v) hK hF (by omega) hv ?_
    show ZE (d + 2) M_Ref_isLess (gw G A) 18 [(2, o), (0, n), (0, m), (9, 0)] [(0, (nd 10000 v : Int))] _
    refine ZE.aload_n d_Ref_isLess_18 rfl ?_
    refine ZE.iload_n d_Ref_isLess_19 rfl ?_
    refine ZE.cV [(0, m)] [(0, (nd 10000 v : Int))] [(2, o), (0, m)] d_Ref_isLess_20 l_Ref_93 rfl rfl rfl rfl rfl rfl hK.1 ?_
    refine r_partsN (v := w) hK hF (by omega) hw ?_
    show ZE (d + 2) M_Ref_isLess (gw G A) 23 [(2, o), (0, n), (0, m), (9, 0)] [(0, (nd 10000 w : Int)), (0, (nd 10000 v : Int))] _
    refine ZE.icmp_ge (tgt := 30) d_Ref_isLess_23 rfl (by unfold zR; omega) (by unfold zR; omega) (fun c23 => ?_) (fun c23 => ?_)
    · have h4 : ¬ v < w := by
        have := Nat.lt_of_lt_of_le (nd_self (by omega) w) (Nat.le_trans (Nat.pow_le_pow_right (by omega) (show nd 10000 w ≤ nd 10000 v - 1 by omega)) (nd_ge (by omega) (show nd 10000 v - 1 < nd 10000 v by omega)))
        omega
      refine ZE.iconst (n := 0) d_Ref_isLess_30 ?_
      refine ZE.zret d_Ref_isLess_31 rfl (by omega) ?_
      rw [b2i_f (by omega)] at k
      exact k
    · have h4 : v < w := by
        have := Nat.lt_of_lt_of_le (nd_self (by omega) v) (Nat.le_trans (Nat.pow_le_pow_right (by omega) (show nd 10000 v ≤ nd 10000 w - 1 by omega)) (nd_ge (by omega) (show nd 10000 w - 1 < nd 10000 w by omega)))
        omega
      refine ZE.iconst (n := 1) d_Ref_isLess_26 ?_
      refine ZE.goto (tgt := 31) d_Ref_isLess_27 rfl ?_
      refine ZE.zret d_Ref_isLess_31 rfl (by omega) ?_
      rw [b2i_t (by omega)] at k
      exact k
set_option maxRecDepth 20000 in
set_option maxHeartbeats 4000000 in
theorem r_isSame {d : Nat} {G : zG} {A : Int → Int → Int} {P : Option zV → zG → Prop} {o : Int} (hK : RK G o) (hF : RF A o) {n : Int} (hn : 0 ≤ n ∧ n ≤ 131) {m : Int} (hm : 0 ≤ m ∧ m ≤ 131) {v w : Nat} (hv : num (A (o + 2)) n v) (hw : num (A (o + 2)) m w) (h9 : nd 10000 v ≤ 129) (h9w : nd 10000 w ≤ 129) (k : P (some (0, b2i (v = w))) (gw G A)) : ZE (d + 3) M_Ref_isSame (gw G A) 0 [(2, o), (0, n), (0, m)] [] P := by
  refine ZE.aload_n d_Ref_isSame_0 rfl ?_
  refine ZE.iload_n d_Ref_isSame_1 rfl ?_
  refine ZE.iload_n d_Ref_isSame_2 rfl ?_
  refine ZE.cV [(0, n), (0, m)] [] [(2, o), (0, n), (0, m), (9, 0)] d_Ref_isSame_3 l_Ref_373 rfl rfl rfl rfl rfl rfl hK.1 ?_
  refine r_isLess (v := v) (w := w) hK hF (by omega) hm hv hw h9 h9w ?_
  show ZE (d + 3) M_Ref_isSame (gw G A) 6 [(2, o), (0, n), (0, m)] [(0, b2i (v < w))] _
  refine ZE.if_ne (tgt := 22) d_Ref_isSame_6 rfl (zR_b2i _) (fun c6 => ?_) (fun c6 => ?_)
  · replace c6 := b2i_n0.mp c6
    refine ZE.iconst (n := 0) d_Ref_isSame_22 ?_
    refine ZE.zret d_Ref_isSame_23 rfl (by omega) ?_
    rw [b2i_f (by omega)] at k
    exact k
  · replace c6 := b2i_0.mp c6
    refine ZE.aload_n d_Ref_isSame_9 rfl ?_
    refine ZE.iload_n d_Ref_isSame_10 rfl ?_
    refine ZE.iload_n d_Ref_isSame_11 rfl ?_
    refine ZE.cV [(0, m), (0, n)] [] [(2, o), (0, m), (0, n), (9, 0)] d_Ref_isSame_12 l_Ref_373 rfl rfl rfl rfl rfl rfl hK.1 ?_
    refine r_isLess (v := w) (w := v) hK hF hm (by omega) hw hv h9w h9 ?_
    show ZE (d + 3) M_Ref_isSame (gw G A) 15 [(2, o), (0, n), (0, m)] [(0, b2i (w < v))] _
    refine ZE.if_ne (tgt := 22) d_Ref_isSame_15 rfl (zR_b2i _) (fun c15 => ?_) (fun c15 => ?_)
    · replace c15 := b2i_n0.mp c15
      refine ZE.iconst (n := 0) d_Ref_isSame_22 ?_
      refine ZE.zret d_Ref_isSame_23 rfl (by omega) ?_
      rw [b2i_f (by omega)] at k
      exact k
    · replace c15 := b2i_0.mp c15
      refine ZE.iconst (n := 1) d_Ref_isSame_18 ?_
      refine ZE.goto (tgt := 23) d_Ref_isSame_19 rfl ?_
      refine ZE.zret d_Ref_isSame_23 rfl (by omega) ?_
      rw [b2i_t (by omega)] at k
      exact k
set_option maxRecDepth 20000 in
set_option maxHeartbeats 4000000 in
theorem r_bringNumber {d : Nat} {G : zG} {A : Int → Int → Int} {P : Option zV → zG → Prop} {o : Int} (hK : RK G o) (hF : RF A o) {v more : Nat} (hv : num (A (o + 2)) 131 v) (h9 : nd 10000 v ≤ 128) (hmo : more < 2147483648) (k : ∀ f, num f 126 (v + more) → (∀ i : Int, (i < 16380 ∨ 16640 ≤ i) → f i = A (o + 2) i) → P none (gw G (upA A (o + 2) f))) : ZE (d + 3) M_Ref_bringNumber (gw G A) 0 [(2, o), (0, (more : Int))] [] P := by
  refine ZE.aload_n d_Ref_bringNumber_0 rfl ?_
  refine ZE.bipush (n := 127) d_Ref_bringNumber_1 rfl ?_
  refine ZE.iload_n d_Ref_bringNumber_3 rfl ?_
  refine ZE.cV [(0, 127), (0, (more : Int))] [] [(2, o), (0, 127), (0, (more : Int)), (9, 0), (9, 0)] d_Ref_bringNumber_4 l_Ref_69 rfl rfl rfl rfl rfl rfl hK.1 ?_
  refine r_setSmall (n := 127) (v := more) hK hF (by omega) hmo (fun f1 hn1 ho1 => ?_)
  show ZE (d + 3) M_Ref_bringNumber (gw G (upA A (o + 2) f1)) 7 [(2, o), (0, (more : Int))] [] _
  refine ZE.aload_n d_Ref_bringNumber_7 rfl ?_
  refine ZE.sipush (n := 131) d_Ref_bringNumber_8 rfl ?_
  refine ZE.iconst (n := 1) d_Ref_bringNumber_11 ?_
  refine ZE.bipush (n := 127) d_Ref_bringNumber_12 rfl ?_
  refine ZE.bipush (n := 126) d_Ref_bringNumber_14 rfl ?_
  refine ZE.cV [(0, 131), (0, 1), (0, 127), (0, 126)] [] [(2, o), (0, 131), (0, 1), (0, 127), (0, 126), (9, 0), (9, 0), (9, 0), (9, 0)] d_Ref_bringNumber_16 l_Ref_149 rfl rfl rfl rfl rfl rfl hK.1 ?_
  refine r_times (n := 131) (m := 127) (t0 := 126) (v := v) (w := more) (y := 1) hK (hF.uA (by omega)) (by omega) (by omega) (by omega) (by omega) (by omega) (by omega) (by rw [upA_at]; exact ho1.num (by omega) (by omega) hv) (by rw [upA_at]; exact hn1) (by omega) (by have : nd 10000 more ≤ 3 := nd_le (by omega) (by omega); omega) (fun f2 hn2 ho2 => ?_)
  show ZE (d + 3) M_Ref_bringNumber (gw G (upA (upA A (o + 2) f1) (o + 2) f2)) 19 [(2, o), (0, (more : Int))] [] _
  rw [upA_upA]
  rw [upA_at] at ho2
  rw [Nat.mul_one] at hn2
  refine ZE.vret d_Ref_bringNumber_19 rfl ?_
  exact k f2 hn2 (fun i hi => (ho2 i (by omega)).trans (ho1 i (by omega)))
