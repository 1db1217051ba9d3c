theorem pop_or : ∀ k, k < 7 → ∀ a, a < 128 → a < 2 ^ k → pop (a ||| 2 ^ k) = pop a + 1 := by decide +kernel
theorem pop_mbF {n k : Nat} (hk : k < 7) : pop (mbF n (k + 1)) = if n % sev k = 0 then pop (mbF n k) + 1 else pop (mbF n k) := by
  have h1 := mbF_lt n k (by omega)
  have h2 : 2 ^ k ≤ 2 ^ 7 := Nat.pow_le_pow_right (by omega) (by omega)
  have h3 := pop_or k hk (mbF n k) (by omega) h1
  show pop (if n % sev k = 0 then mbF n k ||| 2 ^ k else mbF n k) = _
  split
  · exact h3
  · rfl
theorem pop_mbF_le (n : Nat) : ∀ k, k ≤ 7 → pop (mbF n k) ≤ k := by
  intro k
  induction k with
  | zero => intro _; exact Nat.le_of_eq rfl
  | succ k ih =>
    intro hk
    have h1 := ih (by omega)
    rw [pop_mbF (by omega)]
    split <;> omega
theorem vp_0 {p n : Nat} (hp : 2 ≤ p) (hn : 0 < n) : 0 < vp p n ↔ n % p = 0 := by
  constructor
  · intro h
    by_cases q : n % p = 0
    · exact q
    · rw [vp_end q] at h; omega
  · intro h
    rw [(vp_step hp hn h).1]; omega
theorem sev_2 : ∀ k, k < 7 → 2 ≤ sev k ∧ sev k ≤ 17 := by decide
set_option maxRecDepth 20000 in
set_option maxHeartbeats 4000000 in
theorem c_lowPower {d : Nat} {G : zG} {A : Int → Int → Int} {P : Option zV → zG → Prop}  {c : Int} {cap : Nat} (hK : cK G c cap) {v i1 ap : Nat} (hO : cO A c v i1 ap) {k0 : Nat} (hk : k0 < 7) (k : P (some (0, (vp (sev k0) v : Int))) (gw G A)) : ZE d M_Cou_lowPower (gw G A) 0 [(2, c), (0, (k0 : Int))] [] P := by
  refine ZE.iload_n d_Cou_lowPower_0 rfl ?_
  refine ZE.if_lt (tgt := 22) d_Cou_lowPower_1 rfl (by unfold zR; omega) (fun c1 => ?_) (fun c1 => ?_)
  · exact absurd c1 (by omega)
  · refine ZE.iload_n d_Cou_lowPower_4 rfl ?_
    refine ZE.aload_n d_Cou_lowPower_5 rfl ?_
    refine ZE.getE (v := c + 1) d_Cou_lowPower_6 f_Cou_9 (tg := 2) rfl hK.1 hO.2.2.2.1 ?_
    refine ZE.alenE (v := 7) d_Cou_lowPower_9 (by have hk0 := hK.2.2.1.1; show 1 ≤ gk G (c + 1) ∧ gk G (c + 1) ≤ 6; omega) hK.2.2.1.2 ?_
    refine ZE.icmp_ge (tgt := 22) d_Cou_lowPower_10 rfl (by unfold zR; omega) (by unfold zR; omega) (fun c10 => ?_) (fun c10 => ?_)
    · exact absurd c10 (by omega)
    · refine ZE.aload_n d_Cou_lowPower_13 rfl ?_
      refine ZE.getE (v := c + 1) d_Cou_lowPower_14 f_Cou_9 (tg := 2) rfl hK.1 hO.2.2.2.1 ?_
      refine ZE.iload_n d_Cou_lowPower_17 rfl ?_
      refine ZE.ialdE (v := (vp (sev k0) v : Int)) d_Cou_lowPower_18 hK.2.2.1.1 (by have hn0 := hK.2.2.1.2; show 0 ≤ (k0 : Int) ∧ (k0 : Int) < gn G (c + 1); omega) (hO.2.2.2.2.2.2.1 k0 hk) ?_
      refine ZE.goto (tgt := 23) d_Cou_lowPower_19 rfl ?_
      refine ZE.iret d_Cou_lowPower_23 rfl ?_
      exact k
set_option maxRecDepth 20000 in
set_option maxHeartbeats 4000000 in
theorem c_highPower {d : Nat} {G : zG} {A : Int → Int → Int} {P : Option zV → zG → Prop}  {c : Int} {cap : Nat} (hK : cK G c cap) {v i1 ap : Nat} (hO : cO A c v i1 ap) {k0 : Nat} (hk : k0 < 7) (k : P (some (0, (vp (sev k0) (v + ap) : Int))) (gw G A)) : ZE d M_Cou_highPower (gw G A) 0 [(2, c), (0, (k0 : Int))] [] P := by
  refine ZE.iload_n d_Cou_highPower_0 rfl ?_
  refine ZE.if_lt (tgt := 22) d_Cou_highPower_1 rfl (by unfold zR; omega) (fun c1 => ?_) (fun c1 => ?_)
  · exact absurd c1 (by omega)
  · refine ZE.iload_n d_Cou_highPower_4 rfl ?_
    refine ZE.aload_n d_Cou_highPower_5 rfl ?_
    refine ZE.getE (v := c + 2) d_Cou_highPower_6 f_Cou_15 (tg := 2) rfl hK.1 hO.2.2.2.2.1 ?_
    refine ZE.alenE (v := 7) d_Cou_highPower_9 (by have hk0 := hK.2.2.2.1.1; show 1 ≤ gk G (c + 2) ∧ gk G (c + 2) ≤ 6; omega) hK.2.2.2.1.2 ?_
    refine ZE.icmp_ge (tgt := 22) d_Cou_highPower_10 rfl (by unfold zR; omega) (by unfold zR; omega) (fun c10 => ?_) (fun c10 => ?_)
    · exact absurd c10 (by omega)
    · refine ZE.aload_n d_Cou_highPower_13 rfl ?_
      refine ZE.getE (v := c + 2) d_Cou_highPower_14 f_Cou_15 (tg := 2) rfl hK.1 hO.2.2.2.2.1 ?_
      refine ZE.iload_n d_Cou_highPower_17 rfl ?_
      refine ZE.ialdE (v := (vp (sev k0) (v + ap) : Int)) d_Cou_highPower_18 hK.2.2.2.1.1 (by have hn0 := hK.2.2.2.1.2; show 0 ≤ (k0 : Int) ∧ (k0 : Int) < gn G (c + 2); omega) (hO.2.2.2.2.2.2.2 k0 hk) ?_
      refine ZE.goto (tgt := 23) d_Cou_highPower_19 rfl ?_
      refine ZE.iret d_Cou_highPower_23 rfl ?_
      exact k
set_option maxRecDepth 20000 in
set_option maxHeartbeats 4000000 in
theorem c_weight {d : Nat} {G : zG} {A : Int → Int → Int} {P : Option zV → zG → Prop}  {c : Int} {cap : Nat} (hK : cK G c cap) {v i1 ap : Nat} (hO : cO A c v i1 ap) (hv : 1 ≤ v ∧ v + ap < 2147483648) (k : P (some (0, (wt v : Int) + (wt (v + ap) : Int))) (gw G A)) : ZE (d + 1) M_Cou_weight (gw G A) 0 [(2, c), (9, 0), (9, 0)] [] P := by
  refine ZE.iconst (n := 0) d_Cou_weight_0 ?_
  refine ZE.istore_n (ls2 := [(2, c), (0, 0), (9, 0)]) d_Cou_weight_1 (Nat.le_of_ble_eq_true rfl) rfl ?_
  refine ZE.iconst (n := 0) d_Cou_weight_2 ?_
  refine ZE.istore_n (ls2 := [(2, c), (0, 0), (0, 0)]) d_Cou_weight_3 (Nat.le_of_ble_eq_true rfl) rfl ?_
  have L4 : ∀ (tt0 : Nat) (j : Nat) (hj : j ≤ 7), 7 - j < tt0 → ZE (d + 1) M_Cou_weight (gw G A) 4 [(2, c), (0, ((wtF v j + wtF (v + ap) j : Nat) : Int)), (0, (j : Int))] [] P := by
    intro tt0
    induction tt0 with
    | zero => intro j hj hm; exact absurd hm (Nat.not_lt_zero _)
    | succ tt0 ih =>
      intro j hj hm
      have hw1 := wtF_le v (by omega) (by omega) j (by omega)
      have hw2 := wtF_le (v + ap) (by omega) (by omega) j (by omega)
      refine ZE.iload_n d_Cou_weight_4 rfl ?_
      refine ZE.bipush (n := 7) d_Cou_weight_5 rfl ?_
      refine ZE.icmp_ge (tgt := 30) d_Cou_weight_7 rfl (by unfold zR; omega) (by unfold zR; omega) (fun c7 => ?_) (fun c7 => ?_)
      · refine ZE.iload_n d_Cou_weight_30 rfl ?_
        refine ZE.iret d_Cou_weight_31 rfl ?_
        have hj7 : j = 7 := by omega
        subst hj7
        rw [show (wt v : Int) + (wt (v + ap) : Int) = ((wtF v 7 + wtF (v + ap) 7 : Nat) : Int) from (Int.natCast_add _ _).symm] at k
        exact k
      · refine ZE.iload_n d_Cou_weight_10 rfl ?_
        refine ZE.aload_n d_Cou_weight_11 rfl ?_
        refine ZE.iload_n d_Cou_weight_12 rfl ?_
        refine ZE.cV [(0, (j : Int))] [(0, ((wtF v j + wtF (v + ap) j : Nat) : Int))] [(2, c), (0, (j : Int))] d_Cou_weight_13 l_Cou_42 rfl rfl rfl rfl rfl rfl hK.1 ?_
        refine c_lowPower hK hO (k0 := j) (by omega) ?_
        show ZE (d + 1) M_Cou_weight (gw G A) 16 [(2, c), (0, ((wtF v j + wtF (v + ap) j : Nat) : Int)), (0, (j : Int))] [(0, (vp (sev j) v : Int)), (0, ((wtF v j + wtF (v + ap) j : Nat) : Int))] _
        refine ZE.aload_n d_Cou_weight_16 rfl ?_
        refine ZE.iload_n d_Cou_weight_17 rfl ?_
        refine ZE.cV [(0, (j : Int))] [(0, (vp (sev j) v : Int)), (0, ((wtF v j + wtF (v + ap) j : Nat) : Int))] [(2, c), (0, (j : Int))] d_Cou_weight_18 l_Cou_46 rfl rfl rfl rfl rfl rfl hK.1 ?_
        refine c_highPower hK hO (k0 := j) (by omega) ?_
        show ZE (d + 1) M_Cou_weight (gw G A) 21 [(2, c), (0, ((wtF v j + wtF (v + ap) j : Nat) : Int)), (0, (j : Int))] [(0, (vp (sev j) (v + ap) : Int)), (0, (vp (sev j) v : Int)), (0, ((wtF v j + wtF (v + ap) j : Nat) : Int))] _
        refine ZE.iadd d_Cou_weight_21 ?_
        refine ZE.iadd d_Cou_weight_22 ?_
        rw [show (((wtF v j + wtF (v + ap) j : Nat) : Int) + ((vp (sev j) v : Int) + (vp (sev j) (v + ap) : Int)) : Int) = ((wtF v (j + 1) + wtF (v + ap) (j + 1) : Nat) : Int) from (by show _ = ((wtF v j + vp (sev j) v + (wtF (v + ap) j + vp (sev j) (v + ap)) : Nat) : Int); omega)]
        refine ZE.istore_n (ls2 := [(2, c), (0, ((wtF v (j + 1) + wtF (v + ap) (j + 1) : Nat) : Int)), (0, (j : Int))]) d_Cou_weight_23 (Nat.le_of_ble_eq_true rfl) rfl ?_
        refine ZE.iinc (ls2 := [(2, c), (0, ((wtF v (j + 1) + wtF (v + ap) (j + 1) : Nat) : Int)), (0, (j : Int) + 1)]) d_Cou_weight_24 rfl rfl ?_
        refine ZE.goto (tgt := 4) d_Cou_weight_27 rfl ?_
        rw [show (j : Int) + 1 = ((j + 1 : Nat) : Int) by omega]
        exact ih (j + 1) (by omega) (by omega)
  exact L4 _ 0 (by omega) (Nat.lt_succ_self _)
set_option maxRecDepth 20000 in
set_option maxHeartbeats 4000000 in
theorem c_more {d : Nat} {G : zG} {A : Int → Int → Int} {P : Option zV → zG → Prop}  {c : Int} {cap : Nat} (hK : cK G c cap) {v i1 ap : Nat} (hO : cO A c v i1 ap) (hv : 1 ≤ v ∧ v + ap < 2147483648) (k : P (some (0, (pop (mb v) : Int) - (pop (mb (v + ap)) : Int))) (gw G A)) : ZE (d + 1) M_Cou_primesMoreInLow (gw G A) 0 [(2, c), (9, 0), (9, 0)] [] P := by
  refine ZE.iconst (n := 0) d_Cou_primesMoreInLow_0 ?_
  refine ZE.istore_n (ls2 := [(2, c), (0, 0), (9, 0)]) d_Cou_primesMoreInLow_1 (Nat.le_of_ble_eq_true rfl) rfl ?_
  refine ZE.iconst (n := 0) d_Cou_primesMoreInLow_2 ?_
  refine ZE.istore_n (ls2 := [(2, c), (0, 0), (0, 0)]) d_Cou_primesMoreInLow_3 (Nat.le_of_ble_eq_true rfl) rfl ?_
  have L4 : ∀ (tt0 : Nat) (j : Nat) (hj : j ≤ 7), 7 - j < tt0 → ZE (d + 1) M_Cou_primesMoreInLow (gw G A) 4 [(2, c), (0, (pop (mbF v j) : Int) - (pop (mbF (v + ap) j) : Int)), (0, (j : Int))] [] P := by
    intro tt0
    induction tt0 with
    | zero => intro j hj hm; exact absurd hm (Nat.not_lt_zero _)
    | succ tt0 ih =>
      intro j hj hm
      have hs2 : 2 ≤ sev j ∨ j = 7 := by
        rcases Nat.lt_or_ge j 7 with q | q
        · exact Or.inl (sev_2 j q).1
        · exact Or.inr (by omega)
      have hl1 := pop_mbF_le v j (by omega)
      have hl2 := pop_mbF_le (v + ap) j (by omega)
      refine ZE.iload_n d_Cou_primesMoreInLow_4 rfl ?_
      refine ZE.bipush (n := 7) d_Cou_primesMoreInLow_5 rfl ?_
      refine ZE.icmp_ge (tgt := 46) d_Cou_primesMoreInLow_7 rfl (by unfold zR; omega) (by unfold zR; omega) (fun c7 => ?_) (fun c7 => ?_)
      · refine ZE.iload_n d_Cou_primesMoreInLow_46 rfl ?_
        refine ZE.iret d_Cou_primesMoreInLow_47 rfl ?_
        have hj7 : j = 7 := by omega
        subst hj7
        exact k
      · have hw1 := wtF_le v (by omega) (by omega) (j + 1) (by omega)
        have hw2 := wtF_le (v + ap) (by omega) (by omega) (j + 1) (by omega)
        have hw3 : wtF v (j + 1) = wtF v j + vp (sev j) v := rfl
        have hw4 : wtF (v + ap) (j + 1) = wtF (v + ap) j + vp (sev j) (v + ap) := rfl
        have hd1 := pop_mbF (n := v) (k := j) (by omega)
        have hd2 := pop_mbF (n := v + ap) (k := j) (by omega)
        have hv1 := vp_0 (p := sev j) (n := v) (by omega) (by omega)
        have hv2 := vp_0 (p := sev j) (n := v + ap) (by omega) (by omega)
        refine ZE.iload_n d_Cou_primesMoreInLow_10 rfl ?_
        refine ZE.aload_n d_Cou_primesMoreInLow_11 rfl ?_
        refine ZE.iload_n d_Cou_primesMoreInLow_12 rfl ?_
        refine ZE.cV [(0, (j : Int))] [(0, (pop (mbF v j) : Int) - (pop (mbF (v + ap) j) : Int))] [(2, c), (0, (j : Int))] d_Cou_primesMoreInLow_13 l_Cou_42 rfl rfl rfl rfl rfl rfl hK.1 ?_
        refine c_lowPower hK hO (k0 := j) (by omega) ?_
        show ZE (d + 1) M_Cou_primesMoreInLow (gw G A) 16 [(2, c), (0, (pop (mbF v j) : Int) - (pop (mbF (v + ap) j) : Int)), (0, (j : Int))] [(0, (vp (sev j) v : Int)), (0, (pop (mbF v j) : Int) - (pop (mbF (v + ap) j) : Int))] _
        refine ZE.if_le (tgt := 23) d_Cou_primesMoreInLow_16 rfl (by unfold zR; omega) (fun c16 => ?_) (fun c16 => ?_)
        · refine ZE.iconst (n := 0) d_Cou_primesMoreInLow_23 ?_
          refine ZE.aload_n d_Cou_primesMoreInLow_24 rfl ?_
          refine ZE.iload_n d_Cou_primesMoreInLow_25 rfl ?_
          refine ZE.cV [(0, (j : Int))] [(0, 0), (0, (pop (mbF v j) : Int) - (pop (mbF (v + ap) j) : Int))] [(2, c), (0, (j : Int))] d_Cou_primesMoreInLow_26 l_Cou_46 rfl rfl rfl rfl rfl rfl hK.1 ?_
          refine c_highPower hK hO (k0 := j) (by omega) ?_
          show ZE (d + 1) M_Cou_primesMoreInLow (gw G A) 29 [(2, c), (0, (pop (mbF v j) : Int) - (pop (mbF (v + ap) j) : Int)), (0, (j : Int))] [(0, (vp (sev j) (v + ap) : Int)), (0, 0), (0, (pop (mbF v j) : Int) - (pop (mbF (v + ap) j) : Int))] _
          refine ZE.if_le (tgt := 36) d_Cou_primesMoreInLow_29 rfl (by unfold zR; omega) (fun c29 => ?_) (fun c29 => ?_)
          · refine ZE.iconst (n := 0) d_Cou_primesMoreInLow_36 ?_
            refine ZE.isub d_Cou_primesMoreInLow_37 ?_
            refine ZE.iadd d_Cou_primesMoreInLow_38 ?_
            rw [show (((pop (mbF v j) : Int) - (pop (mbF (v + ap) j) : Int)) + (0 - 0) : Int) = (pop (mbF v (j + 1)) : Int) - (pop (mbF (v + ap) (j + 1)) : Int) from (by rw [if_neg (fun q => absurd (hv1.mpr q) (by omega))] at hd1; rw [if_neg (fun q => absurd (hv2.mpr q) (by omega))] at hd2; omega)]
            refine ZE.istore_n (ls2 := [(2, c), (0, (pop (mbF v (j + 1)) : Int) - (pop (mbF (v + ap) (j + 1)) : Int)), (0, (j : Int))]) d_Cou_primesMoreInLow_39 (Nat.le_of_ble_eq_true rfl) rfl ?_
            refine ZE.iinc (ls2 := [(2, c), (0, (pop (mbF v (j + 1)) : Int) - (pop (mbF (v + ap) (j + 1)) : Int)), (0, (j : Int) + 1)]) d_Cou_primesMoreInLow_40 rfl rfl ?_
            refine ZE.goto (tgt := 4) d_Cou_primesMoreInLow_43 rfl ?_
            rw [show (j : Int) + 1 = ((j + 1 : Nat) : Int) by omega]
            exact ih (j + 1) (by omega) (by omega)
          · refine ZE.iconst (n := 1) d_Cou_primesMoreInLow_32 ?_
            refine ZE.goto (tgt := 37) d_Cou_primesMoreInLow_33 rfl ?_
            refine ZE.isub d_Cou_primesMoreInLow_37 ?_
            refine ZE.iadd d_Cou_primesMoreInLow_38 ?_
            rw [show (((pop (mbF v j) : Int) - (pop (mbF (v + ap) j) : Int)) + (0 - 1) : Int) = (pop (mbF v (j + 1)) : Int) - (pop (mbF (v + ap) (j + 1)) : Int) from (by rw [if_neg (fun q => absurd (hv1.mpr q) (by omega))] at hd1; rw [if_pos (hv2.mp (by omega))] at hd2; omega)]
            refine ZE.istore_n (ls2 := [(2, c), (0, (pop (mbF v (j + 1)) : Int) - (pop (mbF (v + ap) (j + 1)) : Int)), (0, (j : Int))]) d_Cou_primesMoreInLow_39 (Nat.le_of_ble_eq_true rfl) rfl ?_
            refine ZE.iinc (ls2 := [(2, c), (0, (pop (mbF v (j + 1)) : Int) - (pop (mbF (v + ap) (j + 1)) : Int)), (0, (j : Int) + 1)]) d_Cou_primesMoreInLow_40 rfl rfl ?_
            refine ZE.goto (tgt := 4) d_Cou_primesMoreInLow_43 rfl ?_
            rw [show (j : Int) + 1 = ((j + 1 : Nat) : Int) by omega]
            exact ih (j + 1) (by omega) (by omega)
        · refine ZE.iconst (n := 1) d_Cou_primesMoreInLow_19 ?_
          refine ZE.goto (tgt := 24) d_Cou_primesMoreInLow_20 rfl ?_
          refine ZE.aload_n d_Cou_primesMoreInLow_24 rfl ?_
          refine ZE.iload_n d_Cou_primesMoreInLow_25 rfl ?_
          refine ZE.cV [(0, (j : Int))] [(0, 1), (0, (pop (mbF v j) : Int) - (pop (mbF (v + ap) j) : Int))] [(2, c), (0, (j : Int))] d_Cou_primesMoreInLow_26 l_Cou_46 rfl rfl rfl rfl rfl rfl hK.1 ?_
          refine c_highPower hK hO (k0 := j) (by omega) ?_
          show ZE (d + 1) M_Cou_primesMoreInLow (gw G A) 29 [(2, c), (0, (pop (mbF v j) : Int) - (pop (mbF (v + ap) j) : Int)), (0, (j : Int))] [(0, (vp (sev j) (v + ap) : Int)), (0, 1), (0, (pop (mbF v j) : Int) - (pop (mbF (v + ap) j) : Int))] _
          refine ZE.if_le (tgt := 36) d_Cou_primesMoreInLow_29 rfl (by unfold zR; omega) (fun c29 => ?_) (fun c29 => ?_)
          · refine ZE.iconst (n := 0) d_Cou_primesMoreInLow_36 ?_
            refine ZE.isub d_Cou_primesMoreInLow_37 ?_
            refine ZE.iadd d_Cou_primesMoreInLow_38 ?_
            rw [show (((pop (mbF v j) : Int) - (pop (mbF (v + ap) j) : Int)) + (1 - 0) : Int) = (pop (mbF v (j + 1)) : Int) - (pop (mbF (v + ap) (j + 1)) : Int) from (by rw [if_pos (hv1.mp (by omega))] at hd1; rw [if_neg (fun q => absurd (hv2.mpr q) (by omega))] at hd2; omega)]
            refine ZE.istore_n (ls2 := [(2, c), (0, (pop (mbF v (j + 1)) : Int) - (pop (mbF (v + ap) (j + 1)) : Int)), (0, (j : Int))]) d_Cou_primesMoreInLow_39 (Nat.le_of_ble_eq_true rfl) rfl ?_
            refine ZE.iinc (ls2 := [(2, c), (0, (pop (mbF v (j + 1)) : Int) - (pop (mbF (v + ap) (j + 1)) : Int)), (0, (j : Int) + 1)]) d_Cou_primesMoreInLow_40 rfl rfl ?_
            refine ZE.goto (tgt := 4) d_Cou_primesMoreInLow_43 rfl ?_
            rw [show (j : Int) + 1 = ((j + 1 : Nat) : Int) by omega]
            exact ih (j + 1) (by omega) (by omega)
          · refine ZE.iconst (n := 1) d_Cou_primesMoreInLow_32 ?_
            refine ZE.goto (tgt := 37) d_Cou_primesMoreInLow_33 rfl ?_
            refine ZE.isub d_Cou_primesMoreInLow_37 ?_
            refine ZE.iadd d_Cou_primesMoreInLow_38 ?_
            rw [show (((pop (mbF v j) : Int) - (pop (mbF (v + ap) j) : Int)) + (1 - 1) : Int) = (pop (mbF v (j + 1)) : Int) - (pop (mbF (v + ap) (j + 1)) : Int) from (by rw [if_pos (hv1.mp (by omega))] at hd1; rw [if_pos (hv2.mp (by omega))] at hd2; omega)]
            refine ZE.istore_n (ls2 := [(2, c), (0, (pop (mbF v (j + 1)) : Int) - (pop (mbF (v + ap) (j + 1)) : Int)), (0, (j : Int))]) d_Cou_primesMoreInLow_39 (Nat.le_of_ble_eq_true rfl) rfl ?_
            refine ZE.iinc (ls2 := [(2, c), (0, (pop (mbF v (j + 1)) : Int) - (pop (mbF (v + ap) (j + 1)) : Int)), (0, (j : Int) + 1)]) d_Cou_primesMoreInLow_40 rfl rfl ?_
            refine ZE.goto (tgt := 4) d_Cou_primesMoreInLow_43 rfl ?_
            rw [show (j : Int) + 1 = ((j + 1 : Nat) : Int) by omega]
            exact ih (j + 1) (by omega) (by omega)
  exact L4 _ 0 (by omega) (Nat.lt_succ_self _)
