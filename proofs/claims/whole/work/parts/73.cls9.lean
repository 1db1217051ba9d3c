def lwF (S k : Nat) : Nat → Nat
  | 0 => 0
  | i + 1 => if pop (lwF S k i) < k then lwF S k i ||| (S &&& 2 ^ i) else lwF S k i
theorem lw_tab : ∀ S, S < 128 → ∀ k, k < 8 → lwF S k 7 = (gwF S k 7).1 ∨ 5 < k := by decide +kernel
theorem lw_R : ∀ S, S < 128 → ∀ k, k < 8 → ∀ i, i < 8 → lwF S k i < 128 := by decide +kernel
theorem lw_stop {S k i : Nat} (h : ¬ pop (lwF S k i) < k) : ∀ n, i ≤ n → lwF S k n = lwF S k i := by
  intro n
  induction n with
  | zero => intro q; have : i = 0 := by omega
            subst this; rfl
  | succ n ih =>
    intro q
    by_cases e : i = n + 1
    · subst e; rfl
    · have e1 := ih (by omega)
      have e2 : lwF S k (n + 1) = lwF S k n := by show (if pop (lwF S k n) < k then _ else _) = _; rw [if_neg (by rw [e1]; exact h)]
      rw [e2, e1]
theorem zl_toInt {n : Nat} (h : n < 2 ^ 63) : (Int64.ofNat n).toInt = n := by
  rw [← Int64.ofInt_eq_ofNat]
  exact Int64.toInt_ofInt_of_le (by omega) (by omega)
theorem zlor_nat {a b : Nat} (ha : a < 2 ^ 62) (hb : b < 2 ^ 62) : zlor (a : Int) (b : Int) = ((a ||| b : Nat) : Int) := by
  unfold zlor
  rw [Int64.ofInt_eq_ofNat, Int64.ofInt_eq_ofNat]
  have e : Int64.ofNat a ||| Int64.ofNat b = Int64.ofNat (a ||| b) := by
    apply Int64.toBitVec.inj
    simp [Int64.toBitVec_or]
  rw [e, zl_toInt (by have := Nat.or_lt_two_pow (n := 62) ha hb; omega)]
theorem zlshr_tab : ∀ k, k < 31 → zlshr ((2 ^ k : Nat) : Int) 1 = ((2 ^ k / 2 : Nat) : Int) := by decide +kernel
theorem or_add {r k : Nat} (h : r % 2 ^ (k + 1) = 0) : r ||| 2 ^ k = r + 2 ^ k := by
  obtain ⟨q, hq⟩ : ∃ q, r = 2 ^ (k + 1) * q := ⟨r / 2 ^ (k + 1), by have := Nat.mod_add_div r (2 ^ (k + 1)); omega⟩
  rw [hq]
  exact (Nat.two_pow_add_eq_or_of_lt (i := k + 1) (b := 2 ^ k) (Nat.pow_lt_pow_right (by omega) (by omega)) q).symm
set_option maxRecDepth 20000 in
set_option maxHeartbeats 4000000 in
theorem p_lowest {d : Nat} {G : zG} {A : Int → Int → Int} {P : Option zV → zG → Prop} {S : Nat} (hS7 : S < 128) {kn : Nat} (hkn : kn ≤ 5) (k : P (some (0, ((gwF S kn 7).1 : Int))) (gw G A)) : ZE (d + 1) M_Pri_lowest (gw G A) 0 [(0, (S : Int)), (0, (kn : Int)), (9, 0), (9, 0)] [] P := by
  refine ZE.iconst (n := 0) d_Pri_lowest_0 ?_
  refine ZE.istore_n (ls2 := [(0, (S : Int)), (0, (kn : Int)), (0, 0), (9, 0)]) d_Pri_lowest_1 (Nat.le_of_ble_eq_true rfl) rfl ?_
  refine ZE.iconst (n := 0) d_Pri_lowest_2 ?_
  refine ZE.istore_n (ls2 := [(0, (S : Int)), (0, (kn : Int)), (0, 0), (0, 0)]) d_Pri_lowest_3 (Nat.le_of_ble_eq_true rfl) rfl ?_
  have L4 : ∀ (t : Nat) (j : Nat) (hj : j ≤ 7), 7 - j < t → ZE (d + 1) M_Pri_lowest (gw G A) 4 [(0, (S : Int)), (0, (kn : Int)), (0, (lwF S kn j : Int)), (0, (j : Int))] [] P := by
    intro t
    induction t with
    | zero => intro j hj hm; exact absurd hm (Nat.not_lt_zero _)
    | succ t ih =>
      intro j hj hm
      have hlw := lw_R S hS7 kn (by omega) j (by omega)
      have hpp := pop_le (lwF S kn j) (by omega)
      have hp6 : 2 ^ j ≤ 2 ^ 7 := Nat.pow_le_pow_right (by omega) (by omega)
      refine ZE.iload_n d_Pri_lowest_4 rfl ?_
      refine ZE.bipush (n := 7) d_Pri_lowest_5 rfl ?_
      refine ZE.icmp_ge (tgt := 32) d_Pri_lowest_7 rfl (by unfold zR; omega) (by unfold zR; omega) (fun c7 => ?_) (fun c7 => ?_)
      · have hfin : lwF S kn 7 = lwF S kn j := by rw [show j = 7 by omega]
        refine ZE.iload_n d_Pri_lowest_32 rfl ?_
        refine ZE.iret d_Pri_lowest_33 rfl ?_
        have ht := (lw_tab S hS7 kn (by omega)).resolve_right (by omega)
        rw [← hfin, ht]
        exact k
      · refine ZE.iload_n d_Pri_lowest_10 rfl ?_
        refine ZE.cS [(0, (lwF S kn j : Int))] [] [(0, (lwF S kn j : Int))] d_Pri_lowest_11 l_Pri_34 rfl rfl rfl rfl rfl rfl ?_
        refine j_bitCount (n := lwF S kn j) (by omega) ?_
        show ZE (d + 1) M_Pri_lowest (gw G A) 14 [(0, (S : Int)), (0, (kn : Int)), (0, (lwF S kn j : Int)), (0, (j : Int))] [(0, (pop (lwF S kn j) : Int))] _
        refine ZE.iload_n d_Pri_lowest_14 rfl ?_
        refine ZE.icmp_ge (tgt := 32) d_Pri_lowest_15 rfl (by unfold zR; omega) (by unfold zR; omega) (fun c15 => ?_) (fun c15 => ?_)
        · have hfin : lwF S kn 7 = lwF S kn j := lw_stop (by omega) 7 (by omega)
          refine ZE.iload_n d_Pri_lowest_32 rfl ?_
          refine ZE.iret d_Pri_lowest_33 rfl ?_
          have ht := (lw_tab S hS7 kn (by omega)).resolve_right (by omega)
          rw [← hfin, ht]
          exact k
        · refine ZE.iload_n d_Pri_lowest_18 rfl ?_
          refine ZE.iload_n d_Pri_lowest_19 rfl ?_
          refine ZE.iconst (n := 1) d_Pri_lowest_20 ?_
          refine ZE.iload_n d_Pri_lowest_21 rfl ?_
          refine ZE.ishl d_Pri_lowest_22 ?_
          rw [show (zshl 1 (j : Int) : Int) = ((2 ^ j : Nat) : Int) from (by have := zshl_nat (a := 1) (k := j) (by omega) (by omega); rw [Nat.one_mul] at this; exact this)]
          refine ZE.iand d_Pri_lowest_23 ?_
          rw [show (zand (S : Int) ((2 ^ j : Nat) : Int) : Int) = ((S &&& 2 ^ j : Nat) : Int) from (zand_nat (by omega) (by omega))]
          refine ZE.ior d_Pri_lowest_24 ?_
          rw [show (zor (lwF S kn j : Int) ((S &&& 2 ^ j : Nat) : Int) : Int) = ((lwF S kn j ||| (S &&& 2 ^ j) : Nat) : Int) from (zor_nat (by omega) (by have := Nat.and_le_left (n := S) (m := 2 ^ j); omega))]
          refine ZE.istore_n (ls2 := [(0, (S : Int)), (0, (kn : Int)), (0, ((lwF S kn j ||| (S &&& 2 ^ j) : Nat) : Int)), (0, (j : Int))]) d_Pri_lowest_25 (Nat.le_of_ble_eq_true rfl) rfl ?_
          refine ZE.iinc (ls2 := [(0, (S : Int)), (0, (kn : Int)), (0, ((lwF S kn j ||| (S &&& 2 ^ j) : Nat) : Int)), (0, (j : Int) + 1)]) d_Pri_lowest_26 rfl rfl ?_
          refine ZE.goto (tgt := 4) d_Pri_lowest_29 rfl ?_
          rw [show (j : Int) + 1 = ((j + 1 : Nat) : Int) by omega]
          have e1 : lwF S kn (j + 1) = lwF S kn j ||| (S &&& 2 ^ j) := if_pos (by omega)
          rw [← e1]
          exact ih (j + 1) (by omega) (by omega)
  exact L4 _ 0 (by omega) (Nat.lt_succ_self _)
set_option maxRecDepth 20000 in
set_option maxHeartbeats 4000000 in
theorem p_rootOf {d : Nat} {G : zG} {A : Int → Int → Int} {P : Option zV → zG → Prop} {n : Nat} (hn : n < 4611686018427387904) (k : ∀ r : Nat, r * r ≤ n → n < (r + 1) * (r + 1) → r < 2147483648 → P (some (1, (r : Int))) (gw G A)) : ZE d M_Pri_rootOf (gw G A) 0 [(1, (n : Int)), (9, 0), (9, 0), (9, 0), (9, 0), (9, 0)] [] P := by
  refine ZE.lconst d_Pri_rootOf_0 ?_
  show ZE d M_Pri_rootOf (gw G A) 1 [(1, (n : Int)), (9, 0), (9, 0), (9, 0), (9, 0), (9, 0)] [(1, 0)] _
  refine ZE.lstore_n (ls2 := [(1, (n : Int)), (9, 0), (1, 0), (9, 0), (9, 0), (9, 0)]) d_Pri_rootOf_1 (Nat.le_of_ble_eq_true rfl) rfl ?_
  refine ZE.ldc2 (v := 1073741824) d_Pri_rootOf_2 k_Pri_39 ?_
  refine ZE.lstore (ls2 := [(1, (n : Int)), (9, 0), (1, 0), (9, 0), (1, 1073741824), (9, 0)]) d_Pri_rootOf_5 (Nat.le_of_ble_eq_true rfl) rfl ?_
  have L7 : ∀ (t : Nat) (k0 : Nat) (r : Nat) (bt : Nat) (hbt : bt = 2 ^ k0 / 2) (hk : k0 ≤ 31) (hrm : r % 2 ^ k0 = 0) (hrb : r + 2 ^ k0 ≤ 2147483648) (hlo : r * r ≤ n) (hup : n < (r + 2 ^ k0) * (r + 2 ^ k0)), k0 < t → ZE d M_Pri_rootOf (gw G A) 7 [(1, (n : Int)), (9, 0), (1, (r : Int)), (9, 0), (1, (bt : Int)), (9, 0)] [] P := by
    intro t
    induction t with
    | zero => intro k0 r bt hbt hk hrm hrb hlo hup hm; exact absurd hm (Nat.not_lt_zero _)
    | succ t ih =>
      intro k0 r bt hbt hk hrm hrb hlo hup hm
      rcases Nat.eq_zero_or_pos k0 with hk0 | hk0
      · subst hk0
        have hb0 : bt = 0 := hbt
        refine ZE.lload d_Pri_rootOf_7 rfl ?_
        refine ZE.lconst d_Pri_rootOf_9 ?_
        show ZE d M_Pri_rootOf (gw G A) 10 [(1, (n : Int)), (9, 0), (1, (r : Int)), (9, 0), (1, (bt : Int)), (9, 0)] [(1, 0), (1, (bt : Int))] _
        refine ZE.lcmp d_Pri_rootOf_10 (by unfold zR64; omega) (by unfold zR64; omega) ?_
        refine ZE.if_le (tgt := 42) d_Pri_rootOf_11 rfl (zR_zcmp _ _) (fun c11 => ?_) (fun c11 => ?_)
        · replace c11 := zcmp_le.mp c11
          refine ZE.lload_n d_Pri_rootOf_42 rfl ?_
          refine ZE.lret d_Pri_rootOf_43 rfl ?_
          rw [Nat.pow_zero] at hup hrb
          exact k r hlo hup (by omega)
        · exact absurd (zcmp_le.mpr (by omega)) c11
      · obtain ⟨k1, rfl⟩ : ∃ k1, k0 = k1 + 1 := ⟨k0 - 1, by omega⟩
        have hbt2 : bt = 2 ^ k1 := by rw [hbt, Nat.pow_succ, Nat.mul_div_cancel _ (by omega)]
        have hbb : 2 ^ (k1 + 1) = bt + bt := by rw [hbt2, Nat.pow_succ]; omega
        have hp30 : bt ≤ 1073741824 := by rw [hbt2]; exact Nat.pow_le_pow_right (n := 2) (by omega) (show k1 ≤ 30 by omega)
        have hp1 : 0 < bt := by rw [hbt2]; exact Nat.two_pow_pos _
        have hor : r ||| bt = r + bt := by rw [hbt2]; exact or_add hrm
        have hsh : zlshr (bt : Int) 1 = ((2 ^ k1 / 2 : Nat) : Int) := by rw [hbt2]; exact zlshr_tab k1 (by omega)
        have hm2 : r % 2 ^ k1 = 0 := Nat.mod_eq_zero_of_dvd (Nat.dvd_trans ⟨2, Nat.pow_succ 2 k1⟩ (Nat.dvd_of_mod_eq_zero hrm))
        have hm1 : (r + 2 ^ k1) % 2 ^ k1 = 0 := by rw [Nat.add_mod_right]; exact hm2
        rw [hbb] at hrb hup
        have hsq : (r ||| bt) * (r ||| bt) ≤ 2147483648 * 2147483648 := Nat.mul_le_mul (by omega) (by omega)
        refine ZE.lload d_Pri_rootOf_7 rfl ?_
        refine ZE.lconst d_Pri_rootOf_9 ?_
        show ZE d M_Pri_rootOf (gw G A) 10 [(1, (n : Int)), (9, 0), (1, (r : Int)), (9, 0), (1, (bt : Int)), (9, 0)] [(1, 0), (1, (bt : Int))] _
        refine ZE.lcmp d_Pri_rootOf_10 (by unfold zR64; omega) (by unfold zR64; omega) ?_
        refine ZE.if_le (tgt := 42) d_Pri_rootOf_11 rfl (zR_zcmp _ _) (fun c11 => ?_) (fun c11 => ?_)
        · exact absurd (zcmp_le.mp c11) (by omega)
        · replace c11 := (not_congr zcmp_le).mp c11
          refine ZE.lload_n d_Pri_rootOf_14 rfl ?_
          refine ZE.lload d_Pri_rootOf_15 rfl ?_
          refine ZE.lor d_Pri_rootOf_17 ?_
          rw [show (zlor (r : Int) (bt : Int) : Int) = ((r ||| bt : Nat) : Int) from (zlor_nat (by omega) (by omega))]
          refine ZE.lload_n d_Pri_rootOf_18 rfl ?_
          refine ZE.lload d_Pri_rootOf_19 rfl ?_
          refine ZE.lor d_Pri_rootOf_21 ?_
          rw [show (zlor (r : Int) (bt : Int) : Int) = ((r ||| bt : Nat) : Int) from (zlor_nat (by omega) (by omega))]
          refine ZE.lmul d_Pri_rootOf_22 ?_
          rw [show (((r ||| bt : Nat) : Int) * ((r ||| bt : Nat) : Int) : Int) = (((r ||| bt) * (r ||| bt) : Nat) : Int) from (Int.natCast_mul _ _).symm]
          refine ZE.lload_n d_Pri_rootOf_23 rfl ?_
          refine ZE.lcmp d_Pri_rootOf_24 (by unfold zR64; omega) (by unfold zR64; omega) ?_
          refine ZE.if_gt (tgt := 33) d_Pri_rootOf_25 rfl (zR_zcmp _ _) (fun c25 => ?_) (fun c25 => ?_)
          · replace c25 := zcmp_gt.mp c25
            refine ZE.lload d_Pri_rootOf_33 rfl ?_
            refine ZE.iconst (n := 1) d_Pri_rootOf_35 ?_
            refine ZE.lshr d_Pri_rootOf_36 ?_
            refine ZE.lstore (ls2 := [(1, (n : Int)), (9, 0), (1, (r : Int)), (9, 0), (1, zlshr (bt : Int) 1), (9, 0)]) d_Pri_rootOf_37 (Nat.le_of_ble_eq_true rfl) rfl ?_
            refine ZE.goto (tgt := 7) d_Pri_rootOf_39 rfl ?_
            rw [hsh]
            refine ih k1 r _ rfl (by omega) hm2 (by rw [← hbt2]; omega) hlo ?_ (by omega)
            rw [← hbt2, ← hor]; omega
          · replace c25 := (not_congr zcmp_gt).mp c25
            refine ZE.lload_n d_Pri_rootOf_28 rfl ?_
            refine ZE.lload d_Pri_rootOf_29 rfl ?_
            refine ZE.lor d_Pri_rootOf_31 ?_
            rw [show (zlor (r : Int) (bt : Int) : Int) = ((r ||| bt : Nat) : Int) from (zlor_nat (by omega) (by omega))]
            refine ZE.lstore_n (ls2 := [(1, (n : Int)), (9, 0), (1, ((r ||| bt : Nat) : Int)), (9, 0), (1, (bt : Int)), (9, 0)]) d_Pri_rootOf_32 (Nat.le_of_ble_eq_true rfl) rfl ?_
            refine ZE.lload d_Pri_rootOf_33 rfl ?_
            refine ZE.iconst (n := 1) d_Pri_rootOf_35 ?_
            refine ZE.lshr d_Pri_rootOf_36 ?_
            refine ZE.lstore (ls2 := [(1, (n : Int)), (9, 0), (1, ((r ||| bt : Nat) : Int)), (9, 0), (1, zlshr (bt : Int) 1), (9, 0)]) d_Pri_rootOf_37 (Nat.le_of_ble_eq_true rfl) rfl ?_
            refine ZE.goto (tgt := 7) d_Pri_rootOf_39 rfl ?_
            rw [hsh]
            refine ih k1 (r ||| bt) _ rfl (by omega) ?_ ?_ ?_ ?_ (by omega)
            · rw [hor, hbt2]; exact hm1
            · rw [hor, ← hbt2]; omega
            · omega
            · rw [hor, ← hbt2, Nat.add_assoc]; exact hup
  exact L7 _ 31 0 1073741824 (by decide) (by omega) (by decide) (by decide) (Nat.zero_le _) (by show n < (0 + 2 ^ 31) * (0 + 2 ^ 31); omega) (Nat.lt_succ_self _)
