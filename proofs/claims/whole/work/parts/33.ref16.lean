def cnt (f : Nat → Bool) : Nat → Nat
  | 0 => 0
  | k + 1 => if f k = true then cnt f k + 1 else cnt f k
theorem cnt_le (f : Nat → Bool) : ∀ n, cnt f n ≤ n := by
  intro n
  induction n with
  | zero => exact Nat.le_refl _
  | succ n ih => unfold cnt; split <;> omega
theorem cnt_congr {f g : Nat → Bool} : ∀ n, (∀ k, k < n → f k = g k) → cnt f n = cnt g n := by
  intro n
  induction n with
  | zero => intro _; rfl
  | succ n ih => intro h; unfold cnt; rw [h n (by omega), ih (fun k hk => h k (by omega))]
theorem gr_le2 : ∀ S, S < 128 → gr S ≤ 17 ∧ rad S ≤ 510510 := by decide +kernel
theorem msN_R {S k : Nat} (hS : S < 128) (hp : pop S ≤ 5) (hk : k < (prs S).length) (m : Int) : -1000000 ≤ msN S k m ∧ msN S k m ≤ 1000000 := by
  have hQ := prs_ok hS hp hk
  have hl := prs_288 hS hp
  have hc := cls_le hS hp
  have hd : dl (pN S k) ≤ 9 := dl_9.mpr (by omega)
  have hw1 := wtF_le (pN S k) (by omega) (by omega) 7 (by omega)
  have hw2 := wtF_le (pN S k + 1) (by omega) (by omega) 7 (by omega)
  have hw3 : wt (pN S k) ≤ 224 := hw1
  have hw4 : wt (pN S k + 1) ≤ 224 := hw2
  have hm1 := mb_lt (pN S k)
  have hm2 := mb_lt (pN S k + 1)
  have hb := gr_le2 (btN S k) (Nat.or_lt_two_pow (n := 7) hm1 hm2)
  have hp1 := pop_le (mb (pN S k)) (by omega)
  have hp2 := pop_le (mb (pN S k + 1)) (by omega)
  unfold msN
  repeat' split
  all_goals omega
theorem r_has2 {d : Nat} {G : zG} {A : Int → Int → Int} {P : Option zV → zG → Prop} {S k0 : Nat} {b : Int} (hb : b = (k0 : Int)) (hS : S < 2147483648) (hk : k0 < 32) (k : P (some (0, b2i (S.testBit k0 = true))) (gw G A)) : ZE d M_Ref_has (gw G A) 0 [(0, (S : Int)), (0, b)] [] P := by
  rw [hb]
  exact r_has hS hk k
def ctV (S : Nat) (m lo hi : Int) : Int := if isM m then (cnt (fun k => decide (lo ≤ msN S k m ∧ msN S k m ≤ hi)) (prs S).length : Int) else -1
def blV (S : Nat) (e : Int) : Int := if 0 ≤ e ∧ e ≤ 400 then (cnt (fun k => decide ((dl (pN S k) : Int) ≤ e)) (prs S).length : Int) else -1
def mbV (S : Nat) (s : Int) : Int := (cnt (fun k => decide ((btN S k : Int) = s)) (prs S).length : Int)
def shV (S : Nat) (q : Int) : Int := if hasB S q then (cnt (fun k => (btN S k).testBit (plc q).toNat) (prs S).length : Int) else -1
def ngV (S : Nat) : Int := (cnt (fun k => decide (rnd (d1 S k) % 2 = 1)) (csF S 1 128).length : Int)
def wpV (S : Nat) : Int := (cnt (fun k => decide (ix (gP1 S (ux (d1 S k))) (bnd S) ≠ 0)) (csF S 1 128).length : Int)
set_option maxRecDepth 20000 in
set_option maxHeartbeats 4000000 in
theorem r_count {d : Nat} {G : zG} {A : Int → Int → Int} {P : Option zV → zG → Prop} {o : Int} (hK : RK G o) (hF : RF A o) {S : Nat} (hR : RS S A o) (hS7 : S < 128) (hp5 : pop S ≤ 5) {m lo hi : Int} (hm : zR m) (hl : zR lo) (hh : zR hi) (k : P (some (0, ctV S m lo hi)) (gw G A)) : ZE (d + 3) M_Ref_count (gw G A) 0 [(2, o), (0, m), (0, lo), (0, hi), (9, 0), (9, 0)] [] P := by
  have hpl := prs_288 hS7 hp5
  have hcl := cls_le hS7 hp5
  refine ZE.iload_n d_Ref_count_0 rfl ?_
  refine ZE.cS [(0, m)] [] [(0, m)] d_Ref_count_1 l_Ref_290 rfl rfl rfl rfl rfl rfl ?_
  refine r_isMeasure hm ?_
  show ZE (d + 3) M_Ref_count (gw G A) 4 [(2, o), (0, m), (0, lo), (0, hi), (9, 0), (9, 0)] [(0, b2i (0 ≤ m ∧ m ≤ 8))] _
  refine ZE.if_ne (tgt := 9) d_Ref_count_4 rfl (zR_b2i _) (fun c4 => ?_) (fun c4 => ?_)
  · replace c4 := b2i_n0.mp c4
    refine ZE.iconst (n := 0) d_Ref_count_9 ?_
    refine ZE.istore (ls2 := [(2, o), (0, m), (0, lo), (0, hi), (0, 0), (9, 0)]) d_Ref_count_10 (Nat.le_of_ble_eq_true rfl) rfl ?_
    refine ZE.iconst (n := 0) d_Ref_count_12 ?_
    refine ZE.istore (ls2 := [(2, o), (0, m), (0, lo), (0, hi), (0, 0), (0, 0)]) d_Ref_count_13 (Nat.le_of_ble_eq_true rfl) rfl ?_
    have L15 : ∀ (t : Nat) (j : Nat) (hj : j ≤ ((prs S).length)), ((prs S).length) - j < t → ZE (d + 3) M_Ref_count (gw G A) 15 [(2, o), (0, m), (0, lo), (0, hi), (0, (cnt (fun k => decide (lo ≤ msN S k m ∧ msN S k m ≤ hi)) j : Int)), (0, (j : Int))] [] P := by
      intro t
      induction t with
      | zero => intro j hj hm; exact absurd hm (Nat.not_lt_zero _)
      | succ t ih =>
        intro j hj hm
        have hcn := cnt_le (fun k => decide (lo ≤ msN S k m ∧ msN S k m ≤ hi)) j
        refine ZE.iload d_Ref_count_15 rfl ?_
        refine ZE.aload_n d_Ref_count_17 rfl ?_
        refine ZE.getE (v := ((prs S).length : Int)) d_Ref_count_18 f_Ref_167 (tg := 0) rfl hK.1 hR.np ?_
        refine ZE.icmp_ge (tgt := 58) d_Ref_count_21 rfl (by unfold zR; omega) (by unfold zR; omega) (fun c21 => ?_) (fun c21 => ?_)
        · have e1 : j = (prs S).length := by omega
          refine ZE.iload d_Ref_count_58 rfl ?_
          refine ZE.iret d_Ref_count_60 rfl ?_
          rw [e1]
          rw [show ctV S m lo hi = (cnt (fun k => decide (lo ≤ msN S k m ∧ msN S k m ≤ hi)) (prs S).length : Int) from if_pos (decide_eq_true c4)] at k
          exact k
        · refine ZE.iload d_Ref_count_24 rfl ?_
          refine ZE.aload_n d_Ref_count_26 rfl ?_
          refine ZE.iload d_Ref_count_27 rfl ?_
          refine ZE.iload_n d_Ref_count_29 rfl ?_
          have hms := msN_R hS7 hp5 (k := j) (by omega) m
          refine ZE.cV [(0, (j : Int)), (0, m)] [(0, (cnt (fun k => decide (lo ≤ msN S k m ∧ msN S k m ≤ hi)) j : Int))] [(2, o), (0, (j : Int)), (0, m), (9, 0)] d_Ref_count_30 l_Ref_293 rfl rfl rfl rfl rfl rfl hK.1 ?_
          refine r_measureOf (pn := j) hK hF hR hS7 hp5 (by omega) c4 ?_
          show ZE (d + 3) M_Ref_count (gw G A) 33 [(2, o), (0, m), (0, lo), (0, hi), (0, (cnt (fun k => decide (lo ≤ msN S k m ∧ msN S k m ≤ hi)) j : Int)), (0, (j : Int))] [(0, msN S j m), (0, (cnt (fun k => decide (lo ≤ msN S k m ∧ msN S k m ≤ hi)) j : Int))] _
          refine ZE.i2l d_Ref_count_33 (by unfold zR; omega) ?_
          refine ZE.iload_n d_Ref_count_34 rfl ?_
          refine ZE.i2l d_Ref_count_35 hl ?_
          refine ZE.iload_n d_Ref_count_36 rfl ?_
          refine ZE.i2l d_Ref_count_37 hh ?_
          refine ZE.cS [(1, msN S j m), (1, lo), (1, hi)] [(0, (cnt (fun k => decide (lo ≤ msN S k m ∧ msN S k m ≤ hi)) j : Int))] [(1, msN S j m), (9, 0), (1, lo), (9, 0), (1, hi), (9, 0)] d_Ref_count_38 l_Ref_111 rfl rfl rfl rfl rfl rfl ?_
          refine r_isIn (by unfold zR64; omega) (by unfold zR at hl; unfold zR64; omega) (by unfold zR at hh; unfold zR64; omega) ?_
          show ZE (d + 3) M_Ref_count (gw G A) 41 [(2, o), (0, m), (0, lo), (0, hi), (0, (cnt (fun k => decide (lo ≤ msN S k m ∧ msN S k m ≤ hi)) j : Int)), (0, (j : Int))] [(0, b2i (lo ≤ msN S j m ∧ msN S j m ≤ hi)), (0, (cnt (fun k => decide (lo ≤ msN S k m ∧ msN S k m ≤ hi)) j : Int))] _
          refine ZE.if_eq (tgt := 48) d_Ref_count_41 rfl (zR_b2i _) (fun c41 => ?_) (fun c41 => ?_)
          · replace c41 := b2i_0.mp c41
            have hno : ¬ (decide (lo ≤ msN S j m ∧ msN S j m ≤ hi)) = true := fun q => c41 (of_decide_eq_true q)
            refine ZE.iconst (n := 0) d_Ref_count_48 ?_
            refine ZE.iadd d_Ref_count_49 ?_
            refine ZE.istore (ls2 := [(2, o), (0, m), (0, lo), (0, hi), (0, (cnt (fun k => decide (lo ≤ msN S k m ∧ msN S k m ≤ hi)) j : Int) + 0), (0, (j : Int))]) d_Ref_count_50 (Nat.le_of_ble_eq_true rfl) rfl ?_
            refine ZE.iinc (ls2 := [(2, o), (0, m), (0, lo), (0, hi), (0, (cnt (fun k => decide (lo ≤ msN S k m ∧ msN S k m ≤ hi)) j : Int) + 0), (0, (j : Int) + 1)]) d_Ref_count_52 rfl rfl ?_
            refine ZE.goto (tgt := 15) d_Ref_count_55 rfl ?_
            have e1 : cnt (fun k => decide (lo ≤ msN S k m ∧ msN S k m ≤ hi)) (j + 1) = cnt (fun k => decide (lo ≤ msN S k m ∧ msN S k m ≤ hi)) j := if_neg hno
            rw [show (cnt (fun k => decide (lo ≤ msN S k m ∧ msN S k m ≤ hi)) j : Int) + 0 = (cnt (fun k => decide (lo ≤ msN S k m ∧ msN S k m ≤ hi)) (j + 1) : Int) by rw [e1]; omega, show (j : Int) + 1 = ((j + 1 : Nat) : Int) by omega]
            exact ih (j + 1) (by omega) (by omega)
          · replace c41 := b2i_n0.mp c41
            have hyes : (decide (lo ≤ msN S j m ∧ msN S j m ≤ hi)) = true := decide_eq_true c41
            refine ZE.iconst (n := 1) d_Ref_count_44 ?_
            refine ZE.goto (tgt := 49) d_Ref_count_45 rfl ?_
            refine ZE.iadd d_Ref_count_49 ?_
            refine ZE.istore (ls2 := [(2, o), (0, m), (0, lo), (0, hi), (0, (cnt (fun k => decide (lo ≤ msN S k m ∧ msN S k m ≤ hi)) j : Int) + 1), (0, (j : Int))]) d_Ref_count_50 (Nat.le_of_ble_eq_true rfl) rfl ?_
            refine ZE.iinc (ls2 := [(2, o), (0, m), (0, lo), (0, hi), (0, (cnt (fun k => decide (lo ≤ msN S k m ∧ msN S k m ≤ hi)) j : Int) + 1), (0, (j : Int) + 1)]) d_Ref_count_52 rfl rfl ?_
            refine ZE.goto (tgt := 15) d_Ref_count_55 rfl ?_
            have e1 : cnt (fun k => decide (lo ≤ msN S k m ∧ msN S k m ≤ hi)) (j + 1) = cnt (fun k => decide (lo ≤ msN S k m ∧ msN S k m ≤ hi)) j + 1 := if_pos hyes
            rw [show (cnt (fun k => decide (lo ≤ msN S k m ∧ msN S k m ≤ hi)) j : Int) + 1 = (cnt (fun k => decide (lo ≤ msN S k m ∧ msN S k m ≤ hi)) (j + 1) : Int) by rw [e1]; omega, show (j : Int) + 1 = ((j + 1 : Nat) : Int) by omega]
            exact ih (j + 1) (by omega) (by omega)
    exact L15 _ 0 (by omega) (Nat.lt_succ_self _)
  · replace c4 := b2i_0.mp c4
    refine ZE.iconst (n := (-1)) d_Ref_count_7 ?_
    refine ZE.iret d_Ref_count_8 rfl ?_
    rw [show ctV S m lo hi = -1 from if_neg (fun q => c4 (of_decide_eq_true q))] at k
    exact k
set_option maxRecDepth 20000 in
set_option maxHeartbeats 4000000 in
theorem r_below {d : Nat} {G : zG} {A : Int → Int → Int} {P : Option zV → zG → Prop} {o : Int} (hK : RK G o) (hF : RF A o) {S : Nat} (hR : RS S A o) (hS7 : S < 128) (hp5 : pop S ≤ 5) {e : Int} (he : zR e) (k : P (some (0, blV S e)) (gw G A)) : ZE (d + 1) M_Ref_below (gw G A) 0 [(2, o), (0, e), (9, 0), (9, 0)] [] P := by
  have hpl := prs_288 hS7 hp5
  have hcl := cls_le hS7 hp5
  refine ZE.iload_n d_Ref_below_0 rfl ?_
  refine ZE.i2l d_Ref_below_1 he ?_
  refine ZE.lconst d_Ref_below_2 ?_
  show ZE (d + 1) M_Ref_below (gw G A) 3 [(2, o), (0, e), (9, 0), (9, 0)] [(1, 0), (1, e)] _
  refine ZE.ldc2 (v := 400) d_Ref_below_3 k_Ref_300 ?_
  refine ZE.cS [(1, e), (1, 0), (1, 400)] [] [(1, e), (9, 0), (1, 0), (9, 0), (1, 400), (9, 0)] d_Ref_below_6 l_Ref_111 rfl rfl rfl rfl rfl rfl ?_
  refine r_isIn (by unfold zR at he; unfold zR64; omega) (by unfold zR64; omega) (by unfold zR64; omega) ?_
  show ZE (d + 1) M_Ref_below (gw G A) 9 [(2, o), (0, e), (9, 0), (9, 0)] [(0, b2i (0 ≤ e ∧ e ≤ 400))] _
  refine ZE.if_ne (tgt := 14) d_Ref_below_9 rfl (zR_b2i _) (fun c9 => ?_) (fun c9 => ?_)
  · replace c9 := b2i_n0.mp c9
    refine ZE.iconst (n := 0) d_Ref_below_14 ?_
    refine ZE.istore_n (ls2 := [(2, o), (0, e), (0, 0), (9, 0)]) d_Ref_below_15 (Nat.le_of_ble_eq_true rfl) rfl ?_
    refine ZE.iconst (n := 0) d_Ref_below_16 ?_
    refine ZE.istore_n (ls2 := [(2, o), (0, e), (0, 0), (0, 0)]) d_Ref_below_17 (Nat.le_of_ble_eq_true rfl) rfl ?_
    have L18 : ∀ (t : Nat) (j : Nat) (hj : j ≤ ((prs S).length)), ((prs S).length) - j < t → ZE (d + 1) M_Ref_below (gw G A) 18 [(2, o), (0, e), (0, (cnt (fun k => decide ((dl (pN S k) : Int) ≤ e)) j : Int)), (0, (j : Int))] [] P := by
      intro t
      induction t with
      | zero => intro j hj hm; exact absurd hm (Nat.not_lt_zero _)
      | succ t ih =>
        intro j hj hm
        have hcn := cnt_le (fun k => decide ((dl (pN S k) : Int) ≤ e)) j
        refine ZE.iload_n d_Ref_below_18 rfl ?_
        refine ZE.aload_n d_Ref_below_19 rfl ?_
        refine ZE.getE (v := ((prs S).length : Int)) d_Ref_below_20 f_Ref_167 (tg := 0) rfl hK.1 hR.np ?_
        refine ZE.icmp_ge (tgt := 53) d_Ref_below_23 rfl (by unfold zR; omega) (by unfold zR; omega) (fun c23 => ?_) (fun c23 => ?_)
        · have e1 : j = (prs S).length := by omega
          refine ZE.iload_n d_Ref_below_53 rfl ?_
          refine ZE.iret d_Ref_below_54 rfl ?_
          rw [e1]
          rw [show blV S e = (cnt (fun k => decide ((dl (pN S k) : Int) ≤ e)) (prs S).length : Int) from if_pos c9] at k
          exact k
        · refine ZE.iload_n d_Ref_below_26 rfl ?_
          refine ZE.aload_n d_Ref_below_27 rfl ?_
          refine ZE.getE (v := o + 7) d_Ref_below_28 f_Ref_28 (tg := 2) rfl hK.1 hF.a12 ?_
          refine ZE.iload_n d_Ref_below_31 rfl ?_
          refine ZE.ialdE (v := (pN S j : Int)) d_Ref_below_32 hK.k7 (by have hn0 := hK.n7; show 0 ≤ (j : Int) ∧ (j : Int) < gn G (o + 7); omega) (hR.p j (by omega)).1 ?_
          have hQ := prs_ok hS7 hp5 (k := j) (by omega)
          have hdl : dl (pN S j) ≤ 9 := dl_9.mpr (by omega)
          refine ZE.cS [(0, (pN S j : Int))] [(0, (cnt (fun k => decide ((dl (pN S k) : Int) ≤ e)) j : Int))] [(0, (pN S j : Int)), (9, 0), (9, 0)] d_Ref_below_33 l_Ref_105 rfl rfl rfl rfl rfl rfl ?_
          refine r_digitsOf (s := pN S j) (by omega) ?_
          show ZE (d + 1) M_Ref_below (gw G A) 36 [(2, o), (0, e), (0, (cnt (fun k => decide ((dl (pN S k) : Int) ≤ e)) j : Int)), (0, (j : Int))] [(0, (dl (pN S j) : Int)), (0, (cnt (fun k => decide ((dl (pN S k) : Int) ≤ e)) j : Int))] _
          refine ZE.iload_n d_Ref_below_36 rfl ?_
          refine ZE.icmp_gt (tgt := 44) d_Ref_below_37 rfl (by unfold zR; omega) (by unfold zR; omega) (fun c37 => ?_) (fun c37 => ?_)
          · have hno : ¬ (decide ((dl (pN S j) : Int) ≤ e)) = true := fun q => by have := of_decide_eq_true q; omega
            refine ZE.iconst (n := 0) d_Ref_below_44 ?_
            refine ZE.iadd d_Ref_below_45 ?_
            refine ZE.istore_n (ls2 := [(2, o), (0, e), (0, (cnt (fun k => decide ((dl (pN S k) : Int) ≤ e)) j : Int) + 0), (0, (j : Int))]) d_Ref_below_46 (Nat.le_of_ble_eq_true rfl) rfl ?_
            refine ZE.iinc (ls2 := [(2, o), (0, e), (0, (cnt (fun k => decide ((dl (pN S k) : Int) ≤ e)) j : Int) + 0), (0, (j : Int) + 1)]) d_Ref_below_47 rfl rfl ?_
            refine ZE.goto (tgt := 18) d_Ref_below_50 rfl ?_
            have e1 : cnt (fun k => decide ((dl (pN S k) : Int) ≤ e)) (j + 1) = cnt (fun k => decide ((dl (pN S k) : Int) ≤ e)) j := if_neg hno
            rw [show (cnt (fun k => decide ((dl (pN S k) : Int) ≤ e)) j : Int) + 0 = (cnt (fun k => decide ((dl (pN S k) : Int) ≤ e)) (j + 1) : Int) by rw [e1]; omega, show (j : Int) + 1 = ((j + 1 : Nat) : Int) by omega]
            exact ih (j + 1) (by omega) (by omega)
          · have hyes : (decide ((dl (pN S j) : Int) ≤ e)) = true := decide_eq_true (by omega)
            refine ZE.iconst (n := 1) d_Ref_below_40 ?_
            refine ZE.goto (tgt := 45) d_Ref_below_41 rfl ?_
            refine ZE.iadd d_Ref_below_45 ?_
            refine ZE.istore_n (ls2 := [(2, o), (0, e), (0, (cnt (fun k => decide ((dl (pN S k) : Int) ≤ e)) j : Int) + 1), (0, (j : Int))]) d_Ref_below_46 (Nat.le_of_ble_eq_true rfl) rfl ?_
            refine ZE.iinc (ls2 := [(2, o), (0, e), (0, (cnt (fun k => decide ((dl (pN S k) : Int) ≤ e)) j : Int) + 1), (0, (j : Int) + 1)]) d_Ref_below_47 rfl rfl ?_
            refine ZE.goto (tgt := 18) d_Ref_below_50 rfl ?_
            have e1 : cnt (fun k => decide ((dl (pN S k) : Int) ≤ e)) (j + 1) = cnt (fun k => decide ((dl (pN S k) : Int) ≤ e)) j + 1 := if_pos hyes
            rw [show (cnt (fun k => decide ((dl (pN S k) : Int) ≤ e)) j : Int) + 1 = (cnt (fun k => decide ((dl (pN S k) : Int) ≤ e)) (j + 1) : Int) by rw [e1]; omega, show (j : Int) + 1 = ((j + 1 : Nat) : Int) by omega]
            exact ih (j + 1) (by omega) (by omega)
    exact L18 _ 0 (by omega) (Nat.lt_succ_self _)
  · replace c9 := b2i_0.mp c9
    refine ZE.iconst (n := (-1)) d_Ref_below_12 ?_
    refine ZE.iret d_Ref_below_13 rfl ?_
    rw [show blV S e = -1 from if_neg c9] at k
    exact k
set_option maxRecDepth 20000 in
set_option maxHeartbeats 4000000 in
theorem r_madeBy {d : Nat} {G : zG} {A : Int → Int → Int} {P : Option zV → zG → Prop} {o : Int} (hK : RK G o) (hF : RF A o) {S : Nat} (hR : RS S A o) (hS7 : S < 128) (hp5 : pop S ≤ 5) {s : Int} (hs : zR s) (k : P (some (0, mbV S s)) (gw G A)) : ZE (d + 2) M_Ref_madeBy (gw G A) 0 [(2, o), (0, s), (9, 0), (9, 0)] [] P := by
  have hpl := prs_288 hS7 hp5
  have hcl := cls_le hS7 hp5
  refine ZE.iconst (n := 0) d_Ref_madeBy_0 ?_
  refine ZE.istore_n (ls2 := [(2, o), (0, s), (0, 0), (9, 0)]) d_Ref_madeBy_1 (Nat.le_of_ble_eq_true rfl) rfl ?_
  refine ZE.iconst (n := 0) d_Ref_madeBy_2 ?_
  refine ZE.istore_n (ls2 := [(2, o), (0, s), (0, 0), (0, 0)]) d_Ref_madeBy_3 (Nat.le_of_ble_eq_true rfl) rfl ?_
  have L4 : ∀ (t : Nat) (j : Nat) (hj : j ≤ ((prs S).length)), ((prs S).length) - j < t → ZE (d + 2) M_Ref_madeBy (gw G A) 4 [(2, o), (0, s), (0, (cnt (fun k => decide ((btN S k : Int) = s)) j : Int)), (0, (j : Int))] [] P := by
    intro t
    induction t with
    | zero => intro j hj hm; exact absurd hm (Nat.not_lt_zero _)
    | succ t ih =>
      intro j hj hm
      have hcn := cnt_le (fun k => decide ((btN S k : Int) = s)) j
      refine ZE.iload_n d_Ref_madeBy_4 rfl ?_
      refine ZE.aload_n d_Ref_madeBy_5 rfl ?_
      refine ZE.getE (v := ((prs S).length : Int)) d_Ref_madeBy_6 f_Ref_167 (tg := 0) rfl hK.1 hR.np ?_
      refine ZE.icmp_ge (tgt := 35) d_Ref_madeBy_9 rfl (by unfold zR; omega) (by unfold zR; omega) (fun c9 => ?_) (fun c9 => ?_)
      · have e1 : j = (prs S).length := by omega
        refine ZE.iload_n d_Ref_madeBy_35 rfl ?_
        refine ZE.iret d_Ref_madeBy_36 rfl ?_
        rw [e1]
        exact k
      · refine ZE.iload_n d_Ref_madeBy_12 rfl ?_
        refine ZE.aload_n d_Ref_madeBy_13 rfl ?_
        refine ZE.iload_n d_Ref_madeBy_14 rfl ?_
        have hm1 := mb_lt (pN S j)
        have hm2 := mb_lt (pN S j + 1)
        have hb7 : btN S j < 128 := Nat.or_lt_two_pow (n := 7) hm1 hm2
        refine ZE.cV [(0, (j : Int))] [(0, (cnt (fun k => decide ((btN S k : Int) = s)) j : Int))] [(2, o), (0, (j : Int))] d_Ref_madeBy_15 l_Ref_284 rfl rfl rfl rfl rfl rfl hK.1 ?_
        refine r_bitsOf (pn := j) hK hF hR hS7 hp5 (by omega) ?_
        show ZE (d + 2) M_Ref_madeBy (gw G A) 18 [(2, o), (0, s), (0, (cnt (fun k => decide ((btN S k : Int) = s)) j : Int)), (0, (j : Int))] [(0, (btN S j : Int)), (0, (cnt (fun k => decide ((btN S k : Int) = s)) j : Int))] _
        refine ZE.iload_n d_Ref_madeBy_18 rfl ?_
        refine ZE.icmp_ne (tgt := 26) d_Ref_madeBy_19 rfl (by unfold zR; omega) hs (fun c19 => ?_) (fun c19 => ?_)
        · have hno : ¬ (decide ((btN S j : Int) = s)) = true := fun q => c19 (of_decide_eq_true q)
          refine ZE.iconst (n := 0) d_Ref_madeBy_26 ?_
          refine ZE.iadd d_Ref_madeBy_27 ?_
          refine ZE.istore_n (ls2 := [(2, o), (0, s), (0, (cnt (fun k => decide ((btN S k : Int) = s)) j : Int) + 0), (0, (j : Int))]) d_Ref_madeBy_28 (Nat.le_of_ble_eq_true rfl) rfl ?_
          refine ZE.iinc (ls2 := [(2, o), (0, s), (0, (cnt (fun k => decide ((btN S k : Int) = s)) j : Int) + 0), (0, (j : Int) + 1)]) d_Ref_madeBy_29 rfl rfl ?_
          refine ZE.goto (tgt := 4) d_Ref_madeBy_32 rfl ?_
          have e1 : cnt (fun k => decide ((btN S k : Int) = s)) (j + 1) = cnt (fun k => decide ((btN S k : Int) = s)) j := if_neg hno
          rw [show (cnt (fun k => decide ((btN S k : Int) = s)) j : Int) + 0 = (cnt (fun k => decide ((btN S k : Int) = s)) (j + 1) : Int) by rw [e1]; omega, show (j : Int) + 1 = ((j + 1 : Nat) : Int) by omega]
          exact ih (j + 1) (by omega) (by omega)
        · have hyes : (decide ((btN S j : Int) = s)) = true := decide_eq_true (by omega)
          refine ZE.iconst (n := 1) d_Ref_madeBy_22 ?_
          refine ZE.goto (tgt := 27) d_Ref_madeBy_23 rfl ?_
          refine ZE.iadd d_Ref_madeBy_27 ?_
          refine ZE.istore_n (ls2 := [(2, o), (0, s), (0, (cnt (fun k => decide ((btN S k : Int) = s)) j : Int) + 1), (0, (j : Int))]) d_Ref_madeBy_28 (Nat.le_of_ble_eq_true rfl) rfl ?_
          refine ZE.iinc (ls2 := [(2, o), (0, s), (0, (cnt (fun k => decide ((btN S k : Int) = s)) j : Int) + 1), (0, (j : Int) + 1)]) d_Ref_madeBy_29 rfl rfl ?_
          refine ZE.goto (tgt := 4) d_Ref_madeBy_32 rfl ?_
          have e1 : cnt (fun k => decide ((btN S k : Int) = s)) (j + 1) = cnt (fun k => decide ((btN S k : Int) = s)) j + 1 := if_pos hyes
          rw [show (cnt (fun k => decide ((btN S k : Int) = s)) j : Int) + 1 = (cnt (fun k => decide ((btN S k : Int) = s)) (j + 1) : Int) by rw [e1]; omega, show (j : Int) + 1 = ((j + 1 : Nat) : Int) by omega]
          exact ih (j + 1) (by omega) (by omega)
  exact L4 _ 0 (by omega) (Nat.lt_succ_self _)
set_option maxRecDepth 20000 in
set_option maxHeartbeats 4000000 in
theorem r_share {d : Nat} {G : zG} {A : Int → Int → Int} {P : Option zV → zG → Prop} {o : Int} (hK : RK G o) (hF : RF A o) {S : Nat} (hR : RS S A o) (hS7 : S < 128) (hp5 : pop S ≤ 5) {q : Int} (hq : zR q) (k : P (some (0, shV S q)) (gw G A)) : ZE (d + 2) M_Ref_share (gw G A) 0 [(2, o), (0, q), (9, 0), (9, 0)] [] P := by
  have hpl := prs_288 hS7 hp5
  have hcl := cls_le hS7 hp5
  refine ZE.aload_n d_Ref_share_0 rfl ?_
  refine ZE.iload_n d_Ref_share_1 rfl ?_
  refine ZE.cV [(0, q)] [] [(2, o), (0, q), (9, 0)] d_Ref_share_2 l_Ref_209 rfl rfl rfl rfl rfl rfl hK.1 ?_
  refine r_isPrimeHere hK hF hR.s hS7 hq ?_
  show ZE (d + 2) M_Ref_share (gw G A) 5 [(2, o), (0, q), (9, 0), (9, 0)] [(0, b2i (∃ k : Nat, k < 7 ∧ q = sev k ∧ S.testBit k = true))] _
  refine ZE.if_ne (tgt := 10) d_Ref_share_5 rfl (zR_b2i _) (fun c5 => ?_) (fun c5 => ?_)
  · replace c5 := b2i_n0.mp c5
    refine ZE.iconst (n := 0) d_Ref_share_10 ?_
    refine ZE.istore_n (ls2 := [(2, o), (0, q), (0, 0), (9, 0)]) d_Ref_share_11 (Nat.le_of_ble_eq_true rfl) rfl ?_
    refine ZE.iconst (n := 0) d_Ref_share_12 ?_
    refine ZE.istore_n (ls2 := [(2, o), (0, q), (0, 0), (0, 0)]) d_Ref_share_13 (Nat.le_of_ble_eq_true rfl) rfl ?_
    have L14 : ∀ (t : Nat) (j : Nat) (hj : j ≤ ((prs S).length)), ((prs S).length) - j < t → ZE (d + 2) M_Ref_share (gw G A) 14 [(2, o), (0, q), (0, (cnt (fun k => (btN S k).testBit (plc q).toNat) j : Int)), (0, (j : Int))] [] P := by
      intro t
      induction t with
      | zero => intro j hj hm; exact absurd hm (Nat.not_lt_zero _)
      | succ t ih =>
        intro j hj hm
        have hcn := cnt_le (fun k => (btN S k).testBit (plc q).toNat) j
        refine ZE.iload_n d_Ref_share_14 rfl ?_
        refine ZE.aload_n d_Ref_share_15 rfl ?_
        refine ZE.getE (v := ((prs S).length : Int)) d_Ref_share_16 f_Ref_167 (tg := 0) rfl hK.1 hR.np ?_
        refine ZE.icmp_ge (tgt := 52) d_Ref_share_19 rfl (by unfold zR; omega) (by unfold zR; omega) (fun c19 => ?_) (fun c19 => ?_)
        · have e1 : j = (prs S).length := by omega
          refine ZE.iload_n d_Ref_share_52 rfl ?_
          refine ZE.iret d_Ref_share_53 rfl ?_
          rw [e1]
          rw [show shV S q = (cnt (fun k => (btN S k).testBit (plc q).toNat) (prs S).length : Int) from if_pos (hasB_iff.mpr c5)] at k
          exact k
        · refine ZE.iload_n d_Ref_share_22 rfl ?_
          refine ZE.aload_n d_Ref_share_23 rfl ?_
          refine ZE.iload_n d_Ref_share_24 rfl ?_
          have hm1 := mb_lt (pN S j)
          have hm2 := mb_lt (pN S j + 1)
          have hb7 : btN S j < 128 := Nat.or_lt_two_pow (n := 7) hm1 hm2
          refine ZE.cV [(0, (j : Int))] [(0, (cnt (fun k => (btN S k).testBit (plc q).toNat) j : Int))] [(2, o), (0, (j : Int))] d_Ref_share_25 l_Ref_284 rfl rfl rfl rfl rfl rfl hK.1 ?_
          refine r_bitsOf (pn := j) hK hF hR hS7 hp5 (by omega) ?_
          show ZE (d + 2) M_Ref_share (gw G A) 28 [(2, o), (0, q), (0, (cnt (fun k => (btN S k).testBit (plc q).toNat) j : Int)), (0, (j : Int))] [(0, (btN S j : Int)), (0, (cnt (fun k => (btN S k).testBit (plc q).toNat) j : Int))] _
          refine ZE.aload_n d_Ref_share_28 rfl ?_
          refine ZE.iload_n d_Ref_share_29 rfl ?_
          refine ZE.cV [(0, q)] [(0, (btN S j : Int)), (0, (cnt (fun k => (btN S k).testBit (plc q).toNat) j : Int))] [(2, o), (0, q), (9, 0)] d_Ref_share_30 l_Ref_77 rfl rfl rfl rfl rfl rfl hK.1 ?_
          refine r_placeOf hK hF hq ?_
          show ZE (d + 2) M_Ref_share (gw G A) 33 [(2, o), (0, q), (0, (cnt (fun k => (btN S k).testBit (plc q).toNat) j : Int)), (0, (j : Int))] [(0, plc q), (0, (btN S j : Int)), (0, (cnt (fun k => (btN S k).testBit (plc q).toNat) j : Int))] _
          obtain ⟨kk, hk7, hqk, hbt⟩ := c5
          have hpl7 : plc q = kk := by rw [hqk]; exact plc_sev kk hk7
          have htn : (plc q).toNat = kk := by omega
          refine ZE.cS [(0, (btN S j : Int)), (0, plc q)] [(0, (cnt (fun k => (btN S k).testBit (plc q).toNat) j : Int))] [(0, (btN S j : Int)), (0, plc q)] d_Ref_share_33 l_Ref_85 rfl rfl rfl rfl rfl rfl ?_
          refine r_has2 (S := btN S j) (k0 := kk) hpl7 (by omega) (by omega) ?_
          show ZE (d + 2) M_Ref_share (gw G A) 36 [(2, o), (0, q), (0, (cnt (fun k => (btN S k).testBit (plc q).toNat) j : Int)), (0, (j : Int))] [(0, b2i ((btN S j).testBit kk = true)), (0, (cnt (fun k => (btN S k).testBit (plc q).toNat) j : Int))] _
          refine ZE.if_eq (tgt := 43) d_Ref_share_36 rfl (zR_b2i _) (fun c36 => ?_) (fun c36 => ?_)
          · replace c36 := b2i_0.mp c36
            have hno : ¬ ((btN S j).testBit (plc q).toNat) = true := by rw [htn]; exact c36
            refine ZE.iconst (n := 0) d_Ref_share_43 ?_
            refine ZE.iadd d_Ref_share_44 ?_
            refine ZE.istore_n (ls2 := [(2, o), (0, q), (0, (cnt (fun k => (btN S k).testBit (plc q).toNat) j : Int) + 0), (0, (j : Int))]) d_Ref_share_45 (Nat.le_of_ble_eq_true rfl) rfl ?_
            refine ZE.iinc (ls2 := [(2, o), (0, q), (0, (cnt (fun k => (btN S k).testBit (plc q).toNat) j : Int) + 0), (0, (j : Int) + 1)]) d_Ref_share_46 rfl rfl ?_
            refine ZE.goto (tgt := 14) d_Ref_share_49 rfl ?_
            have e1 : cnt (fun k => (btN S k).testBit (plc q).toNat) (j + 1) = cnt (fun k => (btN S k).testBit (plc q).toNat) j := if_neg hno
            rw [show (cnt (fun k => (btN S k).testBit (plc q).toNat) j : Int) + 0 = (cnt (fun k => (btN S k).testBit (plc q).toNat) (j + 1) : Int) by rw [e1]; omega, show (j : Int) + 1 = ((j + 1 : Nat) : Int) by omega]
            exact ih (j + 1) (by omega) (by omega)
          · replace c36 := b2i_n0.mp c36
            have hyes : ((btN S j).testBit (plc q).toNat) = true := by rw [htn]; exact c36
            refine ZE.iconst (n := 1) d_Ref_share_39 ?_
            refine ZE.goto (tgt := 44) d_Ref_share_40 rfl ?_
            refine ZE.iadd d_Ref_share_44 ?_
            refine ZE.istore_n (ls2 := [(2, o), (0, q), (0, (cnt (fun k => (btN S k).testBit (plc q).toNat) j : Int) + 1), (0, (j : Int))]) d_Ref_share_45 (Nat.le_of_ble_eq_true rfl) rfl ?_
            refine ZE.iinc (ls2 := [(2, o), (0, q), (0, (cnt (fun k => (btN S k).testBit (plc q).toNat) j : Int) + 1), (0, (j : Int) + 1)]) d_Ref_share_46 rfl rfl ?_
            refine ZE.goto (tgt := 14) d_Ref_share_49 rfl ?_
            have e1 : cnt (fun k => (btN S k).testBit (plc q).toNat) (j + 1) = cnt (fun k => (btN S k).testBit (plc q).toNat) j + 1 := if_pos hyes
            rw [show (cnt (fun k => (btN S k).testBit (plc q).toNat) j : Int) + 1 = (cnt (fun k => (btN S k).testBit (plc q).toNat) (j + 1) : Int) by rw [e1]; omega, show (j : Int) + 1 = ((j + 1 : Nat) : Int) by omega]
            exact ih (j + 1) (by omega) (by omega)
    exact L14 _ 0 (by omega) (Nat.lt_succ_self _)
  · replace c5 := b2i_0.mp c5
    refine ZE.iconst (n := (-1)) d_Ref_share_8 ?_
    refine ZE.iret d_Ref_share_9 rfl ?_
    rw [show shV S q = -1 from if_neg (fun q1 => c5 (hasB_iff.mp q1))] at k
    exact k
set_option maxRecDepth 20000 in
set_option maxHeartbeats 4000000 in
theorem r_negatives {d : Nat} {G : zG} {A : Int → Int → Int} {P : Option zV → zG → Prop} {o : Int} (hK : RK G o) (hF : RF A o) {S : Nat} (hR : RS S A o) (hS7 : S < 128) (hp5 : pop S ≤ 5) (k : P (some (0, ngV S)) (gw G A)) : ZE (d + 2) M_Ref_negatives (gw G A) 0 [(2, o), (9, 0), (9, 0)] [] P := by
  have hpl := prs_288 hS7 hp5
  have hcl := cls_le hS7 hp5
  refine ZE.iconst (n := 0) d_Ref_negatives_0 ?_
  refine ZE.istore_n (ls2 := [(2, o), (0, 0), (9, 0)]) d_Ref_negatives_1 (Nat.le_of_ble_eq_true rfl) rfl ?_
  refine ZE.iconst (n := 0) d_Ref_negatives_2 ?_
  refine ZE.istore_n (ls2 := [(2, o), (0, 0), (0, 0)]) d_Ref_negatives_3 (Nat.le_of_ble_eq_true rfl) rfl ?_
  have L4 : ∀ (t : Nat) (j : Nat) (hj : j ≤ (csF S 1 128).length), (csF S 1 128).length - j < t → ZE (d + 2) M_Ref_negatives (gw G A) 4 [(2, o), (0, (cnt (fun k => decide (rnd (d1 S k) % 2 = 1)) j : Int)), (0, (j : Int))] [] P := by
    intro t
    induction t with
    | zero => intro j hj hm; exact absurd hm (Nat.not_lt_zero _)
    | succ t ih =>
      intro j hj hm
      have hcn := cnt_le (fun k => decide (rnd (d1 S k) % 2 = 1)) j
      refine ZE.iload_n d_Ref_negatives_4 rfl ?_
      refine ZE.aload_n d_Ref_negatives_5 rfl ?_
      refine ZE.getE (v := ((csF S 1 128).length : Int)) d_Ref_negatives_6 f_Ref_195 (tg := 0) rfl hK.1 hR.n1 ?_
      refine ZE.icmp_ge (tgt := 34) d_Ref_negatives_9 rfl (by unfold zR; omega) (by unfold zR; omega) (fun c9 => ?_) (fun c9 => ?_)
      · have e1 : j = (csF S 1 128).length := by omega
        refine ZE.iload_n d_Ref_negatives_34 rfl ?_
        refine ZE.iret d_Ref_negatives_35 rfl ?_
        rw [e1]
        exact k
      · refine ZE.iload_n d_Ref_negatives_12 rfl ?_
        refine ZE.aload_n d_Ref_negatives_13 rfl ?_
        refine ZE.iload_n d_Ref_negatives_14 rfl ?_
        have hok := d1_ok (S := S) (k := j) (by omega)
        have hcd := hR.c1 j (by omega)
        have hcf := (okD_cf hok.1).1
        have hRb := hcf.2.2.2.2.2.1
        refine ZE.cV [(0, (j : Int))] [(0, (cnt (fun k => decide (rnd (d1 S k) % 2 = 1)) j : Int))] [(2, o), (0, (j : Int))] d_Ref_negatives_15 l_Ref_160 rfl rfl rfl rfl rfl rfl hK.1 ?_
        refine r_isNegative (c := (j : Int)) (R := rnd (d1 S j)) hK hF (by omega) hcd.2.1 hRb ?_
        show ZE (d + 2) M_Ref_negatives (gw G A) 18 [(2, o), (0, (cnt (fun k => decide (rnd (d1 S k) % 2 = 1)) j : Int)), (0, (j : Int))] [(0, b2i (rnd (d1 S j) % 2 = 1)), (0, (cnt (fun k => decide (rnd (d1 S k) % 2 = 1)) j : Int))] _
        refine ZE.if_eq (tgt := 25) d_Ref_negatives_18 rfl (zR_b2i _) (fun c18 => ?_) (fun c18 => ?_)
        · replace c18 := b2i_0.mp c18
          have hno : ¬ (decide (rnd (d1 S j) % 2 = 1)) = true := fun q => c18 (of_decide_eq_true q)
          refine ZE.iconst (n := 0) d_Ref_negatives_25 ?_
          refine ZE.iadd d_Ref_negatives_26 ?_
          refine ZE.istore_n (ls2 := [(2, o), (0, (cnt (fun k => decide (rnd (d1 S k) % 2 = 1)) j : Int) + 0), (0, (j : Int))]) d_Ref_negatives_27 (Nat.le_of_ble_eq_true rfl) rfl ?_
          refine ZE.iinc (ls2 := [(2, o), (0, (cnt (fun k => decide (rnd (d1 S k) % 2 = 1)) j : Int) + 0), (0, (j : Int) + 1)]) d_Ref_negatives_28 rfl rfl ?_
          refine ZE.goto (tgt := 4) d_Ref_negatives_31 rfl ?_
          have e1 : cnt (fun k => decide (rnd (d1 S k) % 2 = 1)) (j + 1) = cnt (fun k => decide (rnd (d1 S k) % 2 = 1)) j := if_neg hno
          rw [show (cnt (fun k => decide (rnd (d1 S k) % 2 = 1)) j : Int) + 0 = (cnt (fun k => decide (rnd (d1 S k) % 2 = 1)) (j + 1) : Int) by rw [e1]; omega, show (j : Int) + 1 = ((j + 1 : Nat) : Int) by omega]
          exact ih (j + 1) (by omega) (by omega)
        · replace c18 := b2i_n0.mp c18
          have hyes : (decide (rnd (d1 S j) % 2 = 1)) = true := decide_eq_true c18
          refine ZE.iconst (n := 1) d_Ref_negatives_21 ?_
          refine ZE.goto (tgt := 26) d_Ref_negatives_22 rfl ?_
          refine ZE.iadd d_Ref_negatives_26 ?_
          refine ZE.istore_n (ls2 := [(2, o), (0, (cnt (fun k => decide (rnd (d1 S k) % 2 = 1)) j : Int) + 1), (0, (j : Int))]) d_Ref_negatives_27 (Nat.le_of_ble_eq_true rfl) rfl ?_
          refine ZE.iinc (ls2 := [(2, o), (0, (cnt (fun k => decide (rnd (d1 S k) % 2 = 1)) j : Int) + 1), (0, (j : Int) + 1)]) d_Ref_negatives_28 rfl rfl ?_
          refine ZE.goto (tgt := 4) d_Ref_negatives_31 rfl ?_
          have e1 : cnt (fun k => decide (rnd (d1 S k) % 2 = 1)) (j + 1) = cnt (fun k => decide (rnd (d1 S k) % 2 = 1)) j + 1 := if_pos hyes
          rw [show (cnt (fun k => decide (rnd (d1 S k) % 2 = 1)) j : Int) + 1 = (cnt (fun k => decide (rnd (d1 S k) % 2 = 1)) (j + 1) : Int) by rw [e1]; omega, show (j : Int) + 1 = ((j + 1 : Nat) : Int) by omega]
          exact ih (j + 1) (by omega) (by omega)
  exact L4 _ 0 (by omega) (Nat.lt_succ_self _)
set_option maxRecDepth 20000 in
set_option maxHeartbeats 4000000 in
theorem r_withPairs {d : Nat} {G : zG} {A : Int → Int → Int} {P : Option zV → zG → Prop} {o : Int} (hK : RK G o) (hF : RF A o) {S : Nat} (hR : RS S A o) (hS7 : S < 128) (hp5 : pop S ≤ 5) (k : P (some (0, wpV S)) (gw G A)) : ZE (d + 1) M_Ref_withPairs (gw G A) 0 [(2, o), (9, 0), (9, 0)] [] P := by
  have hpl := prs_288 hS7 hp5
  have hcl := cls_le hS7 hp5
  refine ZE.iconst (n := 0) d_Ref_withPairs_0 ?_
  refine ZE.istore_n (ls2 := [(2, o), (0, 0), (9, 0)]) d_Ref_withPairs_1 (Nat.le_of_ble_eq_true rfl) rfl ?_
  refine ZE.iconst (n := 0) d_Ref_withPairs_2 ?_
  refine ZE.istore_n (ls2 := [(2, o), (0, 0), (0, 0)]) d_Ref_withPairs_3 (Nat.le_of_ble_eq_true rfl) rfl ?_
  have L4 : ∀ (t : Nat) (j : Nat) (hj : j ≤ (csF S 1 128).length), (csF S 1 128).length - j < t → ZE (d + 1) M_Ref_withPairs (gw G A) 4 [(2, o), (0, (cnt (fun k => decide (ix (gP1 S (ux (d1 S k))) (bnd S) ≠ 0)) j : Int)), (0, (j : Int))] [] P := by
    intro t
    induction t with
    | zero => intro j hj hm; exact absurd hm (Nat.not_lt_zero _)
    | succ t ih =>
      intro j hj hm
      have hcn := cnt_le (fun k => decide (ix (gP1 S (ux (d1 S k))) (bnd S) ≠ 0)) j
      have hbb := bnd_le S hS7
      have hil := ix_lt (g := gP1 S (ux (d1 S j))) (bnd S)
      have hp9 : 2 ^ bnd S ≤ 2 ^ 9 := Nat.pow_le_pow_right (by omega) (by omega)
      refine ZE.iload_n d_Ref_withPairs_4 rfl ?_
      refine ZE.aload_n d_Ref_withPairs_5 rfl ?_
      refine ZE.getE (v := ((csF S 1 128).length : Int)) d_Ref_withPairs_6 f_Ref_195 (tg := 0) rfl hK.1 hR.n1 ?_
      refine ZE.icmp_ge (tgt := 35) d_Ref_withPairs_9 rfl (by unfold zR; omega) (by unfold zR; omega) (fun c9 => ?_) (fun c9 => ?_)
      · have e1 : j = (csF S 1 128).length := by omega
        refine ZE.iload_n d_Ref_withPairs_35 rfl ?_
        refine ZE.iret d_Ref_withPairs_36 rfl ?_
        rw [e1]
        exact k
      · refine ZE.iload_n d_Ref_withPairs_12 rfl ?_
        refine ZE.aload_n d_Ref_withPairs_13 rfl ?_
        refine ZE.getE (v := o + 6) d_Ref_withPairs_14 f_Ref_25 (tg := 2) rfl hK.1 hF.a6 ?_
        refine ZE.iload_n d_Ref_withPairs_17 rfl ?_
        refine ZE.ialdE (v := (ix (gP1 S (ux (d1 S j))) (bnd S) : Int)) d_Ref_withPairs_18 hK.k6 (by have hn0 := hK.n6; show 0 ≤ (j : Int) ∧ (j : Int) < gn G (o + 6); omega) (hR.i1 j (by omega)) ?_
        refine ZE.if_ne (tgt := 26) d_Ref_withPairs_19 rfl (by unfold zR; omega) (fun c19 => ?_) (fun c19 => ?_)
        · have hyes : (decide (ix (gP1 S (ux (d1 S j))) (bnd S) ≠ 0)) = true := decide_eq_true (by omega)
          refine ZE.iconst (n := 1) d_Ref_withPairs_26 ?_
          refine ZE.iadd d_Ref_withPairs_27 ?_
          refine ZE.istore_n (ls2 := [(2, o), (0, (cnt (fun k => decide (ix (gP1 S (ux (d1 S k))) (bnd S) ≠ 0)) j : Int) + 1), (0, (j : Int))]) d_Ref_withPairs_28 (Nat.le_of_ble_eq_true rfl) rfl ?_
          refine ZE.iinc (ls2 := [(2, o), (0, (cnt (fun k => decide (ix (gP1 S (ux (d1 S k))) (bnd S) ≠ 0)) j : Int) + 1), (0, (j : Int) + 1)]) d_Ref_withPairs_29 rfl rfl ?_
          refine ZE.goto (tgt := 4) d_Ref_withPairs_32 rfl ?_
          have e1 : cnt (fun k => decide (ix (gP1 S (ux (d1 S k))) (bnd S) ≠ 0)) (j + 1) = cnt (fun k => decide (ix (gP1 S (ux (d1 S k))) (bnd S) ≠ 0)) j + 1 := if_pos hyes
          rw [show (cnt (fun k => decide (ix (gP1 S (ux (d1 S k))) (bnd S) ≠ 0)) j : Int) + 1 = (cnt (fun k => decide (ix (gP1 S (ux (d1 S k))) (bnd S) ≠ 0)) (j + 1) : Int) by rw [e1]; omega, show (j : Int) + 1 = ((j + 1 : Nat) : Int) by omega]
          exact ih (j + 1) (by omega) (by omega)
        · have hno : ¬ (decide (ix (gP1 S (ux (d1 S j))) (bnd S) ≠ 0)) = true := fun q => (of_decide_eq_true q) (by omega)
          refine ZE.iconst (n := 0) d_Ref_withPairs_22 ?_
          refine ZE.goto (tgt := 27) d_Ref_withPairs_23 rfl ?_
          refine ZE.iadd d_Ref_withPairs_27 ?_
          refine ZE.istore_n (ls2 := [(2, o), (0, (cnt (fun k => decide (ix (gP1 S (ux (d1 S k))) (bnd S) ≠ 0)) j : Int) + 0), (0, (j : Int))]) d_Ref_withPairs_28 (Nat.le_of_ble_eq_true rfl) rfl ?_
          refine ZE.iinc (ls2 := [(2, o), (0, (cnt (fun k => decide (ix (gP1 S (ux (d1 S k))) (bnd S) ≠ 0)) j : Int) + 0), (0, (j : Int) + 1)]) d_Ref_withPairs_29 rfl rfl ?_
          refine ZE.goto (tgt := 4) d_Ref_withPairs_32 rfl ?_
          have e1 : cnt (fun k => decide (ix (gP1 S (ux (d1 S k))) (bnd S) ≠ 0)) (j + 1) = cnt (fun k => decide (ix (gP1 S (ux (d1 S k))) (bnd S) ≠ 0)) j := if_neg hno
          rw [show (cnt (fun k => decide (ix (gP1 S (ux (d1 S k))) (bnd S) ≠ 0)) j : Int) + 0 = (cnt (fun k => decide (ix (gP1 S (ux (d1 S k))) (bnd S) ≠ 0)) (j + 1) : Int) by rw [e1]; omega, show (j : Int) + 1 = ((j + 1 : Nat) : Int) by omega]
          exact ih (j + 1) (by omega) (by omega)
  exact L4 _ 0 (by omega) (Nat.lt_succ_self _)
