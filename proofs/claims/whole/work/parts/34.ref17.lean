def ahB (S i k : Nat) (m m2 : Int) : Bool := if msN S i m - msN S k m ≠ 0 then decide (msN S i m - msN S k m < 0) else if msN S i m2 - msN S k m2 ≠ 0 then decide (msN S i m2 - msN S k m2 < 0) else decide (i < k)
def fst1 (f : Nat → Bool) : Nat → Int
  | 0 => -1
  | n + 1 => if fst1 f n = -1 then (if f n = true then (n : Int) else -1) else fst1 f n
theorem fst1_keep {f : Nat → Bool} {j : Nat} (h : fst1 f (j + 1) = (j : Int)) : ∀ n, j + 1 ≤ n → fst1 f n = (j : Int) := by
  intro n hn
  induction n with
  | zero => omega
  | succ n ih =>
    by_cases q : j = n
    · subst q; exact h
    · have h1 := ih (by omega)
      unfold fst1
      rw [h1, if_neg (by omega)]
def orP (S : Nat) (m m2 p : Int) (k : Nat) : Bool := decide ((cnt (fun i => ahB S i k m m2) (prs S).length : Int) = p)
def orV (S : Nat) (m m2 p : Int) : Int := if isM m && isM m2 && inL S p then fst1 (orP S m m2 p) (prs S).length else -1
def tpF (S : Nat) (m : Int) : Nat → Int
  | 0 => -1
  | k + 1 => if tpF S m k = -1 ∨ msN S (tpF S m k).toNat m < msN S k m then (k : Int) else tpF S m k
theorem tpF_R (S : Nat) (m : Int) : ∀ k, -1 ≤ tpF S m k ∧ tpF S m k < (k : Int) + 1 ∧ (tpF S m k ≠ -1 → tpF S m k < k) := by
  intro k
  induction k with
  | zero => exact ⟨by show (-1 : Int) ≤ -1; omega, by show (-1 : Int) < 0 + 1; omega, fun h => absurd rfl h⟩
  | succ k ih => unfold tpF; split <;> omega
def tpV (S : Nat) (m : Int) : Int := if isM m then tpF S m (prs S).length else -1
set_option maxRecDepth 20000 in
set_option maxHeartbeats 4000000 in
theorem r_isAhead {d : Nat} {G : zG} {A : Int → Int → Int} {P : Option zV → zG → Prop} {o : Int} (hK : RK G o) (hF : RF A o) {S : Nat} (hR : RS S A o) (hS7 : S < 128) (hp5 : pop S ≤ 5) {pn kn : Nat} (hpn : pn < (prs S).length) (hkn : kn < (prs S).length) {m m2 : Int} (hm : 0 ≤ m ∧ m ≤ 8) (hm2 : 0 ≤ m2 ∧ m2 ≤ 8) (k : P (some (0, b2i (ahB S pn kn m m2 = true))) (gw G A)) : ZE (d + 3) M_Ref_isAhead (gw G A) 0 [(2, o), (0, (pn : Int)), (0, (kn : Int)), (0, m), (0, m2), (9, 0)] [] P := by
  have hpl := prs_288 hS7 hp5
  have hcl := cls_le hS7 hp5
  have a1 := msN_R hS7 hp5 hpn m
  have a2 := msN_R hS7 hp5 hkn m
  have a3 := msN_R hS7 hp5 hpn m2
  have a4 := msN_R hS7 hp5 hkn m2
  refine ZE.aload_n d_Ref_isAhead_0 rfl ?_
  refine ZE.iload_n d_Ref_isAhead_1 rfl ?_
  refine ZE.iload_n d_Ref_isAhead_2 rfl ?_
  refine ZE.cV [(0, (pn : Int)), (0, m)] [] [(2, o), (0, (pn : Int)), (0, m), (9, 0)] d_Ref_isAhead_3 l_Ref_293 rfl rfl rfl rfl rfl rfl hK.1 ?_
  refine r_measureOf (pn := pn) (m := m) hK hF hR hS7 hp5 (by omega) hm ?_
  show ZE (d + 3) M_Ref_isAhead (gw G A) 6 [(2, o), (0, (pn : Int)), (0, (kn : Int)), (0, m), (0, m2), (9, 0)] [(0, msN S pn m)] _
  refine ZE.aload_n d_Ref_isAhead_6 rfl ?_
  refine ZE.iload_n d_Ref_isAhead_7 rfl ?_
  refine ZE.iload_n d_Ref_isAhead_8 rfl ?_
  refine ZE.cV [(0, (kn : Int)), (0, m)] [(0, msN S pn m)] [(2, o), (0, (kn : Int)), (0, m), (9, 0)] d_Ref_isAhead_9 l_Ref_293 rfl rfl rfl rfl rfl rfl hK.1 ?_
  refine r_measureOf (pn := kn) (m := m) hK hF hR hS7 hp5 (by omega) hm ?_
  show ZE (d + 3) M_Ref_isAhead (gw G A) 12 [(2, o), (0, (pn : Int)), (0, (kn : Int)), (0, m), (0, m2), (9, 0)] [(0, msN S kn m), (0, msN S pn m)] _
  refine ZE.isub d_Ref_isAhead_12 ?_
  refine ZE.istore (ls2 := [(2, o), (0, (pn : Int)), (0, (kn : Int)), (0, m), (0, m2), (0, (msN S pn m) - (msN S kn m))]) d_Ref_isAhead_13 (Nat.le_of_ble_eq_true rfl) rfl ?_
  refine ZE.iload d_Ref_isAhead_15 rfl ?_
  refine ZE.if_ne (tgt := 37) d_Ref_isAhead_17 rfl (by unfold zR; omega) (fun c17 => ?_) (fun c17 => ?_)
  · refine ZE.iload d_Ref_isAhead_37 rfl ?_
    refine ZE.if_eq (tgt := 55) d_Ref_isAhead_39 rfl (by unfold zR; omega) (fun c39 => ?_) (fun c39 => ?_)
    · refine ZE.iload_n d_Ref_isAhead_55 rfl ?_
      refine ZE.iload_n d_Ref_isAhead_56 rfl ?_
      refine ZE.icmp_ge (tgt := 64) d_Ref_isAhead_57 rfl (by unfold zR; omega) (by unfold zR; omega) (fun c57 => ?_) (fun c57 => ?_)
      · refine ZE.iconst (n := 0) d_Ref_isAhead_64 ?_
        refine ZE.zret d_Ref_isAhead_65 rfl (by omega) ?_
        rw [b2i_f (show ¬ ahB S pn kn m m2 = true from ?_)] at k
        · exact k
        · unfold ahB
          repeat' split
          all_goals first
          | (exact fun q => absurd (of_decide_eq_true q) (by omega))
          | (exfalso; omega)
      · refine ZE.iconst (n := 1) d_Ref_isAhead_60 ?_
        refine ZE.goto (tgt := 65) d_Ref_isAhead_61 rfl ?_
        refine ZE.zret d_Ref_isAhead_65 rfl (by omega) ?_
        rw [b2i_t (show ahB S pn kn m m2 = true from ?_)] at k
        · exact k
        · unfold ahB
          repeat' split
          all_goals first
          | (exact decide_eq_true (by omega))
          | (exfalso; omega)
    · refine ZE.iload d_Ref_isAhead_42 rfl ?_
      refine ZE.if_ge (tgt := 51) d_Ref_isAhead_44 rfl (by unfold zR; omega) (fun c44 => ?_) (fun c44 => ?_)
      · refine ZE.iconst (n := 0) d_Ref_isAhead_51 ?_
        refine ZE.goto (tgt := 65) d_Ref_isAhead_52 rfl ?_
        refine ZE.zret d_Ref_isAhead_65 rfl (by omega) ?_
        rw [b2i_f (show ¬ ahB S pn kn m m2 = true from ?_)] at k
        · exact k
        · unfold ahB
          repeat' split
          all_goals first
          | (exact fun q => absurd (of_decide_eq_true q) (by omega))
          | (exfalso; omega)
      · refine ZE.iconst (n := 1) d_Ref_isAhead_47 ?_
        refine ZE.goto (tgt := 65) d_Ref_isAhead_48 rfl ?_
        refine ZE.zret d_Ref_isAhead_65 rfl (by omega) ?_
        rw [b2i_t (show ahB S pn kn m m2 = true from ?_)] at k
        · exact k
        · unfold ahB
          repeat' split
          all_goals first
          | (exact decide_eq_true (by omega))
          | (exfalso; omega)
  · refine ZE.aload_n d_Ref_isAhead_20 rfl ?_
    refine ZE.iload_n d_Ref_isAhead_21 rfl ?_
    refine ZE.iload d_Ref_isAhead_22 rfl ?_
    refine ZE.cV [(0, (pn : Int)), (0, m2)] [] [(2, o), (0, (pn : Int)), (0, m2), (9, 0)] d_Ref_isAhead_24 l_Ref_293 rfl rfl rfl rfl rfl rfl hK.1 ?_
    refine r_measureOf (pn := pn) (m := m2) hK hF hR hS7 hp5 (by omega) hm2 ?_
    show ZE (d + 3) M_Ref_isAhead (gw G A) 27 [(2, o), (0, (pn : Int)), (0, (kn : Int)), (0, m), (0, m2), (0, (msN S pn m) - (msN S kn m))] [(0, msN S pn m2)] _
    refine ZE.aload_n d_Ref_isAhead_27 rfl ?_
    refine ZE.iload_n d_Ref_isAhead_28 rfl ?_
    refine ZE.iload d_Ref_isAhead_29 rfl ?_
    refine ZE.cV [(0, (kn : Int)), (0, m2)] [(0, msN S pn m2)] [(2, o), (0, (kn : Int)), (0, m2), (9, 0)] d_Ref_isAhead_31 l_Ref_293 rfl rfl rfl rfl rfl rfl hK.1 ?_
    refine r_measureOf (pn := kn) (m := m2) hK hF hR hS7 hp5 (by omega) hm2 ?_
    show ZE (d + 3) M_Ref_isAhead (gw G A) 34 [(2, o), (0, (pn : Int)), (0, (kn : Int)), (0, m), (0, m2), (0, (msN S pn m) - (msN S kn m))] [(0, msN S kn m2), (0, msN S pn m2)] _
    refine ZE.isub d_Ref_isAhead_34 ?_
    refine ZE.istore (ls2 := [(2, o), (0, (pn : Int)), (0, (kn : Int)), (0, m), (0, m2), (0, (msN S pn m2) - (msN S kn m2))]) d_Ref_isAhead_35 (Nat.le_of_ble_eq_true rfl) rfl ?_
    refine ZE.iload d_Ref_isAhead_37 rfl ?_
    refine ZE.if_eq (tgt := 55) d_Ref_isAhead_39 rfl (by unfold zR; omega) (fun c39 => ?_) (fun c39 => ?_)
    · refine ZE.iload_n d_Ref_isAhead_55 rfl ?_
      refine ZE.iload_n d_Ref_isAhead_56 rfl ?_
      refine ZE.icmp_ge (tgt := 64) d_Ref_isAhead_57 rfl (by unfold zR; omega) (by unfold zR; omega) (fun c57 => ?_) (fun c57 => ?_)
      · refine ZE.iconst (n := 0) d_Ref_isAhead_64 ?_
        refine ZE.zret d_Ref_isAhead_65 rfl (by omega) ?_
        rw [b2i_f (show ¬ ahB S pn kn m m2 = true from ?_)] at k
        · exact k
        · unfold ahB
          repeat' split
          all_goals first
          | (exact fun q => absurd (of_decide_eq_true q) (by omega))
          | (exfalso; omega)
      · refine ZE.iconst (n := 1) d_Ref_isAhead_60 ?_
        refine ZE.goto (tgt := 65) d_Ref_isAhead_61 rfl ?_
        refine ZE.zret d_Ref_isAhead_65 rfl (by omega) ?_
        rw [b2i_t (show ahB S pn kn m m2 = true from ?_)] at k
        · exact k
        · unfold ahB
          repeat' split
          all_goals first
          | (exact decide_eq_true (by omega))
          | (exfalso; omega)
    · refine ZE.iload d_Ref_isAhead_42 rfl ?_
      refine ZE.if_ge (tgt := 51) d_Ref_isAhead_44 rfl (by unfold zR; omega) (fun c44 => ?_) (fun c44 => ?_)
      · refine ZE.iconst (n := 0) d_Ref_isAhead_51 ?_
        refine ZE.goto (tgt := 65) d_Ref_isAhead_52 rfl ?_
        refine ZE.zret d_Ref_isAhead_65 rfl (by omega) ?_
        rw [b2i_f (show ¬ ahB S pn kn m m2 = true from ?_)] at k
        · exact k
        · unfold ahB
          repeat' split
          all_goals first
          | (exact fun q => absurd (of_decide_eq_true q) (by omega))
          | (exfalso; omega)
      · refine ZE.iconst (n := 1) d_Ref_isAhead_47 ?_
        refine ZE.goto (tgt := 65) d_Ref_isAhead_48 rfl ?_
        refine ZE.zret d_Ref_isAhead_65 rfl (by omega) ?_
        rw [b2i_t (show ahB S pn kn m m2 = true from ?_)] at k
        · exact k
        · unfold ahB
          repeat' split
          all_goals first
          | (exact decide_eq_true (by omega))
          | (exfalso; omega)
set_option maxRecDepth 20000 in
set_option maxHeartbeats 4000000 in
theorem r_order {d : Nat} {G : zG} {A : Int → Int → Int} {P : Option zV → zG → Prop} {o : Int} (hK : RK G o) (hF : RF A o) {S : Nat} (hR : RS S A o) (hS7 : S < 128) (hp5 : pop S ≤ 5) {m m2 p : Int} (hm : zR m) (hm2 : zR m2) (hp : zR p) (k : P (some (0, orV S m m2 p)) (gw G A)) : ZE (d + 4) M_Ref_order (gw G A) 0 [(2, o), (0, m), (0, m2), (0, p), (9, 0), (9, 0), (9, 0)] [] P := by
  have hpl := prs_288 hS7 hp5
  have hcl := cls_le hS7 hp5
  refine ZE.iload_n d_Ref_order_0 rfl ?_
  refine ZE.cS [(0, m)] [] [(0, m)] d_Ref_order_1 l_Ref_290 rfl rfl rfl rfl rfl rfl ?_
  refine r_isMeasure hm ?_
  show ZE (d + 4) M_Ref_order (gw G A) 4 [(2, o), (0, m), (0, m2), (0, p), (9, 0), (9, 0), (9, 0)] [(0, b2i (0 ≤ m ∧ m ≤ 8))] _
  refine ZE.if_eq (tgt := 22) d_Ref_order_4 rfl (zR_b2i _) (fun c4 => ?_) (fun c4 => ?_)
  · replace c4 := b2i_0.mp c4
    refine ZE.iconst (n := (-1)) d_Ref_order_22 ?_
    refine ZE.iret d_Ref_order_23 rfl ?_
    rw [show orV S m m2 p = -1 from if_neg ?_] at k
    · exact k
    · intro q
      rw [Bool.and_eq_true, Bool.and_eq_true] at q
      first
      | exact c4 (of_decide_eq_true q.1.1)
      | exact c11 (of_decide_eq_true q.1.2)
      | exact c19 (of_decide_eq_true q.2)
  · replace c4 := b2i_n0.mp c4
    refine ZE.iload_n d_Ref_order_7 rfl ?_
    refine ZE.cS [(0, m2)] [] [(0, m2)] d_Ref_order_8 l_Ref_290 rfl rfl rfl rfl rfl rfl ?_
    refine r_isMeasure hm2 ?_
    show ZE (d + 4) M_Ref_order (gw G A) 11 [(2, o), (0, m), (0, m2), (0, p), (9, 0), (9, 0), (9, 0)] [(0, b2i (0 ≤ m2 ∧ m2 ≤ 8))] _
    refine ZE.if_eq (tgt := 22) d_Ref_order_11 rfl (zR_b2i _) (fun c11 => ?_) (fun c11 => ?_)
    · replace c11 := b2i_0.mp c11
      refine ZE.iconst (n := (-1)) d_Ref_order_22 ?_
      refine ZE.iret d_Ref_order_23 rfl ?_
      rw [show orV S m m2 p = -1 from if_neg ?_] at k
      · exact k
      · intro q
        rw [Bool.and_eq_true, Bool.and_eq_true] at q
        first
        | exact c4 (of_decide_eq_true q.1.1)
        | exact c11 (of_decide_eq_true q.1.2)
        | exact c19 (of_decide_eq_true q.2)
    · replace c11 := b2i_n0.mp c11
      refine ZE.aload_n d_Ref_order_14 rfl ?_
      refine ZE.iload_n d_Ref_order_15 rfl ?_
      have hpl0 := prs_len hS7
      refine ZE.cV [(0, p)] [] [(2, o), (0, p)] d_Ref_order_16 l_Ref_269 rfl rfl rfl rfl rfl rfl hK.1 ?_
      refine r_isPair (m := (prs S).length) hK hF hR.np (by omega) hp ?_
      show ZE (d + 4) M_Ref_order (gw G A) 19 [(2, o), (0, m), (0, m2), (0, p), (9, 0), (9, 0), (9, 0)] [(0, b2i (0 ≤ p ∧ p < ((prs S).length : Int)))] _
      refine ZE.if_ne (tgt := 24) d_Ref_order_19 rfl (zR_b2i _) (fun c19 => ?_) (fun c19 => ?_)
      · replace c19 := b2i_n0.mp c19
        have hall : (isM m && isM m2 && inL S p) = true := by rw [Bool.and_eq_true, Bool.and_eq_true]; exact ⟨⟨decide_eq_true c4, decide_eq_true c11⟩, decide_eq_true c19⟩
        have hpz : 0 ≤ p ∧ p < ((prs S).length : Int) := c19
        refine ZE.iconst (n := 0) d_Ref_order_24 ?_
        refine ZE.istore (ls2 := [(2, o), (0, m), (0, m2), (0, p), (0, 0), (9, 0), (9, 0)]) d_Ref_order_25 (Nat.le_of_ble_eq_true rfl) rfl ?_
        have L27 : ∀ (t : Nat) (j : Nat) (hj : j ≤ (prs S).length) (hfs : fst1 (orP S m m2 p) j = -1), (prs S).length - j < t → ZE (d + 4) M_Ref_order (gw G A) 27 [(2, o), (0, m), (0, m2), (0, p), (0, (j : Int)), (9, 0), (9, 0)] [] P := by
          intro t
          induction t with
          | zero => intro j hj hfs hm; exact absurd hm (Nat.not_lt_zero _)
          | succ t ih =>
            intro j hj hfs hm
            have ihO := ih
            have hmO := hm
            refine ZE.iload d_Ref_order_27 rfl ?_
            refine ZE.aload_n d_Ref_order_29 rfl ?_
            refine ZE.getE (v := ((prs S).length : Int)) d_Ref_order_30 f_Ref_167 (tg := 0) rfl hK.1 hR.np ?_
            refine ZE.icmp_ge (tgt := 95) d_Ref_order_33 rfl (by unfold zR; omega) (by unfold zR; omega) (fun c33 => ?_) (fun c33 => ?_)
            · have e1 : j = (prs S).length := by omega
              refine ZE.iconst (n := (-1)) d_Ref_order_95 ?_
              refine ZE.iret d_Ref_order_96 rfl ?_
              rw [show orV S m m2 p = -1 from (if_pos hall).trans (by rw [← e1]; exact hfs)] at k
              exact k
            · refine ZE.iconst (n := 0) d_Ref_order_36 ?_
              refine ZE.istore (ls2 := [(2, o), (0, m), (0, m2), (0, p), (0, (j : Int)), (0, 0), (9, 0)]) d_Ref_order_37 (Nat.le_of_ble_eq_true rfl) rfl ?_
              refine ZE.iconst (n := 0) d_Ref_order_39 ?_
              refine ZE.istore (ls2 := [(2, o), (0, m), (0, m2), (0, p), (0, (j : Int)), (0, 0), (0, 0)]) d_Ref_order_40 (Nat.le_of_ble_eq_true rfl) rfl ?_
              have L42 : ∀ (t : Nat) (i : Nat) (hi : i ≤ (prs S).length), (prs S).length - i < t → ZE (d + 4) M_Ref_order (gw G A) 42 [(2, o), (0, m), (0, m2), (0, p), (0, (j : Int)), (0, (cnt (fun i => ahB S i j m m2) i : Int)), (0, (i : Int))] [] P := by
                intro t
                induction t with
                | zero => intro i hi hm; exact absurd hm (Nat.not_lt_zero _)
                | succ t ih =>
                  intro i hi hm
                  have hcn := cnt_le (fun i => ahB S i j m m2) i
                  refine ZE.iload d_Ref_order_42 rfl ?_
                  refine ZE.aload_n d_Ref_order_44 rfl ?_
                  refine ZE.getE (v := ((prs S).length : Int)) d_Ref_order_45 f_Ref_167 (tg := 0) rfl hK.1 hR.np ?_
                  refine ZE.icmp_ge (tgt := 80) d_Ref_order_48 rfl (by unfold zR; omega) (by unfold zR; omega) (fun c48 => ?_) (fun c48 => ?_)
                  · have e2 : i = (prs S).length := by omega
                    rw [e2]
                    have hcnN := cnt_le (fun i => ahB S i j m m2) (prs S).length
                    refine ZE.iload d_Ref_order_80 rfl ?_
                    refine ZE.iload_n d_Ref_order_82 rfl ?_
                    refine ZE.icmp_ne (tgt := 89) d_Ref_order_83 rfl (by unfold zR; omega) (by unfold zR; omega) (fun c83 => ?_) (fun c83 => ?_)
                    · refine ZE.iinc (ls2 := [(2, o), (0, m), (0, m2), (0, p), (0, (j : Int) + 1), (0, (cnt (fun i => ahB S i j m m2) (prs S).length : Int)), (0, ((prs S).length : Int))]) d_Ref_order_89 rfl rfl ?_
                      refine ZE.goto (tgt := 27) d_Ref_order_92 rfl ?_
                      refine ZE.mask [true, true, true, true, true, false, false] ?_
                      show ZE (d + 4) M_Ref_order (gw G A) 27 [(2, o), (0, m), (0, m2), (0, p), (0, (j : Int) + 1), (9, 0), (9, 0)] [] _
                      rw [show (j : Int) + 1 = ((j + 1 : Nat) : Int) by omega]
                      refine ihO (j + 1) (by omega) ?_ (by omega)
                      show (if fst1 (orP S m m2 p) j = -1 then (if orP S m m2 p j = true then (j : Int) else -1) else fst1 (orP S m m2 p) j) = -1
                      rw [if_pos hfs, if_neg (show ¬ orP S m m2 p j = true from fun q => c83 (of_decide_eq_true q))]
                    · refine ZE.iload d_Ref_order_86 rfl ?_
                      refine ZE.iret d_Ref_order_88 rfl ?_
                      have hfj : fst1 (orP S m m2 p) (j + 1) = (j : Int) := by
                        show (if fst1 (orP S m m2 p) j = -1 then (if orP S m m2 p j = true then (j : Int) else -1) else fst1 (orP S m m2 p) j) = (j : Int)
                        rw [if_pos hfs, if_pos (show orP S m m2 p j = true from decide_eq_true (by omega))]
                      rw [show orV S m m2 p = (j : Int) from (if_pos hall).trans (fst1_keep hfj _ (by omega))] at k
                      exact k
                  · refine ZE.iload d_Ref_order_51 rfl ?_
                    refine ZE.aload_n d_Ref_order_53 rfl ?_
                    refine ZE.iload d_Ref_order_54 rfl ?_
                    refine ZE.iload d_Ref_order_56 rfl ?_
                    refine ZE.iload_n d_Ref_order_58 rfl ?_
                    refine ZE.iload_n d_Ref_order_59 rfl ?_
                    refine ZE.cV [(0, (i : Int)), (0, (j : Int)), (0, m), (0, m2)] [(0, (cnt (fun i => ahB S i j m m2) i : Int))] [(2, o), (0, (i : Int)), (0, (j : Int)), (0, m), (0, m2), (9, 0)] d_Ref_order_60 l_Ref_296 rfl rfl rfl rfl rfl rfl hK.1 ?_
                    refine r_isAhead (pn := i) (kn := j) (m := m) (m2 := m2) hK hF hR hS7 hp5 (by omega) (by omega) c4 c11 ?_
                    show ZE (d + 4) M_Ref_order (gw G A) 63 [(2, o), (0, m), (0, m2), (0, p), (0, (j : Int)), (0, (cnt (fun i => ahB S i j m m2) i : Int)), (0, (i : Int))] [(0, b2i (ahB S i j m m2 = true)), (0, (cnt (fun i => ahB S i j m m2) i : Int))] _
                    refine ZE.if_eq (tgt := 70) d_Ref_order_63 rfl (zR_b2i _) (fun c63 => ?_) (fun c63 => ?_)
                    · replace c63 := b2i_0.mp c63
                      refine ZE.iconst (n := 0) d_Ref_order_70 ?_
                      refine ZE.iadd d_Ref_order_71 ?_
                      refine ZE.istore (ls2 := [(2, o), (0, m), (0, m2), (0, p), (0, (j : Int)), (0, (cnt (fun i => ahB S i j m m2) i : Int) + 0), (0, (i : Int))]) d_Ref_order_72 (Nat.le_of_ble_eq_true rfl) rfl ?_
                      refine ZE.iinc (ls2 := [(2, o), (0, m), (0, m2), (0, p), (0, (j : Int)), (0, (cnt (fun i => ahB S i j m m2) i : Int) + 0), (0, (i : Int) + 1)]) d_Ref_order_74 rfl rfl ?_
                      refine ZE.goto (tgt := 42) d_Ref_order_77 rfl ?_
                      have e1 : cnt (fun i => ahB S i j m m2) (i + 1) = cnt (fun i => ahB S i j m m2) i := if_neg c63
                      rw [show (cnt (fun i => ahB S i j m m2) i : Int) + 0 = (cnt (fun i => ahB S i j m m2) (i + 1) : Int) by rw [e1]; omega, show (i : Int) + 1 = ((i + 1 : Nat) : Int) by omega]
                      exact ih (i + 1) (by omega) (by omega)
                    · replace c63 := b2i_n0.mp c63
                      refine ZE.iconst (n := 1) d_Ref_order_66 ?_
                      refine ZE.goto (tgt := 71) d_Ref_order_67 rfl ?_
                      refine ZE.iadd d_Ref_order_71 ?_
                      refine ZE.istore (ls2 := [(2, o), (0, m), (0, m2), (0, p), (0, (j : Int)), (0, (cnt (fun i => ahB S i j m m2) i : Int) + 1), (0, (i : Int))]) d_Ref_order_72 (Nat.le_of_ble_eq_true rfl) rfl ?_
                      refine ZE.iinc (ls2 := [(2, o), (0, m), (0, m2), (0, p), (0, (j : Int)), (0, (cnt (fun i => ahB S i j m m2) i : Int) + 1), (0, (i : Int) + 1)]) d_Ref_order_74 rfl rfl ?_
                      refine ZE.goto (tgt := 42) d_Ref_order_77 rfl ?_
                      have e1 : cnt (fun i => ahB S i j m m2) (i + 1) = cnt (fun i => ahB S i j m m2) i + 1 := if_pos c63
                      rw [show (cnt (fun i => ahB S i j m m2) i : Int) + 1 = (cnt (fun i => ahB S i j m m2) (i + 1) : Int) by rw [e1]; omega, show (i : Int) + 1 = ((i + 1 : Nat) : Int) by omega]
                      exact ih (i + 1) (by omega) (by omega)
              exact L42 _ 0 (by omega) (Nat.lt_succ_self _)
        exact L27 _ 0 (by omega) rfl (Nat.lt_succ_self _)
      · replace c19 := b2i_0.mp c19
        refine ZE.iconst (n := (-1)) d_Ref_order_22 ?_
        refine ZE.iret d_Ref_order_23 rfl ?_
        rw [show orV S m m2 p = -1 from if_neg ?_] at k
        · exact k
        · intro q
          rw [Bool.and_eq_true, Bool.and_eq_true] at q
          first
          | exact c4 (of_decide_eq_true q.1.1)
          | exact c11 (of_decide_eq_true q.1.2)
          | exact c19 (of_decide_eq_true q.2)
theorem r_measureOf2 {d : Nat} {G : zG} {A : Int → Int → Int} {P : Option zV → zG → Prop} {o : Int} {S pn : Nat} {p m : Int} (hpe : p = (pn : Int)) (hK : RK G o) (hF : RF A o) (hR : RS S A o) (hS7 : S < 128) (hp5 : pop S ≤ 5) (hk : pn < (prs S).length) (hm : 0 ≤ m ∧ m ≤ 8) (k : P (some (0, msN S pn m)) (gw G A)) : ZE (d + 2) M_Ref_measureOf (gw G A) 0 [(2, o), (0, p), (0, m), (9, 0)] [] P := by
  rw [hpe]
  exact r_measureOf hK hF hR hS7 hp5 hk hm k
set_option maxRecDepth 20000 in
set_option maxHeartbeats 4000000 in
theorem r_top {d : Nat} {G : zG} {A : Int → Int → Int} {P : Option zV → zG → Prop} {o : Int} (hK : RK G o) (hF : RF A o) {S : Nat} (hR : RS S A o) (hS7 : S < 128) (hp5 : pop S ≤ 5) {m : Int} (hm : zR m) (k : P (some (0, tpV S m)) (gw G A)) : ZE (d + 3) M_Ref_top (gw G A) 0 [(2, o), (0, m), (9, 0), (9, 0)] [] P := by
  have hpl := prs_288 hS7 hp5
  have hcl := cls_le hS7 hp5
  refine ZE.iload_n d_Ref_top_0 rfl ?_
  refine ZE.cS [(0, m)] [] [(0, m)] d_Ref_top_1 l_Ref_290 rfl rfl rfl rfl rfl rfl ?_
  refine r_isMeasure hm ?_
  show ZE (d + 3) M_Ref_top (gw G A) 4 [(2, o), (0, m), (9, 0), (9, 0)] [(0, b2i (0 ≤ m ∧ m ≤ 8))] _
  refine ZE.if_ne (tgt := 9) d_Ref_top_4 rfl (zR_b2i _) (fun c4 => ?_) (fun c4 => ?_)
  · replace c4 := b2i_n0.mp c4
    refine ZE.iconst (n := (-1)) d_Ref_top_9 ?_
    refine ZE.istore_n (ls2 := [(2, o), (0, m), (0, (-1)), (9, 0)]) d_Ref_top_10 (Nat.le_of_ble_eq_true rfl) rfl ?_
    refine ZE.iconst (n := 0) d_Ref_top_11 ?_
    refine ZE.istore_n (ls2 := [(2, o), (0, m), (0, (-1)), (0, 0)]) d_Ref_top_12 (Nat.le_of_ble_eq_true rfl) rfl ?_
    have L13 : ∀ (t : Nat) (j : Nat) (hj : j ≤ (prs S).length), (prs S).length - j < t → ZE (d + 3) M_Ref_top (gw G A) 13 [(2, o), (0, m), (0, tpF S m j), (0, (j : Int))] [] P := by
      intro t
      induction t with
      | zero => intro j hj hm; exact absurd hm (Nat.not_lt_zero _)
      | succ t ih =>
        intro j hj hm
        have htp := tpF_R S m j
        refine ZE.iload_n d_Ref_top_13 rfl ?_
        refine ZE.aload_n d_Ref_top_14 rfl ?_
        refine ZE.getE (v := ((prs S).length : Int)) d_Ref_top_15 f_Ref_167 (tg := 0) rfl hK.1 hR.np ?_
        refine ZE.icmp_ge (tgt := 49) d_Ref_top_18 rfl (by unfold zR; omega) (by unfold zR; omega) (fun c18 => ?_) (fun c18 => ?_)
        · have e1 : j = (prs S).length := by omega
          refine ZE.iload_n d_Ref_top_49 rfl ?_
          refine ZE.iret d_Ref_top_50 rfl ?_
          rw [show tpV S m = tpF S m j from (if_pos (decide_eq_true c4)).trans (by rw [e1])] at k
          exact k
        · refine ZE.iload_n d_Ref_top_21 rfl ?_
          refine ZE.iconst (n := (-1)) d_Ref_top_22 ?_
          refine ZE.icmp_eq (tgt := 41) d_Ref_top_23 rfl (by unfold zR; omega) (by unfold zR; omega) (fun c23 => ?_) (fun c23 => ?_)
          · refine ZE.iload_n d_Ref_top_41 rfl ?_
            refine ZE.istore_n (ls2 := [(2, o), (0, m), (0, (j : Int)), (0, (j : Int))]) d_Ref_top_42 (Nat.le_of_ble_eq_true rfl) rfl ?_
            refine ZE.iinc (ls2 := [(2, o), (0, m), (0, (j : Int)), (0, (j : Int) + 1)]) d_Ref_top_43 rfl rfl ?_
            refine ZE.goto (tgt := 13) d_Ref_top_46 rfl ?_
            have e1 : tpF S m (j + 1) = (j : Int) := if_pos (by first | exact Or.inl (by omega) | exact Or.inr (by omega))
            have e2 : ((j + 1 : Nat) : Int) = (j : Int) + 1 := by omega
            have ih1 := ih (j + 1) (by omega) (by omega)
            rw [e1, e2] at ih1
            exact ih1
          · refine ZE.aload_n d_Ref_top_26 rfl ?_
            refine ZE.iload_n d_Ref_top_27 rfl ?_
            refine ZE.iload_n d_Ref_top_28 rfl ?_
            have a1 := msN_R hS7 hp5 (k := j) (by omega) m
            refine ZE.cV [(0, (j : Int)), (0, m)] [] [(2, o), (0, (j : Int)), (0, m), (9, 0)] d_Ref_top_29 l_Ref_293 rfl rfl rfl rfl rfl rfl hK.1 ?_
            refine r_measureOf (pn := j) hK hF hR hS7 hp5 (by omega) c4 ?_
            show ZE (d + 3) M_Ref_top (gw G A) 32 [(2, o), (0, m), (0, tpF S m j), (0, (j : Int))] [(0, msN S j m)] _
            refine ZE.aload_n d_Ref_top_32 rfl ?_
            refine ZE.iload_n d_Ref_top_33 rfl ?_
            refine ZE.iload_n d_Ref_top_34 rfl ?_
            have htn : tpF S m j = (((tpF S m j).toNat : Nat) : Int) := by omega
            have a2 := msN_R hS7 hp5 (k := (tpF S m j).toNat) (by omega) m
            refine ZE.cV [(0, tpF S m j), (0, m)] [(0, msN S j m)] [(2, o), (0, tpF S m j), (0, m), (9, 0)] d_Ref_top_35 l_Ref_293 rfl rfl rfl rfl rfl rfl hK.1 ?_
            refine r_measureOf2 htn hK hF hR hS7 hp5 (by omega) c4 ?_
            show ZE (d + 3) M_Ref_top (gw G A) 38 [(2, o), (0, m), (0, tpF S m j), (0, (j : Int))] [(0, msN S (tpF S m j).toNat m), (0, msN S j m)] _
            refine ZE.icmp_le (tgt := 43) d_Ref_top_38 rfl (by unfold zR; omega) (by unfold zR; omega) (fun c38 => ?_) (fun c38 => ?_)
            · refine ZE.iinc (ls2 := [(2, o), (0, m), (0, tpF S m j), (0, (j : Int) + 1)]) d_Ref_top_43 rfl rfl ?_
              refine ZE.goto (tgt := 13) d_Ref_top_46 rfl ?_
              have e1 : tpF S m (j + 1) = tpF S m j := if_neg (by omega)
              have e2 : ((j + 1 : Nat) : Int) = (j : Int) + 1 := by omega
              have ih1 := ih (j + 1) (by omega) (by omega)
              rw [e1, e2] at ih1
              exact ih1
            · refine ZE.iload_n d_Ref_top_41 rfl ?_
              refine ZE.istore_n (ls2 := [(2, o), (0, m), (0, (j : Int)), (0, (j : Int))]) d_Ref_top_42 (Nat.le_of_ble_eq_true rfl) rfl ?_
              refine ZE.iinc (ls2 := [(2, o), (0, m), (0, (j : Int)), (0, (j : Int) + 1)]) d_Ref_top_43 rfl rfl ?_
              refine ZE.goto (tgt := 13) d_Ref_top_46 rfl ?_
              have e1 : tpF S m (j + 1) = (j : Int) := if_pos (by first | exact Or.inl (by omega) | exact Or.inr (by omega))
              have e2 : ((j + 1 : Nat) : Int) = (j : Int) + 1 := by omega
              have ih1 := ih (j + 1) (by omega) (by omega)
              rw [e1, e2] at ih1
              exact ih1
    exact L13 _ 0 (by omega) (Nat.lt_succ_self _)
  · replace c4 := b2i_0.mp c4
    refine ZE.iconst (n := (-1)) d_Ref_top_7 ?_
    refine ZE.iret d_Ref_top_8 rfl ?_
    rw [show tpV S m = -1 from if_neg (fun q => c4 (of_decide_eq_true q))] at k
    exact k
