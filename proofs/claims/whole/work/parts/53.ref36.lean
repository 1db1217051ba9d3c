def isnD (tf : Nat → Int) : Nat → Bool
  | 0 => true
  | k + 1 => isnD tf k && decide (48 ≤ tf k ∧ tf k ≤ 57)
theorem isnD_f {tf : Nat → Int} {j : Nat} (h : ¬ (48 ≤ tf j ∧ tf j ≤ 57)) : ∀ n, j < n → isnD tf n = false := by
  intro n
  induction n with
  | zero => intro q; exact absurd q (Nat.not_lt_zero _)
  | succ n ih =>
    intro q
    unfold isnD
    by_cases e : j = n
    · subst e; rw [decide_eq_false h, Bool.and_false]
    · rw [ih (by omega)]; rfl
theorem isnD_at {tf : Nat → Int} {n : Nat} (h : isnD tf n = true) : ∀ k, k < n → 48 ≤ tf k ∧ tf k ≤ 57 := by
  intro k hk
  apply Classical.byContradiction
  intro q
  rw [isnD_f q n hk] at h
  exact absurd h (by decide)
def isnB (tf : Nat → Int) (n : Nat) : Bool := decide (1 ≤ n ∧ n ≤ 300 ∧ tf 0 ≠ 48) && isnD tf n
def nuN (tf : Nat → Int) : Nat → Nat
  | 0 => 0
  | k + 1 => nuN tf k * 10 + (tf k - 48).toNat
theorem nuN_lt {tf : Nat → Int} {n : Nat} (h : isnD tf n = true) : ∀ k, k ≤ n → nuN tf k < 10 ^ k := by
  intro k
  induction k with
  | zero => intro _; exact Nat.one_pos
  | succ k ih =>
    intro hk
    have h1 := ih (by omega)
    have h2 := isnD_at h k (by omega)
    unfold nuN
    rw [Nat.pow_succ]
    omega
theorem nuN_pos {tf : Nat → Int} {n : Nat} (h : isnB tf n = true) : ∀ k, 1 ≤ k → k ≤ n → 0 < nuN tf k := by
  unfold isnB at h
  rw [Bool.and_eq_true] at h
  have h0 := of_decide_eq_true h.1
  have h1 := isnD_at h.2 0 (by omega)
  intro k
  induction k with
  | zero => intro q; omega
  | succ k ih =>
    intro _ hk
    unfold nuN
    rcases Nat.eq_zero_or_pos k with e | e
    · subst e; omega
    · have := ih e (by omega); omega
theorem nuN_75 {tf : Nat → Int} {n : Nat} (h : isnB tf n = true) : ∀ k, k ≤ n → nd 10000 (nuN tf k) ≤ 75 := by
  unfold isnB at h
  rw [Bool.and_eq_true] at h
  have h0 := of_decide_eq_true h.1
  intro k hk
  have h1 := nuN_lt h.2 k hk
  have h2 : 10 ^ k ≤ 10 ^ 300 := Nat.pow_le_pow_right (by decide) (by omega)
  have h3 : 10 ^ 300 = 10000 ^ 75 := by decide +kernel
  exact nd_le (by omega) (by rw [← h3]; exact Nat.lt_of_lt_of_le h1 h2)
def nuV (tf : Nat → Int) (tl : Nat) : Int := if isnB tf tl = true then (tl : Int) else -1
def nuT (tf : Nat → Int) (tl T : Nat) : Nat := if isnB tf tl = true then nuN tf tl else T
def nuF (A B : Int → Int → Int) (o : Int) : Prop := (∀ b : Int, b ≠ o → b ≠ o + 2 → B b = A b) ∧ (∀ i : Int, i ≠ 31 → B o i = A o i) ∧ B o 31 = 0 ∧ rowF (fun n => 126 ≤ n) (A (o + 2)) (B (o + 2))
theorem nuF.mk0 {A : Int → Int → Int} {o : Int} : nuF A (up2 A o 31 0) o := ⟨fun b h1 _ => by rw [up2_A, upA_ne _ _ h1], fun i h => up2_ne _ _ (fun q => h q.2), up2_at _ _ _ _, by rw [up2_A, upA_ne _ _ (by omega)]; exact rowF.rf⟩
theorem nuF.mk1 {A : Int → Int → Int} {o : Int} {f : Int → Int} (h : rowF (fun n => 126 ≤ n) (A (o + 2)) f) : nuF A (upA (up2 A o 31 0) (o + 2) f) o := ⟨fun b h1 h2 => by rw [upA_ne _ _ h2, up2_A, upA_ne _ _ h1], fun i h => by rw [upA_ne _ _ (by omega)]; exact up2_ne _ _ (fun q => h q.2), by rw [upA_ne _ _ (by omega)]; exact up2_at _ _ _ _, by rw [upA_at]; exact h⟩
def inV (T : Nat) (p wh : Int) : Int := if plc p ≠ -1 ∧ 0 ≤ wh ∧ wh ≤ 1 then (vp p.toNat (T + wh.toNat) : Int) else -1
def stN (S T : Nat) : Nat → Nat
  | 0 => T
  | k + 1 => if S.testBit k = true then strp (sev k) (stN S T k) else stN S T k
def smN (T : Nat) : Nat := if dl T ≤ 9 then T else 1000000000
theorem stN_pos {S T : Nat} (h : 0 < T) : ∀ k, k ≤ 7 → 0 < stN S T k ∧ stN S T k ≤ T := by
  intro k
  induction k with
  | zero => intro _; exact ⟨h, Nat.le_refl _⟩
  | succ k ih =>
    intro hk
    have h1 := ih (by omega)
    unfold stN
    split
    · have h2 := sev_lt k (by omega)
      have h3 := strp_pos (p := sev k) (by omega) h1.1
      omega
    · exact h1
theorem smN_R (T : Nat) : smN T ≤ 1000000000 := by
  unfold smN
  split
  · next h => have := dl_9.mp h; omega
  · exact Nat.le_refl _
def onV (S T : Nat) (wh : Int) : Int := if wh = 0 then (if stN S T 7 = 1 then 1 else 0) else if wh = 1 then fst1 (fun k => decide (pN S k = smN T)) (prs S).length else if wh = 2 then fst1 (fun k => decide (tN S k = smN T)) (tws S).length else if wh = 3 then (dl (stN S T 7) : Int) else if wh = 4 then (cnt (fun k => decide (pN S k < smN T)) (prs S).length : Int) else if wh = 5 then ((T % 9973 : Nat) : Int) else -1
theorem onV_out {S T : Nat} {wh : Int} (h : wh < 0 ∨ 5 < wh) : onV S T wh = -1 := by
  unfold onV
  rw [if_neg (by omega), if_neg (by omega), if_neg (by omega), if_neg (by omega), if_neg (by omega), if_neg (by omega)]
set_option maxRecDepth 20000 in
set_option maxHeartbeats 4000000 in
theorem r_isNumber {d : Nat} {G : zG} {A : Int → Int → Int} {P : Option zV → zG → Prop} {o : Int} (hK : RK G o) (hF : RF A o) {tl : Nat} {tf : Nat → Int} (ht : ∀ k : Nat, k < tl → A (o + 19) k = tf k) (htr : ∀ k, -128 ≤ tf k ∧ tf k ≤ 127) (htl : tl ≤ 2000) (k : P (some (0, b2i (isnB tf tl = true))) (gw G A)) : ZE d M_Ref_isNumber (gw G A) 0 [(2, o), (0, (tl : Int)), (9, 0)] [] P := by
  have ht0 := htr 0
  refine ZE.iload_n d_Ref_isNumber_0 rfl ?_
  refine ZE.iconst (n := 1) d_Ref_isNumber_1 ?_
  refine ZE.icmp_lt (tgt := 23) d_Ref_isNumber_2 rfl (by unfold zR; omega) (by unfold zR; omega) (fun c2 => ?_) (fun c2 => ?_)
  · refine ZE.iconst (n := 0) d_Ref_isNumber_23 ?_
    refine ZE.zret d_Ref_isNumber_24 rfl (by omega) ?_
    rw [b2i_f (show ¬ isnB tf tl = true from fun q => by unfold isnB at q; rw [Bool.and_eq_true] at q; have q := of_decide_eq_true q.1; omega)] at k
    exact k
  · refine ZE.iload_n d_Ref_isNumber_5 rfl ?_
    refine ZE.sipush (n := 300) d_Ref_isNumber_6 rfl ?_
    refine ZE.icmp_gt (tgt := 23) d_Ref_isNumber_9 rfl (by unfold zR; omega) (by unfold zR; omega) (fun c9 => ?_) (fun c9 => ?_)
    · refine ZE.iconst (n := 0) d_Ref_isNumber_23 ?_
      refine ZE.zret d_Ref_isNumber_24 rfl (by omega) ?_
      rw [b2i_f (show ¬ isnB tf tl = true from fun q => by unfold isnB at q; rw [Bool.and_eq_true] at q; have q := of_decide_eq_true q.1; omega)] at k
      exact k
    · refine ZE.aload_n d_Ref_isNumber_12 rfl ?_
      refine ZE.getE (v := o + 19) d_Ref_isNumber_13 f_Ref_66 (tg := 2) rfl hK.1 hF.a30 ?_
      refine ZE.iconst (n := 0) d_Ref_isNumber_16 ?_
      refine ZE.baldE (v := tf 0) d_Ref_isNumber_17 hK.k19 (by have hn0 := hK.n19; show 0 ≤ 0 ∧ 0 < gn G (o + 19); omega) (ht 0 (by omega)) ?_
      refine ZE.bipush (n := 48) d_Ref_isNumber_18 rfl ?_
      refine ZE.icmp_ne (tgt := 25) d_Ref_isNumber_20 rfl (by unfold zR; omega) (by unfold zR; omega) (fun c20 => ?_) (fun c20 => ?_)
      · have hok : 1 ≤ tl ∧ tl ≤ 300 ∧ tf 0 ≠ 48 := ⟨by omega, by omega, c20⟩
        refine ZE.iconst (n := 0) d_Ref_isNumber_25 ?_
        refine ZE.istore_n (ls2 := [(2, o), (0, (tl : Int)), (0, 0)]) d_Ref_isNumber_26 (Nat.le_of_ble_eq_true rfl) rfl ?_
        have L27 : ∀ (t : Nat) (j : Nat) (hj : j ≤ tl) (hj2 : isnD tf j = true), tl - j < t → ZE d M_Ref_isNumber (gw G A) 27 [(2, o), (0, (tl : Int)), (0, (j : Int))] [] P := by
          intro t
          induction t with
          | zero => intro j hj hj2 hm; exact absurd hm (Nat.not_lt_zero _)
          | succ t ih =>
            intro j hj hj2 hm
            have htj := htr j
            refine ZE.iload_n d_Ref_isNumber_27 rfl ?_
            refine ZE.iload_n d_Ref_isNumber_28 rfl ?_
            refine ZE.icmp_ge (tgt := 62) d_Ref_isNumber_29 rfl (by unfold zR; omega) (by unfold zR; omega) (fun c29 => ?_) (fun c29 => ?_)
            · refine ZE.iconst (n := 1) d_Ref_isNumber_62 ?_
              refine ZE.zret d_Ref_isNumber_63 rfl (by omega) ?_
              have e1 : j = tl := by omega
              rw [e1] at hj2
              rw [b2i_t (show isnB tf tl = true from by unfold isnB; rw [hj2, decide_eq_true hok]; rfl)] at k
              exact k
            · refine ZE.aload_n d_Ref_isNumber_32 rfl ?_
              refine ZE.getE (v := o + 19) d_Ref_isNumber_33 f_Ref_66 (tg := 2) rfl hK.1 hF.a30 ?_
              refine ZE.iload_n d_Ref_isNumber_36 rfl ?_
              refine ZE.baldE (v := tf j) d_Ref_isNumber_37 hK.k19 (by have hn0 := hK.n19; show 0 ≤ (j : Int) ∧ (j : Int) < gn G (o + 19); omega) (ht j (by omega)) ?_
              refine ZE.bipush (n := 48) d_Ref_isNumber_38 rfl ?_
              refine ZE.icmp_lt (tgt := 54) d_Ref_isNumber_40 rfl (by unfold zR; omega) (by unfold zR; omega) (fun c40 => ?_) (fun c40 => ?_)
              · refine ZE.iconst (n := 0) d_Ref_isNumber_54 ?_
                refine ZE.zret d_Ref_isNumber_55 rfl (by omega) ?_
                rw [b2i_f (show ¬ isnB tf tl = true from by unfold isnB; rw [isnD_f (j := j) (by omega) tl (by omega), Bool.and_false]; decide)] at k
                exact k
              · refine ZE.aload_n d_Ref_isNumber_43 rfl ?_
                refine ZE.getE (v := o + 19) d_Ref_isNumber_44 f_Ref_66 (tg := 2) rfl hK.1 hF.a30 ?_
                refine ZE.iload_n d_Ref_isNumber_47 rfl ?_
                refine ZE.baldE (v := tf j) d_Ref_isNumber_48 hK.k19 (by have hn0 := hK.n19; show 0 ≤ (j : Int) ∧ (j : Int) < gn G (o + 19); omega) (ht j (by omega)) ?_
                refine ZE.bipush (n := 57) d_Ref_isNumber_49 rfl ?_
                refine ZE.icmp_le (tgt := 56) d_Ref_isNumber_51 rfl (by unfold zR; omega) (by unfold zR; omega) (fun c51 => ?_) (fun c51 => ?_)
                · refine ZE.iinc (ls2 := [(2, o), (0, (tl : Int)), (0, (j : Int) + 1)]) d_Ref_isNumber_56 rfl rfl ?_
                  refine ZE.goto (tgt := 27) d_Ref_isNumber_59 rfl ?_
                  rw [show (j : Int) + 1 = ((j + 1 : Nat) : Int) by omega]
                  refine ih (j + 1) (by omega) ?_ (by omega)
                  unfold isnD; rw [hj2, decide_eq_true (show 48 ≤ tf j ∧ tf j ≤ 57 by omega)]; rfl
                · refine ZE.iconst (n := 0) d_Ref_isNumber_54 ?_
                  refine ZE.zret d_Ref_isNumber_55 rfl (by omega) ?_
                  rw [b2i_f (show ¬ isnB tf tl = true from by unfold isnB; rw [isnD_f (j := j) (by omega) tl (by omega), Bool.and_false]; decide)] at k
                  exact k
        exact L27 _ 0 (by omega) rfl (Nat.lt_succ_self _)
      · refine ZE.iconst (n := 0) d_Ref_isNumber_23 ?_
        refine ZE.zret d_Ref_isNumber_24 rfl (by omega) ?_
        rw [b2i_f (show ¬ isnB tf tl = true from fun q => by unfold isnB at q; rw [Bool.and_eq_true] at q; have q := of_decide_eq_true q.1; omega)] at k
        exact k
set_option maxRecDepth 20000 in
set_option maxHeartbeats 4000000 in
theorem r_number {d : Nat} {G : zG} {A : Int → Int → Int} {P : Option zV → zG → Prop} {o : Int} (hK : RK G o) (hF : RF A o) {tl : Nat} {tf : Nat → Int} (ht : ∀ k : Nat, k < tl → A (o + 19) k = tf k) (htr : ∀ k, -128 ≤ tf k ∧ tf k ≤ 127) (htl : tl ≤ 2000) (hl : A o 31 = (tl : Int)) {T : Nat} (hT : num (A (o + 2)) 131 T) (k : ∀ A2, nuF A A2 o → num (A2 (o + 2)) 131 (nuT tf tl T) → P (some (0, nuV tf tl)) (gw G A2)) : ZE (d + 3) M_Ref_number (gw G A) 0 [(2, o), (9, 0), (9, 0)] [] P := by
  refine ZE.aload_n d_Ref_number_0 rfl ?_
  refine ZE.getE (v := (tl : Int)) d_Ref_number_1 f_Ref_342 (tg := 0) rfl hK.1 hl ?_
  refine ZE.istore_n (ls2 := [(2, o), (0, (tl : Int)), (9, 0)]) d_Ref_number_4 (Nat.le_of_ble_eq_true rfl) rfl ?_
  refine ZE.aload_n d_Ref_number_5 rfl ?_
  refine ZE.iconst (n := 0) d_Ref_number_6 ?_
  refine ZE.put d_Ref_number_7 f_Ref_342 (tg := 0) rfl trivial (Or.inl ⟨_, _, _, rfl, rfl, rfl⟩) hK.1 ?_
  show ZE (d + 3) M_Ref_number (gw G (up2 A o 31 0)) 10 [(2, o), (0, (tl : Int)), (9, 0)] [] _
  refine ZE.aload_n d_Ref_number_10 rfl ?_
  refine ZE.iload_n d_Ref_number_11 rfl ?_
  refine ZE.cV [(0, (tl : Int))] [] [(2, o), (0, (tl : Int)), (9, 0)] d_Ref_number_12 l_Ref_345 rfl rfl rfl rfl rfl rfl hK.1 ?_
  refine r_isNumber (tl := tl) (tf := tf) hK (RF.fld 31 hF (by omega)) (fun k hk => by rw [up2_A, upA_ne _ _ (by omega)]; exact ht k hk) htr htl ?_
  show ZE (d + 3) M_Ref_number (gw G (up2 A o 31 0)) 15 [(2, o), (0, (tl : Int)), (9, 0)] [(0, b2i (isnB tf tl = true))] _
  refine ZE.if_ne (tgt := 20) d_Ref_number_15 rfl (zR_b2i _) (fun c15 => ?_) (fun c15 => ?_)
  · replace c15 := b2i_n0.mp c15
    have hyes : isnB tf tl = true := c15
    have hyd : isnD tf tl = true := by unfold isnB at hyes; rw [Bool.and_eq_true] at hyes; exact hyes.2
    refine ZE.aload_n d_Ref_number_20 rfl ?_
    refine ZE.bipush (n := 126) d_Ref_number_21 rfl ?_
    refine ZE.iconst (n := 0) d_Ref_number_23 ?_
    refine ZE.cV [(0, 126), (0, 0)] [] [(2, o), (0, 126), (0, 0), (9, 0), (9, 0)] d_Ref_number_24 l_Ref_69 rfl rfl rfl rfl rfl rfl hK.1 ?_
    refine r_setSmall (n := 126) (v := 0) hK (RF.fld 31 hF (by omega)) (by omega) (by omega) (fun f1 hn1 ho1 => ?_)
    show ZE (d + 3) M_Ref_number (gw G (upA (up2 A o 31 0) (o + 2) f1)) 27 [(2, o), (0, (tl : Int)), (9, 0)] [] _
    rw [up2_A, upA_ne _ _ (show o + 2 ≠ o by omega)] at ho1
    refine ZE.iconst (n := 0) d_Ref_number_27 ?_
    refine ZE.istore_n (ls2 := [(2, o), (0, (tl : Int)), (0, 0)]) d_Ref_number_28 (Nat.le_of_ble_eq_true rfl) rfl ?_
    have L29 : ∀ (t : Nat) (j : Nat) (f : Int → Int) (hj : j ≤ tl) (hn0 : num f 126 (nuN tf j)) (hro : rowF (fun n => 126 ≤ n) (A (o + 2)) f), tl - j < t → ZE (d + 3) M_Ref_number (gw G (upA (up2 A o 31 0) (o + 2) f)) 29 [(2, o), (0, (tl : Int)), (0, (j : Int))] [] P := by
      intro t
      induction t with
      | zero => intro j f hj hn0 hro hm; exact absurd hm (Nat.not_lt_zero _)
      | succ t ih =>
        intro j f hj hn0 hro hm
        have h75 := nuN_75 hyes j (by omega)
        have htj := htr j
        refine ZE.iload_n d_Ref_number_29 rfl ?_
        refine ZE.iload_n d_Ref_number_30 rfl ?_
        refine ZE.icmp_ge (tgt := 77) d_Ref_number_31 rfl (by unfold zR; omega) (by unfold zR; omega) (fun c31 => ?_) (fun c31 => ?_)
        · have e1 : j = tl := by omega
          rw [e1] at hn0
          refine ZE.aload_n d_Ref_number_77 rfl ?_
          refine ZE.bipush (n := 126) d_Ref_number_78 rfl ?_
          refine ZE.sipush (n := 131) d_Ref_number_80 rfl ?_
          refine ZE.cV [(0, 126), (0, 131)] [] [(2, o), (0, 126), (0, 131), (9, 0)] d_Ref_number_83 l_Ref_153 rfl rfl rfl rfl rfl rfl hK.1 ?_
          refine r_copyBig (n := 126) (t0 := 131) hK ((RF.fld 31 hF (by omega)).uA (by omega)) (by omega) (by omega) (by omega) (fun f5 hc5 ho5 => ?_)
          show ZE (d + 3) M_Ref_number (gw G (upA (upA (up2 A o 31 0) (o + 2) f) (o + 2) f5)) 86 [(2, o), (0, (tl : Int)), (0, (j : Int))] [] _
          rw [upA_upA]
          rw [upA_at] at hc5 ho5
          have hn5 : num f5 131 (nuN tf tl) := hc5 _ (by have := nuN_75 hyes tl (by omega); omega) hn0
          refine ZE.iload_n d_Ref_number_86 rfl ?_
          refine ZE.iret d_Ref_number_87 rfl ?_
          have k1 := k _ (nuF.mk1 (hro.step ho5 (by omega))) (by unfold nuT; rw [if_pos hyes, upA_at]; exact hn5)
          rw [show nuV tf tl = (tl : Int) from if_pos hyes] at k1
          exact k1
        · refine ZE.aload_n d_Ref_number_34 rfl ?_
          refine ZE.bipush (n := 127) d_Ref_number_35 rfl ?_
          refine ZE.aload_n d_Ref_number_37 rfl ?_
          refine ZE.getE (v := o + 19) d_Ref_number_38 f_Ref_66 (tg := 2) rfl hK.1 ((RF.fld 31 hF (by omega)).uA (by omega)).a30 ?_
          refine ZE.iload_n d_Ref_number_41 rfl ?_
          refine ZE.baldE (v := tf j) d_Ref_number_42 hK.k19 (by have hn0 := hK.n19; show 0 ≤ (j : Int) ∧ (j : Int) < gn G (o + 19); omega) (by show upA (up2 A o 31 0) (o + 2) f (o + 19) (j : Int) = tf j; rw [upA_ne _ _ (by omega), up2_A, upA_ne _ _ (by omega)]; exact ht j (by omega)) ?_
          refine ZE.bipush (n := 48) d_Ref_number_43 rfl ?_
          refine ZE.isub d_Ref_number_45 ?_
          rw [show ((tf j) - 48 : Int) = ((tf j - 48).toNat : Int) from (by have := isnD_at hyd j (by omega); omega)]
          have hdj := isnD_at hyd j (by omega)
          refine ZE.cV [(0, 127), (0, ((tf j - 48).toNat : Int))] [] [(2, o), (0, 127), (0, ((tf j - 48).toNat : Int)), (9, 0), (9, 0)] d_Ref_number_46 l_Ref_69 rfl rfl rfl rfl rfl rfl hK.1 ?_
          refine r_setSmall (n := 127) (v := (tf j - 48).toNat) hK ((RF.fld 31 hF (by omega)).uA (by omega)) (by omega) (by omega) (fun f2 hn2 ho2 => ?_)
          show ZE (d + 3) M_Ref_number (gw G (upA (upA (up2 A o 31 0) (o + 2) f) (o + 2) f2)) 49 [(2, o), (0, (tl : Int)), (0, (j : Int))] [] _
          rw [upA_upA]
          rw [upA_at] at ho2
          refine ZE.aload_n d_Ref_number_49 rfl ?_
          refine ZE.bipush (n := 126) d_Ref_number_50 rfl ?_
          refine ZE.bipush (n := 10) d_Ref_number_52 rfl ?_
          refine ZE.bipush (n := 127) d_Ref_number_54 rfl ?_
          refine ZE.sipush (n := 128) d_Ref_number_56 rfl ?_
          have hFu : RF (upA (up2 A o 31 0) (o + 2) f2) o := (RF.fld 31 hF (by omega)).uA (by omega)
          have hd9 : nd 10000 (tf j - 48).toNat ≤ 1 := nd_le (by omega) (by omega)
          refine ZE.cV [(0, 126), (0, 10), (0, 127), (0, 128)] [] [(2, o), (0, 126), (0, 10), (0, 127), (0, 128), (9, 0), (9, 0), (9, 0), (9, 0)] d_Ref_number_59 l_Ref_149 rfl rfl rfl rfl rfl rfl hK.1 ?_
          refine r_times (n := 126) (m := 127) (t0 := 128) (v := nuN tf j) (w := (tf j - 48).toNat) (y := 10) hK hFu (by omega) (by omega) (by omega) (by omega) (by omega) (by omega) (by rw [upA_at]; exact ho2.num (by omega) (by omega) hn0) (by rw [upA_at]; exact hn2) (by omega) (by omega) (fun f3 hn3 ho3 => ?_)
          show ZE (d + 3) M_Ref_number (gw G (upA (upA (up2 A o 31 0) (o + 2) f2) (o + 2) f3)) 62 [(2, o), (0, (tl : Int)), (0, (j : Int))] [] _
          rw [upA_upA]
          rw [upA_at] at ho3
          refine ZE.aload_n d_Ref_number_62 rfl ?_
          refine ZE.sipush (n := 128) d_Ref_number_63 rfl ?_
          refine ZE.bipush (n := 126) d_Ref_number_66 rfl ?_
          refine ZE.cV [(0, 128), (0, 126)] [] [(2, o), (0, 128), (0, 126), (9, 0)] d_Ref_number_68 l_Ref_153 rfl rfl rfl rfl rfl rfl hK.1 ?_
          refine r_copyBig (n := 128) (t0 := 126) hK ((RF.fld 31 hF (by omega)).uA (by omega)) (by omega) (by omega) (by omega) (fun f4 hc4 ho4 => ?_)
          show ZE (d + 3) M_Ref_number (gw G (upA (upA (up2 A o 31 0) (o + 2) f3) (o + 2) f4)) 71 [(2, o), (0, (tl : Int)), (0, (j : Int))] [] _
          rw [upA_upA]
          rw [upA_at] at hc4 ho4
          have hn4 : num f4 126 (nuN tf (j + 1)) := hc4 _ (by have := nuN_75 hyes (j + 1) (by omega); show nd 10000 (nuN tf (j + 1)) ≤ 129; omega) hn3
          refine ZE.iinc (ls2 := [(2, o), (0, (tl : Int)), (0, (j : Int) + 1)]) d_Ref_number_71 rfl rfl ?_
          refine ZE.goto (tgt := 29) d_Ref_number_74 rfl ?_
          rw [show (j : Int) + 1 = ((j + 1 : Nat) : Int) by omega]
          exact ih (j + 1) f4 (by omega) hn4 (((hro.step ho2 (by omega)).step ho3 (by omega)).step ho4 (by omega)) (by omega)
    exact L29 _ 0 f1 (by omega) hn1 (rowF.rf.step ho1 (by omega)) (Nat.lt_succ_self _)
  · replace c15 := b2i_0.mp c15
    refine ZE.iconst (n := (-1)) d_Ref_number_18 ?_
    refine ZE.iret d_Ref_number_19 rfl ?_
    have k1 := k _ nuF.mk0 (by unfold nuT; rw [if_neg c15, up2_A, upA_ne _ _ (by omega)]; exact hT)
    rw [show nuV tf tl = -1 from if_neg c15] at k1
    exact k1
