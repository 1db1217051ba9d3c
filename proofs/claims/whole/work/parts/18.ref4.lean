/-! folds over the seven primes -/
theorem sev_lt : ∀ k, k < 7 → 2 ≤ sev k ∧ sev k ≤ 17 := by decide +kernel
def grF (S : Nat) : Nat → Nat
  | 0 => 0
  | k + 1 => if S.testBit k then sev k else grF S k
def rdF (S : Nat) : Nat → Nat
  | 0 => 1
  | k + 1 => if S.testBit k then rdF S k * sev k else rdF S k
def mbF (n : Nat) : Nat → Nat
  | 0 => 0
  | k + 1 => if n % sev k = 0 then mbF n k ||| 2 ^ k else mbF n k
def smF (S n : Nat) : Nat → Nat
  | 0 => n
  | k + 1 => if S.testBit k then strp (sev k) (smF S n k) else smF S n k
def wtF (n : Nat) : Nat → Nat
  | 0 => 0
  | k + 1 => wtF n k + vp (sev k) n
def gr (S : Nat) : Nat := grF S 7
def rad (S : Nat) : Nat := rdF S 7
def mb (n : Nat) : Nat := mbF n 7
def sm (S n : Nat) : Prop := smF S n 7 = 1
def wt (n : Nat) : Nat := wtF n 7
def bnd (S : Nat) : Nat := if gr S < 6 then 3 else (gr S + 1) / 2
theorem gr_le : ∀ S, S < 128 → gr S ≤ 17 := by decide +kernel
theorem bnd_le : ∀ S, S < 128 → 3 ≤ bnd S ∧ bnd S ≤ 9 := by decide +kernel
theorem rdF_le : ∀ S, S < 128 → ∀ k, k < 8 → 1 ≤ rdF S k ∧ rdF S k ≤ 510510 := by decide +kernel
theorem grF_le (S : Nat) : ∀ k, k ≤ 7 → grF S k ≤ 17 := by
  intro k
  induction k with
  | zero => intro _; exact Nat.zero_le _
  | succ k ih =>
    intro h
    unfold grF
    split
    · exact (sev_lt k (by omega)).2
    · exact ih (by omega)
theorem mbF_lt (n : Nat) : ∀ k, k ≤ 7 → mbF n k < 2 ^ k := by
  intro k
  induction k with
  | zero => intro _; exact Nat.one_pos
  | succ k ih =>
    intro h
    have h1 := ih (by omega)
    have h2 : 2 ^ k < 2 ^ (k + 1) := by rw [Nat.pow_succ]; omega
    unfold mbF
    split
    · exact Nat.or_lt_two_pow (by omega) h2
    · omega
theorem mb_lt (n : Nat) : mb n < 128 := mbF_lt n 7 (by omega)
theorem strp_pos {p n : Nat} (hp : 2 ≤ p) (hn : 0 < n) : 0 < strp p n ∧ strp p n ≤ n := by
  obtain ⟨m, hm⟩ : ∃ m, m = n := ⟨n, rfl⟩
  have : ∀ t n : Nat, n ≤ t → 0 < n → 0 < strp p n ∧ strp p n ≤ n := by
    intro t
    induction t with
    | zero => intro n h1 h2; omega
    | succ t ih =>
      intro n h1 h2
      by_cases h : n % p = 0
      · obtain ⟨-, h3, h4⟩ := vp_step hp h2 h
        rw [strp_step hp h2 h]
        have := ih (n / p) (by omega) h3
        omega
      · rw [strp_end h]
        omega
  exact this n n (Nat.le_refl _) hn
theorem smF_pos (S : Nat) {n : Nat} (hn : 0 < n) : ∀ k, k ≤ 7 → 0 < smF S n k ∧ smF S n k ≤ n := by
  intro k
  induction k with
  | zero => intro _; exact ⟨hn, Nat.le_refl _⟩
  | succ k ih =>
    intro h
    have h1 := ih (by omega)
    unfold smF
    split
    · have := strp_pos (sev_lt k (by omega)).1 h1.1
      omega
    · exact h1
theorem wtF_le (n : Nat) (hn : 0 < n) (h2 : n < 2147483648) : ∀ k, k ≤ 7 → wtF n k ≤ 32 * k := by
  intro k
  induction k with
  | zero => intro _; exact Nat.zero_le _
  | succ k ih =>
    intro h
    have h1 := ih (by omega)
    have h3 : vp (sev k) n ≤ 31 + 1 := by
      unfold vp
      have h4 : ∀ f p m, vpF f p m ≤ f := by
        intro f
        induction f with
        | zero => intro p m; exact Nat.zero_le _
        | succ f ih2 =>
          intro p m
          unfold vpF
          split
          · have := ih2 p (m / p); omega
          · exact Nat.zero_le _
      have h5 := h4 (n.log2 + 1) (sev k) n
      have h6 : n.log2 < 31 := (Nat.log2_lt (by omega)).mpr (by omega)
      omega
    unfold wtF
    omega
set_option maxRecDepth 20000 in
set_option maxHeartbeats 4000000 in
theorem r_isPrimeHere {d : Nat} {G : zG} {A : Int → Int → Int} {P : Option zV → zG → Prop} {o : Int} (hK : RK G o) (hF : RF A o) {S : Nat} (hS : A o 1 = S) (hS7 : S < 128) {p : Int} (hp : zR p) (k : P (some (0, b2i (∃ k : Nat, k < 7 ∧ p = sev k ∧ S.testBit k = true))) (gw G A)) : ZE (d + 1) M_Ref_isPrimeHere (gw G A) 0 [(2, o), (0, p), (9, 0)] [] P := by
  refine ZE.aload_n d_Ref_isPrimeHere_0 rfl ?_
  refine ZE.iload_n d_Ref_isPrimeHere_1 rfl ?_
  refine ZE.cV [(0, p)] [] [(2, o), (0, p), (9, 0)] d_Ref_isPrimeHere_2 l_Ref_77 rfl rfl rfl rfl rfl rfl hK.1 ?_
  refine r_placeOf hK hF hp ?_
  show ZE (d + 1) M_Ref_isPrimeHere (gw G A) 5 [(2, o), (0, p), (9, 0)] [(0, plc p)] _
  have hpl := plc_R p
  refine ZE.istore_n (ls2 := [(2, o), (0, p), (0, plc p)]) d_Ref_isPrimeHere_5 (Nat.le_of_ble_eq_true rfl) rfl ?_
  refine ZE.iload_n d_Ref_isPrimeHere_6 rfl ?_
  refine ZE.iconst (n := (-1)) d_Ref_isPrimeHere_7 ?_
  refine ZE.icmp_eq (tgt := 26) d_Ref_isPrimeHere_8 rfl (by unfold zR; omega) (by unfold zR; omega) (fun c8 => ?_) (fun c8 => ?_)
  · have hno : ¬ ∃ k : Nat, k < 7 ∧ p = sev k ∧ S.testBit k = true := by
      rintro ⟨k1, h1, h2, -⟩
      have := plc_sev k1 h1
      rw [← h2] at this
      omega
    refine ZE.iconst (n := 0) d_Ref_isPrimeHere_26 ?_
    refine ZE.zret d_Ref_isPrimeHere_27 rfl (by omega) ?_
    have hno2 : ¬ ∃ k : Nat, k < 7 ∧ p = sev k ∧ S.testBit k = true := by
      first
      | exact hno
      | (rintro ⟨k2, h1, h2, h3⟩; have e1 := plc_sev k2 h1; rw [← h2] at e1; have e2 : k2 = k1 := (by omega); subst e2; exact c19 h3)
    rw [b2i_f hno2] at k
    exact k
  · obtain ⟨k1, hk1, hk2, hk3⟩ := plc_ge c8
    rw [hk3]
    refine ZE.aload_n d_Ref_isPrimeHere_11 rfl ?_
    refine ZE.getE (v := (S : Int)) d_Ref_isPrimeHere_12 f_Ref_81 (tg := 0) rfl hK.1 hS ?_
    refine ZE.iload_n d_Ref_isPrimeHere_15 rfl ?_
    refine ZE.cS [(0, (S : Int)), (0, (k1 : Int))] [] [(0, (S : Int)), (0, (k1 : Int))] d_Ref_isPrimeHere_16 l_Ref_85 rfl rfl rfl rfl rfl rfl ?_
    refine r_has (S := S) (k0 := k1) (by omega) (by omega) ?_
    show ZE (d + 1) M_Ref_isPrimeHere (gw G A) 19 [(2, o), (0, p), (0, (k1 : Int))] [(0, b2i (Nat.testBit S k1 = true))] _
    refine ZE.if_eq (tgt := 26) d_Ref_isPrimeHere_19 rfl (zR_b2i _) (fun c19 => ?_) (fun c19 => ?_)
    · replace c19 := b2i_0.mp c19
      refine ZE.iconst (n := 0) d_Ref_isPrimeHere_26 ?_
      refine ZE.zret d_Ref_isPrimeHere_27 rfl (by omega) ?_
      have hno2 : ¬ ∃ k : Nat, k < 7 ∧ p = sev k ∧ S.testBit k = true := by
        first
        | exact hno
        | (rintro ⟨k2, h1, h2, h3⟩; have e1 := plc_sev k2 h1; rw [← h2] at e1; have e2 : k2 = k1 := (by omega); subst e2; exact c19 h3)
      rw [b2i_f hno2] at k
      exact k
    · replace c19 := b2i_n0.mp c19
      refine ZE.iconst (n := 1) d_Ref_isPrimeHere_22 ?_
      refine ZE.goto (tgt := 27) d_Ref_isPrimeHere_23 rfl ?_
      refine ZE.zret d_Ref_isPrimeHere_27 rfl (by omega) ?_
      rw [b2i_t ⟨k1, hk1, hk2, c19⟩] at k
      exact k
set_option maxRecDepth 20000 in
set_option maxHeartbeats 4000000 in
theorem r_greatest {d : Nat} {G : zG} {A : Int → Int → Int} {P : Option zV → zG → Prop} {o : Int} (hK : RK G o) (hF : RF A o) {S : Nat} (hS : A o 1 = S) (hS7 : S < 128) (k : P (some (0, (gr S : Int))) (gw G A)) : ZE (d + 1) M_Ref_greatest (gw G A) 0 [(2, o), (9, 0), (9, 0)] [] P := by
  refine ZE.iconst (n := 0) d_Ref_greatest_0 ?_
  refine ZE.istore_n (ls2 := [(2, o), (0, 0), (9, 0)]) d_Ref_greatest_1 (Nat.le_of_ble_eq_true rfl) rfl ?_
  refine ZE.iconst (n := 0) d_Ref_greatest_2 ?_
  refine ZE.istore_n (ls2 := [(2, o), (0, 0), (0, 0)]) d_Ref_greatest_3 (Nat.le_of_ble_eq_true rfl) rfl ?_
  have L4 : ∀ (t : Nat) (j : Nat) (hj : j ≤ 7), 7 - j < t → ZE (d + 1) M_Ref_greatest (gw G A) 4 [(2, o), (0, (grF S j : Int)), (0, (j : Int))] [] P := by
    intro t
    induction t with
    | zero => intro j hj hm; exact absurd hm (Nat.not_lt_zero _)
    | succ t ih =>
      intro j hj hm
      refine ZE.iload_n d_Ref_greatest_4 rfl ?_
      refine ZE.bipush (n := 7) d_Ref_greatest_5 rfl ?_
      refine ZE.icmp_ge (tgt := 34) d_Ref_greatest_7 rfl (by unfold zR; omega) (by unfold zR; omega) (fun c7 => ?_) (fun c7 => ?_)
      · refine ZE.iload_n d_Ref_greatest_34 rfl ?_
        refine ZE.iret d_Ref_greatest_35 rfl ?_
        have e1 : j = 7 := by omega
        rw [e1]
        exact k
      · refine ZE.aload_n d_Ref_greatest_10 rfl ?_
        refine ZE.getE (v := (S : Int)) d_Ref_greatest_11 f_Ref_81 (tg := 0) rfl hK.1 hS ?_
        refine ZE.iload_n d_Ref_greatest_14 rfl ?_
        refine ZE.cS [(0, (S : Int)), (0, (j : Int))] [] [(0, (S : Int)), (0, (j : Int))] d_Ref_greatest_15 l_Ref_85 rfl rfl rfl rfl rfl rfl ?_
        refine r_has (S := S) (k0 := j) (by omega) (by omega) ?_
        show ZE (d + 1) M_Ref_greatest (gw G A) 18 [(2, o), (0, (grF S j : Int)), (0, (j : Int))] [(0, b2i (Nat.testBit S j = true))] _
        refine ZE.if_eq (tgt := 28) d_Ref_greatest_18 rfl (zR_b2i _) (fun c18 => ?_) (fun c18 => ?_)
        · replace c18 := b2i_0.mp c18
          refine ZE.iinc (ls2 := [(2, o), (0, (grF S j : Int)), (0, (j : Int) + 1)]) d_Ref_greatest_28 rfl rfl ?_
          refine ZE.goto (tgt := 4) d_Ref_greatest_31 rfl ?_
          rw [show (j : Int) + 1 = ((j + 1 : Nat) : Int) by omega]
          have L0 := ih (j + 1) (by omega) (by omega)
          rw [show grF S (j + 1) = _ from if_neg c18] at L0
          exact L0
        · replace c18 := b2i_n0.mp c18
          refine ZE.aload_n d_Ref_greatest_21 rfl ?_
          refine ZE.getE (v := o + 1) d_Ref_greatest_22 f_Ref_9 (tg := 2) rfl hK.1 hF.a0 ?_
          refine ZE.iload_n d_Ref_greatest_25 rfl ?_
          refine ZE.ialdE (v := (sev j : Int)) d_Ref_greatest_26 hK.k1 (by have hn0 := hK.n1; show 0 ≤ (j : Int) ∧ (j : Int) < gn G (o + 1); omega) (hF.sev j (by omega)) ?_
          refine ZE.istore_n (ls2 := [(2, o), (0, (sev j : Int)), (0, (j : Int))]) d_Ref_greatest_27 (Nat.le_of_ble_eq_true rfl) rfl ?_
          refine ZE.iinc (ls2 := [(2, o), (0, (sev j : Int)), (0, (j : Int) + 1)]) d_Ref_greatest_28 rfl rfl ?_
          refine ZE.goto (tgt := 4) d_Ref_greatest_31 rfl ?_
          rw [show (j : Int) + 1 = ((j + 1 : Nat) : Int) by omega]
          have L0 := ih (j + 1) (by omega) (by omega)
          rw [show grF S (j + 1) = _ from if_pos c18] at L0
          exact L0
  exact L4 _ 0 (Nat.zero_le _) (Nat.lt_succ_self _)
set_option maxRecDepth 20000 in
set_option maxHeartbeats 4000000 in
theorem r_greatestOf {d : Nat} {G : zG} {A : Int → Int → Int} {P : Option zV → zG → Prop} {o : Int} (hK : RK G o) (hF : RF A o) {S : Nat} (hS7 : S < 128) (k : P (some (0, (gr S : Int))) (gw G A)) : ZE (d + 1) M_Ref_greatestOf (gw G A) 0 [(2, o), (0, (S : Int)), (9, 0), (9, 0)] [] P := by
  refine ZE.iconst (n := 0) d_Ref_greatestOf_0 ?_
  refine ZE.istore_n (ls2 := [(2, o), (0, (S : Int)), (0, 0), (9, 0)]) d_Ref_greatestOf_1 (Nat.le_of_ble_eq_true rfl) rfl ?_
  refine ZE.iconst (n := 0) d_Ref_greatestOf_2 ?_
  refine ZE.istore_n (ls2 := [(2, o), (0, (S : Int)), (0, 0), (0, 0)]) d_Ref_greatestOf_3 (Nat.le_of_ble_eq_true rfl) rfl ?_
  have L4 : ∀ (t : Nat) (j : Nat) (hj : j ≤ 7), 7 - j < t → ZE (d + 1) M_Ref_greatestOf (gw G A) 4 [(2, o), (0, (S : Int)), (0, (grF S j : Int)), (0, (j : Int))] [] P := by
    intro t
    induction t with
    | zero => intro j hj hm; exact absurd hm (Nat.not_lt_zero _)
    | succ t ih =>
      intro j hj hm
      refine ZE.iload_n d_Ref_greatestOf_4 rfl ?_
      refine ZE.bipush (n := 7) d_Ref_greatestOf_5 rfl ?_
      refine ZE.icmp_ge (tgt := 31) d_Ref_greatestOf_7 rfl (by unfold zR; omega) (by unfold zR; omega) (fun c7 => ?_) (fun c7 => ?_)
      · refine ZE.iload_n d_Ref_greatestOf_31 rfl ?_
        refine ZE.iret d_Ref_greatestOf_32 rfl ?_
        have e1 : j = 7 := by omega
        rw [e1]
        exact k
      · refine ZE.iload_n d_Ref_greatestOf_10 rfl ?_
        refine ZE.iload_n d_Ref_greatestOf_11 rfl ?_
        refine ZE.cS [(0, (S : Int)), (0, (j : Int))] [] [(0, (S : Int)), (0, (j : Int))] d_Ref_greatestOf_12 l_Ref_85 rfl rfl rfl rfl rfl rfl ?_
        refine r_has (S := S) (k0 := j) (by omega) (by omega) ?_
        show ZE (d + 1) M_Ref_greatestOf (gw G A) 15 [(2, o), (0, (S : Int)), (0, (grF S j : Int)), (0, (j : Int))] [(0, b2i (Nat.testBit S j = true))] _
        refine ZE.if_eq (tgt := 25) d_Ref_greatestOf_15 rfl (zR_b2i _) (fun c15 => ?_) (fun c15 => ?_)
        · replace c15 := b2i_0.mp c15
          refine ZE.iinc (ls2 := [(2, o), (0, (S : Int)), (0, (grF S j : Int)), (0, (j : Int) + 1)]) d_Ref_greatestOf_25 rfl rfl ?_
          refine ZE.goto (tgt := 4) d_Ref_greatestOf_28 rfl ?_
          rw [show (j : Int) + 1 = ((j + 1 : Nat) : Int) by omega]
          have L0 := ih (j + 1) (by omega) (by omega)
          rw [show grF S (j + 1) = _ from if_neg c15] at L0
          exact L0
        · replace c15 := b2i_n0.mp c15
          refine ZE.aload_n d_Ref_greatestOf_18 rfl ?_
          refine ZE.getE (v := o + 1) d_Ref_greatestOf_19 f_Ref_9 (tg := 2) rfl hK.1 hF.a0 ?_
          refine ZE.iload_n d_Ref_greatestOf_22 rfl ?_
          refine ZE.ialdE (v := (sev j : Int)) d_Ref_greatestOf_23 hK.k1 (by have hn0 := hK.n1; show 0 ≤ (j : Int) ∧ (j : Int) < gn G (o + 1); omega) (hF.sev j (by omega)) ?_
          refine ZE.istore_n (ls2 := [(2, o), (0, (S : Int)), (0, (sev j : Int)), (0, (j : Int))]) d_Ref_greatestOf_24 (Nat.le_of_ble_eq_true rfl) rfl ?_
          refine ZE.iinc (ls2 := [(2, o), (0, (S : Int)), (0, (sev j : Int)), (0, (j : Int) + 1)]) d_Ref_greatestOf_25 rfl rfl ?_
          refine ZE.goto (tgt := 4) d_Ref_greatestOf_28 rfl ?_
          rw [show (j : Int) + 1 = ((j + 1 : Nat) : Int) by omega]
          have L0 := ih (j + 1) (by omega) (by omega)
          rw [show grF S (j + 1) = _ from if_pos c15] at L0
          exact L0
  exact L4 _ 0 (Nat.zero_le _) (Nat.lt_succ_self _)
set_option maxRecDepth 20000 in
set_option maxHeartbeats 4000000 in
theorem r_radicalOf {d : Nat} {G : zG} {A : Int → Int → Int} {P : Option zV → zG → Prop} {o : Int} (hK : RK G o) (hF : RF A o) {S : Nat} (hS7 : S < 128) (k : P (some (0, (rad S : Int))) (gw G A)) : ZE (d + 1) M_Ref_radicalOf (gw G A) 0 [(2, o), (0, (S : Int)), (9, 0), (9, 0)] [] P := by
  refine ZE.iconst (n := 1) d_Ref_radicalOf_0 ?_
  refine ZE.istore_n (ls2 := [(2, o), (0, (S : Int)), (0, 1), (9, 0)]) d_Ref_radicalOf_1 (Nat.le_of_ble_eq_true rfl) rfl ?_
  refine ZE.iconst (n := 0) d_Ref_radicalOf_2 ?_
  refine ZE.istore_n (ls2 := [(2, o), (0, (S : Int)), (0, 1), (0, 0)]) d_Ref_radicalOf_3 (Nat.le_of_ble_eq_true rfl) rfl ?_
  have L4 : ∀ (t : Nat) (j : Nat) (hj : j ≤ 7), 7 - j < t → ZE (d + 1) M_Ref_radicalOf (gw G A) 4 [(2, o), (0, (S : Int)), (0, (rdF S j : Int)), (0, (j : Int))] [] P := by
    intro t
    induction t with
    | zero => intro j hj hm; exact absurd hm (Nat.not_lt_zero _)
    | succ t ih =>
      intro j hj hm
      refine ZE.iload_n d_Ref_radicalOf_4 rfl ?_
      refine ZE.bipush (n := 7) d_Ref_radicalOf_5 rfl ?_
      refine ZE.icmp_ge (tgt := 33) d_Ref_radicalOf_7 rfl (by unfold zR; omega) (by unfold zR; omega) (fun c7 => ?_) (fun c7 => ?_)
      · refine ZE.iload_n d_Ref_radicalOf_33 rfl ?_
        refine ZE.iret d_Ref_radicalOf_34 rfl ?_
        have e1 : j = 7 := by omega
        rw [e1]
        exact k
      · refine ZE.iload_n d_Ref_radicalOf_10 rfl ?_
        refine ZE.iload_n d_Ref_radicalOf_11 rfl ?_
        refine ZE.cS [(0, (S : Int)), (0, (j : Int))] [] [(0, (S : Int)), (0, (j : Int))] d_Ref_radicalOf_12 l_Ref_85 rfl rfl rfl rfl rfl rfl ?_
        refine r_has (S := S) (k0 := j) (by omega) (by omega) ?_
        show ZE (d + 1) M_Ref_radicalOf (gw G A) 15 [(2, o), (0, (S : Int)), (0, (rdF S j : Int)), (0, (j : Int))] [(0, b2i (Nat.testBit S j = true))] _
        refine ZE.if_eq (tgt := 27) d_Ref_radicalOf_15 rfl (zR_b2i _) (fun c15 => ?_) (fun c15 => ?_)
        · replace c15 := b2i_0.mp c15
          refine ZE.iinc (ls2 := [(2, o), (0, (S : Int)), (0, (rdF S j : Int)), (0, (j : Int) + 1)]) d_Ref_radicalOf_27 rfl rfl ?_
          refine ZE.goto (tgt := 4) d_Ref_radicalOf_30 rfl ?_
          rw [show (j : Int) + 1 = ((j + 1 : Nat) : Int) by omega]
          have L0 := ih (j + 1) (by omega) (by omega)
          rw [show rdF S (j + 1) = _ from if_neg c15] at L0
          exact L0
        · replace c15 := b2i_n0.mp c15
          refine ZE.iload_n d_Ref_radicalOf_18 rfl ?_
          refine ZE.aload_n d_Ref_radicalOf_19 rfl ?_
          refine ZE.getE (v := o + 1) d_Ref_radicalOf_20 f_Ref_9 (tg := 2) rfl hK.1 hF.a0 ?_
          refine ZE.iload_n d_Ref_radicalOf_23 rfl ?_
          refine ZE.ialdE (v := (sev j : Int)) d_Ref_radicalOf_24 hK.k1 (by have hn0 := hK.n1; show 0 ≤ (j : Int) ∧ (j : Int) < gn G (o + 1); omega) (hF.sev j (by omega)) ?_
          refine ZE.imul d_Ref_radicalOf_25 ?_
          refine ZE.istore_n (ls2 := [(2, o), (0, (S : Int)), (0, (rdF S j : Int) * (sev j : Int)), (0, (j : Int))]) d_Ref_radicalOf_26 (Nat.le_of_ble_eq_true rfl) rfl ?_
          refine ZE.iinc (ls2 := [(2, o), (0, (S : Int)), (0, (rdF S j : Int) * (sev j : Int)), (0, (j : Int) + 1)]) d_Ref_radicalOf_27 rfl rfl ?_
          refine ZE.goto (tgt := 4) d_Ref_radicalOf_30 rfl ?_
          rw [show (j : Int) + 1 = ((j + 1 : Nat) : Int) by omega]
          have L0 := ih (j + 1) (by omega) (by omega)
          rw [show rdF S (j + 1) = _ from if_pos c15] at L0
          rw [Int.natCast_mul] at L0
          exact L0
  exact L4 _ 0 (Nat.zero_le _) (Nat.lt_succ_self _)
set_option maxRecDepth 20000 in
set_option maxHeartbeats 4000000 in
theorem r_madeBits {d : Nat} {G : zG} {A : Int → Int → Int} {P : Option zV → zG → Prop} {o : Int} (hK : RK G o) (hF : RF A o) {n : Nat} (hn : n < 2147483648) (k : P (some (0, (mb n : Int))) (gw G A)) : ZE d M_Ref_madeBits (gw G A) 0 [(2, o), (0, (n : Int)), (9, 0), (9, 0)] [] P := by
  refine ZE.iconst (n := 0) d_Ref_madeBits_0 ?_
  refine ZE.istore_n (ls2 := [(2, o), (0, (n : Int)), (0, 0), (9, 0)]) d_Ref_madeBits_1 (Nat.le_of_ble_eq_true rfl) rfl ?_
  refine ZE.iconst (n := 0) d_Ref_madeBits_2 ?_
  refine ZE.istore_n (ls2 := [(2, o), (0, (n : Int)), (0, 0), (0, 0)]) d_Ref_madeBits_3 (Nat.le_of_ble_eq_true rfl) rfl ?_
  have L4 : ∀ (t : Nat) (j : Nat) (hj : j ≤ 7), 7 - j < t → ZE d M_Ref_madeBits (gw G A) 4 [(2, o), (0, (n : Int)), (0, (mbF n j : Int)), (0, (j : Int))] [] P := by
    intro t
    induction t with
    | zero => intro j hj hm; exact absurd hm (Nat.not_lt_zero _)
    | succ t ih =>
      intro j hj hm
      refine ZE.iload_n d_Ref_madeBits_4 rfl ?_
      refine ZE.bipush (n := 7) d_Ref_madeBits_5 rfl ?_
      refine ZE.icmp_ge (tgt := 33) d_Ref_madeBits_7 rfl (by unfold zR; omega) (by unfold zR; omega) (fun c7 => ?_) (fun c7 => ?_)
      · refine ZE.iload_n d_Ref_madeBits_33 rfl ?_
        refine ZE.iret d_Ref_madeBits_34 rfl ?_
        have e1 : j = 7 := by omega
        rw [e1]
        exact k
      · refine ZE.iload_n d_Ref_madeBits_10 rfl ?_
        refine ZE.aload_n d_Ref_madeBits_11 rfl ?_
        refine ZE.getE (v := o + 1) d_Ref_madeBits_12 f_Ref_9 (tg := 2) rfl hK.1 hF.a0 ?_
        refine ZE.iload_n d_Ref_madeBits_15 rfl ?_
        refine ZE.ialdE (v := (sev j : Int)) d_Ref_madeBits_16 hK.k1 (by have hn0 := hK.n1; show 0 ≤ (j : Int) ∧ (j : Int) < gn G (o + 1); omega) (hF.sev j (by omega)) ?_
        have hs := sev_lt j (by omega)
        refine ZE.iremP d_Ref_madeBits_17 (by omega) ?_
        rw [show ((n : Int) % (sev j : Int) : Int) = ((n % sev j : Nat) : Int) from (Int.natCast_emod _ _).symm]
        refine ZE.if_ne (tgt := 27) d_Ref_madeBits_18 rfl (by have := Nat.mod_lt n (show 0 < sev j by omega); unfold zR; omega) (fun c18 => ?_) (fun c18 => ?_)
        · refine ZE.iinc (ls2 := [(2, o), (0, (n : Int)), (0, (mbF n j : Int)), (0, (j : Int) + 1)]) d_Ref_madeBits_27 rfl rfl ?_
          refine ZE.goto (tgt := 4) d_Ref_madeBits_30 rfl ?_
          rw [show (j : Int) + 1 = ((j + 1 : Nat) : Int) by omega]
          have L0 := ih (j + 1) (by omega) (by omega)
          rw [show mbF n (j + 1) = _ from if_neg (by omega)] at L0
          exact L0
        · refine ZE.iload_n d_Ref_madeBits_21 rfl ?_
          refine ZE.iconst (n := 1) d_Ref_madeBits_22 ?_
          refine ZE.iload_n d_Ref_madeBits_23 rfl ?_
          refine ZE.ishl d_Ref_madeBits_24 ?_
          refine ZE.ior d_Ref_madeBits_25 ?_
          refine ZE.istore_n (ls2 := [(2, o), (0, (n : Int)), (0, zor (mbF n j : Int) (zshl 1 (j : Int))), (0, (j : Int))]) d_Ref_madeBits_26 (Nat.le_of_ble_eq_true rfl) rfl ?_
          refine ZE.iinc (ls2 := [(2, o), (0, (n : Int)), (0, zor (mbF n j : Int) (zshl 1 (j : Int))), (0, (j : Int) + 1)]) d_Ref_madeBits_27 rfl rfl ?_
          refine ZE.goto (tgt := 4) d_Ref_madeBits_30 rfl ?_
          rw [show (j : Int) + 1 = ((j + 1 : Nat) : Int) by omega]
          have L0 := ih (j + 1) (by omega) (by omega)
          rw [show mbF n (j + 1) = _ from if_pos (by omega)] at L0
          rw [show zshl 1 (j : Int) = ((2 ^ j : Nat) : Int) from by have := zshl_nat (a := 1) (k := j) (by omega) (by have : 2 ^ j < 2 ^ 7 := Nat.pow_lt_pow_right (by omega) (by omega); omega); rw [Nat.one_mul] at this; exact this, zor_nat (by have := mbF_lt n j (by omega); have : 2 ^ j ≤ 2 ^ 7 := Nat.pow_le_pow_right (by omega) (by omega); omega) (by have : 2 ^ j < 2 ^ 7 := Nat.pow_lt_pow_right (by omega) (by omega); omega)]
          exact L0
  exact L4 _ 0 (Nat.zero_le _) (Nat.lt_succ_self _)
set_option maxRecDepth 20000 in
set_option maxHeartbeats 4000000 in
theorem r_weightOf {d : Nat} {G : zG} {A : Int → Int → Int} {P : Option zV → zG → Prop} {o : Int} (hK : RK G o) (hF : RF A o) {n : Nat} (hn0 : 0 < n) (hn : n < 2147483648) (k : P (some (0, (wt n : Int))) (gw G A)) : ZE (d + 1) M_Ref_weightOf (gw G A) 0 [(2, o), (0, (n : Int)), (9, 0), (9, 0)] [] P := by
  refine ZE.iconst (n := 0) d_Ref_weightOf_0 ?_
  refine ZE.istore_n (ls2 := [(2, o), (0, (n : Int)), (0, 0), (9, 0)]) d_Ref_weightOf_1 (Nat.le_of_ble_eq_true rfl) rfl ?_
  refine ZE.iconst (n := 0) d_Ref_weightOf_2 ?_
  refine ZE.istore_n (ls2 := [(2, o), (0, (n : Int)), (0, 0), (0, 0)]) d_Ref_weightOf_3 (Nat.le_of_ble_eq_true rfl) rfl ?_
  have L4 : ∀ (t : Nat) (j : Nat) (hj : j ≤ 7), 7 - j < t → ZE (d + 1) M_Ref_weightOf (gw G A) 4 [(2, o), (0, (n : Int)), (0, (wtF n j : Int)), (0, (j : Int))] [] P := by
    intro t
    induction t with
    | zero => intro j hj hm; exact absurd hm (Nat.not_lt_zero _)
    | succ t ih =>
      intro j hj hm
      refine ZE.iload_n d_Ref_weightOf_4 rfl ?_
      refine ZE.bipush (n := 7) d_Ref_weightOf_5 rfl ?_
      refine ZE.icmp_ge (tgt := 29) d_Ref_weightOf_7 rfl (by unfold zR; omega) (by unfold zR; omega) (fun c7 => ?_) (fun c7 => ?_)
      · refine ZE.iload_n d_Ref_weightOf_29 rfl ?_
        refine ZE.iret d_Ref_weightOf_30 rfl ?_
        have e1 : j = 7 := by omega
        rw [e1]
        exact k
      · refine ZE.iload_n d_Ref_weightOf_10 rfl ?_
        refine ZE.iload_n d_Ref_weightOf_11 rfl ?_
        refine ZE.aload_n d_Ref_weightOf_12 rfl ?_
        refine ZE.getE (v := o + 1) d_Ref_weightOf_13 f_Ref_9 (tg := 2) rfl hK.1 hF.a0 ?_
        refine ZE.iload_n d_Ref_weightOf_16 rfl ?_
        refine ZE.ialdE (v := (sev j : Int)) d_Ref_weightOf_17 hK.k1 (by have hn0 := hK.n1; show 0 ≤ (j : Int) ∧ (j : Int) < gn G (o + 1); omega) (hF.sev j (by omega)) ?_
        refine ZE.cS [(0, (n : Int)), (0, (sev j : Int))] [(0, (wtF n j : Int))] [(0, (n : Int)), (0, (sev j : Int)), (9, 0), (9, 0)] d_Ref_weightOf_18 l_Ref_273 rfl rfl rfl rfl rfl rfl ?_
        refine r_powerIn (s := n) (p := sev j) hn hn0 (sev_lt j (by omega)).1 (by have := sev_lt j (by omega); omega) ?_
        show ZE (d + 1) M_Ref_weightOf (gw G A) 21 [(2, o), (0, (n : Int)), (0, (wtF n j : Int)), (0, (j : Int))] [(0, (vp (sev j) n : Int)), (0, (wtF n j : Int))] _
        refine ZE.iadd d_Ref_weightOf_21 ?_
        refine ZE.istore_n (ls2 := [(2, o), (0, (n : Int)), (0, (wtF n j : Int) + (vp (sev j) n : Int)), (0, (j : Int))]) d_Ref_weightOf_22 (Nat.le_of_ble_eq_true rfl) rfl ?_
        refine ZE.iinc (ls2 := [(2, o), (0, (n : Int)), (0, (wtF n j : Int) + (vp (sev j) n : Int)), (0, (j : Int) + 1)]) d_Ref_weightOf_23 rfl rfl ?_
        refine ZE.goto (tgt := 4) d_Ref_weightOf_26 rfl ?_
        rw [show (j : Int) + 1 = ((j + 1 : Nat) : Int) by omega]
        have L0 := ih (j + 1) (by omega) (by omega)
        rw [show wtF n (j + 1) = wtF n j + vp (sev j) n from rfl, Int.natCast_add] at L0
        exact L0
  exact L4 _ 0 (Nat.zero_le _) (Nat.lt_succ_self _)
set_option maxRecDepth 20000 in
set_option maxHeartbeats 4000000 in
theorem r_isSmooth {d : Nat} {G : zG} {A : Int → Int → Int} {P : Option zV → zG → Prop} {o : Int} (hK : RK G o) (hF : RF A o) {S : Nat} (hS : A o 1 = S) (hS7 : S < 128) {n : Nat} (hn0 : 0 < n) (hn : n < 2147483648) (k : P (some (0, b2i (sm S n))) (gw G A)) : ZE (d + 1) M_Ref_isSmooth (gw G A) 0 [(2, o), (0, (n : Int)), (9, 0), (9, 0)] [] P := by
  refine ZE.iload_n d_Ref_isSmooth_0 rfl ?_
  refine ZE.istore_n (ls2 := [(2, o), (0, (n : Int)), (0, (n : Int)), (9, 0)]) d_Ref_isSmooth_1 (Nat.le_of_ble_eq_true rfl) rfl ?_
  refine ZE.iconst (n := 0) d_Ref_isSmooth_2 ?_
  refine ZE.istore_n (ls2 := [(2, o), (0, (n : Int)), (0, (n : Int)), (0, 0)]) d_Ref_isSmooth_3 (Nat.le_of_ble_eq_true rfl) rfl ?_
  have L4 : ∀ (t : Nat) (j : Nat) (hj : j ≤ 7), 7 - j < t → ZE (d + 1) M_Ref_isSmooth (gw G A) 4 [(2, o), (0, (n : Int)), (0, (smF S n j : Int)), (0, (j : Int))] [] P := by
    intro t
    induction t with
    | zero => intro j hj hm; exact absurd hm (Nat.not_lt_zero _)
    | succ t ih =>
      intro j hj hm
      refine ZE.iload_n d_Ref_isSmooth_4 rfl ?_
      refine ZE.bipush (n := 7) d_Ref_isSmooth_5 rfl ?_
      refine ZE.icmp_ge (tgt := 50) d_Ref_isSmooth_7 rfl (by unfold zR; omega) (by unfold zR; omega) (fun c7 => ?_) (fun c7 => ?_)
      · have e1 : j = 7 := by omega
        have hsp := smF_pos S hn0 j (by omega)
        refine ZE.iload_n d_Ref_isSmooth_50 rfl ?_
        refine ZE.iconst (n := 1) d_Ref_isSmooth_51 ?_
        refine ZE.icmp_ne (tgt := 59) d_Ref_isSmooth_52 rfl (by unfold zR; omega) (by unfold zR; omega) (fun c52 => ?_) (fun c52 => ?_)
        · refine ZE.iconst (n := 0) d_Ref_isSmooth_59 ?_
          refine ZE.zret d_Ref_isSmooth_60 rfl (by omega) ?_
          rw [b2i_f (by unfold sm; rw [← e1]; omega)] at k
          exact k
        · refine ZE.iconst (n := 1) d_Ref_isSmooth_55 ?_
          refine ZE.goto (tgt := 60) d_Ref_isSmooth_56 rfl ?_
          refine ZE.zret d_Ref_isSmooth_60 rfl (by omega) ?_
          rw [b2i_t (by unfold sm; rw [← e1]; omega)] at k
          exact k
      · have ihO := ih
        have hsp := smF_pos S hn0 j (by omega)
        have L10 : ∀ (t : Nat) (x1 : Nat) (hx1 : 0 < x1) (hxl : x1 ≤ n) (hx : strp (sev j) x1 = strp (sev j) (smF S n j)) (hx0 : ¬ S.testBit j = true → x1 = smF S n j), x1 < t → ZE (d + 1) M_Ref_isSmooth (gw G A) 10 [(2, o), (0, (n : Int)), (0, (x1 : Int)), (0, (j : Int))] [] P := by
          intro t
          induction t with
          | zero => intro x1 hx1 hxl hx hx0 hm; exact absurd hm (Nat.not_lt_zero _)
          | succ t ih =>
            intro x1 hx1 hxl hx hx0 hm
            refine ZE.aload_n d_Ref_isSmooth_10 rfl ?_
            refine ZE.getE (v := (S : Int)) d_Ref_isSmooth_11 f_Ref_81 (tg := 0) rfl hK.1 hS ?_
            refine ZE.iload_n d_Ref_isSmooth_14 rfl ?_
            refine ZE.cS [(0, (S : Int)), (0, (j : Int))] [] [(0, (S : Int)), (0, (j : Int))] d_Ref_isSmooth_15 l_Ref_85 rfl rfl rfl rfl rfl rfl ?_
            refine r_has (S := S) (k0 := j) (by omega) (by omega) ?_
            show ZE (d + 1) M_Ref_isSmooth (gw G A) 18 [(2, o), (0, (n : Int)), (0, (x1 : Int)), (0, (j : Int))] [(0, b2i (Nat.testBit S j = true))] _
            refine ZE.if_eq (tgt := 44) d_Ref_isSmooth_18 rfl (zR_b2i _) (fun c18 => ?_) (fun c18 => ?_)
            · replace c18 := b2i_0.mp c18
              refine ZE.iinc (ls2 := [(2, o), (0, (n : Int)), (0, (x1 : Int)), (0, (j : Int) + 1)]) d_Ref_isSmooth_44 rfl rfl ?_
              refine ZE.goto (tgt := 4) d_Ref_isSmooth_47 rfl ?_
              rw [show (j : Int) + 1 = ((j + 1 : Nat) : Int) by omega]
              have L0 := ihO (j + 1) (by omega) (by omega)
              first | (rw [show smF S n (j + 1) = _ from if_pos c18, ← hx, strp_end (by omega)] at L0; exact L0) | (rw [show smF S n (j + 1) = _ from if_neg c18, ← hx0 c18] at L0; exact L0)
            · replace c18 := b2i_n0.mp c18
              refine ZE.iload_n d_Ref_isSmooth_21 rfl ?_
              refine ZE.aload_n d_Ref_isSmooth_22 rfl ?_
              refine ZE.getE (v := o + 1) d_Ref_isSmooth_23 f_Ref_9 (tg := 2) rfl hK.1 hF.a0 ?_
              refine ZE.iload_n d_Ref_isSmooth_26 rfl ?_
              refine ZE.ialdE (v := (sev j : Int)) d_Ref_isSmooth_27 hK.k1 (by have hn0 := hK.n1; show 0 ≤ (j : Int) ∧ (j : Int) < gn G (o + 1); omega) (hF.sev j (by omega)) ?_
              have hs := sev_lt j (by omega)
              refine ZE.iremP d_Ref_isSmooth_28 (by omega) ?_
              rw [show ((x1 : Int) % (sev j : Int) : Int) = ((x1 % sev j : Nat) : Int) from (Int.natCast_emod _ _).symm]
              refine ZE.if_ne (tgt := 44) d_Ref_isSmooth_29 rfl (by have := Nat.mod_lt x1 (show 0 < sev j by omega); unfold zR; omega) (fun c29 => ?_) (fun c29 => ?_)
              · refine ZE.iinc (ls2 := [(2, o), (0, (n : Int)), (0, (x1 : Int)), (0, (j : Int) + 1)]) d_Ref_isSmooth_44 rfl rfl ?_
                refine ZE.goto (tgt := 4) d_Ref_isSmooth_47 rfl ?_
                rw [show (j : Int) + 1 = ((j + 1 : Nat) : Int) by omega]
                have L0 := ihO (j + 1) (by omega) (by omega)
                first | (rw [show smF S n (j + 1) = _ from if_pos c18, ← hx, strp_end (by omega)] at L0; exact L0) | (rw [show smF S n (j + 1) = _ from if_neg c18, ← hx0 c18] at L0; exact L0)
              · refine ZE.iload_n d_Ref_isSmooth_32 rfl ?_
                refine ZE.aload_n d_Ref_isSmooth_33 rfl ?_
                refine ZE.getE (v := o + 1) d_Ref_isSmooth_34 f_Ref_9 (tg := 2) rfl hK.1 hF.a0 ?_
                refine ZE.iload_n d_Ref_isSmooth_37 rfl ?_
                refine ZE.ialdE (v := (sev j : Int)) d_Ref_isSmooth_38 hK.k1 (by have hn0 := hK.n1; show 0 ≤ (j : Int) ∧ (j : Int) < gn G (o + 1); omega) (hF.sev j (by omega)) ?_
                refine ZE.idivP d_Ref_isSmooth_39 (by omega) ?_
                rw [show ((x1 : Int) / (sev j : Int) : Int) = ((x1 / sev j : Nat) : Int) from (Int.natCast_ediv _ _).symm]
                refine ZE.istore_n (ls2 := [(2, o), (0, (n : Int)), (0, ((x1 / sev j : Nat) : Int)), (0, (j : Int))]) d_Ref_isSmooth_40 (Nat.le_of_ble_eq_true rfl) rfl ?_
                refine ZE.goto (tgt := 10) d_Ref_isSmooth_41 rfl ?_
                have e := vp_step (p := sev j) (n := x1) (by omega) hx1 (by omega)
                exact ih (x1 / sev j) (by omega) (by omega) (by rw [← hx, strp_step (by omega) hx1 (by omega)]) (fun q => absurd c18 q) (by omega)
        exact L10 _ (smF S n j) hsp.1 hsp.2 rfl (fun _ => rfl) (Nat.lt_succ_self _)
  exact L4 _ 0 (Nat.zero_le _) (Nat.lt_succ_self _)
set_option maxRecDepth 20000 in
set_option maxHeartbeats 4000000 in
theorem r_bound {d : Nat} {G : zG} {A : Int → Int → Int} {P : Option zV → zG → Prop} {o : Int} (hK : RK G o) (hF : RF A o) {S : Nat} (hS : A o 1 = S) (hS7 : S < 128) (k : P (some (0, (bnd S : Int))) (gw G A)) : ZE (d + 2) M_Ref_bound (gw G A) 0 [(2, o)] [] P := by
  refine ZE.aload_n d_Ref_bound_0 rfl ?_
  refine ZE.cV [] [] [(2, o), (9, 0), (9, 0)] d_Ref_bound_1 l_Ref_89 rfl rfl rfl rfl rfl rfl hK.1 ?_
  refine r_greatest hK hF hS hS7 ?_
  show ZE (d + 2) M_Ref_bound (gw G A) 4 [(2, o)] [(0, (gr S : Int))] _
  have hgr := gr_le S hS7
  refine ZE.bipush (n := 6) d_Ref_bound_4 rfl ?_
  refine ZE.icmp_ge (tgt := 13) d_Ref_bound_6 rfl (by unfold zR; omega) (by unfold zR; omega) (fun c6 => ?_) (fun c6 => ?_)
  · refine ZE.aload_n d_Ref_bound_13 rfl ?_
    refine ZE.cV [] [] [(2, o), (9, 0), (9, 0)] d_Ref_bound_14 l_Ref_89 rfl rfl rfl rfl rfl rfl hK.1 ?_
    refine r_greatest hK hF hS hS7 ?_
    show ZE (d + 2) M_Ref_bound (gw G A) 17 [(2, o)] [(0, (gr S : Int))] _
    have hgr := gr_le S hS7
    refine ZE.iconst (n := 1) d_Ref_bound_17 ?_
    refine ZE.iadd d_Ref_bound_18 ?_
    refine ZE.iconst (n := 2) d_Ref_bound_19 ?_
    refine ZE.idivP d_Ref_bound_20 (by omega) ?_
    refine ZE.iret d_Ref_bound_21 rfl ?_
    have e : bnd S = (gr S + 1) / 2 := if_neg (by omega)
    rw [show ((gr S : Int) + 1) / 2 = (bnd S : Int) by omega]
    exact k
  · refine ZE.iconst (n := 3) d_Ref_bound_9 ?_
    refine ZE.goto (tgt := 21) d_Ref_bound_10 rfl ?_
    refine ZE.iret d_Ref_bound_21 rfl ?_
    rw [show bnd S = 3 from if_pos (by omega)] at k
    exact k
set_option maxRecDepth 20000 in
set_option maxHeartbeats 4000000 in
theorem r_canCome {d : Nat} {G : zG} {A : Int → Int → Int} {P : Option zV → zG → Prop} {o : Int} (hK : RK G o) (hF : RF A o) {S : Nat} (hS : A o 1 = S) (hS7 : S < 128) {p : Int} (hp : zR p) (k : P (some (0, b2i ((∃ k : Nat, k < 7 ∧ p = sev k ∧ ¬ S.testBit k = true) ∧ pop S < 5))) (gw G A)) : ZE (d + 2) M_Ref_canCome (gw G A) 0 [(2, o), (0, p)] [] P := by
  refine ZE.aload_n d_Ref_canCome_0 rfl ?_
  refine ZE.iload_n d_Ref_canCome_1 rfl ?_
  refine ZE.cV [(0, p)] [] [(2, o), (0, p), (9, 0)] d_Ref_canCome_2 l_Ref_77 rfl rfl rfl rfl rfl rfl hK.1 ?_
  refine r_placeOf hK hF hp ?_
  show ZE (d + 2) M_Ref_canCome (gw G A) 5 [(2, o), (0, p)] [(0, plc p)] _
  have hpl := plc_R p
  refine ZE.iconst (n := (-1)) d_Ref_canCome_5 ?_
  refine ZE.icmp_eq (tgt := 32) d_Ref_canCome_6 rfl (by unfold zR; omega) (by unfold zR; omega) (fun c6 => ?_) (fun c6 => ?_)
  · have hno : ¬ ((∃ k : Nat, k < 7 ∧ p = sev k ∧ ¬ S.testBit k = true) ∧ pop S < 5) := by
      rintro ⟨⟨k1, h1, h2, -⟩, -⟩
      have := plc_sev k1 h1
      rw [← h2] at this
      omega
    refine ZE.iconst (n := 0) d_Ref_canCome_32 ?_
    refine ZE.zret d_Ref_canCome_33 rfl (by omega) ?_
    rw [b2i_f hno] at k
    exact k
  · obtain ⟨k1, hk1, hk2, hk3⟩ := plc_ge c6
    refine ZE.aload_n d_Ref_canCome_9 rfl ?_
    refine ZE.iload_n d_Ref_canCome_10 rfl ?_
    refine ZE.cV [(0, p)] [] [(2, o), (0, p), (9, 0)] d_Ref_canCome_11 l_Ref_209 rfl rfl rfl rfl rfl rfl hK.1 ?_
    refine r_isPrimeHere hK hF hS hS7 hp ?_
    show ZE (d + 2) M_Ref_canCome (gw G A) 14 [(2, o), (0, p)] [(0, b2i (∃ k : Nat, k < 7 ∧ p = sev k ∧ S.testBit k = true))] _
    refine ZE.if_ne (tgt := 32) d_Ref_canCome_14 rfl (zR_b2i _) (fun c14 => ?_) (fun c14 => ?_)
    · replace c14 := b2i_n0.mp c14
      have hno : ¬ ((∃ k : Nat, k < 7 ∧ p = sev k ∧ ¬ S.testBit k = true) ∧ pop S < 5) := by
        rintro ⟨⟨k2, h1, h2, h3⟩, -⟩
        obtain ⟨k3, g1, g2, g3⟩ := c14
        have e1 := plc_sev k2 h1
        have e2 := plc_sev k3 g1
        rw [← h2] at e1
        rw [← g2] at e2
        have e3 : k2 = k3 := by omega
        subst e3
        exact h3 g3
      refine ZE.iconst (n := 0) d_Ref_canCome_32 ?_
      refine ZE.zret d_Ref_canCome_33 rfl (by omega) ?_
      rw [b2i_f hno] at k
      exact k
    · replace c14 := b2i_0.mp c14
      refine ZE.aload_n d_Ref_canCome_17 rfl ?_
      refine ZE.getE (v := (S : Int)) d_Ref_canCome_18 f_Ref_81 (tg := 0) rfl hK.1 hS ?_
      refine ZE.cS [(0, (S : Int))] [] [(0, (S : Int)), (9, 0), (9, 0)] d_Ref_canCome_21 l_Ref_206 rfl rfl rfl rfl rfl rfl ?_
      refine r_many (s := S) (by omega) ?_
      show ZE (d + 2) M_Ref_canCome (gw G A) 24 [(2, o), (0, p)] [(0, (pop S : Int))] _
      have hpo := pop_le S (by omega)
      refine ZE.iconst (n := 5) d_Ref_canCome_24 ?_
      refine ZE.icmp_ge (tgt := 32) d_Ref_canCome_25 rfl (by unfold zR; omega) (by unfold zR; omega) (fun c25 => ?_) (fun c25 => ?_)
      · have hno : ¬ ((∃ k : Nat, k < 7 ∧ p = sev k ∧ ¬ S.testBit k = true) ∧ pop S < 5) := by
          rintro ⟨-, h3⟩
          omega
        refine ZE.iconst (n := 0) d_Ref_canCome_32 ?_
        refine ZE.zret d_Ref_canCome_33 rfl (by omega) ?_
        rw [b2i_f hno] at k
        exact k
      · refine ZE.iconst (n := 1) d_Ref_canCome_28 ?_
        refine ZE.goto (tgt := 33) d_Ref_canCome_29 rfl ?_
        refine ZE.zret d_Ref_canCome_33 rfl (by omega) ?_
        rw [b2i_t ⟨⟨k1, hk1, hk2, fun q => c14 ⟨k1, hk1, hk2, q⟩⟩, by omega⟩] at k
        exact k
