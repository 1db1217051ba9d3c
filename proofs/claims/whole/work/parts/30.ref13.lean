def chC (b : Int) : Bool := decide (0 ≤ b ∧ b < 128 ∧ pop b.toNat ≤ 5)
def chS (S : Nat) (b : Int) : Nat := if chC b then b.toNat else S
def chV (b : Int) : Int := if chC b then ((prs b.toNat).length : Int) else -1
theorem ch_nat {S2 : Nat} (h : S2 < 128) (hp : pop S2 ≤ 5) (S : Nat) : chV (S2 : Int) = ((prs S2).length : Int) ∧ chS S (S2 : Int) = S2 := by
  have hc : chC (S2 : Int) = true := decide_eq_true ⟨by omega, by omega, by rw [Int.toNat_natCast]; exact hp⟩
  constructor
  · unfold chV; rw [if_pos hc, Int.toNat_natCast]
  · unfold chS; rw [if_pos hc, Int.toNat_natCast]
def orS (S : Nat) (p : Int) : Nat := S ||| 2 ^ (plc p).toNat
def noS (S : Nat) (p : Int) : Nat := S - 2 ^ (plc p).toNat
def hasB (S : Nat) (p : Int) : Bool := decide (plc p ≠ -1) && S.testBit (plc p).toNat
def canB (S : Nat) (p : Int) : Bool := decide (plc p ≠ -1) && !S.testBit (plc p).toNat && decide (pop S < 5)
theorem hasB_iff {S : Nat} {p : Int} : hasB S p = true ↔ ∃ k : Nat, k < 7 ∧ p = sev k ∧ S.testBit k = true := by
  unfold hasB
  rw [Bool.and_eq_true, decide_eq_true_iff]
  constructor
  · rintro ⟨h1, h2⟩
    obtain ⟨k, h3, h4, h5⟩ := plc_ge h1
    exact ⟨k, h3, h4, by rw [h5, Int.toNat_natCast] at h2; exact h2⟩
  · rintro ⟨k, h1, h2, h3⟩
    have h4 : plc p = k := by rw [h2]; exact plc_sev k h1
    exact ⟨by omega, by rw [h4, Int.toNat_natCast]; exact h3⟩
theorem canB_iff {S : Nat} {p : Int} : canB S p = true ↔ (∃ k : Nat, k < 7 ∧ p = sev k ∧ ¬ S.testBit k = true) ∧ pop S < 5 := by
  unfold canB
  rw [Bool.and_eq_true, Bool.and_eq_true, decide_eq_true_iff, decide_eq_true_iff]
  constructor
  · rintro ⟨⟨h1, h2⟩, h6⟩
    obtain ⟨k, h3, h4, h5⟩ := plc_ge h1
    refine ⟨⟨k, h3, h4, ?_⟩, h6⟩
    rw [h5, Int.toNat_natCast] at h2
    intro q
    rw [q] at h2
    exact absurd h2 (by decide)
  · rintro ⟨⟨k, h1, h2, h3⟩, h6⟩
    have h4 : plc p = k := by rw [h2]; exact plc_sev k h1
    refine ⟨⟨by omega, ?_⟩, h6⟩
    rw [h4, Int.toNat_natCast, Bool.eq_false_iff.mpr h3]
    rfl
theorem or_tab : ∀ S, S < 128 → ∀ k, k < 7 → S.testBit k = false → pop S < 5 → S ||| 2 ^ k < 128 ∧ pop (S ||| 2 ^ k) ≤ 5 := by decide +kernel
theorem no_tab : ∀ S : Nat, S < 128 → ∀ k : Nat, k < 7 → S.testBit k = true → zand (S : Int) (zxor ((2 ^ k : Nat) : Int) (-1)) = ((S - 2 ^ k : Nat) : Int) ∧ S - 2 ^ k < 128 ∧ (pop S ≤ 5 → pop (S - 2 ^ k) ≤ 5) := by decide +kernel
def addS (S : Nat) (p : Int) : Nat := if canB S p then orS S p else S
def addV (S : Nat) (p : Int) : Int := if canB S p then ((prs (orS S p)).length : Int) else -1
def drpS (S : Nat) (p : Int) : Nat := if hasB S p then noS S p else S
def drpV (S : Nat) (p : Int) : Int := if hasB S p then ((prs (noS S p)).length : Int) else -1
theorem cntF_le (S bt : Nat) : ∀ n, cntF S bt n ≤ n := by
  intro n
  induction n with
  | zero => exact Nat.le_refl _
  | succ n ih => unfold cntF; split <;> omega
theorem prs_len {S : Nat} (hS : S < 128) : (prs S).length ≤ 1152 := by
  have h1 := prF_len hS (csF S 1 128).length
  have h2 := cntF_le S 1 128
  have h3 := csF_len S 1 128
  unfold prs
  omega
theorem addV_R {S : Nat} (hS : S < 128) (p : Int) : -1 ≤ addV S p ∧ addV S p ≤ 1152 := by
  unfold addV
  split
  · next h =>
    obtain ⟨⟨k, h1, h2, h3⟩, h4⟩ := canB_iff.mp h
    have h5 : orS S p = S ||| 2 ^ k := by unfold orS; rw [h2, plc_sev k h1, Int.toNat_natCast]
    have h6 := or_tab S hS k h1 (Bool.eq_false_iff.mpr h3) h4
    have h7 := prs_len h6.1
    rw [h5]
    omega
  · omega
theorem next_ok {S : Nat} (hS : S < 128) (hp : pop S ≤ 5) (p : Int) : (addS S p < 128 ∧ pop (addS S p) ≤ 5) ∧ (drpS S p < 128 ∧ pop (drpS S p) ≤ 5) ∧ (chS S p < 128 ∧ pop (chS S p) ≤ 5) := by
  refine ⟨?_, ?_, ?_⟩
  · unfold addS
    split
    · next h =>
      obtain ⟨⟨k, h1, h2, h3⟩, h4⟩ := canB_iff.mp h
      have h5 : orS S p = S ||| 2 ^ k := by unfold orS; rw [h2, plc_sev k h1, Int.toNat_natCast]
      rw [h5]
      exact or_tab S hS k h1 (Bool.eq_false_iff.mpr h3) h4
    · exact ⟨hS, hp⟩
  · unfold drpS
    split
    · next h =>
      obtain ⟨k, h1, h2, h3⟩ := hasB_iff.mp h
      have h5 : noS S p = S - 2 ^ k := by unfold noS; rw [h2, plc_sev k h1, Int.toNat_natCast]
      rw [h5]
      have h6 := no_tab S hS k h1 h3
      exact ⟨h6.2.1, h6.2.2 hp⟩
    · exact ⟨hS, hp⟩
  · unfold chS
    split
    · next h =>
      have h := of_decide_eq_true h
      exact ⟨by have := h.1; have := h.2.1; omega, h.2.2⟩
    · exact ⟨hS, hp⟩
def bpF (S : Nat) : Nat → Int × Int
  | 0 => (-1, -1)
  | k + 1 => if addV S (sev k) ≤ (bpF S k).2 then bpF S k else ((sev k : Int), addV S (sev k))
theorem bpF_R {S : Nat} (hS : S < 128) : ∀ k, k ≤ 7 → -1 ≤ (bpF S k).2 ∧ (bpF S k).2 ≤ 1152 ∧ -1 ≤ (bpF S k).1 ∧ (bpF S k).1 ≤ 17 := by
  intro k
  induction k with
  | zero => intro _; show (-1 : Int) ≤ -1 ∧ (-1 : Int) ≤ 1152 ∧ (-1 : Int) ≤ -1 ∧ (-1 : Int) ≤ 17; omega
  | succ k ih =>
    intro hk
    have h1 := ih (by omega)
    have h2 := addV_R hS (sev k)
    have h3 := sev_lt k (by omega)
    unfold bpF
    split
    · exact h1
    · exact ⟨h2.1, h2.2, by show (-1 : Int) ≤ (sev k : Int); omega, by show (sev k : Int) ≤ 17; omega⟩
def gwF (S k : Nat) : Nat → Nat × Nat
  | 0 => (0, k)
  | i + 1 => if S.testBit i && decide ((gwF S k i).2 ≠ 0) then ((gwF S k i).1 ||| 2 ^ i, (gwF S k i).2 - 1) else gwF S k i
theorem gw_tab : ∀ S, S < 128 → ∀ k, k < 6 → ∀ i, i < 8 → (gwF S k i).1 < 128 ∧ (gwF S k i).2 ≤ 5 ∧ pop (gwF S k i).1 ≤ 5 := by decide +kernel
def grV (S : Nat) (k : Int) : Int := if 0 ≤ k ∧ k ≤ pop S then ((prs (gwF S k.toNat 7).1).length : Int) else -1
set_option maxRecDepth 20000 in
set_option maxHeartbeats 4000000 in
theorem r_isClass {d : Nat} {G : zG} {A : Int → Int → Int} {P : Option zV → zG → Prop} {o : Int} (hK : RK G o) (hF : RF A o) {m : Nat} (hm : A o 7 = (m : Int)) (hm2 : m ≤ 2000) {c : Int} (hc : zR c) (k : P (some (0, b2i (0 ≤ c ∧ c < m))) (gw G A)) : ZE (d + 1) M_Ref_isClass (gw G A) 0 [(2, o), (0, c)] [] P := by
  refine ZE.iload_n d_Ref_isClass_0 rfl ?_
  refine ZE.i2l d_Ref_isClass_1 hc ?_
  refine ZE.lconst d_Ref_isClass_2 ?_
  show ZE (d + 1) M_Ref_isClass (gw G A) 3 [(2, o), (0, c)] [(1, 0), (1, c)] _
  refine ZE.aload_n d_Ref_isClass_3 rfl ?_
  refine ZE.getE (v := (m : Int)) d_Ref_isClass_4 f_Ref_195 (tg := 0) rfl hK.1 hm ?_
  refine ZE.iconst (n := 1) d_Ref_isClass_7 ?_
  refine ZE.isub d_Ref_isClass_8 ?_
  refine ZE.i2l d_Ref_isClass_9 (by unfold zR; omega) ?_
  refine ZE.cS [(1, c), (1, 0), (1, (m : Int) - 1)] [] [(1, c), (9, 0), (1, 0), (9, 0), (1, (m : Int) - 1), (9, 0)] d_Ref_isClass_10 l_Ref_111 rfl rfl rfl rfl rfl rfl ?_
  refine r_isIn (by unfold zR at hc; unfold zR64; omega) (by unfold zR64; omega) (by unfold zR64; omega) ?_
  show ZE (d + 1) M_Ref_isClass (gw G A) 13 [(2, o), (0, c)] [(0, b2i (0 ≤ c ∧ c ≤ (m : Int) - 1))] _
  refine ZE.zret d_Ref_isClass_13 rfl (b2i_01 _) ?_
  rw [b2i_c (show (0 ≤ c ∧ c ≤ (m : Int) - 1) ↔ (0 ≤ c ∧ c < (m : Int)) by omega)]
  exact k
set_option maxRecDepth 20000 in
set_option maxHeartbeats 4000000 in
theorem r_isPair {d : Nat} {G : zG} {A : Int → Int → Int} {P : Option zV → zG → Prop} {o : Int} (hK : RK G o) (hF : RF A o) {m : Nat} (hm : A o 15 = (m : Int)) (hm2 : m ≤ 2000) {c : Int} (hc : zR c) (k : P (some (0, b2i (0 ≤ c ∧ c < m))) (gw G A)) : ZE (d + 1) M_Ref_isPair (gw G A) 0 [(2, o), (0, c)] [] P := by
  refine ZE.iload_n d_Ref_isPair_0 rfl ?_
  refine ZE.i2l d_Ref_isPair_1 hc ?_
  refine ZE.lconst d_Ref_isPair_2 ?_
  show ZE (d + 1) M_Ref_isPair (gw G A) 3 [(2, o), (0, c)] [(1, 0), (1, c)] _
  refine ZE.aload_n d_Ref_isPair_3 rfl ?_
  refine ZE.getE (v := (m : Int)) d_Ref_isPair_4 f_Ref_167 (tg := 0) rfl hK.1 hm ?_
  refine ZE.iconst (n := 1) d_Ref_isPair_7 ?_
  refine ZE.isub d_Ref_isPair_8 ?_
  refine ZE.i2l d_Ref_isPair_9 (by unfold zR; omega) ?_
  refine ZE.cS [(1, c), (1, 0), (1, (m : Int) - 1)] [] [(1, c), (9, 0), (1, 0), (9, 0), (1, (m : Int) - 1), (9, 0)] d_Ref_isPair_10 l_Ref_111 rfl rfl rfl rfl rfl rfl ?_
  refine r_isIn (by unfold zR at hc; unfold zR64; omega) (by unfold zR64; omega) (by unfold zR64; omega) ?_
  show ZE (d + 1) M_Ref_isPair (gw G A) 13 [(2, o), (0, c)] [(0, b2i (0 ≤ c ∧ c ≤ (m : Int) - 1))] _
  refine ZE.zret d_Ref_isPair_13 rfl (b2i_01 _) ?_
  rw [b2i_c (show (0 ≤ c ∧ c ≤ (m : Int) - 1) ↔ (0 ≤ c ∧ c < (m : Int)) by omega)]
  exact k
set_option maxRecDepth 20000 in
set_option maxHeartbeats 4000000 in
theorem r_choose {d : Nat} {G : zG} {A : Int → Int → Int} {P : Option zV → zG → Prop} {o : Int} (hK : RK G o) (hF : RF A o) {S : Nat} (hR : RS S A o) (hS7 : S < 128) (hp5 : pop S ≤ 5) {bits : Int} (hb : zR bits) (k : ∀ A2, RS (chS S bits) A2 o → laF A A2 o → P (some (0, chV bits)) (gw G A2)) : ZE (d + 8) M_Ref_choose (gw G A) 0 [(2, o), (0, bits)] [] P := by
  refine ZE.iload_n d_Ref_choose_0 rfl ?_
  refine ZE.i2l d_Ref_choose_1 hb ?_
  refine ZE.lconst d_Ref_choose_2 ?_
  show ZE (d + 8) M_Ref_choose (gw G A) 3 [(2, o), (0, bits)] [(1, 0), (1, bits)] _
  refine ZE.ldc2 (v := 127) d_Ref_choose_3 k_Ref_204 ?_
  refine ZE.cS [(1, bits), (1, 0), (1, 127)] [] [(1, bits), (9, 0), (1, 0), (9, 0), (1, 127), (9, 0)] d_Ref_choose_6 l_Ref_111 rfl rfl rfl rfl rfl rfl ?_
  refine r_isIn (by unfold zR at hb; unfold zR64; omega) (by unfold zR64; omega) (by unfold zR64; omega) ?_
  show ZE (d + 8) M_Ref_choose (gw G A) 9 [(2, o), (0, bits)] [(0, b2i (0 ≤ bits ∧ bits ≤ 127))] _
  refine ZE.if_eq (tgt := 20) d_Ref_choose_9 rfl (zR_b2i _) (fun c9 => ?_) (fun c9 => ?_)
  · replace c9 := b2i_0.mp c9
    refine ZE.iconst (n := (-1)) d_Ref_choose_20 ?_
    refine ZE.iret d_Ref_choose_21 rfl ?_
    have hno : ¬ chC bits = true := by
      intro q
      have q := of_decide_eq_true q
      exact c9 ⟨q.1, by have := q.2.1; omega⟩
    have k1 := k A (by unfold chS; rw [if_neg hno]; exact hR) laF.rf
    rw [show chV bits = -1 from if_neg hno] at k1
    exact k1
  · replace c9 := b2i_n0.mp c9
    obtain ⟨S2, hS2⟩ : ∃ S2 : Nat, bits = S2 := ⟨bits.toNat, by omega⟩
    subst hS2
    refine ZE.iload_n d_Ref_choose_12 rfl ?_
    have hpl := pop_le S2 (by omega)
    refine ZE.cS [(0, (S2 : Int))] [] [(0, (S2 : Int)), (9, 0), (9, 0)] d_Ref_choose_13 l_Ref_206 rfl rfl rfl rfl rfl rfl ?_
    refine r_many (s := S2) (by omega) ?_
    show ZE (d + 8) M_Ref_choose (gw G A) 16 [(2, o), (0, (S2 : Int))] [(0, (pop S2 : Int))] _
    refine ZE.iconst (n := 5) d_Ref_choose_16 ?_
    refine ZE.icmp_le (tgt := 22) d_Ref_choose_17 rfl (by unfold zR; omega) (by unfold zR; omega) (fun c17 => ?_) (fun c17 => ?_)
    · refine ZE.aload_n d_Ref_choose_22 rfl ?_
      refine ZE.iload_n d_Ref_choose_23 rfl ?_
      refine ZE.cV [(0, (S2 : Int))] [] [(2, o), (0, (S2 : Int)), (9, 0)] d_Ref_choose_24 l_Ref_73 rfl rfl rfl rfl rfl rfl hK.1 ?_
      refine r_layAll (S := S2) hK hF (by omega) (by omega) (fun A2 hRA2 gA2 => ?_)
      show ZE (d + 8) M_Ref_choose (gw G A2) 27 [(2, o), (0, (S2 : Int))] [] _
      refine ZE.aload_n d_Ref_choose_27 rfl ?_
      refine ZE.getE (v := ((prs S2).length : Int)) d_Ref_choose_28 f_Ref_167 (tg := 0) rfl hK.1 hRA2.np ?_
      refine ZE.iret d_Ref_choose_31 rfl ?_
      have k1 := k A2 (by rw [(ch_nat (by omega) (by omega) S).2]; exact hRA2) gA2
      rw [(ch_nat (by omega) (by omega) S).1] at k1
      exact k1
    · refine ZE.iconst (n := (-1)) d_Ref_choose_20 ?_
      refine ZE.iret d_Ref_choose_21 rfl ?_
      have hno : ¬ chC (S2 : Int) = true := by
        intro q
        have h2 := (of_decide_eq_true q).2.2
        rw [Int.toNat_natCast] at h2
        omega
      have k1 := k A (by unfold chS; rw [if_neg hno]; exact hR) laF.rf
      rw [show chV (S2 : Int) = -1 from if_neg hno] at k1
      exact k1
set_option maxRecDepth 20000 in
set_option maxHeartbeats 4000000 in
theorem r_pairsBy {d : Nat} {G : zG} {A : Int → Int → Int} {P : Option zV → zG → Prop} {o : Int} (hK : RK G o) (hF : RF A o) {S : Nat} (hR : RS S A o) (hS7 : S < 128) (hp5 : pop S ≤ 5) {S2 : Nat} (h27 : S2 < 128) (h25 : pop S2 ≤ 5) (k : ∀ A2, RS S A2 o → laF A A2 o → P (some (0, ((prs S2).length : Int))) (gw G A2)) : ZE (d + 8) M_Ref_pairsBy (gw G A) 0 [(2, o), (0, (S2 : Int)), (9, 0), (9, 0)] [] P := by
  refine ZE.aload_n d_Ref_pairsBy_0 rfl ?_
  refine ZE.getE (v := (S : Int)) d_Ref_pairsBy_1 f_Ref_81 (tg := 0) rfl hK.1 hR.s ?_
  refine ZE.istore_n (ls2 := [(2, o), (0, (S2 : Int)), (0, (S : Int)), (9, 0)]) d_Ref_pairsBy_4 (Nat.le_of_ble_eq_true rfl) rfl ?_
  refine ZE.aload_n d_Ref_pairsBy_5 rfl ?_
  refine ZE.iload_n d_Ref_pairsBy_6 rfl ?_
  refine ZE.cV [(0, (S2 : Int))] [] [(2, o), (0, (S2 : Int)), (9, 0)] d_Ref_pairsBy_7 l_Ref_73 rfl rfl rfl rfl rfl rfl hK.1 ?_
  refine r_layAll (S := S2) hK hF h27 h25 (fun A2 hRA2 gA2 => ?_)
  show ZE (d + 8) M_Ref_pairsBy (gw G A2) 10 [(2, o), (0, (S2 : Int)), (0, (S : Int)), (9, 0)] [] _
  have hA2 : RF A2 o := hF.la gA2
  refine ZE.aload_n d_Ref_pairsBy_10 rfl ?_
  refine ZE.getE (v := ((prs S2).length : Int)) d_Ref_pairsBy_11 f_Ref_167 (tg := 0) rfl hK.1 hRA2.np ?_
  refine ZE.istore_n (ls2 := [(2, o), (0, (S2 : Int)), (0, (S : Int)), (0, ((prs S2).length : Int))]) d_Ref_pairsBy_14 (Nat.le_of_ble_eq_true rfl) rfl ?_
  refine ZE.aload_n d_Ref_pairsBy_15 rfl ?_
  refine ZE.iload_n d_Ref_pairsBy_16 rfl ?_
  refine ZE.cV [(0, (S : Int))] [] [(2, o), (0, (S : Int)), (9, 0)] d_Ref_pairsBy_17 l_Ref_73 rfl rfl rfl rfl rfl rfl hK.1 ?_
  refine r_layAll (S := S) hK hA2 hS7 hp5 (fun A3 hRA3 gA3 => ?_)
  show ZE (d + 8) M_Ref_pairsBy (gw G A3) 20 [(2, o), (0, (S2 : Int)), (0, (S : Int)), (0, ((prs S2).length : Int))] [] _
  refine ZE.iload_n d_Ref_pairsBy_20 rfl ?_
  refine ZE.iret d_Ref_pairsBy_21 rfl ?_
  exact k A3 hRA3 (gA2.tr gA3)
set_option maxRecDepth 20000 in
set_option maxHeartbeats 4000000 in
theorem r_add {d : Nat} {G : zG} {A : Int → Int → Int} {P : Option zV → zG → Prop} {o : Int} (hK : RK G o) (hF : RF A o) {S : Nat} (hR : RS S A o) (hS7 : S < 128) (hp5 : pop S ≤ 5) {p : Int} (hp : zR p) (k : ∀ A2, RS (addS S p) A2 o → laF A A2 o → P (some (0, addV S p)) (gw G A2)) : ZE (d + 9) M_Ref_add (gw G A) 0 [(2, o), (0, p)] [] P := by
  refine ZE.aload_n d_Ref_add_0 rfl ?_
  refine ZE.iload_n d_Ref_add_1 rfl ?_
  refine ZE.cV [(0, p)] [] [(2, o), (0, p)] d_Ref_add_2 l_Ref_212 rfl rfl rfl rfl rfl rfl hK.1 ?_
  refine r_canCome hK hF hR.s hS7 hp ?_
  show ZE (d + 9) M_Ref_add (gw G A) 5 [(2, o), (0, p)] [(0, b2i ((∃ k : Nat, k < 7 ∧ p = sev k ∧ ¬ S.testBit k = true) ∧ pop S < 5))] _
  refine ZE.if_eq (tgt := 27) d_Ref_add_5 rfl (zR_b2i _) (fun c5 => ?_) (fun c5 => ?_)
  · replace c5 := b2i_0.mp c5
    refine ZE.iconst (n := (-1)) d_Ref_add_27 ?_
    refine ZE.iret d_Ref_add_28 rfl ?_
    have hno : ¬ canB S p = true := fun q => c5 (canB_iff.mp q)
    have e1 : addV S p = -1 := if_neg hno
    have k1 := k A (by unfold addS; rw [if_neg hno]; exact hR) laF.rf
    rw [e1] at k1
    exact k1
  · replace c5 := b2i_n0.mp c5
    have hyes : canB S p = true := canB_iff.mpr c5
    obtain ⟨⟨kk, hk7, hpk, hbt⟩, hp4⟩ := c5
    have hpl : plc p = kk := by rw [hpk]; exact plc_sev kk hk7
    have hp6 : 2 ^ kk ≤ 2 ^ 6 := Nat.pow_le_pow_right (by omega) (by omega)
    have hot := or_tab S hS7 kk hk7 (Bool.eq_false_iff.mpr hbt) hp4
    refine ZE.aload_n d_Ref_add_8 rfl ?_
    refine ZE.aload_n d_Ref_add_9 rfl ?_
    refine ZE.getE (v := (S : Int)) d_Ref_add_10 f_Ref_81 (tg := 0) rfl hK.1 hR.s ?_
    refine ZE.iconst (n := 1) d_Ref_add_13 ?_
    refine ZE.aload_n d_Ref_add_14 rfl ?_
    refine ZE.iload_n d_Ref_add_15 rfl ?_
    refine ZE.cV [(0, p)] [(0, 1), (0, (S : Int)), (2, o)] [(2, o), (0, p), (9, 0)] d_Ref_add_16 l_Ref_77 rfl rfl rfl rfl rfl rfl hK.1 ?_
    refine r_placeOf hK hF hp ?_
    show ZE (d + 9) M_Ref_add (gw G A) 19 [(2, o), (0, p)] [(0, plc p), (0, 1), (0, (S : Int)), (2, o)] _
    refine ZE.ishl d_Ref_add_19 ?_
    rw [show (zshl 1 (plc p) : Int) = ((2 ^ kk : Nat) : Int) from (by rw [hpl]; have := zshl_nat (a := 1) (k := kk) (by omega) (by omega); rw [Nat.one_mul] at this; exact this)]
    refine ZE.ior d_Ref_add_20 ?_
    rw [show (zor (S : Int) ((2 ^ kk : Nat) : Int) : Int) = ((S ||| 2 ^ kk : Nat) : Int) from (zor_nat (by omega) (by omega))]
    refine ZE.cV [(0, ((S ||| 2 ^ kk : Nat) : Int))] [] [(2, o), (0, ((S ||| 2 ^ kk : Nat) : Int))] d_Ref_add_21 l_Ref_215 rfl rfl rfl rfl rfl rfl hK.1 ?_
    refine r_choose (S := S) (bits := ((S ||| 2 ^ kk : Nat) : Int)) hK hF hR hS7 hp5 (by unfold zR; omega) (fun A2 hRA2 gA2 => ?_)
    show ZE (d + 9) M_Ref_add (gw G A2) 24 [(2, o), (0, p)] [(0, chV ((S ||| 2 ^ kk : Nat) : Int))] _
    refine ZE.goto (tgt := 28) d_Ref_add_24 rfl ?_
    refine ZE.iret d_Ref_add_28 rfl ?_
    have e0 : orS S p = S ||| 2 ^ kk := by unfold orS; rw [hpl, Int.toNat_natCast]
    have e1 : addV S p = ((prs (S ||| 2 ^ kk)).length : Int) := by unfold addV; rw [if_pos hyes, e0]
    rw [(ch_nat hot.1 hot.2 S).2] at hRA2
    rw [(ch_nat hot.1 hot.2 S).1]
    have k1 := k A2 (by unfold addS; rw [if_pos hyes, e0]; exact hRA2) gA2
    rw [e1] at k1
    exact k1
set_option maxRecDepth 20000 in
set_option maxHeartbeats 4000000 in
theorem r_would {d : Nat} {G : zG} {A : Int → Int → Int} {P : Option zV → zG → Prop} {o : Int} (hK : RK G o) (hF : RF A o) {S : Nat} (hR : RS S A o) (hS7 : S < 128) (hp5 : pop S ≤ 5) {p : Int} (hp : zR p) (k : ∀ A2, RS S A2 o → laF A A2 o → P (some (0, addV S p)) (gw G A2)) : ZE (d + 9) M_Ref_would (gw G A) 0 [(2, o), (0, p)] [] P := by
  refine ZE.aload_n d_Ref_would_0 rfl ?_
  refine ZE.iload_n d_Ref_would_1 rfl ?_
  refine ZE.cV [(0, p)] [] [(2, o), (0, p)] d_Ref_would_2 l_Ref_212 rfl rfl rfl rfl rfl rfl hK.1 ?_
  refine r_canCome hK hF hR.s hS7 hp ?_
  show ZE (d + 9) M_Ref_would (gw G A) 5 [(2, o), (0, p)] [(0, b2i ((∃ k : Nat, k < 7 ∧ p = sev k ∧ ¬ S.testBit k = true) ∧ pop S < 5))] _
  refine ZE.if_eq (tgt := 27) d_Ref_would_5 rfl (zR_b2i _) (fun c5 => ?_) (fun c5 => ?_)
  · replace c5 := b2i_0.mp c5
    refine ZE.iconst (n := (-1)) d_Ref_would_27 ?_
    refine ZE.iret d_Ref_would_28 rfl ?_
    have hno : ¬ canB S p = true := fun q => c5 (canB_iff.mp q)
    have e1 : addV S p = -1 := if_neg hno
    have k1 := k A hR laF.rf
    rw [e1] at k1
    exact k1
  · replace c5 := b2i_n0.mp c5
    have hyes : canB S p = true := canB_iff.mpr c5
    obtain ⟨⟨kk, hk7, hpk, hbt⟩, hp4⟩ := c5
    have hpl : plc p = kk := by rw [hpk]; exact plc_sev kk hk7
    have hp6 : 2 ^ kk ≤ 2 ^ 6 := Nat.pow_le_pow_right (by omega) (by omega)
    have hot := or_tab S hS7 kk hk7 (Bool.eq_false_iff.mpr hbt) hp4
    refine ZE.aload_n d_Ref_would_8 rfl ?_
    refine ZE.aload_n d_Ref_would_9 rfl ?_
    refine ZE.getE (v := (S : Int)) d_Ref_would_10 f_Ref_81 (tg := 0) rfl hK.1 hR.s ?_
    refine ZE.iconst (n := 1) d_Ref_would_13 ?_
    refine ZE.aload_n d_Ref_would_14 rfl ?_
    refine ZE.iload_n d_Ref_would_15 rfl ?_
    refine ZE.cV [(0, p)] [(0, 1), (0, (S : Int)), (2, o)] [(2, o), (0, p), (9, 0)] d_Ref_would_16 l_Ref_77 rfl rfl rfl rfl rfl rfl hK.1 ?_
    refine r_placeOf hK hF hp ?_
    show ZE (d + 9) M_Ref_would (gw G A) 19 [(2, o), (0, p)] [(0, plc p), (0, 1), (0, (S : Int)), (2, o)] _
    refine ZE.ishl d_Ref_would_19 ?_
    rw [show (zshl 1 (plc p) : Int) = ((2 ^ kk : Nat) : Int) from (by rw [hpl]; have := zshl_nat (a := 1) (k := kk) (by omega) (by omega); rw [Nat.one_mul] at this; exact this)]
    refine ZE.ior d_Ref_would_20 ?_
    rw [show (zor (S : Int) ((2 ^ kk : Nat) : Int) : Int) = ((S ||| 2 ^ kk : Nat) : Int) from (zor_nat (by omega) (by omega))]
    refine ZE.cV [(0, ((S ||| 2 ^ kk : Nat) : Int))] [] [(2, o), (0, ((S ||| 2 ^ kk : Nat) : Int)), (9, 0), (9, 0)] d_Ref_would_21 l_Ref_218 rfl rfl rfl rfl rfl rfl hK.1 ?_
    refine r_pairsBy (S := S) (S2 := S ||| 2 ^ kk) hK hF hR hS7 hp5 hot.1 hot.2 (fun A2 hRA2 gA2 => ?_)
    show ZE (d + 9) M_Ref_would (gw G A2) 24 [(2, o), (0, p)] [(0, ((prs (S ||| 2 ^ kk)).length : Int))] _
    refine ZE.goto (tgt := 28) d_Ref_would_24 rfl ?_
    refine ZE.iret d_Ref_would_28 rfl ?_
    have e0 : orS S p = S ||| 2 ^ kk := by unfold orS; rw [hpl, Int.toNat_natCast]
    have e1 : addV S p = ((prs (S ||| 2 ^ kk)).length : Int) := by unfold addV; rw [if_pos hyes, e0]
    have k1 := k A2 hRA2 gA2
    rw [e1] at k1
    exact k1
set_option maxRecDepth 20000 in
set_option maxHeartbeats 4000000 in
theorem r_drop {d : Nat} {G : zG} {A : Int → Int → Int} {P : Option zV → zG → Prop} {o : Int} (hK : RK G o) (hF : RF A o) {S : Nat} (hR : RS S A o) (hS7 : S < 128) (hp5 : pop S ≤ 5) {p : Int} (hp : zR p) (k : ∀ A2, RS (drpS S p) A2 o → laF A A2 o → P (some (0, drpV S p)) (gw G A2)) : ZE (d + 9) M_Ref_drop (gw G A) 0 [(2, o), (0, p)] [] P := by
  refine ZE.aload_n d_Ref_drop_0 rfl ?_
  refine ZE.iload_n d_Ref_drop_1 rfl ?_
  refine ZE.cV [(0, p)] [] [(2, o), (0, p), (9, 0)] d_Ref_drop_2 l_Ref_209 rfl rfl rfl rfl rfl rfl hK.1 ?_
  refine r_isPrimeHere hK hF hR.s hS7 hp ?_
  show ZE (d + 9) M_Ref_drop (gw G A) 5 [(2, o), (0, p)] [(0, b2i (∃ k : Nat, k < 7 ∧ p = sev k ∧ S.testBit k = true))] _
  refine ZE.if_eq (tgt := 29) d_Ref_drop_5 rfl (zR_b2i _) (fun c5 => ?_) (fun c5 => ?_)
  · replace c5 := b2i_0.mp c5
    refine ZE.iconst (n := (-1)) d_Ref_drop_29 ?_
    refine ZE.iret d_Ref_drop_30 rfl ?_
    have hno : ¬ hasB S p = true := fun q => c5 (hasB_iff.mp q)
    have e1 : drpV S p = -1 := if_neg hno
    have k1 := k A (by unfold drpS; rw [if_neg hno]; exact hR) laF.rf
    rw [e1] at k1
    exact k1
  · replace c5 := b2i_n0.mp c5
    have hyes : hasB S p = true := hasB_iff.mpr c5
    obtain ⟨kk, hk7, hpk, hbt⟩ := c5
    have hpl : plc p = kk := by rw [hpk]; exact plc_sev kk hk7
    have hp6 : 2 ^ kk ≤ 2 ^ 6 := Nat.pow_le_pow_right (by omega) (by omega)
    have hot := no_tab S hS7 kk hk7 hbt
    refine ZE.aload_n d_Ref_drop_8 rfl ?_
    refine ZE.aload_n d_Ref_drop_9 rfl ?_
    refine ZE.getE (v := (S : Int)) d_Ref_drop_10 f_Ref_81 (tg := 0) rfl hK.1 hR.s ?_
    refine ZE.iconst (n := 1) d_Ref_drop_13 ?_
    refine ZE.aload_n d_Ref_drop_14 rfl ?_
    refine ZE.iload_n d_Ref_drop_15 rfl ?_
    refine ZE.cV [(0, p)] [(0, 1), (0, (S : Int)), (2, o)] [(2, o), (0, p), (9, 0)] d_Ref_drop_16 l_Ref_77 rfl rfl rfl rfl rfl rfl hK.1 ?_
    refine r_placeOf hK hF hp ?_
    show ZE (d + 9) M_Ref_drop (gw G A) 19 [(2, o), (0, p)] [(0, plc p), (0, 1), (0, (S : Int)), (2, o)] _
    refine ZE.ishl d_Ref_drop_19 ?_
    rw [show (zshl 1 (plc p) : Int) = ((2 ^ kk : Nat) : Int) from (by rw [hpl]; have := zshl_nat (a := 1) (k := kk) (by omega) (by omega); rw [Nat.one_mul] at this; exact this)]
    refine ZE.iconst (n := (-1)) d_Ref_drop_20 ?_
    refine ZE.ixor d_Ref_drop_21 ?_
    refine ZE.iand d_Ref_drop_22 ?_
    rw [show (zand (S : Int) (zxor ((2 ^ kk : Nat) : Int) (-1)) : Int) = ((S - 2 ^ kk : Nat) : Int) from hot.1]
    refine ZE.cV [(0, ((S - 2 ^ kk : Nat) : Int))] [] [(2, o), (0, ((S - 2 ^ kk : Nat) : Int))] d_Ref_drop_23 l_Ref_215 rfl rfl rfl rfl rfl rfl hK.1 ?_
    refine r_choose (S := S) (bits := ((S - 2 ^ kk : Nat) : Int)) hK hF hR hS7 hp5 (by unfold zR; omega) (fun A2 hRA2 gA2 => ?_)
    show ZE (d + 9) M_Ref_drop (gw G A2) 26 [(2, o), (0, p)] [(0, chV ((S - 2 ^ kk : Nat) : Int))] _
    refine ZE.goto (tgt := 30) d_Ref_drop_26 rfl ?_
    refine ZE.iret d_Ref_drop_30 rfl ?_
    have e0 : noS S p = S - 2 ^ kk := by unfold noS; rw [hpl, Int.toNat_natCast]
    have e1 : drpV S p = ((prs (S - 2 ^ kk)).length : Int) := by unfold drpV; rw [if_pos hyes, e0]
    rw [(ch_nat hot.2.1 (hot.2.2 hp5) S).2] at hRA2
    rw [(ch_nat hot.2.1 (hot.2.2 hp5) S).1]
    have k1 := k A2 (by unfold drpS; rw [if_pos hyes, e0]; exact hRA2) gA2
    rw [e1] at k1
    exact k1
set_option maxRecDepth 20000 in
set_option maxHeartbeats 4000000 in
theorem r_without {d : Nat} {G : zG} {A : Int → Int → Int} {P : Option zV → zG → Prop} {o : Int} (hK : RK G o) (hF : RF A o) {S : Nat} (hR : RS S A o) (hS7 : S < 128) (hp5 : pop S ≤ 5) {p : Int} (hp : zR p) (k : ∀ A2, RS S A2 o → laF A A2 o → P (some (0, drpV S p)) (gw G A2)) : ZE (d + 9) M_Ref_without (gw G A) 0 [(2, o), (0, p)] [] P := by
  refine ZE.aload_n d_Ref_without_0 rfl ?_
  refine ZE.iload_n d_Ref_without_1 rfl ?_
  refine ZE.cV [(0, p)] [] [(2, o), (0, p), (9, 0)] d_Ref_without_2 l_Ref_209 rfl rfl rfl rfl rfl rfl hK.1 ?_
  refine r_isPrimeHere hK hF hR.s hS7 hp ?_
  show ZE (d + 9) M_Ref_without (gw G A) 5 [(2, o), (0, p)] [(0, b2i (∃ k : Nat, k < 7 ∧ p = sev k ∧ S.testBit k = true))] _
  refine ZE.if_eq (tgt := 29) d_Ref_without_5 rfl (zR_b2i _) (fun c5 => ?_) (fun c5 => ?_)
  · replace c5 := b2i_0.mp c5
    refine ZE.iconst (n := (-1)) d_Ref_without_29 ?_
    refine ZE.iret d_Ref_without_30 rfl ?_
    have hno : ¬ hasB S p = true := fun q => c5 (hasB_iff.mp q)
    have e1 : drpV S p = -1 := if_neg hno
    have k1 := k A hR laF.rf
    rw [e1] at k1
    exact k1
  · replace c5 := b2i_n0.mp c5
    have hyes : hasB S p = true := hasB_iff.mpr c5
    obtain ⟨kk, hk7, hpk, hbt⟩ := c5
    have hpl : plc p = kk := by rw [hpk]; exact plc_sev kk hk7
    have hp6 : 2 ^ kk ≤ 2 ^ 6 := Nat.pow_le_pow_right (by omega) (by omega)
    have hot := no_tab S hS7 kk hk7 hbt
    refine ZE.aload_n d_Ref_without_8 rfl ?_
    refine ZE.aload_n d_Ref_without_9 rfl ?_
    refine ZE.getE (v := (S : Int)) d_Ref_without_10 f_Ref_81 (tg := 0) rfl hK.1 hR.s ?_
    refine ZE.iconst (n := 1) d_Ref_without_13 ?_
    refine ZE.aload_n d_Ref_without_14 rfl ?_
    refine ZE.iload_n d_Ref_without_15 rfl ?_
    refine ZE.cV [(0, p)] [(0, 1), (0, (S : Int)), (2, o)] [(2, o), (0, p), (9, 0)] d_Ref_without_16 l_Ref_77 rfl rfl rfl rfl rfl rfl hK.1 ?_
    refine r_placeOf hK hF hp ?_
    show ZE (d + 9) M_Ref_without (gw G A) 19 [(2, o), (0, p)] [(0, plc p), (0, 1), (0, (S : Int)), (2, o)] _
    refine ZE.ishl d_Ref_without_19 ?_
    rw [show (zshl 1 (plc p) : Int) = ((2 ^ kk : Nat) : Int) from (by rw [hpl]; have := zshl_nat (a := 1) (k := kk) (by omega) (by omega); rw [Nat.one_mul] at this; exact this)]
    refine ZE.iconst (n := (-1)) d_Ref_without_20 ?_
    refine ZE.ixor d_Ref_without_21 ?_
    refine ZE.iand d_Ref_without_22 ?_
    rw [show (zand (S : Int) (zxor ((2 ^ kk : Nat) : Int) (-1)) : Int) = ((S - 2 ^ kk : Nat) : Int) from hot.1]
    refine ZE.cV [(0, ((S - 2 ^ kk : Nat) : Int))] [] [(2, o), (0, ((S - 2 ^ kk : Nat) : Int)), (9, 0), (9, 0)] d_Ref_without_23 l_Ref_218 rfl rfl rfl rfl rfl rfl hK.1 ?_
    refine r_pairsBy (S := S) (S2 := S - 2 ^ kk) hK hF hR hS7 hp5 hot.2.1 (hot.2.2 hp5) (fun A2 hRA2 gA2 => ?_)
    show ZE (d + 9) M_Ref_without (gw G A2) 26 [(2, o), (0, p)] [(0, ((prs (S - 2 ^ kk)).length : Int))] _
    refine ZE.goto (tgt := 30) d_Ref_without_26 rfl ?_
    refine ZE.iret d_Ref_without_30 rfl ?_
    have e0 : noS S p = S - 2 ^ kk := by unfold noS; rw [hpl, Int.toNat_natCast]
    have e1 : drpV S p = ((prs (S - 2 ^ kk)).length : Int) := by unfold drpV; rw [if_pos hyes, e0]
    have k1 := k A2 hRA2 gA2
    rw [e1] at k1
    exact k1
set_option maxRecDepth 20000 in
set_option maxHeartbeats 4000000 in
theorem r_bestPrime {d : Nat} {G : zG} {A : Int → Int → Int} {P : Option zV → zG → Prop} {o : Int} (hK : RK G o) (hF : RF A o) {S : Nat} (hR : RS S A o) (hS7 : S < 128) (hp5 : pop S ≤ 5) (k : ∀ A2, RS S A2 o → laF A A2 o → P (some (0, (bpF S 7).1)) (gw G A2)) : ZE (d + 10) M_Ref_bestPrime (gw G A) 0 [(2, o), (9, 0), (9, 0), (9, 0), (9, 0)] [] P := by
  refine ZE.iconst (n := (-1)) d_Ref_bestPrime_0 ?_
  refine ZE.istore_n (ls2 := [(2, o), (0, (-1)), (9, 0), (9, 0), (9, 0)]) d_Ref_bestPrime_1 (Nat.le_of_ble_eq_true rfl) rfl ?_
  refine ZE.iconst (n := (-1)) d_Ref_bestPrime_2 ?_
  refine ZE.istore_n (ls2 := [(2, o), (0, (-1)), (0, (-1)), (9, 0), (9, 0)]) d_Ref_bestPrime_3 (Nat.le_of_ble_eq_true rfl) rfl ?_
  refine ZE.iconst (n := 0) d_Ref_bestPrime_4 ?_
  refine ZE.istore_n (ls2 := [(2, o), (0, (-1)), (0, (-1)), (0, 0), (9, 0)]) d_Ref_bestPrime_5 (Nat.le_of_ble_eq_true rfl) rfl ?_
  have L6 : ∀ (t : Nat) (j : Nat) (A1 : Int → Int → Int) (hj : j ≤ 7) (hRA1 : RS S A1 o) (gA1 : laF A A1 o), 7 - j < t → ZE (d + 10) M_Ref_bestPrime (gw G A1) 6 [(2, o), (0, (bpF S j).1), (0, (bpF S j).2), (0, (j : Int)), (9, 0)] [] P := by
    intro t
    induction t with
    | zero => intro j A1 hj hRA1 gA1 hm; exact absurd hm (Nat.not_lt_zero _)
    | succ t ih =>
      intro j A1 hj hRA1 gA1 hm
      have hA1 : RF A1 o := hF.la gA1
      have hbR := bpF_R hS7 j hj
      have haR := addV_R hS7 (sev j)
      refine ZE.iload_n d_Ref_bestPrime_6 rfl ?_
      refine ZE.bipush (n := 7) d_Ref_bestPrime_7 rfl ?_
      refine ZE.icmp_ge (tgt := 49) d_Ref_bestPrime_9 rfl (by unfold zR; omega) (by unfold zR; omega) (fun c9 => ?_) (fun c9 => ?_)
      · have e1 : j = 7 := by omega
        rw [e1]
        refine ZE.iload_n d_Ref_bestPrime_49 rfl ?_
        refine ZE.iret d_Ref_bestPrime_50 rfl ?_
        exact k A1 hRA1 gA1
      · refine ZE.aload_n d_Ref_bestPrime_12 rfl ?_
        refine ZE.aload_n d_Ref_bestPrime_13 rfl ?_
        refine ZE.getE (v := o + 1) d_Ref_bestPrime_14 f_Ref_9 (tg := 2) rfl hK.1 hA1.a0 ?_
        refine ZE.iload_n d_Ref_bestPrime_17 rfl ?_
        refine ZE.ialdE (v := (sev j : Int)) d_Ref_bestPrime_18 hK.k1 (by have hn0 := hK.n1; show 0 ≤ (j : Int) ∧ (j : Int) < gn G (o + 1); omega) (hA1.sev j (by omega)) ?_
        have hsl := sev_lt j (by omega)
        refine ZE.cV [(0, (sev j : Int))] [] [(2, o), (0, (sev j : Int))] d_Ref_bestPrime_19 l_Ref_221 rfl rfl rfl rfl rfl rfl hK.1 ?_
        refine r_would (S := S) (p := (sev j : Int)) hK hA1 hRA1 hS7 hp5 (by unfold zR; omega) (fun A2 hRA2 gA2 => ?_)
        show ZE (d + 10) M_Ref_bestPrime (gw G A2) 22 [(2, o), (0, (bpF S j).1), (0, (bpF S j).2), (0, (j : Int)), (9, 0)] [(0, addV S (sev j : Int))] _
        have hA2 : RF A2 o := hA1.la gA2
        refine ZE.istore (ls2 := [(2, o), (0, (bpF S j).1), (0, (bpF S j).2), (0, (j : Int)), (0, addV S (sev j : Int))]) d_Ref_bestPrime_22 (Nat.le_of_ble_eq_true rfl) rfl ?_
        refine ZE.iload d_Ref_bestPrime_24 rfl ?_
        refine ZE.iload_n d_Ref_bestPrime_26 rfl ?_
        refine ZE.icmp_gt (tgt := 33) d_Ref_bestPrime_27 rfl (by unfold zR; omega) (by unfold zR; omega) (fun c27 => ?_) (fun c27 => ?_)
        · refine ZE.aload_n d_Ref_bestPrime_33 rfl ?_
          refine ZE.getE (v := o + 1) d_Ref_bestPrime_34 f_Ref_9 (tg := 2) rfl hK.1 hA2.a0 ?_
          refine ZE.iload_n d_Ref_bestPrime_37 rfl ?_
          refine ZE.ialdE (v := (sev j : Int)) d_Ref_bestPrime_38 hK.k1 (by have hn0 := hK.n1; show 0 ≤ (j : Int) ∧ (j : Int) < gn G (o + 1); omega) (hA2.sev j (by omega)) ?_
          refine ZE.istore_n (ls2 := [(2, o), (0, (sev j : Int)), (0, (bpF S j).2), (0, (j : Int)), (0, addV S (sev j : Int))]) d_Ref_bestPrime_39 (Nat.le_of_ble_eq_true rfl) rfl ?_
          refine ZE.iload d_Ref_bestPrime_40 rfl ?_
          refine ZE.istore_n (ls2 := [(2, o), (0, (sev j : Int)), (0, addV S (sev j : Int)), (0, (j : Int)), (0, addV S (sev j : Int))]) d_Ref_bestPrime_42 (Nat.le_of_ble_eq_true rfl) rfl ?_
          refine ZE.iinc (ls2 := [(2, o), (0, (sev j : Int)), (0, addV S (sev j : Int)), (0, (j : Int) + 1), (0, addV S (sev j : Int))]) d_Ref_bestPrime_43 rfl rfl ?_
          refine ZE.goto (tgt := 6) d_Ref_bestPrime_46 rfl ?_
          refine ZE.mask [true, true, true, true, false] ?_
          show ZE (d + 10) M_Ref_bestPrime (gw G A2) 6 [(2, o), (0, (sev j : Int)), (0, addV S (sev j : Int)), (0, (j : Int) + 1), (9, 0)] [] _
          rw [show (j : Int) + 1 = ((j + 1 : Nat) : Int) by omega]
          have e1 : bpF S (j + 1) = ((sev j : Int), addV S (sev j)) := if_neg (by omega)
          rw [show (sev j : Int) = (bpF S (j + 1)).1 by rw [e1], show addV S (bpF S (j + 1)).1 = (bpF S (j + 1)).2 by rw [e1]]
          exact ih (j + 1) A2 (by omega) hRA2 (gA1.tr gA2) (by omega)
        · refine ZE.goto (tgt := 43) d_Ref_bestPrime_30 rfl ?_
          refine ZE.iinc (ls2 := [(2, o), (0, (bpF S j).1), (0, (bpF S j).2), (0, (j : Int) + 1), (0, addV S (sev j : Int))]) d_Ref_bestPrime_43 rfl rfl ?_
          refine ZE.goto (tgt := 6) d_Ref_bestPrime_46 rfl ?_
          refine ZE.mask [true, true, true, true, false] ?_
          show ZE (d + 10) M_Ref_bestPrime (gw G A2) 6 [(2, o), (0, (bpF S j).1), (0, (bpF S j).2), (0, (j : Int) + 1), (9, 0)] [] _
          rw [show (j : Int) + 1 = ((j + 1 : Nat) : Int) by omega]
          rw [show bpF S j = bpF S (j + 1) from (if_pos (by omega)).symm]
          exact ih (j + 1) A2 (by omega) hRA2 (gA1.tr gA2) (by omega)
  exact L6 _ 0 A (by omega) hR laF.rf (Nat.lt_succ_self _)
set_option maxRecDepth 20000 in
set_option maxHeartbeats 4000000 in
theorem r_growth {d : Nat} {G : zG} {A : Int → Int → Int} {P : Option zV → zG → Prop} {o : Int} (hK : RK G o) (hF : RF A o) {S : Nat} (hR : RS S A o) (hS7 : S < 128) (hp5 : pop S ≤ 5) {c : Int} (hc : zR c) (k : ∀ A2, RS S A2 o → laF A A2 o → P (some (0, grV S c)) (gw G A2)) : ZE (d + 9) M_Ref_growth (gw G A) 0 [(2, o), (0, c), (9, 0), (9, 0), (9, 0)] [] P := by
  refine ZE.iload_n d_Ref_growth_0 rfl ?_
  refine ZE.i2l d_Ref_growth_1 hc ?_
  refine ZE.lconst d_Ref_growth_2 ?_
  show ZE (d + 9) M_Ref_growth (gw G A) 3 [(2, o), (0, c), (9, 0), (9, 0), (9, 0)] [(1, 0), (1, c)] _
  refine ZE.aload_n d_Ref_growth_3 rfl ?_
  refine ZE.getE (v := (S : Int)) d_Ref_growth_4 f_Ref_81 (tg := 0) rfl hK.1 hR.s ?_
  refine ZE.cS [(0, (S : Int))] [(1, 0), (1, c)] [(0, (S : Int)), (9, 0), (9, 0)] d_Ref_growth_7 l_Ref_206 rfl rfl rfl rfl rfl rfl ?_
  refine r_many (s := S) (by omega) ?_
  show ZE (d + 9) M_Ref_growth (gw G A) 10 [(2, o), (0, c), (9, 0), (9, 0), (9, 0)] [(0, (pop S : Int)), (1, 0), (1, c)] _
  refine ZE.i2l d_Ref_growth_10 (by unfold zR; omega) ?_
  refine ZE.cS [(1, c), (1, 0), (1, (pop S : Int))] [] [(1, c), (9, 0), (1, 0), (9, 0), (1, (pop S : Int)), (9, 0)] d_Ref_growth_11 l_Ref_111 rfl rfl rfl rfl rfl rfl ?_
  refine r_isIn (by unfold zR at hc; unfold zR64; omega) (by unfold zR64; omega) (by unfold zR64; omega) ?_
  show ZE (d + 9) M_Ref_growth (gw G A) 14 [(2, o), (0, c), (9, 0), (9, 0), (9, 0)] [(0, b2i (0 ≤ c ∧ c ≤ (pop S : Int)))] _
  refine ZE.if_ne (tgt := 19) d_Ref_growth_14 rfl (zR_b2i _) (fun c14 => ?_) (fun c14 => ?_)
  · replace c14 := b2i_n0.mp c14
    obtain ⟨kn, hkn⟩ : ∃ kn : Nat, c = kn := ⟨c.toNat, by omega⟩
    subst hkn
    refine ZE.iconst (n := 0) d_Ref_growth_19 ?_
    refine ZE.istore_n (ls2 := [(2, o), (0, (kn : Int)), (0, 0), (9, 0), (9, 0)]) d_Ref_growth_20 (Nat.le_of_ble_eq_true rfl) rfl ?_
    refine ZE.iload_n d_Ref_growth_21 rfl ?_
    refine ZE.istore_n (ls2 := [(2, o), (0, (kn : Int)), (0, 0), (0, (kn : Int)), (9, 0)]) d_Ref_growth_22 (Nat.le_of_ble_eq_true rfl) rfl ?_
    refine ZE.iconst (n := 0) d_Ref_growth_23 ?_
    refine ZE.istore (ls2 := [(2, o), (0, (kn : Int)), (0, 0), (0, (kn : Int)), (0, 0)]) d_Ref_growth_24 (Nat.le_of_ble_eq_true rfl) rfl ?_
    have L26 : ∀ (t : Nat) (i : Nat) (hi : i ≤ 7), 7 - i < t → ZE (d + 9) M_Ref_growth (gw G A) 26 [(2, o), (0, (kn : Int)), (0, ((gwF S kn i).1 : Int)), (0, ((gwF S kn i).2 : Int)), (0, (i : Int))] [] P := by
      intro t
      induction t with
      | zero => intro i hi hm; exact absurd hm (Nat.not_lt_zero _)
      | succ t ih =>
        intro i hi hm
        have hgt := gw_tab S hS7 kn (by omega) i (by omega)
        have hp6 : 2 ^ i ≤ 2 ^ 7 := Nat.pow_le_pow_right (by omega) (by omega)
        refine ZE.iload d_Ref_growth_26 rfl ?_
        refine ZE.bipush (n := 7) d_Ref_growth_28 rfl ?_
        refine ZE.icmp_ge (tgt := 68) d_Ref_growth_30 rfl (by unfold zR; omega) (by unfold zR; omega) (fun c30 => ?_) (fun c30 => ?_)
        · have e1 : i = 7 := by omega
          rw [e1]
          refine ZE.aload_n d_Ref_growth_68 rfl ?_
          refine ZE.iload_n d_Ref_growth_69 rfl ?_
          have hg7 := gw_tab S hS7 kn (by omega) 7 (by omega)
          refine ZE.cV [(0, ((gwF S kn 7).1 : Int))] [] [(2, o), (0, ((gwF S kn 7).1 : Int)), (9, 0), (9, 0)] d_Ref_growth_70 l_Ref_218 rfl rfl rfl rfl rfl rfl hK.1 ?_
          refine r_pairsBy (S := S) (S2 := (gwF S kn 7).1) hK hF hR hS7 hp5 hg7.1 hg7.2.2 (fun A2 hRA2 gA2 => ?_)
          show ZE (d + 9) M_Ref_growth (gw G A2) 73 [(2, o), (0, (kn : Int)), (0, ((gwF S kn 7).1 : Int)), (0, ((gwF S kn 7).2 : Int)), (0, ((7 : Nat) : Int))] [(0, ((prs (gwF S kn 7).1).length : Int))] _
          refine ZE.iret d_Ref_growth_73 rfl ?_
          have e1 : grV S (kn : Int) = ((prs (gwF S kn 7).1).length : Int) := by unfold grV; rw [if_pos (by omega), Int.toNat_natCast]
          have k1 := k A2 hRA2 gA2
          rw [e1] at k1
          exact k1
        · refine ZE.aload_n d_Ref_growth_33 rfl ?_
          refine ZE.getE (v := (S : Int)) d_Ref_growth_34 f_Ref_81 (tg := 0) rfl hK.1 hR.s ?_
          refine ZE.iload d_Ref_growth_37 rfl ?_
          refine ZE.cS [(0, (S : Int)), (0, (i : Int))] [] [(0, (S : Int)), (0, (i : Int))] d_Ref_growth_39 l_Ref_85 rfl rfl rfl rfl rfl rfl ?_
          refine r_has (S := S) (k0 := i) (by omega) (by omega) ?_
          show ZE (d + 9) M_Ref_growth (gw G A) 42 [(2, o), (0, (kn : Int)), (0, ((gwF S kn i).1 : Int)), (0, ((gwF S kn i).2 : Int)), (0, (i : Int))] [(0, b2i (S.testBit i = true))] _
          refine ZE.if_eq (tgt := 62) d_Ref_growth_42 rfl (zR_b2i _) (fun c42 => ?_) (fun c42 => ?_)
          · replace c42 := b2i_0.mp c42
            have hno : ¬ (S.testBit i && decide ((gwF S kn i).2 ≠ 0)) = true := by rw [Bool.eq_false_iff.mpr c42, Bool.false_and]; decide
            refine ZE.iinc (ls2 := [(2, o), (0, (kn : Int)), (0, ((gwF S kn i).1 : Int)), (0, ((gwF S kn i).2 : Int)), (0, (i : Int) + 1)]) d_Ref_growth_62 rfl rfl ?_
            refine ZE.goto (tgt := 26) d_Ref_growth_65 rfl ?_
            rw [show (i : Int) + 1 = ((i + 1 : Nat) : Int) by omega]
            rw [show gwF S kn i = gwF S kn (i + 1) from (if_neg hno).symm]
            exact ih (i + 1) (by omega) (by omega)
          · replace c42 := b2i_n0.mp c42
            refine ZE.iload_n d_Ref_growth_45 rfl ?_
            refine ZE.if_ne (tgt := 52) d_Ref_growth_46 rfl (by unfold zR; omega) (fun c46 => ?_) (fun c46 => ?_)
            · refine ZE.iload_n d_Ref_growth_52 rfl ?_
              refine ZE.iconst (n := 1) d_Ref_growth_53 ?_
              refine ZE.iload d_Ref_growth_54 rfl ?_
              refine ZE.ishl d_Ref_growth_56 ?_
              rw [show (zshl 1 (i : Int) : Int) = ((2 ^ i : Nat) : Int) from (by have := zshl_nat (a := 1) (k := i) (by omega) (by omega); rw [Nat.one_mul] at this; exact this)]
              refine ZE.ior d_Ref_growth_57 ?_
              rw [show (zor ((gwF S kn i).1 : Int) ((2 ^ i : Nat) : Int) : Int) = (((gwF S kn i).1 ||| 2 ^ i : Nat) : Int) from (zor_nat (by omega) (by omega))]
              refine ZE.istore_n (ls2 := [(2, o), (0, (kn : Int)), (0, (((gwF S kn i).1 ||| 2 ^ i : Nat) : Int)), (0, ((gwF S kn i).2 : Int)), (0, (i : Int))]) d_Ref_growth_58 (Nat.le_of_ble_eq_true rfl) rfl ?_
              refine ZE.iinc (ls2 := [(2, o), (0, (kn : Int)), (0, (((gwF S kn i).1 ||| 2 ^ i : Nat) : Int)), (0, ((gwF S kn i).2 : Int) + (-1)), (0, (i : Int))]) d_Ref_growth_59 rfl rfl ?_
              refine ZE.iinc (ls2 := [(2, o), (0, (kn : Int)), (0, (((gwF S kn i).1 ||| 2 ^ i : Nat) : Int)), (0, ((gwF S kn i).2 : Int) + (-1)), (0, (i : Int) + 1)]) d_Ref_growth_62 rfl rfl ?_
              refine ZE.goto (tgt := 26) d_Ref_growth_65 rfl ?_
              rw [show (i : Int) + 1 = ((i + 1 : Nat) : Int) by omega]
              have e1 : gwF S kn (i + 1) = ((gwF S kn i).1 ||| 2 ^ i, (gwF S kn i).2 - 1) := if_pos (by rw [c42, Bool.true_and]; exact decide_eq_true (by omega))
              rw [show (((gwF S kn i).1 ||| 2 ^ i : Nat) : Int) = ((gwF S kn (i + 1)).1 : Int) by rw [e1], show ((gwF S kn i).2 : Int) + (-1) = ((gwF S kn (i + 1)).2 : Int) by rw [e1]; show _ = (((gwF S kn i).2 - 1 : Nat) : Int); omega]
              exact ih (i + 1) (by omega) (by omega)
            · have hno : ¬ (S.testBit i && decide ((gwF S kn i).2 ≠ 0)) = true := by rw [Bool.and_eq_true, decide_eq_true_iff]; omega
              refine ZE.goto (tgt := 62) d_Ref_growth_49 rfl ?_
              refine ZE.iinc (ls2 := [(2, o), (0, (kn : Int)), (0, ((gwF S kn i).1 : Int)), (0, ((gwF S kn i).2 : Int)), (0, (i : Int) + 1)]) d_Ref_growth_62 rfl rfl ?_
              refine ZE.goto (tgt := 26) d_Ref_growth_65 rfl ?_
              rw [show (i : Int) + 1 = ((i + 1 : Nat) : Int) by omega]
              rw [show gwF S kn i = gwF S kn (i + 1) from (if_neg hno).symm]
              exact ih (i + 1) (by omega) (by omega)
    exact L26 _ 0 (by omega) (Nat.lt_succ_self _)
  · replace c14 := b2i_0.mp c14
    refine ZE.iconst (n := (-1)) d_Ref_growth_17 ?_
    refine ZE.iret d_Ref_growth_18 rfl ?_
    have e1 : grV S c = -1 := if_neg c14
    have k1 := k A hR laF.rf
    rw [e1] at k1
    exact k1
