def suT (S : Nat) (wh : Int) (a b : Nat) : Bool := smB S a && smB S b && smB S (a + b) && decide (mb a &&& mb b &&& mb (a + b) = 0) && decide (wh = 0 ∨ rad (mb a ||| mb b ||| mb (a + b)) < a + b)
def suC (S : Nat) (wh : Int) (u a : Nat) : Nat := cnt (fun j => suT S wh (a + 1) (a + 1 + j)) (u + 1 - 2 * (a + 1))
def ssV (S : Nat) (u wh : Int) : Int := if (0 ≤ u ∧ u ≤ 3000) ∧ 0 ≤ wh ∧ wh ≤ 1 then (sumF (suC S wh u.toNat) u.toNat : Int) else -1
def sbV (S k : Nat) : Int := if smB S k = true then (mb k : Int) else -1
theorem sbV_y {S k : Nat} (h : ¬ sbV S k = -1) : smB S k = true ∧ sbV S k = (mb k : Int) := by
  unfold sbV at h ⊢
  by_cases q : smB S k = true
  · exact ⟨q, if_pos q⟩
  · exact absurd (if_neg q) h
theorem sbV_n {S k : Nat} (h : sbV S k = -1) : ¬ smB S k = true := by
  intro q
  unfold sbV at h
  rw [if_pos q] at h
  omega
theorem sbV_R (S k : Nat) : -1 ≤ sbV S k ∧ sbV S k < 128 := by
  have := mb_lt k
  unfold sbV
  split <;> omega
theorem cnt_none {f : Nat → Bool} (h : ∀ k, ¬ f k = true) : ∀ n, cnt f n = 0 := by
  intro n
  induction n with
  | zero => rfl
  | succ n ih => unfold cnt; rw [if_neg (h n)]; exact ih
theorem suC_le (S : Nat) (wh : Int) (u : Nat) (hu : u ≤ 3000) (a : Nat) : suC S wh u a ≤ 3000 := by
  have := cnt_le (fun j => suT S wh (a + 1) (a + 1 + j)) (u + 1 - 2 * (a + 1))
  unfold suC
  omega
theorem suT_n {S : Nat} {wh : Int} {a b : Nat} (h : ¬ smB S a = true ∨ ¬ smB S b = true ∨ ¬ smB S (a + b) = true) : ¬ suT S wh a b = true := by
  intro q
  unfold suT at q
  rw [Bool.and_eq_true, Bool.and_eq_true, Bool.and_eq_true, Bool.and_eq_true] at q
  rcases h with h | h | h
  · exact h q.1.1.1.1
  · exact h q.1.1.1.2
  · exact h q.1.1.2
theorem suT_z {S : Nat} {wh : Int} {a b : Nat} (h : ¬ mb a &&& mb b &&& mb (a + b) = 0) : ¬ suT S wh a b = true := by
  intro q
  unfold suT at q
  rw [Bool.and_eq_true, Bool.and_eq_true, Bool.and_eq_true, Bool.and_eq_true] at q
  exact h (of_decide_eq_true q.1.2)
theorem suT_w {S : Nat} {wh : Int} {a b : Nat} (h : ¬ (wh = 0 ∨ rad (mb a ||| mb b ||| mb (a + b)) < a + b)) : ¬ suT S wh a b = true := by
  intro q
  unfold suT at q
  rw [Bool.and_eq_true] at q
  exact h (of_decide_eq_true q.2)
theorem suT_y {S : Nat} {wh : Int} {a b : Nat} (h1 : smB S a = true) (h2 : smB S b = true) (h3 : smB S (a + b) = true) (h4 : mb a &&& mb b &&& mb (a + b) = 0) (h5 : wh = 0 ∨ rad (mb a ||| mb b ||| mb (a + b)) < a + b) : suT S wh a b = true := by
  unfold suT
  rw [h1, h2, h3, decide_eq_true h4, decide_eq_true h5]
  rfl
def suM (f : Int → Int) (S n : Nat) : Prop := ∀ k : Nat, 1 ≤ k → k ≤ n → f k = sbV S k
theorem suM_s {f : Int → Int} {S n : Nat} {i v : Int} (hi : i = ((n + 1 : Nat) : Int)) (h : suM f S n) (hv : v = sbV S (n + 1)) : suM (up1 f i v) S (n + 1) := by
  intro k h1 h2
  subst hi
  by_cases e : k = n + 1
  · subst e; rw [up1_at, hv]
  · rw [up1_ne _ _ (by omega)]; exact h k h1 (by omega)
theorem quF.made {A : Int → Int → Int} {o : Int} (f : Int → Int) : quF A (upA A (o + 14) f) o := ⟨fun b h1 h2 h3 h4 => upA_ne _ _ h4, fun i h1 h2 h3 => by rw [upA_ne _ _ (by omega)], by rw [upA_ne _ _ (by omega)]; exact quF.rf.2.2⟩
set_option maxRecDepth 20000 in
set_option maxHeartbeats 4000000 in
theorem r_sums {d : Nat} {G : zG} {A : Int → Int → Int} {P : Option zV → zG → Prop} {o : Int} (hK : RK G o) (hF : RF A o) {S : Nat} (hR : RS S A o) (hS7 : S < 128) (hp5 : pop S ≤ 5) {u wh : Int} (hu : zR u) (hw : zR wh) (k : ∀ A2, quF A A2 o → P (some (0, ssV S u wh)) (gw G A2)) : ZE (d + 2) M_Ref_sums (gw G A) 0 [(2, o), (0, u), (0, wh), (9, 0), (9, 0), (9, 0), (9, 0)] [] P := by
  have hpl := prs_288 hS7 hp5
  have hcl := cls_le hS7 hp5
  refine ZE.iload_n d_Ref_sums_0 rfl ?_
  refine ZE.i2l d_Ref_sums_1 hu ?_
  refine ZE.lconst d_Ref_sums_2 ?_
  show ZE (d + 2) M_Ref_sums (gw G A) 3 [(2, o), (0, u), (0, wh), (9, 0), (9, 0), (9, 0), (9, 0)] [(1, 0), (1, u)] _
  refine ZE.ldc2 (v := 3000) d_Ref_sums_3 k_Ref_320 ?_
  refine ZE.cS [(1, u), (1, 0), (1, 3000)] [] [(1, u), (9, 0), (1, 0), (9, 0), (1, 3000), (9, 0)] d_Ref_sums_6 l_Ref_111 rfl rfl rfl rfl rfl rfl ?_
  refine r_isIn (by unfold zR at hu; unfold zR64; omega) (by unfold zR64; omega) (by unfold zR64; omega) ?_
  show ZE (d + 2) M_Ref_sums (gw G A) 9 [(2, o), (0, u), (0, wh), (9, 0), (9, 0), (9, 0), (9, 0)] [(0, b2i (0 ≤ u ∧ u ≤ 3000))] _
  refine ZE.if_eq (tgt := 22) d_Ref_sums_9 rfl (zR_b2i _) (fun c9 => ?_) (fun c9 => ?_)
  · replace c9 := b2i_0.mp c9
    refine ZE.iconst (n := (-1)) d_Ref_sums_22 ?_
    refine ZE.iret d_Ref_sums_23 rfl ?_
    have k1 := k A quF.rf
    rw [show ssV S u wh = -1 from if_neg (by omega)] at k1
    exact k1
  · replace c9 := b2i_n0.mp c9
    refine ZE.iload_n d_Ref_sums_12 rfl ?_
    refine ZE.i2l d_Ref_sums_13 hw ?_
    refine ZE.lconst d_Ref_sums_14 ?_
    show ZE (d + 2) M_Ref_sums (gw G A) 15 [(2, o), (0, u), (0, wh), (9, 0), (9, 0), (9, 0), (9, 0)] [(1, 0), (1, wh)] _
    refine ZE.lconst d_Ref_sums_15 ?_
    show ZE (d + 2) M_Ref_sums (gw G A) 16 [(2, o), (0, u), (0, wh), (9, 0), (9, 0), (9, 0), (9, 0)] [(1, 1), (1, 0), (1, wh)] _
    refine ZE.cS [(1, wh), (1, 0), (1, 1)] [] [(1, wh), (9, 0), (1, 0), (9, 0), (1, 1), (9, 0)] d_Ref_sums_16 l_Ref_111 rfl rfl rfl rfl rfl rfl ?_
    refine r_isIn (by unfold zR at hw; unfold zR64; omega) (by unfold zR64; omega) (by unfold zR64; omega) ?_
    show ZE (d + 2) M_Ref_sums (gw G A) 19 [(2, o), (0, u), (0, wh), (9, 0), (9, 0), (9, 0), (9, 0)] [(0, b2i (0 ≤ wh ∧ wh ≤ 1))] _
    refine ZE.if_ne (tgt := 24) d_Ref_sums_19 rfl (zR_b2i _) (fun c19 => ?_) (fun c19 => ?_)
    · replace c19 := b2i_n0.mp c19
      obtain ⟨un, hun⟩ : ∃ un : Nat, u = un := ⟨u.toNat, by omega⟩
      subst hun
      refine ZE.iconst (n := 1) d_Ref_sums_24 ?_
      refine ZE.istore_n (ls2 := [(2, o), (0, (un : Int)), (0, wh), (0, 1), (9, 0), (9, 0), (9, 0)]) d_Ref_sums_25 (Nat.le_of_ble_eq_true rfl) rfl ?_
      have L26 : ∀ (t : Nat) (n : Nat) (f : Int → Int) (hn : n ≤ un) (hf0 : suM f S n), un + 1 - n < t → ZE (d + 2) M_Ref_sums (gw G (upA A (o + 14) f)) 26 [(2, o), (0, (un : Int)), (0, wh), (0, (n : Int) + 1), (9, 0), (9, 0), (9, 0)] [] P := by
        intro t
        induction t with
        | zero => intro n f hn hf0 hm; exact absurd hm (Nat.not_lt_zero _)
        | succ t ih =>
          intro n f hn hf0 hm
          refine ZE.iload_n d_Ref_sums_26 rfl ?_
          refine ZE.iload_n d_Ref_sums_27 rfl ?_
          refine ZE.icmp_gt (tgt := 60) d_Ref_sums_28 rfl (by unfold zR; omega) (by unfold zR; omega) (fun c28 => ?_) (fun c28 => ?_)
          · have e1 : n = un := by omega
            rw [e1] at hf0
            refine ZE.iconst (n := 0) d_Ref_sums_60 ?_
            refine ZE.istore_n (ls2 := [(2, o), (0, (un : Int)), (0, wh), (0, 0), (9, 0), (9, 0), (9, 0)]) d_Ref_sums_61 (Nat.le_of_ble_eq_true rfl) rfl ?_
            refine ZE.iconst (n := 1) d_Ref_sums_62 ?_
            refine ZE.istore (ls2 := [(2, o), (0, (un : Int)), (0, wh), (0, 0), (0, 1), (9, 0), (9, 0)]) d_Ref_sums_63 (Nat.le_of_ble_eq_true rfl) rfl ?_
            have L65 : ∀ (t : Nat) (y : Nat) (hy : y ≤ un), un + 1 - y < t → ZE (d + 2) M_Ref_sums (gw G (upA A (o + 14) f)) 65 [(2, o), (0, (un : Int)), (0, wh), (0, (sumF (suC S wh un) y : Int)), (0, (y : Int) + 1), (9, 0), (9, 0)] [] P := by
              intro t
              induction t with
              | zero => intro y hy hm; exact absurd hm (Nat.not_lt_zero _)
              | succ t ih =>
                intro y hy hm
                have ihO := ih
                have hmO := hm
                have hsl := sumF_le (f := suC S wh un) (b := 3000) y (fun k _ => suC_le S wh un (by omega) k)
                refine ZE.iload d_Ref_sums_65 rfl ?_
                refine ZE.iload_n d_Ref_sums_67 rfl ?_
                refine ZE.icmp_gt (tgt := 209) d_Ref_sums_68 rfl (by unfold zR; omega) (by unfold zR; omega) (fun c68 => ?_) (fun c68 => ?_)
                · have e2 : y = un := by omega
                  rw [e2]
                  refine ZE.iload_n d_Ref_sums_209 rfl ?_
                  refine ZE.iret d_Ref_sums_210 rfl ?_
                  have k1 := k _ (quF.made f)
                  rw [show ssV S (un : Int) wh = (sumF (suC S wh un) un : Int) by unfold ssV; rw [if_pos (by omega), Int.toNat_natCast]] at k1
                  exact k1
                · refine ZE.iload d_Ref_sums_71 rfl ?_
                  refine ZE.istore (ls2 := [(2, o), (0, (un : Int)), (0, wh), (0, (sumF (suC S wh un) y : Int)), (0, (y : Int) + 1), (0, (y : Int) + 1), (9, 0)]) d_Ref_sums_73 (Nat.le_of_ble_eq_true rfl) rfl ?_
                  have L75 : ∀ (t : Nat) (j : Nat) (hj : j ≤ un + 1 - 2 * (y + 1)), un + 1 - j < t → ZE (d + 2) M_Ref_sums (gw G (upA A (o + 14) f)) 75 [(2, o), (0, (un : Int)), (0, wh), (0, (sumF (suC S wh un) y : Int) + (cnt (fun j => suT S wh (y + 1) (y + 1 + j)) j : Int)), (0, (y : Int) + 1), (0, (y : Int) + 1 + j), (9, 0)] [] P := by
                    intro t
                    induction t with
                    | zero => intro j hj hm; exact absurd hm (Nat.not_lt_zero _)
                    | succ t ih =>
                      intro j hj hm
                      have hcn := cnt_le (fun j => suT S wh (y + 1) (y + 1 + j)) j
                      have hba := sbV_R S (y + 1)
                      have hbb := sbV_R S (y + 1 + j)
                      have hbc := sbV_R S (y + 1 + (y + 1 + j))
                      have hma := mb_lt (y + 1)
                      have hmb := mb_lt (y + 1 + j)
                      have hmc := mb_lt (y + 1 + (y + 1 + j))
                      refine ZE.iload d_Ref_sums_75 rfl ?_
                      refine ZE.iload d_Ref_sums_77 rfl ?_
                      refine ZE.iadd d_Ref_sums_79 ?_
                      refine ZE.iload_n d_Ref_sums_80 rfl ?_
                      refine ZE.icmp_gt (tgt := 203) d_Ref_sums_81 rfl (by unfold zR; omega) (by unfold zR; omega) (fun c81 => ?_) (fun c81 => ?_)
                      · have e3 : cnt (fun j => suT S wh (y + 1) (y + 1 + j)) j = suC S wh un y := by unfold suC; rw [show j = un + 1 - 2 * (y + 1) by omega]
                        refine ZE.iinc (ls2 := [(2, o), (0, (un : Int)), (0, wh), (0, (sumF (suC S wh un) y : Int) + (cnt (fun j => suT S wh (y + 1) (y + 1 + j)) j : Int)), (0, ((y : Int) + 1) + 1), (0, (y : Int) + 1 + j), (9, 0)]) d_Ref_sums_203 rfl rfl ?_
                        refine ZE.goto (tgt := 65) d_Ref_sums_206 rfl ?_
                        refine ZE.mask [true, true, true, true, true, false, true] ?_
                        show ZE (d + 2) M_Ref_sums (gw G (upA A (o + 14) f)) 65 [(2, o), (0, (un : Int)), (0, wh), (0, (sumF (suC S wh un) y : Int) + (cnt (fun j => suT S wh (y + 1) (y + 1 + j)) j : Int)), (0, ((y : Int) + 1) + 1), (9, 0), (9, 0)] [] _
                        rw [show (sumF (suC S wh un) y : Int) + (cnt (fun j => suT S wh (y + 1) (y + 1 + j)) j : Int) = (sumF (suC S wh un) (y + 1) : Int) from by show _ = ((sumF (suC S wh un) y + suC S wh un y : Nat) : Int); omega, show (y : Int) + 1 + 1 = ((y + 1 : Nat) : Int) + 1 by omega]
                        exact ihO (y + 1) (by omega) (by omega)
                      · refine ZE.aload_n d_Ref_sums_84 rfl ?_
                        refine ZE.getE (v := o + 14) d_Ref_sums_85 f_Ref_49 (tg := 2) rfl hK.1 (hF.uA (by omega)).a23 ?_
                        refine ZE.iload d_Ref_sums_88 rfl ?_
                        refine ZE.ialdE (v := sbV S (y + 1)) d_Ref_sums_90 hK.k14 (by have hn0 := hK.n14; show 0 ≤ ((y : Int) + 1) ∧ ((y : Int) + 1) < gn G (o + 14); omega) ((congrFun (upA_at _ _ _) _).trans ((congrArg f (show (y : Int) + 1 = ((y + 1 : Nat) : Int) by omega)).trans (hf0 (y + 1) (by omega) (by omega)))) ?_
                        refine ZE.iconst (n := (-1)) d_Ref_sums_91 ?_
                        refine ZE.icmp_eq (tgt := 203) d_Ref_sums_92 rfl (by unfold zR; omega) (by unfold zR; omega) (fun c92 => ?_) (fun c92 => ?_)
                        · have hnn : ∀ k, ¬ (fun j => suT S wh (y + 1) (y + 1 + j)) k = true := fun k => suT_n (Or.inl (sbV_n c92))
                          have e3 : cnt (fun j => suT S wh (y + 1) (y + 1 + j)) j = suC S wh un y := by unfold suC; rw [cnt_none hnn, cnt_none hnn]
                          refine ZE.iinc (ls2 := [(2, o), (0, (un : Int)), (0, wh), (0, (sumF (suC S wh un) y : Int) + (cnt (fun j => suT S wh (y + 1) (y + 1 + j)) j : Int)), (0, ((y : Int) + 1) + 1), (0, (y : Int) + 1 + j), (9, 0)]) d_Ref_sums_203 rfl rfl ?_
                          refine ZE.goto (tgt := 65) d_Ref_sums_206 rfl ?_
                          refine ZE.mask [true, true, true, true, true, false, true] ?_
                          show ZE (d + 2) M_Ref_sums (gw G (upA A (o + 14) f)) 65 [(2, o), (0, (un : Int)), (0, wh), (0, (sumF (suC S wh un) y : Int) + (cnt (fun j => suT S wh (y + 1) (y + 1 + j)) j : Int)), (0, ((y : Int) + 1) + 1), (9, 0), (9, 0)] [] _
                          rw [show (sumF (suC S wh un) y : Int) + (cnt (fun j => suT S wh (y + 1) (y + 1 + j)) j : Int) = (sumF (suC S wh un) (y + 1) : Int) from by show _ = ((sumF (suC S wh un) y + suC S wh un y : Nat) : Int); omega, show (y : Int) + 1 + 1 = ((y + 1 : Nat) : Int) + 1 by omega]
                          exact ihO (y + 1) (by omega) (by omega)
                        · have hsa := sbV_y c92
                          refine ZE.iload d_Ref_sums_95 rfl ?_
                          refine ZE.iload d_Ref_sums_97 rfl ?_
                          refine ZE.iadd d_Ref_sums_99 ?_
                          refine ZE.istore (ls2 := [(2, o), (0, (un : Int)), (0, wh), (0, (sumF (suC S wh un) y : Int) + (cnt (fun j => suT S wh (y + 1) (y + 1 + j)) j : Int)), (0, (y : Int) + 1), (0, (y : Int) + 1 + j), (0, ((y : Int) + 1) + ((y : Int) + 1 + j))]) d_Ref_sums_100 (Nat.le_of_ble_eq_true rfl) rfl ?_
                          refine ZE.aload_n d_Ref_sums_102 rfl ?_
                          refine ZE.getE (v := o + 14) d_Ref_sums_103 f_Ref_49 (tg := 2) rfl hK.1 (hF.uA (by omega)).a23 ?_
                          refine ZE.iload d_Ref_sums_106 rfl ?_
                          refine ZE.ialdE (v := sbV S (y + 1 + j)) d_Ref_sums_108 hK.k14 (by have hn0 := hK.n14; show 0 ≤ ((y : Int) + 1 + j) ∧ ((y : Int) + 1 + j) < gn G (o + 14); omega) ((congrFun (upA_at _ _ _) _).trans ((congrArg f (show (y : Int) + 1 + j = ((y + 1 + j : Nat) : Int) by omega)).trans (hf0 (y + 1 + j) (by omega) (by omega)))) ?_
                          refine ZE.iconst (n := (-1)) d_Ref_sums_109 ?_
                          refine ZE.icmp_eq (tgt := 197) d_Ref_sums_110 rfl (by unfold zR; omega) (by unfold zR; omega) (fun c110 => ?_) (fun c110 => ?_)
                          · have hno : ¬ suT S wh (y + 1) (y + 1 + j) = true := suT_n (Or.inr (Or.inl (sbV_n c110)))
                            refine ZE.iinc (ls2 := [(2, o), (0, (un : Int)), (0, wh), (0, (sumF (suC S wh un) y : Int) + (cnt (fun j => suT S wh (y + 1) (y + 1 + j)) j : Int)), (0, (y : Int) + 1), (0, ((y : Int) + 1 + j) + 1), (0, ((y : Int) + 1) + ((y : Int) + 1 + j))]) d_Ref_sums_197 rfl rfl ?_
                            refine ZE.goto (tgt := 75) d_Ref_sums_200 rfl ?_
                            refine ZE.mask [true, true, true, true, true, true, false] ?_
                            show ZE (d + 2) M_Ref_sums (gw G (upA A (o + 14) f)) 75 [(2, o), (0, (un : Int)), (0, wh), (0, (sumF (suC S wh un) y : Int) + (cnt (fun j => suT S wh (y + 1) (y + 1 + j)) j : Int)), (0, (y : Int) + 1), (0, ((y : Int) + 1 + j) + 1), (9, 0)] [] _
                            have e1 : cnt (fun j => suT S wh (y + 1) (y + 1 + j)) (j + 1) = cnt (fun j => suT S wh (y + 1) (y + 1 + j)) j := if_neg hno
                            rw [show (sumF (suC S wh un) y : Int) + (cnt (fun j => suT S wh (y + 1) (y + 1 + j)) j : Int) = (sumF (suC S wh un) y : Int) + (cnt (fun j => suT S wh (y + 1) (y + 1 + j)) (j + 1) : Int) by rw [e1] <;> omega, show (y : Int) + 1 + j + 1 = (y : Int) + 1 + ((j + 1 : Nat) : Int) by omega]
                            exact ih (j + 1) (by omega) (by omega)
                          · have hsb := sbV_y c110
                            refine ZE.aload_n d_Ref_sums_113 rfl ?_
                            refine ZE.getE (v := o + 14) d_Ref_sums_114 f_Ref_49 (tg := 2) rfl hK.1 (hF.uA (by omega)).a23 ?_
                            refine ZE.iload d_Ref_sums_117 rfl ?_
                            refine ZE.ialdE (v := sbV S (y + 1 + (y + 1 + j))) d_Ref_sums_119 hK.k14 (by have hn0 := hK.n14; show 0 ≤ (((y : Int) + 1) + ((y : Int) + 1 + j)) ∧ (((y : Int) + 1) + ((y : Int) + 1 + j)) < gn G (o + 14); omega) ((congrFun (upA_at _ _ _) _).trans ((congrArg f (show ((y : Int) + 1) + ((y : Int) + 1 + j) = ((y + 1 + (y + 1 + j) : Nat) : Int) by omega)).trans (hf0 (y + 1 + (y + 1 + j)) (by omega) (by omega)))) ?_
                            refine ZE.iconst (n := (-1)) d_Ref_sums_120 ?_
                            refine ZE.icmp_eq (tgt := 197) d_Ref_sums_121 rfl (by unfold zR; omega) (by unfold zR; omega) (fun c121 => ?_) (fun c121 => ?_)
                            · have hno : ¬ suT S wh (y + 1) (y + 1 + j) = true := suT_n (Or.inr (Or.inr (sbV_n c121)))
                              refine ZE.iinc (ls2 := [(2, o), (0, (un : Int)), (0, wh), (0, (sumF (suC S wh un) y : Int) + (cnt (fun j => suT S wh (y + 1) (y + 1 + j)) j : Int)), (0, (y : Int) + 1), (0, ((y : Int) + 1 + j) + 1), (0, ((y : Int) + 1) + ((y : Int) + 1 + j))]) d_Ref_sums_197 rfl rfl ?_
                              refine ZE.goto (tgt := 75) d_Ref_sums_200 rfl ?_
                              refine ZE.mask [true, true, true, true, true, true, false] ?_
                              show ZE (d + 2) M_Ref_sums (gw G (upA A (o + 14) f)) 75 [(2, o), (0, (un : Int)), (0, wh), (0, (sumF (suC S wh un) y : Int) + (cnt (fun j => suT S wh (y + 1) (y + 1 + j)) j : Int)), (0, (y : Int) + 1), (0, ((y : Int) + 1 + j) + 1), (9, 0)] [] _
                              have e1 : cnt (fun j => suT S wh (y + 1) (y + 1 + j)) (j + 1) = cnt (fun j => suT S wh (y + 1) (y + 1 + j)) j := if_neg hno
                              rw [show (sumF (suC S wh un) y : Int) + (cnt (fun j => suT S wh (y + 1) (y + 1 + j)) j : Int) = (sumF (suC S wh un) y : Int) + (cnt (fun j => suT S wh (y + 1) (y + 1 + j)) (j + 1) : Int) by rw [e1] <;> omega, show (y : Int) + 1 + j + 1 = (y : Int) + 1 + ((j + 1 : Nat) : Int) by omega]
                              exact ih (j + 1) (by omega) (by omega)
                            · have hsc := sbV_y c121
                              refine ZE.aload_n d_Ref_sums_124 rfl ?_
                              refine ZE.getE (v := o + 14) d_Ref_sums_125 f_Ref_49 (tg := 2) rfl hK.1 (hF.uA (by omega)).a23 ?_
                              refine ZE.iload d_Ref_sums_128 rfl ?_
                              refine ZE.ialdE (v := (mb (y + 1) : Int)) d_Ref_sums_130 hK.k14 (by have hn0 := hK.n14; show 0 ≤ ((y : Int) + 1) ∧ ((y : Int) + 1) < gn G (o + 14); omega) (((congrFun (upA_at _ _ _) _).trans ((congrArg f (show (y : Int) + 1 = ((y + 1 : Nat) : Int) by omega)).trans (hf0 (y + 1) (by omega) (by omega)))).trans hsa.2) ?_
                              refine ZE.aload_n d_Ref_sums_131 rfl ?_
                              refine ZE.getE (v := o + 14) d_Ref_sums_132 f_Ref_49 (tg := 2) rfl hK.1 (hF.uA (by omega)).a23 ?_
                              refine ZE.iload d_Ref_sums_135 rfl ?_
                              refine ZE.ialdE (v := (mb (y + 1 + j) : Int)) d_Ref_sums_137 hK.k14 (by have hn0 := hK.n14; show 0 ≤ ((y : Int) + 1 + j) ∧ ((y : Int) + 1 + j) < gn G (o + 14); omega) (((congrFun (upA_at _ _ _) _).trans ((congrArg f (show (y : Int) + 1 + j = ((y + 1 + j : Nat) : Int) by omega)).trans (hf0 (y + 1 + j) (by omega) (by omega)))).trans hsb.2) ?_
                              refine ZE.iand d_Ref_sums_138 ?_
                              rw [show (zand (mb (y + 1) : Int) (mb (y + 1 + j) : Int) : Int) = ((mb (y + 1) &&& mb (y + 1 + j) : Nat) : Int) from (zand_nat (by omega) (by omega))]
                              refine ZE.aload_n d_Ref_sums_139 rfl ?_
                              refine ZE.getE (v := o + 14) d_Ref_sums_140 f_Ref_49 (tg := 2) rfl hK.1 (hF.uA (by omega)).a23 ?_
                              refine ZE.iload d_Ref_sums_143 rfl ?_
                              refine ZE.ialdE (v := (mb (y + 1 + (y + 1 + j)) : Int)) d_Ref_sums_145 hK.k14 (by have hn0 := hK.n14; show 0 ≤ (((y : Int) + 1) + ((y : Int) + 1 + j)) ∧ (((y : Int) + 1) + ((y : Int) + 1 + j)) < gn G (o + 14); omega) (((congrFun (upA_at _ _ _) _).trans ((congrArg f (show ((y : Int) + 1) + ((y : Int) + 1 + j) = ((y + 1 + (y + 1 + j) : Nat) : Int) by omega)).trans (hf0 (y + 1 + (y + 1 + j)) (by omega) (by omega)))).trans hsc.2) ?_
                              refine ZE.iand d_Ref_sums_146 ?_
                              rw [show (zand ((mb (y + 1) &&& mb (y + 1 + j) : Nat) : Int) (mb (y + 1 + (y + 1 + j)) : Int) : Int) = ((mb (y + 1) &&& mb (y + 1 + j) &&& mb (y + 1 + (y + 1 + j)) : Nat) : Int) from (zand_nat (by have := Nat.and_le_left (n := mb (y + 1)) (m := mb (y + 1 + j)); omega) (by omega))]
                              have hz3 : mb (y + 1) &&& mb (y + 1 + j) &&& mb (y + 1 + (y + 1 + j)) < 2147483648 := by have := Nat.and_le_right (n := mb (y + 1) &&& mb (y + 1 + j)) (m := mb (y + 1 + (y + 1 + j))); omega
                              refine ZE.if_eq (tgt := 153) d_Ref_sums_147 rfl (by unfold zR; omega) (fun c147 => ?_) (fun c147 => ?_)
                              · refine ZE.iload_n d_Ref_sums_153 rfl ?_
                                refine ZE.iload_n d_Ref_sums_154 rfl ?_
                                refine ZE.if_eq (tgt := 190) d_Ref_sums_155 rfl (by unfold zR; omega) (fun c155 => ?_) (fun c155 => ?_)
                                · have hyes : suT S wh (y + 1) (y + 1 + j) = true := suT_y hsa.1 hsb.1 hsc.1 (by omega) (Or.inl c155)
                                  refine ZE.iconst (n := 1) d_Ref_sums_190 ?_
                                  refine ZE.goto (tgt := 195) d_Ref_sums_191 rfl ?_
                                  refine ZE.iadd d_Ref_sums_195 ?_
                                  refine ZE.istore_n (ls2 := [(2, o), (0, (un : Int)), (0, wh), (0, ((sumF (suC S wh un) y : Int) + (cnt (fun j => suT S wh (y + 1) (y + 1 + j)) j : Int)) + 1), (0, (y : Int) + 1), (0, (y : Int) + 1 + j), (0, ((y : Int) + 1) + ((y : Int) + 1 + j))]) d_Ref_sums_196 (Nat.le_of_ble_eq_true rfl) rfl ?_
                                  refine ZE.iinc (ls2 := [(2, o), (0, (un : Int)), (0, wh), (0, ((sumF (suC S wh un) y : Int) + (cnt (fun j => suT S wh (y + 1) (y + 1 + j)) j : Int)) + 1), (0, (y : Int) + 1), (0, ((y : Int) + 1 + j) + 1), (0, ((y : Int) + 1) + ((y : Int) + 1 + j))]) d_Ref_sums_197 rfl rfl ?_
                                  refine ZE.goto (tgt := 75) d_Ref_sums_200 rfl ?_
                                  refine ZE.mask [true, true, true, true, true, true, false] ?_
                                  show ZE (d + 2) M_Ref_sums (gw G (upA A (o + 14) f)) 75 [(2, o), (0, (un : Int)), (0, wh), (0, ((sumF (suC S wh un) y : Int) + (cnt (fun j => suT S wh (y + 1) (y + 1 + j)) j : Int)) + 1), (0, (y : Int) + 1), (0, ((y : Int) + 1 + j) + 1), (9, 0)] [] _
                                  have e1 : cnt (fun j => suT S wh (y + 1) (y + 1 + j)) (j + 1) = cnt (fun j => suT S wh (y + 1) (y + 1 + j)) j + 1 := if_pos hyes
                                  rw [show ((sumF (suC S wh un) y : Int) + (cnt (fun j => suT S wh (y + 1) (y + 1 + j)) j : Int)) + 1 = (sumF (suC S wh un) y : Int) + (cnt (fun j => suT S wh (y + 1) (y + 1 + j)) (j + 1) : Int) by rw [e1] <;> omega, show (y : Int) + 1 + j + 1 = (y : Int) + 1 + ((j + 1 : Nat) : Int) by omega]
                                  exact ih (j + 1) (by omega) (by omega)
                                · refine ZE.iload d_Ref_sums_158 rfl ?_
                                  refine ZE.aload_n d_Ref_sums_160 rfl ?_
                                  refine ZE.aload_n d_Ref_sums_161 rfl ?_
                                  refine ZE.getE (v := o + 14) d_Ref_sums_162 f_Ref_49 (tg := 2) rfl hK.1 (hF.uA (by omega)).a23 ?_
                                  refine ZE.iload d_Ref_sums_165 rfl ?_
                                  refine ZE.ialdE (v := (mb (y + 1) : Int)) d_Ref_sums_167 hK.k14 (by have hn0 := hK.n14; show 0 ≤ ((y : Int) + 1) ∧ ((y : Int) + 1) < gn G (o + 14); omega) (((congrFun (upA_at _ _ _) _).trans ((congrArg f (show (y : Int) + 1 = ((y + 1 : Nat) : Int) by omega)).trans (hf0 (y + 1) (by omega) (by omega)))).trans hsa.2) ?_
                                  refine ZE.aload_n d_Ref_sums_168 rfl ?_
                                  refine ZE.getE (v := o + 14) d_Ref_sums_169 f_Ref_49 (tg := 2) rfl hK.1 (hF.uA (by omega)).a23 ?_
                                  refine ZE.iload d_Ref_sums_172 rfl ?_
                                  refine ZE.ialdE (v := (mb (y + 1 + j) : Int)) d_Ref_sums_174 hK.k14 (by have hn0 := hK.n14; show 0 ≤ ((y : Int) + 1 + j) ∧ ((y : Int) + 1 + j) < gn G (o + 14); omega) (((congrFun (upA_at _ _ _) _).trans ((congrArg f (show (y : Int) + 1 + j = ((y + 1 + j : Nat) : Int) by omega)).trans (hf0 (y + 1 + j) (by omega) (by omega)))).trans hsb.2) ?_
                                  refine ZE.ior d_Ref_sums_175 ?_
                                  rw [show (zor (mb (y + 1) : Int) (mb (y + 1 + j) : Int) : Int) = ((mb (y + 1) ||| mb (y + 1 + j) : Nat) : Int) from (zor_nat (by omega) (by omega))]
                                  refine ZE.aload_n d_Ref_sums_176 rfl ?_
                                  refine ZE.getE (v := o + 14) d_Ref_sums_177 f_Ref_49 (tg := 2) rfl hK.1 (hF.uA (by omega)).a23 ?_
                                  refine ZE.iload d_Ref_sums_180 rfl ?_
                                  refine ZE.ialdE (v := (mb (y + 1 + (y + 1 + j)) : Int)) d_Ref_sums_182 hK.k14 (by have hn0 := hK.n14; show 0 ≤ (((y : Int) + 1) + ((y : Int) + 1 + j)) ∧ (((y : Int) + 1) + ((y : Int) + 1 + j)) < gn G (o + 14); omega) (((congrFun (upA_at _ _ _) _).trans ((congrArg f (show ((y : Int) + 1) + ((y : Int) + 1 + j) = ((y + 1 + (y + 1 + j) : Nat) : Int) by omega)).trans (hf0 (y + 1 + (y + 1 + j)) (by omega) (by omega)))).trans hsc.2) ?_
                                  refine ZE.ior d_Ref_sums_183 ?_
                                  rw [show (zor ((mb (y + 1) ||| mb (y + 1 + j) : Nat) : Int) (mb (y + 1 + (y + 1 + j)) : Int) : Int) = ((mb (y + 1) ||| mb (y + 1 + j) ||| mb (y + 1 + (y + 1 + j)) : Nat) : Int) from (zor_nat (by have := Nat.or_lt_two_pow (n := 7) hma hmb; omega) (by omega))]
                                  have hr7 : mb (y + 1) ||| mb (y + 1 + j) ||| mb (y + 1 + (y + 1 + j)) < 128 := Nat.or_lt_two_pow (n := 7) (Nat.or_lt_two_pow (n := 7) hma hmb) hmc
                                  have hr8 := (gr_le2 _ hr7).2
                                  refine ZE.cV [(0, ((mb (y + 1) ||| mb (y + 1 + j) ||| mb (y + 1 + (y + 1 + j)) : Nat) : Int))] [(0, ((y : Int) + 1) + ((y : Int) + 1 + j)), (0, (sumF (suC S wh un) y : Int) + (cnt (fun j => suT S wh (y + 1) (y + 1 + j)) j : Int))] [(2, o), (0, ((mb (y + 1) ||| mb (y + 1 + j) ||| mb (y + 1 + (y + 1 + j)) : Nat) : Int)), (9, 0), (9, 0)] d_Ref_sums_184 l_Ref_137 rfl rfl rfl rfl rfl rfl hK.1 ?_
                                  refine r_radicalOf (S := mb (y + 1) ||| mb (y + 1 + j) ||| mb (y + 1 + (y + 1 + j))) hK (hF.uA (by omega)) hr7 ?_
                                  show ZE (d + 2) M_Ref_sums (gw G (upA A (o + 14) f)) 187 [(2, o), (0, (un : Int)), (0, wh), (0, (sumF (suC S wh un) y : Int) + (cnt (fun j => suT S wh (y + 1) (y + 1 + j)) j : Int)), (0, (y : Int) + 1), (0, (y : Int) + 1 + j), (0, ((y : Int) + 1) + ((y : Int) + 1 + j))] [(0, (rad (mb (y + 1) ||| mb (y + 1 + j) ||| mb (y + 1 + (y + 1 + j))) : Int)), (0, ((y : Int) + 1) + ((y : Int) + 1 + j)), (0, (sumF (suC S wh un) y : Int) + (cnt (fun j => suT S wh (y + 1) (y + 1 + j)) j : Int))] _
                                  refine ZE.icmp_le (tgt := 194) d_Ref_sums_187 rfl (by unfold zR; omega) (by unfold zR; omega) (fun c187 => ?_) (fun c187 => ?_)
                                  · have hno : ¬ suT S wh (y + 1) (y + 1 + j) = true := suT_w (by omega)
                                    refine ZE.iconst (n := 0) d_Ref_sums_194 ?_
                                    refine ZE.iadd d_Ref_sums_195 ?_
                                    refine ZE.istore_n (ls2 := [(2, o), (0, (un : Int)), (0, wh), (0, ((sumF (suC S wh un) y : Int) + (cnt (fun j => suT S wh (y + 1) (y + 1 + j)) j : Int)) + 0), (0, (y : Int) + 1), (0, (y : Int) + 1 + j), (0, ((y : Int) + 1) + ((y : Int) + 1 + j))]) d_Ref_sums_196 (Nat.le_of_ble_eq_true rfl) rfl ?_
                                    refine ZE.iinc (ls2 := [(2, o), (0, (un : Int)), (0, wh), (0, ((sumF (suC S wh un) y : Int) + (cnt (fun j => suT S wh (y + 1) (y + 1 + j)) j : Int)) + 0), (0, (y : Int) + 1), (0, ((y : Int) + 1 + j) + 1), (0, ((y : Int) + 1) + ((y : Int) + 1 + j))]) d_Ref_sums_197 rfl rfl ?_
                                    refine ZE.goto (tgt := 75) d_Ref_sums_200 rfl ?_
                                    refine ZE.mask [true, true, true, true, true, true, false] ?_
                                    show ZE (d + 2) M_Ref_sums (gw G (upA A (o + 14) f)) 75 [(2, o), (0, (un : Int)), (0, wh), (0, ((sumF (suC S wh un) y : Int) + (cnt (fun j => suT S wh (y + 1) (y + 1 + j)) j : Int)) + 0), (0, (y : Int) + 1), (0, ((y : Int) + 1 + j) + 1), (9, 0)] [] _
                                    have e1 : cnt (fun j => suT S wh (y + 1) (y + 1 + j)) (j + 1) = cnt (fun j => suT S wh (y + 1) (y + 1 + j)) j := if_neg hno
                                    rw [show ((sumF (suC S wh un) y : Int) + (cnt (fun j => suT S wh (y + 1) (y + 1 + j)) j : Int)) + 0 = (sumF (suC S wh un) y : Int) + (cnt (fun j => suT S wh (y + 1) (y + 1 + j)) (j + 1) : Int) by rw [e1] <;> omega, show (y : Int) + 1 + j + 1 = (y : Int) + 1 + ((j + 1 : Nat) : Int) by omega]
                                    exact ih (j + 1) (by omega) (by omega)
                                  · have hyes : suT S wh (y + 1) (y + 1 + j) = true := suT_y hsa.1 hsb.1 hsc.1 (by omega) (Or.inr (by omega))
                                    refine ZE.iconst (n := 1) d_Ref_sums_190 ?_
                                    refine ZE.goto (tgt := 195) d_Ref_sums_191 rfl ?_
                                    refine ZE.iadd d_Ref_sums_195 ?_
                                    refine ZE.istore_n (ls2 := [(2, o), (0, (un : Int)), (0, wh), (0, ((sumF (suC S wh un) y : Int) + (cnt (fun j => suT S wh (y + 1) (y + 1 + j)) j : Int)) + 1), (0, (y : Int) + 1), (0, (y : Int) + 1 + j), (0, ((y : Int) + 1) + ((y : Int) + 1 + j))]) d_Ref_sums_196 (Nat.le_of_ble_eq_true rfl) rfl ?_
                                    refine ZE.iinc (ls2 := [(2, o), (0, (un : Int)), (0, wh), (0, ((sumF (suC S wh un) y : Int) + (cnt (fun j => suT S wh (y + 1) (y + 1 + j)) j : Int)) + 1), (0, (y : Int) + 1), (0, ((y : Int) + 1 + j) + 1), (0, ((y : Int) + 1) + ((y : Int) + 1 + j))]) d_Ref_sums_197 rfl rfl ?_
                                    refine ZE.goto (tgt := 75) d_Ref_sums_200 rfl ?_
                                    refine ZE.mask [true, true, true, true, true, true, false] ?_
                                    show ZE (d + 2) M_Ref_sums (gw G (upA A (o + 14) f)) 75 [(2, o), (0, (un : Int)), (0, wh), (0, ((sumF (suC S wh un) y : Int) + (cnt (fun j => suT S wh (y + 1) (y + 1 + j)) j : Int)) + 1), (0, (y : Int) + 1), (0, ((y : Int) + 1 + j) + 1), (9, 0)] [] _
                                    have e1 : cnt (fun j => suT S wh (y + 1) (y + 1 + j)) (j + 1) = cnt (fun j => suT S wh (y + 1) (y + 1 + j)) j + 1 := if_pos hyes
                                    rw [show ((sumF (suC S wh un) y : Int) + (cnt (fun j => suT S wh (y + 1) (y + 1 + j)) j : Int)) + 1 = (sumF (suC S wh un) y : Int) + (cnt (fun j => suT S wh (y + 1) (y + 1 + j)) (j + 1) : Int) by rw [e1] <;> omega, show (y : Int) + 1 + j + 1 = (y : Int) + 1 + ((j + 1 : Nat) : Int) by omega]
                                    exact ih (j + 1) (by omega) (by omega)
                              · have hno : ¬ suT S wh (y + 1) (y + 1 + j) = true := suT_z (by omega)
                                refine ZE.goto (tgt := 197) d_Ref_sums_150 rfl ?_
                                refine ZE.iinc (ls2 := [(2, o), (0, (un : Int)), (0, wh), (0, (sumF (suC S wh un) y : Int) + (cnt (fun j => suT S wh (y + 1) (y + 1 + j)) j : Int)), (0, (y : Int) + 1), (0, ((y : Int) + 1 + j) + 1), (0, ((y : Int) + 1) + ((y : Int) + 1 + j))]) d_Ref_sums_197 rfl rfl ?_
                                refine ZE.goto (tgt := 75) d_Ref_sums_200 rfl ?_
                                refine ZE.mask [true, true, true, true, true, true, false] ?_
                                show ZE (d + 2) M_Ref_sums (gw G (upA A (o + 14) f)) 75 [(2, o), (0, (un : Int)), (0, wh), (0, (sumF (suC S wh un) y : Int) + (cnt (fun j => suT S wh (y + 1) (y + 1 + j)) j : Int)), (0, (y : Int) + 1), (0, ((y : Int) + 1 + j) + 1), (9, 0)] [] _
                                have e1 : cnt (fun j => suT S wh (y + 1) (y + 1 + j)) (j + 1) = cnt (fun j => suT S wh (y + 1) (y + 1 + j)) j := if_neg hno
                                rw [show (sumF (suC S wh un) y : Int) + (cnt (fun j => suT S wh (y + 1) (y + 1 + j)) j : Int) = (sumF (suC S wh un) y : Int) + (cnt (fun j => suT S wh (y + 1) (y + 1 + j)) (j + 1) : Int) by rw [e1] <;> omega, show (y : Int) + 1 + j + 1 = (y : Int) + 1 + ((j + 1 : Nat) : Int) by omega]
                                exact ih (j + 1) (by omega) (by omega)
                  have L0 := L75 _ 0 (by omega) (Nat.lt_succ_self _)
                  rw [show (sumF (suC S wh un) y : Int) + ((cnt (fun j => suT S wh (y + 1) (y + 1 + j)) 0 : Nat) : Int) = (sumF (suC S wh un) y : Int) from Int.add_zero _, show (y : Int) + 1 + ((0 : Nat) : Int) = (y : Int) + 1 from Int.add_zero _] at L0
                  exact L0
            exact L65 _ 0 (by omega) (Nat.lt_succ_self _)
          · refine ZE.aload_n d_Ref_sums_31 rfl ?_
            refine ZE.getE (v := o + 14) d_Ref_sums_32 f_Ref_49 (tg := 2) rfl hK.1 (hF.uA (by omega)).a23 ?_
            refine ZE.iload_n d_Ref_sums_35 rfl ?_
            refine ZE.aload_n d_Ref_sums_36 rfl ?_
            refine ZE.iload_n d_Ref_sums_37 rfl ?_
            refine ZE.cV [(0, (n : Int) + 1)] [(0, (n : Int) + 1), (2, o + 14)] [(2, o), (0, (n : Int) + 1), (9, 0), (9, 0)] d_Ref_sums_38 l_Ref_183 rfl rfl rfl rfl rfl rfl hK.1 ?_
            refine r_isSmooth (n := n + 1) hK (hF.uA (by omega)) ((congrFun (upA_ne _ _ (by omega)) _).trans hR.s) hS7 (by omega) (by omega) ?_
            show ZE (d + 2) M_Ref_sums (gw G (upA A (o + 14) f)) 41 [(2, o), (0, (un : Int)), (0, wh), (0, (n : Int) + 1), (9, 0), (9, 0), (9, 0)] [(0, b2i (sm S (n + 1))), (0, (n : Int) + 1), (2, o + 14)] _
            refine ZE.if_eq (tgt := 52) d_Ref_sums_41 rfl (zR_b2i _) (fun c41 => ?_) (fun c41 => ?_)
            · replace c41 := b2i_0.mp c41
              refine ZE.iconst (n := (-1)) d_Ref_sums_52 ?_
              refine ZE.iast d_Ref_sums_53 hK.k14 (by have hn0 := hK.n14; show 0 ≤ ((n : Int) + 1) ∧ ((n : Int) + 1) < gn G (o + 14); omega) ?_
              show ZE (d + 2) M_Ref_sums (gw G (up2 (upA A (o + 14) f) (o + 14) ((n : Int) + 1) (-1))) 54 [(2, o), (0, (un : Int)), (0, wh), (0, (n : Int) + 1), (9, 0), (9, 0), (9, 0)] [] _
              rw [up2_upA]
              refine ZE.iinc (ls2 := [(2, o), (0, (un : Int)), (0, wh), (0, ((n : Int) + 1) + 1), (9, 0), (9, 0), (9, 0)]) d_Ref_sums_54 rfl rfl ?_
              refine ZE.goto (tgt := 26) d_Ref_sums_57 rfl ?_
              rw [show (n : Int) + 1 + 1 = ((n + 1 : Nat) : Int) + 1 by omega]
              exact ih (n + 1) _ (by omega) (suM_s (by omega) hf0 (by unfold sbV; rw [if_neg (fun q => c41 (smB_iff.mp q))])) (by omega)
            · replace c41 := b2i_n0.mp c41
              refine ZE.aload_n d_Ref_sums_44 rfl ?_
              refine ZE.iload_n d_Ref_sums_45 rfl ?_
              refine ZE.cV [(0, (n : Int) + 1)] [(0, (n : Int) + 1), (2, o + 14)] [(2, o), (0, (n : Int) + 1), (9, 0), (9, 0)] d_Ref_sums_46 l_Ref_276 rfl rfl rfl rfl rfl rfl hK.1 ?_
              refine r_madeBits (n := n + 1) hK (hF.uA (by omega)) (by omega) ?_
              show ZE (d + 2) M_Ref_sums (gw G (upA A (o + 14) f)) 49 [(2, o), (0, (un : Int)), (0, wh), (0, (n : Int) + 1), (9, 0), (9, 0), (9, 0)] [(0, (mb (n + 1) : Int)), (0, (n : Int) + 1), (2, o + 14)] _
              refine ZE.goto (tgt := 53) d_Ref_sums_49 rfl ?_
              refine ZE.iast d_Ref_sums_53 hK.k14 (by have hn0 := hK.n14; show 0 ≤ ((n : Int) + 1) ∧ ((n : Int) + 1) < gn G (o + 14); omega) ?_
              show ZE (d + 2) M_Ref_sums (gw G (up2 (upA A (o + 14) f) (o + 14) ((n : Int) + 1) (mb (n + 1) : Int))) 54 [(2, o), (0, (un : Int)), (0, wh), (0, (n : Int) + 1), (9, 0), (9, 0), (9, 0)] [] _
              rw [up2_upA]
              refine ZE.iinc (ls2 := [(2, o), (0, (un : Int)), (0, wh), (0, ((n : Int) + 1) + 1), (9, 0), (9, 0), (9, 0)]) d_Ref_sums_54 rfl rfl ?_
              refine ZE.goto (tgt := 26) d_Ref_sums_57 rfl ?_
              rw [show (n : Int) + 1 + 1 = ((n + 1 : Nat) : Int) + 1 by omega]
              exact ih (n + 1) _ (by omega) (suM_s (by omega) hf0 (by unfold sbV; rw [if_pos (smB_iff.mpr c41)])) (by omega)
      have L0 := L26 _ 0 (A (o + 14)) (by omega) (fun k h1 h2 => absurd h1 (by omega)) (Nat.lt_succ_self _)
      rw [upA_self] at L0
      exact L0
    · replace c19 := b2i_0.mp c19
      refine ZE.iconst (n := (-1)) d_Ref_sums_22 ?_
      refine ZE.iret d_Ref_sums_23 rfl ?_
      have k1 := k A quF.rf
      rw [show ssV S u wh = -1 from if_neg (by omega)] at k1
      exact k1
