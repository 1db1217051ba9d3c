def bK (G : zG) (b : Int) (cap : Nat) : Prop := gk G b = 10 ∧ gk G (b + 1) = 1 ∧ gn G (b + 1) = (cap : Int) ∧ 0 ≤ b ∧ 1 ≤ cap ∧ cap ≤ 100
def bN (A : Int → Int → Int) (b : Int) (v : Nat) : Prop := A b 0 = b + 1 ∧ A b 1 = (nd 1000000000 v : Int) ∧ ∀ k : Nat, k < nd 1000000000 v → A (b + 1) k = (dg 1000000000 v k : Int)
def bF (A B : Int → Int → Int) (b : Int) : Prop := ∀ a : Int, a ≠ b → a ≠ b + 1 → B a = A a
theorem bF.rf {A : Int → Int → Int} {b : Int} : bF A A b := fun _ _ _ => rfl
theorem bF.tr {A B C : Int → Int → Int} {b : Int} (a : bF A B b) (c : bF B C b) : bF A C b := fun e h1 h2 => (c e h1 h2).trans (a e h1 h2)
theorem bF.fld {A : Int → Int → Int} {b i v : Int} : bF A (up2 A b i v) b := fun e h1 _ => by rw [up2_A, upA_ne _ _ h1]
theorem bF.row {A : Int → Int → Int} {b i v : Int} : bF A (up2 A (b + 1) i v) b := fun e _ h2 => by rw [up2_A, upA_ne _ _ h2]
theorem bN.fr {A C : Int → Int → Int} {b c : Int} {v : Nat} (h : bN A c v) (g : bF A C b) (h1 : c ≠ b ∧ c ≠ b + 1 ∧ c + 1 ≠ b ∧ c + 1 ≠ b + 1) : bN C c v := by
  have e1 : C c = A c := g c h1.1 h1.2.1
  have e2 : C (c + 1) = A (c + 1) := g (c + 1) h1.2.2.1 h1.2.2.2
  unfold bN
  rw [e1, e2]
  exact h
theorem dB_lt (v k : Nat) : dg 1000000000 v k < 1000000000 := dg_lt (by omega) v k
theorem nd_1 {v : Nat} (h : v < 1000000000) : nd 1000000000 v = if 0 < v then 1 else 0 := by
  split
  · next q => exact nd_eq (by omega) (by omega) (Or.inr (by show 1000000000 ^ 0 ≤ v; omega))
  · next q => have : v = 0 := by omega
              subst this; rfl
set_option maxRecDepth 20000 in
set_option maxHeartbeats 4000000 in
theorem j_min {d : Nat} {G : zG} {A : Int → Int → Int} {P : Option zV → zG → Prop} {x1 y1 : Int} (hx : zR x1) (hy : zR y1) (k : P (some (0, if x1 ≤ y1 then x1 else y1)) (gw G A)) : ZE d M_JMath_min (gw G A) 0 [(0, x1), (0, y1)] [] P := by
  refine ZE.iload_n d_JMath_min_0 rfl ?_
  refine ZE.iload_n d_JMath_min_1 rfl ?_
  refine ZE.icmp_gt (tgt := 9) d_JMath_min_2 rfl hx hy (fun c2 => ?_) (fun c2 => ?_)
  · refine ZE.iload_n d_JMath_min_9 rfl ?_
    refine ZE.iret d_JMath_min_10 rfl ?_
    rw [if_neg (by omega)] at k
    exact k
  · refine ZE.iload_n d_JMath_min_5 rfl ?_
    refine ZE.goto (tgt := 10) d_JMath_min_6 rfl ?_
    refine ZE.iret d_JMath_min_10 rfl ?_
    rw [if_pos (by omega)] at k
    exact k
set_option maxRecDepth 20000 in
set_option maxHeartbeats 4000000 in
theorem j_max {d : Nat} {G : zG} {A : Int → Int → Int} {P : Option zV → zG → Prop} {x1 y1 : Int} (hx : zR x1) (hy : zR y1) (k : P (some (0, if y1 ≤ x1 then x1 else y1)) (gw G A)) : ZE d M_JMath_max (gw G A) 0 [(0, x1), (0, y1)] [] P := by
  refine ZE.iload_n d_JMath_max_0 rfl ?_
  refine ZE.iload_n d_JMath_max_1 rfl ?_
  refine ZE.icmp_lt (tgt := 9) d_JMath_max_2 rfl hx hy (fun c2 => ?_) (fun c2 => ?_)
  · refine ZE.iload_n d_JMath_max_9 rfl ?_
    refine ZE.iret d_JMath_max_10 rfl ?_
    rw [if_neg (by omega)] at k
    exact k
  · refine ZE.iload_n d_JMath_max_5 rfl ?_
    refine ZE.goto (tgt := 10) d_JMath_max_6 rfl ?_
    refine ZE.iret d_JMath_max_10 rfl ?_
    rw [if_pos (by omega)] at k
    exact k
set_option maxRecDepth 20000 in
set_option maxHeartbeats 4000000 in
theorem B_limbAt {d : Nat} {G : zG} {A : Int → Int → Int} {P : Option zV → zG → Prop}  {b : Int} {cap : Nat} (hB : bK G b cap) {v : Nat} (hv : bN A b v) (h9 : nd 1000000000 v ≤ cap) {i : Nat} (hi : i < 2147483648) (k : P (some (0, (dg 1000000000 v i : Int))) (gw G A)) : ZE d M_Big_limbAt (gw G A) 0 [(2, b), (0, (i : Int))] [] P := by
  have hcp := hB.2.2.2.2.2
  refine ZE.iload_n d_Big_limbAt_0 rfl ?_
  refine ZE.if_lt (tgt := 30) d_Big_limbAt_1 rfl (by unfold zR; omega) (fun c1 => ?_) (fun c1 => ?_)
  · exact absurd c1 (by omega)
  · refine ZE.iload_n d_Big_limbAt_4 rfl ?_
    refine ZE.aload_n d_Big_limbAt_5 rfl ?_
    refine ZE.getE (v := (nd 1000000000 v : Int)) d_Big_limbAt_6 f_Big_15 (tg := 0) rfl hB.1 hv.2.1 ?_
    refine ZE.icmp_ge (tgt := 30) d_Big_limbAt_9 rfl (by unfold zR; omega) (by unfold zR; omega) (fun c9 => ?_) (fun c9 => ?_)
    · refine ZE.iconst (n := 0) d_Big_limbAt_30 ?_
      refine ZE.iret d_Big_limbAt_31 rfl ?_
      rw [dg_big (by omega) (by omega)] at k
      exact k
    · refine ZE.iload_n d_Big_limbAt_12 rfl ?_
      refine ZE.aload_n d_Big_limbAt_13 rfl ?_
      refine ZE.getE (v := b + 1) d_Big_limbAt_14 f_Big_9 (tg := 2) rfl hB.1 hv.1 ?_
      refine ZE.alenE (v := (cap : Int)) d_Big_limbAt_17 (by have hk0 := hB.2.1; show 1 ≤ gk G (b + 1) ∧ gk G (b + 1) ≤ 6; omega) hB.2.2.1 ?_
      refine ZE.icmp_ge (tgt := 30) d_Big_limbAt_18 rfl (by unfold zR; omega) (by unfold zR; omega) (fun c18 => ?_) (fun c18 => ?_)
      · exact absurd c18 (by omega)
      · refine ZE.aload_n d_Big_limbAt_21 rfl ?_
        refine ZE.getE (v := b + 1) d_Big_limbAt_22 f_Big_9 (tg := 2) rfl hB.1 hv.1 ?_
        refine ZE.iload_n d_Big_limbAt_25 rfl ?_
        refine ZE.ialdE (v := (dg 1000000000 v i : Int)) d_Big_limbAt_26 hB.2.1 (by have hn0 := hB.2.2.1; show 0 ≤ (i : Int) ∧ (i : Int) < gn G (b + 1); omega) (hv.2.2 i (by omega)) ?_
        refine ZE.goto (tgt := 31) d_Big_limbAt_27 rfl ?_
        refine ZE.iret d_Big_limbAt_31 rfl ?_
        exact k
set_option maxRecDepth 20000 in
set_option maxHeartbeats 4000000 in
theorem B_limbM {d : Nat} {G : zG} {A : Int → Int → Int} {P : Option zV → zG → Prop}  {b : Int} {cap : Nat} (hB : bK G b cap) (k : P (some (0, 0)) (gw G A)) : ZE d M_Big_limbAt (gw G A) 0 [(2, b), (0, (-1))] [] P := by
  refine ZE.iload_n d_Big_limbAt_0 rfl ?_
  refine ZE.if_lt (tgt := 30) d_Big_limbAt_1 rfl (by unfold zR; omega) (fun c1 => ?_) (fun c1 => ?_)
  · refine ZE.iconst (n := 0) d_Big_limbAt_30 ?_
    refine ZE.iret d_Big_limbAt_31 rfl ?_
    exact k
  · exact absurd c1 (by decide)
set_option maxRecDepth 20000 in
set_option maxHeartbeats 4000000 in
theorem B_setTo {d : Nat} {G : zG} {A : Int → Int → Int} {P : Option zV → zG → Prop}  {b : Int} {cap : Nat} (hB : bK G b cap) (h0 : A b 0 = b + 1) {v : Nat} (hv : v < 1000000000) (k : ∀ A2, bF A A2 b → bN A2 b v → P none (gw G A2)) : ZE d M_Big_setTo (gw G A) 0 [(2, b), (0, (v : Int))] [] P := by
  have hcp := hB.2.2.2.2
  refine ZE.aload_n d_Big_setTo_0 rfl ?_
  refine ZE.iload_n d_Big_setTo_1 rfl ?_
  refine ZE.if_le (tgt := 17) d_Big_setTo_2 rfl (by unfold zR; omega) (fun c2 => ?_) (fun c2 => ?_)
  · refine ZE.iconst (n := 0) d_Big_setTo_17 ?_
    refine ZE.put d_Big_setTo_18 f_Big_15 (tg := 0) rfl trivial (Or.inl ⟨_, _, _, rfl, rfl, rfl⟩) hB.1 ?_
    show ZE d M_Big_setTo (gw G (up2 A b 1 0)) 21 [(2, b), (0, (v : Int))] [] _
    refine ZE.aload_n d_Big_setTo_21 rfl ?_
    refine ZE.getE (v := 0) d_Big_setTo_22 f_Big_15 (tg := 0) rfl hB.1 (up2_at _ _ _ _) ?_
    refine ZE.iconst (n := 1) d_Big_setTo_25 ?_
    refine ZE.icmp_ne (tgt := 36) d_Big_setTo_26 rfl (by unfold zR; omega) (by unfold zR; omega) (fun c26 => ?_) (fun c26 => ?_)
    · refine ZE.vret d_Big_setTo_36 rfl ?_
      refine k _ bF.fld ⟨?_, ?_, fun j hj => ?_⟩
      · rw [up2_ne _ _ (by omega)]; exact h0
      · rw [up2_at, nd_1 hv, if_neg (by omega)]; rfl
      · rw [nd_1 hv, if_neg (by omega)] at hj; exact absurd hj (Nat.not_lt_zero _)
    · exact absurd c26 (by decide)
  · refine ZE.aload_n d_Big_setTo_5 rfl ?_
    refine ZE.getE (v := b + 1) d_Big_setTo_6 f_Big_9 (tg := 2) rfl hB.1 h0 ?_
    refine ZE.alenE (v := (cap : Int)) d_Big_setTo_9 (by have hk0 := hB.2.1; show 1 ≤ gk G (b + 1) ∧ gk G (b + 1) ≤ 6; omega) hB.2.2.1 ?_
    refine ZE.if_le (tgt := 17) d_Big_setTo_10 rfl (by unfold zR; omega) (fun c10 => ?_) (fun c10 => ?_)
    · exact absurd c10 (by omega)
    · refine ZE.iconst (n := 1) d_Big_setTo_13 ?_
      refine ZE.goto (tgt := 18) d_Big_setTo_14 rfl ?_
      refine ZE.put d_Big_setTo_18 f_Big_15 (tg := 0) rfl trivial (Or.inl ⟨_, _, _, rfl, rfl, rfl⟩) hB.1 ?_
      show ZE d M_Big_setTo (gw G (up2 A b 1 1)) 21 [(2, b), (0, (v : Int))] [] _
      refine ZE.aload_n d_Big_setTo_21 rfl ?_
      refine ZE.getE (v := 1) d_Big_setTo_22 f_Big_15 (tg := 0) rfl hB.1 (up2_at _ _ _ _) ?_
      refine ZE.iconst (n := 1) d_Big_setTo_25 ?_
      refine ZE.icmp_ne (tgt := 36) d_Big_setTo_26 rfl (by unfold zR; omega) (by unfold zR; omega) (fun c26 => ?_) (fun c26 => ?_)
      · exact absurd c26 (by decide)
      · refine ZE.aload_n d_Big_setTo_29 rfl ?_
        refine ZE.getE (v := b + 1) d_Big_setTo_30 f_Big_9 (tg := 2) rfl hB.1 ((up2_ne _ _ (by omega)).trans h0) ?_
        refine ZE.iconst (n := 0) d_Big_setTo_33 ?_
        refine ZE.iload_n d_Big_setTo_34 rfl ?_
        refine ZE.iast d_Big_setTo_35 hB.2.1 (by have hn0 := hB.2.2.1; show 0 ≤ 0 ∧ 0 < gn G (b + 1); omega) ?_
        show ZE d M_Big_setTo (gw G (up2 (up2 A b 1 1) (b + 1) 0 (v : Int))) 36 [(2, b), (0, (v : Int))] [] _
        refine ZE.vret d_Big_setTo_36 rfl ?_
        refine k _ (bF.fld.tr bF.row) ⟨?_, ?_, fun j hj => ?_⟩
        · rw [up2_ne _ _ (by omega), up2_ne _ _ (by omega)]; exact h0
        · rw [up2_ne _ _ (by omega), up2_at, nd_1 hv, if_pos (by omega)]; rfl
        · rw [nd_1 hv, if_pos (by omega)] at hj
          have : j = 0 := by omega
          subst this
          rw [dg_z, Nat.mod_eq_of_lt hv]
          exact up2_at _ _ _ _
set_option maxRecDepth 20000 in
set_option maxHeartbeats 4000000 in
theorem B_trim {d : Nat} {G : zG} {A : Int → Int → Int} {P : Option zV → zG → Prop}  {b : Int} {cap : Nat} (hB : bK G b cap) {m v : Nat} (hm : m ≤ cap) (h0 : A b 0 = b + 1) (h1 : A b 1 = (m : Int)) (h2 : ∀ k : Nat, k < m → A (b + 1) k = (dg 1000000000 v k : Int)) (hv : v < 1000000000 ^ m) (k : ∀ A2, bF A A2 b → bN A2 b v → P none (gw G A2)) : ZE (d + 1) M_Big_trim (gw G A) 0 [(2, b), (9, 0)] [] P := by
  have hcp := hB.2.2.2.2.2
  refine ZE.aload_n d_Big_trim_0 rfl ?_
  refine ZE.getE (v := (m : Int)) d_Big_trim_1 f_Big_15 (tg := 0) rfl hB.1 h1 ?_
  refine ZE.aload_n d_Big_trim_4 rfl ?_
  refine ZE.getE (v := b + 1) d_Big_trim_5 f_Big_9 (tg := 2) rfl hB.1 h0 ?_
  refine ZE.alenE (v := (cap : Int)) d_Big_trim_8 (by have hk0 := hB.2.1; show 1 ≤ gk G (b + 1) ∧ gk G (b + 1) ≤ 6; omega) hB.2.2.1 ?_
  refine ZE.cS [(0, (m : Int)), (0, (cap : Int))] [] [(0, (m : Int)), (0, (cap : Int))] d_Big_trim_9 l_Big_19 rfl rfl rfl rfl rfl rfl ?_
  refine j_min (by unfold zR; omega) (by unfold zR; omega) ?_
  show ZE (d + 1) M_Big_trim (gw G A) 12 [(2, b), (9, 0)] [(0, if (m : Int) ≤ (cap : Int) then (m : Int) else (cap : Int))] _
  rw [if_pos (by omega)]
  refine ZE.iconst (n := 1) d_Big_trim_12 ?_
  refine ZE.isub d_Big_trim_13 ?_
  refine ZE.istore_n (ls2 := [(2, b), (0, (m : Int) - 1)]) d_Big_trim_14 (Nat.le_of_ble_eq_true rfl) rfl ?_
  have L15 : ∀ (t : Nat) (j : Nat) (A1 : Int → Int → Int) (hj : j ≤ m) (hlt : v < 1000000000 ^ j) (e0 : A1 b 0 = b + 1) (e1 : A1 b 1 = (j : Int)) (e2 : ∀ a : Int, a ≠ b → A1 a = A a), j < t → ZE (d + 1) M_Big_trim (gw G A1) 15 [(2, b), (0, (j : Int) - 1)] [] P := by
    intro t
    induction t with
    | zero => intro j A1 hj hlt e0 e1 e2 hm; exact absurd hm (Nat.not_lt_zero _)
    | succ t ih =>
      intro j A1 hj hlt e0 e1 e2 hm
      rcases Nat.eq_zero_or_pos j with hj0 | hj0
      · subst hj0
        refine ZE.iload_n d_Big_trim_15 rfl ?_
        refine ZE.if_lt (tgt := 39) d_Big_trim_16 rfl (by unfold zR; omega) (fun c16 => ?_) (fun c16 => ?_)
        · refine ZE.vret d_Big_trim_39 rfl ?_
          have hnj : nd 1000000000 v = 0 := nd_eq (by omega) hlt (Or.inl rfl)
          refine k A1 (fun a h3 _ => e2 a h3) ⟨e0, by rw [hnj]; exact e1, fun q hq => ?_⟩
          rw [e2 _ (by omega)]
          exact h2 q (by omega)
        · exact absurd c16 (by omega)
      · obtain ⟨i, rfl⟩ : ∃ i, j = i + 1 := ⟨j - 1, by omega⟩
        rw [show ((i + 1 : Nat) : Int) - 1 = (i : Int) by omega]
        have hdl := dB_lt v i
        refine ZE.iload_n d_Big_trim_15 rfl ?_
        refine ZE.if_lt (tgt := 39) d_Big_trim_16 rfl (by unfold zR; omega) (fun c16 => ?_) (fun c16 => ?_)
        · exact absurd c16 (by omega)
        · refine ZE.aload_n d_Big_trim_19 rfl ?_
          refine ZE.getE (v := b + 1) d_Big_trim_20 f_Big_9 (tg := 2) rfl hB.1 e0 ?_
          refine ZE.iload_n d_Big_trim_23 rfl ?_
          refine ZE.ialdE (v := (dg 1000000000 v i : Int)) d_Big_trim_24 hB.2.1 (by have hn0 := hB.2.2.1; show 0 ≤ (i : Int) ∧ (i : Int) < gn G (b + 1); omega) ((congrFun (e2 _ (by omega)) _).trans (h2 i (by omega))) ?_
          refine ZE.if_ne (tgt := 39) d_Big_trim_25 rfl (by unfold zR; omega) (fun c25 => ?_) (fun c25 => ?_)
          · have hge : 1000000000 ^ i ≤ v := by
              rcases Nat.lt_or_ge v (1000000000 ^ i) with q | q
              · exact absurd (show dg 1000000000 v i = 0 by unfold dg; rw [Nat.div_eq_of_lt q]) (by omega)
              · exact q
            refine ZE.vret d_Big_trim_39 rfl ?_
            have hnj : nd 1000000000 v = i + 1 := nd_eq (by omega) hlt (Or.inr hge)
            refine k A1 (fun a h3 _ => e2 a h3) ⟨e0, by rw [hnj]; exact e1, fun q hq => ?_⟩
            rw [e2 _ (by omega)]
            exact h2 q (by omega)
          · have hd0 : dg 1000000000 v i = 0 := by omega
            have hlt2 : v < 1000000000 ^ i := by
              unfold dg at hd0
              rcases Nat.lt_or_ge v (1000000000 ^ i) with q | q
              · exact q
              · have q1 : v / 1000000000 ^ i < 1000000000 := (Nat.div_lt_iff_lt_mul (Nat.pow_pos (by omega))).mpr (by rw [Nat.mul_comm, ← Nat.pow_succ]; exact hlt)
                have q2 : 0 < v / 1000000000 ^ i := Nat.div_pos q (Nat.pow_pos (by omega))
                omega
            refine ZE.aload_n d_Big_trim_28 rfl ?_
            refine ZE.iload_n d_Big_trim_29 rfl ?_
            refine ZE.put d_Big_trim_30 f_Big_15 (tg := 0) rfl trivial (Or.inl ⟨_, _, _, rfl, rfl, rfl⟩) hB.1 ?_
            show ZE (d + 1) M_Big_trim (gw G (up2 A1 b 1 (i : Int))) 33 [(2, b), (0, (i : Int))] [] _
            refine ZE.iinc (ls2 := [(2, b), (0, (i : Int) + (-1))]) d_Big_trim_33 rfl rfl ?_
            refine ZE.goto (tgt := 15) d_Big_trim_36 rfl ?_
            rw [show (i : Int) + (-1) = (i : Int) - 1 by omega]
            refine ih i _ (by omega) hlt2 ((up2_ne _ _ (by omega)).trans e0) (up2_at _ _ _ _) (fun a ha => (show up2 A1 b 1 (i : Int) a = A1 a by rw [up2_A, upA_ne _ _ ha]).trans (e2 a ha)) (by omega)
  exact L15 _ m A (Nat.le_refl _) hv h0 h1 (fun _ _ => rfl) (Nat.lt_succ_self _)
set_option maxRecDepth 20000 in
set_option maxHeartbeats 4000000 in
theorem B_copy {d : Nat} {G : zG} {A : Int → Int → Int} {P : Option zV → zG → Prop}  {b : Int} {cap : Nat} (hB : bK G b cap) (h0 : A b 0 = b + 1) {c : Int} {cap2 : Nat} (hC : bK G c cap2) {v : Nat} (hv : bN A c v) (h9 : nd 1000000000 v ≤ cap) (h92 : nd 1000000000 v ≤ cap2) (hne : c ≠ b ∧ c ≠ b + 1 ∧ c + 1 ≠ b) (k : ∀ A2, bF A A2 b → bN A2 b v → P none (gw G A2)) : ZE (d + 1) M_Big_copy (gw G A) 0 [(2, b), (2, c), (9, 0)] [] P := by
  have hcp := hB.2.2.2.2.2
  refine ZE.aload_n d_Big_copy_0 rfl ?_
  refine ZE.aload_n d_Big_copy_1 rfl ?_
  refine ZE.getE (v := (nd 1000000000 v : Int)) d_Big_copy_2 f_Big_15 (tg := 0) rfl hC.1 hv.2.1 ?_
  refine ZE.aload_n d_Big_copy_5 rfl ?_
  refine ZE.getE (v := b + 1) d_Big_copy_6 f_Big_9 (tg := 2) rfl hB.1 h0 ?_
  refine ZE.alenE (v := (cap : Int)) d_Big_copy_9 (by have hk0 := hB.2.1; show 1 ≤ gk G (b + 1) ∧ gk G (b + 1) ≤ 6; omega) hB.2.2.1 ?_
  refine ZE.cS [(0, (nd 1000000000 v : Int)), (0, (cap : Int))] [(2, b)] [(0, (nd 1000000000 v : Int)), (0, (cap : Int))] d_Big_copy_10 l_Big_19 rfl rfl rfl rfl rfl rfl ?_
  refine j_min (by unfold zR; omega) (by unfold zR; omega) ?_
  show ZE (d + 1) M_Big_copy (gw G A) 13 [(2, b), (2, c), (9, 0)] [(0, if (nd 1000000000 v : Int) ≤ (cap : Int) then (nd 1000000000 v : Int) else (cap : Int)), (2, b)] _
  rw [if_pos (by omega)]
  refine ZE.put d_Big_copy_13 f_Big_15 (tg := 0) rfl trivial (Or.inl ⟨_, _, _, rfl, rfl, rfl⟩) hB.1 ?_
  show ZE (d + 1) M_Big_copy (gw G (up2 A b 1 (nd 1000000000 v : Int))) 16 [(2, b), (2, c), (9, 0)] [] _
  refine ZE.iconst (n := 0) d_Big_copy_16 ?_
  refine ZE.istore_n (ls2 := [(2, b), (2, c), (0, 0)]) d_Big_copy_17 (Nat.le_of_ble_eq_true rfl) rfl ?_
  have L18 : ∀ (t : Nat) (j : Nat) (A1 : Int → Int → Int) (hj : j ≤ nd 1000000000 v) (gF : bF A A1 b) (e0 : A1 b 0 = b + 1) (e1 : A1 b 1 = (nd 1000000000 v : Int)) (e2 : ∀ q : Nat, q < j → A1 (b + 1) q = (dg 1000000000 v q : Int)), nd 1000000000 v - j < t → ZE (d + 1) M_Big_copy (gw G A1) 18 [(2, b), (2, c), (0, (j : Int))] [] P := by
    intro t
    induction t with
    | zero => intro j A1 hj gF e0 e1 e2 hm; exact absurd hm (Nat.not_lt_zero _)
    | succ t ih =>
      intro j A1 hj gF e0 e1 e2 hm
      have hvA : bN A1 c v := hv.fr gF (by omega)
      refine ZE.iload_n d_Big_copy_18 rfl ?_
      refine ZE.aload_n d_Big_copy_19 rfl ?_
      refine ZE.getE (v := (nd 1000000000 v : Int)) d_Big_copy_20 f_Big_15 (tg := 0) rfl hB.1 e1 ?_
      refine ZE.icmp_ge (tgt := 52) d_Big_copy_23 rfl (by unfold zR; omega) (by unfold zR; omega) (fun c23 => ?_) (fun c23 => ?_)
      · have e4 : j = nd 1000000000 v := by omega
        refine ZE.vret d_Big_copy_52 rfl ?_
        exact k A1 gF ⟨e0, e1, fun q hq => e2 q (by omega)⟩
      · refine ZE.iload_n d_Big_copy_26 rfl ?_
        refine ZE.aload_n d_Big_copy_27 rfl ?_
        refine ZE.getE (v := b + 1) d_Big_copy_28 f_Big_9 (tg := 2) rfl hB.1 e0 ?_
        refine ZE.alenE (v := (cap : Int)) d_Big_copy_31 (by have hk0 := hB.2.1; show 1 ≤ gk G (b + 1) ∧ gk G (b + 1) ≤ 6; omega) hB.2.2.1 ?_
        refine ZE.icmp_ge (tgt := 52) d_Big_copy_32 rfl (by unfold zR; omega) (by unfold zR; omega) (fun c32 => ?_) (fun c32 => ?_)
        · exact absurd c32 (by omega)
        · refine ZE.aload_n d_Big_copy_35 rfl ?_
          refine ZE.getE (v := b + 1) d_Big_copy_36 f_Big_9 (tg := 2) rfl hB.1 e0 ?_
          refine ZE.iload_n d_Big_copy_39 rfl ?_
          refine ZE.aload_n d_Big_copy_40 rfl ?_
          refine ZE.iload_n d_Big_copy_41 rfl ?_
          refine ZE.cV [(0, (j : Int))] [(0, (j : Int)), (2, b + 1)] [(2, c), (0, (j : Int))] d_Big_copy_42 l_Big_25 rfl rfl rfl rfl rfl rfl hC.1 ?_
          refine B_limbAt (v := v) (i := j) hC hvA h92 (by omega) ?_
          show ZE (d + 1) M_Big_copy (gw G A1) 45 [(2, b), (2, c), (0, (j : Int))] [(0, (dg 1000000000 v j : Int)), (0, (j : Int)), (2, b + 1)] _
          refine ZE.iast d_Big_copy_45 hB.2.1 (by have hn0 := hB.2.2.1; show 0 ≤ (j : Int) ∧ (j : Int) < gn G (b + 1); omega) ?_
          show ZE (d + 1) M_Big_copy (gw G (up2 A1 (b + 1) (j : Int) (dg 1000000000 v j : Int))) 46 [(2, b), (2, c), (0, (j : Int))] [] _
          refine ZE.iinc (ls2 := [(2, b), (2, c), (0, (j : Int) + 1)]) d_Big_copy_46 rfl rfl ?_
          refine ZE.goto (tgt := 18) d_Big_copy_49 rfl ?_
          rw [show (j : Int) + 1 = ((j + 1 : Nat) : Int) by omega]
          refine ih (j + 1) _ (by omega) (gF.tr bF.row) ((up2_ne _ _ (by omega)).trans e0) ((up2_ne _ _ (by omega)).trans e1) ?_ (by omega)
          intro q hq
          by_cases e : q = j
          · subst e; exact up2_at _ _ _ _
          · rw [up2_ne _ _ (by omega)]; exact e2 q (by omega)
  exact L18 _ 0 (up2 A b 1 (nd 1000000000 v : Int)) (by omega) bF.fld ((up2_ne _ _ (by omega)).trans h0) (up2_at _ _ _ _) (fun q h => absurd h (Nat.not_lt_zero _)) (Nat.lt_succ_self _)
