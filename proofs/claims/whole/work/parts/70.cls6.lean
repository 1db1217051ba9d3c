def gR (G G2 : zG) (n s : Nat) : Prop := gz G2 = gz G + n ∧ gs G2 = gs G + s ∧ (∀ a : Int, a < (gz G : Int) → gk G2 a = gk G a ∧ gn G2 a = gn G a) ∧ gb G2 = gb G ∧ gl G2 = gl G
theorem gR.rf {G : zG} : gR G G 0 0 := ⟨rfl, rfl, fun _ _ => ⟨rfl, rfl⟩, rfl, rfl⟩
theorem gR.tr {G G2 G3 : zG} {n s n2 s2 : Nat} (h : gR G G2 n s) (g : gR G2 G3 n2 s2) : gR G G3 (n + n2) (s + s2) := ⟨by rw [g.1, h.1]; omega, by rw [g.2.1, h.2.1]; omega, fun a ha => ⟨(g.2.2.1 a (by rw [h.1]; omega)).1.trans (h.2.2.1 a ha).1, (g.2.2.1 a (by rw [h.1]; omega)).2.trans (h.2.2.1 a ha).2⟩, g.2.2.2.1.trans h.2.2.2.1, g.2.2.2.2.trans h.2.2.2.2⟩
theorem gR.new {G : zG} {k n : Nat} {f : Int → Int} : gR G (gnew G k n f) 1 n := ⟨rfl, rfl, fun a ha => ⟨gnew_gkn (by omega), gnew_gnn (by omega)⟩, rfl, rfl⟩
theorem bK.gr {G G2 : zG} {b : Int} {cap n s : Nat} (h : bK G b cap) (g : gR G G2 n s) (hb : b + 1 < (gz G : Int)) : bK G2 b cap := ⟨(g.2.2.1 b (by omega)).1.trans h.1, (g.2.2.1 (b + 1) hb).1.trans h.2.1, (g.2.2.1 (b + 1) hb).2.trans h.2.2.1, h.2.2.2⟩
theorem dg_low {b X Y n p : Nat} (hb : 0 < b) (hp : p < n) : dg b (X + b ^ n * Y) p = dg b X p := by
  have e : b ^ n = b ^ p * (b * b ^ (n - p - 1)) := by rw [← Nat.mul_assoc, ← Nat.pow_succ, ← Nat.pow_add]; congr 1; omega
  unfold dg
  rw [e, Nat.mul_assoc, Nat.add_mul_div_left _ _ (Nat.pow_pos hb), Nat.mul_assoc, Nat.add_mul_mod_self_left]
set_option maxRecDepth 20000 in
set_option maxHeartbeats 4000000 in
theorem j_fill {d : Nat} {G : zG} {A : Int → Int → Int} {P : Option zV → zG → Prop} {r : Int} {len : Nat} (hk : gk G r = 1) (hn : gn G r = (len : Int)) (hl : len ≤ 100000) {x1 : Int} (k : ∀ A2, (∀ a : Int, a ≠ r → A2 a = A a) → (∀ q : Nat, q < len → A2 r q = x1) → P none (gw G A2)) : ZE d M_JArr_fill (gw G A) 0 [(2, r), (0, x1), (9, 0), (9, 0)] [] P := by
  refine ZE.iconst (n := 0) d_JArr_fill_0 ?_
  refine ZE.istore_n (ls2 := [(2, r), (0, x1), (0, 0), (9, 0)]) d_JArr_fill_1 (Nat.le_of_ble_eq_true rfl) rfl ?_
  refine ZE.aload_n d_JArr_fill_2 rfl ?_
  refine ZE.alenE (v := (len : Int)) d_JArr_fill_3 (by have hk0 := hk; show 1 ≤ gk G (r) ∧ gk G (r) ≤ 6; omega) hn ?_
  refine ZE.istore_n (ls2 := [(2, r), (0, x1), (0, 0), (0, (len : Int))]) d_JArr_fill_4 (Nat.le_of_ble_eq_true rfl) rfl ?_
  have L5 : ∀ (t : Nat) (j : Nat) (A1 : Int → Int → Int) (hj : j ≤ len) (g1 : ∀ a : Int, a ≠ r → A1 a = A a) (e2 : ∀ q : Nat, q < j → A1 r q = x1), len - j < t → ZE d M_JArr_fill (gw G A1) 5 [(2, r), (0, x1), (0, (j : Int)), (0, (len : Int))] [] P := by
    intro t
    induction t with
    | zero => intro j A1 hj g1 e2 hm; exact absurd hm (Nat.not_lt_zero _)
    | succ t ih =>
      intro j A1 hj g1 e2 hm
      refine ZE.iload_n d_JArr_fill_5 rfl ?_
      refine ZE.iload_n d_JArr_fill_6 rfl ?_
      refine ZE.icmp_ge (tgt := 20) d_JArr_fill_7 rfl (by unfold zR; omega) (by unfold zR; omega) (fun c7 => ?_) (fun c7 => ?_)
      · refine ZE.vret d_JArr_fill_20 rfl ?_
        exact k A1 g1 (fun q hq => e2 q (by omega))
      · refine ZE.aload_n d_JArr_fill_10 rfl ?_
        refine ZE.iload_n d_JArr_fill_11 rfl ?_
        refine ZE.iload_n d_JArr_fill_12 rfl ?_
        refine ZE.iast d_JArr_fill_13 hk (by have hn0 := hn; show 0 ≤ (j : Int) ∧ (j : Int) < gn G (r); omega) ?_
        show ZE d M_JArr_fill (gw G (up2 A1 r (j : Int) x1)) 14 [(2, r), (0, x1), (0, (j : Int)), (0, (len : Int))] [] _
        refine ZE.iinc (ls2 := [(2, r), (0, x1), (0, (j : Int) + 1), (0, (len : Int))]) d_JArr_fill_14 rfl rfl ?_
        refine ZE.goto (tgt := 5) d_JArr_fill_17 rfl ?_
        rw [show (j : Int) + 1 = ((j + 1 : Nat) : Int) by omega]
        refine ih (j + 1) _ (by omega) (fun a ha => (show up2 A1 r (j : Int) x1 a = A1 a by rw [up2_A, upA_ne _ _ ha]).trans (g1 a ha)) ?_ (by omega)
        intro q hq
        by_cases e : q = j
        · subst e; exact up2_at _ _ _ _
        · rw [up2_ne _ _ (by omega)]; exact e2 q (by omega)
  exact L5 _ 0 A (by omega) (fun _ _ => rfl) (fun q h => absurd h (Nat.not_lt_zero _)) (Nat.lt_succ_self _)
set_option maxRecDepth 20000 in
set_option maxHeartbeats 4000000 in
theorem B_setProduct {d : Nat} {G : zG} {A : Int → Int → Int} {P : Option zV → zG → Prop}  {b : Int} {cap : Nat} (hB : bK G b cap) (h0 : A b 0 = b + 1) {a : Int} {cap2 : Nat} (hA : bK G a cap2) {v : Nat} (hv : bN A a v) {c : Int} {cap3 : Nat} (hC : bK G c cap3) {w : Nat} (hw : bN A c w) (h9v : nd 1000000000 v ≤ cap2) (h9w : nd 1000000000 w ≤ cap3) (h9 : nd 1000000000 v + nd 1000000000 w ≤ cap) (hne : a ≠ b ∧ a ≠ b + 1 ∧ a + 1 ≠ b) (hne2 : c ≠ b ∧ c ≠ b + 1 ∧ c + 1 ≠ b) (k : ∀ A2, bF A A2 b → bN A2 b (v * w) → P none (gw G A2)) : ZE (d + 2) M_Big_setProduct (gw G A) 0 [(2, b), (2, a), (2, c), (9, 0), (9, 0), (9, 0), (9, 0), (9, 0), (9, 0), (9, 0), (9, 0)] [] P := by
  have hcp := hB.2.2.2.2.2
  have hcp2 := hA.2.2.2.2.2
  have hcp3 := hC.2.2.2.2.2
  refine ZE.aload_n d_Big_setProduct_0 rfl ?_
  refine ZE.aload_n d_Big_setProduct_1 rfl ?_
  refine ZE.getE (v := (nd 1000000000 v : Int)) d_Big_setProduct_2 f_Big_15 (tg := 0) rfl hA.1 hv.2.1 ?_
  refine ZE.aload_n d_Big_setProduct_5 rfl ?_
  refine ZE.getE (v := (nd 1000000000 w : Int)) d_Big_setProduct_6 f_Big_15 (tg := 0) rfl hC.1 hw.2.1 ?_
  refine ZE.iadd d_Big_setProduct_9 ?_
  refine ZE.aload_n d_Big_setProduct_10 rfl ?_
  refine ZE.getE (v := b + 1) d_Big_setProduct_11 f_Big_9 (tg := 2) rfl hB.1 h0 ?_
  refine ZE.alenE (v := (cap : Int)) d_Big_setProduct_14 (by have hk0 := hB.2.1; show 1 ≤ gk G (b + 1) ∧ gk G (b + 1) ≤ 6; omega) hB.2.2.1 ?_
  refine ZE.cS [(0, (nd 1000000000 v : Int) + (nd 1000000000 w : Int)), (0, (cap : Int))] [(2, b)] [(0, (nd 1000000000 v : Int) + (nd 1000000000 w : Int)), (0, (cap : Int))] d_Big_setProduct_15 l_Big_19 rfl rfl rfl rfl rfl rfl ?_
  refine j_min (by unfold zR; omega) (by unfold zR; omega) ?_
  show ZE (d + 2) M_Big_setProduct (gw G A) 18 [(2, b), (2, a), (2, c), (9, 0), (9, 0), (9, 0), (9, 0), (9, 0), (9, 0), (9, 0), (9, 0)] [(0, if (nd 1000000000 v : Int) + (nd 1000000000 w : Int) ≤ (cap : Int) then (nd 1000000000 v : Int) + (nd 1000000000 w : Int) else (cap : Int)), (2, b)] _
  rw [show (if (nd 1000000000 v : Int) + (nd 1000000000 w : Int) ≤ (cap : Int) then (nd 1000000000 v : Int) + (nd 1000000000 w : Int) else (cap : Int)) = ((nd 1000000000 v + nd 1000000000 w : Nat) : Int) by rw [if_pos (by omega)]; omega]
  refine ZE.put d_Big_setProduct_18 f_Big_15 (tg := 0) rfl trivial (Or.inl ⟨_, _, _, rfl, rfl, rfl⟩) hB.1 ?_
  show ZE (d + 2) M_Big_setProduct (gw G (up2 A b 1 ((nd 1000000000 v + nd 1000000000 w : Nat) : Int))) 21 [(2, b), (2, a), (2, c), (9, 0), (9, 0), (9, 0), (9, 0), (9, 0), (9, 0), (9, 0), (9, 0)] [] _
  refine ZE.aload_n d_Big_setProduct_21 rfl ?_
  refine ZE.getE (v := b + 1) d_Big_setProduct_22 f_Big_9 (tg := 2) rfl hB.1 ((up2_ne _ _ (by omega)).trans h0) ?_
  refine ZE.iconst (n := 0) d_Big_setProduct_25 ?_
  refine ZE.cS [(2, b + 1), (0, 0)] [] [(2, b + 1), (0, 0), (9, 0), (9, 0)] d_Big_setProduct_26 l_Big_34 rfl rfl rfl rfl rfl rfl ?_
  refine j_fill (r := b + 1) (len := cap) hB.2.1 hB.2.2.1 (by omega) (fun A3 g3 z3 => ?_)
  show ZE (d + 2) M_Big_setProduct (gw G A3) 29 [(2, b), (2, a), (2, c), (9, 0), (9, 0), (9, 0), (9, 0), (9, 0), (9, 0), (9, 0), (9, 0)] [] _
  have g03 : bF A A3 b := fun a h1 h2 => (g3 a h2).trans (by rw [up2_A, upA_ne _ _ h1])
  refine ZE.iconst (n := 0) d_Big_setProduct_29 ?_
  refine ZE.istore_n (ls2 := [(2, b), (2, a), (2, c), (0, 0), (9, 0), (9, 0), (9, 0), (9, 0), (9, 0), (9, 0), (9, 0)]) d_Big_setProduct_30 (Nat.le_of_ble_eq_true rfl) rfl ?_
  have L31 : ∀ (t : Nat) (i : Nat) (A1 : Int → Int → Int) (hi : i ≤ nd 1000000000 v) (gA1 : bF A A1 b) (e0 : A1 b 0 = b + 1) (e1 : A1 b 1 = ((nd 1000000000 v + nd 1000000000 w : Nat) : Int)) (e2 : ∀ q : Nat, q < cap → A1 (b + 1) q = (dg 1000000000 (v % 1000000000 ^ i * w) q : Int)), nd 1000000000 v - i < t → ZE (d + 2) M_Big_setProduct (gw G A1) 31 [(2, b), (2, a), (2, c), (0, (i : Int)), (9, 0), (9, 0), (9, 0), (9, 0), (9, 0), (9, 0), (9, 0)] [] P := by
    intro t
    induction t with
    | zero => intro i A1 hi gA1 e0 e1 e2 hm; exact absurd hm (Nat.not_lt_zero _)
    | succ t ih =>
      intro i A1 hi gA1 e0 e1 e2 hm
      have ihO := ih
      have hmO := hm
      have hv1 : bN A1 a v := hv.fr gA1 (by omega)
      have hw1 : bN A1 c w := hw.fr gA1 (by omega)
      have hdl := dB_lt v i
      refine ZE.iload_n d_Big_setProduct_31 rfl ?_
      refine ZE.aload_n d_Big_setProduct_32 rfl ?_
      refine ZE.getE (v := (nd 1000000000 v : Int)) d_Big_setProduct_33 f_Big_15 (tg := 0) rfl hA.1 hv1.2.1 ?_
      refine ZE.icmp_ge (tgt := 136) d_Big_setProduct_36 rfl (by unfold zR; omega) (by unfold zR; omega) (fun c36 => ?_) (fun c36 => ?_)
      · refine ZE.aload_n d_Big_setProduct_136 rfl ?_
        refine ZE.cV [] [] [(2, b), (9, 0)] d_Big_setProduct_137 l_Big_40 rfl rfl rfl rfl rfl rfl hB.1 ?_
        refine B_trim (m := nd 1000000000 v + nd 1000000000 w) (v := v * w) hB (by omega) e0 e1 (fun q hq => by have h5 := e2 q (by omega); rw [show i = nd 1000000000 v by omega, Nat.mod_eq_of_lt (nd_self (by omega) v)] at h5; exact h5) ((nd_lt (b := 1000000000) (by omega) _ _).mpr (nd_mul (b := 1000000000) (by omega))) (fun A4 g4 hn4 => ?_)
        show ZE (d + 2) M_Big_setProduct (gw G A4) 140 [(2, b), (2, a), (2, c), (0, (i : Int)), (9, 0), (9, 0), (9, 0), (9, 0), (9, 0), (9, 0), (9, 0)] [] _
        refine ZE.vret d_Big_setProduct_140 rfl ?_
        exact k A4 (gA1.tr g4) hn4
      · refine ZE.aload_n d_Big_setProduct_39 rfl ?_
        refine ZE.iload_n d_Big_setProduct_40 rfl ?_
        refine ZE.cV [(0, (i : Int))] [] [(2, a), (0, (i : Int))] d_Big_setProduct_41 l_Big_25 rfl rfl rfl rfl rfl rfl hA.1 ?_
        refine B_limbAt (v := v) (i := i) hA hv1 h9v (by omega) ?_
        show ZE (d + 2) M_Big_setProduct (gw G A1) 44 [(2, b), (2, a), (2, c), (0, (i : Int)), (9, 0), (9, 0), (9, 0), (9, 0), (9, 0), (9, 0), (9, 0)] [(0, (dg 1000000000 v i : Int))] _
        refine ZE.i2l d_Big_setProduct_44 (by unfold zR; omega) ?_
        refine ZE.lstore (ls2 := [(2, b), (2, a), (2, c), (0, (i : Int)), (1, (dg 1000000000 v i : Int)), (9, 0), (9, 0), (9, 0), (9, 0), (9, 0), (9, 0)]) d_Big_setProduct_45 (Nat.le_of_ble_eq_true rfl) rfl ?_
        refine ZE.lconst d_Big_setProduct_47 ?_
        show ZE (d + 2) M_Big_setProduct (gw G A1) 48 [(2, b), (2, a), (2, c), (0, (i : Int)), (1, (dg 1000000000 v i : Int)), (9, 0), (9, 0), (9, 0), (9, 0), (9, 0), (9, 0)] [(1, 0)] _
        refine ZE.lstore (ls2 := [(2, b), (2, a), (2, c), (0, (i : Int)), (1, (dg 1000000000 v i : Int)), (9, 0), (1, 0), (9, 0), (9, 0), (9, 0), (9, 0)]) d_Big_setProduct_48 (Nat.le_of_ble_eq_true rfl) rfl ?_
        refine ZE.iconst (n := 0) d_Big_setProduct_50 ?_
        refine ZE.istore (ls2 := [(2, b), (2, a), (2, c), (0, (i : Int)), (1, (dg 1000000000 v i : Int)), (9, 0), (1, 0), (9, 0), (0, 0), (9, 0), (9, 0)]) d_Big_setProduct_51 (Nat.le_of_ble_eq_true rfl) rfl ?_
        obtain ⟨V, hV⟩ : ∃ V, V = v % 1000000000 ^ i * w := ⟨_, rfl⟩
        rw [← hV] at e2
        have L53 : ∀ (t : Nat) (j : Nat) (c1 : Nat) (X : Nat) (A2 : Int → Int → Int) (hXd : X = V + dg 1000000000 v i * (w % 1000000000 ^ j) * 1000000000 ^ i) (hj : j ≤ nd 1000000000 w + 1) (hc1 : c1 ≤ 1000000000) (hX : X / 1000000000 ^ (i + j) = V / 1000000000 ^ (i + j) + c1) (gA2 : bF A1 A2 b) (f0 : A2 b 0 = b + 1) (f1 : A2 b 1 = ((nd 1000000000 v + nd 1000000000 w : Nat) : Int)) (f2 : ∀ p : Nat, p < i + j → A2 (b + 1) p = (dg 1000000000 X p : Int)) (f3 : ∀ p : Nat, i + j ≤ p → p < cap → A2 (b + 1) p = (dg 1000000000 V p : Int)), nd 1000000000 w + 1 - j < t → ZE (d + 2) M_Big_setProduct (gw G A2) 53 [(2, b), (2, a), (2, c), (0, (i : Int)), (1, (dg 1000000000 v i : Int)), (9, 0), (1, (c1 : Int)), (9, 0), (0, (j : Int)), (9, 0), (9, 0)] [] P := by
          intro t
          induction t with
          | zero => intro j c1 X A2 hXd hj hc1 hX gA2 f0 f1 f2 f3 hm; exact absurd hm (Nat.not_lt_zero _)
          | succ t ih =>
            intro j c1 X A2 hXd hj hc1 hX gA2 f0 f1 f2 f3 hm
            have hv2 : bN A2 a v := hv1.fr gA2 (by omega)
            have hw2 : bN A2 c w := hw1.fr gA2 (by omega)
            have hdw := dB_lt w j
            have hdV := dB_lt V (i + j)
            refine ZE.iload d_Big_setProduct_53 rfl ?_
            refine ZE.aload_n d_Big_setProduct_55 rfl ?_
            refine ZE.getE (v := (nd 1000000000 w : Int)) d_Big_setProduct_56 f_Big_15 (tg := 0) rfl hC.1 hw2.2.1 ?_
            refine ZE.icmp_gt (tgt := 130) d_Big_setProduct_59 rfl (by unfold zR; omega) (by unfold zR; omega) (fun c59 => ?_) (fun c59 => ?_)
            · have hjw : j = nd 1000000000 w + 1 := by omega
              have hw0 : w % 1000000000 ^ j = w := Nat.mod_eq_of_lt ((nd_lt (by omega) _ _).mpr (by omega))
              have hXe : X = v % 1000000000 ^ (i + 1) * w := by
                rw [hXd, hw0, mod_step, Nat.add_mul, hV]
                congr 1
                rw [Nat.mul_comm (1000000000 ^ i), Nat.mul_assoc, Nat.mul_assoc, Nat.mul_comm w]
              have hXlt : X < 1000000000 ^ (i + j) := by
                rw [hXe, hjw, show i + (nd 1000000000 w + 1) = (i + 1) + nd 1000000000 w by omega, Nat.pow_add 1000000000 (i + 1) (nd 1000000000 w)]
                exact Nat.mul_lt_mul_of_lt_of_le (Nat.mod_lt _ (Nat.pow_pos (show 0 < 1000000000 by omega))) (Nat.le_of_lt (nd_self (show 2 ≤ 1000000000 by omega) w)) (Nat.pow_pos (show 0 < 1000000000 by omega))
              have hc0 : c1 = 0 := by rw [Nat.div_eq_of_lt hXlt] at hX; exact (Nat.add_eq_zero_iff.mp hX.symm).2
              have hdone : ∀ q : Nat, q < cap → A2 (b + 1) q = (dg 1000000000 (v % 1000000000 ^ (i + 1) * w) q : Int) := by
                intro q hq
                rw [← hXe]
                rcases Nat.lt_or_ge q (i + j) with q1 | q1
                · exact f2 q q1
                · rw [f3 q q1 hq, dg_hi (hX.trans (by rw [hc0, Nat.add_zero])) q1]
              refine ZE.iinc (ls2 := [(2, b), (2, a), (2, c), (0, (i : Int) + 1), (1, (dg 1000000000 v i : Int)), (9, 0), (1, (c1 : Int)), (9, 0), (0, (j : Int)), (9, 0), (9, 0)]) d_Big_setProduct_130 rfl rfl ?_
              refine ZE.goto (tgt := 31) d_Big_setProduct_133 rfl ?_
              refine ZE.mask [true, true, true, true, false, true, false, true, false, true, true] ?_
              show ZE (d + 2) M_Big_setProduct (gw G A2) 31 [(2, b), (2, a), (2, c), (0, (i : Int) + 1), (9, 0), (9, 0), (9, 0), (9, 0), (9, 0), (9, 0), (9, 0)] [] _
              rw [show (i : Int) + 1 = ((i + 1 : Nat) : Int) by omega]
              exact ihO (i + 1) A2 (by omega) (gA1.tr gA2) f0 f1 hdone (by omega)
            · refine ZE.iload_n d_Big_setProduct_62 rfl ?_
              refine ZE.iload d_Big_setProduct_63 rfl ?_
              refine ZE.iadd d_Big_setProduct_65 ?_
              refine ZE.aload_n d_Big_setProduct_66 rfl ?_
              refine ZE.getE (v := b + 1) d_Big_setProduct_67 f_Big_9 (tg := 2) rfl hB.1 f0 ?_
              refine ZE.alenE (v := (cap : Int)) d_Big_setProduct_70 (by have hk0 := hB.2.1; show 1 ≤ gk G (b + 1) ∧ gk G (b + 1) ≤ 6; omega) hB.2.2.1 ?_
              refine ZE.icmp_ge (tgt := 130) d_Big_setProduct_71 rfl (by unfold zR; omega) (by unfold zR; omega) (fun c71 => ?_) (fun c71 => ?_)
              · exact absurd c71 (by omega)
              · obtain ⟨T, hT⟩ : ∃ T : Nat, T = dg 1000000000 V (i + j) + dg 1000000000 v i * dg 1000000000 w j + c1 := ⟨_, rfl⟩
                obtain ⟨s1, s2, s3⟩ := prod_step (b := 1000000000) (by omega) (V := V) (d := dg 1000000000 v i) (w := w) (j := j) hX
                rw [← hT] at s1 s2
                have hT2 : dg 1000000000 v i * dg 1000000000 w j ≤ 999999999 * 999999999 := Nat.mul_le_mul (by omega) (by omega)
                refine ZE.lload d_Big_setProduct_74 rfl ?_
                refine ZE.aload_n d_Big_setProduct_76 rfl ?_
                refine ZE.iload d_Big_setProduct_77 rfl ?_
                refine ZE.cV [(0, (j : Int))] [(1, (dg 1000000000 v i : Int))] [(2, c), (0, (j : Int))] d_Big_setProduct_79 l_Big_25 rfl rfl rfl rfl rfl rfl hC.1 ?_
                refine B_limbAt (v := w) (i := j) hC hw2 h9w (by omega) ?_
                show ZE (d + 2) M_Big_setProduct (gw G A2) 82 [(2, b), (2, a), (2, c), (0, (i : Int)), (1, (dg 1000000000 v i : Int)), (9, 0), (1, (c1 : Int)), (9, 0), (0, (j : Int)), (9, 0), (9, 0)] [(0, (dg 1000000000 w j : Int)), (1, (dg 1000000000 v i : Int))] _
                refine ZE.i2l d_Big_setProduct_82 (by unfold zR; omega) ?_
                refine ZE.lmul d_Big_setProduct_83 ?_
                refine ZE.aload_n d_Big_setProduct_84 rfl ?_
                refine ZE.getE (v := b + 1) d_Big_setProduct_85 f_Big_9 (tg := 2) rfl hB.1 f0 ?_
                refine ZE.iload_n d_Big_setProduct_88 rfl ?_
                refine ZE.iload d_Big_setProduct_89 rfl ?_
                refine ZE.iadd d_Big_setProduct_91 ?_
                refine ZE.ialdE (v := (dg 1000000000 V (i + j) : Int)) d_Big_setProduct_92 hB.2.1 (by have hn0 := hB.2.2.1; show 0 ≤ ((i : Int) + (j : Int)) ∧ ((i : Int) + (j : Int)) < gn G (b + 1); omega) (by have h5 := f3 (i + j) (Nat.le_refl _) (by omega); rw [show ((i + j : Nat) : Int) = (i : Int) + (j : Int) by omega] at h5; exact h5) ?_
                refine ZE.i2l d_Big_setProduct_93 (by unfold zR; omega) ?_
                refine ZE.ladd d_Big_setProduct_94 ?_
                refine ZE.lload d_Big_setProduct_95 rfl ?_
                refine ZE.ladd d_Big_setProduct_97 ?_
                rw [show ((((dg 1000000000 v i : Int) * (dg 1000000000 w j : Int)) + (dg 1000000000 V (i + j) : Int)) + (c1 : Int) : Int) = (T : Int) from (by rw [hT]; simp only [Int.natCast_add, Int.natCast_mul]; omega)]
                refine ZE.lstore (ls2 := [(2, b), (2, a), (2, c), (0, (i : Int)), (1, (dg 1000000000 v i : Int)), (9, 0), (1, (c1 : Int)), (9, 0), (0, (j : Int)), (1, (T : Int)), (9, 0)]) d_Big_setProduct_98 (Nat.le_of_ble_eq_true rfl) rfl ?_
                refine ZE.aload_n d_Big_setProduct_100 rfl ?_
                refine ZE.getE (v := b + 1) d_Big_setProduct_101 f_Big_9 (tg := 2) rfl hB.1 f0 ?_
                refine ZE.iload_n d_Big_setProduct_104 rfl ?_
                refine ZE.iload d_Big_setProduct_105 rfl ?_
                refine ZE.iadd d_Big_setProduct_107 ?_
                refine ZE.lload d_Big_setProduct_108 rfl ?_
                refine ZE.ldc2 (v := 1000000000) d_Big_setProduct_110 k_Big_29 ?_
                refine ZE.lremP d_Big_setProduct_113 (by omega) ?_
                rw [show ((T : Int) % 1000000000 : Int) = ((T % 1000000000 : Nat) : Int) from (by omega)]
                refine ZE.l2i d_Big_setProduct_114 ?_
                refine ZE.iast d_Big_setProduct_115 hB.2.1 (by have hn0 := hB.2.2.1; show 0 ≤ ((i : Int) + (j : Int)) ∧ ((i : Int) + (j : Int)) < gn G (b + 1); omega) ?_
                show ZE (d + 2) M_Big_setProduct (gw G (up2 A2 (b + 1) ((i : Int) + (j : Int)) ((T % 1000000000 : Nat) : Int))) 116 [(2, b), (2, a), (2, c), (0, (i : Int)), (1, (dg 1000000000 v i : Int)), (9, 0), (1, (c1 : Int)), (9, 0), (0, (j : Int)), (1, (T : Int)), (9, 0)] [] _
                refine ZE.lload d_Big_setProduct_116 rfl ?_
                refine ZE.ldc2 (v := 1000000000) d_Big_setProduct_118 k_Big_29 ?_
                refine ZE.ldivP d_Big_setProduct_121 (by omega) ?_
                rw [show ((T : Int) / 1000000000 : Int) = ((T / 1000000000 : Nat) : Int) from (by omega)]
                refine ZE.lstore (ls2 := [(2, b), (2, a), (2, c), (0, (i : Int)), (1, (dg 1000000000 v i : Int)), (9, 0), (1, ((T / 1000000000 : Nat) : Int)), (9, 0), (0, (j : Int)), (1, (T : Int)), (9, 0)]) d_Big_setProduct_122 (Nat.le_of_ble_eq_true rfl) rfl ?_
                refine ZE.iinc (ls2 := [(2, b), (2, a), (2, c), (0, (i : Int)), (1, (dg 1000000000 v i : Int)), (9, 0), (1, ((T / 1000000000 : Nat) : Int)), (9, 0), (0, (j : Int) + 1), (1, (T : Int)), (9, 0)]) d_Big_setProduct_124 rfl rfl ?_
                refine ZE.goto (tgt := 53) d_Big_setProduct_127 rfl ?_
                refine ZE.mask [true, true, true, true, true, true, true, true, true, false, true] ?_
                show ZE (d + 2) M_Big_setProduct (gw G (up2 A2 (b + 1) ((i : Int) + (j : Int)) ((T % 1000000000 : Nat) : Int))) 53 [(2, b), (2, a), (2, c), (0, (i : Int)), (1, (dg 1000000000 v i : Int)), (9, 0), (1, ((T / 1000000000 : Nat) : Int)), (9, 0), (0, (j : Int) + 1), (9, 0), (9, 0)] [] _
                rw [show (j : Int) + 1 = ((j + 1 : Nat) : Int) by omega]
                have hX2 : V + dg 1000000000 v i * (w % 1000000000 ^ (j + 1)) * 1000000000 ^ i = X + dg 1000000000 v i * dg 1000000000 w j * 1000000000 ^ (i + j) := by
                  rw [mod_step, hXd, Nat.mul_add, Nat.add_mul, Nat.pow_add, ← Nat.add_assoc]
                  congr 1
                  rw [Nat.mul_comm (1000000000 ^ j), ← Nat.mul_assoc, Nat.mul_assoc (dg 1000000000 v i * dg 1000000000 w j), Nat.mul_comm (1000000000 ^ j)]
                refine ih (j + 1) (T / 1000000000) _ _ hX2.symm (by omega) (by omega) (by rw [show i + (j + 1) = i + j + 1 by omega]; exact s2) (gA2.tr bF.row) ((up2_ne _ _ (by omega)).trans f0) ((up2_ne _ _ (by omega)).trans f1) ?_ ?_ (by omega)
                · intro p hp
                  by_cases q1 : p = i + j
                  · subst q1; rw [show ((i + j : Nat) : Int) = (i : Int) + (j : Int) by omega, up2_at]; exact congrArg Nat.cast s1
                  · rw [up2_ne _ _ (by omega), f2 p (by omega), s3 p (by omega)]
                · intro p hp hp2
                  rw [up2_ne _ _ (by omega)]; exact f3 p (by omega) hp2
        exact L53 _ 0 0 V A1 (by rw [Nat.pow_zero, Nat.mod_one, Nat.mul_zero, Nat.zero_mul, Nat.add_zero]) (Nat.zero_le _) (Nat.zero_le _) rfl bF.rf e0 e1 (fun p hp => by rw [e2 p (by omega)]) (fun p _ hp => e2 p hp) (Nat.lt_succ_self _)
  exact L31 _ 0 A3 (by omega) g03 (by rw [g3 b (by omega), up2_ne _ _ (by omega)]; exact h0) (by rw [g3 b (by omega)]; exact up2_at _ _ _ _) (fun q hq => by rw [z3 q hq, Nat.pow_zero, Nat.mod_one, Nat.zero_mul, dg_0]; rfl) (Nat.lt_succ_self _)
