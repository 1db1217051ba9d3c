def mK (G : zG) (h : Int) : Prop := gk G h = 17 ∧ 0 ≤ h ∧ (gk G (h + 1) = 1 ∧ gn G (h + 1) = 1600) ∧ (gk G (h + 2) = 1 ∧ gn G (h + 2) = 1600) ∧ (gk G (h + 3) = 1 ∧ gn G (h + 3) = 7) ∧ (gk G (h + 4) = 1 ∧ gn G (h + 4) = 3001) ∧ (gk G (h + 5) = 1 ∧ gn G (h + 5) = 3001)
def mF (A : Int → Int → Int) (h : Int) : Prop := A h 0 = h + 1 ∧ A h 1 = h + 2 ∧ A h 2 = h + 3 ∧ A h 3 = h + 4 ∧ A h 4 = h + 5
theorem mK.gr {G G2 : zG} {h : Int} {n m : Nat} (k : mK G h) (g : gR G G2 n m) (hb : h + 6 ≤ (gz G : Int)) : mK G2 h := by
  have e := g.2.2.1
  obtain ⟨h1, h2, h3, h4, h5, h6, h7⟩ := k
  exact ⟨(e h (by omega)).1.trans h1, h2, ⟨(e _ (by omega)).1.trans h3.1, (e _ (by omega)).2.trans h3.2⟩, ⟨(e _ (by omega)).1.trans h4.1, (e _ (by omega)).2.trans h4.2⟩, ⟨(e _ (by omega)).1.trans h5.1, (e _ (by omega)).2.trans h5.2⟩, ⟨(e _ (by omega)).1.trans h6.1, (e _ (by omega)).2.trans h6.2⟩, ⟨(e _ (by omega)).1.trans h7.1, (e _ (by omega)).2.trans h7.2⟩⟩
theorem mF.ab {A B : Int → Int → Int} {h : Int} (k : mF A h) (e : ∀ i : Int, i ≤ 4 → B h i = A h i) : mF B h := ⟨(e _ (by omega)).trans k.1, (e _ (by omega)).trans k.2.1, (e _ (by omega)).trans k.2.2.1, (e _ (by omega)).trans k.2.2.2.1, (e _ (by omega)).trans k.2.2.2.2⟩
def mV (A : Int → Int → Int) (h : Int) (w : Nat → Nat) (K : Nat) : Prop := ∀ j : Nat, j < K → A (h + 1) j = (w j : Int) ∧ A (h + 2) j = (mb (w j) : Int)
def vlF (w : Nat → Nat) (K : Nat) (i : Int) : Int := if 0 ≤ i ∧ i < (K : Int) then (w i.toNat : Int) else -1
def seF (w : Nat → Nat) (K : Nat) (i : Int) : Int := if 0 ≤ i ∧ i < (K : Int) then (mb (w i.toNat) : Int) else 0
theorem vlF_y {w : Nat → Nat} {K i : Nat} (h : i < K) : vlF w K (i : Int) = (w i : Int) := by unfold vlF; rw [if_pos (by omega), Int.toNat_natCast]
theorem seF_y {w : Nat → Nat} {K i : Nat} (h : i < K) : seF w K (i : Int) = (mb (w i) : Int) := by unfold seF; rw [if_pos (by omega), Int.toNat_natCast]
set_option maxRecDepth 20000 in
set_option maxHeartbeats 4000000 in
theorem m_valueAt {d : Nat} {G : zG} {A : Int → Int → Int} {P : Option zV → zG → Prop} {h : Int} (hK : mK G h) (hF : mF A h) {w : Nat → Nat} {K : Nat} (h7 : A h 7 = (K : Int)) (hK16 : K ≤ 1600) (hv : mV A h w K) {i : Int} (hi : zR i) (k : P (some (0, vlF w K i)) (gw G A)) : ZE d M_Smo_valueAt (gw G A) 0 [(2, h), (0, i)] [] P := by
  refine ZE.iload_n d_Smo_valueAt_0 rfl ?_
  refine ZE.if_lt (tgt := 30) d_Smo_valueAt_1 rfl hi (fun c1 => ?_) (fun c1 => ?_)
  · refine ZE.iconst (n := (-1)) d_Smo_valueAt_30 ?_
    refine ZE.iret d_Smo_valueAt_31 rfl ?_
    have e1 : vlF w K i = (-1) := if_neg (by omega)
    rw [e1] at k
    exact k
  · refine ZE.iload_n d_Smo_valueAt_4 rfl ?_
    refine ZE.aload_n d_Smo_valueAt_5 rfl ?_
    refine ZE.getE (v := (K : Int)) d_Smo_valueAt_6 f_Smo_43 (tg := 0) rfl hK.1 h7 ?_
    refine ZE.icmp_ge (tgt := 30) d_Smo_valueAt_9 rfl hi (by unfold zR; omega) (fun c9 => ?_) (fun c9 => ?_)
    · refine ZE.iconst (n := (-1)) d_Smo_valueAt_30 ?_
      refine ZE.iret d_Smo_valueAt_31 rfl ?_
      have e1 : vlF w K i = (-1) := if_neg (by omega)
      rw [e1] at k
      exact k
    · refine ZE.iload_n d_Smo_valueAt_12 rfl ?_
      refine ZE.aload_n d_Smo_valueAt_13 rfl ?_
      refine ZE.getE (v := h + 1) d_Smo_valueAt_14 f_Smo_11 (tg := 2) rfl hK.1 hF.1 ?_
      refine ZE.alenE (v := 1600) d_Smo_valueAt_17 (by have hk0 := hK.2.2.1.1; show 1 ≤ gk G (h + 1) ∧ gk G (h + 1) ≤ 6; omega) hK.2.2.1.2 ?_
      refine ZE.icmp_ge (tgt := 30) d_Smo_valueAt_18 rfl hi (by unfold zR; omega) (fun c18 => ?_) (fun c18 => ?_)
      · exact absurd c18 (by omega)
      · obtain ⟨in0, hin⟩ : ∃ q : Nat, i = (q : Int) := ⟨i.toNat, by omega⟩
        subst hin
        refine ZE.aload_n d_Smo_valueAt_21 rfl ?_
        refine ZE.getE (v := h + 1) d_Smo_valueAt_22 f_Smo_11 (tg := 2) rfl hK.1 hF.1 ?_
        refine ZE.iload_n d_Smo_valueAt_25 rfl ?_
        refine ZE.ialdE (v := (w in0 : Int)) d_Smo_valueAt_26 hK.2.2.1.1 (by have hn0 := hK.2.2.1.2; show 0 ≤ (in0 : Int) ∧ (in0 : Int) < gn G (h + 1); omega) (hv in0 (by omega)).1 ?_
        refine ZE.goto (tgt := 31) d_Smo_valueAt_27 rfl ?_
        refine ZE.iret d_Smo_valueAt_31 rfl ?_
        have e1 : vlF w K (in0 : Int) = (w in0 : Int) := vlF_y (by omega)
        rw [e1] at k
        exact k
set_option maxRecDepth 20000 in
set_option maxHeartbeats 4000000 in
theorem m_setAt {d : Nat} {G : zG} {A : Int → Int → Int} {P : Option zV → zG → Prop} {h : Int} (hK : mK G h) (hF : mF A h) {w : Nat → Nat} {K : Nat} (h7 : A h 7 = (K : Int)) (hK16 : K ≤ 1600) (hv : mV A h w K) {i : Int} (hi : zR i) (k : P (some (0, seF w K i)) (gw G A)) : ZE d M_Smo_setAt (gw G A) 0 [(2, h), (0, i)] [] P := by
  refine ZE.iload_n d_Smo_setAt_0 rfl ?_
  refine ZE.if_lt (tgt := 30) d_Smo_setAt_1 rfl hi (fun c1 => ?_) (fun c1 => ?_)
  · refine ZE.iconst (n := 0) d_Smo_setAt_30 ?_
    refine ZE.iret d_Smo_setAt_31 rfl ?_
    have e1 : seF w K i = 0 := if_neg (by omega)
    rw [e1] at k
    exact k
  · refine ZE.iload_n d_Smo_setAt_4 rfl ?_
    refine ZE.aload_n d_Smo_setAt_5 rfl ?_
    refine ZE.getE (v := (K : Int)) d_Smo_setAt_6 f_Smo_43 (tg := 0) rfl hK.1 h7 ?_
    refine ZE.icmp_ge (tgt := 30) d_Smo_setAt_9 rfl hi (by unfold zR; omega) (fun c9 => ?_) (fun c9 => ?_)
    · refine ZE.iconst (n := 0) d_Smo_setAt_30 ?_
      refine ZE.iret d_Smo_setAt_31 rfl ?_
      have e1 : seF w K i = 0 := if_neg (by omega)
      rw [e1] at k
      exact k
    · refine ZE.iload_n d_Smo_setAt_12 rfl ?_
      refine ZE.aload_n d_Smo_setAt_13 rfl ?_
      refine ZE.getE (v := h + 2) d_Smo_setAt_14 f_Smo_15 (tg := 2) rfl hK.1 hF.2.1 ?_
      refine ZE.alenE (v := 1600) d_Smo_setAt_17 (by have hk0 := hK.2.2.2.1.1; show 1 ≤ gk G (h + 2) ∧ gk G (h + 2) ≤ 6; omega) hK.2.2.2.1.2 ?_
      refine ZE.icmp_ge (tgt := 30) d_Smo_setAt_18 rfl hi (by unfold zR; omega) (fun c18 => ?_) (fun c18 => ?_)
      · exact absurd c18 (by omega)
      · obtain ⟨in0, hin⟩ : ∃ q : Nat, i = (q : Int) := ⟨i.toNat, by omega⟩
        subst hin
        refine ZE.aload_n d_Smo_setAt_21 rfl ?_
        refine ZE.getE (v := h + 2) d_Smo_setAt_22 f_Smo_15 (tg := 2) rfl hK.1 hF.2.1 ?_
        refine ZE.iload_n d_Smo_setAt_25 rfl ?_
        refine ZE.ialdE (v := (mb (w in0) : Int)) d_Smo_setAt_26 hK.2.2.2.1.1 (by have hn0 := hK.2.2.2.1.2; show 0 ≤ (in0 : Int) ∧ (in0 : Int) < gn G (h + 2); omega) (hv in0 (by omega)).2 ?_
        refine ZE.goto (tgt := 31) d_Smo_setAt_27 rfl ?_
        refine ZE.iret d_Smo_setAt_31 rfl ?_
        have e1 : seF w K (in0 : Int) = (mb (w in0) : Int) := seF_y (by omega)
        rw [e1] at k
        exact k
def prG (S : Nat) (w : Nat → Nat) (tp p : Nat) : Nat := if S.testBit p then w tp * sev p else 200001
theorem prG_R {S : Nat} {w : Nat → Nat} {tp p : Nat} (hp : p < 7) (h : w tp ≤ 200000) : prG S w tp p ≤ 3400000 := by
  have h1 := sev_2 p hp
  have h2 : w tp * sev p ≤ 200000 * 17 := Nat.mul_le_mul h h1.2
  unfold prG
  split <;> omega
set_option maxRecDepth 20000 in
set_option maxHeartbeats 4000000 in
theorem m_productOf {d : Nat} {G : zG} {A : Int → Int → Int} {P : Option zV → zG → Prop} {h : Int} (hK : mK G h) (hF : mF A h) {w : Nat → Nat} {K : Nat} (h7 : A h 7 = (K : Int)) (hK16 : K ≤ 1600) (hv : mV A h w K) {S : Nat} (hS7 : S < 128) (h6 : A h 6 = (S : Int)) (hL : lG G A) {p tp : Nat} (hp : p < 7) (htp : A (h + 3) p = (tp : Int)) (htk : tp < K) (k : P (some (0, ((prG S w tp p : Nat) : Int))) (gw G A)) : ZE (d + 1) M_Smo_productOf (gw G A) 0 [(2, h), (0, (p : Int)), (9, 0)] [] P := by
  refine ZE.iload_n d_Smo_productOf_0 rfl ?_
  refine ZE.if_lt (tgt := 29) d_Smo_productOf_1 rfl (by unfold zR; omega) (fun c1 => ?_) (fun c1 => ?_)
  · exact absurd c1 (by omega)
  · refine ZE.iload_n d_Smo_productOf_4 rfl ?_
    refine ZE.aload_n d_Smo_productOf_5 rfl ?_
    refine ZE.getE (v := h + 3) d_Smo_productOf_6 f_Smo_20 (tg := 2) rfl hK.1 hF.2.2.1 ?_
    refine ZE.alenE (v := 7) d_Smo_productOf_9 (by have hk0 := hK.2.2.2.2.1.1; show 1 ≤ gk G (h + 3) ∧ gk G (h + 3) ≤ 6; omega) hK.2.2.2.2.1.2 ?_
    refine ZE.icmp_ge (tgt := 29) d_Smo_productOf_10 rfl (by unfold zR; omega) (by unfold zR; omega) (fun c10 => ?_) (fun c10 => ?_)
    · exact absurd c10 (by omega)
    · refine ZE.aload_n d_Smo_productOf_13 rfl ?_
      refine ZE.getE (v := (S : Int)) d_Smo_productOf_14 f_Smo_29 (tg := 0) rfl hK.1 h6 ?_
      refine ZE.iload_n d_Smo_productOf_17 rfl ?_
      refine ZE.ishr d_Smo_productOf_18 ?_
      refine ZE.iconst (n := 1) d_Smo_productOf_19 ?_
      refine ZE.iand d_Smo_productOf_20 ?_
      rw [show (zand (zshr (S : Int) (p : Int)) 1 : Int) = ((S / 2 ^ p % 2 : Nat) : Int) from (zbit (by omega) (by omega))]
      refine ZE.iconst (n := 1) d_Smo_productOf_21 ?_
      refine ZE.icmp_ne (tgt := 29) d_Smo_productOf_22 rfl (by unfold zR; omega) (by unfold zR; omega) (fun c22 => ?_) (fun c22 => ?_)
      · refine ZE.iconst (n := 0) d_Smo_productOf_29 ?_
        refine ZE.istore_n (ls2 := [(2, h), (0, (p : Int)), (0, 0)]) d_Smo_productOf_30 (Nat.le_of_ble_eq_true rfl) rfl ?_
        refine ZE.iload_n d_Smo_productOf_31 rfl ?_
        refine ZE.if_eq (tgt := 53) d_Smo_productOf_32 rfl (by unfold zR; omega) (fun c32 => ?_) (fun c32 => ?_)
        · refine ZE.ldc (v := 200001) d_Smo_productOf_53 k_Smo_55 ?_
          refine ZE.iret d_Smo_productOf_55 rfl ?_
          have e1 : prG S w tp p = 200001 := if_neg (by rw [tbit]; omega)
          rw [e1] at k
          exact k
        · exact absurd c32 (by decide)
      · refine ZE.iconst (n := 1) d_Smo_productOf_25 ?_
        refine ZE.goto (tgt := 30) d_Smo_productOf_26 rfl ?_
        refine ZE.istore_n (ls2 := [(2, h), (0, (p : Int)), (0, 1)]) d_Smo_productOf_30 (Nat.le_of_ble_eq_true rfl) rfl ?_
        refine ZE.iload_n d_Smo_productOf_31 rfl ?_
        refine ZE.if_eq (tgt := 53) d_Smo_productOf_32 rfl (by unfold zR; omega) (fun c32 => ?_) (fun c32 => ?_)
        · exact absurd c32 (by decide)
        · refine ZE.aload_n d_Smo_productOf_35 rfl ?_
          refine ZE.aload_n d_Smo_productOf_36 rfl ?_
          refine ZE.getE (v := h + 3) d_Smo_productOf_37 f_Smo_20 (tg := 2) rfl hK.1 hF.2.2.1 ?_
          refine ZE.iload_n d_Smo_productOf_40 rfl ?_
          refine ZE.ialdE (v := (tp : Int)) d_Smo_productOf_41 hK.2.2.2.2.1.1 (by have hn0 := hK.2.2.2.2.1.2; show 0 ≤ (p : Int) ∧ (p : Int) < gn G (h + 3); omega) htp ?_
          refine ZE.cV [(0, (tp : Int))] [] [(2, h), (0, (tp : Int))] d_Smo_productOf_42 l_Smo_65 rfl rfl rfl rfl rfl rfl hK.1 ?_
          refine m_valueAt (d := d) hK hF h7 hK16 hv (i := (tp : Int)) (by unfold zR; omega) ?_
          show ZE (d + 1) M_Smo_productOf (gw G A) 45 [(2, h), (0, (p : Int)), (0, 1)] [(0, vlF w K (tp : Int))] _
          rw [vlF_y htk]
          refine ZE.iload_n d_Smo_productOf_45 rfl ?_
          refine ZE.cS [(0, (p : Int))] [(0, (w tp : Int))] [(0, (p : Int))] d_Smo_productOf_46 l_Smo_68 rfl rfl rfl rfl rfl rfl ?_
          refine p_at (d := d) (j := p) (by omega) hL ?_
          show ZE (d + 1) M_Smo_productOf (gw G A) 49 [(2, h), (0, (p : Int)), (0, 1)] [(0, zPf p), (0, (w tp : Int))] _
          rw [zPf_sev p hp]
          refine ZE.imul d_Smo_productOf_49 ?_
          rw [show ((w tp : Int) * (sev p : Int) : Int) = ((w tp * sev p : Nat) : Int) from (Int.natCast_mul _ _).symm]
          refine ZE.goto (tgt := 55) d_Smo_productOf_50 rfl ?_
          refine ZE.iret d_Smo_productOf_55 rfl ?_
          have e1 : prG S w tp p = w tp * sev p := if_pos (tbit.mpr (by omega))
          rw [e1] at k
          exact k
set_option maxRecDepth 20000 in
set_option maxHeartbeats 4000000 in
theorem m_leastProduct {d : Nat} {G : zG} {A : Int → Int → Int} {P : Option zV → zG → Prop} {h : Int} (hK : mK G h) (hF : mF A h) {w : Nat → Nat} {K : Nat} (h7 : A h 7 = (K : Int)) (hK16 : K ≤ 1600) (hv : mV A h w K) {S : Nat} (hS7 : S < 128) (h6 : A h 6 = (S : Int)) (hL : lG G A) {t : Nat → Nat} (ht : ∀ p : Nat, p < 7 → A (h + 3) p = (t p : Int)) (htk : ∀ p, p < 7 → t p < K) (hw : ∀ j, j < K → w j ≤ 200000) (k : P (some (0, (lqF S w t 7 : Int))) (gw G A)) : ZE (d + 2) M_Smo_leastProduct (gw G A) 0 [(2, h), (9, 0), (9, 0)] [] P := by
  refine ZE.ldc (v := 200001) d_Smo_leastProduct_0 k_Smo_55 ?_
  refine ZE.istore_n (ls2 := [(2, h), (0, 200001), (9, 0)]) d_Smo_leastProduct_2 (Nat.le_of_ble_eq_true rfl) rfl ?_
  refine ZE.iconst (n := 0) d_Smo_leastProduct_3 ?_
  refine ZE.istore_n (ls2 := [(2, h), (0, 200001), (0, 0)]) d_Smo_leastProduct_4 (Nat.le_of_ble_eq_true rfl) rfl ?_
  have L5 : ∀ (tt0 : Nat) (j : Nat) (hj : j ≤ 7), 8 - j < tt0 → ZE (d + 2) M_Smo_leastProduct (gw G A) 5 [(2, h), (0, (lqF S w t j : Int)), (0, (j : Int))] [] P := by
    intro tt0
    induction tt0 with
    | zero => intro j hj hm; exact absurd hm (Nat.not_lt_zero _)
    | succ tt0 ih =>
      intro j hj hm
      have hl1 := (lqF_le (S := S) (w := w) (t := t) j).1
      refine ZE.iload_n d_Smo_leastProduct_5 rfl ?_
      refine ZE.bipush (n := 7) d_Smo_leastProduct_6 rfl ?_
      refine ZE.icmp_ge (tgt := 27) d_Smo_leastProduct_8 rfl (by unfold zR; omega) (by unfold zR; omega) (fun c8 => ?_) (fun c8 => ?_)
      · refine ZE.iload_n d_Smo_leastProduct_27 rfl ?_
        refine ZE.iret d_Smo_leastProduct_28 rfl ?_
        have hj7 : j = 7 := by omega
        subst hj7
        exact k
      · refine ZE.iload_n d_Smo_leastProduct_11 rfl ?_
        refine ZE.aload_n d_Smo_leastProduct_12 rfl ?_
        refine ZE.iload_n d_Smo_leastProduct_13 rfl ?_
        have hpr := prG_R (S := S) (w := w) (tp := t j) (show j < 7 by omega) (hw _ (htk j (by omega)))
        refine ZE.cV [(0, (j : Int))] [(0, (lqF S w t j : Int))] [(2, h), (0, (j : Int)), (9, 0)] d_Smo_leastProduct_14 l_Smo_56 rfl rfl rfl rfl rfl rfl hK.1 ?_
        refine m_productOf (d := d) hK hF h7 hK16 hv hS7 h6 hL (p := j) (tp := t j) (by omega) (ht j (by omega)) (htk j (by omega)) ?_
        show ZE (d + 2) M_Smo_leastProduct (gw G A) 17 [(2, h), (0, (lqF S w t j : Int)), (0, (j : Int))] [(0, ((prG S w (t j) j : Nat) : Int)), (0, (lqF S w t j : Int))] _
        refine ZE.cS [(0, (lqF S w t j : Int)), (0, ((prG S w (t j) j : Nat) : Int))] [] [(0, (lqF S w t j : Int)), (0, ((prG S w (t j) j : Nat) : Int))] d_Smo_leastProduct_17 l_Smo_59 rfl rfl rfl rfl rfl rfl ?_
        refine j_min (d := d + 1) (by unfold zR; omega) (by unfold zR; omega) ?_
        show ZE (d + 2) M_Smo_leastProduct (gw G A) 20 [(2, h), (0, (lqF S w t j : Int)), (0, (j : Int))] [(0, (if (lqF S w t j : Int) ≤ ((prG S w (t j) j : Nat) : Int) then (lqF S w t j : Int) else ((prG S w (t j) j : Nat) : Int)))] _
        rw [show (if (lqF S w t j : Int) ≤ ((prG S w (t j) j : Nat) : Int) then (lqF S w t j : Int) else ((prG S w (t j) j : Nat) : Int)) = (lqF S w t (j + 1) : Int) from by rw [show lqF S w t (j + 1) = if lqF S w t j ≤ prG S w (t j) j then lqF S w t j else prG S w (t j) j from rfl]; split <;> split <;> omega]
        refine ZE.istore_n (ls2 := [(2, h), (0, (lqF S w t (j + 1) : Int)), (0, (j : Int))]) d_Smo_leastProduct_20 (Nat.le_of_ble_eq_true rfl) rfl ?_
        refine ZE.iinc (ls2 := [(2, h), (0, (lqF S w t (j + 1) : Int)), (0, (j : Int) + 1)]) d_Smo_leastProduct_21 rfl rfl ?_
        refine ZE.goto (tgt := 5) d_Smo_leastProduct_24 rfl ?_
        rw [show (j : Int) + 1 = ((j + 1 : Nat) : Int) by omega]
        exact ih (j + 1) (by omega) (by omega)
  exact L5 _ 0 (Nat.zero_le _) (Nat.lt_succ_self _)
theorem tsF_lt {S : Nat} {w t : Nat → Nat} {L : Nat} : ∀ n, n ≤ 7 → tsF S w t L n < 128 := by
  intro n
  induction n with
  | zero => intro _; exact (by decide : 0 < 128)
  | succ n ih =>
    intro h
    have h1 := ih (by omega)
    have h2 : 2 ^ n ≤ 2 ^ 6 := Nat.pow_le_pow_right (by omega) (by omega)
    show (if prF2 S w t n = L then tsF S w t L n ||| (mb (w (t n)) ||| 2 ^ n) else tsF S w t L n) < 128
    split
    · exact or_128 _ h1 _ (or_128 _ (mb_lt _) _ (by omega))
    · exact h1
set_option maxRecDepth 20000 in
set_option maxHeartbeats 4000000 in
theorem m_takeTurns {d : Nat} {G : zG} {A : Int → Int → Int} {P : Option zV → zG → Prop} {h : Int} (hK : mK G h) (hF : mF A h) {w : Nat → Nat} {K : Nat} (h7 : A h 7 = (K : Int)) (hK16 : K ≤ 1600) (hv : mV A h w K) {S : Nat} (hS7 : S < 128) (h6 : A h 6 = (S : Int)) (hL : lG G A) {t : Nat → Nat} (ht : ∀ p : Nat, p < 7 → A (h + 3) p = (t p : Int)) (htk : ∀ p, p < 7 → t p < K) (hw : ∀ j, j < K → w j ≤ 200000) {L : Nat} (hL2 : L ≤ 200001) (k : ∀ B, (∀ a : Int, a ≠ h + 3 → B a = A a) → (∀ q : Nat, q < 7 → B (h + 3) q = (tnF S w t L q : Int)) → P (some (0, (tsF S w t L 7 : Int))) (gw G B)) : ZE (d + 2) M_Smo_takeTurns (gw G A) 0 [(2, h), (0, (L : Int)), (9, 0), (9, 0)] [] P := by
  refine ZE.iconst (n := 0) d_Smo_takeTurns_0 ?_
  refine ZE.istore_n (ls2 := [(2, h), (0, (L : Int)), (0, 0), (9, 0)]) d_Smo_takeTurns_1 (Nat.le_of_ble_eq_true rfl) rfl ?_
  refine ZE.iconst (n := 0) d_Smo_takeTurns_2 ?_
  refine ZE.istore_n (ls2 := [(2, h), (0, (L : Int)), (0, 0), (0, 0)]) d_Smo_takeTurns_3 (Nat.le_of_ble_eq_true rfl) rfl ?_
  have L4 : ∀ (tt0 : Nat) (j : Nat) (A1 : Int → Int → Int) (hj : j ≤ 7) (g1 : ∀ a : Int, a ≠ h + 3 → A1 a = A a) (gl : ∀ q : Nat, q < j → A1 (h + 3) q = (tnF S w t L q : Int)) (gu : ∀ q : Nat, j ≤ q → q < 7 → A1 (h + 3) q = (t q : Int)), 8 - j < tt0 → ZE (d + 2) M_Smo_takeTurns (gw G A1) 4 [(2, h), (0, (L : Int)), (0, (tsF S w t L j : Int)), (0, (j : Int))] [] P := by
    intro tt0
    induction tt0 with
    | zero => intro j A1 hj g1 gl gu hm; exact absurd hm (Nat.not_lt_zero _)
    | succ tt0 ih =>
      intro j A1 hj g1 gl gu hm
      have hF1 : mF A1 h := hF.ab (fun i _ => congrFun (g1 h (by omega)) i)
      have h71 : A1 h 7 = (K : Int) := (congrFun (g1 h (by omega)) _).trans h7
      have h61 : A1 h 6 = (S : Int) := (congrFun (g1 h (by omega)) _).trans h6
      have hv1 : mV A1 h w K := fun j hj => by rw [g1 (h + 1) (by omega), g1 (h + 2) (by omega)]; exact hv j hj
      have hL1 : lG G A1 := ⟨hL.1, hL.2.1, fun j => (congrFun (g1 _ (fun z => by have := hL.1; rw [z] at this; have := hK.2.2.2.2.1.1; omega)) _).trans (hL.2.2 j)⟩
      have hts : tsF S w t L j < 128 := tsF_lt j hj
      refine ZE.iload_n d_Smo_takeTurns_4 rfl ?_
      refine ZE.aload_n d_Smo_takeTurns_5 rfl ?_
      refine ZE.getE (v := h + 3) d_Smo_takeTurns_6 f_Smo_20 (tg := 2) rfl hK.1 hF1.2.2.1 ?_
      refine ZE.alenE (v := 7) d_Smo_takeTurns_9 (by have hk0 := hK.2.2.2.2.1.1; show 1 ≤ gk G (h + 3) ∧ gk G (h + 3) ≤ 6; omega) hK.2.2.2.2.1.2 ?_
      refine ZE.icmp_ge (tgt := 55) d_Smo_takeTurns_10 rfl (by unfold zR; omega) (by unfold zR; omega) (fun c10 => ?_) (fun c10 => ?_)
      · refine ZE.iload_n d_Smo_takeTurns_55 rfl ?_
        refine ZE.iret d_Smo_takeTurns_56 rfl ?_
        have hj7 : j = 7 := by omega
        subst hj7
        exact k A1 g1 (fun q hq => gl q hq)
      · refine ZE.aload_n d_Smo_takeTurns_13 rfl ?_
        refine ZE.iload_n d_Smo_takeTurns_14 rfl ?_
        have hpr := prG_R (S := S) (w := w) (tp := t j) (show j < 7 by omega) (hw _ (htk j (by omega)))
        refine ZE.cV [(0, (j : Int))] [] [(2, h), (0, (j : Int)), (9, 0)] d_Smo_takeTurns_15 l_Smo_56 rfl rfl rfl rfl rfl rfl hK.1 ?_
        refine m_productOf (d := d) hK hF1 h71 hK16 hv1 hS7 h61 hL1 (p := j) (tp := t j) (by omega) (gu j (Nat.le_refl _) (by omega)) (htk j (by omega)) ?_
        show ZE (d + 2) M_Smo_takeTurns (gw G A1) 18 [(2, h), (0, (L : Int)), (0, (tsF S w t L j : Int)), (0, (j : Int))] [(0, ((prG S w (t j) j : Nat) : Int))] _
        refine ZE.iload_n d_Smo_takeTurns_18 rfl ?_
        refine ZE.icmp_ne (tgt := 49) d_Smo_takeTurns_19 rfl (by unfold zR; omega) (by unfold zR; omega) (fun c19 => ?_) (fun c19 => ?_)
        · have hne : ¬ prF2 S w t j = L := fun z => c19 (by have z2 : prG S w (t j) j = L := z; omega)
          refine ZE.iinc (ls2 := [(2, h), (0, (L : Int)), (0, (tsF S w t L j : Int)), (0, (j : Int) + 1)]) d_Smo_takeTurns_49 rfl rfl ?_
          refine ZE.goto (tgt := 4) d_Smo_takeTurns_52 rfl ?_
          rw [show (j : Int) + 1 = ((j + 1 : Nat) : Int) by omega]
          have e1 : tsF S w t L (j + 1) = tsF S w t L j := if_neg hne
          rw [← e1]
          refine ih (j + 1) A1 (by omega) g1 (fun q hq => ?_) (fun q hq hq2 => gu q (by omega) hq2) (by omega)
          by_cases e : q = j
          · subst e; rw [gu q (Nat.le_refl _) (by omega)]; unfold tnF; rw [if_neg hne]
          · exact gl q (by omega)
        · have heq : prF2 S w t j = L := show prG S w (t j) j = L by omega
          refine ZE.iload_n d_Smo_takeTurns_22 rfl ?_
          refine ZE.aload_n d_Smo_takeTurns_23 rfl ?_
          refine ZE.aload_n d_Smo_takeTurns_24 rfl ?_
          refine ZE.getE (v := h + 3) d_Smo_takeTurns_25 f_Smo_20 (tg := 2) rfl hK.1 hF1.2.2.1 ?_
          refine ZE.iload_n d_Smo_takeTurns_28 rfl ?_
          refine ZE.ialdE (v := (t j : Int)) d_Smo_takeTurns_29 hK.2.2.2.2.1.1 (by have hn0 := hK.2.2.2.2.1.2; show 0 ≤ (j : Int) ∧ (j : Int) < gn G (h + 3); omega) (gu j (Nat.le_refl _) (by omega)) ?_
          refine ZE.cV [(0, (t j : Int))] [(0, (tsF S w t L j : Int))] [(2, h), (0, (t j : Int))] d_Smo_takeTurns_30 l_Smo_71 rfl rfl rfl rfl rfl rfl hK.1 ?_
          refine m_setAt (d := d + 1) hK hF1 h71 hK16 hv1 (i := (t j : Int)) (by have := htk j (by omega); unfold zR; omega) ?_
          show ZE (d + 2) M_Smo_takeTurns (gw G A1) 33 [(2, h), (0, (L : Int)), (0, (tsF S w t L j : Int)), (0, (j : Int))] [(0, seF w K (t j : Int)), (0, (tsF S w t L j : Int))] _
          rw [seF_y (htk j (by omega))]
          have hmt := mb_lt (w (t j))
          have hp7 : 2 ^ j ≤ 2 ^ 6 := Nat.pow_le_pow_right (by omega) (by omega)
          have hor := or_128 (mb (w (t j))) hmt (2 ^ j) (by omega)
          refine ZE.iconst (n := 1) d_Smo_takeTurns_33 ?_
          refine ZE.iload_n d_Smo_takeTurns_34 rfl ?_
          refine ZE.ishl d_Smo_takeTurns_35 ?_
          rw [show (zshl 1 (j : Int) : Int) = ((2 ^ j : Nat) : Int) from (by have := zshl_nat (a := 1) (k := j) (by omega) (by omega); rw [Nat.one_mul] at this; exact this)]
          refine ZE.ior d_Smo_takeTurns_36 ?_
          rw [show (zor (mb (w (t j)) : Int) ((2 ^ j : Nat) : Int) : Int) = ((mb (w (t j)) ||| 2 ^ j : Nat) : Int) from (zor_nat (by omega) (by omega))]
          refine ZE.ior d_Smo_takeTurns_37 ?_
          rw [show (zor (tsF S w t L j : Int) ((mb (w (t j)) ||| 2 ^ j : Nat) : Int) : Int) = (tsF S w t L (j + 1) : Int) from by rw [show tsF S w t L (j + 1) = tsF S w t L j ||| (mb (w (t j)) ||| 2 ^ j) from if_pos heq]; exact zor_nat (by omega) (by omega)]
          refine ZE.istore_n (ls2 := [(2, h), (0, (L : Int)), (0, (tsF S w t L (j + 1) : Int)), (0, (j : Int))]) d_Smo_takeTurns_38 (Nat.le_of_ble_eq_true rfl) rfl ?_
          refine ZE.aload_n d_Smo_takeTurns_39 rfl ?_
          refine ZE.getE (v := h + 3) d_Smo_takeTurns_40 f_Smo_20 (tg := 2) rfl hK.1 hF1.2.2.1 ?_
          refine ZE.iload_n d_Smo_takeTurns_43 rfl ?_
          refine ZE.dup2 d_Smo_takeTurns_44 (Or.inl rfl) (Or.inr rfl) ?_
          refine ZE.ialdE (v := (t j : Int)) d_Smo_takeTurns_45 hK.2.2.2.2.1.1 (by have hn0 := hK.2.2.2.2.1.2; show 0 ≤ (j : Int) ∧ (j : Int) < gn G (h + 3); omega) (gu j (Nat.le_refl _) (by omega)) ?_
          refine ZE.iconst (n := 1) d_Smo_takeTurns_46 ?_
          refine ZE.iadd d_Smo_takeTurns_47 ?_
          refine ZE.iast d_Smo_takeTurns_48 hK.2.2.2.2.1.1 (by have hn0 := hK.2.2.2.2.1.2; show 0 ≤ (j : Int) ∧ (j : Int) < gn G (h + 3); omega) ?_
          show ZE (d + 2) M_Smo_takeTurns (gw G (up2 A1 (h + 3) (j : Int) ((t j : Int) + 1))) 49 [(2, h), (0, (L : Int)), (0, (tsF S w t L (j + 1) : Int)), (0, (j : Int))] [] _
          refine ZE.iinc (ls2 := [(2, h), (0, (L : Int)), (0, (tsF S w t L (j + 1) : Int)), (0, (j : Int) + 1)]) d_Smo_takeTurns_49 rfl rfl ?_
          refine ZE.goto (tgt := 4) d_Smo_takeTurns_52 rfl ?_
          rw [show (j : Int) + 1 = ((j + 1 : Nat) : Int) by omega]
          refine ih (j + 1) _ (by omega) (fun a ha => ?_) (fun q hq => ?_) (fun q hq hq2 => ?_) (by omega)
          · rw [up2_A, upA_ne _ _ ha]; exact g1 a ha
          · by_cases e : q = j
            · subst e; rw [up2_at]; unfold tnF; rw [if_pos heq]; omega
            · rw [up2_ne _ _ (by omega)]; exact gl q (by omega)
          · rw [up2_ne _ _ (by omega)]; exact gu q (by omega) hq2
  exact L4 _ 0 A (Nat.zero_le _) (fun _ _ => rfl) (fun q h => absurd h (Nat.not_lt_zero _)) (fun q _ h2 => ht q h2) (Nat.lt_succ_self _)
