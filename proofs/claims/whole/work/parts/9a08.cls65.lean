def bsR (A : Int → Int → Int) (y : Int) (B : Nat → Nat → Nat) : Prop := ∀ k j : Nat, k < 7 → j < 7 → A (y + 4) (7 * (k : Int) + (j : Int)) = (B k j : Int) ∧ B k j < 10007
theorem cR_lt {B : Nat → Nat → Nat} {r : Nat → Nat} (hr : ∀ j, j < 7 → r j < 10007) : ∀ k j, j < 7 → cR B r k j < 10007 := by
  intro k
  induction k with
  | zero => exact hr
  | succ k ih =>
    intro j hj
    show (if cR B r k k = 0 then cR B r k j else (cR B r k j * B k k + (100140049 - B k j * cR B r k k)) % 10007) < 10007
    split
    · exact ih j hj
    · exact Nat.mod_lt _ (by omega)
theorem red_mod {a b : Nat} (h : b ≤ 100140049) : ((a : Int) - (b : Int)) % (10007 : Nat) = (((a + (100140049 - b)) % 10007 : Nat) : Int) := by omega
theorem mul_lt7 {a b : Nat} (ha : a < 10007) (hb : b < 10007) : a * b ≤ 100140049 := by
  have : a * b ≤ 10007 * 10007 := Nat.mul_le_mul (by omega) (by omega)
  omega
def cBn (B : Nat → Nat → Nat) (r : Nat → Nat) : Nat → Nat → Nat := if cX B r = -1 then B else fun k j => if (k : Int) = cX B r then cR B r k j else B k j
theorem cSt_s (S i : Nat) : cSt S (i + 1) = (cBn (cSt S i).1 (rk0 S i), if cX (cSt S i).1 (rk0 S i) = -1 then (cSt S i).2 else (cSt S i).2 + 1) := by
  have e : cSt S (i + 1) = if cX (cSt S i).1 (rk0 S i) = -1 then cSt S i else (fun k j => if (k : Int) = cX (cSt S i).1 (rk0 S i) then cR (cSt S i).1 (rk0 S i) k j else (cSt S i).1 k j, (cSt S i).2 + 1) := rfl
  rw [e]
  unfold cBn
  split <;> rfl
set_option maxRecDepth 20000 in
set_option maxHeartbeats 4000000 in
theorem y_basisAt {d : Nat} {G : zG} {A : Int → Int → Int} {P : Option zV → zG → Prop} {y : Int} (hK : yK G y) (hF : yF A y) {k1 j1 : Nat} (hk : k1 < 7) (hj : j1 < 7) (k : P (some (0, A (y + 4) (7 * (k1 : Int) + (j1 : Int)))) (gw G A)) : ZE d M_Ran_basisAt (gw G A) 0 [(2, y), (0, (k1 : Int)), (0, (j1 : Int)), (9, 0)] [] P := by
  refine ZE.iload_n d_Ran_basisAt_0 rfl ?_
  refine ZE.bipush (n := 7) d_Ran_basisAt_1 rfl ?_
  refine ZE.imul d_Ran_basisAt_3 ?_
  refine ZE.iload_n d_Ran_basisAt_4 rfl ?_
  refine ZE.iadd d_Ran_basisAt_5 ?_
  rw [show (((k1 : Int) * 7) + (j1 : Int) : Int) = 7 * (k1 : Int) + (j1 : Int) from (by omega)]
  refine ZE.istore_n (ls2 := [(2, y), (0, (k1 : Int)), (0, (j1 : Int)), (0, 7 * (k1 : Int) + (j1 : Int))]) d_Ran_basisAt_6 (Nat.le_of_ble_eq_true rfl) rfl ?_
  refine ZE.iload_n d_Ran_basisAt_7 rfl ?_
  refine ZE.if_lt (tgt := 29) d_Ran_basisAt_8 rfl (by unfold zR; omega) (fun c8 => ?_) (fun c8 => ?_)
  · exact absurd c8 (by omega)
  · refine ZE.iload_n d_Ran_basisAt_11 rfl ?_
    refine ZE.aload_n d_Ran_basisAt_12 rfl ?_
    refine ZE.getE (v := y + 4) d_Ran_basisAt_13 f_Ran_23 (tg := 2) rfl hK.1 hF.2.2.2.1 ?_
    refine ZE.alenE (v := 49) d_Ran_basisAt_16 (by have hk0 := hK.2.2.2.2.2.1.1; show 1 ≤ gk G (y + 4) ∧ gk G (y + 4) ≤ 6; omega) hK.2.2.2.2.2.1.2 ?_
    refine ZE.icmp_ge (tgt := 29) d_Ran_basisAt_17 rfl (by unfold zR; omega) (by unfold zR; omega) (fun c17 => ?_) (fun c17 => ?_)
    · exact absurd c17 (by omega)
    · refine ZE.aload_n d_Ran_basisAt_20 rfl ?_
      refine ZE.getE (v := y + 4) d_Ran_basisAt_21 f_Ran_23 (tg := 2) rfl hK.1 hF.2.2.2.1 ?_
      refine ZE.iload_n d_Ran_basisAt_24 rfl ?_
      refine ZE.ialdE (v := A (y + 4) (7 * (k1 : Int) + (j1 : Int))) d_Ran_basisAt_25 hK.2.2.2.2.2.1.1 (by have hn0 := hK.2.2.2.2.2.1.2; show 0 ≤ (7 * (k1 : Int) + (j1 : Int)) ∧ (7 * (k1 : Int) + (j1 : Int)) < gn G (y + 4); omega) rfl ?_
      refine ZE.goto (tgt := 30) d_Ran_basisAt_26 rfl ?_
      refine ZE.iret d_Ran_basisAt_30 rfl ?_
      exact k
set_option maxRecDepth 20000 in
set_option maxHeartbeats 4000000 in
theorem y_enters {d : Nat} {G : zG} {A : Int → Int → Int} {P : Option zV → zG → Prop} {y : Int} (hK : yK G y) (hF : yF A y) {B0 : Nat → Nat → Nat} (hB : bsR A y B0) {r : Nat → Nat} (hrl : ∀ j, j < 7 → r j < 10007) (hrw : ∀ q : Nat, q < 7 → A (y + 5) q = (r q : Int)) (k : ∀ C, yQ A C y → (∀ i : Int, C y i = A y i) → bsR C y (cBn B0 r) → P (some (0, b2i (cX B0 r ≠ -1))) (gw G C)) : ZE (d + 1) M_Ran_entersBasis (gw G A) 0 [(2, y), (9, 0), (9, 0), (9, 0), (9, 0), (9, 0)] [] P := by
  have hy0 := hK.2.1
  refine ZE.iconst (n := 0) d_Ran_entersBasis_0 ?_
  refine ZE.istore_n (ls2 := [(2, y), (0, 0), (9, 0), (9, 0), (9, 0), (9, 0)]) d_Ran_entersBasis_1 (Nat.le_of_ble_eq_true rfl) rfl ?_
  have L2 : ∀ (tt0 : Nat) (k0 : Nat) (A1 : Int → Int → Int) (hk : k0 ≤ 7) (gQ1 : yQ A A1 y) (gb41 : A1 (y + 4) = A (y + 4)) (hrow : (∀ q : Nat, q < 7 → A1 (y + 5) q = (cR B0 r k0 q : Int))) (hno : ∀ q : Nat, q < k0 → ¬ cXb B0 r q = true), 8 - k0 < tt0 → ZE (d + 1) M_Ran_entersBasis (gw G A1) 2 [(2, y), (0, (k0 : Int)), (9, 0), (9, 0), (9, 0), (9, 0)] [] P := by
    intro tt0
    induction tt0 with
    | zero => intro k0 A1 hk gQ1 gb41 hrow hno hm; exact absurd hm (Nat.not_lt_zero _)
    | succ tt0 ih =>
      intro k0 A1 hk gQ1 gb41 hrow hno hm
      have hF1 : yF A1 y := hF.ab (gQ1 y (by omega))
      refine ZE.iload_n d_Ran_entersBasis_2 rfl ?_
      refine ZE.aload_n d_Ran_entersBasis_3 rfl ?_
      refine ZE.getE (v := y + 5) d_Ran_entersBasis_4 f_Ran_26 (tg := 2) rfl hK.1 hF1.2.2.2.2 ?_
      refine ZE.alenE (v := 7) d_Ran_entersBasis_7 (by have hk0 := hK.2.2.2.2.2.2.1; show 1 ≤ gk G (y + 5) ∧ gk G (y + 5) ≤ 6; omega) hK.2.2.2.2.2.2.2 ?_
      refine ZE.icmp_ge (tgt := 156) d_Ran_entersBasis_8 rfl (by unfold zR; omega) (by unfold zR; omega) (fun c8 => ?_) (fun c8 => ?_)
      · refine ZE.iconst (n := 0) d_Ran_entersBasis_156 ?_
        refine ZE.zret d_Ran_entersBasis_157 rfl (Or.inl rfl) ?_
        have hk7 : k0 = 7 := by omega
        subst hk7
        have hX : cX B0 r = -1 := fsA_no 7 0 (fun q _ hq => hno q (by omega))
        have k9 := k A1 gQ1 (fun i => congrFun (gQ1 y (by omega)) i) ?_
        · rw [b2i_f (fun z => z hX)] at k9; exact k9
        · unfold cBn
          rw [if_pos hX]
          intro k1 j1 hk1 hj1
          rw [gb41]
          exact hB k1 j1 hk1 hj1
      · refine ZE.aload_n d_Ran_entersBasis_11 rfl ?_
        refine ZE.getE (v := y + 5) d_Ran_entersBasis_12 f_Ran_26 (tg := 2) rfl hK.1 hF1.2.2.2.2 ?_
        refine ZE.iload_n d_Ran_entersBasis_15 rfl ?_
        refine ZE.ialdE (v := (cR B0 r k0 k0 : Int)) d_Ran_entersBasis_16 hK.2.2.2.2.2.2.1 (by have hn0 := hK.2.2.2.2.2.2.2; show 0 ≤ (k0 : Int) ∧ (k0 : Int) < gn G (y + 5); omega) (hrow k0 (by omega)) ?_
        refine ZE.istore_n (ls2 := [(2, y), (0, (k0 : Int)), (0, (cR B0 r k0 k0 : Int)), (9, 0), (9, 0), (9, 0)]) d_Ran_entersBasis_17 (Nat.le_of_ble_eq_true rfl) rfl ?_
        refine ZE.aload_n d_Ran_entersBasis_18 rfl ?_
        refine ZE.iload_n d_Ran_entersBasis_19 rfl ?_
        refine ZE.iload_n d_Ran_entersBasis_20 rfl ?_
        have hbk := hB k0 k0 (by omega) (by omega)
        have hcl := cR_lt (B := B0) hrl k0
        refine ZE.cV [(0, (k0 : Int)), (0, (k0 : Int))] [] [(2, y), (0, (k0 : Int)), (0, (k0 : Int)), (9, 0)] d_Ran_entersBasis_21 l_Ran_71 rfl rfl rfl rfl rfl rfl hK.1 ?_
        refine y_basisAt (d := d) hK hF1 (k1 := k0) (j1 := k0) (by omega) (by omega) ?_
        show ZE (d + 1) M_Ran_entersBasis (gw G A1) 24 [(2, y), (0, (k0 : Int)), (0, (cR B0 r k0 k0 : Int)), (9, 0), (9, 0), (9, 0)] [(0, A1 (y + 4) (7 * (k0 : Int) + (k0 : Int)))] _
        rw [show A1 (y + 4) (7 * (k0 : Int) + (k0 : Int)) = (B0 k0 k0 : Int) from (congrFun gb41 _).trans hbk.1]
        refine ZE.i2l d_Ran_entersBasis_24 (by have := hbk.2; unfold zR; omega) ?_
        refine ZE.lstore_n (ls2 := [(2, y), (0, (k0 : Int)), (0, (cR B0 r k0 k0 : Int)), (1, (B0 k0 k0 : Int)), (9, 0), (9, 0)]) d_Ran_entersBasis_25 (Nat.le_of_ble_eq_true rfl) rfl ?_
        refine ZE.iload_n d_Ran_entersBasis_26 rfl ?_
        refine ZE.if_eq (tgt := 91) d_Ran_entersBasis_27 rfl (by have := hcl k0 (by omega); unfold zR; omega) (fun c27 => ?_) (fun c27 => ?_)
        · have hnx : ¬ cXb B0 r k0 = true := fun z => (of_decide_eq_true z).1 (by omega)
          refine ZE.iconst (n := 0) d_Ran_entersBasis_91 ?_
          refine ZE.istore (ls2 := [(2, y), (0, (k0 : Int)), (0, (cR B0 r k0 k0 : Int)), (1, (B0 k0 k0 : Int)), (9, 0), (0, 0)]) d_Ran_entersBasis_92 (Nat.le_of_ble_eq_true rfl) rfl ?_
          have L94 : ∀ (tt0 : Nat) (j0 : Nat) (A2 : Int → Int → Int) (hj : j0 ≤ 7) (gQ : yQ A A2 y) (gb4 : A2 (y + 4) = A (y + 4)) (hr2 : ∀ q : Nat, q < 7 → A2 (y + 5) q = ((if q < j0 then cR B0 r (k0 + 1) q else cR B0 r k0 q : Nat) : Int)), 8 - j0 < tt0 → ZE (d + 1) M_Ran_entersBasis (gw G A2) 94 [(2, y), (0, (k0 : Int)), (0, (cR B0 r k0 k0 : Int)), (1, (B0 k0 k0 : Int)), (9, 0), (0, (j0 : Int))] [] P := by
            intro tt0
            induction tt0 with
            | zero => intro j0 A2 hj gQ gb4 hr2 hm; exact absurd hm (Nat.not_lt_zero _)
            | succ tt0 ih3 =>
              intro j0 A2 hj gQ gb4 hr2 hm
              have hF2 : yF A2 y := hF.ab (gQ y (by omega))
              have hcq : ∀ q, cR B0 r (k0 + 1) q = if cR B0 r k0 k0 = 0 then cR B0 r k0 q else (cR B0 r k0 q * B0 k0 k0 + (100140049 - B0 k0 q * cR B0 r k0 k0)) % 10007 := fun q => rfl
              refine ZE.iload d_Ran_entersBasis_94 rfl ?_
              refine ZE.aload_n d_Ran_entersBasis_96 rfl ?_
              refine ZE.getE (v := y + 5) d_Ran_entersBasis_97 f_Ran_26 (tg := 2) rfl hK.1 hF2.2.2.2.2 ?_
              refine ZE.alenE (v := 7) d_Ran_entersBasis_100 (by have hk0 := hK.2.2.2.2.2.2.1; show 1 ≤ gk G (y + 5) ∧ gk G (y + 5) ≤ 6; omega) hK.2.2.2.2.2.2.2 ?_
              refine ZE.icmp_ge (tgt := 150) d_Ran_entersBasis_101 rfl (by unfold zR; omega) (by unfold zR; omega) (fun c101 => ?_) (fun c101 => ?_)
              · have hfin : ∀ q : Nat, q < 7 → A2 (y + 5) q = (cR B0 r (k0 + 1) q : Int) := fun q hq => by rw [hr2 q hq, if_pos (by omega)]
                refine ZE.iinc (ls2 := [(2, y), (0, (k0 : Int) + 1), (0, (cR B0 r k0 k0 : Int)), (1, (B0 k0 k0 : Int)), (9, 0), (0, (j0 : Int))]) d_Ran_entersBasis_150 rfl rfl ?_
                refine ZE.goto (tgt := 2) d_Ran_entersBasis_153 rfl ?_
                refine ZE.mask [true, true, false, false, true, false] ?_
                show ZE (d + 1) M_Ran_entersBasis (gw G A2) 2 [(2, y), (0, (k0 : Int) + 1), (9, 0), (9, 0), (9, 0), (9, 0)] [] _
                rw [show (k0 : Int) + 1 = ((k0 + 1 : Nat) : Int) by omega]
                refine ih (k0 + 1) A2 (by omega) gQ gb4 (fun q hq => ?_) (fun q hq => ?_) (by omega)
                · rw [hfin q hq]
                · by_cases e : q = k0
                  · subst e; exact hnx
                  · exact hno q (by omega)
              · refine ZE.iload_n d_Ran_entersBasis_104 rfl ?_
                refine ZE.if_eq (tgt := 150) d_Ran_entersBasis_105 rfl (by have := hcl k0 (by omega); unfold zR; omega) (fun c105 => ?_) (fun c105 => ?_)
                · have hfin : ∀ q : Nat, q < 7 → A2 (y + 5) q = (cR B0 r (k0 + 1) q : Int) := fun q hq => by
                    rw [hr2 q hq, hcq q, if_pos (show cR B0 r k0 k0 = 0 by omega)]
                    split <;> rfl
                  refine ZE.iinc (ls2 := [(2, y), (0, (k0 : Int) + 1), (0, (cR B0 r k0 k0 : Int)), (1, (B0 k0 k0 : Int)), (9, 0), (0, (j0 : Int))]) d_Ran_entersBasis_150 rfl rfl ?_
                  refine ZE.goto (tgt := 2) d_Ran_entersBasis_153 rfl ?_
                  refine ZE.mask [true, true, false, false, true, false] ?_
                  show ZE (d + 1) M_Ran_entersBasis (gw G A2) 2 [(2, y), (0, (k0 : Int) + 1), (9, 0), (9, 0), (9, 0), (9, 0)] [] _
                  rw [show (k0 : Int) + 1 = ((k0 + 1 : Nat) : Int) by omega]
                  refine ih (k0 + 1) A2 (by omega) gQ gb4 (fun q hq => ?_) (fun q hq => ?_) (by omega)
                  · rw [hfin q hq]
                  · by_cases e : q = k0
                    · subst e; exact hnx
                    · exact hno q (by omega)
                · refine ZE.aload_n d_Ran_entersBasis_108 rfl ?_
                  refine ZE.getE (v := y + 5) d_Ran_entersBasis_109 f_Ran_26 (tg := 2) rfl hK.1 hF2.2.2.2.2 ?_
                  refine ZE.iload d_Ran_entersBasis_112 rfl ?_
                  refine ZE.aload_n d_Ran_entersBasis_114 rfl ?_
                  refine ZE.getE (v := y + 5) d_Ran_entersBasis_115 f_Ran_26 (tg := 2) rfl hK.1 hF2.2.2.2.2 ?_
                  refine ZE.iload d_Ran_entersBasis_118 rfl ?_
                  refine ZE.ialdE (v := (cR B0 r k0 j0 : Int)) d_Ran_entersBasis_120 hK.2.2.2.2.2.2.1 (by have hn0 := hK.2.2.2.2.2.2.2; show 0 ≤ (j0 : Int) ∧ (j0 : Int) < gn G (y + 5); omega) ((hr2 j0 (by omega)).trans (by rw [if_neg (Nat.lt_irrefl _)])) ?_
                  refine ZE.i2l d_Ran_entersBasis_121 (by have := hcl j0 (by omega); unfold zR; omega) ?_
                  refine ZE.lload_n d_Ran_entersBasis_122 rfl ?_
                  refine ZE.lmul d_Ran_entersBasis_123 ?_
                  rw [show ((cR B0 r k0 j0 : Int) * (B0 k0 k0 : Int) : Int) = ((cR B0 r k0 j0 * B0 k0 k0 : Nat) : Int) from (Int.natCast_mul _ _).symm]
                  refine ZE.aload_n d_Ran_entersBasis_124 rfl ?_
                  refine ZE.iload_n d_Ran_entersBasis_125 rfl ?_
                  refine ZE.iload d_Ran_entersBasis_126 rfl ?_
                  have hbj := hB k0 j0 (by omega) (by omega)
                  refine ZE.cV [(0, (k0 : Int)), (0, (j0 : Int))] [(1, ((cR B0 r k0 j0 * B0 k0 k0 : Nat) : Int)), (0, (j0 : Int)), (2, y + 5)] [(2, y), (0, (k0 : Int)), (0, (j0 : Int)), (9, 0)] d_Ran_entersBasis_128 l_Ran_71 rfl rfl rfl rfl rfl rfl hK.1 ?_
                  refine y_basisAt (d := d) hK hF2 (k1 := k0) (j1 := j0) (by omega) (by omega) ?_
                  show ZE (d + 1) M_Ran_entersBasis (gw G A2) 131 [(2, y), (0, (k0 : Int)), (0, (cR B0 r k0 k0 : Int)), (1, (B0 k0 k0 : Int)), (9, 0), (0, (j0 : Int))] [(0, A2 (y + 4) (7 * (k0 : Int) + (j0 : Int))), (1, ((cR B0 r k0 j0 * B0 k0 k0 : Nat) : Int)), (0, (j0 : Int)), (2, y + 5)] _
                  rw [show A2 (y + 4) (7 * (k0 : Int) + (j0 : Int)) = (B0 k0 j0 : Int) from (congrFun gb4 _).trans hbj.1]
                  refine ZE.i2l d_Ran_entersBasis_131 (by have := hbj.2; unfold zR; omega) ?_
                  refine ZE.iload_n d_Ran_entersBasis_132 rfl ?_
                  refine ZE.i2l d_Ran_entersBasis_133 (by have := hcl k0 (by omega); unfold zR; omega) ?_
                  refine ZE.lmul d_Ran_entersBasis_134 ?_
                  rw [show ((B0 k0 j0 : Int) * (cR B0 r k0 k0 : Int) : Int) = ((B0 k0 j0 * cR B0 r k0 k0 : Nat) : Int) from (Int.natCast_mul _ _).symm]
                  refine ZE.lsub d_Ran_entersBasis_135 ?_
                  have hz1 := mul_lt7 (hcl j0 (by omega)) hbk.2
                  have hz2 := mul_lt7 hbj.2 (hcl k0 (by omega))
                  refine ZE.ldc2 (v := 10007) d_Ran_entersBasis_136 k_Ran_74 ?_
                  refine ZE.cS [(1, ((cR B0 r k0 j0 * B0 k0 k0 : Nat) : Int) - ((B0 k0 j0 * cR B0 r k0 k0 : Nat) : Int)), (1, 10007)] [(0, (j0 : Int)), (2, y + 5)] [(1, ((cR B0 r k0 j0 * B0 k0 k0 : Nat) : Int) - ((B0 k0 j0 * cR B0 r k0 k0 : Nat) : Int)), (9, 0), (1, 10007), (9, 0), (9, 0), (9, 0)] d_Ran_entersBasis_139 l_Ran_76 rfl rfl rfl rfl rfl rfl ?_
                  refine j_floorModJ (d := d) (m := 10007) (by unfold zR64; omega) (by omega) (by omega) ?_
                  show ZE (d + 1) M_Ran_entersBasis (gw G A2) 142 [(2, y), (0, (k0 : Int)), (0, (cR B0 r k0 k0 : Int)), (1, (B0 k0 k0 : Int)), (9, 0), (0, (j0 : Int))] [(1, (((cR B0 r k0 j0 * B0 k0 k0 : Nat) : Int) - ((B0 k0 j0 * cR B0 r k0 k0 : Nat) : Int)) % ((10007 : Nat) : Int)), (0, (j0 : Int)), (2, y + 5)] _
                  rw [show (((cR B0 r k0 j0 * B0 k0 k0 : Nat) : Int) - ((B0 k0 j0 * cR B0 r k0 k0 : Nat) : Int)) % ((10007 : Nat) : Int) = (cR B0 r (k0 + 1) j0 : Int) from by rw [red_mod hz2, hcq, if_neg (by omega)]]
                  refine ZE.l2i d_Ran_entersBasis_142 ?_
                  refine ZE.iast d_Ran_entersBasis_143 hK.2.2.2.2.2.2.1 (by have hn0 := hK.2.2.2.2.2.2.2; show 0 ≤ (j0 : Int) ∧ (j0 : Int) < gn G (y + 5); omega) ?_
                  show ZE (d + 1) M_Ran_entersBasis (gw G (up2 A2 (y + 5) (j0 : Int) (cR B0 r (k0 + 1) j0 : Int))) 144 [(2, y), (0, (k0 : Int)), (0, (cR B0 r k0 k0 : Int)), (1, (B0 k0 k0 : Int)), (9, 0), (0, (j0 : Int))] [] _
                  refine ZE.iinc (ls2 := [(2, y), (0, (k0 : Int)), (0, (cR B0 r k0 k0 : Int)), (1, (B0 k0 k0 : Int)), (9, 0), (0, (j0 : Int) + 1)]) d_Ran_entersBasis_144 rfl rfl ?_
                  refine ZE.goto (tgt := 94) d_Ran_entersBasis_147 rfl ?_
                  rw [show (j0 : Int) + 1 = ((j0 + 1 : Nat) : Int) by omega]
                  refine ih3 (j0 + 1) _ (by omega) (gQ.tr (yQ.u (by omega))) (by rw [up2_A, upA_ne _ _ (by omega)]; exact gb4) (fun q hq => ?_) (by omega)
                  by_cases e : q = j0
                  · subst e; rw [up2_at, if_pos (Nat.lt_succ_self _)]
                  · rw [up2_ne _ _ (by omega), hr2 q hq]
                    by_cases z : q < j0
                    · rw [if_pos z, if_pos (by omega)]
                    · rw [if_neg z, if_neg (by omega)]
          exact L94 _ 0 A1 (by omega) gQ1 gb41 (fun q hq => by rw [if_neg (Nat.not_lt_zero _)]; exact hrow q hq) (Nat.lt_succ_self _)
        · refine ZE.lload_n d_Ran_entersBasis_30 rfl ?_
          refine ZE.lconst d_Ran_entersBasis_31 ?_
          show ZE (d + 1) M_Ran_entersBasis (gw G A1) 32 [(2, y), (0, (k0 : Int)), (0, (cR B0 r k0 k0 : Int)), (1, (B0 k0 k0 : Int)), (9, 0), (9, 0)] [(1, 0), (1, (B0 k0 k0 : Int))] _
          refine ZE.lcmp d_Ran_entersBasis_32 (by have := hbk.2; unfold zR64; omega) (by unfold zR64; omega) ?_
          refine ZE.if_ne (tgt := 91) d_Ran_entersBasis_33 rfl (zR_zcmp _ _) (fun c33 => ?_) (fun c33 => ?_)
          · replace c33 := (not_congr zcmp_eq).mp c33
            have hnx : ¬ cXb B0 r k0 = true := fun z => by have := (of_decide_eq_true z).2; omega
            refine ZE.iconst (n := 0) d_Ran_entersBasis_91 ?_
            refine ZE.istore (ls2 := [(2, y), (0, (k0 : Int)), (0, (cR B0 r k0 k0 : Int)), (1, (B0 k0 k0 : Int)), (9, 0), (0, 0)]) d_Ran_entersBasis_92 (Nat.le_of_ble_eq_true rfl) rfl ?_
            have L94 : ∀ (tt0 : Nat) (j0 : Nat) (A2 : Int → Int → Int) (hj : j0 ≤ 7) (gQ : yQ A A2 y) (gb4 : A2 (y + 4) = A (y + 4)) (hr2 : ∀ q : Nat, q < 7 → A2 (y + 5) q = ((if q < j0 then cR B0 r (k0 + 1) q else cR B0 r k0 q : Nat) : Int)), 8 - j0 < tt0 → ZE (d + 1) M_Ran_entersBasis (gw G A2) 94 [(2, y), (0, (k0 : Int)), (0, (cR B0 r k0 k0 : Int)), (1, (B0 k0 k0 : Int)), (9, 0), (0, (j0 : Int))] [] P := by
              intro tt0
              induction tt0 with
              | zero => intro j0 A2 hj gQ gb4 hr2 hm; exact absurd hm (Nat.not_lt_zero _)
              | succ tt0 ih3 =>
                intro j0 A2 hj gQ gb4 hr2 hm
                have hF2 : yF A2 y := hF.ab (gQ y (by omega))
                have hcq : ∀ q, cR B0 r (k0 + 1) q = if cR B0 r k0 k0 = 0 then cR B0 r k0 q else (cR B0 r k0 q * B0 k0 k0 + (100140049 - B0 k0 q * cR B0 r k0 k0)) % 10007 := fun q => rfl
                refine ZE.iload d_Ran_entersBasis_94 rfl ?_
                refine ZE.aload_n d_Ran_entersBasis_96 rfl ?_
                refine ZE.getE (v := y + 5) d_Ran_entersBasis_97 f_Ran_26 (tg := 2) rfl hK.1 hF2.2.2.2.2 ?_
                refine ZE.alenE (v := 7) d_Ran_entersBasis_100 (by have hk0 := hK.2.2.2.2.2.2.1; show 1 ≤ gk G (y + 5) ∧ gk G (y + 5) ≤ 6; omega) hK.2.2.2.2.2.2.2 ?_
                refine ZE.icmp_ge (tgt := 150) d_Ran_entersBasis_101 rfl (by unfold zR; omega) (by unfold zR; omega) (fun c101 => ?_) (fun c101 => ?_)
                · have hfin : ∀ q : Nat, q < 7 → A2 (y + 5) q = (cR B0 r (k0 + 1) q : Int) := fun q hq => by rw [hr2 q hq, if_pos (by omega)]
                  refine ZE.iinc (ls2 := [(2, y), (0, (k0 : Int) + 1), (0, (cR B0 r k0 k0 : Int)), (1, (B0 k0 k0 : Int)), (9, 0), (0, (j0 : Int))]) d_Ran_entersBasis_150 rfl rfl ?_
                  refine ZE.goto (tgt := 2) d_Ran_entersBasis_153 rfl ?_
                  refine ZE.mask [true, true, false, false, true, false] ?_
                  show ZE (d + 1) M_Ran_entersBasis (gw G A2) 2 [(2, y), (0, (k0 : Int) + 1), (9, 0), (9, 0), (9, 0), (9, 0)] [] _
                  rw [show (k0 : Int) + 1 = ((k0 + 1 : Nat) : Int) by omega]
                  refine ih (k0 + 1) A2 (by omega) gQ gb4 (fun q hq => ?_) (fun q hq => ?_) (by omega)
                  · rw [hfin q hq]
                  · by_cases e : q = k0
                    · subst e; exact hnx
                    · exact hno q (by omega)
                · refine ZE.iload_n d_Ran_entersBasis_104 rfl ?_
                  refine ZE.if_eq (tgt := 150) d_Ran_entersBasis_105 rfl (by have := hcl k0 (by omega); unfold zR; omega) (fun c105 => ?_) (fun c105 => ?_)
                  · have hfin : ∀ q : Nat, q < 7 → A2 (y + 5) q = (cR B0 r (k0 + 1) q : Int) := fun q hq => by
                      rw [hr2 q hq, hcq q, if_pos (show cR B0 r k0 k0 = 0 by omega)]
                      split <;> rfl
                    refine ZE.iinc (ls2 := [(2, y), (0, (k0 : Int) + 1), (0, (cR B0 r k0 k0 : Int)), (1, (B0 k0 k0 : Int)), (9, 0), (0, (j0 : Int))]) d_Ran_entersBasis_150 rfl rfl ?_
                    refine ZE.goto (tgt := 2) d_Ran_entersBasis_153 rfl ?_
                    refine ZE.mask [true, true, false, false, true, false] ?_
                    show ZE (d + 1) M_Ran_entersBasis (gw G A2) 2 [(2, y), (0, (k0 : Int) + 1), (9, 0), (9, 0), (9, 0), (9, 0)] [] _
                    rw [show (k0 : Int) + 1 = ((k0 + 1 : Nat) : Int) by omega]
                    refine ih (k0 + 1) A2 (by omega) gQ gb4 (fun q hq => ?_) (fun q hq => ?_) (by omega)
                    · rw [hfin q hq]
                    · by_cases e : q = k0
                      · subst e; exact hnx
                      · exact hno q (by omega)
                  · refine ZE.aload_n d_Ran_entersBasis_108 rfl ?_
                    refine ZE.getE (v := y + 5) d_Ran_entersBasis_109 f_Ran_26 (tg := 2) rfl hK.1 hF2.2.2.2.2 ?_
                    refine ZE.iload d_Ran_entersBasis_112 rfl ?_
                    refine ZE.aload_n d_Ran_entersBasis_114 rfl ?_
                    refine ZE.getE (v := y + 5) d_Ran_entersBasis_115 f_Ran_26 (tg := 2) rfl hK.1 hF2.2.2.2.2 ?_
                    refine ZE.iload d_Ran_entersBasis_118 rfl ?_
                    refine ZE.ialdE (v := (cR B0 r k0 j0 : Int)) d_Ran_entersBasis_120 hK.2.2.2.2.2.2.1 (by have hn0 := hK.2.2.2.2.2.2.2; show 0 ≤ (j0 : Int) ∧ (j0 : Int) < gn G (y + 5); omega) ((hr2 j0 (by omega)).trans (by rw [if_neg (Nat.lt_irrefl _)])) ?_
                    refine ZE.i2l d_Ran_entersBasis_121 (by have := hcl j0 (by omega); unfold zR; omega) ?_
                    refine ZE.lload_n d_Ran_entersBasis_122 rfl ?_
                    refine ZE.lmul d_Ran_entersBasis_123 ?_
                    rw [show ((cR B0 r k0 j0 : Int) * (B0 k0 k0 : Int) : Int) = ((cR B0 r k0 j0 * B0 k0 k0 : Nat) : Int) from (Int.natCast_mul _ _).symm]
                    refine ZE.aload_n d_Ran_entersBasis_124 rfl ?_
                    refine ZE.iload_n d_Ran_entersBasis_125 rfl ?_
                    refine ZE.iload d_Ran_entersBasis_126 rfl ?_
                    have hbj := hB k0 j0 (by omega) (by omega)
                    refine ZE.cV [(0, (k0 : Int)), (0, (j0 : Int))] [(1, ((cR B0 r k0 j0 * B0 k0 k0 : Nat) : Int)), (0, (j0 : Int)), (2, y + 5)] [(2, y), (0, (k0 : Int)), (0, (j0 : Int)), (9, 0)] d_Ran_entersBasis_128 l_Ran_71 rfl rfl rfl rfl rfl rfl hK.1 ?_
                    refine y_basisAt (d := d) hK hF2 (k1 := k0) (j1 := j0) (by omega) (by omega) ?_
                    show ZE (d + 1) M_Ran_entersBasis (gw G A2) 131 [(2, y), (0, (k0 : Int)), (0, (cR B0 r k0 k0 : Int)), (1, (B0 k0 k0 : Int)), (9, 0), (0, (j0 : Int))] [(0, A2 (y + 4) (7 * (k0 : Int) + (j0 : Int))), (1, ((cR B0 r k0 j0 * B0 k0 k0 : Nat) : Int)), (0, (j0 : Int)), (2, y + 5)] _
                    rw [show A2 (y + 4) (7 * (k0 : Int) + (j0 : Int)) = (B0 k0 j0 : Int) from (congrFun gb4 _).trans hbj.1]
                    refine ZE.i2l d_Ran_entersBasis_131 (by have := hbj.2; unfold zR; omega) ?_
                    refine ZE.iload_n d_Ran_entersBasis_132 rfl ?_
                    refine ZE.i2l d_Ran_entersBasis_133 (by have := hcl k0 (by omega); unfold zR; omega) ?_
                    refine ZE.lmul d_Ran_entersBasis_134 ?_
                    rw [show ((B0 k0 j0 : Int) * (cR B0 r k0 k0 : Int) : Int) = ((B0 k0 j0 * cR B0 r k0 k0 : Nat) : Int) from (Int.natCast_mul _ _).symm]
                    refine ZE.lsub d_Ran_entersBasis_135 ?_
                    have hz1 := mul_lt7 (hcl j0 (by omega)) hbk.2
                    have hz2 := mul_lt7 hbj.2 (hcl k0 (by omega))
                    refine ZE.ldc2 (v := 10007) d_Ran_entersBasis_136 k_Ran_74 ?_
                    refine ZE.cS [(1, ((cR B0 r k0 j0 * B0 k0 k0 : Nat) : Int) - ((B0 k0 j0 * cR B0 r k0 k0 : Nat) : Int)), (1, 10007)] [(0, (j0 : Int)), (2, y + 5)] [(1, ((cR B0 r k0 j0 * B0 k0 k0 : Nat) : Int) - ((B0 k0 j0 * cR B0 r k0 k0 : Nat) : Int)), (9, 0), (1, 10007), (9, 0), (9, 0), (9, 0)] d_Ran_entersBasis_139 l_Ran_76 rfl rfl rfl rfl rfl rfl ?_
                    refine j_floorModJ (d := d) (m := 10007) (by unfold zR64; omega) (by omega) (by omega) ?_
                    show ZE (d + 1) M_Ran_entersBasis (gw G A2) 142 [(2, y), (0, (k0 : Int)), (0, (cR B0 r k0 k0 : Int)), (1, (B0 k0 k0 : Int)), (9, 0), (0, (j0 : Int))] [(1, (((cR B0 r k0 j0 * B0 k0 k0 : Nat) : Int) - ((B0 k0 j0 * cR B0 r k0 k0 : Nat) : Int)) % ((10007 : Nat) : Int)), (0, (j0 : Int)), (2, y + 5)] _
                    rw [show (((cR B0 r k0 j0 * B0 k0 k0 : Nat) : Int) - ((B0 k0 j0 * cR B0 r k0 k0 : Nat) : Int)) % ((10007 : Nat) : Int) = (cR B0 r (k0 + 1) j0 : Int) from by rw [red_mod hz2, hcq, if_neg (by omega)]]
                    refine ZE.l2i d_Ran_entersBasis_142 ?_
                    refine ZE.iast d_Ran_entersBasis_143 hK.2.2.2.2.2.2.1 (by have hn0 := hK.2.2.2.2.2.2.2; show 0 ≤ (j0 : Int) ∧ (j0 : Int) < gn G (y + 5); omega) ?_
                    show ZE (d + 1) M_Ran_entersBasis (gw G (up2 A2 (y + 5) (j0 : Int) (cR B0 r (k0 + 1) j0 : Int))) 144 [(2, y), (0, (k0 : Int)), (0, (cR B0 r k0 k0 : Int)), (1, (B0 k0 k0 : Int)), (9, 0), (0, (j0 : Int))] [] _
                    refine ZE.iinc (ls2 := [(2, y), (0, (k0 : Int)), (0, (cR B0 r k0 k0 : Int)), (1, (B0 k0 k0 : Int)), (9, 0), (0, (j0 : Int) + 1)]) d_Ran_entersBasis_144 rfl rfl ?_
                    refine ZE.goto (tgt := 94) d_Ran_entersBasis_147 rfl ?_
                    rw [show (j0 : Int) + 1 = ((j0 + 1 : Nat) : Int) by omega]
                    refine ih3 (j0 + 1) _ (by omega) (gQ.tr (yQ.u (by omega))) (by rw [up2_A, upA_ne _ _ (by omega)]; exact gb4) (fun q hq => ?_) (by omega)
                    by_cases e : q = j0
                    · subst e; rw [up2_at, if_pos (Nat.lt_succ_self _)]
                    · rw [up2_ne _ _ (by omega), hr2 q hq]
                      by_cases z : q < j0
                      · rw [if_pos z, if_pos (by omega)]
                      · rw [if_neg z, if_neg (by omega)]
            exact L94 _ 0 A1 (by omega) gQ1 gb41 (fun q hq => by rw [if_neg (Nat.not_lt_zero _)]; exact hrow q hq) (Nat.lt_succ_self _)
          · replace c33 := zcmp_eq.mp c33
            refine ZE.iconst (n := 0) d_Ran_entersBasis_36 ?_
            refine ZE.istore (ls2 := [(2, y), (0, (k0 : Int)), (0, (cR B0 r k0 k0 : Int)), (1, (B0 k0 k0 : Int)), (9, 0), (0, 0)]) d_Ran_entersBasis_37 (Nat.le_of_ble_eq_true rfl) rfl ?_
            have L39 : ∀ (tt0 : Nat) (j0 : Nat) (A2 : Int → Int → Int) (hj : j0 ≤ 7) (gQ : yQ A A2 y) (hr2 : (∀ q : Nat, q < 7 → A2 (y + 5) q = (cR B0 r k0 q : Int))) (hf2 : ∀ i : Int, A2 y i = A y i) (hb2 : ∀ q : Int, (q < 7 * (k0 : Int) ∨ 7 * (k0 : Int) + 7 ≤ q) → True → A2 (y + 4) q = A (y + 4) q) (hn2 : ∀ q : Nat, q < j0 → A2 (y + 4) (7 * (k0 : Int) + (q : Int)) = (cR B0 r k0 q : Int)), 8 - j0 < tt0 → ZE (d + 1) M_Ran_entersBasis (gw G A2) 39 [(2, y), (0, (k0 : Int)), (0, (cR B0 r k0 k0 : Int)), (1, (B0 k0 k0 : Int)), (9, 0), (0, (j0 : Int))] [] P := by
              intro tt0
              induction tt0 with
              | zero => intro j0 A2 hj gQ hr2 hf2 hb2 hn2 hm; exact absurd hm (Nat.not_lt_zero _)
              | succ tt0 ih2 =>
                intro j0 A2 hj gQ hr2 hf2 hb2 hn2 hm
                have hF2 : yF A2 y := hF.ab (funext hf2)
                refine ZE.iload d_Ran_entersBasis_39 rfl ?_
                refine ZE.aload_n d_Ran_entersBasis_41 rfl ?_
                refine ZE.getE (v := y + 5) d_Ran_entersBasis_42 f_Ran_26 (tg := 2) rfl hK.1 hF2.2.2.2.2 ?_
                refine ZE.alenE (v := 7) d_Ran_entersBasis_45 (by have hk0 := hK.2.2.2.2.2.2.1; show 1 ≤ gk G (y + 5) ∧ gk G (y + 5) ≤ 6; omega) hK.2.2.2.2.2.2.2 ?_
                refine ZE.icmp_ge (tgt := 89) d_Ran_entersBasis_46 rfl (by unfold zR; omega) (by unfold zR; omega) (fun c46 => ?_) (fun c46 => ?_)
                · refine ZE.iconst (n := 1) d_Ran_entersBasis_89 ?_
                  refine ZE.zret d_Ran_entersBasis_90 rfl (Or.inr rfl) ?_
                  have hj7 : j0 = 7 := by omega
                  subst hj7
                  have hX : cX B0 r = (k0 : Int) := fsA_eq 7 0 (decide_eq_true ⟨by omega, by omega⟩) (Nat.zero_le _) (by omega) (fun q _ hq => hno q hq)
                  have k9 := k A2 gQ hf2 (fun k1 j1 hk1 hj1 => ?_)
                  · rw [b2i_t (by omega)] at k9; exact k9
                  · unfold cBn
                    rw [hX, if_neg (by omega)]
                    show _ = ((if (k1 : Int) = (k0 : Int) then cR B0 r k1 j1 else B0 k1 j1 : Nat) : Int) ∧ (if (k1 : Int) = (k0 : Int) then cR B0 r k1 j1 else B0 k1 j1) < 10007
                    by_cases e : k1 = k0
                    · subst e
                      rw [if_pos rfl]
                      exact ⟨hn2 j1 hj1, hcl j1 hj1⟩
                    · rw [if_neg (by omega), hb2 _ (by omega) trivial]
                      exact hB k1 j1 hk1 hj1
                · refine ZE.iload_n d_Ran_entersBasis_49 rfl ?_
                  refine ZE.bipush (n := 7) d_Ran_entersBasis_50 rfl ?_
                  refine ZE.imul d_Ran_entersBasis_52 ?_
                  refine ZE.iload d_Ran_entersBasis_53 rfl ?_
                  refine ZE.iadd d_Ran_entersBasis_55 ?_
                  refine ZE.aload_n d_Ran_entersBasis_56 rfl ?_
                  refine ZE.getE (v := y + 4) d_Ran_entersBasis_57 f_Ran_23 (tg := 2) rfl hK.1 hF2.2.2.2.1 ?_
                  refine ZE.alenE (v := 49) d_Ran_entersBasis_60 (by have hk0 := hK.2.2.2.2.2.1.1; show 1 ≤ gk G (y + 4) ∧ gk G (y + 4) ≤ 6; omega) hK.2.2.2.2.2.1.2 ?_
                  refine ZE.icmp_ge (tgt := 89) d_Ran_entersBasis_61 rfl (by unfold zR; omega) (by unfold zR; omega) (fun c61 => ?_) (fun c61 => ?_)
                  · exact absurd c61 (by omega)
                  · refine ZE.aload_n d_Ran_entersBasis_64 rfl ?_
                    refine ZE.getE (v := y + 4) d_Ran_entersBasis_65 f_Ran_23 (tg := 2) rfl hK.1 hF2.2.2.2.1 ?_
                    refine ZE.iload_n d_Ran_entersBasis_68 rfl ?_
                    refine ZE.bipush (n := 7) d_Ran_entersBasis_69 rfl ?_
                    refine ZE.imul d_Ran_entersBasis_71 ?_
                    refine ZE.iload d_Ran_entersBasis_72 rfl ?_
                    refine ZE.iadd d_Ran_entersBasis_74 ?_
                    rw [show (((k0 : Int) * 7) + (j0 : Int) : Int) = 7 * (k0 : Int) + (j0 : Int) from (by omega)]
                    refine ZE.aload_n d_Ran_entersBasis_75 rfl ?_
                    refine ZE.getE (v := y + 5) d_Ran_entersBasis_76 f_Ran_26 (tg := 2) rfl hK.1 hF2.2.2.2.2 ?_
                    refine ZE.iload d_Ran_entersBasis_79 rfl ?_
                    refine ZE.ialdE (v := (cR B0 r k0 j0 : Int)) d_Ran_entersBasis_81 hK.2.2.2.2.2.2.1 (by have hn0 := hK.2.2.2.2.2.2.2; show 0 ≤ (j0 : Int) ∧ (j0 : Int) < gn G (y + 5); omega) (hr2 j0 (by omega)) ?_
                    refine ZE.iast d_Ran_entersBasis_82 hK.2.2.2.2.2.1.1 (by have hn0 := hK.2.2.2.2.2.1.2; show 0 ≤ (7 * (k0 : Int) + (j0 : Int)) ∧ (7 * (k0 : Int) + (j0 : Int)) < gn G (y + 4); omega) ?_
                    show ZE (d + 1) M_Ran_entersBasis (gw G (up2 A2 (y + 4) (7 * (k0 : Int) + (j0 : Int)) (cR B0 r k0 j0 : Int))) 83 [(2, y), (0, (k0 : Int)), (0, (cR B0 r k0 k0 : Int)), (1, (B0 k0 k0 : Int)), (9, 0), (0, (j0 : Int))] [] _
                    refine ZE.iinc (ls2 := [(2, y), (0, (k0 : Int)), (0, (cR B0 r k0 k0 : Int)), (1, (B0 k0 k0 : Int)), (9, 0), (0, (j0 : Int) + 1)]) d_Ran_entersBasis_83 rfl rfl ?_
                    refine ZE.goto (tgt := 39) d_Ran_entersBasis_86 rfl ?_
                    rw [show (j0 : Int) + 1 = ((j0 + 1 : Nat) : Int) by omega]
                    refine ih2 (j0 + 1) _ (by omega) ((gQ.tr (yQ.u (by omega)))) (fun q hq => ?_) (fun q => ?_) (fun q hq1 hq2 => ?_) (fun q hq => ?_) (by omega)
                    · rw [up2_ne _ _ (by omega)]; exact hr2 q hq
                    · rw [up2_ne _ _ (by omega)]; exact hf2 q
                    · rw [up2_ne _ _ (by omega)]; exact hb2 q hq1 (by omega)
                    · by_cases e : q = j0
                      · subst e; exact up2_at _ _ _ _
                      · rw [up2_ne _ _ (by omega)]; exact hn2 q (by omega)
            exact L39 _ 0 A1 (by omega) gQ1 hrow (fun i => congrFun (gQ1 y (by omega)) i) (fun q _ _ => congrFun gb41 q) (fun q h => absurd h (Nat.not_lt_zero _)) (Nat.lt_succ_self _)
  exact L2 _ 0 A (by omega) yQ.rf rfl hrw (fun q h => absurd h (Nat.not_lt_zero _)) (Nat.lt_succ_self _)
set_option maxRecDepth 20000 in
set_option maxHeartbeats 4000000 in
theorem y_rankOf {d : Nat} {G : zG} {A : Int → Int → Int} {P : Option zV → zG → Prop} {y : Int} (hK : yK G y) (hF : yF A y) {s E0 : Int} {S : Nat} (hR : sR G A s E0 1 S) (hys : y + 5 < s ∨ s + 45 < y) (hyE : y + 5 < E0) {mm : Nat} (hmm : mm ≤ (prs S).length) (k : ∀ B, yQ A B y → P (some (0, ((cSt S mm).2 : Int))) (gw G B)) : ZE (d + 2) M_Ran_rankOf (gw G A) 0 [(2, y), (2, s), (0, (mm : Int)), (9, 0), (9, 0), (9, 0), (9, 0)] [] P := by
  have hy0 := hK.2.1
  have hs0 := hR.K.2.1
  have hL64 := hR.l64
  have hpl : (prL 1 S).length = (prs S).length := by rw [prL_1 hR.s7 hR.p5]
  refine ZE.aload_n d_Ran_rankOf_0 rfl ?_
  refine ZE.getE (v := y + 4) d_Ran_rankOf_1 f_Ran_23 (tg := 2) rfl hK.1 hF.2.2.2.1 ?_
  refine ZE.iconst (n := 0) d_Ran_rankOf_4 ?_
  refine ZE.cS [(2, y + 4), (0, 0)] [] [(2, y + 4), (0, 0), (9, 0), (9, 0)] d_Ran_rankOf_5 l_Ran_43 rfl rfl rfl rfl rfl rfl ?_
  refine j_fill (d := d + 1) hK.2.2.2.2.2.1.1 hK.2.2.2.2.2.1.2 (len := 49) (by omega) (x1 := 0) (fun Ab g0 f0 => ?_)
  show ZE (d + 2) M_Ran_rankOf (gw G Ab) 8 [(2, y), (2, s), (0, (mm : Int)), (9, 0), (9, 0), (9, 0), (9, 0)] [] _
  have gAb : yQ A Ab y := fun a ha => g0 a (by omega)
  have hbb : bsR Ab y (cSt S 0).1 := fun k j hk hj => ⟨by have := f0 (7 * k + j) (by omega); rw [show ((7 * k + j : Nat) : Int) = 7 * (k : Int) + (j : Int) by omega] at this; exact this, by show (0 : Nat) < 10007; omega⟩
  refine ZE.iconst (n := 0) d_Ran_rankOf_8 ?_
  refine ZE.istore_n (ls2 := [(2, y), (2, s), (0, (mm : Int)), (0, 0), (9, 0), (9, 0), (9, 0)]) d_Ran_rankOf_9 (Nat.le_of_ble_eq_true rfl) rfl ?_
  refine ZE.iconst (n := 0) d_Ran_rankOf_10 ?_
  refine ZE.istore (ls2 := [(2, y), (2, s), (0, (mm : Int)), (0, 0), (0, 0), (9, 0), (9, 0)]) d_Ran_rankOf_11 (Nat.le_of_ble_eq_true rfl) rfl ?_
  have L13 : ∀ (tt0 : Nat) (i0 : Nat) (A1 : Int → Int → Int) (hi : i0 ≤ mm) (hq1 : yQ A A1 y) (hb1 : bsR A1 y (cSt S i0).1), mm + 1 - i0 < tt0 → ZE (d + 2) M_Ran_rankOf (gw G A1) 13 [(2, y), (2, s), (0, (mm : Int)), (0, ((cSt S i0).2 : Int)), (0, (i0 : Int)), (9, 0), (9, 0)] [] P := by
    intro tt0
    induction tt0 with
    | zero => intro i0 A1 hi hq1 hb1 hm; exact absurd hm (Nat.not_lt_zero _)
    | succ tt0 ih =>
      intro i0 A1 hi hq1 hb1 hm
      have hF1 : yF A1 y := hF.ab (hq1 y (by omega))
      have hR1 : sR G A1 s E0 1 S := hR.ab (fun a ha => hq1 a (by omega))
      refine ZE.iload d_Ran_rankOf_13 rfl ?_
      refine ZE.iload_n d_Ran_rankOf_15 rfl ?_
      refine ZE.icmp_ge (tgt := 104) d_Ran_rankOf_16 rfl (by unfold zR; omega) (by unfold zR; omega) (fun c16 => ?_) (fun c16 => ?_)
      · refine ZE.iload_n d_Ran_rankOf_104 rfl ?_
        refine ZE.iret d_Ran_rankOf_105 rfl ?_
        have hie : i0 = mm := by omega
        subst hie
        exact k A1 hq1
      · refine ZE.iload d_Ran_rankOf_19 rfl ?_
        refine ZE.aload_n d_Ran_rankOf_21 rfl ?_
        refine ZE.getE (v := ((prL 1 S).length : Int)) d_Ran_rankOf_22 f_Ran_29 (tg := 0) rfl hR.K.1 hR1.n12 ?_
        refine ZE.icmp_ge (tgt := 104) d_Ran_rankOf_25 rfl (by unfold zR; omega) (by unfold zR; omega) (fun c25 => ?_) (fun c25 => ?_)
        · exact absurd c25 (by omega)
        · refine ZE.aload_n d_Ran_rankOf_28 rfl ?_
          refine ZE.iload d_Ran_rankOf_29 rfl ?_
          have hc1 := hR.cp (k := i0) (by omega)
          have hvk := hR.v (k := i0) (by omega)
          have hE9 := hR.E
          refine ZE.cV [(0, (i0 : Int))] [] [(2, s), (0, (i0 : Int)), (9, 0)] d_Ran_rankOf_31 l_Ran_49 rfl rfl rfl rfl rfl rfl hR.K.1 ?_
          refine s_coupleAt (d := d + 1) hR1.K hR1.F hR1.n12 hL64 (k1 := i0) (by omega) (v1 := A (s + 30) (i0 : Int)) (congrFun (hq1 _ (by omega)) _) (by omega) ?_
          show ZE (d + 2) M_Ran_rankOf (gw G A1) 34 [(2, y), (2, s), (0, (mm : Int)), (0, ((cSt S i0).2 : Int)), (0, (i0 : Int)), (9, 0), (9, 0)] [(2, A (s + 30) (i0 : Int))] _
          refine ZE.astore (ls2 := [(2, y), (2, s), (0, (mm : Int)), (0, ((cSt S i0).2 : Int)), (0, (i0 : Int)), (2, A (s + 30) (i0 : Int)), (9, 0)]) d_Ran_rankOf_34 (Nat.le_of_ble_eq_true rfl) rfl ?_
          refine ZE.iconst (n := 0) d_Ran_rankOf_36 ?_
          refine ZE.istore (ls2 := [(2, y), (2, s), (0, (mm : Int)), (0, ((cSt S i0).2 : Int)), (0, (i0 : Int)), (2, A (s + 30) (i0 : Int)), (0, 0)]) d_Ran_rankOf_37 (Nat.le_of_ble_eq_true rfl) rfl ?_
          have L39 : ∀ (tt0 : Nat) (j0 : Nat) (A2 : Int → Int → Int) (hj : j0 ≤ 7) (hq2 : yQ A1 A2 y) (hb4 : A2 (y + 4) = A1 (y + 4)) (hrw : ∀ q : Nat, q < j0 → A2 (y + 5) q = (rk0 S i0 q : Int)), 8 - j0 < tt0 → ZE (d + 2) M_Ran_rankOf (gw G A2) 39 [(2, y), (2, s), (0, (mm : Int)), (0, ((cSt S i0).2 : Int)), (0, (i0 : Int)), (2, A (s + 30) (i0 : Int)), (0, (j0 : Int))] [] P := by
            intro tt0
            induction tt0 with
            | zero => intro j0 A2 hj hq2 hb4 hrw hm; exact absurd hm (Nat.not_lt_zero _)
            | succ tt0 ih2 =>
              intro j0 A2 hj hq2 hb4 hrw hm
              have hF2 : yF A2 y := hF1.ab (hq2 y (by omega))
              have hR2 : sR G A2 s E0 1 S := hR1.ab (fun a ha => hq2 a (by omega))
              have hc2 : cP G A2 (A (s + 30) (i0 : Int)) (nN 1 S i0) (nIx 1 S i0) 1 := ⟨hc1.2.2.1.1, hc1.2.2.1.2.ab (fun i _ => congrFun ((hq2 _ (by omega)).trans (hq1 _ (by omega))) i) (fun a ha hb => (hq2 a (by omega)).trans (hq1 a (by omega)))⟩
              refine ZE.iload d_Ran_rankOf_39 rfl ?_
              refine ZE.aload_n d_Ran_rankOf_41 rfl ?_
              refine ZE.getE (v := y + 5) d_Ran_rankOf_42 f_Ran_26 (tg := 2) rfl hK.1 hF2.2.2.2.2 ?_
              refine ZE.alenE (v := 7) d_Ran_rankOf_45 (by have hk0 := hK.2.2.2.2.2.2.1; show 1 ≤ gk G (y + 5) ∧ gk G (y + 5) ≤ 6; omega) hK.2.2.2.2.2.2.2 ?_
              refine ZE.icmp_ge (tgt := 83) d_Ran_rankOf_46 rfl (by unfold zR; omega) (by unfold zR; omega) (fun c46 => ?_) (fun c46 => ?_)
              · have hj7 : j0 = 7 := by omega
                subst hj7
                refine ZE.iload_n d_Ran_rankOf_83 rfl ?_
                refine ZE.aload_n d_Ran_rankOf_84 rfl ?_
                refine ZE.cV [] [(0, ((cSt S i0).2 : Int))] [(2, y), (9, 0), (9, 0), (9, 0), (9, 0), (9, 0)] d_Ran_rankOf_85 l_Ran_67 rfl rfl rfl rfl rfl rfl hK.1 ?_
                refine y_enters (d := d) hK hF2 (B0 := (cSt S i0).1) (by intro q1 q2 h1 h2; rw [hb4]; exact hb1 q1 q2 h1 h2) (r := rk0 S i0) (fun j _ => Nat.mod_lt _ (by omega)) hrw (fun C gC fC hbC0 => ?_)
                show ZE (d + 2) M_Ran_rankOf (gw G C) 88 [(2, y), (2, s), (0, (mm : Int)), (0, ((cSt S i0).2 : Int)), (0, (i0 : Int)), (2, A (s + 30) (i0 : Int)), (0, ((7 : Nat) : Int))] [(0, b2i (cX (cSt S i0).1 (rk0 S i0) ≠ -1)), (0, ((cSt S i0).2 : Int))] _
                have hbC : bsR C y (cSt S (i0 + 1)).1 := by rw [cSt_s]; exact hbC0
                refine ZE.if_eq (tgt := 95) d_Ran_rankOf_88 rfl (zR_b2i _) (fun c88 => ?_) (fun c88 => ?_)
                · replace c88 := b2i_0.mp c88
                  refine ZE.iconst (n := 0) d_Ran_rankOf_95 ?_
                  refine ZE.iadd d_Ran_rankOf_96 ?_
                  rw [show (((cSt S i0).2 : Int) + 0 : Int) = ((cSt S (i0 + 1)).2 : Int) from (by rw [cSt_s]; show _ = ((if cX (cSt S i0).1 (rk0 S i0) = -1 then (cSt S i0).2 else (cSt S i0).2 + 1 : Nat) : Int); rw [if_pos (Classical.not_not.mp c88)]; omega)]
                  refine ZE.istore_n (ls2 := [(2, y), (2, s), (0, (mm : Int)), (0, ((cSt S (i0 + 1)).2 : Int)), (0, (i0 : Int)), (2, A (s + 30) (i0 : Int)), (0, ((7 : Nat) : Int))]) d_Ran_rankOf_97 (Nat.le_of_ble_eq_true rfl) rfl ?_
                  refine ZE.iinc (ls2 := [(2, y), (2, s), (0, (mm : Int)), (0, ((cSt S (i0 + 1)).2 : Int)), (0, (i0 : Int) + 1), (2, A (s + 30) (i0 : Int)), (0, ((7 : Nat) : Int))]) d_Ran_rankOf_98 rfl rfl ?_
                  refine ZE.goto (tgt := 13) d_Ran_rankOf_101 rfl ?_
                  refine ZE.mask [true, true, true, true, true, false, false] ?_
                  show ZE (d + 2) M_Ran_rankOf (gw G C) 13 [(2, y), (2, s), (0, (mm : Int)), (0, ((cSt S (i0 + 1)).2 : Int)), (0, (i0 : Int) + 1), (9, 0), (9, 0)] [] _
                  rw [show (i0 : Int) + 1 = ((i0 + 1 : Nat) : Int) by omega]
                  exact ih (i0 + 1) C (by omega) (hq1.tr (hq2.tr gC)) hbC (by omega)
                · replace c88 := b2i_n0.mp c88
                  refine ZE.iconst (n := 1) d_Ran_rankOf_91 ?_
                  refine ZE.goto (tgt := 96) d_Ran_rankOf_92 rfl ?_
                  refine ZE.iadd d_Ran_rankOf_96 ?_
                  rw [show (((cSt S i0).2 : Int) + 1 : Int) = ((cSt S (i0 + 1)).2 : Int) from (by rw [cSt_s]; show _ = ((if cX (cSt S i0).1 (rk0 S i0) = -1 then (cSt S i0).2 else (cSt S i0).2 + 1 : Nat) : Int); rw [if_neg c88]; omega)]
                  refine ZE.istore_n (ls2 := [(2, y), (2, s), (0, (mm : Int)), (0, ((cSt S (i0 + 1)).2 : Int)), (0, (i0 : Int)), (2, A (s + 30) (i0 : Int)), (0, ((7 : Nat) : Int))]) d_Ran_rankOf_97 (Nat.le_of_ble_eq_true rfl) rfl ?_
                  refine ZE.iinc (ls2 := [(2, y), (2, s), (0, (mm : Int)), (0, ((cSt S (i0 + 1)).2 : Int)), (0, (i0 : Int) + 1), (2, A (s + 30) (i0 : Int)), (0, ((7 : Nat) : Int))]) d_Ran_rankOf_98 rfl rfl ?_
                  refine ZE.goto (tgt := 13) d_Ran_rankOf_101 rfl ?_
                  refine ZE.mask [true, true, true, true, true, false, false] ?_
                  show ZE (d + 2) M_Ran_rankOf (gw G C) 13 [(2, y), (2, s), (0, (mm : Int)), (0, ((cSt S (i0 + 1)).2 : Int)), (0, (i0 : Int) + 1), (9, 0), (9, 0)] [] _
                  rw [show (i0 : Int) + 1 = ((i0 + 1 : Nat) : Int) by omega]
                  exact ih (i0 + 1) C (by omega) (hq1.tr (hq2.tr gC)) hbC (by omega)
              · refine ZE.aload_n d_Ran_rankOf_49 rfl ?_
                refine ZE.getE (v := y + 5) d_Ran_rankOf_50 f_Ran_26 (tg := 2) rfl hK.1 hF2.2.2.2.2 ?_
                refine ZE.iload d_Ran_rankOf_53 rfl ?_
                refine ZE.aload d_Ran_rankOf_55 rfl ?_
                refine ZE.iload d_Ran_rankOf_57 rfl ?_
                refine ZE.cV [(0, (j0 : Int))] [(0, (j0 : Int)), (2, y + 5)] [(2, A (s + 30) (i0 : Int)), (0, (j0 : Int))] d_Ran_rankOf_59 l_Ran_53 rfl rfl rfl rfl rfl rfl hc1.2.2.1.1.1 ?_
                refine c_highPower (d := d + 1) hc2.1 hc2.2 (k0 := j0) (by omega) ?_
                show ZE (d + 2) M_Ran_rankOf (gw G A2) 62 [(2, y), (2, s), (0, (mm : Int)), (0, ((cSt S i0).2 : Int)), (0, (i0 : Int)), (2, A (s + 30) (i0 : Int)), (0, (j0 : Int))] [(0, (vp (sev j0) (nN 1 S i0 + 1) : Int)), (0, (j0 : Int)), (2, y + 5)] _
                refine ZE.aload d_Ran_rankOf_62 rfl ?_
                refine ZE.iload d_Ran_rankOf_64 rfl ?_
                refine ZE.cV [(0, (j0 : Int))] [(0, (vp (sev j0) (nN 1 S i0 + 1) : Int)), (0, (j0 : Int)), (2, y + 5)] [(2, A (s + 30) (i0 : Int)), (0, (j0 : Int))] d_Ran_rankOf_66 l_Ran_59 rfl rfl rfl rfl rfl rfl hc1.2.2.1.1.1 ?_
                refine c_lowPower (d := d + 1) hc2.1 hc2.2 (k0 := j0) (by omega) ?_
                show ZE (d + 2) M_Ran_rankOf (gw G A2) 69 [(2, y), (2, s), (0, (mm : Int)), (0, ((cSt S i0).2 : Int)), (0, (i0 : Int)), (2, A (s + 30) (i0 : Int)), (0, (j0 : Int))] [(0, (vp (sev j0) (nN 1 S i0) : Int)), (0, (vp (sev j0) (nN 1 S i0 + 1) : Int)), (0, (j0 : Int)), (2, y + 5)] _
                refine ZE.isub d_Ran_rankOf_69 ?_
                refine ZE.sipush (n := 10007) d_Ran_rankOf_70 rfl ?_
                have hx1 := vp_1000 (p := sev j0) (n := nN 1 S i0) (Nat.lt_of_lt_of_le (show nN 1 S i0 < 2 ^ 30 by omega) (Nat.pow_le_pow_right (by omega) (by omega)))
                have hx2 := vp_1000 (p := sev j0) (n := nN 1 S i0 + 1) (Nat.lt_of_lt_of_le (show nN 1 S i0 + 1 < 2 ^ 30 by omega) (Nat.pow_le_pow_right (by omega) (by omega)))
                refine ZE.cS [(0, (vp (sev j0) (nN 1 S i0 + 1) : Int) - (vp (sev j0) (nN 1 S i0) : Int)), (0, 10007)] [(0, (j0 : Int)), (2, y + 5)] [(0, (vp (sev j0) (nN 1 S i0 + 1) : Int) - (vp (sev j0) (nN 1 S i0) : Int)), (0, 10007), (9, 0)] d_Ran_rankOf_73 l_Ran_62 rfl rfl rfl rfl rfl rfl ?_
                refine j_floorModI (d := d + 1) (m := 10007) (by unfold zR; omega) (by omega) (by omega) ?_
                show ZE (d + 2) M_Ran_rankOf (gw G A2) 76 [(2, y), (2, s), (0, (mm : Int)), (0, ((cSt S i0).2 : Int)), (0, (i0 : Int)), (2, A (s + 30) (i0 : Int)), (0, (j0 : Int))] [(0, ((vp (sev j0) (nN 1 S i0 + 1) : Int) - (vp (sev j0) (nN 1 S i0) : Int)) % ((10007 : Nat) : Int)), (0, (j0 : Int)), (2, y + 5)] _
                rw [show ((vp (sev j0) (nN 1 S i0 + 1) : Int) - (vp (sev j0) (nN 1 S i0) : Int)) % ((10007 : Nat) : Int) = (rk0 S i0 j0 : Int) from by unfold rk0; rw [← nN_1 hR.s7 hR.p5]; omega]
                refine ZE.iast d_Ran_rankOf_76 hK.2.2.2.2.2.2.1 (by have hn0 := hK.2.2.2.2.2.2.2; show 0 ≤ (j0 : Int) ∧ (j0 : Int) < gn G (y + 5); omega) ?_
                show ZE (d + 2) M_Ran_rankOf (gw G (up2 A2 (y + 5) (j0 : Int) (rk0 S i0 j0 : Int))) 77 [(2, y), (2, s), (0, (mm : Int)), (0, ((cSt S i0).2 : Int)), (0, (i0 : Int)), (2, A (s + 30) (i0 : Int)), (0, (j0 : Int))] [] _
                refine ZE.iinc (ls2 := [(2, y), (2, s), (0, (mm : Int)), (0, ((cSt S i0).2 : Int)), (0, (i0 : Int)), (2, A (s + 30) (i0 : Int)), (0, (j0 : Int) + 1)]) d_Ran_rankOf_77 rfl rfl ?_
                refine ZE.goto (tgt := 39) d_Ran_rankOf_80 rfl ?_
                rw [show (j0 : Int) + 1 = ((j0 + 1 : Nat) : Int) by omega]
                refine ih2 (j0 + 1) _ (by omega) (hq2.tr (yQ.u (by omega))) (by rw [up2_A, upA_ne _ _ (by omega)]; exact hb4) (fun q hq => ?_) (by omega)
                by_cases e : q = j0
                · subst e; exact up2_at _ _ _ _
                · rw [up2_ne _ _ (by omega)]; exact hrw q (by omega)
          exact L39 _ 0 A1 (by omega) yQ.rf rfl (fun q h => absurd h (Nat.not_lt_zero _)) (Nat.lt_succ_self _)
  exact L13 _ 0 Ab (by omega) gAb hbb (Nat.lt_succ_self _)
