/-! units -/
def hfp (D r R : Nat) : Nat := (ns D r (R - 1)).1
def hfr (D r R : Nat) : Nat := (ns D r (R - 1)).2.2.1
def unx (D r R : Nat) : Nat := if R % 2 = 1 then hfp D r R * hfp D r R * 2 + 1 else hfp D r R
def uny (D r R : Nat) : Nat := if R % 2 = 1 then hfp D r R * hfr D r R * 2 + 0 else hfr D r R
/-- all numbers of a class are short enough -/
def NSok (D r R : Nat) : Prop := (∀ j, j < R → nd 10000 (ns D r j).1 ≤ 50 ∧ nd 10000 (ns D r j).2.1 ≤ 50 ∧ nd 10000 (ns D r j).2.2.1 ≤ 50 ∧ nd 10000 (ns D r j).2.2.2 ≤ 50) ∧ nd 10000 (hfp D r R * hfp D r R) ≤ 110 ∧ nd 10000 (hfp D r R * hfr D r R) ≤ 110 ∧ nd 10000 (unx D r R) ≤ 110 ∧ nd 10000 (uny D r R) ≤ 110
def slc (c : Int) : Int → Prop := fun n => n = 2 * c ∨ n = 2 * c + 1 ∨ (126 ≤ n ∧ n ≤ 130)
theorem root_uni {D r s : Nat} (h1 : r * r ≤ D) (h2 : D < (r + 1) * (r + 1)) (h3 : s * s ≤ D) (h4 : D < (s + 1) * (s + 1)) : r = s := by
  rcases Nat.lt_trichotomy r s with q | q | q
  · have := Nat.mul_le_mul (show r + 1 ≤ s by omega) (show r + 1 ≤ s by omega)
    omega
  · exact q
  · have := Nat.mul_le_mul (show s + 1 ≤ r by omega) (show s + 1 ≤ r by omega)
    omega
set_option maxRecDepth 20000 in
set_option maxHeartbeats 4000000 in
theorem r_layUnit {d : Nat} {G : zG} {A : Int → Int → Int} {P : Option zV → zG → Prop} {o : Int} (hK : RK G o) (hF : RF A o) {c : Int} (hc : 0 ≤ c ∧ c < 63) {q D r R K : Nat} (hq : A (o + 3) c = q) (hD : (c < 32 ∧ D = 2 * q) ∨ (32 ≤ c ∧ D = q)) (hr : A (o + 4) c = r) (hcf : CFok D r R K) (hR : A (o + 5) c = R) (hns : NSok D r R) (k : ∀ A2, num (A2 (o + 2)) (2 * c) (unx D r R) → num (A2 (o + 2)) (2 * c + 1) (uny D r R) → bigF (slc c) A A2 o → P none (gw G A2)) : ZE (d + 4) M_Ref_layUnit (gw G A) 0 [(2, o), (0, c), (9, 0), (9, 0)] [] P := by
  have hR1 := hcf.2.1
  have hRb := hcf.2.2.2.2.2.1
  refine ZE.iconst (n := 2) d_Ref_layUnit_0 ?_
  refine ZE.iload_n d_Ref_layUnit_1 rfl ?_
  refine ZE.imul d_Ref_layUnit_2 ?_
  refine ZE.istore_n (ls2 := [(2, o), (0, c), (0, 2 * c), (9, 0)]) d_Ref_layUnit_3 (Nat.le_of_ble_eq_true rfl) rfl ?_
  refine ZE.iconst (n := 2) d_Ref_layUnit_4 ?_
  refine ZE.iload_n d_Ref_layUnit_5 rfl ?_
  refine ZE.imul d_Ref_layUnit_6 ?_
  refine ZE.iconst (n := 1) d_Ref_layUnit_7 ?_
  refine ZE.iadd d_Ref_layUnit_8 ?_
  refine ZE.istore_n (ls2 := [(2, o), (0, c), (0, 2 * c), (0, (2 * c) + 1)]) d_Ref_layUnit_9 (Nat.le_of_ble_eq_true rfl) rfl ?_
  refine ZE.aload_n d_Ref_layUnit_10 rfl ?_
  refine ZE.iload_n d_Ref_layUnit_11 rfl ?_
  refine ZE.iload_n d_Ref_layUnit_12 rfl ?_
  refine ZE.iload_n d_Ref_layUnit_13 rfl ?_
  refine ZE.cV [(0, c), (0, 2 * c), (0, (2 * c) + 1)] [] [(2, o), (0, c), (0, 2 * c), (0, (2 * c) + 1), (9, 0)] d_Ref_layUnit_14 l_Ref_156 rfl rfl rfl rfl rfl rfl hK.1 ?_
  refine r_layNearing (sx := 2 * c) (sy := 2 * c + 1) hK hF hc hq hD hr hcf hR (by omega) (by omega) (by omega) (fun j hj => by have := hns.1 j hj; omega) (fun A2 p1 p2 g2 => ?_)
  show ZE (d + 4) M_Ref_layUnit (gw G A2) 17 [(2, o), (0, c), (0, 2 * c), (0, (2 * c) + 1)] [] _
  have hA2 : RF A2 o := hF.big g2
  have g2s : bigF (slc c) A A2 o := g2.sub (fun n q => by unfold slc; omega)
  refine ZE.aload_n d_Ref_layUnit_17 rfl ?_
  refine ZE.iload_n d_Ref_layUnit_18 rfl ?_
  refine ZE.cV [(0, c)] [] [(2, o), (0, c)] d_Ref_layUnit_19 l_Ref_160 rfl rfl rfl rfl rfl rfl hK.1 ?_
  refine r_isNegative (R := R) hK hA2 hc (by rw [g2.1 _ (by omega) (by omega)]; exact hR) (by omega) ?_
  show ZE (d + 4) M_Ref_layUnit (gw G A2) 22 [(2, o), (0, c), (0, 2 * c), (0, (2 * c) + 1)] [(0, b2i (R % 2 = 1))] _
  refine ZE.if_ne (tgt := 26) d_Ref_layUnit_22 rfl (zR_b2i _) (fun c22 => ?_) (fun c22 => ?_)
  · replace c22 := b2i_n0.mp c22
    refine ZE.aload_n d_Ref_layUnit_26 rfl ?_
    refine ZE.iload_n d_Ref_layUnit_27 rfl ?_
    refine ZE.iload_n d_Ref_layUnit_28 rfl ?_
    refine ZE.bipush (n := 126) d_Ref_layUnit_29 rfl ?_
    refine ZE.cV [(0, 2 * c), (0, (2 * c) + 1), (0, 126)] [] [(2, o), (0, 2 * c), (0, (2 * c) + 1), (0, 126), (9, 0), (9, 0), (9, 0), (9, 0), (9, 0), (9, 0)] d_Ref_layUnit_31 l_Ref_164 rfl rfl rfl rfl rfl rfl hK.1 ?_
    refine r_product (n := 2 * c) (m := (2 * c) + 1) (t0 := 126) (v := (hfp D r R)) (w := (hfr D r R)) hK hA2 (by omega) (by omega) (by omega) (by omega) (by omega) p1 p2 (by have := hns.1 (R - 1) (by omega); unfold hfp hfr; omega) (fun f1 hn1 ho1 => ?_)
    show ZE (d + 4) M_Ref_layUnit (gw G (upA A2 (o + 2) f1)) 34 [(2, o), (0, c), (0, 2 * c), (0, (2 * c) + 1)] [] _
    have m1_1 := ho1.num (m := 2 * c) (by omega) (by have h9 : nd 10000 (hfp D r R) ≤ 127 := (by have := (hns.1 (R - 1) (by omega)).1; exact Nat.le_trans this (by decide)); exact Nat.le_trans h9 (by decide)) p1
    have m1_2 := ho1.num (m := (2 * c) + 1) (by omega) (by have h9 : nd 10000 (hfr D r R) ≤ 127 := (by have := (hns.1 (R - 1) (by omega)).2.2.1; exact Nat.le_trans this (by decide)); exact Nat.le_trans h9 (by decide)) p2
    have fr1 := rowF.step (rowF.rf (sl := (slc c))) ho1 (by unfold slc; omega)
    refine ZE.aload_n d_Ref_layUnit_34 rfl ?_
    refine ZE.iload_n d_Ref_layUnit_35 rfl ?_
    refine ZE.iload_n d_Ref_layUnit_36 rfl ?_
    refine ZE.bipush (n := 127) d_Ref_layUnit_37 rfl ?_
    refine ZE.cV [(0, 2 * c), (0, 2 * c), (0, 127)] [] [(2, o), (0, 2 * c), (0, 2 * c), (0, 127), (9, 0), (9, 0), (9, 0), (9, 0), (9, 0), (9, 0)] d_Ref_layUnit_39 l_Ref_164 rfl rfl rfl rfl rfl rfl hK.1 ?_
    refine r_product (n := 2 * c) (m := 2 * c) (t0 := 127) (v := (hfp D r R)) (w := (hfp D r R)) hK (hA2.uA (by omega)) (by omega) (by omega) (by omega) (by omega) (by omega) (by rw [upA_at]; exact m1_1) (by rw [upA_at]; exact m1_1) (by have := (hns.1 (R - 1) (by omega)).1; unfold hfp; omega) (fun f2 hn2 ho2 => ?_)
    show ZE (d + 4) M_Ref_layUnit (gw G (upA (upA A2 (o + 2) f1) (o + 2) f2)) 42 [(2, o), (0, c), (0, 2 * c), (0, (2 * c) + 1)] [] _
    rw [upA_upA]
    rw [upA_at] at ho2
    have m2_1 := ho2.num (m := 2 * c) (by omega) (by have h9 : nd 10000 (hfp D r R) ≤ 127 := (by have := (hns.1 (R - 1) (by omega)).1; exact Nat.le_trans this (by decide)); exact Nat.le_trans h9 (by decide)) m1_1
    have m2_2 := ho2.num (m := (2 * c) + 1) (by omega) (by have h9 : nd 10000 (hfr D r R) ≤ 127 := (by have := (hns.1 (R - 1) (by omega)).2.2.1; exact Nat.le_trans this (by decide)); exact Nat.le_trans h9 (by decide)) m1_2
    have m2_3 := ho2.num (m := 126) (by omega) (by have h9 : nd 10000 (hfp D r R * hfr D r R) ≤ 127 := (Nat.le_trans hns.2.2.1 (by decide)); exact Nat.le_trans h9 (by decide)) hn1
    have fr2 := rowF.step fr1 ho2 (by unfold slc; omega)
    refine ZE.aload_n d_Ref_layUnit_42 rfl ?_
    refine ZE.sipush (n := 128) d_Ref_layUnit_43 rfl ?_
    refine ZE.iconst (n := 1) d_Ref_layUnit_46 ?_
    refine ZE.cV [(0, 128), (0, 1)] [] [(2, o), (0, 128), (0, 1), (9, 0), (9, 0)] d_Ref_layUnit_47 l_Ref_69 rfl rfl rfl rfl rfl rfl hK.1 ?_
    refine r_setSmall (n := 128) (v := 1) hK (hA2.uA (by omega)) (by omega) (by omega) (fun f3 hn3 ho3 => ?_)
    show ZE (d + 4) M_Ref_layUnit (gw G (upA (upA A2 (o + 2) f2) (o + 2) f3)) 50 [(2, o), (0, c), (0, 2 * c), (0, (2 * c) + 1)] [] _
    rw [upA_upA]
    rw [upA_at] at ho3
    have m3_1 := ho3.num (m := 2 * c) (by omega) (by have h9 : nd 10000 (hfp D r R) ≤ 127 := (by have := (hns.1 (R - 1) (by omega)).1; exact Nat.le_trans this (by decide)); exact Nat.le_trans h9 (by decide)) m2_1
    have m3_2 := ho3.num (m := (2 * c) + 1) (by omega) (by have h9 : nd 10000 (hfr D r R) ≤ 127 := (by have := (hns.1 (R - 1) (by omega)).2.2.1; exact Nat.le_trans this (by decide)); exact Nat.le_trans h9 (by decide)) m2_2
    have m3_3 := ho3.num (m := 126) (by omega) (by have h9 : nd 10000 (hfp D r R * hfr D r R) ≤ 127 := (Nat.le_trans hns.2.2.1 (by decide)); exact Nat.le_trans h9 (by decide)) m2_3
    have m3_4 := ho3.num (m := 127) (by omega) (by have h9 : nd 10000 (hfp D r R * hfp D r R) ≤ 127 := (Nat.le_trans hns.2.1 (by decide)); exact Nat.le_trans h9 (by decide)) hn2
    have fr3 := rowF.step fr2 ho3 (by unfold slc; omega)
    refine ZE.aload_n d_Ref_layUnit_50 rfl ?_
    refine ZE.sipush (n := 129) d_Ref_layUnit_51 rfl ?_
    refine ZE.iconst (n := 0) d_Ref_layUnit_54 ?_
    refine ZE.cV [(0, 129), (0, 0)] [] [(2, o), (0, 129), (0, 0), (9, 0), (9, 0)] d_Ref_layUnit_55 l_Ref_69 rfl rfl rfl rfl rfl rfl hK.1 ?_
    refine r_setSmall (n := 129) (v := 0) hK (hA2.uA (by omega)) (by omega) (by omega) (fun f4 hn4 ho4 => ?_)
    show ZE (d + 4) M_Ref_layUnit (gw G (upA (upA A2 (o + 2) f3) (o + 2) f4)) 58 [(2, o), (0, c), (0, 2 * c), (0, (2 * c) + 1)] [] _
    rw [upA_upA]
    rw [upA_at] at ho4
    have m4_1 := ho4.num (m := 2 * c) (by omega) (by have h9 : nd 10000 (hfp D r R) ≤ 127 := (by have := (hns.1 (R - 1) (by omega)).1; exact Nat.le_trans this (by decide)); exact Nat.le_trans h9 (by decide)) m3_1
    have m4_2 := ho4.num (m := (2 * c) + 1) (by omega) (by have h9 : nd 10000 (hfr D r R) ≤ 127 := (by have := (hns.1 (R - 1) (by omega)).2.2.1; exact Nat.le_trans this (by decide)); exact Nat.le_trans h9 (by decide)) m3_2
    have m4_3 := ho4.num (m := 126) (by omega) (by have h9 : nd 10000 (hfp D r R * hfr D r R) ≤ 127 := (Nat.le_trans hns.2.2.1 (by decide)); exact Nat.le_trans h9 (by decide)) m3_3
    have m4_4 := ho4.num (m := 127) (by omega) (by have h9 : nd 10000 (hfp D r R * hfp D r R) ≤ 127 := (Nat.le_trans hns.2.1 (by decide)); exact Nat.le_trans h9 (by decide)) m3_4
    have m4_5 := ho4.num (m := 128) (by omega) (by have h9 : nd 10000 1 ≤ 127 := (nd_le (by omega) (by omega)); exact Nat.le_trans h9 (by decide)) hn3
    have fr4 := rowF.step fr3 ho4 (by unfold slc; omega)
    refine ZE.aload_n d_Ref_layUnit_58 rfl ?_
    refine ZE.bipush (n := 127) d_Ref_layUnit_59 rfl ?_
    refine ZE.iconst (n := 2) d_Ref_layUnit_61 ?_
    refine ZE.sipush (n := 128) d_Ref_layUnit_62 rfl ?_
    refine ZE.iload_n d_Ref_layUnit_65 rfl ?_
    refine ZE.cV [(0, 127), (0, 2), (0, 128), (0, 2 * c)] [] [(2, o), (0, 127), (0, 2), (0, 128), (0, 2 * c), (9, 0), (9, 0), (9, 0), (9, 0)] d_Ref_layUnit_66 l_Ref_149 rfl rfl rfl rfl rfl rfl hK.1 ?_
    refine r_times (n := 127) (m := 128) (t0 := 2 * c) (v := hfp D r R * hfp D r R) (w := 1) (y := 2) hK (hA2.uA (by omega)) (by omega) (by omega) (by omega) (by omega) (by omega) (by omega) (by rw [upA_at]; exact m4_4) (by rw [upA_at]; exact m4_5) (by have h9 : nd 10000 (hfp D r R * hfp D r R) ≤ 127 := (Nat.le_trans hns.2.1 (by decide)); omega) (by have h9 : nd 10000 1 ≤ 127 := (nd_le (by omega) (by omega)); omega) (fun f5 hn5 ho5 => ?_)
    show ZE (d + 4) M_Ref_layUnit (gw G (upA (upA A2 (o + 2) f4) (o + 2) f5)) 69 [(2, o), (0, c), (0, 2 * c), (0, (2 * c) + 1)] [] _
    rw [upA_upA]
    rw [upA_at] at ho5
    have m5_1 := ho5.num (m := (2 * c) + 1) (by omega) (by have h9 : nd 10000 (hfr D r R) ≤ 127 := (by have := (hns.1 (R - 1) (by omega)).2.2.1; exact Nat.le_trans this (by decide)); exact Nat.le_trans h9 (by decide)) m4_2
    have m5_2 := ho5.num (m := 126) (by omega) (by have h9 : nd 10000 (hfp D r R * hfr D r R) ≤ 127 := (Nat.le_trans hns.2.2.1 (by decide)); exact Nat.le_trans h9 (by decide)) m4_3
    have m5_3 := ho5.num (m := 127) (by omega) (by have h9 : nd 10000 (hfp D r R * hfp D r R) ≤ 127 := (Nat.le_trans hns.2.1 (by decide)); exact Nat.le_trans h9 (by decide)) m4_4
    have m5_4 := ho5.num (m := 128) (by omega) (by have h9 : nd 10000 1 ≤ 127 := (nd_le (by omega) (by omega)); exact Nat.le_trans h9 (by decide)) m4_5
    have m5_5 := ho5.num (m := 129) (by omega) (by have h9 : nd 10000 0 ≤ 127 := (nd_le (by omega) (by omega)); exact Nat.le_trans h9 (by decide)) hn4
    have fr5 := rowF.step fr4 ho5 (by unfold slc; omega)
    refine ZE.aload_n d_Ref_layUnit_69 rfl ?_
    refine ZE.bipush (n := 126) d_Ref_layUnit_70 rfl ?_
    refine ZE.iconst (n := 2) d_Ref_layUnit_72 ?_
    refine ZE.sipush (n := 129) d_Ref_layUnit_73 rfl ?_
    refine ZE.iload_n d_Ref_layUnit_76 rfl ?_
    refine ZE.cV [(0, 126), (0, 2), (0, 129), (0, (2 * c) + 1)] [] [(2, o), (0, 126), (0, 2), (0, 129), (0, (2 * c) + 1), (9, 0), (9, 0), (9, 0), (9, 0)] d_Ref_layUnit_77 l_Ref_149 rfl rfl rfl rfl rfl rfl hK.1 ?_
    refine r_times (n := 126) (m := 129) (t0 := (2 * c) + 1) (v := hfp D r R * hfr D r R) (w := 0) (y := 2) hK (hA2.uA (by omega)) (by omega) (by omega) (by omega) (by omega) (by omega) (by omega) (by rw [upA_at]; exact m5_2) (by rw [upA_at]; exact m5_5) (by have h9 : nd 10000 (hfp D r R * hfr D r R) ≤ 127 := (Nat.le_trans hns.2.2.1 (by decide)); omega) (by have h9 : nd 10000 0 ≤ 127 := (nd_le (by omega) (by omega)); omega) (fun f6 hn6 ho6 => ?_)
    show ZE (d + 4) M_Ref_layUnit (gw G (upA (upA A2 (o + 2) f5) (o + 2) f6)) 80 [(2, o), (0, c), (0, 2 * c), (0, (2 * c) + 1)] [] _
    rw [upA_upA]
    rw [upA_at] at ho6
    have m6_1 := ho6.num (m := 126) (by omega) (by have h9 : nd 10000 (hfp D r R * hfr D r R) ≤ 127 := (Nat.le_trans hns.2.2.1 (by decide)); exact Nat.le_trans h9 (by decide)) m5_2
    have m6_2 := ho6.num (m := 127) (by omega) (by have h9 : nd 10000 (hfp D r R * hfp D r R) ≤ 127 := (Nat.le_trans hns.2.1 (by decide)); exact Nat.le_trans h9 (by decide)) m5_3
    have m6_3 := ho6.num (m := 128) (by omega) (by have h9 : nd 10000 1 ≤ 127 := (nd_le (by omega) (by omega)); exact Nat.le_trans h9 (by decide)) m5_4
    have m6_4 := ho6.num (m := 129) (by omega) (by have h9 : nd 10000 0 ≤ 127 := (nd_le (by omega) (by omega)); exact Nat.le_trans h9 (by decide)) m5_5
    have m6_5 := ho6.num (m := 2 * c) (by omega) (by have h9 : nd 10000 (hfp D r R * hfp D r R * 2 + 1) ≤ 127 := (by have := hns.2.2.2.1; rw [show unx D r R = _ from if_pos c22] at this; exact Nat.le_trans this (by decide)); exact Nat.le_trans h9 (by decide)) hn5
    have fr6 := rowF.step fr5 ho6 (by unfold slc; omega)
    refine ZE.vret d_Ref_layUnit_80 rfl ?_
    refine k _ ?_ ?_ (g2s.tr fr6.big)
    · rw [upA_at, show unx D r R = _ from if_pos c22]; exact m6_5
    · rw [upA_at, show uny D r R = _ from if_pos c22]; exact hn6
  · replace c22 := b2i_0.mp c22
    refine ZE.vret d_Ref_layUnit_25 rfl ?_
    refine k A2 ?_ ?_ g2s
    · rw [show unx D r R = _ from if_neg c22]; exact p1
    · rw [show uny D r R = _ from if_neg c22]; exact p2
/-- all but a class's numbers, and those that are lent, is as it was -/
def clF (c : Int) (A A' : Int → Int → Int) (o : Int) : Prop := (∀ b : Int, b ≠ o → b ≠ o + 2 → b ≠ o + 4 → b ≠ o + 5 → A' b = A b) ∧ (∀ i : Int, ¬ (9 ≤ i ∧ i ≤ 11) → A' o i = A o i) ∧ (∀ i : Int, i ≠ c → A' (o + 4) i = A (o + 4) i ∧ A' (o + 5) i = A (o + 5) i) ∧ rowF (slc c) (A (o + 2)) (A' (o + 2))
theorem clF.rf {c : Int} {A : Int → Int → Int} {o : Int} : clF c A A o := ⟨fun _ _ _ _ _ => rfl, fun _ _ => rfl, fun _ _ => ⟨rfl, rfl⟩, rowF.rf⟩
theorem clF.tr {c : Int} {A B C : Int → Int → Int} {o : Int} (a : clF c A B o) (b : clF c B C o) : clF c A C o := ⟨fun e h1 h2 h3 h4 => (b.1 e h1 h2 h3 h4).trans (a.1 e h1 h2 h3 h4), fun i h => (b.2.1 i h).trans (a.2.1 i h), fun i h => ⟨(b.2.2.1 i h).1.trans (a.2.2.1 i h).1, (b.2.2.1 i h).2.trans (a.2.2.1 i h).2⟩, a.2.2.2.tr b.2.2.2⟩
theorem bigF.cl {c : Int} {A B : Int → Int → Int} {o : Int} (a : bigF (slc c) A B o) : clF c A B o := ⟨fun b h1 h2 _ _ => a.1 b h1 h2, a.2.1, fun i _ => ⟨by rw [a.1 _ (by omega) (by omega)], by rw [a.1 _ (by omega) (by omega)]⟩, a.2.2⟩
theorem clF.up {c : Int} {A B : Int → Int → Int} {o r v : Int} (a : clF c A B o) (hr : r = o + 4 ∨ r = o + 5) : clF c A (up2 B r c v) o := by
  refine ⟨fun b h1 h2 h3 h4 => ?_, fun i h => ?_, fun i h => ⟨?_, ?_⟩, ?_⟩
  · rw [up2_A, upA_ne _ _ (by omega)]; exact a.1 b h1 h2 h3 h4
  · rw [up2_ne _ _ (fun q => by omega)]; exact a.2.1 i h
  · rw [up2_ne _ _ (fun q => h q.2)]; exact (a.2.2.1 i h).1
  · rw [up2_ne _ _ (fun q => h q.2)]; exact (a.2.2.1 i h).2
  · rw [up2_A, upA_ne _ _ (by omega)]; exact a.2.2.2
theorem RF.cl {c : Int} {A A' : Int → Int → Int} {o : Int} (h : RF A o) (g : clF c A A' o) : RF A' o := by
  have e0 : ∀ j : Int, ¬ (9 ≤ j ∧ j ≤ 11) → A' o j = A o j := g.2.1
  have e1 : A' (o + 1) = A (o + 1) := g.1 _ (by omega) (by omega) (by omega) (by omega)
  unfold RF
  rw [e1]
  refine ⟨(e0 _ (by omega)).trans h.a0, (e0 _ (by omega)).trans h.a2, (e0 _ (by omega)).trans h.a3, (e0 _ (by omega)).trans h.a4, (e0 _ (by omega)).trans h.a5, (e0 _ (by omega)).trans h.a6, (e0 _ (by omega)).trans h.a12, (e0 _ (by omega)).trans h.a13, (e0 _ (by omega)).trans h.a14, (e0 _ (by omega)).trans h.a16, (e0 _ (by omega)).trans h.a17, (e0 _ (by omega)).trans h.a18, (e0 _ (by omega)).trans h.a22, (e0 _ (by omega)).trans h.a23, (e0 _ (by omega)).trans h.a24, (e0 _ (by omega)).trans h.a25, (e0 _ (by omega)).trans h.a26, (e0 _ (by omega)).trans h.a27, (e0 _ (by omega)).trans h.a30, h.sev⟩
set_option maxRecDepth 20000 in
set_option maxHeartbeats 4000000 in
theorem r_layClass {d : Nat} {G : zG} {A : Int → Int → Int} {P : Option zV → zG → Prop} {o : Int} (hK : RK G o) (hF : RF A o) {c : Int} (hc : 0 ≤ c ∧ c < 63) {q D r R K : Nat} (hq : A (o + 3) c = q) (hD : (c < 32 ∧ D = 2 * q) ∨ (32 ≤ c ∧ D = q)) (hrt : r * r ≤ D ∧ D < (r + 1) * (r + 1)) (hcf : CFok D r R K) (hns : NSok D r R) (k : ∀ A2, A2 (o + 4) c = (r : Int) → A2 (o + 5) c = (R : Int) → num (A2 (o + 2)) (2 * c) (unx D r R) → num (A2 (o + 2)) (2 * c + 1) (uny D r R) → clF c A A2 o → P none (gw G A2)) : ZE (d + 5) M_Ref_layClass (gw G A) 0 [(2, o), (0, c)] [] P := by
  refine ZE.aload_n d_Ref_layClass_0 rfl ?_
  refine ZE.getE (v := o + 4) d_Ref_layClass_1 f_Ref_19 (tg := 2) rfl hK.1 hF.a4 ?_
  refine ZE.iload_n d_Ref_layClass_4 rfl ?_
  refine ZE.aload_n d_Ref_layClass_5 rfl ?_
  refine ZE.iload_n d_Ref_layClass_6 rfl ?_
  refine ZE.cV [(0, c)] [(0, c), (2, o + 4)] [(2, o), (0, c)] d_Ref_layClass_7 l_Ref_128 rfl rfl rfl rfl rfl rfl hK.1 ?_
  refine r_dOf (q := q) (D := D) hK hF hc hq hD ?_
  show ZE (d + 5) M_Ref_layClass (gw G A) 10 [(2, o), (0, c)] [(0, (D : Int)), (0, c), (2, o + 4)] _
  refine ZE.cS [(0, (D : Int))] [(0, c), (2, o + 4)] [(0, (D : Int)), (9, 0), (9, 0), (9, 0)] d_Ref_layClass_10 l_Ref_143 rfl rfl rfl rfl rfl rfl ?_
  refine r_rootIn (v := D) (by have := hcf.2.2.2.2.2.2.1; omega) (fun r1 hr1 hr2 => ?_)
  show ZE (d + 5) M_Ref_layClass (gw G A) 13 [(2, o), (0, c)] [(0, (r1 : Int)), (0, c), (2, o + 4)] _
  have er : r1 = r := root_uni hr1 hr2 hrt.1 hrt.2
  rw [er]
  refine ZE.iast d_Ref_layClass_13 hK.k4 (by have hn0 := hK.n4; show 0 ≤ c ∧ c < gn G (o + 4); omega) ?_
  show ZE (d + 5) M_Ref_layClass (gw G (up2 A (o + 4) c (r : Int))) 14 [(2, o), (0, c)] [] _
  refine ZE.aload_n d_Ref_layClass_14 rfl ?_
  refine ZE.getE (v := o + 5) d_Ref_layClass_15 f_Ref_22 (tg := 2) rfl hK.1 (hF.u2 (by omega)).a5 ?_
  refine ZE.iload_n d_Ref_layClass_18 rfl ?_
  refine ZE.iconst (n := 0) d_Ref_layClass_19 ?_
  refine ZE.iast d_Ref_layClass_20 hK.k5 (by have hn0 := hK.n5; show 0 ≤ c ∧ c < gn G (o + 5); omega) ?_
  show ZE (d + 5) M_Ref_layClass (gw G (up2 (up2 A (o + 4) c (r : Int)) (o + 5) c 0)) 21 [(2, o), (0, c)] [] _
  refine ZE.aload_n d_Ref_layClass_21 rfl ?_
  refine ZE.iload_n d_Ref_layClass_22 rfl ?_
  refine ZE.cV [(0, c)] [] [(2, o), (0, c)] d_Ref_layClass_23 l_Ref_131 rfl rfl rfl rfl rfl rfl hK.1 ?_
  refine r_begin (r := r) hK ((hF.u2 (by omega)).u2 (by omega)) hc (by first | (rw [up2_ne _ _ (by omega)]; exact up2_at _ _ _ _) | exact (up2_ne _ _ (by omega)).trans (by rw [upA_at]; exact up1_at _ _ _)) (fun A2 hsA2 hgA2 => ?_)
  show ZE (d + 5) M_Ref_layClass (gw G A2) 26 [(2, o), (0, c)] [] _
  have L26 : ∀ (t : Nat) (j : Nat) (A1 : Int → Int → Int) (hj : j ≤ R) (s1 : goS A1 o (cf D r j)) (g1 : clF c A A1 o) (hj5 : A1 (o + 5) c = (j : Int)) (hr1 : A1 (o + 4) c = (r : Int)), R - j < t → ZE (d + 5) M_Ref_layClass (gw G A1) 26 [(2, o), (0, c)] [] P := by
    intro t
    induction t with
    | zero => intro j A1 hj s1 g1 hj5 hr1 hm; exact absurd hm (Nat.not_lt_zero _)
    | succ t ih =>
      intro j A1 hj s1 g1 hj5 hr1 hm
      have hA1 : RF A1 o := hF.cl g1
      have hRK := hcf.2.2.2.2.1
      have hRb := hcf.2.2.2.2.2.1
      have hca := hcf.a (k := j) (by omega)
      refine ZE.aload_n d_Ref_layClass_26 rfl ?_
      refine ZE.getE (v := o + 5) d_Ref_layClass_27 f_Ref_22 (tg := 2) rfl hK.1 hA1.a5 ?_
      refine ZE.iload_n d_Ref_layClass_30 rfl ?_
      refine ZE.ialdE (v := (j : Int)) d_Ref_layClass_31 hK.k5 (by have hn0 := hK.n5; show 0 ≤ c ∧ c < gn G (o + 5); omega) hj5 ?_
      refine ZE.if_eq (tgt := 43) d_Ref_layClass_32 rfl (by unfold zR; omega) (fun c32 => ?_) (fun c32 => ?_)
      · have hgo : j ≠ R := by have := hcf.2.1; omega
        refine ZE.aload_n d_Ref_layClass_43 rfl ?_
        refine ZE.iload_n d_Ref_layClass_44 rfl ?_
        refine ZE.cV [(0, c)] [] [(2, o), (0, c)] d_Ref_layClass_45 l_Ref_134 rfl rfl rfl rfl rfl rfl hK.1 ?_
        refine r_go (D := D) (r := r) (s := cf D r j) (q := q) hK hA1 hc (by rw [g1.1 _ (by omega) (by omega) (by omega) (by omega)]; exact hq) hD hr1 s1 (hcf.1 _ (by omega)) (by have := hcf.2.2.2.2.2.2.1; omega) (by have := hcf.2.2.2.2.2.2.2; omega) (fun A3 hsA3 hgA3 => ?_)
        show ZE (d + 5) M_Ref_layClass (gw G A3) 48 [(2, o), (0, c)] [] _
        have hA3 : RF A3 o := hA1.go hgA3
        refine ZE.aload_n d_Ref_layClass_48 rfl ?_
        refine ZE.getE (v := o + 5) d_Ref_layClass_49 f_Ref_22 (tg := 2) rfl hK.1 hA3.a5 ?_
        refine ZE.iload_n d_Ref_layClass_52 rfl ?_
        refine ZE.dup2 d_Ref_layClass_53 (Or.inl rfl) (Or.inr rfl) ?_
        refine ZE.ialdE (v := (j : Int)) d_Ref_layClass_54 hK.k5 (by have hn0 := hK.n5; show 0 ≤ c ∧ c < gn G (o + 5); omega) (by rw [gw_at, hgA3.row (by omega)]; exact hj5) ?_
        refine ZE.iconst (n := 1) d_Ref_layClass_55 ?_
        refine ZE.iadd d_Ref_layClass_56 ?_
        refine ZE.iast d_Ref_layClass_57 hK.k5 (by have hn0 := hK.n5; show 0 ≤ c ∧ c < gn G (o + 5); omega) ?_
        show ZE (d + 5) M_Ref_layClass (gw G (up2 A3 (o + 5) c ((j : Int) + 1))) 58 [(2, o), (0, c)] [] _
        refine ZE.goto (tgt := 26) d_Ref_layClass_58 rfl ?_
        rw [show (j : Int) + 1 = ((j + 1 : Nat) : Int) by omega]
        refine ih (j + 1) (up2 A3 (o + 5) c ((j + 1 : Nat) : Int)) ?_ ?_ ((g1.tr hgA3.big.cl).up (Or.inr rfl)) (up2_at _ _ _ _) ?_ (by omega)
        · omega
        · exact ⟨(up2_ne _ _ (by omega)).trans hsA3.1, (up2_ne _ _ (by omega)).trans hsA3.2.1, (up2_ne _ _ (by omega)).trans hsA3.2.2⟩
        · rw [up2_ne _ _ (by omega), hgA3.row (by omega)]; exact hr1
      · refine ZE.aload_n d_Ref_layClass_35 rfl ?_
        refine ZE.getE (v := ((cf D r j).2.1 : Int)) d_Ref_layClass_36 f_Ref_122 (tg := 0) rfl hK.1 s1.2.1 ?_
        refine ZE.iconst (n := 1) d_Ref_layClass_39 ?_
        refine ZE.icmp_eq (tgt := 61) d_Ref_layClass_40 rfl (by unfold zR; omega) (by unfold zR; omega) (fun c40 => ?_) (fun c40 => ?_)
        · have eR : j = R := by
            rcases Nat.lt_or_ge j R with q1 | q1
            · exfalso; exact hcf.2.2.2.1 j (by omega) q1 (by omega)
            · omega
          refine ZE.aload_n d_Ref_layClass_61 rfl ?_
          refine ZE.iload_n d_Ref_layClass_62 rfl ?_
          refine ZE.cV [(0, c)] [] [(2, o), (0, c), (9, 0), (9, 0)] d_Ref_layClass_63 l_Ref_146 rfl rfl rfl rfl rfl rfl hK.1 ?_
          refine r_layUnit (q := q) (D := D) (r := r) (R := R) (K := K) hK hA1 hc (by rw [g1.1 _ (by omega) (by omega) (by omega) (by omega)]; exact hq) hD hr1 hcf (by rw [← eR]; exact hj5) hns (fun A4 u1 u2 g4 => ?_)
          show ZE (d + 5) M_Ref_layClass (gw G A4) 66 [(2, o), (0, c)] [] _
          refine ZE.vret d_Ref_layClass_66 rfl ?_
          refine k A4 ?_ ?_ u1 u2 (g1.tr g4.cl)
          · rw [g4.1 _ (by omega) (by omega)]; exact hr1
          · rw [g4.1 _ (by omega) (by omega), hj5, eR]
        · have hgo : j ≠ R := by
            intro e
            have := hcf.2.2.1
            rw [← e] at this
            omega
          refine ZE.aload_n d_Ref_layClass_43 rfl ?_
          refine ZE.iload_n d_Ref_layClass_44 rfl ?_
          refine ZE.cV [(0, c)] [] [(2, o), (0, c)] d_Ref_layClass_45 l_Ref_134 rfl rfl rfl rfl rfl rfl hK.1 ?_
          refine r_go (D := D) (r := r) (s := cf D r j) (q := q) hK hA1 hc (by rw [g1.1 _ (by omega) (by omega) (by omega) (by omega)]; exact hq) hD hr1 s1 (hcf.1 _ (by omega)) (by have := hcf.2.2.2.2.2.2.1; omega) (by have := hcf.2.2.2.2.2.2.2; omega) (fun A3 hsA3 hgA3 => ?_)
          show ZE (d + 5) M_Ref_layClass (gw G A3) 48 [(2, o), (0, c)] [] _
          have hA3 : RF A3 o := hA1.go hgA3
          refine ZE.aload_n d_Ref_layClass_48 rfl ?_
          refine ZE.getE (v := o + 5) d_Ref_layClass_49 f_Ref_22 (tg := 2) rfl hK.1 hA3.a5 ?_
          refine ZE.iload_n d_Ref_layClass_52 rfl ?_
          refine ZE.dup2 d_Ref_layClass_53 (Or.inl rfl) (Or.inr rfl) ?_
          refine ZE.ialdE (v := (j : Int)) d_Ref_layClass_54 hK.k5 (by have hn0 := hK.n5; show 0 ≤ c ∧ c < gn G (o + 5); omega) (by rw [gw_at, hgA3.row (by omega)]; exact hj5) ?_
          refine ZE.iconst (n := 1) d_Ref_layClass_55 ?_
          refine ZE.iadd d_Ref_layClass_56 ?_
          refine ZE.iast d_Ref_layClass_57 hK.k5 (by have hn0 := hK.n5; show 0 ≤ c ∧ c < gn G (o + 5); omega) ?_
          show ZE (d + 5) M_Ref_layClass (gw G (up2 A3 (o + 5) c ((j : Int) + 1))) 58 [(2, o), (0, c)] [] _
          refine ZE.goto (tgt := 26) d_Ref_layClass_58 rfl ?_
          rw [show (j : Int) + 1 = ((j + 1 : Nat) : Int) by omega]
          refine ih (j + 1) (up2 A3 (o + 5) c ((j + 1 : Nat) : Int)) ?_ ?_ ((g1.tr hgA3.big.cl).up (Or.inr rfl)) (up2_at _ _ _ _) ?_ (by omega)
          · omega
          · exact ⟨(up2_ne _ _ (by omega)).trans hsA3.1, (up2_ne _ _ (by omega)).trans hsA3.2.1, (up2_ne _ _ (by omega)).trans hsA3.2.2⟩
          · rw [up2_ne _ _ (by omega), hgA3.row (by omega)]; exact hr1
  exact L26 _ 0 A2 (Nat.zero_le _) hsA2 (((clF.rf.up (Or.inl rfl)).up (Or.inr rfl)).tr hgA2.big.cl) (by rw [hgA2.row (by omega)]; exact up2_at _ _ _ _) (by rw [hgA2.row (by omega), up2_ne _ _ (by omega)]; exact up2_at _ _ _ _) (Nat.lt_succ_self _)
