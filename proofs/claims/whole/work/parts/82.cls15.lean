set_option maxRecDepth 20000 in
set_option maxHeartbeats 4000000 in
theorem f_nearing {d : Nat} {G : zG} {A : Int → Int → Int} {P : Option zV → zG → Prop}  {f : Int} (hf : fK G f) (hO : fO A f) {D : Nat} (hD : frD D) {n : Nat} (hn : n ≤ 2 * rnd D) {m : Nat} (hm : 2 ≤ m ∧ m ≤ 10000) {wh bp : Int} (hbp : bp = if wh = 0 then 1 else 0) (k : ∀ B, flF A B f → P (some (0, ((neF D (isq D) wh m n).2 : Int))) (gw G B)) : ZE (d + 2) M_Fra_nearingModulo (gw G A) 0 [(2, f), (0, (D : Int)), (0, (n : Int)), (0, bp), (0, (m : Int)), (9, 0), (9, 0), (9, 0), (9, 0), (9, 0), (9, 0), (9, 0)] [] P := by
  have hDb := frD_b hD
  have hcf := (frD_cf hD).1
  have hb01 : (bp = 1 ∧ wh = 0) ∨ (bp = 0 ∧ ¬ wh = 0) := by rw [hbp]; by_cases q : wh = 0; exact Or.inl ⟨if_pos q, q⟩; exact Or.inr ⟨if_neg q, q⟩
  refine ZE.iload d_Fra_nearingModulo_0 rfl ?_
  refine ZE.iconst (n := 1) d_Fra_nearingModulo_2 ?_
  refine ZE.icmp_ge (tgt := 8) d_Fra_nearingModulo_3 rfl (by unfold zR; omega) (by unfold zR; omega) (fun c3 => ?_) (fun c3 => ?_)
  · refine ZE.aload_n d_Fra_nearingModulo_8 rfl ?_
    refine ZE.iload_n d_Fra_nearingModulo_9 rfl ?_
    refine ZE.cV [(0, (D : Int))] [] [(2, f), (0, (D : Int))] d_Fra_nearingModulo_10 l_Fra_51 rfl rfl rfl rfl rfl rfl hf.1 ?_
    refine f_begin hf hO hD (fun B0 g0 hg0 => ?_)
    show ZE (d + 2) M_Fra_nearingModulo (gw G B0) 13 [(2, f), (0, (D : Int)), (0, (n : Int)), (0, bp), (0, (m : Int)), (9, 0), (9, 0), (9, 0), (9, 0), (9, 0), (9, 0), (9, 0)] [] _
    refine ZE.iload_n d_Fra_nearingModulo_13 rfl ?_
    refine ZE.if_eq (tgt := 21) d_Fra_nearingModulo_14 rfl (by unfold zR; omega) (fun c14 => ?_) (fun c14 => ?_)
    · have hw0 : ¬ wh = 0 := by omega
      refine ZE.lconst d_Fra_nearingModulo_21 ?_
      show ZE (d + 2) M_Fra_nearingModulo (gw G B0) 22 [(2, f), (0, (D : Int)), (0, (n : Int)), (0, bp), (0, (m : Int)), (9, 0), (9, 0), (9, 0), (9, 0), (9, 0), (9, 0), (9, 0)] [(1, 0)] _
      refine ZE.lstore (ls2 := [(2, f), (0, (D : Int)), (0, (n : Int)), (0, bp), (0, (m : Int)), (1, 0), (9, 0), (9, 0), (9, 0), (9, 0), (9, 0), (9, 0)]) d_Fra_nearingModulo_22 (Nat.le_of_ble_eq_true rfl) rfl ?_
      refine ZE.iload_n d_Fra_nearingModulo_24 rfl ?_
      refine ZE.if_eq (tgt := 35) d_Fra_nearingModulo_25 rfl (by unfold zR; omega) (fun c25 => ?_) (fun c25 => ?_)
      · refine ZE.iconst (n := 1) d_Fra_nearingModulo_35 ?_
        refine ZE.iload d_Fra_nearingModulo_36 rfl ?_
        refine ZE.iremP d_Fra_nearingModulo_38 (by omega) ?_
        rw [show (1 % (m : Int) : Int) = 1 from (Int.emod_eq_of_lt (by omega) (by omega))]
        have hmq := Nat.mod_lt (isq D) (show 0 < m by omega)
        refine ZE.i2l d_Fra_nearingModulo_39 (by unfold zR; omega) ?_
        refine ZE.lstore (ls2 := [(2, f), (0, (D : Int)), (0, (n : Int)), (0, bp), (0, (m : Int)), (1, 0), (9, 0), (1, 1), (9, 0), (9, 0), (9, 0), (9, 0)]) d_Fra_nearingModulo_40 (Nat.le_of_ble_eq_true rfl) rfl ?_
        refine ZE.iconst (n := 0) d_Fra_nearingModulo_42 ?_
        refine ZE.istore (ls2 := [(2, f), (0, (D : Int)), (0, (n : Int)), (0, bp), (0, (m : Int)), (1, 0), (9, 0), (1, 1), (9, 0), (0, 0), (9, 0), (9, 0)]) d_Fra_nearingModulo_43 (Nat.le_of_ble_eq_true rfl) rfl ?_
        have L45 : ∀ (tt0 : Nat) (j : Nat) (B : Int → Int → Int) (hj : j ≤ n) (gB : flF A B f) (hgo : goC B f D (isq D) (cf D (isq D) j)), n - j < tt0 → ZE (d + 2) M_Fra_nearingModulo (gw G B) 45 [(2, f), (0, (D : Int)), (0, (n : Int)), (0, bp), (0, (m : Int)), (1, ((neF D (isq D) wh m j).1 : Int)), (9, 0), (1, ((neF D (isq D) wh m j).2 : Int)), (9, 0), (0, (j : Int)), (9, 0), (9, 0)] [] P := by
          intro tt0
          induction tt0 with
          | zero => intro j B hj gB hgo hm; exact absurd hm (Nat.not_lt_zero _)
          | succ tt0 ih =>
            intro j B hj gB hgo hm
            have hOB : fO B f := hO.fl gB
            have hnR := neF_R (D := D) (r := isq D) (wh := wh) (m := m) (by omega) j
            refine ZE.iload d_Fra_nearingModulo_45 rfl ?_
            refine ZE.iload_n d_Fra_nearingModulo_47 rfl ?_
            refine ZE.icmp_ge (tgt := 93) d_Fra_nearingModulo_48 rfl (by unfold zR; omega) (by unfold zR; omega) (fun c48 => ?_) (fun c48 => ?_)
            · refine ZE.lload d_Fra_nearingModulo_93 rfl ?_
              refine ZE.l2i d_Fra_nearingModulo_95 ?_
              refine ZE.iret d_Fra_nearingModulo_96 rfl ?_
              rw [show j = n by omega]
              exact k B gB
            · refine ZE.iload d_Fra_nearingModulo_51 rfl ?_
              refine ZE.ldc (v := 1000000) d_Fra_nearingModulo_53 k_Fra_54 ?_
              refine ZE.icmp_ge (tgt := 93) d_Fra_nearingModulo_55 rfl (by unfold zR; omega) (by unfold zR; omega) (fun c55 => ?_) (fun c55 => ?_)
              · exact absurd c55 (by omega)
              · refine ZE.aload_n d_Fra_nearingModulo_58 rfl ?_
                refine ZE.cV [] [] [(2, f)] d_Fra_nearingModulo_59 l_Fra_55 rfl rfl rfl rfl rfl rfl hf.1 ?_
                refine f_advance (s := cf D (isq D) j) hf hOB hgo (hcf.1 j (by omega)) ⟨hDb.1, hDb.2.1⟩ (fun C gC hgo2 => ?_)
                show ZE (d + 2) M_Fra_nearingModulo (gw G C) 62 [(2, f), (0, (D : Int)), (0, (n : Int)), (0, bp), (0, (m : Int)), (1, ((neF D (isq D) wh m j).1 : Int)), (9, 0), (1, ((neF D (isq D) wh m j).2 : Int)), (9, 0), (0, (j : Int)), (9, 0), (9, 0)] [] _
                have hca := CFok.a hcf (k := j + 1) (by omega)
                refine ZE.aload_n d_Fra_nearingModulo_62 rfl ?_
                refine ZE.getE (v := ((cf D (isq D) (j + 1)).2.2 : Int)) d_Fra_nearingModulo_63 f_Fra_48 (tg := 0) rfl hf.1 hgo2.2.2.2.2 ?_
                refine ZE.i2l d_Fra_nearingModulo_66 (by unfold zR; omega) ?_
                refine ZE.lload d_Fra_nearingModulo_67 rfl ?_
                have hml : (cf D (isq D) (j + 1)).2.2 * (neF D (isq D) wh m j).2 ≤ 9999 * 10000 := Nat.mul_le_mul hca.1 (by omega)
                refine ZE.lmul d_Fra_nearingModulo_69 ?_
                rw [show (((cf D (isq D) (j + 1)).2.2 : Int) * ((neF D (isq D) wh m j).2 : Int) : Int) = (((cf D (isq D) (j + 1)).2.2 * (neF D (isq D) wh m j).2 : Nat) : Int) from (Int.natCast_mul _ _).symm]
                refine ZE.lload d_Fra_nearingModulo_70 rfl ?_
                refine ZE.ladd d_Fra_nearingModulo_72 ?_
                rw [show ((((cf D (isq D) (j + 1)).2.2 * (neF D (isq D) wh m j).2 : Nat) : Int) + ((neF D (isq D) wh m j).1 : Int) : Int) = (((cf D (isq D) (j + 1)).2.2 * (neF D (isq D) wh m j).2 + (neF D (isq D) wh m j).1 : Nat) : Int) from (Int.natCast_add _ _).symm]
                refine ZE.iload d_Fra_nearingModulo_73 rfl ?_
                refine ZE.i2l d_Fra_nearingModulo_75 (by unfold zR; omega) ?_
                refine ZE.lremP d_Fra_nearingModulo_76 (by omega) ?_
                rw [show ((((cf D (isq D) (j + 1)).2.2 * (neF D (isq D) wh m j).2 + (neF D (isq D) wh m j).1 : Nat) : Int) % (m : Int) : Int) = ((neF D (isq D) wh m (j + 1)).2 : Int) from (Int.natCast_emod _ _).symm]
                refine ZE.lstore (ls2 := [(2, f), (0, (D : Int)), (0, (n : Int)), (0, bp), (0, (m : Int)), (1, ((neF D (isq D) wh m j).1 : Int)), (9, 0), (1, ((neF D (isq D) wh m j).2 : Int)), (9, 0), (0, (j : Int)), (1, ((neF D (isq D) wh m (j + 1)).2 : Int)), (9, 0)]) d_Fra_nearingModulo_77 (Nat.le_of_ble_eq_true rfl) rfl ?_
                refine ZE.lload d_Fra_nearingModulo_79 rfl ?_
                refine ZE.lstore (ls2 := [(2, f), (0, (D : Int)), (0, (n : Int)), (0, bp), (0, (m : Int)), (1, ((neF D (isq D) wh m j).2 : Int)), (9, 0), (1, ((neF D (isq D) wh m j).2 : Int)), (9, 0), (0, (j : Int)), (1, ((neF D (isq D) wh m (j + 1)).2 : Int)), (9, 0)]) d_Fra_nearingModulo_81 (Nat.le_of_ble_eq_true rfl) rfl ?_
                refine ZE.lload d_Fra_nearingModulo_83 rfl ?_
                refine ZE.lstore (ls2 := [(2, f), (0, (D : Int)), (0, (n : Int)), (0, bp), (0, (m : Int)), (1, ((neF D (isq D) wh m j).2 : Int)), (9, 0), (1, ((neF D (isq D) wh m (j + 1)).2 : Int)), (9, 0), (0, (j : Int)), (1, ((neF D (isq D) wh m (j + 1)).2 : Int)), (9, 0)]) d_Fra_nearingModulo_85 (Nat.le_of_ble_eq_true rfl) rfl ?_
                refine ZE.iinc (ls2 := [(2, f), (0, (D : Int)), (0, (n : Int)), (0, bp), (0, (m : Int)), (1, ((neF D (isq D) wh m j).2 : Int)), (9, 0), (1, ((neF D (isq D) wh m (j + 1)).2 : Int)), (9, 0), (0, (j : Int) + 1), (1, ((neF D (isq D) wh m (j + 1)).2 : Int)), (9, 0)]) d_Fra_nearingModulo_87 rfl rfl ?_
                refine ZE.goto (tgt := 45) d_Fra_nearingModulo_90 rfl ?_
                refine ZE.mask [true, true, true, true, true, true, true, true, true, true, false, true] ?_
                show ZE (d + 2) M_Fra_nearingModulo (gw G C) 45 [(2, f), (0, (D : Int)), (0, (n : Int)), (0, bp), (0, (m : Int)), (1, ((neF D (isq D) wh m j).2 : Int)), (9, 0), (1, ((neF D (isq D) wh m (j + 1)).2 : Int)), (9, 0), (0, (j : Int) + 1), (9, 0), (9, 0)] [] _
                rw [show (j : Int) + 1 = ((j + 1 : Nat) : Int) by omega]
                exact ih (j + 1) C (by omega) (gB.tr gC) hgo2 (by omega)
        have L0 := L45 _ 0 B0 (Nat.zero_le _) g0 hg0 (Nat.lt_succ_self _)
        rw [show neF D (isq D) wh m 0 = (0, 1) from by show (if wh = 0 then 1 else 0, if wh = 0 then isq D % m else 1) = _; rw [if_neg hw0, if_neg hw0]] at L0
        exact L0
      · exact absurd c25 (by omega)
    · have hw0 : wh = 0 := by omega
      refine ZE.lconst d_Fra_nearingModulo_17 ?_
      show ZE (d + 2) M_Fra_nearingModulo (gw G B0) 18 [(2, f), (0, (D : Int)), (0, (n : Int)), (0, bp), (0, (m : Int)), (9, 0), (9, 0), (9, 0), (9, 0), (9, 0), (9, 0), (9, 0)] [(1, 1)] _
      refine ZE.goto (tgt := 22) d_Fra_nearingModulo_18 rfl ?_
      refine ZE.lstore (ls2 := [(2, f), (0, (D : Int)), (0, (n : Int)), (0, bp), (0, (m : Int)), (1, 1), (9, 0), (9, 0), (9, 0), (9, 0), (9, 0), (9, 0)]) d_Fra_nearingModulo_22 (Nat.le_of_ble_eq_true rfl) rfl ?_
      refine ZE.iload_n d_Fra_nearingModulo_24 rfl ?_
      refine ZE.if_eq (tgt := 35) d_Fra_nearingModulo_25 rfl (by unfold zR; omega) (fun c25 => ?_) (fun c25 => ?_)
      · exact absurd c25 (by omega)
      · refine ZE.aload_n d_Fra_nearingModulo_28 rfl ?_
        refine ZE.getE (v := (isq D : Int)) d_Fra_nearingModulo_29 f_Fra_39 (tg := 0) rfl hf.1 hg0.2.1 ?_
        refine ZE.goto (tgt := 36) d_Fra_nearingModulo_32 rfl ?_
        refine ZE.iload d_Fra_nearingModulo_36 rfl ?_
        refine ZE.iremP d_Fra_nearingModulo_38 (by omega) ?_
        rw [show ((isq D : Int) % (m : Int) : Int) = ((isq D % m : Nat) : Int) from (Int.natCast_emod _ _).symm]
        have hmq := Nat.mod_lt (isq D) (show 0 < m by omega)
        refine ZE.i2l d_Fra_nearingModulo_39 (by unfold zR; omega) ?_
        refine ZE.lstore (ls2 := [(2, f), (0, (D : Int)), (0, (n : Int)), (0, bp), (0, (m : Int)), (1, 1), (9, 0), (1, ((isq D % m : Nat) : Int)), (9, 0), (9, 0), (9, 0), (9, 0)]) d_Fra_nearingModulo_40 (Nat.le_of_ble_eq_true rfl) rfl ?_
        refine ZE.iconst (n := 0) d_Fra_nearingModulo_42 ?_
        refine ZE.istore (ls2 := [(2, f), (0, (D : Int)), (0, (n : Int)), (0, bp), (0, (m : Int)), (1, 1), (9, 0), (1, ((isq D % m : Nat) : Int)), (9, 0), (0, 0), (9, 0), (9, 0)]) d_Fra_nearingModulo_43 (Nat.le_of_ble_eq_true rfl) rfl ?_
        have L45 : ∀ (tt0 : Nat) (j : Nat) (B : Int → Int → Int) (hj : j ≤ n) (gB : flF A B f) (hgo : goC B f D (isq D) (cf D (isq D) j)), n - j < tt0 → ZE (d + 2) M_Fra_nearingModulo (gw G B) 45 [(2, f), (0, (D : Int)), (0, (n : Int)), (0, bp), (0, (m : Int)), (1, ((neF D (isq D) wh m j).1 : Int)), (9, 0), (1, ((neF D (isq D) wh m j).2 : Int)), (9, 0), (0, (j : Int)), (9, 0), (9, 0)] [] P := by
          intro tt0
          induction tt0 with
          | zero => intro j B hj gB hgo hm; exact absurd hm (Nat.not_lt_zero _)
          | succ tt0 ih =>
            intro j B hj gB hgo hm
            have hOB : fO B f := hO.fl gB
            have hnR := neF_R (D := D) (r := isq D) (wh := wh) (m := m) (by omega) j
            refine ZE.iload d_Fra_nearingModulo_45 rfl ?_
            refine ZE.iload_n d_Fra_nearingModulo_47 rfl ?_
            refine ZE.icmp_ge (tgt := 93) d_Fra_nearingModulo_48 rfl (by unfold zR; omega) (by unfold zR; omega) (fun c48 => ?_) (fun c48 => ?_)
            · refine ZE.lload d_Fra_nearingModulo_93 rfl ?_
              refine ZE.l2i d_Fra_nearingModulo_95 ?_
              refine ZE.iret d_Fra_nearingModulo_96 rfl ?_
              rw [show j = n by omega]
              exact k B gB
            · refine ZE.iload d_Fra_nearingModulo_51 rfl ?_
              refine ZE.ldc (v := 1000000) d_Fra_nearingModulo_53 k_Fra_54 ?_
              refine ZE.icmp_ge (tgt := 93) d_Fra_nearingModulo_55 rfl (by unfold zR; omega) (by unfold zR; omega) (fun c55 => ?_) (fun c55 => ?_)
              · exact absurd c55 (by omega)
              · refine ZE.aload_n d_Fra_nearingModulo_58 rfl ?_
                refine ZE.cV [] [] [(2, f)] d_Fra_nearingModulo_59 l_Fra_55 rfl rfl rfl rfl rfl rfl hf.1 ?_
                refine f_advance (s := cf D (isq D) j) hf hOB hgo (hcf.1 j (by omega)) ⟨hDb.1, hDb.2.1⟩ (fun C gC hgo2 => ?_)
                show ZE (d + 2) M_Fra_nearingModulo (gw G C) 62 [(2, f), (0, (D : Int)), (0, (n : Int)), (0, bp), (0, (m : Int)), (1, ((neF D (isq D) wh m j).1 : Int)), (9, 0), (1, ((neF D (isq D) wh m j).2 : Int)), (9, 0), (0, (j : Int)), (9, 0), (9, 0)] [] _
                have hca := CFok.a hcf (k := j + 1) (by omega)
                refine ZE.aload_n d_Fra_nearingModulo_62 rfl ?_
                refine ZE.getE (v := ((cf D (isq D) (j + 1)).2.2 : Int)) d_Fra_nearingModulo_63 f_Fra_48 (tg := 0) rfl hf.1 hgo2.2.2.2.2 ?_
                refine ZE.i2l d_Fra_nearingModulo_66 (by unfold zR; omega) ?_
                refine ZE.lload d_Fra_nearingModulo_67 rfl ?_
                have hml : (cf D (isq D) (j + 1)).2.2 * (neF D (isq D) wh m j).2 ≤ 9999 * 10000 := Nat.mul_le_mul hca.1 (by omega)
                refine ZE.lmul d_Fra_nearingModulo_69 ?_
                rw [show (((cf D (isq D) (j + 1)).2.2 : Int) * ((neF D (isq D) wh m j).2 : Int) : Int) = (((cf D (isq D) (j + 1)).2.2 * (neF D (isq D) wh m j).2 : Nat) : Int) from (Int.natCast_mul _ _).symm]
                refine ZE.lload d_Fra_nearingModulo_70 rfl ?_
                refine ZE.ladd d_Fra_nearingModulo_72 ?_
                rw [show ((((cf D (isq D) (j + 1)).2.2 * (neF D (isq D) wh m j).2 : Nat) : Int) + ((neF D (isq D) wh m j).1 : Int) : Int) = (((cf D (isq D) (j + 1)).2.2 * (neF D (isq D) wh m j).2 + (neF D (isq D) wh m j).1 : Nat) : Int) from (Int.natCast_add _ _).symm]
                refine ZE.iload d_Fra_nearingModulo_73 rfl ?_
                refine ZE.i2l d_Fra_nearingModulo_75 (by unfold zR; omega) ?_
                refine ZE.lremP d_Fra_nearingModulo_76 (by omega) ?_
                rw [show ((((cf D (isq D) (j + 1)).2.2 * (neF D (isq D) wh m j).2 + (neF D (isq D) wh m j).1 : Nat) : Int) % (m : Int) : Int) = ((neF D (isq D) wh m (j + 1)).2 : Int) from (Int.natCast_emod _ _).symm]
                refine ZE.lstore (ls2 := [(2, f), (0, (D : Int)), (0, (n : Int)), (0, bp), (0, (m : Int)), (1, ((neF D (isq D) wh m j).1 : Int)), (9, 0), (1, ((neF D (isq D) wh m j).2 : Int)), (9, 0), (0, (j : Int)), (1, ((neF D (isq D) wh m (j + 1)).2 : Int)), (9, 0)]) d_Fra_nearingModulo_77 (Nat.le_of_ble_eq_true rfl) rfl ?_
                refine ZE.lload d_Fra_nearingModulo_79 rfl ?_
                refine ZE.lstore (ls2 := [(2, f), (0, (D : Int)), (0, (n : Int)), (0, bp), (0, (m : Int)), (1, ((neF D (isq D) wh m j).2 : Int)), (9, 0), (1, ((neF D (isq D) wh m j).2 : Int)), (9, 0), (0, (j : Int)), (1, ((neF D (isq D) wh m (j + 1)).2 : Int)), (9, 0)]) d_Fra_nearingModulo_81 (Nat.le_of_ble_eq_true rfl) rfl ?_
                refine ZE.lload d_Fra_nearingModulo_83 rfl ?_
                refine ZE.lstore (ls2 := [(2, f), (0, (D : Int)), (0, (n : Int)), (0, bp), (0, (m : Int)), (1, ((neF D (isq D) wh m j).2 : Int)), (9, 0), (1, ((neF D (isq D) wh m (j + 1)).2 : Int)), (9, 0), (0, (j : Int)), (1, ((neF D (isq D) wh m (j + 1)).2 : Int)), (9, 0)]) d_Fra_nearingModulo_85 (Nat.le_of_ble_eq_true rfl) rfl ?_
                refine ZE.iinc (ls2 := [(2, f), (0, (D : Int)), (0, (n : Int)), (0, bp), (0, (m : Int)), (1, ((neF D (isq D) wh m j).2 : Int)), (9, 0), (1, ((neF D (isq D) wh m (j + 1)).2 : Int)), (9, 0), (0, (j : Int) + 1), (1, ((neF D (isq D) wh m (j + 1)).2 : Int)), (9, 0)]) d_Fra_nearingModulo_87 rfl rfl ?_
                refine ZE.goto (tgt := 45) d_Fra_nearingModulo_90 rfl ?_
                refine ZE.mask [true, true, true, true, true, true, true, true, true, true, false, true] ?_
                show ZE (d + 2) M_Fra_nearingModulo (gw G C) 45 [(2, f), (0, (D : Int)), (0, (n : Int)), (0, bp), (0, (m : Int)), (1, ((neF D (isq D) wh m j).2 : Int)), (9, 0), (1, ((neF D (isq D) wh m (j + 1)).2 : Int)), (9, 0), (0, (j : Int) + 1), (9, 0), (9, 0)] [] _
                rw [show (j : Int) + 1 = ((j + 1 : Nat) : Int) by omega]
                exact ih (j + 1) C (by omega) (gB.tr gC) hgo2 (by omega)
        have L0 := L45 _ 0 B0 (Nat.zero_le _) g0 hg0 (Nat.lt_succ_self _)
        rw [show neF D (isq D) wh m 0 = (1, isq D % m) from by show (if wh = 0 then 1 else 0, if wh = 0 then isq D % m else 1) = _; rw [if_pos hw0, if_pos hw0]] at L0
        exact L0
  · exact absurd c3 (by omega)
set_option maxRecDepth 20000 in
set_option maxHeartbeats 4000000 in
theorem f_left {d : Nat} {G : zG} {A : Int → Int → Int} {P : Option zV → zG → Prop}  {f : Int} (hf : fK G f) (hO : fO A f) {D : Nat} (hD : frD D) {n : Nat} (hn : n ≤ 2 * rnd D) (k : ∀ B, flF A B f → P (some (0, if n % 2 = 0 then -((cf D (isq D) (n + 1)).2.1 : Int) else ((cf D (isq D) (n + 1)).2.1 : Int))) (gw G B)) : ZE (d + 2) M_Fra_leftBehind (gw G A) 0 [(2, f), (0, (D : Int)), (0, (n : Int)), (9, 0), (9, 0), (9, 0), (9, 0), (9, 0), (9, 0), (9, 0), (9, 0), (9, 0), (9, 0), (9, 0), (9, 0), (9, 0)] [] P := by
  have hDb := frD_b hD
  have hcf := (frD_cf hD).1
  refine ZE.aload_n d_Fra_leftBehind_0 rfl ?_
  refine ZE.iload_n d_Fra_leftBehind_1 rfl ?_
  refine ZE.cV [(0, (D : Int))] [] [(2, f), (0, (D : Int))] d_Fra_leftBehind_2 l_Fra_51 rfl rfl rfl rfl rfl rfl hf.1 ?_
  refine f_begin hf hO hD (fun B0 g0 hg0 => ?_)
  show ZE (d + 2) M_Fra_leftBehind (gw G B0) 5 [(2, f), (0, (D : Int)), (0, (n : Int)), (9, 0), (9, 0), (9, 0), (9, 0), (9, 0), (9, 0), (9, 0), (9, 0), (9, 0), (9, 0), (9, 0), (9, 0), (9, 0)] [] _
  refine ZE.lconst d_Fra_leftBehind_5 ?_
  show ZE (d + 2) M_Fra_leftBehind (gw G B0) 6 [(2, f), (0, (D : Int)), (0, (n : Int)), (9, 0), (9, 0), (9, 0), (9, 0), (9, 0), (9, 0), (9, 0), (9, 0), (9, 0), (9, 0), (9, 0), (9, 0), (9, 0)] [(1, 1)] _
  refine ZE.lstore_n (ls2 := [(2, f), (0, (D : Int)), (0, (n : Int)), (1, 1), (9, 0), (9, 0), (9, 0), (9, 0), (9, 0), (9, 0), (9, 0), (9, 0), (9, 0), (9, 0), (9, 0), (9, 0)]) d_Fra_leftBehind_6 (Nat.le_of_ble_eq_true rfl) rfl ?_
  refine ZE.lconst d_Fra_leftBehind_7 ?_
  show ZE (d + 2) M_Fra_leftBehind (gw G B0) 8 [(2, f), (0, (D : Int)), (0, (n : Int)), (1, 1), (9, 0), (9, 0), (9, 0), (9, 0), (9, 0), (9, 0), (9, 0), (9, 0), (9, 0), (9, 0), (9, 0), (9, 0)] [(1, 0)] _
  refine ZE.lstore (ls2 := [(2, f), (0, (D : Int)), (0, (n : Int)), (1, 1), (9, 0), (1, 0), (9, 0), (9, 0), (9, 0), (9, 0), (9, 0), (9, 0), (9, 0), (9, 0), (9, 0), (9, 0)]) d_Fra_leftBehind_8 (Nat.le_of_ble_eq_true rfl) rfl ?_
  refine ZE.aload_n d_Fra_leftBehind_10 rfl ?_
  refine ZE.getE (v := (isq D : Int)) d_Fra_leftBehind_11 f_Fra_39 (tg := 0) rfl hf.1 hg0.2.1 ?_
  refine ZE.i2l d_Fra_leftBehind_14 (by unfold zR; omega) ?_
  refine ZE.lstore (ls2 := [(2, f), (0, (D : Int)), (0, (n : Int)), (1, 1), (9, 0), (1, 0), (9, 0), (1, (isq D : Int)), (9, 0), (9, 0), (9, 0), (9, 0), (9, 0), (9, 0), (9, 0), (9, 0)]) d_Fra_leftBehind_15 (Nat.le_of_ble_eq_true rfl) rfl ?_
  refine ZE.lconst d_Fra_leftBehind_17 ?_
  show ZE (d + 2) M_Fra_leftBehind (gw G B0) 18 [(2, f), (0, (D : Int)), (0, (n : Int)), (1, 1), (9, 0), (1, 0), (9, 0), (1, (isq D : Int)), (9, 0), (9, 0), (9, 0), (9, 0), (9, 0), (9, 0), (9, 0), (9, 0)] [(1, 1)] _
  refine ZE.lstore (ls2 := [(2, f), (0, (D : Int)), (0, (n : Int)), (1, 1), (9, 0), (1, 0), (9, 0), (1, (isq D : Int)), (9, 0), (1, 1), (9, 0), (9, 0), (9, 0), (9, 0), (9, 0), (9, 0)]) d_Fra_leftBehind_18 (Nat.le_of_ble_eq_true rfl) rfl ?_
  refine ZE.iconst (n := 0) d_Fra_leftBehind_20 ?_
  refine ZE.istore (ls2 := [(2, f), (0, (D : Int)), (0, (n : Int)), (1, 1), (9, 0), (1, 0), (9, 0), (1, (isq D : Int)), (9, 0), (1, 1), (9, 0), (0, 0), (9, 0), (9, 0), (9, 0), (9, 0)]) d_Fra_leftBehind_21 (Nat.le_of_ble_eq_true rfl) rfl ?_
  have L23 : ∀ (tt0 : Nat) (j : Nat) (B : Int → Int → Int) (hj : j ≤ n) (gB : flF A B f) (hgo : goC B f D (isq D) (cf D (isq D) j)), n - j < tt0 → ZE (d + 2) M_Fra_leftBehind (gw G B) 23 [(2, f), (0, (D : Int)), (0, (n : Int)), (1, ((ns D (isq D) j).2.1 : Int)), (9, 0), (1, ((ns D (isq D) j).2.2.2 : Int)), (9, 0), (1, ((ns D (isq D) j).1 : Int)), (9, 0), (1, ((ns D (isq D) j).2.2.1 : Int)), (9, 0), (0, (j : Int)), (9, 0), (9, 0), (9, 0), (9, 0)] [] P := by
    intro tt0
    induction tt0 with
    | zero => intro j B hj gB hgo hm; exact absurd hm (Nat.not_lt_zero _)
    | succ tt0 ih =>
      intro j B hj gB hgo hm
      have hOB : fO B f := hO.fl gB
      refine ZE.iload d_Fra_leftBehind_23 rfl ?_
      refine ZE.iload_n d_Fra_leftBehind_25 rfl ?_
      refine ZE.icmp_ge (tgt := 86) d_Fra_leftBehind_26 rfl (by unfold zR; omega) (by unfold zR; omega) (fun c26 => ?_) (fun c26 => ?_)
      · refine ZE.lload d_Fra_leftBehind_86 rfl ?_
        refine ZE.lload d_Fra_leftBehind_88 rfl ?_
        refine ZE.lmul d_Fra_leftBehind_90 ?_
        refine ZE.iload_n d_Fra_leftBehind_91 rfl ?_
        refine ZE.i2l d_Fra_leftBehind_92 (by unfold zR; omega) ?_
        refine ZE.lload d_Fra_leftBehind_93 rfl ?_
        refine ZE.lmul d_Fra_leftBehind_95 ?_
        refine ZE.lload d_Fra_leftBehind_96 rfl ?_
        refine ZE.lmul d_Fra_leftBehind_98 ?_
        refine ZE.lsub d_Fra_leftBehind_99 ?_
        refine ZE.l2i d_Fra_leftBehind_100 ?_
        refine ZE.iret d_Fra_leftBehind_101 rfl ?_
        have hjn : j = n := by omega
        have hid := (ns_id hcf (frD_cf hD).2.1 j (by omega)).1
        rw [Int.mul_assoc, hid, hjn]
        have k1 := k B gB
        unfold sgn
        by_cases q : n % 2 = 0
        · rw [if_pos q] at k1 ⊢; rw [show -1 * ((cf D (isq D) (n + 1)).2.1 : Int) = -((cf D (isq D) (n + 1)).2.1 : Int) by omega]; exact k1
        · rw [if_neg q] at k1 ⊢; rw [show - -1 * ((cf D (isq D) (n + 1)).2.1 : Int) = ((cf D (isq D) (n + 1)).2.1 : Int) by omega]; exact k1
      · refine ZE.iload d_Fra_leftBehind_29 rfl ?_
        refine ZE.ldc (v := 1000000) d_Fra_leftBehind_31 k_Fra_54 ?_
        refine ZE.icmp_ge (tgt := 86) d_Fra_leftBehind_33 rfl (by unfold zR; omega) (by unfold zR; omega) (fun c33 => ?_) (fun c33 => ?_)
        · exact absurd c33 (by omega)
        · refine ZE.aload_n d_Fra_leftBehind_36 rfl ?_
          refine ZE.cV [] [] [(2, f)] d_Fra_leftBehind_37 l_Fra_55 rfl rfl rfl rfl rfl rfl hf.1 ?_
          refine f_advance (s := cf D (isq D) j) hf hOB hgo (hcf.1 j (by omega)) ⟨hDb.1, hDb.2.1⟩ (fun C gC hgo2 => ?_)
          show ZE (d + 2) M_Fra_leftBehind (gw G C) 40 [(2, f), (0, (D : Int)), (0, (n : Int)), (1, ((ns D (isq D) j).2.1 : Int)), (9, 0), (1, ((ns D (isq D) j).2.2.2 : Int)), (9, 0), (1, ((ns D (isq D) j).1 : Int)), (9, 0), (1, ((ns D (isq D) j).2.2.1 : Int)), (9, 0), (0, (j : Int)), (9, 0), (9, 0), (9, 0), (9, 0)] [] _
          have hca := CFok.a hcf (k := j + 1) (by omega)
          refine ZE.aload_n d_Fra_leftBehind_40 rfl ?_
          refine ZE.getE (v := ((cf D (isq D) (j + 1)).2.2 : Int)) d_Fra_leftBehind_41 f_Fra_48 (tg := 0) rfl hf.1 hgo2.2.2.2.2 ?_
          refine ZE.i2l d_Fra_leftBehind_44 (by unfold zR; omega) ?_
          refine ZE.lload d_Fra_leftBehind_45 rfl ?_
          refine ZE.lmul d_Fra_leftBehind_47 ?_
          refine ZE.lload_n d_Fra_leftBehind_48 rfl ?_
          refine ZE.ladd d_Fra_leftBehind_49 ?_
          rw [show ((((cf D (isq D) (j + 1)).2.2 : Int) * ((ns D (isq D) j).1 : Int)) + ((ns D (isq D) j).2.1 : Int) : Int) = ((ns D (isq D) (j + 1)).1 : Int) from (by rw [show (ns D (isq D) (j + 1)).1 = (ns D (isq D) j).1 * (cf D (isq D) (j + 1)).2.2 + (ns D (isq D) j).2.1 from rfl, Int.natCast_add, Int.natCast_mul, Int.mul_comm])]
          refine ZE.lstore (ls2 := [(2, f), (0, (D : Int)), (0, (n : Int)), (1, ((ns D (isq D) j).2.1 : Int)), (9, 0), (1, ((ns D (isq D) j).2.2.2 : Int)), (9, 0), (1, ((ns D (isq D) j).1 : Int)), (9, 0), (1, ((ns D (isq D) j).2.2.1 : Int)), (9, 0), (0, (j : Int)), (1, ((ns D (isq D) (j + 1)).1 : Int)), (9, 0), (9, 0), (9, 0)]) d_Fra_leftBehind_50 (Nat.le_of_ble_eq_true rfl) rfl ?_
          refine ZE.aload_n d_Fra_leftBehind_52 rfl ?_
          refine ZE.getE (v := ((cf D (isq D) (j + 1)).2.2 : Int)) d_Fra_leftBehind_53 f_Fra_48 (tg := 0) rfl hf.1 hgo2.2.2.2.2 ?_
          refine ZE.i2l d_Fra_leftBehind_56 (by unfold zR; omega) ?_
          refine ZE.lload d_Fra_leftBehind_57 rfl ?_
          refine ZE.lmul d_Fra_leftBehind_59 ?_
          refine ZE.lload d_Fra_leftBehind_60 rfl ?_
          refine ZE.ladd d_Fra_leftBehind_62 ?_
          rw [show ((((cf D (isq D) (j + 1)).2.2 : Int) * ((ns D (isq D) j).2.2.1 : Int)) + ((ns D (isq D) j).2.2.2 : Int) : Int) = ((ns D (isq D) (j + 1)).2.2.1 : Int) from (by rw [show (ns D (isq D) (j + 1)).2.2.1 = (ns D (isq D) j).2.2.1 * (cf D (isq D) (j + 1)).2.2 + (ns D (isq D) j).2.2.2 from rfl, Int.natCast_add, Int.natCast_mul, Int.mul_comm])]
          refine ZE.lstore (ls2 := [(2, f), (0, (D : Int)), (0, (n : Int)), (1, ((ns D (isq D) j).2.1 : Int)), (9, 0), (1, ((ns D (isq D) j).2.2.2 : Int)), (9, 0), (1, ((ns D (isq D) j).1 : Int)), (9, 0), (1, ((ns D (isq D) j).2.2.1 : Int)), (9, 0), (0, (j : Int)), (1, ((ns D (isq D) (j + 1)).1 : Int)), (9, 0), (1, ((ns D (isq D) (j + 1)).2.2.1 : Int)), (9, 0)]) d_Fra_leftBehind_63 (Nat.le_of_ble_eq_true rfl) rfl ?_
          refine ZE.lload d_Fra_leftBehind_65 rfl ?_
          refine ZE.lstore_n (ls2 := [(2, f), (0, (D : Int)), (0, (n : Int)), (1, ((ns D (isq D) j).1 : Int)), (9, 0), (1, ((ns D (isq D) j).2.2.2 : Int)), (9, 0), (1, ((ns D (isq D) j).1 : Int)), (9, 0), (1, ((ns D (isq D) j).2.2.1 : Int)), (9, 0), (0, (j : Int)), (1, ((ns D (isq D) (j + 1)).1 : Int)), (9, 0), (1, ((ns D (isq D) (j + 1)).2.2.1 : Int)), (9, 0)]) d_Fra_leftBehind_67 (Nat.le_of_ble_eq_true rfl) rfl ?_
          refine ZE.lload d_Fra_leftBehind_68 rfl ?_
          refine ZE.lstore (ls2 := [(2, f), (0, (D : Int)), (0, (n : Int)), (1, ((ns D (isq D) j).1 : Int)), (9, 0), (1, ((ns D (isq D) j).2.2.1 : Int)), (9, 0), (1, ((ns D (isq D) j).1 : Int)), (9, 0), (1, ((ns D (isq D) j).2.2.1 : Int)), (9, 0), (0, (j : Int)), (1, ((ns D (isq D) (j + 1)).1 : Int)), (9, 0), (1, ((ns D (isq D) (j + 1)).2.2.1 : Int)), (9, 0)]) d_Fra_leftBehind_70 (Nat.le_of_ble_eq_true rfl) rfl ?_
          refine ZE.lload d_Fra_leftBehind_72 rfl ?_
          refine ZE.lstore (ls2 := [(2, f), (0, (D : Int)), (0, (n : Int)), (1, ((ns D (isq D) j).1 : Int)), (9, 0), (1, ((ns D (isq D) j).2.2.1 : Int)), (9, 0), (1, ((ns D (isq D) (j + 1)).1 : Int)), (9, 0), (1, ((ns D (isq D) j).2.2.1 : Int)), (9, 0), (0, (j : Int)), (1, ((ns D (isq D) (j + 1)).1 : Int)), (9, 0), (1, ((ns D (isq D) (j + 1)).2.2.1 : Int)), (9, 0)]) d_Fra_leftBehind_74 (Nat.le_of_ble_eq_true rfl) rfl ?_
          refine ZE.lload d_Fra_leftBehind_76 rfl ?_
          refine ZE.lstore (ls2 := [(2, f), (0, (D : Int)), (0, (n : Int)), (1, ((ns D (isq D) j).1 : Int)), (9, 0), (1, ((ns D (isq D) j).2.2.1 : Int)), (9, 0), (1, ((ns D (isq D) (j + 1)).1 : Int)), (9, 0), (1, ((ns D (isq D) (j + 1)).2.2.1 : Int)), (9, 0), (0, (j : Int)), (1, ((ns D (isq D) (j + 1)).1 : Int)), (9, 0), (1, ((ns D (isq D) (j + 1)).2.2.1 : Int)), (9, 0)]) d_Fra_leftBehind_78 (Nat.le_of_ble_eq_true rfl) rfl ?_
          refine ZE.iinc (ls2 := [(2, f), (0, (D : Int)), (0, (n : Int)), (1, ((ns D (isq D) j).1 : Int)), (9, 0), (1, ((ns D (isq D) j).2.2.1 : Int)), (9, 0), (1, ((ns D (isq D) (j + 1)).1 : Int)), (9, 0), (1, ((ns D (isq D) (j + 1)).2.2.1 : Int)), (9, 0), (0, (j : Int) + 1), (1, ((ns D (isq D) (j + 1)).1 : Int)), (9, 0), (1, ((ns D (isq D) (j + 1)).2.2.1 : Int)), (9, 0)]) d_Fra_leftBehind_80 rfl rfl ?_
          refine ZE.goto (tgt := 23) d_Fra_leftBehind_83 rfl ?_
          refine ZE.mask [true, true, true, true, true, true, true, true, true, true, true, true, false, true, false, true] ?_
          show ZE (d + 2) M_Fra_leftBehind (gw G C) 23 [(2, f), (0, (D : Int)), (0, (n : Int)), (1, ((ns D (isq D) j).1 : Int)), (9, 0), (1, ((ns D (isq D) j).2.2.1 : Int)), (9, 0), (1, ((ns D (isq D) (j + 1)).1 : Int)), (9, 0), (1, ((ns D (isq D) (j + 1)).2.2.1 : Int)), (9, 0), (0, (j : Int) + 1), (9, 0), (9, 0), (9, 0), (9, 0)] [] _
          rw [show (j : Int) + 1 = ((j + 1 : Nat) : Int) by omega]
          exact ih (j + 1) C (by omega) (gB.tr gC) hgo2 (by omega)
  exact L23 _ 0 B0 (Nat.zero_le _) g0 hg0 (Nat.lt_succ_self _)
