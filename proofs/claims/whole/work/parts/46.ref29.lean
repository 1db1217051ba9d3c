def neF (D r : Nat) (wh : Int) (m : Nat) : Nat → Nat × Nat
  | 0 => (if wh = 0 then 1 else 0, if wh = 0 then r % m else 1)
  | i + 1 => ((neF D r wh m i).2, ((cf D r (i + 1)).2.2 * (neF D r wh m i).2 + (neF D r wh m i).1) % m)
theorem neF_R {D r m : Nat} {wh : Int} (hm : 2 ≤ m) : ∀ i, (neF D r wh m i).1 < m ∧ (neF D r wh m i).2 < m := by
  intro i
  induction i with
  | zero =>
    constructor
    · show (if wh = 0 then 1 else 0) < m; split <;> omega
    · show (if wh = 0 then r % m else 1) < m
      split
      · exact Nat.mod_lt _ (by omega)
      · omega
  | succ i ih => exact ⟨ih.2, Nat.mod_lt _ (by omega)⟩
def neV (S : Nat) (c i wh m : Int) : Int := if inC S c = true ∧ 0 ≤ i ∧ i ≤ 2 * (rnd (d1 S c.toNat) : Int) then (if (0 ≤ wh ∧ wh ≤ 1) ∧ (2 ≤ m ∧ m ≤ 10000) then ((neF (d1 S c.toNat) (isq (d1 S c.toNat)) wh m.toNat i.toNat).2 : Int) else -1) else -1
set_option maxRecDepth 20000 in
set_option maxHeartbeats 4000000 in
theorem r_nearing {d : Nat} {G : zG} {A : Int → Int → Int} {P : Option zV → zG → Prop} {o : Int} (hK : RK G o) (hF : RF A o) {S : Nat} (hR : RS S A o) (hS7 : S < 128) (hp5 : pop S ≤ 5) {c : Int} (hc : zR c) {i wh m : Int} (hi : zR i) (hw : zR wh) (hm : zR m) (k : ∀ A2, quF A A2 o → P (some (0, neV S c i wh m)) (gw G A2)) : ZE (d + 3) M_Ref_nearing (gw G A) 0 [(2, o), (0, c), (0, i), (0, wh), (0, m), (9, 0), (9, 0), (9, 0), (9, 0)] [] P := by
  refine ZE.aload_n d_Ref_nearing_0 rfl ?_
  refine ZE.iload_n d_Ref_nearing_1 rfl ?_
  refine ZE.iload_n d_Ref_nearing_2 rfl ?_
  refine ZE.cV [(0, c), (0, i)] [] [(2, o), (0, c), (0, i)] d_Ref_nearing_3 l_Ref_245 rfl rfl rfl rfl rfl rfl hK.1 ?_
  refine r_isStep hK hF hR hS7 hp5 hc hi ?_
  show ZE (d + 3) M_Ref_nearing (gw G A) 6 [(2, o), (0, c), (0, i), (0, wh), (0, m), (9, 0), (9, 0), (9, 0), (9, 0)] [(0, b2i (inC S c = true ∧ 0 ≤ i ∧ i ≤ 2 * (rnd (d1 S c.toNat) : Int)))] _
  refine ZE.if_eq (tgt := 34) d_Ref_nearing_6 rfl (zR_b2i _) (fun c6 => ?_) (fun c6 => ?_)
  · replace c6 := b2i_0.mp c6
    refine ZE.iconst (n := (-1)) d_Ref_nearing_34 ?_
    refine ZE.iret d_Ref_nearing_35 rfl ?_
    have k1 := k A quF.rf
    rw [show neV S c i wh m = -1 from ?_] at k1
    · exact k1
    · unfold neV
      by_cases h : inC S c = true ∧ 0 ≤ i ∧ i ≤ 2 * (rnd (d1 S (c : Int).toNat) : Int)
      · rw [if_pos h]; exact if_neg (fun q => by first | exact c6 h | exact c16 q.1 | exact c31 q.2)
      · exact if_neg h
  · replace c6 := b2i_n0.mp c6
    refine ZE.iload_n d_Ref_nearing_9 rfl ?_
    refine ZE.i2l d_Ref_nearing_10 hw ?_
    refine ZE.lconst d_Ref_nearing_11 ?_
    show ZE (d + 3) M_Ref_nearing (gw G A) 12 [(2, o), (0, c), (0, i), (0, wh), (0, m), (9, 0), (9, 0), (9, 0), (9, 0)] [(1, 0), (1, wh)] _
    refine ZE.lconst d_Ref_nearing_12 ?_
    show ZE (d + 3) M_Ref_nearing (gw G A) 13 [(2, o), (0, c), (0, i), (0, wh), (0, m), (9, 0), (9, 0), (9, 0), (9, 0)] [(1, 1), (1, 0), (1, wh)] _
    refine ZE.cS [(1, wh), (1, 0), (1, 1)] [] [(1, wh), (9, 0), (1, 0), (9, 0), (1, 1), (9, 0)] d_Ref_nearing_13 l_Ref_111 rfl rfl rfl rfl rfl rfl ?_
    refine r_isIn (by unfold zR at hw; unfold zR64; omega) (by unfold zR64; omega) (by unfold zR64; omega) ?_
    show ZE (d + 3) M_Ref_nearing (gw G A) 16 [(2, o), (0, c), (0, i), (0, wh), (0, m), (9, 0), (9, 0), (9, 0), (9, 0)] [(0, b2i (0 ≤ wh ∧ wh ≤ 1))] _
    refine ZE.if_eq (tgt := 34) d_Ref_nearing_16 rfl (zR_b2i _) (fun c16 => ?_) (fun c16 => ?_)
    · replace c16 := b2i_0.mp c16
      refine ZE.iconst (n := (-1)) d_Ref_nearing_34 ?_
      refine ZE.iret d_Ref_nearing_35 rfl ?_
      have k1 := k A quF.rf
      rw [show neV S c i wh m = -1 from ?_] at k1
      · exact k1
      · unfold neV
        by_cases h : inC S c = true ∧ 0 ≤ i ∧ i ≤ 2 * (rnd (d1 S (c : Int).toNat) : Int)
        · rw [if_pos h]; exact if_neg (fun q => by first | exact c6 h | exact c16 q.1 | exact c31 q.2)
        · exact if_neg h
    · replace c16 := b2i_n0.mp c16
      refine ZE.iload d_Ref_nearing_19 rfl ?_
      refine ZE.i2l d_Ref_nearing_21 hm ?_
      refine ZE.ldc2 (v := 2) d_Ref_nearing_22 k_Ref_181 ?_
      refine ZE.ldc2 (v := 10000) d_Ref_nearing_25 k_Ref_103 ?_
      refine ZE.cS [(1, m), (1, 2), (1, 10000)] [] [(1, m), (9, 0), (1, 2), (9, 0), (1, 10000), (9, 0)] d_Ref_nearing_28 l_Ref_111 rfl rfl rfl rfl rfl rfl ?_
      refine r_isIn (by unfold zR at hm; unfold zR64; omega) (by unfold zR64; omega) (by unfold zR64; omega) ?_
      show ZE (d + 3) M_Ref_nearing (gw G A) 31 [(2, o), (0, c), (0, i), (0, wh), (0, m), (9, 0), (9, 0), (9, 0), (9, 0)] [(0, b2i (2 ≤ m ∧ m ≤ 10000))] _
      refine ZE.if_ne (tgt := 36) d_Ref_nearing_31 rfl (zR_b2i _) (fun c31 => ?_) (fun c31 => ?_)
      · replace c31 := b2i_n0.mp c31
        have hst := c6
        obtain ⟨hc0, hi0⟩ := c6
        have hc1 := of_decide_eq_true hc0
        have hcl0 := cls_le hS7 hp5
        obtain ⟨cn, hcn⟩ : ∃ cn : Nat, c = cn := ⟨c.toNat, by omega⟩
        subst hcn
        have hok := d1_ok (S := S) (k := cn) (by omega)
        have hcl := hR.c1 cn (by omega)
        have hux9 : nd 10000 (ux (d1 S cn)) ≤ 81 := (okD_ns hok.1).2.1
        have huy9 : nd 10000 (uy (d1 S cn)) ≤ 81 := (okD_ns hok.1).2.2
        have hnx : num (A (o + 2)) (2 * (cn : Int)) (ux (d1 S cn)) := hcl.2.2.1
        have hny : num (A (o + 2)) (2 * (cn : Int) + 1) (uy (d1 S cn)) := hcl.2.2.2
        have hcf := (okD_cf hok.1).1
        have hRb := hcf.2.2.2.2.2.1
        rw [Int.toNat_natCast] at hi0
        obtain ⟨im, him⟩ : ∃ im : Nat, i = im := ⟨i.toNat, by omega⟩
        subst him
        obtain ⟨mm, hmm⟩ : ∃ mm : Nat, m = mm := ⟨m.toNat, by omega⟩
        subst hmm
        have hr9 := hcf.2.2.2.2.2.2.2
        refine ZE.iload_n d_Ref_nearing_36 rfl ?_
        refine ZE.if_ne (tgt := 44) d_Ref_nearing_37 rfl (by unfold zR; omega) (fun c37 => ?_) (fun c37 => ?_)
        · refine ZE.iconst (n := 0) d_Ref_nearing_44 ?_
          refine ZE.istore (ls2 := [(2, o), (0, (cn : Int)), (0, (im : Int)), (0, wh), (0, (mm : Int)), (0, 0), (9, 0), (9, 0), (9, 0)]) d_Ref_nearing_45 (Nat.le_of_ble_eq_true rfl) rfl ?_
          refine ZE.iload_n d_Ref_nearing_47 rfl ?_
          refine ZE.if_ne (tgt := 63) d_Ref_nearing_48 rfl (by unfold zR; omega) (fun c48 => ?_) (fun c48 => ?_)
          · refine ZE.iconst (n := 1) d_Ref_nearing_63 ?_
            refine ZE.istore (ls2 := [(2, o), (0, (cn : Int)), (0, (im : Int)), (0, wh), (0, (mm : Int)), (0, 0), (0, 1), (9, 0), (9, 0)]) d_Ref_nearing_64 (Nat.le_of_ble_eq_true rfl) rfl ?_
            refine ZE.aload_n d_Ref_nearing_66 rfl ?_
            refine ZE.iload_n d_Ref_nearing_67 rfl ?_
            refine ZE.cV [(0, (cn : Int))] [] [(2, o), (0, (cn : Int))] d_Ref_nearing_68 l_Ref_131 rfl rfl rfl rfl rfl rfl hK.1 ?_
            refine r_begin (r := isq (d1 S cn)) hK hF (by omega) hcl.1 (fun A2 h2s g2 => ?_)
            show ZE (d + 3) M_Ref_nearing (gw G A2) 71 [(2, o), (0, (cn : Int)), (0, (im : Int)), (0, wh), (0, (mm : Int)), (0, 0), (0, 1), (9, 0), (9, 0)] [] _
            refine ZE.iconst (n := 0) d_Ref_nearing_71 ?_
            refine ZE.istore (ls2 := [(2, o), (0, (cn : Int)), (0, (im : Int)), (0, wh), (0, (mm : Int)), (0, 0), (0, 1), (0, 0), (9, 0)]) d_Ref_nearing_72 (Nat.le_of_ble_eq_true rfl) rfl ?_
            have w1 : (0 : Int) = ((neF (d1 S cn) (isq (d1 S cn)) wh mm 0).1 : Int) := by show _ = ((if wh = 0 then 1 else 0 : Nat) : Int); rw [if_neg (by omega)]; rfl
            have w2 : (1 : Int) = ((neF (d1 S cn) (isq (d1 S cn)) wh mm 0).2 : Int) := by show _ = ((if wh = 0 then isq (d1 S cn) % mm else 1 : Nat) : Int); rw [if_neg (by omega)]; rfl
            show ZE (d + 3) M_Ref_nearing (gw G A2) 74 [(2, o), (0, (cn : Int)), (0, (im : Int)), (0, wh), (0, (mm : Int)), (0, 0), (0, 1), (0, 0), (9, 0)] [] _
            refine (?_ : ∀ x5 x6 : Int, x5 = ((neF (d1 S cn) (isq (d1 S cn)) wh mm 0).1 : Int) → x6 = ((neF (d1 S cn) (isq (d1 S cn)) wh mm 0).2 : Int) → ZE (d + 3) M_Ref_nearing (gw G A2) 74 [(2, o), (0, (cn : Int)), (0, (im : Int)), (0, wh), (0, (mm : Int)), (0, x5), (0, x6), (0, 0), (9, 0)] [] P) _ _ w1 w2
            intro x5 x6 e5 e6
            rw [e5, e6]
            have L74 : ∀ (t : Nat) (j : Nat) (A1 : Int → Int → Int) (hj : j ≤ im) (h1s : goS A1 o (cf (d1 S cn) (isq (d1 S cn)) j)) (g1 : goF A A1 o), im - j < t → ZE (d + 3) M_Ref_nearing (gw G A1) 74 [(2, o), (0, (cn : Int)), (0, (im : Int)), (0, wh), (0, (mm : Int)), (0, ((neF (d1 S cn) (isq (d1 S cn)) wh mm j).1 : Int)), (0, ((neF (d1 S cn) (isq (d1 S cn)) wh mm j).2 : Int)), (0, (j : Int)), (9, 0)] [] P := by
              intro t
              induction t with
              | zero => intro j A1 hj h1s g1 hm; exact absurd hm (Nat.not_lt_zero _)
              | succ t ih =>
                intro j A1 hj h1s g1 hm
                have hA1 : RF A1 o := hF.go g1
                have hnr := neF_R (D := d1 S cn) (r := isq (d1 S cn)) (m := mm) (wh := wh) (by omega) j
                have hca := hcf.a (k := j + 1) (by omega)
                have hmu : (cf (d1 S cn) (isq (d1 S cn)) (j + 1)).2.2 * (neF (d1 S cn) (isq (d1 S cn)) wh mm j).2 ≤ 9999 * 10000 := Nat.mul_le_mul hca.1 (by omega)
                refine ZE.iload d_Ref_nearing_74 rfl ?_
                refine ZE.iload_n d_Ref_nearing_76 rfl ?_
                refine ZE.icmp_ge (tgt := 114) d_Ref_nearing_77 rfl (by unfold zR; omega) (by unfold zR; omega) (fun c77 => ?_) (fun c77 => ?_)
                · refine ZE.iload d_Ref_nearing_114 rfl ?_
                  refine ZE.iret d_Ref_nearing_116 rfl ?_
                  have k1 := k A1 g1.qu
                  rw [show neV S (cn : Int) (im : Int) wh (mm : Int) = ((neF (d1 S cn) (isq (d1 S cn)) wh mm j).2 : Int) by unfold neV; rw [if_pos hst, if_pos ⟨c16, by omega⟩, Int.toNat_natCast, Int.toNat_natCast, Int.toNat_natCast, show im = j by omega]] at k1
                  exact k1
                · refine ZE.aload_n d_Ref_nearing_80 rfl ?_
                  refine ZE.iload_n d_Ref_nearing_81 rfl ?_
                  have hqq := hR.q1 cn (by omega)
                  refine ZE.cV [(0, (cn : Int))] [] [(2, o), (0, (cn : Int))] d_Ref_nearing_82 l_Ref_134 rfl rfl rfl rfl rfl rfl hK.1 ?_
                  refine r_go (D := d1 S cn) (r := isq (d1 S cn)) (s := cf (d1 S cn) (isq (d1 S cn)) j) (q := rad ((csF S 1 128).getD cn 0)) hK hA1 (by omega) (by rw [g1.row (by omega)]; exact hqq) (Or.inl ⟨by omega, rfl⟩) (by rw [g1.row (by omega)]; exact hcl.1) h1s (hcf.1 _ (by omega)) (by have := hcf.2.2.2.2.2.2.1; omega) (by have := hcf.2.2.2.2.2.2.2; omega) (fun A3 h3s0 g3 => ?_)
                  show ZE (d + 3) M_Ref_nearing (gw G A3) 85 [(2, o), (0, (cn : Int)), (0, (im : Int)), (0, wh), (0, (mm : Int)), (0, ((neF (d1 S cn) (isq (d1 S cn)) wh mm j).1 : Int)), (0, ((neF (d1 S cn) (isq (d1 S cn)) wh mm j).2 : Int)), (0, (j : Int)), (9, 0)] [] _
                  have h3s : goS A3 o (cf (d1 S cn) (isq (d1 S cn)) (j + 1)) := h3s0
                  refine ZE.aload_n d_Ref_nearing_85 rfl ?_
                  refine ZE.getE (v := ((cf (d1 S cn) (isq (d1 S cn)) (j + 1)).2.2 : Int)) d_Ref_nearing_86 f_Ref_125 (tg := 0) rfl hK.1 h3s.2.2 ?_
                  refine ZE.iload d_Ref_nearing_89 rfl ?_
                  refine ZE.imul d_Ref_nearing_91 ?_
                  refine ZE.iload d_Ref_nearing_92 rfl ?_
                  refine ZE.iadd d_Ref_nearing_94 ?_
                  refine ZE.iload d_Ref_nearing_95 rfl ?_
                  refine ZE.iremP d_Ref_nearing_97 (by omega) ?_
                  rw [show (((((cf (d1 S cn) (isq (d1 S cn)) (j + 1)).2.2 : Int) * ((neF (d1 S cn) (isq (d1 S cn)) wh mm j).2 : Int)) + ((neF (d1 S cn) (isq (d1 S cn)) wh mm j).1 : Int)) % (mm : Int) : Int) = ((((cf (d1 S cn) (isq (d1 S cn)) (j + 1)).2.2 * (neF (d1 S cn) (isq (d1 S cn)) wh mm j).2 + (neF (d1 S cn) (isq (d1 S cn)) wh mm j).1) % mm : Nat) : Int) from (by rw [Int.natCast_emod, Int.natCast_add, Int.natCast_mul])]
                  refine ZE.istore (ls2 := [(2, o), (0, (cn : Int)), (0, (im : Int)), (0, wh), (0, (mm : Int)), (0, ((neF (d1 S cn) (isq (d1 S cn)) wh mm j).1 : Int)), (0, ((neF (d1 S cn) (isq (d1 S cn)) wh mm j).2 : Int)), (0, (j : Int)), (0, ((((cf (d1 S cn) (isq (d1 S cn)) (j + 1)).2.2 * (neF (d1 S cn) (isq (d1 S cn)) wh mm j).2 + (neF (d1 S cn) (isq (d1 S cn)) wh mm j).1) % mm : Nat) : Int))]) d_Ref_nearing_98 (Nat.le_of_ble_eq_true rfl) rfl ?_
                  refine ZE.iload d_Ref_nearing_100 rfl ?_
                  refine ZE.istore (ls2 := [(2, o), (0, (cn : Int)), (0, (im : Int)), (0, wh), (0, (mm : Int)), (0, ((neF (d1 S cn) (isq (d1 S cn)) wh mm j).2 : Int)), (0, ((neF (d1 S cn) (isq (d1 S cn)) wh mm j).2 : Int)), (0, (j : Int)), (0, ((((cf (d1 S cn) (isq (d1 S cn)) (j + 1)).2.2 * (neF (d1 S cn) (isq (d1 S cn)) wh mm j).2 + (neF (d1 S cn) (isq (d1 S cn)) wh mm j).1) % mm : Nat) : Int))]) d_Ref_nearing_102 (Nat.le_of_ble_eq_true rfl) rfl ?_
                  refine ZE.iload d_Ref_nearing_104 rfl ?_
                  refine ZE.istore (ls2 := [(2, o), (0, (cn : Int)), (0, (im : Int)), (0, wh), (0, (mm : Int)), (0, ((neF (d1 S cn) (isq (d1 S cn)) wh mm j).2 : Int)), (0, ((((cf (d1 S cn) (isq (d1 S cn)) (j + 1)).2.2 * (neF (d1 S cn) (isq (d1 S cn)) wh mm j).2 + (neF (d1 S cn) (isq (d1 S cn)) wh mm j).1) % mm : Nat) : Int)), (0, (j : Int)), (0, ((((cf (d1 S cn) (isq (d1 S cn)) (j + 1)).2.2 * (neF (d1 S cn) (isq (d1 S cn)) wh mm j).2 + (neF (d1 S cn) (isq (d1 S cn)) wh mm j).1) % mm : Nat) : Int))]) d_Ref_nearing_106 (Nat.le_of_ble_eq_true rfl) rfl ?_
                  refine ZE.iinc (ls2 := [(2, o), (0, (cn : Int)), (0, (im : Int)), (0, wh), (0, (mm : Int)), (0, ((neF (d1 S cn) (isq (d1 S cn)) wh mm j).2 : Int)), (0, ((((cf (d1 S cn) (isq (d1 S cn)) (j + 1)).2.2 * (neF (d1 S cn) (isq (d1 S cn)) wh mm j).2 + (neF (d1 S cn) (isq (d1 S cn)) wh mm j).1) % mm : Nat) : Int)), (0, (j : Int) + 1), (0, ((((cf (d1 S cn) (isq (d1 S cn)) (j + 1)).2.2 * (neF (d1 S cn) (isq (d1 S cn)) wh mm j).2 + (neF (d1 S cn) (isq (d1 S cn)) wh mm j).1) % mm : Nat) : Int))]) d_Ref_nearing_108 rfl rfl ?_
                  refine ZE.goto (tgt := 74) d_Ref_nearing_111 rfl ?_
                  refine ZE.mask [true, true, true, true, true, true, true, true, false] ?_
                  show ZE (d + 3) M_Ref_nearing (gw G A3) 74 [(2, o), (0, (cn : Int)), (0, (im : Int)), (0, wh), (0, (mm : Int)), (0, ((neF (d1 S cn) (isq (d1 S cn)) wh mm j).2 : Int)), (0, ((((cf (d1 S cn) (isq (d1 S cn)) (j + 1)).2.2 * (neF (d1 S cn) (isq (d1 S cn)) wh mm j).2 + (neF (d1 S cn) (isq (d1 S cn)) wh mm j).1) % mm : Nat) : Int)), (0, (j : Int) + 1), (9, 0)] [] _
                  rw [show (((cf (d1 S cn) (isq (d1 S cn)) (j + 1)).2.2 * (neF (d1 S cn) (isq (d1 S cn)) wh mm j).2 + (neF (d1 S cn) (isq (d1 S cn)) wh mm j).1) % mm : Nat) = (neF (d1 S cn) (isq (d1 S cn)) wh mm (j + 1)).2 from rfl, show (neF (d1 S cn) (isq (d1 S cn)) wh mm j).2 = (neF (d1 S cn) (isq (d1 S cn)) wh mm (j + 1)).1 from rfl, show (j : Int) + 1 = ((j + 1 : Nat) : Int) by omega]
                  exact ih (j + 1) A3 (by omega) h3s (g1.tr g3) (by omega)
            exact L74 _ 0 A2 (by omega) h2s g2 (Nat.lt_succ_self _)
          · refine ZE.aload_n d_Ref_nearing_51 rfl ?_
            refine ZE.getE (v := o + 4) d_Ref_nearing_52 f_Ref_19 (tg := 2) rfl hK.1 hF.a4 ?_
            refine ZE.iload_n d_Ref_nearing_55 rfl ?_
            refine ZE.ialdE (v := (isq (d1 S cn) : Int)) d_Ref_nearing_56 hK.k4 (by have hn0 := hK.n4; show 0 ≤ (cn : Int) ∧ (cn : Int) < gn G (o + 4); omega) hcl.1 ?_
            refine ZE.iload d_Ref_nearing_57 rfl ?_
            refine ZE.iremP d_Ref_nearing_59 (by omega) ?_
            rw [show ((isq (d1 S cn) : Int) % (mm : Int) : Int) = ((isq (d1 S cn) % mm : Nat) : Int) from (by omega)]
            refine ZE.goto (tgt := 64) d_Ref_nearing_60 rfl ?_
            refine ZE.istore (ls2 := [(2, o), (0, (cn : Int)), (0, (im : Int)), (0, wh), (0, (mm : Int)), (0, 0), (0, ((isq (d1 S cn) % mm : Nat) : Int)), (9, 0), (9, 0)]) d_Ref_nearing_64 (Nat.le_of_ble_eq_true rfl) rfl ?_
            refine ZE.aload_n d_Ref_nearing_66 rfl ?_
            refine ZE.iload_n d_Ref_nearing_67 rfl ?_
            refine ZE.cV [(0, (cn : Int))] [] [(2, o), (0, (cn : Int))] d_Ref_nearing_68 l_Ref_131 rfl rfl rfl rfl rfl rfl hK.1 ?_
            refine r_begin (r := isq (d1 S cn)) hK hF (by omega) hcl.1 (fun A2 h2s g2 => ?_)
            show ZE (d + 3) M_Ref_nearing (gw G A2) 71 [(2, o), (0, (cn : Int)), (0, (im : Int)), (0, wh), (0, (mm : Int)), (0, 0), (0, ((isq (d1 S cn) % mm : Nat) : Int)), (9, 0), (9, 0)] [] _
            refine ZE.iconst (n := 0) d_Ref_nearing_71 ?_
            refine ZE.istore (ls2 := [(2, o), (0, (cn : Int)), (0, (im : Int)), (0, wh), (0, (mm : Int)), (0, 0), (0, ((isq (d1 S cn) % mm : Nat) : Int)), (0, 0), (9, 0)]) d_Ref_nearing_72 (Nat.le_of_ble_eq_true rfl) rfl ?_
            have w1 : (0 : Int) = ((neF (d1 S cn) (isq (d1 S cn)) wh mm 0).1 : Int) := by show _ = ((if wh = 0 then 1 else 0 : Nat) : Int); rw [if_neg (by omega)]; rfl
            have w2 : (((isq (d1 S cn) % mm : Nat) : Int) : Int) = ((neF (d1 S cn) (isq (d1 S cn)) wh mm 0).2 : Int) := by show _ = ((if wh = 0 then isq (d1 S cn) % mm else 1 : Nat) : Int); rw [if_pos (by omega)]
            show ZE (d + 3) M_Ref_nearing (gw G A2) 74 [(2, o), (0, (cn : Int)), (0, (im : Int)), (0, wh), (0, (mm : Int)), (0, 0), (0, ((isq (d1 S cn) % mm : Nat) : Int)), (0, 0), (9, 0)] [] _
            refine (?_ : ∀ x5 x6 : Int, x5 = ((neF (d1 S cn) (isq (d1 S cn)) wh mm 0).1 : Int) → x6 = ((neF (d1 S cn) (isq (d1 S cn)) wh mm 0).2 : Int) → ZE (d + 3) M_Ref_nearing (gw G A2) 74 [(2, o), (0, (cn : Int)), (0, (im : Int)), (0, wh), (0, (mm : Int)), (0, x5), (0, x6), (0, 0), (9, 0)] [] P) _ _ w1 w2
            intro x5 x6 e5 e6
            rw [e5, e6]
            have L74 : ∀ (t : Nat) (j : Nat) (A1 : Int → Int → Int) (hj : j ≤ im) (h1s : goS A1 o (cf (d1 S cn) (isq (d1 S cn)) j)) (g1 : goF A A1 o), im - j < t → ZE (d + 3) M_Ref_nearing (gw G A1) 74 [(2, o), (0, (cn : Int)), (0, (im : Int)), (0, wh), (0, (mm : Int)), (0, ((neF (d1 S cn) (isq (d1 S cn)) wh mm j).1 : Int)), (0, ((neF (d1 S cn) (isq (d1 S cn)) wh mm j).2 : Int)), (0, (j : Int)), (9, 0)] [] P := by
              intro t
              induction t with
              | zero => intro j A1 hj h1s g1 hm; exact absurd hm (Nat.not_lt_zero _)
              | succ t ih =>
                intro j A1 hj h1s g1 hm
                have hA1 : RF A1 o := hF.go g1
                have hnr := neF_R (D := d1 S cn) (r := isq (d1 S cn)) (m := mm) (wh := wh) (by omega) j
                have hca := hcf.a (k := j + 1) (by omega)
                have hmu : (cf (d1 S cn) (isq (d1 S cn)) (j + 1)).2.2 * (neF (d1 S cn) (isq (d1 S cn)) wh mm j).2 ≤ 9999 * 10000 := Nat.mul_le_mul hca.1 (by omega)
                refine ZE.iload d_Ref_nearing_74 rfl ?_
                refine ZE.iload_n d_Ref_nearing_76 rfl ?_
                refine ZE.icmp_ge (tgt := 114) d_Ref_nearing_77 rfl (by unfold zR; omega) (by unfold zR; omega) (fun c77 => ?_) (fun c77 => ?_)
                · refine ZE.iload d_Ref_nearing_114 rfl ?_
                  refine ZE.iret d_Ref_nearing_116 rfl ?_
                  have k1 := k A1 g1.qu
                  rw [show neV S (cn : Int) (im : Int) wh (mm : Int) = ((neF (d1 S cn) (isq (d1 S cn)) wh mm j).2 : Int) by unfold neV; rw [if_pos hst, if_pos ⟨c16, by omega⟩, Int.toNat_natCast, Int.toNat_natCast, Int.toNat_natCast, show im = j by omega]] at k1
                  exact k1
                · refine ZE.aload_n d_Ref_nearing_80 rfl ?_
                  refine ZE.iload_n d_Ref_nearing_81 rfl ?_
                  have hqq := hR.q1 cn (by omega)
                  refine ZE.cV [(0, (cn : Int))] [] [(2, o), (0, (cn : Int))] d_Ref_nearing_82 l_Ref_134 rfl rfl rfl rfl rfl rfl hK.1 ?_
                  refine r_go (D := d1 S cn) (r := isq (d1 S cn)) (s := cf (d1 S cn) (isq (d1 S cn)) j) (q := rad ((csF S 1 128).getD cn 0)) hK hA1 (by omega) (by rw [g1.row (by omega)]; exact hqq) (Or.inl ⟨by omega, rfl⟩) (by rw [g1.row (by omega)]; exact hcl.1) h1s (hcf.1 _ (by omega)) (by have := hcf.2.2.2.2.2.2.1; omega) (by have := hcf.2.2.2.2.2.2.2; omega) (fun A3 h3s0 g3 => ?_)
                  show ZE (d + 3) M_Ref_nearing (gw G A3) 85 [(2, o), (0, (cn : Int)), (0, (im : Int)), (0, wh), (0, (mm : Int)), (0, ((neF (d1 S cn) (isq (d1 S cn)) wh mm j).1 : Int)), (0, ((neF (d1 S cn) (isq (d1 S cn)) wh mm j).2 : Int)), (0, (j : Int)), (9, 0)] [] _
                  have h3s : goS A3 o (cf (d1 S cn) (isq (d1 S cn)) (j + 1)) := h3s0
                  refine ZE.aload_n d_Ref_nearing_85 rfl ?_
                  refine ZE.getE (v := ((cf (d1 S cn) (isq (d1 S cn)) (j + 1)).2.2 : Int)) d_Ref_nearing_86 f_Ref_125 (tg := 0) rfl hK.1 h3s.2.2 ?_
                  refine ZE.iload d_Ref_nearing_89 rfl ?_
                  refine ZE.imul d_Ref_nearing_91 ?_
                  refine ZE.iload d_Ref_nearing_92 rfl ?_
                  refine ZE.iadd d_Ref_nearing_94 ?_
                  refine ZE.iload d_Ref_nearing_95 rfl ?_
                  refine ZE.iremP d_Ref_nearing_97 (by omega) ?_
                  rw [show (((((cf (d1 S cn) (isq (d1 S cn)) (j + 1)).2.2 : Int) * ((neF (d1 S cn) (isq (d1 S cn)) wh mm j).2 : Int)) + ((neF (d1 S cn) (isq (d1 S cn)) wh mm j).1 : Int)) % (mm : Int) : Int) = ((((cf (d1 S cn) (isq (d1 S cn)) (j + 1)).2.2 * (neF (d1 S cn) (isq (d1 S cn)) wh mm j).2 + (neF (d1 S cn) (isq (d1 S cn)) wh mm j).1) % mm : Nat) : Int) from (by rw [Int.natCast_emod, Int.natCast_add, Int.natCast_mul])]
                  refine ZE.istore (ls2 := [(2, o), (0, (cn : Int)), (0, (im : Int)), (0, wh), (0, (mm : Int)), (0, ((neF (d1 S cn) (isq (d1 S cn)) wh mm j).1 : Int)), (0, ((neF (d1 S cn) (isq (d1 S cn)) wh mm j).2 : Int)), (0, (j : Int)), (0, ((((cf (d1 S cn) (isq (d1 S cn)) (j + 1)).2.2 * (neF (d1 S cn) (isq (d1 S cn)) wh mm j).2 + (neF (d1 S cn) (isq (d1 S cn)) wh mm j).1) % mm : Nat) : Int))]) d_Ref_nearing_98 (Nat.le_of_ble_eq_true rfl) rfl ?_
                  refine ZE.iload d_Ref_nearing_100 rfl ?_
                  refine ZE.istore (ls2 := [(2, o), (0, (cn : Int)), (0, (im : Int)), (0, wh), (0, (mm : Int)), (0, ((neF (d1 S cn) (isq (d1 S cn)) wh mm j).2 : Int)), (0, ((neF (d1 S cn) (isq (d1 S cn)) wh mm j).2 : Int)), (0, (j : Int)), (0, ((((cf (d1 S cn) (isq (d1 S cn)) (j + 1)).2.2 * (neF (d1 S cn) (isq (d1 S cn)) wh mm j).2 + (neF (d1 S cn) (isq (d1 S cn)) wh mm j).1) % mm : Nat) : Int))]) d_Ref_nearing_102 (Nat.le_of_ble_eq_true rfl) rfl ?_
                  refine ZE.iload d_Ref_nearing_104 rfl ?_
                  refine ZE.istore (ls2 := [(2, o), (0, (cn : Int)), (0, (im : Int)), (0, wh), (0, (mm : Int)), (0, ((neF (d1 S cn) (isq (d1 S cn)) wh mm j).2 : Int)), (0, ((((cf (d1 S cn) (isq (d1 S cn)) (j + 1)).2.2 * (neF (d1 S cn) (isq (d1 S cn)) wh mm j).2 + (neF (d1 S cn) (isq (d1 S cn)) wh mm j).1) % mm : Nat) : Int)), (0, (j : Int)), (0, ((((cf (d1 S cn) (isq (d1 S cn)) (j + 1)).2.2 * (neF (d1 S cn) (isq (d1 S cn)) wh mm j).2 + (neF (d1 S cn) (isq (d1 S cn)) wh mm j).1) % mm : Nat) : Int))]) d_Ref_nearing_106 (Nat.le_of_ble_eq_true rfl) rfl ?_
                  refine ZE.iinc (ls2 := [(2, o), (0, (cn : Int)), (0, (im : Int)), (0, wh), (0, (mm : Int)), (0, ((neF (d1 S cn) (isq (d1 S cn)) wh mm j).2 : Int)), (0, ((((cf (d1 S cn) (isq (d1 S cn)) (j + 1)).2.2 * (neF (d1 S cn) (isq (d1 S cn)) wh mm j).2 + (neF (d1 S cn) (isq (d1 S cn)) wh mm j).1) % mm : Nat) : Int)), (0, (j : Int) + 1), (0, ((((cf (d1 S cn) (isq (d1 S cn)) (j + 1)).2.2 * (neF (d1 S cn) (isq (d1 S cn)) wh mm j).2 + (neF (d1 S cn) (isq (d1 S cn)) wh mm j).1) % mm : Nat) : Int))]) d_Ref_nearing_108 rfl rfl ?_
                  refine ZE.goto (tgt := 74) d_Ref_nearing_111 rfl ?_
                  refine ZE.mask [true, true, true, true, true, true, true, true, false] ?_
                  show ZE (d + 3) M_Ref_nearing (gw G A3) 74 [(2, o), (0, (cn : Int)), (0, (im : Int)), (0, wh), (0, (mm : Int)), (0, ((neF (d1 S cn) (isq (d1 S cn)) wh mm j).2 : Int)), (0, ((((cf (d1 S cn) (isq (d1 S cn)) (j + 1)).2.2 * (neF (d1 S cn) (isq (d1 S cn)) wh mm j).2 + (neF (d1 S cn) (isq (d1 S cn)) wh mm j).1) % mm : Nat) : Int)), (0, (j : Int) + 1), (9, 0)] [] _
                  rw [show (((cf (d1 S cn) (isq (d1 S cn)) (j + 1)).2.2 * (neF (d1 S cn) (isq (d1 S cn)) wh mm j).2 + (neF (d1 S cn) (isq (d1 S cn)) wh mm j).1) % mm : Nat) = (neF (d1 S cn) (isq (d1 S cn)) wh mm (j + 1)).2 from rfl, show (neF (d1 S cn) (isq (d1 S cn)) wh mm j).2 = (neF (d1 S cn) (isq (d1 S cn)) wh mm (j + 1)).1 from rfl, show (j : Int) + 1 = ((j + 1 : Nat) : Int) by omega]
                  exact ih (j + 1) A3 (by omega) h3s (g1.tr g3) (by omega)
            exact L74 _ 0 A2 (by omega) h2s g2 (Nat.lt_succ_self _)
        · refine ZE.iconst (n := 1) d_Ref_nearing_40 ?_
          refine ZE.goto (tgt := 45) d_Ref_nearing_41 rfl ?_
          refine ZE.istore (ls2 := [(2, o), (0, (cn : Int)), (0, (im : Int)), (0, wh), (0, (mm : Int)), (0, 1), (9, 0), (9, 0), (9, 0)]) d_Ref_nearing_45 (Nat.le_of_ble_eq_true rfl) rfl ?_
          refine ZE.iload_n d_Ref_nearing_47 rfl ?_
          refine ZE.if_ne (tgt := 63) d_Ref_nearing_48 rfl (by unfold zR; omega) (fun c48 => ?_) (fun c48 => ?_)
          · refine ZE.iconst (n := 1) d_Ref_nearing_63 ?_
            refine ZE.istore (ls2 := [(2, o), (0, (cn : Int)), (0, (im : Int)), (0, wh), (0, (mm : Int)), (0, 1), (0, 1), (9, 0), (9, 0)]) d_Ref_nearing_64 (Nat.le_of_ble_eq_true rfl) rfl ?_
            refine ZE.aload_n d_Ref_nearing_66 rfl ?_
            refine ZE.iload_n d_Ref_nearing_67 rfl ?_
            refine ZE.cV [(0, (cn : Int))] [] [(2, o), (0, (cn : Int))] d_Ref_nearing_68 l_Ref_131 rfl rfl rfl rfl rfl rfl hK.1 ?_
            refine r_begin (r := isq (d1 S cn)) hK hF (by omega) hcl.1 (fun A2 h2s g2 => ?_)
            show ZE (d + 3) M_Ref_nearing (gw G A2) 71 [(2, o), (0, (cn : Int)), (0, (im : Int)), (0, wh), (0, (mm : Int)), (0, 1), (0, 1), (9, 0), (9, 0)] [] _
            refine ZE.iconst (n := 0) d_Ref_nearing_71 ?_
            refine ZE.istore (ls2 := [(2, o), (0, (cn : Int)), (0, (im : Int)), (0, wh), (0, (mm : Int)), (0, 1), (0, 1), (0, 0), (9, 0)]) d_Ref_nearing_72 (Nat.le_of_ble_eq_true rfl) rfl ?_
            have w1 : (1 : Int) = ((neF (d1 S cn) (isq (d1 S cn)) wh mm 0).1 : Int) := by show _ = ((if wh = 0 then 1 else 0 : Nat) : Int); rw [if_pos (by omega)]; rfl
            have w2 : (1 : Int) = ((neF (d1 S cn) (isq (d1 S cn)) wh mm 0).2 : Int) := by show _ = ((if wh = 0 then isq (d1 S cn) % mm else 1 : Nat) : Int); rw [if_neg (by omega)]; rfl
            show ZE (d + 3) M_Ref_nearing (gw G A2) 74 [(2, o), (0, (cn : Int)), (0, (im : Int)), (0, wh), (0, (mm : Int)), (0, 1), (0, 1), (0, 0), (9, 0)] [] _
            refine (?_ : ∀ x5 x6 : Int, x5 = ((neF (d1 S cn) (isq (d1 S cn)) wh mm 0).1 : Int) → x6 = ((neF (d1 S cn) (isq (d1 S cn)) wh mm 0).2 : Int) → ZE (d + 3) M_Ref_nearing (gw G A2) 74 [(2, o), (0, (cn : Int)), (0, (im : Int)), (0, wh), (0, (mm : Int)), (0, x5), (0, x6), (0, 0), (9, 0)] [] P) _ _ w1 w2
            intro x5 x6 e5 e6
            rw [e5, e6]
            have L74 : ∀ (t : Nat) (j : Nat) (A1 : Int → Int → Int) (hj : j ≤ im) (h1s : goS A1 o (cf (d1 S cn) (isq (d1 S cn)) j)) (g1 : goF A A1 o), im - j < t → ZE (d + 3) M_Ref_nearing (gw G A1) 74 [(2, o), (0, (cn : Int)), (0, (im : Int)), (0, wh), (0, (mm : Int)), (0, ((neF (d1 S cn) (isq (d1 S cn)) wh mm j).1 : Int)), (0, ((neF (d1 S cn) (isq (d1 S cn)) wh mm j).2 : Int)), (0, (j : Int)), (9, 0)] [] P := by
              intro t
              induction t with
              | zero => intro j A1 hj h1s g1 hm; exact absurd hm (Nat.not_lt_zero _)
              | succ t ih =>
                intro j A1 hj h1s g1 hm
                have hA1 : RF A1 o := hF.go g1
                have hnr := neF_R (D := d1 S cn) (r := isq (d1 S cn)) (m := mm) (wh := wh) (by omega) j
                have hca := hcf.a (k := j + 1) (by omega)
                have hmu : (cf (d1 S cn) (isq (d1 S cn)) (j + 1)).2.2 * (neF (d1 S cn) (isq (d1 S cn)) wh mm j).2 ≤ 9999 * 10000 := Nat.mul_le_mul hca.1 (by omega)
                refine ZE.iload d_Ref_nearing_74 rfl ?_
                refine ZE.iload_n d_Ref_nearing_76 rfl ?_
                refine ZE.icmp_ge (tgt := 114) d_Ref_nearing_77 rfl (by unfold zR; omega) (by unfold zR; omega) (fun c77 => ?_) (fun c77 => ?_)
                · refine ZE.iload d_Ref_nearing_114 rfl ?_
                  refine ZE.iret d_Ref_nearing_116 rfl ?_
                  have k1 := k A1 g1.qu
                  rw [show neV S (cn : Int) (im : Int) wh (mm : Int) = ((neF (d1 S cn) (isq (d1 S cn)) wh mm j).2 : Int) by unfold neV; rw [if_pos hst, if_pos ⟨c16, by omega⟩, Int.toNat_natCast, Int.toNat_natCast, Int.toNat_natCast, show im = j by omega]] at k1
                  exact k1
                · refine ZE.aload_n d_Ref_nearing_80 rfl ?_
                  refine ZE.iload_n d_Ref_nearing_81 rfl ?_
                  have hqq := hR.q1 cn (by omega)
                  refine ZE.cV [(0, (cn : Int))] [] [(2, o), (0, (cn : Int))] d_Ref_nearing_82 l_Ref_134 rfl rfl rfl rfl rfl rfl hK.1 ?_
                  refine r_go (D := d1 S cn) (r := isq (d1 S cn)) (s := cf (d1 S cn) (isq (d1 S cn)) j) (q := rad ((csF S 1 128).getD cn 0)) hK hA1 (by omega) (by rw [g1.row (by omega)]; exact hqq) (Or.inl ⟨by omega, rfl⟩) (by rw [g1.row (by omega)]; exact hcl.1) h1s (hcf.1 _ (by omega)) (by have := hcf.2.2.2.2.2.2.1; omega) (by have := hcf.2.2.2.2.2.2.2; omega) (fun A3 h3s0 g3 => ?_)
                  show ZE (d + 3) M_Ref_nearing (gw G A3) 85 [(2, o), (0, (cn : Int)), (0, (im : Int)), (0, wh), (0, (mm : Int)), (0, ((neF (d1 S cn) (isq (d1 S cn)) wh mm j).1 : Int)), (0, ((neF (d1 S cn) (isq (d1 S cn)) wh mm j).2 : Int)), (0, (j : Int)), (9, 0)] [] _
                  have h3s : goS A3 o (cf (d1 S cn) (isq (d1 S cn)) (j + 1)) := h3s0
                  refine ZE.aload_n d_Ref_nearing_85 rfl ?_
                  refine ZE.getE (v := ((cf (d1 S cn) (isq (d1 S cn)) (j + 1)).2.2 : Int)) d_Ref_nearing_86 f_Ref_125 (tg := 0) rfl hK.1 h3s.2.2 ?_
                  refine ZE.iload d_Ref_nearing_89 rfl ?_
                  refine ZE.imul d_Ref_nearing_91 ?_
                  refine ZE.iload d_Ref_nearing_92 rfl ?_
                  refine ZE.iadd d_Ref_nearing_94 ?_
                  refine ZE.iload d_Ref_nearing_95 rfl ?_
                  refine ZE.iremP d_Ref_nearing_97 (by omega) ?_
                  rw [show (((((cf (d1 S cn) (isq (d1 S cn)) (j + 1)).2.2 : Int) * ((neF (d1 S cn) (isq (d1 S cn)) wh mm j).2 : Int)) + ((neF (d1 S cn) (isq (d1 S cn)) wh mm j).1 : Int)) % (mm : Int) : Int) = ((((cf (d1 S cn) (isq (d1 S cn)) (j + 1)).2.2 * (neF (d1 S cn) (isq (d1 S cn)) wh mm j).2 + (neF (d1 S cn) (isq (d1 S cn)) wh mm j).1) % mm : Nat) : Int) from (by rw [Int.natCast_emod, Int.natCast_add, Int.natCast_mul])]
                  refine ZE.istore (ls2 := [(2, o), (0, (cn : Int)), (0, (im : Int)), (0, wh), (0, (mm : Int)), (0, ((neF (d1 S cn) (isq (d1 S cn)) wh mm j).1 : Int)), (0, ((neF (d1 S cn) (isq (d1 S cn)) wh mm j).2 : Int)), (0, (j : Int)), (0, ((((cf (d1 S cn) (isq (d1 S cn)) (j + 1)).2.2 * (neF (d1 S cn) (isq (d1 S cn)) wh mm j).2 + (neF (d1 S cn) (isq (d1 S cn)) wh mm j).1) % mm : Nat) : Int))]) d_Ref_nearing_98 (Nat.le_of_ble_eq_true rfl) rfl ?_
                  refine ZE.iload d_Ref_nearing_100 rfl ?_
                  refine ZE.istore (ls2 := [(2, o), (0, (cn : Int)), (0, (im : Int)), (0, wh), (0, (mm : Int)), (0, ((neF (d1 S cn) (isq (d1 S cn)) wh mm j).2 : Int)), (0, ((neF (d1 S cn) (isq (d1 S cn)) wh mm j).2 : Int)), (0, (j : Int)), (0, ((((cf (d1 S cn) (isq (d1 S cn)) (j + 1)).2.2 * (neF (d1 S cn) (isq (d1 S cn)) wh mm j).2 + (neF (d1 S cn) (isq (d1 S cn)) wh mm j).1) % mm : Nat) : Int))]) d_Ref_nearing_102 (Nat.le_of_ble_eq_true rfl) rfl ?_
                  refine ZE.iload d_Ref_nearing_104 rfl ?_
                  refine ZE.istore (ls2 := [(2, o), (0, (cn : Int)), (0, (im : Int)), (0, wh), (0, (mm : Int)), (0, ((neF (d1 S cn) (isq (d1 S cn)) wh mm j).2 : Int)), (0, ((((cf (d1 S cn) (isq (d1 S cn)) (j + 1)).2.2 * (neF (d1 S cn) (isq (d1 S cn)) wh mm j).2 + (neF (d1 S cn) (isq (d1 S cn)) wh mm j).1) % mm : Nat) : Int)), (0, (j : Int)), (0, ((((cf (d1 S cn) (isq (d1 S cn)) (j + 1)).2.2 * (neF (d1 S cn) (isq (d1 S cn)) wh mm j).2 + (neF (d1 S cn) (isq (d1 S cn)) wh mm j).1) % mm : Nat) : Int))]) d_Ref_nearing_106 (Nat.le_of_ble_eq_true rfl) rfl ?_
                  refine ZE.iinc (ls2 := [(2, o), (0, (cn : Int)), (0, (im : Int)), (0, wh), (0, (mm : Int)), (0, ((neF (d1 S cn) (isq (d1 S cn)) wh mm j).2 : Int)), (0, ((((cf (d1 S cn) (isq (d1 S cn)) (j + 1)).2.2 * (neF (d1 S cn) (isq (d1 S cn)) wh mm j).2 + (neF (d1 S cn) (isq (d1 S cn)) wh mm j).1) % mm : Nat) : Int)), (0, (j : Int) + 1), (0, ((((cf (d1 S cn) (isq (d1 S cn)) (j + 1)).2.2 * (neF (d1 S cn) (isq (d1 S cn)) wh mm j).2 + (neF (d1 S cn) (isq (d1 S cn)) wh mm j).1) % mm : Nat) : Int))]) d_Ref_nearing_108 rfl rfl ?_
                  refine ZE.goto (tgt := 74) d_Ref_nearing_111 rfl ?_
                  refine ZE.mask [true, true, true, true, true, true, true, true, false] ?_
                  show ZE (d + 3) M_Ref_nearing (gw G A3) 74 [(2, o), (0, (cn : Int)), (0, (im : Int)), (0, wh), (0, (mm : Int)), (0, ((neF (d1 S cn) (isq (d1 S cn)) wh mm j).2 : Int)), (0, ((((cf (d1 S cn) (isq (d1 S cn)) (j + 1)).2.2 * (neF (d1 S cn) (isq (d1 S cn)) wh mm j).2 + (neF (d1 S cn) (isq (d1 S cn)) wh mm j).1) % mm : Nat) : Int)), (0, (j : Int) + 1), (9, 0)] [] _
                  rw [show (((cf (d1 S cn) (isq (d1 S cn)) (j + 1)).2.2 * (neF (d1 S cn) (isq (d1 S cn)) wh mm j).2 + (neF (d1 S cn) (isq (d1 S cn)) wh mm j).1) % mm : Nat) = (neF (d1 S cn) (isq (d1 S cn)) wh mm (j + 1)).2 from rfl, show (neF (d1 S cn) (isq (d1 S cn)) wh mm j).2 = (neF (d1 S cn) (isq (d1 S cn)) wh mm (j + 1)).1 from rfl, show (j : Int) + 1 = ((j + 1 : Nat) : Int) by omega]
                  exact ih (j + 1) A3 (by omega) h3s (g1.tr g3) (by omega)
            exact L74 _ 0 A2 (by omega) h2s g2 (Nat.lt_succ_self _)
          · refine ZE.aload_n d_Ref_nearing_51 rfl ?_
            refine ZE.getE (v := o + 4) d_Ref_nearing_52 f_Ref_19 (tg := 2) rfl hK.1 hF.a4 ?_
            refine ZE.iload_n d_Ref_nearing_55 rfl ?_
            refine ZE.ialdE (v := (isq (d1 S cn) : Int)) d_Ref_nearing_56 hK.k4 (by have hn0 := hK.n4; show 0 ≤ (cn : Int) ∧ (cn : Int) < gn G (o + 4); omega) hcl.1 ?_
            refine ZE.iload d_Ref_nearing_57 rfl ?_
            refine ZE.iremP d_Ref_nearing_59 (by omega) ?_
            rw [show ((isq (d1 S cn) : Int) % (mm : Int) : Int) = ((isq (d1 S cn) % mm : Nat) : Int) from (by omega)]
            refine ZE.goto (tgt := 64) d_Ref_nearing_60 rfl ?_
            refine ZE.istore (ls2 := [(2, o), (0, (cn : Int)), (0, (im : Int)), (0, wh), (0, (mm : Int)), (0, 1), (0, ((isq (d1 S cn) % mm : Nat) : Int)), (9, 0), (9, 0)]) d_Ref_nearing_64 (Nat.le_of_ble_eq_true rfl) rfl ?_
            refine ZE.aload_n d_Ref_nearing_66 rfl ?_
            refine ZE.iload_n d_Ref_nearing_67 rfl ?_
            refine ZE.cV [(0, (cn : Int))] [] [(2, o), (0, (cn : Int))] d_Ref_nearing_68 l_Ref_131 rfl rfl rfl rfl rfl rfl hK.1 ?_
            refine r_begin (r := isq (d1 S cn)) hK hF (by omega) hcl.1 (fun A2 h2s g2 => ?_)
            show ZE (d + 3) M_Ref_nearing (gw G A2) 71 [(2, o), (0, (cn : Int)), (0, (im : Int)), (0, wh), (0, (mm : Int)), (0, 1), (0, ((isq (d1 S cn) % mm : Nat) : Int)), (9, 0), (9, 0)] [] _
            refine ZE.iconst (n := 0) d_Ref_nearing_71 ?_
            refine ZE.istore (ls2 := [(2, o), (0, (cn : Int)), (0, (im : Int)), (0, wh), (0, (mm : Int)), (0, 1), (0, ((isq (d1 S cn) % mm : Nat) : Int)), (0, 0), (9, 0)]) d_Ref_nearing_72 (Nat.le_of_ble_eq_true rfl) rfl ?_
            have w1 : (1 : Int) = ((neF (d1 S cn) (isq (d1 S cn)) wh mm 0).1 : Int) := by show _ = ((if wh = 0 then 1 else 0 : Nat) : Int); rw [if_pos (by omega)]; rfl
            have w2 : (((isq (d1 S cn) % mm : Nat) : Int) : Int) = ((neF (d1 S cn) (isq (d1 S cn)) wh mm 0).2 : Int) := by show _ = ((if wh = 0 then isq (d1 S cn) % mm else 1 : Nat) : Int); rw [if_pos (by omega)]
            show ZE (d + 3) M_Ref_nearing (gw G A2) 74 [(2, o), (0, (cn : Int)), (0, (im : Int)), (0, wh), (0, (mm : Int)), (0, 1), (0, ((isq (d1 S cn) % mm : Nat) : Int)), (0, 0), (9, 0)] [] _
            refine (?_ : ∀ x5 x6 : Int, x5 = ((neF (d1 S cn) (isq (d1 S cn)) wh mm 0).1 : Int) → x6 = ((neF (d1 S cn) (isq (d1 S cn)) wh mm 0).2 : Int) → ZE (d + 3) M_Ref_nearing (gw G A2) 74 [(2, o), (0, (cn : Int)), (0, (im : Int)), (0, wh), (0, (mm : Int)), (0, x5), (0, x6), (0, 0), (9, 0)] [] P) _ _ w1 w2
            intro x5 x6 e5 e6
            rw [e5, e6]
            have L74 : ∀ (t : Nat) (j : Nat) (A1 : Int → Int → Int) (hj : j ≤ im) (h1s : goS A1 o (cf (d1 S cn) (isq (d1 S cn)) j)) (g1 : goF A A1 o), im - j < t → ZE (d + 3) M_Ref_nearing (gw G A1) 74 [(2, o), (0, (cn : Int)), (0, (im : Int)), (0, wh), (0, (mm : Int)), (0, ((neF (d1 S cn) (isq (d1 S cn)) wh mm j).1 : Int)), (0, ((neF (d1 S cn) (isq (d1 S cn)) wh mm j).2 : Int)), (0, (j : Int)), (9, 0)] [] P := by
              intro t
              induction t with
              | zero => intro j A1 hj h1s g1 hm; exact absurd hm (Nat.not_lt_zero _)
              | succ t ih =>
                intro j A1 hj h1s g1 hm
                have hA1 : RF A1 o := hF.go g1
                have hnr := neF_R (D := d1 S cn) (r := isq (d1 S cn)) (m := mm) (wh := wh) (by omega) j
                have hca := hcf.a (k := j + 1) (by omega)
                have hmu : (cf (d1 S cn) (isq (d1 S cn)) (j + 1)).2.2 * (neF (d1 S cn) (isq (d1 S cn)) wh mm j).2 ≤ 9999 * 10000 := Nat.mul_le_mul hca.1 (by omega)
                refine ZE.iload d_Ref_nearing_74 rfl ?_
                refine ZE.iload_n d_Ref_nearing_76 rfl ?_
                refine ZE.icmp_ge (tgt := 114) d_Ref_nearing_77 rfl (by unfold zR; omega) (by unfold zR; omega) (fun c77 => ?_) (fun c77 => ?_)
                · refine ZE.iload d_Ref_nearing_114 rfl ?_
                  refine ZE.iret d_Ref_nearing_116 rfl ?_
                  have k1 := k A1 g1.qu
                  rw [show neV S (cn : Int) (im : Int) wh (mm : Int) = ((neF (d1 S cn) (isq (d1 S cn)) wh mm j).2 : Int) by unfold neV; rw [if_pos hst, if_pos ⟨c16, by omega⟩, Int.toNat_natCast, Int.toNat_natCast, Int.toNat_natCast, show im = j by omega]] at k1
                  exact k1
                · refine ZE.aload_n d_Ref_nearing_80 rfl ?_
                  refine ZE.iload_n d_Ref_nearing_81 rfl ?_
                  have hqq := hR.q1 cn (by omega)
                  refine ZE.cV [(0, (cn : Int))] [] [(2, o), (0, (cn : Int))] d_Ref_nearing_82 l_Ref_134 rfl rfl rfl rfl rfl rfl hK.1 ?_
                  refine r_go (D := d1 S cn) (r := isq (d1 S cn)) (s := cf (d1 S cn) (isq (d1 S cn)) j) (q := rad ((csF S 1 128).getD cn 0)) hK hA1 (by omega) (by rw [g1.row (by omega)]; exact hqq) (Or.inl ⟨by omega, rfl⟩) (by rw [g1.row (by omega)]; exact hcl.1) h1s (hcf.1 _ (by omega)) (by have := hcf.2.2.2.2.2.2.1; omega) (by have := hcf.2.2.2.2.2.2.2; omega) (fun A3 h3s0 g3 => ?_)
                  show ZE (d + 3) M_Ref_nearing (gw G A3) 85 [(2, o), (0, (cn : Int)), (0, (im : Int)), (0, wh), (0, (mm : Int)), (0, ((neF (d1 S cn) (isq (d1 S cn)) wh mm j).1 : Int)), (0, ((neF (d1 S cn) (isq (d1 S cn)) wh mm j).2 : Int)), (0, (j : Int)), (9, 0)] [] _
                  have h3s : goS A3 o (cf (d1 S cn) (isq (d1 S cn)) (j + 1)) := h3s0
                  refine ZE.aload_n d_Ref_nearing_85 rfl ?_
                  refine ZE.getE (v := ((cf (d1 S cn) (isq (d1 S cn)) (j + 1)).2.2 : Int)) d_Ref_nearing_86 f_Ref_125 (tg := 0) rfl hK.1 h3s.2.2 ?_
                  refine ZE.iload d_Ref_nearing_89 rfl ?_
                  refine ZE.imul d_Ref_nearing_91 ?_
                  refine ZE.iload d_Ref_nearing_92 rfl ?_
                  refine ZE.iadd d_Ref_nearing_94 ?_
                  refine ZE.iload d_Ref_nearing_95 rfl ?_
                  refine ZE.iremP d_Ref_nearing_97 (by omega) ?_
                  rw [show (((((cf (d1 S cn) (isq (d1 S cn)) (j + 1)).2.2 : Int) * ((neF (d1 S cn) (isq (d1 S cn)) wh mm j).2 : Int)) + ((neF (d1 S cn) (isq (d1 S cn)) wh mm j).1 : Int)) % (mm : Int) : Int) = ((((cf (d1 S cn) (isq (d1 S cn)) (j + 1)).2.2 * (neF (d1 S cn) (isq (d1 S cn)) wh mm j).2 + (neF (d1 S cn) (isq (d1 S cn)) wh mm j).1) % mm : Nat) : Int) from (by rw [Int.natCast_emod, Int.natCast_add, Int.natCast_mul])]
                  refine ZE.istore (ls2 := [(2, o), (0, (cn : Int)), (0, (im : Int)), (0, wh), (0, (mm : Int)), (0, ((neF (d1 S cn) (isq (d1 S cn)) wh mm j).1 : Int)), (0, ((neF (d1 S cn) (isq (d1 S cn)) wh mm j).2 : Int)), (0, (j : Int)), (0, ((((cf (d1 S cn) (isq (d1 S cn)) (j + 1)).2.2 * (neF (d1 S cn) (isq (d1 S cn)) wh mm j).2 + (neF (d1 S cn) (isq (d1 S cn)) wh mm j).1) % mm : Nat) : Int))]) d_Ref_nearing_98 (Nat.le_of_ble_eq_true rfl) rfl ?_
                  refine ZE.iload d_Ref_nearing_100 rfl ?_
                  refine ZE.istore (ls2 := [(2, o), (0, (cn : Int)), (0, (im : Int)), (0, wh), (0, (mm : Int)), (0, ((neF (d1 S cn) (isq (d1 S cn)) wh mm j).2 : Int)), (0, ((neF (d1 S cn) (isq (d1 S cn)) wh mm j).2 : Int)), (0, (j : Int)), (0, ((((cf (d1 S cn) (isq (d1 S cn)) (j + 1)).2.2 * (neF (d1 S cn) (isq (d1 S cn)) wh mm j).2 + (neF (d1 S cn) (isq (d1 S cn)) wh mm j).1) % mm : Nat) : Int))]) d_Ref_nearing_102 (Nat.le_of_ble_eq_true rfl) rfl ?_
                  refine ZE.iload d_Ref_nearing_104 rfl ?_
                  refine ZE.istore (ls2 := [(2, o), (0, (cn : Int)), (0, (im : Int)), (0, wh), (0, (mm : Int)), (0, ((neF (d1 S cn) (isq (d1 S cn)) wh mm j).2 : Int)), (0, ((((cf (d1 S cn) (isq (d1 S cn)) (j + 1)).2.2 * (neF (d1 S cn) (isq (d1 S cn)) wh mm j).2 + (neF (d1 S cn) (isq (d1 S cn)) wh mm j).1) % mm : Nat) : Int)), (0, (j : Int)), (0, ((((cf (d1 S cn) (isq (d1 S cn)) (j + 1)).2.2 * (neF (d1 S cn) (isq (d1 S cn)) wh mm j).2 + (neF (d1 S cn) (isq (d1 S cn)) wh mm j).1) % mm : Nat) : Int))]) d_Ref_nearing_106 (Nat.le_of_ble_eq_true rfl) rfl ?_
                  refine ZE.iinc (ls2 := [(2, o), (0, (cn : Int)), (0, (im : Int)), (0, wh), (0, (mm : Int)), (0, ((neF (d1 S cn) (isq (d1 S cn)) wh mm j).2 : Int)), (0, ((((cf (d1 S cn) (isq (d1 S cn)) (j + 1)).2.2 * (neF (d1 S cn) (isq (d1 S cn)) wh mm j).2 + (neF (d1 S cn) (isq (d1 S cn)) wh mm j).1) % mm : Nat) : Int)), (0, (j : Int) + 1), (0, ((((cf (d1 S cn) (isq (d1 S cn)) (j + 1)).2.2 * (neF (d1 S cn) (isq (d1 S cn)) wh mm j).2 + (neF (d1 S cn) (isq (d1 S cn)) wh mm j).1) % mm : Nat) : Int))]) d_Ref_nearing_108 rfl rfl ?_
                  refine ZE.goto (tgt := 74) d_Ref_nearing_111 rfl ?_
                  refine ZE.mask [true, true, true, true, true, true, true, true, false] ?_
                  show ZE (d + 3) M_Ref_nearing (gw G A3) 74 [(2, o), (0, (cn : Int)), (0, (im : Int)), (0, wh), (0, (mm : Int)), (0, ((neF (d1 S cn) (isq (d1 S cn)) wh mm j).2 : Int)), (0, ((((cf (d1 S cn) (isq (d1 S cn)) (j + 1)).2.2 * (neF (d1 S cn) (isq (d1 S cn)) wh mm j).2 + (neF (d1 S cn) (isq (d1 S cn)) wh mm j).1) % mm : Nat) : Int)), (0, (j : Int) + 1), (9, 0)] [] _
                  rw [show (((cf (d1 S cn) (isq (d1 S cn)) (j + 1)).2.2 * (neF (d1 S cn) (isq (d1 S cn)) wh mm j).2 + (neF (d1 S cn) (isq (d1 S cn)) wh mm j).1) % mm : Nat) = (neF (d1 S cn) (isq (d1 S cn)) wh mm (j + 1)).2 from rfl, show (neF (d1 S cn) (isq (d1 S cn)) wh mm j).2 = (neF (d1 S cn) (isq (d1 S cn)) wh mm (j + 1)).1 from rfl, show (j : Int) + 1 = ((j + 1 : Nat) : Int) by omega]
                  exact ih (j + 1) A3 (by omega) h3s (g1.tr g3) (by omega)
            exact L74 _ 0 A2 (by omega) h2s g2 (Nat.lt_succ_self _)
      · replace c31 := b2i_0.mp c31
        refine ZE.iconst (n := (-1)) d_Ref_nearing_34 ?_
        refine ZE.iret d_Ref_nearing_35 rfl ?_
        have k1 := k A quF.rf
        rw [show neV S c i wh m = -1 from ?_] at k1
        · exact k1
        · unfold neV
          by_cases h : inC S c = true ∧ 0 ≤ i ∧ i ≤ 2 * (rnd (d1 S (c : Int).toNat) : Int)
          · rw [if_pos h]; exact if_neg (fun q => by first | exact c6 h | exact c16 q.1 | exact c31 q.2)
          · exact if_neg h
