theorem nd_add1 {T : Nat} (h9 : nd 10000 T ≤ 75) {m : Nat} (hm : m ≤ 1) : nd 10000 (T + m) ≤ 76 := by
  have h1 : T < 10000 ^ 75 := Nat.lt_of_lt_of_le (nd_self (by omega) T) (Nat.pow_le_pow_right (by omega) h9)
  refine nd_le (by omega) ?_
  have h2 : 10000 ^ 76 = 10000 ^ 75 * 10000 := Nat.pow_succ _ _
  rw [h2]
  generalize 10000 ^ 75 = Z at *
  omega
theorem dl_300 {v : Nat} (h : nd 10000 v ≤ 75) : dl v ≤ 301 := by
  have h2 : 10000 ^ 75 = 10 ^ 300 := by decide +kernel
  have h1 : v < 10 ^ 300 := by rw [← h2]; exact Nat.lt_of_lt_of_le (nd_self (by decide) v) (Nat.pow_le_pow_right (by decide) h)
  have h3 : nd 10 (v / 10) ≤ 300 := nd_le (by decide) (Nat.lt_of_le_of_lt (Nat.div_le_self _ _) h1)
  unfold dl
  exact Nat.succ_le_succ h3
theorem outs.rf2 {f g : Int → Int} (h : ∀ i : Int, (i < 16380 ∨ 16640 ≤ i) → g i = f i) : rowF (fun n => 126 ≤ n ∧ n ≤ 130) f g := fun n hn hs i h1 h2 => h i (by omega)
theorem ZE.dv {d : Nat} {G : zG} {A : Int → Int → Int} {P : Option zV → zG → Prop} {o : Int} (hK : RK G o) (hF : RF A o) {n : Int} (hn : 0 ≤ n ∧ n ≤ 131) {v y : Nat} (hv : num (A (o + 2)) n v) (h9 : nd 10000 v ≤ 129) (hy : 0 < y) (hy2 : y ≤ 10000) (k1 : v % y = 0 → ∀ f, num f n (v / y) → outs (A (o + 2)) f n → P (some (0, 1)) (gw G (upA A (o + 2) f))) (k2 : ¬ v % y = 0 → P (some (0, 0)) (gw G A)) : ZE (d + 3) M_Ref_divides (gw G A) 0 [(2, o), (0, n), (0, (y : Int)), (9, 0), (9, 0), (9, 0), (9, 0)] [] P := by
  refine r_divides hK hF hn hv h9 hy hy2 ?_
  split
  · next h => exact k1 h
  · next h => exact k2 h
set_option maxRecDepth 20000 in
set_option maxHeartbeats 4000000 in
theorem r_inNumber {d : Nat} {G : zG} {A : Int → Int → Int} {P : Option zV → zG → Prop} {o : Int} (hK : RK G o) (hF : RF A o) {T : Nat} (hT : num (A (o + 2)) 131 T) (hT1 : 0 < T) (hT9 : nd 10000 T ≤ 75) {p wh : Int} (hp : zR p) (hw : zR wh) (k : ∀ A2, quF A A2 o → P (some (0, inV T p wh)) (gw G A2)) : ZE (d + 4) M_Ref_inNumber (gw G A) 0 [(2, o), (0, p), (0, wh), (9, 0)] [] P := by
  have hplR := plc_R p
  refine ZE.aload_n d_Ref_inNumber_0 rfl ?_
  refine ZE.iload_n d_Ref_inNumber_1 rfl ?_
  refine ZE.cV [(0, p)] [] [(2, o), (0, p), (9, 0)] d_Ref_inNumber_2 l_Ref_77 rfl rfl rfl rfl rfl rfl hK.1 ?_
  refine r_placeOf hK hF hp ?_
  show ZE (d + 4) M_Ref_inNumber (gw G A) 5 [(2, o), (0, p), (0, wh), (9, 0)] [(0, plc p)] _
  refine ZE.iconst (n := (-1)) d_Ref_inNumber_5 ?_
  refine ZE.icmp_eq (tgt := 19) d_Ref_inNumber_6 rfl (by unfold zR; omega) (by unfold zR; omega) (fun c6 => ?_) (fun c6 => ?_)
  · refine ZE.iconst (n := (-1)) d_Ref_inNumber_19 ?_
    refine ZE.iret d_Ref_inNumber_20 rfl ?_
    have k1 := k A quF.rf
    rw [show inV T p wh = -1 from if_neg (fun q => by first | exact q.1 (by omega) | exact c16 q.2)] at k1
    exact k1
  · refine ZE.iload_n d_Ref_inNumber_9 rfl ?_
    refine ZE.i2l d_Ref_inNumber_10 hw ?_
    refine ZE.lconst d_Ref_inNumber_11 ?_
    show ZE (d + 4) M_Ref_inNumber (gw G A) 12 [(2, o), (0, p), (0, wh), (9, 0)] [(1, 0), (1, wh)] _
    refine ZE.lconst d_Ref_inNumber_12 ?_
    show ZE (d + 4) M_Ref_inNumber (gw G A) 13 [(2, o), (0, p), (0, wh), (9, 0)] [(1, 1), (1, 0), (1, wh)] _
    refine ZE.cS [(1, wh), (1, 0), (1, 1)] [] [(1, wh), (9, 0), (1, 0), (9, 0), (1, 1), (9, 0)] d_Ref_inNumber_13 l_Ref_111 rfl rfl rfl rfl rfl rfl ?_
    refine r_isIn (by unfold zR at hw; unfold zR64; omega) (by unfold zR64; omega) (by unfold zR64; omega) ?_
    show ZE (d + 4) M_Ref_inNumber (gw G A) 16 [(2, o), (0, p), (0, wh), (9, 0)] [(0, b2i (0 ≤ wh ∧ wh ≤ 1))] _
    refine ZE.if_ne (tgt := 21) d_Ref_inNumber_16 rfl (zR_b2i _) (fun c16 => ?_) (fun c16 => ?_)
    · replace c16 := b2i_n0.mp c16
      obtain ⟨pk, hk7, hpk, hpv⟩ := plc_ge c6
      have hplc : plc (sev pk : Int) ≠ -1 := by rw [plc_sev pk hk7]; omega
      subst hpk
      have hsl0 := sev_lt pk hk7
      have hsl : 2 ≤ sev pk ∧ sev pk ≤ 17 := ⟨by omega, by omega⟩
      obtain ⟨wm, hwm⟩ : ∃ wm : Nat, wh = wm := ⟨wh.toNat, by omega⟩
      subst hwm
      refine ZE.aload_n d_Ref_inNumber_21 rfl ?_
      refine ZE.iload_n d_Ref_inNumber_22 rfl ?_
      have hT76 := nd_add1 hT9 (m := wm) (by omega)
      refine ZE.cV [(0, (wm : Int))] [] [(2, o), (0, (wm : Int))] d_Ref_inNumber_23 l_Ref_348 rfl rfl rfl rfl rfl rfl hK.1 ?_
      refine r_bringNumber (v := T) (more := wm) hK hF hT (by omega) (by omega) (fun f1 hn1 ho1 => ?_)
      show ZE (d + 4) M_Ref_inNumber (gw G (upA A (o + 2) f1)) 26 [(2, o), (0, (sev pk : Int)), (0, (wm : Int)), (9, 0)] [] _
      have hro1 := outs.rf2 ho1
      refine ZE.iconst (n := 0) d_Ref_inNumber_26 ?_
      refine ZE.istore_n (ls2 := [(2, o), (0, (sev pk : Int)), (0, (wm : Int)), (0, 0)]) d_Ref_inNumber_27 (Nat.le_of_ble_eq_true rfl) rfl ?_
      have L28 : ∀ (t : Nat) (n : Int) (v : Nat) (f : Int → Int) (hnv : n + vp (sev pk) v = vp (sev pk) (T + wm)) (hn00 : 0 ≤ n) (hv1 : 0 < v) (hvt : v ≤ T + wm) (hn0 : num f 126 v) (hro : rowF (fun n => 126 ≤ n ∧ n ≤ 130) (A (o + 2)) f), v < t → ZE (d + 4) M_Ref_inNumber (gw G (upA A (o + 2) f)) 28 [(2, o), (0, (sev pk : Int)), (0, (wm : Int)), (0, n)] [] P := by
        intro t
        induction t with
        | zero => intro n v f hnv hn00 hv1 hvt hn0 hro hm; exact absurd hm (Nat.not_lt_zero _)
        | succ t ih =>
          intro n v f hnv hn00 hv1 hvt hn0 hro hm
          have hnd9 : nd 10000 v ≤ 76 := Nat.le_trans (nd_mono (by omega) hvt) hT76
          refine ZE.aload_n d_Ref_inNumber_28 rfl ?_
          refine ZE.bipush (n := 126) d_Ref_inNumber_29 rfl ?_
          refine ZE.iload_n d_Ref_inNumber_31 rfl ?_
          refine ZE.cV [(0, 126), (0, (sev pk : Int))] [] [(2, o), (0, 126), (0, (sev pk : Int)), (9, 0), (9, 0), (9, 0), (9, 0)] d_Ref_inNumber_32 l_Ref_351 rfl rfl rfl rfl rfl rfl hK.1 ?_
          refine ZE.dv (n := 126) (v := v) (y := sev pk) hK (hF.uA (by omega)) (by omega) (by rw [upA_at]; exact hn0) (by omega) (by omega) (by omega) (fun hdv f9 hn9 ho9 => ?_) (fun hdv => ?_)
          · show ZE (d + 4) M_Ref_inNumber (gw G (upA (upA A (o + 2) f) (o + 2) f9)) 35 [(2, o), (0, (sev pk : Int)), (0, (wm : Int)), (0, n)] [(0, 1)] _
            rw [upA_upA]
            rw [upA_at] at ho9
            refine ZE.if_eq (tgt := 44) d_Ref_inNumber_35 rfl (by unfold zR; omega) (fun c35 => ?_) (fun c35 => ?_)
            · exact absurd c35 (by decide)
            · refine ZE.iinc (ls2 := [(2, o), (0, (sev pk : Int)), (0, (wm : Int)), (0, n + 1)]) d_Ref_inNumber_38 rfl rfl ?_
              refine ZE.goto (tgt := 28) d_Ref_inNumber_41 rfl ?_
              have e1 := vp_step hsl.1 hv1 (show v % sev pk = 0 by omega)
              exact ih (n + 1) (v / sev pk) f9 (by omega) (by omega) e1.2.1 (by omega) hn9 (hro.step ho9 (by omega)) (by omega)
          · show ZE (d + 4) M_Ref_inNumber (gw G (upA A (o + 2) f)) 35 [(2, o), (0, (sev pk : Int)), (0, (wm : Int)), (0, n)] [(0, 0)] _
            refine ZE.if_eq (tgt := 44) d_Ref_inNumber_35 rfl (by unfold zR; omega) (fun c35 => ?_) (fun c35 => ?_)
            · refine ZE.iload_n d_Ref_inNumber_44 rfl ?_
              refine ZE.iret d_Ref_inNumber_45 rfl ?_
              have k1 := k _ hro.qu
              rw [show inV T (sev pk : Int) (wm : Int) = (vp (sev pk) (T + wm) : Int) from by unfold inV; rw [if_pos ⟨hplc, by omega, by omega⟩, Int.toNat_natCast, Int.toNat_natCast]] at k1
              rw [show n = (vp (sev pk) (T + wm) : Int) from by have := vp_end (p := sev pk) (n := v) hdv; omega]
              exact k1
            · exact absurd c35 (by decide)
      exact L28 _ 0 (T + wm) f1 (by omega) (by omega) (by omega) (Nat.le_refl _) hn1 hro1 (Nat.lt_succ_self _)
    · replace c16 := b2i_0.mp c16
      refine ZE.iconst (n := (-1)) d_Ref_inNumber_19 ?_
      refine ZE.iret d_Ref_inNumber_20 rfl ?_
      have k1 := k A quF.rf
      rw [show inV T p wh = -1 from if_neg (fun q => by first | exact q.1 (by omega) | exact c16 q.2)] at k1
      exact k1
set_option maxRecDepth 20000 in
set_option maxHeartbeats 4000000 in
theorem r_longLeft {d : Nat} {G : zG} {A : Int → Int → Int} {P : Option zV → zG → Prop} {o : Int} (hK : RK G o) (hF : RF A o) {S : Nat} (hR : RS S A o) (hS7 : S < 128) (hp5 : pop S ≤ 5) {T : Nat} (hT : num (A (o + 2)) 131 T) (hT1 : 0 < T) (hT9 : nd 10000 T ≤ 75) (k : ∀ f, num f 126 (stN S T 7) → rowF (fun n => 126 ≤ n ∧ n ≤ 130) (A (o + 2)) f → P (some (0, (dl (stN S T 7) : Int))) (gw G (upA A (o + 2) f))) : ZE (d + 4) M_Ref_longLeft (gw G A) 0 [(2, o), (9, 0), (9, 0)] [] P := by
  refine ZE.aload_n d_Ref_longLeft_0 rfl ?_
  refine ZE.iconst (n := 0) d_Ref_longLeft_1 ?_
  refine ZE.cV [(0, 0)] [] [(2, o), (0, 0)] d_Ref_longLeft_2 l_Ref_348 rfl rfl rfl rfl rfl rfl hK.1 ?_
  refine r_bringNumber (v := T) (more := 0) hK hF hT (by omega) (by omega) (fun f1 hn1 ho1 => ?_)
  show ZE (d + 4) M_Ref_longLeft (gw G (upA A (o + 2) f1)) 5 [(2, o), (9, 0), (9, 0)] [] _
  refine ZE.iconst (n := 0) d_Ref_longLeft_5 ?_
  refine ZE.istore_n (ls2 := [(2, o), (0, 0), (9, 0)]) d_Ref_longLeft_6 (Nat.le_of_ble_eq_true rfl) rfl ?_
  have L7 : ∀ (t : Nat) (j : Nat) (f : Int → Int) (hj : j ≤ 7) (hn0 : num f 126 (stN S T j)) (hro : rowF (fun n => 126 ≤ n ∧ n ≤ 130) (A (o + 2)) f), 7 - j < t → ZE (d + 4) M_Ref_longLeft (gw G (upA A (o + 2) f)) 7 [(2, o), (0, (j : Int)), (9, 0)] [] P := by
    intro t
    induction t with
    | zero => intro j f hj hn0 hro hm; exact absurd hm (Nat.not_lt_zero _)
    | succ t ih =>
      intro j f hj hn0 hro hm
      have ihO := ih
      have hmO := hm
      have hst := stN_pos (S := S) hT1 j hj
      refine ZE.iload_n d_Ref_longLeft_7 rfl ?_
      refine ZE.bipush (n := 7) d_Ref_longLeft_8 rfl ?_
      refine ZE.icmp_ge (tgt := 48) d_Ref_longLeft_10 rfl (by unfold zR; omega) (by unfold zR; omega) (fun c10 => ?_) (fun c10 => ?_)
      · have e7 : j = 7 := by omega
        rw [e7] at hn0
        refine ZE.aload_n d_Ref_longLeft_48 rfl ?_
        refine ZE.bipush (n := 126) d_Ref_longLeft_49 rfl ?_
        have hst7 := stN_pos (S := S) hT1 7 (by omega)
        have hnd7 : nd 10000 (stN S T 7) ≤ 75 := Nat.le_trans (nd_mono (by omega) hst7.2) hT9
        refine ZE.cV [(0, 126)] [] [(2, o), (0, 126)] d_Ref_longLeft_51 l_Ref_108 rfl rfl rfl rfl rfl rfl hK.1 ?_
        refine r_longOf (n := 126) (v := stN S T 7) hK (hF.uA (by omega)) (by omega) (by rw [upA_at]; exact hn0) (by omega) ?_
        show ZE (d + 4) M_Ref_longLeft (gw G (upA A (o + 2) f)) 54 [(2, o), (0, (j : Int)), (9, 0)] [(0, (dl (stN S T 7) : Int))] _
        refine ZE.iret d_Ref_longLeft_54 rfl ?_
        exact k f hn0 hro
      · refine ZE.aload_n d_Ref_longLeft_13 rfl ?_
        refine ZE.getE (v := (S : Int)) d_Ref_longLeft_14 f_Ref_81 (tg := 0) rfl hK.1 ((congrFun (upA_ne _ _ (by omega)) _).trans hR.s) ?_
        refine ZE.iload_n d_Ref_longLeft_17 rfl ?_
        refine ZE.cS [(0, (S : Int)), (0, (j : Int))] [] [(0, (S : Int)), (0, (j : Int))] d_Ref_longLeft_18 l_Ref_85 rfl rfl rfl rfl rfl rfl ?_
        refine r_has (S := S) (k0 := j) (by omega) (by omega) ?_
        show ZE (d + 4) M_Ref_longLeft (gw G (upA A (o + 2) f)) 21 [(2, o), (0, (j : Int)), (9, 0)] [(0, b2i (S.testBit j = true))] _
        obtain ⟨m1, hm1, hmb⟩ : ∃ m1 : Nat, ((m1 = 0 ∧ stN S T j = stN S T (j + 1)) ∨ (m1 = 1 ∧ S.testBit j = true ∧ strp (sev j) (stN S T j) = stN S T (j + 1))) ∧ b2i (S.testBit j = true) = (m1 : Int) := by
          by_cases q : S.testBit j = true
          · exact ⟨1, Or.inr ⟨rfl, q, (if_pos q).symm⟩, b2i_t q⟩
          · exact ⟨0, Or.inl ⟨rfl, (if_neg q).symm⟩, b2i_f q⟩
        rw [hmb]
        refine ZE.istore_n (ls2 := [(2, o), (0, (j : Int)), (0, (m1 : Int))]) d_Ref_longLeft_21 (Nat.le_of_ble_eq_true rfl) rfl ?_
        have L22 : ∀ (t : Nat) (m1 : Nat) (v : Nat) (f5 : Int → Int) (hm1 : (m1 = 0 ∧ v = stN S T (j + 1)) ∨ (m1 = 1 ∧ S.testBit j = true ∧ strp (sev j) v = stN S T (j + 1))) (hv1 : 0 < v) (hvt : v ≤ T) (hn5 : num f5 126 v) (hro5 : rowF (fun n => 126 ≤ n ∧ n ≤ 130) (A (o + 2)) f5), 2 * v + m1 < t → ZE (d + 4) M_Ref_longLeft (gw G (upA A (o + 2) f5)) 22 [(2, o), (0, (j : Int)), (0, (m1 : Int))] [] P := by
          intro t
          induction t with
          | zero => intro m1 v f5 hm1 hv1 hvt hn5 hro5 hm; exact absurd hm (Nat.not_lt_zero _)
          | succ t ih =>
            intro m1 v f5 hm1 hv1 hvt hn5 hro5 hm
            have hsl := sev_lt j (by omega)
            have hnd9 : nd 10000 v ≤ 75 := Nat.le_trans (nd_mono (by omega) hvt) hT9
            refine ZE.iload_n d_Ref_longLeft_22 rfl ?_
            refine ZE.if_eq (tgt := 42) d_Ref_longLeft_23 rfl (by unfold zR; omega) (fun c23 => ?_) (fun c23 => ?_)
            · have hvm : v = stN S T (j + 1) := by omega
              refine ZE.iinc (ls2 := [(2, o), (0, (j : Int) + 1), (0, (m1 : Int))]) d_Ref_longLeft_42 rfl rfl ?_
              refine ZE.goto (tgt := 7) d_Ref_longLeft_45 rfl ?_
              refine ZE.mask [true, true, false] ?_
              show ZE (d + 4) M_Ref_longLeft (gw G (upA A (o + 2) f5)) 7 [(2, o), (0, (j : Int) + 1), (9, 0)] [] _
              rw [show (j : Int) + 1 = ((j + 1 : Nat) : Int) by omega]
              exact ihO (j + 1) f5 (by omega) (by rw [← hvm]; exact hn5) hro5 (by omega)
            · have hyy : m1 = 1 ∧ S.testBit j = true ∧ strp (sev j) v = stN S T (j + 1) := by rcases hm1 with q | q; exact absurd q.1 (by omega); exact q
              refine ZE.aload_n d_Ref_longLeft_26 rfl ?_
              refine ZE.bipush (n := 126) d_Ref_longLeft_27 rfl ?_
              refine ZE.aload_n d_Ref_longLeft_29 rfl ?_
              refine ZE.getE (v := o + 1) d_Ref_longLeft_30 f_Ref_9 (tg := 2) rfl hK.1 (hF.uA (by omega)).a0 ?_
              refine ZE.iload_n d_Ref_longLeft_33 rfl ?_
              refine ZE.ialdE (v := (sev j : Int)) d_Ref_longLeft_34 hK.k1 (by have hn0 := hK.n1; show 0 ≤ (j : Int) ∧ (j : Int) < gn G (o + 1); omega) ((hF.uA (by omega)).sev j (by omega)) ?_
              refine ZE.cV [(0, 126), (0, (sev j : Int))] [] [(2, o), (0, 126), (0, (sev j : Int)), (9, 0), (9, 0), (9, 0), (9, 0)] d_Ref_longLeft_35 l_Ref_351 rfl rfl rfl rfl rfl rfl hK.1 ?_
              refine ZE.dv (n := 126) (v := v) (y := sev j) hK (hF.uA (by omega)) (by omega) (by rw [upA_at]; exact hn5) (by omega) (by omega) (by omega) (fun hdv f9 hn9 ho9 => ?_) (fun hdv => ?_)
              · show ZE (d + 4) M_Ref_longLeft (gw G (upA (upA A (o + 2) f5) (o + 2) f9)) 38 [(2, o), (0, (j : Int)), (0, (m1 : Int))] [(0, 1)] _
                rw [upA_upA]
                rw [upA_at] at ho9
                have e1 := vp_step (p := sev j) (by omega) hv1 hdv
                refine ZE.istore_n (ls2 := [(2, o), (0, (j : Int)), (0, 1)]) d_Ref_longLeft_38 (Nat.le_of_ble_eq_true rfl) rfl ?_
                refine ZE.goto (tgt := 22) d_Ref_longLeft_39 rfl ?_
                exact ih 1 (v / sev j) f9 (Or.inr ⟨rfl, hyy.2.1, by rw [← strp_step (by omega) hv1 hdv]; exact hyy.2.2⟩) e1.2.1 (by omega) hn9 (hro5.step ho9 (by omega)) (by omega)
              · show ZE (d + 4) M_Ref_longLeft (gw G (upA A (o + 2) f5)) 38 [(2, o), (0, (j : Int)), (0, (m1 : Int))] [(0, 0)] _
                refine ZE.istore_n (ls2 := [(2, o), (0, (j : Int)), (0, 0)]) d_Ref_longLeft_38 (Nat.le_of_ble_eq_true rfl) rfl ?_
                refine ZE.goto (tgt := 22) d_Ref_longLeft_39 rfl ?_
                exact ih 0 v f5 (Or.inl ⟨rfl, by rw [← hyy.2.2, strp_end hdv]⟩) hv1 hvt hn5 hro5 (by omega)
        exact L22 _ m1 (stN S T j) f hm1 hst.1 hst.2 hn0 hro (Nat.lt_succ_self _)
  exact L7 _ 0 f1 (by omega) hn1 (outs.rf2 ho1) (Nat.lt_succ_self _)
set_option maxRecDepth 20000 in
set_option maxHeartbeats 4000000 in
theorem r_isOneLeft {d : Nat} {G : zG} {A : Int → Int → Int} {P : Option zV → zG → Prop} {o : Int} (hK : RK G o) (hF : RF A o) {S : Nat} (hR : RS S A o) (hS7 : S < 128) (hp5 : pop S ≤ 5) {T : Nat} (hT : num (A (o + 2)) 131 T) (hT1 : 0 < T) (hT9 : nd 10000 T ≤ 75) (k : ∀ A2, quF A A2 o → P (some (0, b2i (stN S T 7 = 1))) (gw G A2)) : ZE (d + 5) M_Ref_isOneLeft (gw G A) 0 [(2, o)] [] P := by
  refine ZE.aload_n d_Ref_isOneLeft_0 rfl ?_
  refine ZE.cV [] [] [(2, o), (9, 0), (9, 0)] d_Ref_isOneLeft_1 l_Ref_354 rfl rfl rfl rfl rfl rfl hK.1 ?_
  refine r_longLeft (S := S) (T := T) hK hF hR hS7 hp5 hT hT1 hT9 (fun f hn0 hro => ?_)
  show ZE (d + 5) M_Ref_isOneLeft (gw G (upA A (o + 2) f)) 4 [(2, o)] [(0, (dl (stN S T 7) : Int))] _
  have hst7 := stN_pos (S := S) hT1 7 (by omega)
  have hnd7 : nd 10000 (stN S T 7) ≤ 75 := Nat.le_trans (nd_mono (by omega) hst7.2) hT9
  have hdl7 := dl_300 hnd7
  refine ZE.iconst (n := 1) d_Ref_isOneLeft_4 ?_
  refine ZE.icmp_ne (tgt := 23) d_Ref_isOneLeft_5 rfl (by unfold zR; omega) (by unfold zR; omega) (fun c5 => ?_) (fun c5 => ?_)
  · have hne : ¬ stN S T 7 = 1 := by intro q; rw [q] at c5; exact c5 rfl
    refine ZE.iconst (n := 0) d_Ref_isOneLeft_23 ?_
    refine ZE.zret d_Ref_isOneLeft_24 rfl (by omega) ?_
    have k1 := k _ hro.qu
    first | (rw [b2i_t (by omega)] at k1; exact k1) | (rw [b2i_f (by omega)] at k1; exact k1)
  · have hd91 : stN S T 7 < 10 ^ 1 := (nd_lt (by omega) _ _).mpr (by have e := dl_pos (v := stN S T 7) (by omega); omega)
    have hd9 : stN S T 7 < 10 := hd91
    have hd0 : dg 10000 (stN S T 7) 0 = stN S T 7 := by unfold dg; rw [Nat.pow_zero, Nat.div_one]; exact Nat.mod_eq_of_lt (by omega)
    refine ZE.aload_n d_Ref_isOneLeft_8 rfl ?_
    refine ZE.bipush (n := 126) d_Ref_isOneLeft_9 rfl ?_
    refine ZE.iconst (n := 0) d_Ref_isOneLeft_11 ?_
    refine ZE.cV [(0, 126), (0, 0)] [] [(2, o), (0, 126), (0, 0)] d_Ref_isOneLeft_12 l_Ref_96 rfl rfl rfl rfl rfl rfl hK.1 ?_
    refine r_part (n := 126) (v := stN S T 7) (i := 0) hK (hF.uA (by omega)) (by omega) (by rw [upA_at]; exact hn0) (by omega) (by omega) ?_
    show ZE (d + 5) M_Ref_isOneLeft (gw G (upA A (o + 2) f)) 15 [(2, o)] [(0, (dg 10000 (stN S T 7) 0 : Int))] _
    refine ZE.iconst (n := 1) d_Ref_isOneLeft_15 ?_
    refine ZE.icmp_ne (tgt := 23) d_Ref_isOneLeft_16 rfl (by unfold zR; omega) (by unfold zR; omega) (fun c16 => ?_) (fun c16 => ?_)
    · refine ZE.iconst (n := 0) d_Ref_isOneLeft_23 ?_
      refine ZE.zret d_Ref_isOneLeft_24 rfl (by omega) ?_
      have k1 := k _ hro.qu
      first | (rw [b2i_t (by omega)] at k1; exact k1) | (rw [b2i_f (by omega)] at k1; exact k1)
    · refine ZE.iconst (n := 1) d_Ref_isOneLeft_19 ?_
      refine ZE.goto (tgt := 24) d_Ref_isOneLeft_20 rfl ?_
      refine ZE.zret d_Ref_isOneLeft_24 rfl (by omega) ?_
      have k1 := k _ hro.qu
      first | (rw [b2i_t (by omega)] at k1; exact k1) | (rw [b2i_f (by omega)] at k1; exact k1)
set_option maxRecDepth 20000 in
set_option maxHeartbeats 4000000 in
theorem r_smallNumber {d : Nat} {G : zG} {A : Int → Int → Int} {P : Option zV → zG → Prop} {o : Int} (hK : RK G o) (hF : RF A o) {T : Nat} (hT : num (A (o + 2)) 131 T) (hT1 : 0 < T) (hT9 : nd 10000 T ≤ 75) (k : P (some (0, (smN T : Int))) (gw G A)) : ZE (d + 3) M_Ref_smallNumber (gw G A) 0 [(2, o)] [] P := by
  refine ZE.aload_n d_Ref_smallNumber_0 rfl ?_
  refine ZE.sipush (n := 131) d_Ref_smallNumber_1 rfl ?_
  refine ZE.cV [(0, 131)] [] [(2, o), (0, 131)] d_Ref_smallNumber_4 l_Ref_108 rfl rfl rfl rfl rfl rfl hK.1 ?_
  refine r_longOf (n := 131) (v := T) hK hF (by omega) hT (by omega) ?_
  show ZE (d + 3) M_Ref_smallNumber (gw G A) 7 [(2, o)] [(0, (dl T : Int))] _
  refine ZE.bipush (n := 9) d_Ref_smallNumber_7 rfl ?_
  have hdlT := dl_300 hT9
  refine ZE.icmp_le (tgt := 18) d_Ref_smallNumber_9 rfl (by unfold zR; omega) (by unfold zR; omega) (fun c9 => ?_) (fun c9 => ?_)
  · refine ZE.aload_n d_Ref_smallNumber_18 rfl ?_
    refine ZE.sipush (n := 131) d_Ref_smallNumber_19 rfl ?_
    refine ZE.cV [(0, 131)] [] [(2, o), (0, 131), (9, 0), (9, 0)] d_Ref_smallNumber_22 l_Ref_173 rfl rfl rfl rfl rfl rfl hK.1 ?_
    refine r_smallOf (n := 131) (v := T) hK hF (by omega) hT (by omega) ?_
    show ZE (d + 3) M_Ref_smallNumber (gw G A) 25 [(2, o)] [(0, (T : Int))] _
    refine ZE.iret d_Ref_smallNumber_25 rfl ?_
    first | (rw [show (smN T : Int) = (T : Int) by unfold smN; rw [if_pos (by omega)]] at k; exact k) | (rw [show (smN T : Int) = 1000000000 by unfold smN; rw [if_neg (by omega)]; rfl] at k; exact k)
  · refine ZE.ldcw (v := 1000000000) d_Ref_smallNumber_12 k_Ref_272 ?_
    refine ZE.goto (tgt := 25) d_Ref_smallNumber_15 rfl ?_
    refine ZE.iret d_Ref_smallNumber_25 rfl ?_
    first | (rw [show (smN T : Int) = (T : Int) by unfold smN; rw [if_pos (by omega)]] at k; exact k) | (rw [show (smN T : Int) = 1000000000 by unfold smN; rw [if_neg (by omega)]; rfl] at k; exact k)
set_option maxRecDepth 20000 in
set_option maxHeartbeats 4000000 in
theorem r_pairAt {d : Nat} {G : zG} {A : Int → Int → Int} {P : Option zV → zG → Prop} {o : Int} (hK : RK G o) (hF : RF A o) {S : Nat} (hR : RS S A o) (hS7 : S < 128) (hp5 : pop S ≤ 5) {n : Nat} (hn : n ≤ 1000000000) (k : P (some (0, fst1 (fun k => decide (pN S k = n)) (prs S).length)) (gw G A)) : ZE d M_Ref_pairAt (gw G A) 0 [(2, o), (0, (n : Int)), (9, 0)] [] P := by
  have hpl := prs_288 hS7 hp5
  have htl := tws_288 hS7 hp5
  refine ZE.iconst (n := 0) d_Ref_pairAt_0 ?_
  refine ZE.istore_n (ls2 := [(2, o), (0, (n : Int)), (0, 0)]) d_Ref_pairAt_1 (Nat.le_of_ble_eq_true rfl) rfl ?_
  have L2 : ∀ (t : Nat) (j : Nat) (hj : j ≤ (prs S).length) (hfs : fst1 (fun k => decide (pN S k = n)) j = -1), (prs S).length - j < t → ZE d M_Ref_pairAt (gw G A) 2 [(2, o), (0, (n : Int)), (0, (j : Int))] [] P := by
    intro t
    induction t with
    | zero => intro j hj hfs hm; exact absurd hm (Nat.not_lt_zero _)
    | succ t ih =>
      intro j hj hfs hm
      refine ZE.iload_n d_Ref_pairAt_2 rfl ?_
      refine ZE.aload_n d_Ref_pairAt_3 rfl ?_
      refine ZE.getE (v := ((prs S).length : Int)) d_Ref_pairAt_4 f_Ref_167 (tg := 0) rfl hK.1 hR.np ?_
      refine ZE.icmp_ge (tgt := 28) d_Ref_pairAt_7 rfl (by unfold zR; omega) (by unfold zR; omega) (fun c7 => ?_) (fun c7 => ?_)
      · refine ZE.iconst (n := (-1)) d_Ref_pairAt_28 ?_
        refine ZE.iret d_Ref_pairAt_29 rfl ?_
        have e1 : j = (prs S).length := by omega
        rw [← e1, hfs] at k
        exact k
      · refine ZE.aload_n d_Ref_pairAt_10 rfl ?_
        refine ZE.getE (v := o + 7) d_Ref_pairAt_11 f_Ref_28 (tg := 2) rfl hK.1 hF.a12 ?_
        refine ZE.iload_n d_Ref_pairAt_14 rfl ?_
        have hQ := prs_ok hS7 hp5 (k := j) (by omega)
        have hQ1 : 1 ≤ pN S j ∧ pN S j < 1000000000 := ⟨hQ.1, hQ.2.1⟩
        refine ZE.ialdE (v := (pN S j : Int)) d_Ref_pairAt_15 hK.k7 (by have hn0 := hK.n7; show 0 ≤ (j : Int) ∧ (j : Int) < gn G (o + 7); omega) (hR.p j (by omega)).1 ?_
        refine ZE.iload_n d_Ref_pairAt_16 rfl ?_
        refine ZE.icmp_ne (tgt := 22) d_Ref_pairAt_17 rfl (by unfold zR; omega) (by unfold zR; omega) (fun c17 => ?_) (fun c17 => ?_)
        · refine ZE.iinc (ls2 := [(2, o), (0, (n : Int)), (0, (j : Int) + 1)]) d_Ref_pairAt_22 rfl rfl ?_
          refine ZE.goto (tgt := 2) d_Ref_pairAt_25 rfl ?_
          rw [show (j : Int) + 1 = ((j + 1 : Nat) : Int) by omega]
          refine ih (j + 1) (by omega) ?_ (by omega)
          show (if fst1 (fun k => decide (pN S k = n)) j = -1 then (if decide (pN S j = n) = true then (j : Int) else -1) else fst1 (fun k => decide (pN S k = n)) j) = -1
          rw [if_pos hfs, if_neg (by rw [decide_eq_true_iff]; omega)]
        · refine ZE.iload_n d_Ref_pairAt_20 rfl ?_
          refine ZE.iret d_Ref_pairAt_21 rfl ?_
          have hfj : fst1 (fun k => decide (pN S k = n)) (j + 1) = (j : Int) := by
            show (if fst1 (fun k => decide (pN S k = n)) j = -1 then (if decide (pN S j = n) = true then (j : Int) else -1) else fst1 (fun k => decide (pN S k = n)) j) = (j : Int)
            rw [if_pos hfs, if_pos (by rw [decide_eq_true_iff]; omega)]
          rw [fst1_keep hfj _ (by omega)] at k
          exact k
  exact L2 _ 0 (by omega) rfl (Nat.lt_succ_self _)
set_option maxRecDepth 20000 in
set_option maxHeartbeats 4000000 in
theorem r_twoAt {d : Nat} {G : zG} {A : Int → Int → Int} {P : Option zV → zG → Prop} {o : Int} (hK : RK G o) (hF : RF A o) {S : Nat} (hR : RS S A o) (hS7 : S < 128) (hp5 : pop S ≤ 5) {n : Nat} (hn : n ≤ 1000000000) (k : P (some (0, fst1 (fun k => decide (tN S k = n)) (tws S).length)) (gw G A)) : ZE d M_Ref_twoAt (gw G A) 0 [(2, o), (0, (n : Int)), (9, 0)] [] P := by
  have hpl := prs_288 hS7 hp5
  have htl := tws_288 hS7 hp5
  refine ZE.iconst (n := 0) d_Ref_twoAt_0 ?_
  refine ZE.istore_n (ls2 := [(2, o), (0, (n : Int)), (0, 0)]) d_Ref_twoAt_1 (Nat.le_of_ble_eq_true rfl) rfl ?_
  have L2 : ∀ (t : Nat) (j : Nat) (hj : j ≤ (tws S).length) (hfs : fst1 (fun k => decide (tN S k = n)) j = -1), (tws S).length - j < t → ZE d M_Ref_twoAt (gw G A) 2 [(2, o), (0, (n : Int)), (0, (j : Int))] [] P := by
    intro t
    induction t with
    | zero => intro j hj hfs hm; exact absurd hm (Nat.not_lt_zero _)
    | succ t ih =>
      intro j hj hfs hm
      refine ZE.iload_n d_Ref_twoAt_2 rfl ?_
      refine ZE.aload_n d_Ref_twoAt_3 rfl ?_
      refine ZE.getE (v := ((tws S).length : Int)) d_Ref_twoAt_4 f_Ref_170 (tg := 0) rfl hK.1 hR.nt ?_
      refine ZE.icmp_ge (tgt := 28) d_Ref_twoAt_7 rfl (by unfold zR; omega) (by unfold zR; omega) (fun c7 => ?_) (fun c7 => ?_)
      · refine ZE.iconst (n := (-1)) d_Ref_twoAt_28 ?_
        refine ZE.iret d_Ref_twoAt_29 rfl ?_
        have e1 : j = (tws S).length := by omega
        rw [← e1, hfs] at k
        exact k
      · refine ZE.aload_n d_Ref_twoAt_10 rfl ?_
        refine ZE.getE (v := o + 10) d_Ref_twoAt_11 f_Ref_37 (tg := 2) rfl hK.1 hF.a16 ?_
        refine ZE.iload_n d_Ref_twoAt_14 rfl ?_
        have hQ := tws_ok hS7 hp5 (k := j) (by omega)
        have hQ1 : 1 ≤ tN S j ∧ tN S j < 1000000000 := ⟨hQ.1, hQ.2.1⟩
        refine ZE.ialdE (v := (tN S j : Int)) d_Ref_twoAt_15 hK.k10 (by have hn0 := hK.n10; show 0 ≤ (j : Int) ∧ (j : Int) < gn G (o + 10); omega) (hR.t j (by omega)).1 ?_
        refine ZE.iload_n d_Ref_twoAt_16 rfl ?_
        refine ZE.icmp_ne (tgt := 22) d_Ref_twoAt_17 rfl (by unfold zR; omega) (by unfold zR; omega) (fun c17 => ?_) (fun c17 => ?_)
        · refine ZE.iinc (ls2 := [(2, o), (0, (n : Int)), (0, (j : Int) + 1)]) d_Ref_twoAt_22 rfl rfl ?_
          refine ZE.goto (tgt := 2) d_Ref_twoAt_25 rfl ?_
          rw [show (j : Int) + 1 = ((j + 1 : Nat) : Int) by omega]
          refine ih (j + 1) (by omega) ?_ (by omega)
          show (if fst1 (fun k => decide (tN S k = n)) j = -1 then (if decide (tN S j = n) = true then (j : Int) else -1) else fst1 (fun k => decide (tN S k = n)) j) = -1
          rw [if_pos hfs, if_neg (by rw [decide_eq_true_iff]; omega)]
        · refine ZE.iload_n d_Ref_twoAt_20 rfl ?_
          refine ZE.iret d_Ref_twoAt_21 rfl ?_
          have hfj : fst1 (fun k => decide (tN S k = n)) (j + 1) = (j : Int) := by
            show (if fst1 (fun k => decide (tN S k = n)) j = -1 then (if decide (tN S j = n) = true then (j : Int) else -1) else fst1 (fun k => decide (tN S k = n)) j) = (j : Int)
            rw [if_pos hfs, if_pos (by rw [decide_eq_true_iff]; omega)]
          rw [fst1_keep hfj _ (by omega)] at k
          exact k
  exact L2 _ 0 (by omega) rfl (Nat.lt_succ_self _)
set_option maxRecDepth 20000 in
set_option maxHeartbeats 4000000 in
theorem r_pairsBelow {d : Nat} {G : zG} {A : Int → Int → Int} {P : Option zV → zG → Prop} {o : Int} (hK : RK G o) (hF : RF A o) {S : Nat} (hR : RS S A o) (hS7 : S < 128) (hp5 : pop S ≤ 5) {n : Nat} (hn : n ≤ 1000000000) (k : P (some (0, (cnt (fun k => decide (pN S k < n)) (prs S).length : Int))) (gw G A)) : ZE d M_Ref_pairsBelow (gw G A) 0 [(2, o), (0, (n : Int)), (9, 0), (9, 0)] [] P := by
  have hpl := prs_288 hS7 hp5
  refine ZE.iconst (n := 0) d_Ref_pairsBelow_0 ?_
  refine ZE.istore_n (ls2 := [(2, o), (0, (n : Int)), (0, 0), (9, 0)]) d_Ref_pairsBelow_1 (Nat.le_of_ble_eq_true rfl) rfl ?_
  refine ZE.iconst (n := 0) d_Ref_pairsBelow_2 ?_
  refine ZE.istore_n (ls2 := [(2, o), (0, (n : Int)), (0, 0), (0, 0)]) d_Ref_pairsBelow_3 (Nat.le_of_ble_eq_true rfl) rfl ?_
  have L4 : ∀ (t : Nat) (j : Nat) (hj : j ≤ (prs S).length), (prs S).length - j < t → ZE d M_Ref_pairsBelow (gw G A) 4 [(2, o), (0, (n : Int)), (0, (cnt (fun k => decide (pN S k < n)) j : Int)), (0, (j : Int))] [] P := by
    intro t
    induction t with
    | zero => intro j hj hm; exact absurd hm (Nat.not_lt_zero _)
    | succ t ih =>
      intro j hj hm
      refine ZE.iload_n d_Ref_pairsBelow_4 rfl ?_
      refine ZE.aload_n d_Ref_pairsBelow_5 rfl ?_
      refine ZE.getE (v := ((prs S).length : Int)) d_Ref_pairsBelow_6 f_Ref_167 (tg := 0) rfl hK.1 hR.np ?_
      refine ZE.icmp_ge (tgt := 36) d_Ref_pairsBelow_9 rfl (by unfold zR; omega) (by unfold zR; omega) (fun c9 => ?_) (fun c9 => ?_)
      · refine ZE.iload_n d_Ref_pairsBelow_36 rfl ?_
        refine ZE.iret d_Ref_pairsBelow_37 rfl ?_
        have e1 : j = (prs S).length := by omega
        rw [← e1] at k
        exact k
      · refine ZE.iload_n d_Ref_pairsBelow_12 rfl ?_
        refine ZE.aload_n d_Ref_pairsBelow_13 rfl ?_
        refine ZE.getE (v := o + 7) d_Ref_pairsBelow_14 f_Ref_28 (tg := 2) rfl hK.1 hF.a12 ?_
        refine ZE.iload_n d_Ref_pairsBelow_17 rfl ?_
        have hQ := prs_ok hS7 hp5 (k := j) (by omega)
        have hQ1 : 1 ≤ pN S j ∧ pN S j < 1000000000 := ⟨hQ.1, hQ.2.1⟩
        refine ZE.ialdE (v := (pN S j : Int)) d_Ref_pairsBelow_18 hK.k7 (by have hn0 := hK.n7; show 0 ≤ (j : Int) ∧ (j : Int) < gn G (o + 7); omega) (hR.p j (by omega)).1 ?_
        refine ZE.iload_n d_Ref_pairsBelow_19 rfl ?_
        refine ZE.icmp_ge (tgt := 27) d_Ref_pairsBelow_20 rfl (by unfold zR; omega) (by unfold zR; omega) (fun c20 => ?_) (fun c20 => ?_)
        · refine ZE.iconst (n := 0) d_Ref_pairsBelow_27 ?_
          refine ZE.iadd d_Ref_pairsBelow_28 ?_
          refine ZE.istore_n (ls2 := [(2, o), (0, (n : Int)), (0, (cnt (fun k => decide (pN S k < n)) j : Int) + 0), (0, (j : Int))]) d_Ref_pairsBelow_29 (Nat.le_of_ble_eq_true rfl) rfl ?_
          refine ZE.iinc (ls2 := [(2, o), (0, (n : Int)), (0, (cnt (fun k => decide (pN S k < n)) j : Int) + 0), (0, (j : Int) + 1)]) d_Ref_pairsBelow_30 rfl rfl ?_
          refine ZE.goto (tgt := 4) d_Ref_pairsBelow_33 rfl ?_
          have e1 : cnt (fun k => decide (pN S k < n)) (j + 1) = cnt (fun k => decide (pN S k < n)) j := if_neg (by rw [decide_eq_true_iff]; omega)
          rw [show (cnt (fun k => decide (pN S k < n)) j : Int) + 0 = (cnt (fun k => decide (pN S k < n)) (j + 1) : Int) by rw [e1]; omega, show (j : Int) + 1 = ((j + 1 : Nat) : Int) by omega]
          exact ih (j + 1) (by omega) (by omega)
        · refine ZE.iconst (n := 1) d_Ref_pairsBelow_23 ?_
          refine ZE.goto (tgt := 28) d_Ref_pairsBelow_24 rfl ?_
          refine ZE.iadd d_Ref_pairsBelow_28 ?_
          refine ZE.istore_n (ls2 := [(2, o), (0, (n : Int)), (0, (cnt (fun k => decide (pN S k < n)) j : Int) + 1), (0, (j : Int))]) d_Ref_pairsBelow_29 (Nat.le_of_ble_eq_true rfl) rfl ?_
          refine ZE.iinc (ls2 := [(2, o), (0, (n : Int)), (0, (cnt (fun k => decide (pN S k < n)) j : Int) + 1), (0, (j : Int) + 1)]) d_Ref_pairsBelow_30 rfl rfl ?_
          refine ZE.goto (tgt := 4) d_Ref_pairsBelow_33 rfl ?_
          have e1 : cnt (fun k => decide (pN S k < n)) (j + 1) = cnt (fun k => decide (pN S k < n)) j + 1 := if_pos (by rw [decide_eq_true_iff]; omega)
          rw [show (cnt (fun k => decide (pN S k < n)) j : Int) + 1 = (cnt (fun k => decide (pN S k < n)) (j + 1) : Int) by rw [e1]; omega, show (j : Int) + 1 = ((j + 1 : Nat) : Int) by omega]
          exact ih (j + 1) (by omega) (by omega)
  exact L4 _ 0 (by omega) (Nat.lt_succ_self _)
set_option maxRecDepth 20000 in
set_option maxHeartbeats 4000000 in
theorem r_ofNumber {d : Nat} {G : zG} {A : Int → Int → Int} {P : Option zV → zG → Prop} {o : Int} (hK : RK G o) (hF : RF A o) {S : Nat} (hR : RS S A o) (hS7 : S < 128) (hp5 : pop S ≤ 5) {T : Nat} (hT : num (A (o + 2)) 131 T) (hT1 : 0 < T) (hT9 : nd 10000 T ≤ 75) {wh : Int} (hw : zR wh) (k : ∀ A2, quF A A2 o → P (some (0, onV S T wh)) (gw G A2)) : ZE (d + 6) M_Ref_ofNumber (gw G A) 0 [(2, o), (0, wh)] [] P := by
  have hsr := smN_R T
  refine ZE.iload_n d_Ref_ofNumber_0 rfl ?_
  rcases (show (wh < 0 ∨ 5 < wh) ∨ wh = 0 ∨ wh = 1 ∨ wh = 2 ∨ wh = 3 ∨ wh = 4 ∨ wh = 5 by omega) with eo | rfl | rfl | rfl | rfl | rfl | rfl
  · refine ZE.tableOut (tgt := 96) d_Ref_ofNumber_1 (by unfold zR at *; omega) eo rfl ?_
    refine ZE.iconst (n := (-1)) d_Ref_ofNumber_96 ?_
    refine ZE.iret d_Ref_ofNumber_97 rfl ?_
    have k1 := k A quF.rf
    rw [onV_out eo] at k1
    exact k1
  · refine ZE.tableIn (tgt := 40) d_Ref_ofNumber_1 (by unfold zR; omega) (by omega) rfl rfl ?_
    refine ZE.aload_n d_Ref_ofNumber_40 rfl ?_
    refine ZE.cV [] [] [(2, o)] d_Ref_ofNumber_41 l_Ref_357 rfl rfl rfl rfl rfl rfl hK.1 ?_
    refine r_isOneLeft (S := S) (T := T) hK hF hR hS7 hp5 hT hT1 hT9 (fun A2 g2 => ?_)
    show ZE (d + 6) M_Ref_ofNumber (gw G A2) 44 [(2, o), (0, 0)] [(0, b2i (stN S T 7 = 1))] _
    refine ZE.if_eq (tgt := 51) d_Ref_ofNumber_44 rfl (zR_b2i _) (fun c44 => ?_) (fun c44 => ?_)
    · replace c44 := b2i_0.mp c44
      refine ZE.iconst (n := 0) d_Ref_ofNumber_51 ?_
      refine ZE.iret d_Ref_ofNumber_52 rfl ?_
      have k1 := k A2 g2
      rw [show onV S T 0 = if stN S T 7 = 1 then 1 else 0 from rfl] at k1
      first | (rw [if_pos c44] at k1; exact k1) | (rw [if_neg c44] at k1; exact k1)
    · replace c44 := b2i_n0.mp c44
      refine ZE.iconst (n := 1) d_Ref_ofNumber_47 ?_
      refine ZE.goto (tgt := 52) d_Ref_ofNumber_48 rfl ?_
      refine ZE.iret d_Ref_ofNumber_52 rfl ?_
      have k1 := k A2 g2
      rw [show onV S T 0 = if stN S T 7 = 1 then 1 else 0 from rfl] at k1
      first | (rw [if_pos c44] at k1; exact k1) | (rw [if_neg c44] at k1; exact k1)
  · refine ZE.tableIn (tgt := 53) d_Ref_ofNumber_1 (by unfold zR; omega) (by omega) rfl rfl ?_
    refine ZE.aload_n d_Ref_ofNumber_53 rfl ?_
    refine ZE.aload_n d_Ref_ofNumber_54 rfl ?_
    refine ZE.cV [] [(2, o)] [(2, o)] d_Ref_ofNumber_55 l_Ref_361 rfl rfl rfl rfl rfl rfl hK.1 ?_
    refine r_smallNumber hK hF hT hT1 hT9 ?_
    show ZE (d + 6) M_Ref_ofNumber (gw G A) 58 [(2, o), (0, 1)] [(0, (smN T : Int)), (2, o)] _
    refine ZE.cV [(0, (smN T : Int))] [] [(2, o), (0, (smN T : Int)), (9, 0)] d_Ref_ofNumber_58 l_Ref_364 rfl rfl rfl rfl rfl rfl hK.1 ?_
    refine r_pairAt (n := smN T) hK hF hR hS7 hp5 (by omega) ?_
    show ZE (d + 6) M_Ref_ofNumber (gw G A) 61 [(2, o), (0, 1)] [(0, fst1 (fun k => decide (pN S k = smN T)) (prs S).length)] _
    refine ZE.iret d_Ref_ofNumber_61 rfl ?_
    exact k A quF.rf
  · refine ZE.tableIn (tgt := 62) d_Ref_ofNumber_1 (by unfold zR; omega) (by omega) rfl rfl ?_
    refine ZE.aload_n d_Ref_ofNumber_62 rfl ?_
    refine ZE.aload_n d_Ref_ofNumber_63 rfl ?_
    refine ZE.cV [] [(2, o)] [(2, o)] d_Ref_ofNumber_64 l_Ref_361 rfl rfl rfl rfl rfl rfl hK.1 ?_
    refine r_smallNumber hK hF hT hT1 hT9 ?_
    show ZE (d + 6) M_Ref_ofNumber (gw G A) 67 [(2, o), (0, 2)] [(0, (smN T : Int)), (2, o)] _
    refine ZE.cV [(0, (smN T : Int))] [] [(2, o), (0, (smN T : Int)), (9, 0)] d_Ref_ofNumber_67 l_Ref_367 rfl rfl rfl rfl rfl rfl hK.1 ?_
    refine r_twoAt (n := smN T) hK hF hR hS7 hp5 (by omega) ?_
    show ZE (d + 6) M_Ref_ofNumber (gw G A) 70 [(2, o), (0, 2)] [(0, fst1 (fun k => decide (tN S k = smN T)) (tws S).length)] _
    refine ZE.iret d_Ref_ofNumber_70 rfl ?_
    exact k A quF.rf
  · refine ZE.tableIn (tgt := 71) d_Ref_ofNumber_1 (by unfold zR; omega) (by omega) rfl rfl ?_
    refine ZE.aload_n d_Ref_ofNumber_71 rfl ?_
    refine ZE.cV [] [] [(2, o), (9, 0), (9, 0)] d_Ref_ofNumber_72 l_Ref_354 rfl rfl rfl rfl rfl rfl hK.1 ?_
    refine r_longLeft (S := S) (T := T) hK hF hR hS7 hp5 hT hT1 hT9 (fun f hn0 hro => ?_)
    show ZE (d + 6) M_Ref_ofNumber (gw G (upA A (o + 2) f)) 75 [(2, o), (0, 3)] [(0, (dl (stN S T 7) : Int))] _
    refine ZE.iret d_Ref_ofNumber_75 rfl ?_
    exact k _ hro.qu
  · refine ZE.tableIn (tgt := 76) d_Ref_ofNumber_1 (by unfold zR; omega) (by omega) rfl rfl ?_
    refine ZE.aload_n d_Ref_ofNumber_76 rfl ?_
    refine ZE.aload_n d_Ref_ofNumber_77 rfl ?_
    refine ZE.cV [] [(2, o)] [(2, o)] d_Ref_ofNumber_78 l_Ref_361 rfl rfl rfl rfl rfl rfl hK.1 ?_
    refine r_smallNumber hK hF hT hT1 hT9 ?_
    show ZE (d + 6) M_Ref_ofNumber (gw G A) 81 [(2, o), (0, 4)] [(0, (smN T : Int)), (2, o)] _
    refine ZE.cV [(0, (smN T : Int))] [] [(2, o), (0, (smN T : Int)), (9, 0), (9, 0)] d_Ref_ofNumber_81 l_Ref_370 rfl rfl rfl rfl rfl rfl hK.1 ?_
    refine r_pairsBelow (n := smN T) hK hF hR hS7 hp5 (by omega) ?_
    show ZE (d + 6) M_Ref_ofNumber (gw G A) 84 [(2, o), (0, 4)] [(0, (cnt (fun k => decide (pN S k < smN T)) (prs S).length : Int))] _
    refine ZE.iret d_Ref_ofNumber_84 rfl ?_
    exact k A quF.rf
  · refine ZE.tableIn (tgt := 85) d_Ref_ofNumber_1 (by unfold zR; omega) (by omega) rfl rfl ?_
    refine ZE.aload_n d_Ref_ofNumber_85 rfl ?_
    refine ZE.sipush (n := 131) d_Ref_ofNumber_86 rfl ?_
    refine ZE.sipush (n := 9973) d_Ref_ofNumber_89 rfl ?_
    refine ZE.cV [(0, 131), (0, 9973)] [] [(2, o), (0, 131), (0, 9973), (9, 0), (9, 0), (9, 0)] d_Ref_ofNumber_92 l_Ref_254 rfl rfl rfl rfl rfl rfl hK.1 ?_
    refine r_modOf (n := 131) (v := T) (m := 9973) hK hF (by omega) hT (by omega) (by omega) (by omega) ?_
    show ZE (d + 6) M_Ref_ofNumber (gw G A) 95 [(2, o), (0, 5)] [(0, ((T % 9973 : Nat) : Int))] _
    refine ZE.iret d_Ref_ofNumber_95 rfl ?_
    exact k A quF.rf
