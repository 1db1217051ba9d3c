set_option maxRecDepth 20000 in
set_option maxHeartbeats 4000000 in
theorem m_learnSum {d : Nat} {G : zG} {A : Int → Int → Int} {P : Option zV → zG → Prop} {h : Int} (hK : mK G h) (hF : mF A h) (hL : lG G A) (hgl : gl G < h) {c0 xa xb xc : Nat} (hc : c0 ≤ 3000) (ha7 : xa < 128) (hb7 : xb < 128) (hc7 : xc < 128) (k : ∀ B, (∀ a : Int, a ≠ h + 4 → a ≠ h + 5 → B a = A a) → (∀ q : Int, B (h + 4) q = A (h + 4) q + (if q = (c0 : Int) ∧ (xa &&& xb = 0) then 1 else 0)) → (∀ q : Int, B (h + 5) q = A (h + 5) q + (if q = (c0 : Int) ∧ (xa &&& xb = 0 ∧ rad (xa ||| xb ||| xc) < c0) then 1 else 0)) → P none (gw G B)) : ZE (d + 2) M_Smo_learnSum (gw G A) 0 [(2, h), (0, (c0 : Int)), (0, (xa : Int)), (0, (xb : Int)), (0, (xc : Int))] [] P := by
  have hh0 := hK.2.1
  have hab := or_128 xa ha7 xb hb7
  have habc := or_128 (xa ||| xb) hab xc hc7
  have hnd : xa &&& xb < 128 := Nat.lt_of_le_of_lt Nat.and_le_left ha7
  have hrd := rdF_le _ habc 7 (by omega)
  have hrd2 : rad (xa ||| xb ||| xc) ≤ 510510 := hrd.2
  refine ZE.iload_n d_Smo_learnSum_0 rfl ?_
  refine ZE.if_lt (tgt := 17) d_Smo_learnSum_1 rfl (by unfold zR; omega) (fun c1 => ?_) (fun c1 => ?_)
  · exact absurd c1 (by omega)
  · refine ZE.iload_n d_Smo_learnSum_4 rfl ?_
    refine ZE.sipush (n := 3000) d_Smo_learnSum_5 rfl ?_
    refine ZE.icmp_gt (tgt := 17) d_Smo_learnSum_8 rfl (by unfold zR; omega) (by unfold zR; omega) (fun c8 => ?_) (fun c8 => ?_)
    · exact absurd c8 (by omega)
    · refine ZE.iload_n d_Smo_learnSum_11 rfl ?_
      refine ZE.iload_n d_Smo_learnSum_12 rfl ?_
      refine ZE.iand d_Smo_learnSum_13 ?_
      rw [show (zand (xa : Int) (xb : Int) : Int) = ((xa &&& xb : Nat) : Int) from (zand_nat (by omega) (by omega))]
      refine ZE.if_eq (tgt := 18) d_Smo_learnSum_14 rfl (by unfold zR; omega) (fun c14 => ?_) (fun c14 => ?_)
      · refine ZE.aload_n d_Smo_learnSum_18 rfl ?_
        refine ZE.getE (v := h + 4) d_Smo_learnSum_19 f_Smo_23 (tg := 2) rfl hK.1 hF.2.2.2.1 ?_
        refine ZE.iload_n d_Smo_learnSum_22 rfl ?_
        refine ZE.dup2 d_Smo_learnSum_23 (Or.inl rfl) (Or.inr rfl) ?_
        refine ZE.ialdE (v := A (h + 4) (c0 : Int)) d_Smo_learnSum_24 hK.2.2.2.2.2.1.1 (by have hn0 := hK.2.2.2.2.2.1.2; show 0 ≤ (c0 : Int) ∧ (c0 : Int) < gn G (h + 4); omega) rfl ?_
        refine ZE.iconst (n := 1) d_Smo_learnSum_25 ?_
        refine ZE.iadd d_Smo_learnSum_26 ?_
        refine ZE.iast d_Smo_learnSum_27 hK.2.2.2.2.2.1.1 (by have hn0 := hK.2.2.2.2.2.1.2; show 0 ≤ (c0 : Int) ∧ (c0 : Int) < gn G (h + 4); omega) ?_
        show ZE (d + 2) M_Smo_learnSum (gw G (up2 A (h + 4) (c0 : Int) ((A (h + 4) (c0 : Int)) + 1))) 28 [(2, h), (0, (c0 : Int)), (0, (xa : Int)), (0, (xb : Int)), (0, (xc : Int))] [] _
        refine ZE.aload_n d_Smo_learnSum_28 rfl ?_
        refine ZE.getE (v := h + 5) d_Smo_learnSum_29 f_Smo_26 (tg := 2) rfl hK.1 ((up2_ne _ _ (by omega)).trans hF.2.2.2.2) ?_
        refine ZE.iload_n d_Smo_learnSum_32 rfl ?_
        refine ZE.dup2 d_Smo_learnSum_33 (Or.inl rfl) (Or.inr rfl) ?_
        refine ZE.ialdE (v := A (h + 5) (c0 : Int)) d_Smo_learnSum_34 hK.2.2.2.2.2.2.1 (by have hn0 := hK.2.2.2.2.2.2.2; show 0 ≤ (c0 : Int) ∧ (c0 : Int) < gn G (h + 5); omega) (up2_ne _ _ (by omega)) ?_
        refine ZE.iload_n d_Smo_learnSum_35 rfl ?_
        refine ZE.iload_n d_Smo_learnSum_36 rfl ?_
        refine ZE.iload_n d_Smo_learnSum_37 rfl ?_
        refine ZE.ior d_Smo_learnSum_38 ?_
        rw [show (zor (xa : Int) (xb : Int) : Int) = ((xa ||| xb : Nat) : Int) from (zor_nat (by omega) (by omega))]
        refine ZE.iload d_Smo_learnSum_39 rfl ?_
        refine ZE.ior d_Smo_learnSum_41 ?_
        rw [show (zor ((xa ||| xb : Nat) : Int) (xc : Int) : Int) = ((xa ||| xb ||| xc : Nat) : Int) from (zor_nat (by omega) (by omega))]
        refine ZE.cS [(0, ((xa ||| xb ||| xc : Nat) : Int))] [(0, (c0 : Int)), (0, A (h + 5) (c0 : Int)), (0, (c0 : Int)), (2, h + 5)] [(0, ((xa ||| xb ||| xc : Nat) : Int)), (9, 0), (9, 0)] d_Smo_learnSum_42 l_Smo_92 rfl rfl rfl rfl rfl rfl ?_
        refine p_product (d := d) habc ⟨hL.1, hL.2.1, fun j => (up2_ne _ _ (by omega)).trans (hL.2.2 j)⟩ ?_
        show ZE (d + 2) M_Smo_learnSum (gw G (up2 A (h + 4) (c0 : Int) ((A (h + 4) (c0 : Int)) + 1))) 45 [(2, h), (0, (c0 : Int)), (0, (xa : Int)), (0, (xb : Int)), (0, (xc : Int))] [(0, (rad (xa ||| xb ||| xc) : Int)), (0, (c0 : Int)), (0, A (h + 5) (c0 : Int)), (0, (c0 : Int)), (2, h + 5)] _
        refine ZE.icmp_le (tgt := 52) d_Smo_learnSum_45 rfl (by unfold zR; omega) (by unfold zR; omega) (fun c45 => ?_) (fun c45 => ?_)
        · refine ZE.iconst (n := 0) d_Smo_learnSum_52 ?_
          refine ZE.iadd d_Smo_learnSum_53 ?_
          refine ZE.iast d_Smo_learnSum_54 hK.2.2.2.2.2.2.1 (by have hn0 := hK.2.2.2.2.2.2.2; show 0 ≤ (c0 : Int) ∧ (c0 : Int) < gn G (h + 5); omega) ?_
          show ZE (d + 2) M_Smo_learnSum (gw G (up2 (up2 A (h + 4) (c0 : Int) ((A (h + 4) (c0 : Int)) + 1)) (h + 5) (c0 : Int) ((A (h + 5) (c0 : Int)) + 0))) 55 [(2, h), (0, (c0 : Int)), (0, (xa : Int)), (0, (xb : Int)), (0, (xc : Int))] [] _
          refine ZE.vret d_Smo_learnSum_55 rfl ?_
          refine k _ (fun a h1 h2 => ?_) (fun q => ?_) (fun q => ?_)
          · rw [up2_A, upA_ne _ _ h2, up2_A, upA_ne _ _ h1]
          · rw [up2_ne _ _ (by omega)]
            by_cases z : q = (c0 : Int)
            · subst z; rw [up2_at, if_pos ⟨rfl, by omega⟩]
            · rw [up2_ne _ _ (by omega), if_neg (fun y => z y.1)]; omega
          · by_cases z : q = (c0 : Int)
            · subst z; rw [up2_at]; first | rw [if_pos ⟨rfl, by omega, by omega⟩] | (rw [if_neg (fun y => by have := y.2.2; omega)])
            · rw [up2_ne _ _ (by omega), up2_ne _ _ (by omega), if_neg (fun y => z y.1)]; omega
        · refine ZE.iconst (n := 1) d_Smo_learnSum_48 ?_
          refine ZE.goto (tgt := 53) d_Smo_learnSum_49 rfl ?_
          refine ZE.iadd d_Smo_learnSum_53 ?_
          refine ZE.iast d_Smo_learnSum_54 hK.2.2.2.2.2.2.1 (by have hn0 := hK.2.2.2.2.2.2.2; show 0 ≤ (c0 : Int) ∧ (c0 : Int) < gn G (h + 5); omega) ?_
          show ZE (d + 2) M_Smo_learnSum (gw G (up2 (up2 A (h + 4) (c0 : Int) ((A (h + 4) (c0 : Int)) + 1)) (h + 5) (c0 : Int) ((A (h + 5) (c0 : Int)) + 1))) 55 [(2, h), (0, (c0 : Int)), (0, (xa : Int)), (0, (xb : Int)), (0, (xc : Int))] [] _
          refine ZE.vret d_Smo_learnSum_55 rfl ?_
          refine k _ (fun a h1 h2 => ?_) (fun q => ?_) (fun q => ?_)
          · rw [up2_A, upA_ne _ _ h2, up2_A, upA_ne _ _ h1]
          · rw [up2_ne _ _ (by omega)]
            by_cases z : q = (c0 : Int)
            · subst z; rw [up2_at, if_pos ⟨rfl, by omega⟩]
            · rw [up2_ne _ _ (by omega), if_neg (fun y => z y.1)]; omega
          · by_cases z : q = (c0 : Int)
            · subst z; rw [up2_at]; first | rw [if_pos ⟨rfl, by omega, by omega⟩] | (rw [if_neg (fun y => by have := y.2.2; omega)])
            · rw [up2_ne _ _ (by omega), up2_ne _ _ (by omega), if_neg (fun y => z y.1)]; omega
      · refine ZE.vret d_Smo_learnSum_17 rfl ?_
        refine k A (fun _ _ _ => rfl) (fun q => ?_) (fun q => ?_)
        · rw [if_neg (fun z => by have := z.2; omega)]; omega
        · rw [if_neg (fun z => by have := z.2.1; omega)]; omega
def smF2 (A B : Int → Int → Int) (h : Int) : Prop := (∀ a : Int, a ≠ h → a ≠ h + 4 → a ≠ h + 5 → B a = A a) ∧ (∀ i : Int, i ≠ 5 → B h i = A h i)
theorem smF2.rf {A : Int → Int → Int} {h : Int} : smF2 A A h := ⟨fun _ _ _ _ => rfl, fun _ _ => rfl⟩
theorem smF2.tr {A B C : Int → Int → Int} {h : Int} (a : smF2 A B h) (b : smF2 B C h) : smF2 A C h := ⟨fun e h1 h2 h3 => (b.1 e h1 h2 h3).trans (a.1 e h1 h2 h3), fun i hi => (b.2 i hi).trans (a.2 i hi)⟩
theorem rc_0 {S : Nat} {wh : Int} {w : Nat → Nat} {i c : Nat} : rcN S wh w i i c = 0 := cnt_zero (fun x hx z => by
  unfold rcB at z
  rw [Bool.and_eq_true] at z
  have := of_decide_eq_true z.1
  omega)
theorem rc_next {S : Nat} {w : Nat → Nat} {i j c s1 : Nat} {wh : Int} (hij : i ≤ j) (hs : s1 = w i + w j) : rcN S wh w i (j + 1) c = rcN S wh w i j c + (if c = s1 ∧ suT S wh (w i) (w j) = true then 1 else 0) := by
  show (if rcB S wh w i c j = true then rcN S wh w i j c + 1 else rcN S wh w i j c) = _
  have hq : rcB S wh w i c j = true ↔ (c = s1 ∧ suT S wh (w i) (w j) = true) := by
    unfold rcB
    rw [Bool.and_eq_true, decide_eq_true_iff]
    exact ⟨fun z => ⟨by omega, z.2⟩, fun z => ⟨⟨hij, by omega⟩, z.2⟩⟩
  by_cases q : c = s1 ∧ suT S wh (w i) (w j) = true
  · rw [if_pos (hq.mpr q), if_pos q]
  · rw [if_neg (fun z => q (hq.mp z)), if_neg q]
    rfl
theorem suT_s {S a b : Nat} {wh : Int} (h : suT S wh a b = true) : smB S (a + b) = true := by
  unfold suT at h
  rw [Bool.and_eq_true, Bool.and_eq_true, Bool.and_eq_true] at h
  exact h.1.1.2
set_option maxRecDepth 20000 in
set_option maxHeartbeats 4000000 in
theorem m_learnSums {d : Nat} {G : zG} {A : Int → Int → Int} {P : Option zV → zG → Prop} {h : Int} (hK : mK G h) {S : Nat} {w : Nat → Nat} {M : Nat} (hQ : mS A h S w M) (hL : lG G A) (hgl : gl G < h) (k : ∀ B, smF2 A B h → mS B h S w M → B h 5 = 1 → P none (gw G B)) : ZE (d + 3) M_Smo_learnSums (gw G A) 0 [(2, h), (9, 0), (9, 0), (9, 0), (9, 0)] [] P := by
  have hSL := hQ.2.2.2.1
  have hM16 := hSL.2.1
  have hM1 := hSL.1
  have hh0 := hK.2.1
  refine ZE.aload_n d_Smo_learnSums_0 rfl ?_
  refine ZE.getE (v := h + 4) d_Smo_learnSums_1 f_Smo_23 (tg := 2) rfl hK.1 hQ.1.2.2.2.1 ?_
  refine ZE.iconst (n := 0) d_Smo_learnSums_4 ?_
  refine ZE.cS [(2, h + 4), (0, 0)] [] [(2, h + 4), (0, 0), (9, 0), (9, 0)] d_Smo_learnSums_5 l_Smo_37 rfl rfl rfl rfl rfl rfl ?_
  refine j_fill (d := d + 2) hK.2.2.2.2.2.1.1 hK.2.2.2.2.2.1.2 (len := 3001) (by omega) (x1 := 0) (fun Ay gy fy => ?_)
  show ZE (d + 3) M_Smo_learnSums (gw G Ay) 8 [(2, h), (9, 0), (9, 0), (9, 0), (9, 0)] [] _
  have hFy : mF Ay h := hQ.1.ab (fun i _ => congrFun (gy h (by omega)) i)
  refine ZE.aload_n d_Smo_learnSums_8 rfl ?_
  refine ZE.getE (v := h + 5) d_Smo_learnSums_9 f_Smo_26 (tg := 2) rfl hK.1 hFy.2.2.2.2 ?_
  refine ZE.iconst (n := 0) d_Smo_learnSums_12 ?_
  refine ZE.cS [(2, h + 5), (0, 0)] [] [(2, h + 5), (0, 0), (9, 0), (9, 0)] d_Smo_learnSums_13 l_Smo_37 rfl rfl rfl rfl rfl rfl ?_
  refine j_fill (d := d + 2) hK.2.2.2.2.2.2.1 hK.2.2.2.2.2.2.2 (len := 3001) (by omega) (x1 := 0) (fun Az gz0 fz => ?_)
  show ZE (d + 3) M_Smo_learnSums (gw G Az) 16 [(2, h), (9, 0), (9, 0), (9, 0), (9, 0)] [] _
  have gfz : smF2 A Az h := ⟨fun a h1 h2 h3 => (gz0 a h3).trans (gy a h2), fun i _ => (congrFun (gz0 h (by omega)) i).trans (congrFun (gy h (by omega)) i)⟩
  have hrz : (∀ c : Nat, c ≤ 3000 → Az (h + 4) c = (qcN S 0 w 0 c : Int) ∧ Az (h + 5) c = (qcN S 1 w 0 c : Int)) := fun c hc => ⟨((congrFun (gz0 (h + 4) (by omega)) _).trans (fy c (by omega))).trans rfl, (fz c (by omega)).trans rfl⟩
  refine ZE.iconst (n := 0) d_Smo_learnSums_16 ?_
  refine ZE.istore_n (ls2 := [(2, h), (0, 0), (9, 0), (9, 0), (9, 0)]) d_Smo_learnSums_17 (Nat.le_of_ble_eq_true rfl) rfl ?_
  have L18 : ∀ (tt0 : Nat) (i0 : Nat) (A1 : Int → Int → Int) (hiM : i0 ≤ M) (gf : smF2 A A1 h) (hr1 : (∀ c : Nat, c ≤ 3000 → A1 (h + 4) c = (qcN S 0 w i0 c : Int) ∧ A1 (h + 5) c = (qcN S 1 w i0 c : Int))), M + 1 - i0 < tt0 → ZE (d + 3) M_Smo_learnSums (gw G A1) 18 [(2, h), (0, (i0 : Int)), (9, 0), (9, 0), (9, 0)] [] P := by
    intro tt0
    induction tt0 with
    | zero => intro i0 A1 hiM gf hr1 hm; exact absurd hm (Nat.not_lt_zero _)
    | succ tt0 ih =>
      intro i0 A1 hiM gf hr1 hm
      have hF1 : mF A1 h := hQ.1.ab (fun i hi => gf.2 i (by omega))
      have h71 : A1 h 7 = (M : Int) := (gf.2 7 (by omega)).trans hQ.2.2.1
      have hv1 : mV A1 h w M := fun j hj => by rw [gf.1 (h + 1) (by omega) (by omega) (by omega), gf.1 (h + 2) (by omega) (by omega) (by omega)]; exact hQ.2.2.2.2.1 j hj
      have hL1 : lG G A1 := ⟨hL.1, hL.2.1, fun j => (congrFun (gf.1 _ (by omega) (by omega) (by omega)) _).trans (hL.2.2 j)⟩
      refine ZE.iload_n d_Smo_learnSums_18 rfl ?_
      refine ZE.aload_n d_Smo_learnSums_19 rfl ?_
      refine ZE.getE (v := (M : Int)) d_Smo_learnSums_20 f_Smo_43 (tg := 0) rfl hK.1 h71 ?_
      refine ZE.icmp_ge (tgt := 148) d_Smo_learnSums_23 rfl (by unfold zR; omega) (by unfold zR; omega) (fun c23 => ?_) (fun c23 => ?_)
      · have hpq : ∀ c : Nat, c ≤ 3000 → pcN S 0 c = qcN S 0 w i0 c ∧ pcN S 1 c = qcN S 1 w i0 c := fun c hc => by
          have ho : ∀ x, i0 ≤ x → x < M → c < 2 * w x := fun x hx hx2 => by
            rcases Nat.eq_or_lt_of_le hx with z | z
            · subst z; omega
            · have := hSL.inc z hx2; omega
          exact ⟨pc_qc hSL (by omega) (by omega) ho, pc_qc hSL (by omega) (by omega) ho⟩
        refine ZE.iconst (n := 1) d_Smo_learnSums_148 ?_
        refine ZE.istore_n (ls2 := [(2, h), (0, 1), (9, 0), (9, 0), (9, 0)]) d_Smo_learnSums_149 (Nat.le_of_ble_eq_true rfl) rfl ?_
        have L150 : ∀ (tt0 : Nat) (c1 : Nat) (A3 : Int → Int → Int) (hc1 : c1 + 1 ≤ 3001) (gf3 : smF2 A A3 h) (hr3 : (∀ q : Nat, q ≤ 3000 → A3 (h + 4) q = (if q < c1 + 1 then (sumF (pcN S 0) (q + 1) : Int) else (pcN S 0 q : Int)) ∧ A3 (h + 5) q = (if q < c1 + 1 then (sumF (pcN S 1) (q + 1) : Int) else (pcN S 1 q : Int)))), 3001 - c1 < tt0 → ZE (d + 3) M_Smo_learnSums (gw G A3) 150 [(2, h), (0, ((c1 + 1 : Nat) : Int)), (9, 0), (9, 0), (9, 0)] [] P := by
          intro tt0
          induction tt0 with
          | zero => intro c1 A3 hc1 gf3 hr3 hm; exact absurd hm (Nat.not_lt_zero _)
          | succ tt0 ih4 =>
            intro c1 A3 hc1 gf3 hr3 hm
            have hF3 : mF A3 h := hQ.1.ab (fun i hi => gf3.2 i (by omega))
            refine ZE.iload_n d_Smo_learnSums_150 rfl ?_
            refine ZE.sipush (n := 3000) d_Smo_learnSums_151 rfl ?_
            refine ZE.icmp_gt (tgt := 197) d_Smo_learnSums_154 rfl (by unfold zR; omega) (by unfold zR; omega) (fun c154 => ?_) (fun c154 => ?_)
            · refine ZE.aload_n d_Smo_learnSums_197 rfl ?_
              refine ZE.iconst (n := 1) d_Smo_learnSums_198 ?_
              refine ZE.put d_Smo_learnSums_199 f_Smo_33 (tg := 0) rfl (show zFit (zTy 7 5) 1 from Or.inr rfl) (Or.inl ⟨_, _, _, rfl, rfl, rfl⟩) hK.1 ?_
              show ZE (d + 3) M_Smo_learnSums (gw G (up2 A3 h 5 1)) 202 [(2, h), (0, ((c1 + 1 : Nat) : Int)), (9, 0), (9, 0), (9, 0)] [] _
              refine ZE.vret d_Smo_learnSums_202 rfl ?_
              refine k _ (gf3.tr ⟨fun a h1 _ _ => by rw [up2_A, upA_ne _ _ h1], fun i hi => up2_ne _ _ (by omega)⟩) ?_ (up2_at _ _ _ _)
              have he : c1 + 1 = 3001 := by omega
              refine ⟨hF3.ab (fun i hi => up2_ne _ _ (by omega)), (up2_ne _ _ (by omega)).trans ((gf3.2 6 (by omega)).trans hQ.2.1), (up2_ne _ _ (by omega)).trans ((gf3.2 7 (by omega)).trans hQ.2.2.1), hSL, fun j hj => ?_, Or.inr ⟨up2_at _ _ _ _, fun u hu => ?_⟩⟩
              · rw [up2_ne _ _ (by omega), up2_ne _ _ (by omega), gf3.1 (h + 1) (by omega) (by omega) (by omega), gf3.1 (h + 2) (by omega) (by omega) (by omega)]; exact hQ.2.2.2.2.1 j hj
              · have hr := hr3 u hu
                rw [if_pos (by omega), if_pos (by omega)] at hr
                rw [up2_ne _ _ (by omega), up2_ne _ _ (by omega), ssV_pc hu (by omega), ssV_pc hu (by omega)]
                exact hr
            · refine ZE.aload_n d_Smo_learnSums_157 rfl ?_
              refine ZE.getE (v := h + 4) d_Smo_learnSums_158 f_Smo_23 (tg := 2) rfl hK.1 hF3.2.2.2.1 ?_
              refine ZE.iload_n d_Smo_learnSums_161 rfl ?_
              refine ZE.dup2 d_Smo_learnSums_162 (Or.inl rfl) (Or.inr rfl) ?_
              have hb3 := hr3 (c1 + 1) (by omega)
              rw [if_neg (show ¬ c1 + 1 < c1 + 1 by omega), if_neg (show ¬ c1 + 1 < c1 + 1 by omega)] at hb3
              have ha3 := hr3 c1 (by omega)
              rw [if_pos (show c1 < c1 + 1 by omega), if_pos (show c1 < c1 + 1 by omega)] at ha3
              refine ZE.ialdE (v := (pcN S 0 (c1 + 1) : Int)) d_Smo_learnSums_163 hK.2.2.2.2.2.1.1 (by have hn0 := hK.2.2.2.2.2.1.2; show 0 ≤ ((c1 + 1 : Nat) : Int) ∧ ((c1 + 1 : Nat) : Int) < gn G (h + 4); omega) hb3.1 ?_
              refine ZE.aload_n d_Smo_learnSums_164 rfl ?_
              refine ZE.getE (v := h + 4) d_Smo_learnSums_165 f_Smo_23 (tg := 2) rfl hK.1 hF3.2.2.2.1 ?_
              refine ZE.iload_n d_Smo_learnSums_168 rfl ?_
              refine ZE.iconst (n := 1) d_Smo_learnSums_169 ?_
              refine ZE.isub d_Smo_learnSums_170 ?_
              rw [show (((c1 + 1 : Nat) : Int) - 1 : Int) = (c1 : Int) from (by omega)]
              refine ZE.ialdE (v := (sumF (pcN S 0) (c1 + 1) : Int)) d_Smo_learnSums_171 hK.2.2.2.2.2.1.1 (by have hn0 := hK.2.2.2.2.2.1.2; show 0 ≤ (c1 : Int) ∧ (c1 : Int) < gn G (h + 4); omega) ha3.1 ?_
              refine ZE.iadd d_Smo_learnSums_172 ?_
              refine ZE.iast d_Smo_learnSums_173 hK.2.2.2.2.2.1.1 (by have hn0 := hK.2.2.2.2.2.1.2; show 0 ≤ ((c1 + 1 : Nat) : Int) ∧ ((c1 + 1 : Nat) : Int) < gn G (h + 4); omega) ?_
              show ZE (d + 3) M_Smo_learnSums (gw G (up2 A3 (h + 4) ((c1 + 1 : Nat) : Int) ((pcN S 0 (c1 + 1) : Int) + (sumF (pcN S 0) (c1 + 1) : Int)))) 174 [(2, h), (0, ((c1 + 1 : Nat) : Int)), (9, 0), (9, 0), (9, 0)] [] _
              refine ZE.aload_n d_Smo_learnSums_174 rfl ?_
              refine ZE.getE (v := h + 5) d_Smo_learnSums_175 f_Smo_26 (tg := 2) rfl hK.1 ((up2_ne _ _ (by omega)).trans hF3.2.2.2.2) ?_
              refine ZE.iload_n d_Smo_learnSums_178 rfl ?_
              refine ZE.dup2 d_Smo_learnSums_179 (Or.inl rfl) (Or.inr rfl) ?_
              refine ZE.ialdE (v := (pcN S 1 (c1 + 1) : Int)) d_Smo_learnSums_180 hK.2.2.2.2.2.2.1 (by have hn0 := hK.2.2.2.2.2.2.2; show 0 ≤ ((c1 + 1 : Nat) : Int) ∧ ((c1 + 1 : Nat) : Int) < gn G (h + 5); omega) ((up2_ne _ _ (by omega)).trans hb3.2) ?_
              refine ZE.aload_n d_Smo_learnSums_181 rfl ?_
              refine ZE.getE (v := h + 5) d_Smo_learnSums_182 f_Smo_26 (tg := 2) rfl hK.1 ((up2_ne _ _ (by omega)).trans hF3.2.2.2.2) ?_
              refine ZE.iload_n d_Smo_learnSums_185 rfl ?_
              refine ZE.iconst (n := 1) d_Smo_learnSums_186 ?_
              refine ZE.isub d_Smo_learnSums_187 ?_
              rw [show (((c1 + 1 : Nat) : Int) - 1 : Int) = (c1 : Int) from (by omega)]
              refine ZE.ialdE (v := (sumF (pcN S 1) (c1 + 1) : Int)) d_Smo_learnSums_188 hK.2.2.2.2.2.2.1 (by have hn0 := hK.2.2.2.2.2.2.2; show 0 ≤ (c1 : Int) ∧ (c1 : Int) < gn G (h + 5); omega) ((up2_ne _ _ (by omega)).trans ha3.2) ?_
              refine ZE.iadd d_Smo_learnSums_189 ?_
              refine ZE.iast d_Smo_learnSums_190 hK.2.2.2.2.2.2.1 (by have hn0 := hK.2.2.2.2.2.2.2; show 0 ≤ ((c1 + 1 : Nat) : Int) ∧ ((c1 + 1 : Nat) : Int) < gn G (h + 5); omega) ?_
              show ZE (d + 3) M_Smo_learnSums (gw G (up2 (up2 A3 (h + 4) ((c1 + 1 : Nat) : Int) ((pcN S 0 (c1 + 1) : Int) + (sumF (pcN S 0) (c1 + 1) : Int))) (h + 5) ((c1 + 1 : Nat) : Int) ((pcN S 1 (c1 + 1) : Int) + (sumF (pcN S 1) (c1 + 1) : Int)))) 191 [(2, h), (0, ((c1 + 1 : Nat) : Int)), (9, 0), (9, 0), (9, 0)] [] _
              refine ZE.iinc (ls2 := [(2, h), (0, ((c1 + 1 : Nat) : Int) + 1), (9, 0), (9, 0), (9, 0)]) d_Smo_learnSums_191 rfl rfl ?_
              refine ZE.goto (tgt := 150) d_Smo_learnSums_194 rfl ?_
              rw [show ((c1 + 1 : Nat) : Int) + 1 = ((c1 + 1 + 1 : Nat) : Int) by omega]
              refine ih4 (c1 + 1) _ (by omega) (gf3.tr ⟨fun a _ h2 h3 => by rw [up2_A, upA_ne _ _ h3, up2_A, upA_ne _ _ h2], fun i _ => by rw [up2_ne _ _ (by omega), up2_ne _ _ (by omega)]⟩) (fun q hq => ?_) (by omega)
              have hq3 := hr3 q hq
              by_cases z : q = c1 + 1
              · subst z
                rw [if_pos (Nat.lt_succ_self _), if_pos (Nat.lt_succ_self _)]
                refine ⟨?_, ?_⟩
                · rw [up2_ne _ _ (by omega), up2_at, show sumF (pcN S 0) (c1 + 1 + 1) = sumF (pcN S 0) (c1 + 1) + pcN S 0 (c1 + 1) from rfl]; omega
                · rw [up2_at, show sumF (pcN S 1) (c1 + 1 + 1) = sumF (pcN S 1) (c1 + 1) + pcN S 1 (c1 + 1) from rfl]; omega
              · rw [up2_ne _ _ (by omega), up2_ne _ _ (by omega), up2_ne _ _ (by omega), up2_ne _ _ (by omega)]
                by_cases y : q < c1 + 1
                · rw [if_pos y, if_pos y] at hq3; rw [if_pos (show q < c1 + 1 + 1 by omega), if_pos (show q < c1 + 1 + 1 by omega)]; exact hq3
                · rw [if_neg y, if_neg y] at hq3; rw [if_neg (show ¬ q < c1 + 1 + 1 by omega), if_neg (show ¬ q < c1 + 1 + 1 by omega)]; exact hq3
        refine ZE.mask [true, true, false, false, false] ?_
        refine L150 _ 0 A1 (by omega) gf (fun q hq => ?_) (Nat.lt_succ_self _)
        have hpz := hpq q hq
        have hrz := hr1 q hq
        by_cases z : q = 0
        · subst z; rw [if_pos (by omega), if_pos (by omega), hrz.1, hrz.2, ← hpz.1, ← hpz.2]; exact ⟨rfl, rfl⟩
        · rw [if_neg (by omega), if_neg (by omega), hrz.1, hrz.2, ← hpz.1, ← hpz.2]; exact ⟨rfl, rfl⟩
      · refine ZE.iconst (n := 2) d_Smo_learnSums_26 ?_
        refine ZE.aload_n d_Smo_learnSums_27 rfl ?_
        refine ZE.iload_n d_Smo_learnSums_28 rfl ?_
        refine ZE.cV [(0, (i0 : Int))] [(0, 2)] [(2, h), (0, (i0 : Int))] d_Smo_learnSums_29 l_Smo_65 rfl rfl rfl rfl rfl rfl hK.1 ?_
        refine m_valueAt (d := d + 2) hK hF1 h71 hM16 hv1 (i := (i0 : Int)) (by unfold zR; omega) ?_
        show ZE (d + 3) M_Smo_learnSums (gw G A1) 32 [(2, h), (0, (i0 : Int)), (9, 0), (9, 0), (9, 0)] [(0, vlF w M (i0 : Int)), (0, 2)] _
        rw [vlF_y (show i0 < M by omega)]
        have hwi := hSL.le (j := i0) (by omega)
        refine ZE.imul d_Smo_learnSums_32 ?_
        rw [show (2 * (w i0 : Int) : Int) = ((2 * w i0 : Nat) : Int) from (by omega)]
        refine ZE.sipush (n := 3000) d_Smo_learnSums_33 rfl ?_
        refine ZE.icmp_gt (tgt := 148) d_Smo_learnSums_36 rfl (by unfold zR; omega) (by unfold zR; omega) (fun c36 => ?_) (fun c36 => ?_)
        · have hpq : ∀ c : Nat, c ≤ 3000 → pcN S 0 c = qcN S 0 w i0 c ∧ pcN S 1 c = qcN S 1 w i0 c := fun c hc => by
            have ho : ∀ x, i0 ≤ x → x < M → c < 2 * w x := fun x hx hx2 => by
              rcases Nat.eq_or_lt_of_le hx with z | z
              · subst z; omega
              · have := hSL.inc z hx2; omega
            exact ⟨pc_qc hSL (by omega) (by omega) ho, pc_qc hSL (by omega) (by omega) ho⟩
          refine ZE.iconst (n := 1) d_Smo_learnSums_148 ?_
          refine ZE.istore_n (ls2 := [(2, h), (0, 1), (9, 0), (9, 0), (9, 0)]) d_Smo_learnSums_149 (Nat.le_of_ble_eq_true rfl) rfl ?_
          have L150 : ∀ (tt0 : Nat) (c1 : Nat) (A3 : Int → Int → Int) (hc1 : c1 + 1 ≤ 3001) (gf3 : smF2 A A3 h) (hr3 : (∀ q : Nat, q ≤ 3000 → A3 (h + 4) q = (if q < c1 + 1 then (sumF (pcN S 0) (q + 1) : Int) else (pcN S 0 q : Int)) ∧ A3 (h + 5) q = (if q < c1 + 1 then (sumF (pcN S 1) (q + 1) : Int) else (pcN S 1 q : Int)))), 3001 - c1 < tt0 → ZE (d + 3) M_Smo_learnSums (gw G A3) 150 [(2, h), (0, ((c1 + 1 : Nat) : Int)), (9, 0), (9, 0), (9, 0)] [] P := by
            intro tt0
            induction tt0 with
            | zero => intro c1 A3 hc1 gf3 hr3 hm; exact absurd hm (Nat.not_lt_zero _)
            | succ tt0 ih4 =>
              intro c1 A3 hc1 gf3 hr3 hm
              have hF3 : mF A3 h := hQ.1.ab (fun i hi => gf3.2 i (by omega))
              refine ZE.iload_n d_Smo_learnSums_150 rfl ?_
              refine ZE.sipush (n := 3000) d_Smo_learnSums_151 rfl ?_
              refine ZE.icmp_gt (tgt := 197) d_Smo_learnSums_154 rfl (by unfold zR; omega) (by unfold zR; omega) (fun c154 => ?_) (fun c154 => ?_)
              · refine ZE.aload_n d_Smo_learnSums_197 rfl ?_
                refine ZE.iconst (n := 1) d_Smo_learnSums_198 ?_
                refine ZE.put d_Smo_learnSums_199 f_Smo_33 (tg := 0) rfl (show zFit (zTy 7 5) 1 from Or.inr rfl) (Or.inl ⟨_, _, _, rfl, rfl, rfl⟩) hK.1 ?_
                show ZE (d + 3) M_Smo_learnSums (gw G (up2 A3 h 5 1)) 202 [(2, h), (0, ((c1 + 1 : Nat) : Int)), (9, 0), (9, 0), (9, 0)] [] _
                refine ZE.vret d_Smo_learnSums_202 rfl ?_
                refine k _ (gf3.tr ⟨fun a h1 _ _ => by rw [up2_A, upA_ne _ _ h1], fun i hi => up2_ne _ _ (by omega)⟩) ?_ (up2_at _ _ _ _)
                have he : c1 + 1 = 3001 := by omega
                refine ⟨hF3.ab (fun i hi => up2_ne _ _ (by omega)), (up2_ne _ _ (by omega)).trans ((gf3.2 6 (by omega)).trans hQ.2.1), (up2_ne _ _ (by omega)).trans ((gf3.2 7 (by omega)).trans hQ.2.2.1), hSL, fun j hj => ?_, Or.inr ⟨up2_at _ _ _ _, fun u hu => ?_⟩⟩
                · rw [up2_ne _ _ (by omega), up2_ne _ _ (by omega), gf3.1 (h + 1) (by omega) (by omega) (by omega), gf3.1 (h + 2) (by omega) (by omega) (by omega)]; exact hQ.2.2.2.2.1 j hj
                · have hr := hr3 u hu
                  rw [if_pos (by omega), if_pos (by omega)] at hr
                  rw [up2_ne _ _ (by omega), up2_ne _ _ (by omega), ssV_pc hu (by omega), ssV_pc hu (by omega)]
                  exact hr
              · refine ZE.aload_n d_Smo_learnSums_157 rfl ?_
                refine ZE.getE (v := h + 4) d_Smo_learnSums_158 f_Smo_23 (tg := 2) rfl hK.1 hF3.2.2.2.1 ?_
                refine ZE.iload_n d_Smo_learnSums_161 rfl ?_
                refine ZE.dup2 d_Smo_learnSums_162 (Or.inl rfl) (Or.inr rfl) ?_
                have hb3 := hr3 (c1 + 1) (by omega)
                rw [if_neg (show ¬ c1 + 1 < c1 + 1 by omega), if_neg (show ¬ c1 + 1 < c1 + 1 by omega)] at hb3
                have ha3 := hr3 c1 (by omega)
                rw [if_pos (show c1 < c1 + 1 by omega), if_pos (show c1 < c1 + 1 by omega)] at ha3
                refine ZE.ialdE (v := (pcN S 0 (c1 + 1) : Int)) d_Smo_learnSums_163 hK.2.2.2.2.2.1.1 (by have hn0 := hK.2.2.2.2.2.1.2; show 0 ≤ ((c1 + 1 : Nat) : Int) ∧ ((c1 + 1 : Nat) : Int) < gn G (h + 4); omega) hb3.1 ?_
                refine ZE.aload_n d_Smo_learnSums_164 rfl ?_
                refine ZE.getE (v := h + 4) d_Smo_learnSums_165 f_Smo_23 (tg := 2) rfl hK.1 hF3.2.2.2.1 ?_
                refine ZE.iload_n d_Smo_learnSums_168 rfl ?_
                refine ZE.iconst (n := 1) d_Smo_learnSums_169 ?_
                refine ZE.isub d_Smo_learnSums_170 ?_
                rw [show (((c1 + 1 : Nat) : Int) - 1 : Int) = (c1 : Int) from (by omega)]
                refine ZE.ialdE (v := (sumF (pcN S 0) (c1 + 1) : Int)) d_Smo_learnSums_171 hK.2.2.2.2.2.1.1 (by have hn0 := hK.2.2.2.2.2.1.2; show 0 ≤ (c1 : Int) ∧ (c1 : Int) < gn G (h + 4); omega) ha3.1 ?_
                refine ZE.iadd d_Smo_learnSums_172 ?_
                refine ZE.iast d_Smo_learnSums_173 hK.2.2.2.2.2.1.1 (by have hn0 := hK.2.2.2.2.2.1.2; show 0 ≤ ((c1 + 1 : Nat) : Int) ∧ ((c1 + 1 : Nat) : Int) < gn G (h + 4); omega) ?_
                show ZE (d + 3) M_Smo_learnSums (gw G (up2 A3 (h + 4) ((c1 + 1 : Nat) : Int) ((pcN S 0 (c1 + 1) : Int) + (sumF (pcN S 0) (c1 + 1) : Int)))) 174 [(2, h), (0, ((c1 + 1 : Nat) : Int)), (9, 0), (9, 0), (9, 0)] [] _
                refine ZE.aload_n d_Smo_learnSums_174 rfl ?_
                refine ZE.getE (v := h + 5) d_Smo_learnSums_175 f_Smo_26 (tg := 2) rfl hK.1 ((up2_ne _ _ (by omega)).trans hF3.2.2.2.2) ?_
                refine ZE.iload_n d_Smo_learnSums_178 rfl ?_
                refine ZE.dup2 d_Smo_learnSums_179 (Or.inl rfl) (Or.inr rfl) ?_
                refine ZE.ialdE (v := (pcN S 1 (c1 + 1) : Int)) d_Smo_learnSums_180 hK.2.2.2.2.2.2.1 (by have hn0 := hK.2.2.2.2.2.2.2; show 0 ≤ ((c1 + 1 : Nat) : Int) ∧ ((c1 + 1 : Nat) : Int) < gn G (h + 5); omega) ((up2_ne _ _ (by omega)).trans hb3.2) ?_
                refine ZE.aload_n d_Smo_learnSums_181 rfl ?_
                refine ZE.getE (v := h + 5) d_Smo_learnSums_182 f_Smo_26 (tg := 2) rfl hK.1 ((up2_ne _ _ (by omega)).trans hF3.2.2.2.2) ?_
                refine ZE.iload_n d_Smo_learnSums_185 rfl ?_
                refine ZE.iconst (n := 1) d_Smo_learnSums_186 ?_
                refine ZE.isub d_Smo_learnSums_187 ?_
                rw [show (((c1 + 1 : Nat) : Int) - 1 : Int) = (c1 : Int) from (by omega)]
                refine ZE.ialdE (v := (sumF (pcN S 1) (c1 + 1) : Int)) d_Smo_learnSums_188 hK.2.2.2.2.2.2.1 (by have hn0 := hK.2.2.2.2.2.2.2; show 0 ≤ (c1 : Int) ∧ (c1 : Int) < gn G (h + 5); omega) ((up2_ne _ _ (by omega)).trans ha3.2) ?_
                refine ZE.iadd d_Smo_learnSums_189 ?_
                refine ZE.iast d_Smo_learnSums_190 hK.2.2.2.2.2.2.1 (by have hn0 := hK.2.2.2.2.2.2.2; show 0 ≤ ((c1 + 1 : Nat) : Int) ∧ ((c1 + 1 : Nat) : Int) < gn G (h + 5); omega) ?_
                show ZE (d + 3) M_Smo_learnSums (gw G (up2 (up2 A3 (h + 4) ((c1 + 1 : Nat) : Int) ((pcN S 0 (c1 + 1) : Int) + (sumF (pcN S 0) (c1 + 1) : Int))) (h + 5) ((c1 + 1 : Nat) : Int) ((pcN S 1 (c1 + 1) : Int) + (sumF (pcN S 1) (c1 + 1) : Int)))) 191 [(2, h), (0, ((c1 + 1 : Nat) : Int)), (9, 0), (9, 0), (9, 0)] [] _
                refine ZE.iinc (ls2 := [(2, h), (0, ((c1 + 1 : Nat) : Int) + 1), (9, 0), (9, 0), (9, 0)]) d_Smo_learnSums_191 rfl rfl ?_
                refine ZE.goto (tgt := 150) d_Smo_learnSums_194 rfl ?_
                rw [show ((c1 + 1 : Nat) : Int) + 1 = ((c1 + 1 + 1 : Nat) : Int) by omega]
                refine ih4 (c1 + 1) _ (by omega) (gf3.tr ⟨fun a _ h2 h3 => by rw [up2_A, upA_ne _ _ h3, up2_A, upA_ne _ _ h2], fun i _ => by rw [up2_ne _ _ (by omega), up2_ne _ _ (by omega)]⟩) (fun q hq => ?_) (by omega)
                have hq3 := hr3 q hq
                by_cases z : q = c1 + 1
                · subst z
                  rw [if_pos (Nat.lt_succ_self _), if_pos (Nat.lt_succ_self _)]
                  refine ⟨?_, ?_⟩
                  · rw [up2_ne _ _ (by omega), up2_at, show sumF (pcN S 0) (c1 + 1 + 1) = sumF (pcN S 0) (c1 + 1) + pcN S 0 (c1 + 1) from rfl]; omega
                  · rw [up2_at, show sumF (pcN S 1) (c1 + 1 + 1) = sumF (pcN S 1) (c1 + 1) + pcN S 1 (c1 + 1) from rfl]; omega
                · rw [up2_ne _ _ (by omega), up2_ne _ _ (by omega), up2_ne _ _ (by omega), up2_ne _ _ (by omega)]
                  by_cases y : q < c1 + 1
                  · rw [if_pos y, if_pos y] at hq3; rw [if_pos (show q < c1 + 1 + 1 by omega), if_pos (show q < c1 + 1 + 1 by omega)]; exact hq3
                  · rw [if_neg y, if_neg y] at hq3; rw [if_neg (show ¬ q < c1 + 1 + 1 by omega), if_neg (show ¬ q < c1 + 1 + 1 by omega)]; exact hq3
          refine ZE.mask [true, true, false, false, false] ?_
          refine L150 _ 0 A1 (by omega) gf (fun q hq => ?_) (Nat.lt_succ_self _)
          have hpz := hpq q hq
          have hrz := hr1 q hq
          by_cases z : q = 0
          · subst z; rw [if_pos (by omega), if_pos (by omega), hrz.1, hrz.2, ← hpz.1, ← hpz.2]; exact ⟨rfl, rfl⟩
          · rw [if_neg (by omega), if_neg (by omega), hrz.1, hrz.2, ← hpz.1, ← hpz.2]; exact ⟨rfl, rfl⟩
        · refine ZE.iload_n d_Smo_learnSums_39 rfl ?_
          refine ZE.istore_n (ls2 := [(2, h), (0, (i0 : Int)), (0, (i0 : Int)), (9, 0), (9, 0)]) d_Smo_learnSums_40 (Nat.le_of_ble_eq_true rfl) rfl ?_
          refine ZE.iload_n d_Smo_learnSums_41 rfl ?_
          refine ZE.istore_n (ls2 := [(2, h), (0, (i0 : Int)), (0, (i0 : Int)), (0, (i0 : Int)), (9, 0)]) d_Smo_learnSums_42 (Nat.le_of_ble_eq_true rfl) rfl ?_
          have L43 : ∀ (tt0 : Nat) (j0 : Nat) (a0 : Nat) (A2 : Int → Int → Int) (hij : i0 ≤ j0 ∧ j0 ≤ M) (haM : a0 ≤ M) (ha : ∀ x : Nat, x < a0 → j0 < M → w x < w i0 + w j0) (gf2 : smF2 A A2 h) (hr2 : (∀ c : Nat, c ≤ 3000 → A2 (h + 4) c = ((qcN S 0 w i0 c + rcN S 0 w i0 j0 c : Nat) : Int) ∧ A2 (h + 5) c = ((qcN S 1 w i0 c + rcN S 1 w i0 j0 c : Nat) : Int))), M + 1 - j0 < tt0 → ZE (d + 3) M_Smo_learnSums (gw G A2) 43 [(2, h), (0, (i0 : Int)), (0, (a0 : Int)), (0, (j0 : Int)), (9, 0)] [] P := by
            intro tt0
            induction tt0 with
            | zero => intro j0 a0 A2 hij haM ha gf2 hr2 hm; exact absurd hm (Nat.not_lt_zero _)
            | succ tt0 ih2 =>
              intro j0 a0 A2 hij haM ha gf2 hr2 hm
              have hF2 : mF A2 h := hQ.1.ab (fun i hi => gf2.2 i (by omega))
              have h72 : A2 h 7 = (M : Int) := (gf2.2 7 (by omega)).trans hQ.2.2.1
              have hv2 : mV A2 h w M := fun j hj => by rw [gf2.1 (h + 1) (by omega) (by omega) (by omega), gf2.1 (h + 2) (by omega) (by omega) (by omega)]; exact hQ.2.2.2.2.1 j hj
              have hL2 : lG G A2 := ⟨hL.1, hL.2.1, fun j => (congrFun (gf2.1 _ (by omega) (by omega) (by omega)) _).trans (hL.2.2 j)⟩
              have hjM := hij.2
              refine ZE.iload_n d_Smo_learnSums_43 rfl ?_
              refine ZE.aload_n d_Smo_learnSums_44 rfl ?_
              refine ZE.getE (v := (M : Int)) d_Smo_learnSums_45 f_Smo_43 (tg := 0) rfl hK.1 h72 ?_
              refine ZE.icmp_ge (tgt := 142) d_Smo_learnSums_48 rfl (by unfold zR; omega) (by unfold zR; omega) (fun c48 => ?_) (fun c48 => ?_)
              · have hend : ∀ y, j0 ≤ y → y < M → 3000 < w i0 + w y := fun y hy hy2 => by
                  have h1 := hSL.le hy2
                  rcases Nat.eq_or_lt_of_le hy with z | z
                  · subst z; omega
                  · have := hSL.inc z hy2; omega
                refine ZE.iinc (ls2 := [(2, h), (0, (i0 : Int) + 1), (0, (a0 : Int)), (0, (j0 : Int)), (9, 0)]) d_Smo_learnSums_142 rfl rfl ?_
                refine ZE.goto (tgt := 18) d_Smo_learnSums_145 rfl ?_
                refine ZE.mask [true, true, false, false, true] ?_
                show ZE (d + 3) M_Smo_learnSums (gw G A2) 18 [(2, h), (0, (i0 : Int) + 1), (9, 0), (9, 0), (9, 0)] [] _
                rw [show (i0 : Int) + 1 = ((i0 + 1 : Nat) : Int) by omega]
                exact ih (i0 + 1) A2 (by omega) gf2 (fun c hc => by rw [← qc_next hSL hc (by omega) hjM hend, ← qc_next hSL hc (by omega) hjM hend]; exact hr2 c hc) (by omega)
              · refine ZE.aload_n d_Smo_learnSums_51 rfl ?_
                refine ZE.iload_n d_Smo_learnSums_52 rfl ?_
                refine ZE.cV [(0, (i0 : Int))] [] [(2, h), (0, (i0 : Int))] d_Smo_learnSums_53 l_Smo_65 rfl rfl rfl rfl rfl rfl hK.1 ?_
                refine m_valueAt (d := d + 2) hK hF2 h72 hM16 hv2 (i := (i0 : Int)) (by unfold zR; omega) ?_
                show ZE (d + 3) M_Smo_learnSums (gw G A2) 56 [(2, h), (0, (i0 : Int)), (0, (a0 : Int)), (0, (j0 : Int)), (9, 0)] [(0, vlF w M (i0 : Int))] _
                rw [vlF_y (show i0 < M by omega)]
                refine ZE.aload_n d_Smo_learnSums_56 rfl ?_
                refine ZE.iload_n d_Smo_learnSums_57 rfl ?_
                refine ZE.cV [(0, (j0 : Int))] [(0, (w i0 : Int))] [(2, h), (0, (j0 : Int))] d_Smo_learnSums_58 l_Smo_65 rfl rfl rfl rfl rfl rfl hK.1 ?_
                refine m_valueAt (d := d + 2) hK hF2 h72 hM16 hv2 (i := (j0 : Int)) (by unfold zR; omega) ?_
                show ZE (d + 3) M_Smo_learnSums (gw G A2) 61 [(2, h), (0, (i0 : Int)), (0, (a0 : Int)), (0, (j0 : Int)), (9, 0)] [(0, vlF w M (j0 : Int)), (0, (w i0 : Int))] _
                rw [vlF_y (show j0 < M by omega)]
                have hwj := hSL.le (j := j0) (by omega)
                refine ZE.iadd d_Smo_learnSums_61 ?_
                rw [show ((w i0 : Int) + (w j0 : Int) : Int) = ((w i0 + w j0 : Nat) : Int) from (by omega)]
                refine ZE.sipush (n := 3000) d_Smo_learnSums_62 rfl ?_
                refine ZE.icmp_gt (tgt := 142) d_Smo_learnSums_65 rfl (by unfold zR; omega) (by unfold zR; omega) (fun c65 => ?_) (fun c65 => ?_)
                · have hend : ∀ y, j0 ≤ y → y < M → 3000 < w i0 + w y := fun y hy hy2 => by
                    have h1 := hSL.le hy2
                    rcases Nat.eq_or_lt_of_le hy with z | z
                    · subst z; omega
                    · have := hSL.inc z hy2; omega
                  refine ZE.iinc (ls2 := [(2, h), (0, (i0 : Int) + 1), (0, (a0 : Int)), (0, (j0 : Int)), (9, 0)]) d_Smo_learnSums_142 rfl rfl ?_
                  refine ZE.goto (tgt := 18) d_Smo_learnSums_145 rfl ?_
                  refine ZE.mask [true, true, false, false, true] ?_
                  show ZE (d + 3) M_Smo_learnSums (gw G A2) 18 [(2, h), (0, (i0 : Int) + 1), (9, 0), (9, 0), (9, 0)] [] _
                  rw [show (i0 : Int) + 1 = ((i0 + 1 : Nat) : Int) by omega]
                  exact ih (i0 + 1) A2 (by omega) gf2 (fun c hc => by rw [← qc_next hSL hc (by omega) hjM hend, ← qc_next hSL hc (by omega) hjM hend]; exact hr2 c hc) (by omega)
                · refine ZE.aload_n d_Smo_learnSums_68 rfl ?_
                  refine ZE.iload_n d_Smo_learnSums_69 rfl ?_
                  refine ZE.cV [(0, (i0 : Int))] [] [(2, h), (0, (i0 : Int))] d_Smo_learnSums_70 l_Smo_65 rfl rfl rfl rfl rfl rfl hK.1 ?_
                  refine m_valueAt (d := d + 2) hK hF2 h72 hM16 hv2 (i := (i0 : Int)) (by unfold zR; omega) ?_
                  show ZE (d + 3) M_Smo_learnSums (gw G A2) 73 [(2, h), (0, (i0 : Int)), (0, (a0 : Int)), (0, (j0 : Int)), (9, 0)] [(0, vlF w M (i0 : Int))] _
                  rw [vlF_y (show i0 < M by omega)]
                  refine ZE.aload_n d_Smo_learnSums_73 rfl ?_
                  refine ZE.iload_n d_Smo_learnSums_74 rfl ?_
                  refine ZE.cV [(0, (j0 : Int))] [(0, (w i0 : Int))] [(2, h), (0, (j0 : Int))] d_Smo_learnSums_75 l_Smo_65 rfl rfl rfl rfl rfl rfl hK.1 ?_
                  refine m_valueAt (d := d + 2) hK hF2 h72 hM16 hv2 (i := (j0 : Int)) (by unfold zR; omega) ?_
                  show ZE (d + 3) M_Smo_learnSums (gw G A2) 78 [(2, h), (0, (i0 : Int)), (0, (a0 : Int)), (0, (j0 : Int)), (9, 0)] [(0, vlF w M (j0 : Int)), (0, (w i0 : Int))] _
                  rw [vlF_y (show j0 < M by omega)]
                  refine ZE.iadd d_Smo_learnSums_78 ?_
                  rw [show ((w i0 : Int) + (w j0 : Int) : Int) = ((w i0 + w j0 : Nat) : Int) from (by omega)]
                  refine ZE.istore (ls2 := [(2, h), (0, (i0 : Int)), (0, (a0 : Int)), (0, (j0 : Int)), (0, ((w i0 + w j0 : Nat) : Int))]) d_Smo_learnSums_79 (Nat.le_of_ble_eq_true rfl) rfl ?_
                  have L81 : ∀ (tt0 : Nat) (a1 : Nat) (ha1M : a1 ≤ M) (ha1 : ∀ x : Nat, x < a1 → w x < w i0 + w j0), M + 1 - a1 < tt0 → ZE (d + 3) M_Smo_learnSums (gw G A2) 81 [(2, h), (0, (i0 : Int)), (0, (a1 : Int)), (0, (j0 : Int)), (0, ((w i0 + w j0 : Nat) : Int))] [] P := by
                    intro tt0
                    induction tt0 with
                    | zero => intro a1 ha1M ha1 hm; exact absurd hm (Nat.not_lt_zero _)
                    | succ tt0 ih3 =>
                      intro a1 ha1M ha1 hm
                      refine ZE.iload_n d_Smo_learnSums_81 rfl ?_
                      refine ZE.aload_n d_Smo_learnSums_82 rfl ?_
                      refine ZE.getE (v := (M : Int)) d_Smo_learnSums_83 f_Smo_43 (tg := 0) rfl hK.1 h72 ?_
                      refine ZE.icmp_ge (tgt := 105) d_Smo_learnSums_86 rfl (by unfold zR; omega) (by unfold zR; omega) (fun c86 => ?_) (fun c86 => ?_)
                      · have hfd := hSL.find (o := w i0 + w j0) (a := a1) (by omega) ha1 (fun z => by first | omega | exact absurd z (by omega))
                        refine ZE.aload_n d_Smo_learnSums_105 rfl ?_
                        refine ZE.iload_n d_Smo_learnSums_106 rfl ?_
                        refine ZE.cV [(0, (a1 : Int))] [] [(2, h), (0, (a1 : Int))] d_Smo_learnSums_107 l_Smo_65 rfl rfl rfl rfl rfl rfl hK.1 ?_
                        refine m_valueAt (d := d + 2) hK hF2 h72 hM16 hv2 (i := (a1 : Int)) (by unfold zR; omega) ?_
                        show ZE (d + 3) M_Smo_learnSums (gw G A2) 110 [(2, h), (0, (i0 : Int)), (0, (a1 : Int)), (0, (j0 : Int)), (0, ((w i0 + w j0 : Nat) : Int))] [(0, vlF w M (a1 : Int))] _
                        have hvR : zR (vlF w M (a1 : Int)) := by
                          by_cases z : a1 < M
                          · rw [vlF_y z]; have := hSL.le z; unfold zR; omega
                          · rw [vlF_n z]; unfold zR; omega
                        refine ZE.iload d_Smo_learnSums_110 rfl ?_
                        refine ZE.icmp_ne (tgt := 136) d_Smo_learnSums_112 rfl hvR (by unfold zR; omega) (fun c112 => ?_) (fun c112 => ?_)
                        · have hns : ¬ smB S (w i0 + w j0) = true := fun q => c112 (by have := hfd.mpr q; omega)
                          refine ZE.iinc (ls2 := [(2, h), (0, (i0 : Int)), (0, (a1 : Int)), (0, (j0 : Int) + 1), (0, ((w i0 + w j0 : Nat) : Int))]) d_Smo_learnSums_136 rfl rfl ?_
                          refine ZE.goto (tgt := 43) d_Smo_learnSums_139 rfl ?_
                          refine ZE.mask [true, true, true, true, false] ?_
                          show ZE (d + 3) M_Smo_learnSums (gw G A2) 43 [(2, h), (0, (i0 : Int)), (0, (a1 : Int)), (0, (j0 : Int) + 1), (9, 0)] [] _
                          rw [show (j0 : Int) + 1 = ((j0 + 1 : Nat) : Int) by omega]
                          refine ih2 (j0 + 1) a1 A2 (by omega) ha1M (fun x hx hx2 => ?_) gf2 (fun c hc => ?_) (by omega)
                          · have h1 := ha1 x hx
                            have h2 := hSL.inc (show j0 < j0 + 1 by omega) hx2
                            omega
                          · rw [rc_next hij.1 rfl, rc_next hij.1 rfl, if_neg (fun z => hns (suT_s z.2)), if_neg (fun z => hns (suT_s z.2))]
                            exact hr2 c hc
                        · refine ZE.aload_n d_Smo_learnSums_115 rfl ?_
                          refine ZE.iload d_Smo_learnSums_116 rfl ?_
                          refine ZE.aload_n d_Smo_learnSums_118 rfl ?_
                          refine ZE.iload_n d_Smo_learnSums_119 rfl ?_
                          refine ZE.cV [(0, (i0 : Int))] [(0, ((w i0 + w j0 : Nat) : Int)), (2, h)] [(2, h), (0, (i0 : Int))] d_Smo_learnSums_120 l_Smo_71 rfl rfl rfl rfl rfl rfl hK.1 ?_
                          refine m_setAt (d := d + 2) hK hF2 h72 hM16 hv2 (i := (i0 : Int)) (by unfold zR; omega) ?_
                          show ZE (d + 3) M_Smo_learnSums (gw G A2) 123 [(2, h), (0, (i0 : Int)), (0, (a1 : Int)), (0, (j0 : Int)), (0, ((w i0 + w j0 : Nat) : Int))] [(0, seF w M (i0 : Int)), (0, ((w i0 + w j0 : Nat) : Int)), (2, h)] _
                          rw [seF_y (show i0 < M by omega)]
                          refine ZE.aload_n d_Smo_learnSums_123 rfl ?_
                          refine ZE.iload_n d_Smo_learnSums_124 rfl ?_
                          refine ZE.cV [(0, (j0 : Int))] [(0, (mb (w i0) : Int)), (0, ((w i0 + w j0 : Nat) : Int)), (2, h)] [(2, h), (0, (j0 : Int))] d_Smo_learnSums_125 l_Smo_71 rfl rfl rfl rfl rfl rfl hK.1 ?_
                          refine m_setAt (d := d + 2) hK hF2 h72 hM16 hv2 (i := (j0 : Int)) (by unfold zR; omega) ?_
                          show ZE (d + 3) M_Smo_learnSums (gw G A2) 128 [(2, h), (0, (i0 : Int)), (0, (a1 : Int)), (0, (j0 : Int)), (0, ((w i0 + w j0 : Nat) : Int))] [(0, seF w M (j0 : Int)), (0, (mb (w i0) : Int)), (0, ((w i0 + w j0 : Nat) : Int)), (2, h)] _
                          rw [seF_y (show j0 < M by omega)]
                          refine ZE.aload_n d_Smo_learnSums_128 rfl ?_
                          refine ZE.iload_n d_Smo_learnSums_129 rfl ?_
                          refine ZE.cV [(0, (a1 : Int))] [(0, (mb (w j0) : Int)), (0, (mb (w i0) : Int)), (0, ((w i0 + w j0 : Nat) : Int)), (2, h)] [(2, h), (0, (a1 : Int))] d_Smo_learnSums_130 l_Smo_71 rfl rfl rfl rfl rfl rfl hK.1 ?_
                          refine m_setAt (d := d + 2) hK hF2 h72 hM16 hv2 (i := (a1 : Int)) (by unfold zR; omega) ?_
                          show ZE (d + 3) M_Smo_learnSums (gw G A2) 133 [(2, h), (0, (i0 : Int)), (0, (a1 : Int)), (0, (j0 : Int)), (0, ((w i0 + w j0 : Nat) : Int))] [(0, seF w M (a1 : Int)), (0, (mb (w j0) : Int)), (0, (mb (w i0) : Int)), (0, ((w i0 + w j0 : Nat) : Int)), (2, h)] _
                          have haM2 : a1 < M := by
                            rcases Nat.lt_or_ge a1 M with z | z
                            · exact z
                            · rw [vlF_n (by omega)] at c112; omega
                          rw [seF_y haM2]
                          have hwae : w a1 = w i0 + w j0 := by rw [vlF_y haM2] at c112; omega
                          rw [hwae]
                          have hsm := hfd.mp (by omega)
                          refine ZE.cV [(0, ((w i0 + w j0 : Nat) : Int)), (0, (mb (w i0) : Int)), (0, (mb (w j0) : Int)), (0, (mb (w i0 + w j0) : Int))] [] [(2, h), (0, ((w i0 + w j0 : Nat) : Int)), (0, (mb (w i0) : Int)), (0, (mb (w j0) : Int)), (0, (mb (w i0 + w j0) : Int))] d_Smo_learnSums_133 l_Smo_88 rfl rfl rfl rfl rfl rfl hK.1 ?_
                          refine m_learnSum (d := d) hK hF2 hL2 hgl (c0 := w i0 + w j0) (by omega) (mb_lt _) (mb_lt _) (mb_lt _) (fun B b1 b2 b3 => ?_)
                          show ZE (d + 3) M_Smo_learnSums (gw G B) 136 [(2, h), (0, (i0 : Int)), (0, (a1 : Int)), (0, (j0 : Int)), (0, ((w i0 + w j0 : Nat) : Int))] [] _
                          refine ZE.iinc (ls2 := [(2, h), (0, (i0 : Int)), (0, (a1 : Int)), (0, (j0 : Int) + 1), (0, ((w i0 + w j0 : Nat) : Int))]) d_Smo_learnSums_136 rfl rfl ?_
                          refine ZE.goto (tgt := 43) d_Smo_learnSums_139 rfl ?_
                          refine ZE.mask [true, true, true, true, false] ?_
                          show ZE (d + 3) M_Smo_learnSums (gw G B) 43 [(2, h), (0, (i0 : Int)), (0, (a1 : Int)), (0, (j0 : Int) + 1), (9, 0)] [] _
                          rw [show (j0 : Int) + 1 = ((j0 + 1 : Nat) : Int) by omega]
                          refine ih2 (j0 + 1) a1 B (by omega) ha1M (fun x hx hx2 => ?_) (gf2.tr ⟨fun a _ h2 h3 => b1 a h2 h3, fun i _ => congrFun (b1 h (by omega) (by omega)) i⟩) (fun c hc => ?_) (by omega)
                          · have h1 := ha1 x hx
                            have h2 := hSL.inc (show j0 < j0 + 1 by omega) hx2
                            omega
                          · have hr := hr2 c hc
                            have h0 : suT S 0 (w i0) (w j0) = true ↔ mb (w i0) &&& mb (w j0) = 0 := by rw [suT_0 hwi.2.2 hwj.2.2, hsm, Bool.true_and, decide_eq_true_iff]
                            have h1 : suT S 1 (w i0) (w j0) = true ↔ (mb (w i0) &&& mb (w j0) = 0 ∧ rad (mb (w i0) ||| mb (w j0) ||| mb (w i0 + w j0)) < w i0 + w j0) := by rw [suT_r hwi.2.2 hwj.2.2, hsm, Bool.true_and, Bool.and_eq_true, decide_eq_true_iff, decide_eq_true_iff]
                            rw [rc_next hij.1 rfl, rc_next hij.1 rfl, b2, b3, hr.1, hr.2]
                            refine ⟨?_, ?_⟩
                            · by_cases z : c = w i0 + w j0 ∧ mb (w i0) &&& mb (w j0) = 0
                              · rw [if_pos (show (c : Int) = ((w i0 + w j0 : Nat) : Int) ∧ mb (w i0) &&& mb (w j0) = 0 from ⟨by omega, z.2⟩), if_pos ⟨z.1, h0.mpr z.2⟩]; omega
                              · rw [if_neg (show ¬ ((c : Int) = ((w i0 + w j0 : Nat) : Int) ∧ mb (w i0) &&& mb (w j0) = 0) from fun y => z ⟨by omega, y.2⟩), if_neg (fun y => z ⟨y.1, h0.mp y.2⟩)]; omega
                            · by_cases z : c = w i0 + w j0 ∧ (mb (w i0) &&& mb (w j0) = 0 ∧ rad (mb (w i0) ||| mb (w j0) ||| mb (w i0 + w j0)) < w i0 + w j0)
                              · rw [if_pos (show (c : Int) = ((w i0 + w j0 : Nat) : Int) ∧ mb (w i0) &&& mb (w j0) = 0 ∧ rad (mb (w i0) ||| mb (w j0) ||| mb (w i0 + w j0)) < w i0 + w j0 from ⟨by omega, z.2⟩), if_pos ⟨z.1, h1.mpr z.2⟩]; omega
                              · rw [if_neg (show ¬ ((c : Int) = ((w i0 + w j0 : Nat) : Int) ∧ mb (w i0) &&& mb (w j0) = 0 ∧ rad (mb (w i0) ||| mb (w j0) ||| mb (w i0 + w j0)) < w i0 + w j0) from fun y => z ⟨by omega, y.2⟩), if_neg (fun y => z ⟨y.1, h1.mp y.2⟩)]; omega
                      · refine ZE.aload_n d_Smo_learnSums_89 rfl ?_
                        refine ZE.iload_n d_Smo_learnSums_90 rfl ?_
                        refine ZE.cV [(0, (a1 : Int))] [] [(2, h), (0, (a1 : Int))] d_Smo_learnSums_91 l_Smo_65 rfl rfl rfl rfl rfl rfl hK.1 ?_
                        refine m_valueAt (d := d + 2) hK hF2 h72 hM16 hv2 (i := (a1 : Int)) (by unfold zR; omega) ?_
                        show ZE (d + 3) M_Smo_learnSums (gw G A2) 94 [(2, h), (0, (i0 : Int)), (0, (a1 : Int)), (0, (j0 : Int)), (0, ((w i0 + w j0 : Nat) : Int))] [(0, vlF w M (a1 : Int))] _
                        rw [vlF_y (show a1 < M by omega)]
                        have hwa := hSL.le (j := a1) (by omega)
                        refine ZE.iload d_Smo_learnSums_94 rfl ?_
                        refine ZE.icmp_ge (tgt := 105) d_Smo_learnSums_96 rfl (by unfold zR; omega) (by unfold zR; omega) (fun c96 => ?_) (fun c96 => ?_)
                        · have hfd := hSL.find (o := w i0 + w j0) (a := a1) (by omega) ha1 (fun z => by first | omega | exact absurd z (by omega))
                          refine ZE.aload_n d_Smo_learnSums_105 rfl ?_
                          refine ZE.iload_n d_Smo_learnSums_106 rfl ?_
                          refine ZE.cV [(0, (a1 : Int))] [] [(2, h), (0, (a1 : Int))] d_Smo_learnSums_107 l_Smo_65 rfl rfl rfl rfl rfl rfl hK.1 ?_
                          refine m_valueAt (d := d + 2) hK hF2 h72 hM16 hv2 (i := (a1 : Int)) (by unfold zR; omega) ?_
                          show ZE (d + 3) M_Smo_learnSums (gw G A2) 110 [(2, h), (0, (i0 : Int)), (0, (a1 : Int)), (0, (j0 : Int)), (0, ((w i0 + w j0 : Nat) : Int))] [(0, vlF w M (a1 : Int))] _
                          have hvR : zR (vlF w M (a1 : Int)) := by
                            by_cases z : a1 < M
                            · rw [vlF_y z]; have := hSL.le z; unfold zR; omega
                            · rw [vlF_n z]; unfold zR; omega
                          refine ZE.iload d_Smo_learnSums_110 rfl ?_
                          refine ZE.icmp_ne (tgt := 136) d_Smo_learnSums_112 rfl hvR (by unfold zR; omega) (fun c112 => ?_) (fun c112 => ?_)
                          · have hns : ¬ smB S (w i0 + w j0) = true := fun q => c112 (by have := hfd.mpr q; omega)
                            refine ZE.iinc (ls2 := [(2, h), (0, (i0 : Int)), (0, (a1 : Int)), (0, (j0 : Int) + 1), (0, ((w i0 + w j0 : Nat) : Int))]) d_Smo_learnSums_136 rfl rfl ?_
                            refine ZE.goto (tgt := 43) d_Smo_learnSums_139 rfl ?_
                            refine ZE.mask [true, true, true, true, false] ?_
                            show ZE (d + 3) M_Smo_learnSums (gw G A2) 43 [(2, h), (0, (i0 : Int)), (0, (a1 : Int)), (0, (j0 : Int) + 1), (9, 0)] [] _
                            rw [show (j0 : Int) + 1 = ((j0 + 1 : Nat) : Int) by omega]
                            refine ih2 (j0 + 1) a1 A2 (by omega) ha1M (fun x hx hx2 => ?_) gf2 (fun c hc => ?_) (by omega)
                            · have h1 := ha1 x hx
                              have h2 := hSL.inc (show j0 < j0 + 1 by omega) hx2
                              omega
                            · rw [rc_next hij.1 rfl, rc_next hij.1 rfl, if_neg (fun z => hns (suT_s z.2)), if_neg (fun z => hns (suT_s z.2))]
                              exact hr2 c hc
                          · refine ZE.aload_n d_Smo_learnSums_115 rfl ?_
                            refine ZE.iload d_Smo_learnSums_116 rfl ?_
                            refine ZE.aload_n d_Smo_learnSums_118 rfl ?_
                            refine ZE.iload_n d_Smo_learnSums_119 rfl ?_
                            refine ZE.cV [(0, (i0 : Int))] [(0, ((w i0 + w j0 : Nat) : Int)), (2, h)] [(2, h), (0, (i0 : Int))] d_Smo_learnSums_120 l_Smo_71 rfl rfl rfl rfl rfl rfl hK.1 ?_
                            refine m_setAt (d := d + 2) hK hF2 h72 hM16 hv2 (i := (i0 : Int)) (by unfold zR; omega) ?_
                            show ZE (d + 3) M_Smo_learnSums (gw G A2) 123 [(2, h), (0, (i0 : Int)), (0, (a1 : Int)), (0, (j0 : Int)), (0, ((w i0 + w j0 : Nat) : Int))] [(0, seF w M (i0 : Int)), (0, ((w i0 + w j0 : Nat) : Int)), (2, h)] _
                            rw [seF_y (show i0 < M by omega)]
                            refine ZE.aload_n d_Smo_learnSums_123 rfl ?_
                            refine ZE.iload_n d_Smo_learnSums_124 rfl ?_
                            refine ZE.cV [(0, (j0 : Int))] [(0, (mb (w i0) : Int)), (0, ((w i0 + w j0 : Nat) : Int)), (2, h)] [(2, h), (0, (j0 : Int))] d_Smo_learnSums_125 l_Smo_71 rfl rfl rfl rfl rfl rfl hK.1 ?_
                            refine m_setAt (d := d + 2) hK hF2 h72 hM16 hv2 (i := (j0 : Int)) (by unfold zR; omega) ?_
                            show ZE (d + 3) M_Smo_learnSums (gw G A2) 128 [(2, h), (0, (i0 : Int)), (0, (a1 : Int)), (0, (j0 : Int)), (0, ((w i0 + w j0 : Nat) : Int))] [(0, seF w M (j0 : Int)), (0, (mb (w i0) : Int)), (0, ((w i0 + w j0 : Nat) : Int)), (2, h)] _
                            rw [seF_y (show j0 < M by omega)]
                            refine ZE.aload_n d_Smo_learnSums_128 rfl ?_
                            refine ZE.iload_n d_Smo_learnSums_129 rfl ?_
                            refine ZE.cV [(0, (a1 : Int))] [(0, (mb (w j0) : Int)), (0, (mb (w i0) : Int)), (0, ((w i0 + w j0 : Nat) : Int)), (2, h)] [(2, h), (0, (a1 : Int))] d_Smo_learnSums_130 l_Smo_71 rfl rfl rfl rfl rfl rfl hK.1 ?_
                            refine m_setAt (d := d + 2) hK hF2 h72 hM16 hv2 (i := (a1 : Int)) (by unfold zR; omega) ?_
                            show ZE (d + 3) M_Smo_learnSums (gw G A2) 133 [(2, h), (0, (i0 : Int)), (0, (a1 : Int)), (0, (j0 : Int)), (0, ((w i0 + w j0 : Nat) : Int))] [(0, seF w M (a1 : Int)), (0, (mb (w j0) : Int)), (0, (mb (w i0) : Int)), (0, ((w i0 + w j0 : Nat) : Int)), (2, h)] _
                            have haM2 : a1 < M := by
                              rcases Nat.lt_or_ge a1 M with z | z
                              · exact z
                              · rw [vlF_n (by omega)] at c112; omega
                            rw [seF_y haM2]
                            have hwae : w a1 = w i0 + w j0 := by rw [vlF_y haM2] at c112; omega
                            rw [hwae]
                            have hsm := hfd.mp (by omega)
                            refine ZE.cV [(0, ((w i0 + w j0 : Nat) : Int)), (0, (mb (w i0) : Int)), (0, (mb (w j0) : Int)), (0, (mb (w i0 + w j0) : Int))] [] [(2, h), (0, ((w i0 + w j0 : Nat) : Int)), (0, (mb (w i0) : Int)), (0, (mb (w j0) : Int)), (0, (mb (w i0 + w j0) : Int))] d_Smo_learnSums_133 l_Smo_88 rfl rfl rfl rfl rfl rfl hK.1 ?_
                            refine m_learnSum (d := d) hK hF2 hL2 hgl (c0 := w i0 + w j0) (by omega) (mb_lt _) (mb_lt _) (mb_lt _) (fun B b1 b2 b3 => ?_)
                            show ZE (d + 3) M_Smo_learnSums (gw G B) 136 [(2, h), (0, (i0 : Int)), (0, (a1 : Int)), (0, (j0 : Int)), (0, ((w i0 + w j0 : Nat) : Int))] [] _
                            refine ZE.iinc (ls2 := [(2, h), (0, (i0 : Int)), (0, (a1 : Int)), (0, (j0 : Int) + 1), (0, ((w i0 + w j0 : Nat) : Int))]) d_Smo_learnSums_136 rfl rfl ?_
                            refine ZE.goto (tgt := 43) d_Smo_learnSums_139 rfl ?_
                            refine ZE.mask [true, true, true, true, false] ?_
                            show ZE (d + 3) M_Smo_learnSums (gw G B) 43 [(2, h), (0, (i0 : Int)), (0, (a1 : Int)), (0, (j0 : Int) + 1), (9, 0)] [] _
                            rw [show (j0 : Int) + 1 = ((j0 + 1 : Nat) : Int) by omega]
                            refine ih2 (j0 + 1) a1 B (by omega) ha1M (fun x hx hx2 => ?_) (gf2.tr ⟨fun a _ h2 h3 => b1 a h2 h3, fun i _ => congrFun (b1 h (by omega) (by omega)) i⟩) (fun c hc => ?_) (by omega)
                            · have h1 := ha1 x hx
                              have h2 := hSL.inc (show j0 < j0 + 1 by omega) hx2
                              omega
                            · have hr := hr2 c hc
                              have h0 : suT S 0 (w i0) (w j0) = true ↔ mb (w i0) &&& mb (w j0) = 0 := by rw [suT_0 hwi.2.2 hwj.2.2, hsm, Bool.true_and, decide_eq_true_iff]
                              have h1 : suT S 1 (w i0) (w j0) = true ↔ (mb (w i0) &&& mb (w j0) = 0 ∧ rad (mb (w i0) ||| mb (w j0) ||| mb (w i0 + w j0)) < w i0 + w j0) := by rw [suT_r hwi.2.2 hwj.2.2, hsm, Bool.true_and, Bool.and_eq_true, decide_eq_true_iff, decide_eq_true_iff]
                              rw [rc_next hij.1 rfl, rc_next hij.1 rfl, b2, b3, hr.1, hr.2]
                              refine ⟨?_, ?_⟩
                              · by_cases z : c = w i0 + w j0 ∧ mb (w i0) &&& mb (w j0) = 0
                                · rw [if_pos (show (c : Int) = ((w i0 + w j0 : Nat) : Int) ∧ mb (w i0) &&& mb (w j0) = 0 from ⟨by omega, z.2⟩), if_pos ⟨z.1, h0.mpr z.2⟩]; omega
                                · rw [if_neg (show ¬ ((c : Int) = ((w i0 + w j0 : Nat) : Int) ∧ mb (w i0) &&& mb (w j0) = 0) from fun y => z ⟨by omega, y.2⟩), if_neg (fun y => z ⟨y.1, h0.mp y.2⟩)]; omega
                              · by_cases z : c = w i0 + w j0 ∧ (mb (w i0) &&& mb (w j0) = 0 ∧ rad (mb (w i0) ||| mb (w j0) ||| mb (w i0 + w j0)) < w i0 + w j0)
                                · rw [if_pos (show (c : Int) = ((w i0 + w j0 : Nat) : Int) ∧ mb (w i0) &&& mb (w j0) = 0 ∧ rad (mb (w i0) ||| mb (w j0) ||| mb (w i0 + w j0)) < w i0 + w j0 from ⟨by omega, z.2⟩), if_pos ⟨z.1, h1.mpr z.2⟩]; omega
                                · rw [if_neg (show ¬ ((c : Int) = ((w i0 + w j0 : Nat) : Int) ∧ mb (w i0) &&& mb (w j0) = 0 ∧ rad (mb (w i0) ||| mb (w j0) ||| mb (w i0 + w j0)) < w i0 + w j0) from fun y => z ⟨by omega, y.2⟩), if_neg (fun y => z ⟨y.1, h1.mp y.2⟩)]; omega
                        · refine ZE.iinc (ls2 := [(2, h), (0, (i0 : Int)), (0, (a1 : Int) + 1), (0, (j0 : Int)), (0, ((w i0 + w j0 : Nat) : Int))]) d_Smo_learnSums_99 rfl rfl ?_
                          refine ZE.goto (tgt := 81) d_Smo_learnSums_102 rfl ?_
                          rw [show (a1 : Int) + 1 = ((a1 + 1 : Nat) : Int) by omega]
                          refine ih3 (a1 + 1) (by omega) (fun x hx => ?_) (by omega)
                          rcases Nat.lt_or_ge x a1 with z | z
                          · exact ha1 x z
                          · have : x = a1 := by omega
                            subst this; omega
                  exact L81 _ a0 haM (fun x hx => ha x hx (by omega)) (Nat.lt_succ_self _)
          exact L43 _ i0 i0 A1 (by omega) (by omega) (fun x hx hx2 => by have := hSL.inc hx hx2; omega) gf (fun c hc => by rw [rc_0, rc_0]; exact hr1 c hc) (Nat.lt_succ_self _)
  exact L18 _ 0 Az (Nat.zero_le _) gfz hrz (Nat.lt_succ_self _)
set_option maxRecDepth 20000 in
set_option maxHeartbeats 4000000 in
theorem m_sumsUpTo {d : Nat} {G : zG} {A : Int → Int → Int} {P : Option zV → zG → Prop} {h : Int} (hK : mK G h) {S : Nat} {w : Nat → Nat} {M : Nat} (hQ : mS A h S w M) (hL : lG G A) (hgl : gl G < h) {u : Nat} (hu : u ≤ 3000) {wh : Int} (hwh : wh = 0 ∨ wh = 1) (k : ∀ B, smF2 A B h → mS B h S w M → P (some (0, ssV S (u : Int) wh)) (gw G B)) : ZE (d + 4) M_Smo_sumsUpTo (gw G A) 0 [(2, h), (0, (u : Int)), (0, wh)] [] P := by
  have hso := hQ.2.2.2.2.2
  obtain ⟨f5, hf5⟩ : ∃ f5, A h 5 = f5 := ⟨_, rfl⟩
  have hf01 : f5 = 0 ∨ f5 = 1 := by rcases hso with z | z; exact Or.inl (by omega); exact Or.inr (by have := z.1; omega)
  refine ZE.aload_n d_Smo_sumsUpTo_0 rfl ?_
  refine ZE.getE (v := f5) d_Smo_sumsUpTo_1 f_Smo_33 (tg := 0) rfl hK.1 hf5 ?_
  refine ZE.if_ne (tgt := 11) d_Smo_sumsUpTo_4 rfl (by unfold zR; omega) (fun c4 => ?_) (fun c4 => ?_)
  · refine ZE.iload_n d_Smo_sumsUpTo_11 rfl ?_
    refine ZE.if_lt (tgt := 22) d_Smo_sumsUpTo_12 rfl (by unfold zR; omega) (fun c12 => ?_) (fun c12 => ?_)
    · exact absurd c12 (by omega)
    · refine ZE.iload_n d_Smo_sumsUpTo_15 rfl ?_
      refine ZE.sipush (n := 3000) d_Smo_sumsUpTo_16 rfl ?_
      refine ZE.icmp_le (tgt := 24) d_Smo_sumsUpTo_19 rfl (by unfold zR; omega) (by unfold zR; omega) (fun c19 => ?_) (fun c19 => ?_)
      · refine ZE.iload_n d_Smo_sumsUpTo_24 rfl ?_
        refine ZE.if_eq (tgt := 37) d_Smo_sumsUpTo_25 rfl (by unfold zR; omega) (fun c25 => ?_) (fun c25 => ?_)
        · refine ZE.aload_n d_Smo_sumsUpTo_37 rfl ?_
          refine ZE.getE (v := h + 4) d_Smo_sumsUpTo_38 f_Smo_23 (tg := 2) rfl hK.1 hQ.1.2.2.2.1 ?_
          refine ZE.iload_n d_Smo_sumsUpTo_41 rfl ?_
          refine ZE.ialdE (v := A (h + 4) (u : Int)) d_Smo_sumsUpTo_42 hK.2.2.2.2.2.1.1 (by have hn0 := hK.2.2.2.2.2.1.2; show 0 ≤ (u : Int) ∧ (u : Int) < gn G (h + 4); omega) rfl ?_
          refine ZE.iret d_Smo_sumsUpTo_43 rfl ?_
          have k1 := k A smF2.rf hQ
          have hs := (hso.elim (fun z => absurd z (by omega)) (fun z => z.2 u hu))
          have hw1 : wh = 0 := by omega
          rw [hw1, ← hs.1] at k1
          exact k1
        · refine ZE.aload_n d_Smo_sumsUpTo_28 rfl ?_
          refine ZE.getE (v := h + 5) d_Smo_sumsUpTo_29 f_Smo_26 (tg := 2) rfl hK.1 hQ.1.2.2.2.2 ?_
          refine ZE.iload_n d_Smo_sumsUpTo_32 rfl ?_
          refine ZE.ialdE (v := A (h + 5) (u : Int)) d_Smo_sumsUpTo_33 hK.2.2.2.2.2.2.1 (by have hn0 := hK.2.2.2.2.2.2.2; show 0 ≤ (u : Int) ∧ (u : Int) < gn G (h + 5); omega) rfl ?_
          refine ZE.goto (tgt := 43) d_Smo_sumsUpTo_34 rfl ?_
          refine ZE.iret d_Smo_sumsUpTo_43 rfl ?_
          have k1 := k A smF2.rf hQ
          have hs := (hso.elim (fun z => absurd z (by omega)) (fun z => z.2 u hu))
          have hw1 : wh = 1 := by omega
          rw [hw1, ← hs.2] at k1
          exact k1
      · exact absurd c19 (by omega)
  · refine ZE.aload_n d_Smo_sumsUpTo_7 rfl ?_
    refine ZE.cV [] [] [(2, h), (9, 0), (9, 0), (9, 0), (9, 0)] d_Smo_sumsUpTo_8 l_Smo_85 rfl rfl rfl rfl rfl rfl hK.1 ?_
    refine m_learnSums (d := d) hK hQ hL hgl (fun B gB hQB hB5 => ?_)
    show ZE (d + 4) M_Smo_sumsUpTo (gw G B) 11 [(2, h), (0, (u : Int)), (0, wh)] [] _
    refine ZE.iload_n d_Smo_sumsUpTo_11 rfl ?_
    refine ZE.if_lt (tgt := 22) d_Smo_sumsUpTo_12 rfl (by unfold zR; omega) (fun c12 => ?_) (fun c12 => ?_)
    · exact absurd c12 (by omega)
    · refine ZE.iload_n d_Smo_sumsUpTo_15 rfl ?_
      refine ZE.sipush (n := 3000) d_Smo_sumsUpTo_16 rfl ?_
      refine ZE.icmp_le (tgt := 24) d_Smo_sumsUpTo_19 rfl (by unfold zR; omega) (by unfold zR; omega) (fun c19 => ?_) (fun c19 => ?_)
      · refine ZE.iload_n d_Smo_sumsUpTo_24 rfl ?_
        refine ZE.if_eq (tgt := 37) d_Smo_sumsUpTo_25 rfl (by unfold zR; omega) (fun c25 => ?_) (fun c25 => ?_)
        · refine ZE.aload_n d_Smo_sumsUpTo_37 rfl ?_
          refine ZE.getE (v := h + 4) d_Smo_sumsUpTo_38 f_Smo_23 (tg := 2) rfl hK.1 hQB.1.2.2.2.1 ?_
          refine ZE.iload_n d_Smo_sumsUpTo_41 rfl ?_
          refine ZE.ialdE (v := B (h + 4) (u : Int)) d_Smo_sumsUpTo_42 hK.2.2.2.2.2.1.1 (by have hn0 := hK.2.2.2.2.2.1.2; show 0 ≤ (u : Int) ∧ (u : Int) < gn G (h + 4); omega) rfl ?_
          refine ZE.iret d_Smo_sumsUpTo_43 rfl ?_
          have k1 := k B gB hQB
          have hs := (hQB.2.2.2.2.2.elim (fun z => absurd z (by omega)) (fun z => z.2 u hu))
          have hw1 : wh = 0 := by omega
          rw [hw1, ← hs.1] at k1
          exact k1
        · refine ZE.aload_n d_Smo_sumsUpTo_28 rfl ?_
          refine ZE.getE (v := h + 5) d_Smo_sumsUpTo_29 f_Smo_26 (tg := 2) rfl hK.1 hQB.1.2.2.2.2 ?_
          refine ZE.iload_n d_Smo_sumsUpTo_32 rfl ?_
          refine ZE.ialdE (v := B (h + 5) (u : Int)) d_Smo_sumsUpTo_33 hK.2.2.2.2.2.2.1 (by have hn0 := hK.2.2.2.2.2.2.2; show 0 ≤ (u : Int) ∧ (u : Int) < gn G (h + 5); omega) rfl ?_
          refine ZE.goto (tgt := 43) d_Smo_sumsUpTo_34 rfl ?_
          refine ZE.iret d_Smo_sumsUpTo_43 rfl ?_
          have k1 := k B gB hQB
          have hs := (hQB.2.2.2.2.2.elim (fun z => absurd z (by omega)) (fun z => z.2 u hu))
          have hw1 : wh = 1 := by omega
          rw [hw1, ← hs.2] at k1
          exact k1
      · exact absurd c19 (by omega)
