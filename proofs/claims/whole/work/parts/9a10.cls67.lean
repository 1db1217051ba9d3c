theorem uK.sepC {G : zG} {u c : Int} {cap : Nat} (h : uK G u) (k : cK G c cap) : u + 9 ≤ c ∨ c + 5 ≤ u := ucK.sep h k
theorem kU.wit {G : zG} {A : Int → Int → Int} {E0 u w : Int} {ap e : Nat} {i v : Int} (h : kU G A E0 ap e w) (hu : uK G u) (hne : w ≠ u) : kU G (up2 A (u + 7) i v) E0 ap e w := by
  have hr : ∀ a : Int, a ≠ u + 7 → up2 A (u + 7) i v a = A a := fun a ha => by rw [up2_A, upA_ne _ _ ha]
  obtain ⟨h1, h2, h3, h4, h5⟩ := h
  have hs := h3.sep hu hne
  refine ⟨h1, h2, h3, h4.ab (fun a ha hb => hr a (by omega)), fun j hj1 hj2 => ?_⟩
  obtain ⟨k1, k2, k3, k4, k5⟩ := h5 j hj1 hj2
  rw [hr (w + 5) (by omega), hr (w + 6) (by omega), hr (w + 7) (by omega), hr (w + 8) (by omega)]
  refine ⟨k1, k2, k3, fun hc => ?_, k5⟩
  obtain ⟨m1, m2, m3⟩ := k4 hc
  have hs2 := hu.sepC m3.1
  exact ⟨m1, m2, m3.1, m3.2.ab (fun q _ => congrFun (hr _ (by omega)) q) (fun a ha hb => hr a (by omega))⟩
theorem kU.witS {G : zG} {A : Int → Int → Int} {E0 u : Int} {e i : Nat} (h : kU G A E0 1 e u) : kU G (up2 A (u + 7) (i : Int) (gdA (nvU (DD 1 e) 1 i) 7 161)) E0 1 e u := by
  have hr : ∀ a : Int, a ≠ u + 7 → up2 A (u + 7) (i : Int) (gdA (nvU (DD 1 e) 1 i) 7 161) a = A a := fun a ha => by rw [up2_A, upA_ne _ _ ha]
  obtain ⟨h1, h2, h3, h4, h5⟩ := h
  refine ⟨h1, h2, h3, h4.ab (fun a ha hb => hr a (by omega)), fun j hj1 hj2 => ?_⟩
  obtain ⟨k1, k2, k3, k4, k5⟩ := h5 j hj1 hj2
  rw [hr (u + 5) (by omega), hr (u + 6) (by omega), hr (u + 8) (by omega)]
  refine ⟨k1, k2, ?_, fun hc => ?_, k5⟩
  · by_cases z : j = i
    · subst z; rw [up2_at]; exact Or.inr rfl
    · rw [up2_ne _ _ (by omega)]; exact k3
  · obtain ⟨m1, m2, m3⟩ := k4 hc
    exact ⟨m1, m2, m3.1, m3.2.ab (fun q _ => congrFun (hr _ (by omega)) q) (fun a ha hb => hr a (by omega))⟩
/-- a unit's note changes nothing that is asked of the class -/
theorem wit_CI {G : zG} {A : Int → Int → Int} {x : Int} {S T tl : Nat} {tf : Nat → Int} {wl : Nat} {wf : Nat → Int} {c i : Nat} (h : CI G A x S T tl tf wl wf) (hc : c < (csA 1 S).length) : CI G (up2 A (A (x + 1 + 29) c + 7) (i : Int) (gdA (nvU (DD 1 (eA 1 S c)) 1 i) 7 161)) x S T tl tf wl wf ∧ cT G A G (up2 A (A (x + 1 + 29) c + 7) (i : Int) (gdA (nvU (DD 1 (eA 1 S c)) 1 i) 7 161)) x := by
  have hx0 := h.cCK.2.1
  have hgx := h.cL.2
  have hE := h.cR.E
  have hu := h.cR.un hc
  obtain ⟨u, hue⟩ : ∃ u, u = A (x + 1 + 29) c := ⟨_, rfl⟩
  rw [← hue] at hu ⊢
  have hu0 := hu.1
  have hu9 := hu.2.1
  obtain ⟨B, hB⟩ : ∃ B, B = up2 A (u + 7) (i : Int) (gdA (nvU (DD 1 (eA 1 S c)) 1 i) 7 161) := ⟨_, rfl⟩
  have hr : ∀ a : Int, a ≠ u + 7 → B a = A a := fun a ha => by rw [hB, up2_A, upA_ne _ _ ha]
  have e : ∀ a : Int, a < x + 145 → B a = A a := fun a ha => hr a (by omega)
  have hrad : 1 ≤ rad (eA 1 S c) := (rdF_le _ (eA_lt hc).1 7 (by omega)).1
  have hP1 : kP G B (x + 1) (x + 145) 1 := fun q hq => by
    rw [e (x + 1 + 28) (by omega)]
    rcases h.cR.P q hq with z | z
    · exact Or.inl z
    · refine Or.inr ?_
      by_cases w : A (x + 1 + 28) q = u
      · rw [w] at z ⊢
        have d1 := z.2.2.2.1.2.2.2.1
        have d2 := hu.2.2.2.1.2.2.2.1
        have hd : DD 1 q = DD 1 (eA 1 S c) := by omega
        rw [hB, ← hd]
        exact z.witS
      · rw [hB]; exact z.wit hu.2.2.1 w
  have hP2 : kP G B (x + 47) (x + 145) 2 := fun q hq => by
    rw [e (x + 47 + 28) (by omega)]
    rcases h.cW.2.2.1 q hq with z | z
    · exact Or.inl z
    · refine Or.inr ?_
      by_cases w : A (x + 47 + 28) q = u
      · exfalso
        rw [w] at z
        have d1 := z.2.2.2.1.2.2.2.1
        have d2 := hu.2.2.2.1.2.2.2.1
        have d3 := z.2.2.2.1.2.2.1
        have d4 := hu.2.2.2.1.2.2.1
        have hd1 : DD 1 (eA 1 S c) = 2 * rad (eA 1 S c) := rfl
        have hd2 : DD 2 q = rad q := rfl
        omega
      · rw [hB]; exact z.wit hu.2.2.1 w
  have hnr : ∀ (s : Int) (ap S2 : Nat), sR G A s (x + 145) ap S2 → s + 46 ≤ x + 145 → nSe B s ap S2 := fun s ap S2 hs hsE => hs.N.row (e _ (by omega)) (e _ (by omega)) (e _ (by omega)) (e _ (by omega)) (fun k hk => by
    have ht : okT ap S2 (csA ap S2).length ((prL ap S2).getD k pD) := prA_ok (ap := ap) (S := S2) _ k hk
    have hv := hs.un ht.1
    have hcp := hs.cp hk
    have hs3 := hu.2.2.1.sepC hcp.2.2.1.1
    refine ⟨hr _ (fun z => ?_), congrFun (hr _ (by omega)) _⟩
    have a1 := hv.2.2.1.2.2.2.2.2.2.2.1
    have a2 := hu.2.2.1.2.2.2.2.2.2.1.1
    rw [z] at a1
    omega)
  rw [← hB]
  have hx1 : x + 47 + 46 ≤ x + 145 := by omega
  refine ⟨⟨h.cCK, h.cCF.ab (fun j _ => congrFun (e x (by omega)) j), ⟨(congrFun (e x (by omega)) _).trans h.cS.1, h.cS.2⟩, ⟨h.cL.1.ab (e _ (by omega)), h.cL.2⟩, ⟨h.cR.K, h.cR.F.row (fun a h1 h2 => e a (by omega)), hP1, hnr _ 1 S h.cR (by omega), hE, Or.inl rfl, h.cS.2⟩, ⟨h.cW.1, h.cW.2.1.row (fun a h1 h2 => e a (by omega)), hP2, h.cW.2.2.2.1, ?_⟩, h.cM.ab (fun a h1 h2 => e a (by omega)), h.cE.ab (fun a h1 h2 => e a (by omega)), h.cY.ab (e _ (by omega)), h.cO.ab (fun a h1 h2 => e a (by omega)), ⟨h.ct.1.ab (fun a h1 h2 => e a (by omega)), h.ct.2⟩, ⟨h.cw.1.ab (fun a h1 h2 => e a (by omega)), h.cw.2⟩, (by obtain ⟨q1, q2, q3, q4⟩ := h.cd; exact ⟨q1, q2, q3.ab (fun a h1 h2 => e a (by omega)), q4⟩), ⟨h.cT.1.ab (fun a ha => e a (by omega)), h.cT.2⟩, (congrFun (e _ (by omega)) _).trans h.cp⟩, ?_⟩
  · rcases h.cW.sR with z | ⟨S2, z⟩
    · exact Or.inl ((congrFun (e (x + 47) (by omega)) _).trans z)
    · exact Or.inr ⟨S2, z.s7, z.p5, hnr _ 2 S2 z (by omega)⟩
  · have u1 := unk_congr (s := x + 1) (e (x + 1 + 28) (by omega))
    have u2 := unk_congr (s := x + 47) (e (x + 47 + 28) (by omega))
    refine ⟨⟨0, 0, gR.rf, by omega, by omega⟩, fun a h1 h2 => ?_⟩
    by_cases z : a = u + 7
    · exact Or.inr ⟨by omega, Or.inr ⟨u, hu.2.2.1, hu9, z⟩⟩
    · exact Or.inl (hr a z)
set_option maxRecDepth 20000 in
set_option maxHeartbeats 4000000 in
theorem c_one2 {d : Nat} {G : zG} {A : Int → Int → Int} {P : Option zV → zG → Prop} {v1 : Int} (hv : zR v1) (k : P (some (0, b2i (v1 = 0 ∨ v1 = 1))) (gw G A)) : ZE d M_SN_isOneOfTwo (gw G A) 0 [(0, v1)] [] P := by
  refine ZE.iload_n d_SN_isOneOfTwo_0 rfl ?_
  refine ZE.if_eq (tgt := 9) d_SN_isOneOfTwo_1 rfl hv (fun c1 => ?_) (fun c1 => ?_)
  · refine ZE.iconst (n := 1) d_SN_isOneOfTwo_9 ?_
    refine ZE.goto (tgt := 14) d_SN_isOneOfTwo_10 rfl ?_
    refine ZE.zret d_SN_isOneOfTwo_14 rfl (by omega) ?_
    first | exact (by rw [b2i_t (by omega)] at k; exact k) | exact (by rw [b2i_f (by omega)] at k; exact k)
  · refine ZE.iload_n d_SN_isOneOfTwo_4 rfl ?_
    refine ZE.iconst (n := 1) d_SN_isOneOfTwo_5 ?_
    refine ZE.icmp_ne (tgt := 13) d_SN_isOneOfTwo_6 rfl hv (by unfold zR; omega) (fun c6 => ?_) (fun c6 => ?_)
    · refine ZE.iconst (n := 0) d_SN_isOneOfTwo_13 ?_
      refine ZE.zret d_SN_isOneOfTwo_14 rfl (by omega) ?_
      first | exact (by rw [b2i_t (by omega)] at k; exact k) | exact (by rw [b2i_f (by omega)] at k; exact k)
    · refine ZE.iconst (n := 1) d_SN_isOneOfTwo_9 ?_
      refine ZE.goto (tgt := 14) d_SN_isOneOfTwo_10 rfl ?_
      refine ZE.zret d_SN_isOneOfTwo_14 rfl (by omega) ?_
      first | exact (by rw [b2i_t (by omega)] at k; exact k) | exact (by rw [b2i_f (by omega)] at k; exact k)
set_option maxRecDepth 20000 in
set_option maxHeartbeats 4000000 in
theorem c_modulus {d : Nat} {G : zG} {A : Int → Int → Int} {P : Option zV → zG → Prop} {v1 : Int} (hv : zR v1) (k : P (some (0, b2i (2 ≤ v1 ∧ v1 ≤ 10000))) (gw G A)) : ZE d M_SN_isModulus (gw G A) 0 [(0, v1)] [] P := by
  refine ZE.iload_n d_SN_isModulus_0 rfl ?_
  refine ZE.iconst (n := 2) d_SN_isModulus_1 ?_
  refine ZE.icmp_lt (tgt := 16) d_SN_isModulus_2 rfl hv (by unfold zR; omega) (fun c2 => ?_) (fun c2 => ?_)
  · refine ZE.iconst (n := 0) d_SN_isModulus_16 ?_
    refine ZE.zret d_SN_isModulus_17 rfl (by omega) ?_
    first | exact (by rw [b2i_t (by omega)] at k; exact k) | exact (by rw [b2i_f (by omega)] at k; exact k)
  · refine ZE.iload_n d_SN_isModulus_5 rfl ?_
    refine ZE.sipush (n := 10000) d_SN_isModulus_6 rfl ?_
    refine ZE.icmp_gt (tgt := 16) d_SN_isModulus_9 rfl hv (by unfold zR; omega) (fun c9 => ?_) (fun c9 => ?_)
    · refine ZE.iconst (n := 0) d_SN_isModulus_16 ?_
      refine ZE.zret d_SN_isModulus_17 rfl (by omega) ?_
      first | exact (by rw [b2i_t (by omega)] at k; exact k) | exact (by rw [b2i_f (by omega)] at k; exact k)
    · refine ZE.iconst (n := 1) d_SN_isModulus_12 ?_
      refine ZE.goto (tgt := 17) d_SN_isModulus_13 rfl ?_
      refine ZE.zret d_SN_isModulus_17 rfl (by omega) ?_
      first | exact (by rw [b2i_t (by omega)] at k; exact k) | exact (by rw [b2i_f (by omega)] at k; exact k)
set_option maxRecDepth 20000 in
set_option maxHeartbeats 4000000 in
theorem c_isM {d : Nat} {G : zG} {A : Int → Int → Int} {P : Option zV → zG → Prop} {v1 : Int} (hv : zR v1) (k : P (some (0, b2i (0 ≤ v1 ∧ v1 ≤ 8))) (gw G A)) : ZE d M_SN_isMeasure (gw G A) 0 [(0, v1)] [] P := by
  refine ZE.iload_n d_SN_isMeasure_0 rfl ?_
  refine ZE.if_lt (tgt := 14) d_SN_isMeasure_1 rfl hv (fun c1 => ?_) (fun c1 => ?_)
  · refine ZE.iconst (n := 0) d_SN_isMeasure_14 ?_
    refine ZE.zret d_SN_isMeasure_15 rfl (by omega) ?_
    first | exact (by rw [b2i_t (by omega)] at k; exact k) | exact (by rw [b2i_f (by omega)] at k; exact k)
  · refine ZE.iload_n d_SN_isMeasure_4 rfl ?_
    refine ZE.bipush (n := 9) d_SN_isMeasure_5 rfl ?_
    refine ZE.icmp_ge (tgt := 14) d_SN_isMeasure_7 rfl hv (by unfold zR; omega) (fun c7 => ?_) (fun c7 => ?_)
    · refine ZE.iconst (n := 0) d_SN_isMeasure_14 ?_
      refine ZE.zret d_SN_isMeasure_15 rfl (by omega) ?_
      first | exact (by rw [b2i_t (by omega)] at k; exact k) | exact (by rw [b2i_f (by omega)] at k; exact k)
    · refine ZE.iconst (n := 1) d_SN_isMeasure_10 ?_
      refine ZE.goto (tgt := 15) d_SN_isMeasure_11 rfl ?_
      refine ZE.zret d_SN_isMeasure_15 rfl (by omega) ?_
      first | exact (by rw [b2i_t (by omega)] at k; exact k) | exact (by rw [b2i_f (by omega)] at k; exact k)
set_option maxRecDepth 20000 in
set_option maxHeartbeats 4000000 in
theorem c_upTo {d : Nat} {G : zG} {A : Int → Int → Int} {P : Option zV → zG → Prop} {v1 : Int} (hv : zR v1) (k : P (some (0, b2i (0 ≤ v1 ∧ v1 ≤ 200000))) (gw G A)) : ZE d M_SN_isUpToSieveEnd (gw G A) 0 [(0, v1)] [] P := by
  refine ZE.iload_n d_SN_isUpToSieveEnd_0 rfl ?_
  refine ZE.if_lt (tgt := 15) d_SN_isUpToSieveEnd_1 rfl hv (fun c1 => ?_) (fun c1 => ?_)
  · refine ZE.iconst (n := 0) d_SN_isUpToSieveEnd_15 ?_
    refine ZE.zret d_SN_isUpToSieveEnd_16 rfl (by omega) ?_
    first | exact (by rw [b2i_t (by omega)] at k; exact k) | exact (by rw [b2i_f (by omega)] at k; exact k)
  · refine ZE.iload_n d_SN_isUpToSieveEnd_4 rfl ?_
    refine ZE.ldcw (v := 200000) d_SN_isUpToSieveEnd_5 k_SN_317 ?_
    refine ZE.icmp_gt (tgt := 15) d_SN_isUpToSieveEnd_8 rfl hv (by unfold zR; omega) (fun c8 => ?_) (fun c8 => ?_)
    · refine ZE.iconst (n := 0) d_SN_isUpToSieveEnd_15 ?_
      refine ZE.zret d_SN_isUpToSieveEnd_16 rfl (by omega) ?_
      first | exact (by rw [b2i_t (by omega)] at k; exact k) | exact (by rw [b2i_f (by omega)] at k; exact k)
    · refine ZE.iconst (n := 1) d_SN_isUpToSieveEnd_11 ?_
      refine ZE.goto (tgt := 16) d_SN_isUpToSieveEnd_12 rfl ?_
      refine ZE.zret d_SN_isUpToSieveEnd_16 rfl (by omega) ?_
      first | exact (by rw [b2i_t (by omega)] at k; exact k) | exact (by rw [b2i_f (by omega)] at k; exact k)
set_option maxRecDepth 20000 in
set_option maxHeartbeats 4000000 in
theorem c_canCome {d : Nat} {G : zG} {A : Int → Int → Int} {P : Option zV → zG → Prop} {x : Int} {S T tl : Nat} {tf : Nat → Int} {wl : Nat} {wf : Nat → Int} (h : CI G A x S T tl tf wl wf) {p : Int} (hp : zR p) (k : P (some (0, b2i (canB S p = true))) (gw G A)) : ZE (d + 4) M_SN_canCome (gw G A) 0 [(2, x), (0, p)] [] P := by
  have hx0 := h.cCK.2.1
  have hR := h.cR
  have hL := h.cL.1
  have hgx := h.cL.2
  have hS7 := h.cS.2.1
  have hp5 := h.cS.2.2
  have hE0 := hR.E
  have hL64 := hR.l64
  have hC32 := hR.c32
  have hpl : (prL 1 S).length = (prs S).length := by rw [prL_1 hS7 hp5]
  have hcl : (csA 1 S).length = (csF S 1 128).length := rfl
  have hpR := plc_R p
  have hpo := pop_le S (by omega)
  refine ZE.iload_n d_SN_canCome_0 rfl ?_
  refine ZE.cS [(0, p)] [] [(0, p), (9, 0)] d_SN_canCome_1 l_SN_246 rfl rfl rfl rfl rfl rfl ?_
  refine p_placeOf (d := d + 2) hp hL ?_
  show ZE (d + 4) M_SN_canCome (gw G A) 4 [(2, x), (0, p)] [(0, plc p)] _
  refine ZE.iconst (n := (-1)) d_SN_canCome_4 ?_
  refine ZE.icmp_eq (tgt := 34) d_SN_canCome_5 rfl (by unfold zR; omega) (by unfold zR; omega) (fun c5 => ?_) (fun c5 => ?_)
  · refine ZE.iconst (n := 0) d_SN_canCome_34 ?_
    refine ZE.zret d_SN_canCome_35 rfl (by omega) ?_
    have hh : hasB S p = (decide (plc p ≠ -1) && S.testBit (plc p).toNat) := rfl
    rw [b2i_f (show ¬ canB S p = true from ?_)] at k
    · exact k
    · unfold canB
      rw [Bool.and_eq_true, Bool.and_eq_true, decide_eq_true_iff, decide_eq_true_iff, Bool.not_eq_true']
      intro q
      first
      | exact absurd c5 q.1.1
      | (rw [hh, decide_eq_true (show plc p ≠ -1 from c5), Bool.true_and] at c16; rw [q.1.2] at c16; exact absurd c16 (by decide))
      | exact absurd q.2 (by omega)
  · refine ZE.aload_n d_SN_canCome_8 rfl ?_
    refine ZE.getE (v := (S : Int)) d_SN_canCome_9 f_SN_72 (tg := 0) rfl h.cCK.1 h.cS.1 ?_
    refine ZE.iload_n d_SN_canCome_12 rfl ?_
    refine ZE.cS [(0, (S : Int)), (0, p)] [] [(0, (S : Int)), (0, p)] d_SN_canCome_13 l_SN_96 rfl rfl rfl rfl rfl rfl ?_
    refine p_has (d := d) hS7 hp hL ?_
    show ZE (d + 4) M_SN_canCome (gw G A) 16 [(2, x), (0, p)] [(0, b2i (hasB S p = true))] _
    refine ZE.if_ne (tgt := 34) d_SN_canCome_16 rfl (zR_b2i _) (fun c16 => ?_) (fun c16 => ?_)
    · replace c16 := b2i_n0.mp c16
      refine ZE.iconst (n := 0) d_SN_canCome_34 ?_
      refine ZE.zret d_SN_canCome_35 rfl (by omega) ?_
      have hh : hasB S p = (decide (plc p ≠ -1) && S.testBit (plc p).toNat) := rfl
      rw [b2i_f (show ¬ canB S p = true from ?_)] at k
      · exact k
      · unfold canB
        rw [Bool.and_eq_true, Bool.and_eq_true, decide_eq_true_iff, decide_eq_true_iff, Bool.not_eq_true']
        intro q
        first
        | exact absurd c5 q.1.1
        | (rw [hh, decide_eq_true (show plc p ≠ -1 from c5), Bool.true_and] at c16; rw [q.1.2] at c16; exact absurd c16 (by decide))
        | exact absurd q.2 (by omega)
    · replace c16 := b2i_0.mp c16
      refine ZE.aload_n d_SN_canCome_19 rfl ?_
      refine ZE.getE (v := (S : Int)) d_SN_canCome_20 f_SN_72 (tg := 0) rfl h.cCK.1 h.cS.1 ?_
      refine ZE.cS [(0, (S : Int))] [] [(0, (S : Int))] d_SN_canCome_23 l_SN_100 rfl rfl rfl rfl rfl rfl ?_
      refine j_bitCount (d := d + 3) (n := S) (by omega) ?_
      show ZE (d + 4) M_SN_canCome (gw G A) 26 [(2, x), (0, p)] [(0, (pop S : Int))] _
      refine ZE.iconst (n := 5) d_SN_canCome_26 ?_
      refine ZE.icmp_ge (tgt := 34) d_SN_canCome_27 rfl (by unfold zR; omega) (by unfold zR; omega) (fun c27 => ?_) (fun c27 => ?_)
      · refine ZE.iconst (n := 0) d_SN_canCome_34 ?_
        refine ZE.zret d_SN_canCome_35 rfl (by omega) ?_
        have hh : hasB S p = (decide (plc p ≠ -1) && S.testBit (plc p).toNat) := rfl
        rw [b2i_f (show ¬ canB S p = true from ?_)] at k
        · exact k
        · unfold canB
          rw [Bool.and_eq_true, Bool.and_eq_true, decide_eq_true_iff, decide_eq_true_iff, Bool.not_eq_true']
          intro q
          first
          | exact absurd c5 q.1.1
          | (rw [hh, decide_eq_true (show plc p ≠ -1 from c5), Bool.true_and] at c16; rw [q.1.2] at c16; exact absurd c16 (by decide))
          | exact absurd q.2 (by omega)
      · refine ZE.iconst (n := 1) d_SN_canCome_30 ?_
        refine ZE.goto (tgt := 35) d_SN_canCome_31 rfl ?_
        refine ZE.zret d_SN_canCome_35 rfl (by omega) ?_
        have hh : hasB S p = (decide (plc p ≠ -1) && S.testBit (plc p).toNat) := rfl
        rw [b2i_t (show canB S p = true from ?_)] at k
        · exact k
        · rw [hh, decide_eq_true (show plc p ≠ -1 from c5), Bool.true_and] at c16
          unfold canB
          rw [decide_eq_true (show plc p ≠ -1 from c5), Bool.eq_false_iff.mpr c16, decide_eq_true (show pop S < 5 by omega)]
          rfl
set_option maxRecDepth 20000 in
set_option maxHeartbeats 4000000 in
theorem c_squareOf {d : Nat} {G : zG} {A : Int → Int → Int} {P : Option zV → zG → Prop} {x : Int} {S T tl : Nat} {tf : Nat → Int} {wl : Nat} {wf : Nat → Int} (h : CI G A x S T tl tf wl wf) {cn : Nat} (hcn : cn < (csA 1 S).length) (k : P (some (0, (d1 S cn : Int))) (gw G A)) : ZE (d + 1) M_SN_squareOf (gw G A) 0 [(2, x), (0, (cn : Int))] [] P := by
  have hx0 := h.cCK.2.1
  have hR := h.cR
  have hL := h.cL.1
  have hgx := h.cL.2
  have hS7 := h.cS.2.1
  have hp5 := h.cS.2.2
  have hE0 := hR.E
  have hL64 := hR.l64
  have hC32 := hR.c32
  have hpl : (prL 1 S).length = (prs S).length := by rw [prL_1 hS7 hp5]
  have hcl : (csA 1 S).length = (csF S 1 128).length := rfl
  refine ZE.aload_n d_SN_squareOf_0 rfl ?_
  refine ZE.getE (v := x + 1) d_SN_squareOf_1 f_SN_12 (tg := 2) rfl h.cCK.1 h.cCF.1 ?_
  refine ZE.iload_n d_SN_squareOf_4 rfl ?_
  have hu := hR.un (c := cn) (by omega)
  refine ZE.cV [(0, (cn : Int))] [] [(2, x + 1), (0, (cn : Int)), (9, 0)] d_SN_squareOf_5 l_SN_142 rfl rfl rfl rfl rfl rfl h.cCK.2.2.1.1 ?_
  refine s_unitAt hR.K hR.F hR.n11 hC32 (k1 := cn) (by omega) (v1 := A (x + 1 + 29) (cn : Int)) rfl (by have := hu.1; omega) ?_
  show ZE (d + 1) M_SN_squareOf (gw G A) 8 [(2, x), (0, (cn : Int))] [(2, A (x + 1 + 29) (cn : Int))] _
  refine ZE.getE (v := ((DD 1 (eA 1 S cn)) : Int)) d_SN_squareOf_8 f_SN_151 (tg := 0) rfl hu.2.2.1.1 hu.2.2.2.1.2.2.2.1 ?_
  refine ZE.iret d_SN_squareOf_11 rfl ?_
  exact k
set_option maxRecDepth 20000 in
set_option maxHeartbeats 4000000 in
theorem c_isStep {d : Nat} {G : zG} {A : Int → Int → Int} {P : Option zV → zG → Prop} {x : Int} {S T tl : Nat} {tf : Nat → Int} {wl : Nat} {wf : Nat → Int} (h : CI G A x S T tl tf wl wf) {c i : Int} (hc : zR c) (hi : zR i) (k : P (some (0, b2i (inC S c = true ∧ 0 ≤ i ∧ i ≤ 2 * (rnd (d1 S c.toNat) : Int)))) (gw G A)) : ZE (d + 2) M_SN_isStep (gw G A) 0 [(2, x), (0, c), (0, i)] [] P := by
  have hx0 := h.cCK.2.1
  have hR := h.cR
  have hL := h.cL.1
  have hgx := h.cL.2
  have hS7 := h.cS.2.1
  have hp5 := h.cS.2.2
  have hE0 := hR.E
  have hL64 := hR.l64
  have hC32 := hR.c32
  have hpl : (prL 1 S).length = (prs S).length := by rw [prL_1 hS7 hp5]
  have hcl : (csA 1 S).length = (csF S 1 128).length := rfl
  refine ZE.aload_n d_SN_isStep_0 rfl ?_
  refine ZE.getE (v := x + 1) d_SN_isStep_1 f_SN_12 (tg := 2) rfl h.cCK.1 h.cCF.1 ?_
  refine ZE.iload_n d_SN_isStep_4 rfl ?_
  refine ZE.cV [(0, c)] [] [(2, x + 1), (0, c)] d_SN_isStep_5 l_SN_139 rfl rfl rfl rfl rfl rfl h.cCK.2.2.1.1 ?_
  refine s_isClass h.cR.K h.cR.F h.cR.n11 (by omega) hc ?_
  show ZE (d + 2) M_SN_isStep (gw G A) 8 [(2, x), (0, c), (0, i)] [(0, b2i (0 ≤ c ∧ c < ((csA 1 S).length : Int)))] _
  refine ZE.if_eq (tgt := 36) d_SN_isStep_8 rfl (zR_b2i _) (fun c8 => ?_) (fun c8 => ?_)
  · replace c8 := b2i_0.mp c8
    refine ZE.iconst (n := 0) d_SN_isStep_36 ?_
    refine ZE.zret d_SN_isStep_37 rfl (by omega) ?_
    rw [b2i_f (fun q => c8 (by have := of_decide_eq_true q.1; omega))] at k
    exact k
  · replace c8 := b2i_n0.mp c8
    obtain ⟨cn, hcn⟩ : ∃ q : Nat, c = (q : Int) := ⟨c.toNat, by omega⟩
    subst hcn
    have e0 : inC S (cn : Int) = true := decide_eq_true (by omega)
    have hfr := hR.fr (c := cn) (by omega)
    have hfb := frD_b hfr
    have hdd : DD 1 (eA 1 S cn) = d1 S cn := rfl
    refine ZE.iload_n d_SN_isStep_11 rfl ?_
    refine ZE.if_lt (tgt := 36) d_SN_isStep_12 rfl hi (fun c12 => ?_) (fun c12 => ?_)
    · refine ZE.iconst (n := 0) d_SN_isStep_36 ?_
      refine ZE.zret d_SN_isStep_37 rfl (by omega) ?_
      rw [Int.toNat_natCast, ← hdd] at k
      first
      | (rw [b2i_t ⟨e0, by omega, by omega⟩] at k; exact k)
      | (rw [b2i_f (fun q => by have := q.2; omega)] at k; exact k)
    · refine ZE.iload_n d_SN_isStep_15 rfl ?_
      refine ZE.iconst (n := 2) d_SN_isStep_16 ?_
      refine ZE.aload_n d_SN_isStep_17 rfl ?_
      refine ZE.getE (v := x + 1) d_SN_isStep_18 f_SN_12 (tg := 2) rfl h.cCK.1 h.cCF.1 ?_
      refine ZE.iload_n d_SN_isStep_21 rfl ?_
      have hu := hR.un (c := cn) (by omega)
      refine ZE.cV [(0, (cn : Int))] [(0, 2), (0, i)] [(2, x + 1), (0, (cn : Int)), (9, 0)] d_SN_isStep_22 l_SN_142 rfl rfl rfl rfl rfl rfl h.cCK.2.2.1.1 ?_
      refine s_unitAt hR.K hR.F hR.n11 hC32 (k1 := cn) (by omega) (v1 := A (x + 1 + 29) (cn : Int)) rfl (by have := hu.1; omega) ?_
      show ZE (d + 2) M_SN_isStep (gw G A) 25 [(2, x), (0, (cn : Int)), (0, i)] [(2, A (x + 1 + 29) (cn : Int)), (0, 2), (0, i)] _
      refine ZE.getE (v := (rnd (DD 1 (eA 1 S cn)) : Int)) d_SN_isStep_25 f_SN_157 (tg := 0) rfl hu.2.2.1.1 hu.2.2.2.1.2.2.2.2.2.1 ?_
      refine ZE.imul d_SN_isStep_28 ?_
      refine ZE.icmp_gt (tgt := 36) d_SN_isStep_29 rfl hi (by unfold zR; omega) (fun c29 => ?_) (fun c29 => ?_)
      · refine ZE.iconst (n := 0) d_SN_isStep_36 ?_
        refine ZE.zret d_SN_isStep_37 rfl (by omega) ?_
        rw [Int.toNat_natCast, ← hdd] at k
        first
        | (rw [b2i_t ⟨e0, by omega, by omega⟩] at k; exact k)
        | (rw [b2i_f (fun q => by have := q.2; omega)] at k; exact k)
      · refine ZE.iconst (n := 1) d_SN_isStep_32 ?_
        refine ZE.goto (tgt := 37) d_SN_isStep_33 rfl ?_
        refine ZE.zret d_SN_isStep_37 rfl (by omega) ?_
        rw [Int.toNat_natCast, ← hdd] at k
        first
        | (rw [b2i_t ⟨e0, by omega, by omega⟩] at k; exact k)
        | (rw [b2i_f (fun q => by have := q.2; omega)] at k; exact k)
