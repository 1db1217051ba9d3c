set_option maxRecDepth 20000 in
set_option maxHeartbeats 4000000 in
theorem w_tellA {d : Nat} {G : zG} {A : Int → Int → Int} {P : Option zV → zG → Prop}  {p : Int} (hK : wK G p) {ap : Nat} (hO : wO A p ap) {u : Int} {i1 : Nat} {w1 : Nat} (hw : bN A (p + 3) w1) (hw1 : 1 ≤ w1) (n9 : nd 1000000000 w1 ≤ 32) (hap : ap ≤ 2) (k : ∀ B, bF A B (p + 7) → wO B p ap → bN B (p + 7) (if ap = 1 then (w1 - 1) / 2 else w1 - 1) → ZE (d + 3) M_Pow_tell (gw G B) 34 [(2, p), (2, u), (0, (i1 : Int)), (9, 0), (9, 0)] [] P) : ZE (d + 3) M_Pow_tell (gw G A) 0 [(2, p), (2, u), (0, (i1 : Int)), (9, 0), (9, 0)] [] P := by
  have n91 : nd 1000000000 (w1 - 1) ≤ 32 := Nat.le_trans (nd_mono' (by omega)) n9
  refine ZE.aload_n d_Pow_tell_0 rfl ?_
  refine ZE.getE (v := p + 7) d_Pow_tell_1 f_Pow_24 (tg := 2) rfl hK.1 hO.2.2.2.1 ?_
  refine ZE.aload_n d_Pow_tell_4 rfl ?_
  refine ZE.getE (v := p + 3) d_Pow_tell_5 f_Pow_18 (tg := 2) rfl hK.1 hO.2.1 ?_
  refine ZE.cV [(2, p + 3)] [] [(2, p + 7), (2, p + 3), (9, 0)] d_Pow_tell_8 l_Pow_51 rfl rfl rfl rfl rfl rfl hK.2.2.2.2.2.1.1 ?_
  refine B_copy hK.2.2.2.2.2.1 hO.2.2.2.2.2.2.2.2.2.2.2.1 hK.2.2.2.1 hw (by omega) (by omega) (by omega) (fun B1 g1 n1 => ?_)
  show ZE (d + 3) M_Pow_tell (gw G B1) 11 [(2, p), (2, u), (0, (i1 : Int)), (9, 0), (9, 0)] [] _
  have hO1 := hO.bg g1 (by omega) n1
  refine ZE.aload_n d_Pow_tell_11 rfl ?_
  refine ZE.getE (v := p + 7) d_Pow_tell_12 f_Pow_24 (tg := 2) rfl hK.1 hO1.2.2.2.1 ?_
  refine ZE.cV [] [] [(2, p + 7), (9, 0), (9, 0)] d_Pow_tell_15 l_Pow_65 rfl rfl rfl rfl rfl rfl hK.2.2.2.2.2.1.1 ?_
  refine B_decrease hK.2.2.2.2.2.1 n1 hw1 (by omega) (fun B2 g2 n2 => ?_)
  show ZE (d + 3) M_Pow_tell (gw G B2) 18 [(2, p), (2, u), (0, (i1 : Int)), (9, 0), (9, 0)] [] _
  have hO2 := hO1.bg g2 (by omega) n2
  refine ZE.aload_n d_Pow_tell_18 rfl ?_
  refine ZE.getE (v := (ap : Int)) d_Pow_tell_19 f_Pow_39 (tg := 0) rfl hK.1 hO2.2.2.2.2.2.2.2.1 ?_
  refine ZE.iconst (n := 1) d_Pow_tell_22 ?_
  refine ZE.icmp_ne (tgt := 34) d_Pow_tell_23 rfl (by unfold zR; omega) (by unfold zR; omega) (fun c23 => ?_) (fun c23 => ?_)
  · exact k B2 (by exact (fun a h1 h2 => (g2 a h1 h2).trans (g1 a h1 h2))) hO2 (by rw [if_neg (by omega)]; exact n2)
  · refine ZE.aload_n d_Pow_tell_26 rfl ?_
    refine ZE.getE (v := p + 7) d_Pow_tell_27 f_Pow_24 (tg := 2) rfl hK.1 hO2.2.2.2.1 ?_
    refine ZE.iconst (n := 2) d_Pow_tell_30 ?_
    refine ZE.cV [(0, 2)] [] [(2, p + 7), (0, 2), (9, 0), (9, 0), (9, 0), (9, 0), (9, 0)] d_Pow_tell_31 l_Pow_68 rfl rfl rfl rfl rfl rfl hK.2.2.2.2.2.1.1 ?_
    refine B_divide hK.2.2.2.2.2.1 n2 (y := 2) (by omega) (by omega) (by omega) (fun B3 g3 n3 => ?_)
    show ZE (d + 3) M_Pow_tell (gw G B3) 34 [(2, p), (2, u), (0, (i1 : Int)), (9, 0), (9, 0)] [] _
    have hO3 := hO2.bg g3 (by omega) n3
    exact k B3 (by exact (fun a h1 h2 => (g3 a h1 h2).trans ((g2 a h1 h2).trans (g1 a h1 h2)))) hO3 (by rw [if_pos (by omega)]; exact n3)
set_option maxRecDepth 20000 in
set_option maxHeartbeats 4000000 in
theorem w_tellB {d : Nat} {G : zG} {A : Int → Int → Int} {P : Option zV → zG → Prop}  {p : Int} (hK : wK G p) {ap : Nat} (hO : wO A p ap) (hL : lG G A) {u : Int} {i1 v : Nat} (hlo : bN A (p + 7) v) (hv1 : 1 ≤ v) (n9 : nd 1000000000 v ≤ 32) (hb : ∀ k, k < 7 → vp (sev k) v ≤ 1000) (hgl : gl G < p ∨ p + 12 < gl G) (k : ∀ B (b1 : Int), (∀ a : Int, a ≠ p + 9 → a ≠ p + 10 → a ≠ p + 11 → B a = A a) → wO B p ap → bN B (p + 9) (smF 127 v 7) → bN B (p + 7) v → (∀ k : Nat, k < 7 → B (p + 11) k = (vp (sev k) v : Int)) → b1 = (if smF 127 (v) 7 = 1 then 1 else 0 : Int) → ZE (d + 4) M_Pow_tell (gw G B) 70 [(2, p), (2, u), (0, (i1 : Int)), (0, (mb v : Int)), (9, 0)] [(0, b1)] P) : ZE (d + 4) M_Pow_tell (gw G A) 34 [(2, p), (2, u), (0, (i1 : Int)), (9, 0), (9, 0)] [] P := by
  have hsm := sm127_pos (n := v) (by omega) 7 (by omega)
  have hsn := nd_mono' hsm.2
  refine ZE.aload_n d_Pow_tell_34 rfl ?_
  refine ZE.getE (v := p + 9) d_Pow_tell_35 f_Pow_27 (tg := 2) rfl hK.1 hO.2.2.2.2.1 ?_
  refine ZE.aload_n d_Pow_tell_38 rfl ?_
  refine ZE.getE (v := p + 7) d_Pow_tell_39 f_Pow_24 (tg := 2) rfl hK.1 hO.2.2.2.1 ?_
  refine ZE.cV [(2, p + 7)] [] [(2, p + 9), (2, p + 7), (9, 0)] d_Pow_tell_42 l_Pow_51 rfl rfl rfl rfl rfl rfl hK.2.2.2.2.2.2.1.1 ?_
  refine B_copy hK.2.2.2.2.2.2.1 hO.2.2.2.2.2.2.2.2.2.2.2.2 hK.2.2.2.2.2.1 hlo (by omega) (by omega) (by omega) (fun B1 g1 n1 => ?_)
  show ZE (d + 4) M_Pow_tell (gw G B1) 45 [(2, p), (2, u), (0, (i1 : Int)), (9, 0), (9, 0)] [] _
  have hO1 := hO.bg g1 (by omega) n1
  refine ZE.aload_n d_Pow_tell_45 rfl ?_
  refine ZE.aload_n d_Pow_tell_46 rfl ?_
  refine ZE.getE (v := p + 11) d_Pow_tell_47 f_Pow_32 (tg := 2) rfl hK.1 hO1.2.2.2.2.2.1 ?_
  refine ZE.cV [(2, p + 11)] [] [(2, p), (2, p + 11), (9, 0), (9, 0)] d_Pow_tell_50 l_Pow_71 rfl rfl rfl rfl rfl rfl hK.1 ?_
  refine w_factor hK hO1 (G := G) (A := B1) ⟨hL.1, hL.2.1, fun q => (congrFun (g1 (gl G) (by omega) (by omega)) _).trans (hL.2.2 q)⟩ n1 hv1 n9 hb (r := p + 11) ⟨Or.inl rfl, hK.2.2.2.2.2.2.2.1⟩ hgl (fun B2 g2 n2 r2 => ?_)
  show ZE (d + 4) M_Pow_tell (gw G B2) 53 [(2, p), (2, u), (0, (i1 : Int)), (9, 0), (9, 0)] [(0, (mb v : Int))] _
  have hO2 : wO B2 p ap := ⟨by rw [g2 p (by omega) (by omega) (by omega)]; exact hO1.1, by rw [g2 p (by omega) (by omega) (by omega)]; exact hO1.2.1, by rw [g2 p (by omega) (by omega) (by omega)]; exact hO1.2.2.1, by rw [g2 p (by omega) (by omega) (by omega)]; exact hO1.2.2.2.1, by rw [g2 p (by omega) (by omega) (by omega)]; exact hO1.2.2.2.2.1, by rw [g2 p (by omega) (by omega) (by omega)]; exact hO1.2.2.2.2.2.1, by rw [g2 p (by omega) (by omega) (by omega)]; exact hO1.2.2.2.2.2.2.1, by rw [g2 p (by omega) (by omega) (by omega)]; exact hO1.2.2.2.2.2.2.2.1, by rw [g2 (p + 1) (by omega) (by omega) (by omega)]; exact hO1.2.2.2.2.2.2.2.2.1, by rw [g2 (p + 3) (by omega) (by omega) (by omega)]; exact hO1.2.2.2.2.2.2.2.2.2.1, by rw [g2 (p + 5) (by omega) (by omega) (by omega)]; exact hO1.2.2.2.2.2.2.2.2.2.2.1, by rw [g2 (p + 7) (by omega) (by omega) (by omega)]; exact hO1.2.2.2.2.2.2.2.2.2.2.2.1, n2.1⟩
  refine ZE.istore_n (ls2 := [(2, p), (2, u), (0, (i1 : Int)), (0, (mb v : Int)), (9, 0)]) d_Pow_tell_53 (Nat.le_of_ble_eq_true rfl) rfl ?_
  refine ZE.aload_n d_Pow_tell_54 rfl ?_
  refine ZE.getE (v := p + 9) d_Pow_tell_55 f_Pow_27 (tg := 2) rfl hK.1 hO2.2.2.2.2.1 ?_
  refine ZE.cV [] [] [(2, p + 9)] d_Pow_tell_58 l_Pow_75 rfl rfl rfl rfl rfl rfl hK.2.2.2.2.2.2.1.1 ?_
  refine B_asInt hK.2.2.2.2.2.2.1 n2 (by omega) ?_
  show ZE (d + 4) M_Pow_tell (gw G B2) 61 [(2, p), (2, u), (0, (i1 : Int)), (0, (mb v : Int)), (9, 0)] [(0, (if smF 127 (v) 7 < 1000000000 then (smF 127 (v) 7 : Int) else -1))] _
  refine ZE.iconst (n := 1) d_Pow_tell_61 ?_
  refine ZE.icmp_ne (tgt := 69) d_Pow_tell_62 rfl (by unfold zR; split <;> omega) (by unfold zR; omega) (fun c62 => ?_) (fun c62 => ?_)
  · have hq1 : ¬ smF 127 v 7 = 1 := fun q => by
      rw [q] at c62
      exact c62 rfl
    refine ZE.iconst (n := 0) d_Pow_tell_69 ?_
    refine k B2 0 (fun a h1 h2 h3 => (g2 a h1 h2 h3).trans (g1 a h1 (by omega))) hO2 n2 (hlo.ab (fun a ha => (g2 a (by omega) (by omega) (by omega)).trans (g1 a (by omega) (by omega)))) r2 ?_
    rw [if_neg hq1]
  · have hq1 : smF 127 v 7 = 1 := by
      by_cases q : smF 127 v 7 < 1000000000
      · rw [if_pos q] at c62; omega
      · rw [if_neg q] at c62; omega
    refine ZE.iconst (n := 1) d_Pow_tell_65 ?_
    refine ZE.goto (tgt := 70) d_Pow_tell_66 rfl ?_
    refine k B2 1 (fun a h1 h2 h3 => (g2 a h1 h2 h3).trans (g1 a h1 (by omega))) hO2 n2 (hlo.ab (fun a ha => (g2 a (by omega) (by omega) (by omega)).trans (g1 a (by omega) (by omega)))) r2 ?_
    rw [if_pos hq1]
theorem wO.ab9 {A B : Int → Int → Int} {p : Int} {ap : Nat} (h : wO A p ap) (e : ∀ a : Int, a ≠ p + 9 → a ≠ p + 10 → a ≠ p + 12 → B a = A a) (h9 : B (p + 9) 0 = p + 9 + 1) : wO B p ap := by
  obtain ⟨h0, h1, h2, h3, h4, h5, h6, h7, k1, k3, k5, k7, k9⟩ := h
  have e0 := e p (by omega) (by omega) (by omega)
  have e1 := e (p + 1) (by omega) (by omega) (by omega)
  have e3 := e (p + 3) (by omega) (by omega) (by omega)
  have e5 := e (p + 5) (by omega) (by omega) (by omega)
  have e7 := e (p + 7) (by omega) (by omega) (by omega)
  unfold wO
  rw [e0, e1, e3, e5, e7]
  exact ⟨h0, h1, h2, h3, h4, h5, h6, h7, k1, k3, k5, k7, h9⟩
set_option maxRecDepth 20000 in
set_option maxHeartbeats 4000000 in
theorem w_tellC {d : Nat} {G : zG} {A : Int → Int → Int} {P : Option zV → zG → Prop}  {p : Int} (hK : wK G p) {ap : Nat} (hO : wO A p ap) (hL : lG G A) {u : Int} {i1 v : Nat} (hlo : bN A (p + 7) v) (hrs : ∃ v0, bN A (p + 9) v0) (hv1 : 1 ≤ v) (hap : ap ≤ 2) (n9 : nd 1000000000 v ≤ 32) (n92 : nd 1000000000 (v + ap) ≤ 32) (hb : ∀ k, k < 7 → vp (sev k) (v + ap) ≤ 1000) (hgl : gl G < p ∨ p + 12 < gl G) {b1 : Int} (hb1 : b1 = (if smF 127 (v) 7 = 1 then 1 else 0 : Int)) (k : ∀ B (b2 : Int), (∀ a : Int, a ≠ p + 9 → a ≠ p + 10 → a ≠ p + 12 → B a = A a) → wO B p ap → bN B (p + 7) v → (∀ k : Nat, k < 7 → B (p + 12) k = (vp (sev k) (v + ap) : Int)) → b2 = (if smF 127 v 7 = 1 ∧ smF 127 (v + ap) 7 = 1 then 1 else 0 : Int) → ZE (d + 4) M_Pow_tell (gw G B) 126 [(2, p), (2, u), (0, (i1 : Int)), (0, ((mb v ||| mb (v + ap) : Nat) : Int)), (0, b1)] [(0, b2)] P) : ZE (d + 4) M_Pow_tell (gw G A) 70 [(2, p), (2, u), (0, (i1 : Int)), (0, (mb v : Int)), (9, 0)] [(0, b1)] P := by
  have hsm := sm127_pos (n := v + ap) (by omega) 7 (by omega)
  have hsn := nd_mono' hsm.2
  have hmb1 := mb_lt v
  have hmb2 := mb_lt (v + ap)
  have hbR : b1 = 0 ∨ b1 = 1 := by rw [hb1]; split <;> omega
  refine ZE.istore (ls2 := [(2, p), (2, u), (0, (i1 : Int)), (0, (mb v : Int)), (0, b1)]) d_Pow_tell_70 (Nat.le_of_ble_eq_true rfl) rfl ?_
  refine ZE.aload_n d_Pow_tell_72 rfl ?_
  refine ZE.getE (v := p + 9) d_Pow_tell_73 f_Pow_27 (tg := 2) rfl hK.1 hO.2.2.2.2.1 ?_
  refine ZE.aload_n d_Pow_tell_76 rfl ?_
  refine ZE.getE (v := p + 7) d_Pow_tell_77 f_Pow_24 (tg := 2) rfl hK.1 hO.2.2.2.1 ?_
  refine ZE.cV [(2, p + 7)] [] [(2, p + 9), (2, p + 7), (9, 0)] d_Pow_tell_80 l_Pow_51 rfl rfl rfl rfl rfl rfl hK.2.2.2.2.2.2.1.1 ?_
  refine B_copy hK.2.2.2.2.2.2.1 hO.2.2.2.2.2.2.2.2.2.2.2.2 hK.2.2.2.2.2.1 hlo (by omega) (by omega) (by omega) (fun B1 g1 n1 => ?_)
  show ZE (d + 4) M_Pow_tell (gw G B1) 83 [(2, p), (2, u), (0, (i1 : Int)), (0, (mb v : Int)), (0, b1)] [] _
  have hO1 := hO.bg g1 (by omega) n1
  refine ZE.aload_n d_Pow_tell_83 rfl ?_
  refine ZE.getE (v := p + 9) d_Pow_tell_84 f_Pow_27 (tg := 2) rfl hK.1 hO1.2.2.2.2.1 ?_
  refine ZE.aload_n d_Pow_tell_87 rfl ?_
  refine ZE.getE (v := (ap : Int)) d_Pow_tell_88 f_Pow_39 (tg := 0) rfl hK.1 hO1.2.2.2.2.2.2.2.1 ?_
  refine ZE.cV [(0, (ap : Int))] [] [(2, p + 9), (0, (ap : Int)), (9, 0), (9, 0), (9, 0)] d_Pow_tell_91 l_Pow_79 rfl rfl rfl rfl rfl rfl hK.2.2.2.2.2.2.1.1 ?_
  refine B_increase hK.2.2.2.2.2.2.1 n1 (w0 := ap) (by omega) (by omega) (by omega) (fun B2 g2 n2 => ?_)
  show ZE (d + 4) M_Pow_tell (gw G B2) 94 [(2, p), (2, u), (0, (i1 : Int)), (0, (mb v : Int)), (0, b1)] [] _
  have hO2 := hO1.bg g2 (by omega) n2
  refine ZE.iload_n d_Pow_tell_94 rfl ?_
  refine ZE.aload_n d_Pow_tell_95 rfl ?_
  refine ZE.aload_n d_Pow_tell_96 rfl ?_
  refine ZE.getE (v := p + 12) d_Pow_tell_97 f_Pow_36 (tg := 2) rfl hK.1 hO2.2.2.2.2.2.2.1 ?_
  refine ZE.cV [(2, p + 12)] [(0, (mb v : Int))] [(2, p), (2, p + 12), (9, 0), (9, 0)] d_Pow_tell_100 l_Pow_71 rfl rfl rfl rfl rfl rfl hK.1 ?_
  refine w_factor hK hO2 (G := G) (A := B2) ⟨hL.1, hL.2.1, fun q => (congrFun (g2 (gl G) (by omega) (by omega)) _).trans ((congrFun (g1 (gl G) (by omega) (by omega)) _).trans (hL.2.2 q))⟩ n2 (by omega) n92 hb (r := p + 12) ⟨Or.inr rfl, hK.2.2.2.2.2.2.2.2⟩ hgl (fun B3 g3 n3 r3 => ?_)
  show ZE (d + 4) M_Pow_tell (gw G B3) 103 [(2, p), (2, u), (0, (i1 : Int)), (0, (mb v : Int)), (0, b1)] [(0, (mb (v + ap) : Int)), (0, (mb v : Int))] _
  refine ZE.ior d_Pow_tell_103 ?_
  rw [show (zor (mb v : Int) (mb (v + ap) : Int) : Int) = ((mb v ||| mb (v + ap) : Nat) : Int) from (zor_nat (by omega) (by omega))]
  refine ZE.istore_n (ls2 := [(2, p), (2, u), (0, (i1 : Int)), (0, ((mb v ||| mb (v + ap) : Nat) : Int)), (0, b1)]) d_Pow_tell_104 (Nat.le_of_ble_eq_true rfl) rfl ?_
  refine ZE.iload d_Pow_tell_105 rfl ?_
  refine ZE.if_eq (tgt := 125) d_Pow_tell_107 rfl (by unfold zR; omega) (fun c107 => ?_) (fun c107 => ?_)
  · have hq2 : ¬ (smF 127 v 7 = 1 ∧ smF 127 (v + ap) 7 = 1) := fun q => by
      rw [if_pos q.1] at hb1; omega
    refine ZE.iconst (n := 0) d_Pow_tell_125 ?_
    refine k B3 0 (fun a h1 h2 h3 => (g3 a h1 h2 h3).trans ((g2 a h1 (by omega)).trans (g1 a h1 (by omega)))) (hO2.ab9 (fun a h1 h2 h3 => g3 a h1 h2 h3) n3.1) (hlo.ab (fun a ha => (g3 a (by omega) (by omega) (by omega)).trans ((g2 a (by omega) (by omega)).trans (g1 a (by omega) (by omega))))) r3 ?_
    rw [if_neg hq2]
  · have hq1 : smF 127 v 7 = 1 := by
      by_cases q : smF 127 v 7 = 1
      · exact q
      · rw [if_neg q] at hb1; omega
    refine ZE.aload_n d_Pow_tell_110 rfl ?_
    refine ZE.getE (v := p + 9) d_Pow_tell_111 f_Pow_27 (tg := 2) rfl hK.1 ((congrFun (g3 p (by omega) (by omega) (by omega)) _).trans hO2.2.2.2.2.1) ?_
    refine ZE.cV [] [] [(2, p + 9)] d_Pow_tell_114 l_Pow_75 rfl rfl rfl rfl rfl rfl hK.2.2.2.2.2.2.1.1 ?_
    refine B_asInt hK.2.2.2.2.2.2.1 n3 (by omega) ?_
    show ZE (d + 4) M_Pow_tell (gw G B3) 117 [(2, p), (2, u), (0, (i1 : Int)), (0, ((mb v ||| mb (v + ap) : Nat) : Int)), (0, b1)] [(0, (if smF 127 (v + ap) 7 < 1000000000 then (smF 127 (v + ap) 7 : Int) else -1))] _
    refine ZE.iconst (n := 1) d_Pow_tell_117 ?_
    refine ZE.icmp_ne (tgt := 125) d_Pow_tell_118 rfl (by unfold zR; split <;> omega) (by unfold zR; omega) (fun c118 => ?_) (fun c118 => ?_)
    · have hq2 : ¬ (smF 127 v 7 = 1 ∧ smF 127 (v + ap) 7 = 1) := fun q => by
        rw [q.2] at c118
        exact c118 rfl
      refine ZE.iconst (n := 0) d_Pow_tell_125 ?_
      refine k B3 0 (fun a h1 h2 h3 => (g3 a h1 h2 h3).trans ((g2 a h1 (by omega)).trans (g1 a h1 (by omega)))) (hO2.ab9 (fun a h1 h2 h3 => g3 a h1 h2 h3) n3.1) (hlo.ab (fun a ha => (g3 a (by omega) (by omega) (by omega)).trans ((g2 a (by omega) (by omega)).trans (g1 a (by omega) (by omega))))) r3 ?_
      rw [if_neg hq2]
    · have hq2 : smF 127 v 7 = 1 ∧ smF 127 (v + ap) 7 = 1 := ⟨hq1, by
        by_cases q : smF 127 (v + ap) 7 < 1000000000
        · rw [if_pos q] at c118; omega
        · rw [if_neg q] at c118; omega⟩
      refine ZE.iconst (n := 1) d_Pow_tell_121 ?_
      refine ZE.goto (tgt := 126) d_Pow_tell_122 rfl ?_
      refine k B3 1 (fun a h1 h2 h3 => (g3 a h1 h2 h3).trans ((g2 a h1 (by omega)).trans (g1 a h1 (by omega)))) (hO2.ab9 (fun a h1 h2 h3 => g3 a h1 h2 h3) n3.1) (hlo.ab (fun a ha => (g3 a (by omega) (by omega) (by omega)).trans ((g2 a (by omega) (by omega)).trans (g1 a (by omega) (by omega))))) r3 ?_
      rw [if_pos hq2]
