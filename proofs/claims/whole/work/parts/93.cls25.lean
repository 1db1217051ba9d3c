theorem uK.gr {G G2 : zG} {u : Int} {n s : Nat} (h : uK G u) (g : gR G G2 n s) (hb : u + 8 < (gz G : Int)) : uK G2 u := by
  have e := g.2.2.1
  have h0 := h.2.1
  refine ⟨(e u (by omega)).1.trans h.1, h.2.1, h.2.2.1.gr g (by omega), h.2.2.2.1.gr g (by omega), ?_, ?_, ?_, ?_⟩
  · exact ⟨(e _ (by omega)).1.trans h.2.2.2.2.1.1, (e _ (by omega)).2.trans h.2.2.2.2.1.2⟩
  · exact ⟨(e _ (by omega)).1.trans h.2.2.2.2.2.1.1, (e _ (by omega)).2.trans h.2.2.2.2.2.1.2⟩
  · exact ⟨(e _ (by omega)).1.trans h.2.2.2.2.2.2.1.1, (e _ (by omega)).2.trans h.2.2.2.2.2.2.1.2⟩
  · exact ⟨(e _ (by omega)).1.trans h.2.2.2.2.2.2.2.1, (e _ (by omega)).2.trans h.2.2.2.2.2.2.2.2⟩
set_option maxRecDepth 20000 in
set_option maxHeartbeats 4000000 in
theorem w_tellD {d : Nat} {G : zG} {A : Int → Int → Int} {P : Option zV → zG → Prop} {p : Int} (hK : wK G p) {ap : Nat} (hO : wO A p ap) (hpz : p + 12 < (gz G : Int)) {u : Int} (hu : uK G u) (huz : u + 8 < (gz G : Int)) (h6 : A u 6 = u + 5) (h7 : A u 7 = u + 6) (h9u : A u 9 = u + 8) {i1 v w1 : Nat} (hi : i1 < 10) (hw : bN A (p + 3) w1) (n9w : nd 1000000000 w1 ≤ 32) (hlo : bN A (p + 7) v) (hv1 : 1 ≤ v) (n9 : nd 1000000000 v ≤ 32) (hb : ∀ k, k < 7 → vp (sev k) v ≤ 1000 ∧ vp (sev k) (v + ap) ≤ 1000) (r1 : ∀ k : Nat, k < 7 → A (p + 11) k = (vp (sev k) v : Int)) (r2 : ∀ k : Nat, k < 7 → A (p + 12) k = (vp (sev k) (v + ap) : Int)) {b1 b2 : Int} (hb2 : b2 = (if smF 127 v 7 = 1 ∧ smF 127 (v + ap) 7 = 1 then 1 else 0 : Int)) (k1 : (smF 127 v 7 = 1 ∧ smF 127 (v + ap) 7 = 1) → ∀ c : Int, c = (gz G : Int) → ∀ G2 A2, cP G2 A2 c v i1 ap → (∀ a : Int, a < c → A2 a = A a) → gR G G2 (1 + 4) (6 + (16 + nd 1000000000 v)) → P none (gw G2 (up2 (up2 (up2 (A2) (u + 5) (i1 : Int) (dl w1 : Int)) (u + 6) (i1 : Int) ((mb v ||| mb (v + ap) : Nat) : Int)) (u + 8) (i1 : Int) (c)))) (k : ¬ (smF 127 v 7 = 1 ∧ smF 127 (v + ap) 7 = 1) → P none (gw G (up2 (up2 (up2 (A) (u + 5) (i1 : Int) (dl w1 : Int)) (u + 6) (i1 : Int) ((mb v ||| mb (v + ap) : Nat) : Int)) (u + 8) (i1 : Int) (-1)))) : ZE (d + 4) M_Pow_tell (gw G A) 126 [(2, p), (2, u), (0, (i1 : Int)), (0, ((mb v ||| mb (v + ap) : Nat) : Int)), (0, b1)] [(0, b2)] P := by
  have k0 := k
  have hp0 := hK.2.1
  have hu0 := hu.2.1
  have hbR : b2 = 0 ∨ b2 = 1 := by rw [hb2]; split <;> omega
  refine ZE.istore (ls2 := [(2, p), (2, u), (0, (i1 : Int)), (0, ((mb v ||| mb (v + ap) : Nat) : Int)), (0, b2)]) d_Pow_tell_126 (Nat.le_of_ble_eq_true rfl) rfl ?_
  refine ZE.aload_n d_Pow_tell_128 rfl ?_
  refine ZE.iload_n d_Pow_tell_129 rfl ?_
  refine ZE.aload_n d_Pow_tell_130 rfl ?_
  refine ZE.getE (v := p + 3) d_Pow_tell_131 f_Pow_18 (tg := 2) rfl hK.1 hO.2.1 ?_
  refine ZE.cV [] [(0, (i1 : Int)), (2, u)] [(2, p + 3), (9, 0), (9, 0)] d_Pow_tell_134 l_Pow_82 rfl rfl rfl rfl rfl rfl hK.2.2.2.1.1 ?_
  refine B_digits hK.2.2.2.1 hw (by omega) ?_
  show ZE (d + 4) M_Pow_tell (gw G A) 137 [(2, p), (2, u), (0, (i1 : Int)), (0, ((mb v ||| mb (v + ap) : Nat) : Int)), (0, b2)] [(0, (dl w1 : Int)), (0, (i1 : Int)), (2, u)] _
  refine ZE.iload_n d_Pow_tell_137 rfl ?_
  refine ZE.iload d_Pow_tell_138 rfl ?_
  refine ZE.if_eq (tgt := 166) d_Pow_tell_140 rfl (by unfold zR; omega) (fun c140 => ?_) (fun c140 => ?_)
  · have hq2 : ¬ (smF 127 v 7 = 1 ∧ smF 127 (v + ap) 7 = 1) := fun q => by
      rw [if_pos q] at hb2; omega
    refine ZE.null d_Pow_tell_166 ?_
    refine ZE.cV [(0, (i1 : Int)), (0, (dl w1 : Int)), (0, ((mb v ||| mb (v + ap) : Nat) : Int)), (2, (-1))] [] [(2, u), (0, (i1 : Int)), (0, (dl w1 : Int)), (0, ((mb v ||| mb (v + ap) : Nat) : Int)), (2, (-1))] d_Pow_tell_167 l_Pow_90 rfl rfl rfl rfl rfl rfl hu.1 ?_
    refine u_note hu h6 h7 h9u (i0 := i1) hi (l1 := (dl w1 : Int)) (m1 := ((mb v ||| mb (v + ap) : Nat) : Int)) (cp1 := -1) (Or.inl rfl) ?_
    show ZE (d + 4) M_Pow_tell (gw G (up2 (up2 (up2 (A) (u + 5) (i1 : Int) (dl w1 : Int)) (u + 6) (i1 : Int) ((mb v ||| mb (v + ap) : Nat) : Int)) (u + 8) (i1 : Int) (-1))) 170 [(2, p), (2, u), (0, (i1 : Int)), (0, ((mb v ||| mb (v + ap) : Nat) : Int)), (0, b2)] [] _
    refine ZE.vret d_Pow_tell_170 rfl ?_
    exact k0 hq2
  · have hq2 : smF 127 v 7 = 1 ∧ smF 127 (v + ap) 7 = 1 := by
      by_cases q : smF 127 v 7 = 1 ∧ smF 127 (v + ap) 7 = 1
      · exact q
      · rw [if_neg q] at hb2; omega
    refine ZE.new d_Pow_tell_143 n_Pow_85 ?_
    rw [gnew_gw, show (gz (gw G A) : Int) = (gz G : Int) from rfl]
    obtain ⟨c, hcz⟩ : ∃ c : Int, c = (gz G : Int) := ⟨_, rfl⟩
    obtain ⟨G1, hE⟩ : ∃ H1, H1 = gnew G 11 6 (zInit 1) := ⟨_, rfl⟩
    rw [show gnew G (10 + 1) 6 (zInit 1) = G1 from hE.symm, ← hcz]
    have hgr : gR G G1 1 6 := by rw [hE]; exact gR.new
    have hkc : gk G1 c = 11 := by rw [hE, hcz]; exact gnew_gk
    have hz1 : (gz G1 : Int) = c + 1 := by have := hgr.1; omega
    have hgk := hgr.2.2.1
    have hnb : ∀ a : Int, a < c → (upA A c (zInit 1)) a = A a := fun a ha => upA_ne _ _ (by omega)
    refine ZE.dup d_Pow_tell_146 (Or.inr rfl) ?_
    refine ZE.aload_n d_Pow_tell_147 rfl ?_
    refine ZE.getE (v := p + 7) d_Pow_tell_148 f_Pow_24 (tg := 2) rfl ((hgk p (by omega)).1.trans hK.1) ((congrFun (upA_ne _ _ (by omega)) _).trans hO.2.2.2.1) ?_
    refine ZE.iload_n d_Pow_tell_151 rfl ?_
    refine ZE.aload_n d_Pow_tell_152 rfl ?_
    refine ZE.getE (v := p + 11) d_Pow_tell_153 f_Pow_32 (tg := 2) rfl ((hgk p (by omega)).1.trans hK.1) ((congrFun (upA_ne _ _ (by omega)) _).trans hO.2.2.2.2.2.1) ?_
    refine ZE.aload_n d_Pow_tell_156 rfl ?_
    refine ZE.getE (v := p + 12) d_Pow_tell_157 f_Pow_36 (tg := 2) rfl ((hgk p (by omega)).1.trans hK.1) ((congrFun (upA_ne _ _ (by omega)) _).trans hO.2.2.2.2.2.2.1) ?_
    refine ZE.cI [(2, p + 7), (0, (i1 : Int)), (2, p + 11), (2, p + 12)] [(2, c), (0, ((mb v ||| mb (v + ap) : Nat) : Int)), (0, (dl w1 : Int)), (0, (i1 : Int)), (2, u)] [(2, c), (2, p + 7), (0, (i1 : Int)), (2, p + 11), (2, p + 12), (9, 0), (9, 0)] d_Pow_tell_160 l_Pow_87 rfl rfl rfl rfl rfl rfl (by omega) ?_
    refine c_init (c := c) hz1 (by omega) hkc (m := p + 7) (cap2 := 32) (hK.2.2.2.2.2.1.gr hgr (by omega)) (by omega) (v := v) (i1 := i1) (ap := ap) (hlo.ab (fun a ha => hnb a (by omega))) hv1 (by omega) (by omega) (lr := p + 11) (hr := p + 12) ⟨(hgk _ (by omega)).1.trans hK.2.2.2.2.2.2.2.1.1, (hgk _ (by omega)).2.trans hK.2.2.2.2.2.2.2.1.2⟩ ⟨(hgk _ (by omega)).1.trans hK.2.2.2.2.2.2.2.2.1, (hgk _ (by omega)).2.trans hK.2.2.2.2.2.2.2.2.2⟩ (by omega) (fun q hq => (congrFun (hnb _ (by omega)) _).trans (r1 q hq)) (fun q hq => (congrFun (hnb _ (by omega)) _).trans (r2 q hq)) hb (fun G2 A2 hcP hA2 hg2 => ?_)
    show ZE (d + 4) M_Pow_tell (gw G2 A2) 163 [(2, p), (2, u), (0, (i1 : Int)), (0, ((mb v ||| mb (v + ap) : Nat) : Int)), (0, b2)] [(2, c), (0, ((mb v ||| mb (v + ap) : Nat) : Int)), (0, (dl w1 : Int)), (0, (i1 : Int)), (2, u)] _
    have hg3 := hg2.2.2.1
    have hu2 : uK G2 u := ((hu.gr hgr (by omega)).gr hg2 (by omega))
    refine ZE.goto (tgt := 167) d_Pow_tell_163 rfl ?_
    refine ZE.cV [(0, (i1 : Int)), (0, (dl w1 : Int)), (0, ((mb v ||| mb (v + ap) : Nat) : Int)), (2, c)] [] [(2, u), (0, (i1 : Int)), (0, (dl w1 : Int)), (0, ((mb v ||| mb (v + ap) : Nat) : Int)), (2, c)] d_Pow_tell_167 l_Pow_90 rfl rfl rfl rfl rfl rfl hu2.1 ?_
    refine u_note hu2 ((congrFun ((hA2 u (by omega)).trans (hnb u (by omega))) _).trans h6) ((congrFun ((hA2 u (by omega)).trans (hnb u (by omega))) _).trans h7) ((congrFun ((hA2 u (by omega)).trans (hnb u (by omega))) _).trans h9u) (i0 := i1) hi (l1 := (dl w1 : Int)) (m1 := ((mb v ||| mb (v + ap) : Nat) : Int)) (cp1 := c) (Or.inr hcP.1.1) ?_
    show ZE (d + 4) M_Pow_tell (gw G2 (up2 (up2 (up2 (A2) (u + 5) (i1 : Int) (dl w1 : Int)) (u + 6) (i1 : Int) ((mb v ||| mb (v + ap) : Nat) : Int)) (u + 8) (i1 : Int) (c))) 170 [(2, p), (2, u), (0, (i1 : Int)), (0, ((mb v ||| mb (v + ap) : Nat) : Int)), (0, b2)] [] _
    refine ZE.vret d_Pow_tell_170 rfl ?_
    exact k1 hq2 c hcz G2 A2 hcP (fun a ha => (hA2 a ha).trans (hnb a ha)) (hgr.tr hg2)
