def gS (G : zG) (A1 A2 : Int → Int → Int) (s E0 : Int) (ap S : Nat) (L : List pT) : Prop := (∀ i : Int, i ≠ 12 → A2 s i = A1 s i) ∧ A2 s 12 = (L.length : Int) ∧ (∀ a : Int, a ≠ s → a ≠ s + 30 → A2 a = A1 a ∨ (E0 ≤ a ∧ a + 5 ≤ (gz G : Int) ∧ isC G A1 a ap ∧ ∀ i : Int, i ≠ 5 → A2 a i = A1 a i)) ∧ (∀ k : Nat, k < L.length → A2 (s + 30) k = A1 (A1 (s + 29) ((L.getD k pD).2.1 : Nat) + 8) ((L.getD k pD).2.2 : Nat) ∧ A2 (A2 (s + 30) k) 5 = ((L.getD k pD).2.1 : Nat))
/-- the units that a search's row names -/
def uR (G : zG) (A : Int → Int → Int) (s E0 : Int) (ap S : Nat) : Prop := ∀ c : Nat, c < (csA ap S).length → A (s + 29) c = A (s + 28) ((eA ap S c : Nat) : Int) ∧ A (s + 28) ((eA ap S c : Nat) : Int) ≠ -1
theorem gS.saf {G : zG} {A1 A2 : Int → Int → Int} {s E0 : Int} {ap S : Nat} {L : List pT} (h : gS G A1 A2 s E0 ap S L) (hE : s + 46 ≤ E0) : safF G A1 A2 E0 := fun a h1 h2 => by
  rcases h.2.2.1 a (by omega) (by omega) with q | q
  · exact Or.inl q
  · exact Or.inr ⟨q.2.2.1.k11, q.2.2.2⟩
theorem gS.lo {G : zG} {A1 A2 : Int → Int → Int} {s E0 : Int} {ap S : Nat} {L : List pT} (h : gS G A1 A2 s E0 ap S L) {a : Int} (h1 : a ≠ s) (h2 : a ≠ s + 30) (h3 : a < E0) : A2 a = A1 a := by
  rcases h.2.2.1 a h1 h2 with q | q
  · exact q
  · omega
theorem gS_0 {G : zG} {A : Int → Int → Int} {s E0 : Int} {ap S : Nat} (h : A s 12 = 0) : gS G A A s E0 ap S [] := ⟨fun _ _ => rfl, h, fun _ _ _ => Or.inl rfl, fun k hk => absurd hk (Nat.not_lt_zero _)⟩
theorem gS_at {G : zG} {A1 A2 : Int → Int → Int} {s E0 : Int} {ap S c : Nat} {L : List pT} (h : gS G A1 A2 s E0 ap S L) (hap : ap = 1 ∨ ap = 2) (hS : S < 128) (hp : pop S ≤ 5) (hE : s + 46 ≤ E0) (hP : kP G A1 s E0 ap) (hU : uR G A1 s E0 ap S) (hcN : c ≤ (csA ap S).length) (ho : alL (okT ap S c) L) {k : Nat} (hk : k < L.length) : E0 ≤ A2 (s + 30) k ∧ A2 (s + 30) k + 5 ≤ (gz G : Int) ∧ cP G A1 (A2 (s + 30) k) (L.getD k pD).1 (L.getD k pD).2.2 ap ∧ cP G A2 (A2 (s + 30) k) (L.getD k pD).1 (L.getD k pD).2.2 ap ∧ isC G A1 (A2 (s + 30) k) ap := by
  have ht := ho k hk
  have hb := bnd_le S hS
  have hc2 : (L.getD k pD).2.1 < (csA ap S).length := Nat.lt_of_lt_of_le ht.1 hcN
  have hu := hP.un hc2 (hU _ hc2)
  have h3 := hu.cp hap hS hp hc2 ⟨ht.2.1, by have := ht.2.2.1; omega⟩ ht.2.2.2.2
  rw [← ht.2.2.2.1, ← (h.2.2.2 k hk).1] at h3
  have h4 := hu.1
  exact ⟨by omega, h3.2.1, h3.2.2.1, h3.2.2.1.saf gR.rf (h.saf hE) (by omega) h3.2.1, h3.2.2.2⟩
theorem gS_next {G : zG} {A1 A2 A3 : Int → Int → Int} {s E0 v1 : Int} {ap S c i : Nat} {L : List pT} (h : gS G A1 A2 s E0 ap S L) (hap : ap = 1 ∨ ap = 2) (hS : S < 128) (hp : pop S ≤ 5) (h0 : 0 ≤ s) (hE : s + 46 ≤ E0) (hP : kP G A1 s E0 ap) (hU : uR G A1 s E0 ap S) (hcN : c < (csA ap S).length) (ho : alL (okT ap S (c + 1)) L) (hi : 1 ≤ i ∧ i ≤ 9) (hv : v1 = A1 (A1 (s + 29) c + 8) i) (hv0 : E0 ≤ v1 ∧ v1 + 5 ≤ (gz G : Int)) (hvP : cP G A1 v1 (vA ap S c i) i ap) (hvC : isC G A1 v1 ap) (hnd : ∀ k : Nat, k < L.length → (L.getD k pD).1 ≠ vA ap S c i)
    (t1 : ∀ a : Int, a ≠ s → a ≠ s + 30 → a ≠ v1 → A3 a = A2 a) (t2 : ∀ j : Int, j ≠ 12 → A3 s j = A2 s j) (t3 : A3 s 12 = ((L.length + 1 : Nat) : Int)) (t4 : ∀ j : Int, j ≠ 5 → A3 v1 j = A2 v1 j) (t5 : A3 v1 5 = (c : Int)) (t6 : ∀ q : Nat, q < L.length + 1 → A3 (s + 30) q = if q < jp (fun k => decide (vA ap S c i < (L.getD k pD).1)) L.length then A2 (s + 30) q else if q = jp (fun k => decide (vA ap S c i < (L.getD k pD).1)) L.length then v1 else A2 (s + 30) ((q - 1 : Nat) : Int)) : gS G A1 A3 s E0 ap S (insP L (vA ap S c i, c, i)) := by
  have hj := jp_le (fun k => decide (vA ap S c i < (L.getD k pD).1)) L.length
  have hr : ∀ k : Nat, k < L.length → A2 (s + 30) k = A1 (A1 (s + 29) ((L.getD k pD).2.1 : Nat) + 8) ((L.getD k pD).2.2 : Nat) ∧ A3 (A2 (s + 30) k) 5 = ((L.getD k pD).2.1 : Nat) := fun k hk => by
    obtain ⟨g1, g2, g3, g4, g5⟩ := gS_at h hap hS hp hE hP hU (by omega) ho hk
    refine ⟨(h.2.2.2 k hk).1, ?_⟩
    have hne : A2 (s + 30) k ≠ v1 := fun z => by
      rw [z] at g3
      exact hnd k hk (bN_inj g3.2.2.2.2.2.2.1 hvP.2.2.2.2.2.2.1)
    rw [t1 _ (by omega) (by omega) hne]
    exact (h.2.2.2 k hk).2
  refine ⟨fun j hj2 => (t2 j hj2).trans (h.1 j hj2), by rw [insP_len]; exact t3, fun a h1 h2 => ?_, fun k hk => ?_⟩
  · by_cases q : a = v1
    · subst q
      refine Or.inr ⟨hv0.1, hv0.2, hvC, fun j hj2 => ?_⟩
      rw [t4 j hj2]
      rcases h.2.2.1 a h1 h2 with r | r
      · exact congrFun r j
      · exact r.2.2.2 j hj2
    · rw [t1 a h1 h2 q]
      exact h.2.2.1 a h1 h2
  · rw [insP_len] at hk
    rw [insP_get, t6 k hk]
    by_cases c1 : k < jp (fun k => decide (vA ap S c i < (L.getD k pD).1)) L.length
    · rw [if_pos c1, if_pos c1]
      exact hr k (by omega)
    · rw [if_neg c1, if_neg c1]
      by_cases c2 : k = jp (fun k => decide (vA ap S c i < (L.getD k pD).1)) L.length
      · rw [if_pos c2, if_pos c2]
        exact ⟨hv, t5⟩
      · rw [if_neg c2, if_neg c2]
        exact hr (k - 1) (by omega)

set_option maxRecDepth 20000 in
set_option maxHeartbeats 4000000 in
theorem s_fillB {d : Nat} {G : zG} {A : Int → Int → Int} {P : Option zV → zG → Prop} {s E0 : Int} (hK : sK G s) {ap : Nat} (hF : sF A s ap) (hap : ap = 1 ∨ ap = 2) (hE : s + 46 ≤ E0 ∧ E0 ≤ (gz G : Int)) (hP : kP G A s E0 ap) {S : Nat} (hS7 : S < 128) (hp5 : pop S ≤ 5) (h10 : A s 10 = (bnd S : Int)) (h11 : A s 11 = ((csA ap S).length : Int)) (h12 : A s 12 = 0) (hU : uR G A s E0 ap S) (k : ∀ B, gS G A B s E0 ap S (prL ap S) → P (some (2, s)) (gw G B)) : ZE (d + 6) M_Sea_fill (gw G A) 66 [(2, s), (0, (S : Int)), (0, ((128 : Nat) : Int)), (9, 0)] [] P := by
  have hs0 := hK.2.1
  have hzE := hE.2
  have hb9 := bnd_le S hS7
  have hnd := prL_nd hap hS7 hp5
  have hN32 := csA_32 hap hS7 hp5
  refine ZE.iconst (n := 0) d_Sea_fill_66 ?_
  refine ZE.istore_n (ls2 := [(2, s), (0, (S : Int)), (0, 0), (9, 0)]) d_Sea_fill_67 (Nat.le_of_ble_eq_true rfl) rfl ?_
  have L68 : ∀ (tt0 : Nat) (c : Nat) (A1 : Int → Int → Int) (hc : c ≤ (csA ap S).length) (hS1 : gS G A A1 s E0 ap S (prA ap S c)), (csA ap S).length + 1 - c < tt0 → ZE (d + 6) M_Sea_fill (gw G A1) 68 [(2, s), (0, (S : Int)), (0, (c : Int)), (9, 0)] [] P := by
    intro tt0
    induction tt0 with
    | zero => intro c A1 hc hS1 hm; exact absurd hm (Nat.not_lt_zero _)
    | succ tt0 ih =>
      intro c A1 hc hS1 hm
      have h1s : ∀ i : Int, i ≠ 12 → A1 s i = A s i := hS1.1
      refine ZE.iload_n d_Sea_fill_68 rfl ?_
      refine ZE.aload_n d_Sea_fill_69 rfl ?_
      refine ZE.getE (v := ((csA ap S).length : Int)) d_Sea_fill_70 f_Sea_79 (tg := 0) rfl hK.1 ((h1s 11 (by omega)).trans h11) ?_
      refine ZE.icmp_ge (tgt := 113) d_Sea_fill_73 rfl (by unfold zR; omega) (by unfold zR; omega) (fun c73 => ?_) (fun c73 => ?_)
      · refine ZE.aload_n d_Sea_fill_113 rfl ?_
        refine ZE.aret d_Sea_fill_114 ⟨_, rfl⟩ ?_
        have hcN : c = (csA ap S).length := by omega
        subst hcN
        exact k A1 hS1
      · have hcN : c < (csA ap S).length := by omega
        have hu := hP.un hcN (hU c hcN)
        have hndc := prA_nd _ hnd (c + 1) hcN
        refine ZE.iconst (n := 1) d_Sea_fill_76 ?_
        refine ZE.istore_n (ls2 := [(2, s), (0, (S : Int)), (0, (c : Int)), (0, 1)]) d_Sea_fill_77 (Nat.le_of_ble_eq_true rfl) rfl ?_
        have L78 : ∀ (tt0 : Nat) (i : Nat) (A2 : Int → Int → Int) (hi : i ≤ bnd S) (hS2 : gS G A A2 s E0 ap S (fp (gA ap S c) (vA ap S c) c (prA ap S c) i)), bnd S + 1 - i < tt0 → ZE (d + 6) M_Sea_fill (gw G A2) 78 [(2, s), (0, (S : Int)), (0, (c : Int)), (0, ((i + 1 : Nat) : Int))] [] P := by
          intro tt0
          induction tt0 with
          | zero => intro i A2 hi hS2 hm; exact absurd hm (Nat.not_lt_zero _)
          | succ tt0 ih2 =>
            intro i A2 hi hS2 hm
            have h2s : ∀ i : Int, i ≠ 12 → A2 s i = A s i := hS2.1
            have hF2 : sF A2 s ap := hF.ab (fun i hi => h2s i (by omega)) (fun a ha => hS2.lo (by omega) (by omega) (by omega))
            have hu2 : kU G A2 E0 ap (eA ap S c) (A (s + 29) (c : Int)) := hu.saf gR.rf (hS2.saf hE.1)
            have hfs : fp (gA ap S c) (vA ap S c) c (prA ap S c) (i + 1) = if gA ap S c (i + 1) then insP (fp (gA ap S c) (vA ap S c) c (prA ap S c) i) (vA ap S c (i + 1), c, i + 1) else fp (gA ap S c) (vA ap S c) c (prA ap S c) i := rfl
            have hok : alL (okT ap S (c + 1)) (fp (gA ap S c) (vA ap S c) c (prA ap S c) i) := fp_al (fun k hk => (prA_ok c k hk).mono (by omega)) i (fun j h1 h2 h3 => ⟨Nat.lt_succ_self c, h1, Nat.le_trans h2 hi, rfl, h3⟩)
            refine ZE.iload_n d_Sea_fill_78 rfl ?_
            refine ZE.aload_n d_Sea_fill_79 rfl ?_
            refine ZE.getE (v := (bnd S : Int)) d_Sea_fill_80 f_Sea_76 (tg := 0) rfl hK.1 ((h2s 10 (by omega)).trans h10) ?_
            refine ZE.icmp_gt (tgt := 107) d_Sea_fill_83 rfl (by unfold zR; omega) (by unfold zR; omega) (fun c83 => ?_) (fun c83 => ?_)
            · refine ZE.iinc (ls2 := [(2, s), (0, (S : Int)), (0, (c : Int) + 1), (0, ((i + 1 : Nat) : Int))]) d_Sea_fill_107 rfl rfl ?_
              refine ZE.goto (tgt := 68) d_Sea_fill_110 rfl ?_
              refine ZE.mask [true, true, true, false] ?_
              show ZE (d + 6) M_Sea_fill (gw G A2) 68 [(2, s), (0, (S : Int)), (0, (c : Int) + 1), (9, 0)] [] _
              rw [show (c : Int) + 1 = ((c + 1 : Nat) : Int) by omega]
              have hib : i = bnd S := by omega
              subst hib
              exact ih (c + 1) A2 (by omega) hS2 (by omega)
            · refine ZE.aload_n d_Sea_fill_86 rfl ?_
              refine ZE.aload_n d_Sea_fill_87 rfl ?_
              refine ZE.iload_n d_Sea_fill_88 rfl ?_
              refine ZE.cV [(0, (c : Int))] [(2, s)] [(2, s), (0, (c : Int)), (9, 0)] d_Sea_fill_89 l_Sea_97 rfl rfl rfl rfl rfl rfl hK.1 ?_
              refine s_unitAt (d := d + 5) hK hF2 ((h2s 11 (by omega)).trans h11) hN32 (k1 := c) hcN (v1 := A (s + 29) (c : Int)) (congrFun (hS2.lo (by omega) (by omega) (by omega)) _) (by have := hu.1; omega) ?_
              show ZE (d + 6) M_Sea_fill (gw G A2) 92 [(2, s), (0, (S : Int)), (0, (c : Int)), (0, ((i + 1 : Nat) : Int))] [(2, A (s + 29) (c : Int)), (2, s)] _
              refine ZE.iload_n d_Sea_fill_92 rfl ?_
              refine ZE.iload_n d_Sea_fill_93 rfl ?_
              refine ZE.cV [(0, ((i + 1 : Nat) : Int)), (0, (S : Int))] [(2, s)] [(2, A (s + 29) (c : Int)), (0, ((i + 1 : Nat) : Int)), (0, (S : Int)), (9, 0)] d_Sea_fill_94 l_Sea_100 rfl rfl rfl rfl rfl rfl hu.2.2.1.1 ?_
              refine u_coupleFor (d := d + 5) hu2.2.2.1 hu2.2.2.2.1 hu2.2.2.2.2 hS7 (i0 := i + 1) (by omega) ?_
              show ZE (d + 6) M_Sea_fill (gw G A2) 97 [(2, s), (0, (S : Int)), (0, (c : Int)), (0, ((i + 1 : Nat) : Int))] [(2, (if csB (DD ap (eA ap S c)) ap S (i + 1) = true then A2 (A (s + 29) (c : Int) + 8) ((i + 1 : Nat) : Int) else -1)), (2, s)] _
              by_cases hg : gA ap S c (i + 1) = true
              · have hcp := hu.cp hap hS7 hp5 hcN ⟨by omega, by omega⟩ hg
                have hu0 := hu.1
                have hl2 : (fp (gA ap S c) (vA ap S c) c (prA ap S c) (i + 1)).length ≤ 64 := Nat.le_trans (fp_mono (bnd S) (i + 1) (by omega)) hndc.2
                have hn2 := fp_ndI (bnd S) hndc.1 (i + 1) (by omega)
                rw [hfs, if_pos hg] at hl2 hn2
                rw [insP_len] at hl2
                have hndk := hn2.ins.2
                have hcP2 : cP G A2 (A (A (s + 29) (c : Int) + 8) ((i + 1 : Nat) : Int)) (vA ap S c (i + 1)) (i + 1) ap := hcp.2.2.1.saf gR.rf (hS2.saf hE.1) (by omega) hcp.2.1
                rw [show (if csB (DD ap (eA ap S c)) ap S (i + 1) = true then A2 (A (s + 29) (c : Int) + 8) ((i + 1 : Nat) : Int) else -1) = A (A (s + 29) (c : Int) + 8) ((i + 1 : Nat) : Int) from by rw [if_pos (show csB (DD ap (eA ap S c)) ap S (i + 1) = true from hg)]; exact congrFun ((hS2.saf hE.1).row (by omega) (by have := hu.2.1; omega) (hu.2.2.1.ne11 (by omega) (by omega))) _]
                refine ZE.iload_n d_Sea_fill_97 rfl ?_
                refine ZE.cV [(2, A (A (s + 29) (c : Int) + 8) ((i + 1 : Nat) : Int)), (0, (c : Int))] [] [(2, s), (2, A (A (s + 29) (c : Int) + 8) ((i + 1 : Nat) : Int)), (0, (c : Int)), (9, 0)] d_Sea_fill_98 l_Sea_104 rfl rfl rfl rfl rfl rfl hK.1 ?_
                refine s_enterCouple (d := d + 3) hK hF2 (n := (fp (gA ap S c) (vA ap S c) c (prA ap S c) i).length) hS2.2.1 (by omega) (v1 := A (A (s + 29) (c : Int) + 8) ((i + 1 : Nat) : Int)) (by omega) hcP2 (f1 := (c : Int)) (wL := fun k => ((fp (gA ap S c) (vA ap S c) c (prA ap S c) i).getD k pD).1) (iL := fun k => ((fp (gA ap S c) (vA ap S c) c (prA ap S c) i).getD k pD).2.2) (ap2 := ap) (fun k hk => by have g := gS_at hS2 hap hS7 hp5 hE.1 hP hU (by omega) hok hk; exact ⟨by have := g.1; omega, g.2.2.2.1⟩) (fun A3 t1 t2 t3 t4 t5 t6 => ?_)
                show ZE (d + 6) M_Sea_fill (gw G A3) 101 [(2, s), (0, (S : Int)), (0, (c : Int)), (0, ((i + 1 : Nat) : Int))] [] _
                refine ZE.iinc (ls2 := [(2, s), (0, (S : Int)), (0, (c : Int)), (0, ((i + 1 : Nat) : Int) + 1)]) d_Sea_fill_101 rfl rfl ?_
                refine ZE.goto (tgt := 78) d_Sea_fill_104 rfl ?_
                rw [show ((i + 1 : Nat) : Int) + 1 = ((i + 1 + 1 : Nat) : Int) by omega]
                exact ih2 (i + 1) A3 (by omega) (by rw [hfs, if_pos hg]; exact gS_next hS2 hap hS7 hp5 hs0 hE.1 hP hU hcN hok (by omega) rfl ⟨by omega, hcp.2.1⟩ hcp.2.2.1 hcp.2.2.2 hndk t1 t2 t3 t4 t5 t6) (by omega)
              · rw [show (if csB (DD ap (eA ap S c)) ap S (i + 1) = true then A2 (A (s + 29) (c : Int) + 8) ((i + 1 : Nat) : Int) else -1) = -1 from if_neg (show ¬ csB (DD ap (eA ap S c)) ap S (i + 1) = true from hg)]
                refine ZE.iload_n d_Sea_fill_97 rfl ?_
                refine ZE.cV [(2, (-1)), (0, (c : Int))] [] [(2, s), (2, (-1)), (0, (c : Int)), (9, 0)] d_Sea_fill_98 l_Sea_104 rfl rfl rfl rfl rfl rfl hK.1 ?_
                refine s_enterNone hK hS2.2.1 ?_
                show ZE (d + 6) M_Sea_fill (gw G A2) 101 [(2, s), (0, (S : Int)), (0, (c : Int)), (0, ((i + 1 : Nat) : Int))] [] _
                refine ZE.iinc (ls2 := [(2, s), (0, (S : Int)), (0, (c : Int)), (0, ((i + 1 : Nat) : Int) + 1)]) d_Sea_fill_101 rfl rfl ?_
                refine ZE.goto (tgt := 78) d_Sea_fill_104 rfl ?_
                rw [show ((i + 1 : Nat) : Int) + 1 = ((i + 1 + 1 : Nat) : Int) by omega]
                exact ih2 (i + 1) A2 (by omega) (by rw [hfs, if_neg hg]; exact hS2) (by omega)
        exact L78 _ 0 A1 (Nat.zero_le _) hS1 (Nat.lt_succ_self _)
  exact L68 _ 0 A (Nat.zero_le _) (gS_0 h12) (Nat.lt_succ_self _)
theorem sF.gs {G : zG} {A1 A2 : Int → Int → Int} {s E0 : Int} {ap S : Nat} {L : List pT} (h : sF A1 s ap) (g : gS G A1 A2 s E0 ap S L) (hE : s + 46 ≤ E0) : sF A2 s ap := h.ab (fun i hi => g.1 i (by omega)) (fun a ha => g.lo (by omega) (by omega) (by omega))
/-- what filling a search changes below gz G -/
def flF2 (G : zG) (A : Int → Int → Int) (G2 : zG) (B : Int → Int → Int) (s E0 : Int) (ap : Nat) : Prop := (∀ a : Int, a < (gz G : Int) → ¬ (s ≤ a ∧ a ≤ s + 45) → B a = A a ∨ (E0 ≤ a ∧ isC G2 B a ap ∧ ∀ i : Int, i ≠ 5 → B a i = A a i)) ∧ (∀ q : Nat, A (s + 28) q ≠ -1 → B (s + 28) q = A (s + 28) q)
theorem flF2.rf {G G2 : zG} {A : Int → Int → Int} {s E0 : Int} {ap : Nat} : flF2 G A G2 A s E0 ap := ⟨fun _ _ _ => Or.inl rfl, fun _ _ => rfl⟩
theorem s_fillN {d : Nat} {G : zG} {A : Int → Int → Int} {P : Option zV → zG → Prop} {s E0 : Int} (hK : sK G s) {ap : Nat} (hF : sF A s ap) (hL : lG G A) (hgl : gl G < s) (hap : ap = 1 ∨ ap = 2) (hE : s + 46 ≤ E0 ∧ E0 ≤ (gz G : Int)) (hP : kP G A s E0 ap) {S : Nat} (hS7 : S < 128) (hp5 : pop S ≤ 5) (k : ∀ G2 A2 (n m : Nat), kP G2 A2 s E0 ap → sF A2 s ap → nSe A2 s ap S → flF2 G A G2 A2 s E0 ap → gR G G2 n m → n + 54 * unk A2 s ≤ 54 * unk A s → m + 556 * unk A2 s ≤ 556 * unk A s → P (some (2, s)) (gw G2 A2)) : ZE (d + 6) M_Sea_fill (gw G A) 10 [(2, s), (0, (S : Int)), (9, 0), (9, 0)] [] P := by
  have hs0 := hK.2.1
  refine s_fillA hK hF hL hgl hap hE hP hS7 hp5 (fun G1 A1 hS1 => ?_)
  obtain ⟨⟨n1, m1, hg1, hn1, hm1⟩, hF1, hP1, ⟨h9, h10, h11, h12⟩, h5, h6, h7⟩ := hS1
  have hz1 := hg1.1
  have hK1 := hK.gr hg1 (by omega)
  refine s_fillB hK1 hF1 hap ⟨hE.1, by omega⟩ hP1 hS7 hp5 h10 h11 h12 h5 (fun B hB => ?_)
  have hsf := hB.saf hE.1
  have e28 : B (s + 28) = A1 (s + 28) := hB.lo (by omega) (by omega) (by omega)
  have e29 : B (s + 29) = A1 (s + 29) := hB.lo (by omega) (by omega) (by omega)
  have hu := unk_congr e28
  refine k G1 B n1 m1 (hP1.saf gR.rf hsf e28) (hF1.gs hB hE.1) ⟨⟨(hB.1 9 (by omega)).trans h9, (hB.1 10 (by omega)).trans h10, (hB.1 11 (by omega)).trans h11, hB.2.1⟩, fun c hc => ?_, fun q hq => ?_⟩ ⟨fun a h1 h2 => ?_, fun q hq => ?_⟩ hg1 (by omega) (by omega)
  · rw [e28, e29]
    exact h5 c hc
  · have hb9 := bnd_le S hS7
    have ht : okT ap S (csA ap S).length ((prL ap S).getD q pD) := prA_ok (ap := ap) (S := S) _ q hq
    have hu3 := hP1.un ht.1 (h5 _ ht.1)
    have hr := hsf.row (a := A1 (s + 29) (((prL ap S).getD q pD).2.1 : Nat) + 8) (by have := hu3.1; omega) (by have := hu3.2.1; omega) (hu3.2.2.1.ne11 (by omega) (by omega))
    rw [e29, hr]
    exact hB.2.2.2 q hq
  · rcases hB.2.2.1 a (by omega) (by omega) with r | r
    · exact Or.inl (r.trans (h6 a h1 h2))
    · exact Or.inr ⟨r.1, r.2.2.1.saf gR.rf hsf r.1 r.2.1, fun i hi => (r.2.2.2 i hi).trans (congrFun (h6 a h1 h2) i)⟩
  · rw [e28]
    exact h7 q hq
set_option maxRecDepth 20000 in
set_option maxHeartbeats 4000000 in
theorem s_fill {d : Nat} {G : zG} {A : Int → Int → Int} {P : Option zV → zG → Prop} {s E0 : Int} (hK : sK G s) {ap : Nat} (hF : sF A s ap) (hL : lG G A) (hgl : gl G < s) (hap : ap = 1 ∨ ap = 2) (hE : s + 46 ≤ E0 ∧ E0 ≤ (gz G : Int)) (hP : kP G A s E0 ap) {S : Nat} (hS7 : S < 128) (hp5 : pop S ≤ 5) {b0 : Int} (hb0 : A s 9 = b0) (hbR : zR b0) (hN : b0 = (S : Int) → nSe A s ap S) (k : ∀ G2 A2 (n m : Nat), kP G2 A2 s E0 ap → sF A2 s ap → nSe A2 s ap S → flF2 G A G2 A2 s E0 ap → gR G G2 n m → n + 54 * unk A2 s ≤ 54 * unk A s → m + 556 * unk A2 s ≤ 556 * unk A s → P (some (2, s)) (gw G2 A2)) : ZE (d + 6) M_Sea_fill (gw G A) 0 [(2, s), (0, (S : Int)), (9, 0), (9, 0)] [] P := by
  refine ZE.aload_n d_Sea_fill_0 rfl ?_
  refine ZE.getE (v := b0) d_Sea_fill_1 f_Sea_56 (tg := 0) rfl hK.1 hb0 ?_
  refine ZE.iload_n d_Sea_fill_4 rfl ?_
  refine ZE.icmp_ne (tgt := 10) d_Sea_fill_5 rfl hbR (by unfold zR; omega) (fun c5 => ?_) (fun c5 => ?_)
  · exact s_fillN hK hF hL hgl hap hE hP hS7 hp5 k
  · refine ZE.aload_n d_Sea_fill_8 rfl ?_
    refine ZE.aret d_Sea_fill_9 ⟨_, rfl⟩ ?_
    exact k G A 0 0 hP hF (hN (by omega)) flF2.rf gR.rf (by omega) (by omega)
