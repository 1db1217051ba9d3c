/-- place k of three rows holds t -/
def rowT (A : Int → Int → Int) (r1 r2 r3 : Int) (k : Int) (t : pT) : Prop := A r1 k = t.1 ∧ A r2 k = t.2.1 ∧ A r3 k = t.2.2
def r3F (r1 r2 r3 : Int) (A A' : Int → Int → Int) : Prop := (∀ b : Int, b ≠ r1 → b ≠ r2 → b ≠ r3 → A' b = A b) ∧ True
theorem r3F.rf {r1 r2 r3 : Int} {A : Int → Int → Int} : r3F r1 r2 r3 A A := ⟨fun _ _ _ _ => rfl, trivial⟩
theorem r3F.up {r1 r2 r3 r i v : Int} {A B : Int → Int → Int} (h : r3F r1 r2 r3 A B) (hr : r = r1 ∨ r = r2 ∨ r = r3) : r3F r1 r2 r3 A (up2 B r i v) := ⟨fun b h1 h2 h3 => by rw [up2_A, upA_ne _ _ (by rcases hr with rfl | rfl | rfl <;> assumption)]; exact h.1 b h1 h2 h3, trivial⟩
theorem RF.r3 {A A' : Int → Int → Int} {o r1 r2 r3 : Int} (h : RF A o) (g : r3F r1 r2 r3 A A') (h1 : o + 2 ≤ r1) (h2 : o + 2 ≤ r2) (h3 : o + 2 ≤ r3) : RF A' o := by
  unfold RF
  rw [g.1 o (by omega) (by omega) (by omega), g.1 (o + 1) (by omega) (by omega) (by omega)]
  exact h
set_option maxRecDepth 20000 in
set_option maxHeartbeats 4000000 in
theorem r_comePair {d : Nat} {G : zG} {A : Int → Int → Int} {P : Option zV → zG → Prop} {o : Int} (hK : RK G o) (hF : RF A o) {L : List pT} (hn : A o 15 = (L.length : Int)) (hln : L.length ≤ 287) (hL : ∀ k : Nat, k < L.length → rowT A (o + 7) (o + 8) (o + 9) k (L.getD k pD)) (hbd : ∀ k : Nat, k < L.length → (L.getD k pD).1 < 2147483648) {x1 : pT} (hx : x1.1 < 2147483648) (k : ∀ A2, (∀ k : Nat, k < (insP L x1).length → rowT A2 (o + 7) (o + 8) (o + 9) k ((insP L x1).getD k pD)) → A2 o 15 = ((insP L x1).length : Int) → (∀ b : Int, b ≠ o → b ≠ o + 7 → b ≠ o + 8 → b ≠ o + 9 → A2 b = A b) → (∀ i : Int, i ≠ 15 → A2 o i = A o i) → P none (gw G A2)) : ZE d M_Ref_comePair (gw G A) 0 [(2, o), (0, (x1.1 : Int)), (0, (x1.2.1 : Int)), (0, (x1.2.2 : Int)), (9, 0)] [] P := by
  refine ZE.aload_n d_Ref_comePair_0 rfl ?_
  refine ZE.getE (v := (L.length : Int)) d_Ref_comePair_1 f_Ref_167 (tg := 0) rfl hK.1 hn ?_
  refine ZE.istore (ls2 := [(2, o), (0, (x1.1 : Int)), (0, (x1.2.1 : Int)), (0, (x1.2.2 : Int)), (0, (L.length : Int))]) d_Ref_comePair_4 (Nat.le_of_ble_eq_true rfl) rfl ?_
  have L6 : ∀ (t : Nat) (j : Nat) (A1 : Int → Int → Int) (hj : j ≤ L.length) (hjp : jp (fun k => decide (x1.1 < (L.getD k pD).1)) j = jp (fun k => decide (x1.1 < (L.getD k pD).1)) L.length) (hlo : ∀ k : Nat, k < j → rowT A1 (o + 7) (o + 8) (o + 9) k (L.getD k pD)) (hhi : ∀ k : Nat, j < k → k ≤ L.length → rowT A1 (o + 7) (o + 8) (o + 9) k (L.getD (k - 1) pD)) (g1 : r3F (o + 7) (o + 8) (o + 9) A A1), j < t → ZE d M_Ref_comePair (gw G A1) 6 [(2, o), (0, (x1.1 : Int)), (0, (x1.2.1 : Int)), (0, (x1.2.2 : Int)), (0, (j : Int))] [] P := by
    intro t
    induction t with
    | zero => intro j A1 hj hjp hlo hhi g1 hm; exact absurd hm (Nat.not_lt_zero _)
    | succ t ih =>
      intro j A1 hj hjp hlo hhi g1 hm
      have hA1 : RF A1 o := hF.r3 g1 (by omega) (by omega) (by omega)
      rcases Nat.eq_zero_or_pos j with hj0 | hj0
      · have hfin : jp (fun k => decide (x1.1 < (L.getD k pD).1)) L.length = j := by rw [← hjp, hj0]; rfl
        refine ZE.iload d_Ref_comePair_6 rfl ?_
        refine ZE.if_le (tgt := 78) d_Ref_comePair_8 rfl (by unfold zR; omega) (fun c8 => ?_) (fun c8 => ?_)
        · refine ZE.aload_n d_Ref_comePair_78 rfl ?_
          refine ZE.getE (v := o + 7) d_Ref_comePair_79 f_Ref_28 (tg := 2) rfl hK.1 hA1.a12 ?_
          refine ZE.iload d_Ref_comePair_82 rfl ?_
          refine ZE.iload_n d_Ref_comePair_84 rfl ?_
          refine ZE.iast d_Ref_comePair_85 hK.k7 (by have hn0 := hK.n7; show 0 ≤ (j : Int) ∧ (j : Int) < gn G (o + 7); omega) ?_
          show ZE d M_Ref_comePair (gw G (up2 A1 (o + 7) (j : Int) (x1.1 : Int))) 86 [(2, o), (0, (x1.1 : Int)), (0, (x1.2.1 : Int)), (0, (x1.2.2 : Int)), (0, (j : Int))] [] _
          refine ZE.aload_n d_Ref_comePair_86 rfl ?_
          refine ZE.getE (v := o + 8) d_Ref_comePair_87 f_Ref_31 (tg := 2) rfl hK.1 (hA1.u2 (by omega)).a13 ?_
          refine ZE.iload d_Ref_comePair_90 rfl ?_
          refine ZE.iload_n d_Ref_comePair_92 rfl ?_
          refine ZE.iast d_Ref_comePair_93 hK.k8 (by have hn0 := hK.n8; show 0 ≤ (j : Int) ∧ (j : Int) < gn G (o + 8); omega) ?_
          show ZE d M_Ref_comePair (gw G (up2 (up2 A1 (o + 7) (j : Int) (x1.1 : Int)) (o + 8) (j : Int) (x1.2.1 : Int))) 94 [(2, o), (0, (x1.1 : Int)), (0, (x1.2.1 : Int)), (0, (x1.2.2 : Int)), (0, (j : Int))] [] _
          refine ZE.aload_n d_Ref_comePair_94 rfl ?_
          refine ZE.getE (v := o + 9) d_Ref_comePair_95 f_Ref_34 (tg := 2) rfl hK.1 ((hA1.u2 (by omega)).u2 (by omega)).a14 ?_
          refine ZE.iload d_Ref_comePair_98 rfl ?_
          refine ZE.iload_n d_Ref_comePair_100 rfl ?_
          refine ZE.iast d_Ref_comePair_101 hK.k9 (by have hn0 := hK.n9; show 0 ≤ (j : Int) ∧ (j : Int) < gn G (o + 9); omega) ?_
          show ZE d M_Ref_comePair (gw G (up2 (up2 (up2 A1 (o + 7) (j : Int) (x1.1 : Int)) (o + 8) (j : Int) (x1.2.1 : Int)) (o + 9) (j : Int) (x1.2.2 : Int))) 102 [(2, o), (0, (x1.1 : Int)), (0, (x1.2.1 : Int)), (0, (x1.2.2 : Int)), (0, (j : Int))] [] _
          refine ZE.aload_n d_Ref_comePair_102 rfl ?_
          refine ZE.dup d_Ref_comePair_103 (Or.inr rfl) ?_
          refine ZE.getE (v := (L.length : Int)) d_Ref_comePair_104 f_Ref_167 (tg := 0) rfl hK.1 (by rw [gw_at, up2_ne _ _ (by omega), up2_ne _ _ (by omega), up2_ne _ _ (by omega), g1.1 _ (by omega) (by omega) (by omega)]; exact hn) ?_
          refine ZE.iconst (n := 1) d_Ref_comePair_107 ?_
          refine ZE.iadd d_Ref_comePair_108 ?_
          refine ZE.put d_Ref_comePair_109 f_Ref_167 (tg := 0) rfl trivial (Or.inl ⟨_, _, _, rfl, rfl, rfl⟩) hK.1 ?_
          show ZE d M_Ref_comePair (gw G (up2 (up2 (up2 (up2 A1 (o + 7) (j : Int) (x1.1 : Int)) (o + 8) (j : Int) (x1.2.1 : Int)) (o + 9) (j : Int) (x1.2.2 : Int)) o 15 ((L.length : Int) + 1))) 112 [(2, o), (0, (x1.1 : Int)), (0, (x1.2.1 : Int)), (0, (x1.2.2 : Int)), (0, (j : Int))] [] _
          refine ZE.vret d_Ref_comePair_112 rfl ?_
          have hnum : ∀ k2 : Nat, k2 < (insP L x1).length → rowT (up2 (up2 (up2 (up2 A1 (o + 7) (j : Int) (x1.1 : Int)) (o + 8) (j : Int) (x1.2.1 : Int)) (o + 9) (j : Int) (x1.2.2 : Int)) o 15 ((L.length : Int) + 1)) (o + 7) (o + 8) (o + 9) k2 ((insP L x1).getD k2 pD) := by
            intro k2 hk2
            rw [insP_len] at hk2
            rw [insP_get, hfin]
            by_cases c1 : k2 < j
            · rw [if_pos c1]
              have h0 := hlo k2 c1
              refine ⟨?_, ?_, ?_⟩
              · rw [up2_ne _ _ (by omega), up2_ne _ _ (by omega), up2_ne _ _ (by omega), up2_ne _ _ (by omega)]; exact h0.1
              · rw [up2_ne _ _ (by omega), up2_ne _ _ (by omega), up2_ne _ _ (by omega), up2_ne _ _ (by omega)]; exact h0.2.1
              · rw [up2_ne _ _ (by omega), up2_ne _ _ (by omega), up2_ne _ _ (by omega), up2_ne _ _ (by omega)]; exact h0.2.2
            · rw [if_neg c1]
              by_cases c2 : k2 = j
              · rw [if_pos c2, c2]
                refine ⟨?_, ?_, ?_⟩
                · rw [up2_ne _ _ (by omega), up2_ne _ _ (by omega), up2_ne _ _ (by omega)]; exact up2_at _ _ _ _
                · rw [up2_ne _ _ (by omega), up2_ne _ _ (by omega)]; exact up2_at _ _ _ _
                · rw [up2_ne _ _ (by omega)]; exact up2_at _ _ _ _
              · rw [if_neg c2]
                have h0 := hhi k2 (by omega) (by omega)
                refine ⟨?_, ?_, ?_⟩
                · rw [up2_ne _ _ (by omega), up2_ne _ _ (by omega), up2_ne _ _ (by omega), up2_ne _ _ (by omega)]; exact h0.1
                · rw [up2_ne _ _ (by omega), up2_ne _ _ (by omega), up2_ne _ _ (by omega), up2_ne _ _ (by omega)]; exact h0.2.1
                · rw [up2_ne _ _ (by omega), up2_ne _ _ (by omega), up2_ne _ _ (by omega), up2_ne _ _ (by omega)]; exact h0.2.2
          refine k _ hnum ?_ ?_ ?_
          · rw [up2_at, insP_len]; rfl
          · intro b h1 h2 h3 h4; have e := (((g1.up (i := (j : Int)) (v := (x1.1 : Int)) (Or.inl rfl)).up (i := (j : Int)) (v := (x1.2.1 : Int)) (Or.inr (Or.inl rfl))).up (i := (j : Int)) (v := (x1.2.2 : Int)) (Or.inr (Or.inr rfl))).1 b h2 h3 h4; rw [up2_A, upA_ne _ _ h1]; exact e
          · intro i2 hi2; rw [up2_ne _ _ (by omega)]; have e := (((g1.up (i := (j : Int)) (v := (x1.1 : Int)) (Or.inl rfl)).up (i := (j : Int)) (v := (x1.2.1 : Int)) (Or.inr (Or.inl rfl))).up (i := (j : Int)) (v := (x1.2.2 : Int)) (Or.inr (Or.inr rfl))).1 o (by omega) (by omega) (by omega); rw [e]
        · exact absurd c8 (by omega)
      · obtain ⟨i, rfl⟩ : ∃ i, j = i + 1 := ⟨j - 1, by omega⟩
        have hv := hlo i (by omega)
        have hb := hbd i (by omega)
        refine ZE.iload d_Ref_comePair_6 rfl ?_
        refine ZE.if_le (tgt := 78) d_Ref_comePair_8 rfl (by unfold zR; omega) (fun c8 => ?_) (fun c8 => ?_)
        · exact absurd c8 (by omega)
        · refine ZE.aload_n d_Ref_comePair_11 rfl ?_
          refine ZE.getE (v := o + 7) d_Ref_comePair_12 f_Ref_28 (tg := 2) rfl hK.1 hA1.a12 ?_
          refine ZE.iload d_Ref_comePair_15 rfl ?_
          refine ZE.iconst (n := 1) d_Ref_comePair_17 ?_
          refine ZE.isub d_Ref_comePair_18 ?_
          rw [show (((i + 1 : Nat) : Int) - 1 : Int) = (i : Int) from (by omega)]
          refine ZE.ialdE (v := ((L.getD i pD).1 : Int)) d_Ref_comePair_19 hK.k7 (by have hn0 := hK.n7; show 0 ≤ (i : Int) ∧ (i : Int) < gn G (o + 7); omega) hv.1 ?_
          refine ZE.iload_n d_Ref_comePair_20 rfl ?_
          refine ZE.icmp_le (tgt := 78) d_Ref_comePair_21 rfl (by unfold zR; omega) (by unfold zR; omega) (fun c21 => ?_) (fun c21 => ?_)
          · have hfin : jp (fun k => decide (x1.1 < (L.getD k pD).1)) L.length = i + 1 := by rw [← hjp]; exact jp_f (decide_eq_false (by omega))
            refine ZE.aload_n d_Ref_comePair_78 rfl ?_
            refine ZE.getE (v := o + 7) d_Ref_comePair_79 f_Ref_28 (tg := 2) rfl hK.1 hA1.a12 ?_
            refine ZE.iload d_Ref_comePair_82 rfl ?_
            refine ZE.iload_n d_Ref_comePair_84 rfl ?_
            refine ZE.iast d_Ref_comePair_85 hK.k7 (by have hn0 := hK.n7; show 0 ≤ ((i + 1 : Nat) : Int) ∧ ((i + 1 : Nat) : Int) < gn G (o + 7); omega) ?_
            show ZE d M_Ref_comePair (gw G (up2 A1 (o + 7) ((i + 1 : Nat) : Int) (x1.1 : Int))) 86 [(2, o), (0, (x1.1 : Int)), (0, (x1.2.1 : Int)), (0, (x1.2.2 : Int)), (0, ((i + 1 : Nat) : Int))] [] _
            refine ZE.aload_n d_Ref_comePair_86 rfl ?_
            refine ZE.getE (v := o + 8) d_Ref_comePair_87 f_Ref_31 (tg := 2) rfl hK.1 (hA1.u2 (by omega)).a13 ?_
            refine ZE.iload d_Ref_comePair_90 rfl ?_
            refine ZE.iload_n d_Ref_comePair_92 rfl ?_
            refine ZE.iast d_Ref_comePair_93 hK.k8 (by have hn0 := hK.n8; show 0 ≤ ((i + 1 : Nat) : Int) ∧ ((i + 1 : Nat) : Int) < gn G (o + 8); omega) ?_
            show ZE d M_Ref_comePair (gw G (up2 (up2 A1 (o + 7) ((i + 1 : Nat) : Int) (x1.1 : Int)) (o + 8) ((i + 1 : Nat) : Int) (x1.2.1 : Int))) 94 [(2, o), (0, (x1.1 : Int)), (0, (x1.2.1 : Int)), (0, (x1.2.2 : Int)), (0, ((i + 1 : Nat) : Int))] [] _
            refine ZE.aload_n d_Ref_comePair_94 rfl ?_
            refine ZE.getE (v := o + 9) d_Ref_comePair_95 f_Ref_34 (tg := 2) rfl hK.1 ((hA1.u2 (by omega)).u2 (by omega)).a14 ?_
            refine ZE.iload d_Ref_comePair_98 rfl ?_
            refine ZE.iload_n d_Ref_comePair_100 rfl ?_
            refine ZE.iast d_Ref_comePair_101 hK.k9 (by have hn0 := hK.n9; show 0 ≤ ((i + 1 : Nat) : Int) ∧ ((i + 1 : Nat) : Int) < gn G (o + 9); omega) ?_
            show ZE d M_Ref_comePair (gw G (up2 (up2 (up2 A1 (o + 7) ((i + 1 : Nat) : Int) (x1.1 : Int)) (o + 8) ((i + 1 : Nat) : Int) (x1.2.1 : Int)) (o + 9) ((i + 1 : Nat) : Int) (x1.2.2 : Int))) 102 [(2, o), (0, (x1.1 : Int)), (0, (x1.2.1 : Int)), (0, (x1.2.2 : Int)), (0, ((i + 1 : Nat) : Int))] [] _
            refine ZE.aload_n d_Ref_comePair_102 rfl ?_
            refine ZE.dup d_Ref_comePair_103 (Or.inr rfl) ?_
            refine ZE.getE (v := (L.length : Int)) d_Ref_comePair_104 f_Ref_167 (tg := 0) rfl hK.1 (by rw [gw_at, up2_ne _ _ (by omega), up2_ne _ _ (by omega), up2_ne _ _ (by omega), g1.1 _ (by omega) (by omega) (by omega)]; exact hn) ?_
            refine ZE.iconst (n := 1) d_Ref_comePair_107 ?_
            refine ZE.iadd d_Ref_comePair_108 ?_
            refine ZE.put d_Ref_comePair_109 f_Ref_167 (tg := 0) rfl trivial (Or.inl ⟨_, _, _, rfl, rfl, rfl⟩) hK.1 ?_
            show ZE d M_Ref_comePair (gw G (up2 (up2 (up2 (up2 A1 (o + 7) ((i + 1 : Nat) : Int) (x1.1 : Int)) (o + 8) ((i + 1 : Nat) : Int) (x1.2.1 : Int)) (o + 9) ((i + 1 : Nat) : Int) (x1.2.2 : Int)) o 15 ((L.length : Int) + 1))) 112 [(2, o), (0, (x1.1 : Int)), (0, (x1.2.1 : Int)), (0, (x1.2.2 : Int)), (0, ((i + 1 : Nat) : Int))] [] _
            refine ZE.vret d_Ref_comePair_112 rfl ?_
            have hnum : ∀ k2 : Nat, k2 < (insP L x1).length → rowT (up2 (up2 (up2 (up2 A1 (o + 7) ((i + 1 : Nat) : Int) (x1.1 : Int)) (o + 8) ((i + 1 : Nat) : Int) (x1.2.1 : Int)) (o + 9) ((i + 1 : Nat) : Int) (x1.2.2 : Int)) o 15 ((L.length : Int) + 1)) (o + 7) (o + 8) (o + 9) k2 ((insP L x1).getD k2 pD) := by
              intro k2 hk2
              rw [insP_len] at hk2
              rw [insP_get, hfin]
              by_cases c1 : k2 < (i + 1)
              · rw [if_pos c1]
                have h0 := hlo k2 c1
                refine ⟨?_, ?_, ?_⟩
                · rw [up2_ne _ _ (by omega), up2_ne _ _ (by omega), up2_ne _ _ (by omega), up2_ne _ _ (by omega)]; exact h0.1
                · rw [up2_ne _ _ (by omega), up2_ne _ _ (by omega), up2_ne _ _ (by omega), up2_ne _ _ (by omega)]; exact h0.2.1
                · rw [up2_ne _ _ (by omega), up2_ne _ _ (by omega), up2_ne _ _ (by omega), up2_ne _ _ (by omega)]; exact h0.2.2
              · rw [if_neg c1]
                by_cases c2 : k2 = (i + 1)
                · rw [if_pos c2, c2]
                  refine ⟨?_, ?_, ?_⟩
                  · rw [up2_ne _ _ (by omega), up2_ne _ _ (by omega), up2_ne _ _ (by omega)]; exact up2_at _ _ _ _
                  · rw [up2_ne _ _ (by omega), up2_ne _ _ (by omega)]; exact up2_at _ _ _ _
                  · rw [up2_ne _ _ (by omega)]; exact up2_at _ _ _ _
                · rw [if_neg c2]
                  have h0 := hhi k2 (by omega) (by omega)
                  refine ⟨?_, ?_, ?_⟩
                  · rw [up2_ne _ _ (by omega), up2_ne _ _ (by omega), up2_ne _ _ (by omega), up2_ne _ _ (by omega)]; exact h0.1
                  · rw [up2_ne _ _ (by omega), up2_ne _ _ (by omega), up2_ne _ _ (by omega), up2_ne _ _ (by omega)]; exact h0.2.1
                  · rw [up2_ne _ _ (by omega), up2_ne _ _ (by omega), up2_ne _ _ (by omega), up2_ne _ _ (by omega)]; exact h0.2.2
            refine k _ hnum ?_ ?_ ?_
            · rw [up2_at, insP_len]; rfl
            · intro b h1 h2 h3 h4; have e := (((g1.up (i := ((i + 1 : Nat) : Int)) (v := (x1.1 : Int)) (Or.inl rfl)).up (i := ((i + 1 : Nat) : Int)) (v := (x1.2.1 : Int)) (Or.inr (Or.inl rfl))).up (i := ((i + 1 : Nat) : Int)) (v := (x1.2.2 : Int)) (Or.inr (Or.inr rfl))).1 b h2 h3 h4; rw [up2_A, upA_ne _ _ h1]; exact e
            · intro i2 hi2; rw [up2_ne _ _ (by omega)]; have e := (((g1.up (i := ((i + 1 : Nat) : Int)) (v := (x1.1 : Int)) (Or.inl rfl)).up (i := ((i + 1 : Nat) : Int)) (v := (x1.2.1 : Int)) (Or.inr (Or.inl rfl))).up (i := ((i + 1 : Nat) : Int)) (v := (x1.2.2 : Int)) (Or.inr (Or.inr rfl))).1 o (by omega) (by omega) (by omega); rw [e]
          · refine ZE.aload_n d_Ref_comePair_24 rfl ?_
            refine ZE.getE (v := o + 7) d_Ref_comePair_25 f_Ref_28 (tg := 2) rfl hK.1 hA1.a12 ?_
            refine ZE.iload d_Ref_comePair_28 rfl ?_
            refine ZE.aload_n d_Ref_comePair_30 rfl ?_
            refine ZE.getE (v := o + 7) d_Ref_comePair_31 f_Ref_28 (tg := 2) rfl hK.1 hA1.a12 ?_
            refine ZE.iload d_Ref_comePair_34 rfl ?_
            refine ZE.iconst (n := 1) d_Ref_comePair_36 ?_
            refine ZE.isub d_Ref_comePair_37 ?_
            rw [show (((i + 1 : Nat) : Int) - 1 : Int) = (i : Int) from (by omega)]
            refine ZE.ialdE (v := A1 (o + 7) (i : Int)) d_Ref_comePair_38 hK.k7 (by have hn0 := hK.n7; show 0 ≤ (i : Int) ∧ (i : Int) < gn G (o + 7); omega) rfl ?_
            refine ZE.iast d_Ref_comePair_39 hK.k7 (by have hn0 := hK.n7; show 0 ≤ ((i + 1 : Nat) : Int) ∧ ((i + 1 : Nat) : Int) < gn G (o + 7); omega) ?_
            show ZE d M_Ref_comePair (gw G (up2 A1 (o + 7) ((i + 1 : Nat) : Int) (A1 (o + 7) (i : Int)))) 40 [(2, o), (0, (x1.1 : Int)), (0, (x1.2.1 : Int)), (0, (x1.2.2 : Int)), (0, ((i + 1 : Nat) : Int))] [] _
            refine ZE.aload_n d_Ref_comePair_40 rfl ?_
            refine ZE.getE (v := o + 8) d_Ref_comePair_41 f_Ref_31 (tg := 2) rfl hK.1 (hA1.u2 (by omega)).a13 ?_
            refine ZE.iload d_Ref_comePair_44 rfl ?_
            refine ZE.aload_n d_Ref_comePair_46 rfl ?_
            refine ZE.getE (v := o + 8) d_Ref_comePair_47 f_Ref_31 (tg := 2) rfl hK.1 (hA1.u2 (by omega)).a13 ?_
            refine ZE.iload d_Ref_comePair_50 rfl ?_
            refine ZE.iconst (n := 1) d_Ref_comePair_52 ?_
            refine ZE.isub d_Ref_comePair_53 ?_
            rw [show (((i + 1 : Nat) : Int) - 1 : Int) = (i : Int) from (by omega)]
            refine ZE.ialdE (v := A1 (o + 8) (i : Int)) d_Ref_comePair_54 hK.k8 (by have hn0 := hK.n8; show 0 ≤ (i : Int) ∧ (i : Int) < gn G (o + 8); omega) ((up2_ne _ _ (by omega)).trans rfl) ?_
            refine ZE.iast d_Ref_comePair_55 hK.k8 (by have hn0 := hK.n8; show 0 ≤ ((i + 1 : Nat) : Int) ∧ ((i + 1 : Nat) : Int) < gn G (o + 8); omega) ?_
            show ZE d M_Ref_comePair (gw G (up2 (up2 A1 (o + 7) ((i + 1 : Nat) : Int) (A1 (o + 7) (i : Int))) (o + 8) ((i + 1 : Nat) : Int) (A1 (o + 8) (i : Int)))) 56 [(2, o), (0, (x1.1 : Int)), (0, (x1.2.1 : Int)), (0, (x1.2.2 : Int)), (0, ((i + 1 : Nat) : Int))] [] _
            refine ZE.aload_n d_Ref_comePair_56 rfl ?_
            refine ZE.getE (v := o + 9) d_Ref_comePair_57 f_Ref_34 (tg := 2) rfl hK.1 ((hA1.u2 (by omega)).u2 (by omega)).a14 ?_
            refine ZE.iload d_Ref_comePair_60 rfl ?_
            refine ZE.aload_n d_Ref_comePair_62 rfl ?_
            refine ZE.getE (v := o + 9) d_Ref_comePair_63 f_Ref_34 (tg := 2) rfl hK.1 ((hA1.u2 (by omega)).u2 (by omega)).a14 ?_
            refine ZE.iload d_Ref_comePair_66 rfl ?_
            refine ZE.iconst (n := 1) d_Ref_comePair_68 ?_
            refine ZE.isub d_Ref_comePair_69 ?_
            rw [show (((i + 1 : Nat) : Int) - 1 : Int) = (i : Int) from (by omega)]
            refine ZE.ialdE (v := A1 (o + 9) (i : Int)) d_Ref_comePair_70 hK.k9 (by have hn0 := hK.n9; show 0 ≤ (i : Int) ∧ (i : Int) < gn G (o + 9); omega) ((up2_ne _ _ (by omega)).trans ((up2_ne _ _ (by omega)).trans rfl)) ?_
            refine ZE.iast d_Ref_comePair_71 hK.k9 (by have hn0 := hK.n9; show 0 ≤ ((i + 1 : Nat) : Int) ∧ ((i + 1 : Nat) : Int) < gn G (o + 9); omega) ?_
            show ZE d M_Ref_comePair (gw G (up2 (up2 (up2 A1 (o + 7) ((i + 1 : Nat) : Int) (A1 (o + 7) (i : Int))) (o + 8) ((i + 1 : Nat) : Int) (A1 (o + 8) (i : Int))) (o + 9) ((i + 1 : Nat) : Int) (A1 (o + 9) (i : Int)))) 72 [(2, o), (0, (x1.1 : Int)), (0, (x1.2.1 : Int)), (0, (x1.2.2 : Int)), (0, ((i + 1 : Nat) : Int))] [] _
            refine ZE.iinc (ls2 := [(2, o), (0, (x1.1 : Int)), (0, (x1.2.1 : Int)), (0, (x1.2.2 : Int)), (0, ((i + 1 : Nat) : Int) + (-1))]) d_Ref_comePair_72 rfl rfl ?_
            refine ZE.goto (tgt := 6) d_Ref_comePair_75 rfl ?_
            rw [show ((i + 1 : Nat) : Int) + (-1) = (i : Int) by omega]
            refine ih i _ (by omega) ?_ ?_ ?_ ?_ (by omega)
            · rw [← hjp]; exact (jp_t (decide_eq_true (by omega))).symm
            · intro k2 hk2
              have h0 := hlo k2 (by omega)
              refine ⟨?_, ?_, ?_⟩
              · rw [up2_ne _ _ (by omega), up2_ne _ _ (by omega), up2_ne _ _ (by omega)]; exact h0.1
              · rw [up2_ne _ _ (by omega), up2_ne _ _ (by omega), up2_ne _ _ (by omega)]; exact h0.2.1
              · rw [up2_ne _ _ (by omega), up2_ne _ _ (by omega), up2_ne _ _ (by omega)]; exact h0.2.2
            · intro k2 hk2 hk3
              by_cases q : k2 = i + 1
              · subst q; rw [Nat.add_sub_cancel]; refine ⟨?_, ?_, ?_⟩
                · rw [up2_ne _ _ (by omega), up2_ne _ _ (by omega)]; exact (up2_at _ _ _ _).trans hv.1
                · rw [up2_ne _ _ (by omega)]; exact (up2_at _ _ _ _).trans hv.2.1
                · exact (up2_at _ _ _ _).trans hv.2.2
              · have h0 := hhi k2 (by omega) hk3
                refine ⟨?_, ?_, ?_⟩
                · rw [up2_ne _ _ (by omega), up2_ne _ _ (by omega), up2_ne _ _ (by omega)]; exact h0.1
                · rw [up2_ne _ _ (by omega), up2_ne _ _ (by omega), up2_ne _ _ (by omega)]; exact h0.2.1
                · rw [up2_ne _ _ (by omega), up2_ne _ _ (by omega), up2_ne _ _ (by omega)]; exact h0.2.2
            · exact ((g1.up (Or.inl rfl)).up (Or.inr (Or.inl rfl))).up (Or.inr (Or.inr rfl))
  exact L6 _ L.length A (Nat.le_refl _) rfl hL (fun k h1 h2 => absurd h1 (by omega)) r3F.rf (Nat.lt_succ_self _)
set_option maxRecDepth 20000 in
set_option maxHeartbeats 4000000 in
theorem r_comeTwo {d : Nat} {G : zG} {A : Int → Int → Int} {P : Option zV → zG → Prop} {o : Int} (hK : RK G o) (hF : RF A o) {L : List pT} (hn : A o 19 = (L.length : Int)) (hln : L.length ≤ 287) (hL : ∀ k : Nat, k < L.length → rowT A (o + 10) (o + 11) (o + 12) k (L.getD k pD)) (hbd : ∀ k : Nat, k < L.length → (L.getD k pD).1 < 2147483648) {x1 : pT} (hx : x1.1 < 2147483648) (k : ∀ A2, (∀ k : Nat, k < (insP L x1).length → rowT A2 (o + 10) (o + 11) (o + 12) k ((insP L x1).getD k pD)) → A2 o 19 = ((insP L x1).length : Int) → (∀ b : Int, b ≠ o → b ≠ o + 10 → b ≠ o + 11 → b ≠ o + 12 → A2 b = A b) → (∀ i : Int, i ≠ 19 → A2 o i = A o i) → P none (gw G A2)) : ZE d M_Ref_comeTwo (gw G A) 0 [(2, o), (0, (x1.1 : Int)), (0, (x1.2.1 : Int)), (0, (x1.2.2 : Int)), (9, 0)] [] P := by
  refine ZE.aload_n d_Ref_comeTwo_0 rfl ?_
  refine ZE.getE (v := (L.length : Int)) d_Ref_comeTwo_1 f_Ref_170 (tg := 0) rfl hK.1 hn ?_
  refine ZE.istore (ls2 := [(2, o), (0, (x1.1 : Int)), (0, (x1.2.1 : Int)), (0, (x1.2.2 : Int)), (0, (L.length : Int))]) d_Ref_comeTwo_4 (Nat.le_of_ble_eq_true rfl) rfl ?_
  have L6 : ∀ (t : Nat) (j : Nat) (A1 : Int → Int → Int) (hj : j ≤ L.length) (hjp : jp (fun k => decide (x1.1 < (L.getD k pD).1)) j = jp (fun k => decide (x1.1 < (L.getD k pD).1)) L.length) (hlo : ∀ k : Nat, k < j → rowT A1 (o + 10) (o + 11) (o + 12) k (L.getD k pD)) (hhi : ∀ k : Nat, j < k → k ≤ L.length → rowT A1 (o + 10) (o + 11) (o + 12) k (L.getD (k - 1) pD)) (g1 : r3F (o + 10) (o + 11) (o + 12) A A1), j < t → ZE d M_Ref_comeTwo (gw G A1) 6 [(2, o), (0, (x1.1 : Int)), (0, (x1.2.1 : Int)), (0, (x1.2.2 : Int)), (0, (j : Int))] [] P := by
    intro t
    induction t with
    | zero => intro j A1 hj hjp hlo hhi g1 hm; exact absurd hm (Nat.not_lt_zero _)
    | succ t ih =>
      intro j A1 hj hjp hlo hhi g1 hm
      have hA1 : RF A1 o := hF.r3 g1 (by omega) (by omega) (by omega)
      rcases Nat.eq_zero_or_pos j with hj0 | hj0
      · have hfin : jp (fun k => decide (x1.1 < (L.getD k pD).1)) L.length = j := by rw [← hjp, hj0]; rfl
        refine ZE.iload d_Ref_comeTwo_6 rfl ?_
        refine ZE.if_le (tgt := 78) d_Ref_comeTwo_8 rfl (by unfold zR; omega) (fun c8 => ?_) (fun c8 => ?_)
        · refine ZE.aload_n d_Ref_comeTwo_78 rfl ?_
          refine ZE.getE (v := o + 10) d_Ref_comeTwo_79 f_Ref_37 (tg := 2) rfl hK.1 hA1.a16 ?_
          refine ZE.iload d_Ref_comeTwo_82 rfl ?_
          refine ZE.iload_n d_Ref_comeTwo_84 rfl ?_
          refine ZE.iast d_Ref_comeTwo_85 hK.k10 (by have hn0 := hK.n10; show 0 ≤ (j : Int) ∧ (j : Int) < gn G (o + 10); omega) ?_
          show ZE d M_Ref_comeTwo (gw G (up2 A1 (o + 10) (j : Int) (x1.1 : Int))) 86 [(2, o), (0, (x1.1 : Int)), (0, (x1.2.1 : Int)), (0, (x1.2.2 : Int)), (0, (j : Int))] [] _
          refine ZE.aload_n d_Ref_comeTwo_86 rfl ?_
          refine ZE.getE (v := o + 11) d_Ref_comeTwo_87 f_Ref_40 (tg := 2) rfl hK.1 (hA1.u2 (by omega)).a17 ?_
          refine ZE.iload d_Ref_comeTwo_90 rfl ?_
          refine ZE.iload_n d_Ref_comeTwo_92 rfl ?_
          refine ZE.iast d_Ref_comeTwo_93 hK.k11 (by have hn0 := hK.n11; show 0 ≤ (j : Int) ∧ (j : Int) < gn G (o + 11); omega) ?_
          show ZE d M_Ref_comeTwo (gw G (up2 (up2 A1 (o + 10) (j : Int) (x1.1 : Int)) (o + 11) (j : Int) (x1.2.1 : Int))) 94 [(2, o), (0, (x1.1 : Int)), (0, (x1.2.1 : Int)), (0, (x1.2.2 : Int)), (0, (j : Int))] [] _
          refine ZE.aload_n d_Ref_comeTwo_94 rfl ?_
          refine ZE.getE (v := o + 12) d_Ref_comeTwo_95 f_Ref_43 (tg := 2) rfl hK.1 ((hA1.u2 (by omega)).u2 (by omega)).a18 ?_
          refine ZE.iload d_Ref_comeTwo_98 rfl ?_
          refine ZE.iload_n d_Ref_comeTwo_100 rfl ?_
          refine ZE.iast d_Ref_comeTwo_101 hK.k12 (by have hn0 := hK.n12; show 0 ≤ (j : Int) ∧ (j : Int) < gn G (o + 12); omega) ?_
          show ZE d M_Ref_comeTwo (gw G (up2 (up2 (up2 A1 (o + 10) (j : Int) (x1.1 : Int)) (o + 11) (j : Int) (x1.2.1 : Int)) (o + 12) (j : Int) (x1.2.2 : Int))) 102 [(2, o), (0, (x1.1 : Int)), (0, (x1.2.1 : Int)), (0, (x1.2.2 : Int)), (0, (j : Int))] [] _
          refine ZE.aload_n d_Ref_comeTwo_102 rfl ?_
          refine ZE.dup d_Ref_comeTwo_103 (Or.inr rfl) ?_
          refine ZE.getE (v := (L.length : Int)) d_Ref_comeTwo_104 f_Ref_170 (tg := 0) rfl hK.1 (by rw [gw_at, up2_ne _ _ (by omega), up2_ne _ _ (by omega), up2_ne _ _ (by omega), g1.1 _ (by omega) (by omega) (by omega)]; exact hn) ?_
          refine ZE.iconst (n := 1) d_Ref_comeTwo_107 ?_
          refine ZE.iadd d_Ref_comeTwo_108 ?_
          refine ZE.put d_Ref_comeTwo_109 f_Ref_170 (tg := 0) rfl trivial (Or.inl ⟨_, _, _, rfl, rfl, rfl⟩) hK.1 ?_
          show ZE d M_Ref_comeTwo (gw G (up2 (up2 (up2 (up2 A1 (o + 10) (j : Int) (x1.1 : Int)) (o + 11) (j : Int) (x1.2.1 : Int)) (o + 12) (j : Int) (x1.2.2 : Int)) o 19 ((L.length : Int) + 1))) 112 [(2, o), (0, (x1.1 : Int)), (0, (x1.2.1 : Int)), (0, (x1.2.2 : Int)), (0, (j : Int))] [] _
          refine ZE.vret d_Ref_comeTwo_112 rfl ?_
          have hnum : ∀ k2 : Nat, k2 < (insP L x1).length → rowT (up2 (up2 (up2 (up2 A1 (o + 10) (j : Int) (x1.1 : Int)) (o + 11) (j : Int) (x1.2.1 : Int)) (o + 12) (j : Int) (x1.2.2 : Int)) o 19 ((L.length : Int) + 1)) (o + 10) (o + 11) (o + 12) k2 ((insP L x1).getD k2 pD) := by
            intro k2 hk2
            rw [insP_len] at hk2
            rw [insP_get, hfin]
            by_cases c1 : k2 < j
            · rw [if_pos c1]
              have h0 := hlo k2 c1
              refine ⟨?_, ?_, ?_⟩
              · rw [up2_ne _ _ (by omega), up2_ne _ _ (by omega), up2_ne _ _ (by omega), up2_ne _ _ (by omega)]; exact h0.1
              · rw [up2_ne _ _ (by omega), up2_ne _ _ (by omega), up2_ne _ _ (by omega), up2_ne _ _ (by omega)]; exact h0.2.1
              · rw [up2_ne _ _ (by omega), up2_ne _ _ (by omega), up2_ne _ _ (by omega), up2_ne _ _ (by omega)]; exact h0.2.2
            · rw [if_neg c1]
              by_cases c2 : k2 = j
              · rw [if_pos c2, c2]
                refine ⟨?_, ?_, ?_⟩
                · rw [up2_ne _ _ (by omega), up2_ne _ _ (by omega), up2_ne _ _ (by omega)]; exact up2_at _ _ _ _
                · rw [up2_ne _ _ (by omega), up2_ne _ _ (by omega)]; exact up2_at _ _ _ _
                · rw [up2_ne _ _ (by omega)]; exact up2_at _ _ _ _
              · rw [if_neg c2]
                have h0 := hhi k2 (by omega) (by omega)
                refine ⟨?_, ?_, ?_⟩
                · rw [up2_ne _ _ (by omega), up2_ne _ _ (by omega), up2_ne _ _ (by omega), up2_ne _ _ (by omega)]; exact h0.1
                · rw [up2_ne _ _ (by omega), up2_ne _ _ (by omega), up2_ne _ _ (by omega), up2_ne _ _ (by omega)]; exact h0.2.1
                · rw [up2_ne _ _ (by omega), up2_ne _ _ (by omega), up2_ne _ _ (by omega), up2_ne _ _ (by omega)]; exact h0.2.2
          refine k _ hnum ?_ ?_ ?_
          · rw [up2_at, insP_len]; rfl
          · intro b h1 h2 h3 h4; have e := (((g1.up (i := (j : Int)) (v := (x1.1 : Int)) (Or.inl rfl)).up (i := (j : Int)) (v := (x1.2.1 : Int)) (Or.inr (Or.inl rfl))).up (i := (j : Int)) (v := (x1.2.2 : Int)) (Or.inr (Or.inr rfl))).1 b h2 h3 h4; rw [up2_A, upA_ne _ _ h1]; exact e
          · intro i2 hi2; rw [up2_ne _ _ (by omega)]; have e := (((g1.up (i := (j : Int)) (v := (x1.1 : Int)) (Or.inl rfl)).up (i := (j : Int)) (v := (x1.2.1 : Int)) (Or.inr (Or.inl rfl))).up (i := (j : Int)) (v := (x1.2.2 : Int)) (Or.inr (Or.inr rfl))).1 o (by omega) (by omega) (by omega); rw [e]
        · exact absurd c8 (by omega)
      · obtain ⟨i, rfl⟩ : ∃ i, j = i + 1 := ⟨j - 1, by omega⟩
        have hv := hlo i (by omega)
        have hb := hbd i (by omega)
        refine ZE.iload d_Ref_comeTwo_6 rfl ?_
        refine ZE.if_le (tgt := 78) d_Ref_comeTwo_8 rfl (by unfold zR; omega) (fun c8 => ?_) (fun c8 => ?_)
        · exact absurd c8 (by omega)
        · refine ZE.aload_n d_Ref_comeTwo_11 rfl ?_
          refine ZE.getE (v := o + 10) d_Ref_comeTwo_12 f_Ref_37 (tg := 2) rfl hK.1 hA1.a16 ?_
          refine ZE.iload d_Ref_comeTwo_15 rfl ?_
          refine ZE.iconst (n := 1) d_Ref_comeTwo_17 ?_
          refine ZE.isub d_Ref_comeTwo_18 ?_
          rw [show (((i + 1 : Nat) : Int) - 1 : Int) = (i : Int) from (by omega)]
          refine ZE.ialdE (v := ((L.getD i pD).1 : Int)) d_Ref_comeTwo_19 hK.k10 (by have hn0 := hK.n10; show 0 ≤ (i : Int) ∧ (i : Int) < gn G (o + 10); omega) hv.1 ?_
          refine ZE.iload_n d_Ref_comeTwo_20 rfl ?_
          refine ZE.icmp_le (tgt := 78) d_Ref_comeTwo_21 rfl (by unfold zR; omega) (by unfold zR; omega) (fun c21 => ?_) (fun c21 => ?_)
          · have hfin : jp (fun k => decide (x1.1 < (L.getD k pD).1)) L.length = i + 1 := by rw [← hjp]; exact jp_f (decide_eq_false (by omega))
            refine ZE.aload_n d_Ref_comeTwo_78 rfl ?_
            refine ZE.getE (v := o + 10) d_Ref_comeTwo_79 f_Ref_37 (tg := 2) rfl hK.1 hA1.a16 ?_
            refine ZE.iload d_Ref_comeTwo_82 rfl ?_
            refine ZE.iload_n d_Ref_comeTwo_84 rfl ?_
            refine ZE.iast d_Ref_comeTwo_85 hK.k10 (by have hn0 := hK.n10; show 0 ≤ ((i + 1 : Nat) : Int) ∧ ((i + 1 : Nat) : Int) < gn G (o + 10); omega) ?_
            show ZE d M_Ref_comeTwo (gw G (up2 A1 (o + 10) ((i + 1 : Nat) : Int) (x1.1 : Int))) 86 [(2, o), (0, (x1.1 : Int)), (0, (x1.2.1 : Int)), (0, (x1.2.2 : Int)), (0, ((i + 1 : Nat) : Int))] [] _
            refine ZE.aload_n d_Ref_comeTwo_86 rfl ?_
            refine ZE.getE (v := o + 11) d_Ref_comeTwo_87 f_Ref_40 (tg := 2) rfl hK.1 (hA1.u2 (by omega)).a17 ?_
            refine ZE.iload d_Ref_comeTwo_90 rfl ?_
            refine ZE.iload_n d_Ref_comeTwo_92 rfl ?_
            refine ZE.iast d_Ref_comeTwo_93 hK.k11 (by have hn0 := hK.n11; show 0 ≤ ((i + 1 : Nat) : Int) ∧ ((i + 1 : Nat) : Int) < gn G (o + 11); omega) ?_
            show ZE d M_Ref_comeTwo (gw G (up2 (up2 A1 (o + 10) ((i + 1 : Nat) : Int) (x1.1 : Int)) (o + 11) ((i + 1 : Nat) : Int) (x1.2.1 : Int))) 94 [(2, o), (0, (x1.1 : Int)), (0, (x1.2.1 : Int)), (0, (x1.2.2 : Int)), (0, ((i + 1 : Nat) : Int))] [] _
            refine ZE.aload_n d_Ref_comeTwo_94 rfl ?_
            refine ZE.getE (v := o + 12) d_Ref_comeTwo_95 f_Ref_43 (tg := 2) rfl hK.1 ((hA1.u2 (by omega)).u2 (by omega)).a18 ?_
            refine ZE.iload d_Ref_comeTwo_98 rfl ?_
            refine ZE.iload_n d_Ref_comeTwo_100 rfl ?_
            refine ZE.iast d_Ref_comeTwo_101 hK.k12 (by have hn0 := hK.n12; show 0 ≤ ((i + 1 : Nat) : Int) ∧ ((i + 1 : Nat) : Int) < gn G (o + 12); omega) ?_
            show ZE d M_Ref_comeTwo (gw G (up2 (up2 (up2 A1 (o + 10) ((i + 1 : Nat) : Int) (x1.1 : Int)) (o + 11) ((i + 1 : Nat) : Int) (x1.2.1 : Int)) (o + 12) ((i + 1 : Nat) : Int) (x1.2.2 : Int))) 102 [(2, o), (0, (x1.1 : Int)), (0, (x1.2.1 : Int)), (0, (x1.2.2 : Int)), (0, ((i + 1 : Nat) : Int))] [] _
            refine ZE.aload_n d_Ref_comeTwo_102 rfl ?_
            refine ZE.dup d_Ref_comeTwo_103 (Or.inr rfl) ?_
            refine ZE.getE (v := (L.length : Int)) d_Ref_comeTwo_104 f_Ref_170 (tg := 0) rfl hK.1 (by rw [gw_at, up2_ne _ _ (by omega), up2_ne _ _ (by omega), up2_ne _ _ (by omega), g1.1 _ (by omega) (by omega) (by omega)]; exact hn) ?_
            refine ZE.iconst (n := 1) d_Ref_comeTwo_107 ?_
            refine ZE.iadd d_Ref_comeTwo_108 ?_
            refine ZE.put d_Ref_comeTwo_109 f_Ref_170 (tg := 0) rfl trivial (Or.inl ⟨_, _, _, rfl, rfl, rfl⟩) hK.1 ?_
            show ZE d M_Ref_comeTwo (gw G (up2 (up2 (up2 (up2 A1 (o + 10) ((i + 1 : Nat) : Int) (x1.1 : Int)) (o + 11) ((i + 1 : Nat) : Int) (x1.2.1 : Int)) (o + 12) ((i + 1 : Nat) : Int) (x1.2.2 : Int)) o 19 ((L.length : Int) + 1))) 112 [(2, o), (0, (x1.1 : Int)), (0, (x1.2.1 : Int)), (0, (x1.2.2 : Int)), (0, ((i + 1 : Nat) : Int))] [] _
            refine ZE.vret d_Ref_comeTwo_112 rfl ?_
            have hnum : ∀ k2 : Nat, k2 < (insP L x1).length → rowT (up2 (up2 (up2 (up2 A1 (o + 10) ((i + 1 : Nat) : Int) (x1.1 : Int)) (o + 11) ((i + 1 : Nat) : Int) (x1.2.1 : Int)) (o + 12) ((i + 1 : Nat) : Int) (x1.2.2 : Int)) o 19 ((L.length : Int) + 1)) (o + 10) (o + 11) (o + 12) k2 ((insP L x1).getD k2 pD) := by
              intro k2 hk2
              rw [insP_len] at hk2
              rw [insP_get, hfin]
              by_cases c1 : k2 < (i + 1)
              · rw [if_pos c1]
                have h0 := hlo k2 c1
                refine ⟨?_, ?_, ?_⟩
                · rw [up2_ne _ _ (by omega), up2_ne _ _ (by omega), up2_ne _ _ (by omega), up2_ne _ _ (by omega)]; exact h0.1
                · rw [up2_ne _ _ (by omega), up2_ne _ _ (by omega), up2_ne _ _ (by omega), up2_ne _ _ (by omega)]; exact h0.2.1
                · rw [up2_ne _ _ (by omega), up2_ne _ _ (by omega), up2_ne _ _ (by omega), up2_ne _ _ (by omega)]; exact h0.2.2
              · rw [if_neg c1]
                by_cases c2 : k2 = (i + 1)
                · rw [if_pos c2, c2]
                  refine ⟨?_, ?_, ?_⟩
                  · rw [up2_ne _ _ (by omega), up2_ne _ _ (by omega), up2_ne _ _ (by omega)]; exact up2_at _ _ _ _
                  · rw [up2_ne _ _ (by omega), up2_ne _ _ (by omega)]; exact up2_at _ _ _ _
                  · rw [up2_ne _ _ (by omega)]; exact up2_at _ _ _ _
                · rw [if_neg c2]
                  have h0 := hhi k2 (by omega) (by omega)
                  refine ⟨?_, ?_, ?_⟩
                  · rw [up2_ne _ _ (by omega), up2_ne _ _ (by omega), up2_ne _ _ (by omega), up2_ne _ _ (by omega)]; exact h0.1
                  · rw [up2_ne _ _ (by omega), up2_ne _ _ (by omega), up2_ne _ _ (by omega), up2_ne _ _ (by omega)]; exact h0.2.1
                  · rw [up2_ne _ _ (by omega), up2_ne _ _ (by omega), up2_ne _ _ (by omega), up2_ne _ _ (by omega)]; exact h0.2.2
            refine k _ hnum ?_ ?_ ?_
            · rw [up2_at, insP_len]; rfl
            · intro b h1 h2 h3 h4; have e := (((g1.up (i := ((i + 1 : Nat) : Int)) (v := (x1.1 : Int)) (Or.inl rfl)).up (i := ((i + 1 : Nat) : Int)) (v := (x1.2.1 : Int)) (Or.inr (Or.inl rfl))).up (i := ((i + 1 : Nat) : Int)) (v := (x1.2.2 : Int)) (Or.inr (Or.inr rfl))).1 b h2 h3 h4; rw [up2_A, upA_ne _ _ h1]; exact e
            · intro i2 hi2; rw [up2_ne _ _ (by omega)]; have e := (((g1.up (i := ((i + 1 : Nat) : Int)) (v := (x1.1 : Int)) (Or.inl rfl)).up (i := ((i + 1 : Nat) : Int)) (v := (x1.2.1 : Int)) (Or.inr (Or.inl rfl))).up (i := ((i + 1 : Nat) : Int)) (v := (x1.2.2 : Int)) (Or.inr (Or.inr rfl))).1 o (by omega) (by omega) (by omega); rw [e]
          · refine ZE.aload_n d_Ref_comeTwo_24 rfl ?_
            refine ZE.getE (v := o + 10) d_Ref_comeTwo_25 f_Ref_37 (tg := 2) rfl hK.1 hA1.a16 ?_
            refine ZE.iload d_Ref_comeTwo_28 rfl ?_
            refine ZE.aload_n d_Ref_comeTwo_30 rfl ?_
            refine ZE.getE (v := o + 10) d_Ref_comeTwo_31 f_Ref_37 (tg := 2) rfl hK.1 hA1.a16 ?_
            refine ZE.iload d_Ref_comeTwo_34 rfl ?_
            refine ZE.iconst (n := 1) d_Ref_comeTwo_36 ?_
            refine ZE.isub d_Ref_comeTwo_37 ?_
            rw [show (((i + 1 : Nat) : Int) - 1 : Int) = (i : Int) from (by omega)]
            refine ZE.ialdE (v := A1 (o + 10) (i : Int)) d_Ref_comeTwo_38 hK.k10 (by have hn0 := hK.n10; show 0 ≤ (i : Int) ∧ (i : Int) < gn G (o + 10); omega) rfl ?_
            refine ZE.iast d_Ref_comeTwo_39 hK.k10 (by have hn0 := hK.n10; show 0 ≤ ((i + 1 : Nat) : Int) ∧ ((i + 1 : Nat) : Int) < gn G (o + 10); omega) ?_
            show ZE d M_Ref_comeTwo (gw G (up2 A1 (o + 10) ((i + 1 : Nat) : Int) (A1 (o + 10) (i : Int)))) 40 [(2, o), (0, (x1.1 : Int)), (0, (x1.2.1 : Int)), (0, (x1.2.2 : Int)), (0, ((i + 1 : Nat) : Int))] [] _
            refine ZE.aload_n d_Ref_comeTwo_40 rfl ?_
            refine ZE.getE (v := o + 11) d_Ref_comeTwo_41 f_Ref_40 (tg := 2) rfl hK.1 (hA1.u2 (by omega)).a17 ?_
            refine ZE.iload d_Ref_comeTwo_44 rfl ?_
            refine ZE.aload_n d_Ref_comeTwo_46 rfl ?_
            refine ZE.getE (v := o + 11) d_Ref_comeTwo_47 f_Ref_40 (tg := 2) rfl hK.1 (hA1.u2 (by omega)).a17 ?_
            refine ZE.iload d_Ref_comeTwo_50 rfl ?_
            refine ZE.iconst (n := 1) d_Ref_comeTwo_52 ?_
            refine ZE.isub d_Ref_comeTwo_53 ?_
            rw [show (((i + 1 : Nat) : Int) - 1 : Int) = (i : Int) from (by omega)]
            refine ZE.ialdE (v := A1 (o + 11) (i : Int)) d_Ref_comeTwo_54 hK.k11 (by have hn0 := hK.n11; show 0 ≤ (i : Int) ∧ (i : Int) < gn G (o + 11); omega) ((up2_ne _ _ (by omega)).trans rfl) ?_
            refine ZE.iast d_Ref_comeTwo_55 hK.k11 (by have hn0 := hK.n11; show 0 ≤ ((i + 1 : Nat) : Int) ∧ ((i + 1 : Nat) : Int) < gn G (o + 11); omega) ?_
            show ZE d M_Ref_comeTwo (gw G (up2 (up2 A1 (o + 10) ((i + 1 : Nat) : Int) (A1 (o + 10) (i : Int))) (o + 11) ((i + 1 : Nat) : Int) (A1 (o + 11) (i : Int)))) 56 [(2, o), (0, (x1.1 : Int)), (0, (x1.2.1 : Int)), (0, (x1.2.2 : Int)), (0, ((i + 1 : Nat) : Int))] [] _
            refine ZE.aload_n d_Ref_comeTwo_56 rfl ?_
            refine ZE.getE (v := o + 12) d_Ref_comeTwo_57 f_Ref_43 (tg := 2) rfl hK.1 ((hA1.u2 (by omega)).u2 (by omega)).a18 ?_
            refine ZE.iload d_Ref_comeTwo_60 rfl ?_
            refine ZE.aload_n d_Ref_comeTwo_62 rfl ?_
            refine ZE.getE (v := o + 12) d_Ref_comeTwo_63 f_Ref_43 (tg := 2) rfl hK.1 ((hA1.u2 (by omega)).u2 (by omega)).a18 ?_
            refine ZE.iload d_Ref_comeTwo_66 rfl ?_
            refine ZE.iconst (n := 1) d_Ref_comeTwo_68 ?_
            refine ZE.isub d_Ref_comeTwo_69 ?_
            rw [show (((i + 1 : Nat) : Int) - 1 : Int) = (i : Int) from (by omega)]
            refine ZE.ialdE (v := A1 (o + 12) (i : Int)) d_Ref_comeTwo_70 hK.k12 (by have hn0 := hK.n12; show 0 ≤ (i : Int) ∧ (i : Int) < gn G (o + 12); omega) ((up2_ne _ _ (by omega)).trans ((up2_ne _ _ (by omega)).trans rfl)) ?_
            refine ZE.iast d_Ref_comeTwo_71 hK.k12 (by have hn0 := hK.n12; show 0 ≤ ((i + 1 : Nat) : Int) ∧ ((i + 1 : Nat) : Int) < gn G (o + 12); omega) ?_
            show ZE d M_Ref_comeTwo (gw G (up2 (up2 (up2 A1 (o + 10) ((i + 1 : Nat) : Int) (A1 (o + 10) (i : Int))) (o + 11) ((i + 1 : Nat) : Int) (A1 (o + 11) (i : Int))) (o + 12) ((i + 1 : Nat) : Int) (A1 (o + 12) (i : Int)))) 72 [(2, o), (0, (x1.1 : Int)), (0, (x1.2.1 : Int)), (0, (x1.2.2 : Int)), (0, ((i + 1 : Nat) : Int))] [] _
            refine ZE.iinc (ls2 := [(2, o), (0, (x1.1 : Int)), (0, (x1.2.1 : Int)), (0, (x1.2.2 : Int)), (0, ((i + 1 : Nat) : Int) + (-1))]) d_Ref_comeTwo_72 rfl rfl ?_
            refine ZE.goto (tgt := 6) d_Ref_comeTwo_75 rfl ?_
            rw [show ((i + 1 : Nat) : Int) + (-1) = (i : Int) by omega]
            refine ih i _ (by omega) ?_ ?_ ?_ ?_ (by omega)
            · rw [← hjp]; exact (jp_t (decide_eq_true (by omega))).symm
            · intro k2 hk2
              have h0 := hlo k2 (by omega)
              refine ⟨?_, ?_, ?_⟩
              · rw [up2_ne _ _ (by omega), up2_ne _ _ (by omega), up2_ne _ _ (by omega)]; exact h0.1
              · rw [up2_ne _ _ (by omega), up2_ne _ _ (by omega), up2_ne _ _ (by omega)]; exact h0.2.1
              · rw [up2_ne _ _ (by omega), up2_ne _ _ (by omega), up2_ne _ _ (by omega)]; exact h0.2.2
            · intro k2 hk2 hk3
              by_cases q : k2 = i + 1
              · subst q; rw [Nat.add_sub_cancel]; refine ⟨?_, ?_, ?_⟩
                · rw [up2_ne _ _ (by omega), up2_ne _ _ (by omega)]; exact (up2_at _ _ _ _).trans hv.1
                · rw [up2_ne _ _ (by omega)]; exact (up2_at _ _ _ _).trans hv.2.1
                · exact (up2_at _ _ _ _).trans hv.2.2
              · have h0 := hhi k2 (by omega) hk3
                refine ⟨?_, ?_, ?_⟩
                · rw [up2_ne _ _ (by omega), up2_ne _ _ (by omega), up2_ne _ _ (by omega)]; exact h0.1
                · rw [up2_ne _ _ (by omega), up2_ne _ _ (by omega), up2_ne _ _ (by omega)]; exact h0.2.1
                · rw [up2_ne _ _ (by omega), up2_ne _ _ (by omega), up2_ne _ _ (by omega)]; exact h0.2.2
            · exact ((g1.up (Or.inl rfl)).up (Or.inr (Or.inl rfl))).up (Or.inr (Or.inr rfl))
  exact L6 _ L.length A (Nat.le_refl _) rfl hL (fun k h1 h2 => absurd h1 (by omega)) r3F.rf (Nat.lt_succ_self _)
