def fS (G : zG) (A : Int → Int → Int) (G1 : zG) (A1 : Int → Int → Int) (s E0 : Int) (ap S e : Nat) : Prop := (∃ n m : Nat, gR G G1 n m ∧ n + 54 * unk A1 s ≤ 54 * unk A s ∧ m + 556 * unk A1 s ≤ 556 * unk A s) ∧ sF A1 s ap ∧ kP G1 A1 s E0 ap ∧ (A1 s 9 = (S : Int) ∧ A1 s 10 = (bnd S : Int) ∧ A1 s 11 = ((csF S (butF ap) e).length : Int) ∧ A1 s 12 = 0) ∧ (∀ k : Nat, k < (csF S (butF ap) e).length → A1 (s + 29) k = A1 (s + 28) (((csF S (butF ap) e).getD k 0 : Nat) : Int) ∧ A1 (s + 28) (((csF S (butF ap) e).getD k 0 : Nat) : Int) ≠ -1) ∧ (∀ a : Int, a < (gz G : Int) → ¬ (s ≤ a ∧ a ≤ s + 45) → A1 a = A a) ∧ (∀ q : Nat, A (s + 28) q ≠ -1 → A1 (s + 28) q = A (s + 28) q)
theorem unk_congr {A B : Int → Int → Int} {s : Int} (h : B (s + 28) = A (s + 28)) : unk B s = unk A s := by unfold unk; rw [h]
theorem fS_0 {G : zG} {A : Int → Int → Int} {s E0 : Int} {ap S : Nat} (h0 : 0 ≤ s) (hE : s + 46 ≤ E0) (hF : sF A s ap) (hP : kP G A s E0 ap) : fS G A G (up2 (up2 (up2 (up2 A s 9 (S : Int)) s 10 (bnd S : Int)) s 11 0) s 12 0) s E0 ap S 0 := by
  have hX : ∀ a : Int, a ≠ s → up2 (up2 (up2 (up2 A s 9 (S : Int)) s 10 (bnd S : Int)) s 11 0) s 12 0 a = A a := fun a h => by simp only [up2_A, upA_ne _ _ h]
  have hY : ∀ i : Int, i ≤ 8 → up2 (up2 (up2 (up2 A s 9 (S : Int)) s 10 (bnd S : Int)) s 11 0) s 12 0 s i = A s i := fun i h => by rw [up2_ne _ _ (by omega), up2_ne _ _ (by omega), up2_ne _ _ (by omega), up2_ne _ _ (by omega)]
  have hu := unk_congr (hX (s + 28) (by omega))
  refine ⟨⟨0, 0, gR.rf, by omega, by omega⟩, hF.ab hY (fun a ha => hX a (by omega)), fun q hq => ?_, ⟨?_, ?_, ?_, up2_at _ _ _ _⟩, fun k hk => absurd hk (Nat.not_lt_zero _), fun a _ h2 => hX a (by omega), fun q _ => congrFun (hX _ (by omega)) _⟩
  · rw [hX (s + 28) (by omega)]
    rcases hP q hq with h | h
    · exact Or.inl h
    · exact Or.inr (h.ab gR.rf (fun a h1 h2 => hX a (by have := h.1; omega)))
  · rw [up2_ne _ _ (by omega), up2_ne _ _ (by omega), up2_ne _ _ (by omega), up2_at]
  · rw [up2_ne _ _ (by omega), up2_ne _ _ (by omega), up2_at]
  · rw [up2_ne _ _ (by omega), up2_at]; rfl
theorem fS_skip {G G1 : zG} {A A1 : Int → Int → Int} {s E0 : Int} {ap S e : Nat} (h : fS G A G1 A1 s E0 ap S e) (hc : ¬ (e &&& S = e ∧ e ≠ butF ap)) : fS G A G1 A1 s E0 ap S (e + 1) := by
  have hce : csF S (butF ap) (e + 1) = csF S (butF ap) e := if_neg hc
  unfold fS
  rw [hce]
  exact h
theorem fS_row {G G1 G2 : zG} {A A1 A2 : Int → Int → Int} {s E0 : Int} {ap S e : Nat} (h : fS G A G1 A1 s E0 ap S e) (h0 : 0 ≤ s) (hE : s + 46 ≤ E0 ∧ E0 ≤ (gz G : Int)) (hf2 : uoF A1 A2 s (gz G1 : Int)) : ∀ k : Nat, k < (csF S (butF ap) e).length → A2 (s + 29) k = A2 (s + 28) (((csF S (butF ap) e).getD k 0 : Nat) : Int) ∧ A2 (s + 28) (((csF S (butF ap) e).getD k 0 : Nat) : Int) ≠ -1 := by
  intro k hk
  obtain ⟨⟨n, m, hg, -, -⟩, -, -, -, h5, -, -⟩ := h
  have hz := hg.1
  obtain ⟨r1, r2⟩ := h5 k hk
  have r3 := hf2.2 _ r2
  rw [hf2.1 (s + 29) (by omega) (by omega) (by omega) (by omega), r3]
  exact ⟨r1, r2⟩
theorem fS_vs {G G1 G2 : zG} {A A1 A2 : Int → Int → Int} {s E0 : Int} {ap S e : Nat} (h : fS G A G1 A1 s E0 ap S e) (h0 : 0 ≤ s) (he : e < 129) (hE : s + 46 ≤ E0 ∧ E0 ≤ (gz G : Int)) (hP2 : kP G2 A2 s E0 ap) (hf2 : uoF A1 A2 s (gz G1 : Int)) : ∀ k : Nat, k < (csF S (butF ap) e).length → 0 ≤ A2 (s + 29) k ∧ gk G2 (A2 (s + 29) k) = 19 ∧ A2 (A2 (s + 29) k) 2 = (rad ((csF S (butF ap) e).getD k 0) : Int) ∧ rad ((csF S (butF ap) e).getD k 0) < 2147483648 := by
  intro k hk
  obtain ⟨r1, r2⟩ := fS_row (G2 := G2) h h0 hE hf2 k hk
  have r3 := (csF_lt S (butF ap) e k hk).1
  have r4 := rdF_le _ (show (csF S (butF ap) e).getD k 0 < 128 by omega) 7 (by omega)
  rw [r1]
  rcases hP2 _ (show (csF S (butF ap) e).getD k 0 < 128 by omega) with q | q
  · exact absurd q r2
  · have q1 := q.1
    exact ⟨by omega, q.2.2.1.1, q.2.2.2.1.2.2.1, by unfold rad; omega⟩
theorem fS_next {G G1 G2 : zG} {A A1 A2 A3 : Int → Int → Int} {s E0 u : Int} {ap S e n2 m2 : Nat} (h : fS G A G1 A1 s E0 ap S e) (h0 : 0 ≤ s) (hE : s + 46 ≤ E0 ∧ E0 ≤ (gz G : Int)) (hc : e &&& S = e ∧ e ≠ butF ap) (hP2 : kP G2 A2 s E0 ap) (hkU : kU G2 A2 E0 ap e u) (hat : A2 (s + 28) e = u) (hF2 : sF A2 s ap) (hf2 : uoF A1 A2 s (gz G1 : Int)) (hg2 : gR G1 G2 n2 m2) (hn2 : n2 + 54 * unk A2 s ≤ 54 * unk A1 s) (hm2 : m2 + 556 * unk A2 s ≤ 556 * unk A1 s) (t1 : ∀ a : Int, a ≠ s → a ≠ s + 29 → A3 a = A2 a) (t2 : ∀ i : Int, i ≠ 11 → A3 s i = A2 s i) (t3 : A3 s 11 = ((csF S (butF ap) e).length : Int) + 1)
    (t4 : ∀ q : Nat, q < (csF S (butF ap) e).length + 1 → A3 (s + 29) q = if q < jp (fun k => decide (rad e < rad ((csF S (butF ap) e).getD k 0))) (csF S (butF ap) e).length then A2 (s + 29) q else if q = jp (fun k => decide (rad e < rad ((csF S (butF ap) e).getD k 0))) (csF S (butF ap) e).length then u else A2 (s + 29) ((q - 1 : Nat) : Int)) : fS G A G2 A3 s E0 ap S (e + 1) := by
  have hr := fS_row h h0 hE hf2 (G2 := G2)
  have hce : csF S (butF ap) (e + 1) = insQ (csF S (butF ap) e) e := if_pos hc
  obtain ⟨⟨n, m, hg, hn, hm⟩, hF1, hP1, ⟨h9, h10, h11, h12⟩, h5, h6, h7⟩ := h
  have hz := hg.1
  have e28 : A3 (s + 28) = A2 (s + 28) := t1 _ (by omega) (by omega)
  have hu := unk_congr e28
  have es := hf2.1 s (by omega) (by omega) (by omega) (by omega)
  have hj := jp_le (fun k => decide (rad e < rad ((csF S (butF ap) e).getD k 0))) (csF S (butF ap) e).length
  unfold fS
  rw [hce, insQ_len]
  refine ⟨⟨n + n2, m + m2, hg.tr hg2, by omega, by omega⟩, hF2.ab (fun i hi => t2 i (by omega)) (fun a ha => t1 a (by omega) (by omega)), fun q hq => ?_, ⟨(t2 9 (by omega)).trans ((congrFun es _).trans h9), (t2 10 (by omega)).trans ((congrFun es _).trans h10), t3.trans (by omega), (t2 12 (by omega)).trans ((congrFun es _).trans h12)⟩, fun k hk => ?_, fun a h1 h2 => (t1 a (by omega) (by omega)).trans ((hf2.1 a (by omega) (by omega) (by omega) (by omega)).trans (h6 a h1 h2)), fun q hq => ?_⟩
  · rw [e28]
    rcases hP2 q hq with h | h
    · exact Or.inl h
    · exact Or.inr (h.ab gR.rf (fun a h1 h2 => t1 a (by have := h.1; omega) (by have := h.1; omega)))
  · rw [insQ_get, t4 k hk, e28]
    by_cases c1 : k < jp (fun k => decide (rad e < rad ((csF S (butF ap) e).getD k 0))) (csF S (butF ap) e).length
    · rw [if_pos c1, if_pos c1]
      exact hr k (by omega)
    · rw [if_neg c1, if_neg c1]
      by_cases c2 : k = jp (fun k => decide (rad e < rad ((csF S (butF ap) e).getD k 0))) (csF S (butF ap) e).length
      · rw [if_pos c2, if_pos c2, hat]
        exact ⟨rfl, by have := hkU.1; omega⟩
      · rw [if_neg c2, if_neg c2]
        exact hr (k - 1) (by omega)
  · rw [e28, hf2.2 q (by rw [h7 q hq]; exact hq)]
    exact h7 q hq
set_option maxRecDepth 20000 in
set_option maxHeartbeats 4000000 in
theorem s_fillA {d : Nat} {G : zG} {A : Int → Int → Int} {P : Option zV → zG → Prop} {s E0 : Int} (hK : sK G s) {ap : Nat} (hF : sF A s ap) (hL : lG G A) (hgl : gl G < s) (hap : ap = 1 ∨ ap = 2) (hE : s + 46 ≤ E0 ∧ E0 ≤ (gz G : Int)) (hP : kP G A s E0 ap) {S : Nat} (hS7 : S < 128) (hp5 : pop S ≤ 5) (k : ∀ G1 A1, fS G A G1 A1 s E0 ap S 128 → ZE (d + 6) M_Sea_fill (gw G1 A1) 66 [(2, s), (0, (S : Int)), (0, ((128 : Nat) : Int)), (9, 0)] [] P) : ZE (d + 6) M_Sea_fill (gw G A) 10 [(2, s), (0, (S : Int)), (9, 0), (9, 0)] [] P := by
  have hs0 := hK.2.1
  have hzE := hE.2
  refine ZE.aload_n d_Sea_fill_10 rfl ?_
  refine ZE.iload_n d_Sea_fill_11 rfl ?_
  refine ZE.put d_Sea_fill_12 f_Sea_56 (tg := 0) rfl trivial (Or.inl ⟨_, _, _, rfl, rfl, rfl⟩) hK.1 ?_
  show ZE (d + 6) M_Sea_fill (gw G (up2 A s 9 (S : Int))) 15 [(2, s), (0, (S : Int)), (9, 0), (9, 0)] [] _
  refine ZE.aload_n d_Sea_fill_15 rfl ?_
  refine ZE.iload_n d_Sea_fill_16 rfl ?_
  refine ZE.cS [(0, (S : Int))] [(2, s)] [(0, (S : Int))] d_Sea_fill_17 l_Sea_70 rfl rfl rfl rfl rfl rfl ?_
  refine p_boundOf (d := d + 3) hS7 (hL.gr gR.rf (by omega) (by rw [up2_A, upA_ne _ _ (by omega)])) ?_
  show ZE (d + 6) M_Sea_fill (gw G (up2 A s 9 (S : Int))) 20 [(2, s), (0, (S : Int)), (9, 0), (9, 0)] [(0, (bnd S : Int)), (2, s)] _
  refine ZE.put d_Sea_fill_20 f_Sea_76 (tg := 0) rfl trivial (Or.inl ⟨_, _, _, rfl, rfl, rfl⟩) hK.1 ?_
  show ZE (d + 6) M_Sea_fill (gw G (up2 (up2 A s 9 (S : Int)) s 10 (bnd S : Int))) 23 [(2, s), (0, (S : Int)), (9, 0), (9, 0)] [] _
  refine ZE.aload_n d_Sea_fill_23 rfl ?_
  refine ZE.iconst (n := 0) d_Sea_fill_24 ?_
  refine ZE.put d_Sea_fill_25 f_Sea_79 (tg := 0) rfl trivial (Or.inl ⟨_, _, _, rfl, rfl, rfl⟩) hK.1 ?_
  show ZE (d + 6) M_Sea_fill (gw G (up2 (up2 (up2 A s 9 (S : Int)) s 10 (bnd S : Int)) s 11 0)) 28 [(2, s), (0, (S : Int)), (9, 0), (9, 0)] [] _
  refine ZE.aload_n d_Sea_fill_28 rfl ?_
  refine ZE.iconst (n := 0) d_Sea_fill_29 ?_
  refine ZE.put d_Sea_fill_30 f_Sea_82 (tg := 0) rfl trivial (Or.inl ⟨_, _, _, rfl, rfl, rfl⟩) hK.1 ?_
  show ZE (d + 6) M_Sea_fill (gw G (up2 (up2 (up2 (up2 A s 9 (S : Int)) s 10 (bnd S : Int)) s 11 0) s 12 0)) 33 [(2, s), (0, (S : Int)), (9, 0), (9, 0)] [] _
  refine ZE.iconst (n := 0) d_Sea_fill_33 ?_
  refine ZE.istore_n (ls2 := [(2, s), (0, (S : Int)), (0, 0), (9, 0)]) d_Sea_fill_34 (Nat.le_of_ble_eq_true rfl) rfl ?_
  have L35 : ∀ (tt0 : Nat) (e1 : Nat) (G1 : zG) (A1 : Int → Int → Int) (he : e1 ≤ 128) (hS1 : fS G A G1 A1 s E0 ap S e1), 129 - e1 < tt0 → ZE (d + 6) M_Sea_fill (gw G1 A1) 35 [(2, s), (0, (S : Int)), (0, (e1 : Int)), (9, 0)] [] P := by
    intro tt0
    induction tt0 with
    | zero => intro e1 G1 A1 he hS1 hm; exact absurd hm (Nat.not_lt_zero _)
    | succ tt0 ih =>
      intro e1 G1 A1 he hS1 hm
      obtain ⟨⟨n1, m1, hg1, hn1, hm1⟩, hF1, hP1, ⟨h9, h10, h11, h12⟩, h5, h6, h7⟩ := id hS1
      have hz1 := hg1.1
      have hK1 := hK.gr hg1 (by omega)
      have hL1 : lG G1 A1 := hL.gr hg1 (by omega) (h6 _ (by omega) (by omega))
      have hgl1 : gl G1 < s := by rw [hg1.2.2.2.2]; exact hgl
      refine ZE.iload_n d_Sea_fill_35 rfl ?_
      refine ZE.sipush (n := 128) d_Sea_fill_36 rfl ?_
      refine ZE.icmp_ge (tgt := 66) d_Sea_fill_39 rfl (by unfold zR; omega) (by unfold zR; omega) (fun c39 => ?_) (fun c39 => ?_)
      · have he8 : e1 = 128 := by omega
        subst he8
        exact k G1 A1 hS1
      · refine ZE.aload_n d_Sea_fill_42 rfl ?_
        refine ZE.iload_n d_Sea_fill_43 rfl ?_
        refine ZE.iload_n d_Sea_fill_44 rfl ?_
        refine ZE.cV [(0, (e1 : Int)), (0, (S : Int))] [] [(2, s), (0, (e1 : Int)), (0, (S : Int))] d_Sea_fill_45 l_Sea_85 rfl rfl rfl rfl rfl rfl hK1.1 ?_
        refine s_isClassOf (d := d + 5) hK1 hF1 hap (by omega) hS7 ?_
        show ZE (d + 6) M_Sea_fill (gw G1 A1) 48 [(2, s), (0, (S : Int)), (0, (e1 : Int)), (9, 0)] [(0, b2i (e1 &&& S = e1 ∧ e1 ≠ butF ap))] _
        refine ZE.if_eq (tgt := 60) d_Sea_fill_48 rfl (zR_b2i _) (fun c48 => ?_) (fun c48 => ?_)
        · replace c48 := b2i_0.mp c48
          refine ZE.iinc (ls2 := [(2, s), (0, (S : Int)), (0, (e1 : Int) + 1), (9, 0)]) d_Sea_fill_60 rfl rfl ?_
          refine ZE.goto (tgt := 35) d_Sea_fill_63 rfl ?_
          rw [show (e1 : Int) + 1 = ((e1 + 1 : Nat) : Int) by omega]
          exact ih (e1 + 1) G1 A1 (by omega) (fS_skip hS1 c48) (by omega)
        · replace c48 := b2i_n0.mp c48
          refine ZE.aload_n d_Sea_fill_51 rfl ?_
          refine ZE.aload_n d_Sea_fill_52 rfl ?_
          refine ZE.iload_n d_Sea_fill_53 rfl ?_
          refine ZE.cV [(0, (e1 : Int))] [(2, s)] [(2, s), (0, (e1 : Int)), (9, 0), (9, 0), (9, 0)] d_Sea_fill_54 l_Sea_89 rfl rfl rfl rfl rfl rfl hK1.1 ?_
          refine s_unitOf hK1 hF1 hL1 hgl1 hap ⟨hE.1, by omega⟩ hP1 (by omega) (Nat.le_trans (pop_sub S hS7 e1 (by omega) c48.1) hp5) c48.2 (fun G2 A2 u n2 m2 hP2 hkU hat hF2 hf2 hg2 hn2 hm2 => ?_)
          show ZE (d + 6) M_Sea_fill (gw G2 A2) 57 [(2, s), (0, (S : Int)), (0, (e1 : Int)), (9, 0)] [(2, u), (2, s)] _
          have hK2 := hK1.gr hg2 (by omega)
          have hlen : (csF S (butF ap) e1).length < 32 := by
            have h32 := csA_32 hap hS7 hp5
            have hm0 : cntF S (butF ap) (e1 + 1) ≤ cntF S (butF ap) 128 := cntF_mono _ _ _ _ (by omega)
            have hce : cntF S (butF ap) (e1 + 1) = cntF S (butF ap) e1 + 1 := if_pos c48
            unfold csA at h32
            rw [csF_len] at h32 ⊢
            omega
          refine ZE.cV [(2, u)] [] [(2, s), (2, u), (9, 0)] d_Sea_fill_57 l_Sea_93 rfl rfl rfl rfl rfl rfl hK2.1 ?_
          refine s_enterUnit (d := d + 4) hK2 hF2 (n := (csF S (butF ap) e1).length) ((congrFun (hf2.1 s (by omega) (by omega) (by omega) (by omega)) _).trans h11) hlen hkU.2.2.1.1 (by have := hkU.1; omega) (q1 := rad e1) hkU.2.2.2.1.2.2.1 (by have := rdF_le e1 (by omega) 7 (by omega); unfold rad; omega) (qL := fun k => rad ((csF S (butF ap) e1).getD k 0)) (fS_vs hS1 hs0 (by omega) hE hP2 hf2) (fun A3 t1 t2 t3 t4 => ?_)
          show ZE (d + 6) M_Sea_fill (gw G2 A3) 60 [(2, s), (0, (S : Int)), (0, (e1 : Int)), (9, 0)] [] _
          refine ZE.iinc (ls2 := [(2, s), (0, (S : Int)), (0, (e1 : Int) + 1), (9, 0)]) d_Sea_fill_60 rfl rfl ?_
          refine ZE.goto (tgt := 35) d_Sea_fill_63 rfl ?_
          rw [show (e1 : Int) + 1 = ((e1 + 1 : Nat) : Int) by omega]
          exact ih (e1 + 1) G2 A3 (by omega) (fS_next hS1 hs0 hE c48 hP2 hkU hat hF2 hf2 hg2 hn2 hm2 t1 t2 t3 t4) (by omega)
  exact L35 _ 0 G _ (by omega) (fS_0 hs0 hE.1 hF hP) (Nat.lt_succ_self _)
