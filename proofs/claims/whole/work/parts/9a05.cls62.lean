theorem sR.ab {G : zG} {A B : Int → Int → Int} {s E0 : Int} {ap S : Nat} (h : sR G A s E0 ap S) (e : ∀ a : Int, (s ≤ a ∧ a ≤ s + 45) ∨ E0 ≤ a → B a = A a) : sR G B s E0 ap S := by
  have hE := h.E
  have hs0 := h.K.2.1
  refine ⟨h.K, h.F.ab (fun i _ => congrFun (e s (by omega)) i) (fun a ha => e a (by omega)), h.P.saf gR.rf (fun a h1 h2 => Or.inl (e a (by omega))) (e _ (by omega)), h.N.row (e _ (by omega)) (e _ (by omega)) (e _ (by omega)) (e _ (by omega)) (fun k hk => ?_), h.E, h.apx, h.s7, h.p5⟩
  have ht : okT ap S (csA ap S).length ((prL ap S).getD k pD) := prA_ok (ap := ap) (S := S) _ k hk
  have hu := (h.un ht.1).1
  have hc := (h.cp hk).1
  exact ⟨e _ (by omega), congrFun (e _ (by omega)) _⟩
theorem lG.ab {G : zG} {A B : Int → Int → Int} (h : lG G A) (e : B (gl G) = A (gl G)) : lG G B := ⟨h.1, h.2.1, fun j => (congrFun e _).trans (h.2.2 j)⟩
theorem ah_iff {S i k : Nat} {m m2 : Int} : ahB S i k m m2 = true ↔ (msN S i m < msN S k m ∨ (msN S i m = msN S k m ∧ (msN S i m2 < msN S k m2 ∨ (msN S i m2 = msN S k m2 ∧ i < k)))) := by
  unfold ahB
  split
  · rw [decide_eq_true_iff]; omega
  · split
    · rw [decide_eq_true_iff]; omega
    · rw [decide_eq_true_iff]; omega
theorem jp_sp {p : Nat → Bool} : ∀ n, (∀ q, jp p n ≤ q → q < n → p q = true) ∧ (jp p n ≠ 0 → p (jp p n - 1) = false) := by
  intro n
  induction n with
  | zero => exact ⟨fun q _ h => absurd h (Nat.not_lt_zero _), fun h => absurd rfl h⟩
  | succ n ih =>
    by_cases c : p n = true
    · rw [jp_t c]
      refine ⟨fun q h1 h2 => ?_, ih.2⟩
      by_cases e : q = n
      · subst e; exact c
      · exact ih.1 q h1 (by omega)
    · rw [jp_f (Bool.eq_false_iff.mpr c)]
      exact ⟨fun q h1 h2 => by omega, fun _ => by rw [Nat.add_sub_cancel]; exact Bool.eq_false_iff.mpr c⟩
def oI (S : Nat) (m m2 : Int) (l : Nat → Nat) (i : Nat) : Prop := (∀ q, q < i → l q < i) ∧ (∀ x, x < i → ∃ q, q < i ∧ l q = x) ∧ (∀ q r, q < r → r < i → ahB S (l q) (l r) m m2 = true) ∧ (∀ q, q < i → cnt (fun x => ahB S x (l q) m m2) i = q)
def oN (l : Nat → Nat) (h i q : Nat) : Nat := if q < h then l q else if q = h then i else l (q - 1)
theorem oI_next {S : Nat} {m m2 : Int} {l : Nat → Nat} {i : Nat} (H : oI S m m2 l i) {h : Nat} (hh : h = jp (fun q => ahB S i (l q) m m2) i) : oI S m m2 (oN l h i) (i + 1) := by
  obtain ⟨h1, h2, h3, h4⟩ := H
  have hj := jp_le (fun q => ahB S i (l q) m m2) i
  obtain ⟨s1, s2⟩ := jp_sp (p := fun q => ahB S i (l q) m m2) i
  rw [← hh] at hj s1 s2
  -- what stands ahead of the new one
  have hlo : ∀ q, q < h → ahB S (l q) i m m2 = true := fun q hq => by
    have hf : ahB S i (l (h - 1)) m m2 = false := s2 (by omega)
    have h5 := h1 (h - 1) (by omega)
    have h6 : ahB S (l (h - 1)) i m m2 = true := by
      rw [ah_iff]
      have h7 : ¬ ahB S i (l (h - 1)) m m2 = true := by rw [hf]; decide
      rw [ah_iff] at h7
      omega
    by_cases e : q = h - 1
    · subst e; exact h6
    · have h8 := h3 q (h - 1) (by omega) (by omega)
      rw [ah_iff] at h6 h8 ⊢
      omega
  have hhi : ∀ q, h ≤ q → q < i → ahB S i (l q) m m2 = true := s1
  have hc : cnt (fun x => ahB S x i m m2) i = h := by
    rcases Nat.eq_zero_or_pos h with z | z
    · rw [z]
      refine cnt_zero (fun x hx q => ?_)
      obtain ⟨y, hy, e⟩ := h2 x hx
      have h5 := hhi y (by omega) hy
      rw [e] at h5
      rw [ah_iff] at h5 q
      omega
    · have e1 := cnt_upd (f := fun x => ahB S x i m m2) (g := fun x => decide (x ≠ l (h - 1)) && ahB S x i m m2) (e := l (h - 1)) (hlo (h - 1) (by omega)) (by rw [decide_eq_false (fun y => y rfl)]; rfl) (fun x hx => by rw [decide_eq_true hx, Bool.true_and]) i (h1 _ (by omega))
      have e2 : cnt (fun x => decide (x ≠ l (h - 1)) && ahB S x i m m2) i = cnt (fun x => ahB S x (l (h - 1)) m m2) i := cnt_congr i (fun x hx => by
        obtain ⟨y, hy, e⟩ := h2 x hx
        rw [Bool.eq_iff_iff, Bool.and_eq_true, decide_eq_true_iff]
        rcases Nat.lt_or_ge y (h - 1) with r | r
        · have g1 := h3 y (h - 1) r (by omega)
          have g2 := hlo y (by omega)
          rw [e] at g1 g2
          exact ⟨fun _ => g1, fun _ => ⟨fun w => by rw [w] at g1; rw [ah_iff] at g1; omega, g2⟩⟩
        · rcases Nat.eq_or_lt_of_le r with w | w
          · rw [← w] at e
            constructor
            · intro a; exact absurd e.symm a.1
            · intro a; rw [e, ah_iff] at a; omega
          · have g1 := h3 (h - 1) y w hy
            have g2 := hhi y (by omega) hy
            rw [e] at g1 g2
            constructor
            · intro a; have := a.2; rw [ah_iff] at this g2; omega
            · intro a; rw [ah_iff] at a g1; omega)
      rw [e1, e2, h4 (h - 1) (by omega)]
      omega
  have cs : ∀ k, cnt (fun x => ahB S x k m m2) (i + 1) = if ahB S i k m m2 = true then cnt (fun x => ahB S x k m m2) i + 1 else cnt (fun x => ahB S x k m m2) i := fun k => rfl
  have oa : ∀ q, q < h → oN l h i q = l q := fun q hq => if_pos hq
  have ob : oN l h i h = i := by unfold oN; rw [if_neg (Nat.lt_irrefl _), if_pos rfl]
  have oc : ∀ q, h < q → oN l h i q = l (q - 1) := fun q hq => by unfold oN; rw [if_neg (show ¬ q < h by omega), if_neg (show ¬ q = h by omega)]
  refine ⟨fun q hq => ?_, fun x hx => ?_, fun q r hqr hr => ?_, fun q hq => ?_⟩
  · rcases Nat.lt_trichotomy q h with a | a | a
    · rw [oa q a]; have := h1 q (by omega); omega
    · rw [a, ob]; omega
    · rw [oc q a]; have := h1 (q - 1) (by omega); omega
  · by_cases e : x = i
    · exact ⟨h, by omega, by rw [ob]; exact e.symm⟩
    · obtain ⟨y, hy, ey⟩ := h2 x (by omega)
      rcases Nat.lt_or_ge y h with z | z
      · exact ⟨y, by omega, by rw [oa y z]; exact ey⟩
      · exact ⟨y + 1, by omega, by rw [oc (y + 1) (by omega), Nat.add_sub_cancel]; exact ey⟩
  · rcases Nat.lt_trichotomy r h with a | a | a
    · rw [oa r a, oa q (by omega)]
      exact h3 q r hqr (by omega)
    · rw [a, ob, oa q (by omega)]
      exact hlo q (by omega)
    · rw [oc r a]
      rcases Nat.lt_trichotomy q h with c | c | c
      · rw [oa q c]
        exact h3 q (r - 1) (by omega) (by omega)
      · rw [c, ob]
        exact hhi (r - 1) (by omega) (by omega)
      · rw [oc q c]
        exact h3 (q - 1) (r - 1) (by omega) (by omega)
  · rw [cs]
    rcases Nat.lt_trichotomy q h with a | a | a
    · have g := hlo q a
      rw [oa q a, if_neg (fun z => by rw [ah_iff] at z g; omega)]
      exact h4 q (by omega)
    · rw [a, ob, if_neg (fun z => by rw [ah_iff] at z; omega), hc]
    · rw [oc q a, if_pos (hhi (q - 1) (by omega) (by omega)), h4 (q - 1) (by omega)]
      omega
theorem oI_end {S : Nat} {m m2 : Int} {l : Nat → Nat} (H : oI S m m2 l (prs S).length) {p : Nat} (hp : p < (prs S).length) : fst1 (orP S m m2 (p : Int)) (prs S).length = (l p : Int) := by
  obtain ⟨h1, h2, h3, h4⟩ := H
  refine fst1_go _ (l p) (fun k hk q => ?_) (Nat.le_of_lt (h1 p hp)) (decide_eq_true (by rw [h4 p hp])) (h1 p hp)
  have q2 := of_decide_eq_true q
  have hk2 : k < (prs S).length := by have := h1 p hp; omega
  obtain ⟨y, hy, e⟩ := h2 k hk2
  rw [← e, h4 y hy] at q2
  have : y = p := by omega
  subst this
  omega
set_option maxRecDepth 20000 in
set_option maxHeartbeats 4000000 in
theorem y_placed {d : Nat} {G : zG} {A : Int → Int → Int} {P : Option zV → zG → Prop} {y : Int} (hK : yK G y) (hF : yF A y) {s E0 : Int} {S : Nat} (hR : sR G A s E0 1 S) (hL : lG G A) (hgl : gl G < y) (hys : y + 5 < s ∨ s + 45 < y) (hyE : y + 5 < E0) {m m2 : Int} (hm9 : 0 ≤ m ∧ m ≤ 8) (hm29 : 0 ≤ m2 ∧ m2 ≤ 8) {pn : Nat} (hpn : pn < (prs S).length) (k : ∀ B, yQ A B y → P (some (0, fst1 (orP S m m2 (pn : Int)) (prs S).length)) (gw G B)) : ZE (d + 3) M_Ran_placed (gw G A) 0 [(2, y), (2, s), (0, m), (0, m2), (0, (pn : Int)), (9, 0), (9, 0)] [] P := by
  have hy0 := hK.2.1
  have hs0 := hR.K.2.1
  have hL64 := hR.l64
  have hpl : (prL 1 S).length = (prs S).length := by rw [prL_1 hR.s7 hR.p5]
  refine ZE.iconst (n := 0) d_Ran_placed_0 ?_
  refine ZE.istore (ls2 := [(2, y), (2, s), (0, m), (0, m2), (0, (pn : Int)), (0, 0), (9, 0)]) d_Ran_placed_1 (Nat.le_of_ble_eq_true rfl) rfl ?_
  have L3 : ∀ (tt0 : Nat) (i0 : Nat) (A1 : Int → Int → Int) (l : Nat → Nat) (hi : i0 ≤ (prs S).length) (hO : oI S m m2 l i0) (hv1 : ∀ q : Nat, q < i0 → A1 (y + 2) q = msN S q m ∧ A1 (y + 3) q = msN S q m2) (hp1 : ∀ q : Nat, q < i0 → A1 (y + 1) q = (l q : Int)) (hq1 : yQ A A1 y), (prs S).length + 1 - i0 < tt0 → ZE (d + 3) M_Ran_placed (gw G A1) 3 [(2, y), (2, s), (0, m), (0, m2), (0, (pn : Int)), (0, (i0 : Int)), (9, 0)] [] P := by
    intro tt0
    induction tt0 with
    | zero => intro i0 A1 l hi hO hv1 hp1 hq1 hm; exact absurd hm (Nat.not_lt_zero _)
    | succ tt0 ih =>
      intro i0 A1 l hi hO hv1 hp1 hq1 hm
      have hF1 : yF A1 y := hF.ab (hq1 y (by omega))
      have hR1 : sR G A1 s E0 1 S := hR.ab (fun a ha => hq1 a (by omega))
      have hL1 : lG G A1 := hL.ab (hq1 _ (by omega))
      refine ZE.iload d_Ran_placed_3 rfl ?_
      refine ZE.aload_n d_Ran_placed_5 rfl ?_
      refine ZE.getE (v := ((prL 1 S).length : Int)) d_Ran_placed_6 f_Ran_29 (tg := 0) rfl hR.K.1 hR1.n12 ?_
      refine ZE.icmp_ge (tgt := 111) d_Ran_placed_9 rfl (by unfold zR; omega) (by unfold zR; omega) (fun c9 => ?_) (fun c9 => ?_)
      · refine ZE.iload d_Ran_placed_111 rfl ?_
        refine ZE.if_lt (tgt := 136) d_Ran_placed_113 rfl (by unfold zR; omega) (fun c113 => ?_) (fun c113 => ?_)
        · exact absurd c113 (by omega)
        · refine ZE.iload d_Ran_placed_116 rfl ?_
          refine ZE.aload_n d_Ran_placed_118 rfl ?_
          refine ZE.getE (v := y + 1) d_Ran_placed_119 f_Ran_11 (tg := 2) rfl hK.1 hF1.1 ?_
          refine ZE.alenE (v := 64) d_Ran_placed_122 (by have hk0 := hK.2.2.1.1; show 1 ≤ gk G (y + 1) ∧ gk G (y + 1) ≤ 6; omega) hK.2.2.1.2 ?_
          refine ZE.icmp_ge (tgt := 136) d_Ran_placed_123 rfl (by unfold zR; omega) (by unfold zR; omega) (fun c123 => ?_) (fun c123 => ?_)
          · exact absurd c123 (by omega)
          · refine ZE.aload_n d_Ran_placed_126 rfl ?_
            refine ZE.getE (v := y + 1) d_Ran_placed_127 f_Ran_11 (tg := 2) rfl hK.1 hF1.1 ?_
            refine ZE.iload d_Ran_placed_130 rfl ?_
            refine ZE.ialdE (v := (l pn : Int)) d_Ran_placed_132 hK.2.2.1.1 (by have hn0 := hK.2.2.1.2; show 0 ≤ (pn : Int) ∧ (pn : Int) < gn G (y + 1); omega) (hp1 pn (by omega)) ?_
            refine ZE.goto (tgt := 137) d_Ran_placed_133 rfl ?_
            refine ZE.iret d_Ran_placed_137 rfl ?_
            have hie : i0 = (prs S).length := by omega
            subst hie
            rw [oI_end hO hpn] at k
            exact k A1 hq1
      · refine ZE.iload d_Ran_placed_12 rfl ?_
        refine ZE.bipush (n := 64) d_Ran_placed_14 rfl ?_
        refine ZE.icmp_ge (tgt := 111) d_Ran_placed_16 rfl (by unfold zR; omega) (by unfold zR; omega) (fun c16 => ?_) (fun c16 => ?_)
        · exact absurd c16 (by omega)
        · refine ZE.aload_n d_Ran_placed_19 rfl ?_
          refine ZE.getE (v := y + 2) d_Ran_placed_20 f_Ran_15 (tg := 2) rfl hK.1 hF1.2.1 ?_
          refine ZE.iload d_Ran_placed_23 rfl ?_
          refine ZE.aload_n d_Ran_placed_25 rfl ?_
          refine ZE.iload d_Ran_placed_26 rfl ?_
          refine ZE.iload_n d_Ran_placed_28 rfl ?_
          refine ZE.cV [(0, (i0 : Int)), (0, m)] [(0, (i0 : Int)), (2, y + 2)] [(2, s), (0, (i0 : Int)), (0, m), (9, 0)] d_Ran_placed_29 l_Ran_35 rfl rfl rfl rfl rfl rfl hR.K.1 ?_
          refine s_measureOf (d := d) hR1 hL1 (pn := i0) (by omega) hm9 ?_
          show ZE (d + 3) M_Ran_placed (gw G A1) 32 [(2, y), (2, s), (0, m), (0, m2), (0, (pn : Int)), (0, (i0 : Int)), (9, 0)] [(0, msN S i0 m), (0, (i0 : Int)), (2, y + 2)] _
          refine ZE.iast d_Ran_placed_32 hK.2.2.2.1.1 (by have hn0 := hK.2.2.2.1.2; show 0 ≤ (i0 : Int) ∧ (i0 : Int) < gn G (y + 2); omega) ?_
          show ZE (d + 3) M_Ran_placed (gw G (up2 A1 (y + 2) (i0 : Int) (msN S i0 m))) 33 [(2, y), (2, s), (0, m), (0, m2), (0, (pn : Int)), (0, (i0 : Int)), (9, 0)] [] _
          refine ZE.aload_n d_Ran_placed_33 rfl ?_
          refine ZE.getE (v := y + 3) d_Ran_placed_34 f_Ran_18 (tg := 2) rfl hK.1 ((up2_ne _ _ (by omega)).trans hF1.2.2.1) ?_
          refine ZE.iload d_Ran_placed_37 rfl ?_
          refine ZE.aload_n d_Ran_placed_39 rfl ?_
          refine ZE.iload d_Ran_placed_40 rfl ?_
          refine ZE.iload_n d_Ran_placed_42 rfl ?_
          refine ZE.cV [(0, (i0 : Int)), (0, m2)] [(0, (i0 : Int)), (2, y + 3)] [(2, s), (0, (i0 : Int)), (0, m2), (9, 0)] d_Ran_placed_43 l_Ran_35 rfl rfl rfl rfl rfl rfl hR.K.1 ?_
          refine s_measureOf (d := d) (hR1.ab (fun a ha => by rw [up2_A, upA_ne _ _ (by omega)])) (hL1.ab (by rw [up2_A, upA_ne _ _ (by omega)])) (pn := i0) (by omega) hm29 ?_
          show ZE (d + 3) M_Ran_placed (gw G (up2 A1 (y + 2) (i0 : Int) (msN S i0 m))) 46 [(2, y), (2, s), (0, m), (0, m2), (0, (pn : Int)), (0, (i0 : Int)), (9, 0)] [(0, msN S i0 m2), (0, (i0 : Int)), (2, y + 3)] _
          refine ZE.iast d_Ran_placed_46 hK.2.2.2.2.1.1 (by have hn0 := hK.2.2.2.2.1.2; show 0 ≤ (i0 : Int) ∧ (i0 : Int) < gn G (y + 3); omega) ?_
          show ZE (d + 3) M_Ran_placed (gw G (up2 (up2 A1 (y + 2) (i0 : Int) (msN S i0 m)) (y + 3) (i0 : Int) (msN S i0 m2))) 47 [(2, y), (2, s), (0, m), (0, m2), (0, (pn : Int)), (0, (i0 : Int)), (9, 0)] [] _
          have hvN : ∀ q : Nat, q < i0 + 1 → (up2 (up2 A1 (y + 2) (i0 : Int) (msN S i0 m)) (y + 3) (i0 : Int) (msN S i0 m2)) (y + 2) q = msN S q m ∧ (up2 (up2 A1 (y + 2) (i0 : Int) (msN S i0 m)) (y + 3) (i0 : Int) (msN S i0 m2)) (y + 3) q = msN S q m2 := fun q hq => by
            by_cases e : q = i0
            · subst e; exact ⟨by rw [up2_ne _ _ (by omega), up2_at], up2_at _ _ _ _⟩
            · rw [up2_ne _ _ (by omega), up2_ne _ _ (by omega), up2_ne _ _ (by omega), up2_ne _ _ (by omega)]; exact hv1 q (by omega)
          refine ZE.iload d_Ran_placed_47 rfl ?_
          refine ZE.istore (ls2 := [(2, y), (2, s), (0, m), (0, m2), (0, (pn : Int)), (0, (i0 : Int)), (0, (i0 : Int))]) d_Ran_placed_49 (Nat.le_of_ble_eq_true rfl) rfl ?_
          have L51 : ∀ (tt0 : Nat) (h0 : Nat) (A2 : Int → Int → Int) (hh : h0 ≤ i0) (hjp : jp (fun q => ahB S i0 (l q) m m2) i0 = jp (fun q => ahB S i0 (l q) m m2) h0) (hq2 : yQ A A2 y) (hv2 : ∀ q : Nat, q < i0 + 1 → A2 (y + 2) q = msN S q m ∧ A2 (y + 3) q = msN S q m2) (r1 : ∀ q : Nat, q < h0 → A2 (y + 1) q = (l q : Int)) (r2 : ∀ q : Nat, h0 < q → q ≤ i0 → A2 (y + 1) q = (l (q - 1) : Int)), h0 + 1 < tt0 → ZE (d + 3) M_Ran_placed (gw G A2) 51 [(2, y), (2, s), (0, m), (0, m2), (0, (pn : Int)), (0, (i0 : Int)), (0, (h0 : Int))] [] P := by
            intro tt0
            induction tt0 with
            | zero => intro h0 A2 hh hjp hq2 hv2 r1 r2 hm; exact absurd hm (Nat.not_lt_zero _)
            | succ tt0 ih2 =>
              intro h0 A2 hh hjp hq2 hv2 r1 r2 hm
              have hF2 : yF A2 y := hF.ab (hq2 y (by omega))
              refine ZE.iload d_Ran_placed_51 rfl ?_
              refine ZE.if_le (tgt := 96) d_Ran_placed_53 rfl (by unfold zR; omega) (fun c53 => ?_) (fun c53 => ?_)
              · have hstop : 0 < h0 → ¬ ahB S i0 (l (h0 - 1)) m m2 = true := by omega
                refine ZE.aload_n d_Ran_placed_96 rfl ?_
                refine ZE.getE (v := y + 1) d_Ran_placed_97 f_Ran_11 (tg := 2) rfl hK.1 hF2.1 ?_
                refine ZE.iload d_Ran_placed_100 rfl ?_
                refine ZE.iload d_Ran_placed_102 rfl ?_
                refine ZE.iast d_Ran_placed_104 hK.2.2.1.1 (by have hn0 := hK.2.2.1.2; show 0 ≤ (h0 : Int) ∧ (h0 : Int) < gn G (y + 1); omega) ?_
                show ZE (d + 3) M_Ran_placed (gw G (up2 A2 (y + 1) (h0 : Int) (i0 : Int))) 105 [(2, y), (2, s), (0, m), (0, m2), (0, (pn : Int)), (0, (i0 : Int)), (0, (h0 : Int))] [] _
                refine ZE.iinc (ls2 := [(2, y), (2, s), (0, m), (0, m2), (0, (pn : Int)), (0, (i0 : Int) + 1), (0, (h0 : Int))]) d_Ran_placed_105 rfl rfl ?_
                refine ZE.goto (tgt := 3) d_Ran_placed_108 rfl ?_
                refine ZE.mask [true, true, true, true, true, true, false] ?_
                show ZE (d + 3) M_Ran_placed (gw G (up2 A2 (y + 1) (h0 : Int) (i0 : Int))) 3 [(2, y), (2, s), (0, m), (0, m2), (0, (pn : Int)), (0, (i0 : Int) + 1), (9, 0)] [] _
                rw [show (i0 : Int) + 1 = ((i0 + 1 : Nat) : Int) by omega]
                have hjf : jp (fun q => ahB S i0 (l q) m m2) i0 = h0 := by
                  rw [hjp]
                  rcases Nat.eq_zero_or_pos h0 with z | z
                  · subst z; rfl
                  · obtain ⟨x, rfl⟩ : ∃ x, h0 = x + 1 := ⟨h0 - 1, by omega⟩
                    exact jp_f (Bool.eq_false_iff.mpr (hstop (by omega)))
                refine ih (i0 + 1) _ (oN l h0 i0) (by omega) (by rw [← hjf]; exact oI_next hO rfl) (fun q hq => ?_) (fun q hq => ?_) ((hq2.tr (yQ.u (by omega)))) (by omega)
                · rw [up2_ne _ _ (by omega), up2_ne _ _ (by omega)]; exact hv2 q (by omega)
                · unfold oN
                  by_cases c : q < h0
                  · rw [if_pos c, up2_ne _ _ (by omega)]; exact r1 q c
                  · rw [if_neg c]
                    by_cases e : q = h0
                    · subst e; rw [if_pos rfl, up2_at]
                    · rw [if_neg e, up2_ne _ _ (by omega)]; exact r2 q (by omega) (by omega)
              · refine ZE.aload_n d_Ran_placed_56 rfl ?_
                refine ZE.iload d_Ran_placed_57 rfl ?_
                refine ZE.aload_n d_Ran_placed_59 rfl ?_
                refine ZE.getE (v := y + 1) d_Ran_placed_60 f_Ran_11 (tg := 2) rfl hK.1 hF2.1 ?_
                refine ZE.iload d_Ran_placed_63 rfl ?_
                refine ZE.iconst (n := 1) d_Ran_placed_65 ?_
                refine ZE.isub d_Ran_placed_66 ?_
                rw [show ((h0 : Int) - 1 : Int) = ((h0 - 1 : Nat) : Int) from (by omega)]
                refine ZE.ialdE (v := (l (h0 - 1) : Int)) d_Ran_placed_67 hK.2.2.1.1 (by have hn0 := hK.2.2.1.2; show 0 ≤ ((h0 - 1 : Nat) : Int) ∧ ((h0 - 1 : Nat) : Int) < gn G (y + 1); omega) (r1 (h0 - 1) (by omega)) ?_
                have hlh := hO.1 (h0 - 1) (by omega)
                have hz1 := msN_R hR.s7 hR.p5 (k := i0) (by omega) m
                have hz2 := msN_R hR.s7 hR.p5 (k := i0) (by omega) m2
                have hz3 := msN_R hR.s7 hR.p5 (k := l (h0 - 1)) (by omega) m
                have hz4 := msN_R hR.s7 hR.p5 (k := l (h0 - 1)) (by omega) m2
                refine ZE.cV [(0, (i0 : Int)), (0, (l (h0 - 1) : Int))] [] [(2, y), (0, (i0 : Int)), (0, (l (h0 - 1) : Int))] d_Ran_placed_68 l_Ran_39 rfl rfl rfl rfl rfl rfl hK.1 ?_
                refine y_isAhead (d := d + 2) hK hF2 (i1 := i0) (k1 := l (h0 - 1)) (by omega) (by omega) (hv2 i0 (by omega)).1 (hv2 (l (h0 - 1)) (by omega)).1 (hv2 i0 (by omega)).2 (hv2 (l (h0 - 1)) (by omega)).2 (by unfold zR; omega) ?_
                show ZE (d + 3) M_Ran_placed (gw G A2) 71 [(2, y), (2, s), (0, m), (0, m2), (0, (pn : Int)), (0, (i0 : Int)), (0, (h0 : Int))] [(0, b2i (msN S i0 m < msN S (l (h0 - 1)) m ∨ (msN S i0 m = msN S (l (h0 - 1)) m ∧ msN S i0 m2 < msN S (l (h0 - 1)) m2)))] _
                refine ZE.if_eq (tgt := 96) d_Ran_placed_71 rfl (zR_b2i _) (fun c71 => ?_) (fun c71 => ?_)
                · replace c71 := b2i_0.mp c71
                  have hstop : 0 < h0 → ¬ ahB S i0 (l (h0 - 1)) m m2 = true := fun _ z => by rw [ah_iff] at z; omega
                  refine ZE.aload_n d_Ran_placed_96 rfl ?_
                  refine ZE.getE (v := y + 1) d_Ran_placed_97 f_Ran_11 (tg := 2) rfl hK.1 hF2.1 ?_
                  refine ZE.iload d_Ran_placed_100 rfl ?_
                  refine ZE.iload d_Ran_placed_102 rfl ?_
                  refine ZE.iast d_Ran_placed_104 hK.2.2.1.1 (by have hn0 := hK.2.2.1.2; show 0 ≤ (h0 : Int) ∧ (h0 : Int) < gn G (y + 1); omega) ?_
                  show ZE (d + 3) M_Ran_placed (gw G (up2 A2 (y + 1) (h0 : Int) (i0 : Int))) 105 [(2, y), (2, s), (0, m), (0, m2), (0, (pn : Int)), (0, (i0 : Int)), (0, (h0 : Int))] [] _
                  refine ZE.iinc (ls2 := [(2, y), (2, s), (0, m), (0, m2), (0, (pn : Int)), (0, (i0 : Int) + 1), (0, (h0 : Int))]) d_Ran_placed_105 rfl rfl ?_
                  refine ZE.goto (tgt := 3) d_Ran_placed_108 rfl ?_
                  refine ZE.mask [true, true, true, true, true, true, false] ?_
                  show ZE (d + 3) M_Ran_placed (gw G (up2 A2 (y + 1) (h0 : Int) (i0 : Int))) 3 [(2, y), (2, s), (0, m), (0, m2), (0, (pn : Int)), (0, (i0 : Int) + 1), (9, 0)] [] _
                  rw [show (i0 : Int) + 1 = ((i0 + 1 : Nat) : Int) by omega]
                  have hjf : jp (fun q => ahB S i0 (l q) m m2) i0 = h0 := by
                    rw [hjp]
                    rcases Nat.eq_zero_or_pos h0 with z | z
                    · subst z; rfl
                    · obtain ⟨x, rfl⟩ : ∃ x, h0 = x + 1 := ⟨h0 - 1, by omega⟩
                      exact jp_f (Bool.eq_false_iff.mpr (hstop (by omega)))
                  refine ih (i0 + 1) _ (oN l h0 i0) (by omega) (by rw [← hjf]; exact oI_next hO rfl) (fun q hq => ?_) (fun q hq => ?_) ((hq2.tr (yQ.u (by omega)))) (by omega)
                  · rw [up2_ne _ _ (by omega), up2_ne _ _ (by omega)]; exact hv2 q (by omega)
                  · unfold oN
                    by_cases c : q < h0
                    · rw [if_pos c, up2_ne _ _ (by omega)]; exact r1 q c
                    · rw [if_neg c]
                      by_cases e : q = h0
                      · subst e; rw [if_pos rfl, up2_at]
                      · rw [if_neg e, up2_ne _ _ (by omega)]; exact r2 q (by omega) (by omega)
                · replace c71 := b2i_n0.mp c71
                  have hah : ahB S i0 (l (h0 - 1)) m m2 = true := by rw [ah_iff]; omega
                  refine ZE.aload_n d_Ran_placed_74 rfl ?_
                  refine ZE.getE (v := y + 1) d_Ran_placed_75 f_Ran_11 (tg := 2) rfl hK.1 hF2.1 ?_
                  refine ZE.iload d_Ran_placed_78 rfl ?_
                  refine ZE.aload_n d_Ran_placed_80 rfl ?_
                  refine ZE.getE (v := y + 1) d_Ran_placed_81 f_Ran_11 (tg := 2) rfl hK.1 hF2.1 ?_
                  refine ZE.iload d_Ran_placed_84 rfl ?_
                  refine ZE.iconst (n := 1) d_Ran_placed_86 ?_
                  refine ZE.isub d_Ran_placed_87 ?_
                  rw [show ((h0 : Int) - 1 : Int) = ((h0 - 1 : Nat) : Int) from (by omega)]
                  refine ZE.ialdE (v := (l (h0 - 1) : Int)) d_Ran_placed_88 hK.2.2.1.1 (by have hn0 := hK.2.2.1.2; show 0 ≤ ((h0 - 1 : Nat) : Int) ∧ ((h0 - 1 : Nat) : Int) < gn G (y + 1); omega) (r1 (h0 - 1) (by omega)) ?_
                  refine ZE.iast d_Ran_placed_89 hK.2.2.1.1 (by have hn0 := hK.2.2.1.2; show 0 ≤ (h0 : Int) ∧ (h0 : Int) < gn G (y + 1); omega) ?_
                  show ZE (d + 3) M_Ran_placed (gw G (up2 A2 (y + 1) (h0 : Int) (l (h0 - 1) : Int))) 90 [(2, y), (2, s), (0, m), (0, m2), (0, (pn : Int)), (0, (i0 : Int)), (0, (h0 : Int))] [] _
                  refine ZE.iinc (ls2 := [(2, y), (2, s), (0, m), (0, m2), (0, (pn : Int)), (0, (i0 : Int)), (0, (h0 : Int) + (-1))]) d_Ran_placed_90 rfl rfl ?_
                  refine ZE.goto (tgt := 51) d_Ran_placed_93 rfl ?_
                  rw [show (h0 : Int) + (-1) = ((h0 - 1 : Nat) : Int) by omega]
                  refine ih2 (h0 - 1) _ (by omega) ?_ (hq2.tr (yQ.u (by omega))) (fun q hq => ?_) (fun q hq => ?_) (fun q hq1 hq3 => ?_) (by omega)
                  · rw [hjp]
                    obtain ⟨x, rfl⟩ : ∃ x, h0 = x + 1 := ⟨h0 - 1, by omega⟩
                    rw [Nat.add_sub_cancel]
                    exact jp_t hah
                  · rw [up2_ne _ _ (by omega), up2_ne _ _ (by omega)]; exact hv2 q hq
                  · rw [up2_ne _ _ (by omega)]; exact r1 q (by omega)
                  · by_cases e : q = h0
                    · subst e; rw [up2_at]
                    · rw [up2_ne _ _ (by omega)]; exact r2 q (by omega) hq3
          exact L51 _ i0 _ (Nat.le_refl _) rfl ((hq1.tr (yQ.u (by omega))).tr (yQ.u (by omega))) hvN (fun q hq => by rw [up2_ne _ _ (by omega), up2_ne _ _ (by omega)]; exact hp1 q hq) (fun q a b => by omega) (Nat.lt_succ_self _)
  exact L3 _ 0 A (fun _ => 0) (Nat.zero_le _) ⟨fun q h => absurd h (Nat.not_lt_zero _), fun q h => absurd h (Nat.not_lt_zero _), fun q r _ h => absurd h (Nat.not_lt_zero _), fun q h => absurd h (Nat.not_lt_zero _)⟩ (fun q h => absurd h (Nat.not_lt_zero _)) (fun q h => absurd h (Nat.not_lt_zero _)) yQ.rf (Nat.lt_succ_self _)
