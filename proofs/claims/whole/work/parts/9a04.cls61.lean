theorem eS.f {A : Int → Int → Int} {g : Int} {S n : Nat} (h : eS A g S n) : eF A g := h.1
/-- what Greats may hold: nothing yet, or the first n + 1 numbers of a set -/
def eW (A : Int → Int → Int) (g : Int) : Prop := eF A g ∧ (A g 5 = -1 ∨ ∃ S n : Nat, S < 128 ∧ n ≤ 400 ∧ (S = 0 → n = 0) ∧ eS A g S n)
set_option maxRecDepth 20000 in
set_option maxHeartbeats 4000000 in
theorem e_reachesA {d : Nat} {G : zG} {A : Int → Int → Int} {P : Option zV → zG → Prop} {g : Int} (hK : eK G g) (hL : lG G A) (hgl : gl G < g) {S n0 : Nat} (hS7 : S < 128) (hn0 : n0 ≤ 400) (hS0n : S = 0 → n0 = 0) (hE : eS A g S n0) {k1 : Nat} (hk1 : k1 ≤ 400) (k : ∀ B (n : Nat), eS B g S n → n ≤ 400 → (S = 0 → n = 0) → ((k1 = 0 ∨ S ≠ 0) → k1 ≤ n) → (∀ a : Int, (a < g ∨ g + 20 < a) → B a = A a) → P (some (0, b2i (k1 = 0 ∨ S ≠ 0))) (gw G B)) : ZE (d + 4) M_Gre_reaches (gw G A) 26 [(2, g), (0, (k1 : Int)), (0, (S : Int)), (9, 0)] [] P := by
  have hg0 := hK.2.1
  refine ZE.aload_n d_Gre_reaches_26 rfl ?_
  refine ZE.getE (v := ((n0 + 1 : Nat) : Int)) d_Gre_reaches_27 f_Gre_43 (tg := 0) rfl hK.1 hE.2.2.1 ?_
  refine ZE.istore_n (ls2 := [(2, g), (0, (k1 : Int)), (0, (S : Int)), (0, ((n0 + 1 : Nat) : Int))]) d_Gre_reaches_30 (Nat.le_of_ble_eq_true rfl) rfl ?_
  have L31 : ∀ (tt0 : Nat) (n1 : Nat) (A1 : Int → Int → Int) (hn1 : n1 ≤ 400) (hE1 : eS A1 g S n1) (g1 : ∀ a : Int, (a < g ∨ g + 20 < a) → A1 a = A a) (hS01 : S = 0 → n1 = 0), 401 - n1 < tt0 → ZE (d + 4) M_Gre_reaches (gw G A1) 31 [(2, g), (0, (k1 : Int)), (0, (S : Int)), (0, ((n1 + 1 : Nat) : Int))] [] P := by
    intro tt0
    induction tt0 with
    | zero => intro n1 A1 hn1 hE1 g1 hS01 hm; exact absurd hm (Nat.not_lt_zero _)
    | succ tt0 ih =>
      intro n1 A1 hn1 hE1 g1 hS01 hm
      have hL1 : lG G A1 := ⟨hL.1, hL.2.1, fun q => (congrFun (g1 _ (Or.inl hgl)) _).trans (hL.2.2 q)⟩
      refine ZE.iload_n d_Gre_reaches_31 rfl ?_
      refine ZE.iload_n d_Gre_reaches_32 rfl ?_
      refine ZE.icmp_gt (tgt := 53) d_Gre_reaches_33 rfl (by unfold zR; omega) (by unfold zR; omega) (fun c33 => ?_) (fun c33 => ?_)
      · refine ZE.iload_n d_Gre_reaches_53 rfl ?_
        refine ZE.aload_n d_Gre_reaches_54 rfl ?_
        refine ZE.getE (v := ((n1 + 1 : Nat) : Int)) d_Gre_reaches_55 f_Gre_43 (tg := 0) rfl hK.1 hE1.2.2.1 ?_
        refine ZE.icmp_ge (tgt := 65) d_Gre_reaches_58 rfl (by unfold zR; omega) (by unfold zR; omega) (fun c58 => ?_) (fun c58 => ?_)
        · refine ZE.iconst (n := 0) d_Gre_reaches_65 ?_
          refine ZE.zret d_Gre_reaches_66 rfl (by omega) ?_
          have hS00 : S = 0 := by omega
          have hn00 := hS01 hS00
          have hno : ¬ (k1 = 0 ∨ S ≠ 0) := by omega
          have k9 := k A1 n1 hE1 hn1 hS01 (fun y => absurd y hno) g1
          rw [b2i_f hno] at k9
          exact k9
        · refine ZE.iconst (n := 1) d_Gre_reaches_61 ?_
          refine ZE.goto (tgt := 66) d_Gre_reaches_62 rfl ?_
          refine ZE.zret d_Gre_reaches_66 rfl (by omega) ?_
          have k9 := k A1 n1 hE1 hn1 hS01 (fun _ => by omega) g1
          rw [b2i_t (show k1 = 0 ∨ S ≠ 0 from ?_)] at k9
          · exact k9
          · rcases Nat.eq_zero_or_pos k1 with z | z
            · exact Or.inl z
            · exact Or.inr (fun y => by have := hS01 y; omega)
      · refine ZE.aload_n d_Gre_reaches_36 rfl ?_
        refine ZE.getE (v := (S : Int)) d_Gre_reaches_37 f_Gre_36 (tg := 0) rfl hK.1 hE1.2.1 ?_
        refine ZE.if_eq (tgt := 53) d_Gre_reaches_40 rfl (by unfold zR; omega) (fun c40 => ?_) (fun c40 => ?_)
        · refine ZE.iload_n d_Gre_reaches_53 rfl ?_
          refine ZE.aload_n d_Gre_reaches_54 rfl ?_
          refine ZE.getE (v := ((n1 + 1 : Nat) : Int)) d_Gre_reaches_55 f_Gre_43 (tg := 0) rfl hK.1 hE1.2.2.1 ?_
          refine ZE.icmp_ge (tgt := 65) d_Gre_reaches_58 rfl (by unfold zR; omega) (by unfold zR; omega) (fun c58 => ?_) (fun c58 => ?_)
          · refine ZE.iconst (n := 0) d_Gre_reaches_65 ?_
            refine ZE.zret d_Gre_reaches_66 rfl (by omega) ?_
            have hS00 : S = 0 := by omega
            have hn00 := hS01 hS00
            have hno : ¬ (k1 = 0 ∨ S ≠ 0) := by omega
            have k9 := k A1 n1 hE1 hn1 hS01 (fun y => absurd y hno) g1
            rw [b2i_f hno] at k9
            exact k9
          · refine ZE.iconst (n := 1) d_Gre_reaches_61 ?_
            refine ZE.goto (tgt := 66) d_Gre_reaches_62 rfl ?_
            refine ZE.zret d_Gre_reaches_66 rfl (by omega) ?_
            have k9 := k A1 n1 hE1 hn1 hS01 (fun _ => by omega) g1
            rw [b2i_t (show k1 = 0 ∨ S ≠ 0 from ?_)] at k9
            · exact k9
            · rcases Nat.eq_zero_or_pos k1 with z | z
              · exact Or.inl z
              · exact Or.inr (fun y => by have := hS01 y; omega)
        · refine ZE.aload_n d_Gre_reaches_43 rfl ?_
          refine ZE.cV [] [] [(2, g), (9, 0), (9, 0)] d_Gre_reaches_44 l_Gre_46 rfl rfl rfl rfl rfl rfl hK.1 ?_
          refine e_goOn (d := d) hK hL1 hgl hS7 (by omega) (by omega) hE1 (fun B hB gB => ?_)
          show ZE (d + 4) M_Gre_reaches (gw G B) 47 [(2, g), (0, (k1 : Int)), (0, (S : Int)), (0, ((n1 + 1 : Nat) : Int))] [] _
          refine ZE.iinc (ls2 := [(2, g), (0, (k1 : Int)), (0, (S : Int)), (0, ((n1 + 1 : Nat) : Int) + 1)]) d_Gre_reaches_47 rfl rfl ?_
          refine ZE.goto (tgt := 31) d_Gre_reaches_50 rfl ?_
          rw [show ((n1 + 1 : Nat) : Int) + 1 = ((n1 + 1 + 1 : Nat) : Int) by omega]
          exact ih (n1 + 1) B (by omega) hB (fun a ha => (gB a ha).trans (g1 a ha)) (fun y => by omega) (by omega)
  exact L31 _ n0 A hn0 hE (fun _ _ => rfl) hS0n (Nat.lt_succ_self _)
set_option maxRecDepth 20000 in
set_option maxHeartbeats 4000000 in
theorem e_reachesNo {d : Nat} {G : zG} {A : Int → Int → Int} {P : Option zV → zG → Prop} {g : Int} {k1 s1 : Int} (hk : zR k1) (hno : ¬ (0 ≤ k1 ∧ k1 ≤ 400)) (k : P (some (0, 0)) (gw G A)) : ZE d M_Gre_reaches (gw G A) 0 [(2, g), (0, k1), (0, s1), (9, 0)] [] P := by
  refine ZE.iload_n d_Gre_reaches_0 rfl ?_
  refine ZE.if_lt (tgt := 11) d_Gre_reaches_1 rfl hk (fun c1 => ?_) (fun c1 => ?_)
  · refine ZE.iconst (n := 0) d_Gre_reaches_11 ?_
    refine ZE.zret d_Gre_reaches_12 rfl (Or.inl rfl) ?_
    exact k
  · refine ZE.iload_n d_Gre_reaches_4 rfl ?_
    refine ZE.sipush (n := 400) d_Gre_reaches_5 rfl ?_
    refine ZE.icmp_le (tgt := 13) d_Gre_reaches_8 rfl hk (by unfold zR; omega) (fun c8 => ?_) (fun c8 => ?_)
    · exact absurd c8 (by omega)
    · refine ZE.iconst (n := 0) d_Gre_reaches_11 ?_
      refine ZE.zret d_Gre_reaches_12 rfl (Or.inl rfl) ?_
      exact k
set_option maxRecDepth 20000 in
set_option maxHeartbeats 4000000 in
theorem e_reachesYes {d : Nat} {G : zG} {A : Int → Int → Int} {P : Option zV → zG → Prop} {g : Int} (hK : eK G g) (hF : eF A g) (hL : lG G A) (hgl : gl G < g) {S : Nat} (hS7 : S < 128) {b0 : Int} (hb0 : A g 5 = b0) (hbR : zR b0) (hsame : b0 = (S : Int) → ∃ n0 : Nat, n0 ≤ 400 ∧ (S = 0 → n0 = 0) ∧ eS A g S n0) {k1 : Nat} (hk1 : k1 ≤ 400) (k : ∀ B (n : Nat), eS B g S n → n ≤ 400 → (S = 0 → n = 0) → ((k1 = 0 ∨ S ≠ 0) → k1 ≤ n) → (∀ a : Int, (a < g ∨ g + 20 < a) → B a = A a) → P (some (0, b2i (k1 = 0 ∨ S ≠ 0))) (gw G B)) : ZE (d + 4) M_Gre_reaches (gw G A) 0 [(2, g), (0, (k1 : Int)), (0, (S : Int)), (9, 0)] [] P := by
  refine ZE.iload_n d_Gre_reaches_0 rfl ?_
  refine ZE.if_lt (tgt := 11) d_Gre_reaches_1 rfl (by unfold zR; omega) (fun c1 => ?_) (fun c1 => ?_)
  · exact absurd c1 (by omega)
  · refine ZE.iload_n d_Gre_reaches_4 rfl ?_
    refine ZE.sipush (n := 400) d_Gre_reaches_5 rfl ?_
    refine ZE.icmp_le (tgt := 13) d_Gre_reaches_8 rfl (by unfold zR; omega) (by unfold zR; omega) (fun c8 => ?_) (fun c8 => ?_)
    · refine ZE.aload_n d_Gre_reaches_13 rfl ?_
      refine ZE.getE (v := b0) d_Gre_reaches_14 f_Gre_36 (tg := 0) rfl hK.1 hb0 ?_
      refine ZE.iload_n d_Gre_reaches_17 rfl ?_
      refine ZE.icmp_eq (tgt := 26) d_Gre_reaches_18 rfl hbR (by unfold zR; omega) (fun c18 => ?_) (fun c18 => ?_)
      · obtain ⟨n0, z1, z2, z3⟩ := hsame (by omega)
        exact e_reachesA hK hL hgl hS7 z1 z2 z3 hk1 k
      · refine ZE.aload_n d_Gre_reaches_21 rfl ?_
        refine ZE.iload_n d_Gre_reaches_22 rfl ?_
        refine ZE.cV [(0, (S : Int))] [] [(2, g), (0, (S : Int)), (9, 0)] d_Gre_reaches_23 l_Gre_40 rfl rfl rfl rfl rfl rfl hK.1 ?_
        refine e_begin (d := d) hK hF hL hgl hS7 (fun B hB gB => ?_)
        show ZE (d + 4) M_Gre_reaches (gw G B) 26 [(2, g), (0, (k1 : Int)), (0, (S : Int)), (9, 0)] [] _
        exact e_reachesA hK ⟨hL.1, hL.2.1, fun q => (congrFun (gB _ (Or.inl hgl)) _).trans (hL.2.2 q)⟩ hgl hS7 (by omega) (fun _ => rfl) hB hk1 (fun C n q1 q2 q5 q3 q4 => k C n q1 q2 q5 q3 (fun a ha => (q4 a ha).trans (gB a ha)))
    · exact absurd c8 (by omega)
set_option maxRecDepth 20000 in
set_option maxHeartbeats 4000000 in
theorem e_shown {d : Nat} {G : zG} {A : Int → Int → Int} {P : Option zV → zG → Prop} {g : Int} (hK : eK G g) {S n : Nat} (hn : n ≤ 400) (hE : eS A g S n) {q : Nat} (hq : q ≤ n) (k : ∀ B, bF A B (g + 5) → bN B (g + 5) (gN S q) → eS B g S n → P (some (2, g + 5)) (gw G B)) : ZE (d + 1) M_Gre_shown (gw G A) 0 [(2, g), (0, (q : Int))] [] P := by
  refine ZE.aload_n d_Gre_shown_0 rfl ?_
  refine ZE.getE (v := g + 5) d_Gre_shown_1 f_Gre_32 (tg := 2) rfl hK.1 hE.1.2.2.2.2.1 ?_
  refine ZE.aload_n d_Gre_shown_4 rfl ?_
  refine ZE.getE (v := g + 1) d_Gre_shown_5 f_Gre_11 (tg := 2) rfl hK.1 hE.1.1 ?_
  refine ZE.iload_n d_Gre_shown_8 rfl ?_
  refine ZE.bipush (n := 58) d_Gre_shown_9 rfl ?_
  refine ZE.imul d_Gre_shown_11 ?_
  rw [show ((q : Int) * 58 : Int) = ((58 * q : Nat) : Int) from (by omega)]
  refine ZE.iload_n d_Gre_shown_12 rfl ?_
  refine ZE.if_lt (tgt := 34) d_Gre_shown_13 rfl (by unfold zR; omega) (fun c13 => ?_) (fun c13 => ?_)
  · exact absurd c13 (by omega)
  · refine ZE.iload_n d_Gre_shown_16 rfl ?_
    refine ZE.aload_n d_Gre_shown_17 rfl ?_
    refine ZE.getE (v := g + 2) d_Gre_shown_18 f_Gre_15 (tg := 2) rfl hK.1 hE.1.2.1 ?_
    refine ZE.alenE (v := 401) d_Gre_shown_21 (by have hk0 := hK.2.2.2.1.1; show 1 ≤ gk G (g + 2) ∧ gk G (g + 2) ≤ 6; omega) hK.2.2.2.1.2 ?_
    refine ZE.icmp_ge (tgt := 34) d_Gre_shown_22 rfl (by unfold zR; omega) (by unfold zR; omega) (fun c22 => ?_) (fun c22 => ?_)
    · exact absurd c22 (by omega)
    · refine ZE.aload_n d_Gre_shown_25 rfl ?_
      refine ZE.getE (v := g + 2) d_Gre_shown_26 f_Gre_15 (tg := 2) rfl hK.1 hE.1.2.1 ?_
      refine ZE.iload_n d_Gre_shown_29 rfl ?_
      refine ZE.ialdE (v := (nd 1000000000 (gN S q) : Int)) d_Gre_shown_30 hK.2.2.2.1.1 (by have hn0 := hK.2.2.2.1.2; show 0 ≤ (q : Int) ∧ (q : Int) < gn G (g + 2); omega) (hE.2.2.2.1 q hq).1 ?_
      refine ZE.goto (tgt := 35) d_Gre_shown_31 rfl ?_
      have hg0 := hK.2.1
      have hN := (gN_9 (S := S) (q := q) (by omega)).1
      refine ZE.cV [(2, g + 1), (0, ((58 * q : Nat) : Int)), (0, (nd 1000000000 (gN S q) : Int))] [] [(2, g + 5), (2, g + 1), (0, ((58 * q : Nat) : Int)), (0, (nd 1000000000 (gN S q) : Int)), (9, 0)] d_Gre_shown_35 l_Gre_49 rfl rfl rfl rfl rfl rfl hK.2.2.2.2.2.2.1.1 ?_
      refine B_load (d := d) hK.2.2.2.2.2.2.1 hE.1.2.2.2.2.2.2.1 hK.2.2.1.1 hK.2.2.1.2 (len := 23258) (fr := 58 * q) (by omega) (hE.2.2.2.1 q hq).2 (by omega) (by omega) (by omega) (fun B gB nB => ?_)
      show ZE (d + 1) M_Gre_shown (gw G B) 38 [(2, g), (0, (q : Int))] [] _
      have hEB : eS B g S n := ⟨hE.1.ab (fun i _ => congrFun (gB g (by omega) (by omega)) i) (gB _ (by omega) (by omega)) nB.1 (fun c hc => (congrFun (gB _ (by omega) (by omega)) _).trans (hE.1.2.2.2.2.2.2.2 c hc)), (congrFun (gB g (by omega) (by omega)) _).trans hE.2.1, (congrFun (gB g (by omega) (by omega)) _).trans hE.2.2.1, fun c hc => (hE.2.2.2.1 c hc).ab (gB _ (by omega) (by omega)) (gB _ (by omega) (by omega)), fun c hc => (congrFun (gB _ (by omega) (by omega)) _).trans (hE.2.2.2.2.1 c hc), fun c hc => (hE.2.2.2.2.2.1 c hc).ab (fun a ha => gB a (by omega) (by omega)), _, nB⟩
      refine ZE.aload_n d_Gre_shown_38 rfl ?_
      refine ZE.getE (v := g + 5) d_Gre_shown_39 f_Gre_32 (tg := 2) rfl hK.1 hEB.1.2.2.2.2.1 ?_
      refine ZE.aret d_Gre_shown_42 ⟨_, rfl⟩ ?_
      exact k B gB nB hEB
