def eS (A : Int → Int → Int) (g : Int) (S n : Nat) : Prop := eF A g ∧ A g 5 = (S : Int) ∧ A g 6 = ((n + 1 : Nat) : Int) ∧ (∀ q : Nat, q ≤ n → eRow A g q (gN S q)) ∧ (∀ k : Nat, k < 7 → A (g + 3) k = ((gst S n).2 k : Int)) ∧ (∀ k : Nat, k < 7 → bN A (g + 7 + 2 * (k : Int)) (gN S ((gst S n).2 k) * sev k)) ∧ ∃ v, bN A (g + 5) v
def eX (S n k : Nat) : Nat := gN S ((gst S n).2 k) * sev k
theorem eX_gm {S n : Nat} : ∀ j, gmF S (gst S n).1 (gst S n).2 (j + 1) = if S.testBit j = true then (if gmF S (gst S n).1 (gst S n).2 j ≠ 0 ∧ ¬ eX S n j < gmF S (gst S n).1 (gst S n).2 j then gmF S (gst S n).1 (gst S n).2 j else eX S n j) else gmF S (gst S n).1 (gst S n).2 j := fun j => by
  unfold eX
  rw [← gst_at S n _ (gst_nx S n j)]
  rfl
theorem eX_nx {S n k : Nat} : (gst S (n + 1)).2 k = if S.testBit k = true ∧ eX S n k = gN S (n + 1) then (gst S n).2 k + 1 else (gst S n).2 k := by
  unfold eX
  rw [← gst_at S n _ (gst_nx S n k), gN_s]
  rfl
theorem eRow.ab {A B : Int → Int → Int} {g : Int} {q v : Nat} (h : eRow A g q v) (e1 : B (g + 1) = A (g + 1)) (e2 : B (g + 2) = A (g + 2)) : eRow B g q v := by unfold eRow; rw [e1, e2]; exact h
def eL (S n j : Nat) (l1 : Int) : Prop := (l1 = -1 ∧ gmF S (gst S n).1 (gst S n).2 j = 0) ∨ ∃ i : Nat, i < j ∧ l1 = (i : Int) ∧ S.testBit i = true ∧ eX S n i = gmF S (gst S n).1 (gst S n).2 j
theorem gst0_nx (S k : Nat) : (gst S 0).2 k = 0 := rfl
theorem gN_0 (S : Nat) : gN S 0 = 1 := rfl
set_option maxRecDepth 20000 in
set_option maxHeartbeats 4000000 in
theorem e_begin {d : Nat} {G : zG} {A : Int → Int → Int} {P : Option zV → zG → Prop} {g : Int} (hK : eK G g) (hF : eF A g) (hL : lG G A) (hgl : gl G < g) {S : Nat} (hS7 : S < 128) (k : ∀ B, eS B g S 0 → (∀ a : Int, (a < g ∨ g + 20 < a) → B a = A a) → P none (gw G B)) : ZE (d + 3) M_Gre_begin (gw G A) 0 [(2, g), (0, (S : Int)), (9, 0)] [] P := by
  have hg0 := hK.2.1
  have hb5 := hK.2.2.2.2.2.2.1
  have hX : ∀ a : Int, a ≠ g → (up2 (up2 A g 5 (S : Int)) g 6 0) a = A a := fun a h1 => by rw [up2_A, upA_ne _ _ h1, up2_A, upA_ne _ _ h1]
  refine ZE.aload_n d_Gre_begin_0 rfl ?_
  refine ZE.iload_n d_Gre_begin_1 rfl ?_
  refine ZE.put d_Gre_begin_2 f_Gre_36 (tg := 0) rfl trivial (Or.inl ⟨_, _, _, rfl, rfl, rfl⟩) hK.1 ?_
  show ZE (d + 3) M_Gre_begin (gw G (up2 A g 5 (S : Int))) 5 [(2, g), (0, (S : Int)), (9, 0)] [] _
  refine ZE.aload_n d_Gre_begin_5 rfl ?_
  refine ZE.iconst (n := 0) d_Gre_begin_6 ?_
  refine ZE.put d_Gre_begin_7 f_Gre_43 (tg := 0) rfl trivial (Or.inl ⟨_, _, _, rfl, rfl, rfl⟩) hK.1 ?_
  show ZE (d + 3) M_Gre_begin (gw G (up2 (up2 A g 5 (S : Int)) g 6 0)) 10 [(2, g), (0, (S : Int)), (9, 0)] [] _
  refine ZE.aload_n d_Gre_begin_10 rfl ?_
  refine ZE.getE (v := g + 5) d_Gre_begin_11 f_Gre_32 (tg := 2) rfl hK.1 ((up2_ne _ _ (by omega)).trans ((up2_ne _ _ (by omega)).trans hF.2.2.2.2.1)) ?_
  refine ZE.iconst (n := 1) d_Gre_begin_14 ?_
  refine ZE.cV [(0, 1)] [] [(2, g + 5), (0, 1)] d_Gre_begin_15 l_Gre_53 rfl rfl rfl rfl rfl rfl hK.2.2.2.2.2.2.1.1 ?_
  refine B_setTo (d := d + 2) hb5 ((congrFun (hX _ (by omega)) _).trans hF.2.2.2.2.2.2.1) (v := 1) (by omega) (fun Ab gb nb => ?_)
  show ZE (d + 3) M_Gre_begin (gw G Ab) 18 [(2, g), (0, (S : Int)), (9, 0)] [] _
  have hFb : eF Ab g := hF.ab (fun i hi => (congrFun (gb g (by omega) (by omega)) i).trans (by rw [up2_ne _ _ (by omega), up2_ne _ _ (by omega)])) ((gb _ (by omega) (by omega)).trans (hX _ (by omega))) nb.1 (fun q hq => (congrFun ((gb _ (by omega) (by omega)).trans (hX _ (by omega))) _).trans (hF.2.2.2.2.2.2.2 q hq))
  refine ZE.aload_n d_Gre_begin_18 rfl ?_
  refine ZE.cV [] [] [(2, g)] d_Gre_begin_19 l_Gre_56 rfl rfl rfl rfl rfl rfl hK.1 ?_
  refine e_keepShown (d := d + 1) hK hFb (n := 0) (v := 1) ((congrFun (gb g (by omega) (by omega)) _).trans (up2_at _ _ _ _)) (by omega) nb (by decide +kernel) (fun Ac c1 c2 c3 hrc c5 => ?_)
  show ZE (d + 3) M_Gre_begin (gw G Ac) 22 [(2, g), (0, (S : Int)), (9, 0)] [] _
  have hFc : eF Ac g := hFb.ab (fun i hi => c2 i (by omega)) (c1 _ (by omega) (by omega) (by omega)) ((congrFun (c1 _ (by omega) (by omega) (by omega)) _).trans hFb.2.2.2.2.2.2.1) (fun q hq => (congrFun (c1 _ (by omega) (by omega) (by omega)) _).trans (hFb.2.2.2.2.2.2.2 q hq))
  refine ZE.iconst (n := 0) d_Gre_begin_22 ?_
  refine ZE.istore_n (ls2 := [(2, g), (0, (S : Int)), (0, 0)]) d_Gre_begin_23 (Nat.le_of_ble_eq_true rfl) rfl ?_
  have L24 : ∀ (tt0 : Nat) (j : Nat) (A1 : Int → Int → Int) (hj : j ≤ 7) (hF1 : eF A1 g) (h0r : eRow A1 g 0 1) (ht : ∀ q : Nat, q < j → A1 (g + 3) q = 0) (hx : ∀ q : Nat, q < j → bN A1 (g + 7 + 2 * (q : Int)) (1 * sev q)) (g1 : ∀ a : Int, (a < g ∨ g + 20 < a) → A1 a = A a) (h15 : A1 g 5 = (S : Int)) (h16 : A1 g 6 = 1) (h1s : bN A1 (g + 5) 1), 8 - j < tt0 → ZE (d + 3) M_Gre_begin (gw G A1) 24 [(2, g), (0, (S : Int)), (0, (j : Int))] [] P := by
    intro tt0
    induction tt0 with
    | zero => intro j A1 hj hF1 h0r ht hx g1 h15 h16 h1s hm; exact absurd hm (Nat.not_lt_zero _)
    | succ tt0 ih =>
      intro j A1 hj hF1 h0r ht hx g1 h15 h16 h1s hm
      have hL1 : lG G A1 := ⟨hL.1, hL.2.1, fun q => (congrFun (g1 _ (Or.inl hgl)) _).trans (hL.2.2 q)⟩
      refine ZE.iload_n d_Gre_begin_24 rfl ?_
      refine ZE.aload_n d_Gre_begin_25 rfl ?_
      refine ZE.getE (v := g + 3) d_Gre_begin_26 f_Gre_20 (tg := 2) rfl hK.1 hF1.2.2.1 ?_
      refine ZE.alenE (v := 7) d_Gre_begin_29 (by have hk0 := hK.2.2.2.2.1.1; show 1 ≤ gk G (g + 3) ∧ gk G (g + 3) ≤ 6; omega) hK.2.2.2.2.1.2 ?_
      refine ZE.icmp_ge (tgt := 51) d_Gre_begin_30 rfl (by unfold zR; omega) (by unfold zR; omega) (fun c30 => ?_) (fun c30 => ?_)
      · refine ZE.vret d_Gre_begin_51 rfl ?_
        have hj7 : j = 7 := by omega
        subst hj7
        refine k A1 ⟨hF1, h15, h16, fun q hq => ?_, fun q hq => ht q hq, fun q hq => hx q hq, 1, h1s⟩ g1
        have hq0 : q = 0 := by omega
        subst hq0
        exact h0r
      · refine ZE.aload_n d_Gre_begin_33 rfl ?_
        refine ZE.getE (v := g + 3) d_Gre_begin_34 f_Gre_20 (tg := 2) rfl hK.1 hF1.2.2.1 ?_
        refine ZE.iload_n d_Gre_begin_37 rfl ?_
        refine ZE.iconst (n := 0) d_Gre_begin_38 ?_
        refine ZE.iast d_Gre_begin_39 hK.2.2.2.2.1.1 (by have hn0 := hK.2.2.2.2.1.2; show 0 ≤ (j : Int) ∧ (j : Int) < gn G (g + 3); omega) ?_
        show ZE (d + 3) M_Gre_begin (gw G (up2 A1 (g + 3) (j : Int) 0)) 40 [(2, g), (0, (S : Int)), (0, (j : Int))] [] _
        refine ZE.aload_n d_Gre_begin_40 rfl ?_
        refine ZE.iload_n d_Gre_begin_41 rfl ?_
        have hUr : ∀ a : Int, a ≠ g + 3 → (up2 A1 (g + 3) (j : Int) 0) a = A1 a := fun a h1 => by rw [up2_A, upA_ne _ _ h1]
        refine ZE.cV [(0, (j : Int))] [] [(2, g), (0, (j : Int)), (9, 0), (9, 0)] d_Gre_begin_42 l_Gre_59 rfl rfl rfl rfl rfl rfl hK.1 ?_
        refine e_multiplyTurn (d := d) hK (hF1.ab (fun i _ => congrFun (hUr g (by omega)) i) (hUr _ (by omega)) ((congrFun (hUr _ (by omega)) _).trans hF1.2.2.2.2.2.2.1) (fun q hq => (congrFun (hUr _ (by omega)) _).trans (hF1.2.2.2.2.2.2.2 q hq))) ⟨hL1.1, hL1.2.1, fun q => (congrFun (hUr _ (by omega)) _).trans (hL1.2.2 q)⟩ (p := j) (t := 0) (v := 1) (by omega) (up2_at _ _ _ _) (by omega) (h0r.ab (hUr _ (by omega)) (hUr _ (by omega))) (by decide +kernel) (nd_le (by omega) (by have := (sev_2 j (by omega)).2; rw [Nat.one_mul]; exact Nat.lt_of_le_of_lt this (by decide +kernel))) (fun B gB nB => ?_)
        show ZE (d + 3) M_Gre_begin (gw G B) 45 [(2, g), (0, (S : Int)), (0, (j : Int))] [] _
        refine ZE.iinc (ls2 := [(2, g), (0, (S : Int)), (0, (j : Int) + 1)]) d_Gre_begin_45 rfl rfl ?_
        refine ZE.goto (tgt := 24) d_Gre_begin_48 rfl ?_
        rw [show (j : Int) + 1 = ((j + 1 : Nat) : Int) by omega]
        have hB : ∀ a : Int, a ≠ g + 3 → a ≠ g + 7 + 2 * (j : Int) → a ≠ g + 7 + 2 * (j : Int) + 1 → B a = A1 a := fun a h1 h2 h3 => (gB a h2 h3).trans (by rw [up2_A, upA_ne _ _ h1])
        have hB3 : ∀ q : Int, B (g + 3) q = up2 A1 (g + 3) (j : Int) 0 (g + 3) q := fun q => congrFun (gB _ (by omega) (by omega)) q
        refine ih (j + 1) B (by omega) (hF1.ab (fun i _ => congrFun (hB g (by omega) (by omega) (by omega)) i) (hB _ (by omega) (by omega) (by omega)) ((congrFun (hB _ (by omega) (by omega) (by omega)) _).trans hF1.2.2.2.2.2.2.1) (fun q hq => ?_)) (h0r.ab (hB _ (by omega) (by omega) (by omega)) (hB _ (by omega) (by omega) (by omega))) (fun q hq => ?_) (fun q hq => ?_) (fun a ha => (hB a (by omega) (by omega) (by omega)).trans (g1 a ha)) ((congrFun (hB g (by omega) (by omega) (by omega)) _).trans h15) ((congrFun (hB g (by omega) (by omega) (by omega)) _).trans h16) (h1s.ab (fun a ha => hB a (by omega) (by omega) (by omega))) (by omega)
        · by_cases e : q = j
          · subst e; exact nB.1
          · rw [hB _ (by omega) (by omega) (by omega)]; exact hF1.2.2.2.2.2.2.2 q hq
        · rw [hB3]
          by_cases e : q = j
          · subst e; exact up2_at _ _ _ _
          · rw [up2_ne _ _ (by omega)]; exact ht q (by omega)
        · by_cases e : q = j
          · subst e; exact nB
          · exact (hx q (by omega)).ab (fun a ha => hB a (by omega) (by omega) (by omega))
  exact L24 _ 0 Ac (by omega) hFc hrc (fun q h => absurd h (Nat.not_lt_zero _)) (fun q h => absurd h (Nat.not_lt_zero _)) (fun a ha => (c1 a (by omega) (by omega) (by omega)).trans ((gb a (by omega) (by omega)).trans (hX a (by omega)))) ((c2 5 (by omega)).trans ((congrFun (gb g (by omega) (by omega)) _).trans (by rw [up2_ne _ _ (by omega), up2_at]))) (c3.trans rfl) (nb.ab (fun a ha => c1 a (by omega) (by omega) (by omega))) (Nat.lt_succ_self _)
set_option maxRecDepth 20000 in
set_option maxHeartbeats 4000000 in
theorem e_goOn {d : Nat} {G : zG} {A : Int → Int → Int} {P : Option zV → zG → Prop} {g : Int} (hK : eK G g) (hL : lG G A) (hgl : gl G < g) {S n : Nat} (hS7 : S < 128) (hS0 : S ≠ 0) (hn : n < 400) (hE : eS A g S n) (k : ∀ B, eS B g S (n + 1) → (∀ a : Int, (a < g ∨ g + 20 < a) → B a = A a) → P none (gw G B)) : ZE (d + 3) M_Gre_goOn (gw G A) 0 [(2, g), (9, 0), (9, 0)] [] P := by
  have hg0 := hK.2.1
  have hb5 := hK.2.2.2.2.2.2.1
  have hF := hE.1
  have h5 := hE.2.1
  have hbk := hK.2.2.2.2.2.2.2
  have hN9 : ∀ c, c < 7 → nd 1000000000 (eX S n c) ≤ 57 := fun c hc => (gN_9 (S := S) (q := (gst S n).2 c) (by have := gst_nx S n c; omega)).2 c hc
  refine ZE.iconst (n := (-1)) d_Gre_goOn_0 ?_
  refine ZE.istore_n (ls2 := [(2, g), (0, (-1)), (9, 0)]) d_Gre_goOn_1 (Nat.le_of_ble_eq_true rfl) rfl ?_
  refine ZE.iconst (n := 0) d_Gre_goOn_2 ?_
  refine ZE.istore_n (ls2 := [(2, g), (0, (-1)), (0, 0)]) d_Gre_goOn_3 (Nat.le_of_ble_eq_true rfl) rfl ?_
  have L4 : ∀ (tt0 : Nat) (j : Nat) (l1 : Int) (hj : j ≤ 7) (hl : eL S n j l1), 8 - j < tt0 → ZE (d + 3) M_Gre_goOn (gw G A) 4 [(2, g), (0, l1), (0, (j : Int))] [] P := by
    intro tt0
    induction tt0 with
    | zero => intro j l1 hj hl hm; exact absurd hm (Nat.not_lt_zero _)
    | succ tt0 ih =>
      intro j l1 hj hl hm
      have hgm := eX_gm (S := S) (n := n) j
      have hp7 := gmF_pos (S := S) (g := (gst S n).1) (nx := (gst S n).2) (fun c hc => by rw [gst_at S n _ (gst_nx S n c)]; exact gN_pos hS7 hS0 _ _ (Nat.le_refl _)) j (by omega)
      have hxp : ∀ c, 0 < eX S n c ∨ 7 ≤ c := fun c => by
        rcases Nat.lt_or_ge c 7 with z | z
        · exact Or.inl (Nat.mul_pos (gN_pos hS7 hS0 _ _ (Nat.le_refl _)) (by have := (sev_2 c z).1; omega))
        · exact Or.inr z
      refine ZE.iload_n d_Gre_goOn_4 rfl ?_
      refine ZE.bipush (n := 7) d_Gre_goOn_5 rfl ?_
      refine ZE.icmp_ge (tgt := 47) d_Gre_goOn_7 rfl (by unfold zR; omega) (by unfold zR; omega) (fun c7 => ?_) (fun c7 => ?_)
      · have hj7 : j = 7 := by omega
        subst hj7
        have hg7 : gmF S (gst S n).1 (gst S n).2 7 ≠ 0 := hp7.mpr (has_one S hS7 hS0)
        rcases hl with hl | ⟨i0, hi0, hli, hbi, hxi⟩
        · exact absurd hl.2 hg7
        subst hli
        refine ZE.aload_n d_Gre_goOn_47 rfl ?_
        refine ZE.getE (v := g + 5) d_Gre_goOn_48 f_Gre_32 (tg := 2) rfl hK.1 hF.2.2.2.2.1 ?_
        refine ZE.aload_n d_Gre_goOn_51 rfl ?_
        refine ZE.iload_n d_Gre_goOn_52 rfl ?_
        refine ZE.cV [(0, (i0 : Int))] [(2, g + 5)] [(2, g), (0, (i0 : Int)), (9, 0)] d_Gre_goOn_53 l_Gre_66 rfl rfl rfl rfl rfl rfl hK.1 ?_
        refine e_productAt (d := d + 2) hK hF (p := i0) (by omega) ?_
        show ZE (d + 3) M_Gre_goOn (gw G A) 56 [(2, g), (0, (i0 : Int)), (0, ((7 : Nat) : Int))] [(2, g + 7 + 2 * (i0 : Int)), (2, g + 5)] _
        have hgn : gN S (n + 1) = eX S n i0 := by rw [gN_s, hxi]
        have hbi0 := hbk i0 hi0
        have hbx := hE.2.2.2.2.2.1 i0 hi0
        rw [show gN S ((gst S n).2 i0) * sev i0 = gN S (n + 1) from hgn.symm] at hbx
        have hN3 := gN_9 (S := S) (q := n + 1) (by omega)
        refine ZE.cV [(2, g + 7 + 2 * (i0 : Int))] [] [(2, g + 5), (2, g + 7 + 2 * (i0 : Int)), (9, 0)] d_Gre_goOn_56 l_Gre_74 rfl rfl rfl rfl rfl rfl hK.2.2.2.2.2.2.1.1 ?_
        refine B_copy (d := d + 1) hb5 hF.2.2.2.2.2.2.1 hbi0 hbx (by omega) (by omega) (by omega) (fun Ab gb nb => ?_)
        show ZE (d + 3) M_Gre_goOn (gw G Ab) 59 [(2, g), (0, (i0 : Int)), (0, ((7 : Nat) : Int))] [] _
        have hFb : eF Ab g := hF.ab (fun i _ => congrFun (gb g (by omega) (by omega)) i) (gb _ (by omega) (by omega)) nb.1 (fun q hq => (congrFun (gb _ (by omega) (by omega)) _).trans (hF.2.2.2.2.2.2.2 q hq))
        refine ZE.aload_n d_Gre_goOn_59 rfl ?_
        refine ZE.cV [] [] [(2, g)] d_Gre_goOn_60 l_Gre_56 rfl rfl rfl rfl rfl rfl hK.1 ?_
        refine e_keepShown (d := d + 1) hK hFb (n := n + 1) ((congrFun (gb g (by omega) (by omega)) _).trans hE.2.2.1) (by omega) nb hN3.1 (fun Ac c1 c2 c3 hrc c5 => ?_)
        show ZE (d + 3) M_Gre_goOn (gw G Ac) 63 [(2, g), (0, (i0 : Int)), (0, ((7 : Nat) : Int))] [] _
        have hFc : eF Ac g := hFb.ab (fun i hi => c2 i (by omega)) (c1 _ (by omega) (by omega) (by omega)) ((congrFun (c1 _ (by omega) (by omega) (by omega)) _).trans hFb.2.2.2.2.2.2.1) (fun q hq => (congrFun (c1 _ (by omega) (by omega) (by omega)) _).trans (hFb.2.2.2.2.2.2.2 q hq))
        have hrc2 : ∀ q : Nat, q ≤ n + 1 → eRow Ac g q (gN S q) := fun q hq => by
          by_cases e : q = n + 1
          · subst e; exact hrc
          · exact c5 q (by omega) _ (gN_9 (by omega)).1 ((hE.2.2.2.1 q (by omega)).ab (gb _ (by omega) (by omega)) (gb _ (by omega) (by omega)))
        refine ZE.iconst (n := 0) d_Gre_goOn_63 ?_
        refine ZE.istore_n (ls2 := [(2, g), (0, (i0 : Int)), (0, 0)]) d_Gre_goOn_64 (Nat.le_of_ble_eq_true rfl) rfl ?_
        have L65 : ∀ (tt0 : Nat) (j2 : Nat) (A1 : Int → Int → Int) (hj2 : j2 ≤ 7) (hF1 : eF A1 g) (h156 : A1 g 5 = (S : Int) ∧ A1 g 6 = ((n + 1 + 1 : Nat) : Int)) (h0r : ∀ q : Nat, q ≤ n + 1 → eRow A1 g q (gN S q)) (hdone : ∀ q : Nat, q < j2 → A1 (g + 3) q = ((gst S (n + 1)).2 q : Int) ∧ bN A1 (g + 7 + 2 * (q : Int)) (gN S ((gst S (n + 1)).2 q) * sev q)) (hnew : ∀ q : Nat, j2 ≤ q → q < 7 → A1 (g + 3) q = ((gst S n).2 q : Int) ∧ bN A1 (g + 7 + 2 * (q : Int)) (gN S ((gst S n).2 q) * sev q)) (g1 : ∀ a : Int, (a < g ∨ g + 20 < a) → A1 a = A a) (h1s : bN A1 (g + 5) (gN S (n + 1))), 8 - j2 < tt0 → ZE (d + 3) M_Gre_goOn (gw G A1) 65 [(2, g), (0, (i0 : Int)), (0, (j2 : Int))] [] P := by
          intro tt0
          induction tt0 with
          | zero => intro j2 A1 hj2 hF1 h156 h0r hdone hnew g1 h1s hm; exact absurd hm (Nat.not_lt_zero _)
          | succ tt0 ih2 =>
            intro j2 A1 hj2 hF1 h156 h0r hdone hnew g1 h1s hm
            have hL1 : lG G A1 := ⟨hL.1, hL.2.1, fun q => (congrFun (g1 _ (Or.inl hgl)) _).trans (hL.2.2 q)⟩
            have hN2 := gN_9 (S := S) (q := n + 1) (by omega)
            refine ZE.iload_n d_Gre_goOn_65 rfl ?_
            refine ZE.aload_n d_Gre_goOn_66 rfl ?_
            refine ZE.getE (v := g + 3) d_Gre_goOn_67 f_Gre_20 (tg := 2) rfl hK.1 hF1.2.2.1 ?_
            refine ZE.alenE (v := 7) d_Gre_goOn_70 (by have hk0 := hK.2.2.2.2.1.1; show 1 ≤ gk G (g + 3) ∧ gk G (g + 3) ≤ 6; omega) hK.2.2.2.2.1.2 ?_
            refine ZE.icmp_ge (tgt := 118) d_Gre_goOn_71 rfl (by unfold zR; omega) (by unfold zR; omega) (fun c71 => ?_) (fun c71 => ?_)
            · refine ZE.vret d_Gre_goOn_118 rfl ?_
              have hj7 : j2 = 7 := by omega
              subst hj7
              exact k A1 ⟨hF1, h156.1, h156.2, h0r, fun q hq => (hdone q hq).1, fun q hq => (hdone q hq).2, _, h1s⟩ g1
            · refine ZE.aload_n d_Gre_goOn_74 rfl ?_
              refine ZE.iload_n d_Gre_goOn_75 rfl ?_
              refine ZE.cV [(0, (j2 : Int))] [] [(2, g), (0, (j2 : Int))] d_Gre_goOn_76 l_Gre_62 rfl rfl rfl rfl rfl rfl hK.1 ?_
              refine e_isIn (d := d + 2) hK hS7 h156.1 (p := j2) (by omega) ?_
              show ZE (d + 3) M_Gre_goOn (gw G A1) 79 [(2, g), (0, (i0 : Int)), (0, (j2 : Int))] [(0, b2i (S.testBit j2 = true))] _
              refine ZE.if_eq (tgt := 112) d_Gre_goOn_79 rfl (zR_b2i _) (fun c79 => ?_) (fun c79 => ?_)
              · replace c79 := b2i_0.mp c79
                have hne : ¬ (S.testBit j2 = true ∧ eX S n j2 = gN S (n + 1)) := fun z => c79 z.1
                refine ZE.iinc (ls2 := [(2, g), (0, (i0 : Int)), (0, (j2 : Int) + 1)]) d_Gre_goOn_112 rfl rfl ?_
                refine ZE.goto (tgt := 65) d_Gre_goOn_115 rfl ?_
                rw [show (j2 : Int) + 1 = ((j2 + 1 : Nat) : Int) by omega]
                have hnn : (gst S (n + 1)).2 j2 = (gst S n).2 j2 := by rw [eX_nx, if_neg hne]
                refine ih2 (j2 + 1) A1 (by omega) hF1 h156 h0r (fun q hq => ?_) (fun q h1 h2 => hnew q (by omega) h2) g1 h1s (by omega)
                by_cases e : q = j2
                · subst e; rw [hnn]; exact hnew q (Nat.le_refl _) (by omega)
                · exact hdone q (by omega)
              · replace c79 := b2i_n0.mp c79
                refine ZE.aload_n d_Gre_goOn_82 rfl ?_
                refine ZE.iload_n d_Gre_goOn_83 rfl ?_
                refine ZE.cV [(0, (j2 : Int))] [] [(2, g), (0, (j2 : Int)), (9, 0)] d_Gre_goOn_84 l_Gre_66 rfl rfl rfl rfl rfl rfl hK.1 ?_
                refine e_productAt (d := d + 2) hK hF1 (p := j2) (by omega) ?_
                show ZE (d + 3) M_Gre_goOn (gw G A1) 87 [(2, g), (0, (i0 : Int)), (0, (j2 : Int))] [(2, g + 7 + 2 * (j2 : Int))] _
                refine ZE.aload_n d_Gre_goOn_87 rfl ?_
                refine ZE.getE (v := g + 5) d_Gre_goOn_88 f_Gre_32 (tg := 2) rfl hK.1 hF1.2.2.2.2.1 ?_
                refine ZE.cV [(2, g + 5)] [] [(2, g + 7 + 2 * (j2 : Int)), (2, g + 5), (9, 0), (9, 0), (9, 0)] d_Gre_goOn_91 l_Gre_70 rfl rfl rfl rfl rfl rfl (hK.2.2.2.2.2.2.2 j2 (by omega)).1 ?_
                refine B_compareWith (d := d + 1) (hbk j2 (by omega)) (hnew j2 (Nat.le_refl _) (by omega)).2 hb5 h1s (Nat.le_trans (hN9 j2 (by omega)) (by omega)) (by omega) ?_
                show ZE (d + 3) M_Gre_goOn (gw G A1) 94 [(2, g), (0, (i0 : Int)), (0, (j2 : Int))] [(0, cmZ (eX S n j2) (gN S (n + 1)))] _
                refine ZE.if_ne (tgt := 112) d_Gre_goOn_94 rfl (zR_cmZ _ _) (fun c94 => ?_) (fun c94 => ?_)
                · have hne : ¬ (S.testBit j2 = true ∧ eX S n j2 = gN S (n + 1)) := fun z => c94 (cmZ_eq.mpr z.2)
                  refine ZE.iinc (ls2 := [(2, g), (0, (i0 : Int)), (0, (j2 : Int) + 1)]) d_Gre_goOn_112 rfl rfl ?_
                  refine ZE.goto (tgt := 65) d_Gre_goOn_115 rfl ?_
                  rw [show (j2 : Int) + 1 = ((j2 + 1 : Nat) : Int) by omega]
                  have hnn : (gst S (n + 1)).2 j2 = (gst S n).2 j2 := by rw [eX_nx, if_neg hne]
                  refine ih2 (j2 + 1) A1 (by omega) hF1 h156 h0r (fun q hq => ?_) (fun q h1 h2 => hnew q (by omega) h2) g1 h1s (by omega)
                  by_cases e : q = j2
                  · subst e; rw [hnn]; exact hnew q (Nat.le_refl _) (by omega)
                  · exact hdone q (by omega)
                · have heq : S.testBit j2 = true ∧ eX S n j2 = gN S (n + 1) := ⟨c79, cmZ_eq.mp (by omega)⟩
                  refine ZE.aload_n d_Gre_goOn_97 rfl ?_
                  refine ZE.getE (v := g + 3) d_Gre_goOn_98 f_Gre_20 (tg := 2) rfl hK.1 hF1.2.2.1 ?_
                  refine ZE.iload_n d_Gre_goOn_101 rfl ?_
                  refine ZE.dup2 d_Gre_goOn_102 (Or.inl rfl) (Or.inr rfl) ?_
                  refine ZE.ialdE (v := ((gst S n).2 j2 : Int)) d_Gre_goOn_103 hK.2.2.2.2.1.1 (by have hn0 := hK.2.2.2.2.1.2; show 0 ≤ (j2 : Int) ∧ (j2 : Int) < gn G (g + 3); omega) (hnew j2 (Nat.le_refl _) (by omega)).1 ?_
                  refine ZE.iconst (n := 1) d_Gre_goOn_104 ?_
                  refine ZE.iadd d_Gre_goOn_105 ?_
                  refine ZE.iast d_Gre_goOn_106 hK.2.2.2.2.1.1 (by have hn0 := hK.2.2.2.2.1.2; show 0 ≤ (j2 : Int) ∧ (j2 : Int) < gn G (g + 3); omega) ?_
                  show ZE (d + 3) M_Gre_goOn (gw G (up2 A1 (g + 3) (j2 : Int) (((gst S n).2 j2 : Int) + 1))) 107 [(2, g), (0, (i0 : Int)), (0, (j2 : Int))] [] _
                  refine ZE.aload_n d_Gre_goOn_107 rfl ?_
                  refine ZE.iload_n d_Gre_goOn_108 rfl ?_
                  have hUr : ∀ a : Int, a ≠ g + 3 → (up2 A1 (g + 3) (j2 : Int) (((gst S n).2 j2 : Int) + 1)) a = A1 a := fun a h1 => by rw [up2_A, upA_ne _ _ h1]
                  have hnxn := gst_nx S n j2
                  have hNt := gN_9 (S := S) (q := (gst S n).2 j2 + 1) (by omega)
                  refine ZE.cV [(0, (j2 : Int))] [] [(2, g), (0, (j2 : Int)), (9, 0), (9, 0)] d_Gre_goOn_109 l_Gre_59 rfl rfl rfl rfl rfl rfl hK.1 ?_
                  refine e_multiplyTurn (d := d) hK (hF1.ab (fun i _ => congrFun (hUr g (by omega)) i) (hUr _ (by omega)) ((congrFun (hUr _ (by omega)) _).trans hF1.2.2.2.2.2.2.1) (fun q hq => (congrFun (hUr _ (by omega)) _).trans (hF1.2.2.2.2.2.2.2 q hq))) ⟨hL1.1, hL1.2.1, fun q => (congrFun (hUr _ (by omega)) _).trans (hL1.2.2 q)⟩ (p := j2) (t := (gst S n).2 j2 + 1) (v := gN S ((gst S n).2 j2 + 1)) (by omega) ((up2_at _ _ _ _).trans (by omega)) (by omega) ((h0r _ (by omega)).ab (hUr _ (by omega)) (hUr _ (by omega))) hNt.1 (hNt.2 j2 (by omega)) (fun B gB nB => ?_)
                  show ZE (d + 3) M_Gre_goOn (gw G B) 112 [(2, g), (0, (i0 : Int)), (0, (j2 : Int))] [] _
                  refine ZE.iinc (ls2 := [(2, g), (0, (i0 : Int)), (0, (j2 : Int) + 1)]) d_Gre_goOn_112 rfl rfl ?_
                  refine ZE.goto (tgt := 65) d_Gre_goOn_115 rfl ?_
                  rw [show (j2 : Int) + 1 = ((j2 + 1 : Nat) : Int) by omega]
                  have hnn : (gst S (n + 1)).2 j2 = (gst S n).2 j2 + 1 := by rw [eX_nx, if_pos heq]
                  have hB : ∀ a : Int, a ≠ g + 3 → a ≠ g + 7 + 2 * (j2 : Int) → a ≠ g + 7 + 2 * (j2 : Int) + 1 → B a = A1 a := fun a h1 h2 h3 => (gB a h2 h3).trans (hUr a h1)
                  have hB3 : ∀ q : Int, B (g + 3) q = (up2 A1 (g + 3) (j2 : Int) (((gst S n).2 j2 : Int) + 1)) (g + 3) q := fun q => congrFun (gB _ (by omega) (by omega)) q
                  refine ih2 (j2 + 1) B (by omega) (hF1.ab (fun i _ => congrFun (hB g (by omega) (by omega) (by omega)) i) (hB _ (by omega) (by omega) (by omega)) ((congrFun (hB _ (by omega) (by omega) (by omega)) _).trans hF1.2.2.2.2.2.2.1) (fun q hq => ?_)) ⟨(congrFun (hB g (by omega) (by omega) (by omega)) _).trans h156.1, (congrFun (hB g (by omega) (by omega) (by omega)) _).trans h156.2⟩ (fun q hq => (h0r q hq).ab (hB _ (by omega) (by omega) (by omega)) (hB _ (by omega) (by omega) (by omega))) (fun q hq => ?_) (fun q h1 h2 => ⟨?_, ?_⟩) (fun a ha => (hB a (by omega) (by omega) (by omega)).trans (g1 a ha)) (h1s.ab (fun a ha => hB a (by omega) (by omega) (by omega))) (by omega)
                  · by_cases e : q = j2
                    · subst e; exact nB.1
                    · rw [hB _ (by omega) (by omega) (by omega)]; exact hF1.2.2.2.2.2.2.2 q hq
                  · by_cases e : q = j2
                    · subst e; rw [hnn]; exact ⟨by rw [hB3, up2_at]; omega, nB⟩
                    · refine ⟨?_, ?_⟩
                      · rw [hB3, up2_ne _ _ (by omega)]; exact (hdone q (by omega)).1
                      · exact (hdone q (by omega)).2.ab (fun a ha => hB a (by omega) (by omega) (by omega))
                  · rw [hB3, up2_ne _ _ (by omega)]; exact (hnew q (by omega) h2).1
                  · exact (hnew q (by omega) h2).2.ab (fun a ha => hB a (by omega) (by omega) (by omega))
        exact L65 _ 0 Ac (by omega) hFc ⟨(c2 5 (by omega)).trans ((congrFun (gb g (by omega) (by omega)) _).trans h5), c3⟩ hrc2 (fun q h => absurd h (Nat.not_lt_zero _)) (fun q _ h2 => ⟨(congrFun (c1 _ (by omega) (by omega) (by omega)) _).trans ((congrFun (gb _ (by omega) (by omega)) _).trans (hE.2.2.2.2.1 q h2)), (hE.2.2.2.2.2.1 q h2).ab (fun a ha => (c1 a (by omega) (by omega) (by omega)).trans (gb a (by omega) (by omega)))⟩) (fun a ha => (c1 a (by omega) (by omega) (by omega)).trans (gb a (by omega) (by omega))) (nb.ab (fun a ha => c1 a (by omega) (by omega) (by omega))) (Nat.lt_succ_self _)
      · refine ZE.aload_n d_Gre_goOn_10 rfl ?_
        refine ZE.iload_n d_Gre_goOn_11 rfl ?_
        refine ZE.cV [(0, (j : Int))] [] [(2, g), (0, (j : Int))] d_Gre_goOn_12 l_Gre_62 rfl rfl rfl rfl rfl rfl hK.1 ?_
        refine e_isIn (d := d + 2) hK hS7 h5 (p := j) (by omega) ?_
        show ZE (d + 3) M_Gre_goOn (gw G A) 15 [(2, g), (0, l1), (0, (j : Int))] [(0, b2i (S.testBit j = true))] _
        refine ZE.if_eq (tgt := 41) d_Gre_goOn_15 rfl (zR_b2i _) (fun c15 => ?_) (fun c15 => ?_)
        · replace c15 := b2i_0.mp c15
          have hold : eL S n (j + 1) l1 := by
            unfold eL
            rw [hgm, if_neg c15]
            rcases hl with z | ⟨i, y1, y2, y3, y4⟩
            · exact Or.inl z
            · exact Or.inr ⟨i, by omega, y2, y3, y4⟩
          refine ZE.iinc (ls2 := [(2, g), (0, l1), (0, (j : Int) + 1)]) d_Gre_goOn_41 rfl rfl ?_
          refine ZE.goto (tgt := 4) d_Gre_goOn_44 rfl ?_
          rw [show (j : Int) + 1 = ((j + 1 : Nat) : Int) by omega]
          exact ih (j + 1) l1 (by omega) hold (by omega)
        · replace c15 := b2i_n0.mp c15
          have hbj : S.testBit j = true := c15
          refine ZE.iload_n d_Gre_goOn_18 rfl ?_
          refine ZE.iconst (n := (-1)) d_Gre_goOn_19 ?_
          refine ZE.icmp_eq (tgt := 39) d_Gre_goOn_20 rfl (by rcases hl with z | ⟨i, y1, y2, y3, y4⟩ <;> unfold zR <;> omega) (by unfold zR; omega) (fun c20 => ?_) (fun c20 => ?_)
          · have hnew : eX S n j = gmF S (gst S n).1 (gst S n).2 (j + 1) := by
              rw [hgm, if_pos hbj, if_neg]
              rcases hl with z | ⟨i, y1, y2, y3, y4⟩
              · exact fun y => y.1 z.2
              · omega
            refine ZE.iload_n d_Gre_goOn_39 rfl ?_
            refine ZE.istore_n (ls2 := [(2, g), (0, (j : Int)), (0, (j : Int))]) d_Gre_goOn_40 (Nat.le_of_ble_eq_true rfl) rfl ?_
            refine ZE.iinc (ls2 := [(2, g), (0, (j : Int)), (0, (j : Int) + 1)]) d_Gre_goOn_41 rfl rfl ?_
            refine ZE.goto (tgt := 4) d_Gre_goOn_44 rfl ?_
            rw [show (j : Int) + 1 = ((j + 1 : Nat) : Int) by omega]
            exact ih (j + 1) (j : Int) (by omega) (Or.inr ⟨j, by omega, rfl, hbj, hnew⟩) (by omega)
          · obtain ⟨i1, y1, y2, y3, y4⟩ : ∃ i : Nat, i < j ∧ l1 = (i : Int) ∧ S.testBit i = true ∧ eX S n i = gmF S (gst S n).1 (gst S n).2 j := by
              rcases hl with z | z
              · exact absurd z.1 c20
              · exact z
            subst y2
            refine ZE.aload_n d_Gre_goOn_23 rfl ?_
            refine ZE.iload_n d_Gre_goOn_24 rfl ?_
            refine ZE.cV [(0, (j : Int))] [] [(2, g), (0, (j : Int)), (9, 0)] d_Gre_goOn_25 l_Gre_66 rfl rfl rfl rfl rfl rfl hK.1 ?_
            refine e_productAt (d := d + 2) hK hF (p := j) (by omega) ?_
            show ZE (d + 3) M_Gre_goOn (gw G A) 28 [(2, g), (0, (i1 : Int)), (0, (j : Int))] [(2, g + 7 + 2 * (j : Int))] _
            refine ZE.aload_n d_Gre_goOn_28 rfl ?_
            refine ZE.iload_n d_Gre_goOn_29 rfl ?_
            refine ZE.cV [(0, (i1 : Int))] [(2, g + 7 + 2 * (j : Int))] [(2, g), (0, (i1 : Int)), (9, 0)] d_Gre_goOn_30 l_Gre_66 rfl rfl rfl rfl rfl rfl hK.1 ?_
            refine e_productAt (d := d + 2) hK hF (p := i1) (by omega) ?_
            show ZE (d + 3) M_Gre_goOn (gw G A) 33 [(2, g), (0, (i1 : Int)), (0, (j : Int))] [(2, g + 7 + 2 * (i1 : Int)), (2, g + 7 + 2 * (j : Int))] _
            refine ZE.cV [(2, g + 7 + 2 * (i1 : Int))] [] [(2, g + 7 + 2 * (j : Int)), (2, g + 7 + 2 * (i1 : Int)), (9, 0), (9, 0), (9, 0)] d_Gre_goOn_33 l_Gre_70 rfl rfl rfl rfl rfl rfl (hK.2.2.2.2.2.2.2 j (by omega)).1 ?_
            refine B_compareWith (d := d + 1) (hbk j (by omega)) (hE.2.2.2.2.2.1 j (by omega)) (hbk i1 (by omega)) (hE.2.2.2.2.2.1 i1 (by omega)) (Nat.le_trans (hN9 j (by omega)) (by omega)) (Nat.le_trans (hN9 i1 (by omega)) (by omega)) ?_
            show ZE (d + 3) M_Gre_goOn (gw G A) 36 [(2, g), (0, (i1 : Int)), (0, (j : Int))] [(0, cmZ (eX S n j) (eX S n i1))] _
            refine ZE.if_ge (tgt := 41) d_Gre_goOn_36 rfl (zR_cmZ _ _) (fun c36 => ?_) (fun c36 => ?_)
            · have hxi1 : 0 < eX S n i1 := (hxp i1).elim id (fun z => by omega)
              have hge := mt cmZ_lt.mpr (show ¬ cmZ (eX S n j) (eX S n i1) < 0 by omega)
              have hold : eL S n (j + 1) ((i1 : Nat) : Int) := Or.inr ⟨i1, by omega, rfl, y3, by rw [hgm, if_pos hbj, if_pos ⟨by omega, by omega⟩]; exact y4⟩
              refine ZE.iinc (ls2 := [(2, g), (0, (i1 : Int)), (0, (j : Int) + 1)]) d_Gre_goOn_41 rfl rfl ?_
              refine ZE.goto (tgt := 4) d_Gre_goOn_44 rfl ?_
              rw [show (j : Int) + 1 = ((j + 1 : Nat) : Int) by omega]
              exact ih (j + 1) (i1 : Int) (by omega) hold (by omega)
            · have hlt := cmZ_lt.mp (show cmZ (eX S n j) (eX S n i1) < 0 by omega)
              have hnew : eX S n j = gmF S (gst S n).1 (gst S n).2 (j + 1) := by rw [hgm, if_pos hbj, if_neg (fun y => y.2 (by omega))]
              refine ZE.iload_n d_Gre_goOn_39 rfl ?_
              refine ZE.istore_n (ls2 := [(2, g), (0, (j : Int)), (0, (j : Int))]) d_Gre_goOn_40 (Nat.le_of_ble_eq_true rfl) rfl ?_
              refine ZE.iinc (ls2 := [(2, g), (0, (j : Int)), (0, (j : Int) + 1)]) d_Gre_goOn_41 rfl rfl ?_
              refine ZE.goto (tgt := 4) d_Gre_goOn_44 rfl ?_
              rw [show (j : Int) + 1 = ((j + 1 : Nat) : Int) by omega]
              exact ih (j + 1) (j : Int) (by omega) (Or.inr ⟨j, by omega, rfl, hbj, hnew⟩) (by omega)
  exact L4 _ 0 (-1) (by omega) (Or.inl ⟨rfl, rfl⟩) (Nat.lt_succ_self _)
