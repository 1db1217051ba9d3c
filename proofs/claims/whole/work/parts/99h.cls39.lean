theorem wK.gr {G G2 : zG} {p : Int} {n s : Nat} (h : wK G p) (g : gR G G2 n s) (hb : p + 12 < (gz G : Int)) : wK G2 p := by
  have e := g.2.2.1
  obtain ⟨h1, h2, h3, h4, h5, h6, h7, h8, h9⟩ := h
  exact ⟨(e p (by omega)).1.trans h1, h2, h3.gr g (by omega), h4.gr g (by omega), h5.gr g (by omega), h6.gr g (by omega), h7.gr g (by omega), ⟨(e _ (by omega)).1.trans h8.1, (e _ (by omega)).2.trans h8.2⟩, ⟨(e _ (by omega)).1.trans h9.1, (e _ (by omega)).2.trans h9.2⟩⟩
theorem sK.gr {G G2 : zG} {s : Int} {n m : Nat} (h : sK G s) (g : gR G G2 n m) (hb : s + 46 ≤ (gz G : Int)) : sK G2 s := by
  have e := g.2.2.1
  obtain ⟨h1, h2, h3, h4, h5, h6, h7, h8⟩ := h
  exact ⟨(e s (by omega)).1.trans h1, h2, h3.gr g (by omega), ⟨(e _ (by omega)).1.trans h4.1, (e _ (by omega)).2.trans h4.2⟩, ⟨(e _ (by omega)).1.trans h5.1, (e _ (by omega)).2.trans h5.2⟩, ⟨(e _ (by omega)).1.trans h6.1, (e _ (by omega)).2.trans h6.2⟩, h7.gr g (by omega), h8.gr g (by omega)⟩
theorem lG.gr {G G2 : zG} {A B : Int → Int → Int} {n m : Nat} (h : lG G A) (g : gR G G2 n m) (hz : gl G < (gz G : Int)) (e : B (gl G) = A (gl G)) : lG G2 B := by
  unfold lG
  rw [g.2.2.2.2]
  exact ⟨(g.2.2.1 _ hz).1.trans h.1, (g.2.2.1 _ hz).2.trans h.2.1, fun j => (congrFun e _).trans (h.2.2 j)⟩
theorem uO.x {A : Int → Int → Int} {u : Int} {q D : Nat} (h : uO A u q D) : bN A (u + 1) (ux D) := h.2.2.2.2.2.2.2.2.2.2.1
theorem uO.y {A : Int → Int → Int} {u : Int} {q D : Nat} (h : uO A u q D) : bN A (u + 3) (uy D) := h.2.2.2.2.2.2.2.2.2.2.2
theorem xp_adv {u i : Nat} (hi : 1 ≤ i) : u * xp u i * 2 - xp u (i - 1) = xp u (i + 1) := by
  obtain ⟨j, rfl⟩ : ∃ j, i = j + 1 := ⟨i - 1, by omega⟩
  rw [Nat.add_sub_cancel]
  show _ = 2 * u * xp u (j + 1) - xp u j
  rw [show u * xp u (j + 1) * 2 = 2 * u * xp u (j + 1) by rw [Nat.mul_comm, ← Nat.mul_assoc]]
theorem xp_adv_le {u i : Nat} (hu : 1 ≤ u) : xp u (i - 1) ≤ u * xp u i * 2 := by
  have h1 := xp_le_mono hu (i := i - 1) (j := i) (by omega)
  have h2 : 1 * xp u i ≤ u * xp u i := Nat.mul_le_mul_right _ hu
  omega
theorem xp_adv_nd {u i : Nat} (hu : u < 10 ^ 24) (hi : i ≤ 10) : nd 1000000000 (u * xp u i * 2) ≤ 32 := by
  have h1 := xp_b hu hi
  have h2 : u * xp u i ≤ 10 ^ 24 * 10 ^ 251 := Nat.mul_le_mul (by omega) (by omega)
  have h3 : 10 ^ 24 * 10 ^ 251 * 2 < 1000000000 ^ 32 := by decide +kernel
  exact nd_le (by omega) (by omega)
set_option maxRecDepth 20000 in
set_option maxHeartbeats 4000000 in
theorem s_unitLoop {d : Nat} {G : zG} {A : Int → Int → Int} {P : Option zV → zG → Prop} {s : Int} (hs0 : 0 ≤ s) (hks : gk G s = 16) (hsp : A s 7 = s + 33) (hK : wK G (s + 33)) {ap : Nat} (hO : wO A (s + 33) ap) (hL : lG G A) (hap : ap = 1 ∨ ap = 2) (hpz : s + 46 ≤ (gz G : Int)) {u : Int} (hu : uK G u) (huz : u + 9 ≤ (gz G : Int)) (hup : s + 45 < u) (hgl : gl G < s) {q D : Nat} (hUO : uO A u q D) (hfr : frD D) (hpos : ∀ i : Nat, 1 ≤ i → 0 < nvU D ap i) (h7 : ∀ j : Int, A (u + 7) j = 0) (hz1 : bN A (s + 33 + 1) 1) (hw1 : bN A (s + 33 + 3) (ux D)) {e1 q1 : Int} (k : ∀ G2 A2 (n m : Nat), uW G2 A2 u D ap → (∀ a : Int, a < (gz G : Int) → (a < s + 33 ∨ s + 45 < a) → a ≠ u + 5 → a ≠ u + 6 → a ≠ u + 8 → A2 a = A a) → wO A2 (s + 33) ap → gR G G2 n m → n ≤ 45 → m ≤ 486 → ZE (d + 5) M_Sea_unitOf (gw G2 A2) 104 [(2, s), (0, e1), (2, u), (0, q1), (0, ((10 : Nat) : Int))] [] P) : ZE (d + 5) M_Sea_unitOf (gw G A) 70 [(2, s), (0, e1), (2, u), (0, q1), (9, 0)] [] P := by
  refine ZE.iconst (n := 1) d_Sea_unitOf_70 ?_
  refine ZE.istore (ls2 := [(2, s), (0, e1), (2, u), (0, q1), (0, 1)]) d_Sea_unitOf_71 (Nat.le_of_ble_eq_true rfl) rfl ?_
  have L73 : ∀ (tt0 : Nat) (i : Nat) (G1 : zG) (A1 : Int → Int → Int) (hi : 1 ≤ i ∧ i ≤ 10) (hgR : ∃ n1 m1 : Nat, gR G G1 n1 m1 ∧ n1 ≤ 5 * (i - 1) ∧ m1 ≤ 54 * (i - 1)) (hfm : ∀ a : Int, a < (gz G : Int) → (a < s + 33 ∨ s + 45 < a) → a ≠ u + 5 → a ≠ u + 6 → a ≠ u + 8 → A1 a = A a) (hwO : wO A1 (s + 33) ap) (hz : bN A1 (s + 33 + 1) (xp (ux D) (i - 1))) (hw : bN A1 (s + 33 + 3) (xp (ux D) i)) (hX : ∀ j : Nat, 1 ≤ j → j < i → uX G1 A1 u D ap j), 11 - i < tt0 → ZE (d + 5) M_Sea_unitOf (gw G1 A1) 73 [(2, s), (0, e1), (2, u), (0, q1), (0, (i : Int))] [] P := by
    intro tt0
    induction tt0 with
    | zero => intro i G1 A1 hi hgR hfm hwO hz hw hX hm; exact absurd hm (Nat.not_lt_zero _)
    | succ tt0 ih =>
      intro i G1 A1 hi hgR hfm hwO hz hw hX hm
      obtain ⟨n1, m1, hg1, hn1, hm1⟩ := hgR
      have hzz := hg1.1
      have hks1 : gk G1 s = 16 := (hg1.2.2.1 s (by omega)).1.trans hks
      have hK1 := hK.gr hg1 (by omega)
      have hu1 := hu.gr hg1 (by omega)
      have hL1 : lG G1 A1 := hL.gr hg1 (by omega) (hfm _ (by omega) (by omega) (by omega) (by omega) (by omega))
      have hgl1 : gl G1 < s := by rw [hg1.2.2.2.2]; exact hgl
      have hUO1 : uO A1 u q D := hUO.ab (fun a h1 h2 => hfm a (by omega) (by omega) (by omega) (by omega) (by omega))
      have hsp1 : A1 s 7 = s + 33 := (congrFun (hfm s (by omega) (by omega) (by omega) (by omega) (by omega)) _).trans hsp
      have h71 : A1 (u + 7) i = 0 := (congrFun (hfm (u + 7) (by omega) (by omega) (by omega) (by omega) (by omega)) _).trans (h7 _)
      refine ZE.iload d_Sea_unitOf_73 rfl ?_
      refine ZE.bipush (n := 9) d_Sea_unitOf_75 rfl ?_
      refine ZE.icmp_gt (tgt := 104) d_Sea_unitOf_77 rfl (by unfold zR; omega) (by unfold zR; omega) (fun c77 => ?_) (fun c77 => ?_)
      · have hi10 : i = 10 := by omega
        subst hi10
        exact k G1 A1 n1 m1 (fun j h1 h2 => hX j h1 (by omega)) hfm hwO hg1 hn1 hm1
      · refine ZE.aload_n d_Sea_unitOf_80 rfl ?_
        refine ZE.getE (v := s + 33) d_Sea_unitOf_81 f_Sea_66 (tg := 2) rfl hks1 hsp1 ?_
        refine ZE.aload_n d_Sea_unitOf_84 rfl ?_
        refine ZE.iload d_Sea_unitOf_85 rfl ?_
        refine ZE.cV [(2, u), (0, (i : Int))] [] [(2, s + 33), (2, u), (0, (i : Int)), (9, 0), (9, 0)] d_Sea_unitOf_87 l_Sea_122 rfl rfl rfl rfl rfl rfl hK1.1 ?_
        refine w_tell2 hK1 hwO hL1 hap (by omega) hu1 (by omega) (by omega) (by omega) hUO1 hfr (by omega) hw (hpos i (by omega)) h71 (fun G2 A2 n2 m2 hx2 ht2 ho2 hg2 hn2 hm2 => ?_)
        show ZE (d + 5) M_Sea_unitOf (gw G2 A2) 90 [(2, s), (0, e1), (2, u), (0, q1), (0, (i : Int))] [] _
        have hzz2 := hg2.1
        have hks2 : gk G2 s = 16 := (hg2.2.2.1 s (by omega)).1.trans hks1
        have hK2 := hK1.gr hg2 (by omega)
        have hu2 := hu1.gr hg2 (by omega)
        have hUO2 : uO A2 u q D := hUO1.ab (fun a h1 h2 => ht2.1 a (by omega) (by omega) (by omega) (by omega) (by omega))
        have hsp2 : A2 s 7 = s + 33 := (congrFun (ht2.1 s (by omega) (by omega) (by omega) (by omega) (by omega)) _).trans hsp1
        have hz2 := hz.ab (B := A2) (fun a h1 => ht2.1 a (by omega) (by omega) (by omega) (by omega) (by omega))
        have hw2 := hw.ab (B := A2) (fun a h1 => ht2.1 a (by omega) (by omega) (by omega) (by omega) (by omega))
        refine ZE.aload_n d_Sea_unitOf_90 rfl ?_
        refine ZE.getE (v := s + 33) d_Sea_unitOf_91 f_Sea_66 (tg := 2) rfl hks2 hsp2 ?_
        refine ZE.aload_n d_Sea_unitOf_94 rfl ?_
        have nb1 := nB_ux hfr
        have nb2 : nd 1000000000 (xp (ux D) i) ≤ 28 := nB252 (Nat.lt_trans (xp_b (frD_ux hfr) (by omega)) (by decide +kernel))
        have nb3 : nd 1000000000 (xp (ux D) (i - 1)) ≤ 28 := nB252 (Nat.lt_trans (xp_b (frD_ux hfr) (by omega)) (by decide +kernel))
        refine ZE.cV [(2, u)] [] [(2, s + 33), (2, u)] d_Sea_unitOf_95 l_Sea_126 rfl rfl rfl rfl rfl rfl hK2.1 ?_
        refine w_advance (d := d + 1) hK2 ho2 hu2.1 hUO2.1 hu2.2.2.1 (x1 := ux D) (w1 := xp (ux D) i) (z1 := xp (ux D) (i - 1)) hUO2.x (by omega) hw2 hz2 (xp_adv_le (frD_x1 hfr)) (by omega) (by omega) (xp_adv_nd (frD_ux hfr) (by omega)) (by omega) (fun A3 gA3 ho3 hz3 hw3 => ?_)
        show ZE (d + 5) M_Sea_unitOf (gw G2 A3) 98 [(2, s), (0, e1), (2, u), (0, q1), (0, (i : Int))] [] _
        refine ZE.iinc (ls2 := [(2, s), (0, e1), (2, u), (0, q1), (0, (i : Int) + 1)]) d_Sea_unitOf_98 rfl rfl ?_
        refine ZE.goto (tgt := 73) d_Sea_unitOf_101 rfl ?_
        rw [show (i : Int) + 1 = ((i + 1 : Nat) : Int) by omega]
        refine ih (i + 1) G2 A3 (by omega) ⟨n1 + n2, m1 + m2, hg1.tr hg2, by omega, by omega⟩ (fun a h1 h2 h3 h4 h5 => (gA3 a (by omega)).trans ((ht2.1 a (by omega) (by omega) h3 h4 h5).trans (hfm a h1 h2 h3 h4 h5))) ho3 (by rw [Nat.add_sub_cancel]; exact hz3) (by rw [xp_adv (by omega)] at hw3; exact hw3) (fun j hj1 hj2 => ?_) (by omega)
        by_cases hji : j = i
        · subst hji
          exact hx2.ab (by omega) gR.rf (by omega) (fun a h1 h2 => gA3 a (by omega)) (congrFun (gA3 _ (by omega)) _) (congrFun (gA3 _ (by omega)) _) (congrFun (gA3 _ (by omega)) _) (congrFun (gA3 _ (by omega)) _)
        · have hjn : (j : Int) ≠ (i : Int) := by omega
          exact ((hX j hj1 (by omega)).ab (by omega) hg2 (by omega) (fun a h1 h2 => ht2.1 a (by omega) (by omega) (by omega) (by omega) (by omega)) (ht2.2 j hjn).1 (ht2.2 j hjn).2.1 (congrFun (ht2.1 _ (by omega) (by omega) (by omega) (by omega) (by omega)) _) (ht2.2 j hjn).2.2).ab (by omega) gR.rf (by omega) (fun a h1 h2 => gA3 a (by omega)) (congrFun (gA3 _ (by omega)) _) (congrFun (gA3 _ (by omega)) _) (congrFun (gA3 _ (by omega)) _) (congrFun (gA3 _ (by omega)) _)
  exact L73 _ 1 G A (by omega) ⟨0, 0, gR.rf, by omega, by omega⟩ (fun _ _ _ _ _ _ => rfl) hO hz1 hw1 (fun j h1 h2 => by omega) (Nat.lt_succ_self _)
