def eK (G : zG) (g : Int) : Prop := gk G g = 13 ∧ 0 ≤ g ∧ (gk G (g + 1) = 1 ∧ gn G (g + 1) = 23258) ∧ (gk G (g + 2) = 1 ∧ gn G (g + 2) = 401) ∧ (gk G (g + 3) = 1 ∧ gn G (g + 3) = 7) ∧ (gk G (g + 4) = 5 ∧ gn G (g + 4) = 7) ∧ bK G (g + 5) 58 ∧ ∀ k : Nat, k < 7 → bK G (g + 7 + 2 * (k : Int)) 58
def eF (A : Int → Int → Int) (g : Int) : Prop := A g 0 = g + 1 ∧ A g 1 = g + 2 ∧ A g 2 = g + 3 ∧ A g 3 = g + 4 ∧ A g 4 = g + 5 ∧ (∀ k : Nat, k < 7 → A (g + 4) k = g + 7 + 2 * (k : Int)) ∧ A (g + 5) 0 = g + 5 + 1 ∧ ∀ k : Nat, k < 7 → A (g + 7 + 2 * (k : Int)) 0 = g + 7 + 2 * (k : Int) + 1
theorem eK.gr {G G2 : zG} {g : Int} {n m : Nat} (h : eK G g) (r : gR G G2 n m) (hb : g + 21 ≤ (gz G : Int)) : eK G2 g := by
  have e := r.2.2.1
  obtain ⟨h1, h2, h3, h4, h5, h6, h7, h8⟩ := h
  exact ⟨(e g (by omega)).1.trans h1, h2, ⟨(e _ (by omega)).1.trans h3.1, (e _ (by omega)).2.trans h3.2⟩, ⟨(e _ (by omega)).1.trans h4.1, (e _ (by omega)).2.trans h4.2⟩, ⟨(e _ (by omega)).1.trans h5.1, (e _ (by omega)).2.trans h5.2⟩, ⟨(e _ (by omega)).1.trans h6.1, (e _ (by omega)).2.trans h6.2⟩, h7.gr r (by omega), fun k hk => (h8 k hk).gr r (by omega)⟩
theorem eF.ab {A B : Int → Int → Int} {g : Int} (h : eF A g) (e0 : ∀ i : Int, i ≤ 4 → B g i = A g i) (e4 : B (g + 4) = A (g + 4)) (e5 : B (g + 5) 0 = g + 5 + 1) (e7 : ∀ k : Nat, k < 7 → B (g + 7 + 2 * (k : Int)) 0 = g + 7 + 2 * (k : Int) + 1) : eF B g := ⟨(e0 _ (by omega)).trans h.1, (e0 _ (by omega)).trans h.2.1, (e0 _ (by omega)).trans h.2.2.1, (e0 _ (by omega)).trans h.2.2.2.1, (e0 _ (by omega)).trans h.2.2.2.2.1, fun k hk => by rw [e4]; exact h.2.2.2.2.2.1 k hk, e5, e7⟩
def eRow (A : Int → Int → Int) (g : Int) (q v : Nat) : Prop := A (g + 2) q = (nd 1000000000 v : Int) ∧ ∀ l : Nat, l < nd 1000000000 v → A (g + 1) (((58 * q : Nat) : Int) + (l : Int)) = (dg 1000000000 v l : Int)
theorem gN_9 {S q : Nat} (hq : q ≤ 400) : nd 1000000000 (gN S q) ≤ 57 ∧ ∀ k, k < 7 → nd 1000000000 (gN S q * sev k) ≤ 57 := by
  have h1 := gN_ok (S := S) 400 q hq
  have h2 : 17 ^ 400 * 17 < 1000000000 ^ 57 := by decide +kernel
  refine ⟨nd_le (by omega) (by omega), fun k hk => nd_le (by omega) ?_⟩
  have h3 : gN S q * sev k ≤ 17 ^ 400 * 17 := Nat.mul_le_mul h1 (sev_2 k hk).2
  omega
set_option maxRecDepth 20000 in
set_option maxHeartbeats 4000000 in
theorem e_isIn {d : Nat} {G : zG} {A : Int → Int → Int} {P : Option zV → zG → Prop} {g : Int} (hK : eK G g) {S : Nat} (hS7 : S < 128) (h5 : A g 5 = (S : Int)) {p : Nat} (hp : p < 7) (k : P (some (0, b2i (S.testBit p = true))) (gw G A)) : ZE d M_Gre_isIn (gw G A) 0 [(2, g), (0, (p : Int))] [] P := by
  refine ZE.aload_n d_Gre_isIn_0 rfl ?_
  refine ZE.getE (v := (S : Int)) d_Gre_isIn_1 f_Gre_36 (tg := 0) rfl hK.1 h5 ?_
  refine ZE.iload_n d_Gre_isIn_4 rfl ?_
  refine ZE.ishr d_Gre_isIn_5 ?_
  refine ZE.iconst (n := 1) d_Gre_isIn_6 ?_
  refine ZE.iand d_Gre_isIn_7 ?_
  rw [show (zand (zshr (S : Int) (p : Int)) 1 : Int) = ((S / 2 ^ p % 2 : Nat) : Int) from (zbit (by omega) (by omega))]
  refine ZE.iconst (n := 1) d_Gre_isIn_8 ?_
  refine ZE.icmp_ne (tgt := 16) d_Gre_isIn_9 rfl (by unfold zR; omega) (by unfold zR; omega) (fun c9 => ?_) (fun c9 => ?_)
  · refine ZE.iconst (n := 0) d_Gre_isIn_16 ?_
    refine ZE.zret d_Gre_isIn_17 rfl (by omega) ?_
    rw [b2i_f (show ¬ S.testBit p = true by rw [tbit]; omega)] at k
    exact k
  · refine ZE.iconst (n := 1) d_Gre_isIn_12 ?_
    refine ZE.goto (tgt := 17) d_Gre_isIn_13 rfl ?_
    refine ZE.zret d_Gre_isIn_17 rfl (by omega) ?_
    rw [b2i_t (show S.testBit p = true by rw [tbit]; omega)] at k
    exact k
set_option maxRecDepth 20000 in
set_option maxHeartbeats 4000000 in
theorem e_productAt {d : Nat} {G : zG} {A : Int → Int → Int} {P : Option zV → zG → Prop} {g : Int} (hK : eK G g) (hF : eF A g) {p : Nat} (hp : p < 7) (k : P (some (2, g + 7 + 2 * (p : Int))) (gw G A)) : ZE d M_Gre_productAt (gw G A) 0 [(2, g), (0, (p : Int)), (9, 0)] [] P := by
  have hg0 := hK.2.1
  refine ZE.iload_n d_Gre_productAt_0 rfl ?_
  refine ZE.if_lt (tgt := 22) d_Gre_productAt_1 rfl (by unfold zR; omega) (fun c1 => ?_) (fun c1 => ?_)
  · exact absurd c1 (by omega)
  · refine ZE.iload_n d_Gre_productAt_4 rfl ?_
    refine ZE.aload_n d_Gre_productAt_5 rfl ?_
    refine ZE.getE (v := g + 4) d_Gre_productAt_6 f_Gre_25 (tg := 2) rfl hK.1 hF.2.2.2.1 ?_
    refine ZE.alenE (v := 7) d_Gre_productAt_9 (by have hk0 := hK.2.2.2.2.2.1.1; show 1 ≤ gk G (g + 4) ∧ gk G (g + 4) ≤ 6; omega) hK.2.2.2.2.2.1.2 ?_
    refine ZE.icmp_ge (tgt := 22) d_Gre_productAt_10 rfl (by unfold zR; omega) (by unfold zR; omega) (fun c10 => ?_) (fun c10 => ?_)
    · exact absurd c10 (by omega)
    · refine ZE.aload_n d_Gre_productAt_13 rfl ?_
      refine ZE.getE (v := g + 4) d_Gre_productAt_14 f_Gre_25 (tg := 2) rfl hK.1 hF.2.2.2.1 ?_
      refine ZE.iload_n d_Gre_productAt_17 rfl ?_
      refine ZE.aaldE (v := g + 7 + 2 * (p : Int)) d_Gre_productAt_18 hK.2.2.2.2.2.1.1 (by omega) (by have hn0 := hK.2.2.2.2.2.1.2; show 0 ≤ (p : Int) ∧ (p : Int) < gn G (g + 4); omega) (hF.2.2.2.2.2.1 p hp) ?_
      refine ZE.goto (tgt := 23) d_Gre_productAt_19 rfl ?_
      refine ZE.astore_n (ls2 := [(2, g), (0, (p : Int)), (2, g + 7 + 2 * (p : Int))]) d_Gre_productAt_23 (Nat.le_of_ble_eq_true rfl) rfl ?_
      refine ZE.aload_n d_Gre_productAt_24 rfl ?_
      refine ZE.ifnonnull (tgt := 35) d_Gre_productAt_25 rfl  (fun c25 => ?_) (fun c25 => ?_)
      · refine ZE.aload_n d_Gre_productAt_35 rfl ?_
        refine ZE.aret d_Gre_productAt_36 ⟨_, rfl⟩ ?_
        exact k
      · exact absurd c25 (by omega)
set_option maxRecDepth 20000 in
set_option maxHeartbeats 4000000 in
theorem e_multiplyTurn {d : Nat} {G : zG} {A : Int → Int → Int} {P : Option zV → zG → Prop} {g : Int} (hK : eK G g) (hF : eF A g) (hL : lG G A) {p t v : Nat} (hp : p < 7) (ht : A (g + 3) p = (t : Int)) (ht4 : t ≤ 400) (hr : eRow A g t v) (h9 : nd 1000000000 v ≤ 57) (h92 : nd 1000000000 (v * sev p) ≤ 57) (k : ∀ B, bF A B (g + 7 + 2 * (p : Int)) → bN B (g + 7 + 2 * (p : Int)) (v * sev p) → P none (gw G B)) : ZE (d + 2) M_Gre_multiplyTurn (gw G A) 0 [(2, g), (0, (p : Int)), (9, 0), (9, 0)] [] P := by
  have hg0 := hK.2.1
  have hb := hK.2.2.2.2.2.2.2 p hp
  have hsv := sev_2 p hp
  refine ZE.iload_n d_Gre_multiplyTurn_0 rfl ?_
  refine ZE.if_lt (tgt := 22) d_Gre_multiplyTurn_1 rfl (by unfold zR; omega) (fun c1 => ?_) (fun c1 => ?_)
  · exact absurd c1 (by omega)
  · refine ZE.iload_n d_Gre_multiplyTurn_4 rfl ?_
    refine ZE.aload_n d_Gre_multiplyTurn_5 rfl ?_
    refine ZE.getE (v := g + 3) d_Gre_multiplyTurn_6 f_Gre_20 (tg := 2) rfl hK.1 hF.2.2.1 ?_
    refine ZE.alenE (v := 7) d_Gre_multiplyTurn_9 (by have hk0 := hK.2.2.2.2.1.1; show 1 ≤ gk G (g + 3) ∧ gk G (g + 3) ≤ 6; omega) hK.2.2.2.2.1.2 ?_
    refine ZE.icmp_ge (tgt := 22) d_Gre_multiplyTurn_10 rfl (by unfold zR; omega) (by unfold zR; omega) (fun c10 => ?_) (fun c10 => ?_)
    · exact absurd c10 (by omega)
    · refine ZE.aload_n d_Gre_multiplyTurn_13 rfl ?_
      refine ZE.getE (v := g + 3) d_Gre_multiplyTurn_14 f_Gre_20 (tg := 2) rfl hK.1 hF.2.2.1 ?_
      refine ZE.iload_n d_Gre_multiplyTurn_17 rfl ?_
      refine ZE.ialdE (v := (t : Int)) d_Gre_multiplyTurn_18 hK.2.2.2.2.1.1 (by have hn0 := hK.2.2.2.2.1.2; show 0 ≤ (p : Int) ∧ (p : Int) < gn G (g + 3); omega) ht ?_
      refine ZE.goto (tgt := 23) d_Gre_multiplyTurn_19 rfl ?_
      refine ZE.istore_n (ls2 := [(2, g), (0, (p : Int)), (0, (t : Int)), (9, 0)]) d_Gre_multiplyTurn_23 (Nat.le_of_ble_eq_true rfl) rfl ?_
      refine ZE.iload_n d_Gre_multiplyTurn_24 rfl ?_
      refine ZE.if_lt (tgt := 69) d_Gre_multiplyTurn_25 rfl (by unfold zR; omega) (fun c25 => ?_) (fun c25 => ?_)
      · exact absurd c25 (by omega)
      · refine ZE.iload_n d_Gre_multiplyTurn_28 rfl ?_
        refine ZE.aload_n d_Gre_multiplyTurn_29 rfl ?_
        refine ZE.getE (v := g + 2) d_Gre_multiplyTurn_30 f_Gre_15 (tg := 2) rfl hK.1 hF.2.1 ?_
        refine ZE.alenE (v := 401) d_Gre_multiplyTurn_33 (by have hk0 := hK.2.2.2.1.1; show 1 ≤ gk G (g + 2) ∧ gk G (g + 2) ≤ 6; omega) hK.2.2.2.1.2 ?_
        refine ZE.icmp_ge (tgt := 69) d_Gre_multiplyTurn_34 rfl (by unfold zR; omega) (by unfold zR; omega) (fun c34 => ?_) (fun c34 => ?_)
        · exact absurd c34 (by omega)
        · refine ZE.aload_n d_Gre_multiplyTurn_37 rfl ?_
          refine ZE.iload_n d_Gre_multiplyTurn_38 rfl ?_
          refine ZE.cV [(0, (p : Int))] [] [(2, g), (0, (p : Int)), (9, 0)] d_Gre_multiplyTurn_39 l_Gre_66 rfl rfl rfl rfl rfl rfl hK.1 ?_
          refine e_productAt (d := d + 1) hK hF hp ?_
          show ZE (d + 2) M_Gre_multiplyTurn (gw G A) 42 [(2, g), (0, (p : Int)), (0, (t : Int)), (9, 0)] [(2, g + 7 + 2 * (p : Int))] _
          refine ZE.astore_n (ls2 := [(2, g), (0, (p : Int)), (0, (t : Int)), (2, g + 7 + 2 * (p : Int))]) d_Gre_multiplyTurn_42 (Nat.le_of_ble_eq_true rfl) rfl ?_
          refine ZE.aload_n d_Gre_multiplyTurn_43 rfl ?_
          refine ZE.aload_n d_Gre_multiplyTurn_44 rfl ?_
          refine ZE.getE (v := g + 1) d_Gre_multiplyTurn_45 f_Gre_11 (tg := 2) rfl hK.1 hF.1 ?_
          refine ZE.iload_n d_Gre_multiplyTurn_48 rfl ?_
          refine ZE.bipush (n := 58) d_Gre_multiplyTurn_49 rfl ?_
          refine ZE.imul d_Gre_multiplyTurn_51 ?_
          rw [show ((t : Int) * 58 : Int) = ((58 * t : Nat) : Int) from (by omega)]
          refine ZE.aload_n d_Gre_multiplyTurn_52 rfl ?_
          refine ZE.getE (v := g + 2) d_Gre_multiplyTurn_53 f_Gre_15 (tg := 2) rfl hK.1 hF.2.1 ?_
          refine ZE.iload_n d_Gre_multiplyTurn_56 rfl ?_
          refine ZE.ialdE (v := (nd 1000000000 v : Int)) d_Gre_multiplyTurn_57 hK.2.2.2.1.1 (by have hn0 := hK.2.2.2.1.2; show 0 ≤ (t : Int) ∧ (t : Int) < gn G (g + 2); omega) hr.1 ?_
          refine ZE.cV [(2, g + 1), (0, ((58 * t : Nat) : Int)), (0, (nd 1000000000 v : Int))] [] [(2, g + 7 + 2 * (p : Int)), (2, g + 1), (0, ((58 * t : Nat) : Int)), (0, (nd 1000000000 v : Int)), (9, 0)] d_Gre_multiplyTurn_58 l_Gre_49 rfl rfl rfl rfl rfl rfl (hK.2.2.2.2.2.2.2 p (by omega)).1 ?_
          refine B_load (d := d + 1) hb (hF.2.2.2.2.2.2.2 p hp) hK.2.2.1.1 hK.2.2.1.2 (len := 23258) (fr := 58 * t) (by omega) hr.2 (by omega) (by omega) (by omega) (fun A2 g2 n2 => ?_)
          show ZE (d + 2) M_Gre_multiplyTurn (gw G A2) 61 [(2, g), (0, (p : Int)), (0, (t : Int)), (2, g + 7 + 2 * (p : Int))] [] _
          refine ZE.aload_n d_Gre_multiplyTurn_61 rfl ?_
          refine ZE.iload_n d_Gre_multiplyTurn_62 rfl ?_
          refine ZE.cS [(0, (p : Int))] [(2, g + 7 + 2 * (p : Int))] [(0, (p : Int))] d_Gre_multiplyTurn_63 l_Gre_78 rfl rfl rfl rfl rfl rfl ?_
          refine p_at (d := d + 1) (j := p) (by omega) (show lG G A2 from ⟨hL.1, hL.2.1, fun j => (congrFun (g2 _ (fun z => by have := hL.1; rw [z] at this; have := hb.1; omega) (fun z => by have h1 := hL.1; rw [z] at h1; have h2 := hb.2.1; omega)) _).trans (hL.2.2 j)⟩) ?_
          show ZE (d + 2) M_Gre_multiplyTurn (gw G A2) 66 [(2, g), (0, (p : Int)), (0, (t : Int)), (2, g + 7 + 2 * (p : Int))] [(0, zPf p), (2, g + 7 + 2 * (p : Int))] _
          rw [zPf_sev p hp]
          refine ZE.cV [(0, (sev p : Int))] [] [(2, g + 7 + 2 * (p : Int)), (0, (sev p : Int)), (9, 0), (9, 0), (9, 0), (9, 0), (9, 0)] d_Gre_multiplyTurn_66 l_Gre_82 rfl rfl rfl rfl rfl rfl (hK.2.2.2.2.2.2.2 p (by omega)).1 ?_
          refine B_multiply (d := d) hb n2 (f := sev p) (by omega) (by omega) (by omega) (by omega) (fun A3 g3 n3 => ?_)
          show ZE (d + 2) M_Gre_multiplyTurn (gw G A3) 69 [(2, g), (0, (p : Int)), (0, (t : Int)), (2, g + 7 + 2 * (p : Int))] [] _
          refine ZE.vret d_Gre_multiplyTurn_69 rfl ?_
          exact k A3 (g2.tr g3) n3
set_option maxRecDepth 20000 in
set_option maxHeartbeats 4000000 in
theorem e_keepShown {d : Nat} {G : zG} {A : Int → Int → Int} {P : Option zV → zG → Prop} {g : Int} (hK : eK G g) (hF : eF A g) {n v : Nat} (hn : A g 6 = (n : Int)) (hn4 : n ≤ 400) (hv : bN A (g + 5) v) (h9 : nd 1000000000 v ≤ 57) (k : ∀ B, (∀ a : Int, a ≠ g → a ≠ g + 1 → a ≠ g + 2 → B a = A a) → (∀ i : Int, i ≠ 6 → B g i = A g i) → B g 6 = ((n + 1 : Nat) : Int) → eRow B g n v → (∀ q : Nat, q < n → ∀ u : Nat, nd 1000000000 u ≤ 57 → eRow A g q u → eRow B g q u) → P none (gw G B)) : ZE (d + 1) M_Gre_keepShown (gw G A) 0 [(2, g)] [] P := by
  have hg0 := hK.2.1
  refine ZE.aload_n d_Gre_keepShown_0 rfl ?_
  refine ZE.getE (v := (n : Int)) d_Gre_keepShown_1 f_Gre_43 (tg := 0) rfl hK.1 hn ?_
  refine ZE.if_lt (tgt := 56) d_Gre_keepShown_4 rfl (by unfold zR; omega) (fun c4 => ?_) (fun c4 => ?_)
  · exact absurd c4 (by omega)
  · refine ZE.aload_n d_Gre_keepShown_7 rfl ?_
    refine ZE.getE (v := (n : Int)) d_Gre_keepShown_8 f_Gre_43 (tg := 0) rfl hK.1 hn ?_
    refine ZE.aload_n d_Gre_keepShown_11 rfl ?_
    refine ZE.getE (v := g + 2) d_Gre_keepShown_12 f_Gre_15 (tg := 2) rfl hK.1 hF.2.1 ?_
    refine ZE.alenE (v := 401) d_Gre_keepShown_15 (by have hk0 := hK.2.2.2.1.1; show 1 ≤ gk G (g + 2) ∧ gk G (g + 2) ≤ 6; omega) hK.2.2.2.1.2 ?_
    refine ZE.icmp_ge (tgt := 56) d_Gre_keepShown_16 rfl (by unfold zR; omega) (by unfold zR; omega) (fun c16 => ?_) (fun c16 => ?_)
    · exact absurd c16 (by omega)
    · refine ZE.aload_n d_Gre_keepShown_19 rfl ?_
      refine ZE.getE (v := g + 2) d_Gre_keepShown_20 f_Gre_15 (tg := 2) rfl hK.1 hF.2.1 ?_
      refine ZE.aload_n d_Gre_keepShown_23 rfl ?_
      refine ZE.getE (v := (n : Int)) d_Gre_keepShown_24 f_Gre_43 (tg := 0) rfl hK.1 hn ?_
      refine ZE.aload_n d_Gre_keepShown_27 rfl ?_
      refine ZE.getE (v := g + 5) d_Gre_keepShown_28 f_Gre_32 (tg := 2) rfl hK.1 hF.2.2.2.2.1 ?_
      refine ZE.aload_n d_Gre_keepShown_31 rfl ?_
      refine ZE.getE (v := g + 1) d_Gre_keepShown_32 f_Gre_11 (tg := 2) rfl hK.1 hF.1 ?_
      refine ZE.aload_n d_Gre_keepShown_35 rfl ?_
      refine ZE.getE (v := (n : Int)) d_Gre_keepShown_36 f_Gre_43 (tg := 0) rfl hK.1 hn ?_
      refine ZE.bipush (n := 58) d_Gre_keepShown_39 rfl ?_
      refine ZE.imul d_Gre_keepShown_41 ?_
      rw [show ((n : Int) * 58 : Int) = ((58 * n : Nat) : Int) from (by omega)]
      refine ZE.cV [(2, g + 1), (0, ((58 * n : Nat) : Int))] [(0, (n : Int)), (2, g + 2)] [(2, g + 5), (2, g + 1), (0, ((58 * n : Nat) : Int)), (9, 0)] d_Gre_keepShown_42 l_Gre_85 rfl rfl rfl rfl rfl rfl hK.2.2.2.2.2.2.1.1 ?_
      refine B_store (d := d) hK.2.2.2.2.2.2.1 hv hK.2.2.1.1 hK.2.2.1.2 (len := 23258) (fr := 58 * n) (by omega) (by omega) (by omega) (by omega) (fun A2 g2 r2 o2 => ?_)
      show ZE (d + 1) M_Gre_keepShown (gw G A2) 45 [(2, g)] [(0, (nd 1000000000 v : Int)), (0, (n : Int)), (2, g + 2)] _
      refine ZE.iast d_Gre_keepShown_45 hK.2.2.2.1.1 (by have hn0 := hK.2.2.2.1.2; show 0 ≤ (n : Int) ∧ (n : Int) < gn G (g + 2); omega) ?_
      show ZE (d + 1) M_Gre_keepShown (gw G (up2 A2 (g + 2) (n : Int) (nd 1000000000 v : Int))) 46 [(2, g)] [] _
      refine ZE.aload_n d_Gre_keepShown_46 rfl ?_
      refine ZE.dup d_Gre_keepShown_47 (Or.inr rfl) ?_
      refine ZE.getE (v := (n : Int)) d_Gre_keepShown_48 f_Gre_43 (tg := 0) rfl hK.1 ((up2_ne _ _ (by omega)).trans ((congrFun (g2 g (by omega)) _).trans hn)) ?_
      refine ZE.iconst (n := 1) d_Gre_keepShown_51 ?_
      refine ZE.iadd d_Gre_keepShown_52 ?_
      refine ZE.put d_Gre_keepShown_53 f_Gre_43 (tg := 0) rfl trivial (Or.inl ⟨_, _, _, rfl, rfl, rfl⟩) hK.1 ?_
      show ZE (d + 1) M_Gre_keepShown (gw G (up2 (up2 A2 (g + 2) (n : Int) (nd 1000000000 v : Int)) g 6 ((n : Int) + 1))) 56 [(2, g)] [] _
      refine ZE.vret d_Gre_keepShown_56 rfl ?_
      refine k _ (fun a h1 h2 h3 => ?_) (fun i hi => ?_) ((up2_at _ _ _ _).trans (by omega)) ⟨?_, fun l hl => ?_⟩ (fun q hq u hu hru => ⟨?_, fun l hl => ?_⟩)
      · rw [up2_A, upA_ne _ _ h1, up2_A, upA_ne _ _ h3]; exact g2 a h2
      · rw [up2_ne _ _ (by omega), up2_ne _ _ (by omega)]; exact congrFun (g2 g (by omega)) i
      · rw [up2_ne _ _ (by omega), up2_at]
      · rw [up2_ne _ _ (by omega), up2_ne _ _ (by omega)]; exact r2 l hl
      · rw [up2_ne _ _ (by omega), up2_ne _ _ (by omega), g2 (g + 2) (by omega)]; exact hru.1
      · rw [up2_ne _ _ (by omega), up2_ne _ _ (by omega), o2 _ (Or.inl (by omega))]; exact hru.2 l hl
