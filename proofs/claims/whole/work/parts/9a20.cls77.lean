set_option maxRecDepth 20000 in
set_option maxHeartbeats 4000000 in
theorem e_initL {d : Nat} {G : zG} {A : Int → Int → Int} {P : Option zV → zG → Prop} {g : Int} (hz : (gz G : Int) = g + 7) (h0 : 0 ≤ g) (hk : gk G g = 13) (hr : (gk G (g + 1) = 1 ∧ gn G (g + 1) = 23258) ∧ (gk G (g + 2) = 1 ∧ gn G (g + 2) = 401) ∧ (gk G (g + 3) = 1 ∧ gn G (g + 3) = 7)) (hp : gk G (g + 4) = 5 ∧ gn G (g + 4) = 7) (hb5 : bK G (g + 5) 58) (hF : A g 0 = g + 1 ∧ A g 1 = g + 2 ∧ A g 2 = g + 3 ∧ A g 3 = g + 4 ∧ A g 4 = g + 5) (h5 : A g 5 = -1) (hs5 : A (g + 5) 0 = g + 5 + 1) (k : ∀ G2 A2, eK G2 g → eF A2 g → A2 g 5 = -1 → (∀ a : Int, a < g → A2 a = A a) → gR G G2 14 420 → P none (gw G2 A2)) : ZE (d + 2) M_Gre_init (gw G A) 59 [(2, g), (0, 0)] [] P := by
  have L59 : ∀ (tt0 : Nat) (i : Nat) (G1 : zG) (A1 : Int → Int → Int) (hi : i ≤ 7) (hgR : gR G G1 (2 * i) (60 * i)) (hf : ∀ a : Int, a < g + 7 → a ≠ g + 4 → A1 a = A a) (hp4 : ∀ k : Nat, k < i → A1 (g + 4) k = g + 7 + 2 * (k : Int)) (hB : ∀ k : Nat, k < i → bK G1 (g + 7 + 2 * (k : Int)) 58 ∧ A1 (g + 7 + 2 * (k : Int)) 0 = g + 7 + 2 * (k : Int) + 1), 7 - i < tt0 → ZE (d + 2) M_Gre_init (gw G1 A1) 59 [(2, g), (0, (i : Int))] [] P := by
    intro tt0
    induction tt0 with
    | zero => intro i G1 A1 hi hgR hf hp4 hB hm; exact absurd hm (Nat.not_lt_zero _)
    | succ tt0 ih =>
      intro i G1 A1 hi hgR hf hp4 hB hm
      have hz1 : (gz G1 : Int) = g + 7 + 2 * (i : Int) := by have := hgR.1; omega
      refine ZE.iload_n d_Gre_init_59 rfl ?_
      refine ZE.aload_n d_Gre_init_60 rfl ?_
      refine ZE.getE (v := g + 4) d_Gre_init_61 f_Gre_25 (tg := 2) rfl ((hgR.2.2.1 (g) (by omega)).1.trans hk) ((congrFun (hf g (by omega) (by omega)) _).trans hF.2.2.2.1) ?_
      refine ZE.alenE (v := (7 : Int)) d_Gre_init_64 (by have hk0 := (hgR.2.2.1 (g + 4) (by omega)).1.trans hp.1; show 1 ≤ gk G1 (g + 4) ∧ gk G1 (g + 4) ≤ 6; omega) ((hgR.2.2.1 (g + 4) (by omega)).2.trans hp.2) ?_
      refine ZE.icmp_ge (tgt := 89) d_Gre_init_65 rfl (by unfold zR; omega) (by unfold zR; omega) (fun c65 => ?_) (fun c65 => ?_)
      · refine ZE.vret d_Gre_init_89 rfl ?_
        have e7 : i = 7 := by omega
        subst e7
        have fx : A1 g = A g := hf g (by omega) (by omega)
        have f5 : A1 (g + 5) = A (g + 5) := hf _ (by omega) (by omega)
        exact k G1 A1 ⟨(hgR.2.2.1 g (by omega)).1.trans hk, h0, ⟨(hgR.2.2.1 (g + 1) (by omega)).1.trans hr.1.1, (hgR.2.2.1 (g + 1) (by omega)).2.trans hr.1.2⟩, ⟨(hgR.2.2.1 (g + 2) (by omega)).1.trans hr.2.1.1, (hgR.2.2.1 (g + 2) (by omega)).2.trans hr.2.1.2⟩, ⟨(hgR.2.2.1 (g + 3) (by omega)).1.trans hr.2.2.1, (hgR.2.2.1 (g + 3) (by omega)).2.trans hr.2.2.2⟩, ⟨(hgR.2.2.1 (g + 4) (by omega)).1.trans hp.1, (hgR.2.2.1 (g + 4) (by omega)).2.trans hp.2⟩, hb5.gr hgR (by omega), fun k hk9 => (hB k hk9).1⟩ ⟨(congrFun fx _).trans hF.1, (congrFun fx _).trans hF.2.1, (congrFun fx _).trans hF.2.2.1, (congrFun fx _).trans hF.2.2.2.1, (congrFun fx _).trans hF.2.2.2.2, hp4, (congrFun f5 _).trans hs5, fun k hk9 => (hB k hk9).2⟩ ((congrFun fx _).trans h5) (fun a ha => hf a (by omega) (by omega)) hgR
      · refine ZE.aload_n d_Gre_init_68 rfl ?_
        refine ZE.getE (v := g + 4) d_Gre_init_69 f_Gre_25 (tg := 2) rfl ((hgR.2.2.1 (g) (by omega)).1.trans hk) ((congrFun (hf g (by omega) (by omega)) _).trans hF.2.2.2.1) ?_
        refine ZE.iload_n d_Gre_init_72 rfl ?_
        refine ZE.new d_Gre_init_73 n_Gre_23 ?_
        rw [gnew_gw, show (gz (gw G1 A1) : Int) = g + 7 + 2 * (i : Int) from hz1]
        obtain ⟨Gn, hE⟩ : ∃ H1, H1 = gnew G1 10 2 (zInit 0) := ⟨_, rfl⟩
        rw [show gnew G1 (10 + 0) 2 (zInit 0) = Gn from hE.symm, show (gz G1 : Int) = g + 7 + 2 * (i : Int) from hz1]
        have hgr1 : gR G1 Gn 1 2 := by rw [hE]; exact gR.new
        have hkn : gk Gn (g + 7 + 2 * (i : Int)) = 10 := by rw [hE, show g + 7 + 2 * (i : Int) = (gz G1 : Int) from hz1.symm]; exact gnew_gk
        have hgA := hgR.tr hgr1
        have hz2 : (gz Gn : Int) = g + 7 + 2 * (i : Int) + 1 := by have := hgr1.1; omega
        refine ZE.dup d_Gre_init_76 (Or.inr rfl) ?_
        refine ZE.bipush (n := 58) d_Gre_init_77 rfl ?_
        refine ZE.cI [(0, 58)] [(2, g + 7 + 2 * (i : Int)), (0, (i : Int)), (2, g + 4)] [(2, g + 7 + 2 * (i : Int)), (0, 58)] d_Gre_init_79 l_Gre_29 rfl rfl rfl rfl rfl rfl (by omega) ?_
        refine B_init (b := g + 7 + 2 * (i : Int)) (cap := 58) hz2 (by omega) hkn (by omega) ((congrFun (upA_at _ _ _) 1).trans rfl) (fun G2 B hB2 hN2 gr2 hfr => ?_)
        show ZE (d + 2) M_Gre_init (gw G2 B) 82 [(2, g), (0, (i : Int))] [(2, g + 7 + 2 * (i : Int)), (0, (i : Int)), (2, g + 4)] _
        have hgB := hgA.tr gr2
        refine ZE.aast d_Gre_init_82 ((hgB.2.2.1 (g + 4) (by omega)).1.trans hp.1) (by omega) (by have hn0 := ((hgB.2.2.1 (g + 4) (by omega)).2.trans hp.2); show 0 ≤ (i : Int) ∧ (i : Int) < gn G2 (g + 4); omega) hB2.1 ?_
        show ZE (d + 2) M_Gre_init (gw G2 (up2 B (g + 4) (i : Int) (g + 7 + 2 * (i : Int)))) 83 [(2, g), (0, (i : Int))] [] _
        refine ZE.iinc (ls2 := [(2, g), (0, (i : Int) + 1)]) d_Gre_init_83 rfl rfl ?_
        refine ZE.goto (tgt := 59) d_Gre_init_86 rfl ?_
        have hBf : ∀ a : Int, a < g + 7 + 2 * (i : Int) → B a = A1 a := fun a ha => by rw [hfr a ha, upA_ne _ _ (by omega)]
        rw [show (i : Int) + 1 = ((i + 1 : Nat) : Int) by omega]
        refine ih (i + 1) G2 _ (by omega) ?_ (fun a ha hb => ?_) (fun k hk9 => ?_) (fun k hk9 => ?_) (by omega)
        · rw [show 2 * (i + 1) = 2 * i + 1 + 1 by omega, show 60 * (i + 1) = 60 * i + 2 + 58 by omega]
          exact hgB
        · rw [up2_A, upA_ne _ _ hb, hBf a (by omega)]; exact hf a ha hb
        · by_cases q : k = i
          · subst q; exact up2_at _ _ _ _
          · rw [up2_ne _ _ (by omega), hBf _ (by omega)]; exact hp4 k (by omega)
        · rw [up2_A, upA_ne _ _ (by omega)]
          by_cases q : k = i
          · subst q; exact ⟨hB2, hN2.1⟩
          · have q2 := hB k (by omega)
            rw [hBf _ (by omega)]
            exact ⟨(q2.1.gr hgr1 (by omega)).gr gr2 (by omega), q2.2⟩
  exact L59 _ 0 G A (by omega) gR.rf (fun _ _ _ => rfl) (fun _ h9 => absurd h9 (Nat.not_lt_zero _)) (fun _ h9 => absurd h9 (Nat.not_lt_zero _)) (Nat.lt_succ_self _)
set_option maxRecDepth 20000 in
set_option maxHeartbeats 4000000 in
theorem e_init {d : Nat} {G : zG} {A : Int → Int → Int} {P : Option zV → zG → Prop} {g : Int} (hz : (gz G : Int) = g + 1) (h0 : 0 ≤ g) (hk : gk G g = 13) (k : ∀ G2 A2, eK G2 g → eF A2 g → A2 g 5 = -1 → (∀ a : Int, a < g → A2 a = A a) → gR G G2 20 24153 → P none (gw G2 A2)) : ZE (d + 2) M_Gre_init (gw G A) 0 [(2, g), (9, 0)] [] P := by
  refine ZE.aload_n d_Gre_init_0 rfl ?_
  refine ZE.objInit d_Gre_init_1 o_Gre_3 (by omega) (Nat.le_of_ble_eq_true rfl) ?_
  refine ZE.aload_n d_Gre_init_4 rfl ?_
  refine ZE.sipush (n := 23258) d_Gre_init_5 rfl ?_
  refine ZE.newI (n := 23258) d_Gre_init_8 rfl (by omega) ?_
  rw [gnew_gw, show (gz (gw G A) : Int) = g + 1 from hz]
  obtain ⟨Gn1, hE1⟩ : ∃ H1, H1 = gnew G 1 23258 (fun _ => 0) := ⟨_, rfl⟩
  rw [show gnew G 1 23258 (fun _ => 0) = Gn1 from hE1.symm, show (gz G : Int) = g + 1 from hz]
  have hgr1 : gR G Gn1 1 23258 := by rw [hE1]; exact gR.new
  have hkn1 : Unit → (gk Gn1 (g + 1) = 1 ∧ gn Gn1 (g + 1) = (23258 : Int)) := fun _ => by rw [hE1, show g + 1 = (gz G : Int) from hz.symm]; exact ⟨gnew_gk, gnew_gn⟩
  have hz1 : (gz Gn1 : Int) = g + 2 := by have := hgr1.1; omega
  have hk1 : gk Gn1 g = 13 := (hgr1.2.2.1 g (by omega)).1.trans hk
  have hzh0 : Unit → (gz G : Int) = g + 1 := fun _ => hz
  clear hz hk
  skip
  refine ZE.put d_Gre_init_10 f_Gre_11 (tg := 2) rfl trivial (Or.inr ⟨⟨_, _, _, rfl, rfl, rfl⟩, rfl⟩) hk1 ?_
  show ZE (d + 2) M_Gre_init (gw Gn1 (up2 (upA A (g + 1) (fun _ => 0)) g 0 (g + 1))) 13 [(2, g), (9, 0)] [] _
  refine ZE.aload_n d_Gre_init_13 rfl ?_
  refine ZE.sipush (n := 401) d_Gre_init_14 rfl ?_
  refine ZE.newI (n := 401) d_Gre_init_17 rfl (by omega) ?_
  rw [gnew_gw, show (gz (gw Gn1 (up2 (upA A (g + 1) (fun _ => 0)) g 0 (g + 1))) : Int) = g + 2 from hz1]
  obtain ⟨Gn2, hE2⟩ : ∃ H1, H1 = gnew Gn1 1 401 (fun _ => 0) := ⟨_, rfl⟩
  rw [show gnew Gn1 1 401 (fun _ => 0) = Gn2 from hE2.symm, show (gz Gn1 : Int) = g + 2 from hz1]
  have hgr2 : gR Gn1 Gn2 1 401 := by rw [hE2]; exact gR.new
  have hkn2 : Unit → (gk Gn2 (g + 2) = 1 ∧ gn Gn2 (g + 2) = (401 : Int)) := fun _ => by rw [hE2, show g + 2 = (gz Gn1 : Int) from hz1.symm]; exact ⟨gnew_gk, gnew_gn⟩
  have hz2 : (gz Gn2 : Int) = g + 3 := by have := hgr2.1; omega
  have hk2 : gk Gn2 g = 13 := (hgr2.2.2.1 g (by omega)).1.trans hk1
  have hzh1 : Unit → (gz Gn1 : Int) = g + 2 := fun _ => hz1
  clear hz1 hk1
  skip
  refine ZE.put d_Gre_init_19 f_Gre_15 (tg := 2) rfl trivial (Or.inr ⟨⟨_, _, _, rfl, rfl, rfl⟩, rfl⟩) hk2 ?_
  show ZE (d + 2) M_Gre_init (gw Gn2 (up2 (upA (up2 (upA A (g + 1) (fun _ => 0)) g 0 (g + 1)) (g + 2) (fun _ => 0)) g 1 (g + 2))) 22 [(2, g), (9, 0)] [] _
  refine ZE.aload_n d_Gre_init_22 rfl ?_
  refine ZE.bipush (n := 7) d_Gre_init_23 rfl ?_
  refine ZE.newI (n := 7) d_Gre_init_25 rfl (by omega) ?_
  rw [gnew_gw, show (gz (gw Gn2 (up2 (upA (up2 (upA A (g + 1) (fun _ => 0)) g 0 (g + 1)) (g + 2) (fun _ => 0)) g 1 (g + 2))) : Int) = g + 3 from hz2]
  obtain ⟨Gn3, hE3⟩ : ∃ H1, H1 = gnew Gn2 1 7 (fun _ => 0) := ⟨_, rfl⟩
  rw [show gnew Gn2 1 7 (fun _ => 0) = Gn3 from hE3.symm, show (gz Gn2 : Int) = g + 3 from hz2]
  have hgr3 : gR Gn2 Gn3 1 7 := by rw [hE3]; exact gR.new
  have hkn3 : Unit → (gk Gn3 (g + 3) = 1 ∧ gn Gn3 (g + 3) = (7 : Int)) := fun _ => by rw [hE3, show g + 3 = (gz Gn2 : Int) from hz2.symm]; exact ⟨gnew_gk, gnew_gn⟩
  have hz3 : (gz Gn3 : Int) = g + 4 := by have := hgr3.1; omega
  have hk3 : gk Gn3 g = 13 := (hgr3.2.2.1 g (by omega)).1.trans hk2
  have hzh2 : Unit → (gz Gn2 : Int) = g + 3 := fun _ => hz2
  clear hz2 hk2
  skip
  refine ZE.put d_Gre_init_27 f_Gre_20 (tg := 2) rfl trivial (Or.inr ⟨⟨_, _, _, rfl, rfl, rfl⟩, rfl⟩) hk3 ?_
  show ZE (d + 2) M_Gre_init (gw Gn3 (up2 (upA (up2 (upA (up2 (upA A (g + 1) (fun _ => 0)) g 0 (g + 1)) (g + 2) (fun _ => 0)) g 1 (g + 2)) (g + 3) (fun _ => 0)) g 2 (g + 3))) 30 [(2, g), (9, 0)] [] _
  refine ZE.aload_n d_Gre_init_30 rfl ?_
  refine ZE.bipush (n := 7) d_Gre_init_31 rfl ?_
  refine ZE.newA (n := 7) (kd := 5) d_Gre_init_33 r_Gre_23 (Or.inr (Or.inr ⟨rfl, rfl⟩)) rfl (by omega) ?_
  rw [gnew_gw, show (gz (gw Gn3 (up2 (upA (up2 (upA (up2 (upA A (g + 1) (fun _ => 0)) g 0 (g + 1)) (g + 2) (fun _ => 0)) g 1 (g + 2)) (g + 3) (fun _ => 0)) g 2 (g + 3))) : Int) = g + 4 from hz3]
  obtain ⟨Gn4, hE4⟩ : ∃ H1, H1 = gnew Gn3 5 7 (fun _ => -1) := ⟨_, rfl⟩
  rw [show gnew Gn3 5 7 (fun _ => -1) = Gn4 from hE4.symm, show (gz Gn3 : Int) = g + 4 from hz3]
  have hgr4 : gR Gn3 Gn4 1 7 := by rw [hE4]; exact gR.new
  have hkn4 : Unit → (gk Gn4 (g + 4) = 5 ∧ gn Gn4 (g + 4) = (7 : Int)) := fun _ => by rw [hE4, show g + 4 = (gz Gn3 : Int) from hz3.symm]; exact ⟨gnew_gk, gnew_gn⟩
  have hz4 : (gz Gn4 : Int) = g + 5 := by have := hgr4.1; omega
  have hk4 : gk Gn4 g = 13 := (hgr4.2.2.1 g (by omega)).1.trans hk3
  have hzh3 : Unit → (gz Gn3 : Int) = g + 4 := fun _ => hz3
  clear hz3 hk3
  skip
  refine ZE.put d_Gre_init_36 f_Gre_25 (tg := 2) rfl trivial (Or.inr ⟨⟨_, _, _, rfl, rfl, rfl⟩, rfl⟩) hk4 ?_
  show ZE (d + 2) M_Gre_init (gw Gn4 (up2 (upA (up2 (upA (up2 (upA (up2 (upA A (g + 1) (fun _ => 0)) g 0 (g + 1)) (g + 2) (fun _ => 0)) g 1 (g + 2)) (g + 3) (fun _ => 0)) g 2 (g + 3)) (g + 4) (fun _ => -1)) g 3 (g + 4))) 39 [(2, g), (9, 0)] [] _
  refine ZE.aload_n d_Gre_init_39 rfl ?_
  refine ZE.new d_Gre_init_40 n_Gre_23 ?_
  rw [gnew_gw, show (gz (gw Gn4 (up2 (upA (up2 (upA (up2 (upA (up2 (upA A (g + 1) (fun _ => 0)) g 0 (g + 1)) (g + 2) (fun _ => 0)) g 1 (g + 2)) (g + 3) (fun _ => 0)) g 2 (g + 3)) (g + 4) (fun _ => -1)) g 3 (g + 4))) : Int) = g + 5 from hz4]
  obtain ⟨Gn5, hE5⟩ : ∃ H1, H1 = gnew Gn4 10 2 (zInit 0) := ⟨_, rfl⟩
  rw [show gnew Gn4 (10 + 0) 2 (zInit 0) = Gn5 from hE5.symm, show (gz Gn4 : Int) = g + 5 from hz4]
  have hgr5 : gR Gn4 Gn5 1 2 := by rw [hE5]; exact gR.new
  have hkn5 : Unit → (gk Gn5 (g + 5) = 10 ∧ gn Gn5 (g + 5) = (2 : Int)) := fun _ => by rw [hE5, show g + 5 = (gz Gn4 : Int) from hz4.symm]; exact ⟨gnew_gk, gnew_gn⟩
  have hz5 : (gz Gn5 : Int) = g + 6 := by have := hgr5.1; omega
  have hk5 : gk Gn5 g = 13 := (hgr5.2.2.1 g (by omega)).1.trans hk4
  have hzh4 : Unit → (gz Gn4 : Int) = g + 5 := fun _ => hz4
  clear hz4 hk4
  skip
  refine ZE.dup d_Gre_init_43 (Or.inr rfl) ?_
  refine ZE.bipush (n := 58) d_Gre_init_44 rfl ?_
  refine ZE.cI [(0, 58)] [(2, g + 5), (2, g)] [(2, g + 5), (0, 58)] d_Gre_init_46 l_Gre_29 rfl rfl rfl rfl rfl rfl (by omega) ?_
  refine B_init (b := g + 5) (cap := 58) (hz5.trans (by omega)) (by omega) (hkn5 ()).1 (by omega) ((congrFun (upA_at _ _ _) 1).trans rfl) (fun Gb6 Ac hBc hNc hgr6 hfc => ?_)
  show ZE (d + 2) M_Gre_init (gw Gb6 Ac) 49 [(2, g), (9, 0)] [(2, g + 5), (2, g)] _
  have hz6 : (gz Gb6 : Int) = g + 7 := by have := hgr6.1; omega
  have hk6 : gk Gb6 g = 13 := (hgr6.2.2.1 g (by omega)).1.trans hk5
  have hzh5 : Unit → (gz Gn5 : Int) = g + 6 := fun _ => hz5
  clear hz5 hk5
  have hlo : ∀ a : Int, a < g → Ac a = A a := fun a ha => by
    rw [hfc a (by omega)]
    simp only [up2_A, upA_ne _ _ (show a ≠ g by omega), upA_ne _ _ (show a ≠ g + 1 by omega), upA_ne _ _ (show a ≠ g + 2 by omega), upA_ne _ _ (show a ≠ g + 3 by omega), upA_ne _ _ (show a ≠ g + 4 by omega), upA_ne _ _ (show a ≠ g + 5 by omega)]
  have hAc_0 : Unit → Ac g 0 = g + 1 := fun _ => (congrFun (hfc g (by omega)) _).trans ((congrFun (upA_ne _ _ (by omega)) _).trans ((up2_ne _ _ (by omega)).trans ((congrFun (upA_ne _ _ (by omega)) _).trans ((up2_ne _ _ (by omega)).trans ((congrFun (upA_ne _ _ (by omega)) _).trans ((up2_ne _ _ (by omega)).trans ((congrFun (upA_ne _ _ (by omega)) _).trans (up2_at _ _ _ _))))))))
  have hAc_1 : Unit → Ac g 1 = g + 2 := fun _ => (congrFun (hfc g (by omega)) _).trans ((congrFun (upA_ne _ _ (by omega)) _).trans ((up2_ne _ _ (by omega)).trans ((congrFun (upA_ne _ _ (by omega)) _).trans ((up2_ne _ _ (by omega)).trans ((congrFun (upA_ne _ _ (by omega)) _).trans (up2_at _ _ _ _))))))
  have hAc_2 : Unit → Ac g 2 = g + 3 := fun _ => (congrFun (hfc g (by omega)) _).trans ((congrFun (upA_ne _ _ (by omega)) _).trans ((up2_ne _ _ (by omega)).trans ((congrFun (upA_ne _ _ (by omega)) _).trans (up2_at _ _ _ _))))
  have hAc_3 : Unit → Ac g 3 = g + 4 := fun _ => (congrFun (hfc g (by omega)) _).trans ((congrFun (upA_ne _ _ (by omega)) _).trans (up2_at _ _ _ _))
  refine ZE.put d_Gre_init_49 f_Gre_32 (tg := 2) rfl trivial (Or.inr ⟨⟨_, _, _, rfl, rfl, rfl⟩, rfl⟩) hk6 ?_
  show ZE (d + 2) M_Gre_init (gw Gb6 (up2 Ac g 4 (g + 5))) 52 [(2, g), (9, 0)] [] _
  refine ZE.aload_n d_Gre_init_52 rfl ?_
  refine ZE.iconst (n := (-1)) d_Gre_init_53 ?_
  refine ZE.put d_Gre_init_54 f_Gre_36 (tg := 0) rfl trivial (Or.inl ⟨_, _, _, rfl, rfl, rfl⟩) hk6 ?_
  show ZE (d + 2) M_Gre_init (gw Gb6 (up2 (up2 Ac g 4 (g + 5)) g 5 (-1))) 57 [(2, g), (9, 0)] [] _
  refine ZE.iconst (n := 0) d_Gre_init_57 ?_
  refine ZE.istore_n (ls2 := [(2, g), (0, 0)]) d_Gre_init_58 (Nat.le_of_ble_eq_true rfl) rfl ?_
  have hS6 : gR Gb6 Gb6 0 0 := gR.rf
  have hS5 := hgr6.tr hS6
  have hS4 := hgr5.tr hS5
  have hS3 := hgr4.tr hS4
  have hS2 := hgr3.tr hS3
  have hS1 := hgr2.tr hS2
  have hS0 := hgr1.tr hS1
  refine e_initL (hz6.trans (by omega)) h0 hk6 ⟨(by have := hzh1 (); exact ⟨(hS1.2.2.1 (g + 1) (by omega)).1.trans (hkn1 ()).1, (hS1.2.2.1 (g + 1) (by omega)).2.trans (hkn1 ()).2⟩), (by have := hzh2 (); exact ⟨(hS2.2.2.1 (g + 2) (by omega)).1.trans (hkn2 ()).1, (hS2.2.2.1 (g + 2) (by omega)).2.trans (hkn2 ()).2⟩), (by have := hzh3 (); exact ⟨(hS3.2.2.1 (g + 3) (by omega)).1.trans (hkn3 ()).1, (hS3.2.2.1 (g + 3) (by omega)).2.trans (hkn3 ()).2⟩)⟩ (by have := hzh4 (); exact ⟨(hS4.2.2.1 (g + 4) (by omega)).1.trans (hkn4 ()).1, (hS4.2.2.1 (g + 4) (by omega)).2.trans (hkn4 ()).2⟩) hBc ⟨((up2_ne _ _ (by omega)).trans ((up2_ne _ _ (by omega)).trans (hAc_0 ()))), ((up2_ne _ _ (by omega)).trans ((up2_ne _ _ (by omega)).trans (hAc_1 ()))), ((up2_ne _ _ (by omega)).trans ((up2_ne _ _ (by omega)).trans (hAc_2 ()))), ((up2_ne _ _ (by omega)).trans ((up2_ne _ _ (by omega)).trans (hAc_3 ()))), ((up2_ne _ _ (by omega)).trans (up2_at _ _ _ _))⟩ ((up2_at _ _ _ _)) ?_ (fun G2 A2 k1 k2 k3 k4 k5 => k G2 A2 k1 k2 k3 (fun a ha => ?_) (hS0.tr k5))
  · rw [up2_A, upA_ne _ _ (by omega), up2_A, upA_ne _ _ (by omega)]; exact hNc.1
  · rw [k4 a ha, up2_A, upA_ne _ _ (by omega), up2_A, upA_ne _ _ (by omega)]; exact hlo a ha
