def sK (G : zG) (s : Int) : Prop := gk G s = 16 ∧ 0 ≤ s ∧ fK G (s + 1) ∧ (gk G (s + 28) = 3 ∧ gn G (s + 28) = 128) ∧ (gk G (s + 29) = 3 ∧ gn G (s + 29) = 32) ∧ (gk G (s + 30) = 4 ∧ gn G (s + 30) = 64) ∧ bK G (s + 31) 32 ∧ wK G (s + 33)
def sF (A : Int → Int → Int) (s : Int) (ap : Nat) : Prop := A s 0 = s + 1 ∧ A s 1 = s + 10 ∧ A s 2 = s + 19 ∧ A s 3 = s + 28 ∧ A s 4 = s + 29 ∧ A s 5 = s + 30 ∧ A s 6 = s + 31 ∧ A s 7 = s + 33 ∧ A s 8 = (ap : Int) ∧ fO A (s + 1) ∧ wO A (s + 33) ap ∧ A (s + 31) 0 = s + 31 + 1
theorem frD2 : frD 2 := frD_2 (s := 1) (by omega) (by decide) (by omega)
theorem wO.ab' {A B : Int → Int → Int} {p : Int} {ap : Nat} (h : wO A p ap) (e : ∀ a : Int, p ≤ a → a ≤ p + 12 → B a = A a) : wO B p ap := h.ab (fun a h1 h2 => e a h1 (by omega))
set_option maxRecDepth 20000 in
set_option maxHeartbeats 4000000 in
theorem s_init {d : Nat} {G : zG} {A : Int → Int → Int} {P : Option zV → zG → Prop} {s : Int} (hz : (gz G : Int) = s + 1) (h0 : 0 ≤ s) (hk : gk G s = 16) {ap : Nat} (h010 : A s 10 = 0) (h011 : A s 11 = 0) (h012 : A s 12 = 0) (k : ∀ G2 A2, sK G2 s → sF A2 s ap → (A2 s 9 = -1 ∧ A2 s 10 = 0 ∧ A2 s 11 = 0 ∧ A2 s 12 = 0) → (∀ j : Int, A2 (s + 28) j = -1) → (∀ j : Int, A2 (s + 29) j = -1) → (∀ j : Int, A2 (s + 30) j = -1) → (∀ a : Int, a < s → A2 a = A a) → gR G G2 45 595 → P none (gw G2 A2)) : ZE (d + 4) M_Sea_init (gw G A) 0 [(2, s), (0, (ap : Int))] [] P := by
  refine ZE.aload_n d_Sea_init_0 rfl ?_
  refine ZE.objInit d_Sea_init_1 o_Sea_3 (by omega) (Nat.le_of_ble_eq_true rfl) ?_
  refine ZE.aload_n d_Sea_init_4 rfl ?_
  refine ZE.new d_Sea_init_5 n_Sea_9 ?_
  rw [gnew_gw, show (gz (gw G A) : Int) = s + 1 from hz]
  obtain ⟨Gn1, hE1⟩ : ∃ H1, H1 = gnew G 12 9 (zInit 2) := ⟨_, rfl⟩
  rw [show gnew G (10 + 2) 9 (zInit 2) = Gn1 from hE1.symm, show (gz G : Int) = s + 1 from hz]
  have hgr1 : gR G Gn1 1 9 := by rw [hE1]; exact gR.new
  have hkn1 : Unit → (gk Gn1 (s + 1) = 12 ∧ gn Gn1 (s + 1) = (9 : Int)) := fun _ => by rw [hE1, show s + 1 = (gz G : Int) from hz.symm]; exact ⟨gnew_gk, gnew_gn⟩
  have hz1 : (gz Gn1 : Int) = s + 2 := by have := hgr1.1; omega
  have hk1 : gk Gn1 s = 16 := (hgr1.2.2.1 s (by omega)).1.trans hk
  have hzh0 : Unit → (gz G : Int) = s + 1 := fun _ => hz
  clear hz hk
  skip
  refine ZE.dup d_Sea_init_8 (Or.inr rfl) ?_
  refine ZE.cN [] [(2, s + 1), (2, s)] [(2, s + 1)] d_Sea_init_9 l_Sea_11 (List.Mem.head _) rfl rfl rfl rfl rfl rfl (by omega) ?_
  refine f_init (f := s + 1) (hz1.trans (by omega)) (by omega) (hkn1 ()).1 (fun Gb2 Aa hfK hfO hfa hgr2 => ?_)
  show ZE (d + 4) M_Sea_init (gw Gb2 Aa) 12 [(2, s), (0, (ap : Int))] [(2, s + 1), (2, s)] _
  have hz2 : (gz Gb2 : Int) = s + 10 := by have := hgr2.1; omega
  have hk2 : gk Gb2 s = 16 := (hgr2.2.2.1 s (by omega)).1.trans hk1
  have hzh1 : Unit → (gz Gn1 : Int) = s + 2 := fun _ => hz1
  clear hz1 hk1
  have hlAa : ∀ a : Int, a < s → Aa a = A a := fun a ha => by
    rw [hfa a (by omega)]
    simp only [up2_A, upA_ne _ _ (show a ≠ s + 1 by omega)]
  have hAa_10 : Unit → Aa s 10 = 0 := fun _ => (congrFun (hfa s (by omega)) _).trans ((congrFun (upA_ne _ _ (by omega)) _).trans h010)
  have hAa_11 : Unit → Aa s 11 = 0 := fun _ => (congrFun (hfa s (by omega)) _).trans ((congrFun (upA_ne _ _ (by omega)) _).trans h011)
  have hAa_12 : Unit → Aa s 12 = 0 := fun _ => (congrFun (hfa s (by omega)) _).trans ((congrFun (upA_ne _ _ (by omega)) _).trans h012)
  refine ZE.put d_Sea_init_12 f_Sea_12 (tg := 2) rfl trivial (Or.inr ⟨⟨_, _, _, rfl, rfl, rfl⟩, rfl⟩) hk2 ?_
  show ZE (d + 4) M_Sea_init (gw Gb2 (up2 Aa s 0 (s + 1))) 15 [(2, s), (0, (ap : Int))] [] _
  refine ZE.aload_n d_Sea_init_15 rfl ?_
  refine ZE.new d_Sea_init_16 n_Sea_18 ?_
  rw [gnew_gw, show (gz (gw Gb2 (up2 Aa s 0 (s + 1))) : Int) = s + 10 from hz2]
  obtain ⟨Gn3, hE3⟩ : ∃ H1, H1 = gnew Gb2 19 10 (zInit 9) := ⟨_, rfl⟩
  rw [show gnew Gb2 (10 + 9) 10 (zInit 9) = Gn3 from hE3.symm, show (gz Gb2 : Int) = s + 10 from hz2]
  have hgr3 : gR Gb2 Gn3 1 10 := by rw [hE3]; exact gR.new
  have hkn3 : Unit → (gk Gn3 (s + 10) = 19 ∧ gn Gn3 (s + 10) = (10 : Int)) := fun _ => by rw [hE3, show s + 10 = (gz Gb2 : Int) from hz2.symm]; exact ⟨gnew_gk, gnew_gn⟩
  have hz3 : (gz Gn3 : Int) = s + 11 := by have := hgr3.1; omega
  have hk3 : gk Gn3 s = 16 := (hgr3.2.2.1 s (by omega)).1.trans hk2
  have hzh2 : Unit → (gz Gb2 : Int) = s + 10 := fun _ => hz2
  clear hz2 hk2
  skip
  refine ZE.dup d_Sea_init_19 (Or.inr rfl) ?_
  refine ZE.iconst (n := 1) d_Sea_init_20 ?_
  refine ZE.iconst (n := 2) d_Sea_init_21 ?_
  refine ZE.aload_n d_Sea_init_22 rfl ?_
  refine ZE.getE (v := s + 1) d_Sea_init_23 f_Sea_12 (tg := 2) rfl hk3 ((congrFun (upA_ne _ _ (by omega)) _).trans (up2_at _ _ _ _)) ?_
  refine ZE.cI [(0, 1), (0, 2), (2, s + 1)] [(2, s + 10), (2, s)] [(2, s + 10), (0, 1), (0, 2), (2, s + 1)] d_Sea_init_26 l_Sea_20 rfl rfl rfl rfl rfl rfl (by omega) ?_
  refine u_init (u := s + 10) (hz3.trans (by omega)) (by omega) (hkn3 ()).1 (f := s + 1) (hfK.gr hgr3 (by have := hzh2 (); omega)) (hfO.ab (fun a ha1 ha2 => by simp only [up2_A, upA_ne _ _ (show a ≠ s by omega), upA_ne _ _ (show a ≠ s + 10 by omega)])) (by omega) (q := 1) (D := 2) frD2 (fun Gb4 Ab huK huO hu7 hfb hfO2 hgr4 => ?_)
  show ZE (d + 4) M_Sea_init (gw Gb4 Ab) 29 [(2, s), (0, (ap : Int))] [(2, s + 10), (2, s)] _
  have hz4 : (gz Gb4 : Int) = s + 19 := by have := hgr4.1; omega
  have hk4 : gk Gb4 s = 16 := (hgr4.2.2.1 s (by omega)).1.trans hk3
  have hzh3 : Unit → (gz Gn3 : Int) = s + 11 := fun _ => hz3
  clear hz3 hk3
  have hlAb : ∀ a : Int, a < s → Ab a = A a := fun a ha => by
    rw [hfb a (by omega) (by omega)]
    simp only [up2_A, upA_ne _ _ (show a ≠ s by omega), upA_ne _ _ (show a ≠ s + 10 by omega)]
    exact hlAa a ha
  have hAb_0 : Unit → Ab s 0 = s + 1 := fun _ => (congrFun (hfb s (by omega) (by omega)) _).trans ((congrFun (upA_ne _ _ (by omega)) _).trans (up2_at _ _ _ _))
  have hAb_10 : Unit → Ab s 10 = 0 := fun _ => (congrFun (hfb s (by omega) (by omega)) _).trans ((congrFun (upA_ne _ _ (by omega)) _).trans ((up2_ne _ _ (by omega)).trans (hAa_10 ())))
  have hAb_11 : Unit → Ab s 11 = 0 := fun _ => (congrFun (hfb s (by omega) (by omega)) _).trans ((congrFun (upA_ne _ _ (by omega)) _).trans ((up2_ne _ _ (by omega)).trans (hAa_11 ())))
  have hAb_12 : Unit → Ab s 12 = 0 := fun _ => (congrFun (hfb s (by omega) (by omega)) _).trans ((congrFun (upA_ne _ _ (by omega)) _).trans ((up2_ne _ _ (by omega)).trans (hAa_12 ())))
  refine ZE.put d_Sea_init_29 f_Sea_23 (tg := 2) rfl trivial (Or.inr ⟨⟨_, _, _, rfl, rfl, rfl⟩, rfl⟩) hk4 ?_
  show ZE (d + 4) M_Sea_init (gw Gb4 (up2 Ab s 1 (s + 10))) 32 [(2, s), (0, (ap : Int))] [] _
  refine ZE.aload_n d_Sea_init_32 rfl ?_
  refine ZE.new d_Sea_init_33 n_Sea_27 ?_
  rw [gnew_gw, show (gz (gw Gb4 (up2 Ab s 1 (s + 10))) : Int) = s + 19 from hz4]
  obtain ⟨Gn5, hE5⟩ : ∃ H1, H1 = gnew Gb4 11 6 (zInit 1) := ⟨_, rfl⟩
  rw [show gnew Gb4 (10 + 1) 6 (zInit 1) = Gn5 from hE5.symm, show (gz Gb4 : Int) = s + 19 from hz4]
  have hgr5 : gR Gb4 Gn5 1 6 := by rw [hE5]; exact gR.new
  have hkn5 : Unit → (gk Gn5 (s + 19) = 11 ∧ gn Gn5 (s + 19) = (6 : Int)) := fun _ => by rw [hE5, show s + 19 = (gz Gb4 : Int) from hz4.symm]; exact ⟨gnew_gk, gnew_gn⟩
  have hz5 : (gz Gn5 : Int) = s + 20 := by have := hgr5.1; omega
  have hk5 : gk Gn5 s = 16 := (hgr5.2.2.1 s (by omega)).1.trans hk4
  have hzh4 : Unit → (gz Gb4 : Int) = s + 19 := fun _ => hz4
  clear hz4 hk4
  skip
  refine ZE.dup d_Sea_init_36 (Or.inr rfl) ?_
  refine ZE.new d_Sea_init_37 n_Sea_29 ?_
  rw [gnew_gw, show (gz (gw Gn5 (upA (up2 Ab s 1 (s + 10)) (s + 19) (zInit 1))) : Int) = s + 20 from hz5]
  obtain ⟨Gn6, hE6⟩ : ∃ H1, H1 = gnew Gn5 10 2 (zInit 0) := ⟨_, rfl⟩
  rw [show gnew Gn5 (10 + 0) 2 (zInit 0) = Gn6 from hE6.symm, show (gz Gn5 : Int) = s + 20 from hz5]
  have hgr6 : gR Gn5 Gn6 1 2 := by rw [hE6]; exact gR.new
  have hkn6 : Unit → (gk Gn6 (s + 20) = 10 ∧ gn Gn6 (s + 20) = (2 : Int)) := fun _ => by rw [hE6, show s + 20 = (gz Gn5 : Int) from hz5.symm]; exact ⟨gnew_gk, gnew_gn⟩
  have hz6 : (gz Gn6 : Int) = s + 21 := by have := hgr6.1; omega
  have hk6 : gk Gn6 s = 16 := (hgr6.2.2.1 s (by omega)).1.trans hk5
  have hzh5 : Unit → (gz Gn5 : Int) = s + 20 := fun _ => hz5
  clear hz5 hk5
  skip
  refine ZE.dup d_Sea_init_40 (Or.inr rfl) ?_
  refine ZE.iconst (n := 1) d_Sea_init_41 ?_
  refine ZE.cI [(0, 1)] [(2, s + 20), (2, s + 19), (2, s + 19), (2, s)] [(2, s + 20), (0, 1)] d_Sea_init_42 l_Sea_31 rfl rfl rfl rfl rfl rfl (by omega) ?_
  refine B_init (b := s + 20) (cap := 1) (hz6.trans (by omega)) (by omega) (hkn6 ()).1 (by omega) ((congrFun (upA_at _ _ _) 1).trans rfl) (fun Gb7 Ac hBc hNc hgr7 hfc => ?_)
  show ZE (d + 4) M_Sea_init (gw Gb7 Ac) 45 [(2, s), (0, (ap : Int))] [(2, s + 20), (2, s + 19), (2, s + 19), (2, s)] _
  have hz7 : (gz Gb7 : Int) = s + 22 := by have := hgr7.1; omega
  have hk7 : gk Gb7 s = 16 := (hgr7.2.2.1 s (by omega)).1.trans hk6
  have hzh6 : Unit → (gz Gn6 : Int) = s + 21 := fun _ => hz6
  clear hz6 hk6
  have hlAc : ∀ a : Int, a < s → Ac a = A a := fun a ha => by
    rw [hfc a (by omega)]
    simp only [up2_A, upA_ne _ _ (show a ≠ s by omega), upA_ne _ _ (show a ≠ s + 19 by omega), upA_ne _ _ (show a ≠ s + 20 by omega)]
    exact hlAb a ha
  have hAc_0 : Unit → Ac s 0 = s + 1 := fun _ => (congrFun (hfc s (by omega)) _).trans ((congrFun (upA_ne _ _ (by omega)) _).trans ((congrFun (upA_ne _ _ (by omega)) _).trans ((up2_ne _ _ (by omega)).trans (hAb_0 ()))))
  have hAc_1 : Unit → Ac s 1 = s + 10 := fun _ => (congrFun (hfc s (by omega)) _).trans ((congrFun (upA_ne _ _ (by omega)) _).trans ((congrFun (upA_ne _ _ (by omega)) _).trans (up2_at _ _ _ _)))
  have hAc_10 : Unit → Ac s 10 = 0 := fun _ => (congrFun (hfc s (by omega)) _).trans ((congrFun (upA_ne _ _ (by omega)) _).trans ((congrFun (upA_ne _ _ (by omega)) _).trans ((up2_ne _ _ (by omega)).trans (hAb_10 ()))))
  have hAc_11 : Unit → Ac s 11 = 0 := fun _ => (congrFun (hfc s (by omega)) _).trans ((congrFun (upA_ne _ _ (by omega)) _).trans ((congrFun (upA_ne _ _ (by omega)) _).trans ((up2_ne _ _ (by omega)).trans (hAb_11 ()))))
  have hAc_12 : Unit → Ac s 12 = 0 := fun _ => (congrFun (hfc s (by omega)) _).trans ((congrFun (upA_ne _ _ (by omega)) _).trans ((congrFun (upA_ne _ _ (by omega)) _).trans ((up2_ne _ _ (by omega)).trans (hAb_12 ()))))
  have hfO3 : fO Ac (s + 1) := hfO2.ab (fun a ha1 ha2 => by rw [hfc a (by omega)]; simp only [up2_A, upA_ne _ _ (show a ≠ s by omega), upA_ne _ _ (show a ≠ s + 19 by omega), upA_ne _ _ (show a ≠ s + 20 by omega)])
  refine ZE.iconst (n := 0) d_Sea_init_45 ?_
  refine ZE.iconst (n := 0) d_Sea_init_46 ?_
  refine ZE.newI (n := 0) d_Sea_init_47 rfl (by omega) ?_
  rw [gnew_gw, show (gz (gw Gb7 Ac) : Int) = s + 22 from hz7]
  obtain ⟨Gn8, hE8⟩ : ∃ H1, H1 = gnew Gb7 1 0 (fun _ => 0) := ⟨_, rfl⟩
  rw [show gnew Gb7 1 0 (fun _ => 0) = Gn8 from hE8.symm, show (gz Gb7 : Int) = s + 22 from hz7]
  have hgr8 : gR Gb7 Gn8 1 0 := by rw [hE8]; exact gR.new
  have hkn8 : Unit → (gk Gn8 (s + 22) = 1 ∧ gn Gn8 (s + 22) = (0 : Int)) := fun _ => by rw [hE8, show s + 22 = (gz Gb7 : Int) from hz7.symm]; exact ⟨gnew_gk, gnew_gn⟩
  have hz8 : (gz Gn8 : Int) = s + 23 := by have := hgr8.1; omega
  have hk8 : gk Gn8 s = 16 := (hgr8.2.2.1 s (by omega)).1.trans hk7
  have hzh7 : Unit → (gz Gb7 : Int) = s + 22 := fun _ => hz7
  clear hz7 hk7
  skip
  refine ZE.iconst (n := 0) d_Sea_init_49 ?_
  refine ZE.newI (n := 0) d_Sea_init_50 rfl (by omega) ?_
  rw [gnew_gw, show (gz (gw Gn8 (upA Ac (s + 22) (fun _ => 0))) : Int) = s + 23 from hz8]
  obtain ⟨Gn9, hE9⟩ : ∃ H1, H1 = gnew Gn8 1 0 (fun _ => 0) := ⟨_, rfl⟩
  rw [show gnew Gn8 1 0 (fun _ => 0) = Gn9 from hE9.symm, show (gz Gn8 : Int) = s + 23 from hz8]
  have hgr9 : gR Gn8 Gn9 1 0 := by rw [hE9]; exact gR.new
  have hkn9 : Unit → (gk Gn9 (s + 23) = 1 ∧ gn Gn9 (s + 23) = (0 : Int)) := fun _ => by rw [hE9, show s + 23 = (gz Gn8 : Int) from hz8.symm]; exact ⟨gnew_gk, gnew_gn⟩
  have hz9 : (gz Gn9 : Int) = s + 24 := by have := hgr9.1; omega
  have hk9 : gk Gn9 s = 16 := (hgr9.2.2.1 s (by omega)).1.trans hk8
  have hzh8 : Unit → (gz Gn8 : Int) = s + 23 := fun _ => hz8
  clear hz8 hk8
  skip
  have hS50 := hgr8.tr hgr9
  have hS52 := hgr6.tr (hgr7.tr hS50)
  refine ZE.cI [(2, s + 20), (0, 0), (2, s + 22), (2, s + 23)] [(2, s + 19), (2, s)] [(2, s + 19), (2, s + 20), (0, 0), (2, s + 22), (2, s + 23), (9, 0), (9, 0)] d_Sea_init_52 l_Sea_34 rfl rfl rfl rfl rfl rfl (by omega) ?_
  refine c_init0 (c := s + 19) (z := s + 23) (hz9.trans (by omega)) (by omega) (by omega) (((hS52.2.2.1 (s + 19) (by have := hzh5 (); omega))).1.trans (hkn5 ()).1) (m := s + 20) (cap2 := 1) (hBc.gr hS50 (by have := hzh7 (); omega)) (by omega) (hNc.ab (fun a ha => by simp only [up2_A, upA_ne _ _ (show a ≠ s + 22 by omega), upA_ne _ _ (show a ≠ s + 23 by omega)])) ⟨((hgr9.2.2.1 (s + 22) (by have := hzh8 (); omega))).1.trans (hkn8 ()).1, ((hgr9.2.2.1 (s + 22) (by have := hzh8 (); omega))).2.trans (hkn8 ()).2⟩ (by omega) (fun Gb10 Ad hkd hfd hgr10 => ?_)
  show ZE (d + 4) M_Sea_init (gw Gb10 Ad) 55 [(2, s), (0, (ap : Int))] [(2, s + 19), (2, s)] _
  have hz10 : (gz Gb10 : Int) = s + 28 := by have := hgr10.1; omega
  have hk10 : gk Gb10 s = 16 := (hgr10.2.2.1 s (by omega)).1.trans hk9
  have hzh9 : Unit → (gz Gn9 : Int) = s + 24 := fun _ => hz9
  clear hz9 hk9
  have hlAd : ∀ a : Int, a < s → Ad a = A a := fun a ha => by
    rw [hfd a (by omega) (by omega)]
    simp only [up2_A, upA_ne _ _ (show a ≠ s + 22 by omega), upA_ne _ _ (show a ≠ s + 23 by omega)]
    exact hlAc a ha
  have hAd_0 : Unit → Ad s 0 = s + 1 := fun _ => (congrFun (hfd s (by omega) (by omega)) _).trans ((congrFun (upA_ne _ _ (by omega)) _).trans ((congrFun (upA_ne _ _ (by omega)) _).trans (hAc_0 ())))
  have hAd_1 : Unit → Ad s 1 = s + 10 := fun _ => (congrFun (hfd s (by omega) (by omega)) _).trans ((congrFun (upA_ne _ _ (by omega)) _).trans ((congrFun (upA_ne _ _ (by omega)) _).trans (hAc_1 ())))
  have hAd_10 : Unit → Ad s 10 = 0 := fun _ => (congrFun (hfd s (by omega) (by omega)) _).trans ((congrFun (upA_ne _ _ (by omega)) _).trans ((congrFun (upA_ne _ _ (by omega)) _).trans (hAc_10 ())))
  have hAd_11 : Unit → Ad s 11 = 0 := fun _ => (congrFun (hfd s (by omega) (by omega)) _).trans ((congrFun (upA_ne _ _ (by omega)) _).trans ((congrFun (upA_ne _ _ (by omega)) _).trans (hAc_11 ())))
  have hAd_12 : Unit → Ad s 12 = 0 := fun _ => (congrFun (hfd s (by omega) (by omega)) _).trans ((congrFun (upA_ne _ _ (by omega)) _).trans ((congrFun (upA_ne _ _ (by omega)) _).trans (hAc_12 ())))
  have hfO4 : fO Ad (s + 1) := hfO3.ab (fun a ha1 ha2 => by rw [hfd a (by omega) (by omega)]; simp only [up2_A, upA_ne _ _ (show a ≠ s + 22 by omega), upA_ne _ _ (show a ≠ s + 23 by omega)])
  refine ZE.put d_Sea_init_55 f_Sea_37 (tg := 2) rfl trivial (Or.inr ⟨⟨_, _, _, rfl, rfl, rfl⟩, rfl⟩) hk10 ?_
  show ZE (d + 4) M_Sea_init (gw Gb10 (up2 Ad s 2 (s + 19))) 58 [(2, s), (0, (ap : Int))] [] _
  refine ZE.aload_n d_Sea_init_58 rfl ?_
  refine ZE.sipush (n := 128) d_Sea_init_59 rfl ?_
  refine ZE.newA (n := 128) (kd := 3) d_Sea_init_62 r_Sea_18 (Or.inl ⟨rfl, rfl⟩) rfl (by omega) ?_
  rw [gnew_gw, show (gz (gw Gb10 (up2 Ad s 2 (s + 19))) : Int) = s + 28 from hz10]
  obtain ⟨Gn11, hE11⟩ : ∃ H1, H1 = gnew Gb10 3 128 (fun _ => -1) := ⟨_, rfl⟩
  rw [show gnew Gb10 3 128 (fun _ => -1) = Gn11 from hE11.symm, show (gz Gb10 : Int) = s + 28 from hz10]
  have hgr11 : gR Gb10 Gn11 1 128 := by rw [hE11]; exact gR.new
  have hkn11 : Unit → (gk Gn11 (s + 28) = 3 ∧ gn Gn11 (s + 28) = (128 : Int)) := fun _ => by rw [hE11, show s + 28 = (gz Gb10 : Int) from hz10.symm]; exact ⟨gnew_gk, gnew_gn⟩
  have hz11 : (gz Gn11 : Int) = s + 29 := by have := hgr11.1; omega
  have hk11 : gk Gn11 s = 16 := (hgr11.2.2.1 s (by omega)).1.trans hk10
  have hzh10 : Unit → (gz Gb10 : Int) = s + 28 := fun _ => hz10
  clear hz10 hk10
  skip
  refine ZE.put d_Sea_init_65 f_Sea_41 (tg := 2) rfl trivial (Or.inr ⟨⟨_, _, _, rfl, rfl, rfl⟩, rfl⟩) hk11 ?_
  show ZE (d + 4) M_Sea_init (gw Gn11 (up2 (upA (up2 Ad s 2 (s + 19)) (s + 28) (fun _ => -1)) s 3 (s + 28))) 68 [(2, s), (0, (ap : Int))] [] _
  refine ZE.aload_n d_Sea_init_68 rfl ?_
  refine ZE.bipush (n := 32) d_Sea_init_69 rfl ?_
  refine ZE.newA (n := 32) (kd := 3) d_Sea_init_71 r_Sea_18 (Or.inl ⟨rfl, rfl⟩) rfl (by omega) ?_
  rw [gnew_gw, show (gz (gw Gn11 (up2 (upA (up2 Ad s 2 (s + 19)) (s + 28) (fun _ => -1)) s 3 (s + 28))) : Int) = s + 29 from hz11]
  obtain ⟨Gn12, hE12⟩ : ∃ H1, H1 = gnew Gn11 3 32 (fun _ => -1) := ⟨_, rfl⟩
  rw [show gnew Gn11 3 32 (fun _ => -1) = Gn12 from hE12.symm, show (gz Gn11 : Int) = s + 29 from hz11]
  have hgr12 : gR Gn11 Gn12 1 32 := by rw [hE12]; exact gR.new
  have hkn12 : Unit → (gk Gn12 (s + 29) = 3 ∧ gn Gn12 (s + 29) = (32 : Int)) := fun _ => by rw [hE12, show s + 29 = (gz Gn11 : Int) from hz11.symm]; exact ⟨gnew_gk, gnew_gn⟩
  have hz12 : (gz Gn12 : Int) = s + 30 := by have := hgr12.1; omega
  have hk12 : gk Gn12 s = 16 := (hgr12.2.2.1 s (by omega)).1.trans hk11
  have hzh11 : Unit → (gz Gn11 : Int) = s + 29 := fun _ => hz11
  clear hz11 hk11
  skip
  refine ZE.put d_Sea_init_74 f_Sea_45 (tg := 2) rfl trivial (Or.inr ⟨⟨_, _, _, rfl, rfl, rfl⟩, rfl⟩) hk12 ?_
  show ZE (d + 4) M_Sea_init (gw Gn12 (up2 (upA (up2 (upA (up2 Ad s 2 (s + 19)) (s + 28) (fun _ => -1)) s 3 (s + 28)) (s + 29) (fun _ => -1)) s 4 (s + 29))) 77 [(2, s), (0, (ap : Int))] [] _
  refine ZE.aload_n d_Sea_init_77 rfl ?_
  refine ZE.bipush (n := 64) d_Sea_init_78 rfl ?_
  refine ZE.newA (n := 64) (kd := 4) d_Sea_init_80 r_Sea_27 (Or.inr (Or.inl ⟨rfl, rfl⟩)) rfl (by omega) ?_
  rw [gnew_gw, show (gz (gw Gn12 (up2 (upA (up2 (upA (up2 Ad s 2 (s + 19)) (s + 28) (fun _ => -1)) s 3 (s + 28)) (s + 29) (fun _ => -1)) s 4 (s + 29))) : Int) = s + 30 from hz12]
  obtain ⟨Gn13, hE13⟩ : ∃ H1, H1 = gnew Gn12 4 64 (fun _ => -1) := ⟨_, rfl⟩
  rw [show gnew Gn12 4 64 (fun _ => -1) = Gn13 from hE13.symm, show (gz Gn12 : Int) = s + 30 from hz12]
  have hgr13 : gR Gn12 Gn13 1 64 := by rw [hE13]; exact gR.new
  have hkn13 : Unit → (gk Gn13 (s + 30) = 4 ∧ gn Gn13 (s + 30) = (64 : Int)) := fun _ => by rw [hE13, show s + 30 = (gz Gn12 : Int) from hz12.symm]; exact ⟨gnew_gk, gnew_gn⟩
  have hz13 : (gz Gn13 : Int) = s + 31 := by have := hgr13.1; omega
  have hk13 : gk Gn13 s = 16 := (hgr13.2.2.1 s (by omega)).1.trans hk12
  have hzh12 : Unit → (gz Gn12 : Int) = s + 30 := fun _ => hz12
  clear hz12 hk12
  skip
  refine ZE.put d_Sea_init_83 f_Sea_48 (tg := 2) rfl trivial (Or.inr ⟨⟨_, _, _, rfl, rfl, rfl⟩, rfl⟩) hk13 ?_
  show ZE (d + 4) M_Sea_init (gw Gn13 (up2 (upA (up2 (upA (up2 (upA (up2 Ad s 2 (s + 19)) (s + 28) (fun _ => -1)) s 3 (s + 28)) (s + 29) (fun _ => -1)) s 4 (s + 29)) (s + 30) (fun _ => -1)) s 5 (s + 30))) 86 [(2, s), (0, (ap : Int))] [] _
  refine ZE.aload_n d_Sea_init_86 rfl ?_
  refine ZE.new d_Sea_init_87 n_Sea_29 ?_
  rw [gnew_gw, show (gz (gw Gn13 (up2 (upA (up2 (upA (up2 (upA (up2 Ad s 2 (s + 19)) (s + 28) (fun _ => -1)) s 3 (s + 28)) (s + 29) (fun _ => -1)) s 4 (s + 29)) (s + 30) (fun _ => -1)) s 5 (s + 30))) : Int) = s + 31 from hz13]
  obtain ⟨Gn14, hE14⟩ : ∃ H1, H1 = gnew Gn13 10 2 (zInit 0) := ⟨_, rfl⟩
  rw [show gnew Gn13 (10 + 0) 2 (zInit 0) = Gn14 from hE14.symm, show (gz Gn13 : Int) = s + 31 from hz13]
  have hgr14 : gR Gn13 Gn14 1 2 := by rw [hE14]; exact gR.new
  have hkn14 : Unit → (gk Gn14 (s + 31) = 10 ∧ gn Gn14 (s + 31) = (2 : Int)) := fun _ => by rw [hE14, show s + 31 = (gz Gn13 : Int) from hz13.symm]; exact ⟨gnew_gk, gnew_gn⟩
  have hz14 : (gz Gn14 : Int) = s + 32 := by have := hgr14.1; omega
  have hk14 : gk Gn14 s = 16 := (hgr14.2.2.1 s (by omega)).1.trans hk13
  have hzh13 : Unit → (gz Gn13 : Int) = s + 31 := fun _ => hz13
  clear hz13 hk13
  skip
  refine ZE.dup d_Sea_init_90 (Or.inr rfl) ?_
  refine ZE.bipush (n := 32) d_Sea_init_91 rfl ?_
  refine ZE.cI [(0, 32)] [(2, s + 31), (2, s)] [(2, s + 31), (0, 32)] d_Sea_init_93 l_Sea_31 rfl rfl rfl rfl rfl rfl (by omega) ?_
  refine B_init (b := s + 31) (cap := 32) (hz14.trans (by omega)) (by omega) (hkn14 ()).1 (by omega) ((congrFun (upA_at _ _ _) 1).trans rfl) (fun Gb15 Ae hBe hNe hgr15 hfe => ?_)
  show ZE (d + 4) M_Sea_init (gw Gb15 Ae) 96 [(2, s), (0, (ap : Int))] [(2, s + 31), (2, s)] _
  have hz15 : (gz Gb15 : Int) = s + 33 := by have := hgr15.1; omega
  have hk15 : gk Gb15 s = 16 := (hgr15.2.2.1 s (by omega)).1.trans hk14
  have hzh14 : Unit → (gz Gn14 : Int) = s + 32 := fun _ => hz14
  clear hz14 hk14
  have hlAe : ∀ a : Int, a < s → Ae a = A a := fun a ha => by
    rw [hfe a (by omega)]
    simp only [up2_A, upA_ne _ _ (show a ≠ s by omega), upA_ne _ _ (show a ≠ s + 28 by omega), upA_ne _ _ (show a ≠ s + 29 by omega), upA_ne _ _ (show a ≠ s + 30 by omega), upA_ne _ _ (show a ≠ s + 31 by omega)]
    exact hlAd a ha
  have hAe_0 : Unit → Ae s 0 = s + 1 := fun _ => (congrFun (hfe s (by omega)) _).trans ((congrFun (upA_ne _ _ (by omega)) _).trans ((up2_ne _ _ (by omega)).trans ((congrFun (upA_ne _ _ (by omega)) _).trans ((up2_ne _ _ (by omega)).trans ((congrFun (upA_ne _ _ (by omega)) _).trans ((up2_ne _ _ (by omega)).trans ((congrFun (upA_ne _ _ (by omega)) _).trans ((up2_ne _ _ (by omega)).trans (hAd_0 ())))))))))
  have hAe_1 : Unit → Ae s 1 = s + 10 := fun _ => (congrFun (hfe s (by omega)) _).trans ((congrFun (upA_ne _ _ (by omega)) _).trans ((up2_ne _ _ (by omega)).trans ((congrFun (upA_ne _ _ (by omega)) _).trans ((up2_ne _ _ (by omega)).trans ((congrFun (upA_ne _ _ (by omega)) _).trans ((up2_ne _ _ (by omega)).trans ((congrFun (upA_ne _ _ (by omega)) _).trans ((up2_ne _ _ (by omega)).trans (hAd_1 ())))))))))
  have hAe_2 : Unit → Ae s 2 = s + 19 := fun _ => (congrFun (hfe s (by omega)) _).trans ((congrFun (upA_ne _ _ (by omega)) _).trans ((up2_ne _ _ (by omega)).trans ((congrFun (upA_ne _ _ (by omega)) _).trans ((up2_ne _ _ (by omega)).trans ((congrFun (upA_ne _ _ (by omega)) _).trans ((up2_ne _ _ (by omega)).trans ((congrFun (upA_ne _ _ (by omega)) _).trans (up2_at _ _ _ _))))))))
  have hAe_3 : Unit → Ae s 3 = s + 28 := fun _ => (congrFun (hfe s (by omega)) _).trans ((congrFun (upA_ne _ _ (by omega)) _).trans ((up2_ne _ _ (by omega)).trans ((congrFun (upA_ne _ _ (by omega)) _).trans ((up2_ne _ _ (by omega)).trans ((congrFun (upA_ne _ _ (by omega)) _).trans (up2_at _ _ _ _))))))
  have hAe_4 : Unit → Ae s 4 = s + 29 := fun _ => (congrFun (hfe s (by omega)) _).trans ((congrFun (upA_ne _ _ (by omega)) _).trans ((up2_ne _ _ (by omega)).trans ((congrFun (upA_ne _ _ (by omega)) _).trans (up2_at _ _ _ _))))
  have hAe_5 : Unit → Ae s 5 = s + 30 := fun _ => (congrFun (hfe s (by omega)) _).trans ((congrFun (upA_ne _ _ (by omega)) _).trans (up2_at _ _ _ _))
  have hAe_10 : Unit → Ae s 10 = 0 := fun _ => (congrFun (hfe s (by omega)) _).trans ((congrFun (upA_ne _ _ (by omega)) _).trans ((up2_ne _ _ (by omega)).trans ((congrFun (upA_ne _ _ (by omega)) _).trans ((up2_ne _ _ (by omega)).trans ((congrFun (upA_ne _ _ (by omega)) _).trans ((up2_ne _ _ (by omega)).trans ((congrFun (upA_ne _ _ (by omega)) _).trans ((up2_ne _ _ (by omega)).trans (hAd_10 ())))))))))
  have hAe_11 : Unit → Ae s 11 = 0 := fun _ => (congrFun (hfe s (by omega)) _).trans ((congrFun (upA_ne _ _ (by omega)) _).trans ((up2_ne _ _ (by omega)).trans ((congrFun (upA_ne _ _ (by omega)) _).trans ((up2_ne _ _ (by omega)).trans ((congrFun (upA_ne _ _ (by omega)) _).trans ((up2_ne _ _ (by omega)).trans ((congrFun (upA_ne _ _ (by omega)) _).trans ((up2_ne _ _ (by omega)).trans (hAd_11 ())))))))))
  have hAe_12 : Unit → Ae s 12 = 0 := fun _ => (congrFun (hfe s (by omega)) _).trans ((congrFun (upA_ne _ _ (by omega)) _).trans ((up2_ne _ _ (by omega)).trans ((congrFun (upA_ne _ _ (by omega)) _).trans ((up2_ne _ _ (by omega)).trans ((congrFun (upA_ne _ _ (by omega)) _).trans ((up2_ne _ _ (by omega)).trans ((congrFun (upA_ne _ _ (by omega)) _).trans ((up2_ne _ _ (by omega)).trans (hAd_12 ())))))))))
  have hfO5 : fO Ae (s + 1) := hfO4.ab (fun a ha1 ha2 => by rw [hfe a (by omega)]; simp only [up2_A, upA_ne _ _ (show a ≠ s by omega), upA_ne _ _ (show a ≠ s + 28 by omega), upA_ne _ _ (show a ≠ s + 29 by omega), upA_ne _ _ (show a ≠ s + 30 by omega), upA_ne _ _ (show a ≠ s + 31 by omega)])
  have hr28 : ∀ j : Int, Ae (s + 28) j = -1 := fun j => by rw [hfe (s + 28) (by omega)]; simp only [up2_A, upA_at, upA_ne _ _ (show s + 28 ≠ s by omega), upA_ne _ _ (show s + 28 ≠ s + 29 by omega), upA_ne _ _ (show s + 28 ≠ s + 30 by omega), upA_ne _ _ (show s + 28 ≠ s + 31 by omega)]
  have hr29 : ∀ j : Int, Ae (s + 29) j = -1 := fun j => by rw [hfe (s + 29) (by omega)]; simp only [up2_A, upA_at, upA_ne _ _ (show s + 29 ≠ s by omega), upA_ne _ _ (show s + 29 ≠ s + 30 by omega), upA_ne _ _ (show s + 29 ≠ s + 31 by omega)]
  have hr30 : ∀ j : Int, Ae (s + 30) j = -1 := fun j => by rw [hfe (s + 30) (by omega)]; simp only [up2_A, upA_at, upA_ne _ _ (show s + 30 ≠ s by omega), upA_ne _ _ (show s + 30 ≠ s + 31 by omega)]
  refine ZE.put d_Sea_init_96 f_Sea_52 (tg := 2) rfl trivial (Or.inr ⟨⟨_, _, _, rfl, rfl, rfl⟩, rfl⟩) hk15 ?_
  show ZE (d + 4) M_Sea_init (gw Gb15 (up2 Ae s 6 (s + 31))) 99 [(2, s), (0, (ap : Int))] [] _
  refine ZE.aload_n d_Sea_init_99 rfl ?_
  refine ZE.iconst (n := (-1)) d_Sea_init_100 ?_
  refine ZE.put d_Sea_init_101 f_Sea_56 (tg := 0) rfl trivial (Or.inl ⟨_, _, _, rfl, rfl, rfl⟩) hk15 ?_
  show ZE (d + 4) M_Sea_init (gw Gb15 (up2 (up2 Ae s 6 (s + 31)) s 9 (-1))) 104 [(2, s), (0, (ap : Int))] [] _
  refine ZE.aload_n d_Sea_init_104 rfl ?_
  refine ZE.iload_n d_Sea_init_105 rfl ?_
  refine ZE.put d_Sea_init_106 f_Sea_60 (tg := 0) rfl trivial (Or.inr ⟨⟨_, _, _, rfl, rfl, rfl⟩, rfl⟩) hk15 ?_
  show ZE (d + 4) M_Sea_init (gw Gb15 (up2 (up2 (up2 Ae s 6 (s + 31)) s 9 (-1)) s 8 (ap : Int))) 109 [(2, s), (0, (ap : Int))] [] _
  refine ZE.aload_n d_Sea_init_109 rfl ?_
  refine ZE.new d_Sea_init_110 n_Sea_63 ?_
  rw [gnew_gw, show (gz (gw Gb15 (up2 (up2 (up2 Ae s 6 (s + 31)) s 9 (-1)) s 8 (ap : Int))) : Int) = s + 33 from hz15]
  obtain ⟨Gn16, hE16⟩ : ∃ H1, H1 = gnew Gb15 14 8 (zInit 4) := ⟨_, rfl⟩
  rw [show gnew Gb15 (10 + 4) 8 (zInit 4) = Gn16 from hE16.symm, show (gz Gb15 : Int) = s + 33 from hz15]
  have hgr16 : gR Gb15 Gn16 1 8 := by rw [hE16]; exact gR.new
  have hkn16 : Unit → (gk Gn16 (s + 33) = 14 ∧ gn Gn16 (s + 33) = (8 : Int)) := fun _ => by rw [hE16, show s + 33 = (gz Gb15 : Int) from hz15.symm]; exact ⟨gnew_gk, gnew_gn⟩
  have hz16 : (gz Gn16 : Int) = s + 34 := by have := hgr16.1; omega
  have hk16 : gk Gn16 s = 16 := (hgr16.2.2.1 s (by omega)).1.trans hk15
  have hzh15 : Unit → (gz Gb15 : Int) = s + 33 := fun _ => hz15
  clear hz15 hk15
  skip
  refine ZE.dup d_Sea_init_113 (Or.inr rfl) ?_
  refine ZE.iload_n d_Sea_init_114 rfl ?_
  refine ZE.cI [(0, (ap : Int))] [(2, s + 33), (2, s)] [(2, s + 33), (0, (ap : Int))] d_Sea_init_115 l_Sea_65 rfl rfl rfl rfl rfl rfl (by omega) ?_
  refine w_init (p := s + 33) (ap := ap) (hz16.trans (by omega)) (by omega) (hkn16 ()).1 (fun Gb17 Af hwK hwO hff hgr17 => ?_)
  show ZE (d + 4) M_Sea_init (gw Gb17 Af) 118 [(2, s), (0, (ap : Int))] [(2, s + 33), (2, s)] _
  have hz17 : (gz Gb17 : Int) = s + 46 := by have := hgr17.1; omega
  have hk17 : gk Gb17 s = 16 := (hgr17.2.2.1 s (by omega)).1.trans hk16
  have hzh16 : Unit → (gz Gn16 : Int) = s + 34 := fun _ => hz16
  clear hz16 hk16
  have hlAf : ∀ a : Int, a < s → Af a = A a := fun a ha => by
    rw [hff a (by omega)]
    simp only [up2_A, upA_ne _ _ (show a ≠ s by omega), upA_ne _ _ (show a ≠ s + 33 by omega)]
    exact hlAe a ha
  have hAf_0 : Unit → Af s 0 = s + 1 := fun _ => (congrFun (hff s (by omega)) _).trans ((congrFun (upA_ne _ _ (by omega)) _).trans ((up2_ne _ _ (by omega)).trans ((up2_ne _ _ (by omega)).trans ((up2_ne _ _ (by omega)).trans (hAe_0 ())))))
  have hAf_1 : Unit → Af s 1 = s + 10 := fun _ => (congrFun (hff s (by omega)) _).trans ((congrFun (upA_ne _ _ (by omega)) _).trans ((up2_ne _ _ (by omega)).trans ((up2_ne _ _ (by omega)).trans ((up2_ne _ _ (by omega)).trans (hAe_1 ())))))
  have hAf_2 : Unit → Af s 2 = s + 19 := fun _ => (congrFun (hff s (by omega)) _).trans ((congrFun (upA_ne _ _ (by omega)) _).trans ((up2_ne _ _ (by omega)).trans ((up2_ne _ _ (by omega)).trans ((up2_ne _ _ (by omega)).trans (hAe_2 ())))))
  have hAf_3 : Unit → Af s 3 = s + 28 := fun _ => (congrFun (hff s (by omega)) _).trans ((congrFun (upA_ne _ _ (by omega)) _).trans ((up2_ne _ _ (by omega)).trans ((up2_ne _ _ (by omega)).trans ((up2_ne _ _ (by omega)).trans (hAe_3 ())))))
  have hAf_4 : Unit → Af s 4 = s + 29 := fun _ => (congrFun (hff s (by omega)) _).trans ((congrFun (upA_ne _ _ (by omega)) _).trans ((up2_ne _ _ (by omega)).trans ((up2_ne _ _ (by omega)).trans ((up2_ne _ _ (by omega)).trans (hAe_4 ())))))
  have hAf_5 : Unit → Af s 5 = s + 30 := fun _ => (congrFun (hff s (by omega)) _).trans ((congrFun (upA_ne _ _ (by omega)) _).trans ((up2_ne _ _ (by omega)).trans ((up2_ne _ _ (by omega)).trans ((up2_ne _ _ (by omega)).trans (hAe_5 ())))))
  have hAf_6 : Unit → Af s 6 = s + 31 := fun _ => (congrFun (hff s (by omega)) _).trans ((congrFun (upA_ne _ _ (by omega)) _).trans ((up2_ne _ _ (by omega)).trans ((up2_ne _ _ (by omega)).trans (up2_at _ _ _ _))))
  have hAf_8 : Unit → Af s 8 = (ap : Int) := fun _ => (congrFun (hff s (by omega)) _).trans ((congrFun (upA_ne _ _ (by omega)) _).trans (up2_at _ _ _ _))
  have hAf_9 : Unit → Af s 9 = -1 := fun _ => (congrFun (hff s (by omega)) _).trans ((congrFun (upA_ne _ _ (by omega)) _).trans ((up2_ne _ _ (by omega)).trans (up2_at _ _ _ _)))
  have hAf_10 : Unit → Af s 10 = 0 := fun _ => (congrFun (hff s (by omega)) _).trans ((congrFun (upA_ne _ _ (by omega)) _).trans ((up2_ne _ _ (by omega)).trans ((up2_ne _ _ (by omega)).trans ((up2_ne _ _ (by omega)).trans (hAe_10 ())))))
  have hAf_11 : Unit → Af s 11 = 0 := fun _ => (congrFun (hff s (by omega)) _).trans ((congrFun (upA_ne _ _ (by omega)) _).trans ((up2_ne _ _ (by omega)).trans ((up2_ne _ _ (by omega)).trans ((up2_ne _ _ (by omega)).trans (hAe_11 ())))))
  have hAf_12 : Unit → Af s 12 = 0 := fun _ => (congrFun (hff s (by omega)) _).trans ((congrFun (upA_ne _ _ (by omega)) _).trans ((up2_ne _ _ (by omega)).trans ((up2_ne _ _ (by omega)).trans ((up2_ne _ _ (by omega)).trans (hAe_12 ())))))
  have hfO6 : fO Af (s + 1) := hfO5.ab (fun a ha1 ha2 => by rw [hff a (by omega)]; simp only [up2_A, upA_ne _ _ (show a ≠ s by omega), upA_ne _ _ (show a ≠ s + 33 by omega)])
  have hq28 : ∀ j : Int, Af (s + 28) j = -1 := fun j => by rw [hff (s + 28) (by omega)]; simp only [up2_A, upA_ne _ _ (show s + 28 ≠ s by omega), upA_ne _ _ (show s + 28 ≠ s + 33 by omega)]; exact hr28 j
  have hq29 : ∀ j : Int, Af (s + 29) j = -1 := fun j => by rw [hff (s + 29) (by omega)]; simp only [up2_A, upA_ne _ _ (show s + 29 ≠ s by omega), upA_ne _ _ (show s + 29 ≠ s + 33 by omega)]; exact hr29 j
  have hq30 : ∀ j : Int, Af (s + 30) j = -1 := fun j => by rw [hff (s + 30) (by omega)]; simp only [up2_A, upA_ne _ _ (show s + 30 ≠ s by omega), upA_ne _ _ (show s + 30 ≠ s + 33 by omega)]; exact hr30 j
  have hq31 : Af (s + 31) 0 = s + 31 + 1 := by rw [hff (s + 31) (by omega)]; simp only [up2_A, upA_ne _ _ (show s + 31 ≠ s by omega), upA_ne _ _ (show s + 31 ≠ s + 33 by omega)]; exact hNe.1
  refine ZE.put d_Sea_init_118 f_Sea_66 (tg := 2) rfl trivial (Or.inr ⟨⟨_, _, _, rfl, rfl, rfl⟩, rfl⟩) hk17 ?_
  show ZE (d + 4) M_Sea_init (gw Gb17 (up2 Af s 7 (s + 33))) 121 [(2, s), (0, (ap : Int))] [] _
  refine ZE.vret d_Sea_init_121 rfl ?_
  have hS17 : gR Gb17 Gb17 0 0 := gR.rf
  have hS16 := hgr17.tr hS17
  have hS15 := hgr16.tr hS16
  have hS14 := hgr15.tr hS15
  have hS13 := hgr14.tr hS14
  have hS12 := hgr13.tr hS13
  have hS11 := hgr12.tr hS12
  have hS10 := hgr11.tr hS11
  have hS9 := hgr10.tr hS10
  have hS8 := hgr9.tr hS9
  have hS7 := hgr8.tr hS8
  have hS6 := hgr7.tr hS7
  have hS5 := hgr6.tr hS6
  have hS4 := hgr5.tr hS5
  have hS3 := hgr4.tr hS4
  have hS2 := hgr3.tr hS3
  have hS1 := hgr2.tr hS2
  have hS0 := hgr1.tr hS1
  have hp : ∀ a : Int, a ≠ s → (up2 Af s 7 (s + 33)) a = Af a := fun a ha => by rw [up2_A, upA_ne _ _ ha]
  refine k Gb17 _ ⟨hk17, h0, hfK.gr hS2 (by have := hzh2 (); omega), (by have := hzh11 (); exact ⟨(hS11.2.2.1 (s + 28) (by omega)).1.trans (hkn11 ()).1, (hS11.2.2.1 (s + 28) (by omega)).2.trans (hkn11 ()).2⟩), (by have := hzh12 (); exact ⟨(hS12.2.2.1 (s + 29) (by omega)).1.trans (hkn12 ()).1, (hS12.2.2.1 (s + 29) (by omega)).2.trans (hkn12 ()).2⟩), (by have := hzh13 (); exact ⟨(hS13.2.2.1 (s + 30) (by omega)).1.trans (hkn13 ()).1, (hS13.2.2.1 (s + 30) (by omega)).2.trans (hkn13 ()).2⟩), hBe.gr hS15 (by have := hzh15 (); omega), hwK⟩ ⟨((up2_ne _ _ (by omega)).trans (hAf_0 ())), ((up2_ne _ _ (by omega)).trans (hAf_1 ())), ((up2_ne _ _ (by omega)).trans (hAf_2 ())), ((up2_ne _ _ (by omega)).trans (hAf_3 ())), ((up2_ne _ _ (by omega)).trans (hAf_4 ())), ((up2_ne _ _ (by omega)).trans (hAf_5 ())), ((up2_ne _ _ (by omega)).trans (hAf_6 ())), (up2_at _ _ _ _), ((up2_ne _ _ (by omega)).trans (hAf_8 ())), hfO6.ab (fun a ha1 ha2 => hp a (by omega)), hwO.ab (fun a ha1 ha2 => hp a (by omega)), ?_⟩ ⟨((up2_ne _ _ (by omega)).trans (hAf_9 ())), ((up2_ne _ _ (by omega)).trans (hAf_10 ())), ((up2_ne _ _ (by omega)).trans (hAf_11 ())), ((up2_ne _ _ (by omega)).trans (hAf_12 ()))⟩ (fun j => ?_) (fun j => ?_) (fun j => ?_) (fun a ha => ?_) ?_
  · rw [hp (s + 31) (by omega)]; exact hq31
  · rw [hp (s + 28) (by omega)]; exact hq28 j
  · rw [hp (s + 29) (by omega)]; exact hq29 j
  · rw [hp (s + 30) (by omega)]; exact hq30 j
  · rw [hp a (by omega)]; exact hlAf a ha
  · exact hS0
