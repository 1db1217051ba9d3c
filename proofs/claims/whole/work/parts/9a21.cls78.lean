set_option maxRecDepth 20000 in
set_option maxHeartbeats 1000000 in
theorem c_new {d : Nat} {G : zG} {A : Int → Int → Int} {P : Option zV → zG → Prop} {x : Int} (hz : (gz G : Int) = x + 1) (h0 : 0 ≤ x) (hk : gk G x = 20) (hL : lG G A) (hgl : gl G < x) (k : ∀ G2 A2 (tf wf : Nat → Int) (n m : Nat), CI G2 A2 x 3 1 0 tf 0 wf → (∀ a : Int, a < x → A2 a = A a) → gR G G2 n m → n + 54 * (unk A2 (x + 1) + unk A2 (x + 47)) ≤ 13968 → m + 556 * (unk A2 (x + 1) + unk A2 (x + 47)) ≤ 183409 → P none (gw G2 A2)) : ZE (d + 7) M_SN_init (gw G A) 0 [(2, x)] [] P := by
  refine ZE.aload_n d_SN_init_0 rfl ?_
  refine ZE.objInit d_SN_init_1 o_SN_1 (by omega) (Nat.le_of_ble_eq_true rfl) ?_
  refine ZE.aload_n d_SN_init_4 rfl ?_
  refine ZE.new d_SN_init_5 n_SN_7 ?_
  rw [gnew_gw, show (gz (gw G A) : Int) = x + 1 from hz]
  obtain ⟨Gn1, hE1⟩ : ∃ H1, H1 = gnew G 16 13 (zInit 6) := ⟨_, rfl⟩
  rw [show gnew G (10 + 6) 13 (zInit 6) = Gn1 from hE1.symm, show (gz G : Int) = x + 1 from hz]
  have hgr1 : gR G Gn1 1 13 := by rw [hE1]; exact gR.new
  have hkn1 : Unit → (gk Gn1 (x + 1) = 16 ∧ gn Gn1 (x + 1) = (13 : Int)) := fun _ => by rw [hE1, show x + 1 = (gz G : Int) from hz.symm]; exact ⟨gnew_gk, gnew_gn⟩
  have hz1 : (gz Gn1 : Int) = x + 2 := by have := hgr1.1; omega
  have hk1 : gk Gn1 x = 20 := (hgr1.2.2.1 x (by omega)).1.trans hk
  have hzh0 : Unit → (gz G : Int) = x + 1 := fun _ => hz
  clear hz hk
  skip
  refine ZE.dup d_SN_init_8 (Or.inr rfl) ?_
  refine ZE.iconst (n := 1) d_SN_init_9 ?_
  refine ZE.cI [(0, 1)] [(2, x + 1), (2, x)] [(2, x + 1), (0, 1)] d_SN_init_10 l_SN_9 rfl rfl rfl rfl rfl rfl (by omega) ?_
  refine s_init (s := x + 1) (ap := 1) (hz1.trans (by omega)) (by omega) (hkn1 ()).1 ((congrFun (upA_at _ _ _) 10).trans rfl) ((congrFun (upA_at _ _ _) 11).trans rfl) ((congrFun (upA_at _ _ _) 12).trans rfl) (fun Gb2 A1 hK1 hF1 hn1 ha1 hb1 hc1 hfr1 hgr2 => ?_)
  show ZE (d + 7) M_SN_init (gw Gb2 A1) 13 [(2, x)] [(2, x + 1), (2, x)] _
  have hz2 : (gz Gb2 : Int) = x + 47 := by have := hgr2.1; omega
  have hk2 : gk Gb2 x = 20 := (hgr2.2.2.1 x (by omega)).1.trans hk1
  have hzh1 : Unit → (gz Gn1 : Int) = x + 2 := fun _ => hz1
  clear hz1 hk1
  have hl1 : ∀ a : Int, a < x → A1 a = A a := fun a ha => by rw [hfr1 a (by omega), upA_ne _ _ (by omega)]
  refine ZE.put d_SN_init_13 f_SN_12 (tg := 2) rfl trivial (Or.inr ⟨⟨_, _, _, rfl, rfl, rfl⟩, rfl⟩) hk2 ?_
  show ZE (d + 7) M_SN_init (gw Gb2 (up2 A1 x 0 (x + 1))) 16 [(2, x)] [] _
  refine ZE.aload_n d_SN_init_16 rfl ?_
  refine ZE.new d_SN_init_17 n_SN_7 ?_
  rw [gnew_gw, show (gz (gw Gb2 (up2 A1 x 0 (x + 1))) : Int) = x + 47 from hz2]
  obtain ⟨Gn3, hE3⟩ : ∃ H1, H1 = gnew Gb2 16 13 (zInit 6) := ⟨_, rfl⟩
  rw [show gnew Gb2 (10 + 6) 13 (zInit 6) = Gn3 from hE3.symm, show (gz Gb2 : Int) = x + 47 from hz2]
  have hgr3 : gR Gb2 Gn3 1 13 := by rw [hE3]; exact gR.new
  have hkn3 : Unit → (gk Gn3 (x + 47) = 16 ∧ gn Gn3 (x + 47) = (13 : Int)) := fun _ => by rw [hE3, show x + 47 = (gz Gb2 : Int) from hz2.symm]; exact ⟨gnew_gk, gnew_gn⟩
  have hz3 : (gz Gn3 : Int) = x + 48 := by have := hgr3.1; omega
  have hk3 : gk Gn3 x = 20 := (hgr3.2.2.1 x (by omega)).1.trans hk2
  have hzh2 : Unit → (gz Gb2 : Int) = x + 47 := fun _ => hz2
  clear hz2 hk2
  skip
  refine ZE.dup d_SN_init_20 (Or.inr rfl) ?_
  refine ZE.iconst (n := 2) d_SN_init_21 ?_
  refine ZE.cI [(0, 2)] [(2, x + 47), (2, x)] [(2, x + 47), (0, 2)] d_SN_init_22 l_SN_9 rfl rfl rfl rfl rfl rfl (by omega) ?_
  refine s_init (s := x + 47) (ap := 2) (hz3.trans (by omega)) (by omega) (hkn3 ()).1 ((congrFun (upA_at _ _ _) 10).trans rfl) ((congrFun (upA_at _ _ _) 11).trans rfl) ((congrFun (upA_at _ _ _) 12).trans rfl) (fun Gb4 A2 hK2 hF2 hn2 ha2 hb2 hc2 hfr2 hgr4 => ?_)
  show ZE (d + 7) M_SN_init (gw Gb4 A2) 25 [(2, x)] [(2, x + 47), (2, x)] _
  have hz4 : (gz Gb4 : Int) = x + 93 := by have := hgr4.1; omega
  have hk4 : gk Gb4 x = 20 := (hgr4.2.2.1 x (by omega)).1.trans hk3
  have hzh3 : Unit → (gz Gn3 : Int) = x + 48 := fun _ => hz3
  clear hz3 hk3
  have hf2 : ∀ a : Int, x < a → a < x + 47 → A2 a = A1 a := fun a h1 h2 => by rw [hfr2 a (by omega), upA_ne _ _ (by omega), up2_A, upA_ne _ _ (by omega)]
  have hl2 : ∀ a : Int, a < x → A2 a = A a := fun a ha => by rw [hfr2 a (by omega), upA_ne _ _ (by omega), up2_A, upA_ne _ _ (by omega)]; exact hl1 a ha
  have hx2_0 : Unit → A2 x 0 = x + 1 := fun _ => (congrFun (hfr2 x (by omega)) _).trans ((congrFun (upA_ne _ _ (by omega)) _).trans (up2_at _ _ _ _))
  refine ZE.put d_SN_init_25 f_SN_18 (tg := 2) rfl trivial (Or.inr ⟨⟨_, _, _, rfl, rfl, rfl⟩, rfl⟩) hk4 ?_
  show ZE (d + 7) M_SN_init (gw Gb4 (up2 A2 x 1 (x + 47))) 28 [(2, x)] [] _
  refine ZE.aload_n d_SN_init_28 rfl ?_
  refine ZE.new d_SN_init_29 n_SN_21 ?_
  rw [gnew_gw, show (gz (gw Gb4 (up2 A2 x 1 (x + 47))) : Int) = x + 93 from hz4]
  obtain ⟨Gn5, hE5⟩ : ∃ H1, H1 = gnew Gb4 17 8 (zInit 7) := ⟨_, rfl⟩
  rw [show gnew Gb4 (10 + 7) 8 (zInit 7) = Gn5 from hE5.symm, show (gz Gb4 : Int) = x + 93 from hz4]
  have hgr5 : gR Gb4 Gn5 1 8 := by rw [hE5]; exact gR.new
  have hkn5 : Unit → (gk Gn5 (x + 93) = 17 ∧ gn Gn5 (x + 93) = (8 : Int)) := fun _ => by rw [hE5, show x + 93 = (gz Gb4 : Int) from hz4.symm]; exact ⟨gnew_gk, gnew_gn⟩
  have hz5 : (gz Gn5 : Int) = x + 94 := by have := hgr5.1; omega
  have hk5 : gk Gn5 x = 20 := (hgr5.2.2.1 x (by omega)).1.trans hk4
  have hzh4 : Unit → (gz Gb4 : Int) = x + 93 := fun _ => hz4
  clear hz4 hk4
  skip
  refine ZE.dup d_SN_init_32 (Or.inr rfl) ?_
  refine ZE.cN [] [(2, x + 93), (2, x)] [(2, x + 93)] d_SN_init_33 l_SN_23 (List.Mem.tail _ (List.Mem.head _)) rfl rfl rfl rfl rfl rfl (by omega) ?_
  refine m_init (h := x + 93) (hz5.trans (by omega)) (by omega) (hkn5 ()).1 (fun Gb6 A3 hK3 hF3 hn3 hfr3 hgr6 => ?_)
  show ZE (d + 7) M_SN_init (gw Gb6 A3) 36 [(2, x)] [(2, x + 93), (2, x)] _
  have hz6 : (gz Gb6 : Int) = x + 99 := by have := hgr6.1; omega
  have hk6 : gk Gb6 x = 20 := (hgr6.2.2.1 x (by omega)).1.trans hk5
  have hzh5 : Unit → (gz Gn5 : Int) = x + 94 := fun _ => hz5
  clear hz5 hk5
  have hf3 : ∀ a : Int, x < a → a < x + 93 → A3 a = A2 a := fun a h1 h2 => by rw [hfr3 a (by omega), upA_ne _ _ (by omega), up2_A, upA_ne _ _ (by omega)]
  have hl3 : ∀ a : Int, a < x → A3 a = A a := fun a ha => by rw [hfr3 a (by omega), upA_ne _ _ (by omega), up2_A, upA_ne _ _ (by omega)]; exact hl2 a ha
  have hx3_0 : Unit → A3 x 0 = x + 1 := fun _ => (congrFun (hfr3 x (by omega)) _).trans ((congrFun (upA_ne _ _ (by omega)) _).trans ((up2_ne _ _ (by omega)).trans (hx2_0 ())))
  have hx3_1 : Unit → A3 x 1 = x + 47 := fun _ => (congrFun (hfr3 x (by omega)) _).trans ((congrFun (upA_ne _ _ (by omega)) _).trans (up2_at _ _ _ _))
  refine ZE.put d_SN_init_36 f_SN_24 (tg := 2) rfl trivial (Or.inr ⟨⟨_, _, _, rfl, rfl, rfl⟩, rfl⟩) hk6 ?_
  show ZE (d + 7) M_SN_init (gw Gb6 (up2 A3 x 2 (x + 93))) 39 [(2, x)] [] _
  refine ZE.aload_n d_SN_init_39 rfl ?_
  refine ZE.new d_SN_init_40 n_SN_28 ?_
  rw [gnew_gw, show (gz (gw Gb6 (up2 A3 x 2 (x + 93))) : Int) = x + 99 from hz6]
  obtain ⟨Gn7, hE7⟩ : ∃ H1, H1 = gnew Gb6 13 7 (zInit 3) := ⟨_, rfl⟩
  rw [show gnew Gb6 (10 + 3) 7 (zInit 3) = Gn7 from hE7.symm, show (gz Gb6 : Int) = x + 99 from hz6]
  have hgr7 : gR Gb6 Gn7 1 7 := by rw [hE7]; exact gR.new
  have hkn7 : Unit → (gk Gn7 (x + 99) = 13 ∧ gn Gn7 (x + 99) = (7 : Int)) := fun _ => by rw [hE7, show x + 99 = (gz Gb6 : Int) from hz6.symm]; exact ⟨gnew_gk, gnew_gn⟩
  have hz7 : (gz Gn7 : Int) = x + 100 := by have := hgr7.1; omega
  have hk7 : gk Gn7 x = 20 := (hgr7.2.2.1 x (by omega)).1.trans hk6
  have hzh6 : Unit → (gz Gb6 : Int) = x + 99 := fun _ => hz6
  clear hz6 hk6
  skip
  refine ZE.dup d_SN_init_43 (Or.inr rfl) ?_
  refine ZE.cI [] [(2, x + 99), (2, x)] [(2, x + 99), (9, 0)] d_SN_init_44 l_SN_30 rfl rfl rfl rfl rfl rfl (by omega) ?_
  refine e_init (g := x + 99) (hz7.trans (by omega)) (by omega) (hkn7 ()).1 (fun Gb8 A4 hK4 hF4 hn4 hfr4 hgr8 => ?_)
  show ZE (d + 7) M_SN_init (gw Gb8 A4) 47 [(2, x)] [(2, x + 99), (2, x)] _
  have hz8 : (gz Gb8 : Int) = x + 120 := by have := hgr8.1; omega
  have hk8 : gk Gb8 x = 20 := (hgr8.2.2.1 x (by omega)).1.trans hk7
  have hzh7 : Unit → (gz Gn7 : Int) = x + 100 := fun _ => hz7
  clear hz7 hk7
  have hf4 : ∀ a : Int, x < a → a < x + 99 → A4 a = A3 a := fun a h1 h2 => by rw [hfr4 a (by omega), upA_ne _ _ (by omega), up2_A, upA_ne _ _ (by omega)]
  have hl4 : ∀ a : Int, a < x → A4 a = A a := fun a ha => by rw [hfr4 a (by omega), upA_ne _ _ (by omega), up2_A, upA_ne _ _ (by omega)]; exact hl3 a ha
  have hx4_0 : Unit → A4 x 0 = x + 1 := fun _ => (congrFun (hfr4 x (by omega)) _).trans ((congrFun (upA_ne _ _ (by omega)) _).trans ((up2_ne _ _ (by omega)).trans (hx3_0 ())))
  have hx4_1 : Unit → A4 x 1 = x + 47 := fun _ => (congrFun (hfr4 x (by omega)) _).trans ((congrFun (upA_ne _ _ (by omega)) _).trans ((up2_ne _ _ (by omega)).trans (hx3_1 ())))
  have hx4_2 : Unit → A4 x 2 = x + 93 := fun _ => (congrFun (hfr4 x (by omega)) _).trans ((congrFun (upA_ne _ _ (by omega)) _).trans (up2_at _ _ _ _))
  refine ZE.put d_SN_init_47 f_SN_31 (tg := 2) rfl trivial (Or.inr ⟨⟨_, _, _, rfl, rfl, rfl⟩, rfl⟩) hk8 ?_
  show ZE (d + 7) M_SN_init (gw Gb8 (up2 A4 x 3 (x + 99))) 50 [(2, x)] [] _
  refine ZE.aload_n d_SN_init_50 rfl ?_
  refine ZE.new d_SN_init_51 n_SN_35 ?_
  rw [gnew_gw, show (gz (gw Gb8 (up2 A4 x 3 (x + 99))) : Int) = x + 120 from hz8]
  obtain ⟨Gn9, hE9⟩ : ∃ H1, H1 = gnew Gb8 15 5 (zInit 5) := ⟨_, rfl⟩
  rw [show gnew Gb8 (10 + 5) 5 (zInit 5) = Gn9 from hE9.symm, show (gz Gb8 : Int) = x + 120 from hz8]
  have hgr9 : gR Gb8 Gn9 1 5 := by rw [hE9]; exact gR.new
  have hkn9 : Unit → (gk Gn9 (x + 120) = 15 ∧ gn Gn9 (x + 120) = (5 : Int)) := fun _ => by rw [hE9, show x + 120 = (gz Gb8 : Int) from hz8.symm]; exact ⟨gnew_gk, gnew_gn⟩
  have hz9 : (gz Gn9 : Int) = x + 121 := by have := hgr9.1; omega
  have hk9 : gk Gn9 x = 20 := (hgr9.2.2.1 x (by omega)).1.trans hk8
  have hzh8 : Unit → (gz Gb8 : Int) = x + 120 := fun _ => hz8
  clear hz8 hk8
  skip
  refine ZE.dup d_SN_init_54 (Or.inr rfl) ?_
  refine ZE.cN [] [(2, x + 120), (2, x)] [(2, x + 120)] d_SN_init_55 l_SN_37 (List.Mem.tail _ (List.Mem.tail _ (List.Mem.head _))) rfl rfl rfl rfl rfl rfl (by omega) ?_
  refine y_init (y := x + 120) (hz9.trans (by omega)) (by omega) (hkn9 ()).1 (fun Gb10 A5 hK5 hF5 hfr5 hgr10 => ?_)
  show ZE (d + 7) M_SN_init (gw Gb10 A5) 58 [(2, x)] [(2, x + 120), (2, x)] _
  have hz10 : (gz Gb10 : Int) = x + 126 := by have := hgr10.1; omega
  have hk10 : gk Gb10 x = 20 := (hgr10.2.2.1 x (by omega)).1.trans hk9
  have hzh9 : Unit → (gz Gn9 : Int) = x + 121 := fun _ => hz9
  clear hz9 hk9
  have hf5 : ∀ a : Int, x < a → a < x + 120 → A5 a = A4 a := fun a h1 h2 => by rw [hfr5 a (by omega), upA_ne _ _ (by omega), up2_A, upA_ne _ _ (by omega)]
  have hl5 : ∀ a : Int, a < x → A5 a = A a := fun a ha => by rw [hfr5 a (by omega), upA_ne _ _ (by omega), up2_A, upA_ne _ _ (by omega)]; exact hl4 a ha
  have hx5_0 : Unit → A5 x 0 = x + 1 := fun _ => (congrFun (hfr5 x (by omega)) _).trans ((congrFun (upA_ne _ _ (by omega)) _).trans ((up2_ne _ _ (by omega)).trans (hx4_0 ())))
  have hx5_1 : Unit → A5 x 1 = x + 47 := fun _ => (congrFun (hfr5 x (by omega)) _).trans ((congrFun (upA_ne _ _ (by omega)) _).trans ((up2_ne _ _ (by omega)).trans (hx4_1 ())))
  have hx5_2 : Unit → A5 x 2 = x + 93 := fun _ => (congrFun (hfr5 x (by omega)) _).trans ((congrFun (upA_ne _ _ (by omega)) _).trans ((up2_ne _ _ (by omega)).trans (hx4_2 ())))
  have hx5_3 : Unit → A5 x 3 = x + 99 := fun _ => (congrFun (hfr5 x (by omega)) _).trans ((congrFun (upA_ne _ _ (by omega)) _).trans (up2_at _ _ _ _))
  refine ZE.put d_SN_init_58 f_SN_38 (tg := 2) rfl trivial (Or.inr ⟨⟨_, _, _, rfl, rfl, rfl⟩, rfl⟩) hk10 ?_
  show ZE (d + 7) M_SN_init (gw Gb10 (up2 A5 x 4 (x + 120))) 61 [(2, x)] [] _
  refine ZE.aload_n d_SN_init_61 rfl ?_
  refine ZE.new d_SN_init_62 n_SN_42 ?_
  rw [gnew_gw, show (gz (gw Gb10 (up2 A5 x 4 (x + 120))) : Int) = x + 126 from hz10]
  obtain ⟨Gn11, hE11⟩ : ∃ H1, H1 = gnew Gb10 12 9 (zInit 2) := ⟨_, rfl⟩
  rw [show gnew Gb10 (10 + 2) 9 (zInit 2) = Gn11 from hE11.symm, show (gz Gb10 : Int) = x + 126 from hz10]
  have hgr11 : gR Gb10 Gn11 1 9 := by rw [hE11]; exact gR.new
  have hkn11 : Unit → (gk Gn11 (x + 126) = 12 ∧ gn Gn11 (x + 126) = (9 : Int)) := fun _ => by rw [hE11, show x + 126 = (gz Gb10 : Int) from hz10.symm]; exact ⟨gnew_gk, gnew_gn⟩
  have hz11 : (gz Gn11 : Int) = x + 127 := by have := hgr11.1; omega
  have hk11 : gk Gn11 x = 20 := (hgr11.2.2.1 x (by omega)).1.trans hk10
  have hzh10 : Unit → (gz Gb10 : Int) = x + 126 := fun _ => hz10
  clear hz10 hk10
  skip
  refine ZE.dup d_SN_init_65 (Or.inr rfl) ?_
  refine ZE.cN [] [(2, x + 126), (2, x)] [(2, x + 126)] d_SN_init_66 l_SN_44 (List.Mem.tail _ (List.Mem.tail _ (List.Mem.tail _ (List.Mem.head _)))) rfl rfl rfl rfl rfl rfl (by omega) ?_
  refine f_init (f := x + 126) (hz11.trans (by omega)) (by omega) (hkn11 ()).1 (fun Gb12 A6 hK6 hF6 hfr6 hgr12 => ?_)
  show ZE (d + 7) M_SN_init (gw Gb12 A6) 69 [(2, x)] [(2, x + 126), (2, x)] _
  have hz12 : (gz Gb12 : Int) = x + 135 := by have := hgr12.1; omega
  have hk12 : gk Gb12 x = 20 := (hgr12.2.2.1 x (by omega)).1.trans hk11
  have hzh11 : Unit → (gz Gn11 : Int) = x + 127 := fun _ => hz11
  clear hz11 hk11
  have hf6 : ∀ a : Int, x < a → a < x + 126 → A6 a = A5 a := fun a h1 h2 => by rw [hfr6 a (by omega), upA_ne _ _ (by omega), up2_A, upA_ne _ _ (by omega)]
  have hl6 : ∀ a : Int, a < x → A6 a = A a := fun a ha => by rw [hfr6 a (by omega), upA_ne _ _ (by omega), up2_A, upA_ne _ _ (by omega)]; exact hl5 a ha
  have hx6_0 : Unit → A6 x 0 = x + 1 := fun _ => (congrFun (hfr6 x (by omega)) _).trans ((congrFun (upA_ne _ _ (by omega)) _).trans ((up2_ne _ _ (by omega)).trans (hx5_0 ())))
  have hx6_1 : Unit → A6 x 1 = x + 47 := fun _ => (congrFun (hfr6 x (by omega)) _).trans ((congrFun (upA_ne _ _ (by omega)) _).trans ((up2_ne _ _ (by omega)).trans (hx5_1 ())))
  have hx6_2 : Unit → A6 x 2 = x + 93 := fun _ => (congrFun (hfr6 x (by omega)) _).trans ((congrFun (upA_ne _ _ (by omega)) _).trans ((up2_ne _ _ (by omega)).trans (hx5_2 ())))
  have hx6_3 : Unit → A6 x 3 = x + 99 := fun _ => (congrFun (hfr6 x (by omega)) _).trans ((congrFun (upA_ne _ _ (by omega)) _).trans ((up2_ne _ _ (by omega)).trans (hx5_3 ())))
  have hx6_4 : Unit → A6 x 4 = x + 120 := fun _ => (congrFun (hfr6 x (by omega)) _).trans ((congrFun (upA_ne _ _ (by omega)) _).trans (up2_at _ _ _ _))
  refine ZE.put d_SN_init_69 f_SN_45 (tg := 2) rfl trivial (Or.inr ⟨⟨_, _, _, rfl, rfl, rfl⟩, rfl⟩) hk12 ?_
  show ZE (d + 7) M_SN_init (gw Gb12 (up2 A6 x 5 (x + 126))) 72 [(2, x)] [] _
  refine ZE.aload_n d_SN_init_72 rfl ?_
  refine ZE.new d_SN_init_73 n_SN_49 ?_
  rw [gnew_gw, show (gz (gw Gb12 (up2 A6 x 5 (x + 126))) : Int) = x + 135 from hz12]
  obtain ⟨Gn13, hE13⟩ : ∃ H1, H1 = gnew Gb12 18 2 (zInit 8) := ⟨_, rfl⟩
  rw [show gnew Gb12 (10 + 8) 2 (zInit 8) = Gn13 from hE13.symm, show (gz Gb12 : Int) = x + 135 from hz12]
  have hgr13 : gR Gb12 Gn13 1 2 := by rw [hE13]; exact gR.new
  have hkn13 : Unit → (gk Gn13 (x + 135) = 18 ∧ gn Gn13 (x + 135) = (2 : Int)) := fun _ => by rw [hE13, show x + 135 = (gz Gb12 : Int) from hz12.symm]; exact ⟨gnew_gk, gnew_gn⟩
  have hz13 : (gz Gn13 : Int) = x + 136 := by have := hgr13.1; omega
  have hk13 : gk Gn13 x = 20 := (hgr13.2.2.1 x (by omega)).1.trans hk12
  have hzh12 : Unit → (gz Gb12 : Int) = x + 135 := fun _ => hz12
  clear hz12 hk12
  skip
  refine ZE.dup d_SN_init_76 (Or.inr rfl) ?_
  refine ZE.sipush (n := 2000) d_SN_init_77 rfl ?_
  refine ZE.cI [(0, 2000)] [(2, x + 135), (2, x)] [(2, x + 135), (0, 2000)] d_SN_init_80 l_SN_51 rfl rfl rfl rfl rfl rfl (by omega) ?_
  refine t_init (b := x + 135) (cap := 2000) (hz13.trans (by omega)) (by omega) (hkn13 ()).1 (by omega) ((congrFun (upA_at _ _ _) 1).trans rfl) (fun _ => 0) (fun Gb14 A7 hK7 hF7 hgr14 hfr7 => ?_)
  show ZE (d + 7) M_SN_init (gw Gb14 A7) 83 [(2, x)] [(2, x + 135), (2, x)] _
  have hz14 : (gz Gb14 : Int) = x + 137 := by have := hgr14.1; omega
  have hk14 : gk Gb14 x = 20 := (hgr14.2.2.1 x (by omega)).1.trans hk13
  have hzh13 : Unit → (gz Gn13 : Int) = x + 136 := fun _ => hz13
  clear hz13 hk13
  have hf7 : ∀ a : Int, x < a → a < x + 135 → A7 a = A6 a := fun a h1 h2 => by rw [hfr7 a (by omega), upA_ne _ _ (by omega), up2_A, upA_ne _ _ (by omega)]
  have hl7 : ∀ a : Int, a < x → A7 a = A a := fun a ha => by rw [hfr7 a (by omega), upA_ne _ _ (by omega), up2_A, upA_ne _ _ (by omega)]; exact hl6 a ha
  have hx7_0 : Unit → A7 x 0 = x + 1 := fun _ => (congrFun (hfr7 x (by omega)) _).trans ((congrFun (upA_ne _ _ (by omega)) _).trans ((up2_ne _ _ (by omega)).trans (hx6_0 ())))
  have hx7_1 : Unit → A7 x 1 = x + 47 := fun _ => (congrFun (hfr7 x (by omega)) _).trans ((congrFun (upA_ne _ _ (by omega)) _).trans ((up2_ne _ _ (by omega)).trans (hx6_1 ())))
  have hx7_2 : Unit → A7 x 2 = x + 93 := fun _ => (congrFun (hfr7 x (by omega)) _).trans ((congrFun (upA_ne _ _ (by omega)) _).trans ((up2_ne _ _ (by omega)).trans (hx6_2 ())))
  have hx7_3 : Unit → A7 x 3 = x + 99 := fun _ => (congrFun (hfr7 x (by omega)) _).trans ((congrFun (upA_ne _ _ (by omega)) _).trans ((up2_ne _ _ (by omega)).trans (hx6_3 ())))
  have hx7_4 : Unit → A7 x 4 = x + 120 := fun _ => (congrFun (hfr7 x (by omega)) _).trans ((congrFun (upA_ne _ _ (by omega)) _).trans ((up2_ne _ _ (by omega)).trans (hx6_4 ())))
  have hx7_5 : Unit → A7 x 5 = x + 126 := fun _ => (congrFun (hfr7 x (by omega)) _).trans ((congrFun (upA_ne _ _ (by omega)) _).trans (up2_at _ _ _ _))
  refine ZE.put d_SN_init_83 f_SN_52 (tg := 2) rfl trivial (Or.inr ⟨⟨_, _, _, rfl, rfl, rfl⟩, rfl⟩) hk14 ?_
  show ZE (d + 7) M_SN_init (gw Gb14 (up2 A7 x 6 (x + 135))) 86 [(2, x)] [] _
  refine ZE.aload_n d_SN_init_86 rfl ?_
  refine ZE.new d_SN_init_87 n_SN_49 ?_
  rw [gnew_gw, show (gz (gw Gb14 (up2 A7 x 6 (x + 135))) : Int) = x + 137 from hz14]
  obtain ⟨Gn15, hE15⟩ : ∃ H1, H1 = gnew Gb14 18 2 (zInit 8) := ⟨_, rfl⟩
  rw [show gnew Gb14 (10 + 8) 2 (zInit 8) = Gn15 from hE15.symm, show (gz Gb14 : Int) = x + 137 from hz14]
  have hgr15 : gR Gb14 Gn15 1 2 := by rw [hE15]; exact gR.new
  have hkn15 : Unit → (gk Gn15 (x + 137) = 18 ∧ gn Gn15 (x + 137) = (2 : Int)) := fun _ => by rw [hE15, show x + 137 = (gz Gb14 : Int) from hz14.symm]; exact ⟨gnew_gk, gnew_gn⟩
  have hz15 : (gz Gn15 : Int) = x + 138 := by have := hgr15.1; omega
  have hk15 : gk Gn15 x = 20 := (hgr15.2.2.1 x (by omega)).1.trans hk14
  have hzh14 : Unit → (gz Gb14 : Int) = x + 137 := fun _ => hz14
  clear hz14 hk14
  skip
  refine ZE.dup d_SN_init_90 (Or.inr rfl) ?_
  refine ZE.sipush (n := 2048) d_SN_init_91 rfl ?_
  refine ZE.cI [(0, 2048)] [(2, x + 137), (2, x)] [(2, x + 137), (0, 2048)] d_SN_init_94 l_SN_51 rfl rfl rfl rfl rfl rfl (by omega) ?_
  refine t_init (b := x + 137) (cap := 2048) (hz15.trans (by omega)) (by omega) (hkn15 ()).1 (by omega) ((congrFun (upA_at _ _ _) 1).trans rfl) (fun _ => 0) (fun Gb16 A8 hK8 hF8 hgr16 hfr8 => ?_)
  show ZE (d + 7) M_SN_init (gw Gb16 A8) 97 [(2, x)] [(2, x + 137), (2, x)] _
  have hz16 : (gz Gb16 : Int) = x + 139 := by have := hgr16.1; omega
  have hk16 : gk Gb16 x = 20 := (hgr16.2.2.1 x (by omega)).1.trans hk15
  have hzh15 : Unit → (gz Gn15 : Int) = x + 138 := fun _ => hz15
  clear hz15 hk15
  have hf8 : ∀ a : Int, x < a → a < x + 137 → A8 a = A7 a := fun a h1 h2 => by rw [hfr8 a (by omega), upA_ne _ _ (by omega), up2_A, upA_ne _ _ (by omega)]
  have hl8 : ∀ a : Int, a < x → A8 a = A a := fun a ha => by rw [hfr8 a (by omega), upA_ne _ _ (by omega), up2_A, upA_ne _ _ (by omega)]; exact hl7 a ha
  have hx8_0 : Unit → A8 x 0 = x + 1 := fun _ => (congrFun (hfr8 x (by omega)) _).trans ((congrFun (upA_ne _ _ (by omega)) _).trans ((up2_ne _ _ (by omega)).trans (hx7_0 ())))
  have hx8_1 : Unit → A8 x 1 = x + 47 := fun _ => (congrFun (hfr8 x (by omega)) _).trans ((congrFun (upA_ne _ _ (by omega)) _).trans ((up2_ne _ _ (by omega)).trans (hx7_1 ())))
  have hx8_2 : Unit → A8 x 2 = x + 93 := fun _ => (congrFun (hfr8 x (by omega)) _).trans ((congrFun (upA_ne _ _ (by omega)) _).trans ((up2_ne _ _ (by omega)).trans (hx7_2 ())))
  have hx8_3 : Unit → A8 x 3 = x + 99 := fun _ => (congrFun (hfr8 x (by omega)) _).trans ((congrFun (upA_ne _ _ (by omega)) _).trans ((up2_ne _ _ (by omega)).trans (hx7_3 ())))
  have hx8_4 : Unit → A8 x 4 = x + 120 := fun _ => (congrFun (hfr8 x (by omega)) _).trans ((congrFun (upA_ne _ _ (by omega)) _).trans ((up2_ne _ _ (by omega)).trans (hx7_4 ())))
  have hx8_5 : Unit → A8 x 5 = x + 126 := fun _ => (congrFun (hfr8 x (by omega)) _).trans ((congrFun (upA_ne _ _ (by omega)) _).trans ((up2_ne _ _ (by omega)).trans (hx7_5 ())))
  have hx8_6 : Unit → A8 x 6 = x + 135 := fun _ => (congrFun (hfr8 x (by omega)) _).trans ((congrFun (upA_ne _ _ (by omega)) _).trans (up2_at _ _ _ _))
  refine ZE.put d_SN_init_97 f_SN_56 (tg := 2) rfl trivial (Or.inr ⟨⟨_, _, _, rfl, rfl, rfl⟩, rfl⟩) hk16 ?_
  show ZE (d + 7) M_SN_init (gw Gb16 (up2 A8 x 7 (x + 137))) 100 [(2, x)] [] _
  refine ZE.aload_n d_SN_init_100 rfl ?_
  refine ZE.new d_SN_init_101 n_SN_49 ?_
  rw [gnew_gw, show (gz (gw Gb16 (up2 A8 x 7 (x + 137))) : Int) = x + 139 from hz16]
  obtain ⟨Gn17, hE17⟩ : ∃ H1, H1 = gnew Gb16 18 2 (zInit 8) := ⟨_, rfl⟩
  rw [show gnew Gb16 (10 + 8) 2 (zInit 8) = Gn17 from hE17.symm, show (gz Gb16 : Int) = x + 139 from hz16]
  have hgr17 : gR Gb16 Gn17 1 2 := by rw [hE17]; exact gR.new
  have hkn17 : Unit → (gk Gn17 (x + 139) = 18 ∧ gn Gn17 (x + 139) = (2 : Int)) := fun _ => by rw [hE17, show x + 139 = (gz Gb16 : Int) from hz16.symm]; exact ⟨gnew_gk, gnew_gn⟩
  have hz17 : (gz Gn17 : Int) = x + 140 := by have := hgr17.1; omega
  have hk17 : gk Gn17 x = 20 := (hgr17.2.2.1 x (by omega)).1.trans hk16
  have hzh16 : Unit → (gz Gb16 : Int) = x + 139 := fun _ => hz16
  clear hz16 hk16
  skip
  refine ZE.dup d_SN_init_104 (Or.inr rfl) ?_
  refine ZE.sipush (n := 2048) d_SN_init_105 rfl ?_
  refine ZE.cI [(0, 2048)] [(2, x + 139), (2, x)] [(2, x + 139), (0, 2048)] d_SN_init_108 l_SN_51 rfl rfl rfl rfl rfl rfl (by omega) ?_
  refine t_init (b := x + 139) (cap := 2048) (hz17.trans (by omega)) (by omega) (hkn17 ()).1 (by omega) ((congrFun (upA_at _ _ _) 1).trans rfl) (fun _ => 0) (fun Gb18 A9 hK9 hF9 hgr18 hfr9 => ?_)
  show ZE (d + 7) M_SN_init (gw Gb18 A9) 111 [(2, x)] [(2, x + 139), (2, x)] _
  have hz18 : (gz Gb18 : Int) = x + 141 := by have := hgr18.1; omega
  have hk18 : gk Gb18 x = 20 := (hgr18.2.2.1 x (by omega)).1.trans hk17
  have hzh17 : Unit → (gz Gn17 : Int) = x + 140 := fun _ => hz17
  clear hz17 hk17
  have hf9 : ∀ a : Int, x < a → a < x + 139 → A9 a = A8 a := fun a h1 h2 => by rw [hfr9 a (by omega), upA_ne _ _ (by omega), up2_A, upA_ne _ _ (by omega)]
  have hl9 : ∀ a : Int, a < x → A9 a = A a := fun a ha => by rw [hfr9 a (by omega), upA_ne _ _ (by omega), up2_A, upA_ne _ _ (by omega)]; exact hl8 a ha
  have hx9_0 : Unit → A9 x 0 = x + 1 := fun _ => (congrFun (hfr9 x (by omega)) _).trans ((congrFun (upA_ne _ _ (by omega)) _).trans ((up2_ne _ _ (by omega)).trans (hx8_0 ())))
  have hx9_1 : Unit → A9 x 1 = x + 47 := fun _ => (congrFun (hfr9 x (by omega)) _).trans ((congrFun (upA_ne _ _ (by omega)) _).trans ((up2_ne _ _ (by omega)).trans (hx8_1 ())))
  have hx9_2 : Unit → A9 x 2 = x + 93 := fun _ => (congrFun (hfr9 x (by omega)) _).trans ((congrFun (upA_ne _ _ (by omega)) _).trans ((up2_ne _ _ (by omega)).trans (hx8_2 ())))
  have hx9_3 : Unit → A9 x 3 = x + 99 := fun _ => (congrFun (hfr9 x (by omega)) _).trans ((congrFun (upA_ne _ _ (by omega)) _).trans ((up2_ne _ _ (by omega)).trans (hx8_3 ())))
  have hx9_4 : Unit → A9 x 4 = x + 120 := fun _ => (congrFun (hfr9 x (by omega)) _).trans ((congrFun (upA_ne _ _ (by omega)) _).trans ((up2_ne _ _ (by omega)).trans (hx8_4 ())))
  have hx9_5 : Unit → A9 x 5 = x + 126 := fun _ => (congrFun (hfr9 x (by omega)) _).trans ((congrFun (upA_ne _ _ (by omega)) _).trans ((up2_ne _ _ (by omega)).trans (hx8_5 ())))
  have hx9_6 : Unit → A9 x 6 = x + 135 := fun _ => (congrFun (hfr9 x (by omega)) _).trans ((congrFun (upA_ne _ _ (by omega)) _).trans ((up2_ne _ _ (by omega)).trans (hx8_6 ())))
  have hx9_7 : Unit → A9 x 7 = x + 137 := fun _ => (congrFun (hfr9 x (by omega)) _).trans ((congrFun (upA_ne _ _ (by omega)) _).trans (up2_at _ _ _ _))
  refine ZE.put d_SN_init_111 f_SN_59 (tg := 2) rfl trivial (Or.inr ⟨⟨_, _, _, rfl, rfl, rfl⟩, rfl⟩) hk18 ?_
  show ZE (d + 7) M_SN_init (gw Gb18 (up2 A9 x 8 (x + 139))) 114 [(2, x)] [] _
  refine ZE.aload_n d_SN_init_114 rfl ?_
  refine ZE.new d_SN_init_115 n_SN_62 ?_
  rw [gnew_gw, show (gz (gw Gb18 (up2 A9 x 8 (x + 139))) : Int) = x + 141 from hz18]
  obtain ⟨Gn19, hE19⟩ : ∃ H1, H1 = gnew Gb18 10 2 (zInit 0) := ⟨_, rfl⟩
  rw [show gnew Gb18 (10 + 0) 2 (zInit 0) = Gn19 from hE19.symm, show (gz Gb18 : Int) = x + 141 from hz18]
  have hgr19 : gR Gb18 Gn19 1 2 := by rw [hE19]; exact gR.new
  have hkn19 : Unit → (gk Gn19 (x + 141) = 10 ∧ gn Gn19 (x + 141) = (2 : Int)) := fun _ => by rw [hE19, show x + 141 = (gz Gb18 : Int) from hz18.symm]; exact ⟨gnew_gk, gnew_gn⟩
  have hz19 : (gz Gn19 : Int) = x + 142 := by have := hgr19.1; omega
  have hk19 : gk Gn19 x = 20 := (hgr19.2.2.1 x (by omega)).1.trans hk18
  have hzh18 : Unit → (gz Gb18 : Int) = x + 141 := fun _ => hz18
  clear hz18 hk18
  skip
  refine ZE.dup d_SN_init_118 (Or.inr rfl) ?_
  refine ZE.bipush (n := 36) d_SN_init_119 rfl ?_
  refine ZE.cI [(0, 36)] [(2, x + 141), (2, x)] [(2, x + 141), (0, 36)] d_SN_init_121 l_SN_64 rfl rfl rfl rfl rfl rfl (by omega) ?_
  refine B_init (b := x + 141) (cap := 36) (hz19.trans (by omega)) (by omega) (hkn19 ()).1 (by omega) ((congrFun (upA_at _ _ _) 1).trans rfl) (fun Gb20 A10 hK10 hF10 hgr20 hfr10 => ?_)
  show ZE (d + 7) M_SN_init (gw Gb20 A10) 124 [(2, x)] [(2, x + 141), (2, x)] _
  have hz20 : (gz Gb20 : Int) = x + 143 := by have := hgr20.1; omega
  have hk20 : gk Gb20 x = 20 := (hgr20.2.2.1 x (by omega)).1.trans hk19
  have hzh19 : Unit → (gz Gn19 : Int) = x + 142 := fun _ => hz19
  clear hz19 hk19
  have hf10 : ∀ a : Int, x < a → a < x + 141 → A10 a = A9 a := fun a h1 h2 => by rw [hfr10 a (by omega), upA_ne _ _ (by omega), up2_A, upA_ne _ _ (by omega)]
  have hl10 : ∀ a : Int, a < x → A10 a = A a := fun a ha => by rw [hfr10 a (by omega), upA_ne _ _ (by omega), up2_A, upA_ne _ _ (by omega)]; exact hl9 a ha
  have hx10_0 : Unit → A10 x 0 = x + 1 := fun _ => (congrFun (hfr10 x (by omega)) _).trans ((congrFun (upA_ne _ _ (by omega)) _).trans ((up2_ne _ _ (by omega)).trans (hx9_0 ())))
  have hx10_1 : Unit → A10 x 1 = x + 47 := fun _ => (congrFun (hfr10 x (by omega)) _).trans ((congrFun (upA_ne _ _ (by omega)) _).trans ((up2_ne _ _ (by omega)).trans (hx9_1 ())))
  have hx10_2 : Unit → A10 x 2 = x + 93 := fun _ => (congrFun (hfr10 x (by omega)) _).trans ((congrFun (upA_ne _ _ (by omega)) _).trans ((up2_ne _ _ (by omega)).trans (hx9_2 ())))
  have hx10_3 : Unit → A10 x 3 = x + 99 := fun _ => (congrFun (hfr10 x (by omega)) _).trans ((congrFun (upA_ne _ _ (by omega)) _).trans ((up2_ne _ _ (by omega)).trans (hx9_3 ())))
  have hx10_4 : Unit → A10 x 4 = x + 120 := fun _ => (congrFun (hfr10 x (by omega)) _).trans ((congrFun (upA_ne _ _ (by omega)) _).trans ((up2_ne _ _ (by omega)).trans (hx9_4 ())))
  have hx10_5 : Unit → A10 x 5 = x + 126 := fun _ => (congrFun (hfr10 x (by omega)) _).trans ((congrFun (upA_ne _ _ (by omega)) _).trans ((up2_ne _ _ (by omega)).trans (hx9_5 ())))
  have hx10_6 : Unit → A10 x 6 = x + 135 := fun _ => (congrFun (hfr10 x (by omega)) _).trans ((congrFun (upA_ne _ _ (by omega)) _).trans ((up2_ne _ _ (by omega)).trans (hx9_6 ())))
  have hx10_7 : Unit → A10 x 7 = x + 137 := fun _ => (congrFun (hfr10 x (by omega)) _).trans ((congrFun (upA_ne _ _ (by omega)) _).trans ((up2_ne _ _ (by omega)).trans (hx9_7 ())))
  have hx10_8 : Unit → A10 x 8 = x + 139 := fun _ => (congrFun (hfr10 x (by omega)) _).trans ((congrFun (upA_ne _ _ (by omega)) _).trans (up2_at _ _ _ _))
  refine ZE.put d_SN_init_124 f_SN_65 (tg := 2) rfl trivial (Or.inr ⟨⟨_, _, _, rfl, rfl, rfl⟩, rfl⟩) hk20 ?_
  show ZE (d + 7) M_SN_init (gw Gb20 (up2 A10 x 9 (x + 141))) 127 [(2, x)] [] _
  refine ZE.aload_n d_SN_init_127 rfl ?_
  refine ZE.new d_SN_init_128 n_SN_62 ?_
  rw [gnew_gw, show (gz (gw Gb20 (up2 A10 x 9 (x + 141))) : Int) = x + 143 from hz20]
  obtain ⟨Gn21, hE21⟩ : ∃ H1, H1 = gnew Gb20 10 2 (zInit 0) := ⟨_, rfl⟩
  rw [show gnew Gb20 (10 + 0) 2 (zInit 0) = Gn21 from hE21.symm, show (gz Gb20 : Int) = x + 143 from hz20]
  have hgr21 : gR Gb20 Gn21 1 2 := by rw [hE21]; exact gR.new
  have hkn21 : Unit → (gk Gn21 (x + 143) = 10 ∧ gn Gn21 (x + 143) = (2 : Int)) := fun _ => by rw [hE21, show x + 143 = (gz Gb20 : Int) from hz20.symm]; exact ⟨gnew_gk, gnew_gn⟩
  have hz21 : (gz Gn21 : Int) = x + 144 := by have := hgr21.1; omega
  have hk21 : gk Gn21 x = 20 := (hgr21.2.2.1 x (by omega)).1.trans hk20
  have hzh20 : Unit → (gz Gb20 : Int) = x + 143 := fun _ => hz20
  clear hz20 hk20
  skip
  refine ZE.dup d_SN_init_131 (Or.inr rfl) ?_
  refine ZE.bipush (n := 36) d_SN_init_132 rfl ?_
  refine ZE.cI [(0, 36)] [(2, x + 143), (2, x)] [(2, x + 143), (0, 36)] d_SN_init_134 l_SN_64 rfl rfl rfl rfl rfl rfl (by omega) ?_
  refine B_init (b := x + 143) (cap := 36) (hz21.trans (by omega)) (by omega) (hkn21 ()).1 (by omega) ((congrFun (upA_at _ _ _) 1).trans rfl) (fun Gb22 A11 hK11 hF11 hgr22 hfr11 => ?_)
  show ZE (d + 7) M_SN_init (gw Gb22 A11) 137 [(2, x)] [(2, x + 143), (2, x)] _
  have hz22 : (gz Gb22 : Int) = x + 145 := by have := hgr22.1; omega
  have hk22 : gk Gb22 x = 20 := (hgr22.2.2.1 x (by omega)).1.trans hk21
  have hzh21 : Unit → (gz Gn21 : Int) = x + 144 := fun _ => hz21
  clear hz21 hk21
  have hf11 : ∀ a : Int, x < a → a < x + 143 → A11 a = A10 a := fun a h1 h2 => by rw [hfr11 a (by omega), upA_ne _ _ (by omega), up2_A, upA_ne _ _ (by omega)]
  have hl11 : ∀ a : Int, a < x → A11 a = A a := fun a ha => by rw [hfr11 a (by omega), upA_ne _ _ (by omega), up2_A, upA_ne _ _ (by omega)]; exact hl10 a ha
  have hx11_0 : Unit → A11 x 0 = x + 1 := fun _ => (congrFun (hfr11 x (by omega)) _).trans ((congrFun (upA_ne _ _ (by omega)) _).trans ((up2_ne _ _ (by omega)).trans (hx10_0 ())))
  have hx11_1 : Unit → A11 x 1 = x + 47 := fun _ => (congrFun (hfr11 x (by omega)) _).trans ((congrFun (upA_ne _ _ (by omega)) _).trans ((up2_ne _ _ (by omega)).trans (hx10_1 ())))
  have hx11_2 : Unit → A11 x 2 = x + 93 := fun _ => (congrFun (hfr11 x (by omega)) _).trans ((congrFun (upA_ne _ _ (by omega)) _).trans ((up2_ne _ _ (by omega)).trans (hx10_2 ())))
  have hx11_3 : Unit → A11 x 3 = x + 99 := fun _ => (congrFun (hfr11 x (by omega)) _).trans ((congrFun (upA_ne _ _ (by omega)) _).trans ((up2_ne _ _ (by omega)).trans (hx10_3 ())))
  have hx11_4 : Unit → A11 x 4 = x + 120 := fun _ => (congrFun (hfr11 x (by omega)) _).trans ((congrFun (upA_ne _ _ (by omega)) _).trans ((up2_ne _ _ (by omega)).trans (hx10_4 ())))
  have hx11_5 : Unit → A11 x 5 = x + 126 := fun _ => (congrFun (hfr11 x (by omega)) _).trans ((congrFun (upA_ne _ _ (by omega)) _).trans ((up2_ne _ _ (by omega)).trans (hx10_5 ())))
  have hx11_6 : Unit → A11 x 6 = x + 135 := fun _ => (congrFun (hfr11 x (by omega)) _).trans ((congrFun (upA_ne _ _ (by omega)) _).trans ((up2_ne _ _ (by omega)).trans (hx10_6 ())))
  have hx11_7 : Unit → A11 x 7 = x + 137 := fun _ => (congrFun (hfr11 x (by omega)) _).trans ((congrFun (upA_ne _ _ (by omega)) _).trans ((up2_ne _ _ (by omega)).trans (hx10_7 ())))
  have hx11_8 : Unit → A11 x 8 = x + 139 := fun _ => (congrFun (hfr11 x (by omega)) _).trans ((congrFun (upA_ne _ _ (by omega)) _).trans ((up2_ne _ _ (by omega)).trans (hx10_8 ())))
  have hx11_9 : Unit → A11 x 9 = x + 141 := fun _ => (congrFun (hfr11 x (by omega)) _).trans ((congrFun (upA_ne _ _ (by omega)) _).trans (up2_at _ _ _ _))
  refine ZE.put d_SN_init_137 f_SN_69 (tg := 2) rfl trivial (Or.inr ⟨⟨_, _, _, rfl, rfl, rfl⟩, rfl⟩) hk22 ?_
  show ZE (d + 7) M_SN_init (gw Gb22 (up2 A11 x 10 (x + 143))) 140 [(2, x)] [] _
  refine ZE.aload_n d_SN_init_140 rfl ?_
  refine ZE.iconst (n := 3) d_SN_init_141 ?_
  refine ZE.put d_SN_init_142 f_SN_72 (tg := 0) rfl trivial (Or.inl ⟨_, _, _, rfl, rfl, rfl⟩) hk22 ?_
  show ZE (d + 7) M_SN_init (gw Gb22 (up2 (up2 A11 x 10 (x + 143)) x 11 3)) 145 [(2, x)] [] _
  have hS22 : gR Gb22 Gb22 0 0 := gR.rf
  have hS21 := hgr22.tr hS22
  have hS20 := hgr21.tr hS21
  have hS19 := hgr20.tr hS20
  have hS18 := hgr19.tr hS19
  have hS17 := hgr18.tr hS18
  have hS16 := hgr17.tr hS17
  have hS15 := hgr16.tr hS16
  have hS14 := hgr15.tr hS15
  have hS13 := hgr14.tr hS14
  have hS12 := hgr13.tr hS13
  have hS11 := hgr12.tr hS12
  have hS10 := hgr11.tr hS11
  have hS9 := hgr10.tr hS10
  have hS8 := hgr9.tr hS9
  have hS7 := hgr8.tr hS8
  have hS6 := hgr7.tr hS7
  have hS5 := hgr6.tr hS6
  have hS4 := hgr5.tr hS5
  have hS3 := hgr4.tr hS4
  have hS2 := hgr3.tr hS3
  have hS1 := hgr2.tr hS2
  have hS0 := hgr1.tr hS1
  have hq11 : ∀ a : Int, x < a → a < x + 145 → A11 a = A11 a := fun _ _ _ => rfl
  have hq10 : ∀ a : Int, x < a → a < x + 143 → A11 a = A10 a := fun a h1 h2 => (hq11 a h1 (by omega)).trans (hf11 a h1 h2)
  have hq9 : ∀ a : Int, x < a → a < x + 141 → A11 a = A9 a := fun a h1 h2 => (hq10 a h1 (by omega)).trans (hf10 a h1 h2)
  have hq8 : ∀ a : Int, x < a → a < x + 139 → A11 a = A8 a := fun a h1 h2 => (hq9 a h1 (by omega)).trans (hf9 a h1 h2)
  have hq7 : ∀ a : Int, x < a → a < x + 137 → A11 a = A7 a := fun a h1 h2 => (hq8 a h1 (by omega)).trans (hf8 a h1 h2)
  have hq6 : ∀ a : Int, x < a → a < x + 135 → A11 a = A6 a := fun a h1 h2 => (hq7 a h1 (by omega)).trans (hf7 a h1 h2)
  have hq5 : ∀ a : Int, x < a → a < x + 126 → A11 a = A5 a := fun a h1 h2 => (hq6 a h1 (by omega)).trans (hf6 a h1 h2)
  have hq4 : ∀ a : Int, x < a → a < x + 120 → A11 a = A4 a := fun a h1 h2 => (hq5 a h1 (by omega)).trans (hf5 a h1 h2)
  have hq3 : ∀ a : Int, x < a → a < x + 99 → A11 a = A3 a := fun a h1 h2 => (hq4 a h1 (by omega)).trans (hf4 a h1 h2)
  have hq2 : ∀ a : Int, x < a → a < x + 93 → A11 a = A2 a := fun a h1 h2 => (hq3 a h1 (by omega)).trans (hf3 a h1 h2)
  have hq1 : ∀ a : Int, x < a → a < x + 47 → A11 a = A1 a := fun a h1 h2 => (hq2 a h1 (by omega)).trans (hf2 a h1 h2)
  have hKq1 := hK1.gr hS2 (by have := hzh2 (); omega)
  have hKq2 := hK2.gr hS4 (by have := hzh4 (); omega)
  have hKq3 := hK3.gr hS6 (by have := hzh6 (); omega)
  have hKq4 := hK4.gr hS8 (by have := hzh8 (); omega)
  have hKq5 := hK5.gr hS10 (by have := hzh10 (); omega)
  have hKq6 := hK6.gr hS12 (by have := hzh12 (); omega)
  have hKq7 := hK7.gr hS14 (by have := hzh14 (); omega)
  have hKq8 := hK8.gr hS16 (by have := hzh16 (); omega)
  have hKq9 := hK9.gr hS18 (by have := hzh18 (); omega)
  have hKq10 := hK10.gr hS20 (by have := hzh20 (); omega)
  have hKq11 := hK11
  suffices hsf : ∀ A0, A0 = up2 (up2 A11 x 10 (x + 143)) x 11 3 → ZE (d + 7) M_SN_init (gw Gb22 A0) 145 [(2, x)] [] P from hsf _ rfl
  intro A0 hA0
  have ht0 : ∀ a : Int, x < a → a < x + 145 → A0 a = A11 a := fun a h1 h2 => by rw [hA0, up2_A, upA_ne _ _ (by omega), up2_A, upA_ne _ _ (by omega)]
  have hl0 : ∀ a : Int, a < x → A0 a = A a := fun a ha => by rw [hA0, up2_A, upA_ne _ _ (by omega), up2_A, upA_ne _ _ (by omega)]; exact hl11 a ha
  have hy0 : Unit → A0 x 0 = x + 1 := fun _ => (congrFun (congrFun hA0 x) 0).trans ((up2_ne _ _ (by omega)).trans ((up2_ne _ _ (by omega)).trans (hx11_0 ())))
  have hy1 : Unit → A0 x 1 = x + 47 := fun _ => (congrFun (congrFun hA0 x) 1).trans ((up2_ne _ _ (by omega)).trans ((up2_ne _ _ (by omega)).trans (hx11_1 ())))
  have hy2 : Unit → A0 x 2 = x + 93 := fun _ => (congrFun (congrFun hA0 x) 2).trans ((up2_ne _ _ (by omega)).trans ((up2_ne _ _ (by omega)).trans (hx11_2 ())))
  have hy3 : Unit → A0 x 3 = x + 99 := fun _ => (congrFun (congrFun hA0 x) 3).trans ((up2_ne _ _ (by omega)).trans ((up2_ne _ _ (by omega)).trans (hx11_3 ())))
  have hy4 : Unit → A0 x 4 = x + 120 := fun _ => (congrFun (congrFun hA0 x) 4).trans ((up2_ne _ _ (by omega)).trans ((up2_ne _ _ (by omega)).trans (hx11_4 ())))
  have hy5 : Unit → A0 x 5 = x + 126 := fun _ => (congrFun (congrFun hA0 x) 5).trans ((up2_ne _ _ (by omega)).trans ((up2_ne _ _ (by omega)).trans (hx11_5 ())))
  have hy6 : Unit → A0 x 6 = x + 135 := fun _ => (congrFun (congrFun hA0 x) 6).trans ((up2_ne _ _ (by omega)).trans ((up2_ne _ _ (by omega)).trans (hx11_6 ())))
  have hy7 : Unit → A0 x 7 = x + 137 := fun _ => (congrFun (congrFun hA0 x) 7).trans ((up2_ne _ _ (by omega)).trans ((up2_ne _ _ (by omega)).trans (hx11_7 ())))
  have hy8 : Unit → A0 x 8 = x + 139 := fun _ => (congrFun (congrFun hA0 x) 8).trans ((up2_ne _ _ (by omega)).trans ((up2_ne _ _ (by omega)).trans (hx11_8 ())))
  have hy9 : Unit → A0 x 9 = x + 141 := fun _ => (congrFun (congrFun hA0 x) 9).trans ((up2_ne _ _ (by omega)).trans ((up2_ne _ _ (by omega)).trans (hx11_9 ())))
  have hy10 : Unit → A0 x 10 = x + 143 := fun _ => (congrFun (congrFun hA0 x) 10).trans ((up2_ne _ _ (by omega)).trans (up2_at _ _ _ _))
  have hy11 : Unit → A0 x 11 = 3 := fun _ => (congrFun (congrFun hA0 x) 11).trans (up2_at _ _ _ _)
  have hw1 : ∀ a : Int, x < a → a < x + 47 → A0 a = A1 a := fun a h1 h2 => (ht0 a h1 (by omega)).trans (hq1 a h1 h2)
  have hw2 : ∀ a : Int, x < a → a < x + 93 → A0 a = A2 a := fun a h1 h2 => (ht0 a h1 (by omega)).trans (hq2 a h1 h2)
  have hw3 : ∀ a : Int, x < a → a < x + 99 → A0 a = A3 a := fun a h1 h2 => (ht0 a h1 (by omega)).trans (hq3 a h1 h2)
  have hw4 : ∀ a : Int, x < a → a < x + 120 → A0 a = A4 a := fun a h1 h2 => (ht0 a h1 (by omega)).trans (hq4 a h1 h2)
  have hw5 : ∀ a : Int, x < a → a < x + 126 → A0 a = A5 a := fun a h1 h2 => (ht0 a h1 (by omega)).trans (hq5 a h1 h2)
  have hw6 : ∀ a : Int, x < a → a < x + 135 → A0 a = A6 a := fun a h1 h2 => (ht0 a h1 (by omega)).trans (hq6 a h1 h2)
  have hw7 : ∀ a : Int, x < a → a < x + 137 → A0 a = A7 a := fun a h1 h2 => (ht0 a h1 (by omega)).trans (hq7 a h1 h2)
  have hw8 : ∀ a : Int, x < a → a < x + 139 → A0 a = A8 a := fun a h1 h2 => (ht0 a h1 (by omega)).trans (hq8 a h1 h2)
  have hw9 : ∀ a : Int, x < a → a < x + 141 → A0 a = A9 a := fun a h1 h2 => (ht0 a h1 (by omega)).trans (hq9 a h1 h2)
  have hw10 : ∀ a : Int, x < a → a < x + 143 → A0 a = A10 a := fun a h1 h2 => (ht0 a h1 (by omega)).trans (hq10 a h1 h2)
  have hw11 : ∀ a : Int, x < a → a < x + 145 → A0 a = A11 a := fun a h1 h2 => (ht0 a h1 (by omega)).trans (hq11 a h1 h2)
  refine ZE.aload_n d_SN_init_145 rfl ?_
  refine ZE.getE (v := x + 141) d_SN_init_146 f_SN_65 (tg := 2) rfl hk22 (hy9 ()) ?_
  refine ZE.iconst (n := 1) d_SN_init_149 ?_
  refine ZE.cV [(0, 1)] [] [(2, x + 141), (0, 1)] d_SN_init_150 l_SN_76 rfl rfl rfl rfl rfl rfl hKq10.1 ?_
  refine B_setTo hKq10 (((congrFun (hw10 (x + 141) (by omega) (by omega)) _).trans hF10.1).trans (by omega)) (v := 1) (by omega) (fun Bt gBt nBt => ?_)
  show ZE (d + 7) M_SN_init (gw Gb22 Bt) 153 [(2, x)] [] _
  refine ZE.aload_n d_SN_init_153 rfl ?_
  refine ZE.getE (v := x + 1) d_SN_init_154 f_SN_12 (tg := 2) rfl hk22 ((congrFun (gBt x (by omega) (by omega)) _).trans (hy0 ())) ?_
  refine ZE.iconst (n := 3) d_SN_init_157 ?_
  have hglL : gl Gb22 = gl G := hS0.2.2.2.2
  have hgz3 := hS0.1
  have hLt : lG Gb22 Bt := hL.gr hS0 (by omega) ((gBt _ (by omega) (by omega)).trans (hl0 _ (by omega)))
  have hk1x : ∀ a : Int, x + 1 ≤ a → a ≤ x + 46 → Bt a = A1 a := fun a h1 h2 => (gBt a (by omega) (by omega)).trans (hw1 a (by omega) (by omega))
  refine ZE.cV [(0, 3)] [] [(2, x + 1), (0, 3), (9, 0), (9, 0)] d_SN_init_158 l_SN_79 rfl rfl rfl rfl rfl rfl hKq1.1 ?_
  refine s_fill (d := d) hKq1 (hF1.row (fun a h1 h2 => hk1x a (by omega) (by omega))) hLt (by rw [hglL]; omega) (ap := 1) (Or.inl rfl) (E0 := x + 145) ⟨by omega, by omega⟩ (fun e _ => Or.inl ((congrFun (hk1x (x + 1 + 28) (by omega) (by omega)) _).trans (ha1 _))) (S := 3) (by omega) (by decide) (b0 := -1) ((congrFun (hk1x (x + 1) (by omega) (by omega)) _).trans hn1.1) (by unfold zR; omega) (fun q => absurd q (by omega)) (fun GB B n m pB sB nB fB gB bn bm => ?_)
  show ZE (d + 7) M_SN_init (gw GB B) 161 [(2, x)] [(2, x + 1)] _
  refine ZE.pop d_SN_init_161 (Or.inr rfl) ?_
  refine ZE.vret d_SN_init_162 rfl ?_
  have hu1 := cnt_le (fun e => decide (Bt (x + 1 + 28) (e : Nat) = -1)) 128
  have hu2 := cnt_le (fun e => decide (B (x + 47 + 28) (e : Nat) = -1)) 128
  have hgz := gB.1
  have hgz2 := hS0.1
  have hv : ∀ a : Int, a < x + 145 → ¬ (x + 1 ≤ a ∧ a ≤ x + 46) → B a = Bt a := fun a h1 h2 => (fB.1 a (by omega) (by omega)).elim id (fun z => by have := z.1; omega)
  have hv2 : ∀ a : Int, a < x + 141 → ¬ (x + 1 ≤ a ∧ a ≤ x + 46) → B a = A0 a := fun a h1 h2 => (hv a (by omega) h2).trans (gBt a (by omega) (by omega))
  have hv3 : ∀ a : Int, x + 143 ≤ a → a < x + 145 → B a = A0 a := fun a h1 h2 => (hv a (by omega) (by omega)).trans (gBt a (by omega) (by omega))
  have hvx := hv2 x (by omega) (by omega)
  refine k _ B (fun _ => 0) (fun _ => 0) _ _ ⟨⟨(gB.2.2.1 x (by omega)).1.trans (hk22), h0, hKq1.gr gB (by omega), hKq2.gr gB (by omega), hKq3.gr gB (by omega), hKq4.gr gB (by omega), hKq5.gr gB (by omega), hKq6.gr gB (by omega), hKq7.gr gB (by omega), hKq8.gr gB (by omega), hKq9.gr gB (by omega), hKq10.gr gB (by omega), hKq11.gr gB (by omega), by omega⟩, ⟨(congrFun hvx _).trans (hy0 ()), (congrFun hvx _).trans (hy1 ()), (congrFun hvx _).trans (hy2 ()), (congrFun hvx _).trans (hy3 ()), (congrFun hvx _).trans (hy4 ()), (congrFun hvx _).trans (hy5 ()), (congrFun hvx _).trans (hy6 ()), (congrFun hvx _).trans (hy7 ()), (congrFun hvx _).trans (hy8 ()), (congrFun hvx _).trans (hy9 ()), (congrFun hvx _).trans (hy10 ())⟩, ⟨(congrFun hvx _).trans (hy11 ()), by omega, by decide⟩, ⟨hLt.gr gB (by omega) (hv _ (by rw [hglL]; omega) (by rw [hglL]; omega)), by rw [gB.2.2.2.2, hglL]; exact hgl⟩, ⟨hKq1.gr gB (by omega), sB, pB, nB, ⟨by omega, by omega⟩, Or.inl rfl, by omega, by decide⟩, ⟨hKq2.gr gB (by omega), hF2.row (fun a a1 a2 => (hv2 a (by omega) (by omega)).trans (hw2 a (by omega) (by omega))), fun q _ => Or.inl ((congrFun ((hv2 (x + 47 + 28) (by omega) (by omega)).trans (hw2 _ (by omega) (by omega))) _).trans (ha2 _)), ⟨by omega, by omega⟩, Or.inl ((congrFun ((hv2 (x + 47) (by omega) (by omega)).trans (hw2 _ (by omega) (by omega))) _).trans hn2.1)⟩, ⟨hF3.ab (fun i _ => (congrFun ((hv2 (x + 93) (by omega) (by omega)).trans (hw3 _ (by omega) (by omega))) _)), Or.inl ((congrFun ((hv2 (x + 93) (by omega) (by omega)).trans (hw3 _ (by omega) (by omega))) _).trans hn3)⟩, ⟨hF4.ab2 (fun a a1 a2 => (hv2 a (by omega) (by omega)).trans (hw4 a (by omega) (by omega))), Or.inl ((congrFun ((hv2 (x + 99) (by omega) (by omega)).trans (hw4 _ (by omega) (by omega))) _).trans hn4)⟩, hF5.ab ((hv2 (x + 120) (by omega) (by omega)).trans (hw5 _ (by omega) (by omega))), hF6.ab (fun a a1 a2 => (hv2 a (by omega) (by omega)).trans (hw6 a (by omega) (by omega))), ⟨hF7.ab (fun a a1 a2 => (hv2 a (by omega) (by omega)).trans (hw7 a (by omega) (by omega))), by omega, fun _ => by show (-128 : Int) ≤ (0 : Int) ∧ (0 : Int) ≤ 127; omega⟩, ⟨hF8.ab (fun a a1 a2 => (hv2 a (by omega) (by omega)).trans (hw8 a (by omega) (by omega))), by omega, fun _ => by show (0 : Int) ≤ (0 : Int) ∧ (0 : Int) ≤ 127; omega⟩, ⟨0, fun _ => 0, hF9.ab (fun a a1 a2 => (hv2 a (by omega) (by omega)).trans (hw9 a (by omega) (by omega))), by omega⟩, ⟨nBt.ab (fun a ha => hv a (by omega) (by omega)), by decide +kernel⟩, ((congrFun ((hv3 (x + 143) (by omega) (by omega)).trans (hw11 _ (by omega) (by omega))) _).trans (hF11.1.trans (by omega)))⟩ (fun a ha => ?_) (hS0.tr gB) ?_ ?_
  · rw [hv2 a (by omega) (by omega)]; exact hl0 a ha
  · unfold unk at *; omega
  · unfold unk at *; omega
