set_option maxRecDepth 20000 in
set_option maxHeartbeats 4000000 in
theorem f_init {d : Nat} {G : zG} {A : Int → Int → Int} {P : Option zV → zG → Prop} {f : Int} (hz : (gz G : Int) = f + 1) (h0 : 0 ≤ f) (hk : gk G f = 12) (k : ∀ G2 A2, fK G2 f → fO A2 f → (∀ a : Int, a < f → A2 a = A a) → gR G G2 8 40 → P none (gw G2 A2)) : ZE (d + 2) M_Fra_init (gw G A) 0 [(2, f)] [] P := by
  refine ZE.aload_n d_Fra_init_0 rfl ?_
  refine ZE.objInit d_Fra_init_1 o_Fra_3 (by omega) (Nat.le_of_ble_eq_true rfl) ?_
  refine ZE.aload_n d_Fra_init_4 rfl ?_
  refine ZE.new d_Fra_init_5 n_Fra_9 ?_
  rw [gnew_gw, show (gz (gw G A) : Int) = f + 1 from hz]
  obtain ⟨Gn1, hE1⟩ : ∃ H1, H1 = gnew G 10 2 (zInit 0) := ⟨_, rfl⟩
  rw [show gnew G (10 + 0) 2 (zInit 0) = Gn1 from hE1.symm, show (gz G : Int) = f + 1 from hz]
  have hgr1 : gR G Gn1 1 2 := by rw [hE1]; exact gR.new
  have hkn1 : Unit → (gk Gn1 (f + 1) = 10 ∧ gn Gn1 (f + 1) = (2 : Int)) := fun _ => by rw [hE1, show f + 1 = (gz G : Int) from hz.symm]; exact ⟨gnew_gk, gnew_gn⟩
  have hz1 : (gz Gn1 : Int) = f + 2 := by have := hgr1.1; omega
  have hk1 : gk Gn1 f = 12 := (hgr1.2.2.1 f (by omega)).1.trans hk
  have hzh0 : Unit → (gz G : Int) = f + 1 := fun _ => hz
  clear hz hk
  skip
  refine ZE.dup d_Fra_init_8 (Or.inr rfl) ?_
  refine ZE.bipush (n := 8) d_Fra_init_9 rfl ?_
  refine ZE.cI [(0, 8)] [(2, f + 1), (2, f)] [(2, f + 1), (0, 8)] d_Fra_init_11 l_Fra_13 rfl rfl rfl rfl rfl rfl (by omega) ?_
  refine B_init (b := f + 1) (cap := 8) (hz1.trans (by omega)) (by omega) (hkn1 ()).1 (by omega) ((congrFun (upA_at _ _ _) 1).trans rfl) (fun Gb2 A1 hB1 hN1 hgr2 hA1 => ?_)
  show ZE (d + 2) M_Fra_init (gw Gb2 A1) 14 [(2, f)] [(2, f + 1), (2, f)] _
  have hz2 : (gz Gb2 : Int) = f + 3 := by have := hgr2.1; omega
  have hk2 : gk Gb2 f = 12 := (hgr2.2.2.1 f (by omega)).1.trans hk1
  have hzh1 : Unit → (gz Gn1 : Int) = f + 2 := fun _ => hz1
  clear hz1 hk1
  have hl1 : ∀ a : Int, a < f → A1 a = A a := fun a ha => by rw [hA1 a (by omega), upA_ne _ _ (by omega)]
  refine ZE.put d_Fra_init_14 f_Fra_16 (tg := 2) rfl trivial (Or.inr ⟨⟨_, _, _, rfl, rfl, rfl⟩, rfl⟩) hk2 ?_
  show ZE (d + 2) M_Fra_init (gw Gb2 (up2 A1 f 0 (f + 1))) 17 [(2, f)] [] _
  refine ZE.aload_n d_Fra_init_17 rfl ?_
  refine ZE.new d_Fra_init_18 n_Fra_9 ?_
  rw [gnew_gw, show (gz (gw Gb2 (up2 A1 f 0 (f + 1))) : Int) = f + 3 from hz2]
  obtain ⟨Gn3, hE3⟩ : ∃ H1, H1 = gnew Gb2 10 2 (zInit 0) := ⟨_, rfl⟩
  rw [show gnew Gb2 (10 + 0) 2 (zInit 0) = Gn3 from hE3.symm, show (gz Gb2 : Int) = f + 3 from hz2]
  have hgr3 : gR Gb2 Gn3 1 2 := by rw [hE3]; exact gR.new
  have hkn3 : Unit → (gk Gn3 (f + 3) = 10 ∧ gn Gn3 (f + 3) = (2 : Int)) := fun _ => by rw [hE3, show f + 3 = (gz Gb2 : Int) from hz2.symm]; exact ⟨gnew_gk, gnew_gn⟩
  have hz3 : (gz Gn3 : Int) = f + 4 := by have := hgr3.1; omega
  have hk3 : gk Gn3 f = 12 := (hgr3.2.2.1 f (by omega)).1.trans hk2
  have hzh2 : Unit → (gz Gb2 : Int) = f + 3 := fun _ => hz2
  clear hz2 hk2
  skip
  refine ZE.dup d_Fra_init_21 (Or.inr rfl) ?_
  refine ZE.bipush (n := 8) d_Fra_init_22 rfl ?_
  refine ZE.cI [(0, 8)] [(2, f + 3), (2, f)] [(2, f + 3), (0, 8)] d_Fra_init_24 l_Fra_13 rfl rfl rfl rfl rfl rfl (by omega) ?_
  refine B_init (b := f + 3) (cap := 8) (hz3.trans (by omega)) (by omega) (hkn3 ()).1 (by omega) ((congrFun (upA_at _ _ _) 1).trans rfl) (fun Gb4 A3 hB3 hN3 hgr4 hA3 => ?_)
  show ZE (d + 2) M_Fra_init (gw Gb4 A3) 27 [(2, f)] [(2, f + 3), (2, f)] _
  have hz4 : (gz Gb4 : Int) = f + 5 := by have := hgr4.1; omega
  have hk4 : gk Gb4 f = 12 := (hgr4.2.2.1 f (by omega)).1.trans hk3
  have hzh3 : Unit → (gz Gn3 : Int) = f + 4 := fun _ => hz3
  clear hz3 hk3
  have hl3 : ∀ a : Int, a < f → A3 a = A a := fun a ha => by rw [hA3 a (by omega), upA_ne _ _ (by omega), up2_A, upA_ne _ _ (by omega), hl1 a ha]
  have hf3_0 : Unit → A3 f 0 = f + 1 := fun _ => by rw [hA3 f (by omega), upA_ne _ _ (by omega), up2_at]
  have hn3_0 : bN A3 (f + 1) 0 := (hN1).ab (fun a ha => by rw [hA3 a (by omega), upA_ne _ _ (by omega), up2_A, upA_ne _ _ (by omega)])
  refine ZE.put d_Fra_init_27 f_Fra_20 (tg := 2) rfl trivial (Or.inr ⟨⟨_, _, _, rfl, rfl, rfl⟩, rfl⟩) hk4 ?_
  show ZE (d + 2) M_Fra_init (gw Gb4 (up2 A3 f 1 (f + 3))) 30 [(2, f)] [] _
  refine ZE.aload_n d_Fra_init_30 rfl ?_
  refine ZE.new d_Fra_init_31 n_Fra_9 ?_
  rw [gnew_gw, show (gz (gw Gb4 (up2 A3 f 1 (f + 3))) : Int) = f + 5 from hz4]
  obtain ⟨Gn5, hE5⟩ : ∃ H1, H1 = gnew Gb4 10 2 (zInit 0) := ⟨_, rfl⟩
  rw [show gnew Gb4 (10 + 0) 2 (zInit 0) = Gn5 from hE5.symm, show (gz Gb4 : Int) = f + 5 from hz4]
  have hgr5 : gR Gb4 Gn5 1 2 := by rw [hE5]; exact gR.new
  have hkn5 : Unit → (gk Gn5 (f + 5) = 10 ∧ gn Gn5 (f + 5) = (2 : Int)) := fun _ => by rw [hE5, show f + 5 = (gz Gb4 : Int) from hz4.symm]; exact ⟨gnew_gk, gnew_gn⟩
  have hz5 : (gz Gn5 : Int) = f + 6 := by have := hgr5.1; omega
  have hk5 : gk Gn5 f = 12 := (hgr5.2.2.1 f (by omega)).1.trans hk4
  have hzh4 : Unit → (gz Gb4 : Int) = f + 5 := fun _ => hz4
  clear hz4 hk4
  skip
  refine ZE.dup d_Fra_init_34 (Or.inr rfl) ?_
  refine ZE.bipush (n := 8) d_Fra_init_35 rfl ?_
  refine ZE.cI [(0, 8)] [(2, f + 5), (2, f)] [(2, f + 5), (0, 8)] d_Fra_init_37 l_Fra_13 rfl rfl rfl rfl rfl rfl (by omega) ?_
  refine B_init (b := f + 5) (cap := 8) (hz5.trans (by omega)) (by omega) (hkn5 ()).1 (by omega) ((congrFun (upA_at _ _ _) 1).trans rfl) (fun Gb6 A5 hB5 hN5 hgr6 hA5 => ?_)
  show ZE (d + 2) M_Fra_init (gw Gb6 A5) 40 [(2, f)] [(2, f + 5), (2, f)] _
  have hz6 : (gz Gb6 : Int) = f + 7 := by have := hgr6.1; omega
  have hk6 : gk Gb6 f = 12 := (hgr6.2.2.1 f (by omega)).1.trans hk5
  have hzh5 : Unit → (gz Gn5 : Int) = f + 6 := fun _ => hz5
  clear hz5 hk5
  have hl5 : ∀ a : Int, a < f → A5 a = A a := fun a ha => by rw [hA5 a (by omega), upA_ne _ _ (by omega), up2_A, upA_ne _ _ (by omega), hl3 a ha]
  have hf5_0 : Unit → A5 f 0 = f + 1 := fun _ => by rw [hA5 f (by omega), upA_ne _ _ (by omega), up2_ne _ _ (by omega)]; exact hf3_0 ()
  have hn5_0 : bN A5 (f + 1) 0 := (hn3_0).ab (fun a ha => by rw [hA5 a (by omega), upA_ne _ _ (by omega), up2_A, upA_ne _ _ (by omega)])
  have hf5_1 : Unit → A5 f 1 = f + 3 := fun _ => by rw [hA5 f (by omega), upA_ne _ _ (by omega), up2_at]
  have hn5_1 : bN A5 (f + 3) 0 := (hN3).ab (fun a ha => by rw [hA5 a (by omega), upA_ne _ _ (by omega), up2_A, upA_ne _ _ (by omega)])
  refine ZE.put d_Fra_init_40 f_Fra_23 (tg := 2) rfl trivial (Or.inr ⟨⟨_, _, _, rfl, rfl, rfl⟩, rfl⟩) hk6 ?_
  show ZE (d + 2) M_Fra_init (gw Gb6 (up2 A5 f 2 (f + 5))) 43 [(2, f)] [] _
  refine ZE.aload_n d_Fra_init_43 rfl ?_
  refine ZE.new d_Fra_init_44 n_Fra_9 ?_
  rw [gnew_gw, show (gz (gw Gb6 (up2 A5 f 2 (f + 5))) : Int) = f + 7 from hz6]
  obtain ⟨Gn7, hE7⟩ : ∃ H1, H1 = gnew Gb6 10 2 (zInit 0) := ⟨_, rfl⟩
  rw [show gnew Gb6 (10 + 0) 2 (zInit 0) = Gn7 from hE7.symm, show (gz Gb6 : Int) = f + 7 from hz6]
  have hgr7 : gR Gb6 Gn7 1 2 := by rw [hE7]; exact gR.new
  have hkn7 : Unit → (gk Gn7 (f + 7) = 10 ∧ gn Gn7 (f + 7) = (2 : Int)) := fun _ => by rw [hE7, show f + 7 = (gz Gb6 : Int) from hz6.symm]; exact ⟨gnew_gk, gnew_gn⟩
  have hz7 : (gz Gn7 : Int) = f + 8 := by have := hgr7.1; omega
  have hk7 : gk Gn7 f = 12 := (hgr7.2.2.1 f (by omega)).1.trans hk6
  have hzh6 : Unit → (gz Gb6 : Int) = f + 7 := fun _ => hz6
  clear hz6 hk6
  skip
  refine ZE.dup d_Fra_init_47 (Or.inr rfl) ?_
  refine ZE.bipush (n := 8) d_Fra_init_48 rfl ?_
  refine ZE.cI [(0, 8)] [(2, f + 7), (2, f)] [(2, f + 7), (0, 8)] d_Fra_init_50 l_Fra_13 rfl rfl rfl rfl rfl rfl (by omega) ?_
  refine B_init (b := f + 7) (cap := 8) (hz7.trans (by omega)) (by omega) (hkn7 ()).1 (by omega) ((congrFun (upA_at _ _ _) 1).trans rfl) (fun Gb8 A7 hB7 hN7 hgr8 hA7 => ?_)
  show ZE (d + 2) M_Fra_init (gw Gb8 A7) 53 [(2, f)] [(2, f + 7), (2, f)] _
  have hz8 : (gz Gb8 : Int) = f + 9 := by have := hgr8.1; omega
  have hk8 : gk Gb8 f = 12 := (hgr8.2.2.1 f (by omega)).1.trans hk7
  have hzh7 : Unit → (gz Gn7 : Int) = f + 8 := fun _ => hz7
  clear hz7 hk7
  have hl7 : ∀ a : Int, a < f → A7 a = A a := fun a ha => by rw [hA7 a (by omega), upA_ne _ _ (by omega), up2_A, upA_ne _ _ (by omega), hl5 a ha]
  have hf7_0 : Unit → A7 f 0 = f + 1 := fun _ => by rw [hA7 f (by omega), upA_ne _ _ (by omega), up2_ne _ _ (by omega)]; exact hf5_0 ()
  have hn7_0 : bN A7 (f + 1) 0 := (hn5_0).ab (fun a ha => by rw [hA7 a (by omega), upA_ne _ _ (by omega), up2_A, upA_ne _ _ (by omega)])
  have hf7_1 : Unit → A7 f 1 = f + 3 := fun _ => by rw [hA7 f (by omega), upA_ne _ _ (by omega), up2_ne _ _ (by omega)]; exact hf5_1 ()
  have hn7_1 : bN A7 (f + 3) 0 := (hn5_1).ab (fun a ha => by rw [hA7 a (by omega), upA_ne _ _ (by omega), up2_A, upA_ne _ _ (by omega)])
  have hf7_2 : Unit → A7 f 2 = f + 5 := fun _ => by rw [hA7 f (by omega), upA_ne _ _ (by omega), up2_at]
  have hn7_2 : bN A7 (f + 5) 0 := (hN5).ab (fun a ha => by rw [hA7 a (by omega), upA_ne _ _ (by omega), up2_A, upA_ne _ _ (by omega)])
  refine ZE.put d_Fra_init_53 f_Fra_26 (tg := 2) rfl trivial (Or.inr ⟨⟨_, _, _, rfl, rfl, rfl⟩, rfl⟩) hk8 ?_
  show ZE (d + 2) M_Fra_init (gw Gb8 (up2 A7 f 3 (f + 7))) 56 [(2, f)] [] _
  refine ZE.vret d_Fra_init_56 rfl ?_
  obtain ⟨Af, hAf⟩ : ∃ Af, Af = up2 A7 f 3 (f + 7) := ⟨_, rfl⟩
  have hlow : ∀ a : Int, a < f + 9 → a ≠ f → Af a = A7 a := fun a ha hb => by
    rw [hAf]
    simp only [up2_A, upA_ne _ _ (show a ≠ f by omega)]
  have hc0 : Unit → Af f 0 = f + 1 := fun _ => by rw [hAf, up2_ne _ _ (by omega)]; exact hf7_0 ()
  have hm0 : bN Af (f + 1) 0 := hn7_0.ab (fun a ha => hlow a (by omega) (by omega))
  have hc1 : Unit → Af f 1 = f + 3 := fun _ => by rw [hAf, up2_ne _ _ (by omega)]; exact hf7_1 ()
  have hm1 : bN Af (f + 3) 0 := hn7_1.ab (fun a ha => hlow a (by omega) (by omega))
  have hc2 : Unit → Af f 2 = f + 5 := fun _ => by rw [hAf, up2_ne _ _ (by omega)]; exact hf7_2 ()
  have hm2 : bN Af (f + 5) 0 := hn7_2.ab (fun a ha => hlow a (by omega) (by omega))
  have hc3 : Unit → Af f 3 = f + 7 := fun _ => by rw [hAf, up2_at]
  have hm3 : bN Af (f + 7) 0 := hN7.ab (fun a ha => hlow a (by omega) (by omega))
  have hS8 : gR Gb8 Gb8 0 0 := gR.rf
  have hS7 := hgr8.tr hS8
  have hS6 := hgr7.tr hS7
  have hS5 := hgr6.tr hS6
  have hS4 := hgr5.tr hS5
  have hS3 := hgr4.tr hS4
  have hS2 := hgr3.tr hS3
  have hS1 := hgr2.tr hS2
  have hS0 := hgr1.tr hS1
  rw [← hAf]
  exact k Gb8 Af ⟨hk8, h0, hB1.gr hS2 (by have := hzh2 (); omega), hB3.gr hS4 (by have := hzh4 (); omega), hB5.gr hS6 (by have := hzh6 (); omega), hB7⟩ ⟨hc0 (), hc1 (), hc2 (), hc3 (), hm0.1, hm1.1, hm2.1, hm3.1⟩ (fun a ha => (hlow a (by omega) (by omega)).trans (hl7 a ha)) hS0
set_option maxRecDepth 20000 in
set_option maxHeartbeats 4000000 in
theorem w_init {d : Nat} {G : zG} {A : Int → Int → Int} {P : Option zV → zG → Prop} {p : Int} (hz : (gz G : Int) = p + 1) (h0 : 0 ≤ p) (hk : gk G p = 14) {ap : Nat} (k : ∀ G2 A2, wK G2 p → wO A2 p ap → (∀ a : Int, a < p → A2 a = A a) → gR G G2 12 184 → P none (gw G2 A2)) : ZE (d + 2) M_Pow_init (gw G A) 0 [(2, p), (0, (ap : Int))] [] P := by
  refine ZE.aload_n d_Pow_init_0 rfl ?_
  refine ZE.objInit d_Pow_init_1 o_Pow_1 (by omega) (Nat.le_of_ble_eq_true rfl) ?_
  refine ZE.aload_n d_Pow_init_4 rfl ?_
  refine ZE.new d_Pow_init_5 n_Pow_7 ?_
  rw [gnew_gw, show (gz (gw G A) : Int) = p + 1 from hz]
  obtain ⟨Gn1, hE1⟩ : ∃ H1, H1 = gnew G 10 2 (zInit 0) := ⟨_, rfl⟩
  rw [show gnew G (10 + 0) 2 (zInit 0) = Gn1 from hE1.symm, show (gz G : Int) = p + 1 from hz]
  have hgr1 : gR G Gn1 1 2 := by rw [hE1]; exact gR.new
  have hkn1 : Unit → (gk Gn1 (p + 1) = 10 ∧ gn Gn1 (p + 1) = (2 : Int)) := fun _ => by rw [hE1, show p + 1 = (gz G : Int) from hz.symm]; exact ⟨gnew_gk, gnew_gn⟩
  have hz1 : (gz Gn1 : Int) = p + 2 := by have := hgr1.1; omega
  have hk1 : gk Gn1 p = 14 := (hgr1.2.2.1 p (by omega)).1.trans hk
  have hzh0 : Unit → (gz G : Int) = p + 1 := fun _ => hz
  clear hz hk
  skip
  refine ZE.dup d_Pow_init_8 (Or.inr rfl) ?_
  refine ZE.bipush (n := 32) d_Pow_init_9 rfl ?_
  refine ZE.cI [(0, 32)] [(2, p + 1), (2, p)] [(2, p + 1), (0, 32)] d_Pow_init_11 l_Pow_11 rfl rfl rfl rfl rfl rfl (by omega) ?_
  refine B_init (b := p + 1) (cap := 32) (hz1.trans (by omega)) (by omega) (hkn1 ()).1 (by omega) ((congrFun (upA_at _ _ _) 1).trans rfl) (fun Gb2 A1 hB1 hN1 hgr2 hA1 => ?_)
  show ZE (d + 2) M_Pow_init (gw Gb2 A1) 14 [(2, p), (0, (ap : Int))] [(2, p + 1), (2, p)] _
  have hz2 : (gz Gb2 : Int) = p + 3 := by have := hgr2.1; omega
  have hk2 : gk Gb2 p = 14 := (hgr2.2.2.1 p (by omega)).1.trans hk1
  have hzh1 : Unit → (gz Gn1 : Int) = p + 2 := fun _ => hz1
  clear hz1 hk1
  have hl1 : ∀ a : Int, a < p → A1 a = A a := fun a ha => by rw [hA1 a (by omega), upA_ne _ _ (by omega)]
  refine ZE.put d_Pow_init_14 f_Pow_14 (tg := 2) rfl trivial (Or.inr ⟨⟨_, _, _, rfl, rfl, rfl⟩, rfl⟩) hk2 ?_
  show ZE (d + 2) M_Pow_init (gw Gb2 (up2 A1 p 0 (p + 1))) 17 [(2, p), (0, (ap : Int))] [] _
  refine ZE.aload_n d_Pow_init_17 rfl ?_
  refine ZE.new d_Pow_init_18 n_Pow_7 ?_
  rw [gnew_gw, show (gz (gw Gb2 (up2 A1 p 0 (p + 1))) : Int) = p + 3 from hz2]
  obtain ⟨Gn3, hE3⟩ : ∃ H1, H1 = gnew Gb2 10 2 (zInit 0) := ⟨_, rfl⟩
  rw [show gnew Gb2 (10 + 0) 2 (zInit 0) = Gn3 from hE3.symm, show (gz Gb2 : Int) = p + 3 from hz2]
  have hgr3 : gR Gb2 Gn3 1 2 := by rw [hE3]; exact gR.new
  have hkn3 : Unit → (gk Gn3 (p + 3) = 10 ∧ gn Gn3 (p + 3) = (2 : Int)) := fun _ => by rw [hE3, show p + 3 = (gz Gb2 : Int) from hz2.symm]; exact ⟨gnew_gk, gnew_gn⟩
  have hz3 : (gz Gn3 : Int) = p + 4 := by have := hgr3.1; omega
  have hk3 : gk Gn3 p = 14 := (hgr3.2.2.1 p (by omega)).1.trans hk2
  have hzh2 : Unit → (gz Gb2 : Int) = p + 3 := fun _ => hz2
  clear hz2 hk2
  skip
  refine ZE.dup d_Pow_init_21 (Or.inr rfl) ?_
  refine ZE.bipush (n := 32) d_Pow_init_22 rfl ?_
  refine ZE.cI [(0, 32)] [(2, p + 3), (2, p)] [(2, p + 3), (0, 32)] d_Pow_init_24 l_Pow_11 rfl rfl rfl rfl rfl rfl (by omega) ?_
  refine B_init (b := p + 3) (cap := 32) (hz3.trans (by omega)) (by omega) (hkn3 ()).1 (by omega) ((congrFun (upA_at _ _ _) 1).trans rfl) (fun Gb4 A3 hB3 hN3 hgr4 hA3 => ?_)
  show ZE (d + 2) M_Pow_init (gw Gb4 A3) 27 [(2, p), (0, (ap : Int))] [(2, p + 3), (2, p)] _
  have hz4 : (gz Gb4 : Int) = p + 5 := by have := hgr4.1; omega
  have hk4 : gk Gb4 p = 14 := (hgr4.2.2.1 p (by omega)).1.trans hk3
  have hzh3 : Unit → (gz Gn3 : Int) = p + 4 := fun _ => hz3
  clear hz3 hk3
  have hl3 : ∀ a : Int, a < p → A3 a = A a := fun a ha => by rw [hA3 a (by omega), upA_ne _ _ (by omega), up2_A, upA_ne _ _ (by omega), hl1 a ha]
  have hf3_0 : Unit → A3 p 0 = p + 1 := fun _ => by rw [hA3 p (by omega), upA_ne _ _ (by omega), up2_at]
  have hn3_0 : bN A3 (p + 1) 0 := (hN1).ab (fun a ha => by rw [hA3 a (by omega), upA_ne _ _ (by omega), up2_A, upA_ne _ _ (by omega)])
  refine ZE.put d_Pow_init_27 f_Pow_18 (tg := 2) rfl trivial (Or.inr ⟨⟨_, _, _, rfl, rfl, rfl⟩, rfl⟩) hk4 ?_
  show ZE (d + 2) M_Pow_init (gw Gb4 (up2 A3 p 1 (p + 3))) 30 [(2, p), (0, (ap : Int))] [] _
  refine ZE.aload_n d_Pow_init_30 rfl ?_
  refine ZE.new d_Pow_init_31 n_Pow_7 ?_
  rw [gnew_gw, show (gz (gw Gb4 (up2 A3 p 1 (p + 3))) : Int) = p + 5 from hz4]
  obtain ⟨Gn5, hE5⟩ : ∃ H1, H1 = gnew Gb4 10 2 (zInit 0) := ⟨_, rfl⟩
  rw [show gnew Gb4 (10 + 0) 2 (zInit 0) = Gn5 from hE5.symm, show (gz Gb4 : Int) = p + 5 from hz4]
  have hgr5 : gR Gb4 Gn5 1 2 := by rw [hE5]; exact gR.new
  have hkn5 : Unit → (gk Gn5 (p + 5) = 10 ∧ gn Gn5 (p + 5) = (2 : Int)) := fun _ => by rw [hE5, show p + 5 = (gz Gb4 : Int) from hz4.symm]; exact ⟨gnew_gk, gnew_gn⟩
  have hz5 : (gz Gn5 : Int) = p + 6 := by have := hgr5.1; omega
  have hk5 : gk Gn5 p = 14 := (hgr5.2.2.1 p (by omega)).1.trans hk4
  have hzh4 : Unit → (gz Gb4 : Int) = p + 5 := fun _ => hz4
  clear hz4 hk4
  skip
  refine ZE.dup d_Pow_init_34 (Or.inr rfl) ?_
  refine ZE.bipush (n := 32) d_Pow_init_35 rfl ?_
  refine ZE.cI [(0, 32)] [(2, p + 5), (2, p)] [(2, p + 5), (0, 32)] d_Pow_init_37 l_Pow_11 rfl rfl rfl rfl rfl rfl (by omega) ?_
  refine B_init (b := p + 5) (cap := 32) (hz5.trans (by omega)) (by omega) (hkn5 ()).1 (by omega) ((congrFun (upA_at _ _ _) 1).trans rfl) (fun Gb6 A5 hB5 hN5 hgr6 hA5 => ?_)
  show ZE (d + 2) M_Pow_init (gw Gb6 A5) 40 [(2, p), (0, (ap : Int))] [(2, p + 5), (2, p)] _
  have hz6 : (gz Gb6 : Int) = p + 7 := by have := hgr6.1; omega
  have hk6 : gk Gb6 p = 14 := (hgr6.2.2.1 p (by omega)).1.trans hk5
  have hzh5 : Unit → (gz Gn5 : Int) = p + 6 := fun _ => hz5
  clear hz5 hk5
  have hl5 : ∀ a : Int, a < p → A5 a = A a := fun a ha => by rw [hA5 a (by omega), upA_ne _ _ (by omega), up2_A, upA_ne _ _ (by omega), hl3 a ha]
  have hf5_0 : Unit → A5 p 0 = p + 1 := fun _ => by rw [hA5 p (by omega), upA_ne _ _ (by omega), up2_ne _ _ (by omega)]; exact hf3_0 ()
  have hn5_0 : bN A5 (p + 1) 0 := (hn3_0).ab (fun a ha => by rw [hA5 a (by omega), upA_ne _ _ (by omega), up2_A, upA_ne _ _ (by omega)])
  have hf5_1 : Unit → A5 p 1 = p + 3 := fun _ => by rw [hA5 p (by omega), upA_ne _ _ (by omega), up2_at]
  have hn5_1 : bN A5 (p + 3) 0 := (hN3).ab (fun a ha => by rw [hA5 a (by omega), upA_ne _ _ (by omega), up2_A, upA_ne _ _ (by omega)])
  refine ZE.put d_Pow_init_40 f_Pow_21 (tg := 2) rfl trivial (Or.inr ⟨⟨_, _, _, rfl, rfl, rfl⟩, rfl⟩) hk6 ?_
  show ZE (d + 2) M_Pow_init (gw Gb6 (up2 A5 p 2 (p + 5))) 43 [(2, p), (0, (ap : Int))] [] _
  refine ZE.aload_n d_Pow_init_43 rfl ?_
  refine ZE.new d_Pow_init_44 n_Pow_7 ?_
  rw [gnew_gw, show (gz (gw Gb6 (up2 A5 p 2 (p + 5))) : Int) = p + 7 from hz6]
  obtain ⟨Gn7, hE7⟩ : ∃ H1, H1 = gnew Gb6 10 2 (zInit 0) := ⟨_, rfl⟩
  rw [show gnew Gb6 (10 + 0) 2 (zInit 0) = Gn7 from hE7.symm, show (gz Gb6 : Int) = p + 7 from hz6]
  have hgr7 : gR Gb6 Gn7 1 2 := by rw [hE7]; exact gR.new
  have hkn7 : Unit → (gk Gn7 (p + 7) = 10 ∧ gn Gn7 (p + 7) = (2 : Int)) := fun _ => by rw [hE7, show p + 7 = (gz Gb6 : Int) from hz6.symm]; exact ⟨gnew_gk, gnew_gn⟩
  have hz7 : (gz Gn7 : Int) = p + 8 := by have := hgr7.1; omega
  have hk7 : gk Gn7 p = 14 := (hgr7.2.2.1 p (by omega)).1.trans hk6
  have hzh6 : Unit → (gz Gb6 : Int) = p + 7 := fun _ => hz6
  clear hz6 hk6
  skip
  refine ZE.dup d_Pow_init_47 (Or.inr rfl) ?_
  refine ZE.bipush (n := 32) d_Pow_init_48 rfl ?_
  refine ZE.cI [(0, 32)] [(2, p + 7), (2, p)] [(2, p + 7), (0, 32)] d_Pow_init_50 l_Pow_11 rfl rfl rfl rfl rfl rfl (by omega) ?_
  refine B_init (b := p + 7) (cap := 32) (hz7.trans (by omega)) (by omega) (hkn7 ()).1 (by omega) ((congrFun (upA_at _ _ _) 1).trans rfl) (fun Gb8 A7 hB7 hN7 hgr8 hA7 => ?_)
  show ZE (d + 2) M_Pow_init (gw Gb8 A7) 53 [(2, p), (0, (ap : Int))] [(2, p + 7), (2, p)] _
  have hz8 : (gz Gb8 : Int) = p + 9 := by have := hgr8.1; omega
  have hk8 : gk Gb8 p = 14 := (hgr8.2.2.1 p (by omega)).1.trans hk7
  have hzh7 : Unit → (gz Gn7 : Int) = p + 8 := fun _ => hz7
  clear hz7 hk7
  have hl7 : ∀ a : Int, a < p → A7 a = A a := fun a ha => by rw [hA7 a (by omega), upA_ne _ _ (by omega), up2_A, upA_ne _ _ (by omega), hl5 a ha]
  have hf7_0 : Unit → A7 p 0 = p + 1 := fun _ => by rw [hA7 p (by omega), upA_ne _ _ (by omega), up2_ne _ _ (by omega)]; exact hf5_0 ()
  have hn7_0 : bN A7 (p + 1) 0 := (hn5_0).ab (fun a ha => by rw [hA7 a (by omega), upA_ne _ _ (by omega), up2_A, upA_ne _ _ (by omega)])
  have hf7_1 : Unit → A7 p 1 = p + 3 := fun _ => by rw [hA7 p (by omega), upA_ne _ _ (by omega), up2_ne _ _ (by omega)]; exact hf5_1 ()
  have hn7_1 : bN A7 (p + 3) 0 := (hn5_1).ab (fun a ha => by rw [hA7 a (by omega), upA_ne _ _ (by omega), up2_A, upA_ne _ _ (by omega)])
  have hf7_2 : Unit → A7 p 2 = p + 5 := fun _ => by rw [hA7 p (by omega), upA_ne _ _ (by omega), up2_at]
  have hn7_2 : bN A7 (p + 5) 0 := (hN5).ab (fun a ha => by rw [hA7 a (by omega), upA_ne _ _ (by omega), up2_A, upA_ne _ _ (by omega)])
  refine ZE.put d_Pow_init_53 f_Pow_24 (tg := 2) rfl trivial (Or.inr ⟨⟨_, _, _, rfl, rfl, rfl⟩, rfl⟩) hk8 ?_
  show ZE (d + 2) M_Pow_init (gw Gb8 (up2 A7 p 3 (p + 7))) 56 [(2, p), (0, (ap : Int))] [] _
  refine ZE.aload_n d_Pow_init_56 rfl ?_
  refine ZE.new d_Pow_init_57 n_Pow_7 ?_
  rw [gnew_gw, show (gz (gw Gb8 (up2 A7 p 3 (p + 7))) : Int) = p + 9 from hz8]
  obtain ⟨Gn9, hE9⟩ : ∃ H1, H1 = gnew Gb8 10 2 (zInit 0) := ⟨_, rfl⟩
  rw [show gnew Gb8 (10 + 0) 2 (zInit 0) = Gn9 from hE9.symm, show (gz Gb8 : Int) = p + 9 from hz8]
  have hgr9 : gR Gb8 Gn9 1 2 := by rw [hE9]; exact gR.new
  have hkn9 : Unit → (gk Gn9 (p + 9) = 10 ∧ gn Gn9 (p + 9) = (2 : Int)) := fun _ => by rw [hE9, show p + 9 = (gz Gb8 : Int) from hz8.symm]; exact ⟨gnew_gk, gnew_gn⟩
  have hz9 : (gz Gn9 : Int) = p + 10 := by have := hgr9.1; omega
  have hk9 : gk Gn9 p = 14 := (hgr9.2.2.1 p (by omega)).1.trans hk8
  have hzh8 : Unit → (gz Gb8 : Int) = p + 9 := fun _ => hz8
  clear hz8 hk8
  skip
  refine ZE.dup d_Pow_init_60 (Or.inr rfl) ?_
  refine ZE.bipush (n := 32) d_Pow_init_61 rfl ?_
  refine ZE.cI [(0, 32)] [(2, p + 9), (2, p)] [(2, p + 9), (0, 32)] d_Pow_init_63 l_Pow_11 rfl rfl rfl rfl rfl rfl (by omega) ?_
  refine B_init (b := p + 9) (cap := 32) (hz9.trans (by omega)) (by omega) (hkn9 ()).1 (by omega) ((congrFun (upA_at _ _ _) 1).trans rfl) (fun Gb10 A9 hB9 hN9 hgr10 hA9 => ?_)
  show ZE (d + 2) M_Pow_init (gw Gb10 A9) 66 [(2, p), (0, (ap : Int))] [(2, p + 9), (2, p)] _
  have hz10 : (gz Gb10 : Int) = p + 11 := by have := hgr10.1; omega
  have hk10 : gk Gb10 p = 14 := (hgr10.2.2.1 p (by omega)).1.trans hk9
  have hzh9 : Unit → (gz Gn9 : Int) = p + 10 := fun _ => hz9
  clear hz9 hk9
  have hl9 : ∀ a : Int, a < p → A9 a = A a := fun a ha => by rw [hA9 a (by omega), upA_ne _ _ (by omega), up2_A, upA_ne _ _ (by omega), hl7 a ha]
  have hf9_0 : Unit → A9 p 0 = p + 1 := fun _ => by rw [hA9 p (by omega), upA_ne _ _ (by omega), up2_ne _ _ (by omega)]; exact hf7_0 ()
  have hn9_0 : bN A9 (p + 1) 0 := (hn7_0).ab (fun a ha => by rw [hA9 a (by omega), upA_ne _ _ (by omega), up2_A, upA_ne _ _ (by omega)])
  have hf9_1 : Unit → A9 p 1 = p + 3 := fun _ => by rw [hA9 p (by omega), upA_ne _ _ (by omega), up2_ne _ _ (by omega)]; exact hf7_1 ()
  have hn9_1 : bN A9 (p + 3) 0 := (hn7_1).ab (fun a ha => by rw [hA9 a (by omega), upA_ne _ _ (by omega), up2_A, upA_ne _ _ (by omega)])
  have hf9_2 : Unit → A9 p 2 = p + 5 := fun _ => by rw [hA9 p (by omega), upA_ne _ _ (by omega), up2_ne _ _ (by omega)]; exact hf7_2 ()
  have hn9_2 : bN A9 (p + 5) 0 := (hn7_2).ab (fun a ha => by rw [hA9 a (by omega), upA_ne _ _ (by omega), up2_A, upA_ne _ _ (by omega)])
  have hf9_3 : Unit → A9 p 3 = p + 7 := fun _ => by rw [hA9 p (by omega), upA_ne _ _ (by omega), up2_at]
  have hn9_3 : bN A9 (p + 7) 0 := (hN7).ab (fun a ha => by rw [hA9 a (by omega), upA_ne _ _ (by omega), up2_A, upA_ne _ _ (by omega)])
  refine ZE.put d_Pow_init_66 f_Pow_27 (tg := 2) rfl trivial (Or.inr ⟨⟨_, _, _, rfl, rfl, rfl⟩, rfl⟩) hk10 ?_
  show ZE (d + 2) M_Pow_init (gw Gb10 (up2 A9 p 4 (p + 9))) 69 [(2, p), (0, (ap : Int))] [] _
  refine ZE.aload_n d_Pow_init_69 rfl ?_
  refine ZE.bipush (n := 7) d_Pow_init_70 rfl ?_
  refine ZE.newI (n := 7) d_Pow_init_72 rfl (by omega) ?_
  rw [gnew_gw, show (gz (gw Gb10 (up2 A9 p 4 (p + 9))) : Int) = p + 11 from hz10]
  obtain ⟨Gn11, hE11⟩ : ∃ H1, H1 = gnew Gb10 1 7 (fun _ => 0) := ⟨_, rfl⟩
  rw [show gnew Gb10 1 7 (fun _ => 0) = Gn11 from hE11.symm, show (gz Gb10 : Int) = p + 11 from hz10]
  have hgr11 : gR Gb10 Gn11 1 7 := by rw [hE11]; exact gR.new
  have hkn11 : Unit → (gk Gn11 (p + 11) = 1 ∧ gn Gn11 (p + 11) = (7 : Int)) := fun _ => by rw [hE11, show p + 11 = (gz Gb10 : Int) from hz10.symm]; exact ⟨gnew_gk, gnew_gn⟩
  have hz11 : (gz Gn11 : Int) = p + 12 := by have := hgr11.1; omega
  have hk11 : gk Gn11 p = 14 := (hgr11.2.2.1 p (by omega)).1.trans hk10
  have hzh10 : Unit → (gz Gb10 : Int) = p + 11 := fun _ => hz10
  clear hz10 hk10
  skip
  refine ZE.put d_Pow_init_74 f_Pow_32 (tg := 2) rfl trivial (Or.inr ⟨⟨_, _, _, rfl, rfl, rfl⟩, rfl⟩) hk11 ?_
  show ZE (d + 2) M_Pow_init (gw Gn11 (up2 (upA (up2 A9 p 4 (p + 9)) (p + 11) (fun _ => 0)) p 5 (p + 11))) 77 [(2, p), (0, (ap : Int))] [] _
  refine ZE.aload_n d_Pow_init_77 rfl ?_
  refine ZE.bipush (n := 7) d_Pow_init_78 rfl ?_
  refine ZE.newI (n := 7) d_Pow_init_80 rfl (by omega) ?_
  rw [gnew_gw, show (gz (gw Gn11 (up2 (upA (up2 A9 p 4 (p + 9)) (p + 11) (fun _ => 0)) p 5 (p + 11))) : Int) = p + 12 from hz11]
  obtain ⟨Gn12, hE12⟩ : ∃ H1, H1 = gnew Gn11 1 7 (fun _ => 0) := ⟨_, rfl⟩
  rw [show gnew Gn11 1 7 (fun _ => 0) = Gn12 from hE12.symm, show (gz Gn11 : Int) = p + 12 from hz11]
  have hgr12 : gR Gn11 Gn12 1 7 := by rw [hE12]; exact gR.new
  have hkn12 : Unit → (gk Gn12 (p + 12) = 1 ∧ gn Gn12 (p + 12) = (7 : Int)) := fun _ => by rw [hE12, show p + 12 = (gz Gn11 : Int) from hz11.symm]; exact ⟨gnew_gk, gnew_gn⟩
  have hz12 : (gz Gn12 : Int) = p + 13 := by have := hgr12.1; omega
  have hk12 : gk Gn12 p = 14 := (hgr12.2.2.1 p (by omega)).1.trans hk11
  have hzh11 : Unit → (gz Gn11 : Int) = p + 12 := fun _ => hz11
  clear hz11 hk11
  skip
  refine ZE.put d_Pow_init_82 f_Pow_36 (tg := 2) rfl trivial (Or.inr ⟨⟨_, _, _, rfl, rfl, rfl⟩, rfl⟩) hk12 ?_
  show ZE (d + 2) M_Pow_init (gw Gn12 (up2 (upA (up2 (upA (up2 A9 p 4 (p + 9)) (p + 11) (fun _ => 0)) p 5 (p + 11)) (p + 12) (fun _ => 0)) p 6 (p + 12))) 85 [(2, p), (0, (ap : Int))] [] _
  refine ZE.aload_n d_Pow_init_85 rfl ?_
  refine ZE.iload_n d_Pow_init_86 rfl ?_
  refine ZE.put d_Pow_init_87 f_Pow_39 (tg := 0) rfl trivial (Or.inr ⟨⟨_, _, _, rfl, rfl, rfl⟩, rfl⟩) hk12 ?_
  show ZE (d + 2) M_Pow_init (gw Gn12 (up2 (up2 (upA (up2 (upA (up2 A9 p 4 (p + 9)) (p + 11) (fun _ => 0)) p 5 (p + 11)) (p + 12) (fun _ => 0)) p 6 (p + 12)) p 7 (ap : Int))) 90 [(2, p), (0, (ap : Int))] [] _
  refine ZE.vret d_Pow_init_90 rfl ?_
  obtain ⟨Af, hAf⟩ : ∃ Af, Af = up2 (up2 (upA (up2 (upA (up2 A9 p 4 (p + 9)) (p + 11) (fun _ => 0)) p 5 (p + 11)) (p + 12) (fun _ => 0)) p 6 (p + 12)) p 7 (ap : Int) := ⟨_, rfl⟩
  have hlow : ∀ a : Int, a < p + 11 → a ≠ p → Af a = A9 a := fun a ha hb => by
    rw [hAf]
    simp only [up2_A, upA_ne _ _ (show a ≠ p by omega), upA_ne _ _ (show a ≠ p + 11 by omega), upA_ne _ _ (show a ≠ p + 12 by omega)]
  have hc0 : Unit → Af p 0 = p + 1 := fun _ => by
    rw [hAf]
    simp only [up2_A, upA_at, upA_ne _ _ (show p ≠ p + 11 by omega), upA_ne _ _ (show p ≠ p + 12 by omega), up1_ne _ _ (show (0 : Int) ≠ 7 by omega), up1_ne _ _ (show (0 : Int) ≠ 6 by omega), up1_ne _ _ (show (0 : Int) ≠ 5 by omega), up1_ne _ _ (show (0 : Int) ≠ 4 by omega)]
    exact hf9_0 ()
  have hc1 : Unit → Af p 1 = p + 3 := fun _ => by
    rw [hAf]
    simp only [up2_A, upA_at, upA_ne _ _ (show p ≠ p + 11 by omega), upA_ne _ _ (show p ≠ p + 12 by omega), up1_ne _ _ (show (1 : Int) ≠ 7 by omega), up1_ne _ _ (show (1 : Int) ≠ 6 by omega), up1_ne _ _ (show (1 : Int) ≠ 5 by omega), up1_ne _ _ (show (1 : Int) ≠ 4 by omega)]
    exact hf9_1 ()
  have hc2 : Unit → Af p 2 = p + 5 := fun _ => by
    rw [hAf]
    simp only [up2_A, upA_at, upA_ne _ _ (show p ≠ p + 11 by omega), upA_ne _ _ (show p ≠ p + 12 by omega), up1_ne _ _ (show (2 : Int) ≠ 7 by omega), up1_ne _ _ (show (2 : Int) ≠ 6 by omega), up1_ne _ _ (show (2 : Int) ≠ 5 by omega), up1_ne _ _ (show (2 : Int) ≠ 4 by omega)]
    exact hf9_2 ()
  have hc3 : Unit → Af p 3 = p + 7 := fun _ => by
    rw [hAf]
    simp only [up2_A, upA_at, upA_ne _ _ (show p ≠ p + 11 by omega), upA_ne _ _ (show p ≠ p + 12 by omega), up1_ne _ _ (show (3 : Int) ≠ 7 by omega), up1_ne _ _ (show (3 : Int) ≠ 6 by omega), up1_ne _ _ (show (3 : Int) ≠ 5 by omega), up1_ne _ _ (show (3 : Int) ≠ 4 by omega)]
    exact hf9_3 ()
  have hc4 : Unit → Af p 4 = p + 9 := fun _ => by
    rw [hAf]
    simp only [up2_A, upA_at, upA_ne _ _ (show p ≠ p + 11 by omega), upA_ne _ _ (show p ≠ p + 12 by omega), up1_ne _ _ (show (4 : Int) ≠ 7 by omega), up1_ne _ _ (show (4 : Int) ≠ 6 by omega), up1_ne _ _ (show (4 : Int) ≠ 5 by omega)]
    exact up1_at _ _ _
  have hc5 : Unit → Af p 5 = p + 11 := fun _ => by
    rw [hAf]
    simp only [up2_A, upA_at, upA_ne _ _ (show p ≠ p + 11 by omega), upA_ne _ _ (show p ≠ p + 12 by omega), up1_ne _ _ (show (5 : Int) ≠ 7 by omega), up1_ne _ _ (show (5 : Int) ≠ 6 by omega)]
    exact up1_at _ _ _
  have hc6 : Unit → Af p 6 = p + 12 := fun _ => by
    rw [hAf]
    simp only [up2_A, upA_at, upA_ne _ _ (show p ≠ p + 11 by omega), upA_ne _ _ (show p ≠ p + 12 by omega), up1_ne _ _ (show (6 : Int) ≠ 7 by omega)]
    exact up1_at _ _ _
  have hc7 : Unit → Af p 7 = (ap : Int) := fun _ => by
    rw [hAf]
    simp only [up2_A, upA_at, upA_ne _ _ (show p ≠ p + 11 by omega), upA_ne _ _ (show p ≠ p + 12 by omega)]
    exact up1_at _ _ _
  have hm0 : bN Af (p + 1) 0 := hn9_0.ab (fun a ha => hlow a (by omega) (by omega))
  have hm1 : bN Af (p + 3) 0 := hn9_1.ab (fun a ha => hlow a (by omega) (by omega))
  have hm2 : bN Af (p + 5) 0 := hn9_2.ab (fun a ha => hlow a (by omega) (by omega))
  have hm3 : bN Af (p + 7) 0 := hn9_3.ab (fun a ha => hlow a (by omega) (by omega))
  have hm4 : bN Af (p + 9) 0 := hN9.ab (fun a ha => hlow a (by omega) (by omega))
  have hS12 : gR Gn12 Gn12 0 0 := gR.rf
  have hS11 := hgr12.tr hS12
  have hS10 := hgr11.tr hS11
  have hS9 := hgr10.tr hS10
  have hS8 := hgr9.tr hS9
  have hS7 := hgr8.tr hS8
  have hS6 := hgr7.tr hS7
  have hS5 := hgr6.tr hS6
  have hS4 := hgr5.tr hS5
  have hS3 := hgr4.tr hS4
  have hS2 := hgr3.tr hS3
  have hS1 := hgr2.tr hS2
  have hS0 := hgr1.tr hS1
  have hrw11 : Unit → gk Gn12 (p + 11) = 1 ∧ gn Gn12 (p + 11) = 7 := fun _ => by have := hzh11 (); exact ⟨(hS11.2.2.1 (p + 11) (by omega)).1.trans (hkn11 ()).1, (hS11.2.2.1 (p + 11) (by omega)).2.trans (hkn11 ()).2⟩
  have hrw12 : Unit → gk Gn12 (p + 12) = 1 ∧ gn Gn12 (p + 12) = 7 := fun _ => by skip; exact ⟨(hS12.2.2.1 (p + 12) (by omega)).1.trans (hkn12 ()).1, (hS12.2.2.1 (p + 12) (by omega)).2.trans (hkn12 ()).2⟩
  rw [← hAf]
  exact k Gn12 Af ⟨hk12, h0, hB1.gr hS2 (by have := hzh2 (); omega), hB3.gr hS4 (by have := hzh4 (); omega), hB5.gr hS6 (by have := hzh6 (); omega), hB7.gr hS8 (by have := hzh8 (); omega), hB9.gr hS10 (by have := hzh10 (); omega), hrw11 (), hrw12 ()⟩ ⟨hc0 (), hc1 (), hc2 (), hc3 (), hc4 (), hc5 (), hc6 (), hc7 (), hm0.1, hm1.1, hm2.1, hm3.1, hm4.1⟩ (fun a ha => (hlow a (by omega) (by omega)).trans (hl9 a ha)) hS0
