set_option maxRecDepth 20000 in
set_option maxHeartbeats 4000000 in
theorem m_init {d : Nat} {G : zG} {A : Int → Int → Int} {P : Option zV → zG → Prop} {h : Int} (hz : (gz G : Int) = h + 1) (h0 : 0 ≤ h) (hk : gk G h = 17) (k : ∀ G2 A2, mK G2 h → mF A2 h → A2 h 6 = -1 → (∀ a : Int, a < h → A2 a = A a) → gR G G2 5 9209 → P none (gw G2 A2)) : ZE (d + 1) M_Smo_init (gw G A) 0 [(2, h)] [] P := by
  refine ZE.aload_n d_Smo_init_0 rfl ?_
  refine ZE.objInit d_Smo_init_1 o_Smo_3 (by omega) (Nat.le_of_ble_eq_true rfl) ?_
  refine ZE.aload_n d_Smo_init_4 rfl ?_
  refine ZE.sipush (n := 1600) d_Smo_init_5 rfl ?_
  refine ZE.newI (n := 1600) d_Smo_init_8 rfl (by omega) ?_
  rw [gnew_gw, show (gz (gw G A) : Int) = h + 1 from hz]
  obtain ⟨Gn1, hE1⟩ : ∃ H1, H1 = gnew G 1 1600 (fun _ => 0) := ⟨_, rfl⟩
  rw [show gnew G 1 1600 (fun _ => 0) = Gn1 from hE1.symm, show (gz G : Int) = h + 1 from hz]
  have hgr1 : gR G Gn1 1 1600 := by rw [hE1]; exact gR.new
  have hkn1 : Unit → (gk Gn1 (h + 1) = 1 ∧ gn Gn1 (h + 1) = (1600 : Int)) := fun _ => by rw [hE1, show h + 1 = (gz G : Int) from hz.symm]; exact ⟨gnew_gk, gnew_gn⟩
  have hz1 : (gz Gn1 : Int) = h + 2 := by have := hgr1.1; omega
  have hk1 : gk Gn1 h = 17 := (hgr1.2.2.1 h (by omega)).1.trans hk
  have hzh0 : Unit → (gz G : Int) = h + 1 := fun _ => hz
  clear hz hk
  skip
  refine ZE.put d_Smo_init_10 f_Smo_11 (tg := 2) rfl trivial (Or.inr ⟨⟨_, _, _, rfl, rfl, rfl⟩, rfl⟩) hk1 ?_
  show ZE (d + 1) M_Smo_init (gw Gn1 (up2 (upA A (h + 1) (fun _ => 0)) h 0 (h + 1))) 13 [(2, h)] [] _
  refine ZE.aload_n d_Smo_init_13 rfl ?_
  refine ZE.sipush (n := 1600) d_Smo_init_14 rfl ?_
  refine ZE.newI (n := 1600) d_Smo_init_17 rfl (by omega) ?_
  rw [gnew_gw, show (gz (gw Gn1 (up2 (upA A (h + 1) (fun _ => 0)) h 0 (h + 1))) : Int) = h + 2 from hz1]
  obtain ⟨Gn2, hE2⟩ : ∃ H1, H1 = gnew Gn1 1 1600 (fun _ => 0) := ⟨_, rfl⟩
  rw [show gnew Gn1 1 1600 (fun _ => 0) = Gn2 from hE2.symm, show (gz Gn1 : Int) = h + 2 from hz1]
  have hgr2 : gR Gn1 Gn2 1 1600 := by rw [hE2]; exact gR.new
  have hkn2 : Unit → (gk Gn2 (h + 2) = 1 ∧ gn Gn2 (h + 2) = (1600 : Int)) := fun _ => by rw [hE2, show h + 2 = (gz Gn1 : Int) from hz1.symm]; exact ⟨gnew_gk, gnew_gn⟩
  have hz2 : (gz Gn2 : Int) = h + 3 := by have := hgr2.1; omega
  have hk2 : gk Gn2 h = 17 := (hgr2.2.2.1 h (by omega)).1.trans hk1
  have hzh1 : Unit → (gz Gn1 : Int) = h + 2 := fun _ => hz1
  clear hz1 hk1
  skip
  refine ZE.put d_Smo_init_19 f_Smo_15 (tg := 2) rfl trivial (Or.inr ⟨⟨_, _, _, rfl, rfl, rfl⟩, rfl⟩) hk2 ?_
  show ZE (d + 1) M_Smo_init (gw Gn2 (up2 (upA (up2 (upA A (h + 1) (fun _ => 0)) h 0 (h + 1)) (h + 2) (fun _ => 0)) h 1 (h + 2))) 22 [(2, h)] [] _
  refine ZE.aload_n d_Smo_init_22 rfl ?_
  refine ZE.bipush (n := 7) d_Smo_init_23 rfl ?_
  refine ZE.newI (n := 7) d_Smo_init_25 rfl (by omega) ?_
  rw [gnew_gw, show (gz (gw Gn2 (up2 (upA (up2 (upA A (h + 1) (fun _ => 0)) h 0 (h + 1)) (h + 2) (fun _ => 0)) h 1 (h + 2))) : Int) = h + 3 from hz2]
  obtain ⟨Gn3, hE3⟩ : ∃ H1, H1 = gnew Gn2 1 7 (fun _ => 0) := ⟨_, rfl⟩
  rw [show gnew Gn2 1 7 (fun _ => 0) = Gn3 from hE3.symm, show (gz Gn2 : Int) = h + 3 from hz2]
  have hgr3 : gR Gn2 Gn3 1 7 := by rw [hE3]; exact gR.new
  have hkn3 : Unit → (gk Gn3 (h + 3) = 1 ∧ gn Gn3 (h + 3) = (7 : Int)) := fun _ => by rw [hE3, show h + 3 = (gz Gn2 : Int) from hz2.symm]; exact ⟨gnew_gk, gnew_gn⟩
  have hz3 : (gz Gn3 : Int) = h + 4 := by have := hgr3.1; omega
  have hk3 : gk Gn3 h = 17 := (hgr3.2.2.1 h (by omega)).1.trans hk2
  have hzh2 : Unit → (gz Gn2 : Int) = h + 3 := fun _ => hz2
  clear hz2 hk2
  skip
  refine ZE.put d_Smo_init_27 f_Smo_20 (tg := 2) rfl trivial (Or.inr ⟨⟨_, _, _, rfl, rfl, rfl⟩, rfl⟩) hk3 ?_
  show ZE (d + 1) M_Smo_init (gw Gn3 (up2 (upA (up2 (upA (up2 (upA A (h + 1) (fun _ => 0)) h 0 (h + 1)) (h + 2) (fun _ => 0)) h 1 (h + 2)) (h + 3) (fun _ => 0)) h 2 (h + 3))) 30 [(2, h)] [] _
  refine ZE.aload_n d_Smo_init_30 rfl ?_
  refine ZE.sipush (n := 3001) d_Smo_init_31 rfl ?_
  refine ZE.newI (n := 3001) d_Smo_init_34 rfl (by omega) ?_
  rw [gnew_gw, show (gz (gw Gn3 (up2 (upA (up2 (upA (up2 (upA A (h + 1) (fun _ => 0)) h 0 (h + 1)) (h + 2) (fun _ => 0)) h 1 (h + 2)) (h + 3) (fun _ => 0)) h 2 (h + 3))) : Int) = h + 4 from hz3]
  obtain ⟨Gn4, hE4⟩ : ∃ H1, H1 = gnew Gn3 1 3001 (fun _ => 0) := ⟨_, rfl⟩
  rw [show gnew Gn3 1 3001 (fun _ => 0) = Gn4 from hE4.symm, show (gz Gn3 : Int) = h + 4 from hz3]
  have hgr4 : gR Gn3 Gn4 1 3001 := by rw [hE4]; exact gR.new
  have hkn4 : Unit → (gk Gn4 (h + 4) = 1 ∧ gn Gn4 (h + 4) = (3001 : Int)) := fun _ => by rw [hE4, show h + 4 = (gz Gn3 : Int) from hz3.symm]; exact ⟨gnew_gk, gnew_gn⟩
  have hz4 : (gz Gn4 : Int) = h + 5 := by have := hgr4.1; omega
  have hk4 : gk Gn4 h = 17 := (hgr4.2.2.1 h (by omega)).1.trans hk3
  have hzh3 : Unit → (gz Gn3 : Int) = h + 4 := fun _ => hz3
  clear hz3 hk3
  skip
  refine ZE.put d_Smo_init_36 f_Smo_23 (tg := 2) rfl trivial (Or.inr ⟨⟨_, _, _, rfl, rfl, rfl⟩, rfl⟩) hk4 ?_
  show ZE (d + 1) M_Smo_init (gw Gn4 (up2 (upA (up2 (upA (up2 (upA (up2 (upA A (h + 1) (fun _ => 0)) h 0 (h + 1)) (h + 2) (fun _ => 0)) h 1 (h + 2)) (h + 3) (fun _ => 0)) h 2 (h + 3)) (h + 4) (fun _ => 0)) h 3 (h + 4))) 39 [(2, h)] [] _
  refine ZE.aload_n d_Smo_init_39 rfl ?_
  refine ZE.sipush (n := 3001) d_Smo_init_40 rfl ?_
  refine ZE.newI (n := 3001) d_Smo_init_43 rfl (by omega) ?_
  rw [gnew_gw, show (gz (gw Gn4 (up2 (upA (up2 (upA (up2 (upA (up2 (upA A (h + 1) (fun _ => 0)) h 0 (h + 1)) (h + 2) (fun _ => 0)) h 1 (h + 2)) (h + 3) (fun _ => 0)) h 2 (h + 3)) (h + 4) (fun _ => 0)) h 3 (h + 4))) : Int) = h + 5 from hz4]
  obtain ⟨Gn5, hE5⟩ : ∃ H1, H1 = gnew Gn4 1 3001 (fun _ => 0) := ⟨_, rfl⟩
  rw [show gnew Gn4 1 3001 (fun _ => 0) = Gn5 from hE5.symm, show (gz Gn4 : Int) = h + 5 from hz4]
  have hgr5 : gR Gn4 Gn5 1 3001 := by rw [hE5]; exact gR.new
  have hkn5 : Unit → (gk Gn5 (h + 5) = 1 ∧ gn Gn5 (h + 5) = (3001 : Int)) := fun _ => by rw [hE5, show h + 5 = (gz Gn4 : Int) from hz4.symm]; exact ⟨gnew_gk, gnew_gn⟩
  have hz5 : (gz Gn5 : Int) = h + 6 := by have := hgr5.1; omega
  have hk5 : gk Gn5 h = 17 := (hgr5.2.2.1 h (by omega)).1.trans hk4
  have hzh4 : Unit → (gz Gn4 : Int) = h + 5 := fun _ => hz4
  clear hz4 hk4
  skip
  refine ZE.put d_Smo_init_45 f_Smo_26 (tg := 2) rfl trivial (Or.inr ⟨⟨_, _, _, rfl, rfl, rfl⟩, rfl⟩) hk5 ?_
  show ZE (d + 1) M_Smo_init (gw Gn5 (up2 (upA (up2 (upA (up2 (upA (up2 (upA (up2 (upA A (h + 1) (fun _ => 0)) h 0 (h + 1)) (h + 2) (fun _ => 0)) h 1 (h + 2)) (h + 3) (fun _ => 0)) h 2 (h + 3)) (h + 4) (fun _ => 0)) h 3 (h + 4)) (h + 5) (fun _ => 0)) h 4 (h + 5))) 48 [(2, h)] [] _
  refine ZE.aload_n d_Smo_init_48 rfl ?_
  refine ZE.iconst (n := (-1)) d_Smo_init_49 ?_
  refine ZE.put d_Smo_init_50 f_Smo_29 (tg := 0) rfl trivial (Or.inl ⟨_, _, _, rfl, rfl, rfl⟩) hk5 ?_
  show ZE (d + 1) M_Smo_init (gw Gn5 (up2 (up2 (upA (up2 (upA (up2 (upA (up2 (upA (up2 (upA A (h + 1) (fun _ => 0)) h 0 (h + 1)) (h + 2) (fun _ => 0)) h 1 (h + 2)) (h + 3) (fun _ => 0)) h 2 (h + 3)) (h + 4) (fun _ => 0)) h 3 (h + 4)) (h + 5) (fun _ => 0)) h 4 (h + 5)) h 6 (-1))) 53 [(2, h)] [] _
  refine ZE.vret d_Smo_init_53 rfl ?_
  have hS5 : gR Gn5 Gn5 0 0 := gR.rf
  have hS4 := hgr5.tr hS5
  have hS3 := hgr4.tr hS4
  have hS2 := hgr3.tr hS3
  have hS1 := hgr2.tr hS2
  have hS0 := hgr1.tr hS1
  have hlo : ∀ a : Int, a < h → (up2 (up2 (upA (up2 (upA (up2 (upA (up2 (upA (up2 (upA A (h + 1) (fun _ => 0)) h 0 (h + 1)) (h + 2) (fun _ => 0)) h 1 (h + 2)) (h + 3) (fun _ => 0)) h 2 (h + 3)) (h + 4) (fun _ => 0)) h 3 (h + 4)) (h + 5) (fun _ => 0)) h 4 (h + 5)) h 6 (-1)) a = A a := fun a ha => by
    simp only [up2_A, upA_ne _ _ (show a ≠ h by omega), upA_ne _ _ (show a ≠ h + 1 by omega), upA_ne _ _ (show a ≠ h + 2 by omega), upA_ne _ _ (show a ≠ h + 3 by omega), upA_ne _ _ (show a ≠ h + 4 by omega), upA_ne _ _ (show a ≠ h + 5 by omega)]
  exact k Gn5 _ ⟨hk5, h0, (by have := hzh1 (); exact ⟨(hS1.2.2.1 (h + 1) (by omega)).1.trans (hkn1 ()).1, (hS1.2.2.1 (h + 1) (by omega)).2.trans (hkn1 ()).2⟩), (by have := hzh2 (); exact ⟨(hS2.2.2.1 (h + 2) (by omega)).1.trans (hkn2 ()).1, (hS2.2.2.1 (h + 2) (by omega)).2.trans (hkn2 ()).2⟩), (by have := hzh3 (); exact ⟨(hS3.2.2.1 (h + 3) (by omega)).1.trans (hkn3 ()).1, (hS3.2.2.1 (h + 3) (by omega)).2.trans (hkn3 ()).2⟩), (by have := hzh4 (); exact ⟨(hS4.2.2.1 (h + 4) (by omega)).1.trans (hkn4 ()).1, (hS4.2.2.1 (h + 4) (by omega)).2.trans (hkn4 ()).2⟩), hkn5 ()⟩ ⟨((up2_ne _ _ (by omega)).trans ((up2_ne _ _ (by omega)).trans ((congrFun (upA_ne _ _ (by omega)) _).trans ((up2_ne _ _ (by omega)).trans ((congrFun (upA_ne _ _ (by omega)) _).trans ((up2_ne _ _ (by omega)).trans ((congrFun (upA_ne _ _ (by omega)) _).trans ((up2_ne _ _ (by omega)).trans ((congrFun (upA_ne _ _ (by omega)) _).trans (up2_at _ _ _ _)))))))))), ((up2_ne _ _ (by omega)).trans ((up2_ne _ _ (by omega)).trans ((congrFun (upA_ne _ _ (by omega)) _).trans ((up2_ne _ _ (by omega)).trans ((congrFun (upA_ne _ _ (by omega)) _).trans ((up2_ne _ _ (by omega)).trans ((congrFun (upA_ne _ _ (by omega)) _).trans (up2_at _ _ _ _)))))))), ((up2_ne _ _ (by omega)).trans ((up2_ne _ _ (by omega)).trans ((congrFun (upA_ne _ _ (by omega)) _).trans ((up2_ne _ _ (by omega)).trans ((congrFun (upA_ne _ _ (by omega)) _).trans (up2_at _ _ _ _)))))), ((up2_ne _ _ (by omega)).trans ((up2_ne _ _ (by omega)).trans ((congrFun (upA_ne _ _ (by omega)) _).trans (up2_at _ _ _ _)))), ((up2_ne _ _ (by omega)).trans (up2_at _ _ _ _))⟩ ((up2_at _ _ _ _)) hlo hS0
set_option maxRecDepth 20000 in
set_option maxHeartbeats 4000000 in
theorem y_init {d : Nat} {G : zG} {A : Int → Int → Int} {P : Option zV → zG → Prop} {y : Int} (hz : (gz G : Int) = y + 1) (h0 : 0 ≤ y) (hk : gk G y = 15) (k : ∀ G2 A2, yK G2 y → yF A2 y → (∀ a : Int, a < y → A2 a = A a) → gR G G2 5 248 → P none (gw G2 A2)) : ZE (d + 1) M_Ran_init (gw G A) 0 [(2, y)] [] P := by
  refine ZE.aload_n d_Ran_init_0 rfl ?_
  refine ZE.objInit d_Ran_init_1 o_Ran_3 (by omega) (Nat.le_of_ble_eq_true rfl) ?_
  refine ZE.aload_n d_Ran_init_4 rfl ?_
  refine ZE.bipush (n := 64) d_Ran_init_5 rfl ?_
  refine ZE.newI (n := 64) d_Ran_init_7 rfl (by omega) ?_
  rw [gnew_gw, show (gz (gw G A) : Int) = y + 1 from hz]
  obtain ⟨Gn1, hE1⟩ : ∃ H1, H1 = gnew G 1 64 (fun _ => 0) := ⟨_, rfl⟩
  rw [show gnew G 1 64 (fun _ => 0) = Gn1 from hE1.symm, show (gz G : Int) = y + 1 from hz]
  have hgr1 : gR G Gn1 1 64 := by rw [hE1]; exact gR.new
  have hkn1 : Unit → (gk Gn1 (y + 1) = 1 ∧ gn Gn1 (y + 1) = (64 : Int)) := fun _ => by rw [hE1, show y + 1 = (gz G : Int) from hz.symm]; exact ⟨gnew_gk, gnew_gn⟩
  have hz1 : (gz Gn1 : Int) = y + 2 := by have := hgr1.1; omega
  have hk1 : gk Gn1 y = 15 := (hgr1.2.2.1 y (by omega)).1.trans hk
  have hzh0 : Unit → (gz G : Int) = y + 1 := fun _ => hz
  clear hz hk
  skip
  refine ZE.put d_Ran_init_9 f_Ran_11 (tg := 2) rfl trivial (Or.inr ⟨⟨_, _, _, rfl, rfl, rfl⟩, rfl⟩) hk1 ?_
  show ZE (d + 1) M_Ran_init (gw Gn1 (up2 (upA A (y + 1) (fun _ => 0)) y 0 (y + 1))) 12 [(2, y)] [] _
  refine ZE.aload_n d_Ran_init_12 rfl ?_
  refine ZE.bipush (n := 64) d_Ran_init_13 rfl ?_
  refine ZE.newI (n := 64) d_Ran_init_15 rfl (by omega) ?_
  rw [gnew_gw, show (gz (gw Gn1 (up2 (upA A (y + 1) (fun _ => 0)) y 0 (y + 1))) : Int) = y + 2 from hz1]
  obtain ⟨Gn2, hE2⟩ : ∃ H1, H1 = gnew Gn1 1 64 (fun _ => 0) := ⟨_, rfl⟩
  rw [show gnew Gn1 1 64 (fun _ => 0) = Gn2 from hE2.symm, show (gz Gn1 : Int) = y + 2 from hz1]
  have hgr2 : gR Gn1 Gn2 1 64 := by rw [hE2]; exact gR.new
  have hkn2 : Unit → (gk Gn2 (y + 2) = 1 ∧ gn Gn2 (y + 2) = (64 : Int)) := fun _ => by rw [hE2, show y + 2 = (gz Gn1 : Int) from hz1.symm]; exact ⟨gnew_gk, gnew_gn⟩
  have hz2 : (gz Gn2 : Int) = y + 3 := by have := hgr2.1; omega
  have hk2 : gk Gn2 y = 15 := (hgr2.2.2.1 y (by omega)).1.trans hk1
  have hzh1 : Unit → (gz Gn1 : Int) = y + 2 := fun _ => hz1
  clear hz1 hk1
  skip
  refine ZE.put d_Ran_init_17 f_Ran_15 (tg := 2) rfl trivial (Or.inr ⟨⟨_, _, _, rfl, rfl, rfl⟩, rfl⟩) hk2 ?_
  show ZE (d + 1) M_Ran_init (gw Gn2 (up2 (upA (up2 (upA A (y + 1) (fun _ => 0)) y 0 (y + 1)) (y + 2) (fun _ => 0)) y 1 (y + 2))) 20 [(2, y)] [] _
  refine ZE.aload_n d_Ran_init_20 rfl ?_
  refine ZE.bipush (n := 64) d_Ran_init_21 rfl ?_
  refine ZE.newI (n := 64) d_Ran_init_23 rfl (by omega) ?_
  rw [gnew_gw, show (gz (gw Gn2 (up2 (upA (up2 (upA A (y + 1) (fun _ => 0)) y 0 (y + 1)) (y + 2) (fun _ => 0)) y 1 (y + 2))) : Int) = y + 3 from hz2]
  obtain ⟨Gn3, hE3⟩ : ∃ H1, H1 = gnew Gn2 1 64 (fun _ => 0) := ⟨_, rfl⟩
  rw [show gnew Gn2 1 64 (fun _ => 0) = Gn3 from hE3.symm, show (gz Gn2 : Int) = y + 3 from hz2]
  have hgr3 : gR Gn2 Gn3 1 64 := by rw [hE3]; exact gR.new
  have hkn3 : Unit → (gk Gn3 (y + 3) = 1 ∧ gn Gn3 (y + 3) = (64 : Int)) := fun _ => by rw [hE3, show y + 3 = (gz Gn2 : Int) from hz2.symm]; exact ⟨gnew_gk, gnew_gn⟩
  have hz3 : (gz Gn3 : Int) = y + 4 := by have := hgr3.1; omega
  have hk3 : gk Gn3 y = 15 := (hgr3.2.2.1 y (by omega)).1.trans hk2
  have hzh2 : Unit → (gz Gn2 : Int) = y + 3 := fun _ => hz2
  clear hz2 hk2
  skip
  refine ZE.put d_Ran_init_25 f_Ran_18 (tg := 2) rfl trivial (Or.inr ⟨⟨_, _, _, rfl, rfl, rfl⟩, rfl⟩) hk3 ?_
  show ZE (d + 1) M_Ran_init (gw Gn3 (up2 (upA (up2 (upA (up2 (upA A (y + 1) (fun _ => 0)) y 0 (y + 1)) (y + 2) (fun _ => 0)) y 1 (y + 2)) (y + 3) (fun _ => 0)) y 2 (y + 3))) 28 [(2, y)] [] _
  refine ZE.aload_n d_Ran_init_28 rfl ?_
  refine ZE.bipush (n := 49) d_Ran_init_29 rfl ?_
  refine ZE.newI (n := 49) d_Ran_init_31 rfl (by omega) ?_
  rw [gnew_gw, show (gz (gw Gn3 (up2 (upA (up2 (upA (up2 (upA A (y + 1) (fun _ => 0)) y 0 (y + 1)) (y + 2) (fun _ => 0)) y 1 (y + 2)) (y + 3) (fun _ => 0)) y 2 (y + 3))) : Int) = y + 4 from hz3]
  obtain ⟨Gn4, hE4⟩ : ∃ H1, H1 = gnew Gn3 1 49 (fun _ => 0) := ⟨_, rfl⟩
  rw [show gnew Gn3 1 49 (fun _ => 0) = Gn4 from hE4.symm, show (gz Gn3 : Int) = y + 4 from hz3]
  have hgr4 : gR Gn3 Gn4 1 49 := by rw [hE4]; exact gR.new
  have hkn4 : Unit → (gk Gn4 (y + 4) = 1 ∧ gn Gn4 (y + 4) = (49 : Int)) := fun _ => by rw [hE4, show y + 4 = (gz Gn3 : Int) from hz3.symm]; exact ⟨gnew_gk, gnew_gn⟩
  have hz4 : (gz Gn4 : Int) = y + 5 := by have := hgr4.1; omega
  have hk4 : gk Gn4 y = 15 := (hgr4.2.2.1 y (by omega)).1.trans hk3
  have hzh3 : Unit → (gz Gn3 : Int) = y + 4 := fun _ => hz3
  clear hz3 hk3
  skip
  refine ZE.put d_Ran_init_33 f_Ran_23 (tg := 2) rfl trivial (Or.inr ⟨⟨_, _, _, rfl, rfl, rfl⟩, rfl⟩) hk4 ?_
  show ZE (d + 1) M_Ran_init (gw Gn4 (up2 (upA (up2 (upA (up2 (upA (up2 (upA A (y + 1) (fun _ => 0)) y 0 (y + 1)) (y + 2) (fun _ => 0)) y 1 (y + 2)) (y + 3) (fun _ => 0)) y 2 (y + 3)) (y + 4) (fun _ => 0)) y 3 (y + 4))) 36 [(2, y)] [] _
  refine ZE.aload_n d_Ran_init_36 rfl ?_
  refine ZE.bipush (n := 7) d_Ran_init_37 rfl ?_
  refine ZE.newI (n := 7) d_Ran_init_39 rfl (by omega) ?_
  rw [gnew_gw, show (gz (gw Gn4 (up2 (upA (up2 (upA (up2 (upA (up2 (upA A (y + 1) (fun _ => 0)) y 0 (y + 1)) (y + 2) (fun _ => 0)) y 1 (y + 2)) (y + 3) (fun _ => 0)) y 2 (y + 3)) (y + 4) (fun _ => 0)) y 3 (y + 4))) : Int) = y + 5 from hz4]
  obtain ⟨Gn5, hE5⟩ : ∃ H1, H1 = gnew Gn4 1 7 (fun _ => 0) := ⟨_, rfl⟩
  rw [show gnew Gn4 1 7 (fun _ => 0) = Gn5 from hE5.symm, show (gz Gn4 : Int) = y + 5 from hz4]
  have hgr5 : gR Gn4 Gn5 1 7 := by rw [hE5]; exact gR.new
  have hkn5 : Unit → (gk Gn5 (y + 5) = 1 ∧ gn Gn5 (y + 5) = (7 : Int)) := fun _ => by rw [hE5, show y + 5 = (gz Gn4 : Int) from hz4.symm]; exact ⟨gnew_gk, gnew_gn⟩
  have hz5 : (gz Gn5 : Int) = y + 6 := by have := hgr5.1; omega
  have hk5 : gk Gn5 y = 15 := (hgr5.2.2.1 y (by omega)).1.trans hk4
  have hzh4 : Unit → (gz Gn4 : Int) = y + 5 := fun _ => hz4
  clear hz4 hk4
  skip
  refine ZE.put d_Ran_init_41 f_Ran_26 (tg := 2) rfl trivial (Or.inr ⟨⟨_, _, _, rfl, rfl, rfl⟩, rfl⟩) hk5 ?_
  show ZE (d + 1) M_Ran_init (gw Gn5 (up2 (upA (up2 (upA (up2 (upA (up2 (upA (up2 (upA A (y + 1) (fun _ => 0)) y 0 (y + 1)) (y + 2) (fun _ => 0)) y 1 (y + 2)) (y + 3) (fun _ => 0)) y 2 (y + 3)) (y + 4) (fun _ => 0)) y 3 (y + 4)) (y + 5) (fun _ => 0)) y 4 (y + 5))) 44 [(2, y)] [] _
  refine ZE.vret d_Ran_init_44 rfl ?_
  have hS5 : gR Gn5 Gn5 0 0 := gR.rf
  have hS4 := hgr5.tr hS5
  have hS3 := hgr4.tr hS4
  have hS2 := hgr3.tr hS3
  have hS1 := hgr2.tr hS2
  have hS0 := hgr1.tr hS1
  have hlo : ∀ a : Int, a < y → (up2 (upA (up2 (upA (up2 (upA (up2 (upA (up2 (upA A (y + 1) (fun _ => 0)) y 0 (y + 1)) (y + 2) (fun _ => 0)) y 1 (y + 2)) (y + 3) (fun _ => 0)) y 2 (y + 3)) (y + 4) (fun _ => 0)) y 3 (y + 4)) (y + 5) (fun _ => 0)) y 4 (y + 5)) a = A a := fun a ha => by
    simp only [up2_A, upA_ne _ _ (show a ≠ y by omega), upA_ne _ _ (show a ≠ y + 1 by omega), upA_ne _ _ (show a ≠ y + 2 by omega), upA_ne _ _ (show a ≠ y + 3 by omega), upA_ne _ _ (show a ≠ y + 4 by omega), upA_ne _ _ (show a ≠ y + 5 by omega)]
  exact k Gn5 _ ⟨hk5, h0, (by have := hzh1 (); exact ⟨(hS1.2.2.1 (y + 1) (by omega)).1.trans (hkn1 ()).1, (hS1.2.2.1 (y + 1) (by omega)).2.trans (hkn1 ()).2⟩), (by have := hzh2 (); exact ⟨(hS2.2.2.1 (y + 2) (by omega)).1.trans (hkn2 ()).1, (hS2.2.2.1 (y + 2) (by omega)).2.trans (hkn2 ()).2⟩), (by have := hzh3 (); exact ⟨(hS3.2.2.1 (y + 3) (by omega)).1.trans (hkn3 ()).1, (hS3.2.2.1 (y + 3) (by omega)).2.trans (hkn3 ()).2⟩), (by have := hzh4 (); exact ⟨(hS4.2.2.1 (y + 4) (by omega)).1.trans (hkn4 ()).1, (hS4.2.2.1 (y + 4) (by omega)).2.trans (hkn4 ()).2⟩), hkn5 ()⟩ ⟨((up2_ne _ _ (by omega)).trans ((congrFun (upA_ne _ _ (by omega)) _).trans ((up2_ne _ _ (by omega)).trans ((congrFun (upA_ne _ _ (by omega)) _).trans ((up2_ne _ _ (by omega)).trans ((congrFun (upA_ne _ _ (by omega)) _).trans ((up2_ne _ _ (by omega)).trans ((congrFun (upA_ne _ _ (by omega)) _).trans (up2_at _ _ _ _))))))))), ((up2_ne _ _ (by omega)).trans ((congrFun (upA_ne _ _ (by omega)) _).trans ((up2_ne _ _ (by omega)).trans ((congrFun (upA_ne _ _ (by omega)) _).trans ((up2_ne _ _ (by omega)).trans ((congrFun (upA_ne _ _ (by omega)) _).trans (up2_at _ _ _ _))))))), ((up2_ne _ _ (by omega)).trans ((congrFun (upA_ne _ _ (by omega)) _).trans ((up2_ne _ _ (by omega)).trans ((congrFun (upA_ne _ _ (by omega)) _).trans (up2_at _ _ _ _))))), ((up2_ne _ _ (by omega)).trans ((congrFun (upA_ne _ _ (by omega)) _).trans (up2_at _ _ _ _))), (up2_at _ _ _ _)⟩ hlo hS0
