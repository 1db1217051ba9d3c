set_option maxRecDepth 20000 in
set_option maxHeartbeats 4000000 in
theorem B_init0 {d : Nat} {G : zG} {A : Int → Int → Int} {P : Option zV → zG → Prop} {b : Int} (hz : (gz G : Int) = b + 1) (h0 : 0 ≤ b) (hk : gk G b = 10) (hs : A b 1 = 0) (k : ∀ G2 A2, bK G2 b 1 → bN A2 b 0 → gR G G2 1 1 → (∀ a : Int, a < b → A2 a = A a) → P none (gw G2 A2)) : ZE (d + 1) M_Big_init (gw G A) 0 [(2, b), (0, 0)] [] P := by
  refine ZE.aload_n d_Big_init_0 rfl ?_
  refine ZE.objInit d_Big_init_1 o_Big_3 (by omega) (Nat.le_of_ble_eq_true rfl) ?_
  refine ZE.aload_n d_Big_init_4 rfl ?_
  refine ZE.iload_n d_Big_init_5 rfl ?_
  refine ZE.if_le (tgt := 13) d_Big_init_6 rfl (by unfold zR; omega) (fun c6 => ?_) (fun c6 => ?_)
  · refine ZE.iconst (n := 1) d_Big_init_13 ?_
    refine ZE.newI (n := 1) d_Big_init_14 rfl (by omega) ?_
    rw [gnew_gw, show (gz (gw G A) : Int) = (gz G : Int) from rfl, hz]
    obtain ⟨G1, hE⟩ : ∃ H1, H1 = gnew G 1 1 (fun _ => 0) := ⟨_, rfl⟩
    rw [← hE]
    have hgr : gR G G1 1 1 := by rw [hE]; exact gR.new
    have hk1 : gk G1 b = 10 := (hgr.2.2.1 b (by omega)).1.trans hk
    have hk2 : gk G1 (b + 1) = 1 ∧ gn G1 (b + 1) = ((1 : Nat) : Int) := by rw [hE, ← hz]; exact ⟨gnew_gk, gnew_gn⟩
    refine ZE.put d_Big_init_16 f_Big_9 (tg := 2) rfl trivial (Or.inr ⟨⟨_, _, _, rfl, rfl, rfl⟩, rfl⟩) hk1 ?_
    show ZE (d + 1) M_Big_init (gw G1 (up2 (upA A (b + 1) (fun _ => 0)) b 0 (b + 1))) 19 [(2, b), (0, 0)] [] _
    refine ZE.vret d_Big_init_19 rfl ?_
    refine k G1 _ ⟨hk1, hk2.1, hk2.2, h0, by omega⟩ ⟨up2_at _ _ _ _, ?_, fun q hq => absurd hq (Nat.not_lt_zero _)⟩ hgr (fun a ha => ?_)
    · rw [up2_ne _ _ (by omega), upA_ne _ _ (by omega)]; exact hs
    · rw [up2_A, upA_ne _ _ (by omega), upA_ne _ _ (by omega)]
  · exact absurd c6 (by decide)
set_option maxRecDepth 20000 in
set_option maxHeartbeats 4000000 in
theorem c_init0 {d : Nat} {G : zG} {A : Int → Int → Int} {P : Option zV → zG → Prop} {c z : Int} (hz : (gz G : Int) = z + 1) (hcz : c ≤ z) (h0 : 0 ≤ c) (hk : gk G c = 11) {m : Int} {cap2 : Nat} (hM : bK G m cap2) (hmc : m + 1 ≤ z ∧ c ≠ m ∧ c ≠ m + 1) {i1 : Int} (hm : bN A m 0) {lr hr : Int} (hl : gk G lr = 1 ∧ gn G lr = 0) (hlc : lr ≤ z) (k : ∀ G2 A2, gk G2 c = 11 → (∀ a : Int, a ≤ z → a ≠ c → A2 a = A a) → gR G G2 4 17 → P none (gw G2 A2)) : ZE (d + 3) M_Cou_init (gw G A) 0 [(2, c), (2, m), (0, i1), (2, lr), (2, hr), (9, 0), (9, 0)] [] P := by
  refine ZE.aload_n d_Cou_init_0 rfl ?_
  refine ZE.objInit d_Cou_init_1 o_Cou_1 (by omega) (Nat.le_of_ble_eq_true rfl) ?_
  refine ZE.aload_n d_Cou_init_4 rfl ?_
  refine ZE.bipush (n := 7) d_Cou_init_5 rfl ?_
  refine ZE.newI (n := 7) d_Cou_init_7 rfl (by omega) ?_
  rw [gnew_gw, show (gz (gw G A) : Int) = z + 1 from hz]
  obtain ⟨Gn1, hE1⟩ : ∃ H1, H1 = gnew G 1 7 (fun _ => 0) := ⟨_, rfl⟩
  rw [show gnew G 1 7 (fun _ => 0) = Gn1 from hE1.symm, show (gz G : Int) = z + 1 from hz]
  have hgr1 : gR G Gn1 1 7 := by rw [hE1]; exact gR.new
  have hkn1 : Unit → (gk Gn1 (z + 1) = 1 ∧ gn Gn1 (z + 1) = (7 : Int)) := fun _ => by rw [hE1, show z + 1 = (gz G : Int) from hz.symm]; exact ⟨gnew_gk, gnew_gn⟩
  have hz1 : (gz Gn1 : Int) = z + 2 := by have := hgr1.1; omega
  have hk1 : gk Gn1 c = 11 := (hgr1.2.2.1 c (by omega)).1.trans hk
  have hzh0 : Unit → (gz G : Int) = z + 1 := fun _ => hz
  clear hz hk
  skip
  refine ZE.put d_Cou_init_9 f_Cou_9 (tg := 2) rfl trivial (Or.inr ⟨⟨_, _, _, rfl, rfl, rfl⟩, rfl⟩) hk1 ?_
  show ZE (d + 3) M_Cou_init (gw Gn1 (up2 (upA A (z + 1) (fun _ => 0)) c 3 (z + 1))) 12 [(2, c), (2, m), (0, i1), (2, lr), (2, hr), (9, 0), (9, 0)] [] _
  refine ZE.aload_n d_Cou_init_12 rfl ?_
  refine ZE.bipush (n := 7) d_Cou_init_13 rfl ?_
  refine ZE.newI (n := 7) d_Cou_init_15 rfl (by omega) ?_
  rw [gnew_gw, show (gz (gw Gn1 (up2 (upA A (z + 1) (fun _ => 0)) c 3 (z + 1))) : Int) = z + 2 from hz1]
  obtain ⟨Gn2, hE2⟩ : ∃ H1, H1 = gnew Gn1 1 7 (fun _ => 0) := ⟨_, rfl⟩
  rw [show gnew Gn1 1 7 (fun _ => 0) = Gn2 from hE2.symm, show (gz Gn1 : Int) = z + 2 from hz1]
  have hgr2 : gR Gn1 Gn2 1 7 := by rw [hE2]; exact gR.new
  have hkn2 : Unit → (gk Gn2 (z + 2) = 1 ∧ gn Gn2 (z + 2) = (7 : Int)) := fun _ => by rw [hE2, show z + 2 = (gz Gn1 : Int) from hz1.symm]; exact ⟨gnew_gk, gnew_gn⟩
  have hz2 : (gz Gn2 : Int) = z + 3 := by have := hgr2.1; omega
  have hk2 : gk Gn2 c = 11 := (hgr2.2.2.1 c (by omega)).1.trans hk1
  have hzh1 : Unit → (gz Gn1 : Int) = z + 2 := fun _ => hz1
  clear hz1 hk1
  skip
  refine ZE.put d_Cou_init_17 f_Cou_15 (tg := 2) rfl trivial (Or.inr ⟨⟨_, _, _, rfl, rfl, rfl⟩, rfl⟩) hk2 ?_
  show ZE (d + 3) M_Cou_init (gw Gn2 (up2 (upA (up2 (upA A (z + 1) (fun _ => 0)) c 3 (z + 1)) (z + 2) (fun _ => 0)) c 4 (z + 2))) 20 [(2, c), (2, m), (0, i1), (2, lr), (2, hr), (9, 0), (9, 0)] [] _
  refine ZE.aload_n d_Cou_init_20 rfl ?_
  refine ZE.new d_Cou_init_21 n_Cou_18 ?_
  rw [gnew_gw, show (gz (gw Gn2 (up2 (upA (up2 (upA A (z + 1) (fun _ => 0)) c 3 (z + 1)) (z + 2) (fun _ => 0)) c 4 (z + 2))) : Int) = z + 3 from hz2]
  obtain ⟨Gn3, hE3⟩ : ∃ H1, H1 = gnew Gn2 10 2 (zInit 0) := ⟨_, rfl⟩
  rw [show gnew Gn2 (10 + 0) 2 (zInit 0) = Gn3 from hE3.symm, show (gz Gn2 : Int) = z + 3 from hz2]
  have hgr3 : gR Gn2 Gn3 1 2 := by rw [hE3]; exact gR.new
  have hkn3 : Unit → (gk Gn3 (z + 3) = 10 ∧ gn Gn3 (z + 3) = (2 : Int)) := fun _ => by rw [hE3, show z + 3 = (gz Gn2 : Int) from hz2.symm]; exact ⟨gnew_gk, gnew_gn⟩
  have hz3 : (gz Gn3 : Int) = z + 4 := by have := hgr3.1; omega
  have hk3 : gk Gn3 c = 11 := (hgr3.2.2.1 c (by omega)).1.trans hk2
  have hzh2 : Unit → (gz Gn2 : Int) = z + 3 := fun _ => hz2
  clear hz2 hk2
  skip
  refine ZE.dup d_Cou_init_24 (Or.inr rfl) ?_
  refine ZE.aload_n d_Cou_init_25 rfl ?_
  refine ZE.cV [] [(2, z + 3), (2, z + 3), (2, c)] [(2, m)] d_Cou_init_26 l_Cou_20 rfl rfl rfl rfl rfl rfl ((hgr3.2.2.1 m (by have := hzh2 (); omega)).1.trans ((hgr2.2.2.1 m (by have := hzh1 (); omega)).1.trans ((hgr1.2.2.1 m (by have := hzh0 (); omega)).1.trans hM.1))) ?_
  refine B_limbCount (b := m) (cap := cap2) (v := 0) (((hM.gr hgr1 (by have := hzh0 (); omega)).gr hgr2 (by have := hzh1 (); omega)).gr hgr3 (by have := hzh2 (); omega)) (hm.ab (fun a ha => by simp only [up2_A, upA_ne _ _ (show a ≠ c by omega), upA_ne _ _ (show a ≠ z + 1 by omega), upA_ne _ _ (show a ≠ z + 2 by omega), upA_ne _ _ (show a ≠ z + 3 by omega)])) ?_
  show ZE (d + 3) M_Cou_init (gw Gn3 (upA (up2 (upA (up2 (upA A (z + 1) (fun _ => 0)) c 3 (z + 1)) (z + 2) (fun _ => 0)) c 4 (z + 2)) (z + 3) (zInit 0))) 29 [(2, c), (2, m), (0, i1), (2, lr), (2, hr), (9, 0), (9, 0)] [(0, 0), (2, z + 3), (2, z + 3), (2, c)] _
  refine ZE.cI [(0, 0)] [(2, z + 3), (2, c)] [(2, z + 3), (0, 0)] d_Cou_init_29 l_Cou_24 rfl rfl rfl rfl rfl rfl (by omega) ?_
  refine B_init0 (b := z + 3) (hz3.trans (by omega)) (by omega) (hkn3 ()).1 ((congrFun (upA_at _ _ _) 1).trans rfl) (fun Gb4 A1 hB hN hgr4 hA1 => ?_)
  show ZE (d + 3) M_Cou_init (gw Gb4 A1) 32 [(2, c), (2, m), (0, i1), (2, lr), (2, hr), (9, 0), (9, 0)] [(2, z + 3), (2, c)] _
  have hz4 : (gz Gb4 : Int) = z + 5 := by have := hgr4.1; omega
  have hk4 : gk Gb4 c = 11 := (hgr4.2.2.1 c (by omega)).1.trans hk3
  have hzh3 : Unit → (gz Gn3 : Int) = z + 4 := fun _ => hz3
  clear hz3 hk3
  have h1c : Unit → A1 c 3 = z + 1 ∧ A1 c 4 = z + 2 := fun _ => by
    rw [hA1 c (by omega)]
    simp only [up2_A, upA_at, upA_ne _ _ (show c ≠ z + 3 by omega), upA_ne _ _ (show c ≠ z + 2 by omega), upA_ne _ _ (show c ≠ z + 1 by omega), up1_ne _ _ (show (3 : Int) ≠ 4 by omega)]
    exact ⟨up1_at _ _ _, up1_at _ _ _⟩
  have h1l : ∀ a : Int, a ≤ z → a ≠ c → A1 a = A a := fun a ha hac => by
    rw [hA1 a (by omega)]
    simp only [up2_A, upA_ne _ _ (show a ≠ c by omega), upA_ne _ _ (show a ≠ z + 1 by omega), upA_ne _ _ (show a ≠ z + 2 by omega), upA_ne _ _ (show a ≠ z + 3 by omega)]
  refine ZE.put d_Cou_init_32 f_Cou_27 (tg := 2) rfl trivial (Or.inr ⟨⟨_, _, _, rfl, rfl, rfl⟩, rfl⟩) hk4 ?_
  show ZE (d + 3) M_Cou_init (gw Gb4 (up2 A1 c 0 (z + 3))) 35 [(2, c), (2, m), (0, i1), (2, lr), (2, hr), (9, 0), (9, 0)] [] _
  refine ZE.aload_n d_Cou_init_35 rfl ?_
  refine ZE.getE (v := z + 3) d_Cou_init_36 f_Cou_27 (tg := 2) rfl hk4 (up2_at _ _ _ _) ?_
  refine ZE.aload_n d_Cou_init_39 rfl ?_
  have hS4 : gR Gb4 Gb4 0 0 := gR.rf
  have hS0 := hgr1.tr (hgr2.tr (hgr3.tr (hgr4.tr hS4)))
  have hl4 : gk Gb4 lr = 1 ∧ gn Gb4 lr = 0 := ⟨(hS0.2.2.1 lr (by have := hzh0 (); omega)).1.trans hl.1, (hS0.2.2.1 lr (by have := hzh0 (); omega)).2.trans hl.2⟩
  refine ZE.cV [(2, m)] [] [(2, z + 3), (2, m), (9, 0)] d_Cou_init_40 l_Cou_31 rfl rfl rfl rfl rfl rfl hB.1 ?_
  refine B_copy hB (show (up2 A1 c 0 (z + 3)) (z + 3) 0 = z + 3 + 1 from by rw [up2_ne _ _ (by omega)]; exact hN.1) (hM.gr hS0 (by have := hzh0 (); omega)) (v := 0) (hm.ab (fun a ha => by rw [up2_A, upA_ne _ _ (by omega), h1l a (by omega) (by omega)])) (by show 0 ≤ 1; omega) (Nat.zero_le _) (by omega) (fun A2 g2 n2 => ?_)
  show ZE (d + 3) M_Cou_init (gw Gb4 A2) 43 [(2, c), (2, m), (0, i1), (2, lr), (2, hr), (9, 0), (9, 0)] [] _
  refine ZE.aload_n d_Cou_init_43 rfl ?_
  refine ZE.iload_n d_Cou_init_44 rfl ?_
  refine ZE.put d_Cou_init_45 f_Cou_35 (tg := 0) rfl trivial (Or.inr ⟨⟨_, _, _, rfl, rfl, rfl⟩, rfl⟩) hk4 ?_
  show ZE (d + 3) M_Cou_init (gw Gb4 (up2 A2 c 1 i1)) 48 [(2, c), (2, m), (0, i1), (2, lr), (2, hr), (9, 0), (9, 0)] [] _
  refine ZE.iconst (n := 0) d_Cou_init_48 ?_
  refine ZE.istore (ls2 := [(2, c), (2, m), (0, i1), (2, lr), (2, hr), (0, 0), (9, 0)]) d_Cou_init_49 (Nat.le_of_ble_eq_true rfl) rfl ?_
  refine ZE.iconst (n := 0) d_Cou_init_51 ?_
  refine ZE.istore (ls2 := [(2, c), (2, m), (0, i1), (2, lr), (2, hr), (0, 0), (0, 0)]) d_Cou_init_52 (Nat.le_of_ble_eq_true rfl) rfl ?_
  refine ZE.iload d_Cou_init_54 rfl ?_
  refine ZE.bipush (n := 7) d_Cou_init_56 rfl ?_
  refine ZE.icmp_ge (tgt := 131) d_Cou_init_58 rfl (by unfold zR; omega) (by unfold zR; omega) (fun c58 => ?_) (fun c58 => ?_)
  · exact absurd c58 (by decide)
  · refine ZE.iload d_Cou_init_61 rfl ?_
    refine ZE.aload_n d_Cou_init_63 rfl ?_
    refine ZE.alenE (v := 0) d_Cou_init_64 (by have hk0 := hl4.1; show 1 ≤ gk Gb4 (lr) ∧ gk Gb4 (lr) ≤ 6; omega) hl4.2 ?_
    refine ZE.icmp_ge (tgt := 131) d_Cou_init_65 rfl (by unfold zR; omega) (by unfold zR; omega) (fun c65 => ?_) (fun c65 => ?_)
    · refine ZE.aload_n d_Cou_init_131 rfl ?_
      refine ZE.iload d_Cou_init_132 rfl ?_
      refine ZE.put d_Cou_init_134 f_Cou_39 (tg := 0) rfl trivial (Or.inr ⟨⟨_, _, _, rfl, rfl, rfl⟩, rfl⟩) hk4 ?_
      show ZE (d + 3) M_Cou_init (gw Gb4 (up2 (up2 A2 c 1 i1) c 2 0)) 137 [(2, c), (2, m), (0, i1), (2, lr), (2, hr), (0, 0), (0, 0)] [] _
      refine ZE.vret d_Cou_init_137 rfl ?_
      refine k Gb4 _ hk4 (fun a ha hac => ?_) hS0
      rw [up2_A, upA_ne _ _ (by omega), up2_A, upA_ne _ _ (by omega), g2 a (by omega) (by omega), up2_A, upA_ne _ _ (by omega), h1l a ha hac]
    · exact absurd c65 (by decide)
