theorem bN.ab {A B : Int → Int → Int} {b : Int} {v : Nat} (h : bN A b v) (e : ∀ a : Int, a = b ∨ a = b + 1 → B a = A a) : bN B b v := by
  have e1 := e b (Or.inl rfl)
  have e2 := e (b + 1) (Or.inr rfl)
  unfold bN
  rw [e1, e2]
  exact h
theorem fO.ab {A B : Int → Int → Int} {f : Int} (h : fO A f) (e : ∀ a : Int, f ≤ a → a ≤ f + 8 → B a = A a) : fO B f := by
  have e0 := e f (by omega) (by omega)
  have e1 := e (f + 1) (by omega) (by omega)
  have e3 := e (f + 3) (by omega) (by omega)
  have e5 := e (f + 5) (by omega) (by omega)
  have e7 := e (f + 7) (by omega) (by omega)
  unfold fO
  rw [e0, e1, e3, e5, e7]
  exact h
theorem fK.gr {G G2 : zG} {f : Int} {n s : Nat} (h : fK G f) (g : gR G G2 n s) (hb : f + 8 < (gz G : Int)) : fK G2 f := ⟨(g.2.2.1 f (by omega)).1.trans h.1, h.2.1, h.2.2.1.gr g (by omega), h.2.2.2.1.gr g (by omega), h.2.2.2.2.1.gr g (by omega), h.2.2.2.2.2.gr g (by omega)⟩
theorem odd_id {D : Nat} (h : frD D) (ho : rnd D % 2 = 1) : hfr D (isq D) (rnd D) * hfr D (isq D) (rnd D) * D = hfp D (isq D) (rnd D) * hfp D (isq D) (rnd D) + 1 := by
  have h1 := frD_b h
  obtain ⟨hc, h2, -⟩ := frD_cf h
  have h3 := (ns_id hc h2 (rnd D - 1) (by omega)).1
  rw [show rnd D - 1 + 1 = rnd D by omega, hc.2.2.1] at h3
  unfold sgn at h3
  rw [if_pos (by omega)] at h3
  unfold hfp hfr
  generalize (ns D (isq D) (rnd D - 1)).1 = p at h3 ⊢
  generalize (ns D (isq D) (rnd D - 1)).2.2.1 = r at h3 ⊢
  rw [Nat.mul_comm (r * r) D]
  have h4 : ((D * (r * r) : Nat) : Int) = ((p * p + 1 : Nat) : Int) := by
    rw [Int.natCast_mul, Int.natCast_mul, Int.natCast_add, Int.natCast_mul]
    omega
  exact Int.ofNat.inj h4
theorem hf27 {D : Nat} (h : frD D) : hfp D (isq D) (rnd D) < 10 ^ 27 ∧ hfr D (isq D) (rnd D) < 10 ^ 27 := by
  have h1 := frD_b h
  have h2 := frD_ns h (j := rnd D - 1) (by omega)
  exact ⟨h2.1, h2.2.2.1⟩
theorem nB54 {a b : Nat} (h1 : a < 10 ^ 27) (h2 : b < 10 ^ 27) : nd 1000000000 (a * b) ≤ 6 := nd_le (by omega) (by
  rw [show 1000000000 ^ 6 = 10 ^ 27 * 10 ^ 27 by decide]
  exact Nat.mul_lt_mul_of_lt_of_le h1 (Nat.le_of_lt h2) (by decide))
theorem nB63 {a : Nat} (h : a < 10 ^ 63) : nd 1000000000 a ≤ 7 := nd_le (by omega) (by rw [show 1000000000 ^ 7 = 10 ^ 63 by decide]; exact h)
theorem sq54 {a b : Nat} (h1 : a < 10 ^ 27) (h2 : b < 10 ^ 27) : a * b * 4 + 4 < 10 ^ 63 := by
  have h3 := Nat.mul_le_mul (Nat.le_of_lt h1) (Nat.le_of_lt h2)
  have h4 : 10 ^ 27 * 10 ^ 27 * 4 + 4 < 10 ^ 63 := by decide
  omega
set_option maxRecDepth 20000 in
set_option maxHeartbeats 4000000 in
theorem u_initA {d : Nat} {G : zG} {A : Int → Int → Int} {P : Option zV → zG → Prop} {u : Int} (hz : (gz G : Int) = u + 1) (h0 : 0 ≤ u) (hk : gk G u = 19) {f : Int} {q D : Int} (k : ∀ G2 A2, uK G2 u → (∀ a : Int, a < u → A2 a = A a) → bN A2 (u + 1) 0 → bN A2 (u + 3) 0 → (A2 u 0 = u + 1 ∧ A2 u 1 = u + 3 ∧ A2 u 6 = u + 5 ∧ A2 u 7 = u + 6 ∧ A2 u 8 = u + 7 ∧ A2 u 9 = u + 8) → (∀ j : Int, A2 (u + 7) j = 0) → gR G G2 8 60 → ZE (d + 3) M_Uni_init (gw G2 A2) 63 [(2, u), (0, q), (0, D), (2, f)] [] P) : ZE (d + 3) M_Uni_init (gw G A) 0 [(2, u), (0, q), (0, D), (2, f)] [] P := by
  refine ZE.aload_n d_Uni_init_0 rfl ?_
  refine ZE.objInit d_Uni_init_1 o_Uni_3 (by omega) (Nat.le_of_ble_eq_true rfl) ?_
  refine ZE.aload_n d_Uni_init_4 rfl ?_
  refine ZE.new d_Uni_init_5 n_Uni_9 ?_
  rw [gnew_gw, show (gz (gw G A) : Int) = u + 1 from hz]
  obtain ⟨Gn1, hE1⟩ : ∃ H1, H1 = gnew G 10 2 (zInit 0) := ⟨_, rfl⟩
  rw [show gnew G (10 + 0) 2 (zInit 0) = Gn1 from hE1.symm, show (gz G : Int) = u + 1 from hz]
  have hgr1 : gR G Gn1 1 2 := by rw [hE1]; exact gR.new
  have hkn1 : gk Gn1 (u + 1) = 10 ∧ gn Gn1 (u + 1) = (2 : Int) := by rw [hE1, show u + 1 = (gz G : Int) from hz.symm]; exact ⟨gnew_gk, gnew_gn⟩
  have hz1 : (gz Gn1 : Int) = u + 2 := by have := hgr1.1; omega
  have hk1 : gk Gn1 u = 19 := (hgr1.2.2.1 u (by omega)).1.trans hk
  skip
  refine ZE.dup d_Uni_init_8 (Or.inr rfl) ?_
  refine ZE.bipush (n := 8) d_Uni_init_9 rfl ?_
  refine ZE.cI [(0, 8)] [(2, u + 1), (2, u)] [(2, u + 1), (0, 8)] d_Uni_init_11 l_Uni_13 rfl rfl rfl rfl rfl rfl (by omega) ?_
  refine B_init (b := u + 1) (cap := 8) (hz1.trans (by omega)) (by omega) hkn1.1 (by omega) ((congrFun (upA_at _ _ _) 1).trans rfl) (fun Gb2 A1 hB1 hN1 hgr2 hA1 => ?_)
  show ZE (d + 3) M_Uni_init (gw Gb2 A1) 14 [(2, u), (0, q), (0, D), (2, f)] [(2, u + 1), (2, u)] _
  have hz2 : (gz Gb2 : Int) = u + 3 := by have := hgr2.1; omega
  have hk2 : gk Gb2 u = 19 := (hgr2.2.2.1 u (by omega)).1.trans hk1
  refine ZE.put d_Uni_init_14 f_Uni_16 (tg := 2) rfl trivial (Or.inr ⟨⟨_, _, _, rfl, rfl, rfl⟩, rfl⟩) hk2 ?_
  show ZE (d + 3) M_Uni_init (gw Gb2 (up2 A1 u 0 (u + 1))) 17 [(2, u), (0, q), (0, D), (2, f)] [] _
  refine ZE.aload_n d_Uni_init_17 rfl ?_
  refine ZE.new d_Uni_init_18 n_Uni_9 ?_
  rw [gnew_gw, show (gz (gw Gb2 (up2 A1 u 0 (u + 1))) : Int) = u + 3 from hz2]
  obtain ⟨Gn3, hE3⟩ : ∃ H1, H1 = gnew Gb2 10 2 (zInit 0) := ⟨_, rfl⟩
  rw [show gnew Gb2 (10 + 0) 2 (zInit 0) = Gn3 from hE3.symm, show (gz Gb2 : Int) = u + 3 from hz2]
  have hgr3 : gR Gb2 Gn3 1 2 := by rw [hE3]; exact gR.new
  have hkn3 : gk Gn3 (u + 3) = 10 ∧ gn Gn3 (u + 3) = (2 : Int) := by rw [hE3, show u + 3 = (gz Gb2 : Int) from hz2.symm]; exact ⟨gnew_gk, gnew_gn⟩
  have hz3 : (gz Gn3 : Int) = u + 4 := by have := hgr3.1; omega
  have hk3 : gk Gn3 u = 19 := (hgr3.2.2.1 u (by omega)).1.trans hk2
  skip
  refine ZE.dup d_Uni_init_21 (Or.inr rfl) ?_
  refine ZE.bipush (n := 8) d_Uni_init_22 rfl ?_
  refine ZE.cI [(0, 8)] [(2, u + 3), (2, u)] [(2, u + 3), (0, 8)] d_Uni_init_24 l_Uni_13 rfl rfl rfl rfl rfl rfl (by omega) ?_
  refine B_init (b := u + 3) (cap := 8) (hz3.trans (by omega)) (by omega) hkn3.1 (by omega) ((congrFun (upA_at _ _ _) 1).trans rfl) (fun Gb4 A3 hB3 hN3 hgr4 hA3 => ?_)
  show ZE (d + 3) M_Uni_init (gw Gb4 A3) 27 [(2, u), (0, q), (0, D), (2, f)] [(2, u + 3), (2, u)] _
  have hz4 : (gz Gb4 : Int) = u + 5 := by have := hgr4.1; omega
  have hk4 : gk Gb4 u = 19 := (hgr4.2.2.1 u (by omega)).1.trans hk3
  refine ZE.put d_Uni_init_27 f_Uni_20 (tg := 2) rfl trivial (Or.inr ⟨⟨_, _, _, rfl, rfl, rfl⟩, rfl⟩) hk4 ?_
  show ZE (d + 3) M_Uni_init (gw Gb4 (up2 A3 u 1 (u + 3))) 30 [(2, u), (0, q), (0, D), (2, f)] [] _
  refine ZE.aload_n d_Uni_init_30 rfl ?_
  refine ZE.bipush (n := 10) d_Uni_init_31 rfl ?_
  refine ZE.newI (n := 10) d_Uni_init_33 rfl (by omega) ?_
  rw [gnew_gw, show (gz (gw Gb4 (up2 A3 u 1 (u + 3))) : Int) = u + 5 from hz4]
  obtain ⟨Gn5, hE5⟩ : ∃ H1, H1 = gnew Gb4 1 10 (fun _ => 0) := ⟨_, rfl⟩
  rw [show gnew Gb4 1 10 (fun _ => 0) = Gn5 from hE5.symm, show (gz Gb4 : Int) = u + 5 from hz4]
  have hgr5 : gR Gb4 Gn5 1 10 := by rw [hE5]; exact gR.new
  have hkn5 : gk Gn5 (u + 5) = 1 ∧ gn Gn5 (u + 5) = (10 : Int) := by rw [hE5, show u + 5 = (gz Gb4 : Int) from hz4.symm]; exact ⟨gnew_gk, gnew_gn⟩
  have hz5 : (gz Gn5 : Int) = u + 6 := by have := hgr5.1; omega
  have hk5 : gk Gn5 u = 19 := (hgr5.2.2.1 u (by omega)).1.trans hk4
  skip
  refine ZE.put d_Uni_init_35 f_Uni_23 (tg := 2) rfl trivial (Or.inr ⟨⟨_, _, _, rfl, rfl, rfl⟩, rfl⟩) hk5 ?_
  show ZE (d + 3) M_Uni_init (gw Gn5 (up2 (upA (up2 A3 u 1 (u + 3)) (u + 5) (fun _ => 0)) u 6 (u + 5))) 38 [(2, u), (0, q), (0, D), (2, f)] [] _
  refine ZE.aload_n d_Uni_init_38 rfl ?_
  refine ZE.bipush (n := 10) d_Uni_init_39 rfl ?_
  refine ZE.newI (n := 10) d_Uni_init_41 rfl (by omega) ?_
  rw [gnew_gw, show (gz (gw Gn5 (up2 (upA (up2 A3 u 1 (u + 3)) (u + 5) (fun _ => 0)) u 6 (u + 5))) : Int) = u + 6 from hz5]
  obtain ⟨Gn6, hE6⟩ : ∃ H1, H1 = gnew Gn5 1 10 (fun _ => 0) := ⟨_, rfl⟩
  rw [show gnew Gn5 1 10 (fun _ => 0) = Gn6 from hE6.symm, show (gz Gn5 : Int) = u + 6 from hz5]
  have hgr6 : gR Gn5 Gn6 1 10 := by rw [hE6]; exact gR.new
  have hkn6 : gk Gn6 (u + 6) = 1 ∧ gn Gn6 (u + 6) = (10 : Int) := by rw [hE6, show u + 6 = (gz Gn5 : Int) from hz5.symm]; exact ⟨gnew_gk, gnew_gn⟩
  have hz6 : (gz Gn6 : Int) = u + 7 := by have := hgr6.1; omega
  have hk6 : gk Gn6 u = 19 := (hgr6.2.2.1 u (by omega)).1.trans hk5
  skip
  refine ZE.put d_Uni_init_43 f_Uni_27 (tg := 2) rfl trivial (Or.inr ⟨⟨_, _, _, rfl, rfl, rfl⟩, rfl⟩) hk6 ?_
  show ZE (d + 3) M_Uni_init (gw Gn6 (up2 (upA (up2 (upA (up2 A3 u 1 (u + 3)) (u + 5) (fun _ => 0)) u 6 (u + 5)) (u + 6) (fun _ => 0)) u 7 (u + 6))) 46 [(2, u), (0, q), (0, D), (2, f)] [] _
  refine ZE.aload_n d_Uni_init_46 rfl ?_
  refine ZE.bipush (n := 10) d_Uni_init_47 rfl ?_
  refine ZE.newI (n := 10) d_Uni_init_49 rfl (by omega) ?_
  rw [gnew_gw, show (gz (gw Gn6 (up2 (upA (up2 (upA (up2 A3 u 1 (u + 3)) (u + 5) (fun _ => 0)) u 6 (u + 5)) (u + 6) (fun _ => 0)) u 7 (u + 6))) : Int) = u + 7 from hz6]
  obtain ⟨Gn7, hE7⟩ : ∃ H1, H1 = gnew Gn6 1 10 (fun _ => 0) := ⟨_, rfl⟩
  rw [show gnew Gn6 1 10 (fun _ => 0) = Gn7 from hE7.symm, show (gz Gn6 : Int) = u + 7 from hz6]
  have hgr7 : gR Gn6 Gn7 1 10 := by rw [hE7]; exact gR.new
  have hkn7 : gk Gn7 (u + 7) = 1 ∧ gn Gn7 (u + 7) = (10 : Int) := by rw [hE7, show u + 7 = (gz Gn6 : Int) from hz6.symm]; exact ⟨gnew_gk, gnew_gn⟩
  have hz7 : (gz Gn7 : Int) = u + 8 := by have := hgr7.1; omega
  have hk7 : gk Gn7 u = 19 := (hgr7.2.2.1 u (by omega)).1.trans hk6
  skip
  refine ZE.put d_Uni_init_51 f_Uni_30 (tg := 2) rfl trivial (Or.inr ⟨⟨_, _, _, rfl, rfl, rfl⟩, rfl⟩) hk7 ?_
  show ZE (d + 3) M_Uni_init (gw Gn7 (up2 (upA (up2 (upA (up2 (upA (up2 A3 u 1 (u + 3)) (u + 5) (fun _ => 0)) u 6 (u + 5)) (u + 6) (fun _ => 0)) u 7 (u + 6)) (u + 7) (fun _ => 0)) u 8 (u + 7))) 54 [(2, u), (0, q), (0, D), (2, f)] [] _
  refine ZE.aload_n d_Uni_init_54 rfl ?_
  refine ZE.bipush (n := 10) d_Uni_init_55 rfl ?_
  refine ZE.newA (n := 10) (kd := 4) d_Uni_init_57 r_Uni_33 (Or.inr (Or.inl ⟨rfl, rfl⟩)) rfl (by omega) ?_
  rw [gnew_gw, show (gz (gw Gn7 (up2 (upA (up2 (upA (up2 (upA (up2 A3 u 1 (u + 3)) (u + 5) (fun _ => 0)) u 6 (u + 5)) (u + 6) (fun _ => 0)) u 7 (u + 6)) (u + 7) (fun _ => 0)) u 8 (u + 7))) : Int) = u + 8 from hz7]
  obtain ⟨Gn8, hE8⟩ : ∃ H1, H1 = gnew Gn7 4 10 (fun _ => -1) := ⟨_, rfl⟩
  rw [show gnew Gn7 4 10 (fun _ => -1) = Gn8 from hE8.symm, show (gz Gn7 : Int) = u + 8 from hz7]
  have hgr8 : gR Gn7 Gn8 1 10 := by rw [hE8]; exact gR.new
  have hkn8 : gk Gn8 (u + 8) = 4 ∧ gn Gn8 (u + 8) = (10 : Int) := by rw [hE8, show u + 8 = (gz Gn7 : Int) from hz7.symm]; exact ⟨gnew_gk, gnew_gn⟩
  have hz8 : (gz Gn8 : Int) = u + 9 := by have := hgr8.1; omega
  have hk8 : gk Gn8 u = 19 := (hgr8.2.2.1 u (by omega)).1.trans hk7
  skip
  refine ZE.put d_Uni_init_60 f_Uni_35 (tg := 2) rfl trivial (Or.inr ⟨⟨_, _, _, rfl, rfl, rfl⟩, rfl⟩) hk8 ?_
  show ZE (d + 3) M_Uni_init (gw Gn8 (up2 (upA (up2 (upA (up2 (upA (up2 (upA (up2 A3 u 1 (u + 3)) (u + 5) (fun _ => 0)) u 6 (u + 5)) (u + 6) (fun _ => 0)) u 7 (u + 6)) (u + 7) (fun _ => 0)) u 8 (u + 7)) (u + 8) (fun _ => -1)) u 9 (u + 8))) 63 [(2, u), (0, q), (0, D), (2, f)] [] _
  obtain ⟨A9, hA9⟩ : ∃ A9, A9 = up2 (upA (up2 (upA (up2 (upA (up2 (upA (up2 A3 u 1 (u + 3)) (u + 5) (fun _ => 0)) u 6 (u + 5)) (u + 6) (fun _ => 0)) u 7 (u + 6)) (u + 7) (fun _ => 0)) u 8 (u + 7)) (u + 8) (fun _ => -1)) u 9 (u + 8) := ⟨_, rfl⟩
  rw [← hA9]
  have hlow : ∀ a : Int, a < u → A9 a = A a := fun a ha => by
    rw [hA9]
    simp only [up2_A, upA_ne _ _ (show a ≠ u by omega), upA_ne _ _ (show a ≠ u + 5 by omega), upA_ne _ _ (show a ≠ u + 6 by omega), upA_ne _ _ (show a ≠ u + 7 by omega), upA_ne _ _ (show a ≠ u + 8 by omega)]
    rw [hA3 a (by omega)]
    simp only [up2_A, upA_ne _ _ (show a ≠ u by omega), upA_ne _ _ (show a ≠ u + 3 by omega)]
    rw [hA1 a (by omega), upA_ne _ _ (by omega)]
  have hx0 : bN A9 (u + 1) 0 := hN1.ab (fun a ha => by
    rw [hA9]
    simp only [up2_A, upA_ne _ _ (show a ≠ u by omega), upA_ne _ _ (show a ≠ u + 5 by omega), upA_ne _ _ (show a ≠ u + 6 by omega), upA_ne _ _ (show a ≠ u + 7 by omega), upA_ne _ _ (show a ≠ u + 8 by omega)]
    rw [hA3 a (by omega)]
    simp only [up2_A, upA_ne _ _ (show a ≠ u by omega), upA_ne _ _ (show a ≠ u + 3 by omega)])
  have hy0 : bN A9 (u + 3) 0 := hN3.ab (fun a ha => by
    rw [hA9]
    simp only [up2_A, upA_ne _ _ (show a ≠ u by omega), upA_ne _ _ (show a ≠ u + 5 by omega), upA_ne _ _ (show a ≠ u + 6 by omega), upA_ne _ _ (show a ≠ u + 7 by omega), upA_ne _ _ (show a ≠ u + 8 by omega)])
  have hu0 : A9 u 0 = u + 1 := by
    rw [hA9]
    simp only [up2_A, upA_at, upA_ne _ _ (show u ≠ u + 5 by omega), upA_ne _ _ (show u ≠ u + 6 by omega), upA_ne _ _ (show u ≠ u + 7 by omega), upA_ne _ _ (show u ≠ u + 8 by omega), up1_ne _ _ (show (0 : Int) ≠ 9 by omega), up1_ne _ _ (show (0 : Int) ≠ 8 by omega), up1_ne _ _ (show (0 : Int) ≠ 7 by omega), up1_ne _ _ (show (0 : Int) ≠ 6 by omega), up1_ne _ _ (show (0 : Int) ≠ 1 by omega)]
    rw [hA3 u (by omega)]
    simp only [up2_A, upA_at, upA_ne _ _ (show u ≠ u + 3 by omega)]
    exact up1_at _ _ _
  have hu1 : A9 u 1 = u + 3 := by
    rw [hA9]
    simp only [up2_A, upA_at, upA_ne _ _ (show u ≠ u + 5 by omega), upA_ne _ _ (show u ≠ u + 6 by omega), upA_ne _ _ (show u ≠ u + 7 by omega), upA_ne _ _ (show u ≠ u + 8 by omega), up1_ne _ _ (show (1 : Int) ≠ 9 by omega), up1_ne _ _ (show (1 : Int) ≠ 8 by omega), up1_ne _ _ (show (1 : Int) ≠ 7 by omega), up1_ne _ _ (show (1 : Int) ≠ 6 by omega)]
    exact up1_at _ _ _
  have hu6 : A9 u 6 = u + 5 := by
    rw [hA9]
    simp only [up2_A, upA_at, upA_ne _ _ (show u ≠ u + 5 by omega), upA_ne _ _ (show u ≠ u + 6 by omega), upA_ne _ _ (show u ≠ u + 7 by omega), upA_ne _ _ (show u ≠ u + 8 by omega), up1_ne _ _ (show (6 : Int) ≠ 9 by omega), up1_ne _ _ (show (6 : Int) ≠ 8 by omega), up1_ne _ _ (show (6 : Int) ≠ 7 by omega)]
    exact up1_at _ _ _
  have hu7 : A9 u 7 = u + 6 := by
    rw [hA9]
    simp only [up2_A, upA_at, upA_ne _ _ (show u ≠ u + 5 by omega), upA_ne _ _ (show u ≠ u + 6 by omega), upA_ne _ _ (show u ≠ u + 7 by omega), upA_ne _ _ (show u ≠ u + 8 by omega), up1_ne _ _ (show (7 : Int) ≠ 9 by omega), up1_ne _ _ (show (7 : Int) ≠ 8 by omega)]
    exact up1_at _ _ _
  have hu8 : A9 u 8 = u + 7 := by
    rw [hA9]
    simp only [up2_A, upA_at, upA_ne _ _ (show u ≠ u + 5 by omega), upA_ne _ _ (show u ≠ u + 6 by omega), upA_ne _ _ (show u ≠ u + 7 by omega), upA_ne _ _ (show u ≠ u + 8 by omega), up1_ne _ _ (show (8 : Int) ≠ 9 by omega)]
    exact up1_at _ _ _
  have hu9 : A9 u 9 = u + 8 := by
    rw [hA9]
    simp only [up2_A, upA_at, upA_ne _ _ (show u ≠ u + 5 by omega), upA_ne _ _ (show u ≠ u + 6 by omega), upA_ne _ _ (show u ≠ u + 7 by omega), upA_ne _ _ (show u ≠ u + 8 by omega)]
    exact up1_at _ _ _
  have hr7 : ∀ j : Int, A9 (u + 7) j = 0 := fun j => by
    rw [hA9]
    simp only [up2_A, upA_at, upA_ne _ _ (show u + 7 ≠ u by omega), upA_ne _ _ (show u + 7 ≠ u + 8 by omega)]
  have hS8 : gR Gn8 Gn8 0 0 := gR.rf
  have hS7 := hgr8.tr hS8
  have hS6 := hgr7.tr hS7
  have hS5 := hgr6.tr hS6
  have hS4 := hgr5.tr hS5
  have hS3 := hgr4.tr hS4
  have hS2 := hgr3.tr hS3
  have hS1 := hgr2.tr hS2
  have hS0 := hgr1.tr hS1
  skip
  have hbx : bK Gn8 (u + 1) 8 := hB1.gr hS2 (by omega)
  have hby : bK Gn8 (u + 3) 8 := hB3.gr hS4 (by omega)
  have hrw5 : gk Gn8 (u + 5) = 1 ∧ gn Gn8 (u + 5) = 10 := ⟨(hS5.2.2.1 (u + 5) (by omega)).1.trans hkn5.1, (hS5.2.2.1 (u + 5) (by omega)).2.trans hkn5.2⟩
  have hrw6 : gk Gn8 (u + 6) = 1 ∧ gn Gn8 (u + 6) = 10 := ⟨(hS6.2.2.1 (u + 6) (by omega)).1.trans hkn6.1, (hS6.2.2.1 (u + 6) (by omega)).2.trans hkn6.2⟩
  have hrw7 : gk Gn8 (u + 7) = 1 ∧ gn Gn8 (u + 7) = 10 := ⟨(hS7.2.2.1 (u + 7) (by omega)).1.trans hkn7.1, (hS7.2.2.1 (u + 7) (by omega)).2.trans hkn7.2⟩
  have hrw8 : gk Gn8 (u + 8) = 4 ∧ gn Gn8 (u + 8) = 10 := ⟨(hS8.2.2.1 (u + 8) (by omega)).1.trans hkn8.1, (hS8.2.2.1 (u + 8) (by omega)).2.trans hkn8.2⟩
  have huK : uK Gn8 u := ⟨hk8, h0, hbx, hby, hrw5, hrw6, hrw7, hrw8⟩
  exact k Gn8 A9 huK hlow hx0 hy0 ⟨hu0, hu1, hu6, hu7, hu8, hu9⟩ hr7 hS0
set_option maxRecDepth 20000 in
set_option maxHeartbeats 4000000 in
theorem u_initB {d : Nat} {G : zG} {A : Int → Int → Int} {P : Option zV → zG → Prop} {u : Int} (huK : uK G u) {f : Int} (hfK : fK G f) (hfO0 : fO A f) (hfu : f + 8 < u) {q D : Nat} (h1 : frD D) (hx0 : bN A (u + 1) 0) (hy0 : bN A (u + 3) 0) (hu0 : A u 0 = u + 1) (hu1 : A u 1 = u + 3) (hu6 : A u 6 = u + 5) (hu7 : A u 7 = u + 6) (hu8 : A u 8 = u + 7) (hu9 : A u 9 = u + 8) (k : ∀ A2, (A2 u 0 = u + 1 ∧ A2 u 1 = u + 3 ∧ A2 u 2 = (q : Int) ∧ A2 u 3 = (D : Int) ∧ A2 u 4 = (isq D : Int) ∧ A2 u 5 = (rnd D : Int) ∧ A2 u 6 = u + 5 ∧ A2 u 7 = u + 6 ∧ A2 u 8 = u + 7 ∧ A2 u 9 = u + 8) → bN A2 (u + 1) 0 → bN A2 (u + 3) 0 → fO A2 f → bN A2 (f + 1) (hfp D (isq D) (rnd D)) → bN A2 (f + 3) (hfr D (isq D) (rnd D)) → (∀ a : Int, a ≠ u → (a < f ∨ f + 8 < a) → A2 a = A a) → ZE (d + 3) M_Uni_init (gw G A2) 92 [(2, u), (0, (q : Int)), (0, (D : Int)), (2, f)] [] P) : ZE (d + 3) M_Uni_init (gw G A) 63 [(2, u), (0, (q : Int)), (0, (D : Int)), (2, f)] [] P := by
  have h1b := frD_b h1
  have hf0 := hfK.2.1
  have hbx := huK.2.2.1
  have hby := huK.2.2.2.1
  refine ZE.aload_n d_Uni_init_63 rfl ?_
  refine ZE.iload_n d_Uni_init_64 rfl ?_
  refine ZE.put d_Uni_init_65 f_Uni_39 (tg := 0) rfl trivial (Or.inr ⟨⟨_, _, _, rfl, rfl, rfl⟩, rfl⟩) huK.1 ?_
  show ZE (d + 3) M_Uni_init (gw G (up2 A u 2 (q : Int))) 68 [(2, u), (0, (q : Int)), (0, (D : Int)), (2, f)] [] _
  refine ZE.aload_n d_Uni_init_68 rfl ?_
  refine ZE.iload_n d_Uni_init_69 rfl ?_
  refine ZE.put d_Uni_init_70 f_Uni_43 (tg := 0) rfl trivial (Or.inr ⟨⟨_, _, _, rfl, rfl, rfl⟩, rfl⟩) huK.1 ?_
  show ZE (d + 3) M_Uni_init (gw G (up2 (up2 A u 2 (q : Int)) u 3 (D : Int))) 73 [(2, u), (0, (q : Int)), (0, (D : Int)), (2, f)] [] _
  refine ZE.aload_n d_Uni_init_73 rfl ?_
  refine ZE.iload_n d_Uni_init_74 rfl ?_
  refine ZE.i2l d_Uni_init_75 (by unfold zR; omega) ?_
  refine ZE.cS [(1, (D : Int))] [(2, u)] [(1, (D : Int)), (9, 0), (9, 0), (9, 0), (9, 0), (9, 0)] d_Uni_init_76 l_Uni_46 rfl rfl rfl rfl rfl rfl ?_
  refine p_rootOf (n := D) (by omega) (fun r hr1 hr2 hr3 => ?_)
  show ZE (d + 3) M_Uni_init (gw G (up2 (up2 A u 2 (q : Int)) u 3 (D : Int))) 79 [(2, u), (0, (q : Int)), (0, (D : Int)), (2, f)] [(1, (r : Int)), (2, u)] _
  have hri := isq_u h1 hr1 hr2
  rw [hri]
  refine ZE.l2i d_Uni_init_79 ?_
  refine ZE.put d_Uni_init_80 f_Uni_52 (tg := 0) rfl trivial (Or.inr ⟨⟨_, _, _, rfl, rfl, rfl⟩, rfl⟩) huK.1 ?_
  show ZE (d + 3) M_Uni_init (gw G (up2 (up2 (up2 A u 2 (q : Int)) u 3 (D : Int)) u 4 (isq D : Int))) 83 [(2, u), (0, (q : Int)), (0, (D : Int)), (2, f)] [] _
  refine ZE.aload_n d_Uni_init_83 rfl ?_
  refine ZE.aload_n d_Uni_init_84 rfl ?_
  refine ZE.iload_n d_Uni_init_85 rfl ?_
  refine ZE.cV [(0, (D : Int))] [(2, u)] [(2, f), (0, (D : Int)), (9, 0)] d_Uni_init_86 l_Uni_55 rfl rfl rfl rfl rfl rfl hfK.1 ?_
  refine f_round hfK (hfO0.ab (fun a ha1 ha2 => by rw [up2_A, upA_ne _ _ (by omega), up2_A, upA_ne _ _ (by omega), up2_A, upA_ne _ _ (by omega)])) h1 (fun B gB hfB hpB hrB => ?_)
  show ZE (d + 3) M_Uni_init (gw G B) 89 [(2, u), (0, (q : Int)), (0, (D : Int)), (2, f)] [(0, (rnd D : Int)), (2, u)] _
  refine ZE.put d_Uni_init_89 f_Uni_61 (tg := 0) rfl trivial (Or.inr ⟨⟨_, _, _, rfl, rfl, rfl⟩, rfl⟩) huK.1 ?_
  show ZE (d + 3) M_Uni_init (gw G (up2 B u 5 (rnd D : Int))) 92 [(2, u), (0, (q : Int)), (0, (D : Int)), (2, f)] [] _
  obtain ⟨B5, hB5⟩ : ∃ B5, B5 = up2 B u 5 (rnd D : Int) := ⟨_, rfl⟩
  rw [← hB5]
  have hv5 : B5 u 5 = (rnd D : Int) := by rw [hB5]; exact up2_at _ _ _ _
  have hv0 : B5 u 0 = A u 0 := by rw [hB5, up2_ne _ _ (by omega), gB u (by omega), up2_ne _ _ (by omega), up2_ne _ _ (by omega), up2_ne _ _ (by omega)]
  rw [hu0] at hv0
  have hv1 : B5 u 1 = A u 1 := by rw [hB5, up2_ne _ _ (by omega), gB u (by omega), up2_ne _ _ (by omega), up2_ne _ _ (by omega), up2_ne _ _ (by omega)]
  rw [hu1] at hv1
  have hv6 : B5 u 6 = A u 6 := by rw [hB5, up2_ne _ _ (by omega), gB u (by omega), up2_ne _ _ (by omega), up2_ne _ _ (by omega), up2_ne _ _ (by omega)]
  rw [hu6] at hv6
  have hv7 : B5 u 7 = A u 7 := by rw [hB5, up2_ne _ _ (by omega), gB u (by omega), up2_ne _ _ (by omega), up2_ne _ _ (by omega), up2_ne _ _ (by omega)]
  rw [hu7] at hv7
  have hv8 : B5 u 8 = A u 8 := by rw [hB5, up2_ne _ _ (by omega), gB u (by omega), up2_ne _ _ (by omega), up2_ne _ _ (by omega), up2_ne _ _ (by omega)]
  rw [hu8] at hv8
  have hv9 : B5 u 9 = A u 9 := by rw [hB5, up2_ne _ _ (by omega), gB u (by omega), up2_ne _ _ (by omega), up2_ne _ _ (by omega), up2_ne _ _ (by omega)]
  rw [hu9] at hv9
  have hv2 : B5 u 2 = (q : Int) := by rw [hB5, up2_ne _ _ (by omega), gB u (by omega), up2_ne _ _ (by omega), up2_ne _ _ (by omega), up2_at]
  have hv3 : B5 u 3 = (D : Int) := by rw [hB5, up2_ne _ _ (by omega), gB u (by omega), up2_ne _ _ (by omega), up2_at]
  have hv4 : B5 u 4 = (isq D : Int) := by rw [hB5, up2_ne _ _ (by omega), gB u (by omega), up2_at]
  have hrest : ∀ a : Int, a ≠ u → (a < f ∨ f + 8 < a) → B5 a = A a := fun a h1 h2 => by rw [hB5, up2_A, upA_ne _ _ h1, gB a (by omega), up2_A, upA_ne _ _ h1, up2_A, upA_ne _ _ h1, up2_A, upA_ne _ _ h1]
  have hfe : ∀ a : Int, f ≤ a → a ≤ f + 8 → B5 a = B a := fun a h1 h2 => by rw [hB5, up2_A, upA_ne _ _ (by omega)]
  have hf5 : fO B5 f := hfB.ab hfe
  have hw0 := hf5.1
  have hw1 := hf5.2.1
  have hp5 : bN B5 (f + 1) (hfp D (isq D) (rnd D)) := hpB.ab (fun a ha => hfe a (by omega) (by omega))
  have hr5 : bN B5 (f + 3) (hfr D (isq D) (rnd D)) := hrB.ab (fun a ha => hfe a (by omega) (by omega))
  have hx5 : bN B5 (u + 1) 0 := hx0.ab (fun a ha => hrest a (by omega) (by omega))
  have hy5 : bN B5 (u + 3) 0 := hy0.ab (fun a ha => hrest a (by omega) (by omega))
  exact k B5 ⟨hv0, hv1, hv2, hv3, hv4, hv5, hv6, hv7, hv8, hv9⟩ hx5 hy5 hf5 hp5 hr5 hrest
set_option maxRecDepth 20000 in
set_option maxHeartbeats 4000000 in
theorem u_initC {d : Nat} {G : zG} {A : Int → Int → Int} {P : Option zV → zG → Prop} {u : Int} (huK : uK G u) {f : Int} (hfK : fK G f) (hfO : fO A f) (hfu : f + 8 < u) {D p r R0 X1 Y1 : Nat} {q : Int} (hDb : 1 ≤ D ∧ D ≤ 2000000) (hRb : R0 ≤ 50) (h27 : p < 10 ^ 27 ∧ r < 10 ^ 27) (hev : R0 % 2 = 0 → X1 = p ∧ Y1 = r) (hodd : R0 % 2 = 1 → r * r * D = p * p + 1 ∧ X1 = p * p + r * r * D ∧ Y1 = p * r * 2) (n1 : R0 % 2 = 1 → nd 1000000000 (r * r * D) ≤ 7) (n2 : R0 % 2 = 1 → nd 1000000000 (p * p + r * r * D) ≤ 7) (n3 : nd 1000000000 (p * r * 2) ≤ 7) (np : nd 1000000000 p ≤ 3) (nr : nd 1000000000 r ≤ 3) (nrr : nd 1000000000 (r * r) ≤ 6) (npp : nd 1000000000 (p * p) ≤ 6) (npr : nd 1000000000 (p * r) ≤ 6) (hv0 : A u 0 = u + 1) (hv1 : A u 1 = u + 3) (hv5 : A u 5 = (R0 : Int)) (hx5 : bN A (u + 1) 0) (hy5 : bN A (u + 3) 0) (hp5 : bN A (f + 1) p) (hr5 : bN A (f + 3) r) (k : ∀ C, (∀ a : Int, a < u + 1 ∨ u + 4 < a → C a = A a) → bN C (u + 1) X1 → bN C (u + 3) Y1 → P none (gw G C)) : ZE (d + 3) M_Uni_init (gw G A) 92 [(2, u), (0, q), (0, (D : Int)), (2, f)] [] P := by
  have hf0 := hfK.2.1
  have hbx := huK.2.2.1
  have hby := huK.2.2.2.1
  have hw0 := hfO.1
  have hw1 := hfO.2.1
  have hz0 : nd 1000000000 0 = 0 := rfl
  refine ZE.aload_n d_Uni_init_92 rfl ?_
  refine ZE.getE (v := (R0 : Int)) d_Uni_init_93 f_Uni_61 (tg := 0) rfl huK.1 hv5 ?_
  refine ZE.iconst (n := 2) d_Uni_init_96 ?_
  refine ZE.iremP d_Uni_init_97 (by omega) ?_
  rw [show ((R0 : Int) % 2 : Int) = ((R0 % 2 : Nat) : Int) from (by omega)]
  refine ZE.if_ne (tgt := 126) d_Uni_init_98 rfl (by unfold zR; omega) (fun c98 => ?_) (fun c98 => ?_)
  · replace n1 := n1 (by omega)
    replace n2 := n2 (by omega)
    refine ZE.aload_n d_Uni_init_126 rfl ?_
    refine ZE.getE (v := u + 3) d_Uni_init_127 f_Uni_20 (tg := 2) rfl huK.1 hv1 ?_
    refine ZE.aload_n d_Uni_init_130 rfl ?_
    refine ZE.getE (v := f + 3) d_Uni_init_131 f_Uni_71 (tg := 2) rfl hfK.1 hw1 ?_
    refine ZE.aload_n d_Uni_init_134 rfl ?_
    refine ZE.getE (v := f + 3) d_Uni_init_135 f_Uni_71 (tg := 2) rfl hfK.1 hw1 ?_
    refine ZE.cV [(2, f + 3), (2, f + 3)] [] [(2, u + 3), (2, f + 3), (2, f + 3), (9, 0), (9, 0), (9, 0), (9, 0), (9, 0), (9, 0), (9, 0), (9, 0)] d_Uni_init_138 l_Uni_74 rfl rfl rfl rfl rfl rfl hby.1 ?_
    refine B_setProduct hby hy5.1 hfK.2.2.2.1 hr5 hfK.2.2.2.1 hr5 (by omega) (by omega) (by omega) (by omega) (by omega) (fun C1 fC1 nC1 => ?_)
    show ZE (d + 3) M_Uni_init (gw G C1) 141 [(2, u), (0, q), (0, (D : Int)), (2, f)] [] _
    have gC1 : ∀ a : Int, a < u + 1 ∨ u + 4 < a → C1 a = A a := fun a ha => fC1 a (by omega) (by omega)
    have hq1 : bN C1 (f + 1) p := hp5.fr fC1 (by omega)
    have hq4 : bN C1 (f + 3) r := hr5.fr fC1 (by omega)
    have hq2 : bN C1 (u + 1) 0 := hx5.fr fC1 (by omega)
    refine ZE.aload_n d_Uni_init_141 rfl ?_
    refine ZE.getE (v := u + 3) d_Uni_init_142 f_Uni_20 (tg := 2) rfl huK.1 (show C1 u 1 = u + 3 by rw [gC1 u (by omega)]; exact hv1) ?_
    refine ZE.iload_n d_Uni_init_145 rfl ?_
    refine ZE.cV [(0, (D : Int))] [] [(2, u + 3), (0, (D : Int)), (9, 0), (9, 0), (9, 0), (9, 0), (9, 0)] d_Uni_init_146 l_Uni_78 rfl rfl rfl rfl rfl rfl hby.1 ?_
    refine B_multiply hby nC1 (f := D) (by omega) (by omega) (by omega) (by omega) (fun C2 fC2 nC2 => ?_)
    show ZE (d + 3) M_Uni_init (gw G C2) 149 [(2, u), (0, q), (0, (D : Int)), (2, f)] [] _
    have gC2 : ∀ a : Int, a < u + 1 ∨ u + 4 < a → C2 a = A a := fun a ha => (fC2 a (by omega) (by omega)).trans (gC1 a ha)
    have hq5 : bN C2 (f + 1) p := hq1.fr fC2 (by omega)
    have hq6 : bN C2 (f + 3) r := hq4.fr fC2 (by omega)
    have hq7 : bN C2 (u + 1) 0 := hq2.fr fC2 (by omega)
    refine ZE.aload_n d_Uni_init_149 rfl ?_
    refine ZE.getE (v := u + 1) d_Uni_init_150 f_Uni_16 (tg := 2) rfl huK.1 (show C2 u 0 = u + 1 by rw [gC2 u (by omega)]; exact hv0) ?_
    refine ZE.aload_n d_Uni_init_153 rfl ?_
    refine ZE.getE (v := f + 1) d_Uni_init_154 f_Uni_64 (tg := 2) rfl hfK.1 (show C2 f 0 = f + 1 by rw [gC2 f (by omega)]; exact hw0) ?_
    refine ZE.aload_n d_Uni_init_157 rfl ?_
    refine ZE.getE (v := f + 1) d_Uni_init_158 f_Uni_64 (tg := 2) rfl hfK.1 (show C2 f 0 = f + 1 by rw [gC2 f (by omega)]; exact hw0) ?_
    refine ZE.cV [(2, f + 1), (2, f + 1)] [] [(2, u + 1), (2, f + 1), (2, f + 1), (9, 0), (9, 0), (9, 0), (9, 0), (9, 0), (9, 0), (9, 0), (9, 0)] d_Uni_init_161 l_Uni_74 rfl rfl rfl rfl rfl rfl hbx.1 ?_
    refine B_setProduct hbx hq7.1 hfK.2.2.1 hq5 hfK.2.2.1 hq5 (by omega) (by omega) (by omega) (by omega) (by omega) (fun C3 fC3 nC3 => ?_)
    show ZE (d + 3) M_Uni_init (gw G C3) 164 [(2, u), (0, q), (0, (D : Int)), (2, f)] [] _
    have gC3 : ∀ a : Int, a < u + 1 ∨ u + 4 < a → C3 a = A a := fun a ha => (fC3 a (by omega) (by omega)).trans (gC2 a ha)
    have hq8 : bN C3 (f + 1) p := hq5.fr fC3 (by omega)
    have hq9 : bN C3 (f + 3) r := hq6.fr fC3 (by omega)
    have hq10 := nC2.fr fC3 (by omega)
    refine ZE.aload_n d_Uni_init_164 rfl ?_
    refine ZE.getE (v := u + 1) d_Uni_init_165 f_Uni_16 (tg := 2) rfl huK.1 (show C3 u 0 = u + 1 by rw [gC3 u (by omega)]; exact hv0) ?_
    refine ZE.aload_n d_Uni_init_168 rfl ?_
    refine ZE.getE (v := u + 3) d_Uni_init_169 f_Uni_20 (tg := 2) rfl huK.1 (show C3 u 1 = u + 3 by rw [gC3 u (by omega)]; exact hv1) ?_
    refine ZE.cV [(2, u + 3)] [] [(2, u + 1), (2, u + 3), (9, 0), (9, 0), (9, 0)] d_Uni_init_172 l_Uni_81 rfl rfl rfl rfl rfl rfl hbx.1 ?_
    refine B_plus hbx nC3 hby hq10 (by omega) (by omega) (by omega) (by omega) (by omega) (fun C4 fC4 nC4 => ?_)
    show ZE (d + 3) M_Uni_init (gw G C4) 175 [(2, u), (0, q), (0, (D : Int)), (2, f)] [] _
    have gC4 : ∀ a : Int, a < u + 1 ∨ u + 4 < a → C4 a = A a := fun a ha => (fC4 a (by omega) (by omega)).trans (gC3 a ha)
    have hq11 : bN C4 (f + 1) p := hq8.fr fC4 (by omega)
    have hq12 : bN C4 (f + 3) r := hq9.fr fC4 (by omega)
    have hq13 := hq10.fr fC4 (by omega)
    refine ZE.aload_n d_Uni_init_175 rfl ?_
    refine ZE.getE (v := u + 3) d_Uni_init_176 f_Uni_20 (tg := 2) rfl huK.1 (show C4 u 1 = u + 3 by rw [gC4 u (by omega)]; exact hv1) ?_
    refine ZE.aload_n d_Uni_init_179 rfl ?_
    refine ZE.getE (v := f + 1) d_Uni_init_180 f_Uni_64 (tg := 2) rfl hfK.1 (show C4 f 0 = f + 1 by rw [gC4 f (by omega)]; exact hw0) ?_
    refine ZE.aload_n d_Uni_init_183 rfl ?_
    refine ZE.getE (v := f + 3) d_Uni_init_184 f_Uni_71 (tg := 2) rfl hfK.1 (show C4 f 1 = f + 3 by rw [gC4 f (by omega)]; exact hw1) ?_
    refine ZE.cV [(2, f + 1), (2, f + 3)] [] [(2, u + 3), (2, f + 1), (2, f + 3), (9, 0), (9, 0), (9, 0), (9, 0), (9, 0), (9, 0), (9, 0), (9, 0)] d_Uni_init_187 l_Uni_74 rfl rfl rfl rfl rfl rfl hby.1 ?_
    refine B_setProduct hby hq13.1 hfK.2.2.1 hq11 hfK.2.2.2.1 hq12 (by omega) (by omega) (by omega) (by omega) (by omega) (fun C5 fC5 nC5 => ?_)
    show ZE (d + 3) M_Uni_init (gw G C5) 190 [(2, u), (0, q), (0, (D : Int)), (2, f)] [] _
    have gC5 : ∀ a : Int, a < u + 1 ∨ u + 4 < a → C5 a = A a := fun a ha => (fC5 a (by omega) (by omega)).trans (gC4 a ha)
    have hq14 := nC4.fr fC5 (by omega)
    refine ZE.aload_n d_Uni_init_190 rfl ?_
    refine ZE.getE (v := u + 3) d_Uni_init_191 f_Uni_20 (tg := 2) rfl huK.1 (show C5 u 1 = u + 3 by rw [gC5 u (by omega)]; exact hv1) ?_
    refine ZE.iconst (n := 2) d_Uni_init_194 ?_
    refine ZE.cV [(0, 2)] [] [(2, u + 3), (0, 2), (9, 0), (9, 0), (9, 0), (9, 0), (9, 0)] d_Uni_init_195 l_Uni_78 rfl rfl rfl rfl rfl rfl hby.1 ?_
    refine B_multiply hby nC5 (f := 2) (by omega) (by omega) (by omega) (by omega) (fun C6 fC6 nC6 => ?_)
    show ZE (d + 3) M_Uni_init (gw G C6) 198 [(2, u), (0, q), (0, (D : Int)), (2, f)] [] _
    have gC6 : ∀ a : Int, a < u + 1 ∨ u + 4 < a → C6 a = A a := fun a ha => (fC6 a (by omega) (by omega)).trans (gC5 a ha)
    have hq15 := hq14.fr fC6 (by omega)
    refine ZE.vret d_Uni_init_198 rfl ?_
    exact k C6 gC6 (by rw [(hodd (by omega)).2.1]; exact hq15) (by rw [(hodd (by omega)).2.2]; exact nC6)
  · refine ZE.aload_n d_Uni_init_101 rfl ?_
    refine ZE.getE (v := u + 1) d_Uni_init_102 f_Uni_16 (tg := 2) rfl huK.1 hv0 ?_
    refine ZE.aload_n d_Uni_init_105 rfl ?_
    refine ZE.getE (v := f + 1) d_Uni_init_106 f_Uni_64 (tg := 2) rfl hfK.1 hw0 ?_
    refine ZE.cV [(2, f + 1)] [] [(2, u + 1), (2, f + 1), (9, 0)] d_Uni_init_109 l_Uni_67 rfl rfl rfl rfl rfl rfl hbx.1 ?_
    refine B_copy hbx hx5.1 hfK.2.2.1 hp5 (by omega) (by omega) (by omega) (fun C1 fC1 nC1 => ?_)
    show ZE (d + 3) M_Uni_init (gw G C1) 112 [(2, u), (0, q), (0, (D : Int)), (2, f)] [] _
    have gC1 : ∀ a : Int, a < u + 1 ∨ u + 4 < a → C1 a = A a := fun a ha => fC1 a (by omega) (by omega)
    have hq1 : bN C1 (f + 3) r := hr5.fr fC1 (by omega)
    have hq2 : bN C1 (u + 3) 0 := hy5.fr fC1 (by omega)
    refine ZE.aload_n d_Uni_init_112 rfl ?_
    refine ZE.getE (v := u + 3) d_Uni_init_113 f_Uni_20 (tg := 2) rfl huK.1 (show C1 u 1 = u + 3 by rw [gC1 u (by omega)]; exact hv1) ?_
    refine ZE.aload_n d_Uni_init_116 rfl ?_
    refine ZE.getE (v := f + 3) d_Uni_init_117 f_Uni_71 (tg := 2) rfl hfK.1 (show C1 f 1 = f + 3 by rw [gC1 f (by omega)]; exact hw1) ?_
    refine ZE.cV [(2, f + 3)] [] [(2, u + 3), (2, f + 3), (9, 0)] d_Uni_init_120 l_Uni_67 rfl rfl rfl rfl rfl rfl hby.1 ?_
    refine B_copy hby hq2.1 hfK.2.2.2.1 hq1 (by omega) (by omega) (by omega) (fun C2 fC2 nC2 => ?_)
    show ZE (d + 3) M_Uni_init (gw G C2) 123 [(2, u), (0, q), (0, (D : Int)), (2, f)] [] _
    have gC2 : ∀ a : Int, a < u + 1 ∨ u + 4 < a → C2 a = A a := fun a ha => (fC2 a (by omega) (by omega)).trans (gC1 a ha)
    have hq3 : bN C2 (u + 1) p := nC1.fr fC2 (by omega)
    refine ZE.goto (tgt := 198) d_Uni_init_123 rfl ?_
    refine ZE.vret d_Uni_init_198 rfl ?_
    exact k C2 gC2 (by rw [(hev (by omega)).1]; exact hq3) (by rw [(hev (by omega)).2]; exact nC2)
theorem u_init {d : Nat} {G : zG} {A : Int → Int → Int} {P : Option zV → zG → Prop} {u : Int} (hz : (gz G : Int) = u + 1) (h0 : 0 ≤ u) (hk : gk G u = 19) {f : Int} (hf : fK G f) (hO : fO A f) (hfu : f + 8 < u) {q D : Nat} (h1 : frD D) (k : ∀ G2 A2, uK G2 u → uO A2 u q D → (∀ j : Int, A2 (u + 7) j = 0) → (∀ a : Int, a < u → (a < f ∨ f + 8 < a) → A2 a = A a) → fO A2 f → gR G G2 8 60 → P none (gw G2 A2)) : ZE (d + 3) M_Uni_init (gw G A) 0 [(2, u), (0, (q : Int)), (0, (D : Int)), (2, f)] [] P := by
  refine u_initA hz h0 hk (fun G2 A2 h1k h2k h3k h4k h5k h6k h7k => ?_)
  have hf0 := hf.2.1
  have h27 := hf27 h1
  have hb := frD_b h1
  have s55 := sq54 h27.1 h27.1
  have s56 := sq54 h27.1 h27.2
  refine u_initB h1k (hf.gr h7k (by omega)) (hO.ab (fun a h1 h2 => h2k a (by omega))) hfu h1 h3k h4k h5k.1 h5k.2.1 h5k.2.2.1 h5k.2.2.2.1 h5k.2.2.2.2.1 h5k.2.2.2.2.2 (fun B g1 gx gy gf gp gq gr => ?_)
  have hod : rnd D % 2 = 1 → hfr D (isq D) (rnd D) * hfr D (isq D) (rnd D) * D = hfp D (isq D) (rnd D) * hfp D (isq D) (rnd D) + 1 := fun ho => odd_id h1 ho
  have hX : rnd D % 2 = 1 → ux D = hfp D (isq D) (rnd D) * hfp D (isq D) (rnd D) * 2 + 1 ∧ uy D = hfp D (isq D) (rnd D) * hfr D (isq D) (rnd D) * 2 := fun ho => by
    unfold ux uy unx uny
    rw [if_pos ho, if_pos ho]
    exact ⟨rfl, rfl⟩
  have hX0 : rnd D % 2 = 0 → ux D = hfp D (isq D) (rnd D) ∧ uy D = hfr D (isq D) (rnd D) := fun ho => by
    unfold ux uy unx uny
    rw [if_neg (by omega), if_neg (by omega)]
    exact ⟨rfl, rfl⟩
  have hD1 : 1 ≤ D := by
    have h2 := (frD_cf h1).2.2
    rcases Nat.eq_zero_or_pos D with q | q
    · subst q
      have h3 := (frD_cf h1).1.1 0 (by omega)
      exact absurd h3 (by decide)
    · exact q
  have hB5 := g1
  refine u_initC (p := hfp D (isq D) (rnd D)) (r := hfr D (isq D) (rnd D)) (R0 := rnd D) (X1 := ux D) (Y1 := uy D) h1k (hf.gr h7k (by omega)) gf hfu ⟨hD1, hb.1⟩ hb.2.2.1 h27 hX0 ?_ ?_ ?_ (nB63 (by generalize hfp D (isq D) (rnd D) = p at *; generalize hfr D (isq D) (rnd D) = r at *; omega)) (nB27 h27.1) (nB27 h27.2) (nB54 h27.2 h27.2) (nB54 h27.1 h27.1) (nB54 h27.1 h27.2) g1.1 g1.2.1 g1.2.2.2.2.2.1 gx gy gp gq (fun C gC nx ny => ?_)
  · intro ho
    have e1 := hod ho
    have e2 := hX ho
    refine ⟨e1, ?_, e2.2⟩
    rw [e2.1, e1]
    generalize hfp D (isq D) (rnd D) * hfp D (isq D) (rnd D) = p
    omega
  · intro ho
    have e1 := hod ho
    rw [e1]
    refine nB63 ?_
    generalize hfp D (isq D) (rnd D) * hfp D (isq D) (rnd D) = p at s55 ⊢
    omega
  · intro ho
    have e1 := hod ho
    rw [e1]
    refine nB63 ?_
    generalize hfp D (isq D) (rnd D) * hfp D (isq D) (rnd D) = p at s55 ⊢
    omega
  have eu := gC u (by omega)
  refine k G2 C h1k ⟨?_, ?_, ?_, ?_, ?_, ?_, ?_, ?_, ?_, ?_, nx, ny⟩ (fun j => ?_) (fun a h1 h2 => ?_) (gf.ab (fun a h1 h2 => gC a (by omega))) h7k
  · rw [eu]; exact g1.1
  · rw [eu]; exact g1.2.1
  · rw [eu]; exact g1.2.2.1
  · rw [eu]; exact g1.2.2.2.1
  · rw [eu]; exact g1.2.2.2.2.1
  · rw [eu]; exact g1.2.2.2.2.2.1
  · rw [eu]; exact g1.2.2.2.2.2.2.1
  · rw [eu]; exact g1.2.2.2.2.2.2.2.1
  · rw [eu]; exact g1.2.2.2.2.2.2.2.2.1
  · rw [eu]; exact g1.2.2.2.2.2.2.2.2.2
  · rw [gC (u + 7) (by omega), gr (u + 7) (by omega) (by omega)]; exact h6k j
  · rw [gC a (by omega), gr a (by omega) h2]; exact h2k a h1
