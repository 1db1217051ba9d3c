theorem fO.bg {A B : Int → Int → Int} {f b : Int} {v : Nat} (h : fO A f) (g : bF A B b) (hb : b = f + 1 ∨ b = f + 3 ∨ b = f + 5 ∨ b = f + 7) (hn : bN B b v) : fO B f := by
  obtain ⟨h0, h1, h2, h3, h4, h5, h6, h7⟩ := h
  have e0 : B f = A f := g f (by omega) (by omega)
  have hx : ∀ c : Int, (c = f + 1 ∨ c = f + 3 ∨ c = f + 5 ∨ c = f + 7) → A c 0 = c + 1 → B c 0 = c + 1 := fun c hc hA => by
    by_cases q : c = b
    · subst q; exact hn.1
    · rw [g c q (by omega)]; exact hA
  exact ⟨by rw [e0]; exact h0, by rw [e0]; exact h1, by rw [e0]; exact h2, by rw [e0]; exact h3, hx _ (Or.inl rfl) h4, hx _ (Or.inr (Or.inl rfl)) h5, hx _ (Or.inr (Or.inr (Or.inl rfl))) h6, hx _ (Or.inr (Or.inr (Or.inr rfl))) h7⟩
theorem goC.row {A B : Int → Int → Int} {f : Int} {D r : Nat} {s : cS} (h : goC A f D r s) (e : B f = A f) : goC B f D r s := by unfold goC; rw [e]; exact h
theorem b2F.fO {A B : Int → Int → Int} {f b c : Int} {v u : Nat} (h : fO A f) (g : b2F A B b c) (hb : (b = f + 1 ∧ c = f + 5) ∨ (b = f + 3 ∧ c = f + 7)) (hn : bN B b v) (hm : bN B c u) : fO B f := by
  obtain ⟨h0, h1, h2, h3, h4, h5, h6, h7⟩ := h
  have e0 : B f = A f := g f (by omega) (by omega) (by omega) (by omega)
  have hx : ∀ e : Int, (e = f + 1 ∨ e = f + 3 ∨ e = f + 5 ∨ e = f + 7) → A e 0 = e + 1 → B e 0 = e + 1 := fun e he hA => by
    by_cases q : e = b
    · subst q; exact hn.1
    · by_cases q2 : e = c
      · subst q2; exact hm.1
      · rw [g e q (by omega) q2 (by omega)]; exact hA
  exact ⟨by rw [e0]; exact h0, by rw [e0]; exact h1, by rw [e0]; exact h2, by rw [e0]; exact h3, hx _ (Or.inl rfl) h4, hx _ (Or.inr (Or.inl rfl)) h5, hx _ (Or.inr (Or.inr (Or.inl rfl))) h6, hx _ (Or.inr (Or.inr (Or.inr rfl))) h7⟩
theorem bN.fl {A B : Int → Int → Int} {f b : Int} {v : Nat} (h : bN A b v) (g : flF A B f) (h1 : b ≠ f ∧ b + 1 ≠ f) : bN B b v := by
  have e1 : B b = A b := g.1 b h1.1
  have e2 : B (b + 1) = A (b + 1) := g.1 (b + 1) h1.2
  unfold bN
  rw [e1, e2]
  exact h
theorem bN.b2 {A C : Int → Int → Int} {b b2 c : Int} {v : Nat} (h : bN A c v) (g : b2F A C b b2) (h1 : c ≠ b ∧ c ≠ b + 1 ∧ c + 1 ≠ b ∧ c + 1 ≠ b + 1) (h2 : c ≠ b2 ∧ c ≠ b2 + 1 ∧ c + 1 ≠ b2 ∧ c + 1 ≠ b2 + 1) : bN C c v := by
  have e1 : C c = A c := g c h1.1 h1.2.1 h2.1 h2.2.1
  have e2 : C (c + 1) = A (c + 1) := g (c + 1) h1.2.2.1 h1.2.2.2 h2.2.2.1 h2.2.2.2
  unfold bN
  rw [e1, e2]
  exact h
set_option maxRecDepth 20000 in
set_option maxHeartbeats 4000000 in
theorem f_round {d : Nat} {G : zG} {A : Int → Int → Int} {P : Option zV → zG → Prop}  {f : Int} (hf : fK G f) (hO : fO A f) {D : Nat} (hD : frD D) (k : ∀ B, rF A B f (f + 8) → fO B f → bN B (f + 1) (hfp D (isq D) (rnd D)) → bN B (f + 3) (hfr D (isq D) (rnd D)) → P (some (0, (rnd D : Int))) (gw G B)) : ZE (d + 2) M_Fra_walkRound (gw G A) 0 [(2, f), (0, (D : Int)), (9, 0)] [] P := by
  have hDb := frD_b hD
  have hcf := (frD_cf hD).1
  have hf0 := hf.2.1
  refine ZE.aload_n d_Fra_walkRound_0 rfl ?_
  refine ZE.iload_n d_Fra_walkRound_1 rfl ?_
  refine ZE.cV [(0, (D : Int))] [] [(2, f), (0, (D : Int))] d_Fra_walkRound_2 l_Fra_51 rfl rfl rfl rfl rfl rfl hf.1 ?_
  refine f_begin hf hO hD (fun B0 g0 hg0 => ?_)
  show ZE (d + 2) M_Fra_walkRound (gw G B0) 5 [(2, f), (0, (D : Int)), (9, 0)] [] _
  have oB0 : fO B0 f := hO.fl g0
  refine ZE.aload_n d_Fra_walkRound_5 rfl ?_
  refine ZE.getE (v := f + 5) d_Fra_walkRound_6 f_Fra_23 (tg := 2) rfl hf.1 oB0.2.2.1 ?_
  refine ZE.iconst (n := 1) d_Fra_walkRound_9 ?_
  refine ZE.cV [(0, 1)] [] [(2, f + 5), (0, 1)] d_Fra_walkRound_10 l_Fra_58 rfl rfl rfl rfl rfl rfl hf.2.2.2.2.1.1 ?_
  refine B_setTo (v := 1) hf.2.2.2.2.1 oB0.2.2.2.2.2.2.1 (by omega) (fun B1 g1 n1 => ?_)
  show ZE (d + 2) M_Fra_walkRound (gw G B1) 13 [(2, f), (0, (D : Int)), (9, 0)] [] _
  have oB1 : fO B1 f := oB0.bg g1 (by omega) n1
  have hg1 : goC B1 f D (isq D) (0, 1, isq D) := hg0.row (g1 f (by omega) (by omega))
  refine ZE.aload_n d_Fra_walkRound_13 rfl ?_
  refine ZE.getE (v := f + 7) d_Fra_walkRound_14 f_Fra_26 (tg := 2) rfl hf.1 oB1.2.2.2.1 ?_
  refine ZE.iconst (n := 0) d_Fra_walkRound_17 ?_
  refine ZE.cV [(0, 0)] [] [(2, f + 7), (0, 0)] d_Fra_walkRound_18 l_Fra_58 rfl rfl rfl rfl rfl rfl hf.2.2.2.2.2.1 ?_
  refine B_setTo (v := 0) hf.2.2.2.2.2 oB1.2.2.2.2.2.2.2 (by omega) (fun B2 g2 n2 => ?_)
  show ZE (d + 2) M_Fra_walkRound (gw G B2) 21 [(2, f), (0, (D : Int)), (9, 0)] [] _
  have oB2 : fO B2 f := oB1.bg g2 (by omega) n2
  have hg2 : goC B2 f D (isq D) (0, 1, isq D) := hg1.row (g2 f (by omega) (by omega))
  refine ZE.aload_n d_Fra_walkRound_21 rfl ?_
  refine ZE.getE (v := f + 1) d_Fra_walkRound_22 f_Fra_16 (tg := 2) rfl hf.1 oB2.1 ?_
  refine ZE.aload_n d_Fra_walkRound_25 rfl ?_
  refine ZE.getE (v := (isq D : Int)) d_Fra_walkRound_26 f_Fra_39 (tg := 0) rfl hf.1 hg2.2.1 ?_
  refine ZE.cV [(0, (isq D : Int))] [] [(2, f + 1), (0, (isq D : Int))] d_Fra_walkRound_29 l_Fra_58 rfl rfl rfl rfl rfl rfl hf.2.2.1.1 ?_
  refine B_setTo (v := isq D) hf.2.2.1 oB2.2.2.2.2.1 (by omega) (fun B3 g3 n3 => ?_)
  show ZE (d + 2) M_Fra_walkRound (gw G B3) 32 [(2, f), (0, (D : Int)), (9, 0)] [] _
  have oB3 : fO B3 f := oB2.bg g3 (by omega) n3
  have hg3 : goC B3 f D (isq D) (0, 1, isq D) := hg2.row (g3 f (by omega) (by omega))
  refine ZE.aload_n d_Fra_walkRound_32 rfl ?_
  refine ZE.getE (v := f + 3) d_Fra_walkRound_33 f_Fra_20 (tg := 2) rfl hf.1 oB3.2.1 ?_
  refine ZE.iconst (n := 1) d_Fra_walkRound_36 ?_
  refine ZE.cV [(0, 1)] [] [(2, f + 3), (0, 1)] d_Fra_walkRound_37 l_Fra_58 rfl rfl rfl rfl rfl rfl hf.2.2.2.1.1 ?_
  refine B_setTo (v := 1) hf.2.2.2.1 oB3.2.2.2.2.2.1 (by omega) (fun B4 g4 n4 => ?_)
  show ZE (d + 2) M_Fra_walkRound (gw G B4) 40 [(2, f), (0, (D : Int)), (9, 0)] [] _
  have oB4 : fO B4 f := oB3.bg g4 (by omega) n4
  have hg4 : goC B4 f D (isq D) (0, 1, isq D) := hg3.row (g4 f (by omega) (by omega))
  have gAll : rF A B4 f (f + 8) := (((g0.rg.tr (g1.rg (by omega) (by omega))).tr (g2.rg (by omega) (by omega))).tr (g3.rg (by omega) (by omega))).tr (g4.rg (by omega) (by omega))
  refine ZE.iconst (n := 1) d_Fra_walkRound_40 ?_
  refine ZE.istore_n (ls2 := [(2, f), (0, (D : Int)), (0, 1)]) d_Fra_walkRound_41 (Nat.le_of_ble_eq_true rfl) rfl ?_
  have L42 : ∀ (tt0 : Nat) (j : Nat) (B : Int → Int → Int) (hj : j < rnd D) (gB : rF A B f (f + 8)) (oB : fO B f) (hgB : goC B f D (isq D) (cf D (isq D) j)) (np : bN B (f + 1) (ns D (isq D) j).1) (nr : bN B (f + 3) (ns D (isq D) j).2.2.1) (na : bN B (f + 5) (ns D (isq D) j).2.1) (nb : bN B (f + 7) (ns D (isq D) j).2.2.2), rnd D - j < tt0 → ZE (d + 2) M_Fra_walkRound (gw G B) 42 [(2, f), (0, (D : Int)), (0, (j : Int) + 1)] [] P := by
    intro tt0
    induction tt0 with
    | zero => intro j B hj gB oB hgB np nr na nb hm; exact absurd hm (Nat.not_lt_zero _)
    | succ tt0 ih =>
      intro j B hj gB oB hgB np nr na nb hm
      have hca := CFok.a hcf (k := j + 1) (by omega)
      have hnj := frD_ns hD hj
      have hn1 := nB27 hnj.1
      have hn2 := nB27 hnj.2.2.1
      have hn3 := nd_mono (b := 1000000000) (by omega) hnj.2.1
      have hn4 := nd_mono (b := 1000000000) (by omega) hnj.2.2.2.1
      refine ZE.iload_n d_Fra_walkRound_42 rfl ?_
      refine ZE.ldc (v := 1000000) d_Fra_walkRound_43 k_Fra_54 ?_
      refine ZE.icmp_ge (tgt := 98) d_Fra_walkRound_45 rfl (by unfold zR; omega) (by unfold zR; omega) (fun c45 => ?_) (fun c45 => ?_)
      · exact absurd c45 (by omega)
      · refine ZE.aload_n d_Fra_walkRound_48 rfl ?_
        refine ZE.cV [] [] [(2, f)] d_Fra_walkRound_49 l_Fra_55 rfl rfl rfl rfl rfl rfl hf.1 ?_
        refine f_advance (s := cf D (isq D) j) hf oB hgB (hcf.1 j (by omega)) ⟨hDb.1, hDb.2.1⟩ (fun C gC hgC => ?_)
        show ZE (d + 2) M_Fra_walkRound (gw G C) 52 [(2, f), (0, (D : Int)), (0, (j : Int) + 1)] [] _
        have oC : fO C f := oB.fl gC
        refine ZE.aload_n d_Fra_walkRound_52 rfl ?_
        refine ZE.getE (v := ((cf D (isq D) (j + 1)).2.1 : Int)) d_Fra_walkRound_53 f_Fra_45 (tg := 0) rfl hf.1 hgC.2.2.2.1 ?_
        refine ZE.iconst (n := 1) d_Fra_walkRound_56 ?_
        refine ZE.icmp_ne (tgt := 62) d_Fra_walkRound_57 rfl (by unfold zR; omega) (by unfold zR; omega) (fun c57 => ?_) (fun c57 => ?_)
        · have hjR : j + 1 < rnd D := by
            rcases Nat.lt_or_ge (j + 1) (rnd D) with q | q
            · exact q
            · exfalso
              have h5 : j + 1 = rnd D := by omega
              have h6 := hcf.2.2.1
              rw [← h5] at h6
              omega
          have hnj2 := frD_ns hD (j := j + 1) (by omega)
          refine ZE.aload_n d_Fra_walkRound_62 rfl ?_
          refine ZE.getE (v := f + 1) d_Fra_walkRound_63 f_Fra_16 (tg := 2) rfl hf.1 oC.1 ?_
          refine ZE.aload_n d_Fra_walkRound_66 rfl ?_
          refine ZE.getE (v := ((cf D (isq D) (j + 1)).2.2 : Int)) d_Fra_walkRound_67 f_Fra_48 (tg := 0) rfl hf.1 hgC.2.2.2.2 ?_
          refine ZE.aload_n d_Fra_walkRound_70 rfl ?_
          refine ZE.getE (v := f + 5) d_Fra_walkRound_71 f_Fra_23 (tg := 2) rfl hf.1 oC.2.2.1 ?_
          refine ZE.cV [(0, ((cf D (isq D) (j + 1)).2.2 : Int)), (2, f + 5)] [] [(2, f + 1), (0, ((cf D (isq D) (j + 1)).2.2 : Int)), (2, f + 5), (9, 0), (9, 0), (9, 0), (9, 0), (9, 0), (9, 0), (9, 0)] d_Fra_walkRound_74 l_Fra_61 rfl rfl rfl rfl rfl rfl hf.2.2.1.1 ?_
          refine B_follow (v := (ns D (isq D) j).1) (u := (ns D (isq D) j).2.1) (y := (cf D (isq D) (j + 1)).2.2) hf.2.2.1 (np.fl gC (by omega)) hf.2.2.2.2.1 (na.fl gC (by omega)) hnj2.2.2.2.2.2 (by omega) (by omega) (by omega) (by omega) (Nat.le_trans (nB27 hnj2.1) (by omega)) (Nat.le_trans (nB27 hnj2.1) (by omega)) (by omega) (fun E gE np2 na2 => ?_)
          show ZE (d + 2) M_Fra_walkRound (gw G E) 77 [(2, f), (0, (D : Int)), (0, (j : Int) + 1)] [] _
          have oE : fO E f := b2F.fO oC gE (by omega) np2 na2
          have hgE : goC E f D (isq D) (cf D (isq D) (j + 1)) := hgC.row (gE f (by omega) (by omega) (by omega) (by omega))
          refine ZE.aload_n d_Fra_walkRound_77 rfl ?_
          refine ZE.getE (v := f + 3) d_Fra_walkRound_78 f_Fra_20 (tg := 2) rfl hf.1 oE.2.1 ?_
          refine ZE.aload_n d_Fra_walkRound_81 rfl ?_
          refine ZE.getE (v := ((cf D (isq D) (j + 1)).2.2 : Int)) d_Fra_walkRound_82 f_Fra_48 (tg := 0) rfl hf.1 hgE.2.2.2.2 ?_
          refine ZE.aload_n d_Fra_walkRound_85 rfl ?_
          refine ZE.getE (v := f + 7) d_Fra_walkRound_86 f_Fra_26 (tg := 2) rfl hf.1 oE.2.2.2.1 ?_
          refine ZE.cV [(0, ((cf D (isq D) (j + 1)).2.2 : Int)), (2, f + 7)] [] [(2, f + 3), (0, ((cf D (isq D) (j + 1)).2.2 : Int)), (2, f + 7), (9, 0), (9, 0), (9, 0), (9, 0), (9, 0), (9, 0), (9, 0)] d_Fra_walkRound_89 l_Fra_61 rfl rfl rfl rfl rfl rfl hf.2.2.2.1.1 ?_
          refine B_follow (v := (ns D (isq D) j).2.2.1) (u := (ns D (isq D) j).2.2.2) (y := (cf D (isq D) (j + 1)).2.2) hf.2.2.2.1 ((nr.fl gC (by omega)).b2 gE (by omega) (by omega)) hf.2.2.2.2.2 ((nb.fl gC (by omega)).b2 gE (by omega) (by omega)) hnj2.2.2.2.2.2 (by omega) (by omega) (by omega) (by omega) (Nat.le_trans (nB27 hnj2.2.2.1) (by omega)) (Nat.le_trans (nB27 hnj2.2.2.1) (by omega)) (by omega) (fun H gH nr2 nb2 => ?_)
          show ZE (d + 2) M_Fra_walkRound (gw G H) 92 [(2, f), (0, (D : Int)), (0, (j : Int) + 1)] [] _
          have oH : fO H f := b2F.fO oE gH (by omega) nr2 nb2
          refine ZE.iinc (ls2 := [(2, f), (0, (D : Int)), (0, ((j : Int) + 1) + 1)]) d_Fra_walkRound_92 rfl rfl ?_
          refine ZE.goto (tgt := 42) d_Fra_walkRound_95 rfl ?_
          rw [show (j : Int) + 1 + 1 = ((j + 1 : Nat) : Int) + 1 by omega]
          exact ih (j + 1) H (by omega) (((gB.tr gC.rg).tr (gE.rg (by omega) (by omega))).tr (gH.rg (by omega) (by omega))) oH (hgE.row (gH f (by omega) (by omega) (by omega) (by omega))) (np2.b2 gH (by omega) (by omega)) nr2 (na2.b2 gH (by omega) (by omega)) nb2 (by omega)
        · have hjR : j + 1 = rnd D := by
            rcases Nat.lt_or_ge (j + 1) (rnd D) with q | q
            · exact absurd (show (cf D (isq D) (j + 1)).2.1 = 1 by omega) (hcf.2.2.2.1 (j + 1) (by omega) q)
            · omega
          refine ZE.iload_n d_Fra_walkRound_60 rfl ?_
          refine ZE.iret d_Fra_walkRound_61 rfl ?_
          have hj1 : rnd D - 1 = j := by omega
          rw [show (j : Int) + 1 = (rnd D : Int) by omega]
          exact k C (gB.tr gC.rg) oC (by unfold hfp; rw [hj1]; exact np.fl gC (by omega)) (by unfold hfr; rw [hj1]; exact nr.fl gC (by omega))
  exact L42 _ 0 B4 (by omega) gAll oB4 hg4 (n3.fr g4 (by omega)) n4 ((n1.fr g2 (by omega)).fr g3 (by omega) |>.fr g4 (by omega)) ((n2.fr g3 (by omega)).fr g4 (by omega)) (Nat.lt_succ_self _)
