def fK (G : zG) (f : Int) : Prop := gk G f = 12 ∧ 0 ≤ f ∧ bK G (f + 1) 8 ∧ bK G (f + 3) 8 ∧ bK G (f + 5) 8 ∧ bK G (f + 7) 8
def fO (A : Int → Int → Int) (f : Int) : Prop := A f 0 = f + 1 ∧ A f 1 = f + 3 ∧ A f 2 = f + 5 ∧ A f 3 = f + 7 ∧ A (f + 1) 0 = f + 1 + 1 ∧ A (f + 3) 0 = f + 3 + 1 ∧ A (f + 5) 0 = f + 5 + 1 ∧ A (f + 7) 0 = f + 7 + 1
def goC (A : Int → Int → Int) (f : Int) (D r : Nat) (s : cS) : Prop := A f 4 = (D : Int) ∧ A f 5 = (r : Int) ∧ A f 6 = (s.1 : Int) ∧ A f 7 = (s.2.1 : Int) ∧ A f 8 = (s.2.2 : Int)
def rF (A B : Int → Int → Int) (lo hi : Int) : Prop := ∀ a : Int, (a < lo ∨ hi < a) → B a = A a
theorem rF.rf {A : Int → Int → Int} {lo hi : Int} : rF A A lo hi := fun _ _ => rfl
theorem rF.tr {A B C : Int → Int → Int} {lo hi : Int} (a : rF A B lo hi) (b : rF B C lo hi) : rF A C lo hi := fun e h => (b e h).trans (a e h)
theorem rF.sub {A B : Int → Int → Int} {lo hi lo2 hi2 : Int} (a : rF A B lo hi) (h1 : lo2 ≤ lo) (h2 : hi ≤ hi2) : rF A B lo2 hi2 := fun e h => a e (by omega)
theorem bF.rg {A B : Int → Int → Int} {b lo hi : Int} (a : bF A B b) (h1 : lo ≤ b) (h2 : b + 1 ≤ hi) : rF A B lo hi := fun e h => a e (by omega) (by omega)
theorem b2F.rg {A B : Int → Int → Int} {b c lo hi : Int} (a : b2F A B b c) (h1 : lo ≤ b ∧ b + 1 ≤ hi) (h2 : lo ≤ c ∧ c + 1 ≤ hi) : rF A B lo hi := fun e h => a e (by omega) (by omega) (by omega) (by omega)
theorem bN.rg {A C : Int → Int → Int} {c lo hi : Int} {v : Nat} (h : bN A c v) (g : rF A C lo hi) (h1 : c + 1 < lo ∨ hi < c) : bN C c v := by
  have e1 : C c = A c := g c (by omega)
  have e2 : C (c + 1) = A (c + 1) := g (c + 1) (by omega)
  unfold bN
  rw [e1, e2]
  exact h
/-- only fields from the fifth on of f change -/
def flF (A B : Int → Int → Int) (f : Int) : Prop := (∀ a : Int, a ≠ f → B a = A a) ∧ ∀ i : Int, i < 4 → B f i = A f i
theorem flF.rf {A : Int → Int → Int} {f : Int} : flF A A f := ⟨fun _ _ => rfl, fun _ _ => rfl⟩
theorem flF.tr {A B C : Int → Int → Int} {f : Int} (a : flF A B f) (b : flF B C f) : flF A C f := ⟨fun e h => (b.1 e h).trans (a.1 e h), fun i h => (b.2 i h).trans (a.2 i h)⟩
theorem flF.fld {A : Int → Int → Int} {f i v : Int} (h : 4 ≤ i) : flF A (up2 A f i v) f := ⟨fun e h1 => by rw [up2_A, upA_ne _ _ h1], fun j hj => up2_ne _ _ (by omega)⟩
theorem flF.rg {A B : Int → Int → Int} {f : Int} (a : flF A B f) : rF A B f (f + 8) := fun e h => a.1 e (by omega)
theorem fO.fl {A B : Int → Int → Int} {f : Int} (h : fO A f) (a : flF A B f) : fO B f := by
  obtain ⟨h0, h1, h2, h3, h4, h5, h6, h7⟩ := h
  exact ⟨(a.2 0 (by omega)).trans h0, (a.2 1 (by omega)).trans h1, (a.2 2 (by omega)).trans h2, (a.2 3 (by omega)).trans h3, (congrFun (a.1 _ (by omega)) _).trans h4, (congrFun (a.1 _ (by omega)) _).trans h5, (congrFun (a.1 _ (by omega)) _).trans h6, (congrFun (a.1 _ (by omega)) _).trans h7⟩
set_option maxRecDepth 20000 in
set_option maxHeartbeats 4000000 in
theorem f_begin {d : Nat} {G : zG} {A : Int → Int → Int} {P : Option zV → zG → Prop}  {f : Int} (hf : fK G f) (hO : fO A f) {D : Nat} (hD : frD D) (k : ∀ B, flF A B f → goC B f D (isq D) (0, 1, isq D) → P none (gw G B)) : ZE (d + 1) M_Fra_begin (gw G A) 0 [(2, f), (0, (D : Int))] [] P := by
  have hDb := frD_b hD
  refine ZE.aload_n d_Fra_begin_0 rfl ?_
  refine ZE.iload_n d_Fra_begin_1 rfl ?_
  refine ZE.put d_Fra_begin_2 f_Fra_29 (tg := 0) rfl trivial (Or.inl ⟨_, _, _, rfl, rfl, rfl⟩) hf.1 ?_
  show ZE (d + 1) M_Fra_begin (gw G (up2 A f 4 (D : Int))) 5 [(2, f), (0, (D : Int))] [] _
  refine ZE.aload_n d_Fra_begin_5 rfl ?_
  refine ZE.iload_n d_Fra_begin_6 rfl ?_
  refine ZE.i2l d_Fra_begin_7 (by unfold zR; omega) ?_
  refine ZE.cS [(1, (D : Int))] [(2, f)] [(1, (D : Int)), (9, 0), (9, 0), (9, 0), (9, 0), (9, 0)] d_Fra_begin_8 l_Fra_33 rfl rfl rfl rfl rfl rfl ?_
  refine p_rootOf (n := D) (by omega) (fun r hr1 hr2 hr3 => ?_)
  show ZE (d + 1) M_Fra_begin (gw G (up2 A f 4 (D : Int))) 11 [(2, f), (0, (D : Int))] [(1, (r : Int)), (2, f)] _
  have hri := isq_u hD hr1 hr2
  subst hri
  refine ZE.l2i d_Fra_begin_11 ?_
  refine ZE.put d_Fra_begin_12 f_Fra_39 (tg := 0) rfl trivial (Or.inl ⟨_, _, _, rfl, rfl, rfl⟩) hf.1 ?_
  show ZE (d + 1) M_Fra_begin (gw G (up2 (up2 A f 4 (D : Int)) f 5 (isq D : Int))) 15 [(2, f), (0, (D : Int))] [] _
  refine ZE.aload_n d_Fra_begin_15 rfl ?_
  refine ZE.iconst (n := 0) d_Fra_begin_16 ?_
  refine ZE.put d_Fra_begin_17 f_Fra_42 (tg := 0) rfl trivial (Or.inl ⟨_, _, _, rfl, rfl, rfl⟩) hf.1 ?_
  show ZE (d + 1) M_Fra_begin (gw G (up2 (up2 (up2 A f 4 (D : Int)) f 5 (isq D : Int)) f 6 0)) 20 [(2, f), (0, (D : Int))] [] _
  refine ZE.aload_n d_Fra_begin_20 rfl ?_
  refine ZE.iconst (n := 1) d_Fra_begin_21 ?_
  refine ZE.put d_Fra_begin_22 f_Fra_45 (tg := 0) rfl trivial (Or.inl ⟨_, _, _, rfl, rfl, rfl⟩) hf.1 ?_
  show ZE (d + 1) M_Fra_begin (gw G (up2 (up2 (up2 (up2 A f 4 (D : Int)) f 5 (isq D : Int)) f 6 0) f 7 1)) 25 [(2, f), (0, (D : Int))] [] _
  refine ZE.aload_n d_Fra_begin_25 rfl ?_
  refine ZE.aload_n d_Fra_begin_26 rfl ?_
  refine ZE.getE (v := (isq D : Int)) d_Fra_begin_27 f_Fra_39 (tg := 0) rfl hf.1 ((up2_ne _ _ (by omega)).trans ((up2_ne _ _ (by omega)).trans (up2_at _ _ _ _))) ?_
  refine ZE.put d_Fra_begin_30 f_Fra_48 (tg := 0) rfl trivial (Or.inl ⟨_, _, _, rfl, rfl, rfl⟩) hf.1 ?_
  show ZE (d + 1) M_Fra_begin (gw G (up2 (up2 (up2 (up2 (up2 A f 4 (D : Int)) f 5 (isq D : Int)) f 6 0) f 7 1) f 8 (isq D : Int))) 33 [(2, f), (0, (D : Int))] [] _
  refine ZE.vret d_Fra_begin_33 rfl ?_
  refine k _ ((((flF.fld (by omega)).tr (flF.fld (by omega))).tr (flF.fld (by omega))).tr (flF.fld (by omega)) |>.tr (flF.fld (by omega))) ⟨?_, ?_, ?_, ?_, ?_⟩
  · rw [up2_ne _ _ (by omega), up2_ne _ _ (by omega), up2_ne _ _ (by omega), up2_ne _ _ (by omega), up2_at]
  · rw [up2_ne _ _ (by omega), up2_ne _ _ (by omega), up2_ne _ _ (by omega), up2_at]
  · rw [up2_ne _ _ (by omega), up2_ne _ _ (by omega), up2_at]; rfl
  · rw [up2_ne _ _ (by omega), up2_at]; rfl
  · rw [up2_at]
set_option maxRecDepth 20000 in
set_option maxHeartbeats 4000000 in
theorem f_advance {d : Nat} {G : zG} {A : Int → Int → Int} {P : Option zV → zG → Prop}  {f : Int} (hf : fK G f) (hO : fO A f) {D r : Nat} {s : cS} (hs : goC A f D r s) (hg : cgood D r s = true) (hDb : D ≤ 2000000 ∧ r ≤ 9999) (k : ∀ B, flF A B f → goC B f D r (cfs D r s) → P none (gw G B)) : ZE d M_Fra_advance (gw G A) 0 [(2, f)] [] P := by
  have hgg := of_decide_eq_true hg
  unfold cfs at hgg
  obtain ⟨g1, g2, g3, g4, g5, g6, g7, g8, g9⟩ := hgg
  obtain ⟨m2, hm2⟩ : ∃ m2, m2 = s.2.1 * s.2.2 - s.1 := ⟨_, rfl⟩
  rw [← hm2] at g5 g6 g7 g8 g9
  have hmm : (s.2.1 : Int) * s.2.2 - s.1 = (m2 : Int) := by rw [← Int.natCast_mul]; omega
  obtain ⟨d2, hd2⟩ : ∃ d2, d2 = (D - m2 * m2) / s.2.1 := ⟨_, rfl⟩
  have g6b : 0 < d2 := by rw [hd2]; exact g6
  have g7b : d2 ≤ 10000 := by rw [hd2]; exact g7
  have g8b : m2 ≤ 10000 := g8
  have hm22 : m2 * m2 ≤ 10000 * 10000 := Nat.mul_le_mul g8b g8b
  have hcfs : cfs D r s = (m2, d2, (r + m2) / d2) := by unfold cfs; rw [← hm2, ← hd2]
  refine ZE.aload_n d_Fra_advance_0 rfl ?_
  refine ZE.aload_n d_Fra_advance_1 rfl ?_
  refine ZE.getE (v := (s.2.1 : Int)) d_Fra_advance_2 f_Fra_45 (tg := 0) rfl hf.1 hs.2.2.2.1 ?_
  refine ZE.aload_n d_Fra_advance_5 rfl ?_
  refine ZE.getE (v := (s.2.2 : Int)) d_Fra_advance_6 f_Fra_48 (tg := 0) rfl hf.1 hs.2.2.2.2 ?_
  refine ZE.imul d_Fra_advance_9 ?_
  refine ZE.aload_n d_Fra_advance_10 rfl ?_
  refine ZE.getE (v := (s.1 : Int)) d_Fra_advance_11 f_Fra_42 (tg := 0) rfl hf.1 hs.2.2.1 ?_
  refine ZE.isub d_Fra_advance_14 ?_
  rw [show (((s.2.1 : Int) * (s.2.2 : Int)) - (s.1 : Int) : Int) = (m2 : Int) from hmm]
  refine ZE.put d_Fra_advance_15 f_Fra_42 (tg := 0) rfl trivial (Or.inl ⟨_, _, _, rfl, rfl, rfl⟩) hf.1 ?_
  show ZE d M_Fra_advance (gw G (up2 A f 6 (m2 : Int))) 18 [(2, f)] [] _
  refine ZE.aload_n d_Fra_advance_18 rfl ?_
  refine ZE.aload_n d_Fra_advance_19 rfl ?_
  refine ZE.getE (v := (s.2.1 : Int)) d_Fra_advance_20 f_Fra_45 (tg := 0) rfl hf.1 ((up2_ne _ _ (by omega)).trans hs.2.2.2.1) ?_
  refine ZE.if_ne (tgt := 30) d_Fra_advance_23 rfl (by unfold zR; omega) (fun c23 => ?_) (fun c23 => ?_)
  · refine ZE.aload_n d_Fra_advance_30 rfl ?_
    refine ZE.getE (v := (D : Int)) d_Fra_advance_31 f_Fra_29 (tg := 0) rfl hf.1 ((up2_ne _ _ (by omega)).trans hs.1) ?_
    refine ZE.aload_n d_Fra_advance_34 rfl ?_
    refine ZE.getE (v := (m2 : Int)) d_Fra_advance_35 f_Fra_42 (tg := 0) rfl hf.1 (up2_at _ _ _ _) ?_
    refine ZE.aload_n d_Fra_advance_38 rfl ?_
    refine ZE.getE (v := (m2 : Int)) d_Fra_advance_39 f_Fra_42 (tg := 0) rfl hf.1 (up2_at _ _ _ _) ?_
    refine ZE.imul d_Fra_advance_42 ?_
    refine ZE.isub d_Fra_advance_43 ?_
    rw [show ((D : Int) - ((m2 : Int) * (m2 : Int)) : Int) = ((D - m2 * m2 : Nat) : Int) from (by rw [Int.natCast_sub g5, Int.natCast_mul])]
    refine ZE.aload_n d_Fra_advance_44 rfl ?_
    refine ZE.getE (v := (s.2.1 : Int)) d_Fra_advance_45 f_Fra_45 (tg := 0) rfl hf.1 ((up2_ne _ _ (by omega)).trans hs.2.2.2.1) ?_
    refine ZE.idivP d_Fra_advance_48 (by omega) ?_
    rw [show (((D - m2 * m2 : Nat) : Int) / (s.2.1 : Int) : Int) = (d2 : Int) from (by rw [hd2]; exact (Int.natCast_ediv _ _).symm)]
    refine ZE.put d_Fra_advance_49 f_Fra_45 (tg := 0) rfl trivial (Or.inl ⟨_, _, _, rfl, rfl, rfl⟩) hf.1 ?_
    show ZE d M_Fra_advance (gw G (up2 (up2 A f 6 (m2 : Int)) f 7 (d2 : Int))) 52 [(2, f)] [] _
    refine ZE.aload_n d_Fra_advance_52 rfl ?_
    refine ZE.aload_n d_Fra_advance_53 rfl ?_
    refine ZE.getE (v := (d2 : Int)) d_Fra_advance_54 f_Fra_45 (tg := 0) rfl hf.1 (up2_at _ _ _ _) ?_
    refine ZE.if_ne (tgt := 64) d_Fra_advance_57 rfl (by unfold zR; omega) (fun c57 => ?_) (fun c57 => ?_)
    · refine ZE.aload_n d_Fra_advance_64 rfl ?_
      refine ZE.getE (v := (r : Int)) d_Fra_advance_65 f_Fra_39 (tg := 0) rfl hf.1 ((up2_ne _ _ (by omega)).trans ((up2_ne _ _ (by omega)).trans hs.2.1)) ?_
      refine ZE.aload_n d_Fra_advance_68 rfl ?_
      refine ZE.getE (v := (m2 : Int)) d_Fra_advance_69 f_Fra_42 (tg := 0) rfl hf.1 ((up2_ne _ _ (by omega)).trans (up2_at _ _ _ _)) ?_
      refine ZE.iadd d_Fra_advance_72 ?_
      refine ZE.aload_n d_Fra_advance_73 rfl ?_
      refine ZE.getE (v := (d2 : Int)) d_Fra_advance_74 f_Fra_45 (tg := 0) rfl hf.1 (up2_at _ _ _ _) ?_
      refine ZE.idivP d_Fra_advance_77 (by omega) ?_
      rw [show (((r : Int) + (m2 : Int)) / (d2 : Int) : Int) = (((r + m2) / d2 : Nat) : Int) from (by rw [← Int.natCast_add]; exact (Int.natCast_ediv _ _).symm)]
      refine ZE.put d_Fra_advance_78 f_Fra_48 (tg := 0) rfl trivial (Or.inl ⟨_, _, _, rfl, rfl, rfl⟩) hf.1 ?_
      show ZE d M_Fra_advance (gw G (up2 (up2 (up2 A f 6 (m2 : Int)) f 7 (d2 : Int)) f 8 (((r + m2) / d2 : Nat) : Int))) 81 [(2, f)] [] _
      refine ZE.vret d_Fra_advance_81 rfl ?_
      rw [hcfs] at k
      refine k _ (((flF.fld (by omega)).tr (flF.fld (by omega))).tr (flF.fld (by omega))) ⟨?_, ?_, ?_, ?_, ?_⟩
      · rw [up2_ne _ _ (by omega), up2_ne _ _ (by omega), up2_ne _ _ (by omega)]; exact hs.1
      · rw [up2_ne _ _ (by omega), up2_ne _ _ (by omega), up2_ne _ _ (by omega)]; exact hs.2.1
      · rw [up2_ne _ _ (by omega), up2_ne _ _ (by omega), up2_at]
      · rw [up2_ne _ _ (by omega), up2_at]
      · rw [up2_at]
    · exact absurd c57 (by omega)
  · exact absurd c23 (by omega)
set_option maxRecDepth 20000 in
set_option maxHeartbeats 4000000 in
theorem f_walk {d : Nat} {G : zG} {A : Int → Int → Int} {P : Option zV → zG → Prop}  {f : Int} (hf : fK G f) (hO : fO A f) {D : Nat} (hD : frD D) {n : Nat} (hn : n ≤ 2 * rnd D) (k : ∀ B, flF A B f → goC B f D (isq D) (cf D (isq D) n) → P none (gw G B)) : ZE (d + 2) M_Fra_walk (gw G A) 0 [(2, f), (0, (D : Int)), (0, (n : Int)), (9, 0)] [] P := by
  have hDb := frD_b hD
  have hcf := (frD_cf hD).1
  refine ZE.aload_n d_Fra_walk_0 rfl ?_
  refine ZE.iload_n d_Fra_walk_1 rfl ?_
  refine ZE.cV [(0, (D : Int))] [] [(2, f), (0, (D : Int))] d_Fra_walk_2 l_Fra_51 rfl rfl rfl rfl rfl rfl hf.1 ?_
  refine f_begin hf hO hD (fun B0 g0 hg0 => ?_)
  show ZE (d + 2) M_Fra_walk (gw G B0) 5 [(2, f), (0, (D : Int)), (0, (n : Int)), (9, 0)] [] _
  refine ZE.iconst (n := 0) d_Fra_walk_5 ?_
  refine ZE.istore_n (ls2 := [(2, f), (0, (D : Int)), (0, (n : Int)), (0, 0)]) d_Fra_walk_6 (Nat.le_of_ble_eq_true rfl) rfl ?_
  have L7 : ∀ (tt0 : Nat) (j : Nat) (B : Int → Int → Int) (hj : j ≤ n) (gB : flF A B f) (hgo : goC B f D (isq D) (cf D (isq D) j)), n - j < tt0 → ZE (d + 2) M_Fra_walk (gw G B) 7 [(2, f), (0, (D : Int)), (0, (n : Int)), (0, (j : Int))] [] P := by
    intro tt0
    induction tt0 with
    | zero => intro j B hj gB hgo hm; exact absurd hm (Nat.not_lt_zero _)
    | succ tt0 ih =>
      intro j B hj gB hgo hm
      have hOB : fO B f := hO.fl gB
      refine ZE.iload_n d_Fra_walk_7 rfl ?_
      refine ZE.iload_n d_Fra_walk_8 rfl ?_
      refine ZE.icmp_ge (tgt := 28) d_Fra_walk_9 rfl (by unfold zR; omega) (by unfold zR; omega) (fun c9 => ?_) (fun c9 => ?_)
      · refine ZE.vret d_Fra_walk_28 rfl ?_
        exact k B gB (by rw [show n = j by omega]; exact hgo)
      · refine ZE.iload_n d_Fra_walk_12 rfl ?_
        refine ZE.ldc (v := 1000000) d_Fra_walk_13 k_Fra_54 ?_
        refine ZE.icmp_ge (tgt := 28) d_Fra_walk_15 rfl (by unfold zR; omega) (by unfold zR; omega) (fun c15 => ?_) (fun c15 => ?_)
        · exact absurd c15 (by omega)
        · refine ZE.aload_n d_Fra_walk_18 rfl ?_
          refine ZE.cV [] [] [(2, f)] d_Fra_walk_19 l_Fra_55 rfl rfl rfl rfl rfl rfl hf.1 ?_
          refine f_advance (s := cf D (isq D) j) hf hOB hgo (hcf.1 j (by omega)) ⟨hDb.1, hDb.2.1⟩ (fun C gC hgo2 => ?_)
          show ZE (d + 2) M_Fra_walk (gw G C) 22 [(2, f), (0, (D : Int)), (0, (n : Int)), (0, (j : Int))] [] _
          refine ZE.iinc (ls2 := [(2, f), (0, (D : Int)), (0, (n : Int)), (0, (j : Int) + 1)]) d_Fra_walk_22 rfl rfl ?_
          refine ZE.goto (tgt := 7) d_Fra_walk_25 rfl ?_
          rw [show (j : Int) + 1 = ((j + 1 : Nat) : Int) by omega]
          exact ih (j + 1) C (by omega) (gB.tr gC) hgo2 (by omega)
  exact L7 _ 0 B0 (Nat.zero_le _) g0 hg0 (Nat.lt_succ_self _)
set_option maxRecDepth 20000 in
set_option maxHeartbeats 4000000 in
theorem f_whole {d : Nat} {G : zG} {A : Int → Int → Int} {P : Option zV → zG → Prop}  {f : Int} (hf : fK G f) (hO : fO A f) {D : Nat} (hD : frD D) {n : Nat} (hn : n ≤ 2 * rnd D) (k : ∀ B, flF A B f → P (some (0, ((cf D (isq D) n).2.2 : Int))) (gw G B)) : ZE (d + 3) M_Fra_wholeBehind (gw G A) 0 [(2, f), (0, (D : Int)), (0, (n : Int))] [] P := by
  refine ZE.aload_n d_Fra_wholeBehind_0 rfl ?_
  refine ZE.iload_n d_Fra_wholeBehind_1 rfl ?_
  refine ZE.iload_n d_Fra_wholeBehind_2 rfl ?_
  refine ZE.cV [(0, (D : Int)), (0, (n : Int))] [] [(2, f), (0, (D : Int)), (0, (n : Int)), (9, 0)] d_Fra_wholeBehind_3 l_Fra_65 rfl rfl rfl rfl rfl rfl hf.1 ?_
  refine f_walk hf hO hD hn (fun B gB hgo => ?_)
  show ZE (d + 3) M_Fra_wholeBehind (gw G B) 6 [(2, f), (0, (D : Int)), (0, (n : Int))] [] _
  refine ZE.aload_n d_Fra_wholeBehind_6 rfl ?_
  refine ZE.getE (v := ((cf D (isq D) n).2.2 : Int)) d_Fra_wholeBehind_7 f_Fra_48 (tg := 0) rfl hf.1 hgo.2.2.2.2 ?_
  refine ZE.iret d_Fra_wholeBehind_10 rfl ?_
  exact k B gB
set_option maxRecDepth 20000 in
set_option maxHeartbeats 4000000 in
theorem f_divisor {d : Nat} {G : zG} {A : Int → Int → Int} {P : Option zV → zG → Prop}  {f : Int} (hf : fK G f) (hO : fO A f) {D : Nat} (hD : frD D) {n : Nat} (hn : n ≤ 2 * rnd D) (k : ∀ B, flF A B f → P (some (0, ((cf D (isq D) n).2.1 : Int))) (gw G B)) : ZE (d + 3) M_Fra_divisorBehind (gw G A) 0 [(2, f), (0, (D : Int)), (0, (n : Int))] [] P := by
  refine ZE.aload_n d_Fra_divisorBehind_0 rfl ?_
  refine ZE.iload_n d_Fra_divisorBehind_1 rfl ?_
  refine ZE.iload_n d_Fra_divisorBehind_2 rfl ?_
  refine ZE.cV [(0, (D : Int)), (0, (n : Int))] [] [(2, f), (0, (D : Int)), (0, (n : Int)), (9, 0)] d_Fra_divisorBehind_3 l_Fra_65 rfl rfl rfl rfl rfl rfl hf.1 ?_
  refine f_walk hf hO hD hn (fun B gB hgo => ?_)
  show ZE (d + 3) M_Fra_divisorBehind (gw G B) 6 [(2, f), (0, (D : Int)), (0, (n : Int))] [] _
  refine ZE.aload_n d_Fra_divisorBehind_6 rfl ?_
  refine ZE.getE (v := ((cf D (isq D) n).2.1 : Int)) d_Fra_divisorBehind_7 f_Fra_45 (tg := 0) rfl hf.1 hgo.2.2.2.1 ?_
  refine ZE.iret d_Fra_divisorBehind_10 rfl ?_
  exact k B gB
