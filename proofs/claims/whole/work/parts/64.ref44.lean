theorem gnew_gw (G : zG) (A : Int → Int → Int) (k n : Nat) (f : Int → Int) : gnew (gw G A) k n f = gw (gnew G k n f) (upA A (gz G : Int) f) := by
  have e1 : (gnew (gw G A) k n f).2.2.1 = (gw (gnew G k n f) (upA A (gz G : Int) f)).2.2.1 := by
    funext b j
    show (if b = (gz G : Int) then f j else A b j) = (if b = (gz G : Int) then f else A b) j
    split <;> rfl
  show ((gnew (gw G A) k n f).1, (gnew (gw G A) k n f).2.1, (gnew (gw G A) k n f).2.2.1, (gnew (gw G A) k n f).2.2.2) = _
  rw [e1]
  rfl
def iK (i : Nat) : Nat × Nat := [(1, 7), (1, 17160), (1, 63), (1, 63), (1, 63), (1, 63), (1, 288), (1, 288), (1, 288), (1, 288), (1, 288), (1, 288), (1, 2016), (1, 3001), (1, 52130), (1, 7), (2, 2000), (2, 2000), (2, 2000)].getD i (0, 0)
def iN : Nat → Nat
  | 0 => 0
  | i + 1 => iN i + (iK i).2
/-- i rows of the new object o are laid -/
def iG (G G1 : zG) (o : Int) (i : Nat) : Prop := (gz G1 : Int) = o + 1 + i ∧ gs G1 = gs G + iN i ∧ (∀ a : Int, a ≤ o → gk G1 a = gk G a ∧ gn G1 a = gn G a) ∧ (gb G1 = gb G ∧ gl G1 = gl G) ∧ ∀ j : Nat, j < i → gk G1 (o + 1 + j) = (iK j).1 ∧ gn G1 (o + 1 + j) = ((iK j).2 : Int)
theorem iG.step {G G1 : zG} {o : Int} {i k n : Nat} {f : Int → Int} (h : iG G G1 o i) (hk : iK i = (k, n)) : iG G (gnew G1 k n f) o (i + 1) := by
  obtain ⟨h1, h2, h3, h4, h5⟩ := h
  refine ⟨?_, ?_, fun a ha => ?_, h4, fun j hj => ?_⟩
  · show ((gz G1 + 1 : Nat) : Int) = _; omega
  · show gs G1 + n = gs G + (iN i + (iK i).2); rw [hk]; omega
  · rw [gnew_gkn (by omega), gnew_gnn (by omega)]; exact h3 a ha
  · by_cases e : j = i
    · subst e
      rw [← h1, gnew_gk, gnew_gn, hk]
      exact ⟨rfl, rfl⟩
    · rw [gnew_gkn (by omega), gnew_gnn (by omega)]; exact h5 j (by omega)
def iF (j : Nat) : Int := ([0, 2, 3, 4, 5, 6, 12, 13, 14, 16, 17, 18, 22, 23, 24, 25, 26, 27, 30] : List Int).getD j 0
theorem iF_tab : ∀ i, i < 19 → ((iF i ≠ 28 ∧ iF i ≠ 29 ∧ iF i ≠ 31) ∧ ∀ j, j < i → iF j ≠ iF i) := by decide
def iA (A A1 : Int → Int → Int) (o : Int) (i : Nat) : Prop := (∀ b : Int, b < o → A1 b = A b) ∧ (∀ j : Nat, j < i → A1 o (iF j) = o + 1 + j) ∧ (A1 o 28 = 0 ∧ A1 o 29 = 0 ∧ A1 o 31 = 0) ∧ (∀ k : Nat, k < 7 → A1 (o + 1) k = sev k)
theorem iA.step {A A1 : Int → Int → Int} {o v k : Int} {i : Nat} {f : Int → Int} (h : iA A A1 o i) (hi : 1 ≤ i ∧ i < 19) (hv : v = o + 1 + i) (hk : k = iF i) : iA A (up2 (upA A1 v f) o k v) o (i + 1) := by
  obtain ⟨h1, h2, h3, h4⟩ := h
  have ht := iF_tab i hi.2
  have e0 : ∀ q : Int, q ≠ k → up2 (upA A1 v f) o k v o q = A1 o q := fun q hq => by rw [up2_ne _ _ (fun r => hq r.2), upA_ne _ _ (by omega)]
  refine ⟨fun b hb => ?_, fun j hj => ?_, ⟨(e0 _ (by omega)).trans h3.1, (e0 _ (by omega)).trans h3.2.1, (e0 _ (by omega)).trans h3.2.2⟩, fun q hq => ?_⟩
  · rw [up2_A, upA_ne _ _ (by omega), upA_ne _ _ (by omega)]; exact h1 b hb
  · by_cases e : j = i
    · subst e; rw [← hk, up2_at, hv]
    · rw [e0 _ (by have := ht.2 j (by omega); omega)]; exact h2 j (by omega)
  · rw [up2_ne _ _ (by omega), upA_ne _ _ (by omega)]; exact h4 q hq
theorem iG_RK {G G1 : zG} {o : Int} (h : iG G G1 o 19) (h0 : 0 ≤ o) (hk : gk G o = 21) : RK G1 o := by
  have e := h.2.2.2.2
  unfold RK
  refine ⟨(h.2.2.1 o (Int.le_refl _)).1.trans hk, h0, (by have q := e 0 (by decide); rw [show o + 1 + ((0 : Nat) : Int) = o + 1 by omega] at q; exact q), (by have q := e 1 (by decide); rw [show o + 1 + ((1 : Nat) : Int) = o + 2 by omega] at q; exact q), (by have q := e 2 (by decide); rw [show o + 1 + ((2 : Nat) : Int) = o + 3 by omega] at q; exact q), (by have q := e 3 (by decide); rw [show o + 1 + ((3 : Nat) : Int) = o + 4 by omega] at q; exact q), (by have q := e 4 (by decide); rw [show o + 1 + ((4 : Nat) : Int) = o + 5 by omega] at q; exact q), (by have q := e 5 (by decide); rw [show o + 1 + ((5 : Nat) : Int) = o + 6 by omega] at q; exact q), (by have q := e 6 (by decide); rw [show o + 1 + ((6 : Nat) : Int) = o + 7 by omega] at q; exact q), (by have q := e 7 (by decide); rw [show o + 1 + ((7 : Nat) : Int) = o + 8 by omega] at q; exact q), (by have q := e 8 (by decide); rw [show o + 1 + ((8 : Nat) : Int) = o + 9 by omega] at q; exact q), (by have q := e 9 (by decide); rw [show o + 1 + ((9 : Nat) : Int) = o + 10 by omega] at q; exact q), (by have q := e 10 (by decide); rw [show o + 1 + ((10 : Nat) : Int) = o + 11 by omega] at q; exact q), (by have q := e 11 (by decide); rw [show o + 1 + ((11 : Nat) : Int) = o + 12 by omega] at q; exact q), (by have q := e 12 (by decide); rw [show o + 1 + ((12 : Nat) : Int) = o + 13 by omega] at q; exact q), (by have q := e 13 (by decide); rw [show o + 1 + ((13 : Nat) : Int) = o + 14 by omega] at q; exact q), (by have q := e 14 (by decide); rw [show o + 1 + ((14 : Nat) : Int) = o + 15 by omega] at q; exact q), (by have q := e 15 (by decide); rw [show o + 1 + ((15 : Nat) : Int) = o + 16 by omega] at q; exact q), (by have q := e 16 (by decide); rw [show o + 1 + ((16 : Nat) : Int) = o + 17 by omega] at q; exact q), (by have q := e 17 (by decide); rw [show o + 1 + ((17 : Nat) : Int) = o + 18 by omega] at q; exact q), (by have q := e 18 (by decide); rw [show o + 1 + ((18 : Nat) : Int) = o + 19 by omega] at q; exact q)⟩
theorem iA_RF {A A1 : Int → Int → Int} {o : Int} (h : iA A A1 o 19) : RF A1 o := by
  have e := h.2.1
  unfold RF
  refine ⟨((e 0 (by decide)).trans (by omega)), ((e 1 (by decide)).trans (by omega)), ((e 2 (by decide)).trans (by omega)), ((e 3 (by decide)).trans (by omega)), ((e 4 (by decide)).trans (by omega)), ((e 5 (by decide)).trans (by omega)), ((e 6 (by decide)).trans (by omega)), ((e 7 (by decide)).trans (by omega)), ((e 8 (by decide)).trans (by omega)), ((e 9 (by decide)).trans (by omega)), ((e 10 (by decide)).trans (by omega)), ((e 11 (by decide)).trans (by omega)), ((e 12 (by decide)).trans (by omega)), ((e 13 (by decide)).trans (by omega)), ((e 14 (by decide)).trans (by omega)), ((e 15 (by decide)).trans (by omega)), ((e 16 (by decide)).trans (by omega)), ((e 17 (by decide)).trans (by omega)), ((e 18 (by decide)).trans (by omega)), h.2.2.2⟩
set_option maxRecDepth 20000 in
set_option maxHeartbeats 4000000 in
theorem r_init {d : Nat} {G : zG} {A : Int → Int → Int} {P : Option zV → zG → Prop} {o : Int} (hz : (gz G : Int) = o + 1) (h0 : 0 ≤ o) (hk : gk G o = 21) (h28 : A o 28 = 0) (h29 : A o 29 = 0) (h31 : A o 31 = 0) (k : ∀ G2 A2, RK G2 o → RF A2 o → RS 3 A2 o → num (A2 (o + 2)) 131 1 → A2 o 29 = 0 → A2 o 31 = 0 → (gz G2 : Int) = o + 20 → gs G2 = gs G + 82301 → (∀ a : Int, a < o → (gk G2 a = gk G a ∧ gn G2 a = gn G a) ∧ A2 a = A a) → (gb G2 = gb G ∧ gl G2 = gl G) → P none (gw G2 A2)) : ZE (d + 8) M_Ref_init (gw G A) 0 [(2, o)] [] P := by
  have hG0 : iG G G o 0 := ⟨by omega, rfl, fun a _ => ⟨rfl, rfl⟩, ⟨rfl, rfl⟩, fun j hj => absurd hj (Nat.not_lt_zero _)⟩
  refine ZE.aload_n d_Ref_init_0 rfl ?_
  refine ZE.objInit d_Ref_init_1 o_Ref_3 (by omega) (Nat.le_of_ble_eq_true rfl) ?_
  refine ZE.aload_n d_Ref_init_4 rfl ?_
  refine ZE.bipush (n := 7) d_Ref_init_5 rfl ?_
  refine ZE.newI (n := 7) d_Ref_init_7 rfl (by decide) ?_
  rw [gnew_gw, show (gz (gw G A) : Int) = (gz G : Int) from rfl, hG0.1, show o + 1 + ((0 : Nat) : Int) = o + 1 by omega]
  obtain ⟨G1, hE1⟩ : ∃ H1, H1 = gnew G 1 7 (fun _ => 0) := ⟨_, rfl⟩
  rw [← hE1]
  have hG1 : iG G G1 o 1 := by rw [hE1]; exact hG0.step rfl
  have hk1 : gk G1 o = 21 := (hG1.2.2.1 o (Int.le_refl _)).1.trans hk
  have hn1 : gk G1 (o + 1) = 1 ∧ gn G1 (o + 1) = 7 := by have q := hG1.2.2.2.2 0 (by decide); rw [show o + 1 + ((0 : Nat) : Int) = o + 1 by omega] at q; exact q
  refine ZE.dup d_Ref_init_9 (Or.inr rfl) ?_
  refine ZE.iconst (n := 0) d_Ref_init_10 ?_
  refine ZE.iconst (n := 2) d_Ref_init_11 ?_
  refine ZE.iast d_Ref_init_12 hn1.1 (by have := hn1.2; show (0 : Int) ≤ 0 ∧ (0 : Int) < gn G1 (o + 1); omega) ?_
  show ZE (d + 8) M_Ref_init (gw G1 (up2 (upA A (o + 1) (fun _ => 0)) (o + 1) 0 2)) 13 [(2, o)] [(2, o + 1), (2, o)] _
  rw [up2_upA]
  refine ZE.dup d_Ref_init_13 (Or.inr rfl) ?_
  refine ZE.iconst (n := 1) d_Ref_init_14 ?_
  refine ZE.iconst (n := 3) d_Ref_init_15 ?_
  refine ZE.iast d_Ref_init_16 hn1.1 (by have := hn1.2; show (0 : Int) ≤ 1 ∧ (1 : Int) < gn G1 (o + 1); omega) ?_
  show ZE (d + 8) M_Ref_init (gw G1 (up2 (upA A (o + 1) (up1 (fun _ => 0) 0 2)) (o + 1) 1 3)) 17 [(2, o)] [(2, o + 1), (2, o)] _
  rw [up2_upA]
  refine ZE.dup d_Ref_init_17 (Or.inr rfl) ?_
  refine ZE.iconst (n := 2) d_Ref_init_18 ?_
  refine ZE.iconst (n := 5) d_Ref_init_19 ?_
  refine ZE.iast d_Ref_init_20 hn1.1 (by have := hn1.2; show (0 : Int) ≤ 2 ∧ (2 : Int) < gn G1 (o + 1); omega) ?_
  show ZE (d + 8) M_Ref_init (gw G1 (up2 (upA A (o + 1) (up1 (up1 (fun _ => 0) 0 2) 1 3)) (o + 1) 2 5)) 21 [(2, o)] [(2, o + 1), (2, o)] _
  rw [up2_upA]
  refine ZE.dup d_Ref_init_21 (Or.inr rfl) ?_
  refine ZE.iconst (n := 3) d_Ref_init_22 ?_
  refine ZE.bipush (n := 7) d_Ref_init_23 rfl ?_
  refine ZE.iast d_Ref_init_25 hn1.1 (by have := hn1.2; show (0 : Int) ≤ 3 ∧ (3 : Int) < gn G1 (o + 1); omega) ?_
  show ZE (d + 8) M_Ref_init (gw G1 (up2 (upA A (o + 1) (up1 (up1 (up1 (fun _ => 0) 0 2) 1 3) 2 5)) (o + 1) 3 7)) 26 [(2, o)] [(2, o + 1), (2, o)] _
  rw [up2_upA]
  refine ZE.dup d_Ref_init_26 (Or.inr rfl) ?_
  refine ZE.iconst (n := 4) d_Ref_init_27 ?_
  refine ZE.bipush (n := 11) d_Ref_init_28 rfl ?_
  refine ZE.iast d_Ref_init_30 hn1.1 (by have := hn1.2; show (0 : Int) ≤ 4 ∧ (4 : Int) < gn G1 (o + 1); omega) ?_
  show ZE (d + 8) M_Ref_init (gw G1 (up2 (upA A (o + 1) (up1 (up1 (up1 (up1 (fun _ => 0) 0 2) 1 3) 2 5) 3 7)) (o + 1) 4 11)) 31 [(2, o)] [(2, o + 1), (2, o)] _
  rw [up2_upA]
  refine ZE.dup d_Ref_init_31 (Or.inr rfl) ?_
  refine ZE.iconst (n := 5) d_Ref_init_32 ?_
  refine ZE.bipush (n := 13) d_Ref_init_33 rfl ?_
  refine ZE.iast d_Ref_init_35 hn1.1 (by have := hn1.2; show (0 : Int) ≤ 5 ∧ (5 : Int) < gn G1 (o + 1); omega) ?_
  show ZE (d + 8) M_Ref_init (gw G1 (up2 (upA A (o + 1) (up1 (up1 (up1 (up1 (up1 (fun _ => 0) 0 2) 1 3) 2 5) 3 7) 4 11)) (o + 1) 5 13)) 36 [(2, o)] [(2, o + 1), (2, o)] _
  rw [up2_upA]
  refine ZE.dup d_Ref_init_36 (Or.inr rfl) ?_
  refine ZE.bipush (n := 6) d_Ref_init_37 rfl ?_
  refine ZE.bipush (n := 17) d_Ref_init_39 rfl ?_
  refine ZE.iast d_Ref_init_41 hn1.1 (by have := hn1.2; show (0 : Int) ≤ 6 ∧ (6 : Int) < gn G1 (o + 1); omega) ?_
  show ZE (d + 8) M_Ref_init (gw G1 (up2 (upA A (o + 1) (up1 (up1 (up1 (up1 (up1 (up1 (fun _ => 0) 0 2) 1 3) 2 5) 3 7) 4 11) 5 13)) (o + 1) 6 17)) 42 [(2, o)] [(2, o + 1), (2, o)] _
  rw [up2_upA]
  refine ZE.put d_Ref_init_42 f_Ref_9 (tg := 2) rfl trivial (Or.inr ⟨⟨_, _, _, rfl, rfl, rfl⟩, rfl⟩) hk1 ?_
  show ZE (d + 8) M_Ref_init (gw G1 (up2 (upA A (o + 1) (up1 (up1 (up1 (up1 (up1 (up1 (up1 (fun _ => 0) 0 2) 1 3) 2 5) 3 7) 4 11) 5 13) 6 17)) o 0 (o + 1))) 45 [(2, o)] [] _
  obtain ⟨A1, hB1⟩ : ∃ B1, B1 = up2 (upA A (o + 1) (up1 (up1 (up1 (up1 (up1 (up1 (up1 (fun _ => 0) 0 2) 1 3) 2 5) 3 7) 4 11) 5 13) 6 17)) o 0 (o + 1) := ⟨_, rfl⟩
  rw [← hB1]
  have hA1 : iA A A1 o 1 := by
    rw [hB1]
    refine ⟨fun b hb => by rw [up2_A, upA_ne _ _ (by omega), upA_ne _ _ (by omega)], fun j hj => ?_, ⟨?_, ?_, ?_⟩, fun q hq => ?_⟩
    · have : j = 0 := by omega
      subst this; exact (up2_at _ _ _ _).trans (by omega)
    · rw [up2_ne _ _ (by omega), upA_ne _ _ (by omega)]; exact h28
    · rw [up2_ne _ _ (by omega), upA_ne _ _ (by omega)]; exact h29
    · rw [up2_ne _ _ (by omega), upA_ne _ _ (by omega)]; exact h31
    · rw [up2_ne _ _ (by omega), upA_at]
      have hq7 : q = 0 ∨ q = 1 ∨ q = 2 ∨ q = 3 ∨ q = 4 ∨ q = 5 ∨ q = 6 := by omega
      rcases hq7 with rfl | rfl | rfl | rfl | rfl | rfl | rfl <;> rfl
  refine ZE.aload_n d_Ref_init_45 rfl ?_
  refine ZE.sipush (n := 17160) d_Ref_init_46 rfl ?_
  refine ZE.newI (n := 17160) d_Ref_init_49 rfl (by decide) ?_
  rw [gnew_gw, show (gz (gw G1 A1) : Int) = (gz G1 : Int) from rfl, hG1.1, show o + 1 + ((1 : Nat) : Int) = o + 2 by omega]
  obtain ⟨G2, hE2⟩ : ∃ H1, H1 = gnew G1 1 17160 (fun _ => 0) := ⟨_, rfl⟩
  rw [← hE2]
  have hG2 : iG G G2 o 2 := by rw [hE2]; exact hG1.step rfl
  have hk2 : gk G2 o = 21 := (hG2.2.2.1 o (Int.le_refl _)).1.trans hk
  refine ZE.put d_Ref_init_51 f_Ref_13 (tg := 2) rfl trivial (Or.inr ⟨⟨_, _, _, rfl, rfl, rfl⟩, rfl⟩) hk2 ?_
  show ZE (d + 8) M_Ref_init (gw G2 (up2 (upA A1 (o + 2) (fun _ => 0)) o 2 (o + 2))) 54 [(2, o)] [] _
  obtain ⟨A2, hB2⟩ : ∃ B1, B1 = up2 (upA A1 (o + 2) (fun _ => 0)) o 2 (o + 2) := ⟨_, rfl⟩
  rw [← hB2]
  have hA2 : iA A A2 o 2 := by rw [hB2]; exact hA1.step (by omega) (by omega) rfl
  refine ZE.aload_n d_Ref_init_54 rfl ?_
  refine ZE.bipush (n := 63) d_Ref_init_55 rfl ?_
  refine ZE.newI (n := 63) d_Ref_init_57 rfl (by decide) ?_
  rw [gnew_gw, show (gz (gw G2 A2) : Int) = (gz G2 : Int) from rfl, hG2.1, show o + 1 + ((2 : Nat) : Int) = o + 3 by omega]
  obtain ⟨G3, hE3⟩ : ∃ H1, H1 = gnew G2 1 63 (fun _ => 0) := ⟨_, rfl⟩
  rw [← hE3]
  have hG3 : iG G G3 o 3 := by rw [hE3]; exact hG2.step rfl
  have hk3 : gk G3 o = 21 := (hG3.2.2.1 o (Int.le_refl _)).1.trans hk
  refine ZE.put d_Ref_init_59 f_Ref_16 (tg := 2) rfl trivial (Or.inr ⟨⟨_, _, _, rfl, rfl, rfl⟩, rfl⟩) hk3 ?_
  show ZE (d + 8) M_Ref_init (gw G3 (up2 (upA A2 (o + 3) (fun _ => 0)) o 3 (o + 3))) 62 [(2, o)] [] _
  obtain ⟨A3, hB3⟩ : ∃ B1, B1 = up2 (upA A2 (o + 3) (fun _ => 0)) o 3 (o + 3) := ⟨_, rfl⟩
  rw [← hB3]
  have hA3 : iA A A3 o 3 := by rw [hB3]; exact hA2.step (by omega) (by omega) rfl
  refine ZE.aload_n d_Ref_init_62 rfl ?_
  refine ZE.bipush (n := 63) d_Ref_init_63 rfl ?_
  refine ZE.newI (n := 63) d_Ref_init_65 rfl (by decide) ?_
  rw [gnew_gw, show (gz (gw G3 A3) : Int) = (gz G3 : Int) from rfl, hG3.1, show o + 1 + ((3 : Nat) : Int) = o + 4 by omega]
  obtain ⟨G4, hE4⟩ : ∃ H1, H1 = gnew G3 1 63 (fun _ => 0) := ⟨_, rfl⟩
  rw [← hE4]
  have hG4 : iG G G4 o 4 := by rw [hE4]; exact hG3.step rfl
  have hk4 : gk G4 o = 21 := (hG4.2.2.1 o (Int.le_refl _)).1.trans hk
  refine ZE.put d_Ref_init_67 f_Ref_19 (tg := 2) rfl trivial (Or.inr ⟨⟨_, _, _, rfl, rfl, rfl⟩, rfl⟩) hk4 ?_
  show ZE (d + 8) M_Ref_init (gw G4 (up2 (upA A3 (o + 4) (fun _ => 0)) o 4 (o + 4))) 70 [(2, o)] [] _
  obtain ⟨A4, hB4⟩ : ∃ B1, B1 = up2 (upA A3 (o + 4) (fun _ => 0)) o 4 (o + 4) := ⟨_, rfl⟩
  rw [← hB4]
  have hA4 : iA A A4 o 4 := by rw [hB4]; exact hA3.step (by omega) (by omega) rfl
  refine ZE.aload_n d_Ref_init_70 rfl ?_
  refine ZE.bipush (n := 63) d_Ref_init_71 rfl ?_
  refine ZE.newI (n := 63) d_Ref_init_73 rfl (by decide) ?_
  rw [gnew_gw, show (gz (gw G4 A4) : Int) = (gz G4 : Int) from rfl, hG4.1, show o + 1 + ((4 : Nat) : Int) = o + 5 by omega]
  obtain ⟨G5, hE5⟩ : ∃ H1, H1 = gnew G4 1 63 (fun _ => 0) := ⟨_, rfl⟩
  rw [← hE5]
  have hG5 : iG G G5 o 5 := by rw [hE5]; exact hG4.step rfl
  have hk5 : gk G5 o = 21 := (hG5.2.2.1 o (Int.le_refl _)).1.trans hk
  refine ZE.put d_Ref_init_75 f_Ref_22 (tg := 2) rfl trivial (Or.inr ⟨⟨_, _, _, rfl, rfl, rfl⟩, rfl⟩) hk5 ?_
  show ZE (d + 8) M_Ref_init (gw G5 (up2 (upA A4 (o + 5) (fun _ => 0)) o 5 (o + 5))) 78 [(2, o)] [] _
  obtain ⟨A5, hB5⟩ : ∃ B1, B1 = up2 (upA A4 (o + 5) (fun _ => 0)) o 5 (o + 5) := ⟨_, rfl⟩
  rw [← hB5]
  have hA5 : iA A A5 o 5 := by rw [hB5]; exact hA4.step (by omega) (by omega) rfl
  refine ZE.aload_n d_Ref_init_78 rfl ?_
  refine ZE.bipush (n := 63) d_Ref_init_79 rfl ?_
  refine ZE.newI (n := 63) d_Ref_init_81 rfl (by decide) ?_
  rw [gnew_gw, show (gz (gw G5 A5) : Int) = (gz G5 : Int) from rfl, hG5.1, show o + 1 + ((5 : Nat) : Int) = o + 6 by omega]
  obtain ⟨G6, hE6⟩ : ∃ H1, H1 = gnew G5 1 63 (fun _ => 0) := ⟨_, rfl⟩
  rw [← hE6]
  have hG6 : iG G G6 o 6 := by rw [hE6]; exact hG5.step rfl
  have hk6 : gk G6 o = 21 := (hG6.2.2.1 o (Int.le_refl _)).1.trans hk
  refine ZE.put d_Ref_init_83 f_Ref_25 (tg := 2) rfl trivial (Or.inr ⟨⟨_, _, _, rfl, rfl, rfl⟩, rfl⟩) hk6 ?_
  show ZE (d + 8) M_Ref_init (gw G6 (up2 (upA A5 (o + 6) (fun _ => 0)) o 6 (o + 6))) 86 [(2, o)] [] _
  obtain ⟨A6, hB6⟩ : ∃ B1, B1 = up2 (upA A5 (o + 6) (fun _ => 0)) o 6 (o + 6) := ⟨_, rfl⟩
  rw [← hB6]
  have hA6 : iA A A6 o 6 := by rw [hB6]; exact hA5.step (by omega) (by omega) rfl
  refine ZE.aload_n d_Ref_init_86 rfl ?_
  refine ZE.sipush (n := 288) d_Ref_init_87 rfl ?_
  refine ZE.newI (n := 288) d_Ref_init_90 rfl (by decide) ?_
  rw [gnew_gw, show (gz (gw G6 A6) : Int) = (gz G6 : Int) from rfl, hG6.1, show o + 1 + ((6 : Nat) : Int) = o + 7 by omega]
  obtain ⟨G7, hE7⟩ : ∃ H1, H1 = gnew G6 1 288 (fun _ => 0) := ⟨_, rfl⟩
  rw [← hE7]
  have hG7 : iG G G7 o 7 := by rw [hE7]; exact hG6.step rfl
  have hk7 : gk G7 o = 21 := (hG7.2.2.1 o (Int.le_refl _)).1.trans hk
  refine ZE.put d_Ref_init_92 f_Ref_28 (tg := 2) rfl trivial (Or.inr ⟨⟨_, _, _, rfl, rfl, rfl⟩, rfl⟩) hk7 ?_
  show ZE (d + 8) M_Ref_init (gw G7 (up2 (upA A6 (o + 7) (fun _ => 0)) o 12 (o + 7))) 95 [(2, o)] [] _
  obtain ⟨A7, hB7⟩ : ∃ B1, B1 = up2 (upA A6 (o + 7) (fun _ => 0)) o 12 (o + 7) := ⟨_, rfl⟩
  rw [← hB7]
  have hA7 : iA A A7 o 7 := by rw [hB7]; exact hA6.step (by omega) (by omega) rfl
  refine ZE.aload_n d_Ref_init_95 rfl ?_
  refine ZE.sipush (n := 288) d_Ref_init_96 rfl ?_
  refine ZE.newI (n := 288) d_Ref_init_99 rfl (by decide) ?_
  rw [gnew_gw, show (gz (gw G7 A7) : Int) = (gz G7 : Int) from rfl, hG7.1, show o + 1 + ((7 : Nat) : Int) = o + 8 by omega]
  obtain ⟨G8, hE8⟩ : ∃ H1, H1 = gnew G7 1 288 (fun _ => 0) := ⟨_, rfl⟩
  rw [← hE8]
  have hG8 : iG G G8 o 8 := by rw [hE8]; exact hG7.step rfl
  have hk8 : gk G8 o = 21 := (hG8.2.2.1 o (Int.le_refl _)).1.trans hk
  refine ZE.put d_Ref_init_101 f_Ref_31 (tg := 2) rfl trivial (Or.inr ⟨⟨_, _, _, rfl, rfl, rfl⟩, rfl⟩) hk8 ?_
  show ZE (d + 8) M_Ref_init (gw G8 (up2 (upA A7 (o + 8) (fun _ => 0)) o 13 (o + 8))) 104 [(2, o)] [] _
  obtain ⟨A8, hB8⟩ : ∃ B1, B1 = up2 (upA A7 (o + 8) (fun _ => 0)) o 13 (o + 8) := ⟨_, rfl⟩
  rw [← hB8]
  have hA8 : iA A A8 o 8 := by rw [hB8]; exact hA7.step (by omega) (by omega) rfl
  refine ZE.aload_n d_Ref_init_104 rfl ?_
  refine ZE.sipush (n := 288) d_Ref_init_105 rfl ?_
  refine ZE.newI (n := 288) d_Ref_init_108 rfl (by decide) ?_
  rw [gnew_gw, show (gz (gw G8 A8) : Int) = (gz G8 : Int) from rfl, hG8.1, show o + 1 + ((8 : Nat) : Int) = o + 9 by omega]
  obtain ⟨G9, hE9⟩ : ∃ H1, H1 = gnew G8 1 288 (fun _ => 0) := ⟨_, rfl⟩
  rw [← hE9]
  have hG9 : iG G G9 o 9 := by rw [hE9]; exact hG8.step rfl
  have hk9 : gk G9 o = 21 := (hG9.2.2.1 o (Int.le_refl _)).1.trans hk
  refine ZE.put d_Ref_init_110 f_Ref_34 (tg := 2) rfl trivial (Or.inr ⟨⟨_, _, _, rfl, rfl, rfl⟩, rfl⟩) hk9 ?_
  show ZE (d + 8) M_Ref_init (gw G9 (up2 (upA A8 (o + 9) (fun _ => 0)) o 14 (o + 9))) 113 [(2, o)] [] _
  obtain ⟨A9, hB9⟩ : ∃ B1, B1 = up2 (upA A8 (o + 9) (fun _ => 0)) o 14 (o + 9) := ⟨_, rfl⟩
  rw [← hB9]
  have hA9 : iA A A9 o 9 := by rw [hB9]; exact hA8.step (by omega) (by omega) rfl
  refine ZE.aload_n d_Ref_init_113 rfl ?_
  refine ZE.sipush (n := 288) d_Ref_init_114 rfl ?_
  refine ZE.newI (n := 288) d_Ref_init_117 rfl (by decide) ?_
  rw [gnew_gw, show (gz (gw G9 A9) : Int) = (gz G9 : Int) from rfl, hG9.1, show o + 1 + ((9 : Nat) : Int) = o + 10 by omega]
  obtain ⟨G10, hE10⟩ : ∃ H1, H1 = gnew G9 1 288 (fun _ => 0) := ⟨_, rfl⟩
  rw [← hE10]
  have hG10 : iG G G10 o 10 := by rw [hE10]; exact hG9.step rfl
  have hk10 : gk G10 o = 21 := (hG10.2.2.1 o (Int.le_refl _)).1.trans hk
  refine ZE.put d_Ref_init_119 f_Ref_37 (tg := 2) rfl trivial (Or.inr ⟨⟨_, _, _, rfl, rfl, rfl⟩, rfl⟩) hk10 ?_
  show ZE (d + 8) M_Ref_init (gw G10 (up2 (upA A9 (o + 10) (fun _ => 0)) o 16 (o + 10))) 122 [(2, o)] [] _
  obtain ⟨A10, hB10⟩ : ∃ B1, B1 = up2 (upA A9 (o + 10) (fun _ => 0)) o 16 (o + 10) := ⟨_, rfl⟩
  rw [← hB10]
  have hA10 : iA A A10 o 10 := by rw [hB10]; exact hA9.step (by omega) (by omega) rfl
  refine ZE.aload_n d_Ref_init_122 rfl ?_
  refine ZE.sipush (n := 288) d_Ref_init_123 rfl ?_
  refine ZE.newI (n := 288) d_Ref_init_126 rfl (by decide) ?_
  rw [gnew_gw, show (gz (gw G10 A10) : Int) = (gz G10 : Int) from rfl, hG10.1, show o + 1 + ((10 : Nat) : Int) = o + 11 by omega]
  obtain ⟨G11, hE11⟩ : ∃ H1, H1 = gnew G10 1 288 (fun _ => 0) := ⟨_, rfl⟩
  rw [← hE11]
  have hG11 : iG G G11 o 11 := by rw [hE11]; exact hG10.step rfl
  have hk11 : gk G11 o = 21 := (hG11.2.2.1 o (Int.le_refl _)).1.trans hk
  refine ZE.put d_Ref_init_128 f_Ref_40 (tg := 2) rfl trivial (Or.inr ⟨⟨_, _, _, rfl, rfl, rfl⟩, rfl⟩) hk11 ?_
  show ZE (d + 8) M_Ref_init (gw G11 (up2 (upA A10 (o + 11) (fun _ => 0)) o 17 (o + 11))) 131 [(2, o)] [] _
  obtain ⟨A11, hB11⟩ : ∃ B1, B1 = up2 (upA A10 (o + 11) (fun _ => 0)) o 17 (o + 11) := ⟨_, rfl⟩
  rw [← hB11]
  have hA11 : iA A A11 o 11 := by rw [hB11]; exact hA10.step (by omega) (by omega) rfl
  refine ZE.aload_n d_Ref_init_131 rfl ?_
  refine ZE.sipush (n := 288) d_Ref_init_132 rfl ?_
  refine ZE.newI (n := 288) d_Ref_init_135 rfl (by decide) ?_
  rw [gnew_gw, show (gz (gw G11 A11) : Int) = (gz G11 : Int) from rfl, hG11.1, show o + 1 + ((11 : Nat) : Int) = o + 12 by omega]
  obtain ⟨G12, hE12⟩ : ∃ H1, H1 = gnew G11 1 288 (fun _ => 0) := ⟨_, rfl⟩
  rw [← hE12]
  have hG12 : iG G G12 o 12 := by rw [hE12]; exact hG11.step rfl
  have hk12 : gk G12 o = 21 := (hG12.2.2.1 o (Int.le_refl _)).1.trans hk
  refine ZE.put d_Ref_init_137 f_Ref_43 (tg := 2) rfl trivial (Or.inr ⟨⟨_, _, _, rfl, rfl, rfl⟩, rfl⟩) hk12 ?_
  show ZE (d + 8) M_Ref_init (gw G12 (up2 (upA A11 (o + 12) (fun _ => 0)) o 18 (o + 12))) 140 [(2, o)] [] _
  obtain ⟨A12, hB12⟩ : ∃ B1, B1 = up2 (upA A11 (o + 12) (fun _ => 0)) o 18 (o + 12) := ⟨_, rfl⟩
  rw [← hB12]
  have hA12 : iA A A12 o 12 := by rw [hB12]; exact hA11.step (by omega) (by omega) rfl
  refine ZE.aload_n d_Ref_init_140 rfl ?_
  refine ZE.sipush (n := 2016) d_Ref_init_141 rfl ?_
  refine ZE.newI (n := 2016) d_Ref_init_144 rfl (by decide) ?_
  rw [gnew_gw, show (gz (gw G12 A12) : Int) = (gz G12 : Int) from rfl, hG12.1, show o + 1 + ((12 : Nat) : Int) = o + 13 by omega]
  obtain ⟨G13, hE13⟩ : ∃ H1, H1 = gnew G12 1 2016 (fun _ => 0) := ⟨_, rfl⟩
  rw [← hE13]
  have hG13 : iG G G13 o 13 := by rw [hE13]; exact hG12.step rfl
  have hk13 : gk G13 o = 21 := (hG13.2.2.1 o (Int.le_refl _)).1.trans hk
  refine ZE.put d_Ref_init_146 f_Ref_46 (tg := 2) rfl trivial (Or.inr ⟨⟨_, _, _, rfl, rfl, rfl⟩, rfl⟩) hk13 ?_
  show ZE (d + 8) M_Ref_init (gw G13 (up2 (upA A12 (o + 13) (fun _ => 0)) o 22 (o + 13))) 149 [(2, o)] [] _
  obtain ⟨A13, hB13⟩ : ∃ B1, B1 = up2 (upA A12 (o + 13) (fun _ => 0)) o 22 (o + 13) := ⟨_, rfl⟩
  rw [← hB13]
  have hA13 : iA A A13 o 13 := by rw [hB13]; exact hA12.step (by omega) (by omega) rfl
  refine ZE.aload_n d_Ref_init_149 rfl ?_
  refine ZE.sipush (n := 3001) d_Ref_init_150 rfl ?_
  refine ZE.newI (n := 3001) d_Ref_init_153 rfl (by decide) ?_
  rw [gnew_gw, show (gz (gw G13 A13) : Int) = (gz G13 : Int) from rfl, hG13.1, show o + 1 + ((13 : Nat) : Int) = o + 14 by omega]
  obtain ⟨G14, hE14⟩ : ∃ H1, H1 = gnew G13 1 3001 (fun _ => 0) := ⟨_, rfl⟩
  rw [← hE14]
  have hG14 : iG G G14 o 14 := by rw [hE14]; exact hG13.step rfl
  have hk14 : gk G14 o = 21 := (hG14.2.2.1 o (Int.le_refl _)).1.trans hk
  refine ZE.put d_Ref_init_155 f_Ref_49 (tg := 2) rfl trivial (Or.inr ⟨⟨_, _, _, rfl, rfl, rfl⟩, rfl⟩) hk14 ?_
  show ZE (d + 8) M_Ref_init (gw G14 (up2 (upA A13 (o + 14) (fun _ => 0)) o 23 (o + 14))) 158 [(2, o)] [] _
  obtain ⟨A14, hB14⟩ : ∃ B1, B1 = up2 (upA A13 (o + 14) (fun _ => 0)) o 23 (o + 14) := ⟨_, rfl⟩
  rw [← hB14]
  have hA14 : iA A A14 o 14 := by rw [hB14]; exact hA13.step (by omega) (by omega) rfl
  refine ZE.aload_n d_Ref_init_158 rfl ?_
  refine ZE.ldc (v := 52130) d_Ref_init_159 k_Ref_52 ?_
  refine ZE.newI (n := 52130) d_Ref_init_161 rfl (by decide) ?_
  rw [gnew_gw, show (gz (gw G14 A14) : Int) = (gz G14 : Int) from rfl, hG14.1, show o + 1 + ((14 : Nat) : Int) = o + 15 by omega]
  obtain ⟨G15, hE15⟩ : ∃ H1, H1 = gnew G14 1 52130 (fun _ => 0) := ⟨_, rfl⟩
  rw [← hE15]
  have hG15 : iG G G15 o 15 := by rw [hE15]; exact hG14.step rfl
  have hk15 : gk G15 o = 21 := (hG15.2.2.1 o (Int.le_refl _)).1.trans hk
  refine ZE.put d_Ref_init_163 f_Ref_53 (tg := 2) rfl trivial (Or.inr ⟨⟨_, _, _, rfl, rfl, rfl⟩, rfl⟩) hk15 ?_
  show ZE (d + 8) M_Ref_init (gw G15 (up2 (upA A14 (o + 15) (fun _ => 0)) o 24 (o + 15))) 166 [(2, o)] [] _
  obtain ⟨A15, hB15⟩ : ∃ B1, B1 = up2 (upA A14 (o + 15) (fun _ => 0)) o 24 (o + 15) := ⟨_, rfl⟩
  rw [← hB15]
  have hA15 : iA A A15 o 15 := by rw [hB15]; exact hA14.step (by omega) (by omega) rfl
  refine ZE.aload_n d_Ref_init_166 rfl ?_
  refine ZE.bipush (n := 7) d_Ref_init_167 rfl ?_
  refine ZE.newI (n := 7) d_Ref_init_169 rfl (by decide) ?_
  rw [gnew_gw, show (gz (gw G15 A15) : Int) = (gz G15 : Int) from rfl, hG15.1, show o + 1 + ((15 : Nat) : Int) = o + 16 by omega]
  obtain ⟨G16, hE16⟩ : ∃ H1, H1 = gnew G15 1 7 (fun _ => 0) := ⟨_, rfl⟩
  rw [← hE16]
  have hG16 : iG G G16 o 16 := by rw [hE16]; exact hG15.step rfl
  have hk16 : gk G16 o = 21 := (hG16.2.2.1 o (Int.le_refl _)).1.trans hk
  refine ZE.put d_Ref_init_171 f_Ref_56 (tg := 2) rfl trivial (Or.inr ⟨⟨_, _, _, rfl, rfl, rfl⟩, rfl⟩) hk16 ?_
  show ZE (d + 8) M_Ref_init (gw G16 (up2 (upA A15 (o + 16) (fun _ => 0)) o 25 (o + 16))) 174 [(2, o)] [] _
  obtain ⟨A16, hB16⟩ : ∃ B1, B1 = up2 (upA A15 (o + 16) (fun _ => 0)) o 25 (o + 16) := ⟨_, rfl⟩
  rw [← hB16]
  have hA16 : iA A A16 o 16 := by rw [hB16]; exact hA15.step (by omega) (by omega) rfl
  refine ZE.aload_n d_Ref_init_174 rfl ?_
  refine ZE.sipush (n := 2000) d_Ref_init_175 rfl ?_
  refine ZE.newB (n := 2000) d_Ref_init_178 rfl (by decide) ?_
  rw [gnew_gw, show (gz (gw G16 A16) : Int) = (gz G16 : Int) from rfl, hG16.1, show o + 1 + ((16 : Nat) : Int) = o + 17 by omega]
  obtain ⟨G17, hE17⟩ : ∃ H1, H1 = gnew G16 2 2000 (fun _ => 0) := ⟨_, rfl⟩
  rw [← hE17]
  have hG17 : iG G G17 o 17 := by rw [hE17]; exact hG16.step rfl
  have hk17 : gk G17 o = 21 := (hG17.2.2.1 o (Int.le_refl _)).1.trans hk
  refine ZE.put d_Ref_init_180 f_Ref_59 (tg := 2) rfl trivial (Or.inr ⟨⟨_, _, _, rfl, rfl, rfl⟩, rfl⟩) hk17 ?_
  show ZE (d + 8) M_Ref_init (gw G17 (up2 (upA A16 (o + 17) (fun _ => 0)) o 26 (o + 17))) 183 [(2, o)] [] _
  obtain ⟨A17, hB17⟩ : ∃ B1, B1 = up2 (upA A16 (o + 17) (fun _ => 0)) o 26 (o + 17) := ⟨_, rfl⟩
  rw [← hB17]
  have hA17 : iA A A17 o 17 := by rw [hB17]; exact hA16.step (by omega) (by omega) rfl
  refine ZE.aload_n d_Ref_init_183 rfl ?_
  refine ZE.sipush (n := 2000) d_Ref_init_184 rfl ?_
  refine ZE.newB (n := 2000) d_Ref_init_187 rfl (by decide) ?_
  rw [gnew_gw, show (gz (gw G17 A17) : Int) = (gz G17 : Int) from rfl, hG17.1, show o + 1 + ((17 : Nat) : Int) = o + 18 by omega]
  obtain ⟨G18, hE18⟩ : ∃ H1, H1 = gnew G17 2 2000 (fun _ => 0) := ⟨_, rfl⟩
  rw [← hE18]
  have hG18 : iG G G18 o 18 := by rw [hE18]; exact hG17.step rfl
  have hk18 : gk G18 o = 21 := (hG18.2.2.1 o (Int.le_refl _)).1.trans hk
  refine ZE.put d_Ref_init_189 f_Ref_63 (tg := 2) rfl trivial (Or.inr ⟨⟨_, _, _, rfl, rfl, rfl⟩, rfl⟩) hk18 ?_
  show ZE (d + 8) M_Ref_init (gw G18 (up2 (upA A17 (o + 18) (fun _ => 0)) o 27 (o + 18))) 192 [(2, o)] [] _
  obtain ⟨A18, hB18⟩ : ∃ B1, B1 = up2 (upA A17 (o + 18) (fun _ => 0)) o 27 (o + 18) := ⟨_, rfl⟩
  rw [← hB18]
  have hA18 : iA A A18 o 18 := by rw [hB18]; exact hA17.step (by omega) (by omega) rfl
  refine ZE.aload_n d_Ref_init_192 rfl ?_
  refine ZE.sipush (n := 2000) d_Ref_init_193 rfl ?_
  refine ZE.newB (n := 2000) d_Ref_init_196 rfl (by decide) ?_
  rw [gnew_gw, show (gz (gw G18 A18) : Int) = (gz G18 : Int) from rfl, hG18.1, show o + 1 + ((18 : Nat) : Int) = o + 19 by omega]
  obtain ⟨G19, hE19⟩ : ∃ H1, H1 = gnew G18 2 2000 (fun _ => 0) := ⟨_, rfl⟩
  rw [← hE19]
  have hG19 : iG G G19 o 19 := by rw [hE19]; exact hG18.step rfl
  have hk19 : gk G19 o = 21 := (hG19.2.2.1 o (Int.le_refl _)).1.trans hk
  refine ZE.put d_Ref_init_198 f_Ref_66 (tg := 2) rfl trivial (Or.inr ⟨⟨_, _, _, rfl, rfl, rfl⟩, rfl⟩) hk19 ?_
  show ZE (d + 8) M_Ref_init (gw G19 (up2 (upA A18 (o + 19) (fun _ => 0)) o 30 (o + 19))) 201 [(2, o)] [] _
  obtain ⟨A19, hB19⟩ : ∃ B1, B1 = up2 (upA A18 (o + 19) (fun _ => 0)) o 30 (o + 19) := ⟨_, rfl⟩
  rw [← hB19]
  have hA19 : iA A A19 o 19 := by rw [hB19]; exact hA18.step (by omega) (by omega) rfl
  have hKK : RK G19 o := iG_RK hG19 h0 hk
  have hFF : RF A19 o := iA_RF hA19
  refine ZE.aload_n d_Ref_init_201 rfl ?_
  refine ZE.sipush (n := 131) d_Ref_init_202 rfl ?_
  refine ZE.iconst (n := 1) d_Ref_init_205 ?_
  refine ZE.cV [(0, 131), (0, 1)] [] [(2, o), (0, 131), (0, 1), (9, 0), (9, 0)] d_Ref_init_206 l_Ref_69 rfl rfl rfl rfl rfl rfl hKK.1 ?_
  refine r_setSmall (n := 131) (v := 1) hKK hFF (by omega) (by omega) (fun f1 hn1 ho1 => ?_)
  show ZE (d + 8) M_Ref_init (gw G19 (upA A19 (o + 2) f1)) 209 [(2, o)] [] _
  refine ZE.aload_n d_Ref_init_209 rfl ?_
  refine ZE.iconst (n := 3) d_Ref_init_210 ?_
  refine ZE.cV [(0, 3)] [] [(2, o), (0, 3), (9, 0)] d_Ref_init_211 l_Ref_73 rfl rfl rfl rfl rfl rfl hKK.1 ?_
  refine r_layAll (S := 3) hKK (hFF.uA (by omega)) (by decide) (by decide) (fun B hRB gB => ?_)
  show ZE (d + 8) M_Ref_init (gw G19 B) 214 [(2, o)] [] _
  refine ZE.vret d_Ref_init_214 rfl ?_
  refine k G19 B hKK ((hFF.uA (by omega)).la gB) hRB ?_ ?_ ?_ (hG19.1.trans (by omega)) ?_ (fun a ha => ⟨hG19.2.2.1 a (by omega), ?_⟩) hG19.2.2.2.1
  · exact gB.2.2.num (by omega) (by omega) (by decide) (by rw [upA_at]; exact hn1)
  · rw [gB.2.1 29 (by omega) (by omega) (by omega) (by omega), upA_ne _ _ (by omega)]; exact hA19.2.2.1.2.1
  · rw [gB.2.1 31 (by omega) (by omega) (by omega) (by omega), upA_ne _ _ (by omega)]; exact hA19.2.2.1.2.2
  · rw [hG19.2.1]; rfl
  · rw [gB.1 a (by omega) (by omega), upA_ne _ _ (by omega)]; exact hA19.1 a ha
