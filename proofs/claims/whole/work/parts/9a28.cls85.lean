theorem grow_CI {G : zG} {A : Int → Int → Int} {x : Int} {S T tl : Nat} {tf : Nat → Int} {wl : Nat} {wf : Nat → Int} {G2 : zG} {B : Int → Int → Int} {n m : Nat} (h : CI G A x S T tl tf wl wf) (g : gR G G2 n m) (e : ∀ a : Int, a < (gz G : Int) → B a = A a) : CI G2 B x S T tl tf wl wf ∧ unk B (x + 1) = unk A (x + 1) ∧ unk B (x + 47) = unk A (x + 47) := by
  have hE := h.cR.E
  have hx0 := h.cCK.2.1
  exact ⟨h.cpl g (h.cR.P.saf g (fun a h1 h2 => Or.inl (e a h2)) (e _ (by omega))) (h.cR.F.row (fun a h1 h2 => e a (by omega))) ⟨fun a h1 _ _ _ => e a h1, fun q _ => congrFun (e _ (by omega)) _⟩, unk_congr (e _ (by omega)), unk_congr (e _ (by omega))⟩
set_option maxRecDepth 20000 in
set_option maxHeartbeats 1000000 in
theorem l_law {b L : Nat} {xs : Nat → Int32} {G0 : zG} (hL : L ≤ 3072) (hs : zStart G0 b L xs) : ZE 12 M_Law_law G0 0 [(2, (b : Int)), (9, 0), (9, 0), (9, 0)] [] (fun r G' => r = some (0, 1) ∧ gz G' ≤ gz G0 + 600000 ∧ gs G' ≤ gs G0 + 7302250) := by
  obtain ⟨z1, z2, z3, z4, z5, z6, z7, z8, z9, z10, z11, z12⟩ := hs
  show ZE 12 M_Law_law (gw G0 (gc G0)) 0 _ _ _
  refine ZE.new d_Law_law_0 n_Law_7 ?_
  rw [gnew_gw, show gz (gw G0 (gc G0)) = gz G0 from rfl]
  obtain ⟨G1, hE1⟩ : ∃ H, H = gnew G0 20 12 (zInit 10) := ⟨_, rfl⟩
  rw [show gnew G0 (10 + 10) 12 (zInit 10) = G1 from hE1.symm]
  obtain ⟨x, hx⟩ : ∃ x : Int, x = (gz G0 : Int) := ⟨_, rfl⟩
  rw [← hx]
  have g1 : gR G0 G1 1 12 := by rw [hE1]; exact gR.new
  have hk1 : gk G1 x = 20 := by rw [hE1, hx]; exact gnew_gk
  have hz1 := g1.1
  have hs1 := g1.2.1
  have hgl1 : gl G1 = gl G0 := g1.2.2.2.2
  have hL1 : lG G1 (upA (gc G0) x (zInit 10)) := by
    unfold lG
    rw [hgl1]
    exact ⟨(g1.2.2.1 _ (by omega)).1.trans z4, (g1.2.2.1 _ (by omega)).2.trans z5, fun j => by rw [upA_ne _ _ (by omega)]; exact z6 j⟩
  refine ZE.dup d_Law_law_3 (Or.inr rfl) ?_
  refine ZE.cI [] [(2, x)] [(2, x)] d_Law_law_4 l_Law_9 rfl rfl rfl rfl rfl rfl (by omega) ?_
  refine c_new (d := 4) (by omega) (by omega) hk1 hL1 (by rw [hgl1]; omega) (fun G2 A2 tf wf n m hC fr g2 bn bm => ?_)
  show ZE 12 M_Law_law (gw G2 A2) 7 [(2, (b : Int)), (9, 0), (9, 0), (9, 0)] [(2, x)] _
  refine ZE.astore_n (ls2 := [(2, (b : Int)), (2, x), (9, 0), (9, 0)]) d_Law_law_7 (Nat.le_of_ble_eq_true rfl) rfl ?_
  refine ZE.new d_Law_law_8 n_Law_10 ?_
  rw [gnew_gw, show gz (gw G2 A2) = gz G2 from rfl]
  obtain ⟨G3, hE3⟩ : ∃ H, H = gnew G2 21 32 (zInit 11) := ⟨_, rfl⟩
  rw [show gnew G2 (10 + 11) 32 (zInit 11) = G3 from hE3.symm]
  obtain ⟨o, ho⟩ : ∃ o : Int, o = (gz G2 : Int) := ⟨_, rfl⟩
  rw [← ho]
  have g3 : gR G2 G3 1 32 := by rw [hE3]; exact gR.new
  have hk3 : gk G3 o = 21 := by rw [hE3, ho]; exact gnew_gk
  have hz2 := g2.1
  have hs2 := g2.2.1
  have hz3 := g3.1
  have hs3 := g3.2.1
  have hCz := hC.cR.E
  refine ZE.dup d_Law_law_11 (Or.inr rfl) ?_
  refine ZE.cI [] [(2, o)] [(2, o)] d_Law_law_12 l_Law_12 rfl rfl rfl rfl rfl rfl (by omega) ?_
  refine r_init (d := 3) (by omega) (by omega) hk3 ((congrFun (upA_at _ _ _) 28).trans rfl) ((congrFun (upA_at _ _ _) 29).trans rfl) ((congrFun (upA_at _ _ _) 31).trans rfl) (fun G4 A4 rK rF rS rT r29 r31 z4g s4 f4 c4 => ?_)
  have g5 : gR G2 G4 20 82333 := ⟨by omega, by omega, fun a ha => ⟨(f4 a (by omega)).1.1.trans (g3.2.2.1 a ha).1, (f4 a (by omega)).1.2.trans (g3.2.2.1 a ha).2⟩, c4.1.trans g3.2.2.2.1, c4.2.trans g3.2.2.2.2⟩
  have e5 : ∀ a : Int, a < (gz G2 : Int) → A4 a = A2 a := fun a ha => (f4 a (by omega)).2.trans (upA_ne _ _ (by omega))
  have hG := grow_CI hC g5 e5
  have hbx : (b : Int) < x := by omega
  have eb : A4 (b : Int) = gc G0 (b : Int) := (e5 _ (by omega)).trans ((fr _ hbx).trans (upA_ne _ _ (by omega)))
  have k5 := g5.2.2.1 (b : Int) (by omega)
  have k2 := g2.2.2.1 (b : Int) (by omega)
  have k1 := g1.2.2.1 (b : Int) (by omega)
  have hu1 := hG.2.1
  have hu2 := hG.2.2
  have h0 : LH b L (fun j => (xs j).toInt) (gz G0 + 600000) (gs G0 + 7302250) G4 A4 x o 3 1 0 tf 0 wf 3 1 0 tf 0 wf := by
    refine ⟨hG.1, rK, ⟨rF, rS, rT, ⟨r31, fun k hk => absurd hk (Nat.not_lt_zero _)⟩, ⟨r29, fun k hk => absurd hk (Nat.not_lt_zero _)⟩, by omega, by decide, by omega, by decide, by omega⟩, ⟨by omega, by omega⟩, ⟨⟨k5.1.trans (k2.1.trans (k1.1.trans z1)), k5.2.trans (k2.2.trans (k1.2.trans z2))⟩, fun j hj => ⟨?_, ?_⟩, hbx⟩, by rw [hu1, hu2]; omega, by rw [hu1, hu2]; omega⟩
    · rw [eb]; exact z3 j hj
    · have q1 := Int32.le_toInt (xs j)
      have q2 := Int32.toInt_lt (xs j)
      show zR (xs j).toInt
      unfold zR
      omega
  show ZE 12 M_Law_law (gw G4 A4) 15 [(2, (b : Int)), (2, x), (9, 0), (9, 0)] [(2, o)] _
  refine ZE.astore_n (ls2 := [(2, (b : Int)), (2, x), (2, o), (9, 0)]) d_Law_law_15 (Nat.le_of_ble_eq_true rfl) rfl ?_
  refine ZE.iconst (n := 0) d_Law_law_16 ?_
  refine ZE.istore_n (ls2 := [(2, (b : Int)), (2, x), (2, o), (0, 0)]) d_Law_law_17 (Nat.le_of_ble_eq_true rfl) rfl ?_
  refine l_loop (d := 0) (by omega) h0 (fun G5 A5 S T tl tf5 wl wf5 hE => ⟨rfl, ?_, ?_⟩)
  · have q := hE.2.2.2.2.2.1
    show gz G5 ≤ _
    omega
  · have q := hE.2.2.2.2.2.2
    show gs G5 ≤ _
    omega
