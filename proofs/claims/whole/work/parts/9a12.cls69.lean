theorem prB_zP : ∀ p : Nat, p ≤ 97 → (prB p = true ↔ ∃ j : Nat, j < 168 ∧ zPf j = (p : Int)) := by decide +kernel
theorem prB_zI {p : Int} (h : p ≤ 97) : (∃ j : Nat, j < 168 ∧ zPf j = p) ↔ (2 ≤ p ∧ p ≤ 97) ∧ prB p.toNat = true := by
  constructor
  · intro q
    obtain ⟨j, h1, h2⟩ := q
    have h3 := zPf_R j h1
    obtain ⟨n, hn⟩ : ∃ n : Nat, p = (n : Int) := ⟨p.toNat, by omega⟩
    subst hn
    rw [Int.toNat_natCast]
    exact ⟨by omega, (prB_zP n (by omega)).mpr ⟨j, h1, h2⟩⟩
  · intro q
    obtain ⟨n, hn⟩ : ∃ n : Nat, p = (n : Int) := ⟨p.toNat, by omega⟩
    subst hn
    rw [Int.toNat_natCast] at q
    exact (prB_zP n (by omega)).mp q.2
theorem qq_CI {G : zG} {A : Int → Int → Int} {x : Int} {S T tl : Nat} {tf : Nat → Int} {wl : Nat} {wf : Nat → Int} {B : Int → Int → Int} (h : CI G A x S T tl tf wl wf) (g : qF A B (x + 1)) : CI G B x S T tl tf wl wf ∧ cT G A G B x := by
  have e : ∀ a : Int, (a < x + 1 ∨ x + 46 < a) → B a = A a := fun a ha => g.1 a (by omega) (by omega)
  exact ⟨h.sR e (h.cR.q g), cT.lo (fun a ha => g.1 a (by omega) (by omega)) (g.1 _ (by omega) (by omega)) (g.1 _ (by omega) (by omega))⟩
theorem yq_CI {G : zG} {A : Int → Int → Int} {x : Int} {S T tl : Nat} {tf : Nat → Int} {wl : Nat} {wf : Nat → Int} {B : Int → Int → Int} (h : CI G A x S T tl tf wl wf) (g : yQ A B (x + 120)) : CI G B x S T tl tf wl wf ∧ cT G A G B x := by
  have e : ∀ a : Int, (a < x + 120 ∨ x + 125 < a) → B a = A a := fun a ha => g a (by omega)
  exact ⟨h.sY e (h.cY.ab (g _ (by omega))), cT.rg e (by omega) (by omega)⟩
theorem rq_CI {G : zG} {A : Int → Int → Int} {x : Int} {S T tl : Nat} {tf : Nat → Int} {wl : Nat} {wf : Nat → Int} {B : Int → Int → Int} (h : CI G A x S T tl tf wl wf) (g : rF A B (x + 126) (x + 126 + 8)) (n : fO B (x + 126)) : CI G B x S T tl tf wl wf ∧ cT G A G B x := by
  have e : ∀ a : Int, (a < x + 126 ∨ x + 134 < a) → B a = A a := fun a ha => g a (by omega)
  exact ⟨h.sO e n, cT.rg e (by omega) (by omega)⟩
set_option maxRecDepth 20000 in
set_option maxHeartbeats 4000000 in
theorem c_entry {d : Nat} {G : zG} {A : Int → Int → Int} {P : Option zV → zG → Prop} {x : Int} {S T tl : Nat} {tf : Nat → Int} {wl : Nat} {wf : Nat → Int} (h : CI G A x S T tl tf wl wf) {c : Int} (hc : zR c) {p : Int} (hp : zR p) (k : ∀ G2 A2, CI G2 A2 x S T tl tf wl wf → cT G A G2 A2 x → P (some (0, enV S c p)) (gw G2 A2)) : ZE 11 M_SN_entry (gw G A) 0 [(2, x), (0, c), (0, p), (9, 0)] [] P := by
  have hx0 := h.cCK.2.1
  have hR := h.cR
  have hL := h.cL.1
  have hgx := h.cL.2
  have hS7 := h.cS.2.1
  have hp5 := h.cS.2.2
  have hE0 := hR.E
  have hL64 := hR.l64
  have hC32 := hR.c32
  have hpl : (prL 1 S).length = (prs S).length := by rw [prL_1 hS7 hp5]
  have hcl : (csA 1 S).length = (csF S 1 128).length := rfl
  refine ZE.aload_n d_SN_entry_0 rfl ?_
  refine ZE.getE (v := x + 1) d_SN_entry_1 f_SN_12 (tg := 2) rfl h.cCK.1 h.cCF.1 ?_
  refine ZE.iload_n d_SN_entry_4 rfl ?_
  refine ZE.cV [(0, c)] [] [(2, x + 1), (0, c)] d_SN_entry_5 l_SN_139 rfl rfl rfl rfl rfl rfl h.cCK.2.2.1.1 ?_
  refine s_isClass h.cR.K h.cR.F h.cR.n11 (by omega) hc ?_
  show ZE 11 M_SN_entry (gw G A) 8 [(2, x), (0, c), (0, p), (9, 0)] [(0, b2i (0 ≤ c ∧ c < ((csA 1 S).length : Int)))] _
  refine ZE.if_eq (tgt := 28) d_SN_entry_8 rfl (zR_b2i _) (fun c8 => ?_) (fun c8 => ?_)
  · replace c8 := b2i_0.mp c8
    refine ZE.iconst (n := 0) d_SN_entry_28 ?_
    refine ZE.istore_n (ls2 := [(2, x), (0, c), (0, p), (0, 0)]) d_SN_entry_29 (Nat.le_of_ble_eq_true rfl) rfl ?_
    refine ZE.iload_n d_SN_entry_30 rfl ?_
    refine ZE.if_eq (tgt := 49) d_SN_entry_31 rfl (by unfold zR; omega) (fun c31 => ?_) (fun c31 => ?_)
    · refine ZE.iconst (n := (-1)) d_SN_entry_49 ?_
      refine ZE.iret d_SN_entry_50 rfl ?_
      have e0 : inC S c = false := decide_eq_false (fun q => c8 (by omega))
      have k1 := k G A h cT.rf
      rw [show enV S c p = (-1) from by unfold enV; rw [e0]; rfl] at k1
      exact k1
    · exact absurd c31 (by decide)
  · replace c8 := b2i_n0.mp c8
    obtain ⟨cn, hcn⟩ : ∃ q : Nat, c = (q : Int) := ⟨c.toNat, by omega⟩
    subst hcn
    have e0 : inC S (cn : Int) = true := decide_eq_true (by omega)
    have hfr := hR.fr (c := cn) (by omega)
    have hfb := frD_b hfr
    have hdd : DD 1 (eA 1 S cn) = d1 S cn := rfl
    refine ZE.iload_n d_SN_entry_11 rfl ?_
    refine ZE.bipush (n := 97) d_SN_entry_12 rfl ?_
    refine ZE.icmp_gt (tgt := 28) d_SN_entry_14 rfl hp (by unfold zR; omega) (fun c14 => ?_) (fun c14 => ?_)
    · refine ZE.iconst (n := 0) d_SN_entry_28 ?_
      refine ZE.istore_n (ls2 := [(2, x), (0, (cn : Int)), (0, p), (0, 0)]) d_SN_entry_29 (Nat.le_of_ble_eq_true rfl) rfl ?_
      refine ZE.iload_n d_SN_entry_30 rfl ?_
      refine ZE.if_eq (tgt := 49) d_SN_entry_31 rfl (by unfold zR; omega) (fun c31 => ?_) (fun c31 => ?_)
      · refine ZE.iconst (n := (-1)) d_SN_entry_49 ?_
        refine ZE.iret d_SN_entry_50 rfl ?_
        have k1 := k G A h cT.rf
        rw [show enV S (cn : Int) p = (-1) from by unfold enV; rw [if_pos e0]; exact if_neg (fun q => by first | exact c14 (by omega) | exact c21 ((prB_zI (by omega)).mpr q) | omega)] at k1
        exact k1
      · exact absurd c31 (by decide)
    · refine ZE.iload_n d_SN_entry_17 rfl ?_
      refine ZE.cS [(0, p)] [] [(0, p), (9, 0)] d_SN_entry_18 l_SN_225 rfl rfl rfl rfl rfl rfl ?_
      refine p_isPrime hp hL ?_
      show ZE 11 M_SN_entry (gw G A) 21 [(2, x), (0, (cn : Int)), (0, p), (9, 0)] [(0, b2i (∃ j : Nat, j < 168 ∧ zPf j = p))] _
      refine ZE.if_eq (tgt := 28) d_SN_entry_21 rfl (zR_b2i _) (fun c21 => ?_) (fun c21 => ?_)
      · replace c21 := b2i_0.mp c21
        refine ZE.iconst (n := 0) d_SN_entry_28 ?_
        refine ZE.istore_n (ls2 := [(2, x), (0, (cn : Int)), (0, p), (0, 0)]) d_SN_entry_29 (Nat.le_of_ble_eq_true rfl) rfl ?_
        refine ZE.iload_n d_SN_entry_30 rfl ?_
        refine ZE.if_eq (tgt := 49) d_SN_entry_31 rfl (by unfold zR; omega) (fun c31 => ?_) (fun c31 => ?_)
        · refine ZE.iconst (n := (-1)) d_SN_entry_49 ?_
          refine ZE.iret d_SN_entry_50 rfl ?_
          have k1 := k G A h cT.rf
          rw [show enV S (cn : Int) p = (-1) from by unfold enV; rw [if_pos e0]; exact if_neg (fun q => by first | exact c14 (by omega) | exact c21 ((prB_zI (by omega)).mpr q) | omega)] at k1
          exact k1
        · exact absurd c31 (by decide)
      · replace c21 := b2i_n0.mp c21
        have hpq0 := (prB_zI (p := p) (by omega)).mp c21
        obtain ⟨pm, hpm⟩ : ∃ q : Nat, p = (q : Int) := ⟨p.toNat, by omega⟩
        subst hpm
        refine ZE.iconst (n := 1) d_SN_entry_24 ?_
        refine ZE.goto (tgt := 29) d_SN_entry_25 rfl ?_
        refine ZE.istore_n (ls2 := [(2, x), (0, (cn : Int)), (0, (pm : Int)), (0, 1)]) d_SN_entry_29 (Nat.le_of_ble_eq_true rfl) rfl ?_
        refine ZE.iload_n d_SN_entry_30 rfl ?_
        refine ZE.if_eq (tgt := 49) d_SN_entry_31 rfl (by unfold zR; omega) (fun c31 => ?_) (fun c31 => ?_)
        · exact absurd c31 (by decide)
        · refine ZE.aload_n d_SN_entry_34 rfl ?_
          refine ZE.getE (v := x + 1) d_SN_entry_35 f_SN_12 (tg := 2) rfl h.cCK.1 h.cCF.1 ?_
          refine ZE.iload_n d_SN_entry_38 rfl ?_
          have hu := hR.un (c := cn) (by omega)
          refine ZE.cV [(0, (cn : Int))] [] [(2, x + 1), (0, (cn : Int)), (9, 0)] d_SN_entry_39 l_SN_142 rfl rfl rfl rfl rfl rfl h.cCK.2.2.1.1 ?_
          refine s_unitAt hR.K hR.F hR.n11 hC32 (k1 := cn) (by omega) (v1 := A (x + 1 + 29) (cn : Int)) rfl (by have := hu.1; omega) ?_
          show ZE 11 M_SN_entry (gw G A) 42 [(2, x), (0, (cn : Int)), (0, (pm : Int)), (0, 1)] [(2, A (x + 1 + 29) (cn : Int))] _
          refine ZE.iload_n d_SN_entry_42 rfl ?_
          refine ZE.cV [(0, (pm : Int))] [] [(2, A (x + 1 + 29) (cn : Int)), (0, (pm : Int)), (9, 0), (9, 0), (9, 0), (9, 0), (9, 0), (9, 0), (9, 0), (9, 0), (9, 0)] d_SN_entry_43 l_SN_228 rfl rfl rfl rfl rfl rfl hu.2.2.1.1 ?_
          refine u_firstEntry hu.2.2.1 hu.2.2.2.1 hfr (p := pm) (by omega) ?_
          show ZE 11 M_SN_entry (gw G A) 46 [(2, x), (0, (cn : Int)), (0, (pm : Int)), (0, 1)] [(0, fsA (fun i => decide ((enF ((ux (DD 1 (eA 1 S cn)) % pm : Nat) : Int) ((uy (DD 1 (eA 1 S cn)) % pm : Nat) : Int) (pm : Int) (i - 1)).2 = 0)) 1 200)] _
          refine ZE.goto (tgt := 50) d_SN_entry_46 rfl ?_
          refine ZE.iret d_SN_entry_50 rfl ?_
          have hpq := (prB_zI (p := (pm : Int)) (by omega)).mp c21
          have k1 := k G A h cT.rf
          rw [show enV S (cn : Int) (pm : Int) = (fsA (fun i => decide ((enF ((ux (DD 1 (eA 1 S cn)) % pm : Nat) : Int) ((uy (DD 1 (eA 1 S cn)) % pm : Nat) : Int) (pm : Int) (i - 1)).2 = 0)) 1 200) from by unfold enV; rw [if_pos e0, if_pos hpq, Int.toNat_natCast, Int.toNat_natCast]; rfl] at k1
          exact k1
set_option maxRecDepth 20000 in
set_option maxHeartbeats 4000000 in
theorem c_half {d : Nat} {G : zG} {A : Int → Int → Int} {P : Option zV → zG → Prop} {x : Int} {S T tl : Nat} {tf : Nat → Int} {wl : Nat} {wf : Nat → Int} (h : CI G A x S T tl tf wl wf) {c : Int} (hc : zR c) {wh i : Int} (hw : zR wh) (hi : zR i) (k : ∀ G2 A2, CI G2 A2 x S T tl tf wl wf → cT G A G2 A2 x → P (some (0, haV S c wh i)) (gw G2 A2)) : ZE 11 M_SN_half (gw G A) 0 [(2, x), (0, c), (0, wh), (0, i)] [] P := by
  have hx0 := h.cCK.2.1
  have hR := h.cR
  have hL := h.cL.1
  have hgx := h.cL.2
  have hS7 := h.cS.2.1
  have hp5 := h.cS.2.2
  have hE0 := hR.E
  have hL64 := hR.l64
  have hC32 := hR.c32
  have hpl : (prL 1 S).length = (prs S).length := by rw [prL_1 hS7 hp5]
  have hcl : (csA 1 S).length = (csF S 1 128).length := rfl
  refine ZE.aload_n d_SN_half_0 rfl ?_
  refine ZE.getE (v := x + 1) d_SN_half_1 f_SN_12 (tg := 2) rfl h.cCK.1 h.cCF.1 ?_
  refine ZE.iload_n d_SN_half_4 rfl ?_
  refine ZE.cV [(0, c)] [] [(2, x + 1), (0, c)] d_SN_half_5 l_SN_139 rfl rfl rfl rfl rfl rfl h.cCK.2.2.1.1 ?_
  refine s_isClass h.cR.K h.cR.F h.cR.n11 (by omega) hc ?_
  show ZE 11 M_SN_half (gw G A) 8 [(2, x), (0, c), (0, wh), (0, i)] [(0, b2i (0 ≤ c ∧ c < ((csA 1 S).length : Int)))] _
  refine ZE.if_eq (tgt := 32) d_SN_half_8 rfl (zR_b2i _) (fun c8 => ?_) (fun c8 => ?_)
  · replace c8 := b2i_0.mp c8
    refine ZE.iconst (n := (-1)) d_SN_half_32 ?_
    refine ZE.iret d_SN_half_33 rfl ?_
    have e0 : inC S c = false := decide_eq_false (fun q => c8 (by omega))
    have k1 := k G A h cT.rf
    rw [show haV S c wh i = (-1) from by unfold haV; rw [e0]; rfl] at k1
    exact k1
  · replace c8 := b2i_n0.mp c8
    obtain ⟨cn, hcn⟩ : ∃ q : Nat, c = (q : Int) := ⟨c.toNat, by omega⟩
    subst hcn
    have e0 : inC S (cn : Int) = true := decide_eq_true (by omega)
    have hfD := hR.fr (c := cn) (by omega)
    have hfb := frD_b hfD
    have hdd : DD 1 (eA 1 S cn) = d1 S cn := rfl
    refine ZE.aload_n d_SN_half_11 rfl ?_
    refine ZE.getE (v := x + 1) d_SN_half_12 f_SN_12 (tg := 2) rfl h.cCK.1 h.cCF.1 ?_
    refine ZE.iload_n d_SN_half_15 rfl ?_
    have hu := hR.un (c := cn) (by omega)
    refine ZE.cV [(0, (cn : Int))] [] [(2, x + 1), (0, (cn : Int)), (9, 0)] d_SN_half_16 l_SN_142 rfl rfl rfl rfl rfl rfl h.cCK.2.2.1.1 ?_
    refine s_unitAt hR.K hR.F hR.n11 hC32 (k1 := cn) (by omega) (v1 := A (x + 1 + 29) (cn : Int)) rfl (by have := hu.1; omega) ?_
    show ZE 11 M_SN_half (gw G A) 19 [(2, x), (0, (cn : Int)), (0, wh), (0, i)] [(2, A (x + 1 + 29) (cn : Int))] _
    refine ZE.cV [] [] [(2, A (x + 1 + 29) (cn : Int))] d_SN_half_19 l_SN_160 rfl rfl rfl rfl rfl rfl hu.2.2.1.1 ?_
    refine u_isNegative hu.2.2.1 hu.2.2.2.1 hfb.2.2.1 ?_
    show ZE 11 M_SN_half (gw G A) 22 [(2, x), (0, (cn : Int)), (0, wh), (0, i)] [(0, b2i (rnd (DD 1 (eA 1 S cn)) % 2 = 1))] _
    refine ZE.if_eq (tgt := 32) d_SN_half_22 rfl (zR_b2i _) (fun c22 => ?_) (fun c22 => ?_)
    · replace c22 := b2i_0.mp c22
      refine ZE.iconst (n := (-1)) d_SN_half_32 ?_
      refine ZE.iret d_SN_half_33 rfl ?_
      have k1 := k G A h cT.rf
      rw [show haV S (cn : Int) wh i = (-1) from by unfold haV; rw [if_pos e0, Int.toNat_natCast, ← hdd]; exact if_neg (fun q => by first | exact c22 q.1 | exact c29 (by omega))] at k1
      exact k1
    · replace c22 := b2i_n0.mp c22
      refine ZE.iload_n d_SN_half_25 rfl ?_
      refine ZE.cS [(0, wh)] [] [(0, wh)] d_SN_half_26 l_SN_183 rfl rfl rfl rfl rfl rfl ?_
      refine c_one2 hw ?_
      show ZE 11 M_SN_half (gw G A) 29 [(2, x), (0, (cn : Int)), (0, wh), (0, i)] [(0, b2i (wh = 0 ∨ wh = 1))] _
      refine ZE.if_ne (tgt := 34) d_SN_half_29 rfl (zR_b2i _) (fun c29 => ?_) (fun c29 => ?_)
      · replace c29 := b2i_n0.mp c29
        have hfK := h.cCK.2.2.2.2.2.2.2.1
        rw [hdd] at hfD c22
        have hns := frD_ns hfD (j := rnd (d1 S cn) - 1) (by omega)
        have hp27 : hfp (d1 S cn) (isq (d1 S cn)) (rnd (d1 S cn)) < 10 ^ 27 := hns.1
        have hr27 : hfr (d1 S cn) (isq (d1 S cn)) (rnd (d1 S cn)) < 10 ^ 27 := hns.2.2.1
        refine ZE.aload_n d_SN_half_34 rfl ?_
        refine ZE.getE (v := x + 126) d_SN_half_35 f_SN_45 (tg := 2) rfl h.cCK.1 h.cCF.2.2.2.2.2.1 ?_
        refine ZE.aload_n d_SN_half_38 rfl ?_
        refine ZE.iload_n d_SN_half_39 rfl ?_
        refine ZE.cV [(0, (cn : Int))] [(2, x + 126)] [(2, x), (0, (cn : Int))] d_SN_half_40 l_SN_176 rfl rfl rfl rfl rfl rfl h.cCK.1 ?_
        refine c_squareOf h (cn := cn) (by omega) ?_
        show ZE 11 M_SN_half (gw G A) 43 [(2, x), (0, (cn : Int)), (0, wh), (0, i)] [(0, (d1 S cn : Int)), (2, x + 126)] _
        refine ZE.cV [(0, (d1 S cn : Int))] [] [(2, x + 126), (0, (d1 S cn : Int)), (9, 0)] d_SN_half_43 l_SN_198 rfl rfl rfl rfl rfl rfl h.cCK.2.2.2.2.2.2.2.1.1 ?_
        refine f_round hfK h.cO hfD (fun B gB hfB hpB hrB => ?_)
        show ZE 11 M_SN_half (gw G B) 46 [(2, x), (0, (cn : Int)), (0, wh), (0, i)] [(0, (rnd (d1 S cn) : Int))] _
        have hB := rq_CI h gB hfB
        refine ZE.pop d_SN_half_46 (Or.inl rfl) ?_
        refine ZE.iload_n d_SN_half_47 rfl ?_
        refine ZE.if_ne (tgt := 61) d_SN_half_48 rfl (by unfold zR; omega) (fun c48 => ?_) (fun c48 => ?_)
        · refine ZE.aload_n d_SN_half_61 rfl ?_
          refine ZE.getE (v := x + 126) d_SN_half_62 f_SN_45 (tg := 2) rfl h.cCK.1 hB.1.cCF.2.2.2.2.2.1 ?_
          refine ZE.getE (v := x + 126 + 3) d_SN_half_65 f_SN_204 (tg := 2) rfl h.cCK.2.2.2.2.2.2.2.1.1 hfB.2.1 ?_
          refine ZE.iload_n d_SN_half_68 rfl ?_
          refine ZE.cV [(0, i)] [] [(2, x + 126 + 3), (0, i), (9, 0), (9, 0)] d_SN_half_69 l_SN_186 rfl rfl rfl rfl rfl rfl hfK.2.2.2.1.1 ?_
          refine B_digitAt hfK.2.2.2.1 hrB (by have := nd_le (b := 1000000000) (n := 4) (by omega) (Nat.lt_trans hr27 (show 10 ^ 27 < 1000000000 ^ 4 by decide)); omega) hi ?_
          show ZE 11 M_SN_half (gw G B) 72 [(2, x), (0, (cn : Int)), (0, wh), (0, i)] [(0, dgN (hfr (d1 S cn) (isq (d1 S cn)) (rnd (d1 S cn))) i)] _
          refine ZE.iret d_SN_half_72 rfl ?_
          have k1 := k G B hB.1 hB.2
          rw [show haV S (cn : Int) wh i = (dgN (hfr (d1 S cn) (isq (d1 S cn)) (rnd (d1 S cn))) i) from by unfold haV; rw [if_pos e0, Int.toNat_natCast, if_pos ⟨c22, by omega⟩]; exact if_neg (by omega)] at k1
          exact k1
        · refine ZE.aload_n d_SN_half_51 rfl ?_
          refine ZE.getE (v := x + 126) d_SN_half_52 f_SN_45 (tg := 2) rfl h.cCK.1 hB.1.cCF.2.2.2.2.2.1 ?_
          refine ZE.getE (v := x + 126 + 1) d_SN_half_55 f_SN_201 (tg := 2) rfl h.cCK.2.2.2.2.2.2.2.1.1 hfB.1 ?_
          refine ZE.goto (tgt := 68) d_SN_half_58 rfl ?_
          refine ZE.iload_n d_SN_half_68 rfl ?_
          refine ZE.cV [(0, i)] [] [(2, x + 126 + 1), (0, i), (9, 0), (9, 0)] d_SN_half_69 l_SN_186 rfl rfl rfl rfl rfl rfl hfK.2.2.1.1 ?_
          refine B_digitAt hfK.2.2.1 hpB (by have := nd_le (b := 1000000000) (n := 4) (by omega) (Nat.lt_trans hp27 (show 10 ^ 27 < 1000000000 ^ 4 by decide)); omega) hi ?_
          show ZE 11 M_SN_half (gw G B) 72 [(2, x), (0, (cn : Int)), (0, wh), (0, i)] [(0, dgN (hfp (d1 S cn) (isq (d1 S cn)) (rnd (d1 S cn))) i)] _
          refine ZE.iret d_SN_half_72 rfl ?_
          have k1 := k G B hB.1 hB.2
          rw [show haV S (cn : Int) wh i = (dgN (hfp (d1 S cn) (isq (d1 S cn)) (rnd (d1 S cn))) i) from by unfold haV; rw [if_pos e0, Int.toNat_natCast, if_pos ⟨c22, by omega⟩]; exact if_pos (by omega)] at k1
          exact k1
      · replace c29 := b2i_0.mp c29
        refine ZE.iconst (n := (-1)) d_SN_half_32 ?_
        refine ZE.iret d_SN_half_33 rfl ?_
        have k1 := k G A h cT.rf
        rw [show haV S (cn : Int) wh i = (-1) from by unfold haV; rw [if_pos e0, Int.toNat_natCast, ← hdd]; exact if_neg (fun q => by first | exact c22 q.1 | exact c29 (by omega))] at k1
        exact k1
set_option maxRecDepth 20000 in
set_option maxHeartbeats 4000000 in
theorem c_middle {d : Nat} {G : zG} {A : Int → Int → Int} {P : Option zV → zG → Prop} {x : Int} {S T tl : Nat} {tf : Nat → Int} {wl : Nat} {wf : Nat → Int} (h : CI G A x S T tl tf wl wf) {c : Int} (hc : zR c) (k : ∀ G2 A2, CI G2 A2 x S T tl tf wl wf → cT G A G2 A2 x → P (some (0, miV S c)) (gw G2 A2)) : ZE 11 M_SN_middle (gw G A) 0 [(2, x), (0, c)] [] P := by
  have hx0 := h.cCK.2.1
  have hR := h.cR
  have hL := h.cL.1
  have hgx := h.cL.2
  have hS7 := h.cS.2.1
  have hp5 := h.cS.2.2
  have hE0 := hR.E
  have hL64 := hR.l64
  have hC32 := hR.c32
  have hpl : (prL 1 S).length = (prs S).length := by rw [prL_1 hS7 hp5]
  have hcl : (csA 1 S).length = (csF S 1 128).length := rfl
  refine ZE.aload_n d_SN_middle_0 rfl ?_
  refine ZE.getE (v := x + 1) d_SN_middle_1 f_SN_12 (tg := 2) rfl h.cCK.1 h.cCF.1 ?_
  refine ZE.iload_n d_SN_middle_4 rfl ?_
  refine ZE.cV [(0, c)] [] [(2, x + 1), (0, c)] d_SN_middle_5 l_SN_139 rfl rfl rfl rfl rfl rfl h.cCK.2.2.1.1 ?_
  refine s_isClass h.cR.K h.cR.F h.cR.n11 (by omega) hc ?_
  show ZE 11 M_SN_middle (gw G A) 8 [(2, x), (0, c)] [(0, b2i (0 ≤ c ∧ c < ((csA 1 S).length : Int)))] _
  refine ZE.if_eq (tgt := 25) d_SN_middle_8 rfl (zR_b2i _) (fun c8 => ?_) (fun c8 => ?_)
  · replace c8 := b2i_0.mp c8
    refine ZE.iconst (n := (-1)) d_SN_middle_25 ?_
    refine ZE.iret d_SN_middle_26 rfl ?_
    have e0 : inC S c = false := decide_eq_false (fun q => c8 (by omega))
    have k1 := k G A h cT.rf
    rw [show miV S c = (-1) from by unfold miV; rw [e0]; rfl] at k1
    exact k1
  · replace c8 := b2i_n0.mp c8
    obtain ⟨cn, hcn⟩ : ∃ q : Nat, c = (q : Int) := ⟨c.toNat, by omega⟩
    subst hcn
    have e0 : inC S (cn : Int) = true := decide_eq_true (by omega)
    have hfr := hR.fr (c := cn) (by omega)
    have hfb := frD_b hfr
    have hdd : DD 1 (eA 1 S cn) = d1 S cn := rfl
    refine ZE.aload_n d_SN_middle_11 rfl ?_
    refine ZE.getE (v := x + 1) d_SN_middle_12 f_SN_12 (tg := 2) rfl h.cCK.1 h.cCF.1 ?_
    refine ZE.iload_n d_SN_middle_15 rfl ?_
    have hu := hR.un (c := cn) (by omega)
    refine ZE.cV [(0, (cn : Int))] [] [(2, x + 1), (0, (cn : Int)), (9, 0)] d_SN_middle_16 l_SN_142 rfl rfl rfl rfl rfl rfl h.cCK.2.2.1.1 ?_
    refine s_unitAt hR.K hR.F hR.n11 hC32 (k1 := cn) (by omega) (v1 := A (x + 1 + 29) (cn : Int)) rfl (by have := hu.1; omega) ?_
    show ZE 11 M_SN_middle (gw G A) 19 [(2, x), (0, (cn : Int))] [(2, A (x + 1 + 29) (cn : Int))] _
    refine ZE.cV [] [] [(2, A (x + 1 + 29) (cn : Int))] d_SN_middle_19 l_SN_160 rfl rfl rfl rfl rfl rfl hu.2.2.1.1 ?_
    refine u_isNegative hu.2.2.1 hu.2.2.2.1 hfb.2.2.1 ?_
    show ZE 11 M_SN_middle (gw G A) 22 [(2, x), (0, (cn : Int))] [(0, b2i (rnd (DD 1 (eA 1 S cn)) % 2 = 1))] _
    refine ZE.if_eq (tgt := 27) d_SN_middle_22 rfl (zR_b2i _) (fun c22 => ?_) (fun c22 => ?_)
    · replace c22 := b2i_0.mp c22
      refine ZE.aload_n d_SN_middle_27 rfl ?_
      refine ZE.getE (v := x + 126) d_SN_middle_28 f_SN_45 (tg := 2) rfl h.cCK.1 h.cCF.2.2.2.2.2.1 ?_
      refine ZE.aload_n d_SN_middle_31 rfl ?_
      refine ZE.iload_n d_SN_middle_32 rfl ?_
      refine ZE.cV [(0, (cn : Int))] [(2, x + 126)] [(2, x), (0, (cn : Int))] d_SN_middle_33 l_SN_176 rfl rfl rfl rfl rfl rfl h.cCK.1 ?_
      refine c_squareOf h (cn := cn) (by omega) ?_
      show ZE 11 M_SN_middle (gw G A) 36 [(2, x), (0, (cn : Int))] [(0, (d1 S cn : Int)), (2, x + 126)] _
      refine ZE.aload_n d_SN_middle_36 rfl ?_
      refine ZE.getE (v := x + 1) d_SN_middle_37 f_SN_12 (tg := 2) rfl h.cCK.1 h.cCF.1 ?_
      refine ZE.iload_n d_SN_middle_40 rfl ?_
      have hu := hR.un (c := cn) (by omega)
      refine ZE.cV [(0, (cn : Int))] [(0, (d1 S cn : Int)), (2, x + 126)] [(2, x + 1), (0, (cn : Int)), (9, 0)] d_SN_middle_41 l_SN_142 rfl rfl rfl rfl rfl rfl h.cCK.2.2.1.1 ?_
      refine s_unitAt hR.K hR.F hR.n11 hC32 (k1 := cn) (by omega) (v1 := A (x + 1 + 29) (cn : Int)) rfl (by have := hu.1; omega) ?_
      show ZE 11 M_SN_middle (gw G A) 44 [(2, x), (0, (cn : Int))] [(2, A (x + 1 + 29) (cn : Int)), (0, (d1 S cn : Int)), (2, x + 126)] _
      refine ZE.getE (v := (rnd (DD 1 (eA 1 S cn)) : Int)) d_SN_middle_44 f_SN_157 (tg := 0) rfl hu.2.2.1.1 hu.2.2.2.1.2.2.2.2.2.1 ?_
      refine ZE.iconst (n := 2) d_SN_middle_47 ?_
      refine ZE.idivP d_SN_middle_48 (by omega) ?_
      rw [show ((rnd (DD 1 (eA 1 S cn)) : Int) / 2 : Int) = ((rnd (d1 S cn) / 2 : Nat) : Int) from (by rw [hdd]; omega)]
      have hfK := h.cCK.2.2.2.2.2.2.2.1
      refine ZE.cV [(0, (d1 S cn : Int)), (0, ((rnd (d1 S cn) / 2 : Nat) : Int))] [] [(2, x + 126), (0, (d1 S cn : Int)), (0, ((rnd (d1 S cn) / 2 : Nat) : Int))] d_SN_middle_49 l_SN_215 rfl rfl rfl rfl rfl rfl h.cCK.2.2.2.2.2.2.2.1.1 ?_
      refine f_divisor hfK h.cO (hdd ▸ hfr) (n := rnd (d1 S cn) / 2) (by omega) (fun B gB => ?_)
      show ZE 11 M_SN_middle (gw G B) 52 [(2, x), (0, (cn : Int))] [(0, ((cf (d1 S cn) (isq (d1 S cn)) (rnd (d1 S cn) / 2)).2.1 : Int))] _
      have hrg : ∀ a : Int, (a < x + 126 ∨ x + 134 < a) → B a = A a := fun a ha => gB.1 a (by omega)
      have hB : CI G B x S T tl tf wl wf ∧ cT G A G B x := ⟨h.sO hrg (h.cO.fl gB), cT.rg hrg (by omega) (by omega)⟩
      refine ZE.iret d_SN_middle_52 rfl ?_
      rw [hdd] at c22
      have k1 := k G B hB.1 hB.2
      rw [show miV S (cn : Int) = (((cf (d1 S cn) (isq (d1 S cn)) (rnd (d1 S cn) / 2)).2.1 : Int)) from by unfold miV; rw [if_pos e0, Int.toNat_natCast, if_neg c22]] at k1
      exact k1
    · replace c22 := b2i_n0.mp c22
      refine ZE.iconst (n := (-1)) d_SN_middle_25 ?_
      refine ZE.iret d_SN_middle_26 rfl ?_
      have k1 := k G A h cT.rf
      rw [show miV S (cn : Int) = (-1) from by unfold miV; rw [if_pos e0, Int.toNat_natCast, ← hdd]; exact if_pos c22] at k1
      exact k1
set_option maxRecDepth 20000 in
set_option maxHeartbeats 4000000 in
theorem c_least {d : Nat} {G : zG} {A : Int → Int → Int} {P : Option zV → zG → Prop} {x : Int} {S T tl : Nat} {tf : Nat → Int} {wl : Nat} {wf : Nat → Int} (h : CI G A x S T tl tf wl wf) {c : Int} (hc : zR c) {n : Int} (hn : zR n) (k : ∀ G2 A2, CI G2 A2 x S T tl tf wl wf → cT G A G2 A2 x → P (some (0, lsV S c n)) (gw G2 A2)) : ZE 11 M_SN_least (gw G A) 0 [(2, x), (0, c), (0, n), (9, 0), (9, 0), (9, 0)] [] P := by
  have hx0 := h.cCK.2.1
  have hR := h.cR
  have hL := h.cL.1
  have hgx := h.cL.2
  have hS7 := h.cS.2.1
  have hp5 := h.cS.2.2
  have hE0 := hR.E
  have hL64 := hR.l64
  have hC32 := hR.c32
  have hpl : (prL 1 S).length = (prs S).length := by rw [prL_1 hS7 hp5]
  have hcl : (csA 1 S).length = (csF S 1 128).length := rfl
  refine ZE.aload_n d_SN_least_0 rfl ?_
  refine ZE.getE (v := x + 1) d_SN_least_1 f_SN_12 (tg := 2) rfl h.cCK.1 h.cCF.1 ?_
  refine ZE.iload_n d_SN_least_4 rfl ?_
  refine ZE.cV [(0, c)] [] [(2, x + 1), (0, c)] d_SN_least_5 l_SN_139 rfl rfl rfl rfl rfl rfl h.cCK.2.2.1.1 ?_
  refine s_isClass h.cR.K h.cR.F h.cR.n11 (by omega) hc ?_
  show ZE 11 M_SN_least (gw G A) 8 [(2, x), (0, c), (0, n), (9, 0), (9, 0), (9, 0)] [(0, b2i (0 ≤ c ∧ c < ((csA 1 S).length : Int)))] _
  refine ZE.if_eq (tgt := 25) d_SN_least_8 rfl (zR_b2i _) (fun c8 => ?_) (fun c8 => ?_)
  · replace c8 := b2i_0.mp c8
    refine ZE.iconst (n := (-1)) d_SN_least_25 ?_
    refine ZE.iret d_SN_least_26 rfl ?_
    have e0 : inC S c = false := decide_eq_false (fun q => c8 (by omega))
    have k1 := k G A h cT.rf
    rw [show lsV S c n = (-1) from by unfold lsV; rw [e0]; rfl] at k1
    exact k1
  · replace c8 := b2i_n0.mp c8
    obtain ⟨cn, hcn⟩ : ∃ q : Nat, c = (q : Int) := ⟨c.toNat, by omega⟩
    subst hcn
    have e0 : inC S (cn : Int) = true := decide_eq_true (by omega)
    have hfr := hR.fr (c := cn) (by omega)
    have hfb := frD_b hfr
    have hdd : DD 1 (eA 1 S cn) = d1 S cn := rfl
    refine ZE.iload_n d_SN_least_11 rfl ?_
    refine ZE.sipush (n := (-1000)) d_SN_least_12 rfl ?_
    refine ZE.icmp_lt (tgt := 25) d_SN_least_15 rfl hn (by unfold zR; omega) (fun c15 => ?_) (fun c15 => ?_)
    · refine ZE.iconst (n := (-1)) d_SN_least_25 ?_
      refine ZE.iret d_SN_least_26 rfl ?_
      have k1 := k G A h cT.rf
      rw [show lsV S (cn : Int) n = (-1) from by unfold lsV; rw [if_pos e0]; exact if_neg (by omega)] at k1
      exact k1
    · refine ZE.iload_n d_SN_least_18 rfl ?_
      refine ZE.sipush (n := 1000) d_SN_least_19 rfl ?_
      refine ZE.icmp_le (tgt := 27) d_SN_least_22 rfl hn (by unfold zR; omega) (fun c22 => ?_) (fun c22 => ?_)
      · refine ZE.aload_n d_SN_least_27 rfl ?_
        refine ZE.iload_n d_SN_least_28 rfl ?_
        have hdl := d1_le hS7 hp5 (k := cn) (by omega)
        refine ZE.cV [(0, (cn : Int))] [] [(2, x), (0, (cn : Int))] d_SN_least_29 l_SN_176 rfl rfl rfl rfl rfl rfl h.cCK.1 ?_
        refine c_squareOf h (cn := cn) (by omega) ?_
        show ZE 11 M_SN_least (gw G A) 32 [(2, x), (0, (cn : Int)), (0, n), (9, 0), (9, 0), (9, 0)] [(0, (d1 S cn : Int))] _
        refine ZE.i2l d_SN_least_32 (by unfold zR; omega) ?_
        refine ZE.lstore_n (ls2 := [(2, x), (0, (cn : Int)), (0, n), (1, (d1 S cn : Int)), (9, 0), (9, 0)]) d_SN_least_33 (Nat.le_of_ble_eq_true rfl) rfl ?_
        refine ZE.iconst (n := 1) d_SN_least_34 ?_
        refine ZE.istore (ls2 := [(2, x), (0, (cn : Int)), (0, n), (1, (d1 S cn : Int)), (9, 0), (0, 1)]) d_SN_least_35 (Nat.le_of_ble_eq_true rfl) rfl ?_
        have L37 : ∀ (tt0 : Nat) (j : Nat) (hj : j ≤ 3000) (hfa : fsA (fun y : Nat => sqB ((d1 S cn : Int) * (y : Int) * (y : Int) + n)) 1 3000 = fsA (fun y : Nat => sqB ((d1 S cn : Int) * (y : Int) * (y : Int) + n)) (j + 1) (3000 - j)), 3000 - j < tt0 → ZE 11 M_SN_least (gw G A) 37 [(2, x), (0, (cn : Int)), (0, n), (1, (d1 S cn : Int)), (9, 0), (0, (j : Int) + 1)] [] P := by
          intro tt0
          induction tt0 with
          | zero => intro j hj hfa hm; exact absurd hm (Nat.not_lt_zero _)
          | succ tt0 ih =>
            intro j hj hfa hm
            have hd0 : 0 ≤ (d1 S cn : Int) * ((j : Int) + 1) := Int.mul_nonneg (by omega) (by omega)
            refine ZE.iload d_SN_least_37 rfl ?_
            refine ZE.sipush (n := 3000) d_SN_least_39 rfl ?_
            refine ZE.icmp_gt (tgt := 72) d_SN_least_42 rfl (by unfold zR; omega) (by unfold zR; omega) (fun c42 => ?_) (fun c42 => ?_)
            · refine ZE.iconst (n := (-1)) d_SN_least_72 ?_
              refine ZE.iret d_SN_least_73 rfl ?_
              have k1 := k G A h cT.rf
              rw [show lsV S (cn : Int) n = (-1) from by unfold lsV; rw [if_pos e0, if_pos (by omega), Int.toNat_natCast, hfa, show 3000 - j = 0 by omega]; rfl] at k1
              exact k1
            · refine ZE.lload_n d_SN_least_45 rfl ?_
              refine ZE.iload d_SN_least_46 rfl ?_
              refine ZE.i2l d_SN_least_48 (by unfold zR; omega) ?_
              refine ZE.lmul d_SN_least_49 ?_
              refine ZE.iload d_SN_least_50 rfl ?_
              refine ZE.i2l d_SN_least_52 (by unfold zR; omega) ?_
              refine ZE.lmul d_SN_least_53 ?_
              refine ZE.iload_n d_SN_least_54 rfl ?_
              refine ZE.i2l d_SN_least_55 (by unfold zR; omega) ?_
              refine ZE.ladd d_SN_least_56 ?_
              have hm1 : (d1 S cn : Int) * ((j : Int) + 1) ≤ 170170 * 3000 := Int.mul_le_mul (by omega) (by omega) (by omega) (by omega)
              have hm2 : (d1 S cn : Int) * ((j : Int) + 1) * ((j : Int) + 1) ≤ 170170 * 3000 * 3000 := Int.mul_le_mul hm1 (by omega) (by omega) (by omega)
              have hm3 : 0 ≤ (d1 S cn : Int) * ((j : Int) + 1) * ((j : Int) + 1) := Int.mul_nonneg hd0 (by omega)
              refine ZE.cS [(1, (((d1 S cn : Int) * ((j : Int) + 1)) * ((j : Int) + 1)) + n)] [] [(1, (((d1 S cn : Int) * ((j : Int) + 1)) * ((j : Int) + 1)) + n), (9, 0), (9, 0), (9, 0)] d_SN_least_57 l_SN_218 rfl rfl rfl rfl rfl rfl ?_
              refine p_isSquare (v := ((d1 S cn : Int) * ((j : Int) + 1) * ((j : Int) + 1) + n)) (by omega) ?_
              show ZE 11 M_SN_least (gw G A) 60 [(2, x), (0, (cn : Int)), (0, n), (1, (d1 S cn : Int)), (9, 0), (0, (j : Int) + 1)] [(0, b2i (∃ r : Nat, (r : Int) * r = ((d1 S cn : Int) * ((j : Int) + 1) * ((j : Int) + 1) + n)))] _
              refine ZE.if_eq (tgt := 66) d_SN_least_60 rfl (zR_b2i _) (fun c60 => ?_) (fun c60 => ?_)
              · replace c60 := b2i_0.mp c60
                refine ZE.iinc (ls2 := [(2, x), (0, (cn : Int)), (0, n), (1, (d1 S cn : Int)), (9, 0), (0, ((j : Int) + 1) + 1)]) d_SN_least_66 rfl rfl ?_
                refine ZE.goto (tgt := 37) d_SN_least_69 rfl ?_
                rw [show (j : Int) + 1 + 1 = ((j + 1 : Nat) : Int) + 1 by omega]
                refine ih (j + 1) (by omega) ?_ (by omega)
                rw [hfa, fsA_go (show ¬ (fun y : Nat => sqB ((d1 S cn : Int) * (y : Int) * (y : Int) + n)) (j + 1) = true from fun q => c60 (sqB_iff.mp q)) (by omega), show 3000 - j - 1 = 3000 - (j + 1) by omega]
              · replace c60 := b2i_n0.mp c60
                refine ZE.iload d_SN_least_63 rfl ?_
                refine ZE.iret d_SN_least_65 rfl ?_
                have k1 := k G A h cT.rf
                rw [show lsV S (cn : Int) n = ((j : Int) + 1) from by unfold lsV; rw [if_pos e0, if_pos (by omega), Int.toNat_natCast, hfa, fsA_stop (show (fun y : Nat => sqB ((d1 S cn : Int) * (y : Int) * (y : Int) + n)) (j + 1) = true from sqB_iff.mpr c60) (by omega)]; omega] at k1
                exact k1
        exact L37 _ 0 (by omega) rfl (Nat.lt_succ_self _)
      · refine ZE.iconst (n := (-1)) d_SN_least_25 ?_
        refine ZE.iret d_SN_least_26 rfl ?_
        have k1 := k G A h cT.rf
        rw [show lsV S (cn : Int) n = (-1) from by unfold lsV; rw [if_pos e0]; exact if_neg (by omega)] at k1
        exact k1
set_option maxRecDepth 20000 in
set_option maxHeartbeats 4000000 in
theorem c_witness {d : Nat} {G : zG} {A : Int → Int → Int} {P : Option zV → zG → Prop} {x : Int} {S T tl : Nat} {tf : Nat → Int} {wl : Nat} {wf : Nat → Int} (h : CI G A x S T tl tf wl wf) {c : Int} (hc : zR c) {i : Int} (hi : zR i) (k : ∀ G2 A2, CI G2 A2 x S T tl tf wl wf → cT G A G2 A2 x → P (some (0, wiV S c i)) (gw G2 A2)) : ZE 11 M_SN_witness (gw G A) 0 [(2, x), (0, c), (0, i), (9, 0)] [] P := by
  have hx0 := h.cCK.2.1
  have hR := h.cR
  have hL := h.cL.1
  have hgx := h.cL.2
  have hS7 := h.cS.2.1
  have hp5 := h.cS.2.2
  have hE0 := hR.E
  have hL64 := hR.l64
  have hC32 := hR.c32
  have hpl : (prL 1 S).length = (prs S).length := by rw [prL_1 hS7 hp5]
  have hcl : (csA 1 S).length = (csF S 1 128).length := rfl
  have hb9 := bnd_le S hS7
  refine ZE.aload_n d_SN_witness_0 rfl ?_
  refine ZE.getE (v := x + 1) d_SN_witness_1 f_SN_12 (tg := 2) rfl h.cCK.1 h.cCF.1 ?_
  refine ZE.iload_n d_SN_witness_4 rfl ?_
  refine ZE.cV [(0, c)] [] [(2, x + 1), (0, c)] d_SN_witness_5 l_SN_139 rfl rfl rfl rfl rfl rfl h.cCK.2.2.1.1 ?_
  refine s_isClass h.cR.K h.cR.F h.cR.n11 (by omega) hc ?_
  show ZE 11 M_SN_witness (gw G A) 8 [(2, x), (0, c), (0, i), (9, 0)] [(0, b2i (0 ≤ c ∧ c < ((csA 1 S).length : Int)))] _
  refine ZE.if_eq (tgt := 31) d_SN_witness_8 rfl (zR_b2i _) (fun c8 => ?_) (fun c8 => ?_)
  · replace c8 := b2i_0.mp c8
    refine ZE.iconst (n := 0) d_SN_witness_31 ?_
    refine ZE.istore_n (ls2 := [(2, x), (0, c), (0, i), (0, 0)]) d_SN_witness_32 (Nat.le_of_ble_eq_true rfl) rfl ?_
    refine ZE.iload_n d_SN_witness_33 rfl ?_
    refine ZE.if_eq (tgt := 56) d_SN_witness_34 rfl (by unfold zR; omega) (fun c34 => ?_) (fun c34 => ?_)
    · refine ZE.iconst (n := (-1)) d_SN_witness_56 ?_
      refine ZE.iret d_SN_witness_57 rfl ?_
      have e0 : inC S c = false := decide_eq_false (fun q => c8 (by omega))
      have k1 := k G A h cT.rf
      rw [show wiV S c i = (-1) from by unfold wiV; rw [e0]; rfl] at k1
      exact k1
    · exact absurd c34 (by decide)
  · replace c8 := b2i_n0.mp c8
    obtain ⟨cn, hcn⟩ : ∃ q : Nat, c = (q : Int) := ⟨c.toNat, by omega⟩
    subst hcn
    have e0 : inC S (cn : Int) = true := decide_eq_true (by omega)
    have hfr := hR.fr (c := cn) (by omega)
    have hfb := frD_b hfr
    have hdd : DD 1 (eA 1 S cn) = d1 S cn := rfl
    refine ZE.iload_n d_SN_witness_11 rfl ?_
    refine ZE.iconst (n := 1) d_SN_witness_12 ?_
    refine ZE.icmp_lt (tgt := 31) d_SN_witness_13 rfl hi (by unfold zR; omega) (fun c13 => ?_) (fun c13 => ?_)
    · refine ZE.iconst (n := 0) d_SN_witness_31 ?_
      refine ZE.istore_n (ls2 := [(2, x), (0, (cn : Int)), (0, i), (0, 0)]) d_SN_witness_32 (Nat.le_of_ble_eq_true rfl) rfl ?_
      refine ZE.iload_n d_SN_witness_33 rfl ?_
      refine ZE.if_eq (tgt := 56) d_SN_witness_34 rfl (by unfold zR; omega) (fun c34 => ?_) (fun c34 => ?_)
      · refine ZE.iconst (n := (-1)) d_SN_witness_56 ?_
        refine ZE.iret d_SN_witness_57 rfl ?_
        have k1 := k G A h cT.rf
        rw [show wiV S (cn : Int) i = (-1) from by unfold wiV; rw [e0, if_pos rfl]; exact if_neg (by omega)] at k1
        exact k1
      · exact absurd c34 (by decide)
    · refine ZE.iload_n d_SN_witness_16 rfl ?_
      refine ZE.aload_n d_SN_witness_17 rfl ?_
      refine ZE.getE (v := x + 1) d_SN_witness_18 f_SN_12 (tg := 2) rfl h.cCK.1 h.cCF.1 ?_
      refine ZE.getE (v := (bnd S : Int)) d_SN_witness_21 f_SN_108 (tg := 0) rfl h.cCK.2.2.1.1 h.cR.N.1.2.1 ?_
      refine ZE.icmp_gt (tgt := 31) d_SN_witness_24 rfl hi (by unfold zR; omega) (fun c24 => ?_) (fun c24 => ?_)
      · refine ZE.iconst (n := 0) d_SN_witness_31 ?_
        refine ZE.istore_n (ls2 := [(2, x), (0, (cn : Int)), (0, i), (0, 0)]) d_SN_witness_32 (Nat.le_of_ble_eq_true rfl) rfl ?_
        refine ZE.iload_n d_SN_witness_33 rfl ?_
        refine ZE.if_eq (tgt := 56) d_SN_witness_34 rfl (by unfold zR; omega) (fun c34 => ?_) (fun c34 => ?_)
        · refine ZE.iconst (n := (-1)) d_SN_witness_56 ?_
          refine ZE.iret d_SN_witness_57 rfl ?_
          have k1 := k G A h cT.rf
          rw [show wiV S (cn : Int) i = (-1) from by unfold wiV; rw [e0, if_pos rfl]; exact if_neg (by omega)] at k1
          exact k1
        · exact absurd c34 (by decide)
      · obtain ⟨im, him⟩ : ∃ q : Nat, i = (q : Int) := ⟨i.toNat, by omega⟩
        subst him
        have heA := eA_lt (ap := 1) (S := S) (c := cn) (by omega)
        have heP := eA_pop (ap := 1) hS7 hp5 (c := cn) (by omega)
        have hod : xp (ux (DD 1 (eA 1 S cn))) im % 2 = 1 := (xp_odd (by have := (ux_3 _ heA.1 heP).1 heA.2.2; show 1 ≤ ux (2 * rad (eA 1 S cn)); omega) ((ux_3 _ heA.1 heP).1 heA.2.2).2 im).1
        refine ZE.iconst (n := 1) d_SN_witness_27 ?_
        refine ZE.goto (tgt := 32) d_SN_witness_28 rfl ?_
        refine ZE.istore_n (ls2 := [(2, x), (0, (cn : Int)), (0, (im : Int)), (0, 1)]) d_SN_witness_32 (Nat.le_of_ble_eq_true rfl) rfl ?_
        refine ZE.iload_n d_SN_witness_33 rfl ?_
        refine ZE.if_eq (tgt := 56) d_SN_witness_34 rfl (by unfold zR; omega) (fun c34 => ?_) (fun c34 => ?_)
        · exact absurd c34 (by decide)
        · refine ZE.aload_n d_SN_witness_37 rfl ?_
          refine ZE.getE (v := x + 1) d_SN_witness_38 f_SN_12 (tg := 2) rfl h.cCK.1 h.cCF.1 ?_
          refine ZE.iload_n d_SN_witness_41 rfl ?_
          have hu := hR.un (c := cn) (by omega)
          refine ZE.cV [(0, (cn : Int))] [] [(2, x + 1), (0, (cn : Int)), (9, 0)] d_SN_witness_42 l_SN_142 rfl rfl rfl rfl rfl rfl h.cCK.2.2.1.1 ?_
          refine s_unitAt hR.K hR.F hR.n11 hC32 (k1 := cn) (by omega) (v1 := A (x + 1 + 29) (cn : Int)) rfl (by have := hu.1; omega) ?_
          show ZE 11 M_SN_witness (gw G A) 45 [(2, x), (0, (cn : Int)), (0, (im : Int)), (0, 1)] [(2, A (x + 1 + 29) (cn : Int))] _
          refine ZE.iload_n d_SN_witness_45 rfl ?_
          refine ZE.aload_n d_SN_witness_46 rfl ?_
          refine ZE.getE (v := (S : Int)) d_SN_witness_47 f_SN_72 (tg := 0) rfl h.cCK.1 h.cS.1 ?_
          refine ZE.cV [(0, (im : Int)), (0, (S : Int))] [] [(2, A (x + 1 + 29) (cn : Int)), (0, (im : Int)), (0, (S : Int)), (9, 0)] d_SN_witness_50 l_SN_222 rfl rfl rfl rfl rfl rfl hu.2.2.1.1 ?_
          refine u_witnessFor hu.2.2.1 hu.2.2.2.1 hu.2.2.2.2 hL hfr hS7 (i0 := im) (by omega) hod (fun A2 hA2 => ?_)
          show ZE 11 M_SN_witness (gw G A2) 53 [(2, x), (0, (cn : Int)), (0, (im : Int)), (0, 1)] [(0, wtU (DD 1 (eA 1 S cn)) 1 S im)] _
          have hB : CI G A2 x S T tl tf wl wf ∧ cT G A G A2 x := by
            rcases hA2 with q | q
            · rw [q]; exact ⟨h, cT.rf⟩
            · rw [q]; exact wit_CI h (by omega)
          refine ZE.goto (tgt := 57) d_SN_witness_53 rfl ?_
          refine ZE.iret d_SN_witness_57 rfl ?_
          have hwo : wtU (DD 1 (eA 1 S cn)) 1 S im = woN S cn im := (wt_wo (s := eA 1 S cn) heA.1 heP heA.2.2 hS7 (by omega) (by omega) rfl)
          have k1 := k G A2 hB.1 hB.2
          rw [show wiV S (cn : Int) (im : Int) = (wtU (DD 1 (eA 1 S cn)) 1 S im) from by unfold wiV; rw [e0, if_pos rfl, if_pos (by omega), Int.toNat_natCast, Int.toNat_natCast]; exact hwo.symm] at k1
          exact k1
set_option maxRecDepth 20000 in
set_option maxHeartbeats 4000000 in
theorem c_is {d : Nat} {G : zG} {A : Int → Int → Int} {P : Option zV → zG → Prop} {x : Int} {S T tl : Nat} {tf : Nat → Int} {wl : Nat} {wf : Nat → Int} (h : CI G A x S T tl tf wl wf) {wh : Int} (hw : zR wh) (k : ∀ G2 A2, CI G2 A2 x S T tl tf wl wf → cT G A G2 A2 x → P (some (0, isV S wh)) (gw G2 A2)) : ZE 11 M_SN_is (gw G A) 0 [(2, x), (0, wh)] [] P := by
  have hx0 := h.cCK.2.1
  have hR := h.cR
  have hL := h.cL.1
  have hgx := h.cL.2
  have hS7 := h.cS.2.1
  have hp5 := h.cS.2.2
  have hE0 := hR.E
  have hL64 := hR.l64
  have hC32 := hR.c32
  have hpl : (prL 1 S).length = (prs S).length := by rw [prL_1 hS7 hp5]
  have hcl : (csA 1 S).length = (csF S 1 128).length := rfl
  refine ZE.iload_n d_SN_is_0 rfl ?_
  rcases (show (wh < 0 ∨ 10 < wh) ∨ wh = 0 ∨ wh = 1 ∨ wh = 2 ∨ wh = 3 ∨ wh = 4 ∨ wh = 5 ∨ wh = 6 ∨ wh = 7 ∨ wh = 8 ∨ wh = 9 ∨ wh = 10 by omega) with eo | rfl | rfl | rfl | rfl | rfl | rfl | rfl | rfl | rfl | rfl | rfl
  · refine ZE.tableOut (tgt := 174) d_SN_is_1 (by unfold zR at *; omega) eo rfl ?_
    refine ZE.iconst (n := (-1)) d_SN_is_174 ?_
    refine ZE.iret d_SN_is_175 rfl ?_
    have k1 := k G A h cT.rf
    rw [show isV S wh = (-1) from isV_out eo] at k1
    exact k1
  · refine ZE.tableIn (tgt := 60) d_SN_is_1 (by unfold zR; omega) (by omega) rfl rfl ?_
    refine ZE.aload_n d_SN_is_60 rfl ?_
    refine ZE.getE (v := (S : Int)) d_SN_is_61 f_SN_72 (tg := 0) rfl h.cCK.1 h.cS.1 ?_
    refine ZE.iret d_SN_is_64 rfl ?_
    have k1 := k G A h cT.rf
    rw [show isV S 0 = ((S : Int)) from rfl] at k1
    exact k1
  · refine ZE.tableIn (tgt := 65) d_SN_is_1 (by unfold zR; omega) (by omega) rfl rfl ?_
    refine ZE.aload_n d_SN_is_65 rfl ?_
    refine ZE.getE (v := (S : Int)) d_SN_is_66 f_SN_72 (tg := 0) rfl h.cCK.1 h.cS.1 ?_
    refine ZE.cS [(0, (S : Int))] [] [(0, (S : Int))] d_SN_is_69 l_SN_100 rfl rfl rfl rfl rfl rfl ?_
    refine j_bitCount (n := S) (by omega) ?_
    show ZE 11 M_SN_is (gw G A) 72 [(2, x), (0, 1)] [(0, (pop S : Int))] _
    refine ZE.iret d_SN_is_72 rfl ?_
    have k1 := k G A h cT.rf
    rw [show isV S 1 = ((pop S : Int)) from rfl] at k1
    exact k1
  · refine ZE.tableIn (tgt := 73) d_SN_is_1 (by unfold zR; omega) (by omega) rfl rfl ?_
    refine ZE.aload_n d_SN_is_73 rfl ?_
    refine ZE.getE (v := x + 1) d_SN_is_74 f_SN_12 (tg := 2) rfl h.cCK.1 h.cCF.1 ?_
    refine ZE.getE (v := ((csA 1 S).length : Int)) d_SN_is_77 f_SN_105 (tg := 0) rfl h.cCK.2.2.1.1 h.cR.n11 ?_
    refine ZE.iret d_SN_is_80 rfl ?_
    have k1 := k G A h cT.rf
    rw [show isV S 2 = (((csA 1 S).length : Int)) from rfl] at k1
    exact k1
  · refine ZE.tableIn (tgt := 81) d_SN_is_1 (by unfold zR; omega) (by omega) rfl rfl ?_
    refine ZE.aload_n d_SN_is_81 rfl ?_
    refine ZE.getE (v := x + 1) d_SN_is_82 f_SN_12 (tg := 2) rfl h.cCK.1 h.cCF.1 ?_
    refine ZE.getE (v := (bnd S : Int)) d_SN_is_85 f_SN_108 (tg := 0) rfl h.cCK.2.2.1.1 h.cR.N.1.2.1 ?_
    refine ZE.iret d_SN_is_88 rfl ?_
    have k1 := k G A h cT.rf
    rw [show isV S 3 = ((bnd S : Int)) from rfl] at k1
    exact k1
  · refine ZE.tableIn (tgt := 89) d_SN_is_1 (by unfold zR; omega) (by omega) rfl rfl ?_
    refine ZE.aload_n d_SN_is_89 rfl ?_
    refine ZE.getE (v := x + 1) d_SN_is_90 f_SN_12 (tg := 2) rfl h.cCK.1 h.cCF.1 ?_
    refine ZE.getE (v := ((prL 1 S).length : Int)) d_SN_is_93 f_SN_93 (tg := 0) rfl h.cCK.2.2.1.1 h.cR.n12 ?_
    refine ZE.iret d_SN_is_96 rfl ?_
    have k1 := k G A h cT.rf
    rw [show isV S 4 = (((prL 1 S).length : Int)) from by rw [hpl]; exact rfl] at k1
    exact k1
  · refine ZE.tableIn (tgt := 97) d_SN_is_1 (by unfold zR; omega) (by omega) rfl rfl ?_
    refine ZE.aload_n d_SN_is_97 rfl ?_
    refine ZE.getE (v := x + 1) d_SN_is_98 f_SN_12 (tg := 2) rfl h.cCK.1 h.cCF.1 ?_
    refine ZE.cV [] [] [(2, x + 1), (9, 0), (9, 0)] d_SN_is_101 l_SN_111 rfl rfl rfl rfl rfl rfl h.cCK.2.2.1.1 ?_
    refine s_runsOfThree hR (fun B gB => ?_)
    show ZE 11 M_SN_is (gw G B) 104 [(2, x), (0, 5)] [(0, ((rnS S).length : Int))] _
    refine ZE.iret d_SN_is_104 rfl ?_
    have k1 := k G B (qq_CI h gB).1 (qq_CI h gB).2
    rw [show isV S 5 = (((rnS S).length : Int)) from rfl] at k1
    exact k1
  · refine ZE.tableIn (tgt := 105) d_SN_is_1 (by unfold zR; omega) (by omega) rfl rfl ?_
    refine ZE.aload_n d_SN_is_105 rfl ?_
    refine ZE.getE (v := (S : Int)) d_SN_is_106 f_SN_72 (tg := 0) rfl h.cCK.1 h.cS.1 ?_
    refine ZE.cS [(0, (S : Int))] [] [(0, (S : Int)), (9, 0), (9, 0)] d_SN_is_109 l_SN_115 rfl rfl rfl rfl rfl rfl ?_
    refine p_greatest hS7 hL ?_
    show ZE 11 M_SN_is (gw G A) 112 [(2, x), (0, 6)] [(0, (gr S : Int))] _
    refine ZE.iret d_SN_is_112 rfl ?_
    have k1 := k G A h cT.rf
    rw [show isV S 6 = ((gr S : Int)) from rfl] at k1
    exact k1
  · refine ZE.tableIn (tgt := 113) d_SN_is_1 (by unfold zR; omega) (by omega) rfl rfl ?_
    refine ZE.aload_n d_SN_is_113 rfl ?_
    refine ZE.getE (v := x + 1) d_SN_is_114 f_SN_12 (tg := 2) rfl h.cCK.1 h.cCF.1 ?_
    refine ZE.getE (v := ((prL 1 S).length : Int)) d_SN_is_117 f_SN_93 (tg := 0) rfl h.cCK.2.2.1.1 h.cR.n12 ?_
    refine ZE.if_ne (tgt := 127) d_SN_is_120 rfl (by unfold zR; omega) (fun c120 => ?_) (fun c120 => ?_)
    · refine ZE.aload_n d_SN_is_127 rfl ?_
      refine ZE.getE (v := x + 1) d_SN_is_128 f_SN_12 (tg := 2) rfl h.cCK.1 h.cCF.1 ?_
      refine ZE.aload_n d_SN_is_131 rfl ?_
      refine ZE.getE (v := x + 1) d_SN_is_132 f_SN_12 (tg := 2) rfl h.cCK.1 h.cCF.1 ?_
      refine ZE.getE (v := ((prL 1 S).length : Int)) d_SN_is_135 f_SN_93 (tg := 0) rfl h.cCK.2.2.1.1 h.cR.n12 ?_
      refine ZE.iconst (n := 1) d_SN_is_138 ?_
      refine ZE.isub d_SN_is_139 ?_
      rw [show (((prL 1 S).length : Int) - 1 : Int) = (((prL 1 S).length - 1 : Nat) : Int) from (by omega)]
      have hc1 := hR.cp (k := ((prL 1 S).length - 1 : Nat)) (by omega)
      have hvk := hR.v (k := ((prL 1 S).length - 1 : Nat)) (by omega)
      refine ZE.cV [(0, (((prL 1 S).length - 1 : Nat) : Int))] [] [(2, x + 1), (0, (((prL 1 S).length - 1 : Nat) : Int)), (9, 0)] d_SN_is_140 l_SN_118 rfl rfl rfl rfl rfl rfl h.cCK.2.2.1.1 ?_
      refine s_coupleAt hR.K hR.F hR.n12 hL64 (k1 := ((prL 1 S).length - 1 : Nat)) (by omega) (v1 := A (x + 1 + 30) (((prL 1 S).length - 1 : Nat) : Int)) rfl (by omega) ?_
      show ZE 11 M_SN_is (gw G A) 143 [(2, x), (0, 7)] [(2, A (x + 1 + 30) (((prL 1 S).length - 1 : Nat) : Int))] _
      refine ZE.getE (v := A (x + 1 + 30) (((prL 1 S).length - 1 : Nat) : Int) + 3) d_SN_is_143 f_SN_122 (tg := 2) rfl hc1.2.2.1.1.1 hc1.2.2.1.2.1 ?_
      refine ZE.cV [] [] [(2, A (x + 1 + 30) (((prL 1 S).length - 1 : Nat) : Int) + 3), (9, 0), (9, 0)] d_SN_is_146 l_SN_127 rfl rfl rfl rfl rfl rfl hc1.2.2.1.1.2.2.2.2.1 ?_
      refine B_digits hc1.2.2.1.1.2.2.2.2 hc1.2.2.1.2.2.2.2.2.2.1 (by have := nd_le (b := 1000000000) (n := 1) (by omega) (show nN 1 S ((prL 1 S).length - 1 : Nat) < 1000000000 ^ 1 by omega); omega) ?_
      show ZE 11 M_SN_is (gw G A) 149 [(2, x), (0, 7)] [(0, (dl (nN 1 S ((prL 1 S).length - 1 : Nat)) : Int))] _
      refine ZE.iret d_SN_is_149 rfl ?_
      have e7 : isV S 7 = if (prs S).length = 0 then 0 else (dl (pN S ((prs S).length - 1)) : Int) := rfl
      have k1 := k G A h cT.rf
      rw [show isV S 7 = ((dl (nN 1 S ((prL 1 S).length - 1 : Nat)) : Int)) from by rw [e7]; rw [if_neg (by omega), nN_1 hS7 hp5, hpl]] at k1
      exact k1
    · refine ZE.iconst (n := 0) d_SN_is_123 ?_
      refine ZE.goto (tgt := 149) d_SN_is_124 rfl ?_
      refine ZE.iret d_SN_is_149 rfl ?_
      have e7 : isV S 7 = if (prs S).length = 0 then 0 else (dl (pN S ((prs S).length - 1)) : Int) := rfl
      have k1 := k G A h cT.rf
      rw [show isV S 7 = (0) from by rw [e7]; exact if_pos (by omega)] at k1
      exact k1
  · refine ZE.tableIn (tgt := 150) d_SN_is_1 (by unfold zR; omega) (by omega) rfl rfl ?_
    refine ZE.aload_n d_SN_is_150 rfl ?_
    refine ZE.getE (v := x + 1) d_SN_is_151 f_SN_12 (tg := 2) rfl h.cCK.1 h.cCF.1 ?_
    refine ZE.cV [] [] [(2, x + 1), (9, 0), (9, 0)] d_SN_is_154 l_SN_130 rfl rfl rfl rfl rfl rfl h.cCK.2.2.1.1 ?_
    refine s_negatives hR ?_
    show ZE 11 M_SN_is (gw G A) 157 [(2, x), (0, 8)] [(0, (cnt (fun k => decide (rnd (DD 1 (eA 1 S k)) % 2 = 1)) (csA 1 S).length : Int))] _
    refine ZE.iret d_SN_is_157 rfl ?_
    have k1 := k G A h cT.rf
    rw [show isV S 8 = ((cnt (fun k => decide (rnd (DD 1 (eA 1 S k)) % 2 = 1)) (csA 1 S).length : Int)) from rfl] at k1
    exact k1
  · refine ZE.tableIn (tgt := 158) d_SN_is_1 (by unfold zR; omega) (by omega) rfl rfl ?_
    refine ZE.aload_n d_SN_is_158 rfl ?_
    refine ZE.getE (v := x + 1) d_SN_is_159 f_SN_12 (tg := 2) rfl h.cCK.1 h.cCF.1 ?_
    refine ZE.cV [] [] [(2, x + 1), (9, 0), (9, 0)] d_SN_is_162 l_SN_133 rfl rfl rfl rfl rfl rfl h.cCK.2.2.1.1 ?_
    refine s_clsWith hR hL ?_
    show ZE 11 M_SN_is (gw G A) 165 [(2, x), (0, 9)] [(0, (cnt (fun k => decide (ix (gA 1 S k) (bnd S) ≠ 0)) (csA 1 S).length : Int))] _
    refine ZE.iret d_SN_is_165 rfl ?_
    have k1 := k G A h cT.rf
    rw [show isV S 9 = ((cnt (fun k => decide (ix (gA 1 S k) (bnd S) ≠ 0)) (csA 1 S).length : Int)) from by show wpV S = _; unfold wpV; rw [cnt_congr _ (fun k hk => by rw [ixA_1 hS7 hp5 hk])]; exact rfl] at k1
    exact k1
  · refine ZE.tableIn (tgt := 166) d_SN_is_1 (by unfold zR; omega) (by omega) rfl rfl ?_
    refine ZE.aload_n d_SN_is_166 rfl ?_
    refine ZE.getE (v := x + 1) d_SN_is_167 f_SN_12 (tg := 2) rfl h.cCK.1 h.cCF.1 ?_
    refine ZE.cV [] [] [(2, x + 1), (9, 0), (9, 0)] d_SN_is_170 l_SN_136 rfl rfl rfl rfl rfl rfl h.cCK.2.2.1.1 ?_
    refine s_allRounds hR ?_
    show ZE 11 M_SN_is (gw G A) 173 [(2, x), (0, 10)] [(0, (sumF (fun k => rnd (DD 1 (eA 1 S k))) (csA 1 S).length : Int))] _
    refine ZE.iret d_SN_is_173 rfl ?_
    have k1 := k G A h cT.rf
    rw [show isV S 10 = ((sumF (fun k => rnd (DD 1 (eA 1 S k))) (csA 1 S).length : Int)) from rfl] at k1
    exact k1
