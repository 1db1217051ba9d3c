theorem ix_congr {g g2 : Nat → Bool} : ∀ b, (∀ i, 1 ≤ i → i ≤ b → g i = g2 i) → ix g b = ix g2 b := by
  intro b
  induction b with
  | zero => intro _; rfl
  | succ b ih =>
    intro h
    show (if g (b + 1) then ix g b ||| 2 ^ b else ix g b) = (if g2 (b + 1) then ix g2 b ||| 2 ^ b else ix g2 b)
    rw [h (b + 1) (by omega) (Nat.le_refl _), ih (fun i h1 h2 => h i h1 (by omega))]
theorem ixA_1 {S k : Nat} (hS : S < 128) (hp : pop S ≤ 5) (hk : k < (csF S 1 128).length) : ix (gP1 S (ux (d1 S k))) (bnd S) = ix (gA 1 S k) (bnd S) := by
  have hb := bnd_le S hS
  have h1 := csF_lt S 1 128 k hk
  have h2 := pop_sub S hS _ h1.1 h1.2.1
  exact ix_congr _ (fun i hi1 hi2 => gP1_cs h1.1 (by omega) h1.2.2 hS ⟨hi1, by omega⟩)
theorem ixA_2 {S k : Nat} (hS : S < 128) (hp : pop S ≤ 5) (hk : k < (csF S 0 128).length) : ix (gP2 S (ux (d2 S k))) (bnd S) = ix (gA 2 S k) (bnd S) := by
  have hb := bnd_le S hS
  have h1 := csF_lt S 0 128 k hk
  have h2 := pop_sub S hS _ h1.1 h1.2.1
  exact ix_congr _ (fun i hi1 hi2 => gP2_cs h1.1 (by omega) h1.2.2 hS ⟨hi1, by omega⟩)
theorem ixA_512 {ap S k : Nat} (hS : S < 128) : ix (gA ap S k) (bnd S) < 512 := ciF_9 (e := eA ap S k) hS
set_option maxRecDepth 20000 in
set_option maxHeartbeats 4000000 in
theorem c_of {d : Nat} {G : zG} {A : Int → Int → Int} {P : Option zV → zG → Prop} {x : Int} {S T tl : Nat} {tf : Nat → Int} {wl : Nat} {wf : Nat → Int} (h : CI G A x S T tl tf wl wf) {c : Int} (hc : zR c) {wh : Int} (hw : zR wh) (k : ∀ G2 A2, CI G2 A2 x S T tl tf wl wf → cT G A G2 A2 x → P (some (0, ofV S c wh)) (gw G2 A2)) : ZE 11 M_SN_of (gw G A) 0 [(2, x), (0, c), (0, wh), (9, 0)] [] P := by
  have hx0 := h.cCK.2.1
  have hR := h.cR
  have hL := h.cL.1
  have hgx := h.cL.2
  have hS7 := h.cS.2.1
  have hp5 := h.cS.2.2
  have hE0 := hR.E
  have hL64 := hR.l64
  have hC32 := hR.c32
  have hpl : (prL 1 S).length = (prs S).length := by rw [prL_1 hS7 hp5]
  have hcl : (csA 1 S).length = (csF S 1 128).length := rfl
  refine ZE.aload_n d_SN_of_0 rfl ?_
  refine ZE.getE (v := x + 1) d_SN_of_1 f_SN_12 (tg := 2) rfl h.cCK.1 h.cCF.1 ?_
  refine ZE.iload_n d_SN_of_4 rfl ?_
  refine ZE.cV [(0, c)] [] [(2, x + 1), (0, c)] d_SN_of_5 l_SN_139 rfl rfl rfl rfl rfl rfl h.cCK.2.2.1.1 ?_
  refine s_isClass h.cR.K h.cR.F h.cR.n11 (by omega) hc ?_
  show ZE 11 M_SN_of (gw G A) 8 [(2, x), (0, c), (0, wh), (9, 0)] [(0, b2i (0 ≤ c ∧ c < ((csA 1 S).length : Int)))] _
  refine ZE.if_ne (tgt := 13) d_SN_of_8 rfl (zR_b2i _) (fun c8 => ?_) (fun c8 => ?_)
  · replace c8 := b2i_n0.mp c8
    obtain ⟨cn, hcn⟩ : ∃ q : Nat, c = (q : Int) := ⟨c.toNat, by omega⟩
    subst hcn
    have e0 : inC S (cn : Int) = true := decide_eq_true (by omega)
    have hfr := hR.fr (c := cn) (by omega)
    have hfb := frD_b hfr
    have hdd : DD 1 (eA 1 S cn) = d1 S cn := rfl
    refine ZE.aload_n d_SN_of_13 rfl ?_
    refine ZE.getE (v := x + 1) d_SN_of_14 f_SN_12 (tg := 2) rfl h.cCK.1 h.cCF.1 ?_
    refine ZE.iload_n d_SN_of_17 rfl ?_
    have hu := hR.un (c := cn) (by omega)
    refine ZE.cV [(0, (cn : Int))] [] [(2, x + 1), (0, (cn : Int)), (9, 0)] d_SN_of_18 l_SN_142 rfl rfl rfl rfl rfl rfl h.cCK.2.2.1.1 ?_
    refine s_unitAt hR.K hR.F hR.n11 hC32 (k1 := cn) (by omega) (v1 := A (x + 1 + 29) (cn : Int)) rfl (by have := hu.1; omega) ?_
    show ZE 11 M_SN_of (gw G A) 21 [(2, x), (0, (cn : Int)), (0, wh), (9, 0)] [(2, A (x + 1 + 29) (cn : Int))] _
    refine ZE.astore_n (ls2 := [(2, x), (0, (cn : Int)), (0, wh), (2, A (x + 1 + 29) (cn : Int))]) d_SN_of_21 (Nat.le_of_ble_eq_true rfl) rfl ?_
    refine ZE.iload_n d_SN_of_22 rfl ?_
    rcases (show (wh < 0 ∨ 8 < wh) ∨ wh = 0 ∨ wh = 1 ∨ wh = 2 ∨ wh = 3 ∨ wh = 4 ∨ wh = 5 ∨ wh = 6 ∨ wh = 7 ∨ wh = 8 by omega) with eo | rfl | rfl | rfl | rfl | rfl | rfl | rfl | rfl | rfl
    · refine ZE.tableOut (tgt := 142) d_SN_of_23 (by unfold zR at *; omega) eo rfl ?_
      refine ZE.iconst (n := (-1)) d_SN_of_142 ?_
      refine ZE.iret d_SN_of_143 rfl ?_
      have k1 := k G A h cT.rf
      rw [show ofV S (cn : Int) wh = (-1) from by unfold ofV; rw [e0, if_pos rfl]; unfold ofN; rw [if_neg (by omega), if_neg (by omega), if_neg (by omega), if_neg (by omega), if_neg (by omega), if_neg (by omega), if_neg (by omega), if_neg (by omega), if_neg (by omega)]] at k1
      exact k1
    · refine ZE.tableIn (tgt := 72) d_SN_of_23 (by unfold zR; omega) (by omega) rfl rfl ?_
      refine ZE.aload_n d_SN_of_72 rfl ?_
      refine ZE.getE (v := (rad (eA 1 S cn) : Int)) d_SN_of_73 f_SN_146 (tg := 0) rfl hu.2.2.1.1 hu.2.2.2.1.2.2.1 ?_
      refine ZE.iret d_SN_of_76 rfl ?_
      have k1 := k G A h cT.rf
      rw [show ofV S (cn : Int) 0 = ((rad (eA 1 S cn) : Int)) from by unfold ofV; rw [e0, if_pos rfl, Int.toNat_natCast]; exact rfl] at k1
      exact k1
    · refine ZE.tableIn (tgt := 77) d_SN_of_23 (by unfold zR; omega) (by omega) rfl rfl ?_
      refine ZE.aload_n d_SN_of_77 rfl ?_
      refine ZE.getE (v := ((DD 1 (eA 1 S cn)) : Int)) d_SN_of_78 f_SN_151 (tg := 0) rfl hu.2.2.1.1 hu.2.2.2.1.2.2.2.1 ?_
      refine ZE.iret d_SN_of_81 rfl ?_
      have k1 := k G A h cT.rf
      rw [show ofV S (cn : Int) 1 = (((DD 1 (eA 1 S cn)) : Int)) from by unfold ofV; rw [e0, if_pos rfl, Int.toNat_natCast]; exact rfl] at k1
      exact k1
    · refine ZE.tableIn (tgt := 82) d_SN_of_23 (by unfold zR; omega) (by omega) rfl rfl ?_
      refine ZE.aload_n d_SN_of_82 rfl ?_
      refine ZE.getE (v := (isq (DD 1 (eA 1 S cn)) : Int)) d_SN_of_83 f_SN_154 (tg := 0) rfl hu.2.2.1.1 hu.2.2.2.1.2.2.2.2.1 ?_
      refine ZE.iret d_SN_of_86 rfl ?_
      have k1 := k G A h cT.rf
      rw [show ofV S (cn : Int) 2 = ((isq (DD 1 (eA 1 S cn)) : Int)) from by unfold ofV; rw [e0, if_pos rfl, Int.toNat_natCast]; exact rfl] at k1
      exact k1
    · refine ZE.tableIn (tgt := 87) d_SN_of_23 (by unfold zR; omega) (by omega) rfl rfl ?_
      refine ZE.aload_n d_SN_of_87 rfl ?_
      refine ZE.getE (v := (rnd (DD 1 (eA 1 S cn)) : Int)) d_SN_of_88 f_SN_157 (tg := 0) rfl hu.2.2.1.1 hu.2.2.2.1.2.2.2.2.2.1 ?_
      refine ZE.iret d_SN_of_91 rfl ?_
      have k1 := k G A h cT.rf
      rw [show ofV S (cn : Int) 3 = ((rnd (DD 1 (eA 1 S cn)) : Int)) from by unfold ofV; rw [e0, if_pos rfl, Int.toNat_natCast]; exact rfl] at k1
      exact k1
    · refine ZE.tableIn (tgt := 92) d_SN_of_23 (by unfold zR; omega) (by omega) rfl rfl ?_
      refine ZE.aload_n d_SN_of_92 rfl ?_
      refine ZE.cV [] [] [(2, A (x + 1 + 29) (cn : Int))] d_SN_of_93 l_SN_160 rfl rfl rfl rfl rfl rfl hu.2.2.1.1 ?_
      refine u_isNegative hu.2.2.1 hu.2.2.2.1 hfb.2.2.1 ?_
      show ZE 11 M_SN_of (gw G A) 96 [(2, x), (0, (cn : Int)), (0, 4), (2, A (x + 1 + 29) (cn : Int))] [(0, b2i (rnd (DD 1 (eA 1 S cn)) % 2 = 1))] _
      refine ZE.if_eq (tgt := 103) d_SN_of_96 rfl (zR_b2i _) (fun c96 => ?_) (fun c96 => ?_)
      · replace c96 := b2i_0.mp c96
        refine ZE.iconst (n := 0) d_SN_of_103 ?_
        refine ZE.iret d_SN_of_104 rfl ?_
        have k1 := k G A h cT.rf
        rw [show ofV S (cn : Int) 4 = (0) from by unfold ofV; rw [e0, if_pos rfl, Int.toNat_natCast]; show ((rnd (d1 S cn) % 2 : Nat) : Int) = _; rw [← hdd]; omega] at k1
        exact k1
      · replace c96 := b2i_n0.mp c96
        refine ZE.iconst (n := 1) d_SN_of_99 ?_
        refine ZE.goto (tgt := 104) d_SN_of_100 rfl ?_
        refine ZE.iret d_SN_of_104 rfl ?_
        have k1 := k G A h cT.rf
        rw [show ofV S (cn : Int) 4 = (1) from by unfold ofV; rw [e0, if_pos rfl, Int.toNat_natCast]; show ((rnd (d1 S cn) % 2 : Nat) : Int) = _; rw [← hdd]; omega] at k1
        exact k1
    · refine ZE.tableIn (tgt := 105) d_SN_of_23 (by unfold zR; omega) (by omega) rfl rfl ?_
      refine ZE.aload_n d_SN_of_105 rfl ?_
      refine ZE.getE (v := x + 1) d_SN_of_106 f_SN_12 (tg := 2) rfl h.cCK.1 h.cCF.1 ?_
      refine ZE.iload_n d_SN_of_109 rfl ?_
      refine ZE.cV [(0, (cn : Int))] [] [(2, x + 1), (0, (cn : Int))] d_SN_of_110 l_SN_164 rfl rfl rfl rfl rfl rfl h.cCK.2.2.1.1 ?_
      refine s_indexesOf hR hL (cn := cn) (by omega) ?_
      show ZE 11 M_SN_of (gw G A) 113 [(2, x), (0, (cn : Int)), (0, 5), (2, A (x + 1 + 29) (cn : Int))] [(0, ((ix (gA 1 S cn) (bnd S) : Nat) : Int))] _
      refine ZE.cS [(0, ((ix (gA 1 S cn) (bnd S) : Nat) : Int))] [] [(0, ((ix (gA 1 S cn) (bnd S) : Nat) : Int))] d_SN_of_113 l_SN_100 rfl rfl rfl rfl rfl rfl ?_
      refine j_bitCount (n := ix (gA 1 S cn) (bnd S)) (ixA_512 hS7) ?_
      show ZE 11 M_SN_of (gw G A) 116 [(2, x), (0, (cn : Int)), (0, 5), (2, A (x + 1 + 29) (cn : Int))] [(0, (pop (ix (gA 1 S cn) (bnd S)) : Int))] _
      refine ZE.iret d_SN_of_116 rfl ?_
      have k1 := k G A h cT.rf
      rw [show ofV S (cn : Int) 5 = ((pop (ix (gA 1 S cn) (bnd S)) : Int)) from by unfold ofV; rw [e0, if_pos rfl, Int.toNat_natCast]; show (pop (ix (gP1 S (ux (d1 S cn))) (bnd S)) : Int) = _; rw [ixA_1 hS7 hp5 (by omega)]] at k1
      exact k1
    · refine ZE.tableIn (tgt := 117) d_SN_of_23 (by unfold zR; omega) (by omega) rfl rfl ?_
      refine ZE.aload_n d_SN_of_117 rfl ?_
      refine ZE.getE (v := A (x + 1 + 29) (cn : Int) + 1) d_SN_of_118 f_SN_167 (tg := 2) rfl hu.2.2.1.1 hu.2.2.2.1.1 ?_
      refine ZE.cV [] [] [(2, A (x + 1 + 29) (cn : Int) + 1), (9, 0), (9, 0)] d_SN_of_121 l_SN_127 rfl rfl rfl rfl rfl rfl hu.2.2.1.2.2.1.1 ?_
      refine B_digits hu.2.2.1.2.2.1 hu.2.2.2.1.x (by have := nB_ux hfr; omega) ?_
      show ZE 11 M_SN_of (gw G A) 124 [(2, x), (0, (cn : Int)), (0, 6), (2, A (x + 1 + 29) (cn : Int))] [(0, (dl (ux (DD 1 (eA 1 S cn))) : Int))] _
      refine ZE.iret d_SN_of_124 rfl ?_
      have k1 := k G A h cT.rf
      rw [show ofV S (cn : Int) 6 = ((dl (ux (DD 1 (eA 1 S cn))) : Int)) from by unfold ofV; rw [e0, if_pos rfl, Int.toNat_natCast]; exact rfl] at k1
      exact k1
    · refine ZE.tableIn (tgt := 125) d_SN_of_23 (by unfold zR; omega) (by omega) rfl rfl ?_
      refine ZE.aload_n d_SN_of_125 rfl ?_
      refine ZE.getE (v := A (x + 1 + 29) (cn : Int) + 3) d_SN_of_126 f_SN_170 (tg := 2) rfl hu.2.2.1.1 hu.2.2.2.1.2.1 ?_
      refine ZE.cV [] [] [(2, A (x + 1 + 29) (cn : Int) + 3), (9, 0), (9, 0)] d_SN_of_129 l_SN_127 rfl rfl rfl rfl rfl rfl hu.2.2.1.2.2.2.1.1 ?_
      refine B_digits hu.2.2.1.2.2.2.1 hu.2.2.2.1.y (by have := nB_uy hfr; omega) ?_
      show ZE 11 M_SN_of (gw G A) 132 [(2, x), (0, (cn : Int)), (0, 7), (2, A (x + 1 + 29) (cn : Int))] [(0, (dl (uy (DD 1 (eA 1 S cn))) : Int))] _
      refine ZE.iret d_SN_of_132 rfl ?_
      have k1 := k G A h cT.rf
      rw [show ofV S (cn : Int) 7 = ((dl (uy (DD 1 (eA 1 S cn))) : Int)) from by unfold ofV; rw [e0, if_pos rfl, Int.toNat_natCast]; exact rfl] at k1
      exact k1
    · refine ZE.tableIn (tgt := 133) d_SN_of_23 (by unfold zR; omega) (by omega) rfl rfl ?_
      refine ZE.aload_n d_SN_of_133 rfl ?_
      refine ZE.getE (v := x + 1) d_SN_of_134 f_SN_12 (tg := 2) rfl h.cCK.1 h.cCF.1 ?_
      refine ZE.iload_n d_SN_of_137 rfl ?_
      refine ZE.cV [(0, (cn : Int))] [] [(2, x + 1), (0, (cn : Int))] d_SN_of_138 l_SN_164 rfl rfl rfl rfl rfl rfl h.cCK.2.2.1.1 ?_
      refine s_indexesOf hR hL (cn := cn) (by omega) ?_
      show ZE 11 M_SN_of (gw G A) 141 [(2, x), (0, (cn : Int)), (0, 8), (2, A (x + 1 + 29) (cn : Int))] [(0, ((ix (gA 1 S cn) (bnd S) : Nat) : Int))] _
      refine ZE.iret d_SN_of_141 rfl ?_
      have k1 := k G A h cT.rf
      rw [show ofV S (cn : Int) 8 = (((ix (gA 1 S cn) (bnd S) : Nat) : Int)) from by unfold ofV; rw [e0, if_pos rfl, Int.toNat_natCast]; show (ix (gP1 S (ux (d1 S cn))) (bnd S) : Int) = _; rw [ixA_1 hS7 hp5 (by omega)]] at k1
      exact k1
  · replace c8 := b2i_0.mp c8
    refine ZE.iconst (n := (-1)) d_SN_of_11 ?_
    refine ZE.iret d_SN_of_12 rfl ?_
    have e0 : inC S c = false := decide_eq_false (fun q => c8 (by omega))
    have k1 := k G A h cT.rf
    rw [show ofV S c wh = (-1) from by unfold ofV; rw [e0]; rfl] at k1
    exact k1
set_option maxRecDepth 20000 in
set_option maxHeartbeats 4000000 in
theorem c_step {d : Nat} {G : zG} {A : Int → Int → Int} {P : Option zV → zG → Prop} {x : Int} {S T tl : Nat} {tf : Nat → Int} {wl : Nat} {wf : Nat → Int} (h : CI G A x S T tl tf wl wf) {c : Int} (hc : zR c) {i : Int} (hi : zR i) (k : ∀ G2 A2, CI G2 A2 x S T tl tf wl wf → cT G A G2 A2 x → P (some (0, stV S c i)) (gw G2 A2)) : ZE 11 M_SN_step (gw G A) 0 [(2, x), (0, c), (0, i)] [] P := by
  have hx0 := h.cCK.2.1
  have hR := h.cR
  have hL := h.cL.1
  have hgx := h.cL.2
  have hS7 := h.cS.2.1
  have hp5 := h.cS.2.2
  have hE0 := hR.E
  have hL64 := hR.l64
  have hC32 := hR.c32
  have hpl : (prL 1 S).length = (prs S).length := by rw [prL_1 hS7 hp5]
  have hcl : (csA 1 S).length = (csF S 1 128).length := rfl
  refine ZE.aload_n d_SN_step_0 rfl ?_
  refine ZE.iload_n d_SN_step_1 rfl ?_
  refine ZE.iload_n d_SN_step_2 rfl ?_
  refine ZE.cV [(0, c), (0, i)] [] [(2, x), (0, c), (0, i)] d_SN_step_3 l_SN_173 rfl rfl rfl rfl rfl rfl h.cCK.1 ?_
  refine c_isStep h hc hi ?_
  show ZE 11 M_SN_step (gw G A) 6 [(2, x), (0, c), (0, i)] [(0, b2i (inC S c = true ∧ 0 ≤ i ∧ i ≤ 2 * (rnd (d1 S c.toNat) : Int)))] _
  refine ZE.if_eq (tgt := 25) d_SN_step_6 rfl (zR_b2i _) (fun c6 => ?_) (fun c6 => ?_)
  · replace c6 := b2i_0.mp c6
    refine ZE.iconst (n := (-1)) d_SN_step_25 ?_
    refine ZE.iret d_SN_step_26 rfl ?_
    have e1 : stV S c i = -1 := by
      unfold stV
      split
      · next q => rw [if_neg (fun z => c6 ⟨q, z⟩)]
      · rfl
    have k1 := k G A h cT.rf
    rw [e1] at k1
    exact k1
  · replace c6 := b2i_n0.mp c6
    obtain ⟨hc0, hi0⟩ := c6
    have hc9 := of_decide_eq_true hc0
    obtain ⟨cn, hcn⟩ : ∃ q : Nat, c = (q : Int) := ⟨c.toNat, by omega⟩
    subst hcn
    have e0 : inC S (cn : Int) = true := decide_eq_true (by omega)
    have hfr := hR.fr (c := cn) (by omega)
    have hfb := frD_b hfr
    have hdd : DD 1 (eA 1 S cn) = d1 S cn := rfl
    rw [Int.toNat_natCast, ← hdd] at hi0
    obtain ⟨im, him⟩ : ∃ q : Nat, i = (q : Int) := ⟨i.toNat, by omega⟩
    subst him
    refine ZE.aload_n d_SN_step_9 rfl ?_
    refine ZE.getE (v := x + 126) d_SN_step_10 f_SN_45 (tg := 2) rfl h.cCK.1 h.cCF.2.2.2.2.2.1 ?_
    refine ZE.aload_n d_SN_step_13 rfl ?_
    refine ZE.iload_n d_SN_step_14 rfl ?_
    refine ZE.cV [(0, (cn : Int))] [(2, x + 126)] [(2, x), (0, (cn : Int))] d_SN_step_15 l_SN_176 rfl rfl rfl rfl rfl rfl h.cCK.1 ?_
    refine c_squareOf h (cn := cn) (by omega) ?_
    show ZE 11 M_SN_step (gw G A) 18 [(2, x), (0, (cn : Int)), (0, (im : Int))] [(0, (d1 S cn : Int)), (2, x + 126)] _
    refine ZE.iload_n d_SN_step_18 rfl ?_
    have hfK := h.cCK.2.2.2.2.2.2.2.1
    rw [hdd] at hfr hi0
    refine ZE.cV [(0, (d1 S cn : Int)), (0, (im : Int))] [] [(2, x + 126), (0, (d1 S cn : Int)), (0, (im : Int))] d_SN_step_19 l_SN_179 rfl rfl rfl rfl rfl rfl h.cCK.2.2.2.2.2.2.2.1.1 ?_
    refine f_whole hfK h.cO hfr (n := im) (by omega) (fun B gB => ?_)
    show ZE 11 M_SN_step (gw G B) 22 [(2, x), (0, (cn : Int)), (0, (im : Int))] [(0, ((cf (d1 S cn) (isq (d1 S cn)) im).2.2 : Int))] _
    have hrg : ∀ a : Int, (a < x + 126 ∨ x + 134 < a) → B a = A a := fun a ha => gB.1 a (by omega)
    have hB : CI G B x S T tl tf wl wf := h.sO hrg (h.cO.fl gB)
    have hcT : cT G A G B x := cT.rg hrg (by omega) (by omega)
    refine ZE.goto (tgt := 26) d_SN_step_22 rfl ?_
    refine ZE.iret d_SN_step_26 rfl ?_
    have k1 := k G B hB hcT
    rw [show stV S (cn : Int) (im : Int) = (((cf (d1 S cn) (isq (d1 S cn)) im).2.2 : Int)) from by unfold stV; rw [if_pos hc0, Int.toNat_natCast, if_pos hi0, Int.toNat_natCast]] at k1
    exact k1
set_option maxRecDepth 20000 in
set_option maxHeartbeats 4000000 in
theorem c_leaves {d : Nat} {G : zG} {A : Int → Int → Int} {P : Option zV → zG → Prop} {x : Int} {S T tl : Nat} {tf : Nat → Int} {wl : Nat} {wf : Nat → Int} (h : CI G A x S T tl tf wl wf) {c : Int} (hc : zR c) {i : Int} (hi : zR i) (k : ∀ G2 A2, CI G2 A2 x S T tl tf wl wf → cT G A G2 A2 x → P (some (0, lvV S c i)) (gw G2 A2)) : ZE 11 M_SN_leaves (gw G A) 0 [(2, x), (0, c), (0, i)] [] P := by
  have hx0 := h.cCK.2.1
  have hR := h.cR
  have hL := h.cL.1
  have hgx := h.cL.2
  have hS7 := h.cS.2.1
  have hp5 := h.cS.2.2
  have hE0 := hR.E
  have hL64 := hR.l64
  have hC32 := hR.c32
  have hpl : (prL 1 S).length = (prs S).length := by rw [prL_1 hS7 hp5]
  have hcl : (csA 1 S).length = (csF S 1 128).length := rfl
  refine ZE.aload_n d_SN_leaves_0 rfl ?_
  refine ZE.iload_n d_SN_leaves_1 rfl ?_
  refine ZE.iload_n d_SN_leaves_2 rfl ?_
  refine ZE.cV [(0, c), (0, i)] [] [(2, x), (0, c), (0, i)] d_SN_leaves_3 l_SN_173 rfl rfl rfl rfl rfl rfl h.cCK.1 ?_
  refine c_isStep h hc hi ?_
  show ZE 11 M_SN_leaves (gw G A) 6 [(2, x), (0, c), (0, i)] [(0, b2i (inC S c = true ∧ 0 ≤ i ∧ i ≤ 2 * (rnd (d1 S c.toNat) : Int)))] _
  refine ZE.if_eq (tgt := 25) d_SN_leaves_6 rfl (zR_b2i _) (fun c6 => ?_) (fun c6 => ?_)
  · replace c6 := b2i_0.mp c6
    refine ZE.ldc (v := (-1000000)) d_SN_leaves_25 (by rw [show Int32.ofInt (-1000000) = (-1000000 : Int32) from by decide]; exact k_SN_210) ?_
    refine ZE.iret d_SN_leaves_27 rfl ?_
    have e1 : lvV S c i = -1000000 := by
      unfold lvV
      split
      · next q => rw [if_neg (fun z => c6 ⟨q, z⟩)]
      · rfl
    have k1 := k G A h cT.rf
    rw [e1] at k1
    exact k1
  · replace c6 := b2i_n0.mp c6
    obtain ⟨hc0, hi0⟩ := c6
    have hc9 := of_decide_eq_true hc0
    obtain ⟨cn, hcn⟩ : ∃ q : Nat, c = (q : Int) := ⟨c.toNat, by omega⟩
    subst hcn
    have e0 : inC S (cn : Int) = true := decide_eq_true (by omega)
    have hfr := hR.fr (c := cn) (by omega)
    have hfb := frD_b hfr
    have hdd : DD 1 (eA 1 S cn) = d1 S cn := rfl
    rw [Int.toNat_natCast, ← hdd] at hi0
    obtain ⟨im, him⟩ : ∃ q : Nat, i = (q : Int) := ⟨i.toNat, by omega⟩
    subst him
    refine ZE.aload_n d_SN_leaves_9 rfl ?_
    refine ZE.getE (v := x + 126) d_SN_leaves_10 f_SN_45 (tg := 2) rfl h.cCK.1 h.cCF.2.2.2.2.2.1 ?_
    refine ZE.aload_n d_SN_leaves_13 rfl ?_
    refine ZE.iload_n d_SN_leaves_14 rfl ?_
    refine ZE.cV [(0, (cn : Int))] [(2, x + 126)] [(2, x), (0, (cn : Int))] d_SN_leaves_15 l_SN_176 rfl rfl rfl rfl rfl rfl h.cCK.1 ?_
    refine c_squareOf h (cn := cn) (by omega) ?_
    show ZE 11 M_SN_leaves (gw G A) 18 [(2, x), (0, (cn : Int)), (0, (im : Int))] [(0, (d1 S cn : Int)), (2, x + 126)] _
    refine ZE.iload_n d_SN_leaves_18 rfl ?_
    have hfK := h.cCK.2.2.2.2.2.2.2.1
    rw [hdd] at hfr hi0
    refine ZE.cV [(0, (d1 S cn : Int)), (0, (im : Int))] [] [(2, x + 126), (0, (d1 S cn : Int)), (0, (im : Int)), (9, 0), (9, 0), (9, 0), (9, 0), (9, 0), (9, 0), (9, 0), (9, 0), (9, 0), (9, 0), (9, 0), (9, 0), (9, 0)] d_SN_leaves_19 l_SN_207 rfl rfl rfl rfl rfl rfl h.cCK.2.2.2.2.2.2.2.1.1 ?_
    refine f_left hfK h.cO hfr (n := im) (by omega) (fun B gB => ?_)
    show ZE 11 M_SN_leaves (gw G B) 22 [(2, x), (0, (cn : Int)), (0, (im : Int))] [(0, if im % 2 = 0 then -((cf (d1 S cn) (isq (d1 S cn)) (im + 1)).2.1 : Int) else ((cf (d1 S cn) (isq (d1 S cn)) (im + 1)).2.1 : Int))] _
    have hrg : ∀ a : Int, (a < x + 126 ∨ x + 134 < a) → B a = A a := fun a ha => gB.1 a (by omega)
    have hB : CI G B x S T tl tf wl wf := h.sO hrg (h.cO.fl gB)
    have hcT : cT G A G B x := cT.rg hrg (by omega) (by omega)
    refine ZE.goto (tgt := 27) d_SN_leaves_22 rfl ?_
    refine ZE.iret d_SN_leaves_27 rfl ?_
    have k1 := k G B hB hcT
    rw [show lvV S (cn : Int) (im : Int) = (if im % 2 = 0 then -((cf (d1 S cn) (isq (d1 S cn)) (im + 1)).2.1 : Int) else ((cf (d1 S cn) (isq (d1 S cn)) (im + 1)).2.1 : Int)) from by unfold lvV; rw [if_pos hc0, Int.toNat_natCast, if_pos hi0, Int.toNat_natCast]; rfl] at k1
    exact k1
set_option maxRecDepth 20000 in
set_option maxHeartbeats 4000000 in
theorem c_unit {d : Nat} {G : zG} {A : Int → Int → Int} {P : Option zV → zG → Prop} {x : Int} {S T tl : Nat} {tf : Nat → Int} {wl : Nat} {wf : Nat → Int} (h : CI G A x S T tl tf wl wf) {c : Int} (hc : zR c) {wh i : Int} (hw : zR wh) (hi : zR i) (k : ∀ G2 A2, CI G2 A2 x S T tl tf wl wf → cT G A G2 A2 x → P (some (0, unV S c wh i)) (gw G2 A2)) : ZE 11 M_SN_unit (gw G A) 0 [(2, x), (0, c), (0, wh), (0, i), (9, 0)] [] P := by
  have hx0 := h.cCK.2.1
  have hR := h.cR
  have hL := h.cL.1
  have hgx := h.cL.2
  have hS7 := h.cS.2.1
  have hp5 := h.cS.2.2
  have hE0 := hR.E
  have hL64 := hR.l64
  have hC32 := hR.c32
  have hpl : (prL 1 S).length = (prs S).length := by rw [prL_1 hS7 hp5]
  have hcl : (csA 1 S).length = (csF S 1 128).length := rfl
  refine ZE.aload_n d_SN_unit_0 rfl ?_
  refine ZE.getE (v := x + 1) d_SN_unit_1 f_SN_12 (tg := 2) rfl h.cCK.1 h.cCF.1 ?_
  refine ZE.iload_n d_SN_unit_4 rfl ?_
  refine ZE.cV [(0, c)] [] [(2, x + 1), (0, c)] d_SN_unit_5 l_SN_139 rfl rfl rfl rfl rfl rfl h.cCK.2.2.1.1 ?_
  refine s_isClass h.cR.K h.cR.F h.cR.n11 (by omega) hc ?_
  show ZE 11 M_SN_unit (gw G A) 8 [(2, x), (0, c), (0, wh), (0, i), (9, 0)] [(0, b2i (0 ≤ c ∧ c < ((csA 1 S).length : Int)))] _
  refine ZE.if_eq (tgt := 18) d_SN_unit_8 rfl (zR_b2i _) (fun c8 => ?_) (fun c8 => ?_)
  · replace c8 := b2i_0.mp c8
    refine ZE.iconst (n := (-1)) d_SN_unit_18 ?_
    refine ZE.iret d_SN_unit_19 rfl ?_
    have e0 : inC S c = false := decide_eq_false (fun q => c8 (by omega))
    have k1 := k G A h cT.rf
    rw [show unV S c wh i = (-1) from by unfold unV; rw [e0]; rfl] at k1
    exact k1
  · replace c8 := b2i_n0.mp c8
    obtain ⟨cn, hcn⟩ : ∃ q : Nat, c = (q : Int) := ⟨c.toNat, by omega⟩
    subst hcn
    have e0 : inC S (cn : Int) = true := decide_eq_true (by omega)
    have hfr := hR.fr (c := cn) (by omega)
    have hfb := frD_b hfr
    have hdd : DD 1 (eA 1 S cn) = d1 S cn := rfl
    refine ZE.iload_n d_SN_unit_11 rfl ?_
    refine ZE.cS [(0, wh)] [] [(0, wh)] d_SN_unit_12 l_SN_183 rfl rfl rfl rfl rfl rfl ?_
    refine c_one2 hw ?_
    show ZE 11 M_SN_unit (gw G A) 15 [(2, x), (0, (cn : Int)), (0, wh), (0, i), (9, 0)] [(0, b2i (wh = 0 ∨ wh = 1))] _
    refine ZE.if_ne (tgt := 20) d_SN_unit_15 rfl (zR_b2i _) (fun c15 => ?_) (fun c15 => ?_)
    · replace c15 := b2i_n0.mp c15
      refine ZE.aload_n d_SN_unit_20 rfl ?_
      refine ZE.getE (v := x + 1) d_SN_unit_21 f_SN_12 (tg := 2) rfl h.cCK.1 h.cCF.1 ?_
      refine ZE.iload_n d_SN_unit_24 rfl ?_
      have hu := hR.un (c := cn) (by omega)
      refine ZE.cV [(0, (cn : Int))] [] [(2, x + 1), (0, (cn : Int)), (9, 0)] d_SN_unit_25 l_SN_142 rfl rfl rfl rfl rfl rfl h.cCK.2.2.1.1 ?_
      refine s_unitAt hR.K hR.F hR.n11 hC32 (k1 := cn) (by omega) (v1 := A (x + 1 + 29) (cn : Int)) rfl (by have := hu.1; omega) ?_
      show ZE 11 M_SN_unit (gw G A) 28 [(2, x), (0, (cn : Int)), (0, wh), (0, i), (9, 0)] [(2, A (x + 1 + 29) (cn : Int))] _
      refine ZE.astore (ls2 := [(2, x), (0, (cn : Int)), (0, wh), (0, i), (2, A (x + 1 + 29) (cn : Int))]) d_SN_unit_28 (Nat.le_of_ble_eq_true rfl) rfl ?_
      refine ZE.iload_n d_SN_unit_30 rfl ?_
      refine ZE.if_ne (tgt := 42) d_SN_unit_31 rfl hw (fun c31 => ?_) (fun c31 => ?_)
      · refine ZE.aload d_SN_unit_42 rfl ?_
        refine ZE.getE (v := A (x + 1 + 29) (cn : Int) + 3) d_SN_unit_44 f_SN_170 (tg := 2) rfl hu.2.2.1.1 hu.2.2.2.1.2.1 ?_
        refine ZE.iload_n d_SN_unit_47 rfl ?_
        refine ZE.cV [(0, i)] [] [(2, A (x + 1 + 29) (cn : Int) + 3), (0, i), (9, 0), (9, 0)] d_SN_unit_48 l_SN_186 rfl rfl rfl rfl rfl rfl hu.2.2.1.2.2.2.1.1 ?_
        refine B_digitAt hu.2.2.1.2.2.2.1 hu.2.2.2.1.y (by have := nB_uy hfr; omega) hi ?_
        show ZE 11 M_SN_unit (gw G A) 51 [(2, x), (0, (cn : Int)), (0, wh), (0, i), (2, A (x + 1 + 29) (cn : Int))] [(0, dgN (uy (DD 1 (eA 1 S cn))) i)] _
        refine ZE.iret d_SN_unit_51 rfl ?_
        have k1 := k G A h cT.rf
        rw [show unV S (cn : Int) wh i = (dgN (uy (DD 1 (eA 1 S cn))) i) from (unV_eq e0 (by omega) (v := uy (d1 S cn)) (by rw [if_neg (by omega)])).trans rfl] at k1
        exact k1
      · refine ZE.aload d_SN_unit_34 rfl ?_
        refine ZE.getE (v := A (x + 1 + 29) (cn : Int) + 1) d_SN_unit_36 f_SN_167 (tg := 2) rfl hu.2.2.1.1 hu.2.2.2.1.1 ?_
        refine ZE.goto (tgt := 47) d_SN_unit_39 rfl ?_
        refine ZE.iload_n d_SN_unit_47 rfl ?_
        refine ZE.cV [(0, i)] [] [(2, A (x + 1 + 29) (cn : Int) + 1), (0, i), (9, 0), (9, 0)] d_SN_unit_48 l_SN_186 rfl rfl rfl rfl rfl rfl hu.2.2.1.2.2.1.1 ?_
        refine B_digitAt hu.2.2.1.2.2.1 hu.2.2.2.1.x (by have := nB_ux hfr; omega) hi ?_
        show ZE 11 M_SN_unit (gw G A) 51 [(2, x), (0, (cn : Int)), (0, wh), (0, i), (2, A (x + 1 + 29) (cn : Int))] [(0, dgN (ux (DD 1 (eA 1 S cn))) i)] _
        refine ZE.iret d_SN_unit_51 rfl ?_
        have k1 := k G A h cT.rf
        rw [show unV S (cn : Int) wh i = (dgN (ux (DD 1 (eA 1 S cn))) i) from (unV_eq e0 (by omega) (v := ux (d1 S cn)) (by rw [if_pos (by omega)])).trans rfl] at k1
        exact k1
    · replace c15 := b2i_0.mp c15
      refine ZE.iconst (n := (-1)) d_SN_unit_18 ?_
      refine ZE.iret d_SN_unit_19 rfl ?_
      have k1 := k G A h cT.rf
      rw [show unV S (cn : Int) wh i = (-1) from by unfold unV; rw [e0, if_pos rfl, if_neg (by omega), if_neg (by omega)]] at k1
      exact k1
set_option maxRecDepth 20000 in
set_option maxHeartbeats 4000000 in
theorem c_power {d : Nat} {G : zG} {A : Int → Int → Int} {P : Option zV → zG → Prop} {x : Int} {S T tl : Nat} {tf : Nat → Int} {wl : Nat} {wf : Nat → Int} (h : CI G A x S T tl tf wl wf) {c : Int} (hc : zR c) {i m : Int} (hi : zR i) (hm : zR m) (k : ∀ G2 A2, CI G2 A2 x S T tl tf wl wf → cT G A G2 A2 x → P (some (0, pwV S c i m)) (gw G2 A2)) : ZE 11 M_SN_power (gw G A) 0 [(2, x), (0, c), (0, i), (0, m)] [] P := by
  have hx0 := h.cCK.2.1
  have hR := h.cR
  have hL := h.cL.1
  have hgx := h.cL.2
  have hS7 := h.cS.2.1
  have hp5 := h.cS.2.2
  have hE0 := hR.E
  have hL64 := hR.l64
  have hC32 := hR.c32
  have hpl : (prL 1 S).length = (prs S).length := by rw [prL_1 hS7 hp5]
  have hcl : (csA 1 S).length = (csF S 1 128).length := rfl
  refine ZE.aload_n d_SN_power_0 rfl ?_
  refine ZE.getE (v := x + 1) d_SN_power_1 f_SN_12 (tg := 2) rfl h.cCK.1 h.cCF.1 ?_
  refine ZE.iload_n d_SN_power_4 rfl ?_
  refine ZE.cV [(0, c)] [] [(2, x + 1), (0, c)] d_SN_power_5 l_SN_139 rfl rfl rfl rfl rfl rfl h.cCK.2.2.1.1 ?_
  refine s_isClass h.cR.K h.cR.F h.cR.n11 (by omega) hc ?_
  show ZE 11 M_SN_power (gw G A) 8 [(2, x), (0, c), (0, i), (0, m)] [(0, b2i (0 ≤ c ∧ c < ((csA 1 S).length : Int)))] _
  refine ZE.if_eq (tgt := 28) d_SN_power_8 rfl (zR_b2i _) (fun c8 => ?_) (fun c8 => ?_)
  · replace c8 := b2i_0.mp c8
    refine ZE.iconst (n := (-1)) d_SN_power_28 ?_
    refine ZE.iret d_SN_power_29 rfl ?_
    have e0 : inC S c = false := decide_eq_false (fun q => c8 (by omega))
    have k1 := k G A h cT.rf
    rw [show pwV S c i m = (-1) from by unfold pwV; rw [e0]; rfl] at k1
    exact k1
  · replace c8 := b2i_n0.mp c8
    obtain ⟨cn, hcn⟩ : ∃ q : Nat, c = (q : Int) := ⟨c.toNat, by omega⟩
    subst hcn
    have e0 : inC S (cn : Int) = true := decide_eq_true (by omega)
    have hfr := hR.fr (c := cn) (by omega)
    have hfb := frD_b hfr
    have hdd : DD 1 (eA 1 S cn) = d1 S cn := rfl
    refine ZE.iload_n d_SN_power_11 rfl ?_
    refine ZE.if_lt (tgt := 28) d_SN_power_12 rfl hi (fun c12 => ?_) (fun c12 => ?_)
    · refine ZE.iconst (n := (-1)) d_SN_power_28 ?_
      refine ZE.iret d_SN_power_29 rfl ?_
      have k1 := k G A h cT.rf
      rw [show pwV S (cn : Int) i m = (-1) from by unfold pwV; rw [e0, if_pos rfl, if_neg (by omega)]] at k1
      exact k1
    · refine ZE.iload_n d_SN_power_15 rfl ?_
      refine ZE.bipush (n := 60) d_SN_power_16 rfl ?_
      refine ZE.icmp_gt (tgt := 28) d_SN_power_18 rfl hi (by unfold zR; omega) (fun c18 => ?_) (fun c18 => ?_)
      · refine ZE.iconst (n := (-1)) d_SN_power_28 ?_
        refine ZE.iret d_SN_power_29 rfl ?_
        have k1 := k G A h cT.rf
        rw [show pwV S (cn : Int) i m = (-1) from by unfold pwV; rw [e0, if_pos rfl, if_neg (by omega)]] at k1
        exact k1
      · refine ZE.iload_n d_SN_power_21 rfl ?_
        refine ZE.cS [(0, m)] [] [(0, m)] d_SN_power_22 l_SN_189 rfl rfl rfl rfl rfl rfl ?_
        refine c_modulus hm ?_
        show ZE 11 M_SN_power (gw G A) 25 [(2, x), (0, (cn : Int)), (0, i), (0, m)] [(0, b2i (2 ≤ m ∧ m ≤ 10000))] _
        refine ZE.if_ne (tgt := 30) d_SN_power_25 rfl (zR_b2i _) (fun c25 => ?_) (fun c25 => ?_)
        · replace c25 := b2i_n0.mp c25
          obtain ⟨im, him⟩ : ∃ q : Nat, i = (q : Int) := ⟨i.toNat, by omega⟩
          subst him
          obtain ⟨mm, hmm⟩ : ∃ q : Nat, m = (q : Int) := ⟨m.toNat, by omega⟩
          subst hmm
          refine ZE.aload_n d_SN_power_30 rfl ?_
          refine ZE.getE (v := x + 1) d_SN_power_31 f_SN_12 (tg := 2) rfl h.cCK.1 h.cCF.1 ?_
          refine ZE.iload_n d_SN_power_34 rfl ?_
          have hu := hR.un (c := cn) (by omega)
          refine ZE.cV [(0, (cn : Int))] [] [(2, x + 1), (0, (cn : Int)), (9, 0)] d_SN_power_35 l_SN_142 rfl rfl rfl rfl rfl rfl h.cCK.2.2.1.1 ?_
          refine s_unitAt hR.K hR.F hR.n11 hC32 (k1 := cn) (by omega) (v1 := A (x + 1 + 29) (cn : Int)) rfl (by have := hu.1; omega) ?_
          show ZE 11 M_SN_power (gw G A) 38 [(2, x), (0, (cn : Int)), (0, (im : Int)), (0, (mm : Int))] [(2, A (x + 1 + 29) (cn : Int))] _
          refine ZE.iload_n d_SN_power_38 rfl ?_
          refine ZE.iload_n d_SN_power_39 rfl ?_
          refine ZE.cV [(0, (im : Int)), (0, (mm : Int))] [] [(2, A (x + 1 + 29) (cn : Int)), (0, (im : Int)), (0, (mm : Int)), (9, 0), (9, 0), (9, 0), (9, 0), (9, 0), (9, 0), (9, 0), (9, 0), (9, 0)] d_SN_power_40 l_SN_192 rfl rfl rfl rfl rfl rfl hu.2.2.1.1 ?_
          refine u_powerLeft hu.2.2.1 hu.2.2.2.1 hfr (i0 := im) (m := mm) (by omega) (by omega) ?_
          show ZE 11 M_SN_power (gw G A) 43 [(2, x), (0, (cn : Int)), (0, (im : Int)), (0, (mm : Int))] [(0, ((xp (ux (DD 1 (eA 1 S cn))) im % mm : Nat) : Int))] _
          refine ZE.iret d_SN_power_43 rfl ?_
          have k1 := k G A h cT.rf
          rw [show pwV S (cn : Int) (im : Int) (mm : Int) = (((xp (ux (DD 1 (eA 1 S cn))) im % mm : Nat) : Int)) from by unfold pwV; rw [e0, if_pos rfl, if_pos (by omega), Int.toNat_natCast, Int.toNat_natCast, Int.toNat_natCast]; rfl] at k1
          exact k1
        · replace c25 := b2i_0.mp c25
          refine ZE.iconst (n := (-1)) d_SN_power_28 ?_
          refine ZE.iret d_SN_power_29 rfl ?_
          have k1 := k G A h cT.rf
          rw [show pwV S (cn : Int) i m = (-1) from by unfold pwV; rw [e0, if_pos rfl, if_neg (by omega)]] at k1
          exact k1
set_option maxRecDepth 20000 in
set_option maxHeartbeats 4000000 in
theorem c_powerLong {d : Nat} {G : zG} {A : Int → Int → Int} {P : Option zV → zG → Prop} {x : Int} {S T tl : Nat} {tf : Nat → Int} {wl : Nat} {wf : Nat → Int} (h : CI G A x S T tl tf wl wf) {c : Int} (hc : zR c) {i : Int} (hi : zR i) (k : ∀ G2 A2, CI G2 A2 x S T tl tf wl wf → cT G A G2 A2 x → P (some (0, plV S c i)) (gw G2 A2)) : ZE 11 M_SN_powerLong (gw G A) 0 [(2, x), (0, c), (0, i)] [] P := by
  have hx0 := h.cCK.2.1
  have hR := h.cR
  have hL := h.cL.1
  have hgx := h.cL.2
  have hS7 := h.cS.2.1
  have hp5 := h.cS.2.2
  have hE0 := hR.E
  have hL64 := hR.l64
  have hC32 := hR.c32
  have hpl : (prL 1 S).length = (prs S).length := by rw [prL_1 hS7 hp5]
  have hcl : (csA 1 S).length = (csF S 1 128).length := rfl
  have hb9 := bnd_le S hS7
  refine ZE.aload_n d_SN_powerLong_0 rfl ?_
  refine ZE.getE (v := x + 1) d_SN_powerLong_1 f_SN_12 (tg := 2) rfl h.cCK.1 h.cCF.1 ?_
  refine ZE.iload_n d_SN_powerLong_4 rfl ?_
  refine ZE.cV [(0, c)] [] [(2, x + 1), (0, c)] d_SN_powerLong_5 l_SN_139 rfl rfl rfl rfl rfl rfl h.cCK.2.2.1.1 ?_
  refine s_isClass h.cR.K h.cR.F h.cR.n11 (by omega) hc ?_
  show ZE 11 M_SN_powerLong (gw G A) 8 [(2, x), (0, c), (0, i)] [(0, b2i (0 ≤ c ∧ c < ((csA 1 S).length : Int)))] _
  refine ZE.if_eq (tgt := 26) d_SN_powerLong_8 rfl (zR_b2i _) (fun c8 => ?_) (fun c8 => ?_)
  · replace c8 := b2i_0.mp c8
    refine ZE.iconst (n := (-1)) d_SN_powerLong_26 ?_
    refine ZE.iret d_SN_powerLong_27 rfl ?_
    have e0 : inC S c = false := decide_eq_false (fun q => c8 (by omega))
    have k1 := k G A h cT.rf
    rw [show plV S c i = (-1) from by unfold plV; rw [e0]; rfl] at k1
    exact k1
  · replace c8 := b2i_n0.mp c8
    obtain ⟨cn, hcn⟩ : ∃ q : Nat, c = (q : Int) := ⟨c.toNat, by omega⟩
    subst hcn
    have e0 : inC S (cn : Int) = true := decide_eq_true (by omega)
    have hfr := hR.fr (c := cn) (by omega)
    have hfb := frD_b hfr
    have hdd : DD 1 (eA 1 S cn) = d1 S cn := rfl
    refine ZE.iload_n d_SN_powerLong_11 rfl ?_
    refine ZE.if_lt (tgt := 26) d_SN_powerLong_12 rfl hi (fun c12 => ?_) (fun c12 => ?_)
    · refine ZE.iconst (n := (-1)) d_SN_powerLong_26 ?_
      refine ZE.iret d_SN_powerLong_27 rfl ?_
      have k1 := k G A h cT.rf
      rw [show plV S (cn : Int) i = (-1) from by unfold plV; rw [e0, if_pos rfl, if_neg (by omega)]] at k1
      exact k1
    · refine ZE.iload_n d_SN_powerLong_15 rfl ?_
      refine ZE.aload_n d_SN_powerLong_16 rfl ?_
      refine ZE.getE (v := x + 1) d_SN_powerLong_17 f_SN_12 (tg := 2) rfl h.cCK.1 h.cCF.1 ?_
      refine ZE.getE (v := (bnd S : Int)) d_SN_powerLong_20 f_SN_108 (tg := 0) rfl h.cCK.2.2.1.1 h.cR.N.1.2.1 ?_
      refine ZE.icmp_le (tgt := 28) d_SN_powerLong_23 rfl hi (by unfold zR; omega) (fun c23 => ?_) (fun c23 => ?_)
      · obtain ⟨im, him⟩ : ∃ q : Nat, i = (q : Int) := ⟨i.toNat, by omega⟩
        subst him
        refine ZE.aload_n d_SN_powerLong_28 rfl ?_
        refine ZE.getE (v := x + 1) d_SN_powerLong_29 f_SN_12 (tg := 2) rfl h.cCK.1 h.cCF.1 ?_
        refine ZE.iload_n d_SN_powerLong_32 rfl ?_
        have hu := hR.un (c := cn) (by omega)
        refine ZE.cV [(0, (cn : Int))] [] [(2, x + 1), (0, (cn : Int)), (9, 0)] d_SN_powerLong_33 l_SN_142 rfl rfl rfl rfl rfl rfl h.cCK.2.2.1.1 ?_
        refine s_unitAt hR.K hR.F hR.n11 hC32 (k1 := cn) (by omega) (v1 := A (x + 1 + 29) (cn : Int)) rfl (by have := hu.1; omega) ?_
        show ZE 11 M_SN_powerLong (gw G A) 36 [(2, x), (0, (cn : Int)), (0, (im : Int))] [(2, A (x + 1 + 29) (cn : Int))] _
        refine ZE.iload_n d_SN_powerLong_36 rfl ?_
        refine ZE.cV [(0, (im : Int))] [] [(2, A (x + 1 + 29) (cn : Int)), (0, (im : Int))] d_SN_powerLong_37 l_SN_195 rfl rfl rfl rfl rfl rfl hu.2.2.1.1 ?_
        refine u_powerDigits hu.2.2.1 hu.2.2.2.1 (i0 := (im : Int)) (by omega) (v := ((dl (xp (ux (DD 1 (eA 1 S cn))) im) : Nat) : Int)) (fun q => (hu.2.2.2.2 im (by omega) (by omega)).1) ?_
        show ZE 11 M_SN_powerLong (gw G A) 40 [(2, x), (0, (cn : Int)), (0, (im : Int))] [(0, if (1 : Int) ≤ (im : Int) then ((dl (xp (ux (DD 1 (eA 1 S cn))) im) : Nat) : Int) else 1)] _
        refine ZE.iret d_SN_powerLong_40 rfl ?_
        have hle : (if (1 : Int) ≤ (im : Int) then ((dl (xp (ux (DD 1 (eA 1 S cn))) im) : Nat) : Int) else 1) = (dl (xp (ux (d1 S cn)) im) : Int) := by
          rw [← hdd]
          rcases Nat.eq_zero_or_pos im with z | z
          · subst z; rw [if_neg (by omega)]; show (1:Int) = ((dl 1 : Nat) : Int); rw [dl_one (by omega)]; rfl
          · rw [if_pos (by omega)]
        rw [hle]
        have k1 := k G A h cT.rf
        rw [show plV S (cn : Int) (im : Int) = ((dl (xp (ux (d1 S cn)) im) : Int)) from by unfold plV; rw [e0, if_pos rfl, if_pos (by omega), Int.toNat_natCast, Int.toNat_natCast]] at k1
        exact k1
      · refine ZE.iconst (n := (-1)) d_SN_powerLong_26 ?_
        refine ZE.iret d_SN_powerLong_27 rfl ?_
        have k1 := k G A h cT.rf
        rw [show plV S (cn : Int) i = (-1) from by unfold plV; rw [e0, if_pos rfl, if_neg (by omega)]] at k1
        exact k1
set_option maxRecDepth 20000 in
set_option maxHeartbeats 4000000 in
theorem c_nearing {d : Nat} {G : zG} {A : Int → Int → Int} {P : Option zV → zG → Prop} {x : Int} {S T tl : Nat} {tf : Nat → Int} {wl : Nat} {wf : Nat → Int} (h : CI G A x S T tl tf wl wf) {c : Int} (hc : zR c) {i wh m : Int} (hi : zR i) (hw : zR wh) (hm : zR m) (k : ∀ G2 A2, CI G2 A2 x S T tl tf wl wf → cT G A G2 A2 x → P (some (0, neV S c i wh m)) (gw G2 A2)) : ZE 11 M_SN_nearing (gw G A) 0 [(2, x), (0, c), (0, i), (0, wh), (0, m)] [] P := by
  have hx0 := h.cCK.2.1
  have hR := h.cR
  have hL := h.cL.1
  have hgx := h.cL.2
  have hS7 := h.cS.2.1
  have hp5 := h.cS.2.2
  have hE0 := hR.E
  have hL64 := hR.l64
  have hC32 := hR.c32
  have hpl : (prL 1 S).length = (prs S).length := by rw [prL_1 hS7 hp5]
  have hcl : (csA 1 S).length = (csF S 1 128).length := rfl
  refine ZE.aload_n d_SN_nearing_0 rfl ?_
  refine ZE.iload_n d_SN_nearing_1 rfl ?_
  refine ZE.iload_n d_SN_nearing_2 rfl ?_
  refine ZE.cV [(0, c), (0, i)] [] [(2, x), (0, c), (0, i)] d_SN_nearing_3 l_SN_173 rfl rfl rfl rfl rfl rfl h.cCK.1 ?_
  refine c_isStep h hc hi ?_
  show ZE 11 M_SN_nearing (gw G A) 6 [(2, x), (0, c), (0, i), (0, wh), (0, m)] [(0, b2i (inC S c = true ∧ 0 ≤ i ∧ i ≤ 2 * (rnd (d1 S c.toNat) : Int)))] _
  refine ZE.if_eq (tgt := 24) d_SN_nearing_6 rfl (zR_b2i _) (fun c6 => ?_) (fun c6 => ?_)
  · replace c6 := b2i_0.mp c6
    refine ZE.iconst (n := (-1)) d_SN_nearing_24 ?_
    refine ZE.iret d_SN_nearing_25 rfl ?_
    have e1 : neV S c i wh m = -1 := by unfold neV; rw [if_neg c6]
    have k1 := k G A h cT.rf
    rw [e1] at k1
    exact k1
  · replace c6 := b2i_n0.mp c6
    obtain ⟨hc0, hi0⟩ := c6
    have hc9 := of_decide_eq_true hc0
    obtain ⟨cn, hcn⟩ : ∃ q : Nat, c = (q : Int) := ⟨c.toNat, by omega⟩
    subst hcn
    have e0 : inC S (cn : Int) = true := decide_eq_true (by omega)
    have hfr := hR.fr (c := cn) (by omega)
    have hfb := frD_b hfr
    have hdd : DD 1 (eA 1 S cn) = d1 S cn := rfl
    rw [Int.toNat_natCast, ← hdd] at hi0
    obtain ⟨im, him⟩ : ∃ q : Nat, i = (q : Int) := ⟨i.toNat, by omega⟩
    subst him
    rw [hdd] at hfr hi0
    refine ZE.iload_n d_SN_nearing_9 rfl ?_
    refine ZE.cS [(0, wh)] [] [(0, wh)] d_SN_nearing_10 l_SN_183 rfl rfl rfl rfl rfl rfl ?_
    refine c_one2 hw ?_
    show ZE 11 M_SN_nearing (gw G A) 13 [(2, x), (0, (cn : Int)), (0, (im : Int)), (0, wh), (0, m)] [(0, b2i (wh = 0 ∨ wh = 1))] _
    refine ZE.if_eq (tgt := 24) d_SN_nearing_13 rfl (zR_b2i _) (fun c13 => ?_) (fun c13 => ?_)
    · replace c13 := b2i_0.mp c13
      refine ZE.iconst (n := (-1)) d_SN_nearing_24 ?_
      refine ZE.iret d_SN_nearing_25 rfl ?_
      have e1 : neV S (cn : Int) (im : Int) wh m = -1 := by unfold neV; rw [Int.toNat_natCast, if_pos ⟨hc0, hi0⟩, if_neg (by omega)]
      have k1 := k G A h cT.rf
      rw [e1] at k1
      exact k1
    · replace c13 := b2i_n0.mp c13
      refine ZE.iload d_SN_nearing_16 rfl ?_
      refine ZE.cS [(0, m)] [] [(0, m)] d_SN_nearing_18 l_SN_189 rfl rfl rfl rfl rfl rfl ?_
      refine c_modulus hm ?_
      show ZE 11 M_SN_nearing (gw G A) 21 [(2, x), (0, (cn : Int)), (0, (im : Int)), (0, wh), (0, m)] [(0, b2i (2 ≤ m ∧ m ≤ 10000))] _
      refine ZE.if_ne (tgt := 26) d_SN_nearing_21 rfl (zR_b2i _) (fun c21 => ?_) (fun c21 => ?_)
      · replace c21 := b2i_n0.mp c21
        obtain ⟨mm, hmm⟩ : ∃ q : Nat, m = (q : Int) := ⟨m.toNat, by omega⟩
        subst hmm
        refine ZE.aload_n d_SN_nearing_26 rfl ?_
        refine ZE.getE (v := x + 126) d_SN_nearing_27 f_SN_45 (tg := 2) rfl h.cCK.1 h.cCF.2.2.2.2.2.1 ?_
        refine ZE.aload_n d_SN_nearing_30 rfl ?_
        refine ZE.iload_n d_SN_nearing_31 rfl ?_
        refine ZE.cV [(0, (cn : Int))] [(2, x + 126)] [(2, x), (0, (cn : Int))] d_SN_nearing_32 l_SN_176 rfl rfl rfl rfl rfl rfl h.cCK.1 ?_
        refine c_squareOf h (cn := cn) (by omega) ?_
        show ZE 11 M_SN_nearing (gw G A) 35 [(2, x), (0, (cn : Int)), (0, (im : Int)), (0, wh), (0, (mm : Int))] [(0, (d1 S cn : Int)), (2, x + 126)] _
        refine ZE.iload_n d_SN_nearing_35 rfl ?_
        refine ZE.iload_n d_SN_nearing_36 rfl ?_
        refine ZE.if_ne (tgt := 44) d_SN_nearing_37 rfl hw (fun c37 => ?_) (fun c37 => ?_)
        · refine ZE.iconst (n := 0) d_SN_nearing_44 ?_
          refine ZE.iload d_SN_nearing_45 rfl ?_
          have hfK := h.cCK.2.2.2.2.2.2.2.1
          refine ZE.cV [(0, (d1 S cn : Int)), (0, (im : Int)), (0, 0), (0, (mm : Int))] [] [(2, x + 126), (0, (d1 S cn : Int)), (0, (im : Int)), (0, 0), (0, (mm : Int)), (9, 0), (9, 0), (9, 0), (9, 0), (9, 0), (9, 0), (9, 0)] d_SN_nearing_47 l_SN_211 rfl rfl rfl rfl rfl rfl h.cCK.2.2.2.2.2.2.2.1.1 ?_
          refine f_nearing hfK h.cO hfr (n := im) (by omega) (m := mm) (by omega) (wh := wh) (bp := 0) (by rw [if_neg (by omega)]) (fun B gB => ?_)
          show ZE 11 M_SN_nearing (gw G B) 50 [(2, x), (0, (cn : Int)), (0, (im : Int)), (0, wh), (0, (mm : Int))] [(0, ((neF (d1 S cn) (isq (d1 S cn)) wh mm im).2 : Int))] _
          have hrg : ∀ a : Int, (a < x + 126 ∨ x + 134 < a) → B a = A a := fun a ha => gB.1 a (by omega)
          have hB : CI G B x S T tl tf wl wf := h.sO hrg (h.cO.fl gB)
          have hcT : cT G A G B x := cT.rg hrg (by omega) (by omega)
          refine ZE.iret d_SN_nearing_50 rfl ?_
          have k1 := k G B hB hcT
          rw [show neV S (cn : Int) (im : Int) wh (mm : Int) = (((neF (d1 S cn) (isq (d1 S cn)) wh mm im).2 : Int)) from by unfold neV; rw [Int.toNat_natCast, if_pos ⟨hc0, hi0⟩, if_pos (by omega), Int.toNat_natCast, Int.toNat_natCast]] at k1
          exact k1
        · refine ZE.iconst (n := 1) d_SN_nearing_40 ?_
          refine ZE.goto (tgt := 45) d_SN_nearing_41 rfl ?_
          refine ZE.iload d_SN_nearing_45 rfl ?_
          have hfK := h.cCK.2.2.2.2.2.2.2.1
          refine ZE.cV [(0, (d1 S cn : Int)), (0, (im : Int)), (0, 1), (0, (mm : Int))] [] [(2, x + 126), (0, (d1 S cn : Int)), (0, (im : Int)), (0, 1), (0, (mm : Int)), (9, 0), (9, 0), (9, 0), (9, 0), (9, 0), (9, 0), (9, 0)] d_SN_nearing_47 l_SN_211 rfl rfl rfl rfl rfl rfl h.cCK.2.2.2.2.2.2.2.1.1 ?_
          refine f_nearing hfK h.cO hfr (n := im) (by omega) (m := mm) (by omega) (wh := wh) (bp := 1) (by rw [if_pos (by omega)]) (fun B gB => ?_)
          show ZE 11 M_SN_nearing (gw G B) 50 [(2, x), (0, (cn : Int)), (0, (im : Int)), (0, wh), (0, (mm : Int))] [(0, ((neF (d1 S cn) (isq (d1 S cn)) wh mm im).2 : Int))] _
          have hrg : ∀ a : Int, (a < x + 126 ∨ x + 134 < a) → B a = A a := fun a ha => gB.1 a (by omega)
          have hB : CI G B x S T tl tf wl wf := h.sO hrg (h.cO.fl gB)
          have hcT : cT G A G B x := cT.rg hrg (by omega) (by omega)
          refine ZE.iret d_SN_nearing_50 rfl ?_
          have k1 := k G B hB hcT
          rw [show neV S (cn : Int) (im : Int) wh (mm : Int) = (((neF (d1 S cn) (isq (d1 S cn)) wh mm im).2 : Int)) from by unfold neV; rw [Int.toNat_natCast, if_pos ⟨hc0, hi0⟩, if_pos (by omega), Int.toNat_natCast, Int.toNat_natCast]] at k1
          exact k1
      · replace c21 := b2i_0.mp c21
        refine ZE.iconst (n := (-1)) d_SN_nearing_24 ?_
        refine ZE.iret d_SN_nearing_25 rfl ?_
        have e1 : neV S (cn : Int) (im : Int) wh m = -1 := by unfold neV; rw [Int.toNat_natCast, if_pos ⟨hc0, hi0⟩, if_neg (by omega)]
        have k1 := k G A h cT.rf
        rw [e1] at k1
        exact k1
