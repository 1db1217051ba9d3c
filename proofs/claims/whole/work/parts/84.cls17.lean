def uK (G : zG) (u : Int) : Prop := gk G u = 19 ∧ 0 ≤ u ∧ bK G (u + 1) 8 ∧ bK G (u + 3) 8 ∧ (gk G (u + 5) = 1 ∧ gn G (u + 5) = 10) ∧ (gk G (u + 6) = 1 ∧ gn G (u + 6) = 10) ∧ (gk G (u + 7) = 1 ∧ gn G (u + 7) = 10) ∧ (gk G (u + 8) = 4 ∧ gn G (u + 8) = 10)
def uO (A : Int → Int → Int) (u : Int) (q D : Nat) : Prop := A u 0 = u + 1 ∧ A u 1 = u + 3 ∧ A u 2 = (q : Int) ∧ A u 3 = (D : Int) ∧ A u 4 = (isq D : Int) ∧ A u 5 = (rnd D : Int) ∧ A u 6 = u + 5 ∧ A u 7 = u + 6 ∧ A u 8 = u + 7 ∧ A u 9 = u + 8 ∧ bN A (u + 1) (ux D) ∧ bN A (u + 3) (uy D)
theorem frD_ux {D : Nat} (h : frD D) : ux D < 10 ^ 24 := u24_ux h.2.2
theorem frD_x1 {D : Nat} (h : frD D) : 1 ≤ ux D := by
  have h1 := frD_b h
  have h2 := (frD_ns h (j := rnd D - 1) (by omega)).2.2.2.2.1
  unfold ux unx hfp
  split
  · omega
  · exact h2
theorem nB_ux {D : Nat} (h : frD D) : nd 1000000000 (ux D) ≤ 3 := nB27 (Nat.lt_trans (frD_ux h) (by decide))
theorem frD_yx {D : Nat} (h : frD D) : uy D < 10 ^ 54 * 3 := by
  have h1 := frD_b h
  have h2 := frD_ns h (j := rnd D - 1) (by omega)
  have h3 : hfp D (isq D) (rnd D) < 10 ^ 27 := h2.1
  have h4 : hfr D (isq D) (rnd D) < 10 ^ 27 := h2.2.2.1
  unfold uy uny
  split
  · have h5 : hfp D (isq D) (rnd D) * hfr D (isq D) (rnd D) ≤ 10 ^ 27 * 10 ^ 27 := Nat.mul_le_mul (by omega) (by omega)
    have h6 : 10 ^ 27 * 10 ^ 27 = 10 ^ 54 := by decide
    omega
  · have h6 : 10 ^ 27 < 10 ^ 54 := by decide
    omega
theorem nB_uy {D : Nat} (h : frD D) : nd 1000000000 (uy D) ≤ 7 := nd_le (by omega) (Nat.lt_trans (frD_yx h) (by decide))
set_option maxRecDepth 20000 in
set_option maxHeartbeats 4000000 in
theorem u_isNegative {d : Nat} {G : zG} {A : Int → Int → Int} {P : Option zV → zG → Prop}  {u : Int} (hu : uK G u) {q D : Nat} (hO : uO A u q D) (hb : rnd D ≤ 50) (k : P (some (0, b2i (rnd D % 2 = 1))) (gw G A)) : ZE d M_Uni_isNegative (gw G A) 0 [(2, u)] [] P := by
  refine ZE.aload_n d_Uni_isNegative_0 rfl ?_
  refine ZE.getE (v := (rnd D : Int)) d_Uni_isNegative_1 f_Uni_61 (tg := 0) rfl hu.1 hO.2.2.2.2.2.1 ?_
  refine ZE.iconst (n := 2) d_Uni_isNegative_4 ?_
  refine ZE.iremP d_Uni_isNegative_5 (by omega) ?_
  refine ZE.iconst (n := 1) d_Uni_isNegative_6 ?_
  refine ZE.icmp_ne (tgt := 14) d_Uni_isNegative_7 rfl (by unfold zR; omega) (by unfold zR; omega) (fun c7 => ?_) (fun c7 => ?_)
  · refine ZE.iconst (n := 0) d_Uni_isNegative_14 ?_
    refine ZE.zret d_Uni_isNegative_15 rfl (by omega) ?_
    rw [b2i_f (by omega)] at k
    exact k
  · refine ZE.iconst (n := 1) d_Uni_isNegative_10 ?_
    refine ZE.goto (tgt := 15) d_Uni_isNegative_11 rfl ?_
    refine ZE.zret d_Uni_isNegative_15 rfl (by omega) ?_
    rw [b2i_t (by omega)] at k
    exact k
set_option maxRecDepth 20000 in
set_option maxHeartbeats 4000000 in
theorem u_powerLeft {d : Nat} {G : zG} {A : Int → Int → Int} {P : Option zV → zG → Prop}  {u : Int} (hu : uK G u) {q D : Nat} (hO : uO A u q D) (h1 : frD D) {i0 m : Nat} (hi : i0 ≤ 60) (hm : 2 ≤ m ∧ m ≤ 10000) (k : P (some (0, ((xp (ux D) i0 % m : Nat) : Int))) (gw G A)) : ZE (d + 2) M_Uni_powerLeft (gw G A) 0 [(2, u), (0, (i0 : Int)), (0, (m : Int)), (9, 0), (9, 0), (9, 0), (9, 0), (9, 0), (9, 0), (9, 0), (9, 0), (9, 0)] [] P := by
  refine ZE.iload_n d_Uni_powerLeft_0 rfl ?_
  refine ZE.iconst (n := 2) d_Uni_powerLeft_1 ?_
  refine ZE.icmp_lt (tgt := 10) d_Uni_powerLeft_2 rfl (by unfold zR; omega) (by unfold zR; omega) (fun c2 => ?_) (fun c2 => ?_)
  · refine ZE.iconst (n := 1) d_Uni_powerLeft_10 ?_
    refine ZE.iret d_Uni_powerLeft_11 rfl ?_
    have hi0 : i0 = 0 := by omega
    subst hi0
    rw [show xp (ux D) 0 % m = 1 from Nat.mod_eq_of_lt (show 1 < m by omega)] at k
    exact k
  · refine ZE.iload_n d_Uni_powerLeft_5 rfl ?_
    refine ZE.iconst (n := 1) d_Uni_powerLeft_6 ?_
    refine ZE.icmp_ge (tgt := 12) d_Uni_powerLeft_7 rfl (by unfold zR; omega) (by unfold zR; omega) (fun c7 => ?_) (fun c7 => ?_)
    · refine ZE.aload_n d_Uni_powerLeft_12 rfl ?_
      refine ZE.getE (v := u + 1) d_Uni_powerLeft_13 f_Uni_16 (tg := 2) rfl hu.1 hO.1 ?_
      refine ZE.iload_n d_Uni_powerLeft_16 rfl ?_
      have hmx := Nat.mod_lt (ux D) (show 0 < m by omega)
      refine ZE.cV [(0, (m : Int))] [] [(2, u + 1), (0, (m : Int)), (9, 0), (9, 0), (9, 0)] d_Uni_powerLeft_17 l_Uni_107 rfl rfl rfl rfl rfl rfl hu.2.2.1.1 ?_
      refine B_remainder (v := ux D) (y := m) hu.2.2.1 hO.2.2.2.2.2.2.2.2.2.2.1 (by omega) (by omega) (Nat.le_trans (nB_ux h1) (by omega)) ?_
      show ZE (d + 2) M_Uni_powerLeft (gw G A) 20 [(2, u), (0, (i0 : Int)), (0, (m : Int)), (9, 0), (9, 0), (9, 0), (9, 0), (9, 0), (9, 0), (9, 0), (9, 0), (9, 0)] [(0, ((ux D % m : Nat) : Int))] _
      refine ZE.i2l d_Uni_powerLeft_20 (by unfold zR; omega) ?_
      refine ZE.lstore_n (ls2 := [(2, u), (0, (i0 : Int)), (0, (m : Int)), (1, ((ux D % m : Nat) : Int)), (9, 0), (9, 0), (9, 0), (9, 0), (9, 0), (9, 0), (9, 0), (9, 0)]) d_Uni_powerLeft_21 (Nat.le_of_ble_eq_true rfl) rfl ?_
      refine ZE.lconst d_Uni_powerLeft_22 ?_
      show ZE (d + 2) M_Uni_powerLeft (gw G A) 23 [(2, u), (0, (i0 : Int)), (0, (m : Int)), (1, ((ux D % m : Nat) : Int)), (9, 0), (9, 0), (9, 0), (9, 0), (9, 0), (9, 0), (9, 0), (9, 0)] [(1, 1)] _
      refine ZE.lstore (ls2 := [(2, u), (0, (i0 : Int)), (0, (m : Int)), (1, ((ux D % m : Nat) : Int)), (9, 0), (1, 1), (9, 0), (9, 0), (9, 0), (9, 0), (9, 0), (9, 0)]) d_Uni_powerLeft_23 (Nat.le_of_ble_eq_true rfl) rfl ?_
      refine ZE.lload_n d_Uni_powerLeft_25 rfl ?_
      refine ZE.lstore (ls2 := [(2, u), (0, (i0 : Int)), (0, (m : Int)), (1, ((ux D % m : Nat) : Int)), (9, 0), (1, 1), (9, 0), (1, ((ux D % m : Nat) : Int)), (9, 0), (9, 0), (9, 0), (9, 0)]) d_Uni_powerLeft_26 (Nat.le_of_ble_eq_true rfl) rfl ?_
      refine ZE.iconst (n := 1) d_Uni_powerLeft_28 ?_
      refine ZE.istore (ls2 := [(2, u), (0, (i0 : Int)), (0, (m : Int)), (1, ((ux D % m : Nat) : Int)), (9, 0), (1, 1), (9, 0), (1, ((ux D % m : Nat) : Int)), (9, 0), (0, 1), (9, 0), (9, 0)]) d_Uni_powerLeft_29 (Nat.le_of_ble_eq_true rfl) rfl ?_
      have L31 : ∀ (tt0 : Nat) (j : Nat) (hj : 1 ≤ j ∧ j ≤ i0), i0 - j < tt0 → ZE (d + 2) M_Uni_powerLeft (gw G A) 31 [(2, u), (0, (i0 : Int)), (0, (m : Int)), (1, ((ux D % m : Nat) : Int)), (9, 0), (1, ((xq (ux D) j % m : Nat) : Int)), (9, 0), (1, ((xp (ux D) j % m : Nat) : Int)), (9, 0), (0, (j : Int)), (9, 0), (9, 0)] [] P := by
        intro tt0
        induction tt0 with
        | zero => intro j hj hm; exact absurd hm (Nat.not_lt_zero _)
        | succ tt0 ih =>
          intro j hj hm
          have hm1 := Nat.mod_lt (ux D) (show 0 < m by omega)
          have hm2 := Nat.mod_lt (xp (ux D) j) (show 0 < m by omega)
          have hm3 := Nat.mod_lt (xq (ux D) j) (show 0 < m by omega)
          have hmm : (ux D % m) * (xp (ux D) j % m) ≤ 10000 * 10000 := Nat.mul_le_mul (by omega) (by omega)
          refine ZE.iload d_Uni_powerLeft_31 rfl ?_
          refine ZE.iload_n d_Uni_powerLeft_33 rfl ?_
          refine ZE.icmp_ge (tgt := 76) d_Uni_powerLeft_34 rfl (by unfold zR; omega) (by unfold zR; omega) (fun c34 => ?_) (fun c34 => ?_)
          · refine ZE.lload d_Uni_powerLeft_76 rfl ?_
            refine ZE.l2i d_Uni_powerLeft_78 ?_
            refine ZE.iret d_Uni_powerLeft_79 rfl ?_
            rw [show j = i0 by omega]
            exact k
          · refine ZE.iload d_Uni_powerLeft_37 rfl ?_
            refine ZE.bipush (n := 60) d_Uni_powerLeft_39 rfl ?_
            refine ZE.icmp_ge (tgt := 76) d_Uni_powerLeft_41 rfl (by unfold zR; omega) (by unfold zR; omega) (fun c41 => ?_) (fun c41 => ?_)
            · exact absurd c41 (by omega)
            · refine ZE.ldc2 (v := 2) d_Uni_powerLeft_44 k_Uni_110 ?_
              refine ZE.lload_n d_Uni_powerLeft_47 rfl ?_
              refine ZE.lmul d_Uni_powerLeft_48 ?_
              refine ZE.lload d_Uni_powerLeft_49 rfl ?_
              refine ZE.lmul d_Uni_powerLeft_51 ?_
              refine ZE.lload d_Uni_powerLeft_52 rfl ?_
              refine ZE.lsub d_Uni_powerLeft_54 ?_
              refine ZE.iload_n d_Uni_powerLeft_55 rfl ?_
              refine ZE.i2l d_Uni_powerLeft_56 (by unfold zR; omega) ?_
              have hxm := xp_mod (m := m) (k := j) (frD_x1 h1) (by omega)
              have hmI : ((ux D % m : Nat) : Int) * ((xp (ux D) j % m : Nat) : Int) = (((ux D % m) * (xp (ux D) j % m) : Nat) : Int) := (Int.natCast_mul _ _).symm
              have hmJ : 2 * ((ux D % m : Nat) : Int) * ((xp (ux D) j % m : Nat) : Int) = 2 * (((ux D % m) * (xp (ux D) j % m) : Nat) : Int) := by rw [Int.mul_assoc, hmI]
              refine ZE.cS [(1, ((2 * ((ux D % m : Nat) : Int)) * ((xp (ux D) j % m : Nat) : Int)) - ((xq (ux D) j % m : Nat) : Int)), (1, (m : Int))] [] [(1, ((2 * ((ux D % m : Nat) : Int)) * ((xp (ux D) j % m : Nat) : Int)) - ((xq (ux D) j % m : Nat) : Int)), (9, 0), (1, (m : Int)), (9, 0), (9, 0), (9, 0)] d_Uni_powerLeft_57 l_Uni_112 rfl rfl rfl rfl rfl rfl ?_
              refine j_floorModJ (by rw [hmJ]; unfold zR64; omega) (by omega) (by omega) ?_
              show ZE (d + 2) M_Uni_powerLeft (gw G A) 60 [(2, u), (0, (i0 : Int)), (0, (m : Int)), (1, ((ux D % m : Nat) : Int)), (9, 0), (1, ((xq (ux D) j % m : Nat) : Int)), (9, 0), (1, ((xp (ux D) j % m : Nat) : Int)), (9, 0), (0, (j : Int)), (9, 0), (9, 0)] [(1, (2 * ((ux D % m : Nat) : Int) * ((xp (ux D) j % m : Nat) : Int) - ((xq (ux D) j % m : Nat) : Int)) % (m : Int))] _
              rw [hxm]
              refine ZE.lstore (ls2 := [(2, u), (0, (i0 : Int)), (0, (m : Int)), (1, ((ux D % m : Nat) : Int)), (9, 0), (1, ((xq (ux D) j % m : Nat) : Int)), (9, 0), (1, ((xp (ux D) j % m : Nat) : Int)), (9, 0), (0, (j : Int)), (1, ((xp (ux D) (j + 1) % m : Nat) : Int)), (9, 0)]) d_Uni_powerLeft_60 (Nat.le_of_ble_eq_true rfl) rfl ?_
              refine ZE.lload d_Uni_powerLeft_62 rfl ?_
              refine ZE.lstore (ls2 := [(2, u), (0, (i0 : Int)), (0, (m : Int)), (1, ((ux D % m : Nat) : Int)), (9, 0), (1, ((xp (ux D) j % m : Nat) : Int)), (9, 0), (1, ((xp (ux D) j % m : Nat) : Int)), (9, 0), (0, (j : Int)), (1, ((xp (ux D) (j + 1) % m : Nat) : Int)), (9, 0)]) d_Uni_powerLeft_64 (Nat.le_of_ble_eq_true rfl) rfl ?_
              refine ZE.lload d_Uni_powerLeft_66 rfl ?_
              refine ZE.lstore (ls2 := [(2, u), (0, (i0 : Int)), (0, (m : Int)), (1, ((ux D % m : Nat) : Int)), (9, 0), (1, ((xp (ux D) j % m : Nat) : Int)), (9, 0), (1, ((xp (ux D) (j + 1) % m : Nat) : Int)), (9, 0), (0, (j : Int)), (1, ((xp (ux D) (j + 1) % m : Nat) : Int)), (9, 0)]) d_Uni_powerLeft_68 (Nat.le_of_ble_eq_true rfl) rfl ?_
              refine ZE.iinc (ls2 := [(2, u), (0, (i0 : Int)), (0, (m : Int)), (1, ((ux D % m : Nat) : Int)), (9, 0), (1, ((xp (ux D) j % m : Nat) : Int)), (9, 0), (1, ((xp (ux D) (j + 1) % m : Nat) : Int)), (9, 0), (0, (j : Int) + 1), (1, ((xp (ux D) (j + 1) % m : Nat) : Int)), (9, 0)]) d_Uni_powerLeft_70 rfl rfl ?_
              refine ZE.goto (tgt := 31) d_Uni_powerLeft_73 rfl ?_
              refine ZE.mask [true, true, true, true, true, true, true, true, true, true, false, true] ?_
              show ZE (d + 2) M_Uni_powerLeft (gw G A) 31 [(2, u), (0, (i0 : Int)), (0, (m : Int)), (1, ((ux D % m : Nat) : Int)), (9, 0), (1, ((xp (ux D) j % m : Nat) : Int)), (9, 0), (1, ((xp (ux D) (j + 1) % m : Nat) : Int)), (9, 0), (0, (j : Int) + 1), (9, 0), (9, 0)] [] _
              rw [show (j : Int) + 1 = ((j + 1 : Nat) : Int) by omega]
              rw [show ((xp (ux D) j % m : Nat) : Int) = ((xq (ux D) (j + 1) % m : Nat) : Int) from by unfold xq; rw [if_neg (by omega), Nat.add_sub_cancel]]
              exact ih (j + 1) (by omega) (by omega)
      have L0 := L31 _ 1 (by omega) (Nat.lt_succ_self _)
      rw [show xq (ux D) 1 % m = 1 from by show (if (1 : Nat) = 0 then ux D else xp (ux D) 0) % m = 1; rw [if_neg (by decide)]; exact Nat.mod_eq_of_lt (show 1 < m by omega)] at L0
      exact L0
    · refine ZE.iconst (n := 1) d_Uni_powerLeft_10 ?_
      refine ZE.iret d_Uni_powerLeft_11 rfl ?_
      have hi0 : i0 = 0 := by omega
      subst hi0
      rw [show xp (ux D) 0 % m = 1 from Nat.mod_eq_of_lt (show 1 < m by omega)] at k
      exact k
set_option maxRecDepth 20000 in
set_option maxHeartbeats 4000000 in
theorem u_firstEntry {d : Nat} {G : zG} {A : Int → Int → Int} {P : Option zV → zG → Prop}  {u : Int} (hu : uK G u) {q D : Nat} (hO : uO A u q D) (h1 : frD D) {p : Nat} (hp : 2 ≤ p ∧ p ≤ 10000) (k : P (some (0, fsA (fun i => decide ((enF ((ux D % p : Nat) : Int) ((uy D % p : Nat) : Int) (p : Int) (i - 1)).2 = 0)) 1 200)) (gw G A)) : ZE (d + 2) M_Uni_firstEntry (gw G A) 0 [(2, u), (0, (p : Int)), (9, 0), (9, 0), (9, 0), (9, 0), (9, 0), (9, 0), (9, 0), (9, 0), (9, 0)] [] P := by
  have hmx := Nat.mod_lt (ux D) (show 0 < p by omega)
  have hmy := Nat.mod_lt (uy D) (show 0 < p by omega)
  refine ZE.iload_n d_Uni_firstEntry_0 rfl ?_
  refine ZE.iconst (n := 2) d_Uni_firstEntry_1 ?_
  refine ZE.icmp_ge (tgt := 7) d_Uni_firstEntry_2 rfl (by unfold zR; omega) (by unfold zR; omega) (fun c2 => ?_) (fun c2 => ?_)
  · refine ZE.aload_n d_Uni_firstEntry_7 rfl ?_
    refine ZE.getE (v := u + 1) d_Uni_firstEntry_8 f_Uni_16 (tg := 2) rfl hu.1 hO.1 ?_
    refine ZE.iload_n d_Uni_firstEntry_11 rfl ?_
    refine ZE.cV [(0, (p : Int))] [] [(2, u + 1), (0, (p : Int)), (9, 0), (9, 0), (9, 0)] d_Uni_firstEntry_12 l_Uni_107 rfl rfl rfl rfl rfl rfl hu.2.2.1.1 ?_
    refine B_remainder (v := ux D) (y := p) hu.2.2.1 hO.2.2.2.2.2.2.2.2.2.2.1 (by omega) (by omega) (Nat.le_trans (nB_ux h1) (by omega)) ?_
    show ZE (d + 2) M_Uni_firstEntry (gw G A) 15 [(2, u), (0, (p : Int)), (9, 0), (9, 0), (9, 0), (9, 0), (9, 0), (9, 0), (9, 0), (9, 0), (9, 0)] [(0, ((ux D % p : Nat) : Int))] _
    refine ZE.i2l d_Uni_firstEntry_15 (by unfold zR; omega) ?_
    refine ZE.lstore_n (ls2 := [(2, u), (0, (p : Int)), (1, ((ux D % p : Nat) : Int)), (9, 0), (9, 0), (9, 0), (9, 0), (9, 0), (9, 0), (9, 0), (9, 0)]) d_Uni_firstEntry_16 (Nat.le_of_ble_eq_true rfl) rfl ?_
    refine ZE.lconst d_Uni_firstEntry_17 ?_
    show ZE (d + 2) M_Uni_firstEntry (gw G A) 18 [(2, u), (0, (p : Int)), (1, ((ux D % p : Nat) : Int)), (9, 0), (9, 0), (9, 0), (9, 0), (9, 0), (9, 0), (9, 0), (9, 0)] [(1, 0)] _
    refine ZE.lstore (ls2 := [(2, u), (0, (p : Int)), (1, ((ux D % p : Nat) : Int)), (9, 0), (1, 0), (9, 0), (9, 0), (9, 0), (9, 0), (9, 0), (9, 0)]) d_Uni_firstEntry_18 (Nat.le_of_ble_eq_true rfl) rfl ?_
    refine ZE.aload_n d_Uni_firstEntry_20 rfl ?_
    refine ZE.getE (v := u + 3) d_Uni_firstEntry_21 f_Uni_20 (tg := 2) rfl hu.1 hO.2.1 ?_
    refine ZE.iload_n d_Uni_firstEntry_24 rfl ?_
    refine ZE.cV [(0, (p : Int))] [] [(2, u + 3), (0, (p : Int)), (9, 0), (9, 0), (9, 0)] d_Uni_firstEntry_25 l_Uni_107 rfl rfl rfl rfl rfl rfl hu.2.2.2.1.1 ?_
    refine B_remainder (v := uy D) (y := p) hu.2.2.2.1 hO.2.2.2.2.2.2.2.2.2.2.2 (by omega) (by omega) (Nat.le_trans (nB_uy h1) (by omega)) ?_
    show ZE (d + 2) M_Uni_firstEntry (gw G A) 28 [(2, u), (0, (p : Int)), (1, ((ux D % p : Nat) : Int)), (9, 0), (1, 0), (9, 0), (9, 0), (9, 0), (9, 0), (9, 0), (9, 0)] [(0, ((uy D % p : Nat) : Int))] _
    refine ZE.i2l d_Uni_firstEntry_28 (by unfold zR; omega) ?_
    refine ZE.lstore (ls2 := [(2, u), (0, (p : Int)), (1, ((ux D % p : Nat) : Int)), (9, 0), (1, 0), (9, 0), (1, ((uy D % p : Nat) : Int)), (9, 0), (9, 0), (9, 0), (9, 0)]) d_Uni_firstEntry_29 (Nat.le_of_ble_eq_true rfl) rfl ?_
    refine ZE.iconst (n := 1) d_Uni_firstEntry_31 ?_
    refine ZE.istore (ls2 := [(2, u), (0, (p : Int)), (1, ((ux D % p : Nat) : Int)), (9, 0), (1, 0), (9, 0), (1, ((uy D % p : Nat) : Int)), (9, 0), (0, 1), (9, 0), (9, 0)]) d_Uni_firstEntry_32 (Nat.le_of_ble_eq_true rfl) rfl ?_
    have L34 : ∀ (tt0 : Nat) (j : Nat) (hj : j ≤ 200) (hfs : fsA (fun i => decide ((enF ((ux D % p : Nat) : Int) ((uy D % p : Nat) : Int) (p : Int) (i - 1)).2 = 0)) 1 200 = fsA (fun i => decide ((enF ((ux D % p : Nat) : Int) ((uy D % p : Nat) : Int) (p : Int) (i - 1)).2 = 0)) (j + 1) (200 - j)), 200 - j < tt0 → ZE (d + 2) M_Uni_firstEntry (gw G A) 34 [(2, u), (0, (p : Int)), (1, ((ux D % p : Nat) : Int)), (9, 0), (1, (enF ((ux D % p : Nat) : Int) ((uy D % p : Nat) : Int) (p : Int) j).1), (9, 0), (1, (enF ((ux D % p : Nat) : Int) ((uy D % p : Nat) : Int) (p : Int) j).2), (9, 0), (0, (j : Int) + 1), (9, 0), (9, 0)] [] P := by
      intro tt0
      induction tt0 with
      | zero => intro j hj hfs hm; exact absurd hm (Nat.not_lt_zero _)
      | succ tt0 ih =>
        intro j hj hfs hm
        have hER := enF_R (x1 := ((ux D % p : Nat) : Int)) (y1 := ((uy D % p : Nat) : Int)) (p := (p : Int)) (by omega) (by omega) j
        have hmm : 2 * ((ux D % p : Nat) : Int) * (enF ((ux D % p : Nat) : Int) ((uy D % p : Nat) : Int) (p : Int) j).2 ≤ 2 * 10000 * 10000 := Int.mul_le_mul (by omega) (by omega) (by omega) (by omega)
        have hm0 : 0 ≤ 2 * ((ux D % p : Nat) : Int) * (enF ((ux D % p : Nat) : Int) ((uy D % p : Nat) : Int) (p : Int) j).2 := Int.mul_nonneg (by omega) (by omega)
        refine ZE.iload d_Uni_firstEntry_34 rfl ?_
        refine ZE.sipush (n := 200) d_Uni_firstEntry_36 rfl ?_
        refine ZE.icmp_gt (tgt := 84) d_Uni_firstEntry_39 rfl (by unfold zR; omega) (by unfold zR; omega) (fun c39 => ?_) (fun c39 => ?_)
        · refine ZE.iconst (n := (-1)) d_Uni_firstEntry_84 ?_
          refine ZE.iret d_Uni_firstEntry_85 rfl ?_
          rw [hfs, show 200 - j = 0 by omega] at k
          exact k
        · refine ZE.lload d_Uni_firstEntry_42 rfl ?_
          refine ZE.lconst d_Uni_firstEntry_44 ?_
          show ZE (d + 2) M_Uni_firstEntry (gw G A) 45 [(2, u), (0, (p : Int)), (1, ((ux D % p : Nat) : Int)), (9, 0), (1, (enF ((ux D % p : Nat) : Int) ((uy D % p : Nat) : Int) (p : Int) j).1), (9, 0), (1, (enF ((ux D % p : Nat) : Int) ((uy D % p : Nat) : Int) (p : Int) j).2), (9, 0), (0, (j : Int) + 1), (9, 0), (9, 0)] [(1, 0), (1, (enF ((ux D % p : Nat) : Int) ((uy D % p : Nat) : Int) (p : Int) j).2)] _
          refine ZE.lcmp d_Uni_firstEntry_45 (by unfold zR64; omega) (by unfold zR64; omega) ?_
          refine ZE.if_ne (tgt := 52) d_Uni_firstEntry_46 rfl (zR_zcmp _ _) (fun c46 => ?_) (fun c46 => ?_)
          · replace c46 := (not_congr zcmp_eq).mp c46
            refine ZE.ldc2 (v := 2) d_Uni_firstEntry_52 k_Uni_110 ?_
            refine ZE.lload_n d_Uni_firstEntry_55 rfl ?_
            refine ZE.lmul d_Uni_firstEntry_56 ?_
            refine ZE.lload d_Uni_firstEntry_57 rfl ?_
            refine ZE.lmul d_Uni_firstEntry_59 ?_
            refine ZE.lload d_Uni_firstEntry_60 rfl ?_
            refine ZE.lsub d_Uni_firstEntry_62 ?_
            refine ZE.iload_n d_Uni_firstEntry_63 rfl ?_
            refine ZE.i2l d_Uni_firstEntry_64 (by unfold zR; omega) ?_
            refine ZE.cS [(1, ((2 * ((ux D % p : Nat) : Int)) * ((enF ((ux D % p : Nat) : Int) ((uy D % p : Nat) : Int) (p : Int) j).2)) - ((enF ((ux D % p : Nat) : Int) ((uy D % p : Nat) : Int) (p : Int) j).1)), (1, (p : Int))] [] [(1, ((2 * ((ux D % p : Nat) : Int)) * ((enF ((ux D % p : Nat) : Int) ((uy D % p : Nat) : Int) (p : Int) j).2)) - ((enF ((ux D % p : Nat) : Int) ((uy D % p : Nat) : Int) (p : Int) j).1)), (9, 0), (1, (p : Int)), (9, 0), (9, 0), (9, 0)] d_Uni_firstEntry_65 l_Uni_112 rfl rfl rfl rfl rfl rfl ?_
            refine j_floorModJ (by unfold zR64; omega) (by omega) (by omega) ?_
            show ZE (d + 2) M_Uni_firstEntry (gw G A) 68 [(2, u), (0, (p : Int)), (1, ((ux D % p : Nat) : Int)), (9, 0), (1, (enF ((ux D % p : Nat) : Int) ((uy D % p : Nat) : Int) (p : Int) j).1), (9, 0), (1, (enF ((ux D % p : Nat) : Int) ((uy D % p : Nat) : Int) (p : Int) j).2), (9, 0), (0, (j : Int) + 1), (9, 0), (9, 0)] [(1, (enF ((ux D % p : Nat) : Int) ((uy D % p : Nat) : Int) (p : Int) (j + 1)).2)] _
            refine ZE.lstore (ls2 := [(2, u), (0, (p : Int)), (1, ((ux D % p : Nat) : Int)), (9, 0), (1, (enF ((ux D % p : Nat) : Int) ((uy D % p : Nat) : Int) (p : Int) j).1), (9, 0), (1, (enF ((ux D % p : Nat) : Int) ((uy D % p : Nat) : Int) (p : Int) j).2), (9, 0), (0, (j : Int) + 1), (1, (enF ((ux D % p : Nat) : Int) ((uy D % p : Nat) : Int) (p : Int) (j + 1)).2), (9, 0)]) d_Uni_firstEntry_68 (Nat.le_of_ble_eq_true rfl) rfl ?_
            refine ZE.lload d_Uni_firstEntry_70 rfl ?_
            refine ZE.lstore (ls2 := [(2, u), (0, (p : Int)), (1, ((ux D % p : Nat) : Int)), (9, 0), (1, (enF ((ux D % p : Nat) : Int) ((uy D % p : Nat) : Int) (p : Int) j).2), (9, 0), (1, (enF ((ux D % p : Nat) : Int) ((uy D % p : Nat) : Int) (p : Int) j).2), (9, 0), (0, (j : Int) + 1), (1, (enF ((ux D % p : Nat) : Int) ((uy D % p : Nat) : Int) (p : Int) (j + 1)).2), (9, 0)]) d_Uni_firstEntry_72 (Nat.le_of_ble_eq_true rfl) rfl ?_
            refine ZE.lload d_Uni_firstEntry_74 rfl ?_
            refine ZE.lstore (ls2 := [(2, u), (0, (p : Int)), (1, ((ux D % p : Nat) : Int)), (9, 0), (1, (enF ((ux D % p : Nat) : Int) ((uy D % p : Nat) : Int) (p : Int) j).2), (9, 0), (1, (enF ((ux D % p : Nat) : Int) ((uy D % p : Nat) : Int) (p : Int) (j + 1)).2), (9, 0), (0, (j : Int) + 1), (1, (enF ((ux D % p : Nat) : Int) ((uy D % p : Nat) : Int) (p : Int) (j + 1)).2), (9, 0)]) d_Uni_firstEntry_76 (Nat.le_of_ble_eq_true rfl) rfl ?_
            refine ZE.iinc (ls2 := [(2, u), (0, (p : Int)), (1, ((ux D % p : Nat) : Int)), (9, 0), (1, (enF ((ux D % p : Nat) : Int) ((uy D % p : Nat) : Int) (p : Int) j).2), (9, 0), (1, (enF ((ux D % p : Nat) : Int) ((uy D % p : Nat) : Int) (p : Int) (j + 1)).2), (9, 0), (0, ((j : Int) + 1) + 1), (1, (enF ((ux D % p : Nat) : Int) ((uy D % p : Nat) : Int) (p : Int) (j + 1)).2), (9, 0)]) d_Uni_firstEntry_78 rfl rfl ?_
            refine ZE.goto (tgt := 34) d_Uni_firstEntry_81 rfl ?_
            refine ZE.mask [true, true, true, true, true, true, true, true, true, false, true] ?_
            show ZE (d + 2) M_Uni_firstEntry (gw G A) 34 [(2, u), (0, (p : Int)), (1, ((ux D % p : Nat) : Int)), (9, 0), (1, (enF ((ux D % p : Nat) : Int) ((uy D % p : Nat) : Int) (p : Int) j).2), (9, 0), (1, (enF ((ux D % p : Nat) : Int) ((uy D % p : Nat) : Int) (p : Int) (j + 1)).2), (9, 0), (0, ((j : Int) + 1) + 1), (9, 0), (9, 0)] [] _
            rw [show (j : Int) + 1 + 1 = ((j + 1 : Nat) : Int) + 1 by omega]
            exact ih (j + 1) (by omega) (by rw [hfs, fsA_go (by rw [decide_eq_true_iff]; exact c46) (by omega), show 200 - j - 1 = 200 - (j + 1) by omega]) (by omega)
          · replace c46 := zcmp_eq.mp c46
            refine ZE.iload d_Uni_firstEntry_49 rfl ?_
            refine ZE.iret d_Uni_firstEntry_51 rfl ?_
            have hst : fsA (fun i => decide ((enF ((ux D % p : Nat) : Int) ((uy D % p : Nat) : Int) (p : Int) (i - 1)).2 = 0)) (j + 1) (200 - j) = ((j + 1 : Nat) : Int) := fsA_stop (by rw [decide_eq_true_iff]; show (enF ((ux D % p : Nat) : Int) ((uy D % p : Nat) : Int) (p : Int) (j + 1 - 1)).2 = 0; rw [Nat.add_sub_cancel]; omega) (by omega)
            rw [hfs, hst] at k
            exact k
    exact L34 _ 0 (by omega) rfl (Nat.lt_succ_self _)
  · exact absurd c2 (by omega)
