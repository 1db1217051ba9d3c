def xK (G : zG) (t : Int) (cap : Nat) : Prop := gk G t = 18 ∧ gk G (t + 1) = 2 ∧ gn G (t + 1) = (cap : Int) ∧ 0 ≤ t ∧ 1 ≤ cap ∧ cap ≤ 3000
def xN (A : Int → Int → Int) (t : Int) (tl : Nat) (tf : Nat → Int) : Prop := A t 0 = t + 1 ∧ A t 1 = (tl : Int) ∧ ∀ k : Nat, k < tl → A (t + 1) k = tf k
def xL (A : Int → Int → Int) (t : Int) (L : List Nat) : Prop := xN A t L.length (fun k => (L.getD k 0 : Int))
theorem xN.add {A : Int → Int → Int} {t : Int} {tl : Nat} {tf : Nat → Int} {w : Int} (h : xN A t tl tf) : xN (up2 (up2 A (t + 1) (tl : Int) w) t 1 ((tl : Int) + 1)) t (tl + 1) (ap1 tf tl w) := by
  refine ⟨by rw [up2_ne _ _ (by omega), up2_ne _ _ (by omega)]; exact h.1, by rw [up2_at]; omega, fun k hk => ?_⟩
  unfold ap1
  rw [up2_ne _ _ (by omega)]
  by_cases e : k = tl
  · subst e; rw [up2_at, if_pos rfl]
  · rw [up2_ne _ _ (by omega), if_neg e]; exact h.2.2 k (by omega)
theorem xN.cut {A : Int → Int → Int} {t : Int} {tl n : Nat} {tf : Nat → Int} (h : xN A t tl tf) (hn : n ≤ tl) : xN (up2 A t 1 (n : Int)) t n tf := ⟨by rw [up2_ne _ _ (by omega)]; exact h.1, up2_at _ _ _ _, fun k hk => by rw [up2_ne _ _ (by omega)]; exact h.2.2 k (by omega)⟩
theorem xN.fr {A C : Int → Int → Int} {b t : Int} {tl : Nat} {tf : Nat → Int} (h : xN A t tl tf) (g : bF A C b) (h1 : t ≠ b ∧ t ≠ b + 1 ∧ t + 1 ≠ b ∧ t + 1 ≠ b + 1) : xN C t tl tf := by
  have e1 : C t = A t := g t h1.1 h1.2.1
  have e2 : C (t + 1) = A (t + 1) := g (t + 1) h1.2.2.1 h1.2.2.2
  unfold xN
  rw [e1, e2]
  exact h
theorem xL.add {A B : Int → Int → Int} {t : Int} {L : List Nat} {c : Nat} (h : xN B t (L.length + 1) (ap1 (fun k => (L.getD k 0 : Int)) L.length (c : Int))) : xL B t (L ++ [c]) := by
  refine ⟨h.1, by rw [h.2.1, List.length_append]; rfl, fun k hk => ?_⟩
  rw [List.length_append] at hk
  have hk2 : k < L.length + 1 := hk
  rw [h.2.2 k hk2]
  unfold ap1
  show (if k = L.length then (c : Int) else (L.getD k 0 : Int)) = ((L ++ [c]).getD k 0 : Int)
  by_cases e : k = L.length
  · subst e
    rw [if_pos rfl, List.getD_eq_getElem?_getD, List.getElem?_append_right (Nat.le_refl _), Nat.sub_self]
    rfl
  · rw [if_neg e, List.getD_eq_getElem?_getD (l := L ++ [c]), List.getElem?_append_left (by omega), ← List.getD_eq_getElem?_getD]
theorem z255 : ∀ n, n < 256 → zand ((n : Nat) - 128 : Int) 255 = ((n : Nat) - 128 : Int) % 256 := by decide +kernel
theorem z255i {x1 : Int} (h : -128 ≤ x1 ∧ x1 ≤ 127) : zand x1 255 = x1 % 256 := by
  have h1 := z255 (x1 + 128).toNat (by omega)
  rw [show (((x1 + 128).toNat : Nat) : Int) - 128 = x1 by omega] at h1
  exact h1
def bA (tl : Nat) (tf : Nat → Int) (k : Int) : Int := if 0 ≤ k ∧ k < (tl : Int) then tf k.toNat % 256 else -1
theorem bA_R {tl : Nat} {tf : Nat → Int} (k : Int) : -1 ≤ bA tl tf k ∧ bA tl tf k ≤ 255 := by
  unfold bA
  split <;> omega
theorem bA_y {tl k : Nat} {tf : Nat → Int} (h : k < tl) : bA tl tf (k : Int) = tf k % 256 := by
  unfold bA
  rw [if_pos (by omega), Int.toNat_natCast]
theorem sq_no {r vn : Nat} (h1 : r * r ≤ vn) (h2 : vn < (r + 1) * (r + 1)) (h : ¬ r * r = vn) : ¬ ∃ q : Nat, (q : Int) * q = (vn : Int) := by
  rintro ⟨q, h3⟩
  rw [← Int.natCast_mul] at h3
  have h4 : q * q = vn := by omega
  rcases Nat.lt_trichotomy q r with h5 | h5 | h5
  · have h6 : q * q < r * r := Nat.mul_self_lt_mul_self h5
    omega
  · subst h5; exact h h4
  · have h6 := Nat.mul_le_mul (show r + 1 ≤ q by omega) (show r + 1 ≤ q by omega)
    omega
set_option maxRecDepth 20000 in
set_option maxHeartbeats 4000000 in
theorem p_rootNeg {d : Nat} {G : zG} {A : Int → Int → Int} {P : Option zV → zG → Prop} {n : Int} (hn : -9223372036854775808 ≤ n ∧ n < 0) (k : P (some (1, 0)) (gw G A)) : ZE d M_Pri_rootOf (gw G A) 0 [(1, n), (9, 0), (9, 0), (9, 0), (9, 0), (9, 0)] [] P := by
  refine ZE.lconst d_Pri_rootOf_0 ?_
  show ZE d M_Pri_rootOf (gw G A) 1 [(1, n), (9, 0), (9, 0), (9, 0), (9, 0), (9, 0)] [(1, 0)] _
  refine ZE.lstore_n (ls2 := [(1, n), (9, 0), (1, 0), (9, 0), (9, 0), (9, 0)]) d_Pri_rootOf_1 (Nat.le_of_ble_eq_true rfl) rfl ?_
  refine ZE.ldc2 (v := 1073741824) d_Pri_rootOf_2 k_Pri_39 ?_
  refine ZE.lstore (ls2 := [(1, n), (9, 0), (1, 0), (9, 0), (1, 1073741824), (9, 0)]) d_Pri_rootOf_5 (Nat.le_of_ble_eq_true rfl) rfl ?_
  have L7 : ∀ (tt0 : Nat) (k0 : Nat) (bt : Nat) (hbt : bt = 2 ^ k0 / 2) (hk : k0 ≤ 31), k0 < tt0 → ZE d M_Pri_rootOf (gw G A) 7 [(1, n), (9, 0), (1, 0), (9, 0), (1, (bt : Int)), (9, 0)] [] P := by
    intro tt0
    induction tt0 with
    | zero => intro k0 bt hbt hk hm; exact absurd hm (Nat.not_lt_zero _)
    | succ tt0 ih =>
      intro k0 bt hbt hk hm
      rcases Nat.eq_zero_or_pos k0 with hk0 | hk0
      · subst hk0
        have hb0 : bt = 0 := hbt
        refine ZE.lload d_Pri_rootOf_7 rfl ?_
        refine ZE.lconst d_Pri_rootOf_9 ?_
        show ZE d M_Pri_rootOf (gw G A) 10 [(1, n), (9, 0), (1, 0), (9, 0), (1, (bt : Int)), (9, 0)] [(1, 0), (1, (bt : Int))] _
        refine ZE.lcmp d_Pri_rootOf_10 (by unfold zR64; omega) (by unfold zR64; omega) ?_
        refine ZE.if_le (tgt := 42) d_Pri_rootOf_11 rfl (zR_zcmp _ _) (fun c11 => ?_) (fun c11 => ?_)
        · replace c11 := zcmp_le.mp c11
          refine ZE.lload_n d_Pri_rootOf_42 rfl ?_
          refine ZE.lret d_Pri_rootOf_43 rfl ?_
          exact k
        · exact absurd (zcmp_le.mpr (by omega)) c11
      · obtain ⟨k1, rfl⟩ : ∃ k1, k0 = k1 + 1 := ⟨k0 - 1, by omega⟩
        have hbt2 : bt = 2 ^ k1 := by rw [hbt, Nat.pow_succ, Nat.mul_div_cancel _ (by omega)]
        have hp30 : bt ≤ 1073741824 := by rw [hbt2]; exact Nat.pow_le_pow_right (n := 2) (by omega) (show k1 ≤ 30 by omega)
        have hp1 : 0 < bt := by rw [hbt2]; exact Nat.two_pow_pos _
        have hsh : zlshr (bt : Int) 1 = ((2 ^ k1 / 2 : Nat) : Int) := by rw [hbt2]; exact zlshr_tab k1 (by omega)
        have hsq : bt * bt ≤ 1073741824 * 1073741824 := Nat.mul_le_mul (by omega) (by omega)
        refine ZE.lload d_Pri_rootOf_7 rfl ?_
        refine ZE.lconst d_Pri_rootOf_9 ?_
        show ZE d M_Pri_rootOf (gw G A) 10 [(1, n), (9, 0), (1, 0), (9, 0), (1, (bt : Int)), (9, 0)] [(1, 0), (1, (bt : Int))] _
        refine ZE.lcmp d_Pri_rootOf_10 (by unfold zR64; omega) (by unfold zR64; omega) ?_
        refine ZE.if_le (tgt := 42) d_Pri_rootOf_11 rfl (zR_zcmp _ _) (fun c11 => ?_) (fun c11 => ?_)
        · exact absurd (zcmp_le.mp c11) (by omega)
        · replace c11 := (not_congr zcmp_le).mp c11
          refine ZE.lload_n d_Pri_rootOf_14 rfl ?_
          refine ZE.lload d_Pri_rootOf_15 rfl ?_
          refine ZE.lor d_Pri_rootOf_17 ?_
          rw [show (zlor 0 (bt : Int) : Int) = (bt : Int) from (by have := zlor_nat (a := 0) (b := bt) (by omega) (by omega); rw [Nat.zero_or] at this; exact this)]
          refine ZE.lload_n d_Pri_rootOf_18 rfl ?_
          refine ZE.lload d_Pri_rootOf_19 rfl ?_
          refine ZE.lor d_Pri_rootOf_21 ?_
          rw [show (zlor 0 (bt : Int) : Int) = (bt : Int) from (by have := zlor_nat (a := 0) (b := bt) (by omega) (by omega); rw [Nat.zero_or] at this; exact this)]
          refine ZE.lmul d_Pri_rootOf_22 ?_
          rw [show ((bt : Int) * (bt : Int) : Int) = ((bt * bt : Nat) : Int) from (Int.natCast_mul _ _).symm]
          refine ZE.lload_n d_Pri_rootOf_23 rfl ?_
          refine ZE.lcmp d_Pri_rootOf_24 (by unfold zR64; omega) (by unfold zR64; omega) ?_
          refine ZE.if_gt (tgt := 33) d_Pri_rootOf_25 rfl (zR_zcmp _ _) (fun c25 => ?_) (fun c25 => ?_)
          · replace c25 := zcmp_gt.mp c25
            refine ZE.lload d_Pri_rootOf_33 rfl ?_
            refine ZE.iconst (n := 1) d_Pri_rootOf_35 ?_
            refine ZE.lshr d_Pri_rootOf_36 ?_
            refine ZE.lstore (ls2 := [(1, n), (9, 0), (1, 0), (9, 0), (1, zlshr (bt : Int) 1), (9, 0)]) d_Pri_rootOf_37 (Nat.le_of_ble_eq_true rfl) rfl ?_
            refine ZE.goto (tgt := 7) d_Pri_rootOf_39 rfl ?_
            rw [hsh]
            exact ih k1 _ rfl (by omega) (by omega)
          · exact absurd (zcmp_gt.mpr (by omega)) c25
  exact L7 _ 31 1073741824 (by decide) (by omega) (Nat.lt_succ_self _)
set_option maxRecDepth 20000 in
theorem p_isSquare {d : Nat} {G : zG} {A : Int → Int → Int} {P : Option zV → zG → Prop} {v : Int} (hv : -1000000 ≤ v ∧ v < 4611686018427387904) (k : P (some (0, b2i (∃ r : Nat, (r : Int) * r = v))) (gw G A)) : ZE (d + 1) M_Pri_isSquare (gw G A) 0 [(1, v), (9, 0), (9, 0), (9, 0)] [] P := by
  by_cases hng : v < 0
  · skip
    refine ZE.lload_n d_Pri_isSquare_0 rfl ?_
    refine ZE.cS [(1, v)] [] [(1, v), (9, 0), (9, 0), (9, 0), (9, 0), (9, 0)] d_Pri_isSquare_1 l_Pri_41 rfl rfl rfl rfl rfl rfl ?_
    refine p_rootNeg (n := v) (by omega) ?_
    show ZE (d + 1) M_Pri_isSquare (gw G A) 4 [(1, v), (9, 0), (9, 0), (9, 0)] [(1, 0)] _
    refine ZE.lstore_n (ls2 := [(1, v), (9, 0), (1, 0), (9, 0)]) d_Pri_isSquare_4 (Nat.le_of_ble_eq_true rfl) rfl ?_
    refine ZE.lload_n d_Pri_isSquare_5 rfl ?_
    refine ZE.lload_n d_Pri_isSquare_6 rfl ?_
    refine ZE.lmul d_Pri_isSquare_7 ?_
    refine ZE.lload_n d_Pri_isSquare_8 rfl ?_
    refine ZE.lcmp d_Pri_isSquare_9 (by unfold zR64; omega) (by unfold zR64; omega) ?_
    refine ZE.if_ne (tgt := 17) d_Pri_isSquare_10 rfl (zR_zcmp _ _) (fun c10 => ?_) (fun c10 => ?_)
    · replace c10 := (not_congr zcmp_eq).mp c10
      refine ZE.iconst (n := 0) d_Pri_isSquare_17 ?_
      refine ZE.zret d_Pri_isSquare_18 rfl (by omega) ?_
      rw [b2i_f (by rintro ⟨r, h⟩; have h2 : (0 : Int) ≤ (r : Int) * r := Int.mul_nonneg (by omega) (by omega); omega)] at k
      exact k
    · exact absurd (zcmp_eq.mp c10) (by omega)
  · obtain ⟨vn, hvn⟩ : ∃ vn : Nat, v = vn := ⟨v.toNat, by omega⟩
    subst hvn
    refine ZE.lload_n d_Pri_isSquare_0 rfl ?_
    refine ZE.cS [(1, (vn : Int))] [] [(1, (vn : Int)), (9, 0), (9, 0), (9, 0), (9, 0), (9, 0)] d_Pri_isSquare_1 l_Pri_41 rfl rfl rfl rfl rfl rfl ?_
    refine p_rootOf (n := vn) (by omega) (fun r hr1 hr2 hr3 => ?_)
    show ZE (d + 1) M_Pri_isSquare (gw G A) 4 [(1, (vn : Int)), (9, 0), (9, 0), (9, 0)] [(1, (r : Int))] _
    refine ZE.lstore_n (ls2 := [(1, (vn : Int)), (9, 0), (1, (r : Int)), (9, 0)]) d_Pri_isSquare_4 (Nat.le_of_ble_eq_true rfl) rfl ?_
    refine ZE.lload_n d_Pri_isSquare_5 rfl ?_
    refine ZE.lload_n d_Pri_isSquare_6 rfl ?_
    refine ZE.lmul d_Pri_isSquare_7 ?_
    rw [show ((r : Int) * (r : Int) : Int) = ((r * r : Nat) : Int) from (Int.natCast_mul _ _).symm]
    refine ZE.lload_n d_Pri_isSquare_8 rfl ?_
    refine ZE.lcmp d_Pri_isSquare_9 (by unfold zR64; omega) (by unfold zR64; omega) ?_
    refine ZE.if_ne (tgt := 17) d_Pri_isSquare_10 rfl (zR_zcmp _ _) (fun c10 => ?_) (fun c10 => ?_)
    · replace c10 := (not_congr zcmp_eq).mp c10
      refine ZE.iconst (n := 0) d_Pri_isSquare_17 ?_
      refine ZE.zret d_Pri_isSquare_18 rfl (by omega) ?_
      rw [b2i_f (sq_no hr1 hr2 (by omega))] at k
      exact k
    · replace c10 := zcmp_eq.mp c10
      refine ZE.iconst (n := 1) d_Pri_isSquare_13 ?_
      refine ZE.goto (tgt := 18) d_Pri_isSquare_14 rfl ?_
      refine ZE.zret d_Pri_isSquare_18 rfl (by omega) ?_
      rw [b2i_t ⟨r, by rw [← Int.natCast_mul]; omega⟩] at k
      exact k
set_option maxRecDepth 20000 in
set_option maxHeartbeats 4000000 in
theorem t_hasRoomFor {d : Nat} {G : zG} {A : Int → Int → Int} {P : Option zV → zG → Prop}  {t : Int} {cap : Nat} (hT : xK G t cap) {tl : Nat} {tf : Nat → Int} (h : xN A t tl tf) (hl : tl ≤ cap) (k : P (some (0, b2i (tl + 20 ≤ cap))) (gw G A)) : ZE d M_Tex_hasRoomFor (gw G A) 0 [(2, t), (0, 20)] [] P := by
  have hcp := hT.2.2.2.2.2
  refine ZE.aload_n d_Tex_hasRoomFor_0 rfl ?_
  refine ZE.getE (v := (tl : Int)) d_Tex_hasRoomFor_1 f_Tex_15 (tg := 0) rfl hT.1 h.2.1 ?_
  refine ZE.aload_n d_Tex_hasRoomFor_4 rfl ?_
  refine ZE.getE (v := t + 1) d_Tex_hasRoomFor_5 f_Tex_9 (tg := 2) rfl hT.1 h.1 ?_
  refine ZE.alenE (v := (cap : Int)) d_Tex_hasRoomFor_8 (by have hk0 := hT.2.1; show 1 ≤ gk G (t + 1) ∧ gk G (t + 1) ≤ 6; omega) hT.2.2.1 ?_
  refine ZE.iload_n d_Tex_hasRoomFor_9 rfl ?_
  refine ZE.isub d_Tex_hasRoomFor_10 ?_
  refine ZE.icmp_gt (tgt := 18) d_Tex_hasRoomFor_11 rfl (by unfold zR; omega) (by unfold zR; omega) (fun c11 => ?_) (fun c11 => ?_)
  · refine ZE.iconst (n := 0) d_Tex_hasRoomFor_18 ?_
    refine ZE.zret d_Tex_hasRoomFor_19 rfl (by omega) ?_
    rw [b2i_f (by omega)] at k
    exact k
  · refine ZE.iconst (n := 1) d_Tex_hasRoomFor_14 ?_
    refine ZE.goto (tgt := 19) d_Tex_hasRoomFor_15 rfl ?_
    refine ZE.zret d_Tex_hasRoomFor_19 rfl (by omega) ?_
    rw [b2i_t (by omega)] at k
    exact k
set_option maxRecDepth 20000 in
set_option maxHeartbeats 4000000 in
theorem t_append {d : Nat} {G : zG} {A : Int → Int → Int} {P : Option zV → zG → Prop}  {t : Int} {cap : Nat} (hT : xK G t cap) {tl : Nat} {tf : Nat → Int} (h : xN A t tl tf) (hl : tl < cap) {v : Int} (k : ∀ B, bF A B t → xN B t (tl + 1) (ap1 tf tl (z8 v)) → P none (gw G B)) : ZE d M_Tex_append (gw G A) 0 [(2, t), (0, v)] [] P := by
  have hcp := hT.2.2.2.2.2
  refine ZE.aload_n d_Tex_append_0 rfl ?_
  refine ZE.getE (v := (tl : Int)) d_Tex_append_1 f_Tex_15 (tg := 0) rfl hT.1 h.2.1 ?_
  refine ZE.if_lt (tgt := 40) d_Tex_append_4 rfl (by unfold zR; omega) (fun c4 => ?_) (fun c4 => ?_)
  · exact absurd c4 (by omega)
  · refine ZE.aload_n d_Tex_append_7 rfl ?_
    refine ZE.getE (v := (tl : Int)) d_Tex_append_8 f_Tex_15 (tg := 0) rfl hT.1 h.2.1 ?_
    refine ZE.aload_n d_Tex_append_11 rfl ?_
    refine ZE.getE (v := t + 1) d_Tex_append_12 f_Tex_9 (tg := 2) rfl hT.1 h.1 ?_
    refine ZE.alenE (v := (cap : Int)) d_Tex_append_15 (by have hk0 := hT.2.1; show 1 ≤ gk G (t + 1) ∧ gk G (t + 1) ≤ 6; omega) hT.2.2.1 ?_
    refine ZE.icmp_ge (tgt := 40) d_Tex_append_16 rfl (by unfold zR; omega) (by unfold zR; omega) (fun c16 => ?_) (fun c16 => ?_)
    · exact absurd c16 (by omega)
    · refine ZE.aload_n d_Tex_append_19 rfl ?_
      refine ZE.getE (v := t + 1) d_Tex_append_20 f_Tex_9 (tg := 2) rfl hT.1 h.1 ?_
      refine ZE.aload_n d_Tex_append_23 rfl ?_
      refine ZE.getE (v := (tl : Int)) d_Tex_append_24 f_Tex_15 (tg := 0) rfl hT.1 h.2.1 ?_
      refine ZE.iload_n d_Tex_append_27 rfl ?_
      refine ZE.i2b d_Tex_append_28 ?_
      refine ZE.bast d_Tex_append_29 hT.2.1 (by have hn0 := hT.2.2.1; show 0 ≤ (tl : Int) ∧ (tl : Int) < gn G (t + 1); omega) ?_
      show ZE d M_Tex_append (gw G (up2 A (t + 1) (tl : Int) (z8 (z8 v)))) 30 [(2, t), (0, v)] [] _
      refine ZE.aload_n d_Tex_append_30 rfl ?_
      refine ZE.dup d_Tex_append_31 (Or.inr rfl) ?_
      refine ZE.getE (v := (tl : Int)) d_Tex_append_32 f_Tex_15 (tg := 0) rfl hT.1 ((up2_ne _ _ (by omega)).trans h.2.1) ?_
      refine ZE.iconst (n := 1) d_Tex_append_35 ?_
      refine ZE.iadd d_Tex_append_36 ?_
      refine ZE.put d_Tex_append_37 f_Tex_15 (tg := 0) rfl trivial (Or.inl ⟨_, _, _, rfl, rfl, rfl⟩) hT.1 ?_
      show ZE d M_Tex_append (gw G (up2 (up2 A (t + 1) (tl : Int) (z8 (z8 v))) t 1 ((tl : Int) + 1))) 40 [(2, t), (0, v)] [] _
      refine ZE.vret d_Tex_append_40 rfl ?_
      exact k _ (bF.row.tr bF.fld) (by have q := h.add (w := z8 v); rw [z8_i]; exact q)
set_option maxRecDepth 20000 in
set_option maxHeartbeats 4000000 in
theorem t_cutTo {d : Nat} {G : zG} {A : Int → Int → Int} {P : Option zV → zG → Prop}  {t : Int} {cap : Nat} (hT : xK G t cap) {tl : Nat} {tf : Nat → Int} (h : xN A t tl tf) {n : Int} (hn : zR n) (hl : tl ≤ cap) (k : ∀ B, bF A B t → xN B t (enT tl n) tf → P (some (0, b2i (0 ≤ n ∧ n ≤ (tl : Int)))) (gw G B)) : ZE d M_Tex_cutTo (gw G A) 0 [(2, t), (0, n)] [] P := by
  have hcp := hT.2.2.2.2.2
  refine ZE.iload_n d_Tex_cutTo_0 rfl ?_
  refine ZE.if_lt (tgt := 12) d_Tex_cutTo_1 rfl hn (fun c1 => ?_) (fun c1 => ?_)
  · refine ZE.iconst (n := 0) d_Tex_cutTo_12 ?_
    refine ZE.zret d_Tex_cutTo_13 rfl (by omega) ?_
    have k1 := k A bF.rf (by unfold enT; rw [if_neg (by omega)]; exact h)
    rw [b2i_f (by omega)] at k1
    exact k1
  · refine ZE.iload_n d_Tex_cutTo_4 rfl ?_
    refine ZE.aload_n d_Tex_cutTo_5 rfl ?_
    refine ZE.getE (v := (tl : Int)) d_Tex_cutTo_6 f_Tex_15 (tg := 0) rfl hT.1 h.2.1 ?_
    refine ZE.icmp_le (tgt := 14) d_Tex_cutTo_9 rfl hn (by unfold zR; omega) (fun c9 => ?_) (fun c9 => ?_)
    · refine ZE.aload_n d_Tex_cutTo_14 rfl ?_
      refine ZE.iload_n d_Tex_cutTo_15 rfl ?_
      refine ZE.put d_Tex_cutTo_16 f_Tex_15 (tg := 0) rfl trivial (Or.inl ⟨_, _, _, rfl, rfl, rfl⟩) hT.1 ?_
      show ZE d M_Tex_cutTo (gw G (up2 A t 1 n)) 19 [(2, t), (0, n)] [] _
      refine ZE.iconst (n := 1) d_Tex_cutTo_19 ?_
      refine ZE.zret d_Tex_cutTo_20 rfl (by omega) ?_
      have k1 := k (up2 A t 1 n) bF.fld (by unfold enT; rw [if_pos (by omega)]; have q := h.cut (n := n.toNat) (by omega); rw [show ((n.toNat : Nat) : Int) = n by omega] at q; exact q)
      rw [b2i_t (by omega)] at k1
      exact k1
    · refine ZE.iconst (n := 0) d_Tex_cutTo_12 ?_
      refine ZE.zret d_Tex_cutTo_13 rfl (by omega) ?_
      have k1 := k A bF.rf (by unfold enT; rw [if_neg (by omega)]; exact h)
      rw [b2i_f (by omega)] at k1
      exact k1
set_option maxRecDepth 20000 in
set_option maxHeartbeats 4000000 in
theorem t_byteAt {d : Nat} {G : zG} {A : Int → Int → Int} {P : Option zV → zG → Prop}  {t : Int} {cap : Nat} (hT : xK G t cap) {tl : Nat} {tf : Nat → Int} (h : xN A t tl tf) (htr : ∀ k, -128 ≤ tf k ∧ tf k ≤ 127) (hl : tl ≤ cap) {i : Int} (hi : zR i) (k : P (some (0, bA tl tf i)) (gw G A)) : ZE d M_Tex_byteAt (gw G A) 0 [(2, t), (0, i)] [] P := by
  have hcp := hT.2.2.2.2.2
  refine ZE.iload_n d_Tex_byteAt_0 rfl ?_
  refine ZE.if_lt (tgt := 34) d_Tex_byteAt_1 rfl hi (fun c1 => ?_) (fun c1 => ?_)
  · refine ZE.iconst (n := (-1)) d_Tex_byteAt_34 ?_
    refine ZE.iret d_Tex_byteAt_35 rfl ?_
    rw [show bA tl tf i = -1 from if_neg (by omega)] at k
    exact k
  · refine ZE.iload_n d_Tex_byteAt_4 rfl ?_
    refine ZE.aload_n d_Tex_byteAt_5 rfl ?_
    refine ZE.getE (v := (tl : Int)) d_Tex_byteAt_6 f_Tex_15 (tg := 0) rfl hT.1 h.2.1 ?_
    refine ZE.icmp_ge (tgt := 34) d_Tex_byteAt_9 rfl hi (by unfold zR; omega) (fun c9 => ?_) (fun c9 => ?_)
    · refine ZE.iconst (n := (-1)) d_Tex_byteAt_34 ?_
      refine ZE.iret d_Tex_byteAt_35 rfl ?_
      rw [show bA tl tf i = -1 from if_neg (by omega)] at k
      exact k
    · obtain ⟨kn, hkn⟩ : ∃ kn : Nat, i = kn := ⟨i.toNat, by omega⟩
      subst hkn
      refine ZE.iload_n d_Tex_byteAt_12 rfl ?_
      refine ZE.aload_n d_Tex_byteAt_13 rfl ?_
      refine ZE.getE (v := t + 1) d_Tex_byteAt_14 f_Tex_9 (tg := 2) rfl hT.1 h.1 ?_
      refine ZE.alenE (v := (cap : Int)) d_Tex_byteAt_17 (by have hk0 := hT.2.1; show 1 ≤ gk G (t + 1) ∧ gk G (t + 1) ≤ 6; omega) hT.2.2.1 ?_
      refine ZE.icmp_ge (tgt := 34) d_Tex_byteAt_18 rfl hi (by unfold zR; omega) (fun c18 => ?_) (fun c18 => ?_)
      · exact absurd c18 (by omega)
      · refine ZE.aload_n d_Tex_byteAt_21 rfl ?_
        refine ZE.getE (v := t + 1) d_Tex_byteAt_22 f_Tex_9 (tg := 2) rfl hT.1 h.1 ?_
        refine ZE.iload_n d_Tex_byteAt_25 rfl ?_
        refine ZE.baldE (v := tf kn) d_Tex_byteAt_26 hT.2.1 (by have hn0 := hT.2.2.1; show 0 ≤ (kn : Int) ∧ (kn : Int) < gn G (t + 1); omega) (h.2.2 kn (by omega)) ?_
        refine ZE.sipush (n := 255) d_Tex_byteAt_27 rfl ?_
        refine ZE.iand d_Tex_byteAt_30 ?_
        rw [show (zand (tf kn) 255 : Int) = tf kn % 256 from (z255i (htr kn))]
        refine ZE.goto (tgt := 35) d_Tex_byteAt_31 rfl ?_
        refine ZE.iret d_Tex_byteAt_35 rfl ?_
        rw [bA_y (by omega)] at k
        exact k
set_option maxRecDepth 20000 in
set_option maxHeartbeats 4000000 in
theorem t_isNumber {d : Nat} {G : zG} {A : Int → Int → Int} {P : Option zV → zG → Prop}  {t : Int} {cap : Nat} (hT : xK G t cap) {tl : Nat} {tf : Nat → Int} (h : xN A t tl tf) (htr : ∀ k, -128 ≤ tf k ∧ tf k ≤ 127) (hl : tl ≤ cap) (k : P (some (0, b2i (isnB tf tl = true))) (gw G A)) : ZE (d + 1) M_Tex_isNumber (gw G A) 0 [(2, t), (0, 300), (9, 0)] [] P := by
  have hcp := hT.2.2.2.2.2
  have ht0 := htr 0
  refine ZE.aload_n d_Tex_isNumber_0 rfl ?_
  refine ZE.getE (v := (tl : Int)) d_Tex_isNumber_1 f_Tex_15 (tg := 0) rfl hT.1 h.2.1 ?_
  refine ZE.iconst (n := 1) d_Tex_isNumber_4 ?_
  refine ZE.icmp_lt (tgt := 26) d_Tex_isNumber_5 rfl (by unfold zR; omega) (by unfold zR; omega) (fun c5 => ?_) (fun c5 => ?_)
  · refine ZE.iconst (n := 0) d_Tex_isNumber_26 ?_
    refine ZE.zret d_Tex_isNumber_27 rfl (by omega) ?_
    rw [b2i_f (show ¬ isnB tf tl = true from fun q => by unfold isnB at q; rw [Bool.and_eq_true] at q; have q := of_decide_eq_true q.1; omega)] at k
    exact k
  · refine ZE.aload_n d_Tex_isNumber_8 rfl ?_
    refine ZE.getE (v := (tl : Int)) d_Tex_isNumber_9 f_Tex_15 (tg := 0) rfl hT.1 h.2.1 ?_
    refine ZE.iload_n d_Tex_isNumber_12 rfl ?_
    refine ZE.icmp_gt (tgt := 26) d_Tex_isNumber_13 rfl (by unfold zR; omega) (by unfold zR; omega) (fun c13 => ?_) (fun c13 => ?_)
    · refine ZE.iconst (n := 0) d_Tex_isNumber_26 ?_
      refine ZE.zret d_Tex_isNumber_27 rfl (by omega) ?_
      rw [b2i_f (show ¬ isnB tf tl = true from fun q => by unfold isnB at q; rw [Bool.and_eq_true] at q; have q := of_decide_eq_true q.1; omega)] at k
      exact k
    · refine ZE.aload_n d_Tex_isNumber_16 rfl ?_
      refine ZE.iconst (n := 0) d_Tex_isNumber_17 ?_
      refine ZE.cV [(0, 0)] [] [(2, t), (0, 0)] d_Tex_isNumber_18 l_Tex_33 rfl rfl rfl rfl rfl rfl hT.1 ?_
      refine t_byteAt (i := ((0 : Nat) : Int)) hT h htr hl (by unfold zR; omega) ?_
      show ZE (d + 1) M_Tex_isNumber (gw G A) 21 [(2, t), (0, 300), (9, 0)] [(0, bA tl tf ((0 : Nat) : Int))] _
      rw [bA_y (by omega)]
      refine ZE.bipush (n := 48) d_Tex_isNumber_21 rfl ?_
      refine ZE.icmp_ne (tgt := 28) d_Tex_isNumber_23 rfl (by unfold zR; omega) (by unfold zR; omega) (fun c23 => ?_) (fun c23 => ?_)
      · have hok : 1 ≤ tl ∧ tl ≤ 300 ∧ tf 0 ≠ 48 := ⟨by omega, by omega, by omega⟩
        refine ZE.iconst (n := 0) d_Tex_isNumber_28 ?_
        refine ZE.istore_n (ls2 := [(2, t), (0, 300), (0, 0)]) d_Tex_isNumber_29 (Nat.le_of_ble_eq_true rfl) rfl ?_
        have L30 : ∀ (tt0 : Nat) (j : Nat) (hj : j ≤ tl) (hj2 : isnD tf j = true), tl - j < tt0 → ZE (d + 1) M_Tex_isNumber (gw G A) 30 [(2, t), (0, 300), (0, (j : Int))] [] P := by
          intro tt0
          induction tt0 with
          | zero => intro j hj hj2 hm; exact absurd hm (Nat.not_lt_zero _)
          | succ tt0 ih =>
            intro j hj hj2 hm
            have htj := htr j
            refine ZE.iload_n d_Tex_isNumber_30 rfl ?_
            refine ZE.aload_n d_Tex_isNumber_31 rfl ?_
            refine ZE.getE (v := (tl : Int)) d_Tex_isNumber_32 f_Tex_15 (tg := 0) rfl hT.1 h.2.1 ?_
            refine ZE.icmp_ge (tgt := 66) d_Tex_isNumber_35 rfl (by unfold zR; omega) (by unfold zR; omega) (fun c35 => ?_) (fun c35 => ?_)
            · refine ZE.iconst (n := 1) d_Tex_isNumber_66 ?_
              refine ZE.zret d_Tex_isNumber_67 rfl (by omega) ?_
              have e1 : j = tl := by omega
              rw [e1] at hj2
              rw [b2i_t (show isnB tf tl = true from by unfold isnB; rw [hj2, decide_eq_true hok]; rfl)] at k
              exact k
            · refine ZE.aload_n d_Tex_isNumber_38 rfl ?_
              refine ZE.iload_n d_Tex_isNumber_39 rfl ?_
              refine ZE.cV [(0, (j : Int))] [] [(2, t), (0, (j : Int))] d_Tex_isNumber_40 l_Tex_33 rfl rfl rfl rfl rfl rfl hT.1 ?_
              refine t_byteAt (i := (j : Int)) hT h htr hl (by unfold zR; omega) ?_
              show ZE (d + 1) M_Tex_isNumber (gw G A) 43 [(2, t), (0, 300), (0, (j : Int))] [(0, bA tl tf (j : Int))] _
              rw [bA_y (by omega)]
              refine ZE.bipush (n := 48) d_Tex_isNumber_43 rfl ?_
              refine ZE.icmp_lt (tgt := 58) d_Tex_isNumber_45 rfl (by unfold zR; omega) (by unfold zR; omega) (fun c45 => ?_) (fun c45 => ?_)
              · refine ZE.iconst (n := 0) d_Tex_isNumber_58 ?_
                refine ZE.zret d_Tex_isNumber_59 rfl (by omega) ?_
                rw [b2i_f (show ¬ isnB tf tl = true from by unfold isnB; rw [isnD_f (j := j) (by omega) tl (by omega), Bool.and_false]; decide)] at k
                exact k
              · refine ZE.aload_n d_Tex_isNumber_48 rfl ?_
                refine ZE.iload_n d_Tex_isNumber_49 rfl ?_
                refine ZE.cV [(0, (j : Int))] [] [(2, t), (0, (j : Int))] d_Tex_isNumber_50 l_Tex_33 rfl rfl rfl rfl rfl rfl hT.1 ?_
                refine t_byteAt (i := (j : Int)) hT h htr hl (by unfold zR; omega) ?_
                show ZE (d + 1) M_Tex_isNumber (gw G A) 53 [(2, t), (0, 300), (0, (j : Int))] [(0, bA tl tf (j : Int))] _
                rw [bA_y (by omega)]
                refine ZE.bipush (n := 57) d_Tex_isNumber_53 rfl ?_
                refine ZE.icmp_le (tgt := 60) d_Tex_isNumber_55 rfl (by unfold zR; omega) (by unfold zR; omega) (fun c55 => ?_) (fun c55 => ?_)
                · refine ZE.iinc (ls2 := [(2, t), (0, 300), (0, (j : Int) + 1)]) d_Tex_isNumber_60 rfl rfl ?_
                  refine ZE.goto (tgt := 30) d_Tex_isNumber_63 rfl ?_
                  rw [show (j : Int) + 1 = ((j + 1 : Nat) : Int) by omega]
                  refine ih (j + 1) (by omega) ?_ (by omega)
                  unfold isnD; rw [hj2, decide_eq_true (show 48 ≤ tf j ∧ tf j ≤ 57 by omega)]; rfl
                · refine ZE.iconst (n := 0) d_Tex_isNumber_58 ?_
                  refine ZE.zret d_Tex_isNumber_59 rfl (by omega) ?_
                  rw [b2i_f (show ¬ isnB tf tl = true from by unfold isnB; rw [isnD_f (j := j) (by omega) tl (by omega), Bool.and_false]; decide)] at k
                  exact k
        exact L30 _ 0 (by omega) rfl (Nat.lt_succ_self _)
      · refine ZE.iconst (n := 0) d_Tex_isNumber_26 ?_
        refine ZE.zret d_Tex_isNumber_27 rfl (by omega) ?_
        rw [b2i_f (show ¬ isnB tf tl = true from fun q => by unfold isnB at q; rw [Bool.and_eq_true] at q; have q := of_decide_eq_true q.1; omega)] at k
        exact k
set_option maxRecDepth 20000 in
set_option maxHeartbeats 4000000 in
theorem t_appendFour {d : Nat} {G : zG} {A : Int → Int → Int} {P : Option zV → zG → Prop}  {t : Int} {cap : Nat} (hT : xK G t cap) {tl : Nat} {tf : Nat → Int} (h : xN A t tl tf) (hl : tl + 4 ≤ cap) {v : Int} (k : ∀ B, bF A B t → xN B t (tl + 4) (ap4 tf tl v) → P none (gw G B)) : ZE (d + 1) M_Tex_appendFour (gw G A) 0 [(2, t), (0, v), (9, 0)] [] P := by
  refine ZE.bipush (n := 24) d_Tex_appendFour_0 rfl ?_
  refine ZE.istore_n (ls2 := [(2, t), (0, v), (0, 24)]) d_Tex_appendFour_2 (Nat.le_of_ble_eq_true rfl) rfl ?_
  refine ZE.iload_n d_Tex_appendFour_3 rfl ?_
  refine ZE.if_lt (tgt := 20) d_Tex_appendFour_4 rfl (by unfold zR; omega) (fun c4 => ?_) (fun c4 => ?_)
  · exact absurd c4 (by decide)
  · refine ZE.aload_n d_Tex_appendFour_7 rfl ?_
    refine ZE.iload_n d_Tex_appendFour_8 rfl ?_
    refine ZE.iload_n d_Tex_appendFour_9 rfl ?_
    refine ZE.ishr d_Tex_appendFour_10 ?_
    refine ZE.cV [(0, zshr v 24)] [] [(2, t), (0, zshr v 24)] d_Tex_appendFour_11 l_Tex_19 rfl rfl rfl rfl rfl rfl hT.1 ?_
    refine t_append (tl := tl) hT h (by omega) (fun B1 gb1 hb1 => ?_)
    show ZE (d + 1) M_Tex_appendFour (gw G B1) 14 [(2, t), (0, v), (0, 24)] [] _
    refine ZE.iinc (ls2 := [(2, t), (0, v), (0, 16)]) d_Tex_appendFour_14 rfl rfl ?_
    refine ZE.goto (tgt := 3) d_Tex_appendFour_17 rfl ?_
    refine ZE.iload_n d_Tex_appendFour_3 rfl ?_
    refine ZE.if_lt (tgt := 20) d_Tex_appendFour_4 rfl (by unfold zR; omega) (fun c4 => ?_) (fun c4 => ?_)
    · exact absurd c4 (by decide)
    · refine ZE.aload_n d_Tex_appendFour_7 rfl ?_
      refine ZE.iload_n d_Tex_appendFour_8 rfl ?_
      refine ZE.iload_n d_Tex_appendFour_9 rfl ?_
      refine ZE.ishr d_Tex_appendFour_10 ?_
      refine ZE.cV [(0, zshr v 16)] [] [(2, t), (0, zshr v 16)] d_Tex_appendFour_11 l_Tex_19 rfl rfl rfl rfl rfl rfl hT.1 ?_
      refine t_append (tl := tl + 1) hT hb1 (by omega) (fun B2 gb2 hb2 => ?_)
      show ZE (d + 1) M_Tex_appendFour (gw G B2) 14 [(2, t), (0, v), (0, 16)] [] _
      refine ZE.iinc (ls2 := [(2, t), (0, v), (0, 8)]) d_Tex_appendFour_14 rfl rfl ?_
      refine ZE.goto (tgt := 3) d_Tex_appendFour_17 rfl ?_
      refine ZE.iload_n d_Tex_appendFour_3 rfl ?_
      refine ZE.if_lt (tgt := 20) d_Tex_appendFour_4 rfl (by unfold zR; omega) (fun c4 => ?_) (fun c4 => ?_)
      · exact absurd c4 (by decide)
      · refine ZE.aload_n d_Tex_appendFour_7 rfl ?_
        refine ZE.iload_n d_Tex_appendFour_8 rfl ?_
        refine ZE.iload_n d_Tex_appendFour_9 rfl ?_
        refine ZE.ishr d_Tex_appendFour_10 ?_
        refine ZE.cV [(0, zshr v 8)] [] [(2, t), (0, zshr v 8)] d_Tex_appendFour_11 l_Tex_19 rfl rfl rfl rfl rfl rfl hT.1 ?_
        refine t_append (tl := tl + 2) hT hb2 (by omega) (fun B3 gb3 hb3 => ?_)
        show ZE (d + 1) M_Tex_appendFour (gw G B3) 14 [(2, t), (0, v), (0, 8)] [] _
        refine ZE.iinc (ls2 := [(2, t), (0, v), (0, 0)]) d_Tex_appendFour_14 rfl rfl ?_
        refine ZE.goto (tgt := 3) d_Tex_appendFour_17 rfl ?_
        refine ZE.iload_n d_Tex_appendFour_3 rfl ?_
        refine ZE.if_lt (tgt := 20) d_Tex_appendFour_4 rfl (by unfold zR; omega) (fun c4 => ?_) (fun c4 => ?_)
        · exact absurd c4 (by decide)
        · refine ZE.aload_n d_Tex_appendFour_7 rfl ?_
          refine ZE.iload_n d_Tex_appendFour_8 rfl ?_
          refine ZE.iload_n d_Tex_appendFour_9 rfl ?_
          refine ZE.ishr d_Tex_appendFour_10 ?_
          refine ZE.cV [(0, zshr v 0)] [] [(2, t), (0, zshr v 0)] d_Tex_appendFour_11 l_Tex_19 rfl rfl rfl rfl rfl rfl hT.1 ?_
          refine t_append (tl := tl + 3) hT hb3 (by omega) (fun B4 gb4 hb4 => ?_)
          show ZE (d + 1) M_Tex_appendFour (gw G B4) 14 [(2, t), (0, v), (0, 0)] [] _
          refine ZE.iinc (ls2 := [(2, t), (0, v), (0, -8)]) d_Tex_appendFour_14 rfl rfl ?_
          refine ZE.goto (tgt := 3) d_Tex_appendFour_17 rfl ?_
          refine ZE.iload_n d_Tex_appendFour_3 rfl ?_
          refine ZE.if_lt (tgt := 20) d_Tex_appendFour_4 rfl (by unfold zR; omega) (fun c4 => ?_) (fun c4 => ?_)
          · refine ZE.vret d_Tex_appendFour_20 rfl ?_
            exact k B4 (((gb1.tr gb2).tr gb3).tr gb4) hb4
          · exact absurd c4 (by decide)
set_option maxRecDepth 20000 in
set_option maxHeartbeats 4000000 in
theorem t_appendBig {d : Nat} {G : zG} {A : Int → Int → Int} {P : Option zV → zG → Prop}  {t : Int} {cap : Nat} (hT : xK G t cap) {L : List Nat} (h : xL A t L) {b : Int} {capb : Nat} (hB : bK G b capb) {v : Nat} (hv : bN A b v) (h9 : nd 1000000000 v ≤ capb) (hl : L.length + dl v ≤ cap) (hne : b ≠ t ∧ b ≠ t + 1 ∧ b + 1 ≠ t) (k : ∀ B, bF A B t → xL B t (L ++ ptN v) → P none (gw G B)) : ZE (d + 3) M_Tex_appendBig (gw G A) 0 [(2, t), (2, b), (9, 0)] [] P := by
  have hcp := hT.2.2.2.2.2
  refine ZE.aload_n d_Tex_appendBig_0 rfl ?_
  refine ZE.cV [] [] [(2, b), (9, 0), (9, 0)] d_Tex_appendBig_1 l_Tex_23 rfl rfl rfl rfl rfl rfl hB.1 ?_
  refine B_digits hB hv h9 ?_
  show ZE (d + 3) M_Tex_appendBig (gw G A) 4 [(2, t), (2, b), (9, 0)] [(0, (dl v : Int))] _
  refine ZE.iconst (n := 1) d_Tex_appendBig_4 ?_
  refine ZE.isub d_Tex_appendBig_5 ?_
  refine ZE.istore_n (ls2 := [(2, t), (2, b), (0, (dl v : Int) - 1)]) d_Tex_appendBig_6 (Nat.le_of_ble_eq_true rfl) rfl ?_
  have L7 : ∀ (tt0 : Nat) (j : Nat) (B : Int → Int → Int) (M : List Nat) (hj : j ≤ dl v) (gB : bF A B t) (hM : xL B t M) (hLM : M ++ dgs v j = L ++ ptN v), j < tt0 → ZE (d + 3) M_Tex_appendBig (gw G B) 7 [(2, t), (2, b), (0, (j : Int) - 1)] [] P := by
    intro tt0
    induction tt0 with
    | zero => intro j B M hj gB hM hLM hm; exact absurd hm (Nat.not_lt_zero _)
    | succ tt0 ih =>
      intro j B M hj gB hM hLM hm
      rcases Nat.eq_zero_or_pos j with hj0 | hj0
      · subst hj0
        refine ZE.iload_n d_Tex_appendBig_7 rfl ?_
        refine ZE.if_lt (tgt := 29) d_Tex_appendBig_8 rfl (by unfold zR; omega) (fun c8 => ?_) (fun c8 => ?_)
        · refine ZE.vret d_Tex_appendBig_29 rfl ?_
          have q : M = L ++ ptN v := by rw [← hLM]; exact (List.append_nil M).symm
          rw [q] at hM
          exact k B gB hM
        · exact absurd c8 (by omega)
      · obtain ⟨i, rfl⟩ : ∃ i, j = i + 1 := ⟨j - 1, by omega⟩
        rw [show ((i + 1 : Nat) : Int) - 1 = (i : Int) by omega]
        have hdi := dg_lt (b := 10) (by omega) v i
        have hlen : M.length + (i + 1) = L.length + dl v := by have q := congrArg List.length hLM; rw [List.length_append, List.length_append, dgs_len, ptN_len] at q; exact q
        have hvB : bN B b v := hv.fr gB (by omega)
        refine ZE.iload_n d_Tex_appendBig_7 rfl ?_
        refine ZE.if_lt (tgt := 29) d_Tex_appendBig_8 rfl (by unfold zR; omega) (fun c8 => ?_) (fun c8 => ?_)
        · exact absurd c8 (by omega)
        · refine ZE.aload_n d_Tex_appendBig_11 rfl ?_
          refine ZE.bipush (n := 48) d_Tex_appendBig_12 rfl ?_
          refine ZE.aload_n d_Tex_appendBig_14 rfl ?_
          refine ZE.iload_n d_Tex_appendBig_15 rfl ?_
          refine ZE.cV [(0, (i : Int))] [(0, 48), (2, t)] [(2, b), (0, (i : Int)), (9, 0), (9, 0)] d_Tex_appendBig_16 l_Tex_29 rfl rfl rfl rfl rfl rfl hB.1 ?_
          refine B_digitAt (v := v) (i := (i : Int)) hB hvB h9 (by unfold zR; omega) ?_
          show ZE (d + 3) M_Tex_appendBig (gw G B) 19 [(2, t), (2, b), (0, (i : Int))] [(0, dgN v (i : Int)), (0, 48), (2, t)] _
          rw [show dgN v (i : Int) = (dg 10 v i : Int) by unfold dgN; rw [if_pos (by omega), Int.toNat_natCast]]
          refine ZE.iadd d_Tex_appendBig_19 ?_
          rw [show (48 + (dg 10 v i : Int) : Int) = ((48 + dg 10 v i : Nat) : Int) from (by omega)]
          refine ZE.cV [(0, ((48 + dg 10 v i : Nat) : Int))] [] [(2, t), (0, ((48 + dg 10 v i : Nat) : Int))] d_Tex_appendBig_20 l_Tex_19 rfl rfl rfl rfl rfl rfl hT.1 ?_
          refine t_append (v := ((48 + dg 10 v i : Nat) : Int)) hT hM (by omega) (fun B2 gB2 hB2 => ?_)
          show ZE (d + 3) M_Tex_appendBig (gw G B2) 23 [(2, t), (2, b), (0, (i : Int))] [] _
          refine ZE.iinc (ls2 := [(2, t), (2, b), (0, (i : Int) + (-1))]) d_Tex_appendBig_23 rfl rfl ?_
          refine ZE.goto (tgt := 7) d_Tex_appendBig_26 rfl ?_
          rw [show (i : Int) + (-1) = (i : Int) - 1 by omega]
          exact ih i B2 (M ++ [48 + dg 10 v i]) (by omega) (gB.tr gB2) (by rw [z8_s (by omega)] at hB2; exact xL.add (A := B) hB2) (by rw [List.append_assoc]; exact hLM) (by omega)
  exact L7 _ (dl v) A L (Nat.le_refl _) bF.rf h rfl (Nat.lt_succ_self _)
