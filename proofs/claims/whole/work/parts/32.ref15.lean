theorem pop_sub : ∀ S, S < 128 → ∀ s, s < 128 → s &&& S = s → pop s ≤ pop S := by decide +kernel
def u24 (D : Nat) : Bool := if rnd D % 2 = 1 then decide (hpG D * hpG D * 2 + 1 < 10 ^ 24) else decide (hpG D < 10 ^ 24)
theorem tab_24 : ∀ s, s < 128 → pop s ≤ 5 → (s ≠ 1 → u24 (2 * rad s) = true) ∧ (s ≠ 0 → u24 (rad s) = true) := by decide +kernel
theorem u24_ux {D : Nat} (h : u24 D = true) : ux D < 10 ^ 24 := by
  unfold u24 at h
  unfold ux unx
  rw [← hpG_eq]
  split at h
  · next q => rw [if_pos q]; exact of_decide_eq_true h
  · next q => rw [if_neg q]; exact of_decide_eq_true h
theorem d1_24 {S k : Nat} (hS : S < 128) (hp : pop S ≤ 5) (h : k < (csF S 1 128).length) : ux (d1 S k) < 10 ^ 24 := by
  have h1 := csF_lt S 1 128 k h
  have h2 := pop_sub S hS _ h1.1 h1.2.1
  exact u24_ux ((tab_24 _ h1.1 (by omega)).1 h1.2.2)
theorem d2_24 {S k : Nat} (hS : S < 128) (hp : pop S ≤ 5) (h : k < (csF S 0 128).length) : ux (d2 S k) < 10 ^ 24 := by
  have h1 := csF_lt S 0 128 k h
  have h2 := pop_sub S hS _ h1.1 h1.2.1
  exact u24_ux ((tab_24 _ h1.1 (by omega)).2 h1.2.2)
theorem xp_pow {u : Nat} (hu : u < 10 ^ 24) : ∀ j, xp u j ≤ (10 ^ 25) ^ j ∧ xp u (j + 1) ≤ (10 ^ 25) ^ (j + 1) := by
  intro j
  induction j with
  | zero => exact ⟨Nat.le_refl _, by show u ≤ (10 ^ 25) ^ 1; rw [Nat.pow_one]; omega⟩
  | succ j ih =>
    refine ⟨ih.2, ?_⟩
    have h1 : xp u (j + 2) ≤ 2 * u * xp u (j + 1) := Nat.sub_le _ _
    have h2 : 2 * u * xp u (j + 1) ≤ 10 ^ 25 * (10 ^ 25) ^ (j + 1) := Nat.mul_le_mul (by omega) ih.2
    have h3 : (10 ^ 25) ^ (j + 2) = (10 ^ 25) ^ (j + 1) * 10 ^ 25 := Nat.pow_succ ..
    rw [h3, Nat.mul_comm ((10 ^ 25) ^ (j + 1))]
    exact Nat.le_trans h1 h2
theorem xp_nd {u : Nat} (hu : u < 10 ^ 24) {j : Nat} (hj : j ≤ 12) : nd 10000 (xp u j) ≤ 76 := by
  refine nd_le (by omega) ?_
  have h1 := (xp_pow hu j).1
  have h2 : (10 ^ 25) ^ j ≤ (10 ^ 25) ^ 12 := Nat.pow_le_pow_right (by omega) hj
  have h3 : (10 ^ 25) ^ 12 < 10000 ^ 76 := by decide +kernel
  omega
def plV (S : Nat) (c i : Int) : Int := if inC S c then (if 0 ≤ i ∧ i ≤ bnd S then (dl (xp (ux (d1 S c.toNat)) i.toNat) : Int) else -1) else -1
def msN (S k : Nat) (m : Int) : Int := if m = 0 then (k : Int) else if m = 1 then (dl (pN S k) : Int) else if m = 2 then (pC S k : Int) else if m = 3 then (pI S k : Int) else if m = 4 then (wt (pN S k) : Int) + (wt (pN S k + 1) : Int) else if m = 5 then (gr (btN S k) : Int) else if m = 6 then (rad (btN S k) : Int) else if m = 7 then ((pN S k % 10000 : Nat) : Int) else (pop (mb (pN S k)) : Int) - (pop (mb (pN S k + 1)) : Int)
def isM (m : Int) : Bool := decide (0 ≤ m ∧ m ≤ 8)
def msV (S : Nat) (p m : Int) : Int := if inL S p then (if isM m then msN S p.toNat m else -100) else -100
set_option maxRecDepth 20000 in
set_option maxHeartbeats 4000000 in
theorem r_power {d : Nat} {G : zG} {A : Int → Int → Int} {P : Option zV → zG → Prop} {o : Int} (hK : RK G o) (hF : RF A o) {S : Nat} (hR : RS S A o) (hS7 : S < 128) (hp5 : pop S ≤ 5) {c : Int} (hc : zR c) {i m : Int} (hi : zR i) (hm : zR m) (k : P (some (0, pwV S c i m)) (gw G A)) : ZE (d + 4) M_Ref_power (gw G A) 0 [(2, o), (0, c), (0, i), (0, m)] [] P := by
  refine ZE.aload_n d_Ref_power_0 rfl ?_
  refine ZE.iload_n d_Ref_power_1 rfl ?_
  have hcl0 := cls_le hS7 hp5
  refine ZE.cV [(0, c)] [] [(2, o), (0, c)] d_Ref_power_2 l_Ref_242 rfl rfl rfl rfl rfl rfl hK.1 ?_
  refine r_isClass (m := (csF S 1 128).length) hK hF hR.n1 (by omega) hc ?_
  show ZE (d + 4) M_Ref_power (gw G A) 5 [(2, o), (0, c), (0, i), (0, m)] [(0, b2i (0 ≤ c ∧ c < ((csF S 1 128).length : Int)))] _
  refine ZE.if_eq (tgt := 44) d_Ref_power_5 rfl (zR_b2i _) (fun c5 => ?_) (fun c5 => ?_)
  · replace c5 := b2i_0.mp c5
    refine ZE.iconst (n := (-1)) d_Ref_power_44 ?_
    refine ZE.iret d_Ref_power_45 rfl ?_
    have e0 : inC S c = false := decide_eq_false c5
    rw [show pwV S c i m = -1 by unfold pwV; rw [e0]; rfl] at k
    exact k
  · replace c5 := b2i_n0.mp c5
    obtain ⟨cn, hcn⟩ : ∃ cn : Nat, c = cn := ⟨c.toNat, by omega⟩
    subst hcn
    have hok := d1_ok (S := S) (k := cn) (by omega)
    have hcl := hR.c1 cn (by omega)
    have hux9 : nd 10000 (ux (d1 S cn)) ≤ 81 := (okD_ns hok.1).2.1
    have huy9 : nd 10000 (uy (d1 S cn)) ≤ 81 := (okD_ns hok.1).2.2
    have hnx : num (A (o + 2)) (2 * (cn : Int)) (ux (d1 S cn)) := hcl.2.2.1
    have hny : num (A (o + 2)) (2 * (cn : Int) + 1) (uy (d1 S cn)) := hcl.2.2.2
    have hcf := (okD_cf hok.1).1
    have hRb := hcf.2.2.2.2.2.1
    refine ZE.iload_n d_Ref_power_8 rfl ?_
    refine ZE.i2l d_Ref_power_9 hi ?_
    refine ZE.lconst d_Ref_power_10 ?_
    show ZE (d + 4) M_Ref_power (gw G A) 11 [(2, o), (0, (cn : Int)), (0, i), (0, m)] [(1, 0), (1, i)] _
    refine ZE.ldc2 (v := 60) d_Ref_power_11 k_Ref_257 ?_
    refine ZE.cS [(1, i), (1, 0), (1, 60)] [] [(1, i), (9, 0), (1, 0), (9, 0), (1, 60), (9, 0)] d_Ref_power_14 l_Ref_111 rfl rfl rfl rfl rfl rfl ?_
    refine r_isIn (by unfold zR at hi; unfold zR64; omega) (by unfold zR64; omega) (by unfold zR64; omega) ?_
    show ZE (d + 4) M_Ref_power (gw G A) 17 [(2, o), (0, (cn : Int)), (0, i), (0, m)] [(0, b2i (0 ≤ i ∧ i ≤ 60))] _
    refine ZE.if_eq (tgt := 44) d_Ref_power_17 rfl (zR_b2i _) (fun c17 => ?_) (fun c17 => ?_)
    · replace c17 := b2i_0.mp c17
      refine ZE.iconst (n := (-1)) d_Ref_power_44 ?_
      refine ZE.iret d_Ref_power_45 rfl ?_
      have e0 : inC S (cn : Int) = true := decide_eq_true (by omega)
      rw [show pwV S (cn : Int) i m = -1 by unfold pwV; rw [e0, if_pos rfl, if_neg (by omega)]] at k
      exact k
    · replace c17 := b2i_n0.mp c17
      refine ZE.iload_n d_Ref_power_20 rfl ?_
      refine ZE.i2l d_Ref_power_21 hm ?_
      refine ZE.ldc2 (v := 2) d_Ref_power_22 k_Ref_181 ?_
      refine ZE.ldc2 (v := 10000) d_Ref_power_25 k_Ref_103 ?_
      refine ZE.cS [(1, m), (1, 2), (1, 10000)] [] [(1, m), (9, 0), (1, 2), (9, 0), (1, 10000), (9, 0)] d_Ref_power_28 l_Ref_111 rfl rfl rfl rfl rfl rfl ?_
      refine r_isIn (by unfold zR at hm; unfold zR64; omega) (by unfold zR64; omega) (by unfold zR64; omega) ?_
      show ZE (d + 4) M_Ref_power (gw G A) 31 [(2, o), (0, (cn : Int)), (0, i), (0, m)] [(0, b2i (2 ≤ m ∧ m ≤ 10000))] _
      refine ZE.if_eq (tgt := 44) d_Ref_power_31 rfl (zR_b2i _) (fun c31 => ?_) (fun c31 => ?_)
      · replace c31 := b2i_0.mp c31
        refine ZE.iconst (n := (-1)) d_Ref_power_44 ?_
        refine ZE.iret d_Ref_power_45 rfl ?_
        have e0 : inC S (cn : Int) = true := decide_eq_true (by omega)
        rw [show pwV S (cn : Int) i m = -1 by unfold pwV; rw [e0, if_pos rfl, if_neg (by omega)]] at k
        exact k
      · replace c31 := b2i_n0.mp c31
        obtain ⟨im, him⟩ : ∃ im : Nat, i = im := ⟨i.toNat, by omega⟩
        subst him
        obtain ⟨mm, hmm⟩ : ∃ mm : Nat, m = mm := ⟨m.toNat, by omega⟩
        subst hmm
        refine ZE.aload_n d_Ref_power_34 rfl ?_
        refine ZE.iload_n d_Ref_power_35 rfl ?_
        refine ZE.iload_n d_Ref_power_36 rfl ?_
        refine ZE.iload_n d_Ref_power_37 rfl ?_
        refine ZE.cV [(0, (cn : Int)), (0, (im : Int)), (0, (mm : Int))] [] [(2, o), (0, (cn : Int)), (0, (im : Int)), (0, (mm : Int)), (9, 0), (9, 0), (9, 0), (9, 0), (9, 0)] d_Ref_power_38 l_Ref_259 rfl rfl rfl rfl rfl rfl hK.1 ?_
        refine r_powerMod (u := ux (d1 S cn)) (i := im) (m := mm) hK hF (by omega) (by omega) hnx (by omega) (by omega) (by omega) ?_
        show ZE (d + 4) M_Ref_power (gw G A) 41 [(2, o), (0, (cn : Int)), (0, (im : Int)), (0, (mm : Int))] [(0, ((xp (ux (d1 S cn)) im % mm : Nat) : Int))] _
        refine ZE.goto (tgt := 45) d_Ref_power_41 rfl ?_
        refine ZE.iret d_Ref_power_45 rfl ?_
        have e0 : inC S (cn : Int) = true := decide_eq_true (by omega)
        rw [show pwV S (cn : Int) (im : Int) (mm : Int) = ((xp (ux (d1 S cn)) im % mm : Nat) : Int) by unfold pwV; rw [e0, if_pos rfl, if_pos (by omega), Int.toNat_natCast, Int.toNat_natCast, Int.toNat_natCast]] at k
        exact k
theorem lay_ok {u : Nat} (hu : u < 10 ^ 24) {j : Nat} (hj : j ≤ 9) : nd 10000 (xp u j * u) ≤ 120 ∧ nd 10000 (xp u j * u * 2 + 0) ≤ 121 ∧ nd 10000 (xp u j) + nd 10000 u ≤ 125 := by
  have h1 := (xp_pow hu j).1
  have h2 : (10 ^ 25) ^ j ≤ (10 ^ 25) ^ 9 := Nat.pow_le_pow_right (by omega) hj
  have h3 : xp u j * u ≤ (10 ^ 25) ^ 9 * 10 ^ 25 := Nat.mul_le_mul (Nat.le_trans h1 h2) (by omega)
  have h4 : (10 ^ 25) ^ 9 * 10 ^ 25 < 10000 ^ 63 := by decide +kernel
  have h5 : ((10 ^ 25) ^ 9 * 10 ^ 25) * 2 < 10000 ^ 64 := by decide +kernel
  have h6 : (10 ^ 25) ^ 9 < 10000 ^ 57 := by decide +kernel
  have h7 : 10 ^ 25 < 10000 ^ 7 := by decide +kernel
  have a1 : nd 10000 (xp u j * u) ≤ 63 := nd_le (by omega) (by omega)
  have a2 : nd 10000 (xp u j * u * 2 + 0) ≤ 64 := nd_le (by omega) (by omega)
  have a3 : nd 10000 (xp u j) ≤ 57 := nd_le (by omega) (by omega)
  have a4 : nd 10000 u ≤ 7 := nd_le (by omega) (by omega)
  omega
set_option maxRecDepth 20000 in
set_option maxHeartbeats 4000000 in
theorem r_powerLong {d : Nat} {G : zG} {A : Int → Int → Int} {P : Option zV → zG → Prop} {o : Int} (hK : RK G o) (hF : RF A o) {S : Nat} (hR : RS S A o) (hS7 : S < 128) (hp5 : pop S ≤ 5) {c : Int} (hc : zR c) {i : Int} (hi : zR i) (k : ∀ A2, quF A A2 o → P (some (0, plV S c i)) (gw G A2)) : ZE (d + 4) M_Ref_powerLong (gw G A) 0 [(2, o), (0, c), (0, i)] [] P := by
  have hbb := bnd_le S hS7
  refine ZE.aload_n d_Ref_powerLong_0 rfl ?_
  refine ZE.iload_n d_Ref_powerLong_1 rfl ?_
  have hcl0 := cls_le hS7 hp5
  refine ZE.cV [(0, c)] [] [(2, o), (0, c)] d_Ref_powerLong_2 l_Ref_242 rfl rfl rfl rfl rfl rfl hK.1 ?_
  refine r_isClass (m := (csF S 1 128).length) hK hF hR.n1 (by omega) hc ?_
  show ZE (d + 4) M_Ref_powerLong (gw G A) 5 [(2, o), (0, c), (0, i)] [(0, b2i (0 ≤ c ∧ c < ((csF S 1 128).length : Int)))] _
  refine ZE.if_eq (tgt := 35) d_Ref_powerLong_5 rfl (zR_b2i _) (fun c5 => ?_) (fun c5 => ?_)
  · replace c5 := b2i_0.mp c5
    refine ZE.iconst (n := (-1)) d_Ref_powerLong_35 ?_
    refine ZE.iret d_Ref_powerLong_36 rfl ?_
    have e0 : inC S c = false := decide_eq_false c5
    have k1 := k A quF.rf
    rw [show plV S c i = -1 by unfold plV; rw [e0]; rfl] at k1
    exact k1
  · replace c5 := b2i_n0.mp c5
    obtain ⟨cn, hcn⟩ : ∃ cn : Nat, c = cn := ⟨c.toNat, by omega⟩
    subst hcn
    have hok := d1_ok (S := S) (k := cn) (by omega)
    have hcl := hR.c1 cn (by omega)
    have hux9 : nd 10000 (ux (d1 S cn)) ≤ 81 := (okD_ns hok.1).2.1
    have huy9 : nd 10000 (uy (d1 S cn)) ≤ 81 := (okD_ns hok.1).2.2
    have hnx : num (A (o + 2)) (2 * (cn : Int)) (ux (d1 S cn)) := hcl.2.2.1
    have hny : num (A (o + 2)) (2 * (cn : Int) + 1) (uy (d1 S cn)) := hcl.2.2.2
    have hcf := (okD_cf hok.1).1
    have hRb := hcf.2.2.2.2.2.1
    refine ZE.iload_n d_Ref_powerLong_8 rfl ?_
    refine ZE.i2l d_Ref_powerLong_9 hi ?_
    refine ZE.lconst d_Ref_powerLong_10 ?_
    show ZE (d + 4) M_Ref_powerLong (gw G A) 11 [(2, o), (0, (cn : Int)), (0, i)] [(1, 0), (1, i)] _
    refine ZE.aload_n d_Ref_powerLong_11 rfl ?_
    refine ZE.cV [] [(1, 0), (1, i)] [(2, o)] d_Ref_powerLong_12 l_Ref_176 rfl rfl rfl rfl rfl rfl hK.1 ?_
    refine r_bound hK hF hR.s hS7 ?_
    show ZE (d + 4) M_Ref_powerLong (gw G A) 15 [(2, o), (0, (cn : Int)), (0, i)] [(0, (bnd S : Int)), (1, 0), (1, i)] _
    refine ZE.i2l d_Ref_powerLong_15 (by unfold zR; omega) ?_
    refine ZE.cS [(1, i), (1, 0), (1, (bnd S : Int))] [] [(1, i), (9, 0), (1, 0), (9, 0), (1, (bnd S : Int)), (9, 0)] d_Ref_powerLong_16 l_Ref_111 rfl rfl rfl rfl rfl rfl ?_
    refine r_isIn (by unfold zR at hi; unfold zR64; omega) (by unfold zR64; omega) (by unfold zR64; omega) ?_
    show ZE (d + 4) M_Ref_powerLong (gw G A) 19 [(2, o), (0, (cn : Int)), (0, i)] [(0, b2i (0 ≤ i ∧ i ≤ (bnd S : Int)))] _
    refine ZE.if_eq (tgt := 35) d_Ref_powerLong_19 rfl (zR_b2i _) (fun c19 => ?_) (fun c19 => ?_)
    · replace c19 := b2i_0.mp c19
      refine ZE.iconst (n := (-1)) d_Ref_powerLong_35 ?_
      refine ZE.iret d_Ref_powerLong_36 rfl ?_
      have e0 : inC S (cn : Int) = true := decide_eq_true (by omega)
      have k1 := k A quF.rf
      rw [show plV S (cn : Int) i = -1 by unfold plV; rw [e0, if_pos rfl, if_neg (by omega)]] at k1
      exact k1
    · replace c19 := b2i_n0.mp c19
      obtain ⟨im, him⟩ : ∃ im : Nat, i = im := ⟨i.toNat, by omega⟩
      subst him
      refine ZE.aload_n d_Ref_powerLong_22 rfl ?_
      refine ZE.aload_n d_Ref_powerLong_23 rfl ?_
      refine ZE.iload_n d_Ref_powerLong_24 rfl ?_
      refine ZE.iload_n d_Ref_powerLong_25 rfl ?_
      have h24 := d1_24 hS7 hp5 (k := cn) (by omega)
      have hun : nd 10000 (ux (d1 S cn)) ≤ 76 := xp_nd h24 (j := 1) (by omega)
      refine ZE.cV [(0, (cn : Int)), (0, (im : Int))] [(2, o)] [(2, o), (0, (cn : Int)), (0, (im : Int)), (9, 0)] d_Ref_powerLong_26 l_Ref_266 rfl rfl rfl rfl rfl rfl hK.1 ?_
      refine r_layPower (u := ux (d1 S cn)) (i := im) hK hF (by omega) (by omega) hnx (by omega) (fun j hj => by have := xp_nd h24 (j := j) (by omega); omega) (fun j hj => lay_ok h24 (by omega)) (fun f hnf hrw => ?_)
      show ZE (d + 4) M_Ref_powerLong (gw G (upA A (o + 2) f)) 29 [(2, o), (0, (cn : Int)), (0, (im : Int))] [(0, if im = 0 then 126 else 127), (2, o)] _
      refine ZE.cV [(0, if im = 0 then 126 else 127)] [] [(2, o), (0, if im = 0 then 126 else 127)] d_Ref_powerLong_29 l_Ref_108 rfl rfl rfl rfl rfl rfl hK.1 ?_
      refine r_longOf (v := xp (ux (d1 S cn)) im) hK (hF.uA (by omega)) (by split <;> omega) (by rw [upA_at]; exact hnf) (by have := xp_nd h24 (j := im) (by omega); omega) ?_
      show ZE (d + 4) M_Ref_powerLong (gw G (upA A (o + 2) f)) 32 [(2, o), (0, (cn : Int)), (0, (im : Int))] [(0, (dl (xp (ux (d1 S cn)) im) : Int))] _
      refine ZE.goto (tgt := 36) d_Ref_powerLong_32 rfl ?_
      refine ZE.iret d_Ref_powerLong_36 rfl ?_
      have e0 : inC S (cn : Int) = true := decide_eq_true (by omega)
      have k1 := k _ hrw.qu
      rw [show plV S (cn : Int) (im : Int) = (dl (xp (ux (d1 S cn)) im) : Int) by unfold plV; rw [e0, if_pos rfl, if_pos (by omega), Int.toNat_natCast, Int.toNat_natCast]] at k1
      exact k1
set_option maxRecDepth 20000 in
set_option maxHeartbeats 4000000 in
theorem r_inPair {d : Nat} {G : zG} {A : Int → Int → Int} {P : Option zV → zG → Prop} {o : Int} (hK : RK G o) (hF : RF A o) {S : Nat} (hR : RS S A o) (hS7 : S < 128) (hp5 : pop S ≤ 5) {p : Int} (hp : zR p) {q wh : Int} (hq : zR q) (hw : zR wh) (k : P (some (0, ipV S p q wh)) (gw G A)) : ZE (d + 2) M_Ref_inPair (gw G A) 0 [(2, o), (0, p), (0, q), (0, wh)] [] P := by
  refine ZE.aload_n d_Ref_inPair_0 rfl ?_
  refine ZE.iload_n d_Ref_inPair_1 rfl ?_
  have hpl0 := prs_len hS7
  refine ZE.cV [(0, p)] [] [(2, o), (0, p)] d_Ref_inPair_2 l_Ref_269 rfl rfl rfl rfl rfl rfl hK.1 ?_
  refine r_isPair (m := (prs S).length) hK hF hR.np (by omega) hp ?_
  show ZE (d + 2) M_Ref_inPair (gw G A) 5 [(2, o), (0, p), (0, q), (0, wh)] [(0, b2i (0 ≤ p ∧ p < ((prs S).length : Int)))] _
  refine ZE.if_eq (tgt := 41) d_Ref_inPair_5 rfl (zR_b2i _) (fun c5 => ?_) (fun c5 => ?_)
  · replace c5 := b2i_0.mp c5
    refine ZE.iconst (n := (-1)) d_Ref_inPair_41 ?_
    refine ZE.iret d_Ref_inPair_42 rfl ?_
    have e0 : inL S p = false := decide_eq_false c5
    rw [show ipV S p q wh = -1 by unfold ipV; rw [e0]; rfl] at k
    exact k
  · replace c5 := b2i_n0.mp c5
    obtain ⟨pn, hpn⟩ : ∃ pn : Nat, p = pn := ⟨p.toNat, by omega⟩
    subst hpn
    have hQ := prs_ok hS7 hp5 (k := pn) (by omega)
    have hpl := prs_288 hS7 hp5
    have hQ1 : 1 ≤ pN S pn ∧ pN S pn < 1000000000 := ⟨hQ.1, hQ.2.1⟩
    refine ZE.aload_n d_Ref_inPair_8 rfl ?_
    refine ZE.iload_n d_Ref_inPair_9 rfl ?_
    refine ZE.cV [(0, q)] [] [(2, o), (0, q), (9, 0)] d_Ref_inPair_10 l_Ref_209 rfl rfl rfl rfl rfl rfl hK.1 ?_
    refine r_isPrimeHere hK hF hR.s hS7 hq ?_
    show ZE (d + 2) M_Ref_inPair (gw G A) 13 [(2, o), (0, (pn : Int)), (0, q), (0, wh)] [(0, b2i (∃ k : Nat, k < 7 ∧ q = sev k ∧ S.testBit k = true))] _
    refine ZE.if_eq (tgt := 41) d_Ref_inPair_13 rfl (zR_b2i _) (fun c13 => ?_) (fun c13 => ?_)
    · replace c13 := b2i_0.mp c13
      refine ZE.iconst (n := (-1)) d_Ref_inPair_41 ?_
      refine ZE.iret d_Ref_inPair_42 rfl ?_
      have e0 : inL S (pn : Int) = true := decide_eq_true (by omega)
      rw [show ipV S (pn : Int) q wh = -1 by unfold ipV; rw [e0, if_pos rfl]; first | rw [if_pos hyes, if_neg (by omega)] | rw [if_neg (fun h => c13 (hasB_iff.mp h))]] at k
      exact k
    · replace c13 := b2i_n0.mp c13
      have hyes : hasB S q = true := hasB_iff.mpr c13
      refine ZE.iload_n d_Ref_inPair_16 rfl ?_
      refine ZE.i2l d_Ref_inPair_17 hw ?_
      refine ZE.lconst d_Ref_inPair_18 ?_
      show ZE (d + 2) M_Ref_inPair (gw G A) 19 [(2, o), (0, (pn : Int)), (0, q), (0, wh)] [(1, 0), (1, wh)] _
      refine ZE.lconst d_Ref_inPair_19 ?_
      show ZE (d + 2) M_Ref_inPair (gw G A) 20 [(2, o), (0, (pn : Int)), (0, q), (0, wh)] [(1, 1), (1, 0), (1, wh)] _
      refine ZE.cS [(1, wh), (1, 0), (1, 1)] [] [(1, wh), (9, 0), (1, 0), (9, 0), (1, 1), (9, 0)] d_Ref_inPair_20 l_Ref_111 rfl rfl rfl rfl rfl rfl ?_
      refine r_isIn (by unfold zR at hw; unfold zR64; omega) (by unfold zR64; omega) (by unfold zR64; omega) ?_
      show ZE (d + 2) M_Ref_inPair (gw G A) 23 [(2, o), (0, (pn : Int)), (0, q), (0, wh)] [(0, b2i (0 ≤ wh ∧ wh ≤ 1))] _
      refine ZE.if_eq (tgt := 41) d_Ref_inPair_23 rfl (zR_b2i _) (fun c23 => ?_) (fun c23 => ?_)
      · replace c23 := b2i_0.mp c23
        refine ZE.iconst (n := (-1)) d_Ref_inPair_41 ?_
        refine ZE.iret d_Ref_inPair_42 rfl ?_
        have e0 : inL S (pn : Int) = true := decide_eq_true (by omega)
        rw [show ipV S (pn : Int) q wh = -1 by unfold ipV; rw [e0, if_pos rfl]; first | rw [if_pos hyes, if_neg (by omega)] | rw [if_neg (fun h => c13 (hasB_iff.mp h))]] at k
        exact k
      · replace c23 := b2i_n0.mp c23
        obtain ⟨kk, hk7, hqk, hbt⟩ := c13
        subst hqk
        have hsl := sev_lt kk hk7
        obtain ⟨wm, hwm⟩ : ∃ wm : Nat, wh = wm := ⟨wh.toNat, by omega⟩
        subst hwm
        refine ZE.aload_n d_Ref_inPair_26 rfl ?_
        refine ZE.getE (v := o + 7) d_Ref_inPair_27 f_Ref_28 (tg := 2) rfl hK.1 hF.a12 ?_
        refine ZE.iload_n d_Ref_inPair_30 rfl ?_
        refine ZE.ialdE (v := (pN S pn : Int)) d_Ref_inPair_31 hK.k7 (by have hn0 := hK.n7; show 0 ≤ (pn : Int) ∧ (pn : Int) < gn G (o + 7); omega) (hR.p pn (by omega)).1 ?_
        refine ZE.iload_n d_Ref_inPair_32 rfl ?_
        refine ZE.iadd d_Ref_inPair_33 ?_
        rw [show ((pN S pn : Int) + (wm : Int) : Int) = ((pN S pn + wm : Nat) : Int) from (by omega)]
        refine ZE.iload_n d_Ref_inPair_34 rfl ?_
        refine ZE.cS [(0, ((pN S pn + wm : Nat) : Int)), (0, (sev kk : Int))] [] [(0, ((pN S pn + wm : Nat) : Int)), (0, (sev kk : Int)), (9, 0), (9, 0)] d_Ref_inPair_35 l_Ref_273 rfl rfl rfl rfl rfl rfl ?_
        refine r_powerIn (s := pN S pn + wm) (p := sev kk) (by omega) (by omega) (by omega) (by omega) ?_
        show ZE (d + 2) M_Ref_inPair (gw G A) 38 [(2, o), (0, (pn : Int)), (0, (sev kk : Int)), (0, (wm : Int))] [(0, (vp (sev kk) (pN S pn + wm) : Int))] _
        refine ZE.goto (tgt := 42) d_Ref_inPair_38 rfl ?_
        refine ZE.iret d_Ref_inPair_42 rfl ?_
        have e0 : inL S (pn : Int) = true := decide_eq_true (by omega)
        rw [show ipV S (pn : Int) (sev kk : Int) (wm : Int) = (vp (sev kk) (pN S pn + wm) : Int) by unfold ipV; rw [e0, if_pos rfl, if_pos hyes, if_pos (by omega), Int.toNat_natCast, Int.toNat_natCast, Int.toNat_natCast]] at k
        exact k
set_option maxRecDepth 20000 in
set_option maxHeartbeats 4000000 in
theorem r_measureOf {d : Nat} {G : zG} {A : Int → Int → Int} {P : Option zV → zG → Prop} {o : Int} (hK : RK G o) (hF : RF A o) {S : Nat} (hR : RS S A o) (hS7 : S < 128) (hp5 : pop S ≤ 5) {pn : Nat} (hk : pn < (prs S).length) {m : Int} (hm : 0 ≤ m ∧ m ≤ 8) (k : P (some (0, msN S pn m)) (gw G A)) : ZE (d + 2) M_Ref_measureOf (gw G A) 0 [(2, o), (0, (pn : Int)), (0, m), (9, 0)] [] P := by
  have hQ := prs_ok hS7 hp5 (k := pn) hk
  have hpl := prs_288 hS7 hp5
  have hQ1 : 1 ≤ pN S pn ∧ pN S pn < 1000000000 := ⟨hQ.1, hQ.2.1⟩
  have hm1 := mb_lt (pN S pn)
  have hm2 := mb_lt (pN S pn + 1)
  have hb7 : btN S pn < 128 := Nat.or_lt_two_pow (n := 7) hm1 hm2
  refine ZE.aload_n d_Ref_measureOf_0 rfl ?_
  refine ZE.getE (v := o + 7) d_Ref_measureOf_1 f_Ref_28 (tg := 2) rfl hK.1 hF.a12 ?_
  refine ZE.iload_n d_Ref_measureOf_4 rfl ?_
  refine ZE.ialdE (v := (pN S pn : Int)) d_Ref_measureOf_5 hK.k7 (by have hn0 := hK.n7; show 0 ≤ (pn : Int) ∧ (pn : Int) < gn G (o + 7); omega) (hR.p pn (by omega)).1 ?_
  refine ZE.istore_n (ls2 := [(2, o), (0, (pn : Int)), (0, m), (0, (pN S pn : Int))]) d_Ref_measureOf_6 (Nat.le_of_ble_eq_true rfl) rfl ?_
  refine ZE.iload_n d_Ref_measureOf_7 rfl ?_
  rcases (show (m < 0 ∨ 7 < m) ∨ m = 0 ∨ m = 1 ∨ m = 2 ∨ m = 3 ∨ m = 4 ∨ m = 5 ∨ m = 6 ∨ m = 7 by omega) with eo | rfl | rfl | rfl | rfl | rfl | rfl | rfl | rfl
  · refine ZE.tableOut (tgt := 117) d_Ref_measureOf_8 (by unfold zR at *; omega) eo rfl ?_
    refine ZE.aload_n d_Ref_measureOf_117 rfl ?_
    refine ZE.iload_n d_Ref_measureOf_118 rfl ?_
    refine ZE.cV [(0, (pN S pn : Int))] [] [(2, o), (0, (pN S pn : Int)), (9, 0), (9, 0)] d_Ref_measureOf_119 l_Ref_276 rfl rfl rfl rfl rfl rfl hK.1 ?_
    refine r_madeBits (n := pN S pn) hK hF (by omega) ?_
    show ZE (d + 2) M_Ref_measureOf (gw G A) 122 [(2, o), (0, (pn : Int)), (0, m), (0, (pN S pn : Int))] [(0, (mb (pN S pn) : Int))] _
    refine ZE.cS [(0, (mb (pN S pn) : Int))] [] [(0, (mb (pN S pn) : Int)), (9, 0), (9, 0)] d_Ref_measureOf_122 l_Ref_206 rfl rfl rfl rfl rfl rfl ?_
    refine r_many (s := mb (pN S pn)) (by omega) ?_
    show ZE (d + 2) M_Ref_measureOf (gw G A) 125 [(2, o), (0, (pn : Int)), (0, m), (0, (pN S pn : Int))] [(0, (pop (mb (pN S pn)) : Int))] _
    refine ZE.aload_n d_Ref_measureOf_125 rfl ?_
    refine ZE.iload_n d_Ref_measureOf_126 rfl ?_
    refine ZE.iconst (n := 1) d_Ref_measureOf_127 ?_
    refine ZE.iadd d_Ref_measureOf_128 ?_
    rw [show ((pN S pn : Int) + 1 : Int) = ((pN S pn + 1 : Nat) : Int) from (by omega)]
    refine ZE.cV [(0, ((pN S pn + 1 : Nat) : Int))] [(0, (pop (mb (pN S pn)) : Int))] [(2, o), (0, ((pN S pn + 1 : Nat) : Int)), (9, 0), (9, 0)] d_Ref_measureOf_129 l_Ref_276 rfl rfl rfl rfl rfl rfl hK.1 ?_
    refine r_madeBits (n := pN S pn + 1) hK hF (by omega) ?_
    show ZE (d + 2) M_Ref_measureOf (gw G A) 132 [(2, o), (0, (pn : Int)), (0, m), (0, (pN S pn : Int))] [(0, (mb (pN S pn + 1) : Int)), (0, (pop (mb (pN S pn)) : Int))] _
    refine ZE.cS [(0, (mb (pN S pn + 1) : Int))] [(0, (pop (mb (pN S pn)) : Int))] [(0, (mb (pN S pn + 1) : Int)), (9, 0), (9, 0)] d_Ref_measureOf_132 l_Ref_206 rfl rfl rfl rfl rfl rfl ?_
    refine r_many (s := mb (pN S pn + 1)) (by omega) ?_
    show ZE (d + 2) M_Ref_measureOf (gw G A) 135 [(2, o), (0, (pn : Int)), (0, m), (0, (pN S pn : Int))] [(0, (pop (mb (pN S pn + 1)) : Int)), (0, (pop (mb (pN S pn)) : Int))] _
    refine ZE.isub d_Ref_measureOf_135 ?_
    refine ZE.iret d_Ref_measureOf_136 rfl ?_
    have e8 : m = 8 := by omega
    rw [e8] at k
    exact k
  · refine ZE.tableIn (tgt := 56) d_Ref_measureOf_8 (by unfold zR; omega) (by omega) rfl rfl ?_
    refine ZE.iload_n d_Ref_measureOf_56 rfl ?_
    refine ZE.iret d_Ref_measureOf_57 rfl ?_
    exact k
  · refine ZE.tableIn (tgt := 58) d_Ref_measureOf_8 (by unfold zR; omega) (by omega) rfl rfl ?_
    refine ZE.iload_n d_Ref_measureOf_58 rfl ?_
    refine ZE.cS [(0, (pN S pn : Int))] [] [(0, (pN S pn : Int)), (9, 0), (9, 0)] d_Ref_measureOf_59 l_Ref_105 rfl rfl rfl rfl rfl rfl ?_
    refine r_digitsOf (s := pN S pn) (by omega) ?_
    show ZE (d + 2) M_Ref_measureOf (gw G A) 62 [(2, o), (0, (pn : Int)), (0, 1), (0, (pN S pn : Int))] [(0, (dl (pN S pn) : Int))] _
    refine ZE.iret d_Ref_measureOf_62 rfl ?_
    exact k
  · refine ZE.tableIn (tgt := 63) d_Ref_measureOf_8 (by unfold zR; omega) (by omega) rfl rfl ?_
    refine ZE.aload_n d_Ref_measureOf_63 rfl ?_
    refine ZE.getE (v := o + 8) d_Ref_measureOf_64 f_Ref_31 (tg := 2) rfl hK.1 hF.a13 ?_
    refine ZE.iload_n d_Ref_measureOf_67 rfl ?_
    refine ZE.ialdE (v := (pC S pn : Int)) d_Ref_measureOf_68 hK.k8 (by have hn0 := hK.n8; show 0 ≤ (pn : Int) ∧ (pn : Int) < gn G (o + 8); omega) (hR.p pn (by omega)).2.1 ?_
    refine ZE.iret d_Ref_measureOf_69 rfl ?_
    exact k
  · refine ZE.tableIn (tgt := 70) d_Ref_measureOf_8 (by unfold zR; omega) (by omega) rfl rfl ?_
    refine ZE.aload_n d_Ref_measureOf_70 rfl ?_
    refine ZE.getE (v := o + 9) d_Ref_measureOf_71 f_Ref_34 (tg := 2) rfl hK.1 hF.a14 ?_
    refine ZE.iload_n d_Ref_measureOf_74 rfl ?_
    refine ZE.ialdE (v := (pI S pn : Int)) d_Ref_measureOf_75 hK.k9 (by have hn0 := hK.n9; show 0 ≤ (pn : Int) ∧ (pn : Int) < gn G (o + 9); omega) (hR.p pn (by omega)).2.2 ?_
    refine ZE.iret d_Ref_measureOf_76 rfl ?_
    exact k
  · refine ZE.tableIn (tgt := 77) d_Ref_measureOf_8 (by unfold zR; omega) (by omega) rfl rfl ?_
    refine ZE.aload_n d_Ref_measureOf_77 rfl ?_
    refine ZE.iload_n d_Ref_measureOf_78 rfl ?_
    refine ZE.cV [(0, (pN S pn : Int))] [] [(2, o), (0, (pN S pn : Int)), (9, 0), (9, 0)] d_Ref_measureOf_79 l_Ref_281 rfl rfl rfl rfl rfl rfl hK.1 ?_
    refine r_weightOf (n := pN S pn) hK hF (by omega) (by omega) ?_
    show ZE (d + 2) M_Ref_measureOf (gw G A) 82 [(2, o), (0, (pn : Int)), (0, 4), (0, (pN S pn : Int))] [(0, (wt (pN S pn) : Int))] _
    refine ZE.aload_n d_Ref_measureOf_82 rfl ?_
    refine ZE.iload_n d_Ref_measureOf_83 rfl ?_
    refine ZE.iconst (n := 1) d_Ref_measureOf_84 ?_
    refine ZE.iadd d_Ref_measureOf_85 ?_
    rw [show ((pN S pn : Int) + 1 : Int) = ((pN S pn + 1 : Nat) : Int) from (by omega)]
    refine ZE.cV [(0, ((pN S pn + 1 : Nat) : Int))] [(0, (wt (pN S pn) : Int))] [(2, o), (0, ((pN S pn + 1 : Nat) : Int)), (9, 0), (9, 0)] d_Ref_measureOf_86 l_Ref_281 rfl rfl rfl rfl rfl rfl hK.1 ?_
    refine r_weightOf (n := pN S pn + 1) hK hF (by omega) (by omega) ?_
    show ZE (d + 2) M_Ref_measureOf (gw G A) 89 [(2, o), (0, (pn : Int)), (0, 4), (0, (pN S pn : Int))] [(0, (wt (pN S pn + 1) : Int)), (0, (wt (pN S pn) : Int))] _
    refine ZE.iadd d_Ref_measureOf_89 ?_
    refine ZE.iret d_Ref_measureOf_90 rfl ?_
    exact k
  · refine ZE.tableIn (tgt := 91) d_Ref_measureOf_8 (by unfold zR; omega) (by omega) rfl rfl ?_
    refine ZE.aload_n d_Ref_measureOf_91 rfl ?_
    refine ZE.aload_n d_Ref_measureOf_92 rfl ?_
    refine ZE.iload_n d_Ref_measureOf_93 rfl ?_
    refine ZE.cV [(0, (pn : Int))] [(2, o)] [(2, o), (0, (pn : Int))] d_Ref_measureOf_94 l_Ref_284 rfl rfl rfl rfl rfl rfl hK.1 ?_
    refine r_bitsOf (pn := pn) hK hF hR hS7 hp5 hk ?_
    show ZE (d + 2) M_Ref_measureOf (gw G A) 97 [(2, o), (0, (pn : Int)), (0, 5), (0, (pN S pn : Int))] [(0, (btN S pn : Int)), (2, o)] _
    refine ZE.cV [(0, (btN S pn : Int))] [] [(2, o), (0, (btN S pn : Int)), (9, 0), (9, 0)] d_Ref_measureOf_97 l_Ref_287 rfl rfl rfl rfl rfl rfl hK.1 ?_
    refine r_greatestOf (S := btN S pn) hK hF hb7 ?_
    show ZE (d + 2) M_Ref_measureOf (gw G A) 100 [(2, o), (0, (pn : Int)), (0, 5), (0, (pN S pn : Int))] [(0, (gr (btN S pn) : Int))] _
    refine ZE.iret d_Ref_measureOf_100 rfl ?_
    exact k
  · refine ZE.tableIn (tgt := 101) d_Ref_measureOf_8 (by unfold zR; omega) (by omega) rfl rfl ?_
    refine ZE.aload_n d_Ref_measureOf_101 rfl ?_
    refine ZE.aload_n d_Ref_measureOf_102 rfl ?_
    refine ZE.iload_n d_Ref_measureOf_103 rfl ?_
    refine ZE.cV [(0, (pn : Int))] [(2, o)] [(2, o), (0, (pn : Int))] d_Ref_measureOf_104 l_Ref_284 rfl rfl rfl rfl rfl rfl hK.1 ?_
    refine r_bitsOf (pn := pn) hK hF hR hS7 hp5 hk ?_
    show ZE (d + 2) M_Ref_measureOf (gw G A) 107 [(2, o), (0, (pn : Int)), (0, 6), (0, (pN S pn : Int))] [(0, (btN S pn : Int)), (2, o)] _
    refine ZE.cV [(0, (btN S pn : Int))] [] [(2, o), (0, (btN S pn : Int)), (9, 0), (9, 0)] d_Ref_measureOf_107 l_Ref_137 rfl rfl rfl rfl rfl rfl hK.1 ?_
    refine r_radicalOf (S := btN S pn) hK hF hb7 ?_
    show ZE (d + 2) M_Ref_measureOf (gw G A) 110 [(2, o), (0, (pn : Int)), (0, 6), (0, (pN S pn : Int))] [(0, (rad (btN S pn) : Int))] _
    refine ZE.iret d_Ref_measureOf_110 rfl ?_
    exact k
  · refine ZE.tableIn (tgt := 111) d_Ref_measureOf_8 (by unfold zR; omega) (by omega) rfl rfl ?_
    refine ZE.iload_n d_Ref_measureOf_111 rfl ?_
    refine ZE.sipush (n := 10000) d_Ref_measureOf_112 rfl ?_
    refine ZE.iremP d_Ref_measureOf_115 (by omega) ?_
    rw [show ((pN S pn : Int) % 10000 : Int) = ((pN S pn % 10000 : Nat) : Int) from (by omega)]
    refine ZE.iret d_Ref_measureOf_116 rfl ?_
    exact k
set_option maxRecDepth 20000 in
set_option maxHeartbeats 4000000 in
theorem r_isMeasure {d : Nat} {G : zG} {A : Int → Int → Int} {P : Option zV → zG → Prop}  {m : Int} (hm : zR m) (k : P (some (0, b2i (0 ≤ m ∧ m ≤ 8))) (gw G A)) : ZE (d + 1) M_Ref_isMeasure (gw G A) 0 [(0, m)] [] P := by
  refine ZE.iload_n d_Ref_isMeasure_0 rfl ?_
  refine ZE.i2l d_Ref_isMeasure_1 hm ?_
  refine ZE.lconst d_Ref_isMeasure_2 ?_
  show ZE (d + 1) M_Ref_isMeasure (gw G A) 3 [(0, m)] [(1, 0), (1, m)] _
  refine ZE.ldc2 (v := 8) d_Ref_isMeasure_3 k_Ref_279 ?_
  refine ZE.cS [(1, m), (1, 0), (1, 8)] [] [(1, m), (9, 0), (1, 0), (9, 0), (1, 8), (9, 0)] d_Ref_isMeasure_6 l_Ref_111 rfl rfl rfl rfl rfl rfl ?_
  refine r_isIn (by unfold zR at hm; unfold zR64; omega) (by unfold zR64; omega) (by unfold zR64; omega) ?_
  show ZE (d + 1) M_Ref_isMeasure (gw G A) 9 [(0, m)] [(0, b2i (0 ≤ m ∧ m ≤ 8))] _
  refine ZE.zret d_Ref_isMeasure_9 rfl (b2i_01 _) ?_
  exact k
set_option maxRecDepth 20000 in
set_option maxHeartbeats 4000000 in
theorem r_measure {d : Nat} {G : zG} {A : Int → Int → Int} {P : Option zV → zG → Prop} {o : Int} (hK : RK G o) (hF : RF A o) {S : Nat} (hR : RS S A o) (hS7 : S < 128) (hp5 : pop S ≤ 5) {p : Int} (hp : zR p) {m : Int} (hm : zR m) (k : P (some (0, msV S p m)) (gw G A)) : ZE (d + 3) M_Ref_measure (gw G A) 0 [(2, o), (0, p), (0, m)] [] P := by
  refine ZE.aload_n d_Ref_measure_0 rfl ?_
  refine ZE.iload_n d_Ref_measure_1 rfl ?_
  have hpl0 := prs_len hS7
  refine ZE.cV [(0, p)] [] [(2, o), (0, p)] d_Ref_measure_2 l_Ref_269 rfl rfl rfl rfl rfl rfl hK.1 ?_
  refine r_isPair (m := (prs S).length) hK hF hR.np (by omega) hp ?_
  show ZE (d + 3) M_Ref_measure (gw G A) 5 [(2, o), (0, p), (0, m)] [(0, b2i (0 ≤ p ∧ p < ((prs S).length : Int)))] _
  refine ZE.if_eq (tgt := 24) d_Ref_measure_5 rfl (zR_b2i _) (fun c5 => ?_) (fun c5 => ?_)
  · replace c5 := b2i_0.mp c5
    refine ZE.bipush (n := (-100)) d_Ref_measure_24 rfl ?_
    refine ZE.iret d_Ref_measure_26 rfl ?_
    have e0 : inL S p = false := decide_eq_false c5
    rw [show msV S p m = -100 by unfold msV; rw [e0]; rfl] at k
    exact k
  · replace c5 := b2i_n0.mp c5
    obtain ⟨pn, hpn⟩ : ∃ pn : Nat, p = pn := ⟨p.toNat, by omega⟩
    subst hpn
    have hQ := prs_ok hS7 hp5 (k := pn) (by omega)
    have hpl := prs_288 hS7 hp5
    have hQ1 : 1 ≤ pN S pn ∧ pN S pn < 1000000000 := ⟨hQ.1, hQ.2.1⟩
    refine ZE.iload_n d_Ref_measure_8 rfl ?_
    refine ZE.cS [(0, m)] [] [(0, m)] d_Ref_measure_9 l_Ref_290 rfl rfl rfl rfl rfl rfl ?_
    refine r_isMeasure hm ?_
    show ZE (d + 3) M_Ref_measure (gw G A) 12 [(2, o), (0, (pn : Int)), (0, m)] [(0, b2i (0 ≤ m ∧ m ≤ 8))] _
    refine ZE.if_eq (tgt := 24) d_Ref_measure_12 rfl (zR_b2i _) (fun c12 => ?_) (fun c12 => ?_)
    · replace c12 := b2i_0.mp c12
      refine ZE.bipush (n := (-100)) d_Ref_measure_24 rfl ?_
      refine ZE.iret d_Ref_measure_26 rfl ?_
      have e0 : inL S (pn : Int) = true := decide_eq_true (by omega)
      have e2 : isM m = false := decide_eq_false c12
      rw [show msV S (pn : Int) m = -100 by unfold msV; rw [e0, if_pos rfl, e2]; rfl] at k
      exact k
    · replace c12 := b2i_n0.mp c12
      refine ZE.aload_n d_Ref_measure_15 rfl ?_
      refine ZE.iload_n d_Ref_measure_16 rfl ?_
      refine ZE.iload_n d_Ref_measure_17 rfl ?_
      refine ZE.cV [(0, (pn : Int)), (0, m)] [] [(2, o), (0, (pn : Int)), (0, m), (9, 0)] d_Ref_measure_18 l_Ref_293 rfl rfl rfl rfl rfl rfl hK.1 ?_
      refine r_measureOf (pn := pn) hK hF hR hS7 hp5 (by omega) c12 ?_
      show ZE (d + 3) M_Ref_measure (gw G A) 21 [(2, o), (0, (pn : Int)), (0, m)] [(0, msN S pn m)] _
      refine ZE.goto (tgt := 26) d_Ref_measure_21 rfl ?_
      refine ZE.iret d_Ref_measure_26 rfl ?_
      have e0 : inL S (pn : Int) = true := decide_eq_true (by omega)
      have e2 : isM m = true := decide_eq_true c12
      rw [show msV S (pn : Int) m = msN S pn m by unfold msV; rw [e0, if_pos rfl, e2, if_pos rfl, Int.toNat_natCast]] at k
      exact k
