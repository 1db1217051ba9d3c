def lG (G : zG) (A : Int → Int → Int) : Prop := gk G (gl G) = 6 ∧ gn G (gl G) = 168 ∧ ∀ j : Nat, A (gl G) j = zPf j
theorem zPf_sev : ∀ k, k < 7 → zPf k = (sev k : Int) := by decide +kernel
theorem zPf_R : ∀ k, k < 168 → 2 ≤ zPf k ∧ zPf k ≤ 997 := by decide +kernel
def bcE (n : Int) : Int :=
  let a1 := n - zand (zushr n 1) 1431655765
  let a2 := zand a1 858993459 + zand (zushr a1 2) 858993459
  let a3 := zand (a2 + zushr a2 4) 252645135
  let a4 := a3 + zushr a3 8
  let a5 := a4 + zushr a4 16
  zand a5 63
theorem bc_tab : ∀ n, n < 512 → bcE (n : Nat) = (pop n : Int) := by decide +kernel
def lsF (S : Nat) (k : Nat) : Nat → Int
  | 0 => -1
  | f + 1 => if S.testBit k then (sev k : Int) else lsF S (k + 1) f
theorem lsF_0 {S k f : Nat} (hk : k < 7) (hf : k + f = 7) (h : S.testBit k = true) : lsF S k f = (sev k : Int) := by
  cases f with
  | zero => omega
  | succ f => exact if_pos h
theorem lsF_s {S k f : Nat} (hf : 0 < f) (h : ¬ S.testBit k = true) : lsF S k f = lsF S (k + 1) (f - 1) := by
  cases f with
  | zero => omega
  | succ f => exact if_neg h
theorem zxor_sg {x1 m : Int} (hx : zR x1) (hm : 0 ≤ m ∧ m ≤ 2147483647) : zxor x1 m < 0 ↔ x1 < 0 := by
  unfold zxor
  have h1 : ∀ z : Int32, z.toInt < 0 ↔ z.toBitVec.msb = true := fun z => by
    show z.toBitVec.toInt < 0 ↔ _
    rw [BitVec.msb_eq_toInt]
    exact decide_eq_true_iff.symm
  rw [h1, Int32.toBitVec_xor, BitVec.msb_xor]
  have h2 := (h1 (Int32.ofInt x1))
  have h3 := (h1 (Int32.ofInt m))
  rw [hx.toInt] at h2
  rw [zR.toInt (show zR m by unfold zR; omega)] at h3
  rw [show (Int32.ofInt m).toBitVec.msb = false from Bool.eq_false_iff.mpr (fun q => by have := h3.mpr q; omega), Bool.xor_false, ← h2]
theorem zlxor_sg {x1 m : Int} (hx : zR64 x1) (hm : 0 ≤ m ∧ m ≤ 9223372036854775807) : zlxor x1 m < 0 ↔ x1 < 0 := by
  unfold zlxor
  have h1 : ∀ z : Int64, z.toInt < 0 ↔ z.toBitVec.msb = true := fun z => by
    show z.toBitVec.toInt < 0 ↔ _
    rw [BitVec.msb_eq_toInt]
    exact decide_eq_true_iff.symm
  rw [h1, Int64.toBitVec_xor, BitVec.msb_xor]
  have h2 := (h1 (Int64.ofInt x1))
  have h3 := (h1 (Int64.ofInt m))
  rw [hx.toInt] at h2
  rw [zR64.toInt (show zR64 m by unfold zR64; omega)] at h3
  rw [show (Int64.ofInt m).toBitVec.msb = false from Bool.eq_false_iff.mpr (fun q => by have := h3.mpr q; omega), Bool.xor_false, ← h2]
theorem and_tab : ∀ S, S < 128 → ∀ k, k < 7 → (S &&& 2 ^ k = 0 ↔ ¬ S.testBit k = true) := by decide +kernel
theorem tmod_neg {x1 m : Int} (h : x1 < 0) (hm : 0 < m) : x1.tmod m = -((-x1) % m) := by
  have e : x1 = -(-x1) := by omega
  rw [e, Int.neg_tmod, Int.neg_neg, Int.tmod_eq_emod_of_nonneg (by omega)]
theorem floor_a {x1 m : Int} (h : x1 < 0) (hm : 0 < m) (h2 : ¬ x1.tmod m = 0) : x1.tmod m + m = x1 % m := by
  rw [tmod_neg h hm] at h2 ⊢
  have h3 := Int.emod_add_mul_ediv (-x1) m
  have h4 := Int.emod_nonneg (-x1) (show m ≠ 0 by omega)
  have h5 := Int.emod_lt_of_pos (-x1) hm
  generalize (-x1) % m = r at h2 h3 h4 h5 ⊢
  generalize (-x1) / m = q at h3
  have h6 : x1 = (m - r) + m * (-1 - q) := by rw [Int.mul_sub, Int.mul_neg, Int.mul_one]; omega
  have h7 : ((m - r) + m * (-1 - q)) % m = (m - r) % m := Int.add_mul_emod_self_left _ _ _
  rw [← h6, Int.emod_eq_of_lt (a := m - r) (b := m) (by omega) (by omega)] at h7
  rw [h7]; omega
theorem floor_b {x1 m : Int} (h : x1 < 0) (hm : 0 < m) (h2 : x1.tmod m = 0) : x1.tmod m = x1 % m := by
  rw [h2]
  rw [tmod_neg h hm] at h2
  have h3 : (-x1) % m = 0 := by omega
  have h4 : m ∣ x1 := Int.dvd_neg.mp (Int.dvd_of_emod_eq_zero h3)
  exact (Int.emod_eq_zero_of_dvd h4).symm
set_option maxRecDepth 20000 in
set_option maxHeartbeats 4000000 in
theorem p_at {d : Nat} {G : zG} {A : Int → Int → Int} {P : Option zV → zG → Prop} {j : Nat} (hj : j < 168) (hL : lG G A) (k : P (some (0, zPf j)) (gw G A)) : ZE d M_Pri_at (gw G A) 0 [(0, (j : Int))] [] P := by
  refine ZE.iload_n d_Pri_at_0 rfl ?_
  refine ZE.if_lt (tgt := 20) d_Pri_at_1 rfl (by unfold zR; omega) (fun c1 => ?_) (fun c1 => ?_)
  · exact absurd c1 (by omega)
  · refine ZE.iload_n d_Pri_at_4 rfl ?_
    refine ZE.gets d_Pri_at_5 g_Pri_9 ?_
    show ZE d M_Pri_at (gw G A) 8 [(0, (j : Int))] [(2, gl G), (0, (j : Int))] _
    refine ZE.alenE (v := 168) d_Pri_at_8 (by have hk0 := hL.1; show 1 ≤ gk G (gl G) ∧ gk G (gl G) ≤ 6; omega) hL.2.1 ?_
    refine ZE.icmp_ge (tgt := 20) d_Pri_at_9 rfl (by unfold zR; omega) (by unfold zR; omega) (fun c9 => ?_) (fun c9 => ?_)
    · exact absurd c9 (by omega)
    · refine ZE.gets d_Pri_at_12 g_Pri_9 ?_
      show ZE d M_Pri_at (gw G A) 15 [(0, (j : Int))] [(2, gl G)] _
      refine ZE.iload_n d_Pri_at_15 rfl ?_
      refine ZE.ialdRE (v := zPf j) d_Pri_at_16 hL.1 (by have hn0 := hL.2.1; show 0 ≤ (j : Int) ∧ (j : Int) < gn G (gl G); omega) (hL.2.2 j) ?_
      refine ZE.goto (tgt := 21) d_Pri_at_17 rfl ?_
      refine ZE.iret d_Pri_at_21 rfl ?_
      exact k
set_option maxRecDepth 20000 in
set_option maxHeartbeats 4000000 in
theorem p_isPrime {d : Nat} {G : zG} {A : Int → Int → Int} {P : Option zV → zG → Prop} {n : Int} (hn : zR n) (hL : lG G A) (k : P (some (0, b2i (∃ j : Nat, j < 168 ∧ zPf j = n))) (gw G A)) : ZE d M_Pri_isPrime (gw G A) 0 [(0, n), (9, 0)] [] P := by
  refine ZE.iconst (n := 0) d_Pri_isPrime_0 ?_
  refine ZE.istore_n (ls2 := [(0, n), (0, 0)]) d_Pri_isPrime_1 (Nat.le_of_ble_eq_true rfl) rfl ?_
  have L2 : ∀ (t : Nat) (j : Nat) (hj : j ≤ 168) (hn0 : ∀ q : Nat, q < j → zPf q ≠ n), 168 - j < t → ZE d M_Pri_isPrime (gw G A) 2 [(0, n), (0, (j : Int))] [] P := by
    intro t
    induction t with
    | zero => intro j hj hn0 hm; exact absurd hm (Nat.not_lt_zero _)
    | succ t ih =>
      intro j hj hn0 hm
      refine ZE.iload_n d_Pri_isPrime_2 rfl ?_
      refine ZE.gets d_Pri_isPrime_3 g_Pri_9 ?_
      show ZE d M_Pri_isPrime (gw G A) 6 [(0, n), (0, (j : Int))] [(2, gl G), (0, (j : Int))] _
      refine ZE.alenE (v := 168) d_Pri_isPrime_6 (by have hk0 := hL.1; show 1 ≤ gk G (gl G) ∧ gk G (gl G) ≤ 6; omega) hL.2.1 ?_
      refine ZE.icmp_ge (tgt := 27) d_Pri_isPrime_7 rfl (by unfold zR; omega) (by unfold zR; omega) (fun c7 => ?_) (fun c7 => ?_)
      · refine ZE.iconst (n := 0) d_Pri_isPrime_27 ?_
        refine ZE.zret d_Pri_isPrime_28 rfl (by omega) ?_
        rw [b2i_f (by rintro ⟨q, h1, h2⟩; exact hn0 q (by omega) h2)] at k
        exact k
      · refine ZE.gets d_Pri_isPrime_10 g_Pri_9 ?_
        show ZE d M_Pri_isPrime (gw G A) 13 [(0, n), (0, (j : Int))] [(2, gl G)] _
        refine ZE.iload_n d_Pri_isPrime_13 rfl ?_
        refine ZE.ialdRE (v := zPf j) d_Pri_isPrime_14 hL.1 (by have hn0 := hL.2.1; show 0 ≤ (j : Int) ∧ (j : Int) < gn G (gl G); omega) (hL.2.2 j) ?_
        refine ZE.iload_n d_Pri_isPrime_15 rfl ?_
        refine ZE.icmp_ne (tgt := 21) d_Pri_isPrime_16 rfl (by have := zPf_R j (by omega); unfold zR; omega) hn (fun c16 => ?_) (fun c16 => ?_)
        · refine ZE.iinc (ls2 := [(0, n), (0, (j : Int) + 1)]) d_Pri_isPrime_21 rfl rfl ?_
          refine ZE.goto (tgt := 2) d_Pri_isPrime_24 rfl ?_
          rw [show (j : Int) + 1 = ((j + 1 : Nat) : Int) by omega]
          refine ih (j + 1) (by omega) ?_ (by omega)
          intro q hq
          by_cases e : q = j
          · subst e; omega
          · exact hn0 q (by omega)
        · refine ZE.iconst (n := 1) d_Pri_isPrime_19 ?_
          refine ZE.zret d_Pri_isPrime_20 rfl (by omega) ?_
          rw [b2i_t ⟨j, by omega, c16⟩] at k
          exact k
  exact L2 _ 0 (by omega) (fun q h => absurd h (Nat.not_lt_zero _)) (Nat.lt_succ_self _)
set_option maxRecDepth 20000 in
set_option maxHeartbeats 4000000 in
theorem p_placeOf {d : Nat} {G : zG} {A : Int → Int → Int} {P : Option zV → zG → Prop} {p : Int} (hp : zR p) (hL : lG G A) (k : P (some (0, plc p)) (gw G A)) : ZE (d + 1) M_Pri_placeOf (gw G A) 0 [(0, p), (9, 0)] [] P := by
  refine ZE.iconst (n := 0) d_Pri_placeOf_0 ?_
  refine ZE.istore_n (ls2 := [(0, p), (0, 0)]) d_Pri_placeOf_1 (Nat.le_of_ble_eq_true rfl) rfl ?_
  have L2 : ∀ (t : Nat) (j : Nat) (hj : j ≤ 7) (hn0 : ∀ q : Nat, q < j → (sev q : Int) ≠ p), 7 - j < t → ZE (d + 1) M_Pri_placeOf (gw G A) 2 [(0, p), (0, (j : Int))] [] P := by
    intro t
    induction t with
    | zero => intro j hj hn0 hm; exact absurd hm (Nat.not_lt_zero _)
    | succ t ih =>
      intro j hj hn0 hm
      have hsv := sev_lt j
      refine ZE.iload_n d_Pri_placeOf_2 rfl ?_
      refine ZE.bipush (n := 7) d_Pri_placeOf_3 rfl ?_
      refine ZE.icmp_ge (tgt := 24) d_Pri_placeOf_5 rfl (by unfold zR; omega) (by unfold zR; omega) (fun c5 => ?_) (fun c5 => ?_)
      · refine ZE.iconst (n := (-1)) d_Pri_placeOf_24 ?_
        refine ZE.iret d_Pri_placeOf_25 rfl ?_
        rw [plc_no (by have h0 := hn0 0 (by omega); have h1 := hn0 1 (by omega); have h2 := hn0 2 (by omega); have h3 := hn0 3 (by omega); have h4 := hn0 4 (by omega); have h5 := hn0 5 (by omega); have h6 := hn0 6 (by omega); exact ⟨h0.symm, h1.symm, h2.symm, h3.symm, h4.symm, h5.symm, h6.symm⟩)] at k
        exact k
      · refine ZE.iload_n d_Pri_placeOf_8 rfl ?_
        refine ZE.cS [(0, (j : Int))] [] [(0, (j : Int))] d_Pri_placeOf_9 l_Pri_15 rfl rfl rfl rfl rfl rfl ?_
        refine p_at (j := j) (by omega) hL ?_
        show ZE (d + 1) M_Pri_placeOf (gw G A) 12 [(0, p), (0, (j : Int))] [(0, zPf j)] _
        rw [zPf_sev j (by omega)]
        refine ZE.iload_n d_Pri_placeOf_12 rfl ?_
        refine ZE.icmp_ne (tgt := 18) d_Pri_placeOf_13 rfl (by have := sev_lt j (by omega); unfold zR; omega) hp (fun c13 => ?_) (fun c13 => ?_)
        · refine ZE.iinc (ls2 := [(0, p), (0, (j : Int) + 1)]) d_Pri_placeOf_18 rfl rfl ?_
          refine ZE.goto (tgt := 2) d_Pri_placeOf_21 rfl ?_
          rw [show (j : Int) + 1 = ((j + 1 : Nat) : Int) by omega]
          refine ih (j + 1) (by omega) ?_ (by omega)
          intro q hq
          by_cases e : q = j
          · subst e; omega
          · exact hn0 q (by omega)
        · refine ZE.iload_n d_Pri_placeOf_16 rfl ?_
          refine ZE.iret d_Pri_placeOf_17 rfl ?_
          rw [← c13, plc_sev j (by omega)] at k
          exact k
  exact L2 _ 0 (by omega) (fun q h => absurd h (Nat.not_lt_zero _)) (Nat.lt_succ_self _)
set_option maxRecDepth 20000 in
set_option maxHeartbeats 4000000 in
theorem p_bitOf {d : Nat} {G : zG} {A : Int → Int → Int} {P : Option zV → zG → Prop} {p : Int} (hp : zR p) (hL : lG G A) (k : P (some (0, ((if plc p = -1 then 0 else 2 ^ (plc p).toNat : Nat) : Int))) (gw G A)) : ZE (d + 2) M_Pri_bitOf (gw G A) 0 [(0, p), (9, 0)] [] P := by
  have hpr := plc_R p
  refine ZE.iload_n d_Pri_bitOf_0 rfl ?_
  refine ZE.cS [(0, p)] [] [(0, p), (9, 0)] d_Pri_bitOf_1 l_Pri_19 rfl rfl rfl rfl rfl rfl ?_
  refine p_placeOf hp hL ?_
  show ZE (d + 2) M_Pri_bitOf (gw G A) 4 [(0, p), (9, 0)] [(0, plc p)] _
  refine ZE.istore_n (ls2 := [(0, p), (0, plc p)]) d_Pri_bitOf_4 (Nat.le_of_ble_eq_true rfl) rfl ?_
  refine ZE.iload_n d_Pri_bitOf_5 rfl ?_
  refine ZE.iconst (n := (-1)) d_Pri_bitOf_6 ?_
  refine ZE.icmp_ne (tgt := 14) d_Pri_bitOf_7 rfl (by unfold zR; omega) (by unfold zR; omega) (fun c7 => ?_) (fun c7 => ?_)
  · refine ZE.iconst (n := 1) d_Pri_bitOf_14 ?_
    refine ZE.iload_n d_Pri_bitOf_15 rfl ?_
    refine ZE.ishl d_Pri_bitOf_16 ?_
    refine ZE.iret d_Pri_bitOf_17 rfl ?_
    obtain ⟨kk, hkk⟩ : ∃ kk : Nat, plc p = kk := ⟨(plc p).toNat, by omega⟩
    rw [if_neg (by omega), hkk, Int.toNat_natCast] at k
    have hp6 : 2 ^ kk ≤ 2 ^ 6 := Nat.pow_le_pow_right (by omega) (by omega)
    have hz := zshl_nat (a := 1) (k := kk) (by omega) (by omega)
    rw [Nat.one_mul] at hz
    rw [hkk]
    exact hz ▸ k
  · refine ZE.iconst (n := 0) d_Pri_bitOf_10 ?_
    refine ZE.goto (tgt := 17) d_Pri_bitOf_11 rfl ?_
    refine ZE.iret d_Pri_bitOf_17 rfl ?_
    rw [if_pos (by omega)] at k
    exact k
set_option maxRecDepth 20000 in
set_option maxHeartbeats 4000000 in
theorem p_has {d : Nat} {G : zG} {A : Int → Int → Int} {P : Option zV → zG → Prop} {S : Nat} (hS7 : S < 128) {p : Int} (hp : zR p) (hL : lG G A) (k : P (some (0, b2i (hasB S p = true))) (gw G A)) : ZE (d + 3) M_Pri_has (gw G A) 0 [(0, (S : Int)), (0, p)] [] P := by
  have hpr := plc_R p
  have hbl : (if plc p = -1 then 0 else 2 ^ (plc p).toNat : Nat) < 2 ^ 31 := by split; decide; exact Nat.lt_of_le_of_lt (Nat.pow_le_pow_right (by omega) (show (plc p).toNat ≤ 6 by omega)) (by decide)
  have hhas : S &&& (if plc p = -1 then 0 else 2 ^ (plc p).toNat : Nat) = 0 ↔ ¬ hasB S p = true := by
    unfold hasB
    by_cases q : plc p = -1
    · rw [if_pos q, Nat.and_zero, decide_eq_false (by omega)]; simp
    · rw [if_neg q, decide_eq_true q, Bool.true_and]
      exact and_tab S hS7 _ (by omega)
  refine ZE.iload_n d_Pri_has_0 rfl ?_
  refine ZE.iload_n d_Pri_has_1 rfl ?_
  refine ZE.cS [(0, p)] [(0, (S : Int))] [(0, p), (9, 0)] d_Pri_has_2 l_Pri_22 rfl rfl rfl rfl rfl rfl ?_
  refine p_bitOf hp hL ?_
  show ZE (d + 3) M_Pri_has (gw G A) 5 [(0, (S : Int)), (0, p)] [(0, ((if plc p = -1 then 0 else 2 ^ (plc p).toNat : Nat) : Int)), (0, (S : Int))] _
  refine ZE.iand d_Pri_has_5 ?_
  rw [show (zand (S : Int) ((if plc p = -1 then 0 else 2 ^ (plc p).toNat : Nat) : Int) : Int) = ((S &&& (if plc p = -1 then 0 else 2 ^ (plc p).toNat : Nat) : Nat) : Int) from (zand_nat (by omega) hbl)]
  refine ZE.if_eq (tgt := 13) d_Pri_has_6 rfl (by have := Nat.and_le_left (n := S) (m := (if plc p = -1 then 0 else 2 ^ (plc p).toNat : Nat)); unfold zR; omega) (fun c6 => ?_) (fun c6 => ?_)
  · refine ZE.iconst (n := 0) d_Pri_has_13 ?_
    refine ZE.zret d_Pri_has_14 rfl (by omega) ?_
    rw [b2i_f (hhas.mp (by omega))] at k
    exact k
  · refine ZE.iconst (n := 1) d_Pri_has_9 ?_
    refine ZE.goto (tgt := 14) d_Pri_has_10 rfl ?_
    refine ZE.zret d_Pri_has_14 rfl (by omega) ?_
    rw [b2i_t (Classical.not_not.mp (fun q => c6 (congrArg Nat.cast (hhas.mpr q))))] at k
    exact k
set_option maxRecDepth 20000 in
set_option maxHeartbeats 4000000 in
theorem p_leastOf {d : Nat} {G : zG} {A : Int → Int → Int} {P : Option zV → zG → Prop} {S : Nat} (hS7 : S < 128) (hL : lG G A) (k : P (some (0, lsF S 0 7)) (gw G A)) : ZE (d + 1) M_Pri_leastOf (gw G A) 0 [(0, (S : Int)), (9, 0)] [] P := by
  refine ZE.iconst (n := 0) d_Pri_leastOf_0 ?_
  refine ZE.istore_n (ls2 := [(0, (S : Int)), (0, 0)]) d_Pri_leastOf_1 (Nat.le_of_ble_eq_true rfl) rfl ?_
  have L2 : ∀ (t : Nat) (j : Nat) (hj : j ≤ 7) (hls : lsF S 0 7 = lsF S j (7 - j)), 7 - j < t → ZE (d + 1) M_Pri_leastOf (gw G A) 2 [(0, (S : Int)), (0, (j : Int))] [] P := by
    intro t
    induction t with
    | zero => intro j hj hls hm; exact absurd hm (Nat.not_lt_zero _)
    | succ t ih =>
      intro j hj hls hm
      refine ZE.iload_n d_Pri_leastOf_2 rfl ?_
      refine ZE.bipush (n := 7) d_Pri_leastOf_3 rfl ?_
      refine ZE.icmp_ge (tgt := 28) d_Pri_leastOf_5 rfl (by unfold zR; omega) (by unfold zR; omega) (fun c5 => ?_) (fun c5 => ?_)
      · refine ZE.iconst (n := (-1)) d_Pri_leastOf_28 ?_
        refine ZE.iret d_Pri_leastOf_29 rfl ?_
        rw [hls, show 7 - j = 0 by omega] at k
        exact k
      · refine ZE.iload_n d_Pri_leastOf_8 rfl ?_
        refine ZE.iload_n d_Pri_leastOf_9 rfl ?_
        refine ZE.ishr d_Pri_leastOf_10 ?_
        refine ZE.iconst (n := 1) d_Pri_leastOf_11 ?_
        refine ZE.iand d_Pri_leastOf_12 ?_
        rw [show (zand (zshr (S : Int) (j : Int)) 1 : Int) = ((S / 2 ^ j % 2 : Nat) : Int) from zbit (by omega) (by omega)]
        refine ZE.iconst (n := 1) d_Pri_leastOf_13 ?_
        refine ZE.icmp_ne (tgt := 22) d_Pri_leastOf_14 rfl (by unfold zR; omega) (by unfold zR; omega) (fun c14 => ?_) (fun c14 => ?_)
        · refine ZE.iinc (ls2 := [(0, (S : Int)), (0, (j : Int) + 1)]) d_Pri_leastOf_22 rfl rfl ?_
          refine ZE.goto (tgt := 2) d_Pri_leastOf_25 rfl ?_
          rw [show (j : Int) + 1 = ((j + 1 : Nat) : Int) by omega]
          exact ih (j + 1) (by omega) (by rw [hls, lsF_s (by omega) (fun q => c14 (by have := tbit.mp q; omega)), show 7 - j - 1 = 7 - (j + 1) by omega]) (by omega)
        · refine ZE.iload_n d_Pri_leastOf_17 rfl ?_
          refine ZE.cS [(0, (j : Int))] [] [(0, (j : Int))] d_Pri_leastOf_18 l_Pri_15 rfl rfl rfl rfl rfl rfl ?_
          refine p_at (j := j) (by omega) hL ?_
          show ZE (d + 1) M_Pri_leastOf (gw G A) 21 [(0, (S : Int)), (0, (j : Int))] [(0, zPf j)] _
          rw [zPf_sev j (by omega)]
          refine ZE.iret d_Pri_leastOf_21 rfl ?_
          rw [hls, lsF_0 (by omega) (by omega) (tbit.mpr (by omega))] at k
          exact k
  exact L2 _ 0 (by omega) rfl (Nat.lt_succ_self _)
set_option maxRecDepth 20000 in
set_option maxHeartbeats 4000000 in
theorem p_greatest {d : Nat} {G : zG} {A : Int → Int → Int} {P : Option zV → zG → Prop} {S : Nat} (hS7 : S < 128) (hL : lG G A) (k : P (some (0, (gr S : Int))) (gw G A)) : ZE (d + 1) M_Pri_greatest (gw G A) 0 [(0, (S : Int)), (9, 0), (9, 0)] [] P := by
  refine ZE.iconst (n := 0) d_Pri_greatest_0 ?_
  refine ZE.istore_n (ls2 := [(0, (S : Int)), (0, 0), (9, 0)]) d_Pri_greatest_1 (Nat.le_of_ble_eq_true rfl) rfl ?_
  refine ZE.iconst (n := 0) d_Pri_greatest_2 ?_
  refine ZE.istore_n (ls2 := [(0, (S : Int)), (0, 0), (0, 0)]) d_Pri_greatest_3 (Nat.le_of_ble_eq_true rfl) rfl ?_
  have L4 : ∀ (t : Nat) (j : Nat) (hj : j ≤ 7), 7 - j < t → ZE (d + 1) M_Pri_greatest (gw G A) 4 [(0, (S : Int)), (0, (grF S j : Int)), (0, (j : Int))] [] P := by
    intro t
    induction t with
    | zero => intro j hj hm; exact absurd hm (Nat.not_lt_zero _)
    | succ t ih =>
      intro j hj hm
      refine ZE.iload_n d_Pri_greatest_4 rfl ?_
      refine ZE.bipush (n := 7) d_Pri_greatest_5 rfl ?_
      refine ZE.icmp_ge (tgt := 34) d_Pri_greatest_7 rfl (by unfold zR; omega) (by unfold zR; omega) (fun c7 => ?_) (fun c7 => ?_)
      · refine ZE.iload_n d_Pri_greatest_34 rfl ?_
        refine ZE.iret d_Pri_greatest_35 rfl ?_
        rw [show j = 7 by omega]
        exact k
      · refine ZE.iload_n d_Pri_greatest_10 rfl ?_
        refine ZE.iload_n d_Pri_greatest_11 rfl ?_
        refine ZE.ishr d_Pri_greatest_12 ?_
        refine ZE.iconst (n := 1) d_Pri_greatest_13 ?_
        refine ZE.iand d_Pri_greatest_14 ?_
        rw [show (zand (zshr (S : Int) (j : Int)) 1 : Int) = ((S / 2 ^ j % 2 : Nat) : Int) from zbit (by omega) (by omega)]
        refine ZE.iconst (n := 1) d_Pri_greatest_15 ?_
        refine ZE.icmp_ne (tgt := 26) d_Pri_greatest_16 rfl (by unfold zR; omega) (by unfold zR; omega) (fun c16 => ?_) (fun c16 => ?_)
        · refine ZE.iload_n d_Pri_greatest_26 rfl ?_
          refine ZE.istore_n (ls2 := [(0, (S : Int)), (0, (grF S j : Int)), (0, (j : Int))]) d_Pri_greatest_27 (Nat.le_of_ble_eq_true rfl) rfl ?_
          refine ZE.iinc (ls2 := [(0, (S : Int)), (0, (grF S j : Int)), (0, (j : Int) + 1)]) d_Pri_greatest_28 rfl rfl ?_
          refine ZE.goto (tgt := 4) d_Pri_greatest_31 rfl ?_
          rw [show (j : Int) + 1 = ((j + 1 : Nat) : Int) by omega]
          have e1 : grF S (j + 1) = grF S j := if_neg (fun q => by have := tbit.mp q; omega)
          rw [show ((grF S j : Int) : Int) = (grF S (j + 1) : Int) by rw [e1]]
          exact ih (j + 1) (by omega) (by omega)
        · refine ZE.iload_n d_Pri_greatest_19 rfl ?_
          refine ZE.cS [(0, (j : Int))] [] [(0, (j : Int))] d_Pri_greatest_20 l_Pri_15 rfl rfl rfl rfl rfl rfl ?_
          refine p_at (j := j) (by omega) hL ?_
          show ZE (d + 1) M_Pri_greatest (gw G A) 23 [(0, (S : Int)), (0, (grF S j : Int)), (0, (j : Int))] [(0, zPf j)] _
          rw [zPf_sev j (by omega)]
          refine ZE.goto (tgt := 27) d_Pri_greatest_23 rfl ?_
          refine ZE.istore_n (ls2 := [(0, (S : Int)), (0, (sev j : Int)), (0, (j : Int))]) d_Pri_greatest_27 (Nat.le_of_ble_eq_true rfl) rfl ?_
          refine ZE.iinc (ls2 := [(0, (S : Int)), (0, (sev j : Int)), (0, (j : Int) + 1)]) d_Pri_greatest_28 rfl rfl ?_
          refine ZE.goto (tgt := 4) d_Pri_greatest_31 rfl ?_
          rw [show (j : Int) + 1 = ((j + 1 : Nat) : Int) by omega]
          have e1 : grF S (j + 1) = sev j := if_pos (tbit.mpr (by omega))
          rw [show ((sev j : Int) : Int) = (grF S (j + 1) : Int) by rw [e1]]
          exact ih (j + 1) (by omega) (by omega)
  exact L4 _ 0 (by omega) (Nat.lt_succ_self _)
set_option maxRecDepth 20000 in
set_option maxHeartbeats 4000000 in
theorem p_product {d : Nat} {G : zG} {A : Int → Int → Int} {P : Option zV → zG → Prop} {S : Nat} (hS7 : S < 128) (hL : lG G A) (k : P (some (0, (rad S : Int))) (gw G A)) : ZE (d + 1) M_Pri_product (gw G A) 0 [(0, (S : Int)), (9, 0), (9, 0)] [] P := by
  refine ZE.iconst (n := 1) d_Pri_product_0 ?_
  refine ZE.istore_n (ls2 := [(0, (S : Int)), (0, 1), (9, 0)]) d_Pri_product_1 (Nat.le_of_ble_eq_true rfl) rfl ?_
  refine ZE.iconst (n := 0) d_Pri_product_2 ?_
  refine ZE.istore_n (ls2 := [(0, (S : Int)), (0, 1), (0, 0)]) d_Pri_product_3 (Nat.le_of_ble_eq_true rfl) rfl ?_
  have L4 : ∀ (t : Nat) (j : Nat) (hj : j ≤ 7), 7 - j < t → ZE (d + 1) M_Pri_product (gw G A) 4 [(0, (S : Int)), (0, (rdF S j : Int)), (0, (j : Int))] [] P := by
    intro t
    induction t with
    | zero => intro j hj hm; exact absurd hm (Nat.not_lt_zero _)
    | succ t ih =>
      intro j hj hm
      refine ZE.iload_n d_Pri_product_4 rfl ?_
      refine ZE.bipush (n := 7) d_Pri_product_5 rfl ?_
      refine ZE.icmp_ge (tgt := 36) d_Pri_product_7 rfl (by unfold zR; omega) (by unfold zR; omega) (fun c7 => ?_) (fun c7 => ?_)
      · refine ZE.iload_n d_Pri_product_36 rfl ?_
        refine ZE.iret d_Pri_product_37 rfl ?_
        rw [show j = 7 by omega]
        exact k
      · refine ZE.iload_n d_Pri_product_10 rfl ?_
        refine ZE.iload_n d_Pri_product_11 rfl ?_
        refine ZE.iload_n d_Pri_product_12 rfl ?_
        refine ZE.ishr d_Pri_product_13 ?_
        refine ZE.iconst (n := 1) d_Pri_product_14 ?_
        refine ZE.iand d_Pri_product_15 ?_
        rw [show (zand (zshr (S : Int) (j : Int)) 1 : Int) = ((S / 2 ^ j % 2 : Nat) : Int) from zbit (by omega) (by omega)]
        refine ZE.iconst (n := 1) d_Pri_product_16 ?_
        refine ZE.icmp_ne (tgt := 27) d_Pri_product_17 rfl (by unfold zR; omega) (by unfold zR; omega) (fun c17 => ?_) (fun c17 => ?_)
        · refine ZE.iconst (n := 1) d_Pri_product_27 ?_
          refine ZE.imul d_Pri_product_28 ?_
          refine ZE.istore_n (ls2 := [(0, (S : Int)), (0, (rdF S j : Int) * 1), (0, (j : Int))]) d_Pri_product_29 (Nat.le_of_ble_eq_true rfl) rfl ?_
          refine ZE.iinc (ls2 := [(0, (S : Int)), (0, (rdF S j : Int) * 1), (0, (j : Int) + 1)]) d_Pri_product_30 rfl rfl ?_
          refine ZE.goto (tgt := 4) d_Pri_product_33 rfl ?_
          rw [show (j : Int) + 1 = ((j + 1 : Nat) : Int) by omega]
          have e1 : rdF S (j + 1) = rdF S j := if_neg (fun q => by have := tbit.mp q; omega)
          rw [show ((rdF S j : Int) * 1 : Int) = (rdF S (j + 1) : Int) by rw [e1]; exact Int.mul_one _]
          exact ih (j + 1) (by omega) (by omega)
        · refine ZE.iload_n d_Pri_product_20 rfl ?_
          refine ZE.cS [(0, (j : Int))] [(0, (rdF S j : Int))] [(0, (j : Int))] d_Pri_product_21 l_Pri_15 rfl rfl rfl rfl rfl rfl ?_
          refine p_at (j := j) (by omega) hL ?_
          show ZE (d + 1) M_Pri_product (gw G A) 24 [(0, (S : Int)), (0, (rdF S j : Int)), (0, (j : Int))] [(0, zPf j), (0, (rdF S j : Int))] _
          rw [zPf_sev j (by omega)]
          refine ZE.goto (tgt := 28) d_Pri_product_24 rfl ?_
          refine ZE.imul d_Pri_product_28 ?_
          refine ZE.istore_n (ls2 := [(0, (S : Int)), (0, (rdF S j : Int) * (sev j : Int)), (0, (j : Int))]) d_Pri_product_29 (Nat.le_of_ble_eq_true rfl) rfl ?_
          refine ZE.iinc (ls2 := [(0, (S : Int)), (0, (rdF S j : Int) * (sev j : Int)), (0, (j : Int) + 1)]) d_Pri_product_30 rfl rfl ?_
          refine ZE.goto (tgt := 4) d_Pri_product_33 rfl ?_
          rw [show (j : Int) + 1 = ((j + 1 : Nat) : Int) by omega]
          have e1 : rdF S (j + 1) = rdF S j * sev j := if_pos (tbit.mpr (by omega))
          rw [show ((rdF S j : Int) * (sev j : Int) : Int) = (rdF S (j + 1) : Int) by rw [e1]; exact (Int.natCast_mul _ _).symm]
          exact ih (j + 1) (by omega) (by omega)
  exact L4 _ 0 (by omega) (Nat.lt_succ_self _)
set_option maxRecDepth 20000 in
set_option maxHeartbeats 4000000 in
theorem p_boundOf {d : Nat} {G : zG} {A : Int → Int → Int} {P : Option zV → zG → Prop} {S : Nat} (hS7 : S < 128) (hL : lG G A) (k : P (some (0, (bnd S : Int))) (gw G A)) : ZE (d + 2) M_Pri_boundOf (gw G A) 0 [(0, (S : Int))] [] P := by
  have hg := (gr_le2 S hS7).1
  refine ZE.iconst (n := 3) d_Pri_boundOf_0 ?_
  refine ZE.iload_n d_Pri_boundOf_1 rfl ?_
  refine ZE.cS [(0, (S : Int))] [(0, 3)] [(0, (S : Int)), (9, 0), (9, 0)] d_Pri_boundOf_2 l_Pri_25 rfl rfl rfl rfl rfl rfl ?_
  refine p_greatest hS7 hL ?_
  show ZE (d + 2) M_Pri_boundOf (gw G A) 5 [(0, (S : Int))] [(0, (gr S : Int)), (0, 3)] _
  refine ZE.iconst (n := 1) d_Pri_boundOf_5 ?_
  refine ZE.iadd d_Pri_boundOf_6 ?_
  refine ZE.iconst (n := 2) d_Pri_boundOf_7 ?_
  refine ZE.idivP d_Pri_boundOf_8 (by omega) ?_
  refine ZE.cS [(0, 3), (0, ((gr S : Int) + 1) / 2)] [] [(0, 3), (0, ((gr S : Int) + 1) / 2)] d_Pri_boundOf_9 l_Pri_28 rfl rfl rfl rfl rfl rfl ?_
  refine j_max (by unfold zR; omega) (by unfold zR; omega) ?_
  show ZE (d + 2) M_Pri_boundOf (gw G A) 12 [(0, (S : Int))] [(0, if ((gr S : Int) + 1) / 2 ≤ 3 then 3 else ((gr S : Int) + 1) / 2)] _
  refine ZE.iret d_Pri_boundOf_12 rfl ?_
  rw [show (if ((gr S : Int) + 1) / 2 ≤ 3 then 3 else ((gr S : Int) + 1) / 2) = (bnd S : Int) by unfold bnd; split <;> split <;> omega]
  exact k
set_option maxRecDepth 20000 in
set_option maxHeartbeats 4000000 in
theorem j_bitCount {d : Nat} {G : zG} {A : Int → Int → Int} {P : Option zV → zG → Prop} {n : Nat} (hn : n < 512) (k : P (some (0, (pop n : Int))) (gw G A)) : ZE d M_JInt_bitCount (gw G A) 0 [(0, (n : Int))] [] P := by
  refine ZE.iload_n d_JInt_bitCount_0 rfl ?_
  refine ZE.iload_n d_JInt_bitCount_1 rfl ?_
  refine ZE.iconst (n := 1) d_JInt_bitCount_2 ?_
  refine ZE.iushr d_JInt_bitCount_3 ?_
  refine ZE.ldcw (v := 1431655765) d_JInt_bitCount_4 k_JInt_265 ?_
  refine ZE.iand d_JInt_bitCount_7 ?_
  refine ZE.isub d_JInt_bitCount_8 ?_
  refine ZE.istore_n (ls2 := [(0, (n : Int) - (zand (zushr (n : Int) 1) 1431655765))]) d_JInt_bitCount_9 (Nat.le_of_ble_eq_true rfl) rfl ?_
  refine ZE.iload_n d_JInt_bitCount_10 rfl ?_
  refine ZE.ldcw (v := 858993459) d_JInt_bitCount_11 k_JInt_266 ?_
  refine ZE.iand d_JInt_bitCount_14 ?_
  refine ZE.iload_n d_JInt_bitCount_15 rfl ?_
  refine ZE.iconst (n := 2) d_JInt_bitCount_16 ?_
  refine ZE.iushr d_JInt_bitCount_17 ?_
  refine ZE.ldcw (v := 858993459) d_JInt_bitCount_18 k_JInt_266 ?_
  refine ZE.iand d_JInt_bitCount_21 ?_
  refine ZE.iadd d_JInt_bitCount_22 ?_
  refine ZE.istore_n (ls2 := [(0, (zand ((n : Int) - (zand (zushr (n : Int) 1) 1431655765)) 858993459) + (zand (zushr ((n : Int) - (zand (zushr (n : Int) 1) 1431655765)) 2) 858993459))]) d_JInt_bitCount_23 (Nat.le_of_ble_eq_true rfl) rfl ?_
  refine ZE.iload_n d_JInt_bitCount_24 rfl ?_
  refine ZE.iload_n d_JInt_bitCount_25 rfl ?_
  refine ZE.iconst (n := 4) d_JInt_bitCount_26 ?_
  refine ZE.iushr d_JInt_bitCount_27 ?_
  refine ZE.iadd d_JInt_bitCount_28 ?_
  refine ZE.ldcw (v := 252645135) d_JInt_bitCount_29 k_JInt_267 ?_
  refine ZE.iand d_JInt_bitCount_32 ?_
  refine ZE.istore_n (ls2 := [(0, zand (((zand ((n : Int) - (zand (zushr (n : Int) 1) 1431655765)) 858993459) + (zand (zushr ((n : Int) - (zand (zushr (n : Int) 1) 1431655765)) 2) 858993459)) + (zushr ((zand ((n : Int) - (zand (zushr (n : Int) 1) 1431655765)) 858993459) + (zand (zushr ((n : Int) - (zand (zushr (n : Int) 1) 1431655765)) 2) 858993459)) 4)) 252645135)]) d_JInt_bitCount_33 (Nat.le_of_ble_eq_true rfl) rfl ?_
  refine ZE.iload_n d_JInt_bitCount_34 rfl ?_
  refine ZE.iload_n d_JInt_bitCount_35 rfl ?_
  refine ZE.bipush (n := 8) d_JInt_bitCount_36 rfl ?_
  refine ZE.iushr d_JInt_bitCount_38 ?_
  refine ZE.iadd d_JInt_bitCount_39 ?_
  refine ZE.istore_n (ls2 := [(0, (zand (((zand ((n : Int) - (zand (zushr (n : Int) 1) 1431655765)) 858993459) + (zand (zushr ((n : Int) - (zand (zushr (n : Int) 1) 1431655765)) 2) 858993459)) + (zushr ((zand ((n : Int) - (zand (zushr (n : Int) 1) 1431655765)) 858993459) + (zand (zushr ((n : Int) - (zand (zushr (n : Int) 1) 1431655765)) 2) 858993459)) 4)) 252645135) + (zushr (zand (((zand ((n : Int) - (zand (zushr (n : Int) 1) 1431655765)) 858993459) + (zand (zushr ((n : Int) - (zand (zushr (n : Int) 1) 1431655765)) 2) 858993459)) + (zushr ((zand ((n : Int) - (zand (zushr (n : Int) 1) 1431655765)) 858993459) + (zand (zushr ((n : Int) - (zand (zushr (n : Int) 1) 1431655765)) 2) 858993459)) 4)) 252645135) 8))]) d_JInt_bitCount_40 (Nat.le_of_ble_eq_true rfl) rfl ?_
  refine ZE.iload_n d_JInt_bitCount_41 rfl ?_
  refine ZE.iload_n d_JInt_bitCount_42 rfl ?_
  refine ZE.bipush (n := 16) d_JInt_bitCount_43 rfl ?_
  refine ZE.iushr d_JInt_bitCount_45 ?_
  refine ZE.iadd d_JInt_bitCount_46 ?_
  refine ZE.istore_n (ls2 := [(0, ((zand (((zand ((n : Int) - (zand (zushr (n : Int) 1) 1431655765)) 858993459) + (zand (zushr ((n : Int) - (zand (zushr (n : Int) 1) 1431655765)) 2) 858993459)) + (zushr ((zand ((n : Int) - (zand (zushr (n : Int) 1) 1431655765)) 858993459) + (zand (zushr ((n : Int) - (zand (zushr (n : Int) 1) 1431655765)) 2) 858993459)) 4)) 252645135) + (zushr (zand (((zand ((n : Int) - (zand (zushr (n : Int) 1) 1431655765)) 858993459) + (zand (zushr ((n : Int) - (zand (zushr (n : Int) 1) 1431655765)) 2) 858993459)) + (zushr ((zand ((n : Int) - (zand (zushr (n : Int) 1) 1431655765)) 858993459) + (zand (zushr ((n : Int) - (zand (zushr (n : Int) 1) 1431655765)) 2) 858993459)) 4)) 252645135) 8)) + (zushr ((zand (((zand ((n : Int) - (zand (zushr (n : Int) 1) 1431655765)) 858993459) + (zand (zushr ((n : Int) - (zand (zushr (n : Int) 1) 1431655765)) 2) 858993459)) + (zushr ((zand ((n : Int) - (zand (zushr (n : Int) 1) 1431655765)) 858993459) + (zand (zushr ((n : Int) - (zand (zushr (n : Int) 1) 1431655765)) 2) 858993459)) 4)) 252645135) + (zushr (zand (((zand ((n : Int) - (zand (zushr (n : Int) 1) 1431655765)) 858993459) + (zand (zushr ((n : Int) - (zand (zushr (n : Int) 1) 1431655765)) 2) 858993459)) + (zushr ((zand ((n : Int) - (zand (zushr (n : Int) 1) 1431655765)) 858993459) + (zand (zushr ((n : Int) - (zand (zushr (n : Int) 1) 1431655765)) 2) 858993459)) 4)) 252645135) 8)) 16))]) d_JInt_bitCount_47 (Nat.le_of_ble_eq_true rfl) rfl ?_
  refine ZE.iload_n d_JInt_bitCount_48 rfl ?_
  refine ZE.bipush (n := 63) d_JInt_bitCount_49 rfl ?_
  refine ZE.iand d_JInt_bitCount_51 ?_
  refine ZE.iret d_JInt_bitCount_52 rfl ?_
  rw [← bc_tab n hn] at k
  exact k
set_option maxRecDepth 20000 in
set_option maxHeartbeats 4000000 in
theorem j_floorModI {d : Nat} {G : zG} {A : Int → Int → Int} {P : Option zV → zG → Prop} {x1 : Int} {m : Nat} (hx : zR x1) (hm : 0 < m) (hm2 : m < 2147483648) (k : P (some (0, x1 % (m : Int))) (gw G A)) : ZE d M_JMath_floorModI (gw G A) 0 [(0, x1), (0, (m : Int)), (9, 0)] [] P := by
  have hsg := zxor_sg hx (m := (m : Int)) (by omega)
  have htm : zR (x1.tmod (m : Int)) := by
    have h1 := Int.tmod_lt_of_pos x1 (show (0 : Int) < m by omega)
    have h2 := Int.lt_tmod_of_pos x1 (show (0 : Int) < m by omega)
    unfold zR; omega
  refine ZE.iload_n d_JMath_floorModI_0 rfl ?_
  refine ZE.iload_n d_JMath_floorModI_1 rfl ?_
  refine ZE.irem d_JMath_floorModI_2 hx (by unfold zR; omega) (by omega) ?_
  refine ZE.istore_n (ls2 := [(0, x1), (0, (m : Int)), (0, (x1).tmod (m : Int))]) d_JMath_floorModI_3 (Nat.le_of_ble_eq_true rfl) rfl ?_
  refine ZE.iload_n d_JMath_floorModI_4 rfl ?_
  refine ZE.iload_n d_JMath_floorModI_5 rfl ?_
  refine ZE.ixor d_JMath_floorModI_6 ?_
  refine ZE.if_ge (tgt := 18) d_JMath_floorModI_7 rfl (by unfold zxor; have h1 := Int32.le_toInt (Int32.ofInt x1 ^^^ Int32.ofInt (m : Int)); have h2 := Int32.toInt_lt (Int32.ofInt x1 ^^^ Int32.ofInt (m : Int)); unfold zR; omega) (fun c7 => ?_) (fun c7 => ?_)
  · refine ZE.iload_n d_JMath_floorModI_18 rfl ?_
    refine ZE.iret d_JMath_floorModI_19 rfl ?_
    by_cases hng : x1 < 0
    · have hzz : x1.tmod (m : Int) = 0 := by
        first | exact c11 | exact absurd (hsg.mpr hng) (by omega)
      rw [← floor_b hng (by omega) hzz] at k
      exact k
    · rw [← Int.tmod_eq_emod_of_nonneg (by omega)] at k
      exact k
  · refine ZE.iload_n d_JMath_floorModI_10 rfl ?_
    refine ZE.if_eq (tgt := 18) d_JMath_floorModI_11 rfl htm (fun c11 => ?_) (fun c11 => ?_)
    · refine ZE.iload_n d_JMath_floorModI_18 rfl ?_
      refine ZE.iret d_JMath_floorModI_19 rfl ?_
      by_cases hng : x1 < 0
      · have hzz : x1.tmod (m : Int) = 0 := by
          first | exact c11 | exact absurd (hsg.mpr hng) (by omega)
        rw [← floor_b hng (by omega) hzz] at k
        exact k
      · rw [← Int.tmod_eq_emod_of_nonneg (by omega)] at k
        exact k
    · refine ZE.iload_n d_JMath_floorModI_14 rfl ?_
      refine ZE.iload_n d_JMath_floorModI_15 rfl ?_
      refine ZE.iadd d_JMath_floorModI_16 ?_
      refine ZE.iret d_JMath_floorModI_17 rfl ?_
      rw [← floor_a (hsg.mp (by omega)) (by omega) c11] at k
      exact k
set_option maxRecDepth 20000 in
set_option maxHeartbeats 4000000 in
theorem j_floorModJ {d : Nat} {G : zG} {A : Int → Int → Int} {P : Option zV → zG → Prop} {x1 : Int} {m : Nat} (hx : zR64 x1) (hm : 0 < m) (hm2 : m < 2147483648) (k : P (some (1, x1 % (m : Int))) (gw G A)) : ZE d M_JMath_floorModJ (gw G A) 0 [(1, x1), (9, 0), (1, (m : Int)), (9, 0), (9, 0), (9, 0)] [] P := by
  have hsg := zlxor_sg hx (m := (m : Int)) (by omega)
  have htm : zR64 (x1.tmod (m : Int)) := by
    have h1 := Int.tmod_lt_of_pos x1 (show (0 : Int) < m by omega)
    have h2 := Int.lt_tmod_of_pos x1 (show (0 : Int) < m by omega)
    unfold zR64; omega
  refine ZE.lload_n d_JMath_floorModJ_0 rfl ?_
  refine ZE.lload_n d_JMath_floorModJ_1 rfl ?_
  refine ZE.lrem d_JMath_floorModJ_2 hx (by unfold zR64; omega) (by omega) ?_
  refine ZE.lstore (ls2 := [(1, x1), (9, 0), (1, (m : Int)), (9, 0), (1, (x1).tmod (m : Int)), (9, 0)]) d_JMath_floorModJ_3 (Nat.le_of_ble_eq_true rfl) rfl ?_
  refine ZE.lload_n d_JMath_floorModJ_5 rfl ?_
  refine ZE.lload_n d_JMath_floorModJ_6 rfl ?_
  refine ZE.lxor d_JMath_floorModJ_7 ?_
  refine ZE.lconst d_JMath_floorModJ_8 ?_
  show ZE d M_JMath_floorModJ (gw G A) 9 [(1, x1), (9, 0), (1, (m : Int)), (9, 0), (1, (x1).tmod (m : Int)), (9, 0)] [(1, 0), (1, zlxor x1 (m : Int))] _
  refine ZE.lcmp d_JMath_floorModJ_9 (by unfold zlxor; have h1 := Int64.le_toInt (Int64.ofInt x1 ^^^ Int64.ofInt (m : Int)); have h2 := Int64.toInt_lt (Int64.ofInt x1 ^^^ Int64.ofInt (m : Int)); unfold zR64; omega) (by unfold zR64; omega) ?_
  refine ZE.if_ge (tgt := 25) d_JMath_floorModJ_10 rfl (zR_zcmp _ _) (fun c10 => ?_) (fun c10 => ?_)
  · replace c10 := zcmp_ge.mp c10
    refine ZE.lload d_JMath_floorModJ_25 rfl ?_
    refine ZE.lret d_JMath_floorModJ_27 rfl ?_
    by_cases hng : x1 < 0
    · have hzz : x1.tmod (m : Int) = 0 := by
        first | exact c17 | exact absurd (hsg.mpr hng) (by omega)
      rw [← floor_b hng (by omega) hzz] at k
      exact k
    · rw [← Int.tmod_eq_emod_of_nonneg (by omega)] at k
      exact k
  · replace c10 := (not_congr zcmp_ge).mp c10
    refine ZE.lload d_JMath_floorModJ_13 rfl ?_
    refine ZE.lconst d_JMath_floorModJ_15 ?_
    show ZE d M_JMath_floorModJ (gw G A) 16 [(1, x1), (9, 0), (1, (m : Int)), (9, 0), (1, (x1).tmod (m : Int)), (9, 0)] [(1, 0), (1, (x1).tmod (m : Int))] _
    refine ZE.lcmp d_JMath_floorModJ_16 htm (by unfold zR64; omega) ?_
    refine ZE.if_eq (tgt := 25) d_JMath_floorModJ_17 rfl (zR_zcmp _ _) (fun c17 => ?_) (fun c17 => ?_)
    · replace c17 := zcmp_eq.mp c17
      refine ZE.lload d_JMath_floorModJ_25 rfl ?_
      refine ZE.lret d_JMath_floorModJ_27 rfl ?_
      by_cases hng : x1 < 0
      · have hzz : x1.tmod (m : Int) = 0 := by
          first | exact c17 | exact absurd (hsg.mpr hng) (by omega)
        rw [← floor_b hng (by omega) hzz] at k
        exact k
      · rw [← Int.tmod_eq_emod_of_nonneg (by omega)] at k
        exact k
    · replace c17 := (not_congr zcmp_eq).mp c17
      refine ZE.lload d_JMath_floorModJ_20 rfl ?_
      refine ZE.lload_n d_JMath_floorModJ_22 rfl ?_
      refine ZE.ladd d_JMath_floorModJ_23 ?_
      refine ZE.lret d_JMath_floorModJ_24 rfl ?_
      rw [← floor_a (hsg.mp (by omega)) (by omega) c17] at k
      exact k
