theorem nd10B {v : Nat} (hv : v ≠ 0) : nd 10 v = 9 * (nd 1000000000 v - 1) + nd 10 (dg 1000000000 v (nd 1000000000 v - 1)) ∧ dg 1000000000 v (nd 1000000000 v - 1) ≠ 0 := by
  obtain ⟨h1, h2⟩ := dg_top (b := 1000000000) (by omega) hv
  have hN : 0 < nd 1000000000 v := (nd_pos_iff (by omega)).mpr hv
  obtain ⟨N, hN2⟩ : ∃ N, nd 1000000000 v = N + 1 := ⟨nd 1000000000 v - 1, by omega⟩
  rw [hN2, Nat.add_sub_cancel] at h1 h2 ⊢
  rw [h1]
  refine ⟨?_, by omega⟩
  obtain ⟨T, hT⟩ : ∃ T, T = v / 1000000000 ^ N := ⟨_, rfl⟩
  rw [← hT] at h2 ⊢
  have e : (1000000000 : Nat) ^ N = 10 ^ (9 * N) := by rw [Nat.pow_mul]
  have hp : 0 < 10 ^ (9 * N) := Nat.pow_pos (by omega)
  have hd := Nat.mod_add_div v (10 ^ (9 * N))
  rw [← e, ← hT, e] at hd
  have hl := Nat.mod_lt v hp
  have hq : 0 < nd 10 T := (nd_pos_iff (by omega)).mpr (by omega)
  refine nd_eq (by omega) ?_ (Or.inr ?_)
  · have h3 := nd_self (b := 10) (by omega) T
    rw [Nat.pow_add]
    have h4 : 10 ^ (9 * N) * (T + 1) ≤ 10 ^ (9 * N) * 10 ^ nd 10 T := Nat.mul_le_mul_left _ h3
    rw [Nat.mul_add, Nat.mul_one] at h4
    omega
  · have h3 : 10 ^ (nd 10 T - 1) ≤ T := nd_ge (by omega) (by omega)
    have h4 : 10 ^ (9 * N) * 10 ^ (nd 10 T - 1) ≤ 10 ^ (9 * N) * T := Nat.mul_le_mul_left _ h3
    rw [← Nat.pow_add] at h4
    rw [show 9 * N + nd 10 T - 1 = 9 * N + (nd 10 T - 1) by omega]
    omega
theorem dl_longB {v : Nat} (hv : v ≠ 0) : dl v = 9 * (nd 1000000000 v - 1) + dl (dg 1000000000 v (nd 1000000000 v - 1)) := by
  obtain ⟨h1, h2⟩ := nd10B hv
  rw [dl_pos hv, dl_pos h2, h1]
theorem dg10B (v k : Nat) : dg 10 v k = dg 10 (dg 1000000000 v (k / 9)) (k % 9) := by
  unfold dg
  have e1 : (1000000000 : Nat) = 10 ^ (k % 9) * (10 * 10 ^ (8 - k % 9)) := by
    have : k % 9 = 0 ∨ k % 9 = 1 ∨ k % 9 = 2 ∨ k % 9 = 3 ∨ k % 9 = 4 ∨ k % 9 = 5 ∨ k % 9 = 6 ∨ k % 9 = 7 ∨ k % 9 = 8 := by omega
    rcases this with h | h | h | h | h | h | h | h | h <;> rw [h]
  have e2 : v / 10 ^ k = v / 1000000000 ^ (k / 9) / 10 ^ (k % 9) := by
    rw [Nat.div_div_eq_div_mul, show (1000000000 : Nat) = 10 ^ 9 from rfl, ← Nat.pow_mul, ← Nat.pow_add]
    congr 2
    omega
  rw [e2]
  generalize v / 1000000000 ^ (k / 9) = u
  rw [e1, Nat.mod_mul_right_div_self, Nat.mod_mul_right_mod]
theorem dl_step {r : Nat} (h : 10 ≤ r) : dl r = dl (r / 10) + 1 := by
  unfold dl
  rw [nd_pos (b := 10) (by omega) (show r / 10 ≠ 0 by omega)]
theorem dl_one {r : Nat} (h : r < 10) : dl r = 1 := by
  unfold dl
  rw [Nat.div_eq_of_lt h]
  rfl
def cmZ (v u : Nat) : Int := if v < u then -1 else if v = u then 0 else 1
theorem vp_lt {p v n : Nat} (hp : 2 ≤ p) (h0 : 0 < v) (h : v < 2 ^ n) : vp p v < n ∨ (vp p v = 0) := by
  have h1 : ∀ t v : Nat, v ≤ t → 0 < v → p ^ vp p v ≤ v := by
    intro t
    induction t with
    | zero => intro v a b; omega
    | succ t ih =>
      intro v a b
      by_cases q : v % p = 0
      · obtain ⟨e1, e2, e3⟩ := vp_step hp b q
        have e4 := ih (v / p) (by omega) e2
        have e5 := Nat.div_add_mod v p
        rw [e1, Nat.pow_succ, Nat.mul_comm]
        have e6 := Nat.mul_le_mul_left p e4
        omega
      · rw [vp_end q]; exact b
  have h2 := h1 v v (Nat.le_refl _) h0
  have h3 : 2 ^ vp p v ≤ p ^ vp p v := Nat.pow_le_pow_left hp _
  rcases Nat.lt_or_ge (vp p v) n with q | q
  · exact Or.inl q
  · have := Nat.pow_le_pow_right (show 0 < 2 by omega) q; omega
set_option maxRecDepth 20000 in
set_option maxHeartbeats 4000000 in
theorem B_limbCount {d : Nat} {G : zG} {A : Int → Int → Int} {P : Option zV → zG → Prop}  {b : Int} {cap : Nat} (hB : bK G b cap) {v : Nat} (hv : bN A b v) (k : P (some (0, (nd 1000000000 v : Int))) (gw G A)) : ZE d M_Big_limbCount (gw G A) 0 [(2, b)] [] P := by
  refine ZE.aload_n d_Big_limbCount_0 rfl ?_
  refine ZE.getE (v := (nd 1000000000 v : Int)) d_Big_limbCount_1 f_Big_15 (tg := 0) rfl hB.1 hv.2.1 ?_
  refine ZE.iret d_Big_limbCount_4 rfl ?_
  exact k
set_option maxRecDepth 20000 in
set_option maxHeartbeats 4000000 in
theorem B_asInt {d : Nat} {G : zG} {A : Int → Int → Int} {P : Option zV → zG → Prop}  {b : Int} {cap : Nat} (hB : bK G b cap) {v : Nat} (hv : bN A b v) (h9 : nd 1000000000 v ≤ cap) (k : P (some (0, if v < 1000000000 then (v : Int) else -1)) (gw G A)) : ZE (d + 1) M_Big_asInt (gw G A) 0 [(2, b)] [] P := by
  have hcp := hB.2.2.2.2.2
  refine ZE.aload_n d_Big_asInt_0 rfl ?_
  refine ZE.getE (v := (nd 1000000000 v : Int)) d_Big_asInt_1 f_Big_15 (tg := 0) rfl hB.1 hv.2.1 ?_
  refine ZE.iconst (n := 1) d_Big_asInt_4 ?_
  refine ZE.icmp_le (tgt := 12) d_Big_asInt_5 rfl (by unfold zR; omega) (by unfold zR; omega) (fun c5 => ?_) (fun c5 => ?_)
  · refine ZE.aload_n d_Big_asInt_12 rfl ?_
    refine ZE.iconst (n := 0) d_Big_asInt_13 ?_
    refine ZE.cV [(0, 0)] [] [(2, b), (0, 0)] d_Big_asInt_14 l_Big_25 rfl rfl rfl rfl rfl rfl hB.1 ?_
    refine B_limbAt (v := v) (i := 0) hB hv h9 (by omega) ?_
    show ZE (d + 1) M_Big_asInt (gw G A) 17 [(2, b)] [(0, (dg 1000000000 v 0 : Int))] _
    refine ZE.iret d_Big_asInt_17 rfl ?_
    have hl2 : v < 1000000000 := by have h1 := (nd_lt (b := 1000000000) (by omega) 1 v).mpr (by omega); rw [Nat.pow_one] at h1; exact h1
    rw [if_pos hl2] at k
    rw [dg_z, Nat.mod_eq_of_lt hl2]
    exact k
  · refine ZE.iconst (n := (-1)) d_Big_asInt_8 ?_
    refine ZE.goto (tgt := 17) d_Big_asInt_9 rfl ?_
    refine ZE.iret d_Big_asInt_17 rfl ?_
    have hn2 : ¬ v < 1000000000 := fun q => by have h1 : nd 1000000000 v ≤ 1 := nd_le (by omega) (by rw [Nat.pow_one]; exact q); omega
    rw [if_neg hn2] at k
    exact k
set_option maxRecDepth 20000 in
set_option maxHeartbeats 4000000 in
theorem B_compareWith {d : Nat} {G : zG} {A : Int → Int → Int} {P : Option zV → zG → Prop}  {b : Int} {cap : Nat} (hB : bK G b cap) {v : Nat} (hv : bN A b v) {c : Int} {cap2 : Nat} (hC : bK G c cap2) {u : Nat} (hu : bN A c u) (h9 : nd 1000000000 v ≤ cap) (h9c : nd 1000000000 u ≤ cap2) (k : P (some (0, cmZ v u)) (gw G A)) : ZE (d + 1) M_Big_compareWith (gw G A) 0 [(2, b), (2, c), (9, 0), (9, 0), (9, 0)] [] P := by
  have hcp := hB.2.2.2.2.2
  have hcp2 := hC.2.2.2.2.2
  refine ZE.aload_n d_Big_compareWith_0 rfl ?_
  refine ZE.getE (v := (nd 1000000000 v : Int)) d_Big_compareWith_1 f_Big_15 (tg := 0) rfl hB.1 hv.2.1 ?_
  refine ZE.aload_n d_Big_compareWith_4 rfl ?_
  refine ZE.getE (v := (nd 1000000000 u : Int)) d_Big_compareWith_5 f_Big_15 (tg := 0) rfl hC.1 hu.2.1 ?_
  refine ZE.icmp_eq (tgt := 28) d_Big_compareWith_8 rfl (by unfold zR; omega) (by unfold zR; omega) (fun c8 => ?_) (fun c8 => ?_)
  · refine ZE.aload_n d_Big_compareWith_28 rfl ?_
    refine ZE.getE (v := (nd 1000000000 v : Int)) d_Big_compareWith_29 f_Big_15 (tg := 0) rfl hB.1 hv.2.1 ?_
    refine ZE.iconst (n := 1) d_Big_compareWith_32 ?_
    refine ZE.isub d_Big_compareWith_33 ?_
    refine ZE.istore_n (ls2 := [(2, b), (2, c), (0, (nd 1000000000 v : Int) - 1), (9, 0), (9, 0)]) d_Big_compareWith_34 (Nat.le_of_ble_eq_true rfl) rfl ?_
    have L35 : ∀ (t : Nat) (j : Nat) (hj : j ≤ nd 1000000000 v) (hq : v / 1000000000 ^ j = u / 1000000000 ^ j), j < t → ZE (d + 1) M_Big_compareWith (gw G A) 35 [(2, b), (2, c), (0, (j : Int) - 1), (9, 0), (9, 0)] [] P := by
      intro t
      induction t with
      | zero => intro j hj hq hm; exact absurd hm (Nat.not_lt_zero _)
      | succ t ih =>
        intro j hj hq hm
        rcases Nat.eq_zero_or_pos j with hj0 | hj0
        · subst hj0
          refine ZE.iload_n d_Big_compareWith_35 rfl ?_
          refine ZE.if_lt (tgt := 76) d_Big_compareWith_36 rfl (by unfold zR; omega) (fun c36 => ?_) (fun c36 => ?_)
          · refine ZE.iconst (n := 0) d_Big_compareWith_76 ?_
            refine ZE.iret d_Big_compareWith_77 rfl ?_
            rw [Nat.pow_zero, Nat.div_one, Nat.div_one] at hq
            rw [show cmZ v u = 0 by unfold cmZ; rw [if_neg (by omega), if_pos hq]] at k
            exact k
          · exact absurd c36 (by omega)
        · obtain ⟨i, rfl⟩ : ∃ i, j = i + 1 := ⟨j - 1, by omega⟩
          rw [show ((i + 1 : Nat) : Int) - 1 = (i : Int) by omega]
          have s1 := div_step 1000000000 v i
          have s2 := div_step 1000000000 u i
          have t1 := dB_lt v i
          have t2 := dB_lt u i
          refine ZE.iload_n d_Big_compareWith_35 rfl ?_
          refine ZE.if_lt (tgt := 76) d_Big_compareWith_36 rfl (by unfold zR; omega) (fun c36 => ?_) (fun c36 => ?_)
          · exact absurd c36 (by omega)
          · refine ZE.aload_n d_Big_compareWith_39 rfl ?_
            refine ZE.iload_n d_Big_compareWith_40 rfl ?_
            refine ZE.cV [(0, (i : Int))] [] [(2, b), (0, (i : Int))] d_Big_compareWith_41 l_Big_25 rfl rfl rfl rfl rfl rfl hB.1 ?_
            refine B_limbAt (v := v) (i := i) hB hv h9 (by omega) ?_
            show ZE (d + 1) M_Big_compareWith (gw G A) 44 [(2, b), (2, c), (0, (i : Int)), (9, 0), (9, 0)] [(0, (dg 1000000000 v i : Int))] _
            refine ZE.istore_n (ls2 := [(2, b), (2, c), (0, (i : Int)), (0, (dg 1000000000 v i : Int)), (9, 0)]) d_Big_compareWith_44 (Nat.le_of_ble_eq_true rfl) rfl ?_
            refine ZE.aload_n d_Big_compareWith_45 rfl ?_
            refine ZE.iload_n d_Big_compareWith_46 rfl ?_
            refine ZE.cV [(0, (i : Int))] [] [(2, c), (0, (i : Int))] d_Big_compareWith_47 l_Big_25 rfl rfl rfl rfl rfl rfl hC.1 ?_
            refine B_limbAt (v := u) (i := i) hC hu h9c (by omega) ?_
            show ZE (d + 1) M_Big_compareWith (gw G A) 50 [(2, b), (2, c), (0, (i : Int)), (0, (dg 1000000000 v i : Int)), (9, 0)] [(0, (dg 1000000000 u i : Int))] _
            refine ZE.istore (ls2 := [(2, b), (2, c), (0, (i : Int)), (0, (dg 1000000000 v i : Int)), (0, (dg 1000000000 u i : Int))]) d_Big_compareWith_50 (Nat.le_of_ble_eq_true rfl) rfl ?_
            refine ZE.iload_n d_Big_compareWith_52 rfl ?_
            refine ZE.iload d_Big_compareWith_53 rfl ?_
            refine ZE.icmp_eq (tgt := 70) d_Big_compareWith_55 rfl (by unfold zR; omega) (by unfold zR; omega) (fun c55 => ?_) (fun c55 => ?_)
            · refine ZE.iinc (ls2 := [(2, b), (2, c), (0, (i : Int) + (-1)), (0, (dg 1000000000 v i : Int)), (0, (dg 1000000000 u i : Int))]) d_Big_compareWith_70 rfl rfl ?_
              refine ZE.goto (tgt := 35) d_Big_compareWith_73 rfl ?_
              refine ZE.mask [true, true, true, false, false] ?_
              show ZE (d + 1) M_Big_compareWith (gw G A) 35 [(2, b), (2, c), (0, (i : Int) + (-1)), (9, 0), (9, 0)] [] _
              rw [show (i : Int) + (-1) = (i : Int) - 1 by omega]
              exact ih i (by omega) (by omega) (by omega)
            · refine ZE.iload_n d_Big_compareWith_58 rfl ?_
              refine ZE.iload d_Big_compareWith_59 rfl ?_
              refine ZE.icmp_ge (tgt := 68) d_Big_compareWith_61 rfl (by unfold zR; omega) (by unfold zR; omega) (fun c61 => ?_) (fun c61 => ?_)
              · have h3 : u / 1000000000 ^ i < v / 1000000000 ^ i := by omega
                have h4 : u < v := by
                  rcases Nat.lt_or_ge u v with q | q
                  · exact q
                  · have := Nat.div_le_div_right (c := 1000000000 ^ i) q; omega
                refine ZE.iconst (n := 1) d_Big_compareWith_68 ?_
                refine ZE.iret d_Big_compareWith_69 rfl ?_
                rw [show cmZ v u = 1 by unfold cmZ; rw [if_neg (by omega), if_neg (by omega)]] at k
                exact k
              · have h3 : v / 1000000000 ^ i < u / 1000000000 ^ i := by omega
                have h4 : v < u := by
                  rcases Nat.lt_or_ge v u with q | q
                  · exact q
                  · have := Nat.div_le_div_right (c := 1000000000 ^ i) q; omega
                refine ZE.iconst (n := (-1)) d_Big_compareWith_64 ?_
                refine ZE.goto (tgt := 69) d_Big_compareWith_65 rfl ?_
                refine ZE.iret d_Big_compareWith_69 rfl ?_
                rw [show cmZ v u = -1 by unfold cmZ; rw [if_pos h4]] at k
                exact k
    exact L35 _ (nd 1000000000 v) (Nat.le_refl _) (by rw [Nat.div_eq_of_lt (nd_self (by omega) v), Nat.div_eq_of_lt ((nd_lt (by omega) _ _).mpr (by omega))]) (Nat.lt_succ_self _)
  · refine ZE.aload_n d_Big_compareWith_11 rfl ?_
    refine ZE.getE (v := (nd 1000000000 v : Int)) d_Big_compareWith_12 f_Big_15 (tg := 0) rfl hB.1 hv.2.1 ?_
    refine ZE.aload_n d_Big_compareWith_15 rfl ?_
    refine ZE.getE (v := (nd 1000000000 u : Int)) d_Big_compareWith_16 f_Big_15 (tg := 0) rfl hC.1 hu.2.1 ?_
    refine ZE.icmp_ge (tgt := 26) d_Big_compareWith_19 rfl (by unfold zR; omega) (by unfold zR; omega) (fun c19 => ?_) (fun c19 => ?_)
    · have h4 : u < v := by
        have := Nat.lt_of_lt_of_le (nd_self (by omega) u) (Nat.le_trans (Nat.pow_le_pow_right (by omega) (show nd 1000000000 u ≤ nd 1000000000 v - 1 by omega)) (nd_ge (by omega) (show nd 1000000000 v - 1 < nd 1000000000 v by omega)))
        omega
      refine ZE.iconst (n := 1) d_Big_compareWith_26 ?_
      refine ZE.iret d_Big_compareWith_27 rfl ?_
      rw [show cmZ v u = 1 by unfold cmZ; rw [if_neg (by omega), if_neg (by omega)]] at k
      exact k
    · have h4 : v < u := by
        have := Nat.lt_of_lt_of_le (nd_self (by omega) v) (Nat.le_trans (Nat.pow_le_pow_right (by omega) (show nd 1000000000 v ≤ nd 1000000000 u - 1 by omega)) (nd_ge (by omega) (show nd 1000000000 u - 1 < nd 1000000000 u by omega)))
        omega
      refine ZE.iconst (n := (-1)) d_Big_compareWith_22 ?_
      refine ZE.goto (tgt := 27) d_Big_compareWith_23 rfl ?_
      refine ZE.iret d_Big_compareWith_27 rfl ?_
      rw [show cmZ v u = -1 by unfold cmZ; rw [if_pos h4]] at k
      exact k
set_option maxRecDepth 20000 in
set_option maxHeartbeats 4000000 in
theorem B_digits {d : Nat} {G : zG} {A : Int → Int → Int} {P : Option zV → zG → Prop}  {b : Int} {cap : Nat} (hB : bK G b cap) {v : Nat} (hv : bN A b v) (h9 : nd 1000000000 v ≤ cap) (k : P (some (0, (dl v : Int))) (gw G A)) : ZE (d + 1) M_Big_digits (gw G A) 0 [(2, b), (9, 0), (9, 0)] [] P := by
  have hcp := hB.2.2.2.2.2
  refine ZE.iconst (n := 1) d_Big_digits_0 ?_
  refine ZE.istore_n (ls2 := [(2, b), (0, 1), (9, 0)]) d_Big_digits_1 (Nat.le_of_ble_eq_true rfl) rfl ?_
  rcases Nat.eq_zero_or_pos v with hv0 | hv0
  · have hn0 : nd 1000000000 v = 0 := by rw [hv0]; rfl
    refine ZE.aload_n d_Big_digits_2 rfl ?_
    refine ZE.aload_n d_Big_digits_3 rfl ?_
    refine ZE.getE (v := (nd 1000000000 v : Int)) d_Big_digits_4 f_Big_15 (tg := 0) rfl hB.1 hv.2.1 ?_
    refine ZE.iconst (n := 1) d_Big_digits_7 ?_
    refine ZE.isub d_Big_digits_8 ?_
    rw [show ((nd 1000000000 v : Int) - 1 : Int) = (-1) from (by omega)]
    refine ZE.cV [(0, (-1))] [] [(2, b), (0, (-1))] d_Big_digits_9 l_Big_25 rfl rfl rfl rfl rfl rfl hB.1 ?_
    refine B_limbM hB ?_
    show ZE (d + 1) M_Big_digits (gw G A) 12 [(2, b), (0, 1), (9, 0)] [(0, 0)] _
    refine ZE.istore_n (ls2 := [(2, b), (0, 1), (0, 0)]) d_Big_digits_12 (Nat.le_of_ble_eq_true rfl) rfl ?_
    have L13 : ∀ (t : Nat) (m : Nat) (r : Nat) (hr : r < 1000000000) (hm1 : m + dl r = 1 + dl 0), r < t → ZE (d + 1) M_Big_digits (gw G A) 13 [(2, b), (0, (m : Int)), (0, (r : Int))] [] P := by
      intro t
      induction t with
      | zero => intro m r hr hm1 hm; exact absurd hm (Nat.not_lt_zero _)
      | succ t ih =>
        intro m r hr hm1 hm
        refine ZE.iload_n d_Big_digits_13 rfl ?_
        refine ZE.bipush (n := 10) d_Big_digits_14 rfl ?_
        refine ZE.icmp_lt (tgt := 30) d_Big_digits_16 rfl (by unfold zR; omega) (by unfold zR; omega) (fun c16 => ?_) (fun c16 => ?_)
        · refine ZE.aload_n d_Big_digits_30 rfl ?_
          refine ZE.getE (v := (nd 1000000000 v : Int)) d_Big_digits_31 f_Big_15 (tg := 0) rfl hB.1 hv.2.1 ?_
          refine ZE.iconst (n := 1) d_Big_digits_34 ?_
          refine ZE.icmp_ge (tgt := 42) d_Big_digits_35 rfl (by unfold zR; omega) (by unfold zR; omega) (fun c35 => ?_) (fun c35 => ?_)
          · refine ZE.aload_n d_Big_digits_42 rfl ?_
            refine ZE.getE (v := (nd 1000000000 v : Int)) d_Big_digits_43 f_Big_15 (tg := 0) rfl hB.1 hv.2.1 ?_
            refine ZE.iconst (n := 1) d_Big_digits_46 ?_
            refine ZE.isub d_Big_digits_47 ?_
            refine ZE.bipush (n := 9) d_Big_digits_48 rfl ?_
            refine ZE.imul d_Big_digits_50 ?_
            refine ZE.iload_n d_Big_digits_51 rfl ?_
            refine ZE.iadd d_Big_digits_52 ?_
            refine ZE.iret d_Big_digits_53 rfl ?_
            have hd1 := dl_one (r := r) (by omega)
            rw [show (((nd 1000000000 v : Int) - 1) * 9) + (m : Int) = (dl v : Int) by rw [dl_longB (show v ≠ 0 by omega)]; omega]
            exact k
          · refine ZE.iconst (n := 1) d_Big_digits_38 ?_
            refine ZE.goto (tgt := 53) d_Big_digits_39 rfl ?_
            refine ZE.iret d_Big_digits_53 rfl ?_
            have e9 : v = 0 := Classical.not_not.mp (fun q => by have := (nd_pos_iff (b := 1000000000) (by omega)).mpr q; omega)
            rw [e9] at k
            exact k
        · refine ZE.iinc (ls2 := [(2, b), (0, (m : Int) + 1), (0, (r : Int))]) d_Big_digits_19 rfl rfl ?_
          refine ZE.iload_n d_Big_digits_22 rfl ?_
          refine ZE.bipush (n := 10) d_Big_digits_23 rfl ?_
          refine ZE.idivP d_Big_digits_25 (by omega) ?_
          rw [show ((r : Int) / 10 : Int) = ((r / 10 : Nat) : Int) from (by omega)]
          refine ZE.istore_n (ls2 := [(2, b), (0, (m : Int) + 1), (0, ((r / 10 : Nat) : Int))]) d_Big_digits_26 (Nat.le_of_ble_eq_true rfl) rfl ?_
          refine ZE.goto (tgt := 13) d_Big_digits_27 rfl ?_
          rw [show (m : Int) + 1 = ((m + 1 : Nat) : Int) by omega]
          exact ih (m + 1) (r / 10) (by omega) (by have := dl_step (r := r) (by omega); omega) (by omega)
    exact L13 _ 1 0 (by omega) rfl (Nat.lt_succ_self _)
  · have hn0 : 0 < nd 1000000000 v := (nd_pos_iff (by omega)).mpr (by omega)
    refine ZE.aload_n d_Big_digits_2 rfl ?_
    refine ZE.aload_n d_Big_digits_3 rfl ?_
    refine ZE.getE (v := (nd 1000000000 v : Int)) d_Big_digits_4 f_Big_15 (tg := 0) rfl hB.1 hv.2.1 ?_
    refine ZE.iconst (n := 1) d_Big_digits_7 ?_
    refine ZE.isub d_Big_digits_8 ?_
    rw [show ((nd 1000000000 v : Int) - 1 : Int) = ((nd 1000000000 v - 1 : Nat) : Int) from (by omega)]
    refine ZE.cV [(0, ((nd 1000000000 v - 1 : Nat) : Int))] [] [(2, b), (0, ((nd 1000000000 v - 1 : Nat) : Int))] d_Big_digits_9 l_Big_25 rfl rfl rfl rfl rfl rfl hB.1 ?_
    refine B_limbAt (v := v) (i := nd 1000000000 v - 1) hB hv h9 (by omega) ?_
    show ZE (d + 1) M_Big_digits (gw G A) 12 [(2, b), (0, 1), (9, 0)] [(0, (dg 1000000000 v (nd 1000000000 v - 1) : Int))] _
    refine ZE.istore_n (ls2 := [(2, b), (0, 1), (0, (dg 1000000000 v (nd 1000000000 v - 1) : Int))]) d_Big_digits_12 (Nat.le_of_ble_eq_true rfl) rfl ?_
    have L13 : ∀ (t : Nat) (m : Nat) (r : Nat) (hr : r < 1000000000) (hm1 : m + dl r = 1 + dl (dg 1000000000 v (nd 1000000000 v - 1))), r < t → ZE (d + 1) M_Big_digits (gw G A) 13 [(2, b), (0, (m : Int)), (0, (r : Int))] [] P := by
      intro t
      induction t with
      | zero => intro m r hr hm1 hm; exact absurd hm (Nat.not_lt_zero _)
      | succ t ih =>
        intro m r hr hm1 hm
        refine ZE.iload_n d_Big_digits_13 rfl ?_
        refine ZE.bipush (n := 10) d_Big_digits_14 rfl ?_
        refine ZE.icmp_lt (tgt := 30) d_Big_digits_16 rfl (by unfold zR; omega) (by unfold zR; omega) (fun c16 => ?_) (fun c16 => ?_)
        · refine ZE.aload_n d_Big_digits_30 rfl ?_
          refine ZE.getE (v := (nd 1000000000 v : Int)) d_Big_digits_31 f_Big_15 (tg := 0) rfl hB.1 hv.2.1 ?_
          refine ZE.iconst (n := 1) d_Big_digits_34 ?_
          refine ZE.icmp_ge (tgt := 42) d_Big_digits_35 rfl (by unfold zR; omega) (by unfold zR; omega) (fun c35 => ?_) (fun c35 => ?_)
          · refine ZE.aload_n d_Big_digits_42 rfl ?_
            refine ZE.getE (v := (nd 1000000000 v : Int)) d_Big_digits_43 f_Big_15 (tg := 0) rfl hB.1 hv.2.1 ?_
            refine ZE.iconst (n := 1) d_Big_digits_46 ?_
            refine ZE.isub d_Big_digits_47 ?_
            refine ZE.bipush (n := 9) d_Big_digits_48 rfl ?_
            refine ZE.imul d_Big_digits_50 ?_
            refine ZE.iload_n d_Big_digits_51 rfl ?_
            refine ZE.iadd d_Big_digits_52 ?_
            refine ZE.iret d_Big_digits_53 rfl ?_
            have hd1 := dl_one (r := r) (by omega)
            rw [show (((nd 1000000000 v : Int) - 1) * 9) + (m : Int) = (dl v : Int) by rw [dl_longB (show v ≠ 0 by omega)]; omega]
            exact k
          · refine ZE.iconst (n := 1) d_Big_digits_38 ?_
            refine ZE.goto (tgt := 53) d_Big_digits_39 rfl ?_
            refine ZE.iret d_Big_digits_53 rfl ?_
            have e9 : v = 0 := Classical.not_not.mp (fun q => by have := (nd_pos_iff (b := 1000000000) (by omega)).mpr q; omega)
            rw [e9] at k
            exact k
        · refine ZE.iinc (ls2 := [(2, b), (0, (m : Int) + 1), (0, (r : Int))]) d_Big_digits_19 rfl rfl ?_
          refine ZE.iload_n d_Big_digits_22 rfl ?_
          refine ZE.bipush (n := 10) d_Big_digits_23 rfl ?_
          refine ZE.idivP d_Big_digits_25 (by omega) ?_
          rw [show ((r : Int) / 10 : Int) = ((r / 10 : Nat) : Int) from (by omega)]
          refine ZE.istore_n (ls2 := [(2, b), (0, (m : Int) + 1), (0, ((r / 10 : Nat) : Int))]) d_Big_digits_26 (Nat.le_of_ble_eq_true rfl) rfl ?_
          refine ZE.goto (tgt := 13) d_Big_digits_27 rfl ?_
          rw [show (m : Int) + 1 = ((m + 1 : Nat) : Int) by omega]
          exact ih (m + 1) (r / 10) (by omega) (by have := dl_step (r := r) (by omega); omega) (by omega)
    exact L13 _ 1 (dg 1000000000 v (nd 1000000000 v - 1)) (dB_lt _ _) rfl (Nat.lt_succ_self _)
set_option maxRecDepth 20000 in
set_option maxHeartbeats 4000000 in
theorem B_digitAt {d : Nat} {G : zG} {A : Int → Int → Int} {P : Option zV → zG → Prop}  {b : Int} {cap : Nat} (hB : bK G b cap) {v : Nat} (hv : bN A b v) (h9 : nd 1000000000 v ≤ cap) {i : Int} (hi : zR i) (k : P (some (0, dgN v i)) (gw G A)) : ZE (d + 2) M_Big_digitAt (gw G A) 0 [(2, b), (0, i), (9, 0), (9, 0)] [] P := by
  have hcp := hB.2.2.2.2.2
  have hdl900 : dl v ≤ 901 ∧ 1 ≤ dl v := by
    refine ⟨?_, by unfold dl; omega⟩
    rcases Nat.eq_zero_or_pos v with q | q
    · subst q; decide
    · have h1 := dl_longB (v := v) (by omega)
      have h2 : dl (dg 1000000000 v (nd 1000000000 v - 1)) ≤ 9 := dl_9.mpr (by have := dB_lt v (nd 1000000000 v - 1); omega)
      omega
  refine ZE.iload_n d_Big_digitAt_0 rfl ?_
  refine ZE.if_lt (tgt := 12) d_Big_digitAt_1 rfl hi (fun c1 => ?_) (fun c1 => ?_)
  · refine ZE.iconst (n := (-1)) d_Big_digitAt_12 ?_
    refine ZE.iret d_Big_digitAt_13 rfl ?_
    rw [show dgN v i = -1 from if_neg (by omega)] at k
    exact k
  · refine ZE.iload_n d_Big_digitAt_4 rfl ?_
    refine ZE.aload_n d_Big_digitAt_5 rfl ?_
    refine ZE.cV [] [(0, i)] [(2, b), (9, 0), (9, 0)] d_Big_digitAt_6 l_Big_52 rfl rfl rfl rfl rfl rfl hB.1 ?_
    refine B_digits hB hv h9 ?_
    show ZE (d + 2) M_Big_digitAt (gw G A) 9 [(2, b), (0, i), (9, 0), (9, 0)] [(0, (dl v : Int)), (0, i)] _
    refine ZE.icmp_lt (tgt := 14) d_Big_digitAt_9 rfl hi (by unfold zR; omega) (fun c9 => ?_) (fun c9 => ?_)
    · obtain ⟨in0, hin⟩ : ∃ in0 : Nat, i = in0 := ⟨i.toNat, by omega⟩
      subst hin
      refine ZE.aload_n d_Big_digitAt_14 rfl ?_
      refine ZE.iload_n d_Big_digitAt_15 rfl ?_
      refine ZE.bipush (n := 9) d_Big_digitAt_16 rfl ?_
      refine ZE.idivP d_Big_digitAt_18 (by omega) ?_
      rw [show ((in0 : Int) / 9 : Int) = ((in0 / 9 : Nat) : Int) from (by omega)]
      refine ZE.cV [(0, ((in0 / 9 : Nat) : Int))] [] [(2, b), (0, ((in0 / 9 : Nat) : Int))] d_Big_digitAt_19 l_Big_25 rfl rfl rfl rfl rfl rfl hB.1 ?_
      refine B_limbAt (v := v) (i := in0 / 9) hB hv h9 (by omega) ?_
      show ZE (d + 2) M_Big_digitAt (gw G A) 22 [(2, b), (0, (in0 : Int)), (9, 0), (9, 0)] [(0, (dg 1000000000 v (in0 / 9) : Int))] _
      refine ZE.istore_n (ls2 := [(2, b), (0, (in0 : Int)), (0, (dg 1000000000 v (in0 / 9) : Int)), (9, 0)]) d_Big_digitAt_22 (Nat.le_of_ble_eq_true rfl) rfl ?_
      refine ZE.iload_n d_Big_digitAt_23 rfl ?_
      refine ZE.bipush (n := 9) d_Big_digitAt_24 rfl ?_
      refine ZE.iremP d_Big_digitAt_26 (by omega) ?_
      rw [show ((in0 : Int) % 9 : Int) = ((in0 % 9 : Nat) : Int) from (by omega)]
      refine ZE.istore_n (ls2 := [(2, b), (0, (in0 : Int)), (0, (dg 1000000000 v (in0 / 9) : Int)), (0, ((in0 % 9 : Nat) : Int))]) d_Big_digitAt_27 (Nat.le_of_ble_eq_true rfl) rfl ?_
      have L28 : ∀ (t : Nat) (m : Nat) (r : Nat) (hm9 : m ≤ in0 % 9) (hrb : r < 1000000000) (hr2 : r = dg 1000000000 v (in0 / 9) / 10 ^ (in0 % 9 - m)), m < t → ZE (d + 2) M_Big_digitAt (gw G A) 28 [(2, b), (0, (in0 : Int)), (0, (r : Int)), (0, (m : Int))] [] P := by
        intro t
        induction t with
        | zero => intro m r hm9 hrb hr2 hm; exact absurd hm (Nat.not_lt_zero _)
        | succ t ih =>
          intro m r hm9 hrb hr2 hm
          refine ZE.iload_n d_Big_digitAt_28 rfl ?_
          refine ZE.if_le (tgt := 43) d_Big_digitAt_29 rfl (by unfold zR; omega) (fun c29 => ?_) (fun c29 => ?_)
          · refine ZE.iload_n d_Big_digitAt_43 rfl ?_
            refine ZE.bipush (n := 10) d_Big_digitAt_44 rfl ?_
            refine ZE.iremP d_Big_digitAt_46 (by omega) ?_
            rw [show ((r : Int) % 10 : Int) = ((r % 10 : Nat) : Int) from (by omega)]
            refine ZE.iret d_Big_digitAt_47 rfl ?_
            rw [show dgN v (in0 : Int) = ((r % 10 : Nat) : Int) by unfold dgN; rw [if_pos (by omega), Int.toNat_natCast, dg10B, hr2, show in0 % 9 - m = in0 % 9 by omega]; rfl] at k
            exact k
          · refine ZE.iload_n d_Big_digitAt_32 rfl ?_
            refine ZE.bipush (n := 10) d_Big_digitAt_33 rfl ?_
            refine ZE.idivP d_Big_digitAt_35 (by omega) ?_
            rw [show ((r : Int) / 10 : Int) = ((r / 10 : Nat) : Int) from (by omega)]
            refine ZE.istore_n (ls2 := [(2, b), (0, (in0 : Int)), (0, ((r / 10 : Nat) : Int)), (0, (m : Int))]) d_Big_digitAt_36 (Nat.le_of_ble_eq_true rfl) rfl ?_
            refine ZE.iinc (ls2 := [(2, b), (0, (in0 : Int)), (0, ((r / 10 : Nat) : Int)), (0, (m : Int) + (-1))]) d_Big_digitAt_37 rfl rfl ?_
            refine ZE.goto (tgt := 28) d_Big_digitAt_40 rfl ?_
            rw [show (m : Int) + (-1) = ((m - 1 : Nat) : Int) by omega]
            refine ih (m - 1) (r / 10) (by omega) (by omega) ?_ (by omega)
            rw [hr2, Nat.div_div_eq_div_mul, ← Nat.pow_succ, show (in0 % 9 - m).succ = in0 % 9 - (m - 1) by omega]
      exact L28 _ (in0 % 9) (dg 1000000000 v (in0 / 9)) (Nat.le_refl _) (dB_lt _ _) (by rw [Nat.sub_self, Nat.pow_zero, Nat.div_one]) (Nat.lt_succ_self _)
    · refine ZE.iconst (n := (-1)) d_Big_digitAt_12 ?_
      refine ZE.iret d_Big_digitAt_13 rfl ?_
      rw [show dgN v i = -1 from if_neg (by omega)] at k
      exact k
set_option maxRecDepth 20000 in
set_option maxHeartbeats 4000000 in
theorem B_strip {d : Nat} {G : zG} {A : Int → Int → Int} {P : Option zV → zG → Prop}  {b : Int} {cap : Nat} (hB : bK G b cap) {v : Nat} (hv : bN A b v) (hv0 : 0 < v) {p : Nat} (hp : 2 ≤ p) (hp2 : p < 2147483648) (h9 : nd 1000000000 v ≤ cap) (k : ∀ A2, bF A A2 b → bN A2 b (strp p v) → P (some (0, (vp p v : Int))) (gw G A2)) : ZE (d + 2) M_Big_strip (gw G A) 0 [(2, b), (0, (p : Int)), (9, 0), (9, 0)] [] P := by
  have hcp := hB.2.2.2.2.2
  have hcp1 := hB.2.2.2.2.1
  have hvpb : vp p v < cap * 30 := by
    have h1 : v < 1000000000 ^ cap := (nd_lt (by omega) _ _).mpr h9
    have h2 : 1000000000 ^ cap ≤ (2 ^ 30) ^ cap := Nat.pow_le_pow_left (by decide) _
    rw [← Nat.pow_mul] at h2
    have h3 := vp_lt (p := p) (n := 30 * cap) hp hv0 (Nat.lt_of_lt_of_le h1 h2)
    omega
  refine ZE.iconst (n := 0) d_Big_strip_0 ?_
  refine ZE.istore_n (ls2 := [(2, b), (0, (p : Int)), (0, 0), (9, 0)]) d_Big_strip_1 (Nat.le_of_ble_eq_true rfl) rfl ?_
  refine ZE.iconst (n := 0) d_Big_strip_2 ?_
  refine ZE.istore_n (ls2 := [(2, b), (0, (p : Int)), (0, 0), (0, 0)]) d_Big_strip_3 (Nat.le_of_ble_eq_true rfl) rfl ?_
  have L4 : ∀ (t : Nat) (j : Nat) (x2 : Nat) (A1 : Int → Int → Int) (hjv : j + vp p x2 = vp p v) (hst : strp p x2 = strp p v) (hx0 : 0 < x2) (hxv : x2 ≤ v) (gF : bF A A1 b) (hx : bN A1 b x2), x2 < t → ZE (d + 2) M_Big_strip (gw G A1) 4 [(2, b), (0, (p : Int)), (0, (j : Int)), (0, (j : Int))] [] P := by
    intro t
    induction t with
    | zero => intro j x2 A1 hjv hst hx0 hxv gF hx hm; exact absurd hm (Nat.not_lt_zero _)
    | succ t ih =>
      intro j x2 A1 hjv hst hx0 hxv gF hx hm
      have hx9 : nd 1000000000 x2 ≤ cap := Nat.le_trans (nd_mono (by omega) hxv) h9
      have hxp : 0 < nd 1000000000 x2 := (nd_pos_iff (by omega)).mpr (by omega)
      refine ZE.iload_n d_Big_strip_4 rfl ?_
      refine ZE.aload_n d_Big_strip_5 rfl ?_
      refine ZE.getE (v := b + 1) d_Big_strip_6 f_Big_9 (tg := 2) rfl hB.1 hx.1 ?_
      refine ZE.alenE (v := (cap : Int)) d_Big_strip_9 (by have hk0 := hB.2.1; show 1 ≤ gk G (b + 1) ∧ gk G (b + 1) ≤ 6; omega) hB.2.2.1 ?_
      refine ZE.bipush (n := 30) d_Big_strip_10 rfl ?_
      refine ZE.imul d_Big_strip_12 ?_
      refine ZE.icmp_ge (tgt := 53) d_Big_strip_13 rfl (by unfold zR; omega) (by unfold zR; omega) (fun c13 => ?_) (fun c13 => ?_)
      · exact absurd c13 (by omega)
      · refine ZE.aload_n d_Big_strip_16 rfl ?_
        refine ZE.getE (v := (nd 1000000000 x2 : Int)) d_Big_strip_17 f_Big_15 (tg := 0) rfl hB.1 hx.2.1 ?_
        refine ZE.if_le (tgt := 53) d_Big_strip_20 rfl (by unfold zR; omega) (fun c20 => ?_) (fun c20 => ?_)
        · exact absurd c20 (by omega)
        · refine ZE.iload_n d_Big_strip_23 rfl ?_
          refine ZE.iconst (n := 1) d_Big_strip_24 ?_
          refine ZE.icmp_le (tgt := 53) d_Big_strip_25 rfl (by unfold zR; omega) (by unfold zR; omega) (fun c25 => ?_) (fun c25 => ?_)
          · exact absurd c25 (by omega)
          · refine ZE.aload_n d_Big_strip_28 rfl ?_
            refine ZE.iload_n d_Big_strip_29 rfl ?_
            have hml := Nat.mod_lt x2 (show 0 < p by omega)
            refine ZE.cV [(0, (p : Int))] [] [(2, b), (0, (p : Int)), (9, 0), (9, 0), (9, 0)] d_Big_strip_30 l_Big_45 rfl rfl rfl rfl rfl rfl hB.1 ?_
            refine B_remainder (v := x2) (y := p) hB hx (by omega) hp2 hx9 ?_
            show ZE (d + 2) M_Big_strip (gw G A1) 33 [(2, b), (0, (p : Int)), (0, (j : Int)), (0, (j : Int))] [(0, ((x2 % p : Nat) : Int))] _
            refine ZE.if_eq (tgt := 39) d_Big_strip_33 rfl (by unfold zR; omega) (fun c33 => ?_) (fun c33 => ?_)
            · refine ZE.aload_n d_Big_strip_39 rfl ?_
              refine ZE.iload_n d_Big_strip_40 rfl ?_
              refine ZE.cV [(0, (p : Int))] [] [(2, b), (0, (p : Int)), (9, 0), (9, 0), (9, 0), (9, 0), (9, 0)] d_Big_strip_41 l_Big_48 rfl rfl rfl rfl rfl rfl hB.1 ?_
              refine B_divide (v := x2) (y := p) hB hx (by omega) hp2 hx9 (fun A2 g2 hn2 => ?_)
              show ZE (d + 2) M_Big_strip (gw G A2) 44 [(2, b), (0, (p : Int)), (0, (j : Int)), (0, (j : Int))] [] _
              refine ZE.iinc (ls2 := [(2, b), (0, (p : Int)), (0, (j : Int) + 1), (0, (j : Int))]) d_Big_strip_44 rfl rfl ?_
              refine ZE.iinc (ls2 := [(2, b), (0, (p : Int)), (0, (j : Int) + 1), (0, (j : Int) + 1)]) d_Big_strip_47 rfl rfl ?_
              refine ZE.goto (tgt := 4) d_Big_strip_50 rfl ?_
              rw [show (j : Int) + 1 = ((j + 1 : Nat) : Int) by omega]
              have e1 := vp_step hp hx0 (show x2 % p = 0 by omega)
              exact ih (j + 1) (x2 / p) A2 (by omega) (by rw [← strp_step hp hx0 (show x2 % p = 0 by omega)]; exact hst) e1.2.1 (by omega) (gF.tr g2) hn2 (by omega)
            · have hnm : ¬ x2 % p = 0 := by omega
              refine ZE.goto (tgt := 53) d_Big_strip_36 rfl ?_
              refine ZE.iload_n d_Big_strip_53 rfl ?_
              refine ZE.iret d_Big_strip_54 rfl ?_
              rw [show (j : Int) = (vp p v : Int) by have := vp_end (p := p) (n := x2) hnm; omega]
              exact k A1 gF (by rw [← hst, strp_end hnm]; exact hx)
  exact L4 _ 0 v A (Nat.zero_add _) rfl hv0 (Nat.le_refl _) bF.rf hv (Nat.lt_succ_self _)
