def apB (S d k : Nat) : Bool := smB S (k + 1) && smB S (k + 1 + d)
def apV (S : Nat) (d u : Int) : Int := if (1 ≤ d ∧ d ≤ 1000) ∧ (0 ≤ u ∧ u ≤ 200000) then (cnt (apB S d.toNat) (u.toNat - d.toNat) : Int) else -1
def saF (S : Nat) : Nat → Nat → Nat → Int
  | _, _, 0 => -1
  | l, a, n + 1 => if smB S a = true then (if l = 0 then (a : Int) else saF S (l - 1) (a + 1) n) else saF S l (a + 1) n
def saV (S : Nat) (p : Int) : Int := if p < 0 then -1 else saF S p.toNat 1 200000
theorem saF_s {S l a n : Nat} (hn : 0 < n) : saF S l a n = if smB S a = true then (if l = 0 then (a : Int) else saF S (l - 1) (a + 1) (n - 1)) else saF S l (a + 1) (n - 1) := by
  obtain ⟨m, rfl⟩ : ∃ m, n = m + 1 := ⟨n - 1, by omega⟩
  rfl
set_option maxRecDepth 20000 in
set_option maxHeartbeats 4000000 in
theorem r_smoothAt {d : Nat} {G : zG} {A : Int → Int → Int} {P : Option zV → zG → Prop} {o : Int} (hK : RK G o) (hF : RF A o) {S : Nat} (hR : RS S A o) (hS7 : S < 128) (hp5 : pop S ≤ 5) {p : Int} (hp : zR p) (k : P (some (0, saV S p)) (gw G A)) : ZE (d + 2) M_Ref_smoothAt (gw G A) 0 [(2, o), (0, p), (9, 0), (9, 0)] [] P := by
  refine ZE.iload_n d_Ref_smoothAt_0 rfl ?_
  refine ZE.if_ge (tgt := 6) d_Ref_smoothAt_1 rfl hp (fun c1 => ?_) (fun c1 => ?_)
  · unfold zR at hp
    obtain ⟨nn, hnn⟩ : ∃ nn : Nat, p = nn := ⟨p.toNat, by omega⟩
    subst hnn
    refine ZE.iload_n d_Ref_smoothAt_6 rfl ?_
    refine ZE.istore_n (ls2 := [(2, o), (0, (nn : Int)), (0, (nn : Int)), (9, 0)]) d_Ref_smoothAt_7 (Nat.le_of_ble_eq_true rfl) rfl ?_
    refine ZE.iconst (n := 1) d_Ref_smoothAt_8 ?_
    refine ZE.istore_n (ls2 := [(2, o), (0, (nn : Int)), (0, (nn : Int)), (0, 1)]) d_Ref_smoothAt_9 (Nat.le_of_ble_eq_true rfl) rfl ?_
    have L10 : ∀ (t : Nat) (j : Nat) (l : Nat) (hj : 1 ≤ j ∧ j ≤ 200001) (hl : l < 2147483648) (hsa : saV S (nn : Int) = saF S l j (200001 - j)), 200001 - j < t → ZE (d + 2) M_Ref_smoothAt (gw G A) 10 [(2, o), (0, (nn : Int)), (0, (l : Int)), (0, (j : Int))] [] P := by
      intro t
      induction t with
      | zero => intro j l hj hl hsa hm; exact absurd hm (Nat.not_lt_zero _)
      | succ t ih =>
        intro j l hj hl hsa hm
        refine ZE.iload_n d_Ref_smoothAt_10 rfl ?_
        refine ZE.ldcw (v := 200000) d_Ref_smoothAt_11 k_Ref_316 ?_
        refine ZE.icmp_gt (tgt := 43) d_Ref_smoothAt_14 rfl (by unfold zR; omega) (by unfold zR; omega) (fun c14 => ?_) (fun c14 => ?_)
        · refine ZE.iconst (n := (-1)) d_Ref_smoothAt_43 ?_
          refine ZE.iret d_Ref_smoothAt_44 rfl ?_
          rw [hsa, show 200001 - j = 0 by omega] at k
          unfold saF at k
          exact k
        · refine ZE.aload_n d_Ref_smoothAt_17 rfl ?_
          refine ZE.iload_n d_Ref_smoothAt_18 rfl ?_
          refine ZE.cV [(0, (j : Int))] [] [(2, o), (0, (j : Int)), (9, 0), (9, 0)] d_Ref_smoothAt_19 l_Ref_183 rfl rfl rfl rfl rfl rfl hK.1 ?_
          refine r_isSmooth (n := j) hK hF hR.s hS7 (by omega) (by omega) ?_
          show ZE (d + 2) M_Ref_smoothAt (gw G A) 22 [(2, o), (0, (nn : Int)), (0, (l : Int)), (0, (j : Int))] [(0, b2i (sm S (j)))] _
          refine ZE.if_ne (tgt := 28) d_Ref_smoothAt_22 rfl (zR_b2i _) (fun c22 => ?_) (fun c22 => ?_)
          · replace c22 := b2i_n0.mp c22
            refine ZE.iload_n d_Ref_smoothAt_28 rfl ?_
            refine ZE.if_ne (tgt := 34) d_Ref_smoothAt_29 rfl (by unfold zR; omega) (fun c29 => ?_) (fun c29 => ?_)
            · refine ZE.iinc (ls2 := [(2, o), (0, (nn : Int)), (0, (l : Int) + (-1)), (0, (j : Int))]) d_Ref_smoothAt_34 rfl rfl ?_
              refine ZE.iinc (ls2 := [(2, o), (0, (nn : Int)), (0, (l : Int) + (-1)), (0, (j : Int) + 1)]) d_Ref_smoothAt_37 rfl rfl ?_
              refine ZE.goto (tgt := 10) d_Ref_smoothAt_40 rfl ?_
              rw [show (j : Int) + 1 = ((j + 1 : Nat) : Int) by omega]
              rw [show (l : Int) + (-1) = ((l - 1 : Nat) : Int) by omega]
              refine ih (j + 1) (l - 1) (by omega) (by omega) ?_ (by omega)
              rw [hsa, saF_s (by omega), if_pos (smB_iff.mpr c22), if_neg (by omega), show 200001 - j - 1 = 200001 - (j + 1) by omega]
            · refine ZE.iload_n d_Ref_smoothAt_32 rfl ?_
              refine ZE.iret d_Ref_smoothAt_33 rfl ?_
              rw [hsa, saF_s (by omega), if_pos (smB_iff.mpr c22), if_pos (by omega)] at k
              exact k
          · replace c22 := b2i_0.mp c22
            refine ZE.goto (tgt := 37) d_Ref_smoothAt_25 rfl ?_
            refine ZE.iinc (ls2 := [(2, o), (0, (nn : Int)), (0, (l : Int)), (0, (j : Int) + 1)]) d_Ref_smoothAt_37 rfl rfl ?_
            refine ZE.goto (tgt := 10) d_Ref_smoothAt_40 rfl ?_
            rw [show (j : Int) + 1 = ((j + 1 : Nat) : Int) by omega]
            refine ih (j + 1) l (by omega) (by omega) ?_ (by omega)
            rw [hsa, saF_s (by omega), if_neg (fun q => c22 (smB_iff.mp q)), show 200001 - j - 1 = 200001 - (j + 1) by omega]
    exact L10 _ 1 nn (by omega) (by omega) ((if_neg (by omega)).trans (by rw [Int.toNat_natCast])) (Nat.lt_succ_self _)
  · refine ZE.iconst (n := (-1)) d_Ref_smoothAt_4 ?_
    refine ZE.iret d_Ref_smoothAt_5 rfl ?_
    rw [show saV S p = -1 from if_pos (by omega)] at k
    exact k
set_option maxRecDepth 20000 in
set_option maxHeartbeats 4000000 in
theorem r_apart {d : Nat} {G : zG} {A : Int → Int → Int} {P : Option zV → zG → Prop} {o : Int} (hK : RK G o) (hF : RF A o) {S : Nat} (hR : RS S A o) (hS7 : S < 128) (hp5 : pop S ≤ 5) {q u : Int} (hq : zR q) (hu : zR u) (k : P (some (0, apV S q u)) (gw G A)) : ZE (d + 2) M_Ref_apart (gw G A) 0 [(2, o), (0, q), (0, u), (9, 0), (9, 0)] [] P := by
  refine ZE.iload_n d_Ref_apart_0 rfl ?_
  refine ZE.i2l d_Ref_apart_1 hq ?_
  refine ZE.lconst d_Ref_apart_2 ?_
  show ZE (d + 2) M_Ref_apart (gw G A) 3 [(2, o), (0, q), (0, u), (9, 0), (9, 0)] [(1, 1), (1, q)] _
  refine ZE.ldc2 (v := 1000) d_Ref_apart_3 k_Ref_318 ?_
  refine ZE.cS [(1, q), (1, 1), (1, 1000)] [] [(1, q), (9, 0), (1, 1), (9, 0), (1, 1000), (9, 0)] d_Ref_apart_6 l_Ref_111 rfl rfl rfl rfl rfl rfl ?_
  refine r_isIn (by unfold zR at hq; unfold zR64; omega) (by unfold zR64; omega) (by unfold zR64; omega) ?_
  show ZE (d + 2) M_Ref_apart (gw G A) 9 [(2, o), (0, q), (0, u), (9, 0), (9, 0)] [(0, b2i (1 ≤ q ∧ q ≤ 1000))] _
  refine ZE.if_eq (tgt := 24) d_Ref_apart_9 rfl (zR_b2i _) (fun c9 => ?_) (fun c9 => ?_)
  · replace c9 := b2i_0.mp c9
    refine ZE.iconst (n := (-1)) d_Ref_apart_24 ?_
    refine ZE.iret d_Ref_apart_25 rfl ?_
    rw [show apV S q u = -1 from if_neg (by omega)] at k
    exact k
  · replace c9 := b2i_n0.mp c9
    refine ZE.iload_n d_Ref_apart_12 rfl ?_
    refine ZE.i2l d_Ref_apart_13 hu ?_
    refine ZE.lconst d_Ref_apart_14 ?_
    show ZE (d + 2) M_Ref_apart (gw G A) 15 [(2, o), (0, q), (0, u), (9, 0), (9, 0)] [(1, 0), (1, u)] _
    refine ZE.ldc2 (v := 200000) d_Ref_apart_15 k_Ref_311 ?_
    refine ZE.cS [(1, u), (1, 0), (1, 200000)] [] [(1, u), (9, 0), (1, 0), (9, 0), (1, 200000), (9, 0)] d_Ref_apart_18 l_Ref_111 rfl rfl rfl rfl rfl rfl ?_
    refine r_isIn (by unfold zR at hu; unfold zR64; omega) (by unfold zR64; omega) (by unfold zR64; omega) ?_
    show ZE (d + 2) M_Ref_apart (gw G A) 21 [(2, o), (0, q), (0, u), (9, 0), (9, 0)] [(0, b2i (0 ≤ u ∧ u ≤ 200000))] _
    refine ZE.if_ne (tgt := 26) d_Ref_apart_21 rfl (zR_b2i _) (fun c21 => ?_) (fun c21 => ?_)
    · replace c21 := b2i_n0.mp c21
      obtain ⟨dn, hdn⟩ : ∃ dn : Nat, q = dn := ⟨q.toNat, by omega⟩
      subst hdn
      obtain ⟨un, hun⟩ : ∃ un : Nat, u = un := ⟨u.toNat, by omega⟩
      subst hun
      refine ZE.iconst (n := 0) d_Ref_apart_26 ?_
      refine ZE.istore_n (ls2 := [(2, o), (0, (dn : Int)), (0, (un : Int)), (0, 0), (9, 0)]) d_Ref_apart_27 (Nat.le_of_ble_eq_true rfl) rfl ?_
      refine ZE.iconst (n := 1) d_Ref_apart_28 ?_
      refine ZE.istore (ls2 := [(2, o), (0, (dn : Int)), (0, (un : Int)), (0, 0), (0, 1)]) d_Ref_apart_29 (Nat.le_of_ble_eq_true rfl) rfl ?_
      have L31 : ∀ (t : Nat) (j : Nat) (hj : j ≤ un - dn), un - dn - j < t → ZE (d + 2) M_Ref_apart (gw G A) 31 [(2, o), (0, (dn : Int)), (0, (un : Int)), (0, (cnt (apB S dn) j : Int)), (0, (j : Int) + 1)] [] P := by
        intro t
        induction t with
        | zero => intro j hj hm; exact absurd hm (Nat.not_lt_zero _)
        | succ t ih =>
          intro j hj hm
          have hcn := cnt_le (apB S dn) j
          refine ZE.iload d_Ref_apart_31 rfl ?_
          refine ZE.iload_n d_Ref_apart_33 rfl ?_
          refine ZE.iadd d_Ref_apart_34 ?_
          refine ZE.iload_n d_Ref_apart_35 rfl ?_
          refine ZE.icmp_gt (tgt := 73) d_Ref_apart_36 rfl (by unfold zR; omega) (by unfold zR; omega) (fun c36 => ?_) (fun c36 => ?_)
          · have e1 : j = un - dn := by omega
            refine ZE.iload_n d_Ref_apart_73 rfl ?_
            refine ZE.iret d_Ref_apart_74 rfl ?_
            rw [e1]
            rw [show apV S (dn : Int) (un : Int) = (cnt (apB S dn) (un - dn) : Int) by unfold apV; rw [if_pos (by omega), Int.toNat_natCast, Int.toNat_natCast]] at k
            exact k
          · refine ZE.iload_n d_Ref_apart_39 rfl ?_
            refine ZE.aload_n d_Ref_apart_40 rfl ?_
            refine ZE.iload d_Ref_apart_41 rfl ?_
            refine ZE.cV [(0, (j : Int) + 1)] [(0, (cnt (apB S dn) j : Int))] [(2, o), (0, (j : Int) + 1), (9, 0), (9, 0)] d_Ref_apart_43 l_Ref_183 rfl rfl rfl rfl rfl rfl hK.1 ?_
            refine r_isSmooth (n := j + 1) hK hF hR.s hS7 (by omega) (by omega) ?_
            show ZE (d + 2) M_Ref_apart (gw G A) 46 [(2, o), (0, (dn : Int)), (0, (un : Int)), (0, (cnt (apB S dn) j : Int)), (0, (j : Int) + 1)] [(0, b2i (sm S (j + 1))), (0, (cnt (apB S dn) j : Int))] _
            refine ZE.if_eq (tgt := 64) d_Ref_apart_46 rfl (zR_b2i _) (fun c46 => ?_) (fun c46 => ?_)
            · replace c46 := b2i_0.mp c46
              have hap : ¬ apB S dn j = true := fun q => c46 (smB_iff.mp (Bool.and_eq_true _ _ ▸ q).1)
              refine ZE.iconst (n := 0) d_Ref_apart_64 ?_
              refine ZE.iadd d_Ref_apart_65 ?_
              refine ZE.istore_n (ls2 := [(2, o), (0, (dn : Int)), (0, (un : Int)), (0, (cnt (apB S dn) j : Int) + 0), (0, (j : Int) + 1)]) d_Ref_apart_66 (Nat.le_of_ble_eq_true rfl) rfl ?_
              refine ZE.iinc (ls2 := [(2, o), (0, (dn : Int)), (0, (un : Int)), (0, (cnt (apB S dn) j : Int) + 0), (0, ((j : Int) + 1) + 1)]) d_Ref_apart_67 rfl rfl ?_
              refine ZE.goto (tgt := 31) d_Ref_apart_70 rfl ?_
              have e1 : cnt (apB S dn) (j + 1) = cnt (apB S dn) j := if_neg hap
              rw [show (cnt (apB S dn) j : Int) + 0 = (cnt (apB S dn) (j + 1) : Int) by rw [e1]; omega, show (j : Int) + 1 + 1 = ((j + 1 : Nat) : Int) + 1 by omega]
              exact ih (j + 1) (by omega) (by omega)
            · replace c46 := b2i_n0.mp c46
              refine ZE.aload_n d_Ref_apart_49 rfl ?_
              refine ZE.iload d_Ref_apart_50 rfl ?_
              refine ZE.iload_n d_Ref_apart_52 rfl ?_
              refine ZE.iadd d_Ref_apart_53 ?_
              rw [show (((j : Int) + 1) + (dn : Int) : Int) = ((j + 1 + dn : Nat) : Int) from (by omega)]
              refine ZE.cV [(0, ((j + 1 + dn : Nat) : Int))] [(0, (cnt (apB S dn) j : Int))] [(2, o), (0, ((j + 1 + dn : Nat) : Int)), (9, 0), (9, 0)] d_Ref_apart_54 l_Ref_183 rfl rfl rfl rfl rfl rfl hK.1 ?_
              refine r_isSmooth (n := j + 1 + dn) hK hF hR.s hS7 (by omega) (by omega) ?_
              show ZE (d + 2) M_Ref_apart (gw G A) 57 [(2, o), (0, (dn : Int)), (0, (un : Int)), (0, (cnt (apB S dn) j : Int)), (0, (j : Int) + 1)] [(0, b2i (sm S (j + 1 + dn))), (0, (cnt (apB S dn) j : Int))] _
              refine ZE.if_eq (tgt := 64) d_Ref_apart_57 rfl (zR_b2i _) (fun c57 => ?_) (fun c57 => ?_)
              · replace c57 := b2i_0.mp c57
                have hap : ¬ apB S dn j = true := fun q => c57 (smB_iff.mp (Bool.and_eq_true _ _ ▸ q).2)
                refine ZE.iconst (n := 0) d_Ref_apart_64 ?_
                refine ZE.iadd d_Ref_apart_65 ?_
                refine ZE.istore_n (ls2 := [(2, o), (0, (dn : Int)), (0, (un : Int)), (0, (cnt (apB S dn) j : Int) + 0), (0, (j : Int) + 1)]) d_Ref_apart_66 (Nat.le_of_ble_eq_true rfl) rfl ?_
                refine ZE.iinc (ls2 := [(2, o), (0, (dn : Int)), (0, (un : Int)), (0, (cnt (apB S dn) j : Int) + 0), (0, ((j : Int) + 1) + 1)]) d_Ref_apart_67 rfl rfl ?_
                refine ZE.goto (tgt := 31) d_Ref_apart_70 rfl ?_
                have e1 : cnt (apB S dn) (j + 1) = cnt (apB S dn) j := if_neg hap
                rw [show (cnt (apB S dn) j : Int) + 0 = (cnt (apB S dn) (j + 1) : Int) by rw [e1]; omega, show (j : Int) + 1 + 1 = ((j + 1 : Nat) : Int) + 1 by omega]
                exact ih (j + 1) (by omega) (by omega)
              · replace c57 := b2i_n0.mp c57
                have hap : apB S dn j = true := by unfold apB; rw [smB_iff.mpr c46, smB_iff.mpr c57]; rfl
                refine ZE.iconst (n := 1) d_Ref_apart_60 ?_
                refine ZE.goto (tgt := 65) d_Ref_apart_61 rfl ?_
                refine ZE.iadd d_Ref_apart_65 ?_
                refine ZE.istore_n (ls2 := [(2, o), (0, (dn : Int)), (0, (un : Int)), (0, (cnt (apB S dn) j : Int) + 1), (0, (j : Int) + 1)]) d_Ref_apart_66 (Nat.le_of_ble_eq_true rfl) rfl ?_
                refine ZE.iinc (ls2 := [(2, o), (0, (dn : Int)), (0, (un : Int)), (0, (cnt (apB S dn) j : Int) + 1), (0, ((j : Int) + 1) + 1)]) d_Ref_apart_67 rfl rfl ?_
                refine ZE.goto (tgt := 31) d_Ref_apart_70 rfl ?_
                have e1 : cnt (apB S dn) (j + 1) = cnt (apB S dn) j + 1 := if_pos hap
                rw [show (cnt (apB S dn) j : Int) + 1 = (cnt (apB S dn) (j + 1) : Int) by rw [e1]; omega, show (j : Int) + 1 + 1 = ((j + 1 : Nat) : Int) + 1 by omega]
                exact ih (j + 1) (by omega) (by omega)
      exact L31 _ 0 (by omega) (Nat.lt_succ_self _)
    · replace c21 := b2i_0.mp c21
      refine ZE.iconst (n := (-1)) d_Ref_apart_24 ?_
      refine ZE.iret d_Ref_apart_25 rfl ?_
      rw [show apV S q u = -1 from if_neg (by omega)] at k
      exact k
