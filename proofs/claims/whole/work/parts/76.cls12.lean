theorem dec64n {e1 t1 : Nat} (h2 : t1 < 4503599627370496) (h3 : 1 ≤ e1 ∧ e1 ≤ 2046) : FP.Core.decode FP.Core.b64 (UInt64.ofNat (e1 * 4503599627370496 + t1)).toNat = .fin false (4503599627370496 + t1) ((e1 : Int) - 1075) := by
  rw [UInt64.toNat_ofNat_of_lt' (by show _ < 18446744073709551616; omega)]
  exact dec64 rfl h2 h3
theorem enc64n {t1 e1 : Nat} {q : Int} (h1 : q = (e1 : Int) - 1075) (h2 : t1 < 4503599627370496) (h3 : 1 ≤ e1) : FP.Core.encode FP.Core.b64 (.fin false (4503599627370496 + t1) q) = e1 * 4503599627370496 + t1 := by
  rw [enc64 (by omega) (by omega) (by omega)]
  omega
theorem vfn {e1 t1 : Nat} (h2 : t1 < 4503599627370496) (h3 : e1 ≤ 2046) : vf_n64 (UInt64.ofNat (e1 * 4503599627370496 + t1)) := vf64 (by omega)
/-- doubling, and 2 to the 52 times -/
theorem dmul_pow {e1 t1 e2 : Nat} (h2 : t1 < 4503599627370496) (h3 : 1 ≤ e1 ∧ e1 ≤ 1100) (h4 : 1000 ≤ e2 ∧ e2 ≤ 1100) (h5 : 1024 ≤ e1 + e2) : FP.dmul (UInt64.ofNat (e1 * 4503599627370496 + t1)) (UInt64.ofNat (e2 * 4503599627370496)) = UInt64.ofNat ((e1 + e2 - 1023) * 4503599627370496 + t1) := by
  show UInt64.ofNat (FP.Core.encode FP.Core.b64 (FP.Core.round FP.Core.b64 (FP.Core.exactProduct (FP.Core.decode FP.Core.b64 _) (FP.Core.decode FP.Core.b64 _)))) = _
  have e0 := dec64n (t1 := 0) (e1 := e2) (by omega) (by omega)
  rw [Nat.add_zero, Nat.add_zero] at e0
  rw [dec64n h2 (by omega), e0]
  show UInt64.ofNat (FP.Core.encode FP.Core.b64 (FP.Core.roundRatio FP.Core.b64 false ((4503599627370496 + t1) * 4503599627370496) 1 ((e1 : Int) - 1075 + ((e2 : Int) - 1075)))) = _
  have r := rr1 (A1 := (4503599627370496 + t1) * 4503599627370496) (l1 := 104) (c := 4503599627370496 + t1) (e1 := (e1 : Int) - 1075 + ((e2 : Int) - 1075)) (by show 20282409603651670423947251286016 ≤ _; omega) (by show _ < 40564819207303340847894502572032; omega) (by omega) (Or.inr ⟨by omega, rfl⟩)
  rw [r.1, enc64n (e1 := e1 + e2 - 1023) (by omega) h2 (by omega)]
theorem dcmp_one {e1 t1 : Nat} (h2 : t1 < 4503599627370496) (h3 : 1 ≤ e1 ∧ e1 ≤ 1023) : (e1 < 1023 → FP.dcmp (UInt64.ofNat (e1 * 4503599627370496 + t1)) (UInt64.ofNat 4607182418800017408) = some .lt) ∧ (e1 = 1023 → FP.dcmp (UInt64.ofNat (e1 * 4503599627370496 + t1)) (UInt64.ofNat 4607182418800017408) = some .gt ∨ FP.dcmp (UInt64.ofNat (e1 * 4503599627370496 + t1)) (UInt64.ofNat 4607182418800017408) = some .eq) := by
  have e0 := dec64n (t1 := 0) (e1 := 1023) (by omega) (by omega)
  rw [Nat.add_zero, Nat.add_zero] at e0
  have e00 : FP.Core.decode FP.Core.b64 (UInt64.ofNat 4607182418800017408).toNat = .fin false 4503599627370496 (-52) := e0
  have h : FP.dcmp (UInt64.ofNat (e1 * 4503599627370496 + t1)) (UInt64.ofNat 4607182418800017408) = some (compare (FP.Core.signed false (FP.Core.inUnits (4503599627370496 + t1) ((e1 : Int) - 1075) (min ((e1 : Int) - 1075) (-52)))) (FP.Core.signed false (FP.Core.inUnits 4503599627370496 (-52) (min ((e1 : Int) - 1075) (-52))))) := by
    show FP.Core.order (FP.Core.decode FP.Core.b64 _) (FP.Core.decode FP.Core.b64 _) = _
    rw [dec64n h2 (by omega), e00]
    rfl
  have hci : ∀ x1 y1 : Int, compare x1 y1 = (if x1 < y1 then Ordering.lt else if x1 = y1 then .eq else .gt) := fun _ _ => rfl
  rw [h]
  constructor
  · intro q
    rw [show min ((e1 : Int) - 1075) (-52) = (e1 : Int) - 1075 by omega]
    have h5 : FP.Core.inUnits (4503599627370496 + t1) ((e1 : Int) - 1075) ((e1 : Int) - 1075) = 4503599627370496 + t1 := by
      unfold FP.Core.inUnits
      rw [Int.sub_self]
      show (4503599627370496 + t1) * 1 = _
      omega
    have h6 : 9007199254740992 ≤ FP.Core.inUnits 4503599627370496 (-52) ((e1 : Int) - 1075) := by
      unfold FP.Core.inUnits
      have h7 : 2 ^ 1 ≤ 2 ^ (-52 - ((e1 : Int) - 1075)).toNat := Nat.pow_le_pow_right (by omega) (by omega)
      have h8 := Nat.mul_le_mul_left 4503599627370496 h7
      exact h8
    rw [h5]
    show some (compare ((4503599627370496 + t1 : Nat) : Int) ((FP.Core.inUnits 4503599627370496 (-52) ((e1 : Int) - 1075) : Nat) : Int)) = _
    rw [hci, if_pos (by omega)]
  · intro q
    subst q
    show some (compare (((4503599627370496 + t1) * 1 : Nat) : Int) ((4503599627370496 * 1 : Nat) : Int)) = _ ∨ some (compare (((4503599627370496 + t1) * 1 : Nat) : Int) ((4503599627370496 * 1 : Nat) : Int)) = _
    rw [hci, if_neg (by omega)]
    by_cases q : t1 = 0
    · right; rw [if_pos (by omega)]
    · left; rw [if_neg (by omega)]
def fr64 (t1 : Nat) : Nat := if t1 = 0 then 0 else (t1.log2 + 971) * 4503599627370496 + (t1 * 2 ^ (52 - t1.log2) - 4503599627370496)
theorem fr64_c {t1 : Nat} (h2 : t1 < 4503599627370496) (h0 : t1 ≠ 0) : t1.log2 ≤ 51 ∧ 2 ^ t1.log2 ≤ t1 ∧ t1 < 2 ^ (t1.log2 + 1) ∧ 4503599627370496 ≤ t1 * 2 ^ (52 - t1.log2) ∧ t1 * 2 ^ (52 - t1.log2) < 9007199254740992 := by
  have a1 : 2 ^ t1.log2 ≤ t1 := Nat.log2_self_le h0
  have a2 : t1 < 2 ^ (t1.log2 + 1) := Nat.lt_log2_self
  have a3 : t1.log2 < 52 := (Nat.log2_lt h0).mpr h2
  have b1 : 2 ^ t1.log2 * 2 ^ (52 - t1.log2) ≤ t1 * 2 ^ (52 - t1.log2) := Nat.mul_le_mul_right _ a1
  have b2 : t1 * 2 ^ (52 - t1.log2) < 2 ^ (t1.log2 + 1) * 2 ^ (52 - t1.log2) := Nat.mul_lt_mul_of_pos_right a2 (Nat.two_pow_pos _)
  rw [← Nat.pow_add, show t1.log2 + (52 - t1.log2) = 52 by omega] at b1
  rw [← Nat.pow_add, show t1.log2 + 1 + (52 - t1.log2) = 53 by omega] at b2
  exact ⟨by omega, a1, a2, b1, b2⟩
theorem rr0 (e1 : Int) : FP.Core.encode FP.Core.b64 (FP.Core.roundRatio FP.Core.b64 false 0 1 e1) = 0 := by
  unfold FP.Core.roundRatio
  rw [if_pos rfl]
  decide
/-- taking off 1 -/
theorem dsub_one {t1 : Nat} (h2 : t1 < 4503599627370496) : FP.dsub (UInt64.ofNat (1023 * 4503599627370496 + t1)) (UInt64.ofNat 4607182418800017408) = UInt64.ofNat (fr64 t1) := by
  have e0 := dec64n (t1 := 0) (e1 := 1023) (by omega) (by omega)
  rw [Nat.add_zero, Nat.add_zero] at e0
  have e00 : FP.Core.decode FP.Core.b64 (UInt64.ofNat 4607182418800017408).toNat = .fin false 4503599627370496 (-52) := e0
  have e1 : FP.dsub (UInt64.ofNat (1023 * 4503599627370496 + t1)) (UInt64.ofNat 4607182418800017408) = UInt64.ofNat (FP.Core.encode FP.Core.b64 (FP.Core.roundRatio FP.Core.b64 false t1 1 (-52))) := by
    show UInt64.ofNat (FP.Core.encode FP.Core.b64 (FP.Core.round FP.Core.b64 (FP.Core.exactSum (FP.Core.decode FP.Core.b64 _) (FP.Core.negate (FP.Core.decode FP.Core.b64 _))))) = _
    rw [dec64n h2 (by omega), e00]
    have h5 : FP.Core.sumUnits false (4503599627370496 + t1) (-52) true 4503599627370496 (-52) (-52) = (t1 : Int) := by
      show (((4503599627370496 + t1) * 1 : Nat) : Int) + -((4503599627370496 * 1 : Nat) : Int) = _
      omega
    show UInt64.ofNat (FP.Core.encode FP.Core.b64 (FP.Core.roundRatio FP.Core.b64 (FP.Core.sumSign false true (FP.Core.sumUnits false (4503599627370496 + t1) (-52) true 4503599627370496 (-52) (-52))) (FP.Core.sumUnits false (4503599627370496 + t1) (-52) true 4503599627370496 (-52) (-52)).natAbs 1 (-52))) = _
    rw [h5, Int.natAbs_natCast]
    congr 3
    unfold FP.Core.sumSign
    split
    · rfl
    · exact decide_eq_false (by omega)
  rw [e1]
  unfold fr64
  by_cases q : t1 = 0
  · rw [if_pos q, q, rr0]
  · rw [if_neg q]
    obtain ⟨a1, a2, a3, a4, a5⟩ := fr64_c h2 q
    have r := rr1 (e1 := -52) (c := t1 * 2 ^ (52 - t1.log2)) a2 a3 (by omega) (Or.inl ⟨by omega, rfl⟩)
    rw [r.1]
    have e5 := enc64n (t1 := t1 * 2 ^ (52 - t1.log2) - 4503599627370496) (e1 := t1.log2 + 971) (q := -52 + (t1.log2 : Int) - 52) (by omega) (by omega) (by omega)
    rw [show 4503599627370496 + (t1 * 2 ^ (52 - t1.log2) - 4503599627370496) = t1 * 2 ^ (52 - t1.log2) by omega] at e5
    exact congrArg UInt64.ofNat e5
theorem fr64_lt {t1 : Nat} (h2 : t1 < 4503599627370496) : fr64 t1 < 4607182418800017408 := by
  unfold fr64
  split
  · decide
  · next q => have := fr64_c h2 q; omega
/-- a fraction 2 to the 52 times, as a whole number -/
theorem dmul_52 {t1 : Nat} (h2 : t1 < 4503599627370496) : vf_n64 (FP.dmul (UInt64.ofNat (fr64 t1)) (UInt64.ofNat 4841369599423283200)) ∧ (FP.d2l (FP.dmul (UInt64.ofNat (fr64 t1)) (UInt64.ofNat 4841369599423283200))).toInt = (t1 : Int) := by
  by_cases q : t1 = 0
  · subst q
    have e : FP.dmul (UInt64.ofNat (fr64 0)) (UInt64.ofNat 4841369599423283200) = UInt64.ofNat 0 := by decide +kernel
    rw [e]
    exact ⟨vf64 (by omega), by decide +kernel⟩
  · obtain ⟨a1, a2, a3, a4, a5⟩ := fr64_c h2 q
    have e : FP.dmul (UInt64.ofNat (fr64 t1)) (UInt64.ofNat 4841369599423283200) = UInt64.ofNat ((t1.log2 + 1023) * 4503599627370496 + (t1 * 2 ^ (52 - t1.log2) - 4503599627370496)) := by
      unfold fr64
      rw [if_neg q]
      have r := dmul_pow (t1 := t1 * 2 ^ (52 - t1.log2) - 4503599627370496) (e1 := t1.log2 + 971) (e2 := 1075) (by omega) (by omega) (by omega) (by omega)
      rw [show t1.log2 + 971 + 1075 - 1023 = t1.log2 + 1023 by omega] at r
      exact r
    rw [e]
    refine ⟨vfn (by omega) (by omega), ?_⟩
    show (FP.Core.toL (FP.Core.decode FP.Core.b64 _)).toInt = _
    rw [dec64n (by omega) (by omega), show 4503599627370496 + (t1 * 2 ^ (52 - t1.log2) - 4503599627370496) = t1 * 2 ^ (52 - t1.log2) by omega]
    have h5 : FP.Core.truncate false (t1 * 2 ^ (52 - t1.log2)) (((t1.log2 + 1023 : Nat) : Int) - 1075) = (t1 : Int) := by
      unfold FP.Core.truncate
      rw [show (((t1.log2 + 1023 : Nat) : Int) - 1075).toNat = 0 by omega, show (-(((t1.log2 + 1023 : Nat) : Int) - 1075)).toNat = 52 - t1.log2 by omega, Nat.pow_zero, Nat.mul_one, Nat.mul_div_cancel _ (Nat.two_pow_pos _)]
      rfl
    unfold FP.Core.toL FP.Core.toInt
    show (Int64.ofInt (max (-2 ^ 63) (min (2 ^ 63 - 1) (FP.Core.truncate false (t1 * 2 ^ (52 - t1.log2)) (((t1.log2 + 1023 : Nat) : Int) - 1075))))).toInt = _
    rw [h5, show max (-2 ^ 63) (min (2 ^ 63 - 1) (t1 : Int)) = (t1 : Int) by omega]
    exact Int64.toInt_ofInt_of_le (by omega) (by omega)
theorem zlshl52 : ∀ e, e < 1024 → zlshl ((e : Nat) : Int) 52 = ((e * 4503599627370496 : Nat) : Int) := by decide +kernel
theorem or52 {e t1 : Nat} (h : t1 < 4503599627370496) : e * 4503599627370496 ||| t1 = e * 4503599627370496 + t1 := by
  have := Nat.two_pow_add_eq_or_of_lt (i := 52) (b := t1) h e
  rw [Nat.mul_comm]
  exact this.symm
set_option maxRecDepth 20000 in
set_option maxHeartbeats 4000000 in
theorem c_doubleBits {d : Nat} {G : zG} {A : Int → Int → Int} {P : Option zV → zG → Prop} {e1 t1 : Nat} (h2 : t1 < 4503599627370496) (h3 : 900 ≤ e1 ∧ e1 ≤ 1023) (k : P (some (1, ((e1 * 4503599627370496 + t1 : Nat) : Int))) (gw G A)) : ZE d M_SN_doubleBits (gw G A) 0 [(4, ((e1 * 4503599627370496 + t1 : Nat) : Int)), (9, 0), (9, 0), (9, 0), (9, 0), (9, 0), (9, 0)] [] P := by
  refine ZE.dload_n d_SN_doubleBits_0 rfl ?_
  refine ZE.dstore_n (ls2 := [(4, ((e1 * 4503599627370496 + t1 : Nat) : Int)), (9, 0), (4, ((e1 * 4503599627370496 + t1 : Nat) : Int)), (9, 0), (9, 0), (9, 0), (9, 0)]) d_SN_doubleBits_1 (Nat.le_of_ble_eq_true rfl) rfl ?_
  refine ZE.ldc2 (v := 1023) d_SN_doubleBits_2 k_SN_401 ?_
  refine ZE.lstore (ls2 := [(4, ((e1 * 4503599627370496 + t1 : Nat) : Int)), (9, 0), (4, ((e1 * 4503599627370496 + t1 : Nat) : Int)), (9, 0), (1, 1023), (9, 0), (9, 0)]) d_SN_doubleBits_5 (Nat.le_of_ble_eq_true rfl) rfl ?_
  refine ZE.iconst (n := 0) d_SN_doubleBits_7 ?_
  refine ZE.istore (ls2 := [(4, ((e1 * 4503599627370496 + t1 : Nat) : Int)), (9, 0), (4, ((e1 * 4503599627370496 + t1 : Nat) : Int)), (9, 0), (1, 1023), (9, 0), (0, 0)]) d_SN_doubleBits_8 (Nat.le_of_ble_eq_true rfl) rfl ?_
  have L10 : ∀ (tt0 : Nat) (j : Nat) (eb : Nat) (ec : Nat) (hj : j + e1 = eb) (heb : eb ≤ 1023) (hec : ec + eb = 1023 + e1), 1023 - eb < tt0 → ZE d M_SN_doubleBits (gw G A) 10 [(4, ((e1 * 4503599627370496 + t1 : Nat) : Int)), (9, 0), (4, ((eb * 4503599627370496 + t1 : Nat) : Int)), (9, 0), (1, (ec : Int)), (9, 0), (0, (j : Int))] [] P := by
    intro tt0
    induction tt0 with
    | zero => intro j eb ec hj heb hec hm; exact absurd hm (Nat.not_lt_zero _)
    | succ tt0 ih =>
      intro j eb ec hj heb hec hm
      have hdc := dcmp_one (e1 := eb) h2 (by omega)
      have hzz : zd ((eb * 4503599627370496 + t1 : Nat) : Int) = UInt64.ofNat (eb * 4503599627370496 + t1) := rfl
      refine ZE.iload d_SN_doubleBits_10 rfl ?_
      refine ZE.sipush (n := 1000) d_SN_doubleBits_12 rfl ?_
      refine ZE.icmp_ge (tgt := 42) d_SN_doubleBits_15 rfl (by unfold zR; omega) (by unfold zR; omega) (fun c15 => ?_) (fun c15 => ?_)
      · exact absurd c15 (by omega)
      · refine ZE.dload_n d_SN_doubleBits_18 rfl ?_
        refine ZE.dconst1 d_SN_doubleBits_19 ?_
        show ZE d M_SN_doubleBits (gw G A) 20 [(4, ((e1 * 4503599627370496 + t1 : Nat) : Int)), (9, 0), (4, ((eb * 4503599627370496 + t1 : Nat) : Int)), (9, 0), (1, (ec : Int)), (9, 0), (0, (j : Int))] [(4, 4607182418800017408), (4, ((eb * 4503599627370496 + t1 : Nat) : Int))] _
        refine ZE.dcmp d_SN_doubleBits_20 ?_
        have hz21 : zR (Op.cmpValue (FP.dcmp (zd ((eb * 4503599627370496 + t1 : Nat) : Int)) (zd 4607182418800017408)) .g).toInt := by
          have h1 := Int32.le_toInt (Op.cmpValue (FP.dcmp (zd ((eb * 4503599627370496 + t1 : Nat) : Int)) (zd 4607182418800017408)) .g)
          have h4 := Int32.toInt_lt (Op.cmpValue (FP.dcmp (zd ((eb * 4503599627370496 + t1 : Nat) : Int)) (zd 4607182418800017408)) .g)
          unfold zR; omega
        refine ZE.if_ge (tgt := 42) d_SN_doubleBits_21 rfl hz21 (fun c21 => ?_) (fun c21 => ?_)
        · have hE3 : eb = 1023 := by
            rcases Nat.lt_or_ge eb 1023 with q | q
            · have h5 := hdc.1 q
              rw [hzz, show zd 4607182418800017408 = UInt64.ofNat 4607182418800017408 from rfl, h5] at c21
              exact absurd c21 (by decide)
            · omega
          refine ZE.lload d_SN_doubleBits_42 rfl ?_
          refine ZE.bipush (n := 52) d_SN_doubleBits_44 rfl ?_
          refine ZE.lshl d_SN_doubleBits_46 ?_
          rw [show (zlshl (ec : Int) 52 : Int) = ((ec * 4503599627370496 : Nat) : Int) from (zlshl52 ec (by omega))]
          refine ZE.dload_n d_SN_doubleBits_47 rfl ?_
          refine ZE.dconst1 d_SN_doubleBits_48 ?_
          show ZE d M_SN_doubleBits (gw G A) 49 [(4, ((e1 * 4503599627370496 + t1 : Nat) : Int)), (9, 0), (4, ((eb * 4503599627370496 + t1 : Nat) : Int)), (9, 0), (1, (ec : Int)), (9, 0), (0, (j : Int))] [(4, 4607182418800017408), (4, ((eb * 4503599627370496 + t1 : Nat) : Int)), (1, ((ec * 4503599627370496 : Nat) : Int))] _
          refine ZE.dsub d_SN_doubleBits_49 (by show vf_n64 (FP.dsub (UInt64.ofNat (eb * 4503599627370496 + t1)) (UInt64.ofNat 4607182418800017408)); rw [hE3, dsub_one h2]; exact vf64 (by have := fr64_lt h2; omega)) ?_
          rw [show (dI (FP.dsub (zd ((eb * 4503599627370496 + t1 : Nat) : Int)) (zd 4607182418800017408)) : Int) = ((fr64 t1 : Nat) : Int) from (by show dI (FP.dsub (UInt64.ofNat (eb * 4503599627370496 + t1)) (UInt64.ofNat 4607182418800017408)) = _; rw [hE3, dsub_one h2]; exact dI_of (by have := fr64_lt h2; omega))]
          refine ZE.ldc2d (v := 4841369599423283200) d_SN_doubleBits_50 k_SN_405 ?_
          refine ZE.dmul d_SN_doubleBits_53 (by show vf_n64 (FP.dmul (UInt64.ofNat (fr64 t1)) (UInt64.ofNat 4841369599423283200)); exact (dmul_52 h2).1) ?_
          refine ZE.d2l d_SN_doubleBits_54 ?_
          rw [show ((FP.d2l (zd (dI (FP.dmul (zd ((fr64 t1 : Nat) : Int)) (zd 4841369599423283200))))).toInt : Int) = (t1 : Int) from (by show (FP.d2l (zd (dI (FP.dmul (UInt64.ofNat (fr64 t1)) (UInt64.ofNat 4841369599423283200))))).toInt = _; rw [zd_dI]; exact (dmul_52 h2).2)]
          refine ZE.lor d_SN_doubleBits_55 ?_
          rw [show (zlor ((ec * 4503599627370496 : Nat) : Int) (t1 : Int) : Int) = ((ec * 4503599627370496 ||| t1 : Nat) : Int) from (zlor_nat (by omega) (by omega))]
          refine ZE.lret d_SN_doubleBits_56 rfl ?_
          rw [or52 h2, show ec = e1 by omega]
          exact k
        · have hE4 : eb < 1023 := by
            rcases Nat.lt_or_ge eb 1023 with q | q
            · exact q
            · exfalso
              rcases hdc.2 (by omega) with h5 | h5
              · rw [hzz, show zd 4607182418800017408 = UInt64.ofNat 4607182418800017408 from rfl, h5] at c21; exact c21 (by decide)
              · rw [hzz, show zd 4607182418800017408 = UInt64.ofNat 4607182418800017408 from rfl, h5] at c21; exact c21 (by decide)
          refine ZE.dload_n d_SN_doubleBits_24 rfl ?_
          refine ZE.ldc2d (v := 4611686018427387904) d_SN_doubleBits_25 k_SN_403 ?_
          refine ZE.dmul d_SN_doubleBits_28 (by show vf_n64 (FP.dmul (UInt64.ofNat (eb * 4503599627370496 + t1)) (UInt64.ofNat (1024 * 4503599627370496))); rw [dmul_pow h2 (by omega) (by omega) (by omega)]; exact vfn h2 (by omega)) ?_
          rw [show (dI (FP.dmul (zd ((eb * 4503599627370496 + t1 : Nat) : Int)) (zd 4611686018427387904)) : Int) = (((eb + 1) * 4503599627370496 + t1 : Nat) : Int) from (by have r := dmul_pow (e1 := eb) (e2 := 1024) h2 (by omega) (by omega) (by omega); rw [show eb + 1024 - 1023 = eb + 1 by omega] at r; show dI (FP.dmul (UInt64.ofNat (eb * 4503599627370496 + t1)) (UInt64.ofNat (1024 * 4503599627370496))) = _; rw [r]; exact dI_of (by omega))]
          refine ZE.dstore_n (ls2 := [(4, ((e1 * 4503599627370496 + t1 : Nat) : Int)), (9, 0), (4, (((eb + 1) * 4503599627370496 + t1 : Nat) : Int)), (9, 0), (1, (ec : Int)), (9, 0), (0, (j : Int))]) d_SN_doubleBits_29 (Nat.le_of_ble_eq_true rfl) rfl ?_
          refine ZE.lload d_SN_doubleBits_30 rfl ?_
          refine ZE.lconst d_SN_doubleBits_32 ?_
          show ZE d M_SN_doubleBits (gw G A) 33 [(4, ((e1 * 4503599627370496 + t1 : Nat) : Int)), (9, 0), (4, (((eb + 1) * 4503599627370496 + t1 : Nat) : Int)), (9, 0), (1, (ec : Int)), (9, 0), (0, (j : Int))] [(1, 1), (1, (ec : Int))] _
          refine ZE.lsub d_SN_doubleBits_33 ?_
          refine ZE.lstore (ls2 := [(4, ((e1 * 4503599627370496 + t1 : Nat) : Int)), (9, 0), (4, (((eb + 1) * 4503599627370496 + t1 : Nat) : Int)), (9, 0), (1, (ec : Int) - 1), (9, 0), (0, (j : Int))]) d_SN_doubleBits_34 (Nat.le_of_ble_eq_true rfl) rfl ?_
          refine ZE.iinc (ls2 := [(4, ((e1 * 4503599627370496 + t1 : Nat) : Int)), (9, 0), (4, (((eb + 1) * 4503599627370496 + t1 : Nat) : Int)), (9, 0), (1, (ec : Int) - 1), (9, 0), (0, (j : Int) + 1)]) d_SN_doubleBits_36 rfl rfl ?_
          refine ZE.goto (tgt := 10) d_SN_doubleBits_39 rfl ?_
          rw [show (j : Int) + 1 = ((j + 1 : Nat) : Int) by omega, show (ec : Int) - 1 = ((ec - 1 : Nat) : Int) by omega, show ((eb + 1) * 4503599627370496 + t1 : Nat) = (eb + 1) * 4503599627370496 + t1 from rfl]
          exact ih (j + 1) (eb + 1) (ec - 1) (by omega) (by omega) (by omega) (by omega)
  exact L10 _ 0 e1 1023 (by omega) (by omega) (by omega) (Nat.lt_succ_self _)
