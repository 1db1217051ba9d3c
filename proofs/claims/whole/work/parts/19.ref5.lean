/-! trial division; the fraction of a square root -/
def tdF : Nat → Nat → Nat → Bool
  | 0, _, _ => true
  | f + 1, k, n => if k * k ≤ n then (if n % k = 0 then false else tdF f (k + 1) n) else true
def prm (n : Nat) : Prop := 1 < n ∧ tdF 40 2 n = true
abbrev cS : Type := Nat × Nat × Nat
def cfs (D r : Nat) (s : cS) : cS := (s.2.1 * s.2.2 - s.1, (D - (s.2.1 * s.2.2 - s.1) * (s.2.1 * s.2.2 - s.1)) / s.2.1, (r + (s.2.1 * s.2.2 - s.1)) / ((D - (s.2.1 * s.2.2 - s.1) * (s.2.1 * s.2.2 - s.1)) / s.2.1))
def cf (D r : Nat) : Nat → cS
  | 0 => (0, 1, r)
  | k + 1 => cfs D r (cf D r k)
/-- a step from here is sound -/
def cgood (D r : Nat) (s : cS) : Bool := decide (0 < s.2.1 ∧ s.2.1 ≤ 10000 ∧ s.2.2 ≤ 9999 ∧ s.1 ≤ s.2.1 * s.2.2 ∧ (s.2.1 * s.2.2 - s.1) * (s.2.1 * s.2.2 - s.1) ≤ D ∧ 0 < (cfs D r s).2.1 ∧ (cfs D r s).2.1 ≤ 10000 ∧ (cfs D r s).1 ≤ 10000 ∧ (cfs D r s).2.2 ≤ 9999)
def goS (A : Int → Int → Int) (o : Int) (s : cS) : Prop := A o 9 = s.1 ∧ A o 10 = s.2.1 ∧ A o 11 = s.2.2
def goF (A A' : Int → Int → Int) (o : Int) : Prop := ∀ b i : Int, ¬ (b = o ∧ 9 ≤ i ∧ i ≤ 11) → A' b i = A b i
theorem goF.rf {A : Int → Int → Int} {o : Int} : goF A A o := fun _ _ _ => rfl
theorem goF.tr {A B C : Int → Int → Int} {o : Int} (h : goF A B o) (g : goF B C o) : goF A C o := fun b i q => (g b i q).trans (h b i q)
theorem goF.row {A A' : Int → Int → Int} {o b : Int} (h : goF A A' o) (hb : b ≠ o) : A' b = A b := funext fun i => h b i (fun q => hb q.1)
theorem goF.up {A A' : Int → Int → Int} {o i v : Int} (h : goF A A' o) (hi : 9 ≤ i ∧ i ≤ 11) : goF A (up2 A' o i v) o := fun b j q => by
  rw [up2_ne _ _ (fun e => q ⟨e.1, by omega⟩)]
  exact h b j q
theorem RF.go {A A' : Int → Int → Int} {o : Int} (h : RF A o) (g : goF A A' o) : RF A' o := by
  have e0 : ∀ j : Int, ¬ (9 ≤ j ∧ j ≤ 11) → A' o j = A o j := fun j hj => g o j (fun q => hj q.2)
  have e1 : A' (o + 1) = A (o + 1) := g.row (by omega)
  unfold RF
  rw [e1]
  refine ⟨(e0 _ (by omega)).trans h.a0, (e0 _ (by omega)).trans h.a2, (e0 _ (by omega)).trans h.a3, (e0 _ (by omega)).trans h.a4, (e0 _ (by omega)).trans h.a5, (e0 _ (by omega)).trans h.a6, (e0 _ (by omega)).trans h.a12, (e0 _ (by omega)).trans h.a13, (e0 _ (by omega)).trans h.a14, (e0 _ (by omega)).trans h.a16, (e0 _ (by omega)).trans h.a17, (e0 _ (by omega)).trans h.a18, (e0 _ (by omega)).trans h.a22, (e0 _ (by omega)).trans h.a23, (e0 _ (by omega)).trans h.a24, (e0 _ (by omega)).trans h.a25, (e0 _ (by omega)).trans h.a26, (e0 _ (by omega)).trans h.a27, (e0 _ (by omega)).trans h.a30, h.sev⟩
set_option maxRecDepth 20000 in
set_option maxHeartbeats 4000000 in
theorem r_isPrime {d : Nat} {G : zG} {A : Int → Int → Int} {P : Option zV → zG → Prop} {n : Nat} (hn : n < 1000) (k : P (some (0, b2i (prm n))) (gw G A)) : ZE d M_Ref_isPrime (gw G A) 0 [(0, (n : Int)), (9, 0)] [] P := by
  refine ZE.iconst (n := 2) d_Ref_isPrime_0 ?_
  refine ZE.istore_n (ls2 := [(0, (n : Int)), (0, 2)]) d_Ref_isPrime_1 (Nat.le_of_ble_eq_true rfl) rfl ?_
  have L2 : ∀ (t : Nat) (x1 : Nat) (fu : Nat) (h2 : 2 ≤ x1) (h33 : x1 ≤ 33) (hfu : fu + x1 = 42) (ht : tdF fu x1 n = tdF 40 2 n), 40 - x1 < t → ZE d M_Ref_isPrime (gw G A) 2 [(0, (n : Int)), (0, (x1 : Int))] [] P := by
    intro t
    induction t with
    | zero => intro x1 fu h2 h33 hfu ht hm; exact absurd hm (Nat.not_lt_zero _)
    | succ t ih =>
      intro x1 fu h2 h33 hfu ht hm
      have hxx : ((x1 * x1 : Nat) : Int) = (x1 : Int) * x1 := Int.natCast_mul _ _
      have hx3 : x1 * x1 ≤ 33 * 33 := Nat.mul_le_mul h33 h33
      have h32 : x1 * x1 ≤ n → x1 ≤ 32 := fun q => by rcases Nat.lt_or_ge x1 33 with q1 | q1; exact (by omega); exact absurd (Nat.mul_le_mul q1 q1) (by omega)
      refine ZE.iload_n d_Ref_isPrime_2 rfl ?_
      refine ZE.iload_n d_Ref_isPrime_3 rfl ?_
      refine ZE.imul d_Ref_isPrime_4 ?_
      refine ZE.iload_n d_Ref_isPrime_5 rfl ?_
      refine ZE.icmp_gt (tgt := 23) d_Ref_isPrime_6 rfl (by unfold zR; omega) (by unfold zR; omega) (fun c6 => ?_) (fun c6 => ?_)
      · have hend : tdF 40 2 n = true := by
          rw [← ht]
          have e : fu = (fu - 1) + 1 := by omega
          rw [e]
          unfold tdF
          rw [if_neg (by omega)]
        refine ZE.iload_n d_Ref_isPrime_23 rfl ?_
        refine ZE.iconst (n := 1) d_Ref_isPrime_24 ?_
        refine ZE.icmp_le (tgt := 32) d_Ref_isPrime_25 rfl (by unfold zR; omega) (by unfold zR; omega) (fun c25 => ?_) (fun c25 => ?_)
        · refine ZE.iconst (n := 0) d_Ref_isPrime_32 ?_
          refine ZE.zret d_Ref_isPrime_33 rfl (by omega) ?_
          rw [b2i_f (fun q => by have := q.1; omega)] at k
          exact k
        · refine ZE.iconst (n := 1) d_Ref_isPrime_28 ?_
          refine ZE.goto (tgt := 33) d_Ref_isPrime_29 rfl ?_
          refine ZE.zret d_Ref_isPrime_33 rfl (by omega) ?_
          rw [b2i_t ⟨by omega, hend⟩] at k
          exact k
      · have hx32 := h32 (by omega)
        refine ZE.iload_n d_Ref_isPrime_9 rfl ?_
        refine ZE.iload_n d_Ref_isPrime_10 rfl ?_
        refine ZE.iremP d_Ref_isPrime_11 (by omega) ?_
        rw [show ((n : Int) % (x1 : Int) : Int) = ((n % x1 : Nat) : Int) from (Int.natCast_emod _ _).symm]
        refine ZE.if_ne (tgt := 17) d_Ref_isPrime_12 rfl (by have := Nat.mod_lt n (show 0 < x1 by omega); unfold zR; omega) (fun c12 => ?_) (fun c12 => ?_)
        · refine ZE.iinc (ls2 := [(0, (n : Int)), (0, (x1 : Int) + 1)]) d_Ref_isPrime_17 rfl rfl ?_
          refine ZE.goto (tgt := 2) d_Ref_isPrime_20 rfl ?_
          rw [show (x1 : Int) + 1 = ((x1 + 1 : Nat) : Int) by omega]
          refine ih (x1 + 1) (fu - 1) (by omega) (by omega) (by omega) ?_ (by omega)
          have e : fu = (fu - 1) + 1 := by omega
          rw [e] at ht
          unfold tdF at ht
          rw [if_pos (by omega), if_neg (by omega)] at ht
          exact ht
        · have hend : tdF 40 2 n = false := by
            rw [← ht]
            have e : fu = (fu - 1) + 1 := by omega
            rw [e]
            unfold tdF
            rw [if_pos (by omega), if_pos (by omega)]
          refine ZE.iconst (n := 0) d_Ref_isPrime_15 ?_
          refine ZE.zret d_Ref_isPrime_16 rfl (by omega) ?_
          rw [b2i_f (by unfold prm; rw [hend]; simp)] at k
          exact k
  exact L2 _ 2 40 (by omega) (by omega) (by omega) rfl (Nat.lt_succ_self _)
set_option maxRecDepth 20000 in
set_option maxHeartbeats 4000000 in
theorem r_isSquare {d : Nat} {G : zG} {A : Int → Int → Int} {P : Option zV → zG → Prop} {v : Int} (hv : -1000000 ≤ v ∧ v < 4000000000000) (k : P (some (0, b2i (∃ r : Nat, (r : Int) * r = v))) (gw G A)) : ZE d M_Ref_isSquare (gw G A) 0 [(1, v), (9, 0), (9, 0), (9, 0), (9, 0), (9, 0), (9, 0), (9, 0)] [] P := by
  refine ZE.lconst d_Ref_isSquare_0 ?_
  show ZE d M_Ref_isSquare (gw G A) 1 [(1, v), (9, 0), (9, 0), (9, 0), (9, 0), (9, 0), (9, 0), (9, 0)] [(1, 0)] _
  refine ZE.lstore_n (ls2 := [(1, v), (9, 0), (1, 0), (9, 0), (9, 0), (9, 0), (9, 0), (9, 0)]) d_Ref_isSquare_1 (Nat.le_of_ble_eq_true rfl) rfl ?_
  refine ZE.ldc2 (v := 2000000) d_Ref_isSquare_2 k_Ref_331 ?_
  refine ZE.lstore (ls2 := [(1, v), (9, 0), (1, 0), (9, 0), (1, 2000000), (9, 0), (9, 0), (9, 0)]) d_Ref_isSquare_5 (Nat.le_of_ble_eq_true rfl) rfl ?_
  have L7 : ∀ (t : Nat) (lo : Nat) (hi : Nat) (h1 : lo ≤ hi) (h2 : hi ≤ 2000000) (hl : 0 ≤ v → (lo : Int) * lo ≤ v) (hh : v < ((hi : Int) + 1) * ((hi : Int) + 1)), hi - lo < t → ZE d M_Ref_isSquare (gw G A) 7 [(1, v), (9, 0), (1, (lo : Int)), (9, 0), (1, (hi : Int)), (9, 0), (9, 0), (9, 0)] [] P := by
    intro t
    induction t with
    | zero => intro lo hi h1 h2 hl hh hm; exact absurd hm (Nat.not_lt_zero _)
    | succ t ih =>
      intro lo hi h1 h2 hl hh hm
      refine ZE.lload_n d_Ref_isSquare_7 rfl ?_
      refine ZE.lload d_Ref_isSquare_8 rfl ?_
      refine ZE.lcmp d_Ref_isSquare_10 (by unfold zR64; omega) (by unfold zR64; omega) ?_
      refine ZE.if_ge (tgt := 51) d_Ref_isSquare_11 rfl (zR_zcmp _ _) (fun c11 => ?_) (fun c11 => ?_)
      · replace c11 := zcmp_ge.mp c11
        have e1 : hi = lo := by omega
        have e2 : ((lo * lo : Nat) : Int) = (lo : Int) * lo := Int.natCast_mul _ _
        have e3 : lo * lo ≤ 2000000 * 2000000 := Nat.mul_le_mul (by omega) (by omega)
        rw [e1] at hh
        refine ZE.lload_n d_Ref_isSquare_51 rfl ?_
        refine ZE.lconst d_Ref_isSquare_52 ?_
        show ZE d M_Ref_isSquare (gw G A) 53 [(1, v), (9, 0), (1, (lo : Int)), (9, 0), (1, (hi : Int)), (9, 0), (9, 0), (9, 0)] [(1, 0), (1, v)] _
        refine ZE.lcmp d_Ref_isSquare_53 (by unfold zR64; omega) (by unfold zR64; omega) ?_
        refine ZE.if_lt (tgt := 69) d_Ref_isSquare_54 rfl (zR_zcmp _ _) (fun c54 => ?_) (fun c54 => ?_)
        · replace c54 := zcmp_lt.mp c54
          refine ZE.iconst (n := 0) d_Ref_isSquare_69 ?_
          refine ZE.zret d_Ref_isSquare_70 rfl (by omega) ?_
          rw [b2i_f ?_] at k
          · exact k
          · rintro ⟨r, hr⟩
            have hr0 : (0 : Int) ≤ (r : Int) * r := Int.mul_nonneg (by omega) (by omega)
            have hl2 := hl (by omega)
            rcases Nat.lt_trichotomy r lo with q | q | q
            · have := Nat.mul_le_mul (show r + 1 ≤ lo by omega) (show r + 1 ≤ lo by omega)
              have e5 : (((r + 1) * (r + 1) : Nat) : Int) = (r : Int) * r + 2 * r + 1 := by rw [Nat.add_mul, Nat.mul_add]; simp only [Int.natCast_add, Int.natCast_mul]; omega
              first | omega | (have c := c54; omega)
            · subst q; first | omega | (exact c62 hr)
            · have := Nat.mul_le_mul (show lo + 1 ≤ r by omega) (show lo + 1 ≤ r by omega)
              have e5 : (((lo + 1) * (lo + 1) : Nat) : Int) = ((lo : Int) + 1) * ((lo : Int) + 1) := by simp only [Int.natCast_add, Int.natCast_mul]; rfl
              have e6 : ((r * r : Nat) : Int) = (r : Int) * r := Int.natCast_mul _ _
              omega
        · replace c54 := (not_congr zcmp_lt).mp c54
          refine ZE.lload_n d_Ref_isSquare_57 rfl ?_
          refine ZE.lload_n d_Ref_isSquare_58 rfl ?_
          refine ZE.lmul d_Ref_isSquare_59 ?_
          refine ZE.lload_n d_Ref_isSquare_60 rfl ?_
          refine ZE.lcmp d_Ref_isSquare_61 (by unfold zR64; omega) (by unfold zR64; omega) ?_
          refine ZE.if_ne (tgt := 69) d_Ref_isSquare_62 rfl (zR_zcmp _ _) (fun c62 => ?_) (fun c62 => ?_)
          · replace c62 := (not_congr zcmp_eq).mp c62
            refine ZE.iconst (n := 0) d_Ref_isSquare_69 ?_
            refine ZE.zret d_Ref_isSquare_70 rfl (by omega) ?_
            rw [b2i_f ?_] at k
            · exact k
            · rintro ⟨r, hr⟩
              have hr0 : (0 : Int) ≤ (r : Int) * r := Int.mul_nonneg (by omega) (by omega)
              have hl2 := hl (by omega)
              rcases Nat.lt_trichotomy r lo with q | q | q
              · have := Nat.mul_le_mul (show r + 1 ≤ lo by omega) (show r + 1 ≤ lo by omega)
                have e5 : (((r + 1) * (r + 1) : Nat) : Int) = (r : Int) * r + 2 * r + 1 := by rw [Nat.add_mul, Nat.mul_add]; simp only [Int.natCast_add, Int.natCast_mul]; omega
                first | omega | (have c := c54; omega)
              · subst q; first | omega | (exact c62 hr)
              · have := Nat.mul_le_mul (show lo + 1 ≤ r by omega) (show lo + 1 ≤ r by omega)
                have e5 : (((lo + 1) * (lo + 1) : Nat) : Int) = ((lo : Int) + 1) * ((lo : Int) + 1) := by simp only [Int.natCast_add, Int.natCast_mul]; rfl
                have e6 : ((r * r : Nat) : Int) = (r : Int) * r := Int.natCast_mul _ _
                omega
          · replace c62 := zcmp_eq.mp c62
            refine ZE.iconst (n := 1) d_Ref_isSquare_65 ?_
            refine ZE.goto (tgt := 70) d_Ref_isSquare_66 rfl ?_
            refine ZE.zret d_Ref_isSquare_70 rfl (by omega) ?_
            rw [b2i_t ⟨lo, by omega⟩] at k
            exact k
      · replace c11 := (not_congr zcmp_ge).mp c11
        obtain ⟨md, hmd0⟩ : ∃ md : Nat, md = (lo + hi + 1) / 2 := ⟨_, rfl⟩
        have hmd : ((lo : Int) + hi + 1) / 2 = ((md : Nat) : Int) := by omega
        refine ZE.lload_n d_Ref_isSquare_14 rfl ?_
        refine ZE.lload d_Ref_isSquare_15 rfl ?_
        refine ZE.ladd d_Ref_isSquare_17 ?_
        refine ZE.lconst d_Ref_isSquare_18 ?_
        show ZE d M_Ref_isSquare (gw G A) 19 [(1, v), (9, 0), (1, (lo : Int)), (9, 0), (1, (hi : Int)), (9, 0), (9, 0), (9, 0)] [(1, 1), (1, (lo : Int) + (hi : Int))] _
        refine ZE.ladd d_Ref_isSquare_19 ?_
        refine ZE.ldc2 (v := 2) d_Ref_isSquare_20 k_Ref_181 ?_
        refine ZE.ldivP d_Ref_isSquare_23 (by omega) ?_
        rw [show ((((lo : Int) + (hi : Int)) + 1) / 2 : Int) = ((md : Nat) : Int) from hmd]
        refine ZE.lstore (ls2 := [(1, v), (9, 0), (1, (lo : Int)), (9, 0), (1, (hi : Int)), (9, 0), (1, ((md : Nat) : Int)), (9, 0)]) d_Ref_isSquare_24 (Nat.le_of_ble_eq_true rfl) rfl ?_
        refine ZE.lload d_Ref_isSquare_26 rfl ?_
        refine ZE.lload d_Ref_isSquare_28 rfl ?_
        refine ZE.lmul d_Ref_isSquare_30 ?_
        refine ZE.lload_n d_Ref_isSquare_31 rfl ?_
        have e2 : ((md * md : Nat) : Int) = (md : Int) * md := Int.natCast_mul _ _
        have e3 : md * md ≤ 2000000 * 2000000 := Nat.mul_le_mul (by omega) (by omega)
        refine ZE.lcmp d_Ref_isSquare_32 (by unfold zR64; omega) (by unfold zR64; omega) ?_
        refine ZE.if_gt (tgt := 42) d_Ref_isSquare_33 rfl (zR_zcmp _ _) (fun c33 => ?_) (fun c33 => ?_)
        · replace c33 := zcmp_gt.mp c33
          refine ZE.lload d_Ref_isSquare_42 rfl ?_
          refine ZE.lconst d_Ref_isSquare_44 ?_
          show ZE d M_Ref_isSquare (gw G A) 45 [(1, v), (9, 0), (1, (lo : Int)), (9, 0), (1, (hi : Int)), (9, 0), (1, ((md : Nat) : Int)), (9, 0)] [(1, 1), (1, ((md : Nat) : Int))] _
          refine ZE.lsub d_Ref_isSquare_45 ?_
          refine ZE.lstore (ls2 := [(1, v), (9, 0), (1, (lo : Int)), (9, 0), (1, ((md : Nat) : Int) - 1), (9, 0), (1, ((md : Nat) : Int)), (9, 0)]) d_Ref_isSquare_46 (Nat.le_of_ble_eq_true rfl) rfl ?_
          refine ZE.goto (tgt := 7) d_Ref_isSquare_48 rfl ?_
          refine ZE.mask [true, true, true, true, true, true, false, true] ?_
          show ZE d M_Ref_isSquare (gw G A) 7 [(1, v), (9, 0), (1, (lo : Int)), (9, 0), (1, ((md : Nat) : Int) - 1), (9, 0), (9, 0), (9, 0)] [] _
          rw [show ((md : Nat) : Int) - 1 = ((md - 1 : Nat) : Int) by omega]
          refine ih lo (md - 1) (by omega) (by omega) hl ?_ (by omega)
          rw [show ((md - 1 : Nat) : Int) + 1 = (md : Int) by omega]
          omega
        · replace c33 := (not_congr zcmp_gt).mp c33
          refine ZE.lload d_Ref_isSquare_36 rfl ?_
          refine ZE.lstore_n (ls2 := [(1, v), (9, 0), (1, ((md : Nat) : Int)), (9, 0), (1, (hi : Int)), (9, 0), (1, ((md : Nat) : Int)), (9, 0)]) d_Ref_isSquare_38 (Nat.le_of_ble_eq_true rfl) rfl ?_
          refine ZE.goto (tgt := 48) d_Ref_isSquare_39 rfl ?_
          refine ZE.goto (tgt := 7) d_Ref_isSquare_48 rfl ?_
          refine ZE.mask [true, true, true, true, true, true, false, true] ?_
          show ZE d M_Ref_isSquare (gw G A) 7 [(1, v), (9, 0), (1, ((md : Nat) : Int)), (9, 0), (1, (hi : Int)), (9, 0), (9, 0), (9, 0)] [] _
          refine ih md hi (by omega) (by omega) (fun _ => ?_) hh (by omega)
          omega
  exact L7 _ 0 2000000 (by omega) (by omega) (by omega) (by omega) (Nat.lt_succ_self _)
set_option maxRecDepth 20000 in
set_option maxHeartbeats 4000000 in
theorem r_dOf {d : Nat} {G : zG} {A : Int → Int → Int} {P : Option zV → zG → Prop} {o : Int} (hK : RK G o) (hF : RF A o) {c : Int} (hc : 0 ≤ c ∧ c < 63) {q D : Nat} (hq : A (o + 3) c = q) (hD : (c < 32 ∧ D = 2 * q) ∨ (32 ≤ c ∧ D = q)) (k : P (some (0, (D : Int))) (gw G A)) : ZE d M_Ref_dOf (gw G A) 0 [(2, o), (0, c)] [] P := by
  refine ZE.iload_n d_Ref_dOf_0 rfl ?_
  refine ZE.bipush (n := 32) d_Ref_dOf_1 rfl ?_
  refine ZE.icmp_ge (tgt := 17) d_Ref_dOf_3 rfl (by unfold zR; omega) (by unfold zR; omega) (fun c3 => ?_) (fun c3 => ?_)
  · refine ZE.aload_n d_Ref_dOf_17 rfl ?_
    refine ZE.getE (v := o + 3) d_Ref_dOf_18 f_Ref_16 (tg := 2) rfl hK.1 hF.a3 ?_
    refine ZE.iload_n d_Ref_dOf_21 rfl ?_
    refine ZE.ialdE (v := (q : Int)) d_Ref_dOf_22 hK.k3 (by have hn0 := hK.n3; show 0 ≤ c ∧ c < gn G (o + 3); omega) hq ?_
    refine ZE.iret d_Ref_dOf_23 rfl ?_
    rw [show (D : Int) = (q : Int) by omega] at k
    exact k
  · refine ZE.iconst (n := 2) d_Ref_dOf_6 ?_
    refine ZE.aload_n d_Ref_dOf_7 rfl ?_
    refine ZE.getE (v := o + 3) d_Ref_dOf_8 f_Ref_16 (tg := 2) rfl hK.1 hF.a3 ?_
    refine ZE.iload_n d_Ref_dOf_11 rfl ?_
    refine ZE.ialdE (v := (q : Int)) d_Ref_dOf_12 hK.k3 (by have hn0 := hK.n3; show 0 ≤ c ∧ c < gn G (o + 3); omega) hq ?_
    refine ZE.imul d_Ref_dOf_13 ?_
    refine ZE.goto (tgt := 23) d_Ref_dOf_14 rfl ?_
    refine ZE.iret d_Ref_dOf_23 rfl ?_
    rw [show (D : Int) = 2 * (q : Int) by omega] at k
    exact k
set_option maxRecDepth 20000 in
set_option maxHeartbeats 4000000 in
theorem r_begin {d : Nat} {G : zG} {A : Int → Int → Int} {P : Option zV → zG → Prop} {o : Int} (hK : RK G o) (hF : RF A o) {c : Int} (hc : 0 ≤ c ∧ c < 63) {r : Nat} (hr : A (o + 4) c = r) (k : ∀ A2, goS A2 o (0, 1, r) → goF A A2 o → P none (gw G A2)) : ZE d M_Ref_begin (gw G A) 0 [(2, o), (0, c)] [] P := by
  refine ZE.aload_n d_Ref_begin_0 rfl ?_
  refine ZE.iconst (n := 0) d_Ref_begin_1 ?_
  refine ZE.put d_Ref_begin_2 f_Ref_119 (tg := 0) rfl trivial (Or.inl ⟨_, _, _, rfl, rfl, rfl⟩) hK.1 ?_
  show ZE d M_Ref_begin (gw G (up2 A o 9 0)) 5 [(2, o), (0, c)] [] _
  refine ZE.aload_n d_Ref_begin_5 rfl ?_
  refine ZE.iconst (n := 1) d_Ref_begin_6 ?_
  refine ZE.put d_Ref_begin_7 f_Ref_122 (tg := 0) rfl trivial (Or.inl ⟨_, _, _, rfl, rfl, rfl⟩) hK.1 ?_
  show ZE d M_Ref_begin (gw G (up2 (up2 A o 9 0) o 10 1)) 10 [(2, o), (0, c)] [] _
  refine ZE.aload_n d_Ref_begin_10 rfl ?_
  refine ZE.aload_n d_Ref_begin_11 rfl ?_
  refine ZE.getE (v := o + 4) d_Ref_begin_12 f_Ref_19 (tg := 2) rfl hK.1 (RF.fld 10 (RF.fld 9 hF (by omega)) (by omega)).a4 ?_
  refine ZE.iload_n d_Ref_begin_15 rfl ?_
  refine ZE.ialdE (v := (r : Int)) d_Ref_begin_16 hK.k4 (by have hn0 := hK.n4; show 0 ≤ c ∧ c < gn G (o + 4); omega) ((congrFun (congrFun (rfl) _) _).trans (((up2_ne _ _ (by omega)).trans (up2_ne _ _ (by omega))).trans hr)) ?_
  refine ZE.put d_Ref_begin_17 f_Ref_125 (tg := 0) rfl trivial (Or.inl ⟨_, _, _, rfl, rfl, rfl⟩) hK.1 ?_
  show ZE d M_Ref_begin (gw G (up2 (up2 (up2 A o 9 0) o 10 1) o 11 (r : Int))) 20 [(2, o), (0, c)] [] _
  refine ZE.vret d_Ref_begin_20 rfl ?_
  exact k _ ⟨(up2_ne _ _ (by omega)).trans ((up2_ne _ _ (by omega)).trans (up2_at _ _ _ _)), (up2_ne _ _ (by omega)).trans (up2_at _ _ _ _), up2_at _ _ _ _⟩ (((goF.rf.up (by omega)).up (by omega)).up (by omega))
set_option maxRecDepth 20000 in
set_option maxHeartbeats 4000000 in
theorem r_go {d : Nat} {G : zG} {A : Int → Int → Int} {P : Option zV → zG → Prop} {o : Int} (hK : RK G o) (hF : RF A o) {c : Int} (hc : 0 ≤ c ∧ c < 63) {q D : Nat} (hq : A (o + 3) c = q) (hD : (c < 32 ∧ D = 2 * q) ∨ (32 ≤ c ∧ D = q)) {r : Nat} (hr : A (o + 4) c = r) {s : cS} (hs : goS A o s) (hg : cgood D r s = true) (hDb : D ≤ 2147483647) (hrb : r ≤ 10000) (k : ∀ A2, goS A2 o (cfs D r s) → goF A A2 o → P none (gw G A2)) : ZE (d + 1) M_Ref_go (gw G A) 0 [(2, o), (0, c)] [] P := by
  obtain ⟨m, dd, a⟩ := s
  obtain ⟨hm, hdd, ha⟩ := hs
  dsimp only at hm hdd ha
  have hg2 := of_decide_eq_true hg
  unfold cfs at hg2 k
  dsimp only at hg2 k
  obtain ⟨g1, g1b, g2, g3, g4, g5, g6, g7, g8⟩ := hg2
  obtain ⟨z, hz⟩ : ∃ z : Nat, z = dd * a - m := ⟨_, rfl⟩
  rw [← hz] at g4 g5 g6 g7 g8 k
  have e1 : ((dd * a : Nat) : Int) = (dd : Int) * a := Int.natCast_mul _ _
  have ez : (dd : Int) * (a : Int) - (m : Int) = (z : Int) := by omega
  obtain ⟨u, hu⟩ : ∃ u : Nat, u = D - z * z := ⟨_, rfl⟩
  rw [← hu] at g5 g6 g8 k
  have e2 : ((z * z : Nat) : Int) = (z : Int) * z := Int.natCast_mul _ _
  have eu : (D : Int) - (z : Int) * (z : Int) = (u : Int) := by omega
  refine ZE.aload_n d_Ref_go_0 rfl ?_
  refine ZE.aload_n d_Ref_go_1 rfl ?_
  refine ZE.getE (v := (dd : Int)) d_Ref_go_2 f_Ref_122 (tg := 0) rfl hK.1 hdd ?_
  refine ZE.aload_n d_Ref_go_5 rfl ?_
  refine ZE.getE (v := (a : Int)) d_Ref_go_6 f_Ref_125 (tg := 0) rfl hK.1 ha ?_
  refine ZE.imul d_Ref_go_9 ?_
  refine ZE.aload_n d_Ref_go_10 rfl ?_
  refine ZE.getE (v := (m : Int)) d_Ref_go_11 f_Ref_119 (tg := 0) rfl hK.1 hm ?_
  refine ZE.isub d_Ref_go_14 ?_
  rw [show (((dd : Int) * (a : Int)) - (m : Int) : Int) = (z : Int) from ez]
  refine ZE.put d_Ref_go_15 f_Ref_119 (tg := 0) rfl trivial (Or.inl ⟨_, _, _, rfl, rfl, rfl⟩) hK.1 ?_
  show ZE (d + 1) M_Ref_go (gw G (up2 A o 9 (z : Int))) 18 [(2, o), (0, c)] [] _
  refine ZE.aload_n d_Ref_go_18 rfl ?_
  refine ZE.aload_n d_Ref_go_19 rfl ?_
  refine ZE.iload_n d_Ref_go_20 rfl ?_
  refine ZE.cV [(0, c)] [(2, o)] [(2, o), (0, c)] d_Ref_go_21 l_Ref_128 rfl rfl rfl rfl rfl rfl hK.1 ?_
  refine r_dOf (c := c) (q := q) (D := D) hK (RF.fld 9 hF (by omega)) hc ((up2_ne _ _ (by omega)).trans hq) hD ?_
  show ZE (d + 1) M_Ref_go (gw G (up2 A o 9 (z : Int))) 24 [(2, o), (0, c)] [(0, (D : Int)), (2, o)] _
  refine ZE.aload_n d_Ref_go_24 rfl ?_
  refine ZE.getE (v := (z : Int)) d_Ref_go_25 f_Ref_119 (tg := 0) rfl hK.1 (up2_at _ _ _ _) ?_
  refine ZE.aload_n d_Ref_go_28 rfl ?_
  refine ZE.getE (v := (z : Int)) d_Ref_go_29 f_Ref_119 (tg := 0) rfl hK.1 (up2_at _ _ _ _) ?_
  refine ZE.imul d_Ref_go_32 ?_
  refine ZE.isub d_Ref_go_33 ?_
  rw [show ((D : Int) - ((z : Int) * (z : Int)) : Int) = (u : Int) from eu]
  refine ZE.aload_n d_Ref_go_34 rfl ?_
  refine ZE.getE (v := (dd : Int)) d_Ref_go_35 f_Ref_122 (tg := 0) rfl hK.1 ((up2_ne _ _ (by omega)).trans hdd) ?_
  refine ZE.idivP d_Ref_go_38 (by omega) ?_
  rw [show ((u : Int) / (dd : Int) : Int) = ((u / dd : Nat) : Int) from (Int.natCast_ediv _ _).symm]
  refine ZE.put d_Ref_go_39 f_Ref_122 (tg := 0) rfl trivial (Or.inl ⟨_, _, _, rfl, rfl, rfl⟩) hK.1 ?_
  show ZE (d + 1) M_Ref_go (gw G (up2 (up2 A o 9 (z : Int)) o 10 ((u / dd : Nat) : Int))) 42 [(2, o), (0, c)] [] _
  refine ZE.aload_n d_Ref_go_42 rfl ?_
  refine ZE.aload_n d_Ref_go_43 rfl ?_
  refine ZE.getE (v := o + 4) d_Ref_go_44 f_Ref_19 (tg := 2) rfl hK.1 (RF.fld 10 (RF.fld 9 hF (by omega)) (by omega)).a4 ?_
  refine ZE.iload_n d_Ref_go_47 rfl ?_
  refine ZE.ialdE (v := (r : Int)) d_Ref_go_48 hK.k4 (by have hn0 := hK.n4; show 0 ≤ c ∧ c < gn G (o + 4); omega) (((up2_ne _ _ (by omega)).trans (up2_ne _ _ (by omega))).trans hr) ?_
  refine ZE.aload_n d_Ref_go_49 rfl ?_
  refine ZE.getE (v := (z : Int)) d_Ref_go_50 f_Ref_119 (tg := 0) rfl hK.1 ((up2_ne _ _ (by omega)).trans (up2_at _ _ _ _)) ?_
  refine ZE.iadd d_Ref_go_53 ?_
  rw [show ((r : Int) + (z : Int) : Int) = ((r + z : Nat) : Int) from (by omega)]
  refine ZE.aload_n d_Ref_go_54 rfl ?_
  refine ZE.getE (v := ((u / dd : Nat) : Int)) d_Ref_go_55 f_Ref_122 (tg := 0) rfl hK.1 (up2_at _ _ _ _) ?_
  refine ZE.idivP d_Ref_go_58 (by omega) ?_
  rw [show (((r + z : Nat) : Int) / ((u / dd : Nat) : Int) : Int) = (((r + z) / (u / dd) : Nat) : Int) from (Int.natCast_ediv _ _).symm]
  refine ZE.put d_Ref_go_59 f_Ref_125 (tg := 0) rfl trivial (Or.inl ⟨_, _, _, rfl, rfl, rfl⟩) hK.1 ?_
  show ZE (d + 1) M_Ref_go (gw G (up2 (up2 (up2 A o 9 (z : Int)) o 10 ((u / dd : Nat) : Int)) o 11 (((r + z) / (u / dd) : Nat) : Int))) 62 [(2, o), (0, c)] [] _
  refine ZE.vret d_Ref_go_62 rfl ?_
  exact k _ ⟨(up2_ne _ _ (by omega)).trans ((up2_ne _ _ (by omega)).trans (up2_at _ _ _ _)), (up2_ne _ _ (by omega)).trans (up2_at _ _ _ _), up2_at _ _ _ _⟩ (((goF.rf.up (by omega)).up (by omega)).up (by omega))
