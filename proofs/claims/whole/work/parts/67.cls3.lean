theorem inc_step {b : Nat} (hb : 2 ≤ b) (v w i : Nat) : (dg b v i + (v % b ^ i + w) / b ^ i) % b = dg b (v + w) i ∧ (dg b v i + (v % b ^ i + w) / b ^ i) / b = (v % b ^ (i + 1) + w) / b ^ (i + 1) := by
  have h0 : 0 < b ^ i := Nat.pow_pos (by omega)
  have h1 : v + w = v % b ^ i + w + b ^ i * (v / b ^ i) := by have := Nat.mod_add_div v (b ^ i); omega
  constructor
  · have h2 : (v + w) / b ^ i = (v % b ^ i + w) / b ^ i + v / b ^ i := by
      have e : (v % b ^ i + w + b ^ i * (v / b ^ i)) / b ^ i = (v % b ^ i + w) / b ^ i + v / b ^ i := Nat.add_mul_div_left _ _ h0
      rw [← h1] at e
      exact e
    unfold dg
    rw [h2, Nat.mod_add_mod, Nat.add_comm]
  · have h3 : v % b ^ (i + 1) + w = v % b ^ i + w + b ^ i * dg b v i := by rw [mod_step]; omega
    rw [h3, Nat.pow_succ, ← Nat.div_div_eq_div_mul, Nat.add_mul_div_left _ _ h0, Nat.add_comm]
theorem inc_pos {b v w i : Nat} (hb : 2 ≤ b) (h : 0 < (v % b ^ i + w) / b ^ i) : b ^ i ≤ v + w := by
  have h0 : 0 < b ^ i := Nat.pow_pos (by omega)
  have h1 : v % b ^ i ≤ v := Nat.mod_le _ _
  rcases Nat.lt_or_ge (v % b ^ i + w) (b ^ i) with q | q
  · rw [Nat.div_eq_of_lt q] at h; omega
  · omega
theorem inc_end {b v w i : Nat} (hb : 2 ≤ b) (h : (v % b ^ i + w) / b ^ i = 0) : (v + w) / b ^ i = v / b ^ i := by
  have h0 : 0 < b ^ i := Nat.pow_pos (by omega)
  have h1 : v + w = v % b ^ i + w + b ^ i * (v / b ^ i) := by have := Nat.mod_add_div v (b ^ i); omega
  have e : (v % b ^ i + w + b ^ i * (v / b ^ i)) / b ^ i = (v % b ^ i + w) / b ^ i + v / b ^ i := Nat.add_mul_div_left _ _ h0
  rw [← h1] at e
  omega
theorem dg_hi {b v w i k : Nat} (h : v / b ^ i = w / b ^ i) (hk : i ≤ k) : dg b v k = dg b w k := by
  have e : b ^ k = b ^ i * b ^ (k - i) := by rw [← Nat.pow_add]; congr 1; omega
  unfold dg
  rw [e, ← Nat.div_div_eq_div_mul, ← Nat.div_div_eq_div_mul, h]
theorem lt_hi {b v w i k : Nat} (hb : 2 ≤ b) (h : v / b ^ i = w / b ^ i) (hk : i ≤ k) (hw : w < b ^ k) : v < b ^ k := by
  have e : b ^ k = b ^ i * b ^ (k - i) := by rw [← Nat.pow_add]; congr 1; omega
  have h0 : 0 < b ^ i := Nat.pow_pos (by omega)
  rw [e] at hw ⊢
  have h2 : w / b ^ i < b ^ (k - i) := (Nat.div_lt_iff_lt_mul h0).mpr (by rw [Nat.mul_comm]; exact hw)
  rw [← h] at h2
  have h3 := (Nat.div_lt_iff_lt_mul h0).mp h2
  rw [Nat.mul_comm]; exact h3
theorem inc_0 {b : Nat} (v w : Nat) : (v % b ^ 0 + w) / b ^ 0 = w := by rw [Nat.pow_zero, Nat.mod_one, Nat.zero_add, Nat.div_one]
theorem inc_le {b v w i : Nat} (hb : 2 ≤ b) (hw : w < b) : (v % b ^ i + w) / b ^ i < b := by
  have h0 : 0 < b ^ i := Nat.pow_pos (by omega)
  have h1 : v % b ^ i < b ^ i := Nat.mod_lt _ h0
  rw [Nat.div_lt_iff_lt_mul h0]
  have h2 : 1 * b ^ i ≤ b ^ i * b ^ i := Nat.mul_le_mul_right _ h0
  rcases Nat.eq_zero_or_pos w with q | q
  · subst q; have := Nat.mul_le_mul_right (b ^ i) (show 1 ≤ b by omega); omega
  · have h3 : w * 1 ≤ w * b ^ i := Nat.mul_le_mul_left _ h0
    have h4 : (w + 1) * b ^ i ≤ b * b ^ i := Nat.mul_le_mul_right _ hw
    rw [Nat.succ_mul] at h4
    omega
set_option maxRecDepth 20000 in
set_option maxHeartbeats 4000000 in
theorem B_increase {d : Nat} {G : zG} {A : Int → Int → Int} {P : Option zV → zG → Prop}  {b : Int} {cap : Nat} (hB : bK G b cap) {v : Nat} (hv : bN A b v) {w0 : Nat} (hw : w0 < 1000000000) (h9 : nd 1000000000 v ≤ cap) (h92 : nd 1000000000 (v + w0) ≤ cap) (k : ∀ A2, bF A A2 b → bN A2 b (v + w0) → P none (gw G A2)) : ZE (d + 1) M_Big_increase (gw G A) 0 [(2, b), (0, (w0 : Int)), (9, 0), (9, 0), (9, 0)] [] P := by
  have hcp := hB.2.2.2.2.2
  refine ZE.iload_n d_Big_increase_0 rfl ?_
  refine ZE.istore_n (ls2 := [(2, b), (0, (w0 : Int)), (0, (w0 : Int)), (9, 0), (9, 0)]) d_Big_increase_1 (Nat.le_of_ble_eq_true rfl) rfl ?_
  refine ZE.iconst (n := 0) d_Big_increase_2 ?_
  refine ZE.istore_n (ls2 := [(2, b), (0, (w0 : Int)), (0, (w0 : Int)), (0, 0), (9, 0)]) d_Big_increase_3 (Nat.le_of_ble_eq_true rfl) rfl ?_
  have L4 : ∀ (t : Nat) (i : Nat) (A1 : Int → Int → Int) (c1 : Nat) (hi : i ≤ cap) (gF : bF A A1 b) (e0 : A1 b 0 = b + 1) (e1 : A1 b 1 = ((max (nd 1000000000 v) i : Nat) : Int)) (e2 : ∀ q : Nat, q < i → A1 (b + 1) q = (dg 1000000000 (v + w0) q : Int)) (e3 : ∀ q : Nat, i ≤ q → q < nd 1000000000 v → A1 (b + 1) q = (dg 1000000000 v q : Int)) (hiv : i = 0 ∨ 1000000000 ^ (i - 1) ≤ v + w0) (hc1 : c1 = (v % 1000000000 ^ i + w0) / 1000000000 ^ i) (hcl : c1 < 1000000000), cap - i < t → ZE (d + 1) M_Big_increase (gw G A1) 4 [(2, b), (0, (w0 : Int)), (0, (c1 : Int)), (0, (i : Int)), (9, 0)] [] P := by
    intro t
    induction t with
    | zero => intro i A1 c1 hi gF e0 e1 e2 e3 hiv hc1 hcl hm; exact absurd hm (Nat.not_lt_zero _)
    | succ t ih =>
      intro i A1 c1 hi gF e0 e1 e2 e3 hiv hc1 hcl hm
      have hdl := dB_lt v i
      refine ZE.iload_n d_Big_increase_4 rfl ?_
      refine ZE.aload_n d_Big_increase_5 rfl ?_
      refine ZE.getE (v := b + 1) d_Big_increase_6 f_Big_9 (tg := 2) rfl hB.1 e0 ?_
      refine ZE.alenE (v := (cap : Int)) d_Big_increase_9 (by have hk0 := hB.2.1; show 1 ≤ gk G (b + 1) ∧ gk G (b + 1) ≤ 6; omega) hB.2.2.1 ?_
      refine ZE.icmp_ge (tgt := 63) d_Big_increase_10 rfl (by unfold zR; omega) (by unfold zR; omega) (fun c10 => ?_) (fun c10 => ?_)
      · have hge : i = 0 ∨ 1000000000 ^ (i - 1) ≤ v + w0 := hiv
        have hdv : ∀ q : Nat, q < max (nd 1000000000 v) i → A1 (b + 1) q = (dg 1000000000 (v + w0) q : Int) := by
          intro q hq
          rcases Nat.lt_or_ge q i with q1 | q1
          · exact e2 q q1
          · rw [e3 q q1 (by omega), show dg 1000000000 v q = dg 1000000000 (v + w0) q from absurd hq (by omega)]
        have hnv : nd 1000000000 (v + w0) = max (nd 1000000000 v) i := by
          refine nd_eq (by omega) (Nat.lt_of_lt_of_le ((nd_lt (by omega) _ _).mpr h92) (Nat.pow_le_pow_right (by omega) (by omega))) ?_
          rcases Nat.lt_or_ge (nd 1000000000 v) i with q | q
          · right; rw [show max (nd 1000000000 v) i = i by omega]; exact hge.resolve_left (by omega)
          · rcases Nat.eq_zero_or_pos (nd 1000000000 v) with q1 | q1
            · left; omega
            · right
              have h3 := nd_ge (b := 1000000000) (by omega) (show nd 1000000000 v - 1 < nd 1000000000 v by omega)
              rw [show max (nd 1000000000 v) i = nd 1000000000 v by omega]; omega
        refine ZE.vret d_Big_increase_63 rfl ?_
        exact k A1 gF ⟨e0, by rw [hnv]; exact e1, fun q hq => hdv q (by omega)⟩
      · refine ZE.iload_n d_Big_increase_13 rfl ?_
        refine ZE.if_le (tgt := 63) d_Big_increase_14 rfl (by unfold zR; omega) (fun c14 => ?_) (fun c14 => ?_)
        · have hiz := inc_end (b := 1000000000) (v := v) (w := w0) (i := i) (by omega) (by rw [← hc1]; omega)
          have hge : i = 0 ∨ 1000000000 ^ (i - 1) ≤ v + w0 := hiv
          have hdv : ∀ q : Nat, q < max (nd 1000000000 v) i → A1 (b + 1) q = (dg 1000000000 (v + w0) q : Int) := by
            intro q hq
            rcases Nat.lt_or_ge q i with q1 | q1
            · exact e2 q q1
            · rw [e3 q q1 (by omega), dg_hi hiz q1]
          have hnv : nd 1000000000 (v + w0) = max (nd 1000000000 v) i := by
            refine nd_eq (by omega) (lt_hi (by omega) hiz (by omega) (Nat.lt_of_lt_of_le (nd_self (by omega) v) (Nat.pow_le_pow_right (by omega) (by omega)))) ?_
            rcases Nat.lt_or_ge (nd 1000000000 v) i with q | q
            · right; rw [show max (nd 1000000000 v) i = i by omega]; exact hge.resolve_left (by omega)
            · rcases Nat.eq_zero_or_pos (nd 1000000000 v) with q1 | q1
              · left; omega
              · right
                have h3 := nd_ge (b := 1000000000) (by omega) (show nd 1000000000 v - 1 < nd 1000000000 v by omega)
                rw [show max (nd 1000000000 v) i = nd 1000000000 v by omega]; omega
          refine ZE.vret d_Big_increase_63 rfl ?_
          exact k A1 gF ⟨e0, by rw [hnv]; exact e1, fun q hq => hdv q (by omega)⟩
        · obtain ⟨T, hT⟩ : ∃ T : Nat, T = dg 1000000000 v i + c1 := ⟨_, rfl⟩
          obtain ⟨s1, s2⟩ := inc_step (b := 1000000000) (by omega) v w0 i
          rw [← hc1, ← hT] at s1 s2
          have hps := inc_pos (b := 1000000000) (v := v) (w := w0) (i := i) (by omega) (by rw [← hc1]; omega)
          refine ZE.aload_n d_Big_increase_17 rfl ?_
          refine ZE.iload_n d_Big_increase_18 rfl ?_
          refine ZE.cV [(0, (i : Int))] [] [(2, b), (0, (i : Int))] d_Big_increase_19 l_Big_25 rfl rfl rfl rfl rfl rfl hB.1 ?_
          refine B_limbR (s := max (nd 1000000000 v) i) (i := i) (z := dg 1000000000 v i) hB e0 e1 (by omega) (by omega) (fun q => e3 i (by omega) (by omega)) (fun q => dg_big (by omega) (by omega)) ?_
          show ZE (d + 1) M_Big_increase (gw G A1) 22 [(2, b), (0, (w0 : Int)), (0, (c1 : Int)), (0, (i : Int)), (9, 0)] [(0, (dg 1000000000 v i : Int))] _
          refine ZE.iload_n d_Big_increase_22 rfl ?_
          refine ZE.iadd d_Big_increase_23 ?_
          rw [show ((dg 1000000000 v i : Int) + (c1 : Int) : Int) = (T : Int) from (by omega)]
          refine ZE.istore (ls2 := [(2, b), (0, (w0 : Int)), (0, (c1 : Int)), (0, (i : Int)), (0, (T : Int))]) d_Big_increase_24 (Nat.le_of_ble_eq_true rfl) rfl ?_
          refine ZE.aload_n d_Big_increase_26 rfl ?_
          refine ZE.getE (v := b + 1) d_Big_increase_27 f_Big_9 (tg := 2) rfl hB.1 e0 ?_
          refine ZE.iload_n d_Big_increase_30 rfl ?_
          refine ZE.iload d_Big_increase_31 rfl ?_
          refine ZE.ldc (v := 1000000000) d_Big_increase_33 k_Big_43 ?_
          refine ZE.iremP d_Big_increase_35 (by omega) ?_
          rw [show ((T : Int) % 1000000000 : Int) = ((T % 1000000000 : Nat) : Int) from (by omega)]
          refine ZE.iast d_Big_increase_36 hB.2.1 (by have hn0 := hB.2.2.1; show 0 ≤ (i : Int) ∧ (i : Int) < gn G (b + 1); omega) ?_
          show ZE (d + 1) M_Big_increase (gw G (up2 A1 (b + 1) (i : Int) ((T % 1000000000 : Nat) : Int))) 37 [(2, b), (0, (w0 : Int)), (0, (c1 : Int)), (0, (i : Int)), (0, (T : Int))] [] _
          refine ZE.iload d_Big_increase_37 rfl ?_
          refine ZE.ldc (v := 1000000000) d_Big_increase_39 k_Big_43 ?_
          refine ZE.idivP d_Big_increase_41 (by omega) ?_
          rw [show ((T : Int) / 1000000000 : Int) = ((T / 1000000000 : Nat) : Int) from (by omega)]
          refine ZE.istore_n (ls2 := [(2, b), (0, (w0 : Int)), (0, ((T / 1000000000 : Nat) : Int)), (0, (i : Int)), (0, (T : Int))]) d_Big_increase_42 (Nat.le_of_ble_eq_true rfl) rfl ?_
          refine ZE.aload_n d_Big_increase_43 rfl ?_
          refine ZE.aload_n d_Big_increase_44 rfl ?_
          refine ZE.getE (v := ((max (nd 1000000000 v) i : Nat) : Int)) d_Big_increase_45 f_Big_15 (tg := 0) rfl hB.1 ((up2_ne _ _ (by omega)).trans e1) ?_
          refine ZE.iload_n d_Big_increase_48 rfl ?_
          refine ZE.iconst (n := 1) d_Big_increase_49 ?_
          refine ZE.iadd d_Big_increase_50 ?_
          refine ZE.cS [(0, ((max (nd 1000000000 v) i : Nat) : Int)), (0, (i : Int) + 1)] [(2, b)] [(0, ((max (nd 1000000000 v) i : Nat) : Int)), (0, (i : Int) + 1)] d_Big_increase_51 l_Big_31 rfl rfl rfl rfl rfl rfl ?_
          refine j_max (by unfold zR; omega) (by unfold zR; omega) ?_
          show ZE (d + 1) M_Big_increase (gw G (up2 A1 (b + 1) (i : Int) ((T % 1000000000 : Nat) : Int))) 54 [(2, b), (0, (w0 : Int)), (0, ((T / 1000000000 : Nat) : Int)), (0, (i : Int)), (0, (T : Int))] [(0, if (i : Int) + 1 ≤ ((max (nd 1000000000 v) i : Nat) : Int) then ((max (nd 1000000000 v) i : Nat) : Int) else (i : Int) + 1), (2, b)] _
          rw [show (if (i : Int) + 1 ≤ ((max (nd 1000000000 v) i : Nat) : Int) then ((max (nd 1000000000 v) i : Nat) : Int) else (i : Int) + 1) = ((max (nd 1000000000 v) (i + 1) : Nat) : Int) by split <;> omega]
          refine ZE.put d_Big_increase_54 f_Big_15 (tg := 0) rfl trivial (Or.inl ⟨_, _, _, rfl, rfl, rfl⟩) hB.1 ?_
          show ZE (d + 1) M_Big_increase (gw G (up2 (up2 A1 (b + 1) (i : Int) ((T % 1000000000 : Nat) : Int)) b 1 ((max (nd 1000000000 v) (i + 1) : Nat) : Int))) 57 [(2, b), (0, (w0 : Int)), (0, ((T / 1000000000 : Nat) : Int)), (0, (i : Int)), (0, (T : Int))] [] _
          refine ZE.iinc (ls2 := [(2, b), (0, (w0 : Int)), (0, ((T / 1000000000 : Nat) : Int)), (0, (i : Int) + 1), (0, (T : Int))]) d_Big_increase_57 rfl rfl ?_
          refine ZE.goto (tgt := 4) d_Big_increase_60 rfl ?_
          refine ZE.mask [true, true, true, true, false] ?_
          show ZE (d + 1) M_Big_increase (gw G (up2 (up2 A1 (b + 1) (i : Int) ((T % 1000000000 : Nat) : Int)) b 1 ((max (nd 1000000000 v) (i + 1) : Nat) : Int))) 4 [(2, b), (0, (w0 : Int)), (0, ((T / 1000000000 : Nat) : Int)), (0, (i : Int) + 1), (9, 0)] [] _
          rw [show (i : Int) + 1 = ((i + 1 : Nat) : Int) by omega]
          refine ih (i + 1) _ _ (by omega) ((gF.tr bF.row).tr bF.fld) ((up2_ne _ _ (by omega)).trans ((up2_ne _ _ (by omega)).trans e0)) ((up2_at _ _ _ _).trans (by omega)) ?_ ?_ (Or.inr (by rw [Nat.add_sub_cancel]; exact hps)) s2 (by rw [s2]; exact inc_le (by omega) hw) (by omega)
          · intro q hq; rw [up2_ne _ _ (by omega)]
            by_cases e : q = i
            · subst e; rw [up2_at]; exact congrArg Nat.cast s1
            · rw [up2_ne _ _ (by omega)]; exact e2 q (by omega)
          · intro q hq1 hq2; rw [up2_ne _ _ (by omega), up2_ne _ _ (by omega)]; exact e3 q (by omega) hq2
  exact L4 _ 0 A w0 (by omega) bF.rf hv.1 (by rw [hv.2.1]; omega) (fun q h => absurd h (Nat.not_lt_zero _)) (fun q _ h => hv.2.2 q h) (Or.inl rfl) (inc_0 _ _).symm hw (Nat.lt_succ_self _)
set_option maxRecDepth 20000 in
set_option maxHeartbeats 4000000 in
theorem B_plus {d : Nat} {G : zG} {A : Int → Int → Int} {P : Option zV → zG → Prop}  {b : Int} {cap : Nat} (hB : bK G b cap) {v : Nat} (hv : bN A b v) {c : Int} {cap2 : Nat} (hC : bK G c cap2) {u : Nat} (hu : bN A c u) (h9 : nd 1000000000 v ≤ cap) (h9u : nd 1000000000 u ≤ cap) (h9c : nd 1000000000 u ≤ cap2) (h92 : nd 1000000000 (v + u) ≤ cap) (hne : c ≠ b ∧ c ≠ b + 1 ∧ c + 1 ≠ b) (k : ∀ A2, bF A A2 b → bN A2 b (v + u) → P none (gw G A2)) : ZE (d + 1) M_Big_plus (gw G A) 0 [(2, b), (2, c), (9, 0), (9, 0), (9, 0)] [] P := by
  have hcp := hB.2.2.2.2.2
  refine ZE.iconst (n := 0) d_Big_plus_0 ?_
  refine ZE.istore_n (ls2 := [(2, b), (2, c), (0, 0), (9, 0), (9, 0)]) d_Big_plus_1 (Nat.le_of_ble_eq_true rfl) rfl ?_
  refine ZE.iconst (n := 0) d_Big_plus_2 ?_
  refine ZE.istore_n (ls2 := [(2, b), (2, c), (0, 0), (0, 0), (9, 0)]) d_Big_plus_3 (Nat.le_of_ble_eq_true rfl) rfl ?_
  have L4 : ∀ (t : Nat) (i : Nat) (A1 : Int → Int → Int) (hi : i ≤ cap) (gF : bF A A1 b) (e0 : A1 b 0 = b + 1) (e1 : A1 b 1 = ((max (nd 1000000000 v) i : Nat) : Int)) (e2 : ∀ q : Nat, q < i → A1 (b + 1) q = (dg 1000000000 (v * 1 + u) q : Int)) (e3 : ∀ q : Nat, i ≤ q → q < nd 1000000000 v → A1 (b + 1) q = (dg 1000000000 v q : Int)) (hiv : i ≤ max (nd 1000000000 v) (nd 1000000000 u) ∨ 1000000000 ^ (i - 1) ≤ v * 1 + u), cap - i < t → ZE (d + 1) M_Big_plus (gw G A1) 4 [(2, b), (2, c), (0, (cry 1000000000 v u 1 i : Int)), (0, (i : Int)), (9, 0)] [] P := by
    intro t
    induction t with
    | zero => intro i A1 hi gF e0 e1 e2 e3 hiv hm; exact absurd hm (Nat.not_lt_zero _)
    | succ t ih =>
      intro i A1 hi gF e0 e1 e2 e3 hiv hm
      have hcl := cry_le (b := 1000000000) (by omega) v u 1 i
      have hdl := dB_lt v i
      have hdu := dB_lt u i
      have huA : bN A1 c u := hu.fr gF (by omega)
      refine ZE.iload_n d_Big_plus_4 rfl ?_
      refine ZE.aload_n d_Big_plus_5 rfl ?_
      refine ZE.getE (v := b + 1) d_Big_plus_6 f_Big_9 (tg := 2) rfl hB.1 e0 ?_
      refine ZE.alenE (v := (cap : Int)) d_Big_plus_9 (by have hk0 := hB.2.1; show 1 ≤ gk G (b + 1) ∧ gk G (b + 1) ≤ 6; omega) hB.2.2.1 ?_
      refine ZE.icmp_ge (tgt := 85) d_Big_plus_10 rfl (by unfold zR; omega) (by unfold zR; omega) (fun c10 => ?_) (fun c10 => ?_)
      · have hlt : v * 1 + u < 1000000000 ^ i := (nd_lt (by omega) _ _).mpr (by rw [Nat.mul_one]; omega)
        have hnv : nd 1000000000 (v * 1 + u) = max (nd 1000000000 v) i := by
          refine nd_eq (by omega) (Nat.lt_of_lt_of_le hlt (Nat.pow_le_pow_right (by omega) (by omega))) ?_
          rcases Nat.eq_zero_or_pos i with q | q
          · left; omega
          · right
            rw [show max (nd 1000000000 v) i = i by omega]
            rcases hiv with q1 | q1
            · rcases Nat.lt_or_ge (i - 1) (nd 1000000000 v) with q2 | q2
              · have h3 := nd_ge (b := 1000000000) (by omega) q2; omega
              · have h3 := nd_ge (b := 1000000000) (by omega) (show i - 1 < nd 1000000000 u by omega); omega
            · exact q1
        rw [Nat.mul_one] at hnv e2
        refine ZE.vret d_Big_plus_85 rfl ?_
        exact k A1 gF ⟨e0, by rw [hnv]; exact e1, fun q hq => e2 q (by omega)⟩
      · refine ZE.iload_n d_Big_plus_13 rfl ?_
        refine ZE.aload_n d_Big_plus_14 rfl ?_
        refine ZE.getE (v := ((max (nd 1000000000 v) i : Nat) : Int)) d_Big_plus_15 f_Big_15 (tg := 0) rfl hB.1 e1 ?_
        refine ZE.icmp_lt (tgt := 33) d_Big_plus_18 rfl (by unfold zR; omega) (by unfold zR; omega) (fun c18 => ?_) (fun c18 => ?_)
        · have hiv2 : i + 1 ≤ max (nd 1000000000 v) (nd 1000000000 u) ∨ 1000000000 ^ (i + 1 - 1) ≤ v * 1 + u := Or.inl (by omega)
          obtain ⟨T, hT⟩ : ∃ T : Nat, T = dg 1000000000 v i * 1 + dg 1000000000 u i + cry 1000000000 v u 1 i := ⟨_, rfl⟩
          obtain ⟨s1, s2⟩ := mul_step (b := 1000000000) (by omega) v u 1 i
          rw [← hT] at s1 s2
          refine ZE.iload_n d_Big_plus_33 rfl ?_
          refine ZE.aload_n d_Big_plus_34 rfl ?_
          refine ZE.iload_n d_Big_plus_35 rfl ?_
          refine ZE.cV [(0, (i : Int))] [(0, (cry 1000000000 v u 1 i : Int))] [(2, b), (0, (i : Int))] d_Big_plus_36 l_Big_25 rfl rfl rfl rfl rfl rfl hB.1 ?_
          refine B_limbR (s := max (nd 1000000000 v) i) (i := i) (z := dg 1000000000 v i) hB e0 e1 (by omega) (by omega) (fun q => e3 i (by omega) (by omega)) (fun q => dg_big (by omega) (by omega)) ?_
          show ZE (d + 1) M_Big_plus (gw G A1) 39 [(2, b), (2, c), (0, (cry 1000000000 v u 1 i : Int)), (0, (i : Int)), (9, 0)] [(0, (dg 1000000000 v i : Int)), (0, (cry 1000000000 v u 1 i : Int))] _
          refine ZE.iadd d_Big_plus_39 ?_
          refine ZE.aload_n d_Big_plus_40 rfl ?_
          refine ZE.iload_n d_Big_plus_41 rfl ?_
          refine ZE.cV [(0, (i : Int))] [(0, (cry 1000000000 v u 1 i : Int) + (dg 1000000000 v i : Int))] [(2, c), (0, (i : Int))] d_Big_plus_42 l_Big_25 rfl rfl rfl rfl rfl rfl hC.1 ?_
          refine B_limbAt (v := u) (i := i) hC huA h9c (by omega) ?_
          show ZE (d + 1) M_Big_plus (gw G A1) 45 [(2, b), (2, c), (0, (cry 1000000000 v u 1 i : Int)), (0, (i : Int)), (9, 0)] [(0, (dg 1000000000 u i : Int)), (0, (cry 1000000000 v u 1 i : Int) + (dg 1000000000 v i : Int))] _
          refine ZE.iadd d_Big_plus_45 ?_
          rw [show (((cry 1000000000 v u 1 i : Int) + (dg 1000000000 v i : Int)) + (dg 1000000000 u i : Int) : Int) = (T : Int) from (by omega)]
          refine ZE.istore (ls2 := [(2, b), (2, c), (0, (cry 1000000000 v u 1 i : Int)), (0, (i : Int)), (0, (T : Int))]) d_Big_plus_46 (Nat.le_of_ble_eq_true rfl) rfl ?_
          refine ZE.aload_n d_Big_plus_48 rfl ?_
          refine ZE.getE (v := b + 1) d_Big_plus_49 f_Big_9 (tg := 2) rfl hB.1 e0 ?_
          refine ZE.iload_n d_Big_plus_52 rfl ?_
          refine ZE.iload d_Big_plus_53 rfl ?_
          refine ZE.ldc (v := 1000000000) d_Big_plus_55 k_Big_43 ?_
          refine ZE.iremP d_Big_plus_57 (by omega) ?_
          rw [show ((T : Int) % 1000000000 : Int) = ((T % 1000000000 : Nat) : Int) from (by omega)]
          refine ZE.iast d_Big_plus_58 hB.2.1 (by have hn0 := hB.2.2.1; show 0 ≤ (i : Int) ∧ (i : Int) < gn G (b + 1); omega) ?_
          show ZE (d + 1) M_Big_plus (gw G (up2 A1 (b + 1) (i : Int) ((T % 1000000000 : Nat) : Int))) 59 [(2, b), (2, c), (0, (cry 1000000000 v u 1 i : Int)), (0, (i : Int)), (0, (T : Int))] [] _
          refine ZE.iload d_Big_plus_59 rfl ?_
          refine ZE.ldc (v := 1000000000) d_Big_plus_61 k_Big_43 ?_
          refine ZE.idivP d_Big_plus_63 (by omega) ?_
          rw [show ((T : Int) / 1000000000 : Int) = ((T / 1000000000 : Nat) : Int) from (by omega)]
          refine ZE.istore_n (ls2 := [(2, b), (2, c), (0, ((T / 1000000000 : Nat) : Int)), (0, (i : Int)), (0, (T : Int))]) d_Big_plus_64 (Nat.le_of_ble_eq_true rfl) rfl ?_
          refine ZE.aload_n d_Big_plus_65 rfl ?_
          refine ZE.aload_n d_Big_plus_66 rfl ?_
          refine ZE.getE (v := ((max (nd 1000000000 v) i : Nat) : Int)) d_Big_plus_67 f_Big_15 (tg := 0) rfl hB.1 ((up2_ne _ _ (by omega)).trans e1) ?_
          refine ZE.iload_n d_Big_plus_70 rfl ?_
          refine ZE.iconst (n := 1) d_Big_plus_71 ?_
          refine ZE.iadd d_Big_plus_72 ?_
          refine ZE.cS [(0, ((max (nd 1000000000 v) i : Nat) : Int)), (0, (i : Int) + 1)] [(2, b)] [(0, ((max (nd 1000000000 v) i : Nat) : Int)), (0, (i : Int) + 1)] d_Big_plus_73 l_Big_31 rfl rfl rfl rfl rfl rfl ?_
          refine j_max (by unfold zR; omega) (by unfold zR; omega) ?_
          show ZE (d + 1) M_Big_plus (gw G (up2 A1 (b + 1) (i : Int) ((T % 1000000000 : Nat) : Int))) 76 [(2, b), (2, c), (0, ((T / 1000000000 : Nat) : Int)), (0, (i : Int)), (0, (T : Int))] [(0, if (i : Int) + 1 ≤ ((max (nd 1000000000 v) i : Nat) : Int) then ((max (nd 1000000000 v) i : Nat) : Int) else (i : Int) + 1), (2, b)] _
          rw [show (if (i : Int) + 1 ≤ ((max (nd 1000000000 v) i : Nat) : Int) then ((max (nd 1000000000 v) i : Nat) : Int) else (i : Int) + 1) = ((max (nd 1000000000 v) (i + 1) : Nat) : Int) by split <;> omega]
          refine ZE.put d_Big_plus_76 f_Big_15 (tg := 0) rfl trivial (Or.inl ⟨_, _, _, rfl, rfl, rfl⟩) hB.1 ?_
          show ZE (d + 1) M_Big_plus (gw G (up2 (up2 A1 (b + 1) (i : Int) ((T % 1000000000 : Nat) : Int)) b 1 ((max (nd 1000000000 v) (i + 1) : Nat) : Int))) 79 [(2, b), (2, c), (0, ((T / 1000000000 : Nat) : Int)), (0, (i : Int)), (0, (T : Int))] [] _
          refine ZE.iinc (ls2 := [(2, b), (2, c), (0, ((T / 1000000000 : Nat) : Int)), (0, (i : Int) + 1), (0, (T : Int))]) d_Big_plus_79 rfl rfl ?_
          refine ZE.goto (tgt := 4) d_Big_plus_82 rfl ?_
          refine ZE.mask [true, true, true, true, false] ?_
          show ZE (d + 1) M_Big_plus (gw G (up2 (up2 A1 (b + 1) (i : Int) ((T % 1000000000 : Nat) : Int)) b 1 ((max (nd 1000000000 v) (i + 1) : Nat) : Int))) 4 [(2, b), (2, c), (0, ((T / 1000000000 : Nat) : Int)), (0, (i : Int) + 1), (9, 0)] [] _
          rw [show (i : Int) + 1 = ((i + 1 : Nat) : Int) by omega, s2]
          refine ih (i + 1) _ (by omega) ((gF.tr bF.row).tr bF.fld) ((up2_ne _ _ (by omega)).trans ((up2_ne _ _ (by omega)).trans e0)) ((up2_at _ _ _ _).trans (by omega)) ?_ ?_ hiv2 (by omega)
          · intro q hq; rw [up2_ne _ _ (by omega)]
            by_cases e : q = i
            · subst e; rw [up2_at]; exact congrArg Nat.cast s1
            · rw [up2_ne _ _ (by omega)]; exact e2 q (by omega)
          · intro q hq1 hq2; rw [up2_ne _ _ (by omega), up2_ne _ _ (by omega)]; exact e3 q (by omega) hq2
        · refine ZE.iload_n d_Big_plus_21 rfl ?_
          refine ZE.aload_n d_Big_plus_22 rfl ?_
          refine ZE.getE (v := (nd 1000000000 u : Int)) d_Big_plus_23 f_Big_15 (tg := 0) rfl hC.1 huA.2.1 ?_
          refine ZE.icmp_lt (tgt := 33) d_Big_plus_26 rfl (by unfold zR; omega) (by unfold zR; omega) (fun c26 => ?_) (fun c26 => ?_)
          · have hiv2 : i + 1 ≤ max (nd 1000000000 v) (nd 1000000000 u) ∨ 1000000000 ^ (i + 1 - 1) ≤ v * 1 + u := Or.inl (by omega)
            obtain ⟨T, hT⟩ : ∃ T : Nat, T = dg 1000000000 v i * 1 + dg 1000000000 u i + cry 1000000000 v u 1 i := ⟨_, rfl⟩
            obtain ⟨s1, s2⟩ := mul_step (b := 1000000000) (by omega) v u 1 i
            rw [← hT] at s1 s2
            refine ZE.iload_n d_Big_plus_33 rfl ?_
            refine ZE.aload_n d_Big_plus_34 rfl ?_
            refine ZE.iload_n d_Big_plus_35 rfl ?_
            refine ZE.cV [(0, (i : Int))] [(0, (cry 1000000000 v u 1 i : Int))] [(2, b), (0, (i : Int))] d_Big_plus_36 l_Big_25 rfl rfl rfl rfl rfl rfl hB.1 ?_
            refine B_limbR (s := max (nd 1000000000 v) i) (i := i) (z := dg 1000000000 v i) hB e0 e1 (by omega) (by omega) (fun q => e3 i (by omega) (by omega)) (fun q => dg_big (by omega) (by omega)) ?_
            show ZE (d + 1) M_Big_plus (gw G A1) 39 [(2, b), (2, c), (0, (cry 1000000000 v u 1 i : Int)), (0, (i : Int)), (9, 0)] [(0, (dg 1000000000 v i : Int)), (0, (cry 1000000000 v u 1 i : Int))] _
            refine ZE.iadd d_Big_plus_39 ?_
            refine ZE.aload_n d_Big_plus_40 rfl ?_
            refine ZE.iload_n d_Big_plus_41 rfl ?_
            refine ZE.cV [(0, (i : Int))] [(0, (cry 1000000000 v u 1 i : Int) + (dg 1000000000 v i : Int))] [(2, c), (0, (i : Int))] d_Big_plus_42 l_Big_25 rfl rfl rfl rfl rfl rfl hC.1 ?_
            refine B_limbAt (v := u) (i := i) hC huA h9c (by omega) ?_
            show ZE (d + 1) M_Big_plus (gw G A1) 45 [(2, b), (2, c), (0, (cry 1000000000 v u 1 i : Int)), (0, (i : Int)), (9, 0)] [(0, (dg 1000000000 u i : Int)), (0, (cry 1000000000 v u 1 i : Int) + (dg 1000000000 v i : Int))] _
            refine ZE.iadd d_Big_plus_45 ?_
            rw [show (((cry 1000000000 v u 1 i : Int) + (dg 1000000000 v i : Int)) + (dg 1000000000 u i : Int) : Int) = (T : Int) from (by omega)]
            refine ZE.istore (ls2 := [(2, b), (2, c), (0, (cry 1000000000 v u 1 i : Int)), (0, (i : Int)), (0, (T : Int))]) d_Big_plus_46 (Nat.le_of_ble_eq_true rfl) rfl ?_
            refine ZE.aload_n d_Big_plus_48 rfl ?_
            refine ZE.getE (v := b + 1) d_Big_plus_49 f_Big_9 (tg := 2) rfl hB.1 e0 ?_
            refine ZE.iload_n d_Big_plus_52 rfl ?_
            refine ZE.iload d_Big_plus_53 rfl ?_
            refine ZE.ldc (v := 1000000000) d_Big_plus_55 k_Big_43 ?_
            refine ZE.iremP d_Big_plus_57 (by omega) ?_
            rw [show ((T : Int) % 1000000000 : Int) = ((T % 1000000000 : Nat) : Int) from (by omega)]
            refine ZE.iast d_Big_plus_58 hB.2.1 (by have hn0 := hB.2.2.1; show 0 ≤ (i : Int) ∧ (i : Int) < gn G (b + 1); omega) ?_
            show ZE (d + 1) M_Big_plus (gw G (up2 A1 (b + 1) (i : Int) ((T % 1000000000 : Nat) : Int))) 59 [(2, b), (2, c), (0, (cry 1000000000 v u 1 i : Int)), (0, (i : Int)), (0, (T : Int))] [] _
            refine ZE.iload d_Big_plus_59 rfl ?_
            refine ZE.ldc (v := 1000000000) d_Big_plus_61 k_Big_43 ?_
            refine ZE.idivP d_Big_plus_63 (by omega) ?_
            rw [show ((T : Int) / 1000000000 : Int) = ((T / 1000000000 : Nat) : Int) from (by omega)]
            refine ZE.istore_n (ls2 := [(2, b), (2, c), (0, ((T / 1000000000 : Nat) : Int)), (0, (i : Int)), (0, (T : Int))]) d_Big_plus_64 (Nat.le_of_ble_eq_true rfl) rfl ?_
            refine ZE.aload_n d_Big_plus_65 rfl ?_
            refine ZE.aload_n d_Big_plus_66 rfl ?_
            refine ZE.getE (v := ((max (nd 1000000000 v) i : Nat) : Int)) d_Big_plus_67 f_Big_15 (tg := 0) rfl hB.1 ((up2_ne _ _ (by omega)).trans e1) ?_
            refine ZE.iload_n d_Big_plus_70 rfl ?_
            refine ZE.iconst (n := 1) d_Big_plus_71 ?_
            refine ZE.iadd d_Big_plus_72 ?_
            refine ZE.cS [(0, ((max (nd 1000000000 v) i : Nat) : Int)), (0, (i : Int) + 1)] [(2, b)] [(0, ((max (nd 1000000000 v) i : Nat) : Int)), (0, (i : Int) + 1)] d_Big_plus_73 l_Big_31 rfl rfl rfl rfl rfl rfl ?_
            refine j_max (by unfold zR; omega) (by unfold zR; omega) ?_
            show ZE (d + 1) M_Big_plus (gw G (up2 A1 (b + 1) (i : Int) ((T % 1000000000 : Nat) : Int))) 76 [(2, b), (2, c), (0, ((T / 1000000000 : Nat) : Int)), (0, (i : Int)), (0, (T : Int))] [(0, if (i : Int) + 1 ≤ ((max (nd 1000000000 v) i : Nat) : Int) then ((max (nd 1000000000 v) i : Nat) : Int) else (i : Int) + 1), (2, b)] _
            rw [show (if (i : Int) + 1 ≤ ((max (nd 1000000000 v) i : Nat) : Int) then ((max (nd 1000000000 v) i : Nat) : Int) else (i : Int) + 1) = ((max (nd 1000000000 v) (i + 1) : Nat) : Int) by split <;> omega]
            refine ZE.put d_Big_plus_76 f_Big_15 (tg := 0) rfl trivial (Or.inl ⟨_, _, _, rfl, rfl, rfl⟩) hB.1 ?_
            show ZE (d + 1) M_Big_plus (gw G (up2 (up2 A1 (b + 1) (i : Int) ((T % 1000000000 : Nat) : Int)) b 1 ((max (nd 1000000000 v) (i + 1) : Nat) : Int))) 79 [(2, b), (2, c), (0, ((T / 1000000000 : Nat) : Int)), (0, (i : Int)), (0, (T : Int))] [] _
            refine ZE.iinc (ls2 := [(2, b), (2, c), (0, ((T / 1000000000 : Nat) : Int)), (0, (i : Int) + 1), (0, (T : Int))]) d_Big_plus_79 rfl rfl ?_
            refine ZE.goto (tgt := 4) d_Big_plus_82 rfl ?_
            refine ZE.mask [true, true, true, true, false] ?_
            show ZE (d + 1) M_Big_plus (gw G (up2 (up2 A1 (b + 1) (i : Int) ((T % 1000000000 : Nat) : Int)) b 1 ((max (nd 1000000000 v) (i + 1) : Nat) : Int))) 4 [(2, b), (2, c), (0, ((T / 1000000000 : Nat) : Int)), (0, (i : Int) + 1), (9, 0)] [] _
            rw [show (i : Int) + 1 = ((i + 1 : Nat) : Int) by omega, s2]
            refine ih (i + 1) _ (by omega) ((gF.tr bF.row).tr bF.fld) ((up2_ne _ _ (by omega)).trans ((up2_ne _ _ (by omega)).trans e0)) ((up2_at _ _ _ _).trans (by omega)) ?_ ?_ hiv2 (by omega)
            · intro q hq; rw [up2_ne _ _ (by omega)]
              by_cases e : q = i
              · subst e; rw [up2_at]; exact congrArg Nat.cast s1
              · rw [up2_ne _ _ (by omega)]; exact e2 q (by omega)
            · intro q hq1 hq2; rw [up2_ne _ _ (by omega), up2_ne _ _ (by omega)]; exact e3 q (by omega) hq2
          · refine ZE.iload_n d_Big_plus_29 rfl ?_
            refine ZE.if_le (tgt := 85) d_Big_plus_30 rfl (by unfold zR; omega) (fun c30 => ?_) (fun c30 => ?_)
            · have hlt : v * 1 + u < 1000000000 ^ i := cry_end (by omega) (by omega) (by omega) (by omega)
              have hnv : nd 1000000000 (v * 1 + u) = max (nd 1000000000 v) i := by
                refine nd_eq (by omega) (Nat.lt_of_lt_of_le hlt (Nat.pow_le_pow_right (by omega) (by omega))) ?_
                rcases Nat.eq_zero_or_pos i with q | q
                · left; omega
                · right
                  rw [show max (nd 1000000000 v) i = i by omega]
                  rcases hiv with q1 | q1
                  · rcases Nat.lt_or_ge (i - 1) (nd 1000000000 v) with q2 | q2
                    · have h3 := nd_ge (b := 1000000000) (by omega) q2; omega
                    · have h3 := nd_ge (b := 1000000000) (by omega) (show i - 1 < nd 1000000000 u by omega); omega
                  · exact q1
              rw [Nat.mul_one] at hnv e2
              refine ZE.vret d_Big_plus_85 rfl ?_
              exact k A1 gF ⟨e0, by rw [hnv]; exact e1, fun q hq => e2 q (by omega)⟩
            · have hiv2 : i + 1 ≤ max (nd 1000000000 v) (nd 1000000000 u) ∨ 1000000000 ^ (i + 1 - 1) ≤ v * 1 + u := Or.inr (by rw [Nat.add_sub_cancel]; exact cry_pos (b := 1000000000) (v := v) (w := u) (y := 1) (i := i) (by omega) (by omega))
              obtain ⟨T, hT⟩ : ∃ T : Nat, T = dg 1000000000 v i * 1 + dg 1000000000 u i + cry 1000000000 v u 1 i := ⟨_, rfl⟩
              obtain ⟨s1, s2⟩ := mul_step (b := 1000000000) (by omega) v u 1 i
              rw [← hT] at s1 s2
              refine ZE.iload_n d_Big_plus_33 rfl ?_
              refine ZE.aload_n d_Big_plus_34 rfl ?_
              refine ZE.iload_n d_Big_plus_35 rfl ?_
              refine ZE.cV [(0, (i : Int))] [(0, (cry 1000000000 v u 1 i : Int))] [(2, b), (0, (i : Int))] d_Big_plus_36 l_Big_25 rfl rfl rfl rfl rfl rfl hB.1 ?_
              refine B_limbR (s := max (nd 1000000000 v) i) (i := i) (z := dg 1000000000 v i) hB e0 e1 (by omega) (by omega) (fun q => e3 i (by omega) (by omega)) (fun q => dg_big (by omega) (by omega)) ?_
              show ZE (d + 1) M_Big_plus (gw G A1) 39 [(2, b), (2, c), (0, (cry 1000000000 v u 1 i : Int)), (0, (i : Int)), (9, 0)] [(0, (dg 1000000000 v i : Int)), (0, (cry 1000000000 v u 1 i : Int))] _
              refine ZE.iadd d_Big_plus_39 ?_
              refine ZE.aload_n d_Big_plus_40 rfl ?_
              refine ZE.iload_n d_Big_plus_41 rfl ?_
              refine ZE.cV [(0, (i : Int))] [(0, (cry 1000000000 v u 1 i : Int) + (dg 1000000000 v i : Int))] [(2, c), (0, (i : Int))] d_Big_plus_42 l_Big_25 rfl rfl rfl rfl rfl rfl hC.1 ?_
              refine B_limbAt (v := u) (i := i) hC huA h9c (by omega) ?_
              show ZE (d + 1) M_Big_plus (gw G A1) 45 [(2, b), (2, c), (0, (cry 1000000000 v u 1 i : Int)), (0, (i : Int)), (9, 0)] [(0, (dg 1000000000 u i : Int)), (0, (cry 1000000000 v u 1 i : Int) + (dg 1000000000 v i : Int))] _
              refine ZE.iadd d_Big_plus_45 ?_
              rw [show (((cry 1000000000 v u 1 i : Int) + (dg 1000000000 v i : Int)) + (dg 1000000000 u i : Int) : Int) = (T : Int) from (by omega)]
              refine ZE.istore (ls2 := [(2, b), (2, c), (0, (cry 1000000000 v u 1 i : Int)), (0, (i : Int)), (0, (T : Int))]) d_Big_plus_46 (Nat.le_of_ble_eq_true rfl) rfl ?_
              refine ZE.aload_n d_Big_plus_48 rfl ?_
              refine ZE.getE (v := b + 1) d_Big_plus_49 f_Big_9 (tg := 2) rfl hB.1 e0 ?_
              refine ZE.iload_n d_Big_plus_52 rfl ?_
              refine ZE.iload d_Big_plus_53 rfl ?_
              refine ZE.ldc (v := 1000000000) d_Big_plus_55 k_Big_43 ?_
              refine ZE.iremP d_Big_plus_57 (by omega) ?_
              rw [show ((T : Int) % 1000000000 : Int) = ((T % 1000000000 : Nat) : Int) from (by omega)]
              refine ZE.iast d_Big_plus_58 hB.2.1 (by have hn0 := hB.2.2.1; show 0 ≤ (i : Int) ∧ (i : Int) < gn G (b + 1); omega) ?_
              show ZE (d + 1) M_Big_plus (gw G (up2 A1 (b + 1) (i : Int) ((T % 1000000000 : Nat) : Int))) 59 [(2, b), (2, c), (0, (cry 1000000000 v u 1 i : Int)), (0, (i : Int)), (0, (T : Int))] [] _
              refine ZE.iload d_Big_plus_59 rfl ?_
              refine ZE.ldc (v := 1000000000) d_Big_plus_61 k_Big_43 ?_
              refine ZE.idivP d_Big_plus_63 (by omega) ?_
              rw [show ((T : Int) / 1000000000 : Int) = ((T / 1000000000 : Nat) : Int) from (by omega)]
              refine ZE.istore_n (ls2 := [(2, b), (2, c), (0, ((T / 1000000000 : Nat) : Int)), (0, (i : Int)), (0, (T : Int))]) d_Big_plus_64 (Nat.le_of_ble_eq_true rfl) rfl ?_
              refine ZE.aload_n d_Big_plus_65 rfl ?_
              refine ZE.aload_n d_Big_plus_66 rfl ?_
              refine ZE.getE (v := ((max (nd 1000000000 v) i : Nat) : Int)) d_Big_plus_67 f_Big_15 (tg := 0) rfl hB.1 ((up2_ne _ _ (by omega)).trans e1) ?_
              refine ZE.iload_n d_Big_plus_70 rfl ?_
              refine ZE.iconst (n := 1) d_Big_plus_71 ?_
              refine ZE.iadd d_Big_plus_72 ?_
              refine ZE.cS [(0, ((max (nd 1000000000 v) i : Nat) : Int)), (0, (i : Int) + 1)] [(2, b)] [(0, ((max (nd 1000000000 v) i : Nat) : Int)), (0, (i : Int) + 1)] d_Big_plus_73 l_Big_31 rfl rfl rfl rfl rfl rfl ?_
              refine j_max (by unfold zR; omega) (by unfold zR; omega) ?_
              show ZE (d + 1) M_Big_plus (gw G (up2 A1 (b + 1) (i : Int) ((T % 1000000000 : Nat) : Int))) 76 [(2, b), (2, c), (0, ((T / 1000000000 : Nat) : Int)), (0, (i : Int)), (0, (T : Int))] [(0, if (i : Int) + 1 ≤ ((max (nd 1000000000 v) i : Nat) : Int) then ((max (nd 1000000000 v) i : Nat) : Int) else (i : Int) + 1), (2, b)] _
              rw [show (if (i : Int) + 1 ≤ ((max (nd 1000000000 v) i : Nat) : Int) then ((max (nd 1000000000 v) i : Nat) : Int) else (i : Int) + 1) = ((max (nd 1000000000 v) (i + 1) : Nat) : Int) by split <;> omega]
              refine ZE.put d_Big_plus_76 f_Big_15 (tg := 0) rfl trivial (Or.inl ⟨_, _, _, rfl, rfl, rfl⟩) hB.1 ?_
              show ZE (d + 1) M_Big_plus (gw G (up2 (up2 A1 (b + 1) (i : Int) ((T % 1000000000 : Nat) : Int)) b 1 ((max (nd 1000000000 v) (i + 1) : Nat) : Int))) 79 [(2, b), (2, c), (0, ((T / 1000000000 : Nat) : Int)), (0, (i : Int)), (0, (T : Int))] [] _
              refine ZE.iinc (ls2 := [(2, b), (2, c), (0, ((T / 1000000000 : Nat) : Int)), (0, (i : Int) + 1), (0, (T : Int))]) d_Big_plus_79 rfl rfl ?_
              refine ZE.goto (tgt := 4) d_Big_plus_82 rfl ?_
              refine ZE.mask [true, true, true, true, false] ?_
              show ZE (d + 1) M_Big_plus (gw G (up2 (up2 A1 (b + 1) (i : Int) ((T % 1000000000 : Nat) : Int)) b 1 ((max (nd 1000000000 v) (i + 1) : Nat) : Int))) 4 [(2, b), (2, c), (0, ((T / 1000000000 : Nat) : Int)), (0, (i : Int) + 1), (9, 0)] [] _
              rw [show (i : Int) + 1 = ((i + 1 : Nat) : Int) by omega, s2]
              refine ih (i + 1) _ (by omega) ((gF.tr bF.row).tr bF.fld) ((up2_ne _ _ (by omega)).trans ((up2_ne _ _ (by omega)).trans e0)) ((up2_at _ _ _ _).trans (by omega)) ?_ ?_ hiv2 (by omega)
              · intro q hq; rw [up2_ne _ _ (by omega)]
                by_cases e : q = i
                · subst e; rw [up2_at]; exact congrArg Nat.cast s1
                · rw [up2_ne _ _ (by omega)]; exact e2 q (by omega)
              · intro q hq1 hq2; rw [up2_ne _ _ (by omega), up2_ne _ _ (by omega)]; exact e3 q (by omega) hq2
  have L0 := L4 _ 0 A (by omega) bF.rf hv.1 (by rw [hv.2.1]; omega) (fun q h => absurd h (Nat.not_lt_zero _)) (fun q _ h => hv.2.2 q h) (Or.inl (Nat.zero_le _)) (Nat.lt_succ_self _)
  rw [cry_0] at L0
  exact L0
