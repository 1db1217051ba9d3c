def gdA (n k : Nat) : Nat → Int
  | 0 => -2
  | f + 1 => if n % (zPf k).toNat = 0 ∨ (n + 1) % (zPf k).toNat = 0 then zPf k else gdA n (k + 1) f
theorem gdA_y {n k f s : Nat} (hf : 0 < f) (hs : zPf k = (s : Int)) (h : n % s = 0 ∨ (n + 1) % s = 0) : gdA n k f = (s : Int) := by
  cases f with
  | zero => omega
  | succ f =>
    unfold gdA
    rw [hs, Int.toNat_natCast, if_pos h]
theorem gdA_n {n k f s : Nat} (hf : 0 < f) (hs : zPf k = (s : Int)) (h : ¬ (n % s = 0 ∨ (n + 1) % s = 0)) : gdA n k f = gdA n (k + 1) (f - 1) := by
  cases f with
  | zero => omega
  | succ f =>
    show (if n % (zPf k).toNat = 0 ∨ (n + 1) % (zPf k).toNat = 0 then zPf k else gdA n (k + 1) f) = gdA n (k + 1) f
    rw [hs, Int.toNat_natCast, if_neg h]
theorem half_mod {w s : Nat} (ho : w % 2 = 1) (hs : 2 ≤ s) : (((w % (2 * s) : Nat) : Int) - 1) / 2 = (((w - 1) / 2 % s : Nat) : Int) := by
  have h1 := Nat.div_add_mod w (2 * s)
  have h2 := Nat.mod_lt w (show 0 < 2 * s by omega)
  have h3 : w % (2 * s) % 2 = 1 := by rw [Nat.mod_mul_right_mod]; exact ho
  rw [Nat.mul_assoc] at h1
  generalize w / (2 * s) = q at h1
  generalize w % (2 * s) = r at h1 h2 h3 ⊢
  have h4 : (w - 1) / 2 = s * q + (r - 1) / 2 := by omega
  rw [h4, Nat.mul_add_mod, Nat.mod_eq_of_lt (by omega)]
  omega
theorem mod_succ_mod {n s : Nat} : (n % s + 1) % s = (n + 1) % s := by rw [Nat.add_mod n 1 s, Nat.add_mod (n % s) 1 s, Nat.mod_mod]
set_option maxRecDepth 20000 in
set_option maxHeartbeats 4000000 in
theorem u_greaterDivisor {d : Nat} {G : zG} {A : Int → Int → Int} {P : Option zV → zG → Prop}  {u : Int} (hu : uK G u) {q D : Nat} (hO : uO A u q D) (hL : lG G A) (h1 : frD D) {i0 : Nat} (hi : i0 ≤ 60) (hod : xp (ux D) i0 % 2 = 1) (k : P (some (0, gdA (nn1 (ux D) i0) 7 161)) (gw G A)) : ZE (d + 3) M_Uni_greaterDivisor (gw G A) 0 [(2, u), (0, (i0 : Int)), (9, 0), (9, 0), (9, 0)] [] P := by
  refine ZE.bipush (n := 7) d_Uni_greaterDivisor_0 rfl ?_
  refine ZE.istore_n (ls2 := [(2, u), (0, (i0 : Int)), (0, 7), (9, 0), (9, 0)]) d_Uni_greaterDivisor_2 (Nat.le_of_ble_eq_true rfl) rfl ?_
  have L3 : ∀ (tt0 : Nat) (j : Nat) (hj : 7 ≤ j ∧ j ≤ 168) (hg : gdA (nn1 (ux D) i0) 7 161 = gdA (nn1 (ux D) i0) j (168 - j)), 168 - j < tt0 → ZE (d + 3) M_Uni_greaterDivisor (gw G A) 3 [(2, u), (0, (i0 : Int)), (0, (j : Int)), (9, 0), (9, 0)] [] P := by
    intro tt0
    induction tt0 with
    | zero => intro j hj hg hm; exact absurd hm (Nat.not_lt_zero _)
    | succ tt0 ih =>
      intro j hj hg hm
      refine ZE.iload_n d_Uni_greaterDivisor_3 rfl ?_
      refine ZE.sipush (n := 168) d_Uni_greaterDivisor_4 rfl ?_
      refine ZE.icmp_ge (tgt := 58) d_Uni_greaterDivisor_7 rfl (by unfold zR; omega) (by unfold zR; omega) (fun c7 => ?_) (fun c7 => ?_)
      · refine ZE.bipush (n := (-2)) d_Uni_greaterDivisor_58 rfl ?_
        refine ZE.iret d_Uni_greaterDivisor_60 rfl ?_
        rw [hg, show 168 - j = 0 by omega] at k
        exact k
      · obtain ⟨s, hs⟩ : ∃ s : Nat, zPf j = (s : Int) := ⟨(zPf j).toNat, by have := zPf_R j (by omega); omega⟩
        have hsR := zPf_R j (by omega)
        rw [hs] at hsR
        have hpl := Nat.mod_lt (xp (ux D) i0) (show 0 < 2 * s by omega)
        have hpo : xp (ux D) i0 % (2 * s) % 2 = 1 := by rw [Nat.mod_mul_right_mod]; exact hod
        have hn1 := Nat.mod_lt (nn1 (ux D) i0) (show 0 < s by omega)
        have hn2 := Nat.mod_lt (nn1 (ux D) i0 + 1) (show 0 < s by omega)
        refine ZE.iload_n d_Uni_greaterDivisor_10 rfl ?_
        refine ZE.cS [(0, (j : Int))] [] [(0, (j : Int))] d_Uni_greaterDivisor_11 l_Uni_100 rfl rfl rfl rfl rfl rfl ?_
        refine p_at (j := j) (by omega) hL ?_
        show ZE (d + 3) M_Uni_greaterDivisor (gw G A) 14 [(2, u), (0, (i0 : Int)), (0, (j : Int)), (9, 0), (9, 0)] [(0, zPf j)] _
        rw [hs]
        refine ZE.istore_n (ls2 := [(2, u), (0, (i0 : Int)), (0, (j : Int)), (0, (s : Int)), (9, 0)]) d_Uni_greaterDivisor_14 (Nat.le_of_ble_eq_true rfl) rfl ?_
        refine ZE.aload_n d_Uni_greaterDivisor_15 rfl ?_
        refine ZE.iload_n d_Uni_greaterDivisor_16 rfl ?_
        refine ZE.iconst (n := 2) d_Uni_greaterDivisor_17 ?_
        refine ZE.iload_n d_Uni_greaterDivisor_18 rfl ?_
        refine ZE.imul d_Uni_greaterDivisor_19 ?_
        rw [show (2 * (s : Int) : Int) = ((2 * s : Nat) : Int) from (by omega)]
        refine ZE.cV [(0, (i0 : Int)), (0, ((2 * s : Nat) : Int))] [] [(2, u), (0, (i0 : Int)), (0, ((2 * s : Nat) : Int)), (9, 0), (9, 0), (9, 0), (9, 0), (9, 0), (9, 0), (9, 0), (9, 0), (9, 0)] d_Uni_greaterDivisor_20 l_Uni_103 rfl rfl rfl rfl rfl rfl hu.1 ?_
        refine u_powerLeft hu hO h1 hi (m := 2 * s) (by omega) ?_
        show ZE (d + 3) M_Uni_greaterDivisor (gw G A) 23 [(2, u), (0, (i0 : Int)), (0, (j : Int)), (0, (s : Int)), (9, 0)] [(0, ((xp (ux D) i0 % (2 * s) : Nat) : Int))] _
        refine ZE.iconst (n := 1) d_Uni_greaterDivisor_23 ?_
        refine ZE.isub d_Uni_greaterDivisor_24 ?_
        refine ZE.iconst (n := 2) d_Uni_greaterDivisor_25 ?_
        refine ZE.idivP d_Uni_greaterDivisor_26 (by omega) ?_
        rw [show ((((xp (ux D) i0 % (2 * s) : Nat) : Int) - 1) / 2 : Int) = ((nn1 (ux D) i0 % s : Nat) : Int) from half_mod hod (by omega)]
        refine ZE.istore (ls2 := [(2, u), (0, (i0 : Int)), (0, (j : Int)), (0, (s : Int)), (0, ((nn1 (ux D) i0 % s : Nat) : Int))]) d_Uni_greaterDivisor_27 (Nat.le_of_ble_eq_true rfl) rfl ?_
        refine ZE.iload_n d_Uni_greaterDivisor_29 rfl ?_
        refine ZE.iconst (n := 1) d_Uni_greaterDivisor_30 ?_
        refine ZE.icmp_le (tgt := 52) d_Uni_greaterDivisor_31 rfl (by unfold zR; omega) (by unfold zR; omega) (fun c31 => ?_) (fun c31 => ?_)
        · exact absurd c31 (by omega)
        · refine ZE.iload d_Uni_greaterDivisor_34 rfl ?_
          refine ZE.iload_n d_Uni_greaterDivisor_36 rfl ?_
          refine ZE.iremP d_Uni_greaterDivisor_37 (by omega) ?_
          rw [show (((nn1 (ux D) i0 % s : Nat) : Int) % (s : Int) : Int) = ((nn1 (ux D) i0 % s : Nat) : Int) from (by rw [Int.emod_eq_of_lt (by omega) (by omega)])]
          refine ZE.if_eq (tgt := 50) d_Uni_greaterDivisor_38 rfl (by unfold zR; omega) (fun c38 => ?_) (fun c38 => ?_)
          · refine ZE.iload_n d_Uni_greaterDivisor_50 rfl ?_
            refine ZE.iret d_Uni_greaterDivisor_51 rfl ?_
            rw [hg, gdA_y (by omega) hs (by omega)] at k
            exact k
          · refine ZE.iload d_Uni_greaterDivisor_41 rfl ?_
            refine ZE.iconst (n := 1) d_Uni_greaterDivisor_43 ?_
            refine ZE.iadd d_Uni_greaterDivisor_44 ?_
            refine ZE.iload_n d_Uni_greaterDivisor_45 rfl ?_
            refine ZE.iremP d_Uni_greaterDivisor_46 (by omega) ?_
            rw [show ((((nn1 (ux D) i0 % s : Nat) : Int) + 1) % (s : Int) : Int) = (((nn1 (ux D) i0 + 1) % s : Nat) : Int) from (by rw [← mod_succ_mod]; generalize nn1 (ux D) i0 % s = r; rw [Int.natCast_emod (r + 1) s, Int.natCast_add]; rfl)]
            refine ZE.if_ne (tgt := 52) d_Uni_greaterDivisor_47 rfl (by unfold zR; omega) (fun c47 => ?_) (fun c47 => ?_)
            · refine ZE.iinc (ls2 := [(2, u), (0, (i0 : Int)), (0, (j : Int) + 1), (0, (s : Int)), (0, ((nn1 (ux D) i0 % s : Nat) : Int))]) d_Uni_greaterDivisor_52 rfl rfl ?_
              refine ZE.goto (tgt := 3) d_Uni_greaterDivisor_55 rfl ?_
              refine ZE.mask [true, true, true, false, false] ?_
              show ZE (d + 3) M_Uni_greaterDivisor (gw G A) 3 [(2, u), (0, (i0 : Int)), (0, (j : Int) + 1), (9, 0), (9, 0)] [] _
              rw [show (j : Int) + 1 = ((j + 1 : Nat) : Int) by omega]
              exact ih (j + 1) (by omega) (by rw [hg, gdA_n (by omega) hs (by omega), show 168 - j - 1 = 168 - (j + 1) by omega]) (by omega)
            · refine ZE.iload_n d_Uni_greaterDivisor_50 rfl ?_
              refine ZE.iret d_Uni_greaterDivisor_51 rfl ?_
              rw [hg, gdA_y (by omega) hs (by omega)] at k
              exact k
  exact L3 _ 7 (by omega) rfl (Nat.lt_succ_self _)
set_option maxRecDepth 20000 in
set_option maxHeartbeats 4000000 in
theorem u_note {d : Nat} {G : zG} {A : Int → Int → Int} {P : Option zV → zG → Prop}  {u : Int} (hu : uK G u) (h6 : A u 6 = u + 5) (h7 : A u 7 = u + 6) (h9 : A u 9 = u + 8) {i0 : Nat} (hi : i0 < 10) {l1 m1 cp1 : Int} (hc : cp1 = -1 ∨ gk G cp1 = 11) (k : P none (gw G (up2 (up2 (up2 A (u + 5) i0 l1) (u + 6) i0 m1) (u + 8) i0 cp1))) : ZE d M_Uni_note (gw G A) 0 [(2, u), (0, (i0 : Int)), (0, l1), (0, m1), (2, cp1)] [] P := by
  refine ZE.iload_n d_Uni_note_0 rfl ?_
  refine ZE.if_lt (tgt := 53) d_Uni_note_1 rfl (by unfold zR; omega) (fun c1 => ?_) (fun c1 => ?_)
  · exact absurd c1 (by omega)
  · refine ZE.iload_n d_Uni_note_4 rfl ?_
    refine ZE.aload_n d_Uni_note_5 rfl ?_
    refine ZE.getE (v := u + 5) d_Uni_note_6 f_Uni_23 (tg := 2) rfl hu.1 h6 ?_
    refine ZE.alenE (v := 10) d_Uni_note_9 (by have hk0 := hu.2.2.2.2.1.1; show 1 ≤ gk G (u + 5) ∧ gk G (u + 5) ≤ 6; omega) hu.2.2.2.2.1.2 ?_
    refine ZE.icmp_ge (tgt := 53) d_Uni_note_10 rfl (by unfold zR; omega) (by unfold zR; omega) (fun c10 => ?_) (fun c10 => ?_)
    · exact absurd c10 (by omega)
    · refine ZE.iload_n d_Uni_note_13 rfl ?_
      refine ZE.aload_n d_Uni_note_14 rfl ?_
      refine ZE.getE (v := u + 6) d_Uni_note_15 f_Uni_27 (tg := 2) rfl hu.1 h7 ?_
      refine ZE.alenE (v := 10) d_Uni_note_18 (by have hk0 := hu.2.2.2.2.2.1.1; show 1 ≤ gk G (u + 6) ∧ gk G (u + 6) ≤ 6; omega) hu.2.2.2.2.2.1.2 ?_
      refine ZE.icmp_ge (tgt := 53) d_Uni_note_19 rfl (by unfold zR; omega) (by unfold zR; omega) (fun c19 => ?_) (fun c19 => ?_)
      · exact absurd c19 (by omega)
      · refine ZE.iload_n d_Uni_note_22 rfl ?_
        refine ZE.aload_n d_Uni_note_23 rfl ?_
        refine ZE.getE (v := u + 8) d_Uni_note_24 f_Uni_35 (tg := 2) rfl hu.1 h9 ?_
        refine ZE.alenE (v := 10) d_Uni_note_27 (by have hk0 := hu.2.2.2.2.2.2.2.1; show 1 ≤ gk G (u + 8) ∧ gk G (u + 8) ≤ 6; omega) hu.2.2.2.2.2.2.2.2 ?_
        refine ZE.icmp_ge (tgt := 53) d_Uni_note_28 rfl (by unfold zR; omega) (by unfold zR; omega) (fun c28 => ?_) (fun c28 => ?_)
        · exact absurd c28 (by omega)
        · refine ZE.aload_n d_Uni_note_31 rfl ?_
          refine ZE.getE (v := u + 5) d_Uni_note_32 f_Uni_23 (tg := 2) rfl hu.1 h6 ?_
          refine ZE.iload_n d_Uni_note_35 rfl ?_
          refine ZE.iload_n d_Uni_note_36 rfl ?_
          refine ZE.iast d_Uni_note_37 hu.2.2.2.2.1.1 (by have hn0 := hu.2.2.2.2.1.2; show 0 ≤ (i0 : Int) ∧ (i0 : Int) < gn G (u + 5); omega) ?_
          show ZE d M_Uni_note (gw G (up2 A (u + 5) (i0 : Int) l1)) 38 [(2, u), (0, (i0 : Int)), (0, l1), (0, m1), (2, cp1)] [] _
          refine ZE.aload_n d_Uni_note_38 rfl ?_
          refine ZE.getE (v := u + 6) d_Uni_note_39 f_Uni_27 (tg := 2) rfl hu.1 ((up2_ne _ _ (by omega)).trans h7) ?_
          refine ZE.iload_n d_Uni_note_42 rfl ?_
          refine ZE.iload_n d_Uni_note_43 rfl ?_
          refine ZE.iast d_Uni_note_44 hu.2.2.2.2.2.1.1 (by have hn0 := hu.2.2.2.2.2.1.2; show 0 ≤ (i0 : Int) ∧ (i0 : Int) < gn G (u + 6); omega) ?_
          show ZE d M_Uni_note (gw G (up2 (up2 A (u + 5) (i0 : Int) l1) (u + 6) (i0 : Int) m1)) 45 [(2, u), (0, (i0 : Int)), (0, l1), (0, m1), (2, cp1)] [] _
          refine ZE.aload_n d_Uni_note_45 rfl ?_
          refine ZE.getE (v := u + 8) d_Uni_note_46 f_Uni_35 (tg := 2) rfl hu.1 ((up2_ne _ _ (by omega)).trans ((up2_ne _ _ (by omega)).trans h9)) ?_
          refine ZE.iload_n d_Uni_note_49 rfl ?_
          refine ZE.aload d_Uni_note_50 rfl ?_
          have kkN : ZE d M_Uni_note (gw G (up2 (up2 (up2 A (u + 5) (i0 : Int) l1) (u + 6) (i0 : Int) m1) (u + 8) (i0 : Int) cp1)) 53 [(2, u), (0, (i0 : Int)), (0, l1), (0, m1), (2, cp1)] [] P → ZE d M_Uni_note (gw G (up2 (up2 A (u + 5) (i0 : Int) l1) (u + 6) (i0 : Int) m1)) 52 [(2, u), (0, (i0 : Int)), (0, l1), (0, m1), (2, cp1)] [(2, cp1), (0, (i0 : Int)), (2, u + 8)] P := fun kq => by
            rcases hc with hq | hq
            · exact ZE.aastN d_Uni_note_52 hu.2.2.2.2.2.2.2.1 (by omega) (by have hn0 := hu.2.2.2.2.2.2.2.2; show 0 ≤ (i0 : Int) ∧ (i0 : Int) < gn G (u + 8); omega) hq kq
            · exact ZE.aast d_Uni_note_52 hu.2.2.2.2.2.2.2.1 (by omega) (by have hn0 := hu.2.2.2.2.2.2.2.2; show 0 ≤ (i0 : Int) ∧ (i0 : Int) < gn G (u + 8); omega) hq kq
          refine kkN ?_
          refine ZE.vret d_Uni_note_53 rfl ?_
          exact k
set_option maxRecDepth 20000 in
set_option maxHeartbeats 4000000 in
theorem u_powerDigits {d : Nat} {G : zG} {A : Int → Int → Int} {P : Option zV → zG → Prop}  {u : Int} (hu : uK G u) {q D : Nat} (hO : uO A u q D) {i0 : Int} (hi : -2147483648 ≤ i0 ∧ i0 ≤ 9) {v : Int} (hv : 1 ≤ i0 → A (u + 5) i0 = v) (k : P (some (0, if 1 ≤ i0 then v else 1)) (gw G A)) : ZE d M_Uni_powerDigits (gw G A) 0 [(2, u), (0, i0)] [] P := by
  refine ZE.iload_n d_Uni_powerDigits_0 rfl ?_
  refine ZE.if_le (tgt := 22) d_Uni_powerDigits_1 rfl (by unfold zR; omega) (fun c1 => ?_) (fun c1 => ?_)
  · refine ZE.iconst (n := 1) d_Uni_powerDigits_22 ?_
    refine ZE.iret d_Uni_powerDigits_23 rfl ?_
    rw [if_neg (by omega)] at k
    exact k
  · refine ZE.iload_n d_Uni_powerDigits_4 rfl ?_
    refine ZE.aload_n d_Uni_powerDigits_5 rfl ?_
    refine ZE.getE (v := u + 5) d_Uni_powerDigits_6 f_Uni_23 (tg := 2) rfl hu.1 hO.2.2.2.2.2.2.1 ?_
    refine ZE.alenE (v := 10) d_Uni_powerDigits_9 (by have hk0 := hu.2.2.2.2.1.1; show 1 ≤ gk G (u + 5) ∧ gk G (u + 5) ≤ 6; omega) hu.2.2.2.2.1.2 ?_
    refine ZE.icmp_ge (tgt := 22) d_Uni_powerDigits_10 rfl (by unfold zR; omega) (by unfold zR; omega) (fun c10 => ?_) (fun c10 => ?_)
    · exact absurd c10 (by omega)
    · refine ZE.aload_n d_Uni_powerDigits_13 rfl ?_
      refine ZE.getE (v := u + 5) d_Uni_powerDigits_14 f_Uni_23 (tg := 2) rfl hu.1 hO.2.2.2.2.2.2.1 ?_
      refine ZE.iload_n d_Uni_powerDigits_17 rfl ?_
      refine ZE.ialdE (v := v) d_Uni_powerDigits_18 hu.2.2.2.2.1.1 (by have hn0 := hu.2.2.2.2.1.2; show 0 ≤ i0 ∧ i0 < gn G (u + 5); omega) (hv (by omega)) ?_
      refine ZE.goto (tgt := 23) d_Uni_powerDigits_19 rfl ?_
      refine ZE.iret d_Uni_powerDigits_23 rfl ?_
      rw [if_pos (by omega)] at k
      exact k
