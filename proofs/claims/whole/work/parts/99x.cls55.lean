theorem half_le {a b c p : Nat} (h : 2 * c ≤ b) (hb : b * p ≤ a) : c * (2 * p) ≤ a := by
  have h1 : 2 * c * p ≤ b * p := Nat.mul_le_mul_right _ h
  have h2 : c * (2 * p) = 2 * c * p := by rw [← Nat.mul_assoc, Nat.mul_comm c 2]
  omega
theorem vlF_n {w : Nat → Nat} {K i : Nat} (h : ¬ i < K) : vlF w K (i : Int) = -1 := by unfold vlF; rw [if_neg (by omega)]
set_option maxRecDepth 20000 in
set_option maxHeartbeats 4000000 in
theorem m_placeAbove {d : Nat} {G : zG} {A : Int → Int → Int} {P : Option zV → zG → Prop} {h : Int} (hK : mK G h) {S : Nat} {w : Nat → Nat} {M : Nat} (hQ : mS A h S w M) {n : Int} (hn : zR n) (k : ∀ j : Nat, j ≤ M → (∀ i : Nat, i < j → (w i : Int) ≤ n) → (∀ i : Nat, j ≤ i → i < M → n < (w i : Int)) → P (some (0, (j : Int))) (gw G A)) : ZE (d + 1) M_Smo_placeAbove (gw G A) 0 [(2, h), (0, n), (9, 0), (9, 0), (9, 0), (9, 0)] [] P := by
  have hSL := hQ.2.2.2.1
  have hM16 := hSL.2.1
  have hM1 := hSL.1
  refine ZE.iconst (n := 0) d_Smo_placeAbove_0 ?_
  refine ZE.istore_n (ls2 := [(2, h), (0, n), (0, 0), (9, 0), (9, 0), (9, 0)]) d_Smo_placeAbove_1 (Nat.le_of_ble_eq_true rfl) rfl ?_
  refine ZE.aload_n d_Smo_placeAbove_2 rfl ?_
  refine ZE.getE (v := (M : Int)) d_Smo_placeAbove_3 f_Smo_43 (tg := 0) rfl hK.1 hQ.2.2.1 ?_
  refine ZE.istore_n (ls2 := [(2, h), (0, n), (0, 0), (0, (M : Int)), (9, 0), (9, 0)]) d_Smo_placeAbove_6 (Nat.le_of_ble_eq_true rfl) rfl ?_
  refine ZE.iconst (n := 0) d_Smo_placeAbove_7 ?_
  refine ZE.istore (ls2 := [(2, h), (0, n), (0, 0), (0, (M : Int)), (0, 0), (9, 0)]) d_Smo_placeAbove_8 (Nat.le_of_ble_eq_true rfl) rfl ?_
  have L10 : ∀ (tt0 : Nat) (f0 : Nat) (t0 : Nat) (g0 : Nat) (hft : f0 ≤ t0 ∧ t0 ≤ M) (ha : ∀ i : Nat, i < f0 → (w i : Int) ≤ n) (hb : ∀ i : Nat, t0 ≤ i → i < M → n < (w i : Int)) (hp : (t0 - f0) * 2 ^ g0 ≤ 2047) (hg : g0 ≤ 32), 33 - g0 < tt0 → ZE (d + 1) M_Smo_placeAbove (gw G A) 10 [(2, h), (0, n), (0, (f0 : Int)), (0, (t0 : Int)), (0, (g0 : Int)), (9, 0)] [] P := by
    intro tt0
    induction tt0 with
    | zero => intro f0 t0 g0 hft ha hb hp hg hm; exact absurd hm (Nat.not_lt_zero _)
    | succ tt0 ih =>
      intro f0 t0 g0 hft ha hb hp hg hm
      refine ZE.iload d_Smo_placeAbove_10 rfl ?_
      refine ZE.bipush (n := 32) d_Smo_placeAbove_12 rfl ?_
      refine ZE.icmp_ge (tgt := 56) d_Smo_placeAbove_14 rfl (by unfold zR; omega) (by unfold zR; omega) (fun c14 => ?_) (fun c14 => ?_)
      · refine ZE.iload_n d_Smo_placeAbove_56 rfl ?_
        refine ZE.iret d_Smo_placeAbove_57 rfl ?_
        have hfe : f0 = t0 := by
          by_cases z : g0 = 32
          · subst z; omega
          · omega
        subst hfe
        exact k f0 hft.2 ha hb
      · refine ZE.iload_n d_Smo_placeAbove_17 rfl ?_
        refine ZE.iload_n d_Smo_placeAbove_18 rfl ?_
        refine ZE.icmp_ge (tgt := 56) d_Smo_placeAbove_19 rfl (by unfold zR; omega) (by unfold zR; omega) (fun c19 => ?_) (fun c19 => ?_)
        · refine ZE.iload_n d_Smo_placeAbove_56 rfl ?_
          refine ZE.iret d_Smo_placeAbove_57 rfl ?_
          have hfe : f0 = t0 := by
            by_cases z : g0 = 32
            · subst z; omega
            · omega
          subst hfe
          exact k f0 hft.2 ha hb
        · refine ZE.iload_n d_Smo_placeAbove_22 rfl ?_
          refine ZE.iload_n d_Smo_placeAbove_23 rfl ?_
          refine ZE.iadd d_Smo_placeAbove_24 ?_
          refine ZE.iconst (n := 2) d_Smo_placeAbove_25 ?_
          refine ZE.idivP d_Smo_placeAbove_26 (by omega) ?_
          rw [show (((f0 : Int) + (t0 : Int)) / 2 : Int) = (((f0 + t0) / 2 : Nat) : Int) from (by omega)]
          refine ZE.istore (ls2 := [(2, h), (0, n), (0, (f0 : Int)), (0, (t0 : Int)), (0, (g0 : Int)), (0, (((f0 + t0) / 2 : Nat) : Int))]) d_Smo_placeAbove_27 (Nat.le_of_ble_eq_true rfl) rfl ?_
          refine ZE.aload_n d_Smo_placeAbove_29 rfl ?_
          refine ZE.iload d_Smo_placeAbove_30 rfl ?_
          refine ZE.cV [(0, (((f0 + t0) / 2 : Nat) : Int))] [] [(2, h), (0, (((f0 + t0) / 2 : Nat) : Int))] d_Smo_placeAbove_32 l_Smo_65 rfl rfl rfl rfl rfl rfl hK.1 ?_
          refine m_valueAt (d := d) hK hQ.1 hQ.2.2.1 hM16 hQ.2.2.2.2.1 (i := (((f0 + t0) / 2 : Nat) : Int)) (by unfold zR; omega) ?_
          show ZE (d + 1) M_Smo_placeAbove (gw G A) 35 [(2, h), (0, n), (0, (f0 : Int)), (0, (t0 : Int)), (0, (g0 : Int)), (0, (((f0 + t0) / 2 : Nat) : Int))] [(0, vlF w M (((f0 + t0) / 2 : Nat) : Int))] _
          rw [vlF_y (show (f0 + t0) / 2 < M by omega)]
          have hwb := hSL.le (j := (f0 + t0) / 2) (by omega)
          refine ZE.iload_n d_Smo_placeAbove_35 rfl ?_
          refine ZE.icmp_gt (tgt := 47) d_Smo_placeAbove_36 rfl (by unfold zR; omega) hn (fun c36 => ?_) (fun c36 => ?_)
          · refine ZE.iload d_Smo_placeAbove_47 rfl ?_
            refine ZE.istore_n (ls2 := [(2, h), (0, n), (0, (f0 : Int)), (0, (((f0 + t0) / 2 : Nat) : Int)), (0, (g0 : Int)), (0, (((f0 + t0) / 2 : Nat) : Int))]) d_Smo_placeAbove_49 (Nat.le_of_ble_eq_true rfl) rfl ?_
            refine ZE.iinc (ls2 := [(2, h), (0, n), (0, (f0 : Int)), (0, (((f0 + t0) / 2 : Nat) : Int)), (0, (g0 : Int) + 1), (0, (((f0 + t0) / 2 : Nat) : Int))]) d_Smo_placeAbove_50 rfl rfl ?_
            refine ZE.goto (tgt := 10) d_Smo_placeAbove_53 rfl ?_
            refine ZE.mask [true, true, true, true, true, false] ?_
            show ZE (d + 1) M_Smo_placeAbove (gw G A) 10 [(2, h), (0, n), (0, (f0 : Int)), (0, (((f0 + t0) / 2 : Nat) : Int)), (0, (g0 : Int) + 1), (9, 0)] [] _
            rw [show (g0 : Int) + 1 = ((g0 + 1 : Nat) : Int) by omega]
            refine ih f0 ((f0 + t0) / 2) (g0 + 1) (by omega) ha (fun i hi hi2 => ?_) ?_ (by omega) (by omega)
            · rcases Nat.eq_or_lt_of_le hi with z | z
              · rw [← z]; omega
              · have := hSL.inc z hi2; omega
            · rw [Nat.pow_succ, Nat.mul_comm (2 ^ g0) 2]; exact half_le (by omega) hp
          · refine ZE.iload d_Smo_placeAbove_39 rfl ?_
            refine ZE.iconst (n := 1) d_Smo_placeAbove_41 ?_
            refine ZE.iadd d_Smo_placeAbove_42 ?_
            refine ZE.istore_n (ls2 := [(2, h), (0, n), (0, (((f0 + t0) / 2 : Nat) : Int) + 1), (0, (t0 : Int)), (0, (g0 : Int)), (0, (((f0 + t0) / 2 : Nat) : Int))]) d_Smo_placeAbove_43 (Nat.le_of_ble_eq_true rfl) rfl ?_
            refine ZE.goto (tgt := 50) d_Smo_placeAbove_44 rfl ?_
            refine ZE.iinc (ls2 := [(2, h), (0, n), (0, (((f0 + t0) / 2 : Nat) : Int) + 1), (0, (t0 : Int)), (0, (g0 : Int) + 1), (0, (((f0 + t0) / 2 : Nat) : Int))]) d_Smo_placeAbove_50 rfl rfl ?_
            refine ZE.goto (tgt := 10) d_Smo_placeAbove_53 rfl ?_
            refine ZE.mask [true, true, true, true, true, false] ?_
            show ZE (d + 1) M_Smo_placeAbove (gw G A) 10 [(2, h), (0, n), (0, (((f0 + t0) / 2 : Nat) : Int) + 1), (0, (t0 : Int)), (0, (g0 : Int) + 1), (9, 0)] [] _
            rw [show (g0 : Int) + 1 = ((g0 + 1 : Nat) : Int) by omega]
            refine ih ((f0 + t0) / 2 + 1) t0 (g0 + 1) (by omega) (fun i hi => ?_) hb ?_ (by omega) (by omega)
            · rcases Nat.lt_or_ge i ((f0 + t0) / 2) with z | z
              · have := hSL.inc z (show (f0 + t0) / 2 < M by omega); omega
              · have : i = (f0 + t0) / 2 := by omega
                subst this; omega
            · rw [Nat.pow_succ, Nat.mul_comm (2 ^ g0) 2]; exact half_le (by omega) hp
  exact L10 _ 0 M 0 (by omega) (fun i h => absurd h (Nat.not_lt_zero _)) (fun i a b => by omega) (by rw [Nat.pow_zero]; omega) (by omega) (Nat.lt_succ_self _)
set_option maxRecDepth 20000 in
set_option maxHeartbeats 4000000 in
theorem m_valueAbove {d : Nat} {G : zG} {A : Int → Int → Int} {P : Option zV → zG → Prop} {h : Int} (hK : mK G h) {S : Nat} {w : Nat → Nat} {M : Nat} (hQ : mS A h S w M) {n : Int} (hn : zR n) (k : ∀ j : Nat, j ≤ M → (∀ i : Nat, i < j → (w i : Int) ≤ n) → (∀ i : Nat, j ≤ i → i < M → n < (w i : Int)) → P (some (0, vlF w M (j : Int))) (gw G A)) : ZE (d + 2) M_Smo_valueAbove (gw G A) 0 [(2, h), (0, n)] [] P := by
  have hSL := hQ.2.2.2.1
  have hM16 := hSL.2.1
  have hM1 := hSL.1
  refine ZE.aload_n d_Smo_valueAbove_0 rfl ?_
  refine ZE.aload_n d_Smo_valueAbove_1 rfl ?_
  refine ZE.iload_n d_Smo_valueAbove_2 rfl ?_
  refine ZE.cV [(0, n)] [(2, h)] [(2, h), (0, n), (9, 0), (9, 0), (9, 0), (9, 0)] d_Smo_valueAbove_3 l_Smo_74 rfl rfl rfl rfl rfl rfl hK.1 ?_
  refine m_placeAbove (d := d) hK hQ hn (fun j hjM ha hb => ?_)
  show ZE (d + 2) M_Smo_valueAbove (gw G A) 6 [(2, h), (0, n)] [(0, (j : Int)), (2, h)] _
  refine ZE.cV [(0, (j : Int))] [] [(2, h), (0, (j : Int))] d_Smo_valueAbove_6 l_Smo_65 rfl rfl rfl rfl rfl rfl hK.1 ?_
  refine m_valueAt (d := d + 1) hK hQ.1 hQ.2.2.1 hM16 hQ.2.2.2.2.1 (i := (j : Int)) (by unfold zR; omega) ?_
  show ZE (d + 2) M_Smo_valueAbove (gw G A) 9 [(2, h), (0, n)] [(0, vlF w M (j : Int))] _
  refine ZE.iret d_Smo_valueAbove_9 rfl ?_
  exact k j hjM ha hb
theorem SL.find {S : Nat} {w : Nat → Nat} {M : Nat} (h : SL S w M) {o a : Nat} (ho : 1 ≤ o ∧ o ≤ 200000) (ha : ∀ i, i < a → w i < o) (hb : a < M → o ≤ w a) : (vlF w M (a : Int) = (o : Int)) ↔ smB S o = true := by
  constructor
  · intro q
    by_cases z : a < M
    · rw [vlF_y z] at q
      have h1 := (h.le z).2.2
      have : w a = o := by omega
      rw [this] at h1
      exact h1
    · rw [vlF_n z] at q; omega
  · intro q
    obtain ⟨j, hj, e⟩ := h.2.2.2.2.2 o ho.1 (by omega) ho.2 q
    have hja : a ≤ j := by
      rcases Nat.lt_or_ge j a with z | z
      · have := ha j z; omega
      · exact z
    have hb2 := hb (by omega)
    rcases Nat.eq_or_lt_of_le hja with z | z
    · subst z; rw [vlF_y hj, e]
    · have := h.inc z hj; omega
theorem SL.w1 {S : Nat} {w : Nat → Nat} {M : Nat} (h : SL S w M) {i : Nat} (h1 : 1 ≤ i) (hi : i < M) : 1 < w i := by
  have := h.inc h1 hi
  rw [h.2.2.1] at this
  exact this
set_option maxRecDepth 20000 in
set_option maxHeartbeats 4000000 in
theorem m_couplesUpTo {d : Nat} {G : zG} {A : Int → Int → Int} {P : Option zV → zG → Prop} {h : Int} (hK : mK G h) {S : Nat} {w : Nat → Nat} {M : Nat} (hQ : mS A h S w M) {d1 u : Nat} (hd : 1 ≤ d1 ∧ d1 ≤ 1000) (hu : u ≤ 200000) (k : P (some (0, (cnt (apB S d1) (u - d1) : Int))) (gw G A)) : ZE (d + 1) M_Smo_couplesUpTo (gw G A) 0 [(2, h), (0, (d1 : Int)), (0, (u : Int)), (9, 0), (9, 0), (9, 0), (9, 0)] [] P := by
  have hSL := hQ.2.2.2.1
  have hM16 := hSL.2.1
  have hM1 := hSL.1
  refine ZE.iconst (n := 0) d_Smo_couplesUpTo_0 ?_
  refine ZE.istore_n (ls2 := [(2, h), (0, (d1 : Int)), (0, (u : Int)), (0, 0), (9, 0), (9, 0), (9, 0)]) d_Smo_couplesUpTo_1 (Nat.le_of_ble_eq_true rfl) rfl ?_
  refine ZE.iconst (n := 0) d_Smo_couplesUpTo_2 ?_
  refine ZE.istore (ls2 := [(2, h), (0, (d1 : Int)), (0, (u : Int)), (0, 0), (0, 0), (9, 0), (9, 0)]) d_Smo_couplesUpTo_3 (Nat.le_of_ble_eq_true rfl) rfl ?_
  refine ZE.iconst (n := 0) d_Smo_couplesUpTo_5 ?_
  refine ZE.istore (ls2 := [(2, h), (0, (d1 : Int)), (0, (u : Int)), (0, 0), (0, 0), (0, 0), (9, 0)]) d_Smo_couplesUpTo_6 (Nat.le_of_ble_eq_true rfl) rfl ?_
  have L8 : ∀ (tt0 : Nat) (k0 : Nat) (a0 : Nat) (hkM : k0 ≤ M) (haM : a0 ≤ M) (ha : ∀ i : Nat, i < a0 → k0 < M → w i < w k0 + d1) (hku : ∀ i : Nat, i < k0 → w i + d1 ≤ u), M + 1 - k0 < tt0 → ZE (d + 1) M_Smo_couplesUpTo (gw G A) 8 [(2, h), (0, (d1 : Int)), (0, (u : Int)), (0, (cnt (fun i => smB S (w i + d1)) k0 : Int)), (0, (a0 : Int)), (0, (k0 : Int)), (9, 0)] [] P := by
    intro tt0
    induction tt0 with
    | zero => intro k0 a0 hkM haM ha hku hm; exact absurd hm (Nat.not_lt_zero _)
    | succ tt0 ih =>
      intro k0 a0 hkM haM ha hku hm
      refine ZE.iload d_Smo_couplesUpTo_8 rfl ?_
      refine ZE.aload_n d_Smo_couplesUpTo_10 rfl ?_
      refine ZE.getE (v := (M : Int)) d_Smo_couplesUpTo_11 f_Smo_43 (tg := 0) rfl hK.1 hQ.2.2.1 ?_
      refine ZE.icmp_ge (tgt := 90) d_Smo_couplesUpTo_14 rfl (by unfold zR; omega) (by unfold zR; omega) (fun c14 => ?_) (fun c14 => ?_)
      · refine ZE.iload_n d_Smo_couplesUpTo_90 rfl ?_
        refine ZE.iret d_Smo_couplesUpTo_91 rfl ?_
        have hap : cnt (apB S d1) (u - d1) = cnt (fun i => smB S (w i + d1)) k0 := cntW (g := fun q => smB S (q + d1)) hSL.2.2.2 (u - d1) (by omega) (by omega) k0 hkM (fun i hi => by have := hku i hi; omega) (fun i hi hi2 => ?_)
        · rw [hap] at k; exact k
        · have h1 := hSL.le hi2
          rcases Nat.eq_or_lt_of_le hi with z | z
          · subst z; omega
          · have := hSL.inc z hi2; omega
      · refine ZE.aload_n d_Smo_couplesUpTo_17 rfl ?_
        refine ZE.iload d_Smo_couplesUpTo_18 rfl ?_
        refine ZE.cV [(0, (k0 : Int))] [] [(2, h), (0, (k0 : Int))] d_Smo_couplesUpTo_20 l_Smo_65 rfl rfl rfl rfl rfl rfl hK.1 ?_
        refine m_valueAt (d := d) hK hQ.1 hQ.2.2.1 hM16 hQ.2.2.2.2.1 (i := (k0 : Int)) (by unfold zR; omega) ?_
        show ZE (d + 1) M_Smo_couplesUpTo (gw G A) 23 [(2, h), (0, (d1 : Int)), (0, (u : Int)), (0, (cnt (fun i => smB S (w i + d1)) k0 : Int)), (0, (a0 : Int)), (0, (k0 : Int)), (9, 0)] [(0, vlF w M (k0 : Int))] _
        rw [vlF_y (show k0 < M by omega)]
        have hwk := hSL.le (j := k0) (by omega)
        refine ZE.iload_n d_Smo_couplesUpTo_23 rfl ?_
        refine ZE.iadd d_Smo_couplesUpTo_24 ?_
        rw [show ((w k0 : Int) + (d1 : Int) : Int) = ((w k0 + d1 : Nat) : Int) from (by omega)]
        refine ZE.iload_n d_Smo_couplesUpTo_25 rfl ?_
        refine ZE.icmp_gt (tgt := 90) d_Smo_couplesUpTo_26 rfl (by unfold zR; omega) (by unfold zR; omega) (fun c26 => ?_) (fun c26 => ?_)
        · refine ZE.iload_n d_Smo_couplesUpTo_90 rfl ?_
          refine ZE.iret d_Smo_couplesUpTo_91 rfl ?_
          have hap : cnt (apB S d1) (u - d1) = cnt (fun i => smB S (w i + d1)) k0 := cntW (g := fun q => smB S (q + d1)) hSL.2.2.2 (u - d1) (by omega) (by omega) k0 hkM (fun i hi => by have := hku i hi; omega) (fun i hi hi2 => ?_)
          · rw [hap] at k; exact k
          · have h1 := hSL.le hi2
            rcases Nat.eq_or_lt_of_le hi with z | z
            · subst z; omega
            · have := hSL.inc z hi2; omega
        · refine ZE.aload_n d_Smo_couplesUpTo_29 rfl ?_
          refine ZE.iload d_Smo_couplesUpTo_30 rfl ?_
          refine ZE.cV [(0, (k0 : Int))] [] [(2, h), (0, (k0 : Int))] d_Smo_couplesUpTo_32 l_Smo_65 rfl rfl rfl rfl rfl rfl hK.1 ?_
          refine m_valueAt (d := d) hK hQ.1 hQ.2.2.1 hM16 hQ.2.2.2.2.1 (i := (k0 : Int)) (by unfold zR; omega) ?_
          show ZE (d + 1) M_Smo_couplesUpTo (gw G A) 35 [(2, h), (0, (d1 : Int)), (0, (u : Int)), (0, (cnt (fun i => smB S (w i + d1)) k0 : Int)), (0, (a0 : Int)), (0, (k0 : Int)), (9, 0)] [(0, vlF w M (k0 : Int))] _
          rw [vlF_y (show k0 < M by omega)]
          refine ZE.iload_n d_Smo_couplesUpTo_35 rfl ?_
          refine ZE.iadd d_Smo_couplesUpTo_36 ?_
          rw [show ((w k0 : Int) + (d1 : Int) : Int) = ((w k0 + d1 : Nat) : Int) from (by omega)]
          refine ZE.istore (ls2 := [(2, h), (0, (d1 : Int)), (0, (u : Int)), (0, (cnt (fun i => smB S (w i + d1)) k0 : Int)), (0, (a0 : Int)), (0, (k0 : Int)), (0, ((w k0 + d1 : Nat) : Int))]) d_Smo_couplesUpTo_37 (Nat.le_of_ble_eq_true rfl) rfl ?_
          have L39 : ∀ (tt0 : Nat) (a1 : Nat) (ha1M : a1 ≤ M) (ha1 : ∀ i : Nat, i < a1 → w i < w k0 + d1), M + 1 - a1 < tt0 → ZE (d + 1) M_Smo_couplesUpTo (gw G A) 39 [(2, h), (0, (d1 : Int)), (0, (u : Int)), (0, (cnt (fun i => smB S (w i + d1)) k0 : Int)), (0, (a1 : Int)), (0, (k0 : Int)), (0, ((w k0 + d1 : Nat) : Int))] [] P := by
            intro tt0
            induction tt0 with
            | zero => intro a1 ha1M ha1 hm; exact absurd hm (Nat.not_lt_zero _)
            | succ tt0 ih2 =>
              intro a1 ha1M ha1 hm
              refine ZE.iload d_Smo_couplesUpTo_39 rfl ?_
              refine ZE.aload_n d_Smo_couplesUpTo_41 rfl ?_
              refine ZE.getE (v := (M : Int)) d_Smo_couplesUpTo_42 f_Smo_43 (tg := 0) rfl hK.1 hQ.2.2.1 ?_
              refine ZE.icmp_ge (tgt := 65) d_Smo_couplesUpTo_45 rfl (by unfold zR; omega) (by unfold zR; omega) (fun c45 => ?_) (fun c45 => ?_)
              · have hfd := hSL.find (o := w k0 + d1) (a := a1) (by have := hSL.le (j := k0) (by omega); omega) ha1 (fun z => by first | omega | exact absurd z (by omega))
                refine ZE.iload_n d_Smo_couplesUpTo_65 rfl ?_
                refine ZE.aload_n d_Smo_couplesUpTo_66 rfl ?_
                refine ZE.iload d_Smo_couplesUpTo_67 rfl ?_
                refine ZE.cV [(0, (a1 : Int))] [(0, (cnt (fun i => smB S (w i + d1)) k0 : Int))] [(2, h), (0, (a1 : Int))] d_Smo_couplesUpTo_69 l_Smo_65 rfl rfl rfl rfl rfl rfl hK.1 ?_
                refine m_valueAt (d := d) hK hQ.1 hQ.2.2.1 hM16 hQ.2.2.2.2.1 (i := (a1 : Int)) (by unfold zR; omega) ?_
                show ZE (d + 1) M_Smo_couplesUpTo (gw G A) 72 [(2, h), (0, (d1 : Int)), (0, (u : Int)), (0, (cnt (fun i => smB S (w i + d1)) k0 : Int)), (0, (a1 : Int)), (0, (k0 : Int)), (0, ((w k0 + d1 : Nat) : Int))] [(0, vlF w M (a1 : Int)), (0, (cnt (fun i => smB S (w i + d1)) k0 : Int))] _
                have hvR : zR (vlF w M (a1 : Int)) := by
                  by_cases z : a1 < M
                  · rw [vlF_y z]; have := hSL.le z; unfold zR; omega
                  · rw [vlF_n z]; unfold zR; omega
                refine ZE.iload d_Smo_couplesUpTo_72 rfl ?_
                refine ZE.icmp_ne (tgt := 81) d_Smo_couplesUpTo_74 rfl hvR (by unfold zR; omega) (fun c74 => ?_) (fun c74 => ?_)
                · refine ZE.iconst (n := 0) d_Smo_couplesUpTo_81 ?_
                  refine ZE.iadd d_Smo_couplesUpTo_82 ?_
                  rw [show ((cnt (fun i => smB S (w i + d1)) k0 : Int) + 0 : Int) = (cnt (fun i => smB S (w i + d1)) (k0 + 1) : Int) from (by rw [show cnt (fun i => smB S (w i + d1)) (k0 + 1) = cnt (fun i => smB S (w i + d1)) k0 from if_neg (fun q => by have := hfd.mpr q; omega)]; omega)]
                  refine ZE.istore_n (ls2 := [(2, h), (0, (d1 : Int)), (0, (u : Int)), (0, (cnt (fun i => smB S (w i + d1)) (k0 + 1) : Int)), (0, (a1 : Int)), (0, (k0 : Int)), (0, ((w k0 + d1 : Nat) : Int))]) d_Smo_couplesUpTo_83 (Nat.le_of_ble_eq_true rfl) rfl ?_
                  refine ZE.iinc (ls2 := [(2, h), (0, (d1 : Int)), (0, (u : Int)), (0, (cnt (fun i => smB S (w i + d1)) (k0 + 1) : Int)), (0, (a1 : Int)), (0, (k0 : Int) + 1), (0, ((w k0 + d1 : Nat) : Int))]) d_Smo_couplesUpTo_84 rfl rfl ?_
                  refine ZE.goto (tgt := 8) d_Smo_couplesUpTo_87 rfl ?_
                  refine ZE.mask [true, true, true, true, true, true, false] ?_
                  show ZE (d + 1) M_Smo_couplesUpTo (gw G A) 8 [(2, h), (0, (d1 : Int)), (0, (u : Int)), (0, (cnt (fun i => smB S (w i + d1)) (k0 + 1) : Int)), (0, (a1 : Int)), (0, (k0 : Int) + 1), (9, 0)] [] _
                  rw [show (k0 : Int) + 1 = ((k0 + 1 : Nat) : Int) by omega]
                  refine ih (k0 + 1) a1 (by omega) ha1M (fun i hi hi2 => ?_) (fun i hi => ?_) (by omega)
                  · have h1 := ha1 i hi
                    have h2 := hSL.inc (show k0 < k0 + 1 by omega) hi2
                    omega
                  · rcases Nat.lt_or_ge i k0 with z | z
                    · exact hku i z
                    · have : i = k0 := by omega
                      subst this; omega
                · refine ZE.iconst (n := 1) d_Smo_couplesUpTo_77 ?_
                  refine ZE.goto (tgt := 82) d_Smo_couplesUpTo_78 rfl ?_
                  refine ZE.iadd d_Smo_couplesUpTo_82 ?_
                  rw [show ((cnt (fun i => smB S (w i + d1)) k0 : Int) + 1 : Int) = (cnt (fun i => smB S (w i + d1)) (k0 + 1) : Int) from (by rw [show cnt (fun i => smB S (w i + d1)) (k0 + 1) = cnt (fun i => smB S (w i + d1)) k0 + 1 from if_pos (hfd.mp (by omega))]; omega)]
                  refine ZE.istore_n (ls2 := [(2, h), (0, (d1 : Int)), (0, (u : Int)), (0, (cnt (fun i => smB S (w i + d1)) (k0 + 1) : Int)), (0, (a1 : Int)), (0, (k0 : Int)), (0, ((w k0 + d1 : Nat) : Int))]) d_Smo_couplesUpTo_83 (Nat.le_of_ble_eq_true rfl) rfl ?_
                  refine ZE.iinc (ls2 := [(2, h), (0, (d1 : Int)), (0, (u : Int)), (0, (cnt (fun i => smB S (w i + d1)) (k0 + 1) : Int)), (0, (a1 : Int)), (0, (k0 : Int) + 1), (0, ((w k0 + d1 : Nat) : Int))]) d_Smo_couplesUpTo_84 rfl rfl ?_
                  refine ZE.goto (tgt := 8) d_Smo_couplesUpTo_87 rfl ?_
                  refine ZE.mask [true, true, true, true, true, true, false] ?_
                  show ZE (d + 1) M_Smo_couplesUpTo (gw G A) 8 [(2, h), (0, (d1 : Int)), (0, (u : Int)), (0, (cnt (fun i => smB S (w i + d1)) (k0 + 1) : Int)), (0, (a1 : Int)), (0, (k0 : Int) + 1), (9, 0)] [] _
                  rw [show (k0 : Int) + 1 = ((k0 + 1 : Nat) : Int) by omega]
                  refine ih (k0 + 1) a1 (by omega) ha1M (fun i hi hi2 => ?_) (fun i hi => ?_) (by omega)
                  · have h1 := ha1 i hi
                    have h2 := hSL.inc (show k0 < k0 + 1 by omega) hi2
                    omega
                  · rcases Nat.lt_or_ge i k0 with z | z
                    · exact hku i z
                    · have : i = k0 := by omega
                      subst this; omega
              · refine ZE.aload_n d_Smo_couplesUpTo_48 rfl ?_
                refine ZE.iload d_Smo_couplesUpTo_49 rfl ?_
                refine ZE.cV [(0, (a1 : Int))] [] [(2, h), (0, (a1 : Int))] d_Smo_couplesUpTo_51 l_Smo_65 rfl rfl rfl rfl rfl rfl hK.1 ?_
                refine m_valueAt (d := d) hK hQ.1 hQ.2.2.1 hM16 hQ.2.2.2.2.1 (i := (a1 : Int)) (by unfold zR; omega) ?_
                show ZE (d + 1) M_Smo_couplesUpTo (gw G A) 54 [(2, h), (0, (d1 : Int)), (0, (u : Int)), (0, (cnt (fun i => smB S (w i + d1)) k0 : Int)), (0, (a1 : Int)), (0, (k0 : Int)), (0, ((w k0 + d1 : Nat) : Int))] [(0, vlF w M (a1 : Int))] _
                rw [vlF_y (show a1 < M by omega)]
                have hwa := hSL.le (j := a1) (by omega)
                refine ZE.iload d_Smo_couplesUpTo_54 rfl ?_
                refine ZE.icmp_ge (tgt := 65) d_Smo_couplesUpTo_56 rfl (by unfold zR; omega) (by unfold zR; omega) (fun c56 => ?_) (fun c56 => ?_)
                · have hfd := hSL.find (o := w k0 + d1) (a := a1) (by have := hSL.le (j := k0) (by omega); omega) ha1 (fun z => by first | omega | exact absurd z (by omega))
                  refine ZE.iload_n d_Smo_couplesUpTo_65 rfl ?_
                  refine ZE.aload_n d_Smo_couplesUpTo_66 rfl ?_
                  refine ZE.iload d_Smo_couplesUpTo_67 rfl ?_
                  refine ZE.cV [(0, (a1 : Int))] [(0, (cnt (fun i => smB S (w i + d1)) k0 : Int))] [(2, h), (0, (a1 : Int))] d_Smo_couplesUpTo_69 l_Smo_65 rfl rfl rfl rfl rfl rfl hK.1 ?_
                  refine m_valueAt (d := d) hK hQ.1 hQ.2.2.1 hM16 hQ.2.2.2.2.1 (i := (a1 : Int)) (by unfold zR; omega) ?_
                  show ZE (d + 1) M_Smo_couplesUpTo (gw G A) 72 [(2, h), (0, (d1 : Int)), (0, (u : Int)), (0, (cnt (fun i => smB S (w i + d1)) k0 : Int)), (0, (a1 : Int)), (0, (k0 : Int)), (0, ((w k0 + d1 : Nat) : Int))] [(0, vlF w M (a1 : Int)), (0, (cnt (fun i => smB S (w i + d1)) k0 : Int))] _
                  have hvR : zR (vlF w M (a1 : Int)) := by
                    by_cases z : a1 < M
                    · rw [vlF_y z]; have := hSL.le z; unfold zR; omega
                    · rw [vlF_n z]; unfold zR; omega
                  refine ZE.iload d_Smo_couplesUpTo_72 rfl ?_
                  refine ZE.icmp_ne (tgt := 81) d_Smo_couplesUpTo_74 rfl hvR (by unfold zR; omega) (fun c74 => ?_) (fun c74 => ?_)
                  · refine ZE.iconst (n := 0) d_Smo_couplesUpTo_81 ?_
                    refine ZE.iadd d_Smo_couplesUpTo_82 ?_
                    rw [show ((cnt (fun i => smB S (w i + d1)) k0 : Int) + 0 : Int) = (cnt (fun i => smB S (w i + d1)) (k0 + 1) : Int) from (by rw [show cnt (fun i => smB S (w i + d1)) (k0 + 1) = cnt (fun i => smB S (w i + d1)) k0 from if_neg (fun q => by have := hfd.mpr q; omega)]; omega)]
                    refine ZE.istore_n (ls2 := [(2, h), (0, (d1 : Int)), (0, (u : Int)), (0, (cnt (fun i => smB S (w i + d1)) (k0 + 1) : Int)), (0, (a1 : Int)), (0, (k0 : Int)), (0, ((w k0 + d1 : Nat) : Int))]) d_Smo_couplesUpTo_83 (Nat.le_of_ble_eq_true rfl) rfl ?_
                    refine ZE.iinc (ls2 := [(2, h), (0, (d1 : Int)), (0, (u : Int)), (0, (cnt (fun i => smB S (w i + d1)) (k0 + 1) : Int)), (0, (a1 : Int)), (0, (k0 : Int) + 1), (0, ((w k0 + d1 : Nat) : Int))]) d_Smo_couplesUpTo_84 rfl rfl ?_
                    refine ZE.goto (tgt := 8) d_Smo_couplesUpTo_87 rfl ?_
                    refine ZE.mask [true, true, true, true, true, true, false] ?_
                    show ZE (d + 1) M_Smo_couplesUpTo (gw G A) 8 [(2, h), (0, (d1 : Int)), (0, (u : Int)), (0, (cnt (fun i => smB S (w i + d1)) (k0 + 1) : Int)), (0, (a1 : Int)), (0, (k0 : Int) + 1), (9, 0)] [] _
                    rw [show (k0 : Int) + 1 = ((k0 + 1 : Nat) : Int) by omega]
                    refine ih (k0 + 1) a1 (by omega) ha1M (fun i hi hi2 => ?_) (fun i hi => ?_) (by omega)
                    · have h1 := ha1 i hi
                      have h2 := hSL.inc (show k0 < k0 + 1 by omega) hi2
                      omega
                    · rcases Nat.lt_or_ge i k0 with z | z
                      · exact hku i z
                      · have : i = k0 := by omega
                        subst this; omega
                  · refine ZE.iconst (n := 1) d_Smo_couplesUpTo_77 ?_
                    refine ZE.goto (tgt := 82) d_Smo_couplesUpTo_78 rfl ?_
                    refine ZE.iadd d_Smo_couplesUpTo_82 ?_
                    rw [show ((cnt (fun i => smB S (w i + d1)) k0 : Int) + 1 : Int) = (cnt (fun i => smB S (w i + d1)) (k0 + 1) : Int) from (by rw [show cnt (fun i => smB S (w i + d1)) (k0 + 1) = cnt (fun i => smB S (w i + d1)) k0 + 1 from if_pos (hfd.mp (by omega))]; omega)]
                    refine ZE.istore_n (ls2 := [(2, h), (0, (d1 : Int)), (0, (u : Int)), (0, (cnt (fun i => smB S (w i + d1)) (k0 + 1) : Int)), (0, (a1 : Int)), (0, (k0 : Int)), (0, ((w k0 + d1 : Nat) : Int))]) d_Smo_couplesUpTo_83 (Nat.le_of_ble_eq_true rfl) rfl ?_
                    refine ZE.iinc (ls2 := [(2, h), (0, (d1 : Int)), (0, (u : Int)), (0, (cnt (fun i => smB S (w i + d1)) (k0 + 1) : Int)), (0, (a1 : Int)), (0, (k0 : Int) + 1), (0, ((w k0 + d1 : Nat) : Int))]) d_Smo_couplesUpTo_84 rfl rfl ?_
                    refine ZE.goto (tgt := 8) d_Smo_couplesUpTo_87 rfl ?_
                    refine ZE.mask [true, true, true, true, true, true, false] ?_
                    show ZE (d + 1) M_Smo_couplesUpTo (gw G A) 8 [(2, h), (0, (d1 : Int)), (0, (u : Int)), (0, (cnt (fun i => smB S (w i + d1)) (k0 + 1) : Int)), (0, (a1 : Int)), (0, (k0 : Int) + 1), (9, 0)] [] _
                    rw [show (k0 : Int) + 1 = ((k0 + 1 : Nat) : Int) by omega]
                    refine ih (k0 + 1) a1 (by omega) ha1M (fun i hi hi2 => ?_) (fun i hi => ?_) (by omega)
                    · have h1 := ha1 i hi
                      have h2 := hSL.inc (show k0 < k0 + 1 by omega) hi2
                      omega
                    · rcases Nat.lt_or_ge i k0 with z | z
                      · exact hku i z
                      · have : i = k0 := by omega
                        subst this; omega
                · refine ZE.iinc (ls2 := [(2, h), (0, (d1 : Int)), (0, (u : Int)), (0, (cnt (fun i => smB S (w i + d1)) k0 : Int)), (0, (a1 : Int) + 1), (0, (k0 : Int)), (0, ((w k0 + d1 : Nat) : Int))]) d_Smo_couplesUpTo_59 rfl rfl ?_
                  refine ZE.goto (tgt := 39) d_Smo_couplesUpTo_62 rfl ?_
                  rw [show (a1 : Int) + 1 = ((a1 + 1 : Nat) : Int) by omega]
                  refine ih2 (a1 + 1) (by omega) (fun i hi => ?_) (by omega)
                  rcases Nat.lt_or_ge i a1 with z | z
                  · exact ha1 i z
                  · have : i = a1 := by omega
                    subst this; omega
          exact L39 _ a0 haM (fun i hi => ha i hi (by omega)) (Nat.lt_succ_self _)
  exact L8 _ 0 0 (Nat.zero_le _) (Nat.zero_le _) (fun i h => absurd h (Nat.not_lt_zero _)) (fun i h => absurd h (Nat.not_lt_zero _)) (Nat.lt_succ_self _)
