theorem sF.ab {A B : Int → Int → Int} {s : Int} {ap : Nat} (h : sF A s ap) (e0 : ∀ i : Int, i ≤ 8 → B s i = A s i) (e : ∀ a : Int, (s + 1 ≤ a ∧ a ≤ s + 9) ∨ a = s + 31 ∨ (s + 33 ≤ a ∧ a ≤ s + 45) → B a = A a) : sF B s ap := by
  obtain ⟨f0, f1, f2, f3, f4, f5, f6, f7, f8, f9, f10, f11⟩ := h
  exact ⟨(e0 _ (by omega)).trans f0, (e0 _ (by omega)).trans f1, (e0 _ (by omega)).trans f2, (e0 _ (by omega)).trans f3, (e0 _ (by omega)).trans f4, (e0 _ (by omega)).trans f5, (e0 _ (by omega)).trans f6, (e0 _ (by omega)).trans f7, (e0 _ (by omega)).trans f8, f9.ab (fun a h1 h2 => e a (by omega)), f10.ab (fun a h1 h2 => e a (by omega)), (congrFun (e _ (by omega)) _).trans f11⟩
theorem jp_congr {p q : Nat → Bool} : ∀ n, (∀ k, k < n → p k = q k) → jp p n = jp q n := by
  intro n
  induction n with
  | zero => intro _; rfl
  | succ n ih =>
    intro h
    unfold jp
    rw [h n (by omega), ih (fun k hk => h k (by omega))]
set_option maxRecDepth 20000 in
set_option maxHeartbeats 4000000 in
theorem s_enterUnit {d : Nat} {G : zG} {A : Int → Int → Int} {P : Option zV → zG → Prop} {s : Int} (hK : sK G s) {ap : Nat} (hF : sF A s ap) {n : Nat} (hn : A s 11 = (n : Int)) (hn2 : n < 32) {v1 : Int} (hv : gk G v1 = 19) (hv0 : 0 ≤ v1) {q1 : Nat} (hq : A v1 2 = (q1 : Int)) (hqr : q1 < 2147483648) {qL : Nat → Nat} (vs : ∀ k : Nat, k < n → 0 ≤ A (s + 29) k ∧ gk G (A (s + 29) k) = 19 ∧ A (A (s + 29) k) 2 = (qL k : Int) ∧ qL k < 2147483648) (k : ∀ A2, (∀ a : Int, a ≠ s → a ≠ s + 29 → A2 a = A a) → (∀ i : Int, i ≠ 11 → A2 s i = A s i) → A2 s 11 = (n : Int) + 1 → (∀ q : Nat, q < n + 1 → A2 (s + 29) q = if q < jp (fun k => decide (q1 < qL k)) n then A (s + 29) q else if q = jp (fun k => decide (q1 < qL k)) n then v1 else A (s + 29) ((q - 1 : Nat) : Int)) → P none (gw G A2)) : ZE (d + 1) M_Sea_enterUnit (gw G A) 0 [(2, s), (2, v1), (9, 0)] [] P := by
  have hs0 := hK.2.1
  refine ZE.aload_n d_Sea_enterUnit_0 rfl ?_
  refine ZE.getE (v := (n : Int)) d_Sea_enterUnit_1 f_Sea_79 (tg := 0) rfl hK.1 hn ?_
  refine ZE.istore_n (ls2 := [(2, s), (2, v1), (0, (n : Int))]) d_Sea_enterUnit_4 (Nat.le_of_ble_eq_true rfl) rfl ?_
  refine ZE.iload_n d_Sea_enterUnit_5 rfl ?_
  refine ZE.if_lt (tgt := 18) d_Sea_enterUnit_6 rfl (by unfold zR; omega) (fun c6 => ?_) (fun c6 => ?_)
  · exact absurd c6 (by omega)
  · refine ZE.iload_n d_Sea_enterUnit_9 rfl ?_
    refine ZE.aload_n d_Sea_enterUnit_10 rfl ?_
    refine ZE.getE (v := s + 29) d_Sea_enterUnit_11 f_Sea_45 (tg := 2) rfl hK.1 hF.2.2.2.2.1 ?_
    refine ZE.alenE (v := 32) d_Sea_enterUnit_14 (by have hk0 := hK.2.2.2.2.1.1; show 1 ≤ gk G (s + 29) ∧ gk G (s + 29) ≤ 6; omega) hK.2.2.2.2.1.2 ?_
    refine ZE.icmp_lt (tgt := 19) d_Sea_enterUnit_15 rfl (by unfold zR; omega) (by unfold zR; omega) (fun c15 => ?_) (fun c15 => ?_)
    · have L19 : ∀ (tt0 : Nat) (j : Nat) (A1 : Int → Int → Int) (hj : j ≤ n) (hjp : jp (fun k => decide (q1 < qL k)) n = jp (fun k => decide (q1 < qL k)) j) (g1 : ∀ a : Int, a ≠ s + 29 → A1 a = A a) (r1 : ∀ q : Nat, q < j → A1 (s + 29) q = A (s + 29) q) (r2 : ∀ q : Nat, j < q → q ≤ n → A1 (s + 29) q = A (s + 29) ((q - 1 : Nat) : Int)), j + 1 < tt0 → ZE (d + 1) M_Sea_enterUnit (gw G A1) 19 [(2, s), (2, v1), (0, (j : Int))] [] P := by
        intro tt0
        induction tt0 with
        | zero => intro j A1 hj hjp g1 r1 r2 hm; exact absurd hm (Nat.not_lt_zero _)
        | succ tt0 ih =>
          intro j A1 hj hjp g1 r1 r2 hm
          have hF1 : sF A1 s ap := hF.ab (fun i _ => congrFun (g1 s (by omega)) _) (fun a ha => g1 a (by omega))
          have hn1 : A1 s 11 = (n : Int) := (congrFun (g1 s (by omega)) _).trans hn
          have hq1 : A1 v1 2 = (q1 : Int) := (congrFun (g1 v1 (fun z => by rw [z] at hv; have := hK.2.2.2.2.1.1; omega)) _).trans hq
          have hs4 := hF1.2.2.2.2.1
          refine ZE.iload_n d_Sea_enterUnit_19 rfl ?_
          refine ZE.if_le (tgt := 59) d_Sea_enterUnit_20 rfl (by unfold zR; omega) (fun c20 => ?_) (fun c20 => ?_)
          · have hjq : 0 < j → ¬ q1 < qL (j - 1) := by omega
            refine ZE.aload_n d_Sea_enterUnit_59 rfl ?_
            refine ZE.getE (v := s + 29) d_Sea_enterUnit_60 f_Sea_45 (tg := 2) rfl hK.1 hs4 ?_
            refine ZE.iload_n d_Sea_enterUnit_63 rfl ?_
            refine ZE.aload_n d_Sea_enterUnit_64 rfl ?_
            refine ZE.aast d_Sea_enterUnit_65 hK.2.2.2.2.1.1 (by omega) (by have hn0 := hK.2.2.2.2.1.2; show 0 ≤ (j : Int) ∧ (j : Int) < gn G (s + 29); omega) hv ?_
            show ZE (d + 1) M_Sea_enterUnit (gw G (up2 A1 (s + 29) (j : Int) v1)) 66 [(2, s), (2, v1), (0, (j : Int))] [] _
            refine ZE.aload_n d_Sea_enterUnit_66 rfl ?_
            refine ZE.dup d_Sea_enterUnit_67 (Or.inr rfl) ?_
            refine ZE.getE (v := (n : Int)) d_Sea_enterUnit_68 f_Sea_79 (tg := 0) rfl hK.1 ((up2_ne _ _ (by omega)).trans hn1) ?_
            refine ZE.iconst (n := 1) d_Sea_enterUnit_71 ?_
            refine ZE.iadd d_Sea_enterUnit_72 ?_
            refine ZE.put d_Sea_enterUnit_73 f_Sea_79 (tg := 0) rfl trivial (Or.inl ⟨_, _, _, rfl, rfl, rfl⟩) hK.1 ?_
            show ZE (d + 1) M_Sea_enterUnit (gw G (up2 (up2 A1 (s + 29) (j : Int) v1) s 11 ((n : Int) + 1))) 76 [(2, s), (2, v1), (0, (j : Int))] [] _
            refine ZE.vret d_Sea_enterUnit_76 rfl ?_
            have hjf : jp (fun k => decide (q1 < qL k)) n = j := by
              rw [hjp]
              rcases Nat.eq_zero_or_pos j with z | z
              · subst z; rfl
              · obtain ⟨j2, rfl⟩ : ∃ j2, j = j2 + 1 := ⟨j - 1, by omega⟩
                exact jp_f (decide_eq_false (hjq (by omega)))
            refine k _ (fun a h1 h2 => ?_) (fun i hi => ?_) (up2_at _ _ _ _) (fun q hq => ?_)
            · rw [up2_A, upA_ne _ _ h1, up2_A, upA_ne _ _ h2]; exact g1 a h2
            · rw [up2_ne _ _ (by omega), up2_ne _ _ (by omega)]; exact congrFun (g1 s (by omega)) _
            · rw [up2_ne _ _ (by omega), hjf]
              by_cases e1 : q < j
              · rw [if_pos e1, up2_ne _ _ (by omega)]; exact r1 q e1
              · rw [if_neg e1]
                by_cases e2 : q = j
                · subst e2; rw [if_pos rfl, up2_at]
                · rw [if_neg e2, up2_ne _ _ (by omega)]; exact r2 q (by omega) (by omega)
          · refine ZE.aload_n d_Sea_enterUnit_23 rfl ?_
            refine ZE.iload_n d_Sea_enterUnit_24 rfl ?_
            refine ZE.iconst (n := 1) d_Sea_enterUnit_25 ?_
            refine ZE.isub d_Sea_enterUnit_26 ?_
            rw [show ((j : Int) - 1 : Int) = ((j - 1 : Nat) : Int) from (by omega)]
            have hvj := vs (j - 1) (by omega)
            refine ZE.cV [(0, ((j - 1 : Nat) : Int))] [] [(2, s), (0, ((j - 1 : Nat) : Int)), (9, 0)] d_Sea_enterUnit_27 l_Sea_97 rfl rfl rfl rfl rfl rfl hK.1 ?_
            refine s_unitAt hK hF1 hn1 (by omega) (k1 := j - 1) (by omega) (v1 := (A (s + 29) ((j - 1 : Nat) : Int))) (r1 (j - 1) (by omega)) hvj.1 ?_
            show ZE (d + 1) M_Sea_enterUnit (gw G A1) 30 [(2, s), (2, v1), (0, (j : Int))] [(2, (A (s + 29) ((j - 1 : Nat) : Int)))] _
            refine ZE.getE (v := (qL (j - 1) : Int)) d_Sea_enterUnit_30 f_Sea_129 (tg := 0) rfl hvj.2.1 ((congrFun (g1 _ (fun z => by have h9 := hvj.2.1; rw [z] at h9; have := hK.2.2.2.2.1.1; omega)) _).trans hvj.2.2.1) ?_
            refine ZE.aload_n d_Sea_enterUnit_33 rfl ?_
            refine ZE.getE (v := (q1 : Int)) d_Sea_enterUnit_34 f_Sea_129 (tg := 0) rfl hv hq1 ?_
            refine ZE.icmp_le (tgt := 59) d_Sea_enterUnit_37 rfl (by unfold zR; omega) (by unfold zR; omega) (fun c37 => ?_) (fun c37 => ?_)
            · have hjq : 0 < j → ¬ q1 < qL (j - 1) := by omega
              refine ZE.aload_n d_Sea_enterUnit_59 rfl ?_
              refine ZE.getE (v := s + 29) d_Sea_enterUnit_60 f_Sea_45 (tg := 2) rfl hK.1 hs4 ?_
              refine ZE.iload_n d_Sea_enterUnit_63 rfl ?_
              refine ZE.aload_n d_Sea_enterUnit_64 rfl ?_
              refine ZE.aast d_Sea_enterUnit_65 hK.2.2.2.2.1.1 (by omega) (by have hn0 := hK.2.2.2.2.1.2; show 0 ≤ (j : Int) ∧ (j : Int) < gn G (s + 29); omega) hv ?_
              show ZE (d + 1) M_Sea_enterUnit (gw G (up2 A1 (s + 29) (j : Int) v1)) 66 [(2, s), (2, v1), (0, (j : Int))] [] _
              refine ZE.aload_n d_Sea_enterUnit_66 rfl ?_
              refine ZE.dup d_Sea_enterUnit_67 (Or.inr rfl) ?_
              refine ZE.getE (v := (n : Int)) d_Sea_enterUnit_68 f_Sea_79 (tg := 0) rfl hK.1 ((up2_ne _ _ (by omega)).trans hn1) ?_
              refine ZE.iconst (n := 1) d_Sea_enterUnit_71 ?_
              refine ZE.iadd d_Sea_enterUnit_72 ?_
              refine ZE.put d_Sea_enterUnit_73 f_Sea_79 (tg := 0) rfl trivial (Or.inl ⟨_, _, _, rfl, rfl, rfl⟩) hK.1 ?_
              show ZE (d + 1) M_Sea_enterUnit (gw G (up2 (up2 A1 (s + 29) (j : Int) v1) s 11 ((n : Int) + 1))) 76 [(2, s), (2, v1), (0, (j : Int))] [] _
              refine ZE.vret d_Sea_enterUnit_76 rfl ?_
              have hjf : jp (fun k => decide (q1 < qL k)) n = j := by
                rw [hjp]
                rcases Nat.eq_zero_or_pos j with z | z
                · subst z; rfl
                · obtain ⟨j2, rfl⟩ : ∃ j2, j = j2 + 1 := ⟨j - 1, by omega⟩
                  exact jp_f (decide_eq_false (hjq (by omega)))
              refine k _ (fun a h1 h2 => ?_) (fun i hi => ?_) (up2_at _ _ _ _) (fun q hq => ?_)
              · rw [up2_A, upA_ne _ _ h1, up2_A, upA_ne _ _ h2]; exact g1 a h2
              · rw [up2_ne _ _ (by omega), up2_ne _ _ (by omega)]; exact congrFun (g1 s (by omega)) _
              · rw [up2_ne _ _ (by omega), hjf]
                by_cases e1 : q < j
                · rw [if_pos e1, up2_ne _ _ (by omega)]; exact r1 q e1
                · rw [if_neg e1]
                  by_cases e2 : q = j
                  · subst e2; rw [if_pos rfl, up2_at]
                  · rw [if_neg e2, up2_ne _ _ (by omega)]; exact r2 q (by omega) (by omega)
            · refine ZE.aload_n d_Sea_enterUnit_40 rfl ?_
              refine ZE.getE (v := s + 29) d_Sea_enterUnit_41 f_Sea_45 (tg := 2) rfl hK.1 hs4 ?_
              refine ZE.iload_n d_Sea_enterUnit_44 rfl ?_
              refine ZE.aload_n d_Sea_enterUnit_45 rfl ?_
              refine ZE.iload_n d_Sea_enterUnit_46 rfl ?_
              refine ZE.iconst (n := 1) d_Sea_enterUnit_47 ?_
              refine ZE.isub d_Sea_enterUnit_48 ?_
              rw [show ((j : Int) - 1 : Int) = ((j - 1 : Nat) : Int) from (by omega)]
              refine ZE.cV [(0, ((j - 1 : Nat) : Int))] [(0, (j : Int)), (2, s + 29)] [(2, s), (0, ((j - 1 : Nat) : Int)), (9, 0)] d_Sea_enterUnit_49 l_Sea_97 rfl rfl rfl rfl rfl rfl hK.1 ?_
              refine s_unitAt hK hF1 hn1 (by omega) (k1 := j - 1) (by omega) (v1 := (A (s + 29) ((j - 1 : Nat) : Int))) (r1 (j - 1) (by omega)) hvj.1 ?_
              show ZE (d + 1) M_Sea_enterUnit (gw G A1) 52 [(2, s), (2, v1), (0, (j : Int))] [(2, (A (s + 29) ((j - 1 : Nat) : Int))), (0, (j : Int)), (2, s + 29)] _
              refine ZE.aast d_Sea_enterUnit_52 hK.2.2.2.2.1.1 (by omega) (by have hn0 := hK.2.2.2.2.1.2; show 0 ≤ (j : Int) ∧ (j : Int) < gn G (s + 29); omega) hvj.2.1 ?_
              show ZE (d + 1) M_Sea_enterUnit (gw G (up2 A1 (s + 29) (j : Int) (A (s + 29) ((j - 1 : Nat) : Int)))) 53 [(2, s), (2, v1), (0, (j : Int))] [] _
              refine ZE.iinc (ls2 := [(2, s), (2, v1), (0, (j : Int) + (-1))]) d_Sea_enterUnit_53 rfl rfl ?_
              refine ZE.goto (tgt := 19) d_Sea_enterUnit_56 rfl ?_
              rw [show (j : Int) + (-1) = ((j - 1 : Nat) : Int) by omega]
              refine ih (j - 1) _ (by omega) ?_ (fun a ha => ?_) (fun q hq => ?_) (fun q hq1 hq2 => ?_) (by omega)
              · rw [hjp]
                obtain ⟨j2, rfl⟩ : ∃ j2, j = j2 + 1 := ⟨j - 1, by omega⟩
                rw [Nat.add_sub_cancel]
                exact jp_t (decide_eq_true (by rw [Nat.add_sub_cancel] at c37; omega))
              · rw [up2_A, upA_ne _ _ ha]; exact g1 a ha
              · rw [up2_ne _ _ (by omega)]; exact r1 q (by omega)
              · by_cases e : q = j
                · subst e; rw [up2_at]
                · rw [up2_ne _ _ (by omega)]; exact r2 q (by omega) hq2
      exact L19 _ n A (Nat.le_refl _) rfl (fun _ _ => rfl) (fun _ _ => rfl) (fun q h1 h2 => by omega) (Nat.lt_succ_self _)
    · exact absurd c15 (by omega)
