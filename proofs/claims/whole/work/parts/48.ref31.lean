def enE (S : Nat) : Nat → Nat → Nat
  | e1, 0 => e1
  | e1, f + 1 => if e1 + 1 < (prs S).length ∧ pN S (e1 + 1) = pN S e1 + 1 then enE S (e1 + 1) f else e1
def rnL (S : Nat) : Nat → Nat → List (Nat × Nat)
  | _, 0 => []
  | k, f + 1 => if k < (prs S).length then (if k < enE S k (prs S).length then (k, enE S k (prs S).length - k + 2) :: rnL S (enE S k (prs S).length + 1) f else rnL S (enE S k (prs S).length + 1) f) else []
def rnS (S : Nat) : List (Nat × Nat) := rnL S 0 (prs S).length
theorem rnL_nil {S k : Nat} (h : (prs S).length ≤ k) : ∀ f, rnL S k f = [] := by
  intro f
  cases f with
  | zero => rfl
  | succ f => exact if_neg (by omega)
theorem rnL_len {S : Nat} : ∀ f k, (rnL S k f).length ≤ f := by
  intro f
  induction f with
  | zero => intro k; exact Nat.le_refl _
  | succ f ih =>
    intro k
    unfold rnL
    split
    · split
      · have := ih (enE S k (prs S).length + 1); rw [List.length_cons]; omega
      · have := ih (enE S k (prs S).length + 1); omega
    · exact Nat.zero_le _
theorem quF.fd {A B : Int → Int → Int} {o i v : Int} (a : quF A B o) (hi : i = 20 ∨ i = 21) : quF A (up2 B o i v) o := ⟨fun b h1 h2 h3 h4 => by rw [up2_A, upA_ne _ _ h1]; exact a.1 b h1 h2 h3 h4, fun j h1 h2 h3 => by rw [up2_ne _ _ (by omega)]; exact a.2.1 j h1 h2 h3, by rw [up2_A, upA_ne _ _ (by omega)]; exact a.2.2⟩
theorem enE_stop {S e1 f : Nat} (h : ¬ (e1 + 1 < (prs S).length ∧ pN S (e1 + 1) = pN S e1 + 1)) : enE S e1 f = e1 := by
  cases f with
  | zero => rfl
  | succ f => exact if_neg h
set_option maxRecDepth 20000 in
set_option maxHeartbeats 4000000 in
theorem r_layRuns {d : Nat} {G : zG} {A : Int → Int → Int} {P : Option zV → zG → Prop} {o : Int} (hK : RK G o) (hF : RF A o) {S : Nat} (hR : RS S A o) (hS7 : S < 128) (hp5 : pop S ≤ 5) {i : Int} (hi : zR i) (k : ∀ A2, quF A A2 o → (∀ m : Nat, i = (m : Int) → m < (rnS S).length → A2 o 20 = (((rnS S).getD m (0, 0)).1 : Int) ∧ A2 o 21 = (((rnS S).getD m (0, 0)).2 : Int)) → P (some (0, ((rnS S).length : Int))) (gw G A2)) : ZE d M_Ref_layRuns (gw G A) 0 [(2, o), (0, i), (9, 0), (9, 0), (9, 0)] [] P := by
  have hpl := prs_288 hS7 hp5
  refine ZE.iconst (n := 0) d_Ref_layRuns_0 ?_
  refine ZE.istore_n (ls2 := [(2, o), (0, i), (0, 0), (9, 0), (9, 0)]) d_Ref_layRuns_1 (Nat.le_of_ble_eq_true rfl) rfl ?_
  refine ZE.iconst (n := 0) d_Ref_layRuns_2 ?_
  refine ZE.istore_n (ls2 := [(2, o), (0, i), (0, 0), (0, 0), (9, 0)]) d_Ref_layRuns_3 (Nat.le_of_ble_eq_true rfl) rfl ?_
  have L4 : ∀ (t : Nat) (k0 : Nat) (n : Nat) (f0 : Nat) (L0 : List (Nat × Nat)) (A1 : Int → Int → Int) (hkf : (prs S).length ≤ k0 + f0) (hkl : n ≤ k0 ∧ k0 ≤ (prs S).length) (hL : rnS S = L0 ++ rnL S k0 f0) (hLn : L0.length = n) (g1 : quF A A1 o) (hfi : (∀ m : Nat, i = (m : Int) → m < n → A1 o 20 = (((rnS S).getD m (0, 0)).1 : Int) ∧ A1 o 21 = (((rnS S).getD m (0, 0)).2 : Int))), (prs S).length - k0 < t → ZE d M_Ref_layRuns (gw G A1) 4 [(2, o), (0, i), (0, (n : Int)), (0, (k0 : Int)), (9, 0)] [] P := by
    intro t
    induction t with
    | zero => intro k0 n f0 L0 A1 hkf hkl hL hLn g1 hfi hm; exact absurd hm (Nat.not_lt_zero _)
    | succ t ih =>
      intro k0 n f0 L0 A1 hkf hkl hL hLn g1 hfi hm
      have ihO := ih
      have hmO := hm
      have hA1 : RF A1 o := hF.qu g1
      have hRA1 : RS S A1 o := hR.qu g1 hS7 hp5
      rcases Nat.lt_or_ge k0 (prs S).length with hk | hk
      · obtain ⟨f, rfl⟩ : ∃ f, f0 = f + 1 := ⟨f0 - 1, by omega⟩
        refine ZE.iload_n d_Ref_layRuns_4 rfl ?_
        refine ZE.aload_n d_Ref_layRuns_5 rfl ?_
        refine ZE.getE (v := ((prs S).length : Int)) d_Ref_layRuns_6 f_Ref_167 (tg := 0) rfl hK.1 hRA1.np ?_
        refine ZE.icmp_ge (tgt := 90) d_Ref_layRuns_9 rfl (by unfold zR; omega) (by unfold zR; omega) (fun c9 => ?_) (fun c9 => ?_)
        · exact absurd c9 (by omega)
        · refine ZE.iload_n d_Ref_layRuns_12 rfl ?_
          refine ZE.istore (ls2 := [(2, o), (0, i), (0, (n : Int)), (0, (k0 : Int)), (0, (k0 : Int))]) d_Ref_layRuns_13 (Nat.le_of_ble_eq_true rfl) rfl ?_
          have L15 : ∀ (t : Nat) (e0 : Nat) (f2 : Nat) (hef : k0 ≤ e0 ∧ e0 < (prs S).length ∧ (prs S).length ≤ e0 + f2) (hen0 : enE S k0 (prs S).length = enE S e0 f2), (prs S).length - e0 < t → ZE d M_Ref_layRuns (gw G A1) 15 [(2, o), (0, i), (0, (n : Int)), (0, (k0 : Int)), (0, (e0 : Int))] [] P := by
            intro t
            induction t with
            | zero => intro e0 f2 hef hen0 hm; exact absurd hm (Nat.not_lt_zero _)
            | succ t ih =>
              intro e0 f2 hef hen0 hm
              have hQ := prs_ok hS7 hp5 (k := e0) (by omega)
              have hQ1 : 1 ≤ pN S e0 ∧ pN S e0 < 1000000000 := ⟨hQ.1, hQ.2.1⟩
              refine ZE.iload d_Ref_layRuns_15 rfl ?_
              refine ZE.iconst (n := 1) d_Ref_layRuns_17 ?_
              refine ZE.iadd d_Ref_layRuns_18 ?_
              refine ZE.aload_n d_Ref_layRuns_19 rfl ?_
              refine ZE.getE (v := ((prs S).length : Int)) d_Ref_layRuns_20 f_Ref_167 (tg := 0) rfl hK.1 hRA1.np ?_
              refine ZE.icmp_ge (tgt := 53) d_Ref_layRuns_23 rfl (by unfold zR; omega) (by unfold zR; omega) (fun c23 => ?_) (fun c23 => ?_)
              · have hen : enE S k0 (prs S).length = e0 := hen0.trans (enE_stop (by omega))
                refine ZE.iload d_Ref_layRuns_53 rfl ?_
                refine ZE.iload_n d_Ref_layRuns_55 rfl ?_
                refine ZE.icmp_le (tgt := 82) d_Ref_layRuns_56 rfl (by unfold zR; omega) (by unfold zR; omega) (fun c56 => ?_) (fun c56 => ?_)
                · refine ZE.iload d_Ref_layRuns_82 rfl ?_
                  refine ZE.iconst (n := 1) d_Ref_layRuns_84 ?_
                  refine ZE.iadd d_Ref_layRuns_85 ?_
                  refine ZE.istore_n (ls2 := [(2, o), (0, i), (0, (n : Int)), (0, (e0 : Int) + 1), (0, (e0 : Int))]) d_Ref_layRuns_86 (Nat.le_of_ble_eq_true rfl) rfl ?_
                  refine ZE.goto (tgt := 4) d_Ref_layRuns_87 rfl ?_
                  refine ZE.mask [true, true, true, true, false] ?_
                  show ZE d M_Ref_layRuns (gw G A1) 4 [(2, o), (0, i), (0, (n : Int)), (0, (e0 : Int) + 1), (9, 0)] [] _
                  have hs1 : rnL S k0 (f + 1) = rnL S (e0 + 1) f := (if_pos (by omega)).trans (by rw [hen]; exact if_neg (by omega))
                  rw [show (e0 : Int) + 1 = ((e0 + 1 : Nat) : Int) by omega]
                  exact ihO (e0 + 1) n f L0 A1 (by omega) (by omega) (by rw [hL, hs1]) hLn g1 hfi (by omega)
                · refine ZE.iload_n d_Ref_layRuns_59 rfl ?_
                  refine ZE.iload_n d_Ref_layRuns_60 rfl ?_
                  refine ZE.icmp_ne (tgt := 79) d_Ref_layRuns_61 rfl (by unfold zR; omega) hi (fun c61 => ?_) (fun c61 => ?_)
                  · refine ZE.iinc (ls2 := [(2, o), (0, i), (0, (n : Int) + 1), (0, (k0 : Int)), (0, (e0 : Int))]) d_Ref_layRuns_79 rfl rfl ?_
                    refine ZE.iload d_Ref_layRuns_82 rfl ?_
                    refine ZE.iconst (n := 1) d_Ref_layRuns_84 ?_
                    refine ZE.iadd d_Ref_layRuns_85 ?_
                    refine ZE.istore_n (ls2 := [(2, o), (0, i), (0, (n : Int) + 1), (0, (e0 : Int) + 1), (0, (e0 : Int))]) d_Ref_layRuns_86 (Nat.le_of_ble_eq_true rfl) rfl ?_
                    refine ZE.goto (tgt := 4) d_Ref_layRuns_87 rfl ?_
                    refine ZE.mask [true, true, true, true, false] ?_
                    show ZE d M_Ref_layRuns (gw G A1) 4 [(2, o), (0, i), (0, (n : Int) + 1), (0, (e0 : Int) + 1), (9, 0)] [] _
                    have hs1 : rnL S k0 (f + 1) = (k0, e0 - k0 + 2) :: rnL S (e0 + 1) f := (if_pos (by omega)).trans (by rw [hen]; exact if_pos (by omega))
                    rw [show (e0 : Int) + 1 = ((e0 + 1 : Nat) : Int) by omega, show (n : Int) + 1 = ((n + 1 : Nat) : Int) by omega]
                    refine ihO (e0 + 1) (n + 1) f (L0 ++ [(k0, e0 - k0 + 2)]) _ (by omega) (by omega) (by rw [hL, hs1, List.append_assoc]; rfl) (by rw [List.length_append, hLn]; rfl) g1 ?_ (by omega)
                    have hge : (rnS S).getD n (0, 0) = (k0, e0 - k0 + 2) := by rw [hL, hs1, List.getD_eq_getElem?_getD, List.getElem?_append_right (by omega), hLn, Nat.sub_self]; rfl
                    intro m hm1 hm2
                    by_cases q : m = n
                    · exact absurd hm1 (by omega)
                    · exact hfi m hm1 (by omega)
                  · refine ZE.aload_n d_Ref_layRuns_64 rfl ?_
                    refine ZE.iload_n d_Ref_layRuns_65 rfl ?_
                    refine ZE.put d_Ref_layRuns_66 f_Ref_224 (tg := 0) rfl trivial (Or.inl ⟨_, _, _, rfl, rfl, rfl⟩) hK.1 ?_
                    show ZE d M_Ref_layRuns (gw G (up2 A1 o 20 (k0 : Int))) 69 [(2, o), (0, i), (0, (n : Int)), (0, (k0 : Int)), (0, (e0 : Int))] [] _
                    refine ZE.aload_n d_Ref_layRuns_69 rfl ?_
                    refine ZE.iload d_Ref_layRuns_70 rfl ?_
                    refine ZE.iload_n d_Ref_layRuns_72 rfl ?_
                    refine ZE.isub d_Ref_layRuns_73 ?_
                    refine ZE.iconst (n := 2) d_Ref_layRuns_74 ?_
                    refine ZE.iadd d_Ref_layRuns_75 ?_
                    refine ZE.put d_Ref_layRuns_76 f_Ref_227 (tg := 0) rfl trivial (Or.inl ⟨_, _, _, rfl, rfl, rfl⟩) hK.1 ?_
                    show ZE d M_Ref_layRuns (gw G (up2 (up2 A1 o 20 (k0 : Int)) o 21 (((e0 : Int) - (k0 : Int)) + 2))) 79 [(2, o), (0, i), (0, (n : Int)), (0, (k0 : Int)), (0, (e0 : Int))] [] _
                    refine ZE.iinc (ls2 := [(2, o), (0, i), (0, (n : Int) + 1), (0, (k0 : Int)), (0, (e0 : Int))]) d_Ref_layRuns_79 rfl rfl ?_
                    refine ZE.iload d_Ref_layRuns_82 rfl ?_
                    refine ZE.iconst (n := 1) d_Ref_layRuns_84 ?_
                    refine ZE.iadd d_Ref_layRuns_85 ?_
                    refine ZE.istore_n (ls2 := [(2, o), (0, i), (0, (n : Int) + 1), (0, (e0 : Int) + 1), (0, (e0 : Int))]) d_Ref_layRuns_86 (Nat.le_of_ble_eq_true rfl) rfl ?_
                    refine ZE.goto (tgt := 4) d_Ref_layRuns_87 rfl ?_
                    refine ZE.mask [true, true, true, true, false] ?_
                    show ZE d M_Ref_layRuns (gw G (up2 (up2 A1 o 20 (k0 : Int)) o 21 (((e0 : Int) - (k0 : Int)) + 2))) 4 [(2, o), (0, i), (0, (n : Int) + 1), (0, (e0 : Int) + 1), (9, 0)] [] _
                    have hs1 : rnL S k0 (f + 1) = (k0, e0 - k0 + 2) :: rnL S (e0 + 1) f := (if_pos (by omega)).trans (by rw [hen]; exact if_pos (by omega))
                    rw [show (e0 : Int) + 1 = ((e0 + 1 : Nat) : Int) by omega, show (n : Int) + 1 = ((n + 1 : Nat) : Int) by omega]
                    refine ihO (e0 + 1) (n + 1) f (L0 ++ [(k0, e0 - k0 + 2)]) _ (by omega) (by omega) (by rw [hL, hs1, List.append_assoc]; rfl) (by rw [List.length_append, hLn]; rfl) ((g1.fd (Or.inl rfl)).fd (Or.inr rfl)) ?_ (by omega)
                    have hge : (rnS S).getD n (0, 0) = (k0, e0 - k0 + 2) := by rw [hL, hs1, List.getD_eq_getElem?_getD, List.getElem?_append_right (by omega), hLn, Nat.sub_self]; rfl
                    intro m hm1 hm2
                    by_cases q : m = n
                    · subst q; rw [hge]; exact ⟨(up2_ne _ _ (by omega)).trans (up2_at _ _ _ _), (up2_at _ _ _ _).trans (by show (e0 : Int) - k0 + 2 = ((e0 - k0 + 2 : Nat) : Int); omega)⟩
                    · exact absurd hm1 (by omega)
              · have hQ2 := prs_ok hS7 hp5 (k := e0 + 1) (by omega)
                have hQ3 : 1 ≤ pN S (e0 + 1) ∧ pN S (e0 + 1) < 1000000000 := ⟨hQ2.1, hQ2.2.1⟩
                refine ZE.aload_n d_Ref_layRuns_26 rfl ?_
                refine ZE.getE (v := o + 7) d_Ref_layRuns_27 f_Ref_28 (tg := 2) rfl hK.1 hA1.a12 ?_
                refine ZE.iload d_Ref_layRuns_30 rfl ?_
                refine ZE.iconst (n := 1) d_Ref_layRuns_32 ?_
                refine ZE.iadd d_Ref_layRuns_33 ?_
                rw [show ((e0 : Int) + 1 : Int) = ((e0 + 1 : Nat) : Int) from (by omega)]
                refine ZE.ialdE (v := (pN S (e0 + 1) : Int)) d_Ref_layRuns_34 hK.k7 (by have hn0 := hK.n7; show 0 ≤ ((e0 + 1 : Nat) : Int) ∧ ((e0 + 1 : Nat) : Int) < gn G (o + 7); omega) (hRA1.p (e0 + 1) (by omega)).1 ?_
                refine ZE.aload_n d_Ref_layRuns_35 rfl ?_
                refine ZE.getE (v := o + 7) d_Ref_layRuns_36 f_Ref_28 (tg := 2) rfl hK.1 hA1.a12 ?_
                refine ZE.iload d_Ref_layRuns_39 rfl ?_
                refine ZE.ialdE (v := (pN S e0 : Int)) d_Ref_layRuns_41 hK.k7 (by have hn0 := hK.n7; show 0 ≤ (e0 : Int) ∧ (e0 : Int) < gn G (o + 7); omega) (hRA1.p e0 (by omega)).1 ?_
                refine ZE.iconst (n := 1) d_Ref_layRuns_42 ?_
                refine ZE.iadd d_Ref_layRuns_43 ?_
                refine ZE.icmp_ne (tgt := 53) d_Ref_layRuns_44 rfl (by unfold zR; omega) (by unfold zR; omega) (fun c44 => ?_) (fun c44 => ?_)
                · have hen : enE S k0 (prs S).length = e0 := hen0.trans (enE_stop (by omega))
                  refine ZE.iload d_Ref_layRuns_53 rfl ?_
                  refine ZE.iload_n d_Ref_layRuns_55 rfl ?_
                  refine ZE.icmp_le (tgt := 82) d_Ref_layRuns_56 rfl (by unfold zR; omega) (by unfold zR; omega) (fun c56 => ?_) (fun c56 => ?_)
                  · refine ZE.iload d_Ref_layRuns_82 rfl ?_
                    refine ZE.iconst (n := 1) d_Ref_layRuns_84 ?_
                    refine ZE.iadd d_Ref_layRuns_85 ?_
                    refine ZE.istore_n (ls2 := [(2, o), (0, i), (0, (n : Int)), (0, (e0 : Int) + 1), (0, (e0 : Int))]) d_Ref_layRuns_86 (Nat.le_of_ble_eq_true rfl) rfl ?_
                    refine ZE.goto (tgt := 4) d_Ref_layRuns_87 rfl ?_
                    refine ZE.mask [true, true, true, true, false] ?_
                    show ZE d M_Ref_layRuns (gw G A1) 4 [(2, o), (0, i), (0, (n : Int)), (0, (e0 : Int) + 1), (9, 0)] [] _
                    have hs1 : rnL S k0 (f + 1) = rnL S (e0 + 1) f := (if_pos (by omega)).trans (by rw [hen]; exact if_neg (by omega))
                    rw [show (e0 : Int) + 1 = ((e0 + 1 : Nat) : Int) by omega]
                    exact ihO (e0 + 1) n f L0 A1 (by omega) (by omega) (by rw [hL, hs1]) hLn g1 hfi (by omega)
                  · refine ZE.iload_n d_Ref_layRuns_59 rfl ?_
                    refine ZE.iload_n d_Ref_layRuns_60 rfl ?_
                    refine ZE.icmp_ne (tgt := 79) d_Ref_layRuns_61 rfl (by unfold zR; omega) hi (fun c61 => ?_) (fun c61 => ?_)
                    · refine ZE.iinc (ls2 := [(2, o), (0, i), (0, (n : Int) + 1), (0, (k0 : Int)), (0, (e0 : Int))]) d_Ref_layRuns_79 rfl rfl ?_
                      refine ZE.iload d_Ref_layRuns_82 rfl ?_
                      refine ZE.iconst (n := 1) d_Ref_layRuns_84 ?_
                      refine ZE.iadd d_Ref_layRuns_85 ?_
                      refine ZE.istore_n (ls2 := [(2, o), (0, i), (0, (n : Int) + 1), (0, (e0 : Int) + 1), (0, (e0 : Int))]) d_Ref_layRuns_86 (Nat.le_of_ble_eq_true rfl) rfl ?_
                      refine ZE.goto (tgt := 4) d_Ref_layRuns_87 rfl ?_
                      refine ZE.mask [true, true, true, true, false] ?_
                      show ZE d M_Ref_layRuns (gw G A1) 4 [(2, o), (0, i), (0, (n : Int) + 1), (0, (e0 : Int) + 1), (9, 0)] [] _
                      have hs1 : rnL S k0 (f + 1) = (k0, e0 - k0 + 2) :: rnL S (e0 + 1) f := (if_pos (by omega)).trans (by rw [hen]; exact if_pos (by omega))
                      rw [show (e0 : Int) + 1 = ((e0 + 1 : Nat) : Int) by omega, show (n : Int) + 1 = ((n + 1 : Nat) : Int) by omega]
                      refine ihO (e0 + 1) (n + 1) f (L0 ++ [(k0, e0 - k0 + 2)]) _ (by omega) (by omega) (by rw [hL, hs1, List.append_assoc]; rfl) (by rw [List.length_append, hLn]; rfl) g1 ?_ (by omega)
                      have hge : (rnS S).getD n (0, 0) = (k0, e0 - k0 + 2) := by rw [hL, hs1, List.getD_eq_getElem?_getD, List.getElem?_append_right (by omega), hLn, Nat.sub_self]; rfl
                      intro m hm1 hm2
                      by_cases q : m = n
                      · exact absurd hm1 (by omega)
                      · exact hfi m hm1 (by omega)
                    · refine ZE.aload_n d_Ref_layRuns_64 rfl ?_
                      refine ZE.iload_n d_Ref_layRuns_65 rfl ?_
                      refine ZE.put d_Ref_layRuns_66 f_Ref_224 (tg := 0) rfl trivial (Or.inl ⟨_, _, _, rfl, rfl, rfl⟩) hK.1 ?_
                      show ZE d M_Ref_layRuns (gw G (up2 A1 o 20 (k0 : Int))) 69 [(2, o), (0, i), (0, (n : Int)), (0, (k0 : Int)), (0, (e0 : Int))] [] _
                      refine ZE.aload_n d_Ref_layRuns_69 rfl ?_
                      refine ZE.iload d_Ref_layRuns_70 rfl ?_
                      refine ZE.iload_n d_Ref_layRuns_72 rfl ?_
                      refine ZE.isub d_Ref_layRuns_73 ?_
                      refine ZE.iconst (n := 2) d_Ref_layRuns_74 ?_
                      refine ZE.iadd d_Ref_layRuns_75 ?_
                      refine ZE.put d_Ref_layRuns_76 f_Ref_227 (tg := 0) rfl trivial (Or.inl ⟨_, _, _, rfl, rfl, rfl⟩) hK.1 ?_
                      show ZE d M_Ref_layRuns (gw G (up2 (up2 A1 o 20 (k0 : Int)) o 21 (((e0 : Int) - (k0 : Int)) + 2))) 79 [(2, o), (0, i), (0, (n : Int)), (0, (k0 : Int)), (0, (e0 : Int))] [] _
                      refine ZE.iinc (ls2 := [(2, o), (0, i), (0, (n : Int) + 1), (0, (k0 : Int)), (0, (e0 : Int))]) d_Ref_layRuns_79 rfl rfl ?_
                      refine ZE.iload d_Ref_layRuns_82 rfl ?_
                      refine ZE.iconst (n := 1) d_Ref_layRuns_84 ?_
                      refine ZE.iadd d_Ref_layRuns_85 ?_
                      refine ZE.istore_n (ls2 := [(2, o), (0, i), (0, (n : Int) + 1), (0, (e0 : Int) + 1), (0, (e0 : Int))]) d_Ref_layRuns_86 (Nat.le_of_ble_eq_true rfl) rfl ?_
                      refine ZE.goto (tgt := 4) d_Ref_layRuns_87 rfl ?_
                      refine ZE.mask [true, true, true, true, false] ?_
                      show ZE d M_Ref_layRuns (gw G (up2 (up2 A1 o 20 (k0 : Int)) o 21 (((e0 : Int) - (k0 : Int)) + 2))) 4 [(2, o), (0, i), (0, (n : Int) + 1), (0, (e0 : Int) + 1), (9, 0)] [] _
                      have hs1 : rnL S k0 (f + 1) = (k0, e0 - k0 + 2) :: rnL S (e0 + 1) f := (if_pos (by omega)).trans (by rw [hen]; exact if_pos (by omega))
                      rw [show (e0 : Int) + 1 = ((e0 + 1 : Nat) : Int) by omega, show (n : Int) + 1 = ((n + 1 : Nat) : Int) by omega]
                      refine ihO (e0 + 1) (n + 1) f (L0 ++ [(k0, e0 - k0 + 2)]) _ (by omega) (by omega) (by rw [hL, hs1, List.append_assoc]; rfl) (by rw [List.length_append, hLn]; rfl) ((g1.fd (Or.inl rfl)).fd (Or.inr rfl)) ?_ (by omega)
                      have hge : (rnS S).getD n (0, 0) = (k0, e0 - k0 + 2) := by rw [hL, hs1, List.getD_eq_getElem?_getD, List.getElem?_append_right (by omega), hLn, Nat.sub_self]; rfl
                      intro m hm1 hm2
                      by_cases q : m = n
                      · subst q; rw [hge]; exact ⟨(up2_ne _ _ (by omega)).trans (up2_at _ _ _ _), (up2_at _ _ _ _).trans (by show (e0 : Int) - k0 + 2 = ((e0 - k0 + 2 : Nat) : Int); omega)⟩
                      · exact absurd hm1 (by omega)
                · refine ZE.iinc (ls2 := [(2, o), (0, i), (0, (n : Int)), (0, (k0 : Int)), (0, (e0 : Int) + 1)]) d_Ref_layRuns_47 rfl rfl ?_
                  refine ZE.goto (tgt := 15) d_Ref_layRuns_50 rfl ?_
                  rw [show (e0 : Int) + 1 = ((e0 + 1 : Nat) : Int) by omega]
                  refine ih (e0 + 1) (f2 - 1) (by omega) ?_ (by omega)
                  rw [hen0]
                  obtain ⟨f3, rfl⟩ : ∃ f3, f2 = f3 + 1 := ⟨f2 - 1, by omega⟩
                  exact if_pos (by omega)
          exact L15 _ k0 (prs S).length (by omega) rfl (Nat.lt_succ_self _)
      · have hnl := rnL_nil hk f0
        have hrs : (rnS S).length = n := by rw [hL, hnl, List.append_nil]; exact hLn
        refine ZE.iload_n d_Ref_layRuns_4 rfl ?_
        refine ZE.aload_n d_Ref_layRuns_5 rfl ?_
        refine ZE.getE (v := ((prs S).length : Int)) d_Ref_layRuns_6 f_Ref_167 (tg := 0) rfl hK.1 hRA1.np ?_
        refine ZE.icmp_ge (tgt := 90) d_Ref_layRuns_9 rfl (by unfold zR; omega) (by unfold zR; omega) (fun c9 => ?_) (fun c9 => ?_)
        · refine ZE.iload_n d_Ref_layRuns_90 rfl ?_
          refine ZE.iret d_Ref_layRuns_91 rfl ?_
          rw [← hrs]
          exact k A1 g1 (fun m h1 h2 => hfi m h1 (by omega))
        · exact absurd c9 (by omega)
  exact L4 _ 0 0 (prs S).length [] A (by omega) (by omega) rfl rfl quF.rf (fun m h1 h2 => absurd h2 (Nat.not_lt_zero _)) (Nat.lt_succ_self _)
