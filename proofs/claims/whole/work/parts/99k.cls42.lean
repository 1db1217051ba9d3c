theorem ZE.putO {d : Nat} {M : zM} {G : zG} {pc : Nat} {ls st : List zV} {P : Option zV → zG → Prop} {own : String} {a v : Int} {idx ci k tg : Nat} (hd : decode M.2.1 pc = .ok (.putfield idx, 3)) (hf : zFld M.1.cls idx ci k) (ht : zTg (zTy ci k) = tg) (hfit : zFit (zTy ci k) v) (hfin : zFin own ci k false) (hk : gk G a = 10 + ci) (kk : ZE d M (gset G a k v) (pc + 3) ls st P) : ZE d M G pc ls ((tg, v) :: (2, a) :: st) P := by
  subst ht
  obtain ⟨C, T, N, hc, hkN, hlink⟩ := hf
  refine ZE.mem kk zUp.set (fun D p l e R s m args below meth c H locs cells slots Q la hx hb hC hH hl hla hcc hss kk => ?_)
  obtain ⟨g1, g2, C', T', N', hc', hob⟩ := hH.obj hk
  have e1 := Option.some.inj (hc'.symm.trans hc)
  cases e1
  rw [List.map_cons, List.map_cons, zref g1]
  have hts := hC.2.2.2.2.1
  have hok := zcls_ok ci _ hc
  obtain ⟨cell, q1, q2, q3, q4⟩ := hob
  obtain ⟨hS, hfc, kC, hkC, hkind⟩ := hC.2.2.2.2.2.1.1.1 ci _ hc
  obtain ⟨cf, kf, fi, f, hi, hsl⟩ := hS k hkN
  have hap := va_apart (own := M.1.cls) hts hok.1 (zTy ci) hok.2.1 hok.2.2.1 hC.2.2.2.2.2.1.1 hc
  have hst := (u_facts hfc hkC (u_lays hts hok.1 hkN) hi).1
  have hlay := hts _ (hok.1 _ (u_in_lay hkN))
  obtain ⟨fn, ff⟩ := hfit.ok
  have hd0 : parseFieldDescriptor (T k).2.2.1 = some (zTy ci k) := hok.2.1 k hkN
  have fin : ∀ H1 : Heap, H1[a.toNat]? = some (cell.setSlot f.slot (zcv (zTg (zTy ci k), v))) → H1.size = H.size → (∀ q, q ≠ a.toNat → H1[q]? = H[q]?) → W p l e R s m args below meth c H1 (locs ++ [⟨a.toNat, f.slot⟩]) cells slots Q (F0 m (pc + 3) la (st.map zcv)) := fun H1 e1 z o => by
    have := kk H1 (locs ++ [⟨a.toNat, f.slot⟩]) (zset_obj hH hk hc hkN q1 q2 q3 q4 hap (by rw [hsl] at e1; exact e1) z o) (zlocs hl g2)
    simpa [gz, gs, gset] using this
  obtain ⟨C2, T2, N2, hc2, hfa, -⟩ := hfin
  have e2 := Option.some.inj (hc2.symm.trans hc)
  cases e2
  unfold u_lay at hlay
  rw [if_neg (by rw [hfa]; decide)] at hlay
  have h6 := u_store hfc hkC hkind hlay hi hd0 fn ff
  exact W.putK hx hb (f := f) ⟨hC.2.2.2.1, hts _ hlink, ⟨_, _, _, hi⟩, hst⟩ (by rw [q2]; exact h6) q1 q3 (by rw [hsl]; exact k2_hasslot (q4 k hkN)) rfl rfl hd fin
theorem zR_cmZ (v u : Nat) : zR (cmZ v u) := by
  unfold zR cmZ
  split
  · omega
  · split <;> omega
theorem cmZ_le {v u : Nat} : cmZ v u ≤ 0 ↔ v ≤ u := by
  unfold cmZ
  split
  · omega
  · split <;> omega
theorem cmZ_eq {v u : Nat} : cmZ v u = 0 ↔ v = u := by
  unfold cmZ
  split
  · omega
  · split <;> omega
theorem cmZ_lt {v u : Nat} : cmZ v u < 0 ↔ v < u := by
  unfold cmZ
  split
  · omega
  · split <;> omega
set_option maxRecDepth 20000 in
set_option maxHeartbeats 4000000 in
theorem s_enterCouple {d : Nat} {G : zG} {A : Int → Int → Int} {P : Option zV → zG → Prop} {s : Int} (hK : sK G s) {ap : Nat} (hF : sF A s ap) {n : Nat} (hn : A s 12 = (n : Int)) (hn2 : n < 64) {v1 : Int} (hv0 : s + 46 ≤ v1) {w1 i1 ap2 : Nat} (hv : cP G A v1 w1 i1 ap2) {f1 : Int} {wL iL : Nat → Nat} (vs : ∀ k : Nat, k < n → 0 ≤ A (s + 30) k ∧ cP G A (A (s + 30) k) (wL k) (iL k) ap2) (k : ∀ A2, (∀ a : Int, a ≠ s → a ≠ s + 30 → a ≠ v1 → A2 a = A a) → (∀ i : Int, i ≠ 12 → A2 s i = A s i) → A2 s 12 = ((n + 1 : Nat) : Int) → (∀ i : Int, i ≠ 5 → A2 v1 i = A v1 i) → A2 v1 5 = f1 → (∀ q : Nat, q < n + 1 → A2 (s + 30) q = if q < jp (fun k => decide (w1 < wL k)) n then A (s + 30) q else if q = jp (fun k => decide (w1 < wL k)) n then v1 else A (s + 30) ((q - 1 : Nat) : Int)) → P none (gw G A2)) : ZE (d + 2) M_Sea_enterCouple (gw G A) 0 [(2, s), (2, v1), (0, f1), (9, 0)] [] P := by
  have hs0 := hK.2.1
  refine ZE.aload_n d_Sea_enterCouple_0 rfl ?_
  refine ZE.getE (v := (n : Int)) d_Sea_enterCouple_1 f_Sea_82 (tg := 0) rfl hK.1 hn ?_
  refine ZE.istore_n (ls2 := [(2, s), (2, v1), (0, f1), (0, (n : Int))]) d_Sea_enterCouple_4 (Nat.le_of_ble_eq_true rfl) rfl ?_
  refine ZE.aload_n d_Sea_enterCouple_5 rfl ?_
  refine ZE.ifnull (tgt := 22) d_Sea_enterCouple_6 rfl  (fun c6 => ?_) (fun c6 => ?_)
  · exact absurd c6 (by omega)
  · refine ZE.iload_n d_Sea_enterCouple_9 rfl ?_
    refine ZE.if_lt (tgt := 22) d_Sea_enterCouple_10 rfl (by unfold zR; omega) (fun c10 => ?_) (fun c10 => ?_)
    · exact absurd c10 (by omega)
    · refine ZE.iload_n d_Sea_enterCouple_13 rfl ?_
      refine ZE.aload_n d_Sea_enterCouple_14 rfl ?_
      refine ZE.getE (v := s + 30) d_Sea_enterCouple_15 f_Sea_48 (tg := 2) rfl hK.1 hF.2.2.2.2.2.1 ?_
      refine ZE.alenE (v := 64) d_Sea_enterCouple_18 (by have hk0 := hK.2.2.2.2.2.1.1; show 1 ≤ gk G (s + 30) ∧ gk G (s + 30) ≤ 6; omega) hK.2.2.2.2.2.1.2 ?_
      refine ZE.icmp_lt (tgt := 23) d_Sea_enterCouple_19 rfl (by unfold zR; omega) (by unfold zR; omega) (fun c19 => ?_) (fun c19 => ?_)
      · refine ZE.aload_n d_Sea_enterCouple_23 rfl ?_
        refine ZE.iload_n d_Sea_enterCouple_24 rfl ?_
        refine ZE.putO d_Sea_enterCouple_25 f_Sea_132 (tg := 0) rfl trivial ⟨_, _, _, rfl, rfl, rfl⟩ hv.1.1 ?_
        show ZE (d + 2) M_Sea_enterCouple (gw G (up2 A v1 5 f1)) 28 [(2, s), (2, v1), (0, f1), (0, (n : Int))] [] _
        refine ZE.aload_n d_Sea_enterCouple_28 rfl ?_
        refine ZE.dup d_Sea_enterCouple_29 (Or.inr rfl) ?_
        refine ZE.getE (v := (n : Int)) d_Sea_enterCouple_30 f_Sea_82 (tg := 0) rfl hK.1 ((up2_ne _ _ (by omega)).trans hn) ?_
        refine ZE.iconst (n := 1) d_Sea_enterCouple_33 ?_
        refine ZE.iadd d_Sea_enterCouple_34 ?_
        refine ZE.put d_Sea_enterCouple_35 f_Sea_82 (tg := 0) rfl trivial (Or.inl ⟨_, _, _, rfl, rfl, rfl⟩) hK.1 ?_
        show ZE (d + 2) M_Sea_enterCouple (gw G (up2 (up2 A v1 5 f1) s 12 ((n : Int) + 1))) 38 [(2, s), (2, v1), (0, f1), (0, (n : Int))] [] _
        have L38 : ∀ (tt0 : Nat) (j : Nat) (A1 : Int → Int → Int) (hj : j ≤ n) (hjp : jp (fun k => decide (w1 < wL k)) n = jp (fun k => decide (w1 < wL k)) j) (g1 : ∀ a : Int, a ≠ s → a ≠ s + 30 → a ≠ v1 → A1 a = A a) (g2 : ∀ i : Int, i ≠ 12 → A1 s i = A s i) (g3 : A1 s 12 = ((n + 1 : Nat) : Int)) (g4 : ∀ i : Int, i ≠ 5 → A1 v1 i = A v1 i) (g5 : A1 v1 5 = f1) (r1 : ∀ q : Nat, q < j → A1 (s + 30) q = A (s + 30) q) (r2 : ∀ q : Nat, j < q → q ≤ n → A1 (s + 30) q = A (s + 30) ((q - 1 : Nat) : Int)), j + 1 < tt0 → ZE (d + 2) M_Sea_enterCouple (gw G A1) 38 [(2, s), (2, v1), (0, f1), (0, (j : Int))] [] P := by
          intro tt0
          induction tt0 with
          | zero => intro j A1 hj hjp g1 g2 g3 g4 g5 r1 r2 hm; exact absurd hm (Nat.not_lt_zero _)
          | succ tt0 ih =>
            intro j A1 hj hjp g1 g2 g3 g4 g5 r1 r2 hm
            have hF1 : sF A1 s ap := hF.ab (fun i hi => g2 i (by omega)) (fun a ha => by
              by_cases hav : a = v1
              · exfalso; omega
              · exact g1 a (by omega) (by omega) hav)
            have hs5 := hF1.2.2.2.2.2.1
            have hl : ∀ c : Int, gk G c = 11 → ∀ i : Int, i ≠ 5 → A1 c i = A c i := fun c hc i hi => by
              by_cases hcv : c = v1
              · subst hcv; exact g4 i hi
              · exact congrFun (g1 c (fun z => by rw [z] at hc; have := hK.1; omega) (fun z => by rw [z] at hc; have := hK.2.2.2.2.2.1.1; omega) hcv) _
            have hb : ∀ (c : Int) (cap : Nat), bK G c cap → ∀ a : Int, a = c ∨ a = c + 1 → A1 a = A a := fun c cap hc a ha => by
              have z1 := hK.1
              have z2 := hK.2.2.2.2.2.1.1
              have z3 := hv.1.1
              have z4 := hc.1
              have z5 := hc.2.1
              rcases ha with rfl | rfl
              · exact g1 _ (fun z => by rw [← z] at z1; omega) (fun z => by rw [← z] at z2; omega) (fun z => by rw [← z] at z3; omega)
              · exact g1 _ (fun z => by rw [← z] at z1; omega) (fun z => by rw [← z] at z2; omega) (fun z => by rw [← z] at z3; omega)
            have hq0 : A1 v1 0 = v1 + 3 := (g4 0 (by omega)).trans hv.2.1
            have hqN : bN A1 (v1 + 3) w1 := hv.2.2.2.2.2.2.1.ab (hb _ _ hv.1.2.2.2.2)
            refine ZE.iload_n d_Sea_enterCouple_38 rfl ?_
            refine ZE.if_le (tgt := 81) d_Sea_enterCouple_39 rfl (by unfold zR; omega) (fun c39 => ?_) (fun c39 => ?_)
            · have hjq : 0 < j → ¬ w1 < wL (j - 1) := by omega
              refine ZE.aload_n d_Sea_enterCouple_81 rfl ?_
              refine ZE.getE (v := s + 30) d_Sea_enterCouple_82 f_Sea_48 (tg := 2) rfl hK.1 hs5 ?_
              refine ZE.iload_n d_Sea_enterCouple_85 rfl ?_
              refine ZE.aload_n d_Sea_enterCouple_86 rfl ?_
              refine ZE.aast d_Sea_enterCouple_87 hK.2.2.2.2.2.1.1 (by omega) (by have hn0 := hK.2.2.2.2.2.1.2; show 0 ≤ (j : Int) ∧ (j : Int) < gn G (s + 30); omega) hv.1.1 ?_
              show ZE (d + 2) M_Sea_enterCouple (gw G (up2 A1 (s + 30) (j : Int) v1)) 88 [(2, s), (2, v1), (0, f1), (0, (j : Int))] [] _
              refine ZE.vret d_Sea_enterCouple_88 rfl ?_
              have hjf : jp (fun k => decide (w1 < wL k)) n = j := by
                rw [hjp]
                rcases Nat.eq_zero_or_pos j with z | z
                · subst z; rfl
                · obtain ⟨j2, rfl⟩ : ∃ j2, j = j2 + 1 := ⟨j - 1, by omega⟩
                  exact jp_f (decide_eq_false (hjq (by omega)))
              refine k _ (fun a h1 h2 h3 => ?_) (fun i hi => ?_) ?_ (fun i hi => ?_) ?_ (fun q hq => ?_)
              · rw [up2_A, upA_ne _ _ h2]; exact g1 a h1 h2 h3
              · rw [up2_ne _ _ (by omega)]; exact g2 i hi
              · rw [up2_ne _ _ (by omega)]; exact g3
              · rw [up2_ne _ _ (by omega)]; exact g4 i hi
              · rw [up2_ne _ _ (by omega)]; exact g5
              · rw [hjf]
                by_cases e1 : q < j
                · rw [if_pos e1, up2_ne _ _ (by omega)]; exact r1 q e1
                · rw [if_neg e1]
                  by_cases e2 : q = j
                  · subst e2; rw [if_pos rfl, up2_at]
                  · rw [if_neg e2, up2_ne _ _ (by omega)]; exact r2 q (by omega) (by omega)
            · refine ZE.aload_n d_Sea_enterCouple_42 rfl ?_
              refine ZE.iload_n d_Sea_enterCouple_43 rfl ?_
              refine ZE.iconst (n := 1) d_Sea_enterCouple_44 ?_
              refine ZE.isub d_Sea_enterCouple_45 ?_
              rw [show ((j : Int) - 1 : Int) = ((j - 1 : Nat) : Int) from (by omega)]
              have hvj := vs (j - 1) (by omega)
              have hvk := hvj.2.1.1
              refine ZE.cV [(0, ((j - 1 : Nat) : Int))] [] [(2, s), (0, ((j - 1 : Nat) : Int)), (9, 0)] d_Sea_enterCouple_46 l_Sea_135 rfl rfl rfl rfl rfl rfl hK.1 ?_
              refine s_coupleAt hK hF1 g3 (by omega) (k1 := j - 1) (by omega) (v1 := (A (s + 30) ((j - 1 : Nat) : Int))) (r1 (j - 1) (by omega)) hvj.1 ?_
              show ZE (d + 2) M_Sea_enterCouple (gw G A1) 49 [(2, s), (2, v1), (0, f1), (0, (j : Int))] [(2, (A (s + 30) ((j - 1 : Nat) : Int)))] _
              refine ZE.getE (v := (A (s + 30) ((j - 1 : Nat) : Int)) + 3) d_Sea_enterCouple_49 f_Sea_139 (tg := 2) rfl hvk ((hl _ hvk 0 (by omega)).trans hvj.2.2.1) ?_
              refine ZE.aload_n d_Sea_enterCouple_52 rfl ?_
              refine ZE.getE (v := v1 + 3) d_Sea_enterCouple_53 f_Sea_139 (tg := 2) rfl hv.1.1 hq0 ?_
              refine ZE.cV [(2, v1 + 3)] [] [(2, (A (s + 30) ((j - 1 : Nat) : Int)) + 3), (2, v1 + 3), (9, 0), (9, 0), (9, 0)] d_Sea_enterCouple_56 l_Sea_142 rfl rfl rfl rfl rfl rfl hvj.2.1.2.2.2.2.1 ?_
              refine B_compareWith (d := d) hvj.2.1.2.2.2.2 (hvj.2.2.2.2.2.2.2.1.ab (hb _ _ hvj.2.1.2.2.2.2)) hv.1.2.2.2.2 hqN (Nat.le_refl _) (Nat.le_refl _) ?_
              show ZE (d + 2) M_Sea_enterCouple (gw G A1) 59 [(2, s), (2, v1), (0, f1), (0, (j : Int))] [(0, cmZ (wL (j - 1)) w1)] _
              refine ZE.if_le (tgt := 81) d_Sea_enterCouple_59 rfl (zR_cmZ _ _) (fun c59 => ?_) (fun c59 => ?_)
              · have hjq : 0 < j → ¬ w1 < wL (j - 1) := by rw [cmZ_le] at c59; omega
                refine ZE.aload_n d_Sea_enterCouple_81 rfl ?_
                refine ZE.getE (v := s + 30) d_Sea_enterCouple_82 f_Sea_48 (tg := 2) rfl hK.1 hs5 ?_
                refine ZE.iload_n d_Sea_enterCouple_85 rfl ?_
                refine ZE.aload_n d_Sea_enterCouple_86 rfl ?_
                refine ZE.aast d_Sea_enterCouple_87 hK.2.2.2.2.2.1.1 (by omega) (by have hn0 := hK.2.2.2.2.2.1.2; show 0 ≤ (j : Int) ∧ (j : Int) < gn G (s + 30); omega) hv.1.1 ?_
                show ZE (d + 2) M_Sea_enterCouple (gw G (up2 A1 (s + 30) (j : Int) v1)) 88 [(2, s), (2, v1), (0, f1), (0, (j : Int))] [] _
                refine ZE.vret d_Sea_enterCouple_88 rfl ?_
                have hjf : jp (fun k => decide (w1 < wL k)) n = j := by
                  rw [hjp]
                  rcases Nat.eq_zero_or_pos j with z | z
                  · subst z; rfl
                  · obtain ⟨j2, rfl⟩ : ∃ j2, j = j2 + 1 := ⟨j - 1, by omega⟩
                    exact jp_f (decide_eq_false (hjq (by omega)))
                refine k _ (fun a h1 h2 h3 => ?_) (fun i hi => ?_) ?_ (fun i hi => ?_) ?_ (fun q hq => ?_)
                · rw [up2_A, upA_ne _ _ h2]; exact g1 a h1 h2 h3
                · rw [up2_ne _ _ (by omega)]; exact g2 i hi
                · rw [up2_ne _ _ (by omega)]; exact g3
                · rw [up2_ne _ _ (by omega)]; exact g4 i hi
                · rw [up2_ne _ _ (by omega)]; exact g5
                · rw [hjf]
                  by_cases e1 : q < j
                  · rw [if_pos e1, up2_ne _ _ (by omega)]; exact r1 q e1
                  · rw [if_neg e1]
                    by_cases e2 : q = j
                    · subst e2; rw [if_pos rfl, up2_at]
                    · rw [if_neg e2, up2_ne _ _ (by omega)]; exact r2 q (by omega) (by omega)
              · refine ZE.aload_n d_Sea_enterCouple_62 rfl ?_
                refine ZE.getE (v := s + 30) d_Sea_enterCouple_63 f_Sea_48 (tg := 2) rfl hK.1 hs5 ?_
                refine ZE.iload_n d_Sea_enterCouple_66 rfl ?_
                refine ZE.aload_n d_Sea_enterCouple_67 rfl ?_
                refine ZE.iload_n d_Sea_enterCouple_68 rfl ?_
                refine ZE.iconst (n := 1) d_Sea_enterCouple_69 ?_
                refine ZE.isub d_Sea_enterCouple_70 ?_
                rw [show ((j : Int) - 1 : Int) = ((j - 1 : Nat) : Int) from (by omega)]
                refine ZE.cV [(0, ((j - 1 : Nat) : Int))] [(0, (j : Int)), (2, s + 30)] [(2, s), (0, ((j - 1 : Nat) : Int)), (9, 0)] d_Sea_enterCouple_71 l_Sea_135 rfl rfl rfl rfl rfl rfl hK.1 ?_
                refine s_coupleAt hK hF1 g3 (by omega) (k1 := j - 1) (by omega) (v1 := (A (s + 30) ((j - 1 : Nat) : Int))) (r1 (j - 1) (by omega)) hvj.1 ?_
                show ZE (d + 2) M_Sea_enterCouple (gw G A1) 74 [(2, s), (2, v1), (0, f1), (0, (j : Int))] [(2, (A (s + 30) ((j - 1 : Nat) : Int))), (0, (j : Int)), (2, s + 30)] _
                refine ZE.aast d_Sea_enterCouple_74 hK.2.2.2.2.2.1.1 (by omega) (by have hn0 := hK.2.2.2.2.2.1.2; show 0 ≤ (j : Int) ∧ (j : Int) < gn G (s + 30); omega) hvk ?_
                show ZE (d + 2) M_Sea_enterCouple (gw G (up2 A1 (s + 30) (j : Int) (A (s + 30) ((j - 1 : Nat) : Int)))) 75 [(2, s), (2, v1), (0, f1), (0, (j : Int))] [] _
                refine ZE.iinc (ls2 := [(2, s), (2, v1), (0, f1), (0, (j : Int) + (-1))]) d_Sea_enterCouple_75 rfl rfl ?_
                refine ZE.goto (tgt := 38) d_Sea_enterCouple_78 rfl ?_
                rw [show (j : Int) + (-1) = ((j - 1 : Nat) : Int) by omega]
                refine ih (j - 1) _ (by omega) ?_ (fun a h1 h2 h3 => ?_) (fun i hi => ?_) ?_ (fun i hi => ?_) ?_ (fun q hq => ?_) (fun q hq1 hq2 => ?_) (by omega)
                · rw [hjp]
                  obtain ⟨j2, rfl⟩ : ∃ j2, j = j2 + 1 := ⟨j - 1, by omega⟩
                  rw [Nat.add_sub_cancel]
                  exact jp_t (decide_eq_true (by rw [cmZ_le, Nat.add_sub_cancel] at c59; omega))
                · rw [up2_A, upA_ne _ _ h2]; exact g1 a h1 h2 h3
                · rw [up2_ne _ _ (by omega)]; exact g2 i hi
                · rw [up2_ne _ _ (by omega)]; exact g3
                · rw [up2_ne _ _ (by omega)]; exact g4 i hi
                · rw [up2_ne _ _ (by omega)]; exact g5
                · rw [up2_ne _ _ (by omega)]; exact r1 q (by omega)
                · by_cases e : q = j
                  · subst e; rw [up2_at]
                  · rw [up2_ne _ _ (by omega)]; exact r2 q (by omega) hq2
        exact L38 _ n _ (Nat.le_refl _) rfl (fun a h1 h2 h3 => by rw [up2_A, upA_ne _ _ h1, up2_A, upA_ne _ _ h3]) (fun i hi => by rw [up2_ne _ _ (by omega), up2_ne _ _ (by omega)]) ((up2_at _ _ _ _).trans (by omega)) (fun i hi => by rw [up2_ne _ _ (by omega), up2_ne _ _ (by omega)]) ((up2_ne _ _ (by omega)).trans (up2_at _ _ _ _)) (fun q hq => by rw [up2_ne _ _ (by omega), up2_ne _ _ (by omega)]) (fun q h1 h2 => by omega) (Nat.lt_succ_self _)
      · exact absurd c19 (by omega)
set_option maxRecDepth 20000 in
set_option maxHeartbeats 4000000 in
theorem s_enterNone {d : Nat} {G : zG} {A : Int → Int → Int} {P : Option zV → zG → Prop} {s : Int} (hK : sK G s) {n : Nat} (hn : A s 12 = (n : Int)) {f1 : Int} (k : P none (gw G A)) : ZE d M_Sea_enterCouple (gw G A) 0 [(2, s), (2, (-1)), (0, f1), (9, 0)] [] P := by
  refine ZE.aload_n d_Sea_enterCouple_0 rfl ?_
  refine ZE.getE (v := (n : Int)) d_Sea_enterCouple_1 f_Sea_82 (tg := 0) rfl hK.1 hn ?_
  refine ZE.istore_n (ls2 := [(2, s), (2, (-1)), (0, f1), (0, (n : Int))]) d_Sea_enterCouple_4 (Nat.le_of_ble_eq_true rfl) rfl ?_
  refine ZE.aload_n d_Sea_enterCouple_5 rfl ?_
  refine ZE.ifnull (tgt := 22) d_Sea_enterCouple_6 rfl  (fun c6 => ?_) (fun c6 => ?_)
  · refine ZE.vret d_Sea_enterCouple_22 rfl ?_
    exact k
  · exact absurd c6 (by omega)
