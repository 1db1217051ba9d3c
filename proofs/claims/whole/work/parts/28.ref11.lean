theorem zR_and (x y : Int) : zR (zand x y) := by
  have h1 := Int32.le_toInt (Int32.ofInt x &&& Int32.ofInt y)
  have h2 := Int32.toInt_lt (Int32.ofInt x &&& Int32.ofInt y)
  unfold zand zR
  omega
def dq (f : Int) (q : Nat) : Nat := if f < 32 then 2 * q else q
/-- the data of a class with d = D -/
def clD (A : Int → Int → Int) (o c : Int) (D : Nat) : Prop := A (o + 4) c = (isq D : Int) ∧ A (o + 5) c = (rnd D : Int) ∧ num (A (o + 2)) (2 * c) (unx D (isq D) (rnd D)) ∧ num (A (o + 2)) (2 * c + 1) (uny D (isq D) (rnd D))
def slf (f : Int) : Int → Prop := fun n => (2 * f ≤ n ∧ n < 2 * f + 64) ∨ (126 ≤ n ∧ n ≤ 130)
def lpF (f : Int) (A A' : Int → Int → Int) (o : Int) : Prop := (∀ b : Int, b ≠ o → b ≠ o + 2 → b ≠ o + 3 → b ≠ o + 4 → b ≠ o + 5 → A' b = A b) ∧ (∀ i : Int, ¬ (9 ≤ i ∧ i ≤ 11) → A' o i = A o i) ∧ (∀ i : Int, ¬ (f ≤ i ∧ i < f + 32) → A' (o + 3) i = A (o + 3) i ∧ A' (o + 4) i = A (o + 4) i ∧ A' (o + 5) i = A (o + 5) i) ∧ rowF (slf f) (A (o + 2)) (A' (o + 2))
theorem lpF.rf {f : Int} {A : Int → Int → Int} {o : Int} : lpF f A A o := ⟨fun _ _ _ _ _ _ => rfl, fun _ _ => rfl, fun _ _ => ⟨rfl, rfl, rfl⟩, rowF.rf⟩
theorem lpF.tr {f : Int} {A B C : Int → Int → Int} {o : Int} (a : lpF f A B o) (b : lpF f B C o) : lpF f A C o := ⟨fun e h1 h2 h3 h4 h5 => (b.1 e h1 h2 h3 h4 h5).trans (a.1 e h1 h2 h3 h4 h5), fun i h => (b.2.1 i h).trans (a.2.1 i h), fun i h => ⟨(b.2.2.1 i h).1.trans (a.2.2.1 i h).1, (b.2.2.1 i h).2.1.trans (a.2.2.1 i h).2.1, (b.2.2.1 i h).2.2.trans (a.2.2.1 i h).2.2⟩, a.2.2.2.tr b.2.2.2⟩
theorem lpF.cl {f c : Int} {A B C : Int → Int → Int} {o : Int} (a : lpF f A B o) (b : clF c B C o) (hc : f ≤ c ∧ c < f + 32) : lpF f A C o := a.tr ⟨fun e h1 h2 _ h4 h5 => b.1 e h1 h2 h4 h5, b.2.1, fun i h => ⟨by rw [b.1 _ (by omega) (by omega) (by omega) (by omega)], (b.2.2.1 i (by omega)).1, (b.2.2.1 i (by omega)).2⟩, b.2.2.2.sub (fun n h => by unfold slc at h; unfold slf; omega)⟩
theorem lpF.up {f i v : Int} {A B : Int → Int → Int} {o : Int} (a : lpF f A B o) (hi : f ≤ i ∧ i < f + 32) : lpF f A (up2 B (o + 3) i v) o := by
  refine ⟨fun b h1 h2 h3 h4 h5 => ?_, fun i h => ?_, fun i h => ⟨?_, ?_, ?_⟩, ?_⟩
  · rw [up2_A, upA_ne _ _ h3]; exact a.1 b h1 h2 h3 h4 h5
  · rw [up2_ne _ _ (fun q => by omega)]; exact a.2.1 i h
  · rw [up2_ne _ _ (fun q => by omega)]; exact (a.2.2.1 i h).1
  · rw [up2_ne _ _ (fun q => by omega)]; exact (a.2.2.1 i h).2.1
  · rw [up2_ne _ _ (fun q => by omega)]; exact (a.2.2.1 i h).2.2
  · rw [up2_A, upA_ne _ _ (by omega)]; exact a.2.2.2
theorem RF.lp {f : Int} {A A' : Int → Int → Int} {o : Int} (h : RF A o) (g : lpF f A A' o) : RF A' o := by
  have e0 : ∀ j : Int, ¬ (9 ≤ j ∧ j ≤ 11) → A' o j = A o j := g.2.1
  have e1 : A' (o + 1) = A (o + 1) := g.1 _ (by omega) (by omega) (by omega) (by omega) (by omega)
  unfold RF
  rw [e1]
  refine ⟨(e0 _ (by omega)).trans h.a0, (e0 _ (by omega)).trans h.a2, (e0 _ (by omega)).trans h.a3, (e0 _ (by omega)).trans h.a4, (e0 _ (by omega)).trans h.a5, (e0 _ (by omega)).trans h.a6, (e0 _ (by omega)).trans h.a12, (e0 _ (by omega)).trans h.a13, (e0 _ (by omega)).trans h.a14, (e0 _ (by omega)).trans h.a16, (e0 _ (by omega)).trans h.a17, (e0 _ (by omega)).trans h.a18, (e0 _ (by omega)).trans h.a22, (e0 _ (by omega)).trans h.a23, (e0 _ (by omega)).trans h.a24, (e0 _ (by omega)).trans h.a25, (e0 _ (by omega)).trans h.a26, (e0 _ (by omega)).trans h.a27, (e0 _ (by omega)).trans h.a30, h.sev⟩
theorem clD.cl {c c1 : Int} {A B : Int → Int → Int} {o : Int} {D : Nat} (h : clD A o c D) (g : clF c1 A B o) (hc : 0 ≤ c ∧ c < 63) (hne : c ≠ c1) (hok : okD D = true) : clD B o c D :=
  ⟨((g.2.2.1 _ hne).1).trans h.1, ((g.2.2.1 _ hne).2).trans h.2.1, g.2.2.2.num (by omega) (by unfold slc; omega) (by have := (okD_ns hok).2.1; omega) h.2.2.1, g.2.2.2.num (by omega) (by unfold slc; omega) (by have := (okD_ns hok).2.2; omega) h.2.2.2⟩
theorem clD.lp {c f : Int} {A B : Int → Int → Int} {o : Int} {D : Nat} (h : clD A o c D) (g : lpF f A B o) (hc : 0 ≤ c ∧ c < 63) (hne : ¬ (f ≤ c ∧ c < f + 32)) (hok : okD D = true) : clD B o c D :=
  ⟨((g.2.2.1 _ hne).2.1).trans h.1, ((g.2.2.1 _ hne).2.2).trans h.2.1, g.2.2.2.num (by omega) (by unfold slf; omega) (by have := (okD_ns hok).2.1; omega) h.2.2.1, g.2.2.2.num (by omega) (by unfold slf; omega) (by have := (okD_ns hok).2.2; omega) h.2.2.2⟩
theorem dq_or {f c : Int} {q bt : Nat} (hfb : (f = 0 ∧ bt = 1) ∨ (f = 32 ∧ bt = 0)) (hc : f ≤ c ∧ c < f + 32) : (c < 32 ∧ dq f q = 2 * q) ∨ (32 ≤ c ∧ dq f q = q) := by
  unfold dq
  rcases hfb with ⟨e1, e2⟩ | ⟨e1, e2⟩
  · exact Or.inl ⟨by omega, if_pos (by omega)⟩
  · exact Or.inr ⟨by omega, if_neg (by omega)⟩
theorem csF_ok {S bt : Nat} {f : Int} (hfb : (f = 0 ∧ bt = 1) ∨ (f = 32 ∧ bt = 0)) : ∀ k, k < (csF S bt 128).length → okD (dq f (rad ((csF S bt 128).getD k 0))) = true := by
  intro k hk
  have h1 := csF_lt S bt 128 k hk
  have h2 := tab_ok _ h1.1
  unfold dq
  rcases hfb with ⟨e1, e2⟩ | ⟨e1, e2⟩
  · rw [e1, if_pos (by omega)]; exact h2.1 (fun q => h1.2.2 (q.trans e2.symm))
  · rw [e1, if_neg (by omega)]; exact h2.2 (fun q => h1.2.2 (q.trans e2.symm))
set_option maxRecDepth 20000 in
set_option maxHeartbeats 4000000 in
theorem r_layProducts {d : Nat} {G : zG} {A : Int → Int → Int} {P : Option zV → zG → Prop} {o : Int} (hK : RK G o) (hF : RF A o) {S : Nat} (hS : A o 1 = S) (hS7 : S < 128) (hp : pop S ≤ 5) {f : Int} {bt : Nat} (hfb : (f = 0 ∧ bt = 1) ∨ (f = 32 ∧ bt = 0)) (k : ∀ A2, (∀ k : Nat, k < (csF S bt 128).length → A2 (o + 3) (f + k) = (rad ((csF S bt 128).getD k 0) : Int)) → (∀ k : Nat, k < (csF S bt 128).length → clD A2 o (f + k) (dq f (rad ((csF S bt 128).getD k 0)))) → lpF f A A2 o → P (some (0, ((csF S bt 128).length : Int))) (gw G A2)) : ZE (d + 6) M_Ref_layProducts (gw G A) 0 [(2, o), (0, f), (0, (bt : Int)), (9, 0), (9, 0), (9, 0), (9, 0)] [] P := by
  have hML : f + ((csF S bt 128).length : Int) ≤ 63 ∧ (csF S bt 128).length ≤ 32 ∧ 0 ≤ f ∧ f ≤ 32 ∧ bt ≤ 1 := by
    have h1 := cnt_tab S hS7 hp
    have h2 := csF_len S bt 128
    rcases hfb with ⟨e1, e2⟩ | ⟨e1, e2⟩ <;> rw [e2] at h2 ⊢ <;> omega
  refine ZE.iconst (n := 0) d_Ref_layProducts_0 ?_
  refine ZE.istore_n (ls2 := [(2, o), (0, f), (0, (bt : Int)), (0, 0), (9, 0), (9, 0), (9, 0)]) d_Ref_layProducts_1 (Nat.le_of_ble_eq_true rfl) rfl ?_
  refine ZE.iconst (n := 0) d_Ref_layProducts_2 ?_
  refine ZE.istore (ls2 := [(2, o), (0, f), (0, (bt : Int)), (0, 0), (0, 0), (9, 0), (9, 0)]) d_Ref_layProducts_3 (Nat.le_of_ble_eq_true rfl) rfl ?_
  have L5 : ∀ (t : Nat) (s : Nat) (A1 : Int → Int → Int) (hs : s ≤ 128) (hQ : ∀ k : Nat, k < (csF S bt s).length → A1 (o + 3) (f + k) = (rad ((csF S bt s).getD k 0) : Int)) (g1 : lpF f A A1 o), 128 - s < t → ZE (d + 6) M_Ref_layProducts (gw G A1) 5 [(2, o), (0, f), (0, (bt : Int)), (0, ((csF S bt s).length : Int)), (0, (s : Int)), (9, 0), (9, 0)] [] P := by
    intro t
    induction t with
    | zero => intro s A1 hs hQ g1 hm; exact absurd hm (Nat.not_lt_zero _)
    | succ t ih =>
      intro s A1 hs hQ g1 hm
      have ihO := ih
      have hmO := hm
      have hA1 : RF A1 o := hF.lp g1
      have hxS : A1 o 1 = (S : Int) := by rw [g1.2.1 _ (by omega)]; exact hS
      refine ZE.iload d_Ref_layProducts_5 rfl ?_
      refine ZE.sipush (n := 128) d_Ref_layProducts_7 rfl ?_
      refine ZE.icmp_ge (tgt := 107) d_Ref_layProducts_10 rfl (by unfold zR; omega) (by unfold zR; omega) (fun c10 => ?_) (fun c10 => ?_)
      · have e1 : s = 128 := by omega
        rw [e1] at hQ ⊢
        refine ZE.iload_n d_Ref_layProducts_107 rfl ?_
        refine ZE.istore (ls2 := [(2, o), (0, f), (0, (bt : Int)), (0, ((csF S bt 128).length : Int)), (0, f), (9, 0), (9, 0)]) d_Ref_layProducts_108 (Nat.le_of_ble_eq_true rfl) rfl ?_
        refine ZE.mask [true, true, true, true, true, false, false] ?_
        show ZE (d + 6) M_Ref_layProducts (gw G A1) 110 [(2, o), (0, f), (0, (bt : Int)), (0, ((csF S bt 128).length : Int)), (0, f), (9, 0), (9, 0)] [] _
        have L110 : ∀ (t : Nat) (j : Nat) (A3 : Int → Int → Int) (hj : j ≤ (csF S bt 128).length) (hq3 : ∀ k : Nat, k < (csF S bt 128).length → A3 (o + 3) (f + k) = (rad ((csF S bt 128).getD k 0) : Int)) (hd3 : ∀ k : Nat, k < j → clD A3 o (f + k) (dq f (rad ((csF S bt 128).getD k 0)))) (g3 : lpF f A A3 o), (csF S bt 128).length - j < t → ZE (d + 6) M_Ref_layProducts (gw G A3) 110 [(2, o), (0, f), (0, (bt : Int)), (0, ((csF S bt 128).length : Int)), (0, f + (j : Int)), (9, 0), (9, 0)] [] P := by
          intro t
          induction t with
          | zero => intro j A3 hj hq3 hd3 g3 hm; exact absurd hm (Nat.not_lt_zero _)
          | succ t ih =>
            intro j A3 hj hq3 hd3 g3 hm
            have hA3 : RF A3 o := hF.lp g3
            refine ZE.iload d_Ref_layProducts_110 rfl ?_
            refine ZE.iload_n d_Ref_layProducts_112 rfl ?_
            refine ZE.iload_n d_Ref_layProducts_113 rfl ?_
            refine ZE.iadd d_Ref_layProducts_114 ?_
            refine ZE.icmp_ge (tgt := 130) d_Ref_layProducts_115 rfl (by unfold zR; omega) (by unfold zR; omega) (fun c115 => ?_) (fun c115 => ?_)
            · refine ZE.iload_n d_Ref_layProducts_130 rfl ?_
              refine ZE.iret d_Ref_layProducts_131 rfl ?_
              exact k A3 hq3 (fun k2 hk2 => hd3 k2 (by omega)) g3
            · refine ZE.aload_n d_Ref_layProducts_118 rfl ?_
              refine ZE.iload d_Ref_layProducts_119 rfl ?_
              have hok := csF_ok (S := S) hfb j (by omega)
              refine ZE.cV [(0, f + (j : Int))] [] [(2, o), (0, f + (j : Int))] d_Ref_layProducts_121 l_Ref_140 rfl rfl rfl rfl rfl rfl hK.1 ?_
              refine r_layClass (q := rad ((csF S bt 128).getD j 0)) (D := dq f (rad ((csF S bt 128).getD j 0))) (r := isq (dq f (rad ((csF S bt 128).getD j 0)))) (R := rnd (dq f (rad ((csF S bt 128).getD j 0)))) hK hA3 (by omega) (hq3 j (by omega)) (dq_or hfb (by omega)) (okD_cf hok).2 (okD_cf hok).1 (okD_ns hok).1 (fun A4 u1 u2 u3 u4 g4 => ?_)
              show ZE (d + 6) M_Ref_layProducts (gw G A4) 124 [(2, o), (0, f), (0, (bt : Int)), (0, ((csF S bt 128).length : Int)), (0, f + (j : Int)), (9, 0), (9, 0)] [] _
              refine ZE.iinc (ls2 := [(2, o), (0, f), (0, (bt : Int)), (0, ((csF S bt 128).length : Int)), (0, (f + (j : Int)) + 1), (9, 0), (9, 0)]) d_Ref_layProducts_124 rfl rfl ?_
              refine ZE.goto (tgt := 110) d_Ref_layProducts_127 rfl ?_
              rw [show f + (j : Int) + 1 = f + ((j + 1 : Nat) : Int) by omega]
              refine ih (j + 1) A4 (by omega) ?_ ?_ (g3.cl g4 (by omega)) (by omega)
              · intro k2 hk2; rw [g4.1 _ (by omega) (by omega) (by omega) (by omega)]; exact hq3 k2 hk2
              · intro k2 hk2
                by_cases q : k2 = j
                · subst q; exact ⟨u1, u2, u3, u4⟩
                · exact (hd3 k2 (by omega)).cl g4 (by omega) (by omega) (csF_ok hfb k2 (by omega))
        have L0 := L110 _ 0 A1 (by omega) hQ (fun k h => absurd h (Nat.not_lt_zero _)) g1 (Nat.lt_succ_self _)
        rw [show f + ((0 : Nat) : Int) = f by omega] at L0
        exact L0
      · refine ZE.iload d_Ref_layProducts_13 rfl ?_
        refine ZE.aload_n d_Ref_layProducts_15 rfl ?_
        refine ZE.getE (v := (S : Int)) d_Ref_layProducts_16 f_Ref_81 (tg := 0) rfl hK.1 hxS ?_
        refine ZE.iconst (n := (-1)) d_Ref_layProducts_19 ?_
        refine ZE.ixor d_Ref_layProducts_20 ?_
        refine ZE.iand d_Ref_layProducts_21 ?_
        refine ZE.if_ne (tgt := 101) d_Ref_layProducts_22 rfl (zR_and _ _) (fun c22 => ?_) (fun c22 => ?_)
        · have hcs : csF S bt (s + 1) = csF S bt s := if_neg (fun q => c22 ((cls_xor S hS7 s (by omega)).mpr q.1))
          refine ZE.iinc (ls2 := [(2, o), (0, f), (0, (bt : Int)), (0, ((csF S bt s).length : Int)), (0, (s : Int) + 1), (9, 0), (9, 0)]) d_Ref_layProducts_101 rfl rfl ?_
          refine ZE.goto (tgt := 5) d_Ref_layProducts_104 rfl ?_
          rw [show (s : Int) + 1 = ((s + 1 : Nat) : Int) by omega]
          rw [← hcs]
          refine ihO (s + 1) A1 (by omega) (by rw [hcs]; exact hQ) g1 (by omega)
        · refine ZE.iload d_Ref_layProducts_25 rfl ?_
          refine ZE.iload_n d_Ref_layProducts_27 rfl ?_
          refine ZE.icmp_ne (tgt := 34) d_Ref_layProducts_28 rfl (by unfold zR; omega) (by unfold zR; omega) (fun c28 => ?_) (fun c28 => ?_)
          · have hcs : csF S bt (s + 1) = insQ (csF S bt s) s := if_pos ⟨(cls_xor S hS7 s (by omega)).mp c22, by omega⟩
            have hl1 : (csF S bt s).length + 1 ≤ (csF S bt 128).length := by
              rw [← insQ_len (csF S bt s) s, ← hcs, csF_len, csF_len]; exact cntF_mono S bt _ _ (by omega)
            have hrs : 1 ≤ rad s ∧ rad s ≤ 510510 := rdF_le s (by omega) 7 (by omega)
            refine ZE.aload_n d_Ref_layProducts_34 rfl ?_
            refine ZE.iload d_Ref_layProducts_35 rfl ?_
            refine ZE.cV [(0, (s : Int))] [] [(2, o), (0, (s : Int)), (9, 0), (9, 0)] d_Ref_layProducts_37 l_Ref_137 rfl rfl rfl rfl rfl rfl hK.1 ?_
            refine r_radicalOf (S := s) hK hA1 (by omega) ?_
            show ZE (d + 6) M_Ref_layProducts (gw G A1) 40 [(2, o), (0, f), (0, (bt : Int)), (0, ((csF S bt s).length : Int)), (0, (s : Int)), (9, 0), (9, 0)] [(0, (rad s : Int))] _
            refine ZE.istore (ls2 := [(2, o), (0, f), (0, (bt : Int)), (0, ((csF S bt s).length : Int)), (0, (s : Int)), (0, (rad s : Int)), (9, 0)]) d_Ref_layProducts_40 (Nat.le_of_ble_eq_true rfl) rfl ?_
            refine ZE.iload_n d_Ref_layProducts_42 rfl ?_
            refine ZE.iload_n d_Ref_layProducts_43 rfl ?_
            refine ZE.iadd d_Ref_layProducts_44 ?_
            refine ZE.istore (ls2 := [(2, o), (0, f), (0, (bt : Int)), (0, ((csF S bt s).length : Int)), (0, (s : Int)), (0, (rad s : Int)), (0, f + ((csF S bt s).length : Int))]) d_Ref_layProducts_45 (Nat.le_of_ble_eq_true rfl) rfl ?_
            have L47 : ∀ (t : Nat) (j : Nat) (A2 : Int → Int → Int) (hj : j ≤ (csF S bt s).length) (hjp : jp (fun k => decide (rad s < rad ((csF S bt s).getD k 0))) j = jp (fun k => decide (rad s < rad ((csF S bt s).getD k 0))) (csF S bt s).length) (hlo : ∀ k : Nat, k < j → A2 (o + 3) (f + k) = (rad ((csF S bt s).getD k 0) : Int)) (hhi : ∀ k : Nat, j < k → k ≤ (csF S bt s).length → A2 (o + 3) (f + k) = (rad ((csF S bt s).getD (k - 1) 0) : Int)) (g2 : lpF f A A2 o), j < t → ZE (d + 6) M_Ref_layProducts (gw G A2) 47 [(2, o), (0, f), (0, (bt : Int)), (0, ((csF S bt s).length : Int)), (0, (s : Int)), (0, (rad s : Int)), (0, f + (j : Int))] [] P := by
              intro t
              induction t with
              | zero => intro j A2 hj hjp hlo hhi g2 hm; exact absurd hm (Nat.not_lt_zero _)
              | succ t ih =>
                intro j A2 hj hjp hlo hhi g2 hm
                have hA2 : RF A2 o := hF.lp g2
                rcases Nat.eq_zero_or_pos j with hj0 | hj0
                · have hfin : jp (fun k => decide (rad s < rad ((csF S bt s).getD k 0))) (csF S bt s).length = j := by rw [← hjp, hj0]; rfl
                  refine ZE.iload d_Ref_layProducts_47 rfl ?_
                  refine ZE.iload_n d_Ref_layProducts_49 rfl ?_
                  refine ZE.icmp_le (tgt := 89) d_Ref_layProducts_50 rfl (by unfold zR; omega) (by unfold zR; omega) (fun c50 => ?_) (fun c50 => ?_)
                  · refine ZE.aload_n d_Ref_layProducts_89 rfl ?_
                    refine ZE.getE (v := o + 3) d_Ref_layProducts_90 f_Ref_16 (tg := 2) rfl hK.1 hA2.a3 ?_
                    refine ZE.iload d_Ref_layProducts_93 rfl ?_
                    refine ZE.iload d_Ref_layProducts_95 rfl ?_
                    refine ZE.iast d_Ref_layProducts_97 hK.k3 (by have hn0 := hK.n3; show 0 ≤ (f + (j : Int)) ∧ (f + (j : Int)) < gn G (o + 3); omega) ?_
                    show ZE (d + 6) M_Ref_layProducts (gw G (up2 A2 (o + 3) (f + (j : Int)) (rad s : Int))) 98 [(2, o), (0, f), (0, (bt : Int)), (0, ((csF S bt s).length : Int)), (0, (s : Int)), (0, (rad s : Int)), (0, f + (j : Int))] [] _
                    refine ZE.iinc (ls2 := [(2, o), (0, f), (0, (bt : Int)), (0, ((csF S bt s).length : Int) + 1), (0, (s : Int)), (0, (rad s : Int)), (0, f + (j : Int))]) d_Ref_layProducts_98 rfl rfl ?_
                    refine ZE.iinc (ls2 := [(2, o), (0, f), (0, (bt : Int)), (0, ((csF S bt s).length : Int) + 1), (0, (s : Int) + 1), (0, (rad s : Int)), (0, f + (j : Int))]) d_Ref_layProducts_101 rfl rfl ?_
                    refine ZE.goto (tgt := 5) d_Ref_layProducts_104 rfl ?_
                    refine ZE.mask [true, true, true, true, true, false, false] ?_
                    show ZE (d + 6) M_Ref_layProducts (gw G (up2 A2 (o + 3) (f + (j : Int)) (rad s : Int))) 5 [(2, o), (0, f), (0, (bt : Int)), (0, ((csF S bt s).length : Int) + 1), (0, (s : Int) + 1), (9, 0), (9, 0)] [] _
                    rw [show (s : Int) + 1 = ((s + 1 : Nat) : Int) by omega]
                    have hsl : ((csF S bt s).length : Int) + 1 = ((csF S bt (s + 1)).length : Int) := by rw [hcs, insQ_len]; omega
                    rw [hsl]
                    refine ihO (s + 1) _ (by omega) ?_ (g2.up (by omega)) (by omega)
                    intro k2 hk2
                    rw [hcs, insQ_len] at hk2
                    rw [hcs, insQ_get, hfin]
                    by_cases c1 : k2 < j
                    · rw [if_pos c1, up2_ne _ _ (by omega)]; exact hlo k2 c1
                    · rw [if_neg c1]
                      by_cases c2 : k2 = j
                      · rw [if_pos c2, c2]; exact up2_at _ _ _ _
                      · rw [if_neg c2, up2_ne _ _ (by omega)]; exact hhi k2 (by omega) (by omega)
                  · exact absurd c50 (by omega)
                · obtain ⟨i, rfl⟩ : ∃ i, j = i + 1 := ⟨j - 1, by omega⟩
                  have hv := hlo i (by omega)
                  have hb := rdF_le ((csF S bt s).getD i 0) (by have := (csF_lt S bt s i (by omega)).1; omega) 7 (by omega)
                  have hbq : 1 ≤ rad ((csF S bt s).getD i 0) ∧ rad ((csF S bt s).getD i 0) ≤ 510510 := hb
                  refine ZE.iload d_Ref_layProducts_47 rfl ?_
                  refine ZE.iload_n d_Ref_layProducts_49 rfl ?_
                  refine ZE.icmp_le (tgt := 89) d_Ref_layProducts_50 rfl (by unfold zR; omega) (by unfold zR; omega) (fun c50 => ?_) (fun c50 => ?_)
                  · exact absurd c50 (by omega)
                  · refine ZE.aload_n d_Ref_layProducts_53 rfl ?_
                    refine ZE.getE (v := o + 3) d_Ref_layProducts_54 f_Ref_16 (tg := 2) rfl hK.1 hA2.a3 ?_
                    refine ZE.iload d_Ref_layProducts_57 rfl ?_
                    refine ZE.iconst (n := 1) d_Ref_layProducts_59 ?_
                    refine ZE.isub d_Ref_layProducts_60 ?_
                    rw [show ((f + ((i + 1 : Nat) : Int)) - 1 : Int) = f + (i : Int) from (by omega)]
                    refine ZE.ialdE (v := (rad ((csF S bt s).getD i 0) : Int)) d_Ref_layProducts_61 hK.k3 (by have hn0 := hK.n3; show 0 ≤ (f + (i : Int)) ∧ (f + (i : Int)) < gn G (o + 3); omega) hv ?_
                    refine ZE.iload d_Ref_layProducts_62 rfl ?_
                    refine ZE.icmp_le (tgt := 89) d_Ref_layProducts_64 rfl (by unfold zR; omega) (by unfold zR; omega) (fun c64 => ?_) (fun c64 => ?_)
                    · have hfin : jp (fun k => decide (rad s < rad ((csF S bt s).getD k 0))) (csF S bt s).length = i + 1 := by rw [← hjp]; exact jp_f (decide_eq_false (by omega))
                      refine ZE.aload_n d_Ref_layProducts_89 rfl ?_
                      refine ZE.getE (v := o + 3) d_Ref_layProducts_90 f_Ref_16 (tg := 2) rfl hK.1 hA2.a3 ?_
                      refine ZE.iload d_Ref_layProducts_93 rfl ?_
                      refine ZE.iload d_Ref_layProducts_95 rfl ?_
                      refine ZE.iast d_Ref_layProducts_97 hK.k3 (by have hn0 := hK.n3; show 0 ≤ (f + ((i + 1 : Nat) : Int)) ∧ (f + ((i + 1 : Nat) : Int)) < gn G (o + 3); omega) ?_
                      show ZE (d + 6) M_Ref_layProducts (gw G (up2 A2 (o + 3) (f + ((i + 1 : Nat) : Int)) (rad s : Int))) 98 [(2, o), (0, f), (0, (bt : Int)), (0, ((csF S bt s).length : Int)), (0, (s : Int)), (0, (rad s : Int)), (0, f + ((i + 1 : Nat) : Int))] [] _
                      refine ZE.iinc (ls2 := [(2, o), (0, f), (0, (bt : Int)), (0, ((csF S bt s).length : Int) + 1), (0, (s : Int)), (0, (rad s : Int)), (0, f + ((i + 1 : Nat) : Int))]) d_Ref_layProducts_98 rfl rfl ?_
                      refine ZE.iinc (ls2 := [(2, o), (0, f), (0, (bt : Int)), (0, ((csF S bt s).length : Int) + 1), (0, (s : Int) + 1), (0, (rad s : Int)), (0, f + ((i + 1 : Nat) : Int))]) d_Ref_layProducts_101 rfl rfl ?_
                      refine ZE.goto (tgt := 5) d_Ref_layProducts_104 rfl ?_
                      refine ZE.mask [true, true, true, true, true, false, false] ?_
                      show ZE (d + 6) M_Ref_layProducts (gw G (up2 A2 (o + 3) (f + ((i + 1 : Nat) : Int)) (rad s : Int))) 5 [(2, o), (0, f), (0, (bt : Int)), (0, ((csF S bt s).length : Int) + 1), (0, (s : Int) + 1), (9, 0), (9, 0)] [] _
                      rw [show (s : Int) + 1 = ((s + 1 : Nat) : Int) by omega]
                      have hsl : ((csF S bt s).length : Int) + 1 = ((csF S bt (s + 1)).length : Int) := by rw [hcs, insQ_len]; omega
                      rw [hsl]
                      refine ihO (s + 1) _ (by omega) ?_ (g2.up (by omega)) (by omega)
                      intro k2 hk2
                      rw [hcs, insQ_len] at hk2
                      rw [hcs, insQ_get, hfin]
                      by_cases c1 : k2 < (i + 1)
                      · rw [if_pos c1, up2_ne _ _ (by omega)]; exact hlo k2 c1
                      · rw [if_neg c1]
                        by_cases c2 : k2 = (i + 1)
                        · rw [if_pos c2, c2]; exact up2_at _ _ _ _
                        · rw [if_neg c2, up2_ne _ _ (by omega)]; exact hhi k2 (by omega) (by omega)
                    · refine ZE.aload_n d_Ref_layProducts_67 rfl ?_
                      refine ZE.getE (v := o + 3) d_Ref_layProducts_68 f_Ref_16 (tg := 2) rfl hK.1 hA2.a3 ?_
                      refine ZE.iload d_Ref_layProducts_71 rfl ?_
                      refine ZE.aload_n d_Ref_layProducts_73 rfl ?_
                      refine ZE.getE (v := o + 3) d_Ref_layProducts_74 f_Ref_16 (tg := 2) rfl hK.1 hA2.a3 ?_
                      refine ZE.iload d_Ref_layProducts_77 rfl ?_
                      refine ZE.iconst (n := 1) d_Ref_layProducts_79 ?_
                      refine ZE.isub d_Ref_layProducts_80 ?_
                      rw [show ((f + ((i + 1 : Nat) : Int)) - 1 : Int) = f + (i : Int) from (by omega)]
                      refine ZE.ialdE (v := (rad ((csF S bt s).getD i 0) : Int)) d_Ref_layProducts_81 hK.k3 (by have hn0 := hK.n3; show 0 ≤ (f + (i : Int)) ∧ (f + (i : Int)) < gn G (o + 3); omega) hv ?_
                      refine ZE.iast d_Ref_layProducts_82 hK.k3 (by have hn0 := hK.n3; show 0 ≤ (f + ((i + 1 : Nat) : Int)) ∧ (f + ((i + 1 : Nat) : Int)) < gn G (o + 3); omega) ?_
                      show ZE (d + 6) M_Ref_layProducts (gw G (up2 A2 (o + 3) (f + ((i + 1 : Nat) : Int)) (rad ((csF S bt s).getD i 0) : Int))) 83 [(2, o), (0, f), (0, (bt : Int)), (0, ((csF S bt s).length : Int)), (0, (s : Int)), (0, (rad s : Int)), (0, f + ((i + 1 : Nat) : Int))] [] _
                      refine ZE.iinc (ls2 := [(2, o), (0, f), (0, (bt : Int)), (0, ((csF S bt s).length : Int)), (0, (s : Int)), (0, (rad s : Int)), (0, (f + ((i + 1 : Nat) : Int)) + (-1))]) d_Ref_layProducts_83 rfl rfl ?_
                      refine ZE.goto (tgt := 47) d_Ref_layProducts_86 rfl ?_
                      rw [show f + ((i + 1 : Nat) : Int) + (-1) = f + (i : Int) by omega]
                      refine ih i _ (by omega) ?_ ?_ ?_ ?_ (by omega)
                      · rw [← hjp]; exact (jp_t (decide_eq_true (by omega))).symm
                      · intro k2 hk2; rw [up2_ne _ _ (by omega)]; exact hlo k2 (by omega)
                      · intro k2 hk2 hk3
                        by_cases q : k2 = i + 1
                        · subst q; rw [Nat.add_sub_cancel]; exact (up2_at _ _ _ _)
                        · rw [up2_ne _ _ (by omega)]; exact hhi k2 (by omega) hk3
                      · exact g2.up (by omega)
            exact L47 _ (csF S bt s).length A1 (Nat.le_refl _) rfl hQ (fun k h1 h2 => absurd h1 (by omega)) g1 (Nat.lt_succ_self _)
          · have hcs : csF S bt (s + 1) = csF S bt s := if_neg (fun q => q.2 (by omega))
            refine ZE.goto (tgt := 101) d_Ref_layProducts_31 rfl ?_
            refine ZE.iinc (ls2 := [(2, o), (0, f), (0, (bt : Int)), (0, ((csF S bt s).length : Int)), (0, (s : Int) + 1), (9, 0), (9, 0)]) d_Ref_layProducts_101 rfl rfl ?_
            refine ZE.goto (tgt := 5) d_Ref_layProducts_104 rfl ?_
            rw [show (s : Int) + 1 = ((s + 1 : Nat) : Int) by omega]
            rw [← hcs]
            refine ihO (s + 1) A1 (by omega) (by rw [hcs]; exact hQ) g1 (by omega)
  exact L5 _ 0 A (by omega) (fun k h => absurd h (Nat.not_lt_zero _)) lpF.rf (Nat.lt_succ_self _)
