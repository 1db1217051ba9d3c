def sR (G : zG) (A : Int → Int → Int) (s E0 : Int) (ap S : Nat) : Prop := sK G s ∧ sF A s ap ∧ kP G A s E0 ap ∧ nSe A s ap S ∧ (s + 46 ≤ E0 ∧ E0 ≤ (gz G : Int)) ∧ (ap = 1 ∨ ap = 2) ∧ S < 128 ∧ pop S ≤ 5
section SR
variable {G : zG} {A : Int → Int → Int} {s E0 : Int} {ap S : Nat}
theorem sR.K (h : sR G A s E0 ap S) : sK G s := h.1
theorem sR.F (h : sR G A s E0 ap S) : sF A s ap := h.2.1
theorem sR.P (h : sR G A s E0 ap S) : kP G A s E0 ap := h.2.2.1
theorem sR.N (h : sR G A s E0 ap S) : nSe A s ap S := h.2.2.2.1
theorem sR.E (h : sR G A s E0 ap S) : s + 46 ≤ E0 ∧ E0 ≤ (gz G : Int) := h.2.2.2.2.1
theorem sR.apx (h : sR G A s E0 ap S) : ap = 1 ∨ ap = 2 := h.2.2.2.2.2.1
theorem sR.s7 (h : sR G A s E0 ap S) : S < 128 := h.2.2.2.2.2.2.1
theorem sR.p5 (h : sR G A s E0 ap S) : pop S ≤ 5 := h.2.2.2.2.2.2.2
theorem sR.un (h : sR G A s E0 ap S) {c : Nat} (hc : c < (csA ap S).length) : kU G A E0 ap (eA ap S c) (A (s + 29) c) := h.P.un hc (h.N.2.1 c hc)
theorem sR.fr (h : sR G A s E0 ap S) {c : Nat} (hc : c < (csA ap S).length) : frD (DD ap (eA ap S c)) := frD_DD h.apx (eA_lt hc).1 (eA_pop h.s7 h.p5 hc) (eA_lt hc).2.2
theorem sR.c32 (h : sR G A s E0 ap S) : (csA ap S).length ≤ 32 := csA_32 h.apx h.s7 h.p5
theorem sR.l64 (h : sR G A s E0 ap S) : (prL ap S).length ≤ 64 := (prL_nd h.apx h.s7 h.p5).2
/-- couple k -/
def cA (A : Int → Int → Int) (s : Int) (k : Nat) : Int := A (s + 30) k
def nN (ap S k : Nat) : Nat := ((prL ap S).getD k pD).1
def nC (ap S k : Nat) : Nat := ((prL ap S).getD k pD).2.1
def nIx (ap S k : Nat) : Nat := ((prL ap S).getD k pD).2.2
theorem sR.cp (h : sR G A s E0 ap S) {k : Nat} (hk : k < (prL ap S).length) : E0 ≤ A (s + 30) k ∧ A (s + 30) k + 5 ≤ (gz G : Int) ∧ cP G A (A (s + 30) k) (nN ap S k) (nIx ap S k) ap ∧ A (A (s + 30) k) 5 = (nC ap S k : Int) ∧ isC G A (A (s + 30) k) ap := by
  have ht : okT ap S (csA ap S).length ((prL ap S).getD k pD) := prA_ok (ap := ap) (S := S) _ k hk
  have hb := bnd_le S h.s7
  have hu := h.un ht.1
  have h3 := hu.cp h.apx h.s7 h.p5 ht.1 ⟨ht.2.1, by have := ht.2.2.1; omega⟩ ht.2.2.2.2
  have h5 := h.N.2.2 k hk
  rw [← ht.2.2.2.1] at h3
  rw [← h5.1] at h3
  have h4 := hu.1
  exact ⟨by omega, h3.2.1, h3.2.2.1, h5.2, h3.2.2.2⟩
theorem nN_ok (hap : ap = 1 ∨ ap = 2) (hS : S < 128) (hp : pop S ≤ 5) {k : Nat} (hk : k < (prL ap S).length) : 1 ≤ nN ap S k ∧ nN ap S k < 1000000000 ∧ nC ap S k < (csA ap S).length ∧ 1 ≤ nIx ap S k ∧ nIx ap S k ≤ 9 := by
  unfold nN nC nIx
  rcases hap with rfl | rfl
  · rw [prL_1 hS hp] at hk ⊢
    exact prs_ok hS hp hk
  · rw [prL_2 hS hp] at hk ⊢
    exact tws_ok hS hp hk
theorem sR.v (h : sR G A s E0 ap S) {k : Nat} (hk : k < (prL ap S).length) : 1 ≤ nN ap S k ∧ nN ap S k < 1000000000 ∧ nC ap S k < (csA ap S).length ∧ 1 ≤ nIx ap S k ∧ nIx ap S k ≤ 9 := nN_ok h.apx h.s7 h.p5 hk
theorem sR.n11 (h : sR G A s E0 ap S) : A s 11 = ((csA ap S).length : Int) := h.N.1.2.2.1
theorem sR.n12 (h : sR G A s E0 ap S) : A s 12 = ((prL ap S).length : Int) := h.N.1.2.2.2
/-- what a question changes in a search -/
def qF (A B : Int → Int → Int) (s : Int) : Prop := (∀ a : Int, a ≠ s + 31 → a ≠ s + 32 → B a = A a) ∧ B (s + 31) 0 = s + 31 + 1
theorem qF.tr {A B C : Int → Int → Int} {s : Int} (h : qF A B s) (g : qF B C s) : qF A C s := ⟨fun a h1 h2 => (g.1 a h1 h2).trans (h.1 a h1 h2), g.2⟩
theorem bF.qf {A B : Int → Int → Int} {s : Int} (h : bF A B (s + 31)) {v : Nat} (g : bN B (s + 31) v) : qF A B s := ⟨fun a h1 h2 => h a h1 (by omega), g.1⟩
theorem sR.rfq (h : sR G A s E0 ap S) : qF A A s := ⟨fun _ _ _ => rfl, h.F.2.2.2.2.2.2.2.2.2.2.2⟩
theorem nSe.row {A B : Int → Int → Int} (h : nSe A s ap S) (e0 : B s = A s) (e1 : B (s + 28) = A (s + 28)) (e2 : B (s + 29) = A (s + 29)) (e3 : B (s + 30) = A (s + 30)) (e4 : ∀ k : Nat, k < (prL ap S).length → B (A (s + 29) (((prL ap S).getD k pD).2.1 : Nat) + 8) = A (A (s + 29) (((prL ap S).getD k pD).2.1 : Nat) + 8) ∧ B (A (s + 30) k) 5 = A (A (s + 30) k) 5) : nSe B s ap S := by
  unfold nSe
  rw [e0, e1, e2, e3]
  refine ⟨h.1, h.2.1, fun k hk => ?_⟩
  rw [(e4 k hk).1, (e4 k hk).2]
  exact h.2.2 k hk
theorem sR.q {B : Int → Int → Int} (h : sR G A s E0 ap S) (g : qF A B s) : sR G B s E0 ap S := by
  have hE := h.E
  have hs0 := h.K.2.1
  have e : ∀ a : Int, a < s + 31 ∨ s + 32 < a → B a = A a := fun a ha => g.1 a (by omega) (by omega)
  refine ⟨h.K, ?_, h.P.saf gR.rf (fun a h1 h2 => Or.inl (e a (by omega))) (e _ (by omega)), h.N.row (e _ (by omega)) (e _ (by omega)) (e _ (by omega)) (e _ (by omega)) (fun k hk => ?_), h.E, h.apx, h.s7, h.p5⟩
  · obtain ⟨f0, f1, f2, f3, f4, f5, f6, f7, f8, f9, f10, f11⟩ := h.F
    have es := e s (by omega)
    exact ⟨(congrFun es _).trans f0, (congrFun es _).trans f1, (congrFun es _).trans f2, (congrFun es _).trans f3, (congrFun es _).trans f4, (congrFun es _).trans f5, (congrFun es _).trans f6, (congrFun es _).trans f7, (congrFun es _).trans f8, f9.ab (fun a h1 h2 => e a (by omega)), f10.ab (fun a h1 h2 => e a (by omega)), g.2⟩
  · have ht : okT ap S (csA ap S).length ((prL ap S).getD k pD) := prA_ok (ap := ap) (S := S) _ k hk
    have hu := (h.un ht.1).1
    have hc := (h.cp hk).1
    exact ⟨e _ (by omega), congrFun (e _ (by omega)) _⟩
end SR
def snV (ap S : Nat) (p : Int) : Int := if 0 ≤ p ∧ p < ((prL ap S).length : Int) then (nN ap S p.toNat : Int) else -1
set_option maxRecDepth 20000 in
set_option maxHeartbeats 4000000 in
theorem s_smallAt {d : Nat} {G : zG} {A : Int → Int → Int} {P : Option zV → zG → Prop} {s E0 : Int} {ap S : Nat} (hR : sR G A s E0 ap S) {p : Int} (hp : zR p) (k : P (some (0, snV ap S p)) (gw G A)) : ZE (d + 2) M_Sea_smallAt (gw G A) 0 [(2, s), (0, p)] [] P := by
  have hs0 := hR.K.2.1
  have hE0 := hR.E
  have hL64 := hR.l64
  have hC32 := hR.c32
  refine ZE.aload_n d_Sea_smallAt_0 rfl ?_
  refine ZE.iload_n d_Sea_smallAt_1 rfl ?_
  refine ZE.cV [(0, p)] [] [(2, s), (0, p)] d_Sea_smallAt_2 l_Sea_146 rfl rfl rfl rfl rfl rfl hR.K.1 ?_
  refine s_isCouple (d := d + 1) hR.K hR.F hR.n12 hL64 hp ?_
  show ZE (d + 2) M_Sea_smallAt (gw G A) 5 [(2, s), (0, p)] [(0, b2i (0 ≤ p ∧ p < ((prL ap S).length : Int)))] _
  refine ZE.if_eq (tgt := 22) d_Sea_smallAt_5 rfl (zR_b2i _) (fun c5 => ?_) (fun c5 => ?_)
  · replace c5 := b2i_0.mp c5
    refine ZE.iconst (n := (-1)) d_Sea_smallAt_22 ?_
    refine ZE.iret d_Sea_smallAt_23 rfl ?_
    have e1 : snV ap S p = -1 := if_neg c5
    rw [e1] at k
    exact k
  · replace c5 := b2i_n0.mp c5
    obtain ⟨pn, hpn⟩ : ∃ pn : Nat, p = (pn : Int) := ⟨p.toNat, by omega⟩
    subst hpn
    refine ZE.aload_n d_Sea_smallAt_8 rfl ?_
    refine ZE.iload_n d_Sea_smallAt_9 rfl ?_
    have hc1 := hR.cp (k := pn) (by omega)
    have hvk := hR.v (k := pn) (by omega)
    refine ZE.cV [(0, (pn : Int))] [] [(2, s), (0, (pn : Int)), (9, 0)] d_Sea_smallAt_10 l_Sea_135 rfl rfl rfl rfl rfl rfl hR.K.1 ?_
    refine s_coupleAt (d := d + 1) hR.K hR.F hR.n12 hL64 (k1 := pn) (by omega) (v1 := A (s + 30) (pn : Int)) rfl (by omega) ?_
    show ZE (d + 2) M_Sea_smallAt (gw G A) 13 [(2, s), (0, (pn : Int))] [(2, A (s + 30) (pn : Int))] _
    refine ZE.getE (v := A (s + 30) (pn : Int) + 3) d_Sea_smallAt_13 f_Sea_139 (tg := 2) rfl hc1.2.2.1.1.1 hc1.2.2.1.2.1 ?_
    refine ZE.cV [] [] [(2, A (s + 30) (pn : Int) + 3)] d_Sea_smallAt_16 l_Sea_150 rfl rfl rfl rfl rfl rfl hc1.2.2.1.1.2.2.2.2.1 ?_
    refine B_asInt (d := d) hc1.2.2.1.1.2.2.2.2 hc1.2.2.1.2.2.2.2.2.2.1 (Nat.le_refl _) ?_
    show ZE (d + 2) M_Sea_smallAt (gw G A) 19 [(2, s), (0, (pn : Int))] [(0, if nN ap S pn < 1000000000 then (nN ap S pn : Int) else -1)] _
    refine ZE.goto (tgt := 23) d_Sea_smallAt_19 rfl ?_
    refine ZE.iret d_Sea_smallAt_23 rfl ?_
    have e1 : snV ap S (pn : Int) = (nN ap S pn : Int) := by unfold snV; rw [if_pos (by omega), Int.toNat_natCast]
    rw [e1] at k
    rw [if_pos (show nN ap S pn < 1000000000 by omega)]
    exact k
set_option maxRecDepth 20000 in
set_option maxHeartbeats 4000000 in
theorem s_indexesOf {d : Nat} {G : zG} {A : Int → Int → Int} {P : Option zV → zG → Prop} {s E0 : Int} {ap S : Nat} (hR : sR G A s E0 ap S) (hL : lG G A) {cn : Nat} (hcn : cn < (csA ap S).length) (k : P (some (0, ((ix (gA ap S cn) (bnd S) : Nat) : Int))) (gw G A)) : ZE (d + 4) M_Sea_indexesOf (gw G A) 0 [(2, s), (0, (cn : Int))] [] P := by
  have hs0 := hR.K.2.1
  have hE0 := hR.E
  have hL64 := hR.l64
  have hC32 := hR.c32
  refine ZE.aload_n d_Sea_indexesOf_0 rfl ?_
  refine ZE.iload_n d_Sea_indexesOf_1 rfl ?_
  have hu := hR.un (c := cn) (by omega)
  refine ZE.cV [(0, (cn : Int))] [] [(2, s), (0, (cn : Int)), (9, 0)] d_Sea_indexesOf_2 l_Sea_97 rfl rfl rfl rfl rfl rfl hR.K.1 ?_
  refine s_unitAt (d := d + 3) hR.K hR.F hR.n11 hC32 (k1 := cn) (by omega) (v1 := A (s + 29) (cn : Int)) rfl (by have := hu.1; omega) ?_
  show ZE (d + 4) M_Sea_indexesOf (gw G A) 5 [(2, s), (0, (cn : Int))] [(2, A (s + 29) (cn : Int))] _
  refine ZE.aload_n d_Sea_indexesOf_5 rfl ?_
  refine ZE.getE (v := (S : Int)) d_Sea_indexesOf_6 f_Sea_56 (tg := 0) rfl hR.K.1 hR.N.1.1 ?_
  refine ZE.cV [(0, (S : Int))] [] [(2, A (s + 29) (cn : Int)), (0, (S : Int)), (9, 0), (9, 0), (9, 0)] d_Sea_indexesOf_9 l_Sea_108 rfl rfl rfl rfl rfl rfl hu.2.2.1.1 ?_
  refine u_indexesFor (d := d) hu.2.2.1 hu.2.2.2.1 hu.2.2.2.2 hL hR.s7 ?_
  show ZE (d + 4) M_Sea_indexesOf (gw G A) 12 [(2, s), (0, (cn : Int))] [(0, ((ix (gA ap S cn) (bnd S) : Nat) : Int))] _
  refine ZE.iret d_Sea_indexesOf_12 rfl ?_
  exact k
set_option maxRecDepth 20000 in
set_option maxHeartbeats 4000000 in
theorem s_negatives {d : Nat} {G : zG} {A : Int → Int → Int} {P : Option zV → zG → Prop} {s E0 : Int} {ap S : Nat} (hR : sR G A s E0 ap S) (k : P (some (0, (cnt (fun k => decide (rnd (DD ap (eA ap S k)) % 2 = 1)) (csA ap S).length : Int))) (gw G A)) : ZE (d + 1) M_Sea_negatives (gw G A) 0 [(2, s), (9, 0), (9, 0)] [] P := by
  have hs0 := hR.K.2.1
  have hE0 := hR.E
  have hL64 := hR.l64
  have hC32 := hR.c32
  refine ZE.iconst (n := 0) d_Sea_negatives_0 ?_
  refine ZE.istore_n (ls2 := [(2, s), (0, 0), (9, 0)]) d_Sea_negatives_1 (Nat.le_of_ble_eq_true rfl) rfl ?_
  refine ZE.iconst (n := 0) d_Sea_negatives_2 ?_
  refine ZE.istore_n (ls2 := [(2, s), (0, 0), (0, 0)]) d_Sea_negatives_3 (Nat.le_of_ble_eq_true rfl) rfl ?_
  have L4 : ∀ (tt0 : Nat) (j : Nat) (hj : j ≤ (csA ap S).length), (csA ap S).length + 1 - j < tt0 → ZE (d + 1) M_Sea_negatives (gw G A) 4 [(2, s), (0, (cnt (fun k => decide (rnd (DD ap (eA ap S k)) % 2 = 1)) j : Int)), (0, (j : Int))] [] P := by
    intro tt0
    induction tt0 with
    | zero => intro j hj hm; exact absurd hm (Nat.not_lt_zero _)
    | succ tt0 ih =>
      intro j hj hm
      refine ZE.iload_n d_Sea_negatives_4 rfl ?_
      refine ZE.aload_n d_Sea_negatives_5 rfl ?_
      refine ZE.getE (v := ((csA ap S).length : Int)) d_Sea_negatives_6 f_Sea_79 (tg := 0) rfl hR.K.1 hR.n11 ?_
      refine ZE.icmp_ge (tgt := 37) d_Sea_negatives_9 rfl (by unfold zR; omega) (by unfold zR; omega) (fun c9 => ?_) (fun c9 => ?_)
      · refine ZE.iload_n d_Sea_negatives_37 rfl ?_
        refine ZE.iret d_Sea_negatives_38 rfl ?_
        have hje : j = (csA ap S).length := by omega
        subst hje
        exact k
      · refine ZE.iload_n d_Sea_negatives_12 rfl ?_
        refine ZE.aload_n d_Sea_negatives_13 rfl ?_
        refine ZE.iload_n d_Sea_negatives_14 rfl ?_
        have hu := hR.un (c := j) (by omega)
        refine ZE.cV [(0, (j : Int))] [(0, (cnt (fun k => decide (rnd (DD ap (eA ap S k)) % 2 = 1)) j : Int))] [(2, s), (0, (j : Int)), (9, 0)] d_Sea_negatives_15 l_Sea_97 rfl rfl rfl rfl rfl rfl hR.K.1 ?_
        refine s_unitAt (d := d) hR.K hR.F hR.n11 hC32 (k1 := j) (by omega) (v1 := A (s + 29) (j : Int)) rfl (by have := hu.1; omega) ?_
        show ZE (d + 1) M_Sea_negatives (gw G A) 18 [(2, s), (0, (cnt (fun k => decide (rnd (DD ap (eA ap S k)) % 2 = 1)) j : Int)), (0, (j : Int))] [(2, A (s + 29) (j : Int)), (0, (cnt (fun k => decide (rnd (DD ap (eA ap S k)) % 2 = 1)) j : Int))] _
        refine ZE.cV [] [(0, (cnt (fun k => decide (rnd (DD ap (eA ap S k)) % 2 = 1)) j : Int))] [(2, A (s + 29) (j : Int))] d_Sea_negatives_18 l_Sea_154 rfl rfl rfl rfl rfl rfl hu.2.2.1.1 ?_
        refine u_isNegative (d := d) hu.2.2.1 hu.2.2.2.1 (frD_b (hR.fr (c := j) (by omega))).2.2.1 ?_
        show ZE (d + 1) M_Sea_negatives (gw G A) 21 [(2, s), (0, (cnt (fun k => decide (rnd (DD ap (eA ap S k)) % 2 = 1)) j : Int)), (0, (j : Int))] [(0, b2i (rnd (DD ap (eA ap S j)) % 2 = 1)), (0, (cnt (fun k => decide (rnd (DD ap (eA ap S k)) % 2 = 1)) j : Int))] _
        refine ZE.if_eq (tgt := 28) d_Sea_negatives_21 rfl (zR_b2i _) (fun c21 => ?_) (fun c21 => ?_)
        · replace c21 := b2i_0.mp c21
          refine ZE.iconst (n := 0) d_Sea_negatives_28 ?_
          refine ZE.iadd d_Sea_negatives_29 ?_
          rw [show ((cnt (fun k => decide (rnd (DD ap (eA ap S k)) % 2 = 1)) j : Int) + 0 : Int) = (cnt (fun k => decide (rnd (DD ap (eA ap S k)) % 2 = 1)) (j + 1) : Int) from (by rw [show cnt (fun k => decide (rnd (DD ap (eA ap S k)) % 2 = 1)) (j + 1) = cnt (fun k => decide (rnd (DD ap (eA ap S k)) % 2 = 1)) j from if_neg (fun q => c21 (of_decide_eq_true q))]; omega)]
          refine ZE.istore_n (ls2 := [(2, s), (0, (cnt (fun k => decide (rnd (DD ap (eA ap S k)) % 2 = 1)) (j + 1) : Int)), (0, (j : Int))]) d_Sea_negatives_30 (Nat.le_of_ble_eq_true rfl) rfl ?_
          refine ZE.iinc (ls2 := [(2, s), (0, (cnt (fun k => decide (rnd (DD ap (eA ap S k)) % 2 = 1)) (j + 1) : Int)), (0, (j : Int) + 1)]) d_Sea_negatives_31 rfl rfl ?_
          refine ZE.goto (tgt := 4) d_Sea_negatives_34 rfl ?_
          rw [show (j : Int) + 1 = ((j + 1 : Nat) : Int) by omega]
          exact ih (j + 1) (by omega) (by omega)
        · replace c21 := b2i_n0.mp c21
          refine ZE.iconst (n := 1) d_Sea_negatives_24 ?_
          refine ZE.goto (tgt := 29) d_Sea_negatives_25 rfl ?_
          refine ZE.iadd d_Sea_negatives_29 ?_
          rw [show ((cnt (fun k => decide (rnd (DD ap (eA ap S k)) % 2 = 1)) j : Int) + 1 : Int) = (cnt (fun k => decide (rnd (DD ap (eA ap S k)) % 2 = 1)) (j + 1) : Int) from (by rw [show cnt (fun k => decide (rnd (DD ap (eA ap S k)) % 2 = 1)) (j + 1) = cnt (fun k => decide (rnd (DD ap (eA ap S k)) % 2 = 1)) j + 1 from if_pos (decide_eq_true c21)]; omega)]
          refine ZE.istore_n (ls2 := [(2, s), (0, (cnt (fun k => decide (rnd (DD ap (eA ap S k)) % 2 = 1)) (j + 1) : Int)), (0, (j : Int))]) d_Sea_negatives_30 (Nat.le_of_ble_eq_true rfl) rfl ?_
          refine ZE.iinc (ls2 := [(2, s), (0, (cnt (fun k => decide (rnd (DD ap (eA ap S k)) % 2 = 1)) (j + 1) : Int)), (0, (j : Int) + 1)]) d_Sea_negatives_31 rfl rfl ?_
          refine ZE.goto (tgt := 4) d_Sea_negatives_34 rfl ?_
          rw [show (j : Int) + 1 = ((j + 1 : Nat) : Int) by omega]
          exact ih (j + 1) (by omega) (by omega)
  exact L4 _ 0 (Nat.zero_le _) (Nat.lt_succ_self _)
set_option maxRecDepth 20000 in
set_option maxHeartbeats 4000000 in
theorem s_clsWith {d : Nat} {G : zG} {A : Int → Int → Int} {P : Option zV → zG → Prop} {s E0 : Int} {ap S : Nat} (hR : sR G A s E0 ap S) (hL : lG G A) (k : P (some (0, (cnt (fun k => decide (ix (gA ap S k) (bnd S) ≠ 0)) (csA ap S).length : Int))) (gw G A)) : ZE (d + 5) M_Sea_classesWithCouples (gw G A) 0 [(2, s), (9, 0), (9, 0)] [] P := by
  have hs0 := hR.K.2.1
  have hE0 := hR.E
  have hL64 := hR.l64
  have hC32 := hR.c32
  have hb9 := bnd_le S hR.s7
  refine ZE.iconst (n := 0) d_Sea_classesWithCouples_0 ?_
  refine ZE.istore_n (ls2 := [(2, s), (0, 0), (9, 0)]) d_Sea_classesWithCouples_1 (Nat.le_of_ble_eq_true rfl) rfl ?_
  refine ZE.iconst (n := 0) d_Sea_classesWithCouples_2 ?_
  refine ZE.istore_n (ls2 := [(2, s), (0, 0), (0, 0)]) d_Sea_classesWithCouples_3 (Nat.le_of_ble_eq_true rfl) rfl ?_
  have L4 : ∀ (tt0 : Nat) (j : Nat) (hj : j ≤ (csA ap S).length), (csA ap S).length + 1 - j < tt0 → ZE (d + 5) M_Sea_classesWithCouples (gw G A) 4 [(2, s), (0, (cnt (fun k => decide (ix (gA ap S k) (bnd S) ≠ 0)) j : Int)), (0, (j : Int))] [] P := by
    intro tt0
    induction tt0 with
    | zero => intro j hj hm; exact absurd hm (Nat.not_lt_zero _)
    | succ tt0 ih =>
      intro j hj hm
      refine ZE.iload_n d_Sea_classesWithCouples_4 rfl ?_
      refine ZE.aload_n d_Sea_classesWithCouples_5 rfl ?_
      refine ZE.getE (v := ((csA ap S).length : Int)) d_Sea_classesWithCouples_6 f_Sea_79 (tg := 0) rfl hR.K.1 hR.n11 ?_
      refine ZE.icmp_ge (tgt := 34) d_Sea_classesWithCouples_9 rfl (by unfold zR; omega) (by unfold zR; omega) (fun c9 => ?_) (fun c9 => ?_)
      · refine ZE.iload_n d_Sea_classesWithCouples_34 rfl ?_
        refine ZE.iret d_Sea_classesWithCouples_35 rfl ?_
        have hje : j = (csA ap S).length := by omega
        subst hje
        exact k
      · refine ZE.iload_n d_Sea_classesWithCouples_12 rfl ?_
        refine ZE.aload_n d_Sea_classesWithCouples_13 rfl ?_
        refine ZE.iload_n d_Sea_classesWithCouples_14 rfl ?_
        have h9 := ix_lt (g := gA ap S j) (bnd S)
        have h29 : 2 ^ bnd S ≤ 2 ^ 9 := Nat.pow_le_pow_right (by omega) (by omega)
        refine ZE.cV [(0, (j : Int))] [(0, (cnt (fun k => decide (ix (gA ap S k) (bnd S) ≠ 0)) j : Int))] [(2, s), (0, (j : Int))] d_Sea_classesWithCouples_15 l_Sea_158 rfl rfl rfl rfl rfl rfl hR.K.1 ?_
        refine s_indexesOf (d := d) hR hL (cn := j) (by omega) ?_
        show ZE (d + 5) M_Sea_classesWithCouples (gw G A) 18 [(2, s), (0, (cnt (fun k => decide (ix (gA ap S k) (bnd S) ≠ 0)) j : Int)), (0, (j : Int))] [(0, ((ix (gA ap S j) (bnd S) : Nat) : Int)), (0, (cnt (fun k => decide (ix (gA ap S k) (bnd S) ≠ 0)) j : Int))] _
        refine ZE.if_eq (tgt := 25) d_Sea_classesWithCouples_18 rfl (by unfold zR; omega) (fun c18 => ?_) (fun c18 => ?_)
        · refine ZE.iconst (n := 0) d_Sea_classesWithCouples_25 ?_
          refine ZE.iadd d_Sea_classesWithCouples_26 ?_
          rw [show ((cnt (fun k => decide (ix (gA ap S k) (bnd S) ≠ 0)) j : Int) + 0 : Int) = (cnt (fun k => decide (ix (gA ap S k) (bnd S) ≠ 0)) (j + 1) : Int) from (by rw [show cnt (fun k => decide (ix (gA ap S k) (bnd S) ≠ 0)) (j + 1) = cnt (fun k => decide (ix (gA ap S k) (bnd S) ≠ 0)) j from if_neg (fun q => absurd (of_decide_eq_true q) (by omega))]; omega)]
          refine ZE.istore_n (ls2 := [(2, s), (0, (cnt (fun k => decide (ix (gA ap S k) (bnd S) ≠ 0)) (j + 1) : Int)), (0, (j : Int))]) d_Sea_classesWithCouples_27 (Nat.le_of_ble_eq_true rfl) rfl ?_
          refine ZE.iinc (ls2 := [(2, s), (0, (cnt (fun k => decide (ix (gA ap S k) (bnd S) ≠ 0)) (j + 1) : Int)), (0, (j : Int) + 1)]) d_Sea_classesWithCouples_28 rfl rfl ?_
          refine ZE.goto (tgt := 4) d_Sea_classesWithCouples_31 rfl ?_
          rw [show (j : Int) + 1 = ((j + 1 : Nat) : Int) by omega]
          exact ih (j + 1) (by omega) (by omega)
        · refine ZE.iconst (n := 1) d_Sea_classesWithCouples_21 ?_
          refine ZE.goto (tgt := 26) d_Sea_classesWithCouples_22 rfl ?_
          refine ZE.iadd d_Sea_classesWithCouples_26 ?_
          rw [show ((cnt (fun k => decide (ix (gA ap S k) (bnd S) ≠ 0)) j : Int) + 1 : Int) = (cnt (fun k => decide (ix (gA ap S k) (bnd S) ≠ 0)) (j + 1) : Int) from (by rw [show cnt (fun k => decide (ix (gA ap S k) (bnd S) ≠ 0)) (j + 1) = cnt (fun k => decide (ix (gA ap S k) (bnd S) ≠ 0)) j + 1 from if_pos (decide_eq_true (by omega))]; omega)]
          refine ZE.istore_n (ls2 := [(2, s), (0, (cnt (fun k => decide (ix (gA ap S k) (bnd S) ≠ 0)) (j + 1) : Int)), (0, (j : Int))]) d_Sea_classesWithCouples_27 (Nat.le_of_ble_eq_true rfl) rfl ?_
          refine ZE.iinc (ls2 := [(2, s), (0, (cnt (fun k => decide (ix (gA ap S k) (bnd S) ≠ 0)) (j + 1) : Int)), (0, (j : Int) + 1)]) d_Sea_classesWithCouples_28 rfl rfl ?_
          refine ZE.goto (tgt := 4) d_Sea_classesWithCouples_31 rfl ?_
          rw [show (j : Int) + 1 = ((j + 1 : Nat) : Int) by omega]
          exact ih (j + 1) (by omega) (by omega)
  exact L4 _ 0 (Nat.zero_le _) (Nat.lt_succ_self _)
set_option maxRecDepth 20000 in
set_option maxHeartbeats 4000000 in
theorem s_allRounds {d : Nat} {G : zG} {A : Int → Int → Int} {P : Option zV → zG → Prop} {s E0 : Int} {ap S : Nat} (hR : sR G A s E0 ap S) (k : P (some (0, (sumF (fun k => rnd (DD ap (eA ap S k))) (csA ap S).length : Int))) (gw G A)) : ZE (d + 1) M_Sea_allRounds (gw G A) 0 [(2, s), (9, 0), (9, 0)] [] P := by
  have hs0 := hR.K.2.1
  have hE0 := hR.E
  have hL64 := hR.l64
  have hC32 := hR.c32
  refine ZE.iconst (n := 0) d_Sea_allRounds_0 ?_
  refine ZE.istore_n (ls2 := [(2, s), (0, 0), (9, 0)]) d_Sea_allRounds_1 (Nat.le_of_ble_eq_true rfl) rfl ?_
  refine ZE.iconst (n := 0) d_Sea_allRounds_2 ?_
  refine ZE.istore_n (ls2 := [(2, s), (0, 0), (0, 0)]) d_Sea_allRounds_3 (Nat.le_of_ble_eq_true rfl) rfl ?_
  have L4 : ∀ (tt0 : Nat) (j : Nat) (hj : j ≤ (csA ap S).length), (csA ap S).length + 1 - j < tt0 → ZE (d + 1) M_Sea_allRounds (gw G A) 4 [(2, s), (0, (sumF (fun k => rnd (DD ap (eA ap S k))) j : Int)), (0, (j : Int))] [] P := by
    intro tt0
    induction tt0 with
    | zero => intro j hj hm; exact absurd hm (Nat.not_lt_zero _)
    | succ tt0 ih =>
      intro j hj hm
      refine ZE.iload_n d_Sea_allRounds_4 rfl ?_
      refine ZE.aload_n d_Sea_allRounds_5 rfl ?_
      refine ZE.getE (v := ((csA ap S).length : Int)) d_Sea_allRounds_6 f_Sea_79 (tg := 0) rfl hR.K.1 hR.n11 ?_
      refine ZE.icmp_ge (tgt := 29) d_Sea_allRounds_9 rfl (by unfold zR; omega) (by unfold zR; omega) (fun c9 => ?_) (fun c9 => ?_)
      · refine ZE.iload_n d_Sea_allRounds_29 rfl ?_
        refine ZE.iret d_Sea_allRounds_30 rfl ?_
        have hje : j = (csA ap S).length := by omega
        subst hje
        exact k
      · refine ZE.iload_n d_Sea_allRounds_12 rfl ?_
        refine ZE.aload_n d_Sea_allRounds_13 rfl ?_
        refine ZE.iload_n d_Sea_allRounds_14 rfl ?_
        have hu := hR.un (c := j) (by omega)
        refine ZE.cV [(0, (j : Int))] [(0, (sumF (fun k => rnd (DD ap (eA ap S k))) j : Int))] [(2, s), (0, (j : Int)), (9, 0)] d_Sea_allRounds_15 l_Sea_97 rfl rfl rfl rfl rfl rfl hR.K.1 ?_
        refine s_unitAt (d := d) hR.K hR.F hR.n11 hC32 (k1 := j) (by omega) (v1 := A (s + 29) (j : Int)) rfl (by have := hu.1; omega) ?_
        show ZE (d + 1) M_Sea_allRounds (gw G A) 18 [(2, s), (0, (sumF (fun k => rnd (DD ap (eA ap S k))) j : Int)), (0, (j : Int))] [(2, A (s + 29) (j : Int)), (0, (sumF (fun k => rnd (DD ap (eA ap S k))) j : Int))] _
        refine ZE.getE (v := (rnd (DD ap (eA ap S j)) : Int)) d_Sea_allRounds_18 f_Sea_161 (tg := 0) rfl hu.2.2.1.1 hu.2.2.2.1.2.2.2.2.2.1 ?_
        refine ZE.iadd d_Sea_allRounds_21 ?_
        rw [show ((sumF (fun k => rnd (DD ap (eA ap S k))) j : Int) + (rnd (DD ap (eA ap S j)) : Int) : Int) = (sumF (fun k => rnd (DD ap (eA ap S k))) (j + 1) : Int) from (by rw [show sumF (fun k => rnd (DD ap (eA ap S k))) (j + 1) = sumF (fun k => rnd (DD ap (eA ap S k))) j + rnd (DD ap (eA ap S j)) from rfl]; omega)]
        refine ZE.istore_n (ls2 := [(2, s), (0, (sumF (fun k => rnd (DD ap (eA ap S k))) (j + 1) : Int)), (0, (j : Int))]) d_Sea_allRounds_22 (Nat.le_of_ble_eq_true rfl) rfl ?_
        refine ZE.iinc (ls2 := [(2, s), (0, (sumF (fun k => rnd (DD ap (eA ap S k))) (j + 1) : Int)), (0, (j : Int) + 1)]) d_Sea_allRounds_23 rfl rfl ?_
        refine ZE.goto (tgt := 4) d_Sea_allRounds_26 rfl ?_
        rw [show (j : Int) + 1 = ((j + 1 : Nat) : Int) by omega]
        exact ih (j + 1) (by omega) (by omega)
  exact L4 _ 0 (Nat.zero_le _) (Nat.lt_succ_self _)
theorem fst1_go {f : Nat → Bool} : ∀ n j, (∀ k, k < j → ¬ f k = true) → j ≤ n → f j = true → j < n → fst1 f n = (j : Int) := by
  intro n
  induction n with
  | zero => intro j _ _ _ h; omega
  | succ n ih =>
    intro j h1 h2 h3 h4
    show (if fst1 f n = -1 then (if f n = true then (n : Int) else -1) else fst1 f n) = _
    rcases Nat.lt_or_ge j n with q | q
    · rw [ih j h1 (by omega) h3 q, if_neg (by omega)]
    · have : j = n := by omega
      subst this
      have h0 : ∀ m, m ≤ j → fst1 f m = -1 := by
        intro m
        induction m with
        | zero => intro _; rfl
        | succ m ihm =>
          intro hm
          show (if fst1 f m = -1 then (if f m = true then (m : Int) else -1) else fst1 f m) = -1
          rw [ihm (by omega), if_pos rfl, if_neg (h1 m (by omega))]
      rw [h0 j (Nat.le_refl _), if_pos rfl, if_pos h3]
theorem fst1_no {f : Nat → Bool} : ∀ n, (∀ k, k < n → ¬ f k = true) → fst1 f n = -1 := by
  intro n
  induction n with
  | zero => intro _; rfl
  | succ n ih =>
    intro h
    show (if fst1 f n = -1 then (if f n = true then (n : Int) else -1) else fst1 f n) = -1
    rw [ih (fun k hk => h k (by omega)), if_pos rfl, if_neg (h n (by omega))]
set_option maxRecDepth 20000 in
set_option maxHeartbeats 4000000 in
theorem s_placeOf {d : Nat} {G : zG} {A : Int → Int → Int} {P : Option zV → zG → Prop} {s E0 : Int} {ap S : Nat} (hR : sR G A s E0 ap S) {b : Int} {cap T : Nat} (hB : bK G b cap) (hT : bN A b T) (h9T : nd 1000000000 T ≤ cap) (k : P (some (0, fst1 (fun k => decide (nN ap S k = T)) (prL ap S).length)) (gw G A)) : ZE (d + 2) M_Sea_placeOf (gw G A) 0 [(2, s), (2, b), (9, 0)] [] P := by
  have hs0 := hR.K.2.1
  have hE0 := hR.E
  have hL64 := hR.l64
  have hC32 := hR.c32
  refine ZE.iconst (n := 0) d_Sea_placeOf_0 ?_
  refine ZE.istore_n (ls2 := [(2, s), (2, b), (0, 0)]) d_Sea_placeOf_1 (Nat.le_of_ble_eq_true rfl) rfl ?_
  have L2 : ∀ (tt0 : Nat) (j : Nat) (hj : j ≤ (prL ap S).length) (hno : ∀ q : Nat, q < j → ¬ (fun k => decide (nN ap S k = T)) q = true), (prL ap S).length + 1 - j < tt0 → ZE (d + 2) M_Sea_placeOf (gw G A) 2 [(2, s), (2, b), (0, (j : Int))] [] P := by
    intro tt0
    induction tt0 with
    | zero => intro j hj hno hm; exact absurd hm (Nat.not_lt_zero _)
    | succ tt0 ih =>
      intro j hj hno hm
      refine ZE.iload_n d_Sea_placeOf_2 rfl ?_
      refine ZE.aload_n d_Sea_placeOf_3 rfl ?_
      refine ZE.getE (v := ((prL ap S).length : Int)) d_Sea_placeOf_4 f_Sea_82 (tg := 0) rfl hR.K.1 hR.n12 ?_
      refine ZE.icmp_ge (tgt := 33) d_Sea_placeOf_7 rfl (by unfold zR; omega) (by unfold zR; omega) (fun c7 => ?_) (fun c7 => ?_)
      · refine ZE.iconst (n := (-1)) d_Sea_placeOf_33 ?_
        refine ZE.iret d_Sea_placeOf_34 rfl ?_
        have hje : j = (prL ap S).length := by omega
        subst hje
        rw [fst1_no _ hno] at k
        exact k
      · refine ZE.aload_n d_Sea_placeOf_10 rfl ?_
        refine ZE.iload_n d_Sea_placeOf_11 rfl ?_
        have hc1 := hR.cp (k := j) (by omega)
        have hvk := hR.v (k := j) (by omega)
        refine ZE.cV [(0, (j : Int))] [] [(2, s), (0, (j : Int)), (9, 0)] d_Sea_placeOf_12 l_Sea_135 rfl rfl rfl rfl rfl rfl hR.K.1 ?_
        refine s_coupleAt (d := d + 1) hR.K hR.F hR.n12 hL64 (k1 := j) (by omega) (v1 := A (s + 30) (j : Int)) rfl (by omega) ?_
        show ZE (d + 2) M_Sea_placeOf (gw G A) 15 [(2, s), (2, b), (0, (j : Int))] [(2, A (s + 30) (j : Int))] _
        refine ZE.getE (v := A (s + 30) (j : Int) + 3) d_Sea_placeOf_15 f_Sea_139 (tg := 2) rfl hc1.2.2.1.1.1 hc1.2.2.1.2.1 ?_
        refine ZE.aload_n d_Sea_placeOf_18 rfl ?_
        refine ZE.cV [(2, b)] [] [(2, A (s + 30) (j : Int) + 3), (2, b), (9, 0), (9, 0), (9, 0)] d_Sea_placeOf_19 l_Sea_142 rfl rfl rfl rfl rfl rfl hc1.2.2.1.1.2.2.2.2.1 ?_
        refine B_compareWith (d := d) hc1.2.2.1.1.2.2.2.2 hc1.2.2.1.2.2.2.2.2.2.1 hB hT (Nat.le_refl _) h9T ?_
        show ZE (d + 2) M_Sea_placeOf (gw G A) 22 [(2, s), (2, b), (0, (j : Int))] [(0, cmZ (nN ap S j) T)] _
        refine ZE.if_ne (tgt := 27) d_Sea_placeOf_22 rfl (zR_cmZ _ _) (fun c22 => ?_) (fun c22 => ?_)
        · refine ZE.iinc (ls2 := [(2, s), (2, b), (0, (j : Int) + 1)]) d_Sea_placeOf_27 rfl rfl ?_
          refine ZE.goto (tgt := 2) d_Sea_placeOf_30 rfl ?_
          rw [show (j : Int) + 1 = ((j + 1 : Nat) : Int) by omega]
          refine ih (j + 1) (by omega) (fun q hq => ?_) (by omega)
          by_cases e : q = j
          · subst e; exact fun z => c22 (cmZ_eq.mpr (of_decide_eq_true z))
          · exact hno q (by omega)
        · refine ZE.iload_n d_Sea_placeOf_25 rfl ?_
          refine ZE.iret d_Sea_placeOf_26 rfl ?_
          rw [fst1_go _ j hno (by omega) (decide_eq_true (cmZ_eq.mp (by omega))) (by omega)] at k
          exact k
  exact L2 _ 0 (Nat.zero_le _) (fun q h => absurd h (Nat.not_lt_zero _)) (Nat.lt_succ_self _)
set_option maxRecDepth 20000 in
set_option maxHeartbeats 4000000 in
theorem s_lessThan {d : Nat} {G : zG} {A : Int → Int → Int} {P : Option zV → zG → Prop} {s E0 : Int} {ap S : Nat} (hR : sR G A s E0 ap S) {b : Int} {cap T : Nat} (hB : bK G b cap) (hT : bN A b T) (h9T : nd 1000000000 T ≤ cap) (k : P (some (0, (cnt (fun k => decide (nN ap S k < T)) (prL ap S).length : Int))) (gw G A)) : ZE (d + 2) M_Sea_lessThan (gw G A) 0 [(2, s), (2, b), (9, 0), (9, 0)] [] P := by
  have hs0 := hR.K.2.1
  have hE0 := hR.E
  have hL64 := hR.l64
  have hC32 := hR.c32
  refine ZE.iconst (n := 0) d_Sea_lessThan_0 ?_
  refine ZE.istore_n (ls2 := [(2, s), (2, b), (0, 0), (9, 0)]) d_Sea_lessThan_1 (Nat.le_of_ble_eq_true rfl) rfl ?_
  refine ZE.iconst (n := 0) d_Sea_lessThan_2 ?_
  refine ZE.istore_n (ls2 := [(2, s), (2, b), (0, 0), (0, 0)]) d_Sea_lessThan_3 (Nat.le_of_ble_eq_true rfl) rfl ?_
  have L4 : ∀ (tt0 : Nat) (j : Nat) (hj : j ≤ (prL ap S).length), (prL ap S).length + 1 - j < tt0 → ZE (d + 2) M_Sea_lessThan (gw G A) 4 [(2, s), (2, b), (0, (cnt (fun k => decide (nN ap S k < T)) j : Int)), (0, (j : Int))] [] P := by
    intro tt0
    induction tt0 with
    | zero => intro j hj hm; exact absurd hm (Nat.not_lt_zero _)
    | succ tt0 ih =>
      intro j hj hm
      refine ZE.iload_n d_Sea_lessThan_4 rfl ?_
      refine ZE.aload_n d_Sea_lessThan_5 rfl ?_
      refine ZE.getE (v := ((prL ap S).length : Int)) d_Sea_lessThan_6 f_Sea_82 (tg := 0) rfl hR.K.1 hR.n12 ?_
      refine ZE.icmp_ge (tgt := 41) d_Sea_lessThan_9 rfl (by unfold zR; omega) (by unfold zR; omega) (fun c9 => ?_) (fun c9 => ?_)
      · refine ZE.iload_n d_Sea_lessThan_41 rfl ?_
        refine ZE.iret d_Sea_lessThan_42 rfl ?_
        have hje : j = (prL ap S).length := by omega
        subst hje
        exact k
      · refine ZE.iload_n d_Sea_lessThan_12 rfl ?_
        refine ZE.aload_n d_Sea_lessThan_13 rfl ?_
        refine ZE.iload_n d_Sea_lessThan_14 rfl ?_
        have hc1 := hR.cp (k := j) (by omega)
        have hvk := hR.v (k := j) (by omega)
        refine ZE.cV [(0, (j : Int))] [(0, (cnt (fun k => decide (nN ap S k < T)) j : Int))] [(2, s), (0, (j : Int)), (9, 0)] d_Sea_lessThan_15 l_Sea_135 rfl rfl rfl rfl rfl rfl hR.K.1 ?_
        refine s_coupleAt (d := d + 1) hR.K hR.F hR.n12 hL64 (k1 := j) (by omega) (v1 := A (s + 30) (j : Int)) rfl (by omega) ?_
        show ZE (d + 2) M_Sea_lessThan (gw G A) 18 [(2, s), (2, b), (0, (cnt (fun k => decide (nN ap S k < T)) j : Int)), (0, (j : Int))] [(2, A (s + 30) (j : Int)), (0, (cnt (fun k => decide (nN ap S k < T)) j : Int))] _
        refine ZE.getE (v := A (s + 30) (j : Int) + 3) d_Sea_lessThan_18 f_Sea_139 (tg := 2) rfl hc1.2.2.1.1.1 hc1.2.2.1.2.1 ?_
        refine ZE.aload_n d_Sea_lessThan_21 rfl ?_
        refine ZE.cV [(2, b)] [(0, (cnt (fun k => decide (nN ap S k < T)) j : Int))] [(2, A (s + 30) (j : Int) + 3), (2, b), (9, 0), (9, 0), (9, 0)] d_Sea_lessThan_22 l_Sea_142 rfl rfl rfl rfl rfl rfl hc1.2.2.1.1.2.2.2.2.1 ?_
        refine B_compareWith (d := d) hc1.2.2.1.1.2.2.2.2 hc1.2.2.1.2.2.2.2.2.2.1 hB hT (Nat.le_refl _) h9T ?_
        show ZE (d + 2) M_Sea_lessThan (gw G A) 25 [(2, s), (2, b), (0, (cnt (fun k => decide (nN ap S k < T)) j : Int)), (0, (j : Int))] [(0, cmZ (nN ap S j) T), (0, (cnt (fun k => decide (nN ap S k < T)) j : Int))] _
        refine ZE.if_ge (tgt := 32) d_Sea_lessThan_25 rfl (zR_cmZ _ _) (fun c25 => ?_) (fun c25 => ?_)
        · refine ZE.iconst (n := 0) d_Sea_lessThan_32 ?_
          refine ZE.iadd d_Sea_lessThan_33 ?_
          rw [show ((cnt (fun k => decide (nN ap S k < T)) j : Int) + 0 : Int) = (cnt (fun k => decide (nN ap S k < T)) (j + 1) : Int) from (by rw [show cnt (fun k => decide (nN ap S k < T)) (j + 1) = cnt (fun k => decide (nN ap S k < T)) j from if_neg (fun q => by have := cmZ_lt.mpr (of_decide_eq_true q); omega)]; omega)]
          refine ZE.istore_n (ls2 := [(2, s), (2, b), (0, (cnt (fun k => decide (nN ap S k < T)) (j + 1) : Int)), (0, (j : Int))]) d_Sea_lessThan_34 (Nat.le_of_ble_eq_true rfl) rfl ?_
          refine ZE.iinc (ls2 := [(2, s), (2, b), (0, (cnt (fun k => decide (nN ap S k < T)) (j + 1) : Int)), (0, (j : Int) + 1)]) d_Sea_lessThan_35 rfl rfl ?_
          refine ZE.goto (tgt := 4) d_Sea_lessThan_38 rfl ?_
          rw [show (j : Int) + 1 = ((j + 1 : Nat) : Int) by omega]
          exact ih (j + 1) (by omega) (by omega)
        · refine ZE.iconst (n := 1) d_Sea_lessThan_28 ?_
          refine ZE.goto (tgt := 33) d_Sea_lessThan_29 rfl ?_
          refine ZE.iadd d_Sea_lessThan_33 ?_
          rw [show ((cnt (fun k => decide (nN ap S k < T)) j : Int) + 1 : Int) = (cnt (fun k => decide (nN ap S k < T)) (j + 1) : Int) from (by rw [show cnt (fun k => decide (nN ap S k < T)) (j + 1) = cnt (fun k => decide (nN ap S k < T)) j + 1 from if_pos (decide_eq_true (cmZ_lt.mp (by omega)))]; omega)]
          refine ZE.istore_n (ls2 := [(2, s), (2, b), (0, (cnt (fun k => decide (nN ap S k < T)) (j + 1) : Int)), (0, (j : Int))]) d_Sea_lessThan_34 (Nat.le_of_ble_eq_true rfl) rfl ?_
          refine ZE.iinc (ls2 := [(2, s), (2, b), (0, (cnt (fun k => decide (nN ap S k < T)) (j + 1) : Int)), (0, (j : Int) + 1)]) d_Sea_lessThan_35 rfl rfl ?_
          refine ZE.goto (tgt := 4) d_Sea_lessThan_38 rfl ?_
          rw [show (j : Int) + 1 = ((j + 1 : Nat) : Int) by omega]
          exact ih (j + 1) (by omega) (by omega)
  exact L4 _ 0 (Nat.zero_le _) (Nat.lt_succ_self _)
