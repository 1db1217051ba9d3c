theorem pop_or9 : ∀ k, k < 9 → ∀ a, a < 512 → a < 2 ^ k → pop (a ||| 2 ^ k) = pop a + 1 := by decide +kernel
theorem fp_pop {g : Nat → Bool} {v : Nat → Nat} {c : Nat} {L : List pT} : ∀ b, b ≤ 9 → (fp g v c L b).length = L.length + pop (ix g b) := by
  intro b
  induction b with
  | zero => intro _; rfl
  | succ b ih =>
    intro hb
    have h1 := ih (by omega)
    have h2 := ix_lt (g := g) b
    have h3 : 2 ^ b ≤ 2 ^ 9 := Nat.pow_le_pow_right (by omega) (by omega)
    show (if g (b + 1) then insP (fp g v c L b) (v (b + 1), c, b + 1) else fp g v c L b).length = L.length + pop (if g (b + 1) then ix g b ||| 2 ^ b else ix g b)
    by_cases q : g (b + 1) = true
    · rw [if_pos q, if_pos q, insP_len, h1, pop_or9 b (by omega) (ix g b) (by omega) h2]
      omega
    · rw [if_neg q, if_neg q]
      exact h1
theorem sumL_app (f : Nat → Nat) : ∀ a b : List Nat, sumL f (a ++ b) = sumL f a + sumL f b := by
  intro a b
  induction a with
  | nil => show sumL f b = 0 + sumL f b; omega
  | cons x l ih => show f x + sumL f (l ++ b) = f x + sumL f l + sumL f b; omega
theorem sumL_ins (f : Nat → Nat) (L : List Nat) (j x : Nat) : sumL f (insAt L j x) = f x + sumL f L := by
  unfold insAt
  rw [sumL_app]
  show sumL f (L.take j) + (f x + sumL f (L.drop j)) = f x + sumL f L
  have h := sumL_app f (L.take j) (L.drop j)
  rw [List.take_append_drop] at h
  omega
def ciF (ap S e : Nat) : Nat := pop (ix (csB (DD ap e) ap S) (bnd S))
def cpF (ap S : Nat) : Nat → Nat
  | 0 => 0
  | e + 1 => if e &&& S = e ∧ e ≠ butF ap then cpF ap S e + ciF ap S e else cpF ap S e
theorem cp_sum (ap S : Nat) : ∀ n, cpF ap S n = sumL (ciF ap S) (csF S (butF ap) n) := by
  intro n
  induction n with
  | zero => rfl
  | succ n ih =>
    show (if n &&& S = n ∧ n ≠ butF ap then cpF ap S n + ciF ap S n else cpF ap S n) = sumL (ciF ap S) (if n &&& S = n ∧ n ≠ butF ap then insQ (csF S (butF ap) n) n else csF S (butF ap) n)
    by_cases q : n &&& S = n ∧ n ≠ butF ap
    · rw [if_pos q, if_pos q]
      unfold insQ
      rw [sumL_ins, ih]
      omega
    · rw [if_neg q, if_neg q]
      exact ih
theorem prA_sum {ap S : Nat} (hS : S < 128) : ∀ c, (prA ap S c).length = sumF (fun k => ciF ap S (eA ap S k)) c := by
  intro c
  have hb := bnd_le S hS
  induction c with
  | zero => rfl
  | succ c ih =>
    show (fp (gA ap S c) (vA ap S c) c (prA ap S c) (bnd S)).length = sumF (fun k => ciF ap S (eA ap S k)) c + ciF ap S (eA ap S c)
    rw [fp_pop _ hb.2, ih]
    rfl
theorem cp_len {ap S : Nat} (hS : S < 128) : cpF ap S 128 = (prL ap S).length := by
  rw [cp_sum]
  unfold prL
  rw [prA_sum hS]
  exact (sumL_eq (ciF ap S) (csA ap S)).symm
theorem ciF_9 {ap S e : Nat} (hS : S < 128) : ix (csB (DD ap e) ap S) (bnd S) < 512 := by
  have hb := bnd_le S hS
  have h2 := ix_lt (g := csB (DD ap e) ap S) (bnd S)
  have h3 : 2 ^ bnd S ≤ 2 ^ 9 := Nat.pow_le_pow_right (by omega) (by omega)
  omega
theorem ciF_R {ap S e : Nat} (hS : S < 128) : ciF ap S e ≤ 9 := pop_le _ (ciF_9 hS)
theorem cpF_R {ap S : Nat} (hS : S < 128) : ∀ n, cpF ap S n ≤ 9 * n := by
  intro n
  induction n with
  | zero => exact Nat.le_refl _
  | succ n ih =>
    have := ciF_R (ap := ap) (e := n) hS
    show (if n &&& S = n ∧ n ≠ butF ap then cpF ap S n + ciF ap S n else cpF ap S n) ≤ _
    split <;> omega
set_option maxRecDepth 20000 in
set_option maxHeartbeats 4000000 in
theorem s_couplesFor {d : Nat} {G : zG} {A : Int → Int → Int} {P : Option zV → zG → Prop} {s E0 : Int} (hK : sK G s) {ap : Nat} (hF : sF A s ap) (hL : lG G A) (hgl : gl G < s) (hap : ap = 1 ∨ ap = 2) (hE : s + 46 ≤ E0 ∧ E0 ≤ (gz G : Int)) (hP : kP G A s E0 ap) {S : Nat} (hS7 : S < 128) (hp5 : pop S ≤ 5) (k : ∀ G2 A2 (n m : Nat), kP G2 A2 s E0 ap → sF A2 s ap → uoF A A2 s (gz G : Int) → gR G G2 n m → n + 54 * unk A2 s ≤ 54 * unk A s → m + 556 * unk A2 s ≤ 556 * unk A s → P (some (0, ((prL ap S).length : Int))) (gw G2 A2)) : ZE (d + 6) M_Sea_couplesFor (gw G A) 0 [(2, s), (0, (S : Int)), (9, 0), (9, 0)] [] P := by
  have hs0 := hK.2.1
  have hzE := hE.2
  refine ZE.iconst (n := 0) d_Sea_couplesFor_0 ?_
  refine ZE.istore_n (ls2 := [(2, s), (0, (S : Int)), (0, 0), (9, 0)]) d_Sea_couplesFor_1 (Nat.le_of_ble_eq_true rfl) rfl ?_
  refine ZE.iconst (n := 0) d_Sea_couplesFor_2 ?_
  refine ZE.istore_n (ls2 := [(2, s), (0, (S : Int)), (0, 0), (0, 0)]) d_Sea_couplesFor_3 (Nat.le_of_ble_eq_true rfl) rfl ?_
  have L4 : ∀ (tt0 : Nat) (e1 : Nat) (G1 : zG) (A1 : Int → Int → Int) (he : e1 ≤ 128) (hgR : ∃ n m : Nat, gR G G1 n m ∧ n + 54 * unk A1 s ≤ 54 * unk A s ∧ m + 556 * unk A1 s ≤ 556 * unk A s) (hF1 : sF A1 s ap) (hP1 : kP G1 A1 s E0 ap) (hf1 : uoF A A1 s (gz G : Int)), 129 - e1 < tt0 → ZE (d + 6) M_Sea_couplesFor (gw G1 A1) 4 [(2, s), (0, (S : Int)), (0, (cpF ap S e1 : Int)), (0, (e1 : Int))] [] P := by
    intro tt0
    induction tt0 with
    | zero => intro e1 G1 A1 he hgR hF1 hP1 hf1 hm; exact absurd hm (Nat.not_lt_zero _)
    | succ tt0 ih =>
      intro e1 G1 A1 he hgR hF1 hP1 hf1 hm
      obtain ⟨n1, m1, hg1, hn1, hm1⟩ := hgR
      have hz1 := hg1.1
      have hK1 := hK.gr hg1 (by omega)
      have hL1 : lG G1 A1 := hL.gr hg1 (by omega) (hf1.1 _ (by omega) (by omega) (by omega) (by omega))
      have hgl1 : gl G1 < s := by rw [hg1.2.2.2.2]; exact hgl
      refine ZE.iload_n d_Sea_couplesFor_4 rfl ?_
      refine ZE.sipush (n := 128) d_Sea_couplesFor_5 rfl ?_
      refine ZE.icmp_ge (tgt := 41) d_Sea_couplesFor_8 rfl (by unfold zR; omega) (by unfold zR; omega) (fun c8 => ?_) (fun c8 => ?_)
      · refine ZE.iload_n d_Sea_couplesFor_41 rfl ?_
        refine ZE.iret d_Sea_couplesFor_42 rfl ?_
        have he8 : e1 = 128 := by omega
        subst he8
        rw [cp_len hS7]
        exact k G1 A1 n1 m1 hP1 hF1 hf1 hg1 hn1 hm1
      · refine ZE.aload_n d_Sea_couplesFor_11 rfl ?_
        refine ZE.iload_n d_Sea_couplesFor_12 rfl ?_
        refine ZE.iload_n d_Sea_couplesFor_13 rfl ?_
        refine ZE.cV [(0, (e1 : Int)), (0, (S : Int))] [] [(2, s), (0, (e1 : Int)), (0, (S : Int))] d_Sea_couplesFor_14 l_Sea_85 rfl rfl rfl rfl rfl rfl hK1.1 ?_
        refine s_isClassOf (d := d + 5) hK1 hF1 hap (by omega) hS7 ?_
        show ZE (d + 6) M_Sea_couplesFor (gw G1 A1) 17 [(2, s), (0, (S : Int)), (0, (cpF ap S e1 : Int)), (0, (e1 : Int))] [(0, b2i (e1 &&& S = e1 ∧ e1 ≠ butF ap))] _
        refine ZE.if_eq (tgt := 35) d_Sea_couplesFor_17 rfl (zR_b2i _) (fun c17 => ?_) (fun c17 => ?_)
        · replace c17 := b2i_0.mp c17
          refine ZE.iinc (ls2 := [(2, s), (0, (S : Int)), (0, (cpF ap S e1 : Int)), (0, (e1 : Int) + 1)]) d_Sea_couplesFor_35 rfl rfl ?_
          refine ZE.goto (tgt := 4) d_Sea_couplesFor_38 rfl ?_
          rw [show (e1 : Int) + 1 = ((e1 + 1 : Nat) : Int) by omega]
          rw [show cpF ap S e1 = cpF ap S (e1 + 1) from (if_neg c17).symm]
          exact ih (e1 + 1) G1 A1 (by omega) ⟨n1, m1, hg1, hn1, hm1⟩ hF1 hP1 hf1 (by omega)
        · replace c17 := b2i_n0.mp c17
          refine ZE.iload_n d_Sea_couplesFor_20 rfl ?_
          refine ZE.aload_n d_Sea_couplesFor_21 rfl ?_
          refine ZE.iload_n d_Sea_couplesFor_22 rfl ?_
          refine ZE.cV [(0, (e1 : Int))] [(0, (cpF ap S e1 : Int))] [(2, s), (0, (e1 : Int)), (9, 0), (9, 0), (9, 0)] d_Sea_couplesFor_23 l_Sea_89 rfl rfl rfl rfl rfl rfl hK1.1 ?_
          refine s_unitOf hK1 hF1 hL1 hgl1 hap ⟨hE.1, by omega⟩ hP1 (by omega) (Nat.le_trans (pop_sub S hS7 e1 (by omega) c17.1) hp5) c17.2 (fun G2 A2 u n2 m2 hP2 hkU hat hF2 hf2 hg2 hn2 hm2 => ?_)
          show ZE (d + 6) M_Sea_couplesFor (gw G2 A2) 26 [(2, s), (0, (S : Int)), (0, (cpF ap S e1 : Int)), (0, (e1 : Int))] [(2, u), (0, (cpF ap S e1 : Int))] _
          have hK2 := hK1.gr hg2 (by omega)
          have hL2 : lG G2 A2 := hL1.gr hg2 (by omega) (hf2.1 _ (by omega) (by omega) (by omega) (by omega))
          refine ZE.iload_n d_Sea_couplesFor_26 rfl ?_
          refine ZE.cV [(0, (S : Int))] [(0, (cpF ap S e1 : Int))] [(2, u), (0, (S : Int)), (9, 0), (9, 0), (9, 0)] d_Sea_couplesFor_27 l_Sea_108 rfl rfl rfl rfl rfl rfl hkU.2.2.1.1 ?_
          refine u_indexesFor (d := d + 2) hkU.2.2.1 hkU.2.2.2.1 hkU.2.2.2.2 hL2 hS7 ?_
          show ZE (d + 6) M_Sea_couplesFor (gw G2 A2) 30 [(2, s), (0, (S : Int)), (0, (cpF ap S e1 : Int)), (0, (e1 : Int))] [(0, ((ix (csB (DD ap e1) ap S) (bnd S) : Nat) : Int)), (0, (cpF ap S e1 : Int))] _
          refine ZE.cS [(0, ((ix (csB (DD ap e1) ap S) (bnd S) : Nat) : Int))] [(0, (cpF ap S e1 : Int))] [(0, ((ix (csB (DD ap e1) ap S) (bnd S) : Nat) : Int))] d_Sea_couplesFor_30 l_Sea_111 rfl rfl rfl rfl rfl rfl ?_
          refine j_bitCount (d := d + 5) (ciF_9 hS7) ?_
          show ZE (d + 6) M_Sea_couplesFor (gw G2 A2) 33 [(2, s), (0, (S : Int)), (0, (cpF ap S e1 : Int)), (0, (e1 : Int))] [(0, (pop (ix (csB (DD ap e1) ap S) (bnd S)) : Int)), (0, (cpF ap S e1 : Int))] _
          refine ZE.iadd d_Sea_couplesFor_33 ?_
          rw [show ((cpF ap S e1 : Int) + (pop (ix (csB (DD ap e1) ap S) (bnd S)) : Int) : Int) = (cpF ap S (e1 + 1) : Int) from by rw [show cpF ap S (e1 + 1) = cpF ap S e1 + ciF ap S e1 from if_pos c17]; unfold ciF; omega]
          refine ZE.istore_n (ls2 := [(2, s), (0, (S : Int)), (0, (cpF ap S (e1 + 1) : Int)), (0, (e1 : Int))]) d_Sea_couplesFor_34 (Nat.le_of_ble_eq_true rfl) rfl ?_
          refine ZE.iinc (ls2 := [(2, s), (0, (S : Int)), (0, (cpF ap S (e1 + 1) : Int)), (0, (e1 : Int) + 1)]) d_Sea_couplesFor_35 rfl rfl ?_
          refine ZE.goto (tgt := 4) d_Sea_couplesFor_38 rfl ?_
          rw [show (e1 : Int) + 1 = ((e1 + 1 : Nat) : Int) by omega]
          exact ih (e1 + 1) G2 A2 (by omega) ⟨n1 + n2, m1 + m2, hg1.tr hg2, by omega, by omega⟩ hF2 hP2 (hf1.tr hf2 (by omega)) (by omega)
  exact L4 _ 0 G A (by omega) ⟨0, 0, gR.rf, by omega, by omega⟩ hF hP uoF.rf (Nat.lt_succ_self _)
