set_option maxRecDepth 20000 in
set_option maxHeartbeats 4000000 in
theorem r_smallOf {d : Nat} {G : zG} {A : Int → Int → Int} {P : Option zV → zG → Prop} {o : Int} (hK : RK G o) (hF : RF A o) {n : Int} (hn : 0 ≤ n ∧ n ≤ 131) {v : Nat} (hv : num (A (o + 2)) n v) (h9 : nd 10000 v ≤ 129) (k : P (some (0, (v : Int))) (gw G A)) : ZE (d + 2) M_Ref_smallOf (gw G A) 0 [(2, o), (0, n), (9, 0), (9, 0)] [] P := by
  refine ZE.iconst (n := 0) d_Ref_smallOf_0 ?_
  refine ZE.istore_n (ls2 := [(2, o), (0, n), (0, 0), (9, 0)]) d_Ref_smallOf_1 (Nat.le_of_ble_eq_true rfl) rfl ?_
  refine ZE.aload_n d_Ref_smallOf_2 rfl ?_
  refine ZE.iload_n d_Ref_smallOf_3 rfl ?_
  refine ZE.cV [(0, n)] [] [(2, o), (0, n)] d_Ref_smallOf_4 l_Ref_93 rfl rfl rfl rfl rfl rfl hK.1 ?_
  refine r_partsN (v := v) hK hF (by omega) hv ?_
  show ZE (d + 2) M_Ref_smallOf (gw G A) 7 [(2, o), (0, n), (0, 0), (9, 0)] [(0, (nd 10000 v : Int))] _
  refine ZE.iconst (n := 1) d_Ref_smallOf_7 ?_
  refine ZE.isub d_Ref_smallOf_8 ?_
  refine ZE.istore_n (ls2 := [(2, o), (0, n), (0, 0), (0, (nd 10000 v : Int) - 1)]) d_Ref_smallOf_9 (Nat.le_of_ble_eq_true rfl) rfl ?_
  have L10 : ∀ (t : Nat) (j : Nat) (hj : j ≤ nd 10000 v), j < t → ZE (d + 2) M_Ref_smallOf (gw G A) 10 [(2, o), (0, n), (0, ((v / 10000 ^ j : Nat) : Int)), (0, (j : Int) - 1)] [] P := by
    intro t
    induction t with
    | zero => intro j hj hm; exact absurd hm (Nat.not_lt_zero _)
    | succ t ih =>
      intro j hj hm
      rcases Nat.eq_zero_or_pos j with hj0 | hj0
      · subst hj0
        refine ZE.iload_n d_Ref_smallOf_10 rfl ?_
        refine ZE.if_lt (tgt := 33) d_Ref_smallOf_11 rfl (by unfold zR; omega) (fun c11 => ?_) (fun c11 => ?_)
        · refine ZE.iload_n d_Ref_smallOf_33 rfl ?_
          refine ZE.iret d_Ref_smallOf_34 rfl ?_
          rw [Nat.pow_zero, Nat.div_one]
          exact k
        · exact absurd c11 (by omega)
      · obtain ⟨i, rfl⟩ : ∃ i, j = i + 1 := ⟨j - 1, by omega⟩
        rw [show ((i + 1 : Nat) : Int) - 1 = (i : Int) by omega]
        refine ZE.iload_n d_Ref_smallOf_10 rfl ?_
        refine ZE.if_lt (tgt := 33) d_Ref_smallOf_11 rfl (by unfold zR; omega) (fun c11 => ?_) (fun c11 => ?_)
        · exact absurd c11 (by omega)
        · refine ZE.sipush (n := 10000) d_Ref_smallOf_14 rfl ?_
          refine ZE.iload_n d_Ref_smallOf_17 rfl ?_
          refine ZE.imul d_Ref_smallOf_18 ?_
          refine ZE.aload_n d_Ref_smallOf_19 rfl ?_
          refine ZE.iload_n d_Ref_smallOf_20 rfl ?_
          refine ZE.iload_n d_Ref_smallOf_21 rfl ?_
          refine ZE.cV [(0, n), (0, (i : Int))] [(0, 10000 * ((v / 10000 ^ (i + 1) : Nat) : Int))] [(2, o), (0, n), (0, (i : Int))] d_Ref_smallOf_22 l_Ref_96 rfl rfl rfl rfl rfl rfl hK.1 ?_
          refine r_part (i := i) (v := v) hK hF (by omega) hv h9 (by omega) ?_
          show ZE (d + 2) M_Ref_smallOf (gw G A) 25 [(2, o), (0, n), (0, ((v / 10000 ^ (i + 1) : Nat) : Int)), (0, (i : Int))] [(0, (dg 10000 v i : Int)), (0, 10000 * ((v / 10000 ^ (i + 1) : Nat) : Int))] _
          refine ZE.iadd d_Ref_smallOf_25 ?_
          refine ZE.istore_n (ls2 := [(2, o), (0, n), (0, (10000 * ((v / 10000 ^ (i + 1) : Nat) : Int)) + (dg 10000 v i : Int)), (0, (i : Int))]) d_Ref_smallOf_26 (Nat.le_of_ble_eq_true rfl) rfl ?_
          refine ZE.iinc (ls2 := [(2, o), (0, n), (0, (10000 * ((v / 10000 ^ (i + 1) : Nat) : Int)) + (dg 10000 v i : Int)), (0, (i : Int) + (-1))]) d_Ref_smallOf_27 rfl rfl ?_
          refine ZE.goto (tgt := 10) d_Ref_smallOf_30 rfl ?_
          have s1 := div_step 10000 v i
          rw [show 10000 * ((v / 10000 ^ (i + 1) : Nat) : Int) + (dg 10000 v i : Int) = ((v / 10000 ^ i : Nat) : Int) by rw [s1]; simp only [Int.natCast_add, Int.natCast_mul]; rw [show ((10000 : Nat) : Int) = 10000 from rfl]; omega, show (i : Int) + (-1) = (i : Int) - 1 by omega]
          exact ih i (by omega) (by omega)
  have L0 := L10 _ (nd 10000 v) (Nat.le_refl _) (Nat.lt_succ_self _)
  rw [Nat.div_eq_of_lt (nd_self (by omega) v)] at L0
  exact L0
theorem dl_9 {v : Nat} : dl v ≤ 9 ↔ v < 1000000000 := by
  by_cases h : v = 0
  · subst h; exact ⟨fun _ => by omega, fun _ => by decide⟩
  · rw [dl_pos h]
    exact (nd_lt (b := 10) (by omega) 9 v).symm
def nn1 (u i : Nat) : Nat := (xp u i - 1) / 2
def nn2 (u i : Nat) : Nat := xp u i - 1
def gP1 (S u i : Nat) : Bool := decide (xp u i < 1000000000) && decide (smF S (nn1 u i) 7 = 1) && decide (smF S (nn1 u i + 1) 7 = 1)
def gP2 (S u i : Nat) : Bool := decide (xp u i < 1000000000) && decide (smF S (nn2 u i) 7 = 1) && decide (smF S (nn2 u i + 2) 7 = 1)
/-- pairs by a class: from the index 1 to j -/
def fp (g : Nat → Bool) (nn : Nat → Nat) (c : Nat) (L : List pT) : Nat → List pT
  | 0 => L
  | j + 1 => if g (j + 1) then insP (fp g nn c L j) (nn (j + 1), c, j + 1) else fp g nn c L j
def ix (g : Nat → Bool) : Nat → Nat
  | 0 => 0
  | j + 1 => if g (j + 1) then ix g j ||| 2 ^ j else ix g j
theorem fp_stop {g : Nat → Bool} {nn : Nat → Nat} {c : Nat} {L : List pT} {j : Nat} (h : ∀ i, j < i → g i = false) : ∀ b, j ≤ b → fp g nn c L b = fp g nn c L j ∧ ix g b = ix g j := by
  intro b hb
  induction b with
  | zero => have : j = 0 := by omega
            subst this; exact ⟨rfl, rfl⟩
  | succ b ih =>
    by_cases q : j = b + 1
    · subst q; exact ⟨rfl, rfl⟩
    · have := ih (by omega)
      have hg := h (b + 1) (by omega)
      have e1 : fp g nn c L (b + 1) = if g (b + 1) then insP (fp g nn c L b) (nn (b + 1), c, b + 1) else fp g nn c L b := rfl
      have e2 : ix g (b + 1) = if g (b + 1) then ix g b ||| 2 ^ b else ix g b := rfl
      rw [e1, e2, if_neg (by rw [hg]; decide), if_neg (by rw [hg]; decide)]
      exact this
theorem fp_len {g : Nat → Bool} {nn : Nat → Nat} {c : Nat} {L : List pT} : ∀ b, L.length ≤ (fp g nn c L b).length ∧ (fp g nn c L b).length ≤ L.length + b := by
  intro b
  induction b with
  | zero => exact ⟨Nat.le_refl _, Nat.le_refl _⟩
  | succ b ih =>
    unfold fp
    split
    · rw [insP_len]; omega
    · omega
theorem ix_lt {g : Nat → Bool} : ∀ b, ix g b < 2 ^ b := by
  intro b
  induction b with
  | zero => exact Nat.one_pos
  | succ b ih =>
    have h2 : 2 ^ b < 2 ^ (b + 1) := by rw [Nat.pow_succ]; have : 0 < 2 ^ b := Nat.pow_pos (by omega); omega
    unfold ix
    split
    · exact Nat.or_lt_two_pow (by omega) h2
    · omega
/-- all of a list's n are below 2 ^ 31 -/
def bdL (L : List pT) : Prop := ∀ k : Nat, k < L.length → (L.getD k pD).1 < 2147483648
theorem bdL.ins {L : List pT} {t : pT} (h : bdL L) (ht : t.1 < 2147483648) : bdL (insP L t) := by
  intro k hk
  rw [insP_len] at hk
  rw [insP_get]
  have hj := jp_le (fun k => decide (t.1 < (L.getD k pD).1)) L.length
  split
  · exact h k (by omega)
  · split
    · exact ht
    · exact h (k - 1) (by omega)
theorem xp_le_mono {u : Nat} (hu : 1 ≤ u) {i j : Nat} (h : i ≤ j) : xp u i ≤ xp u j := by
  induction j with
  | zero => have : i = 0 := by omega
            subst this; exact Nat.le_refl _
  | succ j ih =>
    by_cases q : i = j + 1
    · subst q; exact Nat.le_refl _
    · exact Nat.le_trans (ih (by omega)) (xp_mono hu j)
/-- all but one place of indexOf and three rows and one field -/
def fdF (c f r1 r2 r3 : Int) (A A' : Int → Int → Int) (o : Int) : Prop := (∀ b : Int, b ≠ o → b ≠ o + 6 → b ≠ r1 → b ≠ r2 → b ≠ r3 → A' b = A b) ∧ (∀ i : Int, i ≠ f → A' o i = A o i) ∧ (∀ i : Int, i ≠ c → A' (o + 6) i = A (o + 6) i)
theorem fdF.tr {c f r1 r2 r3 : Int} {A B C : Int → Int → Int} {o : Int} (a : fdF c f r1 r2 r3 A B o) (b : fdF c f r1 r2 r3 B C o) : fdF c f r1 r2 r3 A C o := ⟨fun e h1 h2 h3 h4 h5 => (b.1 e h1 h2 h3 h4 h5).trans (a.1 e h1 h2 h3 h4 h5), fun i h => (b.2.1 i h).trans (a.2.1 i h), fun i h => (b.2.2 i h).trans (a.2.2 i h)⟩
theorem fdF.rf {c f r1 r2 r3 : Int} {A : Int → Int → Int} {o : Int} : fdF c f r1 r2 r3 A A o := ⟨fun _ _ _ _ _ _ => rfl, fun _ _ => rfl, fun _ _ => rfl⟩
theorem fdF.ixs {c f r1 r2 r3 v : Int} {A B : Int → Int → Int} {o : Int} (a : fdF c f r1 r2 r3 A B o) : fdF c f r1 r2 r3 A (up2 B (o + 6) c v) o := ⟨fun b h1 h2 h3 h4 h5 => by rw [up2_A, upA_ne _ _ h2]; exact a.1 b h1 h2 h3 h4 h5, fun i h => by rw [up2_ne _ _ (fun q => by omega)]; exact a.2.1 i h, fun i h => by rw [up2_ne _ _ (fun q => h q.2)]; exact a.2.2 i h⟩
theorem RF.fd {c f r1 r2 r3 : Int} {A A' : Int → Int → Int} {o : Int} (h : RF A o) (g : fdF c f r1 r2 r3 A A' o) (hf : f = 15 ∨ f = 19) (h1 : o + 2 ≤ r1) (h2 : o + 2 ≤ r2) (h3 : o + 2 ≤ r3) : RF A' o := by
  have e0 : ∀ j : Int, j ≠ f → A' o j = A o j := g.2.1
  have e1 : A' (o + 1) = A (o + 1) := g.1 _ (by omega) (by omega) (by omega) (by omega) (by omega)
  unfold RF
  rw [e1]
  refine ⟨(e0 _ (by omega)).trans h.a0, (e0 _ (by omega)).trans h.a2, (e0 _ (by omega)).trans h.a3, (e0 _ (by omega)).trans h.a4, (e0 _ (by omega)).trans h.a5, (e0 _ (by omega)).trans h.a6, (e0 _ (by omega)).trans h.a12, (e0 _ (by omega)).trans h.a13, (e0 _ (by omega)).trans h.a14, (e0 _ (by omega)).trans h.a16, (e0 _ (by omega)).trans h.a17, (e0 _ (by omega)).trans h.a18, (e0 _ (by omega)).trans h.a22, (e0 _ (by omega)).trans h.a23, (e0 _ (by omega)).trans h.a24, (e0 _ (by omega)).trans h.a25, (e0 _ (by omega)).trans h.a26, (e0 _ (by omega)).trans h.a27, (e0 _ (by omega)).trans h.a30, h.sev⟩
theorem dl_600 {u : Nat} (h9 : nd 10000 u ≤ 129) : dl u ≤ 600 := by
  unfold dl
  have h3 := nd_self (b := 10000) (by omega) u
  have h2 : u < 10000 ^ 129 := Nat.lt_of_lt_of_le h3 (Nat.pow_le_pow_right (by omega) h9)
  have e : (10000 : Nat) ^ 129 = 10 ^ 515 * 10 := by decide +kernel
  have h5 : nd 10 (u / 10) ≤ 515 := nd_le (by omega) (by omega)
  omega
set_option maxRecDepth 20000 in
set_option maxHeartbeats 4000000 in
theorem r_find1 {d : Nat} {G : zG} {A : Int → Int → Int} {P : Option zV → zG → Prop} {o : Int} (hK : RK G o) (hF : RF A o) {S : Nat} (hS : A o 1 = S) (hS7 : S < 128) {cn : Nat} (hc : cn < 32) {u : Nat} (hu3 : 3 ≤ u) (hv : num (A (o + 2)) (2 * (cn : Int)) u) (h9 : nd 10000 u ≤ 129) {L : List pT} (hn : A o 15 = (L.length : Int)) (hln : L.length + 9 ≤ 288) (hL : ∀ k : Nat, k < L.length → rowT A (o + 7) (o + 8) (o + 9) k (L.getD k pD)) (hbd : bdL L) (k : ∀ A2, RF A2 o → (∀ k : Nat, k < (fp (gP1 S u) (nn1 u) cn L (bnd S)).length → rowT A2 (o + 7) (o + 8) (o + 9) k ((fp (gP1 S u) (nn1 u) cn L (bnd S)).getD k pD)) → A2 o 15 = ((fp (gP1 S u) (nn1 u) cn L (bnd S)).length : Int) → A2 (o + 6) (cn : Int) = (ix (gP1 S u) (bnd S) : Int) → fdF (cn : Int) 15 (o + 7) (o + 8) (o + 9) A A2 o → bdL (fp (gP1 S u) (nn1 u) cn L (bnd S)) → P none (gw G A2)) : ZE (d + 4) M_Ref_findIn (gw G A) 0 [(2, o), (0, (cn : Int)), (9, 0), (9, 0), (9, 0), (9, 0), (9, 0), (9, 0), (9, 0), (9, 0), (9, 0), (9, 0), (9, 0)] [] P := by
  have hu1 : 1 ≤ u := by omega
  have hc63 : 0 ≤ ((cn : Int) : Int) ∧ ((cn : Int) : Int) < 63 := by omega
  have hbb := bnd_le S hS7
  refine ZE.aload_n d_Ref_findIn_0 rfl ?_
  refine ZE.getE (v := o + 6) d_Ref_findIn_1 f_Ref_25 (tg := 2) rfl hK.1 hF.a6 ?_
  refine ZE.iload_n d_Ref_findIn_4 rfl ?_
  refine ZE.iconst (n := 0) d_Ref_findIn_5 ?_
  refine ZE.iast d_Ref_findIn_6 hK.k6 (by have hn0 := hK.n6; show 0 ≤ (cn : Int) ∧ (cn : Int) < gn G (o + 6); omega) ?_
  show ZE (d + 4) M_Ref_findIn (gw G (up2 A (o + 6) (cn : Int) 0)) 7 [(2, o), (0, (cn : Int)), (9, 0), (9, 0), (9, 0), (9, 0), (9, 0), (9, 0), (9, 0), (9, 0), (9, 0), (9, 0), (9, 0)] [] _
  refine ZE.aload_n d_Ref_findIn_7 rfl ?_
  refine ZE.iconst (n := 2) d_Ref_findIn_8 ?_
  refine ZE.iload_n d_Ref_findIn_9 rfl ?_
  refine ZE.imul d_Ref_findIn_10 ?_
  refine ZE.cV [(0, 2 * (cn : Int))] [] [(2, o), (0, 2 * (cn : Int))] d_Ref_findIn_11 l_Ref_108 rfl rfl rfl rfl rfl rfl hK.1 ?_
  refine r_longOf (v := u) hK (hF.u2 (by omega)) (by omega) (by rw [up2_A, upA_ne _ _ (by omega)]; exact hv) h9 ?_
  show ZE (d + 4) M_Ref_findIn (gw G (up2 A (o + 6) (cn : Int) 0)) 14 [(2, o), (0, (cn : Int)), (9, 0), (9, 0), (9, 0), (9, 0), (9, 0), (9, 0), (9, 0), (9, 0), (9, 0), (9, 0), (9, 0)] [(0, (dl u : Int))] _
  have hdl := dl_9 (v := u)
  have hdlr : dl u ≤ 600 := dl_600 h9
  refine ZE.bipush (n := 9) d_Ref_findIn_14 rfl ?_
  refine ZE.icmp_le (tgt := 20) d_Ref_findIn_16 rfl (by unfold zR; omega) (by unfold zR; omega) (fun c16 => ?_) (fun c16 => ?_)
  · refine ZE.aload_n d_Ref_findIn_20 rfl ?_
    refine ZE.iconst (n := 2) d_Ref_findIn_21 ?_
    refine ZE.iload_n d_Ref_findIn_22 rfl ?_
    refine ZE.imul d_Ref_findIn_23 ?_
    refine ZE.cV [(0, 2 * (cn : Int))] [] [(2, o), (0, 2 * (cn : Int)), (9, 0), (9, 0)] d_Ref_findIn_24 l_Ref_173 rfl rfl rfl rfl rfl rfl hK.1 ?_
    refine r_smallOf (v := u) hK (hF.u2 (by omega)) (by omega) (by rw [up2_A, upA_ne _ _ (by omega)]; exact hv) h9 ?_
    show ZE (d + 4) M_Ref_findIn (gw G (up2 A (o + 6) (cn : Int) 0)) 27 [(2, o), (0, (cn : Int)), (9, 0), (9, 0), (9, 0), (9, 0), (9, 0), (9, 0), (9, 0), (9, 0), (9, 0), (9, 0), (9, 0)] [(0, (u : Int))] _
    refine ZE.i2l d_Ref_findIn_27 (by unfold zR; omega) ?_
    refine ZE.lstore_n (ls2 := [(2, o), (0, (cn : Int)), (1, (u : Int)), (9, 0), (9, 0), (9, 0), (9, 0), (9, 0), (9, 0), (9, 0), (9, 0), (9, 0), (9, 0)]) d_Ref_findIn_28 (Nat.le_of_ble_eq_true rfl) rfl ?_
    refine ZE.lconst d_Ref_findIn_29 ?_
    show ZE (d + 4) M_Ref_findIn (gw G (up2 A (o + 6) (cn : Int) 0)) 30 [(2, o), (0, (cn : Int)), (1, (u : Int)), (9, 0), (9, 0), (9, 0), (9, 0), (9, 0), (9, 0), (9, 0), (9, 0), (9, 0), (9, 0)] [(1, 1)] _
    refine ZE.lstore (ls2 := [(2, o), (0, (cn : Int)), (1, (u : Int)), (9, 0), (1, 1), (9, 0), (9, 0), (9, 0), (9, 0), (9, 0), (9, 0), (9, 0), (9, 0)]) d_Ref_findIn_30 (Nat.le_of_ble_eq_true rfl) rfl ?_
    refine ZE.lload_n d_Ref_findIn_32 rfl ?_
    refine ZE.lstore (ls2 := [(2, o), (0, (cn : Int)), (1, (u : Int)), (9, 0), (1, 1), (9, 0), (1, (u : Int)), (9, 0), (9, 0), (9, 0), (9, 0), (9, 0), (9, 0)]) d_Ref_findIn_33 (Nat.le_of_ble_eq_true rfl) rfl ?_
    refine ZE.iconst (n := 1) d_Ref_findIn_35 ?_
    refine ZE.istore (ls2 := [(2, o), (0, (cn : Int)), (1, (u : Int)), (9, 0), (1, 1), (9, 0), (1, (u : Int)), (9, 0), (0, 1), (9, 0), (9, 0), (9, 0), (9, 0)]) d_Ref_findIn_36 (Nat.le_of_ble_eq_true rfl) rfl ?_
    have L38 : ∀ (t : Nat) (j : Nat) (A1 : Int → Int → Int) (hj : j ≤ bnd S) (hsj : xp u j < 1000000000) (hA1 : RF A1 o) (hr1 : ∀ k : Nat, k < (fp (gP1 S u) (nn1 u) cn L j).length → rowT A1 (o + 7) (o + 8) (o + 9) k ((fp (gP1 S u) (nn1 u) cn L j).getD k pD)) (hn1 : A1 o 15 = ((fp (gP1 S u) (nn1 u) cn L j).length : Int)) (hi1 : A1 (o + 6) (cn : Int) = (ix (gP1 S u) j : Int)) (g1 : fdF (cn : Int) 15 (o + 7) (o + 8) (o + 9) A A1 o) (hb1 : bdL (fp (gP1 S u) (nn1 u) cn L j)), bnd S - j < t → ZE (d + 4) M_Ref_findIn (gw G A1) 38 [(2, o), (0, (cn : Int)), (1, (u : Int)), (9, 0), (1, (xp u j : Int)), (9, 0), (1, (xp u (j + 1) : Int)), (9, 0), (0, (j : Int) + 1), (9, 0), (9, 0), (9, 0), (9, 0)] [] P := by
      intro t
      induction t with
      | zero => intro j A1 hj hsj hA1 hr1 hn1 hi1 g1 hb1 hm; exact absurd hm (Nat.not_lt_zero _)
      | succ t ih =>
        intro j A1 hj hsj hA1 hr1 hn1 hi1 g1 hb1 hm
        have hl := fp_len (g := gP1 S u) (nn := nn1 u) (c := cn) (L := L) j
        have hbb := bnd_le S hS7
        have hm := xp_le_mono hu1 (show 1 ≤ j + 1 by omega)
        have hu2 : 3 ≤ xp u (j + 1) := Nat.le_trans hu3 hm
        have hxb : xp u (j + 1) ≤ 2 * u * xp u j := by have := xp_step hu1 j; omega
        have hxc : 2 * u * xp u j ≤ 2 * 1000000000 * 1000000000 := Nat.mul_le_mul (by omega) (by omega)
        have hx1 : A1 o 1 = (S : Int) := by rw [g1.2.1 _ (by omega)]; exact hS
        have hx2 : num (A1 (o + 2)) (2 * (cn : Int)) u := by rw [g1.1 _ (by omega) (by omega) (by omega) (by omega) (by omega)]; exact hv
        have J168 : ∀ A3 : Int → Int → Int, xp u (j + 1) < 1000000000 → RF A3 o → (∀ k : Nat, k < (fp (gP1 S u) (nn1 u) cn L (j + 1)).length → rowT A3 (o + 7) (o + 8) (o + 9) k ((fp (gP1 S u) (nn1 u) cn L (j + 1)).getD k pD)) → A3 o 15 = ((fp (gP1 S u) (nn1 u) cn L (j + 1)).length : Int) → A3 (o + 6) (cn : Int) = (ix (gP1 S u) (j + 1) : Int) → fdF (cn : Int) 15 (o + 7) (o + 8) (o + 9) A A3 o → bdL (fp (gP1 S u) (nn1 u) cn L (j + 1)) → j < bnd S → ZE (d + 4) M_Ref_findIn (gw G A3) 168 [(2, o), (0, (cn : Int)), (1, (u : Int)), (9, 0), (1, (xp u j : Int)), (9, 0), (1, (xp u (j + 1) : Int)), (9, 0), (0, (j : Int) + 1), (9, 0), (9, 0), (9, 0), (9, 0)] [] P := by
          intro A3 hsm hA3 hr3 hn3 hi3 hg3 hb3 hjb
          refine ZE.ldc2 (v := 2) d_Ref_findIn_168 k_Ref_181 ?_
          refine ZE.lload_n d_Ref_findIn_171 rfl ?_
          refine ZE.lmul d_Ref_findIn_172 ?_
          refine ZE.lload d_Ref_findIn_173 rfl ?_
          refine ZE.lmul d_Ref_findIn_175 ?_
          refine ZE.lload d_Ref_findIn_176 rfl ?_
          refine ZE.lsub d_Ref_findIn_178 ?_
          refine ZE.lstore (ls2 := [(2, o), (0, (cn : Int)), (1, (u : Int)), (9, 0), (1, (xp u j : Int)), (9, 0), (1, (xp u (j + 1) : Int)), (9, 0), (0, (j : Int) + 1), (9, 0), (9, 0), (1, ((2 * (u : Int)) * (xp u (j + 1) : Int)) - (xp u j : Int)), (9, 0)]) d_Ref_findIn_179 (Nat.le_of_ble_eq_true rfl) rfl ?_
          refine ZE.lload d_Ref_findIn_181 rfl ?_
          refine ZE.lstore (ls2 := [(2, o), (0, (cn : Int)), (1, (u : Int)), (9, 0), (1, (xp u (j + 1) : Int)), (9, 0), (1, (xp u (j + 1) : Int)), (9, 0), (0, (j : Int) + 1), (9, 0), (9, 0), (1, ((2 * (u : Int)) * (xp u (j + 1) : Int)) - (xp u j : Int)), (9, 0)]) d_Ref_findIn_183 (Nat.le_of_ble_eq_true rfl) rfl ?_
          refine ZE.lload d_Ref_findIn_185 rfl ?_
          refine ZE.lstore (ls2 := [(2, o), (0, (cn : Int)), (1, (u : Int)), (9, 0), (1, (xp u (j + 1) : Int)), (9, 0), (1, ((2 * (u : Int)) * (xp u (j + 1) : Int)) - (xp u j : Int)), (9, 0), (0, (j : Int) + 1), (9, 0), (9, 0), (1, ((2 * (u : Int)) * (xp u (j + 1) : Int)) - (xp u j : Int)), (9, 0)]) d_Ref_findIn_187 (Nat.le_of_ble_eq_true rfl) rfl ?_
          refine ZE.iinc (ls2 := [(2, o), (0, (cn : Int)), (1, (u : Int)), (9, 0), (1, (xp u (j + 1) : Int)), (9, 0), (1, ((2 * (u : Int)) * (xp u (j + 1) : Int)) - (xp u j : Int)), (9, 0), (0, ((j : Int) + 1) + 1), (9, 0), (9, 0), (1, ((2 * (u : Int)) * (xp u (j + 1) : Int)) - (xp u j : Int)), (9, 0)]) d_Ref_findIn_189 rfl rfl ?_
          refine ZE.goto (tgt := 38) d_Ref_findIn_192 rfl ?_
          refine ZE.mask [true, true, true, true, true, true, true, true, true, true, true, false, true] ?_
          show ZE (d + 4) M_Ref_findIn (gw G A3) 38 [(2, o), (0, (cn : Int)), (1, (u : Int)), (9, 0), (1, (xp u (j + 1) : Int)), (9, 0), (1, ((2 * (u : Int)) * (xp u (j + 1) : Int)) - (xp u j : Int)), (9, 0), (0, ((j : Int) + 1) + 1), (9, 0), (9, 0), (9, 0), (9, 0)] [] _
          rw [show (2 : Int) * (u : Int) * (xp u (j + 1) : Int) - (xp u j : Int) = (xp u (j + 2) : Int) from by have h1 := xp_step hu1 (j + 1); have h2 : ((xp u (j + 2) + xp u j : Nat) : Int) = ((2 * u * xp u (j + 1) : Nat) : Int) := congrArg _ h1; simp only [Int.natCast_add, Int.natCast_mul] at h2; rw [show ((2 : Nat) : Int) = 2 from rfl] at h2; omega, show ((j : Int) + 1) + 1 = ((j + 1 : Nat) : Int) + 1 by omega]
          exact ih (j + 1) A3 (by omega) hsm hA3 hr3 hn3 hi3 hg3 hb3 (by omega)
        have hsum : 2 * u * xp u (j + 1) - xp u j = xp u (j + 2) := rfl
        refine ZE.iload d_Ref_findIn_38 rfl ?_
        refine ZE.aload_n d_Ref_findIn_40 rfl ?_
        refine ZE.cV [] [(0, (j : Int) + 1)] [(2, o)] d_Ref_findIn_41 l_Ref_176 rfl rfl rfl rfl rfl rfl hK.1 ?_
        refine r_bound hK hA1 hx1 hS7 ?_
        show ZE (d + 4) M_Ref_findIn (gw G A1) 44 [(2, o), (0, (cn : Int)), (1, (u : Int)), (9, 0), (1, (xp u j : Int)), (9, 0), (1, (xp u (j + 1) : Int)), (9, 0), (0, (j : Int) + 1), (9, 0), (9, 0), (9, 0), (9, 0)] [(0, (bnd S : Int)), (0, (j : Int) + 1)] _
        refine ZE.icmp_gt (tgt := 195) d_Ref_findIn_44 rfl (by unfold zR; omega) (by unfold zR; omega) (fun c44 => ?_) (fun c44 => ?_)
        · have e1 : j = bnd S := by omega
          rw [← e1] at k
          refine ZE.vret d_Ref_findIn_195 rfl ?_
          exact k _ hA1 hr1 hn1 hi1 g1 hb1
        · refine ZE.lload d_Ref_findIn_47 rfl ?_
          refine ZE.ldc2 (v := 1000000000) d_Ref_findIn_49 k_Ref_179 ?_
          refine ZE.lcmp d_Ref_findIn_52 (by unfold zR64; omega) (by unfold zR64; omega) ?_
          refine ZE.if_ge (tgt := 195) d_Ref_findIn_53 rfl (zR_zcmp _ _) (fun c53 => ?_) (fun c53 => ?_)
          · replace c53 := zcmp_ge.mp c53
            have hbig : ∀ i, j < i → gP1 S u i = false := by
              intro i hi
              have h1 := xp_le_mono hu1 (show j + 1 ≤ i by omega)
              unfold gP1
              rw [decide_eq_false (by omega), Bool.false_and, Bool.false_and]
            have hst := fp_stop (nn := nn1 u) (c := cn) (L := L) hbig (bnd S) hj
            rw [hst.1, hst.2] at k
            refine ZE.vret d_Ref_findIn_195 rfl ?_
            exact k _ hA1 hr1 hn1 hi1 g1 hb1
          · replace c53 := (not_congr zcmp_ge).mp c53
            have hsm : xp u (j + 1) < 1000000000 := by omega
            have hjb : j < bnd S := by omega
            have hnn : 1 ≤ nn1 u (j + 1) ∧ nn1 u (j + 1) < 1000000000 := by unfold nn1; omega
            refine ZE.iload_n d_Ref_findIn_56 rfl ?_
            refine ZE.bipush (n := 32) d_Ref_findIn_57 rfl ?_
            refine ZE.icmp_lt (tgt := 66) d_Ref_findIn_59 rfl (by unfold zR; omega) (by unfold zR; omega) (fun c59 => ?_) (fun c59 => ?_)
            · refine ZE.iconst (n := 0) d_Ref_findIn_66 ?_
              refine ZE.istore (ls2 := [(2, o), (0, (cn : Int)), (1, (u : Int)), (9, 0), (1, (xp u j : Int)), (9, 0), (1, (xp u (j + 1) : Int)), (9, 0), (0, (j : Int) + 1), (0, 0), (9, 0), (9, 0), (9, 0)]) d_Ref_findIn_67 (Nat.le_of_ble_eq_true rfl) rfl ?_
              refine ZE.iload d_Ref_findIn_69 rfl ?_
              refine ZE.if_eq (tgt := 81) d_Ref_findIn_71 rfl (by unfold zR; omega) (fun c71 => ?_) (fun c71 => ?_)
              · refine ZE.lload d_Ref_findIn_81 rfl ?_
                refine ZE.lconst d_Ref_findIn_83 ?_
                show ZE (d + 4) M_Ref_findIn (gw G A1) 84 [(2, o), (0, (cn : Int)), (1, (u : Int)), (9, 0), (1, (xp u j : Int)), (9, 0), (1, (xp u (j + 1) : Int)), (9, 0), (0, (j : Int) + 1), (0, 0), (9, 0), (9, 0), (9, 0)] [(1, 1), (1, (xp u (j + 1) : Int))] _
                refine ZE.lsub d_Ref_findIn_84 ?_
                refine ZE.ldc2 (v := 2) d_Ref_findIn_85 k_Ref_181 ?_
                refine ZE.ldivP d_Ref_findIn_88 (by omega) ?_
                rw [show (((xp u (j + 1) : Int) - 1) / 2 : Int) = (nn1 u (j + 1) : Int) from (by unfold nn1; omega)]
                refine ZE.l2i d_Ref_findIn_89 ?_
                refine ZE.istore (ls2 := [(2, o), (0, (cn : Int)), (1, (u : Int)), (9, 0), (1, (xp u j : Int)), (9, 0), (1, (xp u (j + 1) : Int)), (9, 0), (0, (j : Int) + 1), (0, 0), (0, (nn1 u (j + 1) : Int)), (9, 0), (9, 0)]) d_Ref_findIn_90 (Nat.le_of_ble_eq_true rfl) rfl ?_
                refine ZE.aload_n d_Ref_findIn_92 rfl ?_
                refine ZE.iload d_Ref_findIn_93 rfl ?_
                refine ZE.cV [(0, (nn1 u (j + 1) : Int))] [] [(2, o), (0, (nn1 u (j + 1) : Int)), (9, 0), (9, 0)] d_Ref_findIn_95 l_Ref_183 rfl rfl rfl rfl rfl rfl hK.1 ?_
                refine r_isSmooth (n := nn1 u (j + 1)) hK hA1 hx1 hS7 (by omega) (by omega) ?_
                show ZE (d + 4) M_Ref_findIn (gw G A1) 98 [(2, o), (0, (cn : Int)), (1, (u : Int)), (9, 0), (1, (xp u j : Int)), (9, 0), (1, (xp u (j + 1) : Int)), (9, 0), (0, (j : Int) + 1), (0, 0), (0, (nn1 u (j + 1) : Int)), (9, 0), (9, 0)] [(0, b2i (sm S (nn1 u (j + 1))))] _
                refine ZE.if_eq (tgt := 168) d_Ref_findIn_98 rfl (zR_b2i _) (fun c98 => ?_) (fun c98 => ?_)
                · replace c98 := b2i_0.mp c98
                  have hs1 := c98
                  refine ZE.mask [true, true, true, true, true, true, true, true, true, false, false, false, false] ?_
                  show ZE (d + 4) M_Ref_findIn (gw G A1) 168 [(2, o), (0, (cn : Int)), (1, (u : Int)), (9, 0), (1, (xp u j : Int)), (9, 0), (1, (xp u (j + 1) : Int)), (9, 0), (0, (j : Int) + 1), (9, 0), (9, 0), (9, 0), (9, 0)] [] _
                  have hgf : gP1 S u (j + 1) = false := by
                    unfold gP1
                    first
                    | (rw [decide_eq_false (show ¬ smF S (nn1 u (j + 1)) 7 = 1 from hs1), Bool.and_false, Bool.false_and])
                    | (rw [decide_eq_false (show ¬ smF S (nn1 u (j + 1) + 1) 7 = 1 from hs2), Bool.and_false])
                  have e1 : fp (gP1 S u) (nn1 u) cn L (j + 1) = fp (gP1 S u) (nn1 u) cn L j := if_neg (by rw [hgf]; decide)
                  have e2 : ix (gP1 S u) (j + 1) = ix (gP1 S u) j := if_neg (by rw [hgf]; decide)
                  exact J168 A1 hsm hA1 (by rw [e1]; exact hr1) (by rw [e1]; exact hn1) (by rw [e2]; exact hi1) g1 (by rw [e1]; exact hb1) hjb
                · replace c98 := b2i_n0.mp c98
                  have hs1 := c98
                  refine ZE.aload_n d_Ref_findIn_101 rfl ?_
                  refine ZE.iload d_Ref_findIn_102 rfl ?_
                  refine ZE.if_eq (tgt := 114) d_Ref_findIn_104 rfl (by unfold zR; omega) (fun c104 => ?_) (fun c104 => ?_)
                  · refine ZE.iload d_Ref_findIn_114 rfl ?_
                    refine ZE.iconst (n := 1) d_Ref_findIn_116 ?_
                    refine ZE.iadd d_Ref_findIn_117 ?_
                    rw [show ((nn1 u (j + 1) : Int) + 1 : Int) = ((nn1 u (j + 1) + 1 : Nat) : Int) from (by omega)]
                    refine ZE.cV [(0, ((nn1 u (j + 1) + 1 : Nat) : Int))] [] [(2, o), (0, ((nn1 u (j + 1) + 1 : Nat) : Int)), (9, 0), (9, 0)] d_Ref_findIn_118 l_Ref_183 rfl rfl rfl rfl rfl rfl hK.1 ?_
                    refine r_isSmooth (n := nn1 u (j + 1) + 1) hK hA1 hx1 hS7 (by omega) (by omega) ?_
                    show ZE (d + 4) M_Ref_findIn (gw G A1) 121 [(2, o), (0, (cn : Int)), (1, (u : Int)), (9, 0), (1, (xp u j : Int)), (9, 0), (1, (xp u (j + 1) : Int)), (9, 0), (0, (j : Int) + 1), (0, 0), (0, (nn1 u (j + 1) : Int)), (9, 0), (9, 0)] [(0, b2i (sm S (nn1 u (j + 1) + 1)))] _
                    refine ZE.if_eq (tgt := 168) d_Ref_findIn_121 rfl (zR_b2i _) (fun c121 => ?_) (fun c121 => ?_)
                    · replace c121 := b2i_0.mp c121
                      have hs2 := c121
                      refine ZE.mask [true, true, true, true, true, true, true, true, true, false, false, false, false] ?_
                      show ZE (d + 4) M_Ref_findIn (gw G A1) 168 [(2, o), (0, (cn : Int)), (1, (u : Int)), (9, 0), (1, (xp u j : Int)), (9, 0), (1, (xp u (j + 1) : Int)), (9, 0), (0, (j : Int) + 1), (9, 0), (9, 0), (9, 0), (9, 0)] [] _
                      have hgf : gP1 S u (j + 1) = false := by
                        unfold gP1
                        first
                        | (rw [decide_eq_false (show ¬ smF S (nn1 u (j + 1)) 7 = 1 from hs1), Bool.and_false, Bool.false_and])
                        | (rw [decide_eq_false (show ¬ smF S (nn1 u (j + 1) + 1) 7 = 1 from hs2), Bool.and_false])
                      have e1 : fp (gP1 S u) (nn1 u) cn L (j + 1) = fp (gP1 S u) (nn1 u) cn L j := if_neg (by rw [hgf]; decide)
                      have e2 : ix (gP1 S u) (j + 1) = ix (gP1 S u) j := if_neg (by rw [hgf]; decide)
                      exact J168 A1 hsm hA1 (by rw [e1]; exact hr1) (by rw [e1]; exact hn1) (by rw [e2]; exact hi1) g1 (by rw [e1]; exact hb1) hjb
                    · replace c121 := b2i_n0.mp c121
                      have hs2 := c121
                      have hil := ix_lt (g := gP1 S u) j
                      have hp9 : 2 ^ j ≤ 2 ^ 9 := Nat.pow_le_pow_right (by omega) (by omega)
                      have hp8 : 2 ^ j ≤ 2 ^ 8 := Nat.pow_le_pow_right (by omega) (by omega)
                      refine ZE.iload d_Ref_findIn_124 rfl ?_
                      refine ZE.if_eq (tgt := 144) d_Ref_findIn_126 rfl (by unfold zR; omega) (fun c126 => ?_) (fun c126 => ?_)
                      · refine ZE.aload_n d_Ref_findIn_144 rfl ?_
                        refine ZE.iload d_Ref_findIn_145 rfl ?_
                        refine ZE.iload_n d_Ref_findIn_147 rfl ?_
                        refine ZE.iload d_Ref_findIn_148 rfl ?_
                        refine ZE.cV [(0, (nn1 u (j + 1) : Int)), (0, (cn : Int)), (0, (j : Int) + 1)] [] [(2, o), (0, (nn1 u (j + 1) : Int)), (0, (cn : Int)), (0, (j : Int) + 1), (9, 0)] d_Ref_findIn_150 l_Ref_189 rfl rfl rfl rfl rfl rfl hK.1 ?_
                        refine r_comePair (L := fp (gP1 S u) (nn1 u) cn L j) (x1 := (nn1 u (j + 1), cn, j + 1)) hK hA1 hn1 (by omega) hr1 hb1 (by show nn1 u (j + 1) < 2147483648; omega) (fun A4 hr4 hn4 hq1 hq2 => ?_)
                        show ZE (d + 4) M_Ref_findIn (gw G A4) 153 [(2, o), (0, (cn : Int)), (1, (u : Int)), (9, 0), (1, (xp u j : Int)), (9, 0), (1, (xp u (j + 1) : Int)), (9, 0), (0, (j : Int) + 1), (0, 0), (0, (nn1 u (j + 1) : Int)), (9, 0), (9, 0)] [] _
                        have hnb : (nn1 u (j + 1), cn, j + 1).1 < 2147483648 := by show nn1 u (j + 1) < 2147483648; omega
                        have hg4 : fdF (cn : Int) 15 (o + 7) (o + 8) (o + 9) A1 A4 o := ⟨fun b h1 h2 h3 h4 h5 => hq1 b h1 h3 h4 h5, hq2, fun i h => by rw [hq1 _ (by omega) (by omega) (by omega) (by omega)]⟩
                        have hA4 : RF A4 o := hA1.fd hg4 (by omega) (by omega) (by omega) (by omega)
                        refine ZE.aload_n d_Ref_findIn_153 rfl ?_
                        refine ZE.getE (v := o + 6) d_Ref_findIn_154 f_Ref_25 (tg := 2) rfl hK.1 hA4.a6 ?_
                        refine ZE.iload_n d_Ref_findIn_157 rfl ?_
                        refine ZE.dup2 d_Ref_findIn_158 (Or.inl rfl) (Or.inr rfl) ?_
                        refine ZE.ialdE (v := (ix (gP1 S u) j : Int)) d_Ref_findIn_159 hK.k6 (by have hn0 := hK.n6; show 0 ≤ (cn : Int) ∧ (cn : Int) < gn G (o + 6); omega) (by rw [gw_at, hq1 _ (by omega) (by omega) (by omega) (by omega)]; exact hi1) ?_
                        refine ZE.iconst (n := 1) d_Ref_findIn_160 ?_
                        refine ZE.iload d_Ref_findIn_161 rfl ?_
                        refine ZE.iconst (n := 1) d_Ref_findIn_163 ?_
                        refine ZE.isub d_Ref_findIn_164 ?_
                        rw [show (((j : Int) + 1) - 1 : Int) = (j : Int) from (by omega)]
                        refine ZE.ishl d_Ref_findIn_165 ?_
                        rw [show (zshl 1 (j : Int) : Int) = ((2 ^ j : Nat) : Int) from (by have := zshl_nat (a := 1) (k := j) (by omega) (by omega); rw [Nat.one_mul] at this; exact this)]
                        refine ZE.ior d_Ref_findIn_166 ?_
                        rw [show (zor (ix (gP1 S u) j : Int) ((2 ^ j : Nat) : Int) : Int) = ((ix (gP1 S u) j ||| 2 ^ j : Nat) : Int) from (zor_nat (by omega) (by omega))]
                        refine ZE.iast d_Ref_findIn_167 hK.k6 (by have hn0 := hK.n6; show 0 ≤ (cn : Int) ∧ (cn : Int) < gn G (o + 6); omega) ?_
                        show ZE (d + 4) M_Ref_findIn (gw G (up2 A4 (o + 6) (cn : Int) ((ix (gP1 S u) j ||| 2 ^ j : Nat) : Int))) 168 [(2, o), (0, (cn : Int)), (1, (u : Int)), (9, 0), (1, (xp u j : Int)), (9, 0), (1, (xp u (j + 1) : Int)), (9, 0), (0, (j : Int) + 1), (0, 0), (0, (nn1 u (j + 1) : Int)), (9, 0), (9, 0)] [] _
                        refine ZE.mask [true, true, true, true, true, true, true, true, true, false, false, false, false] ?_
                        show ZE (d + 4) M_Ref_findIn (gw G (up2 A4 (o + 6) (cn : Int) ((ix (gP1 S u) j ||| 2 ^ j : Nat) : Int))) 168 [(2, o), (0, (cn : Int)), (1, (u : Int)), (9, 0), (1, (xp u j : Int)), (9, 0), (1, (xp u (j + 1) : Int)), (9, 0), (0, (j : Int) + 1), (9, 0), (9, 0), (9, 0), (9, 0)] [] _
                        have hgt : gP1 S u (j + 1) = true := by
                          unfold gP1
                          rw [decide_eq_true hsm, decide_eq_true (show smF S (nn1 u (j + 1)) 7 = 1 from hs1), decide_eq_true (show smF S (nn1 u (j + 1) + 1) 7 = 1 from hs2)]
                          rfl
                        have e1 : fp (gP1 S u) (nn1 u) cn L (j + 1) = insP (fp (gP1 S u) (nn1 u) cn L j) (nn1 u (j + 1), cn, j + 1) := if_pos hgt
                        have e2 : ix (gP1 S u) (j + 1) = ix (gP1 S u) j ||| 2 ^ j := if_pos hgt
                        refine J168 _ hsm (hA4.u2 (by omega)) ?_ ?_ ?_ ((g1.tr hg4).ixs) ?_ hjb
                        · rw [e1]; intro k2 hk2; have h0 := hr4 k2 hk2; exact ⟨(up2_ne _ _ (by omega)).trans h0.1, (up2_ne _ _ (by omega)).trans h0.2.1, (up2_ne _ _ (by omega)).trans h0.2.2⟩
                        · rw [e1, up2_ne _ _ (by omega)]; exact hn4
                        · rw [e2, up2_at]
                        · rw [e1]; exact hb1.ins hnb
                      · exact absurd c126 (by decide)
                  · exact absurd c104 (by decide)
              · exact absurd c71 (by decide)
            · exact absurd c59 (by omega)
    exact L38 _ 0 (up2 A (o + 6) (cn : Int) 0) (Nat.zero_le _) (by show 1 < 1000000000; omega) (hF.u2 (by omega)) (fun k2 hk2 => by have h0 := hL k2 hk2; exact ⟨(up2_ne _ _ (by omega)).trans h0.1, (up2_ne _ _ (by omega)).trans h0.2.1, (up2_ne _ _ (by omega)).trans h0.2.2⟩) ((up2_ne _ _ (by omega)).trans hn) (up2_at _ _ _ _) fdF.rf.ixs hbd (Nat.lt_succ_self _)
  · have hbig : ∀ i, 0 < i → gP1 S u i = false := by
      intro i hi
      have h1 := xp_le_mono hu1 (show 1 ≤ i by omega)
      have h2 : 1000000000 ≤ xp u 1 := by show 1000000000 ≤ u; omega
      unfold gP1
      rw [decide_eq_false (by omega), Bool.false_and, Bool.false_and]
    have hst := fp_stop (nn := nn1 u) (c := cn) (L := L) hbig (bnd S) (Nat.zero_le _)
    refine ZE.vret d_Ref_findIn_19 rfl ?_
    refine k _ (hF.u2 (by omega)) ?_ ?_ ?_ fdF.rf.ixs ?_
    · rw [hst.1]; intro k2 hk2; have h0 := hL k2 hk2; exact ⟨(up2_ne _ _ (by omega)).trans h0.1, (up2_ne _ _ (by omega)).trans h0.2.1, (up2_ne _ _ (by omega)).trans h0.2.2⟩
    · rw [hst.1]; exact (up2_ne _ _ (by omega)).trans hn
    · rw [hst.2]; exact up2_at _ _ _ _
    · rw [hst.1]; exact hbd
set_option maxRecDepth 20000 in
set_option maxHeartbeats 4000000 in
theorem r_find2 {d : Nat} {G : zG} {A : Int → Int → Int} {P : Option zV → zG → Prop} {o : Int} (hK : RK G o) (hF : RF A o) {S : Nat} (hS : A o 1 = S) (hS7 : S < 128) {c : Int} {cn : Nat} (hc : 32 ≤ c ∧ c < 63 ∧ c = (cn : Int) + 32) {u : Nat} (hu3 : 2 ≤ u) (hv : num (A (o + 2)) (2 * c) u) (h9 : nd 10000 u ≤ 129) {L : List pT} (hn : A o 19 = (L.length : Int)) (hln : L.length + 9 ≤ 288) (hL : ∀ k : Nat, k < L.length → rowT A (o + 10) (o + 11) (o + 12) k (L.getD k pD)) (hbd : bdL L) (k : ∀ A2, RF A2 o → (∀ k : Nat, k < (fp (gP2 S u) (nn2 u) cn L (bnd S)).length → rowT A2 (o + 10) (o + 11) (o + 12) k ((fp (gP2 S u) (nn2 u) cn L (bnd S)).getD k pD)) → A2 o 19 = ((fp (gP2 S u) (nn2 u) cn L (bnd S)).length : Int) → A2 (o + 6) c = (ix (gP2 S u) (bnd S) : Int) → fdF c 19 (o + 10) (o + 11) (o + 12) A A2 o → bdL (fp (gP2 S u) (nn2 u) cn L (bnd S)) → P none (gw G A2)) : ZE (d + 4) M_Ref_findIn (gw G A) 0 [(2, o), (0, c), (9, 0), (9, 0), (9, 0), (9, 0), (9, 0), (9, 0), (9, 0), (9, 0), (9, 0), (9, 0), (9, 0)] [] P := by
  have hu1 : 1 ≤ u := by omega
  have hc63 : 0 ≤ (c : Int) ∧ (c : Int) < 63 := by omega
  have hbb := bnd_le S hS7
  refine ZE.aload_n d_Ref_findIn_0 rfl ?_
  refine ZE.getE (v := o + 6) d_Ref_findIn_1 f_Ref_25 (tg := 2) rfl hK.1 hF.a6 ?_
  refine ZE.iload_n d_Ref_findIn_4 rfl ?_
  refine ZE.iconst (n := 0) d_Ref_findIn_5 ?_
  refine ZE.iast d_Ref_findIn_6 hK.k6 (by have hn0 := hK.n6; show 0 ≤ c ∧ c < gn G (o + 6); omega) ?_
  show ZE (d + 4) M_Ref_findIn (gw G (up2 A (o + 6) c 0)) 7 [(2, o), (0, c), (9, 0), (9, 0), (9, 0), (9, 0), (9, 0), (9, 0), (9, 0), (9, 0), (9, 0), (9, 0), (9, 0)] [] _
  refine ZE.aload_n d_Ref_findIn_7 rfl ?_
  refine ZE.iconst (n := 2) d_Ref_findIn_8 ?_
  refine ZE.iload_n d_Ref_findIn_9 rfl ?_
  refine ZE.imul d_Ref_findIn_10 ?_
  refine ZE.cV [(0, 2 * c)] [] [(2, o), (0, 2 * c)] d_Ref_findIn_11 l_Ref_108 rfl rfl rfl rfl rfl rfl hK.1 ?_
  refine r_longOf (v := u) hK (hF.u2 (by omega)) (by omega) (by rw [up2_A, upA_ne _ _ (by omega)]; exact hv) h9 ?_
  show ZE (d + 4) M_Ref_findIn (gw G (up2 A (o + 6) c 0)) 14 [(2, o), (0, c), (9, 0), (9, 0), (9, 0), (9, 0), (9, 0), (9, 0), (9, 0), (9, 0), (9, 0), (9, 0), (9, 0)] [(0, (dl u : Int))] _
  have hdl := dl_9 (v := u)
  have hdlr : dl u ≤ 600 := dl_600 h9
  refine ZE.bipush (n := 9) d_Ref_findIn_14 rfl ?_
  refine ZE.icmp_le (tgt := 20) d_Ref_findIn_16 rfl (by unfold zR; omega) (by unfold zR; omega) (fun c16 => ?_) (fun c16 => ?_)
  · refine ZE.aload_n d_Ref_findIn_20 rfl ?_
    refine ZE.iconst (n := 2) d_Ref_findIn_21 ?_
    refine ZE.iload_n d_Ref_findIn_22 rfl ?_
    refine ZE.imul d_Ref_findIn_23 ?_
    refine ZE.cV [(0, 2 * c)] [] [(2, o), (0, 2 * c), (9, 0), (9, 0)] d_Ref_findIn_24 l_Ref_173 rfl rfl rfl rfl rfl rfl hK.1 ?_
    refine r_smallOf (v := u) hK (hF.u2 (by omega)) (by omega) (by rw [up2_A, upA_ne _ _ (by omega)]; exact hv) h9 ?_
    show ZE (d + 4) M_Ref_findIn (gw G (up2 A (o + 6) c 0)) 27 [(2, o), (0, c), (9, 0), (9, 0), (9, 0), (9, 0), (9, 0), (9, 0), (9, 0), (9, 0), (9, 0), (9, 0), (9, 0)] [(0, (u : Int))] _
    refine ZE.i2l d_Ref_findIn_27 (by unfold zR; omega) ?_
    refine ZE.lstore_n (ls2 := [(2, o), (0, c), (1, (u : Int)), (9, 0), (9, 0), (9, 0), (9, 0), (9, 0), (9, 0), (9, 0), (9, 0), (9, 0), (9, 0)]) d_Ref_findIn_28 (Nat.le_of_ble_eq_true rfl) rfl ?_
    refine ZE.lconst d_Ref_findIn_29 ?_
    show ZE (d + 4) M_Ref_findIn (gw G (up2 A (o + 6) c 0)) 30 [(2, o), (0, c), (1, (u : Int)), (9, 0), (9, 0), (9, 0), (9, 0), (9, 0), (9, 0), (9, 0), (9, 0), (9, 0), (9, 0)] [(1, 1)] _
    refine ZE.lstore (ls2 := [(2, o), (0, c), (1, (u : Int)), (9, 0), (1, 1), (9, 0), (9, 0), (9, 0), (9, 0), (9, 0), (9, 0), (9, 0), (9, 0)]) d_Ref_findIn_30 (Nat.le_of_ble_eq_true rfl) rfl ?_
    refine ZE.lload_n d_Ref_findIn_32 rfl ?_
    refine ZE.lstore (ls2 := [(2, o), (0, c), (1, (u : Int)), (9, 0), (1, 1), (9, 0), (1, (u : Int)), (9, 0), (9, 0), (9, 0), (9, 0), (9, 0), (9, 0)]) d_Ref_findIn_33 (Nat.le_of_ble_eq_true rfl) rfl ?_
    refine ZE.iconst (n := 1) d_Ref_findIn_35 ?_
    refine ZE.istore (ls2 := [(2, o), (0, c), (1, (u : Int)), (9, 0), (1, 1), (9, 0), (1, (u : Int)), (9, 0), (0, 1), (9, 0), (9, 0), (9, 0), (9, 0)]) d_Ref_findIn_36 (Nat.le_of_ble_eq_true rfl) rfl ?_
    have L38 : ∀ (t : Nat) (j : Nat) (A1 : Int → Int → Int) (hj : j ≤ bnd S) (hsj : xp u j < 1000000000) (hA1 : RF A1 o) (hr1 : ∀ k : Nat, k < (fp (gP2 S u) (nn2 u) cn L j).length → rowT A1 (o + 10) (o + 11) (o + 12) k ((fp (gP2 S u) (nn2 u) cn L j).getD k pD)) (hn1 : A1 o 19 = ((fp (gP2 S u) (nn2 u) cn L j).length : Int)) (hi1 : A1 (o + 6) c = (ix (gP2 S u) j : Int)) (g1 : fdF c 19 (o + 10) (o + 11) (o + 12) A A1 o) (hb1 : bdL (fp (gP2 S u) (nn2 u) cn L j)), bnd S - j < t → ZE (d + 4) M_Ref_findIn (gw G A1) 38 [(2, o), (0, c), (1, (u : Int)), (9, 0), (1, (xp u j : Int)), (9, 0), (1, (xp u (j + 1) : Int)), (9, 0), (0, (j : Int) + 1), (9, 0), (9, 0), (9, 0), (9, 0)] [] P := by
      intro t
      induction t with
      | zero => intro j A1 hj hsj hA1 hr1 hn1 hi1 g1 hb1 hm; exact absurd hm (Nat.not_lt_zero _)
      | succ t ih =>
        intro j A1 hj hsj hA1 hr1 hn1 hi1 g1 hb1 hm
        have hl := fp_len (g := gP2 S u) (nn := nn2 u) (c := cn) (L := L) j
        have hbb := bnd_le S hS7
        have hm := xp_le_mono hu1 (show 1 ≤ j + 1 by omega)
        have hu2 : 2 ≤ xp u (j + 1) := Nat.le_trans hu3 hm
        have hxb : xp u (j + 1) ≤ 2 * u * xp u j := by have := xp_step hu1 j; omega
        have hxc : 2 * u * xp u j ≤ 2 * 1000000000 * 1000000000 := Nat.mul_le_mul (by omega) (by omega)
        have hx1 : A1 o 1 = (S : Int) := by rw [g1.2.1 _ (by omega)]; exact hS
        have hx2 : num (A1 (o + 2)) (2 * c) u := by rw [g1.1 _ (by omega) (by omega) (by omega) (by omega) (by omega)]; exact hv
        have J168 : ∀ A3 : Int → Int → Int, xp u (j + 1) < 1000000000 → RF A3 o → (∀ k : Nat, k < (fp (gP2 S u) (nn2 u) cn L (j + 1)).length → rowT A3 (o + 10) (o + 11) (o + 12) k ((fp (gP2 S u) (nn2 u) cn L (j + 1)).getD k pD)) → A3 o 19 = ((fp (gP2 S u) (nn2 u) cn L (j + 1)).length : Int) → A3 (o + 6) c = (ix (gP2 S u) (j + 1) : Int) → fdF c 19 (o + 10) (o + 11) (o + 12) A A3 o → bdL (fp (gP2 S u) (nn2 u) cn L (j + 1)) → j < bnd S → ZE (d + 4) M_Ref_findIn (gw G A3) 168 [(2, o), (0, c), (1, (u : Int)), (9, 0), (1, (xp u j : Int)), (9, 0), (1, (xp u (j + 1) : Int)), (9, 0), (0, (j : Int) + 1), (9, 0), (9, 0), (9, 0), (9, 0)] [] P := by
          intro A3 hsm hA3 hr3 hn3 hi3 hg3 hb3 hjb
          refine ZE.ldc2 (v := 2) d_Ref_findIn_168 k_Ref_181 ?_
          refine ZE.lload_n d_Ref_findIn_171 rfl ?_
          refine ZE.lmul d_Ref_findIn_172 ?_
          refine ZE.lload d_Ref_findIn_173 rfl ?_
          refine ZE.lmul d_Ref_findIn_175 ?_
          refine ZE.lload d_Ref_findIn_176 rfl ?_
          refine ZE.lsub d_Ref_findIn_178 ?_
          refine ZE.lstore (ls2 := [(2, o), (0, c), (1, (u : Int)), (9, 0), (1, (xp u j : Int)), (9, 0), (1, (xp u (j + 1) : Int)), (9, 0), (0, (j : Int) + 1), (9, 0), (9, 0), (1, ((2 * (u : Int)) * (xp u (j + 1) : Int)) - (xp u j : Int)), (9, 0)]) d_Ref_findIn_179 (Nat.le_of_ble_eq_true rfl) rfl ?_
          refine ZE.lload d_Ref_findIn_181 rfl ?_
          refine ZE.lstore (ls2 := [(2, o), (0, c), (1, (u : Int)), (9, 0), (1, (xp u (j + 1) : Int)), (9, 0), (1, (xp u (j + 1) : Int)), (9, 0), (0, (j : Int) + 1), (9, 0), (9, 0), (1, ((2 * (u : Int)) * (xp u (j + 1) : Int)) - (xp u j : Int)), (9, 0)]) d_Ref_findIn_183 (Nat.le_of_ble_eq_true rfl) rfl ?_
          refine ZE.lload d_Ref_findIn_185 rfl ?_
          refine ZE.lstore (ls2 := [(2, o), (0, c), (1, (u : Int)), (9, 0), (1, (xp u (j + 1) : Int)), (9, 0), (1, ((2 * (u : Int)) * (xp u (j + 1) : Int)) - (xp u j : Int)), (9, 0), (0, (j : Int) + 1), (9, 0), (9, 0), (1, ((2 * (u : Int)) * (xp u (j + 1) : Int)) - (xp u j : Int)), (9, 0)]) d_Ref_findIn_187 (Nat.le_of_ble_eq_true rfl) rfl ?_
          refine ZE.iinc (ls2 := [(2, o), (0, c), (1, (u : Int)), (9, 0), (1, (xp u (j + 1) : Int)), (9, 0), (1, ((2 * (u : Int)) * (xp u (j + 1) : Int)) - (xp u j : Int)), (9, 0), (0, ((j : Int) + 1) + 1), (9, 0), (9, 0), (1, ((2 * (u : Int)) * (xp u (j + 1) : Int)) - (xp u j : Int)), (9, 0)]) d_Ref_findIn_189 rfl rfl ?_
          refine ZE.goto (tgt := 38) d_Ref_findIn_192 rfl ?_
          refine ZE.mask [true, true, true, true, true, true, true, true, true, true, true, false, true] ?_
          show ZE (d + 4) M_Ref_findIn (gw G A3) 38 [(2, o), (0, c), (1, (u : Int)), (9, 0), (1, (xp u (j + 1) : Int)), (9, 0), (1, ((2 * (u : Int)) * (xp u (j + 1) : Int)) - (xp u j : Int)), (9, 0), (0, ((j : Int) + 1) + 1), (9, 0), (9, 0), (9, 0), (9, 0)] [] _
          rw [show (2 : Int) * (u : Int) * (xp u (j + 1) : Int) - (xp u j : Int) = (xp u (j + 2) : Int) from by have h1 := xp_step hu1 (j + 1); have h2 : ((xp u (j + 2) + xp u j : Nat) : Int) = ((2 * u * xp u (j + 1) : Nat) : Int) := congrArg _ h1; simp only [Int.natCast_add, Int.natCast_mul] at h2; rw [show ((2 : Nat) : Int) = 2 from rfl] at h2; omega, show ((j : Int) + 1) + 1 = ((j + 1 : Nat) : Int) + 1 by omega]
          exact ih (j + 1) A3 (by omega) hsm hA3 hr3 hn3 hi3 hg3 hb3 (by omega)
        have hsum : 2 * u * xp u (j + 1) - xp u j = xp u (j + 2) := rfl
        refine ZE.iload d_Ref_findIn_38 rfl ?_
        refine ZE.aload_n d_Ref_findIn_40 rfl ?_
        refine ZE.cV [] [(0, (j : Int) + 1)] [(2, o)] d_Ref_findIn_41 l_Ref_176 rfl rfl rfl rfl rfl rfl hK.1 ?_
        refine r_bound hK hA1 hx1 hS7 ?_
        show ZE (d + 4) M_Ref_findIn (gw G A1) 44 [(2, o), (0, c), (1, (u : Int)), (9, 0), (1, (xp u j : Int)), (9, 0), (1, (xp u (j + 1) : Int)), (9, 0), (0, (j : Int) + 1), (9, 0), (9, 0), (9, 0), (9, 0)] [(0, (bnd S : Int)), (0, (j : Int) + 1)] _
        refine ZE.icmp_gt (tgt := 195) d_Ref_findIn_44 rfl (by unfold zR; omega) (by unfold zR; omega) (fun c44 => ?_) (fun c44 => ?_)
        · have e1 : j = bnd S := by omega
          rw [← e1] at k
          refine ZE.vret d_Ref_findIn_195 rfl ?_
          exact k _ hA1 hr1 hn1 hi1 g1 hb1
        · refine ZE.lload d_Ref_findIn_47 rfl ?_
          refine ZE.ldc2 (v := 1000000000) d_Ref_findIn_49 k_Ref_179 ?_
          refine ZE.lcmp d_Ref_findIn_52 (by unfold zR64; omega) (by unfold zR64; omega) ?_
          refine ZE.if_ge (tgt := 195) d_Ref_findIn_53 rfl (zR_zcmp _ _) (fun c53 => ?_) (fun c53 => ?_)
          · replace c53 := zcmp_ge.mp c53
            have hbig : ∀ i, j < i → gP2 S u i = false := by
              intro i hi
              have h1 := xp_le_mono hu1 (show j + 1 ≤ i by omega)
              unfold gP2
              rw [decide_eq_false (by omega), Bool.false_and, Bool.false_and]
            have hst := fp_stop (nn := nn2 u) (c := cn) (L := L) hbig (bnd S) hj
            rw [hst.1, hst.2] at k
            refine ZE.vret d_Ref_findIn_195 rfl ?_
            exact k _ hA1 hr1 hn1 hi1 g1 hb1
          · replace c53 := (not_congr zcmp_ge).mp c53
            have hsm : xp u (j + 1) < 1000000000 := by omega
            have hjb : j < bnd S := by omega
            have hnn : 1 ≤ nn2 u (j + 1) ∧ nn2 u (j + 1) < 1000000000 := by unfold nn2; omega
            refine ZE.iload_n d_Ref_findIn_56 rfl ?_
            refine ZE.bipush (n := 32) d_Ref_findIn_57 rfl ?_
            refine ZE.icmp_lt (tgt := 66) d_Ref_findIn_59 rfl (by unfold zR; omega) (by unfold zR; omega) (fun c59 => ?_) (fun c59 => ?_)
            · exact absurd c59 (by omega)
            · refine ZE.iconst (n := 1) d_Ref_findIn_62 ?_
              refine ZE.goto (tgt := 67) d_Ref_findIn_63 rfl ?_
              refine ZE.istore (ls2 := [(2, o), (0, c), (1, (u : Int)), (9, 0), (1, (xp u j : Int)), (9, 0), (1, (xp u (j + 1) : Int)), (9, 0), (0, (j : Int) + 1), (0, 1), (9, 0), (9, 0), (9, 0)]) d_Ref_findIn_67 (Nat.le_of_ble_eq_true rfl) rfl ?_
              refine ZE.iload d_Ref_findIn_69 rfl ?_
              refine ZE.if_eq (tgt := 81) d_Ref_findIn_71 rfl (by unfold zR; omega) (fun c71 => ?_) (fun c71 => ?_)
              · exact absurd c71 (by decide)
              · refine ZE.lload d_Ref_findIn_74 rfl ?_
                refine ZE.lconst d_Ref_findIn_76 ?_
                show ZE (d + 4) M_Ref_findIn (gw G A1) 77 [(2, o), (0, c), (1, (u : Int)), (9, 0), (1, (xp u j : Int)), (9, 0), (1, (xp u (j + 1) : Int)), (9, 0), (0, (j : Int) + 1), (0, 1), (9, 0), (9, 0), (9, 0)] [(1, 1), (1, (xp u (j + 1) : Int))] _
                refine ZE.lsub d_Ref_findIn_77 ?_
                rw [show ((xp u (j + 1) : Int) - 1 : Int) = (nn2 u (j + 1) : Int) from (by unfold nn2; omega)]
                refine ZE.goto (tgt := 89) d_Ref_findIn_78 rfl ?_
                refine ZE.l2i d_Ref_findIn_89 ?_
                refine ZE.istore (ls2 := [(2, o), (0, c), (1, (u : Int)), (9, 0), (1, (xp u j : Int)), (9, 0), (1, (xp u (j + 1) : Int)), (9, 0), (0, (j : Int) + 1), (0, 1), (0, (nn2 u (j + 1) : Int)), (9, 0), (9, 0)]) d_Ref_findIn_90 (Nat.le_of_ble_eq_true rfl) rfl ?_
                refine ZE.aload_n d_Ref_findIn_92 rfl ?_
                refine ZE.iload d_Ref_findIn_93 rfl ?_
                refine ZE.cV [(0, (nn2 u (j + 1) : Int))] [] [(2, o), (0, (nn2 u (j + 1) : Int)), (9, 0), (9, 0)] d_Ref_findIn_95 l_Ref_183 rfl rfl rfl rfl rfl rfl hK.1 ?_
                refine r_isSmooth (n := nn2 u (j + 1)) hK hA1 hx1 hS7 (by omega) (by omega) ?_
                show ZE (d + 4) M_Ref_findIn (gw G A1) 98 [(2, o), (0, c), (1, (u : Int)), (9, 0), (1, (xp u j : Int)), (9, 0), (1, (xp u (j + 1) : Int)), (9, 0), (0, (j : Int) + 1), (0, 1), (0, (nn2 u (j + 1) : Int)), (9, 0), (9, 0)] [(0, b2i (sm S (nn2 u (j + 1))))] _
                refine ZE.if_eq (tgt := 168) d_Ref_findIn_98 rfl (zR_b2i _) (fun c98 => ?_) (fun c98 => ?_)
                · replace c98 := b2i_0.mp c98
                  have hs1 := c98
                  refine ZE.mask [true, true, true, true, true, true, true, true, true, false, false, false, false] ?_
                  show ZE (d + 4) M_Ref_findIn (gw G A1) 168 [(2, o), (0, c), (1, (u : Int)), (9, 0), (1, (xp u j : Int)), (9, 0), (1, (xp u (j + 1) : Int)), (9, 0), (0, (j : Int) + 1), (9, 0), (9, 0), (9, 0), (9, 0)] [] _
                  have hgf : gP2 S u (j + 1) = false := by
                    unfold gP2
                    first
                    | (rw [decide_eq_false (show ¬ smF S (nn2 u (j + 1)) 7 = 1 from hs1), Bool.and_false, Bool.false_and])
                    | (rw [decide_eq_false (show ¬ smF S (nn2 u (j + 1) + 2) 7 = 1 from hs2), Bool.and_false])
                  have e1 : fp (gP2 S u) (nn2 u) cn L (j + 1) = fp (gP2 S u) (nn2 u) cn L j := if_neg (by rw [hgf]; decide)
                  have e2 : ix (gP2 S u) (j + 1) = ix (gP2 S u) j := if_neg (by rw [hgf]; decide)
                  exact J168 A1 hsm hA1 (by rw [e1]; exact hr1) (by rw [e1]; exact hn1) (by rw [e2]; exact hi1) g1 (by rw [e1]; exact hb1) hjb
                · replace c98 := b2i_n0.mp c98
                  have hs1 := c98
                  refine ZE.aload_n d_Ref_findIn_101 rfl ?_
                  refine ZE.iload d_Ref_findIn_102 rfl ?_
                  refine ZE.if_eq (tgt := 114) d_Ref_findIn_104 rfl (by unfold zR; omega) (fun c104 => ?_) (fun c104 => ?_)
                  · exact absurd c104 (by decide)
                  · refine ZE.iload d_Ref_findIn_107 rfl ?_
                    refine ZE.iconst (n := 2) d_Ref_findIn_109 ?_
                    refine ZE.iadd d_Ref_findIn_110 ?_
                    rw [show ((nn2 u (j + 1) : Int) + 2 : Int) = ((nn2 u (j + 1) + 2 : Nat) : Int) from (by omega)]
                    refine ZE.goto (tgt := 118) d_Ref_findIn_111 rfl ?_
                    refine ZE.cV [(0, ((nn2 u (j + 1) + 2 : Nat) : Int))] [] [(2, o), (0, ((nn2 u (j + 1) + 2 : Nat) : Int)), (9, 0), (9, 0)] d_Ref_findIn_118 l_Ref_183 rfl rfl rfl rfl rfl rfl hK.1 ?_
                    refine r_isSmooth (n := nn2 u (j + 1) + 2) hK hA1 hx1 hS7 (by omega) (by omega) ?_
                    show ZE (d + 4) M_Ref_findIn (gw G A1) 121 [(2, o), (0, c), (1, (u : Int)), (9, 0), (1, (xp u j : Int)), (9, 0), (1, (xp u (j + 1) : Int)), (9, 0), (0, (j : Int) + 1), (0, 1), (0, (nn2 u (j + 1) : Int)), (9, 0), (9, 0)] [(0, b2i (sm S (nn2 u (j + 1) + 2)))] _
                    refine ZE.if_eq (tgt := 168) d_Ref_findIn_121 rfl (zR_b2i _) (fun c121 => ?_) (fun c121 => ?_)
                    · replace c121 := b2i_0.mp c121
                      have hs2 := c121
                      refine ZE.mask [true, true, true, true, true, true, true, true, true, false, false, false, false] ?_
                      show ZE (d + 4) M_Ref_findIn (gw G A1) 168 [(2, o), (0, c), (1, (u : Int)), (9, 0), (1, (xp u j : Int)), (9, 0), (1, (xp u (j + 1) : Int)), (9, 0), (0, (j : Int) + 1), (9, 0), (9, 0), (9, 0), (9, 0)] [] _
                      have hgf : gP2 S u (j + 1) = false := by
                        unfold gP2
                        first
                        | (rw [decide_eq_false (show ¬ smF S (nn2 u (j + 1)) 7 = 1 from hs1), Bool.and_false, Bool.false_and])
                        | (rw [decide_eq_false (show ¬ smF S (nn2 u (j + 1) + 2) 7 = 1 from hs2), Bool.and_false])
                      have e1 : fp (gP2 S u) (nn2 u) cn L (j + 1) = fp (gP2 S u) (nn2 u) cn L j := if_neg (by rw [hgf]; decide)
                      have e2 : ix (gP2 S u) (j + 1) = ix (gP2 S u) j := if_neg (by rw [hgf]; decide)
                      exact J168 A1 hsm hA1 (by rw [e1]; exact hr1) (by rw [e1]; exact hn1) (by rw [e2]; exact hi1) g1 (by rw [e1]; exact hb1) hjb
                    · replace c121 := b2i_n0.mp c121
                      have hs2 := c121
                      have hil := ix_lt (g := gP2 S u) j
                      have hp9 : 2 ^ j ≤ 2 ^ 9 := Nat.pow_le_pow_right (by omega) (by omega)
                      have hp8 : 2 ^ j ≤ 2 ^ 8 := Nat.pow_le_pow_right (by omega) (by omega)
                      refine ZE.iload d_Ref_findIn_124 rfl ?_
                      refine ZE.if_eq (tgt := 144) d_Ref_findIn_126 rfl (by unfold zR; omega) (fun c126 => ?_) (fun c126 => ?_)
                      · exact absurd c126 (by decide)
                      · refine ZE.aload_n d_Ref_findIn_129 rfl ?_
                        refine ZE.iload d_Ref_findIn_130 rfl ?_
                        refine ZE.iload_n d_Ref_findIn_132 rfl ?_
                        refine ZE.bipush (n := 32) d_Ref_findIn_133 rfl ?_
                        refine ZE.isub d_Ref_findIn_135 ?_
                        rw [show (c - 32 : Int) = (cn : Int) from (by omega)]
                        refine ZE.iload d_Ref_findIn_136 rfl ?_
                        refine ZE.cV [(0, (nn2 u (j + 1) : Int)), (0, (cn : Int)), (0, (j : Int) + 1)] [] [(2, o), (0, (nn2 u (j + 1) : Int)), (0, (cn : Int)), (0, (j : Int) + 1), (9, 0)] d_Ref_findIn_138 l_Ref_186 rfl rfl rfl rfl rfl rfl hK.1 ?_
                        refine r_comeTwo (L := fp (gP2 S u) (nn2 u) cn L j) (x1 := (nn2 u (j + 1), cn, j + 1)) hK hA1 hn1 (by omega) hr1 hb1 (by show nn2 u (j + 1) < 2147483648; omega) (fun A4 hr4 hn4 hq1 hq2 => ?_)
                        show ZE (d + 4) M_Ref_findIn (gw G A4) 141 [(2, o), (0, c), (1, (u : Int)), (9, 0), (1, (xp u j : Int)), (9, 0), (1, (xp u (j + 1) : Int)), (9, 0), (0, (j : Int) + 1), (0, 1), (0, (nn2 u (j + 1) : Int)), (9, 0), (9, 0)] [] _
                        have hnb : (nn2 u (j + 1), cn, j + 1).1 < 2147483648 := by show nn2 u (j + 1) < 2147483648; omega
                        have hg4 : fdF c 19 (o + 10) (o + 11) (o + 12) A1 A4 o := ⟨fun b h1 h2 h3 h4 h5 => hq1 b h1 h3 h4 h5, hq2, fun i h => by rw [hq1 _ (by omega) (by omega) (by omega) (by omega)]⟩
                        have hA4 : RF A4 o := hA1.fd hg4 (by omega) (by omega) (by omega) (by omega)
                        refine ZE.goto (tgt := 153) d_Ref_findIn_141 rfl ?_
                        refine ZE.aload_n d_Ref_findIn_153 rfl ?_
                        refine ZE.getE (v := o + 6) d_Ref_findIn_154 f_Ref_25 (tg := 2) rfl hK.1 hA4.a6 ?_
                        refine ZE.iload_n d_Ref_findIn_157 rfl ?_
                        refine ZE.dup2 d_Ref_findIn_158 (Or.inl rfl) (Or.inr rfl) ?_
                        refine ZE.ialdE (v := (ix (gP2 S u) j : Int)) d_Ref_findIn_159 hK.k6 (by have hn0 := hK.n6; show 0 ≤ c ∧ c < gn G (o + 6); omega) (by rw [gw_at, hq1 _ (by omega) (by omega) (by omega) (by omega)]; exact hi1) ?_
                        refine ZE.iconst (n := 1) d_Ref_findIn_160 ?_
                        refine ZE.iload d_Ref_findIn_161 rfl ?_
                        refine ZE.iconst (n := 1) d_Ref_findIn_163 ?_
                        refine ZE.isub d_Ref_findIn_164 ?_
                        rw [show (((j : Int) + 1) - 1 : Int) = (j : Int) from (by omega)]
                        refine ZE.ishl d_Ref_findIn_165 ?_
                        rw [show (zshl 1 (j : Int) : Int) = ((2 ^ j : Nat) : Int) from (by have := zshl_nat (a := 1) (k := j) (by omega) (by omega); rw [Nat.one_mul] at this; exact this)]
                        refine ZE.ior d_Ref_findIn_166 ?_
                        rw [show (zor (ix (gP2 S u) j : Int) ((2 ^ j : Nat) : Int) : Int) = ((ix (gP2 S u) j ||| 2 ^ j : Nat) : Int) from (zor_nat (by omega) (by omega))]
                        refine ZE.iast d_Ref_findIn_167 hK.k6 (by have hn0 := hK.n6; show 0 ≤ c ∧ c < gn G (o + 6); omega) ?_
                        show ZE (d + 4) M_Ref_findIn (gw G (up2 A4 (o + 6) c ((ix (gP2 S u) j ||| 2 ^ j : Nat) : Int))) 168 [(2, o), (0, c), (1, (u : Int)), (9, 0), (1, (xp u j : Int)), (9, 0), (1, (xp u (j + 1) : Int)), (9, 0), (0, (j : Int) + 1), (0, 1), (0, (nn2 u (j + 1) : Int)), (9, 0), (9, 0)] [] _
                        refine ZE.mask [true, true, true, true, true, true, true, true, true, false, false, false, false] ?_
                        show ZE (d + 4) M_Ref_findIn (gw G (up2 A4 (o + 6) c ((ix (gP2 S u) j ||| 2 ^ j : Nat) : Int))) 168 [(2, o), (0, c), (1, (u : Int)), (9, 0), (1, (xp u j : Int)), (9, 0), (1, (xp u (j + 1) : Int)), (9, 0), (0, (j : Int) + 1), (9, 0), (9, 0), (9, 0), (9, 0)] [] _
                        have hgt : gP2 S u (j + 1) = true := by
                          unfold gP2
                          rw [decide_eq_true hsm, decide_eq_true (show smF S (nn2 u (j + 1)) 7 = 1 from hs1), decide_eq_true (show smF S (nn2 u (j + 1) + 2) 7 = 1 from hs2)]
                          rfl
                        have e1 : fp (gP2 S u) (nn2 u) cn L (j + 1) = insP (fp (gP2 S u) (nn2 u) cn L j) (nn2 u (j + 1), cn, j + 1) := if_pos hgt
                        have e2 : ix (gP2 S u) (j + 1) = ix (gP2 S u) j ||| 2 ^ j := if_pos hgt
                        refine J168 _ hsm (hA4.u2 (by omega)) ?_ ?_ ?_ ((g1.tr hg4).ixs) ?_ hjb
                        · rw [e1]; intro k2 hk2; have h0 := hr4 k2 hk2; exact ⟨(up2_ne _ _ (by omega)).trans h0.1, (up2_ne _ _ (by omega)).trans h0.2.1, (up2_ne _ _ (by omega)).trans h0.2.2⟩
                        · rw [e1, up2_ne _ _ (by omega)]; exact hn4
                        · rw [e2, up2_at]
                        · rw [e1]; exact hb1.ins hnb
    exact L38 _ 0 (up2 A (o + 6) c 0) (Nat.zero_le _) (by show 1 < 1000000000; omega) (hF.u2 (by omega)) (fun k2 hk2 => by have h0 := hL k2 hk2; exact ⟨(up2_ne _ _ (by omega)).trans h0.1, (up2_ne _ _ (by omega)).trans h0.2.1, (up2_ne _ _ (by omega)).trans h0.2.2⟩) ((up2_ne _ _ (by omega)).trans hn) (up2_at _ _ _ _) fdF.rf.ixs hbd (Nat.lt_succ_self _)
  · have hbig : ∀ i, 0 < i → gP2 S u i = false := by
      intro i hi
      have h1 := xp_le_mono hu1 (show 1 ≤ i by omega)
      have h2 : 1000000000 ≤ xp u 1 := by show 1000000000 ≤ u; omega
      unfold gP2
      rw [decide_eq_false (by omega), Bool.false_and, Bool.false_and]
    have hst := fp_stop (nn := nn2 u) (c := cn) (L := L) hbig (bnd S) (Nat.zero_le _)
    refine ZE.vret d_Ref_findIn_19 rfl ?_
    refine k _ (hF.u2 (by omega)) ?_ ?_ ?_ fdF.rf.ixs ?_
    · rw [hst.1]; intro k2 hk2; have h0 := hL k2 hk2; exact ⟨(up2_ne _ _ (by omega)).trans h0.1, (up2_ne _ _ (by omega)).trans h0.2.1, (up2_ne _ _ (by omega)).trans h0.2.2⟩
    · rw [hst.1]; exact (up2_ne _ _ (by omega)).trans hn
    · rw [hst.2]; exact up2_at _ _ _ _
    · rw [hst.1]; exact hbd
