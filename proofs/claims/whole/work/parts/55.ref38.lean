def gmF (S : Nat) (g nx : Nat → Nat) : Nat → Nat
  | 0 => 0
  | j + 1 => if S.testBit j = true then (if gmF S g nx j ≠ 0 ∧ ¬ g (nx j) * sev j < gmF S g nx j then gmF S g nx j else g (nx j) * sev j) else gmF S g nx j
def gst (S : Nat) : Nat → (Nat → Nat) × (Nat → Nat)
  | 0 => (fun _ => 1, fun _ => 0)
  | i + 1 => (fun q => if q = i + 1 then gmF S (gst S i).1 (gst S i).2 7 else (gst S i).1 q, fun k => if S.testBit k = true ∧ (gst S i).1 ((gst S i).2 k) * sev k = gmF S (gst S i).1 (gst S i).2 7 then (gst S i).2 k + 1 else (gst S i).2 k)
def gN (S i : Nat) : Nat := (gst S i).1 i
theorem gst_at (S : Nat) : ∀ n q, q ≤ n → (gst S n).1 q = gN S q := by
  intro n
  induction n with
  | zero => intro q h; have : q = 0 := by omega
            subst this; rfl
  | succ n ih =>
    intro q h
    by_cases e : q = n + 1
    · subst e; rfl
    · show (if q = n + 1 then _ else (gst S n).1 q) = _
      rw [if_neg e]
      exact ih q (by omega)
theorem gst_nx (S : Nat) : ∀ n k, (gst S n).2 k ≤ n := by
  intro n
  induction n with
  | zero => intro k; exact Nat.le_refl _
  | succ n ih =>
    intro k
    have h1 := ih k
    show (if S.testBit k = true ∧ (gst S n).1 ((gst S n).2 k) * sev k = gmF S (gst S n).1 (gst S n).2 7 then (gst S n).2 k + 1 else (gst S n).2 k) ≤ n + 1
    split <;> omega
theorem gN_s (S i : Nat) : gN S (i + 1) = gmF S (gst S i).1 (gst S i).2 7 := if_pos rfl
theorem gmF_le {S : Nat} {g nx : Nat → Nat} {b : Nat} (h : ∀ k, k < 7 → g (nx k) ≤ b) : ∀ j, j ≤ 7 → gmF S g nx j ≤ b * 17 := by
  intro j
  induction j with
  | zero => intro _; exact Nat.zero_le _
  | succ j ih =>
    intro hj
    have h1 := ih (by omega)
    have h2 := h j (by omega)
    have h3 := sev_lt j (by omega)
    have h4 : g (nx j) * sev j ≤ b * 17 := Nat.mul_le_mul h2 (by omega)
    unfold gmF
    repeat' split
    all_goals omega
theorem gmF_pos {S : Nat} {g nx : Nat → Nat} (h : ∀ k, k < 7 → 0 < g (nx k)) : ∀ j, j ≤ 7 → (gmF S g nx j ≠ 0 ↔ ∃ k, k < j ∧ S.testBit k = true) := by
  intro j
  induction j with
  | zero => intro _; exact ⟨fun q => absurd rfl q, fun ⟨k, q, _⟩ => absurd q (Nat.not_lt_zero _)⟩
  | succ j ih =>
    intro hj
    have h1 := ih (by omega)
    have h2 := h j (by omega)
    have h3 := sev_lt j (by omega)
    have h4 : 0 < g (nx j) * sev j := Nat.mul_pos h2 (by omega)
    unfold gmF
    by_cases q : S.testBit j = true
    · rw [if_pos q]
      refine ⟨fun _ => ⟨j, by omega, q⟩, fun _ => ?_⟩
      split <;> omega
    · rw [if_neg q, h1]
      constructor
      · rintro ⟨k, a, b⟩; exact ⟨k, by omega, b⟩
      · rintro ⟨k, a, b⟩
        refine ⟨k, ?_, b⟩
        rcases Nat.lt_or_ge k j with r | r
        · exact r
        · have : k = j := by omega
          subst this; exact absurd b q
theorem gN_ok {S : Nat} : ∀ i, ∀ q, q ≤ i → gN S q ≤ 17 ^ i := by
  intro i
  induction i with
  | zero => intro q h; have : q = 0 := by omega
            subst this; exact Nat.le_refl _
  | succ i ih =>
    intro q h
    by_cases e : q = i + 1
    · subst e
      rw [gN_s, Nat.pow_succ]
      exact gmF_le (b := 17 ^ i) (fun k _ => by rw [gst_at S i _ (gst_nx S i k)]; exact ih _ (gst_nx S i k)) 7 (Nat.le_refl _)
    · have := ih q (by omega)
      rw [Nat.pow_succ]
      omega
theorem has_one : ∀ S, S < 128 → S ≠ 0 → ∃ k, k < 7 ∧ S.testBit k = true := by decide +kernel
theorem gN_pos {S : Nat} (hS : S < 128) (h0 : S ≠ 0) : ∀ i, ∀ q, q ≤ i → 0 < gN S q := by
  intro i
  induction i with
  | zero => intro q h; have : q = 0 := by omega
            subst this; exact Nat.one_pos
  | succ i ih =>
    intro q h
    by_cases e : q = i + 1
    · subst e
      rw [gN_s]
      exact Nat.pos_of_ne_zero ((gmF_pos (fun k _ => by rw [gst_at S i _ (gst_nx S i k)]; exact ih _ (gst_nx S i k)) 7 (Nat.le_refl _)).mpr (has_one S hS h0))
    · exact ih q (by omega)
theorem gN_nd {S q : Nat} (hq : q ≤ 400) : nd 10000 (gN S q) ≤ 124 ∧ ∀ k, k < 7 → nd 10000 (gN S q * sev k) ≤ 124 := by
  have h1 := gN_ok (S := S) 400 q hq
  have h2 : 17 ^ 400 * 17 < 10000 ^ 124 := by decide +kernel
  have h3 : 17 ^ 400 ≤ 17 ^ 400 * 17 := Nat.le_mul_of_pos_right _ (by decide)
  refine ⟨nd_le (by omega) (Nat.lt_of_le_of_lt (Nat.le_trans h1 h3) h2), fun k hk => ?_⟩
  have h4 := sev_lt k hk
  have h5 : gN S q * sev k ≤ 17 ^ 400 * 17 := Nat.mul_le_mul h1 (by omega)
  exact nd_le (by omega) (Nat.lt_of_le_of_lt h5 h2)
/-- wide: what hangs on the set is as it was -/
def wiF (A B : Int → Int → Int) (o : Int) : Prop := (∀ b : Int, (b = o + 1 ∨ (o + 3 ≤ b ∧ b ≤ o + 12)) → B b = A b) ∧ (∀ i : Int, ¬ (9 ≤ i ∧ i ≤ 11) → i ≠ 20 → i ≠ 21 → i ≠ 28 → i ≠ 29 → i ≠ 31 → B o i = A o i) ∧ rowF (fun n => 126 ≤ n) (A (o + 2)) (B (o + 2))
theorem RF.wi {A B : Int → Int → Int} {o : Int} (h : RF A o) (g : wiF A B o) : RF B o := by
  have e0 : ∀ j : Int, ¬ (9 ≤ j ∧ j ≤ 11) → j ≠ 20 → j ≠ 21 → j ≠ 28 → j ≠ 29 → j ≠ 31 → B o j = A o j := g.2.1
  have e1 : B (o + 1) = A (o + 1) := g.1 _ (by omega)
  unfold RF
  rw [e1]
  exact ⟨(e0 _ (by omega) (by omega) (by omega) (by omega) (by omega) (by omega)).trans h.a0, (e0 _ (by omega) (by omega) (by omega) (by omega) (by omega) (by omega)).trans h.a2, (e0 _ (by omega) (by omega) (by omega) (by omega) (by omega) (by omega)).trans h.a3, (e0 _ (by omega) (by omega) (by omega) (by omega) (by omega) (by omega)).trans h.a4, (e0 _ (by omega) (by omega) (by omega) (by omega) (by omega) (by omega)).trans h.a5, (e0 _ (by omega) (by omega) (by omega) (by omega) (by omega) (by omega)).trans h.a6, (e0 _ (by omega) (by omega) (by omega) (by omega) (by omega) (by omega)).trans h.a12, (e0 _ (by omega) (by omega) (by omega) (by omega) (by omega) (by omega)).trans h.a13, (e0 _ (by omega) (by omega) (by omega) (by omega) (by omega) (by omega)).trans h.a14, (e0 _ (by omega) (by omega) (by omega) (by omega) (by omega) (by omega)).trans h.a16, (e0 _ (by omega) (by omega) (by omega) (by omega) (by omega) (by omega)).trans h.a17, (e0 _ (by omega) (by omega) (by omega) (by omega) (by omega) (by omega)).trans h.a18, (e0 _ (by omega) (by omega) (by omega) (by omega) (by omega) (by omega)).trans h.a22, (e0 _ (by omega) (by omega) (by omega) (by omega) (by omega) (by omega)).trans h.a23, (e0 _ (by omega) (by omega) (by omega) (by omega) (by omega) (by omega)).trans h.a24, (e0 _ (by omega) (by omega) (by omega) (by omega) (by omega) (by omega)).trans h.a25, (e0 _ (by omega) (by omega) (by omega) (by omega) (by omega) (by omega)).trans h.a26, (e0 _ (by omega) (by omega) (by omega) (by omega) (by omega) (by omega)).trans h.a27, (e0 _ (by omega) (by omega) (by omega) (by omega) (by omega) (by omega)).trans h.a30, h.sev⟩
theorem clD.wi {A B : Int → Int → Int} {o c : Int} {D : Nat} (h : clD A o c D) (g : wiF A B o) (hc : 0 ≤ c ∧ c < 63) (hok : okD D = true) : clD B o c D :=
  ⟨by rw [g.1 _ (by omega)]; exact h.1, by rw [g.1 _ (by omega)]; exact h.2.1, g.2.2.num (by omega) (by omega) (by have := (okD_ns hok).2.1; omega) h.2.2.1, g.2.2.num (by omega) (by omega) (by have := (okD_ns hok).2.2; omega) h.2.2.2⟩
theorem RS.wi {S : Nat} {A B : Int → Int → Int} {o : Int} (h : RS S A o) (g : wiF A B o) (hS : S < 128) (hp : pop S ≤ 5) : RS S B o := by
  have hl := cls_le hS hp
  have e : ∀ b : Int, o + 3 ≤ b → b ≤ o + 12 → B b = A b := fun b h1 h2 => g.1 b (by omega)
  have e0 : ∀ j : Int, ¬ (9 ≤ j ∧ j ≤ 11) → j ≠ 20 → j ≠ 21 → j ≠ 28 → j ≠ 29 → j ≠ 31 → B o j = A o j := g.2.1
  refine ⟨(e0 _ (by omega) (by omega) (by omega) (by omega) (by omega) (by omega)).trans h.s, (e0 _ (by omega) (by omega) (by omega) (by omega) (by omega) (by omega)).trans h.n1, (e0 _ (by omega) (by omega) (by omega) (by omega) (by omega) (by omega)).trans h.n2, ?_, ?_, ?_, ?_, (e0 _ (by omega) (by omega) (by omega) (by omega) (by omega) (by omega)).trans h.np, ?_, (e0 _ (by omega) (by omega) (by omega) (by omega) (by omega) (by omega)).trans h.nt, ?_, ?_, ?_⟩
  · intro k hk; rw [e _ (by omega) (by omega)]; exact h.q1 k hk
  · intro k hk; rw [e _ (by omega) (by omega)]; exact h.q2 k hk
  · intro k hk; exact (h.c1 k hk).wi g (by omega) (d1_ok hk).1
  · intro k hk; exact (h.c2 k hk).wi g (by omega) (d2_ok hk).1
  · intro k hk; exact (h.p k hk).row (e _ (by omega) (by omega)) (e _ (by omega) (by omega)) (e _ (by omega) (by omega))
  · intro k hk; exact (h.t k hk).row (e _ (by omega) (by omega)) (e _ (by omega) (by omega)) (e _ (by omega) (by omega))
  · intro k hk; rw [e _ (by omega) (by omega)]; exact h.i1 k hk
  · intro k hk; rw [e _ (by omega) (by omega)]; exact h.i2 k hk
/-- all but lent slots and the rows of the greats is as it was -/
def gtF (A B : Int → Int → Int) (o : Int) : Prop := (∀ b : Int, b ≠ o + 2 → b ≠ o + 15 → b ≠ o + 16 → B b = A b) ∧ rowF (fun n => 126 ≤ n ∧ n ≤ 130) (A (o + 2)) (B (o + 2))
theorem gtF.rf {A : Int → Int → Int} {o : Int} : gtF A A o := ⟨fun _ _ _ _ => rfl, rowF.rf⟩
theorem gtF.tr {A B C : Int → Int → Int} {o : Int} (a : gtF A B o) (b : gtF B C o) : gtF A C o := ⟨fun e h1 h2 h3 => (b.1 e h1 h2 h3).trans (a.1 e h1 h2 h3), a.2.tr b.2⟩
theorem gtF.big {A B : Int → Int → Int} {o : Int} {f : Int → Int} (a : gtF A B o) (h : rowF (fun n => 126 ≤ n ∧ n ≤ 130) (B (o + 2)) f) : gtF A (upA B (o + 2) f) o := ⟨fun e h1 h2 h3 => (upA_ne _ _ h1).trans (a.1 e h1 h2 h3), by rw [upA_at]; exact a.2.tr h⟩
theorem gtF.row {A B : Int → Int → Int} {o b : Int} {f : Int → Int} (a : gtF A B o) (h : b = o + 15 ∨ b = o + 16) : gtF A (upA B b f) o := ⟨fun e h1 h2 h3 => (upA_ne _ _ (by omega)).trans (a.1 e h1 h2 h3), by rw [upA_ne _ _ (by omega)]; exact a.2⟩
theorem gtF.wi {A B : Int → Int → Int} {o : Int} (a : gtF A B o) : wiF A B o := ⟨fun b h => a.1 b (by omega) (by omega) (by omega), fun i _ _ _ _ _ _ => congrFun (a.1 o (by omega) (by omega) (by omega)) i, a.2.sub (fun n h => h.1)⟩
theorem upA_sw (A : Int → Int → Int) {a b : Int} (f g h : Int → Int) (e : a ≠ b) : upA (upA (upA A a f) b h) a g = upA (upA A a g) b h := by
  funext c
  by_cases e1 : c = a
  · subst e1; rw [upA_at, upA_ne _ _ e, upA_at]
  · rw [upA_ne _ _ e1]
    by_cases e2 : c = b
    · subst e2; rw [upA_at, upA_at]
    · rw [upA_ne _ _ e2, upA_ne _ _ e2, upA_ne _ _ e1, upA_ne _ _ e1]
set_option maxRecDepth 20000 in
set_option maxHeartbeats 4000000 in
theorem r_bring {d : Nat} {G : zG} {A : Int → Int → Int} {P : Option zV → zG → Prop} {o : Int} (hK : RK G o) (hF : RF A o) {q : Nat} (hq : q ≤ 400) {t0 : Int} (ht : 0 ≤ t0 ∧ t0 ≤ 131) {v : Nat} (hg : num (A (o + 15)) q v) (h9 : nd 10000 v ≤ 129) (k : ∀ f, num f t0 v → outs (A (o + 2)) f t0 → P none (gw G (upA A (o + 2) f))) : ZE d M_Ref_bring (gw G A) 0 [(2, o), (0, (q : Int)), (0, t0), (9, 0)] [] P := by
  refine ZE.iconst (n := 0) d_Ref_bring_0 ?_
  refine ZE.istore_n (ls2 := [(2, o), (0, (q : Int)), (0, t0), (0, 0)]) d_Ref_bring_1 (Nat.le_of_ble_eq_true rfl) rfl ?_
  have L2 : ∀ (t : Nat) (j : Nat) (f : Int → Int) (hj : j ≤ 130) (hf0 : ∀ i : Nat, i < j → f (130 * t0 + i) = A (o + 15) (130 * (q : Int) + i)) (ho0 : outs (A (o + 2)) f t0), 130 - j < t → ZE d M_Ref_bring (gw G (upA A (o + 2) f)) 2 [(2, o), (0, (q : Int)), (0, t0), (0, (j : Int))] [] P := by
    intro t
    induction t with
    | zero => intro j f hj hf0 ho0 hm; exact absurd hm (Nat.not_lt_zero _)
    | succ t ih =>
      intro j f hj hf0 ho0 hm
      refine ZE.iload_n d_Ref_bring_2 rfl ?_
      refine ZE.sipush (n := 130) d_Ref_bring_3 rfl ?_
      refine ZE.icmp_ge (tgt := 39) d_Ref_bring_6 rfl (by unfold zR; omega) (by unfold zR; omega) (fun c6 => ?_) (fun c6 => ?_)
      · have e1 : j = 130 := by omega
        rw [e1] at hf0
        refine ZE.vret d_Ref_bring_39 rfl ?_
        refine k f ⟨?_, fun i hi => ?_⟩ ho0
        · have q1 := hf0 0 (by omega)
          rw [show 130 * t0 + ((0 : Nat) : Int) = 130 * t0 by omega, show 130 * (q : Int) + ((0 : Nat) : Int) = 130 * (q : Int) by omega] at q1
          exact q1.trans hg.1
        · have q1 := hf0 (i + 1) (by omega)
          rw [show 130 * t0 + ((i + 1 : Nat) : Int) = 130 * t0 + 1 + i by omega, show 130 * (q : Int) + ((i + 1 : Nat) : Int) = 130 * (q : Int) + 1 + i by omega] at q1
          exact q1.trans (hg.2 i hi)
      · refine ZE.aload_n d_Ref_bring_9 rfl ?_
        refine ZE.getE (v := o + 2) d_Ref_bring_10 f_Ref_13 (tg := 2) rfl hK.1 (hF.uA (by omega)).a2 ?_
        refine ZE.sipush (n := 130) d_Ref_bring_13 rfl ?_
        refine ZE.iload_n d_Ref_bring_16 rfl ?_
        refine ZE.imul d_Ref_bring_17 ?_
        refine ZE.iload_n d_Ref_bring_18 rfl ?_
        refine ZE.iadd d_Ref_bring_19 ?_
        refine ZE.aload_n d_Ref_bring_20 rfl ?_
        refine ZE.getE (v := o + 15) d_Ref_bring_21 f_Ref_53 (tg := 2) rfl hK.1 (hF.uA (by omega)).a24 ?_
        refine ZE.sipush (n := 130) d_Ref_bring_24 rfl ?_
        refine ZE.iload_n d_Ref_bring_27 rfl ?_
        refine ZE.imul d_Ref_bring_28 ?_
        refine ZE.iload_n d_Ref_bring_29 rfl ?_
        refine ZE.iadd d_Ref_bring_30 ?_
        refine ZE.ialdE (v := A (o + 15) ((130 * (q : Int)) + (j : Int))) d_Ref_bring_31 hK.k15 (by have hn0 := hK.n15; show 0 ≤ ((130 * (q : Int)) + (j : Int)) ∧ ((130 * (q : Int)) + (j : Int)) < gn G (o + 15); omega) (congrFun (upA_ne _ _ (by omega)) _) ?_
        refine ZE.iast d_Ref_bring_32 hK.k2 (by have hn0 := hK.n2; show 0 ≤ ((130 * t0) + (j : Int)) ∧ ((130 * t0) + (j : Int)) < gn G (o + 2); omega) ?_
        show ZE d M_Ref_bring (gw G (up2 (upA A (o + 2) f) (o + 2) ((130 * t0) + (j : Int)) (A (o + 15) ((130 * (q : Int)) + (j : Int))))) 33 [(2, o), (0, (q : Int)), (0, t0), (0, (j : Int))] [] _
        rw [up2_upA]
        refine ZE.iinc (ls2 := [(2, o), (0, (q : Int)), (0, t0), (0, (j : Int) + 1)]) d_Ref_bring_33 rfl rfl ?_
        refine ZE.goto (tgt := 2) d_Ref_bring_36 rfl ?_
        rw [show (j : Int) + 1 = ((j + 1 : Nat) : Int) by omega]
        refine ih (j + 1) _ (by omega) ?_ (ho0.up (by omega)) (by omega)
        intro i hi
        by_cases e : i = j
        · subst e; rw [up1_at]
        · rw [up1_ne _ _ (by omega)]; exact hf0 i (by omega)
  have L0 := L2 _ 0 (A (o + 2)) (by omega) (fun i h => absurd h (Nat.not_lt_zero _)) outs.rf (Nat.lt_succ_self _)
  rw [upA_self] at L0
  exact L0
set_option maxRecDepth 20000 in
set_option maxHeartbeats 4000000 in
theorem r_layNext {d : Nat} {G : zG} {A : Int → Int → Int} {P : Option zV → zG → Prop} {o : Int} (hK : RK G o) (hF : RF A o) {pk n v : Nat} (hpk : pk < 7) {t0 : Int} (ht : 126 ≤ t0 ∧ t0 ≤ 128) (hn : A (o + 16) pk = (n : Int)) (hn4 : n ≤ 400) (hg : num (A (o + 15)) n v) (h9 : nd 10000 v ≤ 124) (k : ∀ f, num f t0 (v * sev pk) → (∀ i : Int, (i < 16770 ∨ 17030 ≤ i) → (i < 130 * t0 ∨ 130 * t0 + 130 ≤ i) → f i = A (o + 2) i) → P none (gw G (upA A (o + 2) f))) : ZE (d + 3) M_Ref_layNext (gw G A) 0 [(2, o), (0, (pk : Int)), (0, t0)] [] P := by
  have hsl := sev_lt pk hpk
  refine ZE.aload_n d_Ref_layNext_0 rfl ?_
  refine ZE.aload_n d_Ref_layNext_1 rfl ?_
  refine ZE.getE (v := o + 16) d_Ref_layNext_2 f_Ref_56 (tg := 2) rfl hK.1 hF.a25 ?_
  refine ZE.iload_n d_Ref_layNext_5 rfl ?_
  refine ZE.ialdE (v := (n : Int)) d_Ref_layNext_6 hK.k16 (by have hn0 := hK.n16; show 0 ≤ (pk : Int) ∧ (pk : Int) < gn G (o + 16); omega) hn ?_
  refine ZE.sipush (n := 130) d_Ref_layNext_7 rfl ?_
  refine ZE.cV [(0, (n : Int)), (0, 130)] [] [(2, o), (0, (n : Int)), (0, 130), (9, 0)] d_Ref_layNext_10 l_Ref_376 rfl rfl rfl rfl rfl rfl hK.1 ?_
  refine r_bring (q := n) (t0 := 130) (v := v) hK hF hn4 (by omega) hg (by omega) (fun f1 hn1 ho1 => ?_)
  show ZE (d + 3) M_Ref_layNext (gw G (upA A (o + 2) f1)) 13 [(2, o), (0, (pk : Int)), (0, t0)] [] _
  refine ZE.aload_n d_Ref_layNext_13 rfl ?_
  refine ZE.sipush (n := 129) d_Ref_layNext_14 rfl ?_
  refine ZE.iconst (n := 0) d_Ref_layNext_17 ?_
  refine ZE.cV [(0, 129), (0, 0)] [] [(2, o), (0, 129), (0, 0), (9, 0), (9, 0)] d_Ref_layNext_18 l_Ref_69 rfl rfl rfl rfl rfl rfl hK.1 ?_
  refine r_setSmall (n := 129) (v := 0) hK (hF.uA (by omega)) (by omega) (by omega) (fun f2 hn2 ho2 => ?_)
  show ZE (d + 3) M_Ref_layNext (gw G (upA (upA A (o + 2) f1) (o + 2) f2)) 21 [(2, o), (0, (pk : Int)), (0, t0)] [] _
  rw [upA_upA]
  rw [upA_at] at ho2
  refine ZE.aload_n d_Ref_layNext_21 rfl ?_
  refine ZE.sipush (n := 130) d_Ref_layNext_22 rfl ?_
  refine ZE.aload_n d_Ref_layNext_25 rfl ?_
  refine ZE.getE (v := o + 1) d_Ref_layNext_26 f_Ref_9 (tg := 2) rfl hK.1 (hF.uA (by omega)).a0 ?_
  refine ZE.iload_n d_Ref_layNext_29 rfl ?_
  refine ZE.ialdE (v := (sev pk : Int)) d_Ref_layNext_30 hK.k1 (by have hn0 := hK.n1; show 0 ≤ (pk : Int) ∧ (pk : Int) < gn G (o + 1); omega) ((hF.uA (by omega)).sev pk hpk) ?_
  refine ZE.sipush (n := 129) d_Ref_layNext_31 rfl ?_
  refine ZE.iload_n d_Ref_layNext_34 rfl ?_
  refine ZE.cV [(0, 130), (0, (sev pk : Int)), (0, 129), (0, t0)] [] [(2, o), (0, 130), (0, (sev pk : Int)), (0, 129), (0, t0), (9, 0), (9, 0), (9, 0), (9, 0)] d_Ref_layNext_35 l_Ref_149 rfl rfl rfl rfl rfl rfl hK.1 ?_
  refine r_times (n := 130) (m := 129) (t0 := t0) (v := v) (w := 0) (y := sev pk) hK (hF.uA (by omega)) (by omega) (by omega) (by omega) (by omega) (by omega) (by omega) (by rw [upA_at]; exact ho2.num (by omega) (by omega) hn1) (by rw [upA_at]; exact hn2) (by omega) (by have : nd 10000 0 = 0 := rfl; omega) (fun f3 hn3 ho3 => ?_)
  show ZE (d + 3) M_Ref_layNext (gw G (upA (upA A (o + 2) f2) (o + 2) f3)) 38 [(2, o), (0, (pk : Int)), (0, t0)] [] _
  rw [upA_upA]
  rw [upA_at] at ho3
  rw [Nat.add_zero] at hn3
  refine ZE.vret d_Ref_layNext_38 rfl ?_
  exact k f3 hn3 (fun i h1 h2 => ((ho3 i h2).trans (ho2 i (by omega))).trans (ho1 i (by omega)))
set_option maxRecDepth 20000 in
set_option maxHeartbeats 4000000 in
theorem r_layLeast {d : Nat} {G : zG} {A : Int → Int → Int} {P : Option zV → zG → Prop} {o : Int} (hK : RK G o) (hF : RF A o) {S : Nat} (hR : RS S A o) (hS7 : S < 128) (hp5 : pop S ≤ 5) (hS0 : S ≠ 0) {i : Nat} (hi : i < 400) (hgr : ∀ q : Nat, q ≤ i → num (A (o + 15)) q (gN S q)) (hnxt : ∀ c : Nat, c < 7 → A (o + 16) c = ((gst S i).2 c : Int)) (k : ∀ f x0, num f 126 (gN S (i + 1)) → (∀ c : Nat, c < 7 → x0 c = ((gst S (i + 1)).2 c : Int)) → rowF (fun n => 126 ≤ n ∧ n ≤ 130) (A (o + 2)) f → P none (gw G (upA (upA A (o + 2) f) (o + 16) x0))) : ZE (d + 4) M_Ref_layLeast (gw G A) 0 [(2, o), (9, 0), (9, 0)] [] P := by
  have hnd1 := (gN_nd (S := S) (q := i + 1) (by omega)).1
  refine ZE.iconst (n := 0) d_Ref_layLeast_0 ?_
  refine ZE.istore_n (ls2 := [(2, o), (0, 0), (9, 0)]) d_Ref_layLeast_1 (Nat.le_of_ble_eq_true rfl) rfl ?_
  refine ZE.iconst (n := 0) d_Ref_layLeast_2 ?_
  refine ZE.istore_n (ls2 := [(2, o), (0, 0), (0, 0)]) d_Ref_layLeast_3 (Nat.le_of_ble_eq_true rfl) rfl ?_
  have L4 : ∀ (t : Nat) (j : Nat) (m1 : Nat) (f : Int → Int) (hj : j ≤ 7) (hm1 : (m1 = 0 ∧ gmF S (gst S i).1 (gst S i).2 j = 0) ∨ (m1 = 1 ∧ num f 126 (gmF S (gst S i).1 (gst S i).2 j) ∧ gmF S (gst S i).1 (gst S i).2 j ≠ 0)) (hro : rowF (fun n => 126 ≤ n ∧ n ≤ 130) (A (o + 2)) f), 7 - j < t → ZE (d + 4) M_Ref_layLeast (gw G (upA A (o + 2) f)) 4 [(2, o), (0, (m1 : Int)), (0, (j : Int))] [] P := by
    intro t
    induction t with
    | zero => intro j m1 f hj hm1 hro hm; exact absurd hm (Nat.not_lt_zero _)
    | succ t ih =>
      intro j m1 f hj hm1 hro hm
      refine ZE.iload_n d_Ref_layLeast_4 rfl ?_
      refine ZE.bipush (n := 7) d_Ref_layLeast_5 rfl ?_
      refine ZE.icmp_ge (tgt := 65) d_Ref_layLeast_7 rfl (by unfold zR; omega) (by unfold zR; omega) (fun c7 => ?_) (fun c7 => ?_)
      · have e7 : j = 7 := by omega
        rw [e7] at hm1
        have hnm : num f 126 (gN S (i + 1)) := by
          rw [gN_s]
          rcases hm1 with q | q
          · have h1 := gN_pos hS7 hS0 (i + 1) (i + 1) (Nat.le_refl _)
            rw [gN_s] at h1
            omega
          · exact q.2.1
        refine ZE.iconst (n := 0) d_Ref_layLeast_65 ?_
        refine ZE.istore_n (ls2 := [(2, o), (0, (m1 : Int)), (0, 0)]) d_Ref_layLeast_66 (Nat.le_of_ble_eq_true rfl) rfl ?_
        have L67 : ∀ (t : Nat) (j : Nat) (f : Int → Int) (x0 : Int → Int) (hj : j ≤ 7) (hnm : num f 126 (gN S (i + 1))) (hx0 : ∀ c : Nat, c < 7 → x0 c = (if c < j then ((gst S (i + 1)).2 c : Int) else ((gst S i).2 c : Int))) (hro : rowF (fun n => 126 ≤ n ∧ n ≤ 130) (A (o + 2)) f), 7 - j < t → ZE (d + 4) M_Ref_layLeast (gw G (upA (upA A (o + 2) f) (o + 16) x0)) 67 [(2, o), (0, (m1 : Int)), (0, (j : Int))] [] P := by
          intro t
          induction t with
          | zero => intro j f x0 hj hnm hx0 hro hm; exact absurd hm (Nat.not_lt_zero _)
          | succ t ih =>
            intro j f x0 hj hnm hx0 hro hm
            refine ZE.iload_n d_Ref_layLeast_67 rfl ?_
            refine ZE.bipush (n := 7) d_Ref_layLeast_68 rfl ?_
            refine ZE.icmp_ge (tgt := 121) d_Ref_layLeast_70 rfl (by unfold zR; omega) (by unfold zR; omega) (fun c70 => ?_) (fun c70 => ?_)
            · have e7 : j = 7 := by omega
              rw [e7] at hx0
              refine ZE.vret d_Ref_layLeast_121 rfl ?_
              exact k f x0 hnm (fun c hc => (hx0 c hc).trans (if_pos hc)) hro
            · refine ZE.aload_n d_Ref_layLeast_73 rfl ?_
              refine ZE.getE (v := (S : Int)) d_Ref_layLeast_74 f_Ref_81 (tg := 0) rfl hK.1 ((congrFun (upA_ne _ _ (by omega)) _).trans ((congrFun (upA_ne _ _ (by omega)) _).trans hR.s)) ?_
              refine ZE.iload_n d_Ref_layLeast_77 rfl ?_
              refine ZE.cS [(0, (S : Int)), (0, (j : Int))] [] [(0, (S : Int)), (0, (j : Int))] d_Ref_layLeast_78 l_Ref_85 rfl rfl rfl rfl rfl rfl ?_
              refine r_has (S := S) (k0 := j) (by omega) (by omega) ?_
              show ZE (d + 4) M_Ref_layLeast (gw G (upA (upA A (o + 2) f) (o + 16) x0)) 81 [(2, o), (0, (m1 : Int)), (0, (j : Int))] [(0, b2i (S.testBit j = true))] _
              refine ZE.if_ne (tgt := 87) d_Ref_layLeast_81 rfl (zR_b2i _) (fun c81 => ?_) (fun c81 => ?_)
              · replace c81 := b2i_n0.mp c81
                have hbit : S.testBit j = true := c81
                refine ZE.aload_n d_Ref_layLeast_87 rfl ?_
                refine ZE.iload_n d_Ref_layLeast_88 rfl ?_
                refine ZE.bipush (n := 127) d_Ref_layLeast_89 rfl ?_
                have hnf : gN S ((gst S i).2 j) = (gst S i).1 ((gst S i).2 j) := (gst_at S i _ (gst_nx S i j)).symm
                have hnx := gst_nx S i j
                have hnd := gN_nd (S := S) (q := (gst S i).2 j) (by omega)
                have hndj := hnd.2 j (by omega)
                refine ZE.cV [(0, (j : Int)), (0, 127)] [] [(2, o), (0, (j : Int)), (0, 127)] d_Ref_layLeast_91 l_Ref_382 rfl rfl rfl rfl rfl rfl hK.1 ?_
                refine r_layNext (pk := j) (n := (gst S i).2 j) (v := gN S ((gst S i).2 j)) hK ((hF.uA (by omega)).uA (by omega)) (by omega) (by omega) (by rw [upA_at]; exact (hx0 j (by omega)).trans (if_neg (Nat.lt_irrefl _))) (by omega) (by rw [upA_ne _ _ (by omega), upA_ne _ _ (by omega)]; exact hgr _ hnx) (by omega) (fun f6 hn6 ho6 => ?_)
                show ZE (d + 4) M_Ref_layLeast (gw G (upA (upA (upA A (o + 2) f) (o + 16) x0) (o + 2) f6)) 94 [(2, o), (0, (m1 : Int)), (0, (j : Int))] [] _
                rw [upA_sw _ _ _ _ (show o + 2 ≠ o + 16 by omega)]
                rw [upA_ne _ _ (show o + 2 ≠ o + 16 by omega), upA_at] at ho6
                have hro6 : rowF (fun n => 126 ≤ n ∧ n ≤ 130) f f6 := fun n hn hs i1 h1 h2 => ho6 i1 (by omega) (by omega)
                have hn6m : num f6 126 (gN S (i + 1)) := ⟨(ho6 _ (by omega) (by omega)).trans hnm.1, fun c hc => (ho6 _ (by omega) (by omega)).trans (hnm.2 c hc)⟩
                refine ZE.aload_n d_Ref_layLeast_94 rfl ?_
                refine ZE.bipush (n := 127) d_Ref_layLeast_95 rfl ?_
                refine ZE.bipush (n := 126) d_Ref_layLeast_97 rfl ?_
                refine ZE.cV [(0, 127), (0, 126)] [] [(2, o), (0, 127), (0, 126)] d_Ref_layLeast_99 l_Ref_385 rfl rfl rfl rfl rfl rfl hK.1 ?_
                refine r_isSame (n := 127) (m := 126) (v := gN S ((gst S i).2 j) * sev j) (w := gN S (i + 1)) hK ((hF.uA (by omega)).uA (by omega)) (by omega) (by omega) (by rw [upA_ne _ _ (by omega), upA_at]; exact hn6) (by rw [upA_ne _ _ (by omega), upA_at]; exact hn6m) (by omega) (by omega) ?_
                show ZE (d + 4) M_Ref_layLeast (gw G (upA (upA A (o + 2) f6) (o + 16) x0)) 102 [(2, o), (0, (m1 : Int)), (0, (j : Int))] [(0, b2i (gN S ((gst S i).2 j) * sev j = gN S (i + 1)))] _
                refine ZE.if_eq (tgt := 115) d_Ref_layLeast_102 rfl (zR_b2i _) (fun c102 => ?_) (fun c102 => ?_)
                · replace c102 := b2i_0.mp c102
                  refine ZE.iinc (ls2 := [(2, o), (0, (m1 : Int)), (0, (j : Int) + 1)]) d_Ref_layLeast_115 rfl rfl ?_
                  refine ZE.goto (tgt := 67) d_Ref_layLeast_118 rfl ?_
                  rw [show (j : Int) + 1 = ((j + 1 : Nat) : Int) by omega]
                  refine ih (j + 1) f6 x0 (by omega) hn6m ?_ (hro.tr hro6) (by omega)
                  intro c hc
                  rw [hx0 c hc]
                  by_cases e : c = j
                  · subst e; rw [if_neg (Nat.lt_irrefl _), if_pos (Nat.lt_succ_self _)]
                    have e2 : (gst S (i + 1)).2 c = (gst S i).2 c := if_neg (fun q => c102 (by rw [hnf]; exact q.2.trans (gN_s S i).symm))
                    rw [e2]
                  · by_cases e3 : c < j
                    · rw [if_pos e3, if_pos (by omega)]
                    · rw [if_neg e3, if_neg (by omega)]
                · replace c102 := b2i_n0.mp c102
                  refine ZE.aload_n d_Ref_layLeast_105 rfl ?_
                  refine ZE.getE (v := o + 16) d_Ref_layLeast_106 f_Ref_56 (tg := 2) rfl hK.1 ((hF.uA (by omega)).uA (by omega)).a25 ?_
                  refine ZE.iload_n d_Ref_layLeast_109 rfl ?_
                  refine ZE.dup2 d_Ref_layLeast_110 (Or.inl rfl) (Or.inr rfl) ?_
                  refine ZE.ialdE (v := ((gst S i).2 j : Int)) d_Ref_layLeast_111 hK.k16 (by have hn0 := hK.n16; show 0 ≤ (j : Int) ∧ (j : Int) < gn G (o + 16); omega) ((congrFun (upA_at _ _ _) _).trans ((hx0 j (by omega)).trans (if_neg (Nat.lt_irrefl _)))) ?_
                  refine ZE.iconst (n := 1) d_Ref_layLeast_112 ?_
                  refine ZE.iadd d_Ref_layLeast_113 ?_
                  refine ZE.iast d_Ref_layLeast_114 hK.k16 (by have hn0 := hK.n16; show 0 ≤ (j : Int) ∧ (j : Int) < gn G (o + 16); omega) ?_
                  show ZE (d + 4) M_Ref_layLeast (gw G (up2 (upA (upA A (o + 2) f6) (o + 16) x0) (o + 16) (j : Int) (((gst S i).2 j : Int) + 1))) 115 [(2, o), (0, (m1 : Int)), (0, (j : Int))] [] _
                  rw [up2_upA]
                  refine ZE.iinc (ls2 := [(2, o), (0, (m1 : Int)), (0, (j : Int) + 1)]) d_Ref_layLeast_115 rfl rfl ?_
                  refine ZE.goto (tgt := 67) d_Ref_layLeast_118 rfl ?_
                  rw [show (j : Int) + 1 = ((j + 1 : Nat) : Int) by omega]
                  refine ih (j + 1) f6 _ (by omega) hn6m ?_ (hro.tr hro6) (by omega)
                  intro c hc
                  by_cases e : c = j
                  · subst e; rw [up1_at, if_pos (Nat.lt_succ_self _)]
                    have e2 : (gst S (i + 1)).2 c = (gst S i).2 c + 1 := if_pos ⟨hbit, by rw [← hnf, ← gN_s]; exact c102⟩
                    rw [e2]; omega
                  · rw [up1_ne _ _ (by omega), hx0 c hc]
                    by_cases e3 : c < j
                    · rw [if_pos e3, if_pos (by omega)]
                    · rw [if_neg e3, if_neg (by omega)]
              · replace c81 := b2i_0.mp c81
                refine ZE.goto (tgt := 115) d_Ref_layLeast_84 rfl ?_
                refine ZE.iinc (ls2 := [(2, o), (0, (m1 : Int)), (0, (j : Int) + 1)]) d_Ref_layLeast_115 rfl rfl ?_
                refine ZE.goto (tgt := 67) d_Ref_layLeast_118 rfl ?_
                rw [show (j : Int) + 1 = ((j + 1 : Nat) : Int) by omega]
                refine ih (j + 1) f x0 (by omega) hnm ?_ hro (by omega)
                intro c hc
                rw [hx0 c hc]
                by_cases e : c = j
                · subst e; rw [if_neg (Nat.lt_irrefl _), if_pos (Nat.lt_succ_self _)]
                  have e2 : (gst S (i + 1)).2 c = (gst S i).2 c := if_neg (fun q => c81 q.1)
                  rw [e2]
                · by_cases e3 : c < j
                  · rw [if_pos e3, if_pos (by omega)]
                  · rw [if_neg e3, if_neg (by omega)]
        have L0 := L67 _ 0 f (A (o + 16)) (by omega) hnm (fun c hc => by rw [if_neg (Nat.not_lt_zero _)]; exact hnxt c hc) hro (Nat.lt_succ_self _)
        rw [show upA (upA A (o + 2) f) (o + 16) (A (o + 16)) = upA A (o + 2) f from by have q := upA_self (upA A (o + 2) f) (o + 16); rw [upA_ne _ _ (by omega)] at q; exact q] at L0
        exact L0
      · refine ZE.aload_n d_Ref_layLeast_10 rfl ?_
        refine ZE.getE (v := (S : Int)) d_Ref_layLeast_11 f_Ref_81 (tg := 0) rfl hK.1 ((congrFun (upA_ne _ _ (by omega)) _).trans hR.s) ?_
        refine ZE.iload_n d_Ref_layLeast_14 rfl ?_
        refine ZE.cS [(0, (S : Int)), (0, (j : Int))] [] [(0, (S : Int)), (0, (j : Int))] d_Ref_layLeast_15 l_Ref_85 rfl rfl rfl rfl rfl rfl ?_
        refine r_has (S := S) (k0 := j) (by omega) (by omega) ?_
        show ZE (d + 4) M_Ref_layLeast (gw G (upA A (o + 2) f)) 18 [(2, o), (0, (m1 : Int)), (0, (j : Int))] [(0, b2i (S.testBit j = true))] _
        refine ZE.if_ne (tgt := 24) d_Ref_layLeast_18 rfl (zR_b2i _) (fun c18 => ?_) (fun c18 => ?_)
        · replace c18 := b2i_n0.mp c18
          have hbit : S.testBit j = true := c18
          refine ZE.aload_n d_Ref_layLeast_24 rfl ?_
          refine ZE.iload_n d_Ref_layLeast_25 rfl ?_
          refine ZE.bipush (n := 127) d_Ref_layLeast_26 rfl ?_
          have hnf : gN S ((gst S i).2 j) = (gst S i).1 ((gst S i).2 j) := (gst_at S i _ (gst_nx S i j)).symm
          have hnx := gst_nx S i j
          have hnd := gN_nd (S := S) (q := (gst S i).2 j) (by omega)
          have hndj := hnd.2 j (by omega)
          refine ZE.cV [(0, (j : Int)), (0, 127)] [] [(2, o), (0, (j : Int)), (0, 127)] d_Ref_layLeast_28 l_Ref_382 rfl rfl rfl rfl rfl rfl hK.1 ?_
          refine r_layNext (pk := j) (n := (gst S i).2 j) (v := gN S ((gst S i).2 j)) hK (hF.uA (by omega)) (by omega) (by omega) (by rw [upA_ne _ _ (by omega)]; exact hnxt j (by omega)) (by omega) (by rw [upA_ne _ _ (by omega)]; exact hgr _ hnx) (by omega) (fun f4 hn4 ho4 => ?_)
          show ZE (d + 4) M_Ref_layLeast (gw G (upA (upA A (o + 2) f) (o + 2) f4)) 31 [(2, o), (0, (m1 : Int)), (0, (j : Int))] [] _
          rw [upA_upA]
          rw [upA_at] at ho4
          have hro4a : rowF (fun n => 126 ≤ n ∧ n ≤ 130) f f4 := fun n hn hs i1 h1 h2 => ho4 i1 (by omega) (by omega)
          have hro4 := hro.tr hro4a
          refine ZE.iload_n d_Ref_layLeast_31 rfl ?_
          refine ZE.if_eq (tgt := 49) d_Ref_layLeast_32 rfl (by unfold zR; omega) (fun c32 => ?_) (fun c32 => ?_)
          · refine ZE.aload_n d_Ref_layLeast_49 rfl ?_
            refine ZE.bipush (n := 127) d_Ref_layLeast_50 rfl ?_
            refine ZE.bipush (n := 126) d_Ref_layLeast_52 rfl ?_
            refine ZE.cV [(0, 127), (0, 126)] [] [(2, o), (0, 127), (0, 126), (9, 0)] d_Ref_layLeast_54 l_Ref_153 rfl rfl rfl rfl rfl rfl hK.1 ?_
            refine r_copyBig (n := 127) (t0 := 126) hK (hF.uA (by omega)) (by omega) (by omega) (by omega) (fun f5 hc5 ho5 => ?_)
            show ZE (d + 4) M_Ref_layLeast (gw G (upA (upA A (o + 2) f4) (o + 2) f5)) 57 [(2, o), (0, (m1 : Int)), (0, (j : Int))] [] _
            rw [upA_upA]
            rw [upA_at] at hc5 ho5
            have hn5 := hc5 _ (by omega) hn4
            refine ZE.iconst (n := 1) d_Ref_layLeast_57 ?_
            refine ZE.istore_n (ls2 := [(2, o), (0, 1), (0, (j : Int))]) d_Ref_layLeast_58 (Nat.le_of_ble_eq_true rfl) rfl ?_
            refine ZE.iinc (ls2 := [(2, o), (0, 1), (0, (j : Int) + 1)]) d_Ref_layLeast_59 rfl rfl ?_
            refine ZE.goto (tgt := 4) d_Ref_layLeast_62 rfl ?_
            rw [show (j : Int) + 1 = ((j + 1 : Nat) : Int) by omega]
            have e1 : gmF S (gst S i).1 (gst S i).2 (j + 1) = (gst S i).1 ((gst S i).2 j) * sev j := by show (if _ then (if _ then _ else _) else _) = _; rw [if_pos hbit]; exact if_neg (by first | (rw [← hnf]; exact fun q => q.2 c43) | exact fun q => q.1 (by omega))
            exact ih (j + 1) 1 f5 (by omega) (Or.inr ⟨rfl, by rw [e1, ← hnf]; exact hn5, by rw [e1, ← hnf]; have := Nat.mul_pos (gN_pos hS7 hS0 i ((gst S i).2 j) hnx) (show 0 < sev j by have := sev_lt j (by omega); omega); omega⟩) (hro4.step ho5 (by omega)) (by omega)
          · have hyy : m1 = 1 ∧ num f 126 (gmF S (gst S i).1 (gst S i).2 j) ∧ gmF S (gst S i).1 (gst S i).2 j ≠ 0 := by rcases hm1 with q | q; exact absurd q.1 (by omega); exact q
            have hgl : gmF S (gst S i).1 (gst S i).2 j ≤ 17 ^ 400 * 17 := gmF_le (b := 17 ^ 400) (fun k _ => by rw [gst_at S i _ (gst_nx S i k)]; exact gN_ok 400 _ (by have := gst_nx S i k; omega)) j (by omega)
            have hgd : nd 10000 (gmF S (gst S i).1 (gst S i).2 j) ≤ 124 := nd_le (by omega) (Nat.lt_of_le_of_lt hgl (by decide +kernel))
            clear hgl
            have hn4b : num f4 126 (gmF S (gst S i).1 (gst S i).2 j) := ⟨(ho4 _ (by omega) (by omega)).trans hyy.2.1.1, fun c hc => (ho4 _ (by omega) (by omega)).trans (hyy.2.1.2 c hc)⟩
            refine ZE.aload_n d_Ref_layLeast_35 rfl ?_
            refine ZE.bipush (n := 127) d_Ref_layLeast_36 rfl ?_
            refine ZE.bipush (n := 126) d_Ref_layLeast_38 rfl ?_
            refine ZE.cV [(0, 127), (0, 126)] [] [(2, o), (0, 127), (0, 126), (9, 0)] d_Ref_layLeast_40 l_Ref_373 rfl rfl rfl rfl rfl rfl hK.1 ?_
            refine r_isLess (n := 127) (m := 126) (v := gN S ((gst S i).2 j) * sev j) (w := gmF S (gst S i).1 (gst S i).2 j) hK (hF.uA (by omega)) (by omega) (by omega) (by rw [upA_at]; exact hn4) (by rw [upA_at]; exact hn4b) (by omega) (by omega) ?_
            show ZE (d + 4) M_Ref_layLeast (gw G (upA A (o + 2) f4)) 43 [(2, o), (0, (m1 : Int)), (0, (j : Int))] [(0, b2i (gN S ((gst S i).2 j) * sev j < gmF S (gst S i).1 (gst S i).2 j))] _
            refine ZE.if_ne (tgt := 49) d_Ref_layLeast_43 rfl (zR_b2i _) (fun c43 => ?_) (fun c43 => ?_)
            · replace c43 := b2i_n0.mp c43
              refine ZE.aload_n d_Ref_layLeast_49 rfl ?_
              refine ZE.bipush (n := 127) d_Ref_layLeast_50 rfl ?_
              refine ZE.bipush (n := 126) d_Ref_layLeast_52 rfl ?_
              refine ZE.cV [(0, 127), (0, 126)] [] [(2, o), (0, 127), (0, 126), (9, 0)] d_Ref_layLeast_54 l_Ref_153 rfl rfl rfl rfl rfl rfl hK.1 ?_
              refine r_copyBig (n := 127) (t0 := 126) hK (hF.uA (by omega)) (by omega) (by omega) (by omega) (fun f5 hc5 ho5 => ?_)
              show ZE (d + 4) M_Ref_layLeast (gw G (upA (upA A (o + 2) f4) (o + 2) f5)) 57 [(2, o), (0, (m1 : Int)), (0, (j : Int))] [] _
              rw [upA_upA]
              rw [upA_at] at hc5 ho5
              have hn5 := hc5 _ (by omega) hn4
              refine ZE.iconst (n := 1) d_Ref_layLeast_57 ?_
              refine ZE.istore_n (ls2 := [(2, o), (0, 1), (0, (j : Int))]) d_Ref_layLeast_58 (Nat.le_of_ble_eq_true rfl) rfl ?_
              refine ZE.iinc (ls2 := [(2, o), (0, 1), (0, (j : Int) + 1)]) d_Ref_layLeast_59 rfl rfl ?_
              refine ZE.goto (tgt := 4) d_Ref_layLeast_62 rfl ?_
              rw [show (j : Int) + 1 = ((j + 1 : Nat) : Int) by omega]
              have e1 : gmF S (gst S i).1 (gst S i).2 (j + 1) = (gst S i).1 ((gst S i).2 j) * sev j := by show (if _ then (if _ then _ else _) else _) = _; rw [if_pos hbit]; exact if_neg (by first | (rw [← hnf]; exact fun q => q.2 c43) | exact fun q => q.1 (by omega))
              exact ih (j + 1) 1 f5 (by omega) (Or.inr ⟨rfl, by rw [e1, ← hnf]; exact hn5, by rw [e1, ← hnf]; have := Nat.mul_pos (gN_pos hS7 hS0 i ((gst S i).2 j) hnx) (show 0 < sev j by have := sev_lt j (by omega); omega); omega⟩) (hro4.step ho5 (by omega)) (by omega)
            · replace c43 := b2i_0.mp c43
              refine ZE.goto (tgt := 59) d_Ref_layLeast_46 rfl ?_
              refine ZE.iinc (ls2 := [(2, o), (0, (m1 : Int)), (0, (j : Int) + 1)]) d_Ref_layLeast_59 rfl rfl ?_
              refine ZE.goto (tgt := 4) d_Ref_layLeast_62 rfl ?_
              rw [show (j : Int) + 1 = ((j + 1 : Nat) : Int) by omega]
              have e1 : gmF S (gst S i).1 (gst S i).2 (j + 1) = gmF S (gst S i).1 (gst S i).2 j := by show (if _ then (if _ then _ else _) else _) = _; rw [if_pos hbit]; exact if_pos ⟨hyy.2.2, by rw [← hnf]; exact c43⟩
              exact ih (j + 1) m1 f4 (by omega) (Or.inr ⟨hyy.1, by rw [e1]; exact hn4b, by rw [e1]; exact hyy.2.2⟩) hro4 (by omega)
        · replace c18 := b2i_0.mp c18
          refine ZE.goto (tgt := 59) d_Ref_layLeast_21 rfl ?_
          refine ZE.iinc (ls2 := [(2, o), (0, (m1 : Int)), (0, (j : Int) + 1)]) d_Ref_layLeast_59 rfl rfl ?_
          refine ZE.goto (tgt := 4) d_Ref_layLeast_62 rfl ?_
          rw [show (j : Int) + 1 = ((j + 1 : Nat) : Int) by omega]
          have e1 : gmF S (gst S i).1 (gst S i).2 (j + 1) = gmF S (gst S i).1 (gst S i).2 j := if_neg c18
          exact ih (j + 1) m1 f (by omega) (by rw [e1]; exact hm1) hro (by omega)
  have L0 := L4 _ 0 0 (A (o + 2)) (by omega) (Or.inl ⟨rfl, rfl⟩) rowF.rf (Nat.lt_succ_self _)
  rw [upA_self] at L0
  exact L0
