/-! pairs' facts -/
def alL (Q : pT → Prop) (L : List pT) : Prop := ∀ k : Nat, k < L.length → Q (L.getD k pD)
theorem alL.ins {Q : pT → Prop} {L : List pT} {t : pT} (h : alL Q L) (ht : Q t) : alL Q (insP L t) := by
  intro k hk
  rw [insP_len] at hk
  rw [insP_get]
  have hj := jp_le (fun k => decide (t.1 < (L.getD k pD).1)) L.length
  split
  · exact h k (by omega)
  · split
    · exact ht
    · exact h (k - 1) (by omega)
theorem fp_al {Q : pT → Prop} {g : Nat → Bool} {nn : Nat → Nat} {c : Nat} {L : List pT} (h : alL Q L) : ∀ b, (∀ i, 1 ≤ i → i ≤ b → g i = true → Q (nn i, c, i)) → alL Q (fp g nn c L b) := by
  intro b
  induction b with
  | zero => intro _; exact h
  | succ b ih =>
    intro hg
    have h1 := ih (fun i h1 h2 => hg i h1 (by omega))
    unfold fp
    split
    · next q => exact h1.ins (hg _ (by omega) (by omega) q)
    · exact h1
def pQ (S : Nat) (t : pT) : Prop := 1 ≤ t.1 ∧ t.1 < 1000000000 ∧ t.2.1 < (csF S 1 128).length ∧ 1 ≤ t.2.2 ∧ t.2.2 ≤ 9
def tQ (S : Nat) (t : pT) : Prop := 1 ≤ t.1 ∧ t.1 < 1000000000 ∧ t.2.1 < (csF S 0 128).length ∧ 1 ≤ t.2.2 ∧ t.2.2 ≤ 9
theorem prF_al {S : Nat} (hS : S < 128) : ∀ c, c ≤ (csF S 1 128).length → alL (pQ S) (prF S c) := by
  intro c
  induction c with
  | zero => intro _ k hk; exact absurd hk (Nat.not_lt_zero _)
  | succ c ih =>
    intro hc
    refine fp_al (ih (by omega)) _ (fun i h1 h2 hi => ?_)
    have hu := (d1_ok (S := S) (k := c) (by omega)).2
    have hx := xp_le_mono (u := ux (d1 S c)) (by omega) h1
    have hx1 : xp (ux (d1 S c)) 1 = ux (d1 S c) := rfl
    have hb := bnd_le S hS
    unfold gP1 at hi
    rw [Bool.and_eq_true, Bool.and_eq_true, decide_eq_true_iff] at hi
    refine ⟨?_, ?_, ?_, h1, ?_⟩
    · show 1 ≤ nn1 _ i; unfold nn1; omega
    · show nn1 _ i < _; unfold nn1; omega
    · show c < _; omega
    · show i ≤ 9; omega
theorem twF_al {S : Nat} (hS : S < 128) : ∀ c, c ≤ (csF S 0 128).length → alL (tQ S) (twF S c) := by
  intro c
  induction c with
  | zero => intro _ k hk; exact absurd hk (Nat.not_lt_zero _)
  | succ c ih =>
    intro hc
    refine fp_al (ih (by omega)) _ (fun i h1 h2 hi => ?_)
    have hu := (d2_ok (S := S) (k := c) (by omega)).2
    have hx := xp_le_mono (u := ux (d2 S c)) (by omega) h1
    have hx1 : xp (ux (d2 S c)) 1 = ux (d2 S c) := rfl
    have hb := bnd_le S hS
    unfold gP2 at hi
    rw [Bool.and_eq_true, Bool.and_eq_true, decide_eq_true_iff] at hi
    refine ⟨?_, ?_, ?_, h1, ?_⟩
    · show 1 ≤ nn2 _ i; unfold nn2; omega
    · show nn2 _ i < _; unfold nn2; omega
    · show c < _; omega
    · show i ≤ 9; omega
def pN (S k : Nat) : Nat := ((prs S).getD k pD).1
def pC (S k : Nat) : Nat := ((prs S).getD k pD).2.1
def pI (S k : Nat) : Nat := ((prs S).getD k pD).2.2
theorem prs_ok {S : Nat} (hS : S < 128) (_hp : pop S ≤ 5) {k : Nat} (hk : k < (prs S).length) : 1 ≤ pN S k ∧ pN S k < 1000000000 ∧ pC S k < (csF S 1 128).length ∧ 1 ≤ pI S k ∧ pI S k ≤ 9 := prF_al hS _ (Nat.le_refl _) k hk
theorem cls_le {S : Nat} (hS : S < 128) (hp : pop S ≤ 5) : (csF S 1 128).length ≤ 32 ∧ (csF S 0 128).length ≤ 31 := by
  have h1 := cnt_tab S hS hp
  rw [csF_len, csF_len]
  exact h1
theorem prs_288 {S : Nat} (hS : S < 128) (hp : pop S ≤ 5) : (prs S).length ≤ 288 := by
  have h1 := prF_len hS (csF S 1 128).length
  have h2 := cls_le hS hp
  unfold prs
  omega
theorem tws_288 {S : Nat} (hS : S < 128) (hp : pop S ≤ 5) : (tws S).length ≤ 288 := by
  have h1 := twF_len hS (csF S 0 128).length
  have h2 := cls_le hS hp
  unfold tws
  omega
/-- what is only lent may change -/
def quF (A A' : Int → Int → Int) (o : Int) : Prop := (∀ b : Int, b ≠ o → b ≠ o + 2 → b ≠ o + 13 → b ≠ o + 14 → A' b = A b) ∧ (∀ i : Int, ¬ (9 ≤ i ∧ i ≤ 11) → i ≠ 20 → i ≠ 21 → A' o i = A o i) ∧ rowF (fun n => 126 ≤ n ∧ n ≤ 130) (A (o + 2)) (A' (o + 2))
theorem quF.rf {A : Int → Int → Int} {o : Int} : quF A A o := ⟨fun _ _ _ _ _ => rfl, fun _ _ _ _ => rfl, rowF.rf⟩
theorem quF.tr {A B C : Int → Int → Int} {o : Int} (a : quF A B o) (b : quF B C o) : quF A C o := ⟨fun e h1 h2 h3 h4 => (b.1 e h1 h2 h3 h4).trans (a.1 e h1 h2 h3 h4), fun i h1 h2 h3 => (b.2.1 i h1 h2 h3).trans (a.2.1 i h1 h2 h3), a.2.2.tr b.2.2⟩
theorem goF.qu {A B : Int → Int → Int} {o : Int} (a : goF A B o) : quF A B o := ⟨fun b h1 _ _ _ => a.row h1, fun i h _ _ => a o i (fun q => h q.2), by rw [a.row (b := o + 2) (by omega)]; exact rowF.rf⟩
theorem rowF.qu {A : Int → Int → Int} {f : Int → Int} {o : Int} (a : rowF (fun n => 126 ≤ n ∧ n ≤ 130) (A (o + 2)) f) : quF A (upA A (o + 2) f) o := ⟨fun b _ h2 _ _ => upA_ne _ _ h2, fun i _ _ _ => by rw [upA_ne _ _ (show o ≠ o + 2 by omega)], by rw [upA_at]; exact a⟩
theorem bigF.qu {A B : Int → Int → Int} {o : Int} (a : bigF (fun n => 126 ≤ n ∧ n ≤ 130) A B o) : quF A B o := ⟨fun b h1 h2 _ _ => a.1 b h1 h2, fun i h _ _ => a.2.1 i h, a.2.2⟩
theorem RF.qu {A A' : Int → Int → Int} {o : Int} (h : RF A o) (g : quF A A' o) : RF A' o := by
  have e0 : ∀ j : Int, ¬ (9 ≤ j ∧ j ≤ 11) → j ≠ 20 → j ≠ 21 → A' o j = A o j := g.2.1
  have e1 : A' (o + 1) = A (o + 1) := g.1 _ (by omega) (by omega) (by omega) (by omega)
  unfold RF
  rw [e1]
  refine ⟨(e0 _ (by omega) (by omega) (by omega)).trans h.a0, (e0 _ (by omega) (by omega) (by omega)).trans h.a2, (e0 _ (by omega) (by omega) (by omega)).trans h.a3, (e0 _ (by omega) (by omega) (by omega)).trans h.a4, (e0 _ (by omega) (by omega) (by omega)).trans h.a5, (e0 _ (by omega) (by omega) (by omega)).trans h.a6, (e0 _ (by omega) (by omega) (by omega)).trans h.a12, (e0 _ (by omega) (by omega) (by omega)).trans h.a13, (e0 _ (by omega) (by omega) (by omega)).trans h.a14, (e0 _ (by omega) (by omega) (by omega)).trans h.a16, (e0 _ (by omega) (by omega) (by omega)).trans h.a17, (e0 _ (by omega) (by omega) (by omega)).trans h.a18, (e0 _ (by omega) (by omega) (by omega)).trans h.a22, (e0 _ (by omega) (by omega) (by omega)).trans h.a23, (e0 _ (by omega) (by omega) (by omega)).trans h.a24, (e0 _ (by omega) (by omega) (by omega)).trans h.a25, (e0 _ (by omega) (by omega) (by omega)).trans h.a26, (e0 _ (by omega) (by omega) (by omega)).trans h.a27, (e0 _ (by omega) (by omega) (by omega)).trans h.a30, h.sev⟩
theorem clD.qu {A B : Int → Int → Int} {o c : Int} {D : Nat} (h : clD A o c D) (g : quF A B o) (hc : 0 ≤ c ∧ c < 63) (hok : okD D = true) : clD B o c D :=
  ⟨by rw [g.1 _ (by omega) (by omega) (by omega) (by omega)]; exact h.1, by rw [g.1 _ (by omega) (by omega) (by omega) (by omega)]; exact h.2.1, g.2.2.num (by omega) (by omega) (by have := (okD_ns hok).2.1; omega) h.2.2.1, g.2.2.num (by omega) (by omega) (by have := (okD_ns hok).2.2; omega) h.2.2.2⟩
theorem RS.qu {S : Nat} {A B : Int → Int → Int} {o : Int} (h : RS S A o) (g : quF A B o) (hS : S < 128) (hp : pop S ≤ 5) : RS S B o := by
  have hl := cls_le hS hp
  have e : ∀ b : Int, o + 3 ≤ b → b ≤ o + 12 → B b = A b := fun b h1 h2 => g.1 b (by omega) (by omega) (by omega) (by omega)
  have e0 : ∀ j : Int, ¬ (9 ≤ j ∧ j ≤ 11) → j ≠ 20 → j ≠ 21 → B o j = A o j := g.2.1
  refine ⟨(e0 _ (by omega) (by omega) (by omega)).trans h.s, (e0 _ (by omega) (by omega) (by omega)).trans h.n1, (e0 _ (by omega) (by omega) (by omega)).trans h.n2, ?_, ?_, ?_, ?_, (e0 _ (by omega) (by omega) (by omega)).trans h.np, ?_, (e0 _ (by omega) (by omega) (by omega)).trans h.nt, ?_, ?_, ?_⟩
  · intro k hk; rw [e _ (by omega) (by omega)]; exact h.q1 k hk
  · intro k hk; rw [e _ (by omega) (by omega)]; exact h.q2 k hk
  · intro k hk; exact (h.c1 k hk).qu g (by omega) (d1_ok hk).1
  · intro k hk; exact (h.c2 k hk).qu g (by omega) (d2_ok hk).1
  · intro k hk; exact (h.p k hk).row (e _ (by omega) (by omega)) (e _ (by omega) (by omega)) (e _ (by omega) (by omega))
  · intro k hk; exact (h.t k hk).row (e _ (by omega) (by omega)) (e _ (by omega) (by omega)) (e _ (by omega) (by omega))
  · intro k hk; rw [e _ (by omega) (by omega)]; exact h.i1 k hk
  · intro k hk; rw [e _ (by omega) (by omega)]; exact h.i2 k hk
def inL (S : Nat) (p : Int) : Bool := decide (0 ≤ p ∧ p < ((prs S).length : Int))
def inC (S : Nat) (c : Int) : Bool := decide (0 ≤ c ∧ c < ((csF S 1 128).length : Int))
def dgV (S : Nat) (p i : Int) : Int := if inL S p then (if 0 ≤ i ∧ i < dl (pN S p.toNat) then (dg 10 (pN S p.toNat) i.toNat : Int) else -1) else -1
def lfV (S : Nat) (p m : Int) : Int := if inL S p then (if 2 ≤ m ∧ m ≤ 10000 then ((pN S p.toNat % m.toNat : Nat) : Int) else -1) else -1
def smV (S : Nat) (p : Int) : Int := if inL S p then (pN S p.toNat : Int) else -1
def btN (S k : Nat) : Nat := mb (pN S k) ||| mb (pN S k + 1)
def moV (S : Nat) (p : Int) : Int := if inL S p then (btN S p.toNat : Int) else -1
def ipV (S : Nat) (p q wh : Int) : Int := if inL S p then (if hasB S q then (if wh = 0 ∨ wh = 1 then (vp q.toNat (pN S p.toNat + wh.toNat) : Int) else -1) else -1) else -1
def unV (S : Nat) (c wh i : Int) : Int := if inC S c then (if wh = 0 then (if 0 ≤ i ∧ i < dl (ux (d1 S c.toNat)) then (dg 10 (ux (d1 S c.toNat)) i.toNat : Int) else -1) else if wh = 1 then (if 0 ≤ i ∧ i < dl (uy (d1 S c.toNat)) then (dg 10 (uy (d1 S c.toNat)) i.toNat : Int) else -1) else -1) else -1
def stV (S : Nat) (c i : Int) : Int := if inC S c then (if 0 ≤ i ∧ i ≤ 2 * (rnd (d1 S c.toNat) : Int) then ((cf (d1 S c.toNat) (isq (d1 S c.toNat)) i.toNat).2.2 : Int) else -1) else -1
def pwV (S : Nat) (c i m : Int) : Int := if inC S c then (if (0 ≤ i ∧ i ≤ 60) ∧ (2 ≤ m ∧ m ≤ 10000) then ((xp (ux (d1 S c.toNat)) i.toNat % m.toNat : Nat) : Int) else -1) else -1
set_option maxRecDepth 20000 in
set_option maxHeartbeats 4000000 in
theorem r_digit {d : Nat} {G : zG} {A : Int → Int → Int} {P : Option zV → zG → Prop} {o : Int} (hK : RK G o) (hF : RF A o) {S : Nat} (hR : RS S A o) (hS7 : S < 128) (hp5 : pop S ≤ 5) {p : Int} (hp : zR p) {i : Int} (hi : zR i) (k : P (some (0, dgV S p i)) (gw G A)) : ZE (d + 2) M_Ref_digit (gw G A) 0 [(2, o), (0, p), (0, i)] [] P := by
  refine ZE.aload_n d_Ref_digit_0 rfl ?_
  refine ZE.iload_n d_Ref_digit_1 rfl ?_
  have hpl0 := prs_len hS7
  refine ZE.cV [(0, p)] [] [(2, o), (0, p)] d_Ref_digit_2 l_Ref_269 rfl rfl rfl rfl rfl rfl hK.1 ?_
  refine r_isPair (m := (prs S).length) hK hF hR.np (by omega) hp ?_
  show ZE (d + 2) M_Ref_digit (gw G A) 5 [(2, o), (0, p), (0, i)] [(0, b2i (0 ≤ p ∧ p < ((prs S).length : Int)))] _
  refine ZE.if_eq (tgt := 42) d_Ref_digit_5 rfl (zR_b2i _) (fun c5 => ?_) (fun c5 => ?_)
  · replace c5 := b2i_0.mp c5
    refine ZE.iconst (n := (-1)) d_Ref_digit_42 ?_
    refine ZE.iret d_Ref_digit_43 rfl ?_
    have e0 : inL S p = false := decide_eq_false c5
    have e1 : dgV S p i = -1 := by unfold dgV; rw [e0]; rfl
    rw [e1] at k
    exact k
  · replace c5 := b2i_n0.mp c5
    obtain ⟨pn, hpn⟩ : ∃ pn : Nat, p = pn := ⟨p.toNat, by omega⟩
    subst hpn
    have hQ := prs_ok hS7 hp5 (k := pn) (by omega)
    have hpl := prs_288 hS7 hp5
    have hQ1 : 1 ≤ pN S pn ∧ pN S pn < 1000000000 := ⟨hQ.1, hQ.2.1⟩
    refine ZE.iload_n d_Ref_digit_8 rfl ?_
    refine ZE.i2l d_Ref_digit_9 hi ?_
    refine ZE.lconst d_Ref_digit_10 ?_
    show ZE (d + 2) M_Ref_digit (gw G A) 11 [(2, o), (0, (pn : Int)), (0, i)] [(1, 0), (1, i)] _
    refine ZE.aload_n d_Ref_digit_11 rfl ?_
    refine ZE.getE (v := o + 7) d_Ref_digit_12 f_Ref_28 (tg := 2) rfl hK.1 hF.a12 ?_
    refine ZE.iload_n d_Ref_digit_15 rfl ?_
    refine ZE.ialdE (v := (pN S pn : Int)) d_Ref_digit_16 hK.k7 (by have hn0 := hK.n7; show 0 ≤ (pn : Int) ∧ (pn : Int) < gn G (o + 7); omega) (hR.p pn (by omega)).1 ?_
    refine ZE.cS [(0, (pN S pn : Int))] [(1, 0), (1, i)] [(0, (pN S pn : Int)), (9, 0), (9, 0)] d_Ref_digit_17 l_Ref_105 rfl rfl rfl rfl rfl rfl ?_
    refine r_digitsOf (s := pN S pn) (by omega) ?_
    show ZE (d + 2) M_Ref_digit (gw G A) 20 [(2, o), (0, (pn : Int)), (0, i)] [(0, (dl (pN S pn) : Int)), (1, 0), (1, i)] _
    have hdl : dl (pN S pn) ≤ 9 := dl_9.mpr (by omega)
    refine ZE.iconst (n := 1) d_Ref_digit_20 ?_
    refine ZE.isub d_Ref_digit_21 ?_
    refine ZE.i2l d_Ref_digit_22 (by unfold zR; omega) ?_
    refine ZE.cS [(1, i), (1, 0), (1, (dl (pN S pn) : Int) - 1)] [] [(1, i), (9, 0), (1, 0), (9, 0), (1, (dl (pN S pn) : Int) - 1), (9, 0)] d_Ref_digit_23 l_Ref_111 rfl rfl rfl rfl rfl rfl ?_
    refine r_isIn (by unfold zR at hi; unfold zR64; omega) (by unfold zR64; omega) (by unfold zR64; omega) ?_
    show ZE (d + 2) M_Ref_digit (gw G A) 26 [(2, o), (0, (pn : Int)), (0, i)] [(0, b2i (0 ≤ i ∧ i ≤ (dl (pN S pn) : Int) - 1))] _
    refine ZE.if_eq (tgt := 42) d_Ref_digit_26 rfl (zR_b2i _) (fun c26 => ?_) (fun c26 => ?_)
    · replace c26 := b2i_0.mp c26
      refine ZE.iconst (n := (-1)) d_Ref_digit_42 ?_
      refine ZE.iret d_Ref_digit_43 rfl ?_
      have e0 : inL S (pn : Int) = true := decide_eq_true (by omega)
      have e1 : dgV S (pn : Int) i = -1 := by unfold dgV; rw [e0, if_pos rfl, Int.toNat_natCast, if_neg (by omega)]
      rw [e1] at k
      exact k
    · replace c26 := b2i_n0.mp c26
      obtain ⟨im, him⟩ : ∃ im : Nat, i = im := ⟨i.toNat, by omega⟩
      subst him
      refine ZE.aload_n d_Ref_digit_29 rfl ?_
      refine ZE.getE (v := o + 7) d_Ref_digit_30 f_Ref_28 (tg := 2) rfl hK.1 hF.a12 ?_
      refine ZE.iload_n d_Ref_digit_33 rfl ?_
      refine ZE.ialdE (v := (pN S pn : Int)) d_Ref_digit_34 hK.k7 (by have hn0 := hK.n7; show 0 ≤ (pn : Int) ∧ (pn : Int) < gn G (o + 7); omega) (hR.p pn (by omega)).1 ?_
      refine ZE.iload_n d_Ref_digit_35 rfl ?_
      refine ZE.cS [(0, (pN S pn : Int)), (0, (im : Int))] [] [(0, (pN S pn : Int)), (0, (im : Int)), (9, 0), (9, 0)] d_Ref_digit_36 l_Ref_115 rfl rfl rfl rfl rfl rfl ?_
      refine r_digitIn (s := pN S pn) (i := im) (by omega) (by omega) ?_
      show ZE (d + 2) M_Ref_digit (gw G A) 39 [(2, o), (0, (pn : Int)), (0, (im : Int))] [(0, (dg 10 (pN S pn) im : Int))] _
      refine ZE.goto (tgt := 43) d_Ref_digit_39 rfl ?_
      refine ZE.iret d_Ref_digit_43 rfl ?_
      have e0 : inL S (pn : Int) = true := decide_eq_true (by omega)
      have e1 : dgV S (pn : Int) (im : Int) = (dg 10 (pN S pn) im : Int) := by unfold dgV; rw [e0, if_pos rfl, Int.toNat_natCast, if_pos (by omega), Int.toNat_natCast]
      rw [e1] at k
      exact k
set_option maxRecDepth 20000 in
set_option maxHeartbeats 4000000 in
theorem r_left {d : Nat} {G : zG} {A : Int → Int → Int} {P : Option zV → zG → Prop} {o : Int} (hK : RK G o) (hF : RF A o) {S : Nat} (hR : RS S A o) (hS7 : S < 128) (hp5 : pop S ≤ 5) {p : Int} (hp : zR p) {m : Int} (hm : zR m) (k : P (some (0, lfV S p m)) (gw G A)) : ZE (d + 2) M_Ref_left (gw G A) 0 [(2, o), (0, p), (0, m)] [] P := by
  refine ZE.aload_n d_Ref_left_0 rfl ?_
  refine ZE.iload_n d_Ref_left_1 rfl ?_
  have hpl0 := prs_len hS7
  refine ZE.cV [(0, p)] [] [(2, o), (0, p)] d_Ref_left_2 l_Ref_269 rfl rfl rfl rfl rfl rfl hK.1 ?_
  refine r_isPair (m := (prs S).length) hK hF hR.np (by omega) hp ?_
  show ZE (d + 2) M_Ref_left (gw G A) 5 [(2, o), (0, p), (0, m)] [(0, b2i (0 ≤ p ∧ p < ((prs S).length : Int)))] _
  refine ZE.if_eq (tgt := 33) d_Ref_left_5 rfl (zR_b2i _) (fun c5 => ?_) (fun c5 => ?_)
  · replace c5 := b2i_0.mp c5
    refine ZE.iconst (n := (-1)) d_Ref_left_33 ?_
    refine ZE.iret d_Ref_left_34 rfl ?_
    have e0 : inL S p = false := decide_eq_false c5
    have e1 : lfV S p m = -1 := by unfold lfV; rw [e0]; rfl
    rw [e1] at k
    exact k
  · replace c5 := b2i_n0.mp c5
    obtain ⟨pn, hpn⟩ : ∃ pn : Nat, p = pn := ⟨p.toNat, by omega⟩
    subst hpn
    have hQ := prs_ok hS7 hp5 (k := pn) (by omega)
    have hpl := prs_288 hS7 hp5
    have hQ1 : 1 ≤ pN S pn ∧ pN S pn < 1000000000 := ⟨hQ.1, hQ.2.1⟩
    refine ZE.iload_n d_Ref_left_8 rfl ?_
    refine ZE.i2l d_Ref_left_9 hm ?_
    refine ZE.ldc2 (v := 2) d_Ref_left_10 k_Ref_181 ?_
    refine ZE.ldc2 (v := 10000) d_Ref_left_13 k_Ref_103 ?_
    refine ZE.cS [(1, m), (1, 2), (1, 10000)] [] [(1, m), (9, 0), (1, 2), (9, 0), (1, 10000), (9, 0)] d_Ref_left_16 l_Ref_111 rfl rfl rfl rfl rfl rfl ?_
    refine r_isIn (by unfold zR at hm; unfold zR64; omega) (by unfold zR64; omega) (by unfold zR64; omega) ?_
    show ZE (d + 2) M_Ref_left (gw G A) 19 [(2, o), (0, (pn : Int)), (0, m)] [(0, b2i (2 ≤ m ∧ m ≤ 10000))] _
    refine ZE.if_eq (tgt := 33) d_Ref_left_19 rfl (zR_b2i _) (fun c19 => ?_) (fun c19 => ?_)
    · replace c19 := b2i_0.mp c19
      refine ZE.iconst (n := (-1)) d_Ref_left_33 ?_
      refine ZE.iret d_Ref_left_34 rfl ?_
      have e0 : inL S (pn : Int) = true := decide_eq_true (by omega)
      have e1 : lfV S (pn : Int) m = -1 := by unfold lfV; rw [e0, if_pos rfl, if_neg (by omega)]
      rw [e1] at k
      exact k
    · replace c19 := b2i_n0.mp c19
      obtain ⟨mm, hmm⟩ : ∃ mm : Nat, m = mm := ⟨m.toNat, by omega⟩
      subst hmm
      refine ZE.aload_n d_Ref_left_22 rfl ?_
      refine ZE.getE (v := o + 7) d_Ref_left_23 f_Ref_28 (tg := 2) rfl hK.1 hF.a12 ?_
      refine ZE.iload_n d_Ref_left_26 rfl ?_
      refine ZE.ialdE (v := (pN S pn : Int)) d_Ref_left_27 hK.k7 (by have hn0 := hK.n7; show 0 ≤ (pn : Int) ∧ (pn : Int) < gn G (o + 7); omega) (hR.p pn (by omega)).1 ?_
      refine ZE.iload_n d_Ref_left_28 rfl ?_
      refine ZE.iremP d_Ref_left_29 (by omega) ?_
      rw [show ((pN S pn : Int) % (mm : Int) : Int) = ((pN S pn % mm : Nat) : Int) from (by omega)]
      refine ZE.goto (tgt := 34) d_Ref_left_30 rfl ?_
      refine ZE.iret d_Ref_left_34 rfl ?_
      have e0 : inL S (pn : Int) = true := decide_eq_true (by omega)
      have e1 : lfV S (pn : Int) (mm : Int) = ((pN S pn % mm : Nat) : Int) := by unfold lfV; rw [e0, if_pos rfl, Int.toNat_natCast, if_pos (by omega), Int.toNat_natCast]
      rw [e1] at k
      exact k
set_option maxRecDepth 20000 in
set_option maxHeartbeats 4000000 in
theorem r_small {d : Nat} {G : zG} {A : Int → Int → Int} {P : Option zV → zG → Prop} {o : Int} (hK : RK G o) (hF : RF A o) {S : Nat} (hR : RS S A o) (hS7 : S < 128) (hp5 : pop S ≤ 5) {p : Int} (hp : zR p) (k : P (some (0, smV S p)) (gw G A)) : ZE (d + 2) M_Ref_small (gw G A) 0 [(2, o), (0, p)] [] P := by
  refine ZE.aload_n d_Ref_small_0 rfl ?_
  refine ZE.iload_n d_Ref_small_1 rfl ?_
  have hpl0 := prs_len hS7
  refine ZE.cV [(0, p)] [] [(2, o), (0, p)] d_Ref_small_2 l_Ref_269 rfl rfl rfl rfl rfl rfl hK.1 ?_
  refine r_isPair (m := (prs S).length) hK hF hR.np (by omega) hp ?_
  show ZE (d + 2) M_Ref_small (gw G A) 5 [(2, o), (0, p)] [(0, b2i (0 ≤ p ∧ p < ((prs S).length : Int)))] _
  refine ZE.if_eq (tgt := 29) d_Ref_small_5 rfl (zR_b2i _) (fun c5 => ?_) (fun c5 => ?_)
  · replace c5 := b2i_0.mp c5
    refine ZE.iconst (n := (-1)) d_Ref_small_29 ?_
    refine ZE.iret d_Ref_small_30 rfl ?_
    have e0 : inL S p = false := decide_eq_false c5
    have e1 : smV S p = -1 := by unfold smV; rw [e0]; rfl
    rw [e1] at k
    exact k
  · replace c5 := b2i_n0.mp c5
    obtain ⟨pn, hpn⟩ : ∃ pn : Nat, p = pn := ⟨p.toNat, by omega⟩
    subst hpn
    have hQ := prs_ok hS7 hp5 (k := pn) (by omega)
    have hpl := prs_288 hS7 hp5
    have hQ1 : 1 ≤ pN S pn ∧ pN S pn < 1000000000 := ⟨hQ.1, hQ.2.1⟩
    refine ZE.aload_n d_Ref_small_8 rfl ?_
    refine ZE.getE (v := o + 7) d_Ref_small_9 f_Ref_28 (tg := 2) rfl hK.1 hF.a12 ?_
    refine ZE.iload_n d_Ref_small_12 rfl ?_
    refine ZE.ialdE (v := (pN S pn : Int)) d_Ref_small_13 hK.k7 (by have hn0 := hK.n7; show 0 ≤ (pn : Int) ∧ (pn : Int) < gn G (o + 7); omega) (hR.p pn (by omega)).1 ?_
    refine ZE.ldcw (v := 1000000000) d_Ref_small_14 k_Ref_272 ?_
    refine ZE.icmp_ge (tgt := 29) d_Ref_small_17 rfl (by unfold zR; omega) (by unfold zR; omega) (fun c17 => ?_) (fun c17 => ?_)
    · exact absurd c17 (by omega)
    · refine ZE.aload_n d_Ref_small_20 rfl ?_
      refine ZE.getE (v := o + 7) d_Ref_small_21 f_Ref_28 (tg := 2) rfl hK.1 hF.a12 ?_
      refine ZE.iload_n d_Ref_small_24 rfl ?_
      refine ZE.ialdE (v := (pN S pn : Int)) d_Ref_small_25 hK.k7 (by have hn0 := hK.n7; show 0 ≤ (pn : Int) ∧ (pn : Int) < gn G (o + 7); omega) (hR.p pn (by omega)).1 ?_
      refine ZE.goto (tgt := 30) d_Ref_small_26 rfl ?_
      refine ZE.iret d_Ref_small_30 rfl ?_
      have e0 : inL S (pn : Int) = true := decide_eq_true (by omega)
      have e1 : smV S (pn : Int) = (pN S pn : Int) := by unfold smV; rw [e0, if_pos rfl, Int.toNat_natCast]
      rw [e1] at k
      exact k
set_option maxRecDepth 20000 in
set_option maxHeartbeats 4000000 in
theorem r_bitsOf {d : Nat} {G : zG} {A : Int → Int → Int} {P : Option zV → zG → Prop} {o : Int} (hK : RK G o) (hF : RF A o) {S : Nat} (hR : RS S A o) (hS7 : S < 128) (hp5 : pop S ≤ 5) {pn : Nat} (hk : pn < (prs S).length) (k : P (some (0, (btN S pn : Int))) (gw G A)) : ZE (d + 1) M_Ref_bitsOf (gw G A) 0 [(2, o), (0, (pn : Int))] [] P := by
  have hQ := prs_ok hS7 hp5 (k := pn) hk
  have hpl := prs_288 hS7 hp5
  have hm1 := mb_lt (pN S pn)
  have hm2 := mb_lt (pN S pn + 1)
  refine ZE.aload_n d_Ref_bitsOf_0 rfl ?_
  refine ZE.aload_n d_Ref_bitsOf_1 rfl ?_
  refine ZE.getE (v := o + 7) d_Ref_bitsOf_2 f_Ref_28 (tg := 2) rfl hK.1 hF.a12 ?_
  refine ZE.iload_n d_Ref_bitsOf_5 rfl ?_
  refine ZE.ialdE (v := (pN S pn : Int)) d_Ref_bitsOf_6 hK.k7 (by have hn0 := hK.n7; show 0 ≤ (pn : Int) ∧ (pn : Int) < gn G (o + 7); omega) (hR.p pn (by omega)).1 ?_
  refine ZE.cV [(0, (pN S pn : Int))] [] [(2, o), (0, (pN S pn : Int)), (9, 0), (9, 0)] d_Ref_bitsOf_7 l_Ref_276 rfl rfl rfl rfl rfl rfl hK.1 ?_
  refine r_madeBits (n := pN S pn) hK hF (by omega) ?_
  show ZE (d + 1) M_Ref_bitsOf (gw G A) 10 [(2, o), (0, (pn : Int))] [(0, (mb (pN S pn) : Int))] _
  refine ZE.aload_n d_Ref_bitsOf_10 rfl ?_
  refine ZE.aload_n d_Ref_bitsOf_11 rfl ?_
  refine ZE.getE (v := o + 7) d_Ref_bitsOf_12 f_Ref_28 (tg := 2) rfl hK.1 hF.a12 ?_
  refine ZE.iload_n d_Ref_bitsOf_15 rfl ?_
  refine ZE.ialdE (v := (pN S pn : Int)) d_Ref_bitsOf_16 hK.k7 (by have hn0 := hK.n7; show 0 ≤ (pn : Int) ∧ (pn : Int) < gn G (o + 7); omega) (hR.p pn (by omega)).1 ?_
  refine ZE.iconst (n := 1) d_Ref_bitsOf_17 ?_
  refine ZE.iadd d_Ref_bitsOf_18 ?_
  rw [show ((pN S pn : Int) + 1 : Int) = ((pN S pn + 1 : Nat) : Int) from (by omega)]
  refine ZE.cV [(0, ((pN S pn + 1 : Nat) : Int))] [(0, (mb (pN S pn) : Int))] [(2, o), (0, ((pN S pn + 1 : Nat) : Int)), (9, 0), (9, 0)] d_Ref_bitsOf_19 l_Ref_276 rfl rfl rfl rfl rfl rfl hK.1 ?_
  refine r_madeBits (n := pN S pn + 1) hK hF (by omega) ?_
  show ZE (d + 1) M_Ref_bitsOf (gw G A) 22 [(2, o), (0, (pn : Int))] [(0, (mb (pN S pn + 1) : Int)), (0, (mb (pN S pn) : Int))] _
  refine ZE.ior d_Ref_bitsOf_22 ?_
  rw [show (zor (mb (pN S pn) : Int) (mb (pN S pn + 1) : Int) : Int) = ((btN S pn : Nat) : Int) from (zor_nat (by omega) (by omega))]
  refine ZE.iret d_Ref_bitsOf_23 rfl ?_
  exact k
set_option maxRecDepth 20000 in
set_option maxHeartbeats 4000000 in
theorem r_madeOf {d : Nat} {G : zG} {A : Int → Int → Int} {P : Option zV → zG → Prop} {o : Int} (hK : RK G o) (hF : RF A o) {S : Nat} (hR : RS S A o) (hS7 : S < 128) (hp5 : pop S ≤ 5) {p : Int} (hp : zR p) (k : P (some (0, moV S p)) (gw G A)) : ZE (d + 2) M_Ref_madeOf (gw G A) 0 [(2, o), (0, p)] [] P := by
  refine ZE.aload_n d_Ref_madeOf_0 rfl ?_
  refine ZE.iload_n d_Ref_madeOf_1 rfl ?_
  have hpl0 := prs_len hS7
  refine ZE.cV [(0, p)] [] [(2, o), (0, p)] d_Ref_madeOf_2 l_Ref_269 rfl rfl rfl rfl rfl rfl hK.1 ?_
  refine r_isPair (m := (prs S).length) hK hF hR.np (by omega) hp ?_
  show ZE (d + 2) M_Ref_madeOf (gw G A) 5 [(2, o), (0, p)] [(0, b2i (0 ≤ p ∧ p < ((prs S).length : Int)))] _
  refine ZE.if_eq (tgt := 16) d_Ref_madeOf_5 rfl (zR_b2i _) (fun c5 => ?_) (fun c5 => ?_)
  · replace c5 := b2i_0.mp c5
    refine ZE.iconst (n := (-1)) d_Ref_madeOf_16 ?_
    refine ZE.iret d_Ref_madeOf_17 rfl ?_
    have e0 : inL S p = false := decide_eq_false c5
    have e1 : moV S p = -1 := by unfold moV; rw [e0]; rfl
    rw [e1] at k
    exact k
  · replace c5 := b2i_n0.mp c5
    obtain ⟨pn, hpn⟩ : ∃ pn : Nat, p = pn := ⟨p.toNat, by omega⟩
    subst hpn
    have hQ := prs_ok hS7 hp5 (k := pn) (by omega)
    have hpl := prs_288 hS7 hp5
    have hQ1 : 1 ≤ pN S pn ∧ pN S pn < 1000000000 := ⟨hQ.1, hQ.2.1⟩
    refine ZE.aload_n d_Ref_madeOf_8 rfl ?_
    refine ZE.iload_n d_Ref_madeOf_9 rfl ?_
    refine ZE.cV [(0, (pn : Int))] [] [(2, o), (0, (pn : Int))] d_Ref_madeOf_10 l_Ref_284 rfl rfl rfl rfl rfl rfl hK.1 ?_
    refine r_bitsOf (pn := pn) hK hF hR hS7 hp5 (by omega) ?_
    show ZE (d + 2) M_Ref_madeOf (gw G A) 13 [(2, o), (0, (pn : Int))] [(0, (btN S pn : Int))] _
    refine ZE.goto (tgt := 17) d_Ref_madeOf_13 rfl ?_
    refine ZE.iret d_Ref_madeOf_17 rfl ?_
    have e0 : inL S (pn : Int) = true := decide_eq_true (by omega)
    have e1 : moV S (pn : Int) = (btN S pn : Int) := by unfold moV; rw [e0, if_pos rfl, Int.toNat_natCast]
    rw [e1] at k
    exact k
set_option maxRecDepth 20000 in
set_option maxHeartbeats 4000000 in
theorem r_isStep {d : Nat} {G : zG} {A : Int → Int → Int} {P : Option zV → zG → Prop} {o : Int} (hK : RK G o) (hF : RF A o) {S : Nat} (hR : RS S A o) (hS7 : S < 128) (hp5 : pop S ≤ 5) {c : Int} (hc : zR c) {i : Int} (hi : zR i) (k : P (some (0, b2i (inC S c = true ∧ 0 ≤ i ∧ i ≤ 2 * (rnd (d1 S c.toNat) : Int)))) (gw G A)) : ZE (d + 2) M_Ref_isStep (gw G A) 0 [(2, o), (0, c), (0, i)] [] P := by
  refine ZE.aload_n d_Ref_isStep_0 rfl ?_
  refine ZE.iload_n d_Ref_isStep_1 rfl ?_
  have hcl0 := cls_le hS7 hp5
  refine ZE.cV [(0, c)] [] [(2, o), (0, c)] d_Ref_isStep_2 l_Ref_242 rfl rfl rfl rfl rfl rfl hK.1 ?_
  refine r_isClass (m := (csF S 1 128).length) hK hF hR.n1 (by omega) hc ?_
  show ZE (d + 2) M_Ref_isStep (gw G A) 5 [(2, o), (0, c), (0, i)] [(0, b2i (0 ≤ c ∧ c < ((csF S 1 128).length : Int)))] _
  refine ZE.if_eq (tgt := 30) d_Ref_isStep_5 rfl (zR_b2i _) (fun c5 => ?_) (fun c5 => ?_)
  · replace c5 := b2i_0.mp c5
    refine ZE.iconst (n := 0) d_Ref_isStep_30 ?_
    refine ZE.zret d_Ref_isStep_31 rfl (by omega) ?_
    rw [b2i_f (fun q => c5 (of_decide_eq_true q.1))] at k
    exact k
  · replace c5 := b2i_n0.mp c5
    obtain ⟨cn, hcn⟩ : ∃ cn : Nat, c = cn := ⟨c.toNat, by omega⟩
    subst hcn
    have hok := d1_ok (S := S) (k := cn) (by omega)
    have hcl := hR.c1 cn (by omega)
    have hux9 : nd 10000 (ux (d1 S cn)) ≤ 81 := (okD_ns hok.1).2.1
    have huy9 : nd 10000 (uy (d1 S cn)) ≤ 81 := (okD_ns hok.1).2.2
    have hnx : num (A (o + 2)) (2 * (cn : Int)) (ux (d1 S cn)) := hcl.2.2.1
    have hny : num (A (o + 2)) (2 * (cn : Int) + 1) (uy (d1 S cn)) := hcl.2.2.2
    have hcf := (okD_cf hok.1).1
    have hRb := hcf.2.2.2.2.2.1
    refine ZE.iload_n d_Ref_isStep_8 rfl ?_
    refine ZE.i2l d_Ref_isStep_9 hi ?_
    refine ZE.lconst d_Ref_isStep_10 ?_
    show ZE (d + 2) M_Ref_isStep (gw G A) 11 [(2, o), (0, (cn : Int)), (0, i)] [(1, 0), (1, i)] _
    refine ZE.iconst (n := 2) d_Ref_isStep_11 ?_
    refine ZE.aload_n d_Ref_isStep_12 rfl ?_
    refine ZE.getE (v := o + 5) d_Ref_isStep_13 f_Ref_22 (tg := 2) rfl hK.1 hF.a5 ?_
    refine ZE.iload_n d_Ref_isStep_16 rfl ?_
    refine ZE.ialdE (v := (rnd (d1 S cn) : Int)) d_Ref_isStep_17 hK.k5 (by have hn0 := hK.n5; show 0 ≤ (cn : Int) ∧ (cn : Int) < gn G (o + 5); omega) hcl.2.1 ?_
    refine ZE.imul d_Ref_isStep_18 ?_
    refine ZE.i2l d_Ref_isStep_19 (by unfold zR; omega) ?_
    refine ZE.cS [(1, i), (1, 0), (1, 2 * (rnd (d1 S cn) : Int))] [] [(1, i), (9, 0), (1, 0), (9, 0), (1, 2 * (rnd (d1 S cn) : Int)), (9, 0)] d_Ref_isStep_20 l_Ref_111 rfl rfl rfl rfl rfl rfl ?_
    refine r_isIn (by unfold zR at hi; unfold zR64; omega) (by unfold zR64; omega) (by unfold zR64; omega) ?_
    show ZE (d + 2) M_Ref_isStep (gw G A) 23 [(2, o), (0, (cn : Int)), (0, i)] [(0, b2i (0 ≤ i ∧ i ≤ 2 * (rnd (d1 S cn) : Int)))] _
    refine ZE.if_eq (tgt := 30) d_Ref_isStep_23 rfl (zR_b2i _) (fun c23 => ?_) (fun c23 => ?_)
    · replace c23 := b2i_0.mp c23
      refine ZE.iconst (n := 0) d_Ref_isStep_30 ?_
      refine ZE.zret d_Ref_isStep_31 rfl (by omega) ?_
      have e0 : inC S (cn : Int) = true := decide_eq_true (by omega)
      rw [Int.toNat_natCast] at k
      first
      | (rw [b2i_t ⟨e0, c23⟩] at k; exact k)
      | (rw [b2i_f (fun q => c23 q.2)] at k; exact k)
    · replace c23 := b2i_n0.mp c23
      refine ZE.iconst (n := 1) d_Ref_isStep_26 ?_
      refine ZE.goto (tgt := 31) d_Ref_isStep_27 rfl ?_
      refine ZE.zret d_Ref_isStep_31 rfl (by omega) ?_
      have e0 : inC S (cn : Int) = true := decide_eq_true (by omega)
      rw [Int.toNat_natCast] at k
      first
      | (rw [b2i_t ⟨e0, c23⟩] at k; exact k)
      | (rw [b2i_f (fun q => c23 q.2)] at k; exact k)
set_option maxRecDepth 20000 in
set_option maxHeartbeats 4000000 in
theorem r_step {d : Nat} {G : zG} {A : Int → Int → Int} {P : Option zV → zG → Prop} {o : Int} (hK : RK G o) (hF : RF A o) {S : Nat} (hR : RS S A o) (hS7 : S < 128) (hp5 : pop S ≤ 5) {c : Int} (hc : zR c) {i : Int} (hi : zR i) (k : ∀ A2, quF A A2 o → P (some (0, stV S c i)) (gw G A2)) : ZE (d + 3) M_Ref_step (gw G A) 0 [(2, o), (0, c), (0, i)] [] P := by
  refine ZE.aload_n d_Ref_step_0 rfl ?_
  refine ZE.iload_n d_Ref_step_1 rfl ?_
  refine ZE.iload_n d_Ref_step_2 rfl ?_
  refine ZE.cV [(0, c), (0, i)] [] [(2, o), (0, c), (0, i)] d_Ref_step_3 l_Ref_245 rfl rfl rfl rfl rfl rfl hK.1 ?_
  refine r_isStep hK hF hR hS7 hp5 hc hi ?_
  show ZE (d + 3) M_Ref_step (gw G A) 6 [(2, o), (0, c), (0, i)] [(0, b2i (inC S c = true ∧ 0 ≤ i ∧ i ≤ 2 * (rnd (d1 S c.toNat) : Int)))] _
  refine ZE.if_ne (tgt := 11) d_Ref_step_6 rfl (zR_b2i _) (fun c6 => ?_) (fun c6 => ?_)
  · replace c6 := b2i_n0.mp c6
    obtain ⟨hc0, hi0⟩ := c6
    have hc1 := of_decide_eq_true hc0
    have hcl0 := cls_le hS7 hp5
    obtain ⟨cn, hcn⟩ : ∃ cn : Nat, c = cn := ⟨c.toNat, by omega⟩
    subst hcn
    have hok := d1_ok (S := S) (k := cn) (by omega)
    have hcl := hR.c1 cn (by omega)
    have hux9 : nd 10000 (ux (d1 S cn)) ≤ 81 := (okD_ns hok.1).2.1
    have huy9 : nd 10000 (uy (d1 S cn)) ≤ 81 := (okD_ns hok.1).2.2
    have hnx : num (A (o + 2)) (2 * (cn : Int)) (ux (d1 S cn)) := hcl.2.2.1
    have hny : num (A (o + 2)) (2 * (cn : Int) + 1) (uy (d1 S cn)) := hcl.2.2.2
    have hcf := (okD_cf hok.1).1
    have hRb := hcf.2.2.2.2.2.1
    rw [Int.toNat_natCast] at hi0
    obtain ⟨im, him⟩ : ∃ im : Nat, i = im := ⟨i.toNat, by omega⟩
    subst him
    refine ZE.aload_n d_Ref_step_11 rfl ?_
    refine ZE.iload_n d_Ref_step_12 rfl ?_
    refine ZE.iload_n d_Ref_step_13 rfl ?_
    have hqq := hR.q1 cn (by omega)
    refine ZE.cV [(0, (cn : Int)), (0, (im : Int))] [] [(2, o), (0, (cn : Int)), (0, (im : Int)), (9, 0)] d_Ref_step_14 l_Ref_248 rfl rfl rfl rfl rfl rfl hK.1 ?_
    refine r_goSteps (q := rad ((csF S 1 128).getD cn 0)) (D := d1 S cn) (r := isq (d1 S cn)) (R := rnd (d1 S cn)) (K := 2 * rnd (d1 S cn) + 3) (n := im) hK hF (by omega) hqq (Or.inl ⟨by omega, rfl⟩) hcl.1 hcf (by omega) (by omega) (fun A2 hg2 gg2 => ?_)
    show ZE (d + 3) M_Ref_step (gw G A2) 17 [(2, o), (0, (cn : Int)), (0, (im : Int))] [] _
    refine ZE.aload_n d_Ref_step_17 rfl ?_
    refine ZE.getE (v := ((cf (d1 S cn) (isq (d1 S cn)) im).2.2 : Int)) d_Ref_step_18 f_Ref_125 (tg := 0) rfl hK.1 hg2.2.2 ?_
    refine ZE.iret d_Ref_step_21 rfl ?_
    have k1 := k A2 gg2.qu
    rw [show stV S (cn : Int) (im : Int) = ((cf (d1 S cn) (isq (d1 S cn)) im).2.2 : Int) by unfold stV; rw [if_pos hc0, Int.toNat_natCast, if_pos hi0, Int.toNat_natCast]] at k1
    exact k1
  · replace c6 := b2i_0.mp c6
    refine ZE.iconst (n := (-1)) d_Ref_step_9 ?_
    refine ZE.iret d_Ref_step_10 rfl ?_
    have k1 := k A quF.rf
    rw [show stV S c i = -1 from ?_] at k1
    · exact k1
    · unfold stV
      split
      · next h => rw [if_neg (fun q => c6 ⟨h, q⟩)]
      · rfl
theorem unV_eq {S cn : Nat} {wh i : Int} (e0 : inC S (cn : Int) = true) (h : wh = 0 ∨ wh = 1) {v : Nat} (hv : v = if wh = 0 then ux (d1 S cn) else uy (d1 S cn)) : unV S (cn : Int) wh i = if 0 ≤ i ∧ i < dl v then (dg 10 v i.toNat : Int) else -1 := by
  unfold unV
  rw [e0, if_pos rfl, Int.toNat_natCast, hv]
  rcases h with rfl | rfl
  · rw [if_pos rfl, if_pos rfl]
  · have h10 : ¬ (1 : Int) = 0 := by omega
    rw [if_neg h10, if_pos rfl, if_neg h10]
set_option maxRecDepth 20000 in
set_option maxHeartbeats 4000000 in
theorem r_unit {d : Nat} {G : zG} {A : Int → Int → Int} {P : Option zV → zG → Prop} {o : Int} (hK : RK G o) (hF : RF A o) {S : Nat} (hR : RS S A o) (hS7 : S < 128) (hp5 : pop S ≤ 5) {c : Int} (hc : zR c) {wh i : Int} (hw : zR wh) (hi : zR i) (k : P (some (0, unV S c wh i)) (gw G A)) : ZE (d + 4) M_Ref_unit (gw G A) 0 [(2, o), (0, c), (0, wh), (0, i)] [] P := by
  refine ZE.aload_n d_Ref_unit_0 rfl ?_
  refine ZE.iload_n d_Ref_unit_1 rfl ?_
  have hcl0 := cls_le hS7 hp5
  refine ZE.cV [(0, c)] [] [(2, o), (0, c)] d_Ref_unit_2 l_Ref_242 rfl rfl rfl rfl rfl rfl hK.1 ?_
  refine r_isClass (m := (csF S 1 128).length) hK hF hR.n1 (by omega) hc ?_
  show ZE (d + 4) M_Ref_unit (gw G A) 5 [(2, o), (0, c), (0, wh), (0, i)] [(0, b2i (0 ≤ c ∧ c < ((csF S 1 128).length : Int)))] _
  refine ZE.if_eq (tgt := 31) d_Ref_unit_5 rfl (zR_b2i _) (fun c5 => ?_) (fun c5 => ?_)
  · replace c5 := b2i_0.mp c5
    refine ZE.iconst (n := (-1)) d_Ref_unit_31 ?_
    refine ZE.iret d_Ref_unit_32 rfl ?_
    have e0 : inC S c = false := decide_eq_false c5
    rw [show unV S c wh i = -1 by unfold unV; rw [e0]; rfl] at k
    exact k
  · replace c5 := b2i_n0.mp c5
    obtain ⟨cn, hcn⟩ : ∃ cn : Nat, c = cn := ⟨c.toNat, by omega⟩
    subst hcn
    have hok := d1_ok (S := S) (k := cn) (by omega)
    have hcl := hR.c1 cn (by omega)
    have hux9 : nd 10000 (ux (d1 S cn)) ≤ 81 := (okD_ns hok.1).2.1
    have huy9 : nd 10000 (uy (d1 S cn)) ≤ 81 := (okD_ns hok.1).2.2
    have hnx : num (A (o + 2)) (2 * (cn : Int)) (ux (d1 S cn)) := hcl.2.2.1
    have hny : num (A (o + 2)) (2 * (cn : Int) + 1) (uy (d1 S cn)) := hcl.2.2.2
    have hcf := (okD_cf hok.1).1
    have hRb := hcf.2.2.2.2.2.1
    refine ZE.iload_n d_Ref_unit_8 rfl ?_
    refine ZE.i2l d_Ref_unit_9 hw ?_
    refine ZE.lconst d_Ref_unit_10 ?_
    show ZE (d + 4) M_Ref_unit (gw G A) 11 [(2, o), (0, (cn : Int)), (0, wh), (0, i)] [(1, 0), (1, wh)] _
    refine ZE.lconst d_Ref_unit_11 ?_
    show ZE (d + 4) M_Ref_unit (gw G A) 12 [(2, o), (0, (cn : Int)), (0, wh), (0, i)] [(1, 1), (1, 0), (1, wh)] _
    refine ZE.cS [(1, wh), (1, 0), (1, 1)] [] [(1, wh), (9, 0), (1, 0), (9, 0), (1, 1), (9, 0)] d_Ref_unit_12 l_Ref_111 rfl rfl rfl rfl rfl rfl ?_
    refine r_isIn (by unfold zR at hw; unfold zR64; omega) (by unfold zR64; omega) (by unfold zR64; omega) ?_
    show ZE (d + 4) M_Ref_unit (gw G A) 15 [(2, o), (0, (cn : Int)), (0, wh), (0, i)] [(0, b2i (0 ≤ wh ∧ wh ≤ 1))] _
    refine ZE.if_eq (tgt := 31) d_Ref_unit_15 rfl (zR_b2i _) (fun c15 => ?_) (fun c15 => ?_)
    · replace c15 := b2i_0.mp c15
      refine ZE.iconst (n := (-1)) d_Ref_unit_31 ?_
      refine ZE.iret d_Ref_unit_32 rfl ?_
      have e0 : inC S (cn : Int) = true := decide_eq_true (by omega)
      rw [show unV S (cn : Int) wh i = -1 by unfold unV; rw [e0, if_pos rfl, if_neg (by omega), if_neg (by omega)]] at k
      exact k
    · replace c15 := b2i_n0.mp c15
      refine ZE.aload_n d_Ref_unit_18 rfl ?_
      refine ZE.iconst (n := 2) d_Ref_unit_19 ?_
      refine ZE.iload_n d_Ref_unit_20 rfl ?_
      refine ZE.imul d_Ref_unit_21 ?_
      refine ZE.iload_n d_Ref_unit_22 rfl ?_
      refine ZE.iadd d_Ref_unit_23 ?_
      refine ZE.iload_n d_Ref_unit_24 rfl ?_
      obtain ⟨v, hv⟩ : ∃ v : Nat, v = if wh = 0 then ux (d1 S cn) else uy (d1 S cn) := ⟨_, rfl⟩
      have hnv : num (A (o + 2)) (2 * (cn : Int) + wh) v := by
        rcases (show wh = 0 ∨ wh = 1 by omega) with e | e
        · rw [hv, if_pos e, e, Int.add_zero]; exact hnx
        · rw [hv, if_neg (by omega), e]; exact hny
      have h9v : nd 10000 v ≤ 129 := by rw [hv]; split <;> omega
      refine ZE.cV [(0, (2 * (cn : Int)) + wh), (0, i)] [] [(2, o), (0, (2 * (cn : Int)) + wh), (0, i)] d_Ref_unit_25 l_Ref_251 rfl rfl rfl rfl rfl rfl hK.1 ?_
      refine r_digitAt (v := v) hK hF (by omega) hnv h9v hi ?_
      show ZE (d + 4) M_Ref_unit (gw G A) 28 [(2, o), (0, (cn : Int)), (0, wh), (0, i)] [(0, if 0 ≤ i ∧ i < dl v then (dg 10 v i.toNat : Int) else -1)] _
      refine ZE.goto (tgt := 32) d_Ref_unit_28 rfl ?_
      refine ZE.iret d_Ref_unit_32 rfl ?_
      have e0 : inC S (cn : Int) = true := decide_eq_true (by omega)
      rw [unV_eq e0 (by omega) hv] at k
      exact k
