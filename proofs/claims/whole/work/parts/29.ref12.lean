def ux (D : Nat) : Nat := unx D (isq D) (rnd D)
def uy (D : Nat) : Nat := uny D (isq D) (rnd D)
def hpG (D : Nat) : Nat := (nsG D (isq D) (rnd D - 1) (0, 1, isq D) (isq D, 1, 1, 0)).1
theorem hpG_eq (D : Nat) : hpG D = hfp D (isq D) (rnd D) := by
  have h := nsG_eq D (isq D) (rnd D - 1) 0
  unfold hpG hfp
  rw [Nat.zero_add] at h
  rw [← h]
  rfl
theorem ux_ge {D m : Nat} (hm : m ≤ 3) (h1 : 1 ≤ hpG D) (h2 : rnd D % 2 = 1 ∨ m ≤ hpG D) : m ≤ ux D := by
  unfold ux unx
  rw [← hpG_eq]
  have h3 : 1 ≤ hpG D * hpG D := Nat.mul_pos h1 h1
  split <;> omega
theorem tab_u : ∀ s, s < 128 → (s ≠ 1 → 1 ≤ hpG (2 * rad s) ∧ (rnd (2 * rad s) % 2 = 1 ∨ 3 ≤ hpG (2 * rad s))) ∧ (s ≠ 0 → 1 ≤ hpG (rad s) ∧ (rnd (rad s) % 2 = 1 ∨ 2 ≤ hpG (rad s))) := by decide +kernel
def d1 (S k : Nat) : Nat := 2 * rad ((csF S 1 128).getD k 0)
def d2 (S k : Nat) : Nat := rad ((csF S 0 128).getD k 0)
theorem d1_ok {S k : Nat} (h : k < (csF S 1 128).length) : okD (d1 S k) = true ∧ 3 ≤ ux (d1 S k) := by
  have h1 := csF_lt S 1 128 k h
  have h2 := tab_u _ h1.1
  exact ⟨(tab_ok _ h1.1).1 h1.2.2, ux_ge (by omega) (h2.1 h1.2.2).1 (h2.1 h1.2.2).2⟩
theorem d2_ok {S k : Nat} (h : k < (csF S 0 128).length) : okD (d2 S k) = true ∧ 2 ≤ ux (d2 S k) := by
  have h1 := csF_lt S 0 128 k h
  have h2 := tab_u _ h1.1
  exact ⟨(tab_ok _ h1.1).2 h1.2.2, ux_ge (by omega) (h2.2 h1.2.2).1 (h2.2 h1.2.2).2⟩
def prF (S : Nat) : Nat → List pT
  | 0 => []
  | c + 1 => fp (gP1 S (ux (d1 S c))) (nn1 (ux (d1 S c))) c (prF S c) (bnd S)
def twF (S : Nat) : Nat → List pT
  | 0 => []
  | c + 1 => fp (gP2 S (ux (d2 S c))) (nn2 (ux (d2 S c))) c (twF S c) (bnd S)
def prs (S : Nat) : List pT := prF S (csF S 1 128).length
def tws (S : Nat) : List pT := twF S (csF S 0 128).length
theorem prF_len {S : Nat} (hS : S < 128) : ∀ c, (prF S c).length ≤ 9 * c := by
  intro c
  induction c with
  | zero => exact Nat.le_refl _
  | succ c ih =>
    have h1 := fp_len (g := gP1 S (ux (d1 S c))) (nn := nn1 (ux (d1 S c))) (c := c) (L := prF S c) (bnd S)
    have h2 := bnd_le S hS
    have e : prF S (c + 1) = fp (gP1 S (ux (d1 S c))) (nn1 (ux (d1 S c))) c (prF S c) (bnd S) := rfl
    rw [e]; omega
theorem twF_len {S : Nat} (hS : S < 128) : ∀ c, (twF S c).length ≤ 9 * c := by
  intro c
  induction c with
  | zero => exact Nat.le_refl _
  | succ c ih =>
    have h1 := fp_len (g := gP2 S (ux (d2 S c))) (nn := nn2 (ux (d2 S c))) (c := c) (L := twF S c) (bnd S)
    have h2 := bnd_le S hS
    have e : twF S (c + 1) = fp (gP2 S (ux (d2 S c))) (nn2 (ux (d2 S c))) c (twF S c) (bnd S) := rfl
    rw [e]; omega
theorem fp_bd {g : Nat → Bool} {nn : Nat → Nat} {c : Nat} {L : List pT} (h : bdL L) (hg : ∀ i, g i = true → nn i < 2147483648) : ∀ b, bdL (fp g nn c L b) := by
  intro b
  induction b with
  | zero => exact h
  | succ b ih =>
    unfold fp
    split
    · next q => exact ih.ins (hg _ q)
    · exact ih
theorem prF_bd {S : Nat} : ∀ c, bdL (prF S c) := by
  intro c
  induction c with
  | zero => intro k hk; exact absurd hk (Nat.not_lt_zero _)
  | succ c ih =>
    refine fp_bd ih (fun i hi => ?_) _
    unfold gP1 at hi
    rw [Bool.and_eq_true, Bool.and_eq_true, decide_eq_true_iff] at hi
    unfold nn1
    omega
theorem twF_bd {S : Nat} : ∀ c, bdL (twF S c) := by
  intro c
  induction c with
  | zero => intro k hk; exact absurd hk (Nat.not_lt_zero _)
  | succ c ih =>
    refine fp_bd ih (fun i hi => ?_) _
    unfold gP2 at hi
    rw [Bool.and_eq_true, Bool.and_eq_true, decide_eq_true_iff] at hi
    unfold nn2
    omega
/-- the reference holds the set S -/
def RS (S : Nat) (A : Int → Int → Int) (o : Int) : Prop := (A o 1 = (S : Int)) ∧ (A o 7 = ((csF S 1 128).length : Int)) ∧ (A o 8 = ((csF S 0 128).length : Int)) ∧ (∀ k : Nat, k < (csF S 1 128).length → A (o + 3) k = (rad ((csF S 1 128).getD k 0) : Int)) ∧ (∀ k : Nat, k < (csF S 0 128).length → A (o + 3) (32 + k) = (rad ((csF S 0 128).getD k 0) : Int)) ∧ (∀ k : Nat, k < (csF S 1 128).length → clD A o k (d1 S k)) ∧ (∀ k : Nat, k < (csF S 0 128).length → clD A o (32 + k) (d2 S k)) ∧ (A o 15 = ((prs S).length : Int)) ∧ (∀ k : Nat, k < (prs S).length → rowT A (o + 7) (o + 8) (o + 9) k ((prs S).getD k pD)) ∧ (A o 19 = ((tws S).length : Int)) ∧ (∀ k : Nat, k < (tws S).length → rowT A (o + 10) (o + 11) (o + 12) k ((tws S).getD k pD)) ∧ (∀ k : Nat, k < (csF S 1 128).length → A (o + 6) k = (ix (gP1 S (ux (d1 S k))) (bnd S) : Int)) ∧ (∀ k : Nat, k < (csF S 0 128).length → A (o + 6) (32 + k) = (ix (gP2 S (ux (d2 S k))) (bnd S) : Int))
theorem RS.s {S : Nat} {A : Int → Int → Int} {o : Int} (h : RS S A o) : A o 1 = (S : Int) := h.1
theorem RS.n1 {S : Nat} {A : Int → Int → Int} {o : Int} (h : RS S A o) : A o 7 = ((csF S 1 128).length : Int) := h.2.1
theorem RS.n2 {S : Nat} {A : Int → Int → Int} {o : Int} (h : RS S A o) : A o 8 = ((csF S 0 128).length : Int) := h.2.2.1
theorem RS.q1 {S : Nat} {A : Int → Int → Int} {o : Int} (h : RS S A o) : ∀ k : Nat, k < (csF S 1 128).length → A (o + 3) k = (rad ((csF S 1 128).getD k 0) : Int) := h.2.2.2.1
theorem RS.q2 {S : Nat} {A : Int → Int → Int} {o : Int} (h : RS S A o) : ∀ k : Nat, k < (csF S 0 128).length → A (o + 3) (32 + k) = (rad ((csF S 0 128).getD k 0) : Int) := h.2.2.2.2.1
theorem RS.c1 {S : Nat} {A : Int → Int → Int} {o : Int} (h : RS S A o) : ∀ k : Nat, k < (csF S 1 128).length → clD A o k (d1 S k) := h.2.2.2.2.2.1
theorem RS.c2 {S : Nat} {A : Int → Int → Int} {o : Int} (h : RS S A o) : ∀ k : Nat, k < (csF S 0 128).length → clD A o (32 + k) (d2 S k) := h.2.2.2.2.2.2.1
theorem RS.np {S : Nat} {A : Int → Int → Int} {o : Int} (h : RS S A o) : A o 15 = ((prs S).length : Int) := h.2.2.2.2.2.2.2.1
theorem RS.p {S : Nat} {A : Int → Int → Int} {o : Int} (h : RS S A o) : ∀ k : Nat, k < (prs S).length → rowT A (o + 7) (o + 8) (o + 9) k ((prs S).getD k pD) := h.2.2.2.2.2.2.2.2.1
theorem RS.nt {S : Nat} {A : Int → Int → Int} {o : Int} (h : RS S A o) : A o 19 = ((tws S).length : Int) := h.2.2.2.2.2.2.2.2.2.1
theorem RS.t {S : Nat} {A : Int → Int → Int} {o : Int} (h : RS S A o) : ∀ k : Nat, k < (tws S).length → rowT A (o + 10) (o + 11) (o + 12) k ((tws S).getD k pD) := h.2.2.2.2.2.2.2.2.2.2.1
theorem RS.i1 {S : Nat} {A : Int → Int → Int} {o : Int} (h : RS S A o) : ∀ k : Nat, k < (csF S 1 128).length → A (o + 6) k = (ix (gP1 S (ux (d1 S k))) (bnd S) : Int) := h.2.2.2.2.2.2.2.2.2.2.2.1
theorem RS.i2 {S : Nat} {A : Int → Int → Int} {o : Int} (h : RS S A o) : ∀ k : Nat, k < (csF S 0 128).length → A (o + 6) (32 + k) = (ix (gP2 S (ux (d2 S k))) (bnd S) : Int) := h.2.2.2.2.2.2.2.2.2.2.2.2
def laF (A A' : Int → Int → Int) (o : Int) : Prop := (∀ b : Int, b ≠ o → ¬ (o + 2 ≤ b ∧ b ≤ o + 12) → A' b = A b) ∧ (∀ i : Int, i ≠ 1 → ¬ (7 ≤ i ∧ i ≤ 11) → i ≠ 15 → i ≠ 19 → A' o i = A o i) ∧ rowF (fun n => n ≤ 130) (A (o + 2)) (A' (o + 2))
theorem laF.rf {A : Int → Int → Int} {o : Int} : laF A A o := ⟨fun _ _ _ => rfl, fun _ _ _ _ _ => rfl, rowF.rf⟩
theorem laF.tr {A B C : Int → Int → Int} {o : Int} (a : laF A B o) (b : laF B C o) : laF A C o := ⟨fun e h1 h2 => (b.1 e h1 h2).trans (a.1 e h1 h2), fun i h1 h2 h3 h4 => (b.2.1 i h1 h2 h3 h4).trans (a.2.1 i h1 h2 h3 h4), a.2.2.tr b.2.2⟩
theorem laF.fd {A B : Int → Int → Int} {o : Int} (a : laF A B o) (i v : Int) (hi : i = 1 ∨ (7 ≤ i ∧ i ≤ 11) ∨ i = 15 ∨ i = 19) : laF A (up2 B o i v) o := ⟨fun e h1 h2 => by rw [up2_A, upA_ne _ _ h1]; exact a.1 e h1 h2, fun j h1 h2 h3 h4 => by rw [up2_ne _ _ (by omega)]; exact a.2.1 j h1 h2 h3 h4, by rw [up2_A, upA_ne _ _ (by omega)]; exact a.2.2⟩
theorem lpF.la {f : Int} {A B : Int → Int → Int} {o : Int} (a : lpF f A B o) (hf : f = 0 ∨ f = 32) : laF A B o := ⟨fun e h1 h2 => a.1 e h1 (by omega) (by omega) (by omega) (by omega), fun i _ h2 _ _ => a.2.1 i (by omega), a.2.2.2.sub (fun n h => by unfold slf at h; show n ≤ 130; omega)⟩
def fnF (A A' : Int → Int → Int) (o : Int) : Prop := (∀ b : Int, b ≠ o → ¬ (o + 6 ≤ b ∧ b ≤ o + 12) → A' b = A b) ∧ (∀ i : Int, i ≠ 15 → i ≠ 19 → A' o i = A o i)
theorem fnF.rf {A : Int → Int → Int} {o : Int} : fnF A A o := ⟨fun _ _ _ => rfl, fun _ _ _ => rfl⟩
theorem fnF.tr {A B C : Int → Int → Int} {o : Int} (a : fnF A B o) (b : fnF B C o) : fnF A C o := ⟨fun e h1 h2 => (b.1 e h1 h2).trans (a.1 e h1 h2), fun i h1 h2 => (b.2 i h1 h2).trans (a.2 i h1 h2)⟩
theorem fnF.la {A B : Int → Int → Int} {o : Int} (a : fnF A B o) : laF A B o := ⟨fun e h1 h2 => a.1 e h1 (by omega), fun i _ _ h3 h4 => a.2 i h3 h4, by rw [a.1 (o + 2) (by omega) (by omega)]; exact rowF.rf⟩
theorem fdF.fn {c f r1 r2 r3 : Int} {A B : Int → Int → Int} {o : Int} (a : fdF c f r1 r2 r3 A B o) (hf : f = 15 ∨ f = 19) (h1 : o + 6 ≤ r1 ∧ r1 ≤ o + 12) (h2 : o + 6 ≤ r2 ∧ r2 ≤ o + 12) (h3 : o + 6 ≤ r3 ∧ r3 ≤ o + 12) : fnF A B o := ⟨fun e q1 q2 => a.1 e q1 (by omega) (by omega) (by omega) (by omega), fun i q1 q2 => a.2.1 i (by omega)⟩
theorem clD.row {A B : Int → Int → Int} {o c : Int} {D : Nat} (h : clD A o c D) (e : ∀ b : Int, o + 2 ≤ b → b ≤ o + 5 → B b = A b) : clD B o c D := by
  unfold clD at h ⊢
  rw [e _ (by omega) (by omega), e _ (by omega) (by omega), e _ (by omega) (by omega)]
  exact h
theorem rowT.row {A B : Int → Int → Int} {r1 r2 r3 k : Int} {t : pT} (h : rowT A r1 r2 r3 k t) (e1 : B r1 = A r1) (e2 : B r2 = A r2) (e3 : B r3 = A r3) : rowT B r1 r2 r3 k t := by
  unfold rowT at h ⊢
  rw [e1, e2, e3]
  exact h
theorem RF.la {A A' : Int → Int → Int} {o : Int} (h : RF A o) (g : laF A A' o) : RF A' o := by
  have e0 : ∀ j : Int, j ≠ 1 → ¬ (7 ≤ j ∧ j ≤ 11) → j ≠ 15 → j ≠ 19 → A' o j = A o j := g.2.1
  have e1 : A' (o + 1) = A (o + 1) := g.1 _ (by omega) (by omega)
  unfold RF
  rw [e1]
  refine ⟨(e0 _ (by omega) (by omega) (by omega) (by omega)).trans h.a0, (e0 _ (by omega) (by omega) (by omega) (by omega)).trans h.a2, (e0 _ (by omega) (by omega) (by omega) (by omega)).trans h.a3, (e0 _ (by omega) (by omega) (by omega) (by omega)).trans h.a4, (e0 _ (by omega) (by omega) (by omega) (by omega)).trans h.a5, (e0 _ (by omega) (by omega) (by omega) (by omega)).trans h.a6, (e0 _ (by omega) (by omega) (by omega) (by omega)).trans h.a12, (e0 _ (by omega) (by omega) (by omega) (by omega)).trans h.a13, (e0 _ (by omega) (by omega) (by omega) (by omega)).trans h.a14, (e0 _ (by omega) (by omega) (by omega) (by omega)).trans h.a16, (e0 _ (by omega) (by omega) (by omega) (by omega)).trans h.a17, (e0 _ (by omega) (by omega) (by omega) (by omega)).trans h.a18, (e0 _ (by omega) (by omega) (by omega) (by omega)).trans h.a22, (e0 _ (by omega) (by omega) (by omega) (by omega)).trans h.a23, (e0 _ (by omega) (by omega) (by omega) (by omega)).trans h.a24, (e0 _ (by omega) (by omega) (by omega) (by omega)).trans h.a25, (e0 _ (by omega) (by omega) (by omega) (by omega)).trans h.a26, (e0 _ (by omega) (by omega) (by omega) (by omega)).trans h.a27, (e0 _ (by omega) (by omega) (by omega) (by omega)).trans h.a30, h.sev⟩
set_option maxRecDepth 20000 in
set_option maxHeartbeats 4000000 in
theorem r_layAll {d : Nat} {G : zG} {A : Int → Int → Int} {P : Option zV → zG → Prop} {o : Int} (hK : RK G o) (hF : RF A o) {S : Nat} (hS7 : S < 128) (hp : pop S ≤ 5) (k : ∀ A2, RS S A2 o → laF A A2 o → P none (gw G A2)) : ZE (d + 7) M_Ref_layAll (gw G A) 0 [(2, o), (0, (S : Int)), (9, 0)] [] P := by
  have hl1 := csF_len S 1 128
  have hl2 := csF_len S 0 128
  have hct := cnt_tab S hS7 hp
  refine ZE.aload_n d_Ref_layAll_0 rfl ?_
  refine ZE.iload_n d_Ref_layAll_1 rfl ?_
  refine ZE.put d_Ref_layAll_2 f_Ref_81 (tg := 0) rfl trivial (Or.inl ⟨_, _, _, rfl, rfl, rfl⟩) hK.1 ?_
  show ZE (d + 7) M_Ref_layAll (gw G (up2 A o 1 (S : Int))) 5 [(2, o), (0, (S : Int)), (9, 0)] [] _
  refine ZE.aload_n d_Ref_layAll_5 rfl ?_
  refine ZE.aload_n d_Ref_layAll_6 rfl ?_
  refine ZE.iconst (n := 0) d_Ref_layAll_7 ?_
  refine ZE.iconst (n := 1) d_Ref_layAll_8 ?_
  refine ZE.cV [(0, 0), (0, 1)] [(2, o)] [(2, o), (0, 0), (0, 1), (9, 0), (9, 0), (9, 0), (9, 0)] d_Ref_layAll_9 l_Ref_192 rfl rfl rfl rfl rfl rfl hK.1 ?_
  refine r_layProducts (S := S) (f := 0) (bt := 1) hK (RF.fld 1 hF (by omega)) (up2_at _ _ _ _) hS7 hp (Or.inl ⟨rfl, rfl⟩) (fun A2 hq2 hd2 g2 => ?_)
  show ZE (d + 7) M_Ref_layAll (gw G A2) 12 [(2, o), (0, (S : Int)), (9, 0)] [(0, ((csF S 1 128).length : Int)), (2, o)] _
  have hA2 : RF A2 o := (RF.fld 1 hF (by omega)).lp g2
  refine ZE.put d_Ref_layAll_12 f_Ref_195 (tg := 0) rfl trivial (Or.inl ⟨_, _, _, rfl, rfl, rfl⟩) hK.1 ?_
  show ZE (d + 7) M_Ref_layAll (gw G (up2 A2 o 7 ((csF S 1 128).length : Int))) 15 [(2, o), (0, (S : Int)), (9, 0)] [] _
  refine ZE.aload_n d_Ref_layAll_15 rfl ?_
  refine ZE.aload_n d_Ref_layAll_16 rfl ?_
  refine ZE.bipush (n := 32) d_Ref_layAll_17 rfl ?_
  refine ZE.iconst (n := 0) d_Ref_layAll_19 ?_
  refine ZE.cV [(0, 32), (0, 0)] [(2, o)] [(2, o), (0, 32), (0, 0), (9, 0), (9, 0), (9, 0), (9, 0)] d_Ref_layAll_20 l_Ref_192 rfl rfl rfl rfl rfl rfl hK.1 ?_
  refine r_layProducts (S := S) (f := 32) (bt := 0) hK (RF.fld 7 hA2 (by omega)) (by rw [up2_ne _ _ (by omega), g2.2.1 _ (by omega)]; exact up2_at _ _ _ _) hS7 hp (Or.inr ⟨rfl, rfl⟩) (fun A3 hq3 hd3 g3 => ?_)
  show ZE (d + 7) M_Ref_layAll (gw G A3) 23 [(2, o), (0, (S : Int)), (9, 0)] [(0, ((csF S 0 128).length : Int)), (2, o)] _
  have hA3 : RF A3 o := (RF.fld 7 hA2 (by omega)).lp g3
  refine ZE.put d_Ref_layAll_23 f_Ref_198 (tg := 0) rfl trivial (Or.inl ⟨_, _, _, rfl, rfl, rfl⟩) hK.1 ?_
  show ZE (d + 7) M_Ref_layAll (gw G (up2 A3 o 8 ((csF S 0 128).length : Int))) 26 [(2, o), (0, (S : Int)), (9, 0)] [] _
  refine ZE.aload_n d_Ref_layAll_26 rfl ?_
  refine ZE.iconst (n := 0) d_Ref_layAll_27 ?_
  refine ZE.put d_Ref_layAll_28 f_Ref_167 (tg := 0) rfl trivial (Or.inl ⟨_, _, _, rfl, rfl, rfl⟩) hK.1 ?_
  show ZE (d + 7) M_Ref_layAll (gw G (up2 (up2 A3 o 8 ((csF S 0 128).length : Int)) o 15 0)) 31 [(2, o), (0, (S : Int)), (9, 0)] [] _
  refine ZE.aload_n d_Ref_layAll_31 rfl ?_
  refine ZE.iconst (n := 0) d_Ref_layAll_32 ?_
  refine ZE.put d_Ref_layAll_33 f_Ref_170 (tg := 0) rfl trivial (Or.inl ⟨_, _, _, rfl, rfl, rfl⟩) hK.1 ?_
  show ZE (d + 7) M_Ref_layAll (gw G (up2 (up2 (up2 A3 o 8 ((csF S 0 128).length : Int)) o 15 0) o 19 0)) 36 [(2, o), (0, (S : Int)), (9, 0)] [] _
  refine ZE.iconst (n := 0) d_Ref_layAll_36 ?_
  refine ZE.istore_n (ls2 := [(2, o), (0, (S : Int)), (0, 0)]) d_Ref_layAll_37 (Nat.le_of_ble_eq_true rfl) rfl ?_
  obtain ⟨B, hB⟩ : ∃ B, B = up2 (up2 (up2 A3 o 8 ((csF S 0 128).length : Int)) o 15 0) o 19 0 := ⟨_, rfl⟩
  rw [← hB]
  have hBr : ∀ b : Int, b ≠ o → B b = A3 b := by intro b hb; rw [hB, up2_A, upA_ne _ _ hb, up2_A, upA_ne _ _ hb, up2_A, upA_ne _ _ hb]
  have hBo : ∀ i : Int, i ≠ 8 → i ≠ 15 → i ≠ 19 → B o i = A3 o i := by intro i h1 h2 h3; rw [hB, up2_ne _ _ (by omega), up2_ne _ _ (by omega), up2_ne _ _ (by omega)]
  have hB19 : B o 19 = 0 := by rw [hB]; exact up2_at _ _ _ _
  have hB15 : B o 15 = 0 := by rw [hB, up2_ne _ _ (by omega)]; exact up2_at _ _ _ _
  have hB8 : B o 8 = ((csF S 0 128).length : Int) := by rw [hB, up2_ne _ _ (by omega), up2_ne _ _ (by omega)]; exact up2_at _ _ _ _
  have hB7 : B o 7 = ((csF S 1 128).length : Int) := by rw [hBo _ (by omega) (by omega) (by omega), g3.2.1 _ (by omega)]; exact up2_at _ _ _ _
  have hBS : B o 1 = (S : Int) := by rw [hBo _ (by omega) (by omega) (by omega), g3.2.1 _ (by omega), up2_ne _ _ (by omega), g2.2.1 _ (by omega)]; exact up2_at _ _ _ _
  have gB : laF A B o := by rw [hB]; exact (((((((laF.rf.fd 1 (S : Int) (by omega)).tr (g2.la (by omega))).fd 7 _ (by omega)).tr (g3.la (by omega))).fd 8 _ (by omega)).fd 15 _ (by omega)).fd 19 _ (by omega))
  have hFB : RF B o := hF.la gB
  have hBc1 : ∀ k : Nat, k < (csF S 1 128).length → clD B o k (d1 S k) := by
    intro k2 hk2
    have h1 := hd2 k2 hk2
    rw [show (0 : Int) + (k2 : Int) = (k2 : Int) by omega, show dq 0 (rad ((csF S 1 128).getD k2 0)) = d1 S k2 from if_pos (by omega)] at h1
    have h2 := (h1.row (B := up2 A2 o 7 ((csF S 1 128).length : Int)) (fun b h1 h2 => by rw [up2_A, upA_ne _ _ (by omega)])).lp g3 (by omega) (by omega) (d1_ok hk2).1
    exact h2.row (fun b h1 h2 => hBr b (by omega))
  have hBc2 : ∀ k : Nat, k < (csF S 0 128).length → clD B o (32 + k) (d2 S k) := by
    intro k2 hk2
    have h1 := hd3 k2 hk2
    rw [show dq 32 (rad ((csF S 0 128).getD k2 0)) = d2 S k2 from if_neg (by omega)] at h1
    exact h1.row (fun b h1 h2 => hBr b (by omega))
  have hBq1 : ∀ k : Nat, k < (csF S 1 128).length → B (o + 3) k = (rad ((csF S 1 128).getD k 0) : Int) := by
    intro k2 hk2
    have h1 := hq2 k2 hk2
    rw [show (0 : Int) + (k2 : Int) = (k2 : Int) by omega] at h1
    rw [hBr _ (by omega), (g3.2.2.1 _ (by omega)).1, up2_ne _ _ (by omega)]
    exact h1
  have hBq2 : ∀ k : Nat, k < (csF S 0 128).length → B (o + 3) (32 + k) = (rad ((csF S 0 128).getD k 0) : Int) := by
    intro k2 hk2
    rw [hBr _ (by omega)]
    exact hq3 k2 hk2
  have L38 : ∀ (t : Nat) (j : Nat) (A5 : Int → Int → Int) (hj : j ≤ (csF S 1 128).length) (hr5 : ∀ k : Nat, k < (prF S j).length → rowT A5 (o + 7) (o + 8) (o + 9) k ((prF S j).getD k pD)) (h15 : A5 o 15 = ((prF S j).length : Int)) (h19 : A5 o 19 = 0) (hi5 : ∀ k : Nat, k < j → A5 (o + 6) k = (ix (gP1 S (ux (d1 S k))) (bnd S) : Int)) (g5 : fnF B A5 o) (hb5 : bdL (prF S j)), (csF S 1 128).length - j < t → ZE (d + 7) M_Ref_layAll (gw G A5) 38 [(2, o), (0, (S : Int)), (0, (j : Int))] [] P := by
    intro t
    induction t with
    | zero => intro j A5 hj hr5 h15 h19 hi5 g5 hb5 hm; exact absurd hm (Nat.not_lt_zero _)
    | succ t ih =>
      intro j A5 hj hr5 h15 h19 hi5 g5 hb5 hm
      have hA5 : RF A5 o := hFB.la g5.la
      have hx5 : A5 o 1 = (S : Int) := by rw [g5.2 _ (by omega) (by omega)]; exact hBS
      refine ZE.iload_n d_Ref_layAll_38 rfl ?_
      refine ZE.aload_n d_Ref_layAll_39 rfl ?_
      refine ZE.getE (v := ((csF S 1 128).length : Int)) d_Ref_layAll_40 f_Ref_195 (tg := 0) rfl hK.1 ((g5.2 _ (by omega) (by omega)).trans hB7) ?_
      refine ZE.icmp_ge (tgt := 57) d_Ref_layAll_43 rfl (by unfold zR; omega) (by unfold zR; omega) (fun c43 => ?_) (fun c43 => ?_)
      · have e1 : j = (csF S 1 128).length := by omega
        rw [e1] at hr5 h15 hi5
        refine ZE.bipush (n := 32) d_Ref_layAll_57 rfl ?_
        refine ZE.istore_n (ls2 := [(2, o), (0, (S : Int)), (0, 32)]) d_Ref_layAll_59 (Nat.le_of_ble_eq_true rfl) rfl ?_
        have L60 : ∀ (t : Nat) (j : Nat) (A7 : Int → Int → Int) (hj : j ≤ (csF S 0 128).length) (hw7 : ∀ k : Nat, k < (twF S j).length → rowT A7 (o + 10) (o + 11) (o + 12) k ((twF S j).getD k pD)) (h19b : A7 o 19 = ((twF S j).length : Int)) (h15b : A7 o 15 = ((prs S).length : Int)) (hr7 : ∀ k : Nat, k < (prs S).length → rowT A7 (o + 7) (o + 8) (o + 9) k ((prs S).getD k pD)) (hi7 : ∀ k : Nat, k < (csF S 1 128).length → A7 (o + 6) k = (ix (gP1 S (ux (d1 S k))) (bnd S) : Int)) (ht7 : ∀ k : Nat, k < j → A7 (o + 6) (32 + k) = (ix (gP2 S (ux (d2 S k))) (bnd S) : Int)) (g7 : fnF B A7 o) (hb7 : bdL (twF S j)), (csF S 0 128).length - j < t → ZE (d + 7) M_Ref_layAll (gw G A7) 60 [(2, o), (0, (S : Int)), (0, 32 + (j : Int))] [] P := by
          intro t
          induction t with
          | zero => intro j A7 hj hw7 h19b h15b hr7 hi7 ht7 g7 hb7 hm; exact absurd hm (Nat.not_lt_zero _)
          | succ t ih =>
            intro j A7 hj hw7 h19b h15b hr7 hi7 ht7 g7 hb7 hm
            have hA7 : RF A7 o := hFB.la g7.la
            have hx7 : A7 o 1 = (S : Int) := by rw [g7.2 _ (by omega) (by omega)]; exact hBS
            refine ZE.iload_n d_Ref_layAll_60 rfl ?_
            refine ZE.bipush (n := 32) d_Ref_layAll_61 rfl ?_
            refine ZE.aload_n d_Ref_layAll_63 rfl ?_
            refine ZE.getE (v := ((csF S 0 128).length : Int)) d_Ref_layAll_64 f_Ref_198 (tg := 0) rfl hK.1 ((g7.2 _ (by omega) (by omega)).trans hB8) ?_
            refine ZE.iadd d_Ref_layAll_67 ?_
            refine ZE.icmp_ge (tgt := 82) d_Ref_layAll_68 rfl (by unfold zR; omega) (by unfold zR; omega) (fun c68 => ?_) (fun c68 => ?_)
            · have e1 : j = (csF S 0 128).length := by omega
              rw [e1] at hw7 h19b ht7
              refine ZE.vret d_Ref_layAll_82 rfl ?_
              exact k A7 ⟨hx7, (g7.2 _ (by omega) (by omega)).trans hB7, (g7.2 _ (by omega) (by omega)).trans hB8, fun k2 hk2 => by rw [g7.1 _ (by omega) (by omega)]; exact hBq1 k2 hk2, fun k2 hk2 => by rw [g7.1 _ (by omega) (by omega)]; exact hBq2 k2 hk2, fun k2 hk2 => (hBc1 k2 hk2).row (fun b h1 h2 => g7.1 _ (by omega) (by omega)), fun k2 hk2 => (hBc2 k2 hk2).row (fun b h1 h2 => g7.1 _ (by omega) (by omega)), h15b, hr7, h19b, hw7, hi7, ht7⟩ (gB.tr g7.la)
            · refine ZE.aload_n d_Ref_layAll_71 rfl ?_
              refine ZE.iload_n d_Ref_layAll_72 rfl ?_
              have hok := d2_ok (S := S) (k := j) (by omega)
              have hcl := (hBc2 j (by omega)).2.2.1
              have hpl := twF_len hS7 j
              refine ZE.cV [(0, 32 + (j : Int))] [] [(2, o), (0, 32 + (j : Int)), (9, 0), (9, 0), (9, 0), (9, 0), (9, 0), (9, 0), (9, 0), (9, 0), (9, 0), (9, 0), (9, 0)] d_Ref_layAll_73 l_Ref_201 rfl rfl rfl rfl rfl rfl hK.1 ?_
              refine r_find2 (S := S) (c := 32 + (j : Int)) (cn := j) (u := ux (d2 S j)) (L := twF S j) hK hA7 hx7 hS7 (by omega) hok.2 (by rw [g7.1 _ (by omega) (by omega)]; exact hcl) (by have h9 := (okD_ns hok.1).2.1; unfold ux; omega) h19b (by omega) hw7 hb7 (fun A8 f1 f2 f3 f4 f5 f6 => ?_)
              show ZE (d + 7) M_Ref_layAll (gw G A8) 76 [(2, o), (0, (S : Int)), (0, 32 + (j : Int))] [] _
              refine ZE.iinc (ls2 := [(2, o), (0, (S : Int)), (0, (32 + (j : Int)) + 1)]) d_Ref_layAll_76 rfl rfl ?_
              refine ZE.goto (tgt := 60) d_Ref_layAll_79 rfl ?_
              rw [show 32 + (j : Int) + 1 = 32 + ((j + 1 : Nat) : Int) by omega]
              refine ih (j + 1) A8 (by omega) f2 f3 ?_ ?_ ?_ ?_ (g7.tr (f5.fn (by omega) (by omega) (by omega) (by omega))) f6 (by omega)
              · rw [f5.2.1 _ (by omega)]; exact h15b
              · intro k2 hk2; exact (hr7 k2 hk2).row (f5.1 _ (by omega) (by omega) (by omega) (by omega) (by omega)) (f5.1 _ (by omega) (by omega) (by omega) (by omega) (by omega)) (f5.1 _ (by omega) (by omega) (by omega) (by omega) (by omega))
              · intro k2 hk2; rw [f5.2.2 _ (by omega)]; exact hi7 k2 hk2
              · intro k2 hk2
                by_cases q : k2 = j
                · subst q; exact f4
                · rw [f5.2.2 _ (by omega)]; exact ht7 k2 (by omega)
        exact L60 _ 0 A5 (by omega) (fun k h => absurd h (Nat.not_lt_zero _)) h19 h15 hr5 hi5 (fun k h => absurd h (Nat.not_lt_zero _)) g5 (twF_bd 0) (Nat.lt_succ_self _)
      · refine ZE.aload_n d_Ref_layAll_46 rfl ?_
        refine ZE.iload_n d_Ref_layAll_47 rfl ?_
        have hok := d1_ok (S := S) (k := j) (by omega)
        have hcl := (hBc1 j (by omega)).2.2.1
        have hpl := prF_len hS7 j
        refine ZE.cV [(0, (j : Int))] [] [(2, o), (0, (j : Int)), (9, 0), (9, 0), (9, 0), (9, 0), (9, 0), (9, 0), (9, 0), (9, 0), (9, 0), (9, 0), (9, 0)] d_Ref_layAll_48 l_Ref_201 rfl rfl rfl rfl rfl rfl hK.1 ?_
        refine r_find1 (S := S) (cn := j) (u := ux (d1 S j)) (L := prF S j) hK hA5 hx5 hS7 (by omega) hok.2 (by rw [g5.1 _ (by omega) (by omega)]; exact hcl) (by have h9 := (okD_ns hok.1).2.1; unfold ux; omega) h15 (by omega) hr5 hb5 (fun A6 f1 f2 f3 f4 f5 f6 => ?_)
        show ZE (d + 7) M_Ref_layAll (gw G A6) 51 [(2, o), (0, (S : Int)), (0, (j : Int))] [] _
        refine ZE.iinc (ls2 := [(2, o), (0, (S : Int)), (0, (j : Int) + 1)]) d_Ref_layAll_51 rfl rfl ?_
        refine ZE.goto (tgt := 38) d_Ref_layAll_54 rfl ?_
        rw [show (j : Int) + 1 = ((j + 1 : Nat) : Int) by omega]
        refine ih (j + 1) A6 (by omega) f2 f3 ?_ ?_ (g5.tr (f5.fn (by omega) (by omega) (by omega) (by omega))) f6 (by omega)
        · rw [f5.2.1 _ (by omega)]; exact h19
        · intro k2 hk2
          by_cases q : k2 = j
          · subst q; exact f4
          · rw [f5.2.2 _ (by omega)]; exact hi5 k2 (by omega)
  exact L38 _ 0 B (by omega) (fun k h => absurd h (Nat.not_lt_zero _)) hB15 hB19 (fun k h => absurd h (Nat.not_lt_zero _)) fnF.rf (prF_bd 0) (Nat.lt_succ_self _)
