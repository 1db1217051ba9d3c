def wK (G : zG) (p : Int) : Prop := gk G p = 14 ∧ 0 ≤ p ∧ bK G (p + 1) 32 ∧ bK G (p + 3) 32 ∧ bK G (p + 5) 32 ∧ bK G (p + 7) 32 ∧ bK G (p + 9) 32 ∧ (gk G (p + 11) = 1 ∧ gn G (p + 11) = 7) ∧ (gk G (p + 12) = 1 ∧ gn G (p + 12) = 7)
def wO (A : Int → Int → Int) (p : Int) (ap : Nat) : Prop := A p 0 = p + 1 ∧ A p 1 = p + 3 ∧ A p 2 = p + 5 ∧ A p 3 = p + 7 ∧ A p 4 = p + 9 ∧ A p 5 = p + 11 ∧ A p 6 = p + 12 ∧ A p 7 = (ap : Int) ∧ A (p + 1) 0 = p + 1 + 1 ∧ A (p + 3) 0 = p + 3 + 1 ∧ A (p + 5) 0 = p + 5 + 1 ∧ A (p + 7) 0 = p + 7 + 1 ∧ A (p + 9) 0 = p + 9 + 1
theorem wO.bg {A B : Int → Int → Int} {p b : Int} {ap v : Nat} (h : wO A p ap) (g : bF A B b) (hb : b = p + 1 ∨ b = p + 3 ∨ b = p + 5 ∨ b = p + 7 ∨ b = p + 9) (hn : bN B b v) : wO B p ap := by
  obtain ⟨h0, h1, h2, h3, h4, h5, h6, h7, k1, k3, k5, k7, k9⟩ := h
  have e0 : B p = A p := g p (by omega) (by omega)
  have hx : ∀ c : Int, (c = p + 1 ∨ c = p + 3 ∨ c = p + 5 ∨ c = p + 7 ∨ c = p + 9) → A c 0 = c + 1 → B c 0 = c + 1 := fun c hc hA => by
    by_cases q : c = b
    · subst q; exact hn.1
    · rw [g c q (by omega)]; exact hA
  unfold wO
  rw [e0]
  exact ⟨h0, h1, h2, h3, h4, h5, h6, h7, hx _ (by omega) k1, hx _ (by omega) k3, hx _ (by omega) k5, hx _ (by omega) k7, hx _ (by omega) k9⟩
theorem wO.ab {A B : Int → Int → Int} {p : Int} {ap : Nat} (h : wO A p ap) (e : ∀ a : Int, p ≤ a → a ≤ p + 9 → B a = A a) : wO B p ap := by
  have e0 := e p (by omega) (by omega)
  have e1 := e (p + 1) (by omega) (by omega)
  have e3 := e (p + 3) (by omega) (by omega)
  have e5 := e (p + 5) (by omega) (by omega)
  have e7 := e (p + 7) (by omega) (by omega)
  have e9 := e (p + 9) (by omega) (by omega)
  unfold wO
  rw [e0, e1, e3, e5, e7, e9]
  exact h
theorem strp_pos' {q n : Nat} (hn : 0 < n) (hq : 2 ≤ q) : 0 < strp q n ∧ strp q n ≤ n := by
  exact strp_pos hq hn
theorem vp_mulq {p q : Nat} (hp : 2 ≤ p) (hq : 0 < q) (hc : Nat.Coprime p q) : ∀ m : Nat, 0 < m → vp p (q * m) = vp p m := by
  intro m
  induction m using Nat.strongRecOn with
  | ind m ih =>
    intro hm
    have hqm : 0 < q * m := Nat.mul_pos hq hm
    by_cases h : m % p = 0
    · obtain ⟨c, hc2⟩ := Nat.dvd_of_mod_eq_zero h
      subst hc2
      have hc0 : 0 < c := Nat.pos_of_ne_zero (fun z => by subst z; omega)
      have h1 : q * (p * c) % p = 0 := by rw [Nat.mul_left_comm]; exact Nat.mul_mod_right _ _
      have h2 : q * (p * c) / p = q * c := by rw [Nat.mul_left_comm]; exact Nat.mul_div_cancel_left _ (by omega)
      have h3 : p * c / p = c := Nat.mul_div_cancel_left _ (by omega)
      have h4 : c < p * c := by have := Nat.mul_le_mul_right c hp; omega
      rw [(vp_step hp hqm h1).1, (vp_step hp hm h).1, h2, h3, ih c h4 hc0]
    · have h1 : ¬ q * m % p = 0 := fun z => h (Nat.mod_eq_zero_of_dvd (hc.dvd_of_dvd_mul_left (Nat.dvd_of_mod_eq_zero z)))
      rw [vp_end h1, vp_end h]
theorem vp_powq {p q : Nat} (hp : 2 ≤ p) (hq : 0 < q) (hc : Nat.Coprime p q) {m : Nat} (hm : 0 < m) : ∀ e, vp p (q ^ e * m) = vp p m := by
  intro e
  induction e with
  | zero => rw [Nat.pow_zero, Nat.one_mul]
  | succ e ih => rw [Nat.pow_succ, Nat.mul_comm (q ^ e) q, Nat.mul_assoc, vp_mulq hp hq hc _ (Nat.mul_pos (Nat.pow_pos hq) hm), ih]
theorem strp_mul {q : Nat} (hq : 2 ≤ q) : ∀ n : Nat, 0 < n → q ^ vp q n * strp q n = n := by
  intro n
  induction n using Nat.strongRecOn with
  | ind n ih =>
    intro hn
    by_cases h : n % q = 0
    · have h1 := vp_step hq hn h
      rw [strp_step hq hn h, h1.1, Nat.pow_succ, Nat.mul_comm (q ^ _) q, Nat.mul_assoc, ih (n / q) h1.2.2 h1.2.1]
      exact Nat.mul_div_cancel' (Nat.dvd_of_mod_eq_zero h)
    · rw [strp_end h, vp_end h, Nat.pow_zero, Nat.one_mul]
theorem vp_strp {p q : Nat} (hp : 2 ≤ p) (hq : 2 ≤ q) (hc : Nat.Coprime p q) {n : Nat} (hn : 0 < n) : vp p (strp q n) = vp p n := by
  have h1 := vp_powq hp (by omega) hc (strp_pos' hn hq).1 (vp q n)
  rw [strp_mul hq n hn] at h1
  exact h1.symm
theorem sev_cop : ∀ k, k < 7 → ∀ j, j < k → Nat.Coprime (sev k) (sev j) := by decide
theorem t127 : ∀ k, k < 7 → Nat.testBit 127 k = true := by decide
theorem sm127_s {n k : Nat} (hk : k < 7) : smF 127 n (k + 1) = strp (sev k) (smF 127 n k) := by
  show (if Nat.testBit 127 k then strp (sev k) (smF 127 n k) else smF 127 n k) = _
  rw [if_pos (t127 k hk)]
theorem sm127_pos {n : Nat} (hn : 0 < n) : ∀ k, k ≤ 7 → 0 < smF 127 n k ∧ smF 127 n k ≤ n := by
  intro k
  induction k with
  | zero => intro _; exact ⟨hn, Nat.le_refl _⟩
  | succ k ih =>
    intro hk
    have h1 := ih (by omega)
    have h2 := strp_pos' h1.1 (sev_2 k (by omega)).1
    rw [sm127_s (by omega)]
    omega
theorem vp_sm127 {n : Nat} (hn : 0 < n) {k : Nat} (hk : k < 7) : ∀ j, j ≤ k → vp (sev k) (smF 127 n j) = vp (sev k) n := by
  intro j
  induction j with
  | zero => intro _; rfl
  | succ j ih =>
    intro hj
    rw [sm127_s (by omega), vp_strp (sev_2 k hk).1 (sev_2 j (by omega)).1 (sev_cop k hk j (by omega)) (sm127_pos hn j (by omega)).1, ih (by omega)]
theorem nd_mono' {a b : Nat} (h : a ≤ b) : nd 1000000000 a ≤ nd 1000000000 b := nd_le (by omega) (Nat.lt_of_le_of_lt h (nd_self (by omega) b))
set_option maxRecDepth 20000 in
set_option maxHeartbeats 4000000 in
theorem w_begin {d : Nat} {G : zG} {A : Int → Int → Int} {P : Option zV → zG → Prop}  {p : Int} (hK : wK G p) {ap : Nat} (hO : wO A p ap) {u : Int} {cap : Nat} (hku : gk G u = 19) (hu0 : A u 0 = u + 1) (hux : bK G (u + 1) cap) {x1 : Nat} (hx : bN A (u + 1) x1) (h9 : nd 1000000000 x1 ≤ 32) (h92 : nd 1000000000 x1 ≤ cap) (hsep : u + 2 < p ∨ p + 12 < u) (k : ∀ B, rF A B p (p + 12) → wO B p ap → bN B (p + 1) 1 → bN B (p + 3) x1 → P none (gw G B)) : ZE (d + 2) M_Pow_begin (gw G A) 0 [(2, p), (2, u)] [] P := by
  refine ZE.aload_n d_Pow_begin_0 rfl ?_
  refine ZE.getE (v := p + 1) d_Pow_begin_1 f_Pow_14 (tg := 2) rfl hK.1 hO.1 ?_
  refine ZE.iconst (n := 1) d_Pow_begin_4 ?_
  refine ZE.cV [(0, 1)] [] [(2, p + 1), (0, 1)] d_Pow_begin_5 l_Pow_43 rfl rfl rfl rfl rfl rfl hK.2.2.1.1 ?_
  refine B_setTo hK.2.2.1 hO.2.2.2.2.2.2.2.2.1 (v := 1) (by omega) (fun B1 g1 n1 => ?_)
  show ZE (d + 2) M_Pow_begin (gw G B1) 8 [(2, p), (2, u)] [] _
  have hO1 := hO.bg g1 (by omega) n1
  refine ZE.aload_n d_Pow_begin_8 rfl ?_
  refine ZE.getE (v := p + 3) d_Pow_begin_9 f_Pow_18 (tg := 2) rfl hK.1 hO1.2.1 ?_
  refine ZE.aload_n d_Pow_begin_12 rfl ?_
  refine ZE.getE (v := u + 1) d_Pow_begin_13 f_Pow_46 (tg := 2) rfl hku ((congrFun (g1 u (by omega) (by omega)) _).trans hu0) ?_
  refine ZE.cV [(2, u + 1)] [] [(2, p + 3), (2, u + 1), (9, 0)] d_Pow_begin_16 l_Pow_51 rfl rfl rfl rfl rfl rfl hK.2.2.2.1.1 ?_
  refine B_copy hK.2.2.2.1 hO1.2.2.2.2.2.2.2.2.2.1 hux (hx.fr g1 (by omega)) (by omega) (by omega) (by omega) (fun B2 g2 n2 => ?_)
  show ZE (d + 2) M_Pow_begin (gw G B2) 19 [(2, p), (2, u)] [] _
  refine ZE.vret d_Pow_begin_19 rfl ?_
  exact k B2 ((g1.rg (by omega) (by omega)).tr (g2.rg (by omega) (by omega))) (hO1.bg g2 (by omega) n2) (n1.fr g2 (by omega)) n2
set_option maxRecDepth 20000 in
set_option maxHeartbeats 4000000 in
theorem w_advance {d : Nat} {G : zG} {A : Int → Int → Int} {P : Option zV → zG → Prop}  {p : Int} (hK : wK G p) {ap : Nat} (hO : wO A p ap) {u : Int} {cap : Nat} (hku : gk G u = 19) (hu0 : A u 0 = u + 1) (hux : bK G (u + 1) cap) {x1 w1 z1 : Nat} (hx : bN A (u + 1) x1) (hsep : u + 2 < p ∨ p + 12 < u) (hw : bN A (p + 3) w1) (hz : bN A (p + 1) z1) (hzx : z1 ≤ x1 * w1 * 2) (n9 : nd 1000000000 x1 + nd 1000000000 w1 ≤ 32) (n92 : nd 1000000000 x1 ≤ cap) (n93 : nd 1000000000 (x1 * w1 * 2) ≤ 32) (n94 : nd 1000000000 z1 ≤ 32) (k : ∀ B, rF A B p (p + 12) → wO B p ap → bN B (p + 1) w1 → bN B (p + 3) (x1 * w1 * 2 - z1) → P none (gw G B)) : ZE (d + 3) M_Pow_advance (gw G A) 0 [(2, p), (2, u)] [] P := by
  have nxw : nd 1000000000 (x1 * w1) ≤ 32 := Nat.le_trans (nd_mono' (by omega)) n93
  have nxz : nd 1000000000 (x1 * w1 * 2 - z1) ≤ 32 := Nat.le_trans (nd_mono' (by omega)) n93
  refine ZE.aload_n d_Pow_advance_0 rfl ?_
  refine ZE.getE (v := p + 5) d_Pow_advance_1 f_Pow_21 (tg := 2) rfl hK.1 hO.2.2.1 ?_
  refine ZE.aload_n d_Pow_advance_4 rfl ?_
  refine ZE.getE (v := u + 1) d_Pow_advance_5 f_Pow_46 (tg := 2) rfl hku hu0 ?_
  refine ZE.aload_n d_Pow_advance_8 rfl ?_
  refine ZE.getE (v := p + 3) d_Pow_advance_9 f_Pow_18 (tg := 2) rfl hK.1 hO.2.1 ?_
  refine ZE.cV [(2, u + 1), (2, p + 3)] [] [(2, p + 5), (2, u + 1), (2, p + 3), (9, 0), (9, 0), (9, 0), (9, 0), (9, 0), (9, 0), (9, 0), (9, 0)] d_Pow_advance_12 l_Pow_55 rfl rfl rfl rfl rfl rfl hK.2.2.2.2.1.1 ?_
  refine B_setProduct hK.2.2.2.2.1 hO.2.2.2.2.2.2.2.2.2.2.1 hux hx hK.2.2.2.1 hw (by omega) (by omega) (by omega) (by omega) (by omega) (fun B1 g1 n1 => ?_)
  show ZE (d + 3) M_Pow_advance (gw G B1) 15 [(2, p), (2, u)] [] _
  have hO1 := hO.bg g1 (by omega) n1
  have r1 : rF A B1 p (p + 12) := g1.rg (by omega) (by omega)
  have hw2 := hw.fr g1 (by omega)
  have hz2 := hz.fr g1 (by omega)
  refine ZE.aload_n d_Pow_advance_15 rfl ?_
  refine ZE.getE (v := p + 5) d_Pow_advance_16 f_Pow_21 (tg := 2) rfl hK.1 hO1.2.2.1 ?_
  refine ZE.iconst (n := 2) d_Pow_advance_19 ?_
  refine ZE.cV [(0, 2)] [] [(2, p + 5), (0, 2), (9, 0), (9, 0), (9, 0), (9, 0), (9, 0)] d_Pow_advance_20 l_Pow_59 rfl rfl rfl rfl rfl rfl hK.2.2.2.2.1.1 ?_
  refine B_multiply hK.2.2.2.2.1 n1 (f := 2) (by omega) (by omega) (by omega) (by omega) (fun B2 g2 n2 => ?_)
  show ZE (d + 3) M_Pow_advance (gw G B2) 23 [(2, p), (2, u)] [] _
  have hO2 := hO1.bg g2 (by omega) n2
  have r2 : rF A B2 p (p + 12) := r1.tr (g2.rg (by omega) (by omega))
  have hw3 := hw2.fr g2 (by omega)
  have hz3 := hz2.fr g2 (by omega)
  refine ZE.aload_n d_Pow_advance_23 rfl ?_
  refine ZE.getE (v := p + 5) d_Pow_advance_24 f_Pow_21 (tg := 2) rfl hK.1 hO2.2.2.1 ?_
  refine ZE.aload_n d_Pow_advance_27 rfl ?_
  refine ZE.getE (v := p + 1) d_Pow_advance_28 f_Pow_14 (tg := 2) rfl hK.1 hO2.1 ?_
  refine ZE.cV [(2, p + 1)] [] [(2, p + 5), (2, p + 1), (9, 0), (9, 0), (9, 0)] d_Pow_advance_31 l_Pow_62 rfl rfl rfl rfl rfl rfl hK.2.2.2.2.1.1 ?_
  refine B_minus hK.2.2.2.2.1 n2 hK.2.2.1 hz3 hzx (by omega) (by omega) (by omega) (fun B3 g3 n3 => ?_)
  show ZE (d + 3) M_Pow_advance (gw G B3) 34 [(2, p), (2, u)] [] _
  have hO3 := hO2.bg g3 (by omega) n3
  have r3 : rF A B3 p (p + 12) := r2.tr (g3.rg (by omega) (by omega))
  have hw4 := hw3.fr g3 (by omega)
  refine ZE.aload_n d_Pow_advance_34 rfl ?_
  refine ZE.getE (v := p + 1) d_Pow_advance_35 f_Pow_14 (tg := 2) rfl hK.1 hO3.1 ?_
  refine ZE.aload_n d_Pow_advance_38 rfl ?_
  refine ZE.getE (v := p + 3) d_Pow_advance_39 f_Pow_18 (tg := 2) rfl hK.1 hO3.2.1 ?_
  refine ZE.cV [(2, p + 3)] [] [(2, p + 1), (2, p + 3), (9, 0)] d_Pow_advance_42 l_Pow_51 rfl rfl rfl rfl rfl rfl hK.2.2.1.1 ?_
  refine B_copy hK.2.2.1 hO3.2.2.2.2.2.2.2.2.1 hK.2.2.2.1 hw4 (by omega) (by omega) (by omega) (fun B4 g4 n4 => ?_)
  show ZE (d + 3) M_Pow_advance (gw G B4) 45 [(2, p), (2, u)] [] _
  have hO4 := hO3.bg g4 (by omega) n4
  have r4 : rF A B4 p (p + 12) := r3.tr (g4.rg (by omega) (by omega))
  have hn4 := n3.fr g4 (by omega)
  refine ZE.aload_n d_Pow_advance_45 rfl ?_
  refine ZE.getE (v := p + 3) d_Pow_advance_46 f_Pow_18 (tg := 2) rfl hK.1 hO4.2.1 ?_
  refine ZE.aload_n d_Pow_advance_49 rfl ?_
  refine ZE.getE (v := p + 5) d_Pow_advance_50 f_Pow_21 (tg := 2) rfl hK.1 hO4.2.2.1 ?_
  refine ZE.cV [(2, p + 5)] [] [(2, p + 3), (2, p + 5), (9, 0)] d_Pow_advance_53 l_Pow_51 rfl rfl rfl rfl rfl rfl hK.2.2.2.1.1 ?_
  refine B_copy hK.2.2.2.1 hO4.2.2.2.2.2.2.2.2.2.1 hK.2.2.2.2.1 hn4 (by omega) (by omega) (by omega) (fun B5 g5 n5 => ?_)
  show ZE (d + 3) M_Pow_advance (gw G B5) 56 [(2, p), (2, u)] [] _
  have hO5 := hO4.bg g5 (by omega) n5
  have r5 : rF A B5 p (p + 12) := r4.tr (g5.rg (by omega) (by omega))
  refine ZE.vret d_Pow_advance_56 rfl ?_
  exact k B5 r5 hO5 (n4.fr g5 (by omega)) n5
set_option maxRecDepth 20000 in
set_option maxHeartbeats 4000000 in
theorem w_factor {d : Nat} {G : zG} {A : Int → Int → Int} {P : Option zV → zG → Prop}  {p : Int} (hK : wK G p) {ap : Nat} (hO : wO A p ap) (hL : lG G A) {v : Nat} (hn0 : bN A (p + 9) v) (hv0 : 0 < v) (h9 : nd 1000000000 v ≤ 32) (hb : ∀ k, k < 7 → vp (sev k) v ≤ 1000) {r : Int} (hr : (r = p + 11 ∨ r = p + 12) ∧ gk G r = 1 ∧ gn G r = 7) (hgl : gl G < p ∨ p + 12 < gl G) (k : ∀ B, (∀ a : Int, a ≠ p + 9 → a ≠ p + 10 → a ≠ r → B a = A a) → bN B (p + 9) (smF 127 v 7) → (∀ k : Nat, k < 7 → B r k = (vp (sev k) v : Int)) → P (some (0, (mb v : Int))) (gw G B)) : ZE (d + 3) M_Pow_factor (gw G A) 0 [(2, p), (2, r), (9, 0), (9, 0)] [] P := by
  refine ZE.iconst (n := 0) d_Pow_factor_0 ?_
  refine ZE.istore_n (ls2 := [(2, p), (2, r), (0, 0), (9, 0)]) d_Pow_factor_1 (Nat.le_of_ble_eq_true rfl) rfl ?_
  refine ZE.iconst (n := 0) d_Pow_factor_2 ?_
  refine ZE.istore_n (ls2 := [(2, p), (2, r), (0, 0), (0, 0)]) d_Pow_factor_3 (Nat.le_of_ble_eq_true rfl) rfl ?_
  have L4 : ∀ (tt0 : Nat) (j : Nat) (A1 : Int → Int → Int) (hj : j ≤ 7) (gA : ∀ a : Int, a ≠ p + 9 → a ≠ p + 10 → a ≠ r → A1 a = A a) (hn : bN A1 (p + 9) (smF 127 v j)) (r1 : ∀ q : Nat, q < j → A1 r q = (vp (sev q) v : Int)), 7 - j < tt0 → ZE (d + 3) M_Pow_factor (gw G A1) 4 [(2, p), (2, r), (0, (mbF v j : Int)), (0, (j : Int))] [] P := by
    intro tt0
    induction tt0 with
    | zero => intro j A1 hj gA hn r1 hm; exact absurd hm (Nat.not_lt_zero _)
    | succ tt0 ih =>
      intro j A1 hj gA hn r1 hm
      have hmd1 := mbF_lt v j (by omega)
      have hp7 : 2 ^ j ≤ 2 ^ 7 := Nat.pow_le_pow_right (by omega) (by omega)
      refine ZE.iload_n d_Pow_factor_4 rfl ?_
      refine ZE.bipush (n := 7) d_Pow_factor_5 rfl ?_
      refine ZE.icmp_ge (tgt := 52) d_Pow_factor_7 rfl (by unfold zR; omega) (by unfold zR; omega) (fun c7 => ?_) (fun c7 => ?_)
      · refine ZE.iload_n d_Pow_factor_52 rfl ?_
        refine ZE.iret d_Pow_factor_53 rfl ?_
        have hj7 : j = 7 := by omega
        subst hj7
        exact k A1 gA hn r1
      · refine ZE.iload_n d_Pow_factor_10 rfl ?_
        refine ZE.aload_n d_Pow_factor_11 rfl ?_
        refine ZE.alenE (v := 7) d_Pow_factor_12 (by have hk0 := hr.2.1; show 1 ≤ gk G (r) ∧ gk G (r) ≤ 6; omega) hr.2.2 ?_
        refine ZE.icmp_ge (tgt := 52) d_Pow_factor_13 rfl (by unfold zR; omega) (by unfold zR; omega) (fun c13 => ?_) (fun c13 => ?_)
        · exact absurd c13 (by omega)
        · have hbj := hb j (by omega)
          have hs2 := sev_2 j (by omega)
          have hsp := sm127_pos hv0 j (by omega)
          have hsn := nd_mono' hsp.2
          have hvj := vp_sm127 hv0 (k := j) (by omega) j (Nat.le_refl _)
          have hv1 := vp_0 (p := sev j) (n := v) hs2.1 hv0
          have hLA : lG G A1 := ⟨hL.1, hL.2.1, fun q => (congrFun (gA (gl G) (by omega) (by omega) (by omega)) _).trans (hL.2.2 q)⟩
          refine ZE.aload_n d_Pow_factor_16 rfl ?_
          refine ZE.iload_n d_Pow_factor_17 rfl ?_
          refine ZE.aload_n d_Pow_factor_18 rfl ?_
          refine ZE.getE (v := p + 9) d_Pow_factor_19 f_Pow_27 (tg := 2) rfl hK.1 ((congrFun (gA p (by omega) (by omega) (by omega)) _).trans hO.2.2.2.2.1) ?_
          refine ZE.iload_n d_Pow_factor_22 rfl ?_
          refine ZE.cS [(0, (j : Int))] [(2, p + 9), (0, (j : Int)), (2, r)] [(0, (j : Int))] d_Pow_factor_23 l_Pow_94 rfl rfl rfl rfl rfl rfl ?_
          refine p_at (j := j) (by omega) hLA ?_
          show ZE (d + 3) M_Pow_factor (gw G A1) 26 [(2, p), (2, r), (0, (mbF v j : Int)), (0, (j : Int))] [(0, zPf j), (2, p + 9), (0, (j : Int)), (2, r)] _
          rw [zPf_sev j (by omega)]
          refine ZE.cV [(0, (sev j : Int))] [(0, (j : Int)), (2, r)] [(2, p + 9), (0, (sev j : Int)), (9, 0), (9, 0)] d_Pow_factor_26 l_Pow_98 rfl rfl rfl rfl rfl rfl hK.2.2.2.2.2.2.1.1 ?_
          refine B_strip hK.2.2.2.2.2.2.1 hn hsp.1 hs2.1 (by omega) (by omega) (fun A2 gs ns => ?_)
          show ZE (d + 3) M_Pow_factor (gw G A2) 29 [(2, p), (2, r), (0, (mbF v j : Int)), (0, (j : Int))] [(0, (vp (sev j) (smF 127 v j) : Int)), (0, (j : Int)), (2, r)] _
          rw [hvj]
          rw [← sm127_s (by omega)] at ns
          refine ZE.iast d_Pow_factor_29 hr.2.1 (by have hn0 := hr.2.2; show 0 ≤ (j : Int) ∧ (j : Int) < gn G (r); omega) ?_
          show ZE (d + 3) M_Pow_factor (gw G (up2 A2 r (j : Int) (vp (sev j) v : Int))) 30 [(2, p), (2, r), (0, (mbF v j : Int)), (0, (j : Int))] [] _
          refine ZE.iload_n d_Pow_factor_30 rfl ?_
          refine ZE.aload_n d_Pow_factor_31 rfl ?_
          refine ZE.iload_n d_Pow_factor_32 rfl ?_
          refine ZE.ialdE (v := (vp (sev j) v : Int)) d_Pow_factor_33 hr.2.1 (by have hn0 := hr.2.2; show 0 ≤ (j : Int) ∧ (j : Int) < gn G (r); omega) (up2_at _ _ _ _) ?_
          refine ZE.if_le (tgt := 43) d_Pow_factor_34 rfl (by unfold zR; omega) (fun c34 => ?_) (fun c34 => ?_)
          · refine ZE.iconst (n := 0) d_Pow_factor_43 ?_
            refine ZE.ior d_Pow_factor_44 ?_
            rw [show (zor (mbF v j : Int) 0 : Int) = (mbF v (j + 1) : Int) from (by show zor _ ((0 : Nat) : Int) = ((if v % sev j = 0 then mbF v j ||| 2 ^ j else mbF v j : Nat) : Int); rw [if_neg (by omega), zor_nat (by omega) (by omega), Nat.or_zero])]
            refine ZE.istore_n (ls2 := [(2, p), (2, r), (0, (mbF v (j + 1) : Int)), (0, (j : Int))]) d_Pow_factor_45 (Nat.le_of_ble_eq_true rfl) rfl ?_
            refine ZE.iinc (ls2 := [(2, p), (2, r), (0, (mbF v (j + 1) : Int)), (0, (j : Int) + 1)]) d_Pow_factor_46 rfl rfl ?_
            refine ZE.goto (tgt := 4) d_Pow_factor_49 rfl ?_
            rw [show (j : Int) + 1 = ((j + 1 : Nat) : Int) by omega]
            refine ih (j + 1) _ (by omega) (fun a h1 h2 h3 => (show up2 A2 r (j : Int) (vp (sev j) v : Int) a = A2 a by rw [up2_A, upA_ne _ _ h3]).trans ((gs a h1 (by omega)).trans (gA a h1 h2 h3))) ((ns.ab (fun a ha => by rw [up2_A, upA_ne _ _ (by omega)]))) ?_ (by omega)
            intro q hq
            by_cases e : q = j
            · subst e; exact up2_at _ _ _ _
            · rw [up2_ne _ _ (by omega), gs r (by omega) (by omega)]; exact r1 q (by omega)
          · refine ZE.iconst (n := 1) d_Pow_factor_37 ?_
            refine ZE.iload_n d_Pow_factor_38 rfl ?_
            refine ZE.ishl d_Pow_factor_39 ?_
            rw [show (zshl 1 (j : Int) : Int) = ((2 ^ j : Nat) : Int) from (by have := zshl_nat (a := 1) (k := j) (by omega) (by omega); rw [Nat.one_mul] at this; exact this)]
            refine ZE.goto (tgt := 44) d_Pow_factor_40 rfl ?_
            refine ZE.ior d_Pow_factor_44 ?_
            rw [show (zor (mbF v j : Int) ((2 ^ j : Nat) : Int) : Int) = (mbF v (j + 1) : Int) from (by show _ = ((if v % sev j = 0 then mbF v j ||| 2 ^ j else mbF v j : Nat) : Int); rw [if_pos (by omega)]; exact zor_nat (by omega) (by omega))]
            refine ZE.istore_n (ls2 := [(2, p), (2, r), (0, (mbF v (j + 1) : Int)), (0, (j : Int))]) d_Pow_factor_45 (Nat.le_of_ble_eq_true rfl) rfl ?_
            refine ZE.iinc (ls2 := [(2, p), (2, r), (0, (mbF v (j + 1) : Int)), (0, (j : Int) + 1)]) d_Pow_factor_46 rfl rfl ?_
            refine ZE.goto (tgt := 4) d_Pow_factor_49 rfl ?_
            rw [show (j : Int) + 1 = ((j + 1 : Nat) : Int) by omega]
            refine ih (j + 1) _ (by omega) (fun a h1 h2 h3 => (show up2 A2 r (j : Int) (vp (sev j) v : Int) a = A2 a by rw [up2_A, upA_ne _ _ h3]).trans ((gs a h1 (by omega)).trans (gA a h1 h2 h3))) ((ns.ab (fun a ha => by rw [up2_A, upA_ne _ _ (by omega)]))) ?_ (by omega)
            intro q hq
            by_cases e : q = j
            · subst e; exact up2_at _ _ _ _
            · rw [up2_ne _ _ (by omega), gs r (by omega) (by omega)]; exact r1 q (by omega)
  exact L4 _ 0 A (by omega) (fun _ _ _ _ => rfl) hn0 (fun q h => absurd h (Nat.not_lt_zero _)) (Nat.lt_succ_self _)
