theorem vpF_le : ∀ (f p n : Nat), vpF f p n ≤ f := by
  intro f
  induction f with
  | zero => intro p n; exact Nat.le_refl _
  | succ f ih =>
    intro p n
    have h1 := ih p (n / p)
    unfold vpF
    split <;> omega
theorem vp_le (p n : Nat) : vp p n ≤ n.log2 + 1 := vpF_le _ p n
theorem mb_or_s {n w j : Nat} (p q : Prop) [Decidable p] [Decidable q] (h1 : n % sev j = 0 ↔ p) (h2 : w % sev j = 0 ↔ q) : mbF n (j + 1) ||| mbF w (j + 1) = if p ∨ q then (mbF n j ||| mbF w j) ||| 2 ^ j else mbF n j ||| mbF w j := by
  show (if n % sev j = 0 then mbF n j ||| 2 ^ j else mbF n j) ||| (if w % sev j = 0 then mbF w j ||| 2 ^ j else mbF w j) = _
  by_cases a : n % sev j = 0
  · rw [if_pos a, if_pos (Or.inl (h1.mp a))]
    by_cases b : w % sev j = 0
    · rw [if_pos b]
      rw [Nat.or_assoc, ← Nat.or_assoc (2 ^ j), Nat.or_comm (2 ^ j), Nat.or_assoc (mbF w j), Nat.or_self, Nat.or_assoc]
    · rw [if_neg b, Nat.or_assoc, Nat.or_comm (2 ^ j), ← Nat.or_assoc]
  · rw [if_neg a]
    by_cases b : w % sev j = 0
    · rw [if_pos b, if_pos (Or.inr (h2.mp b)), Nat.or_assoc]
    · rw [if_neg b, if_neg (fun q => q.elim (fun q => a (h1.mpr q)) (fun q => b (h2.mpr q)))]
set_option maxRecDepth 20000 in
set_option maxHeartbeats 4000000 in
theorem c_initA {d : Nat} {G : zG} {A : Int → Int → Int} {P : Option zV → zG → Prop} {c : Int} (hz : (gz G : Int) = c + 1) (h0 : 0 ≤ c) (hk : gk G c = 11) {m : Int} {cap2 : Nat} (hM : bK G m cap2) (hmc : m + 1 < c) {v i1 : Nat} (hm : bN A m v) (hv : 1 ≤ v) (hv9 : nd 1000000000 v ≤ 58) {lr hr : Int} (k : ∀ G2 A2, cK G2 c (nd 1000000000 v) → (∀ a : Int, a < c → A2 a = A a) → bN A2 (c + 3) 0 → (A2 c 0 = c + 3 ∧ A2 c 3 = c + 1 ∧ A2 c 4 = c + 2) → gR G G2 4 (16 + nd 1000000000 v) → ZE (d + 3) M_Cou_init (gw G2 A2) 35 [(2, c), (2, m), (0, (i1 : Int)), (2, lr), (2, hr), (9, 0), (9, 0)] [] P) : ZE (d + 3) M_Cou_init (gw G A) 0 [(2, c), (2, m), (0, (i1 : Int)), (2, lr), (2, hr), (9, 0), (9, 0)] [] P := by
  have hnv : 1 ≤ nd 1000000000 v := by
    rcases Nat.eq_zero_or_pos (nd 1000000000 v) with q | q
    · have := nd_self (b := 1000000000) (by omega) v
      rw [q] at this
      omega
    · exact q
  refine ZE.aload_n d_Cou_init_0 rfl ?_
  refine ZE.objInit d_Cou_init_1 o_Cou_1 (by omega) (Nat.le_of_ble_eq_true rfl) ?_
  refine ZE.aload_n d_Cou_init_4 rfl ?_
  refine ZE.bipush (n := 7) d_Cou_init_5 rfl ?_
  refine ZE.newI (n := 7) d_Cou_init_7 rfl (by omega) ?_
  rw [gnew_gw, show (gz (gw G A) : Int) = c + 1 from hz]
  obtain ⟨Gn1, hE1⟩ : ∃ H1, H1 = gnew G 1 7 (fun _ => 0) := ⟨_, rfl⟩
  rw [show gnew G 1 7 (fun _ => 0) = Gn1 from hE1.symm, show (gz G : Int) = c + 1 from hz]
  have hgr1 : gR G Gn1 1 7 := by rw [hE1]; exact gR.new
  have hkn1 : gk Gn1 (c + 1) = 1 ∧ gn Gn1 (c + 1) = (7 : Int) := by rw [hE1, show c + 1 = (gz G : Int) from hz.symm]; exact ⟨gnew_gk, gnew_gn⟩
  have hz1 : (gz Gn1 : Int) = c + 2 := by have := hgr1.1; omega
  have hk1 : gk Gn1 c = 11 := (hgr1.2.2.1 c (by omega)).1.trans hk
  skip
  refine ZE.put d_Cou_init_9 f_Cou_9 (tg := 2) rfl trivial (Or.inr ⟨⟨_, _, _, rfl, rfl, rfl⟩, rfl⟩) hk1 ?_
  show ZE (d + 3) M_Cou_init (gw Gn1 (up2 (upA A (c + 1) (fun _ => 0)) c 3 (c + 1))) 12 [(2, c), (2, m), (0, (i1 : Int)), (2, lr), (2, hr), (9, 0), (9, 0)] [] _
  refine ZE.aload_n d_Cou_init_12 rfl ?_
  refine ZE.bipush (n := 7) d_Cou_init_13 rfl ?_
  refine ZE.newI (n := 7) d_Cou_init_15 rfl (by omega) ?_
  rw [gnew_gw, show (gz (gw Gn1 (up2 (upA A (c + 1) (fun _ => 0)) c 3 (c + 1))) : Int) = c + 2 from hz1]
  obtain ⟨Gn2, hE2⟩ : ∃ H1, H1 = gnew Gn1 1 7 (fun _ => 0) := ⟨_, rfl⟩
  rw [show gnew Gn1 1 7 (fun _ => 0) = Gn2 from hE2.symm, show (gz Gn1 : Int) = c + 2 from hz1]
  have hgr2 : gR Gn1 Gn2 1 7 := by rw [hE2]; exact gR.new
  have hkn2 : gk Gn2 (c + 2) = 1 ∧ gn Gn2 (c + 2) = (7 : Int) := by rw [hE2, show c + 2 = (gz Gn1 : Int) from hz1.symm]; exact ⟨gnew_gk, gnew_gn⟩
  have hz2 : (gz Gn2 : Int) = c + 3 := by have := hgr2.1; omega
  have hk2 : gk Gn2 c = 11 := (hgr2.2.2.1 c (by omega)).1.trans hk1
  skip
  refine ZE.put d_Cou_init_17 f_Cou_15 (tg := 2) rfl trivial (Or.inr ⟨⟨_, _, _, rfl, rfl, rfl⟩, rfl⟩) hk2 ?_
  show ZE (d + 3) M_Cou_init (gw Gn2 (up2 (upA (up2 (upA A (c + 1) (fun _ => 0)) c 3 (c + 1)) (c + 2) (fun _ => 0)) c 4 (c + 2))) 20 [(2, c), (2, m), (0, (i1 : Int)), (2, lr), (2, hr), (9, 0), (9, 0)] [] _
  refine ZE.aload_n d_Cou_init_20 rfl ?_
  refine ZE.new d_Cou_init_21 n_Cou_18 ?_
  rw [gnew_gw, show (gz (gw Gn2 (up2 (upA (up2 (upA A (c + 1) (fun _ => 0)) c 3 (c + 1)) (c + 2) (fun _ => 0)) c 4 (c + 2))) : Int) = c + 3 from hz2]
  obtain ⟨Gn3, hE3⟩ : ∃ H1, H1 = gnew Gn2 10 2 (zInit 0) := ⟨_, rfl⟩
  rw [show gnew Gn2 (10 + 0) 2 (zInit 0) = Gn3 from hE3.symm, show (gz Gn2 : Int) = c + 3 from hz2]
  have hgr3 : gR Gn2 Gn3 1 2 := by rw [hE3]; exact gR.new
  have hkn3 : gk Gn3 (c + 3) = 10 ∧ gn Gn3 (c + 3) = (2 : Int) := by rw [hE3, show c + 3 = (gz Gn2 : Int) from hz2.symm]; exact ⟨gnew_gk, gnew_gn⟩
  have hz3 : (gz Gn3 : Int) = c + 4 := by have := hgr3.1; omega
  have hk3 : gk Gn3 c = 11 := (hgr3.2.2.1 c (by omega)).1.trans hk2
  skip
  refine ZE.dup d_Cou_init_24 (Or.inr rfl) ?_
  refine ZE.aload_n d_Cou_init_25 rfl ?_
  refine ZE.cV [] [(2, c + 3), (2, c + 3), (2, c)] [(2, m)] d_Cou_init_26 l_Cou_20 rfl rfl rfl rfl rfl rfl ((hgr3.2.2.1 m (by omega)).1.trans ((hgr2.2.2.1 m (by omega)).1.trans ((hgr1.2.2.1 m (by omega)).1.trans hM.1))) ?_
  refine B_limbCount (b := m) (cap := cap2) (v := v) (((hM.gr hgr1 (by omega)).gr hgr2 (by omega)).gr hgr3 (by omega)) (hm.ab (fun a ha => by simp only [up2_A, upA_ne _ _ (show a ≠ c by omega), upA_ne _ _ (show a ≠ c + 1 by omega), upA_ne _ _ (show a ≠ c + 2 by omega), upA_ne _ _ (show a ≠ c + 3 by omega)])) ?_
  show ZE (d + 3) M_Cou_init (gw Gn3 (upA (up2 (upA (up2 (upA A (c + 1) (fun _ => 0)) c 3 (c + 1)) (c + 2) (fun _ => 0)) c 4 (c + 2)) (c + 3) (zInit 0))) 29 [(2, c), (2, m), (0, (i1 : Int)), (2, lr), (2, hr), (9, 0), (9, 0)] [(0, (nd 1000000000 v : Int)), (2, c + 3), (2, c + 3), (2, c)] _
  refine ZE.cI [(0, (nd 1000000000 v : Int))] [(2, c + 3), (2, c)] [(2, c + 3), (0, (nd 1000000000 v : Int))] d_Cou_init_29 l_Cou_24 rfl rfl rfl rfl rfl rfl (by omega) ?_
  refine B_init (b := c + 3) (cap := nd 1000000000 v) (hz3.trans (by omega)) (by omega) hkn3.1 (by omega) ((congrFun (upA_at _ _ _) 1).trans rfl) (fun Gb4 A1 hB hN hgr4 hA1 => ?_)
  show ZE (d + 3) M_Cou_init (gw Gb4 A1) 32 [(2, c), (2, m), (0, (i1 : Int)), (2, lr), (2, hr), (9, 0), (9, 0)] [(2, c + 3), (2, c)] _
  have hz4 : (gz Gb4 : Int) = c + 5 := by have := hgr4.1; omega
  have hk4 : gk Gb4 c = 11 := (hgr4.2.2.1 c (by omega)).1.trans hk3
  refine ZE.put d_Cou_init_32 f_Cou_27 (tg := 2) rfl trivial (Or.inr ⟨⟨_, _, _, rfl, rfl, rfl⟩, rfl⟩) hk4 ?_
  show ZE (d + 3) M_Cou_init (gw Gb4 (up2 A1 c 0 (c + 3))) 35 [(2, c), (2, m), (0, (i1 : Int)), (2, lr), (2, hr), (9, 0), (9, 0)] [] _
  obtain ⟨A9, hA9⟩ : ∃ A9, A9 = up2 A1 c 0 (c + 3) := ⟨_, rfl⟩
  rw [← hA9]
  have h93 : ∀ a : Int, a < c + 3 → a ≠ c → a ≠ c + 1 → a ≠ c + 2 → A9 a = A a := fun a h1 h2 h3 h4 => by
    rw [hA9, up2_A, upA_ne _ _ h2, hA1 a (by omega)]
    simp only [up2_A, upA_ne _ _ h2, upA_ne _ _ h3, upA_ne _ _ h4, upA_ne _ _ (show a ≠ c + 3 by omega)]
  have hlow : ∀ a : Int, a < c → A9 a = A a := fun a ha => h93 a (by omega) (by omega) (by omega) (by omega)
  have hc0 : A9 c 0 = c + 3 := by rw [hA9]; exact up2_at _ _ _ _
  have hc3 : A9 c 3 = c + 1 := by
    rw [hA9, up2_ne _ _ (by omega), hA1 c (by omega)]
    simp only [up2_A, upA_at, upA_ne _ _ (show c ≠ c + 3 by omega), upA_ne _ _ (show c ≠ c + 2 by omega), upA_ne _ _ (show c ≠ c + 1 by omega), up1_ne _ _ (show (3 : Int) ≠ 4 by omega)]
    exact up1_at _ _ _
  have hc4 : A9 c 4 = c + 2 := by
    rw [hA9, up2_ne _ _ (by omega), hA1 c (by omega)]
    simp only [up2_A, upA_at, upA_ne _ _ (show c ≠ c + 3 by omega), upA_ne _ _ (show c ≠ c + 2 by omega), upA_ne _ _ (show c ≠ c + 1 by omega)]
    exact up1_at _ _ _
  have hb0 : bN A9 (c + 3) 0 := hN.ab (fun a ha => by rw [hA9, up2_A, upA_ne _ _ (by omega)])
  have hS4 : gR Gb4 Gb4 0 0 := gR.rf
  have hS3 := hgr4.tr hS4
  have hS2 := hgr3.tr hS3
  have hS1 := hgr2.tr hS2
  have hS0 := hgr1.tr hS1
  have hrw1 : gk Gb4 (c + 1) = 1 ∧ gn Gb4 (c + 1) = 7 := ⟨(hS1.2.2.1 (c + 1) (by omega)).1.trans hkn1.1, (hS1.2.2.1 (c + 1) (by omega)).2.trans hkn1.2⟩
  have hrw2 : gk Gb4 (c + 2) = 1 ∧ gn Gb4 (c + 2) = 7 := ⟨(hS2.2.2.1 (c + 2) (by omega)).1.trans hkn2.1, (hS2.2.2.1 (c + 2) (by omega)).2.trans hkn2.2⟩
  have hcK : cK Gb4 c (nd 1000000000 v) := ⟨hk4, h0, hrw1, hrw2, hB⟩
  exact k Gb4 A9 hcK hlow hb0 ⟨hc0, hc3, hc4⟩ (by rw [show 16 + nd 1000000000 v = 7 + (7 + (2 + (nd 1000000000 v + 0))) by omega]; exact hS0)
set_option maxRecDepth 20000 in
set_option maxHeartbeats 4000000 in
theorem c_initB {d : Nat} {G : zG} {A : Int → Int → Int} {P : Option zV → zG → Prop} {c : Int} {v i1 ap : Nat} (hK : cK G c (nd 1000000000 v)) {m : Int} {cap2 : Nat} (hM : bK G m cap2) (hmc : m + 1 < c) (hm : bN A m v) (hm9 : nd 1000000000 v ≤ cap2) (hv : 1 ≤ v) (h00 : A c 0 = c + 3) (h03 : A c 3 = c + 1) (h04 : A c 4 = c + 2) (hb0 : bN A (c + 3) 0) {lr hr : Int} (hl : gk G lr = 1 ∧ gn G lr = 7) (hh : gk G hr = 1 ∧ gn G hr = 7) (hlc : lr < c ∧ hr < c) (hlv : ∀ k : Nat, k < 7 → A lr k = (vp (sev k) v : Int)) (hhv : ∀ k : Nat, k < 7 → A hr k = (vp (sev k) (v + ap) : Int)) (hb : ∀ k, k < 7 → vp (sev k) v ≤ 1000 ∧ vp (sev k) (v + ap) ≤ 1000) (k : ∀ A2, cO A2 c v i1 ap → (∀ a : Int, a < c → A2 a = A a) → P none (gw G A2)) : ZE (d + 3) M_Cou_init (gw G A) 35 [(2, c), (2, m), (0, (i1 : Int)), (2, lr), (2, hr), (9, 0), (9, 0)] [] P := by
  have hc0 := hK.2.1
  refine ZE.aload_n d_Cou_init_35 rfl ?_
  refine ZE.getE (v := c + 3) d_Cou_init_36 f_Cou_27 (tg := 2) rfl hK.1 h00 ?_
  refine ZE.aload_n d_Cou_init_39 rfl ?_
  refine ZE.cV [(2, m)] [] [(2, c + 3), (2, m), (9, 0)] d_Cou_init_40 l_Cou_31 rfl rfl rfl rfl rfl rfl hK.2.2.2.2.1 ?_
  refine B_copy hK.2.2.2.2 hb0.1 hM hm (by omega) hm9 (by omega) (fun B gB nB => ?_)
  show ZE (d + 3) M_Cou_init (gw G B) 43 [(2, c), (2, m), (0, (i1 : Int)), (2, lr), (2, hr), (9, 0), (9, 0)] [] _
  have k0 : B c 0 = c + 3 := (congrFun (gB c (by omega) (by omega)) 0).trans h00
  have k3 : B c 3 = c + 1 := (congrFun (gB c (by omega) (by omega)) 3).trans h03
  have k4 : B c 4 = c + 2 := (congrFun (gB c (by omega) (by omega)) 4).trans h04
  replace hlv : ∀ k : Nat, k < 7 → B lr k = (vp (sev k) v : Int) := fun q hq => (congrFun (gB lr (by omega) (by omega)) _).trans (hlv q hq)
  replace hhv : ∀ k : Nat, k < 7 → B hr k = (vp (sev k) (v + ap) : Int) := fun q hq => (congrFun (gB hr (by omega) (by omega)) _).trans (hhv q hq)
  refine ZE.aload_n d_Cou_init_43 rfl ?_
  refine ZE.iload_n d_Cou_init_44 rfl ?_
  refine ZE.put d_Cou_init_45 f_Cou_35 (tg := 0) rfl trivial (Or.inr ⟨⟨_, _, _, rfl, rfl, rfl⟩, rfl⟩) hK.1 ?_
  show ZE (d + 3) M_Cou_init (gw G (up2 B c 1 (i1 : Int))) 48 [(2, c), (2, m), (0, (i1 : Int)), (2, lr), (2, hr), (9, 0), (9, 0)] [] _
  refine ZE.iconst (n := 0) d_Cou_init_48 ?_
  refine ZE.istore (ls2 := [(2, c), (2, m), (0, (i1 : Int)), (2, lr), (2, hr), (0, 0), (9, 0)]) d_Cou_init_49 (Nat.le_of_ble_eq_true rfl) rfl ?_
  refine ZE.iconst (n := 0) d_Cou_init_51 ?_
  refine ZE.istore (ls2 := [(2, c), (2, m), (0, (i1 : Int)), (2, lr), (2, hr), (0, 0), (0, 0)]) d_Cou_init_52 (Nat.le_of_ble_eq_true rfl) rfl ?_
  have L54 : ∀ (tt0 : Nat) (j : Nat) (A1 : Int → Int → Int) (hj : j ≤ 7) (gA : ∀ a : Int, a ≠ c → a ≠ c + 1 → a ≠ c + 2 → A1 a = B a) (f3 : A1 c 3 = c + 1) (f4 : A1 c 4 = c + 2) (f0 : A1 c 0 = c + 3) (f1 : A1 c 1 = (i1 : Int)) (r1 : ∀ q : Nat, q < j → A1 (c + 1) q = (vp (sev q) v : Int)) (r2 : ∀ q : Nat, q < j → A1 (c + 2) q = (vp (sev q) (v + ap) : Int)), 7 - j < tt0 → ZE (d + 3) M_Cou_init (gw G A1) 54 [(2, c), (2, m), (0, (i1 : Int)), (2, lr), (2, hr), (0, ((mbF v j ||| mbF (v + ap) j : Nat) : Int)), (0, (j : Int))] [] P := by
    intro tt0
    induction tt0 with
    | zero => intro j A1 hj gA f3 f4 f0 f1 r1 r2 hm; exact absurd hm (Nat.not_lt_zero _)
    | succ tt0 ih =>
      intro j A1 hj gA f3 f4 f0 f1 r1 r2 hm
      have hmd1 := mbF_lt v j (by omega)
      have hmd2 := mbF_lt (v + ap) j (by omega)
      have hp7 : 2 ^ j ≤ 2 ^ 7 := Nat.pow_le_pow_right (by omega) (by omega)
      have hor := or_128 (mbF v j) (by omega) (mbF (v + ap) j) (by omega)
      refine ZE.iload d_Cou_init_54 rfl ?_
      refine ZE.bipush (n := 7) d_Cou_init_56 rfl ?_
      refine ZE.icmp_ge (tgt := 131) d_Cou_init_58 rfl (by unfold zR; omega) (by unfold zR; omega) (fun c58 => ?_) (fun c58 => ?_)
      · refine ZE.aload_n d_Cou_init_131 rfl ?_
        refine ZE.iload d_Cou_init_132 rfl ?_
        refine ZE.put d_Cou_init_134 f_Cou_39 (tg := 0) rfl trivial (Or.inr ⟨⟨_, _, _, rfl, rfl, rfl⟩, rfl⟩) hK.1 ?_
        show ZE (d + 3) M_Cou_init (gw G (up2 A1 c 2 ((mbF v j ||| mbF (v + ap) j : Nat) : Int))) 137 [(2, c), (2, m), (0, (i1 : Int)), (2, lr), (2, hr), (0, ((mbF v j ||| mbF (v + ap) j : Nat) : Int)), (0, (j : Int))] [] _
        refine ZE.vret d_Cou_init_137 rfl ?_
        have hj7 : j = 7 := by omega
        subst hj7
        refine k _ ⟨(up2_ne _ _ (by omega)).trans f0, (up2_ne _ _ (by omega)).trans f1, up2_at _ _ _ _, (up2_ne _ _ (by omega)).trans f3, (up2_ne _ _ (by omega)).trans f4, nB.ab (fun a ha => ?_), fun q hq => ?_, fun q hq => ?_⟩ (fun a ha => ?_)
        · rw [up2_A, upA_ne _ _ (by omega), gA a (by omega) (by omega) (by omega)]
        · rw [up2_ne _ _ (by omega)]; exact r1 q hq
        · rw [up2_ne _ _ (by omega)]; exact r2 q hq
        · rw [up2_A, upA_ne _ _ (by omega), gA a (by omega) (by omega) (by omega), gB a (by omega) (by omega)]
      · refine ZE.iload d_Cou_init_61 rfl ?_
        refine ZE.aload_n d_Cou_init_63 rfl ?_
        refine ZE.alenE (v := 7) d_Cou_init_64 (by have hk0 := hl.1; show 1 ≤ gk G (lr) ∧ gk G (lr) ≤ 6; omega) hl.2 ?_
        refine ZE.icmp_ge (tgt := 131) d_Cou_init_65 rfl (by unfold zR; omega) (by unfold zR; omega) (fun c65 => ?_) (fun c65 => ?_)
        · exact absurd c65 (by omega)
        · refine ZE.iload d_Cou_init_68 rfl ?_
          refine ZE.aload d_Cou_init_70 rfl ?_
          refine ZE.alenE (v := 7) d_Cou_init_72 (by have hk0 := hh.1; show 1 ≤ gk G (hr) ∧ gk G (hr) ≤ 6; omega) hh.2 ?_
          refine ZE.icmp_ge (tgt := 131) d_Cou_init_73 rfl (by unfold zR; omega) (by unfold zR; omega) (fun c73 => ?_) (fun c73 => ?_)
          · exact absurd c73 (by omega)
          · have hb1 := hb j (by omega)
            have hs2 := (sev_2 j (by omega)).1
            have hv1 := vp_0 (p := sev j) (n := v) hs2 (by omega)
            have hv2 := vp_0 (p := sev j) (n := v + ap) hs2 (by omega)
            have hms := mb_or_s (j := j) (0 < vp (sev j) v) (0 < vp (sev j) (v + ap)) hv1.symm hv2.symm
            refine ZE.aload_n d_Cou_init_76 rfl ?_
            refine ZE.getE (v := c + 1) d_Cou_init_77 f_Cou_9 (tg := 2) rfl hK.1 f3 ?_
            refine ZE.iload d_Cou_init_80 rfl ?_
            refine ZE.aload_n d_Cou_init_82 rfl ?_
            refine ZE.iload d_Cou_init_83 rfl ?_
            refine ZE.ialdE (v := (vp (sev j) v : Int)) d_Cou_init_85 hl.1 (by have hn0 := hl.2; show 0 ≤ (j : Int) ∧ (j : Int) < gn G (lr); omega) ((congrFun (gA lr (by omega) (by omega) (by omega)) _).trans (hlv j (by omega))) ?_
            refine ZE.iast d_Cou_init_86 hK.2.2.1.1 (by have hn0 := hK.2.2.1.2; show 0 ≤ (j : Int) ∧ (j : Int) < gn G (c + 1); omega) ?_
            show ZE (d + 3) M_Cou_init (gw G (up2 A1 (c + 1) (j : Int) (vp (sev j) v : Int))) 87 [(2, c), (2, m), (0, (i1 : Int)), (2, lr), (2, hr), (0, ((mbF v j ||| mbF (v + ap) j : Nat) : Int)), (0, (j : Int))] [] _
            refine ZE.aload_n d_Cou_init_87 rfl ?_
            refine ZE.getE (v := c + 2) d_Cou_init_88 f_Cou_15 (tg := 2) rfl hK.1 ((up2_ne _ _ (by omega)).trans f4) ?_
            refine ZE.iload d_Cou_init_91 rfl ?_
            refine ZE.aload d_Cou_init_93 rfl ?_
            refine ZE.iload d_Cou_init_95 rfl ?_
            refine ZE.ialdE (v := (vp (sev j) (v + ap) : Int)) d_Cou_init_97 hh.1 (by have hn0 := hh.2; show 0 ≤ (j : Int) ∧ (j : Int) < gn G (hr); omega) ((up2_ne _ _ (by omega)).trans ((congrFun (gA hr (by omega) (by omega) (by omega)) _).trans (hhv j (by omega)))) ?_
            refine ZE.iast d_Cou_init_98 hK.2.2.2.1.1 (by have hn0 := hK.2.2.2.1.2; show 0 ≤ (j : Int) ∧ (j : Int) < gn G (c + 2); omega) ?_
            show ZE (d + 3) M_Cou_init (gw G (up2 (up2 A1 (c + 1) (j : Int) (vp (sev j) v : Int)) (c + 2) (j : Int) (vp (sev j) (v + ap) : Int))) 99 [(2, c), (2, m), (0, (i1 : Int)), (2, lr), (2, hr), (0, ((mbF v j ||| mbF (v + ap) j : Nat) : Int)), (0, (j : Int))] [] _
            refine ZE.iload d_Cou_init_99 rfl ?_
            refine ZE.aload_n d_Cou_init_101 rfl ?_
            refine ZE.iload d_Cou_init_102 rfl ?_
            refine ZE.ialdE (v := (vp (sev j) v : Int)) d_Cou_init_104 hl.1 (by have hn0 := hl.2; show 0 ≤ (j : Int) ∧ (j : Int) < gn G (lr); omega) ((up2_ne _ _ (by omega)).trans ((up2_ne _ _ (by omega)).trans ((congrFun (gA lr (by omega) (by omega) (by omega)) _).trans (hlv j (by omega))))) ?_
            refine ZE.aload d_Cou_init_105 rfl ?_
            refine ZE.iload d_Cou_init_107 rfl ?_
            refine ZE.ialdE (v := (vp (sev j) (v + ap) : Int)) d_Cou_init_109 hh.1 (by have hn0 := hh.2; show 0 ≤ (j : Int) ∧ (j : Int) < gn G (hr); omega) ((up2_ne _ _ (by omega)).trans ((up2_ne _ _ (by omega)).trans ((congrFun (gA hr (by omega) (by omega) (by omega)) _).trans (hhv j (by omega))))) ?_
            refine ZE.iadd d_Cou_init_110 ?_
            refine ZE.if_le (tgt := 121) d_Cou_init_111 rfl (by unfold zR; omega) (fun c111 => ?_) (fun c111 => ?_)
            · refine ZE.iconst (n := 0) d_Cou_init_121 ?_
              refine ZE.ior d_Cou_init_122 ?_
              rw [show (zor ((mbF v j ||| mbF (v + ap) j : Nat) : Int) 0 : Int) = ((mbF v (j + 1) ||| mbF (v + ap) (j + 1) : Nat) : Int) from (by rw [hms, if_neg (by omega)]; show zor _ ((0 : Nat) : Int) = _; rw [zor_nat (by omega) (by omega), Nat.or_zero])]
              refine ZE.istore (ls2 := [(2, c), (2, m), (0, (i1 : Int)), (2, lr), (2, hr), (0, ((mbF v (j + 1) ||| mbF (v + ap) (j + 1) : Nat) : Int)), (0, (j : Int))]) d_Cou_init_123 (Nat.le_of_ble_eq_true rfl) rfl ?_
              refine ZE.iinc (ls2 := [(2, c), (2, m), (0, (i1 : Int)), (2, lr), (2, hr), (0, ((mbF v (j + 1) ||| mbF (v + ap) (j + 1) : Nat) : Int)), (0, (j : Int) + 1)]) d_Cou_init_125 rfl rfl ?_
              refine ZE.goto (tgt := 54) d_Cou_init_128 rfl ?_
              rw [show (j : Int) + 1 = ((j + 1 : Nat) : Int) by omega]
              refine ih (j + 1) _ (by omega) (fun a h1 h2 h3 => (show _ = A1 a by rw [up2_A, upA_ne _ _ (by omega), up2_A, upA_ne _ _ (by omega)]).trans (gA a h1 h2 h3)) ((congrFun (show _ = A1 c by rw [up2_A, upA_ne _ _ (by omega), up2_A, upA_ne _ _ (by omega)]) 3).trans f3) ((congrFun (show _ = A1 c by rw [up2_A, upA_ne _ _ (by omega), up2_A, upA_ne _ _ (by omega)]) 4).trans f4) ((congrFun (show _ = A1 c by rw [up2_A, upA_ne _ _ (by omega), up2_A, upA_ne _ _ (by omega)]) 0).trans f0) ((congrFun (show _ = A1 c by rw [up2_A, upA_ne _ _ (by omega), up2_A, upA_ne _ _ (by omega)]) 1).trans f1) ?_ ?_ (by omega)
              · intro q hq
                rw [up2_ne _ _ (by omega)]
                by_cases e : q = j
                · subst e; exact up2_at _ _ _ _
                · rw [up2_ne _ _ (by omega)]; exact r1 q (by omega)
              · intro q hq
                by_cases e : q = j
                · subst e; exact up2_at _ _ _ _
                · rw [up2_ne _ _ (by omega), up2_ne _ _ (by omega)]; exact r2 q (by omega)
            · refine ZE.iconst (n := 1) d_Cou_init_114 ?_
              refine ZE.iload d_Cou_init_115 rfl ?_
              refine ZE.ishl d_Cou_init_117 ?_
              rw [show (zshl 1 (j : Int) : Int) = ((2 ^ j : Nat) : Int) from (by have := zshl_nat (a := 1) (k := j) (by omega) (by omega); rw [Nat.one_mul] at this; exact this)]
              refine ZE.goto (tgt := 122) d_Cou_init_118 rfl ?_
              refine ZE.ior d_Cou_init_122 ?_
              rw [show (zor ((mbF v j ||| mbF (v + ap) j : Nat) : Int) ((2 ^ j : Nat) : Int) : Int) = ((mbF v (j + 1) ||| mbF (v + ap) (j + 1) : Nat) : Int) from (by rw [hms, if_pos (by omega)]; exact zor_nat (by omega) (by omega))]
              refine ZE.istore (ls2 := [(2, c), (2, m), (0, (i1 : Int)), (2, lr), (2, hr), (0, ((mbF v (j + 1) ||| mbF (v + ap) (j + 1) : Nat) : Int)), (0, (j : Int))]) d_Cou_init_123 (Nat.le_of_ble_eq_true rfl) rfl ?_
              refine ZE.iinc (ls2 := [(2, c), (2, m), (0, (i1 : Int)), (2, lr), (2, hr), (0, ((mbF v (j + 1) ||| mbF (v + ap) (j + 1) : Nat) : Int)), (0, (j : Int) + 1)]) d_Cou_init_125 rfl rfl ?_
              refine ZE.goto (tgt := 54) d_Cou_init_128 rfl ?_
              rw [show (j : Int) + 1 = ((j + 1 : Nat) : Int) by omega]
              refine ih (j + 1) _ (by omega) (fun a h1 h2 h3 => (show _ = A1 a by rw [up2_A, upA_ne _ _ (by omega), up2_A, upA_ne _ _ (by omega)]).trans (gA a h1 h2 h3)) ((congrFun (show _ = A1 c by rw [up2_A, upA_ne _ _ (by omega), up2_A, upA_ne _ _ (by omega)]) 3).trans f3) ((congrFun (show _ = A1 c by rw [up2_A, upA_ne _ _ (by omega), up2_A, upA_ne _ _ (by omega)]) 4).trans f4) ((congrFun (show _ = A1 c by rw [up2_A, upA_ne _ _ (by omega), up2_A, upA_ne _ _ (by omega)]) 0).trans f0) ((congrFun (show _ = A1 c by rw [up2_A, upA_ne _ _ (by omega), up2_A, upA_ne _ _ (by omega)]) 1).trans f1) ?_ ?_ (by omega)
              · intro q hq
                rw [up2_ne _ _ (by omega)]
                by_cases e : q = j
                · subst e; exact up2_at _ _ _ _
                · rw [up2_ne _ _ (by omega)]; exact r1 q (by omega)
              · intro q hq
                by_cases e : q = j
                · subst e; exact up2_at _ _ _ _
                · rw [up2_ne _ _ (by omega), up2_ne _ _ (by omega)]; exact r2 q (by omega)
  have L0 := L54 _ 0 (up2 B c 1 (i1 : Int)) (by omega) (fun a h1 _ _ => by rw [up2_A, upA_ne _ _ h1]) ((up2_ne _ _ (by omega)).trans k3) ((up2_ne _ _ (by omega)).trans k4) ((up2_ne _ _ (by omega)).trans k0) (up2_at _ _ _ _) (fun q h => absurd h (Nat.not_lt_zero _)) (fun q h => absurd h (Nat.not_lt_zero _)) (Nat.lt_succ_self _)
  rw [show mbF v 0 ||| mbF (v + ap) 0 = 0 from (by show (0 : Nat) ||| 0 = 0; rfl)] at L0
  exact L0
theorem c_init {d : Nat} {G : zG} {A : Int → Int → Int} {P : Option zV → zG → Prop} {c : Int} (hz : (gz G : Int) = c + 1) (h0 : 0 ≤ c) (hk : gk G c = 11) {m : Int} {cap2 : Nat} (hM : bK G m cap2) (hmc : m + 1 < c) {v i1 ap : Nat} (hm : bN A m v) (hv : 1 ≤ v) (hv9 : nd 1000000000 v ≤ 58) (hm9 : nd 1000000000 v ≤ cap2) {lr hr : Int} (hl : gk G lr = 1 ∧ gn G lr = 7) (hh : gk G hr = 1 ∧ gn G hr = 7) (hlc : lr < c ∧ hr < c) (hlv : ∀ k : Nat, k < 7 → A lr k = (vp (sev k) v : Int)) (hhv : ∀ k : Nat, k < 7 → A hr k = (vp (sev k) (v + ap) : Int)) (hb : ∀ k, k < 7 → vp (sev k) v ≤ 1000 ∧ vp (sev k) (v + ap) ≤ 1000) (k : ∀ G2 A2, cP G2 A2 c v i1 ap → (∀ a : Int, a < c → A2 a = A a) → gR G G2 4 (16 + nd 1000000000 v) → P none (gw G2 A2)) : ZE (d + 3) M_Cou_init (gw G A) 0 [(2, c), (2, m), (0, (i1 : Int)), (2, lr), (2, hr), (9, 0), (9, 0)] [] P := by
  refine c_initA hz h0 hk hM hmc hm hv hv9 (fun G2 A2 h1k h2k h3k h4k h5k => ?_)
  have hg := h5k.2.2.1
  refine c_initB h1k (hM.gr h5k (by omega)) hmc (hm.ab (fun a ha => h2k a (by omega))) hm9 hv h4k.1 h4k.2.1 h4k.2.2 h3k ⟨(hg lr (by omega)).1.trans hl.1, (hg lr (by omega)).2.trans hl.2⟩ ⟨(hg hr (by omega)).1.trans hh.1, (hg hr (by omega)).2.trans hh.2⟩ hlc (fun q hq => (congrFun (h2k lr hlc.1) _).trans (hlv q hq)) (fun q hq => (congrFun (h2k hr hlc.2) _).trans (hhv q hq)) hb (fun A3 g1 g2 => ?_)
  exact k G2 A3 ⟨h1k, g1⟩ (fun a ha => (g2 a ha).trans (h2k a ha)) h5k
