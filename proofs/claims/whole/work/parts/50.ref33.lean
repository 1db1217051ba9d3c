def ivF : Nat → Nat → Nat → Nat → Nat
  | 0, _, al1, _ => al1
  | f + 1, lf, al1, by1 => if lf = 0 then al1 else ivF f (lf / 2) (if lf % 2 = 1 then al1 * by1 % 10007 else al1) (by1 * by1 % 10007)
def ivN (v : Nat) : Nat := ivF 14 10005 1 v
theorem ivF_0 {f al1 by1 : Nat} : ivF f 0 al1 by1 = al1 := by
  cases f with
  | zero => rfl
  | succ f => exact if_pos rfl
def tk (v w b : Nat) : Nat := (v + (10007 - b * w % 10007)) % 10007
theorem tk_lt (v w b : Nat) : tk v w b < 10007 := Nat.mod_lt _ (by decide)
theorem tk_z {v w b : Nat} : ((((v : Int) - (b : Int) * w).tmod 10007 < 0 → ((v : Int) - (b : Int) * w).tmod 10007 + 10007 = (tk v w b : Int)) ∧ (0 ≤ ((v : Int) - (b : Int) * w).tmod 10007 → ((v : Int) - (b : Int) * w).tmod 10007 = (tk v w b : Int))) ∧ (-10007 < ((v : Int) - (b : Int) * w).tmod 10007 ∧ ((v : Int) - (b : Int) * w).tmod 10007 < 10007) := by
  have e0 : (b : Int) * w = ((b * w : Nat) : Int) := (Int.natCast_mul b w).symm
  rw [e0]
  unfold tk
  generalize b * w = t
  rcases Nat.lt_or_ge v t with h | h
  · have e1 : ((v : Int) - (t : Int)).tmod 10007 = -(((t - v) % 10007 : Nat) : Int) := by
      have e2 : (v : Int) - t = -((t - v : Nat) : Int) := by omega
      rw [e2, Int.neg_tmod]
      rfl
    rw [e1]
    omega
  · have e1 : ((v : Int) - (t : Int)).tmod 10007 = (((v - t) % 10007 : Nat) : Int) := by
      have e2 : (v : Int) - t = ((v - t : Nat) : Int) := by omega
      rw [e2]
      rfl
    rw [e1]
    omega
def swR (R : Nat → Nat → Nat) (a n : Nat) : Nat → Nat → Nat := fun q c => if q = a then R n c else if q = n then R a c else R q c
def rwM (f : Int → Int) (R : Nat → Nat → Nat) (m : Nat) : Prop := ∀ q c : Nat, q < m → c < 7 → f (7 * (q : Int) + c) = (R q c : Int)
def swM (f : Int → Int) (R : Nat → Nat → Nat) (m a n j : Nat) : Prop := ∀ q c : Nat, q < m → c < 7 → f (7 * (q : Int) + c) = (if c < j then (swR R a n q c : Int) else (R q c : Int))
theorem swM_0 {f : Int → Int} {R : Nat → Nat → Nat} {m a n : Nat} (h : rwM f R m) : swM f R m a n 0 := fun q c h1 h2 => by rw [if_neg (Nat.not_lt_zero _)]; exact h q c h1 h2
theorem swM_7 {f : Int → Int} {R : Nat → Nat → Nat} {m a n : Nat} (h : swM f R m a n 7) : rwM f (swR R a n) m := fun q c h1 h2 => by have h3 := h q c h1 h2; rw [if_pos h2] at h3; exact h3
theorem swM_s {f : Int → Int} {R : Nat → Nat → Nat} {m a n j : Nat} (ha : a < m) (hn : n < m) (hj : j < 7) (h : swM f R m a n j) : swM (up1 (up1 f (7 * (a : Int) + j) (R n j : Int)) (7 * (n : Int) + j) (R a j : Int)) R m a n (j + 1) := by
  intro q c h1 h2
  have h3 := h q c h1 h2
  by_cases e : c = j
  · subst e
    rw [if_pos (Nat.lt_succ_self _)]
    unfold swR
    by_cases e1 : q = n
    · subst e1
      rw [up1_at]
      split
      · next e2 => rw [e2]
      · rw [if_pos rfl]
    · by_cases e2 : q = a
      · subst e2
        rw [up1_ne _ _ (by omega), up1_at, if_pos rfl]
      · rw [up1_ne _ _ (by omega), up1_ne _ _ (by omega), if_neg e2, if_neg e1, h3, if_neg (Nat.lt_irrefl _)]
  · rw [up1_ne _ _ (by omega), up1_ne _ _ (by omega), h3]
    by_cases e1 : c < j
    · rw [if_pos e1, if_pos (by omega)]
    · rw [if_neg e1, if_neg (by omega)]
def tkR (R : Nat → Nat → Nat) (r n b : Nat) : Nat → Nat → Nat := fun q c => if q = r then tk (R r c) (R n c) b else R q c
def tkM (f : Int → Int) (R : Nat → Nat → Nat) (m r n b j : Nat) : Prop := ∀ q c : Nat, q < m → c < 7 → f (7 * (q : Int) + c) = (if c < j then (tkR R r n b q c : Int) else (R q c : Int))
theorem tkM_0 {f : Int → Int} {R : Nat → Nat → Nat} {m r n b : Nat} (h : rwM f R m) : tkM f R m r n b 0 := fun q c h1 h2 => by rw [if_neg (Nat.not_lt_zero _)]; exact h q c h1 h2
theorem tkM_7 {f : Int → Int} {R : Nat → Nat → Nat} {m r n b : Nat} (h : tkM f R m r n b 7) : rwM f (tkR R r n b) m := fun q c h1 h2 => by have h3 := h q c h1 h2; rw [if_pos h2] at h3; exact h3
theorem tkM_s {f : Int → Int} {R : Nat → Nat → Nat} {m r n b j : Nat} {v : Int} (hj : j < 7) (h : tkM f R m r n b j) (hv : v = (tk (R r j) (R n j) b : Int)) : tkM (up1 f (7 * (r : Int) + j) v) R m r n b (j + 1) := by
  intro q c h1 h2
  have h3 := h q c h1 h2
  by_cases e : c = j
  · subst e
    rw [if_pos (Nat.lt_succ_self _)]
    unfold tkR
    by_cases e2 : q = r
    · subst e2
      rw [up1_at, if_pos rfl, hv]
    · rw [up1_ne _ _ (by omega), if_neg e2, h3, if_neg (Nat.lt_irrefl _)]
  · rw [up1_ne _ _ (by omega), h3]
    by_cases e1 : c < j
    · rw [if_pos e1, if_pos (by omega)]
    · rw [if_neg e1, if_neg (by omega)]
set_option maxRecDepth 20000 in
set_option maxHeartbeats 4000000 in
theorem r_inverse {d : Nat} {G : zG} {A : Int → Int → Int} {P : Option zV → zG → Prop} {v : Nat} (hv : v < 10007) (k : P (some (0, (ivN v : Int))) (gw G A)) : ZE d M_Ref_inverse (gw G A) 0 [(0, (v : Int)), (9, 0), (9, 0), (9, 0)] [] P := by
  refine ZE.iconst (n := 1) d_Ref_inverse_0 ?_
  refine ZE.istore_n (ls2 := [(0, (v : Int)), (0, 1), (9, 0), (9, 0)]) d_Ref_inverse_1 (Nat.le_of_ble_eq_true rfl) rfl ?_
  refine ZE.iload_n d_Ref_inverse_2 rfl ?_
  refine ZE.istore_n (ls2 := [(0, (v : Int)), (0, 1), (0, (v : Int)), (9, 0)]) d_Ref_inverse_3 (Nat.le_of_ble_eq_true rfl) rfl ?_
  refine ZE.sipush (n := 10005) d_Ref_inverse_4 rfl ?_
  refine ZE.istore_n (ls2 := [(0, (v : Int)), (0, 1), (0, (v : Int)), (0, 10005)]) d_Ref_inverse_7 (Nat.le_of_ble_eq_true rfl) rfl ?_
  have L8 : ∀ (t : Nat) (f0 : Nat) (lf : Nat) (al1 : Nat) (by1 : Nat) (hlf : lf < 2 ^ f0 ∧ lf < 20000) (hal : al1 < 10007) (hby : by1 < 10007) (hiv : ivF f0 lf al1 by1 = ivN v), lf < t → ZE d M_Ref_inverse (gw G A) 8 [(0, (v : Int)), (0, (al1 : Int)), (0, (by1 : Int)), (0, (lf : Int))] [] P := by
    intro t
    induction t with
    | zero => intro f0 lf al1 by1 hlf hal hby hiv hm; exact absurd hm (Nat.not_lt_zero _)
    | succ t ih =>
      intro f0 lf al1 by1 hlf hal hby hiv hm
      have hmm1 := Nat.mul_le_mul (show al1 ≤ 10006 by omega) (show by1 ≤ 10006 by omega)
      have hmm2 := Nat.mul_le_mul (show by1 ≤ 10006 by omega) (show by1 ≤ 10006 by omega)
      refine ZE.iload_n d_Ref_inverse_8 rfl ?_
      refine ZE.if_le (tgt := 42) d_Ref_inverse_9 rfl (by unfold zR; omega) (fun c9 => ?_) (fun c9 => ?_)
      · have e1 : lf = 0 := by omega
        subst e1
        rw [ivF_0] at hiv
        rw [← hiv] at k
        refine ZE.iload_n d_Ref_inverse_42 rfl ?_
        refine ZE.iret d_Ref_inverse_43 rfl ?_
        exact k
      · obtain ⟨f, rfl⟩ : ∃ f, f0 = f + 1 := ⟨f0 - 1, by have : f0 ≠ 0 := (fun q => by subst q; omega); omega⟩
        have hlf2 : lf / 2 < 2 ^ f := by have := hlf.1; rw [Nat.pow_succ] at this; omega
        refine ZE.iload_n d_Ref_inverse_12 rfl ?_
        refine ZE.iconst (n := 2) d_Ref_inverse_13 ?_
        refine ZE.iremP d_Ref_inverse_14 (by omega) ?_
        refine ZE.iconst (n := 1) d_Ref_inverse_15 ?_
        refine ZE.icmp_ne (tgt := 27) d_Ref_inverse_16 rfl (by unfold zR; omega) (by unfold zR; omega) (fun c16 => ?_) (fun c16 => ?_)
        · refine ZE.iload_n d_Ref_inverse_27 rfl ?_
          refine ZE.iload_n d_Ref_inverse_28 rfl ?_
          refine ZE.imul d_Ref_inverse_29 ?_
          rw [show ((by1 : Int) * (by1 : Int) : Int) = ((by1 * by1 : Nat) : Int) from (Int.natCast_mul _ _).symm]
          refine ZE.sipush (n := 10007) d_Ref_inverse_30 rfl ?_
          refine ZE.iremP d_Ref_inverse_33 (by omega) ?_
          rw [show (((by1 * by1 : Nat) : Int) % 10007 : Int) = ((by1 * by1 % 10007 : Nat) : Int) from (by omega)]
          refine ZE.istore_n (ls2 := [(0, (v : Int)), (0, (al1 : Int)), (0, ((by1 * by1 % 10007 : Nat) : Int)), (0, (lf : Int))]) d_Ref_inverse_34 (Nat.le_of_ble_eq_true rfl) rfl ?_
          refine ZE.iload_n d_Ref_inverse_35 rfl ?_
          refine ZE.iconst (n := 2) d_Ref_inverse_36 ?_
          refine ZE.idivP d_Ref_inverse_37 (by omega) ?_
          refine ZE.istore_n (ls2 := [(0, (v : Int)), (0, (al1 : Int)), (0, ((by1 * by1 % 10007 : Nat) : Int)), (0, (lf : Int) / 2)]) d_Ref_inverse_38 (Nat.le_of_ble_eq_true rfl) rfl ?_
          refine ZE.goto (tgt := 8) d_Ref_inverse_39 rfl ?_
          rw [show (lf : Int) / 2 = ((lf / 2 : Nat) : Int) by omega]
          have e1 : ivF (f + 1) lf al1 by1 = ivF f (lf / 2) (if lf % 2 = 1 then al1 * by1 % 10007 else al1) (by1 * by1 % 10007) := if_neg (by omega)
          rw [if_neg (by omega)] at e1
          exact ih f (lf / 2) al1 (by1 * by1 % 10007) (by omega) (by omega) (by omega) (by rw [← e1]; exact hiv) (by omega)
        · refine ZE.iload_n d_Ref_inverse_19 rfl ?_
          refine ZE.iload_n d_Ref_inverse_20 rfl ?_
          refine ZE.imul d_Ref_inverse_21 ?_
          rw [show ((al1 : Int) * (by1 : Int) : Int) = ((al1 * by1 : Nat) : Int) from (Int.natCast_mul _ _).symm]
          refine ZE.sipush (n := 10007) d_Ref_inverse_22 rfl ?_
          refine ZE.iremP d_Ref_inverse_25 (by omega) ?_
          rw [show (((al1 * by1 : Nat) : Int) % 10007 : Int) = ((al1 * by1 % 10007 : Nat) : Int) from (by omega)]
          refine ZE.istore_n (ls2 := [(0, (v : Int)), (0, ((al1 * by1 % 10007 : Nat) : Int)), (0, (by1 : Int)), (0, (lf : Int))]) d_Ref_inverse_26 (Nat.le_of_ble_eq_true rfl) rfl ?_
          refine ZE.iload_n d_Ref_inverse_27 rfl ?_
          refine ZE.iload_n d_Ref_inverse_28 rfl ?_
          refine ZE.imul d_Ref_inverse_29 ?_
          rw [show ((by1 : Int) * (by1 : Int) : Int) = ((by1 * by1 : Nat) : Int) from (Int.natCast_mul _ _).symm]
          refine ZE.sipush (n := 10007) d_Ref_inverse_30 rfl ?_
          refine ZE.iremP d_Ref_inverse_33 (by omega) ?_
          rw [show (((by1 * by1 : Nat) : Int) % 10007 : Int) = ((by1 * by1 % 10007 : Nat) : Int) from (by omega)]
          refine ZE.istore_n (ls2 := [(0, (v : Int)), (0, ((al1 * by1 % 10007 : Nat) : Int)), (0, ((by1 * by1 % 10007 : Nat) : Int)), (0, (lf : Int))]) d_Ref_inverse_34 (Nat.le_of_ble_eq_true rfl) rfl ?_
          refine ZE.iload_n d_Ref_inverse_35 rfl ?_
          refine ZE.iconst (n := 2) d_Ref_inverse_36 ?_
          refine ZE.idivP d_Ref_inverse_37 (by omega) ?_
          refine ZE.istore_n (ls2 := [(0, (v : Int)), (0, ((al1 * by1 % 10007 : Nat) : Int)), (0, ((by1 * by1 % 10007 : Nat) : Int)), (0, (lf : Int) / 2)]) d_Ref_inverse_38 (Nat.le_of_ble_eq_true rfl) rfl ?_
          refine ZE.goto (tgt := 8) d_Ref_inverse_39 rfl ?_
          rw [show (lf : Int) / 2 = ((lf / 2 : Nat) : Int) by omega]
          have e1 : ivF (f + 1) lf al1 by1 = ivF f (lf / 2) (if lf % 2 = 1 then al1 * by1 % 10007 else al1) (by1 * by1 % 10007) := if_neg (by omega)
          rw [if_pos (by omega)] at e1
          exact ih f (lf / 2) (al1 * by1 % 10007) (by1 * by1 % 10007) (by omega) (by omega) (by omega) (by rw [← e1]; exact hiv) (by omega)
  exact L8 _ 14 10005 1 v (by decide) (by decide) hv rfl (Nat.lt_succ_self _)
set_option maxRecDepth 20000 in
set_option maxHeartbeats 4000000 in
theorem r_takeOff {d : Nat} {G : zG} {A : Int → Int → Int} {P : Option zV → zG → Prop} {o : Int} (hK : RK G o) (hF : RF A o) {r n b m : Nat} {R : Nat → Nat → Nat} (hr : r < m) (hn : n < m) (hm : m ≤ 288) (hne : r ≠ n) (hb : b < 10007) (hRb : ∀ q c, R q c < 10007) (hg : rwM (A (o + 13)) R m) (k : ∀ f, rwM f (tkR R r n b) m → P none (gw G (upA A (o + 13) f))) : ZE d M_Ref_takeOff (gw G A) 0 [(2, o), (0, (r : Int)), (0, (n : Int)), (0, (b : Int)), (9, 0), (9, 0)] [] P := by
  refine ZE.iconst (n := 0) d_Ref_takeOff_0 ?_
  refine ZE.istore (ls2 := [(2, o), (0, (r : Int)), (0, (n : Int)), (0, (b : Int)), (0, 0), (9, 0)]) d_Ref_takeOff_1 (Nat.le_of_ble_eq_true rfl) rfl ?_
  have L3 : ∀ (t : Nat) (j : Nat) (f : Int → Int) (hj : j ≤ 7) (hf0 : tkM f R m r n b j), 7 - j < t → ZE d M_Ref_takeOff (gw G (upA A (o + 13) f)) 3 [(2, o), (0, (r : Int)), (0, (n : Int)), (0, (b : Int)), (0, (j : Int)), (9, 0)] [] P := by
    intro t
    induction t with
    | zero => intro j f hj hf0 hm; exact absurd hm (Nat.not_lt_zero _)
    | succ t ih =>
      intro j f hj hf0 hm
      have hz := tk_z (v := R r j) (w := R n j) (b := b)
      have hb2 := hRb r j
      have hb3 := Nat.mul_le_mul (show b ≤ 10006 by omega) (show R n j ≤ 10006 by have := hRb n j; omega)
      have hb4 : (b : Int) * (R n j : Int) = ((b * R n j : Nat) : Int) := (Int.natCast_mul _ _).symm
      refine ZE.iload d_Ref_takeOff_3 rfl ?_
      refine ZE.bipush (n := 7) d_Ref_takeOff_5 rfl ?_
      refine ZE.icmp_ge (tgt := 77) d_Ref_takeOff_7 rfl (by unfold zR; omega) (by unfold zR; omega) (fun c7 => ?_) (fun c7 => ?_)
      · have e1 : j = 7 := by omega
        subst e1
        refine ZE.vret d_Ref_takeOff_77 rfl ?_
        exact k f (tkM_7 hf0)
      · refine ZE.aload_n d_Ref_takeOff_10 rfl ?_
        refine ZE.getE (v := o + 13) d_Ref_takeOff_11 f_Ref_46 (tg := 2) rfl hK.1 (hF.uA (by omega)).a22 ?_
        refine ZE.bipush (n := 7) d_Ref_takeOff_14 rfl ?_
        refine ZE.iload_n d_Ref_takeOff_16 rfl ?_
        refine ZE.imul d_Ref_takeOff_17 ?_
        refine ZE.iload d_Ref_takeOff_18 rfl ?_
        refine ZE.iadd d_Ref_takeOff_20 ?_
        refine ZE.ialdE (v := (R r j : Int)) d_Ref_takeOff_21 hK.k13 (by have hn0 := hK.n13; show 0 ≤ ((7 * (r : Int)) + (j : Int)) ∧ ((7 * (r : Int)) + (j : Int)) < gn G (o + 13); omega) ((congrFun (upA_at _ _ _) _).trans (by have q := hf0 r j (by omega) (by omega); rw [if_neg (Nat.lt_irrefl _)] at q; exact q)) ?_
        refine ZE.iload_n d_Ref_takeOff_22 rfl ?_
        refine ZE.aload_n d_Ref_takeOff_23 rfl ?_
        refine ZE.getE (v := o + 13) d_Ref_takeOff_24 f_Ref_46 (tg := 2) rfl hK.1 (hF.uA (by omega)).a22 ?_
        refine ZE.bipush (n := 7) d_Ref_takeOff_27 rfl ?_
        refine ZE.iload_n d_Ref_takeOff_29 rfl ?_
        refine ZE.imul d_Ref_takeOff_30 ?_
        refine ZE.iload d_Ref_takeOff_31 rfl ?_
        refine ZE.iadd d_Ref_takeOff_33 ?_
        refine ZE.ialdE (v := (R n j : Int)) d_Ref_takeOff_34 hK.k13 (by have hn0 := hK.n13; show 0 ≤ ((7 * (n : Int)) + (j : Int)) ∧ ((7 * (n : Int)) + (j : Int)) < gn G (o + 13); omega) ((congrFun (upA_at _ _ _) _).trans (by have q := hf0 n j (by omega) (by omega); rw [if_neg (Nat.lt_irrefl _)] at q; exact q)) ?_
        refine ZE.imul d_Ref_takeOff_35 ?_
        refine ZE.isub d_Ref_takeOff_36 ?_
        refine ZE.sipush (n := 10007) d_Ref_takeOff_37 rfl ?_
        refine ZE.irem d_Ref_takeOff_40 (by unfold zR; omega) (by unfold zR; omega) (by omega) ?_
        refine ZE.istore (ls2 := [(2, o), (0, (r : Int)), (0, (n : Int)), (0, (b : Int)), (0, (j : Int)), (0, ((R r j : Int) - ((b : Int) * (R n j : Int))).tmod 10007)]) d_Ref_takeOff_41 (Nat.le_of_ble_eq_true rfl) rfl ?_
        refine ZE.aload_n d_Ref_takeOff_43 rfl ?_
        refine ZE.getE (v := o + 13) d_Ref_takeOff_44 f_Ref_46 (tg := 2) rfl hK.1 (hF.uA (by omega)).a22 ?_
        refine ZE.bipush (n := 7) d_Ref_takeOff_47 rfl ?_
        refine ZE.iload_n d_Ref_takeOff_49 rfl ?_
        refine ZE.imul d_Ref_takeOff_50 ?_
        refine ZE.iload d_Ref_takeOff_51 rfl ?_
        refine ZE.iadd d_Ref_takeOff_53 ?_
        refine ZE.iload d_Ref_takeOff_54 rfl ?_
        refine ZE.if_ge (tgt := 68) d_Ref_takeOff_56 rfl (by unfold zR; omega) (fun c56 => ?_) (fun c56 => ?_)
        · refine ZE.iload d_Ref_takeOff_68 rfl ?_
          refine ZE.iast d_Ref_takeOff_70 hK.k13 (by have hn0 := hK.n13; show 0 ≤ ((7 * (r : Int)) + (j : Int)) ∧ ((7 * (r : Int)) + (j : Int)) < gn G (o + 13); omega) ?_
          show ZE d M_Ref_takeOff (gw G (up2 (upA A (o + 13) f) (o + 13) ((7 * (r : Int)) + (j : Int)) (((R r j : Int) - ((b : Int) * (R n j : Int))).tmod 10007))) 71 [(2, o), (0, (r : Int)), (0, (n : Int)), (0, (b : Int)), (0, (j : Int)), (0, ((R r j : Int) - ((b : Int) * (R n j : Int))).tmod 10007)] [] _
          rw [up2_upA]
          refine ZE.iinc (ls2 := [(2, o), (0, (r : Int)), (0, (n : Int)), (0, (b : Int)), (0, (j : Int) + 1), (0, ((R r j : Int) - ((b : Int) * (R n j : Int))).tmod 10007)]) d_Ref_takeOff_71 rfl rfl ?_
          refine ZE.goto (tgt := 3) d_Ref_takeOff_74 rfl ?_
          refine ZE.mask [true, true, true, true, true, false] ?_
          show ZE d M_Ref_takeOff (gw G (upA A (o + 13) (up1 f ((7 * (r : Int)) + (j : Int)) (((R r j : Int) - ((b : Int) * (R n j : Int))).tmod 10007)))) 3 [(2, o), (0, (r : Int)), (0, (n : Int)), (0, (b : Int)), (0, (j : Int) + 1), (9, 0)] [] _
          rw [show (j : Int) + 1 = ((j + 1 : Nat) : Int) by omega]
          exact ih (j + 1) _ (by omega) (tkM_s (by omega) hf0 (hz.1.2 (by omega))) (by omega)
        · refine ZE.iload d_Ref_takeOff_59 rfl ?_
          refine ZE.sipush (n := 10007) d_Ref_takeOff_61 rfl ?_
          refine ZE.iadd d_Ref_takeOff_64 ?_
          refine ZE.goto (tgt := 70) d_Ref_takeOff_65 rfl ?_
          refine ZE.iast d_Ref_takeOff_70 hK.k13 (by have hn0 := hK.n13; show 0 ≤ ((7 * (r : Int)) + (j : Int)) ∧ ((7 * (r : Int)) + (j : Int)) < gn G (o + 13); omega) ?_
          show ZE d M_Ref_takeOff (gw G (up2 (upA A (o + 13) f) (o + 13) ((7 * (r : Int)) + (j : Int)) ((((R r j : Int) - ((b : Int) * (R n j : Int))).tmod 10007) + 10007))) 71 [(2, o), (0, (r : Int)), (0, (n : Int)), (0, (b : Int)), (0, (j : Int)), (0, ((R r j : Int) - ((b : Int) * (R n j : Int))).tmod 10007)] [] _
          rw [up2_upA]
          refine ZE.iinc (ls2 := [(2, o), (0, (r : Int)), (0, (n : Int)), (0, (b : Int)), (0, (j : Int) + 1), (0, ((R r j : Int) - ((b : Int) * (R n j : Int))).tmod 10007)]) d_Ref_takeOff_71 rfl rfl ?_
          refine ZE.goto (tgt := 3) d_Ref_takeOff_74 rfl ?_
          refine ZE.mask [true, true, true, true, true, false] ?_
          show ZE d M_Ref_takeOff (gw G (upA A (o + 13) (up1 f ((7 * (r : Int)) + (j : Int)) ((((R r j : Int) - ((b : Int) * (R n j : Int))).tmod 10007) + 10007)))) 3 [(2, o), (0, (r : Int)), (0, (n : Int)), (0, (b : Int)), (0, (j : Int) + 1), (9, 0)] [] _
          rw [show (j : Int) + 1 = ((j + 1 : Nat) : Int) by omega]
          exact ih (j + 1) _ (by omega) (tkM_s (by omega) hf0 (hz.1.1 (by omega))) (by omega)
  have L0 := L3 _ 0 (A (o + 13)) (by omega) (tkM_0 hg) (Nat.lt_succ_self _)
  rw [upA_self] at L0
  exact L0
set_option maxRecDepth 20000 in
set_option maxHeartbeats 4000000 in
theorem r_swap {d : Nat} {G : zG} {A : Int → Int → Int} {P : Option zV → zG → Prop} {o : Int} (hK : RK G o) (hF : RF A o) {a n m : Nat} {R : Nat → Nat → Nat} (ha : a < m) (hn : n < m) (hm : m ≤ 288) (hg : rwM (A (o + 13)) R m) (k : ∀ f, rwM f (swR R a n) m → P none (gw G (upA A (o + 13) f))) : ZE d M_Ref_swap (gw G A) 0 [(2, o), (0, (a : Int)), (0, (n : Int)), (9, 0), (9, 0)] [] P := by
  refine ZE.iconst (n := 0) d_Ref_swap_0 ?_
  refine ZE.istore_n (ls2 := [(2, o), (0, (a : Int)), (0, (n : Int)), (0, 0), (9, 0)]) d_Ref_swap_1 (Nat.le_of_ble_eq_true rfl) rfl ?_
  have L2 : ∀ (t : Nat) (j : Nat) (f : Int → Int) (hj : j ≤ 7) (hf0 : swM f R m a n j), 7 - j < t → ZE d M_Ref_swap (gw G (upA A (o + 13) f)) 2 [(2, o), (0, (a : Int)), (0, (n : Int)), (0, (j : Int)), (9, 0)] [] P := by
    intro t
    induction t with
    | zero => intro j f hj hf0 hm; exact absurd hm (Nat.not_lt_zero _)
    | succ t ih =>
      intro j f hj hf0 hm
      refine ZE.iload_n d_Ref_swap_2 rfl ?_
      refine ZE.bipush (n := 7) d_Ref_swap_3 rfl ?_
      refine ZE.icmp_ge (tgt := 62) d_Ref_swap_5 rfl (by unfold zR; omega) (by unfold zR; omega) (fun c5 => ?_) (fun c5 => ?_)
      · have e1 : j = 7 := by omega
        subst e1
        refine ZE.vret d_Ref_swap_62 rfl ?_
        exact k f (swM_7 hf0)
      · refine ZE.aload_n d_Ref_swap_8 rfl ?_
        refine ZE.getE (v := o + 13) d_Ref_swap_9 f_Ref_46 (tg := 2) rfl hK.1 (hF.uA (by omega)).a22 ?_
        refine ZE.bipush (n := 7) d_Ref_swap_12 rfl ?_
        refine ZE.iload_n d_Ref_swap_14 rfl ?_
        refine ZE.imul d_Ref_swap_15 ?_
        refine ZE.iload_n d_Ref_swap_16 rfl ?_
        refine ZE.iadd d_Ref_swap_17 ?_
        refine ZE.ialdE (v := (R a j : Int)) d_Ref_swap_18 hK.k13 (by have hn0 := hK.n13; show 0 ≤ ((7 * (a : Int)) + (j : Int)) ∧ ((7 * (a : Int)) + (j : Int)) < gn G (o + 13); omega) ((congrFun (upA_at _ _ _) _).trans (by have q := hf0 a j (by omega) (by omega); rw [if_neg (Nat.lt_irrefl _)] at q; exact q)) ?_
        refine ZE.istore (ls2 := [(2, o), (0, (a : Int)), (0, (n : Int)), (0, (j : Int)), (0, (R a j : Int))]) d_Ref_swap_19 (Nat.le_of_ble_eq_true rfl) rfl ?_
        refine ZE.aload_n d_Ref_swap_21 rfl ?_
        refine ZE.getE (v := o + 13) d_Ref_swap_22 f_Ref_46 (tg := 2) rfl hK.1 (hF.uA (by omega)).a22 ?_
        refine ZE.bipush (n := 7) d_Ref_swap_25 rfl ?_
        refine ZE.iload_n d_Ref_swap_27 rfl ?_
        refine ZE.imul d_Ref_swap_28 ?_
        refine ZE.iload_n d_Ref_swap_29 rfl ?_
        refine ZE.iadd d_Ref_swap_30 ?_
        refine ZE.aload_n d_Ref_swap_31 rfl ?_
        refine ZE.getE (v := o + 13) d_Ref_swap_32 f_Ref_46 (tg := 2) rfl hK.1 (hF.uA (by omega)).a22 ?_
        refine ZE.bipush (n := 7) d_Ref_swap_35 rfl ?_
        refine ZE.iload_n d_Ref_swap_37 rfl ?_
        refine ZE.imul d_Ref_swap_38 ?_
        refine ZE.iload_n d_Ref_swap_39 rfl ?_
        refine ZE.iadd d_Ref_swap_40 ?_
        refine ZE.ialdE (v := (R n j : Int)) d_Ref_swap_41 hK.k13 (by have hn0 := hK.n13; show 0 ≤ ((7 * (n : Int)) + (j : Int)) ∧ ((7 * (n : Int)) + (j : Int)) < gn G (o + 13); omega) ((congrFun (upA_at _ _ _) _).trans (by have q := hf0 n j (by omega) (by omega); rw [if_neg (Nat.lt_irrefl _)] at q; exact q)) ?_
        refine ZE.iast d_Ref_swap_42 hK.k13 (by have hn0 := hK.n13; show 0 ≤ ((7 * (a : Int)) + (j : Int)) ∧ ((7 * (a : Int)) + (j : Int)) < gn G (o + 13); omega) ?_
        show ZE d M_Ref_swap (gw G (up2 (upA A (o + 13) f) (o + 13) ((7 * (a : Int)) + (j : Int)) (R n j : Int))) 43 [(2, o), (0, (a : Int)), (0, (n : Int)), (0, (j : Int)), (0, (R a j : Int))] [] _
        rw [up2_upA]
        refine ZE.aload_n d_Ref_swap_43 rfl ?_
        refine ZE.getE (v := o + 13) d_Ref_swap_44 f_Ref_46 (tg := 2) rfl hK.1 (hF.uA (by omega)).a22 ?_
        refine ZE.bipush (n := 7) d_Ref_swap_47 rfl ?_
        refine ZE.iload_n d_Ref_swap_49 rfl ?_
        refine ZE.imul d_Ref_swap_50 ?_
        refine ZE.iload_n d_Ref_swap_51 rfl ?_
        refine ZE.iadd d_Ref_swap_52 ?_
        refine ZE.iload d_Ref_swap_53 rfl ?_
        refine ZE.iast d_Ref_swap_55 hK.k13 (by have hn0 := hK.n13; show 0 ≤ ((7 * (n : Int)) + (j : Int)) ∧ ((7 * (n : Int)) + (j : Int)) < gn G (o + 13); omega) ?_
        show ZE d M_Ref_swap (gw G (up2 (upA A (o + 13) (up1 f ((7 * (a : Int)) + (j : Int)) (R n j : Int))) (o + 13) ((7 * (n : Int)) + (j : Int)) (R a j : Int))) 56 [(2, o), (0, (a : Int)), (0, (n : Int)), (0, (j : Int)), (0, (R a j : Int))] [] _
        rw [up2_upA]
        refine ZE.iinc (ls2 := [(2, o), (0, (a : Int)), (0, (n : Int)), (0, (j : Int) + 1), (0, (R a j : Int))]) d_Ref_swap_56 rfl rfl ?_
        refine ZE.goto (tgt := 2) d_Ref_swap_59 rfl ?_
        refine ZE.mask [true, true, true, true, false] ?_
        show ZE d M_Ref_swap (gw G (upA A (o + 13) (up1 (up1 f ((7 * (a : Int)) + (j : Int)) (R n j : Int)) ((7 * (n : Int)) + (j : Int)) (R a j : Int)))) 2 [(2, o), (0, (a : Int)), (0, (n : Int)), (0, (j : Int) + 1), (9, 0)] [] _
        rw [show (j : Int) + 1 = ((j + 1 : Nat) : Int) by omega]
        exact ih (j + 1) _ (by omega) (swM_s ha hn (by omega) hf0) (by omega)
  have L0 := L2 _ 0 (A (o + 13)) (by omega) (swM_0 hg) (Nat.lt_succ_self _)
  rw [upA_self] at L0
  exact L0
