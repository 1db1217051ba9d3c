theorem hasB_sev {S k : Nat} (hk : k < 7) : hasB S (sev k : Int) = S.testBit k := by
  have h := plc_sev k hk
  unfold hasB
  rw [h, Int.toNat_natCast, decide_eq_true (by omega), Bool.true_and]
theorem smF_sk {S n k : Nat} : smF S n (k + 1) = if S.testBit k = true then strp (sev k) (smF S n k) else smF S n k := rfl
theorem pow31 {v t n : Nat} (h1 : 1 ≤ v) (h2 : v * 2 ^ t ≤ n) (hn : n < 2147483648) : t < 31 := by
  rcases Nat.lt_or_ge t 31 with q | q
  · exact q
  · have h3 : 2 ^ 31 ≤ 2 ^ t := Nat.pow_le_pow_right (by omega) q
    have h4 : 2 ^ t ≤ v * 2 ^ t := Nat.le_mul_of_pos_left _ h1
    omega
theorem pow_st {v t n p : Nat} (hp : 2 ≤ p) (h : v % p = 0) (h2 : v * 2 ^ t ≤ n) : v / p * 2 ^ (t + 1) ≤ n := by
  have h3 : v / p * p = v := Nat.div_mul_cancel (Nat.dvd_of_mod_eq_zero h)
  have h4 : v / p * 2 ≤ v / p * p := Nat.mul_le_mul_left _ hp
  have h5 : v / p * 2 ^ (t + 1) = v / p * 2 * 2 ^ t := by rw [Nat.pow_succ, Nat.mul_comm (2 ^ t) 2, Nat.mul_assoc]
  rw [h5]
  exact Nat.le_trans (Nat.mul_le_mul_right _ (by omega)) h2
theorem nN_2 {S : Nat} (hS : S < 128) (hp : pop S ≤ 5) (k : Nat) : nN 2 S k = tN S k := by unfold nN tN; rw [prL_2 hS hp]
theorem nC_2 {S : Nat} (hS : S < 128) (hp : pop S ≤ 5) (k : Nat) : nC 2 S k = tC S k := by unfold nC tC; rw [prL_2 hS hp]
theorem nIx_2 {S : Nat} (hS : S < 128) (hp : pop S ≤ 5) (k : Nat) : nIx 2 S k = tI S k := by unfold nIx tI; rw [prL_2 hS hp]
theorem okG_ta {S : Nat} (hS : S < 128) (hp : pop S ≤ 5) : ∀ n, okG 2 S n = taOk S n := by
  intro n
  induction n with
  | zero => rfl
  | succ n ih =>
    have e : decide (snV 2 S (cnt (apB S 2) n : Int) = (n : Int) + 1) = (decide (cnt (apB S 2) n < (tws S).length) && decide (tN S (cnt (apB S 2) n) = n + 1)) := by
      unfold snV
      rw [prL_2 hS hp, Int.toNat_natCast, nN_2 hS hp]
      by_cases q : cnt (apB S 2) n < (tws S).length
      · rw [if_pos (by omega), decide_eq_true q, Bool.true_and]
        exact decide_eq_decide.mpr ⟨fun z => by omega, fun z => by omega⟩
      · rw [if_neg (by omega), decide_eq_false q, Bool.false_and]
        exact decide_eq_false (by omega)
    show (okG 2 S n && (!apB S 2 n || decide (snV 2 S (cnt (apB S 2) n : Int) = (n : Int) + 1))) = (taOk S n && (!apB S 2 n || (decide (cnt (apB S 2) n < (tws S).length) && decide (tN S (cnt (apB S 2) n) = n + 1))))
    rw [ih, e]
theorem taOk_cnt {S : Nat} : ∀ n, taOk S n = true → cnt (apB S 2) n ≤ (tws S).length := by
  intro n
  induction n with
  | zero => intro _; exact Nat.zero_le _
  | succ n ih =>
    intro h
    unfold taOk at h
    rw [Bool.and_eq_true, Bool.or_eq_true, Bool.and_eq_true, decide_eq_true_iff] at h
    have h1 := ih h.1
    show (if apB S 2 n = true then cnt (apB S 2) n + 1 else cnt (apB S 2) n) ≤ _
    by_cases q : apB S 2 n = true
    · rw [if_pos q]
      rcases h.2 with z | z
      · rw [q] at z; exact absurd z (by decide)
      · exact z.1
    · rw [if_neg q]; exact h1
theorem say_taV {S u : Nat} (hS : S < 128) (hp : pop S ≤ 5) (hu : u ≤ 200000) : (sayV 2 S u = true ↔ taV S (u : Int) = true) := by
  unfold sayV taV
  rw [Int.toNat_natCast, okG_ta hS hp, decide_eq_true (show (0 : Int) ≤ (u : Int) ∧ (u : Int) ≤ 200000 by omega), Bool.true_and, Bool.and_eq_true, Bool.and_eq_true, Bool.or_eq_true, decide_eq_true_iff, decide_eq_true_iff, decide_eq_true_iff]
  obtain ⟨c, hc⟩ : ∃ c, c = cnt (apB S 2) (u - 2) := ⟨_, rfl⟩
  rw [← hc]
  have hs : snV 2 S (c : Int) = if c < (tws S).length then (tN S c : Int) else -1 := by
    unfold snV
    rw [prL_2 hS hp, Int.toNat_natCast, nN_2 hS hp]
    by_cases q : c < (tws S).length
    · rw [if_pos q, if_pos (by omega)]
    · rw [if_neg q, if_neg (by omega)]
  rw [hs]
  constructor
  · rintro ⟨h1, h2⟩
    refine ⟨h1, ?_⟩
    by_cases q : c < (tws S).length
    · rw [if_pos q] at h2; right; omega
    · left
      have := taOk_cnt _ h1
      omega
  · rintro ⟨h1, h2⟩
    refine ⟨h1, ?_⟩
    by_cases q : c < (tws S).length
    · rw [if_pos q]; right; omega
    · rw [if_neg q]; left; rfl
set_option maxRecDepth 20000 in
set_option maxHeartbeats 4000000 in
theorem c_reaches {d : Nat} {P : Option zV → zG → Prop} {G : zG} {A : Int → Int → Int} {x : Int} {S T tl : Nat} {tf : Nat → Int} {wl : Nat} {wf : Nat → Int} (h : CI G A x S T tl tf wl wf) {k1 : Int} (hk : zR k1) (k : ∀ B, CI G B x S T tl tf wl wf → cT G A G B x → ((0 ≤ k1 ∧ k1 ≤ 400) ∧ (k1 = 0 ∨ S ≠ 0) → ∃ n, eS B (x + 99) S n ∧ k1.toNat ≤ n ∧ n ≤ 400 ∧ (S = 0 → n = 0)) → P (some (0, b2i ((0 ≤ k1 ∧ k1 ≤ 400) ∧ (k1 = 0 ∨ S ≠ 0)))) (gw G B)) : ZE (d + 4) M_Gre_reaches (gw G A) 0 [(2, x + 99), (0, k1), (0, (S : Int)), (9, 0)] [] P := by
  have hx0 := h.cCK.2.1
  have hgx := h.cL.2
  have hS := h.cS.2
  by_cases q : 0 ≤ k1 ∧ k1 ≤ 400
  · obtain ⟨kn, hkn⟩ : ∃ kn : Nat, k1 = (kn : Int) := ⟨k1.toNat, by omega⟩
    subst hkn
    have hb : zR (A (x + 99) 5) ∧ (A (x + 99) 5 = (S : Int) → ∃ n0 : Nat, n0 ≤ 400 ∧ (S = 0 → n0 = 0) ∧ eS A (x + 99) S n0) := by
      rcases h.cE.2 with z | ⟨S2, n, z1, z2, z3, z4⟩
      · exact ⟨by rw [z]; unfold zR; omega, fun r => by omega⟩
      · have z5 := z4.2.1
        refine ⟨by rw [z5]; unfold zR; omega, fun r => ?_⟩
        have e : S2 = S := by omega
        subst e
        exact ⟨n, z2, z3, z4⟩
    refine e_reachesYes h.cCK.2.2.2.2.2.1 h.cE.1 h.cL.1 (by omega) hS.1 rfl hb.1 hb.2 (k1 := kn) (by omega) (fun B n hE hn h0 hle fr => ?_)
    have e : ∀ a : Int, (a < x + 99 ∨ x + 119 < a) → B a = A a := fun a ha => fr a (by omega)
    have kk := k B (h.sE e ⟨hE.1, Or.inr ⟨S, n, hS.1, hn, h0, hE⟩⟩) (cT.rg e (by omega) (by omega)) (fun r => ⟨n, hE, by rw [Int.toNat_natCast]; exact hle (by omega), hn, h0⟩)
    rw [b2i_c (show ((0 ≤ (kn : Int) ∧ (kn : Int) ≤ 400) ∧ ((kn : Int) = 0 ∨ S ≠ 0)) ↔ (kn = 0 ∨ S ≠ 0) by omega)] at kk
    exact kk
  · refine e_reachesNo hk q ?_
    have kk := k A h cT.rf (fun r => absurd r.1 q)
    rw [b2i_f (fun r => q r.1)] at kk
    exact kk
set_option maxRecDepth 20000 in
set_option maxHeartbeats 4000000 in
theorem c_shown {d : Nat} {P : Option zV → zG → Prop} {G : zG} {A : Int → Int → Int} {x : Int} {S T tl : Nat} {tf : Nat → Int} {wl : Nat} {wf : Nat → Int} (h : CI G A x S T tl tf wl wf) {n : Nat} (hn : n ≤ 400) (h0 : S = 0 → n = 0) (hE : eS A (x + 99) S n) {q : Nat} (hq : q ≤ n) (k : ∀ B, bN B (x + 99 + 5) (gN S q) → CI G B x S T tl tf wl wf → cT G A G B x → P (some (2, x + 99 + 5)) (gw G B)) : ZE (d + 1) M_Gre_shown (gw G A) 0 [(2, x + 99), (0, (q : Int))] [] P := by
  have hx0 := h.cCK.2.1
  refine e_shown h.cCK.2.2.2.2.2.1 hn hE hq (fun B fr hb hE2 => ?_)
  have e : ∀ a : Int, (a < x + 99 ∨ x + 119 < a) → B a = A a := fun a ha => fr a (by omega) (by omega)
  exact k B hb (h.sE e ⟨hE2.1, Or.inr ⟨S, n, h.cS.2.1, hn, h0, hE2⟩⟩) (cT.rg e (by omega) (by omega))
set_option maxRecDepth 20000 in
set_option maxHeartbeats 4000000 in
theorem c_fill2 {P : Option zV → zG → Prop} {G : zG} {A : Int → Int → Int} {x : Int} {S T tl : Nat} {tf : Nat → Int} {wl : Nat} {wf : Nat → Int} (h : CI G A x S T tl tf wl wf) (k : ∀ G2 A2, CI G2 A2 x S T tl tf wl wf → cT G A G2 A2 x → sR G2 A2 (x + 47) (x + 145) 2 S → (∀ a : Int, x + 93 ≤ a → a ≤ x + 144 → A2 a = A a) → P (some (2, x + 47)) (gw G2 A2)) : ZE 10 M_Sea_fill (gw G A) 0 [(2, x + 47), (0, (S : Int)), (9, 0), (9, 0)] [] P := by
  have hx0 := h.cCK.2.1
  have hgx := h.cL.2
  have hE := h.cR.E
  have hS := h.cS.2
  have hW := h.cW
  have hb : zR (A (x + 47) 9) ∧ (A (x + 47) 9 = (S : Int) → nSe A (x + 47) 2 S) := by
    rcases hW.2.2.2.2 with z | ⟨S2, z1, z2, z3⟩
    · exact ⟨by rw [z]; unfold zR; omega, fun r => by omega⟩
    · have z5 := z3.1.1
      refine ⟨by rw [z5]; unfold zR; omega, fun r => ?_⟩
      have e : S2 = S := by omega
      subst e
      exact z3
  refine s_fill (d := 4) hW.1 hW.2.1 h.cL.1 (by omega) (Or.inr rfl) hW.2.2.2.1 hW.2.2.1 hS.1 hS.2 rfl hb.1 hb.2 (fun G2 A2 n m hP hF hN f g hn hm => k G2 A2 (h.fl2 g hP hF hN f) (cT.fl g (Or.inr rfl) (by omega) f hn hm) ⟨hW.1.gr g (by omega), hF, hP, hN, ⟨by omega, by have := g.1; omega⟩, Or.inr rfl, hS⟩ (fun a h1 h2 => (f.1 a (by omega) (by omega)).elim id (fun z => by have := z.1; omega)))
set_option maxRecDepth 20000 in
set_option maxHeartbeats 4000000 in
theorem c_greatLong {d : Nat} {G : zG} {A : Int → Int → Int} {P : Option zV → zG → Prop} {x : Int} {S T tl : Nat} {tf : Nat → Int} {wl : Nat} {wf : Nat → Int} (h : CI G A x S T tl tf wl wf) {g1 : Int} (hk : zR g1) (k : ∀ G2 A2, CI G2 A2 x S T tl tf wl wf → cT G A G2 A2 x → P (some (0, glV S g1)) (gw G2 A2)) : ZE 11 M_SN_greatLong (gw G A) 0 [(2, x), (0, g1)] [] P := by
  have hx0 := h.cCK.2.1
  have hR := h.cR
  have hL := h.cL.1
  have hgx := h.cL.2
  have hS7 := h.cS.2.1
  have hp5 := h.cS.2.2
  have hE0 := hR.E
  have hL64 := hR.l64
  have hC32 := hR.c32
  have hpl : (prL 1 S).length = (prs S).length := by rw [prL_1 hS7 hp5]
  have hcl : (csA 1 S).length = (csF S 1 128).length := rfl
  refine ZE.aload_n d_SN_greatLong_0 rfl ?_
  refine ZE.getE (v := x + 99) d_SN_greatLong_1 f_SN_31 (tg := 2) rfl h.cCK.1 h.cCF.2.2.2.1 ?_
  refine ZE.iload_n d_SN_greatLong_4 rfl ?_
  refine ZE.aload_n d_SN_greatLong_5 rfl ?_
  refine ZE.getE (v := (S : Int)) d_SN_greatLong_6 f_SN_72 (tg := 0) rfl h.cCK.1 h.cS.1 ?_
  refine ZE.cV [(0, g1), (0, (S : Int))] [] [(2, x + 99), (0, g1), (0, (S : Int)), (9, 0)] d_SN_greatLong_9 l_SN_322 rfl rfl rfl rfl rfl rfl h.cCK.2.2.2.2.2.1.1 ?_
  refine c_reaches h hk (fun B hB hT hX => ?_)
  show ZE 11 M_SN_greatLong (gw G B) 12 [(2, x), (0, g1)] [(0, b2i ((0 ≤ g1 ∧ g1 ≤ 400) ∧ (g1 = 0 ∨ S ≠ 0)))] _
  refine ZE.if_eq (tgt := 29) d_SN_greatLong_12 rfl (zR_b2i _) (fun c12 => ?_) (fun c12 => ?_)
  · replace c12 := b2i_0.mp c12
    refine ZE.iconst (n := (-1)) d_SN_greatLong_29 ?_
    refine ZE.iret d_SN_greatLong_30 rfl ?_
    have k1 := k G B hB hT
    rw [show glV S g1 = (-1) from if_neg c12] at k1
    exact k1
  · replace c12 := b2i_n0.mp c12
    obtain ⟨n, hE, hkn0, hn4, hn0⟩ := hX c12
    obtain ⟨kn, hkn⟩ : ∃ q9 : Nat, g1 = (q9 : Int) := ⟨g1.toNat, by omega⟩
    subst hkn
    rw [Int.toNat_natCast] at hkn0
    refine ZE.aload_n d_SN_greatLong_15 rfl ?_
    refine ZE.getE (v := x + 99) d_SN_greatLong_16 f_SN_31 (tg := 2) rfl h.cCK.1 hB.cCF.2.2.2.1 ?_
    refine ZE.iload_n d_SN_greatLong_19 rfl ?_
    refine ZE.cV [(0, (kn : Int))] [] [(2, x + 99), (0, (kn : Int))] d_SN_greatLong_20 l_SN_325 rfl rfl rfl rfl rfl rfl h.cCK.2.2.2.2.2.1.1 ?_
    refine c_shown hB hn4 hn0 hE (q := kn) (by omega) (fun B2 hg hB2 hT2 => ?_)
    show ZE 11 M_SN_greatLong (gw G B2) 23 [(2, x), (0, (kn : Int))] [(2, x + 99 + 5)] _
    refine ZE.cV [] [] [(2, x + 99 + 5), (9, 0), (9, 0)] d_SN_greatLong_23 l_SN_127 rfl rfl rfl rfl rfl rfl (h.cCK.2.2.2.2.2.1).2.2.2.2.2.2.1.1 ?_
    refine B_digits (h.cCK.2.2.2.2.2.1).2.2.2.2.2.2.1 hg (by have := (gN_9 (S := S) (q := kn) (by omega)).1; omega) ?_
    show ZE 11 M_SN_greatLong (gw G B2) 26 [(2, x), (0, (kn : Int))] [(0, (dl (gN S kn) : Int))] _
    refine ZE.goto (tgt := 30) d_SN_greatLong_26 rfl ?_
    refine ZE.iret d_SN_greatLong_30 rfl ?_
    have k1 := k G B2 hB2 (hT.tr hT2)
    rw [show glV S (kn : Int) = ((dl (gN S kn) : Int)) from by unfold glV; rw [if_pos c12, Int.toNat_natCast]] at k1
    exact k1
set_option maxRecDepth 20000 in
set_option maxHeartbeats 4000000 in
theorem c_greatDigit {d : Nat} {G : zG} {A : Int → Int → Int} {P : Option zV → zG → Prop} {x : Int} {S T tl : Nat} {tf : Nat → Int} {wl : Nat} {wf : Nat → Int} (h : CI G A x S T tl tf wl wf) {g1 i : Int} (hk : zR g1) (hi : zR i) (k : ∀ G2 A2, CI G2 A2 x S T tl tf wl wf → cT G A G2 A2 x → P (some (0, gdV S g1 i)) (gw G2 A2)) : ZE 11 M_SN_greatDigit (gw G A) 0 [(2, x), (0, g1), (0, i)] [] P := by
  have hx0 := h.cCK.2.1
  have hR := h.cR
  have hL := h.cL.1
  have hgx := h.cL.2
  have hS7 := h.cS.2.1
  have hp5 := h.cS.2.2
  have hE0 := hR.E
  have hL64 := hR.l64
  have hC32 := hR.c32
  have hpl : (prL 1 S).length = (prs S).length := by rw [prL_1 hS7 hp5]
  have hcl : (csA 1 S).length = (csF S 1 128).length := rfl
  refine ZE.aload_n d_SN_greatDigit_0 rfl ?_
  refine ZE.getE (v := x + 99) d_SN_greatDigit_1 f_SN_31 (tg := 2) rfl h.cCK.1 h.cCF.2.2.2.1 ?_
  refine ZE.iload_n d_SN_greatDigit_4 rfl ?_
  refine ZE.aload_n d_SN_greatDigit_5 rfl ?_
  refine ZE.getE (v := (S : Int)) d_SN_greatDigit_6 f_SN_72 (tg := 0) rfl h.cCK.1 h.cS.1 ?_
  refine ZE.cV [(0, g1), (0, (S : Int))] [] [(2, x + 99), (0, g1), (0, (S : Int)), (9, 0)] d_SN_greatDigit_9 l_SN_322 rfl rfl rfl rfl rfl rfl h.cCK.2.2.2.2.2.1.1 ?_
  refine c_reaches h hk (fun B hB hT hX => ?_)
  show ZE 11 M_SN_greatDigit (gw G B) 12 [(2, x), (0, g1), (0, i)] [(0, b2i ((0 ≤ g1 ∧ g1 ≤ 400) ∧ (g1 = 0 ∨ S ≠ 0)))] _
  refine ZE.if_eq (tgt := 30) d_SN_greatDigit_12 rfl (zR_b2i _) (fun c12 => ?_) (fun c12 => ?_)
  · replace c12 := b2i_0.mp c12
    refine ZE.iconst (n := (-1)) d_SN_greatDigit_30 ?_
    refine ZE.iret d_SN_greatDigit_31 rfl ?_
    have k1 := k G B hB hT
    rw [show gdV S g1 i = (-1) from if_neg c12] at k1
    exact k1
  · replace c12 := b2i_n0.mp c12
    obtain ⟨n, hE, hkn0, hn4, hn0⟩ := hX c12
    obtain ⟨kn, hkn⟩ : ∃ q9 : Nat, g1 = (q9 : Int) := ⟨g1.toNat, by omega⟩
    subst hkn
    rw [Int.toNat_natCast] at hkn0
    refine ZE.aload_n d_SN_greatDigit_15 rfl ?_
    refine ZE.getE (v := x + 99) d_SN_greatDigit_16 f_SN_31 (tg := 2) rfl h.cCK.1 hB.cCF.2.2.2.1 ?_
    refine ZE.iload_n d_SN_greatDigit_19 rfl ?_
    refine ZE.cV [(0, (kn : Int))] [] [(2, x + 99), (0, (kn : Int))] d_SN_greatDigit_20 l_SN_325 rfl rfl rfl rfl rfl rfl h.cCK.2.2.2.2.2.1.1 ?_
    refine c_shown hB hn4 hn0 hE (q := kn) (by omega) (fun B2 hg hB2 hT2 => ?_)
    show ZE 11 M_SN_greatDigit (gw G B2) 23 [(2, x), (0, (kn : Int)), (0, i)] [(2, x + 99 + 5)] _
    refine ZE.iload_n d_SN_greatDigit_23 rfl ?_
    refine ZE.cV [(0, i)] [] [(2, x + 99 + 5), (0, i), (9, 0), (9, 0)] d_SN_greatDigit_24 l_SN_186 rfl rfl rfl rfl rfl rfl (h.cCK.2.2.2.2.2.1).2.2.2.2.2.2.1.1 ?_
    refine B_digitAt (h.cCK.2.2.2.2.2.1).2.2.2.2.2.2.1 hg (by have := (gN_9 (S := S) (q := kn) (by omega)).1; omega) hi ?_
    show ZE 11 M_SN_greatDigit (gw G B2) 27 [(2, x), (0, (kn : Int)), (0, i)] [(0, dgN (gN S kn) i)] _
    refine ZE.goto (tgt := 31) d_SN_greatDigit_27 rfl ?_
    refine ZE.iret d_SN_greatDigit_31 rfl ?_
    have k1 := k G B2 hB2 (hT.tr hT2)
    rw [show gdV S (kn : Int) i = (dgN (gN S kn) i) from by unfold gdV; rw [if_pos c12, Int.toNat_natCast]] at k1
    exact k1
set_option maxRecDepth 20000 in
set_option maxHeartbeats 4000000 in
theorem c_smooth {d : Nat} {G : zG} {A : Int → Int → Int} {P : Option zV → zG → Prop} {x : Int} {S T tl : Nat} {tf : Nat → Int} {wl : Nat} {wf : Nat → Int} (h : CI G A x S T tl tf wl wf) {n : Int} (hn : zR n) (k : ∀ G2 A2, CI G2 A2 x S T tl tf wl wf → cT G A G2 A2 x → P (some (0, b2i (0 < n ∧ smB S n.toNat = true))) (gw G2 A2)) : ZE 11 M_SN_smooth (gw G A) 0 [(2, x), (0, n), (9, 0), (9, 0), (9, 0), (9, 0), (9, 0)] [] P := by
  have hx0 := h.cCK.2.1
  have hR := h.cR
  have hL := h.cL.1
  have hgx := h.cL.2
  have hS7 := h.cS.2.1
  have hp5 := h.cS.2.2
  have hE0 := hR.E
  have hL64 := hR.l64
  have hC32 := hR.c32
  have hpl : (prL 1 S).length = (prs S).length := by rw [prL_1 hS7 hp5]
  have hcl : (csA 1 S).length = (csF S 1 128).length := rfl
  refine ZE.iload_n d_SN_smooth_0 rfl ?_
  refine ZE.iconst (n := 1) d_SN_smooth_1 ?_
  refine ZE.icmp_ge (tgt := 7) d_SN_smooth_2 rfl hn (by unfold zR; omega) (fun c2 => ?_) (fun c2 => ?_)
  · unfold zR at hn
    obtain ⟨nn, hnn⟩ : ∃ q9 : Nat, n = (q9 : Int) := ⟨n.toNat, by omega⟩
    subst hnn
    refine ZE.iload_n d_SN_smooth_7 rfl ?_
    refine ZE.istore_n (ls2 := [(2, x), (0, (nn : Int)), (0, (nn : Int)), (9, 0), (9, 0), (9, 0), (9, 0)]) d_SN_smooth_8 (Nat.le_of_ble_eq_true rfl) rfl ?_
    refine ZE.iconst (n := 0) d_SN_smooth_9 ?_
    refine ZE.istore_n (ls2 := [(2, x), (0, (nn : Int)), (0, (nn : Int)), (0, 0), (9, 0), (9, 0), (9, 0)]) d_SN_smooth_10 (Nat.le_of_ble_eq_true rfl) rfl ?_
    have L11 : ∀ (tt0 : Nat) (i : Nat) (hi : i ≤ 7), 7 - i < tt0 → ZE 11 M_SN_smooth (gw G A) 11 [(2, x), (0, (nn : Int)), (0, (smF S nn i : Int)), (0, (i : Int)), (9, 0), (9, 0), (9, 0)] [] P := by
      intro tt0
      induction tt0 with
      | zero => intro i hi hm; exact absurd hm (Nat.not_lt_zero _)
      | succ tt0 ih =>
        intro i hi hm
        have hsp := smF_pos S (n := nn) (by omega) i hi
        refine ZE.iload_n d_SN_smooth_11 rfl ?_
        refine ZE.bipush (n := 7) d_SN_smooth_12 rfl ?_
        refine ZE.icmp_ge (tgt := 87) d_SN_smooth_14 rfl (by unfold zR; omega) (by unfold zR; omega) (fun c14 => ?_) (fun c14 => ?_)
        · refine ZE.iload_n d_SN_smooth_87 rfl ?_
          refine ZE.iconst (n := 1) d_SN_smooth_88 ?_
          refine ZE.icmp_ne (tgt := 96) d_SN_smooth_89 rfl (by unfold zR; omega) (by unfold zR; omega) (fun c89 => ?_) (fun c89 => ?_)
          · refine ZE.iconst (n := 0) d_SN_smooth_96 ?_
            refine ZE.zret d_SN_smooth_97 rfl (by omega) ?_
            have e7 : i = 7 := by omega
            subst e7
            have k1 := k G A h cT.rf
            rw [show b2i (0 < (nn : Int) ∧ smB S (nn : Int).toNat = true) = (0) from by rw [Int.toNat_natCast]; exact b2i_f (fun q => by have := of_decide_eq_true q.2; omega)] at k1
            exact k1
          · refine ZE.iconst (n := 1) d_SN_smooth_92 ?_
            refine ZE.goto (tgt := 97) d_SN_smooth_93 rfl ?_
            refine ZE.zret d_SN_smooth_97 rfl (by omega) ?_
            have e7 : i = 7 := by omega
            subst e7
            have k1 := k G A h cT.rf
            rw [show b2i (0 < (nn : Int) ∧ smB S (nn : Int).toNat = true) = (1) from by rw [Int.toNat_natCast]; exact b2i_t ⟨by omega, decide_eq_true (by omega)⟩] at k1
            exact k1
        · refine ZE.iload_n d_SN_smooth_17 rfl ?_
          have hz7 := zPf_sev i (by omega)
          have hsl := sev_2 i (by omega)
          refine ZE.cS [(0, (i : Int))] [] [(0, (i : Int))] d_SN_smooth_18 l_SN_282 rfl rfl rfl rfl rfl rfl ?_
          refine p_at (j := i) (by omega) hL ?_
          show ZE 11 M_SN_smooth (gw G A) 21 [(2, x), (0, (nn : Int)), (0, (smF S nn i : Int)), (0, (i : Int)), (9, 0), (9, 0), (9, 0)] [(0, zPf i)] _
          rw [hz7]
          refine ZE.istore (ls2 := [(2, x), (0, (nn : Int)), (0, (smF S nn i : Int)), (0, (i : Int)), (0, (sev i : Int)), (9, 0), (9, 0)]) d_SN_smooth_21 (Nat.le_of_ble_eq_true rfl) rfl ?_
          refine ZE.iload d_SN_smooth_23 rfl ?_
          refine ZE.iconst (n := 1) d_SN_smooth_25 ?_
          refine ZE.icmp_le (tgt := 45) d_SN_smooth_26 rfl (by unfold zR; omega) (by unfold zR; omega) (fun c26 => ?_) (fun c26 => ?_)
          · exact absurd c26 (by omega)
          · refine ZE.aload_n d_SN_smooth_29 rfl ?_
            refine ZE.getE (v := (S : Int)) d_SN_smooth_30 f_SN_72 (tg := 0) rfl h.cCK.1 h.cS.1 ?_
            refine ZE.iload d_SN_smooth_33 rfl ?_
            refine ZE.cS [(0, (S : Int)), (0, (sev i : Int))] [] [(0, (S : Int)), (0, (sev i : Int))] d_SN_smooth_35 l_SN_96 rfl rfl rfl rfl rfl rfl ?_
            refine p_has hS7 (by unfold zR; omega) hL ?_
            show ZE 11 M_SN_smooth (gw G A) 38 [(2, x), (0, (nn : Int)), (0, (smF S nn i : Int)), (0, (i : Int)), (0, (sev i : Int)), (9, 0), (9, 0)] [(0, b2i (hasB S (sev i : Int) = true))] _
            refine ZE.if_eq (tgt := 45) d_SN_smooth_38 rfl (zR_b2i _) (fun c38 => ?_) (fun c38 => ?_)
            · replace c38 := b2i_0.mp c38
              have hbi : ¬ S.testBit i = true := by rw [hasB_sev (by omega)] at c38; exact c38
              refine ZE.iconst (n := 0) d_SN_smooth_45 ?_
              refine ZE.istore (ls2 := [(2, x), (0, (nn : Int)), (0, (smF S nn i : Int)), (0, (i : Int)), (0, (sev i : Int)), (0, 0), (9, 0)]) d_SN_smooth_46 (Nat.le_of_ble_eq_true rfl) rfl ?_
              refine ZE.iconst (n := 0) d_SN_smooth_48 ?_
              refine ZE.istore (ls2 := [(2, x), (0, (nn : Int)), (0, (smF S nn i : Int)), (0, (i : Int)), (0, (sev i : Int)), (0, 0), (0, 0)]) d_SN_smooth_49 (Nat.le_of_ble_eq_true rfl) rfl ?_
              refine ZE.iload d_SN_smooth_51 rfl ?_
              refine ZE.if_eq (tgt := 81) d_SN_smooth_53 rfl (by unfold zR; omega) (fun c53 => ?_) (fun c53 => ?_)
              · refine ZE.iinc (ls2 := [(2, x), (0, (nn : Int)), (0, (smF S nn i : Int)), (0, (i : Int) + 1), (0, (sev i : Int)), (0, 0), (0, 0)]) d_SN_smooth_81 rfl rfl ?_
                refine ZE.goto (tgt := 11) d_SN_smooth_84 rfl ?_
                refine ZE.mask [true, true, true, true, false, false, false] ?_
                show ZE 11 M_SN_smooth (gw G A) 11 [(2, x), (0, (nn : Int)), (0, (smF S nn i : Int)), (0, (i : Int) + 1), (9, 0), (9, 0), (9, 0)] [] _
                have e1 : smF S nn (i + 1) = smF S nn i := by rw [smF_sk]; exact if_neg hbi
                rw [show ((smF S nn i : Int) : Int) = (smF S nn (i + 1) : Int) by rw [e1]]
                rw [show (i : Int) + 1 = ((i + 1 : Nat) : Int) by omega]
                exact ih (i + 1) (by omega) (by omega)
              · exact absurd c53 (by decide)
            · replace c38 := b2i_n0.mp c38
              have hbi : S.testBit i = true := by rw [hasB_sev (by omega)] at c38; exact c38
              refine ZE.iconst (n := 1) d_SN_smooth_41 ?_
              refine ZE.goto (tgt := 46) d_SN_smooth_42 rfl ?_
              refine ZE.istore (ls2 := [(2, x), (0, (nn : Int)), (0, (smF S nn i : Int)), (0, (i : Int)), (0, (sev i : Int)), (0, 1), (9, 0)]) d_SN_smooth_46 (Nat.le_of_ble_eq_true rfl) rfl ?_
              refine ZE.iconst (n := 0) d_SN_smooth_48 ?_
              refine ZE.istore (ls2 := [(2, x), (0, (nn : Int)), (0, (smF S nn i : Int)), (0, (i : Int)), (0, (sev i : Int)), (0, 1), (0, 0)]) d_SN_smooth_49 (Nat.le_of_ble_eq_true rfl) rfl ?_
              have L51 : ∀ (tt1 : Nat) (v : Nat) (t : Nat) (hvs : strp (sev i) v = strp (sev i) (smF S nn i)) (hv0 : 1 ≤ v) (hvt : v * 2 ^ t ≤ nn), 32 - t < tt1 → ZE 11 M_SN_smooth (gw G A) 51 [(2, x), (0, (nn : Int)), (0, (v : Int)), (0, (i : Int)), (0, (sev i : Int)), (0, 1), (0, (t : Int))] [] P := by
                intro tt1
                induction tt1 with
                | zero => intro v t hvs hv0 hvt hm; exact absurd hm (Nat.not_lt_zero _)
                | succ tt1 ih2 =>
                  intro v t hvs hv0 hvt hm
                  have ht31 := pow31 hv0 hvt (by omega)
                  have hvn : v ≤ nn := Nat.le_trans (Nat.le_mul_of_pos_right _ (Nat.two_pow_pos t)) hvt
                  refine ZE.iload d_SN_smooth_51 rfl ?_
                  refine ZE.if_eq (tgt := 81) d_SN_smooth_53 rfl (by unfold zR; omega) (fun c53 => ?_) (fun c53 => ?_)
                  · exact absurd c53 (by decide)
                  · refine ZE.iload d_SN_smooth_56 rfl ?_
                    refine ZE.bipush (n := 31) d_SN_smooth_58 rfl ?_
                    refine ZE.icmp_ge (tgt := 81) d_SN_smooth_60 rfl (by unfold zR; omega) (by unfold zR; omega) (fun c60 => ?_) (fun c60 => ?_)
                    · exact absurd c60 (by omega)
                    · refine ZE.iload_n d_SN_smooth_63 rfl ?_
                      refine ZE.iload d_SN_smooth_64 rfl ?_
                      refine ZE.iremP d_SN_smooth_66 (by omega) ?_
                      rw [show ((v : Int) % (sev i : Int) : Int) = ((v % sev i : Nat) : Int) from rfl]
                      refine ZE.if_ne (tgt := 81) d_SN_smooth_67 rfl (by have := Nat.mod_lt v (show 0 < sev i by omega); unfold zR; omega) (fun c67 => ?_) (fun c67 => ?_)
                      · refine ZE.iinc (ls2 := [(2, x), (0, (nn : Int)), (0, (v : Int)), (0, (i : Int) + 1), (0, (sev i : Int)), (0, 1), (0, (t : Int))]) d_SN_smooth_81 rfl rfl ?_
                        refine ZE.goto (tgt := 11) d_SN_smooth_84 rfl ?_
                        refine ZE.mask [true, true, true, true, false, false, false] ?_
                        show ZE 11 M_SN_smooth (gw G A) 11 [(2, x), (0, (nn : Int)), (0, (v : Int)), (0, (i : Int) + 1), (9, 0), (9, 0), (9, 0)] [] _
                        have e1 : smF S nn (i + 1) = v := by
                          rw [smF_sk, if_pos hbi, ← hvs]
                          first
                          | exact strp_end (fun z => c67 (by omega))
                          | exact absurd (pow31 hv0 hvt (by omega)) (by omega)
                        rw [show ((v : Int) : Int) = (smF S nn (i + 1) : Int) by rw [e1]]
                        rw [show (i : Int) + 1 = ((i + 1 : Nat) : Int) by omega]
                        exact ih (i + 1) (by omega) (by omega)
                      · refine ZE.iload_n d_SN_smooth_70 rfl ?_
                        refine ZE.iload d_SN_smooth_71 rfl ?_
                        refine ZE.idivP d_SN_smooth_73 (by omega) ?_
                        rw [show ((v : Int) / (sev i : Int) : Int) = ((v / sev i : Nat) : Int) from rfl]
                        refine ZE.istore_n (ls2 := [(2, x), (0, (nn : Int)), (0, ((v / sev i : Nat) : Int)), (0, (i : Int)), (0, (sev i : Int)), (0, 1), (0, (t : Int))]) d_SN_smooth_74 (Nat.le_of_ble_eq_true rfl) rfl ?_
                        refine ZE.iinc (ls2 := [(2, x), (0, (nn : Int)), (0, ((v / sev i : Nat) : Int)), (0, (i : Int)), (0, (sev i : Int)), (0, 1), (0, (t : Int) + 1)]) d_SN_smooth_75 rfl rfl ?_
                        refine ZE.goto (tgt := 51) d_SN_smooth_78 rfl ?_
                        have hdm : v % sev i = 0 := by omega
                        have hst := strp_step (p := sev i) (n := v) (by omega) (by omega) hdm
                        have hdp := Nat.div_pos (Nat.le_of_dvd (by omega) (Nat.dvd_of_mod_eq_zero hdm)) (show 0 < sev i by omega)
                        rw [show (t : Int) + 1 = ((t + 1 : Nat) : Int) by omega]
                        exact ih2 (v / sev i) (t + 1) (by rw [← hst]; exact hvs) (by omega) (pow_st (by omega) hdm hvt) (by have := pow31 hv0 hvt (by omega); omega)
              exact L51 _ (smF S nn i) 0 rfl (by omega) (by omega) (Nat.lt_succ_self _)
    exact L11 _ 0 (by omega) (Nat.lt_succ_self _)
  · refine ZE.iconst (n := 0) d_SN_smooth_5 ?_
    refine ZE.zret d_SN_smooth_6 rfl (by omega) ?_
    have k1 := k G A h cT.rf
    rw [show b2i (0 < n ∧ smB S n.toNat = true) = (0) from b2i_f (fun q => by omega)] at k1
    exact k1
set_option maxRecDepth 20000 in
set_option maxHeartbeats 4000000 in
theorem c_twos {d : Nat} {G : zG} {A : Int → Int → Int} {P : Option zV → zG → Prop} {x : Int} {S T tl : Nat} {tf : Nat → Int} {wl : Nat} {wf : Nat → Int} (h : CI G A x S T tl tf wl wf)  (k : ∀ G2 A2, CI G2 A2 x S T tl tf wl wf → cT G A G2 A2 x → P (some (0, ((tws S).length : Int))) (gw G2 A2)) : ZE 11 M_SN_twos (gw G A) 0 [(2, x)] [] P := by
  have hx0 := h.cCK.2.1
  have hR := h.cR
  have hL := h.cL.1
  have hgx := h.cL.2
  have hS7 := h.cS.2.1
  have hp5 := h.cS.2.2
  have hE0 := hR.E
  have hL64 := hR.l64
  have hC32 := hR.c32
  have hpl : (prL 1 S).length = (prs S).length := by rw [prL_1 hS7 hp5]
  have hcl : (csA 1 S).length = (csF S 1 128).length := rfl
  refine ZE.aload_n d_SN_twos_0 rfl ?_
  refine ZE.getE (v := x + 47) d_SN_twos_1 f_SN_18 (tg := 2) rfl h.cCK.1 h.cCF.2.1 ?_
  refine ZE.aload_n d_SN_twos_4 rfl ?_
  refine ZE.getE (v := (S : Int)) d_SN_twos_5 f_SN_72 (tg := 0) rfl h.cCK.1 h.cS.1 ?_
  refine ZE.cV [(0, (S : Int))] [] [(2, x + 47), (0, (S : Int)), (9, 0), (9, 0)] d_SN_twos_8 l_SN_79 rfl rfl rfl rfl rfl rfl h.cCK.2.2.2.1.1 ?_
  refine c_fill2 h (fun G2 A2 hB hT hW hfr => ?_)
  show ZE 11 M_SN_twos (gw G2 A2) 11 [(2, x)] [(2, x + 47)] _
  refine ZE.getE (v := ((prL 2 S).length : Int)) d_SN_twos_11 f_SN_93 (tg := 0) rfl hB.cCK.2.2.2.1.1 hW.n12 ?_
  refine ZE.iret d_SN_twos_14 rfl ?_
  have k1 := k G2 A2 hB hT
  rw [show ((tws S).length : Int) = (((prL 2 S).length : Int)) from by rw [prL_2 hS7 hp5]] at k1
  exact k1
set_option maxRecDepth 20000 in
set_option maxHeartbeats 4000000 in
theorem c_twoClasses {d : Nat} {G : zG} {A : Int → Int → Int} {P : Option zV → zG → Prop} {x : Int} {S T tl : Nat} {tf : Nat → Int} {wl : Nat} {wf : Nat → Int} (h : CI G A x S T tl tf wl wf)  (k : ∀ G2 A2, CI G2 A2 x S T tl tf wl wf → cT G A G2 A2 x → P (some (0, ((csF S 0 128).length : Int))) (gw G2 A2)) : ZE 11 M_SN_twoClasses (gw G A) 0 [(2, x)] [] P := by
  have hx0 := h.cCK.2.1
  have hR := h.cR
  have hL := h.cL.1
  have hgx := h.cL.2
  have hS7 := h.cS.2.1
  have hp5 := h.cS.2.2
  have hE0 := hR.E
  have hL64 := hR.l64
  have hC32 := hR.c32
  have hpl : (prL 1 S).length = (prs S).length := by rw [prL_1 hS7 hp5]
  have hcl : (csA 1 S).length = (csF S 1 128).length := rfl
  refine ZE.aload_n d_SN_twoClasses_0 rfl ?_
  refine ZE.getE (v := x + 47) d_SN_twoClasses_1 f_SN_18 (tg := 2) rfl h.cCK.1 h.cCF.2.1 ?_
  refine ZE.aload_n d_SN_twoClasses_4 rfl ?_
  refine ZE.getE (v := (S : Int)) d_SN_twoClasses_5 f_SN_72 (tg := 0) rfl h.cCK.1 h.cS.1 ?_
  refine ZE.cV [(0, (S : Int))] [] [(2, x + 47), (0, (S : Int)), (9, 0), (9, 0)] d_SN_twoClasses_8 l_SN_79 rfl rfl rfl rfl rfl rfl h.cCK.2.2.2.1.1 ?_
  refine c_fill2 h (fun G2 A2 hB hT hW hfr => ?_)
  show ZE 11 M_SN_twoClasses (gw G2 A2) 11 [(2, x)] [(2, x + 47)] _
  refine ZE.getE (v := ((csA 2 S).length : Int)) d_SN_twoClasses_11 f_SN_105 (tg := 0) rfl hB.cCK.2.2.2.1.1 hW.n11 ?_
  refine ZE.iret d_SN_twoClasses_14 rfl ?_
  have k1 := k G2 A2 hB hT
  rw [show ((csF S 0 128).length : Int) = (((csA 2 S).length : Int)) from rfl] at k1
  exact k1
set_option maxRecDepth 20000 in
set_option maxHeartbeats 4000000 in
theorem c_twoClass {d : Nat} {G : zG} {A : Int → Int → Int} {P : Option zV → zG → Prop} {x : Int} {S T tl : Nat} {tf : Nat → Int} {wl : Nat} {wf : Nat → Int} (h : CI G A x S T tl tf wl wf) {c : Int} (hc : zR c) {wh : Int} (hw : zR wh) (k : ∀ G2 A2, CI G2 A2 x S T tl tf wl wf → cT G A G2 A2 x → P (some (0, tkV S c wh)) (gw G2 A2)) : ZE 11 M_SN_twoClass (gw G A) 0 [(2, x), (0, c), (0, wh), (9, 0)] [] P := by
  have hx0 := h.cCK.2.1
  have hR := h.cR
  have hL := h.cL.1
  have hgx := h.cL.2
  have hS7 := h.cS.2.1
  have hp5 := h.cS.2.2
  have hE0 := hR.E
  have hL64 := hR.l64
  have hC32 := hR.c32
  have hpl : (prL 1 S).length = (prs S).length := by rw [prL_1 hS7 hp5]
  have hcl : (csA 1 S).length = (csF S 1 128).length := rfl
  refine ZE.aload_n d_SN_twoClass_0 rfl ?_
  refine ZE.getE (v := x + 47) d_SN_twoClass_1 f_SN_18 (tg := 2) rfl h.cCK.1 h.cCF.2.1 ?_
  refine ZE.aload_n d_SN_twoClass_4 rfl ?_
  refine ZE.getE (v := (S : Int)) d_SN_twoClass_5 f_SN_72 (tg := 0) rfl h.cCK.1 h.cS.1 ?_
  refine ZE.cV [(0, (S : Int))] [] [(2, x + 47), (0, (S : Int)), (9, 0), (9, 0)] d_SN_twoClass_8 l_SN_79 rfl rfl rfl rfl rfl rfl h.cCK.2.2.2.1.1 ?_
  refine c_fill2 h (fun G2 A2 hB hT hW hfr => ?_)
  show ZE 11 M_SN_twoClass (gw G2 A2) 11 [(2, x), (0, c), (0, wh), (9, 0)] [(2, x + 47)] _
  refine ZE.iload_n d_SN_twoClass_11 rfl ?_
  have hC2 := hW.c32
  have hL2 := hW.l64
  refine ZE.cV [(0, c)] [] [(2, x + 47), (0, c)] d_SN_twoClass_12 l_SN_139 rfl rfl rfl rfl rfl rfl hB.cCK.2.2.2.1.1 ?_
  refine s_isClass hW.K hW.F hW.n11 (by omega) hc ?_
  show ZE 11 M_SN_twoClass (gw G2 A2) 15 [(2, x), (0, c), (0, wh), (9, 0)] [(0, b2i (0 ≤ c ∧ c < ((csA 2 S).length : Int)))] _
  refine ZE.if_ne (tgt := 20) d_SN_twoClass_15 rfl (zR_b2i _) (fun c15 => ?_) (fun c15 => ?_)
  · replace c15 := b2i_n0.mp c15
    obtain ⟨cn, hcn⟩ : ∃ q : Nat, c = (q : Int) := ⟨c.toNat, by omega⟩
    subst hcn
    have hcl2 : (csA 2 S).length = (csF S 0 128).length := rfl
    have e0 : inW S (cn : Int) = true := decide_eq_true (by omega)
    have hfr2 := hW.fr (c := cn) (by omega)
    refine ZE.aload_n d_SN_twoClass_20 rfl ?_
    refine ZE.getE (v := x + 47) d_SN_twoClass_21 f_SN_18 (tg := 2) rfl hB.cCK.1 hB.cCF.2.1 ?_
    refine ZE.iload_n d_SN_twoClass_24 rfl ?_
    have hu := hW.un (c := cn) (by omega)
    refine ZE.cV [(0, (cn : Int))] [] [(2, x + 47), (0, (cn : Int)), (9, 0)] d_SN_twoClass_25 l_SN_142 rfl rfl rfl rfl rfl rfl hB.cCK.2.2.2.1.1 ?_
    refine s_unitAt hW.K hW.F hW.n11 hC2 (k1 := cn) (by omega) (v1 := A2 (x + 47 + 29) (cn : Int)) rfl (by have := hu.1; omega) ?_
    show ZE 11 M_SN_twoClass (gw G2 A2) 28 [(2, x), (0, (cn : Int)), (0, wh), (9, 0)] [(2, A2 (x + 47 + 29) (cn : Int))] _
    refine ZE.astore_n (ls2 := [(2, x), (0, (cn : Int)), (0, wh), (2, A2 (x + 47 + 29) (cn : Int))]) d_SN_twoClass_28 (Nat.le_of_ble_eq_true rfl) rfl ?_
    refine ZE.iload_n d_SN_twoClass_29 rfl ?_
    rcases (show (wh < 0 ∨ 5 < wh) ∨ wh = 0 ∨ wh = 1 ∨ wh = 2 ∨ wh = 3 ∨ wh = 4 ∨ wh = 5 by omega) with eo | rfl | rfl | rfl | rfl | rfl | rfl
    · refine ZE.tableOut (tgt := 111) d_SN_twoClass_30 (by unfold zR at *; omega) eo rfl ?_
      refine ZE.iconst (n := (-1)) d_SN_twoClass_111 ?_
      refine ZE.iret d_SN_twoClass_112 rfl ?_
      have k1 := k G2 A2 hB hT
      rw [show tkV S (cn : Int) wh = (-1) from by unfold tkV; rw [e0, if_pos rfl, Int.toNat_natCast]; exact tkN_out eo] at k1
      exact k1
    · refine ZE.tableIn (tgt := 68) d_SN_twoClass_30 (by unfold zR; omega) (by omega) rfl rfl ?_
      refine ZE.aload_n d_SN_twoClass_68 rfl ?_
      refine ZE.getE (v := (rad (eA 2 S cn) : Int)) d_SN_twoClass_69 f_SN_146 (tg := 0) rfl hu.2.2.1.1 hu.2.2.2.1.2.2.1 ?_
      refine ZE.iret d_SN_twoClass_72 rfl ?_
      have k1 := k G2 A2 hB hT
      rw [show tkV S (cn : Int) 0 = ((rad (eA 2 S cn) : Int)) from by unfold tkV; rw [e0, if_pos rfl, Int.toNat_natCast]; exact rfl] at k1
      exact k1
    · refine ZE.tableIn (tgt := 73) d_SN_twoClass_30 (by unfold zR; omega) (by omega) rfl rfl ?_
      refine ZE.aload_n d_SN_twoClass_73 rfl ?_
      refine ZE.getE (v := (isq (DD 2 (eA 2 S cn)) : Int)) d_SN_twoClass_74 f_SN_154 (tg := 0) rfl hu.2.2.1.1 hu.2.2.2.1.2.2.2.2.1 ?_
      refine ZE.iret d_SN_twoClass_77 rfl ?_
      have k1 := k G2 A2 hB hT
      rw [show tkV S (cn : Int) 1 = ((isq (DD 2 (eA 2 S cn)) : Int)) from by unfold tkV; rw [e0, if_pos rfl, Int.toNat_natCast]; exact rfl] at k1
      exact k1
    · refine ZE.tableIn (tgt := 78) d_SN_twoClass_30 (by unfold zR; omega) (by omega) rfl rfl ?_
      refine ZE.aload_n d_SN_twoClass_78 rfl ?_
      refine ZE.getE (v := (rnd (DD 2 (eA 2 S cn)) : Int)) d_SN_twoClass_79 f_SN_157 (tg := 0) rfl hu.2.2.1.1 hu.2.2.2.1.2.2.2.2.2.1 ?_
      refine ZE.iret d_SN_twoClass_82 rfl ?_
      have k1 := k G2 A2 hB hT
      rw [show tkV S (cn : Int) 2 = ((rnd (DD 2 (eA 2 S cn)) : Int)) from by unfold tkV; rw [e0, if_pos rfl, Int.toNat_natCast]; exact rfl] at k1
      exact k1
    · refine ZE.tableIn (tgt := 83) d_SN_twoClass_30 (by unfold zR; omega) (by omega) rfl rfl ?_
      refine ZE.aload_n d_SN_twoClass_83 rfl ?_
      refine ZE.getE (v := A2 (x + 47 + 29) (cn : Int) + 1) d_SN_twoClass_84 f_SN_167 (tg := 2) rfl hu.2.2.1.1 hu.2.2.2.1.1 ?_
      refine ZE.cV [] [] [(2, A2 (x + 47 + 29) (cn : Int) + 1), (9, 0), (9, 0)] d_SN_twoClass_87 l_SN_127 rfl rfl rfl rfl rfl rfl hu.2.2.1.2.2.1.1 ?_
      refine B_digits hu.2.2.1.2.2.1 hu.2.2.2.1.x (by have := nB_ux hfr2; omega) ?_
      show ZE 11 M_SN_twoClass (gw G2 A2) 90 [(2, x), (0, (cn : Int)), (0, 3), (2, A2 (x + 47 + 29) (cn : Int))] [(0, (dl (ux (DD 2 (eA 2 S cn))) : Int))] _
      refine ZE.iret d_SN_twoClass_90 rfl ?_
      have k1 := k G2 A2 hB hT
      rw [show tkV S (cn : Int) 3 = ((dl (ux (DD 2 (eA 2 S cn))) : Int)) from by unfold tkV; rw [e0, if_pos rfl, Int.toNat_natCast]; exact rfl] at k1
      exact k1
    · refine ZE.tableIn (tgt := 91) d_SN_twoClass_30 (by unfold zR; omega) (by omega) rfl rfl ?_
      refine ZE.aload_n d_SN_twoClass_91 rfl ?_
      refine ZE.getE (v := A2 (x + 47 + 29) (cn : Int) + 3) d_SN_twoClass_92 f_SN_170 (tg := 2) rfl hu.2.2.1.1 hu.2.2.2.1.2.1 ?_
      refine ZE.cV [] [] [(2, A2 (x + 47 + 29) (cn : Int) + 3), (9, 0), (9, 0)] d_SN_twoClass_95 l_SN_127 rfl rfl rfl rfl rfl rfl hu.2.2.1.2.2.2.1.1 ?_
      refine B_digits hu.2.2.1.2.2.2.1 hu.2.2.2.1.y (by have := nB_uy hfr2; omega) ?_
      show ZE 11 M_SN_twoClass (gw G2 A2) 98 [(2, x), (0, (cn : Int)), (0, 4), (2, A2 (x + 47 + 29) (cn : Int))] [(0, (dl (uy (DD 2 (eA 2 S cn))) : Int))] _
      refine ZE.iret d_SN_twoClass_98 rfl ?_
      have k1 := k G2 A2 hB hT
      rw [show tkV S (cn : Int) 4 = ((dl (uy (DD 2 (eA 2 S cn))) : Int)) from by unfold tkV; rw [e0, if_pos rfl, Int.toNat_natCast]; exact rfl] at k1
      exact k1
    · refine ZE.tableIn (tgt := 99) d_SN_twoClass_30 (by unfold zR; omega) (by omega) rfl rfl ?_
      refine ZE.aload_n d_SN_twoClass_99 rfl ?_
      refine ZE.getE (v := x + 47) d_SN_twoClass_100 f_SN_18 (tg := 2) rfl hB.cCK.1 hB.cCF.2.1 ?_
      refine ZE.iload_n d_SN_twoClass_103 rfl ?_
      refine ZE.cV [(0, (cn : Int))] [] [(2, x + 47), (0, (cn : Int))] d_SN_twoClass_104 l_SN_164 rfl rfl rfl rfl rfl rfl hB.cCK.2.2.2.1.1 ?_
      refine s_indexesOf hW hB.cL.1 (cn := cn) (by omega) ?_
      show ZE 11 M_SN_twoClass (gw G2 A2) 107 [(2, x), (0, (cn : Int)), (0, 5), (2, A2 (x + 47 + 29) (cn : Int))] [(0, ((ix (gA 2 S cn) (bnd S) : Nat) : Int))] _
      refine ZE.cS [(0, ((ix (gA 2 S cn) (bnd S) : Nat) : Int))] [] [(0, ((ix (gA 2 S cn) (bnd S) : Nat) : Int))] d_SN_twoClass_107 l_SN_100 rfl rfl rfl rfl rfl rfl ?_
      refine j_bitCount (n := ix (gA 2 S cn) (bnd S)) (ixA_512 hS7) ?_
      show ZE 11 M_SN_twoClass (gw G2 A2) 110 [(2, x), (0, (cn : Int)), (0, 5), (2, A2 (x + 47 + 29) (cn : Int))] [(0, (pop (ix (gA 2 S cn) (bnd S)) : Int))] _
      refine ZE.iret d_SN_twoClass_110 rfl ?_
      have k1 := k G2 A2 hB hT
      rw [show tkV S (cn : Int) 5 = ((pop (ix (gA 2 S cn) (bnd S)) : Int)) from by unfold tkV; rw [e0, if_pos rfl, Int.toNat_natCast]; show (pop (ix (gP2 S (ux (d2 S cn))) (bnd S)) : Int) = _; rw [ixA_2 hS7 hp5 (by omega)]] at k1
      exact k1
  · replace c15 := b2i_0.mp c15
    refine ZE.iconst (n := (-1)) d_SN_twoClass_18 ?_
    refine ZE.iret d_SN_twoClass_19 rfl ?_
    have k1 := k G2 A2 hB hT
    rw [show tkV S c wh = (-1) from by unfold tkV; exact if_neg (fun q => by have := of_decide_eq_true q; have : (csA 2 S).length = (csF S 0 128).length := rfl; omega)] at k1
    exact k1
set_option maxRecDepth 20000 in
set_option maxHeartbeats 4000000 in
theorem c_two {d : Nat} {G : zG} {A : Int → Int → Int} {P : Option zV → zG → Prop} {x : Int} {S T tl : Nat} {tf : Nat → Int} {wl : Nat} {wf : Nat → Int} (h : CI G A x S T tl tf wl wf) {p : Int} (hp : zR p) {wh : Int} (hw : zR wh) (k : ∀ G2 A2, CI G2 A2 x S T tl tf wl wf → cT G A G2 A2 x → P (some (0, twV S p wh)) (gw G2 A2)) : ZE 11 M_SN_two (gw G A) 0 [(2, x), (0, p), (0, wh), (9, 0)] [] P := by
  have hx0 := h.cCK.2.1
  have hR := h.cR
  have hL := h.cL.1
  have hgx := h.cL.2
  have hS7 := h.cS.2.1
  have hp5 := h.cS.2.2
  have hE0 := hR.E
  have hL64 := hR.l64
  have hC32 := hR.c32
  have hpl : (prL 1 S).length = (prs S).length := by rw [prL_1 hS7 hp5]
  have hcl : (csA 1 S).length = (csF S 1 128).length := rfl
  refine ZE.aload_n d_SN_two_0 rfl ?_
  refine ZE.getE (v := x + 47) d_SN_two_1 f_SN_18 (tg := 2) rfl h.cCK.1 h.cCF.2.1 ?_
  refine ZE.aload_n d_SN_two_4 rfl ?_
  refine ZE.getE (v := (S : Int)) d_SN_two_5 f_SN_72 (tg := 0) rfl h.cCK.1 h.cS.1 ?_
  refine ZE.cV [(0, (S : Int))] [] [(2, x + 47), (0, (S : Int)), (9, 0), (9, 0)] d_SN_two_8 l_SN_79 rfl rfl rfl rfl rfl rfl h.cCK.2.2.2.1.1 ?_
  refine c_fill2 h (fun G2 A2 hB hT hW hfr => ?_)
  show ZE 11 M_SN_two (gw G2 A2) 11 [(2, x), (0, p), (0, wh), (9, 0)] [(2, x + 47)] _
  refine ZE.iload_n d_SN_two_11 rfl ?_
  have hC2 := hW.c32
  have hL2 := hW.l64
  have htl : (prL 2 S).length = (tws S).length := by rw [prL_2 hS7 hp5]
  refine ZE.cV [(0, p)] [] [(2, x + 47), (0, p)] d_SN_two_12 l_SN_231 rfl rfl rfl rfl rfl rfl hB.cCK.2.2.2.1.1 ?_
  refine s_isCouple hW.K hW.F hW.n12 hL2 hp ?_
  show ZE 11 M_SN_two (gw G2 A2) 15 [(2, x), (0, p), (0, wh), (9, 0)] [(0, b2i (0 ≤ p ∧ p < ((prL 2 S).length : Int)))] _
  refine ZE.if_ne (tgt := 20) d_SN_two_15 rfl (zR_b2i _) (fun c15 => ?_) (fun c15 => ?_)
  · replace c15 := b2i_n0.mp c15
    obtain ⟨pn, hpn⟩ : ∃ q : Nat, p = (q : Int) := ⟨p.toNat, by omega⟩
    subst hpn
    have e0 : inT S (pn : Int) = true := decide_eq_true (by omega)
    have hn2 := nN_2 hS7 hp5 pn
    have hc2 := nC_2 hS7 hp5 pn
    have hi2 := nIx_2 hS7 hp5 pn
    refine ZE.aload_n d_SN_two_20 rfl ?_
    refine ZE.getE (v := x + 47) d_SN_two_21 f_SN_18 (tg := 2) rfl hB.cCK.1 hB.cCF.2.1 ?_
    refine ZE.iload_n d_SN_two_24 rfl ?_
    have hc1 := hW.cp (k := pn) (by omega)
    have hvk := hW.v (k := pn) (by omega)
    refine ZE.cV [(0, (pn : Int))] [] [(2, x + 47), (0, (pn : Int)), (9, 0)] d_SN_two_25 l_SN_118 rfl rfl rfl rfl rfl rfl hB.cCK.2.2.2.1.1 ?_
    refine s_coupleAt hW.K hW.F hW.n12 hL2 (k1 := pn) (by omega) (v1 := A2 (x + 47 + 30) (pn : Int)) rfl (by omega) ?_
    show ZE 11 M_SN_two (gw G2 A2) 28 [(2, x), (0, (pn : Int)), (0, wh), (9, 0)] [(2, A2 (x + 47 + 30) (pn : Int))] _
    refine ZE.astore_n (ls2 := [(2, x), (0, (pn : Int)), (0, wh), (2, A2 (x + 47 + 30) (pn : Int))]) d_SN_two_28 (Nat.le_of_ble_eq_true rfl) rfl ?_
    refine ZE.iload_n d_SN_two_29 rfl ?_
    rcases (show (wh < 0 ∨ 4 < wh) ∨ wh = 0 ∨ wh = 1 ∨ wh = 2 ∨ wh = 3 ∨ wh = 4 by omega) with eo | rfl | rfl | rfl | rfl | rfl
    · refine ZE.tableOut (tgt := 101) d_SN_two_30 (by unfold zR at *; omega) eo rfl ?_
      refine ZE.iconst (n := (-1)) d_SN_two_101 ?_
      refine ZE.iret d_SN_two_102 rfl ?_
      have k1 := k G2 A2 hB hT
      rw [show twV S (pn : Int) wh = (-1) from by unfold twV; rw [e0, if_pos rfl, Int.toNat_natCast]; exact twN_out eo] at k1
      exact k1
    · refine ZE.tableIn (tgt := 64) d_SN_two_30 (by unfold zR; omega) (by omega) rfl rfl ?_
      refine ZE.aload_n d_SN_two_64 rfl ?_
      refine ZE.getE (v := A2 (x + 47 + 30) (pn : Int) + 3) d_SN_two_65 f_SN_122 (tg := 2) rfl hc1.2.2.1.1.1 hc1.2.2.1.2.1 ?_
      refine ZE.cV [] [] [(2, A2 (x + 47 + 30) (pn : Int) + 3), (9, 0), (9, 0)] d_SN_two_68 l_SN_127 rfl rfl rfl rfl rfl rfl hc1.2.2.1.1.2.2.2.2.1 ?_
      refine B_digits hc1.2.2.1.1.2.2.2.2 hc1.2.2.1.2.2.2.2.2.2.1 (by have := nd_le (b := 1000000000) (n := 1) (by omega) (show nN 2 S pn < 1000000000 ^ 1 by omega); omega) ?_
      show ZE 11 M_SN_two (gw G2 A2) 71 [(2, x), (0, (pn : Int)), (0, 0), (2, A2 (x + 47 + 30) (pn : Int))] [(0, (dl (nN 2 S pn) : Int))] _
      refine ZE.iret d_SN_two_71 rfl ?_
      have k1 := k G2 A2 hB hT
      rw [show twV S (pn : Int) 0 = ((dl (nN 2 S pn) : Int)) from by unfold twV; rw [e0, if_pos rfl, Int.toNat_natCast]; show (dl (tN S pn) : Int) = _; rw [hn2]] at k1
      exact k1
    · refine ZE.tableIn (tgt := 72) d_SN_two_30 (by unfold zR; omega) (by omega) rfl rfl ?_
      refine ZE.aload_n d_SN_two_72 rfl ?_
      refine ZE.getE (v := (nC 2 S pn : Int)) d_SN_two_73 f_SN_329 (tg := 0) rfl hc1.2.2.1.1.1 hc1.2.2.2.1 ?_
      refine ZE.iret d_SN_two_76 rfl ?_
      have k1 := k G2 A2 hB hT
      rw [show twV S (pn : Int) 1 = ((nC 2 S pn : Int)) from by unfold twV; rw [e0, if_pos rfl, Int.toNat_natCast]; show (tC S pn : Int) = _; rw [hc2]] at k1
      exact k1
    · refine ZE.tableIn (tgt := 77) d_SN_two_30 (by unfold zR; omega) (by omega) rfl rfl ?_
      refine ZE.aload_n d_SN_two_77 rfl ?_
      refine ZE.getE (v := (nIx 2 S pn : Int)) d_SN_two_78 f_SN_332 (tg := 0) rfl hc1.2.2.1.1.1 hc1.2.2.1.2.2.1 ?_
      refine ZE.iret d_SN_two_81 rfl ?_
      have k1 := k G2 A2 hB hT
      rw [show twV S (pn : Int) 2 = ((nIx 2 S pn : Int)) from by unfold twV; rw [e0, if_pos rfl, Int.toNat_natCast]; show (tI S pn : Int) = _; rw [hi2]] at k1
      exact k1
    · refine ZE.tableIn (tgt := 82) d_SN_two_30 (by unfold zR; omega) (by omega) rfl rfl ?_
      refine ZE.aload_n d_SN_two_82 rfl ?_
      refine ZE.getE (v := A2 (x + 47 + 30) (pn : Int) + 3) d_SN_two_83 f_SN_122 (tg := 2) rfl hc1.2.2.1.1.1 hc1.2.2.1.2.1 ?_
      refine ZE.sipush (n := 10000) d_SN_two_86 rfl ?_
      refine ZE.cV [(0, 10000)] [] [(2, A2 (x + 47 + 30) (pn : Int) + 3), (0, 10000), (9, 0), (9, 0), (9, 0)] d_SN_two_89 l_SN_234 rfl rfl rfl rfl rfl rfl hc1.2.2.1.1.2.2.2.2.1 ?_
      refine B_remainder hc1.2.2.1.1.2.2.2.2 hc1.2.2.1.2.2.2.2.2.2.1 (y := 10000) (by omega) (by omega) (by have := nd_le (b := 1000000000) (n := 1) (by omega) (show nN 2 S pn < 1000000000 ^ 1 by omega); omega) ?_
      show ZE 11 M_SN_two (gw G2 A2) 92 [(2, x), (0, (pn : Int)), (0, 3), (2, A2 (x + 47 + 30) (pn : Int))] [(0, ((nN 2 S pn % 10000 : Nat) : Int))] _
      refine ZE.iret d_SN_two_92 rfl ?_
      have k1 := k G2 A2 hB hT
      rw [show twV S (pn : Int) 3 = (((nN 2 S pn % 10000 : Nat) : Int)) from by unfold twV; rw [e0, if_pos rfl, Int.toNat_natCast]; show ((tN S pn % 10000 : Nat) : Int) = _; rw [hn2]] at k1
      exact k1
    · refine ZE.tableIn (tgt := 93) d_SN_two_30 (by unfold zR; omega) (by omega) rfl rfl ?_
      refine ZE.aload_n d_SN_two_93 rfl ?_
      refine ZE.getE (v := A2 (x + 47 + 30) (pn : Int) + 3) d_SN_two_94 f_SN_122 (tg := 2) rfl hc1.2.2.1.1.1 hc1.2.2.1.2.1 ?_
      refine ZE.cV [] [] [(2, A2 (x + 47 + 30) (pn : Int) + 3)] d_SN_two_97 l_SN_335 rfl rfl rfl rfl rfl rfl hc1.2.2.1.1.2.2.2.2.1 ?_
      refine B_asInt hc1.2.2.1.1.2.2.2.2 hc1.2.2.1.2.2.2.2.2.2.1 (by have := nd_le (b := 1000000000) (n := 1) (by omega) (show nN 2 S pn < 1000000000 ^ 1 by omega); omega) ?_
      show ZE 11 M_SN_two (gw G2 A2) 100 [(2, x), (0, (pn : Int)), (0, 4), (2, A2 (x + 47 + 30) (pn : Int))] [(0, if nN 2 S pn < 1000000000 then (nN 2 S pn : Int) else -1)] _
      refine ZE.iret d_SN_two_100 rfl ?_
      have k1 := k G2 A2 hB hT
      rw [show twV S (pn : Int) 4 = (if nN 2 S pn < 1000000000 then (nN 2 S pn : Int) else -1) from by unfold twV; rw [e0, if_pos rfl, Int.toNat_natCast]; show (tN S pn : Int) = _; rw [if_pos hvk.2.1, hn2]] at k1
      exact k1
  · replace c15 := b2i_0.mp c15
    refine ZE.iconst (n := (-1)) d_SN_two_18 ?_
    refine ZE.iret d_SN_two_19 rfl ?_
    have k1 := k G2 A2 hB hT
    rw [show twV S p wh = (-1) from if_neg (fun q => by have := of_decide_eq_true q; omega)] at k1
    exact k1
set_option maxRecDepth 20000 in
set_option maxHeartbeats 4000000 in
theorem c_twoDigit {d : Nat} {G : zG} {A : Int → Int → Int} {P : Option zV → zG → Prop} {x : Int} {S T tl : Nat} {tf : Nat → Int} {wl : Nat} {wf : Nat → Int} (h : CI G A x S T tl tf wl wf) {p : Int} (hp : zR p) {i : Int} (hi : zR i) (k : ∀ G2 A2, CI G2 A2 x S T tl tf wl wf → cT G A G2 A2 x → P (some (0, tdV S p i)) (gw G2 A2)) : ZE 11 M_SN_twoDigit (gw G A) 0 [(2, x), (0, p), (0, i)] [] P := by
  have hx0 := h.cCK.2.1
  have hR := h.cR
  have hL := h.cL.1
  have hgx := h.cL.2
  have hS7 := h.cS.2.1
  have hp5 := h.cS.2.2
  have hE0 := hR.E
  have hL64 := hR.l64
  have hC32 := hR.c32
  have hpl : (prL 1 S).length = (prs S).length := by rw [prL_1 hS7 hp5]
  have hcl : (csA 1 S).length = (csF S 1 128).length := rfl
  refine ZE.aload_n d_SN_twoDigit_0 rfl ?_
  refine ZE.getE (v := x + 47) d_SN_twoDigit_1 f_SN_18 (tg := 2) rfl h.cCK.1 h.cCF.2.1 ?_
  refine ZE.aload_n d_SN_twoDigit_4 rfl ?_
  refine ZE.getE (v := (S : Int)) d_SN_twoDigit_5 f_SN_72 (tg := 0) rfl h.cCK.1 h.cS.1 ?_
  refine ZE.cV [(0, (S : Int))] [] [(2, x + 47), (0, (S : Int)), (9, 0), (9, 0)] d_SN_twoDigit_8 l_SN_79 rfl rfl rfl rfl rfl rfl h.cCK.2.2.2.1.1 ?_
  refine c_fill2 h (fun G2 A2 hB hT hW hfr => ?_)
  show ZE 11 M_SN_twoDigit (gw G2 A2) 11 [(2, x), (0, p), (0, i)] [(2, x + 47)] _
  refine ZE.iload_n d_SN_twoDigit_11 rfl ?_
  have hC2 := hW.c32
  have hL2 := hW.l64
  have htl : (prL 2 S).length = (tws S).length := by rw [prL_2 hS7 hp5]
  refine ZE.cV [(0, p)] [] [(2, x + 47), (0, p)] d_SN_twoDigit_12 l_SN_231 rfl rfl rfl rfl rfl rfl hB.cCK.2.2.2.1.1 ?_
  refine s_isCouple hW.K hW.F hW.n12 hL2 hp ?_
  show ZE 11 M_SN_twoDigit (gw G2 A2) 15 [(2, x), (0, p), (0, i)] [(0, b2i (0 ≤ p ∧ p < ((prL 2 S).length : Int)))] _
  refine ZE.if_eq (tgt := 36) d_SN_twoDigit_15 rfl (zR_b2i _) (fun c15 => ?_) (fun c15 => ?_)
  · replace c15 := b2i_0.mp c15
    refine ZE.iconst (n := (-1)) d_SN_twoDigit_36 ?_
    refine ZE.iret d_SN_twoDigit_37 rfl ?_
    have k1 := k G2 A2 hB hT
    rw [show tdV S p i = (-1) from if_neg (fun q => by have := of_decide_eq_true q; omega)] at k1
    exact k1
  · replace c15 := b2i_n0.mp c15
    obtain ⟨pn, hpn⟩ : ∃ q : Nat, p = (q : Int) := ⟨p.toNat, by omega⟩
    subst hpn
    have e0 : inT S (pn : Int) = true := decide_eq_true (by omega)
    have hn2 := nN_2 hS7 hp5 pn
    have hc2 := nC_2 hS7 hp5 pn
    have hi2 := nIx_2 hS7 hp5 pn
    refine ZE.aload_n d_SN_twoDigit_18 rfl ?_
    refine ZE.getE (v := x + 47) d_SN_twoDigit_19 f_SN_18 (tg := 2) rfl hB.cCK.1 hB.cCF.2.1 ?_
    refine ZE.iload_n d_SN_twoDigit_22 rfl ?_
    have hc1 := hW.cp (k := pn) (by omega)
    have hvk := hW.v (k := pn) (by omega)
    refine ZE.cV [(0, (pn : Int))] [] [(2, x + 47), (0, (pn : Int)), (9, 0)] d_SN_twoDigit_23 l_SN_118 rfl rfl rfl rfl rfl rfl hB.cCK.2.2.2.1.1 ?_
    refine s_coupleAt hW.K hW.F hW.n12 hL2 (k1 := pn) (by omega) (v1 := A2 (x + 47 + 30) (pn : Int)) rfl (by omega) ?_
    show ZE 11 M_SN_twoDigit (gw G2 A2) 26 [(2, x), (0, (pn : Int)), (0, i)] [(2, A2 (x + 47 + 30) (pn : Int))] _
    refine ZE.getE (v := A2 (x + 47 + 30) (pn : Int) + 3) d_SN_twoDigit_26 f_SN_122 (tg := 2) rfl hc1.2.2.1.1.1 hc1.2.2.1.2.1 ?_
    refine ZE.iload_n d_SN_twoDigit_29 rfl ?_
    refine ZE.cV [(0, i)] [] [(2, A2 (x + 47 + 30) (pn : Int) + 3), (0, i), (9, 0), (9, 0)] d_SN_twoDigit_30 l_SN_186 rfl rfl rfl rfl rfl rfl hc1.2.2.1.1.2.2.2.2.1 ?_
    refine B_digitAt hc1.2.2.1.1.2.2.2.2 hc1.2.2.1.2.2.2.2.2.2.1 (by have := nd_le (b := 1000000000) (n := 1) (by omega) (show nN 2 S pn < 1000000000 ^ 1 by omega); omega) hi ?_
    show ZE 11 M_SN_twoDigit (gw G2 A2) 33 [(2, x), (0, (pn : Int)), (0, i)] [(0, dgN (nN 2 S pn) i)] _
    refine ZE.goto (tgt := 37) d_SN_twoDigit_33 rfl ?_
    refine ZE.iret d_SN_twoDigit_37 rfl ?_
    have k1 := k G2 A2 hB hT
    rw [show tdV S (pn : Int) i = (dgN (nN 2 S pn) i) from by unfold tdV; rw [e0, if_pos rfl, Int.toNat_natCast, hn2]; rfl] at k1
    exact k1
set_option maxRecDepth 20000 in
set_option maxHeartbeats 4000000 in
theorem c_twosAgree {d : Nat} {G : zG} {A : Int → Int → Int} {P : Option zV → zG → Prop} {x : Int} {S T tl : Nat} {tf : Nat → Int} {wl : Nat} {wf : Nat → Int} (h : CI G A x S T tl tf wl wf) {n : Int} (hn : zR n) (k : ∀ G2 A2, CI G2 A2 x S T tl tf wl wf → cT G A G2 A2 x → P (some (0, b2i (taV S n = true))) (gw G2 A2)) : ZE 11 M_SN_twosAgree (gw G A) 0 [(2, x), (0, n)] [] P := by
  have hx0 := h.cCK.2.1
  have hR := h.cR
  have hL := h.cL.1
  have hgx := h.cL.2
  have hS7 := h.cS.2.1
  have hp5 := h.cS.2.2
  have hE0 := hR.E
  have hL64 := hR.l64
  have hC32 := hR.c32
  have hpl : (prL 1 S).length = (prs S).length := by rw [prL_1 hS7 hp5]
  have hcl : (csA 1 S).length = (csF S 1 128).length := rfl
  refine ZE.iload_n d_SN_twosAgree_0 rfl ?_
  refine ZE.cS [(0, n)] [] [(0, n)] d_SN_twosAgree_1 l_SN_288 rfl rfl rfl rfl rfl rfl ?_
  refine c_upTo hn ?_
  show ZE 11 M_SN_twosAgree (gw G A) 4 [(2, x), (0, n)] [(0, b2i (0 ≤ n ∧ n ≤ 200000))] _
  refine ZE.if_eq (tgt := 40) d_SN_twosAgree_4 rfl (zR_b2i _) (fun c4 => ?_) (fun c4 => ?_)
  · replace c4 := b2i_0.mp c4
    refine ZE.iconst (n := 0) d_SN_twosAgree_40 ?_
    refine ZE.zret d_SN_twosAgree_41 rfl (by omega) ?_
    have hno : ¬ taV S n = true := fun q => by unfold taV at q; rw [Bool.and_eq_true, Bool.and_eq_true] at q; have := of_decide_eq_true q.1.1; omega
    have k1 := k G A h cT.rf
    rw [show b2i (taV S n = true) = (0) from b2i_f hno] at k1
    exact k1
  · replace c4 := b2i_n0.mp c4
    obtain ⟨nn, hnn⟩ : ∃ q9 : Nat, n = (q9 : Int) := ⟨n.toNat, by omega⟩
    subst hnn
    refine ZE.aload_n d_SN_twosAgree_7 rfl ?_
    refine ZE.getE (v := x + 93) d_SN_twosAgree_8 f_SN_24 (tg := 2) rfl h.cCK.1 h.cCF.2.2.1 ?_
    refine ZE.aload_n d_SN_twosAgree_11 rfl ?_
    refine ZE.getE (v := (S : Int)) d_SN_twosAgree_12 f_SN_72 (tg := 0) rfl h.cCK.1 h.cS.1 ?_
    refine ZE.cV [(0, (S : Int))] [] [(2, x + 93), (0, (S : Int)), (9, 0), (9, 0), (9, 0)] d_SN_twosAgree_15 l_SN_291 rfl rfl rfl rfl rfl rfl h.cCK.2.2.2.2.1.1 ?_
    refine c_sfill h (fun B w M hQ hB hT => ?_)
    show ZE 11 M_SN_twosAgree (gw G B) 18 [(2, x), (0, (nn : Int))] [(2, x + 93)] _
    refine ZE.aload_n d_SN_twosAgree_18 rfl ?_
    refine ZE.getE (v := x + 47) d_SN_twosAgree_19 f_SN_18 (tg := 2) rfl h.cCK.1 hB.cCF.2.1 ?_
    refine ZE.aload_n d_SN_twosAgree_22 rfl ?_
    refine ZE.getE (v := (S : Int)) d_SN_twosAgree_23 f_SN_72 (tg := 0) rfl h.cCK.1 hB.cS.1 ?_
    refine ZE.cV [(0, (S : Int))] [(2, x + 93)] [(2, x + 47), (0, (S : Int)), (9, 0), (9, 0)] d_SN_twosAgree_26 l_SN_79 rfl rfl rfl rfl rfl rfl h.cCK.2.2.2.1.1 ?_
    refine c_fill2 hB (fun G2 A2 hB2 hT2 hW hfr => ?_)
    show ZE 11 M_SN_twosAgree (gw G2 A2) 29 [(2, x), (0, (nn : Int))] [(2, x + 47), (2, x + 93)] _
    have hQ2 := hQ.ab (fun a h1 h2 => hfr a (by omega) (by omega))
    refine ZE.iload_n d_SN_twosAgree_29 rfl ?_
    refine ZE.cV [(2, x + 47), (0, (nn : Int))] [] [(2, x + 93), (2, x + 47), (0, (nn : Int)), (9, 0), (9, 0), (9, 0), (9, 0)] d_SN_twosAgree_30 l_SN_306 rfl rfl rfl rfl rfl rfl hB2.cCK.2.2.2.2.1.1 ?_
    refine m_saysTheSame hB2.cCK.2.2.2.2.1 hQ2 hW (u := nn) (by omega) ?_
    show ZE 11 M_SN_twosAgree (gw G2 A2) 33 [(2, x), (0, (nn : Int))] [(0, b2i (sayV 2 S nn = true))] _
    refine ZE.if_eq (tgt := 40) d_SN_twosAgree_33 rfl (zR_b2i _) (fun c33 => ?_) (fun c33 => ?_)
    · replace c33 := b2i_0.mp c33
      refine ZE.iconst (n := 0) d_SN_twosAgree_40 ?_
      refine ZE.zret d_SN_twosAgree_41 rfl (by omega) ?_
      have k1 := k G2 A2 hB2 (hT.tr hT2)
      rw [show b2i (taV S (nn : Int) = true) = (0) from b2i_f (fun q => c33 ((say_taV hS7 hp5 (by omega)).mpr q))] at k1
      exact k1
    · replace c33 := b2i_n0.mp c33
      refine ZE.iconst (n := 1) d_SN_twosAgree_36 ?_
      refine ZE.goto (tgt := 41) d_SN_twosAgree_37 rfl ?_
      refine ZE.zret d_SN_twosAgree_41 rfl (by omega) ?_
      have k1 := k G2 A2 hB2 (hT.tr hT2)
      rw [show b2i (taV S (nn : Int) = true) = (1) from b2i_t ((say_taV hS7 hp5 (by omega)).mp c33)] at k1
      exact k1
