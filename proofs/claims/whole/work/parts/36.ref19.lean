def tN (S k : Nat) : Nat := ((tws S).getD k pD).1
def tC (S k : Nat) : Nat := ((tws S).getD k pD).2.1
def tI (S k : Nat) : Nat := ((tws S).getD k pD).2.2
theorem tws_ok {S : Nat} (hS : S < 128) (_hp : pop S ≤ 5) {k : Nat} (hk : k < (tws S).length) : 1 ≤ tN S k ∧ tN S k < 1000000000 ∧ tC S k < (csF S 0 128).length ∧ 1 ≤ tI S k ∧ tI S k ≤ 9 := twF_al hS _ (Nat.le_refl _) k hk
def inT (S : Nat) (p : Int) : Bool := decide (0 ≤ p ∧ p < ((tws S).length : Int))
def twN (S k : Nat) (wh : Int) : Int := if wh = 0 then (dl (tN S k) : Int) else if wh = 1 then (tC S k : Int) else if wh = 2 then (tI S k : Int) else if wh = 3 then ((tN S k % 10000 : Nat) : Int) else if wh = 4 then (tN S k : Int) else -1
def twV (S : Nat) (p wh : Int) : Int := if inT S p then twN S p.toNat wh else -1
theorem twN_out {S k : Nat} {wh : Int} (h : wh < 0 ∨ 4 < wh) : twN S k wh = -1 := by
  unfold twN
  rw [if_neg (by omega), if_neg (by omega), if_neg (by omega), if_neg (by omega), if_neg (by omega)]
def tdV (S : Nat) (p i : Int) : Int := if inT S p then (if 0 ≤ i ∧ i < dl (tN S p.toNat) then (dg 10 (tN S p.toNat) i.toNat : Int) else -1) else -1
def smB (S n : Nat) : Bool := decide (smF S n 7 = 1)
theorem smB_iff {S n : Nat} : smB S n = true ↔ sm S n := decide_eq_true_iff
def smC (S n : Nat) : Nat := cnt (fun k => smB S (k + 1)) n
def suV (S : Nat) (n : Int) : Int := if 0 ≤ n ∧ n ≤ 200000 then (smC S n.toNat : Int) else -1
def fsA (f : Nat → Bool) (a : Nat) : Nat → Int
  | 0 => -1
  | n + 1 => if f a = true then (a : Int) else fsA f (a + 1) n
def nxV (S : Nat) (n : Int) : Int := if n < 0 then -1 else fsA (smB S) (n.toNat + 1) (200000 - n.toNat)
set_option maxRecDepth 20000 in
set_option maxHeartbeats 4000000 in
theorem r_twos {d : Nat} {G : zG} {A : Int → Int → Int} {P : Option zV → zG → Prop} {o : Int} (hK : RK G o) (hF : RF A o) {S : Nat} (hR : RS S A o) (hS7 : S < 128) (hp5 : pop S ≤ 5) (k : P (some (0, ((tws S).length : Int))) (gw G A)) : ZE d M_Ref_twos (gw G A) 0 [(2, o)] [] P := by
  refine ZE.aload_n d_Ref_twos_0 rfl ?_
  refine ZE.getE (v := ((tws S).length : Int)) d_Ref_twos_1 f_Ref_170 (tg := 0) rfl hK.1 hR.nt ?_
  refine ZE.iret d_Ref_twos_4 rfl ?_
  exact k
set_option maxRecDepth 20000 in
set_option maxHeartbeats 4000000 in
theorem r_twoClasses {d : Nat} {G : zG} {A : Int → Int → Int} {P : Option zV → zG → Prop} {o : Int} (hK : RK G o) (hF : RF A o) {S : Nat} (hR : RS S A o) (hS7 : S < 128) (hp5 : pop S ≤ 5) (k : P (some (0, ((csF S 0 128).length : Int))) (gw G A)) : ZE d M_Ref_twoClasses (gw G A) 0 [(2, o)] [] P := by
  refine ZE.aload_n d_Ref_twoClasses_0 rfl ?_
  refine ZE.getE (v := ((csF S 0 128).length : Int)) d_Ref_twoClasses_1 f_Ref_198 (tg := 0) rfl hK.1 hR.n2 ?_
  refine ZE.iret d_Ref_twoClasses_4 rfl ?_
  exact k
set_option maxRecDepth 20000 in
set_option maxHeartbeats 4000000 in
theorem r_isTwo {d : Nat} {G : zG} {A : Int → Int → Int} {P : Option zV → zG → Prop} {o : Int} (hK : RK G o) (hF : RF A o) {S : Nat} (hR : RS S A o) (hS7 : S < 128) (hp5 : pop S ≤ 5) {p : Int} (hp : zR p) (k : P (some (0, b2i (0 ≤ p ∧ p < ((tws S).length : Int)))) (gw G A)) : ZE (d + 1) M_Ref_isTwo (gw G A) 0 [(2, o), (0, p)] [] P := by
  have htl := tws_288 hS7 hp5
  have hcl0 := cls_le hS7 hp5
  refine ZE.iload_n d_Ref_isTwo_0 rfl ?_
  refine ZE.i2l d_Ref_isTwo_1 hp ?_
  refine ZE.lconst d_Ref_isTwo_2 ?_
  show ZE (d + 1) M_Ref_isTwo (gw G A) 3 [(2, o), (0, p)] [(1, 0), (1, p)] _
  refine ZE.aload_n d_Ref_isTwo_3 rfl ?_
  refine ZE.getE (v := ((tws S).length : Int)) d_Ref_isTwo_4 f_Ref_170 (tg := 0) rfl hK.1 hR.nt ?_
  refine ZE.iconst (n := 1) d_Ref_isTwo_7 ?_
  refine ZE.isub d_Ref_isTwo_8 ?_
  refine ZE.i2l d_Ref_isTwo_9 (by unfold zR; omega) ?_
  refine ZE.cS [(1, p), (1, 0), (1, ((tws S).length : Int) - 1)] [] [(1, p), (9, 0), (1, 0), (9, 0), (1, ((tws S).length : Int) - 1), (9, 0)] d_Ref_isTwo_10 l_Ref_111 rfl rfl rfl rfl rfl rfl ?_
  refine r_isIn (by unfold zR at hp; unfold zR64; omega) (by unfold zR64; omega) (by unfold zR64; omega) ?_
  show ZE (d + 1) M_Ref_isTwo (gw G A) 13 [(2, o), (0, p)] [(0, b2i (0 ≤ p ∧ p ≤ ((tws S).length : Int) - 1))] _
  refine ZE.zret d_Ref_isTwo_13 rfl (b2i_01 _) ?_
  rw [b2i_c (show (0 ≤ p ∧ p ≤ ((tws S).length : Int) - 1) ↔ (0 ≤ p ∧ p < ((tws S).length : Int)) by omega)]
  exact k
set_option maxRecDepth 20000 in
set_option maxHeartbeats 4000000 in
theorem r_two {d : Nat} {G : zG} {A : Int → Int → Int} {P : Option zV → zG → Prop} {o : Int} (hK : RK G o) (hF : RF A o) {S : Nat} (hR : RS S A o) (hS7 : S < 128) (hp5 : pop S ≤ 5) {p : Int} (hp : zR p) {wh : Int} (hw : zR wh) (k : P (some (0, twV S p wh)) (gw G A)) : ZE (d + 2) M_Ref_two (gw G A) 0 [(2, o), (0, p), (0, wh)] [] P := by
  have htl := tws_288 hS7 hp5
  have hcl0 := cls_le hS7 hp5
  refine ZE.aload_n d_Ref_two_0 rfl ?_
  refine ZE.iload_n d_Ref_two_1 rfl ?_
  refine ZE.cV [(0, p)] [] [(2, o), (0, p)] d_Ref_two_2 l_Ref_339 rfl rfl rfl rfl rfl rfl hK.1 ?_
  refine r_isTwo hK hF hR hS7 hp5 hp ?_
  show ZE (d + 2) M_Ref_two (gw G A) 5 [(2, o), (0, p), (0, wh)] [(0, b2i (0 ≤ p ∧ p < ((tws S).length : Int)))] _
  refine ZE.if_ne (tgt := 10) d_Ref_two_5 rfl (zR_b2i _) (fun c5 => ?_) (fun c5 => ?_)
  · replace c5 := b2i_n0.mp c5
    obtain ⟨pn, hpn⟩ : ∃ pn : Nat, p = pn := ⟨p.toNat, by omega⟩
    subst hpn
    have hQ := tws_ok hS7 hp5 (k := pn) (by omega)
    have hQ1 : 1 ≤ tN S pn ∧ tN S pn < 1000000000 := ⟨hQ.1, hQ.2.1⟩
    refine ZE.iload_n d_Ref_two_10 rfl ?_
    rcases (show (wh < 0 ∨ 4 < wh) ∨ wh = 0 ∨ wh = 1 ∨ wh = 2 ∨ wh = 3 ∨ wh = 4 by omega) with eo | rfl | rfl | rfl | rfl | rfl
    · refine ZE.tableOut (tgt := 102) d_Ref_two_11 (by unfold zR at *; omega) eo rfl ?_
      refine ZE.iconst (n := (-1)) d_Ref_two_102 ?_
      refine ZE.iret d_Ref_two_103 rfl ?_
      have e0 : inT S (pn : Int) = true := decide_eq_true (by omega)
      rw [show twV S (pn : Int) wh = -1 by unfold twV; rw [e0, if_pos rfl, Int.toNat_natCast]; exact twN_out eo] at k
      exact k
    · refine ZE.tableIn (tgt := 44) d_Ref_two_11 (by unfold zR; omega) (by omega) rfl rfl ?_
      refine ZE.aload_n d_Ref_two_44 rfl ?_
      refine ZE.getE (v := o + 10) d_Ref_two_45 f_Ref_37 (tg := 2) rfl hK.1 hF.a16 ?_
      refine ZE.iload_n d_Ref_two_48 rfl ?_
      refine ZE.ialdE (v := (tN S pn : Int)) d_Ref_two_49 hK.k10 (by have hn0 := hK.n10; show 0 ≤ (pn : Int) ∧ (pn : Int) < gn G (o + 10); omega) (hR.t pn (by omega)).1 ?_
      refine ZE.cS [(0, (tN S pn : Int))] [] [(0, (tN S pn : Int)), (9, 0), (9, 0)] d_Ref_two_50 l_Ref_105 rfl rfl rfl rfl rfl rfl ?_
      refine r_digitsOf (s := tN S pn) (by omega) ?_
      show ZE (d + 2) M_Ref_two (gw G A) 53 [(2, o), (0, (pn : Int)), (0, 0)] [(0, (dl (tN S pn) : Int))] _
      refine ZE.iret d_Ref_two_53 rfl ?_
      have e0 : inT S (pn : Int) = true := decide_eq_true (by omega)
      rw [show twV S (pn : Int) 0 = twN S pn 0 by unfold twV; rw [e0, if_pos rfl, Int.toNat_natCast]] at k
      exact k
    · refine ZE.tableIn (tgt := 54) d_Ref_two_11 (by unfold zR; omega) (by omega) rfl rfl ?_
      refine ZE.aload_n d_Ref_two_54 rfl ?_
      refine ZE.getE (v := o + 11) d_Ref_two_55 f_Ref_40 (tg := 2) rfl hK.1 hF.a17 ?_
      refine ZE.iload_n d_Ref_two_58 rfl ?_
      refine ZE.ialdE (v := (tC S pn : Int)) d_Ref_two_59 hK.k11 (by have hn0 := hK.n11; show 0 ≤ (pn : Int) ∧ (pn : Int) < gn G (o + 11); omega) (hR.t pn (by omega)).2.1 ?_
      refine ZE.iret d_Ref_two_60 rfl ?_
      have e0 : inT S (pn : Int) = true := decide_eq_true (by omega)
      rw [show twV S (pn : Int) 1 = twN S pn 1 by unfold twV; rw [e0, if_pos rfl, Int.toNat_natCast]] at k
      exact k
    · refine ZE.tableIn (tgt := 61) d_Ref_two_11 (by unfold zR; omega) (by omega) rfl rfl ?_
      refine ZE.aload_n d_Ref_two_61 rfl ?_
      refine ZE.getE (v := o + 12) d_Ref_two_62 f_Ref_43 (tg := 2) rfl hK.1 hF.a18 ?_
      refine ZE.iload_n d_Ref_two_65 rfl ?_
      refine ZE.ialdE (v := (tI S pn : Int)) d_Ref_two_66 hK.k12 (by have hn0 := hK.n12; show 0 ≤ (pn : Int) ∧ (pn : Int) < gn G (o + 12); omega) (hR.t pn (by omega)).2.2 ?_
      refine ZE.iret d_Ref_two_67 rfl ?_
      have e0 : inT S (pn : Int) = true := decide_eq_true (by omega)
      rw [show twV S (pn : Int) 2 = twN S pn 2 by unfold twV; rw [e0, if_pos rfl, Int.toNat_natCast]] at k
      exact k
    · refine ZE.tableIn (tgt := 68) d_Ref_two_11 (by unfold zR; omega) (by omega) rfl rfl ?_
      refine ZE.aload_n d_Ref_two_68 rfl ?_
      refine ZE.getE (v := o + 10) d_Ref_two_69 f_Ref_37 (tg := 2) rfl hK.1 hF.a16 ?_
      refine ZE.iload_n d_Ref_two_72 rfl ?_
      refine ZE.ialdE (v := (tN S pn : Int)) d_Ref_two_73 hK.k10 (by have hn0 := hK.n10; show 0 ≤ (pn : Int) ∧ (pn : Int) < gn G (o + 10); omega) (hR.t pn (by omega)).1 ?_
      refine ZE.sipush (n := 10000) d_Ref_two_74 rfl ?_
      refine ZE.iremP d_Ref_two_77 (by omega) ?_
      rw [show ((tN S pn : Int) % 10000 : Int) = ((tN S pn % 10000 : Nat) : Int) from (by omega)]
      refine ZE.iret d_Ref_two_78 rfl ?_
      have e0 : inT S (pn : Int) = true := decide_eq_true (by omega)
      rw [show twV S (pn : Int) 3 = twN S pn 3 by unfold twV; rw [e0, if_pos rfl, Int.toNat_natCast]] at k
      exact k
    · refine ZE.tableIn (tgt := 79) d_Ref_two_11 (by unfold zR; omega) (by omega) rfl rfl ?_
      refine ZE.aload_n d_Ref_two_79 rfl ?_
      refine ZE.getE (v := o + 10) d_Ref_two_80 f_Ref_37 (tg := 2) rfl hK.1 hF.a16 ?_
      refine ZE.iload_n d_Ref_two_83 rfl ?_
      refine ZE.ialdE (v := (tN S pn : Int)) d_Ref_two_84 hK.k10 (by have hn0 := hK.n10; show 0 ≤ (pn : Int) ∧ (pn : Int) < gn G (o + 10); omega) (hR.t pn (by omega)).1 ?_
      refine ZE.ldcw (v := 1000000000) d_Ref_two_85 k_Ref_272 ?_
      refine ZE.icmp_ge (tgt := 100) d_Ref_two_88 rfl (by unfold zR; omega) (by unfold zR; omega) (fun c88 => ?_) (fun c88 => ?_)
      · exact absurd c88 (by omega)
      · refine ZE.aload_n d_Ref_two_91 rfl ?_
        refine ZE.getE (v := o + 10) d_Ref_two_92 f_Ref_37 (tg := 2) rfl hK.1 hF.a16 ?_
        refine ZE.iload_n d_Ref_two_95 rfl ?_
        refine ZE.ialdE (v := (tN S pn : Int)) d_Ref_two_96 hK.k10 (by have hn0 := hK.n10; show 0 ≤ (pn : Int) ∧ (pn : Int) < gn G (o + 10); omega) (hR.t pn (by omega)).1 ?_
        refine ZE.goto (tgt := 101) d_Ref_two_97 rfl ?_
        refine ZE.iret d_Ref_two_101 rfl ?_
        have e0 : inT S (pn : Int) = true := decide_eq_true (by omega)
        rw [show twV S (pn : Int) 4 = twN S pn 4 by unfold twV; rw [e0, if_pos rfl, Int.toNat_natCast]] at k
        exact k
  · replace c5 := b2i_0.mp c5
    refine ZE.iconst (n := (-1)) d_Ref_two_8 ?_
    refine ZE.iret d_Ref_two_9 rfl ?_
    have e0 : inT S p = false := decide_eq_false c5
    rw [show twV S p wh = -1 by unfold twV; rw [e0]; rfl] at k
    exact k
set_option maxRecDepth 20000 in
set_option maxHeartbeats 4000000 in
theorem r_twoDigit {d : Nat} {G : zG} {A : Int → Int → Int} {P : Option zV → zG → Prop} {o : Int} (hK : RK G o) (hF : RF A o) {S : Nat} (hR : RS S A o) (hS7 : S < 128) (hp5 : pop S ≤ 5) {p : Int} (hp : zR p) {i : Int} (hi : zR i) (k : P (some (0, tdV S p i)) (gw G A)) : ZE (d + 2) M_Ref_twoDigit (gw G A) 0 [(2, o), (0, p), (0, i)] [] P := by
  have htl := tws_288 hS7 hp5
  have hcl0 := cls_le hS7 hp5
  refine ZE.aload_n d_Ref_twoDigit_0 rfl ?_
  refine ZE.iload_n d_Ref_twoDigit_1 rfl ?_
  refine ZE.cV [(0, p)] [] [(2, o), (0, p)] d_Ref_twoDigit_2 l_Ref_339 rfl rfl rfl rfl rfl rfl hK.1 ?_
  refine r_isTwo hK hF hR hS7 hp5 hp ?_
  show ZE (d + 2) M_Ref_twoDigit (gw G A) 5 [(2, o), (0, p), (0, i)] [(0, b2i (0 ≤ p ∧ p < ((tws S).length : Int)))] _
  refine ZE.if_eq (tgt := 42) d_Ref_twoDigit_5 rfl (zR_b2i _) (fun c5 => ?_) (fun c5 => ?_)
  · replace c5 := b2i_0.mp c5
    refine ZE.iconst (n := (-1)) d_Ref_twoDigit_42 ?_
    refine ZE.iret d_Ref_twoDigit_43 rfl ?_
    have e0 : inT S p = false := decide_eq_false c5
    rw [show tdV S p i = -1 by unfold tdV; rw [e0]; rfl] at k
    exact k
  · replace c5 := b2i_n0.mp c5
    obtain ⟨pn, hpn⟩ : ∃ pn : Nat, p = pn := ⟨p.toNat, by omega⟩
    subst hpn
    have hQ := tws_ok hS7 hp5 (k := pn) (by omega)
    have hQ1 : 1 ≤ tN S pn ∧ tN S pn < 1000000000 := ⟨hQ.1, hQ.2.1⟩
    refine ZE.iload_n d_Ref_twoDigit_8 rfl ?_
    refine ZE.i2l d_Ref_twoDigit_9 hi ?_
    refine ZE.lconst d_Ref_twoDigit_10 ?_
    show ZE (d + 2) M_Ref_twoDigit (gw G A) 11 [(2, o), (0, (pn : Int)), (0, i)] [(1, 0), (1, i)] _
    refine ZE.aload_n d_Ref_twoDigit_11 rfl ?_
    refine ZE.getE (v := o + 10) d_Ref_twoDigit_12 f_Ref_37 (tg := 2) rfl hK.1 hF.a16 ?_
    refine ZE.iload_n d_Ref_twoDigit_15 rfl ?_
    refine ZE.ialdE (v := (tN S pn : Int)) d_Ref_twoDigit_16 hK.k10 (by have hn0 := hK.n10; show 0 ≤ (pn : Int) ∧ (pn : Int) < gn G (o + 10); omega) (hR.t pn (by omega)).1 ?_
    refine ZE.cS [(0, (tN S pn : Int))] [(1, 0), (1, i)] [(0, (tN S pn : Int)), (9, 0), (9, 0)] d_Ref_twoDigit_17 l_Ref_105 rfl rfl rfl rfl rfl rfl ?_
    refine r_digitsOf (s := tN S pn) (by omega) ?_
    show ZE (d + 2) M_Ref_twoDigit (gw G A) 20 [(2, o), (0, (pn : Int)), (0, i)] [(0, (dl (tN S pn) : Int)), (1, 0), (1, i)] _
    have hdl : dl (tN S pn) ≤ 9 := dl_9.mpr (by omega)
    refine ZE.iconst (n := 1) d_Ref_twoDigit_20 ?_
    refine ZE.isub d_Ref_twoDigit_21 ?_
    refine ZE.i2l d_Ref_twoDigit_22 (by unfold zR; omega) ?_
    refine ZE.cS [(1, i), (1, 0), (1, (dl (tN S pn) : Int) - 1)] [] [(1, i), (9, 0), (1, 0), (9, 0), (1, (dl (tN S pn) : Int) - 1), (9, 0)] d_Ref_twoDigit_23 l_Ref_111 rfl rfl rfl rfl rfl rfl ?_
    refine r_isIn (by unfold zR at hi; unfold zR64; omega) (by unfold zR64; omega) (by unfold zR64; omega) ?_
    show ZE (d + 2) M_Ref_twoDigit (gw G A) 26 [(2, o), (0, (pn : Int)), (0, i)] [(0, b2i (0 ≤ i ∧ i ≤ (dl (tN S pn) : Int) - 1))] _
    refine ZE.if_eq (tgt := 42) d_Ref_twoDigit_26 rfl (zR_b2i _) (fun c26 => ?_) (fun c26 => ?_)
    · replace c26 := b2i_0.mp c26
      refine ZE.iconst (n := (-1)) d_Ref_twoDigit_42 ?_
      refine ZE.iret d_Ref_twoDigit_43 rfl ?_
      have e0 : inT S (pn : Int) = true := decide_eq_true (by omega)
      rw [show tdV S (pn : Int) i = -1 by unfold tdV; rw [e0, if_pos rfl, Int.toNat_natCast, if_neg (by omega)]] at k
      exact k
    · replace c26 := b2i_n0.mp c26
      obtain ⟨im, him⟩ : ∃ im : Nat, i = im := ⟨i.toNat, by omega⟩
      subst him
      refine ZE.aload_n d_Ref_twoDigit_29 rfl ?_
      refine ZE.getE (v := o + 10) d_Ref_twoDigit_30 f_Ref_37 (tg := 2) rfl hK.1 hF.a16 ?_
      refine ZE.iload_n d_Ref_twoDigit_33 rfl ?_
      refine ZE.ialdE (v := (tN S pn : Int)) d_Ref_twoDigit_34 hK.k10 (by have hn0 := hK.n10; show 0 ≤ (pn : Int) ∧ (pn : Int) < gn G (o + 10); omega) (hR.t pn (by omega)).1 ?_
      refine ZE.iload_n d_Ref_twoDigit_35 rfl ?_
      refine ZE.cS [(0, (tN S pn : Int)), (0, (im : Int))] [] [(0, (tN S pn : Int)), (0, (im : Int)), (9, 0), (9, 0)] d_Ref_twoDigit_36 l_Ref_115 rfl rfl rfl rfl rfl rfl ?_
      refine r_digitIn (s := tN S pn) (i := im) (by omega) (by omega) ?_
      show ZE (d + 2) M_Ref_twoDigit (gw G A) 39 [(2, o), (0, (pn : Int)), (0, (im : Int))] [(0, (dg 10 (tN S pn) im : Int))] _
      refine ZE.goto (tgt := 43) d_Ref_twoDigit_39 rfl ?_
      refine ZE.iret d_Ref_twoDigit_43 rfl ?_
      have e0 : inT S (pn : Int) = true := decide_eq_true (by omega)
      rw [show tdV S (pn : Int) (im : Int) = (dg 10 (tN S pn) im : Int) by unfold tdV; rw [e0, if_pos rfl, Int.toNat_natCast, if_pos (by omega), Int.toNat_natCast]] at k
      exact k
set_option maxRecDepth 20000 in
set_option maxHeartbeats 4000000 in
theorem r_smooth {d : Nat} {G : zG} {A : Int → Int → Int} {P : Option zV → zG → Prop} {o : Int} (hK : RK G o) (hF : RF A o) {S : Nat} (hR : RS S A o) (hS7 : S < 128) (hp5 : pop S ≤ 5) {n : Int} (hn : zR n) (k : P (some (0, b2i (0 < n ∧ smB S n.toNat = true))) (gw G A)) : ZE (d + 2) M_Ref_smooth (gw G A) 0 [(2, o), (0, n)] [] P := by
  refine ZE.iload_n d_Ref_smooth_0 rfl ?_
  refine ZE.if_le (tgt := 16) d_Ref_smooth_1 rfl hn (fun c1 => ?_) (fun c1 => ?_)
  · refine ZE.iconst (n := 0) d_Ref_smooth_16 ?_
    refine ZE.zret d_Ref_smooth_17 rfl (by omega) ?_
    rw [b2i_f (fun q => absurd q.1 (by omega))] at k
    exact k
  · unfold zR at hn
    obtain ⟨nn, hnn⟩ : ∃ nn : Nat, n = nn := ⟨n.toNat, by omega⟩
    subst hnn
    refine ZE.aload_n d_Ref_smooth_4 rfl ?_
    refine ZE.iload_n d_Ref_smooth_5 rfl ?_
    refine ZE.cV [(0, (nn : Int))] [] [(2, o), (0, (nn : Int)), (9, 0), (9, 0)] d_Ref_smooth_6 l_Ref_183 rfl rfl rfl rfl rfl rfl hK.1 ?_
    refine r_isSmooth (n := nn) hK hF hR.s hS7 (by omega) (by omega) ?_
    show ZE (d + 2) M_Ref_smooth (gw G A) 9 [(2, o), (0, (nn : Int))] [(0, b2i (sm S (nn)))] _
    refine ZE.if_eq (tgt := 16) d_Ref_smooth_9 rfl (zR_b2i _) (fun c9 => ?_) (fun c9 => ?_)
    · replace c9 := b2i_0.mp c9
      refine ZE.iconst (n := 0) d_Ref_smooth_16 ?_
      refine ZE.zret d_Ref_smooth_17 rfl (by omega) ?_
      rw [Int.toNat_natCast, b2i_f (fun q => c9 (smB_iff.mp q.2))] at k
      exact k
    · replace c9 := b2i_n0.mp c9
      refine ZE.iconst (n := 1) d_Ref_smooth_12 ?_
      refine ZE.goto (tgt := 17) d_Ref_smooth_13 rfl ?_
      refine ZE.zret d_Ref_smooth_17 rfl (by omega) ?_
      rw [Int.toNat_natCast, b2i_t ⟨by omega, smB_iff.mpr c9⟩] at k
      exact k
theorem fsA_stop {f : Nat → Bool} {a n : Nat} (h : f a = true) (hn : 0 < n) : fsA f a n = (a : Int) := by
  obtain ⟨m, rfl⟩ : ∃ m, n = m + 1 := ⟨n - 1, by omega⟩
  exact if_pos h
theorem fsA_go {f : Nat → Bool} {a n : Nat} (h : ¬ f a = true) (hn : 0 < n) : fsA f a n = fsA f (a + 1) (n - 1) := by
  obtain ⟨m, rfl⟩ : ∃ m, n = m + 1 := ⟨n - 1, by omega⟩
  exact if_neg h
set_option maxRecDepth 20000 in
set_option maxHeartbeats 4000000 in
theorem r_next {d : Nat} {G : zG} {A : Int → Int → Int} {P : Option zV → zG → Prop} {o : Int} (hK : RK G o) (hF : RF A o) {S : Nat} (hR : RS S A o) (hS7 : S < 128) (hp5 : pop S ≤ 5) {n : Int} (hn : zR n) (k : P (some (0, nxV S n)) (gw G A)) : ZE (d + 2) M_Ref_next (gw G A) 0 [(2, o), (0, n), (9, 0)] [] P := by
  refine ZE.iload_n d_Ref_next_0 rfl ?_
  refine ZE.if_ge (tgt := 6) d_Ref_next_1 rfl hn (fun c1 => ?_) (fun c1 => ?_)
  · unfold zR at hn
    obtain ⟨nn, hnn⟩ : ∃ nn : Nat, n = nn := ⟨n.toNat, by omega⟩
    subst hnn
    refine ZE.iload_n d_Ref_next_6 rfl ?_
    refine ZE.ldcw (v := 200000) d_Ref_next_7 k_Ref_316 ?_
    refine ZE.icmp_ge (tgt := 19) d_Ref_next_10 rfl (by unfold zR; omega) (by unfold zR; omega) (fun c10 => ?_) (fun c10 => ?_)
    · refine ZE.ldcw (v := 200001) d_Ref_next_19 k_Ref_317 ?_
      refine ZE.istore_n (ls2 := [(2, o), (0, (nn : Int)), (0, 200001)]) d_Ref_next_22 (Nat.le_of_ble_eq_true rfl) rfl ?_
      have L23 : ∀ (t : Nat) (j : Nat) (hj : 1 ≤ j ∧ j ≤ 200001) (hfa : nxV S (nn : Int) = fsA (smB S) j (200001 - j)), 200001 - j < t → ZE (d + 2) M_Ref_next (gw G A) 23 [(2, o), (0, (nn : Int)), (0, (j : Int))] [] P := by
        intro t
        induction t with
        | zero => intro j hj hfa hm; exact absurd hm (Nat.not_lt_zero _)
        | succ t ih =>
          intro j hj hfa hm
          refine ZE.iload_n d_Ref_next_23 rfl ?_
          refine ZE.ldcw (v := 200000) d_Ref_next_24 k_Ref_316 ?_
          refine ZE.icmp_gt (tgt := 46) d_Ref_next_27 rfl (by unfold zR; omega) (by unfold zR; omega) (fun c27 => ?_) (fun c27 => ?_)
          · refine ZE.iconst (n := (-1)) d_Ref_next_46 ?_
            refine ZE.iret d_Ref_next_47 rfl ?_
            rw [hfa, show 200001 - j = 0 by omega] at k
            exact k
          · refine ZE.aload_n d_Ref_next_30 rfl ?_
            refine ZE.iload_n d_Ref_next_31 rfl ?_
            refine ZE.cV [(0, (j : Int))] [] [(2, o), (0, (j : Int)), (9, 0), (9, 0)] d_Ref_next_32 l_Ref_183 rfl rfl rfl rfl rfl rfl hK.1 ?_
            refine r_isSmooth (n := j) hK hF hR.s hS7 (by omega) (by omega) ?_
            show ZE (d + 2) M_Ref_next (gw G A) 35 [(2, o), (0, (nn : Int)), (0, (j : Int))] [(0, b2i (sm S (j)))] _
            refine ZE.if_eq (tgt := 40) d_Ref_next_35 rfl (zR_b2i _) (fun c35 => ?_) (fun c35 => ?_)
            · replace c35 := b2i_0.mp c35
              refine ZE.iinc (ls2 := [(2, o), (0, (nn : Int)), (0, (j : Int) + 1)]) d_Ref_next_40 rfl rfl ?_
              refine ZE.goto (tgt := 23) d_Ref_next_43 rfl ?_
              rw [show (j : Int) + 1 = ((j + 1 : Nat) : Int) by omega]
              refine ih (j + 1) (by omega) ?_ (by omega)
              rw [hfa, fsA_go (fun q => c35 (smB_iff.mp q)) (by omega), show 200001 - j - 1 = 200001 - (j + 1) by omega]
            · replace c35 := b2i_n0.mp c35
              refine ZE.iload_n d_Ref_next_38 rfl ?_
              refine ZE.iret d_Ref_next_39 rfl ?_
              rw [hfa, fsA_stop (smB_iff.mpr c35) (by omega)] at k
              exact k
      exact L23 _ 200001 (by omega) (by rw [show nxV S (nn : Int) = fsA (smB S) (nn + 1) (200000 - nn) from (if_neg (by omega)).trans (by rw [Int.toNat_natCast]), show 200000 - nn = 0 by omega]; rfl) (Nat.lt_succ_self _)
    · refine ZE.iload_n d_Ref_next_13 rfl ?_
      refine ZE.iconst (n := 1) d_Ref_next_14 ?_
      refine ZE.iadd d_Ref_next_15 ?_
      refine ZE.goto (tgt := 22) d_Ref_next_16 rfl ?_
      refine ZE.istore_n (ls2 := [(2, o), (0, (nn : Int)), (0, (nn : Int) + 1)]) d_Ref_next_22 (Nat.le_of_ble_eq_true rfl) rfl ?_
      have L23 : ∀ (t : Nat) (j : Nat) (hj : 1 ≤ j ∧ j ≤ 200001) (hfa : nxV S (nn : Int) = fsA (smB S) j (200001 - j)), 200001 - j < t → ZE (d + 2) M_Ref_next (gw G A) 23 [(2, o), (0, (nn : Int)), (0, (j : Int))] [] P := by
        intro t
        induction t with
        | zero => intro j hj hfa hm; exact absurd hm (Nat.not_lt_zero _)
        | succ t ih =>
          intro j hj hfa hm
          refine ZE.iload_n d_Ref_next_23 rfl ?_
          refine ZE.ldcw (v := 200000) d_Ref_next_24 k_Ref_316 ?_
          refine ZE.icmp_gt (tgt := 46) d_Ref_next_27 rfl (by unfold zR; omega) (by unfold zR; omega) (fun c27 => ?_) (fun c27 => ?_)
          · refine ZE.iconst (n := (-1)) d_Ref_next_46 ?_
            refine ZE.iret d_Ref_next_47 rfl ?_
            rw [hfa, show 200001 - j = 0 by omega] at k
            exact k
          · refine ZE.aload_n d_Ref_next_30 rfl ?_
            refine ZE.iload_n d_Ref_next_31 rfl ?_
            refine ZE.cV [(0, (j : Int))] [] [(2, o), (0, (j : Int)), (9, 0), (9, 0)] d_Ref_next_32 l_Ref_183 rfl rfl rfl rfl rfl rfl hK.1 ?_
            refine r_isSmooth (n := j) hK hF hR.s hS7 (by omega) (by omega) ?_
            show ZE (d + 2) M_Ref_next (gw G A) 35 [(2, o), (0, (nn : Int)), (0, (j : Int))] [(0, b2i (sm S (j)))] _
            refine ZE.if_eq (tgt := 40) d_Ref_next_35 rfl (zR_b2i _) (fun c35 => ?_) (fun c35 => ?_)
            · replace c35 := b2i_0.mp c35
              refine ZE.iinc (ls2 := [(2, o), (0, (nn : Int)), (0, (j : Int) + 1)]) d_Ref_next_40 rfl rfl ?_
              refine ZE.goto (tgt := 23) d_Ref_next_43 rfl ?_
              rw [show (j : Int) + 1 = ((j + 1 : Nat) : Int) by omega]
              refine ih (j + 1) (by omega) ?_ (by omega)
              rw [hfa, fsA_go (fun q => c35 (smB_iff.mp q)) (by omega), show 200001 - j - 1 = 200001 - (j + 1) by omega]
            · replace c35 := b2i_n0.mp c35
              refine ZE.iload_n d_Ref_next_38 rfl ?_
              refine ZE.iret d_Ref_next_39 rfl ?_
              rw [hfa, fsA_stop (smB_iff.mpr c35) (by omega)] at k
              exact k
      exact L23 _ (nn + 1) (by omega) (by rw [show nxV S (nn : Int) = fsA (smB S) (nn + 1) (200000 - nn) from (if_neg (by omega)).trans (by rw [Int.toNat_natCast]), show 200001 - (nn + 1) = 200000 - nn by omega]) (Nat.lt_succ_self _)
  · refine ZE.iconst (n := (-1)) d_Ref_next_4 ?_
    refine ZE.iret d_Ref_next_5 rfl ?_
    rw [show nxV S n = -1 from if_pos (by omega)] at k
    exact k
set_option maxRecDepth 20000 in
set_option maxHeartbeats 4000000 in
theorem r_smoothMany {d : Nat} {G : zG} {A : Int → Int → Int} {P : Option zV → zG → Prop} {o : Int} (hK : RK G o) (hF : RF A o) {S : Nat} (hR : RS S A o) (hS7 : S < 128) (hp5 : pop S ≤ 5) {n : Nat} (hn : n ≤ 200000) (k : P (some (0, (smC S n : Int))) (gw G A)) : ZE (d + 2) M_Ref_smoothMany (gw G A) 0 [(2, o), (0, (n : Int)), (9, 0), (9, 0)] [] P := by
  refine ZE.iconst (n := 0) d_Ref_smoothMany_0 ?_
  refine ZE.istore_n (ls2 := [(2, o), (0, (n : Int)), (0, 0), (9, 0)]) d_Ref_smoothMany_1 (Nat.le_of_ble_eq_true rfl) rfl ?_
  refine ZE.iconst (n := 1) d_Ref_smoothMany_2 ?_
  refine ZE.istore_n (ls2 := [(2, o), (0, (n : Int)), (0, 0), (0, 1)]) d_Ref_smoothMany_3 (Nat.le_of_ble_eq_true rfl) rfl ?_
  have L4 : ∀ (t : Nat) (j : Nat) (hj : j ≤ n), n - j < t → ZE (d + 2) M_Ref_smoothMany (gw G A) 4 [(2, o), (0, (n : Int)), (0, (smC S j : Int)), (0, (j : Int) + 1)] [] P := by
    intro t
    induction t with
    | zero => intro j hj hm; exact absurd hm (Nat.not_lt_zero _)
    | succ t ih =>
      intro j hj hm
      have hcn : smC S j ≤ j := cnt_le _ j
      refine ZE.iload_n d_Ref_smoothMany_4 rfl ?_
      refine ZE.iload_n d_Ref_smoothMany_5 rfl ?_
      refine ZE.icmp_gt (tgt := 31) d_Ref_smoothMany_6 rfl (by unfold zR; omega) (by unfold zR; omega) (fun c6 => ?_) (fun c6 => ?_)
      · have e1 : j = n := by omega
        refine ZE.iload_n d_Ref_smoothMany_31 rfl ?_
        refine ZE.iret d_Ref_smoothMany_32 rfl ?_
        rw [e1]
        exact k
      · refine ZE.iload_n d_Ref_smoothMany_9 rfl ?_
        refine ZE.aload_n d_Ref_smoothMany_10 rfl ?_
        refine ZE.iload_n d_Ref_smoothMany_11 rfl ?_
        refine ZE.cV [(0, (j : Int) + 1)] [(0, (smC S j : Int))] [(2, o), (0, (j : Int) + 1), (9, 0), (9, 0)] d_Ref_smoothMany_12 l_Ref_183 rfl rfl rfl rfl rfl rfl hK.1 ?_
        refine r_isSmooth (n := j + 1) hK hF hR.s hS7 (by omega) (by omega) ?_
        show ZE (d + 2) M_Ref_smoothMany (gw G A) 15 [(2, o), (0, (n : Int)), (0, (smC S j : Int)), (0, (j : Int) + 1)] [(0, b2i (sm S (j + 1))), (0, (smC S j : Int))] _
        refine ZE.if_eq (tgt := 22) d_Ref_smoothMany_15 rfl (zR_b2i _) (fun c15 => ?_) (fun c15 => ?_)
        · replace c15 := b2i_0.mp c15
          refine ZE.iconst (n := 0) d_Ref_smoothMany_22 ?_
          refine ZE.iadd d_Ref_smoothMany_23 ?_
          refine ZE.istore_n (ls2 := [(2, o), (0, (n : Int)), (0, (smC S j : Int) + 0), (0, (j : Int) + 1)]) d_Ref_smoothMany_24 (Nat.le_of_ble_eq_true rfl) rfl ?_
          refine ZE.iinc (ls2 := [(2, o), (0, (n : Int)), (0, (smC S j : Int) + 0), (0, ((j : Int) + 1) + 1)]) d_Ref_smoothMany_25 rfl rfl ?_
          refine ZE.goto (tgt := 4) d_Ref_smoothMany_28 rfl ?_
          have e1 : smC S (j + 1) = smC S j := if_neg (fun q => c15 (smB_iff.mp q))
          rw [show (smC S j : Int) + 0 = (smC S (j + 1) : Int) by rw [e1]; omega, show (j : Int) + 1 + 1 = ((j + 1 : Nat) : Int) + 1 by omega]
          exact ih (j + 1) (by omega) (by omega)
        · replace c15 := b2i_n0.mp c15
          refine ZE.iconst (n := 1) d_Ref_smoothMany_18 ?_
          refine ZE.goto (tgt := 23) d_Ref_smoothMany_19 rfl ?_
          refine ZE.iadd d_Ref_smoothMany_23 ?_
          refine ZE.istore_n (ls2 := [(2, o), (0, (n : Int)), (0, (smC S j : Int) + 1), (0, (j : Int) + 1)]) d_Ref_smoothMany_24 (Nat.le_of_ble_eq_true rfl) rfl ?_
          refine ZE.iinc (ls2 := [(2, o), (0, (n : Int)), (0, (smC S j : Int) + 1), (0, ((j : Int) + 1) + 1)]) d_Ref_smoothMany_25 rfl rfl ?_
          refine ZE.goto (tgt := 4) d_Ref_smoothMany_28 rfl ?_
          have e1 : smC S (j + 1) = smC S j + 1 := if_pos (smB_iff.mpr c15)
          rw [show (smC S j : Int) + 1 = (smC S (j + 1) : Int) by rw [e1]; omega, show (j : Int) + 1 + 1 = ((j + 1 : Nat) : Int) + 1 by omega]
          exact ih (j + 1) (by omega) (by omega)
  exact L4 _ 0 (by omega) (Nat.lt_succ_self _)
set_option maxRecDepth 20000 in
set_option maxHeartbeats 4000000 in
theorem r_smoothUpTo {d : Nat} {G : zG} {A : Int → Int → Int} {P : Option zV → zG → Prop} {o : Int} (hK : RK G o) (hF : RF A o) {S : Nat} (hR : RS S A o) (hS7 : S < 128) (hp5 : pop S ≤ 5) {n : Int} (hn : zR n) (k : P (some (0, suV S n)) (gw G A)) : ZE (d + 3) M_Ref_smoothUpTo (gw G A) 0 [(2, o), (0, n)] [] P := by
  refine ZE.iload_n d_Ref_smoothUpTo_0 rfl ?_
  refine ZE.i2l d_Ref_smoothUpTo_1 hn ?_
  refine ZE.lconst d_Ref_smoothUpTo_2 ?_
  show ZE (d + 3) M_Ref_smoothUpTo (gw G A) 3 [(2, o), (0, n)] [(1, 0), (1, n)] _
  refine ZE.ldc2 (v := 200000) d_Ref_smoothUpTo_3 k_Ref_311 ?_
  refine ZE.cS [(1, n), (1, 0), (1, 200000)] [] [(1, n), (9, 0), (1, 0), (9, 0), (1, 200000), (9, 0)] d_Ref_smoothUpTo_6 l_Ref_111 rfl rfl rfl rfl rfl rfl ?_
  refine r_isIn (by unfold zR at hn; unfold zR64; omega) (by unfold zR64; omega) (by unfold zR64; omega) ?_
  show ZE (d + 3) M_Ref_smoothUpTo (gw G A) 9 [(2, o), (0, n)] [(0, b2i (0 ≤ n ∧ n ≤ 200000))] _
  refine ZE.if_eq (tgt := 20) d_Ref_smoothUpTo_9 rfl (zR_b2i _) (fun c9 => ?_) (fun c9 => ?_)
  · replace c9 := b2i_0.mp c9
    refine ZE.iconst (n := (-1)) d_Ref_smoothUpTo_20 ?_
    refine ZE.iret d_Ref_smoothUpTo_21 rfl ?_
    rw [show suV S n = -1 from if_neg c9] at k
    exact k
  · replace c9 := b2i_n0.mp c9
    obtain ⟨nn, hnn⟩ : ∃ nn : Nat, n = nn := ⟨n.toNat, by omega⟩
    subst hnn
    refine ZE.aload_n d_Ref_smoothUpTo_12 rfl ?_
    refine ZE.iload_n d_Ref_smoothUpTo_13 rfl ?_
    refine ZE.cV [(0, (nn : Int))] [] [(2, o), (0, (nn : Int)), (9, 0), (9, 0)] d_Ref_smoothUpTo_14 l_Ref_313 rfl rfl rfl rfl rfl rfl hK.1 ?_
    refine r_smoothMany (n := nn) hK hF hR hS7 hp5 (by omega) ?_
    show ZE (d + 3) M_Ref_smoothUpTo (gw G A) 17 [(2, o), (0, (nn : Int))] [(0, (smC S nn : Int))] _
    refine ZE.goto (tgt := 21) d_Ref_smoothUpTo_17 rfl ?_
    refine ZE.iret d_Ref_smoothUpTo_21 rfl ?_
    rw [show suV S (nn : Int) = (smC S nn : Int) by unfold suV; rw [if_pos c9, Int.toNat_natCast]] at k
    exact k
