def sumF (f : Nat → Nat) : Nat → Nat
  | 0 => 0
  | k + 1 => sumF f k + f k
theorem sumF_le {f : Nat → Nat} {b : Nat} : ∀ n, (∀ k, k < n → f k ≤ b) → sumF f n ≤ n * b := by
  intro n
  induction n with
  | zero => intro _; exact Nat.zero_le _
  | succ n ih =>
    intro h
    have h1 := ih (fun k hk => h k (by omega))
    have h2 := h n (by omega)
    unfold sumF
    rw [Nat.succ_mul]
    omega
def ofN (S k : Nat) (wh : Int) : Int := if wh = 0 then (rad ((csF S 1 128).getD k 0) : Int) else if wh = 1 then (d1 S k : Int) else if wh = 2 then (isq (d1 S k) : Int) else if wh = 3 then (rnd (d1 S k) : Int) else if wh = 4 then ((rnd (d1 S k) % 2 : Nat) : Int) else if wh = 5 then (pop (ix (gP1 S (ux (d1 S k))) (bnd S)) : Int) else if wh = 6 then (dl (ux (d1 S k)) : Int) else if wh = 7 then (dl (uy (d1 S k)) : Int) else if wh = 8 then (ix (gP1 S (ux (d1 S k))) (bnd S) : Int) else -1
def ofV (S : Nat) (c wh : Int) : Int := if inC S c then ofN S c.toNat wh else -1
theorem ofN_out {S k : Nat} {wh : Int} (h : wh < 0 ∨ 8 < wh) : ofN S k wh = -1 := by
  unfold ofN
  rw [if_neg (by omega), if_neg (by omega), if_neg (by omega), if_neg (by omega), if_neg (by omega), if_neg (by omega), if_neg (by omega), if_neg (by omega), if_neg (by omega)]
set_option maxRecDepth 20000 in
set_option maxHeartbeats 4000000 in
theorem r_rounds {d : Nat} {G : zG} {A : Int → Int → Int} {P : Option zV → zG → Prop} {o : Int} (hK : RK G o) (hF : RF A o) {S : Nat} (hR : RS S A o) (hS7 : S < 128) (hp5 : pop S ≤ 5) (k : P (some (0, (sumF (fun k => rnd (d1 S k)) (csF S 1 128).length : Int))) (gw G A)) : ZE (d + 1) M_Ref_rounds (gw G A) 0 [(2, o), (9, 0), (9, 0)] [] P := by
  have hpl := prs_288 hS7 hp5
  have hcl0 := cls_le hS7 hp5
  refine ZE.iconst (n := 0) d_Ref_rounds_0 ?_
  refine ZE.istore_n (ls2 := [(2, o), (0, 0), (9, 0)]) d_Ref_rounds_1 (Nat.le_of_ble_eq_true rfl) rfl ?_
  refine ZE.iconst (n := 0) d_Ref_rounds_2 ?_
  refine ZE.istore_n (ls2 := [(2, o), (0, 0), (0, 0)]) d_Ref_rounds_3 (Nat.le_of_ble_eq_true rfl) rfl ?_
  have L4 : ∀ (t : Nat) (j : Nat) (hj : j ≤ (csF S 1 128).length), (csF S 1 128).length - j < t → ZE (d + 1) M_Ref_rounds (gw G A) 4 [(2, o), (0, (sumF (fun k => rnd (d1 S k)) j : Int)), (0, (j : Int))] [] P := by
    intro t
    induction t with
    | zero => intro j hj hm; exact absurd hm (Nat.not_lt_zero _)
    | succ t ih =>
      intro j hj hm
      refine ZE.iload_n d_Ref_rounds_4 rfl ?_
      refine ZE.aload_n d_Ref_rounds_5 rfl ?_
      refine ZE.getE (v := ((csF S 1 128).length : Int)) d_Ref_rounds_6 f_Ref_195 (tg := 0) rfl hK.1 hR.n1 ?_
      refine ZE.icmp_ge (tgt := 27) d_Ref_rounds_9 rfl (by unfold zR; omega) (by unfold zR; omega) (fun c9 => ?_) (fun c9 => ?_)
      · have e1 : j = (csF S 1 128).length := by omega
        refine ZE.iload_n d_Ref_rounds_27 rfl ?_
        refine ZE.iret d_Ref_rounds_28 rfl ?_
        rw [e1]
        exact k
      · refine ZE.iload_n d_Ref_rounds_12 rfl ?_
        refine ZE.aload_n d_Ref_rounds_13 rfl ?_
        refine ZE.getE (v := o + 5) d_Ref_rounds_14 f_Ref_22 (tg := 2) rfl hK.1 hF.a5 ?_
        refine ZE.iload_n d_Ref_rounds_17 rfl ?_
        refine ZE.ialdE (v := (rnd (d1 S j) : Int)) d_Ref_rounds_18 hK.k5 (by have hn0 := hK.n5; show 0 ≤ (j : Int) ∧ (j : Int) < gn G (o + 5); omega) (hR.c1 j (by omega)).2.1 ?_
        refine ZE.iadd d_Ref_rounds_19 ?_
        refine ZE.istore_n (ls2 := [(2, o), (0, (sumF (fun k => rnd (d1 S k)) j : Int) + (rnd (d1 S j) : Int)), (0, (j : Int))]) d_Ref_rounds_20 (Nat.le_of_ble_eq_true rfl) rfl ?_
        refine ZE.iinc (ls2 := [(2, o), (0, (sumF (fun k => rnd (d1 S k)) j : Int) + (rnd (d1 S j) : Int)), (0, (j : Int) + 1)]) d_Ref_rounds_21 rfl rfl ?_
        refine ZE.goto (tgt := 4) d_Ref_rounds_24 rfl ?_
        rw [show (sumF (fun k => rnd (d1 S k)) j : Int) + (rnd (d1 S j) : Int) = (sumF (fun k => rnd (d1 S k)) (j + 1) : Int) from by show _ = ((sumF (fun k => rnd (d1 S k)) j + rnd (d1 S j) : Nat) : Int); omega, show (j : Int) + 1 = ((j + 1 : Nat) : Int) by omega]
        exact ih (j + 1) (by omega) (by omega)
  exact L4 _ 0 (by omega) (Nat.lt_succ_self _)
set_option maxRecDepth 20000 in
set_option maxHeartbeats 4000000 in
theorem r_of {d : Nat} {G : zG} {A : Int → Int → Int} {P : Option zV → zG → Prop} {o : Int} (hK : RK G o) (hF : RF A o) {S : Nat} (hR : RS S A o) (hS7 : S < 128) (hp5 : pop S ≤ 5) {c : Int} (hc : zR c) {wh : Int} (hw : zR wh) (k : P (some (0, ofV S c wh)) (gw G A)) : ZE (d + 3) M_Ref_of (gw G A) 0 [(2, o), (0, c), (0, wh)] [] P := by
  have hpl := prs_288 hS7 hp5
  have hcl0 := cls_le hS7 hp5
  have hbb := bnd_le S hS7
  refine ZE.aload_n d_Ref_of_0 rfl ?_
  refine ZE.iload_n d_Ref_of_1 rfl ?_
  have hcl0 := cls_le hS7 hp5
  refine ZE.cV [(0, c)] [] [(2, o), (0, c)] d_Ref_of_2 l_Ref_242 rfl rfl rfl rfl rfl rfl hK.1 ?_
  refine r_isClass (m := (csF S 1 128).length) hK hF hR.n1 (by omega) hc ?_
  show ZE (d + 3) M_Ref_of (gw G A) 5 [(2, o), (0, c), (0, wh)] [(0, b2i (0 ≤ c ∧ c < ((csF S 1 128).length : Int)))] _
  refine ZE.if_ne (tgt := 10) d_Ref_of_5 rfl (zR_b2i _) (fun c5 => ?_) (fun c5 => ?_)
  · replace c5 := b2i_n0.mp c5
    obtain ⟨cn, hcn⟩ : ∃ cn : Nat, c = cn := ⟨c.toNat, by omega⟩
    subst hcn
    have hok := d1_ok (S := S) (k := cn) (by omega)
    have hcl := hR.c1 cn (by omega)
    have hux9 : nd 10000 (ux (d1 S cn)) ≤ 81 := (okD_ns hok.1).2.1
    have huy9 : nd 10000 (uy (d1 S cn)) ≤ 81 := (okD_ns hok.1).2.2
    have hnx : num (A (o + 2)) (2 * (cn : Int)) (ux (d1 S cn)) := hcl.2.2.1
    have hny : num (A (o + 2)) (2 * (cn : Int) + 1) (uy (d1 S cn)) := hcl.2.2.2
    have hcf := (okD_cf hok.1).1
    have hRb := hcf.2.2.2.2.2.1
    refine ZE.iload_n d_Ref_of_10 rfl ?_
    rcases (show (wh < 0 ∨ 8 < wh) ∨ wh = 0 ∨ wh = 1 ∨ wh = 2 ∨ wh = 3 ∨ wh = 4 ∨ wh = 5 ∨ wh = 6 ∨ wh = 7 ∨ wh = 8 by omega) with eo | rfl | rfl | rfl | rfl | rfl | rfl | rfl | rfl | rfl
    · refine ZE.tableOut (tgt := 136) d_Ref_of_11 (by unfold zR at *; omega) eo rfl ?_
      refine ZE.iconst (n := (-1)) d_Ref_of_136 ?_
      refine ZE.iret d_Ref_of_137 rfl ?_
      have e0 : inC S (cn : Int) = true := decide_eq_true (by omega)
      rw [show ofV S (cn : Int) wh = -1 by unfold ofV; rw [e0, if_pos rfl, Int.toNat_natCast]; exact ofN_out eo] at k
      exact k
    · refine ZE.tableIn (tgt := 60) d_Ref_of_11 (by unfold zR; omega) (by omega) rfl rfl ?_
      refine ZE.aload_n d_Ref_of_60 rfl ?_
      refine ZE.getE (v := o + 3) d_Ref_of_61 f_Ref_16 (tg := 2) rfl hK.1 hF.a3 ?_
      refine ZE.iload_n d_Ref_of_64 rfl ?_
      refine ZE.ialdE (v := (rad ((csF S 1 128).getD cn 0) : Int)) d_Ref_of_65 hK.k3 (by have hn0 := hK.n3; show 0 ≤ (cn : Int) ∧ (cn : Int) < gn G (o + 3); omega) (hR.q1 cn (by omega)) ?_
      refine ZE.iret d_Ref_of_66 rfl ?_
      have e0 : inC S (cn : Int) = true := decide_eq_true (by omega)
      rw [show ofV S (cn : Int) 0 = ofN S cn 0 by unfold ofV; rw [e0, if_pos rfl, Int.toNat_natCast]] at k
      exact k
    · refine ZE.tableIn (tgt := 67) d_Ref_of_11 (by unfold zR; omega) (by omega) rfl rfl ?_
      refine ZE.aload_n d_Ref_of_67 rfl ?_
      refine ZE.iload_n d_Ref_of_68 rfl ?_
      have hqq := hR.q1 cn (by omega)
      refine ZE.cV [(0, (cn : Int))] [] [(2, o), (0, (cn : Int))] d_Ref_of_69 l_Ref_128 rfl rfl rfl rfl rfl rfl hK.1 ?_
      refine r_dOf (c := (cn : Int)) (q := rad ((csF S 1 128).getD cn 0)) (D := d1 S cn) hK hF (by omega) hqq (Or.inl ⟨by omega, rfl⟩) ?_
      show ZE (d + 3) M_Ref_of (gw G A) 72 [(2, o), (0, (cn : Int)), (0, 1)] [(0, (d1 S cn : Int))] _
      refine ZE.iret d_Ref_of_72 rfl ?_
      have e0 : inC S (cn : Int) = true := decide_eq_true (by omega)
      rw [show ofV S (cn : Int) 1 = ofN S cn 1 by unfold ofV; rw [e0, if_pos rfl, Int.toNat_natCast]] at k
      exact k
    · refine ZE.tableIn (tgt := 73) d_Ref_of_11 (by unfold zR; omega) (by omega) rfl rfl ?_
      refine ZE.aload_n d_Ref_of_73 rfl ?_
      refine ZE.getE (v := o + 4) d_Ref_of_74 f_Ref_19 (tg := 2) rfl hK.1 hF.a4 ?_
      refine ZE.iload_n d_Ref_of_77 rfl ?_
      refine ZE.ialdE (v := (isq (d1 S cn) : Int)) d_Ref_of_78 hK.k4 (by have hn0 := hK.n4; show 0 ≤ (cn : Int) ∧ (cn : Int) < gn G (o + 4); omega) hcl.1 ?_
      refine ZE.iret d_Ref_of_79 rfl ?_
      have e0 : inC S (cn : Int) = true := decide_eq_true (by omega)
      rw [show ofV S (cn : Int) 2 = ofN S cn 2 by unfold ofV; rw [e0, if_pos rfl, Int.toNat_natCast]] at k
      exact k
    · refine ZE.tableIn (tgt := 80) d_Ref_of_11 (by unfold zR; omega) (by omega) rfl rfl ?_
      refine ZE.aload_n d_Ref_of_80 rfl ?_
      refine ZE.getE (v := o + 5) d_Ref_of_81 f_Ref_22 (tg := 2) rfl hK.1 hF.a5 ?_
      refine ZE.iload_n d_Ref_of_84 rfl ?_
      refine ZE.ialdE (v := (rnd (d1 S cn) : Int)) d_Ref_of_85 hK.k5 (by have hn0 := hK.n5; show 0 ≤ (cn : Int) ∧ (cn : Int) < gn G (o + 5); omega) hcl.2.1 ?_
      refine ZE.iret d_Ref_of_86 rfl ?_
      have e0 : inC S (cn : Int) = true := decide_eq_true (by omega)
      rw [show ofV S (cn : Int) 3 = ofN S cn 3 by unfold ofV; rw [e0, if_pos rfl, Int.toNat_natCast]] at k
      exact k
    · refine ZE.tableIn (tgt := 87) d_Ref_of_11 (by unfold zR; omega) (by omega) rfl rfl ?_
      refine ZE.aload_n d_Ref_of_87 rfl ?_
      refine ZE.iload_n d_Ref_of_88 rfl ?_
      refine ZE.cV [(0, (cn : Int))] [] [(2, o), (0, (cn : Int))] d_Ref_of_89 l_Ref_160 rfl rfl rfl rfl rfl rfl hK.1 ?_
      refine r_isNegative (c := (cn : Int)) (R := rnd (d1 S cn)) hK hF (by omega) hcl.2.1 hRb ?_
      show ZE (d + 3) M_Ref_of (gw G A) 92 [(2, o), (0, (cn : Int)), (0, 4)] [(0, b2i (rnd (d1 S cn) % 2 = 1))] _
      refine ZE.if_eq (tgt := 99) d_Ref_of_92 rfl (zR_b2i _) (fun c92 => ?_) (fun c92 => ?_)
      · replace c92 := b2i_0.mp c92
        refine ZE.iconst (n := 0) d_Ref_of_99 ?_
        refine ZE.iret d_Ref_of_100 rfl ?_
        have e0 : inC S (cn : Int) = true := decide_eq_true (by omega)
        rw [show ofV S (cn : Int) 4 = 0 by unfold ofV; rw [e0, if_pos rfl, Int.toNat_natCast]; show ((rnd (d1 S cn) % 2 : Nat) : Int) = 0; omega] at k
        exact k
      · replace c92 := b2i_n0.mp c92
        refine ZE.iconst (n := 1) d_Ref_of_95 ?_
        refine ZE.goto (tgt := 100) d_Ref_of_96 rfl ?_
        refine ZE.iret d_Ref_of_100 rfl ?_
        have e0 : inC S (cn : Int) = true := decide_eq_true (by omega)
        rw [show ofV S (cn : Int) 4 = 1 by unfold ofV; rw [e0, if_pos rfl, Int.toNat_natCast]; show ((rnd (d1 S cn) % 2 : Nat) : Int) = 1; omega] at k
        exact k
    · refine ZE.tableIn (tgt := 101) d_Ref_of_11 (by unfold zR; omega) (by omega) rfl rfl ?_
      refine ZE.aload_n d_Ref_of_101 rfl ?_
      refine ZE.getE (v := o + 6) d_Ref_of_102 f_Ref_25 (tg := 2) rfl hK.1 hF.a6 ?_
      refine ZE.iload_n d_Ref_of_105 rfl ?_
      refine ZE.ialdE (v := (ix (gP1 S (ux (d1 S cn))) (bnd S) : Int)) d_Ref_of_106 hK.k6 (by have hn0 := hK.n6; show 0 ≤ (cn : Int) ∧ (cn : Int) < gn G (o + 6); omega) (hR.i1 cn (by omega)) ?_
      have hil := ix_lt (g := gP1 S (ux (d1 S cn))) (bnd S)
      have hp9 : 2 ^ bnd S ≤ 2 ^ 9 := Nat.pow_le_pow_right (by omega) (by omega)
      refine ZE.cS [(0, (ix (gP1 S (ux (d1 S cn))) (bnd S) : Int))] [] [(0, (ix (gP1 S (ux (d1 S cn))) (bnd S) : Int)), (9, 0), (9, 0)] d_Ref_of_107 l_Ref_206 rfl rfl rfl rfl rfl rfl ?_
      refine r_many (s := ix (gP1 S (ux (d1 S cn))) (bnd S)) (by omega) ?_
      show ZE (d + 3) M_Ref_of (gw G A) 110 [(2, o), (0, (cn : Int)), (0, 5)] [(0, (pop (ix (gP1 S (ux (d1 S cn))) (bnd S)) : Int))] _
      refine ZE.iret d_Ref_of_110 rfl ?_
      have e0 : inC S (cn : Int) = true := decide_eq_true (by omega)
      rw [show ofV S (cn : Int) 5 = ofN S cn 5 by unfold ofV; rw [e0, if_pos rfl, Int.toNat_natCast]] at k
      exact k
    · refine ZE.tableIn (tgt := 111) d_Ref_of_11 (by unfold zR; omega) (by omega) rfl rfl ?_
      refine ZE.aload_n d_Ref_of_111 rfl ?_
      refine ZE.iconst (n := 2) d_Ref_of_112 ?_
      refine ZE.iload_n d_Ref_of_113 rfl ?_
      refine ZE.imul d_Ref_of_114 ?_
      refine ZE.cV [(0, 2 * (cn : Int))] [] [(2, o), (0, 2 * (cn : Int))] d_Ref_of_115 l_Ref_108 rfl rfl rfl rfl rfl rfl hK.1 ?_
      refine r_longOf (v := ux (d1 S cn)) hK hF (by omega) hnx (by omega) ?_
      show ZE (d + 3) M_Ref_of (gw G A) 118 [(2, o), (0, (cn : Int)), (0, 6)] [(0, (dl (ux (d1 S cn)) : Int))] _
      refine ZE.iret d_Ref_of_118 rfl ?_
      have e0 : inC S (cn : Int) = true := decide_eq_true (by omega)
      rw [show ofV S (cn : Int) 6 = ofN S cn 6 by unfold ofV; rw [e0, if_pos rfl, Int.toNat_natCast]] at k
      exact k
    · refine ZE.tableIn (tgt := 119) d_Ref_of_11 (by unfold zR; omega) (by omega) rfl rfl ?_
      refine ZE.aload_n d_Ref_of_119 rfl ?_
      refine ZE.iconst (n := 2) d_Ref_of_120 ?_
      refine ZE.iload_n d_Ref_of_121 rfl ?_
      refine ZE.imul d_Ref_of_122 ?_
      refine ZE.iconst (n := 1) d_Ref_of_123 ?_
      refine ZE.iadd d_Ref_of_124 ?_
      refine ZE.cV [(0, (2 * (cn : Int)) + 1)] [] [(2, o), (0, (2 * (cn : Int)) + 1)] d_Ref_of_125 l_Ref_108 rfl rfl rfl rfl rfl rfl hK.1 ?_
      refine r_longOf (v := uy (d1 S cn)) hK hF (by omega) hny (by omega) ?_
      show ZE (d + 3) M_Ref_of (gw G A) 128 [(2, o), (0, (cn : Int)), (0, 7)] [(0, (dl (uy (d1 S cn)) : Int))] _
      refine ZE.iret d_Ref_of_128 rfl ?_
      have e0 : inC S (cn : Int) = true := decide_eq_true (by omega)
      rw [show ofV S (cn : Int) 7 = ofN S cn 7 by unfold ofV; rw [e0, if_pos rfl, Int.toNat_natCast]] at k
      exact k
    · refine ZE.tableIn (tgt := 129) d_Ref_of_11 (by unfold zR; omega) (by omega) rfl rfl ?_
      refine ZE.aload_n d_Ref_of_129 rfl ?_
      refine ZE.getE (v := o + 6) d_Ref_of_130 f_Ref_25 (tg := 2) rfl hK.1 hF.a6 ?_
      refine ZE.iload_n d_Ref_of_133 rfl ?_
      refine ZE.ialdE (v := (ix (gP1 S (ux (d1 S cn))) (bnd S) : Int)) d_Ref_of_134 hK.k6 (by have hn0 := hK.n6; show 0 ≤ (cn : Int) ∧ (cn : Int) < gn G (o + 6); omega) (hR.i1 cn (by omega)) ?_
      refine ZE.iret d_Ref_of_135 rfl ?_
      have e0 : inC S (cn : Int) = true := decide_eq_true (by omega)
      rw [show ofV S (cn : Int) 8 = ofN S cn 8 by unfold ofV; rw [e0, if_pos rfl, Int.toNat_natCast]] at k
      exact k
  · replace c5 := b2i_0.mp c5
    refine ZE.iconst (n := (-1)) d_Ref_of_8 ?_
    refine ZE.iret d_Ref_of_9 rfl ?_
    have e0 : inC S c = false := decide_eq_false c5
    rw [show ofV S c wh = -1 by unfold ofV; rw [e0]; rfl] at k
    exact k
