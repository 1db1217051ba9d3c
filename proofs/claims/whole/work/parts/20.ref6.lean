/-! nearing fractions; units -/
abbrev nS : Type := Nat × Nat × Nat × Nat
/-- p, the one ahead, r, the one ahead, behind k steps -/
def ns (D r : Nat) : Nat → nS
  | 0 => (r, 1, 1, 0)
  | k + 1 => ((ns D r k).1 * (cf D r (k + 1)).2.2 + (ns D r k).2.1, (ns D r k).1, (ns D r k).2.2.1 * (cf D r (k + 1)).2.2 + (ns D r k).2.2.2, (ns D r k).2.2.1)
def rowF (sl : Int → Prop) (f f' : Int → Int) : Prop := ∀ n : Int, 0 ≤ n → ¬ sl n → ∀ i : Int, 130 * n ≤ i → i < 130 * n + 130 → f' i = f i
theorem rowF.rf {sl : Int → Prop} {f : Int → Int} : rowF sl f f := fun _ _ _ _ _ _ => rfl
theorem rowF.step {sl : Int → Prop} {f g h : Int → Int} {t : Int} (a : rowF sl f g) (b : outs g h t) (ht : sl t) : rowF sl f h := fun n hn hs i h1 h2 => by
  have hne : n ≠ t := fun e => hs (e ▸ ht)
  exact (b i (by omega)).trans (a n hn hs i h1 h2)
theorem rowF.tr {sl : Int → Prop} {f g h : Int → Int} (a : rowF sl f g) (b : rowF sl g h) : rowF sl f h := fun n hn hs i h1 h2 => (b n hn hs i h1 h2).trans (a n hn hs i h1 h2)
theorem rowF.num {sl : Int → Prop} {f g : Int → Int} {n : Int} {v : Nat} (a : rowF sl f g) (hn : 0 ≤ n) (hs : ¬ sl n) (h9 : nd 10000 v ≤ 129) (h : num f n v) : num g n v := ⟨(a n hn hs _ (by omega) (by omega)).trans h.1, fun k hk => (a n hn hs _ (by omega) (by omega)).trans (h.2 k hk)⟩
theorem rowF.sub {sl sl2 : Int → Prop} {f g : Int → Int} (a : rowF sl f g) (h : ∀ n, sl n → sl2 n) : rowF sl2 f g := fun n hn hs i h1 h2 => a n hn (fun q => hs (h n q)) i h1 h2
/-- all but the steps' numbers and some slots of big is as it was -/
def bigF (sl : Int → Prop) (A A' : Int → Int → Int) (o : Int) : Prop := (∀ b : Int, b ≠ o → b ≠ o + 2 → A' b = A b) ∧ (∀ i : Int, ¬ (9 ≤ i ∧ i ≤ 11) → A' o i = A o i) ∧ rowF sl (A (o + 2)) (A' (o + 2))
theorem bigF.rf {sl : Int → Prop} {A : Int → Int → Int} {o : Int} : bigF sl A A o := ⟨fun _ _ _ => rfl, fun _ _ => rfl, rowF.rf⟩
theorem bigF.tr {sl : Int → Prop} {A B C : Int → Int → Int} {o : Int} (a : bigF sl A B o) (b : bigF sl B C o) : bigF sl A C o := ⟨fun c h1 h2 => (b.1 c h1 h2).trans (a.1 c h1 h2), fun i h => (b.2.1 i h).trans (a.2.1 i h), a.2.2.tr b.2.2⟩
theorem bigF.sub {sl sl2 : Int → Prop} {A B : Int → Int → Int} {o : Int} (a : bigF sl A B o) (h : ∀ n, sl n → sl2 n) : bigF sl2 A B o := ⟨a.1, a.2.1, a.2.2.sub h⟩
theorem goF.big {sl : Int → Prop} {A B : Int → Int → Int} {o : Int} (a : goF A B o) : bigF sl A B o := ⟨fun b h1 _ => a.row h1, fun i h => a o i (fun q => h q.2), by rw [a.row (b := o + 2) (by omega)]; exact rowF.rf⟩
theorem rowF.big {sl : Int → Prop} {A : Int → Int → Int} {f : Int → Int} {o : Int} (a : rowF sl (A (o + 2)) f) : bigF sl A (upA A (o + 2) f) o := ⟨fun b _ h2 => upA_ne _ _ h2, fun i _ => by rw [upA_ne _ _ (show o ≠ o + 2 by omega)], by rw [upA_at]; exact a⟩
theorem RF.big {sl : Int → Prop} {A A' : Int → Int → Int} {o : Int} (h : RF A o) (g : bigF sl A A' o) : RF A' o := by
  have e0 : ∀ j : Int, ¬ (9 ≤ j ∧ j ≤ 11) → A' o j = A o j := g.2.1
  have e1 : A' (o + 1) = A (o + 1) := g.1 _ (by omega) (by omega)
  unfold RF
  rw [e1]
  refine ⟨(e0 _ (by omega)).trans h.a0, (e0 _ (by omega)).trans h.a2, (e0 _ (by omega)).trans h.a3, (e0 _ (by omega)).trans h.a4, (e0 _ (by omega)).trans h.a5, (e0 _ (by omega)).trans h.a6, (e0 _ (by omega)).trans h.a12, (e0 _ (by omega)).trans h.a13, (e0 _ (by omega)).trans h.a14, (e0 _ (by omega)).trans h.a16, (e0 _ (by omega)).trans h.a17, (e0 _ (by omega)).trans h.a18, (e0 _ (by omega)).trans h.a22, (e0 _ (by omega)).trans h.a23, (e0 _ (by omega)).trans h.a24, (e0 _ (by omega)).trans h.a25, (e0 _ (by omega)).trans h.a26, (e0 _ (by omega)).trans h.a27, (e0 _ (by omega)).trans h.a30, h.sev⟩
/-- the steps of a class go round, soundly, as far as K -/
def CFok (D r R K : Nat) : Prop := (∀ k, k < K → cgood D r (cf D r k) = true) ∧ 1 ≤ R ∧ (cf D r R).2.1 = 1 ∧ (∀ j, 1 ≤ j → j < R → (cf D r j).2.1 ≠ 1) ∧ R < K ∧ R ≤ 100 ∧ D ≤ 2000000 ∧ r ≤ 9999
theorem CFok.a {D r R K : Nat} (h : CFok D r R K) {k : Nat} (hk : k ≤ K) : (cf D r k).2.2 ≤ 9999 ∧ (cf D r k).2.1 ≤ 10000 ∧ (cf D r k).1 ≤ 10000 := by
  cases k with
  | zero => exact ⟨h.2.2.2.2.2.2.2, by show (1 : Nat) ≤ 10000; omega, by show (0 : Nat) ≤ 10000; omega⟩
  | succ k =>
    have := of_decide_eq_true (h.1 k (by omega))
    obtain ⟨-, -, -, -, -, -, h7, h8, h9⟩ := this
    exact ⟨by show (cfs D r (cf D r k)).2.2 ≤ _; omega, h7, h8⟩
set_option maxRecDepth 20000 in
set_option maxHeartbeats 4000000 in
theorem r_goSteps {d : Nat} {G : zG} {A : Int → Int → Int} {P : Option zV → zG → Prop} {o : Int} (hK : RK G o) (hF : RF A o) {c : Int} (hc : 0 ≤ c ∧ c < 63) {q D r R K : Nat} (hq : A (o + 3) c = q) (hD : (c < 32 ∧ D = 2 * q) ∨ (32 ≤ c ∧ D = q)) (hr : A (o + 4) c = r) (hcf : CFok D r R K) {n : Nat} (hn : n ≤ K) (hn2 : n ≤ 10000) (k : ∀ A2, goS A2 o (cf D r n) → goF A A2 o → P none (gw G A2)) : ZE (d + 2) M_Ref_goSteps (gw G A) 0 [(2, o), (0, c), (0, (n : Int)), (9, 0)] [] P := by
  refine ZE.aload_n d_Ref_goSteps_0 rfl ?_
  refine ZE.iload_n d_Ref_goSteps_1 rfl ?_
  refine ZE.cV [(0, c)] [] [(2, o), (0, c)] d_Ref_goSteps_2 l_Ref_131 rfl rfl rfl rfl rfl rfl hK.1 ?_
  refine r_begin (r := r) hK hF hc hr (fun A2 hsA2 hgA2 => ?_)
  show ZE (d + 2) M_Ref_goSteps (gw G A2) 5 [(2, o), (0, c), (0, (n : Int)), (9, 0)] [] _
  refine ZE.iconst (n := 0) d_Ref_goSteps_5 ?_
  refine ZE.istore_n (ls2 := [(2, o), (0, c), (0, (n : Int)), (0, 0)]) d_Ref_goSteps_6 (Nat.le_of_ble_eq_true rfl) rfl ?_
  have L7 : ∀ (t : Nat) (j : Nat) (A1 : Int → Int → Int) (hj : j ≤ n) (s1 : goS A1 o (cf D r j)) (g1 : goF A A1 o), n - j < t → ZE (d + 2) M_Ref_goSteps (gw G A1) 7 [(2, o), (0, c), (0, (n : Int)), (0, (j : Int))] [] P := by
    intro t
    induction t with
    | zero => intro j A1 hj s1 g1 hm; exact absurd hm (Nat.not_lt_zero _)
    | succ t ih =>
      intro j A1 hj s1 g1 hm
      have hA1 : RF A1 o := hF.go g1
      refine ZE.iload_n d_Ref_goSteps_7 rfl ?_
      refine ZE.iload_n d_Ref_goSteps_8 rfl ?_
      refine ZE.icmp_ge (tgt := 23) d_Ref_goSteps_9 rfl (by unfold zR; omega) (by unfold zR; omega) (fun c9 => ?_) (fun c9 => ?_)
      · refine ZE.vret d_Ref_goSteps_23 rfl ?_
        have e1 : j = n := by omega
        subst e1
        exact k A1 s1 g1
      · refine ZE.aload_n d_Ref_goSteps_12 rfl ?_
        refine ZE.iload_n d_Ref_goSteps_13 rfl ?_
        refine ZE.cV [(0, c)] [] [(2, o), (0, c)] d_Ref_goSteps_14 l_Ref_134 rfl rfl rfl rfl rfl rfl hK.1 ?_
        refine r_go (D := D) (r := r) (s := cf D r j) (q := q) hK hA1 hc (by rw [g1.row (by omega)]; exact hq) hD (by rw [g1.row (by omega)]; exact hr) s1 (hcf.1 _ (by omega)) (by have := hcf.2.2.2.2.2.2.1; omega) (by have := hcf.2.2.2.2.2.2.2; omega) (fun A3 hsA3 hgA3 => ?_)
        show ZE (d + 2) M_Ref_goSteps (gw G A3) 17 [(2, o), (0, c), (0, (n : Int)), (0, (j : Int))] [] _
        refine ZE.iinc (ls2 := [(2, o), (0, c), (0, (n : Int)), (0, (j : Int) + 1)]) d_Ref_goSteps_17 rfl rfl ?_
        refine ZE.goto (tgt := 7) d_Ref_goSteps_20 rfl ?_
        rw [show (j : Int) + 1 = ((j + 1 : Nat) : Int) by omega]
        exact ih (j + 1) A3 (by omega) hsA3 (g1.tr hgA3) (by omega)
  exact L7 _ 0 A2 (Nat.zero_le _) hsA2 hgA2 (Nat.lt_succ_self _)
set_option maxRecDepth 20000 in
set_option maxHeartbeats 4000000 in
theorem r_isNegative {d : Nat} {G : zG} {A : Int → Int → Int} {P : Option zV → zG → Prop} {o : Int} (hK : RK G o) (hF : RF A o) {c : Int} (hc : 0 ≤ c ∧ c < 63) {R : Nat} (hR : A (o + 5) c = R) (hR2 : R ≤ 100) (k : P (some (0, b2i (R % 2 = 1))) (gw G A)) : ZE d M_Ref_isNegative (gw G A) 0 [(2, o), (0, c)] [] P := by
  refine ZE.aload_n d_Ref_isNegative_0 rfl ?_
  refine ZE.getE (v := o + 5) d_Ref_isNegative_1 f_Ref_22 (tg := 2) rfl hK.1 hF.a5 ?_
  refine ZE.iload_n d_Ref_isNegative_4 rfl ?_
  refine ZE.ialdE (v := (R : Int)) d_Ref_isNegative_5 hK.k5 (by have hn0 := hK.n5; show 0 ≤ c ∧ c < gn G (o + 5); omega) hR ?_
  refine ZE.iconst (n := 2) d_Ref_isNegative_6 ?_
  refine ZE.iremP d_Ref_isNegative_7 (by omega) ?_
  refine ZE.iconst (n := 1) d_Ref_isNegative_8 ?_
  refine ZE.icmp_ne (tgt := 16) d_Ref_isNegative_9 rfl (by unfold zR; omega) (by unfold zR; omega) (fun c9 => ?_) (fun c9 => ?_)
  · refine ZE.iconst (n := 0) d_Ref_isNegative_16 ?_
    refine ZE.zret d_Ref_isNegative_17 rfl (by omega) ?_
    rw [b2i_f (by omega)] at k
    exact k
  · refine ZE.iconst (n := 1) d_Ref_isNegative_12 ?_
    refine ZE.goto (tgt := 17) d_Ref_isNegative_13 rfl ?_
    refine ZE.zret d_Ref_isNegative_17 rfl (by omega) ?_
    rw [b2i_t (by omega)] at k
    exact k
set_option maxRecDepth 20000 in
set_option maxHeartbeats 4000000 in
theorem r_layNearing {d : Nat} {G : zG} {A : Int → Int → Int} {P : Option zV → zG → Prop} {o : Int} (hK : RK G o) (hF : RF A o) {c : Int} (hc : 0 ≤ c ∧ c < 63) {q D r R K : Nat} (hq : A (o + 3) c = q) (hD : (c < 32 ∧ D = 2 * q) ∨ (32 ≤ c ∧ D = q)) (hr : A (o + 4) c = r) (hcf : CFok D r R K) (hR : A (o + 5) c = R) {sx sy : Int} (hsx : (0 ≤ sx ∧ sx ≤ 125) ∨ (129 ≤ sx ∧ sx ≤ 130)) (hsy : (0 ≤ sy ∧ sy ≤ 125) ∨ (129 ≤ sy ∧ sy ≤ 130)) (hxy : sx ≠ sy) (hns : ∀ j, j < R → nd 10000 (ns D r j).1 ≤ 127 ∧ nd 10000 (ns D r j).2.1 ≤ 127 ∧ nd 10000 (ns D r j).2.2.1 ≤ 127 ∧ nd 10000 (ns D r j).2.2.2 ≤ 127) (k : ∀ A2, num (A2 (o + 2)) sx (ns D r (R - 1)).1 → num (A2 (o + 2)) sy (ns D r (R - 1)).2.2.1 → bigF (fun n => n = sx ∨ n = sy ∨ (126 ≤ n ∧ n ≤ 128)) A A2 o → P none (gw G A2)) : ZE (d + 3) M_Ref_layNearing (gw G A) 0 [(2, o), (0, c), (0, sx), (0, sy), (9, 0)] [] P := by
  refine ZE.aload_n d_Ref_layNearing_0 rfl ?_
  refine ZE.bipush (n := 126) d_Ref_layNearing_1 rfl ?_
  refine ZE.iconst (n := 1) d_Ref_layNearing_3 ?_
  refine ZE.cV [(0, 126), (0, 1)] [] [(2, o), (0, 126), (0, 1), (9, 0), (9, 0)] d_Ref_layNearing_4 l_Ref_69 rfl rfl rfl rfl rfl rfl hK.1 ?_
  refine r_setSmall (n := 126) (v := 1) hK hF (by omega) (by omega) (fun f1 hn1 ho1 => ?_)
  show ZE (d + 3) M_Ref_layNearing (gw G (upA A (o + 2) f1)) 7 [(2, o), (0, c), (0, sx), (0, sy), (9, 0)] [] _
  have fr1 := rowF.step (rowF.rf (sl := (fun n => n = sx ∨ n = sy ∨ (126 ≤ n ∧ n ≤ 128)))) ho1 (by omega)
  refine ZE.aload_n d_Ref_layNearing_7 rfl ?_
  refine ZE.bipush (n := 127) d_Ref_layNearing_8 rfl ?_
  refine ZE.iconst (n := 0) d_Ref_layNearing_10 ?_
  refine ZE.cV [(0, 127), (0, 0)] [] [(2, o), (0, 127), (0, 0), (9, 0), (9, 0)] d_Ref_layNearing_11 l_Ref_69 rfl rfl rfl rfl rfl rfl hK.1 ?_
  refine r_setSmall (n := 127) (v := 0) hK (hF.uA (by omega)) (by omega) (by omega) (fun f2 hn2 ho2 => ?_)
  show ZE (d + 3) M_Ref_layNearing (gw G (upA (upA A (o + 2) f1) (o + 2) f2)) 14 [(2, o), (0, c), (0, sx), (0, sy), (9, 0)] [] _
  rw [upA_upA]
  rw [upA_at] at ho2
  have m2_1 := ho2.num (m := 126) (by omega) (by have h9 : nd 10000 1 ≤ 127 := (nd_le (by omega) (by omega)); exact Nat.le_trans h9 (by decide)) hn1
  have fr2 := rowF.step fr1 ho2 (by omega)
  refine ZE.aload_n d_Ref_layNearing_14 rfl ?_
  refine ZE.iload_n d_Ref_layNearing_15 rfl ?_
  refine ZE.aload_n d_Ref_layNearing_16 rfl ?_
  refine ZE.getE (v := o + 4) d_Ref_layNearing_17 f_Ref_19 (tg := 2) rfl hK.1 (hF.uA (by omega)).a4 ?_
  refine ZE.iload_n d_Ref_layNearing_20 rfl ?_
  refine ZE.ialdE (v := (r : Int)) d_Ref_layNearing_21 hK.k4 (by have hn0 := hK.n4; show 0 ≤ c ∧ c < gn G (o + 4); omega) (by rw [gw_at, upA_ne _ _ (by omega)]; exact hr) ?_
  refine ZE.cV [(0, sx), (0, (r : Int))] [] [(2, o), (0, sx), (0, (r : Int)), (9, 0), (9, 0)] d_Ref_layNearing_22 l_Ref_69 rfl rfl rfl rfl rfl rfl hK.1 ?_
  refine r_setSmall (n := sx) (v := r) hK (hF.uA (by omega)) (by omega) (by have := hcf.2.2.2.2.2.2.2; omega) (fun f3 hn3 ho3 => ?_)
  show ZE (d + 3) M_Ref_layNearing (gw G (upA (upA A (o + 2) f2) (o + 2) f3)) 25 [(2, o), (0, c), (0, sx), (0, sy), (9, 0)] [] _
  rw [upA_upA]
  rw [upA_at] at ho3
  have m3_1 := ho3.num (m := 126) (by omega) (by have h9 : nd 10000 1 ≤ 127 := (nd_le (by omega) (by omega)); exact Nat.le_trans h9 (by decide)) m2_1
  have m3_2 := ho3.num (m := 127) (by omega) (by have h9 : nd 10000 0 ≤ 127 := (nd_le (by omega) (by omega)); exact Nat.le_trans h9 (by decide)) hn2
  have fr3 := rowF.step fr2 ho3 (by omega)
  refine ZE.aload_n d_Ref_layNearing_25 rfl ?_
  refine ZE.iload_n d_Ref_layNearing_26 rfl ?_
  refine ZE.iconst (n := 1) d_Ref_layNearing_27 ?_
  refine ZE.cV [(0, sy), (0, 1)] [] [(2, o), (0, sy), (0, 1), (9, 0), (9, 0)] d_Ref_layNearing_28 l_Ref_69 rfl rfl rfl rfl rfl rfl hK.1 ?_
  refine r_setSmall (n := sy) (v := 1) hK (hF.uA (by omega)) (by omega) (by omega) (fun f4 hn4 ho4 => ?_)
  show ZE (d + 3) M_Ref_layNearing (gw G (upA (upA A (o + 2) f3) (o + 2) f4)) 31 [(2, o), (0, c), (0, sx), (0, sy), (9, 0)] [] _
  rw [upA_upA]
  rw [upA_at] at ho4
  have m4_1 := ho4.num (m := 126) (by omega) (by have h9 : nd 10000 1 ≤ 127 := (nd_le (by omega) (by omega)); exact Nat.le_trans h9 (by decide)) m3_1
  have m4_2 := ho4.num (m := 127) (by omega) (by have h9 : nd 10000 0 ≤ 127 := (nd_le (by omega) (by omega)); exact Nat.le_trans h9 (by decide)) m3_2
  have m4_3 := ho4.num (m := sx) (by omega) (by have h9 : nd 10000 r ≤ 127 := (hns 0 (by have := hcf.2.1; omega)).1; exact Nat.le_trans h9 (by decide)) hn3
  have fr4 := rowF.step fr3 ho4 (by omega)
  refine ZE.aload_n d_Ref_layNearing_31 rfl ?_
  refine ZE.iload_n d_Ref_layNearing_32 rfl ?_
  refine ZE.cV [(0, c)] [] [(2, o), (0, c)] d_Ref_layNearing_33 l_Ref_131 rfl rfl rfl rfl rfl rfl hK.1 ?_
  refine r_begin (r := r) hK (hF.uA (by omega)) hc (by rw [upA_ne _ _ (by omega)]; exact hr) (fun A2 hsA2 hgA2 => ?_)
  show ZE (d + 3) M_Ref_layNearing (gw G A2) 36 [(2, o), (0, c), (0, sx), (0, sy), (9, 0)] [] _
  have hA2 : RF A2 o := (hF.uA (by omega)).go hgA2
  refine ZE.iconst (n := 1) d_Ref_layNearing_36 ?_
  refine ZE.istore (ls2 := [(2, o), (0, c), (0, sx), (0, sy), (0, 1)]) d_Ref_layNearing_37 (Nat.le_of_ble_eq_true rfl) rfl ?_
  have L39 : ∀ (t : Nat) (j : Nat) (A1 : Int → Int → Int) (hj : j + 1 ≤ R) (s1 : goS A1 o (cf D r j)) (g1 : bigF (fun n => n = sx ∨ n = sy ∨ (126 ≤ n ∧ n ≤ 128)) A A1 o) (q1 : num (A1 (o + 2)) sx (ns D r j).1) (q2 : num (A1 (o + 2)) 126 (ns D r j).2.1) (q3 : num (A1 (o + 2)) sy (ns D r j).2.2.1) (q4 : num (A1 (o + 2)) 127 (ns D r j).2.2.2), R - j < t → ZE (d + 3) M_Ref_layNearing (gw G A1) 39 [(2, o), (0, c), (0, sx), (0, sy), (0, (j : Int) + 1)] [] P := by
    intro t
    induction t with
    | zero => intro j A1 hj s1 g1 q1 q2 q3 q4 hm; exact absurd hm (Nat.not_lt_zero _)
    | succ t ih =>
      intro j A1 hj s1 g1 q1 q2 q3 q4 hm
      have hA1 : RF A1 o := hF.big g1
      have hR1 : A1 (o + 5) c = (R : Int) := by rw [g1.1 _ (by omega) (by omega)]; exact hR
      have hRK := hcf.2.2.2.2.1
      have hRb := hcf.2.2.2.2.2.1
      have hrg := hcf.a (k := j + 1) (by have := hcf.2.2.2.2.1; omega)
      refine ZE.iload d_Ref_layNearing_39 rfl ?_
      have hRb := hcf.2.2.2.2.2.1
      refine ZE.aload_n d_Ref_layNearing_41 rfl ?_
      refine ZE.getE (v := o + 5) d_Ref_layNearing_42 f_Ref_22 (tg := 2) rfl hK.1 hA1.a5 ?_
      refine ZE.iload_n d_Ref_layNearing_45 rfl ?_
      refine ZE.ialdE (v := (R : Int)) d_Ref_layNearing_46 hK.k5 (by have hn0 := hK.n5; show 0 ≤ c ∧ c < gn G (o + 5); omega) hR1 ?_
      refine ZE.icmp_ge (tgt := 119) d_Ref_layNearing_47 rfl (by unfold zR; omega) (by unfold zR; omega) (fun c47 => ?_) (fun c47 => ?_)
      · refine ZE.vret d_Ref_layNearing_119 rfl ?_
        have e1 : R - 1 = j := by omega
        rw [e1] at k
        exact k A1 q1 q3 g1
      · refine ZE.aload_n d_Ref_layNearing_50 rfl ?_
        refine ZE.iload_n d_Ref_layNearing_51 rfl ?_
        refine ZE.cV [(0, c)] [] [(2, o), (0, c)] d_Ref_layNearing_52 l_Ref_134 rfl rfl rfl rfl rfl rfl hK.1 ?_
        refine r_go (D := D) (r := r) (s := cf D r j) (q := q) hK hA1 hc (by rw [g1.1 _ (by omega) (by omega)]; exact hq) hD (by rw [g1.1 _ (by omega) (by omega)]; exact hr) s1 (hcf.1 _ (by omega)) (by have := hcf.2.2.2.2.2.2.1; omega) (by have := hcf.2.2.2.2.2.2.2; omega) (fun A3 hsA3 hgA3 => ?_)
        show ZE (d + 3) M_Ref_layNearing (gw G A3) 55 [(2, o), (0, c), (0, sx), (0, sy), (0, (j : Int) + 1)] [] _
        have hA3 : RF A3 o := hA1.go hgA3
        have e3 := hgA3.row (b := o + 2) (by omega)
        rw [← e3] at q1 q2 q3 q4
        refine ZE.aload_n d_Ref_layNearing_55 rfl ?_
        refine ZE.iload_n d_Ref_layNearing_56 rfl ?_
        refine ZE.aload_n d_Ref_layNearing_57 rfl ?_
        refine ZE.getE (v := ((cf D r (j + 1)).2.2 : Int)) d_Ref_layNearing_58 f_Ref_125 (tg := 0) rfl hK.1 hsA3.2.2 ?_
        refine ZE.bipush (n := 126) d_Ref_layNearing_61 rfl ?_
        refine ZE.sipush (n := 128) d_Ref_layNearing_63 rfl ?_
        refine ZE.cV [(0, sx), (0, ((cf D r (j + 1)).2.2 : Int)), (0, 126), (0, 128)] [] [(2, o), (0, sx), (0, ((cf D r (j + 1)).2.2 : Int)), (0, 126), (0, 128), (9, 0), (9, 0), (9, 0), (9, 0)] d_Ref_layNearing_66 l_Ref_149 rfl rfl rfl rfl rfl rfl hK.1 ?_
        refine r_times (n := sx) (m := 126) (t0 := 128) (v := (ns D r j).1) (w := (ns D r j).2.1) (y := (cf D r (j + 1)).2.2) hK hA3 (by omega) (by omega) (by omega) (by omega) (by omega) (by omega) q1 q2 (by have h9 : nd 10000 ((ns D r j).1) ≤ 127 := (hns j (by omega)).1; omega) (by have h9 : nd 10000 ((ns D r j).2.1) ≤ 127 := (hns j (by omega)).2.1; omega) (fun f1 hn1 ho1 => ?_)
        show ZE (d + 3) M_Ref_layNearing (gw G (upA A3 (o + 2) f1)) 69 [(2, o), (0, c), (0, sx), (0, sy), (0, (j : Int) + 1)] [] _
        have m1_1 := ho1.num (m := sx) (by omega) (by have h9 : nd 10000 ((ns D r j).1) ≤ 127 := (hns j (by omega)).1; exact Nat.le_trans h9 (by decide)) q1
        have m1_2 := ho1.num (m := 126) (by omega) (by have h9 : nd 10000 ((ns D r j).2.1) ≤ 127 := (hns j (by omega)).2.1; exact Nat.le_trans h9 (by decide)) q2
        have m1_3 := ho1.num (m := sy) (by omega) (by have h9 : nd 10000 ((ns D r j).2.2.1) ≤ 127 := (hns j (by omega)).2.2.1; exact Nat.le_trans h9 (by decide)) q3
        have m1_4 := ho1.num (m := 127) (by omega) (by have h9 : nd 10000 ((ns D r j).2.2.2) ≤ 127 := (hns j (by omega)).2.2.2; exact Nat.le_trans h9 (by decide)) q4
        have fr1 := rowF.step (rowF.rf (sl := (fun n => n = sx ∨ n = sy ∨ (126 ≤ n ∧ n ≤ 128)))) ho1 (by omega)
        refine ZE.aload_n d_Ref_layNearing_69 rfl ?_
        refine ZE.iload_n d_Ref_layNearing_70 rfl ?_
        refine ZE.bipush (n := 126) d_Ref_layNearing_71 rfl ?_
        refine ZE.cV [(0, sx), (0, 126)] [] [(2, o), (0, sx), (0, 126), (9, 0)] d_Ref_layNearing_73 l_Ref_153 rfl rfl rfl rfl rfl rfl hK.1 ?_
        refine r_copyBig (n := sx) (t0 := 126) hK (hA3.uA (by omega)) (by omega) (by omega) (by omega) (fun f2 hc2 ho2 => ?_)
        show ZE (d + 3) M_Ref_layNearing (gw G (upA (upA A3 (o + 2) f1) (o + 2) f2)) 76 [(2, o), (0, c), (0, sx), (0, sy), (0, (j : Int) + 1)] [] _
        rw [upA_upA]
        rw [upA_at] at ho2
        rw [upA_at] at hc2
        have hn2 := hc2 ((ns D r j).1) (by have h9 : nd 10000 ((ns D r j).1) ≤ 127 := (hns j (by omega)).1; exact Nat.le_trans h9 (by decide)) m1_1
        have m2_1 := ho2.num (m := sx) (by omega) (by have h9 : nd 10000 ((ns D r j).1) ≤ 127 := (hns j (by omega)).1; exact Nat.le_trans h9 (by decide)) m1_1
        have m2_2 := ho2.num (m := sy) (by omega) (by have h9 : nd 10000 ((ns D r j).2.2.1) ≤ 127 := (hns j (by omega)).2.2.1; exact Nat.le_trans h9 (by decide)) m1_3
        have m2_3 := ho2.num (m := 127) (by omega) (by have h9 : nd 10000 ((ns D r j).2.2.2) ≤ 127 := (hns j (by omega)).2.2.2; exact Nat.le_trans h9 (by decide)) m1_4
        have m2_4 := ho2.num (m := 128) (by omega) (by have h9 : nd 10000 ((ns D r (j + 1)).1) ≤ 127 := (hns (j + 1) (by omega)).1; exact Nat.le_trans h9 (by decide)) hn1
        have fr2 := rowF.step fr1 ho2 (by omega)
        refine ZE.aload_n d_Ref_layNearing_76 rfl ?_
        refine ZE.sipush (n := 128) d_Ref_layNearing_77 rfl ?_
        refine ZE.iload_n d_Ref_layNearing_80 rfl ?_
        refine ZE.cV [(0, 128), (0, sx)] [] [(2, o), (0, 128), (0, sx), (9, 0)] d_Ref_layNearing_81 l_Ref_153 rfl rfl rfl rfl rfl rfl hK.1 ?_
        refine r_copyBig (n := 128) (t0 := sx) hK (hA3.uA (by omega)) (by omega) (by omega) (by omega) (fun f3 hc3 ho3 => ?_)
        show ZE (d + 3) M_Ref_layNearing (gw G (upA (upA A3 (o + 2) f2) (o + 2) f3)) 84 [(2, o), (0, c), (0, sx), (0, sy), (0, (j : Int) + 1)] [] _
        rw [upA_upA]
        rw [upA_at] at ho3
        rw [upA_at] at hc3
        have hn3 := hc3 ((ns D r (j + 1)).1) (by have h9 : nd 10000 ((ns D r (j + 1)).1) ≤ 127 := (hns (j + 1) (by omega)).1; exact Nat.le_trans h9 (by decide)) m2_4
        have m3_1 := ho3.num (m := sy) (by omega) (by have h9 : nd 10000 ((ns D r j).2.2.1) ≤ 127 := (hns j (by omega)).2.2.1; exact Nat.le_trans h9 (by decide)) m2_2
        have m3_2 := ho3.num (m := 127) (by omega) (by have h9 : nd 10000 ((ns D r j).2.2.2) ≤ 127 := (hns j (by omega)).2.2.2; exact Nat.le_trans h9 (by decide)) m2_3
        have m3_3 := ho3.num (m := 128) (by omega) (by have h9 : nd 10000 ((ns D r (j + 1)).1) ≤ 127 := (hns (j + 1) (by omega)).1; exact Nat.le_trans h9 (by decide)) m2_4
        have m3_4 := ho3.num (m := 126) (by omega) (by have h9 : nd 10000 ((ns D r j).1) ≤ 127 := (hns j (by omega)).1; exact Nat.le_trans h9 (by decide)) hn2
        have fr3 := rowF.step fr2 ho3 (by omega)
        refine ZE.aload_n d_Ref_layNearing_84 rfl ?_
        refine ZE.iload_n d_Ref_layNearing_85 rfl ?_
        refine ZE.aload_n d_Ref_layNearing_86 rfl ?_
        refine ZE.getE (v := ((cf D r (j + 1)).2.2 : Int)) d_Ref_layNearing_87 f_Ref_125 (tg := 0) rfl hK.1 ((congrFun (upA_ne _ _ (by omega)) _).trans hsA3.2.2) ?_
        refine ZE.bipush (n := 127) d_Ref_layNearing_90 rfl ?_
        refine ZE.sipush (n := 128) d_Ref_layNearing_92 rfl ?_
        refine ZE.cV [(0, sy), (0, ((cf D r (j + 1)).2.2 : Int)), (0, 127), (0, 128)] [] [(2, o), (0, sy), (0, ((cf D r (j + 1)).2.2 : Int)), (0, 127), (0, 128), (9, 0), (9, 0), (9, 0), (9, 0)] d_Ref_layNearing_95 l_Ref_149 rfl rfl rfl rfl rfl rfl hK.1 ?_
        refine r_times (n := sy) (m := 127) (t0 := 128) (v := (ns D r j).2.2.1) (w := (ns D r j).2.2.2) (y := (cf D r (j + 1)).2.2) hK (hA3.uA (by omega)) (by omega) (by omega) (by omega) (by omega) (by omega) (by omega) (by rw [upA_at]; exact m3_1) (by rw [upA_at]; exact m3_2) (by have h9 : nd 10000 ((ns D r j).2.2.1) ≤ 127 := (hns j (by omega)).2.2.1; omega) (by have h9 : nd 10000 ((ns D r j).2.2.2) ≤ 127 := (hns j (by omega)).2.2.2; omega) (fun f4 hn4 ho4 => ?_)
        show ZE (d + 3) M_Ref_layNearing (gw G (upA (upA A3 (o + 2) f3) (o + 2) f4)) 98 [(2, o), (0, c), (0, sx), (0, sy), (0, (j : Int) + 1)] [] _
        rw [upA_upA]
        rw [upA_at] at ho4
        have m4_1 := ho4.num (m := sy) (by omega) (by have h9 : nd 10000 ((ns D r j).2.2.1) ≤ 127 := (hns j (by omega)).2.2.1; exact Nat.le_trans h9 (by decide)) m3_1
        have m4_2 := ho4.num (m := 127) (by omega) (by have h9 : nd 10000 ((ns D r j).2.2.2) ≤ 127 := (hns j (by omega)).2.2.2; exact Nat.le_trans h9 (by decide)) m3_2
        have m4_3 := ho4.num (m := 126) (by omega) (by have h9 : nd 10000 ((ns D r j).1) ≤ 127 := (hns j (by omega)).1; exact Nat.le_trans h9 (by decide)) m3_4
        have m4_4 := ho4.num (m := sx) (by omega) (by have h9 : nd 10000 ((ns D r (j + 1)).1) ≤ 127 := (hns (j + 1) (by omega)).1; exact Nat.le_trans h9 (by decide)) hn3
        have fr4 := rowF.step fr3 ho4 (by omega)
        refine ZE.aload_n d_Ref_layNearing_98 rfl ?_
        refine ZE.iload_n d_Ref_layNearing_99 rfl ?_
        refine ZE.bipush (n := 127) d_Ref_layNearing_100 rfl ?_
        refine ZE.cV [(0, sy), (0, 127)] [] [(2, o), (0, sy), (0, 127), (9, 0)] d_Ref_layNearing_102 l_Ref_153 rfl rfl rfl rfl rfl rfl hK.1 ?_
        refine r_copyBig (n := sy) (t0 := 127) hK (hA3.uA (by omega)) (by omega) (by omega) (by omega) (fun f5 hc5 ho5 => ?_)
        show ZE (d + 3) M_Ref_layNearing (gw G (upA (upA A3 (o + 2) f4) (o + 2) f5)) 105 [(2, o), (0, c), (0, sx), (0, sy), (0, (j : Int) + 1)] [] _
        rw [upA_upA]
        rw [upA_at] at ho5
        rw [upA_at] at hc5
        have hn5 := hc5 ((ns D r j).2.2.1) (by have h9 : nd 10000 ((ns D r j).2.2.1) ≤ 127 := (hns j (by omega)).2.2.1; exact Nat.le_trans h9 (by decide)) m4_1
        have m5_1 := ho5.num (m := sy) (by omega) (by have h9 : nd 10000 ((ns D r j).2.2.1) ≤ 127 := (hns j (by omega)).2.2.1; exact Nat.le_trans h9 (by decide)) m4_1
        have m5_2 := ho5.num (m := 126) (by omega) (by have h9 : nd 10000 ((ns D r j).1) ≤ 127 := (hns j (by omega)).1; exact Nat.le_trans h9 (by decide)) m4_3
        have m5_3 := ho5.num (m := sx) (by omega) (by have h9 : nd 10000 ((ns D r (j + 1)).1) ≤ 127 := (hns (j + 1) (by omega)).1; exact Nat.le_trans h9 (by decide)) m4_4
        have m5_4 := ho5.num (m := 128) (by omega) (by have h9 : nd 10000 ((ns D r (j + 1)).2.2.1) ≤ 127 := (hns (j + 1) (by omega)).2.2.1; exact Nat.le_trans h9 (by decide)) hn4
        have fr5 := rowF.step fr4 ho5 (by omega)
        refine ZE.aload_n d_Ref_layNearing_105 rfl ?_
        refine ZE.sipush (n := 128) d_Ref_layNearing_106 rfl ?_
        refine ZE.iload_n d_Ref_layNearing_109 rfl ?_
        refine ZE.cV [(0, 128), (0, sy)] [] [(2, o), (0, 128), (0, sy), (9, 0)] d_Ref_layNearing_110 l_Ref_153 rfl rfl rfl rfl rfl rfl hK.1 ?_
        refine r_copyBig (n := 128) (t0 := sy) hK (hA3.uA (by omega)) (by omega) (by omega) (by omega) (fun f6 hc6 ho6 => ?_)
        show ZE (d + 3) M_Ref_layNearing (gw G (upA (upA A3 (o + 2) f5) (o + 2) f6)) 113 [(2, o), (0, c), (0, sx), (0, sy), (0, (j : Int) + 1)] [] _
        rw [upA_upA]
        rw [upA_at] at ho6
        rw [upA_at] at hc6
        have hn6 := hc6 ((ns D r (j + 1)).2.2.1) (by have h9 : nd 10000 ((ns D r (j + 1)).2.2.1) ≤ 127 := (hns (j + 1) (by omega)).2.2.1; exact Nat.le_trans h9 (by decide)) m5_4
        have m6_1 := ho6.num (m := 126) (by omega) (by have h9 : nd 10000 ((ns D r j).1) ≤ 127 := (hns j (by omega)).1; exact Nat.le_trans h9 (by decide)) m5_2
        have m6_2 := ho6.num (m := sx) (by omega) (by have h9 : nd 10000 ((ns D r (j + 1)).1) ≤ 127 := (hns (j + 1) (by omega)).1; exact Nat.le_trans h9 (by decide)) m5_3
        have m6_3 := ho6.num (m := 128) (by omega) (by have h9 : nd 10000 ((ns D r (j + 1)).2.2.1) ≤ 127 := (hns (j + 1) (by omega)).2.2.1; exact Nat.le_trans h9 (by decide)) m5_4
        have m6_4 := ho6.num (m := 127) (by omega) (by have h9 : nd 10000 ((ns D r j).2.2.1) ≤ 127 := (hns j (by omega)).2.2.1; exact Nat.le_trans h9 (by decide)) hn5
        have fr6 := rowF.step fr5 ho6 (by omega)
        refine ZE.iinc (ls2 := [(2, o), (0, c), (0, sx), (0, sy), (0, ((j : Int) + 1) + 1)]) d_Ref_layNearing_113 rfl rfl ?_
        refine ZE.goto (tgt := 39) d_Ref_layNearing_116 rfl ?_
        rw [show ((j : Int) + 1) + 1 = ((j + 1 : Nat) : Int) + 1 by omega]
        refine ih (j + 1) (upA A3 (o + 2) f6) (by omega) ?_ (g1.tr (hgA3.big.tr fr6.big)) ?_ ?_ ?_ ?_ (by omega)
        · exact ⟨by rw [upA_ne _ _ (show o ≠ o + 2 by omega)]; exact hsA3.1, by rw [upA_ne _ _ (show o ≠ o + 2 by omega)]; exact hsA3.2.1, by rw [upA_ne _ _ (show o ≠ o + 2 by omega)]; exact hsA3.2.2⟩
        · rw [upA_at]; exact m6_2
        · rw [upA_at]; exact m6_1
        · rw [upA_at]; exact hn6
        · rw [upA_at]; exact m6_4
  exact L39 _ 0 A2 hcf.2.1 hsA2 (fr4.big.tr hgA2.big) (by rw [hgA2.row (by omega), upA_at]; exact m4_3) (by rw [hgA2.row (by omega), upA_at]; exact m4_1) (by rw [hgA2.row (by omega), upA_at]; exact hn4) (by rw [hgA2.row (by omega), upA_at]; exact m4_2) (Nat.lt_succ_self _)
