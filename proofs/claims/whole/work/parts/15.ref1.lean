/-! ===== the reference's long numbers: slot n of big holds v ===== -/
def num (f : Int → Int) (n : Int) (v : Nat) : Prop := f (130 * n) = nd 10000 v ∧ ∀ k : Nat, k < nd 10000 v → f (130 * n + 1 + k) = dg 10000 v k
/-- slot n from its first to its m-th digit -/
def raw (f : Int → Int) (n : Int) (m : Nat) (v : Nat) : Prop := ∀ k : Nat, k < m → f (130 * n + 1 + k) = dg 10000 v k
def outs (f f' : Int → Int) (n : Int) : Prop := ∀ i : Int, (i < 130 * n ∨ 130 * n + 130 ≤ i) → f' i = f i
theorem outs.rf {f : Int → Int} {n : Int} : outs f f n := fun _ _ => rfl
theorem outs.up {f f' : Int → Int} {n i v : Int} (h : outs f f' n) (hi : 130 * n ≤ i ∧ i < 130 * n + 130) : outs f (up1 f' i v) n := fun j hj => by rw [up1_ne _ _ (by omega)]; exact h j hj
theorem outs.tr {f g h : Int → Int} {n : Int} (a : outs f g n) (b : outs g h n) : outs f h n := fun j hj => (b j hj).trans (a j hj)
theorem outs.num {f f' : Int → Int} {n m : Int} {v : Nat} (h : outs f f' n) (hne : n ≠ m) (hv : nd 10000 v ≤ 129) (hm : num f m v) : num f' m v := by
  obtain ⟨h1, h2⟩ := hm
  refine ⟨(h _ (by omega)).trans h1, fun k hk => (h _ (by omega)).trans (h2 k hk)⟩
theorem num.raw {f : Int → Int} {n : Int} {v : Nat} (h : num f n v) : raw f n (nd 10000 v) v := h.2
def D4 (v k : Nat) : Nat := dg 10000 v k

set_option maxRecDepth 20000 in
set_option maxHeartbeats 4000000 in
theorem r_parts {d : Nat} {G : zG} {A : Int → Int → Int} {P : Option zV → zG → Prop} {o : Int} (hK : RK G o) (hF : RF A o) {n : Int} (hn : 0 ≤ n ∧ n ≤ 131) (k : P (some (0, A (o + 2) (130 * n))) (gw G A)) : ZE d M_Ref_parts (gw G A) 0 [(2, o), (0, n)] [] P := by
  refine ZE.aload_n d_Ref_parts_0 rfl ?_
  refine ZE.getE (v := o + 2) d_Ref_parts_1 f_Ref_13 (tg := 2) rfl hK.1 hF.a2 ?_
  refine ZE.sipush (n := 130) d_Ref_parts_4 rfl ?_
  refine ZE.iload_n d_Ref_parts_7 rfl ?_
  refine ZE.imul d_Ref_parts_8 ?_
  refine ZE.ialdE (v := A (o + 2) (130 * n)) d_Ref_parts_9 hK.k2 (by have hn0 := hK.n2; show 0 ≤ (130 * n) ∧ (130 * n) < gn G (o + 2); omega) rfl ?_
  refine ZE.iret d_Ref_parts_10 rfl ?_
  exact k
theorem r_partsN {d : Nat} {G : zG} {A : Int → Int → Int} {P : Option zV → zG → Prop} {o : Int} (hK : RK G o) (hF : RF A o) {n : Int} (hn : 0 ≤ n ∧ n ≤ 131) {v : Nat} (hv : num (A (o + 2)) n v) (k : P (some (0, (nd 10000 v : Int))) (gw G A)) : ZE d M_Ref_parts (gw G A) 0 [(2, o), (0, n)] [] P := r_parts hK hF hn (by rw [hv.1]; exact k)
set_option maxRecDepth 20000 in
set_option maxHeartbeats 4000000 in
theorem r_part {d : Nat} {G : zG} {A : Int → Int → Int} {P : Option zV → zG → Prop} {o : Int} (hK : RK G o) (hF : RF A o) {n : Int} (hn : 0 ≤ n ∧ n ≤ 131) {v : Nat} (hv : num (A (o + 2)) n v) (h9 : nd 10000 v ≤ 129) {i : Nat} (hi : i < 2147483648) (k : P (some (0, (dg 10000 v i : Int))) (gw G A)) : ZE (d + 1) M_Ref_part (gw G A) 0 [(2, o), (0, n), (0, (i : Int))] [] P := by
  refine ZE.iload_n d_Ref_part_0 rfl ?_
  refine ZE.aload_n d_Ref_part_1 rfl ?_
  refine ZE.iload_n d_Ref_part_2 rfl ?_
  refine ZE.cV [(0, n)] [(0, (i : Int))] [(2, o), (0, n)] d_Ref_part_3 l_Ref_93 rfl rfl rfl rfl rfl rfl hK.1 ?_
  refine r_partsN (v := v) hK hF (by omega) hv ?_
  show ZE (d + 1) M_Ref_part (gw G A) 6 [(2, o), (0, n), (0, (i : Int))] [(0, (nd 10000 v : Int)), (0, (i : Int))] _
  refine ZE.icmp_ge (tgt := 26) d_Ref_part_6 rfl (by unfold zR; omega) (by unfold zR; omega) (fun c6 => ?_) (fun c6 => ?_)
  · refine ZE.iconst (n := 0) d_Ref_part_26 ?_
    refine ZE.iret d_Ref_part_27 rfl ?_
    rw [dg_big (by omega) (by omega)] at k
    exact k
  · refine ZE.aload_n d_Ref_part_9 rfl ?_
    refine ZE.getE (v := o + 2) d_Ref_part_10 f_Ref_13 (tg := 2) rfl hK.1 hF.a2 ?_
    refine ZE.sipush (n := 130) d_Ref_part_13 rfl ?_
    refine ZE.iload_n d_Ref_part_16 rfl ?_
    refine ZE.imul d_Ref_part_17 ?_
    refine ZE.iconst (n := 1) d_Ref_part_18 ?_
    refine ZE.iadd d_Ref_part_19 ?_
    refine ZE.iload_n d_Ref_part_20 rfl ?_
    refine ZE.iadd d_Ref_part_21 ?_
    refine ZE.ialdE (v := (dg 10000 v i : Int)) d_Ref_part_22 hK.k2 (by have hn0 := hK.n2; show 0 ≤ (((130 * n) + 1) + (i : Int)) ∧ (((130 * n) + 1) + (i : Int)) < gn G (o + 2); omega) (hv.2 i (by omega)) ?_
    refine ZE.goto (tgt := 27) d_Ref_part_23 rfl ?_
    refine ZE.iret d_Ref_part_27 rfl ?_
    exact k
set_option maxRecDepth 20000 in
set_option maxHeartbeats 4000000 in
theorem r_trim {d : Nat} {G : zG} {A : Int → Int → Int} {P : Option zV → zG → Prop} {o : Int} (hK : RK G o) (hF : RF A o) {n : Int} (hn : 0 ≤ n ∧ n ≤ 131) {m v : Nat} (hm : m ≤ 129) (hv : v < 10000 ^ m) (hr : raw (A (o + 2)) n m v) (k : ∀ f, num f n v → outs (A (o + 2)) f n → P none (gw G (upA A (o + 2) f))) : ZE d M_Ref_trim (gw G A) 0 [(2, o), (0, n), (0, (m : Int)), (9, 0)] [] P := by
  refine ZE.iload_n d_Ref_trim_0 rfl ?_
  refine ZE.istore_n (ls2 := [(2, o), (0, n), (0, (m : Int)), (0, (m : Int))]) d_Ref_trim_1 (Nat.le_of_ble_eq_true rfl) rfl ?_
  have L2 : ∀ (t : Nat) (x : Nat) (hx : x ≤ m) (hy : nd 10000 v ≤ x), x < t → ZE d M_Ref_trim (gw G A) 2 [(2, o), (0, n), (0, (m : Int)), (0, (x : Int))] [] P := by
    intro t
    induction t with
    | zero => intro x hx hy hm; exact absurd hm (Nat.not_lt_zero _)
    | succ t ih =>
      intro x hx hy hm
      refine ZE.iload_n d_Ref_trim_2 rfl ?_
      refine ZE.if_le (tgt := 27) d_Ref_trim_3 rfl (by unfold zR; omega) (fun c3 => ?_) (fun c3 => ?_)
      · have e1 : x = nd 10000 v := by omega
        refine ZE.aload_n d_Ref_trim_27 rfl ?_
        refine ZE.getE (v := o + 2) d_Ref_trim_28 f_Ref_13 (tg := 2) rfl hK.1 hF.a2 ?_
        refine ZE.sipush (n := 130) d_Ref_trim_31 rfl ?_
        refine ZE.iload_n d_Ref_trim_34 rfl ?_
        refine ZE.imul d_Ref_trim_35 ?_
        refine ZE.iload_n d_Ref_trim_36 rfl ?_
        refine ZE.iast d_Ref_trim_37 hK.k2 (by have hn0 := hK.n2; show 0 ≤ (130 * n) ∧ (130 * n) < gn G (o + 2); omega) ?_
        show ZE d M_Ref_trim (gw G (up2 A (o + 2) (130 * n) (x : Int))) 38 [(2, o), (0, n), (0, (m : Int)), (0, (x : Int))] [] _
        rw [up2_A]
        refine ZE.vret d_Ref_trim_38 rfl ?_
        refine k _ ⟨?_, fun j hj => ?_⟩ (outs.rf.up (by omega))
        · rw [up1_at, e1]
        · rw [up1_ne _ _ (by omega)]; exact hr j (by omega)
      · refine ZE.aload_n d_Ref_trim_6 rfl ?_
        refine ZE.getE (v := o + 2) d_Ref_trim_7 f_Ref_13 (tg := 2) rfl hK.1 hF.a2 ?_
        refine ZE.sipush (n := 130) d_Ref_trim_10 rfl ?_
        refine ZE.iload_n d_Ref_trim_13 rfl ?_
        refine ZE.imul d_Ref_trim_14 ?_
        refine ZE.iload_n d_Ref_trim_15 rfl ?_
        refine ZE.iadd d_Ref_trim_16 ?_
        refine ZE.ialdE (v := A (o + 2) ((130 * n) + (x : Int))) d_Ref_trim_17 hK.k2 (by have hn0 := hK.n2; show 0 ≤ ((130 * n) + (x : Int)) ∧ ((130 * n) + (x : Int)) < gn G (o + 2); omega) rfl ?_
        refine ZE.if_ne (tgt := 27) d_Ref_trim_18 rfl (by have e4 := hr (x - 1) (by omega); rw [show 130 * n + 1 + ((x - 1 : Nat) : Int) = 130 * n + x by omega] at e4; have e5 := dg_lt (b := 10000) (by omega) v (x - 1); unfold zR; omega) (fun c18 => ?_) (fun c18 => ?_)
        · have e1 : x = nd 10000 v := by
            rcases Nat.lt_or_ge (nd 10000 v) x with q | q
            · exfalso
              have e4 := hr (x - 1) (by omega)
              rw [show 130 * n + 1 + ((x - 1 : Nat) : Int) = 130 * n + x by omega, dg_big (by omega) (by omega)] at e4
              exact c18 e4
            · omega
          refine ZE.aload_n d_Ref_trim_27 rfl ?_
          refine ZE.getE (v := o + 2) d_Ref_trim_28 f_Ref_13 (tg := 2) rfl hK.1 hF.a2 ?_
          refine ZE.sipush (n := 130) d_Ref_trim_31 rfl ?_
          refine ZE.iload_n d_Ref_trim_34 rfl ?_
          refine ZE.imul d_Ref_trim_35 ?_
          refine ZE.iload_n d_Ref_trim_36 rfl ?_
          refine ZE.iast d_Ref_trim_37 hK.k2 (by have hn0 := hK.n2; show 0 ≤ (130 * n) ∧ (130 * n) < gn G (o + 2); omega) ?_
          show ZE d M_Ref_trim (gw G (up2 A (o + 2) (130 * n) (x : Int))) 38 [(2, o), (0, n), (0, (m : Int)), (0, (x : Int))] [] _
          rw [up2_A]
          refine ZE.vret d_Ref_trim_38 rfl ?_
          refine k _ ⟨?_, fun j hj => ?_⟩ (outs.rf.up (by omega))
          · rw [up1_at, e1]
          · rw [up1_ne _ _ (by omega)]; exact hr j (by omega)
        · refine ZE.iinc (ls2 := [(2, o), (0, n), (0, (m : Int)), (0, (x : Int) + (-1))]) d_Ref_trim_21 rfl rfl ?_
          refine ZE.goto (tgt := 2) d_Ref_trim_24 rfl ?_
          rw [show (x : Int) + (-1) = ((x - 1 : Nat) : Int) by omega]
          refine ih (x - 1) (by omega) ?_ (by omega)
          rcases Nat.lt_or_ge (nd 10000 v) x with q | q
          · omega
          · exfalso
            have e1 : nd 10000 v = x := by omega
            have e2 : v ≠ 0 := by intro e; subst e; rw [nd_0] at e1; omega
            have e3 := dg_top (b := 10000) (by omega) e2
            rw [e1] at e3
            have e4 := hr (x - 1) (by omega)
            rw [show 130 * n + 1 + ((x - 1 : Nat) : Int) = 130 * n + x by omega] at e4
            omega
  exact L2 _ m (Nat.le_refl _) (nd_le (by omega) hv) (Nat.lt_succ_self _)
set_option maxRecDepth 20000 in
set_option maxHeartbeats 4000000 in
theorem r_setSmall {d : Nat} {G : zG} {A : Int → Int → Int} {P : Option zV → zG → Prop} {o : Int} (hK : RK G o) (hF : RF A o) {n : Int} (hn : 0 ≤ n ∧ n ≤ 131) {v : Nat} (hv : v < 2147483648) (k : ∀ f, num f n v → outs (A (o + 2)) f n → P none (gw G (upA A (o + 2) f))) : ZE d M_Ref_setSmall (gw G A) 0 [(2, o), (0, n), (0, (v : Int)), (9, 0), (9, 0)] [] P := by
  have h3 : nd 10000 v ≤ 3 := nd_le (by omega) (by omega)
  refine ZE.iconst (n := 0) d_Ref_setSmall_0 ?_
  refine ZE.istore_n (ls2 := [(2, o), (0, n), (0, (v : Int)), (0, 0), (9, 0)]) d_Ref_setSmall_1 (Nat.le_of_ble_eq_true rfl) rfl ?_
  refine ZE.iload_n d_Ref_setSmall_2 rfl ?_
  refine ZE.istore (ls2 := [(2, o), (0, n), (0, (v : Int)), (0, 0), (0, (v : Int))]) d_Ref_setSmall_3 (Nat.le_of_ble_eq_true rfl) rfl ?_
  have L5 : ∀ (t : Nat) (j : Nat) (x1 : Nat) (f : Int → Int) (hxs : x1 ≤ v) (hx : x1 = v / 10000 ^ j) (hj : j + nd 10000 x1 = nd 10000 v) (hj2 : j ≤ 4) (hr : raw f n j v) (ho : outs (A (o + 2)) f n), x1 < t → ZE d M_Ref_setSmall (gw G (upA A (o + 2) f)) 5 [(2, o), (0, n), (0, (v : Int)), (0, (j : Int)), (0, (x1 : Int))] [] P := by
    intro t
    induction t with
    | zero => intro j x1 f hxs hx hj hj2 hr ho hm; exact absurd hm (Nat.not_lt_zero _)
    | succ t ih =>
      intro j x1 f hxs hx hj hj2 hr ho hm
      refine ZE.iload d_Ref_setSmall_5 rfl ?_
      refine ZE.if_le (tgt := 42) d_Ref_setSmall_7 rfl (by unfold zR; omega) (fun c7 => ?_) (fun c7 => ?_)
      · have e1 : x1 = 0 := by omega
        have e2 : nd 10000 0 = 0 := rfl
        rw [e1] at hj
        refine ZE.aload_n d_Ref_setSmall_42 rfl ?_
        refine ZE.getE (v := o + 2) d_Ref_setSmall_43 f_Ref_13 (tg := 2) rfl hK.1 (hF.uA (by omega)).a2 ?_
        refine ZE.sipush (n := 130) d_Ref_setSmall_46 rfl ?_
        refine ZE.iload_n d_Ref_setSmall_49 rfl ?_
        refine ZE.imul d_Ref_setSmall_50 ?_
        refine ZE.iload_n d_Ref_setSmall_51 rfl ?_
        refine ZE.iast d_Ref_setSmall_52 hK.k2 (by have hn0 := hK.n2; show 0 ≤ (130 * n) ∧ (130 * n) < gn G (o + 2); omega) ?_
        show ZE d M_Ref_setSmall (gw G (up2 (upA A (o + 2) f) (o + 2) (130 * n) (j : Int))) 53 [(2, o), (0, n), (0, (v : Int)), (0, (j : Int)), (0, (x1 : Int))] [] _
        rw [up2_upA]
        refine ZE.vret d_Ref_setSmall_53 rfl ?_
        refine k _ ⟨?_, fun i hi => ?_⟩ (ho.up (by omega))
        · rw [up1_at]; omega
        · rw [up1_ne _ _ (by omega)]; exact hr i (by omega)
      · have hpos : 0 < nd 10000 x1 := (nd_pos_iff (by omega)).mpr (by omega)
        refine ZE.iinc (ls2 := [(2, o), (0, n), (0, (v : Int)), (0, (j : Int) + 1), (0, (x1 : Int))]) d_Ref_setSmall_10 rfl rfl ?_
        refine ZE.aload_n d_Ref_setSmall_13 rfl ?_
        refine ZE.getE (v := o + 2) d_Ref_setSmall_14 f_Ref_13 (tg := 2) rfl hK.1 (hF.uA (by omega)).a2 ?_
        refine ZE.sipush (n := 130) d_Ref_setSmall_17 rfl ?_
        refine ZE.iload_n d_Ref_setSmall_20 rfl ?_
        refine ZE.imul d_Ref_setSmall_21 ?_
        refine ZE.iload_n d_Ref_setSmall_22 rfl ?_
        refine ZE.iadd d_Ref_setSmall_23 ?_
        refine ZE.iload d_Ref_setSmall_24 rfl ?_
        refine ZE.sipush (n := 10000) d_Ref_setSmall_26 rfl ?_
        refine ZE.iremP d_Ref_setSmall_29 (by omega) ?_
        refine ZE.iast d_Ref_setSmall_30 hK.k2 (by have hn0 := hK.n2; show 0 ≤ ((130 * n) + ((j : Int) + 1)) ∧ ((130 * n) + ((j : Int) + 1)) < gn G (o + 2); omega) ?_
        show ZE d M_Ref_setSmall (gw G (up2 (upA A (o + 2) f) (o + 2) ((130 * n) + ((j : Int) + 1)) ((x1 : Int) % 10000))) 31 [(2, o), (0, n), (0, (v : Int)), (0, (j : Int) + 1), (0, (x1 : Int))] [] _
        rw [up2_upA]
        refine ZE.iload d_Ref_setSmall_31 rfl ?_
        refine ZE.sipush (n := 10000) d_Ref_setSmall_33 rfl ?_
        refine ZE.idivP d_Ref_setSmall_36 (by omega) ?_
        refine ZE.istore (ls2 := [(2, o), (0, n), (0, (v : Int)), (0, (j : Int) + 1), (0, (x1 : Int) / 10000)]) d_Ref_setSmall_37 (Nat.le_of_ble_eq_true rfl) rfl ?_
        refine ZE.goto (tgt := 5) d_Ref_setSmall_39 rfl ?_
        rw [show (x1 : Int) / 10000 = ((x1 / 10000 : Nat) : Int) by omega, show (j : Int) + 1 = ((j + 1 : Nat) : Int) by omega]
        have e0 := nd_pos (b := 10000) (v := x1) (by omega) (by omega)
        refine ih (j + 1) (x1 / 10000) _ (by omega) (by rw [hx, Nat.pow_succ, Nat.div_div_eq_div_mul]) (by omega) (by omega) ?_ (ho.up (by omega)) (by omega)
        intro i hi
        by_cases q : i = j
        · subst q
          rw [show 130 * n + 1 + (i : Int) = 130 * n + ((i + 1 : Nat) : Int) by omega, up1_at]
          unfold dg; rw [← hx]; omega
        · rw [up1_ne _ _ (by omega)]; exact hr i (by omega)
  have L0 := L5 _ 0 v (A (o + 2)) (Nat.le_refl _) (by rw [Nat.pow_zero, Nat.div_one]) (by omega) (by omega) (fun i hi => absurd hi (Nat.not_lt_zero _)) outs.rf (Nat.lt_succ_self _)
  rw [upA_self] at L0
  exact L0
set_option maxRecDepth 20000 in
set_option maxHeartbeats 4000000 in
theorem r_copyBig {d : Nat} {G : zG} {A : Int → Int → Int} {P : Option zV → zG → Prop} {o : Int} (hK : RK G o) (hF : RF A o) {n : Int} (hn : 0 ≤ n ∧ n ≤ 131) {t0 : Int} (ht : 0 ≤ t0 ∧ t0 ≤ 131) (hne : n ≠ t0) (k : ∀ f, (∀ v, nd 10000 v ≤ 129 → num (A (o + 2)) n v → num f t0 v) → outs (A (o + 2)) f t0 → P none (gw G (upA A (o + 2) f))) : ZE d M_Ref_copyBig (gw G A) 0 [(2, o), (0, n), (0, t0), (9, 0)] [] P := by
  refine ZE.iconst (n := 0) d_Ref_copyBig_0 ?_
  refine ZE.istore_n (ls2 := [(2, o), (0, n), (0, t0), (0, 0)]) d_Ref_copyBig_1 (Nat.le_of_ble_eq_true rfl) rfl ?_
  have L2 : ∀ (t : Nat) (j : Nat) (f : Int → Int) (hj : j ≤ 130) (hr : ∀ i : Nat, i < j → f (130 * t0 + i) = A (o + 2) (130 * n + i)) (ho : outs (A (o + 2)) f t0), 130 - j < t → ZE d M_Ref_copyBig (gw G (upA A (o + 2) f)) 2 [(2, o), (0, n), (0, t0), (0, (j : Int))] [] P := by
    intro t
    induction t with
    | zero => intro j f hj hr ho hm; exact absurd hm (Nat.not_lt_zero _)
    | succ t ih =>
      intro j f hj hr ho hm
      refine ZE.iload_n d_Ref_copyBig_2 rfl ?_
      refine ZE.sipush (n := 130) d_Ref_copyBig_3 rfl ?_
      refine ZE.icmp_ge (tgt := 39) d_Ref_copyBig_6 rfl (by unfold zR; omega) (by unfold zR; omega) (fun c6 => ?_) (fun c6 => ?_)
      · refine ZE.vret d_Ref_copyBig_39 rfl ?_
        refine k f (fun v hv9 hv => ⟨?_, fun i hi => ?_⟩) ho
        · have := hr 0 (by omega); rw [show 130 * t0 + ((0 : Nat) : Int) = 130 * t0 by omega, show 130 * n + ((0 : Nat) : Int) = 130 * n by omega] at this; rw [this]; exact hv.1
        · have := hr (i + 1) (by omega); rw [show 130 * t0 + ((i + 1 : Nat) : Int) = 130 * t0 + 1 + i by omega, show 130 * n + ((i + 1 : Nat) : Int) = 130 * n + 1 + i by omega] at this; rw [this]; exact hv.2 i hi
      · refine ZE.aload_n d_Ref_copyBig_9 rfl ?_
        refine ZE.getE (v := o + 2) d_Ref_copyBig_10 f_Ref_13 (tg := 2) rfl hK.1 (hF.uA (by omega)).a2 ?_
        refine ZE.sipush (n := 130) d_Ref_copyBig_13 rfl ?_
        refine ZE.iload_n d_Ref_copyBig_16 rfl ?_
        refine ZE.imul d_Ref_copyBig_17 ?_
        refine ZE.iload_n d_Ref_copyBig_18 rfl ?_
        refine ZE.iadd d_Ref_copyBig_19 ?_
        refine ZE.aload_n d_Ref_copyBig_20 rfl ?_
        refine ZE.getE (v := o + 2) d_Ref_copyBig_21 f_Ref_13 (tg := 2) rfl hK.1 (hF.uA (by omega)).a2 ?_
        refine ZE.sipush (n := 130) d_Ref_copyBig_24 rfl ?_
        refine ZE.iload_n d_Ref_copyBig_27 rfl ?_
        refine ZE.imul d_Ref_copyBig_28 ?_
        refine ZE.iload_n d_Ref_copyBig_29 rfl ?_
        refine ZE.iadd d_Ref_copyBig_30 ?_
        refine ZE.ialdE (v := f ((130 * n) + (j : Int))) d_Ref_copyBig_31 hK.k2 (by have hn0 := hK.n2; show 0 ≤ ((130 * n) + (j : Int)) ∧ ((130 * n) + (j : Int)) < gn G (o + 2); omega) (congrFun (upA_at _ _ _) _) ?_
        refine ZE.iast d_Ref_copyBig_32 hK.k2 (by have hn0 := hK.n2; show 0 ≤ ((130 * t0) + (j : Int)) ∧ ((130 * t0) + (j : Int)) < gn G (o + 2); omega) ?_
        show ZE d M_Ref_copyBig (gw G (up2 (upA A (o + 2) f) (o + 2) ((130 * t0) + (j : Int)) (f ((130 * n) + (j : Int))))) 33 [(2, o), (0, n), (0, t0), (0, (j : Int))] [] _
        rw [up2_upA]
        refine ZE.iinc (ls2 := [(2, o), (0, n), (0, t0), (0, (j : Int) + 1)]) d_Ref_copyBig_33 rfl rfl ?_
        refine ZE.goto (tgt := 2) d_Ref_copyBig_36 rfl ?_
        rw [show (j : Int) + 1 = ((j + 1 : Nat) : Int) by omega]
        refine ih (j + 1) _ (by omega) ?_ (ho.up (by omega)) (by omega)
        intro i hi
        by_cases q : i = j
        · subst q; rw [up1_at]; exact ho _ (by omega)
        · rw [up1_ne _ _ (by omega)]; exact hr i (by omega)
  have L0 := L2 _ 0 (A (o + 2)) (by omega) (fun i hi => absurd hi (Nat.not_lt_zero _)) outs.rf (Nat.lt_succ_self _)
  rw [upA_self] at L0
  exact L0
set_option maxRecDepth 20000 in
set_option maxHeartbeats 4000000 in
theorem r_times {d : Nat} {G : zG} {A : Int → Int → Int} {P : Option zV → zG → Prop} {o : Int} (hK : RK G o) (hF : RF A o) {n : Int} (hn : 0 ≤ n ∧ n ≤ 131) {m t0 : Int} (hm : 0 ≤ m ∧ m ≤ 131) (ht : 0 ≤ t0 ∧ t0 ≤ 131) (hnt : t0 ≠ n) (hmt : t0 ≠ m) {v w y : Nat} (hy : y ≤ 9999) (hv : num (A (o + 2)) n v) (hw : num (A (o + 2)) m w) (hv9 : nd 10000 v ≤ 128) (hw9 : nd 10000 w ≤ 128) (k : ∀ f, num f t0 (v * y + w) → outs (A (o + 2)) f t0 → P none (gw G (upA A (o + 2) f))) : ZE (d + 2) M_Ref_times (gw G A) 0 [(2, o), (0, n), (0, (y : Int)), (0, m), (0, t0), (9, 0), (9, 0), (9, 0), (9, 0)] [] P := by
  refine ZE.iconst (n := 0) d_Ref_times_0 ?_
  refine ZE.istore (ls2 := [(2, o), (0, n), (0, (y : Int)), (0, m), (0, t0), (0, 0), (9, 0), (9, 0), (9, 0)]) d_Ref_times_1 (Nat.le_of_ble_eq_true rfl) rfl ?_
  have J30 : ∀ q : Nat, nd 10000 v ≤ q → nd 10000 w ≤ q → q ≤ 128 → ZE (d + 2) M_Ref_times (gw G A) 30 [(2, o), (0, n), (0, (y : Int)), (0, m), (0, t0), (0, 0), (9, 0), (9, 0), (9, 0)] [(0, (q : Int)), (0, 1)] P := by
    intro q hq1 hq2 hq3
    have hR : v * y + w < 10000 ^ (q + 1) := by
      have a1 := (nd_lt (b := 10000) (by omega) q v).mpr hq1
      have a2 := (nd_lt (b := 10000) (by omega) q w).mpr hq2
      rw [Nat.pow_succ]
      have a3 : v * y ≤ (10000 ^ q - 1) * 9999 := Nat.mul_le_mul (by omega) (by omega)
      omega
    refine ZE.iadd d_Ref_times_30 ?_
    rw [show (1 + (q : Int) : Int) = ((q + 1 : Nat) : Int) from (by omega)]
    refine ZE.istore (ls2 := [(2, o), (0, n), (0, (y : Int)), (0, m), (0, t0), (0, 0), (0, ((q + 1 : Nat) : Int)), (9, 0), (9, 0)]) d_Ref_times_31 (Nat.le_of_ble_eq_true rfl) rfl ?_
    refine ZE.iconst (n := 0) d_Ref_times_33 ?_
    refine ZE.istore (ls2 := [(2, o), (0, n), (0, (y : Int)), (0, m), (0, t0), (0, 0), (0, ((q + 1 : Nat) : Int)), (0, 0), (9, 0)]) d_Ref_times_34 (Nat.le_of_ble_eq_true rfl) rfl ?_
    have L36 : ∀ (t : Nat) (j : Nat) (f : Int → Int) (hj : j ≤ q + 1) (hr : raw f t0 j (v * y + w)) (ho : outs (A (o + 2)) f t0), q + 1 - j < t → ZE (d + 2) M_Ref_times (gw G (upA A (o + 2) f)) 36 [(2, o), (0, n), (0, (y : Int)), (0, m), (0, t0), (0, (cry 10000 v w y j : Int)), (0, ((q + 1 : Nat) : Int)), (0, (j : Int)), (9, 0)] [] P := by
      intro t
      induction t with
      | zero => intro j f hj hr ho hm; exact absurd hm (Nat.not_lt_zero _)
      | succ t ih =>
        intro j f hj hr ho hm
        refine ZE.iload d_Ref_times_36 rfl ?_
        refine ZE.iload d_Ref_times_38 rfl ?_
        refine ZE.icmp_ge (tgt := 101) d_Ref_times_40 rfl (by unfold zR; omega) (by unfold zR; omega) (fun c40 => ?_) (fun c40 => ?_)
        · have e1 : j = q + 1 := by omega
          refine ZE.aload_n d_Ref_times_101 rfl ?_
          refine ZE.iload d_Ref_times_102 rfl ?_
          refine ZE.iload d_Ref_times_104 rfl ?_
          refine ZE.cV [(0, t0), (0, ((q + 1 : Nat) : Int))] [] [(2, o), (0, t0), (0, ((q + 1 : Nat) : Int)), (9, 0)] d_Ref_times_106 l_Ref_100 rfl rfl rfl rfl rfl rfl hK.1 ?_
          refine r_trim (m := (q + 1)) (v := (v * y + w)) hK (hF.uA (by omega)) (by omega) (by omega) hR (by rw [upA_at]; exact (e1 ▸ hr)) (fun f2 hn2 ho2 => ?_)
          show ZE (d + 2) M_Ref_times (gw G (upA (upA A (o + 2) f) (o + 2) f2)) 109 [(2, o), (0, n), (0, (y : Int)), (0, m), (0, t0), (0, (cry 10000 v w y j : Int)), (0, ((q + 1 : Nat) : Int)), (0, (j : Int)), (9, 0)] [] _
          rw [upA_upA]
          rw [upA_at] at ho2
          refine ZE.vret d_Ref_times_109 rfl ?_
          exact k f2 hn2 (ho.tr ho2)
        · refine ZE.aload_n d_Ref_times_43 rfl ?_
          refine ZE.iload_n d_Ref_times_44 rfl ?_
          refine ZE.iload d_Ref_times_45 rfl ?_
          refine ZE.cV [(0, n), (0, (j : Int))] [] [(2, o), (0, n), (0, (j : Int))] d_Ref_times_47 l_Ref_96 rfl rfl rfl rfl rfl rfl hK.1 ?_
          refine r_part (i := j) (v := v) hK (hF.uA (by omega)) (by omega) (by rw [upA_at]; exact (ho.num (by omega) (by omega) hv)) (by omega) (by omega) ?_
          show ZE (d + 2) M_Ref_times (gw G (upA A (o + 2) f)) 50 [(2, o), (0, n), (0, (y : Int)), (0, m), (0, t0), (0, (cry 10000 v w y j : Int)), (0, ((q + 1 : Nat) : Int)), (0, (j : Int)), (9, 0)] [(0, (dg 10000 v j : Int))] _
          refine ZE.iload_n d_Ref_times_50 rfl ?_
          refine ZE.imul d_Ref_times_51 ?_
          refine ZE.aload_n d_Ref_times_52 rfl ?_
          refine ZE.iload_n d_Ref_times_53 rfl ?_
          refine ZE.iload d_Ref_times_54 rfl ?_
          refine ZE.cV [(0, m), (0, (j : Int))] [(0, (dg 10000 v j : Int) * (y : Int))] [(2, o), (0, m), (0, (j : Int))] d_Ref_times_56 l_Ref_96 rfl rfl rfl rfl rfl rfl hK.1 ?_
          refine r_part (i := j) (v := w) hK (hF.uA (by omega)) (by omega) (by rw [upA_at]; exact (ho.num (by omega) (by omega) hw)) (by omega) (by omega) ?_
          show ZE (d + 2) M_Ref_times (gw G (upA A (o + 2) f)) 59 [(2, o), (0, n), (0, (y : Int)), (0, m), (0, t0), (0, (cry 10000 v w y j : Int)), (0, ((q + 1 : Nat) : Int)), (0, (j : Int)), (9, 0)] [(0, (dg 10000 w j : Int)), (0, (dg 10000 v j : Int) * (y : Int))] _
          refine ZE.iadd d_Ref_times_59 ?_
          refine ZE.iload d_Ref_times_60 rfl ?_
          refine ZE.iadd d_Ref_times_62 ?_
          refine ZE.istore (ls2 := [(2, o), (0, n), (0, (y : Int)), (0, m), (0, t0), (0, (cry 10000 v w y j : Int)), (0, ((q + 1 : Nat) : Int)), (0, (j : Int)), (0, (((dg 10000 v j : Int) * (y : Int)) + (dg 10000 w j : Int)) + (cry 10000 v w y j : Int))]) d_Ref_times_63 (Nat.le_of_ble_eq_true rfl) rfl ?_
          obtain ⟨T, hT0⟩ : ∃ T : Nat, T = dg 10000 v j * y + dg 10000 w j + cry 10000 v w y j := ⟨_, rfl⟩
          have hT := hT0
          have t1 := dg_lt (b := 10000) (by omega) v j
          have t2 := dg_lt (b := 10000) (by omega) w j
          have t3 := cry_le (b := 10000) (by omega) v w y j
          have t4 : dg 10000 v j * y ≤ 9999 * 9999 := Nat.mul_le_mul (by omega) (by omega)
          have e0 : (dg 10000 v j : Int) * (y : Int) + (dg 10000 w j : Int) + (cry 10000 v w y j : Int) = (T : Int) := by rw [hT0]; simp only [Int.natCast_add, Int.natCast_mul]
          refine ZE.aload_n d_Ref_times_65 rfl ?_
          refine ZE.getE (v := o + 2) d_Ref_times_66 f_Ref_13 (tg := 2) rfl hK.1 (hF.uA (by omega)).a2 ?_
          refine ZE.sipush (n := 130) d_Ref_times_69 rfl ?_
          refine ZE.iload d_Ref_times_72 rfl ?_
          refine ZE.imul d_Ref_times_74 ?_
          refine ZE.iconst (n := 1) d_Ref_times_75 ?_
          refine ZE.iadd d_Ref_times_76 ?_
          refine ZE.iload d_Ref_times_77 rfl ?_
          refine ZE.iadd d_Ref_times_79 ?_
          refine ZE.iload d_Ref_times_80 rfl ?_
          refine ZE.sipush (n := 10000) d_Ref_times_82 rfl ?_
          refine ZE.iremP d_Ref_times_85 (by omega) ?_
          refine ZE.iast d_Ref_times_86 hK.k2 (by have hn0 := hK.n2; show 0 ≤ (((130 * t0) + 1) + (j : Int)) ∧ (((130 * t0) + 1) + (j : Int)) < gn G (o + 2); omega) ?_
          show ZE (d + 2) M_Ref_times (gw G (up2 (upA A (o + 2) f) (o + 2) (((130 * t0) + 1) + (j : Int)) (((((dg 10000 v j : Int) * (y : Int)) + (dg 10000 w j : Int)) + (cry 10000 v w y j : Int)) % 10000))) 87 [(2, o), (0, n), (0, (y : Int)), (0, m), (0, t0), (0, (cry 10000 v w y j : Int)), (0, ((q + 1 : Nat) : Int)), (0, (j : Int)), (0, (((dg 10000 v j : Int) * (y : Int)) + (dg 10000 w j : Int)) + (cry 10000 v w y j : Int))] [] _
          rw [up2_upA]
          refine ZE.iload d_Ref_times_87 rfl ?_
          refine ZE.sipush (n := 10000) d_Ref_times_89 rfl ?_
          refine ZE.idivP d_Ref_times_92 (by omega) ?_
          refine ZE.istore (ls2 := [(2, o), (0, n), (0, (y : Int)), (0, m), (0, t0), (0, ((((dg 10000 v j : Int) * (y : Int)) + (dg 10000 w j : Int)) + (cry 10000 v w y j : Int)) / 10000), (0, ((q + 1 : Nat) : Int)), (0, (j : Int)), (0, (((dg 10000 v j : Int) * (y : Int)) + (dg 10000 w j : Int)) + (cry 10000 v w y j : Int))]) d_Ref_times_93 (Nat.le_of_ble_eq_true rfl) rfl ?_
          refine ZE.iinc (ls2 := [(2, o), (0, n), (0, (y : Int)), (0, m), (0, t0), (0, ((((dg 10000 v j : Int) * (y : Int)) + (dg 10000 w j : Int)) + (cry 10000 v w y j : Int)) / 10000), (0, ((q + 1 : Nat) : Int)), (0, (j : Int) + 1), (0, (((dg 10000 v j : Int) * (y : Int)) + (dg 10000 w j : Int)) + (cry 10000 v w y j : Int))]) d_Ref_times_95 rfl rfl ?_
          refine ZE.goto (tgt := 36) d_Ref_times_98 rfl ?_
          refine ZE.mask [true, true, true, true, true, true, true, true, false] ?_
          show ZE (d + 2) M_Ref_times (gw G (upA A (o + 2) (up1 f (((130 * t0) + 1) + (j : Int)) (((((dg 10000 v j : Int) * (y : Int)) + (dg 10000 w j : Int)) + (cry 10000 v w y j : Int)) % 10000)))) 36 [(2, o), (0, n), (0, (y : Int)), (0, m), (0, t0), (0, ((((dg 10000 v j : Int) * (y : Int)) + (dg 10000 w j : Int)) + (cry 10000 v w y j : Int)) / 10000), (0, ((q + 1 : Nat) : Int)), (0, (j : Int) + 1), (9, 0)] [] _
          rw [show (j : Int) + 1 = ((j + 1 : Nat) : Int) by omega]
          obtain ⟨s1, s2⟩ := mul_step (b := 10000) (by omega) v w y j
          rw [← hT] at s1 s2
          rw [e0, show ((T : Nat) : Int) / 10000 = ((T / 10000 : Nat) : Int) by omega, s2]
          refine ih (j + 1) _ (by omega) ?_ (ho.up (by omega)) (by omega)
          intro i hi
          by_cases q1 : i = j
          · subst q1; rw [up1_at, show ((T : Nat) : Int) % 10000 = ((T % 10000 : Nat) : Int) by omega, s1]
          · rw [up1_ne _ _ (by omega)]; exact hr i (by omega)
    have L0 := L36 _ 0 (A (o + 2)) (by omega) (fun i hi => absurd hi (Nat.not_lt_zero _)) outs.rf (Nat.lt_succ_self _)
    rw [upA_self, cry_0] at L0
    exact L0
  refine ZE.iconst (n := 1) d_Ref_times_3 ?_
  refine ZE.aload_n d_Ref_times_4 rfl ?_
  refine ZE.iload_n d_Ref_times_5 rfl ?_
  refine ZE.cV [(0, n)] [(0, 1)] [(2, o), (0, n)] d_Ref_times_6 l_Ref_93 rfl rfl rfl rfl rfl rfl hK.1 ?_
  refine r_partsN (v := v) hK hF (by omega) hv ?_
  show ZE (d + 2) M_Ref_times (gw G A) 9 [(2, o), (0, n), (0, (y : Int)), (0, m), (0, t0), (0, 0), (9, 0), (9, 0), (9, 0)] [(0, (nd 10000 v : Int)), (0, 1)] _
  refine ZE.aload_n d_Ref_times_9 rfl ?_
  refine ZE.iload_n d_Ref_times_10 rfl ?_
  refine ZE.cV [(0, m)] [(0, (nd 10000 v : Int)), (0, 1)] [(2, o), (0, m)] d_Ref_times_11 l_Ref_93 rfl rfl rfl rfl rfl rfl hK.1 ?_
  refine r_partsN (v := w) hK hF (by omega) hw ?_
  show ZE (d + 2) M_Ref_times (gw G A) 14 [(2, o), (0, n), (0, (y : Int)), (0, m), (0, t0), (0, 0), (9, 0), (9, 0), (9, 0)] [(0, (nd 10000 w : Int)), (0, (nd 10000 v : Int)), (0, 1)] _
  refine ZE.icmp_le (tgt := 25) d_Ref_times_14 rfl (by unfold zR; omega) (by unfold zR; omega) (fun c14 => ?_) (fun c14 => ?_)
  · refine ZE.aload_n d_Ref_times_25 rfl ?_
    refine ZE.iload_n d_Ref_times_26 rfl ?_
    refine ZE.cV [(0, m)] [(0, 1)] [(2, o), (0, m)] d_Ref_times_27 l_Ref_93 rfl rfl rfl rfl rfl rfl hK.1 ?_
    refine r_partsN (v := w) hK hF (by omega) hw ?_
    show ZE (d + 2) M_Ref_times (gw G A) 30 [(2, o), (0, n), (0, (y : Int)), (0, m), (0, t0), (0, 0), (9, 0), (9, 0), (9, 0)] [(0, (nd 10000 w : Int)), (0, 1)] _
    exact J30 _ (by omega) (by omega) (by omega)
  · refine ZE.aload_n d_Ref_times_17 rfl ?_
    refine ZE.iload_n d_Ref_times_18 rfl ?_
    refine ZE.cV [(0, n)] [(0, 1)] [(2, o), (0, n)] d_Ref_times_19 l_Ref_93 rfl rfl rfl rfl rfl rfl hK.1 ?_
    refine r_partsN (v := v) hK hF (by omega) hv ?_
    show ZE (d + 2) M_Ref_times (gw G A) 22 [(2, o), (0, n), (0, (y : Int)), (0, m), (0, t0), (0, 0), (9, 0), (9, 0), (9, 0)] [(0, (nd 10000 v : Int)), (0, 1)] _
    refine ZE.goto (tgt := 30) d_Ref_times_22 rfl ?_
    exact J30 _ (by omega) (by omega) (by omega)
set_option maxRecDepth 20000 in
set_option maxHeartbeats 4000000 in
theorem r_product {d : Nat} {G : zG} {A : Int → Int → Int} {P : Option zV → zG → Prop} {o : Int} (hK : RK G o) (hF : RF A o) {n : Int} (hn : 0 ≤ n ∧ n ≤ 131) {m t0 : Int} (hm : 0 ≤ m ∧ m ≤ 131) (ht : 0 ≤ t0 ∧ t0 ≤ 131) (hnt : t0 ≠ n) (hmt : t0 ≠ m) {v w : Nat} (hv : num (A (o + 2)) n v) (hw : num (A (o + 2)) m w) (h9 : nd 10000 v + nd 10000 w ≤ 129) (k : ∀ f, num f t0 (v * w) → outs (A (o + 2)) f t0 → P none (gw G (upA A (o + 2) f))) : ZE (d + 2) M_Ref_product (gw G A) 0 [(2, o), (0, n), (0, m), (0, t0), (9, 0), (9, 0), (9, 0), (9, 0), (9, 0), (9, 0)] [] P := by
  obtain ⟨al, hal⟩ : ∃ al : Nat, al = nd 10000 v + nd 10000 w := ⟨_, rfl⟩
  have hvw : v * w < 10000 ^ al := by
    rw [hal, Nat.pow_add]
    exact Nat.mul_lt_mul_of_lt_of_lt (nd_self (by omega) v) (nd_self (by omega) w)
  refine ZE.aload_n d_Ref_product_0 rfl ?_
  refine ZE.iload_n d_Ref_product_1 rfl ?_
  refine ZE.cV [(0, n)] [] [(2, o), (0, n)] d_Ref_product_2 l_Ref_93 rfl rfl rfl rfl rfl rfl hK.1 ?_
  refine r_partsN (v := v) hK hF (by omega) hv ?_
  show ZE (d + 2) M_Ref_product (gw G A) 5 [(2, o), (0, n), (0, m), (0, t0), (9, 0), (9, 0), (9, 0), (9, 0), (9, 0), (9, 0)] [(0, (nd 10000 v : Int))] _
  refine ZE.aload_n d_Ref_product_5 rfl ?_
  refine ZE.iload_n d_Ref_product_6 rfl ?_
  refine ZE.cV [(0, m)] [(0, (nd 10000 v : Int))] [(2, o), (0, m)] d_Ref_product_7 l_Ref_93 rfl rfl rfl rfl rfl rfl hK.1 ?_
  refine r_partsN (v := w) hK hF (by omega) hw ?_
  show ZE (d + 2) M_Ref_product (gw G A) 10 [(2, o), (0, n), (0, m), (0, t0), (9, 0), (9, 0), (9, 0), (9, 0), (9, 0), (9, 0)] [(0, (nd 10000 w : Int)), (0, (nd 10000 v : Int))] _
  refine ZE.iadd d_Ref_product_10 ?_
  rw [show ((nd 10000 v : Int) + (nd 10000 w : Int) : Int) = ((al : Nat) : Int) from (by omega)]
  refine ZE.istore (ls2 := [(2, o), (0, n), (0, m), (0, t0), (0, ((al : Nat) : Int)), (9, 0), (9, 0), (9, 0), (9, 0), (9, 0)]) d_Ref_product_11 (Nat.le_of_ble_eq_true rfl) rfl ?_
  refine ZE.iconst (n := 1) d_Ref_product_13 ?_
  refine ZE.istore (ls2 := [(2, o), (0, n), (0, m), (0, t0), (0, ((al : Nat) : Int)), (0, 1), (9, 0), (9, 0), (9, 0), (9, 0)]) d_Ref_product_14 (Nat.le_of_ble_eq_true rfl) rfl ?_
  have L16 : ∀ (t : Nat) (j : Nat) (f : Int → Int) (hj : j ≤ al) (hr : raw f t0 j 0) (ho : outs (A (o + 2)) f t0), al - j < t → ZE (d + 2) M_Ref_product (gw G (upA A (o + 2) f)) 16 [(2, o), (0, n), (0, m), (0, t0), (0, (al : Int)), (0, (j : Int) + 1), (9, 0), (9, 0), (9, 0), (9, 0)] [] P := by
    intro t
    induction t with
    | zero => intro j f hj hr ho hm; exact absurd hm (Nat.not_lt_zero _)
    | succ t ih =>
      intro j f hj hr ho hm
      refine ZE.iload d_Ref_product_16 rfl ?_
      refine ZE.iload d_Ref_product_18 rfl ?_
      refine ZE.icmp_gt (tgt := 43) d_Ref_product_20 rfl (by unfold zR; omega) (by unfold zR; omega) (fun c20 => ?_) (fun c20 => ?_)
      · refine ZE.iconst (n := 0) d_Ref_product_43 ?_
        refine ZE.istore (ls2 := [(2, o), (0, n), (0, m), (0, t0), (0, (al : Int)), (0, 0), (9, 0), (9, 0), (9, 0), (9, 0)]) d_Ref_product_44 (Nat.le_of_ble_eq_true rfl) rfl ?_
        have hj2 : j = al := by omega
        rw [hj2] at hr
        have L46 : ∀ (t : Nat) (i : Nat) (f : Int → Int) (hi : i ≤ nd 10000 v) (hr : raw f t0 al (v % 10000 ^ i * w)) (ho : outs (A (o + 2)) f t0), nd 10000 v + 1 - i < t → ZE (d + 2) M_Ref_product (gw G (upA A (o + 2) f)) 46 [(2, o), (0, n), (0, m), (0, t0), (0, (al : Int)), (0, (i : Int)), (9, 0), (9, 0), (9, 0), (9, 0)] [] P := by
          intro t
          induction t with
          | zero => intro i f hi hr ho hm; exact absurd hm (Nat.not_lt_zero _)
          | succ t ih =>
            intro i f hi hr ho hm
            refine ZE.iload d_Ref_product_46 rfl ?_
            refine ZE.aload_n d_Ref_product_48 rfl ?_
            refine ZE.iload_n d_Ref_product_49 rfl ?_
            refine ZE.cV [(0, n)] [(0, (i : Int))] [(2, o), (0, n)] d_Ref_product_50 l_Ref_93 rfl rfl rfl rfl rfl rfl hK.1 ?_
            refine r_partsN (v := v) hK (hF.uA (by omega)) (by omega) (by rw [upA_at]; exact ho.num (by omega) (by omega) hv) ?_
            show ZE (d + 2) M_Ref_product (gw G (upA A (o + 2) f)) 53 [(2, o), (0, n), (0, m), (0, t0), (0, (al : Int)), (0, (i : Int)), (9, 0), (9, 0), (9, 0), (9, 0)] [(0, (nd 10000 v : Int)), (0, (i : Int))] _
            refine ZE.icmp_ge (tgt := 153) d_Ref_product_53 rfl (by unfold zR; omega) (by unfold zR; omega) (fun c53 => ?_) (fun c53 => ?_)
            · have e1 : i = nd 10000 v := by omega
              have hr3 : raw f t0 al (v * w) := by
                have e2 : v % 10000 ^ i = v := by rw [e1]; exact Nat.mod_eq_of_lt (nd_self (by omega) v)
                rw [e2] at hr; exact hr
              refine ZE.aload_n d_Ref_product_153 rfl ?_
              refine ZE.iload_n d_Ref_product_154 rfl ?_
              refine ZE.iload d_Ref_product_155 rfl ?_
              refine ZE.cV [(0, t0), (0, (al : Int))] [] [(2, o), (0, t0), (0, (al : Int)), (9, 0)] d_Ref_product_157 l_Ref_100 rfl rfl rfl rfl rfl rfl hK.1 ?_
              refine r_trim (m := al) (v := (v * w)) hK (hF.uA (by omega)) (by omega) (by omega) hvw (by rw [upA_at]; exact hr3) (fun f2 hn2 ho2 => ?_)
              show ZE (d + 2) M_Ref_product (gw G (upA (upA A (o + 2) f) (o + 2) f2)) 160 [(2, o), (0, n), (0, m), (0, t0), (0, (al : Int)), (0, (i : Int)), (9, 0), (9, 0), (9, 0), (9, 0)] [] _
              rw [upA_upA]
              rw [upA_at] at ho2
              refine ZE.vret d_Ref_product_160 rfl ?_
              exact k f2 hn2 (ho.tr ho2)
            · refine ZE.iconst (n := 0) d_Ref_product_56 ?_
              refine ZE.istore (ls2 := [(2, o), (0, n), (0, m), (0, t0), (0, (al : Int)), (0, (i : Int)), (0, 0), (9, 0), (9, 0), (9, 0)]) d_Ref_product_57 (Nat.le_of_ble_eq_true rfl) rfl ?_
              refine ZE.iconst (n := 0) d_Ref_product_59 ?_
              refine ZE.istore (ls2 := [(2, o), (0, n), (0, m), (0, t0), (0, (al : Int)), (0, (i : Int)), (0, 0), (0, 0), (9, 0), (9, 0)]) d_Ref_product_60 (Nat.le_of_ble_eq_true rfl) rfl ?_
              have ihO := ih
              obtain ⟨V, hV⟩ : ∃ V : Nat, V = v % 10000 ^ i * w := ⟨_, rfl⟩
              rw [← hV] at hr
              have L62 : ∀ (t : Nat) (j2 : Nat) (c : Nat) (X : Nat) (g : Int → Int) (hXd : X = V + dg 10000 v i * (w % 10000 ^ j2) * 10000 ^ i) (hc : c ≤ 9999) (hj2 : j2 ≤ al) (hX : X / 10000 ^ (i + j2) = V / 10000 ^ (i + j2) + c) (g1 : ∀ p : Nat, p < i + j2 → g (130 * t0 + 1 + p) = dg 10000 X p) (g2 : ∀ p : Nat, i + j2 ≤ p → p < al → g (130 * t0 + 1 + p) = dg 10000 V p) (g0 : outs f g t0), al + 1 - j2 < t → ZE (d + 2) M_Ref_product (gw G (upA A (o + 2) g)) 62 [(2, o), (0, n), (0, m), (0, t0), (0, (al : Int)), (0, (i : Int)), (0, (c : Int)), (0, (j2 : Int)), (9, 0), (9, 0)] [] P := by
                intro t
                induction t with
                | zero => intro j2 c X g hXd hc hj2 hX g1 g2 g0 hm; exact absurd hm (Nat.not_lt_zero _)
                | succ t ih =>
                  intro j2 c X g hXd hc hj2 hX g1 g2 g0 hm
                  have hXle : X ≤ v * w := by
                    have a1 : dg 10000 v i * (w % 10000 ^ j2) * 10000 ^ i ≤ dg 10000 v i * w * 10000 ^ i := Nat.mul_le_mul_right _ (Nat.mul_le_mul_left _ (Nat.mod_le _ _))
                    have a2 : v % 10000 ^ (i + 1) * w = v % 10000 ^ i * w + dg 10000 v i * w * 10000 ^ i := by rw [mod_step, Nat.add_mul]; congr 1; rw [Nat.mul_comm (10000 ^ i), Nat.mul_assoc, Nat.mul_assoc, Nat.mul_comm w]
                    have a3 : v % 10000 ^ (i + 1) * w ≤ v * w := Nat.mul_le_mul_right _ (Nat.mod_le _ _)
                    omega
                  have J77 : (j2 < nd 10000 w ∨ 0 < c) → ZE (d + 2) M_Ref_product (gw G (upA A (o + 2) g)) 77 [(2, o), (0, n), (0, m), (0, t0), (0, (al : Int)), (0, (i : Int)), (0, (c : Int)), (0, (j2 : Int)), (9, 0), (9, 0)] [] P := by
                    intro hjc
                    have hp : i + j2 < al := by
                      rcases hjc with q | q
                      · omega
                      · rcases Nat.lt_or_ge (i + j2) al with q2 | q2
                        · exact q2
                        · exfalso
                          have a4 : X / 10000 ^ (i + j2) = 0 := Nat.div_eq_of_lt (Nat.lt_of_le_of_lt hXle (Nat.lt_of_lt_of_le hvw (Nat.pow_le_pow_right (by omega) q2)))
                          have a5 := Nat.le_add_left c (V / 10000 ^ (i + j2))
                          rw [← hX, a4] at a5
                          omega
                    refine ZE.sipush (n := 130) d_Ref_product_77 rfl ?_
                    refine ZE.iload_n d_Ref_product_80 rfl ?_
                    refine ZE.imul d_Ref_product_81 ?_
                    refine ZE.iconst (n := 1) d_Ref_product_82 ?_
                    refine ZE.iadd d_Ref_product_83 ?_
                    refine ZE.iload d_Ref_product_84 rfl ?_
                    refine ZE.iadd d_Ref_product_86 ?_
                    refine ZE.iload d_Ref_product_87 rfl ?_
                    refine ZE.iadd d_Ref_product_89 ?_
                    refine ZE.istore (ls2 := [(2, o), (0, n), (0, m), (0, t0), (0, (al : Int)), (0, (i : Int)), (0, (c : Int)), (0, (j2 : Int)), (0, (((130 * t0) + 1) + (i : Int)) + (j2 : Int)), (9, 0)]) d_Ref_product_90 (Nat.le_of_ble_eq_true rfl) rfl ?_
                    refine ZE.aload_n d_Ref_product_92 rfl ?_
                    refine ZE.getE (v := o + 2) d_Ref_product_93 f_Ref_13 (tg := 2) rfl hK.1 (hF.uA (by omega)).a2 ?_
                    refine ZE.iload d_Ref_product_96 rfl ?_
                    refine ZE.ialdE (v := (dg 10000 V (i + j2) : Int)) d_Ref_product_98 hK.k2 (by have hn0 := hK.n2; show 0 ≤ ((((130 * t0) + 1) + (i : Int)) + (j2 : Int)) ∧ ((((130 * t0) + 1) + (i : Int)) + (j2 : Int)) < gn G (o + 2); omega) (by rw [gw_at, upA_at, show 130 * t0 + 1 + (i : Int) + (j2 : Int) = 130 * t0 + 1 + ((i + j2 : Nat) : Int) by omega]; exact g2 (i + j2) (by omega) hp) ?_
                    refine ZE.aload_n d_Ref_product_99 rfl ?_
                    refine ZE.iload_n d_Ref_product_100 rfl ?_
                    refine ZE.iload d_Ref_product_101 rfl ?_
                    refine ZE.cV [(0, n), (0, (i : Int))] [(0, (dg 10000 V (i + j2) : Int))] [(2, o), (0, n), (0, (i : Int))] d_Ref_product_103 l_Ref_96 rfl rfl rfl rfl rfl rfl hK.1 ?_
                    refine r_part (i := i) (v := v) hK (hF.uA (by omega)) (by omega) (by rw [upA_at]; exact (ho.tr g0).num (by omega) (by omega) hv) (by omega) (by omega) ?_
                    show ZE (d + 2) M_Ref_product (gw G (upA A (o + 2) g)) 106 [(2, o), (0, n), (0, m), (0, t0), (0, (al : Int)), (0, (i : Int)), (0, (c : Int)), (0, (j2 : Int)), (0, (((130 * t0) + 1) + (i : Int)) + (j2 : Int)), (9, 0)] [(0, (dg 10000 v i : Int)), (0, (dg 10000 V (i + j2) : Int))] _
                    refine ZE.aload_n d_Ref_product_106 rfl ?_
                    refine ZE.iload_n d_Ref_product_107 rfl ?_
                    refine ZE.iload d_Ref_product_108 rfl ?_
                    refine ZE.cV [(0, m), (0, (j2 : Int))] [(0, (dg 10000 v i : Int)), (0, (dg 10000 V (i + j2) : Int))] [(2, o), (0, m), (0, (j2 : Int))] d_Ref_product_110 l_Ref_96 rfl rfl rfl rfl rfl rfl hK.1 ?_
                    refine r_part (i := j2) (v := w) hK (hF.uA (by omega)) (by omega) (by rw [upA_at]; exact (ho.tr g0).num (by omega) (by omega) hw) (by omega) (by omega) ?_
                    show ZE (d + 2) M_Ref_product (gw G (upA A (o + 2) g)) 113 [(2, o), (0, n), (0, m), (0, t0), (0, (al : Int)), (0, (i : Int)), (0, (c : Int)), (0, (j2 : Int)), (0, (((130 * t0) + 1) + (i : Int)) + (j2 : Int)), (9, 0)] [(0, (dg 10000 w j2 : Int)), (0, (dg 10000 v i : Int)), (0, (dg 10000 V (i + j2) : Int))] _
                    refine ZE.imul d_Ref_product_113 ?_
                    refine ZE.iadd d_Ref_product_114 ?_
                    refine ZE.iload d_Ref_product_115 rfl ?_
                    refine ZE.iadd d_Ref_product_117 ?_
                    refine ZE.istore (ls2 := [(2, o), (0, n), (0, m), (0, t0), (0, (al : Int)), (0, (i : Int)), (0, (c : Int)), (0, (j2 : Int)), (0, (((130 * t0) + 1) + (i : Int)) + (j2 : Int)), (0, ((dg 10000 V (i + j2) : Int) + ((dg 10000 v i : Int) * (dg 10000 w j2 : Int))) + (c : Int))]) d_Ref_product_118 (Nat.le_of_ble_eq_true rfl) rfl ?_
                    obtain ⟨T, hT⟩ : ∃ T : Nat, T = dg 10000 V (i + j2) + dg 10000 v i * dg 10000 w j2 + c := ⟨_, rfl⟩
                    have t1 := dg_lt (b := 10000) (by omega) v i
                    have t2 := dg_lt (b := 10000) (by omega) w j2
                    have t3 := dg_lt (b := 10000) (by omega) V (i + j2)
                    have t4 : dg 10000 v i * dg 10000 w j2 ≤ 9999 * 9999 := Nat.mul_le_mul (by omega) (by omega)
                    have e0 : (dg 10000 V (i + j2) : Int) + (dg 10000 v i : Int) * (dg 10000 w j2 : Int) + (c : Int) = (T : Int) := by rw [hT]; simp only [Int.natCast_add, Int.natCast_mul]
                    refine ZE.aload_n d_Ref_product_120 rfl ?_
                    refine ZE.getE (v := o + 2) d_Ref_product_121 f_Ref_13 (tg := 2) rfl hK.1 (hF.uA (by omega)).a2 ?_
                    refine ZE.iload d_Ref_product_124 rfl ?_
                    refine ZE.iload d_Ref_product_126 rfl ?_
                    refine ZE.sipush (n := 10000) d_Ref_product_128 rfl ?_
                    refine ZE.iremP d_Ref_product_131 (by omega) ?_
                    refine ZE.iast d_Ref_product_132 hK.k2 (by have hn0 := hK.n2; show 0 ≤ ((((130 * t0) + 1) + (i : Int)) + (j2 : Int)) ∧ ((((130 * t0) + 1) + (i : Int)) + (j2 : Int)) < gn G (o + 2); omega) ?_
                    show ZE (d + 2) M_Ref_product (gw G (up2 (upA A (o + 2) g) (o + 2) ((((130 * t0) + 1) + (i : Int)) + (j2 : Int)) ((((dg 10000 V (i + j2) : Int) + ((dg 10000 v i : Int) * (dg 10000 w j2 : Int))) + (c : Int)) % 10000))) 133 [(2, o), (0, n), (0, m), (0, t0), (0, (al : Int)), (0, (i : Int)), (0, (c : Int)), (0, (j2 : Int)), (0, (((130 * t0) + 1) + (i : Int)) + (j2 : Int)), (0, ((dg 10000 V (i + j2) : Int) + ((dg 10000 v i : Int) * (dg 10000 w j2 : Int))) + (c : Int))] [] _
                    rw [up2_upA]
                    refine ZE.iload d_Ref_product_133 rfl ?_
                    refine ZE.sipush (n := 10000) d_Ref_product_135 rfl ?_
                    refine ZE.idivP d_Ref_product_138 (by omega) ?_
                    refine ZE.istore (ls2 := [(2, o), (0, n), (0, m), (0, t0), (0, (al : Int)), (0, (i : Int)), (0, (((dg 10000 V (i + j2) : Int) + ((dg 10000 v i : Int) * (dg 10000 w j2 : Int))) + (c : Int)) / 10000), (0, (j2 : Int)), (0, (((130 * t0) + 1) + (i : Int)) + (j2 : Int)), (0, ((dg 10000 V (i + j2) : Int) + ((dg 10000 v i : Int) * (dg 10000 w j2 : Int))) + (c : Int))]) d_Ref_product_139 (Nat.le_of_ble_eq_true rfl) rfl ?_
                    refine ZE.iinc (ls2 := [(2, o), (0, n), (0, m), (0, t0), (0, (al : Int)), (0, (i : Int)), (0, (((dg 10000 V (i + j2) : Int) + ((dg 10000 v i : Int) * (dg 10000 w j2 : Int))) + (c : Int)) / 10000), (0, (j2 : Int) + 1), (0, (((130 * t0) + 1) + (i : Int)) + (j2 : Int)), (0, ((dg 10000 V (i + j2) : Int) + ((dg 10000 v i : Int) * (dg 10000 w j2 : Int))) + (c : Int))]) d_Ref_product_141 rfl rfl ?_
                    refine ZE.goto (tgt := 62) d_Ref_product_144 rfl ?_
                    refine ZE.mask [true, true, true, true, true, true, true, true, false, false] ?_
                    show ZE (d + 2) M_Ref_product (gw G (upA A (o + 2) (up1 g ((((130 * t0) + 1) + (i : Int)) + (j2 : Int)) ((((dg 10000 V (i + j2) : Int) + ((dg 10000 v i : Int) * (dg 10000 w j2 : Int))) + (c : Int)) % 10000)))) 62 [(2, o), (0, n), (0, m), (0, t0), (0, (al : Int)), (0, (i : Int)), (0, (((dg 10000 V (i + j2) : Int) + ((dg 10000 v i : Int) * (dg 10000 w j2 : Int))) + (c : Int)) / 10000), (0, (j2 : Int) + 1), (9, 0), (9, 0)] [] _
                    obtain ⟨s1, s2, s3⟩ := prod_step (b := 10000) (by omega) (V := V) (d := dg 10000 v i) (w := w) (j := j2) hX
                    rw [← hT] at s1 s2
                    rw [e0, show ((T : Nat) : Int) / 10000 = ((T / 10000 : Nat) : Int) by omega, show (j2 : Int) + 1 = ((j2 + 1 : Nat) : Int) by omega]
                    have hX2 : V + dg 10000 v i * (w % 10000 ^ (j2 + 1)) * 10000 ^ i = X + dg 10000 v i * dg 10000 w j2 * 10000 ^ (i + j2) := by
                      rw [mod_step, hXd, Nat.mul_add, Nat.add_mul, Nat.pow_add, ← Nat.add_assoc]
                      congr 1
                      rw [Nat.mul_comm (10000 ^ j2), ← Nat.mul_assoc, Nat.mul_assoc (dg 10000 v i * dg 10000 w j2), Nat.mul_comm (10000 ^ j2)]
                    refine ih (j2 + 1) (T / 10000) _ _ hX2.symm (by omega) (by omega) ?_ ?_ ?_ (g0.up (by omega)) (by omega)
                    · rw [show i + (j2 + 1) = i + j2 + 1 by omega]; exact s2
                    · intro p hp
                      by_cases q1 : p = i + j2
                      · subst q1; rw [show 130 * t0 + 1 + ((i + j2 : Nat) : Int) = 130 * t0 + 1 + (i : Int) + (j2 : Int) by omega, up1_at, show ((T : Nat) : Int) % 10000 = ((T % 10000 : Nat) : Int) by omega, s1]
                      · rw [up1_ne _ _ (by omega), g1 p (by omega), s3 p (by omega)]
                    · intro p hp hp2
                      rw [up1_ne _ _ (by omega)]; exact g2 p (by omega) hp2
                  refine ZE.iload d_Ref_product_62 rfl ?_
                  refine ZE.aload_n d_Ref_product_64 rfl ?_
                  refine ZE.iload_n d_Ref_product_65 rfl ?_
                  refine ZE.cV [(0, m)] [(0, (j2 : Int))] [(2, o), (0, m)] d_Ref_product_66 l_Ref_93 rfl rfl rfl rfl rfl rfl hK.1 ?_
                  refine r_partsN (v := w) hK (hF.uA (by omega)) (by omega) (by rw [upA_at]; exact (ho.tr g0).num (by omega) (by omega) hw) ?_
                  show ZE (d + 2) M_Ref_product (gw G (upA A (o + 2) g)) 69 [(2, o), (0, n), (0, m), (0, t0), (0, (al : Int)), (0, (i : Int)), (0, (c : Int)), (0, (j2 : Int)), (9, 0), (9, 0)] [(0, (nd 10000 w : Int)), (0, (j2 : Int))] _
                  refine ZE.icmp_lt (tgt := 77) d_Ref_product_69 rfl (by unfold zR; omega) (by unfold zR; omega) (fun c69 => ?_) (fun c69 => ?_)
                  · exact J77 (by omega)
                  · refine ZE.iload d_Ref_product_72 rfl ?_
                    refine ZE.if_le (tgt := 147) d_Ref_product_74 rfl (by unfold zR; omega) (fun c74 => ?_) (fun c74 => ?_)
                    · have hw0 : w % 10000 ^ j2 = w := Nat.mod_eq_of_lt ((nd_lt (by omega) _ _).mpr (by omega))
                      have hXe : X = v % 10000 ^ (i + 1) * w := by
                        rw [hXd, hw0, mod_step, Nat.add_mul]
                        congr 1
                        rw [Nat.mul_comm (10000 ^ i), Nat.mul_assoc, Nat.mul_assoc, Nat.mul_comm w]
                      have hr2 : raw g t0 al (v % 10000 ^ (i + 1) * w) := by
                        intro p hp
                        rw [← hXe]
                        by_cases q : p < i + j2
                        · exact g1 p q
                        · rw [g2 p (by omega) hp]
                          unfold dg
                          have e4 : 10000 ^ p = 10000 ^ (i + j2) * 10000 ^ (p - (i + j2)) := by rw [← Nat.pow_add]; congr 1; omega
                          have c0 : c = 0 := by omega
                          rw [e4, ← Nat.div_div_eq_div_mul, ← Nat.div_div_eq_div_mul, hX, c0]; rfl
                      refine ZE.iinc (ls2 := [(2, o), (0, n), (0, m), (0, t0), (0, (al : Int)), (0, (i : Int) + 1), (0, (c : Int)), (0, (j2 : Int)), (9, 0), (9, 0)]) d_Ref_product_147 rfl rfl ?_
                      refine ZE.goto (tgt := 46) d_Ref_product_150 rfl ?_
                      refine ZE.mask [true, true, true, true, true, true, false, false, true, true] ?_
                      show ZE (d + 2) M_Ref_product (gw G (upA A (o + 2) g)) 46 [(2, o), (0, n), (0, m), (0, t0), (0, (al : Int)), (0, (i : Int) + 1), (9, 0), (9, 0), (9, 0), (9, 0)] [] _
                      rw [show (i : Int) + 1 = ((i + 1 : Nat) : Int) by omega]
                      exact ihO (i + 1) _ (by omega) hr2 (ho.tr g0) (by omega)
                    · exact J77 (by omega)
              refine L62 _ 0 0 V f (by rw [Nat.pow_zero, Nat.mod_one, Nat.mul_zero, Nat.zero_mul, Nat.add_zero]) (by omega) (by omega) rfl ?_ ?_ outs.rf (Nat.lt_succ_self _)
              · intro p hp; exact hr p (by omega)
              · intro p hp hp2; exact hr p hp2
        exact L46 _ 0 f (by omega) (by rw [Nat.pow_zero, Nat.mod_one, Nat.zero_mul]; exact hr) ho (Nat.lt_succ_self _)
      · refine ZE.aload_n d_Ref_product_23 rfl ?_
        refine ZE.getE (v := o + 2) d_Ref_product_24 f_Ref_13 (tg := 2) rfl hK.1 (hF.uA (by omega)).a2 ?_
        refine ZE.sipush (n := 130) d_Ref_product_27 rfl ?_
        refine ZE.iload_n d_Ref_product_30 rfl ?_
        refine ZE.imul d_Ref_product_31 ?_
        refine ZE.iload d_Ref_product_32 rfl ?_
        refine ZE.iadd d_Ref_product_34 ?_
        refine ZE.iconst (n := 0) d_Ref_product_35 ?_
        refine ZE.iast d_Ref_product_36 hK.k2 (by have hn0 := hK.n2; show 0 ≤ ((130 * t0) + ((j : Int) + 1)) ∧ ((130 * t0) + ((j : Int) + 1)) < gn G (o + 2); omega) ?_
        show ZE (d + 2) M_Ref_product (gw G (up2 (upA A (o + 2) f) (o + 2) ((130 * t0) + ((j : Int) + 1)) 0)) 37 [(2, o), (0, n), (0, m), (0, t0), (0, (al : Int)), (0, (j : Int) + 1), (9, 0), (9, 0), (9, 0), (9, 0)] [] _
        rw [up2_upA]
        refine ZE.iinc (ls2 := [(2, o), (0, n), (0, m), (0, t0), (0, (al : Int)), (0, ((j : Int) + 1) + 1), (9, 0), (9, 0), (9, 0), (9, 0)]) d_Ref_product_37 rfl rfl ?_
        refine ZE.goto (tgt := 16) d_Ref_product_40 rfl ?_
        rw [show (j : Int) + 1 + 1 = ((j + 1 : Nat) : Int) + 1 by omega]
        refine ih (j + 1) _ (by omega) ?_ (ho.up (by omega)) (by omega)
        intro i hi
        by_cases q1 : i = j
        · subst q1; rw [show 130 * t0 + 1 + (i : Int) = 130 * t0 + ((i : Int) + 1) by omega, up1_at, dg_0]; rfl
        · rw [up1_ne _ _ (by omega)]; exact hr i (by omega)
  have L0 := L16 _ 0 (A (o + 2)) (by omega) (fun i hi => absurd hi (Nat.not_lt_zero _)) outs.rf (Nat.lt_succ_self _)
  rw [upA_self] at L0
  exact L0
