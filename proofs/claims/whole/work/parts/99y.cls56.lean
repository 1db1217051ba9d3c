def okG (ap S : Nat) : Nat → Bool
  | 0 => true
  | j + 1 => okG ap S j && (!apB S ap j || decide (snV ap S (cnt (apB S ap) j : Int) = (j : Int) + 1))
def sayV (ap S u : Nat) : Bool := okG ap S (u - ap) && decide (snV ap S (cnt (apB S ap) (u - ap) : Int) = -1 ∨ (u : Int) < snV ap S (cnt (apB S ap) (u - ap) : Int) + (ap : Int))
theorem okG_W {ap S : Nat} {w : Nat → Nat} {M : Nat} (h : SL S w M) : ∀ n, n ≤ 200000 → ∀ j, j ≤ M → (∀ i, i < j → w i ≤ n) → (∀ i, j ≤ i → i < M → n < w i) → (okG ap S n = true ↔ ∀ i, i < j → smB S (w i + ap) = true → snV ap S (cnt (fun i => smB S (w i + ap)) i : Int) = (w i : Int)) := by
  intro n
  induction n with
  | zero =>
    intro _ j hj a _
    have : j = 0 := by
      rcases Nat.eq_zero_or_pos j with q | q
      · exact q
      · have := a 0 q; have := (h.le (j := 0) (by omega)).1; omega
    subst this
    exact ⟨fun _ i hi => absurd hi (Nat.not_lt_zero _), fun _ => rfl⟩
  | succ n ih =>
    intro hn j hj a b
    have e : okG ap S (n + 1) = (okG ap S n && (!apB S ap n || decide (snV ap S (cnt (apB S ap) n : Int) = (n : Int) + 1))) := rfl
    rw [e, Bool.and_eq_true]
    by_cases q : smB S (n + 1) = true
    · obtain ⟨i, hi, ei⟩ := h.2.2.2.2.2 (n + 1) (by omega) (by omega) hn q
      have hij : i < j := by
        rcases Nat.lt_or_ge i j with r | r
        · exact r
        · have := b i r hi; omega
      have hie : j = i + 1 := by
        rcases Nat.lt_or_ge (i + 1) j with r | r
        · have := a (i + 1) r; have := h.inc (show i < i + 1 by omega) (show i + 1 < M by omega); omega
        · omega
      subst hie
      have a2 : ∀ x, x < i → w x ≤ n := fun x hx => by have := h.inc hx hi; omega
      have b2 : ∀ x, i ≤ x → x < M → n < w x := fun x hx hx2 => by
        rcases Nat.eq_or_lt_of_le hx with z | z
        · rw [← z, ei]; omega
        · have := h.inc z hx2; omega
      have hc : cnt (apB S ap) n = cnt (fun i => smB S (w i + ap)) i := cntW (g := fun q => smB S (q + ap)) h.2.2.2 n (by omega) (by omega) i (by omega) a2 b2
      rw [ih (by omega) i (by omega) a2 b2, hc]
      have hap : apB S ap n = smB S (w i + ap) := by unfold apB; rw [q, Bool.true_and, ei]
      rw [hap]
      constructor
      · intro ⟨g1, g2⟩ x hx hx2
        rcases Nat.lt_or_ge x i with z | z
        · exact g1 x z hx2
        · have : x = i := by omega
          subst this
          rw [hx2] at g2
          have := of_decide_eq_true g2
          omega
      · intro g
        refine ⟨fun x hx hx2 => g x (by omega) hx2, ?_⟩
        by_cases z : smB S (w i + ap) = true
        · have := g i (by omega) z
          rw [z, decide_eq_true (by omega)]
          rfl
        · rw [Bool.eq_false_iff.mpr z]; rfl
    · have hap : apB S ap n = false := by unfold apB; rw [Bool.eq_false_iff.mpr q, Bool.false_and]
      rw [hap]
      rw [ih (by omega) j hj (fun i hi => by
        have h4 := a i hi
        rcases Nat.eq_or_lt_of_le h4 with z | z
        · have h5 := (h.le (show i < M by omega)).2.2; rw [z] at h5; exact absurd h5 q
        · omega) (fun i hi hi2 => by have := b i hi hi2; omega)]
      exact ⟨fun g => g.1, fun g => ⟨g, rfl⟩⟩
theorem SL.pos {w : Nat → Nat} {S M : Nat} (h : SL S w M) (n : Nat) : ∀ K, K ≤ M → ∃ j, j ≤ K ∧ (∀ i, i < j → w i ≤ n) ∧ (∀ i, j ≤ i → i < K → n < w i) := by
  intro K
  induction K with
  | zero => intro _; exact ⟨0, Nat.le_refl _, fun i hi => absurd hi (Nat.not_lt_zero _), fun i _ hi => absurd hi (Nat.not_lt_zero _)⟩
  | succ K ih =>
    intro hK
    obtain ⟨j, h1, h2, h3⟩ := ih (by omega)
    by_cases q : w K ≤ n
    · refine ⟨K + 1, Nat.le_refl _, fun i hi => ?_, fun i a b => by omega⟩
      rcases Nat.lt_or_ge i K with z | z
      · have := h.inc z (show K < M by omega); omega
      · have : i = K := by omega
        subst this; exact q
    · refine ⟨j, by omega, h2, fun i a b => ?_⟩
      rcases Nat.lt_or_ge i K with z | z
      · exact h3 i a z
      · have : i = K := by omega
        subst this; omega
theorem snV_R {ap S : Nat} (hap : ap = 1 ∨ ap = 2) (hS : S < 128) (hp : pop S ≤ 5) (i : Int) : -1 ≤ snV ap S i ∧ snV ap S i < 1000000000 := by
  unfold snV
  split
  · have := nN_ok hap hS hp (k := i.toNat) (by omega); omega
  · omega
def gpW (w : Nat → Nat) : Nat → Int × Int
  | 0 => (-1, -1)
  | k + 1 => if k = 0 then (-1, -1) else if (gpW w k).1 < (w k : Int) - w (k - 1) then ((w k : Int) - w (k - 1), (w (k - 1) : Int)) else gpW w k
theorem gpF_W {S : Nat} {w : Nat → Nat} {M : Nat} (h : SL S w M) : ∀ n, n + 1 ≤ 200000 → ∀ j, j < M → (∀ i, i < j + 1 → w i ≤ n + 1) → (∀ i, j + 1 ≤ i → i < M → n + 1 < w i) → gpF S n = ((w j : Int), gpW w (j + 1)) := by
  intro n
  induction n with
  | zero =>
    intro _ j hj a _
    have : j = 0 := by
      rcases Nat.eq_zero_or_pos j with q | q
      · exact q
      · have := a j (by omega); have := h.w1 q hj; omega
    subst this
    show ((1 : Int), (-1 : Int), (-1 : Int)) = ((w 0 : Int), gpW w 1)
    rw [h.2.2.1]
    rfl
  | succ n ih =>
    intro hn j hj a b
    have e : gpF S (n + 1) = if smB S (n + 2) = true then (if (n : Int) + 2 - (gpF S n).1 ≤ (gpF S n).2.1 then ((n : Int) + 2, (gpF S n).2.1, (gpF S n).2.2) else ((n : Int) + 2, (n : Int) + 2 - (gpF S n).1, (gpF S n).1)) else gpF S n := rfl
    rw [e]
    by_cases q : smB S (n + 2) = true
    · rw [if_pos q]
      obtain ⟨i, hi, ei⟩ := h.2.2.2.2.2 (n + 2) (by omega) (by omega) (by omega) q
      have hij : i < j + 1 := by
        rcases Nat.lt_or_ge i (j + 1) with r | r
        · exact r
        · have := b i r hi; omega
      have hie : i = j := by
        rcases Nat.lt_or_ge i j with r | r
        · have := a j (by omega); have := h.inc r hj; omega
        · omega
      subst hie
      have hi1 : 1 ≤ i := by
        rcases Nat.eq_zero_or_pos i with z | z
        · subst z; have := h.2.2.1; omega
        · exact z
      obtain ⟨x, rfl⟩ : ∃ x, i = x + 1 := ⟨i - 1, by omega⟩
      have hr := ih (by omega) x (by omega) (fun y hy => by have := h.inc (show y < x + 1 by omega) hi; omega) (fun y hy hy2 => by
        rcases Nat.eq_or_lt_of_le hy with z | z
        · rw [← z, ei]; omega
        · have := h.inc z hy2; omega)
      rw [hr]
      have e2 : gpW w (x + 1 + 1) = if (gpW w (x + 1)).1 < (w (x + 1) : Int) - w x then ((w (x + 1) : Int) - w x, (w x : Int)) else gpW w (x + 1) := by
        show (if x + 1 = 0 then _ else if (gpW w (x + 1)).1 < (w (x + 1) : Int) - w (x + 1 - 1) then ((w (x + 1) : Int) - w (x + 1 - 1), (w (x + 1 - 1) : Int)) else gpW w (x + 1)) = _
        rw [if_neg (Nat.succ_ne_zero _), Nat.add_sub_cancel]
      have e3 : (w (x + 1) : Int) = (n : Int) + 2 := by rw [ei]; omega
      rw [e2, e3]
      show (if (n : Int) + 2 - (w x : Int) ≤ (gpW w (x + 1)).1 then _ else _) = _
      by_cases y : (n : Int) + 2 - (w x : Int) ≤ (gpW w (x + 1)).1
      · rw [if_pos y, if_neg (by omega)]
      · rw [if_neg y, if_pos (by omega)]
    · rw [if_neg q]
      refine ih (by omega) j hj (fun i hi => ?_) (fun i hi hi2 => by have := b i hi hi2; omega)
      have h4 := a i hi
      rcases Nat.eq_or_lt_of_le h4 with z | z
      · have h5 := (h.le (show i < M by omega)).2.2
        rw [z] at h5
        exact absurd h5 q
      · omega
theorem gpW_R {w : Nat → Nat} {S M : Nat} (h : SL S w M) : ∀ k, k ≤ M → -1 ≤ (gpW w k).1 ∧ (gpW w k).1 ≤ 200000 := by
  intro k
  induction k with
  | zero => intro _; show (-1 : Int) ≤ -1 ∧ (-1 : Int) ≤ 200000; omega
  | succ k ih =>
    intro hk
    have h1 := ih (by omega)
    have h2 := h.le (show k < M by omega)
    show -1 ≤ (if k = 0 then ((-1, -1) : Int × Int) else if (gpW w k).1 < (w k : Int) - w (k - 1) then ((w k : Int) - w (k - 1), (w (k - 1) : Int)) else gpW w k).1 ∧ (if k = 0 then ((-1, -1) : Int × Int) else if (gpW w k).1 < (w k : Int) - w (k - 1) then ((w k : Int) - w (k - 1), (w (k - 1) : Int)) else gpW w k).1 ≤ 200000
    split
    · show (-1 : Int) ≤ -1 ∧ (-1 : Int) ≤ 200000; omega
    · split
      · show -1 ≤ (w k : Int) - w (k - 1) ∧ (w k : Int) - w (k - 1) ≤ 200000; omega
      · exact h1
set_option maxRecDepth 20000 in
set_option maxHeartbeats 4000000 in
theorem m_saysTheSame {d : Nat} {G : zG} {A : Int → Int → Int} {P : Option zV → zG → Prop} {h : Int} (hK : mK G h) {S : Nat} {w : Nat → Nat} {M : Nat} (hQ : mS A h S w M) {s E0 : Int} {ap : Nat} (hR : sR G A s E0 ap S) {u : Nat} (hu : u ≤ 200000) (k : P (some (0, b2i (sayV ap S u = true))) (gw G A)) : ZE (d + 3) M_Smo_saysTheSame (gw G A) 0 [(2, h), (2, s), (0, (u : Int)), (9, 0), (9, 0), (9, 0), (9, 0)] [] P := by
  have hSL := hQ.2.2.2.1
  have hM16 := hSL.2.1
  have hM1 := hSL.1
  have hapx := hR.apx
  refine ZE.iconst (n := 0) d_Smo_saysTheSame_0 ?_
  refine ZE.istore_n (ls2 := [(2, h), (2, s), (0, (u : Int)), (0, 0), (9, 0), (9, 0), (9, 0)]) d_Smo_saysTheSame_1 (Nat.le_of_ble_eq_true rfl) rfl ?_
  refine ZE.iconst (n := 0) d_Smo_saysTheSame_2 ?_
  refine ZE.istore (ls2 := [(2, h), (2, s), (0, (u : Int)), (0, 0), (0, 0), (9, 0), (9, 0)]) d_Smo_saysTheSame_3 (Nat.le_of_ble_eq_true rfl) rfl ?_
  refine ZE.iconst (n := 0) d_Smo_saysTheSame_5 ?_
  refine ZE.istore (ls2 := [(2, h), (2, s), (0, (u : Int)), (0, 0), (0, 0), (0, 0), (9, 0)]) d_Smo_saysTheSame_6 (Nat.le_of_ble_eq_true rfl) rfl ?_
  have L8 : ∀ (tt0 : Nat) (k0 : Nat) (a0 : Nat) (hkM : k0 ≤ M) (haM : a0 ≤ M) (ha : ∀ i : Nat, i < a0 → k0 < M → w i < w k0 + ap) (hku : ∀ i : Nat, i < k0 → w i + ap ≤ u) (hok : ∀ i : Nat, i < k0 → smB S (w i + ap) = true → snV ap S (cnt (fun i => smB S (w i + ap)) i : Int) = (w i : Int)), M + 1 - k0 < tt0 → ZE (d + 3) M_Smo_saysTheSame (gw G A) 8 [(2, h), (2, s), (0, (u : Int)), (0, (cnt (fun i => smB S (w i + ap)) k0 : Int)), (0, (a0 : Int)), (0, (k0 : Int)), (9, 0)] [] P := by
    intro tt0
    induction tt0 with
    | zero => intro k0 a0 hkM haM ha hku hok hm; exact absurd hm (Nat.not_lt_zero _)
    | succ tt0 ih =>
      intro k0 a0 hkM haM ha hku hok hm
      have hck := cnt_le (fun i => smB S (w i + ap)) k0
      refine ZE.iload d_Smo_saysTheSame_8 rfl ?_
      refine ZE.aload_n d_Smo_saysTheSame_10 rfl ?_
      refine ZE.getE (v := (M : Int)) d_Smo_saysTheSame_11 f_Smo_43 (tg := 0) rfl hK.1 hQ.2.2.1 ?_
      refine ZE.icmp_ge (tgt := 107) d_Smo_saysTheSame_14 rfl (by unfold zR; omega) (by unfold zR; omega) (fun c14 => ?_) (fun c14 => ?_)
      · have ha4 : ∀ i, i < k0 → w i ≤ u - ap := fun i hi => by have := hku i hi; omega
        have hb4 : ∀ i, k0 ≤ i → i < M → u - ap < w i := fun i hi hi2 => by
          have h1 := hSL.le hi2
          rcases Nat.eq_or_lt_of_le hi with z | z
          · subst z; omega
          · have := hSL.inc z hi2; omega
        have hcn : cnt (apB S ap) (u - ap) = cnt (fun i => smB S (w i + ap)) k0 := cntW (g := fun q => smB S (q + ap)) hSL.2.2.2 (u - ap) (by omega) (by omega) k0 hkM ha4 hb4
        have hgt : okG ap S (u - ap) = true := (okG_W hSL (u - ap) (by omega) k0 hkM ha4 hb4).mpr hok
        refine ZE.aload_n d_Smo_saysTheSame_107 rfl ?_
        refine ZE.iload_n d_Smo_saysTheSame_108 rfl ?_
        have hsR := snV_R hR.apx hR.s7 hR.p5 (cnt (fun i => smB S (w i + ap)) k0 : Int)
        refine ZE.cV [(0, (cnt (fun i => smB S (w i + ap)) k0 : Int))] [] [(2, s), (0, (cnt (fun i => smB S (w i + ap)) k0 : Int))] d_Smo_saysTheSame_109 l_Smo_82 rfl rfl rfl rfl rfl rfl hR.K.1 ?_
        refine s_smallAt (d := d) hR (p := (cnt (fun i => smB S (w i + ap)) k0 : Int)) (by unfold zR; omega) ?_
        show ZE (d + 3) M_Smo_saysTheSame (gw G A) 112 [(2, h), (2, s), (0, (u : Int)), (0, (cnt (fun i => smB S (w i + ap)) k0 : Int)), (0, (a0 : Int)), (0, (k0 : Int)), (9, 0)] [(0, snV ap S (cnt (fun i => smB S (w i + ap)) k0 : Int))] _
        refine ZE.istore (ls2 := [(2, h), (2, s), (0, (u : Int)), (0, (cnt (fun i => smB S (w i + ap)) k0 : Int)), (0, (a0 : Int)), (0, snV ap S (cnt (fun i => smB S (w i + ap)) k0 : Int)), (9, 0)]) d_Smo_saysTheSame_112 (Nat.le_of_ble_eq_true rfl) rfl ?_
        refine ZE.iload d_Smo_saysTheSame_114 rfl ?_
        refine ZE.iconst (n := (-1)) d_Smo_saysTheSame_116 ?_
        refine ZE.icmp_eq (tgt := 131) d_Smo_saysTheSame_117 rfl (by unfold zR; omega) (by unfold zR; omega) (fun c117 => ?_) (fun c117 => ?_)
        · refine ZE.iconst (n := 1) d_Smo_saysTheSame_131 ?_
          refine ZE.goto (tgt := 136) d_Smo_saysTheSame_132 rfl ?_
          refine ZE.zret d_Smo_saysTheSame_136 rfl (by omega) ?_
          rw [b2i_t (show sayV ap S u = true from ?_)] at k
          · exact k
          · unfold sayV; rw [hgt, hcn, Bool.true_and]; exact decide_eq_true (by omega)
        · refine ZE.iload d_Smo_saysTheSame_120 rfl ?_
          refine ZE.aload_n d_Smo_saysTheSame_122 rfl ?_
          refine ZE.getE (v := (ap : Int)) d_Smo_saysTheSame_123 f_Smo_77 (tg := 0) rfl hR.K.1 hR.F.2.2.2.2.2.2.2.2.1 ?_
          refine ZE.iadd d_Smo_saysTheSame_126 ?_
          refine ZE.iload_n d_Smo_saysTheSame_127 rfl ?_
          refine ZE.icmp_le (tgt := 135) d_Smo_saysTheSame_128 rfl (by unfold zR; omega) (by unfold zR; omega) (fun c128 => ?_) (fun c128 => ?_)
          · refine ZE.iconst (n := 0) d_Smo_saysTheSame_135 ?_
            refine ZE.zret d_Smo_saysTheSame_136 rfl (by omega) ?_
            rw [b2i_f (show ¬ sayV ap S u = true from ?_)] at k
            · exact k
            · unfold sayV; rw [hgt, hcn, Bool.true_and]; intro q; have := of_decide_eq_true q; omega
          · refine ZE.iconst (n := 1) d_Smo_saysTheSame_131 ?_
            refine ZE.goto (tgt := 136) d_Smo_saysTheSame_132 rfl ?_
            refine ZE.zret d_Smo_saysTheSame_136 rfl (by omega) ?_
            rw [b2i_t (show sayV ap S u = true from ?_)] at k
            · exact k
            · unfold sayV; rw [hgt, hcn, Bool.true_and]; exact decide_eq_true (by omega)
      · refine ZE.aload_n d_Smo_saysTheSame_17 rfl ?_
        refine ZE.iload d_Smo_saysTheSame_18 rfl ?_
        refine ZE.cV [(0, (k0 : Int))] [] [(2, h), (0, (k0 : Int))] d_Smo_saysTheSame_20 l_Smo_65 rfl rfl rfl rfl rfl rfl hK.1 ?_
        refine m_valueAt (d := d + 2) hK hQ.1 hQ.2.2.1 hM16 hQ.2.2.2.2.1 (i := (k0 : Int)) (by unfold zR; omega) ?_
        show ZE (d + 3) M_Smo_saysTheSame (gw G A) 23 [(2, h), (2, s), (0, (u : Int)), (0, (cnt (fun i => smB S (w i + ap)) k0 : Int)), (0, (a0 : Int)), (0, (k0 : Int)), (9, 0)] [(0, vlF w M (k0 : Int))] _
        rw [vlF_y (show k0 < M by omega)]
        have hwk := hSL.le (j := k0) (by omega)
        refine ZE.aload_n d_Smo_saysTheSame_23 rfl ?_
        refine ZE.getE (v := (ap : Int)) d_Smo_saysTheSame_24 f_Smo_77 (tg := 0) rfl hR.K.1 hR.F.2.2.2.2.2.2.2.2.1 ?_
        refine ZE.iadd d_Smo_saysTheSame_27 ?_
        rw [show ((w k0 : Int) + (ap : Int) : Int) = ((w k0 + ap : Nat) : Int) from (by omega)]
        refine ZE.iload_n d_Smo_saysTheSame_28 rfl ?_
        refine ZE.icmp_gt (tgt := 107) d_Smo_saysTheSame_29 rfl (by unfold zR; omega) (by unfold zR; omega) (fun c29 => ?_) (fun c29 => ?_)
        · have ha4 : ∀ i, i < k0 → w i ≤ u - ap := fun i hi => by have := hku i hi; omega
          have hb4 : ∀ i, k0 ≤ i → i < M → u - ap < w i := fun i hi hi2 => by
            have h1 := hSL.le hi2
            rcases Nat.eq_or_lt_of_le hi with z | z
            · subst z; omega
            · have := hSL.inc z hi2; omega
          have hcn : cnt (apB S ap) (u - ap) = cnt (fun i => smB S (w i + ap)) k0 := cntW (g := fun q => smB S (q + ap)) hSL.2.2.2 (u - ap) (by omega) (by omega) k0 hkM ha4 hb4
          have hgt : okG ap S (u - ap) = true := (okG_W hSL (u - ap) (by omega) k0 hkM ha4 hb4).mpr hok
          refine ZE.aload_n d_Smo_saysTheSame_107 rfl ?_
          refine ZE.iload_n d_Smo_saysTheSame_108 rfl ?_
          have hsR := snV_R hR.apx hR.s7 hR.p5 (cnt (fun i => smB S (w i + ap)) k0 : Int)
          refine ZE.cV [(0, (cnt (fun i => smB S (w i + ap)) k0 : Int))] [] [(2, s), (0, (cnt (fun i => smB S (w i + ap)) k0 : Int))] d_Smo_saysTheSame_109 l_Smo_82 rfl rfl rfl rfl rfl rfl hR.K.1 ?_
          refine s_smallAt (d := d) hR (p := (cnt (fun i => smB S (w i + ap)) k0 : Int)) (by unfold zR; omega) ?_
          show ZE (d + 3) M_Smo_saysTheSame (gw G A) 112 [(2, h), (2, s), (0, (u : Int)), (0, (cnt (fun i => smB S (w i + ap)) k0 : Int)), (0, (a0 : Int)), (0, (k0 : Int)), (9, 0)] [(0, snV ap S (cnt (fun i => smB S (w i + ap)) k0 : Int))] _
          refine ZE.istore (ls2 := [(2, h), (2, s), (0, (u : Int)), (0, (cnt (fun i => smB S (w i + ap)) k0 : Int)), (0, (a0 : Int)), (0, snV ap S (cnt (fun i => smB S (w i + ap)) k0 : Int)), (9, 0)]) d_Smo_saysTheSame_112 (Nat.le_of_ble_eq_true rfl) rfl ?_
          refine ZE.iload d_Smo_saysTheSame_114 rfl ?_
          refine ZE.iconst (n := (-1)) d_Smo_saysTheSame_116 ?_
          refine ZE.icmp_eq (tgt := 131) d_Smo_saysTheSame_117 rfl (by unfold zR; omega) (by unfold zR; omega) (fun c117 => ?_) (fun c117 => ?_)
          · refine ZE.iconst (n := 1) d_Smo_saysTheSame_131 ?_
            refine ZE.goto (tgt := 136) d_Smo_saysTheSame_132 rfl ?_
            refine ZE.zret d_Smo_saysTheSame_136 rfl (by omega) ?_
            rw [b2i_t (show sayV ap S u = true from ?_)] at k
            · exact k
            · unfold sayV; rw [hgt, hcn, Bool.true_and]; exact decide_eq_true (by omega)
          · refine ZE.iload d_Smo_saysTheSame_120 rfl ?_
            refine ZE.aload_n d_Smo_saysTheSame_122 rfl ?_
            refine ZE.getE (v := (ap : Int)) d_Smo_saysTheSame_123 f_Smo_77 (tg := 0) rfl hR.K.1 hR.F.2.2.2.2.2.2.2.2.1 ?_
            refine ZE.iadd d_Smo_saysTheSame_126 ?_
            refine ZE.iload_n d_Smo_saysTheSame_127 rfl ?_
            refine ZE.icmp_le (tgt := 135) d_Smo_saysTheSame_128 rfl (by unfold zR; omega) (by unfold zR; omega) (fun c128 => ?_) (fun c128 => ?_)
            · refine ZE.iconst (n := 0) d_Smo_saysTheSame_135 ?_
              refine ZE.zret d_Smo_saysTheSame_136 rfl (by omega) ?_
              rw [b2i_f (show ¬ sayV ap S u = true from ?_)] at k
              · exact k
              · unfold sayV; rw [hgt, hcn, Bool.true_and]; intro q; have := of_decide_eq_true q; omega
            · refine ZE.iconst (n := 1) d_Smo_saysTheSame_131 ?_
              refine ZE.goto (tgt := 136) d_Smo_saysTheSame_132 rfl ?_
              refine ZE.zret d_Smo_saysTheSame_136 rfl (by omega) ?_
              rw [b2i_t (show sayV ap S u = true from ?_)] at k
              · exact k
              · unfold sayV; rw [hgt, hcn, Bool.true_and]; exact decide_eq_true (by omega)
        · refine ZE.aload_n d_Smo_saysTheSame_32 rfl ?_
          refine ZE.iload d_Smo_saysTheSame_33 rfl ?_
          refine ZE.cV [(0, (k0 : Int))] [] [(2, h), (0, (k0 : Int))] d_Smo_saysTheSame_35 l_Smo_65 rfl rfl rfl rfl rfl rfl hK.1 ?_
          refine m_valueAt (d := d + 2) hK hQ.1 hQ.2.2.1 hM16 hQ.2.2.2.2.1 (i := (k0 : Int)) (by unfold zR; omega) ?_
          show ZE (d + 3) M_Smo_saysTheSame (gw G A) 38 [(2, h), (2, s), (0, (u : Int)), (0, (cnt (fun i => smB S (w i + ap)) k0 : Int)), (0, (a0 : Int)), (0, (k0 : Int)), (9, 0)] [(0, vlF w M (k0 : Int))] _
          rw [vlF_y (show k0 < M by omega)]
          refine ZE.aload_n d_Smo_saysTheSame_38 rfl ?_
          refine ZE.getE (v := (ap : Int)) d_Smo_saysTheSame_39 f_Smo_77 (tg := 0) rfl hR.K.1 hR.F.2.2.2.2.2.2.2.2.1 ?_
          refine ZE.iadd d_Smo_saysTheSame_42 ?_
          rw [show ((w k0 : Int) + (ap : Int) : Int) = ((w k0 + ap : Nat) : Int) from (by omega)]
          refine ZE.istore (ls2 := [(2, h), (2, s), (0, (u : Int)), (0, (cnt (fun i => smB S (w i + ap)) k0 : Int)), (0, (a0 : Int)), (0, (k0 : Int)), (0, ((w k0 + ap : Nat) : Int))]) d_Smo_saysTheSame_43 (Nat.le_of_ble_eq_true rfl) rfl ?_
          have L39 : ∀ (tt0 : Nat) (a1 : Nat) (ha1M : a1 ≤ M) (ha1 : ∀ i : Nat, i < a1 → w i < w k0 + ap), M + 1 - a1 < tt0 → ZE (d + 3) M_Smo_saysTheSame (gw G A) 45 [(2, h), (2, s), (0, (u : Int)), (0, (cnt (fun i => smB S (w i + ap)) k0 : Int)), (0, (a1 : Int)), (0, (k0 : Int)), (0, ((w k0 + ap : Nat) : Int))] [] P := by
            intro tt0
            induction tt0 with
            | zero => intro a1 ha1M ha1 hm; exact absurd hm (Nat.not_lt_zero _)
            | succ tt0 ih2 =>
              intro a1 ha1M ha1 hm
              refine ZE.iload d_Smo_saysTheSame_45 rfl ?_
              refine ZE.aload_n d_Smo_saysTheSame_47 rfl ?_
              refine ZE.getE (v := (M : Int)) d_Smo_saysTheSame_48 f_Smo_43 (tg := 0) rfl hK.1 hQ.2.2.1 ?_
              refine ZE.icmp_ge (tgt := 71) d_Smo_saysTheSame_51 rfl (by unfold zR; omega) (by unfold zR; omega) (fun c51 => ?_) (fun c51 => ?_)
              · have hfd := hSL.find (o := w k0 + ap) (a := a1) (by have := hSL.le (j := k0) (by omega); omega) ha1 (fun z => by first | omega | exact absurd z (by omega))
                refine ZE.aload_n d_Smo_saysTheSame_71 rfl ?_
                refine ZE.iload d_Smo_saysTheSame_72 rfl ?_
                refine ZE.cV [(0, (a1 : Int))] [] [(2, h), (0, (a1 : Int))] d_Smo_saysTheSame_74 l_Smo_65 rfl rfl rfl rfl rfl rfl hK.1 ?_
                refine m_valueAt (d := d + 2) hK hQ.1 hQ.2.2.1 hM16 hQ.2.2.2.2.1 (i := (a1 : Int)) (by unfold zR; omega) ?_
                show ZE (d + 3) M_Smo_saysTheSame (gw G A) 77 [(2, h), (2, s), (0, (u : Int)), (0, (cnt (fun i => smB S (w i + ap)) k0 : Int)), (0, (a1 : Int)), (0, (k0 : Int)), (0, ((w k0 + ap : Nat) : Int))] [(0, vlF w M (a1 : Int))] _
                have hvR : zR (vlF w M (a1 : Int)) := by
                  by_cases z : a1 < M
                  · rw [vlF_y z]; have := hSL.le z; unfold zR; omega
                  · rw [vlF_n z]; unfold zR; omega
                refine ZE.iload d_Smo_saysTheSame_77 rfl ?_
                refine ZE.icmp_ne (tgt := 101) d_Smo_saysTheSame_79 rfl hvR (by unfold zR; omega) (fun c79 => ?_) (fun c79 => ?_)
                · refine ZE.iinc (ls2 := [(2, h), (2, s), (0, (u : Int)), (0, (cnt (fun i => smB S (w i + ap)) k0 : Int)), (0, (a1 : Int)), (0, (k0 : Int) + 1), (0, ((w k0 + ap : Nat) : Int))]) d_Smo_saysTheSame_101 rfl rfl ?_
                  refine ZE.goto (tgt := 8) d_Smo_saysTheSame_104 rfl ?_
                  refine ZE.mask [true, true, true, true, true, true, false] ?_
                  show ZE (d + 3) M_Smo_saysTheSame (gw G A) 8 [(2, h), (2, s), (0, (u : Int)), (0, (cnt (fun i => smB S (w i + ap)) k0 : Int)), (0, (a1 : Int)), (0, (k0 : Int) + 1), (9, 0)] [] _
                  rw [show (k0 : Int) + 1 = ((k0 + 1 : Nat) : Int) by omega]
                  have hcs : cnt (fun i => smB S (w i + ap)) (k0 + 1) = cnt (fun i => smB S (w i + ap)) k0 := if_neg (fun q => by have := hfd.mpr q; omega)
                  rw [← hcs]
                  refine ih (k0 + 1) a1 (by omega) ha1M (fun i hi hi2 => ?_) (fun i hi => ?_) (fun i hi hi2 => ?_) (by omega)
                  · have h1 := ha1 i hi
                    have h2 := hSL.inc (show k0 < k0 + 1 by omega) hi2
                    omega
                  · rcases Nat.lt_or_ge i k0 with z | z
                    · exact hku i z
                    · have : i = k0 := by omega
                      subst this; omega
                  · rcases Nat.lt_or_ge i k0 with z | z
                    · exact hok i z hi2
                    · have : i = k0 := by omega
                      subst this
                      exact absurd (hfd.mpr hi2) (by omega)
                · refine ZE.aload_n d_Smo_saysTheSame_82 rfl ?_
                  refine ZE.iload_n d_Smo_saysTheSame_83 rfl ?_
                  have hsR := snV_R hR.apx hR.s7 hR.p5 (cnt (fun i => smB S (w i + ap)) k0 : Int)
                  refine ZE.cV [(0, (cnt (fun i => smB S (w i + ap)) k0 : Int))] [] [(2, s), (0, (cnt (fun i => smB S (w i + ap)) k0 : Int))] d_Smo_saysTheSame_84 l_Smo_82 rfl rfl rfl rfl rfl rfl hR.K.1 ?_
                  refine s_smallAt (d := d) hR (p := (cnt (fun i => smB S (w i + ap)) k0 : Int)) (by unfold zR; omega) ?_
                  show ZE (d + 3) M_Smo_saysTheSame (gw G A) 87 [(2, h), (2, s), (0, (u : Int)), (0, (cnt (fun i => smB S (w i + ap)) k0 : Int)), (0, (a1 : Int)), (0, (k0 : Int)), (0, ((w k0 + ap : Nat) : Int))] [(0, snV ap S (cnt (fun i => smB S (w i + ap)) k0 : Int))] _
                  refine ZE.aload_n d_Smo_saysTheSame_87 rfl ?_
                  refine ZE.iload d_Smo_saysTheSame_88 rfl ?_
                  refine ZE.cV [(0, (k0 : Int))] [(0, snV ap S (cnt (fun i => smB S (w i + ap)) k0 : Int))] [(2, h), (0, (k0 : Int))] d_Smo_saysTheSame_90 l_Smo_65 rfl rfl rfl rfl rfl rfl hK.1 ?_
                  refine m_valueAt (d := d + 2) hK hQ.1 hQ.2.2.1 hM16 hQ.2.2.2.2.1 (i := (k0 : Int)) (by unfold zR; omega) ?_
                  show ZE (d + 3) M_Smo_saysTheSame (gw G A) 93 [(2, h), (2, s), (0, (u : Int)), (0, (cnt (fun i => smB S (w i + ap)) k0 : Int)), (0, (a1 : Int)), (0, (k0 : Int)), (0, ((w k0 + ap : Nat) : Int))] [(0, vlF w M (k0 : Int)), (0, snV ap S (cnt (fun i => smB S (w i + ap)) k0 : Int))] _
                  rw [vlF_y (show k0 < M by omega)]
                  refine ZE.icmp_eq (tgt := 98) d_Smo_saysTheSame_93 rfl (by unfold zR; omega) (by unfold zR; omega) (fun c93 => ?_) (fun c93 => ?_)
                  · refine ZE.iinc (ls2 := [(2, h), (2, s), (0, (u : Int)), (0, (cnt (fun i => smB S (w i + ap)) k0 : Int) + 1), (0, (a1 : Int)), (0, (k0 : Int)), (0, ((w k0 + ap : Nat) : Int))]) d_Smo_saysTheSame_98 rfl rfl ?_
                    refine ZE.iinc (ls2 := [(2, h), (2, s), (0, (u : Int)), (0, (cnt (fun i => smB S (w i + ap)) k0 : Int) + 1), (0, (a1 : Int)), (0, (k0 : Int) + 1), (0, ((w k0 + ap : Nat) : Int))]) d_Smo_saysTheSame_101 rfl rfl ?_
                    refine ZE.goto (tgt := 8) d_Smo_saysTheSame_104 rfl ?_
                    refine ZE.mask [true, true, true, true, true, true, false] ?_
                    show ZE (d + 3) M_Smo_saysTheSame (gw G A) 8 [(2, h), (2, s), (0, (u : Int)), (0, (cnt (fun i => smB S (w i + ap)) k0 : Int) + 1), (0, (a1 : Int)), (0, (k0 : Int) + 1), (9, 0)] [] _
                    rw [show (k0 : Int) + 1 = ((k0 + 1 : Nat) : Int) by omega]
                    have hcs : cnt (fun i => smB S (w i + ap)) (k0 + 1) = cnt (fun i => smB S (w i + ap)) k0 + 1 := if_pos (hfd.mp (by omega))
                    rw [show (cnt (fun i => smB S (w i + ap)) k0 : Int) + 1 = (cnt (fun i => smB S (w i + ap)) (k0 + 1) : Int) by omega]
                    refine ih (k0 + 1) a1 (by omega) ha1M (fun i hi hi2 => ?_) (fun i hi => ?_) (fun i hi hi2 => ?_) (by omega)
                    · have h1 := ha1 i hi
                      have h2 := hSL.inc (show k0 < k0 + 1 by omega) hi2
                      omega
                    · rcases Nat.lt_or_ge i k0 with z | z
                      · exact hku i z
                      · have : i = k0 := by omega
                        subst this; omega
                    · rcases Nat.lt_or_ge i k0 with z | z
                      · exact hok i z hi2
                      · have : i = k0 := by omega
                        subst this
                        omega
                  · refine ZE.iconst (n := 0) d_Smo_saysTheSame_96 ?_
                    refine ZE.zret d_Smo_saysTheSame_97 rfl (by omega) ?_
                    have hno : ¬ sayV ap S u = true := fun q => by
                      unfold sayV at q
                      rw [Bool.and_eq_true] at q
                      obtain ⟨j, j1, j2, j3⟩ := hSL.pos (u - ap) M (Nat.le_refl _)
                      have hkj : k0 < j := by
                        rcases Nat.lt_or_ge k0 j with z | z
                        · exact z
                        · have := j3 k0 z (by omega); omega
                      have := (okG_W hSL (u - ap) (by omega) j j1 j2 j3).mp q.1 k0 hkj (hfd.mp (by omega))
                      omega
                    rw [b2i_f hno] at k
                    exact k
              · refine ZE.aload_n d_Smo_saysTheSame_54 rfl ?_
                refine ZE.iload d_Smo_saysTheSame_55 rfl ?_
                refine ZE.cV [(0, (a1 : Int))] [] [(2, h), (0, (a1 : Int))] d_Smo_saysTheSame_57 l_Smo_65 rfl rfl rfl rfl rfl rfl hK.1 ?_
                refine m_valueAt (d := d + 2) hK hQ.1 hQ.2.2.1 hM16 hQ.2.2.2.2.1 (i := (a1 : Int)) (by unfold zR; omega) ?_
                show ZE (d + 3) M_Smo_saysTheSame (gw G A) 60 [(2, h), (2, s), (0, (u : Int)), (0, (cnt (fun i => smB S (w i + ap)) k0 : Int)), (0, (a1 : Int)), (0, (k0 : Int)), (0, ((w k0 + ap : Nat) : Int))] [(0, vlF w M (a1 : Int))] _
                rw [vlF_y (show a1 < M by omega)]
                have hwa := hSL.le (j := a1) (by omega)
                refine ZE.iload d_Smo_saysTheSame_60 rfl ?_
                refine ZE.icmp_ge (tgt := 71) d_Smo_saysTheSame_62 rfl (by unfold zR; omega) (by unfold zR; omega) (fun c62 => ?_) (fun c62 => ?_)
                · have hfd := hSL.find (o := w k0 + ap) (a := a1) (by have := hSL.le (j := k0) (by omega); omega) ha1 (fun z => by first | omega | exact absurd z (by omega))
                  refine ZE.aload_n d_Smo_saysTheSame_71 rfl ?_
                  refine ZE.iload d_Smo_saysTheSame_72 rfl ?_
                  refine ZE.cV [(0, (a1 : Int))] [] [(2, h), (0, (a1 : Int))] d_Smo_saysTheSame_74 l_Smo_65 rfl rfl rfl rfl rfl rfl hK.1 ?_
                  refine m_valueAt (d := d + 2) hK hQ.1 hQ.2.2.1 hM16 hQ.2.2.2.2.1 (i := (a1 : Int)) (by unfold zR; omega) ?_
                  show ZE (d + 3) M_Smo_saysTheSame (gw G A) 77 [(2, h), (2, s), (0, (u : Int)), (0, (cnt (fun i => smB S (w i + ap)) k0 : Int)), (0, (a1 : Int)), (0, (k0 : Int)), (0, ((w k0 + ap : Nat) : Int))] [(0, vlF w M (a1 : Int))] _
                  have hvR : zR (vlF w M (a1 : Int)) := by
                    by_cases z : a1 < M
                    · rw [vlF_y z]; have := hSL.le z; unfold zR; omega
                    · rw [vlF_n z]; unfold zR; omega
                  refine ZE.iload d_Smo_saysTheSame_77 rfl ?_
                  refine ZE.icmp_ne (tgt := 101) d_Smo_saysTheSame_79 rfl hvR (by unfold zR; omega) (fun c79 => ?_) (fun c79 => ?_)
                  · refine ZE.iinc (ls2 := [(2, h), (2, s), (0, (u : Int)), (0, (cnt (fun i => smB S (w i + ap)) k0 : Int)), (0, (a1 : Int)), (0, (k0 : Int) + 1), (0, ((w k0 + ap : Nat) : Int))]) d_Smo_saysTheSame_101 rfl rfl ?_
                    refine ZE.goto (tgt := 8) d_Smo_saysTheSame_104 rfl ?_
                    refine ZE.mask [true, true, true, true, true, true, false] ?_
                    show ZE (d + 3) M_Smo_saysTheSame (gw G A) 8 [(2, h), (2, s), (0, (u : Int)), (0, (cnt (fun i => smB S (w i + ap)) k0 : Int)), (0, (a1 : Int)), (0, (k0 : Int) + 1), (9, 0)] [] _
                    rw [show (k0 : Int) + 1 = ((k0 + 1 : Nat) : Int) by omega]
                    have hcs : cnt (fun i => smB S (w i + ap)) (k0 + 1) = cnt (fun i => smB S (w i + ap)) k0 := if_neg (fun q => by have := hfd.mpr q; omega)
                    rw [← hcs]
                    refine ih (k0 + 1) a1 (by omega) ha1M (fun i hi hi2 => ?_) (fun i hi => ?_) (fun i hi hi2 => ?_) (by omega)
                    · have h1 := ha1 i hi
                      have h2 := hSL.inc (show k0 < k0 + 1 by omega) hi2
                      omega
                    · rcases Nat.lt_or_ge i k0 with z | z
                      · exact hku i z
                      · have : i = k0 := by omega
                        subst this; omega
                    · rcases Nat.lt_or_ge i k0 with z | z
                      · exact hok i z hi2
                      · have : i = k0 := by omega
                        subst this
                        exact absurd (hfd.mpr hi2) (by omega)
                  · refine ZE.aload_n d_Smo_saysTheSame_82 rfl ?_
                    refine ZE.iload_n d_Smo_saysTheSame_83 rfl ?_
                    have hsR := snV_R hR.apx hR.s7 hR.p5 (cnt (fun i => smB S (w i + ap)) k0 : Int)
                    refine ZE.cV [(0, (cnt (fun i => smB S (w i + ap)) k0 : Int))] [] [(2, s), (0, (cnt (fun i => smB S (w i + ap)) k0 : Int))] d_Smo_saysTheSame_84 l_Smo_82 rfl rfl rfl rfl rfl rfl hR.K.1 ?_
                    refine s_smallAt (d := d) hR (p := (cnt (fun i => smB S (w i + ap)) k0 : Int)) (by unfold zR; omega) ?_
                    show ZE (d + 3) M_Smo_saysTheSame (gw G A) 87 [(2, h), (2, s), (0, (u : Int)), (0, (cnt (fun i => smB S (w i + ap)) k0 : Int)), (0, (a1 : Int)), (0, (k0 : Int)), (0, ((w k0 + ap : Nat) : Int))] [(0, snV ap S (cnt (fun i => smB S (w i + ap)) k0 : Int))] _
                    refine ZE.aload_n d_Smo_saysTheSame_87 rfl ?_
                    refine ZE.iload d_Smo_saysTheSame_88 rfl ?_
                    refine ZE.cV [(0, (k0 : Int))] [(0, snV ap S (cnt (fun i => smB S (w i + ap)) k0 : Int))] [(2, h), (0, (k0 : Int))] d_Smo_saysTheSame_90 l_Smo_65 rfl rfl rfl rfl rfl rfl hK.1 ?_
                    refine m_valueAt (d := d + 2) hK hQ.1 hQ.2.2.1 hM16 hQ.2.2.2.2.1 (i := (k0 : Int)) (by unfold zR; omega) ?_
                    show ZE (d + 3) M_Smo_saysTheSame (gw G A) 93 [(2, h), (2, s), (0, (u : Int)), (0, (cnt (fun i => smB S (w i + ap)) k0 : Int)), (0, (a1 : Int)), (0, (k0 : Int)), (0, ((w k0 + ap : Nat) : Int))] [(0, vlF w M (k0 : Int)), (0, snV ap S (cnt (fun i => smB S (w i + ap)) k0 : Int))] _
                    rw [vlF_y (show k0 < M by omega)]
                    refine ZE.icmp_eq (tgt := 98) d_Smo_saysTheSame_93 rfl (by unfold zR; omega) (by unfold zR; omega) (fun c93 => ?_) (fun c93 => ?_)
                    · refine ZE.iinc (ls2 := [(2, h), (2, s), (0, (u : Int)), (0, (cnt (fun i => smB S (w i + ap)) k0 : Int) + 1), (0, (a1 : Int)), (0, (k0 : Int)), (0, ((w k0 + ap : Nat) : Int))]) d_Smo_saysTheSame_98 rfl rfl ?_
                      refine ZE.iinc (ls2 := [(2, h), (2, s), (0, (u : Int)), (0, (cnt (fun i => smB S (w i + ap)) k0 : Int) + 1), (0, (a1 : Int)), (0, (k0 : Int) + 1), (0, ((w k0 + ap : Nat) : Int))]) d_Smo_saysTheSame_101 rfl rfl ?_
                      refine ZE.goto (tgt := 8) d_Smo_saysTheSame_104 rfl ?_
                      refine ZE.mask [true, true, true, true, true, true, false] ?_
                      show ZE (d + 3) M_Smo_saysTheSame (gw G A) 8 [(2, h), (2, s), (0, (u : Int)), (0, (cnt (fun i => smB S (w i + ap)) k0 : Int) + 1), (0, (a1 : Int)), (0, (k0 : Int) + 1), (9, 0)] [] _
                      rw [show (k0 : Int) + 1 = ((k0 + 1 : Nat) : Int) by omega]
                      have hcs : cnt (fun i => smB S (w i + ap)) (k0 + 1) = cnt (fun i => smB S (w i + ap)) k0 + 1 := if_pos (hfd.mp (by omega))
                      rw [show (cnt (fun i => smB S (w i + ap)) k0 : Int) + 1 = (cnt (fun i => smB S (w i + ap)) (k0 + 1) : Int) by omega]
                      refine ih (k0 + 1) a1 (by omega) ha1M (fun i hi hi2 => ?_) (fun i hi => ?_) (fun i hi hi2 => ?_) (by omega)
                      · have h1 := ha1 i hi
                        have h2 := hSL.inc (show k0 < k0 + 1 by omega) hi2
                        omega
                      · rcases Nat.lt_or_ge i k0 with z | z
                        · exact hku i z
                        · have : i = k0 := by omega
                          subst this; omega
                      · rcases Nat.lt_or_ge i k0 with z | z
                        · exact hok i z hi2
                        · have : i = k0 := by omega
                          subst this
                          omega
                    · refine ZE.iconst (n := 0) d_Smo_saysTheSame_96 ?_
                      refine ZE.zret d_Smo_saysTheSame_97 rfl (by omega) ?_
                      have hno : ¬ sayV ap S u = true := fun q => by
                        unfold sayV at q
                        rw [Bool.and_eq_true] at q
                        obtain ⟨j, j1, j2, j3⟩ := hSL.pos (u - ap) M (Nat.le_refl _)
                        have hkj : k0 < j := by
                          rcases Nat.lt_or_ge k0 j with z | z
                          · exact z
                          · have := j3 k0 z (by omega); omega
                        have := (okG_W hSL (u - ap) (by omega) j j1 j2 j3).mp q.1 k0 hkj (hfd.mp (by omega))
                        omega
                      rw [b2i_f hno] at k
                      exact k
                · refine ZE.iinc (ls2 := [(2, h), (2, s), (0, (u : Int)), (0, (cnt (fun i => smB S (w i + ap)) k0 : Int)), (0, (a1 : Int) + 1), (0, (k0 : Int)), (0, ((w k0 + ap : Nat) : Int))]) d_Smo_saysTheSame_65 rfl rfl ?_
                  refine ZE.goto (tgt := 45) d_Smo_saysTheSame_68 rfl ?_
                  rw [show (a1 : Int) + 1 = ((a1 + 1 : Nat) : Int) by omega]
                  refine ih2 (a1 + 1) (by omega) (fun i hi => ?_) (by omega)
                  rcases Nat.lt_or_ge i a1 with z | z
                  · exact ha1 i z
                  · have : i = a1 := by omega
                    subst this; omega
          exact L39 _ a0 haM (fun i hi => ha i hi (by omega)) (Nat.lt_succ_self _)
  exact L8 _ 0 0 (Nat.zero_le _) (Nat.zero_le _) (fun i h => absurd h (Nat.not_lt_zero _)) (fun i h => absurd h (Nat.not_lt_zero _)) (fun i h => absurd h (Nat.not_lt_zero _)) (Nat.lt_succ_self _)
set_option maxRecDepth 20000 in
set_option maxHeartbeats 4000000 in
theorem m_widest {d : Nat} {G : zG} {A : Int → Int → Int} {P : Option zV → zG → Prop} {h : Int} (hK : mK G h) {S : Nat} {w : Nat → Nat} {M : Nat} (hQ : mS A h S w M) {u : Nat} (hu : u ≤ 200000) {wh : Int} (hwh : wh = 0 ∨ wh = 1) (k1w : wh = 1 → P (some (0, (gpF S (u - 1)).2.1)) (gw G A)) (k : wh = 0 → P (some (0, (gpF S (u - 1)).2.2)) (gw G A)) : ZE (d + 1) M_Smo_widest (gw G A) 0 [(2, h), (0, (u : Int)), (0, wh), (9, 0), (9, 0), (9, 0), (9, 0)] [] P := by
  have hSL := hQ.2.2.2.1
  have hM16 := hSL.2.1
  have hM1 := hSL.1
  have k0w := k
  refine ZE.iconst (n := (-1)) d_Smo_widest_0 ?_
  refine ZE.istore_n (ls2 := [(2, h), (0, (u : Int)), (0, wh), (0, (-1)), (9, 0), (9, 0), (9, 0)]) d_Smo_widest_1 (Nat.le_of_ble_eq_true rfl) rfl ?_
  refine ZE.iconst (n := (-1)) d_Smo_widest_2 ?_
  refine ZE.istore (ls2 := [(2, h), (0, (u : Int)), (0, wh), (0, (-1)), (0, (-1)), (9, 0), (9, 0)]) d_Smo_widest_3 (Nat.le_of_ble_eq_true rfl) rfl ?_
  refine ZE.iconst (n := 1) d_Smo_widest_5 ?_
  refine ZE.istore (ls2 := [(2, h), (0, (u : Int)), (0, wh), (0, (-1)), (0, (-1)), (0, 1), (9, 0)]) d_Smo_widest_6 (Nat.le_of_ble_eq_true rfl) rfl ?_
  have L8 : ∀ (tt0 : Nat) (k0 : Nat) (hkM : k0 + 1 ≤ M) (hku : ∀ i : Nat, 1 ≤ i → i < k0 + 1 → w i ≤ u), M + 1 - k0 < tt0 → ZE (d + 1) M_Smo_widest (gw G A) 8 [(2, h), (0, (u : Int)), (0, wh), (0, (gpW w (k0 + 1)).1), (0, (gpW w (k0 + 1)).2), (0, ((k0 + 1 : Nat) : Int)), (9, 0)] [] P := by
    intro tt0
    induction tt0 with
    | zero => intro k0 hkM hku hm; exact absurd hm (Nat.not_lt_zero _)
    | succ tt0 ih =>
      intro k0 hkM hku hm
      have hgR := gpW_R hSL (k0 + 1) hkM
      have hgs : gpW w (k0 + 1 + 1) = if (gpW w (k0 + 1)).1 < (w (k0 + 1) : Int) - w k0 then ((w (k0 + 1) : Int) - w k0, (w k0 : Int)) else gpW w (k0 + 1) := by
        show (if k0 + 1 = 0 then _ else if (gpW w (k0 + 1)).1 < (w (k0 + 1) : Int) - w (k0 + 1 - 1) then ((w (k0 + 1) : Int) - w (k0 + 1 - 1), (w (k0 + 1 - 1) : Int)) else gpW w (k0 + 1)) = _
        rw [if_neg (Nat.succ_ne_zero _), Nat.add_sub_cancel]
      refine ZE.iload d_Smo_widest_8 rfl ?_
      refine ZE.aload_n d_Smo_widest_10 rfl ?_
      refine ZE.getE (v := (M : Int)) d_Smo_widest_11 f_Smo_43 (tg := 0) rfl hK.1 hQ.2.2.1 ?_
      refine ZE.icmp_ge (tgt := 69) d_Smo_widest_14 rfl (by unfold zR; omega) (by unfold zR; omega) (fun c14 => ?_) (fun c14 => ?_)
      · refine ZE.iload_n d_Smo_widest_69 rfl ?_
        refine ZE.if_eq (tgt := 77) d_Smo_widest_70 rfl (by unfold zR; omega) (fun c70 => ?_) (fun c70 => ?_)
        · refine ZE.iload d_Smo_widest_77 rfl ?_
          refine ZE.iret d_Smo_widest_79 rfl ?_
          have hfin : gpF S (u - 1) = ((w k0 : Int), gpW w (k0 + 1)) := by
            refine gpF_W hSL (u - 1) (by omega) k0 (by omega) (fun i hi => ?_) (fun i hi hi2 => ?_)
            · rcases Nat.eq_zero_or_pos i with z | z
              · subst z; rw [hSL.2.2.1]; omega
              · have := hku i z hi; have := hSL.w1 z (show i < M by omega); omega
            · have h1 := hSL.w1 (show 1 ≤ i by omega) hi2
              rcases Nat.eq_or_lt_of_le hi with z | z
              · subst z; omega
              · have := hSL.inc z hi2; omega
          have k1 := k0w (by omega)
          rw [hfin] at k1
          exact k1
        · refine ZE.iload_n d_Smo_widest_73 rfl ?_
          refine ZE.goto (tgt := 79) d_Smo_widest_74 rfl ?_
          refine ZE.iret d_Smo_widest_79 rfl ?_
          have hfin : gpF S (u - 1) = ((w k0 : Int), gpW w (k0 + 1)) := by
            refine gpF_W hSL (u - 1) (by omega) k0 (by omega) (fun i hi => ?_) (fun i hi hi2 => ?_)
            · rcases Nat.eq_zero_or_pos i with z | z
              · subst z; rw [hSL.2.2.1]; omega
              · have := hku i z hi; have := hSL.w1 z (show i < M by omega); omega
            · have h1 := hSL.w1 (show 1 ≤ i by omega) hi2
              rcases Nat.eq_or_lt_of_le hi with z | z
              · subst z; omega
              · have := hSL.inc z hi2; omega
          have k1 := k1w (by omega)
          rw [hfin] at k1
          exact k1
      · refine ZE.aload_n d_Smo_widest_17 rfl ?_
        refine ZE.iload d_Smo_widest_18 rfl ?_
        refine ZE.cV [(0, ((k0 + 1 : Nat) : Int))] [] [(2, h), (0, ((k0 + 1 : Nat) : Int))] d_Smo_widest_20 l_Smo_65 rfl rfl rfl rfl rfl rfl hK.1 ?_
        refine m_valueAt (d := d) hK hQ.1 hQ.2.2.1 hM16 hQ.2.2.2.2.1 (i := ((k0 + 1 : Nat) : Int)) (by unfold zR; omega) ?_
        show ZE (d + 1) M_Smo_widest (gw G A) 23 [(2, h), (0, (u : Int)), (0, wh), (0, (gpW w (k0 + 1)).1), (0, (gpW w (k0 + 1)).2), (0, ((k0 + 1 : Nat) : Int)), (9, 0)] [(0, vlF w M ((k0 + 1 : Nat) : Int))] _
        rw [vlF_y (show k0 + 1 < M by omega)]
        have hwk := hSL.le (j := k0 + 1) (by omega)
        have hw0 := hSL.le (j := k0) (by omega)
        refine ZE.iload_n d_Smo_widest_23 rfl ?_
        refine ZE.icmp_gt (tgt := 69) d_Smo_widest_24 rfl (by unfold zR; omega) (by unfold zR; omega) (fun c24 => ?_) (fun c24 => ?_)
        · refine ZE.iload_n d_Smo_widest_69 rfl ?_
          refine ZE.if_eq (tgt := 77) d_Smo_widest_70 rfl (by unfold zR; omega) (fun c70 => ?_) (fun c70 => ?_)
          · refine ZE.iload d_Smo_widest_77 rfl ?_
            refine ZE.iret d_Smo_widest_79 rfl ?_
            have hfin : gpF S (u - 1) = ((w k0 : Int), gpW w (k0 + 1)) := by
              refine gpF_W hSL (u - 1) (by omega) k0 (by omega) (fun i hi => ?_) (fun i hi hi2 => ?_)
              · rcases Nat.eq_zero_or_pos i with z | z
                · subst z; rw [hSL.2.2.1]; omega
                · have := hku i z hi; have := hSL.w1 z (show i < M by omega); omega
              · have h1 := hSL.w1 (show 1 ≤ i by omega) hi2
                rcases Nat.eq_or_lt_of_le hi with z | z
                · subst z; omega
                · have := hSL.inc z hi2; omega
            have k1 := k0w (by omega)
            rw [hfin] at k1
            exact k1
          · refine ZE.iload_n d_Smo_widest_73 rfl ?_
            refine ZE.goto (tgt := 79) d_Smo_widest_74 rfl ?_
            refine ZE.iret d_Smo_widest_79 rfl ?_
            have hfin : gpF S (u - 1) = ((w k0 : Int), gpW w (k0 + 1)) := by
              refine gpF_W hSL (u - 1) (by omega) k0 (by omega) (fun i hi => ?_) (fun i hi hi2 => ?_)
              · rcases Nat.eq_zero_or_pos i with z | z
                · subst z; rw [hSL.2.2.1]; omega
                · have := hku i z hi; have := hSL.w1 z (show i < M by omega); omega
              · have h1 := hSL.w1 (show 1 ≤ i by omega) hi2
                rcases Nat.eq_or_lt_of_le hi with z | z
                · subst z; omega
                · have := hSL.inc z hi2; omega
            have k1 := k1w (by omega)
            rw [hfin] at k1
            exact k1
        · refine ZE.aload_n d_Smo_widest_27 rfl ?_
          refine ZE.iload d_Smo_widest_28 rfl ?_
          refine ZE.cV [(0, ((k0 + 1 : Nat) : Int))] [] [(2, h), (0, ((k0 + 1 : Nat) : Int))] d_Smo_widest_30 l_Smo_65 rfl rfl rfl rfl rfl rfl hK.1 ?_
          refine m_valueAt (d := d) hK hQ.1 hQ.2.2.1 hM16 hQ.2.2.2.2.1 (i := ((k0 + 1 : Nat) : Int)) (by unfold zR; omega) ?_
          show ZE (d + 1) M_Smo_widest (gw G A) 33 [(2, h), (0, (u : Int)), (0, wh), (0, (gpW w (k0 + 1)).1), (0, (gpW w (k0 + 1)).2), (0, ((k0 + 1 : Nat) : Int)), (9, 0)] [(0, vlF w M ((k0 + 1 : Nat) : Int))] _
          rw [vlF_y (show k0 + 1 < M by omega)]
          refine ZE.aload_n d_Smo_widest_33 rfl ?_
          refine ZE.iload d_Smo_widest_34 rfl ?_
          refine ZE.iconst (n := 1) d_Smo_widest_36 ?_
          refine ZE.isub d_Smo_widest_37 ?_
          rw [show (((k0 + 1 : Nat) : Int) - 1 : Int) = (k0 : Int) from (by omega)]
          refine ZE.cV [(0, (k0 : Int))] [(0, (w (k0 + 1) : Int))] [(2, h), (0, (k0 : Int))] d_Smo_widest_38 l_Smo_65 rfl rfl rfl rfl rfl rfl hK.1 ?_
          refine m_valueAt (d := d) hK hQ.1 hQ.2.2.1 hM16 hQ.2.2.2.2.1 (i := (k0 : Int)) (by unfold zR; omega) ?_
          show ZE (d + 1) M_Smo_widest (gw G A) 41 [(2, h), (0, (u : Int)), (0, wh), (0, (gpW w (k0 + 1)).1), (0, (gpW w (k0 + 1)).2), (0, ((k0 + 1 : Nat) : Int)), (9, 0)] [(0, vlF w M (k0 : Int)), (0, (w (k0 + 1) : Int))] _
          rw [vlF_y (show k0 < M by omega)]
          refine ZE.isub d_Smo_widest_41 ?_
          refine ZE.istore (ls2 := [(2, h), (0, (u : Int)), (0, wh), (0, (gpW w (k0 + 1)).1), (0, (gpW w (k0 + 1)).2), (0, ((k0 + 1 : Nat) : Int)), (0, (w (k0 + 1) : Int) - (w k0 : Int))]) d_Smo_widest_42 (Nat.le_of_ble_eq_true rfl) rfl ?_
          refine ZE.iload d_Smo_widest_44 rfl ?_
          refine ZE.iload_n d_Smo_widest_46 rfl ?_
          refine ZE.icmp_le (tgt := 63) d_Smo_widest_47 rfl (by unfold zR; omega) (by unfold zR; omega) (fun c47 => ?_) (fun c47 => ?_)
          · refine ZE.iinc (ls2 := [(2, h), (0, (u : Int)), (0, wh), (0, (gpW w (k0 + 1)).1), (0, (gpW w (k0 + 1)).2), (0, ((k0 + 1 : Nat) : Int) + 1), (0, (w (k0 + 1) : Int) - (w k0 : Int))]) d_Smo_widest_63 rfl rfl ?_
            refine ZE.goto (tgt := 8) d_Smo_widest_66 rfl ?_
            refine ZE.mask [true, true, true, true, true, true, false] ?_
            show ZE (d + 1) M_Smo_widest (gw G A) 8 [(2, h), (0, (u : Int)), (0, wh), (0, (gpW w (k0 + 1)).1), (0, (gpW w (k0 + 1)).2), (0, ((k0 + 1 : Nat) : Int) + 1), (9, 0)] [] _
            rw [show ((k0 + 1 : Nat) : Int) + 1 = ((k0 + 1 + 1 : Nat) : Int) by omega]
            have hg : gpW w (k0 + 1 + 1) = gpW w (k0 + 1) := by rw [hgs, if_neg (by omega)]
            rw [← hg]
            refine ih (k0 + 1) (by omega) (fun i hi1 hi2 => ?_) (by omega)
            rcases Nat.lt_or_ge i (k0 + 1) with z | z
            · exact hku i hi1 z
            · have : i = k0 + 1 := by omega
              subst this; omega
          · refine ZE.iload d_Smo_widest_50 rfl ?_
            refine ZE.istore_n (ls2 := [(2, h), (0, (u : Int)), (0, wh), (0, (w (k0 + 1) : Int) - (w k0 : Int)), (0, (gpW w (k0 + 1)).2), (0, ((k0 + 1 : Nat) : Int)), (0, (w (k0 + 1) : Int) - (w k0 : Int))]) d_Smo_widest_52 (Nat.le_of_ble_eq_true rfl) rfl ?_
            refine ZE.aload_n d_Smo_widest_53 rfl ?_
            refine ZE.iload d_Smo_widest_54 rfl ?_
            refine ZE.iconst (n := 1) d_Smo_widest_56 ?_
            refine ZE.isub d_Smo_widest_57 ?_
            rw [show (((k0 + 1 : Nat) : Int) - 1 : Int) = (k0 : Int) from (by omega)]
            refine ZE.cV [(0, (k0 : Int))] [] [(2, h), (0, (k0 : Int))] d_Smo_widest_58 l_Smo_65 rfl rfl rfl rfl rfl rfl hK.1 ?_
            refine m_valueAt (d := d) hK hQ.1 hQ.2.2.1 hM16 hQ.2.2.2.2.1 (i := (k0 : Int)) (by unfold zR; omega) ?_
            show ZE (d + 1) M_Smo_widest (gw G A) 61 [(2, h), (0, (u : Int)), (0, wh), (0, (w (k0 + 1) : Int) - (w k0 : Int)), (0, (gpW w (k0 + 1)).2), (0, ((k0 + 1 : Nat) : Int)), (0, (w (k0 + 1) : Int) - (w k0 : Int))] [(0, vlF w M (k0 : Int))] _
            rw [vlF_y (show k0 < M by omega)]
            refine ZE.istore (ls2 := [(2, h), (0, (u : Int)), (0, wh), (0, (w (k0 + 1) : Int) - (w k0 : Int)), (0, (w k0 : Int)), (0, ((k0 + 1 : Nat) : Int)), (0, (w (k0 + 1) : Int) - (w k0 : Int))]) d_Smo_widest_61 (Nat.le_of_ble_eq_true rfl) rfl ?_
            refine ZE.iinc (ls2 := [(2, h), (0, (u : Int)), (0, wh), (0, (w (k0 + 1) : Int) - (w k0 : Int)), (0, (w k0 : Int)), (0, ((k0 + 1 : Nat) : Int) + 1), (0, (w (k0 + 1) : Int) - (w k0 : Int))]) d_Smo_widest_63 rfl rfl ?_
            refine ZE.goto (tgt := 8) d_Smo_widest_66 rfl ?_
            refine ZE.mask [true, true, true, true, true, true, false] ?_
            show ZE (d + 1) M_Smo_widest (gw G A) 8 [(2, h), (0, (u : Int)), (0, wh), (0, (w (k0 + 1) : Int) - (w k0 : Int)), (0, (w k0 : Int)), (0, ((k0 + 1 : Nat) : Int) + 1), (9, 0)] [] _
            rw [show ((k0 + 1 : Nat) : Int) + 1 = ((k0 + 1 + 1 : Nat) : Int) by omega]
            have hg : gpW w (k0 + 1 + 1) = ((w (k0 + 1) : Int) - w k0, (w k0 : Int)) := by rw [hgs, if_pos (by omega)]
            have hg1 : (w (k0 + 1) : Int) - (w k0 : Int) = (gpW w (k0 + 1 + 1)).1 := by rw [hg]
            have hg2 : (w k0 : Int) = (gpW w (k0 + 1 + 1)).2 := by rw [hg]
            rw [hg1, hg2]
            refine ih (k0 + 1) (by omega) (fun i hi1 hi2 => ?_) (by omega)
            rcases Nat.lt_or_ge i (k0 + 1) with z | z
            · exact hku i hi1 z
            · have : i = k0 + 1 := by omega
              subst this; omega
  exact L8 _ 0 (by omega) (fun i a b => by omega) (Nat.lt_succ_self _)
