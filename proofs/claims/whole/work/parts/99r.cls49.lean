def gob (S i : Nat) : Bool := decide (1 ≤ i ∧ i < (prs S).length ∧ pN S i = pN S (i - 1) + 1)
def stB (S i : Nat) : Bool := gob S (i + 1) && !gob S i
def stL (f : Nat → Bool) : Nat → Nat → List Nat
  | _, 0 => []
  | a, n + 1 => if f a = true then a :: stL f (a + 1) n else stL f (a + 1) n
def thF (f : Nat → Bool) : Nat → Nat → Nat → Int
  | _, _, 0 => -1
  | l, a, n + 1 => if f a = true then (if l = 0 then (a : Int) else thF f (l - 1) (a + 1) n) else thF f l (a + 1) n
theorem stL_skip {f : Nat → Bool} {m : Nat} : ∀ n a, (∀ i, a ≤ i → i < a + n → f i = false) → stL f a (n + m) = stL f (a + n) m := by
  intro n
  induction n with
  | zero => intro a _; rw [Nat.zero_add, Nat.add_zero]
  | succ n ih =>
    intro a h
    rw [show n + 1 + m = (n + m) + 1 by omega]
    show (if f a = true then a :: stL f (a + 1) (n + m) else stL f (a + 1) (n + m)) = _
    rw [if_neg (by rw [h a (Nat.le_refl _) (by omega)]; decide), ih (a + 1) (fun i h1 h2 => h i (by omega) (by omega)), show a + 1 + n = a + (n + 1) by omega]
theorem stL_snoc {f : Nat → Bool} : ∀ n a, stL f a (n + 1) = stL f a n ++ (if f (a + n) = true then [a + n] else []) := by
  intro n
  induction n with
  | zero =>
    intro a
    show (if f a = true then a :: stL f (a + 1) 0 else stL f (a + 1) 0) = [] ++ (if f (a + 0) = true then [a + 0] else [])
    rw [Nat.add_zero, List.nil_append]
    rfl
  | succ n ih =>
    intro a
    have h1 : stL f a (n + 1 + 1) = if f a = true then a :: stL f (a + 1) (n + 1) else stL f (a + 1) (n + 1) := rfl
    have h2 : stL f a (n + 1) = if f a = true then a :: stL f (a + 1) n else stL f (a + 1) n := rfl
    rw [h1, h2, ih (a + 1), show a + 1 + n = a + (n + 1) by omega]
    split <;> simp
theorem stL_cnt {f : Nat → Bool} : ∀ n, (stL f 0 n).length = cnt f n := by
  intro n
  induction n with
  | zero => rfl
  | succ n ih =>
    rw [stL_snoc, List.length_append, ih, Nat.zero_add]
    show _ = if f n = true then cnt f n + 1 else cnt f n
    split <;> simp
theorem thF_L {f : Nat → Bool} : ∀ n l a, thF f l a n = if l < (stL f a n).length then (((stL f a n).getD l 0 : Nat) : Int) else -1 := by
  intro n
  induction n with
  | zero => intro l a; rfl
  | succ n ih =>
    intro l a
    show (if f a = true then (if l = 0 then (a : Int) else thF f (l - 1) (a + 1) n) else thF f l (a + 1) n) = if l < (if f a = true then a :: stL f (a + 1) n else stL f (a + 1) n).length then ((((if f a = true then a :: stL f (a + 1) n else stL f (a + 1) n)).getD l 0 : Nat) : Int) else -1
    by_cases q : f a = true
    · rw [if_pos q, if_pos q]
      by_cases z : l = 0
      · subst z
        rw [if_pos rfl, if_pos (by rw [List.length_cons]; omega)]
        rfl
      · obtain ⟨m, rfl⟩ : ∃ m, l = m + 1 := ⟨l - 1, by omega⟩
        rw [if_neg z, Nat.add_sub_cancel, ih m (a + 1), List.length_cons]
        by_cases c : m < (stL f (a + 1) n).length
        · rw [if_pos c, if_pos (by omega)]
          simp only [List.getD_eq_getElem?_getD, List.getElem?_cons_succ]
        · rw [if_neg c, if_neg (by omega)]
    · rw [if_neg q, if_neg q]
      exact ih l (a + 1)
theorem enE_spec {S : Nat} : ∀ f e1, e1 < (prs S).length → (prs S).length ≤ e1 + f + 1 → e1 ≤ enE S e1 f ∧ enE S e1 f < (prs S).length ∧ (∀ j, e1 ≤ j → j < enE S e1 f → gob S (j + 1) = true) ∧ gob S (enE S e1 f + 1) = false := by
  intro f
  induction f with
  | zero =>
    intro e1 h1 h2
    exact ⟨Nat.le_refl _, h1, fun j a b => by exfalso; have : enE S e1 0 = e1 := rfl; omega, decide_eq_false (fun q => by have : enE S e1 0 = e1 := rfl; omega)⟩
  | succ f ih =>
    intro e1 h1 h2
    have he : enE S e1 (f + 1) = if e1 + 1 < (prs S).length ∧ pN S (e1 + 1) = pN S e1 + 1 then enE S (e1 + 1) f else e1 := rfl
    rw [he]
    by_cases c : e1 + 1 < (prs S).length ∧ pN S (e1 + 1) = pN S e1 + 1
    · rw [if_pos c]
      obtain ⟨k1, k2, k3, k4⟩ := ih (e1 + 1) c.1 (by omega)
      refine ⟨by omega, k2, fun j a b => ?_, k4⟩
      by_cases q : j = e1
      · subst q
        exact decide_eq_true ⟨by omega, c.1, by rw [Nat.add_sub_cancel]; exact c.2⟩
      · exact k3 j (by omega) b
    · rw [if_neg c]
      exact ⟨Nat.le_refl _, h1, fun j a b => by omega, decide_eq_false (fun q => c ⟨q.2.1, by have := q.2.2; rw [Nat.add_sub_cancel] at this; exact this⟩)⟩
theorem rnL_st {S : Nat} : ∀ f k, (prs S).length ≤ k + f → gob S k = false → (rnL S k f).map (fun t => t.1) = stL (stB S) k ((prs S).length - k) := by
  intro f
  induction f with
  | zero =>
    intro k h _
    rw [show (prs S).length - k = 0 by omega]
    rfl
  | succ f ih =>
    intro k h hg
    have hr : rnL S k (f + 1) = if k < (prs S).length then (if k < enE S k (prs S).length then (k, enE S k (prs S).length - k + 2) :: rnL S (enE S k (prs S).length + 1) f else rnL S (enE S k (prs S).length + 1) f) else [] := rfl
    rw [hr]
    by_cases c : k < (prs S).length
    · rw [if_pos c]
      obtain ⟨k1, k2, k3, k4⟩ := enE_spec (S := S) (prs S).length k c (by omega)
      obtain ⟨e, he⟩ : ∃ e, e = enE S k (prs S).length := ⟨_, rfl⟩
      rw [← he] at k1 k2 k3 k4 ⊢
      have hi := ih (e + 1) (by omega) k4
      have hm : ∀ i, k + 1 ≤ i → i < k + 1 + (e - k) → stB S i = false := fun i h1 h2 => by
        obtain ⟨j, rfl⟩ : ∃ j, i = j + 1 := ⟨i - 1, by omega⟩
        unfold stB
        rw [k3 j (by omega) (by omega)]
        exact Bool.and_false _
      have hsp : (prs S).length - k = ((e - k) + ((prs S).length - (e + 1))) + 1 := by omega
      have hst : stL (stB S) k ((prs S).length - k) = if stB S k = true then k :: stL (stB S) (e + 1) ((prs S).length - (e + 1)) else stL (stB S) (e + 1) ((prs S).length - (e + 1)) := by
        rw [hsp]
        show (if stB S k = true then k :: stL (stB S) (k + 1) _ else stL (stB S) (k + 1) _) = _
        rw [stL_skip (e - k) (k + 1) hm, show k + 1 + (e - k) = e + 1 by omega]
      rw [hst]
      by_cases q : k < e
      · have : stB S k = true := by
          unfold stB
          rw [k3 k (Nat.le_refl _) q, hg]
          rfl
        rw [if_pos q, if_pos this, List.map_cons, hi]
      · have he2 : e = k := by omega
        have : ¬ stB S k = true := by
          unfold stB
          rw [he2] at k4
          rw [k4, Bool.false_and]
          decide
        rw [if_neg q, if_neg this, hi]
    · rw [if_neg c, show (prs S).length - k = 0 by omega]
      rfl
theorem gob_0 (S : Nat) : gob S 0 = false := decide_eq_false (fun q => by omega)
theorem rnS_st (S : Nat) : (rnS S).map (fun t => t.1) = stL (stB S) 0 (prs S).length := by
  have h := rnL_st (S := S) (prs S).length 0 (by omega) (gob_0 S)
  rw [Nat.sub_zero] at h
  exact h
theorem rnS_len (S : Nat) : (rnS S).length = cnt (stB S) (prs S).length := by
  rw [← stL_cnt, ← rnS_st, List.length_map]
theorem rnL_2 {S : Nat} : ∀ f k i, i < (rnL S k f).length → ((rnL S k f).getD i (0, 0)).2 = enE S ((rnL S k f).getD i (0, 0)).1 (prs S).length - ((rnL S k f).getD i (0, 0)).1 + 2 ∧ ((rnL S k f).getD i (0, 0)).1 < (prs S).length := by
  intro f
  induction f with
  | zero => intro k i h; exact absurd h (Nat.not_lt_zero _)
  | succ f ih =>
    intro k i h
    have hr : rnL S k (f + 1) = if k < (prs S).length then (if k < enE S k (prs S).length then (k, enE S k (prs S).length - k + 2) :: rnL S (enE S k (prs S).length + 1) f else rnL S (enE S k (prs S).length + 1) f) else [] := rfl
    rw [hr] at h ⊢
    by_cases c : k < (prs S).length
    · rw [if_pos c] at h ⊢
      by_cases q : k < enE S k (prs S).length
      · rw [if_pos q] at h ⊢
        rcases Nat.eq_zero_or_pos i with z | z
        · subst z
          exact ⟨rfl, c⟩
        · obtain ⟨j, rfl⟩ : ∃ j, i = j + 1 := ⟨i - 1, by omega⟩
          rw [List.length_cons] at h
          have e1 : ((k, enE S k (prs S).length - k + 2) :: rnL S (enE S k (prs S).length + 1) f).getD (j + 1) (0, 0) = (rnL S (enE S k (prs S).length + 1) f).getD j (0, 0) := by simp only [List.getD_eq_getElem?_getD, List.getElem?_cons_succ]
          rw [e1]
          exact ih _ j (by omega)
      · rw [if_neg q] at h ⊢
        exact ih _ i h
    · rw [if_neg c] at h
      exact absurd h (Nat.not_lt_zero _)
/-- the start of a run by its number -/
def soR (S : Nat) (i : Int) : Int := if i < 0 then -1 else thF (stB S) i.toNat 0 (prs S).length
theorem soR_no {S : Nat} {i : Int} (h : ¬ (0 ≤ i ∧ i < ((rnS S).length : Int))) : soR S i = -1 := by
  unfold soR
  by_cases q : i < 0
  · rw [if_pos q]
  · rw [if_neg q, thF_L, if_neg]
    rw [← rnS_st, List.length_map]
    omega
theorem soR_y {S : Nat} {i : Int} (h : 0 ≤ i ∧ i < ((rnS S).length : Int)) : soR S i = (((rnS S).getD i.toNat (0, 0)).1 : Int) := by
  unfold soR
  have hl : i.toNat < (rnS S).length := by omega
  rw [if_neg (by omega), thF_L, if_pos (by rw [← rnS_st, List.length_map]; exact hl), ← rnS_st]
  congr 1
  simp only [List.getD_eq_getElem?_getD, List.getElem?_map, List.getElem?_eq_getElem hl]
  rfl
/-- how many numbers there are in the run from k on -/
def nuR (S k : Nat) : Nat := enE S k (prs S).length - k + 2
theorem rn_2 {S i : Nat} (h : i < (rnS S).length) : ((rnS S).getD i (0, 0)).2 = nuR S ((rnS S).getD i (0, 0)).1 ∧ ((rnS S).getD i (0, 0)).1 < (prs S).length := rnL_2 _ _ i h
theorem nN_1 {S : Nat} (hS : S < 128) (hp : pop S ≤ 5) (k : Nat) : nN 1 S k = pN S k := by unfold nN pN; rw [prL_1 hS hp]
theorem nC_1 {S : Nat} (hS : S < 128) (hp : pop S ≤ 5) (k : Nat) : nC 1 S k = pC S k := by unfold nC pC; rw [prL_1 hS hp]
theorem nIx_1 {S : Nat} (hS : S < 128) (hp : pop S ≤ 5) (k : Nat) : nIx 1 S k = pI S k := by unfold nIx pI; rw [prL_1 hS hp]
set_option maxRecDepth 20000 in
set_option maxHeartbeats 4000000 in
theorem s_goesNo {d : Nat} {G : zG} {A : Int → Int → Int} {P : Option zV → zG → Prop} {s E0 : Int} {S : Nat} (hR : sR G A s E0 1 S) {i : Int} (hi : zR i) (hno : ¬ (1 ≤ i ∧ i < ((prL 1 S).length : Int))) (k : P (some (0, 0)) (gw G A)) : ZE (d + 1) M_Sea_goesOn (gw G A) 0 [(2, s), (0, i)] [] P := by
  have hs0 := hR.K.2.1
  have hE0 := hR.E
  have hL64 := hR.l64
  have hpl : (prL 1 S).length = (prs S).length := by rw [prL_1 hR.s7 hR.p5]
  refine ZE.iload_n d_Sea_goesOn_0 rfl ?_
  refine ZE.iconst (n := 1) d_Sea_goesOn_1 ?_
  refine ZE.icmp_lt (tgt := 13) d_Sea_goesOn_2 rfl hi (by unfold zR; omega) (fun c2 => ?_) (fun c2 => ?_)
  · refine ZE.iconst (n := 0) d_Sea_goesOn_13 ?_
    refine ZE.zret d_Sea_goesOn_14 rfl (Or.inl rfl) ?_
    exact k
  · refine ZE.aload_n d_Sea_goesOn_5 rfl ?_
    refine ZE.iload_n d_Sea_goesOn_6 rfl ?_
    refine ZE.cV [(0, i)] [] [(2, s), (0, i)] d_Sea_goesOn_7 l_Sea_146 rfl rfl rfl rfl rfl rfl hR.K.1 ?_
    refine s_isCouple (d := d) hR.K hR.F hR.n12 hL64 hi ?_
    show ZE (d + 1) M_Sea_goesOn (gw G A) 10 [(2, s), (0, i)] [(0, b2i (0 ≤ i ∧ i < ((prL 1 S).length : Int)))] _
    refine ZE.if_ne (tgt := 15) d_Sea_goesOn_10 rfl (zR_b2i _) (fun c10 => ?_) (fun c10 => ?_)
    · exact absurd (b2i_n0.mp c10) (by omega)
    · replace c10 := b2i_0.mp c10
      refine ZE.iconst (n := 0) d_Sea_goesOn_13 ?_
      refine ZE.zret d_Sea_goesOn_14 rfl (Or.inl rfl) ?_
      exact k
set_option maxRecDepth 20000 in
set_option maxHeartbeats 4000000 in
theorem s_goesYes {d : Nat} {G : zG} {A : Int → Int → Int} {P : Option zV → zG → Prop} {s E0 : Int} {S : Nat} (hR : sR G A s E0 1 S) {in0 : Nat} (hin : in0 + 1 < (prL 1 S).length) (k : ∀ B, qF A B s → P (some (0, b2i (gob S (in0 + 1) = true))) (gw G B)) : ZE (d + 2) M_Sea_goesOn (gw G A) 0 [(2, s), (0, ((in0 + 1 : Nat) : Int))] [] P := by
  have hs0 := hR.K.2.1
  have hE0 := hR.E
  have hL64 := hR.l64
  have hpl : (prL 1 S).length = (prs S).length := by rw [prL_1 hR.s7 hR.p5]
  have hc0 := hR.cp (k := in0) (by omega)
  have hc1 := hR.cp (k := in0 + 1) (by omega)
  have hv0 := hR.v (k := in0) (by omega)
  have hv1 := hR.v (k := in0 + 1) (by omega)
  have hk32 := hR.K.2.2.2.2.2.2.1
  have n0 : nd 1000000000 (nN 1 S in0) ≤ 1 := nd_le (by omega) (by omega)
  have n1 : nd 1000000000 (nN 1 S in0 + 1) ≤ 2 := nd_le (by omega) (by omega)
  refine ZE.iload_n d_Sea_goesOn_0 rfl ?_
  refine ZE.iconst (n := 1) d_Sea_goesOn_1 ?_
  refine ZE.icmp_lt (tgt := 13) d_Sea_goesOn_2 rfl (by unfold zR; omega) (by unfold zR; omega) (fun c2 => ?_) (fun c2 => ?_)
  · exact absurd c2 (by omega)
  · refine ZE.aload_n d_Sea_goesOn_5 rfl ?_
    refine ZE.iload_n d_Sea_goesOn_6 rfl ?_
    refine ZE.cV [(0, ((in0 + 1 : Nat) : Int))] [] [(2, s), (0, ((in0 + 1 : Nat) : Int))] d_Sea_goesOn_7 l_Sea_146 rfl rfl rfl rfl rfl rfl hR.K.1 ?_
    refine s_isCouple (d := d + 1) hR.K hR.F hR.n12 hL64 (by unfold zR; omega) ?_
    show ZE (d + 2) M_Sea_goesOn (gw G A) 10 [(2, s), (0, ((in0 + 1 : Nat) : Int))] [(0, b2i (0 ≤ ((in0 + 1 : Nat) : Int) ∧ ((in0 + 1 : Nat) : Int) < ((prL 1 S).length : Int)))] _
    refine ZE.if_ne (tgt := 15) d_Sea_goesOn_10 rfl (zR_b2i _) (fun c10 => ?_) (fun c10 => ?_)
    · replace c10 := b2i_n0.mp c10
      refine ZE.aload_n d_Sea_goesOn_15 rfl ?_
      refine ZE.getE (v := s + 31) d_Sea_goesOn_16 f_Sea_52 (tg := 2) rfl hR.K.1 hR.F.2.2.2.2.2.2.1 ?_
      refine ZE.aload_n d_Sea_goesOn_19 rfl ?_
      refine ZE.iload_n d_Sea_goesOn_20 rfl ?_
      refine ZE.iconst (n := 1) d_Sea_goesOn_21 ?_
      refine ZE.isub d_Sea_goesOn_22 ?_
      rw [show (((in0 + 1 : Nat) : Int) - 1 : Int) = ((in0 : Nat) : Int) from (by omega)]
      refine ZE.cV [(0, ((in0 : Nat) : Int))] [(2, s + 31)] [(2, s), (0, ((in0 : Nat) : Int)), (9, 0)] d_Sea_goesOn_23 l_Sea_135 rfl rfl rfl rfl rfl rfl hR.K.1 ?_
      refine s_coupleAt (d := d + 1) hR.K hR.F hR.n12 hL64 (k1 := in0) (by omega) (v1 := A (s + 30) ((in0 : Nat) : Int)) rfl (by omega) ?_
      show ZE (d + 2) M_Sea_goesOn (gw G A) 26 [(2, s), (0, ((in0 + 1 : Nat) : Int))] [(2, A (s + 30) ((in0 : Nat) : Int)), (2, s + 31)] _
      refine ZE.getE (v := A (s + 30) ((in0 : Nat) : Int) + 3) d_Sea_goesOn_26 f_Sea_139 (tg := 2) rfl hc0.2.2.1.1.1 hc0.2.2.1.2.1 ?_
      refine ZE.cV [(2, A (s + 30) ((in0 : Nat) : Int) + 3)] [] [(2, s + 31), (2, A (s + 30) ((in0 : Nat) : Int) + 3), (9, 0)] d_Sea_goesOn_29 l_Sea_164 rfl rfl rfl rfl rfl rfl hR.K.2.2.2.2.2.2.1.1 ?_
      refine B_copy (d := d) hk32 hR.F.2.2.2.2.2.2.2.2.2.2.2 hc0.2.2.1.1.2.2.2.2 hc0.2.2.1.2.2.2.2.2.2.1 (by omega) (Nat.le_refl _) (by omega) (fun A2 g2 n2 => ?_)
      show ZE (d + 2) M_Sea_goesOn (gw G A2) 32 [(2, s), (0, ((in0 + 1 : Nat) : Int))] [] _
      have hq2 := bF.qf g2 n2
      have hR2 := hR.q hq2
      refine ZE.aload_n d_Sea_goesOn_32 rfl ?_
      refine ZE.getE (v := s + 31) d_Sea_goesOn_33 f_Sea_52 (tg := 2) rfl hR.K.1 hR2.F.2.2.2.2.2.2.1 ?_
      refine ZE.iconst (n := 1) d_Sea_goesOn_36 ?_
      refine ZE.cV [(0, 1)] [] [(2, s + 31), (0, 1), (9, 0), (9, 0), (9, 0)] d_Sea_goesOn_37 l_Sea_168 rfl rfl rfl rfl rfl rfl hR.K.2.2.2.2.2.2.1.1 ?_
      refine B_increase (d := d) hk32 n2 (w0 := 1) (by omega) (by omega) (by omega) (fun A3 g3 n3 => ?_)
      show ZE (d + 2) M_Sea_goesOn (gw G A3) 40 [(2, s), (0, ((in0 + 1 : Nat) : Int))] [] _
      have hq3 := hq2.tr (bF.qf g3 n3)
      have hR3 := hR.q hq3
      refine ZE.aload_n d_Sea_goesOn_40 rfl ?_
      refine ZE.getE (v := s + 31) d_Sea_goesOn_41 f_Sea_52 (tg := 2) rfl hR.K.1 hR3.F.2.2.2.2.2.2.1 ?_
      refine ZE.aload_n d_Sea_goesOn_44 rfl ?_
      refine ZE.iload_n d_Sea_goesOn_45 rfl ?_
      refine ZE.cV [(0, ((in0 + 1 : Nat) : Int))] [(2, s + 31)] [(2, s), (0, ((in0 + 1 : Nat) : Int)), (9, 0)] d_Sea_goesOn_46 l_Sea_135 rfl rfl rfl rfl rfl rfl hR.K.1 ?_
      refine s_coupleAt (d := d + 1) hR3.K hR3.F hR3.n12 hL64 (k1 := in0 + 1) (by omega) (v1 := A (s + 30) ((in0 + 1 : Nat) : Int)) (congrFun (hq3.1 _ (by omega) (by omega)) _) (by omega) ?_
      show ZE (d + 2) M_Sea_goesOn (gw G A3) 49 [(2, s), (0, ((in0 + 1 : Nat) : Int))] [(2, A (s + 30) ((in0 + 1 : Nat) : Int)), (2, s + 31)] _
      refine ZE.getE (v := A (s + 30) ((in0 + 1 : Nat) : Int) + 3) d_Sea_goesOn_49 f_Sea_139 (tg := 2) rfl hc1.2.2.1.1.1 ((congrFun (hq3.1 _ (by omega) (by omega)) _).trans hc1.2.2.1.2.1) ?_
      refine ZE.cV [(2, A (s + 30) ((in0 + 1 : Nat) : Int) + 3)] [] [(2, s + 31), (2, A (s + 30) ((in0 + 1 : Nat) : Int) + 3), (9, 0), (9, 0), (9, 0)] d_Sea_goesOn_52 l_Sea_142 rfl rfl rfl rfl rfl rfl hR.K.2.2.2.2.2.2.1.1 ?_
      refine B_compareWith (d := d) hk32 n3 (cap2 := nd 1000000000 (nN 1 S (in0 + 1))) hc1.2.2.1.1.2.2.2.2 (hc1.2.2.1.2.2.2.2.2.2.1.ab (fun a ha => hq3.1 a (by omega) (by omega))) (by omega) (Nat.le_refl _) ?_
      show ZE (d + 2) M_Sea_goesOn (gw G A3) 55 [(2, s), (0, ((in0 + 1 : Nat) : Int))] [(0, cmZ (nN 1 S in0 + 1) (nN 1 S (in0 + 1)))] _
      refine ZE.if_ne (tgt := 62) d_Sea_goesOn_55 rfl (zR_cmZ _ _) (fun c55 => ?_) (fun c55 => ?_)
      · have k1 := k A3 hq3
        refine ZE.iconst (n := 0) d_Sea_goesOn_62 ?_
        refine ZE.zret d_Sea_goesOn_63 rfl (by omega) ?_
        rw [b2i_f (show ¬ gob S (in0 + 1 : Nat) = true from fun q => c55 (cmZ_eq.mpr (by have := (of_decide_eq_true q).2.2; rw [Nat.add_sub_cancel, ← nN_1 hR.s7 hR.p5, ← nN_1 hR.s7 hR.p5] at this; exact this.symm)))] at k1
        exact k1
      · have k1 := k A3 hq3
        refine ZE.iconst (n := 1) d_Sea_goesOn_58 ?_
        refine ZE.goto (tgt := 63) d_Sea_goesOn_59 rfl ?_
        refine ZE.zret d_Sea_goesOn_63 rfl (by omega) ?_
        rw [b2i_t (show gob S (in0 + 1 : Nat) = true from decide_eq_true ⟨by omega, by omega, by rw [Nat.add_sub_cancel, ← nN_1 hR.s7 hR.p5, ← nN_1 hR.s7 hR.p5]; exact (cmZ_eq.mp (by omega)).symm⟩)] at k1
        exact k1
    · exact absurd (by omega) (b2i_0.mp c10)
theorem s_goesOn {d : Nat} {G : zG} {A : Int → Int → Int} {P : Option zV → zG → Prop} {s E0 : Int} {S : Nat} (hR : sR G A s E0 1 S) {j : Nat} (hj : j ≤ 64) (k : ∀ B, qF A B s → P (some (0, b2i (gob S j = true))) (gw G B)) : ZE (d + 2) M_Sea_goesOn (gw G A) 0 [(2, s), (0, (j : Int))] [] P := by
  have hpl : (prL 1 S).length = (prs S).length := by rw [prL_1 hR.s7 hR.p5]
  by_cases q : 1 ≤ j ∧ j < (prL 1 S).length
  · obtain ⟨i, rfl⟩ : ∃ i, j = i + 1 := ⟨j - 1, by omega⟩
    exact s_goesYes hR q.2 k
  · refine s_goesNo (d := d + 1) hR (by unfold zR; omega) (by omega) ?_
    have k1 := k A hR.rfq
    rw [b2i_f (fun z => by unfold gob at z; have := of_decide_eq_true z; omega)] at k1
    exact k1
set_option maxRecDepth 20000 in
set_option maxHeartbeats 4000000 in
theorem s_startsRun {d : Nat} {G : zG} {A : Int → Int → Int} {P : Option zV → zG → Prop} {s E0 : Int} {S : Nat} (hR : sR G A s E0 1 S) {j : Nat} (hj : j < 64) (k : ∀ B, qF A B s → P (some (0, b2i (stB S j = true))) (gw G B)) : ZE (d + 3) M_Sea_startsRun (gw G A) 0 [(2, s), (0, (j : Int))] [] P := by
  have hs0 := hR.K.2.1
  have hE0 := hR.E
  have hL64 := hR.l64
  have hpl : (prL 1 S).length = (prs S).length := by rw [prL_1 hR.s7 hR.p5]
  refine ZE.aload_n d_Sea_startsRun_0 rfl ?_
  refine ZE.iload_n d_Sea_startsRun_1 rfl ?_
  refine ZE.iconst (n := 1) d_Sea_startsRun_2 ?_
  refine ZE.iadd d_Sea_startsRun_3 ?_
  rw [show ((j : Int) + 1 : Int) = ((j + 1 : Nat) : Int) from (by omega)]
  refine ZE.cV [(0, ((j + 1 : Nat) : Int))] [] [(2, s), (0, ((j + 1 : Nat) : Int))] d_Sea_startsRun_4 l_Sea_171 rfl rfl rfl rfl rfl rfl hR.K.1 ?_
  refine s_goesOn (d := d) hR (j := j + 1) (by omega) (fun B1 hqB1 => ?_)
  show ZE (d + 3) M_Sea_startsRun (gw G B1) 7 [(2, s), (0, (j : Int))] [(0, b2i (gob S (j + 1) = true))] _
  have hRB1 := hR.q hqB1
  refine ZE.if_eq (tgt := 22) d_Sea_startsRun_7 rfl (zR_b2i _) (fun c7 => ?_) (fun c7 => ?_)
  · replace c7 := b2i_0.mp c7
    refine ZE.iconst (n := 0) d_Sea_startsRun_22 ?_
    refine ZE.zret d_Sea_startsRun_23 rfl (by omega) ?_
    have k1 := k B1 hqB1
    rw [b2i_f (show ¬ stB S j = true from ?_)] at k1
    · exact k1
    · unfold stB; rw [Bool.eq_false_iff.mpr c7, Bool.false_and]; decide
  · replace c7 := b2i_n0.mp c7
    refine ZE.aload_n d_Sea_startsRun_10 rfl ?_
    refine ZE.iload_n d_Sea_startsRun_11 rfl ?_
    refine ZE.cV [(0, (j : Int))] [] [(2, s), (0, (j : Int))] d_Sea_startsRun_12 l_Sea_171 rfl rfl rfl rfl rfl rfl hR.K.1 ?_
    refine s_goesOn (d := d) hRB1 (j := j) (by omega) (fun B2 hqB2 => ?_)
    show ZE (d + 3) M_Sea_startsRun (gw G B2) 15 [(2, s), (0, (j : Int))] [(0, b2i (gob S (j) = true))] _
    have hRB2 := hRB1.q hqB2
    refine ZE.if_ne (tgt := 22) d_Sea_startsRun_15 rfl (zR_b2i _) (fun c15 => ?_) (fun c15 => ?_)
    · replace c15 := b2i_n0.mp c15
      refine ZE.iconst (n := 0) d_Sea_startsRun_22 ?_
      refine ZE.zret d_Sea_startsRun_23 rfl (by omega) ?_
      have k1 := k B2 (hqB1.tr hqB2)
      rw [b2i_f (show ¬ stB S j = true from ?_)] at k1
      · exact k1
      · unfold stB; rw [c7, c15]; decide
    · replace c15 := b2i_0.mp c15
      refine ZE.iconst (n := 1) d_Sea_startsRun_18 ?_
      refine ZE.goto (tgt := 23) d_Sea_startsRun_19 rfl ?_
      refine ZE.zret d_Sea_startsRun_23 rfl (by omega) ?_
      have k1 := k B2 (hqB1.tr hqB2)
      rw [b2i_t (show stB S j = true from ?_)] at k1
      · exact k1
      · unfold stB; rw [c7, Bool.eq_false_iff.mpr c15]; rfl
set_option maxRecDepth 20000 in
set_option maxHeartbeats 4000000 in
theorem s_runsOfThree {d : Nat} {G : zG} {A : Int → Int → Int} {P : Option zV → zG → Prop} {s E0 : Int} {S : Nat} (hR : sR G A s E0 1 S) (k : ∀ B, qF A B s → P (some (0, ((rnS S).length : Int))) (gw G B)) : ZE (d + 4) M_Sea_runsOfThree (gw G A) 0 [(2, s), (9, 0), (9, 0)] [] P := by
  have hs0 := hR.K.2.1
  have hE0 := hR.E
  have hL64 := hR.l64
  have hpl : (prL 1 S).length = (prs S).length := by rw [prL_1 hR.s7 hR.p5]
  refine ZE.iconst (n := 0) d_Sea_runsOfThree_0 ?_
  refine ZE.istore_n (ls2 := [(2, s), (0, 0), (9, 0)]) d_Sea_runsOfThree_1 (Nat.le_of_ble_eq_true rfl) rfl ?_
  refine ZE.iconst (n := 0) d_Sea_runsOfThree_2 ?_
  refine ZE.istore_n (ls2 := [(2, s), (0, 0), (0, 0)]) d_Sea_runsOfThree_3 (Nat.le_of_ble_eq_true rfl) rfl ?_
  have L4 : ∀ (tt0 : Nat) (j : Nat) (A1 : Int → Int → Int) (hj : j ≤ (prL 1 S).length) (hq1 : qF A A1 s), (prL 1 S).length + 1 - j < tt0 → ZE (d + 4) M_Sea_runsOfThree (gw G A1) 4 [(2, s), (0, (cnt (stB S) j : Int)), (0, (j : Int))] [] P := by
    intro tt0
    induction tt0 with
    | zero => intro j A1 hj hq1 hm; exact absurd hm (Nat.not_lt_zero _)
    | succ tt0 ih =>
      intro j A1 hj hq1 hm
      have hR1 := hR.q hq1
      refine ZE.iload_n d_Sea_runsOfThree_4 rfl ?_
      refine ZE.aload_n d_Sea_runsOfThree_5 rfl ?_
      refine ZE.getE (v := ((prL 1 S).length : Int)) d_Sea_runsOfThree_6 f_Sea_82 (tg := 0) rfl hR.K.1 hR1.n12 ?_
      refine ZE.icmp_ge (tgt := 34) d_Sea_runsOfThree_9 rfl (by unfold zR; omega) (by unfold zR; omega) (fun c9 => ?_) (fun c9 => ?_)
      · refine ZE.iload_n d_Sea_runsOfThree_34 rfl ?_
        refine ZE.iret d_Sea_runsOfThree_35 rfl ?_
        have hje : j = (prs S).length := by omega
        subst hje
        rw [rnS_len] at k
        exact k A1 hq1
      · refine ZE.iload_n d_Sea_runsOfThree_12 rfl ?_
        refine ZE.aload_n d_Sea_runsOfThree_13 rfl ?_
        refine ZE.iload_n d_Sea_runsOfThree_14 rfl ?_
        refine ZE.cV [(0, (j : Int))] [(0, (cnt (stB S) j : Int))] [(2, s), (0, (j : Int))] d_Sea_runsOfThree_15 l_Sea_174 rfl rfl rfl rfl rfl rfl hR.K.1 ?_
        refine s_startsRun (d := d) hR1 (j := j) (by omega) (fun A2 hqA2 => ?_)
        show ZE (d + 4) M_Sea_runsOfThree (gw G A2) 18 [(2, s), (0, (cnt (stB S) j : Int)), (0, (j : Int))] [(0, b2i (stB S j = true)), (0, (cnt (stB S) j : Int))] _
        refine ZE.if_eq (tgt := 25) d_Sea_runsOfThree_18 rfl (zR_b2i _) (fun c18 => ?_) (fun c18 => ?_)
        · replace c18 := b2i_0.mp c18
          refine ZE.iconst (n := 0) d_Sea_runsOfThree_25 ?_
          refine ZE.iadd d_Sea_runsOfThree_26 ?_
          rw [show ((cnt (stB S) j : Int) + 0 : Int) = (cnt (stB S) (j + 1) : Int) from (by rw [show cnt (stB S) (j + 1) = cnt (stB S) j from if_neg c18]; omega)]
          refine ZE.istore_n (ls2 := [(2, s), (0, (cnt (stB S) (j + 1) : Int)), (0, (j : Int))]) d_Sea_runsOfThree_27 (Nat.le_of_ble_eq_true rfl) rfl ?_
          refine ZE.iinc (ls2 := [(2, s), (0, (cnt (stB S) (j + 1) : Int)), (0, (j : Int) + 1)]) d_Sea_runsOfThree_28 rfl rfl ?_
          refine ZE.goto (tgt := 4) d_Sea_runsOfThree_31 rfl ?_
          rw [show (j : Int) + 1 = ((j + 1 : Nat) : Int) by omega]
          exact ih (j + 1) A2 (by omega) (hq1.tr hqA2) (by omega)
        · replace c18 := b2i_n0.mp c18
          refine ZE.iconst (n := 1) d_Sea_runsOfThree_21 ?_
          refine ZE.goto (tgt := 26) d_Sea_runsOfThree_22 rfl ?_
          refine ZE.iadd d_Sea_runsOfThree_26 ?_
          rw [show ((cnt (stB S) j : Int) + 1 : Int) = (cnt (stB S) (j + 1) : Int) from (by rw [show cnt (stB S) (j + 1) = cnt (stB S) j + 1 from if_pos c18]; omega)]
          refine ZE.istore_n (ls2 := [(2, s), (0, (cnt (stB S) (j + 1) : Int)), (0, (j : Int))]) d_Sea_runsOfThree_27 (Nat.le_of_ble_eq_true rfl) rfl ?_
          refine ZE.iinc (ls2 := [(2, s), (0, (cnt (stB S) (j + 1) : Int)), (0, (j : Int) + 1)]) d_Sea_runsOfThree_28 rfl rfl ?_
          refine ZE.goto (tgt := 4) d_Sea_runsOfThree_31 rfl ?_
          rw [show (j : Int) + 1 = ((j + 1 : Nat) : Int) by omega]
          exact ih (j + 1) A2 (by omega) (hq1.tr hqA2) (by omega)
  exact L4 _ 0 A (Nat.zero_le _) hR.rfq (Nat.lt_succ_self _)
set_option maxRecDepth 20000 in
set_option maxHeartbeats 4000000 in
theorem s_startOfRun {d : Nat} {G : zG} {A : Int → Int → Int} {P : Option zV → zG → Prop} {s E0 : Int} {S : Nat} (hR : sR G A s E0 1 S) {i : Int} (hi : zR i) (k : ∀ B, qF A B s → P (some (0, soR S i)) (gw G B)) : ZE (d + 4) M_Sea_startOfRun (gw G A) 0 [(2, s), (0, i), (9, 0), (9, 0)] [] P := by
  have hs0 := hR.K.2.1
  have hE0 := hR.E
  have hL64 := hR.l64
  have hpl : (prL 1 S).length = (prs S).length := by rw [prL_1 hR.s7 hR.p5]
  refine ZE.iconst (n := 0) d_Sea_startOfRun_0 ?_
  refine ZE.istore_n (ls2 := [(2, s), (0, i), (0, 0), (9, 0)]) d_Sea_startOfRun_1 (Nat.le_of_ble_eq_true rfl) rfl ?_
  refine ZE.iconst (n := 0) d_Sea_startOfRun_2 ?_
  refine ZE.istore_n (ls2 := [(2, s), (0, i), (0, 0), (0, 0)]) d_Sea_startOfRun_3 (Nat.le_of_ble_eq_true rfl) rfl ?_
  have L4 : ∀ (tt0 : Nat) (j : Nat) (A1 : Int → Int → Int) (hj : j ≤ (prL 1 S).length) (hq1 : qF A A1 s) (hth : 0 ≤ i → (cnt (stB S) j : Int) ≤ i ∧ soR S i = thF (stB S) (i.toNat - cnt (stB S) j) j ((prs S).length - j)), (prL 1 S).length + 1 - j < tt0 → ZE (d + 4) M_Sea_startOfRun (gw G A1) 4 [(2, s), (0, i), (0, (cnt (stB S) j : Int)), (0, (j : Int))] [] P := by
    intro tt0
    induction tt0 with
    | zero => intro j A1 hj hq1 hth hm; exact absurd hm (Nat.not_lt_zero _)
    | succ tt0 ih =>
      intro j A1 hj hq1 hth hm
      have hR1 := hR.q hq1
      have hcl := cnt_le (stB S) j
      refine ZE.iload_n d_Sea_startOfRun_4 rfl ?_
      refine ZE.aload_n d_Sea_startOfRun_5 rfl ?_
      refine ZE.getE (v := ((prL 1 S).length : Int)) d_Sea_startOfRun_6 f_Sea_82 (tg := 0) rfl hR.K.1 hR1.n12 ?_
      refine ZE.icmp_ge (tgt := 36) d_Sea_startOfRun_9 rfl (by unfold zR; omega) (by unfold zR; omega) (fun c9 => ?_) (fun c9 => ?_)
      · refine ZE.iconst (n := (-1)) d_Sea_startOfRun_36 ?_
        refine ZE.iret d_Sea_startOfRun_37 rfl ?_
        have a3 : soR S i = -1 := by
          by_cases h0 : 0 ≤ i
          · rw [(hth h0).2, show (prs S).length - j = 0 by omega]; rfl
          · unfold soR; rw [if_pos (by omega)]
        rw [a3] at k
        exact k A1 hq1
      · have hsp : (prs S).length - j = ((prs S).length - (j + 1)) + 1 := by omega
        refine ZE.aload_n d_Sea_startOfRun_12 rfl ?_
        refine ZE.iload_n d_Sea_startOfRun_13 rfl ?_
        refine ZE.cV [(0, (j : Int))] [] [(2, s), (0, (j : Int))] d_Sea_startOfRun_14 l_Sea_174 rfl rfl rfl rfl rfl rfl hR.K.1 ?_
        refine s_startsRun (d := d) hR1 (j := j) (by omega) (fun A2 hqA2 => ?_)
        show ZE (d + 4) M_Sea_startOfRun (gw G A2) 17 [(2, s), (0, i), (0, (cnt (stB S) j : Int)), (0, (j : Int))] [(0, b2i (stB S j = true))] _
        refine ZE.if_eq (tgt := 30) d_Sea_startOfRun_17 rfl (zR_b2i _) (fun c17 => ?_) (fun c17 => ?_)
        · replace c17 := b2i_0.mp c17
          refine ZE.iinc (ls2 := [(2, s), (0, i), (0, (cnt (stB S) j : Int)), (0, (j : Int) + 1)]) d_Sea_startOfRun_30 rfl rfl ?_
          refine ZE.goto (tgt := 4) d_Sea_startOfRun_33 rfl ?_
          rw [show (j : Int) + 1 = ((j + 1 : Nat) : Int) by omega]
          have hcs : cnt (stB S) (j + 1) = cnt (stB S) j := if_neg c17
          rw [show (cnt (stB S) j : Int) = (cnt (stB S) (j + 1) : Int) by rw [hcs]]
          refine ih (j + 1) A2 (by omega) (hq1.tr hqA2) (fun h0 => ?_) (by omega)
          obtain ⟨a1, a2⟩ := hth h0
          refine ⟨by omega, a2.trans ?_⟩
          rw [hsp]
          show (if stB S j = true then _ else thF (stB S) (i.toNat - cnt (stB S) j) (j + 1) ((prs S).length - (j + 1))) = _
          rw [if_neg c17, hcs]
        · replace c17 := b2i_n0.mp c17
          refine ZE.iload_n d_Sea_startOfRun_20 rfl ?_
          refine ZE.iload_n d_Sea_startOfRun_21 rfl ?_
          refine ZE.icmp_ne (tgt := 27) d_Sea_startOfRun_22 rfl (by unfold zR; omega) hi (fun c22 => ?_) (fun c22 => ?_)
          · refine ZE.iinc (ls2 := [(2, s), (0, i), (0, (cnt (stB S) j : Int) + 1), (0, (j : Int))]) d_Sea_startOfRun_27 rfl rfl ?_
            refine ZE.iinc (ls2 := [(2, s), (0, i), (0, (cnt (stB S) j : Int) + 1), (0, (j : Int) + 1)]) d_Sea_startOfRun_30 rfl rfl ?_
            refine ZE.goto (tgt := 4) d_Sea_startOfRun_33 rfl ?_
            rw [show (j : Int) + 1 = ((j + 1 : Nat) : Int) by omega]
            have hcs : cnt (stB S) (j + 1) = cnt (stB S) j + 1 := if_pos c17
            rw [show (cnt (stB S) j : Int) + 1 = (cnt (stB S) (j + 1) : Int) by rw [hcs]; omega]
            refine ih (j + 1) A2 (by omega) (hq1.tr hqA2) (fun h0 => ?_) (by omega)
            obtain ⟨a1, a2⟩ := hth h0
            have a3 : (cnt (stB S) j : Int) ≠ i := c22
            refine ⟨by omega, a2.trans ?_⟩
            rw [hsp]
            show (if stB S j = true then (if i.toNat - cnt (stB S) j = 0 then (j : Int) else thF (stB S) (i.toNat - cnt (stB S) j - 1) (j + 1) ((prs S).length - (j + 1))) else _) = _
            rw [if_pos c17, if_neg (by omega), hcs, show i.toNat - cnt (stB S) j - 1 = i.toNat - (cnt (stB S) j + 1) by omega]
          · refine ZE.iload_n d_Sea_startOfRun_25 rfl ?_
            refine ZE.iret d_Sea_startOfRun_26 rfl ?_
            have h0 : 0 ≤ i := by omega
            obtain ⟨a1, a2⟩ := hth h0
            have a3 : soR S i = (j : Int) := by
              rw [a2, hsp]
              show (if stB S j = true then (if i.toNat - cnt (stB S) j = 0 then (j : Int) else _) else _) = _
              rw [if_pos c17, if_pos (by omega)]
            rw [a3] at k
            exact k A2 (hq1.tr hqA2)
  exact L4 _ 0 A (Nat.zero_le _) hR.rfq (fun h0 => ⟨h0, by unfold soR; rw [if_neg (by omega)]; rfl⟩) (Nat.lt_succ_self _)
set_option maxRecDepth 20000 in
set_option maxHeartbeats 4000000 in
theorem s_numbersInRun {d : Nat} {G : zG} {A : Int → Int → Int} {P : Option zV → zG → Prop} {s E0 : Int} {S : Nat} (hR : sR G A s E0 1 S) {f1 : Nat} (hf1 : f1 < (prL 1 S).length) (k : ∀ B, qF A B s → P (some (0, ((nuR S f1 : Nat) : Int))) (gw G B)) : ZE (d + 3) M_Sea_numbersInRun (gw G A) 0 [(2, s), (0, (f1 : Int)), (9, 0), (9, 0)] [] P := by
  have hs0 := hR.K.2.1
  have hE0 := hR.E
  have hL64 := hR.l64
  have hpl : (prL 1 S).length = (prs S).length := by rw [prL_1 hR.s7 hR.p5]
  refine ZE.iconst (n := 2) d_Sea_numbersInRun_0 ?_
  refine ZE.istore_n (ls2 := [(2, s), (0, (f1 : Int)), (0, 2), (9, 0)]) d_Sea_numbersInRun_1 (Nat.le_of_ble_eq_true rfl) rfl ?_
  refine ZE.iload_n d_Sea_numbersInRun_2 rfl ?_
  refine ZE.iconst (n := 1) d_Sea_numbersInRun_3 ?_
  refine ZE.iadd d_Sea_numbersInRun_4 ?_
  rw [show ((f1 : Int) + 1 : Int) = ((f1 + 1 : Nat) : Int) from (by omega)]
  refine ZE.istore_n (ls2 := [(2, s), (0, (f1 : Int)), (0, 2), (0, ((f1 + 1 : Nat) : Int))]) d_Sea_numbersInRun_5 (Nat.le_of_ble_eq_true rfl) rfl ?_
  have L6 : ∀ (tt0 : Nat) (e1 : Nat) (A1 : Int → Int → Int) (g0 : Nat) (he : f1 ≤ e1 ∧ e1 < (prL 1 S).length) (hg0 : (prs S).length ≤ e1 + g0 + 1) (hq1 : qF A A1 s) (hen : enE S f1 (prs S).length = enE S e1 g0), (prL 1 S).length + 1 - e1 < tt0 → ZE (d + 3) M_Sea_numbersInRun (gw G A1) 6 [(2, s), (0, (f1 : Int)), (0, ((e1 - f1 + 2 : Nat) : Int)), (0, ((e1 + 1 : Nat) : Int))] [] P := by
    intro tt0
    induction tt0 with
    | zero => intro e1 A1 g0 he hg0 hq1 hen hm; exact absurd hm (Nat.not_lt_zero _)
    | succ tt0 ih =>
      intro e1 A1 g0 he hg0 hq1 hen hm
      have hR1 := hR.q hq1
      refine ZE.iload_n d_Sea_numbersInRun_6 rfl ?_
      refine ZE.aload_n d_Sea_numbersInRun_7 rfl ?_
      refine ZE.getE (v := ((prL 1 S).length : Int)) d_Sea_numbersInRun_8 f_Sea_82 (tg := 0) rfl hR.K.1 hR1.n12 ?_
      refine ZE.icmp_ge (tgt := 31) d_Sea_numbersInRun_11 rfl (by unfold zR; omega) (by unfold zR; omega) (fun c11 => ?_) (fun c11 => ?_)
      · refine ZE.iload_n d_Sea_numbersInRun_31 rfl ?_
        refine ZE.iret d_Sea_numbersInRun_32 rfl ?_
        have hx : enE S e1 g0 = e1 := by
          cases g0 with
          | zero => rfl
          | succ g1 =>
            show (if e1 + 1 < (prs S).length ∧ pN S (e1 + 1) = pN S e1 + 1 then enE S (e1 + 1) g1 else e1) = _
            rw [if_neg (fun q => by omega)]
        have hy : nuR S f1 = e1 - f1 + 2 := by unfold nuR; rw [hen, hx]
        rw [hy] at k
        exact k A1 hq1
      · refine ZE.aload_n d_Sea_numbersInRun_14 rfl ?_
        refine ZE.iload_n d_Sea_numbersInRun_15 rfl ?_
        refine ZE.cV [(0, ((e1 + 1 : Nat) : Int))] [] [(2, s), (0, ((e1 + 1 : Nat) : Int))] d_Sea_numbersInRun_16 l_Sea_171 rfl rfl rfl rfl rfl rfl hR.K.1 ?_
        refine s_goesOn (d := d) hR1 (j := e1 + 1) (by omega) (fun A2 hqA2 => ?_)
        show ZE (d + 3) M_Sea_numbersInRun (gw G A2) 19 [(2, s), (0, (f1 : Int)), (0, ((e1 - f1 + 2 : Nat) : Int)), (0, ((e1 + 1 : Nat) : Int))] [(0, b2i (gob S (e1 + 1) = true))] _
        refine ZE.if_eq (tgt := 31) d_Sea_numbersInRun_19 rfl (zR_b2i _) (fun c19 => ?_) (fun c19 => ?_)
        · replace c19 := b2i_0.mp c19
          refine ZE.iload_n d_Sea_numbersInRun_31 rfl ?_
          refine ZE.iret d_Sea_numbersInRun_32 rfl ?_
          have hx : enE S e1 g0 = e1 := by
            cases g0 with
            | zero => rfl
            | succ g1 =>
              show (if e1 + 1 < (prs S).length ∧ pN S (e1 + 1) = pN S e1 + 1 then enE S (e1 + 1) g1 else e1) = _
              rw [if_neg (fun q => c19 (decide_eq_true ⟨by omega, q.1, by rw [Nat.add_sub_cancel]; exact q.2⟩))]
          have hy : nuR S f1 = e1 - f1 + 2 := by unfold nuR; rw [hen, hx]
          rw [hy] at k
          exact k A2 (hq1.tr hqA2)
        · replace c19 := b2i_n0.mp c19
          refine ZE.iinc (ls2 := [(2, s), (0, (f1 : Int)), (0, ((e1 - f1 + 2 : Nat) : Int) + 1), (0, ((e1 + 1 : Nat) : Int))]) d_Sea_numbersInRun_22 rfl rfl ?_
          refine ZE.iinc (ls2 := [(2, s), (0, (f1 : Int)), (0, ((e1 - f1 + 2 : Nat) : Int) + 1), (0, ((e1 + 1 : Nat) : Int) + 1)]) d_Sea_numbersInRun_25 rfl rfl ?_
          refine ZE.goto (tgt := 6) d_Sea_numbersInRun_28 rfl ?_
          rw [show ((e1 + 1 : Nat) : Int) + 1 = ((e1 + 1 + 1 : Nat) : Int) by omega, show ((e1 - f1 + 2 : Nat) : Int) + 1 = ((e1 + 1 - f1 + 2 : Nat) : Int) by omega]
          refine ih (e1 + 1) A2 (g0 - 1) (by omega) (by omega) (hq1.tr hqA2) ?_ (by omega)
          rw [hen]
          obtain ⟨g1, rfl⟩ : ∃ g1, g0 = g1 + 1 := ⟨g0 - 1, by omega⟩
          rw [Nat.add_sub_cancel]
          have hgb := of_decide_eq_true c19
          show (if e1 + 1 < (prs S).length ∧ pN S (e1 + 1) = pN S e1 + 1 then enE S (e1 + 1) g1 else e1) = _
          rw [if_pos ⟨hgb.2.1, by have := hgb.2.2; rw [Nat.add_sub_cancel] at this; exact this⟩]
  have L0 := L6 _ f1 A (prs S).length (by omega) (by omega) hR.rfq rfl (Nat.lt_succ_self _)
  rw [show f1 - f1 + 2 = 2 by omega] at L0
  exact L0
