theorem z8_s {x1 : Int} (h : 0 ≤ x1 ∧ x1 < 128) : z8 x1 = x1 := by
  unfold z8
  exact Int8.toInt_ofInt_of_le (by omega) (by omega)
def hrG (D : Nat) : Nat := (nsG D (isq D) (rnd D - 1) (0, 1, isq D) (isq D, 1, 1, 0)).2.2.1
theorem hrG_eq (D : Nat) : hrG D = hfr D (isq D) (rnd D) := by
  have h := nsG_eq D (isq D) (rnd D - 1) 0
  unfold hrG hfr
  rw [Nat.zero_add] at h
  rw [← h]
  rfl
def dlx (D : Nat) : Nat := dl (if rnd D % 2 = 1 then hpG D * hpG D * 2 + 1 else hpG D)
def dly (D : Nat) : Nat := dl (if rnd D % 2 = 1 then hpG D * hrG D * 2 + 0 else hrG D)
theorem dlx_eq (D : Nat) : dlx D = dl (ux D) := by unfold dlx ux unx; rw [hpG_eq]
theorem dly_eq (D : Nat) : dly D = dl (uy D) := by unfold dly uy uny; rw [hpG_eq, hrG_eq]
def plL : List Nat := [3, 0, 3, 3, 4, 4, 5, 5, 4, 7, 5, 5, 7, 5, 6, 6, 7, 7, 5, 5, 5, 6, 7, 9, 11, 8, 6, 11, 7, 12, 9, 10, 6, 7, 5, 5, 9, 7, 6, 8, 5, 16, 8, 8, 7, 10, 8, 12, 14, 8, 8, 15, 11, 24, 8, 12, 18, 16, 8, 14, 10, 25, 11, 0, 5, 5, 7, 10, 7, 14, 8, 8, 11, 12, 10, 9, 6, 21, 8, 8, 10, 16, 6, 15, 17, 16, 9, 12, 8, 33, 14, 12, 23, 17, 10, 0, 8, 9, 9, 8, 10, 22, 12, 20, 28, 12, 11, 8, 16, 15, 14, 0, 13, 48, 18, 19, 11, 9, 11, 0, 23, 21, 17, 0, 12, 0, 0, 0]
theorem pl_tab : ∀ s, s < 128 → pop s ≤ 5 → s ≠ 1 → dl (rad s) + dlx (2 * rad s) + dly (2 * rad s) ≤ plL.getD s 0 := by decide +kernel
def sumL (f : Nat → Nat) : List Nat → Nat
  | [] => 0
  | a :: l => f a + sumL f l
theorem sumF_first (g : Nat → Nat) : ∀ n, sumF g (n + 1) = g 0 + sumF (fun k => g (k + 1)) n := by
  intro n
  induction n with
  | zero => show 0 + g 0 = g 0 + 0; omega
  | succ n ih =>
    have e1 : sumF g (n + 1 + 1) = sumF g (n + 1) + g (n + 1) := rfl
    have e2 : sumF (fun k => g (k + 1)) (n + 1) = sumF (fun k => g (k + 1)) n + g (n + 1) := rfl
    rw [e1, e2, ih]
    omega
theorem sumL_eq (f : Nat → Nat) : ∀ l : List Nat, sumF (fun k => f (l.getD k 0)) l.length = sumL f l := by
  intro l
  induction l with
  | nil => rfl
  | cons a l ih =>
    rw [List.length_cons, sumF_first]
    show f a + sumF (fun k => f (l.getD k 0)) l.length = _
    rw [ih]
    rfl
theorem pl_sum : ∀ S, S < 128 → pop S ≤ 5 → sumL (fun s => plL.getD s 0 + 3 + 4 * bnd S) (csF S 1 128) ≤ 1999 := by decide +kernel
theorem sumF_mono (g : Nat → Nat) : ∀ n m, m ≤ n → sumF g m ≤ sumF g n := by
  intro n
  induction n with
  | zero => intro m h; have : m = 0 := by omega
            subst this; exact Nat.le_refl _
  | succ n ih =>
    intro m h
    by_cases e : m = n + 1
    · subst e; exact Nat.le_refl _
    · have h1 := ih m (by omega)
      show sumF g m ≤ sumF g n + g n
      omega
def plC (S k : Nat) : Nat := plL.getD ((csF S 1 128).getD k 0) 0 + 3 + 4 * bnd S
theorem plC_ok {S : Nat} (hS : S < 128) (hp : pop S ≤ 5) {c : Nat} (hc : c < (csF S 1 128).length) : dl (rad ((csF S 1 128).getD c 0)) + dl (ux (d1 S c)) + dl (uy (d1 S c)) + 3 + 4 * bnd S ≤ plC S c ∧ sumF (plC S) c + plC S c ≤ 1999 := by
  have h1 := csF_lt S 1 128 c hc
  have h2 := pop_sub S hS _ h1.1 h1.2.1
  have h3 := pl_tab _ h1.1 (by omega) h1.2.2
  rw [dlx_eq, dly_eq] at h3
  have h4 := pl_sum S hS hp
  rw [← sumL_eq] at h4
  have h5 : sumF (plC S) (c + 1) ≤ sumF (plC S) (csF S 1 128).length := sumF_mono _ _ _ hc
  refine ⟨?_, Nat.le_trans h5 h4⟩
  unfold plC
  exact Nat.add_le_add_right (Nat.add_le_add_right h3 3) _
def dgs (v : Nat) : Nat → List Nat
  | 0 => []
  | k + 1 => (48 + dg 10 v k) :: dgs v k
def ptN (v : Nat) : List Nat := dgs v (dl v)
theorem dgs_len (v : Nat) : ∀ n, (dgs v n).length = n := by
  intro n
  induction n with
  | zero => rfl
  | succ n ih => unfold dgs; rw [List.length_cons, ih]
theorem ptN_len (v : Nat) : (ptN v).length = dl v := dgs_len v _
def lyF (A B : Int → Int → Int) (o : Int) : Prop := (∀ b : Int, b ≠ o → b ≠ o + 17 → B b = A b) ∧ ∀ i : Int, i ≠ 28 → B o i = A o i
theorem lyF.rf {A : Int → Int → Int} {o : Int} : lyF A A o := ⟨fun _ _ _ => rfl, fun _ _ => rfl⟩
theorem lyF.tr {A B C : Int → Int → Int} {o : Int} (a : lyF A B o) (b : lyF B C o) : lyF A C o := ⟨fun e h1 h2 => (b.1 e h1 h2).trans (a.1 e h1 h2), fun i h => (b.2 i h).trans (a.2 i h)⟩
theorem lyF.wi {A B : Int → Int → Int} {o : Int} (a : lyF A B o) : wiF A B o := ⟨fun b h => a.1 b (by omega) (by omega), fun i _ _ _ h _ _ => a.2 i h, by rw [a.1 (o + 2) (by omega) (by omega)]; exact rowF.rf⟩
def ltx (A : Int → Int → Int) (o : Int) (L : List Nat) : Prop := A o 28 = (L.length : Int) ∧ ∀ k : Nat, k < L.length → A (o + 17) k = (L.getD k 0 : Int)
theorem ltx.put {A : Int → Int → Int} {o : Int} {L : List Nat} {c : Nat} (h : ltx A o L) : ltx (up2 (up2 A (o + 17) (L.length : Int) (c : Int)) o 28 ((L.length : Int) + 1)) o (L ++ [c]) := by
  refine ⟨?_, fun k hk => ?_⟩
  · rw [up2_at, List.length_append]; rfl
  · rw [List.length_append] at hk
    have hk2 : k < L.length + 1 := hk
    rw [up2_ne _ _ (by omega)]
    by_cases e : k = L.length
    · subst e
      rw [up2_at, List.getD_eq_getElem?_getD, List.getElem?_append_right (Nat.le_refl _), Nat.sub_self]
      rfl
    · rw [up2_ne _ _ (by omega), List.getD_eq_getElem?_getD, List.getElem?_append_left (by omega), ← List.getD_eq_getElem?_getD]
      exact h.2 k (by omega)
theorem lyF.put {A : Int → Int → Int} {o i v w : Int} : lyF A (up2 (up2 A (o + 17) i v) o 28 w) o := ⟨fun b h1 h2 => by rw [up2_A, upA_ne _ _ h1, up2_A, upA_ne _ _ h2], fun j h => (up2_ne _ _ (fun q => h q.2)).trans (up2_ne _ _ (by omega))⟩
set_option maxRecDepth 20000 in
set_option maxHeartbeats 4000000 in
theorem r_put {d : Nat} {G : zG} {A : Int → Int → Int} {P : Option zV → zG → Prop} {o : Int} (hK : RK G o) (hF : RF A o) {L : List Nat} (hl : ltx A o L) (hL : L.length < 2000) {c : Nat} (hc : c < 128) (k : ∀ B, lyF A B o → ltx B o (L ++ [c]) → P none (gw G B)) : ZE d M_Ref_put (gw G A) 0 [(2, o), (0, (c : Int))] [] P := by
  refine ZE.aload_n d_Ref_put_0 rfl ?_
  refine ZE.getE (v := o + 17) d_Ref_put_1 f_Ref_59 (tg := 2) rfl hK.1 hF.a26 ?_
  refine ZE.aload_n d_Ref_put_4 rfl ?_
  refine ZE.getE (v := (L.length : Int)) d_Ref_put_5 f_Ref_391 (tg := 0) rfl hK.1 hl.1 ?_
  refine ZE.iload_n d_Ref_put_8 rfl ?_
  refine ZE.i2b d_Ref_put_9 ?_
  rw [show (z8 (c : Int) : Int) = (c : Int) from z8_s (by omega)]
  refine ZE.bast d_Ref_put_10 hK.k17 (by have hn0 := hK.n17; show 0 ≤ (L.length : Int) ∧ (L.length : Int) < gn G (o + 17); omega) ?_
  show ZE d M_Ref_put (gw G (up2 A (o + 17) (L.length : Int) (z8 (c : Int)))) 11 [(2, o), (0, (c : Int))] [] _
  refine ZE.aload_n d_Ref_put_11 rfl ?_
  refine ZE.dup d_Ref_put_12 (Or.inr rfl) ?_
  refine ZE.getE (v := (L.length : Int)) d_Ref_put_13 f_Ref_391 (tg := 0) rfl hK.1 ((up2_ne _ _ (by omega)).trans hl.1) ?_
  refine ZE.iconst (n := 1) d_Ref_put_16 ?_
  refine ZE.iadd d_Ref_put_17 ?_
  refine ZE.put d_Ref_put_18 f_Ref_391 (tg := 0) rfl trivial (Or.inl ⟨_, _, _, rfl, rfl, rfl⟩) hK.1 ?_
  show ZE d M_Ref_put (gw G (up2 (up2 A (o + 17) (L.length : Int) (z8 (c : Int))) o 28 ((L.length : Int) + 1))) 21 [(2, o), (0, (c : Int))] [] _
  refine ZE.vret d_Ref_put_21 rfl ?_
  exact k _ lyF.put (by have q := hl.put (c := c); rw [← z8_s (show 0 ≤ (c : Int) ∧ (c : Int) < 128 by omega)] at q; exact q)
set_option maxRecDepth 20000 in
set_option maxHeartbeats 4000000 in
theorem r_putNumber {d : Nat} {G : zG} {A : Int → Int → Int} {P : Option zV → zG → Prop} {o : Int} (hK : RK G o) (hF : RF A o) {L : List Nat} (hl : ltx A o L) {v : Nat} (hv : v < 2147483648) (hL : L.length + dl v ≤ 2000) (k : ∀ B, lyF A B o → ltx B o (L ++ ptN v) → P none (gw G B)) : ZE (d + 1) M_Ref_putNumber (gw G A) 0 [(2, o), (0, (v : Int)), (9, 0)] [] P := by
  have hdl : dl v < 2000000 := by omega
  refine ZE.iload_n d_Ref_putNumber_0 rfl ?_
  refine ZE.cS [(0, (v : Int))] [] [(0, (v : Int)), (9, 0), (9, 0)] d_Ref_putNumber_1 l_Ref_105 rfl rfl rfl rfl rfl rfl ?_
  refine r_digitsOf (s := v) hv ?_
  show ZE (d + 1) M_Ref_putNumber (gw G A) 4 [(2, o), (0, (v : Int)), (9, 0)] [(0, (dl v : Int))] _
  refine ZE.iconst (n := 1) d_Ref_putNumber_4 ?_
  refine ZE.isub d_Ref_putNumber_5 ?_
  refine ZE.istore_n (ls2 := [(2, o), (0, (v : Int)), (0, (dl v : Int) - 1)]) d_Ref_putNumber_6 (Nat.le_of_ble_eq_true rfl) rfl ?_
  have L7 : ∀ (t : Nat) (j : Nat) (B : Int → Int → Int) (M : List Nat) (hj : j ≤ dl v) (gB : lyF A B o) (hlM : ltx B o M) (hLM : M ++ dgs v j = L ++ ptN v), j < t → ZE (d + 1) M_Ref_putNumber (gw G B) 7 [(2, o), (0, (v : Int)), (0, (j : Int) - 1)] [] P := by
    intro t
    induction t with
    | zero => intro j B M hj gB hlM hLM hm; exact absurd hm (Nat.not_lt_zero _)
    | succ t ih =>
      intro j B M hj gB hlM hLM hm
      have hFB : RF B o := hF.wi gB.wi
      rcases Nat.eq_zero_or_pos j with hj0 | hj0
      · subst hj0
        refine ZE.iload_n d_Ref_putNumber_7 rfl ?_
        refine ZE.if_lt (tgt := 29) d_Ref_putNumber_8 rfl (by unfold zR; omega) (fun c8 => ?_) (fun c8 => ?_)
        · refine ZE.vret d_Ref_putNumber_29 rfl ?_
          have q : M = L ++ ptN v := by rw [← hLM]; exact (List.append_nil M).symm
          rw [q] at hlM
          exact k B gB hlM
        · exact absurd c8 (by omega)
      · obtain ⟨i, rfl⟩ : ∃ i, j = i + 1 := ⟨j - 1, by omega⟩
        rw [show ((i + 1 : Nat) : Int) - 1 = (i : Int) by omega]
        have hdi := dg_lt (b := 10) (by omega) v i
        have hlen : M.length + (i + 1) = L.length + dl v := by have q := congrArg List.length hLM; rw [List.length_append, List.length_append, dgs_len, ptN_len] at q; exact q
        refine ZE.iload_n d_Ref_putNumber_7 rfl ?_
        refine ZE.if_lt (tgt := 29) d_Ref_putNumber_8 rfl (by unfold zR; omega) (fun c8 => ?_) (fun c8 => ?_)
        · exact absurd c8 (by omega)
        · refine ZE.aload_n d_Ref_putNumber_11 rfl ?_
          refine ZE.bipush (n := 48) d_Ref_putNumber_12 rfl ?_
          refine ZE.iload_n d_Ref_putNumber_14 rfl ?_
          refine ZE.iload_n d_Ref_putNumber_15 rfl ?_
          refine ZE.cS [(0, (v : Int)), (0, (i : Int))] [(0, 48), (2, o)] [(0, (v : Int)), (0, (i : Int)), (9, 0), (9, 0)] d_Ref_putNumber_16 l_Ref_115 rfl rfl rfl rfl rfl rfl ?_
          refine r_digitIn (s := v) (i := i) hv (by omega) ?_
          show ZE (d + 1) M_Ref_putNumber (gw G B) 19 [(2, o), (0, (v : Int)), (0, (i : Int))] [(0, (dg 10 v i : Int)), (0, 48), (2, o)] _
          refine ZE.iadd d_Ref_putNumber_19 ?_
          rw [show (48 + (dg 10 v i : Int) : Int) = ((48 + dg 10 v i : Nat) : Int) from (by omega)]
          refine ZE.cV [(0, ((48 + dg 10 v i : Nat) : Int))] [] [(2, o), (0, ((48 + dg 10 v i : Nat) : Int))] d_Ref_putNumber_20 l_Ref_394 rfl rfl rfl rfl rfl rfl hK.1 ?_
          refine r_put (L := M) (c := 48 + dg 10 v i) hK hFB hlM (by omega) (by omega) (fun B2 gB2 hl2 => ?_)
          show ZE (d + 1) M_Ref_putNumber (gw G B2) 23 [(2, o), (0, (v : Int)), (0, (i : Int))] [] _
          refine ZE.iinc (ls2 := [(2, o), (0, (v : Int)), (0, (i : Int) + (-1))]) d_Ref_putNumber_23 rfl rfl ?_
          refine ZE.goto (tgt := 7) d_Ref_putNumber_26 rfl ?_
          rw [show (i : Int) + (-1) = (i : Int) - 1 by omega]
          exact ih i B2 (M ++ [48 + dg 10 v i]) (by omega) (gB.tr gB2) hl2 (by rw [List.append_assoc]; exact hLM) (by omega)
  exact L7 _ (dl v) A L (Nat.le_refl _) lyF.rf hl rfl (Nat.lt_succ_self _)
set_option maxRecDepth 20000 in
set_option maxHeartbeats 4000000 in
theorem r_putBig {d : Nat} {G : zG} {A : Int → Int → Int} {P : Option zV → zG → Prop} {o : Int} (hK : RK G o) (hF : RF A o) {L : List Nat} (hl : ltx A o L) {n : Int} (hn : 0 ≤ n ∧ n ≤ 131) {v : Nat} (hv : num (A (o + 2)) n v) (h9 : nd 10000 v ≤ 81) (hL : L.length + dl v ≤ 2000) (k : ∀ B, lyF A B o → ltx B o (L ++ ptN v) → P none (gw G B)) : ZE (d + 4) M_Ref_putBig (gw G A) 0 [(2, o), (0, n), (9, 0)] [] P := by
  have hdl : dl v < 2000000 := by omega
  refine ZE.aload_n d_Ref_putBig_0 rfl ?_
  refine ZE.iload_n d_Ref_putBig_1 rfl ?_
  refine ZE.cV [(0, n)] [] [(2, o), (0, n)] d_Ref_putBig_2 l_Ref_108 rfl rfl rfl rfl rfl rfl hK.1 ?_
  refine r_longOf (n := n) (v := v) hK hF hn hv (by omega) ?_
  show ZE (d + 4) M_Ref_putBig (gw G A) 5 [(2, o), (0, n), (9, 0)] [(0, (dl v : Int))] _
  refine ZE.iconst (n := 1) d_Ref_putBig_5 ?_
  refine ZE.isub d_Ref_putBig_6 ?_
  refine ZE.istore_n (ls2 := [(2, o), (0, n), (0, (dl v : Int) - 1)]) d_Ref_putBig_7 (Nat.le_of_ble_eq_true rfl) rfl ?_
  have L8 : ∀ (t : Nat) (j : Nat) (B : Int → Int → Int) (M : List Nat) (hj : j ≤ dl v) (gB : lyF A B o) (hlM : ltx B o M) (hLM : M ++ dgs v j = L ++ ptN v), j < t → ZE (d + 4) M_Ref_putBig (gw G B) 8 [(2, o), (0, n), (0, (j : Int) - 1)] [] P := by
    intro t
    induction t with
    | zero => intro j B M hj gB hlM hLM hm; exact absurd hm (Nat.not_lt_zero _)
    | succ t ih =>
      intro j B M hj gB hlM hLM hm
      have hFB : RF B o := hF.wi gB.wi
      rcases Nat.eq_zero_or_pos j with hj0 | hj0
      · subst hj0
        refine ZE.iload_n d_Ref_putBig_8 rfl ?_
        refine ZE.if_lt (tgt := 31) d_Ref_putBig_9 rfl (by unfold zR; omega) (fun c9 => ?_) (fun c9 => ?_)
        · refine ZE.vret d_Ref_putBig_31 rfl ?_
          have q : M = L ++ ptN v := by rw [← hLM]; exact (List.append_nil M).symm
          rw [q] at hlM
          exact k B gB hlM
        · exact absurd c9 (by omega)
      · obtain ⟨i, rfl⟩ : ∃ i, j = i + 1 := ⟨j - 1, by omega⟩
        rw [show ((i + 1 : Nat) : Int) - 1 = (i : Int) by omega]
        have hdi := dg_lt (b := 10) (by omega) v i
        have hlen : M.length + (i + 1) = L.length + dl v := by have q := congrArg List.length hLM; rw [List.length_append, List.length_append, dgs_len, ptN_len] at q; exact q
        refine ZE.iload_n d_Ref_putBig_8 rfl ?_
        refine ZE.if_lt (tgt := 31) d_Ref_putBig_9 rfl (by unfold zR; omega) (fun c9 => ?_) (fun c9 => ?_)
        · exact absurd c9 (by omega)
        · refine ZE.aload_n d_Ref_putBig_12 rfl ?_
          refine ZE.bipush (n := 48) d_Ref_putBig_13 rfl ?_
          refine ZE.aload_n d_Ref_putBig_15 rfl ?_
          refine ZE.iload_n d_Ref_putBig_16 rfl ?_
          refine ZE.iload_n d_Ref_putBig_17 rfl ?_
          have hnB : num (B (o + 2)) n v := by rw [gB.1 (o + 2) (by omega) (by omega)]; exact hv
          refine ZE.cV [(0, n), (0, (i : Int))] [(0, 48), (2, o)] [(2, o), (0, n), (0, (i : Int))] d_Ref_putBig_18 l_Ref_251 rfl rfl rfl rfl rfl rfl hK.1 ?_
          refine r_digitAt (n := n) (v := v) (i := (i : Int)) hK hFB hn hnB (by omega) (by unfold zR; omega) ?_
          show ZE (d + 4) M_Ref_putBig (gw G B) 21 [(2, o), (0, n), (0, (i : Int))] [(0, if 0 ≤ (i : Int) ∧ (i : Int) < dl v then (dg 10 v (i : Int).toNat : Int) else -1), (0, 48), (2, o)] _
          refine ZE.iadd d_Ref_putBig_21 ?_
          rw [show (48 + (if 0 ≤ (i : Int) ∧ (i : Int) < dl v then (dg 10 v (i : Int).toNat : Int) else -1) : Int) = ((48 + dg 10 v i : Nat) : Int) from (by rw [if_pos (by omega), Int.toNat_natCast]; omega)]
          refine ZE.cV [(0, ((48 + dg 10 v i : Nat) : Int))] [] [(2, o), (0, ((48 + dg 10 v i : Nat) : Int))] d_Ref_putBig_22 l_Ref_394 rfl rfl rfl rfl rfl rfl hK.1 ?_
          refine r_put (L := M) (c := 48 + dg 10 v i) hK hFB hlM (by omega) (by omega) (fun B2 gB2 hl2 => ?_)
          show ZE (d + 4) M_Ref_putBig (gw G B2) 25 [(2, o), (0, n), (0, (i : Int))] [] _
          refine ZE.iinc (ls2 := [(2, o), (0, n), (0, (i : Int) + (-1))]) d_Ref_putBig_25 rfl rfl ?_
          refine ZE.goto (tgt := 8) d_Ref_putBig_28 rfl ?_
          rw [show (i : Int) + (-1) = (i : Int) - 1 by omega]
          exact ih i B2 (M ++ [48 + dg 10 v i]) (by omega) (gB.tr gB2) hl2 (by rw [List.append_assoc]; exact hLM) (by omega)
  exact L8 _ (dl v) A L (Nat.le_refl _) lyF.rf hl rfl (Nat.lt_succ_self _)
