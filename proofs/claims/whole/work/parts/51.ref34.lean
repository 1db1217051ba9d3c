def rk0 (S q c : Nat) : Nat := (vp (sev c) (pN S q + 1) + 10007 - vp (sev c) (pN S q)) % 10007
def rkA (R : Nat → Nat → Nat) (c m : Nat) : Nat → Nat → Nat
  | a, 0 => a
  | a, f + 1 => if a < m ∧ R a c = 0 then rkA R c m (a + 1) f else a
def rkE (R : Nat → Nat → Nat) (n c m b : Nat) : Nat → Nat → Nat := fun q d => if n < q ∧ q < m then tk (R q d) (R n d) (R q c * b % 10007) else R q d
def rkS (m : Nat) (st : (Nat → Nat → Nat) × Nat) (c : Nat) : (Nat → Nat → Nat) × Nat :=
  if rkA st.1 c m st.2 m = m then st else (rkE (swR st.1 (rkA st.1 c m st.2 m) st.2) st.2 c m (ivN (swR st.1 (rkA st.1 c m st.2 m) st.2 st.2 c)), st.2 + 1)
def rkF (S m : Nat) : Nat → (Nat → Nat → Nat) × Nat
  | 0 => (rk0 S, 0)
  | c + 1 => rkS m (rkF S m c) c
def rkV (S : Nat) (many : Int) : Int := if 0 ≤ many ∧ many ≤ ((prs S).length : Int) then ((rkF S many.toNat 7).2 : Int) else -1
theorem rkA_stop {R : Nat → Nat → Nat} {c m a f : Nat} (h : ¬ (a < m ∧ R a c = 0)) : rkA R c m a f = a := by
  cases f with
  | zero => rfl
  | succ f => exact if_neg h
theorem swR_lt {R : Nat → Nat → Nat} (h : ∀ q c, R q c < 10007) (a n : Nat) : ∀ q c, swR R a n q c < 10007 := by
  intro q c
  unfold swR
  split
  · exact h _ _
  · split
    · exact h _ _
    · exact h _ _
theorem tkR_lt {R : Nat → Nat → Nat} (h : ∀ q c, R q c < 10007) (r n b : Nat) : ∀ q c, tkR R r n b q c < 10007 := by
  intro q c
  unfold tkR
  split
  · exact tk_lt _ _ _
  · exact h _ _
theorem rkE_lt {R : Nat → Nat → Nat} (h : ∀ q c, R q c < 10007) (n c m b : Nat) : ∀ q d, rkE R n c m b q d < 10007 := by
  intro q d
  unfold rkE
  split
  · exact tk_lt _ _ _
  · exact h _ _
theorem rkA_le {R : Nat → Nat → Nat} {c m : Nat} : ∀ f a, a ≤ m → a ≤ rkA R c m a f ∧ rkA R c m a f ≤ m := by
  intro f
  induction f with
  | zero => intro a h; exact ⟨Nat.le_refl _, h⟩
  | succ f ih =>
    intro a h
    unfold rkA
    split
    · next h2 => have := ih (a + 1) (by omega); omega
    · omega
theorem rkF_ok (S m : Nat) : ∀ c, (∀ q d, (rkF S m c).1 q d < 10007) ∧ (rkF S m c).2 ≤ m ∧ (rkF S m c).2 ≤ c := by
  intro c
  induction c with
  | zero => exact ⟨fun q d => Nat.mod_lt _ (by decide), Nat.zero_le _, Nat.le_refl _⟩
  | succ c ih =>
    have h2 := rkA_le (R := (rkF S m c).1) (c := c) (m := m) m (rkF S m c).2 ih.2.1
    have e : rkF S m (c + 1) = rkS m (rkF S m c) c := rfl
    rw [e]
    unfold rkS
    split
    · exact ⟨ih.1, ih.2.1, by omega⟩
    · next h3 => exact ⟨rkE_lt (swR_lt ih.1 _ _) _ _ _ _, by show (rkF S m c).2 + 1 ≤ m; omega, by show (rkF S m c).2 + 1 ≤ c + 1; omega⟩
def rkP (R : Nat → Nat → Nat) (n c b r : Nat) : Nat → Nat → Nat := fun q d => if n < q ∧ q < r then tk (R q d) (R n d) (R q c * b % 10007) else R q d
theorem rkP_lt {R : Nat → Nat → Nat} (h : ∀ q c, R q c < 10007) (n c b r : Nat) : ∀ q d, rkP R n c b r q d < 10007 := by
  intro q d
  unfold rkP
  split
  · exact tk_lt _ _ _
  · exact h _ _
theorem rkP_0 (R : Nat → Nat → Nat) (n c b : Nat) : rkP R n c b (n + 1) = R := by
  funext q d
  unfold rkP
  rw [if_neg (by omega)]
theorem rkP_at {R : Nat → Nat → Nat} {n c b r q : Nat} (h : ¬ (n < q ∧ q < r)) (d : Nat) : rkP R n c b r q d = R q d := if_neg h
theorem rkP_s {f : Int → Int} {R : Nat → Nat → Nat} {n c b r m : Nat} (hr : n < r) (hc : c < 7) (h : rwM f (tkR (rkP R n c b r) r n (rkP R n c b r r c * b % 10007)) m) : rwM f (rkP R n c b (r + 1)) m := by
  intro q d h1 h2
  rw [h q d h1 h2]
  unfold tkR
  by_cases e : q = r
  · subst e
    rw [if_pos rfl, rkP_at (by omega), rkP_at (by omega), rkP_at (by omega)]
    unfold rkP
    rw [if_pos (by omega)]
  · rw [if_neg e]
    unfold rkP
    by_cases e2 : n < q ∧ q < r
    · rw [if_pos e2, if_pos (by omega)]
    · rw [if_neg e2, if_neg (by omega)]
def rkM (f : Int → Int) (R : Nat → Nat → Nat) (r j : Nat) : Prop := ∀ q c : Nat, c < 7 → (q < r ∨ (q = r ∧ c < j)) → f (7 * (q : Int) + c) = (R q c : Int)
theorem rkM_s {f : Int → Int} {R : Nat → Nat → Nat} {r j : Nat} {v : Int} (hj : j < 7) (h : rkM f R r j) (hv : v = (R r j : Int)) : rkM (up1 f (7 * (r : Int) + j) v) R r (j + 1) := by
  intro q c h1 h2
  by_cases e : q = r ∧ c = j
  · rw [e.1, e.2, up1_at, hv]
  · rw [up1_ne _ _ (by omega)]
    exact h q c h1 (by omega)
theorem ivF_lt : ∀ f l a b, a < 10007 → b < 10007 → ivF f l a b < 10007 := by
  intro f
  induction f with
  | zero => intro l a b h _; exact h
  | succ f ih =>
    intro l a b h1 h2
    unfold ivF
    split
    · exact h1
    · refine ih _ _ _ ?_ (Nat.mod_lt _ (by decide))
      split
      · exact Nat.mod_lt _ (by decide)
      · exact h1
theorem ivN_lt {v : Nat} (h : v < 10007) : ivN v < 10007 := ivF_lt 14 10005 1 v (by decide) h
theorem vp_32 {p s : Nat} (hp : 2 ≤ p) (h0 : 0 < s) (h : s < 2147483648) : vp p s ≤ 32 := by
  have h1 : ∀ f n, vpF f p n ≤ f := by
    intro f
    induction f with
    | zero => intro n; exact Nat.le_refl _
    | succ f ih => intro n; unfold vpF; split; have := ih (n / p); omega; omega
  have h2 : vp p s ≤ s.log2 + 1 := h1 _ _
  have h3 : s.log2 < 31 := (Nat.log2_lt (by omega)).mpr h
  omega
theorem rkM_n {f : Int → Int} {R : Nat → Nat → Nat} {r : Nat} (h : rkM f R r 7) : rkM f R (r + 1) 0 := fun q c h1 h2 => h q c h1 (by omega)
theorem rkM_w {f : Int → Int} {R : Nat → Nat → Nat} {r : Nat} (h : rkM f R r 0) : rwM f R r := fun q c h1 h2 => h q c h2 (Or.inl h1)
theorem quF.rows {A : Int → Int → Int} {o : Int} (f : Int → Int) : quF A (upA A (o + 13) f) o := ⟨fun b h1 h2 h3 h4 => upA_ne _ _ h3, fun i h1 h2 h3 => by rw [upA_ne _ _ (by omega)], by rw [upA_ne _ _ (by omega)]; exact quF.rf.2.2⟩
set_option maxRecDepth 20000 in
set_option maxHeartbeats 4000000 in
theorem r_rank {d : Nat} {G : zG} {A : Int → Int → Int} {P : Option zV → zG → Prop} {o : Int} (hK : RK G o) (hF : RF A o) {S : Nat} (hR : RS S A o) (hS7 : S < 128) (hp5 : pop S ≤ 5) {many : Int} (hmy : zR many) (k : ∀ A2, quF A A2 o → P (some (0, rkV S many)) (gw G A2)) : ZE (d + 1) M_Ref_rank (gw G A) 0 [(2, o), (0, many), (9, 0), (9, 0), (9, 0), (9, 0), (9, 0)] [] P := by
  have hpl := prs_288 hS7 hp5
  have hcl := cls_le hS7 hp5
  refine ZE.iload_n d_Ref_rank_0 rfl ?_
  refine ZE.i2l d_Ref_rank_1 hmy ?_
  refine ZE.lconst d_Ref_rank_2 ?_
  show ZE (d + 1) M_Ref_rank (gw G A) 3 [(2, o), (0, many), (9, 0), (9, 0), (9, 0), (9, 0), (9, 0)] [(1, 0), (1, many)] _
  refine ZE.aload_n d_Ref_rank_3 rfl ?_
  refine ZE.getE (v := ((prs S).length : Int)) d_Ref_rank_4 f_Ref_167 (tg := 0) rfl hK.1 hR.np ?_
  refine ZE.i2l d_Ref_rank_7 (by unfold zR; omega) ?_
  refine ZE.cS [(1, many), (1, 0), (1, ((prs S).length : Int))] [] [(1, many), (9, 0), (1, 0), (9, 0), (1, ((prs S).length : Int)), (9, 0)] d_Ref_rank_8 l_Ref_111 rfl rfl rfl rfl rfl rfl ?_
  refine r_isIn (by unfold zR at hmy; unfold zR64; omega) (by unfold zR64; omega) (by unfold zR64; omega) ?_
  show ZE (d + 1) M_Ref_rank (gw G A) 11 [(2, o), (0, many), (9, 0), (9, 0), (9, 0), (9, 0), (9, 0)] [(0, b2i (0 ≤ many ∧ many ≤ ((prs S).length : Int)))] _
  refine ZE.if_ne (tgt := 16) d_Ref_rank_11 rfl (zR_b2i _) (fun c11 => ?_) (fun c11 => ?_)
  · replace c11 := b2i_n0.mp c11
    obtain ⟨mn, hmn⟩ : ∃ mn : Nat, many = mn := ⟨many.toNat, by omega⟩
    subst hmn
    refine ZE.iconst (n := 0) d_Ref_rank_16 ?_
    refine ZE.istore_n (ls2 := [(2, o), (0, (mn : Int)), (0, 0), (9, 0), (9, 0), (9, 0), (9, 0)]) d_Ref_rank_17 (Nat.le_of_ble_eq_true rfl) rfl ?_
    have L18 : ∀ (t : Nat) (r : Nat) (f : Int → Int) (hr : r ≤ mn) (hf0 : rkM f (rk0 S) r 0), mn - r < t → ZE (d + 1) M_Ref_rank (gw G (upA A (o + 13) f)) 18 [(2, o), (0, (mn : Int)), (0, (r : Int)), (9, 0), (9, 0), (9, 0), (9, 0)] [] P := by
      intro t
      induction t with
      | zero => intro r f hr hf0 hm; exact absurd hm (Nat.not_lt_zero _)
      | succ t ih =>
        intro r f hr hf0 hm
        have ihO := ih
        have hmO := hm
        refine ZE.iload_n d_Ref_rank_18 rfl ?_
        refine ZE.iload_n d_Ref_rank_19 rfl ?_
        refine ZE.icmp_ge (tgt := 95) d_Ref_rank_20 rfl (by unfold zR; omega) (by unfold zR; omega) (fun c20 => ?_) (fun c20 => ?_)
        · have e1 : r = mn := by omega
          rw [e1] at hf0
          refine ZE.iconst (n := 0) d_Ref_rank_95 ?_
          refine ZE.istore_n (ls2 := [(2, o), (0, (mn : Int)), (0, 0), (9, 0), (9, 0), (9, 0), (9, 0)]) d_Ref_rank_96 (Nat.le_of_ble_eq_true rfl) rfl ?_
          refine ZE.iconst (n := 0) d_Ref_rank_97 ?_
          refine ZE.istore_n (ls2 := [(2, o), (0, (mn : Int)), (0, 0), (0, 0), (9, 0), (9, 0), (9, 0)]) d_Ref_rank_98 (Nat.le_of_ble_eq_true rfl) rfl ?_
          have L99 : ∀ (t : Nat) (j : Nat) (f : Int → Int) (hj : j ≤ 7) (hf0 : rwM f (rkF S mn j).1 mn), 7 - j < t → ZE (d + 1) M_Ref_rank (gw G (upA A (o + 13) f)) 99 [(2, o), (0, (mn : Int)), (0, ((rkF S mn j).2 : Int)), (0, (j : Int)), (9, 0), (9, 0), (9, 0)] [] P := by
            intro t
            induction t with
            | zero => intro j f hj hf0 hm; exact absurd hm (Nat.not_lt_zero _)
            | succ t ih =>
              intro j f hj hf0 hm
              have ihO := ih
              have hmO := hm
              have hst := rkF_ok S mn j
              refine ZE.iload_n d_Ref_rank_99 rfl ?_
              refine ZE.bipush (n := 7) d_Ref_rank_100 rfl ?_
              refine ZE.icmp_ge (tgt := 219) d_Ref_rank_102 rfl (by unfold zR; omega) (by unfold zR; omega) (fun c102 => ?_) (fun c102 => ?_)
              · have e2 : j = 7 := by omega
                refine ZE.iload_n d_Ref_rank_219 rfl ?_
                refine ZE.iret d_Ref_rank_220 rfl ?_
                have k1 := k _ (quF.rows f)
                rw [show rkV S (mn : Int) = ((rkF S mn 7).2 : Int) by unfold rkV; rw [if_pos (by omega), Int.toNat_natCast]] at k1
                rw [e2]
                exact k1
              · refine ZE.iload_n d_Ref_rank_105 rfl ?_
                refine ZE.istore (ls2 := [(2, o), (0, (mn : Int)), (0, ((rkF S mn j).2 : Int)), (0, (j : Int)), (0, ((rkF S mn j).2 : Int)), (9, 0), (9, 0)]) d_Ref_rank_106 (Nat.le_of_ble_eq_true rfl) rfl ?_
                have L108 : ∀ (t : Nat) (a : Nat) (fa : Nat) (ha1 : (rkF S mn j).2 ≤ a ∧ a ≤ mn) (haa : mn ≤ a + fa) (ha2 : rkA (rkF S mn j).1 j mn (rkF S mn j).2 mn = rkA (rkF S mn j).1 j mn a fa), mn - a < t → ZE (d + 1) M_Ref_rank (gw G (upA A (o + 13) f)) 108 [(2, o), (0, (mn : Int)), (0, ((rkF S mn j).2 : Int)), (0, (j : Int)), (0, (a : Int)), (9, 0), (9, 0)] [] P := by
                  intro t
                  induction t with
                  | zero => intro a fa ha1 haa ha2 hm; exact absurd hm (Nat.not_lt_zero _)
                  | succ t ih =>
                    intro a fa ha1 haa ha2 hm
                    have hRa := hst.1 a j
                    refine ZE.iload d_Ref_rank_108 rfl ?_
                    refine ZE.iload_n d_Ref_rank_110 rfl ?_
                    refine ZE.icmp_ge (tgt := 135) d_Ref_rank_111 rfl (by unfold zR; omega) (by unfold zR; omega) (fun c111 => ?_) (fun c111 => ?_)
                    · have haf : rkA (rkF S mn j).1 j mn (rkF S mn j).2 mn = a := ha2.trans (rkA_stop (by omega))
                      refine ZE.iload d_Ref_rank_135 rfl ?_
                      refine ZE.iload_n d_Ref_rank_137 rfl ?_
                      refine ZE.icmp_ne (tgt := 144) d_Ref_rank_138 rfl (by unfold zR; omega) (by unfold zR; omega) (fun c138 => ?_) (fun c138 => ?_)
                      · refine ZE.aload_n d_Ref_rank_144 rfl ?_
                        refine ZE.iload d_Ref_rank_145 rfl ?_
                        refine ZE.iload_n d_Ref_rank_147 rfl ?_
                        refine ZE.cV [(0, (a : Int)), (0, ((rkF S mn j).2 : Int))] [] [(2, o), (0, (a : Int)), (0, ((rkF S mn j).2 : Int)), (9, 0), (9, 0)] d_Ref_rank_148 l_Ref_302 rfl rfl rfl rfl rfl rfl hK.1 ?_
                        refine r_swap (a := a) (n := (rkF S mn j).2) (m := mn) (R := (rkF S mn j).1) hK (hF.uA (by omega)) (by omega) (by omega) (by omega) (fun q c h1 h2 => (congrFun (upA_at _ _ _) _).trans (hf0 q c h1 h2)) (fun f2 hf2 => ?_)
                        show ZE (d + 1) M_Ref_rank (gw G (upA (upA A (o + 13) f) (o + 13) f2)) 151 [(2, o), (0, (mn : Int)), (0, ((rkF S mn j).2 : Int)), (0, (j : Int)), (0, (a : Int)), (9, 0), (9, 0)] [] _
                        rw [upA_upA]
                        have hsl := swR_lt hst.1 a (rkF S mn j).2
                        have hsl2 := hsl (rkF S mn j).2 j
                        refine ZE.aload_n d_Ref_rank_151 rfl ?_
                        refine ZE.getE (v := o + 13) d_Ref_rank_152 f_Ref_46 (tg := 2) rfl hK.1 (hF.uA (by omega)).a22 ?_
                        refine ZE.bipush (n := 7) d_Ref_rank_155 rfl ?_
                        refine ZE.iload_n d_Ref_rank_157 rfl ?_
                        refine ZE.imul d_Ref_rank_158 ?_
                        refine ZE.iload_n d_Ref_rank_159 rfl ?_
                        refine ZE.iadd d_Ref_rank_160 ?_
                        refine ZE.ialdE (v := (swR (rkF S mn j).1 a (rkF S mn j).2 (rkF S mn j).2 j : Int)) d_Ref_rank_161 hK.k13 (by have hn0 := hK.n13; show 0 ≤ ((7 * ((rkF S mn j).2 : Int)) + (j : Int)) ∧ ((7 * ((rkF S mn j).2 : Int)) + (j : Int)) < gn G (o + 13); omega) ((congrFun (upA_at _ _ _) _).trans (hf2 (rkF S mn j).2 j (by omega) (by omega))) ?_
                        obtain ⟨b0, hb0⟩ : ∃ b0, b0 = ivN (swR (rkF S mn j).1 a (rkF S mn j).2 (rkF S mn j).2 j) := ⟨_, rfl⟩
                        refine ZE.cS [(0, (swR (rkF S mn j).1 a (rkF S mn j).2 (rkF S mn j).2 j : Int))] [] [(0, (swR (rkF S mn j).1 a (rkF S mn j).2 (rkF S mn j).2 j : Int)), (9, 0), (9, 0), (9, 0)] d_Ref_rank_162 l_Ref_305 rfl rfl rfl rfl rfl rfl ?_
                        refine r_inverse (v := swR (rkF S mn j).1 a (rkF S mn j).2 (rkF S mn j).2 j) (by omega) ?_
                        show ZE (d + 1) M_Ref_rank (gw G (upA A (o + 13) f2)) 165 [(2, o), (0, (mn : Int)), (0, ((rkF S mn j).2 : Int)), (0, (j : Int)), (0, (a : Int)), (9, 0), (9, 0)] [(0, (ivN (swR (rkF S mn j).1 a (rkF S mn j).2 (rkF S mn j).2 j) : Int))] _
                        rw [← hb0]
                        have hb7 : b0 < 10007 := by rw [hb0]; exact ivN_lt hsl2
                        refine ZE.istore (ls2 := [(2, o), (0, (mn : Int)), (0, ((rkF S mn j).2 : Int)), (0, (j : Int)), (0, (a : Int)), (0, (b0 : Int)), (9, 0)]) d_Ref_rank_165 (Nat.le_of_ble_eq_true rfl) rfl ?_
                        refine ZE.iload_n d_Ref_rank_167 rfl ?_
                        refine ZE.iconst (n := 1) d_Ref_rank_168 ?_
                        refine ZE.iadd d_Ref_rank_169 ?_
                        refine ZE.istore (ls2 := [(2, o), (0, (mn : Int)), (0, ((rkF S mn j).2 : Int)), (0, (j : Int)), (0, (a : Int)), (0, (b0 : Int)), (0, ((rkF S mn j).2 : Int) + 1)]) d_Ref_rank_170 (Nat.le_of_ble_eq_true rfl) rfl ?_
                        have L172 : ∀ (t : Nat) (r : Nat) (f3 : Int → Int) (hr1 : (rkF S mn j).2 + 1 ≤ r ∧ r ≤ mn) (hf4 : rwM f3 (rkP (swR (rkF S mn j).1 a (rkF S mn j).2) (rkF S mn j).2 j b0 r) mn), mn - r < t → ZE (d + 1) M_Ref_rank (gw G (upA A (o + 13) f3)) 172 [(2, o), (0, (mn : Int)), (0, ((rkF S mn j).2 : Int)), (0, (j : Int)), (0, (a : Int)), (0, (b0 : Int)), (0, (r : Int))] [] P := by
                          intro t
                          induction t with
                          | zero => intro r f3 hr1 hf4 hm; exact absurd hm (Nat.not_lt_zero _)
                          | succ t ih =>
                            intro r f3 hr1 hf4 hm
                            have hPl := rkP_lt (swR_lt hst.1 a (rkF S mn j).2) (rkF S mn j).2 j b0 r
                            have hP2 := hPl r j
                            have hmm := Nat.mul_le_mul (show rkP (swR (rkF S mn j).1 a (rkF S mn j).2) (rkF S mn j).2 j b0 r r j ≤ 10006 by omega) (show b0 ≤ 10006 by omega)
                            refine ZE.iload d_Ref_rank_172 rfl ?_
                            refine ZE.iload_n d_Ref_rank_174 rfl ?_
                            refine ZE.icmp_ge (tgt := 210) d_Ref_rank_175 rfl (by unfold zR; omega) (by unfold zR; omega) (fun c175 => ?_) (fun c175 => ?_)
                            · have e4 : r = mn := by omega
                              have hf3 : rwM f3 (rkE (swR (rkF S mn j).1 a (rkF S mn j).2) (rkF S mn j).2 j mn b0) mn := by rw [e4] at hf4; exact hf4
                              refine ZE.iinc (ls2 := [(2, o), (0, (mn : Int)), (0, ((rkF S mn j).2 : Int) + 1), (0, (j : Int)), (0, (a : Int)), (0, (b0 : Int)), (0, (r : Int))]) d_Ref_rank_210 rfl rfl ?_
                              refine ZE.iinc (ls2 := [(2, o), (0, (mn : Int)), (0, ((rkF S mn j).2 : Int) + 1), (0, (j : Int) + 1), (0, (a : Int)), (0, (b0 : Int)), (0, (r : Int))]) d_Ref_rank_213 rfl rfl ?_
                              refine ZE.goto (tgt := 99) d_Ref_rank_216 rfl ?_
                              refine ZE.mask [true, true, true, true, false, false, false] ?_
                              show ZE (d + 1) M_Ref_rank (gw G (upA A (o + 13) f3)) 99 [(2, o), (0, (mn : Int)), (0, ((rkF S mn j).2 : Int) + 1), (0, (j : Int) + 1), (9, 0), (9, 0), (9, 0)] [] _
                              rw [show (j : Int) + 1 = ((j + 1 : Nat) : Int) by omega]
                              have e1 : rkF S mn (j + 1) = (rkE (swR (rkF S mn j).1 a (rkF S mn j).2) (rkF S mn j).2 j mn (ivN (swR (rkF S mn j).1 a (rkF S mn j).2 (rkF S mn j).2 j)), (rkF S mn j).2 + 1) := by show rkS mn (rkF S mn j) j = _; unfold rkS; rw [haf]; exact if_neg (by omega)
                              rw [show ((rkF S mn j).2 : Int) + 1 = ((rkF S mn (j + 1)).2 : Int) by rw [e1]; rfl]
                              exact ihO (j + 1) f3 (by omega) (by rw [e1, ← hb0]; exact hf3) (by omega)
                            · refine ZE.aload_n d_Ref_rank_178 rfl ?_
                              refine ZE.iload d_Ref_rank_179 rfl ?_
                              refine ZE.iload_n d_Ref_rank_181 rfl ?_
                              refine ZE.aload_n d_Ref_rank_182 rfl ?_
                              refine ZE.getE (v := o + 13) d_Ref_rank_183 f_Ref_46 (tg := 2) rfl hK.1 (hF.uA (by omega)).a22 ?_
                              refine ZE.bipush (n := 7) d_Ref_rank_186 rfl ?_
                              refine ZE.iload d_Ref_rank_188 rfl ?_
                              refine ZE.imul d_Ref_rank_190 ?_
                              refine ZE.iload_n d_Ref_rank_191 rfl ?_
                              refine ZE.iadd d_Ref_rank_192 ?_
                              refine ZE.ialdE (v := (rkP (swR (rkF S mn j).1 a (rkF S mn j).2) (rkF S mn j).2 j b0 r r j : Int)) d_Ref_rank_193 hK.k13 (by have hn0 := hK.n13; show 0 ≤ ((7 * (r : Int)) + (j : Int)) ∧ ((7 * (r : Int)) + (j : Int)) < gn G (o + 13); omega) ((congrFun (upA_at _ _ _) _).trans (hf4 r j (by omega) (by omega))) ?_
                              refine ZE.iload d_Ref_rank_194 rfl ?_
                              refine ZE.imul d_Ref_rank_196 ?_
                              rw [show ((rkP (swR (rkF S mn j).1 a (rkF S mn j).2) (rkF S mn j).2 j b0 r r j : Int) * (b0 : Int) : Int) = ((rkP (swR (rkF S mn j).1 a (rkF S mn j).2) (rkF S mn j).2 j b0 r r j * b0 : Nat) : Int) from (Int.natCast_mul _ _).symm]
                              refine ZE.sipush (n := 10007) d_Ref_rank_197 rfl ?_
                              refine ZE.iremP d_Ref_rank_200 (by omega) ?_
                              rw [show (((rkP (swR (rkF S mn j).1 a (rkF S mn j).2) (rkF S mn j).2 j b0 r r j * b0 : Nat) : Int) % 10007 : Int) = ((rkP (swR (rkF S mn j).1 a (rkF S mn j).2) (rkF S mn j).2 j b0 r r j * b0 % 10007 : Nat) : Int) from (by omega)]
                              refine ZE.cV [(0, (r : Int)), (0, ((rkF S mn j).2 : Int)), (0, ((rkP (swR (rkF S mn j).1 a (rkF S mn j).2) (rkF S mn j).2 j b0 r r j * b0 % 10007 : Nat) : Int))] [] [(2, o), (0, (r : Int)), (0, ((rkF S mn j).2 : Int)), (0, ((rkP (swR (rkF S mn j).1 a (rkF S mn j).2) (rkF S mn j).2 j b0 r r j * b0 % 10007 : Nat) : Int)), (9, 0), (9, 0)] d_Ref_rank_201 l_Ref_308 rfl rfl rfl rfl rfl rfl hK.1 ?_
                              refine r_takeOff (r := r) (n := (rkF S mn j).2) (b := rkP (swR (rkF S mn j).1 a (rkF S mn j).2) (rkF S mn j).2 j b0 r r j * b0 % 10007) (m := mn) (R := rkP (swR (rkF S mn j).1 a (rkF S mn j).2) (rkF S mn j).2 j b0 r) hK (hF.uA (by omega)) (by omega) (by omega) (by omega) (by omega) (by omega) hPl (fun q c h1 h2 => (congrFun (upA_at _ _ _) _).trans (hf4 q c h1 h2)) (fun f5 hf5 => ?_)
                              show ZE (d + 1) M_Ref_rank (gw G (upA (upA A (o + 13) f3) (o + 13) f5)) 204 [(2, o), (0, (mn : Int)), (0, ((rkF S mn j).2 : Int)), (0, (j : Int)), (0, (a : Int)), (0, (b0 : Int)), (0, (r : Int))] [] _
                              rw [upA_upA]
                              refine ZE.iinc (ls2 := [(2, o), (0, (mn : Int)), (0, ((rkF S mn j).2 : Int)), (0, (j : Int)), (0, (a : Int)), (0, (b0 : Int)), (0, (r : Int) + 1)]) d_Ref_rank_204 rfl rfl ?_
                              refine ZE.goto (tgt := 172) d_Ref_rank_207 rfl ?_
                              rw [show (r : Int) + 1 = ((r + 1 : Nat) : Int) by omega]
                              exact ih (r + 1) _ (by omega) (rkP_s (by omega) (by omega) hf5) (by omega)
                        exact L172 _ ((rkF S mn j).2 + 1) f2 (by omega) (by rw [rkP_0]; exact hf2) (Nat.lt_succ_self _)
                      · refine ZE.goto (tgt := 213) d_Ref_rank_141 rfl ?_
                        refine ZE.iinc (ls2 := [(2, o), (0, (mn : Int)), (0, ((rkF S mn j).2 : Int)), (0, (j : Int) + 1), (0, (a : Int)), (9, 0), (9, 0)]) d_Ref_rank_213 rfl rfl ?_
                        refine ZE.goto (tgt := 99) d_Ref_rank_216 rfl ?_
                        refine ZE.mask [true, true, true, true, false, true, true] ?_
                        show ZE (d + 1) M_Ref_rank (gw G (upA A (o + 13) f)) 99 [(2, o), (0, (mn : Int)), (0, ((rkF S mn j).2 : Int)), (0, (j : Int) + 1), (9, 0), (9, 0), (9, 0)] [] _
                        rw [show (j : Int) + 1 = ((j + 1 : Nat) : Int) by omega]
                        have e1 : rkF S mn (j + 1) = rkF S mn j := by show rkS mn (rkF S mn j) j = _; unfold rkS; rw [haf]; exact if_pos (by omega)
                        rw [show ((rkF S mn j).2 : Int) = ((rkF S mn (j + 1)).2 : Int) by rw [e1]]
                        exact ihO (j + 1) f (by omega) (by rw [e1]; exact hf0) (by omega)
                    · refine ZE.aload_n d_Ref_rank_114 rfl ?_
                      refine ZE.getE (v := o + 13) d_Ref_rank_115 f_Ref_46 (tg := 2) rfl hK.1 (hF.uA (by omega)).a22 ?_
                      refine ZE.bipush (n := 7) d_Ref_rank_118 rfl ?_
                      refine ZE.iload d_Ref_rank_120 rfl ?_
                      refine ZE.imul d_Ref_rank_122 ?_
                      refine ZE.iload_n d_Ref_rank_123 rfl ?_
                      refine ZE.iadd d_Ref_rank_124 ?_
                      refine ZE.ialdE (v := ((rkF S mn j).1 a j : Int)) d_Ref_rank_125 hK.k13 (by have hn0 := hK.n13; show 0 ≤ ((7 * (a : Int)) + (j : Int)) ∧ ((7 * (a : Int)) + (j : Int)) < gn G (o + 13); omega) ((congrFun (upA_at _ _ _) _).trans (hf0 a j (by omega) (by omega))) ?_
                      refine ZE.if_ne (tgt := 135) d_Ref_rank_126 rfl (by unfold zR; omega) (fun c126 => ?_) (fun c126 => ?_)
                      · have haf : rkA (rkF S mn j).1 j mn (rkF S mn j).2 mn = a := ha2.trans (rkA_stop (by omega))
                        refine ZE.iload d_Ref_rank_135 rfl ?_
                        refine ZE.iload_n d_Ref_rank_137 rfl ?_
                        refine ZE.icmp_ne (tgt := 144) d_Ref_rank_138 rfl (by unfold zR; omega) (by unfold zR; omega) (fun c138 => ?_) (fun c138 => ?_)
                        · refine ZE.aload_n d_Ref_rank_144 rfl ?_
                          refine ZE.iload d_Ref_rank_145 rfl ?_
                          refine ZE.iload_n d_Ref_rank_147 rfl ?_
                          refine ZE.cV [(0, (a : Int)), (0, ((rkF S mn j).2 : Int))] [] [(2, o), (0, (a : Int)), (0, ((rkF S mn j).2 : Int)), (9, 0), (9, 0)] d_Ref_rank_148 l_Ref_302 rfl rfl rfl rfl rfl rfl hK.1 ?_
                          refine r_swap (a := a) (n := (rkF S mn j).2) (m := mn) (R := (rkF S mn j).1) hK (hF.uA (by omega)) (by omega) (by omega) (by omega) (fun q c h1 h2 => (congrFun (upA_at _ _ _) _).trans (hf0 q c h1 h2)) (fun f2 hf2 => ?_)
                          show ZE (d + 1) M_Ref_rank (gw G (upA (upA A (o + 13) f) (o + 13) f2)) 151 [(2, o), (0, (mn : Int)), (0, ((rkF S mn j).2 : Int)), (0, (j : Int)), (0, (a : Int)), (9, 0), (9, 0)] [] _
                          rw [upA_upA]
                          have hsl := swR_lt hst.1 a (rkF S mn j).2
                          have hsl2 := hsl (rkF S mn j).2 j
                          refine ZE.aload_n d_Ref_rank_151 rfl ?_
                          refine ZE.getE (v := o + 13) d_Ref_rank_152 f_Ref_46 (tg := 2) rfl hK.1 (hF.uA (by omega)).a22 ?_
                          refine ZE.bipush (n := 7) d_Ref_rank_155 rfl ?_
                          refine ZE.iload_n d_Ref_rank_157 rfl ?_
                          refine ZE.imul d_Ref_rank_158 ?_
                          refine ZE.iload_n d_Ref_rank_159 rfl ?_
                          refine ZE.iadd d_Ref_rank_160 ?_
                          refine ZE.ialdE (v := (swR (rkF S mn j).1 a (rkF S mn j).2 (rkF S mn j).2 j : Int)) d_Ref_rank_161 hK.k13 (by have hn0 := hK.n13; show 0 ≤ ((7 * ((rkF S mn j).2 : Int)) + (j : Int)) ∧ ((7 * ((rkF S mn j).2 : Int)) + (j : Int)) < gn G (o + 13); omega) ((congrFun (upA_at _ _ _) _).trans (hf2 (rkF S mn j).2 j (by omega) (by omega))) ?_
                          obtain ⟨b0, hb0⟩ : ∃ b0, b0 = ivN (swR (rkF S mn j).1 a (rkF S mn j).2 (rkF S mn j).2 j) := ⟨_, rfl⟩
                          refine ZE.cS [(0, (swR (rkF S mn j).1 a (rkF S mn j).2 (rkF S mn j).2 j : Int))] [] [(0, (swR (rkF S mn j).1 a (rkF S mn j).2 (rkF S mn j).2 j : Int)), (9, 0), (9, 0), (9, 0)] d_Ref_rank_162 l_Ref_305 rfl rfl rfl rfl rfl rfl ?_
                          refine r_inverse (v := swR (rkF S mn j).1 a (rkF S mn j).2 (rkF S mn j).2 j) (by omega) ?_
                          show ZE (d + 1) M_Ref_rank (gw G (upA A (o + 13) f2)) 165 [(2, o), (0, (mn : Int)), (0, ((rkF S mn j).2 : Int)), (0, (j : Int)), (0, (a : Int)), (9, 0), (9, 0)] [(0, (ivN (swR (rkF S mn j).1 a (rkF S mn j).2 (rkF S mn j).2 j) : Int))] _
                          rw [← hb0]
                          have hb7 : b0 < 10007 := by rw [hb0]; exact ivN_lt hsl2
                          refine ZE.istore (ls2 := [(2, o), (0, (mn : Int)), (0, ((rkF S mn j).2 : Int)), (0, (j : Int)), (0, (a : Int)), (0, (b0 : Int)), (9, 0)]) d_Ref_rank_165 (Nat.le_of_ble_eq_true rfl) rfl ?_
                          refine ZE.iload_n d_Ref_rank_167 rfl ?_
                          refine ZE.iconst (n := 1) d_Ref_rank_168 ?_
                          refine ZE.iadd d_Ref_rank_169 ?_
                          refine ZE.istore (ls2 := [(2, o), (0, (mn : Int)), (0, ((rkF S mn j).2 : Int)), (0, (j : Int)), (0, (a : Int)), (0, (b0 : Int)), (0, ((rkF S mn j).2 : Int) + 1)]) d_Ref_rank_170 (Nat.le_of_ble_eq_true rfl) rfl ?_
                          have L172 : ∀ (t : Nat) (r : Nat) (f3 : Int → Int) (hr1 : (rkF S mn j).2 + 1 ≤ r ∧ r ≤ mn) (hf4 : rwM f3 (rkP (swR (rkF S mn j).1 a (rkF S mn j).2) (rkF S mn j).2 j b0 r) mn), mn - r < t → ZE (d + 1) M_Ref_rank (gw G (upA A (o + 13) f3)) 172 [(2, o), (0, (mn : Int)), (0, ((rkF S mn j).2 : Int)), (0, (j : Int)), (0, (a : Int)), (0, (b0 : Int)), (0, (r : Int))] [] P := by
                            intro t
                            induction t with
                            | zero => intro r f3 hr1 hf4 hm; exact absurd hm (Nat.not_lt_zero _)
                            | succ t ih =>
                              intro r f3 hr1 hf4 hm
                              have hPl := rkP_lt (swR_lt hst.1 a (rkF S mn j).2) (rkF S mn j).2 j b0 r
                              have hP2 := hPl r j
                              have hmm := Nat.mul_le_mul (show rkP (swR (rkF S mn j).1 a (rkF S mn j).2) (rkF S mn j).2 j b0 r r j ≤ 10006 by omega) (show b0 ≤ 10006 by omega)
                              refine ZE.iload d_Ref_rank_172 rfl ?_
                              refine ZE.iload_n d_Ref_rank_174 rfl ?_
                              refine ZE.icmp_ge (tgt := 210) d_Ref_rank_175 rfl (by unfold zR; omega) (by unfold zR; omega) (fun c175 => ?_) (fun c175 => ?_)
                              · have e4 : r = mn := by omega
                                have hf3 : rwM f3 (rkE (swR (rkF S mn j).1 a (rkF S mn j).2) (rkF S mn j).2 j mn b0) mn := by rw [e4] at hf4; exact hf4
                                refine ZE.iinc (ls2 := [(2, o), (0, (mn : Int)), (0, ((rkF S mn j).2 : Int) + 1), (0, (j : Int)), (0, (a : Int)), (0, (b0 : Int)), (0, (r : Int))]) d_Ref_rank_210 rfl rfl ?_
                                refine ZE.iinc (ls2 := [(2, o), (0, (mn : Int)), (0, ((rkF S mn j).2 : Int) + 1), (0, (j : Int) + 1), (0, (a : Int)), (0, (b0 : Int)), (0, (r : Int))]) d_Ref_rank_213 rfl rfl ?_
                                refine ZE.goto (tgt := 99) d_Ref_rank_216 rfl ?_
                                refine ZE.mask [true, true, true, true, false, false, false] ?_
                                show ZE (d + 1) M_Ref_rank (gw G (upA A (o + 13) f3)) 99 [(2, o), (0, (mn : Int)), (0, ((rkF S mn j).2 : Int) + 1), (0, (j : Int) + 1), (9, 0), (9, 0), (9, 0)] [] _
                                rw [show (j : Int) + 1 = ((j + 1 : Nat) : Int) by omega]
                                have e1 : rkF S mn (j + 1) = (rkE (swR (rkF S mn j).1 a (rkF S mn j).2) (rkF S mn j).2 j mn (ivN (swR (rkF S mn j).1 a (rkF S mn j).2 (rkF S mn j).2 j)), (rkF S mn j).2 + 1) := by show rkS mn (rkF S mn j) j = _; unfold rkS; rw [haf]; exact if_neg (by omega)
                                rw [show ((rkF S mn j).2 : Int) + 1 = ((rkF S mn (j + 1)).2 : Int) by rw [e1]; rfl]
                                exact ihO (j + 1) f3 (by omega) (by rw [e1, ← hb0]; exact hf3) (by omega)
                              · refine ZE.aload_n d_Ref_rank_178 rfl ?_
                                refine ZE.iload d_Ref_rank_179 rfl ?_
                                refine ZE.iload_n d_Ref_rank_181 rfl ?_
                                refine ZE.aload_n d_Ref_rank_182 rfl ?_
                                refine ZE.getE (v := o + 13) d_Ref_rank_183 f_Ref_46 (tg := 2) rfl hK.1 (hF.uA (by omega)).a22 ?_
                                refine ZE.bipush (n := 7) d_Ref_rank_186 rfl ?_
                                refine ZE.iload d_Ref_rank_188 rfl ?_
                                refine ZE.imul d_Ref_rank_190 ?_
                                refine ZE.iload_n d_Ref_rank_191 rfl ?_
                                refine ZE.iadd d_Ref_rank_192 ?_
                                refine ZE.ialdE (v := (rkP (swR (rkF S mn j).1 a (rkF S mn j).2) (rkF S mn j).2 j b0 r r j : Int)) d_Ref_rank_193 hK.k13 (by have hn0 := hK.n13; show 0 ≤ ((7 * (r : Int)) + (j : Int)) ∧ ((7 * (r : Int)) + (j : Int)) < gn G (o + 13); omega) ((congrFun (upA_at _ _ _) _).trans (hf4 r j (by omega) (by omega))) ?_
                                refine ZE.iload d_Ref_rank_194 rfl ?_
                                refine ZE.imul d_Ref_rank_196 ?_
                                rw [show ((rkP (swR (rkF S mn j).1 a (rkF S mn j).2) (rkF S mn j).2 j b0 r r j : Int) * (b0 : Int) : Int) = ((rkP (swR (rkF S mn j).1 a (rkF S mn j).2) (rkF S mn j).2 j b0 r r j * b0 : Nat) : Int) from (Int.natCast_mul _ _).symm]
                                refine ZE.sipush (n := 10007) d_Ref_rank_197 rfl ?_
                                refine ZE.iremP d_Ref_rank_200 (by omega) ?_
                                rw [show (((rkP (swR (rkF S mn j).1 a (rkF S mn j).2) (rkF S mn j).2 j b0 r r j * b0 : Nat) : Int) % 10007 : Int) = ((rkP (swR (rkF S mn j).1 a (rkF S mn j).2) (rkF S mn j).2 j b0 r r j * b0 % 10007 : Nat) : Int) from (by omega)]
                                refine ZE.cV [(0, (r : Int)), (0, ((rkF S mn j).2 : Int)), (0, ((rkP (swR (rkF S mn j).1 a (rkF S mn j).2) (rkF S mn j).2 j b0 r r j * b0 % 10007 : Nat) : Int))] [] [(2, o), (0, (r : Int)), (0, ((rkF S mn j).2 : Int)), (0, ((rkP (swR (rkF S mn j).1 a (rkF S mn j).2) (rkF S mn j).2 j b0 r r j * b0 % 10007 : Nat) : Int)), (9, 0), (9, 0)] d_Ref_rank_201 l_Ref_308 rfl rfl rfl rfl rfl rfl hK.1 ?_
                                refine r_takeOff (r := r) (n := (rkF S mn j).2) (b := rkP (swR (rkF S mn j).1 a (rkF S mn j).2) (rkF S mn j).2 j b0 r r j * b0 % 10007) (m := mn) (R := rkP (swR (rkF S mn j).1 a (rkF S mn j).2) (rkF S mn j).2 j b0 r) hK (hF.uA (by omega)) (by omega) (by omega) (by omega) (by omega) (by omega) hPl (fun q c h1 h2 => (congrFun (upA_at _ _ _) _).trans (hf4 q c h1 h2)) (fun f5 hf5 => ?_)
                                show ZE (d + 1) M_Ref_rank (gw G (upA (upA A (o + 13) f3) (o + 13) f5)) 204 [(2, o), (0, (mn : Int)), (0, ((rkF S mn j).2 : Int)), (0, (j : Int)), (0, (a : Int)), (0, (b0 : Int)), (0, (r : Int))] [] _
                                rw [upA_upA]
                                refine ZE.iinc (ls2 := [(2, o), (0, (mn : Int)), (0, ((rkF S mn j).2 : Int)), (0, (j : Int)), (0, (a : Int)), (0, (b0 : Int)), (0, (r : Int) + 1)]) d_Ref_rank_204 rfl rfl ?_
                                refine ZE.goto (tgt := 172) d_Ref_rank_207 rfl ?_
                                rw [show (r : Int) + 1 = ((r + 1 : Nat) : Int) by omega]
                                exact ih (r + 1) _ (by omega) (rkP_s (by omega) (by omega) hf5) (by omega)
                          exact L172 _ ((rkF S mn j).2 + 1) f2 (by omega) (by rw [rkP_0]; exact hf2) (Nat.lt_succ_self _)
                        · refine ZE.goto (tgt := 213) d_Ref_rank_141 rfl ?_
                          refine ZE.iinc (ls2 := [(2, o), (0, (mn : Int)), (0, ((rkF S mn j).2 : Int)), (0, (j : Int) + 1), (0, (a : Int)), (9, 0), (9, 0)]) d_Ref_rank_213 rfl rfl ?_
                          refine ZE.goto (tgt := 99) d_Ref_rank_216 rfl ?_
                          refine ZE.mask [true, true, true, true, false, true, true] ?_
                          show ZE (d + 1) M_Ref_rank (gw G (upA A (o + 13) f)) 99 [(2, o), (0, (mn : Int)), (0, ((rkF S mn j).2 : Int)), (0, (j : Int) + 1), (9, 0), (9, 0), (9, 0)] [] _
                          rw [show (j : Int) + 1 = ((j + 1 : Nat) : Int) by omega]
                          have e1 : rkF S mn (j + 1) = rkF S mn j := by show rkS mn (rkF S mn j) j = _; unfold rkS; rw [haf]; exact if_pos (by omega)
                          rw [show ((rkF S mn j).2 : Int) = ((rkF S mn (j + 1)).2 : Int) by rw [e1]]
                          exact ihO (j + 1) f (by omega) (by rw [e1]; exact hf0) (by omega)
                      · refine ZE.iinc (ls2 := [(2, o), (0, (mn : Int)), (0, ((rkF S mn j).2 : Int)), (0, (j : Int)), (0, (a : Int) + 1), (9, 0), (9, 0)]) d_Ref_rank_129 rfl rfl ?_
                        refine ZE.goto (tgt := 108) d_Ref_rank_132 rfl ?_
                        rw [show (a : Int) + 1 = ((a + 1 : Nat) : Int) by omega]
                        refine ih (a + 1) (fa - 1) (by omega) (by omega) ?_ (by omega)
                        obtain ⟨fb, rfl⟩ : ∃ fb, fa = fb + 1 := ⟨fa - 1, by omega⟩
                        rw [ha2]; exact if_pos (by omega)
                exact L108 _ (rkF S mn j).2 mn (by omega) (by omega) rfl (Nat.lt_succ_self _)
          exact L99 _ 0 f (by omega) (rkM_w hf0) (Nat.lt_succ_self _)
        · refine ZE.iconst (n := 0) d_Ref_rank_23 ?_
          refine ZE.istore_n (ls2 := [(2, o), (0, (mn : Int)), (0, (r : Int)), (0, 0), (9, 0), (9, 0), (9, 0)]) d_Ref_rank_24 (Nat.le_of_ble_eq_true rfl) rfl ?_
          have L25 : ∀ (t : Nat) (j : Nat) (f1 : Int → Int) (hj : j ≤ 7) (hf2 : rkM f1 (rk0 S) r j), 7 - j < t → ZE (d + 1) M_Ref_rank (gw G (upA A (o + 13) f1)) 25 [(2, o), (0, (mn : Int)), (0, (r : Int)), (0, (j : Int)), (9, 0), (9, 0), (9, 0)] [] P := by
            intro t
            induction t with
            | zero => intro j f1 hj hf2 hm; exact absurd hm (Nat.not_lt_zero _)
            | succ t ih =>
              intro j f1 hj hf2 hm
              have hQ := prs_ok hS7 hp5 (k := r) (by omega)
              have hQ1 : 1 ≤ pN S r ∧ pN S r < 1000000000 := ⟨hQ.1, hQ.2.1⟩
              refine ZE.iload_n d_Ref_rank_25 rfl ?_
              refine ZE.bipush (n := 7) d_Ref_rank_26 rfl ?_
              refine ZE.icmp_ge (tgt := 89) d_Ref_rank_28 rfl (by unfold zR; omega) (by unfold zR; omega) (fun c28 => ?_) (fun c28 => ?_)
              · have e2 : j = 7 := by omega
                rw [e2] at hf2
                refine ZE.iinc (ls2 := [(2, o), (0, (mn : Int)), (0, (r : Int) + 1), (0, (j : Int)), (9, 0), (9, 0), (9, 0)]) d_Ref_rank_89 rfl rfl ?_
                refine ZE.goto (tgt := 18) d_Ref_rank_92 rfl ?_
                refine ZE.mask [true, true, true, false, true, true, true] ?_
                show ZE (d + 1) M_Ref_rank (gw G (upA A (o + 13) f1)) 18 [(2, o), (0, (mn : Int)), (0, (r : Int) + 1), (9, 0), (9, 0), (9, 0), (9, 0)] [] _
                rw [show (r : Int) + 1 = ((r + 1 : Nat) : Int) by omega]
                exact ihO (r + 1) f1 (by omega) (rkM_n hf2) (by omega)
              · refine ZE.aload_n d_Ref_rank_31 rfl ?_
                refine ZE.getE (v := o + 13) d_Ref_rank_32 f_Ref_46 (tg := 2) rfl hK.1 (hF.uA (by omega)).a22 ?_
                refine ZE.bipush (n := 7) d_Ref_rank_35 rfl ?_
                refine ZE.iload_n d_Ref_rank_37 rfl ?_
                refine ZE.imul d_Ref_rank_38 ?_
                refine ZE.iload_n d_Ref_rank_39 rfl ?_
                refine ZE.iadd d_Ref_rank_40 ?_
                refine ZE.aload_n d_Ref_rank_41 rfl ?_
                refine ZE.getE (v := o + 7) d_Ref_rank_42 f_Ref_28 (tg := 2) rfl hK.1 (hF.uA (by omega)).a12 ?_
                refine ZE.iload_n d_Ref_rank_45 rfl ?_
                refine ZE.ialdE (v := (pN S r : Int)) d_Ref_rank_46 hK.k7 (by have hn0 := hK.n7; show 0 ≤ (r : Int) ∧ (r : Int) < gn G (o + 7); omega) ((congrFun (upA_ne _ _ (by omega)) _).trans (hR.p r (by omega)).1) ?_
                refine ZE.iconst (n := 1) d_Ref_rank_47 ?_
                refine ZE.iadd d_Ref_rank_48 ?_
                rw [show ((pN S r : Int) + 1 : Int) = ((pN S r + 1 : Nat) : Int) from (by omega)]
                refine ZE.aload_n d_Ref_rank_49 rfl ?_
                refine ZE.getE (v := o + 1) d_Ref_rank_50 f_Ref_9 (tg := 2) rfl hK.1 (hF.uA (by omega)).a0 ?_
                refine ZE.iload_n d_Ref_rank_53 rfl ?_
                refine ZE.ialdE (v := (sev j : Int)) d_Ref_rank_54 hK.k1 (by have hn0 := hK.n1; show 0 ≤ (j : Int) ∧ (j : Int) < gn G (o + 1); omega) ((hF.uA (by omega)).sev j (by omega)) ?_
                have hsl := sev_lt j (by omega)
                refine ZE.cS [(0, ((pN S r + 1 : Nat) : Int)), (0, (sev j : Int))] [(0, (7 * (r : Int)) + (j : Int)), (2, o + 13)] [(0, ((pN S r + 1 : Nat) : Int)), (0, (sev j : Int)), (9, 0), (9, 0)] d_Ref_rank_55 l_Ref_273 rfl rfl rfl rfl rfl rfl ?_
                refine r_powerIn (s := pN S r + 1) (p := sev j) (by omega) (by omega) (by omega) (by omega) ?_
                show ZE (d + 1) M_Ref_rank (gw G (upA A (o + 13) f1)) 58 [(2, o), (0, (mn : Int)), (0, (r : Int)), (0, (j : Int)), (9, 0), (9, 0), (9, 0)] [(0, (vp (sev j) (pN S r + 1) : Int)), (0, (7 * (r : Int)) + (j : Int)), (2, o + 13)] _
                refine ZE.aload_n d_Ref_rank_58 rfl ?_
                refine ZE.getE (v := o + 7) d_Ref_rank_59 f_Ref_28 (tg := 2) rfl hK.1 (hF.uA (by omega)).a12 ?_
                refine ZE.iload_n d_Ref_rank_62 rfl ?_
                refine ZE.ialdE (v := (pN S r : Int)) d_Ref_rank_63 hK.k7 (by have hn0 := hK.n7; show 0 ≤ (r : Int) ∧ (r : Int) < gn G (o + 7); omega) ((congrFun (upA_ne _ _ (by omega)) _).trans (hR.p r (by omega)).1) ?_
                refine ZE.aload_n d_Ref_rank_64 rfl ?_
                refine ZE.getE (v := o + 1) d_Ref_rank_65 f_Ref_9 (tg := 2) rfl hK.1 (hF.uA (by omega)).a0 ?_
                refine ZE.iload_n d_Ref_rank_68 rfl ?_
                refine ZE.ialdE (v := (sev j : Int)) d_Ref_rank_69 hK.k1 (by have hn0 := hK.n1; show 0 ≤ (j : Int) ∧ (j : Int) < gn G (o + 1); omega) ((hF.uA (by omega)).sev j (by omega)) ?_
                refine ZE.cS [(0, (pN S r : Int)), (0, (sev j : Int))] [(0, (vp (sev j) (pN S r + 1) : Int)), (0, (7 * (r : Int)) + (j : Int)), (2, o + 13)] [(0, (pN S r : Int)), (0, (sev j : Int)), (9, 0), (9, 0)] d_Ref_rank_70 l_Ref_273 rfl rfl rfl rfl rfl rfl ?_
                refine r_powerIn (s := pN S r) (p := sev j) (by omega) (by omega) (by omega) (by omega) ?_
                show ZE (d + 1) M_Ref_rank (gw G (upA A (o + 13) f1)) 73 [(2, o), (0, (mn : Int)), (0, (r : Int)), (0, (j : Int)), (9, 0), (9, 0), (9, 0)] [(0, (vp (sev j) (pN S r) : Int)), (0, (vp (sev j) (pN S r + 1) : Int)), (0, (7 * (r : Int)) + (j : Int)), (2, o + 13)] _
                have hv1 := vp_32 (p := sev j) (s := pN S r + 1) (by omega) (by omega) (by omega)
                have hv2 := vp_32 (p := sev j) (s := pN S r) (by omega) (by omega) (by omega)
                refine ZE.isub d_Ref_rank_73 ?_
                refine ZE.sipush (n := 10007) d_Ref_rank_74 rfl ?_
                refine ZE.iadd d_Ref_rank_77 ?_
                refine ZE.sipush (n := 10007) d_Ref_rank_78 rfl ?_
                refine ZE.iremP d_Ref_rank_81 (by omega) ?_
                rw [show ((((vp (sev j) (pN S r + 1) : Int) - (vp (sev j) (pN S r) : Int)) + 10007) % 10007 : Int) = (rk0 S r j : Int) from (by unfold rk0; omega)]
                refine ZE.iast d_Ref_rank_82 hK.k13 (by have hn0 := hK.n13; show 0 ≤ ((7 * (r : Int)) + (j : Int)) ∧ ((7 * (r : Int)) + (j : Int)) < gn G (o + 13); omega) ?_
                show ZE (d + 1) M_Ref_rank (gw G (up2 (upA A (o + 13) f1) (o + 13) ((7 * (r : Int)) + (j : Int)) (rk0 S r j : Int))) 83 [(2, o), (0, (mn : Int)), (0, (r : Int)), (0, (j : Int)), (9, 0), (9, 0), (9, 0)] [] _
                rw [up2_upA]
                refine ZE.iinc (ls2 := [(2, o), (0, (mn : Int)), (0, (r : Int)), (0, (j : Int) + 1), (9, 0), (9, 0), (9, 0)]) d_Ref_rank_83 rfl rfl ?_
                refine ZE.goto (tgt := 25) d_Ref_rank_86 rfl ?_
                rw [show (j : Int) + 1 = ((j + 1 : Nat) : Int) by omega]
                exact ih (j + 1) _ (by omega) (rkM_s (by omega) hf2 rfl) (by omega)
          exact L25 _ 0 f (by omega) hf0 (Nat.lt_succ_self _)
    have L0 := L18 _ 0 (A (o + 13)) (by omega) (fun q c h1 h2 => absurd h2 (by omega)) (Nat.lt_succ_self _)
    rw [upA_self] at L0
    exact L0
  · replace c11 := b2i_0.mp c11
    refine ZE.iconst (n := (-1)) d_Ref_rank_14 ?_
    refine ZE.iret d_Ref_rank_15 rfl ?_
    have k1 := k A quF.rf
    rw [show rkV S many = -1 from if_neg c11] at k1
    exact k1
