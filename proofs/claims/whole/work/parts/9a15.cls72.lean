theorem dvN_e {k1 n1 : Nat} (h0 : 0 < k1) (h1 : k1 ≤ n1) (h2 : n1 < 262144) : ∃ e1 t1 : Nat, t1 < 4503599627370496 ∧ (900 ≤ e1 ∧ e1 ≤ 1023) ∧ dvN k1 n1 = ((e1 * 4503599627370496 + t1 : Nat) : Int) := by
  obtain ⟨c, q, a1, a2, a3, a4, a5, a6⟩ := ddiv_nat h0 h1 h2
  have e := enc64 (c := c) (q := q) a2 a3 (by omega)
  refine ⟨(q + 1074).toNat + 1, c - 4503599627370496, by omega, by omega, ?_⟩
  unfold dvN
  rw [a1, e, dI_of (by omega)]
theorem saF_W {S : Nat} {w : Nat → Nat} {M : Nat} (h : SL S w M) : ∀ m a l j : Nat, a + m = 200001 → 1 ≤ a → j ≤ M → (∀ i, i < j → w i < a) → (∀ i, j ≤ i → i < M → a ≤ w i) → saF S l a m = vlF w M ((j + l : Nat) : Int) := by
  intro m
  induction m with
  | zero =>
    intro a l j ha _ hj _ hb
    have : j = M := by
      rcases Nat.lt_or_ge j M with q | q
      · have h1 := hb j (Nat.le_refl _) q; have h2 := (h.le q).2.1; omega
      · omega
    show (-1 : Int) = _
    unfold vlF
    rw [if_neg (by omega)]
  | succ m ih =>
    intro a l j ha h1 hj hlt hb
    rw [saF_s (by omega)]
    by_cases q : smB S a = true
    · rw [if_pos q]
      obtain ⟨i, hi, ei⟩ := h.2.2.2.2.2 a h1 (by omega) (by omega) q
      have hij : ¬ i < j := fun z => by have := hlt i z; omega
      have hjM : j < M := by omega
      have hie : i = j := by
        rcases Nat.lt_or_ge j i with r | r
        · have h2 := h.inc r hi; have h3 := hb j (Nat.le_refl _) hjM; omega
        · omega
      subst hie
      by_cases z : l = 0
      · subst z
        rw [if_pos rfl, Nat.add_zero, vlF_y hi, ei]
      · rw [if_neg z, show m + 1 - 1 = m by omega, ih (a + 1) (l - 1) (i + 1) (by omega) (by omega) (by omega) (fun p hp => by
          rcases Nat.lt_or_ge p i with r | r
          · have := hlt p r; omega
          · have : p = i := by omega
            subst this; omega) (fun p hp hp2 => by have := h.inc (show i < p by omega) hp2; omega), show i + 1 + (l - 1) = i + l by omega]
    · rw [if_neg q, show m + 1 - 1 = m by omega]
      exact ih (a + 1) l j (by omega) (by omega) hj (fun p hp => by have := hlt p hp; omega) (fun p hp hp2 => by
        have h2 := hb p hp hp2
        rcases Nat.eq_or_lt_of_le h2 with r | r
        · have h3 := (h.le hp2).2.2; rw [← r] at h3; exact absurd h3 q
        · omega)
theorem fsA_sa {S : Nat} : ∀ m a : Nat, fsA (smB S) a m = saF S 0 a m := by
  intro m
  induction m with
  | zero => intro a; rfl
  | succ m ih =>
    intro a
    show (if smB S a = true then (a : Int) else fsA (smB S) (a + 1) m) = (if smB S a = true then (if 0 = 0 then (a : Int) else saF S (0 - 1) (a + 1) m) else saF S 0 (a + 1) m)
    rw [ih, if_pos rfl]
theorem saV_W {S : Nat} {w : Nat → Nat} {M : Nat} (h : SL S w M) (i : Int) : saV S i = vlF w M i := by
  unfold saV
  by_cases q : i < 0
  · rw [if_pos q]; unfold vlF; rw [if_neg (by omega)]
  · rw [if_neg q, saF_W h 200000 1 i.toNat 0 (by omega) (by omega) (by omega) (fun p hp => by omega) (fun p _ hp => (h.le hp).1), show ((0 + i.toNat : Nat) : Int) = i by omega]
theorem nxV_W {S : Nat} {w : Nat → Nat} {M : Nat} (h : SL S w M) {n j : Nat} (hn : n ≤ 200000) (hj : j ≤ M) (ha : ∀ i, i < j → w i ≤ n) (hb : ∀ i, j ≤ i → i < M → n < w i) : nxV S (n : Int) = vlF w M (j : Int) := by
  unfold nxV
  rw [if_neg (by omega), Int.toNat_natCast, fsA_sa, saF_W h _ (n + 1) 0 j (by omega) (by omega) hj (fun p hp => by have := ha p hp; omega) (fun p hp hp2 => hb p hp hp2), Nat.add_zero]
theorem okG_ag {S : Nat} (hS : S < 128) (hp : pop S ≤ 5) : ∀ n, okG 1 S n = agOk S n := by
  intro n
  induction n with
  | zero => rfl
  | succ n ih =>
    have e : decide (snV 1 S (cnt (apB S 1) n : Int) = (n : Int) + 1) = (decide (cnt (apB S 1) n < (prs S).length) && decide (pN S (cnt (apB S 1) n) = n + 1)) := by
      unfold snV
      rw [prL_1 hS hp, Int.toNat_natCast, nN_1 hS hp]
      by_cases q : cnt (apB S 1) n < (prs S).length
      · rw [if_pos (by omega), decide_eq_true q, Bool.true_and]
        exact decide_eq_decide.mpr ⟨fun z => by omega, fun z => by omega⟩
      · rw [if_neg (by omega), decide_eq_false q, Bool.false_and]
        exact decide_eq_false (by omega)
    show (okG 1 S n && (!apB S 1 n || decide (snV 1 S (cnt (apB S 1) n : Int) = (n : Int) + 1))) = (agOk S n && (!apB S 1 n || (decide (cnt (apB S 1) n < (prs S).length) && decide (pN S (cnt (apB S 1) n) = n + 1))))
    rw [ih, e]
theorem say_ag {S u : Nat} (hS : S < 128) (hp : pop S ≤ 5) (hu : u ≤ 200000) (h8 : ∀ n, n < u → okG 1 S (u - 1) = true → cnt (apB S 1) n ≤ (prs S).length) : (sayV 1 S u = true ↔ agV S (u : Int) = true) := by
  unfold sayV agV
  rw [Int.toNat_natCast, okG_ag hS hp, decide_eq_true (show (0 : Int) ≤ (u : Int) ∧ (u : Int) ≤ 200000 by omega), Bool.true_and, Bool.and_eq_true, Bool.and_eq_true, Bool.or_eq_true, decide_eq_true_iff, decide_eq_true_iff, decide_eq_true_iff]
  obtain ⟨c, hc⟩ : ∃ c, c = cnt (apB S 1) (u - 1) := ⟨_, rfl⟩
  rw [← hc]
  have hs : snV 1 S (c : Int) = if c < (prs S).length then (pN S c : Int) else -1 := by
    unfold snV
    rw [prL_1 hS hp, Int.toNat_natCast, nN_1 hS hp]
    by_cases q : c < (prs S).length
    · rw [if_pos q, if_pos (by omega)]
    · rw [if_neg q, if_neg (by omega)]
  rw [hs]
  constructor
  · rintro ⟨h1, h2⟩
    refine ⟨h1, ?_⟩
    by_cases q : c < (prs S).length
    · rw [if_pos q] at h2; right; omega
    · left
      rcases Nat.eq_zero_or_pos u with z | z
      · subst z
        have : c = 0 := hc
        omega
      · have := h8 (u - 1) (by omega) (by rw [okG_ag hS hp]; exact h1); omega
  · rintro ⟨h1, h2⟩
    refine ⟨h1, ?_⟩
    by_cases q : c < (prs S).length
    · rw [if_pos q]; right; omega
    · rw [if_neg q]; left; rfl
theorem agOk_cnt {S : Nat} : ∀ n, agOk S n = true → cnt (apB S 1) n ≤ (prs S).length := by
  intro n
  induction n with
  | zero => intro _; exact Nat.zero_le _
  | succ n ih =>
    intro h
    unfold agOk at h
    rw [Bool.and_eq_true, Bool.or_eq_true, Bool.and_eq_true, decide_eq_true_iff] at h
    have h1 := ih h.1
    show (if apB S 1 n = true then cnt (apB S 1) n + 1 else cnt (apB S 1) n) ≤ _
    by_cases q : apB S 1 n = true
    · rw [if_pos q]
      rcases h.2 with z | z
      · rw [q] at z; exact absurd z (by decide)
      · exact z.1
    · rw [if_neg q]; exact h1
theorem say_agV {S u : Nat} (hS : S < 128) (hp : pop S ≤ 5) (hu : u ≤ 200000) : (sayV 1 S u = true ↔ agV S (u : Int) = true) := by
  refine say_ag hS hp hu (fun n hn hok => ?_)
  rw [okG_ag hS hp] at hok
  exact Nat.le_trans (cnt_mono (by omega)) (agOk_cnt _ hok)
theorem m_placeN {d : Nat} {G : zG} {A : Int → Int → Int} {P : Option zV → zG → Prop} {h : Int} (hK : mK G h) {S : Nat} {w : Nat → Nat} {M : Nat} (hQ : mS A h S w M) {n : Nat} (hn : n ≤ 200000) (k : P (some (0, (smC S n : Int))) (gw G A)) : ZE (d + 1) M_Smo_placeAbove (gw G A) 0 [(2, h), (0, (n : Int)), (9, 0), (9, 0), (9, 0), (9, 0)] [] P :=
  m_placeAbove hK hQ (by unfold zR; omega) (fun j j1 j2 j3 => by
    rw [smC_at hQ.2.2.2.1.2.2.2 (n := n) (j := j) (by omega) hn j1 (fun i hi => by have := j2 i hi; omega) (fun i hi hi2 => by have := j3 i hi hi2; omega)] at k
    exact k)
theorem m_wd1 {d : Nat} {G : zG} {A : Int → Int → Int} {P : Option zV → zG → Prop} {h : Int} (hK : mK G h) {S : Nat} {w : Nat → Nat} {M : Nat} (hQ : mS A h S w M) {u : Nat} (hu : u ≤ 200000) (k : P (some (0, (gpF S (u - 1)).2.1)) (gw G A)) : ZE (d + 1) M_Smo_widest (gw G A) 0 [(2, h), (0, (u : Int)), (0, 1), (9, 0), (9, 0), (9, 0), (9, 0)] [] P := m_widest hK hQ hu (Or.inr rfl) (fun _ => k) (fun q => absurd q (by omega))
theorem m_wd0 {d : Nat} {G : zG} {A : Int → Int → Int} {P : Option zV → zG → Prop} {h : Int} (hK : mK G h) {S : Nat} {w : Nat → Nat} {M : Nat} (hQ : mS A h S w M) {u : Nat} (hu : u ≤ 200000) (k : P (some (0, (gpF S (u - 1)).2.2)) (gw G A)) : ZE (d + 1) M_Smo_widest (gw G A) 0 [(2, h), (0, (u : Int)), (0, 0), (9, 0), (9, 0), (9, 0), (9, 0)] [] P := m_widest hK hQ hu (Or.inl rfl) (fun q => absurd q (by omega)) (fun _ => k)
set_option maxRecDepth 20000 in
set_option maxHeartbeats 4000000 in
theorem c_sfill {d : Nat} {P : Option zV → zG → Prop} {G : zG} {A : Int → Int → Int} {x : Int} {S T tl : Nat} {tf : Nat → Int} {wl : Nat} {wf : Nat → Int} (h : CI G A x S T tl tf wl wf) (k : ∀ B (w : Nat → Nat) (M : Nat), mS B (x + 93) S w M → CI G B x S T tl tf wl wf → cT G A G B x → P (some (2, x + 93)) (gw G B)) : ZE (d + 3) M_Smo_fill (gw G A) 0 [(2, x + 93), (0, (S : Int)), (9, 0), (9, 0), (9, 0)] [] P := by
  have hx0 := h.cCK.2.1
  have hgx := h.cL.2
  have hS := h.cS.2
  have hb : zR (A (x + 93) 6) ∧ (A (x + 93) 6 = (S : Int) → ∃ w M, mS A (x + 93) S w M) := by
    rcases h.cM.2 with q | ⟨S2, w, M, q1, q2⟩
    · exact ⟨by rw [q]; unfold zR; omega, fun z => by omega⟩
    · have q3 := q2.2.1
      refine ⟨by rw [q3]; unfold zR; omega, fun z => ?_⟩
      have e : S2 = S := by omega
      subst e
      exact ⟨w, M, q2⟩
  refine m_fill h.cCK.2.2.2.2.1 h.cM.1 h.cL.1 (by omega) hS.1 hS.2 rfl hb.1 hb.2 (fun B w M hQ fr => ?_)
  have e : ∀ a : Int, (a < x + 93 ∨ x + 98 < a) → B a = A a := fun a ha => fr a (by omega)
  exact k B w M hQ (h.sM e ⟨hQ.1, Or.inr ⟨S, w, M, hS.1, hQ⟩⟩) (cT.rg e (by omega) (by omega))
set_option maxRecDepth 20000 in
set_option maxHeartbeats 4000000 in
theorem c_smoothUpTo {d : Nat} {G : zG} {A : Int → Int → Int} {P : Option zV → zG → Prop} {x : Int} {S T tl : Nat} {tf : Nat → Int} {wl : Nat} {wf : Nat → Int} (h : CI G A x S T tl tf wl wf) {n : Int} (hn : zR n) (k : ∀ G2 A2, CI G2 A2 x S T tl tf wl wf → cT G A G2 A2 x → P (some (0, suV S n)) (gw G2 A2)) : ZE 11 M_SN_smoothUpTo (gw G A) 0 [(2, x), (0, n)] [] P := by
  have hx0 := h.cCK.2.1
  have hR := h.cR
  have hL := h.cL.1
  have hgx := h.cL.2
  have hS7 := h.cS.2.1
  have hp5 := h.cS.2.2
  have hE0 := hR.E
  have hL64 := hR.l64
  have hC32 := hR.c32
  have hpl : (prL 1 S).length = (prs S).length := by rw [prL_1 hS7 hp5]
  have hcl : (csA 1 S).length = (csF S 1 128).length := rfl
  refine ZE.iload_n d_SN_smoothUpTo_0 rfl ?_
  refine ZE.cS [(0, n)] [] [(0, n)] d_SN_smoothUpTo_1 l_SN_288 rfl rfl rfl rfl rfl rfl ?_
  refine c_upTo hn ?_
  show ZE 11 M_SN_smoothUpTo (gw G A) 4 [(2, x), (0, n)] [(0, b2i (0 ≤ n ∧ n ≤ 200000))] _
  refine ZE.if_eq (tgt := 25) d_SN_smoothUpTo_4 rfl (zR_b2i _) (fun c4 => ?_) (fun c4 => ?_)
  · replace c4 := b2i_0.mp c4
    refine ZE.iconst (n := (-1)) d_SN_smoothUpTo_25 ?_
    refine ZE.iret d_SN_smoothUpTo_26 rfl ?_
    have k1 := k G A h cT.rf
    rw [show suV S n = (-1) from if_neg (by omega)] at k1
    exact k1
  · replace c4 := b2i_n0.mp c4
    obtain ⟨nn, hnn⟩ : ∃ q9 : Nat, n = (q9 : Int) := ⟨n.toNat, by omega⟩
    subst hnn
    refine ZE.aload_n d_SN_smoothUpTo_7 rfl ?_
    refine ZE.getE (v := x + 93) d_SN_smoothUpTo_8 f_SN_24 (tg := 2) rfl h.cCK.1 h.cCF.2.2.1 ?_
    refine ZE.aload_n d_SN_smoothUpTo_11 rfl ?_
    refine ZE.getE (v := (S : Int)) d_SN_smoothUpTo_12 f_SN_72 (tg := 0) rfl h.cCK.1 h.cS.1 ?_
    refine ZE.cV [(0, (S : Int))] [] [(2, x + 93), (0, (S : Int)), (9, 0), (9, 0), (9, 0)] d_SN_smoothUpTo_15 l_SN_291 rfl rfl rfl rfl rfl rfl h.cCK.2.2.2.2.1.1 ?_
    refine c_sfill h (fun B w M hQ hB hT => ?_)
    show ZE 11 M_SN_smoothUpTo (gw G B) 18 [(2, x), (0, (nn : Int))] [(2, x + 93)] _
    have hKM := h.cCK.2.2.2.2.1
    refine ZE.iload_n d_SN_smoothUpTo_18 rfl ?_
    refine ZE.cV [(0, (nn : Int))] [] [(2, x + 93), (0, (nn : Int)), (9, 0), (9, 0), (9, 0), (9, 0)] d_SN_smoothUpTo_19 l_SN_294 rfl rfl rfl rfl rfl rfl h.cCK.2.2.2.2.1.1 ?_
    refine m_placeN hKM hQ (n := nn) (by omega) ?_
    show ZE 11 M_SN_smoothUpTo (gw G B) 22 [(2, x), (0, (nn : Int))] [(0, (smC S nn : Int))] _
    refine ZE.goto (tgt := 26) d_SN_smoothUpTo_22 rfl ?_
    refine ZE.iret d_SN_smoothUpTo_26 rfl ?_
    have k1 := k G B hB hT
    rw [show suV S (nn : Int) = ((smC S nn : Int)) from by unfold suV; rw [if_pos (by omega), Int.toNat_natCast]] at k1
    exact k1
set_option maxRecDepth 20000 in
set_option maxHeartbeats 4000000 in
theorem c_next {d : Nat} {G : zG} {A : Int → Int → Int} {P : Option zV → zG → Prop} {x : Int} {S T tl : Nat} {tf : Nat → Int} {wl : Nat} {wf : Nat → Int} (h : CI G A x S T tl tf wl wf) {n : Int} (hn : zR n) (k : ∀ G2 A2, CI G2 A2 x S T tl tf wl wf → cT G A G2 A2 x → P (some (0, nxV S n)) (gw G2 A2)) : ZE 11 M_SN_next (gw G A) 0 [(2, x), (0, n)] [] P := by
  have hx0 := h.cCK.2.1
  have hR := h.cR
  have hL := h.cL.1
  have hgx := h.cL.2
  have hS7 := h.cS.2.1
  have hp5 := h.cS.2.2
  have hE0 := hR.E
  have hL64 := hR.l64
  have hC32 := hR.c32
  have hpl : (prL 1 S).length = (prs S).length := by rw [prL_1 hS7 hp5]
  have hcl : (csA 1 S).length = (csF S 1 128).length := rfl
  refine ZE.iload_n d_SN_next_0 rfl ?_
  refine ZE.cS [(0, n)] [] [(0, n)] d_SN_next_1 l_SN_288 rfl rfl rfl rfl rfl rfl ?_
  refine c_upTo hn ?_
  show ZE 11 M_SN_next (gw G A) 4 [(2, x), (0, n)] [(0, b2i (0 ≤ n ∧ n ≤ 200000))] _
  refine ZE.if_eq (tgt := 25) d_SN_next_4 rfl (zR_b2i _) (fun c4 => ?_) (fun c4 => ?_)
  · replace c4 := b2i_0.mp c4
    refine ZE.iconst (n := (-1)) d_SN_next_25 ?_
    refine ZE.iret d_SN_next_26 rfl ?_
    have k1 := k G A h cT.rf
    rw [show nxV S n = (-1) from by unfold nxV; by_cases q : n < 0; exact if_pos q; (rw [if_neg q, show 200000 - n.toNat = 0 by omega]; rfl)] at k1
    exact k1
  · replace c4 := b2i_n0.mp c4
    obtain ⟨nn, hnn⟩ : ∃ q9 : Nat, n = (q9 : Int) := ⟨n.toNat, by omega⟩
    subst hnn
    refine ZE.aload_n d_SN_next_7 rfl ?_
    refine ZE.getE (v := x + 93) d_SN_next_8 f_SN_24 (tg := 2) rfl h.cCK.1 h.cCF.2.2.1 ?_
    refine ZE.aload_n d_SN_next_11 rfl ?_
    refine ZE.getE (v := (S : Int)) d_SN_next_12 f_SN_72 (tg := 0) rfl h.cCK.1 h.cS.1 ?_
    refine ZE.cV [(0, (S : Int))] [] [(2, x + 93), (0, (S : Int)), (9, 0), (9, 0), (9, 0)] d_SN_next_15 l_SN_291 rfl rfl rfl rfl rfl rfl h.cCK.2.2.2.2.1.1 ?_
    refine c_sfill h (fun B w M hQ hB hT => ?_)
    show ZE 11 M_SN_next (gw G B) 18 [(2, x), (0, (nn : Int))] [(2, x + 93)] _
    have hKM := h.cCK.2.2.2.2.1
    refine ZE.iload_n d_SN_next_18 rfl ?_
    refine ZE.cV [(0, (nn : Int))] [] [(2, x + 93), (0, (nn : Int))] d_SN_next_19 l_SN_300 rfl rfl rfl rfl rfl rfl h.cCK.2.2.2.2.1.1 ?_
    refine m_valueAbove hKM hQ (n := (nn : Int)) (by unfold zR; omega) (fun j j1 j2 j3 => ?_)
    show ZE 11 M_SN_next (gw G B) 22 [(2, x), (0, (nn : Int))] [(0, vlF w M (j : Int))] _
    refine ZE.goto (tgt := 26) d_SN_next_22 rfl ?_
    refine ZE.iret d_SN_next_26 rfl ?_
    have k1 := k G B hB hT
    rw [show nxV S (nn : Int) = (vlF w M (j : Int)) from nxV_W hQ.2.2.2.1 (by omega) j1 (fun i hi => by have := j2 i hi; omega) (fun i hi hi2 => by have := j3 i hi hi2; omega)] at k1
    exact k1
set_option maxRecDepth 20000 in
set_option maxHeartbeats 4000000 in
theorem c_sieved {d : Nat} {G : zG} {A : Int → Int → Int} {P : Option zV → zG → Prop} {x : Int} {S T tl : Nat} {tf : Nat → Int} {wl : Nat} {wf : Nat → Int} (h : CI G A x S T tl tf wl wf) {n : Int} (hn : zR n) (k : ∀ G2 A2, CI G2 A2 x S T tl tf wl wf → cT G A G2 A2 x → P (some (0, svV S n)) (gw G2 A2)) : ZE 11 M_SN_sieved (gw G A) 0 [(2, x), (0, n)] [] P := by
  have hx0 := h.cCK.2.1
  have hR := h.cR
  have hL := h.cL.1
  have hgx := h.cL.2
  have hS7 := h.cS.2.1
  have hp5 := h.cS.2.2
  have hE0 := hR.E
  have hL64 := hR.l64
  have hC32 := hR.c32
  have hpl : (prL 1 S).length = (prs S).length := by rw [prL_1 hS7 hp5]
  have hcl : (csA 1 S).length = (csF S 1 128).length := rfl
  refine ZE.iload_n d_SN_sieved_0 rfl ?_
  refine ZE.cS [(0, n)] [] [(0, n)] d_SN_sieved_1 l_SN_288 rfl rfl rfl rfl rfl rfl ?_
  refine c_upTo hn ?_
  show ZE 11 M_SN_sieved (gw G A) 4 [(2, x), (0, n)] [(0, b2i (0 ≤ n ∧ n ≤ 200000))] _
  refine ZE.if_eq (tgt := 26) d_SN_sieved_4 rfl (zR_b2i _) (fun c4 => ?_) (fun c4 => ?_)
  · replace c4 := b2i_0.mp c4
    refine ZE.iconst (n := (-1)) d_SN_sieved_26 ?_
    refine ZE.iret d_SN_sieved_27 rfl ?_
    have k1 := k G A h cT.rf
    rw [show svV S n = (-1) from if_neg (by omega)] at k1
    exact k1
  · replace c4 := b2i_n0.mp c4
    obtain ⟨nn, hnn⟩ : ∃ q9 : Nat, n = (q9 : Int) := ⟨n.toNat, by omega⟩
    subst hnn
    refine ZE.aload_n d_SN_sieved_7 rfl ?_
    refine ZE.getE (v := x + 93) d_SN_sieved_8 f_SN_24 (tg := 2) rfl h.cCK.1 h.cCF.2.2.1 ?_
    refine ZE.aload_n d_SN_sieved_11 rfl ?_
    refine ZE.getE (v := (S : Int)) d_SN_sieved_12 f_SN_72 (tg := 0) rfl h.cCK.1 h.cS.1 ?_
    refine ZE.cV [(0, (S : Int))] [] [(2, x + 93), (0, (S : Int)), (9, 0), (9, 0), (9, 0)] d_SN_sieved_15 l_SN_291 rfl rfl rfl rfl rfl rfl h.cCK.2.2.2.2.1.1 ?_
    refine c_sfill h (fun B w M hQ hB hT => ?_)
    show ZE 11 M_SN_sieved (gw G B) 18 [(2, x), (0, (nn : Int))] [(2, x + 93)] _
    have hKM := h.cCK.2.2.2.2.1
    refine ZE.iconst (n := 1) d_SN_sieved_18 ?_
    refine ZE.iload_n d_SN_sieved_19 rfl ?_
    refine ZE.cV [(0, 1), (0, (nn : Int))] [] [(2, x + 93), (0, 1), (0, (nn : Int)), (9, 0), (9, 0), (9, 0), (9, 0)] d_SN_sieved_20 l_SN_303 rfl rfl rfl rfl rfl rfl h.cCK.2.2.2.2.1.1 ?_
    refine m_couplesUpTo hKM hQ (d1 := 1) (u := nn) (by omega) (by omega) ?_
    show ZE 11 M_SN_sieved (gw G B) 23 [(2, x), (0, (nn : Int))] [(0, (cnt (apB S 1) (nn - 1) : Int))] _
    refine ZE.goto (tgt := 27) d_SN_sieved_23 rfl ?_
    refine ZE.iret d_SN_sieved_27 rfl ?_
    have k1 := k G B hB hT
    rw [show svV S (nn : Int) = ((cnt (apB S 1) (nn - 1) : Int)) from by unfold svV; rw [if_pos (by omega), Int.toNat_natCast]] at k1
    exact k1
set_option maxRecDepth 20000 in
set_option maxHeartbeats 4000000 in
theorem c_smoothAt {d : Nat} {G : zG} {A : Int → Int → Int} {P : Option zV → zG → Prop} {x : Int} {S T tl : Nat} {tf : Nat → Int} {wl : Nat} {wf : Nat → Int} (h : CI G A x S T tl tf wl wf) {i : Int} (hi : zR i) (k : ∀ G2 A2, CI G2 A2 x S T tl tf wl wf → cT G A G2 A2 x → P (some (0, saV S i)) (gw G2 A2)) : ZE 11 M_SN_smoothAt (gw G A) 0 [(2, x), (0, i)] [] P := by
  have hx0 := h.cCK.2.1
  have hR := h.cR
  have hL := h.cL.1
  have hgx := h.cL.2
  have hS7 := h.cS.2.1
  have hp5 := h.cS.2.2
  have hE0 := hR.E
  have hL64 := hR.l64
  have hC32 := hR.c32
  have hpl : (prL 1 S).length = (prs S).length := by rw [prL_1 hS7 hp5]
  have hcl : (csA 1 S).length = (csF S 1 128).length := rfl
  refine ZE.aload_n d_SN_smoothAt_0 rfl ?_
  refine ZE.getE (v := x + 93) d_SN_smoothAt_1 f_SN_24 (tg := 2) rfl h.cCK.1 h.cCF.2.2.1 ?_
  refine ZE.aload_n d_SN_smoothAt_4 rfl ?_
  refine ZE.getE (v := (S : Int)) d_SN_smoothAt_5 f_SN_72 (tg := 0) rfl h.cCK.1 h.cS.1 ?_
  refine ZE.cV [(0, (S : Int))] [] [(2, x + 93), (0, (S : Int)), (9, 0), (9, 0), (9, 0)] d_SN_smoothAt_8 l_SN_291 rfl rfl rfl rfl rfl rfl h.cCK.2.2.2.2.1.1 ?_
  refine c_sfill h (fun B w M hQ hB hT => ?_)
  show ZE 11 M_SN_smoothAt (gw G B) 11 [(2, x), (0, i)] [(2, x + 93)] _
  have hKM := h.cCK.2.2.2.2.1
  refine ZE.iload_n d_SN_smoothAt_11 rfl ?_
  refine ZE.cV [(0, i)] [] [(2, x + 93), (0, i)] d_SN_smoothAt_12 l_SN_297 rfl rfl rfl rfl rfl rfl h.cCK.2.2.2.2.1.1 ?_
  refine m_valueAt hKM hQ.1 hQ.2.2.1 hQ.2.2.2.1.2.1 hQ.2.2.2.2.1 hi ?_
  show ZE 11 M_SN_smoothAt (gw G B) 15 [(2, x), (0, i)] [(0, vlF w M i)] _
  refine ZE.iret d_SN_smoothAt_15 rfl ?_
  have k1 := k G B hB hT
  rw [show saV S i = (vlF w M i) from saV_W hQ.2.2.2.1 i] at k1
  exact k1
set_option maxRecDepth 20000 in
set_option maxHeartbeats 4000000 in
theorem c_agrees {d : Nat} {G : zG} {A : Int → Int → Int} {P : Option zV → zG → Prop} {x : Int} {S T tl : Nat} {tf : Nat → Int} {wl : Nat} {wf : Nat → Int} (h : CI G A x S T tl tf wl wf) {n : Int} (hn : zR n) (k : ∀ G2 A2, CI G2 A2 x S T tl tf wl wf → cT G A G2 A2 x → P (some (0, b2i (agV S n = true))) (gw G2 A2)) : ZE 11 M_SN_agrees (gw G A) 0 [(2, x), (0, n)] [] P := by
  have hx0 := h.cCK.2.1
  have hR := h.cR
  have hL := h.cL.1
  have hgx := h.cL.2
  have hS7 := h.cS.2.1
  have hp5 := h.cS.2.2
  have hE0 := hR.E
  have hL64 := hR.l64
  have hC32 := hR.c32
  have hpl : (prL 1 S).length = (prs S).length := by rw [prL_1 hS7 hp5]
  have hcl : (csA 1 S).length = (csF S 1 128).length := rfl
  refine ZE.iload_n d_SN_agrees_0 rfl ?_
  refine ZE.cS [(0, n)] [] [(0, n)] d_SN_agrees_1 l_SN_288 rfl rfl rfl rfl rfl rfl ?_
  refine c_upTo hn ?_
  show ZE 11 M_SN_agrees (gw G A) 4 [(2, x), (0, n)] [(0, b2i (0 ≤ n ∧ n ≤ 200000))] _
  refine ZE.if_eq (tgt := 33) d_SN_agrees_4 rfl (zR_b2i _) (fun c4 => ?_) (fun c4 => ?_)
  · replace c4 := b2i_0.mp c4
    refine ZE.iconst (n := 0) d_SN_agrees_33 ?_
    refine ZE.zret d_SN_agrees_34 rfl (by omega) ?_
    have hno : ¬ agV S n = true := fun q => by unfold agV at q; rw [Bool.and_eq_true, Bool.and_eq_true] at q; have := of_decide_eq_true q.1.1; omega
    have k1 := k G A h cT.rf
    rw [show b2i (agV S n = true) = (0) from b2i_f hno] at k1
    exact k1
  · replace c4 := b2i_n0.mp c4
    obtain ⟨nn, hnn⟩ : ∃ q9 : Nat, n = (q9 : Int) := ⟨n.toNat, by omega⟩
    subst hnn
    refine ZE.aload_n d_SN_agrees_7 rfl ?_
    refine ZE.getE (v := x + 93) d_SN_agrees_8 f_SN_24 (tg := 2) rfl h.cCK.1 h.cCF.2.2.1 ?_
    refine ZE.aload_n d_SN_agrees_11 rfl ?_
    refine ZE.getE (v := (S : Int)) d_SN_agrees_12 f_SN_72 (tg := 0) rfl h.cCK.1 h.cS.1 ?_
    refine ZE.cV [(0, (S : Int))] [] [(2, x + 93), (0, (S : Int)), (9, 0), (9, 0), (9, 0)] d_SN_agrees_15 l_SN_291 rfl rfl rfl rfl rfl rfl h.cCK.2.2.2.2.1.1 ?_
    refine c_sfill h (fun B w M hQ hB hT => ?_)
    show ZE 11 M_SN_agrees (gw G B) 18 [(2, x), (0, (nn : Int))] [(2, x + 93)] _
    have hKM := h.cCK.2.2.2.2.1
    refine ZE.aload_n d_SN_agrees_18 rfl ?_
    refine ZE.getE (v := x + 1) d_SN_agrees_19 f_SN_12 (tg := 2) rfl h.cCK.1 hB.cCF.1 ?_
    refine ZE.iload_n d_SN_agrees_22 rfl ?_
    refine ZE.cV [(2, x + 1), (0, (nn : Int))] [] [(2, x + 93), (2, x + 1), (0, (nn : Int)), (9, 0), (9, 0), (9, 0), (9, 0)] d_SN_agrees_23 l_SN_306 rfl rfl rfl rfl rfl rfl h.cCK.2.2.2.2.1.1 ?_
    refine m_saysTheSame hKM hQ hB.cR (u := nn) (by omega) ?_
    show ZE 11 M_SN_agrees (gw G B) 26 [(2, x), (0, (nn : Int))] [(0, b2i (sayV 1 S nn = true))] _
    refine ZE.if_eq (tgt := 33) d_SN_agrees_26 rfl (zR_b2i _) (fun c26 => ?_) (fun c26 => ?_)
    · replace c26 := b2i_0.mp c26
      refine ZE.iconst (n := 0) d_SN_agrees_33 ?_
      refine ZE.zret d_SN_agrees_34 rfl (by omega) ?_
      have k1 := k G B hB hT
      rw [show b2i (agV S (nn : Int) = true) = (0) from b2i_f (fun q => c26 ((say_agV hS7 hp5 (by omega)).mpr q))] at k1
      exact k1
    · replace c26 := b2i_n0.mp c26
      refine ZE.iconst (n := 1) d_SN_agrees_29 ?_
      refine ZE.goto (tgt := 34) d_SN_agrees_30 rfl ?_
      refine ZE.zret d_SN_agrees_34 rfl (by omega) ?_
      have k1 := k G B hB hT
      rw [show b2i (agV S (nn : Int) = true) = (1) from b2i_t ((say_agV hS7 hp5 (by omega)).mp c26)] at k1
      exact k1
set_option maxRecDepth 20000 in
set_option maxHeartbeats 4000000 in
theorem c_gap {d : Nat} {G : zG} {A : Int → Int → Int} {P : Option zV → zG → Prop} {x : Int} {S T tl : Nat} {tf : Nat → Int} {wl : Nat} {wf : Nat → Int} (h : CI G A x S T tl tf wl wf) {n wh : Int} (hn : zR n) (hw : zR wh) (k : ∀ G2 A2, CI G2 A2 x S T tl tf wl wf → cT G A G2 A2 x → P (some (0, gpV S n wh)) (gw G2 A2)) : ZE 11 M_SN_gap (gw G A) 0 [(2, x), (0, n), (0, wh), (9, 0)] [] P := by
  have hx0 := h.cCK.2.1
  have hR := h.cR
  have hL := h.cL.1
  have hgx := h.cL.2
  have hS7 := h.cS.2.1
  have hp5 := h.cS.2.2
  have hE0 := hR.E
  have hL64 := hR.l64
  have hC32 := hR.c32
  have hpl : (prL 1 S).length = (prs S).length := by rw [prL_1 hS7 hp5]
  have hcl : (csA 1 S).length = (csF S 1 128).length := rfl
  refine ZE.iload_n d_SN_gap_0 rfl ?_
  refine ZE.cS [(0, n)] [] [(0, n)] d_SN_gap_1 l_SN_288 rfl rfl rfl rfl rfl rfl ?_
  refine c_upTo hn ?_
  show ZE 11 M_SN_gap (gw G A) 4 [(2, x), (0, n), (0, wh), (9, 0)] [(0, b2i (0 ≤ n ∧ n ≤ 200000))] _
  refine ZE.if_eq (tgt := 18) d_SN_gap_4 rfl (zR_b2i _) (fun c4 => ?_) (fun c4 => ?_)
  · replace c4 := b2i_0.mp c4
    refine ZE.iconst (n := 0) d_SN_gap_18 ?_
    refine ZE.istore_n (ls2 := [(2, x), (0, n), (0, wh), (0, 0)]) d_SN_gap_19 (Nat.le_of_ble_eq_true rfl) rfl ?_
    refine ZE.iload_n d_SN_gap_20 rfl ?_
    refine ZE.if_eq (tgt := 51) d_SN_gap_21 rfl (by unfold zR; omega) (fun c21 => ?_) (fun c21 => ?_)
    · refine ZE.iconst (n := (-1)) d_SN_gap_51 ?_
      refine ZE.iret d_SN_gap_52 rfl ?_
      have k1 := k G A h cT.rf
      rw [show gpV S n wh = (-1) from if_neg (by omega)] at k1
      exact k1
    · exact absurd c21 (by decide)
  · replace c4 := b2i_n0.mp c4
    refine ZE.iload_n d_SN_gap_7 rfl ?_
    refine ZE.cS [(0, wh)] [] [(0, wh)] d_SN_gap_8 l_SN_183 rfl rfl rfl rfl rfl rfl ?_
    refine c_one2 hw ?_
    show ZE 11 M_SN_gap (gw G A) 11 [(2, x), (0, n), (0, wh), (9, 0)] [(0, b2i (wh = 0 ∨ wh = 1))] _
    refine ZE.if_eq (tgt := 18) d_SN_gap_11 rfl (zR_b2i _) (fun c11 => ?_) (fun c11 => ?_)
    · replace c11 := b2i_0.mp c11
      refine ZE.iconst (n := 0) d_SN_gap_18 ?_
      refine ZE.istore_n (ls2 := [(2, x), (0, n), (0, wh), (0, 0)]) d_SN_gap_19 (Nat.le_of_ble_eq_true rfl) rfl ?_
      refine ZE.iload_n d_SN_gap_20 rfl ?_
      refine ZE.if_eq (tgt := 51) d_SN_gap_21 rfl (by unfold zR; omega) (fun c21 => ?_) (fun c21 => ?_)
      · refine ZE.iconst (n := (-1)) d_SN_gap_51 ?_
        refine ZE.iret d_SN_gap_52 rfl ?_
        have k1 := k G A h cT.rf
        rw [show gpV S n wh = (-1) from if_neg (by omega)] at k1
        exact k1
      · exact absurd c21 (by decide)
    · replace c11 := b2i_n0.mp c11
      obtain ⟨nn, hnn⟩ : ∃ q9 : Nat, n = (q9 : Int) := ⟨n.toNat, by omega⟩
      subst hnn
      refine ZE.iconst (n := 1) d_SN_gap_14 ?_
      refine ZE.goto (tgt := 19) d_SN_gap_15 rfl ?_
      refine ZE.istore_n (ls2 := [(2, x), (0, (nn : Int)), (0, wh), (0, 1)]) d_SN_gap_19 (Nat.le_of_ble_eq_true rfl) rfl ?_
      refine ZE.iload_n d_SN_gap_20 rfl ?_
      refine ZE.if_eq (tgt := 51) d_SN_gap_21 rfl (by unfold zR; omega) (fun c21 => ?_) (fun c21 => ?_)
      · exact absurd c21 (by decide)
      · refine ZE.aload_n d_SN_gap_24 rfl ?_
        refine ZE.getE (v := x + 93) d_SN_gap_25 f_SN_24 (tg := 2) rfl h.cCK.1 h.cCF.2.2.1 ?_
        refine ZE.aload_n d_SN_gap_28 rfl ?_
        refine ZE.getE (v := (S : Int)) d_SN_gap_29 f_SN_72 (tg := 0) rfl h.cCK.1 h.cS.1 ?_
        refine ZE.cV [(0, (S : Int))] [] [(2, x + 93), (0, (S : Int)), (9, 0), (9, 0), (9, 0)] d_SN_gap_32 l_SN_291 rfl rfl rfl rfl rfl rfl h.cCK.2.2.2.2.1.1 ?_
        refine c_sfill h (fun B w M hQ hB hT => ?_)
        show ZE 11 M_SN_gap (gw G B) 35 [(2, x), (0, (nn : Int)), (0, wh), (0, 1)] [(2, x + 93)] _
        have hKM := h.cCK.2.2.2.2.1
        refine ZE.iload_n d_SN_gap_35 rfl ?_
        refine ZE.iload_n d_SN_gap_36 rfl ?_
        refine ZE.if_ne (tgt := 44) d_SN_gap_37 rfl hw (fun c37 => ?_) (fun c37 => ?_)
        · refine ZE.iconst (n := 0) d_SN_gap_44 ?_
          refine ZE.cV [(0, (nn : Int)), (0, 0)] [] [(2, x + 93), (0, (nn : Int)), (0, 0), (9, 0), (9, 0), (9, 0), (9, 0)] d_SN_gap_45 l_SN_310 rfl rfl rfl rfl rfl rfl h.cCK.2.2.2.2.1.1 ?_
          refine m_wd0 hKM hQ (u := nn) (by omega) ?_
          show ZE 11 M_SN_gap (gw G B) 48 [(2, x), (0, (nn : Int)), (0, wh), (0, 1)] [(0, (gpF S (nn - 1)).2.2)] _
          refine ZE.goto (tgt := 52) d_SN_gap_48 rfl ?_
          refine ZE.iret d_SN_gap_52 rfl ?_
          have k1 := k G B hB hT
          rw [show gpV S (nn : Int) wh = ((gpF S (nn - 1)).2.2) from by unfold gpV; rw [if_pos (by omega), if_neg (by omega), Int.toNat_natCast]] at k1
          exact k1
        · refine ZE.iconst (n := 1) d_SN_gap_40 ?_
          refine ZE.goto (tgt := 45) d_SN_gap_41 rfl ?_
          refine ZE.cV [(0, (nn : Int)), (0, 1)] [] [(2, x + 93), (0, (nn : Int)), (0, 1), (9, 0), (9, 0), (9, 0), (9, 0)] d_SN_gap_45 l_SN_310 rfl rfl rfl rfl rfl rfl h.cCK.2.2.2.2.1.1 ?_
          refine m_wd1 hKM hQ (u := nn) (by omega) ?_
          show ZE 11 M_SN_gap (gw G B) 48 [(2, x), (0, (nn : Int)), (0, wh), (0, 1)] [(0, (gpF S (nn - 1)).2.1)] _
          refine ZE.goto (tgt := 52) d_SN_gap_48 rfl ?_
          refine ZE.iret d_SN_gap_52 rfl ?_
          have k1 := k G B hB hT
          rw [show gpV S (nn : Int) wh = ((gpF S (nn - 1)).2.1) from by unfold gpV; rw [if_pos (by omega), if_pos (by omega), Int.toNat_natCast]] at k1
          exact k1
set_option maxRecDepth 20000 in
set_option maxHeartbeats 4000000 in
theorem c_apart {d : Nat} {G : zG} {A : Int → Int → Int} {P : Option zV → zG → Prop} {x : Int} {S T tl : Nat} {tf : Nat → Int} {wl : Nat} {wf : Nat → Int} (h : CI G A x S T tl tf wl wf) {q n : Int} (hq : zR q) (hn : zR n) (k : ∀ G2 A2, CI G2 A2 x S T tl tf wl wf → cT G A G2 A2 x → P (some (0, apV S q n)) (gw G2 A2)) : ZE 11 M_SN_apart (gw G A) 0 [(2, x), (0, q), (0, n), (9, 0)] [] P := by
  have hx0 := h.cCK.2.1
  have hR := h.cR
  have hL := h.cL.1
  have hgx := h.cL.2
  have hS7 := h.cS.2.1
  have hp5 := h.cS.2.2
  have hE0 := hR.E
  have hL64 := hR.l64
  have hC32 := hR.c32
  have hpl : (prL 1 S).length = (prs S).length := by rw [prL_1 hS7 hp5]
  have hcl : (csA 1 S).length = (csF S 1 128).length := rfl
  refine ZE.iload_n d_SN_apart_0 rfl ?_
  refine ZE.iconst (n := 1) d_SN_apart_1 ?_
  refine ZE.icmp_lt (tgt := 23) d_SN_apart_2 rfl hq (by unfold zR; omega) (fun c2 => ?_) (fun c2 => ?_)
  · refine ZE.iconst (n := 0) d_SN_apart_23 ?_
    refine ZE.istore_n (ls2 := [(2, x), (0, q), (0, n), (0, 0)]) d_SN_apart_24 (Nat.le_of_ble_eq_true rfl) rfl ?_
    refine ZE.iload_n d_SN_apart_25 rfl ?_
    refine ZE.if_eq (tgt := 48) d_SN_apart_26 rfl (by unfold zR; omega) (fun c26 => ?_) (fun c26 => ?_)
    · refine ZE.iconst (n := (-1)) d_SN_apart_48 ?_
      refine ZE.iret d_SN_apart_49 rfl ?_
      have k1 := k G A h cT.rf
      rw [show apV S q n = (-1) from if_neg (by omega)] at k1
      exact k1
    · exact absurd c26 (by decide)
  · refine ZE.iload_n d_SN_apart_5 rfl ?_
    refine ZE.sipush (n := 1000) d_SN_apart_6 rfl ?_
    refine ZE.icmp_gt (tgt := 23) d_SN_apart_9 rfl hq (by unfold zR; omega) (fun c9 => ?_) (fun c9 => ?_)
    · refine ZE.iconst (n := 0) d_SN_apart_23 ?_
      refine ZE.istore_n (ls2 := [(2, x), (0, q), (0, n), (0, 0)]) d_SN_apart_24 (Nat.le_of_ble_eq_true rfl) rfl ?_
      refine ZE.iload_n d_SN_apart_25 rfl ?_
      refine ZE.if_eq (tgt := 48) d_SN_apart_26 rfl (by unfold zR; omega) (fun c26 => ?_) (fun c26 => ?_)
      · refine ZE.iconst (n := (-1)) d_SN_apart_48 ?_
        refine ZE.iret d_SN_apart_49 rfl ?_
        have k1 := k G A h cT.rf
        rw [show apV S q n = (-1) from if_neg (by omega)] at k1
        exact k1
      · exact absurd c26 (by decide)
    · refine ZE.iload_n d_SN_apart_12 rfl ?_
      refine ZE.cS [(0, n)] [] [(0, n)] d_SN_apart_13 l_SN_288 rfl rfl rfl rfl rfl rfl ?_
      refine c_upTo hn ?_
      show ZE 11 M_SN_apart (gw G A) 16 [(2, x), (0, q), (0, n), (9, 0)] [(0, b2i (0 ≤ n ∧ n ≤ 200000))] _
      refine ZE.if_eq (tgt := 23) d_SN_apart_16 rfl (zR_b2i _) (fun c16 => ?_) (fun c16 => ?_)
      · replace c16 := b2i_0.mp c16
        refine ZE.iconst (n := 0) d_SN_apart_23 ?_
        refine ZE.istore_n (ls2 := [(2, x), (0, q), (0, n), (0, 0)]) d_SN_apart_24 (Nat.le_of_ble_eq_true rfl) rfl ?_
        refine ZE.iload_n d_SN_apart_25 rfl ?_
        refine ZE.if_eq (tgt := 48) d_SN_apart_26 rfl (by unfold zR; omega) (fun c26 => ?_) (fun c26 => ?_)
        · refine ZE.iconst (n := (-1)) d_SN_apart_48 ?_
          refine ZE.iret d_SN_apart_49 rfl ?_
          have k1 := k G A h cT.rf
          rw [show apV S q n = (-1) from if_neg (by omega)] at k1
          exact k1
        · exact absurd c26 (by decide)
      · replace c16 := b2i_n0.mp c16
        obtain ⟨nn, hnn⟩ : ∃ q9 : Nat, n = (q9 : Int) := ⟨n.toNat, by omega⟩
        subst hnn
        obtain ⟨qn, hqn⟩ : ∃ q9 : Nat, q = (q9 : Int) := ⟨q.toNat, by omega⟩
        subst hqn
        refine ZE.iconst (n := 1) d_SN_apart_19 ?_
        refine ZE.goto (tgt := 24) d_SN_apart_20 rfl ?_
        refine ZE.istore_n (ls2 := [(2, x), (0, (qn : Int)), (0, (nn : Int)), (0, 1)]) d_SN_apart_24 (Nat.le_of_ble_eq_true rfl) rfl ?_
        refine ZE.iload_n d_SN_apart_25 rfl ?_
        refine ZE.if_eq (tgt := 48) d_SN_apart_26 rfl (by unfold zR; omega) (fun c26 => ?_) (fun c26 => ?_)
        · exact absurd c26 (by decide)
        · refine ZE.aload_n d_SN_apart_29 rfl ?_
          refine ZE.getE (v := x + 93) d_SN_apart_30 f_SN_24 (tg := 2) rfl h.cCK.1 h.cCF.2.2.1 ?_
          refine ZE.aload_n d_SN_apart_33 rfl ?_
          refine ZE.getE (v := (S : Int)) d_SN_apart_34 f_SN_72 (tg := 0) rfl h.cCK.1 h.cS.1 ?_
          refine ZE.cV [(0, (S : Int))] [] [(2, x + 93), (0, (S : Int)), (9, 0), (9, 0), (9, 0)] d_SN_apart_37 l_SN_291 rfl rfl rfl rfl rfl rfl h.cCK.2.2.2.2.1.1 ?_
          refine c_sfill h (fun B w M hQ hB hT => ?_)
          show ZE 11 M_SN_apart (gw G B) 40 [(2, x), (0, (qn : Int)), (0, (nn : Int)), (0, 1)] [(2, x + 93)] _
          have hKM := h.cCK.2.2.2.2.1
          refine ZE.iload_n d_SN_apart_40 rfl ?_
          refine ZE.iload_n d_SN_apart_41 rfl ?_
          refine ZE.cV [(0, (qn : Int)), (0, (nn : Int))] [] [(2, x + 93), (0, (qn : Int)), (0, (nn : Int)), (9, 0), (9, 0), (9, 0), (9, 0)] d_SN_apart_42 l_SN_303 rfl rfl rfl rfl rfl rfl h.cCK.2.2.2.2.1.1 ?_
          refine m_couplesUpTo hKM hQ (d1 := qn) (u := nn) (by omega) (by omega) ?_
          show ZE 11 M_SN_apart (gw G B) 45 [(2, x), (0, (qn : Int)), (0, (nn : Int)), (0, 1)] [(0, (cnt (apB S qn) (nn - qn) : Int))] _
          refine ZE.goto (tgt := 49) d_SN_apart_45 rfl ?_
          refine ZE.iret d_SN_apart_49 rfl ?_
          have k1 := k G B hB hT
          rw [show apV S (qn : Int) (nn : Int) = ((cnt (apB S qn) (nn - qn) : Int)) from by unfold apV; rw [if_pos (by omega), Int.toNat_natCast, Int.toNat_natCast]] at k1
          exact k1
set_option maxRecDepth 20000 in
set_option maxHeartbeats 4000000 in
theorem c_sums {d : Nat} {G : zG} {A : Int → Int → Int} {P : Option zV → zG → Prop} {x : Int} {S T tl : Nat} {tf : Nat → Int} {wl : Nat} {wf : Nat → Int} (h : CI G A x S T tl tf wl wf) {n wh : Int} (hn : zR n) (hw : zR wh) (k : ∀ G2 A2, CI G2 A2 x S T tl tf wl wf → cT G A G2 A2 x → P (some (0, ssV S n wh)) (gw G2 A2)) : ZE 11 M_SN_sums (gw G A) 0 [(2, x), (0, n), (0, wh), (9, 0)] [] P := by
  have hx0 := h.cCK.2.1
  have hR := h.cR
  have hL := h.cL.1
  have hgx := h.cL.2
  have hS7 := h.cS.2.1
  have hp5 := h.cS.2.2
  have hE0 := hR.E
  have hL64 := hR.l64
  have hC32 := hR.c32
  have hpl : (prL 1 S).length = (prs S).length := by rw [prL_1 hS7 hp5]
  have hcl : (csA 1 S).length = (csF S 1 128).length := rfl
  refine ZE.iload_n d_SN_sums_0 rfl ?_
  refine ZE.if_lt (tgt := 22) d_SN_sums_1 rfl hn (fun c1 => ?_) (fun c1 => ?_)
  · refine ZE.iconst (n := 0) d_SN_sums_22 ?_
    refine ZE.istore_n (ls2 := [(2, x), (0, n), (0, wh), (0, 0)]) d_SN_sums_23 (Nat.le_of_ble_eq_true rfl) rfl ?_
    refine ZE.iload_n d_SN_sums_24 rfl ?_
    refine ZE.if_eq (tgt := 56) d_SN_sums_25 rfl (by unfold zR; omega) (fun c25 => ?_) (fun c25 => ?_)
    · refine ZE.iconst (n := (-1)) d_SN_sums_56 ?_
      refine ZE.iret d_SN_sums_57 rfl ?_
      have k1 := k G A h cT.rf
      rw [show ssV S n wh = (-1) from if_neg (by omega)] at k1
      exact k1
    · exact absurd c25 (by decide)
  · refine ZE.iload_n d_SN_sums_4 rfl ?_
    refine ZE.sipush (n := 3000) d_SN_sums_5 rfl ?_
    refine ZE.icmp_gt (tgt := 22) d_SN_sums_8 rfl hn (by unfold zR; omega) (fun c8 => ?_) (fun c8 => ?_)
    · refine ZE.iconst (n := 0) d_SN_sums_22 ?_
      refine ZE.istore_n (ls2 := [(2, x), (0, n), (0, wh), (0, 0)]) d_SN_sums_23 (Nat.le_of_ble_eq_true rfl) rfl ?_
      refine ZE.iload_n d_SN_sums_24 rfl ?_
      refine ZE.if_eq (tgt := 56) d_SN_sums_25 rfl (by unfold zR; omega) (fun c25 => ?_) (fun c25 => ?_)
      · refine ZE.iconst (n := (-1)) d_SN_sums_56 ?_
        refine ZE.iret d_SN_sums_57 rfl ?_
        have k1 := k G A h cT.rf
        rw [show ssV S n wh = (-1) from if_neg (by omega)] at k1
        exact k1
      · exact absurd c25 (by decide)
    · refine ZE.iload_n d_SN_sums_11 rfl ?_
      refine ZE.cS [(0, wh)] [] [(0, wh)] d_SN_sums_12 l_SN_183 rfl rfl rfl rfl rfl rfl ?_
      refine c_one2 hw ?_
      show ZE 11 M_SN_sums (gw G A) 15 [(2, x), (0, n), (0, wh), (9, 0)] [(0, b2i (wh = 0 ∨ wh = 1))] _
      refine ZE.if_eq (tgt := 22) d_SN_sums_15 rfl (zR_b2i _) (fun c15 => ?_) (fun c15 => ?_)
      · replace c15 := b2i_0.mp c15
        refine ZE.iconst (n := 0) d_SN_sums_22 ?_
        refine ZE.istore_n (ls2 := [(2, x), (0, n), (0, wh), (0, 0)]) d_SN_sums_23 (Nat.le_of_ble_eq_true rfl) rfl ?_
        refine ZE.iload_n d_SN_sums_24 rfl ?_
        refine ZE.if_eq (tgt := 56) d_SN_sums_25 rfl (by unfold zR; omega) (fun c25 => ?_) (fun c25 => ?_)
        · refine ZE.iconst (n := (-1)) d_SN_sums_56 ?_
          refine ZE.iret d_SN_sums_57 rfl ?_
          have k1 := k G A h cT.rf
          rw [show ssV S n wh = (-1) from if_neg (by omega)] at k1
          exact k1
        · exact absurd c25 (by decide)
      · replace c15 := b2i_n0.mp c15
        obtain ⟨nn, hnn⟩ : ∃ q9 : Nat, n = (q9 : Int) := ⟨n.toNat, by omega⟩
        subst hnn
        refine ZE.iconst (n := 1) d_SN_sums_18 ?_
        refine ZE.goto (tgt := 23) d_SN_sums_19 rfl ?_
        refine ZE.istore_n (ls2 := [(2, x), (0, (nn : Int)), (0, wh), (0, 1)]) d_SN_sums_23 (Nat.le_of_ble_eq_true rfl) rfl ?_
        refine ZE.iload_n d_SN_sums_24 rfl ?_
        refine ZE.if_eq (tgt := 56) d_SN_sums_25 rfl (by unfold zR; omega) (fun c25 => ?_) (fun c25 => ?_)
        · exact absurd c25 (by decide)
        · refine ZE.aload_n d_SN_sums_28 rfl ?_
          refine ZE.getE (v := x + 93) d_SN_sums_29 f_SN_24 (tg := 2) rfl h.cCK.1 h.cCF.2.2.1 ?_
          refine ZE.aload_n d_SN_sums_32 rfl ?_
          refine ZE.getE (v := (S : Int)) d_SN_sums_33 f_SN_72 (tg := 0) rfl h.cCK.1 h.cS.1 ?_
          refine ZE.cV [(0, (S : Int))] [] [(2, x + 93), (0, (S : Int)), (9, 0), (9, 0), (9, 0)] d_SN_sums_36 l_SN_291 rfl rfl rfl rfl rfl rfl h.cCK.2.2.2.2.1.1 ?_
          refine c_sfill h (fun B w M hQ hB hT => ?_)
          show ZE 11 M_SN_sums (gw G B) 39 [(2, x), (0, (nn : Int)), (0, wh), (0, 1)] [(2, x + 93)] _
          have hKM := h.cCK.2.2.2.2.1
          refine ZE.iload_n d_SN_sums_39 rfl ?_
          refine ZE.iload_n d_SN_sums_40 rfl ?_
          refine ZE.iconst (n := 1) d_SN_sums_41 ?_
          refine ZE.icmp_ne (tgt := 49) d_SN_sums_42 rfl hw (by unfold zR; omega) (fun c42 => ?_) (fun c42 => ?_)
          · refine ZE.iconst (n := 0) d_SN_sums_49 ?_
            refine ZE.cV [(0, (nn : Int)), (0, 0)] [] [(2, x + 93), (0, (nn : Int)), (0, 0)] d_SN_sums_50 l_SN_314 rfl rfl rfl rfl rfl rfl h.cCK.2.2.2.2.1.1 ?_
            refine m_sumsUpTo hKM hQ hB.cL.1 (by omega) (u := nn) (by omega) (wh := 0) (by omega) (fun B2 fr hQ2 => ?_)
            show ZE 11 M_SN_sums (gw G B2) 53 [(2, x), (0, (nn : Int)), (0, wh), (0, 1)] [(0, ssV S (nn : Int) 0)] _
            refine ZE.goto (tgt := 57) d_SN_sums_53 rfl ?_
            refine ZE.iret d_SN_sums_57 rfl ?_
            have e2 : wh = 0 := by omega
            subst e2
            have e : ∀ a : Int, (a < x + 93 ∨ x + 98 < a) → B2 a = B a := fun a ha => fr.1 a (by omega) (by omega) (by omega)
            have k1 := k G B2 (hB.sM e ⟨hQ2.1, Or.inr ⟨S, w, M, hS7, hQ2⟩⟩) (hT.tr (cT.rg e (by omega) (by omega)))
            exact k1
          · refine ZE.iconst (n := 1) d_SN_sums_45 ?_
            refine ZE.goto (tgt := 50) d_SN_sums_46 rfl ?_
            refine ZE.cV [(0, (nn : Int)), (0, 1)] [] [(2, x + 93), (0, (nn : Int)), (0, 1)] d_SN_sums_50 l_SN_314 rfl rfl rfl rfl rfl rfl h.cCK.2.2.2.2.1.1 ?_
            refine m_sumsUpTo hKM hQ hB.cL.1 (by omega) (u := nn) (by omega) (wh := 1) (by omega) (fun B2 fr hQ2 => ?_)
            show ZE 11 M_SN_sums (gw G B2) 53 [(2, x), (0, (nn : Int)), (0, wh), (0, 1)] [(0, ssV S (nn : Int) 1)] _
            refine ZE.goto (tgt := 57) d_SN_sums_53 rfl ?_
            refine ZE.iret d_SN_sums_57 rfl ?_
            have e2 : wh = 1 := by omega
            subst e2
            have e : ∀ a : Int, (a < x + 93 ∨ x + 98 < a) → B2 a = B a := fun a ha => fr.1 a (by omega) (by omega) (by omega)
            have k1 := k G B2 (hB.sM e ⟨hQ2.1, Or.inr ⟨S, w, M, hS7, hQ2⟩⟩) (hT.tr (cT.rg e (by omega) (by omega)))
            exact k1
set_option maxRecDepth 20000 in
set_option maxHeartbeats 4000000 in
theorem c_thick {d : Nat} {G : zG} {A : Int → Int → Int} {P : Option zV → zG → Prop} {x : Int} {S T tl : Nat} {tf : Nat → Int} {wl : Nat} {wf : Nat → Int} (h : CI G A x S T tl tf wl wf) {n : Int} (hn : zR n) (k : ∀ G2 A2, CI G2 A2 x S T tl tf wl wf → cT G A G2 A2 x → P (some (1, tcV S n)) (gw G2 A2)) : ZE 11 M_SN_thick (gw G A) 0 [(2, x), (0, n)] [] P := by
  have hx0 := h.cCK.2.1
  have hR := h.cR
  have hL := h.cL.1
  have hgx := h.cL.2
  have hS7 := h.cS.2.1
  have hp5 := h.cS.2.2
  have hE0 := hR.E
  have hL64 := hR.l64
  have hC32 := hR.c32
  have hpl : (prL 1 S).length = (prs S).length := by rw [prL_1 hS7 hp5]
  have hcl : (csA 1 S).length = (csF S 1 128).length := rfl
  refine ZE.iload_n d_SN_thick_0 rfl ?_
  refine ZE.iconst (n := 1) d_SN_thick_1 ?_
  refine ZE.icmp_lt (tgt := 12) d_SN_thick_2 rfl hn (by unfold zR; omega) (fun c2 => ?_) (fun c2 => ?_)
  · refine ZE.lconst d_SN_thick_12 ?_
    show ZE 11 M_SN_thick (gw G A) 13 [(2, x), (0, n)] [(1, 0)] _
    refine ZE.lret d_SN_thick_13 rfl ?_
    have k1 := k G A h cT.rf
    rw [show tcV S n = (0) from if_neg (by omega)] at k1
    exact k1
  · refine ZE.iload_n d_SN_thick_5 rfl ?_
    refine ZE.ldcw (v := 200000) d_SN_thick_6 k_SN_317 ?_
    refine ZE.icmp_le (tgt := 14) d_SN_thick_9 rfl hn (by unfold zR; omega) (fun c9 => ?_) (fun c9 => ?_)
    · obtain ⟨nn, hnn⟩ : ∃ q9 : Nat, n = (q9 : Int) := ⟨n.toNat, by omega⟩
      subst hnn
      have hs1 : 0 < smC S nn := cnt_pos (smB_1 S hS7) nn (by omega)
      have hs2 : smC S nn ≤ nn := cnt_le _ nn
      have hdv := dvN_ok hs1 hs2 (by omega)
      obtain ⟨e1, t1, hd1, hd2, hdw⟩ := dvN_e hs1 hs2 (by omega)
      refine ZE.aload_n d_SN_thick_14 rfl ?_
      refine ZE.getE (v := x + 93) d_SN_thick_15 f_SN_24 (tg := 2) rfl h.cCK.1 h.cCF.2.2.1 ?_
      refine ZE.aload_n d_SN_thick_18 rfl ?_
      refine ZE.getE (v := (S : Int)) d_SN_thick_19 f_SN_72 (tg := 0) rfl h.cCK.1 h.cS.1 ?_
      refine ZE.cV [(0, (S : Int))] [] [(2, x + 93), (0, (S : Int)), (9, 0), (9, 0), (9, 0)] d_SN_thick_22 l_SN_291 rfl rfl rfl rfl rfl rfl h.cCK.2.2.2.2.1.1 ?_
      refine c_sfill h (fun B w M hQ hB hT => ?_)
      show ZE 11 M_SN_thick (gw G B) 25 [(2, x), (0, (nn : Int))] [(2, x + 93)] _
      have hKM := h.cCK.2.2.2.2.1
      refine ZE.iload_n d_SN_thick_25 rfl ?_
      refine ZE.cV [(0, (nn : Int))] [] [(2, x + 93), (0, (nn : Int)), (9, 0), (9, 0), (9, 0), (9, 0)] d_SN_thick_26 l_SN_294 rfl rfl rfl rfl rfl rfl h.cCK.2.2.2.2.1.1 ?_
      refine m_placeN hKM hQ (n := nn) (by omega) ?_
      show ZE 11 M_SN_thick (gw G B) 29 [(2, x), (0, (nn : Int))] [(0, (smC S nn : Int))] _
      refine ZE.i2d d_SN_thick_29 ?_
      refine ZE.iload_n d_SN_thick_30 rfl ?_
      refine ZE.i2d d_SN_thick_31 ?_
      refine ZE.ddiv d_SN_thick_32 (by rw [zd_dI, zd_dI]; exact hdv.1) ?_
      rw [show (dI (FP.ddiv (zd (dI (FP.i2d (Int32.ofInt (smC S nn : Int))))) (zd (dI (FP.i2d (Int32.ofInt (nn : Int)))))) : Int) = ((e1 * 4503599627370496 + t1 : Nat) : Int) from (by rw [zd_dI, zd_dI, ← hdw]; rfl)]
      refine ZE.cS [(4, ((e1 * 4503599627370496 + t1 : Nat) : Int))] [] [(4, ((e1 * 4503599627370496 + t1 : Nat) : Int)), (9, 0), (9, 0), (9, 0), (9, 0), (9, 0), (9, 0)] d_SN_thick_33 l_SN_318 rfl rfl rfl rfl rfl rfl ?_
      refine c_doubleBits hd1 hd2 ?_
      show ZE 11 M_SN_thick (gw G B) 36 [(2, x), (0, (nn : Int))] [(1, ((e1 * 4503599627370496 + t1 : Nat) : Int))] _
      refine ZE.lret d_SN_thick_36 rfl ?_
      rw [← hdw] 
      have k1 := k G B hB hT
      rw [show tcV S (nn : Int) = (dvN (smC S nn) nn) from by unfold tcV; rw [if_pos (by omega), Int.toNat_natCast]] at k1
      exact k1
    · refine ZE.lconst d_SN_thick_12 ?_
      show ZE 11 M_SN_thick (gw G A) 13 [(2, x), (0, n)] [(1, 0)] _
      refine ZE.lret d_SN_thick_13 rfl ?_
      have k1 := k G A h cT.rf
      rw [show tcV S n = (0) from if_neg (by omega)] at k1
      exact k1
