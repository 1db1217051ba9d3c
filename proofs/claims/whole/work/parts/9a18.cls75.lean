theorem t_appendL {d : Nat} {G : zG} {A : Int → Int → Int} {P : Option zV → zG → Prop} {t : Int} {cap : Nat} (hT : xK G t cap) {L : List Nat} (hX : xL A t L) {c : Nat} (hc : c < 128) (hl : L.length < cap) (k : ∀ B, bF A B t → xL B t (L ++ [c]) → P none (gw G B)) : ZE d M_Tex_append (gw G A) 0 [(2, t), (0, (c : Int))] [] P :=
  t_append hT hX hl (fun B g h => k B g (by rw [z8_s (by omega)] at h; exact xL.add (A := A) h))
theorem ptN_R9 (v : Nat) : ∀ b ∈ ptN v, b < 128 := ptN_R v
theorem ptS_mono {S : Nat} {c n : Nat} (h : c ≤ n) : (ptS S c).length ≤ (ptS S n).length := by
  induction n with
  | zero => have : c = 0 := by omega
            subst this; exact Nat.le_refl _
  | succ n ih =>
    rcases Nat.eq_or_lt_of_le h with q | q
    · subst q; exact Nat.le_refl _
    · have h1 := ih (by omega)
      have h2 := (ptI_len S n (ptH S n (ptS S n)) (bnd S)).2
      have h3 := ptH_len S n (ptS S n)
      show (ptS S c).length ≤ (ptI S n (ptH S n (ptS S n)) (bnd S) ++ [46]).length
      rw [List.length_append]
      show _ ≤ (ptI S n (ptH S n (ptS S n)) (bnd S)).length + 1
      omega
theorem ptI_s {S c : Nat} {L : List Nat} {j : Nat} : ptI S c L (j + 1) = ptW (ptI S c L j ++ [59]) (woN S c (j + 1)) := rfl
theorem ptS_s {S c : Nat} : ptS S (c + 1) = ptI S c (ptH S c (ptS S c)) (bnd S) ++ [46] := rfl
theorem ptH_s {S c : Nat} {L : List Nat} : ptH S c L = ((((L ++ ptN (rad (eA 1 S c))) ++ [58]) ++ ptN (ux (d1 S c))) ++ [44]) ++ ptN (uy (d1 S c)) := rfl
theorem ptI_mono {S c : Nat} {L : List Nat} {i n : Nat} (h : i ≤ n) : (ptI S c L i).length ≤ (ptI S c L n).length := by
  induction n with
  | zero => have : i = 0 := by omega
            subst this; exact Nat.le_refl _
  | succ n ih =>
    rcases Nat.eq_or_lt_of_le h with q | q
    · subst q; exact Nat.le_refl _
    · have h1 := ih (by omega)
      have h2 := woN_R S c (n + 1)
      have h3 := (ptW_len (ptI S c L n ++ [59]) (w := woN S c (n + 1)) (by omega)).2
      rw [List.length_append] at h3
      show _ ≤ (ptW (ptI S c L n ++ [59]) (woN S c (n + 1))).length
      have h4 : [59].length = 1 := rfl
      omega
theorem ptW_R9 {L : List Nat} (h : ∀ b ∈ L, b < 128) (w : Int) : ∀ b ∈ ptW L w, b < 128 := by
  have h1 : ∀ n : Nat, n < 128 → ∀ b ∈ [n], b < 128 := fun n hn b hb => by rw [List.mem_singleton] at hb; omega
  unfold ptW
  split
  · exact app_R h (h1 115 (by omega))
  · split
    · exact app_R h (h1 63 (by omega))
    · exact app_R h (ptN_R _)
def wJ (G : zG) (A B : Int → Int → Int) (x t : Int) (S T tl : Nat) (tf : Nat → Int) (wl : Nat) (wf : Nat → Int) (L : List Nat) : Prop := (∃ (wl2 : Nat) (wf2 : Nat → Int), CI G B x S T tl tf wl2 wf2 ∧ (t = x + 139 → wl2 = wl ∧ wf2 = wf)) ∧ xL B t L ∧ cT G A G B x ∧ ∀ b ∈ L, b < 128
def tw (x t : Int) : Prop := t = x + 137 ∨ t = x + 139
theorem tw.r {x t : Int} (h : tw x t) : x + 137 ≤ t ∧ t ≤ x + 139 := by unfold tw at h; omega
theorem wJ_app {G : zG} {A B B2 : Int → Int → Int} {x t : Int} {S T tl : Nat} {tf : Nat → Int} {wl : Nat} {wf : Nat → Int} {L M : List Nat} (h : wJ G A B x t S T tl tf wl wf L) (ht : tw x t) (g : bF B B2 t) (hX : xL B2 t M) (hl : M.length ≤ 2048) (hb : ∀ b ∈ M, b < 128) : wJ G A B2 x t S T tl tf wl wf M := by
  obtain ⟨⟨w2, f2, hC, hE⟩, h2, h3, h4⟩ := h
  have hr : ∀ k, 0 ≤ ((M.getD k 0 : Nat) : Int) ∧ ((M.getD k 0 : Nat) : Int) ≤ 127 := fun k => by have := ptx_R hb k; omega
  have e : ∀ a : Int, (a < t ∨ t + 1 < a) → B2 a = B a := fun a ha => g a (by omega) (by omega)
  rcases (show t = x + 137 ∨ t = x + 139 from ht) with q | q
  · subst q
    have e2 : ∀ a : Int, (a < x + 137 ∨ x + 138 < a) → B2 a = B a := fun a ha => e a (by omega)
    exact ⟨⟨M.length, _, hC.sw e2 ⟨hX, hl, hr⟩, fun z => by omega⟩, hX, h3.tr (cT.rg e2 (by omega) (by omega)), hb⟩
  · subst q
    have e2 : ∀ a : Int, (a < x + 139 ∨ x + 140 < a) → B2 a = B a := fun a ha => e a (by omega)
    exact ⟨⟨w2, f2, hC.sd e2 ⟨_, _, hX, hl⟩, hE⟩, hX, h3.tr (cT.rg e2 (by omega) (by omega)), hb⟩
theorem wJ_app0 {G : zG} {A B2 : Int → Int → Int} {x t : Int} {S T tl : Nat} {tf : Nat → Int} {wl : Nat} {wf : Nat → Int} {M : List Nat} (h : ∃ (wl2 : Nat) (wf2 : Nat → Int), CI G A x S T tl tf wl2 wf2 ∧ (t = x + 139 → wl2 = wl ∧ wf2 = wf)) (ht : tw x t) (g : bF A B2 t) (hX : xL B2 t M) (hl : M.length ≤ 2048) (hb : ∀ b ∈ M, b < 128) : wJ G A B2 x t S T tl tf wl wf M := by
  obtain ⟨w2, f2, hC, hE⟩ := h
  have hr : ∀ k, 0 ≤ ((M.getD k 0 : Nat) : Int) ∧ ((M.getD k 0 : Nat) : Int) ≤ 127 := fun k => by have := ptx_R hb k; omega
  have e : ∀ a : Int, (a < t ∨ t + 1 < a) → B2 a = A a := fun a ha => g a (by omega) (by omega)
  rcases (show t = x + 137 ∨ t = x + 139 from ht) with q | q
  · subst q
    have e2 : ∀ a : Int, (a < x + 137 ∨ x + 138 < a) → B2 a = A a := fun a ha => e a (by omega)
    exact ⟨⟨M.length, _, hC.sw e2 ⟨hX, hl, hr⟩, fun z => by omega⟩, hX, cT.rg e2 (by omega) (by omega), hb⟩
  · subst q
    have e2 : ∀ a : Int, (a < x + 139 ∨ x + 140 < a) → B2 a = A a := fun a ha => e a (by omega)
    exact ⟨⟨w2, f2, hC.sd e2 ⟨_, _, hX, hl⟩, hE⟩, hX, cT.rg e2 (by omega) (by omega), hb⟩
theorem rad_r9 {s : Nat} (h : s < 128) : rad s < 2147483648 := by have := (rdF_le s h 7 (by omega)).2; show rdF s 7 < _; omega
theorem wJ_wit {G : zG} {A B : Int → Int → Int} {x t : Int} {S T tl : Nat} {tf : Nat → Int} {wl : Nat} {wf : Nat → Int} {L : List Nat} (h : wJ G A B x t S T tl tf wl wf L) (ht : tw x t) {c i : Nat} (hc : c < (csA 1 S).length) : wJ G A (up2 B (B (x + 1 + 29) c + 7) (i : Int) (gdA (nvU (DD 1 (eA 1 S c)) 1 i) 7 161)) x t S T tl tf wl wf L := by
  have htr := ht.r
  obtain ⟨⟨w2, f2, hC, hE⟩, h2, h3, h4⟩ := h
  have hz := wit_CI (i := i) hC hc
  have hu := (hC.cR.un hc).1
  exact ⟨⟨w2, f2, hz.1, hE⟩, h2.ab (fun a a1 a2 => by rw [up2_A, upA_ne _ _ (by omega)]), h3.tr hz.2, h4⟩
set_option maxRecDepth 20000 in
set_option maxHeartbeats 400000 in
theorem c_apw {d : Nat} {G : zG} {A : Int → Int → Int} {P : Option zV → zG → Prop} {t : Int} {cap : Nat} (hT : xK G t cap) {L : List Nat} (hX : xL A t L) {v : Int} (hv : v = 0 ∨ v = -2 ∨ (2 ≤ v ∧ v < 1000)) (hl : (ptW L v).length ≤ cap) (k : ∀ B, bF A B t → xL B t (ptW L v) → P none (gw G B)) : ZE (d + 2) M_SN_appendWitness (gw G A) 0 [(2, t), (0, v)] [] P := by
  refine ZE.iload_n d_SN_appendWitness_0 rfl ?_
  refine ZE.if_ne (tgt := 13) d_SN_appendWitness_1 rfl (by unfold zR; omega) (fun c1 => ?_) (fun c1 => ?_)
  · refine ZE.iload_n d_SN_appendWitness_13 rfl ?_
    refine ZE.bipush (n := (-2)) d_SN_appendWitness_14 rfl ?_
    refine ZE.icmp_ne (tgt := 28) d_SN_appendWitness_16 rfl (by unfold zR; omega) (by unfold zR; omega) (fun c16 => ?_) (fun c16 => ?_)
    · obtain ⟨vn, hvn⟩ : ∃ q9 : Nat, v = (q9 : Int) := ⟨v.toNat, by omega⟩
      subst hvn
      refine ZE.aload_n d_SN_appendWitness_28 rfl ?_
      refine ZE.iload_n d_SN_appendWitness_29 rfl ?_
      have e1 : ptW L (vn : Int) = L ++ ptN vn := by unfold ptW; rw [if_neg (by omega), if_neg (by omega), Int.toNat_natCast]
      rw [e1, List.length_append, ptN_len] at hl
      refine ZE.cV [(0, (vn : Int))] [] [(2, t), (0, (vn : Int)), (9, 0), (9, 0), (9, 0), (9, 0)] d_SN_appendWitness_30 l_SN_387 rfl rfl rfl rfl rfl rfl hT.1 ?_
      refine t_appendInt hT hX (v := vn) (by omega) (by omega) (fun B gB hB => ?_)
      show ZE (d + 2) M_SN_appendWitness (gw G B) 33 [(2, t), (0, (vn : Int))] [] _
      refine ZE.vret d_SN_appendWitness_33 rfl ?_
      exact k B gB (by rw [e1]; exact hB)
    · refine ZE.aload_n d_SN_appendWitness_19 rfl ?_
      refine ZE.bipush (n := 63) d_SN_appendWitness_20 rfl ?_
      have e1 : ptW L v = L ++ [63] := by unfold ptW; rw [if_neg (by omega), if_pos (by omega)]
      rw [e1, List.length_append] at hl
      have e2 : [63].length = 1 := rfl
      refine ZE.cV [(0, 63)] [] [(2, t), (0, 63)] d_SN_appendWitness_22 l_SN_390 rfl rfl rfl rfl rfl rfl hT.1 ?_
      refine t_appendL (c := 63) hT hX (by omega) (by omega) (fun B gB hB => ?_)
      show ZE (d + 2) M_SN_appendWitness (gw G B) 25 [(2, t), (0, v)] [] _
      refine ZE.goto (tgt := 33) d_SN_appendWitness_25 rfl ?_
      refine ZE.vret d_SN_appendWitness_33 rfl ?_
      exact k B gB (by rw [e1]; exact hB)
  · refine ZE.aload_n d_SN_appendWitness_4 rfl ?_
    refine ZE.bipush (n := 115) d_SN_appendWitness_5 rfl ?_
    have e1 : ptW L v = L ++ [115] := if_pos (by omega)
    rw [e1, List.length_append] at hl
    have e2 : [115].length = 1 := rfl
    refine ZE.cV [(0, 115)] [] [(2, t), (0, 115)] d_SN_appendWitness_7 l_SN_390 rfl rfl rfl rfl rfl rfl hT.1 ?_
    refine t_appendL (c := 115) hT hX (by omega) (by omega) (fun B gB hB => ?_)
    show ZE (d + 2) M_SN_appendWitness (gw G B) 10 [(2, t), (0, v)] [] _
    refine ZE.goto (tgt := 33) d_SN_appendWitness_10 rfl ?_
    refine ZE.vret d_SN_appendWitness_33 rfl ?_
    exact k B gB (by rw [e1]; exact hB)
set_option maxRecDepth 20000 in
set_option maxHeartbeats 400000 in
theorem c_writeProof {d : Nat} {G : zG} {A : Int → Int → Int} {P : Option zV → zG → Prop} {x : Int} {S T tl : Nat} {tf : Nat → Int} {wl : Nat} {wf : Nat → Int} (h : CI G A x S T tl tf wl wf) {t : Int} (ht : tw x t) (k : ∀ B, wJ G A B x t S T tl tf wl wf (prfL S) → P none (gw G B)) : ZE (d + 5) M_SN_writeProof (gw G A) 0 [(2, x), (2, t), (9, 0), (9, 0), (9, 0)] [] P := by
  have hx0 := h.cCK.2.1
  have hR := h.cR
  have hL := h.cL.1
  have hgx := h.cL.2
  have hS7 := h.cS.2.1
  have hp5 := h.cS.2.2
  have hE0 := hR.E
  have hL64 := hR.l64
  have hC32 := hR.c32
  have hpl : (prL 1 S).length = (prs S).length := by rw [prL_1 hS7 hp5]
  have hcl : (csA 1 S).length = (csF S 1 128).length := rfl
  have htr := ht.r
  have hT : xK G t 2048 := by rcases ht with q | q; rw [q]; exact h.xW; rw [q]; exact h.xD
  obtain ⟨L0, F0, hX00, hL0⟩ : ∃ (L0 : Nat) (F0 : Nat → Int), xN A t L0 F0 ∧ L0 ≤ 2048 := by
    rcases ht with q | q
    · rw [q]; exact ⟨_, _, h.cw.1, h.cw.2.1⟩
    · rw [q]; exact h.cd
  have hJ : (∃ (wl2 : Nat) (wf2 : Nat → Int), CI G A x S T tl tf wl2 wf2 ∧ (t = x + 139 → wl2 = wl ∧ wf2 = wf)) := ⟨wl, wf, h, fun _ => ⟨rfl, rfl⟩⟩
  have hb9 := bnd_le S hS7
  refine ZE.aload_n d_SN_writeProof_0 rfl ?_
  refine ZE.iconst (n := 0) d_SN_writeProof_1 ?_
  refine ZE.cV [(0, 0)] [] [(2, t), (0, 0)] d_SN_writeProof_2 l_SN_347 rfl rfl rfl rfl rfl rfl hT.1 ?_
  refine t_cutTo hT hX00 (n := 0) (by unfold zR; omega) (by omega) (fun B0 g0 hX0 => ?_)
  show ZE (d + 5) M_SN_writeProof (gw G B0) 5 [(2, x), (2, t), (9, 0), (9, 0), (9, 0)] [(0, b2i (0 ≤ (0 : Int) ∧ (0 : Int) ≤ (L0 : Int)))] _
  have hXe : xL B0 t [] := by rw [show enT L0 0 = 0 from if_pos (by omega)] at hX0; exact ⟨hX0.1, hX0.2.1, fun q hq => absurd hq (Nat.not_lt_zero _)⟩
  have hJ0 : wJ G A B0 x t S T tl tf wl wf (ptS S 0) := wJ_app0 hJ ht g0 hXe (Nat.zero_le _) (fun b hb => absurd hb List.not_mem_nil)
  refine ZE.pop d_SN_writeProof_5 (Or.inl rfl) ?_
  refine ZE.iconst (n := 0) d_SN_writeProof_6 ?_
  refine ZE.istore_n (ls2 := [(2, x), (2, t), (0, 0), (9, 0), (9, 0)]) d_SN_writeProof_7 (Nat.le_of_ble_eq_true rfl) rfl ?_
  have L8 : ∀ (tt0 : Nat) (c : Nat) (B : Int → Int → Int) (hc : c ≤ (csA 1 S).length) (hJB : wJ G A B x t S T tl tf wl wf (ptS S c)), (csA 1 S).length - c < tt0 → ZE (d + 5) M_SN_writeProof (gw G B) 8 [(2, x), (2, t), (0, (c : Int)), (9, 0), (9, 0)] [] P := by
    intro tt0
    induction tt0 with
    | zero => intro c B hc hJB hm; exact absurd hm (Nat.not_lt_zero _)
    | succ tt0 ih =>
      intro c B hc hJB hm
      obtain ⟨wB, fB, hCB, -⟩ := hJB.1
      refine ZE.iload_n d_SN_writeProof_8 rfl ?_
      refine ZE.aload_n d_SN_writeProof_9 rfl ?_
      refine ZE.getE (v := x + 1) d_SN_writeProof_10 f_SN_12 (tg := 2) rfl h.cCK.1 hCB.cCF.1 ?_
      refine ZE.getE (v := ((csA 1 S).length : Int)) d_SN_writeProof_13 f_SN_105 (tg := 0) rfl h.cCK.2.2.1.1 hCB.cR.n11 ?_
      refine ZE.icmp_ge (tgt := 117) d_SN_writeProof_16 rfl (by unfold zR; omega) (by unfold zR; omega) (fun c16 => ?_) (fun c16 => ?_)
      · refine ZE.vret d_SN_writeProof_117 rfl ?_
        have e1 : c = (csA 1 S).length := by omega
        subst e1
        exact k B hJB
      · obtain ⟨e1c, hfr⟩ : ∃ e1c : Nat, frD (d1 S c) := ⟨0, hR.fr (c := c) (by omega)⟩
        have hs9 := prfL_len hS7 hp5
        have hsm : (ptS S (c + 1)).length ≤ (prfL S).length := ptS_mono (by omega)
        have hse : (ptS S (c + 1)).length = (ptI S c (ptH S c (ptS S c)) (bnd S)).length + 1 := by rw [ptS_s, List.length_append]; rfl
        have hsi := (ptI_len S c (ptH S c (ptS S c)) (bnd S)).2
        have hsh := ptH_len S c (ptS S c)
        refine ZE.aload_n d_SN_writeProof_19 rfl ?_
        refine ZE.getE (v := x + 1) d_SN_writeProof_20 f_SN_12 (tg := 2) rfl h.cCK.1 hCB.cCF.1 ?_
        refine ZE.iload_n d_SN_writeProof_23 rfl ?_
        have hu := hCB.cR.un (c := c) (by omega)
        refine ZE.cV [(0, (c : Int))] [] [(2, x + 1), (0, (c : Int)), (9, 0)] d_SN_writeProof_24 l_SN_142 rfl rfl rfl rfl rfl rfl h.cCK.2.2.1.1 ?_
        refine s_unitAt hCB.cR.K hCB.cR.F hCB.cR.n11 hC32 (k1 := c) (by omega) (v1 := B (x + 1 + 29) (c : Int)) rfl (by have := hu.1; omega) ?_
        show ZE (d + 5) M_SN_writeProof (gw G B) 27 [(2, x), (2, t), (0, (c : Int)), (9, 0), (9, 0)] [(2, B (x + 1 + 29) (c : Int))] _
        obtain ⟨u, hUB⟩ : ∃ u, B (x + 1 + 29) (c : Int) = u := ⟨_, rfl⟩
        have huB := hu
        rw [hUB] at huB ⊢
        have hu9 := huB.1
        have hrd9 := rad_r9 (eA_lt (ap := 1) (S := S) (c := c) (by omega)).1
        refine ZE.astore_n (ls2 := [(2, x), (2, t), (0, (c : Int)), (2, u), (9, 0)]) d_SN_writeProof_27 (Nat.le_of_ble_eq_true rfl) rfl ?_
        refine ZE.aload_n d_SN_writeProof_28 rfl ?_
        refine ZE.aload_n d_SN_writeProof_29 rfl ?_
        refine ZE.getE (v := (rad (eA 1 S c) : Int)) d_SN_writeProof_30 f_SN_146 (tg := 0) rfl huB.2.2.1.1 huB.2.2.2.1.2.2.1 ?_
        have e9 : rad ((csF S 1 128).getD c 0) = rad (eA 1 S c) := rfl
        rw [e9] at hsh
        refine ZE.cV [(0, (rad (eA 1 S c) : Int))] [] [(2, t), (0, (rad (eA 1 S c) : Int)), (9, 0), (9, 0), (9, 0), (9, 0)] d_SN_writeProof_33 l_SN_387 rfl rfl rfl rfl rfl rfl hT.1 ?_
        refine t_appendInt hT hJB.2.1 (v := rad (eA 1 S c)) (by omega) (by omega) (fun B1 gB1 hXB1 => ?_)
        show ZE (d + 5) M_SN_writeProof (gw G B1) 36 [(2, x), (2, t), (0, (c : Int)), (2, u), (9, 0)] [] _
        have hJB1 := wJ_app hJB ht gB1 hXB1 (by rw [List.length_append]; have e5 : [58].length = 1 := rfl; have e4 : [44].length = 1 := rfl; have hn1 := ptN_len (rad (eA 1 S c)); have hn2 := ptN_len (ux (d1 S c)); have hn3 := ptN_len (uy (d1 S c)); omega) (app_R hJB.2.2.2 (ptN_R _))
        obtain ⟨wB1, fB1, hCB1, -⟩ := hJB1.1
        have hUB1 : B1 (x + 1 + 29) (c : Int) = u := (congrFun (gB1 (x + 1 + 29) (by omega) (by omega)) _).trans hUB
        have huB1 := hCB1.cR.un (c := c) (by omega)
        rw [hUB1] at huB1
        refine ZE.aload_n d_SN_writeProof_36 rfl ?_
        refine ZE.bipush (n := 58) d_SN_writeProof_37 rfl ?_
        refine ZE.cV [(0, 58)] [] [(2, t), (0, 58)] d_SN_writeProof_39 l_SN_390 rfl rfl rfl rfl rfl rfl hT.1 ?_
        refine t_appendL (c := 58) hT hXB1 (by omega) (by rw [List.length_append]; have e5 : [58].length = 1 := rfl; have e4 : [44].length = 1 := rfl; have hn1 := ptN_len (rad (eA 1 S c)); have hn2 := ptN_len (ux (d1 S c)); have hn3 := ptN_len (uy (d1 S c)); omega) (fun B2 gB2 hXB2 => ?_)
        show ZE (d + 5) M_SN_writeProof (gw G B2) 42 [(2, x), (2, t), (0, (c : Int)), (2, u), (9, 0)] [] _
        have hJB2 := wJ_app hJB1 ht gB2 hXB2 (by rw [List.length_append, List.length_append]; have e5 : [58].length = 1 := rfl; have e4 : [44].length = 1 := rfl; have hn1 := ptN_len (rad (eA 1 S c)); have hn2 := ptN_len (ux (d1 S c)); have hn3 := ptN_len (uy (d1 S c)); omega) (app_R hJB1.2.2.2 (fun b hb => by rw [List.mem_singleton] at hb; omega))
        obtain ⟨wB2, fB2, hCB2, -⟩ := hJB2.1
        have hUB2 : B2 (x + 1 + 29) (c : Int) = u := (congrFun (gB2 (x + 1 + 29) (by omega) (by omega)) _).trans hUB1
        have huB2 := hCB2.cR.un (c := c) (by omega)
        rw [hUB2] at huB2
        refine ZE.aload_n d_SN_writeProof_42 rfl ?_
        refine ZE.aload_n d_SN_writeProof_43 rfl ?_
        refine ZE.getE (v := u + 1) d_SN_writeProof_44 f_SN_167 (tg := 2) rfl huB.2.2.1.1 huB2.2.2.2.1.1 ?_
        refine ZE.cV [(2, u + 1)] [] [(2, t), (2, u + 1), (9, 0)] d_SN_writeProof_47 l_SN_393 rfl rfl rfl rfl rfl rfl hT.1 ?_
        refine t_appendBig hT hXB2 huB2.2.2.1.2.2.1 (show bN B2 (u + 1) (ux (d1 S c)) from huB2.2.2.2.1.x) (by have := nB_ux hfr; omega) (by rw [List.length_append, List.length_append]; have e5 : [58].length = 1 := rfl; have e4 : [44].length = 1 := rfl; have hn1 := ptN_len (rad (eA 1 S c)); have hn2 := ptN_len (ux (d1 S c)); have hn3 := ptN_len (uy (d1 S c)); show _ + dl (ux (d1 S c)) ≤ 2048; omega) (by omega) (fun B3 gB3 hXB3 => ?_)
        show ZE (d + 5) M_SN_writeProof (gw G B3) 50 [(2, x), (2, t), (0, (c : Int)), (2, u), (9, 0)] [] _
        have hJB3 := wJ_app hJB2 ht gB3 hXB3 (by rw [List.length_append, List.length_append, List.length_append]; have e5 : [58].length = 1 := rfl; have e4 : [44].length = 1 := rfl; have hn1 := ptN_len (rad (eA 1 S c)); have hn2 := ptN_len (ux (d1 S c)); have hn3 := ptN_len (uy (d1 S c)); omega) (app_R hJB2.2.2.2 (ptN_R _))
        obtain ⟨wB3, fB3, hCB3, -⟩ := hJB3.1
        have hUB3 : B3 (x + 1 + 29) (c : Int) = u := (congrFun (gB3 (x + 1 + 29) (by omega) (by omega)) _).trans hUB2
        have huB3 := hCB3.cR.un (c := c) (by omega)
        rw [hUB3] at huB3
        refine ZE.aload_n d_SN_writeProof_50 rfl ?_
        refine ZE.bipush (n := 44) d_SN_writeProof_51 rfl ?_
        refine ZE.cV [(0, 44)] [] [(2, t), (0, 44)] d_SN_writeProof_53 l_SN_390 rfl rfl rfl rfl rfl rfl hT.1 ?_
        refine t_appendL (c := 44) hT hXB3 (by omega) (by rw [List.length_append, List.length_append, List.length_append]; have e5 : [58].length = 1 := rfl; have e4 : [44].length = 1 := rfl; have hn1 := ptN_len (rad (eA 1 S c)); have hn2 := ptN_len (ux (d1 S c)); have hn3 := ptN_len (uy (d1 S c)); omega) (fun B4 gB4 hXB4 => ?_)
        show ZE (d + 5) M_SN_writeProof (gw G B4) 56 [(2, x), (2, t), (0, (c : Int)), (2, u), (9, 0)] [] _
        have hJB4 := wJ_app hJB3 ht gB4 hXB4 (by rw [List.length_append, List.length_append, List.length_append, List.length_append]; have e5 : [58].length = 1 := rfl; have e4 : [44].length = 1 := rfl; have hn1 := ptN_len (rad (eA 1 S c)); have hn2 := ptN_len (ux (d1 S c)); have hn3 := ptN_len (uy (d1 S c)); omega) (app_R hJB3.2.2.2 (fun b hb => by rw [List.mem_singleton] at hb; omega))
        obtain ⟨wB4, fB4, hCB4, -⟩ := hJB4.1
        have hUB4 : B4 (x + 1 + 29) (c : Int) = u := (congrFun (gB4 (x + 1 + 29) (by omega) (by omega)) _).trans hUB3
        have huB4 := hCB4.cR.un (c := c) (by omega)
        rw [hUB4] at huB4
        refine ZE.aload_n d_SN_writeProof_56 rfl ?_
        refine ZE.aload_n d_SN_writeProof_57 rfl ?_
        refine ZE.getE (v := u + 3) d_SN_writeProof_58 f_SN_170 (tg := 2) rfl huB.2.2.1.1 huB4.2.2.2.1.2.1 ?_
        refine ZE.cV [(2, u + 3)] [] [(2, t), (2, u + 3), (9, 0)] d_SN_writeProof_61 l_SN_393 rfl rfl rfl rfl rfl rfl hT.1 ?_
        refine t_appendBig hT hXB4 huB4.2.2.1.2.2.2.1 (show bN B4 (u + 3) (uy (d1 S c)) from huB4.2.2.2.1.y) (by have := nB_uy hfr; omega) (by rw [List.length_append, List.length_append, List.length_append, List.length_append]; have e5 : [58].length = 1 := rfl; have e4 : [44].length = 1 := rfl; have hn1 := ptN_len (rad (eA 1 S c)); have hn2 := ptN_len (ux (d1 S c)); have hn3 := ptN_len (uy (d1 S c)); show _ + dl (uy (d1 S c)) ≤ 2048; omega) (by omega) (fun B5 gB5 hXB5 => ?_)
        show ZE (d + 5) M_SN_writeProof (gw G B5) 64 [(2, x), (2, t), (0, (c : Int)), (2, u), (9, 0)] [] _
        have hJB5 := wJ_app hJB4 ht gB5 hXB5 (by rw [List.length_append, List.length_append, List.length_append, List.length_append, List.length_append]; have e5 : [58].length = 1 := rfl; have e4 : [44].length = 1 := rfl; have hn1 := ptN_len (rad (eA 1 S c)); have hn2 := ptN_len (ux (d1 S c)); have hn3 := ptN_len (uy (d1 S c)); omega) (app_R hJB4.2.2.2 (ptN_R _))
        obtain ⟨wB5, fB5, hCB5, -⟩ := hJB5.1
        have hUB5 : B5 (x + 1 + 29) (c : Int) = u := (congrFun (gB5 (x + 1 + 29) (by omega) (by omega)) _).trans hUB4
        have huB5 := hCB5.cR.un (c := c) (by omega)
        rw [hUB5] at huB5
        refine ZE.iconst (n := 1) d_SN_writeProof_64 ?_
        refine ZE.istore (ls2 := [(2, x), (2, t), (0, (c : Int)), (2, u), (0, 1)]) d_SN_writeProof_65 (Nat.le_of_ble_eq_true rfl) rfl ?_
        have hJH : wJ G A B5 x t S T tl tf wl wf (ptH S c (ptS S c)) := by rw [ptH_s]; exact hJB5
        have L67 : ∀ (tt1 : Nat) (j : Nat) (D : Int → Int → Int) (hj : j ≤ bnd S) (hJD : wJ G A D x t S T tl tf wl wf (ptI S c (ptH S c (ptS S c)) j)) (hUD : D (x + 1 + 29) (c : Int) = u), bnd S - j < tt1 → ZE (d + 5) M_SN_writeProof (gw G D) 67 [(2, x), (2, t), (0, (c : Int)), (2, u), (0, (j : Int) + 1)] [] P := by
          intro tt1
          induction tt1 with
          | zero => intro j D hj hJD hUD hm; exact absurd hm (Nat.not_lt_zero _)
          | succ tt1 ih2 =>
            intro j D hj hJD hUD hm
            obtain ⟨wD, fD, hCD, -⟩ := hJD.1
            have huD := hCD.cR.un (c := c) (by omega)
            rw [hUD] at huD
            refine ZE.iload d_SN_writeProof_67 rfl ?_
            refine ZE.aload_n d_SN_writeProof_69 rfl ?_
            refine ZE.getE (v := x + 1) d_SN_writeProof_70 f_SN_12 (tg := 2) rfl h.cCK.1 hCD.cCF.1 ?_
            refine ZE.getE (v := (bnd S : Int)) d_SN_writeProof_73 f_SN_108 (tg := 0) rfl h.cCK.2.2.1.1 hCD.cR.N.1.2.1 ?_
            refine ZE.icmp_gt (tgt := 105) d_SN_writeProof_76 rfl (by unfold zR; omega) (by unfold zR; omega) (fun c76 => ?_) (fun c76 => ?_)
            · refine ZE.aload_n d_SN_writeProof_105 rfl ?_
              refine ZE.bipush (n := 46) d_SN_writeProof_106 rfl ?_
              have hjb : j = bnd S := by omega
              have hJE := hJD
              rw [hjb] at hJE
              refine ZE.cV [(0, 46)] [] [(2, t), (0, 46)] d_SN_writeProof_108 l_SN_390 rfl rfl rfl rfl rfl rfl hT.1 ?_
              refine t_appendL (c := 46) hT hJE.2.1 (by omega) (by omega) (fun D4 gD4 hXD4 => ?_)
              show ZE (d + 5) M_SN_writeProof (gw G D4) 111 [(2, x), (2, t), (0, (c : Int)), (2, u), (0, (j : Int) + 1)] [] _
              have hJD4 := wJ_app hJE ht gD4 hXD4 (by rw [List.length_append]; have e6 : [46].length = 1 := rfl; omega) (app_R hJE.2.2.2 (fun b hb => by rw [List.mem_singleton] at hb; omega))
              rw [← ptS_s] at hJD4
              refine ZE.iinc (ls2 := [(2, x), (2, t), (0, (c : Int) + 1), (2, u), (0, (j : Int) + 1)]) d_SN_writeProof_111 rfl rfl ?_
              refine ZE.goto (tgt := 8) d_SN_writeProof_114 rfl ?_
              refine ZE.mask [true, true, true, false, false] ?_
              show ZE (d + 5) M_SN_writeProof (gw G D4) 8 [(2, x), (2, t), (0, (c : Int) + 1), (9, 0), (9, 0)] [] _
              rw [show (c : Int) + 1 = ((c + 1 : Nat) : Int) by omega]
              exact ih (c + 1) D4 (by omega) hJD4 (by omega)
            · refine ZE.aload_n d_SN_writeProof_79 rfl ?_
              refine ZE.bipush (n := 59) d_SN_writeProof_80 rfl ?_
              have hij := ptI_mono (S := S) (c := c) (L := ptH S c (ptS S c)) (i := j) (n := bnd S) hj
              refine ZE.cV [(0, 59)] [] [(2, t), (0, 59)] d_SN_writeProof_82 l_SN_390 rfl rfl rfl rfl rfl rfl hT.1 ?_
              refine t_appendL (c := 59) hT hJD.2.1 (by omega) (by omega) (fun D1 gD1 hXD1 => ?_)
              show ZE (d + 5) M_SN_writeProof (gw G D1) 85 [(2, x), (2, t), (0, (c : Int)), (2, u), (0, (j : Int) + 1)] [] _
              have hJD1 := wJ_app hJD ht gD1 hXD1 (by rw [List.length_append]; have e6 : [59].length = 1 := rfl; omega) (app_R hJD.2.2.2 (fun b hb => by rw [List.mem_singleton] at hb; omega))
              obtain ⟨wD1, fD1, hCD1, -⟩ := hJD1.1
              have hUD1 : D1 (x + 1 + 29) (c : Int) = u := (congrFun (gD1 (x + 1 + 29) (by omega) (by omega)) _).trans hUD
              have huD1 := hCD1.cR.un (c := c) (by omega)
              rw [hUD1] at huD1
              refine ZE.aload_n d_SN_writeProof_85 rfl ?_
              refine ZE.aload_n d_SN_writeProof_86 rfl ?_
              refine ZE.iload d_SN_writeProof_87 rfl ?_
              refine ZE.aload_n d_SN_writeProof_89 rfl ?_
              refine ZE.getE (v := (S : Int)) d_SN_writeProof_90 f_SN_72 (tg := 0) rfl h.cCK.1 hCD1.cS.1 ?_
              have heA := eA_lt (ap := 1) (S := S) (c := c) (by omega)
              have heP := eA_pop (ap := 1) hS7 hp5 (c := c) (by omega)
              have hod : xp (ux (DD 1 (eA 1 S c))) (j + 1) % 2 = 1 := (xp_odd (by have := (ux_3 _ heA.1 heP).1 heA.2.2; show 1 ≤ ux (2 * rad (eA 1 S c)); omega) ((ux_3 _ heA.1 heP).1 heA.2.2).2 (j + 1)).1
              have hwo : wtU (DD 1 (eA 1 S c)) 1 S (j + 1) = woN S c (j + 1) := (wt_wo (s := eA 1 S c) heA.1 heP heA.2.2 hS7 (by omega) (by omega) rfl)
              refine ZE.cV [(0, (j : Int) + 1), (0, (S : Int))] [(2, t)] [(2, u), (0, (j : Int) + 1), (0, (S : Int)), (9, 0)] d_SN_writeProof_93 l_SN_222 rfl rfl rfl rfl rfl rfl huB.2.2.1.1 ?_
              refine u_witnessFor huD1.2.2.1 huD1.2.2.2.1 huD1.2.2.2.2 hCD1.cL.1 (show frD (DD 1 (eA 1 S c)) from hfr) hS7 (i0 := j + 1) (by omega) hod (fun D2 hD2 => ?_)
              show ZE (d + 5) M_SN_writeProof (gw G D2) 96 [(2, x), (2, t), (0, (c : Int)), (2, u), (0, (j : Int) + 1)] [(0, wtU (DD 1 (eA 1 S c)) 1 S (j + 1)), (2, t)] _
              rw [hwo]
              have hJD2 : wJ G A D2 x t S T tl tf wl wf ((ptI S c (ptH S c (ptS S c)) j) ++ [59]) := by
                rcases hD2 with q | q
                · rw [q]; exact hJD1
                · rw [q, ← hUD1]; exact wJ_wit hJD1 ht (by omega)
              have hUe : D2 (x + 1 + 29) (c : Int) = D1 (x + 1 + 29) (c : Int) := by
                rcases hD2 with q | q
                · rw [q]
                · rw [q, up2_A, upA_ne _ _ (by omega)]
              clear hD2
              obtain ⟨wD2, fD2, hCD2, -⟩ := hJD2.1
              have hUD2 : D2 (x + 1 + 29) (c : Int) = u := hUe.trans hUD1
              have huD2 := hCD2.cR.un (c := c) (by omega)
              rw [hUD2] at huD2
              have hwr := woN_R S c (j + 1)
              have hij2 := ptI_mono (S := S) (c := c) (L := ptH S c (ptS S c)) (i := j + 1) (n := bnd S) (by omega)
              have hij3 : (ptI S c (ptH S c (ptS S c)) (j + 1)).length = (ptW ((ptI S c (ptH S c (ptS S c)) j) ++ [59]) (woN S c (j + 1))).length := by rw [ptI_s]
              refine ZE.cS [(2, t), (0, woN S c (j + 1))] [] [(2, t), (0, woN S c (j + 1))] d_SN_writeProof_96 l_SN_396 rfl rfl rfl rfl rfl rfl ?_
              refine c_apw hT hJD2.2.1 (v := woN S c (j + 1)) hwr (by omega) (fun D3 gD3 hXD3 => ?_)
              show ZE (d + 5) M_SN_writeProof (gw G D3) 99 [(2, x), (2, t), (0, (c : Int)), (2, u), (0, (j : Int) + 1)] [] _
              have hJD3 := wJ_app hJD2 ht gD3 hXD3 (by omega) (ptW_R9 hJD2.2.2.2 _)
              obtain ⟨wD3, fD3, hCD3, -⟩ := hJD3.1
              have hUD3 : D3 (x + 1 + 29) (c : Int) = u := (congrFun (gD3 (x + 1 + 29) (by omega) (by omega)) _).trans hUD2
              have huD3 := hCD3.cR.un (c := c) (by omega)
              rw [hUD3] at huD3
              refine ZE.iinc (ls2 := [(2, x), (2, t), (0, (c : Int)), (2, u), (0, ((j : Int) + 1) + 1)]) d_SN_writeProof_99 rfl rfl ?_
              refine ZE.goto (tgt := 67) d_SN_writeProof_102 rfl ?_
              rw [show (j : Int) + 1 + 1 = ((j + 1 : Nat) : Int) + 1 by omega]
              rw [← ptI_s] at hJD3
              exact ih2 (j + 1) D3 (by omega) hJD3 hUD3 (by omega)
        exact L67 _ 0 B5 (by omega) hJH hUB5 (Nat.lt_succ_self _)
  exact L8 _ 0 B0 (by omega) hJ0 (Nat.lt_succ_self _)
set_option maxRecDepth 20000 in
set_option maxHeartbeats 400000 in
theorem c_proof {d : Nat} {G : zG} {A : Int → Int → Int} {P : Option zV → zG → Prop} {x : Int} {S T tl : Nat} {tf : Nat → Int} {wl : Nat} {wf : Nat → Int} (h : CI G A x S T tl tf wl wf)  (k : ∀ G2 A2, CI G2 A2 x S T tl tf (prfL S).length (prV S) → cT G A G2 A2 x → P (some (0, ((prfL S).length : Int))) (gw G2 A2)) : ZE 11 M_SN_proof (gw G A) 0 [(2, x)] [] P := by
  have hx0 := h.cCK.2.1
  have hR := h.cR
  have hL := h.cL.1
  have hgx := h.cL.2
  have hS7 := h.cS.2.1
  have hp5 := h.cS.2.2
  have hE0 := hR.E
  have hL64 := hR.l64
  have hC32 := hR.c32
  have hpl : (prL 1 S).length = (prs S).length := by rw [prL_1 hS7 hp5]
  have hcl : (csA 1 S).length = (csF S 1 128).length := rfl
  have hs9 := prfL_len hS7 hp5
  refine ZE.aload_n d_SN_proof_0 rfl ?_
  refine ZE.aload_n d_SN_proof_1 rfl ?_
  refine ZE.getE (v := x + 137) d_SN_proof_2 f_SN_56 (tg := 2) rfl h.cCK.1 h.cCF.2.2.2.2.2.2.2.1 ?_
  refine ZE.cV [(2, x + 137)] [] [(2, x), (2, x + 137), (9, 0), (9, 0), (9, 0)] d_SN_proof_5 l_SN_379 rfl rfl rfl rfl rfl rfl h.cCK.1 ?_
  refine c_writeProof h (Or.inl rfl) (fun B hJ => ?_)
  show ZE 11 M_SN_proof (gw G B) 8 [(2, x)] [] _
  obtain ⟨w2, f2, hC, hE⟩ := hJ.1
  refine ZE.aload_n d_SN_proof_8 rfl ?_
  refine ZE.getE (v := x + 137) d_SN_proof_9 f_SN_56 (tg := 2) rfl h.cCK.1 hC.cCF.2.2.2.2.2.2.2.1 ?_
  refine ZE.getE (v := ((prfL S).length : Int)) d_SN_proof_12 f_SN_344 (tg := 0) rfl h.xW.1 hJ.2.1.2.1 ?_
  refine ZE.iret d_SN_proof_15 rfl ?_
  exact k G B (hC.sw (fun _ _ => rfl) ⟨hJ.2.1, by omega, fun q => by have := ptx_R hJ.2.2.2 q; show 0 ≤ (((prfL S).getD q 0 : Nat) : Int) ∧ (((prfL S).getD q 0 : Nat) : Int) ≤ 127; omega⟩) hJ.2.2.1
set_option maxRecDepth 20000 in
set_option maxHeartbeats 400000 in
theorem c_proves {d : Nat} {G : zG} {A : Int → Int → Int} {P : Option zV → zG → Prop} {x : Int} {S T tl : Nat} {tf : Nat → Int} {wl : Nat} {wf : Nat → Int} (h : CI G A x S T tl tf wl wf)  (k : ∀ G2 A2, CI G2 A2 x S T 0 tf wl wf → cT G A G2 A2 x → P (some (0, pvV S tl tf)) (gw G2 A2)) : ZE 11 M_SN_proves (gw G A) 0 [(2, x), (9, 0)] [] P := by
  have hx0 := h.cCK.2.1
  have hR := h.cR
  have hL := h.cL.1
  have hgx := h.cL.2
  have hS7 := h.cS.2.1
  have hp5 := h.cS.2.2
  have hE0 := hR.E
  have hL64 := hR.l64
  have hC32 := hR.c32
  have hpl : (prL 1 S).length = (prs S).length := by rw [prL_1 hS7 hp5]
  have hcl : (csA 1 S).length = (csF S 1 128).length := rfl
  have hs9 := prfL_len hS7 hp5
  refine ZE.aload_n d_SN_proves_0 rfl ?_
  refine ZE.aload_n d_SN_proves_1 rfl ?_
  refine ZE.getE (v := x + 139) d_SN_proves_2 f_SN_59 (tg := 2) rfl h.cCK.1 h.cCF.2.2.2.2.2.2.2.2.1 ?_
  refine ZE.cV [(2, x + 139)] [] [(2, x), (2, x + 139), (9, 0), (9, 0), (9, 0)] d_SN_proves_5 l_SN_379 rfl rfl rfl rfl rfl rfl h.cCK.1 ?_
  refine c_writeProof h (Or.inr rfl) (fun B hJ => ?_)
  show ZE 11 M_SN_proves (gw G B) 8 [(2, x), (9, 0)] [] _
  obtain ⟨w2, f2, hC, hE⟩ := hJ.1
  have hE3 := hE rfl
  rw [hE3.1, hE3.2] at hC
  refine ZE.aload_n d_SN_proves_8 rfl ?_
  refine ZE.getE (v := x + 139) d_SN_proves_9 f_SN_59 (tg := 2) rfl h.cCK.1 hC.cCF.2.2.2.2.2.2.2.2.1 ?_
  refine ZE.aload_n d_SN_proves_12 rfl ?_
  refine ZE.getE (v := x + 135) d_SN_proves_13 f_SN_52 (tg := 2) rfl h.cCK.1 hC.cCF.2.2.2.2.2.2.1 ?_
  have htl2 := hC.ct.2.1
  refine ZE.cV [(2, x + 135)] [] [(2, x + 139), (2, x + 135), (9, 0)] d_SN_proves_16 l_SN_383 rfl rfl rfl rfl rfl rfl h.xD.1 ?_
  refine t_firstUnlike h.xD hJ.2.1 (fun q => ptx_R hJ.2.2.2 q) (by omega) h.xT hC.ct.1 hC.ct.2.2 (by omega) ?_
  show ZE 11 M_SN_proves (gw G B) 19 [(2, x), (9, 0)] [(0, fuV (prfL S) tl tf)] _
  refine ZE.istore_n (ls2 := [(2, x), (0, fuV (prfL S) tl tf)]) d_SN_proves_19 (Nat.le_of_ble_eq_true rfl) rfl ?_
  refine ZE.aload_n d_SN_proves_20 rfl ?_
  refine ZE.getE (v := x + 135) d_SN_proves_21 f_SN_52 (tg := 2) rfl h.cCK.1 hC.cCF.2.2.2.2.2.2.1 ?_
  refine ZE.iconst (n := 0) d_SN_proves_24 ?_
  refine ZE.cV [(0, 0)] [] [(2, x + 135), (0, 0)] d_SN_proves_25 l_SN_347 rfl rfl rfl rfl rfl rfl h.xT.1 ?_
  refine t_cutTo h.xT hC.ct.1 (n := 0) (by unfold zR; omega) (by omega) (fun C gC hXC => ?_)
  show ZE 11 M_SN_proves (gw G C) 28 [(2, x), (0, fuV (prfL S) tl tf)] [(0, b2i (0 ≤ (0 : Int) ∧ (0 : Int) ≤ (tl : Int)))] _
  refine ZE.pop d_SN_proves_28 (Or.inl rfl) ?_
  refine ZE.iload_n d_SN_proves_29 rfl ?_
  refine ZE.iret d_SN_proves_30 rfl ?_
  rw [show enT tl 0 = 0 from if_pos (by omega)] at hXC
  have hz := tp_CI hC gC hXC (by omega) hC.ct.2.2
  exact k G C hz.1 (hJ.2.2.1.tr hz.2)
