def ptW (L : List Nat) (w : Int) : List Nat := if w = 0 then L ++ [115] else if w < 0 then L ++ [63] else L ++ ptN w.toNat
def ptI (S c : Nat) (L : List Nat) : Nat → List Nat
  | 0 => L
  | i + 1 => ptW (ptI S c L i ++ [59]) (woN S c (i + 1))
def ptH (S c : Nat) (L : List Nat) : List Nat := ((((L ++ ptN (rad ((csF S 1 128).getD c 0))) ++ [58]) ++ ptN (ux (d1 S c))) ++ [44]) ++ ptN (uy (d1 S c))
def ptS (S : Nat) : Nat → List Nat
  | 0 => []
  | c + 1 => ptI S c (ptH S c (ptS S c)) (bnd S) ++ [46]
def prfL (S : Nat) : List Nat := ptS S (csF S 1 128).length
theorem fsA_R {f : Nat → Bool} : ∀ n a, fsA f a n = -1 ∨ ((a : Int) ≤ fsA f a n ∧ fsA f a n < (a : Int) + n) := by
  intro n
  induction n with
  | zero => intro a; exact Or.inl rfl
  | succ n ih =>
    intro a
    unfold fsA
    split
    · right; omega
    · have := ih (a + 1); omega
theorem woN_R (S c i : Nat) : woN S c i = 0 ∨ woN S c i = -2 ∨ (2 ≤ woN S c i ∧ woN S c i < 1000) := by
  have h := fsA_R (f := wiB S c i) 998 2
  unfold woN
  split
  · exact Or.inl rfl
  · split
    · exact Or.inr (Or.inl rfl)
    · right; right; omega
theorem ptW_len (L : List Nat) {w : Int} (h : w < 1000) : (ptW L w).length ≤ L.length + 3 ∧ L.length ≤ (ptW L w).length := by
  unfold ptW
  split
  · rw [List.length_append]; show L.length + 1 ≤ _ ∧ L.length ≤ L.length + 1; omega
  · split
    · rw [List.length_append]; show L.length + 1 ≤ _ ∧ L.length ≤ L.length + 1; omega
    · rw [List.length_append, ptN_len]
      have h2 : nd 10 (w.toNat / 10) ≤ 2 := nd_le (by omega) (by omega)
      have h3 : dl w.toNat ≤ 3 := Nat.succ_le_succ h2
      omega
theorem ptI_len (S c : Nat) (L : List Nat) : ∀ i, (ptI S c L i).length ≤ L.length + 4 * i ∧ L.length ≤ (ptI S c L i).length := by
  intro i
  induction i with
  | zero => exact ⟨Nat.le_refl _, Nat.le_refl _⟩
  | succ i ih =>
    have h1 := woN_R S c (i + 1)
    have h2 := ptW_len (ptI S c L i ++ [59]) (w := woN S c (i + 1)) (by omega)
    have h3 : (ptI S c L i ++ [59]).length = (ptI S c L i).length + 1 := by rw [List.length_append]; rfl
    show (ptW (ptI S c L i ++ [59]) (woN S c (i + 1))).length ≤ _ ∧ _ ≤ (ptW (ptI S c L i ++ [59]) (woN S c (i + 1))).length
    omega
theorem ptH_len (S c : Nat) (L : List Nat) : (ptH S c L).length = L.length + dl (rad ((csF S 1 128).getD c 0)) + 1 + dl (ux (d1 S c)) + 1 + dl (uy (d1 S c)) := by
  unfold ptH
  rw [List.length_append, List.length_append, List.length_append, List.length_append, List.length_append, ptN_len, ptN_len, ptN_len]
  rfl
theorem ptS_len {S : Nat} (hS : S < 128) (hp : pop S ≤ 5) : ∀ c, c ≤ (csF S 1 128).length → (ptS S c).length ≤ sumF (plC S) c := by
  intro c
  induction c with
  | zero => intro _; exact Nat.le_refl _
  | succ c ih =>
    intro hc
    have h1 := ih (by omega)
    have h2 := (plC_ok hS hp (c := c) (by omega)).1
    have h3 := ptI_len S c (ptH S c (ptS S c)) (bnd S)
    have h4 := ptH_len S c (ptS S c)
    show (ptI S c (ptH S c (ptS S c)) (bnd S) ++ [46]).length ≤ sumF (plC S) c + plC S c
    rw [List.length_append]
    show (ptI S c (ptH S c (ptS S c)) (bnd S)).length + 1 ≤ _
    omega
theorem prfL_len {S : Nat} (hS : S < 128) (hp : pop S ≤ 5) : (prfL S).length ≤ 1999 := by
  have h1 := ptS_len hS hp _ (Nat.le_refl _)
  have h4 := pl_sum S hS hp
  rw [← sumL_eq] at h4
  exact Nat.le_trans h1 h4
def pvF (L : List Nat) (tl : Nat) (tf : Nat → Int) : Nat → Nat → Nat
  | k, 0 => k
  | k, f + 1 => if k < tl ∧ k < L.length ∧ tf k = (L.getD k 0 : Int) then pvF L tl tf (k + 1) f else k
theorem pvF_stop {L : List Nat} {tl : Nat} {tf : Nat → Int} {k f : Nat} (h : ¬ (k < tl ∧ k < L.length ∧ tf k = (L.getD k 0 : Int))) : pvF L tl tf k f = k := by
  cases f with
  | zero => rfl
  | succ f => exact if_neg h
def pvV (S tl : Nat) (tf : Nat → Int) : Int := if pvF (prfL S) tl tf 0 tl = tl ∧ pvF (prfL S) tl tf 0 tl = (prfL S).length then -1 else (pvF (prfL S) tl tf 0 tl : Int)
theorem ptx_R {L : List Nat} (h : ∀ b ∈ L, b < 128) (k : Nat) : L.getD k 0 < 128 := by
  rw [List.getD_eq_getElem?_getD]
  rcases Nat.lt_or_ge k L.length with q | q
  · rw [List.getElem?_eq_getElem q]; exact h _ (List.getElem_mem q)
  · rw [List.getElem?_eq_none q]; decide
theorem dgs_R (v : Nat) : ∀ n, ∀ b ∈ dgs v n, 48 ≤ b ∧ b < 58 := by
  intro n
  induction n with
  | zero => intro b h; cases h
  | succ n ih =>
    intro b h
    cases h with
    | head => have := dg_lt (b := 10) (by omega) v n; omega
    | tail _ h => exact ih b h
theorem app_R {L M : List Nat} (h1 : ∀ b ∈ L, b < 128) (h2 : ∀ b ∈ M, b < 128) : ∀ b ∈ L ++ M, b < 128 := fun b h => by
  rcases List.mem_append.mp h with q | q
  · exact h1 b q
  · exact h2 b q
theorem one_R {c : Nat} (h : c < 128) : ∀ b ∈ [c], b < 128 := fun b q => by
  cases q with
  | head => exact h
  | tail _ q => cases q
theorem ptN_R (v : Nat) : ∀ b ∈ ptN v, b < 128 := fun b h => by have := dgs_R v _ b h; omega
theorem ptW_R {L : List Nat} (w : Int) (h : ∀ b ∈ L, b < 128) : ∀ b ∈ ptW L w, b < 128 := by
  unfold ptW
  split
  · exact app_R h (one_R (by omega))
  · split
    · exact app_R h (one_R (by omega))
    · exact app_R h (ptN_R _)
theorem ptI_R {S c : Nat} {L : List Nat} (h : ∀ b ∈ L, b < 128) : ∀ i, ∀ b ∈ ptI S c L i, b < 128 := by
  intro i
  induction i with
  | zero => exact h
  | succ i ih => exact ptW_R _ (app_R ih (one_R (by omega)))
theorem ptS_R (S : Nat) : ∀ c, ∀ b ∈ ptS S c, b < 128 := by
  intro c
  induction c with
  | zero => intro b h; cases h
  | succ c ih => exact app_R (ptI_R (app_R (app_R (app_R (app_R (app_R ih (ptN_R _)) (one_R (by omega))) (ptN_R _)) (one_R (by omega))) (ptN_R _)) _) (one_R (by omega))
theorem prfL_R (S k : Nat) : (prfL S).getD k 0 < 128 := ptx_R (ptS_R S _) k
set_option maxRecDepth 20000 in
set_option maxHeartbeats 4000000 in
theorem r_layProof {d : Nat} {G : zG} {A : Int → Int → Int} {P : Option zV → zG → Prop} {o : Int} (hK : RK G o) (hF : RF A o) {S : Nat} (hR : RS S A o) (hS7 : S < 128) (hp5 : pop S ≤ 5) (k : ∀ B, lyF A B o → ltx B o (prfL S) → P none (gw G B)) : ZE (d + 5) M_Ref_layProof (gw G A) 0 [(2, o), (9, 0), (9, 0), (9, 0)] [] P := by
  have hpl := prs_288 hS7 hp5
  have hcl := cls_le hS7 hp5
  have hbb := bnd_le S hS7
  have lyF0 : lyF A (up2 A o 28 0) o := ⟨fun b h1 _ => by rw [up2_A, upA_ne _ _ h1], fun j h => up2_ne _ _ (fun q => h q.2)⟩
  refine ZE.aload_n d_Ref_layProof_0 rfl ?_
  refine ZE.iconst (n := 0) d_Ref_layProof_1 ?_
  refine ZE.put d_Ref_layProof_2 f_Ref_391 (tg := 0) rfl trivial (Or.inl ⟨_, _, _, rfl, rfl, rfl⟩) hK.1 ?_
  show ZE (d + 5) M_Ref_layProof (gw G (up2 A o 28 0)) 5 [(2, o), (9, 0), (9, 0), (9, 0)] [] _
  refine ZE.iconst (n := 0) d_Ref_layProof_5 ?_
  refine ZE.istore_n (ls2 := [(2, o), (0, 0), (9, 0), (9, 0)]) d_Ref_layProof_6 (Nat.le_of_ble_eq_true rfl) rfl ?_
  have L7 : ∀ (t : Nat) (c : Nat) (B : Int → Int → Int) (hc : c ≤ (csF S 1 128).length) (gB : lyF A B o) (hlB : ltx B o (ptS S c)), (csF S 1 128).length - c < t → ZE (d + 5) M_Ref_layProof (gw G B) 7 [(2, o), (0, (c : Int)), (9, 0), (9, 0)] [] P := by
    intro t
    induction t with
    | zero => intro c B hc gB hlB hm; exact absurd hm (Nat.not_lt_zero _)
    | succ t ih =>
      intro c B hc gB hlB hm
      have ihO := ih
      have hmO := hm
      have hFB : RF B o := hF.wi gB.wi
      have hRB : RS S B o := hR.wi gB.wi hS7 hp5
      refine ZE.iload_n d_Ref_layProof_7 rfl ?_
      refine ZE.aload_n d_Ref_layProof_8 rfl ?_
      refine ZE.getE (v := ((csF S 1 128).length : Int)) d_Ref_layProof_9 f_Ref_195 (tg := 0) rfl hK.1 hRB.n1 ?_
      refine ZE.icmp_ge (tgt := 125) d_Ref_layProof_12 rfl (by unfold zR; omega) (by unfold zR; omega) (fun c12 => ?_) (fun c12 => ?_)
      · have e1 : c = (csF S 1 128).length := by omega
        refine ZE.vret d_Ref_layProof_125 rfl ?_
        exact k B gB (by unfold prfL; rw [← e1]; exact hlB)
      · have hclc := hR.c1 c (by omega)
        have hqc := hR.q1 c (by omega)
        have hokc := d1_ok (S := S) (k := c) (by omega)
        have hpc := plC_ok hS7 hp5 (c := c) (by omega)
        have hsl := ptS_len hS7 hp5 c (by omega)
        have hux9 : nd 10000 (ux (d1 S c)) ≤ 81 := (okD_ns hokc.1).2.1
        have huy9 : nd 10000 (uy (d1 S c)) ≤ 81 := (okD_ns hokc.1).2.2
        have hrd : rad ((csF S 1 128).getD c 0) ≤ 510510 := (gr_le2 _ (csF_lt S 1 128 c (by omega)).1).2
        refine ZE.aload_n d_Ref_layProof_15 rfl ?_
        refine ZE.aload_n d_Ref_layProof_16 rfl ?_
        refine ZE.getE (v := o + 3) d_Ref_layProof_17 f_Ref_16 (tg := 2) rfl hK.1 hFB.a3 ?_
        refine ZE.iload_n d_Ref_layProof_20 rfl ?_
        refine ZE.ialdE (v := (rad ((csF S 1 128).getD c 0) : Int)) d_Ref_layProof_21 hK.k3 (by have hn0 := hK.n3; show 0 ≤ (c : Int) ∧ (c : Int) < gn G (o + 3); omega) (by show B (o + 3) (c : Int) = _; rw [gB.1 (o + 3) (by omega) (by omega)]; exact hqc) ?_
        refine ZE.cV [(0, (rad ((csF S 1 128).getD c 0) : Int))] [] [(2, o), (0, (rad ((csF S 1 128).getD c 0) : Int)), (9, 0)] d_Ref_layProof_22 l_Ref_397 rfl rfl rfl rfl rfl rfl hK.1 ?_
        refine r_putNumber (L := ptS S c) (v := rad ((csF S 1 128).getD c 0)) hK hFB hlB (by omega) (by omega) (fun B1 g1 hl1 => ?_)
        show ZE (d + 5) M_Ref_layProof (gw G B1) 25 [(2, o), (0, (c : Int)), (9, 0), (9, 0)] [] _
        have gT1 : lyF A B1 o := gB.tr g1
        have hFB1 : RF B1 o := hF.wi gT1.wi
        refine ZE.aload_n d_Ref_layProof_25 rfl ?_
        refine ZE.bipush (n := 58) d_Ref_layProof_26 rfl ?_
        refine ZE.cV [(0, 58)] [] [(2, o), (0, 58)] d_Ref_layProof_28 l_Ref_394 rfl rfl rfl rfl rfl rfl hK.1 ?_
        refine r_put (L := (ptS S c ++ ptN (rad ((csF S 1 128).getD c 0)))) (c := 58) hK hFB1 hl1 (by simp only [List.length_append, List.length_cons, List.length_nil, ptN_len]; omega) (by omega) (fun B2 g2 hl2 => ?_)
        show ZE (d + 5) M_Ref_layProof (gw G B2) 31 [(2, o), (0, (c : Int)), (9, 0), (9, 0)] [] _
        have gT2 : lyF A B2 o := gT1.tr g2
        have hFB2 : RF B2 o := hF.wi gT2.wi
        refine ZE.aload_n d_Ref_layProof_31 rfl ?_
        refine ZE.iconst (n := 2) d_Ref_layProof_32 ?_
        refine ZE.iload_n d_Ref_layProof_33 rfl ?_
        refine ZE.imul d_Ref_layProof_34 ?_
        have hnx : num (B2 (o + 2)) (2 * (c : Int)) (ux (d1 S c)) := by rw [gT2.1 (o + 2) (by omega) (by omega)]; exact hclc.2.2.1
        refine ZE.cV [(0, 2 * (c : Int))] [] [(2, o), (0, 2 * (c : Int)), (9, 0)] d_Ref_layProof_35 l_Ref_400 rfl rfl rfl rfl rfl rfl hK.1 ?_
        refine r_putBig (L := ((ptS S c ++ ptN (rad ((csF S 1 128).getD c 0))) ++ [58])) (n := 2 * (c : Int)) (v := ux (d1 S c)) hK hFB2 hl2 (by omega) hnx hux9 (by simp only [List.length_append, List.length_cons, List.length_nil, ptN_len]; omega) (fun B3 g3 hl3 => ?_)
        show ZE (d + 5) M_Ref_layProof (gw G B3) 38 [(2, o), (0, (c : Int)), (9, 0), (9, 0)] [] _
        have gT3 : lyF A B3 o := gT2.tr g3
        have hFB3 : RF B3 o := hF.wi gT3.wi
        refine ZE.aload_n d_Ref_layProof_38 rfl ?_
        refine ZE.bipush (n := 44) d_Ref_layProof_39 rfl ?_
        refine ZE.cV [(0, 44)] [] [(2, o), (0, 44)] d_Ref_layProof_41 l_Ref_394 rfl rfl rfl rfl rfl rfl hK.1 ?_
        refine r_put (L := (((ptS S c ++ ptN (rad ((csF S 1 128).getD c 0))) ++ [58]) ++ ptN (ux (d1 S c)))) (c := 44) hK hFB3 hl3 (by simp only [List.length_append, List.length_cons, List.length_nil, ptN_len]; omega) (by omega) (fun B4 g4 hl4 => ?_)
        show ZE (d + 5) M_Ref_layProof (gw G B4) 44 [(2, o), (0, (c : Int)), (9, 0), (9, 0)] [] _
        have gT4 : lyF A B4 o := gT3.tr g4
        have hFB4 : RF B4 o := hF.wi gT4.wi
        refine ZE.aload_n d_Ref_layProof_44 rfl ?_
        refine ZE.iconst (n := 2) d_Ref_layProof_45 ?_
        refine ZE.iload_n d_Ref_layProof_46 rfl ?_
        refine ZE.imul d_Ref_layProof_47 ?_
        refine ZE.iconst (n := 1) d_Ref_layProof_48 ?_
        refine ZE.iadd d_Ref_layProof_49 ?_
        have hny : num (B4 (o + 2)) (2 * (c : Int) + 1) (uy (d1 S c)) := by rw [gT4.1 (o + 2) (by omega) (by omega)]; exact hclc.2.2.2
        refine ZE.cV [(0, (2 * (c : Int)) + 1)] [] [(2, o), (0, (2 * (c : Int)) + 1), (9, 0)] d_Ref_layProof_50 l_Ref_400 rfl rfl rfl rfl rfl rfl hK.1 ?_
        refine r_putBig (L := ((((ptS S c ++ ptN (rad ((csF S 1 128).getD c 0))) ++ [58]) ++ ptN (ux (d1 S c))) ++ [44])) (n := 2 * (c : Int) + 1) (v := uy (d1 S c)) hK hFB4 hl4 (by omega) hny huy9 (by simp only [List.length_append, List.length_cons, List.length_nil, ptN_len]; omega) (fun B5 g5 hl5 => ?_)
        show ZE (d + 5) M_Ref_layProof (gw G B5) 53 [(2, o), (0, (c : Int)), (9, 0), (9, 0)] [] _
        have gT5 : lyF A B5 o := gT4.tr g5
        have hFB5 : RF B5 o := hF.wi gT5.wi
        refine ZE.iconst (n := 1) d_Ref_layProof_53 ?_
        refine ZE.istore_n (ls2 := [(2, o), (0, (c : Int)), (0, 1), (9, 0)]) d_Ref_layProof_54 (Nat.le_of_ble_eq_true rfl) rfl ?_
        have L55 : ∀ (t : Nat) (i : Nat) (C : Int → Int → Int) (hi : i ≤ bnd S) (gC : lyF A C o) (hlC : ltx C o (ptI S c (ptH S c (ptS S c)) i)), bnd S - i < t → ZE (d + 5) M_Ref_layProof (gw G C) 55 [(2, o), (0, (c : Int)), (0, (i : Int) + 1), (9, 0)] [] P := by
          intro t
          induction t with
          | zero => intro i C hi gC hlC hm; exact absurd hm (Nat.not_lt_zero _)
          | succ t ih =>
            intro i C hi gC hlC hm
            have hFC : RF C o := hF.wi gC.wi
            have hRC : RS S C o := hR.wi gC.wi hS7 hp5
            refine ZE.iload_n d_Ref_layProof_55 rfl ?_
            refine ZE.aload_n d_Ref_layProof_56 rfl ?_
            refine ZE.cV [] [(0, (i : Int) + 1)] [(2, o)] d_Ref_layProof_57 l_Ref_176 rfl rfl rfl rfl rfl rfl hK.1 ?_
            refine r_bound hK hFC hRC.s hS7 ?_
            show ZE (d + 5) M_Ref_layProof (gw G C) 60 [(2, o), (0, (c : Int)), (0, (i : Int) + 1), (9, 0)] [(0, (bnd S : Int)), (0, (i : Int) + 1)] _
            refine ZE.icmp_gt (tgt := 113) d_Ref_layProof_60 rfl (by unfold zR; omega) (by unfold zR; omega) (fun c60 => ?_) (fun c60 => ?_)
            · have hib : ptI S c (ptH S c (ptS S c)) i ++ [46] = ptS S (c + 1) := by rw [show i = bnd S by omega]; rfl
              refine ZE.aload_n d_Ref_layProof_113 rfl ?_
              refine ZE.bipush (n := 46) d_Ref_layProof_114 rfl ?_
              have hilen := ptI_len S c (ptH S c (ptS S c)) i
              have hhlen := ptH_len S c (ptS S c)
              refine ZE.cV [(0, 46)] [] [(2, o), (0, 46)] d_Ref_layProof_116 l_Ref_394 rfl rfl rfl rfl rfl rfl hK.1 ?_
              refine r_put (L := ptI S c (ptH S c (ptS S c)) i) (c := 46) hK hFC hlC (by omega) (by omega) (fun B9 g9 hl9 => ?_)
              show ZE (d + 5) M_Ref_layProof (gw G B9) 119 [(2, o), (0, (c : Int)), (0, (i : Int) + 1), (9, 0)] [] _
              refine ZE.iinc (ls2 := [(2, o), (0, (c : Int) + 1), (0, (i : Int) + 1), (9, 0)]) d_Ref_layProof_119 rfl rfl ?_
              refine ZE.goto (tgt := 7) d_Ref_layProof_122 rfl ?_
              refine ZE.mask [true, true, false, true] ?_
              show ZE (d + 5) M_Ref_layProof (gw G B9) 7 [(2, o), (0, (c : Int) + 1), (9, 0), (9, 0)] [] _
              rw [show (c : Int) + 1 = ((c + 1 : Nat) : Int) by omega]
              exact ihO (c + 1) B9 (by omega) (gC.tr g9) (by rw [hib] at hl9; exact hl9) (by omega)
            · refine ZE.aload_n d_Ref_layProof_63 rfl ?_
              refine ZE.bipush (n := 59) d_Ref_layProof_64 rfl ?_
              have hilen := ptI_len S c (ptH S c (ptS S c)) i
              have hhlen := ptH_len S c (ptS S c)
              have hwr := woN_R S c (i + 1)
              refine ZE.cV [(0, 59)] [] [(2, o), (0, 59)] d_Ref_layProof_66 l_Ref_394 rfl rfl rfl rfl rfl rfl hK.1 ?_
              refine r_put (L := ptI S c (ptH S c (ptS S c)) i) (c := 59) hK hFC hlC (by omega) (by omega) (fun D g6 hl6 => ?_)
              show ZE (d + 5) M_Ref_layProof (gw G D) 69 [(2, o), (0, (c : Int)), (0, (i : Int) + 1), (9, 0)] [] _
              have gT6 : lyF A D o := gC.tr g6
              have hFD : RF D o := hF.wi gT6.wi
              have hRD : RS S D o := hR.wi gT6.wi hS7 hp5
              have hlen6 : (ptI S c (ptH S c (ptS S c)) i ++ [59]).length = (ptI S c (ptH S c (ptS S c)) i).length + 1 := by rw [List.length_append]; rfl
              rw [show (i : Int) + 1 = ((i + 1 : Nat) : Int) by omega]
              refine ZE.aload_n d_Ref_layProof_69 rfl ?_
              refine ZE.iload_n d_Ref_layProof_70 rfl ?_
              refine ZE.iload_n d_Ref_layProof_71 rfl ?_
              refine ZE.cV [(0, (c : Int)), (0, ((i + 1 : Nat) : Int))] [] [(2, o), (0, (c : Int)), (0, ((i + 1 : Nat) : Int)), (9, 0), (9, 0)] d_Ref_layProof_72 l_Ref_325 rfl rfl rfl rfl rfl rfl hK.1 ?_
              refine r_witnessOf (cn := c) (im := i + 1) hK hFD hRD hS7 hp5 (by omega) (by omega) ?_
              show ZE (d + 5) M_Ref_layProof (gw G D) 75 [(2, o), (0, (c : Int)), (0, ((i + 1 : Nat) : Int)), (9, 0)] [(0, woN S c (i + 1))] _
              refine ZE.istore_n (ls2 := [(2, o), (0, (c : Int)), (0, ((i + 1 : Nat) : Int)), (0, woN S c (i + 1))]) d_Ref_layProof_75 (Nat.le_of_ble_eq_true rfl) rfl ?_
              refine ZE.iload_n d_Ref_layProof_76 rfl ?_
              refine ZE.if_ne (tgt := 89) d_Ref_layProof_77 rfl (by unfold zR; omega) (fun c77 => ?_) (fun c77 => ?_)
              · refine ZE.iload_n d_Ref_layProof_89 rfl ?_
                refine ZE.if_ge (tgt := 102) d_Ref_layProof_90 rfl (by unfold zR; omega) (fun c90 => ?_) (fun c90 => ?_)
                · obtain ⟨wn, hwn⟩ : ∃ wn : Nat, woN S c (i + 1) = wn := ⟨(woN S c (i + 1)).toNat, by omega⟩
                  rw [hwn]
                  refine ZE.aload_n d_Ref_layProof_102 rfl ?_
                  refine ZE.iload_n d_Ref_layProof_103 rfl ?_
                  have hdw : dl wn ≤ 3 := Nat.succ_le_succ (nd_le (by omega) (show wn / 10 < 10 ^ 2 by omega))
                  refine ZE.cV [(0, (wn : Int))] [] [(2, o), (0, (wn : Int)), (9, 0)] d_Ref_layProof_104 l_Ref_397 rfl rfl rfl rfl rfl rfl hK.1 ?_
                  refine r_putNumber (L := ptI S c (ptH S c (ptS S c)) i ++ [59]) (v := wn) hK hFD hl6 (by omega) (by omega) (fun E1 g7 hl7 => ?_)
                  show ZE (d + 5) M_Ref_layProof (gw G E1) 107 [(2, o), (0, (c : Int)), (0, ((i + 1 : Nat) : Int)), (0, (wn : Int))] [] _
                  refine ZE.iinc (ls2 := [(2, o), (0, (c : Int)), (0, ((i + 1 : Nat) : Int) + 1), (0, (wn : Int))]) d_Ref_layProof_107 rfl rfl ?_
                  refine ZE.goto (tgt := 55) d_Ref_layProof_110 rfl ?_
                  refine ZE.mask [true, true, true, false] ?_
                  show ZE (d + 5) M_Ref_layProof (gw G E1) 55 [(2, o), (0, (c : Int)), (0, ((i + 1 : Nat) : Int) + 1), (9, 0)] [] _
                  rw [show ((i + 1 : Nat) : Int) + 1 = ((i + 1 : Nat) : Int) + 1 from rfl]
                  refine ih (i + 1) E1 (by omega) (gT6.tr g7) ?_ (by omega)
                  show ltx E1 o (ptW (ptI S c (ptH S c (ptS S c)) i ++ [59]) (woN S c (i + 1)))
                  unfold ptW
                  first | (rw [if_pos (by omega)]; exact hl7) | (rw [if_neg (by omega), if_pos (by omega)]; exact hl7) | (rw [if_neg (by omega), if_neg (by omega), hwn, Int.toNat_natCast]; exact hl7)
                · refine ZE.aload_n d_Ref_layProof_93 rfl ?_
                  refine ZE.bipush (n := 63) d_Ref_layProof_94 rfl ?_
                  refine ZE.cV [(0, 63)] [] [(2, o), (0, 63)] d_Ref_layProof_96 l_Ref_394 rfl rfl rfl rfl rfl rfl hK.1 ?_
                  refine r_put (L := ptI S c (ptH S c (ptS S c)) i ++ [59]) (c := 63) hK hFD hl6 (by omega) (by omega) (fun E1 g7 hl7 => ?_)
                  show ZE (d + 5) M_Ref_layProof (gw G E1) 99 [(2, o), (0, (c : Int)), (0, ((i + 1 : Nat) : Int)), (0, woN S c (i + 1))] [] _
                  refine ZE.goto (tgt := 107) d_Ref_layProof_99 rfl ?_
                  refine ZE.iinc (ls2 := [(2, o), (0, (c : Int)), (0, ((i + 1 : Nat) : Int) + 1), (0, woN S c (i + 1))]) d_Ref_layProof_107 rfl rfl ?_
                  refine ZE.goto (tgt := 55) d_Ref_layProof_110 rfl ?_
                  refine ZE.mask [true, true, true, false] ?_
                  show ZE (d + 5) M_Ref_layProof (gw G E1) 55 [(2, o), (0, (c : Int)), (0, ((i + 1 : Nat) : Int) + 1), (9, 0)] [] _
                  rw [show ((i + 1 : Nat) : Int) + 1 = ((i + 1 : Nat) : Int) + 1 from rfl]
                  refine ih (i + 1) E1 (by omega) (gT6.tr g7) ?_ (by omega)
                  show ltx E1 o (ptW (ptI S c (ptH S c (ptS S c)) i ++ [59]) (woN S c (i + 1)))
                  unfold ptW
                  first | (rw [if_pos (by omega)]; exact hl7) | (rw [if_neg (by omega), if_pos (by omega)]; exact hl7) | (rw [if_neg (by omega), if_neg (by omega), hwn, Int.toNat_natCast]; exact hl7)
              · refine ZE.aload_n d_Ref_layProof_80 rfl ?_
                refine ZE.bipush (n := 115) d_Ref_layProof_81 rfl ?_
                refine ZE.cV [(0, 115)] [] [(2, o), (0, 115)] d_Ref_layProof_83 l_Ref_394 rfl rfl rfl rfl rfl rfl hK.1 ?_
                refine r_put (L := ptI S c (ptH S c (ptS S c)) i ++ [59]) (c := 115) hK hFD hl6 (by omega) (by omega) (fun E1 g7 hl7 => ?_)
                show ZE (d + 5) M_Ref_layProof (gw G E1) 86 [(2, o), (0, (c : Int)), (0, ((i + 1 : Nat) : Int)), (0, woN S c (i + 1))] [] _
                refine ZE.goto (tgt := 107) d_Ref_layProof_86 rfl ?_
                refine ZE.iinc (ls2 := [(2, o), (0, (c : Int)), (0, ((i + 1 : Nat) : Int) + 1), (0, woN S c (i + 1))]) d_Ref_layProof_107 rfl rfl ?_
                refine ZE.goto (tgt := 55) d_Ref_layProof_110 rfl ?_
                refine ZE.mask [true, true, true, false] ?_
                show ZE (d + 5) M_Ref_layProof (gw G E1) 55 [(2, o), (0, (c : Int)), (0, ((i + 1 : Nat) : Int) + 1), (9, 0)] [] _
                rw [show ((i + 1 : Nat) : Int) + 1 = ((i + 1 : Nat) : Int) + 1 from rfl]
                refine ih (i + 1) E1 (by omega) (gT6.tr g7) ?_ (by omega)
                show ltx E1 o (ptW (ptI S c (ptH S c (ptS S c)) i ++ [59]) (woN S c (i + 1)))
                unfold ptW
                first | (rw [if_pos (by omega)]; exact hl7) | (rw [if_neg (by omega), if_pos (by omega)]; exact hl7) | (rw [if_neg (by omega), if_neg (by omega), hwn, Int.toNat_natCast]; exact hl7)
        exact L55 _ 0 B5 (by omega) gT5 hl5 (Nat.lt_succ_self _)
  exact L7 _ 0 (up2 A o 28 0) (by omega) lyF0 ⟨up2_at _ _ _ _, fun k h => absurd h (Nat.not_lt_zero _)⟩ (Nat.lt_succ_self _)
