set_option maxRecDepth 20000 in
set_option maxHeartbeats 4000000 in
theorem t_appendInt {d : Nat} {G : zG} {A : Int → Int → Int} {P : Option zV → zG → Prop}  {tx : Int} {cap : Nat} (hT : xK G tx cap) {L : List Nat} (h : xL A tx L) {v : Nat} (hv : v < 2147483648) (hl : L.length + dl v ≤ cap) (k : ∀ B, bF A B tx → xL B tx (L ++ ptN v) → P none (gw G B)) : ZE (d + 1) M_Tex_appendInt (gw G A) 0 [(2, tx), (0, (v : Int)), (9, 0), (9, 0), (9, 0), (9, 0)] [] P := by
  have hcp := hT.2.2.2.2.2
  refine ZE.iconst (n := 1) d_Tex_appendInt_0 ?_
  refine ZE.istore_n (ls2 := [(2, tx), (0, (v : Int)), (0, 1), (9, 0), (9, 0), (9, 0)]) d_Tex_appendInt_1 (Nat.le_of_ble_eq_true rfl) rfl ?_
  refine ZE.iload_n d_Tex_appendInt_2 rfl ?_
  refine ZE.istore_n (ls2 := [(2, tx), (0, (v : Int)), (0, 1), (0, (v : Int)), (9, 0), (9, 0)]) d_Tex_appendInt_3 (Nat.le_of_ble_eq_true rfl) rfl ?_
  have L4 : ∀ (tt0 : Nat) (m : Nat) (r : Nat) (hr : r ≤ v) (hm1 : m + dl r = 1 + dl v), r < tt0 → ZE (d + 1) M_Tex_appendInt (gw G A) 4 [(2, tx), (0, (v : Int)), (0, (m : Int)), (0, (r : Int)), (9, 0), (9, 0)] [] P := by
    intro tt0
    induction tt0 with
    | zero => intro m r hr hm1 hm; exact absurd hm (Nat.not_lt_zero _)
    | succ tt0 ih =>
      intro m r hr hm1 hm
      refine ZE.iload_n d_Tex_appendInt_4 rfl ?_
      refine ZE.bipush (n := 10) d_Tex_appendInt_5 rfl ?_
      refine ZE.icmp_lt (tgt := 21) d_Tex_appendInt_7 rfl (by unfold zR; omega) (by unfold zR; omega) (fun c7 => ?_) (fun c7 => ?_)
      · refine ZE.iload_n d_Tex_appendInt_21 rfl ?_
        refine ZE.iconst (n := 1) d_Tex_appendInt_22 ?_
        refine ZE.isub d_Tex_appendInt_23 ?_
        refine ZE.istore_n (ls2 := [(2, tx), (0, (v : Int)), (0, (m : Int)), (0, (m : Int) - 1), (9, 0), (9, 0)]) d_Tex_appendInt_24 (Nat.le_of_ble_eq_true rfl) rfl ?_
        have hmd : m = dl v := by have := dl_one (r := r) (by omega); omega
        rw [hmd]
        have L25 : ∀ (tt0 : Nat) (j : Nat) (B : Int → Int → Int) (M : List Nat) (hj : j ≤ dl v) (gB : bF A B tx) (hM : xL B tx M) (hLM : M ++ dgs v j = L ++ ptN v), j < tt0 → ZE (d + 1) M_Tex_appendInt (gw G B) 25 [(2, tx), (0, (v : Int)), (0, (dl v : Int)), (0, (j : Int) - 1), (9, 0), (9, 0)] [] P := by
          intro tt0
          induction tt0 with
          | zero => intro j B M hj gB hM hLM hm; exact absurd hm (Nat.not_lt_zero _)
          | succ tt0 ih =>
            intro j B M hj gB hM hLM hm
            have ihO := ih
            have hmO := hm
            rcases Nat.eq_zero_or_pos j with hj0 | hj0
            · subst hj0
              refine ZE.iload_n d_Tex_appendInt_25 rfl ?_
              refine ZE.if_lt (tgt := 72) d_Tex_appendInt_26 rfl (by unfold zR; omega) (fun c26 => ?_) (fun c26 => ?_)
              · refine ZE.vret d_Tex_appendInt_72 rfl ?_
                have q : M = L ++ ptN v := by rw [← hLM]; exact (List.append_nil M).symm
                rw [q] at hM
                exact k B gB hM
              · exact absurd c26 (by omega)
            · obtain ⟨i, rfl⟩ : ∃ i, j = i + 1 := ⟨j - 1, by omega⟩
              rw [show ((i + 1 : Nat) : Int) - 1 = (i : Int) by omega]
              have hdi := dg_lt (b := 10) (by omega) v i
              have hlen : M.length + (i + 1) = L.length + dl v := by have q := congrArg List.length hLM; rw [List.length_append, List.length_append, dgs_len, ptN_len] at q; exact q
              refine ZE.iload_n d_Tex_appendInt_25 rfl ?_
              refine ZE.if_lt (tgt := 72) d_Tex_appendInt_26 rfl (by unfold zR; omega) (fun c26 => ?_) (fun c26 => ?_)
              · exact absurd c26 (by omega)
              · refine ZE.iload_n d_Tex_appendInt_29 rfl ?_
                refine ZE.istore (ls2 := [(2, tx), (0, (v : Int)), (0, (dl v : Int)), (0, (i : Int)), (0, (v : Int)), (9, 0)]) d_Tex_appendInt_30 (Nat.le_of_ble_eq_true rfl) rfl ?_
                refine ZE.iconst (n := 0) d_Tex_appendInt_32 ?_
                refine ZE.istore (ls2 := [(2, tx), (0, (v : Int)), (0, (dl v : Int)), (0, (i : Int)), (0, (v : Int)), (0, 0)]) d_Tex_appendInt_33 (Nat.le_of_ble_eq_true rfl) rfl ?_
                have L35 : ∀ (tt0 : Nat) (c : Nat) (r2 : Nat) (hc : c ≤ i) (hr2 : r2 ≤ v) (hr3 : r2 = v / 10 ^ c), i - c < tt0 → ZE (d + 1) M_Tex_appendInt (gw G B) 35 [(2, tx), (0, (v : Int)), (0, (dl v : Int)), (0, (i : Int)), (0, (r2 : Int)), (0, (c : Int))] [] P := by
                  intro tt0
                  induction tt0 with
                  | zero => intro c r2 hc hr2 hr3 hm; exact absurd hm (Nat.not_lt_zero _)
                  | succ tt0 ih =>
                    intro c r2 hc hr2 hr3 hm
                    refine ZE.iload d_Tex_appendInt_35 rfl ?_
                    refine ZE.iload_n d_Tex_appendInt_37 rfl ?_
                    refine ZE.icmp_ge (tgt := 54) d_Tex_appendInt_38 rfl (by unfold zR; omega) (by unfold zR; omega) (fun c38 => ?_) (fun c38 => ?_)
                    · refine ZE.aload_n d_Tex_appendInt_54 rfl ?_
                      refine ZE.bipush (n := 48) d_Tex_appendInt_55 rfl ?_
                      refine ZE.iload d_Tex_appendInt_57 rfl ?_
                      refine ZE.bipush (n := 10) d_Tex_appendInt_59 rfl ?_
                      refine ZE.iremP d_Tex_appendInt_61 (by omega) ?_
                      refine ZE.iadd d_Tex_appendInt_62 ?_
                      rw [show (48 + ((r2 : Int) % 10) : Int) = ((48 + dg 10 v i : Nat) : Int) from (by unfold dg; rw [← show c = i by omega, ← hr3]; omega)]
                      refine ZE.cV [(0, ((48 + dg 10 v i : Nat) : Int))] [] [(2, tx), (0, ((48 + dg 10 v i : Nat) : Int))] d_Tex_appendInt_63 l_Tex_19 rfl rfl rfl rfl rfl rfl hT.1 ?_
                      refine t_append (v := ((48 + dg 10 v i : Nat) : Int)) hT hM (by omega) (fun B2 gB2 hB2 => ?_)
                      show ZE (d + 1) M_Tex_appendInt (gw G B2) 66 [(2, tx), (0, (v : Int)), (0, (dl v : Int)), (0, (i : Int)), (0, (r2 : Int)), (0, (c : Int))] [] _
                      refine ZE.iinc (ls2 := [(2, tx), (0, (v : Int)), (0, (dl v : Int)), (0, (i : Int) + (-1)), (0, (r2 : Int)), (0, (c : Int))]) d_Tex_appendInt_66 rfl rfl ?_
                      refine ZE.goto (tgt := 25) d_Tex_appendInt_69 rfl ?_
                      refine ZE.mask [true, true, true, true, false, false] ?_
                      show ZE (d + 1) M_Tex_appendInt (gw G B2) 25 [(2, tx), (0, (v : Int)), (0, (dl v : Int)), (0, (i : Int) + (-1)), (9, 0), (9, 0)] [] _
                      rw [show (i : Int) + (-1) = (i : Int) - 1 by omega]
                      exact ihO i B2 (M ++ [48 + dg 10 v i]) (by omega) (gB.tr gB2) (by rw [z8_s (by omega)] at hB2; exact xL.add (A := B) hB2) (by rw [List.append_assoc]; exact hLM) (by omega)
                    · refine ZE.iload d_Tex_appendInt_41 rfl ?_
                      refine ZE.bipush (n := 10) d_Tex_appendInt_43 rfl ?_
                      refine ZE.idivP d_Tex_appendInt_45 (by omega) ?_
                      rw [show ((r2 : Int) / 10 : Int) = ((r2 / 10 : Nat) : Int) from (by omega)]
                      refine ZE.istore (ls2 := [(2, tx), (0, (v : Int)), (0, (dl v : Int)), (0, (i : Int)), (0, ((r2 / 10 : Nat) : Int)), (0, (c : Int))]) d_Tex_appendInt_46 (Nat.le_of_ble_eq_true rfl) rfl ?_
                      refine ZE.iinc (ls2 := [(2, tx), (0, (v : Int)), (0, (dl v : Int)), (0, (i : Int)), (0, ((r2 / 10 : Nat) : Int)), (0, (c : Int) + 1)]) d_Tex_appendInt_48 rfl rfl ?_
                      refine ZE.goto (tgt := 35) d_Tex_appendInt_51 rfl ?_
                      rw [show (c : Int) + 1 = ((c + 1 : Nat) : Int) by omega]
                      exact ih (c + 1) (r2 / 10) (by omega) (by omega) (by rw [hr3, Nat.div_div_eq_div_mul, ← Nat.pow_succ]) (by omega)
                exact L35 _ 0 v (Nat.zero_le _) (Nat.le_refl _) (by rw [Nat.pow_zero, Nat.div_one]) (Nat.lt_succ_self _)
        exact L25 _ (dl v) A L (Nat.le_refl _) bF.rf h rfl (Nat.lt_succ_self _)
      · refine ZE.iinc (ls2 := [(2, tx), (0, (v : Int)), (0, (m : Int) + 1), (0, (r : Int)), (9, 0), (9, 0)]) d_Tex_appendInt_10 rfl rfl ?_
        refine ZE.iload_n d_Tex_appendInt_13 rfl ?_
        refine ZE.bipush (n := 10) d_Tex_appendInt_14 rfl ?_
        refine ZE.idivP d_Tex_appendInt_16 (by omega) ?_
        rw [show ((r : Int) / 10 : Int) = ((r / 10 : Nat) : Int) from (by omega)]
        refine ZE.istore_n (ls2 := [(2, tx), (0, (v : Int)), (0, (m : Int) + 1), (0, ((r / 10 : Nat) : Int)), (9, 0), (9, 0)]) d_Tex_appendInt_17 (Nat.le_of_ble_eq_true rfl) rfl ?_
        refine ZE.goto (tgt := 4) d_Tex_appendInt_18 rfl ?_
        rw [show (m : Int) + 1 = ((m + 1 : Nat) : Int) by omega]
        exact ih (m + 1) (r / 10) (by omega) (by have := dl_step (r := r) (by omega); omega) (by omega)
  exact L4 _ 1 v (Nat.le_refl _) rfl (Nat.lt_succ_self _)
def fuV (L : List Nat) (tl : Nat) (tf : Nat → Int) : Int := if pvF L tl tf 0 tl = tl ∧ pvF L tl tf 0 tl = L.length then -1 else (pvF L tl tf 0 tl : Int)
theorem pvF_all {L : List Nat} {tl : Nat} {tf : Nat → Int} {j : Nat} (h : ∀ q : Nat, q < j → q < tl ∧ q < L.length ∧ tf q = (L.getD q 0 : Int)) : ∀ f k, k ≤ j → j ≤ k + f → pvF L tl tf k f = pvF L tl tf j (k + f - j) := by
  intro f
  induction f with
  | zero => intro k h1 h2; rw [show k = j by omega]; rw [show j + 0 - j = 0 by omega]
  | succ f ih =>
    intro k h1 h2
    by_cases e : k = j
    · subst e; rw [show k + (f + 1) - k = f + 1 by omega]
    · have h3 := h k (by omega)
      have e1 : pvF L tl tf k (f + 1) = pvF L tl tf (k + 1) f := if_pos h3
      rw [e1, ih (k + 1) (by omega) (by omega)]
      congr 1
      omega
set_option maxRecDepth 20000 in
set_option maxHeartbeats 4000000 in
theorem t_firstUnlike {d : Nat} {G : zG} {A : Int → Int → Int} {P : Option zV → zG → Prop}  {tx : Int} {cap : Nat} (hT : xK G tx cap) {L : List Nat} (h : xL A tx L) (hL7 : ∀ k, L.getD k 0 < 128) (hlL : L.length ≤ cap) {u : Int} {cap2 : Nat} (hU : xK G u cap2) {tl : Nat} {tf : Nat → Int} (hu : xN A u tl tf) (htr : ∀ k, -128 ≤ tf k ∧ tf k ≤ 127) (hl : tl ≤ cap2) (k : P (some (0, fuV L tl tf)) (gw G A)) : ZE (d + 1) M_Tex_firstUnlike (gw G A) 0 [(2, tx), (2, u), (9, 0)] [] P := by
  have hcp := hT.2.2.2.2.2
  have hcu := hU.2.2.2.2.2
  refine ZE.iconst (n := 0) d_Tex_firstUnlike_0 ?_
  refine ZE.istore_n (ls2 := [(2, tx), (2, u), (0, 0)]) d_Tex_firstUnlike_1 (Nat.le_of_ble_eq_true rfl) rfl ?_
  have L2 : ∀ (tt0 : Nat) (j : Nat) (hj : j ≤ L.length) (hsm : ∀ q : Nat, q < j → q < tl ∧ tf q = (L.getD q 0 : Int)), L.length - j < tt0 → ZE (d + 1) M_Tex_firstUnlike (gw G A) 2 [(2, tx), (2, u), (0, (j : Int))] [] P := by
    intro tt0
    induction tt0 with
    | zero => intro j hj hsm hm; exact absurd hm (Nat.not_lt_zero _)
    | succ tt0 ih =>
      intro j hj hsm hm
      have htj := htr j
      have hLj := hL7 j
      have hbb := bA_R (tl := tl) (tf := tf) (j : Int)
      refine ZE.iload_n d_Tex_firstUnlike_2 rfl ?_
      refine ZE.aload_n d_Tex_firstUnlike_3 rfl ?_
      refine ZE.getE (v := (L.length : Int)) d_Tex_firstUnlike_4 f_Tex_15 (tg := 0) rfl hT.1 h.2.1 ?_
      refine ZE.icmp_ge (tgt := 31) d_Tex_firstUnlike_7 rfl (by unfold zR; omega) (by unfold zR; omega) (fun c7 => ?_) (fun c7 => ?_)
      · refine ZE.aload_n d_Tex_firstUnlike_31 rfl ?_
        refine ZE.getE (v := (tl : Int)) d_Tex_firstUnlike_32 f_Tex_15 (tg := 0) rfl hU.1 hu.2.1 ?_
        refine ZE.aload_n d_Tex_firstUnlike_35 rfl ?_
        refine ZE.getE (v := (L.length : Int)) d_Tex_firstUnlike_36 f_Tex_15 (tg := 0) rfl hT.1 h.2.1 ?_
        refine ZE.icmp_le (tgt := 49) d_Tex_firstUnlike_39 rfl (by unfold zR; omega) (by unfold zR; omega) (fun c39 => ?_) (fun c39 => ?_)
        · refine ZE.iconst (n := (-1)) d_Tex_firstUnlike_49 ?_
          refine ZE.iret d_Tex_firstUnlike_50 rfl ?_
          have hall := pvF_all (L := L) (tl := tl) (tf := tf) (j := j) (fun q hq => ⟨(hsm q hq).1, by omega, (hsm q hq).2⟩) tl 0 (Nat.zero_le _) (by rcases Nat.eq_zero_or_pos j with q | q; omega; have := (hsm (j - 1) (by omega)).1; omega)
          have hpe : pvF L tl tf 0 tl = j := hall.trans (pvF_stop (by omega))
          rw [show fuV L tl tf = -1 by unfold fuV; rw [hpe]; exact if_pos (by rcases Nat.eq_zero_or_pos j with q | q; omega; have := (hsm (j - 1) (by omega)).1; omega)] at k
          exact k
        · refine ZE.aload_n d_Tex_firstUnlike_42 rfl ?_
          refine ZE.getE (v := (L.length : Int)) d_Tex_firstUnlike_43 f_Tex_15 (tg := 0) rfl hT.1 h.2.1 ?_
          refine ZE.goto (tgt := 50) d_Tex_firstUnlike_46 rfl ?_
          refine ZE.iret d_Tex_firstUnlike_50 rfl ?_
          have hall := pvF_all (L := L) (tl := tl) (tf := tf) (j := j) (fun q hq => ⟨(hsm q hq).1, by omega, (hsm q hq).2⟩) tl 0 (Nat.zero_le _) (by rcases Nat.eq_zero_or_pos j with q | q; omega; have := (hsm (j - 1) (by omega)).1; omega)
          have hpe : pvF L tl tf 0 tl = j := hall.trans (pvF_stop (by omega))
          rw [show fuV L tl tf = (L.length : Int) by unfold fuV; rw [hpe, if_neg (by omega)]; omega] at k
          exact k
      · refine ZE.aload_n d_Tex_firstUnlike_10 rfl ?_
        refine ZE.iload_n d_Tex_firstUnlike_11 rfl ?_
        refine ZE.cV [(0, (j : Int))] [] [(2, u), (0, (j : Int))] d_Tex_firstUnlike_12 l_Tex_33 rfl rfl rfl rfl rfl rfl hU.1 ?_
        refine t_byteAt (i := (j : Int)) hU hu htr hl (by unfold zR; omega) ?_
        show ZE (d + 1) M_Tex_firstUnlike (gw G A) 15 [(2, tx), (2, u), (0, (j : Int))] [(0, bA tl tf (j : Int))] _
        refine ZE.aload_n d_Tex_firstUnlike_15 rfl ?_
        refine ZE.iload_n d_Tex_firstUnlike_16 rfl ?_
        refine ZE.cV [(0, (j : Int))] [(0, bA tl tf (j : Int))] [(2, tx), (0, (j : Int))] d_Tex_firstUnlike_17 l_Tex_33 rfl rfl rfl rfl rfl rfl hT.1 ?_
        refine t_byteAt (i := (j : Int)) hT h (fun q => by have := hL7 q; show -128 ≤ (L.getD q 0 : Int) ∧ (L.getD q 0 : Int) ≤ 127; omega) hlL (by unfold zR; omega) ?_
        show ZE (d + 1) M_Tex_firstUnlike (gw G A) 20 [(2, tx), (2, u), (0, (j : Int))] [(0, bA L.length (fun k => (L.getD k 0 : Int)) (j : Int)), (0, bA tl tf (j : Int))] _
        rw [show bA L.length (fun k => (L.getD k 0 : Int)) (j : Int) = (L.getD j 0 : Int) from (bA_y (by omega)).trans (by show (L.getD j 0 : Int) % 256 = _; omega)]
        refine ZE.icmp_eq (tgt := 25) d_Tex_firstUnlike_20 rfl (by unfold zR; omega) (by unfold zR; omega) (fun c20 => ?_) (fun c20 => ?_)
        · refine ZE.iinc (ls2 := [(2, tx), (2, u), (0, (j : Int) + 1)]) d_Tex_firstUnlike_25 rfl rfl ?_
          refine ZE.goto (tgt := 2) d_Tex_firstUnlike_28 rfl ?_
          rw [show (j : Int) + 1 = ((j + 1 : Nat) : Int) by omega]
          refine ih (j + 1) (by omega) ?_ (by omega)
          have hcc : j < tl := by
            rcases Nat.lt_or_ge j tl with q | q
            · exact q
            · have hb1 : bA tl tf (j : Int) = -1 := if_neg (by omega)
              omega
          rw [bA_y hcc] at c20
          intro q hq
          by_cases e : q = j
          · subst e; exact ⟨hcc, by omega⟩
          · exact hsm q (by omega)
        · refine ZE.iload_n d_Tex_firstUnlike_23 rfl ?_
          refine ZE.iret d_Tex_firstUnlike_24 rfl ?_
          have hall := pvF_all (L := L) (tl := tl) (tf := tf) (j := j) (fun q hq => ⟨(hsm q hq).1, by omega, (hsm q hq).2⟩) tl 0 (Nat.zero_le _) (by rcases Nat.eq_zero_or_pos j with q | q; omega; have := (hsm (j - 1) (by omega)).1; omega)
          have hpe : pvF L tl tf 0 tl = j := by
            refine hall.trans (pvF_stop (fun q => ?_))
            rw [bA_y q.1] at c20
            rw [q.2.2] at c20
            omega
          have k1 := k
          rw [show fuV L tl tf = (j : Int) by unfold fuV; rw [hpe]; exact if_neg (by omega)] at k1
          exact k1
  exact L2 _ 0 (by omega) (fun q hq => absurd hq (Nat.not_lt_zero _)) (Nat.lt_succ_self _)
set_option maxRecDepth 20000 in
set_option maxHeartbeats 4000000 in
theorem t_init {d : Nat} {G : zG} {A : Int → Int → Int} {P : Option zV → zG → Prop} {b : Int} {cap : Nat} (hz : (gz G : Int) = b + 1) (h0 : 0 ≤ b) (hk : gk G b = 18) (hc : 1 ≤ cap ∧ cap ≤ 3000) (hs : A b 1 = 0) (tf : Nat → Int) (k : ∀ G2 A2, xK G2 b cap → xN A2 b 0 tf → gR G G2 1 cap → (∀ a : Int, a < b → A2 a = A a) → P none (gw G2 A2)) : ZE (d + 1) M_Tex_init (gw G A) 0 [(2, b), (0, (cap : Int))] [] P := by
  refine ZE.aload_n d_Tex_init_0 rfl ?_
  refine ZE.objInit d_Tex_init_1 o_Tex_3 (by omega) (Nat.le_of_ble_eq_true rfl) ?_
  refine ZE.aload_n d_Tex_init_4 rfl ?_
  refine ZE.iload_n d_Tex_init_5 rfl ?_
  refine ZE.if_le (tgt := 13) d_Tex_init_6 rfl (by unfold zR; omega) (fun c6 => ?_) (fun c6 => ?_)
  · exact absurd c6 (by omega)
  · refine ZE.iload_n d_Tex_init_9 rfl ?_
    refine ZE.goto (tgt := 14) d_Tex_init_10 rfl ?_
    refine ZE.newB (n := cap) d_Tex_init_14 rfl (by omega) ?_
    rw [gnew_gw, show (gz (gw G A) : Int) = (gz G : Int) from rfl, hz]
    obtain ⟨G1, hE⟩ : ∃ H1, H1 = gnew G 2 cap (fun _ => 0) := ⟨_, rfl⟩
    rw [← hE]
    have hgr : gR G G1 1 cap := by rw [hE]; exact gR.new
    have hk1 : gk G1 b = 18 := (hgr.2.2.1 b (by omega)).1.trans hk
    have hk2 : gk G1 (b + 1) = 2 ∧ gn G1 (b + 1) = (cap : Int) := by rw [hE, ← hz]; exact ⟨gnew_gk, gnew_gn⟩
    refine ZE.put d_Tex_init_16 f_Tex_9 (tg := 2) rfl trivial (Or.inr ⟨⟨_, _, _, rfl, rfl, rfl⟩, rfl⟩) hk1 ?_
    show ZE (d + 1) M_Tex_init (gw G1 (up2 (upA A (b + 1) (fun _ => 0)) b 0 (b + 1))) 19 [(2, b), (0, (cap : Int))] [] _
    refine ZE.vret d_Tex_init_19 rfl ?_
    refine k G1 _ ⟨hk1, hk2.1, hk2.2, h0, hc⟩ ⟨up2_at _ _ _ _, ?_, fun q hq => absurd hq (Nat.not_lt_zero _)⟩ hgr (fun a ha => ?_)
    · rw [up2_ne _ _ (by omega), upA_ne _ _ (by omega)]; exact hs
    · rw [up2_A, upA_ne _ _ (by omega), upA_ne _ _ (by omega)]
