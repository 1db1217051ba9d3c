def tpP (A : Int → Int → Int) (o : Int) (tl : Nat) (tf : Nat → Int) : Prop := A o 31 = (tl : Int) ∧ ∀ k : Nat, k < tl → A (o + 19) k = tf k
def wrP (A : Int → Int → Int) (o : Int) (wl : Nat) (wf : Nat → Int) : Prop := A o 29 = (wl : Int) ∧ ∀ k : Nat, k < wl → A (o + 18) k = wf k
def ap1 (tf : Nat → Int) (n : Nat) (w : Int) : Nat → Int := fun k => if k = n then w else tf k
def ap4 (tf : Nat → Int) (n : Nat) (v : Int) : Nat → Int := ap1 (ap1 (ap1 (ap1 tf n (z8 (zshr v 24))) (n + 1) (z8 (zshr v 16))) (n + 2) (z8 (zshr v 8))) (n + 3) (z8 (zshr v 0))
def fuF (A B : Int → Int → Int) (o : Int) : Prop := (∀ b : Int, b ≠ o → b ≠ o + 17 → b ≠ o + 18 → b ≠ o + 19 → B b = A b) ∧ ∀ i : Int, i ≠ 28 → i ≠ 29 → i ≠ 31 → B o i = A o i
theorem fuF.rf {A : Int → Int → Int} {o : Int} : fuF A A o := ⟨fun _ _ _ _ _ => rfl, fun _ _ _ _ => rfl⟩
theorem fuF.tr {A B C : Int → Int → Int} {o : Int} (a : fuF A B o) (b : fuF B C o) : fuF A C o := ⟨fun e h1 h2 h3 h4 => (b.1 e h1 h2 h3 h4).trans (a.1 e h1 h2 h3 h4), fun i h1 h2 h3 => (b.2 i h1 h2 h3).trans (a.2 i h1 h2 h3)⟩
theorem lyF.fu {A B : Int → Int → Int} {o : Int} (a : lyF A B o) : fuF A B o := ⟨fun e h1 h2 _ _ => a.1 e h1 h2, fun i h _ _ => a.2 i h⟩
theorem fuF.wi {A B : Int → Int → Int} {o : Int} (a : fuF A B o) : wiF A B o := ⟨fun b h => a.1 b (by omega) (by omega) (by omega) (by omega), fun i _ _ _ h1 h2 h3 => a.2 i h1 h2 h3, by rw [a.1 (o + 2) (by omega) (by omega) (by omega) (by omega)]; exact rowF.rf⟩
theorem fuF.fld {A : Int → Int → Int} {o i v : Int} (h : i = 28 ∨ i = 29 ∨ i = 31) : fuF A (up2 A o i v) o := ⟨fun b h1 _ _ _ => by rw [up2_A, upA_ne _ _ h1], fun j h1 h2 h3 => up2_ne _ _ (by omega)⟩
theorem fuF.row {A : Int → Int → Int} {o b : Int} {f : Int → Int} (h : b = o + 17 ∨ b = o + 18 ∨ b = o + 19) : fuF A (upA A b f) o := ⟨fun e h1 h2 h3 h4 => upA_ne _ _ (by omega), fun j h1 h2 h3 => by rw [upA_ne _ _ (by omega)]⟩
theorem z8_R (x1 : Int) : -128 ≤ z8 x1 ∧ z8 x1 ≤ 127 := by
  have h1 := Int8.le_toInt (Int8.ofInt x1)
  have h2 := Int8.toInt_lt (Int8.ofInt x1)
  unfold z8
  omega
theorem z8_i (x1 : Int) : z8 (z8 x1) = z8 x1 := by
  have h := z8_R x1
  exact Int8.toInt_ofInt_of_le (by omega) (by omega)
theorem tpP.add {A : Int → Int → Int} {o : Int} {n : Nat} {tf : Nat → Int} {w : Int} (h : tpP A o n tf) : tpP (up2 (up2 A (o + 19) (n : Int) w) o 31 ((n : Int) + 1)) o (n + 1) (ap1 tf n w) := by
  refine ⟨by rw [up2_at]; omega, fun k hk => ?_⟩
  unfold ap1
  rw [up2_ne _ _ (by omega)]
  by_cases e : k = n
  · subst e; rw [up2_at, if_pos rfl]
  · rw [up2_ne _ _ (by omega), if_neg e]; exact h.2 k (by omega)
theorem ap1_R {tf : Nat → Int} (h : ∀ k, -128 ≤ tf k ∧ tf k ≤ 127) (n : Nat) (x1 : Int) : ∀ k, -128 ≤ ap1 tf n (z8 x1) k ∧ ap1 tf n (z8 x1) k ≤ 127 := fun k => by
  unfold ap1
  split
  · exact z8_R x1
  · exact h k
theorem ap4_R {tf : Nat → Int} (h : ∀ k, -128 ≤ tf k ∧ tf k ≤ 127) (n : Nat) (v : Int) : ∀ k, -128 ≤ ap4 tf n v k ∧ ap4 tf n v k ≤ 127 := ap1_R (ap1_R (ap1_R (ap1_R h _ _) _ _) _ _) _ _
theorem fuF.add {A : Int → Int → Int} {o i v w : Int} : fuF A (up2 (up2 A (o + 19) i v) o 31 w) o := by
  have h : fuF A (up2 A (o + 19) i v) o := by rw [up2_A]; exact fuF.row (Or.inr (Or.inr rfl))
  exact h.tr (fuF.fld (Or.inr (Or.inr rfl)))
def ocV (wl : Nat) (wf : Nat → Int) (k : Int) : Int := if 0 ≤ k ∧ k < (wl : Int) then wf k.toNat else -1
def prV (S : Nat) : Nat → Int := fun k => ((prfL S).getD k 0 : Int)
def enT (tl : Nat) (n : Int) : Nat := if 0 ≤ n ∧ n ≤ (tl : Int) then n.toNat else tl
def enD (tl : Nat) (n : Int) : Int := if 0 ≤ n ∧ n ≤ (tl : Int) then n else -1
def feT (tl : Nat) : Nat := if tl + 20 ≤ 2000 then tl + 20 else tl
def feW (tl : Nat) (tf : Nat → Int) (a1 a2 a3 a4 a5 : Int) : Nat → Int := if tl + 20 ≤ 2000 then ap4 (ap4 (ap4 (ap4 (ap4 tf tl a1) (tl + 4) a2) (tl + 8) a3) (tl + 12) a4) (tl + 16) a5 else tf
def feV (tl : Nat) : Int := if tl + 20 ≤ 2000 then ((tl + 20 : Nat) : Int) else -1
set_option maxRecDepth 20000 in
set_option maxHeartbeats 4000000 in
theorem r_proof {d : Nat} {G : zG} {A : Int → Int → Int} {P : Option zV → zG → Prop} {o : Int} (hK : RK G o) (hF : RF A o) {S : Nat} (hR : RS S A o) (hS7 : S < 128) (hp5 : pop S ≤ 5) (k : ∀ C, fuF A C o → wrP C o (prfL S).length (prV S) → (∀ i : Int, i ≠ 28 → i ≠ 29 → C o i = A o i) → C (o + 19) = A (o + 19) → P (some (0, ((prfL S).length : Int))) (gw G C)) : ZE (d + 6) M_Ref_proof (gw G A) 0 [(2, o), (9, 0)] [] P := by
  have hpfl := prfL_len hS7 hp5
  refine ZE.aload_n d_Ref_proof_0 rfl ?_
  refine ZE.cV [] [] [(2, o), (9, 0), (9, 0), (9, 0)] d_Ref_proof_1 l_Ref_403 rfl rfl rfl rfl rfl rfl hK.1 ?_
  refine r_layProof hK hF hR hS7 hp5 (fun B gB hlB => ?_)
  show ZE (d + 6) M_Ref_proof (gw G B) 4 [(2, o), (9, 0)] [] _
  have hFB : RF B o := hF.wi gB.wi
  refine ZE.iconst (n := 0) d_Ref_proof_4 ?_
  refine ZE.istore_n (ls2 := [(2, o), (0, 0)]) d_Ref_proof_5 (Nat.le_of_ble_eq_true rfl) rfl ?_
  have L6 : ∀ (t : Nat) (j : Nat) (g : Int → Int) (hj : j ≤ (prfL S).length) (hg0 : ∀ c : Nat, c < j → g c = prV S c), (prfL S).length - j < t → ZE (d + 6) M_Ref_proof (gw G (upA B (o + 18) g)) 6 [(2, o), (0, (j : Int))] [] P := by
    intro t
    induction t with
    | zero => intro j g hj hg0 hm; exact absurd hm (Nat.not_lt_zero _)
    | succ t ih =>
      intro j g hj hg0 hm
      refine ZE.iload_n d_Ref_proof_6 rfl ?_
      refine ZE.aload_n d_Ref_proof_7 rfl ?_
      refine ZE.getE (v := ((prfL S).length : Int)) d_Ref_proof_8 f_Ref_391 (tg := 0) rfl hK.1 ((congrFun (upA_ne _ _ (by omega)) _).trans hlB.1) ?_
      refine ZE.icmp_ge (tgt := 32) d_Ref_proof_11 rfl (by unfold zR; omega) (by unfold zR; omega) (fun c11 => ?_) (fun c11 => ?_)
      · have e1 : j = (prfL S).length := by omega
        rw [e1] at hg0
        refine ZE.aload_n d_Ref_proof_32 rfl ?_
        refine ZE.aload_n d_Ref_proof_33 rfl ?_
        refine ZE.getE (v := ((prfL S).length : Int)) d_Ref_proof_34 f_Ref_391 (tg := 0) rfl hK.1 ((congrFun (upA_ne _ _ (by omega)) _).trans hlB.1) ?_
        refine ZE.put d_Ref_proof_37 f_Ref_406 (tg := 0) rfl trivial (Or.inl ⟨_, _, _, rfl, rfl, rfl⟩) hK.1 ?_
        show ZE (d + 6) M_Ref_proof (gw G (up2 (upA B (o + 18) g) o 29 ((prfL S).length : Int))) 40 [(2, o), (0, (j : Int))] [] _
        refine ZE.aload_n d_Ref_proof_40 rfl ?_
        refine ZE.getE (v := ((prfL S).length : Int)) d_Ref_proof_41 f_Ref_406 (tg := 0) rfl hK.1 (up2_at _ _ _ _) ?_
        refine ZE.iret d_Ref_proof_44 rfl ?_
        exact k _ ((gB.fu.tr (fuF.row (Or.inr (Or.inl rfl)))).tr (fuF.fld (Or.inr (Or.inl rfl)))) ⟨up2_at _ _ _ _, fun c hc => by rw [up2_ne _ _ (by omega), upA_at]; exact hg0 c hc⟩ (fun i h1 h2 => (up2_ne _ _ (fun q => h2 q.2)).trans ((congrFun (upA_ne _ _ (by omega)) i).trans (gB.2 i h1))) (by rw [up2_A, upA_ne _ _ (by omega), upA_ne _ _ (by omega)]; exact gB.1 _ (by omega) (by omega))
      · refine ZE.aload_n d_Ref_proof_14 rfl ?_
        refine ZE.getE (v := o + 18) d_Ref_proof_15 f_Ref_63 (tg := 2) rfl hK.1 (hFB.uA (by omega)).a27 ?_
        refine ZE.iload_n d_Ref_proof_18 rfl ?_
        refine ZE.aload_n d_Ref_proof_19 rfl ?_
        refine ZE.getE (v := o + 17) d_Ref_proof_20 f_Ref_59 (tg := 2) rfl hK.1 (hFB.uA (by omega)).a26 ?_
        refine ZE.iload_n d_Ref_proof_23 rfl ?_
        refine ZE.baldE (v := ((prfL S).getD j 0 : Int)) d_Ref_proof_24 hK.k17 (by have hn0 := hK.n17; show 0 ≤ (j : Int) ∧ (j : Int) < gn G (o + 17); omega) ((congrFun (upA_ne _ _ (by omega)) _).trans (hlB.2 j (by omega))) ?_
        refine ZE.bast d_Ref_proof_25 hK.k18 (by have hn0 := hK.n18; show 0 ≤ (j : Int) ∧ (j : Int) < gn G (o + 18); omega) ?_
        show ZE (d + 6) M_Ref_proof (gw G (up2 (upA B (o + 18) g) (o + 18) (j : Int) (z8 ((prfL S).getD j 0 : Int)))) 26 [(2, o), (0, (j : Int))] [] _
        rw [up2_upA]
        refine ZE.iinc (ls2 := [(2, o), (0, (j : Int) + 1)]) d_Ref_proof_26 rfl rfl ?_
        refine ZE.goto (tgt := 6) d_Ref_proof_29 rfl ?_
        rw [show (j : Int) + 1 = ((j + 1 : Nat) : Int) by omega]
        refine ih (j + 1) _ (by omega) ?_ (by omega)
        intro c hc
        by_cases e : c = j
        · subst e; rw [up1_at]; exact z8_s (by have := prfL_R S c; omega)
        · rw [up1_ne _ _ (by omega)]; exact hg0 c (by omega)
  have L0 := L6 _ 0 (B (o + 18)) (by omega) (fun c h => absurd h (Nat.not_lt_zero _)) (Nat.lt_succ_self _)
  rw [upA_self] at L0
  exact L0
set_option maxRecDepth 20000 in
set_option maxHeartbeats 4000000 in
theorem r_octet {d : Nat} {G : zG} {A : Int → Int → Int} {P : Option zV → zG → Prop} {o : Int} (hK : RK G o) (hF : RF A o) {wl : Nat} {wf : Nat → Int} (hw : wrP A o wl wf) (hwl : wl ≤ 2000) {k1 : Int} (hk : zR k1) (k : P (some (0, ocV wl wf k1)) (gw G A)) : ZE (d + 1) M_Ref_octet (gw G A) 0 [(2, o), (0, k1)] [] P := by
  refine ZE.iload_n d_Ref_octet_0 rfl ?_
  refine ZE.i2l d_Ref_octet_1 hk ?_
  refine ZE.lconst d_Ref_octet_2 ?_
  show ZE (d + 1) M_Ref_octet (gw G A) 3 [(2, o), (0, k1)] [(1, 0), (1, k1)] _
  refine ZE.aload_n d_Ref_octet_3 rfl ?_
  refine ZE.getE (v := (wl : Int)) d_Ref_octet_4 f_Ref_406 (tg := 0) rfl hK.1 hw.1 ?_
  refine ZE.iconst (n := 1) d_Ref_octet_7 ?_
  refine ZE.isub d_Ref_octet_8 ?_
  refine ZE.i2l d_Ref_octet_9 (by unfold zR; omega) ?_
  refine ZE.cS [(1, k1), (1, 0), (1, (wl : Int) - 1)] [] [(1, k1), (9, 0), (1, 0), (9, 0), (1, (wl : Int) - 1), (9, 0)] d_Ref_octet_10 l_Ref_111 rfl rfl rfl rfl rfl rfl ?_
  refine r_isIn (by unfold zR at hk; unfold zR64; omega) (by unfold zR64; omega) (by unfold zR64; omega) ?_
  show ZE (d + 1) M_Ref_octet (gw G A) 13 [(2, o), (0, k1)] [(0, b2i (0 ≤ k1 ∧ k1 ≤ (wl : Int) - 1))] _
  refine ZE.if_eq (tgt := 25) d_Ref_octet_13 rfl (zR_b2i _) (fun c13 => ?_) (fun c13 => ?_)
  · replace c13 := b2i_0.mp c13
    refine ZE.iconst (n := (-1)) d_Ref_octet_25 ?_
    refine ZE.iret d_Ref_octet_26 rfl ?_
    rw [show ocV wl wf k1 = -1 from if_neg (by omega)] at k
    exact k
  · replace c13 := b2i_n0.mp c13
    obtain ⟨kn, hkn⟩ : ∃ kn : Nat, k1 = kn := ⟨k1.toNat, by omega⟩
    subst hkn
    refine ZE.aload_n d_Ref_octet_16 rfl ?_
    refine ZE.getE (v := o + 18) d_Ref_octet_17 f_Ref_63 (tg := 2) rfl hK.1 hF.a27 ?_
    refine ZE.iload_n d_Ref_octet_20 rfl ?_
    refine ZE.baldE (v := wf kn) d_Ref_octet_21 hK.k18 (by have hn0 := hK.n18; show 0 ≤ (kn : Int) ∧ (kn : Int) < gn G (o + 18); omega) (hw.2 kn (by omega)) ?_
    refine ZE.goto (tgt := 26) d_Ref_octet_22 rfl ?_
    refine ZE.iret d_Ref_octet_26 rfl ?_
    rw [show ocV wl wf (kn : Int) = wf kn by unfold ocV; rw [if_pos (by omega), Int.toNat_natCast]] at k
    exact k
set_option maxRecDepth 20000 in
set_option maxHeartbeats 4000000 in
theorem r_proves {d : Nat} {G : zG} {A : Int → Int → Int} {P : Option zV → zG → Prop} {o : Int} (hK : RK G o) (hF : RF A o) {S : Nat} (hR : RS S A o) (hS7 : S < 128) (hp5 : pop S ≤ 5) {tl : Nat} {tf : Nat → Int} (ht : tpP A o tl tf) (htr : ∀ k, -128 ≤ tf k ∧ tf k ≤ 127) (htl : tl ≤ 2000) (k : ∀ B, fuF A B o → tpP B o 0 tf → B o 29 = A o 29 → B (o + 18) = A (o + 18) → P (some (0, pvV S tl tf)) (gw G B)) : ZE (d + 6) M_Ref_proves (gw G A) 0 [(2, o), (9, 0), (9, 0)] [] P := by
  have hpfl := prfL_len hS7 hp5
  have g0 : fuF A (up2 A o 31 0) o := fuF.fld (Or.inr (Or.inr rfl))
  have hF0 : RF (up2 A o 31 0) o := hF.wi g0.wi
  have hR0 : RS S (up2 A o 31 0) o := hR.wi g0.wi hS7 hp5
  refine ZE.aload_n d_Ref_proves_0 rfl ?_
  refine ZE.getE (v := (tl : Int)) d_Ref_proves_1 f_Ref_342 (tg := 0) rfl hK.1 ht.1 ?_
  refine ZE.istore_n (ls2 := [(2, o), (0, (tl : Int)), (9, 0)]) d_Ref_proves_4 (Nat.le_of_ble_eq_true rfl) rfl ?_
  refine ZE.aload_n d_Ref_proves_5 rfl ?_
  refine ZE.iconst (n := 0) d_Ref_proves_6 ?_
  refine ZE.put d_Ref_proves_7 f_Ref_342 (tg := 0) rfl trivial (Or.inl ⟨_, _, _, rfl, rfl, rfl⟩) hK.1 ?_
  show ZE (d + 6) M_Ref_proves (gw G (up2 A o 31 0)) 10 [(2, o), (0, (tl : Int)), (9, 0)] [] _
  refine ZE.aload_n d_Ref_proves_10 rfl ?_
  refine ZE.cV [] [] [(2, o), (9, 0), (9, 0), (9, 0)] d_Ref_proves_11 l_Ref_403 rfl rfl rfl rfl rfl rfl hK.1 ?_
  refine r_layProof hK hF0 hR0 hS7 hp5 (fun B gB hlB => ?_)
  show ZE (d + 6) M_Ref_proves (gw G B) 14 [(2, o), (0, (tl : Int)), (9, 0)] [] _
  have hFB : RF B o := hF.wi (g0.tr gB.fu).wi
  have ht19 : B (o + 19) = A (o + 19) := by rw [gB.1 _ (by omega) (by omega), up2_A, upA_ne _ _ (by omega)]
  have ht18 : B (o + 18) = A (o + 18) := by rw [gB.1 _ (by omega) (by omega), up2_A, upA_ne _ _ (by omega)]
  refine ZE.iconst (n := 0) d_Ref_proves_14 ?_
  refine ZE.istore_n (ls2 := [(2, o), (0, (tl : Int)), (0, 0)]) d_Ref_proves_15 (Nat.le_of_ble_eq_true rfl) rfl ?_
  have L16 : ∀ (t : Nat) (j : Nat) (f0 : Nat) (hj : j ≤ tl ∧ j ≤ (prfL S).length ∧ tl ≤ j + f0) (hpv : pvF (prfL S) tl tf 0 tl = pvF (prfL S) tl tf j f0), tl - j < t → ZE (d + 6) M_Ref_proves (gw G B) 16 [(2, o), (0, (tl : Int)), (0, (j : Int))] [] P := by
    intro t
    induction t with
    | zero => intro j f0 hj hpv hm; exact absurd hm (Nat.not_lt_zero _)
    | succ t ih =>
      intro j f0 hj hpv hm
      have htj := htr j
      have hpj := prfL_R S j
      refine ZE.iload_n d_Ref_proves_16 rfl ?_
      refine ZE.iload_n d_Ref_proves_17 rfl ?_
      refine ZE.icmp_ge (tgt := 50) d_Ref_proves_18 rfl (by unfold zR; omega) (by unfold zR; omega) (fun c18 => ?_) (fun c18 => ?_)
      · have hpe : pvF (prfL S) tl tf 0 tl = j := hpv.trans (pvF_stop (by omega))
        refine ZE.iload_n d_Ref_proves_50 rfl ?_
        refine ZE.iload_n d_Ref_proves_51 rfl ?_
        refine ZE.icmp_ne (tgt := 67) d_Ref_proves_52 rfl (by unfold zR; omega) (by unfold zR; omega) (fun c52 => ?_) (fun c52 => ?_)
        · refine ZE.iload_n d_Ref_proves_67 rfl ?_
          refine ZE.iret d_Ref_proves_68 rfl ?_
          have k1 := k B (g0.tr gB.fu) ⟨(gB.2 31 (by omega)).trans (up2_at _ _ _ _), fun c hc => absurd hc (Nat.not_lt_zero _)⟩ ((gB.2 29 (by omega)).trans (up2_ne _ _ (by omega))) ht18
          unfold pvV at k1
          rw [hpe] at k1
          first | (rw [if_pos (by omega)] at k1; exact k1) | (rw [if_neg (by omega)] at k1; exact k1)
        · refine ZE.iload_n d_Ref_proves_55 rfl ?_
          refine ZE.aload_n d_Ref_proves_56 rfl ?_
          refine ZE.getE (v := ((prfL S).length : Int)) d_Ref_proves_57 f_Ref_391 (tg := 0) rfl hK.1 hlB.1 ?_
          refine ZE.icmp_ne (tgt := 67) d_Ref_proves_60 rfl (by unfold zR; omega) (by unfold zR; omega) (fun c60 => ?_) (fun c60 => ?_)
          · refine ZE.iload_n d_Ref_proves_67 rfl ?_
            refine ZE.iret d_Ref_proves_68 rfl ?_
            have k1 := k B (g0.tr gB.fu) ⟨(gB.2 31 (by omega)).trans (up2_at _ _ _ _), fun c hc => absurd hc (Nat.not_lt_zero _)⟩ ((gB.2 29 (by omega)).trans (up2_ne _ _ (by omega))) ht18
            unfold pvV at k1
            rw [hpe] at k1
            first | (rw [if_pos (by omega)] at k1; exact k1) | (rw [if_neg (by omega)] at k1; exact k1)
          · refine ZE.iconst (n := (-1)) d_Ref_proves_63 ?_
            refine ZE.goto (tgt := 68) d_Ref_proves_64 rfl ?_
            refine ZE.iret d_Ref_proves_68 rfl ?_
            have k1 := k B (g0.tr gB.fu) ⟨(gB.2 31 (by omega)).trans (up2_at _ _ _ _), fun c hc => absurd hc (Nat.not_lt_zero _)⟩ ((gB.2 29 (by omega)).trans (up2_ne _ _ (by omega))) ht18
            unfold pvV at k1
            rw [hpe] at k1
            first | (rw [if_pos (by omega)] at k1; exact k1) | (rw [if_neg (by omega)] at k1; exact k1)
      · refine ZE.iload_n d_Ref_proves_21 rfl ?_
        refine ZE.aload_n d_Ref_proves_22 rfl ?_
        refine ZE.getE (v := ((prfL S).length : Int)) d_Ref_proves_23 f_Ref_391 (tg := 0) rfl hK.1 hlB.1 ?_
        refine ZE.icmp_ge (tgt := 50) d_Ref_proves_26 rfl (by unfold zR; omega) (by unfold zR; omega) (fun c26 => ?_) (fun c26 => ?_)
        · have hpe : pvF (prfL S) tl tf 0 tl = j := hpv.trans (pvF_stop (by omega))
          refine ZE.iload_n d_Ref_proves_50 rfl ?_
          refine ZE.iload_n d_Ref_proves_51 rfl ?_
          refine ZE.icmp_ne (tgt := 67) d_Ref_proves_52 rfl (by unfold zR; omega) (by unfold zR; omega) (fun c52 => ?_) (fun c52 => ?_)
          · refine ZE.iload_n d_Ref_proves_67 rfl ?_
            refine ZE.iret d_Ref_proves_68 rfl ?_
            have k1 := k B (g0.tr gB.fu) ⟨(gB.2 31 (by omega)).trans (up2_at _ _ _ _), fun c hc => absurd hc (Nat.not_lt_zero _)⟩ ((gB.2 29 (by omega)).trans (up2_ne _ _ (by omega))) ht18
            unfold pvV at k1
            rw [hpe] at k1
            first | (rw [if_pos (by omega)] at k1; exact k1) | (rw [if_neg (by omega)] at k1; exact k1)
          · refine ZE.iload_n d_Ref_proves_55 rfl ?_
            refine ZE.aload_n d_Ref_proves_56 rfl ?_
            refine ZE.getE (v := ((prfL S).length : Int)) d_Ref_proves_57 f_Ref_391 (tg := 0) rfl hK.1 hlB.1 ?_
            refine ZE.icmp_ne (tgt := 67) d_Ref_proves_60 rfl (by unfold zR; omega) (by unfold zR; omega) (fun c60 => ?_) (fun c60 => ?_)
            · refine ZE.iload_n d_Ref_proves_67 rfl ?_
              refine ZE.iret d_Ref_proves_68 rfl ?_
              have k1 := k B (g0.tr gB.fu) ⟨(gB.2 31 (by omega)).trans (up2_at _ _ _ _), fun c hc => absurd hc (Nat.not_lt_zero _)⟩ ((gB.2 29 (by omega)).trans (up2_ne _ _ (by omega))) ht18
              unfold pvV at k1
              rw [hpe] at k1
              first | (rw [if_pos (by omega)] at k1; exact k1) | (rw [if_neg (by omega)] at k1; exact k1)
            · refine ZE.iconst (n := (-1)) d_Ref_proves_63 ?_
              refine ZE.goto (tgt := 68) d_Ref_proves_64 rfl ?_
              refine ZE.iret d_Ref_proves_68 rfl ?_
              have k1 := k B (g0.tr gB.fu) ⟨(gB.2 31 (by omega)).trans (up2_at _ _ _ _), fun c hc => absurd hc (Nat.not_lt_zero _)⟩ ((gB.2 29 (by omega)).trans (up2_ne _ _ (by omega))) ht18
              unfold pvV at k1
              rw [hpe] at k1
              first | (rw [if_pos (by omega)] at k1; exact k1) | (rw [if_neg (by omega)] at k1; exact k1)
        · refine ZE.aload_n d_Ref_proves_29 rfl ?_
          refine ZE.getE (v := o + 19) d_Ref_proves_30 f_Ref_66 (tg := 2) rfl hK.1 hFB.a30 ?_
          refine ZE.iload_n d_Ref_proves_33 rfl ?_
          refine ZE.baldE (v := tf j) d_Ref_proves_34 hK.k19 (by have hn0 := hK.n19; show 0 ≤ (j : Int) ∧ (j : Int) < gn G (o + 19); omega) (by show B (o + 19) (j : Int) = tf j; rw [ht19]; exact ht.2 j (by omega)) ?_
          refine ZE.aload_n d_Ref_proves_35 rfl ?_
          refine ZE.getE (v := o + 17) d_Ref_proves_36 f_Ref_59 (tg := 2) rfl hK.1 hFB.a26 ?_
          refine ZE.iload_n d_Ref_proves_39 rfl ?_
          refine ZE.baldE (v := ((prfL S).getD j 0 : Int)) d_Ref_proves_40 hK.k17 (by have hn0 := hK.n17; show 0 ≤ (j : Int) ∧ (j : Int) < gn G (o + 17); omega) (hlB.2 j (by omega)) ?_
          refine ZE.icmp_ne (tgt := 50) d_Ref_proves_41 rfl (by unfold zR; omega) (by unfold zR; omega) (fun c41 => ?_) (fun c41 => ?_)
          · have hpe : pvF (prfL S) tl tf 0 tl = j := hpv.trans (pvF_stop (fun q => c41 q.2.2))
            refine ZE.iload_n d_Ref_proves_50 rfl ?_
            refine ZE.iload_n d_Ref_proves_51 rfl ?_
            refine ZE.icmp_ne (tgt := 67) d_Ref_proves_52 rfl (by unfold zR; omega) (by unfold zR; omega) (fun c52 => ?_) (fun c52 => ?_)
            · refine ZE.iload_n d_Ref_proves_67 rfl ?_
              refine ZE.iret d_Ref_proves_68 rfl ?_
              have k1 := k B (g0.tr gB.fu) ⟨(gB.2 31 (by omega)).trans (up2_at _ _ _ _), fun c hc => absurd hc (Nat.not_lt_zero _)⟩ ((gB.2 29 (by omega)).trans (up2_ne _ _ (by omega))) ht18
              unfold pvV at k1
              rw [hpe] at k1
              first | (rw [if_pos (by omega)] at k1; exact k1) | (rw [if_neg (by omega)] at k1; exact k1)
            · refine ZE.iload_n d_Ref_proves_55 rfl ?_
              refine ZE.aload_n d_Ref_proves_56 rfl ?_
              refine ZE.getE (v := ((prfL S).length : Int)) d_Ref_proves_57 f_Ref_391 (tg := 0) rfl hK.1 hlB.1 ?_
              refine ZE.icmp_ne (tgt := 67) d_Ref_proves_60 rfl (by unfold zR; omega) (by unfold zR; omega) (fun c60 => ?_) (fun c60 => ?_)
              · refine ZE.iload_n d_Ref_proves_67 rfl ?_
                refine ZE.iret d_Ref_proves_68 rfl ?_
                have k1 := k B (g0.tr gB.fu) ⟨(gB.2 31 (by omega)).trans (up2_at _ _ _ _), fun c hc => absurd hc (Nat.not_lt_zero _)⟩ ((gB.2 29 (by omega)).trans (up2_ne _ _ (by omega))) ht18
                unfold pvV at k1
                rw [hpe] at k1
                first | (rw [if_pos (by omega)] at k1; exact k1) | (rw [if_neg (by omega)] at k1; exact k1)
              · refine ZE.iconst (n := (-1)) d_Ref_proves_63 ?_
                refine ZE.goto (tgt := 68) d_Ref_proves_64 rfl ?_
                refine ZE.iret d_Ref_proves_68 rfl ?_
                have k1 := k B (g0.tr gB.fu) ⟨(gB.2 31 (by omega)).trans (up2_at _ _ _ _), fun c hc => absurd hc (Nat.not_lt_zero _)⟩ ((gB.2 29 (by omega)).trans (up2_ne _ _ (by omega))) ht18
                unfold pvV at k1
                rw [hpe] at k1
                first | (rw [if_pos (by omega)] at k1; exact k1) | (rw [if_neg (by omega)] at k1; exact k1)
          · refine ZE.iinc (ls2 := [(2, o), (0, (tl : Int)), (0, (j : Int) + 1)]) d_Ref_proves_44 rfl rfl ?_
            refine ZE.goto (tgt := 16) d_Ref_proves_47 rfl ?_
            rw [show (j : Int) + 1 = ((j + 1 : Nat) : Int) by omega]
            refine ih (j + 1) (f0 - 1) (by omega) ?_ (by omega)
            obtain ⟨f1, rfl⟩ : ∃ f1, f0 = f1 + 1 := ⟨f0 - 1, by omega⟩
            rw [hpv]
            exact if_pos ⟨by omega, by omega, c41⟩
  exact L16 _ 0 tl (by omega) rfl (Nat.lt_succ_self _)
set_option maxRecDepth 20000 in
set_option maxHeartbeats 4000000 in
theorem r_four {d : Nat} {G : zG} {A : Int → Int → Int} {P : Option zV → zG → Prop} {o : Int} (hK : RK G o) (hF : RF A o) {n : Nat} {tf : Nat → Int} (ht : tpP A o n tf) (hn : n + 4 ≤ 2000) {v : Int} (k : ∀ B, fuF A B o → tpP B o (n + 4) (ap4 tf n v) → B o 29 = A o 29 → B (o + 18) = A (o + 18) → P none (gw G B)) : ZE d M_Ref_four (gw G A) 0 [(2, o), (0, v), (9, 0)] [] P := by
  refine ZE.bipush (n := 24) d_Ref_four_0 rfl ?_
  refine ZE.istore_n (ls2 := [(2, o), (0, v), (0, 24)]) d_Ref_four_2 (Nat.le_of_ble_eq_true rfl) rfl ?_
  refine ZE.iload_n d_Ref_four_3 rfl ?_
  refine ZE.if_lt (tgt := 36) d_Ref_four_4 rfl (by unfold zR; omega) (fun c4 => ?_) (fun c4 => ?_)
  · exact absurd c4 (by decide)
  · refine ZE.aload_n d_Ref_four_7 rfl ?_
    refine ZE.getE (v := o + 19) d_Ref_four_8 f_Ref_66 (tg := 2) rfl hK.1 (hF).a30 ?_
    refine ZE.aload_n d_Ref_four_11 rfl ?_
    refine ZE.getE (v := (n : Int)) d_Ref_four_12 f_Ref_342 (tg := 0) rfl hK.1 ht.1 ?_
    refine ZE.iload_n d_Ref_four_15 rfl ?_
    refine ZE.iload_n d_Ref_four_16 rfl ?_
    refine ZE.ishr d_Ref_four_17 ?_
    refine ZE.i2b d_Ref_four_18 ?_
    refine ZE.bast d_Ref_four_19 hK.k19 (by have hn0 := hK.n19; show 0 ≤ (n : Int) ∧ (n : Int) < gn G (o + 19); omega) ?_
    show ZE d M_Ref_four (gw G (up2 A (o + 19) (n : Int) (z8 (z8 (zshr v 24))))) 20 [(2, o), (0, v), (0, 24)] [] _
    refine ZE.aload_n d_Ref_four_20 rfl ?_
    refine ZE.dup d_Ref_four_21 (Or.inr rfl) ?_
    refine ZE.getE (v := (n : Int)) d_Ref_four_22 f_Ref_342 (tg := 0) rfl hK.1 ((up2_ne _ _ (by omega)).trans ht.1) ?_
    refine ZE.iconst (n := 1) d_Ref_four_25 ?_
    refine ZE.iadd d_Ref_four_26 ?_
    refine ZE.put d_Ref_four_27 f_Ref_342 (tg := 0) rfl trivial (Or.inl ⟨_, _, _, rfl, rfl, rfl⟩) hK.1 ?_
    show ZE d M_Ref_four (gw G (up2 (up2 A (o + 19) (n : Int) (z8 (z8 (zshr v 24)))) o 31 ((n : Int) + 1))) 30 [(2, o), (0, v), (0, 24)] [] _
    refine ZE.iinc (ls2 := [(2, o), (0, v), (0, 16)]) d_Ref_four_30 rfl rfl ?_
    refine ZE.goto (tgt := 3) d_Ref_four_33 rfl ?_
    refine ZE.iload_n d_Ref_four_3 rfl ?_
    refine ZE.if_lt (tgt := 36) d_Ref_four_4 rfl (by unfold zR; omega) (fun c4 => ?_) (fun c4 => ?_)
    · exact absurd c4 (by decide)
    · refine ZE.aload_n d_Ref_four_7 rfl ?_
      refine ZE.getE (v := o + 19) d_Ref_four_8 f_Ref_66 (tg := 2) rfl hK.1 ((RF.fld 31 (hF.u2 (by omega)) (by omega))).a30 ?_
      refine ZE.aload_n d_Ref_four_11 rfl ?_
      refine ZE.getE (v := (n : Int) + 1) d_Ref_four_12 f_Ref_342 (tg := 0) rfl hK.1 (up2_at _ _ _ _) ?_
      refine ZE.iload_n d_Ref_four_15 rfl ?_
      refine ZE.iload_n d_Ref_four_16 rfl ?_
      refine ZE.ishr d_Ref_four_17 ?_
      refine ZE.i2b d_Ref_four_18 ?_
      refine ZE.bast d_Ref_four_19 hK.k19 (by have hn0 := hK.n19; show 0 ≤ ((n : Int) + 1) ∧ ((n : Int) + 1) < gn G (o + 19); omega) ?_
      show ZE d M_Ref_four (gw G (up2 (up2 (up2 A (o + 19) (n : Int) (z8 (z8 (zshr v 24)))) o 31 ((n : Int) + 1)) (o + 19) ((n : Int) + 1) (z8 (z8 (zshr v 16))))) 20 [(2, o), (0, v), (0, 16)] [] _
      refine ZE.aload_n d_Ref_four_20 rfl ?_
      refine ZE.dup d_Ref_four_21 (Or.inr rfl) ?_
      refine ZE.getE (v := (n : Int) + 1) d_Ref_four_22 f_Ref_342 (tg := 0) rfl hK.1 ((up2_ne _ _ (by omega)).trans (up2_at _ _ _ _)) ?_
      refine ZE.iconst (n := 1) d_Ref_four_25 ?_
      refine ZE.iadd d_Ref_four_26 ?_
      refine ZE.put d_Ref_four_27 f_Ref_342 (tg := 0) rfl trivial (Or.inl ⟨_, _, _, rfl, rfl, rfl⟩) hK.1 ?_
      show ZE d M_Ref_four (gw G (up2 (up2 (up2 (up2 A (o + 19) (n : Int) (z8 (z8 (zshr v 24)))) o 31 ((n : Int) + 1)) (o + 19) ((n : Int) + 1) (z8 (z8 (zshr v 16)))) o 31 (((n : Int) + 1) + 1))) 30 [(2, o), (0, v), (0, 16)] [] _
      refine ZE.iinc (ls2 := [(2, o), (0, v), (0, 8)]) d_Ref_four_30 rfl rfl ?_
      refine ZE.goto (tgt := 3) d_Ref_four_33 rfl ?_
      refine ZE.iload_n d_Ref_four_3 rfl ?_
      refine ZE.if_lt (tgt := 36) d_Ref_four_4 rfl (by unfold zR; omega) (fun c4 => ?_) (fun c4 => ?_)
      · exact absurd c4 (by decide)
      · refine ZE.aload_n d_Ref_four_7 rfl ?_
        refine ZE.getE (v := o + 19) d_Ref_four_8 f_Ref_66 (tg := 2) rfl hK.1 ((RF.fld 31 ((RF.fld 31 (hF.u2 (by omega)) (by omega)).u2 (by omega)) (by omega))).a30 ?_
        refine ZE.aload_n d_Ref_four_11 rfl ?_
        refine ZE.getE (v := (n : Int) + 1 + 1) d_Ref_four_12 f_Ref_342 (tg := 0) rfl hK.1 (up2_at _ _ _ _) ?_
        refine ZE.iload_n d_Ref_four_15 rfl ?_
        refine ZE.iload_n d_Ref_four_16 rfl ?_
        refine ZE.ishr d_Ref_four_17 ?_
        refine ZE.i2b d_Ref_four_18 ?_
        refine ZE.bast d_Ref_four_19 hK.k19 (by have hn0 := hK.n19; show 0 ≤ ((n : Int) + 1 + 1) ∧ ((n : Int) + 1 + 1) < gn G (o + 19); omega) ?_
        show ZE d M_Ref_four (gw G (up2 (up2 (up2 (up2 (up2 A (o + 19) (n : Int) (z8 (z8 (zshr v 24)))) o 31 ((n : Int) + 1)) (o + 19) ((n : Int) + 1) (z8 (z8 (zshr v 16)))) o 31 (((n : Int) + 1) + 1)) (o + 19) ((n : Int) + 1 + 1) (z8 (z8 (zshr v 8))))) 20 [(2, o), (0, v), (0, 8)] [] _
        refine ZE.aload_n d_Ref_four_20 rfl ?_
        refine ZE.dup d_Ref_four_21 (Or.inr rfl) ?_
        refine ZE.getE (v := (n : Int) + 1 + 1) d_Ref_four_22 f_Ref_342 (tg := 0) rfl hK.1 ((up2_ne _ _ (by omega)).trans (up2_at _ _ _ _)) ?_
        refine ZE.iconst (n := 1) d_Ref_four_25 ?_
        refine ZE.iadd d_Ref_four_26 ?_
        refine ZE.put d_Ref_four_27 f_Ref_342 (tg := 0) rfl trivial (Or.inl ⟨_, _, _, rfl, rfl, rfl⟩) hK.1 ?_
        show ZE d M_Ref_four (gw G (up2 (up2 (up2 (up2 (up2 (up2 A (o + 19) (n : Int) (z8 (z8 (zshr v 24)))) o 31 ((n : Int) + 1)) (o + 19) ((n : Int) + 1) (z8 (z8 (zshr v 16)))) o 31 (((n : Int) + 1) + 1)) (o + 19) ((n : Int) + 1 + 1) (z8 (z8 (zshr v 8)))) o 31 (((n : Int) + 1 + 1) + 1))) 30 [(2, o), (0, v), (0, 8)] [] _
        refine ZE.iinc (ls2 := [(2, o), (0, v), (0, 0)]) d_Ref_four_30 rfl rfl ?_
        refine ZE.goto (tgt := 3) d_Ref_four_33 rfl ?_
        refine ZE.iload_n d_Ref_four_3 rfl ?_
        refine ZE.if_lt (tgt := 36) d_Ref_four_4 rfl (by unfold zR; omega) (fun c4 => ?_) (fun c4 => ?_)
        · exact absurd c4 (by decide)
        · refine ZE.aload_n d_Ref_four_7 rfl ?_
          refine ZE.getE (v := o + 19) d_Ref_four_8 f_Ref_66 (tg := 2) rfl hK.1 ((RF.fld 31 ((RF.fld 31 ((RF.fld 31 (hF.u2 (by omega)) (by omega)).u2 (by omega)) (by omega)).u2 (by omega)) (by omega))).a30 ?_
          refine ZE.aload_n d_Ref_four_11 rfl ?_
          refine ZE.getE (v := (n : Int) + 1 + 1 + 1) d_Ref_four_12 f_Ref_342 (tg := 0) rfl hK.1 (up2_at _ _ _ _) ?_
          refine ZE.iload_n d_Ref_four_15 rfl ?_
          refine ZE.iload_n d_Ref_four_16 rfl ?_
          refine ZE.ishr d_Ref_four_17 ?_
          refine ZE.i2b d_Ref_four_18 ?_
          refine ZE.bast d_Ref_four_19 hK.k19 (by have hn0 := hK.n19; show 0 ≤ ((n : Int) + 1 + 1 + 1) ∧ ((n : Int) + 1 + 1 + 1) < gn G (o + 19); omega) ?_
          show ZE d M_Ref_four (gw G (up2 (up2 (up2 (up2 (up2 (up2 (up2 A (o + 19) (n : Int) (z8 (z8 (zshr v 24)))) o 31 ((n : Int) + 1)) (o + 19) ((n : Int) + 1) (z8 (z8 (zshr v 16)))) o 31 (((n : Int) + 1) + 1)) (o + 19) ((n : Int) + 1 + 1) (z8 (z8 (zshr v 8)))) o 31 (((n : Int) + 1 + 1) + 1)) (o + 19) ((n : Int) + 1 + 1 + 1) (z8 (z8 (zshr v 0))))) 20 [(2, o), (0, v), (0, 0)] [] _
          refine ZE.aload_n d_Ref_four_20 rfl ?_
          refine ZE.dup d_Ref_four_21 (Or.inr rfl) ?_
          refine ZE.getE (v := (n : Int) + 1 + 1 + 1) d_Ref_four_22 f_Ref_342 (tg := 0) rfl hK.1 ((up2_ne _ _ (by omega)).trans (up2_at _ _ _ _)) ?_
          refine ZE.iconst (n := 1) d_Ref_four_25 ?_
          refine ZE.iadd d_Ref_four_26 ?_
          refine ZE.put d_Ref_four_27 f_Ref_342 (tg := 0) rfl trivial (Or.inl ⟨_, _, _, rfl, rfl, rfl⟩) hK.1 ?_
          show ZE d M_Ref_four (gw G (up2 (up2 (up2 (up2 (up2 (up2 (up2 (up2 A (o + 19) (n : Int) (z8 (z8 (zshr v 24)))) o 31 ((n : Int) + 1)) (o + 19) ((n : Int) + 1) (z8 (z8 (zshr v 16)))) o 31 (((n : Int) + 1) + 1)) (o + 19) ((n : Int) + 1 + 1) (z8 (z8 (zshr v 8)))) o 31 (((n : Int) + 1 + 1) + 1)) (o + 19) ((n : Int) + 1 + 1 + 1) (z8 (z8 (zshr v 0)))) o 31 (((n : Int) + 1 + 1 + 1) + 1))) 30 [(2, o), (0, v), (0, 0)] [] _
          refine ZE.iinc (ls2 := [(2, o), (0, v), (0, -8)]) d_Ref_four_30 rfl rfl ?_
          refine ZE.goto (tgt := 3) d_Ref_four_33 rfl ?_
          refine ZE.iload_n d_Ref_four_3 rfl ?_
          refine ZE.if_lt (tgt := 36) d_Ref_four_4 rfl (by unfold zR; omega) (fun c4 => ?_) (fun c4 => ?_)
          · refine ZE.vret d_Ref_four_36 rfl ?_
            refine k _ (((fuF.add.tr fuF.add).tr fuF.add).tr fuF.add) ?_ ?_ ?_
            · have q1 := ht.add (w := z8 (zshr v 24))
              have q2 := q1.add (w := z8 (zshr v 16))
              have q3 := q2.add (w := z8 (zshr v 8))
              have q4 := q3.add (w := z8 (zshr v 0))
              rw [show ((n + 1 : Nat) : Int) = (n : Int) + 1 from rfl] at q2 q3 q4
              rw [show ((n + 1 + 1 : Nat) : Int) = (n : Int) + 1 + 1 from rfl] at q3 q4
              rw [show ((n + 1 + 1 + 1 : Nat) : Int) = (n : Int) + 1 + 1 + 1 from rfl] at q4
              rw [z8_i, z8_i, z8_i, z8_i]
              exact q4
            · rw [up2_ne _ _ (by omega), up2_ne _ _ (by omega), up2_ne _ _ (by omega), up2_ne _ _ (by omega), up2_ne _ _ (by omega), up2_ne _ _ (by omega), up2_ne _ _ (by omega), up2_ne _ _ (by omega)]
            · funext j; rw [up2_ne _ _ (by omega), up2_ne _ _ (by omega), up2_ne _ _ (by omega), up2_ne _ _ (by omega), up2_ne _ _ (by omega), up2_ne _ _ (by omega), up2_ne _ _ (by omega), up2_ne _ _ (by omega)]
          · exact absurd c4 (by decide)
set_option maxRecDepth 20000 in
set_option maxHeartbeats 4000000 in
theorem r_feed {d : Nat} {G : zG} {A : Int → Int → Int} {P : Option zV → zG → Prop} {o : Int} (hK : RK G o) (hF : RF A o) {tl : Nat} {tf : Nat → Int} (ht : tpP A o tl tf) (htr : ∀ k, -128 ≤ tf k ∧ tf k ≤ 127) (htl : tl ≤ 2000) {a1 a2 a3 a4 a5 : Int} (k : ∀ B, fuF A B o → tpP B o (feT tl) (feW tl tf a1 a2 a3 a4 a5) → B o 29 = A o 29 → B (o + 18) = A (o + 18) → P (some (0, feV tl)) (gw G B)) : ZE (d + 1) M_Ref_feed (gw G A) 0 [(2, o), (0, a1), (0, a2), (0, a3), (0, a4), (0, a5)] [] P := by
  refine ZE.aload_n d_Ref_feed_0 rfl ?_
  refine ZE.getE (v := (tl : Int)) d_Ref_feed_1 f_Ref_342 (tg := 0) rfl hK.1 ht.1 ?_
  refine ZE.bipush (n := 20) d_Ref_feed_4 rfl ?_
  refine ZE.iadd d_Ref_feed_6 ?_
  refine ZE.sipush (n := 2000) d_Ref_feed_7 rfl ?_
  refine ZE.icmp_le (tgt := 15) d_Ref_feed_10 rfl (by unfold zR; omega) (by unfold zR; omega) (fun c10 => ?_) (fun c10 => ?_)
  · refine ZE.aload_n d_Ref_feed_15 rfl ?_
    refine ZE.iload_n d_Ref_feed_16 rfl ?_
    refine ZE.cV [(0, a1)] [] [(2, o), (0, a1), (9, 0)] d_Ref_feed_17 l_Ref_409 rfl rfl rfl rfl rfl rfl hK.1 ?_
    refine r_four (n := tl) (tf := tf) (v := a1) hK hF ht (by omega) (fun B1 g1 ht1 h291 h181 => ?_)
    show ZE (d + 1) M_Ref_feed (gw G B1) 20 [(2, o), (0, a1), (0, a2), (0, a3), (0, a4), (0, a5)] [] _
    have hFB1 : RF B1 o := hF.wi g1.wi
    refine ZE.aload_n d_Ref_feed_20 rfl ?_
    refine ZE.iload_n d_Ref_feed_21 rfl ?_
    refine ZE.cV [(0, a2)] [] [(2, o), (0, a2), (9, 0)] d_Ref_feed_22 l_Ref_409 rfl rfl rfl rfl rfl rfl hK.1 ?_
    refine r_four (n := tl + 4) (tf := (ap4 tf (tl) a1)) (v := a2) hK hFB1 ht1 (by omega) (fun B2 g2 ht2 h292 h182 => ?_)
    show ZE (d + 1) M_Ref_feed (gw G B2) 25 [(2, o), (0, a1), (0, a2), (0, a3), (0, a4), (0, a5)] [] _
    have hFB2 : RF B2 o := hFB1.wi g2.wi
    refine ZE.aload_n d_Ref_feed_25 rfl ?_
    refine ZE.iload_n d_Ref_feed_26 rfl ?_
    refine ZE.cV [(0, a3)] [] [(2, o), (0, a3), (9, 0)] d_Ref_feed_27 l_Ref_409 rfl rfl rfl rfl rfl rfl hK.1 ?_
    refine r_four (n := tl + 8) (tf := (ap4 (ap4 tf (tl) a1) (tl + 4) a2)) (v := a3) hK hFB2 ht2 (by omega) (fun B3 g3 ht3 h293 h183 => ?_)
    show ZE (d + 1) M_Ref_feed (gw G B3) 30 [(2, o), (0, a1), (0, a2), (0, a3), (0, a4), (0, a5)] [] _
    have hFB3 : RF B3 o := hFB2.wi g3.wi
    refine ZE.aload_n d_Ref_feed_30 rfl ?_
    refine ZE.iload d_Ref_feed_31 rfl ?_
    refine ZE.cV [(0, a4)] [] [(2, o), (0, a4), (9, 0)] d_Ref_feed_33 l_Ref_409 rfl rfl rfl rfl rfl rfl hK.1 ?_
    refine r_four (n := tl + 12) (tf := (ap4 (ap4 (ap4 tf (tl) a1) (tl + 4) a2) (tl + 8) a3)) (v := a4) hK hFB3 ht3 (by omega) (fun B4 g4 ht4 h294 h184 => ?_)
    show ZE (d + 1) M_Ref_feed (gw G B4) 36 [(2, o), (0, a1), (0, a2), (0, a3), (0, a4), (0, a5)] [] _
    have hFB4 : RF B4 o := hFB3.wi g4.wi
    refine ZE.aload_n d_Ref_feed_36 rfl ?_
    refine ZE.iload d_Ref_feed_37 rfl ?_
    refine ZE.cV [(0, a5)] [] [(2, o), (0, a5), (9, 0)] d_Ref_feed_39 l_Ref_409 rfl rfl rfl rfl rfl rfl hK.1 ?_
    refine r_four (n := tl + 16) (tf := (ap4 (ap4 (ap4 (ap4 tf (tl) a1) (tl + 4) a2) (tl + 8) a3) (tl + 12) a4)) (v := a5) hK hFB4 ht4 (by omega) (fun B5 g5 ht5 h295 h185 => ?_)
    show ZE (d + 1) M_Ref_feed (gw G B5) 42 [(2, o), (0, a1), (0, a2), (0, a3), (0, a4), (0, a5)] [] _
    have hFB5 : RF B5 o := hFB4.wi g5.wi
    refine ZE.aload_n d_Ref_feed_42 rfl ?_
    refine ZE.getE (v := ((tl + 20 : Nat) : Int)) d_Ref_feed_43 f_Ref_342 (tg := 0) rfl hK.1 ht5.1 ?_
    refine ZE.iret d_Ref_feed_46 rfl ?_
    have k1 := k B5 ((((g1.tr g2).tr g3).tr g4).tr g5) (by unfold feT feW; rw [if_pos (by omega), if_pos (by omega)]; exact ht5) ((((h295.trans h294).trans h293).trans h292).trans h291) ((((h185.trans h184).trans h183).trans h182).trans h181)
    rw [show feV tl = ((tl + 20 : Nat) : Int) from if_pos (by omega)] at k1
    exact k1
  · refine ZE.iconst (n := (-1)) d_Ref_feed_13 ?_
    refine ZE.iret d_Ref_feed_14 rfl ?_
    have k1 := k A fuF.rf (by unfold feT feW; rw [if_neg (by omega), if_neg (by omega)]; exact ht) rfl rfl
    rw [show feV tl = -1 from if_neg (by omega)] at k1
    exact k1
set_option maxRecDepth 20000 in
set_option maxHeartbeats 4000000 in
theorem r_end {d : Nat} {G : zG} {A : Int → Int → Int} {P : Option zV → zG → Prop} {o : Int} (hK : RK G o) (hF : RF A o) {tl : Nat} {tf : Nat → Int} (ht : tpP A o tl tf) (htr : ∀ k, -128 ≤ tf k ∧ tf k ≤ 127) (htl : tl ≤ 2000) {n : Int} (hn : zR n) (k : ∀ B, fuF A B o → tpP B o (enT tl n) tf → B o 29 = A o 29 → B (o + 18) = A (o + 18) → P (some (0, enD tl n)) (gw G B)) : ZE (d + 1) M_Ref_end (gw G A) 0 [(2, o), (0, n)] [] P := by
  refine ZE.iload_n d_Ref_end_0 rfl ?_
  refine ZE.i2l d_Ref_end_1 hn ?_
  refine ZE.lconst d_Ref_end_2 ?_
  show ZE (d + 1) M_Ref_end (gw G A) 3 [(2, o), (0, n)] [(1, 0), (1, n)] _
  refine ZE.aload_n d_Ref_end_3 rfl ?_
  refine ZE.getE (v := (tl : Int)) d_Ref_end_4 f_Ref_342 (tg := 0) rfl hK.1 ht.1 ?_
  refine ZE.i2l d_Ref_end_7 (by unfold zR; omega) ?_
  refine ZE.cS [(1, n), (1, 0), (1, (tl : Int))] [] [(1, n), (9, 0), (1, 0), (9, 0), (1, (tl : Int)), (9, 0)] d_Ref_end_8 l_Ref_111 rfl rfl rfl rfl rfl rfl ?_
  refine r_isIn (by unfold zR at hn; unfold zR64; omega) (by unfold zR64; omega) (by unfold zR64; omega) ?_
  show ZE (d + 1) M_Ref_end (gw G A) 11 [(2, o), (0, n)] [(0, b2i (0 ≤ n ∧ n ≤ (tl : Int)))] _
  refine ZE.if_ne (tgt := 16) d_Ref_end_11 rfl (zR_b2i _) (fun c11 => ?_) (fun c11 => ?_)
  · replace c11 := b2i_n0.mp c11
    refine ZE.aload_n d_Ref_end_16 rfl ?_
    refine ZE.iload_n d_Ref_end_17 rfl ?_
    refine ZE.put d_Ref_end_18 f_Ref_342 (tg := 0) rfl trivial (Or.inl ⟨_, _, _, rfl, rfl, rfl⟩) hK.1 ?_
    show ZE (d + 1) M_Ref_end (gw G (up2 A o 31 n)) 21 [(2, o), (0, n)] [] _
    refine ZE.iload_n d_Ref_end_21 rfl ?_
    refine ZE.iret d_Ref_end_22 rfl ?_
    have k1 := k (up2 A o 31 n) (fuF.fld (Or.inr (Or.inr rfl))) (by unfold enT; rw [if_pos c11]; exact ⟨by rw [up2_at]; omega, fun c hc => by rw [up2_ne _ _ (by omega)]; exact ht.2 c (by omega)⟩) (up2_ne _ _ (by omega)) (by funext j; exact up2_ne _ _ (by omega))
    rw [show enD tl n = n from if_pos c11] at k1
    exact k1
  · replace c11 := b2i_0.mp c11
    refine ZE.iconst (n := (-1)) d_Ref_end_14 ?_
    refine ZE.iret d_Ref_end_15 rfl ?_
    have k1 := k A fuF.rf (by unfold enT; rw [if_neg c11]; exact ht) rfl rfl
    rw [show enD tl n = -1 from if_neg c11] at k1
    exact k1
