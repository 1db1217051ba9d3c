def nvU (D ap i : Nat) : Nat := if ap = 1 then nn1 (ux D) i else nn2 (ux D) i
def mdU (D ap i : Nat) : Nat := mb (nvU D ap i) ||| mb (nvU D ap i + ap)
def cfB (D ap i : Nat) : Bool := decide (smF 127 (nvU D ap i) 7 = 1) && decide (smF 127 (nvU D ap i + ap) 7 = 1)
def csB (D ap S i : Nat) : Bool := cfB D ap i && decide (mdU D ap i &&& (127 - S) = 0)
def wtU (D ap S i : Nat) : Int := if mdU D ap i &&& (127 - S) = 0 then (if cfB D ap i = true then 0 else gdA (nvU D ap i) 7 161) else lsF (mdU D ap i &&& (127 - S)) 0 7
def cK (G : zG) (c : Int) (cap : Nat) : Prop := gk G c = 11 ∧ 0 ≤ c ∧ (gk G (c + 1) = 1 ∧ gn G (c + 1) = 7) ∧ (gk G (c + 2) = 1 ∧ gn G (c + 2) = 7) ∧ bK G (c + 3) cap
def cO (A : Int → Int → Int) (c : Int) (v i ap : Nat) : Prop := A c 0 = c + 3 ∧ A c 1 = (i : Int) ∧ A c 2 = ((mb v ||| mb (v + ap) : Nat) : Int) ∧ A c 3 = c + 1 ∧ A c 4 = c + 2 ∧ bN A (c + 3) v ∧ (∀ k : Nat, k < 7 → A (c + 1) k = (vp (sev k) v : Int)) ∧ ∀ k : Nat, k < 7 → A (c + 2) k = (vp (sev k) (v + ap) : Int)
def cP (G : zG) (A : Int → Int → Int) (c : Int) (v i ap : Nat) : Prop := cK G c (nd 1000000000 v) ∧ cO A c v i ap
def uW (G : zG) (A : Int → Int → Int) (u : Int) (D ap : Nat) : Prop := ∀ i : Nat, 1 ≤ i → i ≤ 9 → A (u + 5) i = (dl (xp (ux D) i) : Int) ∧ A (u + 6) i = (mdU D ap i : Int) ∧ (A (u + 7) i = 0 ∨ A (u + 7) i = gdA (nvU D ap i) 7 161) ∧ (cfB D ap i = true → u + 9 ≤ A (u + 8) i ∧ A (u + 8) i + 5 ≤ (gz G : Int) ∧ cP G A (A (u + 8) i) (nvU D ap i) i ap) ∧ (cfB D ap i = false → A (u + 8) i = -1)
theorem or_128 : ∀ a, a < 128 → ∀ b, b < 128 → a ||| b < 128 := by decide +kernel
theorem mdU_lt (D ap i : Nat) : mdU D ap i < 128 := or_128 _ (mb_lt _) _ (mb_lt _)
theorem andn_tab : ∀ a, a < 128 → ∀ S, S < 128 → zand (a : Nat) (zxor (S : Nat) (-1)) = ((a &&& (127 - S) : Nat) : Int) ∧ a &&& (127 - S) < 128 := by decide +kernel
theorem gdA_R (n : Nat) : ∀ f k, k + f ≤ 168 → -2 ≤ gdA n k f ∧ gdA n k f ≤ 997 := by
  intro f
  induction f with
  | zero => intro k _; show (-2 : Int) ≤ -2 ∧ (-2 : Int) ≤ 997; omega
  | succ f ih =>
    intro k hk
    have h1 := zPf_R k (by omega)
    have h2 := ih (k + 1) (by omega)
    unfold gdA
    split
    · omega
    · exact h2
theorem lsF_R (S : Nat) : ∀ f k, -1 ≤ lsF S k f ∧ lsF S k f ≤ 17 := by
  intro f
  induction f with
  | zero => intro k; show (-1 : Int) ≤ -1 ∧ (-1 : Int) ≤ 17; omega
  | succ f ih =>
    intro k
    have h2 := ih (k + 1)
    unfold lsF
    split
    · have : sev k ≤ 17 := by
        by_cases h : k < 7
        · exact (by decide : ∀ k, k < 7 → sev k ≤ 17) k h
        · unfold sev; split <;> omega
      omega
    · exact h2
set_option maxRecDepth 20000 in
set_option maxHeartbeats 4000000 in
theorem u_coupleFor {d : Nat} {G : zG} {A : Int → Int → Int} {P : Option zV → zG → Prop}  {u : Int} (hu : uK G u) {q D : Nat} (hO : uO A u q D) {ap : Nat} (hW : uW G A u D ap) {S : Nat} (hS7 : S < 128) {i0 : Nat} (hi : 1 ≤ i0 ∧ i0 ≤ 9) (k : P (some (2, if csB D ap S i0 = true then A (u + 8) i0 else -1)) (gw G A)) : ZE d M_Uni_coupleFor (gw G A) 0 [(2, u), (0, (i0 : Int)), (0, (S : Int)), (9, 0)] [] P := by
  obtain ⟨cv, hcv⟩ : ∃ cv, cv = A (u + 8) (i0 : Int) := ⟨_, rfl⟩
  have hw := hW i0 hi.1 hi.2
  rw [← hcv] at hw k
  have hmd := mdU_lt D ap i0
  have hat := andn_tab _ hmd S hS7
  have hu0 := hu.2.1
  refine ZE.iload_n d_Uni_coupleFor_0 rfl ?_
  refine ZE.if_lt (tgt := 22) d_Uni_coupleFor_1 rfl (by unfold zR; omega) (fun c1 => ?_) (fun c1 => ?_)
  · exact absurd c1 (by omega)
  · refine ZE.iload_n d_Uni_coupleFor_4 rfl ?_
    refine ZE.aload_n d_Uni_coupleFor_5 rfl ?_
    refine ZE.getE (v := u + 8) d_Uni_coupleFor_6 f_Uni_35 (tg := 2) rfl hu.1 hO.2.2.2.2.2.2.2.2.2.1 ?_
    refine ZE.alenE (v := 10) d_Uni_coupleFor_9 (by have hk0 := hu.2.2.2.2.2.2.2.1; show 1 ≤ gk G (u + 8) ∧ gk G (u + 8) ≤ 6; omega) hu.2.2.2.2.2.2.2.2 ?_
    refine ZE.icmp_ge (tgt := 22) d_Uni_coupleFor_10 rfl (by unfold zR; omega) (by unfold zR; omega) (fun c10 => ?_) (fun c10 => ?_)
    · exact absurd c10 (by omega)
    · refine ZE.aload_n d_Uni_coupleFor_13 rfl ?_
      refine ZE.getE (v := u + 8) d_Uni_coupleFor_14 f_Uni_35 (tg := 2) rfl hu.1 hO.2.2.2.2.2.2.2.2.2.1 ?_
      refine ZE.iload_n d_Uni_coupleFor_17 rfl ?_
      refine ZE.aaldE (v := cv) d_Uni_coupleFor_18 hu.2.2.2.2.2.2.2.1 (by omega) (by have hn0 := hu.2.2.2.2.2.2.2.2; show 0 ≤ (i0 : Int) ∧ (i0 : Int) < gn G (u + 8); omega) hcv.symm ?_
      refine ZE.goto (tgt := 23) d_Uni_coupleFor_19 rfl ?_
      refine ZE.astore_n (ls2 := [(2, u), (0, (i0 : Int)), (0, (S : Int)), (2, cv)]) d_Uni_coupleFor_23 (Nat.le_of_ble_eq_true rfl) rfl ?_
      refine ZE.aload_n d_Uni_coupleFor_24 rfl ?_
      refine ZE.ifnull (tgt := 43) d_Uni_coupleFor_25 rfl  (fun c25 => ?_) (fun c25 => ?_)
      · have hcf : cfB D ap i0 = false := Bool.eq_false_iff.mpr (fun q => by have := (hw.2.2.2.1 q).1; omega)
        have hcs : ¬ csB D ap S i0 = true := by unfold csB; rw [hcf, Bool.false_and]; decide
        refine ZE.null d_Uni_coupleFor_43 ?_
        refine ZE.aret d_Uni_coupleFor_44 ⟨_, rfl⟩ ?_
        rw [if_neg hcs] at k
        exact k
      · have hcf : cfB D ap i0 = true := by
          by_cases q : cfB D ap i0 = true
          · exact q
          · have := hw.2.2.2.2 (Bool.eq_false_iff.mpr q); omega
        have hcp := (hw.2.2.2.1 hcf).2.2
        refine ZE.aload_n d_Uni_coupleFor_28 rfl ?_
        refine ZE.getE (v := (mdU D ap i0 : Int)) d_Uni_coupleFor_29 f_Uni_84 (tg := 0) rfl hcp.1.1 hcp.2.2.2.1 ?_
        refine ZE.iload_n d_Uni_coupleFor_32 rfl ?_
        refine ZE.iconst (n := (-1)) d_Uni_coupleFor_33 ?_
        refine ZE.ixor d_Uni_coupleFor_34 ?_
        refine ZE.iand d_Uni_coupleFor_35 ?_
        rw [show (zand (mdU D ap i0 : Int) (zxor (S : Int) (-1)) : Int) = ((mdU D ap i0 &&& (127 - S) : Nat) : Int) from hat.1]
        refine ZE.if_ne (tgt := 43) d_Uni_coupleFor_36 rfl (by unfold zR; omega) (fun c36 => ?_) (fun c36 => ?_)
        · have hcs : ¬ csB D ap S i0 = true := by unfold csB; rw [hcf, Bool.true_and, decide_eq_true_iff]; omega
          refine ZE.null d_Uni_coupleFor_43 ?_
          refine ZE.aret d_Uni_coupleFor_44 ⟨_, rfl⟩ ?_
          rw [if_neg hcs] at k
          exact k
        · have hcs : csB D ap S i0 = true := by unfold csB; rw [hcf, Bool.true_and, decide_eq_true_iff]; omega
          refine ZE.aload_n d_Uni_coupleFor_39 rfl ?_
          refine ZE.goto (tgt := 44) d_Uni_coupleFor_40 rfl ?_
          refine ZE.aret d_Uni_coupleFor_44 ⟨_, rfl⟩ ?_
          rw [if_pos hcs] at k
          exact k
set_option maxRecDepth 20000 in
set_option maxHeartbeats 4000000 in
theorem u_indexesFor {d : Nat} {G : zG} {A : Int → Int → Int} {P : Option zV → zG → Prop}  {u : Int} (hu : uK G u) {q D : Nat} (hO : uO A u q D) {ap : Nat} (hW : uW G A u D ap) (hL : lG G A) {S : Nat} (hS7 : S < 128) (k : P (some (0, ((ix (csB D ap S) (bnd S) : Nat) : Int))) (gw G A)) : ZE (d + 3) M_Uni_indexesFor (gw G A) 0 [(2, u), (0, (S : Int)), (9, 0), (9, 0), (9, 0)] [] P := by
  have hb9 := bnd_le S hS7
  have hu0 := hu.2.1
  refine ZE.iload_n d_Uni_indexesFor_0 rfl ?_
  refine ZE.cS [(0, (S : Int))] [] [(0, (S : Int))] d_Uni_indexesFor_1 l_Uni_87 rfl rfl rfl rfl rfl rfl ?_
  refine p_boundOf hS7 hL ?_
  show ZE (d + 3) M_Uni_indexesFor (gw G A) 4 [(2, u), (0, (S : Int)), (9, 0), (9, 0), (9, 0)] [(0, (bnd S : Int))] _
  refine ZE.istore_n (ls2 := [(2, u), (0, (S : Int)), (0, (bnd S : Int)), (9, 0), (9, 0)]) d_Uni_indexesFor_4 (Nat.le_of_ble_eq_true rfl) rfl ?_
  refine ZE.iconst (n := 0) d_Uni_indexesFor_5 ?_
  refine ZE.istore_n (ls2 := [(2, u), (0, (S : Int)), (0, (bnd S : Int)), (0, 0), (9, 0)]) d_Uni_indexesFor_6 (Nat.le_of_ble_eq_true rfl) rfl ?_
  refine ZE.iconst (n := 1) d_Uni_indexesFor_7 ?_
  refine ZE.istore (ls2 := [(2, u), (0, (S : Int)), (0, (bnd S : Int)), (0, 0), (0, 1)]) d_Uni_indexesFor_8 (Nat.le_of_ble_eq_true rfl) rfl ?_
  have L10 : ∀ (tt0 : Nat) (j : Nat) (hj : j ≤ bnd S), bnd S - j < tt0 → ZE (d + 3) M_Uni_indexesFor (gw G A) 10 [(2, u), (0, (S : Int)), (0, (bnd S : Int)), (0, ((ix (csB D ap S) j : Nat) : Int)), (0, (j : Int) + 1)] [] P := by
    intro tt0
    induction tt0 with
    | zero => intro j hj hm; exact absurd hm (Nat.not_lt_zero _)
    | succ tt0 ih =>
      intro j hj hm
      have hil := ix_lt (g := csB D ap S) j
      have hp9 : 2 ^ j ≤ 2 ^ 9 := Nat.pow_le_pow_right (by omega) (by omega)
      have hpz : 2 ^ 9 < 2 ^ 31 := by decide
      refine ZE.iload d_Uni_indexesFor_10 rfl ?_
      refine ZE.iload_n d_Uni_indexesFor_12 rfl ?_
      refine ZE.icmp_gt (tgt := 45) d_Uni_indexesFor_13 rfl (by unfold zR; omega) (by unfold zR; omega) (fun c13 => ?_) (fun c13 => ?_)
      · refine ZE.iload_n d_Uni_indexesFor_45 rfl ?_
        refine ZE.iret d_Uni_indexesFor_46 rfl ?_
        rw [show bnd S = j by omega] at k
        exact k
      · refine ZE.iload_n d_Uni_indexesFor_16 rfl ?_
        refine ZE.aload_n d_Uni_indexesFor_17 rfl ?_
        refine ZE.iload d_Uni_indexesFor_18 rfl ?_
        refine ZE.iload_n d_Uni_indexesFor_20 rfl ?_
        rw [show (j : Int) + 1 = ((j + 1 : Nat) : Int) by omega]
        refine ZE.cV [(0, (j : Int) + 1), (0, (S : Int))] [(0, ((ix (csB D ap S) j : Nat) : Int))] [(2, u), (0, (j : Int) + 1), (0, (S : Int)), (9, 0)] d_Uni_indexesFor_21 l_Uni_90 rfl rfl rfl rfl rfl rfl hu.1 ?_
        refine u_coupleFor hu hO hW hS7 (i0 := j + 1) (by omega) ?_
        show ZE (d + 3) M_Uni_indexesFor (gw G A) 24 [(2, u), (0, (S : Int)), (0, (bnd S : Int)), (0, ((ix (csB D ap S) j : Nat) : Int)), (0, (j : Int) + 1)] [(2, if csB D ap S (j + 1) = true then A (u + 8) ((j + 1 : Nat) : Int) else -1), (0, ((ix (csB D ap S) j : Nat) : Int))] _
        refine ZE.ifnull (tgt := 36) d_Uni_indexesFor_24 rfl  (fun c24 => ?_) (fun c24 => ?_)
        · have hcs : ¬ csB D ap S (j + 1) = true := fun q => by
            rw [if_pos q] at c24
            have hcf : cfB D ap (j + 1) = true := by unfold csB at q; rw [Bool.and_eq_true] at q; exact q.1
            have := ((hW (j + 1) (by omega) (by omega)).2.2.2.1 hcf).1
            omega
          refine ZE.iconst (n := 0) d_Uni_indexesFor_36 ?_
          refine ZE.ior d_Uni_indexesFor_37 ?_
          rw [show (zor ((ix (csB D ap S) j : Nat) : Int) 0 : Int) = ((ix (csB D ap S) (j + 1) : Nat) : Int) from (by show zor (((ix (csB D ap S) j : Nat) : Int)) ((0 : Nat) : Int) = ((if csB D ap S (j + 1) = true then ix (csB D ap S) j ||| 2 ^ j else ix (csB D ap S) j : Nat) : Int); rw [if_neg hcs, zor_nat (by omega) (by omega), Nat.or_zero])]
          refine ZE.istore_n (ls2 := [(2, u), (0, (S : Int)), (0, (bnd S : Int)), (0, ((ix (csB D ap S) (j + 1) : Nat) : Int)), (0, (j : Int) + 1)]) d_Uni_indexesFor_38 (Nat.le_of_ble_eq_true rfl) rfl ?_
          refine ZE.iinc (ls2 := [(2, u), (0, (S : Int)), (0, (bnd S : Int)), (0, ((ix (csB D ap S) (j + 1) : Nat) : Int)), (0, ((j : Int) + 1) + 1)]) d_Uni_indexesFor_39 rfl rfl ?_
          refine ZE.goto (tgt := 10) d_Uni_indexesFor_42 rfl ?_
          rw [show (j : Int) + 1 + 1 = ((j + 1 : Nat) : Int) + 1 by omega]
          exact ih (j + 1) (by omega) (by omega)
        · have hcs : csB D ap S (j + 1) = true := by
            by_cases q : csB D ap S (j + 1) = true
            · exact q
            · rw [if_neg q] at c24; omega
          have hp9 : 2 ^ j ≤ 2 ^ 9 := Nat.pow_le_pow_right (by omega) (by omega)
          refine ZE.iconst (n := 1) d_Uni_indexesFor_27 ?_
          refine ZE.iload d_Uni_indexesFor_28 rfl ?_
          refine ZE.iconst (n := 1) d_Uni_indexesFor_30 ?_
          refine ZE.isub d_Uni_indexesFor_31 ?_
          rw [show (((j : Int) + 1) - 1 : Int) = (j : Int) from (by omega)]
          refine ZE.ishl d_Uni_indexesFor_32 ?_
          rw [show (zshl 1 (j : Int) : Int) = ((2 ^ j : Nat) : Int) from (by have := zshl_nat (a := 1) (k := j) (by omega) (by omega); rw [Nat.one_mul] at this; exact this)]
          refine ZE.goto (tgt := 37) d_Uni_indexesFor_33 rfl ?_
          refine ZE.ior d_Uni_indexesFor_37 ?_
          rw [show (zor ((ix (csB D ap S) j : Nat) : Int) ((2 ^ j : Nat) : Int) : Int) = ((ix (csB D ap S) (j + 1) : Nat) : Int) from (by show _ = ((if csB D ap S (j + 1) = true then ix (csB D ap S) j ||| 2 ^ j else ix (csB D ap S) j : Nat) : Int); rw [if_pos hcs]; exact zor_nat (by omega) (by omega))]
          refine ZE.istore_n (ls2 := [(2, u), (0, (S : Int)), (0, (bnd S : Int)), (0, ((ix (csB D ap S) (j + 1) : Nat) : Int)), (0, (j : Int) + 1)]) d_Uni_indexesFor_38 (Nat.le_of_ble_eq_true rfl) rfl ?_
          refine ZE.iinc (ls2 := [(2, u), (0, (S : Int)), (0, (bnd S : Int)), (0, ((ix (csB D ap S) (j + 1) : Nat) : Int)), (0, ((j : Int) + 1) + 1)]) d_Uni_indexesFor_39 rfl rfl ?_
          refine ZE.goto (tgt := 10) d_Uni_indexesFor_42 rfl ?_
          rw [show (j : Int) + 1 + 1 = ((j + 1 : Nat) : Int) + 1 by omega]
          exact ih (j + 1) (by omega) (by omega)
  exact L10 _ 0 (by omega) (Nat.lt_succ_self _)
set_option maxRecDepth 20000 in
set_option maxHeartbeats 4000000 in
theorem u_witnessFor {d : Nat} {G : zG} {A : Int → Int → Int} {P : Option zV → zG → Prop}  {u : Int} (hu : uK G u) {q D : Nat} (hO : uO A u q D) (hW : uW G A u D 1) (hL : lG G A) (h1 : frD D) {S : Nat} (hS7 : S < 128) {i0 : Nat} (hi : 1 ≤ i0 ∧ i0 ≤ 9) (hod : xp (ux D) i0 % 2 = 1) (k : ∀ A2, (A2 = A ∨ A2 = up2 A (u + 7) i0 (gdA (nvU D 1 i0) 7 161)) → P (some (0, wtU D 1 S i0)) (gw G A2)) : ZE (d + 4) M_Uni_witnessFor (gw G A) 0 [(2, u), (0, (i0 : Int)), (0, (S : Int)), (9, 0)] [] P := by
  have hw := hW i0 hi.1 hi.2
  have hmd := mdU_lt D 1 i0
  have hat := andn_tab _ hmd S hS7
  have hu0 := hu.2.1
  have hgR := gdA_R (nvU D 1 i0) 161 7 (by omega)
  obtain ⟨by1, hby⟩ : ∃ by1, by1 = A (u + 7) (i0 : Int) := ⟨_, rfl⟩
  refine ZE.iload_n d_Uni_witnessFor_0 rfl ?_
  refine ZE.iconst (n := 1) d_Uni_witnessFor_1 ?_
  refine ZE.icmp_lt (tgt := 23) d_Uni_witnessFor_2 rfl (by unfold zR; omega) (by unfold zR; omega) (fun c2 => ?_) (fun c2 => ?_)
  · exact absurd c2 (by omega)
  · refine ZE.iload_n d_Uni_witnessFor_5 rfl ?_
    refine ZE.aload_n d_Uni_witnessFor_6 rfl ?_
    refine ZE.getE (v := u + 7) d_Uni_witnessFor_7 f_Uni_30 (tg := 2) rfl hu.1 hO.2.2.2.2.2.2.2.2.1 ?_
    refine ZE.alenE (v := 10) d_Uni_witnessFor_10 (by have hk0 := hu.2.2.2.2.2.2.1.1; show 1 ≤ gk G (u + 7) ∧ gk G (u + 7) ≤ 6; omega) hu.2.2.2.2.2.2.1.2 ?_
    refine ZE.icmp_ge (tgt := 23) d_Uni_witnessFor_11 rfl (by unfold zR; omega) (by unfold zR; omega) (fun c11 => ?_) (fun c11 => ?_)
    · exact absurd c11 (by omega)
    · refine ZE.iload_n d_Uni_witnessFor_14 rfl ?_
      refine ZE.aload_n d_Uni_witnessFor_15 rfl ?_
      refine ZE.getE (v := u + 6) d_Uni_witnessFor_16 f_Uni_27 (tg := 2) rfl hu.1 hO.2.2.2.2.2.2.2.1 ?_
      refine ZE.alenE (v := 10) d_Uni_witnessFor_19 (by have hk0 := hu.2.2.2.2.2.1.1; show 1 ≤ gk G (u + 6) ∧ gk G (u + 6) ≤ 6; omega) hu.2.2.2.2.2.1.2 ?_
      refine ZE.icmp_lt (tgt := 25) d_Uni_witnessFor_20 rfl (by unfold zR; omega) (by unfold zR; omega) (fun c20 => ?_) (fun c20 => ?_)
      · refine ZE.aload_n d_Uni_witnessFor_25 rfl ?_
        refine ZE.getE (v := u + 6) d_Uni_witnessFor_26 f_Uni_27 (tg := 2) rfl hu.1 hO.2.2.2.2.2.2.2.1 ?_
        refine ZE.iload_n d_Uni_witnessFor_29 rfl ?_
        refine ZE.ialdE (v := (mdU D 1 i0 : Int)) d_Uni_witnessFor_30 hu.2.2.2.2.2.1.1 (by have hn0 := hu.2.2.2.2.2.1.2; show 0 ≤ (i0 : Int) ∧ (i0 : Int) < gn G (u + 6); omega) hw.2.1 ?_
        refine ZE.iload_n d_Uni_witnessFor_31 rfl ?_
        refine ZE.iconst (n := (-1)) d_Uni_witnessFor_32 ?_
        refine ZE.ixor d_Uni_witnessFor_33 ?_
        refine ZE.iand d_Uni_witnessFor_34 ?_
        rw [show (zand (mdU D 1 i0 : Int) (zxor (S : Int) (-1)) : Int) = ((mdU D 1 i0 &&& (127 - S) : Nat) : Int) from hat.1]
        refine ZE.istore_n (ls2 := [(2, u), (0, (i0 : Int)), (0, (S : Int)), (0, ((mdU D 1 i0 &&& (127 - S) : Nat) : Int))]) d_Uni_witnessFor_35 (Nat.le_of_ble_eq_true rfl) rfl ?_
        refine ZE.iload_n d_Uni_witnessFor_36 rfl ?_
        refine ZE.if_eq (tgt := 45) d_Uni_witnessFor_37 rfl (by unfold zR; omega) (fun c37 => ?_) (fun c37 => ?_)
        · refine ZE.aload_n d_Uni_witnessFor_45 rfl ?_
          refine ZE.iload_n d_Uni_witnessFor_46 rfl ?_
          refine ZE.iload_n d_Uni_witnessFor_47 rfl ?_
          refine ZE.cV [(0, (i0 : Int)), (0, (S : Int))] [] [(2, u), (0, (i0 : Int)), (0, (S : Int)), (9, 0)] d_Uni_witnessFor_48 l_Uni_90 rfl rfl rfl rfl rfl rfl hu.1 ?_
          refine u_coupleFor hu hO hW hS7 (i0 := i0) hi ?_
          show ZE (d + 4) M_Uni_witnessFor (gw G A) 51 [(2, u), (0, (i0 : Int)), (0, (S : Int)), (0, ((mdU D 1 i0 &&& (127 - S) : Nat) : Int))] [(2, if csB D 1 S i0 = true then A (u + 8) i0 else -1)] _
          refine ZE.ifnull (tgt := 56) d_Uni_witnessFor_51 rfl  (fun c51 => ?_) (fun c51 => ?_)
          · have hcf : ¬ cfB D 1 i0 = true := fun q => by
              have q2 : csB D 1 S i0 = true := by unfold csB; rw [q, Bool.true_and, decide_eq_true_iff]; omega
              rw [if_pos q2] at c51
              have := (hw.2.2.2.1 q).1
              omega
            have hwt : wtU D 1 S i0 = gdA (nvU D 1 i0) 7 161 := by unfold wtU; rw [if_pos (by omega), if_neg hcf]
            refine ZE.aload_n d_Uni_witnessFor_56 rfl ?_
            refine ZE.getE (v := u + 7) d_Uni_witnessFor_57 f_Uni_30 (tg := 2) rfl hu.1 hO.2.2.2.2.2.2.2.2.1 ?_
            refine ZE.iload_n d_Uni_witnessFor_60 rfl ?_
            refine ZE.ialdE (v := by1) d_Uni_witnessFor_61 hu.2.2.2.2.2.2.1.1 (by have hn0 := hu.2.2.2.2.2.2.1.2; show 0 ≤ (i0 : Int) ∧ (i0 : Int) < gn G (u + 7); omega) hby.symm ?_
            refine ZE.if_ne (tgt := 76) d_Uni_witnessFor_62 rfl (by unfold zR; omega) (fun c62 => ?_) (fun c62 => ?_)
            · refine ZE.aload_n d_Uni_witnessFor_76 rfl ?_
              refine ZE.getE (v := u + 7) d_Uni_witnessFor_77 f_Uni_30 (tg := 2) rfl hu.1 hO.2.2.2.2.2.2.2.2.1 ?_
              refine ZE.iload_n d_Uni_witnessFor_80 rfl ?_
              refine ZE.ialdE (v := gdA (nvU D 1 i0) 7 161) d_Uni_witnessFor_81 hu.2.2.2.2.2.2.1.1 (by have hn0 := hu.2.2.2.2.2.2.1.2; show 0 ≤ (i0 : Int) ∧ (i0 : Int) < gn G (u + 7); omega) (by show A (u + 7) (i0 : Int) = _; rcases hw.2.2.1 with q | q <;> omega) ?_
              refine ZE.iret d_Uni_witnessFor_82 rfl ?_
              rw [hwt] at k
              exact k _ (Or.inl rfl)
            · refine ZE.aload_n d_Uni_witnessFor_65 rfl ?_
              refine ZE.getE (v := u + 7) d_Uni_witnessFor_66 f_Uni_30 (tg := 2) rfl hu.1 hO.2.2.2.2.2.2.2.2.1 ?_
              refine ZE.iload_n d_Uni_witnessFor_69 rfl ?_
              refine ZE.aload_n d_Uni_witnessFor_70 rfl ?_
              refine ZE.iload_n d_Uni_witnessFor_71 rfl ?_
              refine ZE.cV [(0, (i0 : Int))] [(0, (i0 : Int)), (2, u + 7)] [(2, u), (0, (i0 : Int)), (9, 0), (9, 0), (9, 0)] d_Uni_witnessFor_72 l_Uni_97 rfl rfl rfl rfl rfl rfl hu.1 ?_
              refine u_greaterDivisor hu hO hL h1 (i0 := i0) (by omega) hod ?_
              show ZE (d + 4) M_Uni_witnessFor (gw G A) 75 [(2, u), (0, (i0 : Int)), (0, (S : Int)), (0, ((mdU D 1 i0 &&& (127 - S) : Nat) : Int))] [(0, gdA (nvU D 1 i0) 7 161), (0, (i0 : Int)), (2, u + 7)] _
              refine ZE.iast d_Uni_witnessFor_75 hu.2.2.2.2.2.2.1.1 (by have hn0 := hu.2.2.2.2.2.2.1.2; show 0 ≤ (i0 : Int) ∧ (i0 : Int) < gn G (u + 7); omega) ?_
              show ZE (d + 4) M_Uni_witnessFor (gw G (up2 A (u + 7) (i0 : Int) (gdA (nvU D 1 i0) 7 161))) 76 [(2, u), (0, (i0 : Int)), (0, (S : Int)), (0, ((mdU D 1 i0 &&& (127 - S) : Nat) : Int))] [] _
              refine ZE.aload_n d_Uni_witnessFor_76 rfl ?_
              refine ZE.getE (v := u + 7) d_Uni_witnessFor_77 f_Uni_30 (tg := 2) rfl hu.1 ((up2_ne _ _ (by omega)).trans hO.2.2.2.2.2.2.2.2.1) ?_
              refine ZE.iload_n d_Uni_witnessFor_80 rfl ?_
              refine ZE.ialdE (v := gdA (nvU D 1 i0) 7 161) d_Uni_witnessFor_81 hu.2.2.2.2.2.2.1.1 (by have hn0 := hu.2.2.2.2.2.2.1.2; show 0 ≤ (i0 : Int) ∧ (i0 : Int) < gn G (u + 7); omega) (up2_at _ _ _ _) ?_
              refine ZE.iret d_Uni_witnessFor_82 rfl ?_
              rw [hwt] at k
              exact k _ (Or.inr rfl)
          · have hcs : csB D 1 S i0 = true := by
              by_cases q : csB D 1 S i0 = true
              · exact q
              · rw [if_neg q] at c51; omega
            have hcf : cfB D 1 i0 = true := by unfold csB at hcs; rw [Bool.and_eq_true] at hcs; exact hcs.1
            have hwt : wtU D 1 S i0 = 0 := by unfold wtU; rw [if_pos (by omega), if_pos hcf]
            refine ZE.iconst (n := 0) d_Uni_witnessFor_54 ?_
            refine ZE.iret d_Uni_witnessFor_55 rfl ?_
            rw [hwt] at k
            exact k _ (Or.inl rfl)
        · have hwt : wtU D 1 S i0 = lsF (mdU D 1 i0 &&& (127 - S)) 0 7 := by unfold wtU; rw [if_neg (by omega)]
          refine ZE.iload_n d_Uni_witnessFor_40 rfl ?_
          refine ZE.cS [(0, ((mdU D 1 i0 &&& (127 - S) : Nat) : Int))] [] [(0, ((mdU D 1 i0 &&& (127 - S) : Nat) : Int)), (9, 0)] d_Uni_witnessFor_41 l_Uni_94 rfl rfl rfl rfl rfl rfl ?_
          refine p_leastOf hat.2 hL ?_
          show ZE (d + 4) M_Uni_witnessFor (gw G A) 44 [(2, u), (0, (i0 : Int)), (0, (S : Int)), (0, ((mdU D 1 i0 &&& (127 - S) : Nat) : Int))] [(0, lsF (mdU D 1 i0 &&& (127 - S)) 0 7)] _
          refine ZE.iret d_Uni_witnessFor_44 rfl ?_
          rw [hwt] at k
          exact k _ (Or.inl rfl)
      · exact absurd c20 (by omega)
