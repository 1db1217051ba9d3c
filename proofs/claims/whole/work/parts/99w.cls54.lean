def mI (A A1 : Int → Int → Int) (h : Int) (S k v : Nat) (st : Int) (w t : Nat → Nat) : Prop := (sQ S w k v ∧ 1 ≤ v ∧ v ≤ 200001 ∧ (k = 0 → v = 1) ∧ (1 ≤ k → w 0 = 1) ∧ (v ≤ 200000 → smB S v = true ∧ st = (mb v : Int) ∧ tJ S w k v t ∧ ∀ p, p < 7 → t p ≤ k)) ∧ (mV A1 h w k ∧ ∀ p : Nat, p < 7 → A1 (h + 3) p = (t p : Int)) ∧ (A1 h 5 = 0 ∧ A1 h 6 = (S : Int) ∧ A1 h 7 = (k : Int) ∧ ∀ i : Int, i ≤ 4 → A1 h i = A h i) ∧ (∀ a : Int, (a < h ∨ h + 3 < a) → A1 a = A a)
def smsO (A : Int → Int → Int) (h : Int) (S : Nat) : Prop := A h 5 = 0 ∨ (A h 5 = 1 ∧ ∀ u : Nat, u ≤ 3000 → A (h + 4) u = ssV S u 0 ∧ A (h + 5) u = ssV S u 1)
def mS (A : Int → Int → Int) (h : Int) (S : Nat) (w : Nat → Nat) (M : Nat) : Prop := mF A h ∧ A h 6 = (S : Int) ∧ A h 7 = (M : Int) ∧ SL S w M ∧ mV A h w M ∧ smsO A h S
theorem SL.le {S : Nat} {w : Nat → Nat} {M : Nat} (h : SL S w M) {j : Nat} (hj : j < M) : 1 ≤ w j ∧ w j ≤ 200000 ∧ smB S (w j) = true := by
  have := h.2.2.2.2.1 j hj
  exact ⟨this.2.1, by omega, this.1⟩
theorem SL.inc {S : Nat} {w : Nat → Nat} {M : Nat} (h : SL S w M) {i j : Nat} (hij : i < j) (hj : j < M) : w i < w j := h.2.2.2.1 i j hij hj
/-- the step: one number more is kept -/
theorem mI_next {A A1 A2 B : Int → Int → Int} {h : Int} {S k v : Nat} {st : Int} {w t : Nat → Nat} (hI : mI A A1 h S k v st w t) (hv : v ≤ 200000) (e1 : ∀ a : Int, a ≠ h → a ≠ h + 1 → a ≠ h + 2 → A2 a = A1 a) (e2 : ∀ i : Int, i ≠ 7 → A2 h i = A1 h i) (e3 : A2 h 7 = (k : Int) + 1) (e4 : ∀ j : Int, A2 (h + 1) j = if j = k then (v : Int) else A1 (h + 1) j) (e5 : ∀ j : Int, A2 (h + 2) j = if j = k then st else A1 (h + 2) j) (f1 : ∀ a : Int, a ≠ h + 3 → B a = A2 a)
    (f2 : ∀ q : Nat, q < 7 → B (h + 3) q = (tnF S (fun j => if j = k then v else w j) t (lqF S (fun j => if j = k then v else w j) t 7) q : Int)) : mI A B h S (k + 1) (lqF S (fun j => if j = k then v else w j) t 7) (tsF S (fun j => if j = k then v else w j) t (lqF S (fun j => if j = k then v else w j) t 7) 7 : Nat) (fun j => if j = k then v else w j) (tnF S (fun j => if j = k then v else w j) t (lqF S (fun j => if j = k then v else w j) t 7)) := by
  obtain ⟨⟨i1, i2, i3, i4, i5, i6⟩, ⟨i7, i8⟩, ⟨i9, i10, i11, i12⟩, i13⟩ := hI
  obtain ⟨j1, j2, j3, j4⟩ := i6 hv
  have hw : ∀ j, j < k → (fun j => if j = k then v else w j) j = w j := fun j hj => if_neg (by omega)
  have hwk : (fun j => if j = k then v else w j) k = v := if_pos rfl
  obtain ⟨w2, hw2⟩ : ∃ w2 : Nat → Nat, w2 = fun j => if j = k then v else w j := ⟨_, rfl⟩
  rw [← hw2] at hw hwk f2 ⊢
  obtain ⟨n1, n2, n3, n4, n5, n6⟩ := sQ_next i1 hv i2 j1 j3 j4 hw hwk
  refine ⟨⟨n5, by omega, n2, fun z => by omega, fun _ => ?_, fun hL => ⟨n3 hL, by rw [(n6 hL).2], (n6 hL).1, fun p hp => ?_⟩⟩, ⟨fun j hj => ?_, f2⟩, ⟨?_, ?_, ?_, fun i hi => ?_⟩, fun a ha => ?_⟩
  · rcases Nat.eq_zero_or_pos k with z | z
    · rw [← i4 z, ← hwk, z]
    · rw [hw 0 z]; exact i5 z
  · have := j4 p hp
    unfold tnF
    split <;> omega
  · rw [f1 (h + 1) (by omega), f1 (h + 2) (by omega), e4, e5]
    by_cases z : j = k
    · subst z
      rw [if_pos rfl, if_pos rfl, hwk]
      exact ⟨rfl, j2⟩
    · rw [if_neg (by omega), if_neg (by omega), hw j (by omega)]
      exact i7 j (by omega)
  · rw [f1 h (by omega), e2 5 (by omega)]; exact i9
  · rw [f1 h (by omega), e2 6 (by omega)]; exact i10
  · rw [f1 h (by omega), e3]; omega
  · rw [f1 h (by omega), e2 i (by omega)]; exact i12 i hi
  · rw [f1 a (by omega), e1 a (by omega) (by omega) (by omega)]; exact i13 a ha
theorem mI_end {A A1 : Int → Int → Int} {h : Int} {S k v : Nat} {st : Int} {w t : Nat → Nat} (hI : mI A A1 h S k v st w t) (hF : mF A h) (hk : k ≤ 1600) (hv : 200000 < v) : mS A1 h S w k := by
  obtain ⟨⟨i1, i2, i3, i4, i5, i6⟩, ⟨i7, i8⟩, ⟨i9, i10, i11, i12⟩, i13⟩ := hI
  have hk1 : 1 ≤ k := by
    rcases Nat.eq_zero_or_pos k with z | z
    · have := i4 z; omega
    · exact z
  have : v = 200001 := by omega
  subst this
  exact ⟨hF.ab i12, i10, i11, ⟨hk1, hk, i5 hk1, i1⟩, i7, Or.inl i9⟩
theorem mI_stop {A A1 : Int → Int → Int} {h : Int} {S k v : Nat} {st : Int} {w t : Nat → Nat} (hI : mI A A1 h S k v st w t) (hS : S < 128) (hp : pop S ≤ 5) (hv : v ≤ 200000) : k < 1600 := by
  obtain ⟨⟨i1, i2, i3, i4, i5, i6⟩, -, -, -⟩ := hI
  obtain ⟨j1, j2, j3, j4⟩ := i6 hv
  have n4 := (sQ_next (w2 := fun j => if j = k then v else w j) i1 hv i2 j1 j3 j4 (fun j hj => if_neg (by omega)) (if_pos rfl)).2.2.2.1
  have := sQ_1600 hS hp n4 hv (fun i hi => by
    have h9 : (if i = k then v else w i) < v + 1 := (n4.2.1 i hi).2.2
    show (if i = k then v else w i) ≤ v
    omega)
  omega
theorem sQ_0 {S : Nat} {w : Nat → Nat} : sQ S w 0 1 := ⟨fun i j _ h => absurd h (Nat.not_lt_zero _), fun j h => absurd h (Nat.not_lt_zero _), fun n h1 h2 => by omega⟩
set_option maxRecDepth 20000 in
set_option maxHeartbeats 4000000 in
theorem m_fillN {d : Nat} {G : zG} {A : Int → Int → Int} {P : Option zV → zG → Prop} {h : Int} (hK : mK G h) (hF : mF A h) (hL : lG G A) (hgl : gl G < h) {S : Nat} (hS7 : S < 128) (hp5 : pop S ≤ 5) (k : ∀ B (w : Nat → Nat) (M : Nat), mS B h S w M → (∀ a : Int, (a < h ∨ h + 3 < a) → B a = A a) → P (some (2, h)) (gw G B)) : ZE (d + 3) M_Smo_fill (gw G A) 10 [(2, h), (0, (S : Int)), (9, 0), (9, 0), (9, 0)] [] P := by
  have hh0 := hK.2.1
  refine ZE.aload_n d_Smo_fill_10 rfl ?_
  refine ZE.iload_n d_Smo_fill_11 rfl ?_
  refine ZE.put d_Smo_fill_12 f_Smo_29 (tg := 0) rfl trivial (Or.inl ⟨_, _, _, rfl, rfl, rfl⟩) hK.1 ?_
  show ZE (d + 3) M_Smo_fill (gw G (up2 A h 6 (S : Int))) 15 [(2, h), (0, (S : Int)), (9, 0), (9, 0), (9, 0)] [] _
  refine ZE.aload_n d_Smo_fill_15 rfl ?_
  refine ZE.iconst (n := 0) d_Smo_fill_16 ?_
  refine ZE.put d_Smo_fill_17 f_Smo_33 (tg := 0) rfl (show zFit (zTy 7 5) 0 from Or.inl rfl) (Or.inl ⟨_, _, _, rfl, rfl, rfl⟩) hK.1 ?_
  show ZE (d + 3) M_Smo_fill (gw G (up2 (up2 A h 6 (S : Int)) h 5 0)) 20 [(2, h), (0, (S : Int)), (9, 0), (9, 0), (9, 0)] [] _
  refine ZE.aload_n d_Smo_fill_20 rfl ?_
  refine ZE.getE (v := h + 3) d_Smo_fill_21 f_Smo_20 (tg := 2) rfl hK.1 ((up2_ne _ _ (by omega)).trans ((up2_ne _ _ (by omega)).trans hF.2.2.1)) ?_
  refine ZE.iconst (n := 0) d_Smo_fill_24 ?_
  refine ZE.cS [(2, h + 3), (0, 0)] [] [(2, h + 3), (0, 0), (9, 0), (9, 0)] d_Smo_fill_25 l_Smo_37 rfl rfl rfl rfl rfl rfl ?_
  refine j_fill (d := d + 2) hK.2.2.2.2.1.1 hK.2.2.2.2.1.2 (len := 7) (by omega) (x1 := 0) (fun A0 g0 f0 => ?_)
  show ZE (d + 3) M_Smo_fill (gw G A0) 28 [(2, h), (0, (S : Int)), (9, 0), (9, 0), (9, 0)] [] _
  refine ZE.aload_n d_Smo_fill_28 rfl ?_
  refine ZE.iconst (n := 0) d_Smo_fill_29 ?_
  refine ZE.put d_Smo_fill_30 f_Smo_43 (tg := 0) rfl trivial (Or.inl ⟨_, _, _, rfl, rfl, rfl⟩) hK.1 ?_
  show ZE (d + 3) M_Smo_fill (gw G (up2 A0 h 7 0)) 33 [(2, h), (0, (S : Int)), (9, 0), (9, 0), (9, 0)] [] _
  refine ZE.iconst (n := 1) d_Smo_fill_33 ?_
  refine ZE.istore_n (ls2 := [(2, h), (0, (S : Int)), (0, 1), (9, 0), (9, 0)]) d_Smo_fill_34 (Nat.le_of_ble_eq_true rfl) rfl ?_
  refine ZE.iconst (n := 0) d_Smo_fill_35 ?_
  refine ZE.istore_n (ls2 := [(2, h), (0, (S : Int)), (0, 1), (0, 0), (9, 0)]) d_Smo_fill_36 (Nat.le_of_ble_eq_true rfl) rfl ?_
  refine ZE.iconst (n := 0) d_Smo_fill_37 ?_
  refine ZE.istore (ls2 := [(2, h), (0, (S : Int)), (0, 1), (0, 0), (0, 0)]) d_Smo_fill_38 (Nat.le_of_ble_eq_true rfl) rfl ?_
  have hI0 : mI A (up2 A0 h 7 0) h S 0 1 0 (fun _ => 0) (fun _ => 0) := by
    have r0 : ∀ a : Int, a ≠ h → a ≠ h + 3 → up2 A0 h 7 0 a = A a := fun a h1 h2 => by rw [up2_A, upA_ne _ _ h1, g0 a h2, up2_A, upA_ne _ _ h1, up2_A, upA_ne _ _ h1]
    refine ⟨⟨sQ_0, by omega, by omega, fun _ => rfl, fun z => by omega, fun _ => ⟨smB_one S, by decide +kernel, fun p hp hb => ⟨fun j hj => absurd hj (Nat.not_lt_zero _), fun hj => absurd hj (Nat.not_lt_zero _)⟩, fun p hp => Nat.zero_le _⟩⟩, ⟨fun j hj => absurd hj (Nat.not_lt_zero _), fun p hp => ?_⟩, ⟨?_, ?_, up2_at _ _ _ _, fun i hi => ?_⟩, fun a ha => r0 a (by omega) (by omega)⟩
    · rw [up2_ne _ _ (by omega)]; exact f0 p hp
    · rw [up2_ne _ _ (by omega), g0 h (by omega), up2_at]
    · rw [up2_ne _ _ (by omega), g0 h (by omega), up2_ne _ _ (by omega), up2_at]
    · rw [up2_ne _ _ (by omega), g0 h (by omega), up2_ne _ _ (by omega), up2_ne _ _ (by omega)]
  have L40 : ∀ (tt0 : Nat) (k0 : Nat) (v : Nat) (st : Int) (w : Nat → Nat) (t : Nat → Nat) (A1 : Int → Int → Int) (hk : k0 ≤ 1600) (hI : mI A A1 h S k0 v st w t), 1601 - k0 < tt0 → ZE (d + 3) M_Smo_fill (gw G A1) 40 [(2, h), (0, (S : Int)), (0, (v : Int)), (0, st), (0, (k0 : Int))] [] P := by
    intro tt0
    induction tt0 with
    | zero => intro k0 v st w t A1 hk hI hm; exact absurd hm (Nat.not_lt_zero _)
    | succ tt0 ih =>
      intro k0 v st w t A1 hk hI hm
      obtain ⟨⟨i1, i2, i3, i4, i5, i6⟩, ⟨i7, i8⟩, ⟨i9, i10, i11, i12⟩, i13⟩ := id hI
      have hF1 : mF A1 h := hF.ab i12
      refine ZE.iload d_Smo_fill_40 rfl ?_
      refine ZE.sipush (n := 1600) d_Smo_fill_42 rfl ?_
      refine ZE.icmp_ge (tgt := 95) d_Smo_fill_45 rfl (by unfold zR; omega) (by unfold zR; omega) (fun c45 => ?_) (fun c45 => ?_)
      · refine ZE.aload_n d_Smo_fill_95 rfl ?_
        refine ZE.aret d_Smo_fill_96 ⟨_, rfl⟩ ?_
        have hv2k : 200000 < v := by
          rcases Nat.lt_or_ge 200000 v with z | z
          · exact z
          · have := mI_stop hI hS7 hp5 z; omega
        exact k A1 w k0 (mI_end hI hF hk hv2k) (fun a ha => i13 a ha)
      · refine ZE.iload_n d_Smo_fill_48 rfl ?_
        refine ZE.ldc (v := 200000) d_Smo_fill_49 k_Smo_46 ?_
        refine ZE.icmp_gt (tgt := 95) d_Smo_fill_51 rfl (by unfold zR; omega) (by unfold zR; omega) (fun c51 => ?_) (fun c51 => ?_)
        · refine ZE.aload_n d_Smo_fill_95 rfl ?_
          refine ZE.aret d_Smo_fill_96 ⟨_, rfl⟩ ?_
          have hv2k : 200000 < v := by
            rcases Nat.lt_or_ge 200000 v with z | z
            · exact z
            · have := mI_stop hI hS7 hp5 z; omega
          exact k A1 w k0 (mI_end hI hF hk hv2k) (fun a ha => i13 a ha)
        · refine ZE.aload_n d_Smo_fill_54 rfl ?_
          refine ZE.getE (v := h + 1) d_Smo_fill_55 f_Smo_11 (tg := 2) rfl hK.1 hF1.1 ?_
          refine ZE.iload d_Smo_fill_58 rfl ?_
          refine ZE.iload_n d_Smo_fill_60 rfl ?_
          refine ZE.iast d_Smo_fill_61 hK.2.2.1.1 (by have hn0 := hK.2.2.1.2; show 0 ≤ (k0 : Int) ∧ (k0 : Int) < gn G (h + 1); omega) ?_
          show ZE (d + 3) M_Smo_fill (gw G (up2 A1 (h + 1) (k0 : Int) (v : Int))) 62 [(2, h), (0, (S : Int)), (0, (v : Int)), (0, st), (0, (k0 : Int))] [] _
          refine ZE.aload_n d_Smo_fill_62 rfl ?_
          refine ZE.getE (v := h + 2) d_Smo_fill_63 f_Smo_15 (tg := 2) rfl hK.1 ((up2_ne _ _ (by omega)).trans hF1.2.1) ?_
          refine ZE.iload d_Smo_fill_66 rfl ?_
          refine ZE.iload_n d_Smo_fill_68 rfl ?_
          refine ZE.iast d_Smo_fill_69 hK.2.2.2.1.1 (by have hn0 := hK.2.2.2.1.2; show 0 ≤ (k0 : Int) ∧ (k0 : Int) < gn G (h + 2); omega) ?_
          show ZE (d + 3) M_Smo_fill (gw G (up2 (up2 A1 (h + 1) (k0 : Int) (v : Int)) (h + 2) (k0 : Int) st)) 70 [(2, h), (0, (S : Int)), (0, (v : Int)), (0, st), (0, (k0 : Int))] [] _
          refine ZE.aload_n d_Smo_fill_70 rfl ?_
          refine ZE.iload d_Smo_fill_71 rfl ?_
          refine ZE.iconst (n := 1) d_Smo_fill_73 ?_
          refine ZE.iadd d_Smo_fill_74 ?_
          refine ZE.put d_Smo_fill_75 f_Smo_43 (tg := 0) rfl trivial (Or.inl ⟨_, _, _, rfl, rfl, rfl⟩) hK.1 ?_
          show ZE (d + 3) M_Smo_fill (gw G (up2 (up2 (up2 A1 (h + 1) (k0 : Int) (v : Int)) (h + 2) (k0 : Int) st) h 7 ((k0 : Int) + 1))) 78 [(2, h), (0, (S : Int)), (0, (v : Int)), (0, st), (0, (k0 : Int))] [] _
          obtain ⟨j1, j2, j3, j4⟩ := i6 (by omega)
          have e4 : ∀ j : Int, (up2 (up2 (up2 A1 (h + 1) (k0 : Int) (v : Int)) (h + 2) (k0 : Int) st) h 7 ((k0 : Int) + 1)) (h + 1) j = if j = k0 then (v : Int) else A1 (h + 1) j := fun j => by
            rw [up2_ne _ _ (by omega), up2_ne _ _ (by omega)]
            by_cases z : j = k0
            · rw [if_pos z, z, up2_at]
            · rw [if_neg z, up2_ne _ _ (by omega)]
          have e5 : ∀ j : Int, (up2 (up2 (up2 A1 (h + 1) (k0 : Int) (v : Int)) (h + 2) (k0 : Int) st) h 7 ((k0 : Int) + 1)) (h + 2) j = if j = k0 then st else A1 (h + 2) j := fun j => by
            rw [up2_ne _ _ (by omega)]
            by_cases z : j = k0
            · rw [if_pos z, z, up2_at]
            · rw [if_neg z, up2_ne _ _ (by omega), up2_ne _ _ (by omega)]
          have hrow : ∀ a : Int, a ≠ h → a ≠ h + 1 → a ≠ h + 2 → (up2 (up2 (up2 A1 (h + 1) (k0 : Int) (v : Int)) (h + 2) (k0 : Int) st) h 7 ((k0 : Int) + 1)) a = A1 a := fun a h1 h2 h3 => by simp only [up2_A, upA_ne _ _ h1, upA_ne _ _ h2, upA_ne _ _ h3]
          have hfld : ∀ i : Int, i ≠ 7 → (up2 (up2 (up2 A1 (h + 1) (k0 : Int) (v : Int)) (h + 2) (k0 : Int) st) h 7 ((k0 : Int) + 1)) h i = A1 h i := fun i hi => by rw [up2_ne _ _ (by omega), up2_ne _ _ (by omega), up2_ne _ _ (by omega)]
          have e7 : (up2 (up2 (up2 A1 (h + 1) (k0 : Int) (v : Int)) (h + 2) (k0 : Int) st) h 7 ((k0 : Int) + 1)) h 7 = ((k0 + 1 : Nat) : Int) := (up2_at _ _ _ _).trans (by omega)
          obtain ⟨A2, hA2⟩ : ∃ A2, A2 = up2 (up2 (up2 A1 (h + 1) (k0 : Int) (v : Int)) (h + 2) (k0 : Int) st) h 7 ((k0 : Int) + 1) := ⟨_, rfl⟩
          rw [← hA2] at e4 e5 hrow hfld e7 ⊢
          have hF2 : mF A2 h := hF1.ab (fun i hi => hfld i (by omega))
          have hv2 : mV A2 h (fun j => if j = k0 then v else w j) (k0 + 1) := fun j hj => by
            rw [e4, e5]
            by_cases z : j = k0
            · subst z; rw [if_pos rfl, if_pos rfl]; show _ ∧ _ = (mb (if j = j then v else w j) : Int); rw [if_pos rfl]; exact ⟨by show (v : Int) = ((if j = j then v else w j : Nat) : Int); rw [if_pos rfl], j2⟩
            · rw [if_neg (by omega), if_neg (by omega)]; show _ = ((if j = k0 then v else w j : Nat) : Int) ∧ _ = (mb (if j = k0 then v else w j) : Int); rw [if_neg z]; exact i7 j (by omega)
          have h62 : A2 h 6 = (S : Int) := (hfld 6 (by omega)).trans i10
          have ht2 : ∀ p : Nat, p < 7 → A2 (h + 3) p = (t p : Int) := fun p hp => by rw [hrow (h + 3) (by omega) (by omega) (by omega)]; exact i8 p hp
          have hw2 : ∀ j, j < k0 + 1 → (fun j => if j = k0 then v else w j) j ≤ 200000 := fun j hj => by
            show (if j = k0 then v else w j) ≤ 200000
            split
            · omega
            · have := (i1.2.1 j (by omega)).2.2; omega
          have hL2 : lG G A2 := ⟨hL.1, hL.2.1, fun j => by have hg1 := hL.1; rw [hrow _ (fun z => by rw [z] at hg1; have := hK.1; omega) (fun z => by rw [z] at hg1; have := hK.2.2.1.1; omega) (fun z => by rw [z] at hg1; have := hK.2.2.2.1.1; omega), i13 _ (by omega)]; exact hL.2.2 j⟩
          refine ZE.aload_n d_Smo_fill_78 rfl ?_
          refine ZE.cV [] [] [(2, h), (9, 0), (9, 0)] d_Smo_fill_79 l_Smo_47 rfl rfl rfl rfl rfl rfl hK.1 ?_
          refine m_leastProduct (d := d) hK hF2 e7 (by omega) hv2 hS7 h62 hL2 ht2 (fun p hp => by have := j4 p hp; omega) hw2 ?_
          show ZE (d + 3) M_Smo_fill (gw G A2) 82 [(2, h), (0, (S : Int)), (0, (v : Int)), (0, st), (0, (k0 : Int))] [(0, ((lqF S (fun j => if j = k0 then v else w j) t 7) : Int))] _
          have hlq := (lqF_le (S := S) (w := (fun j => if j = k0 then v else w j)) (t := t) 7).1
          refine ZE.istore_n (ls2 := [(2, h), (0, (S : Int)), (0, ((lqF S (fun j => if j = k0 then v else w j) t 7) : Int)), (0, st), (0, (k0 : Int))]) d_Smo_fill_82 (Nat.le_of_ble_eq_true rfl) rfl ?_
          refine ZE.aload_n d_Smo_fill_83 rfl ?_
          refine ZE.iload_n d_Smo_fill_84 rfl ?_
          refine ZE.cV [(0, ((lqF S (fun j => if j = k0 then v else w j) t 7) : Int))] [] [(2, h), (0, ((lqF S (fun j => if j = k0 then v else w j) t 7) : Int)), (9, 0), (9, 0)] d_Smo_fill_85 l_Smo_51 rfl rfl rfl rfl rfl rfl hK.1 ?_
          refine m_takeTurns (d := d) hK hF2 e7 (by omega) hv2 hS7 h62 hL2 ht2 (fun p hp => by have := j4 p hp; omega) hw2 (L := (lqF S (fun j => if j = k0 then v else w j) t 7)) hlq (fun B f1 f2 => ?_)
          show ZE (d + 3) M_Smo_fill (gw G B) 88 [(2, h), (0, (S : Int)), (0, ((lqF S (fun j => if j = k0 then v else w j) t 7) : Int)), (0, st), (0, (k0 : Int))] [(0, ((tsF S (fun j => if j = k0 then v else w j) t (lqF S (fun j => if j = k0 then v else w j) t 7) 7 : Nat) : Int))] _
          refine ZE.istore_n (ls2 := [(2, h), (0, (S : Int)), (0, ((lqF S (fun j => if j = k0 then v else w j) t 7) : Int)), (0, ((tsF S (fun j => if j = k0 then v else w j) t (lqF S (fun j => if j = k0 then v else w j) t 7) 7 : Nat) : Int)), (0, (k0 : Int))]) d_Smo_fill_88 (Nat.le_of_ble_eq_true rfl) rfl ?_
          refine ZE.iinc (ls2 := [(2, h), (0, (S : Int)), (0, ((lqF S (fun j => if j = k0 then v else w j) t 7) : Int)), (0, ((tsF S (fun j => if j = k0 then v else w j) t (lqF S (fun j => if j = k0 then v else w j) t 7) 7 : Nat) : Int)), (0, (k0 : Int) + 1)]) d_Smo_fill_89 rfl rfl ?_
          refine ZE.goto (tgt := 40) d_Smo_fill_92 rfl ?_
          rw [show (k0 : Int) + 1 = ((k0 + 1 : Nat) : Int) by omega]
          exact ih (k0 + 1) _ _ _ _ B (by omega) (mI_next hI (by omega) hrow hfld (e7.trans (by omega)) e4 e5 f1 f2) (by omega)
  exact L40 _ 0 1 0 (fun _ => 0) (fun _ => 0) _ (by omega) hI0 (Nat.lt_succ_self _)
set_option maxRecDepth 20000 in
set_option maxHeartbeats 4000000 in
theorem m_fill {d : Nat} {G : zG} {A : Int → Int → Int} {P : Option zV → zG → Prop} {h : Int} (hK : mK G h) (hF : mF A h) (hL : lG G A) (hgl : gl G < h) {S : Nat} (hS7 : S < 128) (hp5 : pop S ≤ 5) {b0 : Int} (hb0 : A h 6 = b0) (hbR : zR b0) (hN : b0 = (S : Int) → ∃ w M, mS A h S w M) (k : ∀ B (w : Nat → Nat) (M : Nat), mS B h S w M → (∀ a : Int, (a < h ∨ h + 3 < a) → B a = A a) → P (some (2, h)) (gw G B)) : ZE (d + 3) M_Smo_fill (gw G A) 0 [(2, h), (0, (S : Int)), (9, 0), (9, 0), (9, 0)] [] P := by
  refine ZE.aload_n d_Smo_fill_0 rfl ?_
  refine ZE.getE (v := b0) d_Smo_fill_1 f_Smo_29 (tg := 0) rfl hK.1 hb0 ?_
  refine ZE.iload_n d_Smo_fill_4 rfl ?_
  refine ZE.icmp_ne (tgt := 10) d_Smo_fill_5 rfl hbR (by unfold zR; omega) (fun c5 => ?_) (fun c5 => ?_)
  · exact m_fillN hK hF hL hgl hS7 hp5 k
  · refine ZE.aload_n d_Smo_fill_8 rfl ?_
    refine ZE.aret d_Smo_fill_9 ⟨_, rfl⟩ ?_
    obtain ⟨w, M, hm⟩ := hN (by omega)
    exact k A w M hm (fun _ _ => rfl)
