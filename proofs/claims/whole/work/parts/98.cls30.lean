theorem sub_tab : ∀ k, k < 128 → ∀ S, S < 128 → (k &&& (127 - S) = 0 ↔ k &&& S = k) := by decide +kernel
def butF (ap : Nat) : Nat := if ap = 1 then 1 else 0
set_option maxRecDepth 20000 in
set_option maxHeartbeats 4000000 in
theorem s_isClassOf {d : Nat} {G : zG} {A : Int → Int → Int} {P : Option zV → zG → Prop}  {s : Int} (hK : sK G s) {ap : Nat} (hF : sF A s ap) (hap : ap = 1 ∨ ap = 2) {e1 S : Nat} (he : e1 < 128) (hS7 : S < 128) (k : P (some (0, b2i (e1 &&& S = e1 ∧ e1 ≠ butF ap))) (gw G A)) : ZE d M_Sea_isClassOf (gw G A) 0 [(2, s), (0, (e1 : Int)), (0, (S : Int))] [] P := by
  have hat := andn_tab e1 he S hS7
  have hst := sub_tab e1 he S hS7
  refine ZE.iload_n d_Sea_isClassOf_0 rfl ?_
  refine ZE.iload_n d_Sea_isClassOf_1 rfl ?_
  refine ZE.iconst (n := (-1)) d_Sea_isClassOf_2 ?_
  refine ZE.ixor d_Sea_isClassOf_3 ?_
  refine ZE.iand d_Sea_isClassOf_4 ?_
  rw [show (zand (e1 : Int) (zxor (S : Int) (-1)) : Int) = ((e1 &&& (127 - S) : Nat) : Int) from hat.1]
  refine ZE.if_ne (tgt := 29) d_Sea_isClassOf_5 rfl (by unfold zR; omega) (fun c5 => ?_) (fun c5 => ?_)
  · have hq : ¬ (e1 &&& S = e1 ∧ e1 ≠ butF ap) := fun q => absurd (hst.mpr q.1) (by omega)
    refine ZE.iconst (n := 0) d_Sea_isClassOf_29 ?_
    refine ZE.zret d_Sea_isClassOf_30 rfl (by omega) ?_
    rw [b2i_f hq] at k
    exact k
  · refine ZE.iload_n d_Sea_isClassOf_8 rfl ?_
    refine ZE.aload_n d_Sea_isClassOf_9 rfl ?_
    refine ZE.getE (v := (ap : Int)) d_Sea_isClassOf_10 f_Sea_60 (tg := 0) rfl hK.1 hF.2.2.2.2.2.2.2.2.1 ?_
    refine ZE.iconst (n := 1) d_Sea_isClassOf_13 ?_
    refine ZE.icmp_ne (tgt := 21) d_Sea_isClassOf_14 rfl (by unfold zR; omega) (by unfold zR; omega) (fun c14 => ?_) (fun c14 => ?_)
    · refine ZE.iconst (n := 0) d_Sea_isClassOf_21 ?_
      refine ZE.icmp_eq (tgt := 29) d_Sea_isClassOf_22 rfl (by unfold zR; omega) (by unfold zR; omega) (fun c22 => ?_) (fun c22 => ?_)
      · have hq : ¬ (e1 &&& S = e1 ∧ e1 ≠ butF ap) := fun q => q.2 (by unfold butF; split <;> omega)
        refine ZE.iconst (n := 0) d_Sea_isClassOf_29 ?_
        refine ZE.zret d_Sea_isClassOf_30 rfl (by omega) ?_
        rw [b2i_f hq] at k
        exact k
      · have hq : (e1 &&& S = e1 ∧ e1 ≠ butF ap) := ⟨hst.mp (by omega), by unfold butF; split <;> omega⟩
        refine ZE.iconst (n := 1) d_Sea_isClassOf_25 ?_
        refine ZE.goto (tgt := 30) d_Sea_isClassOf_26 rfl ?_
        refine ZE.zret d_Sea_isClassOf_30 rfl (by omega) ?_
        rw [b2i_t hq] at k
        exact k
    · refine ZE.iconst (n := 1) d_Sea_isClassOf_17 ?_
      refine ZE.goto (tgt := 22) d_Sea_isClassOf_18 rfl ?_
      refine ZE.icmp_eq (tgt := 29) d_Sea_isClassOf_22 rfl (by unfold zR; omega) (by unfold zR; omega) (fun c22 => ?_) (fun c22 => ?_)
      · have hq : ¬ (e1 &&& S = e1 ∧ e1 ≠ butF ap) := fun q => q.2 (by unfold butF; split <;> omega)
        refine ZE.iconst (n := 0) d_Sea_isClassOf_29 ?_
        refine ZE.zret d_Sea_isClassOf_30 rfl (by omega) ?_
        rw [b2i_f hq] at k
        exact k
      · have hq : (e1 &&& S = e1 ∧ e1 ≠ butF ap) := ⟨hst.mp (by omega), by unfold butF; split <;> omega⟩
        refine ZE.iconst (n := 1) d_Sea_isClassOf_25 ?_
        refine ZE.goto (tgt := 30) d_Sea_isClassOf_26 rfl ?_
        refine ZE.zret d_Sea_isClassOf_30 rfl (by omega) ?_
        rw [b2i_t hq] at k
        exact k
set_option maxRecDepth 20000 in
set_option maxHeartbeats 4000000 in
theorem s_isClass {d : Nat} {G : zG} {A : Int → Int → Int} {P : Option zV → zG → Prop}  {s : Int} (hK : sK G s) {ap : Nat} (hF : sF A s ap) {n : Nat} (hn : A s 11 = (n : Int)) (hn2 : n ≤ 64) {k1 : Int} (hk1 : zR k1) (k : P (some (0, b2i (0 ≤ k1 ∧ k1 < (n : Int)))) (gw G A)) : ZE d M_Sea_isClass (gw G A) 0 [(2, s), (0, k1)] [] P := by
  have hkR : -2147483648 ≤ k1 ∧ k1 ≤ 2147483647 := hk1
  refine ZE.iload_n d_Sea_isClass_0 rfl ?_
  refine ZE.if_lt (tgt := 16) d_Sea_isClass_1 rfl (by unfold zR; omega) (fun c1 => ?_) (fun c1 => ?_)
  · have hq : ¬ (0 ≤ k1 ∧ k1 < (n : Int)) := by omega
    refine ZE.iconst (n := 0) d_Sea_isClass_16 ?_
    refine ZE.zret d_Sea_isClass_17 rfl (by omega) ?_
    rw [b2i_f hq] at k
    exact k
  · refine ZE.iload_n d_Sea_isClass_4 rfl ?_
    refine ZE.aload_n d_Sea_isClass_5 rfl ?_
    refine ZE.getE (v := (n : Int)) d_Sea_isClass_6 f_Sea_79 (tg := 0) rfl hK.1 hn ?_
    refine ZE.icmp_ge (tgt := 16) d_Sea_isClass_9 rfl (by unfold zR; omega) (by unfold zR; omega) (fun c9 => ?_) (fun c9 => ?_)
    · have hq : ¬ (0 ≤ k1 ∧ k1 < (n : Int)) := by omega
      refine ZE.iconst (n := 0) d_Sea_isClass_16 ?_
      refine ZE.zret d_Sea_isClass_17 rfl (by omega) ?_
      rw [b2i_f hq] at k
      exact k
    · have hq : (0 ≤ k1 ∧ k1 < (n : Int)) := by omega
      refine ZE.iconst (n := 1) d_Sea_isClass_12 ?_
      refine ZE.goto (tgt := 17) d_Sea_isClass_13 rfl ?_
      refine ZE.zret d_Sea_isClass_17 rfl (by omega) ?_
      rw [b2i_t hq] at k
      exact k
set_option maxRecDepth 20000 in
set_option maxHeartbeats 4000000 in
theorem s_isCouple {d : Nat} {G : zG} {A : Int → Int → Int} {P : Option zV → zG → Prop}  {s : Int} (hK : sK G s) {ap : Nat} (hF : sF A s ap) {n : Nat} (hn : A s 12 = (n : Int)) (hn2 : n ≤ 64) {k1 : Int} (hk1 : zR k1) (k : P (some (0, b2i (0 ≤ k1 ∧ k1 < (n : Int)))) (gw G A)) : ZE d M_Sea_isCouple (gw G A) 0 [(2, s), (0, k1)] [] P := by
  have hkR : -2147483648 ≤ k1 ∧ k1 ≤ 2147483647 := hk1
  refine ZE.iload_n d_Sea_isCouple_0 rfl ?_
  refine ZE.if_lt (tgt := 16) d_Sea_isCouple_1 rfl (by unfold zR; omega) (fun c1 => ?_) (fun c1 => ?_)
  · have hq : ¬ (0 ≤ k1 ∧ k1 < (n : Int)) := by omega
    refine ZE.iconst (n := 0) d_Sea_isCouple_16 ?_
    refine ZE.zret d_Sea_isCouple_17 rfl (by omega) ?_
    rw [b2i_f hq] at k
    exact k
  · refine ZE.iload_n d_Sea_isCouple_4 rfl ?_
    refine ZE.aload_n d_Sea_isCouple_5 rfl ?_
    refine ZE.getE (v := (n : Int)) d_Sea_isCouple_6 f_Sea_82 (tg := 0) rfl hK.1 hn ?_
    refine ZE.icmp_ge (tgt := 16) d_Sea_isCouple_9 rfl (by unfold zR; omega) (by unfold zR; omega) (fun c9 => ?_) (fun c9 => ?_)
    · have hq : ¬ (0 ≤ k1 ∧ k1 < (n : Int)) := by omega
      refine ZE.iconst (n := 0) d_Sea_isCouple_16 ?_
      refine ZE.zret d_Sea_isCouple_17 rfl (by omega) ?_
      rw [b2i_f hq] at k
      exact k
    · have hq : (0 ≤ k1 ∧ k1 < (n : Int)) := by omega
      refine ZE.iconst (n := 1) d_Sea_isCouple_12 ?_
      refine ZE.goto (tgt := 17) d_Sea_isCouple_13 rfl ?_
      refine ZE.zret d_Sea_isCouple_17 rfl (by omega) ?_
      rw [b2i_t hq] at k
      exact k
set_option maxRecDepth 20000 in
set_option maxHeartbeats 4000000 in
theorem s_unitAt {d : Nat} {G : zG} {A : Int → Int → Int} {P : Option zV → zG → Prop}  {s : Int} (hK : sK G s) {ap : Nat} (hF : sF A s ap) {n : Nat} (hn : A s 11 = (n : Int)) (hn2 : n ≤ 32) {k1 : Nat} (hk1 : k1 < n) {v1 : Int} (hv : A (s + 29) k1 = v1) (hv0 : 0 ≤ v1) (k : P (some (2, v1)) (gw G A)) : ZE d M_Sea_unitAt (gw G A) 0 [(2, s), (0, (k1 : Int)), (9, 0)] [] P := by
  refine ZE.iload_n d_Sea_unitAt_0 rfl ?_
  refine ZE.if_lt (tgt := 30) d_Sea_unitAt_1 rfl (by unfold zR; omega) (fun c1 => ?_) (fun c1 => ?_)
  · exact absurd c1 (by omega)
  · refine ZE.iload_n d_Sea_unitAt_4 rfl ?_
    refine ZE.aload_n d_Sea_unitAt_5 rfl ?_
    refine ZE.getE (v := (n : Int)) d_Sea_unitAt_6 f_Sea_79 (tg := 0) rfl hK.1 hn ?_
    refine ZE.icmp_ge (tgt := 30) d_Sea_unitAt_9 rfl (by unfold zR; omega) (by unfold zR; omega) (fun c9 => ?_) (fun c9 => ?_)
    · exact absurd c9 (by omega)
    · refine ZE.iload_n d_Sea_unitAt_12 rfl ?_
      refine ZE.aload_n d_Sea_unitAt_13 rfl ?_
      refine ZE.getE (v := s + 29) d_Sea_unitAt_14 f_Sea_45 (tg := 2) rfl hK.1 hF.2.2.2.2.1 ?_
      refine ZE.alenE (v := 32) d_Sea_unitAt_17 (by have hk0 := hK.2.2.2.2.1.1; show 1 ≤ gk G (s + 29) ∧ gk G (s + 29) ≤ 6; omega) hK.2.2.2.2.1.2 ?_
      refine ZE.icmp_ge (tgt := 30) d_Sea_unitAt_18 rfl (by unfold zR; omega) (by unfold zR; omega) (fun c18 => ?_) (fun c18 => ?_)
      · exact absurd c18 (by omega)
      · refine ZE.aload_n d_Sea_unitAt_21 rfl ?_
        refine ZE.getE (v := s + 29) d_Sea_unitAt_22 f_Sea_45 (tg := 2) rfl hK.1 hF.2.2.2.2.1 ?_
        refine ZE.iload_n d_Sea_unitAt_25 rfl ?_
        refine ZE.aaldE (v := v1) d_Sea_unitAt_26 hK.2.2.2.2.1.1 (by omega) (by have hn0 := hK.2.2.2.2.1.2; show 0 ≤ (k1 : Int) ∧ (k1 : Int) < gn G (s + 29); omega) hv ?_
        refine ZE.goto (tgt := 31) d_Sea_unitAt_27 rfl ?_
        refine ZE.astore_n (ls2 := [(2, s), (0, (k1 : Int)), (2, v1)]) d_Sea_unitAt_31 (Nat.le_of_ble_eq_true rfl) rfl ?_
        refine ZE.aload_n d_Sea_unitAt_32 rfl ?_
        refine ZE.ifnonnull (tgt := 43) d_Sea_unitAt_33 rfl  (fun c33 => ?_) (fun c33 => ?_)
        · refine ZE.aload_n d_Sea_unitAt_43 rfl ?_
          refine ZE.aret d_Sea_unitAt_44 ⟨_, rfl⟩ ?_
          exact k
        · exact absurd c33 (by omega)
set_option maxRecDepth 20000 in
set_option maxHeartbeats 4000000 in
theorem s_coupleAt {d : Nat} {G : zG} {A : Int → Int → Int} {P : Option zV → zG → Prop}  {s : Int} (hK : sK G s) {ap : Nat} (hF : sF A s ap) {n : Nat} (hn : A s 12 = (n : Int)) (hn2 : n ≤ 64) {k1 : Nat} (hk1 : k1 < n) {v1 : Int} (hv : A (s + 30) k1 = v1) (hv0 : 0 ≤ v1) (k : P (some (2, v1)) (gw G A)) : ZE d M_Sea_coupleAt (gw G A) 0 [(2, s), (0, (k1 : Int)), (9, 0)] [] P := by
  refine ZE.iload_n d_Sea_coupleAt_0 rfl ?_
  refine ZE.if_lt (tgt := 30) d_Sea_coupleAt_1 rfl (by unfold zR; omega) (fun c1 => ?_) (fun c1 => ?_)
  · exact absurd c1 (by omega)
  · refine ZE.iload_n d_Sea_coupleAt_4 rfl ?_
    refine ZE.aload_n d_Sea_coupleAt_5 rfl ?_
    refine ZE.getE (v := (n : Int)) d_Sea_coupleAt_6 f_Sea_82 (tg := 0) rfl hK.1 hn ?_
    refine ZE.icmp_ge (tgt := 30) d_Sea_coupleAt_9 rfl (by unfold zR; omega) (by unfold zR; omega) (fun c9 => ?_) (fun c9 => ?_)
    · exact absurd c9 (by omega)
    · refine ZE.iload_n d_Sea_coupleAt_12 rfl ?_
      refine ZE.aload_n d_Sea_coupleAt_13 rfl ?_
      refine ZE.getE (v := s + 30) d_Sea_coupleAt_14 f_Sea_48 (tg := 2) rfl hK.1 hF.2.2.2.2.2.1 ?_
      refine ZE.alenE (v := 64) d_Sea_coupleAt_17 (by have hk0 := hK.2.2.2.2.2.1.1; show 1 ≤ gk G (s + 30) ∧ gk G (s + 30) ≤ 6; omega) hK.2.2.2.2.2.1.2 ?_
      refine ZE.icmp_ge (tgt := 30) d_Sea_coupleAt_18 rfl (by unfold zR; omega) (by unfold zR; omega) (fun c18 => ?_) (fun c18 => ?_)
      · exact absurd c18 (by omega)
      · refine ZE.aload_n d_Sea_coupleAt_21 rfl ?_
        refine ZE.getE (v := s + 30) d_Sea_coupleAt_22 f_Sea_48 (tg := 2) rfl hK.1 hF.2.2.2.2.2.1 ?_
        refine ZE.iload_n d_Sea_coupleAt_25 rfl ?_
        refine ZE.aaldE (v := v1) d_Sea_coupleAt_26 hK.2.2.2.2.2.1.1 (by omega) (by have hn0 := hK.2.2.2.2.2.1.2; show 0 ≤ (k1 : Int) ∧ (k1 : Int) < gn G (s + 30); omega) hv ?_
        refine ZE.goto (tgt := 31) d_Sea_coupleAt_27 rfl ?_
        refine ZE.astore_n (ls2 := [(2, s), (0, (k1 : Int)), (2, v1)]) d_Sea_coupleAt_31 (Nat.le_of_ble_eq_true rfl) rfl ?_
        refine ZE.aload_n d_Sea_coupleAt_32 rfl ?_
        refine ZE.ifnonnull (tgt := 43) d_Sea_coupleAt_33 rfl  (fun c33 => ?_) (fun c33 => ?_)
        · refine ZE.aload_n d_Sea_coupleAt_43 rfl ?_
          refine ZE.aret d_Sea_coupleAt_44 ⟨_, rfl⟩ ?_
          exact k
        · exact absurd c33 (by omega)
