/-! ===== the reference: its object o and its rows at o + 1 .. o + 19 ===== -/
def RK (G : zG) (o : Int) : Prop := gk G o = 21 ∧ 0 ≤ o ∧ (gk G (o + 1) = 1 ∧ gn G (o + 1) = 7) ∧ (gk G (o + 2) = 1 ∧ gn G (o + 2) = 17160) ∧ (gk G (o + 3) = 1 ∧ gn G (o + 3) = 63) ∧ (gk G (o + 4) = 1 ∧ gn G (o + 4) = 63) ∧ (gk G (o + 5) = 1 ∧ gn G (o + 5) = 63) ∧ (gk G (o + 6) = 1 ∧ gn G (o + 6) = 63) ∧ (gk G (o + 7) = 1 ∧ gn G (o + 7) = 288) ∧ (gk G (o + 8) = 1 ∧ gn G (o + 8) = 288) ∧ (gk G (o + 9) = 1 ∧ gn G (o + 9) = 288) ∧ (gk G (o + 10) = 1 ∧ gn G (o + 10) = 288) ∧ (gk G (o + 11) = 1 ∧ gn G (o + 11) = 288) ∧ (gk G (o + 12) = 1 ∧ gn G (o + 12) = 288) ∧ (gk G (o + 13) = 1 ∧ gn G (o + 13) = 2016) ∧ (gk G (o + 14) = 1 ∧ gn G (o + 14) = 3001) ∧ (gk G (o + 15) = 1 ∧ gn G (o + 15) = 52130) ∧ (gk G (o + 16) = 1 ∧ gn G (o + 16) = 7) ∧ (gk G (o + 17) = 2 ∧ gn G (o + 17) = 2000) ∧ (gk G (o + 18) = 2 ∧ gn G (o + 18) = 2000) ∧ (gk G (o + 19) = 2 ∧ gn G (o + 19) = 2000)
theorem RK.k1 {G : zG} {o : Int} (h : RK G o) : gk G (o + 1) = 1 := h.2.2.1.1
theorem RK.n1 {G : zG} {o : Int} (h : RK G o) : gn G (o + 1) = 7 := h.2.2.1.2
theorem RK.k2 {G : zG} {o : Int} (h : RK G o) : gk G (o + 2) = 1 := h.2.2.2.1.1
theorem RK.n2 {G : zG} {o : Int} (h : RK G o) : gn G (o + 2) = 17160 := h.2.2.2.1.2
theorem RK.k3 {G : zG} {o : Int} (h : RK G o) : gk G (o + 3) = 1 := h.2.2.2.2.1.1
theorem RK.n3 {G : zG} {o : Int} (h : RK G o) : gn G (o + 3) = 63 := h.2.2.2.2.1.2
theorem RK.k4 {G : zG} {o : Int} (h : RK G o) : gk G (o + 4) = 1 := h.2.2.2.2.2.1.1
theorem RK.n4 {G : zG} {o : Int} (h : RK G o) : gn G (o + 4) = 63 := h.2.2.2.2.2.1.2
theorem RK.k5 {G : zG} {o : Int} (h : RK G o) : gk G (o + 5) = 1 := h.2.2.2.2.2.2.1.1
theorem RK.n5 {G : zG} {o : Int} (h : RK G o) : gn G (o + 5) = 63 := h.2.2.2.2.2.2.1.2
theorem RK.k6 {G : zG} {o : Int} (h : RK G o) : gk G (o + 6) = 1 := h.2.2.2.2.2.2.2.1.1
theorem RK.n6 {G : zG} {o : Int} (h : RK G o) : gn G (o + 6) = 63 := h.2.2.2.2.2.2.2.1.2
theorem RK.k7 {G : zG} {o : Int} (h : RK G o) : gk G (o + 7) = 1 := h.2.2.2.2.2.2.2.2.1.1
theorem RK.n7 {G : zG} {o : Int} (h : RK G o) : gn G (o + 7) = 288 := h.2.2.2.2.2.2.2.2.1.2
theorem RK.k8 {G : zG} {o : Int} (h : RK G o) : gk G (o + 8) = 1 := h.2.2.2.2.2.2.2.2.2.1.1
theorem RK.n8 {G : zG} {o : Int} (h : RK G o) : gn G (o + 8) = 288 := h.2.2.2.2.2.2.2.2.2.1.2
theorem RK.k9 {G : zG} {o : Int} (h : RK G o) : gk G (o + 9) = 1 := h.2.2.2.2.2.2.2.2.2.2.1.1
theorem RK.n9 {G : zG} {o : Int} (h : RK G o) : gn G (o + 9) = 288 := h.2.2.2.2.2.2.2.2.2.2.1.2
theorem RK.k10 {G : zG} {o : Int} (h : RK G o) : gk G (o + 10) = 1 := h.2.2.2.2.2.2.2.2.2.2.2.1.1
theorem RK.n10 {G : zG} {o : Int} (h : RK G o) : gn G (o + 10) = 288 := h.2.2.2.2.2.2.2.2.2.2.2.1.2
theorem RK.k11 {G : zG} {o : Int} (h : RK G o) : gk G (o + 11) = 1 := h.2.2.2.2.2.2.2.2.2.2.2.2.1.1
theorem RK.n11 {G : zG} {o : Int} (h : RK G o) : gn G (o + 11) = 288 := h.2.2.2.2.2.2.2.2.2.2.2.2.1.2
theorem RK.k12 {G : zG} {o : Int} (h : RK G o) : gk G (o + 12) = 1 := h.2.2.2.2.2.2.2.2.2.2.2.2.2.1.1
theorem RK.n12 {G : zG} {o : Int} (h : RK G o) : gn G (o + 12) = 288 := h.2.2.2.2.2.2.2.2.2.2.2.2.2.1.2
theorem RK.k13 {G : zG} {o : Int} (h : RK G o) : gk G (o + 13) = 1 := h.2.2.2.2.2.2.2.2.2.2.2.2.2.2.1.1
theorem RK.n13 {G : zG} {o : Int} (h : RK G o) : gn G (o + 13) = 2016 := h.2.2.2.2.2.2.2.2.2.2.2.2.2.2.1.2
theorem RK.k14 {G : zG} {o : Int} (h : RK G o) : gk G (o + 14) = 1 := h.2.2.2.2.2.2.2.2.2.2.2.2.2.2.2.1.1
theorem RK.n14 {G : zG} {o : Int} (h : RK G o) : gn G (o + 14) = 3001 := h.2.2.2.2.2.2.2.2.2.2.2.2.2.2.2.1.2
theorem RK.k15 {G : zG} {o : Int} (h : RK G o) : gk G (o + 15) = 1 := h.2.2.2.2.2.2.2.2.2.2.2.2.2.2.2.2.1.1
theorem RK.n15 {G : zG} {o : Int} (h : RK G o) : gn G (o + 15) = 52130 := h.2.2.2.2.2.2.2.2.2.2.2.2.2.2.2.2.1.2
theorem RK.k16 {G : zG} {o : Int} (h : RK G o) : gk G (o + 16) = 1 := h.2.2.2.2.2.2.2.2.2.2.2.2.2.2.2.2.2.1.1
theorem RK.n16 {G : zG} {o : Int} (h : RK G o) : gn G (o + 16) = 7 := h.2.2.2.2.2.2.2.2.2.2.2.2.2.2.2.2.2.1.2
theorem RK.k17 {G : zG} {o : Int} (h : RK G o) : gk G (o + 17) = 2 := h.2.2.2.2.2.2.2.2.2.2.2.2.2.2.2.2.2.2.1.1
theorem RK.n17 {G : zG} {o : Int} (h : RK G o) : gn G (o + 17) = 2000 := h.2.2.2.2.2.2.2.2.2.2.2.2.2.2.2.2.2.2.1.2
theorem RK.k18 {G : zG} {o : Int} (h : RK G o) : gk G (o + 18) = 2 := h.2.2.2.2.2.2.2.2.2.2.2.2.2.2.2.2.2.2.2.1.1
theorem RK.n18 {G : zG} {o : Int} (h : RK G o) : gn G (o + 18) = 2000 := h.2.2.2.2.2.2.2.2.2.2.2.2.2.2.2.2.2.2.2.1.2
theorem RK.k19 {G : zG} {o : Int} (h : RK G o) : gk G (o + 19) = 2 := h.2.2.2.2.2.2.2.2.2.2.2.2.2.2.2.2.2.2.2.2.1
theorem RK.n19 {G : zG} {o : Int} (h : RK G o) : gn G (o + 19) = 2000 := h.2.2.2.2.2.2.2.2.2.2.2.2.2.2.2.2.2.2.2.2.2
def sev (k : Nat) : Nat := match k with | 0 => 2 | 1 => 3 | 2 => 5 | 3 => 7 | 4 => 11 | 5 => 13 | _ => 17
def RF (A : Int → Int → Int) (o : Int) : Prop := A o 0 = o + 1 ∧ A o 2 = o + 2 ∧ A o 3 = o + 3 ∧ A o 4 = o + 4 ∧ A o 5 = o + 5 ∧ A o 6 = o + 6 ∧ A o 12 = o + 7 ∧ A o 13 = o + 8 ∧ A o 14 = o + 9 ∧ A o 16 = o + 10 ∧ A o 17 = o + 11 ∧ A o 18 = o + 12 ∧ A o 22 = o + 13 ∧ A o 23 = o + 14 ∧ A o 24 = o + 15 ∧ A o 25 = o + 16 ∧ A o 26 = o + 17 ∧ A o 27 = o + 18 ∧ A o 30 = o + 19 ∧ ∀ k : Nat, k < 7 → A (o + 1) k = sev k
theorem RF.a0 {A : Int → Int → Int} {o : Int} (h : RF A o) : A o 0 = o + 1 := h.1
theorem RF.a2 {A : Int → Int → Int} {o : Int} (h : RF A o) : A o 2 = o + 2 := h.2.1
theorem RF.a3 {A : Int → Int → Int} {o : Int} (h : RF A o) : A o 3 = o + 3 := h.2.2.1
theorem RF.a4 {A : Int → Int → Int} {o : Int} (h : RF A o) : A o 4 = o + 4 := h.2.2.2.1
theorem RF.a5 {A : Int → Int → Int} {o : Int} (h : RF A o) : A o 5 = o + 5 := h.2.2.2.2.1
theorem RF.a6 {A : Int → Int → Int} {o : Int} (h : RF A o) : A o 6 = o + 6 := h.2.2.2.2.2.1
theorem RF.a12 {A : Int → Int → Int} {o : Int} (h : RF A o) : A o 12 = o + 7 := h.2.2.2.2.2.2.1
theorem RF.a13 {A : Int → Int → Int} {o : Int} (h : RF A o) : A o 13 = o + 8 := h.2.2.2.2.2.2.2.1
theorem RF.a14 {A : Int → Int → Int} {o : Int} (h : RF A o) : A o 14 = o + 9 := h.2.2.2.2.2.2.2.2.1
theorem RF.a16 {A : Int → Int → Int} {o : Int} (h : RF A o) : A o 16 = o + 10 := h.2.2.2.2.2.2.2.2.2.1
theorem RF.a17 {A : Int → Int → Int} {o : Int} (h : RF A o) : A o 17 = o + 11 := h.2.2.2.2.2.2.2.2.2.2.1
theorem RF.a18 {A : Int → Int → Int} {o : Int} (h : RF A o) : A o 18 = o + 12 := h.2.2.2.2.2.2.2.2.2.2.2.1
theorem RF.a22 {A : Int → Int → Int} {o : Int} (h : RF A o) : A o 22 = o + 13 := h.2.2.2.2.2.2.2.2.2.2.2.2.1
theorem RF.a23 {A : Int → Int → Int} {o : Int} (h : RF A o) : A o 23 = o + 14 := h.2.2.2.2.2.2.2.2.2.2.2.2.2.1
theorem RF.a24 {A : Int → Int → Int} {o : Int} (h : RF A o) : A o 24 = o + 15 := h.2.2.2.2.2.2.2.2.2.2.2.2.2.2.1
theorem RF.a25 {A : Int → Int → Int} {o : Int} (h : RF A o) : A o 25 = o + 16 := h.2.2.2.2.2.2.2.2.2.2.2.2.2.2.2.1
theorem RF.a26 {A : Int → Int → Int} {o : Int} (h : RF A o) : A o 26 = o + 17 := h.2.2.2.2.2.2.2.2.2.2.2.2.2.2.2.2.1
theorem RF.a27 {A : Int → Int → Int} {o : Int} (h : RF A o) : A o 27 = o + 18 := h.2.2.2.2.2.2.2.2.2.2.2.2.2.2.2.2.2.1
theorem RF.a30 {A : Int → Int → Int} {o : Int} (h : RF A o) : A o 30 = o + 19 := h.2.2.2.2.2.2.2.2.2.2.2.2.2.2.2.2.2.2.1
theorem RF.sev {A : Int → Int → Int} {o : Int} (h : RF A o) : ∀ k : Nat, k < 7 → A (o + 1) k = sev k := h.2.2.2.2.2.2.2.2.2.2.2.2.2.2.2.2.2.2.2
theorem RF.uA {A : Int → Int → Int} {o a : Int} {f : Int → Int} (h : RF A o) (h1 : o + 2 ≤ a) : RF (upA A a f) o := by
  have e0 : upA A a f o = A o := upA_ne _ _ (by omega)
  have e1 : upA A a f (o + 1) = A (o + 1) := upA_ne _ _ (by omega)
  unfold RF
  rw [e0, e1]
  exact h
theorem RF.u2 {A : Int → Int → Int} {o a i v : Int} (h : RF A o) (h1 : o + 2 ≤ a) : RF (up2 A a i v) o := by rw [up2_A]; exact h.uA h1
theorem RF.fld {A : Int → Int → Int} {o : Int} (k : Int) {v : Int} (h : RF A o) (h1 : k = 1 ∨ k = 7 ∨ k = 8 ∨ k = 9 ∨ k = 10 ∨ k = 11 ∨ k = 15 ∨ k = 19 ∨ k = 20 ∨ k = 21 ∨ k = 28 ∨ k = 29 ∨ k = 31) : RF (up2 A o k v) o := by
  have e0 : ∀ j : Int, j ≠ k → up2 A o k v o j = A o j := fun j hj => up2_ne _ _ (fun q => hj q.2)
  have e1 : ∀ j : Int, up2 A o k v (o + 1) j = A (o + 1) j := fun j => up2_ne _ _ (fun q => by omega)
  unfold RF
  refine ⟨(e0 _ (by omega)).trans h.a0, (e0 _ (by omega)).trans h.a2, (e0 _ (by omega)).trans h.a3, (e0 _ (by omega)).trans h.a4, (e0 _ (by omega)).trans h.a5, (e0 _ (by omega)).trans h.a6, (e0 _ (by omega)).trans h.a12, (e0 _ (by omega)).trans h.a13, (e0 _ (by omega)).trans h.a14, (e0 _ (by omega)).trans h.a16, (e0 _ (by omega)).trans h.a17, (e0 _ (by omega)).trans h.a18, (e0 _ (by omega)).trans h.a22, (e0 _ (by omega)).trans h.a23, (e0 _ (by omega)).trans h.a24, (e0 _ (by omega)).trans h.a25, (e0 _ (by omega)).trans h.a26, (e0 _ (by omega)).trans h.a27, (e0 _ (by omega)).trans h.a30, fun j hj => (e1 _).trans (h.sev j hj)⟩

set_option maxRecDepth 20000 in
set_option maxHeartbeats 4000000 in
theorem r_isIn {d : Nat} {G : zG} {A : Int → Int → Int} {P : Option zV → zG → Prop} {v l t : Int} (hv : zR64 v) (hl : zR64 l) (ht : zR64 t) (k : P (some (0, b2i (l ≤ v ∧ v ≤ t))) (gw G A)) : ZE d M_Ref_isIn (gw G A) 0 [(1, v), (9, 0), (1, l), (9, 0), (1, t), (9, 0)] [] P := by
  refine ZE.lload_n d_Ref_isIn_0 rfl ?_
  refine ZE.lload_n d_Ref_isIn_1 rfl ?_
  refine ZE.lcmp d_Ref_isIn_2 hv hl ?_
  refine ZE.if_lt (tgt := 17) d_Ref_isIn_3 rfl (zR_zcmp _ _) (fun c3 => ?_) (fun c3 => ?_)
  · replace c3 := zcmp_lt.mp c3
    refine ZE.iconst (n := 0) d_Ref_isIn_17 ?_
    refine ZE.zret d_Ref_isIn_18 rfl (by omega) ?_
    first | exact (by rw [b2i_t (by omega)] at k; exact k) | exact (by rw [b2i_f (by omega)] at k; exact k)
  · replace c3 := (not_congr zcmp_lt).mp c3
    refine ZE.lload_n d_Ref_isIn_6 rfl ?_
    refine ZE.lload d_Ref_isIn_7 rfl ?_
    refine ZE.lcmp d_Ref_isIn_9 hv ht ?_
    refine ZE.if_gt (tgt := 17) d_Ref_isIn_10 rfl (zR_zcmp _ _) (fun c10 => ?_) (fun c10 => ?_)
    · replace c10 := zcmp_gt.mp c10
      refine ZE.iconst (n := 0) d_Ref_isIn_17 ?_
      refine ZE.zret d_Ref_isIn_18 rfl (by omega) ?_
      first | exact (by rw [b2i_t (by omega)] at k; exact k) | exact (by rw [b2i_f (by omega)] at k; exact k)
    · replace c10 := (not_congr zcmp_gt).mp c10
      refine ZE.iconst (n := 1) d_Ref_isIn_13 ?_
      refine ZE.goto (tgt := 18) d_Ref_isIn_14 rfl ?_
      refine ZE.zret d_Ref_isIn_18 rfl (by omega) ?_
      first | exact (by rw [b2i_t (by omega)] at k; exact k) | exact (by rw [b2i_f (by omega)] at k; exact k)
set_option maxRecDepth 20000 in
set_option maxHeartbeats 4000000 in
theorem r_has {d : Nat} {G : zG} {A : Int → Int → Int} {P : Option zV → zG → Prop} {S k0 : Nat} (hS : S < 2147483648) (hk : k0 < 32) (k : P (some (0, b2i (S.testBit k0 = true))) (gw G A)) : ZE d M_Ref_has (gw G A) 0 [(0, (S : Int)), (0, (k0 : Int))] [] P := by
  refine ZE.iload_n d_Ref_has_0 rfl ?_
  refine ZE.iload_n d_Ref_has_1 rfl ?_
  refine ZE.ishr d_Ref_has_2 ?_
  refine ZE.iconst (n := 1) d_Ref_has_3 ?_
  refine ZE.iand d_Ref_has_4 ?_
  rw [show (zand (zshr (S : Int) (k0 : Int)) 1 : Int) = ((S / 2 ^ k0 % 2 : Nat) : Int) from zbit hS hk]
  refine ZE.iconst (n := 1) d_Ref_has_5 ?_
  refine ZE.icmp_ne (tgt := 13) d_Ref_has_6 rfl (by unfold zR; omega) (by unfold zR; omega) (fun c6 => ?_) (fun c6 => ?_)
  · refine ZE.iconst (n := 0) d_Ref_has_13 ?_
    refine ZE.zret d_Ref_has_14 rfl (by omega) ?_
    first | exact (by rw [b2i_t (by rw [tbit]; omega)] at k; exact k) | exact (by rw [b2i_f (by rw [tbit]; omega)] at k; exact k)
  · refine ZE.iconst (n := 1) d_Ref_has_9 ?_
    refine ZE.goto (tgt := 14) d_Ref_has_10 rfl ?_
    refine ZE.zret d_Ref_has_14 rfl (by omega) ?_
    first | exact (by rw [b2i_t (by rw [tbit]; omega)] at k; exact k) | exact (by rw [b2i_f (by rw [tbit]; omega)] at k; exact k)
def plc (p : Int) : Int := if p = 2 then 0 else if p = 3 then 1 else if p = 5 then 2 else if p = 7 then 3 else if p = 11 then 4 else if p = 13 then 5 else if p = 17 then 6 else -1
theorem plc_no {p : Int} (h : p ≠ 2 ∧ p ≠ 3 ∧ p ≠ 5 ∧ p ≠ 7 ∧ p ≠ 11 ∧ p ≠ 13 ∧ p ≠ 17) : plc p = -1 := by
  unfold plc
  rw [if_neg h.1, if_neg h.2.1, if_neg h.2.2.1, if_neg h.2.2.2.1, if_neg h.2.2.2.2.1, if_neg h.2.2.2.2.2.1, if_neg h.2.2.2.2.2.2]
theorem plc_R (p : Int) : -1 ≤ plc p ∧ plc p ≤ 6 := by
  unfold plc
  repeat' split
  all_goals omega
theorem plc_sev : ∀ k : Nat, k < 7 → plc (sev k) = k := by decide +kernel
theorem plc_ge {p : Int} (h : plc p ≠ -1) : ∃ k : Nat, k < 7 ∧ p = sev k ∧ plc p = k := by
  by_cases h0 : p ≠ 2 ∧ p ≠ 3 ∧ p ≠ 5 ∧ p ≠ 7 ∧ p ≠ 11 ∧ p ≠ 13 ∧ p ≠ 17
  · exact absurd (plc_no h0) h
  · have : p = 2 ∨ p = 3 ∨ p = 5 ∨ p = 7 ∨ p = 11 ∨ p = 13 ∨ p = 17 := by omega
    rcases this with rfl | rfl | rfl | rfl | rfl | rfl | rfl
    · exact ⟨0, by decide, rfl, rfl⟩
    · exact ⟨1, by decide, rfl, rfl⟩
    · exact ⟨2, by decide, rfl, rfl⟩
    · exact ⟨3, by decide, rfl, rfl⟩
    · exact ⟨4, by decide, rfl, rfl⟩
    · exact ⟨5, by decide, rfl, rfl⟩
    · exact ⟨6, by decide, rfl, rfl⟩
set_option maxRecDepth 20000 in
set_option maxHeartbeats 4000000 in
theorem r_placeOf {d : Nat} {G : zG} {A : Int → Int → Int} {P : Option zV → zG → Prop} {o : Int} (hK : RK G o) (hF : RF A o) {p : Int} (hp : zR p) (k : P (some (0, plc p)) (gw G A)) : ZE d M_Ref_placeOf (gw G A) 0 [(2, o), (0, p), (9, 0)] [] P := by
  refine ZE.iconst (n := 0) d_Ref_placeOf_0 ?_
  refine ZE.istore_n (ls2 := [(2, o), (0, p), (0, 0)]) d_Ref_placeOf_1 (Nat.le_of_ble_eq_true rfl) rfl ?_
  refine ZE.iload_n d_Ref_placeOf_2 rfl ?_
  refine ZE.bipush (n := 7) d_Ref_placeOf_3 rfl ?_
  refine ZE.icmp_ge (tgt := 26) d_Ref_placeOf_5 rfl (by unfold zR; omega) (by unfold zR; omega) (fun c5 => ?_) (fun c5 => ?_)
  · exact absurd c5 (by decide)
  · refine ZE.aload_n d_Ref_placeOf_8 rfl ?_
    refine ZE.getE (v := o + 1) d_Ref_placeOf_9 f_Ref_9 (tg := 2) rfl hK.1 hF.a0 ?_
    refine ZE.iload_n d_Ref_placeOf_12 rfl ?_
    refine ZE.ialdE (v := 2) d_Ref_placeOf_13 hK.k1 (by have hn0 := hK.n1; show 0 ≤ 0 ∧ 0 < gn G (o + 1); omega) (hF.sev 0 (by decide)) ?_
    refine ZE.iload_n d_Ref_placeOf_14 rfl ?_
    refine ZE.icmp_ne (tgt := 20) d_Ref_placeOf_15 rfl (by unfold zR; omega) hp (fun c15 => ?_) (fun c15 => ?_)
    · refine ZE.iinc (ls2 := [(2, o), (0, p), (0, 1)]) d_Ref_placeOf_20 rfl rfl ?_
      refine ZE.goto (tgt := 2) d_Ref_placeOf_23 rfl ?_
      refine ZE.iload_n d_Ref_placeOf_2 rfl ?_
      refine ZE.bipush (n := 7) d_Ref_placeOf_3 rfl ?_
      refine ZE.icmp_ge (tgt := 26) d_Ref_placeOf_5 rfl (by unfold zR; omega) (by unfold zR; omega) (fun c5 => ?_) (fun c5 => ?_)
      · exact absurd c5 (by decide)
      · refine ZE.aload_n d_Ref_placeOf_8 rfl ?_
        refine ZE.getE (v := o + 1) d_Ref_placeOf_9 f_Ref_9 (tg := 2) rfl hK.1 hF.a0 ?_
        refine ZE.iload_n d_Ref_placeOf_12 rfl ?_
        refine ZE.ialdE (v := 3) d_Ref_placeOf_13 hK.k1 (by have hn0 := hK.n1; show 0 ≤ 1 ∧ 1 < gn G (o + 1); omega) (hF.sev 1 (by decide)) ?_
        refine ZE.iload_n d_Ref_placeOf_14 rfl ?_
        refine ZE.icmp_ne (tgt := 20) d_Ref_placeOf_15 rfl (by unfold zR; omega) hp (fun c15 => ?_) (fun c15 => ?_)
        · refine ZE.iinc (ls2 := [(2, o), (0, p), (0, 2)]) d_Ref_placeOf_20 rfl rfl ?_
          refine ZE.goto (tgt := 2) d_Ref_placeOf_23 rfl ?_
          refine ZE.iload_n d_Ref_placeOf_2 rfl ?_
          refine ZE.bipush (n := 7) d_Ref_placeOf_3 rfl ?_
          refine ZE.icmp_ge (tgt := 26) d_Ref_placeOf_5 rfl (by unfold zR; omega) (by unfold zR; omega) (fun c5 => ?_) (fun c5 => ?_)
          · exact absurd c5 (by decide)
          · refine ZE.aload_n d_Ref_placeOf_8 rfl ?_
            refine ZE.getE (v := o + 1) d_Ref_placeOf_9 f_Ref_9 (tg := 2) rfl hK.1 hF.a0 ?_
            refine ZE.iload_n d_Ref_placeOf_12 rfl ?_
            refine ZE.ialdE (v := 5) d_Ref_placeOf_13 hK.k1 (by have hn0 := hK.n1; show 0 ≤ 2 ∧ 2 < gn G (o + 1); omega) (hF.sev 2 (by decide)) ?_
            refine ZE.iload_n d_Ref_placeOf_14 rfl ?_
            refine ZE.icmp_ne (tgt := 20) d_Ref_placeOf_15 rfl (by unfold zR; omega) hp (fun c15 => ?_) (fun c15 => ?_)
            · refine ZE.iinc (ls2 := [(2, o), (0, p), (0, 3)]) d_Ref_placeOf_20 rfl rfl ?_
              refine ZE.goto (tgt := 2) d_Ref_placeOf_23 rfl ?_
              refine ZE.iload_n d_Ref_placeOf_2 rfl ?_
              refine ZE.bipush (n := 7) d_Ref_placeOf_3 rfl ?_
              refine ZE.icmp_ge (tgt := 26) d_Ref_placeOf_5 rfl (by unfold zR; omega) (by unfold zR; omega) (fun c5 => ?_) (fun c5 => ?_)
              · exact absurd c5 (by decide)
              · refine ZE.aload_n d_Ref_placeOf_8 rfl ?_
                refine ZE.getE (v := o + 1) d_Ref_placeOf_9 f_Ref_9 (tg := 2) rfl hK.1 hF.a0 ?_
                refine ZE.iload_n d_Ref_placeOf_12 rfl ?_
                refine ZE.ialdE (v := 7) d_Ref_placeOf_13 hK.k1 (by have hn0 := hK.n1; show 0 ≤ 3 ∧ 3 < gn G (o + 1); omega) (hF.sev 3 (by decide)) ?_
                refine ZE.iload_n d_Ref_placeOf_14 rfl ?_
                refine ZE.icmp_ne (tgt := 20) d_Ref_placeOf_15 rfl (by unfold zR; omega) hp (fun c15 => ?_) (fun c15 => ?_)
                · refine ZE.iinc (ls2 := [(2, o), (0, p), (0, 4)]) d_Ref_placeOf_20 rfl rfl ?_
                  refine ZE.goto (tgt := 2) d_Ref_placeOf_23 rfl ?_
                  refine ZE.iload_n d_Ref_placeOf_2 rfl ?_
                  refine ZE.bipush (n := 7) d_Ref_placeOf_3 rfl ?_
                  refine ZE.icmp_ge (tgt := 26) d_Ref_placeOf_5 rfl (by unfold zR; omega) (by unfold zR; omega) (fun c5 => ?_) (fun c5 => ?_)
                  · exact absurd c5 (by decide)
                  · refine ZE.aload_n d_Ref_placeOf_8 rfl ?_
                    refine ZE.getE (v := o + 1) d_Ref_placeOf_9 f_Ref_9 (tg := 2) rfl hK.1 hF.a0 ?_
                    refine ZE.iload_n d_Ref_placeOf_12 rfl ?_
                    refine ZE.ialdE (v := 11) d_Ref_placeOf_13 hK.k1 (by have hn0 := hK.n1; show 0 ≤ 4 ∧ 4 < gn G (o + 1); omega) (hF.sev 4 (by decide)) ?_
                    refine ZE.iload_n d_Ref_placeOf_14 rfl ?_
                    refine ZE.icmp_ne (tgt := 20) d_Ref_placeOf_15 rfl (by unfold zR; omega) hp (fun c15 => ?_) (fun c15 => ?_)
                    · refine ZE.iinc (ls2 := [(2, o), (0, p), (0, 5)]) d_Ref_placeOf_20 rfl rfl ?_
                      refine ZE.goto (tgt := 2) d_Ref_placeOf_23 rfl ?_
                      refine ZE.iload_n d_Ref_placeOf_2 rfl ?_
                      refine ZE.bipush (n := 7) d_Ref_placeOf_3 rfl ?_
                      refine ZE.icmp_ge (tgt := 26) d_Ref_placeOf_5 rfl (by unfold zR; omega) (by unfold zR; omega) (fun c5 => ?_) (fun c5 => ?_)
                      · exact absurd c5 (by decide)
                      · refine ZE.aload_n d_Ref_placeOf_8 rfl ?_
                        refine ZE.getE (v := o + 1) d_Ref_placeOf_9 f_Ref_9 (tg := 2) rfl hK.1 hF.a0 ?_
                        refine ZE.iload_n d_Ref_placeOf_12 rfl ?_
                        refine ZE.ialdE (v := 13) d_Ref_placeOf_13 hK.k1 (by have hn0 := hK.n1; show 0 ≤ 5 ∧ 5 < gn G (o + 1); omega) (hF.sev 5 (by decide)) ?_
                        refine ZE.iload_n d_Ref_placeOf_14 rfl ?_
                        refine ZE.icmp_ne (tgt := 20) d_Ref_placeOf_15 rfl (by unfold zR; omega) hp (fun c15 => ?_) (fun c15 => ?_)
                        · refine ZE.iinc (ls2 := [(2, o), (0, p), (0, 6)]) d_Ref_placeOf_20 rfl rfl ?_
                          refine ZE.goto (tgt := 2) d_Ref_placeOf_23 rfl ?_
                          refine ZE.iload_n d_Ref_placeOf_2 rfl ?_
                          refine ZE.bipush (n := 7) d_Ref_placeOf_3 rfl ?_
                          refine ZE.icmp_ge (tgt := 26) d_Ref_placeOf_5 rfl (by unfold zR; omega) (by unfold zR; omega) (fun c5 => ?_) (fun c5 => ?_)
                          · exact absurd c5 (by decide)
                          · refine ZE.aload_n d_Ref_placeOf_8 rfl ?_
                            refine ZE.getE (v := o + 1) d_Ref_placeOf_9 f_Ref_9 (tg := 2) rfl hK.1 hF.a0 ?_
                            refine ZE.iload_n d_Ref_placeOf_12 rfl ?_
                            refine ZE.ialdE (v := 17) d_Ref_placeOf_13 hK.k1 (by have hn0 := hK.n1; show 0 ≤ 6 ∧ 6 < gn G (o + 1); omega) (hF.sev 6 (by decide)) ?_
                            refine ZE.iload_n d_Ref_placeOf_14 rfl ?_
                            refine ZE.icmp_ne (tgt := 20) d_Ref_placeOf_15 rfl (by unfold zR; omega) hp (fun c15 => ?_) (fun c15 => ?_)
                            · refine ZE.iinc (ls2 := [(2, o), (0, p), (0, 7)]) d_Ref_placeOf_20 rfl rfl ?_
                              refine ZE.goto (tgt := 2) d_Ref_placeOf_23 rfl ?_
                              refine ZE.iload_n d_Ref_placeOf_2 rfl ?_
                              refine ZE.bipush (n := 7) d_Ref_placeOf_3 rfl ?_
                              refine ZE.icmp_ge (tgt := 26) d_Ref_placeOf_5 rfl (by unfold zR; omega) (by unfold zR; omega) (fun c5 => ?_) (fun c5 => ?_)
                              · refine ZE.iconst (n := (-1)) d_Ref_placeOf_26 ?_
                                refine ZE.iret d_Ref_placeOf_27 rfl ?_
                                rw [plc_no (by omega)] at k; exact k
                              · exact absurd c5 (by decide)
                            · refine ZE.iload_n d_Ref_placeOf_18 rfl ?_
                              refine ZE.iret d_Ref_placeOf_19 rfl ?_
                              rw [← c15] at k; exact k
                        · refine ZE.iload_n d_Ref_placeOf_18 rfl ?_
                          refine ZE.iret d_Ref_placeOf_19 rfl ?_
                          rw [← c15] at k; exact k
                    · refine ZE.iload_n d_Ref_placeOf_18 rfl ?_
                      refine ZE.iret d_Ref_placeOf_19 rfl ?_
                      rw [← c15] at k; exact k
                · refine ZE.iload_n d_Ref_placeOf_18 rfl ?_
                  refine ZE.iret d_Ref_placeOf_19 rfl ?_
                  rw [← c15] at k; exact k
            · refine ZE.iload_n d_Ref_placeOf_18 rfl ?_
              refine ZE.iret d_Ref_placeOf_19 rfl ?_
              rw [← c15] at k; exact k
        · refine ZE.iload_n d_Ref_placeOf_18 rfl ?_
          refine ZE.iret d_Ref_placeOf_19 rfl ?_
          rw [← c15] at k; exact k
    · refine ZE.iload_n d_Ref_placeOf_18 rfl ?_
      refine ZE.iret d_Ref_placeOf_19 rfl ?_
      rw [← c15] at k; exact k
set_option maxRecDepth 20000 in
set_option maxHeartbeats 4000000 in
theorem r_many {d : Nat} {G : zG} {A : Int → Int → Int} {P : Option zV → zG → Prop} {s : Nat} (hs : s < 512) (k : P (some (0, (pop s : Int))) (gw G A)) : ZE d M_Ref_many (gw G A) 0 [(0, (s : Int)), (9, 0), (9, 0)] [] P := by
  refine ZE.iconst (n := 0) d_Ref_many_0 ?_
  refine ZE.istore_n (ls2 := [(0, (s : Int)), (0, 0), (9, 0)]) d_Ref_many_1 (Nat.le_of_ble_eq_true rfl) rfl ?_
  refine ZE.iload_n d_Ref_many_2 rfl ?_
  refine ZE.istore_n (ls2 := [(0, (s : Int)), (0, 0), (0, (s : Int))]) d_Ref_many_3 (Nat.le_of_ble_eq_true rfl) rfl ?_
  have L4 : ∀ (t : Nat) (n : Int) (x : Nat) (hx : x < 512) (hn : n + pop x = pop s), x < t → ZE d M_Ref_many (gw G A) 4 [(0, (s : Int)), (0, n), (0, (x : Int))] [] P := by
    intro t
    induction t with
    | zero => intro n x hx hn hm; exact absurd hm (Nat.not_lt_zero _)
    | succ t ih =>
      intro n x hx hn hm
      refine ZE.iload_n d_Ref_many_4 rfl ?_
      refine ZE.if_eq (tgt := 20) d_Ref_many_5 rfl (by unfold zR; omega) (fun c5 => ?_) (fun c5 => ?_)
      · refine ZE.iload_n d_Ref_many_20 rfl ?_
        refine ZE.iret d_Ref_many_21 rfl ?_
        have e : x = 0 := by omega
        subst e
        have e0 : pop 0 = 0 := rfl
        rw [show n = (pop s : Int) by omega]
        exact k
      · have c5x : x ≠ 0 := by omega
        refine ZE.iinc (ls2 := [(0, (s : Int)), (0, n + 1), (0, (x : Int))]) d_Ref_many_8 rfl rfl ?_
        refine ZE.iload_n d_Ref_many_11 rfl ?_
        refine ZE.iload_n d_Ref_many_12 rfl ?_
        refine ZE.iconst (n := 1) d_Ref_many_13 ?_
        refine ZE.isub d_Ref_many_14 ?_
        refine ZE.iand d_Ref_many_15 ?_
        refine ZE.istore_n (ls2 := [(0, (s : Int)), (0, n + 1), (0, zand (x : Int) ((x : Int) - 1))]) d_Ref_many_16 (Nat.le_of_ble_eq_true rfl) rfl ?_
        refine ZE.goto (tgt := 4) d_Ref_many_17 rfl ?_
        have e := pop_step x hx c5x
        rw [show (x : Int) - 1 = ((x - 1 : Nat) : Int) by omega, zand_nat (by omega) (by omega)]
        exact ih (n + 1) (x &&& (x - 1)) (by omega) (by omega) (by omega)
  exact L4 _ 0 s hs (by omega) (Nat.lt_succ_self _)
set_option maxRecDepth 20000 in
set_option maxHeartbeats 4000000 in
theorem r_powerIn {d : Nat} {G : zG} {A : Int → Int → Int} {P : Option zV → zG → Prop} {s p : Nat} (hs : s < 2147483648) (h0 : 0 < s) (hp : 2 ≤ p) (hp2 : p < 2147483648) (k : P (some (0, (vp p s : Int))) (gw G A)) : ZE d M_Ref_powerIn (gw G A) 0 [(0, (s : Int)), (0, (p : Int)), (9, 0), (9, 0)] [] P := by
  refine ZE.iconst (n := 0) d_Ref_powerIn_0 ?_
  refine ZE.istore_n (ls2 := [(0, (s : Int)), (0, (p : Int)), (0, 0), (9, 0)]) d_Ref_powerIn_1 (Nat.le_of_ble_eq_true rfl) rfl ?_
  refine ZE.iload_n d_Ref_powerIn_2 rfl ?_
  refine ZE.istore_n (ls2 := [(0, (s : Int)), (0, (p : Int)), (0, 0), (0, (s : Int))]) d_Ref_powerIn_3 (Nat.le_of_ble_eq_true rfl) rfl ?_
  have L4 : ∀ (t : Nat) (n : Int) (x : Nat) (hx : 0 < x) (hx2 : x ≤ s) (hn : n + vp p x = vp p s), x < t → ZE d M_Ref_powerIn (gw G A) 4 [(0, (s : Int)), (0, (p : Int)), (0, n), (0, (x : Int))] [] P := by
    intro t
    induction t with
    | zero => intro n x hx hx2 hn hm; exact absurd hm (Nat.not_lt_zero _)
    | succ t ih =>
      intro n x hx hx2 hn hm
      refine ZE.iload_n d_Ref_powerIn_4 rfl ?_
      refine ZE.iload_n d_Ref_powerIn_5 rfl ?_
      refine ZE.iremP d_Ref_powerIn_6 (by omega) ?_
      rw [show ((x : Int) % (p : Int) : Int) = ((x % p : Nat) : Int) from (Int.natCast_emod x p).symm]
      refine ZE.if_ne (tgt := 20) d_Ref_powerIn_7 rfl (by have := Nat.mod_lt x (show 0 < p by omega); unfold zR; omega) (fun c7 => ?_) (fun c7 => ?_)
      · have e := vp_end (p := p) (n := x) (by omega)
        rw [show n = (vp p s : Int) by omega]
        refine ZE.iload_n d_Ref_powerIn_20 rfl ?_
        refine ZE.iret d_Ref_powerIn_21 rfl ?_
        exact k
      · have c7x : x % p = 0 := by omega
        refine ZE.iinc (ls2 := [(0, (s : Int)), (0, (p : Int)), (0, n + 1), (0, (x : Int))]) d_Ref_powerIn_10 rfl rfl ?_
        refine ZE.iload_n d_Ref_powerIn_13 rfl ?_
        refine ZE.iload_n d_Ref_powerIn_14 rfl ?_
        refine ZE.idivP d_Ref_powerIn_15 (by omega) ?_
        rw [show ((x : Int) / (p : Int) : Int) = ((x / p : Nat) : Int) from (Int.natCast_ediv x p).symm]
        refine ZE.istore_n (ls2 := [(0, (s : Int)), (0, (p : Int)), (0, n + 1), (0, ((x / p : Nat) : Int))]) d_Ref_powerIn_16 (Nat.le_of_ble_eq_true rfl) rfl ?_
        refine ZE.goto (tgt := 4) d_Ref_powerIn_17 rfl ?_
        have e := vp_step hp hx c7x
        exact ih (n + 1) (x / p) (by omega) (by omega) (by omega) (by omega)
  exact L4 _ 0 s h0 (Nat.le_refl _) (by omega) (Nat.lt_succ_self _)
set_option maxRecDepth 20000 in
set_option maxHeartbeats 4000000 in
theorem r_digitsOf {d : Nat} {G : zG} {A : Int → Int → Int} {P : Option zV → zG → Prop} {s : Nat} (hs : s < 2147483648) (k : P (some (0, (dl s : Int))) (gw G A)) : ZE d M_Ref_digitsOf (gw G A) 0 [(0, (s : Int)), (9, 0), (9, 0)] [] P := by
  refine ZE.iconst (n := 1) d_Ref_digitsOf_0 ?_
  refine ZE.istore_n (ls2 := [(0, (s : Int)), (0, 1), (9, 0)]) d_Ref_digitsOf_1 (Nat.le_of_ble_eq_true rfl) rfl ?_
  refine ZE.iload_n d_Ref_digitsOf_2 rfl ?_
  refine ZE.bipush (n := 10) d_Ref_digitsOf_3 rfl ?_
  refine ZE.idivP d_Ref_digitsOf_5 (by omega) ?_
  refine ZE.istore_n (ls2 := [(0, (s : Int)), (0, 1), (0, (s : Int) / 10)]) d_Ref_digitsOf_6 (Nat.le_of_ble_eq_true rfl) rfl ?_
  rw [show (s : Int) / 10 = ((s / 10 : Nat) : Int) by omega]
  have L7 : ∀ (t : Nat) (n : Int) (x : Nat) (hx : x ≤ s) (hn : n + nd 10 x = dl s), x < t → ZE d M_Ref_digitsOf (gw G A) 7 [(0, (s : Int)), (0, n), (0, (x : Int))] [] P := by
    intro t
    induction t with
    | zero => intro n x hx hn hm; exact absurd hm (Nat.not_lt_zero _)
    | succ t ih =>
      intro n x hx hn hm
      refine ZE.iload_n d_Ref_digitsOf_7 rfl ?_
      refine ZE.if_le (tgt := 22) d_Ref_digitsOf_8 rfl (by unfold zR; omega) (fun c8 => ?_) (fun c8 => ?_)
      · have e : x = 0 := by omega
        subst e
        have e0 : nd 10 0 = 0 := rfl
        rw [show n = (dl s : Int) by omega]
        refine ZE.iload_n d_Ref_digitsOf_22 rfl ?_
        refine ZE.iret d_Ref_digitsOf_23 rfl ?_
        exact k
      · refine ZE.iinc (ls2 := [(0, (s : Int)), (0, n + 1), (0, (x : Int))]) d_Ref_digitsOf_11 rfl rfl ?_
        refine ZE.iload_n d_Ref_digitsOf_14 rfl ?_
        refine ZE.bipush (n := 10) d_Ref_digitsOf_15 rfl ?_
        refine ZE.idivP d_Ref_digitsOf_17 (by omega) ?_
        refine ZE.istore_n (ls2 := [(0, (s : Int)), (0, n + 1), (0, (x : Int) / 10)]) d_Ref_digitsOf_18 (Nat.le_of_ble_eq_true rfl) rfl ?_
        refine ZE.goto (tgt := 7) d_Ref_digitsOf_19 rfl ?_
        have e := nd_pos (b := 10) (v := x) (by omega) (by omega)
        rw [show (x : Int) / 10 = ((x / 10 : Nat) : Int) by omega]
        exact ih (n + 1) (x / 10) (by omega) (by omega) (by omega)
  exact L7 _ 1 (s / 10) (by omega) (by unfold dl; omega) (Nat.lt_succ_self _)
set_option maxRecDepth 20000 in
set_option maxHeartbeats 4000000 in
theorem r_digitIn {d : Nat} {G : zG} {A : Int → Int → Int} {P : Option zV → zG → Prop} {s i : Nat} (hs : s < 2147483648) (hi : i < 2147483648) (k : P (some (0, (dg 10 s i : Int))) (gw G A)) : ZE d M_Ref_digitIn (gw G A) 0 [(0, (s : Int)), (0, (i : Int)), (9, 0), (9, 0)] [] P := by
  refine ZE.iload_n d_Ref_digitIn_0 rfl ?_
  refine ZE.istore_n (ls2 := [(0, (s : Int)), (0, (i : Int)), (0, (s : Int)), (9, 0)]) d_Ref_digitIn_1 (Nat.le_of_ble_eq_true rfl) rfl ?_
  refine ZE.iconst (n := 0) d_Ref_digitIn_2 ?_
  refine ZE.istore_n (ls2 := [(0, (s : Int)), (0, (i : Int)), (0, (s : Int)), (0, 0)]) d_Ref_digitIn_3 (Nat.le_of_ble_eq_true rfl) rfl ?_
  have L4 : ∀ (t : Nat) (j : Nat) (x : Nat) (hj : j ≤ i) (hxs : x ≤ s) (hx : x = s / 10 ^ j), i - j < t → ZE d M_Ref_digitIn (gw G A) 4 [(0, (s : Int)), (0, (i : Int)), (0, (x : Int)), (0, (j : Int))] [] P := by
    intro t
    induction t with
    | zero => intro j x hj hxs hx hm; exact absurd hm (Nat.not_lt_zero _)
    | succ t ih =>
      intro j x hj hxs hx hm
      refine ZE.iload_n d_Ref_digitIn_4 rfl ?_
      refine ZE.iload_n d_Ref_digitIn_5 rfl ?_
      refine ZE.icmp_ge (tgt := 20) d_Ref_digitIn_6 rfl (by unfold zR; omega) (by unfold zR; omega) (fun c6 => ?_) (fun c6 => ?_)
      · have e : j = i := by omega
        subst e
        refine ZE.iload_n d_Ref_digitIn_20 rfl ?_
        refine ZE.bipush (n := 10) d_Ref_digitIn_21 rfl ?_
        refine ZE.iremP d_Ref_digitIn_23 (by omega) ?_
        refine ZE.iret d_Ref_digitIn_24 rfl ?_
        rw [show (x : Int) % 10 = (dg 10 s j : Int) from by unfold dg; rw [← hx]; omega]
        exact k
      · refine ZE.iload_n d_Ref_digitIn_9 rfl ?_
        refine ZE.bipush (n := 10) d_Ref_digitIn_10 rfl ?_
        refine ZE.idivP d_Ref_digitIn_12 (by omega) ?_
        refine ZE.istore_n (ls2 := [(0, (s : Int)), (0, (i : Int)), (0, (x : Int) / 10), (0, (j : Int))]) d_Ref_digitIn_13 (Nat.le_of_ble_eq_true rfl) rfl ?_
        refine ZE.iinc (ls2 := [(0, (s : Int)), (0, (i : Int)), (0, (x : Int) / 10), (0, (j : Int) + 1)]) d_Ref_digitIn_14 rfl rfl ?_
        refine ZE.goto (tgt := 4) d_Ref_digitIn_17 rfl ?_
        rw [show (x : Int) / 10 = ((x / 10 : Nat) : Int) by omega, show (j : Int) + 1 = ((j + 1 : Nat) : Int) by omega]
        exact ih (j + 1) (x / 10) (by omega) (by omega) (by rw [hx, Nat.pow_succ, Nat.div_div_eq_div_mul]) (by omega)
  exact L4 _ 0 s (Nat.zero_le _) (Nat.le_refl _) (by rw [Nat.pow_zero, Nat.div_one]) (Nat.lt_succ_self _)
set_option maxRecDepth 20000 in
set_option maxHeartbeats 4000000 in
theorem r_rootIn {d : Nat} {G : zG} {A : Int → Int → Int} {P : Option zV → zG → Prop} {v : Nat} (hv : v < 2147483648) (k : ∀ r : Nat, r * r ≤ v → v < (r + 1) * (r + 1) → P (some (0, (r : Int))) (gw G A)) : ZE d M_Ref_rootIn (gw G A) 0 [(0, (v : Int)), (9, 0), (9, 0), (9, 0)] [] P := by
  refine ZE.iconst (n := 0) d_Ref_rootIn_0 ?_
  refine ZE.istore_n (ls2 := [(0, (v : Int)), (0, 0), (9, 0), (9, 0)]) d_Ref_rootIn_1 (Nat.le_of_ble_eq_true rfl) rfl ?_
  refine ZE.ldc (v := 46340) d_Ref_rootIn_2 k_Ref_118 ?_
  refine ZE.istore_n (ls2 := [(0, (v : Int)), (0, 0), (0, 46340), (9, 0)]) d_Ref_rootIn_4 (Nat.le_of_ble_eq_true rfl) rfl ?_
  have L5 : ∀ (t : Nat) (lo : Nat) (hi : Nat) (h1 : lo ≤ hi) (h2 : hi ≤ 46340) (hl : lo * lo ≤ v) (hh : v < (hi + 1) * (hi + 1)), hi - lo < t → ZE d M_Ref_rootIn (gw G A) 5 [(0, (v : Int)), (0, (lo : Int)), (0, (hi : Int)), (9, 0)] [] P := by
    intro t
    induction t with
    | zero => intro lo hi h1 h2 hl hh hm; exact absurd hm (Nat.not_lt_zero _)
    | succ t ih =>
      intro lo hi h1 h2 hl hh hm
      refine ZE.iload_n d_Ref_rootIn_5 rfl ?_
      refine ZE.iload_n d_Ref_rootIn_6 rfl ?_
      refine ZE.icmp_ge (tgt := 37) d_Ref_rootIn_7 rfl (by unfold zR; omega) (by unfold zR; omega) (fun c7 => ?_) (fun c7 => ?_)
      · have e : hi = lo := by omega
        subst e
        refine ZE.iload_n d_Ref_rootIn_37 rfl ?_
        refine ZE.iret d_Ref_rootIn_38 rfl ?_
        exact k hi hl hh
      · obtain ⟨md, hmd0⟩ : ∃ md : Nat, md = (lo + hi + 1) / 2 := ⟨_, rfl⟩
        have hmd : ((lo : Int) + hi + 1) / 2 = ((md : Nat) : Int) := by omega
        refine ZE.iload_n d_Ref_rootIn_10 rfl ?_
        refine ZE.iload_n d_Ref_rootIn_11 rfl ?_
        refine ZE.iadd d_Ref_rootIn_12 ?_
        refine ZE.iconst (n := 1) d_Ref_rootIn_13 ?_
        refine ZE.iadd d_Ref_rootIn_14 ?_
        refine ZE.iconst (n := 2) d_Ref_rootIn_15 ?_
        refine ZE.idivP d_Ref_rootIn_16 (by omega) ?_
        rw [show ((((lo : Int) + (hi : Int)) + 1) / 2 : Int) = ((md : Nat) : Int) from hmd]
        refine ZE.istore_n (ls2 := [(0, (v : Int)), (0, (lo : Int)), (0, (hi : Int)), (0, ((md : Nat) : Int))]) d_Ref_rootIn_17 (Nat.le_of_ble_eq_true rfl) rfl ?_
        refine ZE.iload_n d_Ref_rootIn_18 rfl ?_
        refine ZE.iload_n d_Ref_rootIn_19 rfl ?_
        refine ZE.imul d_Ref_rootIn_20 ?_
        refine ZE.iload_n d_Ref_rootIn_21 rfl ?_
        have e2 : ((md * md : Nat) : Int) = (md : Int) * md := Int.natCast_mul _ _
        have e3 : md * md ≤ 46340 * 46340 := Nat.mul_le_mul (by omega) (by omega)
        refine ZE.icmp_gt (tgt := 30) d_Ref_rootIn_22 rfl (by unfold zR; omega) (by unfold zR; omega) (fun c22 => ?_) (fun c22 => ?_)
        · refine ZE.iload_n d_Ref_rootIn_30 rfl ?_
          refine ZE.iconst (n := 1) d_Ref_rootIn_31 ?_
          refine ZE.isub d_Ref_rootIn_32 ?_
          refine ZE.istore_n (ls2 := [(0, (v : Int)), (0, (lo : Int)), (0, ((md : Nat) : Int) - 1), (0, ((md : Nat) : Int))]) d_Ref_rootIn_33 (Nat.le_of_ble_eq_true rfl) rfl ?_
          refine ZE.goto (tgt := 5) d_Ref_rootIn_34 rfl ?_
          refine ZE.mask [true, true, true, false] ?_
          show ZE d M_Ref_rootIn (gw G A) 5 [(0, (v : Int)), (0, (lo : Int)), (0, ((md : Nat) : Int) - 1), (9, 0)] [] _
          rw [show ((md : Nat) : Int) - 1 = ((md - 1 : Nat) : Int) by omega]
          refine ih lo (md - 1) (by omega) (by omega) hl ?_ (by omega)
          have e : md - 1 + 1 = md := by omega
          rw [e]
          have e2 : ((md * md : Nat) : Int) = (md : Int) * md := by rw [Int.natCast_mul]
          omega
        · refine ZE.iload_n d_Ref_rootIn_25 rfl ?_
          refine ZE.istore_n (ls2 := [(0, (v : Int)), (0, ((md : Nat) : Int)), (0, (hi : Int)), (0, ((md : Nat) : Int))]) d_Ref_rootIn_26 (Nat.le_of_ble_eq_true rfl) rfl ?_
          refine ZE.goto (tgt := 34) d_Ref_rootIn_27 rfl ?_
          refine ZE.goto (tgt := 5) d_Ref_rootIn_34 rfl ?_
          refine ZE.mask [true, true, true, false] ?_
          show ZE d M_Ref_rootIn (gw G A) 5 [(0, (v : Int)), (0, ((md : Nat) : Int)), (0, (hi : Int)), (9, 0)] [] _
          refine ih md hi (by omega) (by omega) ?_ hh (by omega)
          have e2 : ((md * md : Nat) : Int) = (md : Int) * md := by rw [Int.natCast_mul]
          omega
  exact L5 _ 0 46340 (by omega) (by omega) (by omega) (by omega) (Nat.lt_succ_self _)
