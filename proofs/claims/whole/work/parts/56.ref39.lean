def glV (S : Nat) (k : Int) : Int := if (0 ≤ k ∧ k ≤ 400) ∧ (k = 0 ∨ S ≠ 0) then (dl (gN S k.toNat) : Int) else -1
def gdV (S : Nat) (k i : Int) : Int := if (0 ≤ k ∧ k ≤ 400) ∧ (k = 0 ∨ S ≠ 0) then dgN (gN S k.toNat) i else -1
theorem gl0 {S : Nat} {f : Int → Int} (h : ∀ c : Nat, c < 7 → f c = 0) : ∀ c : Nat, c < 7 → f c = ((gst S (0 - 1)).2 c : Int) := fun c hc => h c hc
set_option maxRecDepth 20000 in
set_option maxHeartbeats 4000000 in
theorem r_layGreat {d : Nat} {G : zG} {A : Int → Int → Int} {P : Option zV → zG → Prop} {o : Int} (hK : RK G o) (hF : RF A o) {S : Nat} (hR : RS S A o) (hS7 : S < 128) (hp5 : pop S ≤ 5) {kn : Nat} (hkn : kn ≤ 400) (k : ∀ B, gtF A B o → (kn = 0 ∨ S ≠ 0 → num (B (o + 2)) 126 (gN S kn)) → P (some (0, b2i (kn = 0 ∨ S ≠ 0))) (gw G B)) : ZE (d + 5) M_Ref_layGreat (gw G A) 0 [(2, o), (0, (kn : Int)), (9, 0), (9, 0)] [] P := by
  refine ZE.aload_n d_Ref_layGreat_0 rfl ?_
  refine ZE.bipush (n := 126) d_Ref_layGreat_1 rfl ?_
  refine ZE.iconst (n := 1) d_Ref_layGreat_3 ?_
  refine ZE.cV [(0, 126), (0, 1)] [] [(2, o), (0, 126), (0, 1), (9, 0), (9, 0)] d_Ref_layGreat_4 l_Ref_69 rfl rfl rfl rfl rfl rfl hK.1 ?_
  refine r_setSmall (n := 126) (v := 1) hK hF (by omega) (by omega) (fun f hn1 ho1 => ?_)
  show ZE (d + 5) M_Ref_layGreat (gw G (upA A (o + 2) f)) 7 [(2, o), (0, (kn : Int)), (9, 0), (9, 0)] [] _
  refine ZE.iconst (n := 0) d_Ref_layGreat_7 ?_
  refine ZE.istore_n (ls2 := [(2, o), (0, (kn : Int)), (0, 0), (9, 0)]) d_Ref_layGreat_8 (Nat.le_of_ble_eq_true rfl) rfl ?_
  have L9 : ∀ (t : Nat) (j : Nat) (x0 : Int → Int) (hj : j ≤ 7) (hx0 : ∀ c : Nat, c < j → x0 c = 0), 7 - j < t → ZE (d + 5) M_Ref_layGreat (gw G (upA (upA A (o + 2) f) (o + 16) x0)) 9 [(2, o), (0, (kn : Int)), (0, (j : Int)), (9, 0)] [] P := by
    intro t
    induction t with
    | zero => intro j x0 hj hx0 hm; exact absurd hm (Nat.not_lt_zero _)
    | succ t ih =>
      intro j x0 hj hx0 hm
      refine ZE.iload_n d_Ref_layGreat_9 rfl ?_
      refine ZE.bipush (n := 7) d_Ref_layGreat_10 rfl ?_
      refine ZE.icmp_ge (tgt := 28) d_Ref_layGreat_12 rfl (by unfold zR; omega) (by unfold zR; omega) (fun c12 => ?_) (fun c12 => ?_)
      · have e7 : j = 7 := by omega
        rw [e7] at hx0
        refine ZE.iconst (n := 0) d_Ref_layGreat_28 ?_
        refine ZE.istore_n (ls2 := [(2, o), (0, (kn : Int)), (0, 0), (9, 0)]) d_Ref_layGreat_29 (Nat.le_of_ble_eq_true rfl) rfl ?_
        have L30 : ∀ (t : Nat) (i : Nat) (B : Int → Int → Int) (hik : i ≤ kn + 1) (hS1 : i ≤ 1 ∨ S ≠ 0) (gB : gtF A B o) (hgB : ∀ q : Nat, q < i → num (B (o + 15)) q (gN S q)) (hxB : ∀ c : Nat, c < 7 → B (o + 16) c = ((gst S (i - 1)).2 c : Int)) (hnB : num (B (o + 2)) 126 (gN S (i - 1))), kn + 1 - i < t → ZE (d + 5) M_Ref_layGreat (gw G B) 30 [(2, o), (0, (kn : Int)), (0, (i : Int)), (9, 0)] [] P := by
          intro t
          induction t with
          | zero => intro i B hik hS1 gB hgB hxB hnB hm; exact absurd hm (Nat.not_lt_zero _)
          | succ t ih =>
            intro i B hik hS1 gB hgB hxB hnB hm
            have ihO := ih
            have hmO := hm
            have hFB : RF B o := hF.wi gB.wi
            have hRB : RS S B o := hR.wi gB.wi hS7 hp5
            refine ZE.iload_n d_Ref_layGreat_30 rfl ?_
            refine ZE.iload_n d_Ref_layGreat_31 rfl ?_
            refine ZE.icmp_gt (tgt := 99) d_Ref_layGreat_32 rfl (by unfold zR; omega) (by unfold zR; omega) (fun c32 => ?_) (fun c32 => ?_)
            · refine ZE.iconst (n := 1) d_Ref_layGreat_99 ?_
              refine ZE.zret d_Ref_layGreat_100 rfl (by omega) ?_
              have k1 := k B gB (fun _ => by have q := hnB; rw [show i - 1 = kn by omega] at q; exact q)
              rw [b2i_t (by omega)] at k1
              exact k1
            · refine ZE.iload_n d_Ref_layGreat_35 rfl ?_
              refine ZE.if_le (tgt := 48) d_Ref_layGreat_36 rfl (by unfold zR; omega) (fun c36 => ?_) (fun c36 => ?_)
              · refine ZE.iload_n d_Ref_layGreat_48 rfl ?_
                refine ZE.if_le (tgt := 56) d_Ref_layGreat_49 rfl (by unfold zR; omega) (fun c49 => ?_) (fun c49 => ?_)
                · refine ZE.iconst (n := 0) d_Ref_layGreat_56 ?_
                  refine ZE.istore_n (ls2 := [(2, o), (0, (kn : Int)), (0, (i : Int)), (0, 0)]) d_Ref_layGreat_57 (Nat.le_of_ble_eq_true rfl) rfl ?_
                  have hCg : B (o + 15) = B (o + 15) := by rfl
                  have L58 : ∀ (t : Nat) (j : Nat) (g : Int → Int) (hj : j ≤ 130) (hg0 : ∀ c : Nat, c < j → g (130 * (i : Int) + c) = (B (o + 2)) (16380 + c)) (hog : outs (B (o + 15)) g i), 130 - j < t → ZE (d + 5) M_Ref_layGreat (gw G (upA B (o + 15) g)) 58 [(2, o), (0, (kn : Int)), (0, (i : Int)), (0, (j : Int))] [] P := by
                    intro t
                    induction t with
                    | zero => intro j g hj hg0 hog hm; exact absurd hm (Nat.not_lt_zero _)
                    | succ t ih =>
                      intro j g hj hg0 hog hm
                      refine ZE.iload_n d_Ref_layGreat_58 rfl ?_
                      refine ZE.sipush (n := 130) d_Ref_layGreat_59 rfl ?_
                      refine ZE.icmp_ge (tgt := 93) d_Ref_layGreat_62 rfl (by unfold zR; omega) (by unfold zR; omega) (fun c62 => ?_) (fun c62 => ?_)
                      · have e130 : j = 130 := by omega
                        rw [e130] at hg0
                        have hng : num g i (gN S i) := by
                          have hsrc : num (B (o + 2)) 126 (gN S i) := by have q := hnB; rw [show i - 1 = i by omega] at q; exact q
                          have hndi := (gN_nd (S := S) (q := i) (by omega)).1
                          refine ⟨?_, fun c hc => ?_⟩
                          · have q1 := hg0 0 (by omega)
                            rw [show 130 * (i : Int) + ((0 : Nat) : Int) = 130 * (i : Int) by omega, show 16380 + ((0 : Nat) : Int) = 130 * 126 by omega] at q1
                            exact q1.trans hsrc.1
                          · have q1 := hg0 (c + 1) (by omega)
                            rw [show 130 * (i : Int) + ((c + 1 : Nat) : Int) = 130 * (i : Int) + 1 + c by omega, show 16380 + ((c + 1 : Nat) : Int) = 130 * 126 + 1 + c by omega] at q1
                            exact q1.trans (hsrc.2 c hc)
                        have hg1 : ∀ q : Nat, q < i + 1 → num ((upA B (o + 15) g) (o + 15)) q (gN S q) := by
                          intro q hq
                          rw [upA_at]
                          by_cases e : q = i
                          · subst e; exact hng
                          · exact hog.num (by omega) (by have := (gN_nd (S := S) (q := q) (by omega)).1; omega) (hgB q (by omega))
                        refine ZE.iinc (ls2 := [(2, o), (0, (kn : Int)), (0, (i : Int) + 1), (0, (j : Int))]) d_Ref_layGreat_93 rfl rfl ?_
                        refine ZE.goto (tgt := 30) d_Ref_layGreat_96 rfl ?_
                        refine ZE.mask [true, true, true, false] ?_
                        show ZE (d + 5) M_Ref_layGreat (gw G (upA B (o + 15) g)) 30 [(2, o), (0, (kn : Int)), (0, (i : Int) + 1), (9, 0)] [] _
                        rw [show (i : Int) + 1 = ((i + 1 : Nat) : Int) by omega]
                        exact ihO (i + 1) _ (by omega) (by omega) (gB.row (Or.inl rfl)) hg1 (by rw [show i + 1 - 1 = i - 1 by omega, upA_ne _ _ (by omega)]; exact hxB) (by rw [show i + 1 - 1 = i - 1 by omega, upA_ne _ _ (by omega)]; exact hnB) (by omega)
                      · refine ZE.aload_n d_Ref_layGreat_65 rfl ?_
                        refine ZE.getE (v := o + 15) d_Ref_layGreat_66 f_Ref_53 (tg := 2) rfl hK.1 (hFB.uA (by omega)).a24 ?_
                        refine ZE.sipush (n := 130) d_Ref_layGreat_69 rfl ?_
                        refine ZE.iload_n d_Ref_layGreat_72 rfl ?_
                        refine ZE.imul d_Ref_layGreat_73 ?_
                        refine ZE.iload_n d_Ref_layGreat_74 rfl ?_
                        refine ZE.iadd d_Ref_layGreat_75 ?_
                        refine ZE.aload_n d_Ref_layGreat_76 rfl ?_
                        refine ZE.getE (v := o + 2) d_Ref_layGreat_77 f_Ref_13 (tg := 2) rfl hK.1 (hFB.uA (by omega)).a2 ?_
                        refine ZE.sipush (n := 16380) d_Ref_layGreat_80 rfl ?_
                        refine ZE.iload_n d_Ref_layGreat_83 rfl ?_
                        refine ZE.iadd d_Ref_layGreat_84 ?_
                        refine ZE.ialdE (v := B (o + 2) (16380 + (j : Int))) d_Ref_layGreat_85 hK.k2 (by have hn0 := hK.n2; show 0 ≤ (16380 + (j : Int)) ∧ (16380 + (j : Int)) < gn G (o + 2); omega) (congrFun (upA_ne _ _ (by omega)) _) ?_
                        refine ZE.iast d_Ref_layGreat_86 hK.k15 (by have hn0 := hK.n15; show 0 ≤ ((130 * (i : Int)) + (j : Int)) ∧ ((130 * (i : Int)) + (j : Int)) < gn G (o + 15); omega) ?_
                        show ZE (d + 5) M_Ref_layGreat (gw G (up2 (upA B (o + 15) g) (o + 15) ((130 * (i : Int)) + (j : Int)) (B (o + 2) (16380 + (j : Int))))) 87 [(2, o), (0, (kn : Int)), (0, (i : Int)), (0, (j : Int))] [] _
                        rw [up2_upA]
                        refine ZE.iinc (ls2 := [(2, o), (0, (kn : Int)), (0, (i : Int)), (0, (j : Int) + 1)]) d_Ref_layGreat_87 rfl rfl ?_
                        refine ZE.goto (tgt := 58) d_Ref_layGreat_90 rfl ?_
                        rw [show (j : Int) + 1 = ((j + 1 : Nat) : Int) by omega]
                        refine ih (j + 1) _ (by omega) ?_ (hog.up (by omega)) (by omega)
                        intro c hc
                        by_cases e : c = j
                        · subst e; rw [up1_at]
                        · rw [up1_ne _ _ (by omega)]; exact hg0 c (by omega)
                  have L0 := L58 _ 0 (B (o + 15)) (by omega) (fun c hc => absurd hc (Nat.not_lt_zero _)) outs.rf (Nat.lt_succ_self _)
                  rw [← hCg, upA_self] at L0
                  exact L0
                · refine ZE.aload_n d_Ref_layGreat_52 rfl ?_
                  refine ZE.cV [] [] [(2, o), (9, 0), (9, 0)] d_Ref_layGreat_53 l_Ref_379 rfl rfl rfl rfl rfl rfl hK.1 ?_
                  refine r_layLeast (i := i - 1) hK hFB hRB hS7 hp5 (by omega) (by omega) (fun q hq => hgB q (by omega)) hxB (fun f7 x7 hn7 hx7 hro7 => ?_)
                  show ZE (d + 5) M_Ref_layGreat (gw G (upA (upA B (o + 2) f7) (o + 16) x7)) 56 [(2, o), (0, (kn : Int)), (0, (i : Int)), (9, 0)] [] _
                  have hn7i : num f7 126 (gN S i) := by have q := hn7; rw [show i - 1 + 1 = i by omega] at q; exact q
                  have hx7i : ∀ c : Nat, c < 7 → x7 c = ((gst S i).2 c : Int) := by have q := hx7; rw [show i - 1 + 1 = i by omega] at q; exact q
                  refine ZE.iconst (n := 0) d_Ref_layGreat_56 ?_
                  refine ZE.istore_n (ls2 := [(2, o), (0, (kn : Int)), (0, (i : Int)), (0, 0)]) d_Ref_layGreat_57 (Nat.le_of_ble_eq_true rfl) rfl ?_
                  have hCg : (upA (upA B (o + 2) f7) (o + 16) x7) (o + 15) = B (o + 15) := by rw [upA_ne _ _ (by omega), upA_ne _ _ (by omega)]
                  have L58 : ∀ (t : Nat) (j : Nat) (g : Int → Int) (hj : j ≤ 130) (hg0 : ∀ c : Nat, c < j → g (130 * (i : Int) + c) = f7 (16380 + c)) (hog : outs (B (o + 15)) g i), 130 - j < t → ZE (d + 5) M_Ref_layGreat (gw G (upA (upA (upA B (o + 2) f7) (o + 16) x7) (o + 15) g)) 58 [(2, o), (0, (kn : Int)), (0, (i : Int)), (0, (j : Int))] [] P := by
                    intro t
                    induction t with
                    | zero => intro j g hj hg0 hog hm; exact absurd hm (Nat.not_lt_zero _)
                    | succ t ih =>
                      intro j g hj hg0 hog hm
                      refine ZE.iload_n d_Ref_layGreat_58 rfl ?_
                      refine ZE.sipush (n := 130) d_Ref_layGreat_59 rfl ?_
                      refine ZE.icmp_ge (tgt := 93) d_Ref_layGreat_62 rfl (by unfold zR; omega) (by unfold zR; omega) (fun c62 => ?_) (fun c62 => ?_)
                      · have e130 : j = 130 := by omega
                        rw [e130] at hg0
                        have hng : num g i (gN S i) := by
                          have hsrc : num f7 126 (gN S i) := hn7i
                          have hndi := (gN_nd (S := S) (q := i) (by omega)).1
                          refine ⟨?_, fun c hc => ?_⟩
                          · have q1 := hg0 0 (by omega)
                            rw [show 130 * (i : Int) + ((0 : Nat) : Int) = 130 * (i : Int) by omega, show 16380 + ((0 : Nat) : Int) = 130 * 126 by omega] at q1
                            exact q1.trans hsrc.1
                          · have q1 := hg0 (c + 1) (by omega)
                            rw [show 130 * (i : Int) + ((c + 1 : Nat) : Int) = 130 * (i : Int) + 1 + c by omega, show 16380 + ((c + 1 : Nat) : Int) = 130 * 126 + 1 + c by omega] at q1
                            exact q1.trans (hsrc.2 c hc)
                        have hg1 : ∀ q : Nat, q < i + 1 → num ((upA (upA (upA B (o + 2) f7) (o + 16) x7) (o + 15) g) (o + 15)) q (gN S q) := by
                          intro q hq
                          rw [upA_at]
                          by_cases e : q = i
                          · subst e; exact hng
                          · exact hog.num (by omega) (by have := (gN_nd (S := S) (q := q) (by omega)).1; omega) (hgB q (by omega))
                        refine ZE.iinc (ls2 := [(2, o), (0, (kn : Int)), (0, (i : Int) + 1), (0, (j : Int))]) d_Ref_layGreat_93 rfl rfl ?_
                        refine ZE.goto (tgt := 30) d_Ref_layGreat_96 rfl ?_
                        refine ZE.mask [true, true, true, false] ?_
                        show ZE (d + 5) M_Ref_layGreat (gw G (upA (upA (upA B (o + 2) f7) (o + 16) x7) (o + 15) g)) 30 [(2, o), (0, (kn : Int)), (0, (i : Int) + 1), (9, 0)] [] _
                        rw [show (i : Int) + 1 = ((i + 1 : Nat) : Int) by omega]
                        exact ihO (i + 1) _ (by omega) (by omega) ((gB.big hro7).row (Or.inr rfl) |>.row (Or.inl rfl)) hg1 (by rw [show i + 1 - 1 = i by omega, upA_ne _ _ (by omega), upA_at]; exact hx7i) (by rw [show i + 1 - 1 = i by omega, upA_ne _ _ (by omega), upA_ne _ _ (by omega), upA_at]; exact hn7i) (by omega)
                      · refine ZE.aload_n d_Ref_layGreat_65 rfl ?_
                        refine ZE.getE (v := o + 15) d_Ref_layGreat_66 f_Ref_53 (tg := 2) rfl hK.1 (((hFB.uA (by omega)).uA (by omega)).uA (by omega)).a24 ?_
                        refine ZE.sipush (n := 130) d_Ref_layGreat_69 rfl ?_
                        refine ZE.iload_n d_Ref_layGreat_72 rfl ?_
                        refine ZE.imul d_Ref_layGreat_73 ?_
                        refine ZE.iload_n d_Ref_layGreat_74 rfl ?_
                        refine ZE.iadd d_Ref_layGreat_75 ?_
                        refine ZE.aload_n d_Ref_layGreat_76 rfl ?_
                        refine ZE.getE (v := o + 2) d_Ref_layGreat_77 f_Ref_13 (tg := 2) rfl hK.1 (((hFB.uA (by omega)).uA (by omega)).uA (by omega)).a2 ?_
                        refine ZE.sipush (n := 16380) d_Ref_layGreat_80 rfl ?_
                        refine ZE.iload_n d_Ref_layGreat_83 rfl ?_
                        refine ZE.iadd d_Ref_layGreat_84 ?_
                        refine ZE.ialdE (v := f7 (16380 + (j : Int))) d_Ref_layGreat_85 hK.k2 (by have hn0 := hK.n2; show 0 ≤ (16380 + (j : Int)) ∧ (16380 + (j : Int)) < gn G (o + 2); omega) ((congrFun (upA_ne _ _ (by omega)) _).trans ((congrFun (upA_ne _ _ (by omega)) _).trans (congrFun (upA_at _ _ _) _))) ?_
                        refine ZE.iast d_Ref_layGreat_86 hK.k15 (by have hn0 := hK.n15; show 0 ≤ ((130 * (i : Int)) + (j : Int)) ∧ ((130 * (i : Int)) + (j : Int)) < gn G (o + 15); omega) ?_
                        show ZE (d + 5) M_Ref_layGreat (gw G (up2 (upA (upA (upA B (o + 2) f7) (o + 16) x7) (o + 15) g) (o + 15) ((130 * (i : Int)) + (j : Int)) (f7 (16380 + (j : Int))))) 87 [(2, o), (0, (kn : Int)), (0, (i : Int)), (0, (j : Int))] [] _
                        rw [up2_upA]
                        refine ZE.iinc (ls2 := [(2, o), (0, (kn : Int)), (0, (i : Int)), (0, (j : Int) + 1)]) d_Ref_layGreat_87 rfl rfl ?_
                        refine ZE.goto (tgt := 58) d_Ref_layGreat_90 rfl ?_
                        rw [show (j : Int) + 1 = ((j + 1 : Nat) : Int) by omega]
                        refine ih (j + 1) _ (by omega) ?_ (hog.up (by omega)) (by omega)
                        intro c hc
                        by_cases e : c = j
                        · subst e; rw [up1_at]
                        · rw [up1_ne _ _ (by omega)]; exact hg0 c (by omega)
                  have L0 := L58 _ 0 (B (o + 15)) (by omega) (fun c hc => absurd hc (Nat.not_lt_zero _)) outs.rf (Nat.lt_succ_self _)
                  rw [← hCg, upA_self] at L0
                  exact L0
              · refine ZE.aload_n d_Ref_layGreat_39 rfl ?_
                refine ZE.getE (v := (S : Int)) d_Ref_layGreat_40 f_Ref_81 (tg := 0) rfl hK.1 hRB.s ?_
                refine ZE.if_ne (tgt := 48) d_Ref_layGreat_43 rfl (by unfold zR; omega) (fun c43 => ?_) (fun c43 => ?_)
                · refine ZE.iload_n d_Ref_layGreat_48 rfl ?_
                  refine ZE.if_le (tgt := 56) d_Ref_layGreat_49 rfl (by unfold zR; omega) (fun c49 => ?_) (fun c49 => ?_)
                  · refine ZE.iconst (n := 0) d_Ref_layGreat_56 ?_
                    refine ZE.istore_n (ls2 := [(2, o), (0, (kn : Int)), (0, (i : Int)), (0, 0)]) d_Ref_layGreat_57 (Nat.le_of_ble_eq_true rfl) rfl ?_
                    have hCg : B (o + 15) = B (o + 15) := by rfl
                    have L58 : ∀ (t : Nat) (j : Nat) (g : Int → Int) (hj : j ≤ 130) (hg0 : ∀ c : Nat, c < j → g (130 * (i : Int) + c) = (B (o + 2)) (16380 + c)) (hog : outs (B (o + 15)) g i), 130 - j < t → ZE (d + 5) M_Ref_layGreat (gw G (upA B (o + 15) g)) 58 [(2, o), (0, (kn : Int)), (0, (i : Int)), (0, (j : Int))] [] P := by
                      intro t
                      induction t with
                      | zero => intro j g hj hg0 hog hm; exact absurd hm (Nat.not_lt_zero _)
                      | succ t ih =>
                        intro j g hj hg0 hog hm
                        refine ZE.iload_n d_Ref_layGreat_58 rfl ?_
                        refine ZE.sipush (n := 130) d_Ref_layGreat_59 rfl ?_
                        refine ZE.icmp_ge (tgt := 93) d_Ref_layGreat_62 rfl (by unfold zR; omega) (by unfold zR; omega) (fun c62 => ?_) (fun c62 => ?_)
                        · have e130 : j = 130 := by omega
                          rw [e130] at hg0
                          have hng : num g i (gN S i) := by
                            have hsrc : num (B (o + 2)) 126 (gN S i) := by have q := hnB; rw [show i - 1 = i by omega] at q; exact q
                            have hndi := (gN_nd (S := S) (q := i) (by omega)).1
                            refine ⟨?_, fun c hc => ?_⟩
                            · have q1 := hg0 0 (by omega)
                              rw [show 130 * (i : Int) + ((0 : Nat) : Int) = 130 * (i : Int) by omega, show 16380 + ((0 : Nat) : Int) = 130 * 126 by omega] at q1
                              exact q1.trans hsrc.1
                            · have q1 := hg0 (c + 1) (by omega)
                              rw [show 130 * (i : Int) + ((c + 1 : Nat) : Int) = 130 * (i : Int) + 1 + c by omega, show 16380 + ((c + 1 : Nat) : Int) = 130 * 126 + 1 + c by omega] at q1
                              exact q1.trans (hsrc.2 c hc)
                          have hg1 : ∀ q : Nat, q < i + 1 → num ((upA B (o + 15) g) (o + 15)) q (gN S q) := by
                            intro q hq
                            rw [upA_at]
                            by_cases e : q = i
                            · subst e; exact hng
                            · exact hog.num (by omega) (by have := (gN_nd (S := S) (q := q) (by omega)).1; omega) (hgB q (by omega))
                          refine ZE.iinc (ls2 := [(2, o), (0, (kn : Int)), (0, (i : Int) + 1), (0, (j : Int))]) d_Ref_layGreat_93 rfl rfl ?_
                          refine ZE.goto (tgt := 30) d_Ref_layGreat_96 rfl ?_
                          refine ZE.mask [true, true, true, false] ?_
                          show ZE (d + 5) M_Ref_layGreat (gw G (upA B (o + 15) g)) 30 [(2, o), (0, (kn : Int)), (0, (i : Int) + 1), (9, 0)] [] _
                          rw [show (i : Int) + 1 = ((i + 1 : Nat) : Int) by omega]
                          exact ihO (i + 1) _ (by omega) (by omega) (gB.row (Or.inl rfl)) hg1 (by rw [show i + 1 - 1 = i - 1 by omega, upA_ne _ _ (by omega)]; exact hxB) (by rw [show i + 1 - 1 = i - 1 by omega, upA_ne _ _ (by omega)]; exact hnB) (by omega)
                        · refine ZE.aload_n d_Ref_layGreat_65 rfl ?_
                          refine ZE.getE (v := o + 15) d_Ref_layGreat_66 f_Ref_53 (tg := 2) rfl hK.1 (hFB.uA (by omega)).a24 ?_
                          refine ZE.sipush (n := 130) d_Ref_layGreat_69 rfl ?_
                          refine ZE.iload_n d_Ref_layGreat_72 rfl ?_
                          refine ZE.imul d_Ref_layGreat_73 ?_
                          refine ZE.iload_n d_Ref_layGreat_74 rfl ?_
                          refine ZE.iadd d_Ref_layGreat_75 ?_
                          refine ZE.aload_n d_Ref_layGreat_76 rfl ?_
                          refine ZE.getE (v := o + 2) d_Ref_layGreat_77 f_Ref_13 (tg := 2) rfl hK.1 (hFB.uA (by omega)).a2 ?_
                          refine ZE.sipush (n := 16380) d_Ref_layGreat_80 rfl ?_
                          refine ZE.iload_n d_Ref_layGreat_83 rfl ?_
                          refine ZE.iadd d_Ref_layGreat_84 ?_
                          refine ZE.ialdE (v := B (o + 2) (16380 + (j : Int))) d_Ref_layGreat_85 hK.k2 (by have hn0 := hK.n2; show 0 ≤ (16380 + (j : Int)) ∧ (16380 + (j : Int)) < gn G (o + 2); omega) (congrFun (upA_ne _ _ (by omega)) _) ?_
                          refine ZE.iast d_Ref_layGreat_86 hK.k15 (by have hn0 := hK.n15; show 0 ≤ ((130 * (i : Int)) + (j : Int)) ∧ ((130 * (i : Int)) + (j : Int)) < gn G (o + 15); omega) ?_
                          show ZE (d + 5) M_Ref_layGreat (gw G (up2 (upA B (o + 15) g) (o + 15) ((130 * (i : Int)) + (j : Int)) (B (o + 2) (16380 + (j : Int))))) 87 [(2, o), (0, (kn : Int)), (0, (i : Int)), (0, (j : Int))] [] _
                          rw [up2_upA]
                          refine ZE.iinc (ls2 := [(2, o), (0, (kn : Int)), (0, (i : Int)), (0, (j : Int) + 1)]) d_Ref_layGreat_87 rfl rfl ?_
                          refine ZE.goto (tgt := 58) d_Ref_layGreat_90 rfl ?_
                          rw [show (j : Int) + 1 = ((j + 1 : Nat) : Int) by omega]
                          refine ih (j + 1) _ (by omega) ?_ (hog.up (by omega)) (by omega)
                          intro c hc
                          by_cases e : c = j
                          · subst e; rw [up1_at]
                          · rw [up1_ne _ _ (by omega)]; exact hg0 c (by omega)
                    have L0 := L58 _ 0 (B (o + 15)) (by omega) (fun c hc => absurd hc (Nat.not_lt_zero _)) outs.rf (Nat.lt_succ_self _)
                    rw [← hCg, upA_self] at L0
                    exact L0
                  · refine ZE.aload_n d_Ref_layGreat_52 rfl ?_
                    refine ZE.cV [] [] [(2, o), (9, 0), (9, 0)] d_Ref_layGreat_53 l_Ref_379 rfl rfl rfl rfl rfl rfl hK.1 ?_
                    refine r_layLeast (i := i - 1) hK hFB hRB hS7 hp5 (by omega) (by omega) (fun q hq => hgB q (by omega)) hxB (fun f7 x7 hn7 hx7 hro7 => ?_)
                    show ZE (d + 5) M_Ref_layGreat (gw G (upA (upA B (o + 2) f7) (o + 16) x7)) 56 [(2, o), (0, (kn : Int)), (0, (i : Int)), (9, 0)] [] _
                    have hn7i : num f7 126 (gN S i) := by have q := hn7; rw [show i - 1 + 1 = i by omega] at q; exact q
                    have hx7i : ∀ c : Nat, c < 7 → x7 c = ((gst S i).2 c : Int) := by have q := hx7; rw [show i - 1 + 1 = i by omega] at q; exact q
                    refine ZE.iconst (n := 0) d_Ref_layGreat_56 ?_
                    refine ZE.istore_n (ls2 := [(2, o), (0, (kn : Int)), (0, (i : Int)), (0, 0)]) d_Ref_layGreat_57 (Nat.le_of_ble_eq_true rfl) rfl ?_
                    have hCg : (upA (upA B (o + 2) f7) (o + 16) x7) (o + 15) = B (o + 15) := by rw [upA_ne _ _ (by omega), upA_ne _ _ (by omega)]
                    have L58 : ∀ (t : Nat) (j : Nat) (g : Int → Int) (hj : j ≤ 130) (hg0 : ∀ c : Nat, c < j → g (130 * (i : Int) + c) = f7 (16380 + c)) (hog : outs (B (o + 15)) g i), 130 - j < t → ZE (d + 5) M_Ref_layGreat (gw G (upA (upA (upA B (o + 2) f7) (o + 16) x7) (o + 15) g)) 58 [(2, o), (0, (kn : Int)), (0, (i : Int)), (0, (j : Int))] [] P := by
                      intro t
                      induction t with
                      | zero => intro j g hj hg0 hog hm; exact absurd hm (Nat.not_lt_zero _)
                      | succ t ih =>
                        intro j g hj hg0 hog hm
                        refine ZE.iload_n d_Ref_layGreat_58 rfl ?_
                        refine ZE.sipush (n := 130) d_Ref_layGreat_59 rfl ?_
                        refine ZE.icmp_ge (tgt := 93) d_Ref_layGreat_62 rfl (by unfold zR; omega) (by unfold zR; omega) (fun c62 => ?_) (fun c62 => ?_)
                        · have e130 : j = 130 := by omega
                          rw [e130] at hg0
                          have hng : num g i (gN S i) := by
                            have hsrc : num f7 126 (gN S i) := hn7i
                            have hndi := (gN_nd (S := S) (q := i) (by omega)).1
                            refine ⟨?_, fun c hc => ?_⟩
                            · have q1 := hg0 0 (by omega)
                              rw [show 130 * (i : Int) + ((0 : Nat) : Int) = 130 * (i : Int) by omega, show 16380 + ((0 : Nat) : Int) = 130 * 126 by omega] at q1
                              exact q1.trans hsrc.1
                            · have q1 := hg0 (c + 1) (by omega)
                              rw [show 130 * (i : Int) + ((c + 1 : Nat) : Int) = 130 * (i : Int) + 1 + c by omega, show 16380 + ((c + 1 : Nat) : Int) = 130 * 126 + 1 + c by omega] at q1
                              exact q1.trans (hsrc.2 c hc)
                          have hg1 : ∀ q : Nat, q < i + 1 → num ((upA (upA (upA B (o + 2) f7) (o + 16) x7) (o + 15) g) (o + 15)) q (gN S q) := by
                            intro q hq
                            rw [upA_at]
                            by_cases e : q = i
                            · subst e; exact hng
                            · exact hog.num (by omega) (by have := (gN_nd (S := S) (q := q) (by omega)).1; omega) (hgB q (by omega))
                          refine ZE.iinc (ls2 := [(2, o), (0, (kn : Int)), (0, (i : Int) + 1), (0, (j : Int))]) d_Ref_layGreat_93 rfl rfl ?_
                          refine ZE.goto (tgt := 30) d_Ref_layGreat_96 rfl ?_
                          refine ZE.mask [true, true, true, false] ?_
                          show ZE (d + 5) M_Ref_layGreat (gw G (upA (upA (upA B (o + 2) f7) (o + 16) x7) (o + 15) g)) 30 [(2, o), (0, (kn : Int)), (0, (i : Int) + 1), (9, 0)] [] _
                          rw [show (i : Int) + 1 = ((i + 1 : Nat) : Int) by omega]
                          exact ihO (i + 1) _ (by omega) (by omega) ((gB.big hro7).row (Or.inr rfl) |>.row (Or.inl rfl)) hg1 (by rw [show i + 1 - 1 = i by omega, upA_ne _ _ (by omega), upA_at]; exact hx7i) (by rw [show i + 1 - 1 = i by omega, upA_ne _ _ (by omega), upA_ne _ _ (by omega), upA_at]; exact hn7i) (by omega)
                        · refine ZE.aload_n d_Ref_layGreat_65 rfl ?_
                          refine ZE.getE (v := o + 15) d_Ref_layGreat_66 f_Ref_53 (tg := 2) rfl hK.1 (((hFB.uA (by omega)).uA (by omega)).uA (by omega)).a24 ?_
                          refine ZE.sipush (n := 130) d_Ref_layGreat_69 rfl ?_
                          refine ZE.iload_n d_Ref_layGreat_72 rfl ?_
                          refine ZE.imul d_Ref_layGreat_73 ?_
                          refine ZE.iload_n d_Ref_layGreat_74 rfl ?_
                          refine ZE.iadd d_Ref_layGreat_75 ?_
                          refine ZE.aload_n d_Ref_layGreat_76 rfl ?_
                          refine ZE.getE (v := o + 2) d_Ref_layGreat_77 f_Ref_13 (tg := 2) rfl hK.1 (((hFB.uA (by omega)).uA (by omega)).uA (by omega)).a2 ?_
                          refine ZE.sipush (n := 16380) d_Ref_layGreat_80 rfl ?_
                          refine ZE.iload_n d_Ref_layGreat_83 rfl ?_
                          refine ZE.iadd d_Ref_layGreat_84 ?_
                          refine ZE.ialdE (v := f7 (16380 + (j : Int))) d_Ref_layGreat_85 hK.k2 (by have hn0 := hK.n2; show 0 ≤ (16380 + (j : Int)) ∧ (16380 + (j : Int)) < gn G (o + 2); omega) ((congrFun (upA_ne _ _ (by omega)) _).trans ((congrFun (upA_ne _ _ (by omega)) _).trans (congrFun (upA_at _ _ _) _))) ?_
                          refine ZE.iast d_Ref_layGreat_86 hK.k15 (by have hn0 := hK.n15; show 0 ≤ ((130 * (i : Int)) + (j : Int)) ∧ ((130 * (i : Int)) + (j : Int)) < gn G (o + 15); omega) ?_
                          show ZE (d + 5) M_Ref_layGreat (gw G (up2 (upA (upA (upA B (o + 2) f7) (o + 16) x7) (o + 15) g) (o + 15) ((130 * (i : Int)) + (j : Int)) (f7 (16380 + (j : Int))))) 87 [(2, o), (0, (kn : Int)), (0, (i : Int)), (0, (j : Int))] [] _
                          rw [up2_upA]
                          refine ZE.iinc (ls2 := [(2, o), (0, (kn : Int)), (0, (i : Int)), (0, (j : Int) + 1)]) d_Ref_layGreat_87 rfl rfl ?_
                          refine ZE.goto (tgt := 58) d_Ref_layGreat_90 rfl ?_
                          rw [show (j : Int) + 1 = ((j + 1 : Nat) : Int) by omega]
                          refine ih (j + 1) _ (by omega) ?_ (hog.up (by omega)) (by omega)
                          intro c hc
                          by_cases e : c = j
                          · subst e; rw [up1_at]
                          · rw [up1_ne _ _ (by omega)]; exact hg0 c (by omega)
                    have L0 := L58 _ 0 (B (o + 15)) (by omega) (fun c hc => absurd hc (Nat.not_lt_zero _)) outs.rf (Nat.lt_succ_self _)
                    rw [← hCg, upA_self] at L0
                    exact L0
                · refine ZE.iconst (n := 0) d_Ref_layGreat_46 ?_
                  refine ZE.zret d_Ref_layGreat_47 rfl (by omega) ?_
                  have k1 := k B gB (fun q => absurd q (by omega))
                  rw [b2i_f (by omega)] at k1
                  exact k1
        exact L30 _ 0 (upA (upA A (o + 2) f) (o + 16) x0) (by omega) (Or.inl (by omega)) ((gtF.rf.big (rowF.rf.step ho1 (by omega))).row (Or.inr rfl)) (fun q h => absurd h (Nat.not_lt_zero _)) (by rw [upA_at]; exact gl0 hx0) (by rw [upA_ne _ _ (by omega), upA_at]; exact hn1) (Nat.lt_succ_self _)
      · refine ZE.aload_n d_Ref_layGreat_15 rfl ?_
        refine ZE.getE (v := o + 16) d_Ref_layGreat_16 f_Ref_56 (tg := 2) rfl hK.1 ((hF.uA (by omega)).uA (by omega)).a25 ?_
        refine ZE.iload_n d_Ref_layGreat_19 rfl ?_
        refine ZE.iconst (n := 0) d_Ref_layGreat_20 ?_
        refine ZE.iast d_Ref_layGreat_21 hK.k16 (by have hn0 := hK.n16; show 0 ≤ (j : Int) ∧ (j : Int) < gn G (o + 16); omega) ?_
        show ZE (d + 5) M_Ref_layGreat (gw G (up2 (upA (upA A (o + 2) f) (o + 16) x0) (o + 16) (j : Int) 0)) 22 [(2, o), (0, (kn : Int)), (0, (j : Int)), (9, 0)] [] _
        rw [up2_upA]
        refine ZE.iinc (ls2 := [(2, o), (0, (kn : Int)), (0, (j : Int) + 1), (9, 0)]) d_Ref_layGreat_22 rfl rfl ?_
        refine ZE.goto (tgt := 9) d_Ref_layGreat_25 rfl ?_
        rw [show (j : Int) + 1 = ((j + 1 : Nat) : Int) by omega]
        refine ih (j + 1) _ (by omega) ?_ (by omega)
        intro c hc
        by_cases e : c = j
        · subst e; rw [up1_at]
        · rw [up1_ne _ _ (by omega)]; exact hx0 c (by omega)
  have L0 := L9 _ 0 (A (o + 16)) (by omega) (fun c hc => absurd hc (Nat.not_lt_zero _)) (Nat.lt_succ_self _)
  rw [show upA (upA A (o + 2) f) (o + 16) (A (o + 16)) = upA A (o + 2) f from by have q := upA_self (upA A (o + 2) f) (o + 16); rw [upA_ne _ _ (by omega)] at q; exact q] at L0
  exact L0
set_option maxRecDepth 20000 in
set_option maxHeartbeats 4000000 in
theorem r_greatLong {d : Nat} {G : zG} {A : Int → Int → Int} {P : Option zV → zG → Prop} {o : Int} (hK : RK G o) (hF : RF A o) {S : Nat} (hR : RS S A o) (hS7 : S < 128) (hp5 : pop S ≤ 5) {k1 : Int} (hk : zR k1) (k : ∀ B, gtF A B o → P (some (0, glV S k1)) (gw G B)) : ZE (d + 6) M_Ref_greatLong (gw G A) 0 [(2, o), (0, k1)] [] P := by
  refine ZE.iload_n d_Ref_greatLong_0 rfl ?_
  refine ZE.i2l d_Ref_greatLong_1 hk ?_
  refine ZE.lconst d_Ref_greatLong_2 ?_
  show ZE (d + 6) M_Ref_greatLong (gw G A) 3 [(2, o), (0, k1)] [(1, 0), (1, k1)] _
  refine ZE.ldc2 (v := 400) d_Ref_greatLong_3 k_Ref_300 ?_
  refine ZE.cS [(1, k1), (1, 0), (1, 400)] [] [(1, k1), (9, 0), (1, 0), (9, 0), (1, 400), (9, 0)] d_Ref_greatLong_6 l_Ref_111 rfl rfl rfl rfl rfl rfl ?_
  refine r_isIn (by unfold zR at hk; unfold zR64; omega) (by unfold zR64; omega) (by unfold zR64; omega) ?_
  show ZE (d + 6) M_Ref_greatLong (gw G A) 9 [(2, o), (0, k1)] [(0, b2i (0 ≤ k1 ∧ k1 ≤ 400))] _
  refine ZE.if_eq (tgt := 29) d_Ref_greatLong_9 rfl (zR_b2i _) (fun c9 => ?_) (fun c9 => ?_)
  · replace c9 := b2i_0.mp c9
    refine ZE.iconst (n := (-1)) d_Ref_greatLong_29 ?_
    refine ZE.iret d_Ref_greatLong_30 rfl ?_
    have kk := k A gtF.rf
    rw [show glV S k1 = -1 from if_neg (fun q => c9 q.1)] at kk
    exact kk
  · replace c9 := b2i_n0.mp c9
    obtain ⟨kn, hkn⟩ : ∃ kn : Nat, k1 = kn := ⟨k1.toNat, by omega⟩
    subst hkn
    refine ZE.aload_n d_Ref_greatLong_12 rfl ?_
    refine ZE.iload_n d_Ref_greatLong_13 rfl ?_
    refine ZE.cV [(0, (kn : Int))] [] [(2, o), (0, (kn : Int)), (9, 0), (9, 0)] d_Ref_greatLong_14 l_Ref_388 rfl rfl rfl rfl rfl rfl hK.1 ?_
    refine r_layGreat (kn := kn) hK hF hR hS7 hp5 (by omega) (fun B gB hnB0 => ?_)
    show ZE (d + 6) M_Ref_greatLong (gw G B) 17 [(2, o), (0, (kn : Int))] [(0, b2i (kn = 0 ∨ S ≠ 0))] _
    refine ZE.if_eq (tgt := 29) d_Ref_greatLong_17 rfl (zR_b2i _) (fun c17 => ?_) (fun c17 => ?_)
    · replace c17 := b2i_0.mp c17
      refine ZE.iconst (n := (-1)) d_Ref_greatLong_29 ?_
      refine ZE.iret d_Ref_greatLong_30 rfl ?_
      have kk := k B gB
      rw [show glV S (kn : Int) = -1 from if_neg (fun q => c17 (by have := q.2; omega))] at kk
      exact kk
    · replace c17 := b2i_n0.mp c17
      have hnB := hnB0 (by omega)
      have hndk := (gN_nd (S := S) (q := kn) (by omega)).1
      have hFB : RF B o := hF.wi gB.wi
      refine ZE.aload_n d_Ref_greatLong_20 rfl ?_
      refine ZE.bipush (n := 126) d_Ref_greatLong_21 rfl ?_
      refine ZE.cV [(0, 126)] [] [(2, o), (0, 126)] d_Ref_greatLong_23 l_Ref_108 rfl rfl rfl rfl rfl rfl hK.1 ?_
      refine r_longOf (n := 126) (v := gN S kn) hK hFB (by omega) hnB (by omega) ?_
      show ZE (d + 6) M_Ref_greatLong (gw G B) 26 [(2, o), (0, (kn : Int))] [(0, (dl (gN S kn) : Int))] _
      refine ZE.goto (tgt := 30) d_Ref_greatLong_26 rfl ?_
      refine ZE.iret d_Ref_greatLong_30 rfl ?_
      have kk := k B gB
      rw [show glV S (kn : Int) = (dl (gN S kn) : Int) from by unfold glV; rw [if_pos ⟨by omega, by omega⟩, Int.toNat_natCast]] at kk
      exact kk
set_option maxRecDepth 20000 in
set_option maxHeartbeats 4000000 in
theorem r_greatDigit {d : Nat} {G : zG} {A : Int → Int → Int} {P : Option zV → zG → Prop} {o : Int} (hK : RK G o) (hF : RF A o) {S : Nat} (hR : RS S A o) (hS7 : S < 128) (hp5 : pop S ≤ 5) {k1 i : Int} (hk : zR k1) (hi : zR i) (k : ∀ B, gtF A B o → P (some (0, gdV S k1 i)) (gw G B)) : ZE (d + 6) M_Ref_greatDigit (gw G A) 0 [(2, o), (0, k1), (0, i)] [] P := by
  refine ZE.iload_n d_Ref_greatDigit_0 rfl ?_
  refine ZE.i2l d_Ref_greatDigit_1 hk ?_
  refine ZE.lconst d_Ref_greatDigit_2 ?_
  show ZE (d + 6) M_Ref_greatDigit (gw G A) 3 [(2, o), (0, k1), (0, i)] [(1, 0), (1, k1)] _
  refine ZE.ldc2 (v := 400) d_Ref_greatDigit_3 k_Ref_300 ?_
  refine ZE.cS [(1, k1), (1, 0), (1, 400)] [] [(1, k1), (9, 0), (1, 0), (9, 0), (1, 400), (9, 0)] d_Ref_greatDigit_6 l_Ref_111 rfl rfl rfl rfl rfl rfl ?_
  refine r_isIn (by unfold zR at hk; unfold zR64; omega) (by unfold zR64; omega) (by unfold zR64; omega) ?_
  show ZE (d + 6) M_Ref_greatDigit (gw G A) 9 [(2, o), (0, k1), (0, i)] [(0, b2i (0 ≤ k1 ∧ k1 ≤ 400))] _
  refine ZE.if_eq (tgt := 30) d_Ref_greatDigit_9 rfl (zR_b2i _) (fun c9 => ?_) (fun c9 => ?_)
  · replace c9 := b2i_0.mp c9
    refine ZE.iconst (n := (-1)) d_Ref_greatDigit_30 ?_
    refine ZE.iret d_Ref_greatDigit_31 rfl ?_
    have kk := k A gtF.rf
    rw [show gdV S k1 i = -1 from if_neg (fun q => c9 q.1)] at kk
    exact kk
  · replace c9 := b2i_n0.mp c9
    obtain ⟨kn, hkn⟩ : ∃ kn : Nat, k1 = kn := ⟨k1.toNat, by omega⟩
    subst hkn
    refine ZE.aload_n d_Ref_greatDigit_12 rfl ?_
    refine ZE.iload_n d_Ref_greatDigit_13 rfl ?_
    refine ZE.cV [(0, (kn : Int))] [] [(2, o), (0, (kn : Int)), (9, 0), (9, 0)] d_Ref_greatDigit_14 l_Ref_388 rfl rfl rfl rfl rfl rfl hK.1 ?_
    refine r_layGreat (kn := kn) hK hF hR hS7 hp5 (by omega) (fun B gB hnB0 => ?_)
    show ZE (d + 6) M_Ref_greatDigit (gw G B) 17 [(2, o), (0, (kn : Int)), (0, i)] [(0, b2i (kn = 0 ∨ S ≠ 0))] _
    refine ZE.if_eq (tgt := 30) d_Ref_greatDigit_17 rfl (zR_b2i _) (fun c17 => ?_) (fun c17 => ?_)
    · replace c17 := b2i_0.mp c17
      refine ZE.iconst (n := (-1)) d_Ref_greatDigit_30 ?_
      refine ZE.iret d_Ref_greatDigit_31 rfl ?_
      have kk := k B gB
      rw [show gdV S (kn : Int) i = -1 from if_neg (fun q => c17 (by have := q.2; omega))] at kk
      exact kk
    · replace c17 := b2i_n0.mp c17
      have hnB := hnB0 (by omega)
      have hndk := (gN_nd (S := S) (q := kn) (by omega)).1
      have hFB : RF B o := hF.wi gB.wi
      refine ZE.aload_n d_Ref_greatDigit_20 rfl ?_
      refine ZE.bipush (n := 126) d_Ref_greatDigit_21 rfl ?_
      refine ZE.iload_n d_Ref_greatDigit_23 rfl ?_
      refine ZE.cV [(0, 126), (0, i)] [] [(2, o), (0, 126), (0, i)] d_Ref_greatDigit_24 l_Ref_251 rfl rfl rfl rfl rfl rfl hK.1 ?_
      refine r_digitAt (n := 126) (v := gN S kn) hK hFB (by omega) hnB (by omega) hi ?_
      show ZE (d + 6) M_Ref_greatDigit (gw G B) 27 [(2, o), (0, (kn : Int)), (0, i)] [(0, if 0 ≤ i ∧ i < dl (gN S kn) then (dg 10 (gN S kn) i.toNat : Int) else -1)] _
      refine ZE.goto (tgt := 31) d_Ref_greatDigit_27 rfl ?_
      refine ZE.iret d_Ref_greatDigit_31 rfl ?_
      have kk := k B gB
      rw [show gdV S (kn : Int) i = dgN (gN S kn) i from by unfold gdV; rw [if_pos ⟨by omega, by omega⟩, Int.toNat_natCast]] at kk
      exact kk
