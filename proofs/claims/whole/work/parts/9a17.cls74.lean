theorem nd_34 {v : Nat} (h : v < 10 ^ 300 * 10) : nd 1000000000 v ≤ 34 := nd_le (by omega) (Nat.lt_of_lt_of_le h (by decide +kernel))
theorem CI.xT {G : zG} {A : Int → Int → Int} {x : Int} {S T tl : Nat} {tf : Nat → Int} {wl : Nat} {wf : Nat → Int} (h : CI G A x S T tl tf wl wf) : xK G (x + 135) 2000 := h.cCK.2.2.2.2.2.2.2.2.1
theorem CI.xW {G : zG} {A : Int → Int → Int} {x : Int} {S T tl : Nat} {tf : Nat → Int} {wl : Nat} {wf : Nat → Int} (h : CI G A x S T tl tf wl wf) : xK G (x + 137) 2048 := h.cCK.2.2.2.2.2.2.2.2.2.1
theorem CI.xD {G : zG} {A : Int → Int → Int} {x : Int} {S T tl : Nat} {tf : Nat → Int} {wl : Nat} {wf : Nat → Int} (h : CI G A x S T tl tf wl wf) : xK G (x + 139) 2048 := h.cCK.2.2.2.2.2.2.2.2.2.2.1
theorem CI.bT {G : zG} {A : Int → Int → Int} {x : Int} {S T tl : Nat} {tf : Nat → Int} {wl : Nat} {wf : Nat → Int} (h : CI G A x S T tl tf wl wf) : bK G (x + 141) 36 := h.cCK.2.2.2.2.2.2.2.2.2.2.2.1
theorem CI.bS {G : zG} {A : Int → Int → Int} {x : Int} {S T tl : Nat} {tf : Nat → Int} {wl : Nat} {wf : Nat → Int} (h : CI G A x S T tl tf wl wf) : bK G (x + 143) 36 := h.cCK.2.2.2.2.2.2.2.2.2.2.2.2.1
theorem tp_CI {G : zG} {A : Int → Int → Int} {x : Int} {S T tl : Nat} {tf : Nat → Int} {wl : Nat} {wf : Nat → Int} {B : Int → Int → Int} {tl2 : Nat} {tf2 : Nat → Int} (h : CI G A x S T tl tf wl wf) (g : bF A B (x + 135)) (n : xN B (x + 135) tl2 tf2) (hl : tl2 ≤ 2000) (hr : ∀ k, -128 ≤ tf2 k ∧ tf2 k ≤ 127) : CI G B x S T tl2 tf2 wl wf ∧ cT G A G B x := by
  have e : ∀ a : Int, (a < x + 135 ∨ x + 136 < a) → B a = A a := fun a ha => g a (by omega) (by omega)
  exact ⟨h.st e ⟨n, hl, hr⟩, cT.rg e (by omega) (by omega)⟩
theorem td_CI {G : zG} {A : Int → Int → Int} {x : Int} {S T tl : Nat} {tf : Nat → Int} {wl : Nat} {wf : Nat → Int} {B : Int → Int → Int} {T2 : Nat} (h : CI G A x S T tl tf wl wf) (g : bF A B (x + 141)) (n : bN B (x + 141) T2) (hl : T2 < 10 ^ 300) : CI G B x S T2 tl tf wl wf ∧ cT G A G B x := by
  have e : ∀ a : Int, (a < x + 141 ∨ x + 142 < a) → B a = A a := fun a ha => g a (by omega) (by omega)
  exact ⟨h.sT e ⟨n, hl⟩, cT.rg e (by omega) (by omega)⟩
theorem sp_CI {G : zG} {A : Int → Int → Int} {x : Int} {S T tl : Nat} {tf : Nat → Int} {wl : Nat} {wf : Nat → Int} {B : Int → Int → Int} {v : Nat} (h : CI G A x S T tl tf wl wf) (g : bF A B (x + 143)) (n : bN B (x + 143) v) : CI G B x S T tl tf wl wf ∧ cT G A G B x := by
  have e : ∀ a : Int, (a < x + 143 ∨ x + 144 < a) → B a = A a := fun a ha => g a (by omega) (by omega)
  exact ⟨h.sp e (by have := n.1; omega), cT.rg e (by omega) (by omega)⟩
theorem smN_eq {T v : Nat} (h : v < 1000000000) : (v = smN T ↔ v = T) := by
  unfold smN
  split
  · exact Iff.rfl
  · next q => have := (not_congr dl_9).mp q; omega
theorem smN_lt {T v : Nat} (h : v < 1000000000) : (v < smN T ↔ v < T) := by
  unfold smN
  split
  · exact Iff.rfl
  · next q => have := (not_congr dl_9).mp q; omega
theorem fst1_congr {f g : Nat → Bool} : ∀ n, (∀ k, k < n → f k = g k) → fst1 f n = fst1 g n := by
  intro n
  induction n with
  | zero => intro _; rfl
  | succ n ih =>
    intro h
    show (if fst1 f n = -1 then (if f n = true then (n : Int) else -1) else fst1 f n) = (if fst1 g n = -1 then (if g n = true then (n : Int) else -1) else fst1 g n)
    rw [ih (fun k hk => h k (by omega)), h n (by omega)]
set_option maxRecDepth 20000 in
set_option maxHeartbeats 4000000 in
theorem c_octet {d : Nat} {G : zG} {A : Int → Int → Int} {P : Option zV → zG → Prop} {x : Int} {S T tl : Nat} {tf : Nat → Int} {wl : Nat} {wf : Nat → Int} (h : CI G A x S T tl tf wl wf) {i : Int} (hi : zR i) (k : ∀ G2 A2, CI G2 A2 x S T tl tf wl wf → cT G A G2 A2 x → P (some (0, ocV wl wf i)) (gw G2 A2)) : ZE 11 M_SN_octet (gw G A) 0 [(2, x), (0, i)] [] P := by
  have hx0 := h.cCK.2.1
  have hR := h.cR
  have hL := h.cL.1
  have hgx := h.cL.2
  have hS7 := h.cS.2.1
  have hp5 := h.cS.2.2
  have hE0 := hR.E
  have hL64 := hR.l64
  have hC32 := hR.c32
  have hpl : (prL 1 S).length = (prs S).length := by rw [prL_1 hS7 hp5]
  have hcl : (csA 1 S).length = (csF S 1 128).length := rfl
  refine ZE.aload_n d_SN_octet_0 rfl ?_
  refine ZE.getE (v := x + 137) d_SN_octet_1 f_SN_56 (tg := 2) rfl h.cCK.1 h.cCF.2.2.2.2.2.2.2.1 ?_
  refine ZE.iload_n d_SN_octet_4 rfl ?_
  refine ZE.cV [(0, i)] [] [(2, x + 137), (0, i)] d_SN_octet_5 l_SN_356 rfl rfl rfl rfl rfl rfl h.xW.1 ?_
  refine t_byteAt h.xW h.cw.1 (fun k => by have := h.cw.2.2 k; omega) h.cw.2.1 hi ?_
  show ZE 11 M_SN_octet (gw G A) 8 [(2, x), (0, i)] [(0, bA wl wf i)] _
  refine ZE.iret d_SN_octet_8 rfl ?_
  have k1 := k G A h cT.rf
  rw [show ocV wl wf i = (bA wl wf i) from by unfold ocV bA; by_cases q : 0 ≤ i ∧ i < (wl : Int); (rw [if_pos q, if_pos q]; have := h.cw.2.2 i.toNat; omega); (rw [if_neg q, if_neg q])] at k1
  exact k1
set_option maxRecDepth 20000 in
set_option maxHeartbeats 4000000 in
theorem c_feed {d : Nat} {G : zG} {A : Int → Int → Int} {P : Option zV → zG → Prop} {x : Int} {S T tl : Nat} {tf : Nat → Int} {wl : Nat} {wf : Nat → Int} (h : CI G A x S T tl tf wl wf) {a1 a2 a3 a4 a5 : Int} (k : ∀ G2 A2, CI G2 A2 x S T (feT tl) (feW tl tf a1 a2 a3 a4 a5) wl wf → cT G A G2 A2 x → P (some (0, feV tl)) (gw G2 A2)) : ZE 11 M_SN_feed (gw G A) 0 [(2, x), (0, a1), (0, a2), (0, a3), (0, a4), (0, a5)] [] P := by
  have hx0 := h.cCK.2.1
  have hR := h.cR
  have hL := h.cL.1
  have hgx := h.cL.2
  have hS7 := h.cS.2.1
  have hp5 := h.cS.2.2
  have hE0 := hR.E
  have hL64 := hR.l64
  have hC32 := hR.c32
  have hpl : (prL 1 S).length = (prs S).length := by rw [prL_1 hS7 hp5]
  have hcl : (csA 1 S).length = (csF S 1 128).length := rfl
  refine ZE.aload_n d_SN_feed_0 rfl ?_
  refine ZE.getE (v := x + 135) d_SN_feed_1 f_SN_52 (tg := 2) rfl h.cCK.1 h.cCF.2.2.2.2.2.2.1 ?_
  refine ZE.bipush (n := 20) d_SN_feed_4 rfl ?_
  have htl2 := h.ct.2.1
  refine ZE.cV [(0, 20)] [] [(2, x + 135), (0, 20)] d_SN_feed_6 l_SN_338 rfl rfl rfl rfl rfl rfl h.xT.1 ?_
  refine t_hasRoomFor h.xT h.ct.1 (by omega) ?_
  show ZE 11 M_SN_feed (gw G A) 9 [(2, x), (0, a1), (0, a2), (0, a3), (0, a4), (0, a5)] [(0, b2i (tl + 20 ≤ 2000))] _
  refine ZE.if_ne (tgt := 14) d_SN_feed_9 rfl (zR_b2i _) (fun c9 => ?_) (fun c9 => ?_)
  · replace c9 := b2i_n0.mp c9
    refine ZE.aload_n d_SN_feed_14 rfl ?_
    refine ZE.getE (v := x + 135) d_SN_feed_15 f_SN_52 (tg := 2) rfl h.cCK.1 h.cCF.2.2.2.2.2.2.1 ?_
    refine ZE.iload_n d_SN_feed_18 rfl ?_
    refine ZE.cV [(0, a1)] [] [(2, x + 135), (0, a1), (9, 0)] d_SN_feed_19 l_SN_341 rfl rfl rfl rfl rfl rfl h.xT.1 ?_
    refine t_appendFour h.xT (tl := tl) (tf := tf) h.ct.1 (by omega) (fun B1 gB1 hN1 => ?_)
    show ZE 11 M_SN_feed (gw G B1) 22 [(2, x), (0, a1), (0, a2), (0, a3), (0, a4), (0, a5)] [] _
    refine ZE.aload_n d_SN_feed_22 rfl ?_
    refine ZE.getE (v := x + 135) d_SN_feed_23 f_SN_52 (tg := 2) rfl h.cCK.1 ((congrFun (gB1 x (by omega) (by omega)) _).trans h.cCF.2.2.2.2.2.2.1) ?_
    refine ZE.iload_n d_SN_feed_26 rfl ?_
    refine ZE.cV [(0, a2)] [] [(2, x + 135), (0, a2), (9, 0)] d_SN_feed_27 l_SN_341 rfl rfl rfl rfl rfl rfl h.xT.1 ?_
    refine t_appendFour h.xT (tl := tl + 4) (tf := (ap4 tf (tl) a1)) hN1 (by omega) (fun B2 gB2 hN2 => ?_)
    show ZE 11 M_SN_feed (gw G B2) 30 [(2, x), (0, a1), (0, a2), (0, a3), (0, a4), (0, a5)] [] _
    refine ZE.aload_n d_SN_feed_30 rfl ?_
    refine ZE.getE (v := x + 135) d_SN_feed_31 f_SN_52 (tg := 2) rfl h.cCK.1 ((congrFun (gB2 x (by omega) (by omega)) _).trans ((congrFun (gB1 x (by omega) (by omega)) _).trans h.cCF.2.2.2.2.2.2.1)) ?_
    refine ZE.iload_n d_SN_feed_34 rfl ?_
    refine ZE.cV [(0, a3)] [] [(2, x + 135), (0, a3), (9, 0)] d_SN_feed_35 l_SN_341 rfl rfl rfl rfl rfl rfl h.xT.1 ?_
    refine t_appendFour h.xT (tl := tl + 8) (tf := (ap4 (ap4 tf (tl) a1) (tl + 4) a2)) hN2 (by omega) (fun B3 gB3 hN3 => ?_)
    show ZE 11 M_SN_feed (gw G B3) 38 [(2, x), (0, a1), (0, a2), (0, a3), (0, a4), (0, a5)] [] _
    refine ZE.aload_n d_SN_feed_38 rfl ?_
    refine ZE.getE (v := x + 135) d_SN_feed_39 f_SN_52 (tg := 2) rfl h.cCK.1 ((congrFun (gB3 x (by omega) (by omega)) _).trans ((congrFun (gB2 x (by omega) (by omega)) _).trans ((congrFun (gB1 x (by omega) (by omega)) _).trans h.cCF.2.2.2.2.2.2.1))) ?_
    refine ZE.iload d_SN_feed_42 rfl ?_
    refine ZE.cV [(0, a4)] [] [(2, x + 135), (0, a4), (9, 0)] d_SN_feed_44 l_SN_341 rfl rfl rfl rfl rfl rfl h.xT.1 ?_
    refine t_appendFour h.xT (tl := tl + 12) (tf := (ap4 (ap4 (ap4 tf (tl) a1) (tl + 4) a2) (tl + 8) a3)) hN3 (by omega) (fun B4 gB4 hN4 => ?_)
    show ZE 11 M_SN_feed (gw G B4) 47 [(2, x), (0, a1), (0, a2), (0, a3), (0, a4), (0, a5)] [] _
    refine ZE.aload_n d_SN_feed_47 rfl ?_
    refine ZE.getE (v := x + 135) d_SN_feed_48 f_SN_52 (tg := 2) rfl h.cCK.1 ((congrFun (gB4 x (by omega) (by omega)) _).trans ((congrFun (gB3 x (by omega) (by omega)) _).trans ((congrFun (gB2 x (by omega) (by omega)) _).trans ((congrFun (gB1 x (by omega) (by omega)) _).trans h.cCF.2.2.2.2.2.2.1)))) ?_
    refine ZE.iload d_SN_feed_51 rfl ?_
    refine ZE.cV [(0, a5)] [] [(2, x + 135), (0, a5), (9, 0)] d_SN_feed_53 l_SN_341 rfl rfl rfl rfl rfl rfl h.xT.1 ?_
    refine t_appendFour h.xT (tl := tl + 16) (tf := (ap4 (ap4 (ap4 (ap4 tf (tl) a1) (tl + 4) a2) (tl + 8) a3) (tl + 12) a4)) hN4 (by omega) (fun B5 gB5 hN5 => ?_)
    show ZE 11 M_SN_feed (gw G B5) 56 [(2, x), (0, a1), (0, a2), (0, a3), (0, a4), (0, a5)] [] _
    refine ZE.aload_n d_SN_feed_56 rfl ?_
    refine ZE.getE (v := x + 135) d_SN_feed_57 f_SN_52 (tg := 2) rfl h.cCK.1 ((congrFun (gB5 x (by omega) (by omega)) _).trans ((congrFun (gB4 x (by omega) (by omega)) _).trans ((congrFun (gB3 x (by omega) (by omega)) _).trans ((congrFun (gB2 x (by omega) (by omega)) _).trans ((congrFun (gB1 x (by omega) (by omega)) _).trans h.cCF.2.2.2.2.2.2.1))))) ?_
    refine ZE.getE (v := ((tl + 20 : Nat) : Int)) d_SN_feed_60 f_SN_344 (tg := 0) rfl h.xT.1 hN5.2.1 ?_
    refine ZE.iret d_SN_feed_63 rfl ?_
    have es : feT tl = tl + 20 ∧ feW tl tf a1 a2 a3 a4 a5 = (ap4 (ap4 (ap4 (ap4 (ap4 tf tl a1) (tl + 4) a2) (tl + 8) a3) (tl + 12) a4) (tl + 16) a5) := ⟨if_pos c9, if_pos c9⟩
    rw [es.1, es.2] at k
    have hz := tp_CI h (gB1.tr (gB2.tr (gB3.tr (gB4.tr gB5)))) hN5 (by omega) (ap4_R (ap4_R (ap4_R (ap4_R (ap4_R h.ct.2.2 _ _) _ _) _ _) _ _) _ _)
    have k1 := k G B5 hz.1 hz.2
    rw [show feV tl = (((tl + 20 : Nat) : Int)) from if_pos c9] at k1
    exact k1
  · replace c9 := b2i_0.mp c9
    refine ZE.iconst (n := (-1)) d_SN_feed_12 ?_
    refine ZE.iret d_SN_feed_13 rfl ?_
    have es : feT tl = tl ∧ feW tl tf a1 a2 a3 a4 a5 = tf := ⟨if_neg c9, if_neg c9⟩
    rw [es.1, es.2] at k
    have k1 := k G A h cT.rf
    rw [show feV tl = (-1) from if_neg c9] at k1
    exact k1
set_option maxRecDepth 20000 in
set_option maxHeartbeats 4000000 in
theorem c_end {d : Nat} {G : zG} {A : Int → Int → Int} {P : Option zV → zG → Prop} {x : Int} {S T tl : Nat} {tf : Nat → Int} {wl : Nat} {wf : Nat → Int} (h : CI G A x S T tl tf wl wf) {n : Int} (hn : zR n) (k : ∀ G2 A2, CI G2 A2 x S T (enT tl n) tf wl wf → cT G A G2 A2 x → P (some (0, enD tl n)) (gw G2 A2)) : ZE 11 M_SN_end (gw G A) 0 [(2, x), (0, n)] [] P := by
  have hx0 := h.cCK.2.1
  have hR := h.cR
  have hL := h.cL.1
  have hgx := h.cL.2
  have hS7 := h.cS.2.1
  have hp5 := h.cS.2.2
  have hE0 := hR.E
  have hL64 := hR.l64
  have hC32 := hR.c32
  have hpl : (prL 1 S).length = (prs S).length := by rw [prL_1 hS7 hp5]
  have hcl : (csA 1 S).length = (csF S 1 128).length := rfl
  refine ZE.aload_n d_SN_end_0 rfl ?_
  refine ZE.getE (v := x + 135) d_SN_end_1 f_SN_52 (tg := 2) rfl h.cCK.1 h.cCF.2.2.2.2.2.2.1 ?_
  refine ZE.iload_n d_SN_end_4 rfl ?_
  have htl2 := h.ct.2.1
  refine ZE.cV [(0, n)] [] [(2, x + 135), (0, n)] d_SN_end_5 l_SN_347 rfl rfl rfl rfl rfl rfl h.xT.1 ?_
  refine t_cutTo h.xT h.ct.1 hn (by omega) (fun B gB hN => ?_)
  show ZE 11 M_SN_end (gw G B) 8 [(2, x), (0, n)] [(0, b2i (0 ≤ n ∧ n ≤ (tl : Int)))] _
  refine ZE.if_eq (tgt := 15) d_SN_end_8 rfl (zR_b2i _) (fun c8 => ?_) (fun c8 => ?_)
  · replace c8 := b2i_0.mp c8
    refine ZE.iconst (n := (-1)) d_SN_end_15 ?_
    refine ZE.iret d_SN_end_16 rfl ?_
    have hz := tp_CI h gB hN (by unfold enT; split <;> omega) h.ct.2.2
    have k1 := k G B hz.1 hz.2
    rw [show enD tl n = ((-1)) from if_neg c8] at k1
    exact k1
  · replace c8 := b2i_n0.mp c8
    refine ZE.iload_n d_SN_end_11 rfl ?_
    refine ZE.goto (tgt := 16) d_SN_end_12 rfl ?_
    refine ZE.iret d_SN_end_16 rfl ?_
    have hz := tp_CI h gB hN (by unfold enT; split <;> omega) h.ct.2.2
    have k1 := k G B hz.1 hz.2
    rw [show enD tl n = (n) from if_pos c8] at k1
    exact k1
set_option maxRecDepth 20000 in
set_option maxHeartbeats 4000000 in
theorem c_number {d : Nat} {G : zG} {A : Int → Int → Int} {P : Option zV → zG → Prop} {x : Int} {S T tl : Nat} {tf : Nat → Int} {wl : Nat} {wf : Nat → Int} (h : CI G A x S T tl tf wl wf)  (k : ∀ G2 A2, CI G2 A2 x S (nuT tf tl T) 0 tf wl wf → cT G A G2 A2 x → P (some (0, nuV tf tl)) (gw G2 A2)) : ZE 11 M_SN_number (gw G A) 0 [(2, x), (9, 0), (9, 0)] [] P := by
  have hx0 := h.cCK.2.1
  have hR := h.cR
  have hL := h.cL.1
  have hgx := h.cL.2
  have hS7 := h.cS.2.1
  have hp5 := h.cS.2.2
  have hE0 := hR.E
  have hL64 := hR.l64
  have hC32 := hR.c32
  have hpl : (prL 1 S).length = (prs S).length := by rw [prL_1 hS7 hp5]
  have hcl : (csA 1 S).length = (csF S 1 128).length := rfl
  refine ZE.aload_n d_SN_number_0 rfl ?_
  refine ZE.getE (v := x + 135) d_SN_number_1 f_SN_52 (tg := 2) rfl h.cCK.1 h.cCF.2.2.2.2.2.2.1 ?_
  refine ZE.sipush (n := 300) d_SN_number_4 rfl ?_
  have htl2 := h.ct.2.1
  refine ZE.cV [(0, 300)] [] [(2, x + 135), (0, 300), (9, 0)] d_SN_number_7 l_SN_350 rfl rfl rfl rfl rfl rfl h.xT.1 ?_
  refine t_isNumber h.xT h.ct.1 h.ct.2.2 (by omega) ?_
  show ZE 11 M_SN_number (gw G A) 10 [(2, x), (9, 0), (9, 0)] [(0, b2i (isnB tf tl = true))] _
  refine ZE.if_eq (tgt := 23) d_SN_number_10 rfl (zR_b2i _) (fun c10 => ?_) (fun c10 => ?_)
  · replace c10 := b2i_0.mp c10
    refine ZE.iconst (n := (-1)) d_SN_number_23 ?_
    refine ZE.istore_n (ls2 := [(2, x), (0, (-1)), (9, 0)]) d_SN_number_24 (Nat.le_of_ble_eq_true rfl) rfl ?_
    refine ZE.iload_n d_SN_number_25 rfl ?_
    refine ZE.iconst (n := (-1)) d_SN_number_26 ?_
    refine ZE.icmp_eq (tgt := 78) d_SN_number_27 rfl (by unfold zR; omega) (by unfold zR; omega) (fun c27 => ?_) (fun c27 => ?_)
    · refine ZE.aload_n d_SN_number_78 rfl ?_
      refine ZE.getE (v := x + 135) d_SN_number_79 f_SN_52 (tg := 2) rfl h.cCK.1 h.cCF.2.2.2.2.2.2.1 ?_
      refine ZE.iconst (n := 0) d_SN_number_82 ?_
      have htl2 := h.ct.2.1
      refine ZE.cV [(0, 0)] [] [(2, x + 135), (0, 0)] d_SN_number_83 l_SN_347 rfl rfl rfl rfl rfl rfl h.xT.1 ?_
      refine t_cutTo h.xT h.ct.1 (n := 0) (by unfold zR; omega) (by omega) (fun C gC hC => ?_)
      show ZE 11 M_SN_number (gw G C) 86 [(2, x), (0, (-1)), (9, 0)] [(0, b2i (0 ≤ (0 : Int) ∧ (0 : Int) ≤ (tl : Int)))] _
      refine ZE.pop d_SN_number_86 (Or.inl rfl) ?_
      refine ZE.iload_n d_SN_number_87 rfl ?_
      refine ZE.iret d_SN_number_88 rfl ?_
      have hen : enT tl 0 = 0 := if_pos (by omega)
      rw [hen] at hC
      have es : nuT tf tl T = T := if_neg c10
      rw [es] at k
      have hz := tp_CI h gC hC (by omega) h.ct.2.2
      have k1 := k G C hz.1 hz.2
      rw [show nuV tf tl = (-1) from if_neg c10] at k1
      exact k1
    · exact absurd c27 (by decide)
  · replace c10 := b2i_n0.mp c10
    have htl2 := h.ct.2.1
    have his := c10
    unfold isnB at his
    rw [Bool.and_eq_true] at his
    have hisD := his.2
    have his1 := of_decide_eq_true his.1
    refine ZE.aload_n d_SN_number_13 rfl ?_
    refine ZE.getE (v := x + 135) d_SN_number_14 f_SN_52 (tg := 2) rfl h.cCK.1 h.cCF.2.2.2.2.2.2.1 ?_
    refine ZE.getE (v := (tl : Int)) d_SN_number_17 f_SN_344 (tg := 0) rfl h.xT.1 h.ct.1.2.1 ?_
    refine ZE.goto (tgt := 24) d_SN_number_20 rfl ?_
    refine ZE.istore_n (ls2 := [(2, x), (0, (tl : Int)), (9, 0)]) d_SN_number_24 (Nat.le_of_ble_eq_true rfl) rfl ?_
    refine ZE.iload_n d_SN_number_25 rfl ?_
    refine ZE.iconst (n := (-1)) d_SN_number_26 ?_
    refine ZE.icmp_eq (tgt := 78) d_SN_number_27 rfl (by unfold zR; omega) (by unfold zR; omega) (fun c27 => ?_) (fun c27 => ?_)
    · refine ZE.aload_n d_SN_number_78 rfl ?_
      refine ZE.getE (v := x + 135) d_SN_number_79 f_SN_52 (tg := 2) rfl h.cCK.1 h.cCF.2.2.2.2.2.2.1 ?_
      refine ZE.iconst (n := 0) d_SN_number_82 ?_
      have htl2 := h.ct.2.1
      refine ZE.cV [(0, 0)] [] [(2, x + 135), (0, 0)] d_SN_number_83 l_SN_347 rfl rfl rfl rfl rfl rfl h.xT.1 ?_
      refine t_cutTo h.xT h.ct.1 (n := 0) (by unfold zR; omega) (by omega) (fun C gC hC => ?_)
      show ZE 11 M_SN_number (gw G C) 86 [(2, x), (0, (tl : Int)), (9, 0)] [(0, b2i (0 ≤ (0 : Int) ∧ (0 : Int) ≤ (tl : Int)))] _
      refine ZE.pop d_SN_number_86 (Or.inl rfl) ?_
      refine ZE.iload_n d_SN_number_87 rfl ?_
      refine ZE.iret d_SN_number_88 rfl ?_
      exact absurd c27 (by omega)
    · refine ZE.aload_n d_SN_number_30 rfl ?_
      refine ZE.getE (v := x + 141) d_SN_number_31 f_SN_65 (tg := 2) rfl h.cCK.1 h.cCF.2.2.2.2.2.2.2.2.2.1 ?_
      refine ZE.iconst (n := 0) d_SN_number_34 ?_
      refine ZE.cV [(0, 0)] [] [(2, x + 141), (0, 0)] d_SN_number_35 l_SN_76 rfl rfl rfl rfl rfl rfl h.bT.1 ?_
      refine B_setTo h.bT h.cT.1.1 (v := 0) (by omega) (fun B0 g0 n0 => ?_)
      show ZE 11 M_SN_number (gw G B0) 38 [(2, x), (0, (tl : Int)), (9, 0)] [] _
      refine ZE.iconst (n := 0) d_SN_number_38 ?_
      refine ZE.istore_n (ls2 := [(2, x), (0, (tl : Int)), (0, 0)]) d_SN_number_39 (Nat.le_of_ble_eq_true rfl) rfl ?_
      have L40 : ∀ (tt0 : Nat) (j : Nat) (B : Int → Int → Int) (hj : j ≤ tl) (gB : bF A B (x + 141)) (hN : bN B (x + 141) (nuN tf j)), tl - j < tt0 → ZE 11 M_SN_number (gw G B) 40 [(2, x), (0, (tl : Int)), (0, (j : Int))] [] P := by
        intro tt0
        induction tt0 with
        | zero => intro j B hj gB hN hm; exact absurd hm (Nat.not_lt_zero _)
        | succ tt0 ih =>
          intro j B hj gB hN hm
          have hnl := nuN_lt hisD j hj
          have hj3 : 10 ^ j ≤ 10 ^ 300 := Nat.pow_le_pow_right (by omega) (by omega)
          refine ZE.iload_n d_SN_number_40 rfl ?_
          refine ZE.iload_n d_SN_number_41 rfl ?_
          refine ZE.icmp_ge (tgt := 78) d_SN_number_42 rfl (by unfold zR; omega) (by unfold zR; omega) (fun c42 => ?_) (fun c42 => ?_)
          · refine ZE.aload_n d_SN_number_78 rfl ?_
            refine ZE.getE (v := x + 135) d_SN_number_79 f_SN_52 (tg := 2) rfl h.cCK.1 ((congrFun (gB x (by omega) (by omega)) _).trans h.cCF.2.2.2.2.2.2.1) ?_
            refine ZE.iconst (n := 0) d_SN_number_82 ?_
            have hz0 := td_CI h gB hN (Nat.lt_of_lt_of_le hnl hj3)
            refine ZE.cV [(0, 0)] [] [(2, x + 135), (0, 0)] d_SN_number_83 l_SN_347 rfl rfl rfl rfl rfl rfl h.xT.1 ?_
            refine t_cutTo h.xT hz0.1.ct.1 (n := 0) (by unfold zR; omega) (by omega) (fun C gC hC => ?_)
            show ZE 11 M_SN_number (gw G C) 86 [(2, x), (0, (tl : Int)), (0, (j : Int))] [(0, b2i (0 ≤ (0 : Int) ∧ (0 : Int) ≤ (tl : Int)))] _
            refine ZE.pop d_SN_number_86 (Or.inl rfl) ?_
            refine ZE.iload_n d_SN_number_87 rfl ?_
            refine ZE.iret d_SN_number_88 rfl ?_
            have hen : enT tl 0 = 0 := if_pos (by omega)
            rw [hen] at hC
            have ej : j = tl := by omega
            rw [ej] at hz0
            have es : nuT tf tl T = nuN tf tl := if_pos c10
            rw [es] at k
            have hz := tp_CI hz0.1 gC hC (by omega) h.ct.2.2
            have k1 := k G C hz.1 (hz0.2.tr hz.2)
            rw [show nuV tf tl = ((tl : Int)) from if_pos c10] at k1
            exact k1
          · have hm1 : nuN tf j * 10 < 10 ^ 300 := by
              have h1 : 10 ^ (j + 1) ≤ 10 ^ 300 := Nat.pow_le_pow_right (by omega) (by omega)
              rw [Nat.pow_succ] at h1
              omega
            refine ZE.aload_n d_SN_number_45 rfl ?_
            refine ZE.getE (v := x + 141) d_SN_number_46 f_SN_65 (tg := 2) rfl h.cCK.1 ((congrFun (gB x (by omega) (by omega)) _).trans h.cCF.2.2.2.2.2.2.2.2.2.1) ?_
            refine ZE.bipush (n := 10) d_SN_number_49 rfl ?_
            refine ZE.cV [(0, 10)] [] [(2, x + 141), (0, 10), (9, 0), (9, 0), (9, 0), (9, 0), (9, 0)] d_SN_number_51 l_SN_353 rfl rfl rfl rfl rfl rfl h.bT.1 ?_
            refine B_multiply h.bT hN (f := 10) (by omega) (by omega) (by have := nd_34 (v := nuN tf j) (by omega); omega) (by have := nd_34 (v := nuN tf j * 10) (by omega); omega) (fun B1 g1 n1 => ?_)
            show ZE 11 M_SN_number (gw G B1) 54 [(2, x), (0, (tl : Int)), (0, (j : Int))] [] _
            refine ZE.aload_n d_SN_number_54 rfl ?_
            refine ZE.getE (v := x + 141) d_SN_number_55 f_SN_65 (tg := 2) rfl h.cCK.1 ((congrFun (g1 x (by omega) (by omega)) _).trans ((congrFun (gB x (by omega) (by omega)) _).trans h.cCF.2.2.2.2.2.2.2.2.2.1)) ?_
            refine ZE.aload_n d_SN_number_58 rfl ?_
            refine ZE.getE (v := x + 135) d_SN_number_59 f_SN_52 (tg := 2) rfl h.cCK.1 ((congrFun (g1 x (by omega) (by omega)) _).trans ((congrFun (gB x (by omega) (by omega)) _).trans h.cCF.2.2.2.2.2.2.1)) ?_
            refine ZE.iload_n d_SN_number_62 rfl ?_
            have hz1 := td_CI h (gB.tr g1) n1 hm1
            have hdj := isnD_at hisD j (by omega)
            have hba : bA tl tf (j : Int) = tf j := by unfold bA; rw [if_pos (by omega), Int.toNat_natCast]; omega
            refine ZE.cV [(0, (j : Int))] [(2, x + 141)] [(2, x + 135), (0, (j : Int))] d_SN_number_63 l_SN_356 rfl rfl rfl rfl rfl rfl h.xT.1 ?_
            refine t_byteAt h.xT hz1.1.ct.1 h.ct.2.2 (by omega) (by unfold zR; omega) ?_
            show ZE 11 M_SN_number (gw G B1) 66 [(2, x), (0, (tl : Int)), (0, (j : Int))] [(0, bA tl tf (j : Int)), (2, x + 141)] _
            rw [hba]
            refine ZE.bipush (n := 48) d_SN_number_66 rfl ?_
            refine ZE.isub d_SN_number_68 ?_
            have hw0 : tf j - 48 = (((tf j - 48).toNat : Nat) : Int) := by omega
            rw [hw0]
            refine ZE.cV [(0, (((((tf j - 48).toNat : Nat) : Int).toNat : Nat) : Int))] [] [(2, x + 141), (0, (((((tf j - 48).toNat : Nat) : Int).toNat : Nat) : Int)), (9, 0), (9, 0), (9, 0)] d_SN_number_69 l_SN_359 rfl rfl rfl rfl rfl rfl h.bT.1 ?_
            refine B_increase h.bT n1 (w0 := (tf j - 48).toNat) (by omega) (by have := nd_34 (v := nuN tf j * 10) (by omega); omega) (by have := nd_34 (v := nuN tf j * 10 + (tf j - 48).toNat) (by omega); omega) (fun B2 g2 n2 => ?_)
            show ZE 11 M_SN_number (gw G B2) 72 [(2, x), (0, (tl : Int)), (0, (j : Int))] [] _
            refine ZE.iinc (ls2 := [(2, x), (0, (tl : Int)), (0, (j : Int) + 1)]) d_SN_number_72 rfl rfl ?_
            refine ZE.goto (tgt := 40) d_SN_number_75 rfl ?_
            rw [show (j : Int) + 1 = ((j + 1 : Nat) : Int) by omega]
            exact ih (j + 1) B2 (by omega) (gB.tr (g1.tr g2)) n2 (by omega)
      exact L40 _ 0 B0 (by omega) g0 n0 (Nat.lt_succ_self _)
set_option maxRecDepth 20000 in
set_option maxHeartbeats 4000000 in
theorem c_inNumber {d : Nat} {G : zG} {A : Int → Int → Int} {P : Option zV → zG → Prop} {x : Int} {S T tl : Nat} {tf : Nat → Int} {wl : Nat} {wf : Nat → Int} (h : CI G A x S T tl tf wl wf) (hT1 : 0 < T) {p wh : Int} (hp : zR p) (hw : zR wh) (k : ∀ G2 A2, CI G2 A2 x S T tl tf wl wf → cT G A G2 A2 x → P (some (0, inV T p wh)) (gw G2 A2)) : ZE 11 M_SN_inNumber (gw G A) 0 [(2, x), (0, p), (0, wh)] [] P := by
  have hx0 := h.cCK.2.1
  have hR := h.cR
  have hL := h.cL.1
  have hgx := h.cL.2
  have hS7 := h.cS.2.1
  have hp5 := h.cS.2.2
  have hE0 := hR.E
  have hL64 := hR.l64
  have hC32 := hR.c32
  have hpl : (prL 1 S).length = (prs S).length := by rw [prL_1 hS7 hp5]
  have hcl : (csA 1 S).length = (csF S 1 128).length := rfl
  have hpR : zR (plc p) := by have := plc_R p; unfold zR; omega
  have hT9 := h.cT.2
  refine ZE.iload_n d_SN_inNumber_0 rfl ?_
  refine ZE.cS [(0, p)] [] [(0, p), (9, 0)] d_SN_inNumber_1 l_SN_246 rfl rfl rfl rfl rfl rfl ?_
  refine p_placeOf hp hL ?_
  show ZE 11 M_SN_inNumber (gw G A) 4 [(2, x), (0, p), (0, wh)] [(0, plc p)] _
  refine ZE.iconst (n := (-1)) d_SN_inNumber_4 ?_
  refine ZE.icmp_eq (tgt := 15) d_SN_inNumber_5 rfl hpR (by unfold zR; omega) (fun c5 => ?_) (fun c5 => ?_)
  · refine ZE.iconst (n := (-1)) d_SN_inNumber_15 ?_
    refine ZE.iret d_SN_inNumber_16 rfl ?_
    have k1 := k G A h cT.rf
    rw [show inV T p wh = (-1) from if_neg (by first | (intro q; exact q.1 c5) | (intro q; exact c12 (by omega)))] at k1
    exact k1
  · refine ZE.iload_n d_SN_inNumber_8 rfl ?_
    refine ZE.cS [(0, wh)] [] [(0, wh)] d_SN_inNumber_9 l_SN_183 rfl rfl rfl rfl rfl rfl ?_
    refine c_one2 hw ?_
    show ZE 11 M_SN_inNumber (gw G A) 12 [(2, x), (0, p), (0, wh)] [(0, b2i (wh = 0 ∨ wh = 1))] _
    refine ZE.if_ne (tgt := 17) d_SN_inNumber_12 rfl (zR_b2i _) (fun c12 => ?_) (fun c12 => ?_)
    · replace c12 := b2i_n0.mp c12
      obtain ⟨kk, hk7, hpk, hpe⟩ := plc_ge c5
      subst hpk
      have hsl := sev_2 kk hk7
      obtain ⟨wn, hwn⟩ : ∃ q9 : Nat, wh = (q9 : Int) := ⟨wh.toNat, by omega⟩
      subst hwn
      refine ZE.aload_n d_SN_inNumber_17 rfl ?_
      refine ZE.getE (v := x + 143) d_SN_inNumber_18 f_SN_69 (tg := 2) rfl h.cCK.1 h.cCF.2.2.2.2.2.2.2.2.2.2 ?_
      refine ZE.aload_n d_SN_inNumber_21 rfl ?_
      refine ZE.getE (v := x + 141) d_SN_inNumber_22 f_SN_65 (tg := 2) rfl h.cCK.1 h.cCF.2.2.2.2.2.2.2.2.2.1 ?_
      refine ZE.cV [(2, x + 141)] [] [(2, x + 143), (2, x + 141), (9, 0)] d_SN_inNumber_25 l_SN_362 rfl rfl rfl rfl rfl rfl h.bS.1 ?_
      refine B_copy h.bS (by have := h.cp; omega) h.bT h.cT.1 (by have := nd_34 (v := T) (by omega); omega) (by have := nd_34 (v := T) (by omega); omega) (by omega) (fun B1 g1 n1 => ?_)
      show ZE 11 M_SN_inNumber (gw G B1) 28 [(2, x), (0, (sev kk : Int)), (0, (wn : Int))] [] _
      refine ZE.aload_n d_SN_inNumber_28 rfl ?_
      refine ZE.getE (v := x + 143) d_SN_inNumber_29 f_SN_69 (tg := 2) rfl h.cCK.1 ((congrFun (g1 x (by omega) (by omega)) _).trans h.cCF.2.2.2.2.2.2.2.2.2.2) ?_
      refine ZE.iload_n d_SN_inNumber_32 rfl ?_
      refine ZE.cV [(0, (wn : Int))] [] [(2, x + 143), (0, (wn : Int)), (9, 0), (9, 0), (9, 0)] d_SN_inNumber_33 l_SN_359 rfl rfl rfl rfl rfl rfl h.bS.1 ?_
      refine B_increase h.bS n1 (w0 := wn) (by omega) (by have := nd_34 (v := T) (by omega); omega) (by have := nd_34 (v := T + wn) (by omega); omega) (fun B2 g2 n2 => ?_)
      show ZE 11 M_SN_inNumber (gw G B2) 36 [(2, x), (0, (sev kk : Int)), (0, (wn : Int))] [] _
      refine ZE.aload_n d_SN_inNumber_36 rfl ?_
      refine ZE.getE (v := x + 143) d_SN_inNumber_37 f_SN_69 (tg := 2) rfl h.cCK.1 ((congrFun (g2 x (by omega) (by omega)) _).trans ((congrFun (g1 x (by omega) (by omega)) _).trans h.cCF.2.2.2.2.2.2.2.2.2.2)) ?_
      refine ZE.iload_n d_SN_inNumber_40 rfl ?_
      refine ZE.cV [(0, (sev kk : Int))] [] [(2, x + 143), (0, (sev kk : Int)), (9, 0), (9, 0)] d_SN_inNumber_41 l_SN_366 rfl rfl rfl rfl rfl rfl h.bS.1 ?_
      refine B_strip h.bS n2 (by omega) (p := sev kk) (by omega) (by omega) (by have := nd_34 (v := T + wn) (by omega); omega) (fun B3 g3 n3 => ?_)
      show ZE 11 M_SN_inNumber (gw G B3) 44 [(2, x), (0, (sev kk : Int)), (0, (wn : Int))] [(0, (vp (sev kk) (T + wn) : Int))] _
      refine ZE.iret d_SN_inNumber_44 rfl ?_
      have hz := sp_CI h (g1.tr (g2.tr g3)) n3
      have k1 := k G B3 hz.1 hz.2
      rw [show inV T (sev kk : Int) (wn : Int) = ((vp (sev kk) (T + wn) : Int)) from by unfold inV; rw [if_pos ⟨by rw [plc_sev kk hk7]; omega, by omega, by omega⟩, Int.toNat_natCast, Int.toNat_natCast]] at k1
      exact k1
    · replace c12 := b2i_0.mp c12
      refine ZE.iconst (n := (-1)) d_SN_inNumber_15 ?_
      refine ZE.iret d_SN_inNumber_16 rfl ?_
      have k1 := k G A h cT.rf
      rw [show inV T p wh = (-1) from if_neg (by first | (intro q; exact q.1 c5) | (intro q; exact c12 (by omega)))] at k1
      exact k1
set_option maxRecDepth 20000 in
set_option maxHeartbeats 4000000 in
theorem c_rest {d : Nat} {G : zG} {A : Int → Int → Int} {P : Option zV → zG → Prop} {x : Int} {S T tl : Nat} {tf : Nat → Int} {wl : Nat} {wf : Nat → Int} (h : CI G A x S T tl tf wl wf) (hT1 : 0 < T) (k : ∀ B, CI G B x S T tl tf wl wf → cT G A G B x → bN B (x + 143) (stN S T 7) → P (some (2, x + 143)) (gw G B)) : ZE (d + 4) M_SN_restOfNumber (gw G A) 0 [(2, x), (9, 0), (9, 0)] [] P := by
  have hx0 := h.cCK.2.1
  have hR := h.cR
  have hL := h.cL.1
  have hgx := h.cL.2
  have hS7 := h.cS.2.1
  have hp5 := h.cS.2.2
  have hE0 := hR.E
  have hL64 := hR.l64
  have hC32 := hR.c32
  have hpl : (prL 1 S).length = (prs S).length := by rw [prL_1 hS7 hp5]
  have hcl : (csA 1 S).length = (csF S 1 128).length := rfl
  have hT9 := h.cT.2
  refine ZE.aload_n d_SN_restOfNumber_0 rfl ?_
  refine ZE.getE (v := x + 143) d_SN_restOfNumber_1 f_SN_69 (tg := 2) rfl h.cCK.1 h.cCF.2.2.2.2.2.2.2.2.2.2 ?_
  refine ZE.aload_n d_SN_restOfNumber_4 rfl ?_
  refine ZE.getE (v := x + 141) d_SN_restOfNumber_5 f_SN_65 (tg := 2) rfl h.cCK.1 h.cCF.2.2.2.2.2.2.2.2.2.1 ?_
  refine ZE.cV [(2, x + 141)] [] [(2, x + 143), (2, x + 141), (9, 0)] d_SN_restOfNumber_8 l_SN_362 rfl rfl rfl rfl rfl rfl h.bS.1 ?_
  refine B_copy h.bS (by have := h.cp; omega) h.bT h.cT.1 (by have := nd_34 (v := T) (by omega); omega) (by have := nd_34 (v := T) (by omega); omega) (by omega) (fun B1 g1 n1 => ?_)
  show ZE (d + 4) M_SN_restOfNumber (gw G B1) 11 [(2, x), (9, 0), (9, 0)] [] _
  refine ZE.iconst (n := 0) d_SN_restOfNumber_11 ?_
  refine ZE.istore_n (ls2 := [(2, x), (0, 0), (9, 0)]) d_SN_restOfNumber_12 (Nat.le_of_ble_eq_true rfl) rfl ?_
  have L13 : ∀ (tt0 : Nat) (i : Nat) (B : Int → Int → Int) (hi : i ≤ 7) (gB : bF A B (x + 143)) (hN : bN B (x + 143) (stN S T i)), 7 - i < tt0 → ZE (d + 4) M_SN_restOfNumber (gw G B) 13 [(2, x), (0, (i : Int)), (9, 0)] [] P := by
    intro tt0
    induction tt0 with
    | zero => intro i B hi gB hN hm; exact absurd hm (Nat.not_lt_zero _)
    | succ tt0 ih =>
      intro i B hi gB hN hm
      have hB := sp_CI h gB hN
      have hst := stN_pos (S := S) hT1 i hi
      refine ZE.iload_n d_SN_restOfNumber_13 rfl ?_
      refine ZE.bipush (n := 7) d_SN_restOfNumber_14 rfl ?_
      refine ZE.icmp_ge (tgt := 50) d_SN_restOfNumber_16 rfl (by unfold zR; omega) (by unfold zR; omega) (fun c16 => ?_) (fun c16 => ?_)
      · refine ZE.aload_n d_SN_restOfNumber_50 rfl ?_
        refine ZE.getE (v := x + 143) d_SN_restOfNumber_51 f_SN_69 (tg := 2) rfl h.cCK.1 hB.1.cCF.2.2.2.2.2.2.2.2.2.2 ?_
        refine ZE.aret d_SN_restOfNumber_54 ⟨_, rfl⟩ ?_
        have e7 : i = 7 := by omega
        subst e7
        exact k B hB.1 hB.2 hN
      · refine ZE.iload_n d_SN_restOfNumber_19 rfl ?_
        have hz7 := zPf_sev i (by omega)
        have hsl := sev_2 i (by omega)
        refine ZE.cS [(0, (i : Int))] [] [(0, (i : Int))] d_SN_restOfNumber_20 l_SN_282 rfl rfl rfl rfl rfl rfl ?_
        refine p_at (j := i) (by omega) hB.1.cL.1 ?_
        show ZE (d + 4) M_SN_restOfNumber (gw G B) 23 [(2, x), (0, (i : Int)), (9, 0)] [(0, zPf i)] _
        rw [hz7]
        refine ZE.istore_n (ls2 := [(2, x), (0, (i : Int)), (0, (sev i : Int))]) d_SN_restOfNumber_23 (Nat.le_of_ble_eq_true rfl) rfl ?_
        refine ZE.aload_n d_SN_restOfNumber_24 rfl ?_
        refine ZE.getE (v := (S : Int)) d_SN_restOfNumber_25 f_SN_72 (tg := 0) rfl h.cCK.1 hB.1.cS.1 ?_
        refine ZE.iload_n d_SN_restOfNumber_28 rfl ?_
        refine ZE.cS [(0, (S : Int)), (0, (sev i : Int))] [] [(0, (S : Int)), (0, (sev i : Int))] d_SN_restOfNumber_29 l_SN_96 rfl rfl rfl rfl rfl rfl ?_
        refine p_has hS7 (by unfold zR; omega) hB.1.cL.1 ?_
        show ZE (d + 4) M_SN_restOfNumber (gw G B) 32 [(2, x), (0, (i : Int)), (0, (sev i : Int))] [(0, b2i (hasB S (sev i : Int) = true))] _
        refine ZE.if_eq (tgt := 44) d_SN_restOfNumber_32 rfl (zR_b2i _) (fun c32 => ?_) (fun c32 => ?_)
        · replace c32 := b2i_0.mp c32
          have hbi : ¬ S.testBit i = true := by rw [hasB_sev (by omega)] at c32; exact c32
          refine ZE.iinc (ls2 := [(2, x), (0, (i : Int) + 1), (0, (sev i : Int))]) d_SN_restOfNumber_44 rfl rfl ?_
          refine ZE.goto (tgt := 13) d_SN_restOfNumber_47 rfl ?_
          refine ZE.mask [true, true, false] ?_
          show ZE (d + 4) M_SN_restOfNumber (gw G B) 13 [(2, x), (0, (i : Int) + 1), (9, 0)] [] _
          have e1 : stN S T (i + 1) = stN S T i := if_neg hbi
          rw [show (i : Int) + 1 = ((i + 1 : Nat) : Int) by omega]
          exact ih (i + 1) B (by omega) gB (by rw [e1]; exact hN) (by omega)
        · replace c32 := b2i_n0.mp c32
          have hbi : S.testBit i = true := by rw [hasB_sev (by omega)] at c32; exact c32
          refine ZE.aload_n d_SN_restOfNumber_35 rfl ?_
          refine ZE.getE (v := x + 143) d_SN_restOfNumber_36 f_SN_69 (tg := 2) rfl h.cCK.1 hB.1.cCF.2.2.2.2.2.2.2.2.2.2 ?_
          refine ZE.iload_n d_SN_restOfNumber_39 rfl ?_
          refine ZE.cV [(0, (sev i : Int))] [] [(2, x + 143), (0, (sev i : Int)), (9, 0), (9, 0)] d_SN_restOfNumber_40 l_SN_366 rfl rfl rfl rfl rfl rfl h.bS.1 ?_
          refine B_strip h.bS hN (by omega) (p := sev i) (by omega) (by omega) (by have := nd_34 (v := stN S T i) (by omega); omega) (fun B2 g2 n2 => ?_)
          show ZE (d + 4) M_SN_restOfNumber (gw G B2) 43 [(2, x), (0, (i : Int)), (0, (sev i : Int))] [(0, (vp (sev i) (stN S T i) : Int))] _
          refine ZE.pop d_SN_restOfNumber_43 (Or.inl rfl) ?_
          refine ZE.iinc (ls2 := [(2, x), (0, (i : Int) + 1), (0, (sev i : Int))]) d_SN_restOfNumber_44 rfl rfl ?_
          refine ZE.goto (tgt := 13) d_SN_restOfNumber_47 rfl ?_
          refine ZE.mask [true, true, false] ?_
          show ZE (d + 4) M_SN_restOfNumber (gw G B2) 13 [(2, x), (0, (i : Int) + 1), (9, 0)] [] _
          have e1 : stN S T (i + 1) = strp (sev i) (stN S T i) := if_pos hbi
          rw [show (i : Int) + 1 = ((i + 1 : Nat) : Int) by omega]
          exact ih (i + 1) B2 (by omega) (gB.tr g2) (by rw [e1]; exact n2) (by omega)
  exact L13 _ 0 B1 (by omega) g1 n1 (Nat.lt_succ_self _)
set_option maxRecDepth 20000 in
set_option maxHeartbeats 4000000 in
theorem c_ofNumber {d : Nat} {G : zG} {A : Int → Int → Int} {P : Option zV → zG → Prop} {x : Int} {S T tl : Nat} {tf : Nat → Int} {wl : Nat} {wf : Nat → Int} (h : CI G A x S T tl tf wl wf) (hT1 : 0 < T) {wh : Int} (hw : zR wh) (k : ∀ G2 A2, CI G2 A2 x S T tl tf wl wf → cT G A G2 A2 x → P (some (0, onV S T wh)) (gw G2 A2)) : ZE 11 M_SN_ofNumber (gw G A) 0 [(2, x), (0, wh)] [] P := by
  have hx0 := h.cCK.2.1
  have hR := h.cR
  have hL := h.cL.1
  have hgx := h.cL.2
  have hS7 := h.cS.2.1
  have hp5 := h.cS.2.2
  have hE0 := hR.E
  have hL64 := hR.l64
  have hC32 := hR.c32
  have hpl : (prL 1 S).length = (prs S).length := by rw [prL_1 hS7 hp5]
  have hcl : (csA 1 S).length = (csF S 1 128).length := rfl
  have hT9 := h.cT.2
  refine ZE.iload_n d_SN_ofNumber_0 rfl ?_
  rcases (show (wh < 0 ∨ 5 < wh) ∨ wh = 0 ∨ wh = 1 ∨ wh = 2 ∨ wh = 3 ∨ wh = 4 ∨ wh = 5 by omega) with eo | rfl | rfl | rfl | rfl | rfl | rfl
  · refine ZE.tableOut (tgt := 119) d_SN_ofNumber_1 (by unfold zR at *; omega) eo rfl ?_
    refine ZE.iconst (n := (-1)) d_SN_ofNumber_119 ?_
    refine ZE.iret d_SN_ofNumber_120 rfl ?_
    have k1 := k G A h cT.rf
    rw [show onV S T wh = (-1) from onV_out eo] at k1
    exact k1
  · refine ZE.tableIn (tgt := 40) d_SN_ofNumber_1 (by unfold zR; omega) (by omega) rfl rfl ?_
    refine ZE.aload_n d_SN_ofNumber_40 rfl ?_
    refine ZE.cV [] [] [(2, x), (9, 0), (9, 0)] d_SN_ofNumber_41 l_SN_369 rfl rfl rfl rfl rfl rfl h.cCK.1 ?_
    refine c_rest h hT1 (fun B hB hT hN => ?_)
    show ZE 11 M_SN_ofNumber (gw G B) 44 [(2, x), (0, 0)] [(2, x + 143)] _
    refine ZE.cV [] [] [(2, x + 143)] d_SN_ofNumber_44 l_SN_335 rfl rfl rfl rfl rfl rfl h.bS.1 ?_
    refine B_asInt h.bS hN (by have := stN_pos (S := S) hT1 7 (by omega); have := nd_34 (v := stN S T 7) (by omega); omega) ?_
    show ZE 11 M_SN_ofNumber (gw G B) 47 [(2, x), (0, 0)] [(0, if stN S T 7 < 1000000000 then (stN S T 7 : Int) else -1)] _
    refine ZE.iconst (n := 1) d_SN_ofNumber_47 ?_
    refine ZE.icmp_ne (tgt := 55) d_SN_ofNumber_48 rfl (by have := stN_pos (S := S) hT1 7 (by omega); unfold zR; split <;> omega) (by unfold zR; omega) (fun c48 => ?_) (fun c48 => ?_)
    · refine ZE.iconst (n := 0) d_SN_ofNumber_55 ?_
      refine ZE.iret d_SN_ofNumber_56 rfl ?_
      have hst := stN_pos (S := S) hT1 7 (by omega)
      have k1 := k G B hB hT
      rw [show onV S T 0 = (0) from by show (if stN S T 7 = 1 then (1 : Int) else 0) = _; exact if_neg (fun z => by rw [if_pos (by omega)] at c48; omega)] at k1
      exact k1
    · refine ZE.iconst (n := 1) d_SN_ofNumber_51 ?_
      refine ZE.goto (tgt := 56) d_SN_ofNumber_52 rfl ?_
      refine ZE.iret d_SN_ofNumber_56 rfl ?_
      have hst := stN_pos (S := S) hT1 7 (by omega)
      have k1 := k G B hB hT
      rw [show onV S T 0 = (1) from by show (if stN S T 7 = 1 then (1 : Int) else 0) = _; exact if_pos (by split at c48 <;> omega)] at k1
      exact k1
  · refine ZE.tableIn (tgt := 57) d_SN_ofNumber_1 (by unfold zR; omega) (by omega) rfl rfl ?_
    refine ZE.aload_n d_SN_ofNumber_57 rfl ?_
    refine ZE.getE (v := x + 1) d_SN_ofNumber_58 f_SN_12 (tg := 2) rfl h.cCK.1 h.cCF.1 ?_
    refine ZE.aload_n d_SN_ofNumber_61 rfl ?_
    refine ZE.getE (v := x + 141) d_SN_ofNumber_62 f_SN_65 (tg := 2) rfl h.cCK.1 h.cCF.2.2.2.2.2.2.2.2.2.1 ?_
    refine ZE.cV [(2, x + 141)] [] [(2, x + 1), (2, x + 141), (9, 0)] d_SN_ofNumber_65 l_SN_373 rfl rfl rfl rfl rfl rfl h.cCK.2.2.1.1 ?_
    refine s_placeOf hR h.bT h.cT.1 (by have := nd_34 (v := T) (by omega); omega) ?_
    show ZE 11 M_SN_ofNumber (gw G A) 68 [(2, x), (0, 1)] [(0, fst1 (fun k => decide (nN 1 S k = T)) (prL 1 S).length)] _
    refine ZE.iret d_SN_ofNumber_68 rfl ?_
    have k1 := k G A h cT.rf
    rw [show onV S T 1 = (fst1 (fun k => decide (nN 1 S k = T)) (prL 1 S).length) from by show fst1 (fun k => decide (pN S k = smN T)) (prs S).length = _; rw [hpl]; exact fst1_congr _ (fun k hk => by show decide _ = decide _; rw [nN_1 hS7 hp5]; exact decide_eq_decide.mpr (smN_eq (prs_ok hS7 hp5 hk).2.1))] at k1
    exact k1
  · refine ZE.tableIn (tgt := 69) d_SN_ofNumber_1 (by unfold zR; omega) (by omega) rfl rfl ?_
    refine ZE.aload_n d_SN_ofNumber_69 rfl ?_
    refine ZE.getE (v := x + 47) d_SN_ofNumber_70 f_SN_18 (tg := 2) rfl h.cCK.1 h.cCF.2.1 ?_
    refine ZE.aload_n d_SN_ofNumber_73 rfl ?_
    refine ZE.getE (v := (S : Int)) d_SN_ofNumber_74 f_SN_72 (tg := 0) rfl h.cCK.1 h.cS.1 ?_
    refine ZE.cV [(0, (S : Int))] [] [(2, x + 47), (0, (S : Int)), (9, 0), (9, 0)] d_SN_ofNumber_77 l_SN_79 rfl rfl rfl rfl rfl rfl h.cCK.2.2.2.1.1 ?_
    refine c_fill2 h (fun G2 A2 hB hT hW hfr => ?_)
    show ZE 11 M_SN_ofNumber (gw G2 A2) 80 [(2, x), (0, 2)] [(2, x + 47)] _
    refine ZE.aload_n d_SN_ofNumber_80 rfl ?_
    refine ZE.getE (v := x + 141) d_SN_ofNumber_81 f_SN_65 (tg := 2) rfl hB.cCK.1 hB.cCF.2.2.2.2.2.2.2.2.2.1 ?_
    refine ZE.cV [(2, x + 141)] [] [(2, x + 47), (2, x + 141), (9, 0)] d_SN_ofNumber_84 l_SN_373 rfl rfl rfl rfl rfl rfl hB.cCK.2.2.2.1.1 ?_
    refine s_placeOf hW hB.bT hB.cT.1 (by have := nd_34 (v := T) (by omega); omega) ?_
    show ZE 11 M_SN_ofNumber (gw G2 A2) 87 [(2, x), (0, 2)] [(0, fst1 (fun k => decide (nN 2 S k = T)) (prL 2 S).length)] _
    refine ZE.iret d_SN_ofNumber_87 rfl ?_
    have k1 := k G2 A2 hB hT
    rw [show onV S T 2 = (fst1 (fun k => decide (nN 2 S k = T)) (prL 2 S).length) from by show fst1 (fun k => decide (tN S k = smN T)) (tws S).length = _; rw [prL_2 hS7 hp5]; exact fst1_congr _ (fun k hk => by show decide _ = decide _; rw [nN_2 hS7 hp5]; exact decide_eq_decide.mpr (smN_eq (tws_ok hS7 hp5 hk).2.1))] at k1
    exact k1
  · refine ZE.tableIn (tgt := 88) d_SN_ofNumber_1 (by unfold zR; omega) (by omega) rfl rfl ?_
    refine ZE.aload_n d_SN_ofNumber_88 rfl ?_
    refine ZE.cV [] [] [(2, x), (9, 0), (9, 0)] d_SN_ofNumber_89 l_SN_369 rfl rfl rfl rfl rfl rfl h.cCK.1 ?_
    refine c_rest h hT1 (fun B hB hT hN => ?_)
    show ZE 11 M_SN_ofNumber (gw G B) 92 [(2, x), (0, 3)] [(2, x + 143)] _
    refine ZE.cV [] [] [(2, x + 143), (9, 0), (9, 0)] d_SN_ofNumber_92 l_SN_127 rfl rfl rfl rfl rfl rfl h.bS.1 ?_
    refine B_digits h.bS hN (by have := stN_pos (S := S) hT1 7 (by omega); have := nd_34 (v := stN S T 7) (by omega); omega) ?_
    show ZE 11 M_SN_ofNumber (gw G B) 95 [(2, x), (0, 3)] [(0, (dl (stN S T 7) : Int))] _
    refine ZE.iret d_SN_ofNumber_95 rfl ?_
    have k1 := k G B hB hT
    rw [show onV S T 3 = ((dl (stN S T 7) : Int)) from rfl] at k1
    exact k1
  · refine ZE.tableIn (tgt := 96) d_SN_ofNumber_1 (by unfold zR; omega) (by omega) rfl rfl ?_
    refine ZE.aload_n d_SN_ofNumber_96 rfl ?_
    refine ZE.getE (v := x + 1) d_SN_ofNumber_97 f_SN_12 (tg := 2) rfl h.cCK.1 h.cCF.1 ?_
    refine ZE.aload_n d_SN_ofNumber_100 rfl ?_
    refine ZE.getE (v := x + 141) d_SN_ofNumber_101 f_SN_65 (tg := 2) rfl h.cCK.1 h.cCF.2.2.2.2.2.2.2.2.2.1 ?_
    refine ZE.cV [(2, x + 141)] [] [(2, x + 1), (2, x + 141), (9, 0), (9, 0)] d_SN_ofNumber_104 l_SN_376 rfl rfl rfl rfl rfl rfl h.cCK.2.2.1.1 ?_
    refine s_lessThan hR h.bT h.cT.1 (by have := nd_34 (v := T) (by omega); omega) ?_
    show ZE 11 M_SN_ofNumber (gw G A) 107 [(2, x), (0, 4)] [(0, (cnt (fun k => decide (nN 1 S k < T)) (prL 1 S).length : Int))] _
    refine ZE.iret d_SN_ofNumber_107 rfl ?_
    have k1 := k G A h cT.rf
    rw [show onV S T 4 = ((cnt (fun k => decide (nN 1 S k < T)) (prL 1 S).length : Int)) from by show (cnt (fun k => decide (pN S k < smN T)) (prs S).length : Int) = _; rw [hpl, cnt_congr (g := fun k => decide (nN 1 S k < T)) _ (fun k hk => by show decide _ = decide _; rw [nN_1 hS7 hp5]; exact decide_eq_decide.mpr (smN_lt (prs_ok hS7 hp5 hk).2.1))]] at k1
    exact k1
  · refine ZE.tableIn (tgt := 108) d_SN_ofNumber_1 (by unfold zR; omega) (by omega) rfl rfl ?_
    refine ZE.aload_n d_SN_ofNumber_108 rfl ?_
    refine ZE.getE (v := x + 141) d_SN_ofNumber_109 f_SN_65 (tg := 2) rfl h.cCK.1 h.cCF.2.2.2.2.2.2.2.2.2.1 ?_
    refine ZE.sipush (n := 9973) d_SN_ofNumber_112 rfl ?_
    refine ZE.cV [(0, 9973)] [] [(2, x + 141), (0, 9973), (9, 0), (9, 0), (9, 0)] d_SN_ofNumber_115 l_SN_234 rfl rfl rfl rfl rfl rfl h.bT.1 ?_
    refine B_remainder h.bT h.cT.1 (y := 9973) (by omega) (by omega) (by have := nd_34 (v := T) (by omega); omega) ?_
    show ZE 11 M_SN_ofNumber (gw G A) 118 [(2, x), (0, 5)] [(0, ((T % 9973 : Nat) : Int))] _
    refine ZE.iret d_SN_ofNumber_118 rfl ?_
    have k1 := k G A h cT.rf
    rw [show onV S T 5 = (((T % 9973 : Nat) : Int)) from rfl] at k1
    exact k1
