theorem cnt_upd {f g : Nat → Bool} {e : Nat} (hf : f e = true) (hg : g e = false) (h : ∀ k, k ≠ e → f k = g k) : ∀ n, e < n → cnt f n = cnt g n + 1 := by
  intro n
  induction n with
  | zero => intro h1; omega
  | succ n ih =>
    intro h1
    show (if f n = true then cnt f n + 1 else cnt f n) = (if g n = true then cnt g n + 1 else cnt g n) + 1
    rcases Nat.lt_or_ge e n with q | q
    · rw [ih q, h n (by omega)]
      split <;> omega
    · have : e = n := by omega
      subst this
      rw [hf, hg, if_pos rfl, if_neg (by decide), cnt_congr e (fun k hk => h k (by omega))]
theorem kU.ab {G G2 : zG} {A B : Int → Int → Int} {E0 u : Int} {ap e n m : Nat} (h : kU G A E0 ap e u) (g : gR G G2 n m) (f : ∀ a : Int, u ≤ a → a < (gz G : Int) → B a = A a) : kU G2 B E0 ap e u := by
  obtain ⟨h1, h2, h3, h4, h5⟩ := h
  have h0 := h3.2.1
  have hz := g.1
  exact ⟨h1, by omega, h3.gr g (by omega), h4.ab (fun a ha hb => f a ha (by omega)), h5.ab h0 g h2 f⟩
/-- all that asking for a unit may change below z -/
def uoF (A B : Int → Int → Int) (s z : Int) : Prop := (∀ a : Int, a < z → ¬ (s + 1 ≤ a ∧ a ≤ s + 9) → ¬ (s + 33 ≤ a ∧ a ≤ s + 45) → a ≠ s + 28 → B a = A a) ∧ ∀ e : Nat, A (s + 28) e ≠ -1 → B (s + 28) e = A (s + 28) e
theorem uoF.rf {A : Int → Int → Int} {s z : Int} : uoF A A s z := ⟨fun _ _ _ _ _ => rfl, fun _ _ => rfl⟩
theorem uoF.tr {A B C : Int → Int → Int} {s z z2 : Int} (h : uoF A B s z) (g : uoF B C s z2) (hz : z ≤ z2) : uoF A C s z := ⟨fun a h1 h2 h3 h4 => (g.1 a (by omega) h2 h3 h4).trans (h.1 a h1 h2 h3 h4), fun e he => (g.2 e (by rw [h.2 e he]; exact he)).trans (h.2 e he)⟩
set_option maxRecDepth 20000 in
set_option maxHeartbeats 4000000 in
theorem s_unitNew {d : Nat} {G : zG} {A : Int → Int → Int} {P : Option zV → zG → Prop} {s E0 : Int} (hK : sK G s) {ap : Nat} (hF : sF A s ap) (hL : lG G A) (hgl : gl G < s) (hap : ap = 1 ∨ ap = 2) (hE : s + 46 ≤ E0 ∧ E0 ≤ (gz G : Int)) (hP : kP G A s E0 ap) {e1 : Nat} (he : e1 < 128) (hp5 : pop e1 ≤ 5) (hne : e1 ≠ butF ap) {v1 : Int} (hv1 : A (s + 28) e1 = -1) (k : ∀ G2 A2 (u : Int) (n m : Nat), kP G2 A2 s E0 ap → kU G2 A2 E0 ap e1 u → A2 (s + 28) e1 = u → sF A2 s ap → uoF A A2 s (gz G : Int) → gR G G2 n m → n + 54 * unk A2 s ≤ 54 * unk A s → m + 556 * unk A2 s ≤ 556 * unk A s → P (some (2, u)) (gw G2 A2)) : ZE (d + 5) M_Sea_unitOf (gw G A) 29 [(2, s), (0, (e1 : Int)), (2, v1), (9, 0), (9, 0)] [] P := by
  have hs0 := hK.2.1
  have hzE := hE.2
  refine ZE.iload_n d_Sea_unitOf_29 rfl ?_
  refine ZE.cS [(0, (e1 : Int))] [] [(0, (e1 : Int)), (9, 0), (9, 0)] d_Sea_unitOf_30 l_Sea_116 rfl rfl rfl rfl rfl rfl ?_
  refine p_product (d := d + 3) he hL ?_
  show ZE (d + 5) M_Sea_unitOf (gw G A) 33 [(2, s), (0, (e1 : Int)), (2, v1), (9, 0), (9, 0)] [(0, (rad e1 : Int))] _
  refine ZE.istore_n (ls2 := [(2, s), (0, (e1 : Int)), (2, v1), (0, (rad e1 : Int)), (9, 0)]) d_Sea_unitOf_33 (Nat.le_of_ble_eq_true rfl) rfl ?_
  refine ZE.new d_Sea_unitOf_34 n_Sea_18 ?_
  rw [gnew_gw]
  obtain ⟨u, hu0⟩ : ∃ u : Int, (gz G : Int) = u := ⟨_, rfl⟩
  rw [show (gz (gw G A) : Int) = u from hu0]
  obtain ⟨G1, hE1⟩ : ∃ H1, H1 = gnew G 19 10 (zInit 9) := ⟨_, rfl⟩
  rw [show gnew G (10 + 9) 10 (zInit 9) = G1 from hE1.symm, hu0]
  have hgr1 : gR G G1 1 10 := by rw [hE1]; exact gR.new
  have hku1 : gk G1 u = 19 := by rw [hE1, ← hu0]; exact gnew_gk
  have hz1 : (gz G1 : Int) = u + 1 := by have := hgr1.1; omega
  have hks1 : gk G1 s = 16 := (hgr1.2.2.1 s (by omega)).1.trans hK.1
  have hup : s + 46 ≤ u := by omega
  have hne0 : ∀ a : Int, a ≠ u → upA A u (zInit 9) a = A a := fun a ha => upA_ne _ _ ha
  have hq0 : upA A u (zInit 9) s 0 = s + 1 := (congrFun (hne0 s (by omega)) _).trans hF.1
  have hq8 : upA A u (zInit 9) s 8 = (ap : Int) := (congrFun (hne0 s (by omega)) _).trans hF.2.2.2.2.2.2.2.2.1
  refine ZE.dup d_Sea_unitOf_37 (Or.inr rfl) ?_
  refine ZE.iload_n d_Sea_unitOf_38 rfl ?_
  refine ZE.aload_n d_Sea_unitOf_39 rfl ?_
  refine ZE.getE (v := (ap : Int)) d_Sea_unitOf_40 f_Sea_60 (tg := 0) rfl hks1 hq8 ?_
  refine ZE.iconst (n := 1) d_Sea_unitOf_43 ?_
  have J54 : ZE (d + 5) M_Sea_unitOf (gw G1 (upA A u (zInit 9))) 54 [(2, s), (0, (e1 : Int)), (2, v1), (0, (rad e1 : Int)), (9, 0)] [(0, ((DD ap e1) : Int)), (0, (rad e1 : Int)), (2, u), (2, u)] P := by
    refine ZE.aload_n d_Sea_unitOf_54 rfl ?_
    refine ZE.getE (v := s + 1) d_Sea_unitOf_55 f_Sea_12 (tg := 2) rfl hks1 hq0 ?_
    refine ZE.cI [(0, (rad e1 : Int)), (0, ((DD ap e1) : Int)), (2, s + 1)] [(2, u)] [(2, u), (0, (rad e1 : Int)), (0, ((DD ap e1) : Int)), (2, s + 1)] d_Sea_unitOf_58 l_Sea_20 rfl rfl rfl rfl rfl rfl (by omega) ?_
    refine u_init (d := d + 1) hz1 (by omega) hku1 (f := s + 1) (hK.2.2.1.gr hgr1 (by omega)) (hF.2.2.2.2.2.2.2.2.2.1.ab (fun a h1 h2 => hne0 a (by omega))) (by omega) (q := rad e1) (D := (DD ap e1)) (frD_DD hap he hp5 hne) (fun Gb B1 huK huO hu7 hA1 hfO1 hgr2 => ?_)
    show ZE (d + 5) M_Sea_unitOf (gw Gb B1) 61 [(2, s), (0, (e1 : Int)), (2, v1), (0, (rad e1 : Int)), (9, 0)] [(2, u)] _
    have hz2a := hgr2.1
    have hs17 : B1 s 7 = s + 33 := (congrFun (hA1 s (by omega) (by omega)) _).trans ((congrFun (hne0 s (by omega)) _).trans hF.2.2.2.2.2.2.2.1)
    have hwK2 : wK Gb (s + 33) := (hK.2.2.2.2.2.2.2.gr hgr1 (by omega)).gr hgr2 (by omega)
    have hwO1 : wO B1 (s + 33) ap := hF.2.2.2.2.2.2.2.2.2.2.1.ab (fun a h1 h2 => (hA1 a (by omega) (by omega)).trans (hne0 a (by omega)))
    refine ZE.astore_n (ls2 := [(2, s), (0, (e1 : Int)), (2, u), (0, (rad e1 : Int)), (9, 0)]) d_Sea_unitOf_61 (Nat.le_of_ble_eq_true rfl) rfl ?_
    refine ZE.aload_n d_Sea_unitOf_62 rfl ?_
    refine ZE.getE (v := s + 33) d_Sea_unitOf_63 f_Sea_66 (tg := 2) rfl ((hgr2.2.2.1 s (by omega)).1.trans hks1) hs17 ?_
    refine ZE.aload_n d_Sea_unitOf_66 rfl ?_
    have nb1 := nB_ux (frD_DD hap he hp5 hne)
    refine ZE.cV [(2, u)] [] [(2, s + 33), (2, u)] d_Sea_unitOf_67 l_Sea_119 rfl rfl rfl rfl rfl rfl hwK2.1 ?_
    refine w_begin (d := d + 2) hwK2 hwO1 huK.1 huO.1 huK.2.2.1 huO.x (by omega) (by omega) (by omega) (fun B2 gB2 hoB2 hb1 hb3 => ?_)
    show ZE (d + 5) M_Sea_unitOf (gw Gb B2) 70 [(2, s), (0, (e1 : Int)), (2, u), (0, (rad e1 : Int)), (9, 0)] [] _
    have hapU : Unit → (ap = 1 ∨ ap = 2) := fun _ => hap
    have hneU : Unit → e1 ≠ butF ap := fun _ => hne
    clear hap hne hq0 hq8 hs17 nb1
    have hz2 := hgr2.1
    have hgl2 : gl Gb = gl G := hgr2.2.2.2.2.trans hgr1.2.2.2.2
    have hrow : ∀ a : Int, a < u → ¬ (s + 1 ≤ a ∧ a ≤ s + 9) → ¬ (s + 33 ≤ a ∧ a ≤ s + 45) → B2 a = A a := fun a h1 h2 h3 => (gB2 a (by omega)).trans ((hA1 a (by omega) (by omega)).trans (hne0 a (by omega)))
    have huO2 : uO B2 u (rad e1) (DD ap e1) := huO.ab (fun a h1 h2 => gB2 a (by omega))
    have hL2 : lG Gb B2 := (hL.gr hgr1 (by omega) (B := A) rfl).gr hgr2 (by have := hgr1.2.2.2.2; omega) (by rw [hgr1.2.2.2.2]; exact hrow _ (by omega) (by omega) (by omega))
    refine s_unitLoop hK.2.1 ((hgr2.2.2.1 s (by omega)).1.trans hks1) ((congrFun (hrow s (by omega) (by omega) (by omega)) _).trans hF.2.2.2.2.2.2.2.1) hwK2 hoB2 hL2 (hapU ()) (by omega) huK (by omega) (by omega) (by rw [hgl2]; exact hgl) huO2 (frD_DD (hapU ()) he hp5 (hneU ())) (fun i hi => nv_pos (hapU ()) he hp5 (hneU ()) hi) (fun j => (congrFun (gB2 _ (by omega)) _).trans (hu7 j)) hb1 hb3 (fun G5 A5 n5 m5 hW5 hf5 hO5 hg5 hn5 hm5 => ?_)
    have hz5 := hg5.1
    have hks5 : gk G5 s = 16 := (hg5.2.2.1 s (by omega)).1.trans ((hgr2.2.2.1 s (by omega)).1.trans hks1)
    have hgr5 : gR G G5 (1 + 8 + n5) (10 + 60 + m5) := (hgr1.tr hgr2).tr hg5
    have hK5 := hK.gr hgr5 (by omega)
    have huK5 := huK.gr hg5 (by omega)
    have hr5 : ∀ a : Int, a < u → ¬ (s + 1 ≤ a ∧ a ≤ s + 9) → ¬ (s + 33 ≤ a ∧ a ≤ s + 45) → A5 a = A a := fun a h1 h2 h3 => (hf5 a (by omega) (by omega) (by omega) (by omega) (by omega)).trans (hrow a h1 h2 h3)
    have hs53 : A5 s 3 = s + 28 := (congrFun (hr5 s (by omega) (by omega) (by omega)) _).trans hF.2.2.2.1
    refine ZE.aload_n d_Sea_unitOf_104 rfl ?_
    refine ZE.getE (v := s + 28) d_Sea_unitOf_105 f_Sea_41 (tg := 2) rfl hks5 hs53 ?_
    refine ZE.iload_n d_Sea_unitOf_108 rfl ?_
    refine ZE.aload_n d_Sea_unitOf_109 rfl ?_
    refine ZE.aast d_Sea_unitOf_110 hK5.2.2.2.1.1 (by omega) (by have hn0 := hK5.2.2.2.1.2; show 0 ≤ (e1 : Int) ∧ (e1 : Int) < gn G5 (s + 28); omega) huK5.1 ?_
    show ZE (d + 5) M_Sea_unitOf (gw G5 (up2 A5 (s + 28) (e1 : Int) u)) 111 [(2, s), (0, (e1 : Int)), (2, u), (0, (rad e1 : Int)), (0, ((10 : Nat) : Int))] [] _
    refine ZE.aload_n d_Sea_unitOf_111 rfl ?_
    refine ZE.aret d_Sea_unitOf_112 ⟨_, rfl⟩ ?_
    clear hks5 hs53 hks1 hku1
    have hX : ∀ a : Int, a < u → ¬ (s + 1 ≤ a ∧ a ≤ s + 9) → ¬ (s + 33 ≤ a ∧ a ≤ s + 45) → a ≠ s + 28 → up2 A5 (s + 28) (e1 : Int) u a = A a := fun a h1 h2 h3 h4 => by rw [up2_A, upA_ne _ _ h4]; exact hr5 a h1 h2 h3
    have hY : ∀ a : Int, a ≠ s + 28 → up2 A5 (s + 28) (e1 : Int) u a = A5 a := fun a h4 => by rw [up2_A, upA_ne _ _ h4]
    have hE28 : ∀ q : Nat, q ≠ e1 → up2 A5 (s + 28) (e1 : Int) u (s + 28) q = A (s + 28) q := fun q hq => (up2_ne _ _ (by omega)).trans (congrFun (hr5 _ (by omega) (by omega) (by omega)) _)
    have hat : up2 A5 (s + 28) (e1 : Int) u (s + 28) e1 = u := up2_at _ _ _ _
    have hkU : kU G5 (up2 A5 (s + 28) (e1 : Int) u) E0 ap e1 u := ⟨by omega, by omega, huK5, (huO2.ab (B := A5) (fun a h1 h2 => hf5 a (by omega) (by omega) (by omega) (by omega) (by omega))).ab (fun a h1 h2 => hY a (by omega)), hW5.ab (by omega) gR.rf (by omega) (fun a h1 h2 => hY a (by omega))⟩
    have hun : unk A s = unk (up2 A5 (s + 28) (e1 : Int) u) s + 1 := cnt_upd (decide_eq_true hv1) (decide_eq_false (by rw [hat]; omega)) (fun q hq => by show decide (A (s + 28) (q : Nat) = -1) = decide (_ = -1); rw [hE28 q hq]) 128 he
    have hs := hX s (by omega) (by omega) (by omega) (by omega)
    refine k G5 _ u (1 + 8 + n5) (10 + 60 + m5) (fun q hq => ?_) hkU hat ⟨(congrFun hs _).trans hF.1, (congrFun hs _).trans hF.2.1, (congrFun hs _).trans hF.2.2.1, (congrFun hs _).trans hF.2.2.2.1, (congrFun hs _).trans hF.2.2.2.2.1, (congrFun hs _).trans hF.2.2.2.2.2.1, (congrFun hs _).trans hF.2.2.2.2.2.2.1, (congrFun hs _).trans hF.2.2.2.2.2.2.2.1, (congrFun hs _).trans hF.2.2.2.2.2.2.2.2.1, ?_, hO5.ab (fun a h1 h2 => hY a (by omega)), (congrFun (hX (s + 31) (by omega) (by omega) (by omega) (by omega)) _).trans hF.2.2.2.2.2.2.2.2.2.2.2⟩ ⟨fun a h1 h2 h3 h4 => hX a (by omega) h2 h3 h4, fun q hq => hE28 q (fun z => hq (by rw [z]; exact hv1))⟩ hgr5 (by omega) (by omega)
    · by_cases hqe : q = e1
      · subst hqe; rw [hat]; exact Or.inr hkU
      · rw [hE28 q hqe]
        rcases hP q hq with h | h
        · exact Or.inl h
        · have hb := h.1
          exact Or.inr (h.ab hgr5 (fun a h1 h2 => hX a (by omega) (by omega) (by omega) (by omega)))
    · exact (hfO1.ab (B := B2) (fun a h1 h2 => gB2 a (by omega))).ab (fun a h1 h2 => (hY a (by omega)).trans (hf5 a (by omega) (by omega) (by omega) (by omega) (by omega)))
  refine ZE.icmp_ne (tgt := 53) d_Sea_unitOf_44 rfl (by unfold zR; omega) (by unfold zR; omega) (fun c44 => ?_) (fun c44 => ?_)
  · refine ZE.iload_n d_Sea_unitOf_53 rfl ?_
    have hDD : ((DD ap e1) : Int) = (rad e1 : Int) := by unfold DD; rw [if_neg (by omega)]
    rw [hDD] at J54
    exact J54
  · refine ZE.iconst (n := 2) d_Sea_unitOf_47 ?_
    refine ZE.iload_n d_Sea_unitOf_48 rfl ?_
    refine ZE.imul d_Sea_unitOf_49 ?_
    refine ZE.goto (tgt := 54) d_Sea_unitOf_50 rfl ?_
    have hDD : ((DD ap e1) : Int) = 2 * (rad e1 : Int) := by unfold DD; rw [if_pos (by omega)]; omega
    rw [hDD] at J54
    exact J54
set_option maxRecDepth 20000 in
set_option maxHeartbeats 4000000 in
theorem s_unitOf {d : Nat} {G : zG} {A : Int → Int → Int} {P : Option zV → zG → Prop} {s E0 : Int} (hK : sK G s) {ap : Nat} (hF : sF A s ap) (hL : lG G A) (hgl : gl G < s) (hap : ap = 1 ∨ ap = 2) (hE : s + 46 ≤ E0 ∧ E0 ≤ (gz G : Int)) (hP : kP G A s E0 ap) {e1 : Nat} (he : e1 < 128) (hp5 : pop e1 ≤ 5) (hne : e1 ≠ butF ap) (k : ∀ G2 A2 (u : Int) (n m : Nat), kP G2 A2 s E0 ap → kU G2 A2 E0 ap e1 u → A2 (s + 28) e1 = u → sF A2 s ap → uoF A A2 s (gz G : Int) → gR G G2 n m → n + 54 * unk A2 s ≤ 54 * unk A s → m + 556 * unk A2 s ≤ 556 * unk A s → P (some (2, u)) (gw G2 A2)) : ZE (d + 5) M_Sea_unitOf (gw G A) 0 [(2, s), (0, (e1 : Int)), (9, 0), (9, 0), (9, 0)] [] P := by
  have hs0 := hK.2.1
  have hzE := hE.2
  refine ZE.iload_n d_Sea_unitOf_0 rfl ?_
  refine ZE.if_lt (tgt := 13) d_Sea_unitOf_1 rfl (by unfold zR; omega) (fun c1 => ?_) (fun c1 => ?_)
  · exact absurd c1 (by omega)
  · refine ZE.iload_n d_Sea_unitOf_4 rfl ?_
    refine ZE.aload_n d_Sea_unitOf_5 rfl ?_
    refine ZE.getE (v := s + 28) d_Sea_unitOf_6 f_Sea_41 (tg := 2) rfl hK.1 hF.2.2.2.1 ?_
    refine ZE.alenE (v := 128) d_Sea_unitOf_9 (by have hk0 := hK.2.2.2.1.1; show 1 ≤ gk G (s + 28) ∧ gk G (s + 28) ≤ 6; omega) hK.2.2.2.1.2 ?_
    refine ZE.icmp_lt (tgt := 18) d_Sea_unitOf_10 rfl (by unfold zR; omega) (by unfold zR; omega) (fun c10 => ?_) (fun c10 => ?_)
    · refine ZE.aload_n d_Sea_unitOf_18 rfl ?_
      refine ZE.getE (v := s + 28) d_Sea_unitOf_19 f_Sea_41 (tg := 2) rfl hK.1 hF.2.2.2.1 ?_
      refine ZE.iload_n d_Sea_unitOf_22 rfl ?_
      refine ZE.aaldE (v := A (s + 28) (e1 : Int)) d_Sea_unitOf_23 hK.2.2.2.1.1 (by omega) (by have hn0 := hK.2.2.2.1.2; show 0 ≤ (e1 : Int) ∧ (e1 : Int) < gn G (s + 28); omega) rfl ?_
      refine ZE.astore_n (ls2 := [(2, s), (0, (e1 : Int)), (2, A (s + 28) (e1 : Int)), (9, 0), (9, 0)]) d_Sea_unitOf_24 (Nat.le_of_ble_eq_true rfl) rfl ?_
      refine ZE.aload_n d_Sea_unitOf_25 rfl ?_
      refine ZE.ifnonnull (tgt := 111) d_Sea_unitOf_26 rfl  (fun c26 => ?_) (fun c26 => ?_)
      · refine ZE.aload_n d_Sea_unitOf_111 rfl ?_
        refine ZE.aret d_Sea_unitOf_112 ⟨_, rfl⟩ ?_
        rcases hP e1 he with q | q
        · omega
        · exact k G A _ 0 0 hP q rfl hF uoF.rf gR.rf (by omega) (by omega)
      · have hv1 : A (s + 28) e1 = -1 := by
          rcases hP e1 he with q | q
          · exact q
          · have h3 := q.1; omega
        exact s_unitNew hK hF hL hgl hap hE hP he hp5 hne hv1 k
    · exact absurd c10 (by omega)
