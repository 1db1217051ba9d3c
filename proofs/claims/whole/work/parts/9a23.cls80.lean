def RI (A : Int → Int → Int) (o : Int) (S T tl : Nat) (tf : Nat → Int) (wl : Nat) (wf : Nat → Int) : Prop := RF A o ∧ RS S A o ∧ num (A (o + 2)) 131 T ∧ tpP A o tl tf ∧ wrP A o wl wf ∧ S < 128 ∧ pop S ≤ 5 ∧ 0 < T ∧ nd 10000 T ≤ 75 ∧ wl ≤ 2000
theorem num_row {f f2 : Int → Int} {n : Int} {v : Nat} {sl : Int → Prop} (h : num f n v) (hn : 0 ≤ n) (r : rowF sl f f2) (hs : ¬ sl n) (h9 : nd 10000 v ≤ 129) : num f2 n v :=
  ⟨(r n hn hs _ (by omega) (by omega)).trans h.1, fun k hk => (r n hn hs _ (by omega) (by omega)).trans (h.2 k hk)⟩
theorem ri_keep {A B : Int → Int → Int} {o : Int} {S T tl : Nat} {tf : Nat → Int} {wl : Nat} {wf : Nat → Int} (h : RI A o S T tl tf wl wf) (e : ∀ a : Int, o ≤ a → a ≤ o + 19 → B a = A a) : RI B o S T tl tf wl wf := by
  obtain ⟨h1, h2, h3, h4, h5, h6, h7, h8, h9, h10⟩ := h
  have eo := e o (by omega) (by omega)
  have wi : wiF A B o := ⟨fun b hb => e b (by omega) (by omega), fun i _ _ _ _ _ _ => congrFun eo i, by rw [e (o + 2) (by omega) (by omega)]; exact rowF.rf⟩
  exact ⟨h1.wi wi, h2.wi wi h6 h7, by rw [e (o + 2) (by omega) (by omega)]; exact h3, ⟨(congrFun eo _).trans h4.1, fun k hk => (congrFun (e (o + 19) (by omega) (by omega)) _).trans (h4.2 k hk)⟩, ⟨(congrFun eo _).trans h5.1, fun k hk => (congrFun (e (o + 18) (by omega) (by omega)) _).trans (h5.2 k hk)⟩, h6, h7, h8, h9, h10⟩
theorem ri_qu {A B : Int → Int → Int} {o : Int} {S T tl : Nat} {tf : Nat → Int} {wl : Nat} {wf : Nat → Int} (h : RI A o S T tl tf wl wf) (g : quF A B o) : RI B o S T tl tf wl wf ∧ ∀ a : Int, (a < o ∨ o + 19 < a) → B a = A a := by
  obtain ⟨h1, h2, h3, h4, h5, h6, h7, h8, h9, h10⟩ := h
  exact ⟨⟨h1.qu g, h2.qu g h6 h7, num_row h3 (by omega) g.2.2 (by omega) (by omega), ⟨(g.2.1 31 (by omega) (by omega) (by omega)).trans h4.1, fun k hk => (congrFun (g.1 (o + 19) (by omega) (by omega) (by omega) (by omega)) _).trans (h4.2 k hk)⟩, ⟨(g.2.1 29 (by omega) (by omega) (by omega)).trans h5.1, fun k hk => (congrFun (g.1 (o + 18) (by omega) (by omega) (by omega) (by omega)) _).trans (h5.2 k hk)⟩, h6, h7, h8, h9, h10⟩, fun a ha => g.1 a (by omega) (by omega) (by omega) (by omega)⟩
theorem ri_gt {A B : Int → Int → Int} {o : Int} {S T tl : Nat} {tf : Nat → Int} {wl : Nat} {wf : Nat → Int} (h : RI A o S T tl tf wl wf) (g : gtF A B o) : RI B o S T tl tf wl wf ∧ ∀ a : Int, (a < o ∨ o + 19 < a) → B a = A a := by
  obtain ⟨h1, h2, h3, h4, h5, h6, h7, h8, h9, h10⟩ := h
  have wi := g.wi
  have eo := g.1 o (by omega) (by omega) (by omega)
  exact ⟨⟨h1.wi wi, h2.wi wi h6 h7, num_row h3 (by omega) g.2 (by omega) (by omega), ⟨(congrFun eo _).trans h4.1, fun k hk => (congrFun (g.1 (o + 19) (by omega) (by omega) (by omega)) _).trans (h4.2 k hk)⟩, ⟨(congrFun eo _).trans h5.1, fun k hk => (congrFun (g.1 (o + 18) (by omega) (by omega) (by omega)) _).trans (h5.2 k hk)⟩, h6, h7, h8, h9, h10⟩, fun a ha => g.1 a (by omega) (by omega) (by omega)⟩
theorem ri_la {A B : Int → Int → Int} {o : Int} {S T tl : Nat} {tf : Nat → Int} {wl : Nat} {wf : Nat → Int} {S2 : Nat} (h : RI A o S T tl tf wl wf) (hR : RS S2 B o) (hS : S2 < 128) (hp : pop S2 ≤ 5) (g : laF A B o) : RI B o S2 T tl tf wl wf ∧ ∀ a : Int, (a < o ∨ o + 19 < a) → B a = A a := by
  obtain ⟨h1, h2, h3, h4, h5, h6, h7, h8, h9, h10⟩ := h
  refine ⟨⟨h1.la g, hR, num_row h3 (by omega) g.2.2 (by omega) (by omega), ⟨(g.2.1 31 (by omega) (by omega) (by omega) (by omega)).trans h4.1, fun k hk => (congrFun (g.1 (o + 19) (by omega) (by omega)) _).trans (h4.2 k hk)⟩, ⟨(g.2.1 29 (by omega) (by omega) (by omega) (by omega)).trans h5.1, fun k hk => (congrFun (g.1 (o + 18) (by omega) (by omega)) _).trans (h5.2 k hk)⟩, hS, hp, h8, h9, h10⟩, fun a ha => g.1 a (by omega) (by omega)⟩
theorem ri_fu {A B : Int → Int → Int} {o : Int} {S T tl : Nat} {tf : Nat → Int} {wl : Nat} {wf : Nat → Int} {tl2 wl2 : Nat} {tf2 wf2 : Nat → Int} (h : RI A o S T tl tf wl wf) (g : fuF A B o) (ht : tpP B o tl2 tf2) (hw : wrP B o wl2 wf2) (hl2 : wl2 ≤ 2000) : RI B o S T tl2 tf2 wl2 wf2 ∧ ∀ a : Int, (a < o ∨ o + 19 < a) → B a = A a := by
  obtain ⟨h1, h2, h3, h4, h5, h6, h7, h8, h9, h10⟩ := h
  have wi := g.wi
  exact ⟨⟨h1.wi wi, h2.wi wi h6 h7, by rw [g.1 (o + 2) (by omega) (by omega) (by omega) (by omega)]; exact h3, ht, hw, h6, h7, h8, h9, hl2⟩, fun a ha => g.1 a (by omega) (by omega) (by omega) (by omega)⟩
theorem ri_nu {A B : Int → Int → Int} {o : Int} {S T tl : Nat} {tf : Nat → Int} {wl : Nat} {wf : Nat → Int} {T2 : Nat} (h : RI A o S T tl tf wl wf) (g : nuF A B o) (hT : num (B (o + 2)) 131 T2) (hT0 : 0 < T2) (hT9 : nd 10000 T2 ≤ 75) : RI B o S T2 0 tf wl wf ∧ ∀ a : Int, (a < o ∨ o + 19 < a) → B a = A a := by
  obtain ⟨h1, h2, h3, h4, h5, h6, h7, h8, h9, h10⟩ := h
  have wi : wiF A B o := ⟨fun b hb => g.1 b (by omega) (by omega), fun i _ _ _ _ _ hi => g.2.1 i hi, g.2.2.2⟩
  exact ⟨⟨h1.wi wi, h2.wi wi h6 h7, hT, ⟨g.2.2.1, fun k hk => absurd hk (Nat.not_lt_zero _)⟩, ⟨(g.2.1 29 (by omega)).trans h5.1, fun k hk => (congrFun (g.1 (o + 18) (by omega) (by omega)) _).trans (h5.2 k hk)⟩, h6, h7, hT0, hT9, h10⟩, fun a ha => g.1 a (by omega) (by omega)⟩
theorem wr_29 {A B : Int → Int → Int} {o : Int} {wl : Nat} {wf : Nat → Int} (h : wrP A o wl wf) (e : B o 29 = A o 29) (e2 : B (o + 18) = A (o + 18)) : wrP B o wl wf := ⟨e.trans h.1, fun k hk => (congrFun e2 _).trans (h.2 k hk)⟩
