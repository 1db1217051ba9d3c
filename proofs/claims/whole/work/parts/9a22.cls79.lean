theorem RK.kk {G : zG} {o : Int} (r : RK G o) {a : Int} (h : o < a ∧ a ≤ o + 19) : gk G a = 1 ∨ gk G a = 2 := by
  rcases (show a = o + 1 ∨ a = o + 2 ∨ a = o + 3 ∨ a = o + 4 ∨ a = o + 5 ∨ a = o + 6 ∨ a = o + 7 ∨ a = o + 8 ∨ a = o + 9 ∨ a = o + 10 ∨ a = o + 11 ∨ a = o + 12 ∨ a = o + 13 ∨ a = o + 14 ∨ a = o + 15 ∨ a = o + 16 ∨ a = o + 17 ∨ a = o + 18 ∨ a = o + 19 by omega) with rfl | rfl | rfl | rfl | rfl | rfl | rfl | rfl | rfl | rfl | rfl | rfl | rfl | rfl | rfl | rfl | rfl | rfl | rfl
  · exact Or.inl (r.k1)
  · exact Or.inl (r.k2)
  · exact Or.inl (r.k3)
  · exact Or.inl (r.k4)
  · exact Or.inl (r.k5)
  · exact Or.inl (r.k6)
  · exact Or.inl (r.k7)
  · exact Or.inl (r.k8)
  · exact Or.inl (r.k9)
  · exact Or.inl (r.k10)
  · exact Or.inl (r.k11)
  · exact Or.inl (r.k12)
  · exact Or.inl (r.k13)
  · exact Or.inl (r.k14)
  · exact Or.inl (r.k15)
  · exact Or.inl (r.k16)
  · exact Or.inr (r.k17)
  · exact Or.inr (r.k18)
  · exact Or.inr (r.k19)
theorem RK.gr {G G2 : zG} {o : Int} {n m : Nat} (r : RK G o) (g : gR G G2 n m) (hz : o + 20 ≤ (gz G : Int)) : RK G2 o := by
  have e := g.2.2.1
  exact ⟨(e o (by omega)).1.trans r.1, r.2.1, ⟨(e _ (by omega)).1.trans r.k1, (e _ (by omega)).2.trans r.n1⟩, ⟨(e _ (by omega)).1.trans r.k2, (e _ (by omega)).2.trans r.n2⟩, ⟨(e _ (by omega)).1.trans r.k3, (e _ (by omega)).2.trans r.n3⟩, ⟨(e _ (by omega)).1.trans r.k4, (e _ (by omega)).2.trans r.n4⟩, ⟨(e _ (by omega)).1.trans r.k5, (e _ (by omega)).2.trans r.n5⟩, ⟨(e _ (by omega)).1.trans r.k6, (e _ (by omega)).2.trans r.n6⟩, ⟨(e _ (by omega)).1.trans r.k7, (e _ (by omega)).2.trans r.n7⟩, ⟨(e _ (by omega)).1.trans r.k8, (e _ (by omega)).2.trans r.n8⟩, ⟨(e _ (by omega)).1.trans r.k9, (e _ (by omega)).2.trans r.n9⟩, ⟨(e _ (by omega)).1.trans r.k10, (e _ (by omega)).2.trans r.n10⟩, ⟨(e _ (by omega)).1.trans r.k11, (e _ (by omega)).2.trans r.n11⟩, ⟨(e _ (by omega)).1.trans r.k12, (e _ (by omega)).2.trans r.n12⟩, ⟨(e _ (by omega)).1.trans r.k13, (e _ (by omega)).2.trans r.n13⟩, ⟨(e _ (by omega)).1.trans r.k14, (e _ (by omega)).2.trans r.n14⟩, ⟨(e _ (by omega)).1.trans r.k15, (e _ (by omega)).2.trans r.n15⟩, ⟨(e _ (by omega)).1.trans r.k16, (e _ (by omega)).2.trans r.n16⟩, ⟨(e _ (by omega)).1.trans r.k17, (e _ (by omega)).2.trans r.n17⟩, ⟨(e _ (by omega)).1.trans r.k18, (e _ (by omega)).2.trans r.n18⟩, ⟨(e _ (by omega)).1.trans r.k19, (e _ (by omega)).2.trans r.n19⟩⟩
theorem uK.sepO {G : zG} {u o : Int} (h : uK G u) (r : RK G o) : u + 8 < o ∨ o + 19 < u := by
  obtain ⟨a0, az, ⟨a1, a2, -⟩, ⟨a3, a4, -⟩, ⟨a5, -⟩, ⟨a6, -⟩, ⟨a7, -⟩, ⟨a8, -⟩⟩ := h
  have r0 := r.1
  apply Classical.byContradiction
  intro q
  rcases (show o < u ∨ u = o ∨ o = u + 1 ∨ o = u + 1 + 1 ∨ o = u + 3 ∨ o = u + 3 + 1 ∨ o = u + 5 ∨ o = u + 6 ∨ o = u + 7 ∨ o = u + 8 by omega) with z | z | z | z | z | z | z | z | z | z
  · rcases r.kk (a := u) (by omega) with w | w <;> omega
  · rw [z] at a0; omega
  all_goals (rw [z] at r0; omega)
theorem cK.sepO {G : zG} {c o : Int} {cap : Nat} (h : cK G c cap) (r : RK G o) : c + 4 < o ∨ o + 19 < c := by
  obtain ⟨a0, az, ⟨a1, -⟩, ⟨a2, -⟩, ⟨a3, a4, -⟩⟩ := h
  have r0 := r.1
  apply Classical.byContradiction
  intro q
  rcases (show o < c ∨ c = o ∨ o = c + 1 ∨ o = c + 2 ∨ o = c + 3 ∨ o = c + 3 + 1 by omega) with z | z | z | z | z | z
  · rcases r.kk (a := c) (by omega) with w | w <;> omega
  · rw [z] at a0; omega
  all_goals (rw [z] at r0; omega)
theorem cuB.sepO {G : zG} {a o : Int} (h : cuB G a) (r : RK G o) : ¬ (o ≤ a ∧ a ≤ o + 19) := by
  intro q
  rcases h with z | ⟨u, z1, z2, z3⟩
  · rcases (show a = o ∨ o < a by omega) with w | w
    · have := r.1; rw [w] at z; omega
    · rcases r.kk (a := a) (by omega) with y | y <;> omega
  · have := z1.sepO r; omega
theorem cT.keep {G G2 : zG} {A A2 : Int → Int → Int} {x o : Int} (h : cT G A G2 A2 x) (r : RK G o) (hx : x + 145 ≤ o) (hz : o + 20 ≤ (gz G : Int)) : RK G2 o ∧ ∀ a : Int, o ≤ a → a ≤ o + 19 → A2 a = A a := by
  obtain ⟨⟨n, m, g, -, -⟩, f⟩ := h
  have r2 := r.gr g hz
  refine ⟨r2, fun a h1 h2 => ?_⟩
  rcases f a (by omega) (by omega) with q | q
  · exact q
  · exact absurd ⟨h1, h2⟩ (q.2.sepO r2)
theorem kU.out {G : zG} {A B : Int → Int → Int} {E0 o w : Int} {ap e : Nat} (h : kU G A E0 ap e w) (r : RK G o) (f : ∀ a : Int, (a < o ∨ o + 19 < a) → B a = A a) : kU G B E0 ap e w := by
  obtain ⟨h1, h2, h3, h4, h5⟩ := h
  have hs := h3.sepO r
  refine ⟨h1, h2, h3, h4.ab (fun a ha hb => f a (by omega)), fun j hj1 hj2 => ?_⟩
  obtain ⟨k1, k2, k3, k4, k5⟩ := h5 j hj1 hj2
  rw [f (w + 5) (by omega), f (w + 6) (by omega), f (w + 7) (by omega), f (w + 8) (by omega)]
  refine ⟨k1, k2, k3, fun hc => ?_, k5⟩
  obtain ⟨m1, m2, m3⟩ := k4 hc
  have hs2 := m3.1.sepO r
  exact ⟨m1, m2, m3.1, m3.2.ab (fun q _ => congrFun (f _ (by omega)) q) (fun a ha hb => f a (by omega))⟩
/-- the reference's calls leave the class's object whole -/
theorem out_CI {G : zG} {A : Int → Int → Int} {x : Int} {S T tl : Nat} {tf : Nat → Int} {wl : Nat} {wf : Nat → Int} {B : Int → Int → Int} {o : Int} (h : CI G A x S T tl tf wl wf) (r : RK G o) (hx : x + 145 ≤ o) (f : ∀ a : Int, (a < o ∨ o + 19 < a) → B a = A a) : CI G B x S T tl tf wl wf ∧ unk B (x + 1) = unk A (x + 1) ∧ unk B (x + 47) = unk A (x + 47) := by
  have hx0 := h.cCK.2.1
  have hgx := h.cL.2
  have hE := h.cR.E
  have e : ∀ a : Int, a < x + 145 → B a = A a := fun a ha => f a (by omega)
  have hP : ∀ (s : Int) (ap : Nat), kP G A s (x + 145) ap → s + 28 < x + 145 → kP G B s (x + 145) ap := fun s ap hp hs q hq => by
    rw [e (s + 28) hs]
    rcases hp q hq with z | z
    · exact Or.inl z
    · exact Or.inr (z.out r f)
  have hnr : ∀ (s : Int) (ap S2 : Nat), sR G A s (x + 145) ap S2 → s + 46 ≤ x + 145 → nSe B s ap S2 := fun s ap S2 hs hsE => hs.N.row (e _ (by omega)) (e _ (by omega)) (e _ (by omega)) (e _ (by omega)) (fun k hk => by
    have ht : okT ap S2 (csA ap S2).length ((prL ap S2).getD k pD) := prA_ok (ap := ap) (S := S2) _ k hk
    have hv := (hs.un ht.1).2.2.1.sepO r
    have hcp := hs.cp hk
    have hs3 := hcp.2.2.1.1.sepO r
    exact ⟨f _ (by omega), congrFun (f _ (by omega)) _⟩)
  refine ⟨⟨h.cCK, h.cCF.ab (fun j _ => congrFun (e x (by omega)) j), ⟨(congrFun (e x (by omega)) _).trans h.cS.1, h.cS.2⟩, ⟨h.cL.1.ab (e _ (by omega)), h.cL.2⟩, ⟨h.cR.K, h.cR.F.row (fun a h1 h2 => e a (by omega)), hP _ 1 h.cR.P (by omega), hnr _ 1 S h.cR (by omega), hE, Or.inl rfl, h.cS.2⟩, ⟨h.cW.1, h.cW.2.1.row (fun a h1 h2 => e a (by omega)), hP _ 2 h.cW.2.2.1 (by omega), h.cW.2.2.2.1, ?_⟩, h.cM.ab (fun a h1 h2 => e a (by omega)), h.cE.ab (fun a h1 h2 => e a (by omega)), h.cY.ab (e _ (by omega)), h.cO.ab (fun a h1 h2 => e a (by omega)), ⟨h.ct.1.ab (fun a h1 h2 => e a (by omega)), h.ct.2⟩, ⟨h.cw.1.ab (fun a h1 h2 => e a (by omega)), h.cw.2⟩, (by obtain ⟨q1, q2, q3, q4⟩ := h.cd; exact ⟨q1, q2, q3.ab (fun a h1 h2 => e a (by omega)), q4⟩), ⟨h.cT.1.ab (fun a ha => e a (by omega)), h.cT.2⟩, (congrFun (e _ (by omega)) _).trans h.cp⟩, unk_congr (e _ (by omega)), unk_congr (e _ (by omega))⟩
  rcases h.cW.sR with z | ⟨S2, z⟩
  · exact Or.inl ((congrFun (e (x + 47) (by omega)) _).trans z)
  · exact Or.inr ⟨S2, z.s7, z.p5, hnr _ 2 S2 z (by omega)⟩
