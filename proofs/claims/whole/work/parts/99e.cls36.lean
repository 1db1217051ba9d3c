theorem cK.gr {G G2 : zG} {c : Int} {cap n s : Nat} (h : cK G c cap) (g : gR G G2 n s) (hb : c + 4 < (gz G : Int)) : cK G2 c cap := by
  have e := g.2.2.1
  exact ⟨(e c (by omega)).1.trans h.1, h.2.1, ⟨(e _ (by omega)).1.trans h.2.2.1.1, (e _ (by omega)).2.trans h.2.2.1.2⟩, ⟨(e _ (by omega)).1.trans h.2.2.2.1.1, (e _ (by omega)).2.trans h.2.2.2.1.2⟩, h.2.2.2.2.gr g (by omega)⟩
theorem cO.ab {A B : Int → Int → Int} {c : Int} {v i ap : Nat} (h : cO A c v i ap) (e0 : ∀ k : Int, k ≤ 4 → B c k = A c k) (e : ∀ a : Int, c + 1 ≤ a → a ≤ c + 4 → B a = A a) : cO B c v i ap := by
  obtain ⟨h0, h1, h2, h3, h4, h5, h6, h7⟩ := h
  exact ⟨(e0 0 (by omega)).trans h0, (e0 1 (by omega)).trans h1, (e0 2 (by omega)).trans h2, (e0 3 (by omega)).trans h3, (e0 4 (by omega)).trans h4, h5.ab (fun a ha => e a (by omega) (by omega)), fun k hk => (congrFun (e (c + 1) (by omega) (by omega)) _).trans (h6 k hk), fun k hk => (congrFun (e (c + 2) (by omega) (by omega)) _).trans (h7 k hk)⟩
theorem uO.ab {A B : Int → Int → Int} {u : Int} {q D : Nat} (h : uO A u q D) (e : ∀ a : Int, u ≤ a → a ≤ u + 4 → B a = A a) : uO B u q D := by
  obtain ⟨h0, h1, h2, h3, h4, h5, h6, h7, h8, h9, hx, hy⟩ := h
  have e0 := e u (by omega) (by omega)
  unfold uO
  rw [e0]
  exact ⟨h0, h1, h2, h3, h4, h5, h6, h7, h8, h9, hx.ab (fun a ha => e a (by omega) (by omega)), hy.ab (fun a ha => e a (by omega) (by omega))⟩
/-- what was laid below gz stays -/
theorem uW.ab {G G2 : zG} {A B : Int → Int → Int} {u : Int} {D ap n s : Nat} (h : uW G A u D ap) (hu : 0 ≤ u) (g : gR G G2 n s) (huz : u + 9 ≤ (gz G : Int)) (e : ∀ a : Int, u ≤ a → a < (gz G : Int) → B a = A a) : uW G2 B u D ap := by
  intro i h1 h2
  obtain ⟨k1, k2, k3, k4, k5⟩ := h i h1 h2
  have e5 := e (u + 5) (by omega) (by omega)
  have e6 := e (u + 6) (by omega) (by omega)
  have e7 := e (u + 7) (by omega) (by omega)
  have e8 := e (u + 8) (by omega) (by omega)
  have hz := g.1
  rw [e5, e6, e7, e8]
  refine ⟨k1, k2, k3, fun hc => ?_, k5⟩
  obtain ⟨m1, m2, m3⟩ := k4 hc
  exact ⟨m1, by omega, m3.1.gr g (by omega), m3.2.ab (fun k _ => congrFun (e _ (by omega) (by omega)) k) (fun a ha hb => e a (by omega) (by omega))⟩
/-- units that are not one another do not meet -/
theorem uK.sep {G : zG} {u w : Int} (h : uK G u) (k : uK G w) (hne : u ≠ w) : u + 9 ≤ w ∨ w + 9 ≤ u := by
  obtain ⟨a0, a1, ⟨a2, a3, -⟩, ⟨a4, a5, -⟩, ⟨a6, -⟩, ⟨a7, -⟩, ⟨a8, -⟩, ⟨a9, -⟩⟩ := h
  obtain ⟨b0, b1, ⟨b2, b3, -⟩, ⟨b4, b5, -⟩, ⟨b6, -⟩, ⟨b7, -⟩, ⟨b8, -⟩, ⟨b9, -⟩⟩ := k
  rcases Int.lt_or_lt_of_ne hne with q | q
  · by_cases r : u + 9 ≤ w
    · exact Or.inl r
    · exfalso
      have hc : w = u + 1 ∨ w = u + 2 ∨ w = u + 3 ∨ w = u + 4 ∨ w = u + 5 ∨ w = u + 6 ∨ w = u + 7 ∨ w = u + 8 := by omega
      have e2 : u + 1 + 1 = u + 2 := by omega
      have e4 : u + 3 + 1 = u + 4 := by omega
      rw [e2] at a3
      rw [e4] at a5
      rcases hc with e | e | e | e | e | e | e | e <;> rw [e] at b0 <;> omega
  · by_cases r : w + 9 ≤ u
    · exact Or.inr r
    · exfalso
      have hc : u = w + 1 ∨ u = w + 2 ∨ u = w + 3 ∨ u = w + 4 ∨ u = w + 5 ∨ u = w + 6 ∨ u = w + 7 ∨ u = w + 8 := by omega
      have e2 : w + 1 + 1 = w + 2 := by omega
      have e4 : w + 3 + 1 = w + 4 := by omega
      rw [e2] at b3
      rw [e4] at b5
      rcases hc with e | e | e | e | e | e | e | e <;> rw [e] at a0 <;> omega
