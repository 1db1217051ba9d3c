theorem bN_inj {A : Int → Int → Int} {b : Int} {v w : Nat} (h : bN A b v) (g : bN A b w) : v = w := by
  have e : nd 1000000000 v = nd 1000000000 w := by have h1 := h.2.1; have h2 := g.2.1; omega
  have s1 := nd_self (b := 1000000000) (by omega) v
  have s2 := nd_self (b := 1000000000) (by omega) w
  rw [e] at s1
  refine dg_ext (by omega) _ v w s1 s2 (fun k hk => ?_)
  have h1 := h.2.2 k (by omega)
  have h2 := g.2.2 k hk
  omega
theorem uK.ne11 {G : zG} {u : Int} (h : uK G u) {a : Int} (h1 : u ≤ a) (h2 : a ≤ u + 8) : gk G a ≠ 11 := by
  obtain ⟨a0, -, ⟨a1, a2, -⟩, ⟨a3, a4, -⟩, ⟨a5, -⟩, ⟨a6, -⟩, ⟨a7, -⟩, ⟨a8, -⟩⟩ := h
  have f2 : u + 1 + 1 = u + 2 := by omega
  have f4 : u + 3 + 1 = u + 4 := by omega
  rw [f2] at a2
  rw [f4] at a4
  have hc : a = u ∨ a = u + 1 ∨ a = u + 2 ∨ a = u + 3 ∨ a = u + 4 ∨ a = u + 5 ∨ a = u + 6 ∨ a = u + 7 ∨ a = u + 8 := by omega
  rcases hc with e | e | e | e | e | e | e | e | e <;> rw [e] <;> omega
theorem cK.ne11 {G : zG} {c : Int} {cap : Nat} (h : cK G c cap) {a : Int} (h1 : c + 1 ≤ a) (h2 : a ≤ c + 4) : gk G a ≠ 11 := by
  obtain ⟨a0, -, ⟨a1, -⟩, ⟨a2, -⟩, ⟨a3, a4, -⟩⟩ := h
  have f4 : c + 3 + 1 = c + 4 := by omega
  rw [f4] at a4
  have hc : a = c + 1 ∨ a = c + 2 ∨ a = c + 3 ∨ a = c + 4 := by omega
  rcases hc with e | e | e | e <;> rw [e] <;> omega
/-- a change that leaves all but the families of couples -/
def safF (G : zG) (A B : Int → Int → Int) (E0 : Int) : Prop := ∀ a : Int, E0 ≤ a → a < (gz G : Int) → B a = A a ∨ (gk G a = 11 ∧ ∀ i : Int, i ≠ 5 → B a i = A a i)
theorem safF.row {G : zG} {A B : Int → Int → Int} {E0 : Int} (h : safF G A B E0) {a : Int} (h1 : E0 ≤ a) (h2 : a < (gz G : Int)) (h3 : gk G a ≠ 11) : B a = A a := by
  rcases h a h1 h2 with q | q
  · exact q
  · exact absurd q.1 h3
theorem safF.fld {G : zG} {A B : Int → Int → Int} {E0 : Int} (h : safF G A B E0) {a : Int} (h1 : E0 ≤ a) (h2 : a < (gz G : Int)) {i : Int} (hi : i ≠ 5) : B a i = A a i := by
  rcases h a h1 h2 with q | q
  · exact congrFun q i
  · exact q.2 i hi
theorem cP.saf {G G2 : zG} {A B : Int → Int → Int} {E0 c : Int} {v i ap n m : Nat} (h : cP G A c v i ap) (g : gR G G2 n m) (f : safF G A B E0) (h1 : E0 ≤ c) (h2 : c + 5 ≤ (gz G : Int)) : cP G2 B c v i ap := by
  have hk := h.1
  exact ⟨hk.gr g (by omega), h.2.ab (fun k hk2 => f.fld h1 (by omega) (by omega)) (fun a ha hb => f.row (by omega) (by omega) (hk.ne11 ha hb))⟩
theorem kU.saf {G G2 : zG} {A B : Int → Int → Int} {E0 u : Int} {ap e n m : Nat} (h : kU G A E0 ap e u) (g : gR G G2 n m) (f : safF G A B E0) : kU G2 B E0 ap e u := by
  obtain ⟨h1, h2, h3, h4, h5⟩ := h
  have hz := g.1
  have hr : ∀ a : Int, u ≤ a → a ≤ u + 8 → B a = A a := fun a ha hb => f.row (by omega) (by omega) (h3.ne11 ha hb)
  refine ⟨h1, by omega, h3.gr g (by omega), h4.ab (fun a ha hb => hr a ha (by omega)), fun i hi1 hi2 => ?_⟩
  obtain ⟨k1, k2, k3, k4, k5⟩ := h5 i hi1 hi2
  rw [hr (u + 5) (by omega) (by omega), hr (u + 6) (by omega) (by omega), hr (u + 7) (by omega) (by omega), hr (u + 8) (by omega) (by omega)]
  refine ⟨k1, k2, k3, fun hc => ?_, k5⟩
  obtain ⟨m1, m2, m3⟩ := k4 hc
  exact ⟨m1, by omega, m3.saf g f (by omega) m2⟩
theorem kP.saf {G G2 : zG} {A B : Int → Int → Int} {s E0 : Int} {ap n m : Nat} (h : kP G A s E0 ap) (g : gR G G2 n m) (f : safF G A B E0) (e : B (s + 28) = A (s + 28)) : kP G2 B s E0 ap := by
  intro q hq
  rw [e]
  rcases h q hq with r | r
  · exact Or.inl r
  · exact Or.inr (r.saf g f)
/-- a couple of a search -/
def isC (G : zG) (A : Int → Int → Int) (a : Int) (ap : Nat) : Prop := ∃ v i : Nat, 0 < v ∧ cP G A a v i ap ∧ smF 127 (v + ap) 7 = 1
theorem isC.k11 {G : zG} {A : Int → Int → Int} {a : Int} {ap : Nat} (h : isC G A a ap) : gk G a = 11 := by
  obtain ⟨v, i, -, h2, -⟩ := h
  exact h2.1.1
theorem vp_some {n : Nat} (hn : 2 ≤ n) (h : smF 127 n 7 = 1) : ∃ k, k < 7 ∧ 0 < vp (sev k) n := by
  by_cases q : ∃ k, k < 7 ∧ 0 < vp (sev k) n
  · exact q
  · exfalso
    have h0 : ∀ k, k ≤ 7 → qprF 127 n k = 1 := by
      intro k
      induction k with
      | zero => intro _; rfl
      | succ k ih =>
        intro hk
        have h1 : vp (sev k) n = 0 := by
          rcases Nat.eq_zero_or_pos (vp (sev k) n) with r | r
          · exact r
          · exact absurd ⟨k, by omega, r⟩ q
        show (if Nat.testBit 127 k then sev k ^ vp (sev k) n * qprF 127 n k else qprF 127 n k) = 1
        rw [if_pos (t127 k (by omega)), h1, ih (by omega), Nat.pow_zero]
    have h2 := (smF_pr (S := 127) (n := n) (by omega) 7 (by omega)).1
    rw [h, h0 7 (by omega)] at h2
    omega
theorem sev_12 : ∀ k, k < 7 → ∀ v : Nat, (v + 1) % sev k = 0 → (v + 2) % sev k = 0 → False := by
  intro k hk v
  have : k = 0 ∨ k = 1 ∨ k = 2 ∨ k = 3 ∨ k = 4 ∨ k = 5 ∨ k = 6 := by omega
  rcases this with rfl | rfl | rfl | rfl | rfl | rfl | rfl
  · show (v + 1) % 2 = 0 → (v + 2) % 2 = 0 → False; omega
  · show (v + 1) % 3 = 0 → (v + 2) % 3 = 0 → False; omega
  · show (v + 1) % 5 = 0 → (v + 2) % 5 = 0 → False; omega
  · show (v + 1) % 7 = 0 → (v + 2) % 7 = 0 → False; omega
  · show (v + 1) % 11 = 0 → (v + 2) % 11 = 0 → False; omega
  · show (v + 1) % 13 = 0 → (v + 2) % 13 = 0 → False; omega
  · show (v + 1) % 17 = 0 → (v + 2) % 17 = 0 → False; omega
theorem isC_ne {G : zG} {A : Int → Int → Int} {a : Int} (h : isC G A a 1) (g : isC G A a 2) : False := by
  obtain ⟨v, i, h1, ⟨-, h2⟩, h3⟩ := h
  obtain ⟨w, j, g1, ⟨-, g2⟩, g3⟩ := g
  have e := bN_inj h2.2.2.2.2.2.1 g2.2.2.2.2.2.1
  subst e
  obtain ⟨k, hk, hv⟩ := vp_some (show 2 ≤ v + 1 by omega) h3
  have r1 := h2.2.2.2.2.2.2.2 k hk
  have r2 := g2.2.2.2.2.2.2.2 k hk
  have h5 := (vp_0 (sev_2 k hk).1 (show 0 < v + 1 by omega)).mp hv
  have h6 := (vp_0 (sev_2 k hk).1 (show 0 < v + 2 by omega)).mp (by omega)
  exact sev_12 k hk v h5 h6
theorem isC.saf {G G2 : zG} {A B : Int → Int → Int} {E0 a : Int} {ap n m : Nat} (h : isC G A a ap) (g : gR G G2 n m) (f : safF G A B E0) (h1 : E0 ≤ a) (h2 : a + 5 ≤ (gz G : Int)) : isC G2 B a ap := by
  obtain ⟨v, i, k1, k2, k3⟩ := h
  exact ⟨v, i, k1, k2.saf g f h1 h2, k3⟩
def nSe (A : Int → Int → Int) (s : Int) (ap S : Nat) : Prop := (A s 9 = (S : Int) ∧ A s 10 = (bnd S : Int) ∧ A s 11 = ((csA ap S).length : Int) ∧ A s 12 = ((prL ap S).length : Int)) ∧ (∀ c : Nat, c < (csA ap S).length → A (s + 29) c = A (s + 28) ((eA ap S c : Nat) : Int) ∧ A (s + 28) ((eA ap S c : Nat) : Int) ≠ -1) ∧ (∀ k : Nat, k < (prL ap S).length → A (s + 30) k = A (A (s + 29) (((prL ap S).getD k pD).2.1 : Nat) + 8) (((prL ap S).getD k pD).2.2 : Nat) ∧ A (A (s + 30) k) 5 = (((prL ap S).getD k pD).2.1 : Nat))
/-- the unit of a class, the couple of a class and an index -/
theorem kP.un {G : zG} {A : Int → Int → Int} {s E0 : Int} {ap S c : Nat} (h : kP G A s E0 ap) (hc : c < (csA ap S).length) (hr : A (s + 29) c = A (s + 28) ((eA ap S c : Nat) : Int) ∧ A (s + 28) ((eA ap S c : Nat) : Int) ≠ -1) : kU G A E0 ap (eA ap S c) (A (s + 29) c) := by
  rw [hr.1]
  rcases h _ (eA_lt hc).1 with q | q
  · exact absurd q hr.2
  · exact q
theorem kU.cp {G : zG} {A : Int → Int → Int} {E0 u : Int} {ap S c i : Nat} (hap : ap = 1 ∨ ap = 2) (hS : S < 128) (hp : pop S ≤ 5) (hc : c < (csA ap S).length) (h : kU G A E0 ap (eA ap S c) u) (hi : 1 ≤ i ∧ i ≤ 9) (hg : gA ap S c i = true) : u + 9 ≤ A (u + 8) i ∧ A (u + 8) i + 5 ≤ (gz G : Int) ∧ cP G A (A (u + 8) i) (vA ap S c i) i ap ∧ isC G A (A (u + 8) i) ap := by
  have h1 : cfB (DD ap (eA ap S c)) ap i = true := by
    unfold gA csB at hg
    rw [Bool.and_eq_true] at hg
    exact hg.1
  obtain ⟨k1, k2, k3⟩ := (h.2.2.2.2 i hi.1 hi.2).2.2.2.1 h1
  unfold cfB at h1
  rw [Bool.and_eq_true, decide_eq_true_iff, decide_eq_true_iff] at h1
  exact ⟨k1, k2, k3, _, i, nv_pos hap (eA_lt hc).1 (eA_pop hS hp hc) (eA_lt hc).2.2 hi.1, k3, h1.2⟩
