/-! ===== the class: its object at x, its parts behind it, units and couples from x + 145 on ===== -/
def CK (G : zG) (x : Int) : Prop := gk G x = 20 ∧ 0 ≤ x ∧ sK G (x + 1) ∧ sK G (x + 47) ∧ mK G (x + 93) ∧ eK G (x + 99) ∧ yK G (x + 120) ∧ fK G (x + 126) ∧ xK G (x + 135) 2000 ∧ xK G (x + 137) 2048 ∧ xK G (x + 139) 2048 ∧ bK G (x + 141) 36 ∧ bK G (x + 143) 36 ∧ x + 145 ≤ (gz G : Int)
def CF (A : Int → Int → Int) (x : Int) : Prop := A x 0 = x + 1 ∧ A x 1 = x + 47 ∧ A x 2 = x + 93 ∧ A x 3 = x + 99 ∧ A x 4 = x + 120 ∧ A x 5 = x + 126 ∧ A x 6 = x + 135 ∧ A x 7 = x + 137 ∧ A x 8 = x + 139 ∧ A x 9 = x + 141 ∧ A x 10 = x + 143
theorem xK.gr {G G2 : zG} {t : Int} {cap n m : Nat} (h : xK G t cap) (g : gR G G2 n m) (hb : t + 2 ≤ (gz G : Int)) : xK G2 t cap := ⟨(g.2.2.1 t (by omega)).1.trans h.1, (g.2.2.1 _ (by omega)).1.trans h.2.1, (g.2.2.1 _ (by omega)).2.trans h.2.2.1, h.2.2.2⟩
theorem CK.gr {G G2 : zG} {x : Int} {n m : Nat} (h : CK G x) (g : gR G G2 n m) : CK G2 x := by
  obtain ⟨h1, h2, h3, h4, h5, h6, h7, h8, h9, h10, h11, h12, h13, h14⟩ := h
  have hz := g.1
  exact ⟨(g.2.2.1 x (by omega)).1.trans h1, h2, h3.gr g (by omega), h4.gr g (by omega), h5.gr g (by omega), h6.gr g (by omega), h7.gr g (by omega), h8.gr g (by omega), h9.gr g (by omega), h10.gr g (by omega), h11.gr g (by omega), h12.gr g (by omega), h13.gr g (by omega), by omega⟩
theorem CF.ab {A B : Int → Int → Int} {x : Int} (h : CF A x) (e : ∀ i : Int, i ≤ 10 → B x i = A x i) : CF B x := by
  obtain ⟨h0, h1, h2, h3, h4, h5, h6, h7, h8, h9, h10⟩ := h
  exact ⟨(e _ (by omega)).trans h0, (e _ (by omega)).trans h1, (e _ (by omega)).trans h2, (e _ (by omega)).trans h3, (e _ (by omega)).trans h4, (e _ (by omega)).trans h5, (e _ (by omega)).trans h6, (e _ (by omega)).trans h7, (e _ (by omega)).trans h8, (e _ (by omega)).trans h9, (e _ (by omega)).trans h10⟩
/-- the other search: filled for some set, or not yet -/
def sT (G : zG) (A : Int → Int → Int) (s E0 : Int) : Prop := sK G s ∧ sF A s 2 ∧ kP G A s E0 2 ∧ (s + 46 ≤ E0 ∧ E0 ≤ (gz G : Int)) ∧ (A s 9 = -1 ∨ ∃ S2 : Nat, S2 < 128 ∧ pop S2 ≤ 5 ∧ nSe A s 2 S2)
def mT (A : Int → Int → Int) (h : Int) : Prop := mF A h ∧ (A h 6 = -1 ∨ ∃ (S : Nat) (w : Nat → Nat) (M : Nat), S < 128 ∧ mS A h S w M)
theorem smsO.ab {A B : Int → Int → Int} {h : Int} {S : Nat} (k : smsO A h S) (e : ∀ a : Int, h ≤ a → a ≤ h + 5 → B a = A a) : smsO B h S := by
  unfold smsO
  rw [e h (by omega) (by omega), e (h + 4) (by omega) (by omega), e (h + 5) (by omega) (by omega)]
  exact k
theorem mS.ab {A B : Int → Int → Int} {h : Int} {S : Nat} {w : Nat → Nat} {M : Nat} (k : mS A h S w M) (e : ∀ a : Int, h ≤ a → a ≤ h + 5 → B a = A a) : mS B h S w M := by
  have e0 := e h (by omega) (by omega)
  obtain ⟨h1, h2, h3, h4, h5, h6⟩ := k
  exact ⟨h1.ab (fun i _ => congrFun e0 i), (congrFun e0 _).trans h2, (congrFun e0 _).trans h3, h4, fun j hj => by rw [e (h + 1) (by omega) (by omega), e (h + 2) (by omega) (by omega)]; exact h5 j hj, h6.ab e⟩
theorem mT.ab {A B : Int → Int → Int} {h : Int} (k : mT A h) (e : ∀ a : Int, h ≤ a → a ≤ h + 5 → B a = A a) : mT B h := by
  have e0 := e h (by omega) (by omega)
  refine ⟨k.1.ab (fun i _ => congrFun e0 i), ?_⟩
  rcases k.2 with q | ⟨S, w, M, hS, q⟩
  · exact Or.inl ((congrFun e0 _).trans q)
  · exact Or.inr ⟨S, w, M, hS, q.ab e⟩
theorem eF.ab2 {A B : Int → Int → Int} {g : Int} (h : eF A g) (e : ∀ a : Int, g ≤ a → a ≤ g + 20 → B a = A a) : eF B g := h.ab (fun i _ => congrFun (e g (by omega) (by omega)) i) (e _ (by omega) (by omega)) ((congrFun (e _ (by omega) (by omega)) _).trans h.2.2.2.2.2.2.1) (fun k hk => (congrFun (e _ (by omega) (by omega)) _).trans (h.2.2.2.2.2.2.2 k hk))
theorem eS.ab {A B : Int → Int → Int} {g : Int} {S n : Nat} (h : eS A g S n) (e : ∀ a : Int, g ≤ a → a ≤ g + 20 → B a = A a) : eS B g S n := by
  have e0 := e g (by omega) (by omega)
  obtain ⟨h1, h2, h3, h4, h5, h6, v, h7⟩ := h
  exact ⟨h1.ab2 e, (congrFun e0 _).trans h2, (congrFun e0 _).trans h3, fun q hq => (h4 q hq).ab (e _ (by omega) (by omega)) (e _ (by omega) (by omega)), fun k hk => (congrFun (e _ (by omega) (by omega)) _).trans (h5 k hk), fun k hk => (h6 k hk).ab (fun a ha => e a (by omega) (by omega)), v, h7.ab (fun a ha => e a (by omega) (by omega))⟩
theorem eW.ab {A B : Int → Int → Int} {g : Int} (h : eW A g) (e : ∀ a : Int, g ≤ a → a ≤ g + 20 → B a = A a) : eW B g := by
  refine ⟨h.1.ab2 e, ?_⟩
  rcases h.2 with q | ⟨S, n, h1, h2, h3, h4⟩
  · exact Or.inl ((congrFun (e g (by omega) (by omega)) _).trans q)
  · exact Or.inr ⟨S, n, h1, h2, h3, h4.ab e⟩
theorem xN.ab {A B : Int → Int → Int} {t : Int} {tl : Nat} {tf : Nat → Int} (h : xN A t tl tf) (e : ∀ a : Int, t ≤ a → a ≤ t + 1 → B a = A a) : xN B t tl tf := by
  unfold xN
  rw [e t (by omega) (by omega), e (t + 1) (by omega) (by omega)]
  exact h
theorem sT.sR {G : zG} {A : Int → Int → Int} {s E0 : Int} (h : sT G A s E0) : A s 9 = -1 ∨ ∃ S2 : Nat, sR G A s E0 2 S2 := by
  obtain ⟨h1, h2, h3, h4, h5⟩ := h
  rcases h5 with q | ⟨S2, q1, q2, q3⟩
  · exact Or.inl q
  · exact Or.inr ⟨S2, h1, h2, h3, q3, h4, Or.inr rfl, q1, q2⟩
/-- a search stands where only other couples' families, other units' notes and other addresses change, and cells come -/
def othF (G : zG) (A B : Int → Int → Int) (s E0 : Int) (ap : Nat) : Prop := (∀ a : Int, s ≤ a → a ≤ s + 45 → B a = A a) ∧ ∀ a : Int, E0 ≤ a → a < (gz G : Int) → B a = A a ∨ (gk G a = 11 ∧ (a + 5 ≤ (gz G : Int) → ¬ isC G A a ap) ∧ ∀ i : Int, i ≠ 5 → B a i = A a i)
theorem othF.saf {G : zG} {A B : Int → Int → Int} {s E0 : Int} {ap : Nat} (h : othF G A B s E0 ap) : safF G A B E0 := fun a h1 h2 => (h.2 a h1 h2).elim Or.inl (fun q => Or.inr ⟨q.1, q.2.2⟩)
theorem sF.row {A B : Int → Int → Int} {s : Int} {ap : Nat} (h : sF A s ap) (e : ∀ a : Int, s ≤ a → a ≤ s + 45 → B a = A a) : sF B s ap := h.ab (fun i _ => congrFun (e s (by omega) (by omega)) i) (fun a ha => e a (by omega) (by omega))
theorem sR.oth {G G2 : zG} {A B : Int → Int → Int} {s E0 : Int} {ap S n m : Nat} (h : sR G A s E0 ap S) (g : gR G G2 n m) (o : othF G A B s E0 ap) : sR G2 B s E0 ap S := by
  have hE := h.E
  have hs0 := h.K.2.1
  have hz := g.1
  refine ⟨h.K.gr g (by omega), h.F.row o.1, h.P.saf g o.saf (o.1 _ (by omega) (by omega)), h.N.row (o.1 _ (by omega) (by omega)) (o.1 _ (by omega) (by omega)) (o.1 _ (by omega) (by omega)) (o.1 _ (by omega) (by omega)) (fun k hk => ?_), ⟨hE.1, by omega⟩, h.apx, h.s7, h.p5⟩
  have ht : okT ap S (csA ap S).length ((prL ap S).getD k pD) := prA_ok (ap := ap) (S := S) _ k hk
  have hu := h.un ht.1
  have hc := h.cp hk
  have hu1 := hu.1
  have hu2 := hu.2.1
  refine ⟨o.saf.row (by omega) (by omega) (hu.2.2.1.ne11 (by omega) (by omega)), ?_⟩
  rcases o.2 _ hc.1 (by omega) with q | q
  · exact congrFun q _
  · exact absurd hc.2.2.2.2 (q.2.1 hc.2.1)
theorem sT.oth {G G2 : zG} {A B : Int → Int → Int} {s E0 : Int} {n m : Nat} (h : sT G A s E0) (g : gR G G2 n m) (o : othF G A B s E0 2) : sT G2 B s E0 := by
  have hs := h.sR
  obtain ⟨h1, h2, h3, h4, h5⟩ := h
  have hz := g.1
  refine ⟨h1.gr g (by omega), h2.row o.1, h3.saf g o.saf (o.1 _ (by omega) (by omega)), ⟨h4.1, by omega⟩, ?_⟩
  rcases hs with q | ⟨S2, q⟩
  · exact Or.inl ((congrFun (o.1 s (by omega) (by omega)) _).trans q)
  · exact Or.inr ⟨S2, q.s7, q.p5, (q.oth g o).N⟩
theorem sT.ab {G : zG} {A B : Int → Int → Int} {s E0 : Int} (h : sT G A s E0) (e : ∀ a : Int, (s ≤ a ∧ a ≤ s + 45) ∨ E0 ≤ a → B a = A a) : sT G B s E0 := h.oth gR.rf ⟨fun a h1 h2 => e a (by omega), fun a h1 _ => Or.inl (e a (by omega))⟩
/-- what filling one search does to the other -/
theorem fl_oth {G G2 : zG} {A B : Int → Int → Int} {s s2 E0 : Int} {ap ap2 n m : Nat} (g : gR G G2 n m) (f : flF2 G A G2 B s E0 ap) (hsE : s + 46 ≤ E0) (hs2E : s2 + 46 ≤ E0) (hE : E0 ≤ (gz G : Int)) (hss : s + 45 < s2 ∨ s2 + 45 < s) (hap : (ap = 1 ∧ ap2 = 2) ∨ (ap = 2 ∧ ap2 = 1)) : othF G A B s2 E0 ap2 := by
  have hsaf : safF G A B E0 := fun a h1 h2 => by
    rcases f.1 a h2 (by omega) with q | q
    · exact Or.inl q
    · exact Or.inr ⟨(g.2.2.1 a h2).1.symm.trans q.2.1.k11, q.2.2⟩
  refine ⟨fun a h1 h2 => ?_, fun a h1 h2 => ?_⟩
  · rcases f.1 a (by omega) (by omega) with q | q
    · exact q
    · have := q.1; omega
  · rcases f.1 a h2 (by omega) with q | q
    · exact Or.inl q
    · refine Or.inr ⟨(g.2.2.1 a h2).1.symm.trans q.2.1.k11, fun h5 hz => ?_, q.2.2⟩
      have h3 := hz.saf (G2 := G2) (B := B) g hsaf h1 h5
      rcases hap with ⟨r1, r2⟩ | ⟨r1, r2⟩
      · subst r1; subst r2; exact isC_ne q.2.1 h3
      · subst r1; subst r2; exact isC_ne h3 q.2.1
