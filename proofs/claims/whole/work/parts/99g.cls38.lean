def DD (ap e : Nat) : Nat := if ap = 1 then 2 * rad e else rad e
def uX (G : zG) (A : Int → Int → Int) (u : Int) (D ap i : Nat) : Prop := A (u + 5) i = (dl (xp (ux D) i) : Int) ∧ A (u + 6) i = (mdU D ap i : Int) ∧ (A (u + 7) i = 0 ∨ A (u + 7) i = gdA (nvU D ap i) 7 161) ∧ (cfB D ap i = true → u + 9 ≤ A (u + 8) i ∧ A (u + 8) i + 5 ≤ (gz G : Int) ∧ cP G A (A (u + 8) i) (nvU D ap i) i ap) ∧ (cfB D ap i = false → A (u + 8) i = -1)
/-- a unit of the set e, below z -/
def kU (G : zG) (A : Int → Int → Int) (E0 : Int) (ap e : Nat) (u : Int) : Prop := E0 ≤ u ∧ u + 9 ≤ (gz G : Int) ∧ uK G u ∧ uO A u (rad e) (DD ap e) ∧ uW G A u (DD ap e) ap
def kP (G : zG) (A : Int → Int → Int) (s E0 : Int) (ap : Nat) : Prop := ∀ e : Nat, e < 128 → A (s + 28) e = -1 ∨ kU G A E0 ap e (A (s + 28) e)
def unk (A : Int → Int → Int) (s : Int) : Nat := cnt (fun e => decide (A (s + 28) (e : Nat) = -1)) 128
theorem p252 : 10 ^ 252 ≤ 2 ^ 999 := by
  have h1 : (10 ^ 3) ^ 84 ≤ (2 ^ 10) ^ 84 := Nat.pow_le_pow_left (by decide) 84
  rw [← Nat.pow_mul, ← Nat.pow_mul] at h1
  exact Nat.le_trans h1 (Nat.pow_le_pow_right (by decide) (by decide))
theorem xp_b {u j : Nat} (hu : u < 10 ^ 24) (hj : j ≤ 10) : xp u j < 10 ^ 251 := by
  have h1 := (xp_pow hu j).1
  have h2 : (10 ^ 25) ^ j ≤ (10 ^ 25) ^ 10 := Nat.pow_le_pow_right (by omega) hj
  have h3 : (10 ^ 25) ^ 10 < 10 ^ 251 := by decide +kernel
  exact Nat.lt_of_le_of_lt (Nat.le_trans h1 h2) h3
theorem nB252 {v : Nat} (h : v < 10 ^ 252) : nd 1000000000 v ≤ 28 := nd_le (by omega) (by rw [show 1000000000 ^ 28 = 10 ^ 252 by decide +kernel]; exact h)
theorem frD_DD {ap e : Nat} (hap : ap = 1 ∨ ap = 2) (he : e < 128) (hp : pop e ≤ 5) (hne : e ≠ butF ap) : frD (DD ap e) := by
  rcases hap with rfl | rfl
  · exact frD_1 he hp hne
  · exact frD_2 he hp hne
theorem nv_pos {ap e i : Nat} (hap : ap = 1 ∨ ap = 2) (he : e < 128) (hp : pop e ≤ 5) (hne : e ≠ butF ap) (hi : 1 ≤ i) : 0 < nvU (DD ap e) ap i := by
  rcases hap with rfl | rfl
  · exact nv1_pos he hp hne hi
  · exact nv2_pos he hp hne hi
theorem uX.ab {G G2 : zG} {A B : Int → Int → Int} {u : Int} {D ap i n s : Nat} (h : uX G A u D ap i) (hu : 0 ≤ u) (g : gR G G2 n s) (huz : u + 9 ≤ (gz G : Int)) (e : ∀ a : Int, u + 9 ≤ a → a < (gz G : Int) → B a = A a) (e5 : B (u + 5) i = A (u + 5) i) (e6 : B (u + 6) i = A (u + 6) i) (e7 : B (u + 7) i = A (u + 7) i) (e8 : B (u + 8) i = A (u + 8) i) : uX G2 B u D ap i := by
  obtain ⟨k1, k2, k3, k4, k5⟩ := h
  have hz := g.1
  unfold uX
  rw [e5, e6, e7, e8]
  refine ⟨k1, k2, k3, fun hc => ?_, k5⟩
  obtain ⟨m1, m2, m3⟩ := k4 hc
  exact ⟨m1, by omega, m3.1.gr g (by omega), m3.2.ab (fun k _ => congrFun (e _ (by omega) (by omega)) k) (fun a ha hb => e a (by omega) (by omega))⟩
/-- all that telling a power may change -/
def tlF (A B : Int → Int → Int) (z p u : Int) (i : Nat) : Prop := (∀ a : Int, a < z → (a < p + 7 ∨ p + 12 < a) → a ≠ u + 5 → a ≠ u + 6 → a ≠ u + 8 → B a = A a) ∧ (∀ j : Int, j ≠ i → B (u + 5) j = A (u + 5) j ∧ B (u + 6) j = A (u + 6) j ∧ B (u + 8) j = A (u + 8) j)
theorem w_tell2 {d : Nat} {G : zG} {A : Int → Int → Int} {P : Option zV → zG → Prop} {p : Int} (hK : wK G p) {ap : Nat} (hO : wO A p ap) (hL : lG G A) (hap : ap = 1 ∨ ap = 2) (hpz : p + 12 < (gz G : Int)) {u : Int} (hu : uK G u) (huz : u + 9 ≤ (gz G : Int)) (hup : p + 12 < u) (hgl : gl G < p ∨ p + 12 < gl G) {q D : Nat} (hUO : uO A u q D) (hfr : frD D) {i : Nat} (hi : 1 ≤ i ∧ i ≤ 9) (hw : bN A (p + 3) (xp (ux D) i)) (hv1 : 0 < nvU D ap i) (h7 : A (u + 7) i = 0)
    (k : ∀ G2 A2 (n m : Nat), uX G2 A2 u D ap i → tlF A A2 (gz G : Int) p u i → wO A2 p ap → gR G G2 n m → n ≤ 5 → m ≤ 54 → P none (gw G2 A2)) : ZE (d + 4) M_Pow_tell (gw G A) 0 [(2, p), (2, u), (0, (i : Int)), (9, 0), (9, 0)] [] P := by
  have hx := xp_b (frD_ux hfr) (show i ≤ 10 by omega)
  have hx1 : 1 ≤ xp (ux D) i := Nat.le_trans (frD_x1 hfr) (xp_ge (frD_x1 hfr) hi.1)
  have h25 : 10 ^ 251 + 2 ≤ 10 ^ 252 := by decide +kernel
  have hve : nvU D ap i = if ap = 1 then (xp (ux D) i - 1) / 2 else xp (ux D) i - 1 := rfl
  have hvb : nvU D ap i + ap < 10 ^ 252 := by
    rw [hve]
    generalize xp (ux D) i = w at hx hx1
    generalize 10 ^ 251 = b1 at hx h25
    generalize 10 ^ 252 = b2 at h25
    rcases hap with rfl | rfl
    · rw [if_pos rfl]; omega
    · rw [if_neg (by omega)]; omega
  have n9w : nd 1000000000 (xp (ux D) i) ≤ 32 := Nat.le_trans (nB252 (Nat.lt_trans hx (by decide +kernel))) (by omega)
  have n9v : nd 1000000000 (nvU D ap i + ap) ≤ 28 := nB252 hvb
  have n9v0 : nd 1000000000 (nvU D ap i) ≤ 28 := Nat.le_trans (nd_mono' (Nat.le_add_right _ _)) n9v
  have hp0 := hK.2.1
  have hcf : cfB D ap i = true ↔ (smF 127 (nvU D ap i) 7 = 1 ∧ smF 127 (nvU D ap i + ap) 7 = 1) := by
    unfold cfB
    rw [Bool.and_eq_true, decide_eq_true_iff, decide_eq_true_iff]
  obtain ⟨o0, o1, o2, o3, o4, o5, o6, o7, o8, o9, ox, oy⟩ := hUO
  refine w_tell hK hO hL (by omega) hpz hu (by omega) hup hgl o6 o7 o9 (i1 := i) (v := nvU D ap i) (w1 := xp (ux D) i) (by omega) hw hx1 n9w hve hv1 (by omega) (Nat.lt_of_lt_of_le hvb p252) ?_ ?_
  · intro hs c hc G2 A2 hcP hA2 hwO2 hg
    subst hc
    have hz2 := hg.1
    have hrow : ∀ a : Int, a ≠ u + 5 → a ≠ u + 6 → a ≠ u + 8 → (up2 (up2 (up2 A2 (u + 5) (i : Int) (dl (xp (ux D) i) : Int)) (u + 6) (i : Int) ((mb (nvU D ap i) ||| mb (nvU D ap i + ap) : Nat) : Int)) (u + 8) (i : Int) (gz G : Int)) a = A2 a := fun a h1 h2 h3 => by simp only [up2_A, upA_ne _ _ h1, upA_ne _ _ h2, upA_ne _ _ h3]
    have hat5 : (up2 (up2 (up2 A2 (u + 5) (i : Int) (dl (xp (ux D) i) : Int)) (u + 6) (i : Int) ((mb (nvU D ap i) ||| mb (nvU D ap i + ap) : Nat) : Int)) (u + 8) (i : Int) (gz G : Int)) (u + 5) i = (dl (xp (ux D) i) : Int) := (up2_ne _ _ (by omega)).trans ((up2_ne _ _ (by omega)).trans (up2_at _ _ _ _))
    have hat6 : (up2 (up2 (up2 A2 (u + 5) (i : Int) (dl (xp (ux D) i) : Int)) (u + 6) (i : Int) ((mb (nvU D ap i) ||| mb (nvU D ap i + ap) : Nat) : Int)) (u + 8) (i : Int) (gz G : Int)) (u + 6) i = ((mb (nvU D ap i) ||| mb (nvU D ap i + ap) : Nat) : Int) := (up2_ne _ _ (by omega)).trans (up2_at _ _ _ _)
    have hat8 : (up2 (up2 (up2 A2 (u + 5) (i : Int) (dl (xp (ux D) i) : Int)) (u + 6) (i : Int) ((mb (nvU D ap i) ||| mb (nvU D ap i + ap) : Nat) : Int)) (u + 8) (i : Int) (gz G : Int)) (u + 8) i = (gz G : Int) := up2_at _ _ _ _
    have hat7 : (up2 (up2 (up2 A2 (u + 5) (i : Int) (dl (xp (ux D) i) : Int)) (u + 6) (i : Int) ((mb (nvU D ap i) ||| mb (nvU D ap i + ap) : Nat) : Int)) (u + 8) (i : Int) (gz G : Int)) (u + 7) i = 0 := (congrFun (hrow _ (by omega) (by omega) (by omega)) _).trans ((congrFun (hA2 _ (by omega) (by omega)) _).trans h7)
    refine k G2 _ 5 _ ⟨hat5, hat6, Or.inl hat7, fun _ => ?_, fun hf => ?_⟩ ⟨fun a h1 h2 h3 h4 h5 => (hrow a h3 h4 h5).trans (hA2 a h1 h2), fun j hj => ⟨?_, ?_, ?_⟩⟩ (hwO2.ab (fun a h1 h2 => hrow a (by omega) (by omega) (by omega))) hg (Nat.le_refl _) (by omega)
    · rw [hat8]
      refine ⟨by omega, by omega, hcP.1, hcP.2.ab (fun k _ => ?_) (fun a ha hb => ?_)⟩
      · exact congrFun (hrow (gz G : Int) (by omega) (by omega) (by omega)) k
      · exact hrow a (by omega) (by omega) (by omega)
    · rw [hcf.mpr hs] at hf; exact absurd hf (by decide)
    · exact (up2_ne _ _ (by omega)).trans ((up2_ne _ _ (by omega)).trans ((up2_ne _ _ (by omega)).trans (congrFun (hA2 _ (by omega) (by omega)) _)))
    · exact (up2_ne _ _ (by omega)).trans ((up2_ne _ _ (by omega)).trans ((up2_ne _ _ (by omega)).trans (congrFun (hA2 _ (by omega) (by omega)) _)))
    · exact (up2_ne _ _ (by omega)).trans ((up2_ne _ _ (by omega)).trans ((up2_ne _ _ (by omega)).trans (congrFun (hA2 _ (by omega) (by omega)) _)))
  · intro hs A2 hA2 hwO2
    have hrow : ∀ a : Int, a ≠ u + 5 → a ≠ u + 6 → a ≠ u + 8 → (up2 (up2 (up2 A2 (u + 5) (i : Int) (dl (xp (ux D) i) : Int)) (u + 6) (i : Int) ((mb (nvU D ap i) ||| mb (nvU D ap i + ap) : Nat) : Int)) (u + 8) (i : Int) (-1)) a = A2 a := fun a h1 h2 h3 => by simp only [up2_A, upA_ne _ _ h1, upA_ne _ _ h2, upA_ne _ _ h3]
    have hat5 : (up2 (up2 (up2 A2 (u + 5) (i : Int) (dl (xp (ux D) i) : Int)) (u + 6) (i : Int) ((mb (nvU D ap i) ||| mb (nvU D ap i + ap) : Nat) : Int)) (u + 8) (i : Int) (-1)) (u + 5) i = (dl (xp (ux D) i) : Int) := (up2_ne _ _ (by omega)).trans ((up2_ne _ _ (by omega)).trans (up2_at _ _ _ _))
    have hat6 : (up2 (up2 (up2 A2 (u + 5) (i : Int) (dl (xp (ux D) i) : Int)) (u + 6) (i : Int) ((mb (nvU D ap i) ||| mb (nvU D ap i + ap) : Nat) : Int)) (u + 8) (i : Int) (-1)) (u + 6) i = ((mb (nvU D ap i) ||| mb (nvU D ap i + ap) : Nat) : Int) := (up2_ne _ _ (by omega)).trans (up2_at _ _ _ _)
    have hat8 : (up2 (up2 (up2 A2 (u + 5) (i : Int) (dl (xp (ux D) i) : Int)) (u + 6) (i : Int) ((mb (nvU D ap i) ||| mb (nvU D ap i + ap) : Nat) : Int)) (u + 8) (i : Int) (-1)) (u + 8) i = -1 := up2_at _ _ _ _
    have hat7 : (up2 (up2 (up2 A2 (u + 5) (i : Int) (dl (xp (ux D) i) : Int)) (u + 6) (i : Int) ((mb (nvU D ap i) ||| mb (nvU D ap i + ap) : Nat) : Int)) (u + 8) (i : Int) (-1)) (u + 7) i = 0 := (congrFun (hrow _ (by omega) (by omega) (by omega)) _).trans ((congrFun (hA2 _ (by omega) (by omega)) _).trans h7)
    refine k G _ 0 0 ⟨hat5, hat6, Or.inl hat7, fun hf => absurd (hcf.mp hf) hs, fun _ => hat8⟩ ⟨fun a h1 h2 h3 h4 h5 => (hrow a h3 h4 h5).trans (hA2 a h1 h2), fun j hj => ⟨?_, ?_, ?_⟩⟩ (hwO2.ab (fun a h1 h2 => hrow a (by omega) (by omega) (by omega))) gR.rf (by omega) (by omega)
    · exact (up2_ne _ _ (by omega)).trans ((up2_ne _ _ (by omega)).trans ((up2_ne _ _ (by omega)).trans (congrFun (hA2 _ (by omega) (by omega)) _)))
    · exact (up2_ne _ _ (by omega)).trans ((up2_ne _ _ (by omega)).trans ((up2_ne _ _ (by omega)).trans (congrFun (hA2 _ (by omega) (by omega)) _)))
    · exact (up2_ne _ _ (by omega)).trans ((up2_ne _ _ (by omega)).trans ((up2_ne _ _ (by omega)).trans (congrFun (hA2 _ (by omega) (by omega)) _)))
