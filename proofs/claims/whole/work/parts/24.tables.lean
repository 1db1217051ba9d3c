/-! ===== tables: each class's fraction and unit, decided ===== -/
def isqF (D : Nat) : Nat → Nat → Nat
  | 0, r => r
  | b + 1, r => if (r + 2 ^ b) * (r + 2 ^ b) ≤ D then isqF D b (r + 2 ^ b) else isqF D b r
def isq (D : Nat) : Nat := isqF D 11 0
def rndF (D r : Nat) : Nat → cS → Nat → Nat
  | 0, _, k => k
  | f + 1, s, k => if s.2.1 = 1 then k else rndF D r f (cfs D r s) (k + 1)
def rnd (D : Nat) : Nat := rndF D (isq D) 100 (cfs D (isq D) (0, 1, isq D)) 1
def chkF (D r : Nat) : Nat → cS → Bool
  | 0, _ => true
  | n + 1, s => cgood D r s && chkF D r n (cfs D r s)
def nextN (a : Nat) (t : nS) : nS := (t.1 * a + t.2.1, t.1, t.2.2.1 * a + t.2.2.2, t.2.2.1)
def nckF (D r : Nat) : Nat → cS → nS → Bool
  | 0, _, _ => true
  | n + 1, s, t => decide (t.1 < 10000 ^ 40 ∧ t.2.1 < 10000 ^ 40 ∧ t.2.2.1 < 10000 ^ 40 ∧ t.2.2.2 < 10000 ^ 40) && nckF D r n (cfs D r s) (nextN (cfs D r s).2.2 t)
def nsG (D r : Nat) : Nat → cS → nS → nS
  | 0, _, t => t
  | n + 1, s, t => nsG D r n (cfs D r s) (nextN (cfs D r s).2.2 t)
theorem nsG_eq (D r : Nat) : ∀ n k, nsG D r n (cf D r k) (ns D r k) = ns D r (k + n) := by
  intro n
  induction n with
  | zero => intro k; rfl
  | succ n ih => intro k; rw [show k + (n + 1) = k + 1 + n by omega, ← ih (k + 1)]; rfl
def dIt (D r : Nat) : Nat → cS → cS
  | 0, s => s
  | n + 1, s => dIt D r n (cfs D r s)
theorem dIt_eq (D r : Nat) : ∀ n k, dIt D r n (cf D r k) = cf D r (k + n) := by
  intro n
  induction n with
  | zero => intro k; rfl
  | succ n ih => intro k; rw [show k + (n + 1) = k + 1 + n by omega, ← ih (k + 1)]; rfl
theorem chkF_ok {D r : Nat} : ∀ n k, chkF D r n (cf D r k) = true → ∀ j, k ≤ j → j < k + n → cgood D r (cf D r j) = true := by
  intro n
  induction n with
  | zero => intro k _ j h1 h2; omega
  | succ n ih =>
    intro k h j h1 h2
    unfold chkF at h
    rw [Bool.and_eq_true] at h
    by_cases q : j = k
    · subst q; exact h.1
    · exact ih (k + 1) h.2 j (by omega) (by omega)
theorem nckF_ok {D r : Nat} : ∀ n k, nckF D r n (cf D r k) (ns D r k) = true → ∀ j, k ≤ j → j < k + n → (ns D r j).1 < 10000 ^ 40 ∧ (ns D r j).2.1 < 10000 ^ 40 ∧ (ns D r j).2.2.1 < 10000 ^ 40 ∧ (ns D r j).2.2.2 < 10000 ^ 40 := by
  intro n
  induction n with
  | zero => intro k _ j h1 h2; omega
  | succ n ih =>
    intro k h j h1 h2
    unfold nckF at h
    rw [Bool.and_eq_true] at h
    by_cases q : j = k
    · subst q; exact of_decide_eq_true h.1
    · exact ih (k + 1) h.2 j (by omega) (by omega)
theorem rndF_min {D r : Nat} : ∀ f k, (∀ j, k ≤ j → j < rndF D r f (cf D r k) k → (cf D r j).2.1 ≠ 1) ∧ k ≤ rndF D r f (cf D r k) k := by
  intro f
  induction f with
  | zero => intro k; exact ⟨fun j h1 h2 => by have h3 : j < k := h2; omega, Nat.le_refl k⟩
  | succ f ih =>
    intro k
    unfold rndF
    by_cases q : (cf D r k).2.1 = 1
    · rw [if_pos q]
      exact ⟨fun j h1 h2 => by omega, Nat.le_refl _⟩
    · rw [if_neg q]
      have h := ih (k + 1)
      refine ⟨fun j h1 h2 => ?_, by have := h.2; exact Nat.le_trans (Nat.le_succ k) this⟩
      by_cases q2 : j = k
      · subst q2; exact q
      · exact h.1 j (by omega) h2
/-- the check of one D, with the unit's numbers below 10 to the 100, K steps sound -/
def okD (D : Nat) : Bool := decide (isq D * isq D ≤ D ∧ D < (isq D + 1) * (isq D + 1) ∧ D ≤ 2000000 ∧ isq D ≤ 9999 ∧ rnd D ≤ 50 ∧ (dIt D (isq D) (rnd D) (0, 1, isq D)).2.1 = 1) && chkF D (isq D) (2 * rnd D + 3) (0, 1, isq D) && nckF D (isq D) (rnd D) (0, 1, isq D) (isq D, 1, 1, 0)
theorem okD_cf {D : Nat} (h : okD D = true) : CFok D (isq D) (rnd D) (2 * rnd D + 3) ∧ isq D * isq D ≤ D ∧ D < (isq D + 1) * (isq D + 1) := by
  unfold okD at h
  rw [Bool.and_eq_true, Bool.and_eq_true] at h
  obtain ⟨⟨h1, h2⟩, h3⟩ := h
  obtain ⟨a1, a2, a3, a4, a5, a6⟩ := of_decide_eq_true h1
  have hm := rndF_min (D := D) (r := isq D) 100 1
  have e := dIt_eq D (isq D) (rnd D) 0
  rw [Nat.zero_add] at e
  refine ⟨⟨fun k hk => chkF_ok _ 0 h2 k (Nat.zero_le _) (by omega), hm.2, ?_, hm.1, by omega, by omega, a3, a4⟩, a1, a2⟩
  rw [← e]; exact a6
theorem nd_mul {b v w : Nat} (hb : 2 ≤ b) : nd b (v * w) ≤ nd b v + nd b w := by
  refine nd_le hb ?_
  rw [Nat.pow_add]
  exact Nat.mul_lt_mul_of_lt_of_lt (nd_self hb v) (nd_self hb w)
theorem nd_21 {b v : Nat} {t : Nat} (hb : 3 ≤ b) (ht : t ≤ 1) : nd b (v * 2 + t) ≤ nd b v + 1 := by
  refine nd_le (by omega) ?_
  have h := nd_self (b := b) (by omega) v
  rw [Nat.pow_succ]
  have h2 : b ^ nd b v * 3 ≤ b ^ nd b v * b := Nat.mul_le_mul_left _ hb
  omega
theorem okD_ns {D : Nat} (h : okD D = true) : NSok D (isq D) (rnd D) ∧ nd 10000 (unx D (isq D) (rnd D)) ≤ 81 ∧ nd 10000 (uny D (isq D) (rnd D)) ≤ 81 := by
  have hc := (okD_cf h).1
  unfold okD at h
  rw [Bool.and_eq_true, Bool.and_eq_true] at h
  obtain ⟨⟨h1, h2⟩, h3⟩ := h
  have hR := hc.2.1
  have hn : ∀ j, j < rnd D → nd 10000 (ns D (isq D) j).1 ≤ 40 ∧ nd 10000 (ns D (isq D) j).2.1 ≤ 40 ∧ nd 10000 (ns D (isq D) j).2.2.1 ≤ 40 ∧ nd 10000 (ns D (isq D) j).2.2.2 ≤ 40 := by
    intro j hj
    obtain ⟨b1, b2, b3, b4⟩ := nckF_ok _ 0 h3 j (Nat.zero_le _) (by omega)
    exact ⟨nd_le (by omega) b1, nd_le (by omega) b2, nd_le (by omega) b3, nd_le (by omega) b4⟩
  have hp := hn (rnd D - 1) (by omega)
  have p1 : nd 10000 (hfp D (isq D) (rnd D)) ≤ 40 := hp.1
  have p2 : nd 10000 (hfr D (isq D) (rnd D)) ≤ 40 := hp.2.2.1
  have p3 := nd_mul (b := 10000) (v := hfp D (isq D) (rnd D)) (w := hfp D (isq D) (rnd D)) (by omega)
  have p4 := nd_mul (b := 10000) (v := hfp D (isq D) (rnd D)) (w := hfr D (isq D) (rnd D)) (by omega)
  have p5 := nd_21 (b := 10000) (v := hfp D (isq D) (rnd D) * hfp D (isq D) (rnd D)) (t := 1) (by omega) (by omega)
  have p6 := nd_21 (b := 10000) (v := hfp D (isq D) (rnd D) * hfr D (isq D) (rnd D)) (t := 0) (by omega) (by omega)
  have p7 : nd 10000 (unx D (isq D) (rnd D)) ≤ 81 := by unfold unx; split <;> omega
  have p8 : nd 10000 (uny D (isq D) (rnd D)) ≤ 81 := by unfold uny; split <;> omega
  exact ⟨⟨fun j hj => by have := hn j hj; omega, by omega, by omega, by omega, by omega⟩, p7, p8⟩
theorem tab_ok : ∀ s, s < 128 → (s ≠ 1 → okD (2 * rad s) = true) ∧ (s ≠ 0 → okD (rad s) = true) := by decide +kernel
