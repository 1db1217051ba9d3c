def tb9 (ap u : Nat) : Nat → Bool
  | 0 => true
  | i + 1 => tb9 ap u i && (!(decide (smF 127 (if ap = 1 then nn1 u (i + 1) else nn2 u (i + 1)) 7 = 1) && decide (smF 127 ((if ap = 1 then nn1 u (i + 1) else nn2 u (i + 1)) + ap) 7 = 1)) || decide (xp u (i + 1) < 1000000000))
theorem tb9_1 : ∀ s, s < 128 → pop s ≤ 5 → s ≠ 1 → tb9 1 (ux (2 * rad s)) 9 = true := by decide +kernel
theorem tb9_2 : ∀ s, s < 128 → pop s ≤ 5 → s ≠ 0 → tb9 2 (ux (rad s)) 9 = true := by decide +kernel
theorem tb9_i {ap u : Nat} : ∀ n, tb9 ap u n = true → ∀ i, 1 ≤ i → i ≤ n → smF 127 (if ap = 1 then nn1 u i else nn2 u i) 7 = 1 → smF 127 ((if ap = 1 then nn1 u i else nn2 u i) + ap) 7 = 1 → xp u i < 1000000000 := by
  intro n
  induction n with
  | zero => intro _ i h1 h2; omega
  | succ n ih =>
    intro h i h1 h2 h3 h4
    unfold tb9 at h
    rw [Bool.and_eq_true] at h
    rcases Nat.lt_or_ge i (n + 1) with q | q
    · exact ih h.1 i h1 (by omega) h3 h4
    · have : i = n + 1 := by omega
      subst this
      have h5 := h.2
      rw [decide_eq_true h3, decide_eq_true h4] at h5
      simpa using h5
