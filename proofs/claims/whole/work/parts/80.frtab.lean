/-! ===== nearing fractions of all classes are short ===== -/
def nckG (D r : Nat) : Nat → cS → nS → Bool
  | 0, _, _ => true
  | n + 1, s, t => decide (t.1 < 10 ^ 27 ∧ t.2.1 ≤ t.1 ∧ t.2.2.1 < 10 ^ 27 ∧ t.2.2.2 ≤ t.2.2.1 ∧ 1 ≤ t.1 ∧ 1 ≤ s.2.2) && nckG D r n (cfs D r s) (nextN (cfs D r s).2.2 t)
theorem nckG_ok {D r : Nat} : ∀ n k, nckG D r n (cf D r k) (ns D r k) = true → ∀ j, k ≤ j → j < k + n → (ns D r j).1 < 10 ^ 27 ∧ (ns D r j).2.1 ≤ (ns D r j).1 ∧ (ns D r j).2.2.1 < 10 ^ 27 ∧ (ns D r j).2.2.2 ≤ (ns D r j).2.2.1 ∧ 1 ≤ (ns D r j).1 ∧ 1 ≤ (cf D r j).2.2 := by
  intro n
  induction n with
  | zero => intro k _ j h1 h2; omega
  | succ n ih =>
    intro k h j h1 h2
    unfold nckG at h
    rw [Bool.and_eq_true] at h
    by_cases q : j = k
    · subst q; exact of_decide_eq_true h.1
    · exact ih (k + 1) h.2 j (by omega) (by omega)
def ckD (D : Nat) : Bool := nckG D (isq D) (rnd D) (0, 1, isq D) (isq D, 1, 1, 0)
theorem ck_tab : ∀ s, s < 128 → pop s ≤ 5 → (s ≠ 1 → ckD (2 * rad s) = true) ∧ (s ≠ 0 → ckD (rad s) = true) := by decide +kernel
def frD (D : Nat) : Prop := okD D = true ∧ ckD D = true ∧ u24 D = true
theorem frD_cf {D : Nat} (h : frD D) : CFok D (isq D) (rnd D) (2 * rnd D + 3) ∧ isq D * isq D ≤ D ∧ D < (isq D + 1) * (isq D + 1) := okD_cf h.1
theorem frD_b {D : Nat} (h : frD D) : D ≤ 2000000 ∧ isq D ≤ 9999 ∧ rnd D ≤ 50 ∧ 1 ≤ rnd D := by
  have h1 := h.1
  unfold okD at h1
  rw [Bool.and_eq_true, Bool.and_eq_true] at h1
  have h2 := of_decide_eq_true h1.1.1
  have h3 := (frD_cf h).1.2.1
  omega
theorem frD_ns {D : Nat} (h : frD D) {j : Nat} (hj : j < rnd D) : (ns D (isq D) j).1 < 10 ^ 27 ∧ (ns D (isq D) j).2.1 ≤ (ns D (isq D) j).1 ∧ (ns D (isq D) j).2.2.1 < 10 ^ 27 ∧ (ns D (isq D) j).2.2.2 ≤ (ns D (isq D) j).2.2.1 ∧ 1 ≤ (ns D (isq D) j).1 ∧ 1 ≤ (cf D (isq D) j).2.2 := nckG_ok _ 0 h.2.1 j (Nat.zero_le _) (by omega)
theorem frD_1 {s : Nat} (hs : s < 128) (hp : pop s ≤ 5) (h : s ≠ 1) : frD (2 * rad s) := ⟨(tab_ok s hs).1 h, (ck_tab s hs hp).1 h, (tab_24 s hs hp).1 h⟩
theorem frD_2 {s : Nat} (hs : s < 128) (hp : pop s ≤ 5) (h : s ≠ 0) : frD (rad s) := ⟨(tab_ok s hs).2 h, (ck_tab s hs hp).2 h, (tab_24 s hs hp).2 h⟩
theorem isq_u {D r : Nat} (h : frD D) (h1 : r * r ≤ D) (h2 : D < (r + 1) * (r + 1)) : r = isq D := by
  obtain ⟨_, h3, h4⟩ := (frD_cf h)
  rcases Nat.lt_trichotomy r (isq D) with q | q | q
  · have := Nat.mul_le_mul (show r + 1 ≤ isq D by omega) (show r + 1 ≤ isq D by omega); omega
  · exact q
  · have := Nat.mul_le_mul (show isq D + 1 ≤ r by omega) (show isq D + 1 ≤ r by omega); omega
theorem nB27 {v : Nat} (h : v < 10 ^ 27) : nd 1000000000 v ≤ 3 := nd_le (by omega) (by rw [show 1000000000 ^ 3 = 10 ^ 27 by decide]; exact h)
