theorem fsA_eq {f : Nat → Bool} {p : Nat} : ∀ n a, f p = true → a ≤ p → p < a + n → (∀ q, a ≤ q → q < p → ¬ f q = true) → fsA f a n = (p : Int) := by
  intro n
  induction n with
  | zero => intro a _ h2 h3; omega
  | succ n ih =>
    intro a h1 h2 h3 h4
    rcases Nat.eq_or_lt_of_le h2 with q | q
    · subst q; exact fsA_stop h1 (by omega)
    · rw [fsA_go (h4 a (Nat.le_refl _) q) (by omega), Nat.add_sub_cancel]
      exact ih (a + 1) h1 (by omega) (by omega) (fun r hr => h4 r (by omega))
theorem fsA_no {f : Nat → Bool} : ∀ n a, (∀ q, a ≤ q → q < a + n → ¬ f q = true) → fsA f a n = -1 := by
  intro n
  induction n with
  | zero => intro a _; rfl
  | succ n ih =>
    intro a h
    rw [fsA_go (h a (Nat.le_refl _) (by omega)) (by omega), Nat.add_sub_cancel]
    exact ih (a + 1) (fun r h1 h2 => h r (by omega) (by omega))
def gdP (n k : Nat) : Prop := n % (zPf k).toNat = 0 ∨ (n + 1) % (zPf k).toNat = 0
theorem gdA_spec (n : Nat) : ∀ f k, (gdA n k f = -2 ∧ ∀ j, k ≤ j → j < k + f → ¬ gdP n j) ∨ ∃ j, k ≤ j ∧ j < k + f ∧ gdA n k f = zPf j ∧ gdP n j ∧ ∀ i, k ≤ i → i < j → ¬ gdP n i := by
  intro f
  induction f with
  | zero => intro k; exact Or.inl ⟨rfl, fun j h1 h2 => by omega⟩
  | succ f ih =>
    intro k
    by_cases h : gdP n k
    · exact Or.inr ⟨k, Nat.le_refl _, by omega, if_pos h, h, fun i h1 h2 => by omega⟩
    · have e : gdA n k (f + 1) = gdA n (k + 1) f := if_neg h
      rw [e]
      rcases ih (k + 1) with q | ⟨j, h1, h2, h3, h4, h5⟩
      · refine Or.inl ⟨q.1, fun j h1 h2 => ?_⟩
        rcases Nat.eq_or_lt_of_le h1 with r | r
        · subst r; exact h
        · exact q.2 j r (by omega)
      · refine Or.inr ⟨j, by omega, by omega, h3, h4, fun i h6 h7 => ?_⟩
        rcases Nat.eq_or_lt_of_le h6 with r | r
        · subst r; exact h
        · exact h5 i r h7
theorem lsF_spec (S : Nat) : ∀ f k, (∃ j, k ≤ j ∧ j < k + f ∧ S.testBit j = true) → ∃ j, k ≤ j ∧ j < k + f ∧ lsF S k f = (sev j : Int) ∧ S.testBit j = true ∧ ∀ i, k ≤ i → i < j → ¬ S.testBit i = true := by
  intro f
  induction f with
  | zero => intro k ⟨j, h1, h2, _⟩; omega
  | succ f ih =>
    intro k ⟨j, h1, h2, h3⟩
    by_cases h : S.testBit k = true
    · exact ⟨k, Nat.le_refl _, by omega, if_pos h, h, fun i h1 h2 => by omega⟩
    · have e : lsF S k (f + 1) = lsF S (k + 1) f := if_neg h
      rw [e]
      have hjk : j ≠ k := fun q => h (by rw [← q]; exact h3)
      obtain ⟨j2, g1, g2, g3, g4, g5⟩ := ih (k + 1) ⟨j, by omega, by omega, h3⟩
      refine ⟨j2, by omega, by omega, g3, g4, fun i h6 h7 => ?_⟩
      rcases Nat.eq_or_lt_of_le h6 with r | r
      · subst r; exact h
      · exact g5 i r h7
theorem zp_pr : ∀ j, j < 168 → prB (zPf j).toNat = true := by decide +kernel
theorem zp_mono : ∀ j, j < 168 → ∀ k, k < j → zPf k < zPf j := by decide +kernel
theorem zp_all : ∀ p, p < 1000 → prB p = true → ∃ j, j < 168 ∧ zPf j = (p : Nat) := by decide +kernel
theorem zp_has : ∀ j, j < 168 → 7 ≤ j → plc (zPf j) = -1 := by decide +kernel
theorem ix_bit {g : Nat → Bool} : ∀ b i, 1 ≤ i → i ≤ b → ((ix g b).testBit (i - 1) = true ↔ g i = true) := by
  intro b
  induction b with
  | zero => intro i h1 h2; omega
  | succ b ih =>
    intro i h1 h2
    have hl := ix_lt (g := g) b
    show (if g (b + 1) then ix g b ||| 2 ^ b else ix g b).testBit (i - 1) = true ↔ _
    rcases Nat.lt_or_ge i (b + 1) with q | q
    · have h3 := ih i h1 (by omega)
      split
      · rw [Nat.testBit_or, Nat.testBit_two_pow_of_ne (by omega), Bool.or_false]
        exact h3
      · exact h3
    · have : i = b + 1 := by omega
      subst this
      rw [Nat.add_sub_cancel]
      split
      · rename_i h
        rw [Nat.testBit_or, Nat.testBit_two_pow_self, Bool.or_true]
        exact ⟨fun _ => h, fun _ => rfl⟩
      · rename_i h
        rw [Nat.testBit_lt_two_pow hl]
        exact ⟨fun q => absurd q (by decide), fun q => absurd q h⟩
theorem odd_div {x1 n p : Nat} (hx : x1 = 2 * n + 1) (hp : 2 ≤ p) : (x1 % (2 * p) = 1 ↔ n % p = 0) ∧ (x1 % (2 * p) = 2 * p - 1 ↔ (n + 1) % p = 0) := by
  have h1 := Nat.div_add_mod n p
  have h2 := Nat.mod_lt n (show 0 < p by omega)
  have h3 : x1 % (2 * p) = 2 * (n % p) + 1 := by
    have h4 : x1 = 2 * p * (n / p) + (2 * (n % p) + 1) := by rw [Nat.mul_assoc]; omega
    rw [h4, Nat.mul_add_mod, Nat.mod_eq_of_lt (by omega)]
  have h5 : (n + 1) % p = if n % p = p - 1 then 0 else n % p + 1 := by
    rw [Nat.add_mod, Nat.mod_eq_of_lt (show 1 < p by omega)]
    split
    · rename_i h; rw [h, Nat.sub_add_cancel (by omega), Nat.mod_self]
    · exact Nat.mod_eq_of_lt (by omega)
  rw [h3, h5]
  constructor
  · omega
  · split <;> omega
