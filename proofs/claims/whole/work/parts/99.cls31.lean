def qprF (S n : Nat) : Nat → Nat
  | 0 => 1
  | k + 1 => if S.testBit k then sev k ^ vp (sev k) n * qprF S n k else qprF S n k
theorem vp_smS {S n : Nat} (hn : 0 < n) {k : Nat} (hk : k < 7) : ∀ j, j ≤ k → vp (sev k) (smF S n j) = vp (sev k) n ∧ 0 < smF S n j := by
  intro j
  induction j with
  | zero => intro _; exact ⟨rfl, hn⟩
  | succ j ih =>
    intro hj
    obtain ⟨h1, h2⟩ := ih (by omega)
    show vp (sev k) (if S.testBit j then strp (sev j) (smF S n j) else smF S n j) = _ ∧ 0 < (if S.testBit j then strp (sev j) (smF S n j) else smF S n j)
    split
    · exact ⟨(vp_strp (sev_2 k hk).1 (sev_2 j (by omega)).1 (sev_cop k hk j (by omega)) h2).trans h1, (strp_pos' h2 (sev_2 j (by omega)).1).1⟩
    · exact ⟨h1, h2⟩
theorem smF_pr {S n : Nat} (hn : 0 < n) : ∀ k, k ≤ 7 → smF S n k * qprF S n k = n ∧ 0 < smF S n k ∧ 0 < qprF S n k := by
  intro k
  induction k with
  | zero => intro _; exact ⟨Nat.mul_one n, hn, Nat.one_pos⟩
  | succ k ih =>
    intro hk
    obtain ⟨h1, h2, h3⟩ := ih (by omega)
    have h4 := (vp_smS (S := S) hn (k := k) (by omega) k (Nat.le_refl _)).1
    have hs := sev_2 k (by omega)
    show (if S.testBit k then strp (sev k) (smF S n k) else smF S n k) * (if S.testBit k then sev k ^ vp (sev k) n * qprF S n k else qprF S n k) = n ∧ 0 < (if S.testBit k then strp (sev k) (smF S n k) else smF S n k) ∧ 0 < (if S.testBit k then sev k ^ vp (sev k) n * qprF S n k else qprF S n k)
    split
    · have h5 := strp_mul hs.1 (smF S n k) h2
      rw [h4] at h5
      refine ⟨?_, (strp_pos' h2 hs.1).1, Nat.mul_pos (Nat.pow_pos (by omega)) h3⟩
      rw [← Nat.mul_assoc, Nat.mul_comm (strp _ _), h5]
      exact h1
    · exact ⟨h1, h2, h3⟩
theorem qprF_le {S n : Nat} : ∀ k, k ≤ 7 → 0 < qprF S n k ∧ qprF S n k ≤ qprF 127 n k ∧ (qprF S n k = qprF 127 n k → ∀ j, j < k → S.testBit j = false → vp (sev j) n = 0) := by
  intro k
  induction k with
  | zero => intro _; exact ⟨Nat.one_pos, Nat.le_refl _, fun _ j hj => absurd hj (Nat.not_lt_zero _)⟩
  | succ k ih =>
    intro hk
    obtain ⟨h1, h2, h3⟩ := ih (by omega)
    have hs := sev_2 k (by omega)
    have hp : 0 < sev k ^ vp (sev k) n := Nat.pow_pos (by omega)
    have e : qprF 127 n (k + 1) = sev k ^ vp (sev k) n * qprF 127 n k := by
      show (if Nat.testBit 127 k then sev k ^ vp (sev k) n * qprF 127 n k else qprF 127 n k) = _
      rw [if_pos (t127 k (by omega))]
    rw [e]
    by_cases q : S.testBit k = true
    · have e2 : qprF S n (k + 1) = sev k ^ vp (sev k) n * qprF S n k := by
        show (if S.testBit k then sev k ^ vp (sev k) n * qprF S n k else qprF S n k) = _
        rw [if_pos q]
      rw [e2]
      refine ⟨Nat.mul_pos hp h1, Nat.mul_le_mul_left _ h2, fun h j hj hb => ?_⟩
      have h5 := Nat.eq_of_mul_eq_mul_left hp h
      rcases Nat.lt_or_ge j k with r | r
      · exact h3 h5 j r hb
      · have : j = k := by omega
        subst this
        rw [q] at hb
        exact absurd hb (by decide)
    · have e2 : qprF S n (k + 1) = qprF S n k := by
        show (if S.testBit k then sev k ^ vp (sev k) n * qprF S n k else qprF S n k) = _
        rw [if_neg q]
      rw [e2]
      have h5 : 1 * qprF 127 n k ≤ sev k ^ vp (sev k) n * qprF 127 n k := Nat.mul_le_mul_right _ hp
      rw [Nat.one_mul] at h5
      refine ⟨h1, by omega, fun h j hj hb => ?_⟩
      have h6 : qprF S n k = qprF 127 n k := by omega
      rcases Nat.lt_or_ge j k with r | r
      · exact h3 h6 j r hb
      · have : j = k := by omega
        subst this
        by_cases z : vp (sev j) n = 0
        · exact z
        · have h7 : sev j ^ 1 ≤ sev j ^ vp (sev j) n := Nat.pow_le_pow_right (by omega) (by omega)
          rw [Nat.pow_one] at h7
          have h8 : 2 * qprF 127 n j ≤ sev j ^ vp (sev j) n * qprF 127 n j := Nat.mul_le_mul_right _ (by omega)
          omega
theorem mbF_bit (n : Nat) : ∀ k, k ≤ 7 → ∀ j, j < k → ((mbF n k).testBit j = true ↔ n % sev j = 0) := by
  intro k
  induction k with
  | zero => intro _ j hj; exact absurd hj (Nat.not_lt_zero _)
  | succ k ih =>
    intro hk j hj
    have h1 := mbF_lt n k (by omega)
    show (if n % sev k = 0 then mbF n k ||| 2 ^ k else mbF n k).testBit j = true ↔ _
    rcases Nat.lt_or_ge j k with r | r
    · have h2 := ih (by omega) j r
      split
      · rw [Nat.testBit_or, Nat.testBit_two_pow_of_ne (by omega), Bool.or_false]
        exact h2
      · exact h2
    · have : j = k := by omega
      subst this
      split
      · rename_i h
        rw [Nat.testBit_or, Nat.testBit_two_pow_self, Bool.or_true]
        exact ⟨fun _ => h, fun _ => rfl⟩
      · rename_i h
        rw [Nat.testBit_lt_two_pow h1]
        exact ⟨fun q => absurd q (by decide), fun q => absurd q h⟩
theorem bits_tab : ∀ a, a < 128 → ∀ S, S < 128 → ((∀ j, j < 7 → a.testBit j = true → S.testBit j = true) ↔ a &&& (127 - S) = 0) := by decide +kernel
theorem qprF_sub {S n : Nat} : ∀ k, (∀ j, j < k → S.testBit j = false → vp (sev j) n = 0) → k ≤ 7 → qprF S n k = qprF 127 n k := by
  intro k
  induction k with
  | zero => intro _ _; rfl
  | succ k ih =>
    intro h hk
    have h1 := ih (fun j hj => h j (by omega)) (by omega)
    show (if S.testBit k then sev k ^ vp (sev k) n * qprF S n k else qprF S n k) = (if Nat.testBit 127 k then sev k ^ vp (sev k) n * qprF 127 n k else qprF 127 n k)
    rw [if_pos (t127 k (by omega)), h1]
    by_cases q : S.testBit k = true
    · rw [if_pos q]
    · rw [if_neg q, h k (by omega) (Bool.eq_false_iff.mpr q), Nat.pow_zero, Nat.one_mul]
theorem smF_iff {S n : Nat} (hn : 0 < n) (hS : S < 128) : smF S n 7 = 1 ↔ smF 127 n 7 = 1 ∧ mb n &&& (127 - S) = 0 := by
  have a1 := smF_pr (S := S) hn 7 (by omega)
  have a2 := smF_pr (S := 127) hn 7 (by omega)
  have a3 := qprF_le (S := S) (n := n) 7 (by omega)
  rw [← bits_tab (mb n) (mb_lt n) S hS]
  constructor
  · intro h
    rw [h, Nat.one_mul] at a1
    have h1 : qprF 127 n 7 ≤ smF 127 n 7 * qprF 127 n 7 := by
      have := Nat.mul_le_mul_right (qprF 127 n 7) a2.2.1
      rw [Nat.one_mul] at this
      exact this
    have h2 : qprF S n 7 = qprF 127 n 7 := by omega
    have h3 : smF 127 n 7 * qprF 127 n 7 = 1 * qprF 127 n 7 := by rw [Nat.one_mul]; omega
    refine ⟨Nat.eq_of_mul_eq_mul_right a2.2.2 h3, fun j hj hb => ?_⟩
    by_cases q : S.testBit j = true
    · exact q
    · have h4 := a3.2.2 h2 j hj (Bool.eq_false_iff.mpr q)
      have h5 := (mbF_bit n 7 (by omega) j hj).mp hb
      have h6 := (vp_0 (sev_2 j hj).1 hn).mpr h5
      omega
  · intro h
    have h1 : qprF S n 7 = qprF 127 n 7 := qprF_sub 7 (fun j hj hb => by
      by_cases q : vp (sev j) n = 0
      · exact q
      · have h5 := (vp_0 (sev_2 j hj).1 hn).mp (by omega)
        have h6 := h.2 j hj ((mbF_bit n 7 (by omega) j hj).mpr h5)
        rw [hb] at h6
        exact absurd h6 (by decide)) (by omega)
    rw [h.1, Nat.one_mul] at a2
    have h3 : smF S n 7 * qprF S n 7 = 1 * qprF S n 7 := by rw [Nat.one_mul, a1.1, h1]; exact a2.1.symm
    exact Nat.eq_of_mul_eq_mul_right a1.2.2 h3
