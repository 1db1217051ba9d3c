/-! ===== powers of a unit ===== -/
def xp (u : Nat) : Nat → Nat
  | 0 => 1
  | 1 => u
  | i + 2 => 2 * u * xp u (i + 1) - xp u i
def xq (u : Nat) (k : Nat) : Nat := if k = 0 then u else xp u (k - 1)
theorem xp_mono {u : Nat} (hu : 1 ≤ u) : ∀ i, xp u i ≤ xp u (i + 1) := by
  intro i
  induction i with
  | zero => exact hu
  | succ i ih =>
    show xp u (i + 1) ≤ 2 * u * xp u (i + 1) - xp u i
    have h1 : 2 * 1 * xp u (i + 1) ≤ 2 * u * xp u (i + 1) := Nat.mul_le_mul_right _ (by omega)
    omega
theorem xp_step {u : Nat} (hu : 1 ≤ u) (k : Nat) : xp u (k + 1) + xq u k = 2 * u * xp u k := by
  cases k with
  | zero => show u + u = 2 * u * 1; omega
  | succ k =>
    have h := xp_mono hu k
    have h1 : 2 * 1 * xp u (k + 1) ≤ 2 * u * xp u (k + 1) := Nat.mul_le_mul_right _ (by omega)
    show 2 * u * xp u (k + 1) - xp u k + xp u k = _
    omega
theorem tm_adj {t m : Int} (hm : 0 < m) : (t.tmod m < 0 → t.tmod m + m = t % m) ∧ (¬ t.tmod m < 0 → t.tmod m = t % m) := by
  have h1 := Int.emod_nonneg t (show m ≠ 0 by omega)
  have h2 := Int.emod_lt_of_pos t hm
  have h3 := Int.mul_tdiv_add_tmod t m
  have h4 := Int.mul_ediv_add_emod t m
  have h5 := Int.lt_tmod_of_pos t hm
  have h6 := Int.tmod_lt_of_pos t hm
  have h7 : m * (t / m) - m * (t.tdiv m) = m * (t / m - t.tdiv m) := (Int.mul_sub _ _ _).symm
  obtain ⟨z, hz⟩ : ∃ z, z = t / m - t.tdiv m := ⟨_, rfl⟩
  rw [← hz] at h7
  have h8 : t.tmod m - t % m = m * z := by omega
  have hzz : z = 0 ∨ z = -1 := by
    rcases Int.lt_trichotomy z (-1) with q | q | q
    · have : m * z ≤ m * (-2) := Int.mul_le_mul_of_nonneg_left (by omega) (by omega)
      omega
    · exact Or.inr q
    · by_cases q0 : z = 0
      · exact Or.inl q0
      · have : m * 1 ≤ m * z := Int.mul_le_mul_of_nonneg_left (by omega) (by omega)
        omega
  rcases hzz with rfl | rfl
  · constructor
    · intro q; omega
    · intro q; omega
  · constructor
    · intro q; omega
    · intro q; omega
theorem xp_mod {u m k : Nat} (hu : 1 ≤ u) (hm : 0 < m) : (2 * ((u % m : Nat) : Int) * ((xp u k % m : Nat) : Int) - ((xq u k % m : Nat) : Int)) % (m : Int) = ((xp u (k + 1) % m : Nat) : Int) := by
  have h := xp_step hu k
  have h1 : (xp u (k + 1) : Int) = 2 * u * xp u k - xq u k := by
    have : ((xp u (k + 1) + xq u k : Nat) : Int) = ((2 * u * xp u k : Nat) : Int) := by rw [h]
    simp only [Int.natCast_add, Int.natCast_mul] at this
    rw [show ((2 : Nat) : Int) = 2 from rfl] at this
    omega
  rw [Int.natCast_emod (xp u (k + 1)), h1]
  simp only [Int.natCast_emod]
  generalize (u : Int) = a
  generalize (xp u k : Int) = b
  generalize (xq u k : Int) = c
  generalize (m : Int) = n
  have e1 := Int.mul_ediv_add_emod a n
  have e2 := Int.mul_ediv_add_emod b n
  have e3 := Int.mul_ediv_add_emod c n
  have key : 2 * a * b - c = 2 * (a % n) * (b % n) - c % n + n * (2 * (a / n) * b + 2 * (a % n) * (b / n) - c / n) := by
    grind
  rw [key, Int.add_mul_emod_self_left]
