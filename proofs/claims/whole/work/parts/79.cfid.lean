/-! ===== the fraction's identity: p p - D r r by the next divisor ===== -/
theorem alg1 {D d0 d1 m1 m2 a : Int} (h1 : D = d0 * d1 + m1 * m1) (h2 : m2 = a * d1 - m1) : D - m2 * m2 = d1 * (d0 + 2 * a * m1 - a * a * d1) := by
  subst h1
  subst h2
  simp only [Int.mul_add, Int.add_mul, Int.mul_sub, Int.sub_mul]
  have e1 : a * d1 * (a * d1) = d1 * (a * a * d1) := by ac_rfl
  have e2 : a * d1 * m1 = m1 * (a * d1) := by ac_rfl
  have e3 : d1 * (2 * a * m1) = 2 * (m1 * (a * d1)) := by ac_rfl
  have e4 : d0 * d1 = d1 * d0 := by ac_rfl
  rw [e1, e2, e3, e4]
  omega
theorem alg2 (p p2 q q2 a D : Int) : (p * a + p2) * (p * a + p2) - D * ((q * a + q2) * (q * a + q2)) = a * a * (p * p - D * (q * q)) + 2 * (a * (p * p2 - D * (q * q2))) + (p2 * p2 - D * (q2 * q2)) := by grind
theorem alg3 (p p2 q q2 a D : Int) : (p * a + p2) * p - D * ((q * a + q2) * q) = a * (p * p - D * (q * q)) + (p * p2 - D * (q * q2)) := by grind
theorem cf_ex {D r R K : Nat} (h : CFok D r R K) (hr : r * r ≤ D) : ∀ k, k < K → (cf D r k).2.1 * (cf D r (k + 1)).2.1 + (cf D r (k + 1)).1 * (cf D r (k + 1)).1 = D ∧ (cf D r (k + 1)).1 + (cf D r k).1 = (cf D r k).2.1 * (cf D r k).2.2 := by
  intro k
  induction k with
  | zero =>
    intro hk
    have e : cf D r 1 = cfs D r (cf D r 0) := rfl
    have e0 : cf D r 0 = (0, 1, r) := rfl
    rw [e, e0]
    unfold cfs
    show 1 * ((D - (1 * r - 0) * (1 * r - 0)) / 1) + (1 * r - 0) * (1 * r - 0) = D ∧ (1 * r - 0) + 0 = 1 * r
    rw [Nat.one_mul, Nat.sub_zero, Nat.div_one, Nat.one_mul]
    exact ⟨Nat.sub_add_cancel hr, rfl⟩
  | succ k ih =>
    intro hk
    obtain ⟨i1, i2⟩ := ih (by omega)
    have hg := of_decide_eq_true (h.1 (k + 1) hk)
    have e : cf D r (k + 1 + 1) = cfs D r (cf D r (k + 1)) := rfl
    obtain ⟨g1, g2, g3, g4, g5, g6⟩ := hg
    have hm2 : (cf D r (k + 1 + 1)).1 + (cf D r (k + 1)).1 = (cf D r (k + 1)).2.1 * (cf D r (k + 1)).2.2 := by
      rw [e]
      show (cf D r (k + 1)).2.1 * (cf D r (k + 1)).2.2 - (cf D r (k + 1)).1 + (cf D r (k + 1)).1 = _
      exact Nat.sub_add_cancel g4
    refine ⟨?_, hm2⟩
    have hle : (cf D r (k + 1 + 1)).1 * (cf D r (k + 1 + 1)).1 ≤ D := g5
    have hd2 : (cf D r (k + 1 + 1)).2.1 = (D - (cf D r (k + 1 + 1)).1 * (cf D r (k + 1 + 1)).1) / (cf D r (k + 1)).2.1 := rfl
    rw [hd2]
    generalize (cf D r (k + 1 + 1)).1 = m2 at *
    generalize (cf D r (k + 1)).1 = m1 at *
    generalize (cf D r (k + 1)).2.1 = d1 at *
    generalize (cf D r (k + 1)).2.2 = a1 at *
    generalize (cf D r k).2.1 = d0 at *
    have hdv : d1 ∣ D - m2 * m2 := by
      have h1 := alg1 (D := (D : Int)) (d0 := d0) (d1 := d1) (m1 := m1) (m2 := m2) (a := a1) (by rw [← i1]; simp only [Int.natCast_add, Int.natCast_mul]) (by have h9 := congrArg (Nat.cast (R := Int)) hm2; simp only [Int.natCast_add, Int.natCast_mul] at h9; rw [Int.mul_comm]; omega)
      apply Int.natCast_dvd_natCast.mp
      rw [Int.natCast_sub hle, Int.natCast_mul]
      exact ⟨_, h1⟩
    rw [Nat.mul_div_cancel' hdv]
    exact Nat.sub_add_cancel hle
def sgn (k : Nat) : Int := if k % 2 = 0 then 1 else -1
theorem sgn_s (k : Nat) : sgn (k + 1) = -sgn k := by
  unfold sgn
  split <;> split <;> omega
theorem ns_id {D r R K : Nat} (h : CFok D r R K) (hr : r * r ≤ D) : ∀ k, k + 1 < K → ((ns D r k).1 : Int) * (ns D r k).1 - D * (((ns D r k).2.2.1 : Int) * (ns D r k).2.2.1) = -sgn k * ((cf D r (k + 1)).2.1 : Int) ∧ ((ns D r k).1 : Int) * (ns D r k).2.1 - D * (((ns D r k).2.2.1 : Int) * (ns D r k).2.2.2) = sgn k * ((cf D r (k + 1)).1 : Int) ∧ ((ns D r k).2.1 : Int) * (ns D r k).2.1 - D * (((ns D r k).2.2.2 : Int) * (ns D r k).2.2.2) = sgn k * ((cf D r k).2.1 : Int) := by
  intro k
  induction k with
  | zero =>
    intro hk
    obtain ⟨i1, i2⟩ := cf_ex h hr 0 (by omega)
    have e0 : cf D r 0 = (0, 1, r) := rfl
    rw [e0] at i1 i2
    have hm : (cf D r (0 + 1)).1 = r := by have q : (cf D r (0 + 1)).1 + 0 = 1 * r := i2; omega
    have hd : 1 * (cf D r (0 + 1)).2.1 + (cf D r (0 + 1)).1 * (cf D r (0 + 1)).1 = D := i1
    rw [hm] at hd ⊢
    rw [e0]
    have hd2 := congrArg (Nat.cast (R := Int)) hd
    simp only [Int.natCast_add, Int.natCast_mul] at hd2
    show (r : Int) * r - D * (1 * 1) = -1 * ((cf D r (0 + 1)).2.1 : Int) ∧ (r : Int) * 1 - D * (1 * 0) = 1 * (r : Int) ∧ (1 : Int) * 1 - D * (0 * 0) = 1 * 1
    refine ⟨?_, by omega, by omega⟩
    rw [Int.one_mul, Int.mul_one]
    have : ((1 : Nat) : Int) * ((cf D r (0 + 1)).2.1 : Int) = ((cf D r (0 + 1)).2.1 : Int) := Int.one_mul _
    omega
  | succ k ih =>
    intro hk
    obtain ⟨h1, h2, h3⟩ := ih (by omega)
    obtain ⟨i1, i2⟩ := cf_ex h hr k (by omega)
    obtain ⟨j1, j2⟩ := cf_ex h hr (k + 1) (by omega)
    have hg := of_decide_eq_true (h.1 (k + 1) (by omega))
    have hd1 : 0 < (cf D r (k + 1)).2.1 := hg.1
    have e1 : (ns D r (k + 1)).1 = (ns D r k).1 * (cf D r (k + 1)).2.2 + (ns D r k).2.1 := rfl
    have e2 : (ns D r (k + 1)).2.2.1 = (ns D r k).2.2.1 * (cf D r (k + 1)).2.2 + (ns D r k).2.2.2 := rfl
    have e3 : (ns D r (k + 1)).2.1 = (ns D r k).1 := rfl
    have e4 : (ns D r (k + 1)).2.2.2 = (ns D r k).2.2.1 := rfl
    rw [e1, e2, e3, e4, sgn_s]
    simp only [Int.natCast_add, Int.natCast_mul]
    rw [alg2, alg3, h1, h2, h3]
    have a1 := congrArg (Nat.cast (R := Int)) i1
    have a2 := congrArg (Nat.cast (R := Int)) j1
    have a3 := congrArg (Nat.cast (R := Int)) j2
    simp only [Int.natCast_add, Int.natCast_mul] at a1 a2 a3
    have hal := alg1 (D := (D : Int)) (d0 := (cf D r k).2.1) (d1 := (cf D r (k + 1)).2.1) (m1 := (cf D r (k + 1)).1) (m2 := (cf D r (k + 1 + 1)).1) (a := (cf D r (k + 1)).2.2) a1.symm (by rw [Int.mul_comm]; omega)
    have hd2 : ((cf D r (k + 1 + 1)).2.1 : Int) = (cf D r k).2.1 + 2 * (cf D r (k + 1)).2.2 * (cf D r (k + 1)).1 - (cf D r (k + 1)).2.2 * (cf D r (k + 1)).2.2 * (cf D r (k + 1)).2.1 := by
      have h5 : ((cf D r (k + 1)).2.1 : Int) * (cf D r (k + 1 + 1)).2.1 = ((cf D r (k + 1)).2.1 : Int) * ((cf D r k).2.1 + 2 * (cf D r (k + 1)).2.2 * (cf D r (k + 1)).1 - (cf D r (k + 1)).2.2 * (cf D r (k + 1)).2.2 * (cf D r (k + 1)).2.1) := by rw [← hal]; omega
      exact Int.eq_of_mul_eq_mul_left (by omega) h5
    refine ⟨?_, ?_, ?_⟩
    · rw [hd2]; generalize sgn k = s; grind
    · have h6 : ((cf D r (k + 1 + 1)).1 : Int) = (cf D r (k + 1)).2.1 * (cf D r (k + 1)).2.2 - (cf D r (k + 1)).1 := by omega
      rw [h6]; generalize sgn k = s; grind
    · rfl
