/-! ===== long numbers by digits: carries ===== -/
theorem mod_lt_pow {b : Nat} (hb : 0 < b) (v k : Nat) : v % b ^ k < b ^ k := Nat.mod_lt _ (Nat.pow_pos hb)
/-- the carry behind k digits of v * y + w -/
def cry (b v w y k : Nat) : Nat := (v % b ^ k * y + w % b ^ k) / b ^ k
theorem cry_0 (b v w y : Nat) : cry b v w y 0 = 0 := by
  unfold cry
  rw [Nat.pow_zero, Nat.mod_one, Nat.mod_one, Nat.zero_mul]
theorem cry_le {b : Nat} (hb : 0 < b) (v w y k : Nat) : cry b v w y k ≤ y := by
  unfold cry
  have h1 := mod_lt_pow hb v k
  have h2 := mod_lt_pow hb w k
  have hp : 0 < b ^ k := Nat.pow_pos hb
  have h3 : v % b ^ k * y ≤ (b ^ k - 1) * y := Nat.mul_le_mul_right y (by omega)
  have h4 : (b ^ k - 1) * y + b ^ k = b ^ k * y + (b ^ k - y) + (y - y) ∨ True := Or.inr trivial
  have h5 : (b ^ k - 1) * y + y = b ^ k * y := by
    have : (b ^ k - 1 + 1) * y = b ^ k * y := by rw [Nat.sub_add_cancel hp]
    rw [← this, Nat.add_mul, Nat.one_mul]
  have h6 : v % b ^ k * y + w % b ^ k < b ^ k * (y + 1) := by rw [Nat.mul_add, Nat.mul_one]; omega
  have := (Nat.div_lt_iff_lt_mul hp).mpr (by rw [Nat.mul_comm]; exact h6)
  omega
theorem div_shift {b X Y k : Nat} (hb : 0 < b) : (X + b ^ k * Y) / b ^ k = X / b ^ k + Y := Nat.add_mul_div_left _ _ (Nat.pow_pos hb)
/-- one digit of v * y + w -/
theorem mul_step {b : Nat} (hb : 0 < b) (v w y k : Nat) : (dg b v k * y + dg b w k + cry b v w y k) % b = dg b (v * y + w) k ∧ (dg b v k * y + dg b w k + cry b v w y k) / b = cry b v w y (k + 1) := by
  have hp : 0 < b ^ k := Nat.pow_pos hb
  have hx : v % b ^ (k + 1) * y + w % b ^ (k + 1) = (v % b ^ k * y + w % b ^ k) + b ^ k * (dg b v k * y + dg b w k) := by
    rw [mod_step, mod_step, Nat.add_mul, Nat.mul_add, Nat.mul_assoc]
    omega
  have ht : (v % b ^ (k + 1) * y + w % b ^ (k + 1)) / b ^ k = dg b v k * y + dg b w k + cry b v w y k := by
    rw [hx, div_shift hb]
    unfold cry
    omega
  have hv : v = v % b ^ (k + 1) + b ^ (k + 1) * (v / b ^ (k + 1)) := (Nat.mod_add_div _ _).symm
  have hw : w = w % b ^ (k + 1) + b ^ (k + 1) * (w / b ^ (k + 1)) := (Nat.mod_add_div _ _).symm
  have hr : v * y + w = (v % b ^ (k + 1) * y + w % b ^ (k + 1)) + b ^ k * (b * (v / b ^ (k + 1) * y + w / b ^ (k + 1))) := by
    have e1 : v * y = v % b ^ (k + 1) * y + b ^ (k + 1) * (v / b ^ (k + 1)) * y := by rw [← Nat.add_mul, ← hv]
    have e2 : b ^ k * (b * (v / b ^ (k + 1) * y + w / b ^ (k + 1))) = b ^ (k + 1) * (v / b ^ (k + 1)) * y + b ^ (k + 1) * (w / b ^ (k + 1)) := by
      rw [← Nat.mul_assoc, ← Nat.pow_succ, Nat.mul_add, Nat.mul_assoc]
    rw [e2]
    omega
  refine ⟨?_, ?_⟩
  · unfold dg
    rw [hr, div_shift hb, ht, Nat.add_mul_mod_self_left]
    rfl
  · rw [← ht, Nat.div_div_eq_div_mul, ← Nat.pow_succ]
    rfl
/-- two numbers with the same digits below n, both below b ^ n -/
theorem dg_ext {b : Nat} (hb : 0 < b) : ∀ (n v w : Nat), v < b ^ n → w < b ^ n → (∀ k, k < n → dg b v k = dg b w k) → v = w := by
  intro n
  induction n with
  | zero => intro v w h1 h2 _; simp at h1 h2; omega
  | succ n ih =>
    intro v w h1 h2 h
    have e : v % b ^ n = w % b ^ n := by
      refine ih _ _ (mod_lt_pow hb v n) (mod_lt_pow hb w n) (fun k hk => ?_)
      have a : ∀ u : Nat, dg b (u % b ^ n) k = dg b u k := by
        intro u
        unfold dg
        have e1 : b ^ n = b ^ k * (b * b ^ (n - k - 1)) := by rw [← Nat.mul_assoc, ← Nat.pow_succ, ← Nat.pow_add]; congr 1; omega
        rw [e1, Nat.mod_mul_right_div_self, Nat.mod_mul_right_mod]
      rw [a, a, h k (by omega)]
    have h3 := h n (by omega)
    have h4 := mod_step b v n
    have h5 := mod_step b w n
    rw [Nat.mod_eq_of_lt h1] at h4
    rw [Nat.mod_eq_of_lt h2] at h5
    rw [h4, h5, e, h3]
theorem dg_0 (b k : Nat) : dg b 0 k = 0 := by unfold dg; rw [Nat.zero_div, Nat.zero_mod]
theorem dg_z (b v : Nat) : dg b v 0 = v % b := by unfold dg; rw [Nat.pow_zero, Nat.div_one]
/-- a product, a row's digit: V holds what the rows ahead gave -/
theorem prod_step {b : Nat} (hb : 0 < b) {V X d w p j c : Nat} (hX : X / b ^ p = V / b ^ p + c) : (dg b V p + d * dg b w j + c) % b = dg b (X + d * dg b w j * b ^ p) p ∧ (X + d * dg b w j * b ^ p) / b ^ (p + 1) = V / b ^ (p + 1) + (dg b V p + d * dg b w j + c) / b ∧ ∀ q, q < p → dg b (X + d * dg b w j * b ^ p) q = dg b X q := by
  have e : (X + d * dg b w j * b ^ p) / b ^ p = V / b ^ p + c + d * dg b w j := by rw [Nat.mul_comm _ (b ^ p), div_shift hb, hX]
  have e2 := div_step b V p
  refine ⟨?_, ?_, fun q hq => ?_⟩
  · show _ = (X + d * dg b w j * b ^ p) / b ^ p % b
    rw [e, e2, show dg b V p + b * (V / b ^ (p + 1)) + c + d * dg b w j = dg b V p + d * dg b w j + c + b * (V / b ^ (p + 1)) by omega, Nat.add_mul_mod_self_left]
  · have e3 : (X + d * dg b w j * b ^ p) / b ^ (p + 1) = (X + d * dg b w j * b ^ p) / b ^ p / b := by rw [Nat.div_div_eq_div_mul, ← Nat.pow_succ]
    rw [e3, e, e2, show dg b V p + b * (V / b ^ (p + 1)) + c + d * dg b w j = dg b V p + d * dg b w j + c + b * (V / b ^ (p + 1)) by omega, Nat.add_mul_div_left _ _ hb]
    omega
  · have e4 : b ^ p = b ^ q * (b * b ^ (p - q - 1)) := by rw [← Nat.mul_assoc, ← Nat.pow_succ, ← Nat.pow_add]; congr 1; omega
    generalize d * dg b w j = T
    have e5 : X + T * b ^ p = X + b ^ q * (b * (T * b ^ (p - q - 1))) := by
      rw [e4]
      congr 1
      rw [← Nat.mul_assoc, Nat.mul_comm T, Nat.mul_assoc, ← Nat.mul_assoc T, Nat.mul_comm T b, Nat.mul_assoc]
    unfold dg
    rw [e5, Nat.add_mul_div_left _ _ (Nat.pow_pos hb), Nat.add_mul_mod_self_left]
/-- taking off, a digit: borrow z -/
def brw (b v w k : Nat) : Nat := if v % b ^ k < w % b ^ k then 1 else 0
theorem sub_step {b : Nat} (hb : 0 < b) {v w : Nat} (k : Nat) (h : w ≤ v) :
    (if (dg b v k : Int) - dg b w k - brw b v w k < 0 then brw b v w (k + 1) = 1 ∧ (dg b v k : Int) - dg b w k - brw b v w k + b = dg b (v - w) k else brw b v w (k + 1) = 0 ∧ (dg b v k : Int) - dg b w k - brw b v w k = dg b (v - w) k) := by
  have hp : 0 < b ^ k := Nat.pow_pos hb
  have hv := mod_step b v k
  have hw := mod_step b w k
  have h1 := mod_lt_pow hb v k
  have h2 := mod_lt_pow hb w k
  have d1 := dg_lt hb v k
  have d2 := dg_lt hb w k
  have v3 : v % b ^ (k + 1) + b ^ k * (b * (v / b ^ (k + 1))) = v := by rw [← Nat.mul_assoc, ← Nat.pow_succ]; exact Nat.mod_add_div _ _
  have w3 : w % b ^ (k + 1) + b ^ k * (b * (w / b ^ (k + 1))) = w := by rw [← Nat.mul_assoc, ← Nat.pow_succ]; exact Nat.mod_add_div _ _
  have hq : ∀ s T : Nat, s < b ^ k → v - w = s + b ^ k * T → dg b (v - w) k = T % b := by
    intro s T hs e
    unfold dg
    rw [e, div_shift hb, Nat.div_eq_of_lt hs, Nat.zero_add]
  unfold brw
  generalize b ^ (k + 1) = B1 at *
  generalize dg b v k = x at *
  generalize dg b w k = y at *
  generalize v / B1 = Q at *
  generalize w / B1 = R at *
  generalize v % b ^ k = a at *
  generalize w % b ^ k = c at *
  generalize v % B1 = a1 at *
  generalize w % B1 = c1 at *
  generalize b ^ k = p at *
  obtain ⟨z, hz, hz2⟩ : ∃ z : Nat, (if a < c then 1 else 0) = z ∧ (z = 1 ∧ a < c ∨ z = 0 ∧ c ≤ a) := by
    by_cases q : a < c
    · exact ⟨1, if_pos q, Or.inl ⟨rfl, q⟩⟩
    · exact ⟨0, if_neg q, Or.inr ⟨rfl, by omega⟩⟩
  rw [hz]
  have hs : a + p * z - c < p := by rcases hz2 with ⟨rfl, q⟩ | ⟨rfl, q⟩ <;> omega
  have hs2 : c ≤ a + p * z := by rcases hz2 with ⟨rfl, q⟩ | ⟨rfl, q⟩ <;> omega
  have key : (v : Int) - w = ((a : Int) + p * z - c) + p * (((x : Int) - y - z) + b * ((Q : Int) - R)) := by
    have e1 : (v : Int) = a + p * x + p * (b * Q) := by
      have : v = a + p * x + p * (b * Q) := by omega
      rw [this]
      simp only [Int.natCast_add, Int.natCast_mul]
    have e2 : (w : Int) = c + p * y + p * (b * R) := by
      have : w = c + p * y + p * (b * R) := by omega
      rw [this]
      simp only [Int.natCast_add, Int.natCast_mul]
    rw [e1, e2]
    simp only [Int.mul_add, Int.mul_sub]
    omega
  have hlt : (if a1 < c1 then 1 else 0) = (if (x : Int) - y - z < 0 then 1 else 0 : Nat) := by
    have e0 : a1 < c1 ↔ (x : Int) - y - z < 0 := by
      rw [hv, hw]
      rcases Nat.lt_trichotomy x y with q | q | q
      · have : p * (x + 1) ≤ p * y := Nat.mul_le_mul_left p q
        rw [Nat.mul_add, Nat.mul_one] at this
        constructor
        · intro _; omega
        · intro _; omega
      · subst q
        rcases hz2 with ⟨rfl, q⟩ | ⟨rfl, q⟩
        · constructor
          · intro _; omega
          · intro _; omega
        · constructor
          · intro _; omega
          · intro _; omega
      · have : p * (y + 1) ≤ p * x := Nat.mul_le_mul_left p q
        rw [Nat.mul_add, Nat.mul_one] at this
        constructor
        · intro _; omega
        · intro _; omega
    by_cases q : a1 < c1
    · rw [if_pos q, if_pos (e0.mp q)]
    · rw [if_neg q, if_neg (fun r => q (e0.mpr r))]
  obtain ⟨U, hU⟩ : ∃ U : Int, U = ((x : Int) - y - z) + b * ((Q : Int) - R) := ⟨_, rfl⟩
  rw [← hU] at key
  have hU0 : 0 ≤ U := by
    by_cases q : U < 0
    · have h3 : (p : Int) * U ≤ p * (-1) := Int.mul_le_mul_of_nonneg_left (by omega) (by omega)
      omega
    · omega
  obtain ⟨T, hT⟩ : ∃ T : Nat, (T : Int) = U := ⟨U.toNat, by omega⟩
  have hd := hq (a + p * z - c) T hs (by
    have : ((p * T : Nat) : Int) = p * U := by rw [Int.natCast_mul, hT]
    have e5 : ((p * z : Nat) : Int) = p * z := Int.natCast_mul _ _
    omega)
  rw [hd]
  have hm : ((T % b : Nat) : Int) = ((x : Int) - y - z) % b := by
    rw [Int.natCast_emod, hT, hU, Int.add_mul_emod_self_left]
  have hz1 : z ≤ 1 := by rcases hz2 with ⟨rfl, q⟩ | ⟨rfl, q⟩ <;> omega
  by_cases q : (x : Int) - y - z < 0
  · rw [if_pos q, hlt, if_pos q]
    refine ⟨rfl, ?_⟩
    rw [hm, ← Int.add_emod_right, Int.emod_eq_of_lt (by omega) (by omega)]
  · rw [if_neg q, hlt, if_neg q]
    refine ⟨rfl, ?_⟩
    rw [hm, Int.emod_eq_of_lt (by omega) (by omega)]
theorem brw_0 (b v w : Nat) : brw b v w 0 = 0 := by
  unfold brw
  rw [Nat.pow_zero, Nat.mod_one, Nat.mod_one]
  rfl
theorem brw_le (b v w k : Nat) : brw b v w k ≤ 1 := by unfold brw; split <;> omega
/-- rest and quotient by a small number, from the top: r is what is left of the digits from k on -/
theorem div_step_d {b : Nat} (hb : 0 < b) (v m k : Nat) (hm : 0 < m) : ((v / b ^ (k + 1) % m) * b + dg b v k) % m = v / b ^ k % m ∧ ((v / b ^ (k + 1) % m) * b + dg b v k) / m = dg b (v / m) k := by
  have e := div_step b v k
  have e2 : v / b ^ k = v / b ^ (k + 1) % m * b + dg b v k + m * (v / b ^ (k + 1) / m * b) := by
    have e3 : v / b ^ (k + 1) = v / b ^ (k + 1) % m + m * (v / b ^ (k + 1) / m) := (Nat.mod_add_div _ _).symm
    have e4 : b * (v / b ^ (k + 1)) = v / b ^ (k + 1) % m * b + m * (v / b ^ (k + 1) / m * b) := by
      rw [Nat.mul_comm, ← Nat.mul_assoc, ← Nat.add_mul, ← e3]
    omega
  refine ⟨?_, ?_⟩
  · rw [e2, Nat.add_mul_mod_self_left]
  · have e5 : v / m / b ^ k = v / b ^ k / m := by rw [Nat.div_div_eq_div_mul, Nat.div_div_eq_div_mul, Nat.mul_comm]
    have e6 : dg b (v / m) k = v / b ^ k / m % b := by unfold dg; rw [e5]
    rw [e6, e2, Nat.add_mul_div_left _ _ hm, Nat.add_mul_mod_self_right]
    refine (Nat.mod_eq_of_lt ?_).symm
    rw [Nat.div_lt_iff_lt_mul hm]
    have h1 := Nat.mod_lt (v / b ^ (k + 1)) hm
    have h2 := dg_lt hb v k
    have h3 : (v / b ^ (k + 1) % m + 1) * b ≤ m * b := Nat.mul_le_mul_right b h1
    rw [Nat.add_mul, Nat.one_mul] at h3
    rw [Nat.mul_comm b m]
    omega
theorem gw_at (G : zG) (A : Int → Int → Int) (a i : Int) : gc (gw G A) a i = A a i := rfl
