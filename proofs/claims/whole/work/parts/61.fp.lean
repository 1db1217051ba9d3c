/-! ===== doubles: quotients of whole numbers, doubling, what is exact ===== -/
section ZFP
theorem b64_tails : FP.Core.b64.tails = 4503599627370496 := by decide
theorem b64_exps : FP.Core.b64.exps = 2048 := by decide
theorem b64_qmin : FP.Core.b64.qmin = -1074 := by decide
theorem b64_qmax : FP.Core.b64.qmax = 971 := by decide
theorem b64_p : FP.Core.b64.p = 53 := rfl
theorem enc64 {c : Nat} {q : Int} (h1 : 4503599627370496 ≤ c) (h2 : c < 9007199254740992) (h3 : -1074 ≤ q) : FP.Core.encode FP.Core.b64 (.fin false c q) = ((q + 1074).toNat + 1) * 4503599627370496 + (c - 4503599627370496) := by
  unfold FP.Core.encode
  show (if c < FP.Core.b64.tails then _ else _) = _
  rw [b64_tails, if_neg (by omega), b64_qmin]
  unfold FP.Core.assemble
  rw [b64_tails, b64_exps]
  rw [show (q - -1074).toNat = (q + 1074).toNat by congr 1]
  show (0 * 2048 + ((q + 1074).toNat + 1)) * 4503599627370496 + (c - 4503599627370496) = _
  rw [Nat.zero_mul, Nat.zero_add]
theorem dec64 {n e1 t1 : Nat} (h1 : n = e1 * 4503599627370496 + t1) (h2 : t1 < 4503599627370496) (h3 : 1 ≤ e1 ∧ e1 ≤ 2046) : FP.Core.decode FP.Core.b64 n = .fin false (4503599627370496 + t1) ((e1 : Int) - 1075) := by
  have e2 : FP.Core.fieldE FP.Core.b64 n = e1 := by unfold FP.Core.fieldE; rw [b64_tails, b64_exps]; omega
  have e3 : FP.Core.fieldT FP.Core.b64 n = t1 := by unfold FP.Core.fieldT; rw [b64_tails]; omega
  have e4 : FP.Core.fieldS FP.Core.b64 n = false := by
    unfold FP.Core.fieldS
    rw [b64_tails, b64_exps]
    have : n / 4503599627370496 / 2048 % 2 = 0 := by omega
    rw [this]
    rfl
  unfold FP.Core.decode
  rw [e2, e3, e4, b64_exps, b64_tails, b64_qmin, if_neg (by omega), if_neg (by omega)]
  congr 1
  omega
theorem dec_enc {c : Nat} {q : Int} (h1 : 4503599627370496 ≤ c) (h2 : c < 9007199254740992) (h3 : -1074 ≤ q ∧ q ≤ 971) : FP.Core.decode FP.Core.b64 (FP.Core.encode FP.Core.b64 (.fin false c q)) = .fin false c q ∧ FP.Core.encode FP.Core.b64 (.fin false c q) < 9218868437227405312 := by
  rw [enc64 h1 h2 h3.1]
  refine ⟨?_, by omega⟩
  rw [dec64 rfl (by omega) (by omega), show 4503599627370496 + (c - 4503599627370496) = c by omega, show (((q + 1074).toNat + 1 : Nat) : Int) - 1075 = q by omega]
theorem nearest1 {c : Nat} : FP.Core.nearest c 1 = c := by
  unfold FP.Core.nearest
  rw [Nat.mod_one, if_pos (by decide), Nat.div_one]
theorem nearestD {c D1 : Nat} (h : 0 < D1) : FP.Core.nearest (c * D1) D1 = c := by
  unfold FP.Core.nearest
  rw [Nat.mul_mod_left, if_pos (by omega), Nat.mul_div_cancel _ h]
theorem log2_is {A1 l1 : Nat} (h1 : 2 ^ l1 ≤ A1) (h2 : A1 < 2 ^ (l1 + 1)) : A1.log2 = l1 := by
  have h0 : A1 ≠ 0 := by have := Nat.two_pow_pos l1; omega
  have a1 : A1.log2 < l1 + 1 := (Nat.log2_lt h0).mpr h2
  have a2 : ¬ A1.log2 < l1 := fun q => by have := (Nat.log2_lt h0).mp q; omega
  omega
theorem settle64 {c : Nat} {q : Int} (h : c < 9007199254740992) (hq : q ≤ 971) : FP.Core.settle FP.Core.b64 false c q = .fin false c q := by
  unfold FP.Core.settle FP.Core.bound
  rw [b64_p, b64_qmax, show 2 ^ 53 = 9007199254740992 by decide, if_pos h, if_pos hq]
theorem rr1 {A1 l1 c : Nat} {e1 : Int} (h1 : 2 ^ l1 ≤ A1) (h2 : A1 < 2 ^ (l1 + 1)) (hq : -1074 ≤ e1 + l1 - 52 ∧ e1 + l1 - 52 ≤ 971) (hc : (l1 ≤ 52 ∧ c = A1 * 2 ^ (52 - l1)) ∨ (52 < l1 ∧ A1 = c * 2 ^ (l1 - 52))) : FP.Core.roundRatio FP.Core.b64 false A1 1 e1 = .fin false c (e1 + l1 - 52) ∧ 4503599627370496 ≤ c ∧ c < 9007199254740992 := by
  have hp := Nat.two_pow_pos l1
  have hlead : FP.Core.leading A1 1 = (l1 : Int) := by
    unfold FP.Core.leading
    rw [log2_is h1 h2, show Nat.log2 1 = 0 by decide]
    show (if 1 * 2 ^ ((l1 : Int) - ((0 : Nat) : Int)).toNat ≤ A1 * 2 ^ (-((l1 : Int) - ((0 : Nat) : Int))).toNat then (l1 : Int) - ((0 : Nat) : Int) else (l1 : Int) - ((0 : Nat) : Int) - 1) = _
    rw [show ((l1 : Int) - ((0 : Nat) : Int)).toNat = l1 by omega, show (-((l1 : Int) - ((0 : Nat) : Int))).toNat = 0 by omega, if_pos (by omega)]
    omega
  have hqu : FP.Core.quantum FP.Core.b64 A1 1 e1 = e1 + l1 - 52 := by
    unfold FP.Core.quantum
    rw [hlead, b64_qmin, b64_p]
    omega
  have hc2 : 4503599627370496 ≤ c ∧ c < 9007199254740992 := by
    rcases hc with ⟨a1, a2⟩ | ⟨a1, a2⟩
    · have b1 : 2 ^ l1 * 2 ^ (52 - l1) ≤ c := by rw [a2]; exact Nat.mul_le_mul_right _ h1
      have b2 : c < 2 ^ (l1 + 1) * 2 ^ (52 - l1) := by rw [a2]; exact Nat.mul_lt_mul_of_pos_right h2 (Nat.two_pow_pos _)
      rw [← Nat.pow_add, show l1 + (52 - l1) = 52 by omega] at b1
      rw [← Nat.pow_add, show l1 + 1 + (52 - l1) = 53 by omega] at b2
      exact ⟨b1, b2⟩
    · have b0 := Nat.two_pow_pos (l1 - 52)
      have b1 : 2 ^ 52 * 2 ^ (l1 - 52) ≤ c * 2 ^ (l1 - 52) := by rw [← Nat.pow_add, show 52 + (l1 - 52) = l1 by omega, ← a2]; exact h1
      have b2 : c * 2 ^ (l1 - 52) < 2 ^ 53 * 2 ^ (l1 - 52) := by rw [← Nat.pow_add, show 53 + (l1 - 52) = l1 + 1 by omega, ← a2]; exact h2
      exact ⟨Nat.le_of_mul_le_mul_right b1 b0, Nat.lt_of_mul_lt_mul_right b2⟩
  refine ⟨?_, hc2⟩
  unfold FP.Core.roundRatio FP.Core.roundAt FP.Core.unitsNum FP.Core.unitsDen
  rw [if_neg (by omega), hqu]
  have hn : FP.Core.nearest (A1 * 2 ^ (e1 - (e1 + l1 - 52)).toNat) (1 * 2 ^ (e1 + l1 - 52 - e1).toNat) = c := by
    rcases hc with ⟨a1, a2⟩ | ⟨a1, a2⟩
    · rw [show (e1 - (e1 + l1 - 52)).toNat = 52 - l1 by omega, show (e1 + l1 - 52 - e1).toNat = 0 by omega, ← a2]
      exact nearest1
    · rw [show (e1 - (e1 + l1 - 52)).toNat = 0 by omega, show (e1 + l1 - 52 - e1).toNat = l1 - 52 by omega, Nat.pow_zero, Nat.mul_one, Nat.one_mul, a2]
      exact nearestD (Nat.two_pow_pos _)
  rw [hn]
  exact settle64 hc2.2 hq.2
theorem i2d_nat {k1 : Nat} (h0 : 0 < k1) (h : k1 < 262144) : ∃ c l1 : Nat, FP.Core.decode FP.Core.b64 (FP.i2d (Int32.ofInt (k1 : Int))).toNat = .fin false c ((l1 : Int) - 52) ∧ 4503599627370496 ≤ c ∧ c < 9007199254740992 ∧ l1 ≤ 17 ∧ c = k1 * 2 ^ (52 - l1) ∧ 2 ^ l1 ≤ k1 ∧ k1 < 2 ^ (l1 + 1) := by
  have a1 : 2 ^ k1.log2 ≤ k1 := Nat.log2_self_le (by omega)
  have a2 : k1 < 2 ^ (k1.log2 + 1) := Nat.lt_log2_self
  have a3 : k1.log2 < 18 := (Nat.log2_lt (by omega)).mpr h
  have r1 := rr1 (c := k1 * 2 ^ (52 - k1.log2)) (e1 := 0) a1 a2 (by omega) (Or.inl ⟨by omega, rfl⟩)
  refine ⟨k1 * 2 ^ (52 - k1.log2), k1.log2, ?_, r1.2.1, r1.2.2, by omega, rfl, a1, a2⟩
  have e0 : (Int32.ofInt (k1 : Int)).toInt = (k1 : Int) := Int32.toInt_ofInt_of_le (by omega) (by omega)
  have e1 : FP.Core.fromInt FP.Core.b64 (k1 : Int) = FP.Core.encode FP.Core.b64 (.fin false (k1 * 2 ^ (52 - k1.log2)) ((k1.log2 : Int) - 52)) := by
    unfold FP.Core.fromInt FP.Core.round FP.Core.ofInt
    rw [show decide ((k1 : Int) < 0) = false from decide_eq_false (by omega), Int.natAbs_natCast]
    show FP.Core.encode FP.Core.b64 (FP.Core.roundRatio FP.Core.b64 false k1 1 0) = _
    rw [r1.1, show (0 : Int) + (k1.log2 : Int) - 52 = (k1.log2 : Int) - 52 by omega]
  have e2 := dec_enc (q := (k1.log2 : Int) - 52) r1.2.1 r1.2.2 (by omega)
  show FP.Core.decode FP.Core.b64 (UInt64.ofNat (FP.Core.fromInt FP.Core.b64 (Int32.ofInt (k1 : Int)).toInt)).toNat = _
  rw [e0, e1, UInt64.toNat_ofNat_of_lt' (by have := e2.2; show _ < 18446744073709551616; omega)]
  exact e2.1
/-- a quotient k / n up to 1 -/
theorem ddiv_nat {k1 n1 : Nat} (h0 : 0 < k1) (h1 : k1 ≤ n1) (h2 : n1 < 262144) : ∃ (c : Nat) (q : Int), FP.ddiv (FP.i2d (Int32.ofInt (k1 : Int))) (FP.i2d (Int32.ofInt (n1 : Int))) = UInt64.ofNat (FP.Core.encode FP.Core.b64 (.fin false c q)) ∧ 4503599627370496 ≤ c ∧ c < 9007199254740992 ∧ -71 ≤ q ∧ q ≤ -52 ∧ (q = -52 → c = 4503599627370496) := by
  obtain ⟨c1, l1, a1, a2, a3, a4, a5, a6, a7⟩ := i2d_nat h0 (by omega)
  obtain ⟨c2, l2, b1, b2, b3, b4, b5, b6, b7⟩ := i2d_nat (k1 := n1) (by omega) h2
  have hl : l1 ≤ l2 := by
    rcases Nat.lt_or_ge l2 l1 with q | q
    · have := Nat.pow_le_pow_right (show 0 < 2 by decide) (show l2 + 1 ≤ l1 by omega); omega
    · exact q
  have hcc : l1 = l2 → c1 ≤ c2 := fun q => by rw [a5, b5, q]; exact Nat.mul_le_mul_right _ h1
  have hd : FP.ddiv (FP.i2d (Int32.ofInt (k1 : Int))) (FP.i2d (Int32.ofInt (n1 : Int))) = UInt64.ofNat (FP.Core.encode FP.Core.b64 (FP.Core.roundRatio FP.Core.b64 false c1 c2 ((l1 : Int) - 52 - ((l2 : Int) - 52)))) := by
    show UInt64.ofNat (FP.Core.encode FP.Core.b64 (FP.Core.quotient FP.Core.b64 (FP.Core.decode FP.Core.b64 _) (FP.Core.decode FP.Core.b64 _))) = _
    rw [a1, b1]
    unfold FP.Core.quotient
    show UInt64.ofNat (FP.Core.encode FP.Core.b64 (if c2 = 0 then _ else _)) = _
    rw [if_neg (by omega)]
    rfl
  have hlog1 : c1.log2 = 52 := log2_is a2 a3
  have hlog2 : c2.log2 = 52 := log2_is b2 b3
  have hlead : FP.Core.leading c1 c2 = (if c2 ≤ c1 then 0 else -1 : Int) := by
    unfold FP.Core.leading
    rw [hlog1, hlog2]
    by_cases hle : c2 ≤ c1
    · rw [if_pos hle]; exact if_pos (show c2 * 2 ^ 0 ≤ c1 * 2 ^ 0 by omega)
    · rw [if_neg hle]; exact if_neg (show ¬ c2 * 2 ^ 0 ≤ c1 * 2 ^ 0 by omega)
  obtain ⟨q0, hq0⟩ : ∃ q0 : Int, q0 = (if c2 ≤ c1 then 0 else -1 : Int) + ((l1 : Int) - l2) - 52 := ⟨_, rfl⟩
  have hqb : -70 ≤ q0 ∧ q0 ≤ -52 := by rw [hq0]; split <;> omega
  have hqu : FP.Core.quantum FP.Core.b64 c1 c2 ((l1 : Int) - 52 - ((l2 : Int) - 52)) = q0 := by
    unfold FP.Core.quantum
    rw [hlead, b64_qmin, b64_p]
    omega
  have hnn : ∃ m1 : Nat, FP.Core.nearest (FP.Core.unitsNum c1 ((l1 : Int) - 52 - ((l2 : Int) - 52)) q0) (FP.Core.unitsDen c2 ((l1 : Int) - 52 - ((l2 : Int) - 52)) q0) = m1 ∧ 4503599627370496 ≤ m1 ∧ m1 ≤ 9007199254740992 ∧ (q0 = -52 → m1 = 4503599627370496) := by
    refine ⟨_, rfl, ?_⟩
    have e1 : ((l1 : Int) - 52 - ((l2 : Int) - 52) - q0).toNat = if c2 ≤ c1 then 52 else 53 := by rw [hq0]; split <;> omega
    have e2 : (q0 - ((l1 : Int) - 52 - ((l2 : Int) - 52))).toNat = 0 := by rw [hq0]; split <;> omega
    unfold FP.Core.unitsNum FP.Core.unitsDen
    rw [e1, e2, Nat.pow_zero, Nat.mul_one]
    by_cases hle : c2 ≤ c1
    · rw [if_pos hle]
      have d1 : 4503599627370496 ≤ c1 * 2 ^ 52 / c2 := (Nat.le_div_iff_mul_le (by omega)).mpr (by show 4503599627370496 * c2 ≤ c1 * 4503599627370496; omega)
      have d2 : c1 * 2 ^ 52 / c2 < 9007199254740992 := (Nat.div_lt_iff_lt_mul (by omega)).mpr (by show c1 * 4503599627370496 < 9007199254740992 * c2; omega)
      refine ⟨?_, ?_, fun q => ?_⟩
      · unfold FP.Core.nearest; split; exact d1; split <;> omega
      · unfold FP.Core.nearest; split; omega; split <;> omega
      · have d3 : c1 = c2 := by
          rw [hq0, if_pos hle] at q
          have := hcc (by omega)
          omega
        rw [d3, Nat.mul_comm]
        exact nearestD (by omega)
    · rw [if_neg hle]
      have d1 : 4503599627370496 ≤ c1 * 2 ^ 53 / c2 := (Nat.le_div_iff_mul_le (by omega)).mpr (by show 4503599627370496 * c2 ≤ c1 * 9007199254740992; omega)
      have d2 : c1 * 2 ^ 53 / c2 < 9007199254740992 := (Nat.div_lt_iff_lt_mul (by omega)).mpr (by show c1 * 9007199254740992 < 9007199254740992 * c2; omega)
      refine ⟨?_, ?_, fun q => ?_⟩
      · unfold FP.Core.nearest; split; exact d1; split <;> omega
      · unfold FP.Core.nearest; split; omega; split <;> omega
      · rw [hq0, if_neg hle] at q; omega
  obtain ⟨m1, g1, g2, g3, g4⟩ := hnn
  have hrr : FP.Core.roundRatio FP.Core.b64 false c1 c2 ((l1 : Int) - 52 - ((l2 : Int) - 52)) = FP.Core.settle FP.Core.b64 false m1 q0 := by
    unfold FP.Core.roundRatio FP.Core.roundAt
    rw [if_neg (by omega), hqu, g1]
  rw [hd, hrr]
  by_cases hm : m1 < 9007199254740992
  · refine ⟨m1, q0, by rw [settle64 hm (by omega)], g2, hm, by omega, by omega, g4⟩
  · refine ⟨4503599627370496, q0 + 1, ?_, by decide, by decide, by omega, ?_, fun _ => rfl⟩
    · unfold FP.Core.settle FP.Core.bound
      rw [b64_p, b64_qmax, b64_tails, show 2 ^ 53 = 9007199254740992 by decide, if_neg hm, if_pos (by omega)]
    · by_cases q : q0 = -52
      · have := g4 q; omega
      · omega
end ZFP
