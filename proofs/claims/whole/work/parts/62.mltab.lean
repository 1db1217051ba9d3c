theorem cmp_eq {a b : Int} (h : a = b) : compare a b = .eq := by
  subst h
  show (if a < a then Ordering.lt else if a = a then .eq else .gt) = _
  rw [if_neg (Int.lt_irrefl _), if_pos rfl]
theorem dcmp_fin {u : UInt64} {s c q} (h : FP.Core.decode FP.Core.b64 u.toNat = .fin s c q) : FP.dcmp u u = some .eq := by
  show FP.Core.order (FP.Core.decode FP.Core.b64 u.toNat) (FP.Core.decode FP.Core.b64 u.toNat) = _
  rw [h]
  exact congrArg some (cmp_eq rfl)
theorem vf64 {n : Nat} (h : n ≤ 9218868437227405312) : vf_n64 (UInt64.ofNat n) := by
  unfold vf_n64
  rw [UInt64.le_iff_toNat_le, UInt64.toNat_and, UInt64.toNat_ofNat_of_lt' (by show n < 18446744073709551616; omega)]
  exact Nat.le_trans Nat.and_le_left h
theorem dI_of {n : Nat} (h : n < 18446744073709551616) : dI (UInt64.ofNat n) = (n : Int) := by
  unfold dI
  rw [UInt64.toNat_ofNat_of_lt' h]
/-- bits of k / n -/
def dvN (k1 n1 : Nat) : Int := dI (FP.ddiv (FP.i2d (Int32.ofInt (k1 : Int))) (FP.i2d (Int32.ofInt (n1 : Int))))
theorem dvN_ok {k1 n1 : Nat} (h0 : 0 < k1) (h1 : k1 ≤ n1) (h2 : n1 < 262144) : vf_n64 (FP.ddiv (FP.i2d (Int32.ofInt (k1 : Int))) (FP.i2d (Int32.ofInt (n1 : Int)))) ∧ (0 ≤ dvN k1 n1 ∧ dvN k1 n1 < 9218868437227405312) ∧ ∃ c q, FP.Core.decode FP.Core.b64 (zd (dvN k1 n1)).toNat = .fin false c q := by
  obtain ⟨c, q, a1, a2, a3, a4, a5, a6⟩ := ddiv_nat h0 h1 h2
  have e := dec_enc (c := c) (q := q) a2 a3 (by omega)
  unfold dvN
  rw [a1, zd_dI, dI_of (by omega)]
  refine ⟨vf64 (by omega), by omega, c, q, ?_⟩
  rw [UInt64.toNat_ofNat_of_lt' (by show _ < 18446744073709551616; omega)]
  exact e.1
theorem cnt_pos {f : Nat → Bool} (h : f 0 = true) : ∀ n, 0 < n → 0 < cnt f n := by
  intro n
  induction n with
  | zero => intro q; omega
  | succ n ih =>
    intro _
    rcases Nat.eq_zero_or_pos n with q | q
    · subst q; unfold cnt; rw [if_pos h]; omega
    · have := ih q; unfold cnt; split <;> omega
theorem smB_1 : ∀ S, S < 128 → smB S 1 = true := by decide +kernel
def tcV (S : Nat) (n : Int) : Int := if 1 ≤ n ∧ n ≤ 200000 then dvN (smC S n.toNat) n.toNat else 0
def mlN (S : Nat) : Nat := sumF (fun k => dl (pN S k)) (prs S).length
def mlB (u : UInt32) : Bool := decide (u &&& 0x7fffffff ≤ 0x7f800000) && decide (FP.fcmp u u = some .eq)
def mlU (S : Nat) : UInt32 := FP.fdiv (FP.i2f (Int32.ofInt (mlN S : Int))) (FP.i2f (Int32.ofInt ((prs S).length : Int)))
def mlV (S : Nat) : Int := if (prs S).length = 0 then 0 else fI (mlU S)
def mlL : Nat → List pT → Nat
  | a, [] => a
  | a, t :: l => mlL (a + dl t.1) l
theorem mlL_eq : ∀ (l : List pT) (a : Nat), mlL a l = a + sumF (fun k => dl (l.getD k pD).1) l.length := by
  intro l
  induction l with
  | nil => intro a; rfl
  | cons t l ih =>
    intro a
    rw [List.length_cons, sumF_first]
    show mlL (a + dl t.1) l = a + (dl t.1 + sumF (fun k => dl (l.getD k pD).1) l.length)
    rw [ih]
    omega
def mlT (l : List pT) : Bool := l.length == 0 || mlB (FP.fdiv (FP.i2f (Int32.ofInt (mlL 0 l : Int))) (FP.i2f (Int32.ofInt (l.length : Int))))
theorem ml_tab : ∀ S, S < 128 → pop S ≤ 5 → mlT (prs S) = true := by decide +kernel
theorem mlU_ok {S : Nat} (hS : S < 128) (hp : pop S ≤ 5) (h0 : (prs S).length ≠ 0) : vf_n32 (mlU S) ∧ FP.fcmp (mlU S) (mlU S) = some .eq := by
  have h := ml_tab S hS hp
  unfold mlT at h
  rw [Bool.or_eq_true] at h
  rcases h with h | h
  · exact absurd (beq_iff_eq.mp h) h0
  · unfold mlB at h
    rw [Bool.and_eq_true] at h
    have e : mlL 0 (prs S) = mlN S := (mlL_eq (prs S) 0).trans (Nat.zero_add _)
    rw [e] at h
    have h1 : mlU S &&& 0x7fffffff ≤ 0x7f800000 := of_decide_eq_true h.1
    exact ⟨h1, of_decide_eq_true h.2⟩
