def pcG (S : Nat) (wh : Int) (c a : Nat) : Bool := suT S wh a (c - a) && decide (2 * a ≤ c)
def pcN (S : Nat) (wh : Int) (c : Nat) : Nat := cnt (fun a => pcG S wh c (a + 1)) c
theorem sumF_congr' {f g : Nat → Nat} : ∀ n, (∀ k, k < n → f k = g k) → sumF f n = sumF g n := by
  intro n
  induction n with
  | zero => intro _; rfl
  | succ n ih =>
    intro h
    show sumF f n + f n = sumF g n + g n
    rw [ih (fun k hk => h k (by omega)), h n (by omega)]
theorem sumF_ind {f : Nat → Nat} {g : Nat → Bool} : ∀ n, sumF (fun k => f k + (if g k = true then 1 else 0)) n = sumF f n + cnt g n := by
  intro n
  induction n with
  | zero => rfl
  | succ n ih =>
    show sumF (fun k => f k + (if g k = true then 1 else 0)) n + (f n + (if g n = true then 1 else 0)) = sumF f n + f n + (if g n = true then cnt g n + 1 else cnt g n)
    rw [ih]
    split <;> omega
theorem suC_step {S : Nat} {wh : Int} {u a : Nat} : suC S wh (u + 1) a = suC S wh u a + (if pcG S wh (u + 1) (a + 1) = true then 1 else 0) := by
  unfold suC pcG
  by_cases q : 2 * (a + 1) ≤ u + 1
  · have e : u + 1 + 1 - 2 * (a + 1) = (u + 1 - 2 * (a + 1)) + 1 := by omega
    rw [e, decide_eq_true q, Bool.and_true]
    show (if suT S wh (a + 1) (a + 1 + (u + 1 - 2 * (a + 1))) = true then _ + 1 else _) = _
    rw [show a + 1 + (u + 1 - 2 * (a + 1)) = u + 1 - (a + 1) by omega]
    split <;> rfl
  · have e : u + 1 + 1 - 2 * (a + 1) = 0 := by omega
    have e2 : u + 1 - 2 * (a + 1) = 0 := by omega
    rw [e, e2, decide_eq_false q, Bool.and_false]
    rfl
theorem ss_sum {S : Nat} {wh : Int} : ∀ u, sumF (suC S wh u) u = sumF (pcN S wh) (u + 1) := by
  intro u
  induction u with
  | zero => rfl
  | succ u ih =>
    have e1 : sumF (suC S wh (u + 1)) (u + 1) = sumF (fun a => suC S wh u a + (if pcG S wh (u + 1) (a + 1) = true then 1 else 0)) (u + 1) := sumF_congr' (u + 1) (fun k _ => suC_step)
    rw [e1, sumF_ind]
    have e2 : sumF (suC S wh u) (u + 1) = sumF (suC S wh u) u + suC S wh u u := rfl
    have e3 : suC S wh u u = 0 := by
      unfold suC
      rw [show u + 1 - 2 * (u + 1) = 0 by omega]
      rfl
    rw [e2, e3, ih]
    rfl
theorem cnt_ext {f : Nat → Bool} {a b : Nat} (hab : a ≤ b) (h : ∀ x, a ≤ x → x < b → ¬ f x = true) : cnt f b = cnt f a := by
  induction b with
  | zero => have : a = 0 := by omega
            subst this; rfl
  | succ b ih =>
    rcases Nat.eq_or_lt_of_le hab with q | q
    · subst q; rfl
    · show (if f b = true then cnt f b + 1 else cnt f b) = cnt f a
      rw [if_neg (h b (by omega) (Nat.lt_succ_self b))]
      exact ih (by omega) (fun x h1 h2 => h x h1 (by omega))
theorem cnt_zero {f : Nat → Bool} {b : Nat} (h : ∀ x, x < b → ¬ f x = true) : cnt f b = 0 := cnt_ext (a := 0) (Nat.zero_le _) (fun x _ hx => h x hx)
theorem cnt_one {f : Nat → Bool} {y b : Nat} (hy : y < b) (h1 : f y = true) (h : ∀ x, x < b → x ≠ y → ¬ f x = true) : cnt f b = 1 := by
  rw [cnt_ext (a := y + 1) (by omega) (fun x a c => h x c (by omega))]
  show (if f y = true then cnt f y + 1 else cnt f y) = 1
  rw [if_pos h1, cnt_zero (fun x hx => h x (by omega) (by omega))]
/-- what the first i rows bring to the number c -/
def qcN (S : Nat) (wh : Int) (w : Nat → Nat) (i c : Nat) : Nat := cnt (fun x => pcG S wh c (w x)) i
def rcB (S : Nat) (wh : Int) (w : Nat → Nat) (i c y : Nat) : Bool := decide (i ≤ y ∧ w i + w y = c) && suT S wh (w i) (w y)
def rcN (S : Nat) (wh : Int) (w : Nat → Nat) (i j c : Nat) : Nat := cnt (rcB S wh w i c) j
theorem suT_1 {S : Nat} {wh : Int} {a b : Nat} (h : suT S wh a b = true) : smB S a = true ∧ smB S b = true := by
  unfold suT at h
  rw [Bool.and_eq_true, Bool.and_eq_true, Bool.and_eq_true, Bool.and_eq_true] at h
  exact h.1.1.1
theorem pc_qc {S : Nat} {wh : Int} {w : Nat → Nat} {M : Nat} (h : SL S w M) {c i : Nat} (hc : c ≤ 200000) (hi : i ≤ M) (hout : ∀ x, i ≤ x → x < M → c < 2 * w x) : pcN S wh c = qcN S wh w i c := by
  obtain ⟨j, j1, j2, j3⟩ := h.pos c M (Nat.le_refl _)
  have e1 := cntW (g := fun n => pcG S wh c n) h.2.2.2 c (by omega) hc j j1 j2 j3
  have e2 : pcN S wh c = cnt (fun q => smB S (q + 1) && pcG S wh c (q + 1)) c := cnt_congr c (fun k _ => by
    by_cases z : pcG S wh c (k + 1) = true
    · have z2 := z
      unfold pcG at z2
      rw [Bool.and_eq_true] at z2
      rw [z, (suT_1 z2.1).1]
      rfl
    · rw [Bool.eq_false_iff.mpr z, Bool.and_false])
  have f1 : cnt (fun x => pcG S wh c (w x)) M = cnt (fun x => pcG S wh c (w x)) j := cnt_ext j1 (fun x a b q => by
    unfold pcG at q
    rw [Bool.and_eq_true] at q
    have := of_decide_eq_true q.2
    have := j3 x a b
    omega)
  have f2 : cnt (fun x => pcG S wh c (w x)) M = cnt (fun x => pcG S wh c (w x)) i := cnt_ext hi (fun x a b q => by
    unfold pcG at q
    rw [Bool.and_eq_true] at q
    have := of_decide_eq_true q.2
    have := hout x a b
    omega)
  rw [e2, e1, ← f1, f2]
  rfl
theorem qc_next {S : Nat} {wh : Int} {w : Nat → Nat} {M : Nat} (h : SL S w M) {c i j : Nat} (hc : c ≤ 3000) (hi : i < M) (hj : j ≤ M) (hout : ∀ y, j ≤ y → y < M → 3000 < w i + w y) : qcN S wh w i c + rcN S wh w i j c = qcN S wh w (i + 1) c := by
  have e : qcN S wh w (i + 1) c = if pcG S wh c (w i) = true then qcN S wh w i c + 1 else qcN S wh w i c := rfl
  rw [e]
  have hwi := h.le hi
  by_cases q : pcG S wh c (w i) = true
  · rw [if_pos q]
    unfold pcG at q
    rw [Bool.and_eq_true] at q
    have q2 := of_decide_eq_true q.2
    have q3 := suT_1 q.1
    obtain ⟨y, hy, ey⟩ := h.2.2.2.2.2 (c - w i) (by omega) (by omega) (by omega) q3.2
    have hiy : i ≤ y := by
      rcases Nat.lt_or_ge y i with z | z
      · have := h.inc z hi; omega
      · exact z
    have hyj : y < j := by
      rcases Nat.lt_or_ge y j with z | z
      · exact z
      · have := hout y z hy; omega
    have : rcN S wh w i j c = 1 := cnt_one hyj (by
      unfold rcB
      rw [decide_eq_true (show i ≤ y ∧ w i + w y = c from ⟨hiy, by omega⟩), Bool.true_and, ey]
      exact q.1) (fun x hx hxy z => by
      unfold rcB at z
      rw [Bool.and_eq_true] at z
      have z1 := of_decide_eq_true z.1
      rcases Nat.lt_or_ge x y with r | r
      · have := h.inc r hy; omega
      · have := h.inc (show y < x by omega) (show x < M by omega); omega)
    omega
  · rw [if_neg q]
    have : rcN S wh w i j c = 0 := cnt_zero (fun x hx z => by
      unfold rcB at z
      rw [Bool.and_eq_true] at z
      have z1 := of_decide_eq_true z.1
      refine q ?_
      unfold pcG
      have hle : w i ≤ w x := by
        rcases Nat.eq_or_lt_of_le z1.1 with r | r
        · rw [r]; exact Nat.le_refl _
        · exact Nat.le_of_lt (h.inc r (show x < M by omega))
      rw [Bool.and_eq_true]
      refine ⟨?_, decide_eq_true (by omega)⟩
      rw [show c - w i = w x by omega]
      exact z.2)
    omega
theorem and_sum {a b : Nat} : mb a &&& mb b &&& mb (a + b) = mb a &&& mb b := by
  refine Nat.eq_of_testBit_eq (fun j => ?_)
  rw [Nat.testBit_and, Nat.testBit_and]
  by_cases hj : j < 7
  · have h1 := mbF_bit a 7 (Nat.le_refl _) j hj
    have h2 := mbF_bit b 7 (Nat.le_refl _) j hj
    have h3 := mbF_bit (a + b) 7 (Nat.le_refl _) j hj
    rw [Bool.eq_iff_iff, Bool.and_eq_true, Bool.and_eq_true]
    show ((mbF a 7).testBit j = true ∧ (mbF b 7).testBit j = true) ∧ (mbF (a + b) 7).testBit j = true ↔ _
    rw [h1, h2, h3]
    constructor
    · intro z; exact ⟨h1.mpr z.1.1, h2.mpr z.1.2⟩
    · intro z
      have z1 := h1.mp z.1
      have z2 := h2.mp z.2
      exact ⟨⟨z1, z2⟩, Nat.mod_eq_zero_of_dvd (Nat.dvd_add (Nat.dvd_of_mod_eq_zero z1) (Nat.dvd_of_mod_eq_zero z2))⟩
  · have hj2 : 2 ^ 7 ≤ 2 ^ j := Nat.pow_le_pow_right (by omega) (by omega)
    rw [Nat.testBit_lt_two_pow (Nat.lt_of_lt_of_le (mb_lt a) hj2), Bool.false_and, Bool.false_and]
/-- the two conditions, as the class asks them -/
theorem suT_0 {S a b : Nat} (h1 : smB S a = true) (h2 : smB S b = true) : suT S 0 a b = (smB S (a + b) && decide (mb a &&& mb b = 0)) := by
  unfold suT
  rw [h1, h2, and_sum, decide_eq_true (show (0 : Int) = 0 ∨ rad (mb a ||| mb b ||| mb (a + b)) < a + b from Or.inl rfl), Bool.and_true, Bool.true_and, Bool.true_and]
theorem suT_r {S a b : Nat} (h1 : smB S a = true) (h2 : smB S b = true) : suT S 1 a b = (smB S (a + b) && decide (mb a &&& mb b = 0) && decide (rad (mb a ||| mb b ||| mb (a + b)) < a + b)) := by
  unfold suT
  rw [h1, h2, and_sum, Bool.true_and, Bool.true_and]
  congr 1
  exact decide_eq_decide.mpr ⟨fun z => z.elim (fun y => absurd y (by omega)) id, Or.inr⟩
theorem ssV_pc {S : Nat} {u : Nat} {wh : Int} (hu : u ≤ 3000) (hw : 0 ≤ wh ∧ wh ≤ 1) : ssV S (u : Int) wh = (sumF (pcN S wh) (u + 1) : Int) := by
  unfold ssV
  rw [if_pos ⟨by omega, hw⟩, Int.toNat_natCast, ss_sum]
