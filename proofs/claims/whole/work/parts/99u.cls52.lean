def sQ (S : Nat) (w : Nat → Nat) (K v : Nat) : Prop := (∀ i j, i < j → j < K → w i < w j) ∧ (∀ j, j < K → smB S (w j) = true ∧ 1 ≤ w j ∧ w j < v) ∧ (∀ n, 1 ≤ n → n < v → n ≤ 200000 → smB S n = true → ∃ j, j < K ∧ w j = n)
def SL (S : Nat) (w : Nat → Nat) (M : Nat) : Prop := 1 ≤ M ∧ M ≤ 1600 ∧ w 0 = 1 ∧ sQ S w M 200001
def prF2 (S : Nat) (w t : Nat → Nat) (p : Nat) : Nat := if S.testBit p then w (t p) * sev p else 200001
def lqF (S : Nat) (w t : Nat → Nat) : Nat → Nat
  | 0 => 200001
  | p + 1 => if lqF S w t p ≤ prF2 S w t p then lqF S w t p else prF2 S w t p
def tsF (S : Nat) (w t : Nat → Nat) (L : Nat) : Nat → Nat
  | 0 => 0
  | p + 1 => if prF2 S w t p = L then tsF S w t L p ||| (mb (w (t p)) ||| 2 ^ p) else tsF S w t L p
def tnF (S : Nat) (w t : Nat → Nat) (L p : Nat) : Nat := if prF2 S w t p = L then t p + 1 else t p
def tJ (S : Nat) (w : Nat → Nat) (k v : Nat) (t : Nat → Nat) : Prop := ∀ p, p < 7 → S.testBit p = true → (∀ j, j < t p → w j * sev p ≤ v) ∧ (t p < k → v < w (t p) * sev p)
theorem lqF_le {S : Nat} {w t : Nat → Nat} : ∀ n, lqF S w t n ≤ 200001 ∧ (∀ p, p < n → lqF S w t n ≤ prF2 S w t p) ∧ (lqF S w t n = 200001 ∨ ∃ p, p < n ∧ lqF S w t n = prF2 S w t p) := by
  intro n
  induction n with
  | zero => exact ⟨Nat.le_refl _, fun p h => absurd h (Nat.not_lt_zero _), Or.inl rfl⟩
  | succ n ih =>
    obtain ⟨h1, h2, h3⟩ := ih
    have e : lqF S w t (n + 1) = if lqF S w t n ≤ prF2 S w t n then lqF S w t n else prF2 S w t n := rfl
    rw [e]
    by_cases q : lqF S w t n ≤ prF2 S w t n
    · rw [if_pos q]
      refine ⟨h1, fun p hp => ?_, ?_⟩
      · rcases Nat.lt_or_ge p n with r | r
        · exact h2 p r
        · have : p = n := by omega
          subst this; exact q
      · rcases h3 with r | ⟨p, hp, r⟩
        · exact Or.inl r
        · exact Or.inr ⟨p, by omega, r⟩
    · rw [if_neg q]
      refine ⟨by omega, fun p hp => ?_, Or.inr ⟨n, by omega, rfl⟩⟩
      rcases Nat.lt_or_ge p n with r | r
      · have := h2 p r; omega
      · have : p = n := by omega
        subst this; exact Nat.le_refl _
/-- one number more, and the next one -/
theorem sQ_next {S : Nat} {w w2 t : Nat → Nat} {k v : Nat} (h : sQ S w k v) (hv : v ≤ 200000) (hv1 : 1 ≤ v) (hs : smB S v = true) (ht : tJ S w k v t) (htk : ∀ p, p < 7 → t p ≤ k) (hw : ∀ j, j < k → w2 j = w j) (hwk : w2 k = v) :
    v < lqF S w2 t 7 ∧ lqF S w2 t 7 ≤ 200001 ∧ (lqF S w2 t 7 ≤ 200000 → smB S (lqF S w2 t 7) = true) ∧ sQ S w2 (k + 1) (v + 1) ∧ sQ S w2 (k + 1) (lqF S w2 t 7) ∧ (lqF S w2 t 7 ≤ 200000 → tJ S w2 (k + 1) (lqF S w2 t 7) (tnF S w2 t (lqF S w2 t 7)) ∧ tsF S w2 t (lqF S w2 t 7) 7 = mb (lqF S w2 t 7)) := by
  obtain ⟨h1, h2, h3⟩ := h
  obtain ⟨l1, l2, l3⟩ := lqF_le (S := S) (w := w2) (t := t) 7
  have hle : ∀ j, j < k + 1 → smB S (w2 j) = true ∧ 1 ≤ w2 j ∧ w2 j ≤ v := fun j hj => by
    by_cases q : j = k
    · subst q; rw [hwk]; exact ⟨hs, hv1, Nat.le_refl _⟩
    · rw [hw j (by omega)]
      have := h2 j (by omega)
      exact ⟨this.1, this.2.1, by omega⟩
  have hinc : ∀ i j, i < j → j < k + 1 → w2 i < w2 j := fun i j hij hj => by
    by_cases q : j = k
    · subst q; rw [hwk, hw i hij]; exact (h2 i hij).2.2
    · rw [hw i (by omega), hw j (by omega)]; exact h1 i j hij (by omega)
  have hpr : ∀ p, p < 7 → S.testBit p = true → v < w2 (t p) * sev p := fun p hp hb => by
    rcases Nat.lt_or_ge (t p) k with q | q
    · rw [hw _ q]; exact (ht p hp hb).2 q
    · have e : t p = k := by have := htk p hp; omega
      rw [e, hwk]
      have h5 : v * 2 ≤ v * sev p := Nat.mul_le_mul_left _ (sev_2 p hp).1
      omega
  have hvL : v < lqF S w2 t 7 := by
    rcases l3 with r | ⟨p, hp, r⟩
    · omega
    · rw [r]
      unfold prF2
      by_cases hb : S.testBit p = true
      · rw [if_pos hb]; exact hpr p hp hb
      · rw [if_neg hb]; omega
  have hcomp : ∀ n, 1 ≤ n → n < v + 1 → n ≤ 200000 → smB S n = true → ∃ j, j < k + 1 ∧ w2 j = n := fun n n1 n2 n3 n4 => by
    by_cases q : n = v
    · subst q; exact ⟨k, by omega, hwk⟩
    · obtain ⟨j, hj, e⟩ := h3 n n1 (by omega) n3 n4
      exact ⟨j, by omega, (hw j hj).trans e⟩
  have hLs : lqF S w2 t 7 ≤ 200000 → smB S (lqF S w2 t 7) = true := fun hL => by
    rcases l3 with r | ⟨p, hp, r⟩
    · omega
    · rw [r] at hL ⊢
      unfold prF2 at hL ⊢
      by_cases hb : S.testBit p = true
      · rw [if_pos hb] at hL ⊢
        have h5 := hle (t p) (by have := htk p hp; omega)
        rw [Nat.mul_comm]
        exact (smB_mul (by omega) hp hb).mpr h5.1
      · rw [if_neg hb] at hL; omega
  refine ⟨hvL, l1, hLs, ⟨hinc, fun j hj => ⟨(hle j hj).1, (hle j hj).2.1, by have := (hle j hj).2.2; omega⟩, hcomp⟩, ⟨hinc, fun j hj => ⟨(hle j hj).1, (hle j hj).2.1, by have := (hle j hj).2.2; omega⟩, fun n n1 n2 n3 n4 => ?_⟩, fun hL => ⟨fun p hp hb => ?_, ?_⟩⟩
  · -- nothing smooth between v and the least product
    have key : ∀ m n, n ≤ m → v < n → n < lqF S w2 t 7 → n ≤ 200000 → smB S n = true → False := by
      intro m
      induction m with
      | zero => intro n a b; omega
      | succ m ih =>
        intro n a b c d e
        obtain ⟨p, q, hp, hb, en, q1, q2, q3⟩ := smB_div (by omega) e
        rcases Nat.lt_or_ge v q with r | r
        · exact ih q (by omega) r (by omega) (by omega) q3
        · obtain ⟨j, hj, ej⟩ := hcomp q q1 (by omega) (by omega) q3
          have hjt : t p ≤ j := by
            rcases Nat.lt_or_ge j (t p) with z | z
            · have h7 := (ht p hp hb).1 j z
              have h8 := htk p hp
              rw [← hw j (by omega), ej, Nat.mul_comm, ← en] at h7
              omega
            · exact z
          have h9 : w2 (t p) ≤ w2 j := by
            rcases Nat.eq_or_lt_of_le hjt with z | z
            · rw [z]; exact Nat.le_refl _
            · exact Nat.le_of_lt (hinc _ _ z hj)
          have h10 := l2 p hp
          unfold prF2 at h10
          rw [if_pos hb] at h10
          have h11 : w2 (t p) * sev p ≤ w2 j * sev p := Nat.mul_le_mul_right _ h9
          rw [ej, Nat.mul_comm q, ← en] at h11
          omega
    rcases Nat.lt_or_ge v n with r | r
    · exact absurd (key n n (Nat.le_refl _) r n2 n3 n4) id
    · exact hcomp n n1 (by omega) n3 n4
  · have h10 := l2 p hp
    have hp2 : prF2 S w2 t p = w2 (t p) * sev p := by unfold prF2; rw [if_pos hb]
    rw [hp2] at h10
    unfold tnF
    rw [hp2]
    by_cases z : w2 (t p) * sev p = lqF S w2 t 7
    · rw [if_pos z]
      refine ⟨fun j hj => ?_, fun hj => ?_⟩
      · by_cases y : j = t p
        · subst y; omega
        · have h8 := htk p hp
          rw [hw j (by omega)]
          have := (ht p hp hb).1 j (by omega)
          omega
      · have h11 := hinc (t p) (t p + 1) (by omega) (by omega)
        have h12 : (w2 (t p) + 1) * sev p ≤ w2 (t p + 1) * sev p := Nat.mul_le_mul_right _ h11
        rw [Nat.add_mul, Nat.one_mul] at h12
        have := (sev_2 p hp).1
        omega
    · rw [if_neg z]
      refine ⟨fun j hj => ?_, fun _ => by omega⟩
      have h8 := htk p hp
      rw [hw j (by omega)]
      have := (ht p hp hb).1 j hj
      omega
  · have hn : ∀ n, n ≤ 7 → tsF S w2 t (lqF S w2 t 7) n = 0 ∧ (∀ p, p < n → prF2 S w2 t p ≠ lqF S w2 t 7) ∨ tsF S w2 t (lqF S w2 t 7) n = mb (lqF S w2 t 7) := by
      intro n
      induction n with
      | zero => intro _; exact Or.inl ⟨rfl, fun p h => absurd h (Nat.not_lt_zero _)⟩
      | succ n ih =>
        intro hn
        have e : tsF S w2 t (lqF S w2 t 7) (n + 1) = if prF2 S w2 t n = lqF S w2 t 7 then tsF S w2 t (lqF S w2 t 7) n ||| (mb (w2 (t n)) ||| 2 ^ n) else tsF S w2 t (lqF S w2 t 7) n := rfl
        rw [e]
        by_cases z : prF2 S w2 t n = lqF S w2 t 7
        · rw [if_pos z]
          refine Or.inr ?_
          have hb : S.testBit n = true := by
            by_cases b : S.testBit n = true
            · exact b
            · unfold prF2 at z; rw [if_neg b] at z; omega
          have h5 := hle (t n) (by have := htk n (by omega); omega)
          have h6 : mb (w2 (t n)) ||| 2 ^ n = mb (lqF S w2 t 7) := by
            rw [← mb_mul (by omega) (by omega), ← z]
            unfold prF2
            rw [if_pos hb, Nat.mul_comm]
          rw [h6]
          rcases ih (by omega) with r | r
          · rw [r.1, Nat.zero_or]
          · rw [r, Nat.or_self]
        · rw [if_neg z]
          rcases ih (by omega) with r | r
          · refine Or.inl ⟨r.1, fun p hp => ?_⟩
            rcases Nat.lt_or_ge p n with y | y
            · exact r.2 p y
            · have : p = n := by omega
              subst this; exact z
          · exact Or.inr r
    rcases hn 7 (Nat.le_refl _) with r | r
    · rcases l3 with y | ⟨p, hp, y⟩
      · omega
      · exact absurd y.symm (r.2 p hp)
    · exact r
/-- counts over numbers are counts over the row -/
theorem cntW {S : Nat} {w : Nat → Nat} {K v : Nat} {g : Nat → Bool} (h : sQ S w K v) : ∀ n, n < v → n ≤ 200000 → ∀ j, j ≤ K → (∀ i, i < j → w i ≤ n) → (∀ i, j ≤ i → i < K → n < w i) → cnt (fun q => smB S (q + 1) && g (q + 1)) n = cnt (fun i => g (w i)) j := by
  obtain ⟨h1, h2, h3⟩ := h
  intro n
  induction n with
  | zero =>
    intro _ _ j hj a b
    have : j = 0 := by
      rcases Nat.eq_zero_or_pos j with q | q
      · exact q
      · have := a 0 q; have := (h2 0 (by omega)).2.1; omega
    subst this
    rfl
  | succ n ih =>
    intro hn hn2 j hj a b
    show (if (smB S (n + 1) && g (n + 1)) = true then _ + 1 else _) = _
    by_cases q : smB S (n + 1) = true
    · obtain ⟨i, hi, ei⟩ := h3 (n + 1) (by omega) hn hn2 q
      have hij : i < j := by
        rcases Nat.lt_or_ge i j with r | r
        · exact r
        · have := b i r hi; omega
      have hie : j = i + 1 := by
        rcases Nat.lt_or_ge (i + 1) j with r | r
        · have := a (i + 1) r; have := h1 i (i + 1) (by omega) (by omega); omega
        · omega
      subst hie
      have hr := ih (by omega) (by omega) i (by omega) (fun x hx => by have := h1 x i hx hi; omega) (fun x hx hx2 => by
        rcases Nat.eq_or_lt_of_le hx with z | z
        · rw [← z, ei]; omega
        · have := h1 i x z hx2; omega)
      rw [q, Bool.true_and, hr]
      show _ = (if g (w i) = true then cnt (fun i => g (w i)) i + 1 else cnt (fun i => g (w i)) i)
      rw [ei]
    · rw [Bool.eq_false_iff.mpr q, Bool.false_and, if_neg (by decide)]
      refine ih (by omega) (by omega) j hj (fun i hi => ?_) (fun i hi hi2 => by have := b i hi hi2; omega)
      have h4 := a i hi
      rcases Nat.eq_or_lt_of_le h4 with z | z
      · have := (h2 i (by omega)).1; rw [z] at this; exact absurd this q
      · omega
theorem cnt_true : ∀ n, cnt (fun _ => true) n = n := by
  intro n
  induction n with
  | zero => rfl
  | succ n ih => show cnt (fun _ => true) n + 1 = n + 1; rw [ih]
theorem smC_at {S : Nat} {w : Nat → Nat} {K v : Nat} (h : sQ S w K v) {n j : Nat} (hn : n < v) (hn2 : n ≤ 200000) (hj : j ≤ K) (a : ∀ i, i < j → w i ≤ n) (b : ∀ i, j ≤ i → i < K → n < w i) : smC S n = j := by
  have h1 := cntW (g := fun _ => true) h n hn hn2 j hj a b
  rw [cnt_true] at h1
  rw [← h1]
  exact cnt_congr n (fun k _ => (Bool.and_true _).symm)
theorem cnt_mono {f : Nat → Bool} {a b : Nat} (h : a ≤ b) : cnt f a ≤ cnt f b := by
  induction b with
  | zero => have : a = 0 := by omega
            subst this; exact Nat.le_refl _
  | succ b ih =>
    rcases Nat.eq_or_lt_of_le h with q | q
    · subst q; exact Nat.le_refl _
    · refine Nat.le_trans (ih (by omega)) ?_
      show cnt f b ≤ (if f b = true then cnt f b + 1 else cnt f b)
      split <;> omega
/-- there are never more than 1600 -/
theorem sQ_1600 {S : Nat} {w : Nat → Nat} {k v : Nat} (hS : S < 128) (hp : pop S ≤ 5) (h : sQ S w k (v + 1)) (hv : v ≤ 200000) (hall : ∀ i, i < k → w i ≤ v) : k ≤ 1600 := by
  have h1 := smC_at h (n := v) (j := k) (by omega) hv (Nat.le_refl _) hall (fun i a b => by omega)
  have h2 := smC_1600 hS hp
  have h3 : smC S v ≤ smC S 200000 := cnt_mono hv
  omega
