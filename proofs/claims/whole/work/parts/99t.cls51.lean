theorem smB_q {S n : Nat} (hn : 0 < n) : smB S n = true ↔ qprF S n 7 = n := by
  have h := smF_pr (S := S) hn 7 (by omega)
  unfold smB
  rw [decide_eq_true_iff]
  constructor
  · intro q; rw [q, Nat.one_mul] at h; exact h.1
  · intro q
    rw [q] at h
    have h2 : smF S n 7 * n = 1 * n := by rw [Nat.one_mul]; exact h.1
    exact Nat.eq_of_mul_eq_mul_right hn h2
theorem vp_mul_self {p m : Nat} (hp : 2 ≤ p) (hm : 0 < m) : vp p (p * m) = vp p m + 1 := by
  have h := (vp_step hp (Nat.mul_pos (show 0 < p by omega) hm) (Nat.mul_mod_right p m)).1
  rw [Nat.mul_div_cancel_left m (show 0 < p by omega)] at h
  exact h
theorem sev_cop' {j k : Nat} (hj : j < 7) (hk : k < 7) (h : j ≠ k) : Nat.Coprime (sev j) (sev k) := by
  rcases Nat.lt_or_ge j k with q | q
  · exact (sev_cop k hk j q).symm
  · exact sev_cop j hj k (by omega)
theorem vp_sev {j k m : Nat} (hj : j < 7) (hk : k < 7) (hm : 0 < m) : vp (sev j) (sev k * m) = if j = k then vp (sev j) m + 1 else vp (sev j) m := by
  by_cases q : j = k
  · subst q
    rw [if_pos rfl]
    exact vp_mul_self (sev_2 j hj).1 hm
  · rw [if_neg q]
    exact vp_mulq (sev_2 j hj).1 (by have := (sev_2 k hk).1; omega) (sev_cop' hj hk q) m hm
theorem qpr_mul {S m k : Nat} (hm : 0 < m) (hk : k < 7) (hb : S.testBit k = true) : ∀ j, j ≤ 7 → qprF S (sev k * m) j = if k < j then sev k * qprF S m j else qprF S m j := by
  intro j
  induction j with
  | zero => intro _; rw [if_neg (Nat.not_lt_zero _)]; rfl
  | succ j ih =>
    intro hj
    have h1 := ih (by omega)
    have e1 : ∀ n, qprF S n (j + 1) = if S.testBit j then sev j ^ vp (sev j) n * qprF S n j else qprF S n j := fun n => rfl
    rw [e1, e1, h1, vp_sev (show j < 7 by omega) hk hm]
    by_cases q : j = k
    · subst q
      rw [if_pos rfl, if_pos hb, if_pos hb, if_neg (Nat.lt_irrefl _), if_pos (Nat.lt_succ_self _), Nat.pow_succ, Nat.mul_comm (sev j ^ _) (sev j), Nat.mul_assoc]
    · rw [if_neg q]
      by_cases r : k < j
      · rw [if_pos r, if_pos (show k < j + 1 by omega)]
        split
        · rw [← Nat.mul_assoc, ← Nat.mul_assoc, Nat.mul_comm (sev k)]
        · rfl
      · rw [if_neg r, if_neg (show ¬ k < j + 1 by omega)]
theorem smB_mul {S m k : Nat} (hm : 0 < m) (hk : k < 7) (hb : S.testBit k = true) : smB S (sev k * m) = true ↔ smB S m = true := by
  have hs := (sev_2 k hk).1
  rw [smB_q hm, smB_q (Nat.mul_pos (by omega) hm), qpr_mul hm hk hb 7 (Nat.le_refl _), if_pos hk]
  constructor
  · intro h; exact Nat.eq_of_mul_eq_mul_left (show 0 < sev k by omega) h
  · intro h; rw [h]
theorem qpr_1 {S n : Nat} (h : ∀ k, k < 7 → S.testBit k = true → vp (sev k) n = 0) : ∀ j, j ≤ 7 → qprF S n j = 1 := by
  intro j
  induction j with
  | zero => intro _; rfl
  | succ j ih =>
    intro hj
    show (if S.testBit j then sev j ^ vp (sev j) n * qprF S n j else qprF S n j) = 1
    by_cases q : S.testBit j = true
    · rw [if_pos q, h j (by omega) q, ih (by omega), Nat.pow_zero]
    · rw [if_neg q, ih (by omega)]
theorem smB_one (S : Nat) : smB S 1 = true := by
  rw [smB_q (by omega)]
  refine qpr_1 (fun k hk _ => vp_end ?_) 7 (Nat.le_refl _)
  have := (sev_2 k hk).1
  rw [Nat.mod_eq_of_lt (by omega)]
  omega
theorem smB_div {S n : Nat} (hn : 1 < n) (h : smB S n = true) : ∃ k m, k < 7 ∧ S.testBit k = true ∧ n = sev k * m ∧ 0 < m ∧ m < n ∧ smB S m = true := by
  by_cases q : ∃ k, k < 7 ∧ S.testBit k = true ∧ 0 < vp (sev k) n
  · obtain ⟨k, hk, hb, hv⟩ := q
    have hs := (sev_2 k hk).1
    have hd := (vp_0 hs (show 0 < n by omega)).mp hv
    have e : n = sev k * (n / sev k) := by
      have := Nat.div_add_mod n (sev k)
      omega
    have hm : 0 < n / sev k := by
      rcases Nat.eq_zero_or_pos (n / sev k) with z | z
      · rw [z, Nat.mul_zero] at e; omega
      · exact z
    refine ⟨k, n / sev k, hk, hb, e, hm, Nat.div_lt_self (by omega) (by omega), ?_⟩
    rw [e] at h
    exact (smB_mul hm hk hb).mp h
  · exfalso
    have h1 := qpr_1 (S := S) (n := n) (fun k hk hb => by
      rcases Nat.eq_zero_or_pos (vp (sev k) n) with z | z
      · exact z
      · exact absurd ⟨k, hk, hb, z⟩ q) 7 (Nat.le_refl _)
    rw [(smB_q (by omega)).mp h] at h1
    omega
theorem smB_0' (S : Nat) : smB S 0 = false := by
  unfold smB
  have : ∀ j, smF S 0 j = 0 := by
    intro j
    induction j with
    | zero => rfl
    | succ j ih =>
      show (if S.testBit j then strp (sev j) (smF S 0 j) else smF S 0 j) = 0
      rw [ih]
      split
      · exact Nat.zero_div _
      · rfl
  rw [this]
  rfl
theorem mb_mul {k m : Nat} (hk : k < 7) (hm : 0 < m) : mb (sev k * m) = mb m ||| 2 ^ k := by
  refine Nat.eq_of_testBit_eq (fun j => ?_)
  rw [Nat.testBit_or]
  by_cases hj : j < 7
  · have hs := (sev_2 j hj).1
    have h1 := mbF_bit (sev k * m) 7 (Nat.le_refl _) j hj
    have h2 := mbF_bit m 7 (Nat.le_refl _) j hj
    have h3 := vp_sev hj hk hm
    have h4 := vp_0 hs hm
    have h5 := vp_0 hs (Nat.mul_pos (show 0 < sev k by have := (sev_2 k hk).1; omega) hm)
    rw [Bool.eq_iff_iff, Bool.or_eq_true]
    show (mbF (sev k * m) 7).testBit j = true ↔ (mbF m 7).testBit j = true ∨ _
    rw [h1, h2, ← h5, h3]
    by_cases q : j = k
    · subst q
      rw [if_pos rfl, Nat.testBit_two_pow_self]
      exact ⟨fun _ => Or.inr rfl, fun _ => by omega⟩
    · rw [if_neg q, Nat.testBit_two_pow_of_ne (fun z => q z.symm), h4]
      exact ⟨fun z => Or.inl z, fun z => z.elim id (fun y => absurd y (by decide))⟩
  · have hj2 : 2 ^ 7 ≤ 2 ^ j := Nat.pow_le_pow_right (by omega) (by omega)
    have hk2 : 2 ^ k ≤ 2 ^ 6 := Nat.pow_le_pow_right (by omega) (by omega)
    rw [Nat.testBit_lt_two_pow (Nat.lt_of_lt_of_le (mb_lt _) hj2), Nat.testBit_lt_two_pow (Nat.lt_of_lt_of_le (mb_lt _) hj2), Nat.testBit_two_pow_of_ne (by omega)]
    rfl
theorem mb_sub {S n : Nat} (hn : 0 < n) (hS : S < 128) (h : smB S n = true) : mb n &&& (127 - S) = 0 := ((smF_iff hn hS).mp (of_decide_eq_true h)).2
/-! how many smooth numbers there are -/
def cSk (f : Nat → Nat) (p : Nat) : Nat → Nat → Nat
  | 0, _ => 0
  | u + 1, n => if n = 0 then 0 else f n + cSk f p u (n / p)
def cSF (S : Nat) : Nat → Nat → Nat
  | 0, n => if n = 0 then 0 else 1
  | k + 1, n => if S.testBit k then cSk (cSF S k) (sev k) 18 n else cSF S k n
set_option maxRecDepth 20000 in
theorem cSF_tab : ∀ S, S < 128 → pop S ≤ 5 → cSF S 7 200000 ≤ 1600 := by decide +kernel
theorem cnt_two {f g h : Nat → Bool} : ∀ n, (∀ k, k < n → f k = true → g k = true ∨ h k = true) → cnt f n ≤ cnt g n + cnt h n := by
  intro n
  induction n with
  | zero => intro _; exact Nat.le_refl _
  | succ n ih =>
    intro q
    have h1 := ih (fun k hk => q k (by omega))
    have h2 := q n (by omega)
    show (if f n = true then cnt f n + 1 else cnt f n) ≤ (if g n = true then cnt g n + 1 else cnt g n) + (if h n = true then cnt h n + 1 else cnt h n)
    by_cases c : f n = true
    · rw [if_pos c]
      rcases h2 c with r | r
      · rw [if_pos r]; split <;> omega
      · rw [if_pos r]; split <;> omega
    · rw [if_neg c]
      split <;> split <;> omega
theorem cnt_mul {g : Nat → Bool} {p : Nat} (hp : 0 < p) : ∀ n, cnt (fun k => decide ((k + 1) % p = 0) && g ((k + 1) / p)) n = cnt (fun k => g (k + 1)) (n / p) := by
  intro n
  induction n with
  | zero => rw [Nat.zero_div]; rfl
  | succ n ih =>
    show (if (decide ((n + 1) % p = 0) && g ((n + 1) / p)) = true then _ + 1 else _) = _
    rw [ih]
    have h := Nat.succ_div (a := n) (b := p)
    by_cases q : (n + 1) % p = 0
    · have hd : p ∣ n + 1 := Nat.dvd_of_mod_eq_zero q
      have e : (n + 1) / p = n / p + 1 := by
        have := h
        rw [if_pos hd] at this
        exact this
      rw [e, decide_eq_true q, Bool.true_and]
      rfl
    · have hd : ¬ p ∣ n + 1 := fun z => q (Nat.mod_eq_zero_of_dvd z)
      have e : (n + 1) / p = n / p := by
        have := h
        rw [if_neg hd, Nat.add_zero] at this
        exact this
      rw [e, decide_eq_false q, Bool.false_and, if_neg (by decide)]
theorem smB_low {T k n : Nat} (hk : k < 7) (hT : T < 2 ^ k) (hn : 0 < n) (h : smB (T ||| 2 ^ k) n = true) : smB T n = true ∨ (decide (n % sev k = 0) && smB (T ||| 2 ^ k) (n / sev k)) = true := by
  have hs := (sev_2 k hk).1
  have hbk : (T ||| 2 ^ k).testBit k = true := by rw [Nat.testBit_or, Nat.testBit_two_pow_self, Bool.or_true]
  by_cases q : n % sev k = 0
  · refine Or.inr ?_
    have e : n = sev k * (n / sev k) := by
      have := Nat.div_add_mod n (sev k)
      omega
    have hm : 0 < n / sev k := by
      rcases Nat.eq_zero_or_pos (n / sev k) with z | z
      · rw [z, Nat.mul_zero] at e; omega
      · exact z
    rw [decide_eq_true q, Bool.true_and]
    rw [e] at h
    exact (smB_mul hm hk hbk).mp h
  · refine Or.inl ?_
    rw [smB_q hn] at h ⊢
    have hv : vp (sev k) n = 0 := vp_end q
    have : ∀ j, j ≤ 7 → qprF (T ||| 2 ^ k) n j = qprF T n j := by
      intro j
      induction j with
      | zero => intro _; rfl
      | succ j ih =>
        intro hj
        show (if (T ||| 2 ^ k).testBit j then sev j ^ vp (sev j) n * qprF (T ||| 2 ^ k) n j else qprF (T ||| 2 ^ k) n j) = (if T.testBit j then sev j ^ vp (sev j) n * qprF T n j else qprF T n j)
        rw [ih (by omega)]
        by_cases r : j = k
        · subst r
          rw [if_pos hbk, hv, Nat.pow_zero, Nat.one_mul]
          split <;> rfl
        · rw [Nat.testBit_or, Nat.testBit_two_pow_of_ne (fun z => r z.symm), Bool.or_false]
    rw [← this 7 (Nat.le_refl _)]
    exact h
theorem smC_split {T k n : Nat} (hk : k < 7) (hT : T < 2 ^ k) : smC (T ||| 2 ^ k) n ≤ smC T n + smC (T ||| 2 ^ k) (n / sev k) := by
  have h := cnt_two (f := fun j => smB (T ||| 2 ^ k) (j + 1)) (g := fun j => smB T (j + 1)) (h := fun j => decide ((j + 1) % sev k = 0) && smB (T ||| 2 ^ k) ((j + 1) / sev k)) n (fun j _ hj => smB_low hk hT (Nat.succ_pos j) hj)
  rw [cnt_mul (g := smB (T ||| 2 ^ k)) (show 0 < sev k by have := (sev_2 k hk).1; omega)] at h
  exact h
theorem smC_k {f : Nat → Nat} {T k : Nat} (hk : k < 7) (hT : T < 2 ^ k) (hf : ∀ n, n < 2 ^ 18 → smC T n ≤ f n) : ∀ u n, n < 2 ^ u → u ≤ 18 → smC (T ||| 2 ^ k) n ≤ cSk f (sev k) u n := by
  intro u
  have hs := (sev_2 k hk).1
  induction u with
  | zero => intro n h _; have : n = 0 := by omega
            subst this; exact Nat.le_refl _
  | succ u ih =>
    intro n h hu
    show _ ≤ (if n = 0 then 0 else f n + cSk f (sev k) u (n / sev k))
    by_cases z : n = 0
    · subst z; exact Nat.le_refl _
    · rw [if_neg z]
      have h1 := smC_split (n := n) hk hT
      have h2 : 2 ^ (u + 1) ≤ 2 ^ 18 := Nat.pow_le_pow_right (by omega) hu
      have h3 := hf n (by omega)
      have h4 : n / sev k < 2 ^ u := by
        rw [Nat.div_lt_iff_lt_mul (by omega)]
        have h5 : 2 ^ u * 2 ≤ 2 ^ u * sev k := Nat.mul_le_mul_left _ hs
        rw [Nat.pow_succ] at h
        omega
      have h6 := ih (n / sev k) h4 (by omega)
      omega
theorem mod_bit : ∀ S, S < 128 → ∀ k, k < 7 → S % 2 ^ (k + 1) = if S.testBit k then S % 2 ^ k ||| 2 ^ k else S % 2 ^ k := by decide +kernel
theorem smC_cS {S : Nat} (hS : S < 128) : ∀ k, k ≤ 7 → ∀ n, n < 2 ^ 18 → smC (S % 2 ^ k) n ≤ cSF S k n := by
  intro k
  induction k with
  | zero =>
    intro _ n _
    rw [Nat.pow_zero, Nat.mod_one]
    show smC 0 n ≤ if n = 0 then 0 else 1
    have h0 : ∀ j, 0 < j → ¬ smB 0 (j + 1) = true := fun j hj q => by
      obtain ⟨k, m, -, hb, -⟩ := smB_div (by omega) q
      rw [Nat.zero_testBit] at hb
      exact absurd hb (by decide)
    have h1 : ∀ j, smC 0 j ≤ if j = 0 then 0 else 1 := by
      intro j
      induction j with
      | zero => exact Nat.le_refl _
      | succ j ih =>
        show (if smB 0 (j + 1) = true then cnt (fun k => smB 0 (k + 1)) j + 1 else cnt (fun k => smB 0 (k + 1)) j) ≤ _
        rcases Nat.eq_zero_or_pos j with z | z
        · subst z
          split <;> (show (_ : Nat) ≤ _; simp [cnt])
        · rw [if_neg (h0 j z), if_neg (by omega)]
          rw [if_neg (by omega)] at ih
          exact ih
    exact h1 n
  | succ k ih =>
    intro hk n hn
    rw [mod_bit S hS k (by omega)]
    show _ ≤ (if S.testBit k then cSk (cSF S k) (sev k) 18 n else cSF S k n)
    by_cases q : S.testBit k = true
    · rw [if_pos q, if_pos q]
      exact smC_k (by omega) (Nat.mod_lt _ (Nat.pow_pos (by omega))) (fun m hm => ih (by omega) m hm) 18 n hn (Nat.le_refl _)
    · rw [if_neg q, if_neg q]
      exact ih (by omega) n hn
theorem smC_1600 {S : Nat} (hS : S < 128) (hp : pop S ≤ 5) : smC S 200000 ≤ 1600 := by
  have h := smC_cS hS 7 (Nat.le_refl _) 200000 (by decide)
  rw [Nat.mod_eq_of_lt hS] at h
  exact Nat.le_trans h (cSF_tab S hS hp)
