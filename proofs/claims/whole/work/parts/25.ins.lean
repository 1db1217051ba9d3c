/-! ===== insertion from the end ===== -/
def jp (p : Nat → Bool) : Nat → Nat
  | 0 => 0
  | n + 1 => if p n then jp p n else n + 1
theorem jp_le (p : Nat → Bool) : ∀ n, jp p n ≤ n := by
  intro n
  induction n with
  | zero => exact Nat.le_refl _
  | succ n ih => unfold jp; split <;> omega
theorem jp_t {p : Nat → Bool} {n : Nat} (h : p n = true) : jp p (n + 1) = jp p n := if_pos h
theorem jp_f {p : Nat → Bool} {n : Nat} (h : p n = false) : jp p (n + 1) = n + 1 := if_neg (by rw [h]; decide)
def insAt {α : Type} (L : List α) (j : Nat) (x : α) : List α := L.take j ++ x :: L.drop j
theorem insAt_len {α : Type} {L : List α} {j : Nat} {x : α} : (insAt L j x).length = L.length + 1 := by
  unfold insAt
  rw [List.length_append, List.length_cons, List.length_take, List.length_drop]
  omega
theorem insAt_get {α : Type} {L : List α} {j : Nat} {x e : α} (hj : j ≤ L.length) (k : Nat) : (insAt L j x).getD k e = if k < j then L.getD k e else if k = j then x else L.getD (k - 1) e := by
  unfold insAt
  simp only [List.getD_eq_getElem?_getD]
  by_cases h1 : k < j
  · rw [if_pos h1, List.getElem?_append_left (by rw [List.length_take]; omega), List.getElem?_take_of_lt h1]
  · rw [if_neg h1, List.getElem?_append_right (by rw [List.length_take]; omega), List.length_take, Nat.min_eq_left hj]
    by_cases h2 : k = j
    · subst h2
      rw [if_pos rfl, Nat.sub_self]
      rfl
    · rw [if_neg h2]
      obtain ⟨i, hi⟩ : ∃ i, k - j = i + 1 := ⟨k - j - 1, by omega⟩
      rw [hi, List.getElem?_cons_succ, List.getElem?_drop]
      rw [show j + i = k - 1 by omega]
/-- sets by their products -/
def insQ (L : List Nat) (s : Nat) : List Nat := insAt L (jp (fun k => decide (rad s < rad (L.getD k 0))) L.length) s
def csF (S but : Nat) : Nat → List Nat
  | 0 => []
  | k + 1 => if k &&& S = k ∧ k ≠ but then insQ (csF S but k) k else csF S but k
def cls1 (S : Nat) : List Nat := csF S 1 128
def cls2 (S : Nat) : List Nat := csF S 0 128
abbrev pT : Type := Nat × Nat × Nat
def pD : pT := (0, 0, 0)
/-- pairs by n -/
def insP (L : List pT) (t : pT) : List pT := insAt L (jp (fun k => decide (t.1 < (L.getD k pD).1)) L.length) t
theorem insQ_len (L : List Nat) (s : Nat) : (insQ L s).length = L.length + 1 := insAt_len
theorem insP_len (L : List pT) (t : pT) : (insP L t).length = L.length + 1 := insAt_len
theorem insQ_get (L : List Nat) (s k : Nat) : (insQ L s).getD k 0 = if k < jp (fun k => decide (rad s < rad (L.getD k 0))) L.length then L.getD k 0 else if k = jp (fun k => decide (rad s < rad (L.getD k 0))) L.length then s else L.getD (k - 1) 0 := insAt_get (jp_le _ _) k
theorem insP_get (L : List pT) (t : pT) (k : Nat) : (insP L t).getD k pD = if k < jp (fun k => decide (t.1 < (L.getD k pD).1)) L.length then L.getD k pD else if k = jp (fun k => decide (t.1 < (L.getD k pD).1)) L.length then t else L.getD (k - 1) pD := insAt_get (jp_le _ _) k
theorem csF_lt (S but : Nat) : ∀ n k, k < (csF S but n).length → (csF S but n).getD k 0 < n ∧ (csF S but n).getD k 0 &&& S = (csF S but n).getD k 0 ∧ (csF S but n).getD k 0 ≠ but := by
  intro n
  induction n with
  | zero => intro k h; exact absurd h (Nat.not_lt_zero _)
  | succ n ih =>
    intro k h
    unfold csF at h ⊢
    by_cases c : n &&& S = n ∧ n ≠ but
    · rw [if_pos c] at h ⊢
      rw [insQ_len] at h
      rw [insQ_get]
      have hj := jp_le (fun k => decide (rad n < rad ((csF S but n).getD k 0))) (csF S but n).length
      by_cases c1 : k < jp (fun k => decide (rad n < rad ((csF S but n).getD k 0))) (csF S but n).length
      · rw [if_pos c1]
        have := ih k (by omega)
        exact ⟨by omega, this.2⟩
      · rw [if_neg c1]
        by_cases c2 : k = jp (fun k => decide (rad n < rad ((csF S but n).getD k 0))) (csF S but n).length
        · rw [if_pos c2]; exact ⟨by omega, c⟩
        · rw [if_neg c2]
          have := ih (k - 1) (by omega)
          exact ⟨by omega, this.2⟩
    · rw [if_neg c] at h ⊢
      have := ih k h
      exact ⟨by omega, this.2⟩
def cntF (S but : Nat) : Nat → Nat
  | 0 => 0
  | k + 1 => if k &&& S = k ∧ k ≠ but then cntF S but k + 1 else cntF S but k
theorem csF_len (S but : Nat) : ∀ n, (csF S but n).length = cntF S but n := by
  intro n
  induction n with
  | zero => rfl
  | succ n ih =>
    unfold csF cntF
    split
    · rw [insQ_len, ih]
    · exact ih
theorem cntF_mono (S but : Nat) : ∀ n m, n ≤ m → cntF S but n ≤ cntF S but m := by
  intro n m h
  induction m with
  | zero => have : n = 0 := by omega
            subst this; exact Nat.le_refl _
  | succ m ih =>
    by_cases q : n = m + 1
    · subst q; exact Nat.le_refl _
    · have := ih (by omega)
      have e : cntF S but (m + 1) = if m &&& S = m ∧ m ≠ but then cntF S but m + 1 else cntF S but m := rfl
      rw [e]
      split <;> omega
theorem cnt_tab : ∀ S, S < 128 → pop S ≤ 5 → cntF S 1 128 ≤ 32 ∧ cntF S 0 128 ≤ 31 := by decide +kernel
theorem cls_xor : ∀ S : Nat, S < 128 → ∀ k : Nat, k < 128 → (zand (k : Int) (zxor (S : Int) (-1)) = 0 ↔ k &&& S = k) := by decide +kernel
