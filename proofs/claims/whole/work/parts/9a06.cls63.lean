def cR (B : Nat → Nat → Nat) (r : Nat → Nat) : Nat → Nat → Nat
  | 0, j => r j
  | k + 1, j => if cR B r k k = 0 then cR B r k j else (cR B r k j * B k k + (100140049 - B k j * cR B r k k)) % 10007
def cXb (B : Nat → Nat → Nat) (r : Nat → Nat) (k : Nat) : Bool := decide (cR B r k k ≠ 0 ∧ B k k = 0)
def cX (B : Nat → Nat → Nat) (r : Nat → Nat) : Int := fsA (cXb B r) 0 7
def cSt (S : Nat) : Nat → (Nat → Nat → Nat) × Nat
  | 0 => (fun _ _ => 0, 0)
  | i + 1 => if cX (cSt S i).1 (rk0 S i) = -1 then cSt S i else (fun k j => if (k : Int) = cX (cSt S i).1 (rk0 S i) then cR (cSt S i).1 (rk0 S i) k j else (cSt S i).1 k j, (cSt S i).2 + 1)
def rkT (S : Nat) : Nat → Bool
  | 0 => true
  | m + 1 => rkT S m && decide ((cSt S (m + 1)).2 = (rkF S (m + 1) 7).2)
set_option maxRecDepth 100000 in
theorem rk_tab0 : ∀ S, S < 16 → 0 ≤ S → pop S ≤ 5 → rkT S (prs S).length = true := by decide +kernel
set_option maxRecDepth 100000 in
theorem rk_tab1 : ∀ S, S < 32 → 16 ≤ S → pop S ≤ 5 → rkT S (prs S).length = true := by decide +kernel
set_option maxRecDepth 100000 in
theorem rk_tab2 : ∀ S, S < 48 → 32 ≤ S → pop S ≤ 5 → rkT S (prs S).length = true := by decide +kernel
set_option maxRecDepth 100000 in
theorem rk_tab3 : ∀ S, S < 64 → 48 ≤ S → pop S ≤ 5 → rkT S (prs S).length = true := by decide +kernel
set_option maxRecDepth 100000 in
theorem rk_tab4 : ∀ S, S < 80 → 64 ≤ S → pop S ≤ 5 → rkT S (prs S).length = true := by decide +kernel
set_option maxRecDepth 100000 in
theorem rk_tab5 : ∀ S, S < 96 → 80 ≤ S → pop S ≤ 5 → rkT S (prs S).length = true := by decide +kernel
set_option maxRecDepth 100000 in
theorem rk_tab6 : ∀ S, S < 112 → 96 ≤ S → pop S ≤ 5 → rkT S (prs S).length = true := by decide +kernel
set_option maxRecDepth 100000 in
theorem rk_tab7 : ∀ S, S < 128 → 112 ≤ S → pop S ≤ 5 → rkT S (prs S).length = true := by decide +kernel
theorem rk_tab {S : Nat} (hS : S < 128) (hp : pop S ≤ 5) : rkT S (prs S).length = true := by
  rcases (show S < 16 ∨ (16 ≤ S ∧ S < 32) ∨ (32 ≤ S ∧ S < 48) ∨ (48 ≤ S ∧ S < 64) ∨ (64 ≤ S ∧ S < 80) ∨ (80 ≤ S ∧ S < 96) ∨ (96 ≤ S ∧ S < 112) ∨ 112 ≤ S by omega) with h | h | h | h | h | h | h | h
  · exact rk_tab0 S h (Nat.zero_le _) hp
  · exact rk_tab1 S h.2 h.1 hp
  · exact rk_tab2 S h.2 h.1 hp
  · exact rk_tab3 S h.2 h.1 hp
  · exact rk_tab4 S h.2 h.1 hp
  · exact rk_tab5 S h.2 h.1 hp
  · exact rk_tab6 S h.2 h.1 hp
  · exact rk_tab7 S hS h hp
theorem rkT_at {S : Nat} : ∀ n m, m ≤ n → rkT S n = true → (cSt S m).2 = (rkF S m 7).2 ∨ m = 0 := by
  intro n
  induction n with
  | zero => intro m h _; exact Or.inr (by omega)
  | succ n ih =>
    intro m h q
    have e : rkT S (n + 1) = (rkT S n && decide ((cSt S (n + 1)).2 = (rkF S (n + 1) 7).2)) := rfl
    rw [e, Bool.and_eq_true] at q
    by_cases z : m = n + 1
    · subst z; exact Or.inl (of_decide_eq_true q.2)
    · exact ih m (by omega) q.1
set_option maxRecDepth 100000 in
theorem rk_zero : ∀ S, S < 128 → pop S ≤ 5 → (rkF S 0 7).2 = 0 := by decide +kernel
theorem rk_eq {S m : Nat} (hS : S < 128) (hp : pop S ≤ 5) (hm : m ≤ (prs S).length) : (cSt S m).2 = (rkF S m 7).2 := by
  rcases rkT_at _ m hm (rk_tab hS hp) with h | h
  · exact h
  · subst h; exact (rk_zero S hS hp).symm

