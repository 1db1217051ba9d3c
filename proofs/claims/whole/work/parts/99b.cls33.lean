theorem ux_3 : ∀ s, s < 128 → pop s ≤ 5 → (s ≠ 1 → 3 ≤ ux (2 * rad s) ∧ ux (2 * rad s) % 2 = 1) ∧ (s ≠ 0 → 2 ≤ ux (rad s)) := by decide +kernel
theorem xp_ge {u i : Nat} (hu : 1 ≤ u) (hi : 1 ≤ i) : u ≤ xp u i := xp_le_mono hu hi
theorem xp_odd {u : Nat} (hu : 1 ≤ u) (ho : u % 2 = 1) : ∀ i, xp u i % 2 = 1 ∧ xq u i % 2 = 1 := by
  intro i
  induction i with
  | zero => exact ⟨rfl, ho⟩
  | succ i ih =>
    have h1 := xp_step hu i
    have h2 : 2 * u * xp u i = 2 * (u * xp u i) := Nat.mul_assoc _ _ _
    have h3 : xq u (i + 1) = xp u i := by unfold xq; rw [if_neg (by omega), Nat.add_sub_cancel]
    rw [h3]
    generalize u * xp u i = w at h2
    omega
theorem or_sub {a b S : Nat} (ha : a < 128) (hb : b < 128) (hS : S < 128) : (a ||| b) &&& (127 - S) = 0 ↔ a &&& (127 - S) = 0 ∧ b &&& (127 - S) = 0 := by
  rw [← bits_tab a ha S hS, ← bits_tab b hb S hS, ← bits_tab (a ||| b) (or_128 a ha b hb) S hS]
  constructor
  · intro h
    exact ⟨fun j hj hx => h j hj (by rw [Nat.testBit_or, hx, Bool.true_or]), fun j hj hx => h j hj (by rw [Nat.testBit_or, hx, Bool.or_true])⟩
  · intro h j hj hx
    rw [Nat.testBit_or, Bool.or_eq_true] at hx
    rcases hx with q | q
    · exact h.1 j hj q
    · exact h.2 j hj q
theorem csB_iff {D ap S i : Nat} (hS : S < 128) (hn : 0 < nvU D ap i) : csB D ap S i = true ↔ smF S (nvU D ap i) 7 = 1 ∧ smF S (nvU D ap i + ap) 7 = 1 := by
  rw [smF_iff hn hS, smF_iff (show 0 < nvU D ap i + ap by omega) hS]
  unfold csB cfB mdU
  rw [Bool.and_eq_true, Bool.and_eq_true, decide_eq_true_iff, decide_eq_true_iff, decide_eq_true_iff, or_sub (mb_lt _) (mb_lt _) hS]
  constructor
  · intro h; exact ⟨⟨h.1.1, h.2.1⟩, ⟨h.1.2, h.2.2⟩⟩
  · intro h; exact ⟨⟨h.1.1, h.2.1⟩, ⟨h.1.2, h.2.2⟩⟩
theorem nv1_pos {s i : Nat} (hs : s < 128) (hp : pop s ≤ 5) (h1 : s ≠ 1) (hi : 1 ≤ i) : 0 < nvU (2 * rad s) 1 i := by
  have h2 := ((ux_3 s hs hp).1 h1).1
  have h3 := xp_ge (u := ux (2 * rad s)) (by omega) hi
  show 0 < (if 1 = 1 then nn1 (ux (2 * rad s)) i else nn2 (ux (2 * rad s)) i)
  rw [if_pos rfl]
  unfold nn1
  omega
theorem nv2_pos {s i : Nat} (hs : s < 128) (hp : pop s ≤ 5) (h1 : s ≠ 0) (hi : 1 ≤ i) : 0 < nvU (rad s) 2 i := by
  have h2 := (ux_3 s hs hp).2 h1
  have h3 := xp_ge (u := ux (rad s)) (by omega) hi
  show 0 < (if 2 = 1 then nn1 (ux (rad s)) i else nn2 (ux (rad s)) i)
  rw [if_neg (by omega)]
  unfold nn2
  omega
theorem cs_9 {ap s i S : Nat} {D : Nat} (ht : tb9 ap (ux D) 9 = true) (hi : 1 ≤ i ∧ i ≤ 9) (h : csB D ap S i = true) : xp (ux D) i < 1000000000 := by
  unfold csB cfB nvU at h
  rw [Bool.and_eq_true, Bool.and_eq_true, decide_eq_true_iff, decide_eq_true_iff] at h
  exact tb9_i 9 ht i hi.1 hi.2 h.1.1 h.1.2
theorem gP1_cs {s S i : Nat} (hs : s < 128) (hp : pop s ≤ 5) (h1 : s ≠ 1) (hS : S < 128) (hi : 1 ≤ i ∧ i ≤ 9) : gP1 S (ux (2 * rad s)) i = csB (2 * rad s) 1 S i := by
  have hc := csB_iff (D := 2 * rad s) (ap := 1) (i := i) hS (nv1_pos hs hp h1 hi.1)
  have h9 := cs_9 (s := s) (S := S) (tb9_1 s hs hp h1) hi
  have hv : nvU (2 * rad s) 1 i = nn1 (ux (2 * rad s)) i := by unfold nvU; rw [if_pos rfl]
  rw [hv] at hc
  rw [Bool.eq_iff_iff, hc]
  unfold gP1
  rw [Bool.and_eq_true, Bool.and_eq_true, decide_eq_true_iff, decide_eq_true_iff, decide_eq_true_iff]
  constructor
  · intro h; exact ⟨h.1.2, h.2⟩
  · intro h; exact ⟨⟨h9 (hc.mpr h), h.1⟩, h.2⟩
theorem gP2_cs {s S i : Nat} (hs : s < 128) (hp : pop s ≤ 5) (h1 : s ≠ 0) (hS : S < 128) (hi : 1 ≤ i ∧ i ≤ 9) : gP2 S (ux (rad s)) i = csB (rad s) 2 S i := by
  have hc := csB_iff (D := rad s) (ap := 2) (i := i) hS (nv2_pos hs hp h1 hi.1)
  have h9 := cs_9 (s := s) (S := S) (tb9_2 s hs hp h1) hi
  have hv : nvU (rad s) 2 i = nn2 (ux (rad s)) i := by unfold nvU; rw [if_neg (by omega)]
  rw [hv] at hc
  rw [Bool.eq_iff_iff, hc]
  unfold gP2
  rw [Bool.and_eq_true, Bool.and_eq_true, decide_eq_true_iff, decide_eq_true_iff, decide_eq_true_iff]
  constructor
  · intro h; exact ⟨h.1.2, h.2⟩
  · intro h; exact ⟨⟨h9 (hc.mpr h), h.1⟩, h.2⟩
