def csA (ap S : Nat) : List Nat := csF S (butF ap) 128
def eA (ap S c : Nat) : Nat := (csA ap S).getD c 0
def gA (ap S c i : Nat) : Bool := csB (DD ap (eA ap S c)) ap S i
def vA (ap S c i : Nat) : Nat := nvU (DD ap (eA ap S c)) ap i
def prA (ap S : Nat) : Nat → List pT
  | 0 => []
  | c + 1 => fp (gA ap S c) (vA ap S c) c (prA ap S c) (bnd S)
def prL (ap S : Nat) : List pT := prA ap S (csA ap S).length
theorem eA_lt {ap S c : Nat} (hc : c < (csA ap S).length) : eA ap S c < 128 ∧ eA ap S c &&& S = eA ap S c ∧ eA ap S c ≠ butF ap := csF_lt S (butF ap) 128 c hc
theorem eA_pop {ap S c : Nat} (hS : S < 128) (hp : pop S ≤ 5) (hc : c < (csA ap S).length) : pop (eA ap S c) ≤ 5 := Nat.le_trans (pop_sub S hS _ (eA_lt hc).1 (eA_lt hc).2.1) hp
theorem csA_32 {ap S : Nat} (hap : ap = 1 ∨ ap = 2) (hS : S < 128) (hp : pop S ≤ 5) : (csA ap S).length ≤ 32 := by
  have h := cnt_tab S hS hp
  unfold csA
  rw [csF_len]
  rcases hap with rfl | rfl
  · exact h.1
  · exact Nat.le_trans h.2 (by omega)
theorem fp_congr {g g2 : Nat → Bool} {v v2 : Nat → Nat} {c : Nat} {L : List pT} : ∀ b, (∀ i, 1 ≤ i → i ≤ b → g i = g2 i ∧ (g i = true → v i = v2 i)) → fp g v c L b = fp g2 v2 c L b := by
  intro b
  induction b with
  | zero => intro _; rfl
  | succ b ih =>
    intro h
    have h1 := h (b + 1) (by omega) (Nat.le_refl _)
    show (if g (b + 1) then insP (fp g v c L b) (v (b + 1), c, b + 1) else fp g v c L b) = (if g2 (b + 1) then insP (fp g2 v2 c L b) (v2 (b + 1), c, b + 1) else fp g2 v2 c L b)
    rw [← h1.1, ih (fun i h2 h3 => h i h2 (by omega))]
    by_cases q : g (b + 1) = true
    · rw [if_pos q, if_pos q, h1.2 q]
    · rw [if_neg q, if_neg q]
theorem prA_1 {S : Nat} (hS : S < 128) (hp : pop S ≤ 5) : ∀ c, c ≤ (csF S 1 128).length → prA 1 S c = prF S c := by
  intro c
  induction c with
  | zero => intro _; rfl
  | succ c ih =>
    intro hc
    show fp (gA 1 S c) (vA 1 S c) c (prA 1 S c) (bnd S) = fp (gP1 S (ux (d1 S c))) (nn1 (ux (d1 S c))) c (prF S c) (bnd S)
    rw [ih (by omega)]
    have hb := bnd_le S hS
    have h1 := csF_lt S 1 128 c (by omega)
    have h2 := pop_sub S hS _ h1.1 h1.2.1
    refine fp_congr _ (fun i hi1 hi2 => ⟨?_, fun _ => ?_⟩)
    · exact (gP1_cs h1.1 (by omega) h1.2.2 hS ⟨hi1, by omega⟩).symm
    · show nvU _ 1 i = _
      unfold nvU
      rw [if_pos rfl]
      rfl
theorem prA_2 {S : Nat} (hS : S < 128) (hp : pop S ≤ 5) : ∀ c, c ≤ (csF S 0 128).length → prA 2 S c = twF S c := by
  intro c
  induction c with
  | zero => intro _; rfl
  | succ c ih =>
    intro hc
    show fp (gA 2 S c) (vA 2 S c) c (prA 2 S c) (bnd S) = fp (gP2 S (ux (d2 S c))) (nn2 (ux (d2 S c))) c (twF S c) (bnd S)
    rw [ih (by omega)]
    have hb := bnd_le S hS
    have h1 := csF_lt S 0 128 c (by omega)
    have h2 := pop_sub S hS _ h1.1 h1.2.1
    refine fp_congr _ (fun i hi1 hi2 => ⟨?_, fun _ => ?_⟩)
    · exact (gP2_cs h1.1 (by omega) h1.2.2 hS ⟨hi1, by omega⟩).symm
    · show nvU _ 2 i = _
      unfold nvU
      rw [if_neg (by omega)]
      rfl
theorem prL_1 {S : Nat} (hS : S < 128) (hp : pop S ≤ 5) : prL 1 S = prs S := prA_1 hS hp _ (Nat.le_refl _)
theorem prL_2 {S : Nat} (hS : S < 128) (hp : pop S ≤ 5) : prL 2 S = tws S := prA_2 hS hp _ (Nat.le_refl _)
/-- numbers that are all unlike -/
def ndB : List pT → Bool
  | [] => true
  | t :: l => l.all (fun q => !(q.1 == t.1)) && ndB l
set_option maxRecDepth 20000 in
theorem nd_tab : ∀ S, S < 128 → pop S ≤ 5 → ndB (prs S) = true ∧ (prs S).length ≤ 64 := by decide +kernel
set_option maxRecDepth 20000 in
theorem nd_tab2 : ∀ S, S < 128 → pop S ≤ 5 → ndB (tws S) = true ∧ (tws S).length ≤ 64 := by decide +kernel
def ndI (L : List pT) : Prop := ∀ k j : Nat, j < k → k < L.length → (L.getD j pD).1 ≠ (L.getD k pD).1
theorem ndB_I : ∀ L : List pT, ndB L = true → ndI L := by
  intro L
  induction L with
  | nil => intro _ k j _ h; exact absurd h (Nat.not_lt_zero _)
  | cons t l ih =>
    intro h k j hj hk
    unfold ndB at h
    rw [Bool.and_eq_true, List.all_eq_true] at h
    obtain ⟨k2, rfl⟩ : ∃ k2, k = k2 + 1 := ⟨k - 1, by omega⟩
    have hk2 : k2 < l.length := by rw [List.length_cons] at hk; omega
    have e1 : (t :: l).getD (k2 + 1) pD = l.getD k2 pD := by simp only [List.getD_eq_getElem?_getD, List.getElem?_cons_succ]
    rw [e1]
    rcases Nat.eq_zero_or_pos j with q | q
    · subst q
      have e2 : l.getD k2 pD ∈ l := by
        rw [List.getD_eq_getElem?_getD, List.getElem?_eq_getElem hk2]
        exact List.getElem_mem hk2
      have h2 := h.1 _ e2
      show t.1 ≠ _
      intro z
      rw [z] at h2
      simp at h2
    · obtain ⟨j2, rfl⟩ : ∃ j2, j = j2 + 1 := ⟨j - 1, by omega⟩
      have e3 : (t :: l).getD (j2 + 1) pD = l.getD j2 pD := by simp only [List.getD_eq_getElem?_getD, List.getElem?_cons_succ]
      rw [e3]
      exact ih h.2 k2 j2 (by omega) hk2
theorem ndI.ins {L : List pT} {t : pT} (h : ndI (insP L t)) : ndI L ∧ ∀ k : Nat, k < L.length → (L.getD k pD).1 ≠ t.1 := by
  have hJ := jp_le (fun k => decide (t.1 < (L.getD k pD).1)) L.length
  have hg := insP_get L t
  obtain ⟨J, hJe⟩ : ∃ J, J = jp (fun k => decide (t.1 < (L.getD k pD).1)) L.length := ⟨_, rfl⟩
  rw [← hJe] at hJ hg
  have hat : (insP L t).getD J pD = t := by rw [hg J, if_neg (by omega), if_pos rfl]
  have hlo : ∀ k, k < J → (insP L t).getD k pD = L.getD k pD := fun k hk => by rw [hg k, if_pos hk]
  have hhi : ∀ k, J ≤ k → (insP L t).getD (k + 1) pD = L.getD k pD := fun k hk => by rw [hg (k + 1), if_neg (by omega), if_neg (by omega), Nat.add_sub_cancel]
  have hlen := insP_len L t
  refine ⟨fun k j hj hk => ?_, fun k hk => ?_⟩
  · rcases Nat.lt_or_ge k J with q | q
    · rw [← hlo k q, ← hlo j (by omega)]
      exact h k j hj (by omega)
    · rw [← hhi k q]
      rcases Nat.lt_or_ge j J with r | r
      · rw [← hlo j r]
        exact h (k + 1) j (by omega) (by omega)
      · rw [← hhi j r]
        exact h (k + 1) (j + 1) (by omega) (by omega)
  · rcases Nat.lt_or_ge k J with q | q
    · rw [← hlo k q]
      have := h J k q (by omega)
      rw [hat] at this
      exact this
    · rw [← hhi k q]
      have := h (k + 1) J (by omega) (by omega)
      rw [hat] at this
      exact fun z => this z.symm
theorem fp_ndI {g : Nat → Bool} {v : Nat → Nat} {c : Nat} {L : List pT} : ∀ b, ndI (fp g v c L b) → ∀ j, j ≤ b → ndI (fp g v c L j) := by
  intro b
  induction b with
  | zero => intro h j hj; have : j = 0 := by omega
            subst this; exact h
  | succ b ih =>
    intro h j hj
    by_cases q : j = b + 1
    · subst q; exact h
    · refine ih ?_ j (by omega)
      have e : fp g v c L (b + 1) = if g (b + 1) then insP (fp g v c L b) (v (b + 1), c, b + 1) else fp g v c L b := rfl
      rw [e] at h
      split at h
      · exact h.ins.1
      · exact h
theorem fp_mono {g : Nat → Bool} {v : Nat → Nat} {c : Nat} {L : List pT} : ∀ b j, j ≤ b → (fp g v c L j).length ≤ (fp g v c L b).length := by
  intro b
  induction b with
  | zero => intro j hj; have : j = 0 := by omega
            subst this; exact Nat.le_refl _
  | succ b ih =>
    intro j hj
    by_cases q : j = b + 1
    · subst q; exact Nat.le_refl _
    · refine Nat.le_trans (ih j (by omega)) ?_
      have e : fp g v c L (b + 1) = if g (b + 1) then insP (fp g v c L b) (v (b + 1), c, b + 1) else fp g v c L b := rfl
      rw [e]
      split
      · rw [insP_len]; omega
      · exact Nat.le_refl _
theorem prA_nd {ap S : Nat} : ∀ n, ndI (prA ap S n) ∧ (prA ap S n).length ≤ 64 → ∀ c, c ≤ n → ndI (prA ap S c) ∧ (prA ap S c).length ≤ 64 := by
  intro n
  induction n with
  | zero => intro h c hc; have : c = 0 := by omega
            subst this; exact h
  | succ n ih =>
    intro h c hc
    by_cases q : c = n + 1
    · subst q; exact h
    · refine ih ⟨fp_ndI (bnd S) h.1 0 (Nat.zero_le _), Nat.le_trans (fp_mono (bnd S) 0 (Nat.zero_le _)) h.2⟩ c (by omega)
theorem prL_nd {ap S : Nat} (hap : ap = 1 ∨ ap = 2) (hS : S < 128) (hp : pop S ≤ 5) : ndI (prL ap S) ∧ (prL ap S).length ≤ 64 := by
  rcases hap with rfl | rfl
  · rw [prL_1 hS hp]
    exact ⟨ndB_I _ (nd_tab S hS hp).1, (nd_tab S hS hp).2⟩
  · rw [prL_2 hS hp]
    exact ⟨ndB_I _ (nd_tab2 S hS hp).1, (nd_tab2 S hS hp).2⟩
def okT (ap S N : Nat) (t : pT) : Prop := t.2.1 < N ∧ 1 ≤ t.2.2 ∧ t.2.2 ≤ bnd S ∧ t.1 = vA ap S t.2.1 t.2.2 ∧ gA ap S t.2.1 t.2.2 = true
theorem okT.mono {ap S N N2 : Nat} {t : pT} (h : okT ap S N t) (hN : N ≤ N2) : okT ap S N2 t := ⟨by have := h.1; omega, h.2⟩
theorem prA_ok {ap S : Nat} : ∀ c, alL (okT ap S c) (prA ap S c) := by
  intro c
  induction c with
  | zero => intro k hk; exact absurd hk (Nat.not_lt_zero _)
  | succ c ih => exact fp_al (fun k hk => (ih k hk).mono (by omega)) (bnd S) (fun i h1 h2 h3 => ⟨Nat.lt_succ_self c, h1, h2, rfl, h3⟩)
