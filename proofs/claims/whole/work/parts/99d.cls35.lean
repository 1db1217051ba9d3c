theorem sub_bit : ∀ S, S < 128 → ∀ j, j < 7 → (127 - S).testBit j = !S.testBit j := by decide +kernel
theorem some_bit : ∀ a, a < 128 → a ≠ 0 → ∃ j, j < 7 ∧ a.testBit j = true := by decide +kernel
theorem wi_c {S cn i q n D : Nat} (hd : d1 S cn = D) (hx : xp (ux D) i = 2 * n + 1) (hq : 2 ≤ q) : wiB S cn i q = true ↔ prB q = true ∧ ¬ hasB S (q : Int) = true ∧ (n % q = 0 ∨ (n + 1) % q = 0) := by
  unfold wiB
  rw [hd]
  have h1 := odd_div hx hq
  rw [Bool.and_eq_true, Bool.and_eq_true, Bool.or_eq_true, decide_eq_true_iff, decide_eq_true_iff, h1.1, h1.2, Bool.not_eq_true', Bool.eq_false_iff]
  exact ⟨fun h => ⟨h.1.1, h.1.2, h.2⟩, fun h => ⟨⟨h.1, h.2.1⟩, h.2.2⟩⟩
theorem wt_wo {S s i cn : Nat} (hs : s < 128) (hp : pop s ≤ 5) (h1 : s ≠ 1) (hS : S < 128) (hi : 1 ≤ i ∧ i ≤ 9) (hib : i ≤ bnd S) (hd : d1 S cn = 2 * rad s) : wtU (2 * rad s) 1 S i = woN S cn i := by
  have hu := (ux_3 s hs hp).1 h1
  have hod := (xp_odd (u := ux (2 * rad s)) (by omega) hu.2 i).1
  have hv : nvU (2 * rad s) 1 i = nn1 (ux (2 * rad s)) i := by unfold nvU; rw [if_pos rfl]
  obtain ⟨n, hn⟩ : ∃ n, n = nvU (2 * rad s) 1 i := ⟨_, rfl⟩
  have hx : xp (ux (2 * rad s)) i = 2 * n + 1 := by rw [hn, hv]; unfold nn1; omega
  have hwi : ∀ q, 2 ≤ q → (wiB S cn i q = true ↔ prB q = true ∧ ¬ hasB S (q : Int) = true ∧ (n % q = 0 ∨ (n + 1) % q = 0)) := fun q hq => wi_c hd hx hq
  have hbit := ix_bit (g := gP1 S (ux (2 * rad s))) (bnd S) i hi.1 hib
  rw [gP1_cs hs hp h1 hS hi] at hbit
  have hmb : ∀ j, j < 7 → ((mdU (2 * rad s) 1 i).testBit j = true ↔ n % sev j = 0 ∨ (n + 1) % sev j = 0) := fun j hj => by
    unfold mdU
    rw [← hn, Nat.testBit_or, Bool.or_eq_true]
    exact or_congr (mbF_bit n 7 (by omega) j hj) (mbF_bit (n + 1) 7 (by omega) j hj)
  have hoth : ∀ j, j < 7 → ((mdU (2 * rad s) 1 i &&& (127 - S)).testBit j = true ↔ (n % sev j = 0 ∨ (n + 1) % sev j = 0) ∧ ¬ S.testBit j = true) := fun j hj => by
    rw [Nat.testBit_and, Bool.and_eq_true, hmb j hj, sub_bit S hS j hj, Bool.not_eq_true', Bool.eq_false_iff]
  have hlow : ∀ j, j < 7 → (hasB S (sev j : Int) = true ↔ S.testBit j = true) := fun j hj => by
    rw [hasB_iff]
    constructor
    · rintro ⟨k, hk, e, hb⟩
      have e2 : zPf j = zPf k := by rw [zPf_sev j hj, zPf_sev k hk]; exact e
      rcases Nat.lt_trichotomy j k with r | r | r
      · have := zp_mono k (by omega) j r; omega
      · subst r; exact hb
      · have := zp_mono j (by omega) k r; omega
    · intro hb; exact ⟨j, hj, rfl, hb⟩
  have hhi : ∀ j, 7 ≤ j → j < 168 → ¬ hasB S (zPf j) = true := fun j h7 hj q => by
    obtain ⟨k, hk, e, _⟩ := hasB_iff.mp q
    have := zp_mono j hj k (by omega)
    rw [zPf_sev k hk] at this
    omega
  have hzN : ∀ j, j < 168 → ∃ z : Nat, zPf j = (z : Int) ∧ 2 ≤ z ∧ z ≤ 997 := fun j hj => by
    have := zPf_R j hj
    exact ⟨(zPf j).toNat, by omega, by omega, by omega⟩
  unfold woN wtU
  rw [hd, ← hn]
  by_cases hc : csB (2 * rad s) 1 S i = true
  · rw [if_pos (hbit.mpr hc)]
    unfold csB at hc
    rw [Bool.and_eq_true, decide_eq_true_iff] at hc
    rw [if_pos hc.2, if_pos hc.1]
  · rw [if_neg (fun q => hc (hbit.mp q))]
    by_cases ho : mdU (2 * rad s) 1 i &&& (127 - S) = 0
    · have hcf : ¬ cfB (2 * rad s) 1 i = true := fun q => hc (by unfold csB; rw [q, Bool.true_and, decide_eq_true_iff]; exact ho)
      rw [if_pos ho, if_neg hcf]
      have hw : ∀ q, 2 ≤ q → q < 1000 → wiB S cn i q = true → ∃ j, 7 ≤ j ∧ j < 168 ∧ zPf j = (q : Int) ∧ gdP n j := fun q h2 h3 h4 => by
        obtain ⟨g1, g2, g3⟩ := (hwi q h2).mp h4
        obtain ⟨j, hj, e⟩ := zp_all q h3 g1
        refine ⟨j, ?_, hj, e, ?_⟩
        · rcases Nat.lt_or_ge j 7 with r | r
          · have e2 := zPf_sev j r
            have e3 : sev j = q := by omega
            subst e3
            have := (hoth j r).mpr ⟨g3, fun z => g2 ((hlow j r).mpr z)⟩
            rw [ho, Nat.zero_testBit] at this
            exact absurd this (by decide)
          · exact r
        · unfold gdP; rw [e, Int.toNat_natCast]; exact g3
      rcases gdA_spec n 161 7 with ⟨g1, g2⟩ | ⟨j, g1, g2, g3, g4, g5⟩
      · have hno : fsA (wiB S cn i) 2 998 = -1 := fsA_no 998 2 (fun q h2 h3 h4 => by
          obtain ⟨j, k1, k2, k3, k4⟩ := hw q h2 (by omega) h4
          exact g2 j k1 (by omega) k4)
        rw [hno, if_pos rfl, g1]
      · obtain ⟨z, e, z2, z9⟩ := hzN j (by omega)
        have hf : wiB S cn i z = true := (hwi z z2).mpr ⟨by have := zp_pr j (by omega); rw [e, Int.toNat_natCast] at this; exact this, by rw [← e]; exact hhi j g1 (by omega), by unfold gdP at g4; rw [e, Int.toNat_natCast] at g4; exact g4⟩
        have hst : fsA (wiB S cn i) 2 998 = (z : Int) := fsA_eq 998 2 hf z2 (by omega) (fun q h2 h3 h4 => by
          obtain ⟨j2, k1, k2, k3, k4⟩ := hw q h2 (by omega) h4
          rcases Nat.lt_or_ge j2 j with r | r
          · exact g5 j2 k1 r k4
          · rcases Nat.eq_or_lt_of_le r with r2 | r2
            · subst r2; omega
            · have := zp_mono j2 k2 j r2; omega)
        rw [hst, if_neg (by omega), g3, e]
    · rw [if_neg ho]
      have hat := (andn_tab _ (mdU_lt (2 * rad s) 1 i) S hS).2
      obtain ⟨b, hb7, hbb⟩ := some_bit _ hat ho
      obtain ⟨j, g1, g2, g3, g4, g5⟩ := lsF_spec (mdU (2 * rad s) 1 i &&& (127 - S)) 7 0 ⟨b, by omega, by omega, hbb⟩
      have hj : j < 7 := by omega
      have h4 := (hoth j hj).mp g4
      have hs2 := sev_2 j hj
      have e := zPf_sev j hj
      have hf : wiB S cn i (sev j) = true := (hwi _ hs2.1).mpr ⟨by have := zp_pr j (by omega); rw [e, Int.toNat_natCast] at this; exact this, fun q => h4.2 ((hlow j hj).mp q), h4.1⟩
      have hst : fsA (wiB S cn i) 2 998 = (sev j : Int) := fsA_eq 998 2 hf hs2.1 (by omega) (fun q h2 h3 h6 => by
        obtain ⟨k1, k2, k3⟩ := (hwi q h2).mp h6
        obtain ⟨j2, hj2, e2⟩ := zp_all q (by omega) k1
        have hlt : j2 < j := by
          rcases Nat.lt_or_ge j2 j with r | r
          · exact r
          · rcases Nat.eq_or_lt_of_le r with r2 | r2
            · subst r2; omega
            · have := zp_mono j2 hj2 j r2; omega
        have e3 := zPf_sev j2 (by omega)
        have e4 : sev j2 = q := by omega
        subst e4
        exact g5 j2 (by omega) hlt ((hoth j2 (by omega)).mpr ⟨k3, fun z => k2 ((hlow j2 (by omega)).mpr z)⟩))
      rw [hst, if_neg (by omega), g3]
