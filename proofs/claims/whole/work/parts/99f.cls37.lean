theorem cK.sep {G : zG} {c w : Int} {cap cap2 : Nat} (h : cK G c cap) (k : cK G w cap2) (hne : c ≠ w) : c + 5 ≤ w ∨ w + 5 ≤ c := by
  obtain ⟨a0, az, ⟨a1, -⟩, ⟨a2, -⟩, ⟨a3, a4, -⟩⟩ := h
  obtain ⟨b0, bz, ⟨b1, -⟩, ⟨b2, -⟩, ⟨b3, b4, -⟩⟩ := k
  rcases Int.lt_or_lt_of_ne hne with q | q
  · by_cases r : c + 5 ≤ w
    · exact Or.inl r
    exfalso
    have hc : w = c + 1 ∨ w = c + 2 ∨ w = c + 3 ∨ w = c + 4 := by omega
    have f4 : c + 3 + 1 = c + 4 := by omega
    rw [f4] at a4
    rcases hc with e | e | e | e <;> rw [e] at b0 <;> omega
  · by_cases r : w + 5 ≤ c
    · exact Or.inr r
    exfalso
    have hc : c = w + 1 ∨ c = w + 2 ∨ c = w + 3 ∨ c = w + 4 := by omega
    have f4 : w + 3 + 1 = w + 4 := by omega
    rw [f4] at b4
    rcases hc with e | e | e | e <;> rw [e] at a0 <;> omega
theorem ucK.sep {G : zG} {u c : Int} {cap : Nat} (h : uK G u) (k : cK G c cap) : u + 9 ≤ c ∨ c + 5 ≤ u := by
  obtain ⟨a0, az, ⟨a2, a3, -⟩, ⟨a4, a5, -⟩, ⟨a6, -⟩, ⟨a7, -⟩, ⟨a8, -⟩, ⟨a9, -⟩⟩ := h
  obtain ⟨b0, bz, ⟨b1, -⟩, ⟨b2, -⟩, ⟨b3, b4, -⟩⟩ := k
  have hne : u ≠ c := fun q => by rw [q] at a0; omega
  rcases Int.lt_or_lt_of_ne hne with q | q
  · by_cases r : u + 9 ≤ c
    · exact Or.inl r
    exfalso
    have hc : c = u + 1 ∨ c = u + 2 ∨ c = u + 3 ∨ c = u + 4 ∨ c = u + 5 ∨ c = u + 6 ∨ c = u + 7 ∨ c = u + 8 := by omega
    have f2 : u + 1 + 1 = u + 2 := by omega
    have f4 : u + 3 + 1 = u + 4 := by omega
    rw [f2] at a3
    rw [f4] at a5
    rcases hc with e | e | e | e | e | e | e | e <;> rw [e] at b0 <;> omega
  · by_cases r : c + 5 ≤ u
    · exact Or.inr r
    exfalso
    have hc : u = c + 1 ∨ u = c + 2 ∨ u = c + 3 ∨ u = c + 4 := by omega
    have f4 : c + 3 + 1 = c + 4 := by omega
    rw [f4] at b4
    rcases hc with e | e | e | e <;> rw [e] at a0 <;> omega
