/-! ===== from the law's entry into the z layer ===== -/
def zPr : List Int := [2, 3, 5, 7, 11, 13, 17, 19, 23, 29, 31, 37, 41, 43, 47, 53, 59, 61, 67, 71, 73, 79, 83, 89, 97, 101, 103, 107, 109, 113, 127, 131, 137, 139, 149, 151, 157, 163, 167, 173, 179, 181, 191, 193, 197, 199, 211, 223, 227, 229, 233, 239, 241, 251, 257, 263, 269, 271, 277, 281, 283, 293, 307, 311, 313, 317, 331, 337, 347, 349, 353, 359, 367, 373, 379, 383, 389, 397, 401, 409, 419, 421, 431, 433, 439, 443, 449, 457, 461, 463, 467, 479, 487, 491, 499, 503, 509, 521, 523, 541, 547, 557, 563, 569, 571, 577, 587, 593, 599, 601, 607, 613, 617, 619, 631, 641, 643, 647, 653, 659, 661, 673, 677, 683, 691, 701, 709, 719, 727, 733, 739, 743, 751, 757, 761, 769, 773, 787, 797, 809, 811, 821, 823, 827, 829, 839, 853, 857, 859, 863, 877, 881, 883, 887, 907, 911, 919, 929, 937, 941, 947, 953, 967, 971, 977, 983, 991, 997]
def zPf (j : Nat) : Int := zPr.getD j 0
abbrev zLT : Term := .static "SmoothNeighbours$Primes" "LIST" "[I"
theorem zLT_el : ∀ j, j < 168 → Cond.eq (.elem zLT (.int (Int32.ofNat j))) (.int (Int32.ofInt (zPf j))) ∈ flatC (Jvm.Cond.and given_1 narrow_1) := by
  intro j hj
  match j, hj with
  | 0, _ => exact List.mem_of_getElem? (i := 7) (by decide +kernel)
  | 1, _ => exact List.mem_of_getElem? (i := 8) (by decide +kernel)
  | 2, _ => exact List.mem_of_getElem? (i := 9) (by decide +kernel)
  | 3, _ => exact List.mem_of_getElem? (i := 10) (by decide +kernel)
  | 4, _ => exact List.mem_of_getElem? (i := 11) (by decide +kernel)
  | 5, _ => exact List.mem_of_getElem? (i := 12) (by decide +kernel)
  | 6, _ => exact List.mem_of_getElem? (i := 13) (by decide +kernel)
  | 7, _ => exact List.mem_of_getElem? (i := 14) (by decide +kernel)
  | 8, _ => exact List.mem_of_getElem? (i := 15) (by decide +kernel)
  | 9, _ => exact List.mem_of_getElem? (i := 16) (by decide +kernel)
  | 10, _ => exact List.mem_of_getElem? (i := 17) (by decide +kernel)
  | 11, _ => exact List.mem_of_getElem? (i := 18) (by decide +kernel)
  | 12, _ => exact List.mem_of_getElem? (i := 19) (by decide +kernel)
  | 13, _ => exact List.mem_of_getElem? (i := 20) (by decide +kernel)
  | 14, _ => exact List.mem_of_getElem? (i := 21) (by decide +kernel)
  | 15, _ => exact List.mem_of_getElem? (i := 22) (by decide +kernel)
  | 16, _ => exact List.mem_of_getElem? (i := 23) (by decide +kernel)
  | 17, _ => exact List.mem_of_getElem? (i := 24) (by decide +kernel)
  | 18, _ => exact List.mem_of_getElem? (i := 25) (by decide +kernel)
  | 19, _ => exact List.mem_of_getElem? (i := 26) (by decide +kernel)
  | 20, _ => exact List.mem_of_getElem? (i := 27) (by decide +kernel)
  | 21, _ => exact List.mem_of_getElem? (i := 28) (by decide +kernel)
  | 22, _ => exact List.mem_of_getElem? (i := 29) (by decide +kernel)
  | 23, _ => exact List.mem_of_getElem? (i := 30) (by decide +kernel)
  | 24, _ => exact List.mem_of_getElem? (i := 31) (by decide +kernel)
  | 25, _ => exact List.mem_of_getElem? (i := 32) (by decide +kernel)
  | 26, _ => exact List.mem_of_getElem? (i := 33) (by decide +kernel)
  | 27, _ => exact List.mem_of_getElem? (i := 34) (by decide +kernel)
  | 28, _ => exact List.mem_of_getElem? (i := 35) (by decide +kernel)
  | 29, _ => exact List.mem_of_getElem? (i := 36) (by decide +kernel)
  | 30, _ => exact List.mem_of_getElem? (i := 37) (by decide +kernel)
  | 31, _ => exact List.mem_of_getElem? (i := 38) (by decide +kernel)
  | 32, _ => exact List.mem_of_getElem? (i := 39) (by decide +kernel)
  | 33, _ => exact List.mem_of_getElem? (i := 40) (by decide +kernel)
  | 34, _ => exact List.mem_of_getElem? (i := 41) (by decide +kernel)
  | 35, _ => exact List.mem_of_getElem? (i := 42) (by decide +kernel)
  | 36, _ => exact List.mem_of_getElem? (i := 43) (by decide +kernel)
  | 37, _ => exact List.mem_of_getElem? (i := 44) (by decide +kernel)
  | 38, _ => exact List.mem_of_getElem? (i := 45) (by decide +kernel)
  | 39, _ => exact List.mem_of_getElem? (i := 46) (by decide +kernel)
  | 40, _ => exact List.mem_of_getElem? (i := 47) (by decide +kernel)
  | 41, _ => exact List.mem_of_getElem? (i := 48) (by decide +kernel)
  | 42, _ => exact List.mem_of_getElem? (i := 49) (by decide +kernel)
  | 43, _ => exact List.mem_of_getElem? (i := 50) (by decide +kernel)
  | 44, _ => exact List.mem_of_getElem? (i := 51) (by decide +kernel)
  | 45, _ => exact List.mem_of_getElem? (i := 52) (by decide +kernel)
  | 46, _ => exact List.mem_of_getElem? (i := 53) (by decide +kernel)
  | 47, _ => exact List.mem_of_getElem? (i := 54) (by decide +kernel)
  | 48, _ => exact List.mem_of_getElem? (i := 55) (by decide +kernel)
  | 49, _ => exact List.mem_of_getElem? (i := 56) (by decide +kernel)
  | 50, _ => exact List.mem_of_getElem? (i := 57) (by decide +kernel)
  | 51, _ => exact List.mem_of_getElem? (i := 58) (by decide +kernel)
  | 52, _ => exact List.mem_of_getElem? (i := 59) (by decide +kernel)
  | 53, _ => exact List.mem_of_getElem? (i := 60) (by decide +kernel)
  | 54, _ => exact List.mem_of_getElem? (i := 61) (by decide +kernel)
  | 55, _ => exact List.mem_of_getElem? (i := 62) (by decide +kernel)
  | 56, _ => exact List.mem_of_getElem? (i := 63) (by decide +kernel)
  | 57, _ => exact List.mem_of_getElem? (i := 64) (by decide +kernel)
  | 58, _ => exact List.mem_of_getElem? (i := 65) (by decide +kernel)
  | 59, _ => exact List.mem_of_getElem? (i := 66) (by decide +kernel)
  | 60, _ => exact List.mem_of_getElem? (i := 67) (by decide +kernel)
  | 61, _ => exact List.mem_of_getElem? (i := 68) (by decide +kernel)
  | 62, _ => exact List.mem_of_getElem? (i := 69) (by decide +kernel)
  | 63, _ => exact List.mem_of_getElem? (i := 70) (by decide +kernel)
  | 64, _ => exact List.mem_of_getElem? (i := 71) (by decide +kernel)
  | 65, _ => exact List.mem_of_getElem? (i := 72) (by decide +kernel)
  | 66, _ => exact List.mem_of_getElem? (i := 73) (by decide +kernel)
  | 67, _ => exact List.mem_of_getElem? (i := 74) (by decide +kernel)
  | 68, _ => exact List.mem_of_getElem? (i := 75) (by decide +kernel)
  | 69, _ => exact List.mem_of_getElem? (i := 76) (by decide +kernel)
  | 70, _ => exact List.mem_of_getElem? (i := 77) (by decide +kernel)
  | 71, _ => exact List.mem_of_getElem? (i := 78) (by decide +kernel)
  | 72, _ => exact List.mem_of_getElem? (i := 79) (by decide +kernel)
  | 73, _ => exact List.mem_of_getElem? (i := 80) (by decide +kernel)
  | 74, _ => exact List.mem_of_getElem? (i := 81) (by decide +kernel)
  | 75, _ => exact List.mem_of_getElem? (i := 82) (by decide +kernel)
  | 76, _ => exact List.mem_of_getElem? (i := 83) (by decide +kernel)
  | 77, _ => exact List.mem_of_getElem? (i := 84) (by decide +kernel)
  | 78, _ => exact List.mem_of_getElem? (i := 85) (by decide +kernel)
  | 79, _ => exact List.mem_of_getElem? (i := 86) (by decide +kernel)
  | 80, _ => exact List.mem_of_getElem? (i := 87) (by decide +kernel)
  | 81, _ => exact List.mem_of_getElem? (i := 88) (by decide +kernel)
  | 82, _ => exact List.mem_of_getElem? (i := 89) (by decide +kernel)
  | 83, _ => exact List.mem_of_getElem? (i := 90) (by decide +kernel)
  | 84, _ => exact List.mem_of_getElem? (i := 91) (by decide +kernel)
  | 85, _ => exact List.mem_of_getElem? (i := 92) (by decide +kernel)
  | 86, _ => exact List.mem_of_getElem? (i := 93) (by decide +kernel)
  | 87, _ => exact List.mem_of_getElem? (i := 94) (by decide +kernel)
  | 88, _ => exact List.mem_of_getElem? (i := 95) (by decide +kernel)
  | 89, _ => exact List.mem_of_getElem? (i := 96) (by decide +kernel)
  | 90, _ => exact List.mem_of_getElem? (i := 97) (by decide +kernel)
  | 91, _ => exact List.mem_of_getElem? (i := 98) (by decide +kernel)
  | 92, _ => exact List.mem_of_getElem? (i := 99) (by decide +kernel)
  | 93, _ => exact List.mem_of_getElem? (i := 100) (by decide +kernel)
  | 94, _ => exact List.mem_of_getElem? (i := 101) (by decide +kernel)
  | 95, _ => exact List.mem_of_getElem? (i := 102) (by decide +kernel)
  | 96, _ => exact List.mem_of_getElem? (i := 103) (by decide +kernel)
  | 97, _ => exact List.mem_of_getElem? (i := 104) (by decide +kernel)
  | 98, _ => exact List.mem_of_getElem? (i := 105) (by decide +kernel)
  | 99, _ => exact List.mem_of_getElem? (i := 106) (by decide +kernel)
  | 100, _ => exact List.mem_of_getElem? (i := 107) (by decide +kernel)
  | 101, _ => exact List.mem_of_getElem? (i := 108) (by decide +kernel)
  | 102, _ => exact List.mem_of_getElem? (i := 109) (by decide +kernel)
  | 103, _ => exact List.mem_of_getElem? (i := 110) (by decide +kernel)
  | 104, _ => exact List.mem_of_getElem? (i := 111) (by decide +kernel)
  | 105, _ => exact List.mem_of_getElem? (i := 112) (by decide +kernel)
  | 106, _ => exact List.mem_of_getElem? (i := 113) (by decide +kernel)
  | 107, _ => exact List.mem_of_getElem? (i := 114) (by decide +kernel)
  | 108, _ => exact List.mem_of_getElem? (i := 115) (by decide +kernel)
  | 109, _ => exact List.mem_of_getElem? (i := 116) (by decide +kernel)
  | 110, _ => exact List.mem_of_getElem? (i := 117) (by decide +kernel)
  | 111, _ => exact List.mem_of_getElem? (i := 118) (by decide +kernel)
  | 112, _ => exact List.mem_of_getElem? (i := 119) (by decide +kernel)
  | 113, _ => exact List.mem_of_getElem? (i := 120) (by decide +kernel)
  | 114, _ => exact List.mem_of_getElem? (i := 121) (by decide +kernel)
  | 115, _ => exact List.mem_of_getElem? (i := 122) (by decide +kernel)
  | 116, _ => exact List.mem_of_getElem? (i := 123) (by decide +kernel)
  | 117, _ => exact List.mem_of_getElem? (i := 124) (by decide +kernel)
  | 118, _ => exact List.mem_of_getElem? (i := 125) (by decide +kernel)
  | 119, _ => exact List.mem_of_getElem? (i := 126) (by decide +kernel)
  | 120, _ => exact List.mem_of_getElem? (i := 127) (by decide +kernel)
  | 121, _ => exact List.mem_of_getElem? (i := 128) (by decide +kernel)
  | 122, _ => exact List.mem_of_getElem? (i := 129) (by decide +kernel)
  | 123, _ => exact List.mem_of_getElem? (i := 130) (by decide +kernel)
  | 124, _ => exact List.mem_of_getElem? (i := 131) (by decide +kernel)
  | 125, _ => exact List.mem_of_getElem? (i := 132) (by decide +kernel)
  | 126, _ => exact List.mem_of_getElem? (i := 133) (by decide +kernel)
  | 127, _ => exact List.mem_of_getElem? (i := 134) (by decide +kernel)
  | 128, _ => exact List.mem_of_getElem? (i := 135) (by decide +kernel)
  | 129, _ => exact List.mem_of_getElem? (i := 136) (by decide +kernel)
  | 130, _ => exact List.mem_of_getElem? (i := 137) (by decide +kernel)
  | 131, _ => exact List.mem_of_getElem? (i := 138) (by decide +kernel)
  | 132, _ => exact List.mem_of_getElem? (i := 139) (by decide +kernel)
  | 133, _ => exact List.mem_of_getElem? (i := 140) (by decide +kernel)
  | 134, _ => exact List.mem_of_getElem? (i := 141) (by decide +kernel)
  | 135, _ => exact List.mem_of_getElem? (i := 142) (by decide +kernel)
  | 136, _ => exact List.mem_of_getElem? (i := 143) (by decide +kernel)
  | 137, _ => exact List.mem_of_getElem? (i := 144) (by decide +kernel)
  | 138, _ => exact List.mem_of_getElem? (i := 145) (by decide +kernel)
  | 139, _ => exact List.mem_of_getElem? (i := 146) (by decide +kernel)
  | 140, _ => exact List.mem_of_getElem? (i := 147) (by decide +kernel)
  | 141, _ => exact List.mem_of_getElem? (i := 148) (by decide +kernel)
  | 142, _ => exact List.mem_of_getElem? (i := 149) (by decide +kernel)
  | 143, _ => exact List.mem_of_getElem? (i := 150) (by decide +kernel)
  | 144, _ => exact List.mem_of_getElem? (i := 151) (by decide +kernel)
  | 145, _ => exact List.mem_of_getElem? (i := 152) (by decide +kernel)
  | 146, _ => exact List.mem_of_getElem? (i := 153) (by decide +kernel)
  | 147, _ => exact List.mem_of_getElem? (i := 154) (by decide +kernel)
  | 148, _ => exact List.mem_of_getElem? (i := 155) (by decide +kernel)
  | 149, _ => exact List.mem_of_getElem? (i := 156) (by decide +kernel)
  | 150, _ => exact List.mem_of_getElem? (i := 157) (by decide +kernel)
  | 151, _ => exact List.mem_of_getElem? (i := 158) (by decide +kernel)
  | 152, _ => exact List.mem_of_getElem? (i := 159) (by decide +kernel)
  | 153, _ => exact List.mem_of_getElem? (i := 160) (by decide +kernel)
  | 154, _ => exact List.mem_of_getElem? (i := 161) (by decide +kernel)
  | 155, _ => exact List.mem_of_getElem? (i := 162) (by decide +kernel)
  | 156, _ => exact List.mem_of_getElem? (i := 163) (by decide +kernel)
  | 157, _ => exact List.mem_of_getElem? (i := 164) (by decide +kernel)
  | 158, _ => exact List.mem_of_getElem? (i := 165) (by decide +kernel)
  | 159, _ => exact List.mem_of_getElem? (i := 166) (by decide +kernel)
  | 160, _ => exact List.mem_of_getElem? (i := 167) (by decide +kernel)
  | 161, _ => exact List.mem_of_getElem? (i := 168) (by decide +kernel)
  | 162, _ => exact List.mem_of_getElem? (i := 169) (by decide +kernel)
  | 163, _ => exact List.mem_of_getElem? (i := 170) (by decide +kernel)
  | 164, _ => exact List.mem_of_getElem? (i := 171) (by decide +kernel)
  | 165, _ => exact List.mem_of_getElem? (i := 172) (by decide +kernel)
  | 166, _ => exact List.mem_of_getElem? (i := 173) (by decide +kernel)
  | 167, _ => exact List.mem_of_getElem? (i := 174) (by decide +kernel)
  | j + 168, hj => omega
def zStart (G0 : zG) (b L : Nat) (xs : Nat → Int32) : Prop := gk G0 (b : Int) = 6 ∧ gn G0 (b : Int) = (L : Int) ∧ (∀ j : Nat, j < L → gc G0 (b : Int) (j : Int) = (xs j).toInt) ∧ gk G0 (gl G0) = 6 ∧ gn G0 (gl G0) = 168 ∧ (∀ j : Nat, gc G0 (gl G0) (j : Int) = zPf j) ∧ (b : Int) < gb G0 ∧ 0 ≤ gl G0 ∧ gl G0 < gb G0 ∧ gz G0 = gb G0 ∧ gs G0 = 0 ∧ (∀ a : Int, (gb G0 : Int) ≤ a → gk G0 a = 0)
theorem zK_of {s : State} {args : Array Value} (hts : ∀ w ∈ lw_tbl, w.before args s = true) : ∃ D : zD, zK D s := by
  have htz : ∀ w ∈ zWS, w.before args s = true := fun w hw => hts w (List.mem_filter.mp hw).1
  have htt : ∀ w ∈ tables_1, w.before args s = true := fun w hw => hts w (List.mem_append_right _ hw)
  have h1 : ∀ ci : Nat, ∃ (c : ClassId) (iS : Nat → Nat), ∀ q, vwCl[ci]? = some q → u_Kn s q.1 q.2.1 q.2.2 c iS := by
    intro ci
    cases hq : vwCl[ci]? with
    | none => exact ⟨0, fun _ => 0, fun q h => by cases h⟩
    | some q =>
      obtain ⟨c, iS, h⟩ := u_known htz (zcls_ok ci q hq).1 (htz _ (zcls_ok ci q hq).2.2.2.1)
      exact ⟨c, iS, fun q' h' => by cases h'; exact h⟩
  have arr : ∀ t : FieldType, (∃ (cA : ClassId) (kA : Class) (comp : ClassId), s.vm.findClass ("[" ++ t.toString) = some cA ∧ s.vm.classes[cA]? = some kA ∧ kA.kind = .array comp t ∧ (∀ C, t = .object C → s.vm.findClass C = some comp)) → ∃ cA, ArrOfT s cA t ∧ va_RA s cA t := by
    rintro t ⟨cA, kA, comp, g1, g2, g3, g4⟩
    refine ⟨cA, fun n z => ⟨fun k h => (by cases h), kA, g2, comp, g3⟩, ?_⟩
    cases t with
    | object C => exact ⟨kA, comp, g2, g3, g4 C rfl, g1⟩
    | _ => exact g1
  have prim : ∀ t : FieldType, (∀ C, t ≠ .object C) → (Cond.arrayClass t).before args s = true → ∃ cA, ArrOfT s cA t ∧ va_RA s cA t := by
    intro t ht h
    obtain ⟨c, k, comp, g1, g2, g3⟩ := Cond.arrayClass_spec h
    exact arr t ⟨c, k, comp, g1, g2, g3, fun C e => absurd e (ht C)⟩
  have obj : ∀ C : String, va_AO C s → ∃ cA, ArrOfT s cA (.object C) ∧ va_RA s cA (.object C) := by
    intro C h
    obtain ⟨comp, c, k, g1, g2, g3, g4, g5⟩ := Cond.arrayOver_spec h
    exact arr _ ⟨c, k, comp, g5, g3, g4, fun C' e => by cases e; exact g1⟩
  have hU : va_AO "SmoothNeighbours$Unit" s := va_AO.of (htt _ (by decide +kernel))
  have hCo : va_AO "SmoothNeighbours$Couple" s := va_AO.of (htt _ (by decide +kernel))
  have hB : va_AO "SmoothNeighbours$Big" s := va_AO.of (htt _ (by decide +kernel))
  obtain ⟨a1, p1⟩ := prim .int (fun C => by intro h; cases h) (htz _ zac_int)
  obtain ⟨a2, p2⟩ := prim .byte (fun C => by intro h; cases h) (htz _ zac_byte)
  obtain ⟨a3, p3⟩ := obj _ hU
  obtain ⟨a4, p4⟩ := obj _ hCo
  obtain ⟨a5, p5⟩ := obj _ hB
  refine ⟨(fun ci => (h1 ci).choose, fun ci => (h1 ci).choose_spec.choose, fun k => match k with | 1 => a1 | 2 => a2 | 3 => a3 | 4 => a4 | _ => a5), ⟨fun ci q hq => (h1 ci).choose_spec.choose_spec q hq, ?_⟩, ⟨hU, hCo, hB⟩, ?_⟩
  · intro k q hq
    match k, hq with
    | 0, hq => cases hq; exact p1
    | 1, hq => cases hq; exact p2
    | 2, hq => cases hq; exact p3
    | 3, hq => cases hq; exact p4
    | 4, hq => cases hq; exact p5
    | j + 5, hq => simp [zTys] at hq
  · intro w hw
    have hwt : w ∈ tables_1 := by
      simp only [zNest, List.mem_cons, List.mem_nil_iff, or_false] at hw
      rcases hw with rfl | rfl | rfl | rfl <;> decide +kernel
    refine va_Nw.of ?_ (htt w hwt)
    simp only [zNest, List.mem_cons, List.mem_nil_iff, or_false] at hw
    rcases hw with rfl | rfl | rfl | rfl <;> rfl
theorem zG_of {s : State} {b L : Nat} {xs : Nat → Int32} (hL : L ≤ 3072) (hX : va_X b L xs s s.heap) (hbl : b < s.heap.size) (hts : ∀ w ∈ lw_tbl, w.before #[Value.ref b] s = true) (hgv : (Jvm.Cond.and given_1 narrow_1).before #[Value.ref b] s = true) (D : zD) : ∃ G0 : zG, zStart G0 b L xs ∧ zH D s G0 s.heap := by
  have hs := flat_of_before _ hgv
  have htz : ∀ w ∈ tables_1, w.before #[Value.ref b] s = true := fun w hw => hts w (List.mem_append_right _ hw)
  have harr : (Cond.arrayOf zLT .int).before #[Value.ref b] s = true := hs _ (by decide +kernel)
  have hlen : (Cond.eq (.length zLT) (.int 168)).before #[Value.ref b] s = true := hs _ (by decide +kernel)
  have hne : (Cond.not (.eq (.arg 0) zLT)).before #[Value.ref b] s = true := hs _ (by decide +kernel)
  obtain ⟨t, ht, hT⟩ := va_Tof (N := 168) (f := fun j => .int (Int32.ofInt (zPf j))) (A := fun q => s.heap.size ≤ q) (by decide) harr (va_eqt hlen) (fun j hj => va_eqt (hs _ (zLT_el j hj))) (fun a h q => by omega)
  have hZ := va_Zof (A := fun q => s.heap.size ≤ q) (htz (.laysStatic "SmoothNeighbours$Primes" "LIST" "[I") (by decide +kernel)) (htz (.initialized "SmoothNeighbours$Primes") (by decide +kernel)) ht (fun a h q => by omega)
  have htb : t ≠ b := by
    intro e
    subst e
    have e2 : (Term.arg 0).eval #[Value.ref t] s none [] s = some (.ref t) := rfl
    simp [Cond.before, Cond.holds, Cond.value, e2, ht] at hne
  obtain ⟨cell, t1, t2, t3, t4, t5, t6, t7⟩ := hT
  obtain ⟨scr, x1, x2, x3, x4, x5⟩ := hX
  have htl : t < s.heap.size := (Array.getElem?_eq_some_iff.mp t1).1
  have hbt : (b : Int) ≠ (t : Int) := by omega
  refine ⟨(fun a => if a = (b : Int) ∨ a = (t : Int) then 6 else 0, fun a => if a = (b : Int) then (L : Int) else 168, fun a i => if a = (b : Int) then (xs i.toNat).toInt else zPf i.toNat, s.heap.size, 0, s.heap.size, (t : Int)), ⟨if_pos (Or.inl rfl), if_pos rfl, fun j hj => if_pos rfl, if_pos (Or.inr rfl), if_neg (fun q => hbt q.symm), fun j => (if_neg (fun q => hbt q.symm)).trans rfl, by show (b : Int) < (s.heap.size : Int); omega, by show (0 : Int) ≤ (t : Int); omega, by show (t : Int) < (s.heap.size : Int); omega, rfl, rfl, fun a ha => if_neg (fun q => by have : (s.heap.size : Int) ≤ a := ha; omega)⟩, rfl, Nat.le_refl _, fun a => ?_, ?_⟩
  · by_cases h1 : a = (b : Int)
    · subst h1
      refine Or.inr ⟨by omega, ?_, Or.inl ⟨if_pos (Or.inl rfl), scr, x1, x2, x3, ?_⟩⟩
      · show 0 ≤ (if (b : Int) = b then (L : Int) else 168) ∧ _ ≤ _
        rw [if_pos rfl]
        show 0 ≤ (L : Int) ∧ (if (b : Int) = b then (L : Int) else 168) ≤ 2147483647
        rw [if_pos rfl]
        omega
      · have e : gn ((fun a => if a = (b : Int) ∨ a = (t : Int) then 6 else 0, fun a => if a = (b : Int) then (L : Int) else 168, fun a i => if a = (b : Int) then (xs i.toNat).toInt else zPf i.toNat, s.heap.size, 0, s.heap.size, (t : Int)) : zG) (b : Int) = (L : Int) := if_pos rfl
        rw [e, Int.toNat_natCast]
        refine ⟨by omega, by rw [x4], fun j hj => ?_, fun h => h⟩
        rw [x5 j hj]
        show some (Value.int (xs j)) = some (Value.int (Int32.ofInt (if (b : Int) = b then (xs (j : Int).toNat).toInt else zPf (j : Int).toNat)))
        rw [if_pos rfl, Int32.ofInt_toInt]
        rfl
    · by_cases h2 : a = (t : Int)
      · subst h2
        refine Or.inr ⟨by omega, ?_, Or.inl ⟨if_pos (Or.inr rfl), cell, t1, t2, t3, ?_⟩⟩
        · show 0 ≤ (if (t : Int) = b then (L : Int) else 168) ∧ (if (t : Int) = b then (L : Int) else 168) ≤ 2147483647
          rw [if_neg h1]
          omega
        · have e : gn ((fun a => if a = (b : Int) ∨ a = (t : Int) then 6 else 0, fun a => if a = (b : Int) then (L : Int) else 168, fun a i => if a = (b : Int) then (xs i.toNat).toInt else zPf i.toNat, s.heap.size, 0, s.heap.size, (t : Int)) : zG) (t : Int) = 168 := if_neg h1
          rw [e]
          refine ⟨t4, t5, fun j hj => ?_, fun h => h⟩
          rw [t6 j hj]
          show some (Value.int (Int32.ofInt (zPf j))) = some (Value.int (Int32.ofInt (if (t : Int) = b then (xs (j : Int).toNat).toInt else zPf (j : Int).toNat)))
          rw [if_neg h1]
          rfl
      · exact Or.inl (if_neg (fun q => q.elim h1 h2))
  · show va_Z _ _ _ (zcv (2, (t : Int))) _ _ _
    rw [zref (by omega)]
    exact hZ
theorem zLawN : M_Law_law.1.name ≠ "<init>" := by decide +kernel
theorem zWhole {p : Program} {e : Env} {s : State} {m : MethodId} {below : List Frame} {meth : Method} {c : Code} (l : Launch) {b L : Nat} {xs : Nat → Int32} (hL : L ≤ 3072) (hx : p.tables.exec = Jvm.exec) (hb : c.code = code) (hr : meth.sig.returnType = ret) (hml : c.maxLocals = 4) (hown : s.vm.findClass "SmoothNeighboursLaw" = some m.cls) (hts : ∀ w ∈ lw_tbl, w.before #[Value.ref b] s = true) (hX : va_X b L xs s s.heap) (hbl : b < s.heap.size) (hgv : (Jvm.Cond.and given_1 narrow_1).before #[Value.ref b] s = true)
    (Q : State → Prop) (hQ : ∀ (H : Heap) (pc : Nat) (ls : Array Slot), decode code pc = .ok (.ireturn, 1) → W p l e room_1 s m #[Value.ref b] below meth c H [] 600000 7302250 Q (F0 m pc ls [.int 1]))
    (spec : ∀ G0 : zG, zStart G0 b L xs → ZE 12 M_Law_law G0 0 [(2, (b : Int)), (9, 0), (9, 0), (9, 0)] [] (fun r G' => r = some (0, 1) ∧ gz G' ≤ gz G0 + 600000 ∧ gs G' ≤ gs G0 + 7302250)) :
    W p l e room_1 s m #[Value.ref b] below meth c s.heap [] 0 0 Q (entryFrame m ([Value.ref b] : List Value).toArray 4) := by
  obtain ⟨D, hK⟩ := zK_of hts
  obtain ⟨G0, hS, hH⟩ := zG_of hL hX hbl hts hgv D
  obtain ⟨r, G', ⟨rfl, h1, h2⟩, hu, hs⟩ := spec G0 hS
  have hC : zC M_Law_law D p s m #[Value.ref b] meth c := ⟨hx, hb, hml, hown, fun w hw => hts w (List.mem_filter.mp hw).1, hK, fun q => absurd q zLawN⟩
  rw [lg_entry_eq]
  have hent : zLs ((lg_sl ([(2, (b : Int))].map zcv) ++ List.replicate (4 - (lg_sl ([(2, (b : Int))].map zcv)).length) Slot.unset).toArray) 4 (zEntP [(2, (b : Int))] 4) := zLs.entry (fun w hw => by rw [List.mem_singleton] at hw; subst hw; exact (by decide : 2 ≤ 4)) (Nat.le_of_ble_eq_true rfl)
  have e1 : [(2, (b : Int))].map zcv = [Value.ref b] := by
    show [zcv (2, (b : Int))] = _
    rw [zref (by omega)]
    rfl
  rw [e1] at hent
  have hR : room_1.frames = 13 ∧ room_1.locals = 512 ∧ room_1.cells = 600000 ∧ room_1.slots = 7302250 := ⟨rfl, rfl, rfl, rfl⟩
  have hgz : gz G0 = s.heap.size := hH.1.symm
  have hgb : gb G0 = s.heap.size := hS.2.2.2.2.2.2.2.2.2.1.symm.trans hgz
  refine hs D p l e room_1 s m #[Value.ref b] below meth c s.heap [] 0 0 Q _ hC hH (fun q h => by cases h) hent (by omega) (by omega) (by omega) (by omega) (fun H' locs' la' pc' st' g1 g2 g3 => ?_)
  obtain ⟨h3, rfl, -⟩ := g3
  refine va_forget (fun q hq => by rw [← hgb]; exact g2 q hq) ?_
  refine W.widen (k := 600000) (n := 7302250) (by omega) (by omega) ?_
  exact hQ H' pc' la' h3
