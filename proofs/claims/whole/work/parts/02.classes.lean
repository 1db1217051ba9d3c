/-! ===== classes: names, fields, types (printed text of the claim); the words that every method may use ===== -/
def RX0 : String := "SmoothNeighbours$Big"
def TX0 : u_T := fun k => match k with
  | 0 => ("SmoothNeighbours$Big", "limbs", "[I", true)
  | _ => ("SmoothNeighbours$Big", "size", "I", false)
def tyX0 : Nat → FieldType := fun k => match k with
  | 0 => .array .int
  | _ => .int
theorem nmX0 : ∀ a, a < 2 → ∀ b, b < 2 → a ≠ b → (TX0 a).2.1 ≠ (TX0 b).2.1 := by decide +kernel
theorem tyX0_ok : ∀ k, k < 2 → parseFieldDescriptor (TX0 k).2.2.1 = some (tyX0 k) := by decide +kernel
def RX1 : String := "SmoothNeighbours$Couple"
def TX1 : u_T := fun k => match k with
  | 0 => ("SmoothNeighbours$Couple", "low", "LSmoothNeighbours$Big;", true)
  | 1 => ("SmoothNeighbours$Couple", "index", "I", true)
  | 2 => ("SmoothNeighbours$Couple", "made", "I", true)
  | 3 => ("SmoothNeighbours$Couple", "lowPowers", "[I", true)
  | 4 => ("SmoothNeighbours$Couple", "highPowers", "[I", true)
  | _ => ("SmoothNeighbours$Couple", "family", "I", false)
def tyX1 : Nat → FieldType := fun k => match k with
  | 0 => .object "SmoothNeighbours$Big"
  | 1 => .int
  | 2 => .int
  | 3 => .array .int
  | 4 => .array .int
  | _ => .int
theorem nmX1 : ∀ a, a < 6 → ∀ b, b < 6 → a ≠ b → (TX1 a).2.1 ≠ (TX1 b).2.1 := by decide +kernel
theorem tyX1_ok : ∀ k, k < 6 → parseFieldDescriptor (TX1 k).2.2.1 = some (tyX1 k) := by decide +kernel
def RX2 : String := "SmoothNeighbours$Fraction"
def TX2 : u_T := fun k => match k with
  | 0 => ("SmoothNeighbours$Fraction", "p", "LSmoothNeighbours$Big;", true)
  | 1 => ("SmoothNeighbours$Fraction", "r", "LSmoothNeighbours$Big;", true)
  | 2 => ("SmoothNeighbours$Fraction", "pAhead", "LSmoothNeighbours$Big;", true)
  | 3 => ("SmoothNeighbours$Fraction", "rAhead", "LSmoothNeighbours$Big;", true)
  | 4 => ("SmoothNeighbours$Fraction", "square", "I", false)
  | 5 => ("SmoothNeighbours$Fraction", "root", "I", false)
  | 6 => ("SmoothNeighbours$Fraction", "m", "I", false)
  | 7 => ("SmoothNeighbours$Fraction", "d", "I", false)
  | _ => ("SmoothNeighbours$Fraction", "a", "I", false)
def tyX2 : Nat → FieldType := fun k => match k with
  | 0 => .object "SmoothNeighbours$Big"
  | 1 => .object "SmoothNeighbours$Big"
  | 2 => .object "SmoothNeighbours$Big"
  | 3 => .object "SmoothNeighbours$Big"
  | 4 => .int
  | 5 => .int
  | 6 => .int
  | 7 => .int
  | _ => .int
theorem nmX2 : ∀ a, a < 9 → ∀ b, b < 9 → a ≠ b → (TX2 a).2.1 ≠ (TX2 b).2.1 := by decide +kernel
theorem tyX2_ok : ∀ k, k < 9 → parseFieldDescriptor (TX2 k).2.2.1 = some (tyX2 k) := by decide +kernel
def RX3 : String := "SmoothNeighbours$Greats"
def TX3 : u_T := fun k => match k with
  | 0 => ("SmoothNeighbours$Greats", "rows", "[I", true)
  | 1 => ("SmoothNeighbours$Greats", "sizes", "[I", true)
  | 2 => ("SmoothNeighbours$Greats", "turns", "[I", true)
  | 3 => ("SmoothNeighbours$Greats", "products", "[LSmoothNeighbours$Big;", true)
  | 4 => ("SmoothNeighbours$Greats", "shown", "LSmoothNeighbours$Big;", true)
  | 5 => ("SmoothNeighbours$Greats", "bits", "I", false)
  | _ => ("SmoothNeighbours$Greats", "many", "I", false)
def tyX3 : Nat → FieldType := fun k => match k with
  | 0 => .array .int
  | 1 => .array .int
  | 2 => .array .int
  | 3 => .array (.object "SmoothNeighbours$Big")
  | 4 => .object "SmoothNeighbours$Big"
  | 5 => .int
  | _ => .int
theorem nmX3 : ∀ a, a < 7 → ∀ b, b < 7 → a ≠ b → (TX3 a).2.1 ≠ (TX3 b).2.1 := by decide +kernel
theorem tyX3_ok : ∀ k, k < 7 → parseFieldDescriptor (TX3 k).2.2.1 = some (tyX3 k) := by decide +kernel
def RX4 : String := "SmoothNeighbours$Powers"
def TX4 : u_T := fun k => match k with
  | 0 => ("SmoothNeighbours$Powers", "before", "LSmoothNeighbours$Big;", true)
  | 1 => ("SmoothNeighbours$Powers", "now", "LSmoothNeighbours$Big;", true)
  | 2 => ("SmoothNeighbours$Powers", "after", "LSmoothNeighbours$Big;", true)
  | 3 => ("SmoothNeighbours$Powers", "low", "LSmoothNeighbours$Big;", true)
  | 4 => ("SmoothNeighbours$Powers", "rest", "LSmoothNeighbours$Big;", true)
  | 5 => ("SmoothNeighbours$Powers", "lowPowers", "[I", true)
  | 6 => ("SmoothNeighbours$Powers", "highPowers", "[I", true)
  | _ => ("SmoothNeighbours$Powers", "apart", "I", true)
def tyX4 : Nat → FieldType := fun k => match k with
  | 0 => .object "SmoothNeighbours$Big"
  | 1 => .object "SmoothNeighbours$Big"
  | 2 => .object "SmoothNeighbours$Big"
  | 3 => .object "SmoothNeighbours$Big"
  | 4 => .object "SmoothNeighbours$Big"
  | 5 => .array .int
  | 6 => .array .int
  | _ => .int
theorem nmX4 : ∀ a, a < 8 → ∀ b, b < 8 → a ≠ b → (TX4 a).2.1 ≠ (TX4 b).2.1 := by decide +kernel
theorem tyX4_ok : ∀ k, k < 8 → parseFieldDescriptor (TX4 k).2.2.1 = some (tyX4 k) := by decide +kernel
def RX5 : String := "SmoothNeighbours$Primes"
def TX5 : u_T := fun k => match k with
  | _ => ("", "", "", false)
def tyX5 : Nat → FieldType := fun k => match k with
  | _ => .int
theorem nmX5 : ∀ a, a < 0 → ∀ b, b < 0 → a ≠ b → (TX5 a).2.1 ≠ (TX5 b).2.1 := by decide +kernel
theorem tyX5_ok : ∀ k, k < 0 → parseFieldDescriptor (TX5 k).2.2.1 = some (tyX5 k) := by decide +kernel
def RX6 : String := "SmoothNeighbours$Ranking"
def TX6 : u_T := fun k => match k with
  | 0 => ("SmoothNeighbours$Ranking", "places", "[I", true)
  | 1 => ("SmoothNeighbours$Ranking", "measures", "[I", true)
  | 2 => ("SmoothNeighbours$Ranking", "others", "[I", true)
  | 3 => ("SmoothNeighbours$Ranking", "basis", "[I", true)
  | _ => ("SmoothNeighbours$Ranking", "row", "[I", true)
def tyX6 : Nat → FieldType := fun k => match k with
  | 0 => .array .int
  | 1 => .array .int
  | 2 => .array .int
  | 3 => .array .int
  | _ => .array .int
theorem nmX6 : ∀ a, a < 5 → ∀ b, b < 5 → a ≠ b → (TX6 a).2.1 ≠ (TX6 b).2.1 := by decide +kernel
theorem tyX6_ok : ∀ k, k < 5 → parseFieldDescriptor (TX6 k).2.2.1 = some (tyX6 k) := by decide +kernel
def RX7 : String := "SmoothNeighbours$Search"
def TX7 : u_T := fun k => match k with
  | 0 => ("SmoothNeighbours$Search", "fraction", "LSmoothNeighbours$Fraction;", true)
  | 1 => ("SmoothNeighbours$Search", "noUnit", "LSmoothNeighbours$Unit;", true)
  | 2 => ("SmoothNeighbours$Search", "noCouple", "LSmoothNeighbours$Couple;", true)
  | 3 => ("SmoothNeighbours$Search", "known", "[LSmoothNeighbours$Unit;", true)
  | 4 => ("SmoothNeighbours$Search", "units", "[LSmoothNeighbours$Unit;", true)
  | 5 => ("SmoothNeighbours$Search", "couples", "[LSmoothNeighbours$Couple;", true)
  | 6 => ("SmoothNeighbours$Search", "spare", "LSmoothNeighbours$Big;", true)
  | 7 => ("SmoothNeighbours$Search", "powers", "LSmoothNeighbours$Powers;", true)
  | 8 => ("SmoothNeighbours$Search", "apart", "I", true)
  | 9 => ("SmoothNeighbours$Search", "bits", "I", false)
  | 10 => ("SmoothNeighbours$Search", "bound", "I", false)
  | 11 => ("SmoothNeighbours$Search", "classes", "I", false)
  | _ => ("SmoothNeighbours$Search", "found", "I", false)
def tyX7 : Nat → FieldType := fun k => match k with
  | 0 => .object "SmoothNeighbours$Fraction"
  | 1 => .object "SmoothNeighbours$Unit"
  | 2 => .object "SmoothNeighbours$Couple"
  | 3 => .array (.object "SmoothNeighbours$Unit")
  | 4 => .array (.object "SmoothNeighbours$Unit")
  | 5 => .array (.object "SmoothNeighbours$Couple")
  | 6 => .object "SmoothNeighbours$Big"
  | 7 => .object "SmoothNeighbours$Powers"
  | 8 => .int
  | 9 => .int
  | 10 => .int
  | 11 => .int
  | _ => .int
theorem nmX7 : ∀ a, a < 13 → ∀ b, b < 13 → a ≠ b → (TX7 a).2.1 ≠ (TX7 b).2.1 := by decide +kernel
theorem tyX7_ok : ∀ k, k < 13 → parseFieldDescriptor (TX7 k).2.2.1 = some (tyX7 k) := by decide +kernel
def RX8 : String := "SmoothNeighbours$Smooths"
def TX8 : u_T := fun k => match k with
  | 0 => ("SmoothNeighbours$Smooths", "values", "[I", true)
  | 1 => ("SmoothNeighbours$Smooths", "sets", "[I", true)
  | 2 => ("SmoothNeighbours$Smooths", "turns", "[I", true)
  | 3 => ("SmoothNeighbours$Smooths", "sums", "[I", true)
  | 4 => ("SmoothNeighbours$Smooths", "rareSums", "[I", true)
  | 5 => ("SmoothNeighbours$Smooths", "sumsAreKnown", "Z", false)
  | 6 => ("SmoothNeighbours$Smooths", "bits", "I", false)
  | _ => ("SmoothNeighbours$Smooths", "many", "I", false)
def tyX8 : Nat → FieldType := fun k => match k with
  | 0 => .array .int
  | 1 => .array .int
  | 2 => .array .int
  | 3 => .array .int
  | 4 => .array .int
  | 5 => .boolean
  | 6 => .int
  | _ => .int
theorem nmX8 : ∀ a, a < 8 → ∀ b, b < 8 → a ≠ b → (TX8 a).2.1 ≠ (TX8 b).2.1 := by decide +kernel
theorem tyX8_ok : ∀ k, k < 8 → parseFieldDescriptor (TX8 k).2.2.1 = some (tyX8 k) := by decide +kernel
def RX9 : String := "SmoothNeighbours$Text"
def TX9 : u_T := fun k => match k with
  | 0 => ("SmoothNeighbours$Text", "bytes", "[B", true)
  | _ => ("SmoothNeighbours$Text", "length", "I", false)
def tyX9 : Nat → FieldType := fun k => match k with
  | 0 => .array .byte
  | _ => .int
theorem nmX9 : ∀ a, a < 2 → ∀ b, b < 2 → a ≠ b → (TX9 a).2.1 ≠ (TX9 b).2.1 := by decide +kernel
theorem tyX9_ok : ∀ k, k < 2 → parseFieldDescriptor (TX9 k).2.2.1 = some (tyX9 k) := by decide +kernel
def RX10 : String := "SmoothNeighbours$Unit"
def TX10 : u_T := fun k => match k with
  | 0 => ("SmoothNeighbours$Unit", "x", "LSmoothNeighbours$Big;", true)
  | 1 => ("SmoothNeighbours$Unit", "y", "LSmoothNeighbours$Big;", true)
  | 2 => ("SmoothNeighbours$Unit", "q", "I", true)
  | 3 => ("SmoothNeighbours$Unit", "square", "I", true)
  | 4 => ("SmoothNeighbours$Unit", "root", "I", true)
  | 5 => ("SmoothNeighbours$Unit", "round", "I", true)
  | 6 => ("SmoothNeighbours$Unit", "lengths", "[I", true)
  | 7 => ("SmoothNeighbours$Unit", "divisors", "[I", true)
  | 8 => ("SmoothNeighbours$Unit", "beyond", "[I", true)
  | _ => ("SmoothNeighbours$Unit", "couples", "[LSmoothNeighbours$Couple;", true)
def tyX10 : Nat → FieldType := fun k => match k with
  | 0 => .object "SmoothNeighbours$Big"
  | 1 => .object "SmoothNeighbours$Big"
  | 2 => .int
  | 3 => .int
  | 4 => .int
  | 5 => .int
  | 6 => .array .int
  | 7 => .array .int
  | 8 => .array .int
  | _ => .array (.object "SmoothNeighbours$Couple")
theorem nmX10 : ∀ a, a < 10 → ∀ b, b < 10 → a ≠ b → (TX10 a).2.1 ≠ (TX10 b).2.1 := by decide +kernel
theorem tyX10_ok : ∀ k, k < 10 → parseFieldDescriptor (TX10 k).2.2.1 = some (tyX10 k) := by decide +kernel
def RX11 : String := "SmoothNeighbours"
def TX11 : u_T := fun k => match k with
  | 0 => ("SmoothNeighbours", "neighbours", "LSmoothNeighbours$Search;", true)
  | 1 => ("SmoothNeighbours", "twoApart", "LSmoothNeighbours$Search;", true)
  | 2 => ("SmoothNeighbours", "smooths", "LSmoothNeighbours$Smooths;", true)
  | 3 => ("SmoothNeighbours", "greats", "LSmoothNeighbours$Greats;", true)
  | 4 => ("SmoothNeighbours", "ranking", "LSmoothNeighbours$Ranking;", true)
  | 5 => ("SmoothNeighbours", "fraction", "LSmoothNeighbours$Fraction;", true)
  | 6 => ("SmoothNeighbours", "tape", "LSmoothNeighbours$Text;", true)
  | 7 => ("SmoothNeighbours", "writtenProof", "LSmoothNeighbours$Text;", true)
  | 8 => ("SmoothNeighbours", "dueProof", "LSmoothNeighbours$Text;", true)
  | 9 => ("SmoothNeighbours", "told", "LSmoothNeighbours$Big;", true)
  | 10 => ("SmoothNeighbours", "spare", "LSmoothNeighbours$Big;", true)
  | _ => ("SmoothNeighbours", "primes", "I", false)
def tyX11 : Nat → FieldType := fun k => match k with
  | 0 => .object "SmoothNeighbours$Search"
  | 1 => .object "SmoothNeighbours$Search"
  | 2 => .object "SmoothNeighbours$Smooths"
  | 3 => .object "SmoothNeighbours$Greats"
  | 4 => .object "SmoothNeighbours$Ranking"
  | 5 => .object "SmoothNeighbours$Fraction"
  | 6 => .object "SmoothNeighbours$Text"
  | 7 => .object "SmoothNeighbours$Text"
  | 8 => .object "SmoothNeighbours$Text"
  | 9 => .object "SmoothNeighbours$Big"
  | 10 => .object "SmoothNeighbours$Big"
  | _ => .int
theorem nmX11 : ∀ a, a < 12 → ∀ b, b < 12 → a ≠ b → (TX11 a).2.1 ≠ (TX11 b).2.1 := by decide +kernel
theorem tyX11_ok : ∀ k, k < 12 → parseFieldDescriptor (TX11 k).2.2.1 = some (tyX11 k) := by decide +kernel
def RX12 : String := "SmoothNeighboursModel"
def TX12 : u_T := fun k => match k with
  | 0 => ("SmoothNeighboursModel", "sevens", "[I", true)
  | 1 => ("SmoothNeighboursModel", "primes", "I", false)
  | 2 => ("SmoothNeighboursModel", "big", "[I", true)
  | 3 => ("SmoothNeighboursModel", "qOf", "[I", true)
  | 4 => ("SmoothNeighboursModel", "rootOf", "[I", true)
  | 5 => ("SmoothNeighboursModel", "roundOf", "[I", true)
  | 6 => ("SmoothNeighboursModel", "indexOf", "[I", true)
  | 7 => ("SmoothNeighboursModel", "classes", "I", false)
  | 8 => ("SmoothNeighboursModel", "twoClasses", "I", false)
  | 9 => ("SmoothNeighboursModel", "goM", "I", false)
  | 10 => ("SmoothNeighboursModel", "goD", "I", false)
  | 11 => ("SmoothNeighboursModel", "goA", "I", false)
  | 12 => ("SmoothNeighboursModel", "pairN", "[I", true)
  | 13 => ("SmoothNeighboursModel", "pairClass", "[I", true)
  | 14 => ("SmoothNeighboursModel", "pairIndex", "[I", true)
  | 15 => ("SmoothNeighboursModel", "pairs", "I", false)
  | 16 => ("SmoothNeighboursModel", "twoN", "[I", true)
  | 17 => ("SmoothNeighboursModel", "twoClass", "[I", true)
  | 18 => ("SmoothNeighboursModel", "twoIndex", "[I", true)
  | 19 => ("SmoothNeighboursModel", "twos", "I", false)
  | 20 => ("SmoothNeighboursModel", "runFrom", "I", false)
  | 21 => ("SmoothNeighboursModel", "runLong", "I", false)
  | 22 => ("SmoothNeighboursModel", "rows", "[I", true)
  | 23 => ("SmoothNeighboursModel", "madeSet", "[I", true)
  | 24 => ("SmoothNeighboursModel", "great", "[I", true)
  | 25 => ("SmoothNeighboursModel", "nextOf", "[I", true)
  | 26 => ("SmoothNeighboursModel", "laid", "[B", true)
  | 27 => ("SmoothNeighboursModel", "written", "[B", true)
  | 28 => ("SmoothNeighboursModel", "laidLong", "I", false)
  | 29 => ("SmoothNeighboursModel", "writtenLong", "I", false)
  | 30 => ("SmoothNeighboursModel", "tape", "[B", true)
  | _ => ("SmoothNeighboursModel", "taped", "I", false)
def tyX12 : Nat → FieldType := fun k => match k with
  | 0 => .array .int
  | 1 => .int
  | 2 => .array .int
  | 3 => .array .int
  | 4 => .array .int
  | 5 => .array .int
  | 6 => .array .int
  | 7 => .int
  | 8 => .int
  | 9 => .int
  | 10 => .int
  | 11 => .int
  | 12 => .array .int
  | 13 => .array .int
  | 14 => .array .int
  | 15 => .int
  | 16 => .array .int
  | 17 => .array .int
  | 18 => .array .int
  | 19 => .int
  | 20 => .int
  | 21 => .int
  | 22 => .array .int
  | 23 => .array .int
  | 24 => .array .int
  | 25 => .array .int
  | 26 => .array .byte
  | 27 => .array .byte
  | 28 => .int
  | 29 => .int
  | 30 => .array .byte
  | _ => .int
theorem nmX12 : ∀ a, a < 32 → ∀ b, b < 32 → a ≠ b → (TX12 a).2.1 ≠ (TX12 b).2.1 := by decide +kernel
theorem tyX12_ok : ∀ k, k < 32 → parseFieldDescriptor (TX12 k).2.2.1 = some (tyX12 k) := by decide +kernel
abbrev vwCl : List vw_C := [(RX0, TX0, 2), (RX1, TX1, 6), (RX2, TX2, 9), (RX3, TX3, 7), (RX4, TX4, 8), (RX6, TX6, 5), (RX7, TX7, 13), (RX8, TX8, 8), (RX9, TX9, 2), (RX10, TX10, 10), (RX11, TX11, 12), (RX12, TX12, 32)]
abbrev zTy : Nat → Nat → FieldType := fun c => match c with
  | 0 => tyX0
  | 1 => tyX1
  | 2 => tyX2
  | 3 => tyX3
  | 4 => tyX4
  | 5 => tyX6
  | 6 => tyX7
  | 7 => tyX8
  | 8 => tyX9
  | 9 => tyX10
  | 10 => tyX11
  | _ => tyX12
def zWS : List Cond := lw_tbl.filter goodWord
theorem zT (i : Nat) {w : Cond} (h : tables_1[i]? = some w) (hg : goodWord w = true) : w ∈ zWS := List.mem_filter.mpr ⟨List.mem_append_right _ (List.mem_of_getElem? h), hg⟩
theorem zP (i : Nat) {y : MethodName} {n : Nat} (h : lw_privs[i]? = some (y, n)) (hg : goodWord (Cond.selects y.cls y y) = true) : Cond.selects y.cls y y ∈ zWS := List.mem_filter.mpr ⟨List.mem_append_left _ (List.mem_map.mpr ⟨(y, n), List.mem_of_getElem? h, rfl⟩), hg⟩
abbrev zM : Type := MethodName × ByteArray × Nat × Option FieldType
def zFld (own : String) (idx ci k : Nat) : Prop := ∃ (C : String) (T : u_T) (N : Nat), vwCl[ci]? = some (C, T, N) ∧ k < N ∧ Cond.fieldLink own idx (T k).1 (T k).2.1 (T k).2.2.1 ∈ zWS
def zFin (own : String) (ci k : Nat) (b : Bool) : Prop := ∃ (C : String) (T : u_T) (N : Nat), vwCl[ci]? = some (C, T, N) ∧ (T k).2.2.2 = b ∧ (T k).1 = own
def zClOk (ci : Nat) (q : vw_C) : Prop := (∀ w ∈ u_ws q.1 q.2.1 q.2.2, w ∈ zWS) ∧ (∀ k, k < q.2.2 → parseFieldDescriptor (q.2.1 k).2.2.1 = some (zTy ci k)) ∧ (∀ a, a < q.2.2 → ∀ b, b < q.2.2 → a ≠ b → (q.2.1 a).2.1 ≠ (q.2.1 b).2.1) ∧ Cond.instantiable q.1 q.2.2 ∈ zWS ∧ Cond.initialized q.1 ∈ zWS
def zCal (M : zM) (n : Nat) : Prop := Cond.code M.1 M.2.1 M.2.2.1 M.2.2.2 ∈ zWS ∧ Cond.initialized M.1.cls ∈ zWS ∧ (M.1.cls ≠ "java/lang/invoke/MethodHandle" ∧ M.1.cls ≠ "java/lang/invoke/VarHandle") ∧ (parseMethodDescriptor M.1.desc).map (fun d => d.parameters.length) = some n ∧ plainFor M.1 = true ∧ M.2.2.1 ≤ 19
def zCalV (own : String) (idx : Nat) (M : zM) (n ci : Nat) : Prop := zCal M n ∧ Cond.methodLink own idx M.1 ∈ zWS ∧ Cond.instanceMethod M.1 ∈ zWS ∧ Cond.selects M.1.cls M.1 M.1 ∈ zWS ∧ ∃ q, vwCl[ci]? = some q ∧ q.1 = M.1.cls
def zCalS (own : String) (idx : Nat) (M : zM) (n : Nat) : Prop := zCal M n ∧ Cond.methodLink own idx M.1 ∈ zWS ∧ Cond.static M.1 ∈ zWS
def zCalI (own : String) (idx : Nat) (M : zM) (n ci : Nat) : Prop := zCal M n ∧ Cond.methodLink own idx M.1 ∈ zWS ∧ Cond.instanceMethod M.1 ∈ zWS ∧ M.1.name = "<init>" ∧ M.2.2.2 = none ∧ ∃ q, vwCl[ci]? = some q ∧ q.1 = M.1.cls
def zCalN (own : String) (idx : Nat) (M : zM) (n ci : Nat) : Prop := zCal M n ∧ Cond.instanceMethod M.1 ∈ zWS ∧ M.1.name = "<init>" ∧ M.2.2.2 = none ∧ ∃ q, vwCl[ci]? = some q ∧ q.1 = M.1.cls
def zNew (own : String) (idx ci N : Nat) : Prop := ∃ (C : String) (T : u_T), vwCl[ci]? = some (C, T, N) ∧ Cond.classLink own idx C ∈ zWS
def zANew (own : String) (idx : Nat) (C : String) : Prop := Cond.classLink own idx C ∈ zWS
theorem zMemL (ws : List Cond) (ps : List Nat) (hp : ws = ps.filterMap (fun i => tables_1[i]?)) (h : ws.all goodWord = true) : ∀ w ∈ ws, w ∈ zWS := by
  intro w hw
  have h1 := List.all_eq_true.mp h w hw
  rw [hp] at hw
  obtain ⟨i, -, hi⟩ := List.mem_filterMap.mp hw
  exact zT i hi h1
set_option maxRecDepth 20000 in
theorem zc0 : zClOk 0 (RX0, TX0, 2) := ⟨fun w h => zMemL (u_ws RX0 TX0 2) [48, 50] (by decide +kernel) (by decide +kernel) w h, tyX0_ok, nmX0, zT 41 (by decide +kernel) (by decide +kernel), zT 4 (by decide +kernel) (by decide +kernel)⟩
set_option maxRecDepth 20000 in
theorem zc1 : zClOk 1 (RX1, TX1, 6) := ⟨fun w h => zMemL (u_ws RX1 TX1 6) [226, 228, 230, 232, 234, 236] (by decide +kernel) (by decide +kernel) w h, tyX1_ok, nmX1, zT 198 (by decide +kernel) (by decide +kernel), zT 9 (by decide +kernel) (by decide +kernel)⟩
set_option maxRecDepth 20000 in
theorem zc2 : zClOk 2 (RX2, TX2, 9) := ⟨fun w h => zMemL (u_ws RX2 TX2 9) [67, 69, 71, 73, 75, 77, 79, 81, 83] (by decide +kernel) (by decide +kernel) w h, tyX2_ok, nmX2, zT 35 (by decide +kernel) (by decide +kernel), zT 3 (by decide +kernel) (by decide +kernel)⟩
set_option maxRecDepth 20000 in
theorem zc3 : zClOk 3 (RX3, TX3, 7) := ⟨fun w h => zMemL (u_ws RX3 TX3 7) [365, 367, 369, 371, 373, 375, 377] (by decide +kernel) (by decide +kernel) w h, tyX3_ok, nmX3, zT 350 (by decide +kernel) (by decide +kernel), zT 12 (by decide +kernel) (by decide +kernel)⟩
set_option maxRecDepth 20000 in
theorem zc4 : zClOk 4 (RX4, TX4, 8) := ⟨fun w h => zMemL (u_ws RX4 TX4 8) [256, 258, 260, 262, 264, 266, 268, 270] (by decide +kernel) (by decide +kernel) w h, tyX4_ok, nmX4, zT 241 (by decide +kernel) (by decide +kernel), zT 10 (by decide +kernel) (by decide +kernel)⟩
set_option maxRecDepth 20000 in
theorem zc5 : zClOk 5 (RX6, TX6, 5) := ⟨fun w h => zMemL (u_ws RX6 TX6 5) [391, 393, 395, 397, 399] (by decide +kernel) (by decide +kernel) w h, tyX6_ok, nmX6, zT 381 (by decide +kernel) (by decide +kernel), zT 13 (by decide +kernel) (by decide +kernel)⟩
set_option maxRecDepth 20000 in
theorem zc6 : zClOk 6 (RX7, TX7, 13) := ⟨fun w h => zMemL (u_ws RX7 TX7 13) [291, 293, 295, 297, 299, 301, 303, 305, 307, 309, 311, 313, 315] (by decide +kernel) (by decide +kernel) w h, tyX7_ok, nmX7, zT 29 (by decide +kernel) (by decide +kernel), zT 2 (by decide +kernel) (by decide +kernel)⟩
set_option maxRecDepth 20000 in
theorem zc7 : zClOk 7 (RX8, TX8, 8) := ⟨fun w h => zMemL (u_ws RX8 TX8 8) [332, 334, 336, 338, 340, 342, 344, 346] (by decide +kernel) (by decide +kernel) w h, tyX8_ok, nmX8, zT 319 (by decide +kernel) (by decide +kernel), zT 11 (by decide +kernel) (by decide +kernel)⟩
set_option maxRecDepth 20000 in
theorem zc8 : zClOk 8 (RX9, TX9, 2) := ⟨fun w h => zMemL (u_ws RX9 TX9 2) [413, 415] (by decide +kernel) (by decide +kernel) w h, tyX9_ok, nmX9, zT 405 (by decide +kernel) (by decide +kernel), zT 14 (by decide +kernel) (by decide +kernel)⟩
set_option maxRecDepth 20000 in
theorem zc9 : zClOk 9 (RX10, TX10, 10) := ⟨fun w h => zMemL (u_ws RX10 TX10 10) [176, 178, 180, 182, 184, 186, 188, 190, 192, 194] (by decide +kernel) (by decide +kernel) w h, tyX10_ok, nmX10, zT 87 (by decide +kernel) (by decide +kernel), zT 5 (by decide +kernel) (by decide +kernel)⟩
set_option maxRecDepth 20000 in
theorem zc10 : zClOk 10 (RX11, TX11, 12) := ⟨fun w h => zMemL (u_ws RX11 TX11 12) [546, 548, 550, 552, 554, 556, 558, 560, 562, 564, 566, 568] (by decide +kernel) (by decide +kernel) w h, tyX11_ok, nmX11, zT 21 (by decide +kernel) (by decide +kernel), zT 1 (by decide +kernel) (by decide +kernel)⟩
set_option maxRecDepth 20000 in
theorem zc11 : zClOk 11 (RX12, TX12, 32) := ⟨fun w h => zMemL (u_ws RX12 TX12 32) [1395, 1397, 1399, 1401, 1403, 1405, 1407, 1409, 1411, 1413, 1415, 1417, 1419, 1421, 1423, 1425, 1427, 1429, 1431, 1433, 1435, 1437, 1439, 1441, 1443, 1445, 1447, 1449, 1451, 1453, 1455, 1457] (by decide +kernel) (by decide +kernel) w h, tyX12_ok, nmX12, zT 1245 (by decide +kernel) (by decide +kernel), zT 15 (by decide +kernel) (by decide +kernel)⟩
theorem zcls_ok : ∀ (ci : Nat) (q : vw_C), vwCl[ci]? = some q → zClOk ci q := by
  intro ci q hq
  match ci, hq with
  | 0, hq => cases hq; exact zc0
  | 1, hq => cases hq; exact zc1
  | 2, hq => cases hq; exact zc2
  | 3, hq => cases hq; exact zc3
  | 4, hq => cases hq; exact zc4
  | 5, hq => cases hq; exact zc5
  | 6, hq => cases hq; exact zc6
  | 7, hq => cases hq; exact zc7
  | 8, hq => cases hq; exact zc8
  | 9, hq => cases hq; exact zc9
  | 10, hq => cases hq; exact zc10
  | 11, hq => cases hq; exact zc11
  | k + 12, hq => simp [vwCl] at hq
