/-! ===== the heap as a function (G), and what it means of the machine's heap ===== -/
abbrev zV : Type := Nat × Int
def z32 (z : Int) : Int := (Int32.ofInt z).toInt
def z64 (z : Int) : Int := (Int64.ofInt z).toInt
def zcv (v : zV) : Value := match v.1 with
  | 0 => .int (Int32.ofInt v.2)
  | 1 => .long (Int64.ofInt v.2)
  | 2 => if v.2 < 0 then .null else .ref v.2.toNat
  | 3 => .float (UInt32.ofNat v.2.toNat)
  | _ => .double (UInt64.ofNat v.2.toNat)
def zTg (ty : FieldType) : Nat := match ty with
  | .long => 1
  | .float => 3
  | .double => 4
  | .object _ => 2
  | .array _ => 2
  | _ => 0
/-- kinds: 0 nothing known; 1 int rows, 2 byte rows, 3 rows of units, 4 of couples, 5 of bigs; 6 int rows that nobody writes; 10 + c objects of class c -/
def zEl (k : Nat) : FieldType := match k with
  | 2 => .byte
  | 3 => .object "SmoothNeighbours$Unit"
  | 4 => .object "SmoothNeighbours$Couple"
  | 5 => .object "SmoothNeighbours$Big"
  | _ => .int
abbrev zG : Type := (Int → Nat) × (Int → Int) × (Int → Int → Int) × Nat × Nat × Nat × Int
def gk (G : zG) (a : Int) : Nat := G.1 a
def gn (G : zG) (a : Int) : Int := G.2.1 a
def gc (G : zG) (a i : Int) : Int := G.2.2.1 a i
def gz (G : zG) : Nat := G.2.2.2.1
def gs (G : zG) : Nat := G.2.2.2.2.1
def gb (G : zG) : Nat := G.2.2.2.2.2.1
def gl (G : zG) : Int := G.2.2.2.2.2.2
def gset (G : zG) (a i v : Int) : zG := (G.1, G.2.1, fun b j => if b = a ∧ j = i then v else G.2.2.1 b j, G.2.2.2)
def gnew (G : zG) (k : Nat) (n : Nat) (f : Int → Int) : zG := (fun b => if b = (gz G : Int) then k else gk G b, fun b => if b = (gz G : Int) then (n : Int) else gn G b, fun b j => if b = (gz G : Int) then f j else gc G b j, gz G + 1, gs G + n, gb G, gl G)
abbrev zD : Type := (Nat → ClassId) × (Nat → Nat → Nat) × (Nat → ClassId)
def zcell (D : zD) (s : State) (G : zG) (H : Heap) (a : Int) : Prop :=
  gk G a = 0 ∨ (0 ≤ a ∧ (0 ≤ gn G a ∧ gn G a ≤ 2147483647) ∧ (
    (gk G a = 6 ∧ va_T .int a.toNat (gn G a).toNat (fun j => .int (Int32.ofInt (gc G a j))) (fun _ => False) s H) ∨
    ((gb G : Int) ≤ a ∧ 1 ≤ gk G a ∧ gk G a ≤ 5 ∧ H[a.toNat]? = some (arrV (D.2.2 (gk G a)) (gn G a).toNat (fun j => zcv (zTg (zEl (gk G a)), gc G a j)))) ∨
    ((gb G : Int) ≤ a ∧ 10 ≤ gk G a ∧ ∃ (C : String) (T : u_T) (N : Nat), vwCl[gk G a - 10]? = some (C, T, N) ∧ t_OB a.toNat (D.1 (gk G a - 10)) N (D.2.1 (gk G a - 10)) H (fun j => zcv (zTg (zTy (gk G a - 10) j), gc G a j)))))
def zSt (G : zG) (s : State) (H : Heap) : Prop := va_Z "SmoothNeighbours$Primes" "LIST" "[I" (zcv (2, gl G)) (fun q => gb G ≤ q) s H
def zH (D : zD) (s : State) (G : zG) (H : Heap) : Prop := H.size = gz G ∧ gb G ≤ gz G ∧ (∀ a : Int, zcell D s G H a) ∧ zSt G s H
def zTys (D : zD) : List (ClassId × FieldType) := [(D.2.2 1, .int), (D.2.2 2, .byte), (D.2.2 3, zEl 3), (D.2.2 4, zEl 4), (D.2.2 5, zEl 5)]
def zNest : List Cond := [.methodLinkNest "SmoothNeighbours$Search" 11 M_Fra_init.1 "SmoothNeighbours", .methodLinkNest "SmoothNeighbours" 23 M_Smo_init.1 "SmoothNeighbours", .methodLinkNest "SmoothNeighbours" 37 M_Ran_init.1 "SmoothNeighbours", .methodLinkNest "SmoothNeighbours" 44 M_Fra_init.1 "SmoothNeighbours"]
def zK (D : zD) (s : State) : Prop := va_K (D.1, D.2.1) vwCl (zTys D) s ∧ (va_AO "SmoothNeighbours$Unit" s ∧ va_AO "SmoothNeighbours$Couple" s ∧ va_AO "SmoothNeighbours$Big" s) ∧ ∀ w ∈ zNest, va_Nw w s
theorem zK.warm {D : zD} {s U : State} (hW : s.WarmedH U.vm) (h : zK D s) : zK D U := by
  obtain ⟨h1, ⟨h2, h3, h4⟩, h5⟩ := h
  refine ⟨h1.moved hW.alike, ⟨h2.moved hW.alike, h3.moved hW.alike, h4.moved hW.alike⟩, fun w hw => ?_⟩
  have h6 := h5 w hw
  simp only [zNest, List.mem_cons, List.mem_nil_iff, or_false] at hw
  rcases hw with rfl | rfl | rfl | rfl <;> exact va_Nw.warmM hW h6
theorem zK.same {D : zD} {s U : State} (hW : s.vm = U.vm) (h : zK D s) : zK D U := by
  obtain ⟨h1, ⟨h2, h3, h4⟩, h5⟩ := h
  have ha : s.vm.Alike U.vm := hW ▸ Vm.Alike.refl _
  refine ⟨h1.moved ha, ⟨h2.moved ha, h3.moved ha, h4.moved ha⟩, fun w hw => ?_⟩
  have h6 := h5 w hw
  simp only [zNest, List.mem_cons, List.mem_nil_iff, or_false] at hw
  rcases hw with rfl | rfl | rfl | rfl <;> exact va_Nw.same rfl hW h6
theorem zcell.moved {D : zD} {s U : State} {G : zG} {H : Heap} {a : Int} (ha : s.vm.Alike U.vm) (h : zcell D s G H a) : zcell D U G H a := by
  rcases h with h | ⟨h1, h2, ⟨h3, h4⟩ | h3 | h3⟩
  · exact Or.inl h
  · exact Or.inr ⟨h1, h2, Or.inl ⟨h3, h4.moved ha⟩⟩
  · exact Or.inr ⟨h1, h2, Or.inr (Or.inl h3)⟩
  · exact Or.inr ⟨h1, h2, Or.inr (Or.inr h3)⟩
theorem zH.moved {D : zD} {s U : State} {G : zG} {H : Heap} (ha : s.vm.Alike U.vm) (h : zH D s G H) : zH D U G H := ⟨h.1, h.2.1, fun a => (h.2.2.1 a).moved ha, va_Z.moved ha h.2.2.2⟩
/-- another heap in which the cells from gb on, that G knows, and those that nobody writes, are as they were -/
theorem zcell.kept {D : zD} {s : State} {G : zG} {H H1 : Heap} {a : Int} (hq : gk G a ≠ 0 → H1[a.toNat]? = H[a.toNat]?) (h : zcell D s G H a) : zcell D s G H1 a := by
  rcases h with h | ⟨h1, h2, ⟨h3, h4⟩ | ⟨h3, h4, h5, h6⟩ | ⟨h3, h4, C, T, N, h5, h6⟩⟩
  · exact Or.inl h
  · exact Or.inr ⟨h1, h2, Or.inl ⟨h3, by obtain ⟨cell, c1, c2⟩ := h4; exact ⟨cell, by rw [hq (by omega)]; exact c1, c2⟩⟩⟩
  · exact Or.inr ⟨h1, h2, Or.inr (Or.inl ⟨h3, h4, h5, by rw [hq (by omega)]; exact h6⟩)⟩
  · exact Or.inr ⟨h1, h2, Or.inr (Or.inr ⟨h3, h4, C, T, N, h5, h6.kept (hq (by omega))⟩)⟩
theorem zcell.lt {D : zD} {s : State} {G : zG} {H : Heap} {a : Int} (hk : gk G a ≠ 0) (h : zcell D s G H a) : 0 ≤ a ∧ a.toNat < H.size := by
  rcases h with h | ⟨h1, h2, ⟨h3, scr, h4, h5⟩ | ⟨h3, h4, h5, h6⟩ | ⟨h3, h4, C, T, N, h5, cell, h6, h7⟩⟩
  · exact absurd h hk
  · exact ⟨h1, (Array.getElem?_eq_some_iff.mp h4).1⟩
  · exact ⟨h1, (Array.getElem?_eq_some_iff.mp h6).1⟩
  · exact ⟨h1, (Array.getElem?_eq_some_iff.mp h6).1⟩
/-- a write into one cell, of which G knows the kind -/
theorem zH.set {D : zD} {s : State} {G : zG} {H H1 : Heap} {a i v : Int} (h : zH D s G H) (hb : (gb G : Int) ≤ a) (hz : H1.size = H.size) (ho : ∀ q, q ≠ a.toNat → H1[q]? = H[q]?) (hc : zcell D s (gset G a i v) H1 a) : zH D s (gset G a i v) H1 := by
  obtain ⟨h1, h2, h3, h4⟩ := h
  refine ⟨hz.trans h1, h2, fun b => ?_, ?_⟩
  · by_cases hba : b = a
    · subst hba; exact hc
    · by_cases hk : gk G b = 0
      · exact Or.inl hk
      · have h5 := h3 b
        have h6 := (h5.lt hk).1
        have h7 : zcell D s G H1 b := h5.kept (fun _ => ho _ (fun e => hba (by omega)))
        have e : ∀ j, gc (gset G a i v) b j = gc G b j := fun j => by
          show (if b = a ∧ j = i then v else gc G b j) = gc G b j
          rw [if_neg (fun h => hba h.1)]
        unfold zcell at h7 ⊢
        simp only [e]
        exact h7
  · refine va_Z.kept h4 (fun q hq hn => ho q (fun e => hn ?_))
    show gb G ≤ q
    omega
/-- a new cell -/
theorem zH.new {D : zD} {s : State} {G : zG} {H H1 : Heap} {k n : Nat} {f : Int → Int} (h : zH D s G H) (hz : H1.size = H.size + 1) (ho : ∀ q, q < H.size → H1[q]? = H[q]?) (hc : zcell D s (gnew G k n f) H1 (gz G : Int)) : zH D s (gnew G k n f) H1 := by
  obtain ⟨h1, h2, h3, h4⟩ := h
  refine ⟨by rw [hz, h1]; rfl, Nat.le_succ_of_le h2, fun b => ?_, ?_⟩
  · by_cases hba : b = (gz G : Int)
    · subst hba; exact hc
    · by_cases hk : gk G b = 0
      · exact Or.inl ((if_neg hba).trans hk)
      · have h5 := h3 b
        have h6 := h5.lt hk
        have h7 : zcell D s G H1 b := h5.kept (fun _ => ho _ h6.2)
        have e1 : gk (gnew G k n f) b = gk G b := if_neg hba
        have e2 : gn (gnew G k n f) b = gn G b := if_neg hba
        have e3 : ∀ j, gc (gnew G k n f) b j = gc G b j := fun j => if_neg hba
        unfold zcell at h7 ⊢
        simp only [e1, e2, e3]
        exact h7
  · exact va_Z.kept h4 (fun q hq _ => ho q hq)
theorem zfresh {D : zD} {s : State} {G : zG} {H : Heap} (h : zH D s G H) : gk G (gz G : Int) = 0 := by
  rcases Nat.eq_zero_or_pos (gk G (gz G : Int)) with h5 | h5
  · exact h5
  · have h6 := (h.2.2.1 (gz G : Int)).lt (by omega)
    have := h.1
    omega
/-! ===== locals ===== -/
def zLs (la : Array Slot) (nL : Nat) (ls : List zV) : Prop := ls.length ≤ nL ∧ ∃ lv, lv_has la nL lv ∧ ∀ (i : Nat) (v : zV), ls[i]? = some v → v.1 ≤ 4 → (i, zcv v) ∈ lv
def zclr (i : Nat) (ls : List zV) : List zV := match i with
  | 0 => ls
  | k + 1 => match ls[k]? with
    | some (1, _) => ls.set k (9, 0)
    | some (4, _) => ls.set k (9, 0)
    | _ => ls
def zput1 (i : Nat) (v : zV) (ls : List zV) : List zV := (zclr i ls).set i v
def zput2 (i : Nat) (v : zV) (ls : List zV) : List zV := ((zclr i ls).set i v).set (i + 1) (9, 0)
theorem zcv_cat (v : zV) : (zcv v).category = 2 ↔ (v.1 = 1 ∨ 4 ≤ v.1) := by
  obtain ⟨t, z⟩ := v
  match t with
  | 0 => simp [zcv, Value.category]
  | 1 => simp [zcv, Value.category]
  | 2 => simp only [zcv]; split <;> simp [Value.category]
  | 3 => simp [zcv, Value.category]
  | t + 4 => simp [zcv, Value.category]
theorem zcv_cat1 {v : zV} (h : v.1 = 0 ∨ v.1 = 2) : (zcv v).category = 1 := by
  obtain ⟨t, z⟩ := v
  rcases h with rfl | rfl
  · simp [zcv, Value.category]
  · simp only [zcv]; split <;> simp [Value.category]
theorem zclr_len (i : Nat) (ls : List zV) : (zclr i ls).length = ls.length := by
  unfold zclr
  split
  · rfl
  · split <;> simp
theorem zclr_get {i j : Nat} {ls : List zV} {v : zV} (h : (zclr i ls)[j]? = some v) (hv : v.1 ≤ 4) : ls[j]? = some v ∧ ¬ (j + 1 = i ∧ (v.1 = 1 ∨ v.1 = 4)) := by
  unfold zclr at h
  split at h
  · exact ⟨h, fun q => by omega⟩
  · rename_i k
    by_cases hj : j = k
    · subst hj
      split at h
      · rename_i z e
        rw [List.getElem?_set_self (by have := (List.getElem?_eq_some_iff.mp e).1; omega)] at h
        cases h
        simp at hv
      · rename_i z e
        rw [List.getElem?_set_self (by have := (List.getElem?_eq_some_iff.mp e).1; omega)] at h
        cases h
        simp at hv
      · rename_i n1 n2
        refine ⟨h, fun q => ?_⟩
        obtain ⟨t, z⟩ := v
        rcases q.2 with e | e
        · exact n1 z (by rw [h, ← e])
        · exact n2 z (by rw [h, ← e])
    · have e : (ls.set k ((9, 0) : zV))[j]? = ls[j]? := List.getElem?_set_ne (Ne.symm hj)
      split at h
      · rw [e] at h; exact ⟨h, fun q => by omega⟩
      · rw [e] at h; exact ⟨h, fun q => by omega⟩
      · exact ⟨h, fun q => by omega⟩
theorem zLs.set1 {la' : Array Slot} {nL i : Nat} {ls : List zV} {v : zV} {lv : List (Nat × Value)} (h0 : ls.length ≤ nL) (h2 : ∀ (i : Nat) (v : zV), ls[i]? = some v → v.1 ≤ 4 → (i, zcv v) ∈ lv) (g2 : lv_has la' nL ((i, zcv v) :: lv.filter (fun q => !(q.1 == i) && !(q.1 + 1 == i && q.2.category == 2)))) : zLs la' nL (zput1 i v ls) := by
  refine ⟨by rw [zput1, List.length_set, zclr_len]; exact h0, _, g2, fun j w hj hw => ?_⟩
  unfold zput1 at hj
  by_cases hji : j = i
  · subst hji
    have hlt := (List.getElem?_eq_some_iff.mp hj).1
    rw [List.getElem?_set_self (by simpa using hlt)] at hj
    cases hj
    exact List.mem_cons_self
  · rw [List.getElem?_set_ne (Ne.symm hji)] at hj
    obtain ⟨e1, e2⟩ := zclr_get hj hw
    refine List.mem_cons_of_mem _ (List.mem_filter.mpr ⟨h2 j w e1 hw, ?_⟩)
    have h4 := zcv_cat w
    have : ¬ (j + 1 = i ∧ (zcv w).category = 2) := fun q => by
      rcases h4.mp q.2 with c | c
      · exact e2 ⟨q.1, Or.inl c⟩
      · exact e2 ⟨q.1, Or.inr (by omega)⟩
    simp only [Bool.and_eq_true, Bool.not_eq_true', beq_eq_false_iff_ne, ne_eq, Bool.and_eq_false_iff]
    refine ⟨hji, ?_⟩
    by_cases c : j + 1 = i
    · exact Or.inr (fun q => this ⟨c, q⟩)
    · exact Or.inl c
theorem zLs.set2 {la' : Array Slot} {nL i : Nat} {ls : List zV} {v : zV} {lv : List (Nat × Value)} (h0 : ls.length ≤ nL) (h2 : ∀ (i : Nat) (v : zV), ls[i]? = some v → v.1 ≤ 4 → (i, zcv v) ∈ lv) (g2 : lv_has la' nL ((i, zcv v) :: lv.filter (fun q => !(q.1 == i) && (!(q.1 == i + 1) && !(q.1 + 1 == i && q.2.category == 2))))) : zLs la' nL (zput2 i v ls) := by
  refine ⟨by rw [zput2, List.length_set, List.length_set, zclr_len]; exact h0, _, g2, fun j w hj hw => ?_⟩
  unfold zput2 at hj
  by_cases hj1 : j = i + 1
  · subst hj1
    have hlt := (List.getElem?_eq_some_iff.mp hj).1
    rw [List.getElem?_set_self (by simpa using hlt)] at hj
    cases hj
    simp at hw
  · rw [List.getElem?_set_ne (Ne.symm hj1)] at hj
    by_cases hji : j = i
    · subst hji
      have hlt := (List.getElem?_eq_some_iff.mp hj).1
      rw [List.getElem?_set_self (by simpa using hlt)] at hj
      cases hj
      exact List.mem_cons_self
    · rw [List.getElem?_set_ne (Ne.symm hji)] at hj
      obtain ⟨e1, e2⟩ := zclr_get hj hw
      refine List.mem_cons_of_mem _ (List.mem_filter.mpr ⟨h2 j w e1 hw, ?_⟩)
      have h4 := zcv_cat w
      have : ¬ (j + 1 = i ∧ (zcv w).category = 2) := fun q => by
        rcases h4.mp q.2 with c | c
        · exact e2 ⟨q.1, Or.inl c⟩
        · exact e2 ⟨q.1, Or.inr (by omega)⟩
      simp only [Bool.and_eq_true, Bool.not_eq_true', beq_eq_false_iff_ne, ne_eq, Bool.and_eq_false_iff]
      refine ⟨hji, hj1, ?_⟩
      by_cases c : j + 1 = i
      · exact Or.inr (fun q => this ⟨c, q⟩)
      · exact Or.inl c
theorem zLs.at {la : Array Slot} {nL i : Nat} {ls : List zV} {v : zV} (h : zLs la nL ls) (hv : ls[i]? = some v) (ht : v.1 ≤ 4) : la[i]? = some (.val (zcv v)) := by
  obtain ⟨-, lv, h1, h2⟩ := h
  exact h1.2.2 (i, zcv v) (h2 i v hv ht)
theorem zLs.size {la : Array Slot} {nL : Nat} {ls : List zV} (h : zLs la nL ls) : la.size = nL := h.2.choose_spec.1.1
/-! ===== what a method's walk stands on ===== -/
def zC (M : zM) (D : zD) (p : Program) (s : State) (m : MethodId) (args : Array Value) (meth : Method) (c : Code) : Prop := p.tables.exec = Jvm.exec ∧ c.code = M.2.1 ∧ c.maxLocals = M.2.2.1 ∧ s.vm.findClass M.1.cls = some m.cls ∧ (∀ w ∈ zWS, w.before args s = true) ∧ zK D s ∧ (M.1.name = "<init>" → meth.name = "<init>")
/-- the frame comes to its return: what then stands on the stack -/
def zRA (M : zM) (pc : Nat) (r : Option zV) (st : List Value) : Prop := match r with
  | none => decode M.2.1 pc = .ok (.return_, 1) ∧ st = [] ∧ M.2.2.2 = none
  | some (0, z) => decode M.2.1 pc = .ok (.ireturn, 1) ∧ st = [.int (Int32.ofInt z)] ∧ (M.2.2.2 = some .int ∨ (M.2.2.2 = some .boolean ∧ (z = 0 ∨ z = 1)))
  | some (1, z) => decode M.2.1 pc = .ok (.lreturn, 1) ∧ st = [.long (Int64.ofInt z)] ∧ M.2.2.2 = some .long
  | some (2, z) => decode M.2.1 pc = .ok (.areturn, 1) ∧ st = [zcv (2, z)] ∧ ∃ C, M.2.2.2 = some (.object C)
  | _ => False
def zSim (d : Nat) (M : zM) (G : zG) (pc : Nat) (ls st : List zV) (r : Option zV) (G' : zG) : Prop :=
  ∀ (D : zD) (p : Program) (l : Launch) (e : Env) (R : Room) (s : State) (m : MethodId) (args : Array Value) (below : List Frame) (meth : Method) (c : Code) (H : Heap) (locs : List Loc) (cells slots : Nat) (Q : State → Prop) (la : Array Slot),
    zC M D p s m args meth c → zH D s G H → (∀ q ∈ locs, gb G ≤ q.base) → zLs la M.2.2.1 ls → d ≤ R.frames → 38 * d ≤ R.locals → cells + (gz G' - gz G) ≤ R.cells → slots + (gs G' - gs G) ≤ R.slots →
    (∀ (H' : Heap) (locs' : List Loc) (la' : Array Slot) (pc' : Nat) (st' : List Value), zH D s G' H' → (∀ q ∈ locs', gb G ≤ q.base) → zRA M pc' r st' → W p l e R s m args below meth c H' locs' (cells + (gz G' - gz G)) (slots + (gs G' - gs G)) Q (F0 m pc' la' st')) →
    W p l e R s m args below meth c H locs cells slots Q (F0 m pc la (st.map zcv))
def zUp (G G' : zG) : Prop := gz G ≤ gz G' ∧ gs G ≤ gs G' ∧ gb G' = gb G ∧ gl G' = gl G
theorem zUp.rf {G : zG} : zUp G G := ⟨Nat.le_refl _, Nat.le_refl _, rfl, rfl⟩
theorem zUp.tr {G1 G2 G3 : zG} (h : zUp G1 G2) (h' : zUp G2 G3) : zUp G1 G3 := ⟨Nat.le_trans h.1 h'.1, Nat.le_trans h.2.1 h'.2.1, h'.2.2.1.trans h.2.2.1, h'.2.2.2.trans h.2.2.2⟩
/-- method M, at depth d, from here, ends with an answer and a heap that P holds of -/
def ZE (d : Nat) (M : zM) (G : zG) (pc : Nat) (ls st : List zV) (P : Option zV → zG → Prop) : Prop := ∃ r G', P r G' ∧ zUp G G' ∧ zSim d M G pc ls st r G'
theorem ZE.imp {d : Nat} {M : zM} {G : zG} {pc : Nat} {ls st : List zV} {P P' : Option zV → zG → Prop} (h : ZE d M G pc ls st P) (hp : ∀ r G', zUp G G' → P r G' → P' r G') : ZE d M G pc ls st P' := by
  obtain ⟨r, G', h1, h2, h3⟩ := h
  exact ⟨r, G', hp r G' h2 h1, h2, h3⟩
theorem ZE.deep {d d' : Nat} {M : zM} {G : zG} {pc : Nat} {ls st : List zV} {P : Option zV → zG → Prop} (hd : d ≤ d') (h : ZE d M G pc ls st P) : ZE d' M G pc ls st P := by
  obtain ⟨r, G', h1, h2, h3⟩ := h
  refine ⟨r, G', h1, h2, fun D p l e R s m args below meth c H locs cells slots Q la hC hH hl hla hfr hlo => h3 D p l e R s m args below meth c H locs cells slots Q la hC hH hl hla (by omega) (by omega)⟩
/-- an instruction that leaves the heap and the locals -/
theorem ZE.pure {d : Nat} {M : zM} {G : zG} {pc pc2 : Nat} {ls st st2 : List zV} {P : Option zV → zG → Prop} (k : ZE d M G pc2 ls st2 P)
    (h : ∀ (D : zD) (p : Program) (l : Launch) (e : Env) (R : Room) (s : State) (m : MethodId) (args : Array Value) (below : List Frame) (meth : Method) (c : Code) (H : Heap) (locs : List Loc) (cells slots : Nat) (Q : State → Prop) (la : Array Slot),
      p.tables.exec = Jvm.exec → c.code = M.2.1 → zC M D p s m args meth c → zH D s G H → zLs la M.2.2.1 ls → W p l e R s m args below meth c H locs cells slots Q (F0 m pc2 la (st2.map zcv)) → W p l e R s m args below meth c H locs cells slots Q (F0 m pc la (st.map zcv))) : ZE d M G pc ls st P := by
  obtain ⟨r, G', h1, h2, h3⟩ := k
  exact ⟨r, G', h1, h2, fun D p l e R s m args below meth c H locs cells slots Q la hC hH hl hla hfr hlo hc hs K => h D p l e R s m args below meth c H locs cells slots Q la hC.1 hC.2.1 hC hH hla (h3 D p l e R s m args below meth c H locs cells slots Q la hC hH hl hla hfr hlo hc hs K)⟩
/-- an instruction that leaves the heap -/
theorem ZE.loc {d : Nat} {M : zM} {G : zG} {pc pc2 : Nat} {ls ls2 st st2 : List zV} {P : Option zV → zG → Prop} (k : ZE d M G pc2 ls2 st2 P)
    (h : ∀ (D : zD) (p : Program) (l : Launch) (e : Env) (R : Room) (s : State) (m : MethodId) (args : Array Value) (below : List Frame) (meth : Method) (c : Code) (H : Heap) (locs : List Loc) (cells slots : Nat) (Q : State → Prop) (la : Array Slot),
      p.tables.exec = Jvm.exec → c.code = M.2.1 → zLs la M.2.2.1 ls → (∀ la2, zLs la2 M.2.2.1 ls2 → W p l e R s m args below meth c H locs cells slots Q (F0 m pc2 la2 (st2.map zcv))) → W p l e R s m args below meth c H locs cells slots Q (F0 m pc la (st.map zcv))) : ZE d M G pc ls st P := by
  obtain ⟨r, G', h1, h2, h3⟩ := k
  exact ⟨r, G', h1, h2, fun D p l e R s m args below meth c H locs cells slots Q la hC hH hl hla hfr hlo hc hs K => h D p l e R s m args below meth c H locs cells slots Q la hC.1 hC.2.1 hla (fun la2 hla2 => h3 D p l e R s m args below meth c H locs cells slots Q la2 hC hH hl hla2 hfr hlo hc hs K)⟩
/-- an instruction that changes the heap -/
theorem ZE.mem {d : Nat} {M : zM} {G G2 : zG} {pc pc2 : Nat} {ls st st2 : List zV} {P : Option zV → zG → Prop} (k : ZE d M G2 pc2 ls st2 P) (hu : zUp G G2)
    (h : ∀ (D : zD) (p : Program) (l : Launch) (e : Env) (R : Room) (s : State) (m : MethodId) (args : Array Value) (below : List Frame) (meth : Method) (c : Code) (H : Heap) (locs : List Loc) (cells slots : Nat) (Q : State → Prop) (la : Array Slot),
      p.tables.exec = Jvm.exec → c.code = M.2.1 → zC M D p s m args meth c → zH D s G H → (∀ q ∈ locs, gb G ≤ q.base) → zLs la M.2.2.1 ls → cells + (gz G2 - gz G) ≤ R.cells → slots + (gs G2 - gs G) ≤ R.slots →
      (∀ H2 locs2, zH D s G2 H2 → (∀ q ∈ locs2, gb G ≤ q.base) → W p l e R s m args below meth c H2 locs2 (cells + (gz G2 - gz G)) (slots + (gs G2 - gs G)) Q (F0 m pc2 la (st2.map zcv))) → W p l e R s m args below meth c H locs cells slots Q (F0 m pc la (st.map zcv))) : ZE d M G pc ls st P := by
  obtain ⟨r, G', h1, h2, h3⟩ := k
  refine ⟨r, G', h1, hu.tr h2, fun D p l e R s m args below meth c H locs cells slots Q la hC hH hl hla hfr hlo hc hs K => h D p l e R s m args below meth c H locs cells slots Q la hC.1 hC.2.1 hC hH hl hla ?_ ?_ (fun H2 locs2 hH2 hl2 => ?_)⟩
  · have := hu.1; have := h2.1; omega
  · have := hu.2.1; have := h2.2.1; omega
  · have a1 := hu.1; have a2 := h2.1; have a3 := hu.2.1; have a4 := h2.2.1
    refine h3 D p l e R s m args below meth c H2 locs2 _ _ Q la hC hH2 (by rw [hu.2.2.1]; exact hl2) hla hfr hlo (by omega) (by omega) (fun H' locs' la' pc' st' g1 g2 g3 => ?_)
    have e1 : cells + (gz G2 - gz G) + (gz G' - gz G2) = cells + (gz G' - gz G) := by omega
    have e2 : slots + (gs G2 - gs G) + (gs G' - gs G2) = slots + (gs G' - gs G) := by omega
    rw [e1, e2]
    exact K H' locs' la' pc' st' g1 (by rw [hu.2.2.1] at g2; exact g2) g3
