/-! a reference array's element set to null -/
section WNULL
variable {p : Program} {l : Launch} {e : Env} {R : Room} {s : State} {m : MethodId} {args : Array Value} {below : List Frame} {meth : Method} {c : Code} {H : Heap} {locs : List Loc} {cells slots : Nat} {Q : State → Prop}
theorem wAastN {cc : ByteArray} (hexec : p.tables.exec = Jvm.exec) (hb : c.code = cc) {a : Addr} {cell : Cell} {j : Int32} {k : Class} {comp : ClassId} {t : FieldType}
    (hcell : H[a]? = some cell) (hobj : ∀ q, cell.vm ≠ .statics q) (hknown : cell.vm ≠ .unknown) (hk : s.vm.classes[cell.cls]? = some k) (hkind : k.kind = .array comp t) (href : t.isReference = true)
    (hin : ¬ j < 0 ∧ j.toNatClampNeg < cell.slots.size)
    {g : JFrame} (hg : g.method = m) {rest : List Value} (hstack : g.stack = .null :: .int j :: .ref a :: rest) (hdg : decode cc g.pc = .ok (.aastore, 1))
    (kk : ∀ H' : Heap, H'[a]? = some (cell.setSlot j.toNatClampNeg .null) → H'.size = H.size → (∀ q, q ≠ a → H'[q]? = H[q]?) → W p l e R s m args below meth c H' (locs ++ [⟨a, j.toNatClampNeg⟩]) cells slots Q { g with pc := g.pc + 1, stack := rest }) :
    W p l e R s m args below meth c H locs cells slots Q g := by
  intro T hT X
  have hT' : T.heap[a]? = some cell := by rw [hT]; exact hcell
  obtain ⟨X', st⟩ := X.aastoreNullIn hexec hT' hobj hknown hk hkind href hin hg hstack (by rw [hb]; exact hdg)
  have hlt : a < T.heap.size := (Array.getElem?_eq_some_iff.mp hT').1
  obtain ⟨t', a1, b1⟩ := kk _ (heapAt_setCell_self _ hlt) (by rw [size_setCell, hT]) (fun q hq => by rw [heapAt_setCell_ne _ (Ne.symm hq), hT]) (T.setCell a (cell.setSlot j.toNatClampNeg .null)) rfl X'
  exact ⟨t', st t' a1, b1⟩
end WNULL
section ZNULL
variable {d : Nat} {M : zM} {G : zG} {pc : Nat} {ls st : List zV} {P : Option zV → zG → Prop}
theorem ZE.aastN {a i v : Int} {n : Nat} (hd : decode M.2.1 pc = .ok (.aastore, 1)) (hk : gk G a = n) (hn : 3 ≤ n ∧ n ≤ 5) (hi : 0 ≤ i ∧ i < gn G a) (hv : v = -1) (k : ZE d M (gset G a i v) (pc + 1) ls st P) : ZE d M G pc ls ((2, v) :: (0, i) :: (2, a) :: st) P := by
  subst hv
  refine ZE.mem k zUp.set (fun D p l e R s m args below meth c H locs cells slots Q la hx hb hC hH hl hla hc hs kk => ?_)
  obtain ⟨g1, g2, g3, g4, g5⟩ := hH.arr hk (by omega)
  obtain ⟨e1, e2, e3⟩ := zix hi g4
  rw [List.map_cons, List.map_cons, List.map_cons, zref g1]
  have hK := hC.2.2.2.2.2.1
  have e5 : (zEl n).isReference = true ∧ zTg (zEl n) = 2 := by
    have hc : n = 3 ∨ n = 4 ∨ n = 5 := by omega
    rcases hc with rfl | rfl | rfl <;> exact ⟨rfl, rfl⟩
  obtain ⟨C, hC5⟩ : ∃ C, zEl n = .object C := by
    have hc : n = 3 ∨ n = 4 ∨ n = 5 := by omega
    rcases hc with rfl | rfl | rfl <;> exact ⟨_, rfl⟩
  have hRA := (hK.arr (k := n) (by omega)).2
  rw [hC5] at hRA
  obtain ⟨kA, comp, k1, k2, k3, -⟩ := hRA
  refine wAastN hx hb g5 (fun q h => by cases h) (fun h => by cases h) k1 k2 rfl ⟨e1, by rw [arrV_size, e2]; exact e3⟩ rfl rfl hd fun H1 e z oq => ?_
  rw [e2] at e
  have hw : Value.null = zcv (zTg (zEl n), -1) := by rw [e5.2]; rfl
  have := kk H1 (locs ++ [⟨a.toNat, (Int32.ofInt i).toNatClampNeg⟩]) (zset_arr hH hk (by omega) hi hw e z oq) (zlocs hl g2)
  simpa [gz, gs, gset] using this
end ZNULL
