/-! ===== rows of the heap: arrays, fields, new cells ===== -/
theorem zH.arr {D : zD} {s : State} {G : zG} {H : Heap} {a : Int} {k : Nat} (h : zH D s G H) (hk : gk G a = k) (h1 : 1 ≤ k ∧ k ≤ 5) : 0 ≤ a ∧ (gb G : Int) ≤ a ∧ 0 ≤ gn G a ∧ gn G a ≤ 2147483647 ∧ H[a.toNat]? = some (arrV (D.2.2 k) (gn G a).toNat (fun j => zcv (zTg (zEl k), gc G a j))) := by
  subst hk
  rcases h.2.2.1 a with h0 | ⟨g1, g2, ⟨g3, g4⟩ | ⟨g3, g4, g5, g6⟩ | ⟨g3, g4, g5⟩⟩
  · omega
  · omega
  · exact ⟨g1, g3, g2.1, g2.2, g6⟩
  · omega
theorem zH.obj {D : zD} {s : State} {G : zG} {H : Heap} {a : Int} {ci : Nat} (h : zH D s G H) (hk : gk G a = 10 + ci) : 0 ≤ a ∧ (gb G : Int) ≤ a ∧ ∃ (C : String) (T : u_T) (N : Nat), vwCl[ci]? = some (C, T, N) ∧ t_OB a.toNat (D.1 ci) N (D.2.1 ci) H (fun j => zcv (zTg (zTy ci j), gc G a j)) := by
  rcases h.2.2.1 a with h0 | ⟨g1, g2, ⟨g3, g4⟩ | ⟨g3, g4, g5, g6⟩ | ⟨g3, g4, g5⟩⟩
  · omega
  · omega
  · omega
  · rw [hk] at g5
    rw [Nat.add_sub_cancel_left] at g5
    exact ⟨g1, g3, g5⟩
theorem zH.ro {D : zD} {s : State} {G : zG} {H : Heap} {a : Int} (h : zH D s G H) (hk : gk G a = 6) : 0 ≤ a ∧ 0 ≤ gn G a ∧ gn G a ≤ 2147483647 ∧ va_T .int a.toNat (gn G a).toNat (fun j => .int (Int32.ofInt (gc G a j))) (fun _ => False) s H := by
  rcases h.2.2.1 a with h0 | ⟨g1, g2, ⟨g3, g4⟩ | ⟨g3, g4, g5, g6⟩ | ⟨g3, g4, g5⟩⟩
  · omega
  · exact ⟨g1, g2.1, g2.2, g4⟩
  · omega
  · omega
theorem zK.arr {D : zD} {s : State} (h : zK D s) {k : Nat} (h1 : 1 ≤ k ∧ k ≤ 5) : ArrOfT s (D.2.2 k) (zEl k) ∧ va_RA s (D.2.2 k) (zEl k) := by
  have hk : k = 1 ∨ k = 2 ∨ k = 3 ∨ k = 4 ∨ k = 5 := by omega
  rcases hk with rfl | rfl | rfl | rfl | rfl
  · exact h.1.2 0 _ rfl
  · exact h.1.2 1 _ rfl
  · exact h.1.2 2 _ rfl
  · exact h.1.2 3 _ rfl
  · exact h.1.2 4 _ rfl
theorem zref {a : Int} (h : 0 ≤ a) : zcv (2, a) = .ref a.toNat := if_neg (by omega)
theorem zix {i n : Int} (h : 0 ≤ i ∧ i < n) (hn : n ≤ 2147483647) : ¬ Int32.ofInt i < 0 ∧ (Int32.ofInt i).toNatClampNeg = i.toNat ∧ i.toNat < n.toNat := by
  have hr : zR i := by unfold zR; omega
  refine ⟨fun q => ?_, ?_, by omega⟩
  · have := (zi_lt hr zR0).mp q
    omega
  · rw [← Int32.toNat_toInt, hr.toInt]
section ZMEM
variable {d : Nat} {M : zM} {G : zG} {pc : Nat} {ls st : List zV} {P : Option zV → zG → Prop}
theorem ZE.iald {a i : Int} (hd : decode M.2.1 pc = .ok (.iaload, 1)) (hk : gk G a = 1) (hi : 0 ≤ i ∧ i < gn G a) (k : ZE d M G (pc + 1) ls ((0, gc G a i) :: st) P) : ZE d M G pc ls ((0, i) :: (2, a) :: st) P := by
  refine ZE.pure k (fun D p l e R s m args below meth c H locs cells slots Q la hx hb hC hH hla kk => ?_)
  obtain ⟨g1, g2, g3, g4, g5⟩ := hH.arr hk (by omega)
  obtain ⟨e1, e2, e3⟩ := zix hi g4
  rw [List.map_cons, List.map_cons, zref g1]
  have e4 : (i.toNat : Int) = i := by omega
  refine W.iald (v := zcv (0, gc G a i)) hx hb g5 ((hC.2.2.2.2.2.1.arr (by omega)).1 _ _) (fun q => by cases q) ?_ ?_ rfl rfl hd kk
  · rw [arrV_size, e2]; intro q; rcases q with q | q
    · exact e1 q
    · omega
  · rw [e2, arrV_read _ _ e3, e4]; rfl
theorem ZE.bald {a i : Int} (hd : decode M.2.1 pc = .ok (.baload, 1)) (hk : gk G a = 2) (hi : 0 ≤ i ∧ i < gn G a) (k : ZE d M G (pc + 1) ls ((0, gc G a i) :: st) P) : ZE d M G pc ls ((0, i) :: (2, a) :: st) P := by
  refine ZE.pure k (fun D p l e R s m args below meth c H locs cells slots Q la hx hb hC hH hla kk => ?_)
  obtain ⟨g1, g2, g3, g4, g5⟩ := hH.arr hk (by omega)
  obtain ⟨e1, e2, e3⟩ := zix hi g4
  rw [List.map_cons, List.map_cons, zref g1]
  have e4 : (i.toNat : Int) = i := by omega
  refine W.bald (v := zcv (0, gc G a i)) hx hb g5 ((hC.2.2.2.2.2.1.arr (by omega)).1 _ _) (fun q => by cases q) ?_ ?_ rfl rfl hd kk
  · rw [arrV_size, e2]; intro q; rcases q with q | q
    · exact e1 q
    · omega
  · rw [e2, arrV_read _ _ e3, e4]; rfl
theorem ZE.ialdR {a i : Int} (hd : decode M.2.1 pc = .ok (.iaload, 1)) (hk : gk G a = 6) (hi : 0 ≤ i ∧ i < gn G a) (k : ZE d M G (pc + 1) ls ((0, gc G a i) :: st) P) : ZE d M G pc ls ((0, i) :: (2, a) :: st) P := by
  refine ZE.pure k (fun D p l e R s m args below meth c H locs cells slots Q la hx hb hC hH hla kk => ?_)
  obtain ⟨g1, g2, g3, scr, g5, g6, g7, g8, g10, g9, -⟩ := hH.ro hk
  obtain ⟨e1, e2, e3⟩ := zix hi g3
  rw [List.map_cons, List.map_cons, zref g1]
  have e4 : (i.toNat : Int) = i := by omega
  refine W.iald (v := zcv (0, gc G a i)) hx hb g5 g6 g7 ?_ ?_ rfl rfl hd kk
  · rw [e2]; intro q; rcases q with q | q
    · exact e1 q
    · omega
  · rw [e2, g9 _ e3]; show some (Value.int (Int32.ofInt (gc G a (i.toNat : Int)))) = _; rw [e4]; rfl
theorem ZE.aald {a i : Int} {n : Nat} (hd : decode M.2.1 pc = .ok (.aaload, 1)) (hk : gk G a = n) (hn : 3 ≤ n ∧ n ≤ 5) (hi : 0 ≤ i ∧ i < gn G a) (k : ZE d M G (pc + 1) ls ((2, gc G a i) :: st) P) : ZE d M G pc ls ((0, i) :: (2, a) :: st) P := by
  refine ZE.pure k (fun D p l e R s m args below meth c H locs cells slots Q la hx hb hC hH hla kk => ?_)
  obtain ⟨g1, g2, g3, g4, g5⟩ := hH.arr hk (by omega)
  obtain ⟨e1, e2, e3⟩ := zix hi g4
  rw [List.map_cons, List.map_cons, zref g1]
  have e4 : (i.toNat : Int) = i := by omega
  have e5 : (zEl n).isReference = true ∧ zTg (zEl n) = 2 := by
    have hc : n = 3 ∨ n = 4 ∨ n = 5 := by omega
    rcases hc with rfl | rfl | rfl <;> exact ⟨rfl, rfl⟩
  refine W.aald (v := zcv (2, gc G a i)) (ty := zEl n) hx hb g5 ((hC.2.2.2.2.2.1.arr (by omega)).1 _ _) e5.1 (fun q => by cases q) ?_ ?_ rfl rfl hd kk
  · rw [arrV_size, e2]; intro q; rcases q with q | q
    · exact e1 q
    · omega
  · rw [e2, arrV_read _ _ e3, e4, e5.2]
theorem zi_nat {n : Int} (h : 0 ≤ n) : Int32.ofInt n = Int32.ofNat n.toNat := by
  rw [← Int32.ofInt_eq_ofNat]; congr 1; omega
theorem ZE.alen {a : Int} (hd : decode M.2.1 pc = .ok (.arraylength, 1)) (hk : 1 ≤ gk G a ∧ gk G a ≤ 6) (k : ZE d M G (pc + 1) ls ((0, gn G a) :: st) P) : ZE d M G pc ls ((2, a) :: st) P := by
  refine ZE.pure k (fun D p l e R s m args below meth c H locs cells slots Q la hx hb hC hH hla kk => ?_)
  by_cases h6 : gk G a = 6
  · obtain ⟨g1, g2, g3, scr, g5, g6, g7, g8, g10, g9, -⟩ := hH.ro h6
    rw [List.map_cons, zref g1]
    exact W.alen (n := Int32.ofInt (gn G a)) hx hb g5 g6 (by rw [g10, zi_nat g2]) rfl rfl hd kk
  · obtain ⟨g1, g2, g3, g4, g5⟩ := hH.arr rfl (k := gk G a) (by omega)
    rw [List.map_cons, zref g1]
    exact W.alen (n := Int32.ofInt (gn G a)) hx hb g5 ((hC.2.2.2.2.2.1.arr (by omega)).1 _ _) (by rw [arrV_size, zi_nat g3]) rfl rfl hd kk
/-- what a written array's cell is -/
theorem arrV_set {cA : ClassId} {n i : Nat} {f g : Nat → Value} {v : Value} (hi : i < n) (hg : ∀ j, g j = if j = i then v else f j) : (arrV cA n f).setSlot i v = arrV cA n g := by
  rw [arrV_store]
  congr 1
  funext j
  rw [hg]
  rfl
theorem gset_gc {G : zG} {a i v b j : Int} : gc (gset G a i v) b j = if b = a ∧ j = i then v else gc G b j := rfl
theorem zUp.set {G : zG} {a i v : Int} : zUp G (gset G a i v) := ⟨Nat.le_refl _, Nat.le_refl _, rfl, rfl⟩
theorem zset_arr {D : zD} {s : State} {G : zG} {H H1 : Heap} {a i v : Int} {k : Nat} {w : Value} (hH : zH D s G H) (hk : gk G a = k) (h1 : 1 ≤ k ∧ k ≤ 5) (hi : 0 ≤ i ∧ i < gn G a) (hw : w = zcv (zTg (zEl k), v)) (e : H1[a.toNat]? = some ((arrV (D.2.2 k) (gn G a).toNat (fun j => zcv (zTg (zEl k), gc G a j))).setSlot i.toNat w)) (z : H1.size = H.size) (o : ∀ q, q ≠ a.toNat → H1[q]? = H[q]?) : zH D s (gset G a i v) H1 := by
  obtain ⟨g1, g2, g3, g4, g5⟩ := hH.arr hk h1
  refine hH.set g2 z o (Or.inr ⟨g1, ⟨g3, g4⟩, Or.inr (Or.inl ⟨g2, by show 1 ≤ gk G a; omega, by show gk G a ≤ 5; omega, ?_⟩)⟩)
  show H1[a.toNat]? = some (arrV (D.2.2 (gk G a)) (gn G a).toNat (fun j => zcv (zTg (zEl (gk G a)), gc (gset G a i v) a j)))
  rw [e, hk, hw]
  congr 1
  refine arrV_set (by omega) (fun j => ?_)
  rw [gset_gc]
  by_cases c : j = i.toNat
  · rw [if_pos c, if_pos ⟨rfl, by omega⟩]
  · rw [if_neg c, if_neg (fun q => c (by have := q.2; omega))]
theorem zlocs {n : Nat} {locs : List Loc} {a : Int} {i : Nat} (h : ∀ q ∈ locs, n ≤ q.base) (ha : (n : Int) ≤ a) : ∀ q ∈ locs ++ [⟨a.toNat, i⟩], n ≤ q.base := by
  intro q hq
  rcases List.mem_append.mp hq with hq | hq
  · exact h q hq
  · rw [List.mem_singleton] at hq
    subst hq
    show n ≤ a.toNat
    omega
theorem ZE.iast {a i v : Int} (hd : decode M.2.1 pc = .ok (.iastore, 1)) (hk : gk G a = 1) (hi : 0 ≤ i ∧ i < gn G a) (k : ZE d M (gset G a i v) (pc + 1) ls st P) : ZE d M G pc ls ((0, v) :: (0, i) :: (2, a) :: st) P := by
  refine ZE.mem k zUp.set (fun D p l e R s m args below meth c H locs cells slots Q la hx hb hC hH hl hla hc hs kk => ?_)
  obtain ⟨g1, g2, g3, g4, g5⟩ := hH.arr hk (by omega)
  obtain ⟨e1, e2, e3⟩ := zix hi g4
  rw [List.map_cons, List.map_cons, List.map_cons, zref g1]
  refine W.iast hx hb g5 ((hC.2.2.2.2.2.1.arr (by omega)).1 _ _) (fun q => by cases q) ?_ rfl rfl hd fun H1 e z oq => ?_
  · rw [arrV_size]; intro q; rcases q with q | q
    · exact e1 q
    · rw [e2] at q; omega
  · rw [e2] at e
    have := kk H1 (locs ++ [⟨a.toNat, (Int32.ofInt i).toNatClampNeg⟩]) (zset_arr hH hk (by omega) hi rfl e z oq) (zlocs hl g2)
    simpa [gz, gs, gset] using this
theorem ZE.bast {a i v : Int} (hd : decode M.2.1 pc = .ok (.bastore, 1)) (hk : gk G a = 2) (hi : 0 ≤ i ∧ i < gn G a) (k : ZE d M (gset G a i (z8 v)) (pc + 1) ls st P) : ZE d M G pc ls ((0, v) :: (0, i) :: (2, a) :: st) P := by
  refine ZE.mem k zUp.set (fun D p l e R s m args below meth c H locs cells slots Q la hx hb hC hH hl hla hc hs kk => ?_)
  obtain ⟨g1, g2, g3, g4, g5⟩ := hH.arr hk (by omega)
  obtain ⟨e1, e2, e3⟩ := zix hi g4
  rw [List.map_cons, List.map_cons, List.map_cons, zref g1]
  refine W.bast hx hb g5 ((hC.2.2.2.2.2.1.arr (by omega)).1 _ _) (fun q => by cases q) ?_ rfl rfl hd fun H1 e z oq => ?_
  · rw [arrV_size]; intro q; rcases q with q | q
    · exact e1 q
    · rw [e2] at q; omega
  · rw [e2] at e
    have hn : narrow .byte (.int (Int32.ofInt v)) = zcv (zTg (zEl 2), z8 v) := by
      show Value.int (Int32.ofInt v).toInt8.toInt32 = Value.int (Int32.ofInt (z8 v))
      congr 1
      rw [Int32.toInt8_ofInt, ← Int32.toInt_inj, Int8.toInt_toInt32, zR.toInt]
      · rfl
      · have := Int8.le_toInt (Int8.ofInt v); have := Int8.toInt_lt (Int8.ofInt v); unfold zR z8; omega
    have := kk H1 (locs ++ [⟨a.toNat, (Int32.ofInt i).toNatClampNeg⟩]) (zset_arr hH hk (by omega) hi hn e z oq) (zlocs hl g2)
    simpa [gz, gs, gset] using this
def zElC (n : Nat) : Nat := match n with
  | 3 => 9
  | 4 => 1
  | _ => 0
theorem ZE.aast {a i v : Int} {n : Nat} (hd : decode M.2.1 pc = .ok (.aastore, 1)) (hk : gk G a = n) (hn : 3 ≤ n ∧ n ≤ 5) (hi : 0 ≤ i ∧ i < gn G a) (hv : gk G v = 10 + zElC n) (k : ZE d M (gset G a i v) (pc + 1) ls st P) : ZE d M G pc ls ((2, v) :: (0, i) :: (2, a) :: st) P := by
  refine ZE.mem k zUp.set (fun D p l e R s m args below meth c H locs cells slots Q la hx hb hC hH hl hla hc hs kk => ?_)
  obtain ⟨g1, g2, g3, g4, g5⟩ := hH.arr hk (by omega)
  obtain ⟨v1, v2, C, T, N, hvc, cellV, c1, c2, c3, c4⟩ := hH.obj hv
  obtain ⟨e1, e2, e3⟩ := zix hi g4
  rw [List.map_cons, List.map_cons, List.map_cons, zref g1, zref v1]
  have hK := hC.2.2.2.2.2.1
  have hcls := (hK.1.1 _ _ hvc).2
  have e5 : zEl n = .object C ∧ zTg (zEl n) = 2 := by
    have hc : n = 3 ∨ n = 4 ∨ n = 5 := by omega
    rcases hc with rfl | rfl | rfl <;> (cases hvc; exact ⟨rfl, rfl⟩)
  have hRA := (hK.arr (k := n) (by omega)).2
  rw [e5.1] at hRA
  obtain ⟨kA, comp, k1, k2, k3, -⟩ := hRA
  have hcomp : comp = D.1 (zElC n) := Option.some.inj (k3.symm.trans hcls.1)
  subst hcomp
  obtain ⟨kC, hkC, -⟩ := hcls.2
  refine W.aast hx hb g5 (fun q h => by cases h) (fun h => by cases h) k1 k2 rfl hkC ⟨e1, by rw [arrV_size, e2]; exact e3⟩ c1 (fun q h => by rw [c3] at h; cases h) (by rw [c2]; exact hkC) (by rw [c2]; exact va_assign hcls) rfl rfl hd fun H1 e z oq => ?_
  rw [e2] at e
  have hw : Value.ref v.toNat = zcv (zTg (zEl n), v) := by rw [e5.2]; exact (zref v1).symm
  have := kk H1 (locs ++ [⟨a.toNat, (Int32.ofInt i).toNatClampNeg⟩]) (zset_arr hH hk (by omega) hi hw e z oq) (zlocs hl g2)
  simpa [gz, gs, gset] using this
theorem ZE.get {a : Int} {idx ci k tg : Nat} (hd : decode M.2.1 pc = .ok (.getfield idx, 3)) (hf : zFld M.1.cls idx ci k) (ht : zTg (zTy ci k) = tg) (hk : gk G a = 10 + ci) (kk : ZE d M G (pc + 3) ls ((tg, gc G a k) :: st) P) : ZE d M G pc ls ((2, a) :: st) P := by
  subst ht
  obtain ⟨C, T, N, hc, hkN, hlink⟩ := hf
  refine ZE.pure kk (fun D p l e R s m args below meth c H locs cells slots Q la hx hb hC hH hla kk => ?_)
  obtain ⟨g1, g2, C', T', N', hc', hob⟩ := hH.obj hk
  have e1 := Option.some.inj (hc'.symm.trans hc)
  cases e1
  rw [List.map_cons, zref g1]
  have hts := hC.2.2.2.2.1
  have hok := zcls_ok ci _ hc
  obtain ⟨cell, q1, q2, q3, q4⟩ := hob
  obtain ⟨hS, hfc, kC, hkC, hkind⟩ := hC.2.2.2.2.2.1.1.1 ci _ hc
  obtain ⟨cf, kf, fi, f, hi, hsl⟩ := hS k hkN
  refine W.getf hx hb hC.2.2.2.1 (hts _ hlink) hi (u_facts hfc hkC (u_lays hts hok.1 hkN) hi).1 q1 (by rw [q3]; exact fun h => by cases h) (v := zcv (zTg (zTy ci k), gc G a k)) ?_ rfl rfl hd kk
  rw [hsl, q4 k hkN]
/-- which values a field may be given as they are -/
def zFit (ty : FieldType) (v : Int) : Prop := match ty with
  | .int => True
  | .boolean => v = 0 ∨ v = 1
  | .object _ => True
  | .array _ => True
  | _ => False
theorem zFit.ok {ty : FieldType} {v : Int} (h : zFit ty v) : narrow ty (zcv (zTg ty, v)) = zcv (zTg ty, v) ∧ fits ty (zcv (zTg ty, v)) = true := by
  cases ty with
  | int => exact ⟨rfl, rfl⟩
  | boolean =>
    have h1 : v = 0 ∨ v = 1 := h
    rcases h1 with rfl | rfl <;> exact ⟨rfl, rfl⟩
  | object C => exact ⟨rfl, by show fits _ (if v < 0 then Value.null else .ref v.toNat) = true; split <;> rfl⟩
  | array C => exact ⟨rfl, by show fits _ (if v < 0 then Value.null else .ref v.toNat) = true; split <;> rfl⟩
  | _ => exact h.elim
theorem zset_obj {D : zD} {s : State} {G : zG} {H H1 : Heap} {a v : Int} {ci k : Nat} {C : String} {T : u_T} {N : Nat} {cell : Cell} (hH : zH D s G H) (hk : gk G a = 10 + ci) (hc : vwCl[ci]? = some (C, T, N)) (hkN : k < N) (q1 : H[a.toNat]? = some cell) (q2 : cell.cls = D.1 ci) (q3 : cell.vm = .none) (q4 : ∀ j, j < N → cell.slots[D.2.1 ci j]? = some (zcv (zTg (zTy ci j), gc G a j))) (hap : ∀ x y, x < N → y < N → x ≠ y → D.2.1 ci x ≠ D.2.1 ci y) (e1 : H1[a.toNat]? = some (cell.setSlot (D.2.1 ci k) (zcv (zTg (zTy ci k), v)))) (z : H1.size = H.size) (o : ∀ q, q ≠ a.toNat → H1[q]? = H[q]?) : zH D s (gset G a k v) H1 := by
  obtain ⟨g1, g2, -⟩ := hH.obj hk
  have hn := hH.2.2.1 a
  have hn2 : 0 ≤ gn G a ∧ gn G a ≤ 2147483647 := by
    rcases hn with h0 | ⟨-, h0, -⟩
    · omega
    · exact h0
  refine hH.set g2 z o (Or.inr ⟨g1, hn2, Or.inr (Or.inr ⟨g2, by show 10 ≤ gk G a; omega, C, T, N, by show vwCl[gk G a - 10]? = _; rw [hk, Nat.add_sub_cancel_left]; exact hc, ?_⟩)⟩)
  show t_OB a.toNat (D.1 (gk G a - 10)) N (D.2.1 (gk G a - 10)) H1 (fun j => zcv (zTg (zTy (gk G a - 10) j), gc (gset G a k v) a j))
  rw [hk, Nat.add_sub_cancel_left]
  refine ⟨_, e1, q2, q3, fun j hj => ?_⟩
  have h5 := t_set q4 hap hkN (zcv (zTg (zTy ci k), v)) j hj
  refine h5.trans (congrArg some ?_)
  show updV (fun k => zcv (zTg (zTy ci k), gc G a k)) k (zcv (zTg (zTy ci k), v)) j = zcv (zTg (zTy ci j), gc (gset G a k v) a j)
  rw [gset_gc]
  unfold updV
  by_cases cc : j = k
  · subst cc; rw [if_pos rfl, if_pos ⟨rfl, rfl⟩]
  · rw [if_neg cc, if_neg (fun q => cc (by have := q.2; omega))]
theorem ZE.put {a v : Int} {idx ci k tg : Nat} (hd : decode M.2.1 pc = .ok (.putfield idx, 3)) (hf : zFld M.1.cls idx ci k) (ht : zTg (zTy ci k) = tg) (hfit : zFit (zTy ci k) v) (hfin : zFin M.1.cls ci k false ∨ (zFin M.1.cls ci k true ∧ M.1.name = "<init>")) (hk : gk G a = 10 + ci) (kk : ZE d M (gset G a k v) (pc + 3) ls st P) : ZE d M G pc ls ((tg, v) :: (2, a) :: st) P := by
  subst ht
  obtain ⟨C, T, N, hc, hkN, hlink⟩ := hf
  refine ZE.mem kk zUp.set (fun D p l e R s m args below meth c H locs cells slots Q la hx hb hC hH hl hla hcc hss kk => ?_)
  obtain ⟨g1, g2, C', T', N', hc', hob⟩ := hH.obj hk
  have e1 := Option.some.inj (hc'.symm.trans hc)
  cases e1
  rw [List.map_cons, List.map_cons, zref g1]
  have hts := hC.2.2.2.2.1
  have hok := zcls_ok ci _ hc
  obtain ⟨cell, q1, q2, q3, q4⟩ := hob
  obtain ⟨hS, hfc, kC, hkC, hkind⟩ := hC.2.2.2.2.2.1.1.1 ci _ hc
  obtain ⟨cf, kf, fi, f, hi, hsl⟩ := hS k hkN
  have hap := va_apart (own := M.1.cls) hts hok.1 (zTy ci) hok.2.1 hok.2.2.1 hC.2.2.2.2.2.1.1 hc
  have hst := (u_facts hfc hkC (u_lays hts hok.1 hkN) hi).1
  have hlay := hts _ (hok.1 _ (u_in_lay hkN))
  obtain ⟨fn, ff⟩ := hfit.ok
  have hd0 : parseFieldDescriptor (T k).2.2.1 = some (zTy ci k) := hok.2.1 k hkN
  have fin : ∀ H1 : Heap, H1[a.toNat]? = some (cell.setSlot f.slot (zcv (zTg (zTy ci k), v))) → H1.size = H.size → (∀ q, q ≠ a.toNat → H1[q]? = H[q]?) → W p l e R s m args below meth c H1 (locs ++ [⟨a.toNat, f.slot⟩]) cells slots Q (F0 m (pc + 3) la (st.map zcv)) := fun H1 e1 z o => by
    have := kk H1 (locs ++ [⟨a.toNat, f.slot⟩]) (zset_obj hH hk hc hkN q1 q2 q3 q4 hap (by rw [hsl] at e1; exact e1) z o) (zlocs hl g2)
    simpa [gz, gs, gset] using this
  rcases hfin with ⟨C2, T2, N2, hc2, hfa, hde⟩ | ⟨⟨C2, T2, N2, hc2, hfa, hde⟩, hin⟩
  · have e2 := Option.some.inj (hc2.symm.trans hc)
    cases e2
    unfold u_lay at hlay
    rw [if_neg (by rw [hfa]; decide)] at hlay
    have h6 := u_store hfc hkC hkind hlay hi hd0 fn ff
    exact W.putK hx hb (f := f) ⟨hC.2.2.2.1, hts _ hlink, ⟨_, _, _, hi⟩, hst⟩ (by rw [q2]; exact h6) q1 q3 (by rw [hsl]; exact k2_hasslot (q4 k hkN)) rfl rfl hd fin
  · have e2 := Option.some.inj (hc2.symm.trans hc)
    cases e2
    unfold u_lay at hlay
    rw [if_pos hfa] at hlay
    have hcf : m.cls = cf := by
      obtain ⟨_, _, c', _, _, _, -, -, hf', -, -, -, hown2, -⟩ := Cond.laysFinal_spec hlay
      have e1 : c' = cf := by have := hi.symm.trans hf'; simp at this; exact this.1.symm
      rw [hde] at hown2
      rw [← e1]; exact Option.some.inj (hC.2.2.2.1.symm.trans hown2)
    have h6 := u_fits hfc hkC hkind (Or.inr hlay) hi hd0 fn ff
    exact W.putFinK hx hb hC.2.2.2.1 (hts _ hlink) hi hst hcf (hC.2.2.2.2.2.2 hin) (by rw [q2]; exact h6) q1 q3 (by rw [hsl]; exact k2_hasslot (q4 k hkN)) rfl rfl hd fin
end ZMEM
