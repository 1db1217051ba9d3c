/-! ===== new cells, calls, floats ===== -/
def zInit (ci : Nat) (j : Int) : Int := if zTg (zTy ci j.toNat) = 2 then -1 else 0
theorem zdef (ty : FieldType) : defaultValue ty = zcv (zTg ty, if zTg ty = 2 then -1 else 0) := by
  cases ty <;> rfl
theorem zUp.new {G : zG} {k n : Nat} {f : Int → Int} : zUp G (gnew G k n f) := ⟨Nat.le_succ _, Nat.le_add_right _ _, rfl, rfl⟩
theorem gnew_gk {G : zG} {k n : Nat} {f : Int → Int} : gk (gnew G k n f) (gz G : Int) = k := if_pos rfl
theorem gnew_gn {G : zG} {k n : Nat} {f : Int → Int} : gn (gnew G k n f) (gz G : Int) = (n : Int) := if_pos rfl
theorem gnew_gc {G : zG} {k n : Nat} {f : Int → Int} {j : Int} : gc (gnew G k n f) (gz G : Int) j = f j := if_pos rfl
theorem gnew_gkn {G : zG} {k n : Nat} {f : Int → Int} {a : Int} (h : a ≠ (gz G : Int)) : gk (gnew G k n f) a = gk G a := if_neg h
theorem gnew_gnn {G : zG} {k n : Nat} {f : Int → Int} {a : Int} (h : a ≠ (gz G : Int)) : gn (gnew G k n f) a = gn G a := if_neg h
theorem gnew_gcn {G : zG} {k n : Nat} {f : Int → Int} {a j : Int} (h : a ≠ (gz G : Int)) : gc (gnew G k n f) a j = gc G a j := if_neg h
theorem zanew {D : zD} {s : State} {G : zG} {H H1 : Heap} {k n : Nat} {f : Int → Int} {w : Value} (hH : zH D s G H) (h1 : 1 ≤ k ∧ k ≤ 5) (hn : n ≤ 2147483647) (hw : ∀ j, zcv (zTg (zEl k), f j) = w) (e : H1[H.size]? = some (arrV (D.2.2 k) n (fun _ => w))) (z : H1.size = H.size + 1) (o : ∀ q, q < H.size → H1[q]? = H[q]?) : zH D s (gnew G k n f) H1 := by
  have hz := hH.1
  have hb := hH.2.1
  refine hH.new z o (Or.inr ⟨by omega, by rw [gnew_gn]; omega, Or.inr (Or.inl ⟨by show (gb G : Int) ≤ _; omega, by rw [gnew_gk]; omega, by rw [gnew_gk]; omega, ?_⟩)⟩)
  rw [gnew_gk, gnew_gn, Int.toNat_natCast, Int.toNat_natCast, ← hz, e]
  congr 1
  congr 1
  funext j
  rw [hz, gnew_gc, hw]
section ZNEW
variable {d : Nat} {M : zM} {G : zG} {pc : Nat} {ls st : List zV} {P : Option zV → zG → Prop}
theorem ZE.new {idx ci N : Nat} (hd : decode M.2.1 pc = .ok (.new idx, 3)) (hn : zNew M.1.cls idx ci N) (k : ZE d M (gnew G (10 + ci) N (zInit ci)) (pc + 3) ls ((2, (gz G : Int)) :: st) P) : ZE d M G pc ls st P := by
  obtain ⟨C, T, hc, hlink⟩ := hn
  refine ZE.mem k zUp.new (fun D p l e R s m args below meth c H locs cells slots Q la hx hb hC hH hl hla hcc hss kk => ?_)
  have hts := hC.2.2.2.2.1
  have hok := zcls_ok ci _ hc
  have hKn := hC.2.2.2.2.2.1.1.1 ci _ hc
  have e0 : gz (gnew G (10 + ci) N (zInit ci)) - gz G = 1 := Nat.add_sub_cancel_left _ _
  have e1 : gs (gnew G (10 + ci) N (zInit ci)) - gs G = N := Nat.add_sub_cancel_left _ _
  rw [e0] at hcc
  rw [e1] at hss
  refine W.newcK hx hb hC.2.2.2.1 (hts _ hlink) (hts _ hok.2.2.2.1) (hts _ hok.2.2.2.2) rfl hd hcc hss hKn.2.1 rfl fun H1 kC hkC e2 z1 o1 => ?_
  have hz := hH.1
  have hbb := hH.2.1
  have hob := u_born (zTy ci) hts hok.1 hKn hkC e2 hok.2.1
  have hN : N ≤ 2147483647 := by
    have : ci < 12 := (List.getElem?_eq_some_iff.mp hc).1
    have hcs : ci = 0 ∨ ci = 1 ∨ ci = 2 ∨ ci = 3 ∨ ci = 4 ∨ ci = 5 ∨ ci = 6 ∨ ci = 7 ∨ ci = 8 ∨ ci = 9 ∨ ci = 10 ∨ ci = 11 := by omega
    rcases hcs with rfl | rfl | rfl | rfl | rfl | rfl | rfl | rfl | rfl | rfl | rfl | rfl <;> (cases hc; exact Nat.le_of_ble_eq_true rfl)
  have hH1 : zH D s (gnew G (10 + ci) N (zInit ci)) H1 := by
    refine hH.new z1 o1 (Or.inr ⟨by omega, by rw [gnew_gn]; omega, Or.inr (Or.inr ⟨by show (gb G : Int) ≤ _; omega, by rw [gnew_gk]; omega, C, T, N, by rw [gnew_gk, Nat.add_sub_cancel_left]; exact hc, ?_⟩)⟩)
    rw [gnew_gk, Nat.add_sub_cancel_left, Int.toNat_natCast, ← hz]
    refine hob.to (fun j hj => ?_)
    rw [hz, gnew_gc]
    show defaultValue (zTy ci j) = _
    rw [zdef]
    rfl
  have := kk H1 locs hH1 hl
  rw [e0, e1, ← hz] at this
  have e3 : zcv (2, (H.size : Int)) = .ref H.size := by rw [zref (by omega)]; rfl
  rw [List.map_cons, e3] at this
  exact this
theorem ZE.newI {n : Nat} {x : Int} (hd : decode M.2.1 pc = .ok (.newarray .int, 2)) (hn : x = (n : Int)) (hn2 : n ≤ 100000) (k : ZE d M (gnew G 1 n (fun _ => 0)) (pc + 2) ls ((2, (gz G : Int)) :: st) P) : ZE d M G pc ls ((0, x) :: st) P := by
  subst hn
  refine ZE.mem k zUp.new (fun D p l e R s m args below meth c H locs cells slots Q la hx hb hC hH hl hla hcc hss kk => ?_)
  have hts := hC.2.2.2.2.1
  have e0 : gz (gnew G 1 n (fun _ => 0)) - gz G = 1 := Nat.add_sub_cancel_left _ _
  have e1 : gs (gnew G 1 n (fun _ => 0)) - gs G = n := Nat.add_sub_cancel_left _ _
  rw [e0] at hcc
  rw [e1] at hss
  have hr : zR (n : Int) := by unfold zR; omega
  refine va_newaK (atype := .int) (n := Int32.ofInt n) (N := n) hx hb (hts _ zac_int) rfl hd rfl (fun q => ?_) ?_ (by show n * 4 ≤ _; omega) hcc hss rfl fun H1 cA e2 z1 o1 hAr hNm => ?_
  · have := (zi_lt hr zR0).mp q
    omega
  · rw [← Int32.toNat_toInt, hr.toInt]; rfl
  · have hRA := (hC.2.2.2.2.2.1.arr (k := 1) (by omega)).2
    have hcA : cA = D.2.2 1 := Option.some.inj (hNm.symm.trans hRA)
    subst hcA
    have := kk H1 locs (zanew hH (by omega) (by omega) (fun _ => rfl) e2 z1 o1) hl
    rw [e0, e1, ← hH.1] at this
    have e3 : zcv (2, (H.size : Int)) = .ref H.size := by rw [zref (by omega)]; rfl
    rw [List.map_cons, e3] at this
    exact this
theorem ZE.newB {n : Nat} {x : Int} (hd : decode M.2.1 pc = .ok (.newarray .byte, 2)) (hn : x = (n : Int)) (hn2 : n ≤ 100000) (k : ZE d M (gnew G 2 n (fun _ => 0)) (pc + 2) ls ((2, (gz G : Int)) :: st) P) : ZE d M G pc ls ((0, x) :: st) P := by
  subst hn
  refine ZE.mem k zUp.new (fun D p l e R s m args below meth c H locs cells slots Q la hx hb hC hH hl hla hcc hss kk => ?_)
  have hts := hC.2.2.2.2.1
  have e0 : gz (gnew G 2 n (fun _ => 0)) - gz G = 1 := Nat.add_sub_cancel_left _ _
  have e1 : gs (gnew G 2 n (fun _ => 0)) - gs G = n := Nat.add_sub_cancel_left _ _
  rw [e0] at hcc
  rw [e1] at hss
  have hr : zR (n : Int) := by unfold zR; omega
  refine va_newaK (atype := .byte) (n := Int32.ofInt n) (N := n) hx hb (hts _ zac_byte) rfl hd rfl (fun q => ?_) ?_ (by show n * 1 ≤ _; omega) hcc hss rfl fun H1 cA e2 z1 o1 hAr hNm => ?_
  · have := (zi_lt hr zR0).mp q
    omega
  · rw [← Int32.toNat_toInt, hr.toInt]; rfl
  · have hRA := (hC.2.2.2.2.2.1.arr (k := 2) (by omega)).2
    have hcA : cA = D.2.2 2 := Option.some.inj (hNm.symm.trans hRA)
    subst hcA
    have := kk H1 locs (zanew hH (by omega) (by omega) (fun _ => rfl) e2 z1 o1) hl
    rw [e0, e1, ← hH.1] at this
    have e3 : zcv (2, (H.size : Int)) = .ref H.size := by rw [zref (by omega)]; rfl
    rw [List.map_cons, e3] at this
    exact this
theorem ZE.newA {n kd idx : Nat} {x : Int} {C : String} (hd : decode M.2.1 pc = .ok (.anewarray idx, 3)) (hC0 : zANew M.1.cls idx C) (hkd : (kd = 3 ∧ C = "SmoothNeighbours$Unit") ∨ (kd = 4 ∧ C = "SmoothNeighbours$Couple") ∨ (kd = 5 ∧ C = "SmoothNeighbours$Big")) (hn : x = (n : Int)) (hn2 : n ≤ 100000) (k : ZE d M (gnew G kd n (fun _ => -1)) (pc + 3) ls ((2, (gz G : Int)) :: st) P) : ZE d M G pc ls ((0, x) :: st) P := by
  subst hn
  refine ZE.mem k zUp.new (fun D p l e R s m args below meth c H locs cells slots Q la hx hb hC hH hl hla hcc hss kk => ?_)
  have hts := hC.2.2.2.2.1
  have e0 : gz (gnew G kd n (fun _ => -1)) - gz G = 1 := Nat.add_sub_cancel_left _ _
  have e1 : gs (gnew G kd n (fun _ => -1)) - gs G = n := Nat.add_sub_cancel_left _ _
  rw [e0] at hcc
  rw [e1] at hss
  have hr : zR (n : Int) := by unfold zR; omega
  have hnn : (Int32.ofInt (n : Int)).toNatClampNeg = n := by rw [← Int32.toNat_toInt, hr.toInt]; rfl
  have hkd2 : zEl kd = .object C ∧ va_AO C s ∧ (3 ≤ kd ∧ kd ≤ 5) ∧ zTg (zEl kd) = 2 := by
    obtain ⟨-, ⟨a1, a2, a3⟩, -⟩ := hC.2.2.2.2.2.1
    rcases hkd with ⟨rfl, rfl⟩ | ⟨rfl, rfl⟩ | ⟨rfl, rfl⟩
    · exact ⟨rfl, a1, by omega, rfl⟩
    · exact ⟨rfl, a2, by omega, rfl⟩
    · exact ⟨rfl, a3, by omega, rfl⟩
  refine W.anew (n := Int32.ofInt n) hx hb hC.2.2.2.1 (hts _ hC0) (va_AO.use hkd2.2.1) rfl hd rfl (fun q => ?_) (by rw [hnn]; omega) hcc (by rw [hnn]; exact hss) fun cA kA comp f1 f2 f3 f4 => ?_
  · have := (zi_lt hr zR0).mp q
    omega
  · have hRA := (hC.2.2.2.2.2.1.arr (k := kd) (by omega)).2
    rw [hkd2.1] at hRA
    obtain ⟨kA', comp', h1', h2', h3', h4'⟩ := hRA
    have hcA : cA = D.2.2 kd := Option.some.inj (f1.symm.trans h4')
    subst hcA
    rw [hnn]
    generalize hH1 : H.push ({ cls := D.2.2 kd, slots := Array.replicate n .null, vm := .none } : Cell) = H1
    have z1 : H1.size = H.size + 1 := by rw [← hH1, Array.size_push]
    have e2 : H1[H.size]? = some (arrV (D.2.2 kd) n (fun _ => .null)) := by rw [← hH1, Array.getElem?_push_size, ← arrV_new]
    have o1 : ∀ q : Nat, q < H.size → H1[q]? = H[q]? := fun q hq => by rw [← hH1, Array.getElem?_push, if_neg (Nat.ne_of_lt hq)]
    have := kk H1 locs (zanew hH (by omega) (by omega) (fun _ => by rw [hkd2.2.2.2]; rfl) e2 z1 o1) hl
    rw [e0, e1, ← hH.1] at this
    have e3 : zcv (2, (H.size : Int)) = .ref H.size := by rw [zref (by omega)]; rfl
    rw [List.map_cons, e3] at this
    exact this
theorem ZE.gets {idx : Nat} (hd : decode M.2.1 pc = .ok (.getstatic idx, 3)) (hl : Cond.fieldLink M.1.cls idx "SmoothNeighbours$Primes" "LIST" "[I" ∈ zWS) (k : ZE d M G (pc + 3) ls ((2, gl G) :: st) P) : ZE d M G pc ls st P := by
  refine ZE.pure k (fun D p l e R s m args below meth c H locs cells slots Q la hx hb hC hH hla kk => ?_)
  obtain ⟨cf, kf, fi, f, a, cell, h1, h2, h3, h4, h5, h6, h7, h8⟩ := hH.2.2.2
  exact W.gets hx hb hC.2.2.2.1 (hC.2.2.2.2.1 _ hl) h1 h2 h3 h4 h5 (fun e => by rw [e] at h6; cases h6) h7 rfl hd kk
theorem ZE.objInit {idx : Nat} {a : Int} (hd : decode M.2.1 pc = .ok (.invokespecial idx, 3)) (hl : Cond.methodLink M.1.cls idx objectInit ∈ zWS) (ha : 0 ≤ a) (hr : (st.map fun v => if v.1 = 1 ∨ 4 ≤ v.1 then 2 else 1).sum ≤ 8) (k : ZE (d + 1) M G (pc + 3) ls st P) : ZE (d + 1) M G pc ls ((2, a) :: st) P := by
  obtain ⟨r, G', h1, h2, h3⟩ := k
  refine ⟨r, G', h1, h2, fun D p l e R s m args below meth c H locs cells slots Q la hC hH hl hla hfr hlo hc hs K => ?_⟩
  have kk := h3 D p l e R s m args below meth c H locs cells slots Q la hC hH hl hla hfr hlo hc hs K
  have hts := hC.2.2.2.2.1
  rw [List.map_cons, zref ha]
  have hcat : ((st.map zcv).map fun v => v.category).sum = (st.map fun v => if v.1 = 1 ∨ 4 ≤ v.1 then 2 else 1).sum := by
    rw [List.map_map]
    congr 1
    refine List.map_congr_left (fun v _ => ?_)
    show (zcv v).category = _
    have := zcv_cat v
    rcases lv_cat (zcv v) with e | e
    · rw [e, if_neg (fun q => by have := this.mpr q; omega)]
    · rw [e, if_pos (this.mp e)]
  exact W.objInit hC.1 hC.2.1 hC.2.2.2.1 (hts _ ‹_›) (hts _ zob.1) (hts _ zob.2) rfl (by rw [hC.2.2.1]; exact hla.size) rfl hd (by omega) (by show 2 * 0 + _ + 12 ≤ _; rw [hcat]; omega) kk
end ZNEW
