/-! ===== the heap with its contents told apart: gw G A ===== -/
theorem zAll {l : List zV} (h : l.all (fun v => Nat.ble v.1 4) = true) : ∀ w ∈ l, w.1 ≤ 4 := fun w hw => Nat.le_of_ble_eq_true (List.all_eq_true.mp h w hw)
def gw (G : zG) (A : Int → Int → Int) : zG := (G.1, G.2.1, A, G.2.2.2)
def up2 (A : Int → Int → Int) (a i v : Int) : Int → Int → Int := fun b j => if b = a ∧ j = i then v else A b j
def up1 (f : Int → Int) (i v : Int) : Int → Int := fun j => if j = i then v else f j
def upA (A : Int → Int → Int) (a : Int) (f : Int → Int) : Int → Int → Int := fun b => if b = a then f else A b
theorem gw_self (G : zG) : gw G (gc G) = G := rfl
theorem up2_A (A : Int → Int → Int) (a i v : Int) : up2 A a i v = upA A a (up1 (A a) i v) := by
  funext b j
  unfold up2 upA up1
  by_cases h : b = a
  · subst h
    by_cases h2 : j = i
    · rw [if_pos ⟨rfl, h2⟩, if_pos rfl, if_pos h2]
    · rw [if_neg (fun q => h2 q.2), if_pos rfl, if_neg h2]
  · rw [if_neg (fun q => h q.1), if_neg h]
theorem upA_self (A : Int → Int → Int) (a : Int) : upA A a (A a) = A := by
  funext b
  unfold upA
  by_cases h : b = a
  · rw [if_pos h, h]
  · rw [if_neg h]
theorem upA_at (A : Int → Int → Int) (a : Int) (f : Int → Int) : upA A a f a = f := if_pos rfl
theorem upA_ne (A : Int → Int → Int) {a b : Int} (f : Int → Int) (h : b ≠ a) : upA A a f b = A b := if_neg h
theorem upA_upA (A : Int → Int → Int) (a : Int) (f g : Int → Int) : upA (upA A a f) a g = upA A a g := by
  funext b
  unfold upA
  by_cases h : b = a
  · rw [if_pos h, if_pos h]
  · rw [if_neg h, if_neg h, if_neg h]
theorem up2_upA (A : Int → Int → Int) (a i v : Int) (f : Int → Int) : up2 (upA A a f) a i v = upA A a (up1 f i v) := by rw [up2_A, upA_upA, upA_at]
theorem up1_at (f : Int → Int) (i v : Int) : up1 f i v i = v := if_pos rfl
theorem up1_ne (f : Int → Int) {i j : Int} (v : Int) (h : j ≠ i) : up1 f i v j = f j := if_neg h
theorem up2_at (A : Int → Int → Int) (a i v : Int) : up2 A a i v a i = v := if_pos ⟨rfl, rfl⟩
theorem up2_ne (A : Int → Int → Int) {a i b j : Int} (v : Int) (h : ¬ (b = a ∧ j = i)) : up2 A a i v b j = A b j := if_neg h
section ZST
variable {d : Nat} {M : zM} {G : zG} {pc : Nat} {ls st : List zV} {P : Option zV → zG → Prop}
theorem ZE.getE {a v : Int} {idx ci k tg : Nat} (hd : decode M.2.1 pc = .ok (.getfield idx, 3)) (hf : zFld M.1.cls idx ci k) (ht : zTg (zTy ci k) = tg) (hk : gk G a = 10 + ci) (hv : gc G a k = v) (kk : ZE d M G (pc + 3) ls ((tg, v) :: st) P) : ZE d M G pc ls ((2, a) :: st) P := ZE.get hd hf ht hk (by rw [hv]; exact kk)
theorem ZE.ialdE {a i v : Int} (hd : decode M.2.1 pc = .ok (.iaload, 1)) (hk : gk G a = 1) (hi : 0 ≤ i ∧ i < gn G a) (hv : gc G a i = v) (k : ZE d M G (pc + 1) ls ((0, v) :: st) P) : ZE d M G pc ls ((0, i) :: (2, a) :: st) P := ZE.iald hd hk hi (by rw [hv]; exact k)
theorem ZE.baldE {a i v : Int} (hd : decode M.2.1 pc = .ok (.baload, 1)) (hk : gk G a = 2) (hi : 0 ≤ i ∧ i < gn G a) (hv : gc G a i = v) (k : ZE d M G (pc + 1) ls ((0, v) :: st) P) : ZE d M G pc ls ((0, i) :: (2, a) :: st) P := ZE.bald hd hk hi (by rw [hv]; exact k)
theorem ZE.ialdRE {a i v : Int} (hd : decode M.2.1 pc = .ok (.iaload, 1)) (hk : gk G a = 6) (hi : 0 ≤ i ∧ i < gn G a) (hv : gc G a i = v) (k : ZE d M G (pc + 1) ls ((0, v) :: st) P) : ZE d M G pc ls ((0, i) :: (2, a) :: st) P := ZE.ialdR hd hk hi (by rw [hv]; exact k)
theorem ZE.aaldE {a i v : Int} {n : Nat} (hd : decode M.2.1 pc = .ok (.aaload, 1)) (hk : gk G a = n) (hn : 3 ≤ n ∧ n ≤ 5) (hi : 0 ≤ i ∧ i < gn G a) (hv : gc G a i = v) (k : ZE d M G (pc + 1) ls ((2, v) :: st) P) : ZE d M G pc ls ((0, i) :: (2, a) :: st) P := ZE.aald hd hk hn hi (by rw [hv]; exact k)
theorem ZE.alenE {a v : Int} (hd : decode M.2.1 pc = .ok (.arraylength, 1)) (hk : 1 ≤ gk G a ∧ gk G a ≤ 6) (hv : gn G a = v) (k : ZE d M G (pc + 1) ls ((0, v) :: st) P) : ZE d M G pc ls ((2, a) :: st) P := ZE.alen hd hk (by rw [hv]; exact k)
end ZST
/-! calls whose spec goes on by itself -/
section ZCPS
variable {d : Nat} {M M' : zM} {G : zG} {pc : Nat} {ls st : List zV} {P : Option zV → zG → Prop} {n : Nat}
theorem ZE.cV {idx ci : Nat} {b : Int} (As rest ls0 : List zV) (hd : decode M.2.1 pc = .ok (.invokevirtual idx, 3)) (hc : zCalV M.1.cls idx M' n ci) (hst : st = As.reverse ++ (2, b) :: rest) (hn : As.length = n) (he : zEntP ((2, b) :: As) M'.2.2.1 = ls0) (hln : Nat.ble (zEnt ((2, b) :: As)).length M'.2.2.1 = true) (hv : As.all (fun v => Nat.ble v.1 4) = true) (hr : Nat.ble (rest.map fun v => if v.1 = 1 ∨ 4 ≤ v.1 then 2 else 1).sum 8 = true) (hk : gk G b = 10 + ci)
    (spec : ZE d M' G 0 ls0 [] (fun r G' => ZE (d + 1) M G' (pc + 3) ls (r.toList ++ rest) P)) : ZE (d + 1) M G pc ls st P :=
  ZE.callV spec hd hc hst hn he (Nat.le_of_ble_eq_true hln) (zAll hv) (Nat.le_of_ble_eq_true hr) hk (fun _ _ _ h => h)
theorem ZE.cS {idx : Nat} (As rest ls0 : List zV) (hd : decode M.2.1 pc = .ok (.invokestatic idx, 3)) (hc : zCalS M.1.cls idx M' n) (hst : st = As.reverse ++ rest) (hn : As.length = n) (he : zEntP As M'.2.2.1 = ls0) (hln : Nat.ble (zEnt As).length M'.2.2.1 = true) (hv : As.all (fun v => Nat.ble v.1 4) = true) (hr : Nat.ble (rest.map fun v => if v.1 = 1 ∨ 4 ≤ v.1 then 2 else 1).sum 8 = true)
    (spec : ZE d M' G 0 ls0 [] (fun r G' => ZE (d + 1) M G' (pc + 3) ls (r.toList ++ rest) P)) : ZE (d + 1) M G pc ls st P :=
  ZE.callS spec hd hc hst hn he (Nat.le_of_ble_eq_true hln) (zAll hv) (Nat.le_of_ble_eq_true hr) (fun _ _ _ h => h)
theorem ZE.cI {idx ci : Nat} {b : Int} (As rest ls0 : List zV) (hd : decode M.2.1 pc = .ok (.invokespecial idx, 3)) (hc : zCalI M.1.cls idx M' n ci) (hst : st = As.reverse ++ (2, b) :: rest) (hn : As.length = n) (he : zEntP ((2, b) :: As) M'.2.2.1 = ls0) (hln : Nat.ble (zEnt ((2, b) :: As)).length M'.2.2.1 = true) (hv : As.all (fun v => Nat.ble v.1 4) = true) (hr : Nat.ble (rest.map fun v => if v.1 = 1 ∨ 4 ≤ v.1 then 2 else 1).sum 8 = true) (hb : 0 ≤ b)
    (spec : ZE d M' G 0 ls0 [] (fun r G' => ZE (d + 1) M G' (pc + 3) ls (r.toList ++ rest) P)) : ZE (d + 1) M G pc ls st P :=
  ZE.callI spec hd hc hst hn he (Nat.le_of_ble_eq_true hln) (zAll hv) (Nat.le_of_ble_eq_true hr) hb (fun _ _ _ h => h)
theorem ZE.cN {idx ci : Nat} {host : String} {b : Int} (As rest ls0 : List zV) (hd : decode M.2.1 pc = .ok (.invokespecial idx, 3)) (hc : zCalN M.1.cls idx M' n ci) (hnest : Cond.methodLinkNest M.1.cls idx M'.1 host ∈ zNest) (hst : st = As.reverse ++ (2, b) :: rest) (hn : As.length = n) (he : zEntP ((2, b) :: As) M'.2.2.1 = ls0) (hln : Nat.ble (zEnt ((2, b) :: As)).length M'.2.2.1 = true) (hv : As.all (fun v => Nat.ble v.1 4) = true) (hr : Nat.ble (rest.map fun v => if v.1 = 1 ∨ 4 ≤ v.1 then 2 else 1).sum 8 = true) (hb : 0 ≤ b)
    (spec : ZE d M' G 0 ls0 [] (fun r G' => ZE (d + 1) M G' (pc + 3) ls (r.toList ++ rest) P)) : ZE (d + 1) M G pc ls st P :=
  ZE.callN spec hd hc hnest hst hn he (Nat.le_of_ble_eq_true hln) (zAll hv) (Nat.le_of_ble_eq_true hr) hb (fun _ _ _ h => h)
end ZCPS
/-! truth as an int -/
noncomputable def b2i (p : Prop) : Int := @ite _ p (Classical.propDecidable p) 1 0
theorem b2i_t {p : Prop} (h : p) : b2i p = 1 := if_pos h
theorem b2i_f {p : Prop} (h : ¬ p) : b2i p = 0 := if_neg h
theorem b2i_01 (p : Prop) : b2i p = 0 ∨ b2i p = 1 := by
  by_cases h : p
  · exact Or.inr (b2i_t h)
  · exact Or.inl (b2i_f h)
theorem b2i_0 {p : Prop} : b2i p = 0 ↔ ¬ p := ⟨fun h q => by rw [b2i_t q] at h; omega, b2i_f⟩
theorem b2i_n0 {p : Prop} : ¬ b2i p = 0 ↔ p := ⟨fun h => Classical.not_not.mp (fun q => h (b2i_f q)), fun h q => by rw [b2i_t h] at q; omega⟩
theorem b2i_c {p q : Prop} (h : p ↔ q) : b2i p = b2i q := by rw [propext h]
theorem b2i_ite (p : Prop) [Decidable p] : b2i p = if p then 1 else 0 := by
  by_cases h : p
  · rw [b2i_t h, if_pos h]
  · rw [b2i_f h, if_neg h]
theorem zR_b2i (p : Prop) : zR (b2i p) := by
  have := b2i_01 p
  unfold zR
  omega
theorem zR_zcmp (x y : Int) : zR (zcmp x y) := by
  unfold zcmp zR
  split
  · omega
  · split <;> omega
theorem zcmp_lt {x y : Int} : zcmp x y < 0 ↔ x < y := by
  unfold zcmp
  split
  · omega
  · split <;> omega
theorem zcmp_ge {x y : Int} : 0 ≤ zcmp x y ↔ y ≤ x := by
  unfold zcmp
  split
  · omega
  · split <;> omega
theorem zcmp_gt {x y : Int} : 0 < zcmp x y ↔ y < x := by
  unfold zcmp
  split
  · omega
  · split <;> omega
theorem zcmp_le {x y : Int} : zcmp x y ≤ 0 ↔ x ≤ y := by
  unfold zcmp
  split
  · omega
  · split <;> omega
theorem zcmp_eq {x y : Int} : zcmp x y = 0 ↔ x = y := by
  unfold zcmp
  split
  · omega
  · split <;> omega
/-! forgetting locals -/
def zmask : List Bool → List zV → List zV
  | b :: bs, v :: vs => (if b then v else (9, 0)) :: zmask bs vs
  | _, vs => vs
theorem zmask_len : ∀ (m : List Bool) (ls : List zV), (zmask m ls).length = ls.length := by
  intro m
  induction m with
  | nil => intro ls; cases ls <;> rfl
  | cons b m ih =>
    intro ls
    cases ls with
    | nil => rfl
    | cons v vs => simp [zmask, ih]
theorem zmask_at : ∀ (m : List Bool) (ls : List zV) (i : Nat) (v : zV), (zmask m ls)[i]? = some v → v.1 ≤ 4 → ls[i]? = some v := by
  intro m
  induction m with
  | nil => intro ls i v h _; cases ls <;> exact h
  | cons b m ih =>
    intro ls i v h hv
    cases ls with
    | nil => exact h
    | cons w ws =>
      cases i with
      | zero =>
        unfold zmask at h
        cases b
        · simp at h
          subst h
          simp at hv
        · simpa using h
      | succ i => exact ih ws i v h hv
theorem ZE.mask {d : Nat} {M : zM} {G : zG} {pc : Nat} {ls st : List zV} {P : Option zV → zG → Prop} (m : List Bool) (k : ZE d M G pc (zmask m ls) st P) : ZE d M G pc ls st P := by
  refine ZE.loc k (fun D p l e R s m' args below meth c H locs cells slots Q la hx hb hla kk => kk la ?_)
  obtain ⟨h0, lv, h1, h2⟩ := hla
  exact ⟨by rw [zmask_len]; exact h0, lv, h1, fun i v hi hv => h2 i v (zmask_at m ls i v hi hv) hv⟩
