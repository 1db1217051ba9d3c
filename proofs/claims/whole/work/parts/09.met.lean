/-! ===== calls ===== -/
def zEnt : List zV → List zV
  | [] => []
  | v :: vs => if v.1 = 1 ∨ v.1 = 4 then v :: (9, 0) :: zEnt vs else v :: zEnt vs
def zEntP (vs : List zV) (n : Nat) : List zV := zEnt vs ++ List.replicate (n - (zEnt vs).length) (9, 0)
theorem zEnt_at : ∀ (vs : List zV) (i b : Nat) (v : zV), (∀ w ∈ vs, w.1 ≤ 4) → (zEnt vs)[i]? = some v → v.1 ≤ 4 → (b + i, zcv v) ∈ lv_args b (vs.map zcv) := by
  intro vs
  induction vs with
  | nil => intro i b v _ h; simp [zEnt] at h
  | cons w ws ih =>
    intro i b v hw h hv
    have hw0 := hw w List.mem_cons_self
    have hws : ∀ u ∈ ws, u.1 ≤ 4 := fun u hu => hw u (List.mem_cons_of_mem _ hu)
    have hcat := zcv_cat w
    rw [List.map_cons, lv_args]
    unfold zEnt at h
    by_cases c : w.1 = 1 ∨ w.1 = 4
    · rw [if_pos c] at h
      rw [if_pos (hcat.mpr (by omega))]
      match i, h with
      | 0, h => cases h; exact List.mem_cons_self
      | 1, h => cases h; simp at hv
      | j + 2, h =>
        refine List.mem_cons_of_mem _ ?_
        have := ih j (b + 2) v hws (by simpa using h) hv
        rwa [show b + (j + 2) = b + 2 + j by omega]
    · rw [if_neg c] at h
      rw [if_neg (fun q => c (by have := hcat.mp q; omega))]
      match i, h with
      | 0, h => cases h; exact List.mem_cons_self
      | j + 1, h =>
        refine List.mem_cons_of_mem _ ?_
        have := ih j (b + 1) v hws (by simpa using h) hv
        rwa [show b + (j + 1) = b + 1 + j by omega]
theorem zEnt_len : ∀ vs : List zV, (∀ w ∈ vs, w.1 ≤ 4) → (lg_sl (vs.map zcv)).length = (zEnt vs).length := by
  intro vs
  induction vs with
  | nil => intro _; rfl
  | cons w ws ih =>
    intro hw
    have hw0 := hw w List.mem_cons_self
    have hws : ∀ u ∈ ws, u.1 ≤ 4 := fun u hu => hw u (List.mem_cons_of_mem _ hu)
    have hcat := zcv_cat w
    have h2 : lg_sl (List.map zcv (w :: ws)) = (if (zcv w).category = 2 then [.val (zcv w), .second] else [.val (zcv w)]) ++ lg_sl (ws.map zcv) := rfl
    rw [h2, List.length_append, ih hws, zEnt]
    by_cases c : w.1 = 1 ∨ w.1 = 4
    · rw [if_pos c, if_pos (hcat.mpr (by omega))]
      simp only [List.length_cons, List.length_nil]
      omega
    · rw [if_neg c, if_neg (fun q => c (by have := hcat.mp q; omega))]
      simp only [List.length_cons, List.length_nil]
      omega
theorem zLs.entry {vs : List zV} {n : Nat} (hv : ∀ w ∈ vs, w.1 ≤ 4) (hn : (zEnt vs).length ≤ n) : zLs ((lg_sl (vs.map zcv) ++ List.replicate (n - (lg_sl (vs.map zcv)).length) Slot.unset).toArray) n (zEntP vs n) := by
  refine ⟨?_, _, lv_entry (vs.map zcv) (by rw [zEnt_len vs hv]; exact hn), fun i v h hv4 => ?_⟩
  · unfold zEntP
    rw [List.length_append, List.length_replicate]
    omega
  · unfold zEntP at h
    by_cases c : i < (zEnt vs).length
    · rw [List.getElem?_append_left c] at h
      have := zEnt_at vs i 0 v hv h hv4
      rwa [Nat.zero_add] at this
    · rw [List.getElem?_append_right (by omega)] at h
      have := List.mem_of_getElem? h
      rw [List.mem_replicate] at this
      rw [this.2] at hv4
      simp at hv4
def zWs (M : zM) : List Cond := Cond.code M.1 M.2.1 M.2.2.1 M.2.2.2 :: zWS
def zPc (D : zD) (G : zG) (vs : List zV) : Array Value → State → Prop := va_Pc (vs.map zcv) (fun U => zH D U G U.heap ∧ zK D U)
def zQc (D : zD) (G' : zG) (r : Option zV) : Array Value → State → Outcome → State → Prop := fun _ _ o t => o = .returned (r.map zcv) ∧ zH D t G' t.heap
def zRm (d : Nat) (G G' : zG) : Room := { frames := d, cells := gz G' - gz G, slots := gs G' - gs G, locals := 38 * d }
theorem Met.ofWF {y : MethodName} {ws ws' : List Cond} {rm : Room} {Pc : Array Value → State → Prop} {Qc : Array Value → State → Outcome → State → Prop} {mc ms : Nat} {free : Addr → Prop} {cc : ByteArray} {maxL : Nat} {ret : Option FieldType} {l : Launch}
    (hy : plainFor y = true) (hw : ws = Cond.code y cc maxL ret :: ws')
    (body : ∀ p e s m args below meth c s₁, BodyLoose p l y (headSpec ws rm) cc maxL ret e s m args below meth c s₁ → c.maxLocals = maxL → Pc args s →
      W p l e (headSpec ws rm).room s m args below meth c s.heap [] 0 0 (MQ below Qc args s mc ms free) (entryFrame m args maxL)) : Met l y ws rm Pc Qc mc ms free := by
  refine MetFree.of_bodySF (code := cc) (maxLocals := maxL) (ret := ret) hy ?_ ?_
  · intro args s m h hn
    obtain ⟨meth, c, h1, h2, h3, h4, h5, h6, -, -⟩ := Cond.code_spec hn (atoms_spec (ws := ws) h _ (by rw [hw]; exact List.mem_cons_self))
    exact ⟨meth, c, h1, h2, h3, h4, h5, h6⟩
  · intro p e s m args below meth c s₁ B hml hP _
    have hh0 : s₁.heap = s.heap := by rw [B.state]; rfl
    obtain ⟨t, a1, o, b1, b2, b3⟩ := body p e s m args below meth c s₁ B hml hP s₁ hh0 (Stand.of_body B)
    exact ⟨t, o, a1, b1, b2, ⟨b3.1, b3.2⟩⟩
theorem zMet {d : Nat} {M : zM} {G G' : zG} {vs : List zV} {r : Option zV} {n : Nat} (D : zD) (l : Launch) (hcal : zCal M n) (hv : ∀ w ∈ vs, w.1 ≤ 4) (hn : (zEnt vs).length ≤ M.2.2.1) (hu : zUp G G') (hs : zSim d M G 0 (zEntP vs M.2.2.1) [] r G') : Met l M.1 (zWs M) (zRm d G G') (zPc D G vs) (zQc D G' r) (gz G' - gz G) (gs G' - gs G) (fun q => gb G ≤ q) := by
  refine Met.ofWF (cc := M.2.1) (maxL := M.2.2.1) (ret := M.2.2.2) hcal.2.2.2.2.1 rfl ?_
  intro p e s m args below meth c s₁ B hml hp
  obtain ⟨rfl, hH, hK⟩ := hp
  have hts := atoms_spec (ws := zWs M) B.pre
  have hC : zC M D p s m (vs.map zcv).toArray meth c := ⟨B.exec, B.bytes, hml, findClass_of_methodNamed B.named, fun w hw => hts w (List.mem_cons_of_mem _ hw), hK, fun q => (name_of_methodNamed B.named B.method).1.trans q⟩
  have hr := B.returns
  have hlocks := B.notSynchronized
  rw [lg_entry_eq]
  have K := hs D p l e (headSpec (zWs M) (zRm d G G')).room s m (vs.map zcv).toArray below meth c s.heap [] 0 0 (MQ below (zQc D G' r) (vs.map zcv).toArray s (gz G' - gz G) (gs G' - gs G) (fun q => gb G ≤ q)) _ hC hH (fun q h => by cases h) (zLs.entry hv hn) (Nat.le_refl d) (Nat.le_refl (38 * d)) (by rw [Nat.zero_add]; exact Nat.le_refl _) (by rw [Nat.zero_add]; exact Nat.le_refl _)
  refine K (fun H' locs' la' pc' st' hH' hl' hra => ?_)
  rw [Nat.zero_add, Nat.zero_add]
  have fin : ∀ t : State, t.heap = H' → s.WarmedH t.vm → zQc D G' r (vs.map zcv).toArray s (.returned (r.map zcv)) t := fun t ht hW => ⟨rfl, by rw [ht]; exact hH'.moved hW.alike⟩
  match r, hra, fin with
  | none, ⟨h1, h2, h3⟩, fin =>
    subst h2
    exact W.vret hC.1 hC.2.1 (hr.trans h3) fin hl' h1
  | some (0, z), ⟨h1, h2, h3⟩, fin =>
    subst h2
    rcases h3 with h3 | ⟨h3, h4⟩
    · exact W.iret hC.1 hC.2.1 (hr.trans h3) fin hl' h1
    · exact W.zret hC.1 hC.2.1 (hr.trans h3) (by rcases h4 with rfl | rfl <;> rfl) fin hl' h1
  | some (1, z), ⟨h1, h2, h3⟩, fin =>
    subst h2
    exact W.lret hC.1 hC.2.1 (hr.trans h3) fin hl' h1
  | some (2, z), ⟨h1, h2, C, h3⟩, fin =>
    subst h2
    refine W.aret hC.1 hC.2.1 (hr.trans h3) (Or.inl ⟨_, rfl⟩) ?_ fin hl' h1
    by_cases hz : z < 0
    · exact Or.inl (if_pos hz)
    · exact Or.inr ⟨_, if_neg hz⟩
theorem zGood {ws : List Cond} (h : ∀ w ∈ ws, w ∈ zWS) : GoodIn zWS ws := fun w hw => ⟨h w hw, good_of_word (List.mem_filter.mp (h w hw)).2⟩
theorem zWs_in {M : zM} {n : Nat} (h : zCal M n) : ∀ w ∈ zWs M, w ∈ zWS := fun w hw => by
  rcases List.mem_cons.mp hw with rfl | hw
  · exact h.1
  · exact hw
theorem zBlind {D : zD} {G : zG} {vs : List zV} : FrameBlind (zPc D G vs) := fun a U g mk h => ⟨h.1, h.2.1.moved (U := U.calling g mk a) (Vm.Alike.refl U.vm), zK.same (s := U) (U := U.calling g mk a) rfl h.2.2⟩
theorem zcat (st : List zV) : ((st.map zcv).map fun v => v.category).sum = (st.map fun v => if v.1 = 1 ∨ 4 ≤ v.1 then 2 else 1).sum := by
  rw [List.map_map]
  congr 1
  refine List.map_congr_left (fun v _ => ?_)
  show (zcv v).category = _
  have := zcv_cat v
  rcases lv_cat (zcv v) with e | e
  · rw [e, if_neg (fun q => by have := this.mpr q; omega)]
  · rw [e, if_pos (this.mp e)]
def zRest (st : List zV) : Prop := (st.map fun v => if v.1 = 1 ∨ 4 ≤ v.1 then 2 else 1).sum ≤ 8
section ZCALL
variable {d : Nat} {M M' : zM} {G : zG} {pc : Nat} {ls ls0 st rest : List zV} {P P' : Option zV → zG → Prop} {vs : List zV} {n : Nat}
/-- a call, out of what the kit says of it -/
theorem ZE.call_of (hcal : zCal M' n) (hv : ∀ w ∈ vs, w.1 ≤ 4) (he : zEntP vs M'.2.2.1 = ls0) (hln : (zEnt vs).length ≤ M'.2.2.1) (spec : ZE d M' G 0 ls0 [] P')
    (hrun : ∀ (r1 : Option zV) (G1 : zG) (D : zD) (p : Program) (l : Launch) (e : Env) (R : Room) (s : State) (m : MethodId) (args : Array Value) (below : List Frame) (meth : Method) (c : Code) (H : Heap) (locs : List Loc) (cells slots : Nat) (la : Array Slot),
      zC M D p s m args meth c → zH D s G H → zLs la M.2.2.1 ls → (zRm d G G1).frames + 1 ≤ R.frames → 8 + (M'.2.2.1 + 11) + (zRm d G G1).locals ≤ R.locals → (cells + (gz G1 - gz G) ≤ R.cells ∧ slots + (gs G1 - gs G) ≤ R.slots) →
      Met l M'.1 (zWs M') (zRm d G G1) (zPc D G vs) (zQc D G1 r1) (gz G1 - gz G) (gs G1 - gs G) (fun q => gb G ≤ q) →
      va_Run p l e R s m args below meth c H locs cells slots (gz G1 - gz G) (gs G1 - gs G) (F0 m pc la (st.map zcv)) (rest.map zcv) (zQc D G1 r1 (vs.map zcv).toArray) (fun q => gb G ≤ q))
    (k : ∀ r G', zUp G G' → P' r G' → ZE (d + 1) M G' (pc + 3) ls (r.toList ++ rest) P) : ZE (d + 1) M G pc ls st P := by
  obtain ⟨r1, G1, hP', hu1, hs1⟩ := spec
  subst he
  obtain ⟨r, G', h1, h2, h3⟩ := k r1 G1 hu1 hP'
  refine ⟨r, G', h1, hu1.tr h2, fun D p l e R s m args below meth c H locs cells slots Q la hC hH hl hla hfr hlo hc hs K => ?_⟩
  have hM := zMet D l hcal hv hln hu1 hs1
  have a1 := hu1.1; have a2 := h2.1; have a3 := hu1.2.1; have a4 := h2.2.1
  have hmx := hcal.2.2.2.2.2
  have hrr := hrun r1 G1 D p l e R s m args below meth c H locs cells slots la hC hH hla hfr (by show 8 + (M'.2.2.1 + 11) + 38 * d ≤ _; omega) (by omega) hM
  intro T hT X
  obtain ⟨v, st₀, t, T', L, h0, X', hL, e1, e2, ⟨hv1, hz1⟩, stp⟩ := hrr T hT X
  cases hv1
  have hal : s.vm.Alike t.vm := by rw [← e2]; exact X'.warmed.alike
  have hH1 : zH D s G1 T'.heap := by rw [e1]; exact hz1.moved hal.symm
  have e5 : (r1.map zcv).toList ++ rest.map zcv = (r1.toList ++ rest).map zcv := by cases r1 <;> rfl
  have kk := h3 D p l e R s m args below meth c T'.heap (locs ++ L) (cells + (gz G1 - gz G)) (slots + (gs G1 - gs G)) Q la hC hH1 (by
      rw [hu1.2.2.1]
      intro q hq
      rcases List.mem_append.mp hq with h | h
      · exact hl q h
      · exact hL q h) hla hfr hlo (by omega) (by omega) (fun H' locs' la' pc' st' g1 g2 g3 => by
      have e6 : cells + (gz G1 - gz G) + (gz G' - gz G1) = cells + (gz G' - gz G) := by omega
      have e7 : slots + (gs G1 - gs G) + (gs G' - gs G1) = slots + (gs G' - gs G) := by omega
      rw [e6, e7]
      exact K H' locs' la' pc' st' g1 (by rw [hu1.2.2.1] at g2; exact g2) g3)
  obtain ⟨t2, b1, b2⟩ := kk T' rfl X'
  rw [← e5] at b1
  exact ⟨t2, stp t2 b1, b2⟩
theorem ZE.callV {idx ci : Nat} {b : Int} {As : List zV} (spec : ZE d M' G 0 ls0 [] P') (hd : decode M.2.1 pc = .ok (.invokevirtual idx, 3)) (hc : zCalV M.1.cls idx M' n ci) (hst : st = As.reverse ++ (2, b) :: rest) (hn : As.length = n) (he : zEntP ((2, b) :: As) M'.2.2.1 = ls0) (hln : (zEnt ((2, b) :: As)).length ≤ M'.2.2.1) (hv : ∀ w ∈ As, w.1 ≤ 4) (hr : zRest rest) (hk : gk G b = 10 + ci)
    (k : ∀ r G', zUp G G' → P' r G' → ZE (d + 1) M G' (pc + 3) ls (r.toList ++ rest) P) : ZE (d + 1) M G pc ls st P := by
  subst hst
  refine ZE.call_of (vs := (2, b) :: As) (rest := rest) hc.1 (fun w hw => by rcases List.mem_cons.mp hw with rfl | hw; exact (by decide : 2 ≤ 4); exact hv w hw) he hln spec (fun r1 G1 D p l e R s m args below meth c H locs cells slots la hC hH hla h1 h2 h3 hM => ?_) k
  obtain ⟨hcal, g1, g2, g3, q, hq, hqc⟩ := hc
  obtain ⟨b0, -, C, T, N, hvc, cell, c1, c2, c3, -⟩ := hH.obj hk
  have e1 := Option.some.inj (hvc.symm.trans hq)
  subst e1
  have hcw := cwV (own := M.1.cls) (index := idx) (C := M'.1.cls) (y := M'.1) (bytes := M'.2.1) (maxL := M'.2.2.1) (ret := M'.2.2.2) (ws := zWs M') (ws' := zWS) (rm := zRm d G G1) n hC.2.2.2.2.1 (zGood (fun w hw => by
      rcases List.mem_append.mp hw with hw | hw
      · simp only [List.mem_cons, List.mem_nil_iff, or_false] at hw
        rcases hw with rfl | rfl | rfl | rfl
        · exact g1
        · exact g2
        · exact g3
        · exact hcal.2.1
      · exact zWs_in hcal w hw)) rfl rfl rfl ⟨rfl, hcal.2.2.1.1, hcal.2.2.1.2, hcal.2.2.2.1⟩ ⟨h1, h2⟩
  have hstk : List.map zcv (As.reverse ++ (2, b) :: rest) = (As.map zcv).reverse ++ .ref b.toNat :: rest.map zcv := by
    rw [List.map_append, List.map_reverse, List.map_cons, zref b0]
  rw [hstk, show List.map zcv ((2, b) :: As) = .ref b.toNat :: As.map zcv by rw [List.map_cons, zref b0]]
  refine va_runV (As := As.map zcv) (rest := rest.map zcv) ⟨hC.1, hC.2.1, hC.2.2.1, hC.2.2.2.1, hC.2.2.2.2.1⟩ hM hcw ⟨zBlind, ⟨cell, c1, by rw [c3]; rfl, ?_⟩, fun U hU hW => ⟨by rw [List.map_cons, zref b0], by rw [hU]; exact hH.moved hW.alike, hC.2.2.2.2.2.1.warm hW⟩⟩ rfl (by rw [List.length_map]; exact hn) hla.size rfl ?_ hd h3
  · rw [c2, ← hqc]; exact (hC.2.2.2.2.2.1.1.1 ci _ hvc).2.1
  · exact lv_room (by rw [zcat]; exact hr)
theorem ZE.callS {idx : Nat} {As : List zV} (spec : ZE d M' G 0 ls0 [] P') (hd : decode M.2.1 pc = .ok (.invokestatic idx, 3)) (hc : zCalS M.1.cls idx M' n) (hst : st = As.reverse ++ rest) (hn : As.length = n) (he : zEntP As M'.2.2.1 = ls0) (hln : (zEnt As).length ≤ M'.2.2.1) (hv : ∀ w ∈ As, w.1 ≤ 4) (hr : zRest rest)
    (k : ∀ r G', zUp G G' → P' r G' → ZE (d + 1) M G' (pc + 3) ls (r.toList ++ rest) P) : ZE (d + 1) M G pc ls st P := by
  subst hst
  refine ZE.call_of (vs := As) (rest := rest) hc.1 hv he hln spec (fun r1 G1 D p l e R s m args below meth c H locs cells slots la hC hH hla h1 h2 h3 hM => ?_) k
  obtain ⟨hcal, g1, g2⟩ := hc
  have hcw := va_cwS (R := R) (own := M.1.cls) (index := idx) (y := M'.1) (bytes := M'.2.1) (maxL := M'.2.2.1) (ret := M'.2.2.2) (ws := zWs M') (ws' := zWS) (rm := zRm d G G1) n hC.2.2.2.2.1 (zGood (fun w hw => by
      rcases List.mem_append.mp hw with hw | hw
      · simp only [List.mem_cons, List.mem_nil_iff, or_false] at hw
        rcases hw with rfl | rfl | rfl
        · exact g1
        · exact g2
        · exact hcal.2.1
      · exact zWs_in hcal w hw)) rfl rfl rfl ⟨hcal.2.2.1.1, hcal.2.2.1.2, hcal.2.2.2.1⟩ ⟨h1, h2⟩
  rw [List.map_append, List.map_reverse]
  refine va_runS (As := As.map zcv) (rest := rest.map zcv) ⟨hC.1, hC.2.1, hC.2.2.1, hC.2.2.2.1, hC.2.2.2.2.1⟩ hM hcw ⟨zBlind, fun U hU hW => ⟨rfl, by rw [hU]; exact hH.moved hW.alike, hC.2.2.2.2.2.1.warm hW⟩⟩ rfl (by rw [List.length_map]; exact hn) hla.size rfl ?_ hd h3
  exact lv_room (by rw [zcat]; exact hr)
theorem ZE.callI {idx ci : Nat} {b : Int} {As : List zV} (spec : ZE d M' G 0 ls0 [] P') (hd : decode M.2.1 pc = .ok (.invokespecial idx, 3)) (hc : zCalI M.1.cls idx M' n ci) (hst : st = As.reverse ++ (2, b) :: rest) (hn : As.length = n) (he : zEntP ((2, b) :: As) M'.2.2.1 = ls0) (hln : (zEnt ((2, b) :: As)).length ≤ M'.2.2.1) (hv : ∀ w ∈ As, w.1 ≤ 4) (hr : zRest rest) (hb : 0 ≤ b)
    (k : ∀ r G', zUp G G' → P' r G' → ZE (d + 1) M G' (pc + 3) ls (r.toList ++ rest) P) : ZE (d + 1) M G pc ls st P := by
  subst hst
  refine ZE.call_of (vs := (2, b) :: As) (rest := rest) hc.1 (fun w hw => by rcases List.mem_cons.mp hw with rfl | hw; exact (by decide : 2 ≤ 4); exact hv w hw) he hln spec (fun r1 G1 D p l e R s m args below meth c H locs cells slots la hC hH hla h1 h2 h3 hM => ?_) k
  obtain ⟨hcal, g1, g2, g3, g4, q, hq, hqc⟩ := hc
  have hcw := cwI (own := M.1.cls) (index := idx) (y := M'.1) (bytes := M'.2.1) (maxL := M'.2.2.1) (ws := zWs M') (ws' := zWS) (rm := zRm d G G1) n hC.2.2.2.2.1 (zGood (zWs_in hcal)) (by rw [← g4]; rfl) rfl rfl (hC.2.2.2.2.1 _ hcal.2.1) (hC.2.2.2.2.1 _ g1) (hC.2.2.2.2.1 _ g2) g3 ⟨hcal.2.2.1.1, hcal.2.2.1.2, hcal.2.2.2.1⟩ ⟨h1, h2⟩
  have hstk : List.map zcv (As.reverse ++ (2, b) :: rest) = (As.map zcv).reverse ++ .ref b.toNat :: rest.map zcv := by
    rw [List.map_append, List.map_reverse, List.map_cons, zref hb]
  rw [hstk, show List.map zcv ((2, b) :: As) = .ref b.toNat :: As.map zcv by rw [List.map_cons, zref hb]]
  refine va_runI (As := As.map zcv) (rest := rest.map zcv) ⟨hC.1, hC.2.1, hC.2.2.1, hC.2.2.2.1, hC.2.2.2.2.1⟩ hM hcw ⟨zBlind, fun U hU hW => ⟨by rw [List.map_cons, zref hb], by rw [hU]; exact hH.moved hW.alike, hC.2.2.2.2.2.1.warm hW⟩⟩ rfl (by rw [List.length_map]; exact hn) hla.size rfl ?_ hd h3
  exact lv_room (by rw [zcat]; exact hr)
theorem ZE.callN {idx ci : Nat} {host : String} {b : Int} {As : List zV} (spec : ZE d M' G 0 ls0 [] P') (hd : decode M.2.1 pc = .ok (.invokespecial idx, 3)) (hc : zCalN M.1.cls idx M' n ci) (hnest : Cond.methodLinkNest M.1.cls idx M'.1 host ∈ zNest) (hst : st = As.reverse ++ (2, b) :: rest) (hn : As.length = n) (he : zEntP ((2, b) :: As) M'.2.2.1 = ls0) (hln : (zEnt ((2, b) :: As)).length ≤ M'.2.2.1) (hv : ∀ w ∈ As, w.1 ≤ 4) (hr : zRest rest) (hb : 0 ≤ b)
    (k : ∀ r G', zUp G G' → P' r G' → ZE (d + 1) M G' (pc + 3) ls (r.toList ++ rest) P) : ZE (d + 1) M G pc ls st P := by
  subst hst
  refine ZE.call_of (vs := (2, b) :: As) (rest := rest) hc.1 (fun w hw => by rcases List.mem_cons.mp hw with rfl | hw; exact (by decide : 2 ≤ 4); exact hv w hw) he hln spec (fun r1 G1 D p l e R s m args below meth c H locs cells slots la hC hH hla h1 h2 h3 hM => ?_) k
  obtain ⟨hcal, g2, g3, g4, q, hq, hqc⟩ := hc
  have hcw := va_cnB (R := R) (own := M.1.cls) (host := host) (index := idx) (y := M'.1) (bytes := M'.2.1) (maxL := M'.2.2.1) (ret := none) (ws := zWs M') (ws' := zWS) (rm := zRm d G G1) n hC.2.2.2.2.1 (zGood (zWs_in hcal)) (by rw [← g4]; rfl) rfl rfl (hC.2.2.2.2.2.1.2.2 _ hnest) (hC.2.2.2.2.1 _ hcal.2.1) ⟨hcal.2.2.1.1, hcal.2.2.1.2, hcal.2.2.2.1⟩ ⟨h1, h2⟩
  have hstk : List.map zcv (As.reverse ++ (2, b) :: rest) = (As.map zcv).reverse ++ .ref b.toNat :: rest.map zcv := by
    rw [List.map_append, List.map_reverse, List.map_cons, zref hb]
  rw [hstk, show List.map zcv ((2, b) :: As) = .ref b.toNat :: As.map zcv by rw [List.map_cons, zref hb]]
  refine va_runIN (As := As.map zcv) (rest := rest.map zcv) ⟨hC.1, hC.2.1, hC.2.2.1, hC.2.2.2.1, hC.2.2.2.2.1⟩ hM ⟨hcw, g3, hC.2.2.2.2.1 _ g2⟩ ⟨zBlind, fun U hU hW => ⟨by rw [List.map_cons, zref hb], by rw [hU]; exact hH.moved hW.alike, hC.2.2.2.2.2.1.warm hW⟩⟩ rfl (by rw [List.length_map]; exact hn) hla.size rfl ?_ hd h3
  exact lv_room (by rw [zcat]; exact hr)
end ZCALL
