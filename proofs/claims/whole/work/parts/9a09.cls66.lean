def CI (G : zG) (A : Int → Int → Int) (x : Int) (S T tl : Nat) (tf : Nat → Int) (wl : Nat) (wf : Nat → Int) : Prop := CK G x ∧ CF A x ∧ (A x 11 = (S : Int) ∧ S < 128 ∧ pop S ≤ 5) ∧ (lG G A ∧ gl G < x) ∧ sR G A (x + 1) (x + 145) 1 S ∧ sT G A (x + 47) (x + 145) ∧ mT A (x + 93) ∧ eW A (x + 99) ∧ yF A (x + 120) ∧ fO A (x + 126) ∧ (xN A (x + 135) tl tf ∧ tl ≤ 2000 ∧ ∀ k, -128 ≤ tf k ∧ tf k ≤ 127) ∧ (xN A (x + 137) wl wf ∧ wl ≤ 2048 ∧ ∀ k, 0 ≤ wf k ∧ wf k ≤ 127) ∧ (∃ dl df, xN A (x + 139) dl df ∧ dl ≤ 2048) ∧ (bN A (x + 141) T ∧ T < 10 ^ 300) ∧ A (x + 143) 0 = x + 144
theorem CI.cCK {G : zG} {A : Int → Int → Int} {x : Int} {S T tl : Nat} {tf : Nat → Int} {wl : Nat} {wf : Nat → Int} (h : CI G A x S T tl tf wl wf) : CK G x := h.1
theorem CI.cCF {G : zG} {A : Int → Int → Int} {x : Int} {S T tl : Nat} {tf : Nat → Int} {wl : Nat} {wf : Nat → Int} (h : CI G A x S T tl tf wl wf) : CF A x := h.2.1
theorem CI.cS {G : zG} {A : Int → Int → Int} {x : Int} {S T tl : Nat} {tf : Nat → Int} {wl : Nat} {wf : Nat → Int} (h : CI G A x S T tl tf wl wf) : (A x 11 = (S : Int) ∧ S < 128 ∧ pop S ≤ 5) := h.2.2.1
theorem CI.cL {G : zG} {A : Int → Int → Int} {x : Int} {S T tl : Nat} {tf : Nat → Int} {wl : Nat} {wf : Nat → Int} (h : CI G A x S T tl tf wl wf) : (lG G A ∧ gl G < x) := h.2.2.2.1
theorem CI.cR {G : zG} {A : Int → Int → Int} {x : Int} {S T tl : Nat} {tf : Nat → Int} {wl : Nat} {wf : Nat → Int} (h : CI G A x S T tl tf wl wf) : sR G A (x + 1) (x + 145) 1 S := h.2.2.2.2.1
theorem CI.cW {G : zG} {A : Int → Int → Int} {x : Int} {S T tl : Nat} {tf : Nat → Int} {wl : Nat} {wf : Nat → Int} (h : CI G A x S T tl tf wl wf) : sT G A (x + 47) (x + 145) := h.2.2.2.2.2.1
theorem CI.cM {G : zG} {A : Int → Int → Int} {x : Int} {S T tl : Nat} {tf : Nat → Int} {wl : Nat} {wf : Nat → Int} (h : CI G A x S T tl tf wl wf) : mT A (x + 93) := h.2.2.2.2.2.2.1
theorem CI.cE {G : zG} {A : Int → Int → Int} {x : Int} {S T tl : Nat} {tf : Nat → Int} {wl : Nat} {wf : Nat → Int} (h : CI G A x S T tl tf wl wf) : eW A (x + 99) := h.2.2.2.2.2.2.2.1
theorem CI.cY {G : zG} {A : Int → Int → Int} {x : Int} {S T tl : Nat} {tf : Nat → Int} {wl : Nat} {wf : Nat → Int} (h : CI G A x S T tl tf wl wf) : yF A (x + 120) := h.2.2.2.2.2.2.2.2.1
theorem CI.cO {G : zG} {A : Int → Int → Int} {x : Int} {S T tl : Nat} {tf : Nat → Int} {wl : Nat} {wf : Nat → Int} (h : CI G A x S T tl tf wl wf) : fO A (x + 126) := h.2.2.2.2.2.2.2.2.2.1
theorem CI.ct {G : zG} {A : Int → Int → Int} {x : Int} {S T tl : Nat} {tf : Nat → Int} {wl : Nat} {wf : Nat → Int} (h : CI G A x S T tl tf wl wf) : (xN A (x + 135) tl tf ∧ tl ≤ 2000 ∧ ∀ k, -128 ≤ tf k ∧ tf k ≤ 127) := h.2.2.2.2.2.2.2.2.2.2.1
theorem CI.cw {G : zG} {A : Int → Int → Int} {x : Int} {S T tl : Nat} {tf : Nat → Int} {wl : Nat} {wf : Nat → Int} (h : CI G A x S T tl tf wl wf) : (xN A (x + 137) wl wf ∧ wl ≤ 2048 ∧ ∀ k, 0 ≤ wf k ∧ wf k ≤ 127) := h.2.2.2.2.2.2.2.2.2.2.2.1
theorem CI.cd {G : zG} {A : Int → Int → Int} {x : Int} {S T tl : Nat} {tf : Nat → Int} {wl : Nat} {wf : Nat → Int} (h : CI G A x S T tl tf wl wf) : (∃ dl df, xN A (x + 139) dl df ∧ dl ≤ 2048) := h.2.2.2.2.2.2.2.2.2.2.2.2.1
theorem CI.cT {G : zG} {A : Int → Int → Int} {x : Int} {S T tl : Nat} {tf : Nat → Int} {wl : Nat} {wf : Nat → Int} (h : CI G A x S T tl tf wl wf) : (bN A (x + 141) T ∧ T < 10 ^ 300) := h.2.2.2.2.2.2.2.2.2.2.2.2.2.1
theorem CI.cp {G : zG} {A : Int → Int → Int} {x : Int} {S T tl : Nat} {tf : Nat → Int} {wl : Nat} {wf : Nat → Int} (h : CI G A x S T tl tf wl wf) : A (x + 143) 0 = x + 144 := h.2.2.2.2.2.2.2.2.2.2.2.2.2.2
theorem CI.sR {G : zG} {A : Int → Int → Int} {x : Int} {S T tl : Nat} {tf : Nat → Int} {wl : Nat} {wf : Nat → Int} {B : Int → Int → Int} (h : CI G A x S T tl tf wl wf) (e : ∀ a : Int, (a < x + 1 ∨ x + 46 < a) → B a = A a) (n : sR G B (x + 1) (x + 145) 1 S) : CI G B x S T tl tf wl wf := by
  have hx0 := h.cCK.2.1
  have hgx := h.cL.2
  exact ⟨h.cCK, (h.cCF.ab (fun i _ => congrFun (e x (by omega)) i)), ⟨(congrFun (e x (by omega)) _).trans h.cS.1, h.cS.2⟩, ⟨h.cL.1.ab (e _ (by omega)), h.cL.2⟩, n, (h.cW.ab (fun a ha => e a (by omega))), (h.cM.ab (fun a h1 h2 => e a (by omega))), (h.cE.ab (fun a h1 h2 => e a (by omega))), (h.cY.ab (e _ (by omega))), (h.cO.ab (fun a h1 h2 => e a (by omega))), ⟨h.ct.1.ab (fun a h1 h2 => e a (by omega)), h.ct.2⟩, ⟨h.cw.1.ab (fun a h1 h2 => e a (by omega)), h.cw.2⟩, (by obtain ⟨q1, q2, q3, q4⟩ := h.cd; exact ⟨q1, q2, q3.ab (fun a h1 h2 => e a (by omega)), q4⟩), ⟨h.cT.1.ab (fun a ha => e a (by omega)), h.cT.2⟩, ((congrFun (e _ (by omega)) _).trans h.cp)⟩
theorem CI.sM {G : zG} {A : Int → Int → Int} {x : Int} {S T tl : Nat} {tf : Nat → Int} {wl : Nat} {wf : Nat → Int} {B : Int → Int → Int} (h : CI G A x S T tl tf wl wf) (e : ∀ a : Int, (a < x + 93 ∨ x + 98 < a) → B a = A a) (n : mT B (x + 93)) : CI G B x S T tl tf wl wf := by
  have hx0 := h.cCK.2.1
  have hgx := h.cL.2
  exact ⟨h.cCK, (h.cCF.ab (fun i _ => congrFun (e x (by omega)) i)), ⟨(congrFun (e x (by omega)) _).trans h.cS.1, h.cS.2⟩, ⟨h.cL.1.ab (e _ (by omega)), h.cL.2⟩, (h.cR.ab (fun a ha => e a (by omega))), (h.cW.ab (fun a ha => e a (by omega))), n, (h.cE.ab (fun a h1 h2 => e a (by omega))), (h.cY.ab (e _ (by omega))), (h.cO.ab (fun a h1 h2 => e a (by omega))), ⟨h.ct.1.ab (fun a h1 h2 => e a (by omega)), h.ct.2⟩, ⟨h.cw.1.ab (fun a h1 h2 => e a (by omega)), h.cw.2⟩, (by obtain ⟨q1, q2, q3, q4⟩ := h.cd; exact ⟨q1, q2, q3.ab (fun a h1 h2 => e a (by omega)), q4⟩), ⟨h.cT.1.ab (fun a ha => e a (by omega)), h.cT.2⟩, ((congrFun (e _ (by omega)) _).trans h.cp)⟩
theorem CI.sE {G : zG} {A : Int → Int → Int} {x : Int} {S T tl : Nat} {tf : Nat → Int} {wl : Nat} {wf : Nat → Int} {B : Int → Int → Int} (h : CI G A x S T tl tf wl wf) (e : ∀ a : Int, (a < x + 99 ∨ x + 119 < a) → B a = A a) (n : eW B (x + 99)) : CI G B x S T tl tf wl wf := by
  have hx0 := h.cCK.2.1
  have hgx := h.cL.2
  exact ⟨h.cCK, (h.cCF.ab (fun i _ => congrFun (e x (by omega)) i)), ⟨(congrFun (e x (by omega)) _).trans h.cS.1, h.cS.2⟩, ⟨h.cL.1.ab (e _ (by omega)), h.cL.2⟩, (h.cR.ab (fun a ha => e a (by omega))), (h.cW.ab (fun a ha => e a (by omega))), (h.cM.ab (fun a h1 h2 => e a (by omega))), n, (h.cY.ab (e _ (by omega))), (h.cO.ab (fun a h1 h2 => e a (by omega))), ⟨h.ct.1.ab (fun a h1 h2 => e a (by omega)), h.ct.2⟩, ⟨h.cw.1.ab (fun a h1 h2 => e a (by omega)), h.cw.2⟩, (by obtain ⟨q1, q2, q3, q4⟩ := h.cd; exact ⟨q1, q2, q3.ab (fun a h1 h2 => e a (by omega)), q4⟩), ⟨h.cT.1.ab (fun a ha => e a (by omega)), h.cT.2⟩, ((congrFun (e _ (by omega)) _).trans h.cp)⟩
theorem CI.sY {G : zG} {A : Int → Int → Int} {x : Int} {S T tl : Nat} {tf : Nat → Int} {wl : Nat} {wf : Nat → Int} {B : Int → Int → Int} (h : CI G A x S T tl tf wl wf) (e : ∀ a : Int, (a < x + 120 ∨ x + 125 < a) → B a = A a) (n : yF B (x + 120)) : CI G B x S T tl tf wl wf := by
  have hx0 := h.cCK.2.1
  have hgx := h.cL.2
  exact ⟨h.cCK, (h.cCF.ab (fun i _ => congrFun (e x (by omega)) i)), ⟨(congrFun (e x (by omega)) _).trans h.cS.1, h.cS.2⟩, ⟨h.cL.1.ab (e _ (by omega)), h.cL.2⟩, (h.cR.ab (fun a ha => e a (by omega))), (h.cW.ab (fun a ha => e a (by omega))), (h.cM.ab (fun a h1 h2 => e a (by omega))), (h.cE.ab (fun a h1 h2 => e a (by omega))), n, (h.cO.ab (fun a h1 h2 => e a (by omega))), ⟨h.ct.1.ab (fun a h1 h2 => e a (by omega)), h.ct.2⟩, ⟨h.cw.1.ab (fun a h1 h2 => e a (by omega)), h.cw.2⟩, (by obtain ⟨q1, q2, q3, q4⟩ := h.cd; exact ⟨q1, q2, q3.ab (fun a h1 h2 => e a (by omega)), q4⟩), ⟨h.cT.1.ab (fun a ha => e a (by omega)), h.cT.2⟩, ((congrFun (e _ (by omega)) _).trans h.cp)⟩
theorem CI.sO {G : zG} {A : Int → Int → Int} {x : Int} {S T tl : Nat} {tf : Nat → Int} {wl : Nat} {wf : Nat → Int} {B : Int → Int → Int} (h : CI G A x S T tl tf wl wf) (e : ∀ a : Int, (a < x + 126 ∨ x + 134 < a) → B a = A a) (n : fO B (x + 126)) : CI G B x S T tl tf wl wf := by
  have hx0 := h.cCK.2.1
  have hgx := h.cL.2
  exact ⟨h.cCK, (h.cCF.ab (fun i _ => congrFun (e x (by omega)) i)), ⟨(congrFun (e x (by omega)) _).trans h.cS.1, h.cS.2⟩, ⟨h.cL.1.ab (e _ (by omega)), h.cL.2⟩, (h.cR.ab (fun a ha => e a (by omega))), (h.cW.ab (fun a ha => e a (by omega))), (h.cM.ab (fun a h1 h2 => e a (by omega))), (h.cE.ab (fun a h1 h2 => e a (by omega))), (h.cY.ab (e _ (by omega))), n, ⟨h.ct.1.ab (fun a h1 h2 => e a (by omega)), h.ct.2⟩, ⟨h.cw.1.ab (fun a h1 h2 => e a (by omega)), h.cw.2⟩, (by obtain ⟨q1, q2, q3, q4⟩ := h.cd; exact ⟨q1, q2, q3.ab (fun a h1 h2 => e a (by omega)), q4⟩), ⟨h.cT.1.ab (fun a ha => e a (by omega)), h.cT.2⟩, ((congrFun (e _ (by omega)) _).trans h.cp)⟩
theorem CI.st {G : zG} {A : Int → Int → Int} {x : Int} {S T tl : Nat} {tf : Nat → Int} {wl : Nat} {wf : Nat → Int} {tl2 : Nat} {tf2 : Nat → Int} {B : Int → Int → Int} (h : CI G A x S T tl tf wl wf) (e : ∀ a : Int, (a < x + 135 ∨ x + 136 < a) → B a = A a) (n : (xN B (x + 135) tl2 tf2 ∧ tl2 ≤ 2000 ∧ ∀ k, -128 ≤ tf2 k ∧ tf2 k ≤ 127)) : CI G B x S T tl2 tf2 wl wf := by
  have hx0 := h.cCK.2.1
  have hgx := h.cL.2
  exact ⟨h.cCK, (h.cCF.ab (fun i _ => congrFun (e x (by omega)) i)), ⟨(congrFun (e x (by omega)) _).trans h.cS.1, h.cS.2⟩, ⟨h.cL.1.ab (e _ (by omega)), h.cL.2⟩, (h.cR.ab (fun a ha => e a (by omega))), (h.cW.ab (fun a ha => e a (by omega))), (h.cM.ab (fun a h1 h2 => e a (by omega))), (h.cE.ab (fun a h1 h2 => e a (by omega))), (h.cY.ab (e _ (by omega))), (h.cO.ab (fun a h1 h2 => e a (by omega))), n, ⟨h.cw.1.ab (fun a h1 h2 => e a (by omega)), h.cw.2⟩, (by obtain ⟨q1, q2, q3, q4⟩ := h.cd; exact ⟨q1, q2, q3.ab (fun a h1 h2 => e a (by omega)), q4⟩), ⟨h.cT.1.ab (fun a ha => e a (by omega)), h.cT.2⟩, ((congrFun (e _ (by omega)) _).trans h.cp)⟩
theorem CI.sw {G : zG} {A : Int → Int → Int} {x : Int} {S T tl : Nat} {tf : Nat → Int} {wl : Nat} {wf : Nat → Int} {wl2 : Nat} {wf2 : Nat → Int} {B : Int → Int → Int} (h : CI G A x S T tl tf wl wf) (e : ∀ a : Int, (a < x + 137 ∨ x + 138 < a) → B a = A a) (n : (xN B (x + 137) wl2 wf2 ∧ wl2 ≤ 2048 ∧ ∀ k, 0 ≤ wf2 k ∧ wf2 k ≤ 127)) : CI G B x S T tl tf wl2 wf2 := by
  have hx0 := h.cCK.2.1
  have hgx := h.cL.2
  exact ⟨h.cCK, (h.cCF.ab (fun i _ => congrFun (e x (by omega)) i)), ⟨(congrFun (e x (by omega)) _).trans h.cS.1, h.cS.2⟩, ⟨h.cL.1.ab (e _ (by omega)), h.cL.2⟩, (h.cR.ab (fun a ha => e a (by omega))), (h.cW.ab (fun a ha => e a (by omega))), (h.cM.ab (fun a h1 h2 => e a (by omega))), (h.cE.ab (fun a h1 h2 => e a (by omega))), (h.cY.ab (e _ (by omega))), (h.cO.ab (fun a h1 h2 => e a (by omega))), ⟨h.ct.1.ab (fun a h1 h2 => e a (by omega)), h.ct.2⟩, n, (by obtain ⟨q1, q2, q3, q4⟩ := h.cd; exact ⟨q1, q2, q3.ab (fun a h1 h2 => e a (by omega)), q4⟩), ⟨h.cT.1.ab (fun a ha => e a (by omega)), h.cT.2⟩, ((congrFun (e _ (by omega)) _).trans h.cp)⟩
theorem CI.sd {G : zG} {A : Int → Int → Int} {x : Int} {S T tl : Nat} {tf : Nat → Int} {wl : Nat} {wf : Nat → Int} {B : Int → Int → Int} (h : CI G A x S T tl tf wl wf) (e : ∀ a : Int, (a < x + 139 ∨ x + 140 < a) → B a = A a) (n : (∃ dl df, xN B (x + 139) dl df ∧ dl ≤ 2048)) : CI G B x S T tl tf wl wf := by
  have hx0 := h.cCK.2.1
  have hgx := h.cL.2
  exact ⟨h.cCK, (h.cCF.ab (fun i _ => congrFun (e x (by omega)) i)), ⟨(congrFun (e x (by omega)) _).trans h.cS.1, h.cS.2⟩, ⟨h.cL.1.ab (e _ (by omega)), h.cL.2⟩, (h.cR.ab (fun a ha => e a (by omega))), (h.cW.ab (fun a ha => e a (by omega))), (h.cM.ab (fun a h1 h2 => e a (by omega))), (h.cE.ab (fun a h1 h2 => e a (by omega))), (h.cY.ab (e _ (by omega))), (h.cO.ab (fun a h1 h2 => e a (by omega))), ⟨h.ct.1.ab (fun a h1 h2 => e a (by omega)), h.ct.2⟩, ⟨h.cw.1.ab (fun a h1 h2 => e a (by omega)), h.cw.2⟩, n, ⟨h.cT.1.ab (fun a ha => e a (by omega)), h.cT.2⟩, ((congrFun (e _ (by omega)) _).trans h.cp)⟩
theorem CI.sT {G : zG} {A : Int → Int → Int} {x : Int} {S T tl : Nat} {tf : Nat → Int} {wl : Nat} {wf : Nat → Int} {T2 : Nat} {B : Int → Int → Int} (h : CI G A x S T tl tf wl wf) (e : ∀ a : Int, (a < x + 141 ∨ x + 142 < a) → B a = A a) (n : (bN B (x + 141) T2 ∧ T2 < 10 ^ 300)) : CI G B x S T2 tl tf wl wf := by
  have hx0 := h.cCK.2.1
  have hgx := h.cL.2
  exact ⟨h.cCK, (h.cCF.ab (fun i _ => congrFun (e x (by omega)) i)), ⟨(congrFun (e x (by omega)) _).trans h.cS.1, h.cS.2⟩, ⟨h.cL.1.ab (e _ (by omega)), h.cL.2⟩, (h.cR.ab (fun a ha => e a (by omega))), (h.cW.ab (fun a ha => e a (by omega))), (h.cM.ab (fun a h1 h2 => e a (by omega))), (h.cE.ab (fun a h1 h2 => e a (by omega))), (h.cY.ab (e _ (by omega))), (h.cO.ab (fun a h1 h2 => e a (by omega))), ⟨h.ct.1.ab (fun a h1 h2 => e a (by omega)), h.ct.2⟩, ⟨h.cw.1.ab (fun a h1 h2 => e a (by omega)), h.cw.2⟩, (by obtain ⟨q1, q2, q3, q4⟩ := h.cd; exact ⟨q1, q2, q3.ab (fun a h1 h2 => e a (by omega)), q4⟩), n, ((congrFun (e _ (by omega)) _).trans h.cp)⟩
theorem CI.sp {G : zG} {A : Int → Int → Int} {x : Int} {S T tl : Nat} {tf : Nat → Int} {wl : Nat} {wf : Nat → Int} {B : Int → Int → Int} (h : CI G A x S T tl tf wl wf) (e : ∀ a : Int, (a < x + 143 ∨ x + 144 < a) → B a = A a) (n : B (x + 143) 0 = x + 144) : CI G B x S T tl tf wl wf := by
  have hx0 := h.cCK.2.1
  have hgx := h.cL.2
  exact ⟨h.cCK, (h.cCF.ab (fun i _ => congrFun (e x (by omega)) i)), ⟨(congrFun (e x (by omega)) _).trans h.cS.1, h.cS.2⟩, ⟨h.cL.1.ab (e _ (by omega)), h.cL.2⟩, (h.cR.ab (fun a ha => e a (by omega))), (h.cW.ab (fun a ha => e a (by omega))), (h.cM.ab (fun a h1 h2 => e a (by omega))), (h.cE.ab (fun a h1 h2 => e a (by omega))), (h.cY.ab (e _ (by omega))), (h.cO.ab (fun a h1 h2 => e a (by omega))), ⟨h.ct.1.ab (fun a h1 h2 => e a (by omega)), h.ct.2⟩, ⟨h.cw.1.ab (fun a h1 h2 => e a (by omega)), h.cw.2⟩, (by obtain ⟨q1, q2, q3, q4⟩ := h.cd; exact ⟨q1, q2, q3.ab (fun a h1 h2 => e a (by omega)), q4⟩), ⟨h.cT.1.ab (fun a ha => e a (by omega)), h.cT.2⟩, n⟩
def cuB (G : zG) (a : Int) : Prop := gk G a = 11 ∨ ∃ u : Int, uK G u ∧ u + 9 ≤ (gz G : Int) ∧ a = u + 7
theorem cuB.gr {G G2 : zG} {a : Int} {n m : Nat} (h : cuB G a) (g : gR G G2 n m) (ha : a < (gz G : Int)) : cuB G2 a := by
  have hz := g.1
  rcases h with q | ⟨u, q1, q2, q3⟩
  · exact Or.inl ((g.2.2.1 a ha).1.trans q)
  · exact Or.inr ⟨u, q1.gr g (by omega), by omega, q3⟩
/-- what a call of the class may change, and the room that it may take -/
def cT (G : zG) (A : Int → Int → Int) (G2 : zG) (A2 : Int → Int → Int) (x : Int) : Prop := (∃ n m : Nat, gR G G2 n m ∧ n + 54 * (unk A2 (x + 1) + unk A2 (x + 47)) ≤ 54 * (unk A (x + 1) + unk A (x + 47)) ∧ m + 556 * (unk A2 (x + 1) + unk A2 (x + 47)) ≤ 556 * (unk A (x + 1) + unk A (x + 47))) ∧ ∀ a : Int, a < (gz G : Int) → (a < x ∨ x + 145 ≤ a) → A2 a = A a ∨ (x + 145 ≤ a ∧ cuB G2 a)
theorem cT.rf {G : zG} {A : Int → Int → Int} {x : Int} : cT G A G A x := ⟨⟨0, 0, gR.rf, by omega, by omega⟩, fun _ _ _ => Or.inl rfl⟩
theorem cT.tr {G G2 G3 : zG} {A A2 A3 : Int → Int → Int} {x : Int} (h : cT G A G2 A2 x) (g : cT G2 A2 G3 A3 x) : cT G A G3 A3 x := by
  obtain ⟨⟨n, m, h1, h2, h3⟩, h4⟩ := h
  obtain ⟨⟨n2, m2, g1, g2, g3⟩, g4⟩ := g
  have hz := h1.1
  refine ⟨⟨n + n2, m + m2, h1.tr g1, by omega, by omega⟩, fun a ha hb => ?_⟩
  rcases g4 a (by omega) hb with q | q
  · rcases h4 a ha hb with r | r
    · exact Or.inl (q.trans r)
    · exact Or.inr ⟨r.1, r.2.gr g1 (by omega)⟩
  · exact Or.inr q
theorem cT.lo {G : zG} {A B : Int → Int → Int} {x : Int} (e : ∀ a : Int, (a < x ∨ x + 145 ≤ a) → B a = A a) (e1 : B (x + 1 + 28) = A (x + 1 + 28)) (e2 : B (x + 47 + 28) = A (x + 47 + 28)) : cT G A G B x := by
  have u1 := unk_congr e1
  have u2 := unk_congr e2
  exact ⟨⟨0, 0, gR.rf, by omega, by omega⟩, fun a _ hb => Or.inl (e a hb)⟩
theorem cT.rg {G : zG} {A B : Int → Int → Int} {x lo hi : Int} (e : ∀ a : Int, (a < lo ∨ hi < a) → B a = A a) (h1 : x + 93 ≤ lo) (h2 : hi ≤ x + 144) : cT G A G B x := cT.lo (fun a ha => e a (by omega)) (e _ (by omega)) (e _ (by omega))
theorem sR.uof {G G2 : zG} {A B : Int → Int → Int} {s E0 : Int} {ap S n m : Nat} (h : sR G A s E0 ap S) (g : gR G G2 n m) (hP : kP G2 B s E0 ap) (hF : sF B s ap) (f : uoF A B s (gz G : Int)) : sR G2 B s E0 ap S := by
  have hE := h.E
  have hs0 := h.K.2.1
  have hz := g.1
  have e : ∀ a : Int, a < (gz G : Int) → ¬ (s + 1 ≤ a ∧ a ≤ s + 9) → ¬ (s + 33 ≤ a ∧ a ≤ s + 45) → a ≠ s + 28 → B a = A a := f.1
  have e0 := e s (by omega) (by omega) (by omega) (by omega)
  have e9 := e (s + 29) (by omega) (by omega) (by omega) (by omega)
  have e30 := e (s + 30) (by omega) (by omega) (by omega) (by omega)
  obtain ⟨n1, n2, n3⟩ := h.N
  refine ⟨h.K.gr g (by omega), hF, hP, ⟨?_, fun c hc => ?_, fun k hk => ?_⟩, ⟨hE.1, by omega⟩, h.apx, h.s7, h.p5⟩
  · rw [e0]; exact n1
  · rw [e9, f.2 _ (n2 c hc).2]; exact n2 c hc
  · have ht : okT ap S (csA ap S).length ((prL ap S).getD k pD) := prA_ok (ap := ap) (S := S) _ k hk
    have hu := h.un ht.1
    have hc := h.cp hk
    have hu1 := hu.1
    have hu2 := hu.2.1
    rw [e9, e30, e (A (s + 29) _ + 8) (by omega) (by omega) (by omega) (by omega), e (A (s + 30) k) (by omega) (by omega) (by omega) (by omega)]
    exact n3 k hk
/-- other sets are counted -/
theorem CI.cpl {G : zG} {A : Int → Int → Int} {x : Int} {S T tl : Nat} {tf : Nat → Int} {wl : Nat} {wf : Nat → Int} {G2 : zG} {B : Int → Int → Int} {n m : Nat} (h : CI G A x S T tl tf wl wf) (g : gR G G2 n m) (hP : kP G2 B (x + 1) (x + 145) 1) (hF : sF B (x + 1) 1) (f : uoF A B (x + 1) (gz G : Int)) : CI G2 B x S T tl tf wl wf := by
  have hx0 := h.cCK.2.1
  have hgx := h.cL.2
  have hE := h.cR.E
  have hl : ∀ a : Int, a < (gz G : Int) → ¬ (x + 1 ≤ a ∧ a ≤ x + 46) → B a = A a := fun a h1 h2 => f.1 a h1 (by omega) (by omega) (by omega)
  exact ⟨h.cCK.gr g, h.cCF.ab (fun i _ => congrFun (hl x (by omega) (by omega)) i), ⟨(congrFun (hl x (by omega) (by omega)) _).trans h.cS.1, h.cS.2⟩, ⟨h.cL.1.gr g (by omega) (hl _ (by omega) (by omega)), by rw [g.2.2.2.2]; exact h.cL.2⟩, h.cR.uof g hP hF f, h.cW.oth g ⟨fun a h1 h2 => hl a (by omega) (by omega), fun a h1 h2 => Or.inl (hl a h2 (by omega))⟩, (h.cM.ab (fun a h1 h2 => hl a (by omega) (by omega))), (h.cE.ab (fun a h1 h2 => hl a (by omega) (by omega))), (h.cY.ab (hl _ (by omega) (by omega))), (h.cO.ab (fun a h1 h2 => hl a (by omega) (by omega))), ⟨h.ct.1.ab (fun a h1 h2 => hl a (by omega) (by omega)), h.ct.2⟩, ⟨h.cw.1.ab (fun a h1 h2 => hl a (by omega) (by omega)), h.cw.2⟩, (by obtain ⟨q1, q2, q3, q4⟩ := h.cd; exact ⟨q1, q2, q3.ab (fun a h1 h2 => hl a (by omega) (by omega)), q4⟩), ⟨h.cT.1.ab (fun a ha => hl a (by omega) (by omega)), h.cT.2⟩, ((congrFun (hl _ (by omega) (by omega)) _).trans h.cp)⟩
theorem cT.cpl {G G2 : zG} {A B : Int → Int → Int} {x : Int} {n m : Nat} (g : gR G G2 n m) (hz : x + 145 ≤ (gz G : Int)) (f : uoF A B (x + 1) (gz G : Int)) (hn : n + 54 * unk B (x + 1) ≤ 54 * unk A (x + 1)) (hm : m + 556 * unk B (x + 1) ≤ 556 * unk A (x + 1)) : cT G A G2 B x := by
  have u2 := unk_congr (s := x + 47) (f.1 (x + 47 + 28) (by omega) (by omega) (by omega) (by omega))
  exact ⟨⟨n, m, g, by omega, by omega⟩, fun a h1 h2 => Or.inl (f.1 a h1 (by omega) (by omega) (by omega))⟩
theorem CI.fl1 {G : zG} {A : Int → Int → Int} {x : Int} {S T tl : Nat} {tf : Nat → Int} {wl : Nat} {wf : Nat → Int} {S2 : Nat} (hS2 : S2 < 128) (hp2 : pop S2 ≤ 5) {G2 : zG} {B : Int → Int → Int} {n m : Nat} (h : CI G A x S T tl tf wl wf) (g : gR G G2 n m) (hP : kP G2 B (x + 1) (x + 145) 1) (hF : sF B (x + 1) 1) (hN : nSe B (x + 1) 1 S2) (f : flF2 G (up2 A x 11 (S2 : Int)) G2 B (x + 1) (x + 145) 1) : CI G2 B x S2 T tl tf wl wf := by
  have hx0 := h.cCK.2.1
  have hgx := h.cL.2
  have hE := h.cR.E
  have hz := g.1
  have ha0 : ∀ a : Int, a ≠ x → up2 A x 11 (S2 : Int) a = A a := fun a ha => by rw [up2_A, upA_ne _ _ ha]
  have hl0 : ∀ a : Int, a < x + 145 → ¬ (x + 1 ≤ a ∧ a ≤ x + 46) → B a = up2 A x 11 (S2 : Int) a := fun a h1 h2 => (f.1 a (by omega) (by omega)).elim id (fun q => by have := q.1; omega)
  have hl : ∀ a : Int, a < x + 145 → ¬ (x ≤ a ∧ a ≤ x + 46) → B a = A a := fun a h1 h2 => (hl0 a h1 (by omega)).trans (ha0 a (by omega))
  have hlx : B x = up2 A x 11 (S2 : Int) x := hl0 x (by omega) (by omega)
  have hO : othF G A B (x + 47) (x + 145) 2 := by
    have o := fl_oth (A := up2 A x 11 (S2 : Int)) (s2 := x + 47) (ap2 := 2) g f (by omega) (by omega) hE.2 (by omega) (Or.inl ⟨rfl, rfl⟩)
    refine ⟨fun a h1 h2 => (o.1 a h1 h2).trans (ha0 a (by omega)), fun a h1 h2 => ?_⟩
    have hC : isC G (up2 A x 11 (S2 : Int)) a 2 ↔ isC G A a 2 := by
      have hab : ∀ (P Q : Int → Int → Int), (∀ b : Int, x < b → Q b = P b) → isC G P a 2 → isC G Q a 2 := fun P Q hPQ hz => by
        obtain ⟨v, i, z1, z2, z3⟩ := hz
        exact ⟨v, i, z1, ⟨z2.1, z2.2.ab (fun k _ => congrFun (hPQ a (by omega)) k) (fun b hb1 hb2 => hPQ b (by omega))⟩, z3⟩
      exact ⟨hab _ _ (fun b hb => (ha0 b (by omega)).symm), hab _ _ (fun b hb => ha0 b (by omega))⟩
    have q := o.2 a h1 h2
    rw [ha0 a (by omega), hC] at q
    exact q
  exact ⟨h.cCK.gr g, h.cCF.ab (fun i hi => by rw [hlx, up2_ne _ _ (by omega)]), ⟨by rw [hlx, up2_at], hS2, hp2⟩, ⟨h.cL.1.gr g (by omega) (hl _ (by omega) (by omega)), by rw [g.2.2.2.2]; exact h.cL.2⟩, ⟨h.cR.K.gr g (by omega), hF, hP, hN, ⟨by omega, by omega⟩, Or.inl rfl, hS2, hp2⟩, h.cW.oth g hO, (h.cM.ab (fun a h1 h2 => hl a (by omega) (by omega))), (h.cE.ab (fun a h1 h2 => hl a (by omega) (by omega))), (h.cY.ab (hl _ (by omega) (by omega))), (h.cO.ab (fun a h1 h2 => hl a (by omega) (by omega))), ⟨h.ct.1.ab (fun a h1 h2 => hl a (by omega) (by omega)), h.ct.2⟩, ⟨h.cw.1.ab (fun a h1 h2 => hl a (by omega) (by omega)), h.cw.2⟩, (by obtain ⟨q1, q2, q3, q4⟩ := h.cd; exact ⟨q1, q2, q3.ab (fun a h1 h2 => hl a (by omega) (by omega)), q4⟩), ⟨h.cT.1.ab (fun a ha => hl a (by omega) (by omega)), h.cT.2⟩, ((congrFun (hl _ (by omega) (by omega)) _).trans h.cp)⟩
theorem CI.fl2 {G : zG} {A : Int → Int → Int} {x : Int} {S T tl : Nat} {tf : Nat → Int} {wl : Nat} {wf : Nat → Int} {G2 : zG} {B : Int → Int → Int} {n m : Nat} (h : CI G A x S T tl tf wl wf) (g : gR G G2 n m) (hP : kP G2 B (x + 47) (x + 145) 2) (hF : sF B (x + 47) 2) (hN : nSe B (x + 47) 2 S) (f : flF2 G A G2 B (x + 47) (x + 145) 2) : CI G2 B x S T tl tf wl wf := by
  have hx0 := h.cCK.2.1
  have hgx := h.cL.2
  have hE := h.cR.E
  have hz := g.1
  have hl : ∀ a : Int, a < x + 145 → ¬ (x + 47 ≤ a ∧ a ≤ x + 92) → B a = A a := fun a h1 h2 => (f.1 a (by omega) (by omega)).elim id (fun q => by have := q.1; omega)
  have hO := fl_oth (s2 := x + 1) (ap2 := 1) g f (by omega) (by omega) hE.2 (by omega) (Or.inr ⟨rfl, rfl⟩)
  exact ⟨h.cCK.gr g, h.cCF.ab (fun i _ => congrFun (hl x (by omega) (by omega)) i), ⟨(congrFun (hl x (by omega) (by omega)) _).trans h.cS.1, h.cS.2⟩, ⟨h.cL.1.gr g (by omega) (hl _ (by omega) (by omega)), by rw [g.2.2.2.2]; exact h.cL.2⟩, h.cR.oth g hO, ⟨h.cW.1.gr g (by omega), hF, hP, ⟨by omega, by omega⟩, Or.inr ⟨S, h.cS.2.1, h.cS.2.2, hN⟩⟩, (h.cM.ab (fun a h1 h2 => hl a (by omega) (by omega))), (h.cE.ab (fun a h1 h2 => hl a (by omega) (by omega))), (h.cY.ab (hl _ (by omega) (by omega))), (h.cO.ab (fun a h1 h2 => hl a (by omega) (by omega))), ⟨h.ct.1.ab (fun a h1 h2 => hl a (by omega) (by omega)), h.ct.2⟩, ⟨h.cw.1.ab (fun a h1 h2 => hl a (by omega) (by omega)), h.cw.2⟩, (by obtain ⟨q1, q2, q3, q4⟩ := h.cd; exact ⟨q1, q2, q3.ab (fun a h1 h2 => hl a (by omega) (by omega)), q4⟩), ⟨h.cT.1.ab (fun a ha => hl a (by omega) (by omega)), h.cT.2⟩, ((congrFun (hl _ (by omega) (by omega)) _).trans h.cp)⟩
theorem cT.fl {G G2 : zG} {A B : Int → Int → Int} {x s : Int} {ap n m : Nat} (g : gR G G2 n m) (hs : s = x + 1 ∨ s = x + 47) (hz : x + 145 ≤ (gz G : Int)) (f : flF2 G A G2 B s (x + 145) ap) (hn : n + 54 * unk B s ≤ 54 * unk A s) (hm : m + 556 * unk B s ≤ 556 * unk A s) : cT G A G2 B x := by
  have hl : ∀ a : Int, a < x + 145 → ¬ (s ≤ a ∧ a ≤ s + 45) → B a = A a := fun a h1 h2 => (f.1 a (by omega) h2).elim id (fun q => by have := q.1; omega)
  have hu : unk B (x + 1) + unk B (x + 47) + unk A s = unk A (x + 1) + unk A (x + 47) + unk B s := by
    rcases hs with r | r
    · subst r
      have u2 := unk_congr (s := x + 47) (hl (x + 47 + 28) (by omega) (by omega))
      omega
    · subst r
      have u2 := unk_congr (s := x + 1) (hl (x + 1 + 28) (by omega) (by omega))
      omega
  refine ⟨⟨n, m, g, by omega, by omega⟩, fun a h1 h2 => ?_⟩
  rcases f.1 a h1 (by omega) with q | q
  · exact Or.inl q
  · exact Or.inr ⟨q.1, Or.inl q.2.1.k11⟩
