theorem ZE.same {d : Nat} {M : zM} {G : zG} {pc : Nat} {ls st : List zV} {P : Option zV → zG → Prop} {x1 : Int} {off : Int} {tgt : Nat} (hd : decode M.2.1 pc = .ok (.if_icmp .eq off, 3)) (ht : (pc : Int) + off = (tgt : Int)) (kt : ZE d M G tgt ls st P) : ZE d M G pc ls ((0, x1) :: (0, x1) :: st) P := by
  refine ZE.pure kt (fun D p l e R s m args below meth c H locs cells slots Q la hx hb hC hH hla kk => ?_)
  exact lv_icmp_eq hx hb hd ht (fun _ => kk) (fun h => absurd rfl h)
/-- both objects, the script, the room: the class's own state is S T tl tf wl wf, the reference's S2 .. wf2 -/
def LH (b L : Nat) (xs : Nat → Int) (Z W : Nat) (G : zG) (A : Int → Int → Int) (x o : Int) (S T tl : Nat) (tf : Nat → Int) (wl : Nat) (wf : Nat → Int) (S2 T2 tl2 : Nat) (tf2 : Nat → Int) (wl2 : Nat) (wf2 : Nat → Int) : Prop := CI G A x S T tl tf wl wf ∧ RK G o ∧ RI A o S2 T2 tl2 tf2 wl2 wf2 ∧ (x + 145 ≤ o ∧ o + 20 ≤ (gz G : Int)) ∧ ((gk G (b : Int) = 6 ∧ gn G (b : Int) = (L : Int)) ∧ (∀ j : Nat, j < L → A (b : Int) j = xs j ∧ zR (xs j)) ∧ (b : Int) < x) ∧ gz G + 54 * (unk A (x + 1) + unk A (x + 47)) ≤ Z ∧ gs G + 556 * (unk A (x + 1) + unk A (x + 47)) ≤ W
theorem LH.c {b L : Nat} {xs : Nat → Int} {Z W : Nat} {G : zG} {A : Int → Int → Int} {x o : Int} {S T tl : Nat} {tf : Nat → Int} {wl : Nat} {wf : Nat → Int} {S2 T2 tl2 : Nat} {tf2 : Nat → Int} {wl2 : Nat} {wf2 : Nat → Int} {S3 T3 tl3 : Nat} {tf3 : Nat → Int} {wl3 : Nat} {wf3 : Nat → Int} {G2 : zG} {A2 : Int → Int → Int} (h : LH b L xs Z W G A x o S T tl tf wl wf S2 T2 tl2 tf2 wl2 wf2) (hC : CI G2 A2 x S3 T3 tl3 tf3 wl3 wf3) (hT : cT G A G2 A2 x) : LH b L xs Z W G2 A2 x o S3 T3 tl3 tf3 wl3 wf3 S2 T2 tl2 tf2 wl2 wf2 := by
  obtain ⟨h1, h2, h3, h4, ⟨h5, h6, h7⟩, h8, h9⟩ := h
  have hk := hT.keep h2 h4.1 h4.2
  have hx0 := h1.cCK.2.1
  obtain ⟨⟨n, m, g, gn1, gm1⟩, f⟩ := hT
  have hz := g.1
  have hs := g.2.1
  have eb : A2 (b : Int) = A (b : Int) := by
    rcases f (b : Int) (by omega) (by omega) with q | q
    · exact q
    · have := q.1; omega
  have e5 := g.2.2.1 (b : Int) (by omega)
  refine ⟨hC, hk.1, ri_keep h3 hk.2, ⟨h4.1, by omega⟩, ⟨⟨e5.1.trans h5.1, e5.2.trans h5.2⟩, fun j hj => ?_, h7⟩, by omega, by omega⟩
  rw [eb]
  exact h6 j hj
theorem LH.r {b L : Nat} {xs : Nat → Int} {Z W : Nat} {G : zG} {A : Int → Int → Int} {x o : Int} {S T tl : Nat} {tf : Nat → Int} {wl : Nat} {wf : Nat → Int} {S2 T2 tl2 : Nat} {tf2 : Nat → Int} {wl2 : Nat} {wf2 : Nat → Int} {S3 T3 tl3 : Nat} {tf3 : Nat → Int} {wl3 : Nat} {wf3 : Nat → Int} {B : Int → Int → Int} (h : LH b L xs Z W G A x o S T tl tf wl wf S2 T2 tl2 tf2 wl2 wf2) (hR : RI B o S3 T3 tl3 tf3 wl3 wf3 ∧ ∀ a : Int, (a < o ∨ o + 19 < a) → B a = A a) : LH b L xs Z W G B x o S T tl tf wl wf S3 T3 tl3 tf3 wl3 wf3 := by
  obtain ⟨h1, h2, h3, h4, ⟨h5, h6, h7⟩, h8, h9⟩ := h
  have hq := out_CI h1 h2 h4.1 hR.2
  have hx0 := h1.cCK.2.1
  refine ⟨hq.1, h2, hR.1, h4, ⟨h5, fun j hj => ?_, h7⟩, by rw [hq.2.1, hq.2.2]; exact h8, by rw [hq.2.1, hq.2.2]; exact h9⟩
  rw [hR.2 (b : Int) (by omega)]
  exact h6 j hj
