theorem vp_1000 {p n : Nat} (h : n < 2 ^ 999) : vp p n ≤ 1000 := by
  have h1 := vp_le p n
  rcases Nat.eq_zero_or_pos n with q | q
  · subst q
    have h2 : Nat.log2 0 = 0 := by decide
    omega
  · have h2 := (Nat.log2_lt (by omega)).mpr h
    omega
theorem w_tell {d : Nat} {G : zG} {A : Int → Int → Int} {P : Option zV → zG → Prop} {p : Int} (hK : wK G p) {ap : Nat} (hO : wO A p ap) (hL : lG G A) (hap : ap ≤ 2) (hpz : p + 12 < (gz G : Int)) {u : Int} (hu : uK G u) (huz : u + 8 < (gz G : Int)) (hup : p + 12 < u) (hgl : gl G < p ∨ p + 12 < gl G) (h6 : A u 6 = u + 5) (h7 : A u 7 = u + 6) (h9u : A u 9 = u + 8) {i1 v w1 : Nat} (hi : i1 < 10) (hw : bN A (p + 3) w1) (hw1 : 1 ≤ w1) (n9w : nd 1000000000 w1 ≤ 32) (hv : v = if ap = 1 then (w1 - 1) / 2 else w1 - 1) (hv1 : 1 ≤ v) (n9v : nd 1000000000 (v + ap) ≤ 32) (h2 : v + ap < 2 ^ 999)
    (k1 : (smF 127 v 7 = 1 ∧ smF 127 (v + ap) 7 = 1) → ∀ c : Int, c = (gz G : Int) → ∀ G2 A2, cP G2 A2 c v i1 ap → (∀ a : Int, a < (gz G : Int) → (a < p + 7 ∨ p + 12 < a) → A2 a = A a) → wO A2 p ap → gR G G2 5 (22 + nd 1000000000 v) → P none (gw G2 (up2 (up2 (up2 (A2) (u + 5) (i1 : Int) (dl w1 : Int)) (u + 6) (i1 : Int) ((mb v ||| mb (v + ap) : Nat) : Int)) (u + 8) (i1 : Int) (c))))
    (k0 : ¬ (smF 127 v 7 = 1 ∧ smF 127 (v + ap) 7 = 1) → ∀ A2, (∀ a : Int, a < (gz G : Int) → (a < p + 7 ∨ p + 12 < a) → A2 a = A a) → wO A2 p ap → P none (gw G (up2 (up2 (up2 (A2) (u + 5) (i1 : Int) (dl w1 : Int)) (u + 6) (i1 : Int) ((mb v ||| mb (v + ap) : Nat) : Int)) (u + 8) (i1 : Int) (-1)))) : ZE (d + 4) M_Pow_tell (gw G A) 0 [(2, p), (2, u), (0, (i1 : Int)), (9, 0), (9, 0)] [] P := by
  have hp0 := hK.2.1
  have nv : nd 1000000000 v ≤ 32 := Nat.le_trans (nd_mono' (by omega)) n9v
  have hb : ∀ k, k < 7 → vp (sev k) v ≤ 1000 ∧ vp (sev k) (v + ap) ≤ 1000 := fun k _ => ⟨vp_1000 (by omega), vp_1000 h2⟩
  refine w_tellA (d := d + 1) hK hO hw hw1 n9w hap (fun B1 g1 o1 m1 => ?_)
  rw [← hv] at m1
  have hL1 : lG G B1 := ⟨hL.1, hL.2.1, fun q => (congrFun (g1 (gl G) (by omega) (by omega)) _).trans (hL.2.2 q)⟩
  refine w_tellB hK o1 hL1 m1 hv1 nv (fun k hk => (hb k hk).1) hgl (fun B2 b1 g2 o2 m2 l2 r2 e2 => ?_)
  have hL2 : lG G B2 := ⟨hL.1, hL.2.1, fun q => (congrFun (g2 (gl G) (by omega) (by omega) (by omega)) _).trans (hL1.2.2 q)⟩
  refine w_tellC hK o2 hL2 l2 ⟨_, m2⟩ hv1 hap nv n9v (fun k hk => (hb k hk).2) hgl e2 (fun B3 b2 g3 o3 l3 r3 e3 => ?_)
  have hfr : ∀ a : Int, (a < p + 7 ∨ p + 12 < a) → B3 a = A a := fun a ha => (g3 a (by omega) (by omega) (by omega)).trans ((g2 a (by omega) (by omega) (by omega)).trans (g1 a (by omega) (by omega)))
  have eu := hfr u (by omega)
  refine w_tellD hK o3 hpz hu huz ((congrFun eu 6).trans h6) ((congrFun eu 7).trans h7) ((congrFun eu 9).trans h9u) hi (hw.ab (fun a ha => hfr a (by omega))) n9w l3 hv1 nv hb (fun k hk => (congrFun (g3 (p + 11) (by omega) (by omega) (by omega)) _).trans (r2 k hk)) r3 e3 ?_ ?_
  · intro hs c hc G2 A2 hcP hA2 hg
    refine k1 hs c hc G2 A2 hcP (fun a ha h => (hA2 a (by omega)).trans (hfr a h)) (o3.ab (fun a h1 h2 => hA2 a (by omega))) ?_
    rw [show 22 + nd 1000000000 v = 6 + (16 + nd 1000000000 v) by omega]
    exact hg
  · intro hs
    exact k0 hs B3 (fun a _ h => hfr a h) o3
