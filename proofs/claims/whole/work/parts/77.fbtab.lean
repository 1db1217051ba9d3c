def vfB (r : UInt32) : Bool := decide (r &&& 0x7fffffff ≤ 0x7f800000)
theorem vfB_ok {r : UInt32} (h : vfB r = true) : vf_n32 r := by
  have h1 : r &&& 0x7fffffff ≤ 0x7f800000 := of_decide_eq_true h
  exact h1
def fbR (u : UInt32) : UInt32 := FP.fmul (FP.fsub u 1065353216) 1258291200
def fbOk : Nat → UInt32 → Nat → Int → Bool
  | 0, _, _, _ => false
  | f + 1, u, j, w => if (Op.cmpValue (FP.fcmp u 1073741824) .l).toInt < 0 then vfB (FP.fsub u 1065353216) && vfB (fbR u) && decide (zor (zshl (127 + (j : Int)) 23) (FP.f2i (fbR u)).toInt = w) else decide (j < 126) && vfB (FP.fdiv u 1073741824) && fbOk f (FP.fdiv u 1073741824) (j + 1) w
def fbT (l : List pT) : Bool := l.length == 0 || fbOk 10 (FP.fdiv (FP.i2f (Int32.ofInt (mlL 0 l : Int))) (FP.i2f (Int32.ofInt (l.length : Int)))) 0 (fI (FP.fdiv (FP.i2f (Int32.ofInt (mlL 0 l : Int))) (FP.i2f (Int32.ofInt (l.length : Int)))))
theorem fb_tab : ∀ S, S < 128 → pop S ≤ 5 → fbT (prs S) = true := by decide +kernel
theorem fb_ok {S : Nat} (hS : S < 128) (hp : pop S ≤ 5) (h0 : (prs S).length ≠ 0) : fbOk 10 (mlU S) 0 (fI (mlU S)) = true := by
  have h := fb_tab S hS hp
  unfold fbT at h
  rw [Bool.or_eq_true] at h
  rcases h with h | h
  · exact absurd (beq_iff_eq.mp h) h0
  · have e : mlL 0 (prs S) = mlN S := (mlL_eq (prs S) 0).trans (Nat.zero_add _)
    rw [e] at h
    exact h
