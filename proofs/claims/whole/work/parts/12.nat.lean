/-! ===== numbers: digits, powers of a prime, bits ===== -/
def ndF : Nat → Nat → Nat → Nat
  | 0, _, _ => 0
  | f + 1, b, v => if v = 0 then 0 else ndF f b (v / b) + 1
/-- how many digits to the base b; 0 of 0 -/
def nd (b v : Nat) : Nat := ndF (v.log2 + 1) b v
theorem ndF_enough {b : Nat} (hb : 2 ≤ b) : ∀ (f g v : Nat), v < 2 ^ f → v < 2 ^ g → ndF f b v = ndF g b v := by
  intro f
  induction f with
  | zero =>
    intro g v h1 _
    have : v = 0 := by simpa using h1
    subst this
    cases g <;> simp [ndF]
  | succ f ih =>
    intro g v h1 h2
    cases g with
    | zero =>
      have : v = 0 := by simpa using h2
      subst this
      simp [ndF]
    | succ g =>
      unfold ndF
      by_cases h0 : v = 0
      · rw [if_pos h0, if_pos h0]
      · rw [if_neg h0, if_neg h0]
        have hd : v / b ≤ v / 2 := Nat.div_le_div_left hb (by omega)
        rw [Nat.pow_succ] at h1 h2
        rw [ih g (v / b) (by omega) (by omega)]
theorem nd_0 (b : Nat) : nd b 0 = 0 := rfl
theorem nd_pos {b v : Nat} (hb : 2 ≤ b) (hv : v ≠ 0) : nd b v = nd b (v / b) + 1 := by
  unfold nd
  rw [ndF, if_neg hv]
  congr 1
  have h1 : v < 2 ^ (v.log2 + 1) := Nat.lt_log2_self
  have h2 : v / b < 2 ^ ((v / b).log2 + 1) := Nat.lt_log2_self
  refine ndF_enough hb _ _ _ ?_ h2
  have hd : v / b ≤ v / 2 := Nat.div_le_div_left hb (by omega)
  rw [Nat.pow_succ] at h1
  omega
theorem nd_lt {b : Nat} (hb : 2 ≤ b) : ∀ (n v : Nat), v < b ^ n ↔ nd b v ≤ n := by
  intro n
  induction n with
  | zero =>
    intro v
    by_cases h : v = 0
    · subst h; simp [nd_0]
    · rw [nd_pos hb h]
      simp
      omega
  | succ n ih =>
    intro v
    by_cases h : v = 0
    · subst h
      rw [nd_0]
      exact ⟨fun _ => by omega, fun _ => Nat.pow_pos (by omega)⟩
    · rw [nd_pos hb h, Nat.pow_succ, Nat.succ_le_succ_iff, ← ih (v / b)]
      exact (Nat.div_lt_iff_lt_mul (by omega)).symm
theorem nd_le {b : Nat} (hb : 2 ≤ b) {n v : Nat} (h : v < b ^ n) : nd b v ≤ n := (nd_lt hb n v).mp h
theorem nd_self {b : Nat} (hb : 2 ≤ b) (v : Nat) : v < b ^ nd b v := (nd_lt hb _ v).mpr (Nat.le_refl _)
theorem nd_ge {b : Nat} (hb : 2 ≤ b) {n v : Nat} (h : n < nd b v) : b ^ n ≤ v := by
  rcases Nat.lt_or_ge v (b ^ n) with q | q
  · have := nd_le hb q; omega
  · exact q
theorem nd_eq {b : Nat} (hb : 2 ≤ b) {n v : Nat} (h1 : v < b ^ n) (h2 : n = 0 ∨ b ^ (n - 1) ≤ v) : nd b v = n := by
  have h3 := nd_le hb h1
  rcases h2 with h2 | h2
  · omega
  · rcases Nat.lt_or_ge (nd b v) n with q | q
    · have := nd_self hb v
      have h4 : b ^ nd b v ≤ b ^ (n - 1) := Nat.pow_le_pow_right (by omega) (by omega)
      omega
    · omega
theorem nd_mono {b : Nat} (hb : 2 ≤ b) {v w : Nat} (h : v ≤ w) : nd b v ≤ nd b w := nd_le hb (Nat.lt_of_le_of_lt h (nd_self hb w))
theorem nd_pos_iff {b : Nat} (hb : 2 ≤ b) {v : Nat} : 0 < nd b v ↔ v ≠ 0 := by
  constructor
  · intro h e; subst e; rw [nd_0] at h; omega
  · intro h; rw [nd_pos hb h]; omega
/-- how long a number is written: 1 of 0 -/
def dl (v : Nat) : Nat := nd 10 (v / 10) + 1
theorem dl_pos {v : Nat} (h : v ≠ 0) : dl v = nd 10 v := (nd_pos (by omega) h).symm
theorem dl_0 : dl 0 = 1 := rfl
/-- digit k to the base b -/
def dg (b v k : Nat) : Nat := v / b ^ k % b
theorem dg_lt {b : Nat} (hb : 0 < b) (v k : Nat) : dg b v k < b := Nat.mod_lt _ hb
theorem dg_big {b v k : Nat} (hb : 2 ≤ b) (h : nd b v ≤ k) : dg b v k = 0 := by
  unfold dg
  rw [Nat.div_eq_of_lt ((nd_lt hb k v).mpr h)]
  exact Nat.zero_mod _
theorem dg_top {b v : Nat} (hb : 2 ≤ b) (hv : v ≠ 0) : dg b v (nd b v - 1) = v / b ^ (nd b v - 1) ∧ 0 < v / b ^ (nd b v - 1) := by
  have h1 : 0 < nd b v := (nd_pos_iff hb).mpr hv
  have h2 : b ^ (nd b v - 1) ≤ v := nd_ge hb (by omega)
  have h3 := nd_self hb v
  have hp : 0 < b ^ (nd b v - 1) := Nat.pow_pos (by omega)
  have e : b ^ nd b v = b ^ (nd b v - 1) * b := by rw [← Nat.pow_succ]; congr 1; omega
  refine ⟨Nat.mod_eq_of_lt ?_, Nat.div_pos h2 hp⟩
  rw [Nat.div_lt_iff_lt_mul hp, Nat.mul_comm, ← e]
  exact h3
theorem mod_step (b v k : Nat) : v % b ^ (k + 1) = v % b ^ k + b ^ k * dg b v k := Nat.mod_pow_succ
theorem div_step (b v k : Nat) : v / b ^ k = dg b v k + b * (v / b ^ (k + 1)) := by
  unfold dg
  rw [Nat.pow_succ, ← Nat.div_div_eq_div_mul, Nat.mod_add_div]
/-! the power of p in n -/
def vpF : Nat → Nat → Nat → Nat
  | 0, _, _ => 0
  | f + 1, p, n => if n % p = 0 then vpF f p (n / p) + 1 else 0
def vp (p n : Nat) : Nat := vpF (n.log2 + 1) p n
theorem vpF_enough {p : Nat} (hp : 2 ≤ p) : ∀ (f g n : Nat), 0 < n → n < 2 ^ f → n < 2 ^ g → vpF f p n = vpF g p n := by
  intro f
  induction f with
  | zero => intro g n h0 h1; simp at h1; omega
  | succ f ih =>
    intro g n h0 h1 h2
    cases g with
    | zero => simp at h2; omega
    | succ g =>
      unfold vpF
      by_cases h : n % p = 0
      · rw [if_pos h, if_pos h]
        have hd : n / p ≤ n / 2 := Nat.div_le_div_left hp (by omega)
        have h3 : 0 < n / p := Nat.div_pos (Nat.le_of_dvd h0 (Nat.dvd_of_mod_eq_zero h)) (by omega)
        rw [Nat.pow_succ] at h1 h2
        rw [ih g (n / p) h3 (by omega) (by omega)]
      · rw [if_neg h, if_neg h]
theorem vp_step {p n : Nat} (hp : 2 ≤ p) (hn : 0 < n) (h : n % p = 0) : vp p n = vp p (n / p) + 1 ∧ 0 < n / p ∧ n / p < n := by
  have h3 : 0 < n / p := Nat.div_pos (Nat.le_of_dvd hn (Nat.dvd_of_mod_eq_zero h)) (by omega)
  have hd : n / p ≤ n / 2 := Nat.div_le_div_left hp (by omega)
  refine ⟨?_, h3, by omega⟩
  unfold vp
  rw [vpF, if_pos h]
  congr 1
  have h1 : n < 2 ^ (n.log2 + 1) := Nat.lt_log2_self
  rw [Nat.pow_succ] at h1
  exact vpF_enough hp _ _ _ h3 (by omega) Nat.lt_log2_self
theorem vp_end {p n : Nat} (h : ¬ n % p = 0) : vp p n = 0 := by
  unfold vp
  rw [vpF, if_neg h]
/-! how many bits of a small number -/
def popF : Nat → Nat → Nat
  | 0, _ => 0
  | f + 1, n => if n = 0 then 0 else popF f (n &&& (n - 1)) + 1
def pop (n : Nat) : Nat := popF 10 n
theorem pop_step : ∀ n, n < 512 → n ≠ 0 → pop n = pop (n &&& (n - 1)) + 1 ∧ n &&& (n - 1) < n := by decide +kernel
theorem pop_le : ∀ n, n < 512 → pop n ≤ 9 := by decide +kernel
/-! ints out of naturals -/
theorem zi_ofNat (n : Nat) : Int32.ofInt (n : Int) = Int32.ofNat n := Int32.ofInt_eq_ofNat
theorem zand_nat {a b : Nat} (ha : a < 2 ^ 31) (hb : b < 2 ^ 31) : zand (a : Int) (b : Int) = ((a &&& b : Nat) : Int) := by
  unfold zand
  rw [zi_ofNat, zi_ofNat]
  have e : Int32.ofNat a &&& Int32.ofNat b = Int32.ofNat (a &&& b) := by
    apply Int32.toBitVec.inj
    simp [Int32.toBitVec_and]
  rw [e, ← zi_ofNat, zR.toInt]
  have := Nat.and_le_left (n := a) (m := b)
  unfold zR
  omega
theorem zor_nat {a b : Nat} (ha : a < 2 ^ 31) (hb : b < 2 ^ 31) : zor (a : Int) (b : Int) = ((a ||| b : Nat) : Int) := by
  unfold zor
  rw [zi_ofNat, zi_ofNat]
  have e : Int32.ofNat a ||| Int32.ofNat b = Int32.ofNat (a ||| b) := by
    apply Int32.toBitVec.inj
    simp [Int32.toBitVec_or]
  rw [e, ← zi_ofNat, zR.toInt]
  have := Nat.or_lt_two_pow ha hb
  unfold zR
  omega
theorem z_sl : ∀ n, n < 32 → ((nI n &&& 31).toBitVec.smod 32).toNat = n := by decide +kernel
theorem zshr_nat {a k : Nat} (ha : a < 2 ^ 31) (hk : k < 32) : zshr (a : Int) (k : Int) = ((a / 2 ^ k : Nat) : Int) := by
  unfold zshr
  rw [zi_ofNat, zi_ofNat]
  have h1 : Int32.ofNat a >>> (Int32.ofNat k &&& 31) = nI (a / 2 ^ k) := pk_shrN ha (nI k &&& 31) k (z_sl k hk)
  have h2 : a / 2 ^ k ≤ a := Nat.div_le_self _ _
  rw [h1, nI_toInt (by omega)]
theorem zshl_nat {a k : Nat} (hk : k < 32) (h : a * 2 ^ k < 2 ^ 31) : zshl (a : Int) (k : Int) = ((a * 2 ^ k : Nat) : Int) := by
  unfold zshl
  rw [zi_ofNat, zi_ofNat]
  have h1 : Int32.ofNat a <<< (Int32.ofNat k &&& 31) = nI (a * 2 ^ k) := pk_shlN (nI k &&& 31) k (z_sl k hk) (by omega)
  rw [h1, nI_toInt h]
theorem zbit {S k : Nat} (hS : S < 2 ^ 31) (hk : k < 32) : zand (zshr (S : Int) (k : Int)) 1 = ((S / 2 ^ k % 2 : Nat) : Int) := by
  rw [zshr_nat hS hk]
  have h2 : S / 2 ^ k ≤ S := Nat.div_le_self _ _
  have := zand_nat (a := S / 2 ^ k) (b := 1) (by omega) (by omega)
  rw [Nat.and_one_is_mod] at this
  exact this
theorem tbit {S k : Nat} : S.testBit k = true ↔ S / 2 ^ k % 2 = 1 := by
  rw [Nat.testBit_eq_decide_div_mod_eq, decide_eq_true_iff]
