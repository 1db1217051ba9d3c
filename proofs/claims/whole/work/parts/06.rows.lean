/-! ===== rows: an instruction each ===== -/
def zR (z : Int) : Prop := -2147483648 ≤ z ∧ z ≤ 2147483647
def zR64 (z : Int) : Prop := -9223372036854775808 ≤ z ∧ z ≤ 9223372036854775807
def zi (z : Int) : Int32 := Int32.ofInt z
def zj (z : Int) : Int64 := Int64.ofInt z
theorem zR.toInt {z : Int} (h : zR z) : (Int32.ofInt z).toInt = z := Int32.toInt_ofInt_of_le (by have := h.1; omega) (by have := h.2; omega)
theorem zR64.toInt {z : Int} (h : zR64 z) : (Int64.ofInt z).toInt = z := Int64.toInt_ofInt_of_le (by have := h.1; omega) (by have := h.2; omega)
theorem zi_lt {x y : Int} (hx : zR x) (hy : zR y) : Int32.ofInt x < Int32.ofInt y ↔ x < y := by rw [Int32.lt_iff_toInt_lt, hx.toInt, hy.toInt]
theorem zi_le {x y : Int} (hx : zR x) (hy : zR y) : Int32.ofInt x ≤ Int32.ofInt y ↔ x ≤ y := by rw [Int32.le_iff_toInt_le, hx.toInt, hy.toInt]
theorem zi_eq {x y : Int} (hx : zR x) (hy : zR y) : Int32.ofInt x = Int32.ofInt y ↔ x = y := by rw [← Int32.toInt_inj, hx.toInt, hy.toInt]
theorem zR0 : zR 0 := by unfold zR; omega
theorem zi0 : Int32.ofInt 0 = 0 := rfl
theorem zj_lt {x y : Int} (hx : zR64 x) (hy : zR64 y) : Int64.ofInt x < Int64.ofInt y ↔ x < y := by rw [Int64.lt_iff_toInt_lt, hx.toInt, hy.toInt]
theorem zj_eq {x y : Int} (hx : zR64 x) (hy : zR64 y) : Int64.ofInt x = Int64.ofInt y ↔ x = y := by rw [← Int64.toInt_inj, hx.toInt, hy.toInt]
theorem zi_div {x y : Int} (hx : zR x) (hy : zR y) : Int32.ofInt x / Int32.ofInt y = Int32.ofInt (x.tdiv y) := by
  rw [← Int32.toInt_inj, Int32.toInt_div, hx.toInt, hy.toInt, Int32.toInt_ofInt]
theorem zj_div {x y : Int} (hx : zR64 x) (hy : zR64 y) : Int64.ofInt x / Int64.ofInt y = Int64.ofInt (x.tdiv y) := by
  rw [← Int64.toInt_inj, Int64.toInt_div, hx.toInt, hy.toInt, Int64.toInt_ofInt]
theorem zi_rem {x y : Int} (hx : zR x) (hy : zR y) : Int32.ofInt x - Int32.ofInt x / Int32.ofInt y * Int32.ofInt y = Int32.ofInt (x.tmod y) := by
  rw [zi_div hx hy, ← Int32.ofInt_mul, ← Int32.ofInt_sub]
  congr 1
  have := Int.mul_tdiv_add_tmod x y
  rw [Int.mul_comm] at this
  omega
theorem zj_rem {x y : Int} (hx : zR64 x) (hy : zR64 y) : Int64.ofInt x - Int64.ofInt x / Int64.ofInt y * Int64.ofInt y = Int64.ofInt (x.tmod y) := by
  rw [zj_div hx hy, ← Int64.ofInt_mul, ← Int64.ofInt_sub]
  congr 1
  have := Int.mul_tdiv_add_tmod x y
  rw [Int.mul_comm] at this
  omega
def zand (x y : Int) : Int := (Int32.ofInt x &&& Int32.ofInt y).toInt
def zor (x y : Int) : Int := (Int32.ofInt x ||| Int32.ofInt y).toInt
def zxor (x y : Int) : Int := (Int32.ofInt x ^^^ Int32.ofInt y).toInt
def zshl (x y : Int) : Int := (Int32.ofInt x <<< (Int32.ofInt y &&& 31)).toInt
def zshr (x y : Int) : Int := (Int32.ofInt x >>> (Int32.ofInt y &&& 31)).toInt
def zushr (x y : Int) : Int := (((Int32.ofInt x).toUInt32 >>> ((Int32.ofInt y).toUInt32 &&& Int32.toUInt32 31)).toInt32).toInt
def zlor (x y : Int) : Int := (Int64.ofInt x ||| Int64.ofInt y).toInt
def zlxor (x y : Int) : Int := (Int64.ofInt x ^^^ Int64.ofInt y).toInt
def zlshl (x y : Int) : Int := (Int64.ofInt x <<< ((Int32.ofInt y).toInt64 &&& 63)).toInt
def zlshr (x y : Int) : Int := (Int64.ofInt x >>> ((Int32.ofInt y).toInt64 &&& 63)).toInt
def z8 (x : Int) : Int := (Int8.ofInt x).toInt
def zcmp (x y : Int) : Int := if y < x then 1 else if x = y then 0 else -1
section ZROWS
variable {d : Nat} {M : zM} {G : zG} {pc : Nat} {ls st : List zV} {P : Option zV → zG → Prop}

theorem ZE.iadd {x y : Int} (hd : decode M.2.1 pc = .ok (.iadd, 1)) (k : ZE d M G (pc + 1) ls ((0, x + y) :: st) P) : ZE d M G pc ls ((0, y) :: (0, x) :: st) P := by
  refine ZE.pure k (fun D p l e R s m args below meth c H locs cells slots Q la hx hb hC hH hla kk => ?_)
  refine lv_iadd hx hb hd ?_
  rw [← Int32.ofInt_add]
  exact kk
theorem ZE.isub {x y : Int} (hd : decode M.2.1 pc = .ok (.isub, 1)) (k : ZE d M G (pc + 1) ls ((0, x - y) :: st) P) : ZE d M G pc ls ((0, y) :: (0, x) :: st) P := by
  refine ZE.pure k (fun D p l e R s m args below meth c H locs cells slots Q la hx hb hC hH hla kk => ?_)
  refine lv_isub hx hb hd ?_
  rw [← Int32.ofInt_sub]
  exact kk
theorem ZE.imul {x y : Int} (hd : decode M.2.1 pc = .ok (.imul, 1)) (k : ZE d M G (pc + 1) ls ((0, x * y) :: st) P) : ZE d M G pc ls ((0, y) :: (0, x) :: st) P := by
  refine ZE.pure k (fun D p l e R s m args below meth c H locs cells slots Q la hx hb hC hH hla kk => ?_)
  refine lv_imul hx hb hd ?_
  rw [← Int32.ofInt_mul]
  exact kk
theorem ZE.iand {x y : Int} (hd : decode M.2.1 pc = .ok (.iand, 1)) (k : ZE d M G (pc + 1) ls ((0, zand x y) :: st) P) : ZE d M G pc ls ((0, y) :: (0, x) :: st) P := by
  refine ZE.pure k (fun D p l e R s m args below meth c H locs cells slots Q la hx hb hC hH hla kk => ?_)
  refine lv_iand hx hb hd ?_
  have e : zcv (0, zand x y) = _ := congrArg Value.int (Int32.ofInt_toInt _)
  rw [List.map_cons, e] at kk
  exact kk
theorem ZE.ior {x y : Int} (hd : decode M.2.1 pc = .ok (.ior, 1)) (k : ZE d M G (pc + 1) ls ((0, zor x y) :: st) P) : ZE d M G pc ls ((0, y) :: (0, x) :: st) P := by
  refine ZE.pure k (fun D p l e R s m args below meth c H locs cells slots Q la hx hb hC hH hla kk => ?_)
  refine lv_ior hx hb hd ?_
  have e : zcv (0, zor x y) = _ := congrArg Value.int (Int32.ofInt_toInt _)
  rw [List.map_cons, e] at kk
  exact kk
theorem ZE.ixor {x y : Int} (hd : decode M.2.1 pc = .ok (.ixor, 1)) (k : ZE d M G (pc + 1) ls ((0, zxor x y) :: st) P) : ZE d M G pc ls ((0, y) :: (0, x) :: st) P := by
  refine ZE.pure k (fun D p l e R s m args below meth c H locs cells slots Q la hx hb hC hH hla kk => ?_)
  refine lv_ixor hx hb hd ?_
  have e : zcv (0, zxor x y) = _ := congrArg Value.int (Int32.ofInt_toInt _)
  rw [List.map_cons, e] at kk
  exact kk
theorem ZE.ishl {x y : Int} (hd : decode M.2.1 pc = .ok (.ishl, 1)) (k : ZE d M G (pc + 1) ls ((0, zshl x y) :: st) P) : ZE d M G pc ls ((0, y) :: (0, x) :: st) P := by
  refine ZE.pure k (fun D p l e R s m args below meth c H locs cells slots Q la hx hb hC hH hla kk => ?_)
  refine lv_ishl hx hb hd ?_
  have e : zcv (0, zshl x y) = _ := congrArg Value.int (Int32.ofInt_toInt _)
  rw [List.map_cons, e] at kk
  exact kk
theorem ZE.ishr {x y : Int} (hd : decode M.2.1 pc = .ok (.ishr, 1)) (k : ZE d M G (pc + 1) ls ((0, zshr x y) :: st) P) : ZE d M G pc ls ((0, y) :: (0, x) :: st) P := by
  refine ZE.pure k (fun D p l e R s m args below meth c H locs cells slots Q la hx hb hC hH hla kk => ?_)
  refine lv_ishr hx hb hd ?_
  have e : zcv (0, zshr x y) = _ := congrArg Value.int (Int32.ofInt_toInt _)
  rw [List.map_cons, e] at kk
  exact kk
theorem ZE.iushr {x y : Int} (hd : decode M.2.1 pc = .ok (.iushr, 1)) (k : ZE d M G (pc + 1) ls ((0, zushr x y) :: st) P) : ZE d M G pc ls ((0, y) :: (0, x) :: st) P := by
  refine ZE.pure k (fun D p l e R s m args below meth c H locs cells slots Q la hx hb hC hH hla kk => ?_)
  refine lv_iushr hx hb hd rfl ?_
  have e : zcv (0, zushr x y) = _ := congrArg Value.int (Int32.ofInt_toInt _)
  rw [List.map_cons, e] at kk
  exact kk
theorem ZE.lor {x y : Int} (hd : decode M.2.1 pc = .ok (.lor, 1)) (k : ZE d M G (pc + 1) ls ((1, zlor x y) :: st) P) : ZE d M G pc ls ((1, y) :: (1, x) :: st) P := by
  refine ZE.pure k (fun D p l e R s m args below meth c H locs cells slots Q la hx hb hC hH hla kk => ?_)
  refine lv_lor hx hb hd ?_
  have e : zcv (1, zlor x y) = _ := congrArg Value.long (Int64.ofInt_toInt _)
  rw [List.map_cons, e] at kk
  exact kk
theorem ZE.lxor {x y : Int} (hd : decode M.2.1 pc = .ok (.lxor, 1)) (k : ZE d M G (pc + 1) ls ((1, zlxor x y) :: st) P) : ZE d M G pc ls ((1, y) :: (1, x) :: st) P := by
  refine ZE.pure k (fun D p l e R s m args below meth c H locs cells slots Q la hx hb hC hH hla kk => ?_)
  refine lv_lxor hx hb hd ?_
  have e : zcv (1, zlxor x y) = _ := congrArg Value.long (Int64.ofInt_toInt _)
  rw [List.map_cons, e] at kk
  exact kk
theorem ZE.lshl {x y : Int} (hd : decode M.2.1 pc = .ok (.lshl, 1)) (k : ZE d M G (pc + 1) ls ((1, zlshl x y) :: st) P) : ZE d M G pc ls ((0, y) :: (1, x) :: st) P := by
  refine ZE.pure k (fun D p l e R s m args below meth c H locs cells slots Q la hx hb hC hH hla kk => ?_)
  refine lv_lshl hx hb hd rfl ?_
  have e : zcv (1, zlshl x y) = _ := congrArg Value.long (Int64.ofInt_toInt _)
  rw [List.map_cons, e] at kk
  exact kk
theorem ZE.lshr {x y : Int} (hd : decode M.2.1 pc = .ok (.lshr, 1)) (k : ZE d M G (pc + 1) ls ((1, zlshr x y) :: st) P) : ZE d M G pc ls ((0, y) :: (1, x) :: st) P := by
  refine ZE.pure k (fun D p l e R s m args below meth c H locs cells slots Q la hx hb hC hH hla kk => ?_)
  refine lv_lshr hx hb hd rfl ?_
  have e : zcv (1, zlshr x y) = _ := congrArg Value.long (Int64.ofInt_toInt _)
  rw [List.map_cons, e] at kk
  exact kk
theorem ZE.ladd {x y : Int} (hd : decode M.2.1 pc = .ok (.ladd, 1)) (k : ZE d M G (pc + 1) ls ((1, x + y) :: st) P) : ZE d M G pc ls ((1, y) :: (1, x) :: st) P := by
  refine ZE.pure k (fun D p l e R s m args below meth c H locs cells slots Q la hx hb hC hH hla kk => ?_)
  refine lv_ladd hx hb hd ?_
  rw [← Int64.ofInt_add]
  exact kk
theorem ZE.lsub {x y : Int} (hd : decode M.2.1 pc = .ok (.lsub, 1)) (k : ZE d M G (pc + 1) ls ((1, x - y) :: st) P) : ZE d M G pc ls ((1, y) :: (1, x) :: st) P := by
  refine ZE.pure k (fun D p l e R s m args below meth c H locs cells slots Q la hx hb hC hH hla kk => ?_)
  refine lv_lsub hx hb hd ?_
  rw [← Int64.ofInt_sub]
  exact kk
theorem ZE.lmul {x y : Int} (hd : decode M.2.1 pc = .ok (.lmul, 1)) (k : ZE d M G (pc + 1) ls ((1, x * y) :: st) P) : ZE d M G pc ls ((1, y) :: (1, x) :: st) P := by
  refine ZE.pure k (fun D p l e R s m args below meth c H locs cells slots Q la hx hb hC hH hla kk => ?_)
  refine lv_lmul hx hb hd ?_
  rw [← Int64.ofInt_mul]
  exact kk
theorem ZE.ineg {x : Int} (hd : decode M.2.1 pc = .ok (.ineg, 1)) (k : ZE d M G (pc + 1) ls ((0, -x) :: st) P) : ZE d M G pc ls ((0, x) :: st) P := by
  refine ZE.pure k (fun D p l e R s m args below meth c H locs cells slots Q la hx hb hC hH hla kk => ?_)
  refine lv_ineg hx hb hd ?_
  rw [← Int32.ofInt_neg]
  exact kk
theorem ZE.idiv {x y : Int} (hd : decode M.2.1 pc = .ok (.idiv, 1)) (hx0 : zR x) (hy0 : zR y) (h0 : ¬ y = 0) (k : ZE d M G (pc + 1) ls ((0, x.tdiv y) :: st) P) : ZE d M G pc ls ((0, y) :: (0, x) :: st) P := by
  refine ZE.pure k (fun D p l e R s m args below meth c H locs cells slots Q la hx hb hC hH hla kk => ?_)
  refine lv_idiv hx hb hd (fun h => h0 ((zi_eq hy0 (by unfold zR; omega)).mp h)) ?_
  rw [zi_div hx0 hy0]
  exact kk
theorem ZE.idivP {x y : Int} (hd : decode M.2.1 pc = .ok (.idiv, 1)) (h : 0 ≤ x ∧ x ≤ 2147483647 ∧ 0 < y ∧ y ≤ 2147483647) (k : ZE d M G (pc + 1) ls ((0, x / y) :: st) P) : ZE d M G pc ls ((0, y) :: (0, x) :: st) P := by
  refine ZE.idiv hd (by unfold zR; omega) (by unfold zR; omega) (by omega) ?_
  rw [Int.tdiv_eq_ediv_of_nonneg h.1]
  exact k
theorem ZE.irem {x y : Int} (hd : decode M.2.1 pc = .ok (.irem, 1)) (hx0 : zR x) (hy0 : zR y) (h0 : ¬ y = 0) (k : ZE d M G (pc + 1) ls ((0, x.tmod y) :: st) P) : ZE d M G pc ls ((0, y) :: (0, x) :: st) P := by
  refine ZE.pure k (fun D p l e R s m args below meth c H locs cells slots Q la hx hb hC hH hla kk => ?_)
  refine lv_irem hx hb hd (fun h => h0 ((zi_eq hy0 (by unfold zR; omega)).mp h)) ?_
  rw [zi_rem hx0 hy0]
  exact kk
theorem ZE.iremP {x y : Int} (hd : decode M.2.1 pc = .ok (.irem, 1)) (h : 0 ≤ x ∧ x ≤ 2147483647 ∧ 0 < y ∧ y ≤ 2147483647) (k : ZE d M G (pc + 1) ls ((0, x % y) :: st) P) : ZE d M G pc ls ((0, y) :: (0, x) :: st) P := by
  refine ZE.irem hd (by unfold zR; omega) (by unfold zR; omega) (by omega) ?_
  rw [Int.tmod_eq_emod_of_nonneg h.1]
  exact k
theorem ZE.ldiv {x y : Int} (hd : decode M.2.1 pc = .ok (.ldiv, 1)) (hx0 : zR64 x) (hy0 : zR64 y) (h0 : ¬ y = 0) (k : ZE d M G (pc + 1) ls ((1, x.tdiv y) :: st) P) : ZE d M G pc ls ((1, y) :: (1, x) :: st) P := by
  refine ZE.pure k (fun D p l e R s m args below meth c H locs cells slots Q la hx hb hC hH hla kk => ?_)
  refine lv_ldiv hx hb hd (fun h => h0 ((zj_eq hy0 (by unfold zR64; omega)).mp h)) ?_
  rw [zj_div hx0 hy0]
  exact kk
theorem ZE.ldivP {x y : Int} (hd : decode M.2.1 pc = .ok (.ldiv, 1)) (h : 0 ≤ x ∧ x ≤ 9223372036854775807 ∧ 0 < y ∧ y ≤ 9223372036854775807) (k : ZE d M G (pc + 1) ls ((1, x / y) :: st) P) : ZE d M G pc ls ((1, y) :: (1, x) :: st) P := by
  refine ZE.ldiv hd (by unfold zR64; omega) (by unfold zR64; omega) (by omega) ?_
  rw [Int.tdiv_eq_ediv_of_nonneg h.1]
  exact k
theorem ZE.lrem {x y : Int} (hd : decode M.2.1 pc = .ok (.lrem, 1)) (hx0 : zR64 x) (hy0 : zR64 y) (h0 : ¬ y = 0) (k : ZE d M G (pc + 1) ls ((1, x.tmod y) :: st) P) : ZE d M G pc ls ((1, y) :: (1, x) :: st) P := by
  refine ZE.pure k (fun D p l e R s m args below meth c H locs cells slots Q la hx hb hC hH hla kk => ?_)
  refine lv_lrem hx hb hd (fun h => h0 ((zj_eq hy0 (by unfold zR64; omega)).mp h)) ?_
  rw [zj_rem hx0 hy0]
  exact kk
theorem ZE.lremP {x y : Int} (hd : decode M.2.1 pc = .ok (.lrem, 1)) (h : 0 ≤ x ∧ x ≤ 9223372036854775807 ∧ 0 < y ∧ y ≤ 9223372036854775807) (k : ZE d M G (pc + 1) ls ((1, x % y) :: st) P) : ZE d M G pc ls ((1, y) :: (1, x) :: st) P := by
  refine ZE.lrem hd (by unfold zR64; omega) (by unfold zR64; omega) (by omega) ?_
  rw [Int.tmod_eq_emod_of_nonneg h.1]
  exact k
theorem ZE.i2l {x : Int} (hd : decode M.2.1 pc = .ok (.i2l, 1)) (h : zR x) (k : ZE d M G (pc + 1) ls ((1, x) :: st) P) : ZE d M G pc ls ((0, x) :: st) P := by
  refine ZE.pure k (fun D p l e R s m args below meth c H locs cells slots Q la hx hb hC hH hla kk => ?_)
  refine lv_i2l hx hb hd (v := Int64.ofInt x) ?_ kk
  rw [← Int64.toInt_inj, Int32.toInt_toInt64, h.toInt, zR64.toInt (by unfold zR at h; unfold zR64; omega)]
theorem ZE.l2i {x : Int} (hd : decode M.2.1 pc = .ok (.l2i, 1)) (k : ZE d M G (pc + 1) ls ((0, x) :: st) P) : ZE d M G pc ls ((1, x) :: st) P := by
  refine ZE.pure k (fun D p l e R s m args below meth c H locs cells slots Q la hx hb hC hH hla kk => ?_)
  exact lv_l2i hx hb hd Int64.toInt32_ofInt kk
theorem ZE.i2b {x : Int} (hd : decode M.2.1 pc = .ok (.i2b, 1)) (k : ZE d M G (pc + 1) ls ((0, z8 x) :: st) P) : ZE d M G pc ls ((0, x) :: st) P := by
  refine ZE.pure k (fun D p l e R s m args below meth c H locs cells slots Q la hx hb hC hH hla kk => ?_)
  refine lv_i2b hx hb hd (v := Int32.ofInt (z8 x)) ?_ kk
  rw [Int32.toInt8_ofInt, ← Int32.toInt_inj, Int8.toInt_toInt32, zR.toInt]
  · rfl
  · have := Int8.le_toInt (Int8.ofInt x); have := Int8.toInt_lt (Int8.ofInt x); unfold zR z8; omega
theorem ZE.lcmp {x y : Int} (hd : decode M.2.1 pc = .ok (.lcmp, 1)) (hx0 : zR64 x) (hy0 : zR64 y) (k : ZE d M G (pc + 1) ls ((0, zcmp x y) :: st) P) : ZE d M G pc ls ((1, y) :: (1, x) :: st) P := by
  refine ZE.pure k (fun D p l e R s m args below meth c H locs cells slots Q la hx hb hC hH hla kk => ?_)
  refine W.lcmp hx hb hd ?_
  have e : lg_cmp (Int64.ofInt x) (Int64.ofInt y) = Int32.ofInt (zcmp x y) := by
    unfold lg_cmp zcmp
    simp only [gt_iff_lt, zj_lt hy0 hx0, zj_eq hx0 hy0]
    split
    · rfl
    · split <;> rfl
  rw [e]
  exact kk
theorem ZE.iconst {n : Int} (hd : decode M.2.1 pc = .ok ((.iconst n), 1)) (k : ZE d M G (pc + 1) ls ((0, n) :: st) P) : ZE d M G pc ls (st) P := by
  refine ZE.pure k (fun D p l e R s m args below meth c H locs cells slots Q la hx hb hC hH hla kk => ?_)
  exact lv_iconst hx hb hd rfl kk
theorem ZE.bipush {n : Int} (hd : decode M.2.1 pc = .ok ((.bipush n), 2)) (hn : (Int8.ofInt n).toInt32 = Int32.ofInt n) (k : ZE d M G (pc + 2) ls ((0, n) :: st) P) : ZE d M G pc ls (st) P := by
  refine ZE.pure k (fun D p l e R s m args below meth c H locs cells slots Q la hx hb hC hH hla kk => ?_)
  exact lv_bipush hx hb hd hn kk
theorem ZE.sipush {n : Int} (hd : decode M.2.1 pc = .ok ((.sipush n), 3)) (hn : (Int16.ofInt n).toInt32 = Int32.ofInt n) (k : ZE d M G (pc + 3) ls ((0, n) :: st) P) : ZE d M G pc ls (st) P := by
  refine ZE.pure k (fun D p l e R s m args below meth c H locs cells slots Q la hx hb hC hH hla kk => ?_)
  exact lv_sipush hx hb hd hn kk
theorem ZE.lconst {n : Fin 2} (hd : decode M.2.1 pc = .ok ((.lconst n), 1)) (k : ZE d M G (pc + 1) ls ((1, ((n : Nat) : Int)) :: st) P) : ZE d M G pc ls (st) P := by
  refine ZE.pure k (fun D p l e R s m args below meth c H locs cells slots Q la hx hb hC hH hla kk => ?_)
  exact lv_lconst hx hb hd (by rcases n with ⟨n, hn⟩; match n, hn with | 0, _ => rfl | 1, _ => rfl) kk
theorem ZE.null (hd : decode M.2.1 pc = .ok (.aconst_null, 1)) (k : ZE d M G (pc + 1) ls ((2, -1) :: st) P) : ZE d M G pc ls (st) P := by
  refine ZE.pure k (fun D p l e R s m args below meth c H locs cells slots Q la hx hb hC hH hla kk => ?_)
  exact lv_null hx hb hd kk
theorem ZE.ldc {idx : Nat} {v : Int} (hd : decode M.2.1 pc = .ok ((.ldc idx), 2)) (hk : Cond.constant M.1.cls idx (Int32.ofInt v) ∈ zWS) (k : ZE d M G (pc + 2) ls ((0, v) :: st) P) : ZE d M G pc ls (st) P := by
  refine ZE.pure k (fun D p l e R s m args below meth c H locs cells slots Q la hx hb hC hH hla kk => ?_)
  exact lv_ldc hx hb hC.2.2.2.1 (hC.2.2.2.2.1 _ hk) hd kk
theorem ZE.ldcw {idx : Nat} {v : Int} (hd : decode M.2.1 pc = .ok ((.ldc_w idx), 3)) (hk : Cond.constant M.1.cls idx (Int32.ofInt v) ∈ zWS) (k : ZE d M G (pc + 3) ls ((0, v) :: st) P) : ZE d M G pc ls (st) P := by
  refine ZE.pure k (fun D p l e R s m args below meth c H locs cells slots Q la hx hb hC hH hla kk => ?_)
  exact lv_ldcw hx hb hC.2.2.2.1 (hC.2.2.2.2.1 _ hk) hd kk
theorem ZE.ldc2 {idx : Nat} {v : Int} (hd : decode M.2.1 pc = .ok ((.ldc2_w idx), 3)) (hk : Cond.constantLong M.1.cls idx (Int64.ofInt v) ∈ zWS) (k : ZE d M G (pc + 3) ls ((1, v) :: st) P) : ZE d M G pc ls (st) P := by
  refine ZE.pure k (fun D p l e R s m args below meth c H locs cells slots Q la hx hb hC hH hla kk => ?_)
  exact lv_ldc2 hx hb hC.2.2.2.1 (hC.2.2.2.2.1 _ hk) hd kk
theorem ZE.ldcf {idx : Nat} {v : Int} (hd : decode M.2.1 pc = .ok ((.ldc idx), 2)) (hk : Cond.constantFloat M.1.cls idx (UInt32.ofNat v.toNat) ∈ zWS) (k : ZE d M G (pc + 2) ls ((3, v) :: st) P) : ZE d M G pc ls (st) P := by
  refine ZE.pure k (fun D p l e R s m args below meth c H locs cells slots Q la hx hb hC hH hla kk => ?_)
  exact lv_ldcf hx hb hC.2.2.2.1 (hC.2.2.2.2.1 _ hk) hd kk
theorem ZE.ldc2d {idx : Nat} {v : Int} (hd : decode M.2.1 pc = .ok ((.ldc2_w idx), 3)) (hk : Cond.constantDouble M.1.cls idx (UInt64.ofNat v.toNat) ∈ zWS) (k : ZE d M G (pc + 3) ls ((4, v) :: st) P) : ZE d M G pc ls (st) P := by
  refine ZE.pure k (fun D p l e R s m args below meth c H locs cells slots Q la hx hb hC hH hla kk => ?_)
  exact lv_ldc2d hx hb hC.2.2.2.1 (hC.2.2.2.2.1 _ hk) hd kk
theorem ZE.iload_n {n : Fin 4} {x : Int} (hd : decode M.2.1 pc = .ok ((.iload_n n), 1)) (hl : ls[(n : Nat)]? = some (0, x)) (k : ZE d M G (pc + 1) ls ((0, x) :: st) P) : ZE d M G pc ls (st) P := by
  refine ZE.pure k (fun D p l e R s m args below meth c H locs cells slots Q la hx hb hC hH hla kk => ?_)
  exact lv_iload_n hx hb hd rfl (hla.at hl (Nat.le_of_ble_eq_true rfl)) kk
theorem ZE.iload {n : Nat} {x : Int} (hd : decode M.2.1 pc = .ok ((.iload n), 2)) (hl : ls[n]? = some (0, x)) (k : ZE d M G (pc + 2) ls ((0, x) :: st) P) : ZE d M G pc ls (st) P := by
  refine ZE.pure k (fun D p l e R s m args below meth c H locs cells slots Q la hx hb hC hH hla kk => ?_)
  exact lv_iload hx hb hd (hla.at hl (Nat.le_of_ble_eq_true rfl)) kk
theorem ZE.lload_n {n : Fin 4} {x : Int} (hd : decode M.2.1 pc = .ok ((.lload_n n), 1)) (hl : ls[(n : Nat)]? = some (1, x)) (k : ZE d M G (pc + 1) ls ((1, x) :: st) P) : ZE d M G pc ls (st) P := by
  refine ZE.pure k (fun D p l e R s m args below meth c H locs cells slots Q la hx hb hC hH hla kk => ?_)
  exact lv_lload_n hx hb hd rfl (hla.at hl (Nat.le_of_ble_eq_true rfl)) kk
theorem ZE.lload {n : Nat} {x : Int} (hd : decode M.2.1 pc = .ok ((.lload n), 2)) (hl : ls[n]? = some (1, x)) (k : ZE d M G (pc + 2) ls ((1, x) :: st) P) : ZE d M G pc ls (st) P := by
  refine ZE.pure k (fun D p l e R s m args below meth c H locs cells slots Q la hx hb hC hH hla kk => ?_)
  exact lv_lload hx hb hd (hla.at hl (Nat.le_of_ble_eq_true rfl)) kk
theorem ZE.aload_n {n : Fin 4} {x : Int} (hd : decode M.2.1 pc = .ok ((.aload_n n), 1)) (hl : ls[(n : Nat)]? = some (2, x)) (k : ZE d M G (pc + 1) ls ((2, x) :: st) P) : ZE d M G pc ls (st) P := by
  refine ZE.pure k (fun D p l e R s m args below meth c H locs cells slots Q la hx hb hC hH hla kk => ?_)
  have h1 := hla.at hl (Nat.le_of_ble_eq_true rfl)
  by_cases h0 : x < 0
  · have e : zcv (2, x) = .null := if_pos h0
    rw [List.map_cons, e] at kk
    rw [e] at h1
    exact lv_aload_nN hx hb hd rfl h1 kk
  · have e : zcv (2, x) = .ref x.toNat := if_neg h0
    rw [List.map_cons, e] at kk
    rw [e] at h1
    exact lv_aload_n hx hb hd rfl h1 kk
theorem ZE.aload {n : Nat} {x : Int} (hd : decode M.2.1 pc = .ok ((.aload n), 2)) (hl : ls[n]? = some (2, x)) (k : ZE d M G (pc + 2) ls ((2, x) :: st) P) : ZE d M G pc ls (st) P := by
  refine ZE.pure k (fun D p l e R s m args below meth c H locs cells slots Q la hx hb hC hH hla kk => ?_)
  have h1 := hla.at hl (Nat.le_of_ble_eq_true rfl)
  by_cases h0 : x < 0
  · have e : zcv (2, x) = .null := if_pos h0
    rw [List.map_cons, e] at kk
    rw [e] at h1
    exact lv_aloadN hx hb hd h1 kk
  · have e : zcv (2, x) = .ref x.toNat := if_neg h0
    rw [List.map_cons, e] at kk
    rw [e] at h1
    exact lv_aload hx hb hd h1 kk
theorem ZE.fload_n {n : Fin 4} {x : Int} (hd : decode M.2.1 pc = .ok ((.fload_n n), 1)) (hl : ls[(n : Nat)]? = some (3, x)) (k : ZE d M G (pc + 1) ls ((3, x) :: st) P) : ZE d M G pc ls (st) P := by
  refine ZE.pure k (fun D p l e R s m args below meth c H locs cells slots Q la hx hb hC hH hla kk => ?_)
  exact lv_fload_n hx hb hd rfl (hla.at hl (Nat.le_of_ble_eq_true rfl)) kk
theorem ZE.dload_n {n : Fin 4} {x : Int} (hd : decode M.2.1 pc = .ok ((.dload_n n), 1)) (hl : ls[(n : Nat)]? = some (4, x)) (k : ZE d M G (pc + 1) ls ((4, x) :: st) P) : ZE d M G pc ls (st) P := by
  refine ZE.pure k (fun D p l e R s m args below meth c H locs cells slots Q la hx hb hC hH hla kk => ?_)
  exact lv_dload_n hx hb hd rfl (hla.at hl (Nat.le_of_ble_eq_true rfl)) kk
theorem ZE.fload {n : Nat} {x : Int} (hd : decode M.2.1 pc = .ok ((.fload n), 2)) (hl : ls[n]? = some (3, x)) (k : ZE d M G (pc + 2) ls ((3, x) :: st) P) : ZE d M G pc ls (st) P := by
  refine ZE.pure k (fun D p l e R s m args below meth c H locs cells slots Q la hx hb hC hH hla kk => ?_)
  exact lv_fload hx hb hd (hla.at hl (Nat.le_of_ble_eq_true rfl)) kk
theorem ZE.dload {n : Nat} {x : Int} (hd : decode M.2.1 pc = .ok ((.dload n), 2)) (hl : ls[n]? = some (4, x)) (k : ZE d M G (pc + 2) ls ((4, x) :: st) P) : ZE d M G pc ls (st) P := by
  refine ZE.pure k (fun D p l e R s m args below meth c H locs cells slots Q la hx hb hC hH hla kk => ?_)
  exact lv_dload hx hb hd (hla.at hl (Nat.le_of_ble_eq_true rfl)) kk
theorem ZE.istore_n {n : Fin 4} {x : Int} {ls2 : List zV} (hd : decode M.2.1 pc = .ok (.istore_n n, 1)) (hn : (n : Nat) < M.2.2.1) (hl : zput1 (n : Nat) (0, x) ls = ls2) (k : ZE d M G (pc + 1) ls2 st P) : ZE d M G pc ls ((0, x) :: st) P := by
  refine ZE.loc k (fun D p l e R s m args below meth c H locs cells slots Q la hx hb hla kk => ?_)
  subst hl
  obtain ⟨h0, lv, h1, h2⟩ := hla
  exact lv_istore_n hx hb hd rfl h1 hn rfl (fun la2 h3 => kk la2 (zLs.set1 h0 h2 h3))
theorem ZE.lstore_n {n : Fin 4} {x : Int} {ls2 : List zV} (hd : decode M.2.1 pc = .ok (.lstore_n n, 1)) (hn : (n : Nat) + 1 < M.2.2.1) (hl : zput2 (n : Nat) (1, x) ls = ls2) (k : ZE d M G (pc + 1) ls2 st P) : ZE d M G pc ls ((1, x) :: st) P := by
  refine ZE.loc k (fun D p l e R s m args below meth c H locs cells slots Q la hx hb hla kk => ?_)
  subst hl
  obtain ⟨h0, lv, h1, h2⟩ := hla
  exact lv_lstore_n hx hb hd rfl h1 hn rfl (fun la2 h3 => kk la2 (zLs.set2 h0 h2 h3))
theorem ZE.astore_n {n : Fin 4} {x : Int} {ls2 : List zV} (hd : decode M.2.1 pc = .ok (.astore_n n, 1)) (hn : (n : Nat) < M.2.2.1) (hl : zput1 (n : Nat) (2, x) ls = ls2) (k : ZE d M G (pc + 1) ls2 st P) : ZE d M G pc ls ((2, x) :: st) P := by
  refine ZE.loc k (fun D p l e R s m args below meth c H locs cells slots Q la hx hb hla kk => ?_)
  subst hl
  obtain ⟨h0, lv, h1, h2⟩ := hla
  by_cases hz : x < 0
  · have ez : zcv (2, x) = .null := if_pos hz
    show W p l e R s m args below meth c H locs cells slots Q (F0 m pc la (zcv (2, x) :: st.map zcv))
    rw [ez]
    exact lv_astore_nN hx hb hd rfl h1 hn rfl (fun la2 h3 => kk la2 (zLs.set1 h0 h2 (by rw [ez]; exact h3)))
  · have ez : zcv (2, x) = .ref x.toNat := if_neg hz
    show W p l e R s m args below meth c H locs cells slots Q (F0 m pc la (zcv (2, x) :: st.map zcv))
    rw [ez]
    exact lv_astore_n hx hb hd rfl h1 hn rfl (fun la2 h3 => kk la2 (zLs.set1 h0 h2 (by rw [ez]; exact h3)))
theorem ZE.fstore_n {n : Fin 4} {x : Int} {ls2 : List zV} (hd : decode M.2.1 pc = .ok (.fstore_n n, 1)) (hn : (n : Nat) < M.2.2.1) (hl : zput1 (n : Nat) (3, x) ls = ls2) (k : ZE d M G (pc + 1) ls2 st P) : ZE d M G pc ls ((3, x) :: st) P := by
  refine ZE.loc k (fun D p l e R s m args below meth c H locs cells slots Q la hx hb hla kk => ?_)
  subst hl
  obtain ⟨h0, lv, h1, h2⟩ := hla
  exact lv_fstore_n hx hb hd rfl h1 hn rfl (fun la2 h3 => kk la2 (zLs.set1 h0 h2 h3))
theorem ZE.dstore_n {n : Fin 4} {x : Int} {ls2 : List zV} (hd : decode M.2.1 pc = .ok (.dstore_n n, 1)) (hn : (n : Nat) + 1 < M.2.2.1) (hl : zput2 (n : Nat) (4, x) ls = ls2) (k : ZE d M G (pc + 1) ls2 st P) : ZE d M G pc ls ((4, x) :: st) P := by
  refine ZE.loc k (fun D p l e R s m args below meth c H locs cells slots Q la hx hb hla kk => ?_)
  subst hl
  obtain ⟨h0, lv, h1, h2⟩ := hla
  exact lv_dstore_n hx hb hd rfl h1 hn rfl (fun la2 h3 => kk la2 (zLs.set2 h0 h2 h3))
theorem ZE.istore {n : Nat} {x : Int} {ls2 : List zV} (hd : decode M.2.1 pc = .ok (.istore n, 2)) (hn : n < M.2.2.1) (hl : zput1 n (0, x) ls = ls2) (k : ZE d M G (pc + 2) ls2 st P) : ZE d M G pc ls ((0, x) :: st) P := by
  refine ZE.loc k (fun D p l e R s m args below meth c H locs cells slots Q la hx hb hla kk => ?_)
  subst hl
  obtain ⟨h0, lv, h1, h2⟩ := hla
  exact lv_istore hx hb hd h1 hn rfl (fun la2 h3 => kk la2 (zLs.set1 h0 h2 h3))
theorem ZE.lstore {n : Nat} {x : Int} {ls2 : List zV} (hd : decode M.2.1 pc = .ok (.lstore n, 2)) (hn : n + 1 < M.2.2.1) (hl : zput2 n (1, x) ls = ls2) (k : ZE d M G (pc + 2) ls2 st P) : ZE d M G pc ls ((1, x) :: st) P := by
  refine ZE.loc k (fun D p l e R s m args below meth c H locs cells slots Q la hx hb hla kk => ?_)
  subst hl
  obtain ⟨h0, lv, h1, h2⟩ := hla
  exact lv_lstore hx hb hd h1 hn rfl (fun la2 h3 => kk la2 (zLs.set2 h0 h2 h3))
theorem ZE.astore {n : Nat} {x : Int} {ls2 : List zV} (hd : decode M.2.1 pc = .ok (.astore n, 2)) (hn : n < M.2.2.1) (hl : zput1 n (2, x) ls = ls2) (k : ZE d M G (pc + 2) ls2 st P) : ZE d M G pc ls ((2, x) :: st) P := by
  refine ZE.loc k (fun D p l e R s m args below meth c H locs cells slots Q la hx hb hla kk => ?_)
  subst hl
  obtain ⟨h0, lv, h1, h2⟩ := hla
  by_cases hz : x < 0
  · have ez : zcv (2, x) = .null := if_pos hz
    show W p l e R s m args below meth c H locs cells slots Q (F0 m pc la (zcv (2, x) :: st.map zcv))
    rw [ez]
    exact lv_astoreN hx hb hd h1 hn rfl (fun la2 h3 => kk la2 (zLs.set1 h0 h2 (by rw [ez]; exact h3)))
  · have ez : zcv (2, x) = .ref x.toNat := if_neg hz
    show W p l e R s m args below meth c H locs cells slots Q (F0 m pc la (zcv (2, x) :: st.map zcv))
    rw [ez]
    exact lv_astore hx hb hd h1 hn rfl (fun la2 h3 => kk la2 (zLs.set1 h0 h2 (by rw [ez]; exact h3)))
theorem ZE.fstore {n : Nat} {x : Int} {ls2 : List zV} (hd : decode M.2.1 pc = .ok (.fstore n, 2)) (hn : n < M.2.2.1) (hl : zput1 n (3, x) ls = ls2) (k : ZE d M G (pc + 2) ls2 st P) : ZE d M G pc ls ((3, x) :: st) P := by
  refine ZE.loc k (fun D p l e R s m args below meth c H locs cells slots Q la hx hb hla kk => ?_)
  subst hl
  obtain ⟨h0, lv, h1, h2⟩ := hla
  exact lv_fstore hx hb hd h1 hn rfl (fun la2 h3 => kk la2 (zLs.set1 h0 h2 h3))
theorem ZE.dstore {n : Nat} {x : Int} {ls2 : List zV} (hd : decode M.2.1 pc = .ok (.dstore n, 2)) (hn : n + 1 < M.2.2.1) (hl : zput2 n (4, x) ls = ls2) (k : ZE d M G (pc + 2) ls2 st P) : ZE d M G pc ls ((4, x) :: st) P := by
  refine ZE.loc k (fun D p l e R s m args below meth c H locs cells slots Q la hx hb hla kk => ?_)
  subst hl
  obtain ⟨h0, lv, h1, h2⟩ := hla
  exact lv_dstore hx hb hd h1 hn rfl (fun la2 h3 => kk la2 (zLs.set2 h0 h2 h3))
theorem ZE.iinc {n : Nat} {x b : Int} {ls2 : List zV} (hd : decode M.2.1 pc = .ok (.iinc n b, 3)) (hg : ls[n]? = some (0, x)) (hl : zput1 n (0, x + b) ls = ls2) (k : ZE d M G (pc + 3) ls2 st P) : ZE d M G pc ls st P := by
  refine ZE.loc k (fun D p l e R s m args below meth c H locs cells slots Q la hx hb hla kk => ?_)
  subst hl
  obtain ⟨h0, lv, h1, h2⟩ := hla
  obtain ⟨j, hj⟩ := List.getElem?_of_mem (h2 n _ hg (Nat.le_of_ble_eq_true rfl))
  have hn : n < M.2.2.1 := Nat.lt_of_lt_of_le (List.getElem?_eq_some_iff.mp hg).1 h0
  exact lv_iinc hx hb hd h1 (k := j) hj (Int32.ofInt_add x b).symm hn rfl (fun la2 h3 => kk la2 (zLs.set1 h0 h2 h3))
theorem ZE.dup {v : zV} (hd : decode M.2.1 pc = .ok (.dup, 1)) (hv : v.1 = 0 ∨ v.1 = 2) (k : ZE d M G (pc + 1) ls (v :: v :: st) P) : ZE d M G pc ls (v :: st) P := by
  refine ZE.pure k (fun D p l e R s m args below meth c H locs cells slots Q la hx hb hC hH hla kk => ?_)
  exact lv_dup hx hb hd (zcv_cat1 hv) kk
theorem ZE.pop {v : zV} (hd : decode M.2.1 pc = .ok (.pop, 1)) (hv : v.1 = 0 ∨ v.1 = 2) (k : ZE d M G (pc + 1) ls (st) P) : ZE d M G pc ls (v :: st) P := by
  refine ZE.pure k (fun D p l e R s m args below meth c H locs cells slots Q la hx hb hC hH hla kk => ?_)
  exact lv_pop hx hb hd (zcv_cat1 hv) kk
theorem ZE.dup2 {v w : zV} (hd : decode M.2.1 pc = .ok (.dup2, 1)) (hv : v.1 = 0 ∨ v.1 = 2) (hw : w.1 = 0 ∨ w.1 = 2) (k : ZE d M G (pc + 1) ls (v :: w :: v :: w :: st) P) : ZE d M G pc ls (v :: w :: st) P := by
  refine ZE.pure k (fun D p l e R s m args below meth c H locs cells slots Q la hx hb hC hH hla kk => ?_)
  exact lv_dup2_11 hx hb hd (zcv_cat1 hv) (zcv_cat1 hw) kk
theorem ZE.dup_x1 {v w : zV} (hd : decode M.2.1 pc = .ok (.dup_x1, 1)) (hv : v.1 = 0 ∨ v.1 = 2) (hw : w.1 = 0 ∨ w.1 = 2) (k : ZE d M G (pc + 1) ls (v :: w :: v :: st) P) : ZE d M G pc ls (v :: w :: st) P := by
  refine ZE.pure k (fun D p l e R s m args below meth c H locs cells slots Q la hx hb hC hH hla kk => ?_)
  exact lv_dup_x1 hx hb hd (zcv_cat1 hv) (zcv_cat1 hw) kk
theorem ZE.icmp_eq {x y : Int} {off : Int} {tgt : Nat} (hd : decode M.2.1 pc = .ok (.if_icmp .eq off, 3)) (ht : (pc : Int) + off = (tgt : Int)) (hx0 : zR x) (hy0 : zR y) (kt : x = y → ZE d M G tgt ls st P) (kf : ¬ (x = y) → ZE d M G (pc + 3) ls st P) : ZE d M G pc ls ((0, y) :: (0, x) :: st) P := by
  by_cases hc : x = y
  · refine ZE.pure (kt hc) (fun D p l e R s m args below meth c H locs cells slots Q la hx hb hC hH hla kk => ?_)
    exact lv_icmp_eq hx hb hd ht (fun _ => kk) (fun h => by first | exact absurd ((zi_eq hx0 hy0).mpr hc) h | exact absurd h ((zi_eq hx0 hy0).mpr hc))
  · refine ZE.pure (kf (by first | exact hc | exact Classical.not_not.mp hc)) (fun D p l e R s m args below meth c H locs cells slots Q la hx hb hC hH hla kk => ?_)
    exact lv_icmp_eq hx hb hd ht (fun h => absurd ((zi_eq hx0 hy0).mp h) hc) (fun _ => kk)
theorem ZE.if_eq {x : Int} {off : Int} {tgt : Nat} (hd : decode M.2.1 pc = .ok (.ifCond .eq off, 3)) (ht : (pc : Int) + off = (tgt : Int)) (hx0 : zR x) (kt : x = 0 → ZE d M G tgt ls st P) (kf : ¬ (x = 0) → ZE d M G (pc + 3) ls st P) : ZE d M G pc ls ((0, x) :: st) P := by
  by_cases hc : x = 0
  · refine ZE.pure (kt hc) (fun D p l e R s m args below meth c H locs cells slots Q la hx hb hC hH hla kk => ?_)
    exact lv_if_eq hx hb hd ht (fun _ => kk) (fun h => by first | exact absurd ((zi_eq hx0 zR0).mpr hc) h | exact absurd h ((zi_eq hx0 zR0).mpr hc))
  · refine ZE.pure (kf (by first | exact hc | exact Classical.not_not.mp hc)) (fun D p l e R s m args below meth c H locs cells slots Q la hx hb hC hH hla kk => ?_)
    exact lv_if_eq hx hb hd ht (fun h => absurd ((zi_eq hx0 zR0).mp h) hc) (fun _ => kk)
theorem ZE.icmp_ne {x y : Int} {off : Int} {tgt : Nat} (hd : decode M.2.1 pc = .ok (.if_icmp .ne off, 3)) (ht : (pc : Int) + off = (tgt : Int)) (hx0 : zR x) (hy0 : zR y) (kt : x ≠ y → ZE d M G tgt ls st P) (kf : x = y → ZE d M G (pc + 3) ls st P) : ZE d M G pc ls ((0, y) :: (0, x) :: st) P := by
  by_cases hc : x ≠ y
  · refine ZE.pure (kt hc) (fun D p l e R s m args below meth c H locs cells slots Q la hx hb hC hH hla kk => ?_)
    exact lv_icmp_ne hx hb hd ht (fun _ => kk) (fun h => by first | exact absurd (((not_congr (zi_eq hx0 hy0))).mpr hc) h | exact absurd h (((not_congr (zi_eq hx0 hy0))).mpr hc))
  · refine ZE.pure (kf (by first | exact hc | exact Classical.not_not.mp hc)) (fun D p l e R s m args below meth c H locs cells slots Q la hx hb hC hH hla kk => ?_)
    exact lv_icmp_ne hx hb hd ht (fun h => absurd (((not_congr (zi_eq hx0 hy0))).mp h) hc) (fun _ => kk)
theorem ZE.if_ne {x : Int} {off : Int} {tgt : Nat} (hd : decode M.2.1 pc = .ok (.ifCond .ne off, 3)) (ht : (pc : Int) + off = (tgt : Int)) (hx0 : zR x) (kt : x ≠ 0 → ZE d M G tgt ls st P) (kf : x = 0 → ZE d M G (pc + 3) ls st P) : ZE d M G pc ls ((0, x) :: st) P := by
  by_cases hc : x ≠ 0
  · refine ZE.pure (kt hc) (fun D p l e R s m args below meth c H locs cells slots Q la hx hb hC hH hla kk => ?_)
    exact lv_if_ne hx hb hd ht (fun _ => kk) (fun h => by first | exact absurd (((not_congr (zi_eq hx0 zR0))).mpr hc) h | exact absurd h (((not_congr (zi_eq hx0 zR0))).mpr hc))
  · refine ZE.pure (kf (by first | exact hc | exact Classical.not_not.mp hc)) (fun D p l e R s m args below meth c H locs cells slots Q la hx hb hC hH hla kk => ?_)
    exact lv_if_ne hx hb hd ht (fun h => absurd (((not_congr (zi_eq hx0 zR0))).mp h) hc) (fun _ => kk)
theorem ZE.icmp_lt {x y : Int} {off : Int} {tgt : Nat} (hd : decode M.2.1 pc = .ok (.if_icmp .lt off, 3)) (ht : (pc : Int) + off = (tgt : Int)) (hx0 : zR x) (hy0 : zR y) (kt : x < y → ZE d M G tgt ls st P) (kf : ¬ (x < y) → ZE d M G (pc + 3) ls st P) : ZE d M G pc ls ((0, y) :: (0, x) :: st) P := by
  by_cases hc : x < y
  · refine ZE.pure (kt hc) (fun D p l e R s m args below meth c H locs cells slots Q la hx hb hC hH hla kk => ?_)
    exact lv_icmp_lt hx hb hd ht (fun _ => kk) (fun h => by first | exact absurd ((zi_lt hx0 hy0).mpr hc) h | exact absurd h ((zi_lt hx0 hy0).mpr hc))
  · refine ZE.pure (kf (by first | exact hc | exact Classical.not_not.mp hc)) (fun D p l e R s m args below meth c H locs cells slots Q la hx hb hC hH hla kk => ?_)
    exact lv_icmp_lt hx hb hd ht (fun h => absurd ((zi_lt hx0 hy0).mp h) hc) (fun _ => kk)
theorem ZE.if_lt {x : Int} {off : Int} {tgt : Nat} (hd : decode M.2.1 pc = .ok (.ifCond .lt off, 3)) (ht : (pc : Int) + off = (tgt : Int)) (hx0 : zR x) (kt : x < 0 → ZE d M G tgt ls st P) (kf : ¬ (x < 0) → ZE d M G (pc + 3) ls st P) : ZE d M G pc ls ((0, x) :: st) P := by
  by_cases hc : x < 0
  · refine ZE.pure (kt hc) (fun D p l e R s m args below meth c H locs cells slots Q la hx hb hC hH hla kk => ?_)
    exact lv_if_lt hx hb hd ht (fun _ => kk) (fun h => by first | exact absurd ((zi_lt hx0 zR0).mpr hc) h | exact absurd h ((zi_lt hx0 zR0).mpr hc))
  · refine ZE.pure (kf (by first | exact hc | exact Classical.not_not.mp hc)) (fun D p l e R s m args below meth c H locs cells slots Q la hx hb hC hH hla kk => ?_)
    exact lv_if_lt hx hb hd ht (fun h => absurd ((zi_lt hx0 zR0).mp h) hc) (fun _ => kk)
theorem ZE.icmp_ge {x y : Int} {off : Int} {tgt : Nat} (hd : decode M.2.1 pc = .ok (.if_icmp .ge off, 3)) (ht : (pc : Int) + off = (tgt : Int)) (hx0 : zR x) (hy0 : zR y) (kt : y ≤ x → ZE d M G tgt ls st P) (kf : ¬ (y ≤ x) → ZE d M G (pc + 3) ls st P) : ZE d M G pc ls ((0, y) :: (0, x) :: st) P := by
  by_cases hc : y ≤ x
  · refine ZE.pure (kt hc) (fun D p l e R s m args below meth c H locs cells slots Q la hx hb hC hH hla kk => ?_)
    exact lv_icmp_ge hx hb hd ht (fun _ => kk) (fun h => by first | exact absurd ((zi_le hy0 hx0).mpr hc) h | exact absurd h ((zi_le hy0 hx0).mpr hc))
  · refine ZE.pure (kf (by first | exact hc | exact Classical.not_not.mp hc)) (fun D p l e R s m args below meth c H locs cells slots Q la hx hb hC hH hla kk => ?_)
    exact lv_icmp_ge hx hb hd ht (fun h => absurd ((zi_le hy0 hx0).mp h) hc) (fun _ => kk)
theorem ZE.if_ge {x : Int} {off : Int} {tgt : Nat} (hd : decode M.2.1 pc = .ok (.ifCond .ge off, 3)) (ht : (pc : Int) + off = (tgt : Int)) (hx0 : zR x) (kt : 0 ≤ x → ZE d M G tgt ls st P) (kf : ¬ (0 ≤ x) → ZE d M G (pc + 3) ls st P) : ZE d M G pc ls ((0, x) :: st) P := by
  by_cases hc : 0 ≤ x
  · refine ZE.pure (kt hc) (fun D p l e R s m args below meth c H locs cells slots Q la hx hb hC hH hla kk => ?_)
    exact lv_if_ge hx hb hd ht (fun _ => kk) (fun h => by first | exact absurd ((zi_le zR0 hx0).mpr hc) h | exact absurd h ((zi_le zR0 hx0).mpr hc))
  · refine ZE.pure (kf (by first | exact hc | exact Classical.not_not.mp hc)) (fun D p l e R s m args below meth c H locs cells slots Q la hx hb hC hH hla kk => ?_)
    exact lv_if_ge hx hb hd ht (fun h => absurd ((zi_le zR0 hx0).mp h) hc) (fun _ => kk)
theorem ZE.icmp_gt {x y : Int} {off : Int} {tgt : Nat} (hd : decode M.2.1 pc = .ok (.if_icmp .gt off, 3)) (ht : (pc : Int) + off = (tgt : Int)) (hx0 : zR x) (hy0 : zR y) (kt : y < x → ZE d M G tgt ls st P) (kf : ¬ (y < x) → ZE d M G (pc + 3) ls st P) : ZE d M G pc ls ((0, y) :: (0, x) :: st) P := by
  by_cases hc : y < x
  · refine ZE.pure (kt hc) (fun D p l e R s m args below meth c H locs cells slots Q la hx hb hC hH hla kk => ?_)
    exact lv_icmp_gt hx hb hd ht (fun _ => kk) (fun h => by first | exact absurd ((zi_lt hy0 hx0).mpr hc) h | exact absurd h ((zi_lt hy0 hx0).mpr hc))
  · refine ZE.pure (kf (by first | exact hc | exact Classical.not_not.mp hc)) (fun D p l e R s m args below meth c H locs cells slots Q la hx hb hC hH hla kk => ?_)
    exact lv_icmp_gt hx hb hd ht (fun h => absurd ((zi_lt hy0 hx0).mp h) hc) (fun _ => kk)
theorem ZE.if_gt {x : Int} {off : Int} {tgt : Nat} (hd : decode M.2.1 pc = .ok (.ifCond .gt off, 3)) (ht : (pc : Int) + off = (tgt : Int)) (hx0 : zR x) (kt : 0 < x → ZE d M G tgt ls st P) (kf : ¬ (0 < x) → ZE d M G (pc + 3) ls st P) : ZE d M G pc ls ((0, x) :: st) P := by
  by_cases hc : 0 < x
  · refine ZE.pure (kt hc) (fun D p l e R s m args below meth c H locs cells slots Q la hx hb hC hH hla kk => ?_)
    exact lv_if_gt hx hb hd ht (fun _ => kk) (fun h => by first | exact absurd ((zi_lt zR0 hx0).mpr hc) h | exact absurd h ((zi_lt zR0 hx0).mpr hc))
  · refine ZE.pure (kf (by first | exact hc | exact Classical.not_not.mp hc)) (fun D p l e R s m args below meth c H locs cells slots Q la hx hb hC hH hla kk => ?_)
    exact lv_if_gt hx hb hd ht (fun h => absurd ((zi_lt zR0 hx0).mp h) hc) (fun _ => kk)
theorem ZE.icmp_le {x y : Int} {off : Int} {tgt : Nat} (hd : decode M.2.1 pc = .ok (.if_icmp .le off, 3)) (ht : (pc : Int) + off = (tgt : Int)) (hx0 : zR x) (hy0 : zR y) (kt : x ≤ y → ZE d M G tgt ls st P) (kf : ¬ (x ≤ y) → ZE d M G (pc + 3) ls st P) : ZE d M G pc ls ((0, y) :: (0, x) :: st) P := by
  by_cases hc : x ≤ y
  · refine ZE.pure (kt hc) (fun D p l e R s m args below meth c H locs cells slots Q la hx hb hC hH hla kk => ?_)
    exact lv_icmp_le hx hb hd ht (fun _ => kk) (fun h => by first | exact absurd ((zi_le hx0 hy0).mpr hc) h | exact absurd h ((zi_le hx0 hy0).mpr hc))
  · refine ZE.pure (kf (by first | exact hc | exact Classical.not_not.mp hc)) (fun D p l e R s m args below meth c H locs cells slots Q la hx hb hC hH hla kk => ?_)
    exact lv_icmp_le hx hb hd ht (fun h => absurd ((zi_le hx0 hy0).mp h) hc) (fun _ => kk)
theorem ZE.if_le {x : Int} {off : Int} {tgt : Nat} (hd : decode M.2.1 pc = .ok (.ifCond .le off, 3)) (ht : (pc : Int) + off = (tgt : Int)) (hx0 : zR x) (kt : x ≤ 0 → ZE d M G tgt ls st P) (kf : ¬ (x ≤ 0) → ZE d M G (pc + 3) ls st P) : ZE d M G pc ls ((0, x) :: st) P := by
  by_cases hc : x ≤ 0
  · refine ZE.pure (kt hc) (fun D p l e R s m args below meth c H locs cells slots Q la hx hb hC hH hla kk => ?_)
    exact lv_if_le hx hb hd ht (fun _ => kk) (fun h => by first | exact absurd ((zi_le hx0 zR0).mpr hc) h | exact absurd h ((zi_le hx0 zR0).mpr hc))
  · refine ZE.pure (kf (by first | exact hc | exact Classical.not_not.mp hc)) (fun D p l e R s m args below meth c H locs cells slots Q la hx hb hC hH hla kk => ?_)
    exact lv_if_le hx hb hd ht (fun h => absurd ((zi_le hx0 zR0).mp h) hc) (fun _ => kk)
theorem ZE.goto {off : Int} {tgt : Nat} (hd : decode M.2.1 pc = .ok (.goto off, 3)) (ht : (pc : Int) + off = (tgt : Int)) (k : ZE d M G tgt ls st P) : ZE d M G pc ls st P :=
  ZE.pure k (fun D p l e R s m args below meth c H locs cells slots Q la hx hb hC hH hla kk => lv_goto hx hb hd ht kk)
theorem ZE.ifnull {x : Int} {off : Int} {tgt : Nat} (hd : decode M.2.1 pc = .ok (.ifnull off, 3)) (ht : (pc : Int) + off = (tgt : Int)) (kt : x < 0 → ZE d M G tgt ls st P) (kf : 0 ≤ x → ZE d M G (pc + 3) ls st P) : ZE d M G pc ls ((2, x) :: st) P := by
  by_cases hc : x < 0
  · have ez : zcv (2, x) = .null := if_pos hc
    refine ZE.pure (kt hc) (fun D p l e R s m args below meth c H locs cells slots Q la hx hb hC hH hla kk => ?_)
    show W p l e R s m args below meth c H locs cells slots Q (F0 m pc la (zcv (2, x) :: st.map zcv))
    rw [ez]
    exact lv_ifnullN hx hb hd ht kk
  · have ez : zcv (2, x) = .ref x.toNat := if_neg hc
    refine ZE.pure (kf (by omega)) (fun D p l e R s m args below meth c H locs cells slots Q la hx hb hC hH hla kk => ?_)
    show W p l e R s m args below meth c H locs cells slots Q (F0 m pc la (zcv (2, x) :: st.map zcv))
    rw [ez]
    exact lv_ifnull hx hb hd kk
theorem ZE.ifnonnull {x : Int} {off : Int} {tgt : Nat} (hd : decode M.2.1 pc = .ok (.ifnonnull off, 3)) (ht : (pc : Int) + off = (tgt : Int)) (kt : 0 ≤ x → ZE d M G tgt ls st P) (kf : x < 0 → ZE d M G (pc + 3) ls st P) : ZE d M G pc ls ((2, x) :: st) P := by
  by_cases hc : x < 0
  · have ez : zcv (2, x) = .null := if_pos hc
    refine ZE.pure (kf hc) (fun D p l e R s m args below meth c H locs cells slots Q la hx hb hC hH hla kk => ?_)
    show W p l e R s m args below meth c H locs cells slots Q (F0 m pc la (zcv (2, x) :: st.map zcv))
    rw [ez]
    exact lv_ifnonnullN hx hb hd kk
  · have ez : zcv (2, x) = .ref x.toNat := if_neg hc
    refine ZE.pure (kt (by omega)) (fun D p l e R s m args below meth c H locs cells slots Q la hx hb hC hH hla kk => ?_)
    show W p l e R s m args below meth c H locs cells slots Q (F0 m pc la (zcv (2, x) :: st.map zcv))
    rw [ez]
    exact lv_ifnonnull hx hb hd ht kk
theorem ZE.tableIn {dflt lo hi : Int} {offs : Array Int} {len : Nat} {x off : Int} {tgt : Nat} (hd : decode M.2.1 pc = .ok (.tableswitch dflt lo hi offs, len)) (hx0 : zR x) (h1 : lo ≤ x ∧ x ≤ hi) (ho : offs[(x - lo).toNat]? = some off) (ht : (pc : Int) + off = (tgt : Int)) (k : ZE d M G tgt ls st P) : ZE d M G pc ls ((0, x) :: st) P := by
  refine ZE.pure k (fun D p l e R s m args below meth c H locs cells slots Q la hx hb hC hH hla kk => ?_)
  exact lv_tableIn hx hb hd (by rw [hx0.toInt]; omega) (by rw [hx0.toInt]; omega) (by rw [hx0.toInt]; exact ho) ht kk
theorem ZE.tableOut {dflt lo hi : Int} {offs : Array Int} {len : Nat} {x : Int} {tgt : Nat} (hd : decode M.2.1 pc = .ok (.tableswitch dflt lo hi offs, len)) (hx0 : zR x) (h1 : x < lo ∨ hi < x) (ht : (pc : Int) + dflt = (tgt : Int)) (k : ZE d M G tgt ls st P) : ZE d M G pc ls ((0, x) :: st) P := by
  refine ZE.pure k (fun D p l e R s m args below meth c H locs cells slots Q la hx hb hC hH hla kk => ?_)
  exact lv_tableOut hx hb hd (by rw [hx0.toInt]; exact h1) ht kk
/-! returns -/
theorem ZE.vret (hd : decode M.2.1 pc = .ok (.return_, 1)) (hr : M.2.2.2 = none) (h : P none G) : ZE d M G pc ls [] P :=
  ⟨none, G, h, zUp.rf, fun D p l e R s m args below meth c H locs cells slots Q la hC hH hl hla hfr hlo hc hs K => by
    have := K H locs la pc [] hH hl ⟨hd, rfl, hr⟩
    simp only [Nat.sub_self, Nat.add_zero] at this
    exact this⟩
theorem ZE.iret {x : Int} (hd : decode M.2.1 pc = .ok (.ireturn, 1)) (hr : M.2.2.2 = some .int) (h : P (some (0, x)) G) : ZE d M G pc ls [(0, x)] P :=
  ⟨some (0, x), G, h, zUp.rf, fun D p l e R s m args below meth c H locs cells slots Q la hC hH hl hla hfr hlo hc hs K => by
    have := K H locs la pc _ hH hl ⟨hd, rfl, Or.inl hr⟩
    simp only [Nat.sub_self, Nat.add_zero] at this
    exact this⟩
theorem ZE.zret {x : Int} (hd : decode M.2.1 pc = .ok (.ireturn, 1)) (hr : M.2.2.2 = some .boolean) (hx : x = 0 ∨ x = 1) (h : P (some (0, x)) G) : ZE d M G pc ls [(0, x)] P :=
  ⟨some (0, x), G, h, zUp.rf, fun D p l e R s m args below meth c H locs cells slots Q la hC hH hl hla hfr hlo hc hs K => by
    have := K H locs la pc _ hH hl ⟨hd, rfl, Or.inr ⟨hr, hx⟩⟩
    simp only [Nat.sub_self, Nat.add_zero] at this
    exact this⟩
theorem ZE.lret {x : Int} (hd : decode M.2.1 pc = .ok (.lreturn, 1)) (hr : M.2.2.2 = some .long) (h : P (some (1, x)) G) : ZE d M G pc ls [(1, x)] P :=
  ⟨some (1, x), G, h, zUp.rf, fun D p l e R s m args below meth c H locs cells slots Q la hC hH hl hla hfr hlo hc hs K => by
    have := K H locs la pc _ hH hl ⟨hd, rfl, hr⟩
    simp only [Nat.sub_self, Nat.add_zero] at this
    exact this⟩
theorem ZE.aret {x : Int} (hd : decode M.2.1 pc = .ok (.areturn, 1)) (hr : ∃ C, M.2.2.2 = some (.object C)) (h : P (some (2, x)) G) : ZE d M G pc ls [(2, x)] P :=
  ⟨some (2, x), G, h, zUp.rf, fun D p l e R s m args below meth c H locs cells slots Q la hC hH hl hla hfr hlo hc hs K => by
    have := K H locs la pc _ hH hl ⟨hd, rfl, hr⟩
    simp only [Nat.sub_self, Nat.add_zero] at this
    exact this⟩
end ZROWS
