/-! ===== floats and doubles: rows; the value is the bits ===== -/
section ZFLT
variable {d : Nat} {M : zM} {G : zG} {pc : Nat} {ls st : List zV} {P : Option zV → zG → Prop}
def zf (x1 : Int) : UInt32 := UInt32.ofNat x1.toNat
def zd (x1 : Int) : UInt64 := UInt64.ofNat x1.toNat
def fI (u : UInt32) : Int := (u.toNat : Int)
def dI (u : UInt64) : Int := (u.toNat : Int)
theorem zf_fI (u : UInt32) : zf (fI u) = u := by unfold zf fI; rw [Int.toNat_natCast]; exact UInt32.ofNat_toNat
theorem zd_dI (u : UInt64) : zd (dI u) = u := by unfold zd dI; rw [Int.toNat_natCast]; exact UInt64.ofNat_toNat
theorem zcv_f (u : UInt32) : zcv (3, fI u) = .float u := congrArg Value.float (zf_fI u)
theorem zcv_d (u : UInt64) : zcv (4, dI u) = .double u := congrArg Value.double (zd_dI u)
theorem ZE.i2f {x1 : Int} (hd : decode M.2.1 pc = .ok (.i2f, 1)) (k : ZE d M G (pc + 1) ls ((3, fI (FP.i2f (Int32.ofInt x1))) :: st) P) : ZE d M G pc ls ((0, x1) :: st) P := by
  refine ZE.pure k (fun D p l e R s m args below meth c H locs cells slots Q la hx hb hC hH hla kk => ?_)
  rw [List.map_cons, zcv_f] at kk
  exact lv_i2f hx hb hd kk
theorem ZE.i2d {x1 : Int} (hd : decode M.2.1 pc = .ok (.i2d, 1)) (k : ZE d M G (pc + 1) ls ((4, dI (FP.i2d (Int32.ofInt x1))) :: st) P) : ZE d M G pc ls ((0, x1) :: st) P := by
  refine ZE.pure k (fun D p l e R s m args below meth c H locs cells slots Q la hx hb hC hH hla kk => ?_)
  rw [List.map_cons, zcv_d] at kk
  exact lv_i2d hx hb hd kk
theorem ZE.f2i {x1 : Int} (hd : decode M.2.1 pc = .ok (.f2i, 1)) (k : ZE d M G (pc + 1) ls ((0, (FP.f2i (zf x1)).toInt) :: st) P) : ZE d M G pc ls ((3, x1) :: st) P := by
  refine ZE.pure k (fun D p l e R s m args below meth c H locs cells slots Q la hx hb hC hH hla kk => ?_)
  have e1 : zcv (0, (FP.f2i (zf x1)).toInt) = .int (FP.f2i (zf x1)) := congrArg Value.int (Int32.ofInt_toInt _)
  rw [List.map_cons, e1] at kk
  exact lv_f2i hx hb hd kk
theorem ZE.d2l {x1 : Int} (hd : decode M.2.1 pc = .ok (.d2l, 1)) (k : ZE d M G (pc + 1) ls ((1, (FP.d2l (zd x1)).toInt) :: st) P) : ZE d M G pc ls ((4, x1) :: st) P := by
  refine ZE.pure k (fun D p l e R s m args below meth c H locs cells slots Q la hx hb hC hH hla kk => ?_)
  have e1 : zcv (1, (FP.d2l (zd x1)).toInt) = .long (FP.d2l (zd x1)) := congrArg Value.long (Int64.ofInt_toInt _)
  rw [List.map_cons, e1] at kk
  exact lv_d2l hx hb hd kk
theorem ZE.fdiv {x1 y1 : Int} (hd : decode M.2.1 pc = .ok (.fdiv, 1)) (hne : vf_n32 (FP.fdiv (zf x1) (zf y1))) (k : ZE d M G (pc + 1) ls ((3, fI (FP.fdiv (zf x1) (zf y1))) :: st) P) : ZE d M G pc ls ((3, y1) :: (3, x1) :: st) P := by
  refine ZE.pure k (fun D p l e R s m args below meth c H locs cells slots Q la hx hb hC hH hla kk => ?_)
  rw [List.map_cons, zcv_f] at kk
  exact lv_fdiv hx hb hd hne kk
theorem ZE.fsub {x1 y1 : Int} (hd : decode M.2.1 pc = .ok (.fsub, 1)) (hne : vf_n32 (FP.fsub (zf x1) (zf y1))) (k : ZE d M G (pc + 1) ls ((3, fI (FP.fsub (zf x1) (zf y1))) :: st) P) : ZE d M G pc ls ((3, y1) :: (3, x1) :: st) P := by
  refine ZE.pure k (fun D p l e R s m args below meth c H locs cells slots Q la hx hb hC hH hla kk => ?_)
  rw [List.map_cons, zcv_f] at kk
  exact lv_fsub hx hb hd hne kk
theorem ZE.fmul {x1 y1 : Int} (hd : decode M.2.1 pc = .ok (.fmul, 1)) (hne : vf_n32 (FP.fmul (zf x1) (zf y1))) (k : ZE d M G (pc + 1) ls ((3, fI (FP.fmul (zf x1) (zf y1))) :: st) P) : ZE d M G pc ls ((3, y1) :: (3, x1) :: st) P := by
  refine ZE.pure k (fun D p l e R s m args below meth c H locs cells slots Q la hx hb hC hH hla kk => ?_)
  rw [List.map_cons, zcv_f] at kk
  exact lv_fmul hx hb hd hne kk
theorem ZE.ddiv {x1 y1 : Int} (hd : decode M.2.1 pc = .ok (.ddiv, 1)) (hne : vf_n64 (FP.ddiv (zd x1) (zd y1))) (k : ZE d M G (pc + 1) ls ((4, dI (FP.ddiv (zd x1) (zd y1))) :: st) P) : ZE d M G pc ls ((4, y1) :: (4, x1) :: st) P := by
  refine ZE.pure k (fun D p l e R s m args below meth c H locs cells slots Q la hx hb hC hH hla kk => ?_)
  rw [List.map_cons, zcv_d] at kk
  exact lv_ddiv hx hb hd hne kk
theorem ZE.dsub {x1 y1 : Int} (hd : decode M.2.1 pc = .ok (.dsub, 1)) (hne : vf_n64 (FP.dsub (zd x1) (zd y1))) (k : ZE d M G (pc + 1) ls ((4, dI (FP.dsub (zd x1) (zd y1))) :: st) P) : ZE d M G pc ls ((4, y1) :: (4, x1) :: st) P := by
  refine ZE.pure k (fun D p l e R s m args below meth c H locs cells slots Q la hx hb hC hH hla kk => ?_)
  rw [List.map_cons, zcv_d] at kk
  exact lv_dsub hx hb hd hne kk
theorem ZE.dmul {x1 y1 : Int} (hd : decode M.2.1 pc = .ok (.dmul, 1)) (hne : vf_n64 (FP.dmul (zd x1) (zd y1))) (k : ZE d M G (pc + 1) ls ((4, dI (FP.dmul (zd x1) (zd y1))) :: st) P) : ZE d M G pc ls ((4, y1) :: (4, x1) :: st) P := by
  refine ZE.pure k (fun D p l e R s m args below meth c H locs cells slots Q la hx hb hC hH hla kk => ?_)
  rw [List.map_cons, zcv_d] at kk
  exact lv_dmul hx hb hd hne kk
theorem ZE.fcmp {x1 y1 : Int} {op : CmpOp} (hd : decode M.2.1 pc = .ok (.fcmp op, 1)) (k : ZE d M G (pc + 1) ls ((0, (Op.cmpValue (FP.fcmp (zf x1) (zf y1)) op).toInt) :: st) P) : ZE d M G pc ls ((3, y1) :: (3, x1) :: st) P := by
  refine ZE.pure k (fun D p l e R s m args below meth c H locs cells slots Q la hx hb hC hH hla kk => ?_)
  have e1 : zcv (0, (Op.cmpValue (FP.fcmp (zf x1) (zf y1)) op).toInt) = .int (Op.cmpValue (FP.fcmp (zf x1) (zf y1)) op) := congrArg Value.int (Int32.ofInt_toInt _)
  rw [List.map_cons, e1] at kk
  exact lv_fcmp hx hb hd kk
theorem ZE.dcmp {x1 y1 : Int} {op : CmpOp} (hd : decode M.2.1 pc = .ok (.dcmp op, 1)) (k : ZE d M G (pc + 1) ls ((0, (Op.cmpValue (FP.dcmp (zd x1) (zd y1)) op).toInt) :: st) P) : ZE d M G pc ls ((4, y1) :: (4, x1) :: st) P := by
  refine ZE.pure k (fun D p l e R s m args below meth c H locs cells slots Q la hx hb hC hH hla kk => ?_)
  have e1 : zcv (0, (Op.cmpValue (FP.dcmp (zd x1) (zd y1)) op).toInt) = .int (Op.cmpValue (FP.dcmp (zd x1) (zd y1)) op) := congrArg Value.int (Int32.ofInt_toInt _)
  rw [List.map_cons, e1] at kk
  exact lv_dcmp hx hb hd kk
theorem ZE.fconst1 (hd : decode M.2.1 pc = .ok (.fconst 1, 1)) (k : ZE d M G (pc + 1) ls ((3, 1065353216) :: st) P) : ZE d M G pc ls st P := by
  refine ZE.pure k (fun D p l e R s m args below meth c H locs cells slots Q la hx hb hC hH hla kk => ?_)
  exact lv_fconst1 hx hb hd kk
theorem ZE.fconst2 (hd : decode M.2.1 pc = .ok (.fconst 2, 1)) (k : ZE d M G (pc + 1) ls ((3, 1073741824) :: st) P) : ZE d M G pc ls st P := by
  refine ZE.pure k (fun D p l e R s m args below meth c H locs cells slots Q la hx hb hC hH hla kk => ?_)
  exact lv_fconst2 hx hb hd kk
theorem ZE.dconst1 (hd : decode M.2.1 pc = .ok (.dconst 1, 1)) (k : ZE d M G (pc + 1) ls ((4, 4607182418800017408) :: st) P) : ZE d M G pc ls st P := by
  refine ZE.pure k (fun D p l e R s m args below meth c H locs cells slots Q la hx hb hC hH hla kk => ?_)
  exact lv_dconst1 hx hb hd kk
theorem zcats {st : List zV} : ((st.map zcv).map fun v => v.category).sum = (st.map fun v => if v.1 = 1 ∨ 4 ≤ v.1 then 2 else 1).sum := by
  rw [List.map_map]
  congr 1
  refine List.map_congr_left (fun v _ => ?_)
  show (zcv v).category = _
  have := zcv_cat v
  rcases lv_cat (zcv v) with e | e
  · rw [e, if_neg (fun q => by have := this.mpr q; omega)]
  · rw [e, if_pos (this.mp e)]
theorem zraw32 {x1 : Int} (h : 0 ≤ x1) : (UInt32.ofNat x1.toNat).toInt32 = Int32.ofInt x1 := by
  obtain ⟨n, rfl⟩ : ∃ n : Nat, x1 = n := ⟨x1.toNat, by omega⟩
  rw [Int.toNat_natCast]
  show Int32.ofBitVec (BitVec.ofNat 32 n) = Int32.ofBitVec (BitVec.ofInt 32 (n : Int))
  rw [BitVec.ofInt_natCast]
theorem zraw64 {x1 : Int} (h : 0 ≤ x1) : (UInt64.ofNat x1.toNat).toInt64 = Int64.ofInt x1 := by
  obtain ⟨n, rfl⟩ : ∃ n : Nat, x1 = n := ⟨x1.toNat, by omega⟩
  rw [Int.toNat_natCast]
  show Int64.ofBitVec (BitVec.ofNat 64 n) = Int64.ofBitVec (BitVec.ofInt 64 (n : Int))
  rw [BitVec.ofInt_natCast]
theorem ZE.rawF {idx : Nat} {x1 : Int} (hd : decode M.2.1 pc = .ok (.invokestatic idx, 3)) (hl : Cond.methodLink M.1.cls idx ⟨"java/lang/Float", "floatToRawIntBits", "(F)I"⟩ ∈ zWS ∧ Cond.static ⟨"java/lang/Float", "floatToRawIntBits", "(F)I"⟩ ∈ zWS ∧ Cond.native ⟨"java/lang/Float", "floatToRawIntBits", "(F)I"⟩ ∈ zWS) (hi : Cond.initialized "java/lang/Float" ∈ zWS) (h0 : 0 ≤ x1) (hr : (st.map fun v => if v.1 = 1 ∨ 4 ≤ v.1 then 2 else 1).sum ≤ 8) (k : ZE (d + 1) M G (pc + 3) ls ((0, x1) :: st) P) : ZE (d + 1) M G pc ls ((3, x1) :: st) P := by
  obtain ⟨r, G', h1, h2, h3⟩ := k
  refine ⟨r, G', h1, h2, fun D p l e R s m args below meth c H locs cells slots Q la hC hH hlo0 hla hfr hlo hc hs K => ?_⟩
  have kk := h3 D p l e R s m args below meth c H locs cells slots Q la hC hH hlo0 hla hfr hlo hc hs K
  have hts := hC.2.2.2.2.1
  refine vn_f2i hC.1 hC.2.1 (by rw [hC.2.2.1]; exact hla.size.symm) hC.2.2.2.1 (hts _ hl.1) (hts _ hl.2.2) (hts _ hl.2.1) (hts _ hi) (by omega) (by rw [zcats]; omega) hd ?_
  rw [zraw32 h0]
  exact kk
theorem ZE.rawD {idx : Nat} {x1 : Int} (hd : decode M.2.1 pc = .ok (.invokestatic idx, 3)) (hl : Cond.methodLink M.1.cls idx ⟨"java/lang/Double", "doubleToRawLongBits", "(D)J"⟩ ∈ zWS ∧ Cond.static ⟨"java/lang/Double", "doubleToRawLongBits", "(D)J"⟩ ∈ zWS ∧ Cond.native ⟨"java/lang/Double", "doubleToRawLongBits", "(D)J"⟩ ∈ zWS) (hi : Cond.initialized "java/lang/Double" ∈ zWS) (h0 : 0 ≤ x1) (hr : (st.map fun v => if v.1 = 1 ∨ 4 ≤ v.1 then 2 else 1).sum ≤ 8) (k : ZE (d + 1) M G (pc + 3) ls ((1, x1) :: st) P) : ZE (d + 1) M G pc ls ((4, x1) :: st) P := by
  obtain ⟨r, G', h1, h2, h3⟩ := k
  refine ⟨r, G', h1, h2, fun D p l e R s m args below meth c H locs cells slots Q la hC hH hlo0 hla hfr hlo hc hs K => ?_⟩
  have kk := h3 D p l e R s m args below meth c H locs cells slots Q la hC hH hlo0 hla hfr hlo hc hs K
  have hts := hC.2.2.2.2.1
  refine vn_d2l hC.1 hC.2.1 (by rw [hC.2.2.1]; exact hla.size.symm) hC.2.2.2.1 (hts _ hl.1) (hts _ hl.2.2) (hts _ hl.2.1) (hts _ hi) (by omega) (by rw [zcats]; omega) hd ?_
  rw [zraw64 h0]
  exact kk
end ZFLT
