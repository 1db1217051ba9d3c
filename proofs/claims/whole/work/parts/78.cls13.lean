theorem ZE.ldcfw {d : Nat} {M : zM} {G : zG} {pc : Nat} {ls st : List zV} {P : Option zV → zG → Prop} {idx : Nat} {v : Int} (hd : decode M.2.1 pc = .ok ((.ldc_w idx), 3)) (hk : Cond.constantFloat M.1.cls idx (UInt32.ofNat v.toNat) ∈ zWS) (k : ZE d M G (pc + 3) ls ((3, v) :: st) P) : ZE d M G pc ls (st) P := by
  refine ZE.pure k (fun D p l e R s m args below meth c H locs cells slots Q la hx hb hC hH hla kk => ?_)
  intro T hT X
  obtain ⟨t, a, b⟩ := kk T hT X
  refine ⟨t, ?_, b⟩
  obtain ⟨kc, cf, hkc, hcf, hcp⟩ := Cond.constantFloat_spec hC.2.2.2.1 (hC.2.2.2.2.1 _ hk)
  obtain ⟨k', hk', he⟩ := X.warmed.alike.2.2 _ _ hkc
  have hd2 : decode c.code pc = .ok ((.ldc_w idx), 3) := by rw [hb]; exact hd
  jvm_step X.here [X.here.top, hx, hd2, ldc_w.wp_float (s := T) (f := F0 m pc la (st.map zcv)) X.here.top hk' (by rw [he]; exact hcf) hcp]
  exact a
set_option maxRecDepth 20000 in
set_option maxHeartbeats 4000000 in
theorem c_floatBits {d : Nat} {G : zG} {A : Int → Int → Int} {P : Option zV → zG → Prop} {f1 : Nat} {u : UInt32} {w0 : Int} (hu : fbOk f1 u 0 w0 = true) (k : P (some (0, w0)) (gw G A)) : ZE d M_SN_floatBits (gw G A) 0 [(3, fI u), (9, 0), (9, 0), (9, 0)] [] P := by
  refine ZE.fload_n d_SN_floatBits_0 rfl ?_
  refine ZE.fstore_n (ls2 := [(3, fI u), (3, fI u), (9, 0), (9, 0)]) d_SN_floatBits_1 (Nat.le_of_ble_eq_true rfl) rfl ?_
  refine ZE.bipush (n := 127) d_SN_floatBits_2 rfl ?_
  refine ZE.istore_n (ls2 := [(3, fI u), (3, fI u), (0, 127), (9, 0)]) d_SN_floatBits_4 (Nat.le_of_ble_eq_true rfl) rfl ?_
  refine ZE.iconst (n := 0) d_SN_floatBits_5 ?_
  refine ZE.istore_n (ls2 := [(3, fI u), (3, fI u), (0, 127), (0, 0)]) d_SN_floatBits_6 (Nat.le_of_ble_eq_true rfl) rfl ?_
  have L7 : ∀ (tt0 : Nat) (f0 : Nat) (j : Nat) (u1 : UInt32) (hfb : j < 127 ∧ fbOk f0 u1 j w0 = true), f0 < tt0 → ZE d M_SN_floatBits (gw G A) 7 [(3, fI u), (3, fI u1), (0, 127 + (j : Int)), (0, (j : Int))] [] P := by
    intro tt0
    induction tt0 with
    | zero => intro f0 j u1 hfb hm; exact absurd hm (Nat.not_lt_zero _)
    | succ tt0 ih =>
      intro f0 j u1 hfb hm
      obtain ⟨f, rfl⟩ : ∃ f, f0 = f + 1 := by
        cases f0 with
        | zero => exact absurd hfb.2 Bool.false_ne_true
        | succ f => exact ⟨f, rfl⟩
      refine ZE.iload_n d_SN_floatBits_7 rfl ?_
      refine ZE.bipush (n := 127) d_SN_floatBits_8 rfl ?_
      refine ZE.icmp_ge (tgt := 32) d_SN_floatBits_10 rfl (by unfold zR; omega) (by unfold zR; omega) (fun c10 => ?_) (fun c10 => ?_)
      · exact absurd c10 (by omega)
      · refine ZE.fload_n d_SN_floatBits_13 rfl ?_
        refine ZE.fconst2 d_SN_floatBits_14 ?_
        show ZE d M_SN_floatBits (gw G A) 15 [(3, fI u), (3, fI u1), (0, 127 + (j : Int)), (0, (j : Int))] [(3, 1073741824), (3, fI u1)] _
        refine ZE.fcmp d_SN_floatBits_15 ?_
        have hz16 : zR (Op.cmpValue (FP.fcmp (zf (fI u1)) (zf 1073741824)) .l).toInt := by
          have h1 := Int32.le_toInt (Op.cmpValue (FP.fcmp (zf (fI u1)) (zf 1073741824)) .l)
          have h4 := Int32.toInt_lt (Op.cmpValue (FP.fcmp (zf (fI u1)) (zf 1073741824)) .l)
          unfold zR; omega
        refine ZE.if_lt (tgt := 32) d_SN_floatBits_16 rfl hz16 (fun c16 => ?_) (fun c16 => ?_)
        · rw [zf_fI, show zf 1073741824 = 1073741824 from rfl] at c16
          have hbr : (vf_n32 (FP.fsub u1 1065353216) ∧ vf_n32 (fbR u1)) ∧ zor (zshl (127 + (j : Int)) 23) (FP.f2i (fbR u1)).toInt = w0 := by
            have h := hfb.2
            unfold fbOk at h
            rw [if_pos c16, Bool.and_eq_true, Bool.and_eq_true] at h
            exact ⟨⟨vfB_ok h.1.1, vfB_ok h.1.2⟩, of_decide_eq_true h.2⟩
          refine ZE.iload_n d_SN_floatBits_32 rfl ?_
          refine ZE.bipush (n := 23) d_SN_floatBits_33 rfl ?_
          refine ZE.ishl d_SN_floatBits_35 ?_
          refine ZE.fload_n d_SN_floatBits_36 rfl ?_
          refine ZE.fconst1 d_SN_floatBits_37 ?_
          show ZE d M_SN_floatBits (gw G A) 38 [(3, fI u), (3, fI u1), (0, 127 + (j : Int)), (0, (j : Int))] [(3, 1065353216), (3, fI u1), (0, zshl (127 + (j : Int)) 23)] _
          refine ZE.fsub d_SN_floatBits_38 (by show vf_n32 (FP.fsub (zf (fI u1)) 1065353216); rw [zf_fI]; exact hbr.1.1) ?_
          refine ZE.ldcfw (v := 1258291200) d_SN_floatBits_39 k_SN_400 ?_
          refine ZE.fmul d_SN_floatBits_42 (by show vf_n32 (FP.fmul (zf (fI (FP.fsub (zf (fI u1)) 1065353216))) 1258291200); rw [zf_fI, zf_fI]; exact hbr.1.2) ?_
          rw [show (fI (FP.fmul (zf (fI (FP.fsub (zf (fI u1)) (zf 1065353216)))) (zf 1258291200)) : Int) = fI (fbR u1) from (by show fI (FP.fmul (zf (fI (FP.fsub (zf (fI u1)) 1065353216))) 1258291200) = _; rw [zf_fI, zf_fI]; rfl)]
          refine ZE.f2i d_SN_floatBits_43 ?_
          rw [show ((FP.f2i (zf (fI (fbR u1)))).toInt : Int) = (FP.f2i (fbR u1)).toInt from (by rw [zf_fI])]
          refine ZE.ior d_SN_floatBits_44 ?_
          rw [show (zor (zshl (127 + (j : Int)) 23) ((FP.f2i (fbR u1)).toInt) : Int) = w0 from hbr.2]
          refine ZE.iret d_SN_floatBits_45 rfl ?_
          exact k
        · rw [zf_fI, show zf 1073741824 = 1073741824 from rfl] at c16
          have hbr : (j < 126 ∧ vf_n32 (FP.fdiv u1 1073741824)) ∧ (j + 1 < 127 ∧ fbOk f (FP.fdiv u1 1073741824) (j + 1) w0 = true) := by
            have h := hfb.2
            unfold fbOk at h
            rw [if_neg c16, Bool.and_eq_true, Bool.and_eq_true] at h
            have h5 := of_decide_eq_true h.1.1
            exact ⟨⟨h5, vfB_ok h.1.2⟩, by omega, h.2⟩
          refine ZE.fload_n d_SN_floatBits_19 rfl ?_
          refine ZE.fconst2 d_SN_floatBits_20 ?_
          show ZE d M_SN_floatBits (gw G A) 21 [(3, fI u), (3, fI u1), (0, 127 + (j : Int)), (0, (j : Int))] [(3, 1073741824), (3, fI u1)] _
          refine ZE.fdiv d_SN_floatBits_21 (by show vf_n32 (FP.fdiv (zf (fI u1)) 1073741824); rw [zf_fI]; exact hbr.1.2) ?_
          rw [show (fI (FP.fdiv (zf (fI u1)) (zf 1073741824)) : Int) = fI (FP.fdiv u1 1073741824) from (by show fI (FP.fdiv (zf (fI u1)) 1073741824) = _; rw [zf_fI])]
          refine ZE.fstore_n (ls2 := [(3, fI u), (3, fI (FP.fdiv u1 1073741824)), (0, 127 + (j : Int)), (0, (j : Int))]) d_SN_floatBits_22 (Nat.le_of_ble_eq_true rfl) rfl ?_
          refine ZE.iinc (ls2 := [(3, fI u), (3, fI (FP.fdiv u1 1073741824)), (0, (127 + (j : Int)) + 1), (0, (j : Int))]) d_SN_floatBits_23 rfl rfl ?_
          refine ZE.iinc (ls2 := [(3, fI u), (3, fI (FP.fdiv u1 1073741824)), (0, (127 + (j : Int)) + 1), (0, (j : Int) + 1)]) d_SN_floatBits_26 rfl rfl ?_
          refine ZE.goto (tgt := 7) d_SN_floatBits_29 rfl ?_
          rw [show (127 + (j : Int)) + 1 = 127 + ((j + 1 : Nat) : Int) by omega, show (j : Int) + 1 = ((j + 1 : Nat) : Int) by omega]
          exact ih f (j + 1) _ hbr.2 (by omega)
  exact L7 _ f1 0 u ⟨by omega, hu⟩ (Nat.lt_succ_self _)
