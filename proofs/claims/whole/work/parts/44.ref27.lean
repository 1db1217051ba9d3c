def enF (x1 y1 p : Int) : Nat → Int × Int
  | 0 => (0, y1)
  | i + 1 => ((enF x1 y1 p i).2, (2 * x1 * (enF x1 y1 p i).2 - (enF x1 y1 p i).1) % p)
theorem enF_R {x1 y1 p : Int} (hp : 0 < p) (hy : 0 ≤ y1 ∧ y1 < p) : ∀ i, (0 ≤ (enF x1 y1 p i).1 ∧ (enF x1 y1 p i).1 < p) ∧ (0 ≤ (enF x1 y1 p i).2 ∧ (enF x1 y1 p i).2 < p) := by
  intro i
  induction i with
  | zero => exact ⟨⟨Int.le_refl _, hp⟩, hy⟩
  | succ i ih => exact ⟨ih.2, Int.emod_nonneg _ (by omega), Int.emod_lt_of_pos _ hp⟩
def enB (S cn p i : Nat) : Bool := decide ((enF ((ux (d1 S cn) % p : Nat) : Int) ((uy (d1 S cn) % p : Nat) : Int) (p : Int) (i - 1)).2 = 0)
def enV (S : Nat) (c p : Int) : Int := if inC S c then (if (2 ≤ p ∧ p ≤ 97) ∧ prB p.toNat = true then fsA (enB S c.toNat p.toNat) 1 200 else -1) else -1
set_option maxRecDepth 20000 in
set_option maxHeartbeats 4000000 in
theorem r_entry {d : Nat} {G : zG} {A : Int → Int → Int} {P : Option zV → zG → Prop} {o : Int} (hK : RK G o) (hF : RF A o) {S : Nat} (hR : RS S A o) (hS7 : S < 128) (hp5 : pop S ≤ 5) {c : Int} (hc : zR c) {p : Int} (hp : zR p) (k : P (some (0, enV S c p)) (gw G A)) : ZE (d + 4) M_Ref_entry (gw G A) 0 [(2, o), (0, c), (0, p), (9, 0), (9, 0), (9, 0), (9, 0), (9, 0)] [] P := by
  refine ZE.aload_n d_Ref_entry_0 rfl ?_
  refine ZE.iload_n d_Ref_entry_1 rfl ?_
  have hcl0 := cls_le hS7 hp5
  refine ZE.cV [(0, c)] [] [(2, o), (0, c)] d_Ref_entry_2 l_Ref_242 rfl rfl rfl rfl rfl rfl hK.1 ?_
  refine r_isClass (m := (csF S 1 128).length) hK hF hR.n1 (by omega) hc ?_
  show ZE (d + 4) M_Ref_entry (gw G A) 5 [(2, o), (0, c), (0, p), (9, 0), (9, 0), (9, 0), (9, 0), (9, 0)] [(0, b2i (0 ≤ c ∧ c < ((csF S 1 128).length : Int)))] _
  refine ZE.if_eq (tgt := 29) d_Ref_entry_5 rfl (zR_b2i _) (fun c5 => ?_) (fun c5 => ?_)
  · replace c5 := b2i_0.mp c5
    refine ZE.iconst (n := (-1)) d_Ref_entry_29 ?_
    refine ZE.iret d_Ref_entry_30 rfl ?_
    have e0 : inC S c = false := decide_eq_false c5
    rw [show enV S c p = -1 by unfold enV; rw [e0]; rfl] at k
    exact k
  · replace c5 := b2i_n0.mp c5
    obtain ⟨cn, hcn⟩ : ∃ cn : Nat, c = cn := ⟨c.toNat, by omega⟩
    subst hcn
    have hok := d1_ok (S := S) (k := cn) (by omega)
    have hcl := hR.c1 cn (by omega)
    have hux9 : nd 10000 (ux (d1 S cn)) ≤ 81 := (okD_ns hok.1).2.1
    have huy9 : nd 10000 (uy (d1 S cn)) ≤ 81 := (okD_ns hok.1).2.2
    have hnx : num (A (o + 2)) (2 * (cn : Int)) (ux (d1 S cn)) := hcl.2.2.1
    have hny : num (A (o + 2)) (2 * (cn : Int) + 1) (uy (d1 S cn)) := hcl.2.2.2
    have hcf := (okD_cf hok.1).1
    have hRb := hcf.2.2.2.2.2.1
    refine ZE.iload_n d_Ref_entry_8 rfl ?_
    refine ZE.i2l d_Ref_entry_9 hp ?_
    refine ZE.ldc2 (v := 2) d_Ref_entry_10 k_Ref_181 ?_
    refine ZE.ldc2 (v := 97) d_Ref_entry_13 k_Ref_328 ?_
    refine ZE.cS [(1, p), (1, 2), (1, 97)] [] [(1, p), (9, 0), (1, 2), (9, 0), (1, 97), (9, 0)] d_Ref_entry_16 l_Ref_111 rfl rfl rfl rfl rfl rfl ?_
    refine r_isIn (by unfold zR at hp; unfold zR64; omega) (by unfold zR64; omega) (by unfold zR64; omega) ?_
    show ZE (d + 4) M_Ref_entry (gw G A) 19 [(2, o), (0, (cn : Int)), (0, p), (9, 0), (9, 0), (9, 0), (9, 0), (9, 0)] [(0, b2i (2 ≤ p ∧ p ≤ 97))] _
    refine ZE.if_eq (tgt := 29) d_Ref_entry_19 rfl (zR_b2i _) (fun c19 => ?_) (fun c19 => ?_)
    · replace c19 := b2i_0.mp c19
      refine ZE.iconst (n := (-1)) d_Ref_entry_29 ?_
      refine ZE.iret d_Ref_entry_30 rfl ?_
      have e0 : inC S (cn : Int) = true := decide_eq_true (by omega)
      rw [show enV S (cn : Int) p = -1 by unfold enV; rw [if_pos e0]; exact if_neg (fun q => by first | exact c19 q.1 | (rw [Int.toNat_natCast] at q; exact c26 (prB_iff.mp q.2)))] at k
      exact k
    · replace c19 := b2i_n0.mp c19
      have hpr : 2 ≤ p ∧ p ≤ 97 := c19
      obtain ⟨pm, hpm⟩ : ∃ pm : Nat, p = pm := ⟨p.toNat, by omega⟩
      subst hpm
      refine ZE.iload_n d_Ref_entry_22 rfl ?_
      refine ZE.cS [(0, (pm : Int))] [] [(0, (pm : Int)), (9, 0)] d_Ref_entry_23 l_Ref_322 rfl rfl rfl rfl rfl rfl ?_
      refine r_isPrime (n := pm) (by omega) ?_
      show ZE (d + 4) M_Ref_entry (gw G A) 26 [(2, o), (0, (cn : Int)), (0, (pm : Int)), (9, 0), (9, 0), (9, 0), (9, 0), (9, 0)] [(0, b2i (prm pm))] _
      refine ZE.if_ne (tgt := 31) d_Ref_entry_26 rfl (zR_b2i _) (fun c26 => ?_) (fun c26 => ?_)
      · replace c26 := b2i_n0.mp c26
        refine ZE.aload_n d_Ref_entry_31 rfl ?_
        refine ZE.iconst (n := 2) d_Ref_entry_32 ?_
        refine ZE.iload_n d_Ref_entry_33 rfl ?_
        refine ZE.imul d_Ref_entry_34 ?_
        refine ZE.iload_n d_Ref_entry_35 rfl ?_
        have hxm : ux (d1 S cn) % pm < pm := Nat.mod_lt _ (by omega)
        have hym : uy (d1 S cn) % pm < pm := Nat.mod_lt _ (by omega)
        refine ZE.cV [(0, 2 * (cn : Int)), (0, (pm : Int))] [] [(2, o), (0, 2 * (cn : Int)), (0, (pm : Int)), (9, 0), (9, 0), (9, 0)] d_Ref_entry_36 l_Ref_254 rfl rfl rfl rfl rfl rfl hK.1 ?_
        refine r_modOf (v := ux (d1 S cn)) (m := pm) hK hF (by omega) hnx (by omega) (by omega) (by omega) ?_
        show ZE (d + 4) M_Ref_entry (gw G A) 39 [(2, o), (0, (cn : Int)), (0, (pm : Int)), (9, 0), (9, 0), (9, 0), (9, 0), (9, 0)] [(0, ((ux (d1 S cn) % pm : Nat) : Int))] _
        refine ZE.istore_n (ls2 := [(2, o), (0, (cn : Int)), (0, (pm : Int)), (0, ((ux (d1 S cn) % pm : Nat) : Int)), (9, 0), (9, 0), (9, 0), (9, 0)]) d_Ref_entry_39 (Nat.le_of_ble_eq_true rfl) rfl ?_
        refine ZE.iconst (n := 0) d_Ref_entry_40 ?_
        refine ZE.istore (ls2 := [(2, o), (0, (cn : Int)), (0, (pm : Int)), (0, ((ux (d1 S cn) % pm : Nat) : Int)), (0, 0), (9, 0), (9, 0), (9, 0)]) d_Ref_entry_41 (Nat.le_of_ble_eq_true rfl) rfl ?_
        refine ZE.aload_n d_Ref_entry_43 rfl ?_
        refine ZE.iconst (n := 2) d_Ref_entry_44 ?_
        refine ZE.iload_n d_Ref_entry_45 rfl ?_
        refine ZE.imul d_Ref_entry_46 ?_
        refine ZE.iconst (n := 1) d_Ref_entry_47 ?_
        refine ZE.iadd d_Ref_entry_48 ?_
        refine ZE.iload_n d_Ref_entry_49 rfl ?_
        refine ZE.cV [(0, (2 * (cn : Int)) + 1), (0, (pm : Int))] [] [(2, o), (0, (2 * (cn : Int)) + 1), (0, (pm : Int)), (9, 0), (9, 0), (9, 0)] d_Ref_entry_50 l_Ref_254 rfl rfl rfl rfl rfl rfl hK.1 ?_
        refine r_modOf (v := uy (d1 S cn)) (m := pm) hK hF (by omega) hny (by omega) (by omega) (by omega) ?_
        show ZE (d + 4) M_Ref_entry (gw G A) 53 [(2, o), (0, (cn : Int)), (0, (pm : Int)), (0, ((ux (d1 S cn) % pm : Nat) : Int)), (0, 0), (9, 0), (9, 0), (9, 0)] [(0, ((uy (d1 S cn) % pm : Nat) : Int))] _
        refine ZE.istore (ls2 := [(2, o), (0, (cn : Int)), (0, (pm : Int)), (0, ((ux (d1 S cn) % pm : Nat) : Int)), (0, 0), (0, ((uy (d1 S cn) % pm : Nat) : Int)), (9, 0), (9, 0)]) d_Ref_entry_53 (Nat.le_of_ble_eq_true rfl) rfl ?_
        refine ZE.iconst (n := 1) d_Ref_entry_55 ?_
        refine ZE.istore (ls2 := [(2, o), (0, (cn : Int)), (0, (pm : Int)), (0, ((ux (d1 S cn) % pm : Nat) : Int)), (0, 0), (0, ((uy (d1 S cn) % pm : Nat) : Int)), (0, 1), (9, 0)]) d_Ref_entry_56 (Nat.le_of_ble_eq_true rfl) rfl ?_
        have L58 : ∀ (t : Nat) (j : Nat) (hj : j ≤ 200) (hfa : fsA (enB S cn pm) 1 200 = fsA (enB S cn pm) (j + 1) (200 - j)), 200 - j < t → ZE (d + 4) M_Ref_entry (gw G A) 58 [(2, o), (0, (cn : Int)), (0, (pm : Int)), (0, ((ux (d1 S cn) % pm : Nat) : Int)), (0, (enF ((ux (d1 S cn) % pm : Nat) : Int) ((uy (d1 S cn) % pm : Nat) : Int) (pm : Int) j).1), (0, (enF ((ux (d1 S cn) % pm : Nat) : Int) ((uy (d1 S cn) % pm : Nat) : Int) (pm : Int) j).2), (0, (j : Int) + 1), (9, 0)] [] P := by
          intro t
          induction t with
          | zero => intro j hj hfa hm; exact absurd hm (Nat.not_lt_zero _)
          | succ t ih =>
            intro j hj hfa hm
            have her := enF_R (x1 := ((ux (d1 S cn) % pm : Nat) : Int)) (y1 := ((uy (d1 S cn) % pm : Nat) : Int)) (p := (pm : Int)) (by omega) (by omega) j
            have hxz : 0 ≤ 2 * ((ux (d1 S cn) % pm : Nat) : Int) * (enF ((ux (d1 S cn) % pm : Nat) : Int) ((uy (d1 S cn) % pm : Nat) : Int) (pm : Int) j).2 := Int.mul_nonneg (by omega) (by omega)
            have hxt : 2 * ((ux (d1 S cn) % pm : Nat) : Int) * (enF ((ux (d1 S cn) % pm : Nat) : Int) ((uy (d1 S cn) % pm : Nat) : Int) (pm : Int) j).2 ≤ 200 * 100 := Int.mul_le_mul (by omega) (by omega) (by omega) (by omega)
            have htm1 := Int.lt_tmod_of_pos (2 * ((ux (d1 S cn) % pm : Nat) : Int) * (enF ((ux (d1 S cn) % pm : Nat) : Int) ((uy (d1 S cn) % pm : Nat) : Int) (pm : Int) j).2 - (enF ((ux (d1 S cn) % pm : Nat) : Int) ((uy (d1 S cn) % pm : Nat) : Int) (pm : Int) j).1) (show 0 < (pm : Int) by omega)
            have htm2 := Int.tmod_lt_of_pos (2 * ((ux (d1 S cn) % pm : Nat) : Int) * (enF ((ux (d1 S cn) % pm : Nat) : Int) ((uy (d1 S cn) % pm : Nat) : Int) (pm : Int) j).2 - (enF ((ux (d1 S cn) % pm : Nat) : Int) ((uy (d1 S cn) % pm : Nat) : Int) (pm : Int) j).1) (show 0 < (pm : Int) by omega)
            refine ZE.iload d_Ref_entry_58 rfl ?_
            refine ZE.sipush (n := 200) d_Ref_entry_60 rfl ?_
            refine ZE.icmp_gt (tgt := 113) d_Ref_entry_63 rfl (by unfold zR; omega) (by unfold zR; omega) (fun c63 => ?_) (fun c63 => ?_)
            · refine ZE.iconst (n := (-1)) d_Ref_entry_113 ?_
              refine ZE.iret d_Ref_entry_114 rfl ?_
              have e0 : inC S (cn : Int) = true := decide_eq_true (by omega)
              rw [show enV S (cn : Int) (pm : Int) = fsA (enB S cn pm) 1 200 by unfold enV; rw [if_pos e0, Int.toNat_natCast, Int.toNat_natCast, if_pos ⟨hpr, prB_iff.mpr c26⟩], hfa, show 200 - j = 0 by omega] at k
              exact k
            · refine ZE.iload d_Ref_entry_66 rfl ?_
              refine ZE.if_ne (tgt := 74) d_Ref_entry_68 rfl (by unfold zR; omega) (fun c68 => ?_) (fun c68 => ?_)
              · refine ZE.iconst (n := 2) d_Ref_entry_74 ?_
                refine ZE.iload_n d_Ref_entry_75 rfl ?_
                refine ZE.imul d_Ref_entry_76 ?_
                refine ZE.iload d_Ref_entry_77 rfl ?_
                refine ZE.imul d_Ref_entry_79 ?_
                refine ZE.iload d_Ref_entry_80 rfl ?_
                refine ZE.isub d_Ref_entry_82 ?_
                refine ZE.iload_n d_Ref_entry_83 rfl ?_
                refine ZE.irem d_Ref_entry_84 (by unfold zR; omega) (by unfold zR; omega) (by omega) ?_
                refine ZE.istore (ls2 := [(2, o), (0, (cn : Int)), (0, (pm : Int)), (0, ((ux (d1 S cn) % pm : Nat) : Int)), (0, (enF ((ux (d1 S cn) % pm : Nat) : Int) ((uy (d1 S cn) % pm : Nat) : Int) (pm : Int) j).1), (0, (enF ((ux (d1 S cn) % pm : Nat) : Int) ((uy (d1 S cn) % pm : Nat) : Int) (pm : Int) j).2), (0, (j : Int) + 1), (0, (((2 * ((ux (d1 S cn) % pm : Nat) : Int)) * ((enF ((ux (d1 S cn) % pm : Nat) : Int) ((uy (d1 S cn) % pm : Nat) : Int) (pm : Int) j).2)) - ((enF ((ux (d1 S cn) % pm : Nat) : Int) ((uy (d1 S cn) % pm : Nat) : Int) (pm : Int) j).1)).tmod (pm : Int))]) d_Ref_entry_85 (Nat.le_of_ble_eq_true rfl) rfl ?_
                refine ZE.iload d_Ref_entry_87 rfl ?_
                refine ZE.istore (ls2 := [(2, o), (0, (cn : Int)), (0, (pm : Int)), (0, ((ux (d1 S cn) % pm : Nat) : Int)), (0, (enF ((ux (d1 S cn) % pm : Nat) : Int) ((uy (d1 S cn) % pm : Nat) : Int) (pm : Int) j).2), (0, (enF ((ux (d1 S cn) % pm : Nat) : Int) ((uy (d1 S cn) % pm : Nat) : Int) (pm : Int) j).2), (0, (j : Int) + 1), (0, (((2 * ((ux (d1 S cn) % pm : Nat) : Int)) * ((enF ((ux (d1 S cn) % pm : Nat) : Int) ((uy (d1 S cn) % pm : Nat) : Int) (pm : Int) j).2)) - ((enF ((ux (d1 S cn) % pm : Nat) : Int) ((uy (d1 S cn) % pm : Nat) : Int) (pm : Int) j).1)).tmod (pm : Int))]) d_Ref_entry_89 (Nat.le_of_ble_eq_true rfl) rfl ?_
                refine ZE.iload d_Ref_entry_91 rfl ?_
                refine ZE.if_ge (tgt := 103) d_Ref_entry_93 rfl (by unfold zR; omega) (fun c93 => ?_) (fun c93 => ?_)
                · refine ZE.iload d_Ref_entry_103 rfl ?_
                  refine ZE.istore (ls2 := [(2, o), (0, (cn : Int)), (0, (pm : Int)), (0, ((ux (d1 S cn) % pm : Nat) : Int)), (0, (enF ((ux (d1 S cn) % pm : Nat) : Int) ((uy (d1 S cn) % pm : Nat) : Int) (pm : Int) j).2), (0, (((2 * ((ux (d1 S cn) % pm : Nat) : Int)) * ((enF ((ux (d1 S cn) % pm : Nat) : Int) ((uy (d1 S cn) % pm : Nat) : Int) (pm : Int) j).2)) - ((enF ((ux (d1 S cn) % pm : Nat) : Int) ((uy (d1 S cn) % pm : Nat) : Int) (pm : Int) j).1)).tmod (pm : Int)), (0, (j : Int) + 1), (0, (((2 * ((ux (d1 S cn) % pm : Nat) : Int)) * ((enF ((ux (d1 S cn) % pm : Nat) : Int) ((uy (d1 S cn) % pm : Nat) : Int) (pm : Int) j).2)) - ((enF ((ux (d1 S cn) % pm : Nat) : Int) ((uy (d1 S cn) % pm : Nat) : Int) (pm : Int) j).1)).tmod (pm : Int))]) d_Ref_entry_105 (Nat.le_of_ble_eq_true rfl) rfl ?_
                  refine ZE.iinc (ls2 := [(2, o), (0, (cn : Int)), (0, (pm : Int)), (0, ((ux (d1 S cn) % pm : Nat) : Int)), (0, (enF ((ux (d1 S cn) % pm : Nat) : Int) ((uy (d1 S cn) % pm : Nat) : Int) (pm : Int) j).2), (0, (((2 * ((ux (d1 S cn) % pm : Nat) : Int)) * ((enF ((ux (d1 S cn) % pm : Nat) : Int) ((uy (d1 S cn) % pm : Nat) : Int) (pm : Int) j).2)) - ((enF ((ux (d1 S cn) % pm : Nat) : Int) ((uy (d1 S cn) % pm : Nat) : Int) (pm : Int) j).1)).tmod (pm : Int)), (0, ((j : Int) + 1) + 1), (0, (((2 * ((ux (d1 S cn) % pm : Nat) : Int)) * ((enF ((ux (d1 S cn) % pm : Nat) : Int) ((uy (d1 S cn) % pm : Nat) : Int) (pm : Int) j).2)) - ((enF ((ux (d1 S cn) % pm : Nat) : Int) ((uy (d1 S cn) % pm : Nat) : Int) (pm : Int) j).1)).tmod (pm : Int))]) d_Ref_entry_107 rfl rfl ?_
                  refine ZE.goto (tgt := 58) d_Ref_entry_110 rfl ?_
                  refine ZE.mask [true, true, true, true, true, true, true, false] ?_
                  show ZE (d + 4) M_Ref_entry (gw G A) 58 [(2, o), (0, (cn : Int)), (0, (pm : Int)), (0, ((ux (d1 S cn) % pm : Nat) : Int)), (0, (enF ((ux (d1 S cn) % pm : Nat) : Int) ((uy (d1 S cn) % pm : Nat) : Int) (pm : Int) j).2), (0, (((2 * ((ux (d1 S cn) % pm : Nat) : Int)) * ((enF ((ux (d1 S cn) % pm : Nat) : Int) ((uy (d1 S cn) % pm : Nat) : Int) (pm : Int) j).2)) - ((enF ((ux (d1 S cn) % pm : Nat) : Int) ((uy (d1 S cn) % pm : Nat) : Int) (pm : Int) j).1)).tmod (pm : Int)), (0, ((j : Int) + 1) + 1), (9, 0)] [] _
                  rw [show (((2 * ((ux (d1 S cn) % pm : Nat) : Int)) * ((enF ((ux (d1 S cn) % pm : Nat) : Int) ((uy (d1 S cn) % pm : Nat) : Int) (pm : Int) j).2)) - ((enF ((ux (d1 S cn) % pm : Nat) : Int) ((uy (d1 S cn) % pm : Nat) : Int) (pm : Int) j).1)).tmod (pm : Int) = (enF ((ux (d1 S cn) % pm : Nat) : Int) ((uy (d1 S cn) % pm : Nat) : Int) (pm : Int) (j + 1)).2 from by show _ = (2 * ((ux (d1 S cn) % pm : Nat) : Int) * (enF ((ux (d1 S cn) % pm : Nat) : Int) ((uy (d1 S cn) % pm : Nat) : Int) (pm : Int) j).2 - (enF ((ux (d1 S cn) % pm : Nat) : Int) ((uy (d1 S cn) % pm : Nat) : Int) (pm : Int) j).1) % (pm : Int); first | exact (tm_adj (by omega)).1 (by omega) | exact (tm_adj (by omega)).2 (by omega), show (enF ((ux (d1 S cn) % pm : Nat) : Int) ((uy (d1 S cn) % pm : Nat) : Int) (pm : Int) j).2 = (enF ((ux (d1 S cn) % pm : Nat) : Int) ((uy (d1 S cn) % pm : Nat) : Int) (pm : Int) (j + 1)).1 from rfl, show (j : Int) + 1 + 1 = ((j + 1 : Nat) : Int) + 1 by omega]
                  refine ih (j + 1) (by omega) ?_ (by omega)
                  rw [hfa, fsA_go (show ¬ enB S cn pm (j + 1) = true from fun q => c68 (of_decide_eq_true q)) (by omega), show 200 - j - 1 = 200 - (j + 1) by omega]
                · refine ZE.iload d_Ref_entry_96 rfl ?_
                  refine ZE.iload_n d_Ref_entry_98 rfl ?_
                  refine ZE.iadd d_Ref_entry_99 ?_
                  refine ZE.goto (tgt := 105) d_Ref_entry_100 rfl ?_
                  refine ZE.istore (ls2 := [(2, o), (0, (cn : Int)), (0, (pm : Int)), (0, ((ux (d1 S cn) % pm : Nat) : Int)), (0, (enF ((ux (d1 S cn) % pm : Nat) : Int) ((uy (d1 S cn) % pm : Nat) : Int) (pm : Int) j).2), (0, ((((2 * ((ux (d1 S cn) % pm : Nat) : Int)) * ((enF ((ux (d1 S cn) % pm : Nat) : Int) ((uy (d1 S cn) % pm : Nat) : Int) (pm : Int) j).2)) - ((enF ((ux (d1 S cn) % pm : Nat) : Int) ((uy (d1 S cn) % pm : Nat) : Int) (pm : Int) j).1)).tmod (pm : Int)) + (pm : Int)), (0, (j : Int) + 1), (0, (((2 * ((ux (d1 S cn) % pm : Nat) : Int)) * ((enF ((ux (d1 S cn) % pm : Nat) : Int) ((uy (d1 S cn) % pm : Nat) : Int) (pm : Int) j).2)) - ((enF ((ux (d1 S cn) % pm : Nat) : Int) ((uy (d1 S cn) % pm : Nat) : Int) (pm : Int) j).1)).tmod (pm : Int))]) d_Ref_entry_105 (Nat.le_of_ble_eq_true rfl) rfl ?_
                  refine ZE.iinc (ls2 := [(2, o), (0, (cn : Int)), (0, (pm : Int)), (0, ((ux (d1 S cn) % pm : Nat) : Int)), (0, (enF ((ux (d1 S cn) % pm : Nat) : Int) ((uy (d1 S cn) % pm : Nat) : Int) (pm : Int) j).2), (0, ((((2 * ((ux (d1 S cn) % pm : Nat) : Int)) * ((enF ((ux (d1 S cn) % pm : Nat) : Int) ((uy (d1 S cn) % pm : Nat) : Int) (pm : Int) j).2)) - ((enF ((ux (d1 S cn) % pm : Nat) : Int) ((uy (d1 S cn) % pm : Nat) : Int) (pm : Int) j).1)).tmod (pm : Int)) + (pm : Int)), (0, ((j : Int) + 1) + 1), (0, (((2 * ((ux (d1 S cn) % pm : Nat) : Int)) * ((enF ((ux (d1 S cn) % pm : Nat) : Int) ((uy (d1 S cn) % pm : Nat) : Int) (pm : Int) j).2)) - ((enF ((ux (d1 S cn) % pm : Nat) : Int) ((uy (d1 S cn) % pm : Nat) : Int) (pm : Int) j).1)).tmod (pm : Int))]) d_Ref_entry_107 rfl rfl ?_
                  refine ZE.goto (tgt := 58) d_Ref_entry_110 rfl ?_
                  refine ZE.mask [true, true, true, true, true, true, true, false] ?_
                  show ZE (d + 4) M_Ref_entry (gw G A) 58 [(2, o), (0, (cn : Int)), (0, (pm : Int)), (0, ((ux (d1 S cn) % pm : Nat) : Int)), (0, (enF ((ux (d1 S cn) % pm : Nat) : Int) ((uy (d1 S cn) % pm : Nat) : Int) (pm : Int) j).2), (0, ((((2 * ((ux (d1 S cn) % pm : Nat) : Int)) * ((enF ((ux (d1 S cn) % pm : Nat) : Int) ((uy (d1 S cn) % pm : Nat) : Int) (pm : Int) j).2)) - ((enF ((ux (d1 S cn) % pm : Nat) : Int) ((uy (d1 S cn) % pm : Nat) : Int) (pm : Int) j).1)).tmod (pm : Int)) + (pm : Int)), (0, ((j : Int) + 1) + 1), (9, 0)] [] _
                  rw [show ((((2 * ((ux (d1 S cn) % pm : Nat) : Int)) * ((enF ((ux (d1 S cn) % pm : Nat) : Int) ((uy (d1 S cn) % pm : Nat) : Int) (pm : Int) j).2)) - ((enF ((ux (d1 S cn) % pm : Nat) : Int) ((uy (d1 S cn) % pm : Nat) : Int) (pm : Int) j).1)).tmod (pm : Int)) + (pm : Int) = (enF ((ux (d1 S cn) % pm : Nat) : Int) ((uy (d1 S cn) % pm : Nat) : Int) (pm : Int) (j + 1)).2 from by show _ = (2 * ((ux (d1 S cn) % pm : Nat) : Int) * (enF ((ux (d1 S cn) % pm : Nat) : Int) ((uy (d1 S cn) % pm : Nat) : Int) (pm : Int) j).2 - (enF ((ux (d1 S cn) % pm : Nat) : Int) ((uy (d1 S cn) % pm : Nat) : Int) (pm : Int) j).1) % (pm : Int); first | exact (tm_adj (by omega)).1 (by omega) | exact (tm_adj (by omega)).2 (by omega), show (enF ((ux (d1 S cn) % pm : Nat) : Int) ((uy (d1 S cn) % pm : Nat) : Int) (pm : Int) j).2 = (enF ((ux (d1 S cn) % pm : Nat) : Int) ((uy (d1 S cn) % pm : Nat) : Int) (pm : Int) (j + 1)).1 from rfl, show (j : Int) + 1 + 1 = ((j + 1 : Nat) : Int) + 1 by omega]
                  refine ih (j + 1) (by omega) ?_ (by omega)
                  rw [hfa, fsA_go (show ¬ enB S cn pm (j + 1) = true from fun q => c68 (of_decide_eq_true q)) (by omega), show 200 - j - 1 = 200 - (j + 1) by omega]
              · refine ZE.iload d_Ref_entry_71 rfl ?_
                refine ZE.iret d_Ref_entry_73 rfl ?_
                have e0 : inC S (cn : Int) = true := decide_eq_true (by omega)
                rw [show enV S (cn : Int) (pm : Int) = fsA (enB S cn pm) 1 200 by unfold enV; rw [if_pos e0, Int.toNat_natCast, Int.toNat_natCast, if_pos ⟨hpr, prB_iff.mpr c26⟩], hfa, fsA_stop (show enB S cn pm (j + 1) = true from decide_eq_true (by rw [Nat.add_sub_cancel]; omega)) (by omega)] at k
                exact k
        exact L58 _ 0 (by omega) rfl (Nat.lt_succ_self _)
      · replace c26 := b2i_0.mp c26
        refine ZE.iconst (n := (-1)) d_Ref_entry_29 ?_
        refine ZE.iret d_Ref_entry_30 rfl ?_
        have e0 : inC S (cn : Int) = true := decide_eq_true (by omega)
        rw [show enV S (cn : Int) (pm : Int) = -1 by unfold enV; rw [if_pos e0]; exact if_neg (fun q => by first | exact c19 q.1 | (rw [Int.toNat_natCast] at q; exact c26 (prB_iff.mp q.2)))] at k
        exact k
