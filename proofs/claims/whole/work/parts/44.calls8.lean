/-! ===== the calls, 8 ===== -/
theorem CS_tell {I : It} {R : Rt} {Z : Zt} {S : AS} {x : Int32} (h : CS I R Z S) (hn : (sW S).1 < 60) : CS (sI (sI I 23 0 (sW S).1 x) 8 0 11 (nI ((sW S).1 + 1))) R Z (op_tell S x).1 := by
  obtain ⟨h1, h2, h3, h4, h5, h6, h7, h8, h9, h10, h11⟩ := h
  have e : ∀ t i, ¬ ((t = 23 ∨ t = 8) ∧ i = 0) → sI (sI I 23 0 (sW S).1 x) 8 0 11 (nI ((sW S).1 + 1)) t i = I t i := fun t i hti => by rw [sI_n (by omega), sI_n (by omega)]
  unfold op_tell
  rw [if_pos hn]
  refine ⟨h1, h2.keep h3.1 (fun t i hti => e t i (by unfold own at hti; omega)) (fun _ _ _ => rfl), h3, fun z => ⟨(h4 z).1.keep (h4 z).2.1 (fun t i hti => e t i (by unfold own at hti; omega)) (fun _ _ _ => rfl), (h4 z).2⟩, ⟨?_, h5.2⟩, by rw [e 6 0 (by omega), e 20 0 (by omega)]; exact h6, fun i hi => (h7 i hi).keep (e 4 i (by omega)) (e 26 i (by omega)), fun i hi => (h8 i hi).keep (e 5 i (by omega)) (e 3 _ (by omega)) (e 4 _ (by omega)) (e 26 _ (by omega)), ⟨?_, hn, fun j hj => ?_⟩, h10, h11⟩
  · rw [sI_s, upd, if_neg (by decide), sI_n (by omega)]
    exact h5.1
  · rw [sI_s, upd, if_pos rfl]
  · have hj2 : j < (sW S).1 + 1 := hj
    show _ = if j = (sW S).1 then x else (sW S).2 j
    rw [sI_n (by omega), sI_s]
    unfold upd
    by_cases e2 : j = (sW S).1
    · rw [if_pos e2, if_pos e2]
    · rw [if_neg e2, if_neg e2]
      exact h9.2.2 j (by omega)
def wayV (V : Mc) (q : Nat) : Nat → Nat → Nat → Int32
  | 0, _, _ => -1000000005
  | n + 1, r, m => if m.testBit q = true then nI r else wayV V q n (r + 1) (nbL V m (nB V))
def op_way (S : AS) (x y : Int32) : AS × Int32 := (S, if inR x (nP (sM S)) ∧ inR y (nP (sM S)) then wayV (sM S) (ix y) 12 0 (1 * 2 ^ ix x) else -1000000001)
theorem c_Pb_tell {l : Launch} {E : En} {d : Nat} {I : It} {L : Lt} {R : Rt} {Z : Zt} {Q : Qt} {S : AS} (hCS : CS I R Z S) {x : Int32} (hQ : ∀ I2 L2 R2, CS I2 R2 Z (op_tell S x).1 → KM I L R I2 L2 R2 → Q (some (vi (op_tell S x).2)) I2 L2 R2 Z) : AMet l E d M_Pb_tell [vr 8 0, vi x] I L R Z Q := by
  have hS := hCS.1
  have hC := hCS.2.1
  have hW := hCS.2.2.1.1
  have hWn := hW.1
  have hWt := hCS.2.2.2.2.2.2.2.2.1
  have hcnt := hWt.1
  refine AMet.of mf_Pb_tell rfl (Nat.le_of_ble_eq_true rfl) ?_
  refine aw_aload_n e_Pb_tell_0 rfl ?_
  refine aw_getE e_Pb_tell_1 fl_Pb_313 hcnt ?_
  refine aw_bipush (v := nI 60) e_Pb_tell_4 (by decide) ?_
  refine awN_icmp_lt e_Pb_tell_6 (by omega) (by omega) (fun h6 => ?_) (fun h6 => ?_)
  · refine aw_aload_n e_Pb_tell_12 rfl ?_
    refine aw_getR e_Pb_tell_13 fl_Pb_50 (hS.1 _ _ _ _ rfl) ?_
    refine aw_aload_n e_Pb_tell_16 rfl ?_
    refine aw_getE e_Pb_tell_17 fl_Pb_313 hcnt ?_
    refine aw_iload_n e_Pb_tell_20 rfl ?_
    refine aw_iast e_Pb_tell_21 rfl (show _ < 60 by omega) (by omega) ?_
    replace hcnt : sI I 23 0 (sW S).1 x 8 0 11 = nI (sW S).1 := by rw [sI_n (by omega)]; exact hWt.1
    refine aw_aload_n e_Pb_tell_22 rfl ?_
    refine aw_dup e_Pb_tell_23 rfl ?_
    refine aw_getE e_Pb_tell_24 fl_Pb_313 hcnt ?_
    refine aw_iconst (v := nI 1) e_Pb_tell_27 (by decide) ?_
    first | refine awN_iadd e_Pb_tell_28 ?_ | refine aw_iadd e_Pb_tell_28 ?_
    refine aw_putI e_Pb_tell_29 fl_Pb_313 ?_
    replace hcnt : sI (sI I 23 0 (sW S).1 x) 8 0 11 (nI ((sW S).1 + 1)) 8 0 11 = nI ((sW S).1 + 1) := by rw [sI_s, upd, if_pos rfl]
    refine aw_aload_n e_Pb_tell_32 rfl ?_
    refine aw_getE e_Pb_tell_33 fl_Pb_313 hcnt ?_
    have hq := hQ _ L R (CS_tell hCS h6) (fun t i ht => ⟨by rw [sI_n (by omega), sI_n (by omega)], rfl, rfl⟩)
    unfold op_tell at hq
    rw [if_pos h6] at hq
    exact aw_iret e_Pb_tell_36 rfl rfl hq
  · refine aw_ldc (v := -1000000003) e_Pb_tell_9 kc_Pb_79 ?_
    have hq := hQ I L R
    unfold op_tell at hq
    first
      | (rw [if_neg (by omega)] at hq; exact aw_iret e_Pb_tell_11 rfl rfl (hq hCS KM_0))
theorem c_Pb_way {l : Launch} {E : En} {d : Nat} {I : It} {L : Lt} {R : Rt} {Z : Zt} {Q : Qt} {S : AS} (hCS : CS I R Z S) {x y : Int32} (hQ : ∀ I2 L2 R2, CS I2 R2 Z (op_way S x y).1 → KM I L R I2 L2 R2 → Q (some (vi (op_way S x y).2)) I2 L2 R2 Z) : AMet l E (d + 1) M_Pb_way [vr 8 0, vi x, vi y] I L R Z Q := by
  have hS := hCS.1
  have hC := hCS.2.1
  have hW := hCS.2.2.1.1
  have hWn := hW.1
  refine AMet.of mf_Pb_way rfl (Nat.le_of_ble_eq_true rfl) ?_
  refine aw_aload_n e_Pb_way_0 rfl ?_
  refine aw_getR e_Pb_way_1 fl_Pb_10 (hS.1 _ _ _ _ rfl) ?_
  refine aw_iload_n e_Pb_way_4 rfl ?_
  refine aw_cV1 e_Pb_way_5 ml_Pb_90 mf_Ma_hasPart mv_Ma_hasPart (c_Ma_hasPart hS (by decide) hC hW ?_)
  refine awB_eq e_Pb_way_8 (fun h8 => ?_) (fun h8 => ?_)
  · refine aw_ldc (v := -1000000001) e_Pb_way_22 kc_Pb_74 ?_
    have hq := hQ _ _ _ hCS KM_0
    unfold op_way at hq
    first
      | (rw [if_neg (fun w => h8 w.1)] at hq; exact aw_iret e_Pb_way_24 rfl rfl hq)
      | (rw [if_neg (fun w => h19 w.2)] at hq; exact aw_iret e_Pb_way_24 rfl rfl hq)
  · refine aw_aload_n e_Pb_way_11 rfl ?_
    refine aw_getR e_Pb_way_12 fl_Pb_10 (hS.1 _ _ _ _ rfl) ?_
    refine aw_iload_n e_Pb_way_15 rfl ?_
    refine aw_cV1 e_Pb_way_16 ml_Pb_90 mf_Ma_hasPart mv_Ma_hasPart (c_Ma_hasPart hS (by decide) hC hW ?_)
    refine awB_ne e_Pb_way_19 (fun h19 => ?_) (fun h19 => ?_)
    · obtain ⟨p, hp, rfl⟩ := inR_nI h8
      obtain ⟨q, hq2, rfl⟩ := inR_nI h19
      have hpw : 2 ^ p < 4096 := Nat.pow_lt_pow_right (show 1 < 2 by decide) (show p < 12 by omega)
      have hq := hQ _ _ _ hCS KM_0
      unfold op_way at hq
      rw [if_pos ⟨h8, h19⟩, ix_n (j := p) (by omega), ix_n (j := q) (by omega)] at hq
      refine aw_iconst (v := nI 1) e_Pb_way_25 (by decide) ?_
      refine aw_iload_n e_Pb_way_26 rfl ?_
      refine aw_ishl e_Pb_way_27 ?_
      rw [shlS (by omega) (by omega)]
      refine aw_ist3 e_Pb_way_28 ?_
      refine aw_iconst (v := nI 0) e_Pb_way_29 (by decide) ?_
      refine aw_ist4 e_Pb_way_30 ?_
      refine up_loop (P := fun i => ∀ m, m < 4096 → wayV (sM S) q (12 - i) i m = wayV (sM S) q 12 0 (1 * 2 ^ p) → AWq l E (d + 1) M_Pb_way Z 32 [some (vr 8 0), some (vi (nI p)), some (vi (nI q)), some (vi (nI m)), some (vi (nI i))] [] I L R Z Q) (N := 12) (fun i hi ih m hm hv => ?_) 0 (by decide) _ (by omega) rfl
      refine aw_iload e_Pb_way_32 rfl ?_
      refine aw_bipush (v := nI 12) e_Pb_way_34 (by decide) ?_
      refine awN_icmp_ge e_Pb_way_36 (by omega) (by omega) (fun h36 => ?_) (fun h36 => ?_)
      · refine aw_ldc (v := -1000000005) e_Pb_way_66 kc_Pb_230 ?_
        rw [show 12 - i = 0 by omega, wayV] at hv
        rw [← hv] at hq
        exact aw_iret e_Pb_way_68 rfl rfl hq
      · refine aw_iload_n e_Pb_way_39 rfl ?_
        refine aw_iload_n e_Pb_way_40 rfl ?_
        refine aw_ishr e_Pb_way_41 ?_
        rw [shrS (by omega) (by omega)]
        refine aw_iconst (v := nI 1) e_Pb_way_42 (by decide) ?_
        refine aw_iand e_Pb_way_43 ?_
        rw [and1 _ (Nat.lt_of_le_of_lt (Nat.div_le_self _ _) (by omega))]
        refine aw_iconst (v := nI 1) e_Pb_way_44 (by decide) ?_
        refine awN_icmp_ne e_Pb_way_45 (by omega) (by omega) (fun h45 => ?_) (fun h45 => ?_)
        · refine aw_aload_n e_Pb_way_51 rfl ?_
          refine aw_getR e_Pb_way_52 fl_Pb_10 (hS.1 _ _ _ _ rfl) ?_
          refine aw_iload_n e_Pb_way_55 rfl ?_
          refine aw_cV1 e_Pb_way_56 ml_Pb_250 mf_Ma_withNeighbours mv_Ma_withNeighbours (c_Ma_withNeighbours hS (by decide) hC hW hm ?_)
          refine aw_ist3 e_Pb_way_59 ?_
          refine aw_inc4 e_Pb_way_60 (inc1 _) ?_
          refine aw_goto e_Pb_way_63 ?_
          rw [show 12 - i = 11 - i + 1 by omega, wayV, if_neg (fun w => h45 ((tbit _ _).2 w))] at hv
          exact ih h36 _ (nbL_lt hW hm _ (Nat.le_refl _)) (by rw [show 12 - (i + 1) = 11 - i by omega]; exact hv)
        · refine aw_iload e_Pb_way_48 rfl ?_
          rw [show 12 - i = 11 - i + 1 by omega, wayV, if_pos ((tbit _ _).1 h45)] at hv
          rw [← hv] at hq
          exact aw_iret e_Pb_way_50 rfl rfl hq
    · refine aw_ldc (v := -1000000001) e_Pb_way_22 kc_Pb_74 ?_
      have hq := hQ _ _ _ hCS KM_0
      unfold op_way at hq
      first
        | (rw [if_neg (fun w => h8 w.1)] at hq; exact aw_iret e_Pb_way_24 rfl rfl hq)
        | (rw [if_neg (fun w => h19 w.2)] at hq; exact aw_iret e_Pb_way_24 rfl rfl hq)
