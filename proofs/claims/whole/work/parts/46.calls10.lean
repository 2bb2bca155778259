/-! ===== the calls, 10 ===== -/
def op_rest (S : AS) (s n : Int32) : AS × Int32 := (S, if inR s 5 then (if (sL2 S (ix s)).1 = 3 then (if n = 0 then -1000000002 else (sL2 S (ix s)).2.1 - (sL2 S (ix s)).2.1 / n * n) else refV (sL2 S (ix s)).1 3) else -1000000001)
theorem c_Pb_rest {l : Launch} {E : En} {d : Nat} {I : It} {L : Lt} {R : Rt} {Z : Zt} {Q : Qt} {S : AS} (hCS : CS I R Z S) {x y : Int32} (hQ : ∀ I2 L2 R2, CS I2 R2 Z (op_rest S x y).1 → KM I L R I2 L2 R2 → Q (some (vi (op_rest S x y).2)) I2 L2 R2 Z) : AMet l E (d + 1) M_Pb_rest [vr 8 0, vi x, vi y] I L R Z Q := by
  have hS := hCS.1
  have hC := hCS.2.1
  have hW := hCS.2.2.1.1
  have hWn := hW.1
  refine AMet.of mf_Pb_rest rfl (Nat.le_of_ble_eq_true rfl) ?_
  refine aw_iload_n e_Pb_rest_0 rfl ?_
  refine aw_cS1 e_Pb_rest_1 ml_Pb_287 mf_Pb_isSlot ms_Pb_isSlot (c_Pb_isSlot ?_)
  refine awB_ne e_Pb_rest_4 (fun h4 => ?_) (fun h4 => ?_)
  · obtain ⟨s, hs, rfl⟩ := inR_nI h4
    have hsl := hCS.2.2.2.2.2.2.2.1 s hs
    refine aw_aload_n e_Pb_rest_10 rfl ?_
    refine aw_getR e_Pb_rest_11 fl_Pb_61 (hS.1 _ _ _ _ rfl) ?_
    refine aw_iload_n e_Pb_rest_14 rfl ?_
    refine aw_aald e_Pb_rest_15 rfl (show _ < 5 by omega) (by omega) (hS.2.2.2 _ (by omega)) ?_
    refine aw_iconst (v := nI 3) e_Pb_rest_16 (by decide) ?_
    refine aw_cV1 e_Pb_rest_17 ml_Pb_310 mf_Sl_refusalFor mv_Sl_refusalFor (c_Sl_refusalFor (wn := 3) hsl.1 hsl.2.1 (by decide) ?_)
    refine aw_ist3 e_Pb_rest_20 ?_
    refine aw_iload_n e_Pb_rest_21 rfl ?_
    refine aw_if_eq e_Pb_rest_22 (fun h22 => ?_) (fun h22 => ?_)
    · have h1 := (refV_0 (wn := 3) (by decide)).1 h22
      refine aw_iload_n e_Pb_rest_27 rfl ?_
      refine aw_if_ne e_Pb_rest_28 (fun h28 => ?_) (fun h28 => ?_)
      · refine aw_aload_n e_Pb_rest_36 rfl ?_
        refine aw_getR e_Pb_rest_37 fl_Pb_61 (hS.1 _ _ _ _ rfl) ?_
        refine aw_iload_n e_Pb_rest_40 rfl ?_
        refine aw_aald e_Pb_rest_41 rfl (show _ < 5 by omega) (by omega) (hS.2.2.2 _ (by omega)) ?_
        refine aw_getE e_Pb_rest_42 fl_Pb_307 (hsl.2.2.1 h1) ?_
        refine aw_iload_n e_Pb_rest_45 rfl ?_
        refine aw_irem e_Pb_rest_46 h28 ?_
        have hq := hQ _ _ _ hCS KM_0
        unfold op_rest at hq
        first
          | (rw [if_pos h4, ix_n (j := s) (by omega), if_pos h1, if_pos h28] at hq; exact aw_iret e_Pb_rest_47 rfl rfl hq)
          | (rw [if_pos h4, ix_n (j := s) (by omega), if_pos h1, if_neg h28] at hq; exact aw_iret e_Pb_rest_47 rfl rfl hq)
      · refine aw_ldc (v := -1000000002) e_Pb_rest_31 kc_Pb_157 ?_
        refine aw_goto e_Pb_rest_33 ?_
        have hq := hQ _ _ _ hCS KM_0
        unfold op_rest at hq
        first
          | (rw [if_pos h4, ix_n (j := s) (by omega), if_pos h1, if_pos h28] at hq; exact aw_iret e_Pb_rest_47 rfl rfl hq)
          | (rw [if_pos h4, ix_n (j := s) (by omega), if_pos h1, if_neg h28] at hq; exact aw_iret e_Pb_rest_47 rfl rfl hq)
    · refine aw_iload_n e_Pb_rest_25 rfl ?_
      have hq := hQ _ _ _ hCS KM_0
      unfold op_rest at hq
      first
        | (rw [if_pos h4, ix_n (j := s) (by omega), if_neg (fun w => h22 ((refV_0 (by decide)).2 w))] at hq; exact aw_iret e_Pb_rest_26 rfl rfl hq)
  · refine aw_ldc (v := -1000000001) e_Pb_rest_7 kc_Pb_74 ?_
    have hq := hQ _ _ _ hCS KM_0
    unfold op_rest at hq
    first
      | (rw [if_neg h4] at hq; exact aw_iret e_Pb_rest_9 rfl rfl hq)
theorem c_Pb_item {l : Launch} {E : En} {d : Nat} {I : It} {L : Lt} {R : Rt} {Z : Zt} {Q : Qt} {S : AS} (hCS : CS I R Z S) {x y : Int32} (hQ : ∀ I2 L2 R2, CS I2 R2 Z (op_item S x y).1 → KM I L R I2 L2 R2 → Q (some (vi (op_item S x y).2)) I2 L2 R2 Z) : AMet l E (d + 1) M_Pb_item [vr 8 0, vi x, vi y] I L R Z Q := by
  have hS := hCS.1
  have hC := hCS.2.1
  have hW := hCS.2.2.1.1
  have hWn := hW.1
  refine AMet.of mf_Pb_item rfl (Nat.le_of_ble_eq_true rfl) ?_
  refine aw_iload_n e_Pb_item_0 rfl ?_
  refine aw_cS1 e_Pb_item_1 ml_Pb_287 mf_Pb_isSlot ms_Pb_isSlot (c_Pb_isSlot ?_)
  refine awB_ne e_Pb_item_4 (fun h4 => ?_) (fun h4 => ?_)
  · obtain ⟨s, hs, rfl⟩ := inR_nI h4
    have hsl := hCS.2.2.2.2.2.2.2.1 s hs
    refine aw_aload_n e_Pb_item_10 rfl ?_
    refine aw_getR e_Pb_item_11 fl_Pb_61 (hS.1 _ _ _ _ rfl) ?_
    refine aw_iload_n e_Pb_item_14 rfl ?_
    refine aw_aald e_Pb_item_15 rfl (show _ < 5 by omega) (by omega) (hS.2.2.2 _ (by omega)) ?_
    refine aw_iconst (v := nI 2) e_Pb_item_16 (by decide) ?_
    refine aw_cV1 e_Pb_item_17 ml_Pb_310 mf_Sl_refusalFor mv_Sl_refusalFor (c_Sl_refusalFor (wn := 2) hsl.1 hsl.2.1 (by decide) ?_)
    refine aw_ist3 e_Pb_item_20 ?_
    refine aw_iload_n e_Pb_item_21 rfl ?_
    refine aw_if_eq e_Pb_item_22 (fun h22 => ?_) (fun h22 => ?_)
    · have h1 := (refV_0 (wn := 2) (by decide)).1 h22
      have hsh := (hsl.2.2.2.2 h1).1
      have hsz := hsh.2.2.1
      refine aw_aload_n e_Pb_item_27 rfl ?_
      refine aw_getR e_Pb_item_28 fl_Pb_61 (hS.1 _ _ _ _ rfl) ?_
      refine aw_iload_n e_Pb_item_31 rfl ?_
      refine aw_aald e_Pb_item_32 rfl (show _ < 5 by omega) (by omega) (hS.2.2.2 _ (by omega)) ?_
      refine aw_getR e_Pb_item_33 fl_Pb_300 (hS.1 _ _ _ _ rfl) ?_
      refine aw_ast4 e_Pb_item_36 ?_
      refine aw_aload e_Pb_item_38 rfl ?_
      refine aw_iload_n e_Pb_item_40 rfl ?_
      refine aw_cV1 e_Pb_item_41 ml_Pb_270 mf_Sh_hasPlace mv_Sh_hasPlace (c_Sh_hasPlace hsh.2.1 hsz ?_)
      refine awB_eq e_Pb_item_44 (fun h44 => ?_) (fun h44 => ?_)
      · refine aw_ldcw (v := -1000000013) e_Pb_item_57 kc_Pb_273 ?_
        have hq := hQ _ _ _ hCS KM_0
        unfold op_item at hq
        first
          | (rw [if_pos h4, ix_n (j := s) (by omega), if_pos h1, if_pos h44, ix_n (j := k) (by omega)] at hq; exact aw_iret e_Pb_item_60 rfl rfl hq)
          | (rw [if_pos h4, ix_n (j := s) (by omega), if_pos h1, if_neg h44] at hq; exact aw_iret e_Pb_item_60 rfl rfl hq)
      · obtain ⟨k, hk, rfl⟩ := inR_nI h44
        refine aw_aload e_Pb_item_47 rfl ?_
        refine aw_getR e_Pb_item_49 fl_Pb_274 (hS.1 _ _ _ _ rfl) ?_
        refine aw_iload_n e_Pb_item_52 rfl ?_
        refine aw_ialE e_Pb_item_53 rfl (show _ < 24 by omega) (by omega) (hsh.2.2.2.2.2 _ hk) ?_
        refine aw_goto e_Pb_item_54 ?_
        have hq := hQ _ _ _ hCS KM_0
        unfold op_item at hq
        first
          | (rw [if_pos h4, ix_n (j := s) (by omega), if_pos h1, if_pos h44, ix_n (j := k) (by omega)] at hq; exact aw_iret e_Pb_item_60 rfl rfl hq)
          | (rw [if_pos h4, ix_n (j := s) (by omega), if_pos h1, if_neg h44] at hq; exact aw_iret e_Pb_item_60 rfl rfl hq)
    · refine aw_iload_n e_Pb_item_25 rfl ?_
      have hq := hQ _ _ _ hCS KM_0
      unfold op_item at hq
      first
        | (rw [if_pos h4, ix_n (j := s) (by omega), if_neg (fun w => h22 ((refV_0 (by decide)).2 w))] at hq; exact aw_iret e_Pb_item_26 rfl rfl hq)
  · refine aw_ldc (v := -1000000001) e_Pb_item_7 kc_Pb_74 ?_
    have hq := hQ _ _ _ hCS KM_0
    unfold op_item at hq
    first
      | (rw [if_neg h4] at hq; exact aw_iret e_Pb_item_9 rfl rfl hq)
