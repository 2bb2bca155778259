/-! ===== the calls, 3 ===== -/
def toldV (V : Mc) (p w : Nat) : Int32 := if w = 0 then nI (pP V p 0) else if w = 1 then nI (pP V p 1) else if w = 2 then nI (10 * pP V p 2 + pP V p 3) else if w = 3 then nI (pP V p 4) else if w = 4 then nI (ends V p) else if w = 5 then bI (wantB (pP V p 0) (ends V p) = true) else nI (shW (pP V p 2) (pP V p 3))
def op_told (S : AS) (p w : Int32) : AS × Int32 := (S, if inR p (nP (sM S)) then (if inR w 7 then toldV (sM S) (ix p) (ix w) else -1000000001) else -1000000001)
theorem c_Pb_told {l : Launch} {E : En} {d : Nat} {I : It} {L : Lt} {R : Rt} {Z : Zt} {Q : Qt} {S : AS} (hCS : CS I R Z S) {x y : Int32} (hQ : ∀ I2 L2 R2, CS I2 R2 Z (op_told S x y).1 → KM I L R I2 L2 R2 → Q (some (vi (op_told S x y).2)) I2 L2 R2 Z) : AMet l E (d + 2) M_Pb_told [vr 8 0, vi x, vi y] I L R Z Q := by
  have hS := hCS.1
  have hC := hCS.2.1
  have hW := hCS.2.2.1.1
  have hWn := hW.1
  refine AMet.of mf_Pb_told rfl (Nat.le_of_ble_eq_true rfl) ?_
  refine aw_aload_n e_Pb_told_0 rfl ?_
  refine aw_getR e_Pb_told_1 fl_Pb_10 (hS.1 _ _ _ _ rfl) ?_
  refine aw_iload_n e_Pb_told_4 rfl ?_
  refine aw_cV1 e_Pb_told_5 ml_Pb_90 mf_Ma_hasPart mv_Ma_hasPart (c_Ma_hasPart hS (by decide) hC hW ?_)
  refine awB_ne e_Pb_told_8 (fun h8 => ?_) (fun h8 => ?_)
  · obtain ⟨p, hp, rfl⟩ := inR_nI h8
    have hv := hW.2.1 p hp
    have hen := ends_le (V := sM S) p
    refine aw_aload_n e_Pb_told_14 rfl ?_
    refine aw_getR e_Pb_told_15 fl_Pb_10 (hS.1 _ _ _ _ rfl) ?_
    refine aw_getR e_Pb_told_18 fl_Pb_80 (hS.1 _ _ _ _ rfl) ?_
    refine aw_iload_n e_Pb_told_21 rfl ?_
    refine aw_aald e_Pb_told_22 rfl (show _ < 12 by omega) (by omega) (hS.2.1 _ _ (by omega) (by omega)) ?_
    refine aw_ast3 e_Pb_told_23 ?_
    refine aw_iload_n e_Pb_told_24 rfl ?_
    by_cases hts : inR y 7
    · obtain ⟨j, hj, rfl⟩ := inR_nI hts
      have hj7 : j = 0 ∨ j = 1 ∨ j = 2 ∨ j = 3 ∨ j = 4 ∨ j = 5 ∨ j = 6 := by omega
      rcases hj7 with rfl | rfl | rfl | rfl | rfl | rfl | rfl
      · refine aw_tsIn e_Pb_told_25 (tgt := 68) (by decide) (by decide) rfl rfl ?_
        refine aw_aload_n e_Pb_told_68 rfl ?_
        refine aw_getE e_Pb_told_69 fl_Pb_93 (hC.2.1 _ _ (by omega) (by decide)) ?_
        have hq := hQ _ _ _ hCS KM_0
        unfold op_told at hq
        rw [if_pos h8, if_pos hts, ix_n (j := p) (by omega), ix_n (by decide)] at hq
        exact aw_iret e_Pb_told_72 rfl rfl hq
      · refine aw_tsIn e_Pb_told_25 (tgt := 73) (by decide) (by decide) rfl rfl ?_
        refine aw_aload_n e_Pb_told_73 rfl ?_
        refine aw_getE e_Pb_told_74 fl_Pb_96 (hC.2.1 _ _ (by omega) (by decide)) ?_
        have hq := hQ _ _ _ hCS KM_0
        unfold op_told at hq
        rw [if_pos h8, if_pos hts, ix_n (j := p) (by omega), ix_n (by decide)] at hq
        exact aw_iret e_Pb_told_77 rfl rfl hq
      · refine aw_tsIn e_Pb_told_25 (tgt := 78) (by decide) (by decide) rfl rfl ?_
        refine aw_aload_n e_Pb_told_78 rfl ?_
        refine aw_cV0 e_Pb_told_79 ml_Pb_99 mf_Pa_shareCode mv_Pa_shareCode (c_Pa_shareCode (hC.2.1 p 2 hp (by decide)) (hC.2.1 p 3 hp (by decide)) ?_)
        have hq := hQ _ _ _ hCS KM_0
        unfold op_told at hq
        rw [if_pos h8, if_pos hts, ix_n (j := p) (by omega), ix_n (by decide)] at hq
        exact aw_iret e_Pb_told_82 rfl rfl hq
      · refine aw_tsIn e_Pb_told_25 (tgt := 83) (by decide) (by decide) rfl rfl ?_
        refine aw_aload_n e_Pb_told_83 rfl ?_
        refine aw_getE e_Pb_told_84 fl_Pb_103 (hC.2.1 _ _ (by omega) (by decide)) ?_
        have hq := hQ _ _ _ hCS KM_0
        unfold op_told at hq
        rw [if_pos h8, if_pos hts, ix_n (j := p) (by omega), ix_n (by decide)] at hq
        exact aw_iret e_Pb_told_87 rfl rfl hq
      · refine aw_tsIn e_Pb_told_25 (tgt := 88) (by decide) (by decide) rfl rfl ?_
        refine aw_aload_n e_Pb_told_88 rfl ?_
        refine aw_getR e_Pb_told_89 fl_Pb_10 (hS.1 _ _ _ _ rfl) ?_
        refine aw_iload_n e_Pb_told_92 rfl ?_
        refine aw_cV1 e_Pb_told_93 ml_Pb_106 mf_Ma_endsOf mv_Ma_endsOf (c_Ma_endsOf hS (by decide) hC hW (by omega) ?_)
        have hq := hQ _ _ _ hCS KM_0
        unfold op_told at hq
        rw [if_pos h8, if_pos hts, ix_n (j := p) (by omega), ix_n (by decide)] at hq
        exact aw_iret e_Pb_told_96 rfl rfl hq
      · refine aw_tsIn e_Pb_told_25 (tgt := 97) (by decide) (by decide) rfl rfl ?_
        refine aw_aload_n e_Pb_told_97 rfl ?_
        refine aw_aload_n e_Pb_told_98 rfl ?_
        refine aw_getR e_Pb_told_99 fl_Pb_10 (hS.1 _ _ _ _ rfl) ?_
        refine aw_iload_n e_Pb_told_102 rfl ?_
        refine aw_cV1 e_Pb_told_103 ml_Pb_106 mf_Ma_endsOf mv_Ma_endsOf (c_Ma_endsOf hS (by decide) hC hW (p := p) (by omega) ?_)
        refine aw_cV1 e_Pb_told_106 ml_Pb_110 mf_Pa_wants mv_Pa_wants (c_Pa_wants (hC.2.1 p 0 hp (by decide)) hv.1 (by omega) ?_)
        refine awB_eq e_Pb_told_109 (fun h109 => ?_) (fun h109 => ?_)
        · refine aw_iconst (v := nI 0) e_Pb_told_116 (by decide) ?_
          have hq := hQ _ _ _ hCS KM_0
          unfold op_told at hq
          rw [if_pos h8, if_pos hts, ix_n (j := p) (by omega), ix_n (by decide)] at hq
          first
            | exact awB_1 e_Pb_told_117 h109 hq
            | exact awB_0 e_Pb_told_117 h109 hq
        · refine aw_iconst (v := nI 1) e_Pb_told_112 (by decide) ?_
          refine aw_goto e_Pb_told_113 ?_
          have hq := hQ _ _ _ hCS KM_0
          unfold op_told at hq
          rw [if_pos h8, if_pos hts, ix_n (j := p) (by omega), ix_n (by decide)] at hq
          first
            | exact awB_1 e_Pb_told_117 h109 hq
            | exact awB_0 e_Pb_told_117 h109 hq
      · refine aw_tsIn e_Pb_told_25 (tgt := 118) (by decide) (by decide) rfl rfl ?_
        refine aw_aload_n e_Pb_told_118 rfl ?_
        refine aw_cV0 e_Pb_told_119 ml_Pb_113 mf_Pa_shareWorth mv_Pa_shareWorth (c_Pa_shareWorth (hC.2.1 p 2 hp (by decide)) (hC.2.1 p 3 hp (by decide)) (by omega) (by omega) ?_)
        have hq := hQ _ _ _ hCS KM_0
        unfold op_told at hq
        rw [if_pos h8, if_pos hts, ix_n (j := p) (by omega), ix_n (by decide)] at hq
        exact aw_iret e_Pb_told_122 rfl rfl hq
    · refine aw_tsOut e_Pb_told_25 (tgt := 123) (by unfold inR at hts; omega) rfl ?_
      refine aw_ldc (v := -1000000001) e_Pb_told_123 kc_Pb_74 ?_
      have hq := hQ _ _ _ hCS KM_0
      unfold op_told at hq
      rw [if_pos h8, if_neg hts] at hq
      exact aw_iret e_Pb_told_125 rfl rfl hq
  · refine aw_ldc (v := -1000000001) e_Pb_told_11 kc_Pb_74 ?_
    have hq := hQ _ _ _ hCS KM_0
    unfold op_told at hq
    rw [if_neg h8] at hq
    exact aw_iret e_Pb_told_13 rfl rfl hq
