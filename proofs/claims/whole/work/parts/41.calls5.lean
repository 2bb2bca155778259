/-! ===== the calls, 5 ===== -/
noncomputable def op_of (S : AS) (x y : Int32) : AS × Int32 := (S, if inR x (nB (sM S)) ∧ inR y 6 then (if ix y = 0 then nI (bF (sM S) (ix x)) else if ix y = 1 then nI (bT (sM S) (ix x)) else if ix y = 5 then stlV (sM S) (ix x) else carV (sM S) (ix x) y) else -1000000001)
def strV (V : Mc) (w : Nat) : Int32 := if whole V = true then (if w = 3 then nI (svS V (2 ^ nB V)).1 else if (svS V (2 ^ nB V)).1 = 0 then -1000000007 else if w = 0 then nI (svS V (2 ^ nB V)).2.1 else if w = 1 then pm (svS V (2 ^ nB V)).2.2 else nI (tdS V (svS V (2 ^ nB V)).2.1 (nP V))) else -1000000002
def op_strokes (S : AS) (x : Int32) : AS × Int32 := (S, if inR x 4 then strV (sM S) (ix x) else -1000000001)
theorem svS_lt (V : Mc) : ∀ m, (svS V (m + 1)).2.1 < m + 1
  | 0 => by
    unfold svS
    split
    · show (if (svS V 0).2.2 ≤ smg V 0 then 0 else (svS V 0).2.1) < 1
      split
      · decide
      · show 0 < 1
        decide
    · show 0 < 1
      decide
  | m + 1 => by
    have h := svS_lt V m
    rw [svS]
    split
    · show (if (svS V (m + 1)).2.2 ≤ smg V (m + 1) then m + 1 else (svS V (m + 1)).2.1) < m + 2
      split <;> omega
    · omega
def op_rings (S : AS) : AS × Int32 := (S, nI (nB (sM S)) - nI (nP (sM S)) + nI (pcs (sM S) (nP (sM S))).1)
theorem c_Pb_of {l : Launch} {E : En} {d : Nat} {I : It} {L : Lt} {R : Rt} {Z : Zt} {Q : Qt} {S : AS} (hCS : CS I R Z S) {x y : Int32} (hQ : ∀ I2 L2 R2, CS I2 R2 Z (op_of S x y).1 → KM I L R I2 L2 R2 → Q (some (vi (op_of S x y).2)) I2 L2 R2 Z) : AMet l E (d + 7) M_Pb_of [vr 8 0, vi x, vi y] I L R Z Q := by
  have hS := hCS.1
  have hC := hCS.2.1
  have hW := hCS.2.2.1.1
  have hWn := hW.1
  have hT5 : (nI 5).toInt = 5 := by decide
  refine AMet.of mf_Pb_of rfl (Nat.le_of_ble_eq_true rfl) ?_
  refine aw_aload_n e_Pb_of_0 rfl ?_
  refine aw_getR e_Pb_of_1 fl_Pb_10 (hS.1 _ _ _ _ rfl) ?_
  refine aw_iload_n e_Pb_of_4 rfl ?_
  refine aw_cV1 e_Pb_of_5 ml_Pb_136 mf_Ma_hasBond mv_Ma_hasBond (c_Ma_hasBond hS (by decide) hC hW ?_)
  refine awB_eq e_Pb_of_8 (fun h8 => ?_) (fun h8 => ?_)
  · refine aw_ldc (v := -1000000001) e_Pb_of_20 kc_Pb_74 ?_
    have hq := hQ _ _ _ hCS KM_0
    unfold op_of at hq
    first
      | (rw [if_neg (fun w => h8 w.1)] at hq; exact aw_iret e_Pb_of_22 rfl rfl hq)
      | (rw [if_neg (fun w => by have w1 := w.2.1; have w2 := w.2.2; omega)] at hq; exact aw_iret e_Pb_of_22 rfl rfl hq)
  · refine aw_iload_n e_Pb_of_11 rfl ?_
    refine awZ_if_lt e_Pb_of_12 (fun h12 => ?_) (fun h12 => ?_)
    · refine aw_ldc (v := -1000000001) e_Pb_of_20 kc_Pb_74 ?_
      have hq := hQ _ _ _ hCS KM_0
      unfold op_of at hq
      first
        | (rw [if_neg (fun w => h8 w.1)] at hq; exact aw_iret e_Pb_of_22 rfl rfl hq)
        | (rw [if_neg (fun w => by have w1 := w.2.1; have w2 := w.2.2; omega)] at hq; exact aw_iret e_Pb_of_22 rfl rfl hq)
    · refine aw_iload_n e_Pb_of_15 rfl ?_
      refine aw_iconst (v := nI 5) e_Pb_of_16 (by decide) ?_
      refine awZ_icmp_le e_Pb_of_17 (fun h17 => ?_) (fun h17 => ?_)
      · have hy2 : inR y 6 := ⟨by omega, by omega⟩
        obtain ⟨b, hb, rfl⟩ := inR_nI h8
        obtain ⟨j, hj, rfl⟩ := inR_nI hy2
        refine aw_iload_n e_Pb_of_23 rfl ?_
        refine awN_if_ne e_Pb_of_24 (by omega) (fun h24 => ?_) (fun h24 => ?_)
        · refine aw_iload_n e_Pb_of_37 rfl ?_
          refine aw_iconst (v := nI 1) e_Pb_of_38 (by decide) ?_
          refine awN_icmp_ne e_Pb_of_39 (by omega) (by omega) (fun h39 => ?_) (fun h39 => ?_)
          · refine aw_iload_n e_Pb_of_52 rfl ?_
            refine aw_iconst (v := nI 5) e_Pb_of_53 (by decide) ?_
            refine awN_icmp_ne e_Pb_of_54 (by omega) (by omega) (fun h54 => ?_) (fun h54 => ?_)
            · refine aw_aload_n e_Pb_of_65 rfl ?_
              refine aw_iload_n e_Pb_of_66 rfl ?_
              refine aw_iload_n e_Pb_of_67 rfl ?_
              refine aw_cV2 e_Pb_of_68 ml_Pb_145 mf_Pb_carriedBy mv_Pb_carriedBy (c_Pb_carriedBy hCS hb (fun I2 L2 R2 hCS2 hKM2 => ?_))
              have hq := hQ _ _ _ hCS2 hKM2
              unfold op_of at hq
              first
                | (rw [if_pos ⟨h8, hy2⟩, ix_n (j := b) (by omega), ix_n (j := j) (by omega), if_neg h24, if_neg h39, if_pos h54] at hq; exact aw_iret e_Pb_of_71 rfl rfl hq)
                | (rw [if_pos ⟨h8, hy2⟩, ix_n (j := b) (by omega), ix_n (j := j) (by omega), if_neg h24, if_neg h39, if_neg h54] at hq; exact aw_iret e_Pb_of_71 rfl rfl hq)
            · refine aw_aload_n e_Pb_of_57 rfl ?_
              refine aw_iload_n e_Pb_of_58 rfl ?_
              refine aw_cV1 e_Pb_of_59 ml_Pb_142 mf_Pb_settlerOf mv_Pb_settlerOf (c_Pb_settlerOf hCS hb (fun I2 L2 R2 hCS2 hKM2 => ?_))
              refine aw_goto e_Pb_of_62 ?_
              have hq := hQ _ _ _ hCS2 hKM2
              unfold op_of at hq
              first
                | (rw [if_pos ⟨h8, hy2⟩, ix_n (j := b) (by omega), ix_n (j := j) (by omega), if_neg h24, if_neg h39, if_pos h54] at hq; exact aw_iret e_Pb_of_71 rfl rfl hq)
                | (rw [if_pos ⟨h8, hy2⟩, ix_n (j := b) (by omega), ix_n (j := j) (by omega), if_neg h24, if_neg h39, if_neg h54] at hq; exact aw_iret e_Pb_of_71 rfl rfl hq)
          · refine aw_aload_n e_Pb_of_42 rfl ?_
            refine aw_getR e_Pb_of_43 fl_Pb_10 (hS.1 _ _ _ _ rfl) ?_
            refine aw_getR e_Pb_of_46 fl_Pb_133 (hS.1 _ _ _ _ rfl) ?_
            refine aw_iload_n e_Pb_of_49 rfl ?_
            refine aw_ialE e_Pb_of_50 rfl (show _ < 12 by omega) (by omega) (hC.2.2.2.1 _ (by omega)) ?_
            have hq := hQ _ _ _ hCS KM_0
            unfold op_of at hq
            first
              | (rw [if_pos ⟨h8, hy2⟩, ix_n (j := b) (by omega), ix_n (j := j) (by omega), if_neg h24, if_pos h39] at hq; exact aw_iret e_Pb_of_51 rfl rfl hq)
        · refine aw_aload_n e_Pb_of_27 rfl ?_
          refine aw_getR e_Pb_of_28 fl_Pb_10 (hS.1 _ _ _ _ rfl) ?_
          refine aw_getR e_Pb_of_31 fl_Pb_130 (hS.1 _ _ _ _ rfl) ?_
          refine aw_iload_n e_Pb_of_34 rfl ?_
          refine aw_ialE e_Pb_of_35 rfl (show _ < 12 by omega) (by omega) (hC.2.2.1 _ (by omega)) ?_
          have hq := hQ _ _ _ hCS KM_0
          unfold op_of at hq
          first
            | (rw [if_pos ⟨h8, hy2⟩, ix_n (j := b) (by omega), ix_n (j := j) (by omega), if_pos h24] at hq; exact aw_iret e_Pb_of_36 rfl rfl hq)
      · refine aw_ldc (v := -1000000001) e_Pb_of_20 kc_Pb_74 ?_
        have hq := hQ _ _ _ hCS KM_0
        unfold op_of at hq
        first
          | (rw [if_neg (fun w => h8 w.1)] at hq; exact aw_iret e_Pb_of_22 rfl rfl hq)
          | (rw [if_neg (fun w => by have w1 := w.2.1; have w2 := w.2.2; omega)] at hq; exact aw_iret e_Pb_of_22 rfl rfl hq)
theorem c_Pb_strokes {l : Launch} {E : En} {d : Nat} {I : It} {L : Lt} {R : Rt} {Z : Zt} {Q : Qt} {S : AS} (hCS : CS I R Z S) {x : Int32} (hQ : ∀ I2 L2 R2, CS I2 R2 Z (op_strokes S x).1 → KM I L R I2 L2 R2 → Q (some (vi (op_strokes S x).2)) I2 L2 R2 Z) : AMet l E (d + 5) M_Pb_strokes [vr 8 0, vi x] I L R Z Q := by
  have hS := hCS.1
  have hC := hCS.2.1
  have hW := hCS.2.2.1.1
  have hWn := hW.1
  have hT3 : (nI 3).toInt = 3 := by decide
  refine AMet.of mf_Pb_strokes rfl (Nat.le_of_ble_eq_true rfl) ?_
  refine aw_iload_n e_Pb_strokes_0 rfl ?_
  refine awZ_if_lt e_Pb_strokes_1 (fun h1 => ?_) (fun h1 => ?_)
  · refine aw_ldc (v := -1000000001) e_Pb_strokes_9 kc_Pb_74 ?_
    have hq := hQ _ _ _ hCS KM_0
    unfold op_strokes at hq
    first
      | (rw [if_neg (fun w => by have w1 := w.1; have w2 := w.2; omega)] at hq; exact aw_iret e_Pb_strokes_11 rfl rfl hq)
  · refine aw_iload_n e_Pb_strokes_4 rfl ?_
    refine aw_iconst (v := nI 3) e_Pb_strokes_5 (by decide) ?_
    refine awZ_icmp_le e_Pb_strokes_6 (fun h6 => ?_) (fun h6 => ?_)
    · have hy2 : inR x 4 := ⟨by omega, by omega⟩
      obtain ⟨j, hj, rfl⟩ := inR_nI hy2
      refine aw_aload_n e_Pb_strokes_12 rfl ?_
      refine aw_getR e_Pb_strokes_13 fl_Pb_10 (hS.1 _ _ _ _ rfl) ?_
      refine aw_cV0 e_Pb_strokes_16 ml_Pb_149 mf_Ma_isWhole mv_Ma_isWhole (c_Ma_isWhole hS (by decide) hC hW ?_)
      refine awB_ne e_Pb_strokes_19 (fun h19 => ?_) (fun h19 => ?_)
      · refine aw_aload_n e_Pb_strokes_25 rfl ?_
        refine aw_getR e_Pb_strokes_26 fl_Pb_35 (hS.1 _ _ _ _ rfl) ?_
        refine aw_aload_n e_Pb_strokes_29 rfl ?_
        refine aw_getR e_Pb_strokes_30 fl_Pb_10 (hS.1 _ _ _ _ rfl) ?_
        refine aw_cV1 e_Pb_strokes_33 ml_Pb_158 mf_Lu_survey mv_Lu_survey (c_Lu_survey hS (by decide) hC hW (fun p hp => want_p (whole_w h19 hp)) (fun I2 hLc hLs hfr => ?_))
        replace hC := (CS_lu hCS hfr).2.1
        have hp2 := pow4096 hW
        have hsb := svS_b (sM S) (2 ^ nB (sM S))
        refine aw_iload_n e_Pb_strokes_36 rfl ?_
        refine aw_iconst (v := nI 3) e_Pb_strokes_37 (by decide) ?_
        refine awN_icmp_ne e_Pb_strokes_38 (by omega) (by omega) (fun h38 => ?_) (fun h38 => ?_)
        · refine aw_aload_n e_Pb_strokes_49 rfl ?_
          refine aw_getR e_Pb_strokes_50 fl_Pb_35 (hS.1 _ _ _ _ rfl) ?_
          refine aw_getE e_Pb_strokes_53 fl_Pb_162 hLs.1 ?_
          refine awN_if_ne e_Pb_strokes_56 (by omega) (fun h56 => ?_) (fun h56 => ?_)
          · refine aw_iload_n e_Pb_strokes_62 rfl ?_
            refine awN_if_ne e_Pb_strokes_63 (by omega) (fun h63 => ?_) (fun h63 => ?_)
            · refine aw_iload_n e_Pb_strokes_74 rfl ?_
              refine aw_iconst (v := nI 1) e_Pb_strokes_75 (by decide) ?_
              refine awN_icmp_ne e_Pb_strokes_76 (by omega) (by omega) (fun h76 => ?_) (fun h76 => ?_)
              · have hb4 : (svS (sM S) (2 ^ nB (sM S))).2.1 < 4096 := by
                  have h9 := svS_lt (sM S) (2 ^ nB (sM S) - 1)
                  have h10 : 0 < 2 ^ nB (sM S) := Nat.pow_pos (by decide)
                  rw [show 2 ^ nB (sM S) - 1 + 1 = 2 ^ nB (sM S) by omega] at h9
                  omega
                refine aw_aload_n e_Pb_strokes_89 rfl ?_
                refine aw_getR e_Pb_strokes_90 fl_Pb_35 (hS.1 _ _ _ _ rfl) ?_
                refine aw_aload_n e_Pb_strokes_93 rfl ?_
                refine aw_getR e_Pb_strokes_94 fl_Pb_10 (hS.1 _ _ _ _ rfl) ?_
                refine aw_cV1 e_Pb_strokes_97 ml_Pb_172 mf_Lu_tiedStores mv_Lu_tiedStores (c_Lu_tiedStores hS (by decide) hC hW hLc (fun p hp => want_p (whole_w h19 hp)) hLs.2.1 hb4 ?_)
                have hq := hQ _ _ _ (CS_lu hCS hfr) (KM_lu hfr)
                unfold op_strokes at hq
                rw [if_pos hy2, ix_n (j := j) (by omega)] at hq
                unfold strV at hq
                first
                  | (rw [if_pos h19, if_neg h38, if_neg h56, if_neg h63, if_pos h76] at hq; exact aw_iret e_Pb_strokes_100 rfl rfl hq)
                  | (rw [if_pos h19, if_neg h38, if_neg h56, if_neg h63, if_neg h76] at hq; exact aw_iret e_Pb_strokes_100 rfl rfl hq)
              · refine aw_aload_n e_Pb_strokes_79 rfl ?_
                refine aw_getR e_Pb_strokes_80 fl_Pb_35 (hS.1 _ _ _ _ rfl) ?_
                refine aw_getE e_Pb_strokes_83 fl_Pb_169 hLs.2.2 ?_
                refine aw_goto e_Pb_strokes_86 ?_
                have hq := hQ _ _ _ (CS_lu hCS hfr) (KM_lu hfr)
                unfold op_strokes at hq
                rw [if_pos hy2, ix_n (j := j) (by omega)] at hq
                unfold strV at hq
                first
                  | (rw [if_pos h19, if_neg h38, if_neg h56, if_neg h63, if_pos h76] at hq; exact aw_iret e_Pb_strokes_100 rfl rfl hq)
                  | (rw [if_pos h19, if_neg h38, if_neg h56, if_neg h63, if_neg h76] at hq; exact aw_iret e_Pb_strokes_100 rfl rfl hq)
            · refine aw_aload_n e_Pb_strokes_66 rfl ?_
              refine aw_getR e_Pb_strokes_67 fl_Pb_35 (hS.1 _ _ _ _ rfl) ?_
              refine aw_getE e_Pb_strokes_70 fl_Pb_166 hLs.2.1 ?_
              have hq := hQ _ _ _ (CS_lu hCS hfr) (KM_lu hfr)
              unfold op_strokes at hq
              rw [if_pos hy2, ix_n (j := j) (by omega)] at hq
              unfold strV at hq
              first
                | (rw [if_pos h19, if_neg h38, if_neg h56, if_pos h63] at hq; exact aw_iret e_Pb_strokes_73 rfl rfl hq)
          · refine aw_ldc (v := -1000000007) e_Pb_strokes_59 kc_Pb_165 ?_
            have hq := hQ _ _ _ (CS_lu hCS hfr) (KM_lu hfr)
            unfold op_strokes at hq
            rw [if_pos hy2, ix_n (j := j) (by omega)] at hq
            unfold strV at hq
            first
              | (rw [if_pos h19, if_neg h38, if_pos h56] at hq; exact aw_iret e_Pb_strokes_61 rfl rfl hq)
        · refine aw_aload_n e_Pb_strokes_41 rfl ?_
          refine aw_getR e_Pb_strokes_42 fl_Pb_35 (hS.1 _ _ _ _ rfl) ?_
          refine aw_getE e_Pb_strokes_45 fl_Pb_162 hLs.1 ?_
          have hq := hQ _ _ _ (CS_lu hCS hfr) (KM_lu hfr)
          unfold op_strokes at hq
          rw [if_pos hy2, ix_n (j := j) (by omega)] at hq
          unfold strV at hq
          first
            | (rw [if_pos h19, if_pos h38] at hq; exact aw_iret e_Pb_strokes_48 rfl rfl hq)
      · refine aw_ldc (v := -1000000002) e_Pb_strokes_22 kc_Pb_157 ?_
        have hq := hQ _ _ _ hCS KM_0
        unfold op_strokes at hq
        rw [if_pos hy2, ix_n (j := j) (by omega)] at hq
        unfold strV at hq
        first
          | (rw [if_neg h19] at hq; exact aw_iret e_Pb_strokes_24 rfl rfl hq)
    · refine aw_ldc (v := -1000000001) e_Pb_strokes_9 kc_Pb_74 ?_
      have hq := hQ _ _ _ hCS KM_0
      unfold op_strokes at hq
      first
        | (rw [if_neg (fun w => by have w1 := w.1; have w2 := w.2; omega)] at hq; exact aw_iret e_Pb_strokes_11 rfl rfl hq)
theorem c_Pb_rings {l : Launch} {E : En} {d : Nat} {I : It} {L : Lt} {R : Rt} {Z : Zt} {Q : Qt} {S : AS} (hCS : CS I R Z S) (hQ : ∀ I2 L2 R2, CS I2 R2 Z (op_rings S).1 → KM I L R I2 L2 R2 → Q (some (vi (op_rings S).2)) I2 L2 R2 Z) : AMet l E (d + 2) M_Pb_rings [vr 8 0] I L R Z Q := by
  have hS := hCS.1
  have hC := hCS.2.1
  have hW := hCS.2.2.1.1
  have hWn := hW.1
  refine AMet.of mf_Pb_rings rfl (Nat.le_of_ble_eq_true rfl) ?_
  refine aw_aload_n e_Pb_rings_0 rfl ?_
  refine aw_getR e_Pb_rings_1 fl_Pb_10 (hS.1 _ _ _ _ rfl) ?_
  refine aw_getE e_Pb_rings_4 fl_Pb_127 hC.1.2.1 ?_
  refine aw_aload_n e_Pb_rings_7 rfl ?_
  refine aw_getR e_Pb_rings_8 fl_Pb_10 (hS.1 _ _ _ _ rfl) ?_
  refine aw_getE e_Pb_rings_11 fl_Pb_75 hC.1.1 ?_
  refine aw_isub e_Pb_rings_14 ?_
  refine aw_aload_n e_Pb_rings_15 rfl ?_
  refine aw_getR e_Pb_rings_16 fl_Pb_10 (hS.1 _ _ _ _ rfl) ?_
  refine aw_cV0 e_Pb_rings_19 ml_Pb_247 mf_Ma_pieces mv_Ma_pieces (c_Ma_pieces hS (by decide) hC hW ?_)
  refine aw_iadd e_Pb_rings_22 ?_
  exact aw_iret e_Pb_rings_23 rfl rfl (hQ _ _ _ hCS KM_0)
