/-! ===== the calls, 4 ===== -/
def CLs : Int32 := -1000000007
def stlV (V : Mc) (b : Nat) : Int32 := if whole V = true then (if (svS V (2 ^ nB V)).1 = 0 then -1000000007 else if (svS V (2 ^ nB V)).2.1.testBit b = true then nI (bT V b) else nI (bF V b)) else -1000000002
theorem pow4096 {V : Mc} (hW : WF V) : 2 ^ nB V ≤ 4096 := Nat.pow_le_pow_right (show 0 < 2 by decide) (show nB V ≤ 12 from hW.1.2.1)
theorem CS_lu {I I2 : It} {R : Rt} {Z : Zt} {S : AS} (h : CS I R Z S) (hf : ∀ t i2, t ≠ 18 → t ≠ 19 → ¬ (t = 1 ∧ i2 = 0) → I2 t i2 = I t i2) : CS I2 R Z S := h.keep (fun t i hti => hf t i (by unfold scr at hti; omega) (by unfold scr at hti; omega) (by unfold scr at hti; omega)) (fun _ _ _ => rfl) h.1 (CS_G h).1 (CS_G h).2
theorem KM_lu {I I2 : It} {L : Lt} {R : Rt} (hf : ∀ t i2, t ≠ 18 → t ≠ 19 → ¬ (t = 1 ∧ i2 = 0) → I2 t i2 = I t i2) : KM I L R I2 L R := fun t i ht => ⟨hf t i (by omega) (by omega) (by omega), rfl, rfl⟩
theorem ansV_iff (V : Mc) : ansV V = nI 1 ↔ ansC V = 1 := by
  unfold ansV
  by_cases h0 : ansC V = 0
  · rw [if_pos h0]
    exact ⟨fun h => absurd h (by decide), fun h => by omega⟩
  · rw [if_neg h0]
    by_cases h1 : ansC V = 1
    · rw [if_pos h1]
      exact ⟨fun _ => h1, fun _ => rfl⟩
    · rw [if_neg h1]
      exact ⟨fun h => absurd h (by decide), fun h => absurd h h1⟩
noncomputable def carV (V : Mc) (b : Nat) (w : Int32) : Int32 := if ansC V = 1 then (if w = nI 2 then nI (ansX V (2 * b)) else if w = nI 3 then nI (ansX V (2 * b + 1)) else nI (ansX V (2 * b) * ansX V (2 * b + 1) % 1000003)) else ansV V
theorem c_Pb_settlerOf {l : Launch} {E : En} {d : Nat} {I : It} {L : Lt} {R : Rt} {Z : Zt} {Q : Qt} {S : AS} (hCS : CS I R Z S) {b : Nat} (hb : b < nB (sM S)) (hQ : ∀ I2 L2 R2, CS I2 R2 Z S → KM I L R I2 L2 R2 → Q (some (vi (stlV (sM S) b))) I2 L2 R2 Z) : AMet l E (d + 5) M_Pb_settlerOf [vr 8 0, vi (nI b)] I L R Z Q := by
  have hS := hCS.1
  have hC := hCS.2.1
  have hW := hCS.2.2.1.1
  have hWn := hW.1
  refine AMet.of mf_Pb_settlerOf rfl (Nat.le_of_ble_eq_true rfl) ?_
  refine aw_aload_n e_Pb_settlerOf_0 rfl ?_
  refine aw_getR e_Pb_settlerOf_1 fl_Pb_10 (hS.1 _ _ _ _ rfl) ?_
  refine aw_cV0 e_Pb_settlerOf_4 ml_Pb_149 mf_Ma_isWhole mv_Ma_isWhole (c_Ma_isWhole hS (by decide) hC hW ?_)
  refine awB_ne e_Pb_settlerOf_7 (fun h7 => ?_) (fun h7 => ?_)
  · refine aw_aload_n e_Pb_settlerOf_13 rfl ?_
    refine aw_getR e_Pb_settlerOf_14 fl_Pb_35 (hS.1 _ _ _ _ rfl) ?_
    refine aw_aload_n e_Pb_settlerOf_17 rfl ?_
    refine aw_getR e_Pb_settlerOf_18 fl_Pb_10 (hS.1 _ _ _ _ rfl) ?_
    refine aw_cV1 e_Pb_settlerOf_21 ml_Pb_158 mf_Lu_survey mv_Lu_survey (c_Lu_survey hS (by decide) hC hW (fun p hp => want_p (whole_w h7 hp)) (fun I2 hLc hLs hfr => ?_))
    replace hC := (CS_lu hCS hfr).2.1
    have hp2 := pow4096 hW
    have hsb := svS_b (sM S) (2 ^ nB (sM S))
    refine aw_aload_n e_Pb_settlerOf_24 rfl ?_
    refine aw_getR e_Pb_settlerOf_25 fl_Pb_35 (hS.1 _ _ _ _ rfl) ?_
    refine aw_getE e_Pb_settlerOf_28 fl_Pb_162 hLs.1 ?_
    refine awN_if_ne e_Pb_settlerOf_31 (by omega) (fun h31 => ?_) (fun h31 => ?_)
    · refine aw_aload_n e_Pb_settlerOf_37 rfl ?_
      refine aw_getR e_Pb_settlerOf_38 fl_Pb_35 (hS.1 _ _ _ _ rfl) ?_
      refine aw_getE e_Pb_settlerOf_41 fl_Pb_166 hLs.2.1 ?_
      refine aw_iload_n e_Pb_settlerOf_44 rfl ?_
      refine aw_ishr e_Pb_settlerOf_45 ?_
      rw [shrS (by omega) (by omega)]
      refine aw_iconst (v := nI 1) e_Pb_settlerOf_46 (by decide) ?_
      refine aw_iand e_Pb_settlerOf_47 ?_
      rw [and1 _ (Nat.lt_of_le_of_lt (Nat.div_le_self _ _) (by omega))]
      refine aw_iconst (v := nI 1) e_Pb_settlerOf_48 (by decide) ?_
      refine awN_icmp_ne e_Pb_settlerOf_49 (by omega) (by omega) (fun h49 => ?_) (fun h49 => ?_)
      · refine aw_aload_n e_Pb_settlerOf_64 rfl ?_
        refine aw_getR e_Pb_settlerOf_65 fl_Pb_10 (hS.1 _ _ _ _ rfl) ?_
        refine aw_getR e_Pb_settlerOf_68 fl_Pb_130 (hS.1 _ _ _ _ rfl) ?_
        refine aw_iload_n e_Pb_settlerOf_71 rfl ?_
        refine aw_ialE e_Pb_settlerOf_72 rfl (show _ < 12 by omega) (by omega) (hC.2.2.1 _ (by omega)) ?_
        have hq := hQ _ _ _ (CS_lu hCS hfr) (KM_lu hfr)
        unfold stlV at hq
        rw [if_pos h7, if_neg h31] at hq
        first
          | (rw [if_pos ((tbit _ _).1 h49)] at hq; exact aw_iret e_Pb_settlerOf_73 rfl rfl hq)
          | (rw [if_neg (fun w => h49 ((tbit _ _).2 w))] at hq; exact aw_iret e_Pb_settlerOf_73 rfl rfl hq)
      · refine aw_aload_n e_Pb_settlerOf_52 rfl ?_
        refine aw_getR e_Pb_settlerOf_53 fl_Pb_10 (hS.1 _ _ _ _ rfl) ?_
        refine aw_getR e_Pb_settlerOf_56 fl_Pb_133 (hS.1 _ _ _ _ rfl) ?_
        refine aw_iload_n e_Pb_settlerOf_59 rfl ?_
        refine aw_ialE e_Pb_settlerOf_60 rfl (show _ < 12 by omega) (by omega) (hC.2.2.2.1 _ (by omega)) ?_
        refine aw_goto e_Pb_settlerOf_61 ?_
        have hq := hQ _ _ _ (CS_lu hCS hfr) (KM_lu hfr)
        unfold stlV at hq
        rw [if_pos h7, if_neg h31] at hq
        first
          | (rw [if_pos ((tbit _ _).1 h49)] at hq; exact aw_iret e_Pb_settlerOf_73 rfl rfl hq)
          | (rw [if_neg (fun w => h49 ((tbit _ _).2 w))] at hq; exact aw_iret e_Pb_settlerOf_73 rfl rfl hq)
    · refine aw_ldc (v := -1000000007) e_Pb_settlerOf_34 kc_Pb_165 ?_
      have hq := hQ _ _ _ (CS_lu hCS hfr) (KM_lu hfr)
      unfold stlV at hq
      rw [if_pos h7, if_pos h31] at hq
      exact aw_iret e_Pb_settlerOf_36 rfl rfl hq
  · refine aw_ldc (v := -1000000002) e_Pb_settlerOf_10 kc_Pb_157 ?_
    have hq := hQ _ _ _ hCS KM_0
    unfold stlV at hq
    rw [if_neg h7] at hq
    exact aw_iret e_Pb_settlerOf_12 rfl rfl hq
theorem c_Pb_carriedBy {l : Launch} {E : En} {d : Nat} {I : It} {L : Lt} {R : Rt} {Z : Zt} {Q : Qt} {S : AS} (hCS : CS I R Z S) {b : Nat} {y : Int32} (hb : b < nB (sM S)) (hQ : ∀ I2 L2 R2, CS I2 R2 Z S → KM I L R I2 L2 R2 → Q (some (vi (carV (sM S) b y))) I2 L2 R2 Z) : AMet l E (d + 6) M_Pb_carriedBy [vr 8 0, vi (nI b), vi y] I L R Z Q := by
  have hS := hCS.1
  have hC := hCS.2.1
  have hW := hCS.2.2.1.1
  have hWn := hW.1
  obtain ⟨ρ0, hG0⟩ := (CS_G hCS).1
  refine AMet.of mf_Pb_carriedBy rfl (Nat.le_of_ble_eq_true rfl) ?_
  refine aw_aload_n e_Pb_carriedBy_0 rfl ?_
  refine aw_getR e_Pb_carriedBy_1 fl_Pb_25 (hS.1 _ _ _ _ rfl) ?_
  refine aw_aload_n e_Pb_carriedBy_4 rfl ?_
  refine aw_getR e_Pb_carriedBy_5 fl_Pb_10 (hS.1 _ _ _ _ rfl) ?_
  refine aw_cV1 e_Pb_carriedBy_8 ml_Pb_153 mf_An_solve mv_An_solve (c_An_solve hS hG0 (by decide) hC hW (fun I2 L2 R2 ρ2 hG2 hj2 hi2 ha2 hg2 hr2 => ?_))
  replace hS := Sta_fr hS hr2
  refine aw_ist3 e_Pb_carriedBy_11 ?_
  refine aw_iload_n e_Pb_carriedBy_12 rfl ?_
  refine aw_iconst (v := nI 1) e_Pb_carriedBy_13 (by decide) ?_
  refine aw_icmp_eq e_Pb_carriedBy_14 (fun h14 => ?_) (fun h14 => ?_)
  · have h1 := (ansV_iff _).1 h14
    have hx1 := ((ha2 h1) b hb).2.2.1
    have hx2 := ((ha2 h1) b hb).2.2.2
    refine aw_iload_n e_Pb_carriedBy_19 rfl ?_
    refine aw_iconst (v := nI 2) e_Pb_carriedBy_20 (by decide) ?_
    refine aw_icmp_ne e_Pb_carriedBy_21 (fun h21 => ?_) (fun h21 => ?_)
    · refine aw_iload_n e_Pb_carriedBy_34 rfl ?_
      refine aw_iconst (v := nI 3) e_Pb_carriedBy_35 (by decide) ?_
      refine aw_icmp_ne e_Pb_carriedBy_36 (fun h36 => ?_) (fun h36 => ?_)
      · refine aw_aload_n e_Pb_carriedBy_51 rfl ?_
        refine aw_getR e_Pb_carriedBy_52 fl_Pb_25 (hS.1 _ _ _ _ rfl) ?_
        refine aw_getR e_Pb_carriedBy_55 fl_Pb_231 (hS.1 _ _ _ _ rfl) ?_
        refine aw_iload_n e_Pb_carriedBy_58 rfl ?_
        refine aw_ialE e_Pb_carriedBy_59 rfl (show _ < 12 by omega) (by omega) ((ha2 h1) b hb).1 ?_
        refine awN_i2l e_Pb_carriedBy_60 (by omega) ?_
        refine aw_aload_n e_Pb_carriedBy_61 rfl ?_
        refine aw_getR e_Pb_carriedBy_62 fl_Pb_25 (hS.1 _ _ _ _ rfl) ?_
        refine aw_getR e_Pb_carriedBy_65 fl_Pb_234 (hS.1 _ _ _ _ rfl) ?_
        refine aw_iload_n e_Pb_carriedBy_68 rfl ?_
        refine aw_ialE e_Pb_carriedBy_69 rfl (show _ < 12 by omega) (by omega) ((ha2 h1) b hb).2.1 ?_
        refine awN_i2l e_Pb_carriedBy_70 (by omega) ?_
        refine aw_cS2 e_Pb_carriedBy_71 ml_Pb_257 mf_Pb_product ms_Pb_product (c_Pb_product ((ha2 h1) b hb).2.2.1 ((ha2 h1) b hb).2.2.2 ?_)
        have hq := hQ _ _ _ (CS_ans hCS (by decide) hG2 hj2 hr2) (KM_fr hj2 hg2 hr2)
        unfold carV at hq
        first
          | (rw [if_pos h1, if_neg h21, if_pos h36] at hq; exact aw_iret e_Pb_carriedBy_74 rfl rfl hq)
          | (rw [if_pos h1, if_neg h21, if_neg h36] at hq; exact aw_iret e_Pb_carriedBy_74 rfl rfl hq)
      · refine aw_aload_n e_Pb_carriedBy_39 rfl ?_
        refine aw_getR e_Pb_carriedBy_40 fl_Pb_25 (hS.1 _ _ _ _ rfl) ?_
        refine aw_getR e_Pb_carriedBy_43 fl_Pb_234 (hS.1 _ _ _ _ rfl) ?_
        refine aw_iload_n e_Pb_carriedBy_46 rfl ?_
        refine aw_ialE e_Pb_carriedBy_47 rfl (show _ < 12 by omega) (by omega) ((ha2 h1) b hb).2.1 ?_
        refine aw_goto e_Pb_carriedBy_48 ?_
        have hq := hQ _ _ _ (CS_ans hCS (by decide) hG2 hj2 hr2) (KM_fr hj2 hg2 hr2)
        unfold carV at hq
        first
          | (rw [if_pos h1, if_neg h21, if_pos h36] at hq; exact aw_iret e_Pb_carriedBy_74 rfl rfl hq)
          | (rw [if_pos h1, if_neg h21, if_neg h36] at hq; exact aw_iret e_Pb_carriedBy_74 rfl rfl hq)
    · refine aw_aload_n e_Pb_carriedBy_24 rfl ?_
      refine aw_getR e_Pb_carriedBy_25 fl_Pb_25 (hS.1 _ _ _ _ rfl) ?_
      refine aw_getR e_Pb_carriedBy_28 fl_Pb_231 (hS.1 _ _ _ _ rfl) ?_
      refine aw_iload_n e_Pb_carriedBy_31 rfl ?_
      refine aw_ialE e_Pb_carriedBy_32 rfl (show _ < 12 by omega) (by omega) ((ha2 h1) b hb).1 ?_
      have hq := hQ _ _ _ (CS_ans hCS (by decide) hG2 hj2 hr2) (KM_fr hj2 hg2 hr2)
      unfold carV at hq
      rw [if_pos h1, if_pos h21] at hq
      exact aw_iret e_Pb_carriedBy_33 rfl rfl hq
  · refine aw_iload_n e_Pb_carriedBy_17 rfl ?_
    have hq := hQ _ _ _ (CS_ans hCS (by decide) hG2 hj2 hr2) (KM_fr hj2 hg2 hr2)
    unfold carV at hq
    rw [if_neg (fun w => h14 ((ansV_iff _).2 w))] at hq
    exact aw_iret e_Pb_carriedBy_18 rfl rfl hq
