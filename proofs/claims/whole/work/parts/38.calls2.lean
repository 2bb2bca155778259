/-! ===== the calls, 2 ===== -/
def addP (V : Mc) (kd so v : Nat) : Mc := (nP V + 1, nB V, nX V, nS V, (fun q f => if q = nP V then ([kd, so, v / 10, v % 10, 0] : List Nat).getD f 0 else pP V q f), V.2.2.2.2.2)
theorem addP_pP (V : Mc) (kd so v q f : Nat) : pP (addP V kd so v) q f = if q = nP V then ([kd, so, v / 10, v % 10, 0] : List Nat).getD f 0 else pP V q f := rfl
def op_part (S : AS) (k s h : Int32) : AS × Int32 := if inR k 6 ∧ inR s 2 ∧ isSh h then (if nP (sM S) < 12 then (setM S (addP (sM S) (ix k) (ix s) (ix h)), nI (nP (sM S))) else (S, -1000000003)) else (S, -1000000001)
theorem WS_addP {V : Mc} {kd so v : Nat} (h : WS V) (hk : kd < 6) (hs : so < 2) (hv : 11 ≤ v ∧ v ≤ 99 ∧ ¬ v % 10 = 0) (hb : nP V < 12) : WS (addP V kd so v) := by
  obtain ⟨⟨h1, h2, h3, h4⟩, h5, h6⟩ := h
  refine ⟨⟨⟨hb, h1.2⟩, fun p hp => ?_, fun b hbb => ?_, h4⟩, h5, fun p hp => ?_⟩
  · have hp2 : p < nP V + 1 := hp
    by_cases e : p = nP V
    · simp only [addP_pP, if_pos e]
      show kd < 6 ∧ so < 2 ∧ (1 ≤ v / 10 ∧ v / 10 ≤ 10) ∧ (1 ≤ v % 10 ∧ v % 10 ≤ 10) ∧ 0 < 1000003
      omega
    · simp only [addP_pP, if_neg e]
      exact h2 p (by omega)
  · have h7 := h3 b hbb
    exact ⟨Nat.lt_succ_of_lt h7.1, Nat.lt_succ_of_lt h7.2.1, h7.2.2⟩
  · have hp2 : p < nP V + 1 := hp
    by_cases e : p = nP V
    · simp only [addP_pP, if_pos e]
      show v / 10 ≤ 9 ∧ v % 10 ≤ 9
      omega
    · simp only [addP_pP, if_neg e]
      exact h6 p (by omega)
theorem CM_addP {I : It} {R : Rt} {Z : Zt} {V : Mc} {kd so v : Nat} (h : CM I R Z 0 V) : CM (sI (wP I (12 * 0 + nP V) (fun f => ([kd, so, v / 10, v % 10, 0] : List Nat).getD f 0)) 2 0 4 (nI (nP V + 1))) R Z 0 (addP V kd so v) := by
  obtain ⟨h1, h2, h3, h4, h5⟩ := h
  refine ⟨⟨?_, ?_, ?_, ?_⟩, fun p g hp hg => ?_, fun b hb => ?_, fun b hb => ?_, fun j hj => ?_⟩
  · rw [sI_s, upd, if_pos rfl]; rfl
  · rw [sI_s, upd, if_neg (by decide), wP_n (by omega)]; exact h1.2.1
  · rw [sI_s, upd, if_neg (by decide), wP_n (by omega)]; exact h1.2.2.1
  · rw [sI_s, upd, if_neg (by decide), wP_n (by omega)]; exact h1.2.2.2
  · have hp2 : p < nP V + 1 := hp
    rw [sI_n (by omega)]
    show _ = nI (if p = nP V then ([kd, so, v / 10, v % 10, 0] : List Nat).getD g 0 else pP V p g)
    by_cases e : p = nP V
    · rw [if_pos e, e, wP_s hg]
    · rw [if_neg e, wP_n (by omega)]
      exact h2 p g (by omega) hg
  · rw [sI_n (by omega), wP_n (by omega)]; exact h3 b hb
  · rw [sI_n (by omega), wP_n (by omega)]; exact h4 b hb
  · obtain ⟨x, hx, ho⟩ := h5 j hj
    exact ⟨x, hx, ho.keep ⟨by rw [sI_n (by omega), wP_n (by omega)], by rw [sI_n (by omega), wP_n (by omega)]⟩ rfl rfl⟩
theorem c_Pb_part {l : Launch} {E : En} {d : Nat} {I : It} {L : Lt} {R : Rt} {Z : Zt} {Q : Qt} {S : AS} (hCS : CS I R Z S) {x y z : Int32} (hQ : ∀ I2 L2 R2, CS I2 R2 Z (op_part S x y z).1 → KM I L R I2 L2 R2 → Q (some (vi (op_part S x y z).2)) I2 L2 R2 Z) : AMet l E (d + 2) M_Pb_part [vr 8 0, vi x, vi y, vi z] I L R Z Q := by
  have hS := hCS.1
  have hC := hCS.2.1
  have hW := hCS.2.2.1.1
  have hWn := hW.1
  have hT1 : (nI 1).toInt = 1 := by decide
  have hcnt := hC.1.1
  refine AMet.of mf_Pb_part rfl (Nat.le_of_ble_eq_true rfl) ?_
  refine aw_iload_n e_Pb_part_0 rfl ?_
  refine aw_cS1 e_Pb_part_1 ml_Pb_67 mf_Pb_isKind ms_Pb_isKind (c_Pb_isKind ?_)
  refine awB_eq e_Pb_part_4 (fun h4 => ?_) (fun h4 => ?_)
  · refine aw_ldc (v := -1000000001) e_Pb_part_23 kc_Pb_74 ?_
    have hq := hQ I L R
    unfold op_part at hq
    first
      | (rw [if_neg (fun w => h4 w.1)] at hq; exact aw_iret e_Pb_part_25 rfl rfl (hq hCS KM_0))
      | (rw [if_neg (fun w => h20 w.2.2)] at hq; exact aw_iret e_Pb_part_25 rfl rfl (hq hCS KM_0))
      | (rw [if_neg (fun w => by have w1 := w.2.1.1; have w2 := w.2.1.2; omega)] at hq; exact aw_iret e_Pb_part_25 rfl rfl (hq hCS KM_0))
  · refine aw_iload_n e_Pb_part_7 rfl ?_
    refine awZ_if_lt e_Pb_part_8 (fun h8 => ?_) (fun h8 => ?_)
    · refine aw_ldc (v := -1000000001) e_Pb_part_23 kc_Pb_74 ?_
      have hq := hQ I L R
      unfold op_part at hq
      first
        | (rw [if_neg (fun w => h4 w.1)] at hq; exact aw_iret e_Pb_part_25 rfl rfl (hq hCS KM_0))
        | (rw [if_neg (fun w => h20 w.2.2)] at hq; exact aw_iret e_Pb_part_25 rfl rfl (hq hCS KM_0))
        | (rw [if_neg (fun w => by have w1 := w.2.1.1; have w2 := w.2.1.2; omega)] at hq; exact aw_iret e_Pb_part_25 rfl rfl (hq hCS KM_0))
    · refine aw_iload_n e_Pb_part_11 rfl ?_
      refine aw_iconst (v := nI 1) e_Pb_part_12 (by decide) ?_
      refine awZ_icmp_gt e_Pb_part_13 (fun h13 => ?_) (fun h13 => ?_)
      · refine aw_ldc (v := -1000000001) e_Pb_part_23 kc_Pb_74 ?_
        have hq := hQ I L R
        unfold op_part at hq
        first
          | (rw [if_neg (fun w => h4 w.1)] at hq; exact aw_iret e_Pb_part_25 rfl rfl (hq hCS KM_0))
          | (rw [if_neg (fun w => h20 w.2.2)] at hq; exact aw_iret e_Pb_part_25 rfl rfl (hq hCS KM_0))
          | (rw [if_neg (fun w => by have w1 := w.2.1.1; have w2 := w.2.1.2; omega)] at hq; exact aw_iret e_Pb_part_25 rfl rfl (hq hCS KM_0))
      · refine aw_iload_n e_Pb_part_16 rfl ?_
        refine aw_cS1 e_Pb_part_17 ml_Pb_71 mf_Pb_isShare ms_Pb_isShare (c_Pb_isShare ?_)
        refine awB_ne e_Pb_part_20 (fun h20 => ?_) (fun h20 => ?_)
        · have hy2 : inR y 2 := ⟨by omega, by omega⟩
          obtain ⟨k, hk, rfl⟩ := inR_nI h4
          obtain ⟨s, hs, rfl⟩ := inR_nI hy2
          obtain ⟨v, hv0, rfl⟩ := inR_nI (x := z) (n := 100) ⟨by have := h20.1; omega, by have := h20.2.1; omega⟩
          have hT4 := nT (n := v) (by omega)
          have hv : 11 ≤ v ∧ v ≤ 99 ∧ ¬ v % 10 = 0 := by have q1 := h20.1; have q2 := h20.2.1; have q3 := h20.2.2; omega
          refine aw_aload_n e_Pb_part_26 rfl ?_
          refine aw_getR e_Pb_part_27 fl_Pb_10 (hS.1 _ _ _ _ rfl) ?_
          refine aw_getE e_Pb_part_30 fl_Pb_75 hcnt ?_
          refine aw_bipush (v := nI 12) e_Pb_part_33 (by decide) ?_
          refine awN_icmp_lt e_Pb_part_35 (by omega) (by omega) (fun h35 => ?_) (fun h35 => ?_)
          · refine aw_aload_n e_Pb_part_41 rfl ?_
            refine aw_getR e_Pb_part_42 fl_Pb_10 (hS.1 _ _ _ _ rfl) ?_
            refine aw_getR e_Pb_part_45 fl_Pb_80 (hS.1 _ _ _ _ rfl) ?_
            refine aw_aload_n e_Pb_part_48 rfl ?_
            refine aw_getR e_Pb_part_49 fl_Pb_10 (hS.1 _ _ _ _ rfl) ?_
            refine aw_getE e_Pb_part_52 fl_Pb_75 hcnt ?_
            refine aw_aald e_Pb_part_55 rfl (show _ < 12 by omega) (by omega) (hS.2.1 _ _ (by omega) (by omega)) ?_
            refine aw_iload_n e_Pb_part_56 rfl ?_
            refine aw_iload_n e_Pb_part_57 rfl ?_
            refine aw_iload_n e_Pb_part_58 rfl ?_
            refine aw_cV3 e_Pb_part_59 ml_Pb_84 mf_Pa_become mv_Pa_become (c_Pa_become (kd := k) (so := s) (v := v) (by omega) ?_)
            replace hcnt : wP I (12 * 0 + nP (sM S)) (fun f => ([k, s, v / 10, v % 10, 0] : List Nat).getD f 0) 2 0 4 = nI (nP (sM S)) := by rw [wP_n (by omega)]; exact hC.1.1
            refine aw_aload_n e_Pb_part_62 rfl ?_
            refine aw_getR e_Pb_part_63 fl_Pb_10 (hS.1 _ _ _ _ rfl) ?_
            refine aw_dup e_Pb_part_66 rfl ?_
            refine aw_getE e_Pb_part_67 fl_Pb_75 hcnt ?_
            refine aw_iconst (v := nI 1) e_Pb_part_70 (by decide) ?_
            first | refine awN_iadd e_Pb_part_71 ?_ | refine aw_iadd e_Pb_part_71 ?_
            refine aw_putI e_Pb_part_72 fl_Pb_75 ?_
            replace hcnt : (sI (wP I (12 * 0 + nP (sM S)) (fun f => ([k, s, v / 10, v % 10, 0] : List Nat).getD f 0)) 2 0 4 (nI (nP (sM S) + 1))) 2 0 4 = nI (nP (sM S) + 1) := by rw [sI_s, upd, if_pos rfl]
            refine aw_aload_n e_Pb_part_75 rfl ?_
            refine aw_getR e_Pb_part_76 fl_Pb_10 (hS.1 _ _ _ _ rfl) ?_
            refine aw_getE e_Pb_part_79 fl_Pb_75 hcnt ?_
            refine aw_iconst (v := nI 1) e_Pb_part_82 (by decide) ?_
            refine awN_isub e_Pb_part_83 (show 1 ≤ nP (sM S) + 1 by omega) ?_
            have hC2 := CM_addP (kd := k) (so := s) (v := v) hC
            have hq := hQ (sI (wP I (12 * 0 + nP (sM S)) (fun f => ([k, s, v / 10, v % 10, 0] : List Nat).getD f 0)) 2 0 4 (nI (nP (sM S) + 1))) L R
            unfold op_part at hq
            rw [if_pos ⟨h4, hy2, h20⟩, if_pos (by omega), ix_n (by omega), ix_n (by omega), ix_n (by omega)] at hq
            have hfr : ∀ t i, ¬ own 0 t i → (sI (wP I (12 * 0 + nP (sM S)) (fun f => ([k, s, v / 10, v % 10, 0] : List Nat).getD f 0)) 2 0 4 (nI (nP (sM S) + 1))) t i = I t i := fun t i hti => by
              unfold own at hti
              rw [sI_n (by omega), wP_n (by omega)]
            exact aw_iret e_Pb_part_84 rfl rfl (hq (CS_mach hCS hC2 (WS_addP hCS.2.2.1 hk hs hv (by omega)) hfr) (KM_own hfr))
          · refine aw_ldc (v := -1000000003) e_Pb_part_38 kc_Pb_79 ?_
            have hq := hQ I L R
            unfold op_part at hq
            first
              | (rw [if_pos ⟨h4, hy2, h20⟩, if_neg (by omega)] at hq; exact aw_iret e_Pb_part_40 rfl rfl (hq hCS KM_0))
        · refine aw_ldc (v := -1000000001) e_Pb_part_23 kc_Pb_74 ?_
          have hq := hQ I L R
          unfold op_part at hq
          first
            | (rw [if_neg (fun w => h4 w.1)] at hq; exact aw_iret e_Pb_part_25 rfl rfl (hq hCS KM_0))
            | (rw [if_neg (fun w => h20 w.2.2)] at hq; exact aw_iret e_Pb_part_25 rfl rfl (hq hCS KM_0))
            | (rw [if_neg (fun w => by have w1 := w.2.1.1; have w2 := w.2.1.2; omega)] at hq; exact aw_iret e_Pb_part_25 rfl rfl (hq hCS KM_0))
def op_breaks (S : AS) (b : Int32) : AS × Int32 := if inR b (nB (sM S)) then (setM S (dropB (sM S) (ix b)), nI (nB (dropB (sM S) (ix b)))) else (S, -1000000001)
theorem WS_dropB {V : Mc} (h : WS V) {b : Nat} (hb : b < nB V) : WS (dropB V b) := ⟨WF_dropB h.1 hb, h.2⟩
theorem c_Pb_breaks {l : Launch} {E : En} {d : Nat} {I : It} {L : Lt} {R : Rt} {Z : Zt} {Q : Qt} {S : AS} (hCS : CS I R Z S) {x : Int32} (hQ : ∀ I2 L2 R2, CS I2 R2 Z (op_breaks S x).1 → KM I L R I2 L2 R2 → Q (some (vi (op_breaks S x).2)) I2 L2 R2 Z) : AMet l E (d + 1) M_Pb_breaks [vr 8 0, vi x] I L R Z Q := by
  have hS := hCS.1
  have hC := hCS.2.1
  have hW := hCS.2.2.1.1
  have hWn := hW.1
  refine AMet.of mf_Pb_breaks rfl (Nat.le_of_ble_eq_true rfl) ?_
  refine aw_aload_n e_Pb_breaks_0 rfl ?_
  refine aw_getR e_Pb_breaks_1 fl_Pb_10 (hS.1 _ _ _ _ rfl) ?_
  refine aw_iload_n e_Pb_breaks_4 rfl ?_
  refine aw_cV1 e_Pb_breaks_5 ml_Pb_136 mf_Ma_hasBond mv_Ma_hasBond (c_Ma_hasBond hS (by decide) hC hW ?_)
  refine awB_ne e_Pb_breaks_8 (fun h8 => ?_) (fun h8 => ?_)
  · obtain ⟨b, hb, rfl⟩ := inR_nI h8
    refine aw_aload_n e_Pb_breaks_14 rfl ?_
    refine aw_getR e_Pb_breaks_15 fl_Pb_10 (hS.1 _ _ _ _ rfl) ?_
    refine aw_iload_n e_Pb_breaks_18 rfl ?_
    refine aw_cV1 e_Pb_breaks_19 ml_Pb_139 mf_Ma_dropBond mv_Ma_dropBond (c_Ma_dropBond hS (by decide) hC hW hb (fun I2 hC2 hfr => ?_))
    refine aw_aload_n e_Pb_breaks_22 rfl ?_
    refine aw_getR e_Pb_breaks_23 fl_Pb_10 (hS.1 _ _ _ _ rfl) ?_
    refine aw_getE e_Pb_breaks_26 fl_Pb_127 hC2.1.2.1 ?_
    have hq := hQ I2 L R
    unfold op_breaks at hq
    first
      | (rw [if_pos h8, ix_n (by omega)] at hq; exact aw_iret e_Pb_breaks_29 rfl rfl (hq (CS_mach hCS hC2 (WS_dropB hCS.2.2.1 hb) hfr) (KM_own hfr)))
  · refine aw_ldc (v := -1000000001) e_Pb_breaks_11 kc_Pb_74 ?_
    have hq := hQ I L R
    unfold op_breaks at hq
    first
      | (rw [if_neg h8] at hq; exact aw_iret e_Pb_breaks_13 rfl rfl (hq hCS KM_0))
