/-! ===== the model: text ===== -/
theorem MC.lo {I I2 : It} {V : Mc} (h : MC I 0 V) (hW : WF V) (e : ∀ n, n < 100 + 200 * nX V → I2 28 0 n = I 28 0 n) : MC I2 0 V := by
  obtain ⟨h1, h2, h3, h4, h5⟩ := h
  have hp := hW.1.1
  have hb := hW.1.2.1
  refine ⟨by rw [e 0 (by omega), e 1 (by omega), e 2 (by omega), e 3 (by omega)]; exact h1, fun p f hpp hf => by rw [e _ (by omega)]; exact h2 p f hpp hf, fun b hbb => by rw [e _ (by omega)]; exact h3 b hbb, fun b hbb => by rw [e _ (by omega)]; exact h4 b hbb, fun j hj => (h5 j hj).keep (fun n _ hn => e n (by omega)) (hW.2.2.2 j hj).2.2.2.1⟩
theorem MC_addT {I I2 : It} {V : Mc} {v : TV} (h : MC I 0 V) (hW : WF V) (e : ∀ n, n ≠ 2 → n < 100 + 200 * nX V → I2 28 0 n = I 28 0 n) (e2 : I2 28 0 2 = nI (nX V + 1)) (hv : MT I2 0 (nX V) v) : MC I2 0 (addT V v) := by
  obtain ⟨h1, h2, h3, h4, h5⟩ := h
  have hp := hW.1.1
  have hb := hW.1.2.1
  refine ⟨⟨(e 0 (by decide) (by omega)).trans h1.1, (e 1 (by decide) (by omega)).trans h1.2.1, e2, (e 3 (by decide) (by omega)).trans h1.2.2.2⟩, fun p f hpp hf => by rw [e _ (by omega) (by have : p < nP V := hpp; omega)]; exact h2 p f hpp hf, fun b hbb => by rw [e _ (by omega) (by have : b < nB V := hbb; omega)]; exact h3 b hbb, fun b hbb => by rw [e _ (by omega) (by have : b < nB V := hbb; omega)]; exact h4 b hbb, fun j hj => ?_⟩
  have hj2 : j < nX V + 1 := hj
  show MT I2 0 j (if j = nX V then v else tX V j)
  by_cases c : j = nX V
  · rw [if_pos c, c]; exact hv
  · rw [if_neg c]
    exact (h5 j (by omega)).keep (fun n _ hn => e n (by omega) (by omega)) (hW.2.2.2 j (by omega)).2.2.2.1
theorem MOt_t0 {I I2 : It} {S : AS} (h : MOt I S) (e : ∀ t i, t ≠ 9 → t ≠ 40 → t ≠ 41 → ¬ (t = 28 ∧ i = 0) → I2 t i = I t i) (e3 : I2 9 0 3 = I 9 0 3) (e33 : I2 9 0 33 = I 9 0 33) (e16 : I2 9 0 16 = nI 0) : MOt I2 (tx0 S) := by
  obtain ⟨m1, m2, m3, m4, m5, m6⟩ := h
  refine ⟨fun z => (m1 z).keep (e 28 1 (by decide) (by decide) (by decide) (by decide)), e3.trans m2, ⟨e16, fun j hj => absurd hj (Nat.not_lt_zero j)⟩, fun i hi => ?_, fun i hi => ?_, ⟨e33.trans m6.1, by rw [e 45 0 (by decide) (by decide) (by decide) (by decide)]; exact m6.2⟩⟩
  · unfold MSh
    rw [e 29 0 (by decide) (by decide) (by decide) (by decide), e 30 0 (by decide) (by decide) (by decide) (by decide), e 31 0 (by decide) (by decide) (by decide) (by decide)]
    exact m4 i hi
  · unfold MSl
    rw [e 32 0 (by decide) (by decide) (by decide) (by decide), e 33 0 (by decide) (by decide) (by decide) (by decide), e 34 0 (by decide) (by decide) (by decide) (by decide), e 35 0 (by decide) (by decide) (by decide) (by decide), e 36 0 (by decide) (by decide) (by decide) (by decide)]
    exact m5 i hi
theorem c_Mo_text {l : Launch} {E : En} {d : Nat} {I : It} {L : Lt} {R : Rt} {Z : Zt} {Q : Qt} {S : AS} (hS : Sta R) (hM : MSt I S) (hA : AWF S) (hQ : ∀ I2 L2, MSt I2 (op_text S).1 → fK I I2 → Q (some (vi (op_text S).2)) I2 L2 R Z) : AMet l E (d + 706) M_Mo_text [vr 9 0] I L R Z Q := by
  have hC := hM.1
  have hW := hA.1.1
  have hnb := hW.1.2.1
  have hnp := hW.1.1
  have hnx := hW.1.2.2.1
  have hns := hW.1.2.2.2
  have hA96 := hA.2.2.2.1
  refine AMet.of mf_Mo_text rfl (Nat.le_of_ble_eq_true rfl) ?_
  refine aw_aload_n e_Mo_text_0 rfl ?_
  refine aw_cV0 e_Mo_text_1 ml_Mo_313 mf_Mo_parse mv_Mo_parse (c_Mo_parse (t := sT S) (n := nX (sM S)) hS ⟨hM.2.2.2.1.1, hA96, hM.2.2.2.1.2⟩ hC.1.2.2.1 (by omega) (fun hng I2 hf2 hb2 => ?_) (fun hg I2 hf2 hc2 => ?_))
  · refine aw_ist1 e_Mo_text_4 ?_
    refine aw_iload_n e_Mo_text_5 rfl ?_
    refine awZ_if_ge e_Mo_text_6 (fun h6 => ?_) (fun h6 => ?_)
    · exact absurd h6 (by decide)
    · refine aw_bipush (v := -100) e_Mo_text_9 (by decide) ?_
      refine aw_aload_n e_Mo_text_11 rfl ?_
      refine aw_getE e_Mo_text_12 fl_Mo_246 hb2 ?_
      refine aw_isub e_Mo_text_15 ?_
      have hms : MSt I2 (tx0 S) := ⟨hC.lo hW (fun n hn => hf2.2.2.2 n (by unfold lay; split <;> omega)), MOt_t0 hM.2 (fun t i a _ _ b => hf2.1 t i (fun z => a z.1) b) (hf2.2.1 3 (by decide)) (hf2.2.1 33 (by decide)) hf2.2.2.1⟩
      have hq := hQ I2 L
      rw [op_text_n hng] at hq
      exact aw_iret e_Mo_text_16 rfl rfl (hq hms (fun t i a b => hf2.1 t i (fun z => a z.1) (by omega)))
  · have hn2 : I2 28 0 2 = nI (nX (sM S)) := (hf2.2.2.2 2 (by unfold lay; split <;> omega)).trans hC.1.2.2.1
    have hnw12 := hg.2.1.2
    have hpk2 := pK_lt (sT S)
    refine aw_ist1 e_Mo_text_4 ?_
    refine aw_iload_n e_Mo_text_5 rfl ?_
    refine awN_if_ge e_Mo_text_6 (by omega) ?_
    refine aw_aload_n e_Mo_text_17 rfl ?_
    refine aw_getR e_Mo_text_18 fl_Mo_7 (hS.1 _ _ _ _ rfl) ?_
    refine aw_iconst (v := nI 2) e_Mo_text_21 (by decide) ?_
    refine aw_ialE e_Mo_text_22 rfl (show 2 < 3110 by decide) (by decide) hn2 ?_
    refine aw_bipush (v := nI 14) e_Mo_text_23 (by decide) ?_
    refine awN_icmp_ne e_Mo_text_25 (by omega) (by omega) (fun h25 => ?_) (fun h25 => ?_)
    · have hlt : nX (sM S) < 14 := by omega
      refine aw_aload_n e_Mo_text_31 rfl ?_
      refine aw_aload_n e_Mo_text_32 rfl ?_
      refine aw_getR e_Mo_text_33 fl_Mo_7 (hS.1 _ _ _ _ rfl) ?_
      refine aw_iconst (v := nI 2) e_Mo_text_36 (by decide) ?_
      refine aw_ialE e_Mo_text_37 rfl (show 2 < 3110 by decide) (by decide) hn2 ?_
      refine aw_cV1 e_Mo_text_38 ml_Mo_208 mf_Mo_textAt mv_Mo_textAt (c_Mo_textAt ?_)
      refine aw_ist2 e_Mo_text_41 ?_
      refine aw_aload_n e_Mo_text_42 rfl ?_
      refine aw_getR e_Mo_text_43 fl_Mo_7 (hS.1 _ _ _ _ rfl) ?_
      refine aw_iload_n e_Mo_text_46 rfl ?_
      refine aw_iconst (v := nI 0) e_Mo_text_47 (by decide) ?_
      first | refine awN_iadd e_Mo_text_48 ?_ | refine aw_iadd e_Mo_text_48 ?_
      refine aw_iload_n e_Mo_text_49 rfl ?_
      refine aw_iast e_Mo_text_50 rfl (show _ < 3110 by omega) (by omega) ?_
      refine aw_aload_n e_Mo_text_51 rfl ?_
      refine aw_getR e_Mo_text_52 fl_Mo_7 (hS.1 _ _ _ _ rfl) ?_
      refine aw_iload_n e_Mo_text_55 rfl ?_
      refine aw_iconst (v := nI 1) e_Mo_text_56 (by decide) ?_
      first | refine awN_iadd e_Mo_text_57 ?_ | refine aw_iadd e_Mo_text_57 ?_
      refine aw_aload_n e_Mo_text_58 rfl ?_
      refine aw_getE e_Mo_text_59 fl_Mo_295 ((sI_n2 (by decide)).trans hc2.2.2) ?_
      refine aw_iast e_Mo_text_62 rfl (show _ < 3110 by omega) (by omega) ?_
      refine aw_aload_n e_Mo_text_63 rfl ?_
      refine aw_getR e_Mo_text_64 fl_Mo_7 (hS.1 _ _ _ _ rfl) ?_
      refine aw_iload_n e_Mo_text_67 rfl ?_
      refine aw_iconst (v := nI 2) e_Mo_text_68 (by decide) ?_
      first | refine awN_iadd e_Mo_text_69 ?_ | refine aw_iadd e_Mo_text_69 ?_
      refine aw_aload_n e_Mo_text_70 rfl ?_
      refine aw_getE e_Mo_text_71 fl_Mo_271 ((sI_n2 (by decide)).trans ((sI_n2 (by decide)).trans hc2.1)) ?_
      refine aw_iast e_Mo_text_74 rfl (show _ < 3110 by omega) (by omega) ?_
      refine aw_aload_n e_Mo_text_75 rfl ?_
      refine aw_getR e_Mo_text_76 fl_Mo_7 (hS.1 _ _ _ _ rfl) ?_
      refine aw_iconst (v := nI 2) e_Mo_text_79 (by decide) ?_
      refine aw_dup2 e_Mo_text_80 rfl rfl ?_
      refine aw_ialE e_Mo_text_81 rfl (show 2 < 3110 by decide) (by decide) ((sI_ne (by omega)).trans ((sI_ne (by omega)).trans ((sI_ne (by omega)).trans hn2))) ?_
      refine aw_iconst (v := nI 1) e_Mo_text_82 (by decide) ?_
      first | refine awN_iadd e_Mo_text_83 ?_ | refine aw_iadd e_Mo_text_83 ?_
      refine aw_iast e_Mo_text_84 rfl (show _ < 3110 by omega) (by omega) ?_
      have hlay : lay (nX (sM S)) = 100 + 200 * nX (sM S) + 4 := if_pos hlt
      rw [hlay] at hf2 hc2
      generalize hI4 : (sI (sI (sI (sI I2 28 0 ((100 + 200 * nX (sM S)) + 0) (nI (12 * pk (sT S) + nW (sT S)))) 28 0 ((100 + 200 * nX (sM S)) + 1) (nI (pR (sT S)).2.2.2)) 28 0 ((100 + 200 * nX (sM S)) + 2) (nI (pR (sT S)).2.2.1.length)) 28 0 2 (nI (nX (sM S) + 1))) = I4
      have h4a : ∀ t i, ¬ (t = 28 ∧ i = 0) → I4 t i = I2 t i := fun t i h => by rw [← hI4, sI_n h, sI_n h, sI_n h, sI_n h]
      have h4b : ∀ n, n ≠ 2 → n < 100 + 200 * nX (sM S) → I4 28 0 n = I 28 0 n := fun n a b => by rw [← hI4, sI_ne a, sI_ne (by omega), sI_ne (by omega), sI_ne (by omega)]; exact hf2.2.2.2 n (by omega)
      have h4c : I4 28 0 2 = nI (nX (sM S) + 1) := by rw [← hI4, sI_eq]
      have h4d : MT I4 0 (nX (sM S)) (pV (sT S)) := by
        refine ⟨?_, ?_, ?_, fun j q hq => ?_⟩
        · rw [← hI4, sI_ne (by omega), sI_ne (by omega), sI_ne (by omega), ← Nat.add_zero (100 + 200 * nX (sM S)), sI_eq]; rfl
        · rw [← hI4, sI_ne (by omega), sI_ne (by omega), sI_eq]; rfl
        · rw [← hI4, sI_ne (by omega), sI_eq]; rfl
        · have hh := hc2.2.1 j q hq
          rw [← hI4]
          exact ⟨by rw [sI_ne (by omega), sI_ne (by omega), sI_ne (by omega), sI_ne (by omega)]; exact hh.1, by rw [sI_ne (by omega), sI_ne (by omega), sI_ne (by omega), sI_ne (by omega)]; exact hh.2⟩
      have hC4 : MC I4 0 (addT (sM S) (pV (sT S))) := MC_addT hC hW h4b h4c h4d
      have hW4 := WS_addT hA.1 (WFT_p hA.2.2.2.1 hg) hlt
      have h4o : ∀ f, ¬ (16 ≤ f ∧ f ≤ 26) → I4 9 0 f = I 9 0 f := fun f hf => by rw [h4a 9 0 (by decide)]; exact hf2.2.1 f hf
      have h4x : I4 9 0 16 = nI 0 := by rw [h4a 9 0 (by decide)]; exact hf2.2.2.1
      have h4n : ∀ t i, ¬ (t = 9 ∧ i = 0) → ¬ (t = 28 ∧ i = 0) → I4 t i = I t i := fun t i a b => (h4a t i b).trans (hf2.1 t i a b)
      have hnw : nW (sT S) < 12 := hg.2.1.2
      have hpkl := pK_lt (sT S)
      by_cases hpk : pk (sT S) = 0
      · rw [show 12 * pk (sT S) + nW (sT S) = nW (sT S) by omega]
        refine aw_iload_n e_Mo_text_85 rfl ?_
        refine aw_bipush (v := nI 12) e_Mo_text_86 (by decide) ?_
        refine awN_icmp_ge e_Mo_text_88 (by omega) (by omega) (fun h88 => ?_) (fun h88 => ?_)
        · exfalso; omega
        · refine aw_aload_n e_Mo_text_91 rfl ?_
          refine aw_iload_n e_Mo_text_92 rfl ?_
          refine aw_cV1 e_Mo_text_93 ml_Mo_217 mf_Mo_gives mv_Mo_gives (c_Mo_gives hS hC4 hW4.1 hnw (fun I5 hC5 hf5 => ?_))
          refine aw_aload_n e_Mo_text_96 rfl ?_
          refine aw_getR e_Mo_text_97 fl_Mo_7 (hS.1 _ _ _ _ rfl) ?_
          refine aw_iconst (v := nI 2) e_Mo_text_100 (by decide) ?_
          refine aw_ialE e_Mo_text_101 rfl (show 2 < 3110 by decide) (by decide) (show _ = nI (nX (sM S) + 1) from hC5.1.2.2.1.trans (by rw [(follow_n _ _).2.2]; rfl)) ?_
          refine aw_iconst (v := nI 1) e_Mo_text_102 (by decide) ?_
          refine awN_isub e_Mo_text_103 (by omega) ?_
          rw [Nat.add_sub_cancel]
          have hfr : ∀ t i, t ≠ 9 → t ≠ 40 → t ≠ 41 → ¬ (t = 28 ∧ i = 0) → I5 t i = I t i := (fun t i a b c d => (hf5.1 t i d (fun z => a z.1) b c).trans (h4n t i (fun z => a z.1) d))
          have hms : MSt I5 (setM (tx0 S) (txV S)) := ⟨(show MC _ 0 (txV S) by rw [show txV S = _ from if_pos hpk]; exact hC5), (MOt_t0 hM.2 hfr ((hf5.2 3 (by decide)).trans (h4o 3 (by decide))) ((hf5.2 33 (by decide)).trans (h4o 33 (by decide))) ((hf5.2 16 (by decide)).trans h4x) : MOt I5 (tx0 S))⟩
          have hq := hQ I5 L
          rw [op_text_y hg hlt] at hq
          exact aw_iret e_Mo_text_104 rfl rfl (hq hms (fun t i a b => hfr t i a (by omega) (by omega) (by omega)))
      · refine aw_iload_n e_Mo_text_85 rfl ?_
        refine aw_bipush (v := nI 12) e_Mo_text_86 (by decide) ?_
        refine awN_icmp_ge e_Mo_text_88 (by omega) (by omega) (fun h88 => ?_) (fun h88 => ?_)
        · refine aw_aload_n e_Mo_text_96 rfl ?_
          refine aw_getR e_Mo_text_97 fl_Mo_7 (hS.1 _ _ _ _ rfl) ?_
          refine aw_iconst (v := nI 2) e_Mo_text_100 (by decide) ?_
          refine aw_ialE e_Mo_text_101 rfl (show 2 < 3110 by decide) (by decide) h4c ?_
          refine aw_iconst (v := nI 1) e_Mo_text_102 (by decide) ?_
          refine awN_isub e_Mo_text_103 (by omega) ?_
          rw [Nat.add_sub_cancel]
          have hfr : ∀ t i, t ≠ 9 → t ≠ 40 → t ≠ 41 → ¬ (t = 28 ∧ i = 0) → I4 t i = I t i := (fun t i a _ _ b => h4n t i (fun z => a z.1) b)
          have hms : MSt I4 (setM (tx0 S) (txV S)) := ⟨(show MC _ 0 (txV S) by rw [show txV S = _ from if_neg hpk]; exact hC4), (MOt_t0 hM.2 hfr (h4o 3 (by decide)) (h4o 33 (by decide)) h4x : MOt I4 (tx0 S))⟩
          have hq := hQ I4 L
          rw [op_text_y hg hlt] at hq
          exact aw_iret e_Mo_text_104 rfl rfl (hq hms (fun t i a b => hfr t i a (by omega) (by omega) (by omega)))
        · exfalso; omega
    · refine aw_ldc (v := -1000000003) e_Mo_text_28 kc_Mo_108 ?_
      have hms : MSt I2 (tx0 S) := ⟨hC.lo hW (fun n hn => hf2.2.2.2 n (by unfold lay; split <;> omega)), MOt_t0 hM.2 (fun t i a _ _ b => hf2.1 t i (fun z => a z.1) b) (hf2.2.1 3 (by decide)) (hf2.2.1 33 (by decide)) hf2.2.2.1⟩
      have hq := hQ I2 L
      rw [op_text_f hg (by omega)] at hq
      exact aw_iret e_Mo_text_30 rfl rfl (hq hms (fun t i a b => hf2.1 t i (fun z => a z.1) (by omega)))
