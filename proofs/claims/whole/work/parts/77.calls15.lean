/-! ===== the calls, 15 ===== -/
theorem KM_tr {I I2 I3 : It} {L L2 L3 : Lt} {R R2 R3 : Rt} (h : KM I L R I2 L2 R2) (h2 : KM I2 L2 R2 I3 L3 R3) : KM I L R I3 L3 R3 := fun t i ht => ⟨(h2 t i ht).1.trans (h t i ht).1, (h2 t i ht).2.1.trans (h t i ht).2.1, (h2 t i ht).2.2.trans (h t i ht).2.2⟩
theorem CM_an {I I2 : It} {R R2 : Rt} {Z : Zt} {k a : Nat} {V : Mc} (h : CM I R Z k V) (hW : WF V) (hj : frJ a I I2) (hr : frR a R R2) : CM I2 R2 Z k V := CM_frR (CM_frJ h hW hj) hW hr
theorem fst_n {P : Nat → Bool} {n : Nat} (h : ¬ (fst' P n 0 = n ∧ P n = false)) : fst' P (n + 1) 0 = fst' P n 0 := by
  have a := fst_spec P n 0 (Nat.zero_le _)
  have b := fst_spec P (n + 1) 0 (Nat.zero_le _)
  rcases Nat.lt_trichotomy (fst' P n 0) (fst' P (n + 1) 0) with e | e | e
  · exfalso
    have c := b.2.2.2 _ (Nat.zero_le _) e
    by_cases e2 : fst' P n 0 < n
    · rw [a.2.2.1 e2] at c; exact absurd c (by decide)
    · have e3 : fst' P n 0 = n := by omega
      exact h ⟨e3, e3 ▸ c⟩
  · exact e.symm
  · exfalso
    have c := a.2.2.2 _ (Nat.zero_le _) e
    rw [b.2.2.1 (by omega)] at c; exact absurd c (by decide)
theorem fst_y {P : Nat → Bool} {n : Nat} (h : fst' P n 0 = n) (hp : P n = false) : fst' P (n + 1) 0 = n + 1 := by
  have a := fst_spec P n 0 (Nat.zero_le _)
  have b := fst_spec P (n + 1) 0 (Nat.zero_le _)
  by_cases e : fst' P (n + 1) 0 < n + 1
  · exfalso
    have c := b.2.2.1 e
    by_cases e2 : fst' P (n + 1) 0 = n
    · rw [e2, hp] at c; exact absurd c (by decide)
    · have c2 := a.2.2.2 _ (Nat.zero_le _) (show fst' P (n + 1) 0 < fst' P n 0 by omega)
      rw [c2] at c; exact absurd c (by decide)
  · omega
theorem rgt_le (V : Mc) (w : Nat → Int32) (c : Nat) : rgt V w c ≤ c := (fst_spec _ c 0 (Nat.zero_le _)).1
theorem rgt_y {V : Mc} {w : Nat → Int32} {c j r : Nat} (hr : r = rgt V w (min c j)) (h : r = j) (hc : j < c) (hw : w j = rowV V j) : r + 1 = rgt V w (min c (j + 1)) := by
  have e : min c (j + 1) = min c j + 1 := by omega
  have e2 : min c j = j := by omega
  rw [e, e2, h]
  rw [e2, h] at hr
  exact (fst_y hr.symm (by rw [decide_eq_true hw]; rfl)).symm
theorem rgt_n {V : Mc} {w : Nat → Int32} {c j r : Nat} (hr : r = rgt V w (min c j)) (h : ¬ (r = j ∧ j < c ∧ w j = rowV V j)) : r = rgt V w (min c (j + 1)) := by
  by_cases hc : j < c
  · have e : min c (j + 1) = min c j + 1 := by omega
    have e2 : min c j = j := by omega
    rw [e, e2]
    rw [e2] at hr
    refine hr.trans (fst_n (fun z => h ⟨hr.trans z.1, hc, ?_⟩)).symm
    have z2 := z.2
    exact Decidable.byContradiction (fun y => by rw [decide_eq_false y] at z2; exact absurd z2 (by decide))
  · rw [show min c (j + 1) = min c j by omega]; exact hr
theorem CM_ovr {I : It} {R : Rt} {Z : Zt} {V : Mc} {p : Nat} (h : CM I R Z 2 V) (hW : WF V) (hp : p < nP V) : CM (sI I 3 (12 * 2 + p) 2 (nI (pP V p 2 + 1))) R Z 2 (ovr V p) := CM_setP (by decide) h hW (fun t i hti => sI_n hti) (fun f hf => by
  by_cases e : f = 2
  · rw [if_pos e, e, sI_eq]
  · rw [if_neg e, sI_ne e]; exact h.2.1 p f hp hf)
theorem CS_w0 {I : It} {R : Rt} {Z : Zt} {S : AS} (h : CS I R Z S) : CS (sI I 8 0 11 (nI 0)) R Z (sM S, sG S, sK S, sT S, sH S, sL2 S, (0, (sW S).2)) := by
  obtain ⟨h1, h2, h3, h4, h5, h6, h7, h8, h9, h10⟩ := h
  have e : ∀ t i, t ≠ 8 → sI I 8 0 11 (nI 0) t i = I t i := fun t i h => sI_n (fun z => h z.1)
  refine ⟨h1, h2.keep h3.1 (fun t i hti => e t i (by unfold own at hti; omega)) (fun _ _ _ => rfl), h3, fun z => ⟨(h4 z).1.keep (h4 z).2.1 (fun t i hti => e t i (by unfold own at hti; omega)) (fun _ _ _ => rfl), (h4 z).2⟩, ⟨(sI_ne (by decide)).trans h5.1, h5.2⟩, by rw [e 6 0 (by decide), e 20 0 (by decide)]; exact h6, fun i hi => (h7 i hi).keep (e 4 i (by decide)) (e 26 i (by decide)), fun i hi => ?_, ⟨sI_eq _ _ _ _ _, Nat.zero_le _, fun j hj => absurd hj (Nat.not_lt_zero j)⟩, h10⟩
  have a := h8 i hi
  unfold SLo at a ⊢
  rw [e 5 i (by decide), e 3 _ (by decide)]
  exact ⟨a.1, a.2.1, a.2.2.1, a.2.2.2.1, fun z => ⟨(a.2.2.2.2 z).1.keep (e 4 _ (by decide)) (e 26 _ (by decide)), (a.2.2.2.2 z).2⟩⟩
theorem c_Pb_run {l : Launch} {E : En} {d : Nat} {I : It} {L : Lt} {R : Rt} {Z : Zt} {Q : Qt} {S : AS} (hCS : CS I R Z S) {x : Int32} (hQ : ∀ I2 L2 R2, CS I2 R2 Z (op_run S x).1 → KM I L R I2 L2 R2 → Q (some (vi (op_run S x).2)) I2 L2 R2 Z) : AMet l E (d + 6) M_Pb_run [vr 8 0, vi x] I L R Z Q := by
  have hS := hCS.1
  have hC := hCS.2.1
  have hW := hCS.2.2.1.1
  have hWn := hW.1
  have hs9 := hCS.2.2.1.2.1
  have hT1 : (nI 1).toInt = 1 := by decide
  have hT60 : (nI 60).toInt = 60 := by decide
  refine AMet.of mf_Pb_run rfl (Nat.le_of_ble_eq_true rfl) ?_
  refine aw_iload_n e_Pb_run_0 rfl ?_
  refine aw_iconst (v := nI 1) e_Pb_run_1 (by decide) ?_
  refine awZ_icmp_lt e_Pb_run_2 (fun h2 => ?_) (fun h2 => ?_)
  · refine aw_ldc (v := -1000000001) e_Pb_run_11 kc_Pb_74 ?_
    have hq := hQ I L R
    unfold op_run at hq
    first
      | (rw [if_neg (fun w => by have w1 := w.1; have w2 := w.2; omega)] at hq; exact aw_iret e_Pb_run_13 rfl rfl (hq hCS KM_0))
  · refine aw_iload_n e_Pb_run_5 rfl ?_
    refine aw_bipush (v := nI 60) e_Pb_run_6 (by decide) ?_
    refine awZ_icmp_le e_Pb_run_8 (fun h8 => ?_) (fun h8 => ?_)
    · have hg : 1 ≤ x.toInt ∧ x.toInt ≤ 60 := ⟨by omega, by omega⟩
      obtain ⟨n, hn, rfl⟩ := inR_nI (x := x) (n := 61) ⟨by omega, by omega⟩
      have hT := nT (n := n) (by omega)
      refine aw_aload_n e_Pb_run_14 rfl ?_
      refine aw_getR e_Pb_run_15 fl_Pb_10 (hS.1 _ _ _ _ rfl) ?_
      refine aw_getE e_Pb_run_18 fl_Pb_182 hC.1.2.2.2 ?_
      refine aw_iload_n e_Pb_run_21 rfl ?_
      refine awN_iadd e_Pb_run_22 ?_
      refine aw_sipush (v := nI 9999) e_Pb_run_23 (by decide) ?_
      refine awN_icmp_le e_Pb_run_26 (by omega) (by omega) (fun h26 => ?_) (fun h26 => ?_)
      · refine aw_aload_n e_Pb_run_32 rfl ?_
        refine aw_getR e_Pb_run_33 fl_Pb_19 (hS.1 _ _ _ _ rfl) ?_
        refine aw_aload_n e_Pb_run_36 rfl ?_
        refine aw_getR e_Pb_run_37 fl_Pb_10 (hS.1 _ _ _ _ rfl) ?_
        refine aw_cV1 e_Pb_run_40 ml_Pb_185 mf_Ma_takeFrom mv_Ma_takeFrom (c_Ma_takeFrom hS (by decide) (by decide) (by decide) hC hW (fun I1 R1 hC1 hI1 hR1 => ?_))
        refine aw_iconst (v := nI 0) e_Pb_run_43 (by decide) ?_
        refine aw_ist2 e_Pb_run_44 ?_
        refine up_loop (P := fun k => (runR (sM S) k).2 = nI 1 → ∀ I2 L2 R2, SC I L R I2 L2 R2 → CM I2 R2 Z 2 (runR (sM S) k).1 → AWq l E (d + 6) M_Pb_run Z 45 [some (vr 8 0), some (vi (nI n)), some (vi (nI k)), none] [] I2 L2 R2 Z Q) (N := n) (fun k hk ih hst I2 L2 R2 hsc2 hC2 => ?_) 0 (Nat.zero_le _) rfl I1 L R1 (SC_R (SC_0 hCS) hI1 hR1) hC1
        have hr := runR_w hW k (by omega) hst
        clear hS
        have hS : Sta R2 := (hsc2.cs hCS).1
        obtain ⟨ρ0, hG0⟩ := hsc2.2.2.2.1
        refine aw_iload_n e_Pb_run_45 rfl ?_
        refine aw_iload_n e_Pb_run_46 rfl ?_
        refine awN_icmp_ge e_Pb_run_47 (by omega) (by omega) (fun h47 => ?_) (fun h47 => ?_)
        · obtain rfl : k = n := by omega
          refine aw_aload_n e_Pb_run_90 rfl ?_
          refine aw_getR e_Pb_run_91 fl_Pb_10 (hS.1 _ _ _ _ rfl) ?_
          refine aw_aload_n e_Pb_run_94 rfl ?_
          refine aw_getR e_Pb_run_95 fl_Pb_19 (hS.1 _ _ _ _ rfl) ?_
          refine aw_cV1 e_Pb_run_98 ml_Pb_185 mf_Ma_takeFrom mv_Ma_takeFrom (c_Ma_takeFrom hS (by decide) (by decide) (by decide) hC2 hr.1 (fun I4 R4 hC4 hI4 hR4 => ?_))
          replace hS : Sta R4 := (CS_machR (hsc2.cs hCS) hC4 (runR_ws hCS.2.2.1 (by omega) hst) hI4 hR4).1
          refine aw_aload_n e_Pb_run_101 rfl ?_
          refine aw_getR e_Pb_run_102 fl_Pb_10 (hS.1 _ _ _ _ rfl) ?_
          refine aw_getE e_Pb_run_105 fl_Pb_182 hC4.1.2.2.2 ?_
          have hq := hQ I4 L2 R4
          unfold op_run at hq
          rw [if_pos hg, ix_n (j := k) (by omega), if_pos (by omega), if_pos hst] at hq
          exact aw_iret e_Pb_run_108 rfl rfl (hq (CS_machR (hsc2.cs hCS) hC4 (runR_ws hCS.2.2.1 (by omega) hst) hI4 hR4) (KM_tr hsc2.km (KM_ownR hI4 hR4)))
        · refine aw_aload_n e_Pb_run_50 rfl ?_
          refine aw_getR e_Pb_run_51 fl_Pb_25 (hS.1 _ _ _ _ rfl) ?_
          refine aw_aload_n e_Pb_run_54 rfl ?_
          refine aw_getR e_Pb_run_55 fl_Pb_19 (hS.1 _ _ _ _ rfl) ?_
          refine aw_cV1 e_Pb_run_58 ml_Pb_153 mf_An_solve mv_An_solve (c_An_solve hS hG0 (by decide) hC2 hr.1 (fun I3 L3 R3 ρ3 hG3 hj3 hi3 ha3 hg3 hr3 => ?_))
          have hsc3 := SC_ans hsc2 (by decide) hG3 hj3 hg3 hr3
          replace hS : Sta R3 := (hsc3.cs hCS).1
          have hC3 := CM_an hC2 hr.1 hj3 hr3
          refine aw_ist3 e_Pb_run_61 ?_
          refine aw_iload_n e_Pb_run_62 rfl ?_
          refine aw_iconst (v := nI 1) e_Pb_run_63 (by decide) ?_
          refine aw_icmp_eq e_Pb_run_64 (fun h64 => ?_) (fun h64 => ?_)
          · have h1c := (ansV_iff _).1 h64
            refine aw_aload_n e_Pb_run_69 rfl ?_
            refine aw_getR e_Pb_run_70 fl_Pb_19 (hS.1 _ _ _ _ rfl) ?_
            refine aw_aload_n e_Pb_run_73 rfl ?_
            refine aw_getR e_Pb_run_74 fl_Pb_25 (hS.1 _ _ _ _ rfl) ?_
            refine aw_aload_n e_Pb_run_77 rfl ?_
            refine aw_getR e_Pb_run_78 fl_Pb_46 (hS.1 _ _ _ _ rfl) ?_
            refine aw_cV2 e_Pb_run_81 ml_Pb_188 mf_Ma_doStep mv_Ma_doStep (c_Ma_doStep hS (by decide) hC3 hr.1 (by omega) (ha3 h1c) (fun I4 hC4 hf4 => ?_))
            refine aw_inc2 e_Pb_run_84 (inc1 _) ?_
            refine aw_goto e_Pb_run_87 ?_
            refine aw_drop 3 ?_
            exact ih h47 (by rw [runR_y hst h1c]) _ _ _ (SC_I hsc3 hf4) (by rw [runR_y hst h1c]; exact hC4)
          · refine aw_iload_n e_Pb_run_67 rfl ?_
            have hn1 : ¬ ansC (runR (sM S) k).1 = 1 := fun z => h64 ((ansV_iff _).2 z)
            have hrf := runR_f hst hn1 h47
            have hq := hQ I3 L3 R3
            unfold op_run at hq
            rw [if_pos hg, ix_n (j := n) (by omega), if_pos (by omega), if_neg (by rw [hrf]; exact h64), hrf] at hq
            exact aw_iret e_Pb_run_68 rfl rfl (hq (hsc3.cs hCS) hsc3.km)
      · refine aw_ldc (v := -1000000003) e_Pb_run_29 kc_Pb_79 ?_
        have hq := hQ I L R
        unfold op_run at hq
        first
          | (rw [if_pos hg, ix_n (j := n) (by omega), if_neg (by omega)] at hq; exact aw_iret e_Pb_run_31 rfl rfl (hq hCS KM_0))
    · refine aw_ldc (v := -1000000001) e_Pb_run_11 kc_Pb_74 ?_
      have hq := hQ I L R
      unfold op_run at hq
      first
        | (rw [if_neg (fun w => by have w1 := w.1; have w2 := w.2; omega)] at hq; exact aw_iret e_Pb_run_13 rfl rfl (hq hCS KM_0))
theorem c_Pb_moves {l : Launch} {E : En} {d : Nat} {I : It} {L : Lt} {R : Rt} {Z : Zt} {Q : Qt} {S : AS} (hCS : CS I R Z S) {x y z : Int32} (hQ : ∀ I2 L2 R2, CS I2 R2 Z (op_moves S x y z).1 → KM I L R I2 L2 R2 → Q (some (vi (op_moves S x y z).2)) I2 L2 R2 Z) : AMet l E (d + 6) M_Pb_moves [vr 8 0, vi x, vi y, vi z] I L R Z Q := by
  have hS := hCS.1
  have hC := hCS.2.1
  have hW := hCS.2.2.1.1
  have hWn := hW.1
  have hT1 : (nI 1).toInt = 1 := by decide
  refine AMet.of mf_Pb_moves rfl (Nat.le_of_ble_eq_true rfl) ?_
  refine aw_aload_n e_Pb_moves_0 rfl ?_
  refine aw_getR e_Pb_moves_1 fl_Pb_10 (hS.1 _ _ _ _ rfl) ?_
  refine aw_iload_n e_Pb_moves_4 rfl ?_
  refine aw_cV1 e_Pb_moves_5 ml_Pb_90 mf_Ma_hasPart mv_Ma_hasPart (c_Ma_hasPart hS (by decide) hC hW ?_)
  refine awB_eq e_Pb_moves_8 (fun h8 => ?_) (fun h8 => ?_)
  · refine aw_ldc (v := -1000000001) e_Pb_moves_27 kc_Pb_74 ?_
    have hq := hQ _ _ _ hCS KM_0
    unfold op_moves at hq
    first
      | (rw [if_neg (fun w => h8 w.1.1)] at hq; exact aw_iret e_Pb_moves_29 rfl rfl hq)
      | (rw [if_neg (fun w => h24 (by have w2 := w.1.2; rw [ix_n (by omega)] at w2; exact w2))] at hq; exact aw_iret e_Pb_moves_29 rfl rfl hq)
  · obtain ⟨g, hgn, rfl⟩ := inR_nI h8
    have hv := hW.2.1 g hgn
    refine aw_aload_n e_Pb_moves_11 rfl ?_
    refine aw_getR e_Pb_moves_12 fl_Pb_10 (hS.1 _ _ _ _ rfl) ?_
    refine aw_getR e_Pb_moves_15 fl_Pb_80 (hS.1 _ _ _ _ rfl) ?_
    refine aw_iload_n e_Pb_moves_18 rfl ?_
    refine aw_aald e_Pb_moves_19 rfl (show _ < 12 by omega) (by omega) (hS.2.1 _ _ (by omega) (by omega)) ?_
    refine aw_getE e_Pb_moves_20 fl_Pb_93 (hC.2.1 g 0 hgn (by decide)) ?_
    refine aw_iconst (v := nI 3) e_Pb_moves_23 (by decide) ?_
    refine awN_icmp_eq e_Pb_moves_24 (by omega) (by omega) (fun h24 => ?_) (fun h24 => ?_)
    · refine aw_aload_n e_Pb_moves_30 rfl ?_
      refine aw_getR e_Pb_moves_31 fl_Pb_10 (hS.1 _ _ _ _ rfl) ?_
      refine aw_iload_n e_Pb_moves_34 rfl ?_
      refine aw_cV1 e_Pb_moves_35 ml_Pb_136 mf_Ma_hasBond mv_Ma_hasBond (c_Ma_hasBond hS (by decide) hC hW ?_)
      refine awB_eq e_Pb_moves_38 (fun h38 => ?_) (fun h38 => ?_)
      · refine aw_ldc (v := -1000000001) e_Pb_moves_50 kc_Pb_74 ?_
        have hq := hQ _ _ _ hCS KM_0
        unfold op_moves at hq
        first
          | (rw [if_neg (fun w => h38 w.2.1)] at hq; exact aw_iret e_Pb_moves_52 rfl rfl hq)
          | (rw [if_neg (fun w => by have w1 := w.2.2.1; have w2 := w.2.2.2; omega)] at hq; exact aw_iret e_Pb_moves_52 rfl rfl hq)
      · refine aw_iload_n e_Pb_moves_41 rfl ?_
        refine awZ_if_lt e_Pb_moves_42 (fun h42 => ?_) (fun h42 => ?_)
        · refine aw_ldc (v := -1000000001) e_Pb_moves_50 kc_Pb_74 ?_
          have hq := hQ _ _ _ hCS KM_0
          unfold op_moves at hq
          first
            | (rw [if_neg (fun w => h38 w.2.1)] at hq; exact aw_iret e_Pb_moves_52 rfl rfl hq)
            | (rw [if_neg (fun w => by have w1 := w.2.2.1; have w2 := w.2.2.2; omega)] at hq; exact aw_iret e_Pb_moves_52 rfl rfl hq)
        · refine aw_iload_n e_Pb_moves_45 rfl ?_
          refine aw_iconst (v := nI 1) e_Pb_moves_46 (by decide) ?_
          refine awZ_icmp_le e_Pb_moves_47 (fun h47 => ?_) (fun h47 => ?_)
          · have hg : (inR (nI g) (nP (sM S)) ∧ pP (sM S) (ix (nI g)) 0 = 3) ∧ inR y (nB (sM S)) ∧ inR z 2 := ⟨⟨h8, by rw [ix_n (by omega)]; exact h24⟩, h38, by omega, by omega⟩
            obtain ⟨b, hb, rfl⟩ := inR_nI hg.2.1
            obtain ⟨w, hw, rfl⟩ := inR_nI hg.2.2
            refine aw_aload_n e_Pb_moves_53 rfl ?_
            refine aw_getR e_Pb_moves_54 fl_Pb_19 (hS.1 _ _ _ _ rfl) ?_
            refine aw_aload_n e_Pb_moves_57 rfl ?_
            refine aw_getR e_Pb_moves_58 fl_Pb_10 (hS.1 _ _ _ _ rfl) ?_
            refine aw_cV1 e_Pb_moves_61 ml_Pb_185 mf_Ma_takeFrom mv_Ma_takeFrom (c_Ma_takeFrom hS (by decide) (by decide) (by decide) hC hW (fun I1 R1 hC1 hI1 hR1 => ?_))
            have hsc1 : SC I L R I1 L R1 := SC_R (SC_0 hCS) hI1 hR1
            replace hS : Sta R1 := (hsc1.cs hCS).1
            obtain ⟨ρ0, hG0⟩ := hsc1.2.2.2.1
            refine aw_iconst (v := nI 0) e_Pb_moves_64 (by decide) ?_
            refine aw_ist4 e_Pb_moves_65 ?_
            refine up_loop (P := fun i => ∀ I2, CM I2 R1 Z 2 (mkH (sM S) (mvh (sM S) g i)) → SC I L R I2 L R1 → AWq l E (d + 6) M_Pb_moves Z 67 [some (vr 8 0), some (vi (nI g)), some (vi (nI b)), some (vi (nI w)), some (vi (nI i))] [] I2 L R1 Z Q) (N := nP (sM S)) (fun i hi ih I2 hC2 hsc2 => ?_) 0 (Nat.zero_le _) I1 (by rw [mkH_id _ _ (fun q => by unfold mvh; rw [if_neg (Nat.not_lt_zero q)])]; exact hC1) hsc1
            refine aw_iload e_Pb_moves_67 rfl ?_
            refine aw_aload_n e_Pb_moves_69 rfl ?_
            refine aw_getR e_Pb_moves_70 fl_Pb_19 (hS.1 _ _ _ _ rfl) ?_
            refine aw_getE e_Pb_moves_73 fl_Pb_75 (show _ = nI (nP (sM S)) from hC2.1.1) ?_
            refine awN_icmp_ge e_Pb_moves_76 (by omega) (by omega) (fun h76 => ?_) (fun h76 => ?_)
            · obtain rfl : i = nP (sM S) := by omega
              have hC3 : CM I2 R1 Z 2 (movM (sM S) g) := ⟨hC2.1, fun p f hp hf => (hC2.2.1 p f hp hf).trans (congrArg nI (by
                show (if f = 4 then mvh (sM S) g (nP (sM S)) p else pP (sM S) p f) = if f = 4 then (if p = g then 1 else 0) else pP (sM S) p f
                unfold mvh
                rw [if_pos (show p < nP (sM S) from hp)])), hC2.2.2⟩
              refine aw_aload_n e_Pb_moves_109 rfl ?_
              refine aw_getR e_Pb_moves_110 fl_Pb_25 (hS.1 _ _ _ _ rfl) ?_
              refine aw_aload_n e_Pb_moves_113 rfl ?_
              refine aw_getR e_Pb_moves_114 fl_Pb_19 (hS.1 _ _ _ _ rfl) ?_
              refine aw_cV1 e_Pb_moves_117 ml_Pb_153 mf_An_solve mv_An_solve (c_An_solve hS hG0 (by decide) hC3 (WF_movM hW g) (fun I3 L3 R3 ρ3 hG3 hj3 hi3 ha3 hg3 hr3 => ?_))
              have hsc3 := SC_ans hsc2 (by decide) hG3 hj3 hg3 hr3
              replace hS : Sta R3 := (hsc3.cs hCS).1
              refine aw_ist4 e_Pb_moves_120 ?_
              refine aw_iload e_Pb_moves_122 rfl ?_
              refine aw_iconst (v := nI 1) e_Pb_moves_124 (by decide) ?_
              refine aw_icmp_eq e_Pb_moves_125 (fun h125 => ?_) (fun h125 => ?_)
              · have h1 := (ansV_iff _).1 h125
                refine aw_iload_n e_Pb_moves_131 rfl ?_
                refine awN_if_ne e_Pb_moves_132 (by omega) (fun h132 => ?_) (fun h132 => ?_)
                · obtain rfl : w = 1 := by omega
                  refine aw_aload_n e_Pb_moves_147 rfl ?_
                  refine aw_getR e_Pb_moves_148 fl_Pb_25 (hS.1 _ _ _ _ rfl) ?_
                  refine aw_getR e_Pb_moves_151 fl_Pb_234 (hS.1 _ _ _ _ rfl) ?_
                  refine aw_iload_n e_Pb_moves_154 rfl ?_
                  refine aw_ialE e_Pb_moves_155 rfl (show _ < 12 by omega) (by omega) (ha3 h1 b hb).2.1 ?_
                  have hq := hQ _ _ _ (hsc3.cs hCS) hsc3.km
                  unfold op_moves at hq
                  rw [if_pos hg, ix_n (j := g) (by omega), ix_n (j := b) (by omega), ix_n (by decide), if_pos h1] at hq
                  exact aw_iret e_Pb_moves_156 rfl rfl hq
                · obtain rfl : w = 0 := by omega
                  refine aw_aload_n e_Pb_moves_135 rfl ?_
                  refine aw_getR e_Pb_moves_136 fl_Pb_25 (hS.1 _ _ _ _ rfl) ?_
                  refine aw_getR e_Pb_moves_139 fl_Pb_231 (hS.1 _ _ _ _ rfl) ?_
                  refine aw_iload_n e_Pb_moves_142 rfl ?_
                  refine aw_ialE e_Pb_moves_143 rfl (show _ < 12 by omega) (by omega) (ha3 h1 b hb).1 ?_
                  refine aw_goto e_Pb_moves_144 ?_
                  have hq := hQ _ _ _ (hsc3.cs hCS) hsc3.km
                  unfold op_moves at hq
                  rw [if_pos hg, ix_n (j := g) (by omega), ix_n (j := b) (by omega), ix_n (by decide), if_pos h1] at hq
                  exact aw_iret e_Pb_moves_156 rfl rfl hq
              · refine aw_iload e_Pb_moves_128 rfl ?_
                have hq := hQ _ _ _ (hsc3.cs hCS) hsc3.km
                unfold op_moves at hq
                rw [if_pos hg, ix_n (j := g) (by omega), ix_n (j := b) (by omega), if_neg (fun z => h125 ((ansV_iff _).2 z))] at hq
                exact aw_iret e_Pb_moves_130 rfl rfl hq
            · refine aw_aload_n e_Pb_moves_79 rfl ?_
              refine aw_getR e_Pb_moves_80 fl_Pb_19 (hS.1 _ _ _ _ rfl) ?_
              refine aw_getR e_Pb_moves_83 fl_Pb_80 (hS.1 _ _ _ _ rfl) ?_
              refine aw_iload e_Pb_moves_86 rfl ?_
              refine aw_aald e_Pb_moves_88 rfl (show _ < 12 by omega) (by omega) (hS.2.1 _ _ (by omega) (by omega)) ?_
              refine aw_iload e_Pb_moves_89 rfl ?_
              refine aw_iload_n e_Pb_moves_91 rfl ?_
              refine awN_icmp_ne e_Pb_moves_92 (by omega) (by omega) (fun h92 => ?_) (fun h92 => ?_)
              · refine aw_iconst (v := nI 0) e_Pb_moves_99 (by decide) ?_
                refine aw_putI e_Pb_moves_100 fl_Pb_103 ?_
                refine aw_inc4 e_Pb_moves_103 (inc1 _) ?_
                refine aw_goto e_Pb_moves_106 ?_
                have hms := CM_setH (v := if i = g then 1 else 0) hC2 (WF_mvh hW g i) h76
                rw [mv_s] at hms
                first
                  | (rw [if_neg h92] at hms; exact ih h76 _ hms (SC_I hsc2 (fun t j hti _ => sI_n (by unfold own at hti; omega))))
                  | (rw [if_pos h92] at hms; exact ih h76 _ hms (SC_I hsc2 (fun t j hti _ => sI_n (by unfold own at hti; omega))))
              · refine aw_iconst (v := nI 1) e_Pb_moves_95 (by decide) ?_
                refine aw_goto e_Pb_moves_96 ?_
                refine aw_putI e_Pb_moves_100 fl_Pb_103 ?_
                refine aw_inc4 e_Pb_moves_103 (inc1 _) ?_
                refine aw_goto e_Pb_moves_106 ?_
                have hms := CM_setH (v := if i = g then 1 else 0) hC2 (WF_mvh hW g i) h76
                rw [mv_s] at hms
                first
                  | (rw [if_neg h92] at hms; exact ih h76 _ hms (SC_I hsc2 (fun t j hti _ => sI_n (by unfold own at hti; omega))))
                  | (rw [if_pos h92] at hms; exact ih h76 _ hms (SC_I hsc2 (fun t j hti _ => sI_n (by unfold own at hti; omega))))
          · refine aw_ldc (v := -1000000001) e_Pb_moves_50 kc_Pb_74 ?_
            have hq := hQ _ _ _ hCS KM_0
            unfold op_moves at hq
            first
              | (rw [if_neg (fun w => h38 w.2.1)] at hq; exact aw_iret e_Pb_moves_52 rfl rfl hq)
              | (rw [if_neg (fun w => by have w1 := w.2.2.1; have w2 := w.2.2.2; omega)] at hq; exact aw_iret e_Pb_moves_52 rfl rfl hq)
    · refine aw_ldc (v := -1000000001) e_Pb_moves_27 kc_Pb_74 ?_
      have hq := hQ _ _ _ hCS KM_0
      unfold op_moves at hq
      first
        | (rw [if_neg (fun w => h8 w.1.1)] at hq; exact aw_iret e_Pb_moves_29 rfl rfl hq)
        | (rw [if_neg (fun w => h24 (by have w2 := w.1.2; rw [ix_n (by omega)] at w2; exact w2))] at hq; exact aw_iret e_Pb_moves_29 rfl rfl hq)
theorem c_Pb_signsOf {l : Launch} {E : En} {d : Nat} {I : It} {L : Lt} {R : Rt} {Z : Zt} {Q : Qt} {S : AS} (hCS : CS I R Z S) {p : Nat} (hp : p < nP (sM S)) (hQ : ∀ I2 L2 R2, SC I L R I2 L2 R2 → Q (some (vi (sgnV (sM S) p))) I2 L2 R2 Z) : AMet l E (d + 6) M_Pb_signsOf [vr 8 0, vi (nI p)] I L R Z Q := by
  have hS := hCS.1
  have hC := hCS.2.1
  have hW := hCS.2.2.1.1
  have hWn := hW.1
  obtain ⟨ρ0, hG0⟩ := (CS_G hCS).1
  have hv := hW.2.1 p hp
  refine AMet.of mf_Pb_signsOf rfl (Nat.le_of_ble_eq_true rfl) ?_
  refine aw_aload_n e_Pb_signsOf_0 rfl ?_
  refine aw_getR e_Pb_signsOf_1 fl_Pb_25 (hS.1 _ _ _ _ rfl) ?_
  refine aw_aload_n e_Pb_signsOf_4 rfl ?_
  refine aw_getR e_Pb_signsOf_5 fl_Pb_10 (hS.1 _ _ _ _ rfl) ?_
  refine aw_cV1 e_Pb_signsOf_8 ml_Pb_153 mf_An_solve mv_An_solve (c_An_solve hS hG0 (by decide) hC hW (fun I1 L1 R1 ρ1 hG1 hj1 hi1 ha1 hg1 hr1 => ?_))
  have hsc1 := SC_ans (SC_0 hCS) (by decide) hG1 hj1 hg1 hr1
  replace hS : Sta R1 := (hsc1.cs hCS).1
  refine aw_ist2 e_Pb_signsOf_11 ?_
  refine aw_iload_n e_Pb_signsOf_12 rfl ?_
  refine aw_iconst (v := nI 1) e_Pb_signsOf_13 (by decide) ?_
  refine aw_icmp_eq e_Pb_signsOf_14 (fun h14 => ?_) (fun h14 => ?_)
  · have h1V := (ansV_iff _).1 h14
    refine aw_aload_n e_Pb_signsOf_19 rfl ?_
    refine aw_getR e_Pb_signsOf_20 fl_Pb_19 (hS.1 _ _ _ _ rfl) ?_
    refine aw_aload_n e_Pb_signsOf_23 rfl ?_
    refine aw_getR e_Pb_signsOf_24 fl_Pb_10 (hS.1 _ _ _ _ rfl) ?_
    refine aw_cV1 e_Pb_signsOf_27 ml_Pb_185 mf_Ma_takeFrom mv_Ma_takeFrom (c_Ma_takeFrom hS (by decide) (by decide) (by decide) (hsc1.cs hCS).2.1 hW (fun I2 R2 hC2 hI2 hR2 => ?_))
    have hsc2 := SC_R hsc1 hI2 hR2
    replace hS : Sta R2 := (hsc2.cs hCS).1
    obtain ⟨ρ2, hG2⟩ := hsc2.2.2.2.2
    refine aw_aload_n e_Pb_signsOf_30 rfl ?_
    refine aw_getR e_Pb_signsOf_31 fl_Pb_19 (hS.1 _ _ _ _ rfl) ?_
    refine aw_getR e_Pb_signsOf_34 fl_Pb_80 (hS.1 _ _ _ _ rfl) ?_
    refine aw_iload_n e_Pb_signsOf_37 rfl ?_
    refine aw_aald e_Pb_signsOf_38 rfl (show _ < 12 by omega) (by omega) (hS.2.1 _ _ (by omega) (by omega)) ?_
    refine aw_dup e_Pb_signsOf_39 rfl ?_
    refine aw_getE e_Pb_signsOf_40 fl_Pb_326 (hC2.2.1 p 2 hp (by decide)) ?_
    refine aw_iconst (v := nI 1) e_Pb_signsOf_43 (by decide) ?_
    refine awN_iadd e_Pb_signsOf_44 ?_
    refine aw_putI e_Pb_signsOf_45 fl_Pb_326 ?_
    have hC3 := CM_ovr hC2 hW hp
    have hsc3 := SC_I hsc2 (I2 := sI I2 3 (12 * 2 + p) 2 (nI (pP (sM S) p 2 + 1))) (fun t j hti _ => sI_n (by unfold own at hti; omega))
    refine aw_aload_n e_Pb_signsOf_48 rfl ?_
    refine aw_getR e_Pb_signsOf_49 fl_Pb_29 (hS.1 _ _ _ _ rfl) ?_
    refine aw_aload_n e_Pb_signsOf_52 rfl ?_
    refine aw_getR e_Pb_signsOf_53 fl_Pb_19 (hS.1 _ _ _ _ rfl) ?_
    refine aw_cV1 e_Pb_signsOf_56 ml_Pb_153 mf_An_solve mv_An_solve (c_An_solve hS hG2 (by decide) hC3 (WF_ovr hCS.2.2.1 hp) (fun I4 L4 R4 ρ4 hG4 hj4 hi4 ha4 hg4 hr4 => ?_))
    have hsc4 := SC_ans hsc3 (by decide) hG4 hj4 hg4 hr4
    replace hS : Sta R4 := (hsc4.cs hCS).1
    refine aw_ist2 e_Pb_signsOf_59 ?_
    refine aw_iload_n e_Pb_signsOf_60 rfl ?_
    refine aw_iconst (v := nI 1) e_Pb_signsOf_61 (by decide) ?_
    refine aw_icmp_eq e_Pb_signsOf_62 (fun h62 => ?_) (fun h62 => ?_)
    · have h1W := (ansV_iff _).1 h62
      have hB := ha4 h1W
      replace hB : ansI I4 1 (nB (sM S)) _ _ := hB
      have hA : ansI I4 0 (nB (sM S)) _ _ := fun b hb => by
        have q := ha1 h1V b hb
        rw [hj4 14 0 (by omega), hj4 15 0 (by omega), sI_n (by omega), sI_n (by omega), hI2 14 0 (by unfold own; omega), hI2 15 0 (by unfold own; omega)]
        exact q
      refine aw_iconst (v := nI 0) e_Pb_signsOf_67 (by decide) ?_
      refine aw_ist3 e_Pb_signsOf_68 ?_
      refine aw_iconst (v := nI 0) e_Pb_signsOf_69 (by decide) ?_
      refine aw_ist4 e_Pb_signsOf_70 ?_
      refine up_loop (P := fun i => AWq l E (d + 6) M_Pb_signsOf Z 72 [some (vr 8 0), some (vi (nI p)), some (vi (ansV (ovr (sM S) p))), some (vi (nI (dfB (sM S) (ovr (sM S) p) i))), some (vi (nI i))] [] I4 L4 R4 Z Q) (N := nB (sM S)) (fun i hi ih => ?_) 0 (Nat.zero_le _)
      refine aw_iload e_Pb_signsOf_72 rfl ?_
      refine aw_aload_n e_Pb_signsOf_74 rfl ?_
      refine aw_getR e_Pb_signsOf_75 fl_Pb_10 (hS.1 _ _ _ _ rfl) ?_
      refine aw_getE e_Pb_signsOf_78 fl_Pb_127 (hsc4.cs hCS).2.1.1.2.1 ?_
      refine awN_icmp_ge e_Pb_signsOf_81 (by omega) (by omega) (fun h81 => ?_) (fun h81 => ?_)
      · refine aw_iload_n e_Pb_signsOf_143 rfl ?_
        obtain rfl : i = nB (sM S) := by omega
        have hq := hQ _ _ _ hsc4
        unfold sgnV at hq
        rw [if_pos h1V, if_pos h1W] at hq
        exact aw_iret e_Pb_signsOf_144 rfl rfl hq
      · have bA : ansX (sM S) (2 * i) < 1000003 ∧ ansX (sM S) (2 * i + 1) < 1000003 := (hA i h81).2.2
        have bB : ansX (ovr (sM S) p) (2 * i) < 1000003 ∧ ansX (ovr (sM S) p) (2 * i + 1) < 1000003 := (hB i h81).2.2
        refine aw_aload_n e_Pb_signsOf_84 rfl ?_
        refine aw_getR e_Pb_signsOf_85 fl_Pb_25 (hS.1 _ _ _ _ rfl) ?_
        refine aw_getR e_Pb_signsOf_88 fl_Pb_231 (hS.1 _ _ _ _ rfl) ?_
        refine aw_iload e_Pb_signsOf_91 rfl ?_
        refine aw_ialE e_Pb_signsOf_93 rfl (show _ < 12 by omega) (by omega) (hA i h81).1 ?_
        refine aw_aload_n e_Pb_signsOf_94 rfl ?_
        refine aw_getR e_Pb_signsOf_95 fl_Pb_29 (hS.1 _ _ _ _ rfl) ?_
        refine aw_getR e_Pb_signsOf_98 fl_Pb_231 (hS.1 _ _ _ _ rfl) ?_
        refine aw_iload e_Pb_signsOf_101 rfl ?_
        refine aw_ialE e_Pb_signsOf_103 rfl (show _ < 12 by omega) (by omega) (hB i h81).1 ?_
        refine awN_icmp_ne e_Pb_signsOf_104 (by omega) (by omega) (fun h104 => ?_) (fun h104 => ?_)
        · refine aw_iload_n e_Pb_signsOf_130 rfl ?_
          refine aw_iconst (v := nI 1) e_Pb_signsOf_131 (by decide) ?_
          refine aw_iload e_Pb_signsOf_132 rfl ?_
          refine aw_ishl e_Pb_signsOf_134 ?_
          rw [shlS (by omega) (by have := pow12 (f := i) (by omega); omega), Nat.one_mul]
          refine aw_ior e_Pb_signsOf_135 ?_
          rw [fa_or]
          refine aw_ist3 e_Pb_signsOf_136 ?_
          refine aw_inc4 e_Pb_signsOf_137 (inc1 _) ?_
          refine aw_goto e_Pb_signsOf_140 ?_
          have hk := ih h81
          first
            | (rw [dfB_n (fun z => h104 z.1)] at hk; exact hk)
            | (rw [dfB_n (fun z => h127 z.2)] at hk; exact hk)
            | (rw [dfB_y ⟨h104, h127⟩] at hk; exact hk)
        · refine aw_aload_n e_Pb_signsOf_107 rfl ?_
          refine aw_getR e_Pb_signsOf_108 fl_Pb_25 (hS.1 _ _ _ _ rfl) ?_
          refine aw_getR e_Pb_signsOf_111 fl_Pb_234 (hS.1 _ _ _ _ rfl) ?_
          refine aw_iload e_Pb_signsOf_114 rfl ?_
          refine aw_ialE e_Pb_signsOf_116 rfl (show _ < 12 by omega) (by omega) (hA i h81).2.1 ?_
          refine aw_aload_n e_Pb_signsOf_117 rfl ?_
          refine aw_getR e_Pb_signsOf_118 fl_Pb_29 (hS.1 _ _ _ _ rfl) ?_
          refine aw_getR e_Pb_signsOf_121 fl_Pb_234 (hS.1 _ _ _ _ rfl) ?_
          refine aw_iload e_Pb_signsOf_124 rfl ?_
          refine aw_ialE e_Pb_signsOf_126 rfl (show _ < 12 by omega) (by omega) (hB i h81).2.1 ?_
          refine awN_icmp_eq e_Pb_signsOf_127 (by omega) (by omega) (fun h127 => ?_) (fun h127 => ?_)
          · refine aw_inc4 e_Pb_signsOf_137 (inc1 _) ?_
            refine aw_goto e_Pb_signsOf_140 ?_
            have hk := ih h81
            first
              | (rw [dfB_n (fun z => h104 z.1)] at hk; exact hk)
              | (rw [dfB_n (fun z => h127 z.2)] at hk; exact hk)
              | (rw [dfB_y ⟨h104, h127⟩] at hk; exact hk)
          · refine aw_iload_n e_Pb_signsOf_130 rfl ?_
            refine aw_iconst (v := nI 1) e_Pb_signsOf_131 (by decide) ?_
            refine aw_iload e_Pb_signsOf_132 rfl ?_
            refine aw_ishl e_Pb_signsOf_134 ?_
            rw [shlS (by omega) (by have := pow12 (f := i) (by omega); omega), Nat.one_mul]
            refine aw_ior e_Pb_signsOf_135 ?_
            rw [fa_or]
            refine aw_ist3 e_Pb_signsOf_136 ?_
            refine aw_inc4 e_Pb_signsOf_137 (inc1 _) ?_
            refine aw_goto e_Pb_signsOf_140 ?_
            have hk := ih h81
            first
              | (rw [dfB_n (fun z => h104 z.1)] at hk; exact hk)
              | (rw [dfB_n (fun z => h127 z.2)] at hk; exact hk)
              | (rw [dfB_y ⟨h104, h127⟩] at hk; exact hk)
    · refine aw_iload_n e_Pb_signsOf_65 rfl ?_
      have hq := hQ _ _ _ hsc4
      unfold sgnV at hq
      rw [if_pos h1V, if_neg (fun z => h62 ((ansV_iff _).2 z))] at hq
      exact aw_iret e_Pb_signsOf_66 rfl rfl hq
  · refine aw_iload_n e_Pb_signsOf_17 rfl ?_
    have hq := hQ _ _ _ hsc1
    unfold sgnV at hq
    rw [if_neg (fun z => h14 ((ansV_iff _).2 z))] at hq
    exact aw_iret e_Pb_signsOf_18 rfl rfl hq
theorem c_Pb_signs {l : Launch} {E : En} {d : Nat} {I : It} {L : Lt} {R : Rt} {Z : Zt} {Q : Qt} {S : AS} (hCS : CS I R Z S) {x : Int32} (hQ : ∀ I2 L2 R2, CS I2 R2 Z (op_signs S x).1 → KM I L R I2 L2 R2 → Q (some (vi (op_signs S x).2)) I2 L2 R2 Z) : AMet l E (d + 7) M_Pb_signs [vr 8 0, vi x] I L R Z Q := by
  have hS := hCS.1
  have hC := hCS.2.1
  have hW := hCS.2.2.1.1
  have hWn := hW.1
  refine AMet.of mf_Pb_signs rfl (Nat.le_of_ble_eq_true rfl) ?_
  refine aw_aload_n e_Pb_signs_0 rfl ?_
  refine aw_getR e_Pb_signs_1 fl_Pb_10 (hS.1 _ _ _ _ rfl) ?_
  refine aw_iload_n e_Pb_signs_4 rfl ?_
  refine aw_cV1 e_Pb_signs_5 ml_Pb_90 mf_Ma_hasPart mv_Ma_hasPart (c_Ma_hasPart hS (by decide) hC hW ?_)
  refine awB_eq e_Pb_signs_8 (fun h8 => ?_) (fun h8 => ?_)
  · refine aw_ldc (v := -1000000001) e_Pb_signs_19 kc_Pb_74 ?_
    first
      | (have hq := hQ _ _ _ (hsc2.cs hCS) hsc2.km
         unfold op_signs at hq
         rw [if_pos h8, ix_n (j := p) (by omega)] at hq
         exact aw_iret e_Pb_signs_21 rfl rfl hq)
      | (have hq := hQ _ _ _ hCS KM_0
         unfold op_signs at hq
         rw [if_neg h8] at hq
         exact aw_iret e_Pb_signs_21 rfl rfl hq)
  · obtain ⟨p, hp, rfl⟩ := inR_nI h8
    refine aw_aload_n e_Pb_signs_11 rfl ?_
    refine aw_iload_n e_Pb_signs_12 rfl ?_
    refine aw_cV1 e_Pb_signs_13 ml_Pb_241 mf_Pb_signsOf mv_Pb_signsOf (c_Pb_signsOf hCS hp (fun I2 L2 R2 hsc2 => ?_))
    refine aw_goto e_Pb_signs_16 ?_
    first
      | (have hq := hQ _ _ _ (hsc2.cs hCS) hsc2.km
         unfold op_signs at hq
         rw [if_pos h8, ix_n (j := p) (by omega)] at hq
         exact aw_iret e_Pb_signs_21 rfl rfl hq)
      | (have hq := hQ _ _ _ hCS KM_0
         unfold op_signs at hq
         rw [if_neg h8] at hq
         exact aw_iret e_Pb_signs_21 rfl rfl hq)
theorem c_Pb_apart {l : Launch} {E : En} {d : Nat} {I : It} {L : Lt} {R : Rt} {Z : Zt} {Q : Qt} {S : AS} (hCS : CS I R Z S) {x y : Int32} (hQ : ∀ I2 L2 R2, CS I2 R2 Z (op_apart S x y).1 → KM I L R I2 L2 R2 → Q (some (vi (op_apart S x y).2)) I2 L2 R2 Z) : AMet l E (d + 7) M_Pb_apart [vr 8 0, vi x, vi y] I L R Z Q := by
  have hS := hCS.1
  have hC := hCS.2.1
  have hW := hCS.2.2.1.1
  have hWn := hW.1
  refine AMet.of mf_Pb_apart rfl (Nat.le_of_ble_eq_true rfl) ?_
  refine aw_aload_n e_Pb_apart_0 rfl ?_
  refine aw_getR e_Pb_apart_1 fl_Pb_10 (hS.1 _ _ _ _ rfl) ?_
  refine aw_iload_n e_Pb_apart_4 rfl ?_
  refine aw_cV1 e_Pb_apart_5 ml_Pb_90 mf_Ma_hasPart mv_Ma_hasPart (c_Ma_hasPart hS (by decide) hC hW ?_)
  refine awB_eq e_Pb_apart_8 (fun h8 => ?_) (fun h8 => ?_)
  · refine aw_ldc (v := -1000000001) e_Pb_apart_27 kc_Pb_74 ?_
    have hq := hQ _ _ _ hCS KM_0
    unfold op_apart at hq
    first
      | (rw [if_neg (fun w => h8 w.1)] at hq; exact aw_iret e_Pb_apart_29 rfl rfl hq)
      | (rw [if_neg (fun w => h19 w.2.1)] at hq; exact aw_iret e_Pb_apart_29 rfl rfl hq)
      | (rw [if_neg (fun w => w.2.2 h24)] at hq; exact aw_iret e_Pb_apart_29 rfl rfl hq)
  · refine aw_aload_n e_Pb_apart_11 rfl ?_
    refine aw_getR e_Pb_apart_12 fl_Pb_10 (hS.1 _ _ _ _ rfl) ?_
    refine aw_iload_n e_Pb_apart_15 rfl ?_
    refine aw_cV1 e_Pb_apart_16 ml_Pb_90 mf_Ma_hasPart mv_Ma_hasPart (c_Ma_hasPart hS (by decide) hC hW ?_)
    refine awB_eq e_Pb_apart_19 (fun h19 => ?_) (fun h19 => ?_)
    · refine aw_ldc (v := -1000000001) e_Pb_apart_27 kc_Pb_74 ?_
      have hq := hQ _ _ _ hCS KM_0
      unfold op_apart at hq
      first
        | (rw [if_neg (fun w => h8 w.1)] at hq; exact aw_iret e_Pb_apart_29 rfl rfl hq)
        | (rw [if_neg (fun w => h19 w.2.1)] at hq; exact aw_iret e_Pb_apart_29 rfl rfl hq)
        | (rw [if_neg (fun w => w.2.2 h24)] at hq; exact aw_iret e_Pb_apart_29 rfl rfl hq)
    · refine aw_iload_n e_Pb_apart_22 rfl ?_
      refine aw_iload_n e_Pb_apart_23 rfl ?_
      refine aw_icmp_ne e_Pb_apart_24 (fun h24 => ?_) (fun h24 => ?_)
      · have hg : inR x (nP (sM S)) ∧ inR y (nP (sM S)) ∧ ¬ x = y := ⟨h8, h19, h24⟩
        obtain ⟨a, ha, rfl⟩ := inR_nI h8
        obtain ⟨b, hb, rfl⟩ := inR_nI h19
        refine aw_aload_n e_Pb_apart_30 rfl ?_
        refine aw_iload_n e_Pb_apart_31 rfl ?_
        refine aw_cV1 e_Pb_apart_32 ml_Pb_241 mf_Pb_signsOf mv_Pb_signsOf (c_Pb_signsOf hCS ha (fun I2 L2 R2 hsc2 => ?_))
        replace hS : Sta R2 := (hsc2.cs hCS).1
        refine aw_ist3 e_Pb_apart_35 ?_
        refine aw_iload_n e_Pb_apart_36 rfl ?_
        refine awZ_if_ge e_Pb_apart_37 (fun h37 => ?_) (fun h37 => ?_)
        · refine aw_aload_n e_Pb_apart_42 rfl ?_
          refine aw_iload_n e_Pb_apart_43 rfl ?_
          refine aw_cV1 e_Pb_apart_44 ml_Pb_241 mf_Pb_signsOf mv_Pb_signsOf (c_Pb_signsOf (hsc2.cs hCS) hb (fun I3 L3 R3 hsc3 => ?_))
          replace hS : Sta R3 := (hsc3.cs (hsc2.cs hCS)).1
          refine aw_ist4 e_Pb_apart_47 ?_
          refine aw_iload e_Pb_apart_49 rfl ?_
          refine awZ_if_ge e_Pb_apart_51 (fun h51 => ?_) (fun h51 => ?_)
          · refine aw_iload_n e_Pb_apart_57 rfl ?_
            refine aw_iload e_Pb_apart_58 rfl ?_
            refine aw_icmp_eq e_Pb_apart_60 (fun h60 => ?_) (fun h60 => ?_)
            · refine aw_iconst (v := nI 0) e_Pb_apart_67 (by decide) ?_
              first
                | (have hz : bI (¬ sgnV (sM S) a = sgnV (sM S) b) = nI 0 := bI_f (fun z => z h60)
                   have hq := hQ _ _ _ (hsc3.cs (hsc2.cs hCS)) (KM_tr hsc2.km hsc3.km)
                   unfold op_apart at hq
                   rw [if_pos hg, ix_n (j := a) (by omega), ix_n (j := b) (by omega), if_neg (by omega), if_neg (by omega), hz] at hq
                   exact aw_iret e_Pb_apart_68 rfl rfl hq)
                | (have hz : bI (¬ sgnV (sM S) a = sgnV (sM S) b) = nI 1 := bI_t h60
                   have hq := hQ _ _ _ (hsc3.cs (hsc2.cs hCS)) (KM_tr hsc2.km hsc3.km)
                   unfold op_apart at hq
                   rw [if_pos hg, ix_n (j := a) (by omega), ix_n (j := b) (by omega), if_neg (by omega), if_neg (by omega), hz] at hq
                   exact aw_iret e_Pb_apart_68 rfl rfl hq)
            · refine aw_iconst (v := nI 1) e_Pb_apart_63 (by decide) ?_
              refine aw_goto e_Pb_apart_64 ?_
              first
                | (have hz : bI (¬ sgnV (sM S) a = sgnV (sM S) b) = nI 0 := bI_f (fun z => z h60)
                   have hq := hQ _ _ _ (hsc3.cs (hsc2.cs hCS)) (KM_tr hsc2.km hsc3.km)
                   unfold op_apart at hq
                   rw [if_pos hg, ix_n (j := a) (by omega), ix_n (j := b) (by omega), if_neg (by omega), if_neg (by omega), hz] at hq
                   exact aw_iret e_Pb_apart_68 rfl rfl hq)
                | (have hz : bI (¬ sgnV (sM S) a = sgnV (sM S) b) = nI 1 := bI_t h60
                   have hq := hQ _ _ _ (hsc3.cs (hsc2.cs hCS)) (KM_tr hsc2.km hsc3.km)
                   unfold op_apart at hq
                   rw [if_pos hg, ix_n (j := a) (by omega), ix_n (j := b) (by omega), if_neg (by omega), if_neg (by omega), hz] at hq
                   exact aw_iret e_Pb_apart_68 rfl rfl hq)
          · refine aw_iload e_Pb_apart_54 rfl ?_
            have hq := hQ _ _ _ (hsc3.cs (hsc2.cs hCS)) (KM_tr hsc2.km hsc3.km)
            unfold op_apart at hq
            rw [if_pos hg, ix_n (j := a) (by omega), ix_n (j := b) (by omega), if_neg (by omega), if_pos (by omega)] at hq
            exact aw_iret e_Pb_apart_56 rfl rfl hq
        · refine aw_iload_n e_Pb_apart_40 rfl ?_
          have hq := hQ _ _ _ (hsc2.cs hCS) hsc2.km
          unfold op_apart at hq
          rw [if_pos hg, ix_n (j := a) (by omega), ix_n (j := b) (by omega), if_pos (by omega)] at hq
          exact aw_iret e_Pb_apart_41 rfl rfl hq
      · refine aw_ldc (v := -1000000001) e_Pb_apart_27 kc_Pb_74 ?_
        have hq := hQ _ _ _ hCS KM_0
        unfold op_apart at hq
        first
          | (rw [if_neg (fun w => h8 w.1)] at hq; exact aw_iret e_Pb_apart_29 rfl rfl hq)
          | (rw [if_neg (fun w => h19 w.2.1)] at hq; exact aw_iret e_Pb_apart_29 rfl rfl hq)
          | (rw [if_neg (fun w => w.2.2 h24)] at hq; exact aw_iret e_Pb_apart_29 rfl rfl hq)
theorem c_Pb_check {l : Launch} {E : En} {d : Nat} {I : It} {L : Lt} {R : Rt} {Z : Zt} {Q : Qt} {S : AS} (hCS : CS I R Z S) {x : Int32} (hQ : ∀ I2 L2 R2, CS I2 R2 Z (op_check S x).1 → KM I L R I2 L2 R2 → Q (some (vi (op_check S x).2)) I2 L2 R2 Z) : AMet l E (d + 6) M_Pb_check [vr 8 0, vi x] I L R Z Q := by
  have hS := hCS.1
  have hC := hCS.2.1
  have hW := hCS.2.2.1.1
  have hWn := hW.1
  have hT1 : (nI 1).toInt = 1 := by decide
  have hT30 : (nI 30).toInt = 30 := by decide
  have hCS0 := CS_w0 hCS
  have hkm0 : KM I L R (sI I 8 0 11 (nI 0)) L R := fun t i ht => ⟨sI_n (by omega), rfl, rfl⟩
  have hw9 := hCS.2.2.2.2.2.2.2.2.1
  have hc60 := hw9.2.1
  have hk01 := hCS.2.2.2.2.1.2
  refine AMet.of mf_Pb_check rfl (Nat.le_of_ble_eq_true rfl) ?_
  refine aw_aload_n e_Pb_check_0 rfl ?_
  refine aw_getE e_Pb_check_1 fl_Pb_313 hw9.1 ?_
  refine aw_ist2 e_Pb_check_4 ?_
  refine aw_aload_n e_Pb_check_5 rfl ?_
  refine aw_iconst (v := nI 0) e_Pb_check_6 (by decide) ?_
  refine aw_putI e_Pb_check_7 fl_Pb_313 ?_
  refine aw_iload_n e_Pb_check_10 rfl ?_
  refine aw_iconst (v := nI 1) e_Pb_check_11 (by decide) ?_
  refine awZ_icmp_lt e_Pb_check_12 (fun h12 => ?_) (fun h12 => ?_)
  · refine aw_ldc (v := -1000000001) e_Pb_check_21 kc_Pb_74 ?_
    have hq := hQ _ _ _ hCS0 hkm0
    unfold op_check at hq
    first
      | (rw [if_neg (fun w => by have w1 := w.1; have w2 := w.2; omega)] at hq; exact aw_iret e_Pb_check_23 rfl rfl hq)
  · refine aw_iload_n e_Pb_check_15 rfl ?_
    refine aw_bipush (v := nI 30) e_Pb_check_16 (by decide) ?_
    refine awZ_icmp_le e_Pb_check_18 (fun h18 => ?_) (fun h18 => ?_)
    · have hg : 1 ≤ x.toInt ∧ x.toInt ≤ 30 := ⟨by omega, by omega⟩
      obtain ⟨n, hn, rfl⟩ := inR_nI (x := x) (n := 31) ⟨by omega, by omega⟩
      have hT := nT (n := n) (by omega)
      have hn1 : 1 ≤ n := by omega
      refine aw_aload_n e_Pb_check_24 rfl ?_
      refine aw_getE e_Pb_check_25 fl_Pb_316 ((sI_ne (by decide)).trans hCS.2.2.2.2.1.1) ?_
      refine awN_if_ne e_Pb_check_28 (by omega) (fun h28 => ?_) (fun h28 => ?_)
      · have hk1 : sK S = 1 := by omega
        have hWg := (hCS.2.2.2.1 hk1).2.1
        have hSg := (hCS.2.2.2.1 hk1).2.2.1
        have hCg := (hCS0.2.2.2.1 hk1).1
        generalize hI0 : sI I 8 0 11 (nI 0) = I0 at *
        obtain ⟨c, hc⟩ : ∃ c, c = (sW S).1 := ⟨_, rfl⟩
        rw [← hc]
        have hwt : ∀ j, j < c → I0 23 0 j = (sW S).2 j := fun j hj => by rw [← hI0, sI_n (by decide)]; exact hw9.2.2 j (by omega)
        refine aw_aload_n e_Pb_check_34 rfl ?_
        refine aw_getR e_Pb_check_35 fl_Pb_19 (hS.1 _ _ _ _ rfl) ?_
        refine aw_aload_n e_Pb_check_38 rfl ?_
        refine aw_getR e_Pb_check_39 fl_Pb_16 (hS.1 _ _ _ _ rfl) ?_
        refine aw_cV1 e_Pb_check_42 ml_Pb_185 mf_Ma_takeFrom mv_Ma_takeFrom (c_Ma_takeFrom hS (by decide) (by decide) (by decide) hCg hWg (fun I1 R1 hC1 hI1 hR1 => ?_))
        have hsc1 : SC I0 L R I1 L R1 := SC_R (SC_0 hCS0) hI1 hR1
        replace hS : Sta R1 := (hsc1.cs hCS0).1
        obtain ⟨ρ1, hG1⟩ := hsc1.2.2.2.1
        refine aw_aload_n e_Pb_check_45 rfl ?_
        refine aw_getR e_Pb_check_46 fl_Pb_25 (hS.1 _ _ _ _ rfl) ?_
        refine aw_aload_n e_Pb_check_49 rfl ?_
        refine aw_getR e_Pb_check_50 fl_Pb_19 (hS.1 _ _ _ _ rfl) ?_
        refine aw_cV1 e_Pb_check_53 ml_Pb_153 mf_An_solve mv_An_solve (c_An_solve hS hG1 (by decide) hC1 hWg (fun I2 L2 R2 ρ2 hG2 hj2 hi2 ha2 hg2 hr2 => ?_))
        have hsc2 := SC_ans hsc1 (by decide) hG2 hj2 hg2 hr2
        replace hS : Sta R2 := (hsc2.cs hCS0).1
        refine aw_iconst (v := nI 1) e_Pb_check_56 (by decide) ?_
        refine aw_icmp_eq e_Pb_check_57 (fun h57 => ?_) (fun h57 => ?_)
        · have h1c := (ansV_iff _).1 h57
          replace hC1 := CM_an hC1 hWg hj2 hr2
          replace ha2 := ha2 h1c
          refine aw_iconst (v := nI 0) e_Pb_check_63 (by decide) ?_
          refine aw_ist3 e_Pb_check_64 ?_
          refine aw_iconst (v := nI 0) e_Pb_check_65 (by decide) ?_
          refine aw_ist4 e_Pb_check_66 ?_
          refine up_loop (P := fun i => ∀ r, r = rgt (sG S) (sW S).2 (min c (2 * i)) → ∀ I2 L2 R2, SC I0 L R I2 L2 R2 → CM I2 R2 Z 2 (itV (sG S) i) → (∀ k, k ≤ i → ansC (itV (sG S) k) = 1) → ansI I2 0 (nB (itV (sG S) i)) (fun b => ansX (itV (sG S) i) (2 * b)) (fun b => ansX (itV (sG S) i) (2 * b + 1)) → AWq l E (d + 6) M_Pb_check Z 68 [some (vr 8 0), some (vi (nI n)), some (vi (nI c)), some (vi (nI r)), some (vi (nI i))] [] I2 L2 R2 Z Q) (N := n) (fun i hi ih r hr I2 L2 R2 hsc2 hC2 hok hA2 => ?_) 0 (Nat.zero_le _) 0 (show 0 = fst' _ (min c 0) 0 by rw [fst_ge (by omega)]; omega) I2 L2 R2 hsc2 hC1 (fun k hk => (Nat.le_zero.1 hk) ▸ h1c) ha2
          have hit := it_w hWg i (by omega)
          clear hS
          have hS : Sta R2 := (hsc2.cs hCS0).1
          clear hG2 ρ2
          obtain ⟨ρ2, hG2⟩ := hsc2.2.2.2.1
          have hrl := rgt_le (sG S) (sW S).2 (min c (2 * i))
          refine aw_iload e_Pb_check_68 rfl ?_
          refine aw_iload_n e_Pb_check_70 rfl ?_
          refine awN_icmp_ge e_Pb_check_71 (by omega) (by omega) (fun h71 => ?_) (fun h71 => ?_)
          · obtain rfl : i = n := by omega
            refine aw_iload_n e_Pb_check_181 rfl ?_
            refine aw_iconst (v := nI 2) e_Pb_check_182 (by decide) ?_
            refine aw_iload_n e_Pb_check_183 rfl ?_
            first | refine awN_imul e_Pb_check_184 ?_ | refine aw_imul e_Pb_check_184 ?_
            refine awN_icmp_ne e_Pb_check_185 (by omega) (by omega) (fun h185 => ?_) (fun h185 => ?_)
            · refine aw_iconst (v := nI 1) e_Pb_check_197 (by decide) ?_
              refine aw_iload_n e_Pb_check_198 rfl ?_
              first | refine awN_iadd e_Pb_check_199 ?_ | refine aw_iadd e_Pb_check_199 ?_
              have hq := hQ _ _ _ (hsc2.cs hCS0) (KM_tr hkm0 hsc2.km)
              unfold op_check at hq
              rw [if_pos hg, if_pos hk1, ix_n (j := i) (by omega), chk_y hok, ← hc, ← hr] at hq
              first
                | (exfalso; omega)
                | (rw [if_pos ⟨by omega, by omega⟩] at hq; exact aw_iret e_Pb_check_200 rfl rfl hq)
                | (rw [if_neg (fun z => by omega)] at hq; exact aw_iret e_Pb_check_200 rfl rfl hq)
            · refine aw_iload_n e_Pb_check_188 rfl ?_
              refine aw_iload_n e_Pb_check_189 rfl ?_
              refine awN_icmp_ne e_Pb_check_190 (by omega) (by omega) (fun h190 => ?_) (fun h190 => ?_)
              · refine aw_iconst (v := nI 1) e_Pb_check_197 (by decide) ?_
                refine aw_iload_n e_Pb_check_198 rfl ?_
                first | refine awN_iadd e_Pb_check_199 ?_ | refine aw_iadd e_Pb_check_199 ?_
                have hq := hQ _ _ _ (hsc2.cs hCS0) (KM_tr hkm0 hsc2.km)
                unfold op_check at hq
                rw [if_pos hg, if_pos hk1, ix_n (j := i) (by omega), chk_y hok, ← hc, ← hr] at hq
                first
                  | (exfalso; omega)
                  | (rw [if_pos ⟨by omega, by omega⟩] at hq; exact aw_iret e_Pb_check_200 rfl rfl hq)
                  | (rw [if_neg (fun z => by omega)] at hq; exact aw_iret e_Pb_check_200 rfl rfl hq)
              · refine aw_iconst (v := nI 0) e_Pb_check_193 (by decide) ?_
                refine aw_goto e_Pb_check_194 ?_
                have hq := hQ _ _ _ (hsc2.cs hCS0) (KM_tr hkm0 hsc2.km)
                unfold op_check at hq
                rw [if_pos hg, if_pos hk1, ix_n (j := i) (by omega), chk_y hok, ← hc, ← hr] at hq
                first
                  | (exfalso; omega)
                  | (rw [if_pos ⟨by omega, by omega⟩] at hq; exact aw_iret e_Pb_check_200 rfl rfl hq)
                  | (rw [if_neg (fun z => by omega)] at hq; exact aw_iret e_Pb_check_200 rfl rfl hq)
          · have hit4 := it_w hWg (i + 1) (by omega)
            refine aw_aload_n e_Pb_check_74 rfl ?_
            refine aw_getR e_Pb_check_75 fl_Pb_19 (hS.1 _ _ _ _ rfl) ?_
            refine aw_aload_n e_Pb_check_78 rfl ?_
            refine aw_getR e_Pb_check_79 fl_Pb_25 (hS.1 _ _ _ _ rfl) ?_
            refine aw_aload_n e_Pb_check_82 rfl ?_
            refine aw_getR e_Pb_check_83 fl_Pb_46 (hS.1 _ _ _ _ rfl) ?_
            refine aw_cV2 e_Pb_check_86 ml_Pb_188 mf_Ma_doStep mv_Ma_doStep (c_Ma_doStep hS (by decide) hC2 hit.1 (by omega) hA2 (fun I3 hC3 hf3 => ?_))
            have hsc3 := SC_I hsc2 hf3
            replace hC3 : CM I3 R2 Z 2 (itV (sG S) (i + 1)) := hC3
            refine aw_aload_n e_Pb_check_89 rfl ?_
            refine aw_getR e_Pb_check_90 fl_Pb_25 (hS.1 _ _ _ _ rfl) ?_
            refine aw_aload_n e_Pb_check_93 rfl ?_
            refine aw_getR e_Pb_check_94 fl_Pb_19 (hS.1 _ _ _ _ rfl) ?_
            refine aw_cV1 e_Pb_check_97 ml_Pb_153 mf_An_solve mv_An_solve (c_An_solve hS hG2 (by decide) hC3 hit4.1 (fun I4 L4 R4 ρ4 hG4 hj4 hi4 ha4 hg4 hr4 => ?_))
            have hsc4 := SC_ans hsc3 (by decide) hG4 hj4 hg4 hr4
            replace hS : Sta R4 := (hsc4.cs hCS0).1
            have hC4 := CM_an hC3 hit4.1 hj4 hr4
            refine aw_iconst (v := nI 1) e_Pb_check_100 (by decide) ?_
            refine aw_icmp_eq e_Pb_check_101 (fun h101 => ?_) (fun h101 => ?_)
            · have h1d := (ansV_iff _).1 h101
              have hA4 := ha4 h1d
              have hok4 : ∀ k, k ≤ i + 1 → ansC (itV (sG S) k) = 1 := fun k hk => by
                by_cases e : k = i + 1
                · rw [e]; exact h1d
                · exact hok k (by omega)
              have hwt4 : ∀ j, j < c → I4 23 0 j = (sW S).2 j := fun j hj => by rw [hsc4.1 23 0 (by unfold own; omega)]; exact hwt j hj
              have k175 : ∀ r, r = rgt (sG S) (sW S).2 (min c (2 * (i + 1))) → AWq l E (d + 6) M_Pb_check Z 175 [some (vr 8 0), some (vi (nI n)), some (vi (nI c)), some (vi (nI r)), some (vi (nI i))] [] I4 L4 R4 Z Q := fun r hr => by
                have hrl := rgt_le (sG S) (sW S).2 (min c (2 * (i + 1)))
                refine aw_inc4 e_Pb_check_175 (inc1 _) ?_
                refine aw_goto e_Pb_check_178 ?_
                exact ih h71 r hr _ _ _ hsc4 hC4 hok4 hA4
              have k139 : ∀ r, r = rgt (sG S) (sW S).2 (min c (2 * i + 1)) → AWq l E (d + 6) M_Pb_check Z 139 [some (vr 8 0), some (vi (nI n)), some (vi (nI c)), some (vi (nI r)), some (vi (nI i))] [] I4 L4 R4 Z Q := fun r hr => by
                have hrl := rgt_le (sG S) (sW S).2 (min c (2 * i + 1))
                refine aw_iload_n e_Pb_check_139 rfl ?_
                refine aw_iconst (v := nI 2) e_Pb_check_140 (by decide) ?_
                refine aw_iload e_Pb_check_141 rfl ?_
                first | refine awN_imul e_Pb_check_143 ?_ | refine aw_imul e_Pb_check_143 ?_
                refine aw_iconst (v := nI 1) e_Pb_check_144 (by decide) ?_
                first | refine awN_iadd e_Pb_check_145 ?_ | refine aw_iadd e_Pb_check_145 ?_
                refine awN_icmp_ne e_Pb_check_146 (by omega) (by omega) (fun h146 => ?_) (fun h146 => ?_)
                · first
                    | exact k175 r (rgt_n hr (fun z => h146 z.1))
                    | exact k175 r (rgt_n hr (fun z => by have z2 := z.2.1; omega))
                    | exact k175 r (rgt_n hr (fun z => h169 (by rw [z.1, z.2.2]; exact row_o _ _)))
                    | exact k175 (r + 1) (rgt_y (j := 2 * i + 1) hr h146 (by omega) (by have e := h169; rw [h146] at e; exact e.trans (row_o _ _).symm))
                · refine aw_iload_n e_Pb_check_149 rfl ?_
                  refine aw_iload_n e_Pb_check_150 rfl ?_
                  refine awN_icmp_ge e_Pb_check_151 (by omega) (by omega) (fun h151 => ?_) (fun h151 => ?_)
                  · first
                      | exact k175 r (rgt_n hr (fun z => h146 z.1))
                      | exact k175 r (rgt_n hr (fun z => by have z2 := z.2.1; omega))
                      | exact k175 r (rgt_n hr (fun z => h169 (by rw [z.1, z.2.2]; exact row_o _ _)))
                      | exact k175 (r + 1) (rgt_y (j := 2 * i + 1) hr h146 (by omega) (by have e := h169; rw [h146] at e; exact e.trans (row_o _ _).symm))
                  · refine aw_aload_n e_Pb_check_154 rfl ?_
                    refine aw_getR e_Pb_check_155 fl_Pb_50 (hS.1 _ _ _ _ rfl) ?_
                    refine aw_iload_n e_Pb_check_158 rfl ?_
                    refine aw_ialE e_Pb_check_159 rfl (show _ < 60 by omega) (by omega) (hwt4 r (by omega)) ?_
                    refine aw_aload_n e_Pb_check_160 rfl ?_
                    refine aw_getR e_Pb_check_161 fl_Pb_25 (hS.1 _ _ _ _ rfl) ?_
                    refine aw_getR e_Pb_check_164 fl_Pb_231 (hS.1 _ _ _ _ rfl) ?_
                    refine aw_iconst (v := nI 0) e_Pb_check_167 (by decide) ?_
                    refine aw_ialE e_Pb_check_168 rfl (show 0 < 12 by decide) (by decide) (hA4 0 (by have := whole_B h1d; rw [hit4.2.2.2] at this; exact hit4.2.2.2.symm ▸ this)).1 ?_
                    refine aw_icmp_ne e_Pb_check_169 (fun h169 => ?_) (fun h169 => ?_)
                    · first
                        | exact k175 r (rgt_n hr (fun z => h146 z.1))
                        | exact k175 r (rgt_n hr (fun z => by have z2 := z.2.1; omega))
                        | exact k175 r (rgt_n hr (fun z => h169 (by rw [z.1, z.2.2]; exact row_o _ _)))
                        | exact k175 (r + 1) (rgt_y (j := 2 * i + 1) hr h146 (by omega) (by have e := h169; rw [h146] at e; exact e.trans (row_o _ _).symm))
                    · refine aw_inc3 e_Pb_check_172 (inc1 _) ?_
                      first
                        | exact k175 r (rgt_n hr (fun z => h146 z.1))
                        | exact k175 r (rgt_n hr (fun z => by have z2 := z.2.1; omega))
                        | exact k175 r (rgt_n hr (fun z => h169 (by rw [z.1, z.2.2]; exact row_o _ _)))
                        | exact k175 (r + 1) (rgt_y (j := 2 * i + 1) hr h146 (by omega) (by have e := h169; rw [h146] at e; exact e.trans (row_o _ _).symm))
              refine aw_iload_n e_Pb_check_107 rfl ?_
              refine aw_iconst (v := nI 2) e_Pb_check_108 (by decide) ?_
              refine aw_iload e_Pb_check_109 rfl ?_
              first | refine awN_imul e_Pb_check_111 ?_ | refine aw_imul e_Pb_check_111 ?_
              refine awN_icmp_ne e_Pb_check_112 (by omega) (by omega) (fun h112 => ?_) (fun h112 => ?_)
              · first
                  | exact k139 r (rgt_n hr (fun z => h112 z.1))
                  | exact k139 r (rgt_n hr (fun z => by have z2 := z.2.1; omega))
                  | exact k139 r (rgt_n hr (fun z => h133 (by rw [z.1, z.2.2, row_e, hit4.2.2.1])))
                  | exact k139 (r + 1) (rgt_y hr h112 (by omega) (by have e := h133; rw [h112, hit4.2.2.1] at e; exact e.trans (row_e _ _).symm))
              · refine aw_iload_n e_Pb_check_115 rfl ?_
                refine aw_iload_n e_Pb_check_116 rfl ?_
                refine awN_icmp_ge e_Pb_check_117 (by omega) (by omega) (fun h117 => ?_) (fun h117 => ?_)
                · first
                    | exact k139 r (rgt_n hr (fun z => h112 z.1))
                    | exact k139 r (rgt_n hr (fun z => by have z2 := z.2.1; omega))
                    | exact k139 r (rgt_n hr (fun z => h133 (by rw [z.1, z.2.2, row_e, hit4.2.2.1])))
                    | exact k139 (r + 1) (rgt_y hr h112 (by omega) (by have e := h133; rw [h112, hit4.2.2.1] at e; exact e.trans (row_e _ _).symm))
                · refine aw_aload_n e_Pb_check_120 rfl ?_
                  refine aw_getR e_Pb_check_121 fl_Pb_50 (hS.1 _ _ _ _ rfl) ?_
                  refine aw_iload_n e_Pb_check_124 rfl ?_
                  refine aw_ialE e_Pb_check_125 rfl (show _ < 60 by omega) (by omega) (hwt4 r (by omega)) ?_
                  refine aw_aload_n e_Pb_check_126 rfl ?_
                  refine aw_getR e_Pb_check_127 fl_Pb_19 (hS.1 _ _ _ _ rfl) ?_
                  refine aw_cV0 e_Pb_check_130 ml_Pb_320 mf_Ma_storesTogether mv_Ma_storesTogether (c_Ma_storesTogether hS (by decide) hC4 hit4.1 ?_)
                  refine aw_icmp_ne e_Pb_check_133 (fun h133 => ?_) (fun h133 => ?_)
                  · first
                      | exact k139 r (rgt_n hr (fun z => h112 z.1))
                      | exact k139 r (rgt_n hr (fun z => by have z2 := z.2.1; omega))
                      | exact k139 r (rgt_n hr (fun z => h133 (by rw [z.1, z.2.2, row_e, hit4.2.2.1])))
                      | exact k139 (r + 1) (rgt_y hr h112 (by omega) (by have e := h133; rw [h112, hit4.2.2.1] at e; exact e.trans (row_e _ _).symm))
                  · refine aw_inc3 e_Pb_check_136 (inc1 _) ?_
                    first
                      | exact k139 r (rgt_n hr (fun z => h112 z.1))
                      | exact k139 r (rgt_n hr (fun z => by have z2 := z.2.1; omega))
                      | exact k139 r (rgt_n hr (fun z => h133 (by rw [z.1, z.2.2, row_e, hit4.2.2.1])))
                      | exact k139 (r + 1) (rgt_y hr h112 (by omega) (by have e := h133; rw [h112, hit4.2.2.1] at e; exact e.trans (row_e _ _).symm))
            · refine aw_ldc (v := -1000000002) e_Pb_check_104 kc_Pb_157 ?_
              have hq := hQ _ _ _ (hsc4.cs hCS0) (KM_tr hkm0 hsc4.km)
              unfold op_check at hq
              rw [if_pos hg, if_pos hk1, ix_n (j := n) (by omega), chk_n (fun z => h101 ((ansV_iff _).2 (z (i + 1) (by omega))))] at hq
              exact aw_iret e_Pb_check_106 rfl rfl hq
        · refine aw_ldc (v := -1000000002) e_Pb_check_60 kc_Pb_157 ?_
          have hq := hQ _ _ _ (hsc2.cs hCS0) (KM_tr hkm0 hsc2.km)
          unfold op_check at hq
          rw [if_pos hg, if_pos hk1, ix_n (j := n) (by omega), chk_n (fun z => h57 ((ansV_iff _).2 (z 0 (by omega))))] at hq
          exact aw_iret e_Pb_check_62 rfl rfl hq
      · refine aw_ldc (v := -1000000002) e_Pb_check_31 kc_Pb_157 ?_
        have hq := hQ _ _ _ hCS0 hkm0
        unfold op_check at hq
        first
          | (rw [if_pos hg, if_neg (by omega)] at hq; exact aw_iret e_Pb_check_33 rfl rfl hq)
    · refine aw_ldc (v := -1000000001) e_Pb_check_21 kc_Pb_74 ?_
      have hq := hQ _ _ _ hCS0 hkm0
      unfold op_check at hq
      first
        | (rw [if_neg (fun w => by have w1 := w.1; have w2 := w.2; omega)] at hq; exact aw_iret e_Pb_check_23 rfl rfl hq)
