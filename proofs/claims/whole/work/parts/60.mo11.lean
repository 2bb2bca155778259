/-! ===== the model's calls, 2 ===== -/
theorem fM_c {I I2 : It} {b : Nat} (hb : b ≠ 1) (h : ∀ t i, ¬ (t = 28 ∧ i = b) → I2 t i = I t i) : fM I I2 := ⟨fun t i a _ _ _ _ _ g => h t i (by omega), by rw [h 9 0 (by omega)], by rw [h 9 0 (by omega)], by rw [h 9 0 (by omega)]⟩
def mvh (V : Mc) (g i q : Nat) : Nat := if q < i then (if q = g then 1 else 0) else pP V q 4
theorem mv_s {V : Mc} {g i : Nat} : setH (mkH V (mvh V g i)) i (if i = g then 1 else 0) = mkH V (mvh V g (i + 1)) := by
  unfold setH mkH
  congr 5
  funext q f
  show (if q = i ∧ f = 4 then (if i = g then 1 else 0) else if f = 4 then mvh V g i q else pP V q f) = if f = 4 then mvh V g (i + 1) q else pP V q f
  unfold mvh
  by_cases e4 : f = 4
  · by_cases e : q = i
    · rw [if_pos ⟨e, e4⟩, if_pos e4, if_pos (show q < i + 1 by omega), e]
    · rw [if_neg (fun z => e z.1), if_pos e4, if_pos e4]
      by_cases e5 : q < i
      · rw [if_pos e5, if_pos (show q < i + 1 by omega)]
      · rw [if_neg e5, if_neg (show ¬ q < i + 1 by omega)]
  · rw [if_neg (fun z => e4 z.2), if_neg e4, if_neg e4]
theorem mkH_id (V : Mc) (h : Nat → Nat) (e : ∀ q, h q = pP V q 4) : mkH V h = V := by
  unfold mkH
  refine Prod.ext rfl (Prod.ext rfl (Prod.ext rfl (Prod.ext rfl (Prod.ext ?_ rfl))))
  funext q f
  show (if f = 4 then h q else pP V q f) = pP V q f
  by_cases e4 : f = 4
  · rw [if_pos e4, e q, e4]
  · rw [if_neg e4]
theorem WF_mvh {V : Mc} (hW : WF V) (g i : Nat) : WF (mkH V (mvh V g i)) := WF_mkH hW (fun p hp => by have := (hW.2.1 p hp).2.2.2.2; unfold mvh; split; split <;> decide; exact this)
theorem lj {V : Mc} {key tg n : Nat} (h : ¬ lastT V key tg n = none) : ∃ j, lastT V key tg n = some j := by
  cases q : lastT V key tg n with
  | some j => exact ⟨j, rfl⟩
  | none => exact absurd q h
theorem c_Mo_run {l : Launch} {E : En} {d : Nat} {I : It} {L : Lt} {R : Rt} {Z : Zt} {Q : Qt} {S : AS} (hS : Sta R) (hM : MSt I S) (hA : AWF S) {x : Int32} (hQ : ∀ I2 L2, MSt I2 (op_run S x).1 → fK I I2 → Q (some (vi (op_run S x).2)) I2 L2 R Z) : AMet l E (d + 6) M_Mo_run [vr 9 0, vi x] I L R Z Q := by
  have hC := hM.1
  have hW := hA.1.1
  have hnb := hW.1.2.1
  have hnp := hW.1.1
  have hnx := hW.1.2.2.1
  have hns := hW.1.2.2.2
  have hs9 := hA.1.2.1
  refine AMet.of mf_Mo_run rfl (Nat.le_of_ble_eq_true rfl) ?_
  refine aw_iload_n e_Mo_run_0 rfl ?_
  refine aw_i2l e_Mo_run_1 ?_
  refine aw_lconst (v := lN 1) e_Mo_run_2 rfl ?_
  refine aw_ldc2 (v := lN 60) e_Mo_run_3 kl_Mo_220 ?_
  refine aw_cS3 e_Mo_run_6 ml_Mo_75 mf_Mo_isIn ms_Mo_isIn (c_Mo_isInC (by decide) (by decide) ?_)
  refine awB_ne e_Mo_run_9 (fun h9 => ?_) (fun h9 => ?_)
  · have hg : 1 ≤ x.toInt ∧ x.toInt ≤ 60 := ⟨by omega, by omega⟩
    obtain ⟨n, hn, rfl⟩ := inR_nI (x := x) (n := 61) ⟨by omega, by omega⟩
    have hT := nT (n := n) (by omega)
    refine aw_aload_n e_Mo_run_15 rfl ?_
    refine aw_getR e_Mo_run_16 fl_Mo_7 (hS.1 _ _ _ _ rfl) ?_
    refine aw_iconst (v := nI 3) e_Mo_run_19 (by decide) ?_
    refine aw_ialE e_Mo_run_20 rfl (show _ < 3110 by omega) (by omega) (by first | exact hC.1.1 | exact hC.1.2.1 | exact hC.1.2.2.1 | exact hC.1.2.2.2 | exact hC.pk (by omega) | exact hC.2.1 _ _ (by omega) (by decide) | exact hC.2.2.1 _ (by omega) | exact hC.2.2.2.1 _ (by omega)) ?_
    refine aw_iload_n e_Mo_run_21 rfl ?_
    first | refine awN_iadd e_Mo_run_22 ?_ | refine aw_iadd e_Mo_run_22 ?_
    refine aw_sipush (v := nI 9999) e_Mo_run_23 (by decide) ?_
    refine awN_icmp_le e_Mo_run_26 (by omega) (by omega) (fun h26 => ?_) (fun h26 => ?_)
    · refine aw_aload_n e_Mo_run_32 rfl ?_
      refine aw_aload_n e_Mo_run_33 rfl ?_
      refine aw_getR e_Mo_run_34 fl_Mo_7 (hS.1 _ _ _ _ rfl) ?_
      refine aw_aload_n e_Mo_run_37 rfl ?_
      refine aw_getR e_Mo_run_38 fl_Mo_16 (hS.1 _ _ _ _ rfl) ?_
      refine aw_cV2 e_Mo_run_41 ml_Mo_222 mf_Mo_setAside mv_Mo_setAside (c_Mo_setAside (a := 0) (b := 2) (by decide) (fun I1 hc1 hf1 => ?_))
      refine aw_iconst (v := nI 0) e_Mo_run_44 (by decide) ?_
      refine aw_ist2 e_Mo_run_45 ?_
      refine up_loop (P := fun k => (runR (sM S) k).2 = nI 1 → ∀ I2 L2, MC I2 0 (runR (sM S) k).1 → fG I1 I2 → AWq l E (d + 6) M_Mo_run Z 46 [some (vr 9 0), some (vi (nI n)), some (vi (nI k)), none] [] I2 L2 R Z Q) (N := n) (fun k hk ih hst I2 L2 hC2 hf2 => ?_) 0 (Nat.zero_le _) rfl I1 L (hC.keep (hf1 28 0 (by decide))) fG_0
      have hr := runR_w hW k (by omega) hst
      refine aw_iload_n e_Mo_run_46 rfl ?_
      refine aw_iload_n e_Mo_run_47 rfl ?_
      refine awN_icmp_ge e_Mo_run_48 (by omega) (by omega) (fun h48 => ?_) (fun h48 => ?_)
      · refine aw_aload_n e_Mo_run_81 rfl ?_
        refine aw_getR e_Mo_run_82 fl_Mo_7 (hS.1 _ _ _ _ rfl) ?_
        refine aw_iconst (v := nI 3) e_Mo_run_85 (by decide) ?_
        refine aw_ialE e_Mo_run_86 rfl (show _ < 3110 by omega) (by omega) hC2.1.2.2.2 ?_
        obtain rfl : k = n := by omega
        have hq := hQ I2 L2
        unfold op_run at hq
        rw [if_pos hg, ix_n (j := k) (by omega), if_pos (by omega), if_pos hst] at hq
        have hfm : fM I I2 := fM_t (fM_c (by decide) hf1) hf2.M
        exact aw_iret e_Mo_run_87 rfl rfl (hq (hM.mach hfm hC2) hfm.K)
      · refine aw_aload_n e_Mo_run_51 rfl ?_
        refine aw_cV0 e_Mo_run_52 ml_Mo_226 mf_Mo_oneStep mv_Mo_oneStep (c_Mo_oneStep hS hC2 hr.1 (by omega) (fun I3 L3 hC3 hf3 => ?_))
        refine aw_ist3 e_Mo_run_55 ?_
        refine aw_iload_n e_Mo_run_56 rfl ?_
        refine aw_iconst (v := nI 1) e_Mo_run_57 (by decide) ?_
        refine aw_icmp_eq e_Mo_run_58 (fun h58 => ?_) (fun h58 => ?_)
        · refine aw_inc2 e_Mo_run_75 (inc1 _) ?_
          refine aw_goto e_Mo_run_78 ?_
          have h1c := (ansV_iff _).1 h58
          refine aw_drop 3 ?_
          rw [if_pos h1c] at hC3
          exact ih h48 (by rw [runR_y hst h1c]) _ _ (by rw [runR_y hst h1c]; exact hC3) (fG_t hf2 hf3)
        · refine aw_aload_n e_Mo_run_61 rfl ?_
          refine aw_aload_n e_Mo_run_62 rfl ?_
          refine aw_getR e_Mo_run_63 fl_Mo_16 (hS.1 _ _ _ _ rfl) ?_
          refine aw_aload_n e_Mo_run_66 rfl ?_
          refine aw_getR e_Mo_run_67 fl_Mo_7 (hS.1 _ _ _ _ rfl) ?_
          refine aw_cV2 e_Mo_run_70 ml_Mo_222 mf_Mo_setAside mv_Mo_setAside (c_Mo_setAside (a := 2) (b := 0) (by decide) (fun I4 hc4 hf4 => ?_))
          refine aw_iload_n e_Mo_run_73 rfl ?_
          have hrow : ∀ n, n < 3110 → I4 28 0 n = I 28 0 n := fun n hn => by rw [hc4 n hn, hf3.1 28 2 (by decide) (by decide) (by decide) (by decide), hf2.1 28 2 (by decide) (by decide) (by decide) (by decide), hc1 n hn]
          have hfm : fM I I4 := fM_t (fM_t (fM_c (by decide) hf1) (fM_t hf2.M hf3.M)) (fM_c (by decide) hf4)
          have hms : MSt I4 S := ⟨hC.cp hW hrow, hM.2.keep hfm⟩
          have hn1 : ¬ ansC (runR (sM S) k).1 = 1 := fun z => h58 ((ansV_iff _).2 z)
          have hrf := runR_f hst hn1 h48
          have hq := hQ I4 L3
          unfold op_run at hq
          rw [if_pos hg, ix_n (j := n) (by omega), if_pos (by omega), if_neg (by rw [hrf]; exact h58), hrf] at hq
          exact aw_iret e_Mo_run_74 rfl rfl (hq hms hfm.K)
    · refine aw_ldc (v := -1000000003) e_Mo_run_29 kc_Mo_108 ?_
      have hq := hQ I L
      unfold op_run at hq
      first
        | (rw [if_pos hg, ix_n (j := n) (by omega), if_neg (by omega)] at hq; exact aw_iret e_Mo_run_31 rfl rfl (hq hM fK_0))
  · refine aw_ldc (v := -1000000001) e_Mo_run_12 kc_Mo_89 ?_
    have hq := hQ I L
    unfold op_run at hq
    first
      | (rw [if_neg (fun w => h9 ⟨by have := w.1; omega, by have := w.2; omega⟩)] at hq; exact aw_iret e_Mo_run_14 rfl rfl (hq hM fK_0))
theorem c_Mo_read {l : Launch} {E : En} {d : Nat} {I : It} {L : Lt} {R : Rt} {Z : Zt} {Q : Qt} {S : AS} (hS : Sta R) (hM : MSt I S) (hA : AWF S) {x : Int32} (hQ : ∀ I2 L2, MSt I2 (op_read S x).1 → fK I I2 → Q (some (vi (op_read S x).2)) I2 L2 R Z) : AMet l E (d + 5) M_Mo_read [vr 9 0, vi x] I L R Z Q := by
  have hC := hM.1
  have hW := hA.1.1
  have hnb := hW.1.2.1
  have hnp := hW.1.1
  have hnx := hW.1.2.2.1
  have hns := hW.1.2.2.2
  refine AMet.of mf_Mo_read rfl (Nat.le_of_ble_eq_true rfl) ?_
  refine aw_aload_n e_Mo_read_0 rfl ?_
  refine aw_iload_n e_Mo_read_1 rfl ?_
  refine aw_cV1 e_Mo_read_2 ml_Mo_139 mf_Mo_isBond mv_Mo_isBond (c_Mo_isBond hS hC hW ?_)
  refine awB_ne e_Mo_read_5 (fun h5 => ?_) (fun h5 => ?_)
  · obtain ⟨b, hb, rfl⟩ := inR_nI h5
    refine aw_aload_n e_Mo_read_11 rfl ?_
    refine aw_bipush (v := nI 12) e_Mo_read_12 (by decide) ?_
    refine aw_iload_n e_Mo_read_14 rfl ?_
    first | refine awN_iadd e_Mo_read_15 ?_ | refine aw_iadd e_Mo_read_15 ?_
    refine aw_cV1 e_Mo_read_16 ml_Mo_211 mf_Mo_counts mv_Mo_counts (c_Mo_countsG (key := 1) (tg := b) hS hC hW (by omega) (by decide) (by omega) ?_)
    refine aw_ist2 e_Mo_read_19 ?_
    refine aw_iload_n e_Mo_read_20 rfl ?_
    refine awZ_if_ge e_Mo_read_21 (fun h21 => ?_) (fun h21 => ?_)
    · obtain ⟨j, hlt⟩ := lj (fun z => by have := (oI_neg (V := sM S) (key := 1) (tg := b) (n := nX (sM S)) (by omega)).2 z; omega)
      rw [hlt, show oI (some j) = nI j from rfl]
      have hjn := lastT_lt hlt
      refine aw_aload_n e_Mo_read_27 rfl ?_
      refine aw_cV0 e_Mo_read_28 ml_Mo_185 mf_Mo_solve mv_Mo_solve (c_Mo_solve hS hC hW (fun I2 L2 hfl ha _ => ?_))
      refine aw_ist3 e_Mo_read_31 ?_
      refine aw_iload_n e_Mo_read_32 rfl ?_
      refine aw_iconst (v := nI 1) e_Mo_read_33 (by decide) ?_
      refine aw_icmp_eq e_Mo_read_34 (fun h34 => ?_) (fun h34 => ?_)
      · have h1 := (ansV_iff _).1 h34
        have hax := ha h1
        have hC2 : MC I2 0 (sM S) := hfl.C hC
        have hN : ∀ q ∈ (tX (sM S) j).2.2.2, q.1 = 1 → (sI (sI (sI I2 40 0 116 (nI (nS (sM S)))) 40 0 112 (nI (ansX (sM S) (2 * b)))) 40 0 102 (nI (ansX (sM S) (2 * b + 1)))) 40 0 q.2 = nmC (nI (nS (sM S))) (nI (ansX (sM S) (2 * b))) (nI (ansX (sM S) (2 * b + 1))) q.2 := fun q hq h1 => by
          have hw := (hW.2.2.2 j hjn).2.2.2.2.2.2 q hq h1
          rw [if_neg (by rw [(lastT_sp hlt).1]; decide)] at hw
          rcases hw with e | e | e
          · rw [e, sI_ne (by decide), sI_ne (by decide), sI_eq]; rfl
          · rw [e, sI_ne (by decide), sI_eq]; rfl
          · rw [e, sI_eq]; rfl
        refine aw_aload_n e_Mo_read_39 rfl ?_
        refine aw_getR e_Mo_read_40 fl_Mo_53 (hS.1 _ _ _ _ rfl) ?_
        refine aw_bipush (v := nI 116) e_Mo_read_43 (by decide) ?_
        refine aw_aload_n e_Mo_read_45 rfl ?_
        refine aw_getR e_Mo_read_46 fl_Mo_7 (hS.1 _ _ _ _ rfl) ?_
        refine aw_iconst (v := nI 3) e_Mo_read_49 (by decide) ?_
        refine aw_ialE e_Mo_read_50 rfl (show _ < 3110 by omega) (by omega) (by first | exact hC2.1.1 | exact hC2.1.2.1 | exact hC2.1.2.2.1 | exact hC2.1.2.2.2 | exact hC2.pk (by omega) | exact hC2.2.1 _ _ (by omega) (by decide) | exact hC2.2.2.1 _ (by omega) | exact hC2.2.2.2.1 _ (by omega)) ?_
        refine aw_iast e_Mo_read_51 rfl (show _ < 128 by omega) (by omega) ?_
        refine aw_aload_n e_Mo_read_52 rfl ?_
        refine aw_getR e_Mo_read_53 fl_Mo_53 (hS.1 _ _ _ _ rfl) ?_
        refine aw_bipush (v := nI 112) e_Mo_read_56 (by decide) ?_
        refine aw_aload_n e_Mo_read_58 rfl ?_
        refine aw_getR e_Mo_read_59 fl_Mo_47 (hS.1 _ _ _ _ rfl) ?_
        refine aw_iconst (v := nI 2) e_Mo_read_62 (by decide) ?_
        refine aw_iload_n e_Mo_read_63 rfl ?_
        first | refine awN_imul e_Mo_read_64 ?_ | refine aw_imul e_Mo_read_64 ?_
        refine aw_lalE e_Mo_read_65 rfl (show _ < 24 by omega) (by omega) (hax _ (by omega)).1 ?_
        refine awN_l2i e_Mo_read_66 ?_
        refine aw_iast e_Mo_read_67 rfl (show _ < 128 by omega) (by omega) ?_
        refine aw_aload_n e_Mo_read_68 rfl ?_
        refine aw_getR e_Mo_read_69 fl_Mo_53 (hS.1 _ _ _ _ rfl) ?_
        refine aw_bipush (v := nI 102) e_Mo_read_72 (by decide) ?_
        refine aw_aload_n e_Mo_read_74 rfl ?_
        refine aw_getR e_Mo_read_75 fl_Mo_47 (hS.1 _ _ _ _ rfl) ?_
        refine aw_iconst (v := nI 2) e_Mo_read_78 (by decide) ?_
        refine aw_iload_n e_Mo_read_79 rfl ?_
        first | refine awN_imul e_Mo_read_80 ?_ | refine aw_imul e_Mo_read_80 ?_
        refine aw_iconst (v := nI 1) e_Mo_read_81 (by decide) ?_
        first | refine awN_iadd e_Mo_read_82 ?_ | refine aw_iadd e_Mo_read_82 ?_
        refine aw_lalE e_Mo_read_83 rfl (show _ < 24 by omega) (by omega) (hax _ (by omega)).1 ?_
        refine awN_l2i e_Mo_read_84 ?_
        refine aw_iast e_Mo_read_85 rfl (show _ < 128 by omega) (by omega) ?_
        refine aw_aload_n e_Mo_read_86 rfl ?_
        refine aw_iload_n e_Mo_read_87 rfl ?_
        refine aw_cV1 e_Mo_read_88 ml_Mo_214 mf_Mo_worked mv_Mo_worked (c_Mo_worked (nm := nmC (nI (nS (sM S))) (nI (ansX (sM S) (2 * b))) (nI (ansX (sM S) (2 * b + 1)))) hS (MC.keep hC2 (by rw [sI_n (by decide), sI_n (by decide), sI_n (by decide)])) hW hjn hN (fun f => ?_))
        have hfm : fM I (pil (sI (sI (sI I2 40 0 116 (nI (nS (sM S)))) 40 0 112 (nI (ansX (sM S) (2 * b)))) 40 0 102 (nI (ansX (sM S) (2 * b + 1)))) f) := fM_t hfl.M (fG_p (fG_s (fG_s (fG_s fG_0 (by decide)) (by decide)) (by decide))).M
        have hq := hQ (pil (sI (sI (sI I2 40 0 116 (nI (nS (sM S)))) 40 0 112 (nI (ansX (sM S) (2 * b)))) 40 0 102 (nI (ansX (sM S) (2 * b + 1)))) f) L2
        unfold op_read at hq
        rw [if_pos h5, ix_n (j := b) (by omega), readV_s hlt, if_pos h1] at hq
        exact aw_iret e_Mo_read_91 rfl rfl (hq (hM.same hfm (by rw [pil_n (by decide), sI_n (by decide), sI_n (by decide), sI_n (by decide)]; exact hfl.1 28 0 (by decide))) hfm.K)
      · refine aw_iload_n e_Mo_read_37 rfl ?_
        have hq := hQ I2 L2
        unfold op_read at hq
        rw [if_pos h5, ix_n (j := b) (by omega), readV_s hlt, if_neg (fun z => h34 ((ansV_iff _).2 z))] at hq
        exact aw_iret e_Mo_read_38 rfl rfl (hq (hM.same hfl.M (hfl.1 28 0 (by decide))) hfl.M.K)
    · have hlt := (oI_neg (by omega)).1 (show (oI (lastT (sM S) 1 b (nX (sM S)))).toInt < 0 by omega)
      refine aw_ldc (v := -1000000005) e_Mo_read_24 kc_Mo_74 ?_
      have hq := hQ I L hM fK_0
      unfold op_read at hq
      first
        | (rw [if_pos h5, ix_n (j := b) (by omega), readV_n hlt] at hq; exact aw_iret e_Mo_read_26 rfl rfl hq)
  · refine aw_ldc (v := -1000000001) e_Mo_read_8 kc_Mo_89 ?_
    have hq := hQ I L hM fK_0
    unfold op_read at hq
    first
      | (rw [if_neg h5] at hq; exact aw_iret e_Mo_read_10 rfl rfl hq)
theorem c_Mo_moves {l : Launch} {E : En} {d : Nat} {I : It} {L : Lt} {R : Rt} {Z : Zt} {Q : Qt} {S : AS} (hS : Sta R) (hM : MSt I S) (hA : AWF S) {x y z : Int32} (hQ : ∀ I2 L2, MSt I2 (op_moves S x y z).1 → fK I I2 → Q (some (vi (op_moves S x y z).2)) I2 L2 R Z) : AMet l E (d + 5) M_Mo_moves [vr 9 0, vi x, vi y, vi z] I L R Z Q := by
  have hC := hM.1
  have hW := hA.1.1
  have hnb := hW.1.2.1
  have hnp := hW.1.1
  have hnx := hW.1.2.2.1
  have hns := hW.1.2.2.2
  refine AMet.of mf_Mo_moves rfl (Nat.le_of_ble_eq_true rfl) ?_
  refine aw_aload_n e_Mo_moves_0 rfl ?_
  refine aw_iload_n e_Mo_moves_1 rfl ?_
  refine aw_cV1 e_Mo_moves_2 ml_Mo_122 mf_Mo_isPart mv_Mo_isPart (c_Mo_isPart hS hC hW ?_)
  refine awB_eq e_Mo_moves_5 (fun h5 => ?_) (fun h5 => ?_)
  · refine aw_ldc (v := -1000000001) e_Mo_moves_35 kc_Mo_89 ?_
    have hq := hQ I L hM fK_0
    unfold op_moves at hq
    first
      | (rw [if_neg (fun w => h5 w.1.1)] at hq; exact aw_iret e_Mo_moves_37 rfl rfl hq)
      | (rw [if_neg (fun w => h22 w.2.1)] at hq; exact aw_iret e_Mo_moves_37 rfl rfl hq)
      | (rw [if_neg (fun w => h32 ⟨w.2.2.1, by have := w.2.2.2; omega⟩)] at hq; exact aw_iret e_Mo_moves_37 rfl rfl hq)
      | (rw [if_neg (fun w => h14 (by have w2 := w.1.2; rw [ix_n (by omega)] at w2; exact w2))] at hq; exact aw_iret e_Mo_moves_37 rfl rfl hq)
  · obtain ⟨g, hgn, rfl⟩ := inR_nI h5
    have hv := hW.2.1 g hgn
    refine aw_aload_n e_Mo_moves_8 rfl ?_
    refine aw_iload_n e_Mo_moves_9 rfl ?_
    refine aw_cV1 e_Mo_moves_10 ml_Mo_116 mf_Mo_kindOf mv_Mo_kindOf (c_Mo_kindOf hS hC hW hgn ?_)
    refine aw_iconst (v := nI 3) e_Mo_moves_13 (by decide) ?_
    refine awN_icmp_ne e_Mo_moves_14 (by omega) (by omega) (fun h14 => ?_) (fun h14 => ?_)
    · refine aw_ldc (v := -1000000001) e_Mo_moves_35 kc_Mo_89 ?_
      have hq := hQ I L hM fK_0
      unfold op_moves at hq
      first
        | (rw [if_neg (fun w => h5 w.1.1)] at hq; exact aw_iret e_Mo_moves_37 rfl rfl hq)
        | (rw [if_neg (fun w => h22 w.2.1)] at hq; exact aw_iret e_Mo_moves_37 rfl rfl hq)
        | (rw [if_neg (fun w => h32 ⟨w.2.2.1, by have := w.2.2.2; omega⟩)] at hq; exact aw_iret e_Mo_moves_37 rfl rfl hq)
        | (rw [if_neg (fun w => h14 (by have w2 := w.1.2; rw [ix_n (by omega)] at w2; exact w2))] at hq; exact aw_iret e_Mo_moves_37 rfl rfl hq)
    · refine aw_aload_n e_Mo_moves_17 rfl ?_
      refine aw_iload_n e_Mo_moves_18 rfl ?_
      refine aw_cV1 e_Mo_moves_19 ml_Mo_139 mf_Mo_isBond mv_Mo_isBond (c_Mo_isBond hS hC hW ?_)
      refine awB_eq e_Mo_moves_22 (fun h22 => ?_) (fun h22 => ?_)
      · refine aw_ldc (v := -1000000001) e_Mo_moves_35 kc_Mo_89 ?_
        have hq := hQ I L hM fK_0
        unfold op_moves at hq
        first
          | (rw [if_neg (fun w => h5 w.1.1)] at hq; exact aw_iret e_Mo_moves_37 rfl rfl hq)
          | (rw [if_neg (fun w => h22 w.2.1)] at hq; exact aw_iret e_Mo_moves_37 rfl rfl hq)
          | (rw [if_neg (fun w => h32 ⟨w.2.2.1, by have := w.2.2.2; omega⟩)] at hq; exact aw_iret e_Mo_moves_37 rfl rfl hq)
          | (rw [if_neg (fun w => h14 (by have w2 := w.1.2; rw [ix_n (by omega)] at w2; exact w2))] at hq; exact aw_iret e_Mo_moves_37 rfl rfl hq)
      · refine aw_iload_n e_Mo_moves_25 rfl ?_
        refine aw_i2l e_Mo_moves_26 ?_
        refine aw_lconst (v := lN 0) e_Mo_moves_27 rfl ?_
        refine aw_lconst (v := lN 1) e_Mo_moves_28 rfl ?_
        refine aw_cS3 e_Mo_moves_29 ml_Mo_75 mf_Mo_isIn ms_Mo_isIn (c_Mo_isInC (by decide) (by decide) ?_)
        refine awB_ne e_Mo_moves_32 (fun h32 => ?_) (fun h32 => ?_)
        · have hg : (inR (nI g) (nP (sM S)) ∧ pP (sM S) (ix (nI g)) 0 = 3) ∧ inR y (nB (sM S)) ∧ inR z 2 := ⟨⟨h5, by rw [ix_n (by omega)]; exact h14⟩, h22, by omega, by omega⟩
          obtain ⟨b, hb, rfl⟩ := inR_nI hg.2.1
          obtain ⟨w, hw, rfl⟩ := inR_nI hg.2.2
          refine aw_aload_n e_Mo_moves_38 rfl ?_
          refine aw_aload_n e_Mo_moves_39 rfl ?_
          refine aw_getR e_Mo_moves_40 fl_Mo_7 (hS.1 _ _ _ _ rfl) ?_
          refine aw_aload_n e_Mo_moves_43 rfl ?_
          refine aw_getR e_Mo_moves_44 fl_Mo_16 (hS.1 _ _ _ _ rfl) ?_
          refine aw_cV2 e_Mo_moves_47 ml_Mo_222 mf_Mo_setAside mv_Mo_setAside (c_Mo_setAside (a := 0) (b := 2) (by decide) (fun I1 hc1 hf1 => ?_))
          refine aw_iconst (v := nI 0) e_Mo_moves_50 (by decide) ?_
          refine aw_ist4 e_Mo_moves_51 ?_
          refine up_loop (P := fun i => ∀ I2, MC I2 0 (mkH (sM S) (mvh (sM S) g i)) → fG I1 I2 → AWq l E (d + 5) M_Mo_moves Z 53 [some (vr 9 0), some (vi (nI g)), some (vi (nI b)), some (vi (nI w)), some (vi (nI i))] [] I2 L R Z Q) (N := nP (sM S)) (fun i hi ih I2 hC2 hf2 => ?_) 0 (Nat.zero_le _) I1 (by rw [mkH_id _ _ (fun q => by unfold mvh; rw [if_neg (Nat.not_lt_zero q)])]; exact hC.keep (hf1 28 0 (by decide))) fG_0
          refine aw_iload e_Mo_moves_53 rfl ?_
          refine aw_aload_n e_Mo_moves_55 rfl ?_
          refine aw_getR e_Mo_moves_56 fl_Mo_7 (hS.1 _ _ _ _ rfl) ?_
          refine aw_iconst (v := nI 0) e_Mo_moves_59 (by decide) ?_
          refine aw_ialE e_Mo_moves_60 rfl (show _ < 3110 by omega) (by omega) (show _ = nI (nP (sM S)) from hC2.1.1) ?_
          refine awN_icmp_ge e_Mo_moves_61 (by omega) (by omega) (fun h61 => ?_) (fun h61 => ?_)
          · obtain rfl : i = nP (sM S) := by omega
            have hC3 : MC I2 0 (movM (sM S) g) := MC_mk hC2 (fun p hp => by unfold mvh; rw [if_pos hp])
            refine aw_aload_n e_Mo_moves_94 rfl ?_
            refine aw_cV0 e_Mo_moves_95 ml_Mo_185 mf_Mo_solve mv_Mo_solve (c_Mo_solve hS hC3 (WF_movM hW g) (fun I3 L3 hfl3 ha3 hr3 => ?_))
            refine aw_ist4 e_Mo_moves_98 ?_
            refine aw_aload_n e_Mo_moves_100 rfl ?_
            refine aw_aload_n e_Mo_moves_101 rfl ?_
            refine aw_getR e_Mo_moves_102 fl_Mo_16 (hS.1 _ _ _ _ rfl) ?_
            refine aw_aload_n e_Mo_moves_105 rfl ?_
            refine aw_getR e_Mo_moves_106 fl_Mo_7 (hS.1 _ _ _ _ rfl) ?_
            refine aw_cV2 e_Mo_moves_109 ml_Mo_222 mf_Mo_setAside mv_Mo_setAside (c_Mo_setAside (a := 2) (b := 0) (by decide) (fun I4 hc4 hf4 => ?_))
            refine aw_iload e_Mo_moves_112 rfl ?_
            refine aw_iconst (v := nI 1) e_Mo_moves_114 (by decide) ?_
            refine aw_icmp_eq e_Mo_moves_115 (fun h115 => ?_) (fun h115 => ?_)
            · refine aw_aload_n e_Mo_moves_123 rfl ?_
              refine aw_getR e_Mo_moves_124 fl_Mo_47 (hS.1 _ _ _ _ rfl) ?_
              refine aw_iconst (v := nI 2) e_Mo_moves_127 (by decide) ?_
              refine aw_iload_n e_Mo_moves_128 rfl ?_
              first | refine awN_imul e_Mo_moves_129 ?_ | refine aw_imul e_Mo_moves_129 ?_
              refine aw_iload_n e_Mo_moves_130 rfl ?_
              first | refine awN_iadd e_Mo_moves_131 ?_ | refine aw_iadd e_Mo_moves_131 ?_
              refine aw_lalE e_Mo_moves_132 rfl (show _ < 24 by omega) (by omega) (ha3 ((ansV_iff _).1 h115) (2 * b + w) (show 2 * b + w < 2 * nB (sM S) by omega)).1 ?_
              refine awN_l2i e_Mo_moves_133 ?_
              have hrow : ∀ n, n < 3110 → I4 28 0 n = I 28 0 n := fun n hn => by rw [hc4 n hn, hfl3.1 28 2 (by decide), hf2.1 28 2 (by decide) (by decide) (by decide) (by decide), hc1 n hn]
              have hfm : fM I I4 := fM_t (fM_t (fM_c (by decide) hf1) (fM_t hf2.M hfl3.M)) (fM_c (by decide) hf4)
              have hms : MSt I4 S := ⟨hC.cp hW hrow, hM.2.keep hfm⟩
              have hq := hQ I4 L3
              unfold op_moves at hq
              first
                | (rw [if_pos hg, ix_n (j := g) (by omega), ix_n (j := b) (by omega), ix_n (j := w) (by omega), if_pos ((ansV_iff _).1 h115)] at hq; exact aw_iret e_Mo_moves_134 rfl rfl (hq hms hfm.K))
                | (rw [if_pos hg, ix_n (j := g) (by omega), ix_n (j := b) (by omega), ix_n (j := w) (by omega), if_neg (fun z => h115 ((ansV_iff _).2 z))] at hq; exact aw_iret e_Mo_moves_134 rfl rfl (hq hms hfm.K))
            · refine aw_iload e_Mo_moves_118 rfl ?_
              refine aw_goto e_Mo_moves_120 ?_
              have hrow : ∀ n, n < 3110 → I4 28 0 n = I 28 0 n := fun n hn => by rw [hc4 n hn, hfl3.1 28 2 (by decide), hf2.1 28 2 (by decide) (by decide) (by decide) (by decide), hc1 n hn]
              have hfm : fM I I4 := fM_t (fM_t (fM_c (by decide) hf1) (fM_t hf2.M hfl3.M)) (fM_c (by decide) hf4)
              have hms : MSt I4 S := ⟨hC.cp hW hrow, hM.2.keep hfm⟩
              have hq := hQ I4 L3
              unfold op_moves at hq
              first
                | (rw [if_pos hg, ix_n (j := g) (by omega), ix_n (j := b) (by omega), ix_n (j := w) (by omega), if_pos ((ansV_iff _).1 h115)] at hq; exact aw_iret e_Mo_moves_134 rfl rfl (hq hms hfm.K))
                | (rw [if_pos hg, ix_n (j := g) (by omega), ix_n (j := b) (by omega), ix_n (j := w) (by omega), if_neg (fun z => h115 ((ansV_iff _).2 z))] at hq; exact aw_iret e_Mo_moves_134 rfl rfl (hq hms hfm.K))
          · refine aw_aload_n e_Mo_moves_64 rfl ?_
            refine aw_getR e_Mo_moves_65 fl_Mo_7 (hS.1 _ _ _ _ rfl) ?_
            refine aw_aload_n e_Mo_moves_68 rfl ?_
            refine aw_iload e_Mo_moves_69 rfl ?_
            refine aw_cV1 e_Mo_moves_71 ml_Mo_79 mf_Mo_partAt mv_Mo_partAt (c_Mo_partAt ?_)
            refine aw_iconst (v := nI 4) e_Mo_moves_74 (by decide) ?_
            first | refine awN_iadd e_Mo_moves_75 ?_ | refine aw_iadd e_Mo_moves_75 ?_
            refine aw_iload e_Mo_moves_76 rfl ?_
            refine aw_iload_n e_Mo_moves_78 rfl ?_
            refine awN_icmp_ne e_Mo_moves_79 (by omega) (by omega) (fun h79 => ?_) (fun h79 => ?_)
            · refine aw_iconst (v := nI 0) e_Mo_moves_86 (by decide) ?_
              refine aw_iast e_Mo_moves_87 rfl (show _ < 3110 by omega) (by omega) ?_
              refine aw_inc4 e_Mo_moves_88 (inc1 _) ?_
              refine aw_goto e_Mo_moves_91 ?_
              have hms := MC_setH (v := if i = g then 1 else 0) hC2 (WF_mvh hW g i) h61
              rw [mv_s] at hms
              first
                | (rw [if_pos h79] at hms; exact ih h61 _ hms (fG_s hf2 (by decide)))
                | (rw [if_neg h79] at hms; exact ih h61 _ hms (fG_s hf2 (by decide)))
            · refine aw_iconst (v := nI 1) e_Mo_moves_82 (by decide) ?_
              refine aw_goto e_Mo_moves_83 ?_
              refine aw_iast e_Mo_moves_87 rfl (show _ < 3110 by omega) (by omega) ?_
              refine aw_inc4 e_Mo_moves_88 (inc1 _) ?_
              refine aw_goto e_Mo_moves_91 ?_
              have hms := MC_setH (v := if i = g then 1 else 0) hC2 (WF_mvh hW g i) h61
              rw [mv_s] at hms
              first
                | (rw [if_pos h79] at hms; exact ih h61 _ hms (fG_s hf2 (by decide)))
                | (rw [if_neg h79] at hms; exact ih h61 _ hms (fG_s hf2 (by decide)))
        · refine aw_ldc (v := -1000000001) e_Mo_moves_35 kc_Mo_89 ?_
          have hq := hQ I L hM fK_0
          unfold op_moves at hq
          first
            | (rw [if_neg (fun w => h5 w.1.1)] at hq; exact aw_iret e_Mo_moves_37 rfl rfl hq)
            | (rw [if_neg (fun w => h22 w.2.1)] at hq; exact aw_iret e_Mo_moves_37 rfl rfl hq)
            | (rw [if_neg (fun w => h32 ⟨w.2.2.1, by have := w.2.2.2; omega⟩)] at hq; exact aw_iret e_Mo_moves_37 rfl rfl hq)
            | (rw [if_neg (fun w => h14 (by have w2 := w.1.2; rw [ix_n (by omega)] at w2; exact w2))] at hq; exact aw_iret e_Mo_moves_37 rfl rfl hq)
