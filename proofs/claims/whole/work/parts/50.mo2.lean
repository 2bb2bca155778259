/-! ===== the model's calls, 1 ===== -/
theorem MC_setP {I I2 : It} {V : Mc} {p k : Nat} {g : Nat → Nat} (h : MC I k V) (hW : WF V) (hp : p < nP V) (h1 : ∀ n, ¬ (10 + 5 * p ≤ n ∧ n < 15 + 5 * p) → I2 28 k n = I 28 k n) (h2 : ∀ f, f < 5 → I2 28 k (10 + 5 * p + f) = nI (g f)) : MC I2 k (setP V p g) := by
  obtain ⟨c1, c2, c3, c4, c5⟩ := h
  have hn := hW.1.1
  refine ⟨⟨by rw [h1 _ (by omega)]; exact c1.1, by rw [h1 _ (by omega)]; exact c1.2.1, by rw [h1 _ (by omega)]; exact c1.2.2.1, by rw [h1 _ (by omega)]; exact c1.2.2.2⟩, fun q f hq hf => ?_, fun b hb => by rw [h1 _ (by omega)]; exact c3 b hb, fun b hb => by rw [h1 _ (by omega)]; exact c4 b hb, fun j hj => (c5 j hj).keep (fun n a b => h1 n (by omega)) (hW.2.2.2 j hj).2.2.2.1⟩
  rw [setP_pP]
  by_cases e : q = p
  · rw [if_pos e, e]; exact h2 f hf
  · rw [if_neg e, h1 _ (by omega)]; exact c2 q f hq hf
theorem MC_setH {I : It} {V : Mc} {p v : Nat} (h : MC I 0 V) (hW : WF V) (hp : p < nP V) : MC (sI I 28 0 (10 + 5 * p + 4) (nI v)) 0 (setH V p v) := by
  have hs := MC_setP (I2 := sI I 28 0 (10 + 5 * p + 4) (nI v)) (g := fun f => if f = 4 then v else pP V p f) h hW hp (fun n hn => by rw [sI_ne (by omega)]) (fun f hf => by
    by_cases e : f = 4
    · rw [if_pos e, e, sI_eq]
    · rw [if_neg e, sI_ne (by omega)]; exact h.2.1 p f hp hf)
  have e : setP V p (fun f => if f = 4 then v else pP V p f) = setH V p v := by
    unfold setP setH
    congr 5
    funext q f
    show (if q = p then (if f = 4 then v else pP V p f) else pP V q f) = if q = p ∧ f = 4 then v else pP V q f
    by_cases e1 : q = p
    · by_cases e2 : f = 4
      · rw [if_pos e1, if_pos e2, if_pos ⟨e1, e2⟩]
      · rw [if_pos e1, if_neg e2, if_neg (fun z => e2 z.2), e1]
    · rw [if_neg e1, if_neg (fun z => e1 z.1)]
  rw [← e]
  exact hs
def mP6 (I : It) (n k s v : Nat) : It := sI (sI (sI (sI (sI (sI I 28 0 (10 + 5 * n) (nI k)) 28 0 (10 + 5 * n + 1) (nI s)) 28 0 (10 + 5 * n + 2) (nI (v / 10))) 28 0 (10 + 5 * n + 3) (nI (v % 10))) 28 0 (10 + 5 * n + 4) (nI 0)) 28 0 0 (nI (n + 1))
theorem MC_addP {I : It} {V : Mc} {kd so v : Nat} (h : MC I 0 V) (hW : WF V) (hn : nP V < 12) : MC (mP6 I (nP V) kd so v) 0 (addP V kd so v) := by
  obtain ⟨c1, c2, c3, c4, c5⟩ := h
  unfold mP6
  refine ⟨⟨sI_eq _ _ _ _ _, ?_, ?_, ?_⟩, fun q f hq hf => ?_, fun b hb => ?_, fun b hb => ?_, fun j hj => ?_⟩
  · (repeat (first | rw [sI_n (by omega)] | rw [sI_ne (by omega)]))
    exact c1.2.1
  · (repeat (first | rw [sI_n (by omega)] | rw [sI_ne (by omega)]))
    exact c1.2.2.1
  · (repeat (first | rw [sI_n (by omega)] | rw [sI_ne (by omega)]))
    exact c1.2.2.2
  · rw [addP_pP]
    have hq2 : q < nP V + 1 := hq
    by_cases e : q = nP V
    · rw [if_pos e, e]
      have hf5 : f = 0 ∨ f = 1 ∨ f = 2 ∨ f = 3 ∨ f = 4 := by omega
      rcases hf5 with rfl | rfl | rfl | rfl | rfl
      all_goals (repeat (first | rw [sI_n (by omega)] | rw [sI_ne (by omega)]))
      all_goals exact sI_eq _ _ _ _ _
    · rw [if_neg e]
      (repeat (first | rw [sI_n (by omega)] | rw [sI_ne (by omega)]))
      exact c2 q f (by omega) hf
  · (repeat (first | rw [sI_n (by omega)] | rw [sI_ne (by omega)]))
    exact c3 b hb
  · (repeat (first | rw [sI_n (by omega)] | rw [sI_ne (by omega)]))
    exact c4 b hb
  · refine (c5 j hj).keep (fun n a b => ?_) (hW.2.2.2 j hj).2.2.2.1
    (repeat (first | rw [sI_n (by omega)] | rw [sI_ne (by omega)]))
theorem c_Mo_worth {l : Launch} {E : En} {d : Nat} {I : It} {L : Lt} {R : Rt} {Z : Zt} {Q : Qt} {S : AS} (hS : Sta R) (hM : MSt I S) (hA : AWF S) {w x y : Int32} (hQ : ∀ I2 L2, MSt I2 (op_worth S w x y).1 → fK I I2 → Q (some (vi (op_worth S w x y).2)) I2 L2 R Z) : AMet l E (d + 1) M_Mo_worth [vr 9 0, vi w, vi x, vi y] I L R Z Q := by
  have hx := wof_lt x.toInt
  have hy := wof_lt y.toInt
  refine AMet.of mf_Mo_worth rfl (Nat.le_of_ble_eq_true rfl) ?_
  refine aw_iload_n e_Mo_worth_0 rfl ?_
  refine aw_i2l e_Mo_worth_1 ?_
  refine aw_lconst (v := lN 0) e_Mo_worth_2 rfl ?_
  refine aw_lconst (v := lN 1) e_Mo_worth_3 rfl ?_
  refine aw_cS3 e_Mo_worth_4 ml_Mo_75 mf_Mo_isIn ms_Mo_isIn (c_Mo_isInC (by decide) (by decide) ?_)
  refine awB_ne e_Mo_worth_7 (fun h7 => ?_) (fun h7 => ?_)
  · have hw2 : inR w 2 := ⟨by omega, by omega⟩
    obtain ⟨j, hj, rfl⟩ := inR_nI hw2
    refine aw_iload_n e_Mo_worth_13 rfl ?_
    refine awN_if_ne e_Mo_worth_14 (by omega) (fun h14 => ?_) (fun h14 => ?_)
    · refine aw_iload_n e_Mo_worth_24 rfl ?_
      refine aw_i2l e_Mo_worth_25 ?_
      refine aw_cS1 e_Mo_worth_26 ml_Mo_90 mf_Mo_worthOf ms_Mo_worthOf (c_Mo_worthI ?_)
      refine aw_lconst (v := lN 0) e_Mo_worth_29 rfl ?_
      refine aw_lcmp e_Mo_worth_30 ?_
      refine awL_ne e_Mo_worth_31 (by omega) (by decide) (fun h31 => ?_) (fun h31 => ?_)
      · refine aw_iload_n e_Mo_worth_39 rfl ?_
        refine aw_i2l e_Mo_worth_40 ?_
        refine aw_cS1 e_Mo_worth_41 ml_Mo_90 mf_Mo_worthOf ms_Mo_worthOf (c_Mo_worthI ?_)
        refine aw_iload_n e_Mo_worth_44 rfl ?_
        refine aw_i2l e_Mo_worth_45 ?_
        refine aw_cS1 e_Mo_worth_46 ml_Mo_90 mf_Mo_worthOf ms_Mo_worthOf (c_Mo_worthI ?_)
        refine aw_cS1 e_Mo_worth_49 ml_Mo_95 mf_Mo_over ms_Mo_over (c_Mo_over hy ?_)
        have hm := mulP hx (ivP_lt (wof y.toInt))
        refine awN_lmul e_Mo_worth_52 ?_
        refine aw_ldc2 (v := lN 1000003) e_Mo_worth_53 kl_Mo_83 ?_
        refine awN_lrem e_Mo_worth_56 (by omega) (by omega) (by omega) ?_
        refine awN_l2i e_Mo_worth_57 ?_
        have hq := hQ I L hM fK_0
        unfold op_worth at hq
        first
          | (rw [if_pos hw2, ix_n (j := j) (by omega), if_neg h14, if_pos h31] at hq; exact aw_iret e_Mo_worth_58 rfl rfl hq)
          | (rw [if_pos hw2, ix_n (j := j) (by omega), if_neg h14, if_neg h31] at hq; exact aw_iret e_Mo_worth_58 rfl rfl hq)
      · refine aw_ldc (v := -1000000002) e_Mo_worth_34 kc_Mo_94 ?_
        refine aw_goto e_Mo_worth_36 ?_
        have hq := hQ I L hM fK_0
        unfold op_worth at hq
        first
          | (rw [if_pos hw2, ix_n (j := j) (by omega), if_neg h14, if_pos h31] at hq; exact aw_iret e_Mo_worth_58 rfl rfl hq)
          | (rw [if_pos hw2, ix_n (j := j) (by omega), if_neg h14, if_neg h31] at hq; exact aw_iret e_Mo_worth_58 rfl rfl hq)
    · refine aw_iload_n e_Mo_worth_17 rfl ?_
      refine aw_i2l e_Mo_worth_18 ?_
      refine aw_cS1 e_Mo_worth_19 ml_Mo_90 mf_Mo_worthOf ms_Mo_worthOf (c_Mo_worthI ?_)
      refine awN_l2i e_Mo_worth_22 ?_
      have hq := hQ I L hM fK_0
      unfold op_worth at hq
      first
        | (rw [if_pos hw2, ix_n (j := j) (by omega), if_pos h14] at hq; exact aw_iret e_Mo_worth_23 rfl rfl hq)
  · refine aw_ldc (v := -1000000001) e_Mo_worth_10 kc_Mo_89 ?_
    have hq := hQ I L hM fK_0
    unfold op_worth at hq
    first
      | (rw [if_neg (fun w => by have w1 := w.1; have w2 := w.2; omega)] at hq; exact aw_iret e_Mo_worth_12 rfl rfl hq)
theorem c_Mo_part {l : Launch} {E : En} {d : Nat} {I : It} {L : Lt} {R : Rt} {Z : Zt} {Q : Qt} {S : AS} (hS : Sta R) (hM : MSt I S) (hA : AWF S) {x y z : Int32} (hQ : ∀ I2 L2, MSt I2 (op_part S x y z).1 → fK I I2 → Q (some (vi (op_part S x y z).2)) I2 L2 R Z) : AMet l E (d + 2) M_Mo_part [vr 9 0, vi x, vi y, vi z] I L R Z Q := by
  have hC := hM.1
  have hW := hA.1.1
  have hnb := hW.1.2.1
  have hnp := hW.1.1
  have hnx := hW.1.2.2.1
  have hns := hW.1.2.2.2
  refine AMet.of mf_Mo_part rfl (Nat.le_of_ble_eq_true rfl) ?_
  refine aw_iload_n e_Mo_part_0 rfl ?_
  refine aw_i2l e_Mo_part_1 ?_
  refine aw_lconst (v := lN 0) e_Mo_part_2 rfl ?_
  refine aw_ldc2 (v := lN 5) e_Mo_part_3 kl_Mo_102 ?_
  refine aw_cS3 e_Mo_part_6 ml_Mo_75 mf_Mo_isIn ms_Mo_isIn (c_Mo_isInC (by decide) (by decide) ?_)
  refine awB_eq e_Mo_part_9 (fun h9 => ?_) (fun h9 => ?_)
  · refine aw_ldc (v := -1000000001) e_Mo_part_29 kc_Mo_89 ?_
    have hq := hQ I L
    unfold op_part at hq
    first
      | (rw [if_neg (fun w => h26 w.2.2)] at hq; exact aw_iret e_Mo_part_31 rfl rfl (hq hM fK_0))
      | (rw [if_neg (fun w => h9 ⟨w.1.1, by have := w.1.2; omega⟩)] at hq; exact aw_iret e_Mo_part_31 rfl rfl (hq hM fK_0))
      | (rw [if_neg (fun w => h19 ⟨w.2.1.1, by have := w.2.1.2; omega⟩)] at hq; exact aw_iret e_Mo_part_31 rfl rfl (hq hM fK_0))
  · refine aw_iload_n e_Mo_part_12 rfl ?_
    refine aw_i2l e_Mo_part_13 ?_
    refine aw_lconst (v := lN 0) e_Mo_part_14 rfl ?_
    refine aw_lconst (v := lN 1) e_Mo_part_15 rfl ?_
    refine aw_cS3 e_Mo_part_16 ml_Mo_75 mf_Mo_isIn ms_Mo_isIn (c_Mo_isInC (by decide) (by decide) ?_)
    refine awB_eq e_Mo_part_19 (fun h19 => ?_) (fun h19 => ?_)
    · refine aw_ldc (v := -1000000001) e_Mo_part_29 kc_Mo_89 ?_
      have hq := hQ I L
      unfold op_part at hq
      first
        | (rw [if_neg (fun w => h26 w.2.2)] at hq; exact aw_iret e_Mo_part_31 rfl rfl (hq hM fK_0))
        | (rw [if_neg (fun w => h9 ⟨w.1.1, by have := w.1.2; omega⟩)] at hq; exact aw_iret e_Mo_part_31 rfl rfl (hq hM fK_0))
        | (rw [if_neg (fun w => h19 ⟨w.2.1.1, by have := w.2.1.2; omega⟩)] at hq; exact aw_iret e_Mo_part_31 rfl rfl (hq hM fK_0))
    · refine aw_iload_n e_Mo_part_22 rfl ?_
      refine aw_cS1 e_Mo_part_23 ml_Mo_104 mf_Mo_isShare ms_Mo_isShare (c_Mo_isShare ?_)
      refine awB_ne e_Mo_part_26 (fun h26 => ?_) (fun h26 => ?_)
      · have hg : inR x 6 ∧ inR y 2 ∧ isSh z := ⟨⟨by omega, by omega⟩, ⟨by omega, by omega⟩, h26⟩
        obtain ⟨k, hk, rfl⟩ := inR_nI hg.1
        obtain ⟨s, hs, rfl⟩ := inR_nI hg.2.1
        obtain ⟨v, hv0, rfl⟩ := inR_nI (x := z) (n := 100) ⟨by have := h26.1; omega, by have := h26.2.1; omega⟩
        refine aw_aload_n e_Mo_part_32 rfl ?_
        refine aw_getR e_Mo_part_33 fl_Mo_7 (hS.1 _ _ _ _ rfl) ?_
        refine aw_iconst (v := nI 0) e_Mo_part_36 (by decide) ?_
        refine aw_ialE e_Mo_part_37 rfl (show _ < 3110 by omega) (by omega) (by first | exact hC.1.1 | exact hC.1.2.1 | exact hC.1.2.2.1 | exact hC.1.2.2.2 | exact hC.pk (by omega) | exact hC.2.1 _ _ (by omega) (by decide) | exact hC.2.2.1 _ (by omega) | exact hC.2.2.2.1 _ (by omega)) ?_
        refine aw_bipush (v := nI 12) e_Mo_part_38 (by decide) ?_
        refine awN_icmp_ne e_Mo_part_40 (by omega) (by omega) (fun h40 => ?_) (fun h40 => ?_)
        · refine aw_aload_n e_Mo_part_46 rfl ?_
          refine aw_aload_n e_Mo_part_47 rfl ?_
          refine aw_getR e_Mo_part_48 fl_Mo_7 (hS.1 _ _ _ _ rfl) ?_
          refine aw_iconst (v := nI 0) e_Mo_part_51 (by decide) ?_
          refine aw_ialE e_Mo_part_52 rfl (show _ < 3110 by omega) (by omega) (by first | exact hC.1.1 | exact hC.1.2.1 | exact hC.1.2.2.1 | exact hC.1.2.2.2 | exact hC.pk (by omega) | exact hC.2.1 _ _ (by omega) (by decide) | exact hC.2.2.1 _ (by omega) | exact hC.2.2.2.1 _ (by omega)) ?_
          refine aw_cV1 e_Mo_part_53 ml_Mo_79 mf_Mo_partAt mv_Mo_partAt (c_Mo_partAt ?_)
          refine aw_ist4 e_Mo_part_56 ?_
          refine aw_aload_n e_Mo_part_58 rfl ?_
          refine aw_getR e_Mo_part_59 fl_Mo_7 (hS.1 _ _ _ _ rfl) ?_
          refine aw_iload e_Mo_part_62 rfl ?_
          refine aw_iload_n e_Mo_part_64 rfl ?_
          refine aw_iast e_Mo_part_65 rfl (show _ < 3110 by omega) (by omega) ?_
          refine aw_aload_n e_Mo_part_66 rfl ?_
          refine aw_getR e_Mo_part_67 fl_Mo_7 (hS.1 _ _ _ _ rfl) ?_
          refine aw_iload e_Mo_part_70 rfl ?_
          refine aw_iconst (v := nI 1) e_Mo_part_72 (by decide) ?_
          first | refine awN_iadd e_Mo_part_73 ?_ | refine aw_iadd e_Mo_part_73 ?_
          refine aw_iload_n e_Mo_part_74 rfl ?_
          refine aw_iast e_Mo_part_75 rfl (show _ < 3110 by omega) (by omega) ?_
          refine aw_aload_n e_Mo_part_76 rfl ?_
          refine aw_getR e_Mo_part_77 fl_Mo_7 (hS.1 _ _ _ _ rfl) ?_
          refine aw_iload e_Mo_part_80 rfl ?_
          refine aw_iconst (v := nI 2) e_Mo_part_82 (by decide) ?_
          first | refine awN_iadd e_Mo_part_83 ?_ | refine aw_iadd e_Mo_part_83 ?_
          refine aw_iload_n e_Mo_part_84 rfl ?_
          refine aw_bipush (v := nI 10) e_Mo_part_85 (by decide) ?_
          refine awN_idiv e_Mo_part_87 (by omega) (by omega) (by omega) ?_
          refine aw_iast e_Mo_part_88 rfl (show _ < 3110 by omega) (by omega) ?_
          refine aw_aload_n e_Mo_part_89 rfl ?_
          refine aw_getR e_Mo_part_90 fl_Mo_7 (hS.1 _ _ _ _ rfl) ?_
          refine aw_iload e_Mo_part_93 rfl ?_
          refine aw_iconst (v := nI 3) e_Mo_part_95 (by decide) ?_
          first | refine awN_iadd e_Mo_part_96 ?_ | refine aw_iadd e_Mo_part_96 ?_
          refine aw_iload_n e_Mo_part_97 rfl ?_
          refine aw_bipush (v := nI 10) e_Mo_part_98 (by decide) ?_
          refine awN_irem e_Mo_part_100 (by omega) (by omega) (by omega) ?_
          refine aw_iast e_Mo_part_101 rfl (show _ < 3110 by omega) (by omega) ?_
          refine aw_aload_n e_Mo_part_102 rfl ?_
          refine aw_getR e_Mo_part_103 fl_Mo_7 (hS.1 _ _ _ _ rfl) ?_
          refine aw_iload e_Mo_part_106 rfl ?_
          refine aw_iconst (v := nI 4) e_Mo_part_108 (by decide) ?_
          first | refine awN_iadd e_Mo_part_109 ?_ | refine aw_iadd e_Mo_part_109 ?_
          refine aw_iconst (v := nI 0) e_Mo_part_110 (by decide) ?_
          refine aw_iast e_Mo_part_111 rfl (show _ < 3110 by omega) (by omega) ?_
          refine aw_aload_n e_Mo_part_112 rfl ?_
          refine aw_getR e_Mo_part_113 fl_Mo_7 (hS.1 _ _ _ _ rfl) ?_
          refine aw_iconst (v := nI 0) e_Mo_part_116 (by decide) ?_
          refine aw_dup2 e_Mo_part_117 rfl rfl ?_
          refine aw_ialE e_Mo_part_118 rfl (show _ < 3110 by omega) (by omega) (show _ = nI (nP (sM S)) by (repeat (first | rw [sI_n (by omega)] | rw [sI_ne (by omega)])); exact hC.1.1) ?_
          refine aw_iconst (v := nI 1) e_Mo_part_119 (by decide) ?_
          first | refine awN_iadd e_Mo_part_120 ?_ | refine aw_iadd e_Mo_part_120 ?_
          refine aw_iast e_Mo_part_121 rfl (show _ < 3110 by omega) (by omega) ?_
          refine aw_aload_n e_Mo_part_122 rfl ?_
          refine aw_getR e_Mo_part_123 fl_Mo_7 (hS.1 _ _ _ _ rfl) ?_
          refine aw_iconst (v := nI 0) e_Mo_part_126 (by decide) ?_
          refine aw_ialE e_Mo_part_127 rfl (show _ < 3110 by omega) (by omega) (sI_eq _ _ _ _ _) ?_
          refine aw_iconst (v := nI 1) e_Mo_part_128 (by decide) ?_
          refine awN_isub e_Mo_part_129 (show 1 ≤ nP (sM S) + 1 by omega) ?_
          have hq := hQ (mP6 I (nP (sM S)) k s v) L
          unfold op_part at hq
          rw [if_pos hg, if_pos (by omega), ix_n (by omega), ix_n (by omega), ix_n (by omega)] at hq
          have hf : fM I (mP6 I (nP (sM S)) k s v) := fM_w (fM_w (fM_w (fM_w (fM_w (fM_w fM_0 (by omega)) (by omega)) (by omega)) (by omega)) (by omega)) (by omega)
          exact aw_iret e_Mo_part_130 rfl rfl (hq (hM.mach hf (MC_addP hC hW (by omega))) hf.K)
        · refine aw_ldc (v := -1000000003) e_Mo_part_43 kc_Mo_108 ?_
          have hq := hQ I L
          unfold op_part at hq
          first
            | (rw [if_pos hg, if_neg (by omega)] at hq; exact aw_iret e_Mo_part_45 rfl rfl (hq hM fK_0))
      · refine aw_ldc (v := -1000000001) e_Mo_part_29 kc_Mo_89 ?_
        have hq := hQ I L
        unfold op_part at hq
        first
          | (rw [if_neg (fun w => h26 w.2.2)] at hq; exact aw_iret e_Mo_part_31 rfl rfl (hq hM fK_0))
          | (rw [if_neg (fun w => h9 ⟨w.1.1, by have := w.1.2; omega⟩)] at hq; exact aw_iret e_Mo_part_31 rfl rfl (hq hM fK_0))
          | (rw [if_neg (fun w => h19 ⟨w.2.1.1, by have := w.2.1.2; omega⟩)] at hq; exact aw_iret e_Mo_part_31 rfl rfl (hq hM fK_0))
theorem c_Mo_isOf {l : Launch} {E : En} {d : Nat} {I : It} {L : Lt} {R : Rt} {Z : Zt} {Q : Qt} {kd w : Nat} (hk : kd < 6) (hw : w < 6) (hQ : Q (some (vi (bI (isOfN kd w = true)))) I L R Z) : AMet l E d M_Mo_isOf [vi (nI kd), vi (nI w)] I L R Z Q := by
  refine AMet.of mf_Mo_isOf rfl (Nat.le_of_ble_eq_true rfl) ?_
  refine aw_iload_n e_Mo_isOf_0 rfl ?_
  refine awN_if_eq e_Mo_isOf_1 (by omega) (fun h1 => ?_) (fun h1 => ?_)
  · refine aw_iconst (v := nI 1) e_Mo_isOf_29 (by decide) ?_
    refine aw_goto e_Mo_isOf_30 ?_
    first
      | exact awB_1 e_Mo_isOf_34 (isOfN_iff.2 (by omega)) hQ
      | exact awB_0 e_Mo_isOf_34 (fun q => by have q2 := isOfN_iff.1 q; omega) hQ
  · refine aw_iload_n e_Mo_isOf_4 rfl ?_
    refine aw_iload_n e_Mo_isOf_5 rfl ?_
    refine awN_icmp_eq e_Mo_isOf_6 (by omega) (by omega) (fun h6 => ?_) (fun h6 => ?_)
    · refine aw_iconst (v := nI 1) e_Mo_isOf_29 (by decide) ?_
      refine aw_goto e_Mo_isOf_30 ?_
      first
        | exact awB_1 e_Mo_isOf_34 (isOfN_iff.2 (by omega)) hQ
        | exact awB_0 e_Mo_isOf_34 (fun q => by have q2 := isOfN_iff.1 q; omega) hQ
    · refine aw_iload_n e_Mo_isOf_9 rfl ?_
      refine aw_iconst (v := nI 2) e_Mo_isOf_10 (by decide) ?_
      refine awN_icmp_ne e_Mo_isOf_11 (by omega) (by omega) (fun h11 => ?_) (fun h11 => ?_)
      · refine aw_iload_n e_Mo_isOf_19 rfl ?_
        refine aw_iconst (v := nI 4) e_Mo_isOf_20 (by decide) ?_
        refine awN_icmp_ne e_Mo_isOf_21 (by omega) (by omega) (fun h21 => ?_) (fun h21 => ?_)
        · refine aw_iconst (v := nI 0) e_Mo_isOf_33 (by decide) ?_
          first
            | exact awB_1 e_Mo_isOf_34 (isOfN_iff.2 (by omega)) hQ
            | exact awB_0 e_Mo_isOf_34 (fun q => by have q2 := isOfN_iff.1 q; omega) hQ
        · refine aw_iload_n e_Mo_isOf_24 rfl ?_
          refine aw_iconst (v := nI 5) e_Mo_isOf_25 (by decide) ?_
          refine awN_icmp_ne e_Mo_isOf_26 (by omega) (by omega) (fun h26 => ?_) (fun h26 => ?_)
          · refine aw_iconst (v := nI 0) e_Mo_isOf_33 (by decide) ?_
            first
              | exact awB_1 e_Mo_isOf_34 (isOfN_iff.2 (by omega)) hQ
              | exact awB_0 e_Mo_isOf_34 (fun q => by have q2 := isOfN_iff.1 q; omega) hQ
          · refine aw_iconst (v := nI 1) e_Mo_isOf_29 (by decide) ?_
            refine aw_goto e_Mo_isOf_30 ?_
            first
              | exact awB_1 e_Mo_isOf_34 (isOfN_iff.2 (by omega)) hQ
              | exact awB_0 e_Mo_isOf_34 (fun q => by have q2 := isOfN_iff.1 q; omega) hQ
      · refine aw_iload_n e_Mo_isOf_14 rfl ?_
        refine aw_iconst (v := nI 3) e_Mo_isOf_15 (by decide) ?_
        refine awN_icmp_eq e_Mo_isOf_16 (by omega) (by omega) (fun h16 => ?_) (fun h16 => ?_)
        · refine aw_iconst (v := nI 1) e_Mo_isOf_29 (by decide) ?_
          refine aw_goto e_Mo_isOf_30 ?_
          first
            | exact awB_1 e_Mo_isOf_34 (isOfN_iff.2 (by omega)) hQ
            | exact awB_0 e_Mo_isOf_34 (fun q => by have q2 := isOfN_iff.1 q; omega) hQ
        · refine aw_iload_n e_Mo_isOf_19 rfl ?_
          refine aw_iconst (v := nI 4) e_Mo_isOf_20 (by decide) ?_
          refine awN_icmp_ne e_Mo_isOf_21 (by omega) (by omega) (fun h21 => ?_) (fun h21 => ?_)
          · refine aw_iconst (v := nI 0) e_Mo_isOf_33 (by decide) ?_
            first
              | exact awB_1 e_Mo_isOf_34 (isOfN_iff.2 (by omega)) hQ
              | exact awB_0 e_Mo_isOf_34 (fun q => by have q2 := isOfN_iff.1 q; omega) hQ
          · refine aw_iload_n e_Mo_isOf_24 rfl ?_
            refine aw_iconst (v := nI 5) e_Mo_isOf_25 (by decide) ?_
            refine awN_icmp_ne e_Mo_isOf_26 (by omega) (by omega) (fun h26 => ?_) (fun h26 => ?_)
            · refine aw_iconst (v := nI 0) e_Mo_isOf_33 (by decide) ?_
              first
                | exact awB_1 e_Mo_isOf_34 (isOfN_iff.2 (by omega)) hQ
                | exact awB_0 e_Mo_isOf_34 (fun q => by have q2 := isOfN_iff.1 q; omega) hQ
            · refine aw_iconst (v := nI 1) e_Mo_isOf_29 (by decide) ?_
              refine aw_goto e_Mo_isOf_30 ?_
              first
                | exact awB_1 e_Mo_isOf_34 (isOfN_iff.2 (by omega)) hQ
                | exact awB_0 e_Mo_isOf_34 (fun q => by have q2 := isOfN_iff.1 q; omega) hQ
theorem c_Mo_told {l : Launch} {E : En} {d : Nat} {I : It} {L : Lt} {R : Rt} {Z : Zt} {Q : Qt} {S : AS} (hS : Sta R) (hM : MSt I S) (hA : AWF S) {x y : Int32} (hQ : ∀ I2 L2, MSt I2 (op_told S x y).1 → fK I I2 → Q (some (vi (op_told S x y).2)) I2 L2 R Z) : AMet l E (d + 3) M_Mo_told [vr 9 0, vi x, vi y] I L R Z Q := by
  have hC := hM.1
  have hW := hA.1.1
  have hnb := hW.1.2.1
  have hnp := hW.1.1
  have hnx := hW.1.2.2.1
  have hns := hW.1.2.2.2
  refine AMet.of mf_Mo_told rfl (Nat.le_of_ble_eq_true rfl) ?_
  refine aw_aload_n e_Mo_told_0 rfl ?_
  refine aw_iload_n e_Mo_told_1 rfl ?_
  refine aw_cV1 e_Mo_told_2 ml_Mo_122 mf_Mo_isPart mv_Mo_isPart (c_Mo_isPart hS hC hW ?_)
  refine awB_ne e_Mo_told_5 (fun h5 => ?_) (fun h5 => ?_)
  · obtain ⟨p, hp, rfl⟩ := inR_nI h5
    have hv := hW.2.1 p hp
    have hen := ends_le (V := sM S) p
    refine aw_aload_n e_Mo_told_11 rfl ?_
    refine aw_iload_n e_Mo_told_12 rfl ?_
    refine aw_cV1 e_Mo_told_13 ml_Mo_79 mf_Mo_partAt mv_Mo_partAt (c_Mo_partAt ?_)
    refine aw_ist3 e_Mo_told_16 ?_
    refine aw_iload_n e_Mo_told_17 rfl ?_
    by_cases hts : inR y 7
    · obtain ⟨j, hj, rfl⟩ := inR_nI hts
      have hj7 : j = 0 ∨ j = 1 ∨ j = 2 ∨ j = 3 ∨ j = 4 ∨ j = 5 ∨ j = 6 := by omega
      rcases hj7 with rfl | rfl | rfl | rfl | rfl | rfl | rfl
      · refine aw_tsIn e_Mo_told_18 (tgt := 60) (by decide) (by decide) rfl rfl ?_
        refine aw_aload_n e_Mo_told_60 rfl ?_
        refine aw_getR e_Mo_told_61 fl_Mo_7 (hS.1 _ _ _ _ rfl) ?_
        refine aw_iload_n e_Mo_told_64 rfl ?_
        refine aw_iload_n e_Mo_told_65 rfl ?_
        first | refine awN_iadd e_Mo_told_66 ?_ | refine aw_iadd e_Mo_told_66 ?_
        refine aw_ialE e_Mo_told_67 rfl (show _ < 3110 by omega) (by omega) (by first | exact hC.1.1 | exact hC.1.2.1 | exact hC.1.2.2.1 | exact hC.1.2.2.2 | exact hC.pk (by omega) | exact hC.2.1 _ _ (by omega) (by decide) | exact hC.2.2.1 _ (by omega) | exact hC.2.2.2.1 _ (by omega)) ?_
        have hq := hQ I L hM fK_0
        unfold op_told at hq
        rw [if_pos h5, if_pos hts, ix_n (j := p) (by omega), ix_n (by decide)] at hq
        exact aw_iret e_Mo_told_68 rfl rfl hq
      · refine aw_tsIn e_Mo_told_18 (tgt := 60) (by decide) (by decide) rfl rfl ?_
        refine aw_aload_n e_Mo_told_60 rfl ?_
        refine aw_getR e_Mo_told_61 fl_Mo_7 (hS.1 _ _ _ _ rfl) ?_
        refine aw_iload_n e_Mo_told_64 rfl ?_
        refine aw_iload_n e_Mo_told_65 rfl ?_
        first | refine awN_iadd e_Mo_told_66 ?_ | refine aw_iadd e_Mo_told_66 ?_
        refine aw_ialE e_Mo_told_67 rfl (show _ < 3110 by omega) (by omega) (by first | exact hC.1.1 | exact hC.1.2.1 | exact hC.1.2.2.1 | exact hC.1.2.2.2 | exact hC.pk (by omega) | exact hC.2.1 _ _ (by omega) (by decide) | exact hC.2.2.1 _ (by omega) | exact hC.2.2.2.1 _ (by omega)) ?_
        have hq := hQ I L hM fK_0
        unfold op_told at hq
        rw [if_pos h5, if_pos hts, ix_n (j := p) (by omega), ix_n (by decide)] at hq
        exact aw_iret e_Mo_told_68 rfl rfl hq
      · refine aw_tsIn e_Mo_told_18 (tgt := 69) (by decide) (by decide) rfl rfl ?_
        refine aw_bipush (v := nI 10) e_Mo_told_69 (by decide) ?_
        refine aw_aload_n e_Mo_told_71 rfl ?_
        refine aw_getR e_Mo_told_72 fl_Mo_7 (hS.1 _ _ _ _ rfl) ?_
        refine aw_iload_n e_Mo_told_75 rfl ?_
        refine aw_iconst (v := nI 2) e_Mo_told_76 (by decide) ?_
        first | refine awN_iadd e_Mo_told_77 ?_ | refine aw_iadd e_Mo_told_77 ?_
        refine aw_ialE e_Mo_told_78 rfl (show _ < 3110 by omega) (by omega) (by first | exact hC.1.1 | exact hC.1.2.1 | exact hC.1.2.2.1 | exact hC.1.2.2.2 | exact hC.pk (by omega) | exact hC.2.1 _ _ (by omega) (by decide) | exact hC.2.2.1 _ (by omega) | exact hC.2.2.2.1 _ (by omega)) ?_
        first | refine awN_imul e_Mo_told_79 ?_ | refine aw_imul e_Mo_told_79 ?_
        refine aw_aload_n e_Mo_told_80 rfl ?_
        refine aw_getR e_Mo_told_81 fl_Mo_7 (hS.1 _ _ _ _ rfl) ?_
        refine aw_iload_n e_Mo_told_84 rfl ?_
        refine aw_iconst (v := nI 3) e_Mo_told_85 (by decide) ?_
        first | refine awN_iadd e_Mo_told_86 ?_ | refine aw_iadd e_Mo_told_86 ?_
        refine aw_ialE e_Mo_told_87 rfl (show _ < 3110 by omega) (by omega) (by first | exact hC.1.1 | exact hC.1.2.1 | exact hC.1.2.2.1 | exact hC.1.2.2.2 | exact hC.pk (by omega) | exact hC.2.1 _ _ (by omega) (by decide) | exact hC.2.2.1 _ (by omega) | exact hC.2.2.2.1 _ (by omega)) ?_
        first | refine awN_iadd e_Mo_told_88 ?_ | refine aw_iadd e_Mo_told_88 ?_
        have hq := hQ I L hM fK_0
        unfold op_told at hq
        rw [if_pos h5, if_pos hts, ix_n (j := p) (by omega), ix_n (by decide)] at hq
        exact aw_iret e_Mo_told_89 rfl rfl hq
      · refine aw_tsIn e_Mo_told_18 (tgt := 90) (by decide) (by decide) rfl rfl ?_
        refine aw_aload_n e_Mo_told_90 rfl ?_
        refine aw_getR e_Mo_told_91 fl_Mo_7 (hS.1 _ _ _ _ rfl) ?_
        refine aw_iload_n e_Mo_told_94 rfl ?_
        refine aw_iconst (v := nI 4) e_Mo_told_95 (by decide) ?_
        first | refine awN_iadd e_Mo_told_96 ?_ | refine aw_iadd e_Mo_told_96 ?_
        refine aw_ialE e_Mo_told_97 rfl (show _ < 3110 by omega) (by omega) (by first | exact hC.1.1 | exact hC.1.2.1 | exact hC.1.2.2.1 | exact hC.1.2.2.2 | exact hC.pk (by omega) | exact hC.2.1 _ _ (by omega) (by decide) | exact hC.2.2.1 _ (by omega) | exact hC.2.2.2.1 _ (by omega)) ?_
        have hq := hQ I L hM fK_0
        unfold op_told at hq
        rw [if_pos h5, if_pos hts, ix_n (j := p) (by omega), ix_n (by decide)] at hq
        exact aw_iret e_Mo_told_98 rfl rfl hq
      · refine aw_tsIn e_Mo_told_18 (tgt := 99) (by decide) (by decide) rfl rfl ?_
        refine aw_aload_n e_Mo_told_99 rfl ?_
        refine aw_iload_n e_Mo_told_100 rfl ?_
        refine aw_cV1 e_Mo_told_101 ml_Mo_113 mf_Mo_endsOf mv_Mo_endsOf (c_Mo_endsOf hS hC hW (by omega) ?_)
        have hq := hQ I L hM fK_0
        unfold op_told at hq
        rw [if_pos h5, if_pos hts, ix_n (j := p) (by omega), ix_n (by decide)] at hq
        exact aw_iret e_Mo_told_104 rfl rfl hq
      · refine aw_tsIn e_Mo_told_18 (tgt := 105) (by decide) (by decide) rfl rfl ?_
        refine aw_aload_n e_Mo_told_105 rfl ?_
        refine aw_iload_n e_Mo_told_106 rfl ?_
        refine aw_cV1 e_Mo_told_107 ml_Mo_119 mf_Mo_hasEnds mv_Mo_hasEnds (c_Mo_hasEnds hS hC hW hp ?_)
        refine awB_eq e_Mo_told_110 (fun h110 => ?_) (fun h110 => ?_)
        · refine aw_iconst (v := nI 0) e_Mo_told_117 (by decide) ?_
          have hq := hQ I L hM fK_0
          unfold op_told at hq
          rw [if_pos h5, if_pos hts, ix_n (j := p) (by omega), ix_n (by decide)] at hq
          first
            | exact awB_1 e_Mo_told_118 h110 hq
            | exact awB_0 e_Mo_told_118 h110 hq
        · refine aw_iconst (v := nI 1) e_Mo_told_113 (by decide) ?_
          refine aw_goto e_Mo_told_114 ?_
          have hq := hQ I L hM fK_0
          unfold op_told at hq
          rw [if_pos h5, if_pos hts, ix_n (j := p) (by omega), ix_n (by decide)] at hq
          first
            | exact awB_1 e_Mo_told_118 h110 hq
            | exact awB_0 e_Mo_told_118 h110 hq
      · refine aw_tsIn e_Mo_told_18 (tgt := 119) (by decide) (by decide) rfl rfl ?_
        refine aw_aload_n e_Mo_told_119 rfl ?_
        refine aw_getR e_Mo_told_120 fl_Mo_7 (hS.1 _ _ _ _ rfl) ?_
        refine aw_iload_n e_Mo_told_123 rfl ?_
        refine aw_iconst (v := nI 2) e_Mo_told_124 (by decide) ?_
        first | refine awN_iadd e_Mo_told_125 ?_ | refine aw_iadd e_Mo_told_125 ?_
        refine aw_ialE e_Mo_told_126 rfl (show _ < 3110 by omega) (by omega) (by first | exact hC.1.1 | exact hC.1.2.1 | exact hC.1.2.2.1 | exact hC.1.2.2.2 | exact hC.pk (by omega) | exact hC.2.1 _ _ (by omega) (by decide) | exact hC.2.2.1 _ (by omega) | exact hC.2.2.2.1 _ (by omega)) ?_
        refine aw_aload_n e_Mo_told_127 rfl ?_
        refine aw_getR e_Mo_told_128 fl_Mo_7 (hS.1 _ _ _ _ rfl) ?_
        refine aw_iload_n e_Mo_told_131 rfl ?_
        refine aw_iconst (v := nI 3) e_Mo_told_132 (by decide) ?_
        first | refine awN_iadd e_Mo_told_133 ?_ | refine aw_iadd e_Mo_told_133 ?_
        refine aw_ialE e_Mo_told_134 rfl (show _ < 3110 by omega) (by omega) (by first | exact hC.1.1 | exact hC.1.2.1 | exact hC.1.2.2.1 | exact hC.1.2.2.2 | exact hC.pk (by omega) | exact hC.2.1 _ _ (by omega) (by decide) | exact hC.2.2.1 _ (by omega) | exact hC.2.2.2.1 _ (by omega)) ?_
        refine aw_cS2 e_Mo_told_135 ml_Mo_125 mf_Mo_shareOf ms_Mo_shareOf (c_Mo_shareOf (by omega) (by omega) ?_)
        refine awN_l2i e_Mo_told_138 ?_
        have hq := hQ I L hM fK_0
        unfold op_told at hq
        rw [if_pos h5, if_pos hts, ix_n (j := p) (by omega), ix_n (by decide)] at hq
        exact aw_iret e_Mo_told_139 rfl rfl hq
    · refine aw_tsOut e_Mo_told_18 (tgt := 140) (by unfold inR at hts; omega) rfl ?_
      refine aw_ldc (v := -1000000001) e_Mo_told_140 kc_Mo_89 ?_
      have hq := hQ I L hM fK_0
      unfold op_told at hq
      rw [if_pos h5, if_neg hts] at hq
      exact aw_iret e_Mo_told_142 rfl rfl hq
  · refine aw_ldc (v := -1000000001) e_Mo_told_8 kc_Mo_89 ?_
    have hq := hQ I L hM fK_0
    unfold op_told at hq
    first
      | (rw [if_neg h5] at hq; exact aw_iret e_Mo_told_10 rfl rfl hq)
theorem c_Mo_as {l : Launch} {E : En} {d : Nat} {I : It} {L : Lt} {R : Rt} {Z : Zt} {Q : Qt} {S : AS} (hS : Sta R) (hM : MSt I S) (hA : AWF S) {x y : Int32} (hQ : ∀ I2 L2, MSt I2 (op_as S x y).1 → fK I I2 → Q (some (vi (op_as S x y).2)) I2 L2 R Z) : AMet l E (d + 2) M_Mo_as [vr 9 0, vi x, vi y] I L R Z Q := by
  have hC := hM.1
  have hW := hA.1.1
  have hnb := hW.1.2.1
  have hnp := hW.1.1
  have hnx := hW.1.2.2.1
  have hns := hW.1.2.2.2
  refine AMet.of mf_Mo_as rfl (Nat.le_of_ble_eq_true rfl) ?_
  refine aw_aload_n e_Mo_as_0 rfl ?_
  refine aw_iload_n e_Mo_as_1 rfl ?_
  refine aw_cV1 e_Mo_as_2 ml_Mo_122 mf_Mo_isPart mv_Mo_isPart (c_Mo_isPart hS hC hW ?_)
  refine awB_eq e_Mo_as_5 (fun h5 => ?_) (fun h5 => ?_)
  · refine aw_ldc (v := -1000000001) e_Mo_as_20 kc_Mo_89 ?_
    have hq := hQ I L hM fK_0
    unfold op_as at hq
    first
      | (rw [if_neg (fun z => h5 z.1)] at hq; exact aw_iret e_Mo_as_22 rfl rfl hq)
      | (rw [if_neg (fun z => h17 ⟨z.2.1, by have := z.2.2; omega⟩)] at hq; exact aw_iret e_Mo_as_22 rfl rfl hq)
  · refine aw_iload_n e_Mo_as_8 rfl ?_
    refine aw_i2l e_Mo_as_9 ?_
    refine aw_lconst (v := lN 0) e_Mo_as_10 rfl ?_
    refine aw_ldc2 (v := lN 5) e_Mo_as_11 kl_Mo_102 ?_
    refine aw_cS3 e_Mo_as_14 ml_Mo_75 mf_Mo_isIn ms_Mo_isIn (c_Mo_isInC (by decide) (by decide) ?_)
    refine awB_ne e_Mo_as_17 (fun h17 => ?_) (fun h17 => ?_)
    · have hg : inR x (nP (sM S)) ∧ inR y 6 := ⟨h5, by omega, by omega⟩
      obtain ⟨p, hp, rfl⟩ := inR_nI hg.1
      obtain ⟨k, hk, rfl⟩ := inR_nI hg.2
      have hv := hW.2.1 p hp
      refine aw_aload_n e_Mo_as_23 rfl ?_
      refine aw_iload_n e_Mo_as_24 rfl ?_
      refine aw_cV1 e_Mo_as_25 ml_Mo_116 mf_Mo_kindOf mv_Mo_kindOf (c_Mo_kindOf hS hC hW hp ?_)
      refine aw_iload_n e_Mo_as_28 rfl ?_
      refine aw_cS2 e_Mo_as_29 ml_Mo_129 mf_Mo_isOf ms_Mo_isOf (c_Mo_isOf hv.1 hk ?_)
      refine awB_eq e_Mo_as_32 (fun h32 => ?_) (fun h32 => ?_)
      · refine aw_ldc (v := -1000000012) e_Mo_as_50 kc_Mo_133 ?_
        have hq := hQ I L hM fK_0
        unfold op_as at hq
        first
          | (rw [if_pos hg, ix_n (j := p) (by omega), ix_n (j := k) (by omega), if_pos h32] at hq; exact aw_iret e_Mo_as_52 rfl rfl hq)
          | (rw [if_pos hg, ix_n (j := p) (by omega), ix_n (j := k) (by omega), if_neg h32] at hq; exact aw_iret e_Mo_as_52 rfl rfl hq)
      · refine aw_aload_n e_Mo_as_35 rfl ?_
        refine aw_getR e_Mo_as_36 fl_Mo_7 (hS.1 _ _ _ _ rfl) ?_
        refine aw_aload_n e_Mo_as_39 rfl ?_
        refine aw_iload_n e_Mo_as_40 rfl ?_
        refine aw_cV1 e_Mo_as_41 ml_Mo_79 mf_Mo_partAt mv_Mo_partAt (c_Mo_partAt ?_)
        refine aw_iconst (v := nI 4) e_Mo_as_44 (by decide) ?_
        first | refine awN_iadd e_Mo_as_45 ?_ | refine aw_iadd e_Mo_as_45 ?_
        refine aw_ialE e_Mo_as_46 rfl (show _ < 3110 by omega) (by omega) (by first | exact hC.1.1 | exact hC.1.2.1 | exact hC.1.2.2.1 | exact hC.1.2.2.2 | exact hC.pk (by omega) | exact hC.2.1 _ _ (by omega) (by decide) | exact hC.2.2.1 _ (by omega) | exact hC.2.2.2.1 _ (by omega)) ?_
        refine aw_goto e_Mo_as_47 ?_
        have hq := hQ I L hM fK_0
        unfold op_as at hq
        first
          | (rw [if_pos hg, ix_n (j := p) (by omega), ix_n (j := k) (by omega), if_pos h32] at hq; exact aw_iret e_Mo_as_52 rfl rfl hq)
          | (rw [if_pos hg, ix_n (j := p) (by omega), ix_n (j := k) (by omega), if_neg h32] at hq; exact aw_iret e_Mo_as_52 rfl rfl hq)
    · refine aw_ldc (v := -1000000001) e_Mo_as_20 kc_Mo_89 ?_
      have hq := hQ I L hM fK_0
      unfold op_as at hq
      first
        | (rw [if_neg (fun z => h5 z.1)] at hq; exact aw_iret e_Mo_as_22 rfl rfl hq)
        | (rw [if_neg (fun z => h17 ⟨z.2.1, by have := z.2.2; omega⟩)] at hq; exact aw_iret e_Mo_as_22 rfl rfl hq)
theorem c_Mo_set {l : Launch} {E : En} {d : Nat} {I : It} {L : Lt} {R : Rt} {Z : Zt} {Q : Qt} {S : AS} (hS : Sta R) (hM : MSt I S) (hA : AWF S) {x y z : Int32} (hQ : ∀ I2 L2, MSt I2 (op_set S x y z).1 → fK I I2 → Q (some (vi (op_set S x y z).2)) I2 L2 R Z) : AMet l E (d + 2) M_Mo_set [vr 9 0, vi x, vi y, vi z] I L R Z Q := by
  have hC := hM.1
  have hW := hA.1.1
  have hnb := hW.1.2.1
  have hnp := hW.1.1
  have hnx := hW.1.2.2.1
  have hns := hW.1.2.2.2
  refine AMet.of mf_Mo_set rfl (Nat.le_of_ble_eq_true rfl) ?_
  have hT2 : (nI 2).toInt = 2 := by decide
  have hT3 : (nI 3).toInt = 3 := by decide
  refine aw_aload_n e_Mo_set_0 rfl ?_
  refine aw_iload_n e_Mo_set_1 rfl ?_
  refine aw_cV1 e_Mo_set_2 ml_Mo_122 mf_Mo_isPart mv_Mo_isPart (c_Mo_isPart hS hC hW ?_)
  refine awB_eq e_Mo_set_5 (fun h5 => ?_) (fun h5 => ?_)
  · refine aw_ldc (v := -1000000001) e_Mo_set_34 kc_Mo_89 ?_
    have hq := hQ I L
    unfold op_set at hq
    first
      | (rw [if_neg h5] at hq; exact aw_iret e_Mo_set_36 rfl rfl (hq hM fK_0))
      | (rw [if_pos h5, if_neg (fun w => h31 w.2), if_neg (fun w => absurd (h24.symm.trans w) (by decide))] at hq; exact aw_iret e_Mo_set_36 rfl rfl (hq hM fK_0))
      | (rw [if_pos h5, if_neg (fun w => h19 (by rw [w.1, hT2]; decide)), if_neg (fun w => h19 (by rw [w, hT3]; decide))] at hq; exact aw_iret e_Mo_set_36 rfl rfl (hq hM fK_0))
  · refine aw_iload_n e_Mo_set_8 rfl ?_
    refine aw_i2l e_Mo_set_9 ?_
    refine aw_ldc2 (v := lN 2) e_Mo_set_10 kl_Mo_87 ?_
    refine aw_ldc2 (v := lN 3) e_Mo_set_13 kl_Mo_134 ?_
    refine aw_cS3 e_Mo_set_16 ml_Mo_75 mf_Mo_isIn ms_Mo_isIn (c_Mo_isInC (by decide) (by decide) ?_)
    refine awB_eq e_Mo_set_19 (fun h19 => ?_) (fun h19 => ?_)
    · refine aw_ldc (v := -1000000001) e_Mo_set_34 kc_Mo_89 ?_
      have hq := hQ I L
      unfold op_set at hq
      first
        | (rw [if_neg h5] at hq; exact aw_iret e_Mo_set_36 rfl rfl (hq hM fK_0))
        | (rw [if_pos h5, if_neg (fun w => h31 w.2), if_neg (fun w => absurd (h24.symm.trans w) (by decide))] at hq; exact aw_iret e_Mo_set_36 rfl rfl (hq hM fK_0))
        | (rw [if_pos h5, if_neg (fun w => h19 (by rw [w.1, hT2]; decide)), if_neg (fun w => h19 (by rw [w, hT3]; decide))] at hq; exact aw_iret e_Mo_set_36 rfl rfl (hq hM fK_0))
    · refine aw_iload_n e_Mo_set_22 rfl ?_
      refine aw_iconst (v := nI 2) e_Mo_set_23 (by decide) ?_
      refine aw_icmp_ne e_Mo_set_24 (fun h24 => ?_) (fun h24 => ?_)
      · obtain ⟨p, hp, rfl⟩ := inR_nI h5
        have hvv := hW.2.1 p hp
        refine aw_aload_n e_Mo_set_37 rfl ?_
        refine aw_iload_n e_Mo_set_38 rfl ?_
        refine aw_cV1 e_Mo_set_39 ml_Mo_79 mf_Mo_partAt mv_Mo_partAt (c_Mo_partAt ?_)
        refine aw_ist4 e_Mo_set_42 ?_
        refine aw_iload_n e_Mo_set_44 rfl ?_
        refine aw_iconst (v := nI 3) e_Mo_set_45 (by decide) ?_
        refine aw_icmp_ne e_Mo_set_46 (fun h46 => ?_) (fun h46 => ?_)
        · have hy3 : ¬ y.toInt = 3 := fun w => h46 (i_eq.mpr (by rw [w, hT3]))
          have hy2 : y = nI 2 := i_eq.mpr (by rw [hT2]; omega)
          have hzs : isSh z := by first | exact h31 | exact absurd hy2 h24
          obtain ⟨v, hv0, rfl⟩ := inR_nI (x := z) (n := 100) ⟨by have := hzs.1; omega, by have := hzs.2.1; omega⟩
          refine aw_bipush (v := nI 10) e_Mo_set_64 (by decide) ?_
          refine aw_aload_n e_Mo_set_66 rfl ?_
          refine aw_getR e_Mo_set_67 fl_Mo_7 (hS.1 _ _ _ _ rfl) ?_
          refine aw_iload e_Mo_set_70 rfl ?_
          refine aw_iconst (v := nI 2) e_Mo_set_72 (by decide) ?_
          first | refine awN_iadd e_Mo_set_73 ?_ | refine aw_iadd e_Mo_set_73 ?_
          refine aw_ialE e_Mo_set_74 rfl (show _ < 3110 by omega) (by omega) (by first | exact hC.1.1 | exact hC.1.2.1 | exact hC.1.2.2.1 | exact hC.1.2.2.2 | exact hC.pk (by omega) | exact hC.2.1 _ _ (by omega) (by decide) | exact hC.2.2.1 _ (by omega) | exact hC.2.2.2.1 _ (by omega)) ?_
          first | refine awN_imul e_Mo_set_75 ?_ | refine aw_imul e_Mo_set_75 ?_
          refine aw_aload_n e_Mo_set_76 rfl ?_
          refine aw_getR e_Mo_set_77 fl_Mo_7 (hS.1 _ _ _ _ rfl) ?_
          refine aw_iload e_Mo_set_80 rfl ?_
          refine aw_iconst (v := nI 3) e_Mo_set_82 (by decide) ?_
          first | refine awN_iadd e_Mo_set_83 ?_ | refine aw_iadd e_Mo_set_83 ?_
          refine aw_ialE e_Mo_set_84 rfl (show _ < 3110 by omega) (by omega) (by first | exact hC.1.1 | exact hC.1.2.1 | exact hC.1.2.2.1 | exact hC.1.2.2.2 | exact hC.pk (by omega) | exact hC.2.1 _ _ (by omega) (by decide) | exact hC.2.2.1 _ (by omega) | exact hC.2.2.2.1 _ (by omega)) ?_
          first | refine awN_iadd e_Mo_set_85 ?_ | refine aw_iadd e_Mo_set_85 ?_
          refine aw_ist5 e_Mo_set_86 ?_
          refine aw_aload_n e_Mo_set_88 rfl ?_
          refine aw_getR e_Mo_set_89 fl_Mo_7 (hS.1 _ _ _ _ rfl) ?_
          refine aw_iload e_Mo_set_92 rfl ?_
          refine aw_iconst (v := nI 2) e_Mo_set_94 (by decide) ?_
          first | refine awN_iadd e_Mo_set_95 ?_ | refine aw_iadd e_Mo_set_95 ?_
          refine aw_iload_n e_Mo_set_96 rfl ?_
          refine aw_bipush (v := nI 10) e_Mo_set_97 (by decide) ?_
          refine awN_idiv e_Mo_set_99 (by omega) (by omega) (by omega) ?_
          refine aw_iast e_Mo_set_100 rfl (show _ < 3110 by omega) (by omega) ?_
          refine aw_aload_n e_Mo_set_101 rfl ?_
          refine aw_getR e_Mo_set_102 fl_Mo_7 (hS.1 _ _ _ _ rfl) ?_
          refine aw_iload e_Mo_set_105 rfl ?_
          refine aw_iconst (v := nI 3) e_Mo_set_107 (by decide) ?_
          first | refine awN_iadd e_Mo_set_108 ?_ | refine aw_iadd e_Mo_set_108 ?_
          refine aw_iload_n e_Mo_set_109 rfl ?_
          refine aw_bipush (v := nI 10) e_Mo_set_110 (by decide) ?_
          refine awN_irem e_Mo_set_112 (by omega) (by omega) (by omega) ?_
          refine aw_iast e_Mo_set_113 rfl (show _ < 3110 by omega) (by omega) ?_
          refine aw_iload e_Mo_set_114 rfl ?_
          have hf : fM I (sI (sI I 28 0 (10 + 5 * p + 2) (nI (v / 10))) 28 0 (10 + 5 * p + 3) (nI (v % 10))) := fM_w (fM_w fM_0 (by omega)) (by omega)
          have hC2 : MC (sI (sI I 28 0 (10 + 5 * p + 2) (nI (v / 10))) 28 0 (10 + 5 * p + 3) (nI (v % 10))) 0 (setP (sM S) p (gSh (sM S) p v)) := MC_setP hC hW hp (fun n hn => by rw [sI_ne (by omega), sI_ne (by omega)]) (fun f hf => by
            unfold gSh
            by_cases e3 : f = 3
            · rw [if_neg (by omega), if_pos e3, e3, sI_eq]
            · rw [sI_ne (by omega)]
              by_cases e2 : f = 2
              · rw [if_pos e2, e2, sI_eq]
              · rw [if_neg e2, if_neg e3, sI_ne (by omega)]
                exact hC.2.1 p f hp hf)
          have hq := hQ (sI (sI I 28 0 (10 + 5 * p + 2) (nI (v / 10))) 28 0 (10 + 5 * p + 3) (nI (v % 10))) L
          unfold op_set at hq
          rw [if_pos h5, if_pos ⟨hy2, hzs⟩, ix_n (j := p) (by omega), ix_n (j := v) (by omega)] at hq
          exact aw_iret e_Mo_set_116 rfl rfl (hq (hM.mach hf hC2) hf.K)
        · refine aw_aload_n e_Mo_set_49 rfl ?_
          refine aw_iload e_Mo_set_50 rfl ?_
          refine aw_iconst (v := nI 4) e_Mo_set_52 (by decide) ?_
          first | refine awN_iadd e_Mo_set_53 ?_ | refine aw_iadd e_Mo_set_53 ?_
          refine aw_iload_n e_Mo_set_54 rfl ?_
          refine aw_i2l e_Mo_set_55 ?_
          refine aw_cS1 e_Mo_set_56 ml_Mo_90 mf_Mo_worthOf ms_Mo_worthOf (c_Mo_worthI ?_)
          refine awN_l2i e_Mo_set_59 ?_
          refine aw_cV2 e_Mo_set_60 ml_Mo_136 mf_Mo_becomes mv_Mo_becomes (c_Mo_becomes hS (by omega) (hC.2.1 p 4 hp (by decide)) ?_)
          have hf : fM I (sI I 28 0 (10 + 5 * p + 4) (nI (wof z.toInt))) := fM_w fM_0 (by omega)
          have hC2 : MC (sI I 28 0 (10 + 5 * p + 4) (nI (wof z.toInt))) 0 (setP (sM S) p (gHo (sM S) p (wof z.toInt))) := MC_setP hC hW hp (fun n hn => sI_ne (by omega)) (fun f hf => by
            unfold gHo
            by_cases e3 : f = 4
            · rw [if_pos e3, e3, sI_eq]
            · rw [if_neg e3, sI_ne (by omega)]
              exact hC.2.1 p f hp hf)
          have hq := hQ (sI I 28 0 (10 + 5 * p + 4) (nI (wof z.toInt))) L
          unfold op_set at hq
          rw [if_pos h5, if_neg (fun w => absurd (w.1.symm.trans h46) (by decide)), if_pos h46, ix_n (j := p) (by omega)] at hq
          exact aw_iret e_Mo_set_63 rfl rfl (hq (hM.mach hf hC2) hf.K)
      · refine aw_iload_n e_Mo_set_27 rfl ?_
        refine aw_cS1 e_Mo_set_28 ml_Mo_104 mf_Mo_isShare ms_Mo_isShare (c_Mo_isShare ?_)
        refine awB_ne e_Mo_set_31 (fun h31 => ?_) (fun h31 => ?_)
        · obtain ⟨p, hp, rfl⟩ := inR_nI h5
          have hvv := hW.2.1 p hp
          refine aw_aload_n e_Mo_set_37 rfl ?_
          refine aw_iload_n e_Mo_set_38 rfl ?_
          refine aw_cV1 e_Mo_set_39 ml_Mo_79 mf_Mo_partAt mv_Mo_partAt (c_Mo_partAt ?_)
          refine aw_ist4 e_Mo_set_42 ?_
          refine aw_iload_n e_Mo_set_44 rfl ?_
          refine aw_iconst (v := nI 3) e_Mo_set_45 (by decide) ?_
          refine aw_icmp_ne e_Mo_set_46 (fun h46 => ?_) (fun h46 => ?_)
          · have hy3 : ¬ y.toInt = 3 := fun w => h46 (i_eq.mpr (by rw [w, hT3]))
            have hy2 : y = nI 2 := i_eq.mpr (by rw [hT2]; omega)
            have hzs : isSh z := by first | exact h31 | exact absurd hy2 h24
            obtain ⟨v, hv0, rfl⟩ := inR_nI (x := z) (n := 100) ⟨by have := hzs.1; omega, by have := hzs.2.1; omega⟩
            refine aw_bipush (v := nI 10) e_Mo_set_64 (by decide) ?_
            refine aw_aload_n e_Mo_set_66 rfl ?_
            refine aw_getR e_Mo_set_67 fl_Mo_7 (hS.1 _ _ _ _ rfl) ?_
            refine aw_iload e_Mo_set_70 rfl ?_
            refine aw_iconst (v := nI 2) e_Mo_set_72 (by decide) ?_
            first | refine awN_iadd e_Mo_set_73 ?_ | refine aw_iadd e_Mo_set_73 ?_
            refine aw_ialE e_Mo_set_74 rfl (show _ < 3110 by omega) (by omega) (by first | exact hC.1.1 | exact hC.1.2.1 | exact hC.1.2.2.1 | exact hC.1.2.2.2 | exact hC.pk (by omega) | exact hC.2.1 _ _ (by omega) (by decide) | exact hC.2.2.1 _ (by omega) | exact hC.2.2.2.1 _ (by omega)) ?_
            first | refine awN_imul e_Mo_set_75 ?_ | refine aw_imul e_Mo_set_75 ?_
            refine aw_aload_n e_Mo_set_76 rfl ?_
            refine aw_getR e_Mo_set_77 fl_Mo_7 (hS.1 _ _ _ _ rfl) ?_
            refine aw_iload e_Mo_set_80 rfl ?_
            refine aw_iconst (v := nI 3) e_Mo_set_82 (by decide) ?_
            first | refine awN_iadd e_Mo_set_83 ?_ | refine aw_iadd e_Mo_set_83 ?_
            refine aw_ialE e_Mo_set_84 rfl (show _ < 3110 by omega) (by omega) (by first | exact hC.1.1 | exact hC.1.2.1 | exact hC.1.2.2.1 | exact hC.1.2.2.2 | exact hC.pk (by omega) | exact hC.2.1 _ _ (by omega) (by decide) | exact hC.2.2.1 _ (by omega) | exact hC.2.2.2.1 _ (by omega)) ?_
            first | refine awN_iadd e_Mo_set_85 ?_ | refine aw_iadd e_Mo_set_85 ?_
            refine aw_ist5 e_Mo_set_86 ?_
            refine aw_aload_n e_Mo_set_88 rfl ?_
            refine aw_getR e_Mo_set_89 fl_Mo_7 (hS.1 _ _ _ _ rfl) ?_
            refine aw_iload e_Mo_set_92 rfl ?_
            refine aw_iconst (v := nI 2) e_Mo_set_94 (by decide) ?_
            first | refine awN_iadd e_Mo_set_95 ?_ | refine aw_iadd e_Mo_set_95 ?_
            refine aw_iload_n e_Mo_set_96 rfl ?_
            refine aw_bipush (v := nI 10) e_Mo_set_97 (by decide) ?_
            refine awN_idiv e_Mo_set_99 (by omega) (by omega) (by omega) ?_
            refine aw_iast e_Mo_set_100 rfl (show _ < 3110 by omega) (by omega) ?_
            refine aw_aload_n e_Mo_set_101 rfl ?_
            refine aw_getR e_Mo_set_102 fl_Mo_7 (hS.1 _ _ _ _ rfl) ?_
            refine aw_iload e_Mo_set_105 rfl ?_
            refine aw_iconst (v := nI 3) e_Mo_set_107 (by decide) ?_
            first | refine awN_iadd e_Mo_set_108 ?_ | refine aw_iadd e_Mo_set_108 ?_
            refine aw_iload_n e_Mo_set_109 rfl ?_
            refine aw_bipush (v := nI 10) e_Mo_set_110 (by decide) ?_
            refine awN_irem e_Mo_set_112 (by omega) (by omega) (by omega) ?_
            refine aw_iast e_Mo_set_113 rfl (show _ < 3110 by omega) (by omega) ?_
            refine aw_iload e_Mo_set_114 rfl ?_
            have hf : fM I (sI (sI I 28 0 (10 + 5 * p + 2) (nI (v / 10))) 28 0 (10 + 5 * p + 3) (nI (v % 10))) := fM_w (fM_w fM_0 (by omega)) (by omega)
            have hC2 : MC (sI (sI I 28 0 (10 + 5 * p + 2) (nI (v / 10))) 28 0 (10 + 5 * p + 3) (nI (v % 10))) 0 (setP (sM S) p (gSh (sM S) p v)) := MC_setP hC hW hp (fun n hn => by rw [sI_ne (by omega), sI_ne (by omega)]) (fun f hf => by
              unfold gSh
              by_cases e3 : f = 3
              · rw [if_neg (by omega), if_pos e3, e3, sI_eq]
              · rw [sI_ne (by omega)]
                by_cases e2 : f = 2
                · rw [if_pos e2, e2, sI_eq]
                · rw [if_neg e2, if_neg e3, sI_ne (by omega)]
                  exact hC.2.1 p f hp hf)
            have hq := hQ (sI (sI I 28 0 (10 + 5 * p + 2) (nI (v / 10))) 28 0 (10 + 5 * p + 3) (nI (v % 10))) L
            unfold op_set at hq
            rw [if_pos h5, if_pos ⟨hy2, hzs⟩, ix_n (j := p) (by omega), ix_n (j := v) (by omega)] at hq
            exact aw_iret e_Mo_set_116 rfl rfl (hq (hM.mach hf hC2) hf.K)
          · refine aw_aload_n e_Mo_set_49 rfl ?_
            refine aw_iload e_Mo_set_50 rfl ?_
            refine aw_iconst (v := nI 4) e_Mo_set_52 (by decide) ?_
            first | refine awN_iadd e_Mo_set_53 ?_ | refine aw_iadd e_Mo_set_53 ?_
            refine aw_iload_n e_Mo_set_54 rfl ?_
            refine aw_i2l e_Mo_set_55 ?_
            refine aw_cS1 e_Mo_set_56 ml_Mo_90 mf_Mo_worthOf ms_Mo_worthOf (c_Mo_worthI ?_)
            refine awN_l2i e_Mo_set_59 ?_
            refine aw_cV2 e_Mo_set_60 ml_Mo_136 mf_Mo_becomes mv_Mo_becomes (c_Mo_becomes hS (by omega) (hC.2.1 p 4 hp (by decide)) ?_)
            have hf : fM I (sI I 28 0 (10 + 5 * p + 4) (nI (wof z.toInt))) := fM_w fM_0 (by omega)
            have hC2 : MC (sI I 28 0 (10 + 5 * p + 4) (nI (wof z.toInt))) 0 (setP (sM S) p (gHo (sM S) p (wof z.toInt))) := MC_setP hC hW hp (fun n hn => sI_ne (by omega)) (fun f hf => by
              unfold gHo
              by_cases e3 : f = 4
              · rw [if_pos e3, e3, sI_eq]
              · rw [if_neg e3, sI_ne (by omega)]
                exact hC.2.1 p f hp hf)
            have hq := hQ (sI I 28 0 (10 + 5 * p + 4) (nI (wof z.toInt))) L
            unfold op_set at hq
            rw [if_pos h5, if_neg (fun w => absurd (w.1.symm.trans h46) (by decide)), if_pos h46, ix_n (j := p) (by omega)] at hq
            exact aw_iret e_Mo_set_63 rfl rfl (hq (hM.mach hf hC2) hf.K)
        · refine aw_ldc (v := -1000000001) e_Mo_set_34 kc_Mo_89 ?_
          have hq := hQ I L
          unfold op_set at hq
          first
            | (rw [if_neg h5] at hq; exact aw_iret e_Mo_set_36 rfl rfl (hq hM fK_0))
            | (rw [if_pos h5, if_neg (fun w => h31 w.2), if_neg (fun w => absurd (h24.symm.trans w) (by decide))] at hq; exact aw_iret e_Mo_set_36 rfl rfl (hq hM fK_0))
            | (rw [if_pos h5, if_neg (fun w => h19 (by rw [w.1, hT2]; decide)), if_neg (fun w => h19 (by rw [w, hT3]; decide))] at hq; exact aw_iret e_Mo_set_36 rfl rfl (hq hM fK_0))
