/-! ===== the model's calls, 4 ===== -/
theorem strV_c (V : Mc) : (strV V 0 = -1000000002 ∧ ¬ whole V = true) ∨ (strV V 0 = -1000000007 ∧ whole V = true ∧ (svS V (2 ^ nB V)).1 = 0) ∨ (strV V 0 = nI (svS V (2 ^ nB V)).2.1 ∧ whole V = true ∧ ¬ (svS V (2 ^ nB V)).1 = 0) := by
  unfold strV
  by_cases h : whole V = true
  · rw [if_pos h, if_neg (show ¬ (0 : Nat) = 3 by decide)]
    by_cases h2 : (svS V (2 ^ nB V)).1 = 0
    · rw [if_pos h2]; exact Or.inr (Or.inl ⟨rfl, h, h2⟩)
    · rw [if_neg h2, if_pos rfl]; exact Or.inr (Or.inr ⟨rfl, h, h2⟩)
  · rw [if_neg h]; exact Or.inl ⟨rfl, h⟩
theorem c_Mo_of {l : Launch} {E : En} {d : Nat} {I : It} {L : Lt} {R : Rt} {Z : Zt} {Q : Qt} {S : AS} (hS : Sta R) (hM : MSt I S) (hA : AWF S) {x y : Int32} (hQ : ∀ I2 L2, MSt I2 (op_of S x y).1 → fK I I2 → Q (some (vi (op_of S x y).2)) I2 L2 R Z) : AMet l E (d + 5) M_Mo_of [vr 9 0, vi x, vi y] I L R Z Q := by
  have hC := hM.1
  have hW := hA.1.1
  have hnb := hW.1.2.1
  have hnp := hW.1.1
  have hnx := hW.1.2.2.1
  have hns := hW.1.2.2.2
  refine AMet.of mf_Mo_of rfl (Nat.le_of_ble_eq_true rfl) ?_
  refine aw_aload_n e_Mo_of_0 rfl ?_
  refine aw_iload_n e_Mo_of_1 rfl ?_
  refine aw_cV1 e_Mo_of_2 ml_Mo_139 mf_Mo_isBond mv_Mo_isBond (c_Mo_isBond hS hC hW ?_)
  refine awB_eq e_Mo_of_5 (fun h5 => ?_) (fun h5 => ?_)
  · refine aw_ldc (v := -1000000001) e_Mo_of_20 kc_Mo_89 ?_
    have hq := hQ I L hM fK_0
    unfold op_of at hq
    first
      | (rw [if_neg (fun w => h5 w.1)] at hq; exact aw_iret e_Mo_of_22 rfl rfl hq)
      | (rw [if_neg (fun w => h17 ⟨w.2.1, by have := w.2.2; omega⟩)] at hq; exact aw_iret e_Mo_of_22 rfl rfl hq)
  · refine aw_iload_n e_Mo_of_8 rfl ?_
    refine aw_i2l e_Mo_of_9 ?_
    refine aw_lconst (v := lN 0) e_Mo_of_10 rfl ?_
    refine aw_ldc2 (v := lN 5) e_Mo_of_11 kl_Mo_102 ?_
    refine aw_cS3 e_Mo_of_14 ml_Mo_75 mf_Mo_isIn ms_Mo_isIn (c_Mo_isInC (by decide) (by decide) ?_)
    refine awB_ne e_Mo_of_17 (fun h17 => ?_) (fun h17 => ?_)
    · have hg : inR x (nB (sM S)) ∧ inR y 6 := ⟨h5, by omega, by omega⟩
      obtain ⟨b, hb, rfl⟩ := inR_nI hg.1
      obtain ⟨j, hj, rfl⟩ := inR_nI hg.2
      refine aw_iload_n e_Mo_of_23 rfl ?_
      refine aw_iconst (v := nI 2) e_Mo_of_24 (by decide) ?_
      refine awN_icmp_ge e_Mo_of_25 (by omega) (by omega) (fun h25 => ?_) (fun h25 => ?_)
      · refine aw_iload_n e_Mo_of_42 rfl ?_
        refine aw_iconst (v := nI 5) e_Mo_of_43 (by decide) ?_
        refine awN_icmp_ne e_Mo_of_44 (by omega) (by omega) (fun h44 => ?_) (fun h44 => ?_)
        · refine aw_aload_n e_Mo_of_79 rfl ?_
          refine aw_cV0 e_Mo_of_80 ml_Mo_185 mf_Mo_solve mv_Mo_solve (c_Mo_solve hS hC hW (fun I2 L2 hfl ha _ => ?_))
          refine aw_ist3 e_Mo_of_83 ?_
          refine aw_iload_n e_Mo_of_84 rfl ?_
          refine aw_iconst (v := nI 1) e_Mo_of_85 (by decide) ?_
          refine aw_icmp_eq e_Mo_of_86 (fun h86 => ?_) (fun h86 => ?_)
          · have h1 := (ansV_iff _).1 h86
            have hax := ha h1
            refine aw_iload_n e_Mo_of_91 rfl ?_
            refine aw_iconst (v := nI 4) e_Mo_of_92 (by decide) ?_
            refine awN_icmp_ge e_Mo_of_93 (by omega) (by omega) (fun h93 => ?_) (fun h93 => ?_)
            · refine aw_aload_n e_Mo_of_111 rfl ?_
              refine aw_getR e_Mo_of_112 fl_Mo_47 (hS.1 _ _ _ _ rfl) ?_
              refine aw_iconst (v := nI 2) e_Mo_of_115 (by decide) ?_
              refine aw_iload_n e_Mo_of_116 rfl ?_
              first | refine awN_imul e_Mo_of_117 ?_ | refine aw_imul e_Mo_of_117 ?_
              refine aw_lalE e_Mo_of_118 rfl (show _ < 24 by omega) (by omega) (hax _ (by omega)).1 ?_
              refine aw_aload_n e_Mo_of_119 rfl ?_
              refine aw_getR e_Mo_of_120 fl_Mo_47 (hS.1 _ _ _ _ rfl) ?_
              refine aw_iconst (v := nI 2) e_Mo_of_123 (by decide) ?_
              refine aw_iload_n e_Mo_of_124 rfl ?_
              first | refine awN_imul e_Mo_of_125 ?_ | refine aw_imul e_Mo_of_125 ?_
              refine aw_iconst (v := nI 1) e_Mo_of_126 (by decide) ?_
              first | refine awN_iadd e_Mo_of_127 ?_ | refine aw_iadd e_Mo_of_127 ?_
              refine aw_lalE e_Mo_of_128 rfl (show _ < 24 by omega) (by omega) (hax _ (by omega)).1 ?_
              have hm := mulP (hax (2 * b) (by omega)).2 (hax (2 * b + 1) (by omega)).2
              refine awN_lmul e_Mo_of_129 ?_
              refine aw_ldc2 (v := lN 1000003) e_Mo_of_130 kl_Mo_83 ?_
              refine awN_lrem e_Mo_of_133 (by omega) (by omega) (by omega) ?_
              refine awN_l2i e_Mo_of_134 ?_
              have hq := hQ I2 L2 (hM.same hfl.M (hfl.1 28 0 (by decide))) hfl.M.K
              unfold op_of at hq
              rw [if_pos hg, ix_n (j := b) (by omega), ix_n (j := j) (by omega), if_neg (show ¬ j = 0 by omega), if_neg (show ¬ j = 1 by omega), if_neg h44] at hq
              unfold carV at hq
              rw [if_pos h1] at hq
              have hne : ∀ a b : Nat, a < 10 → b < 10 → ¬ a = b → ¬ nI a = nI b := fun a b ha hb hab z => hab ((nI_eq (by omega) (by omega)).1 z)
              first
                | (exfalso; omega)
                | (by_cases e2 : j = 2
                   · subst e2
                     rw [if_pos rfl] at hq
                     exact aw_iret e_Mo_of_135 rfl rfl hq
                   · obtain rfl : j = 3 := by omega
                     rw [if_neg (hne 3 2 (by decide) (by decide) (by decide)), if_pos rfl] at hq
                     exact aw_iret e_Mo_of_135 rfl rfl hq)
                | (rw [if_neg (hne j 2 (by omega) (by decide) (by omega)), if_neg (hne j 3 (by omega) (by decide) (by omega))] at hq
                   exact aw_iret e_Mo_of_135 rfl rfl hq)
            · refine aw_aload_n e_Mo_of_96 rfl ?_
              refine aw_getR e_Mo_of_97 fl_Mo_47 (hS.1 _ _ _ _ rfl) ?_
              refine aw_iconst (v := nI 2) e_Mo_of_100 (by decide) ?_
              refine aw_iload_n e_Mo_of_101 rfl ?_
              first | refine awN_imul e_Mo_of_102 ?_ | refine aw_imul e_Mo_of_102 ?_
              refine aw_iload_n e_Mo_of_103 rfl ?_
              first | refine awN_iadd e_Mo_of_104 ?_ | refine aw_iadd e_Mo_of_104 ?_
              refine aw_iconst (v := nI 2) e_Mo_of_105 (by decide) ?_
              refine awN_isub e_Mo_of_106 (by omega) ?_
              refine aw_lalE e_Mo_of_107 rfl (show _ < 24 by omega) (by omega) (hax _ (by omega)).1 ?_
              refine aw_goto e_Mo_of_108 ?_
              refine awN_l2i e_Mo_of_134 ?_
              have hq := hQ I2 L2 (hM.same hfl.M (hfl.1 28 0 (by decide))) hfl.M.K
              unfold op_of at hq
              rw [if_pos hg, ix_n (j := b) (by omega), ix_n (j := j) (by omega), if_neg (show ¬ j = 0 by omega), if_neg (show ¬ j = 1 by omega), if_neg h44] at hq
              unfold carV at hq
              rw [if_pos h1] at hq
              have hne : ∀ a b : Nat, a < 10 → b < 10 → ¬ a = b → ¬ nI a = nI b := fun a b ha hb hab z => hab ((nI_eq (by omega) (by omega)).1 z)
              first
                | (exfalso; omega)
                | (by_cases e2 : j = 2
                   · subst e2
                     rw [if_pos rfl] at hq
                     exact aw_iret e_Mo_of_135 rfl rfl hq
                   · obtain rfl : j = 3 := by omega
                     rw [if_neg (hne 3 2 (by decide) (by decide) (by decide)), if_pos rfl] at hq
                     exact aw_iret e_Mo_of_135 rfl rfl hq)
                | (rw [if_neg (hne j 2 (by omega) (by decide) (by omega)), if_neg (hne j 3 (by omega) (by decide) (by omega))] at hq
                   exact aw_iret e_Mo_of_135 rfl rfl hq)
          · refine aw_iload_n e_Mo_of_89 rfl ?_
            have hq := hQ I2 L2 (hM.same hfl.M (hfl.1 28 0 (by decide))) hfl.M.K
            unfold op_of at hq
            rw [if_pos hg, ix_n (j := b) (by omega), ix_n (j := j) (by omega), if_neg (show ¬ j = 0 by omega), if_neg (show ¬ j = 1 by omega), if_neg h44] at hq
            unfold carV at hq
            rw [if_neg (fun z => h86 ((ansV_iff _).2 z))] at hq
            exact aw_iret e_Mo_of_90 rfl rfl hq
        · refine aw_aload_n e_Mo_of_47 rfl ?_
          refine aw_iconst (v := nI 0) e_Mo_of_48 (by decide) ?_
          refine aw_cV1 e_Mo_of_49 ml_Mo_189 mf_Mo_strokes mv_Mo_strokes (c_Mo_strokes hS hC hW ?_)
          rw [if_pos (show inR (nI 0) 4 by decide), show ix (nI 0) = 0 from rfl]
          rcases strV_c (sM S) with ⟨e, h1⟩ | ⟨e, h1, h2⟩ | ⟨e, h1, h2⟩
          · rw [e]
            refine aw_ist3 e_Mo_of_52 ?_
            refine aw_iload_n e_Mo_of_53 rfl ?_
            refine aw_if_ge e_Mo_of_54 (fun h54 => ?_) (fun h54 => ?_)
            · exact absurd h54 (by decide)
            · refine aw_iload_n e_Mo_of_57 rfl ?_
              refine aw_goto e_Mo_of_58 ?_
              have hq := hQ I L hM fK_0
              unfold op_of at hq
              rw [if_pos hg, ix_n (j := b) (by omega), ix_n (j := j) (by omega), if_neg (show ¬ j = 0 by omega), if_neg (show ¬ j = 1 by omega), if_pos h44] at hq
              unfold stlV at hq
              first
                | (rw [if_neg h1] at hq; exact aw_iret e_Mo_of_78 rfl rfl hq)
                | (rw [if_pos h1, if_pos h2] at hq; exact aw_iret e_Mo_of_78 rfl rfl hq)
          · rw [e]
            refine aw_ist3 e_Mo_of_52 ?_
            refine aw_iload_n e_Mo_of_53 rfl ?_
            refine aw_if_ge e_Mo_of_54 (fun h54 => ?_) (fun h54 => ?_)
            · exact absurd h54 (by decide)
            · refine aw_iload_n e_Mo_of_57 rfl ?_
              refine aw_goto e_Mo_of_58 ?_
              have hq := hQ I L hM fK_0
              unfold op_of at hq
              rw [if_pos hg, ix_n (j := b) (by omega), ix_n (j := j) (by omega), if_neg (show ¬ j = 0 by omega), if_neg (show ¬ j = 1 by omega), if_pos h44] at hq
              unfold stlV at hq
              first
                | (rw [if_neg h1] at hq; exact aw_iret e_Mo_of_78 rfl rfl hq)
                | (rw [if_pos h1, if_pos h2] at hq; exact aw_iret e_Mo_of_78 rfl rfl hq)
          · rw [e]
            have hp2 := pow4096 hW
            have hsb := svS_b (sM S) (2 ^ nB (sM S))
            have hx : I 28 0 (70 + 2 * b + (svS (sM S) (2 ^ nB (sM S))).2.1 / 2 ^ b % 2) = (if (svS (sM S) (2 ^ nB (sM S))).2.1.testBit b = true then nI (bT (sM S) b) else nI (bF (sM S) b)) := by
              by_cases q : (svS (sM S) (2 ^ nB (sM S))).2.1.testBit b = true
              · rw [if_pos q, (tbit _ b).2 q]
                exact hC.2.2.2.1 b hb
              · rw [if_neg q, show (svS (sM S) (2 ^ nB (sM S))).2.1 / 2 ^ b % 2 = 0 by have q2 : ¬ (svS (sM S) (2 ^ nB (sM S))).2.1 / 2 ^ b % 2 = 1 := fun z => q ((tbit _ b).1 z); omega]
                exact hC.2.2.1 b hb
            refine aw_ist3 e_Mo_of_52 ?_
            refine aw_iload_n e_Mo_of_53 rfl ?_
            refine awN_if_ge e_Mo_of_54 (by omega) ?_
            refine aw_aload_n e_Mo_of_61 rfl ?_
            refine aw_getR e_Mo_of_62 fl_Mo_7 (hS.1 _ _ _ _ rfl) ?_
            refine aw_bipush (v := nI 70) e_Mo_of_65 (by decide) ?_
            refine aw_iconst (v := nI 2) e_Mo_of_67 (by decide) ?_
            refine aw_iload_n e_Mo_of_68 rfl ?_
            first | refine awN_imul e_Mo_of_69 ?_ | refine aw_imul e_Mo_of_69 ?_
            first | refine awN_iadd e_Mo_of_70 ?_ | refine aw_iadd e_Mo_of_70 ?_
            refine aw_iload_n e_Mo_of_71 rfl ?_
            refine aw_iload_n e_Mo_of_72 rfl ?_
            refine aw_ishr e_Mo_of_73 ?_
            rw [shrS (by omega) (by omega)]
            refine aw_iconst (v := nI 1) e_Mo_of_74 (by decide) ?_
            refine aw_iand e_Mo_of_75 ?_
            rw [and1 _ (Nat.lt_of_le_of_lt (Nat.div_le_self _ _) (by omega))]
            first | refine awN_iadd e_Mo_of_76 ?_ | refine aw_iadd e_Mo_of_76 ?_
            refine aw_ialE e_Mo_of_77 rfl (show _ < 3110 by omega) (by omega) hx ?_
            have hq := hQ I L hM fK_0
            unfold op_of at hq
            rw [if_pos hg, ix_n (j := b) (by omega), ix_n (j := j) (by omega), if_neg (show ¬ j = 0 by omega), if_neg (show ¬ j = 1 by omega), if_pos h44] at hq
            unfold stlV at hq
            first
              | (rw [if_pos h1, if_neg h2] at hq; exact aw_iret e_Mo_of_78 rfl rfl hq)
      · have hx : I 28 0 (70 + 2 * b + j) = (if j = 0 then nI (bF (sM S) b) else nI (bT (sM S) b)) := by
          by_cases e : j = 0
          · rw [if_pos e, e]; exact hC.2.2.1 b hb
          · rw [if_neg e, show j = 1 by omega]; exact hC.2.2.2.1 b hb
        refine aw_aload_n e_Mo_of_28 rfl ?_
        refine aw_getR e_Mo_of_29 fl_Mo_7 (hS.1 _ _ _ _ rfl) ?_
        refine aw_bipush (v := nI 70) e_Mo_of_32 (by decide) ?_
        refine aw_iconst (v := nI 2) e_Mo_of_34 (by decide) ?_
        refine aw_iload_n e_Mo_of_35 rfl ?_
        first | refine awN_imul e_Mo_of_36 ?_ | refine aw_imul e_Mo_of_36 ?_
        first | refine awN_iadd e_Mo_of_37 ?_ | refine aw_iadd e_Mo_of_37 ?_
        refine aw_iload_n e_Mo_of_38 rfl ?_
        first | refine awN_iadd e_Mo_of_39 ?_ | refine aw_iadd e_Mo_of_39 ?_
        refine aw_ialE e_Mo_of_40 rfl (show _ < 3110 by omega) (by omega) hx ?_
        have hq := hQ I L hM fK_0
        unfold op_of at hq
        rw [if_pos hg, ix_n (j := b) (by omega), ix_n (j := j) (by omega)] at hq
        by_cases e : j = 0
        · rw [if_pos e] at hq ⊢; exact aw_iret e_Mo_of_41 rfl rfl hq
        · rw [if_neg e, if_pos (by omega)] at hq; rw [if_neg e]; exact aw_iret e_Mo_of_41 rfl rfl hq
    · refine aw_ldc (v := -1000000001) e_Mo_of_20 kc_Mo_89 ?_
      have hq := hQ I L hM fK_0
      unfold op_of at hq
      first
        | (rw [if_neg (fun w => h5 w.1)] at hq; exact aw_iret e_Mo_of_22 rfl rfl hq)
        | (rw [if_neg (fun w => h17 ⟨w.2.1, by have := w.2.2; omega⟩)] at hq; exact aw_iret e_Mo_of_22 rfl rfl hq)
theorem c_Mo_keep {l : Launch} {E : En} {d : Nat} {I : It} {L : Lt} {R : Rt} {Z : Zt} {Q : Qt} {S : AS} (hS : Sta R) (hM : MSt I S) (hA : AWF S) (hQ : ∀ I2 L2, MSt I2 (op_keep S).1 → fK I I2 → Q (some (vi (op_keep S).2)) I2 L2 R Z) : AMet l E (d + 1) M_Mo_keep [vr 9 0] I L R Z Q := by
  have hC := hM.1
  have hW := hA.1.1
  have hnb := hW.1.2.1
  have hnp := hW.1.1
  have hnx := hW.1.2.2.1
  have hns := hW.1.2.2.2
  refine AMet.of mf_Mo_keep rfl (Nat.le_of_ble_eq_true rfl) ?_
  refine aw_aload_n e_Mo_keep_0 rfl ?_
  refine aw_iconst (v := nI 1) e_Mo_keep_1 (by decide) ?_
  refine aw_putZ e_Mo_keep_2 fl_Mo_348 (by first | exact Or.inl rfl | exact Or.inr rfl) ?_
  refine aw_aload_n e_Mo_keep_5 rfl ?_
  refine aw_aload_n e_Mo_keep_6 rfl ?_
  refine aw_getR e_Mo_keep_7 fl_Mo_7 (hS.1 _ _ _ _ rfl) ?_
  refine aw_aload_n e_Mo_keep_10 rfl ?_
  refine aw_getR e_Mo_keep_11 fl_Mo_13 (hS.1 _ _ _ _ rfl) ?_
  refine aw_cV2 e_Mo_keep_14 ml_Mo_222 mf_Mo_setAside mv_Mo_setAside (c_Mo_setAside (a := 0) (b := 1) (by decide) (fun I2 hc2 hf2 => ?_))
  refine aw_aload_n e_Mo_keep_17 rfl ?_
  refine aw_getR e_Mo_keep_18 fl_Mo_7 (hS.1 _ _ _ _ rfl) ?_
  refine aw_iconst (v := nI 3) e_Mo_keep_21 (by decide) ?_
  refine aw_ialE e_Mo_keep_22 rfl (show _ < 3110 by omega) (by omega) (show _ = nI (nS (sM S)) by rw [hf2 28 0 (by decide), sI_n (by decide)]; exact hC.1.2.2.2) ?_
  have e : ∀ t i, t ≠ 9 → ¬ (t = 28 ∧ i = 1) → I2 t i = I t i := fun t i h9 h28 => by rw [hf2 t i h28, sI_n (by omega)]
  have e9 : ∀ f, f ≠ 3 → I2 9 0 f = I 9 0 f := fun f hf => by rw [hf2 9 0 (by decide), sI_ne hf]
  obtain ⟨m1, m2, m3, m4, m5, m6⟩ := hM.2
  refine aw_iret e_Mo_keep_23 rfl rfl (hQ I2 L ⟨hC.keep (e 28 0 (by decide) (by decide)), fun _ => hC.cp hW (fun n hn => by rw [hc2 n hn, sI_n (by decide)]), by rw [hf2 9 0 (by decide), sI_eq]; rfl, ⟨(e9 16 (by decide)).trans m3.1, by rw [e 39 0 (by decide) (by decide)]; exact m3.2⟩, fun i hi => ?_, fun i hi => ?_, ⟨(e9 33 (by decide)).trans m6.1, by rw [e 45 0 (by decide) (by decide)]; exact m6.2⟩⟩ (fun t i h1 h2 => e t i h1 (by omega)))
  · unfold MSh
    rw [e 29 0 (by decide) (by decide), e 30 0 (by decide) (by decide), e 31 0 (by decide) (by decide)]
    exact m4 i hi
  · unfold MSl
    rw [e 32 0 (by decide) (by decide), e 33 0 (by decide) (by decide), e 34 0 (by decide) (by decide), e 35 0 (by decide) (by decide), e 36 0 (by decide) (by decide)]
    exact m5 i hi
theorem c_Mo_back {l : Launch} {E : En} {d : Nat} {I : It} {L : Lt} {R : Rt} {Z : Zt} {Q : Qt} {S : AS} (hS : Sta R) (hM : MSt I S) (hA : AWF S) (hQ : ∀ I2 L2, MSt I2 (op_back S).1 → fK I I2 → Q (some (vi (op_back S).2)) I2 L2 R Z) : AMet l E (d + 1) M_Mo_back [vr 9 0] I L R Z Q := by
  have hC := hM.1
  have hW := hA.1.1
  have hnb := hW.1.2.1
  have hnp := hW.1.1
  have hnx := hW.1.2.2.1
  have hns := hW.1.2.2.2
  have hK := hA.2.2.1
  refine AMet.of mf_Mo_back rfl (Nat.le_of_ble_eq_true rfl) ?_
  refine aw_aload_n e_Mo_back_0 rfl ?_
  refine aw_getE e_Mo_back_1 fl_Mo_348 hM.2.2.1 ?_
  refine awN_if_ne e_Mo_back_4 (by omega) (fun h4 => ?_) (fun h4 => ?_)
  · have hk1 : sK S = 1 := by omega
    have hG := hM.2.1 hk1
    have hWg := (hA.2.1 hk1).1
    refine aw_aload_n e_Mo_back_10 rfl ?_
    refine aw_aload_n e_Mo_back_11 rfl ?_
    refine aw_getR e_Mo_back_12 fl_Mo_13 (hS.1 _ _ _ _ rfl) ?_
    refine aw_aload_n e_Mo_back_15 rfl ?_
    refine aw_getR e_Mo_back_16 fl_Mo_7 (hS.1 _ _ _ _ rfl) ?_
    refine aw_cV2 e_Mo_back_19 ml_Mo_222 mf_Mo_setAside mv_Mo_setAside (c_Mo_setAside (a := 1) (b := 0) (by decide) (fun I2 hc2 hf2 => ?_))
    have hCg : MC I2 0 (sG S) := hG.cp hWg hc2
    refine aw_aload_n e_Mo_back_22 rfl ?_
    refine aw_getR e_Mo_back_23 fl_Mo_7 (hS.1 _ _ _ _ rfl) ?_
    refine aw_iconst (v := nI 3) e_Mo_back_26 (by decide) ?_
    refine aw_ialE e_Mo_back_27 rfl (show _ < 3110 by omega) (by omega) hCg.1.2.2.2 ?_
    have hfm := fM_c (I := I) (I2 := I2) (by decide) hf2
    have hq := hQ I2 L
    unfold op_back at hq
    rw [if_pos hk1] at hq
    exact aw_iret e_Mo_back_28 rfl rfl (hq (hM.mach hfm hCg) hfm.K)
  · refine aw_ldc (v := -1000000002) e_Mo_back_7 kc_Mo_94 ?_
    have hq := hQ I L
    unfold op_back at hq
    first
      | (rw [if_neg (by omega)] at hq; exact aw_iret e_Mo_back_9 rfl rfl (hq hM fK_0))
theorem c_Mo_tell {l : Launch} {E : En} {d : Nat} {I : It} {L : Lt} {R : Rt} {Z : Zt} {Q : Qt} {S : AS} (hS : Sta R) (hM : MSt I S) (hA : AWF S) {x : Int32} (hQ : ∀ I2 L2, MSt I2 (op_tell S x).1 → fK I I2 → Q (some (vi (op_tell S x).2)) I2 L2 R Z) : AMet l E d M_Mo_tell [vr 9 0, vi x] I L R Z Q := by
  have hC := hM.1
  have hW := hA.1.1
  have hnb := hW.1.2.1
  have hnp := hW.1.1
  have hnx := hW.1.2.2.1
  have hns := hW.1.2.2.2
  have hW6 := hA.2.2.2.2.2.2
  obtain ⟨m1, m2, m3, m4, m5, m6⟩ := hM.2
  refine AMet.of mf_Mo_tell rfl (Nat.le_of_ble_eq_true rfl) ?_
  refine aw_aload_n e_Mo_tell_0 rfl ?_
  refine aw_getE e_Mo_tell_1 fl_Mo_343 m6.1 ?_
  refine aw_bipush (v := nI 60) e_Mo_tell_4 (by decide) ?_
  refine awN_icmp_ne e_Mo_tell_6 (by omega) (by omega) (fun h6 => ?_) (fun h6 => ?_)
  · refine aw_aload_n e_Mo_tell_12 rfl ?_
    refine aw_getR e_Mo_tell_13 fl_Mo_68 (hS.1 _ _ _ _ rfl) ?_
    refine aw_aload_n e_Mo_tell_16 rfl ?_
    refine aw_getE e_Mo_tell_17 fl_Mo_343 m6.1 ?_
    refine aw_iload_n e_Mo_tell_20 rfl ?_
    refine aw_iast e_Mo_tell_21 rfl (show _ < 60 by omega) (by omega) ?_
    refine aw_aload_n e_Mo_tell_22 rfl ?_
    refine aw_dup e_Mo_tell_23 rfl ?_
    refine aw_getE e_Mo_tell_24 fl_Mo_343 ((sI_n2 (by decide)).trans m6.1) ?_
    refine aw_iconst (v := nI 1) e_Mo_tell_27 (by decide) ?_
    first | refine awN_iadd e_Mo_tell_28 ?_ | refine aw_iadd e_Mo_tell_28 ?_
    refine aw_putI e_Mo_tell_29 fl_Mo_343 ?_
    refine aw_aload_n e_Mo_tell_32 rfl ?_
    refine aw_getE e_Mo_tell_33 fl_Mo_343 (sI_eq _ _ _ _ _) ?_
    have e : ∀ t i, t ≠ 9 → t ≠ 45 → sI (sI I 45 0 (sW S).1 x) 9 0 33 (nI ((sW S).1 + 1)) t i = I t i := fun t i h9 h28 => by rw [sI_n (by omega), sI_n (by omega)]
    have e9 : ∀ f, f ≠ 33 → sI (sI I 45 0 (sW S).1 x) 9 0 33 (nI ((sW S).1 + 1)) 9 0 f = I 9 0 f := fun f hf => by rw [sI_ne hf, sI_n (by decide)]
    have hms : MSt (sI (sI I 45 0 (sW S).1 x) 9 0 33 (nI ((sW S).1 + 1))) (op_tell S x).1 := by
      unfold op_tell
      rw [if_pos (by omega)]
      refine ⟨hC.keep (e 28 0 (by decide) (by decide)), fun z => (m1 z).keep (e 28 1 (by decide) (by decide)), (e9 3 (by decide)).trans m2, ⟨(e9 16 (by decide)).trans m3.1, by rw [e 39 0 (by decide) (by decide)]; exact m3.2⟩, fun i hi => ?_, fun i hi => ?_, ⟨sI_eq _ _ _ _ _, fun j hj => ?_⟩⟩
      · unfold MSh
        rw [e 29 0 (by decide) (by decide), e 30 0 (by decide) (by decide), e 31 0 (by decide) (by decide)]
        exact m4 i hi
      · unfold MSl
        rw [e 32 0 (by decide) (by decide), e 33 0 (by decide) (by decide), e 34 0 (by decide) (by decide), e 35 0 (by decide) (by decide), e 36 0 (by decide) (by decide)]
        exact m5 i hi
      · have hj2 : j < (sW S).1 + 1 := hj
        show _ = if j = (sW S).1 then x else (sW S).2 j
        rw [sI_n (by decide)]
        by_cases q : j = (sW S).1
        · rw [if_pos q, q, sI_eq]
        · rw [if_neg q, sI_ne q]; exact m6.2 j (by omega)
    have hq := hQ _ L hms (fun t i h1 h2 => e t i h1 (by omega))
    unfold op_tell at hq
    rw [if_pos (by omega)] at hq
    exact aw_iret e_Mo_tell_36 rfl rfl hq
  · refine aw_ldc (v := -1000000003) e_Mo_tell_9 kc_Mo_108 ?_
    have hq := hQ I L
    unfold op_tell at hq
    first
      | (rw [if_neg (by omega)] at hq; exact aw_iret e_Mo_tell_11 rfl rfl (hq hM fK_0))
theorem c_Mo_trim {l : Launch} {E : En} {d : Nat} {I : It} {L : Lt} {R : Rt} {Z : Zt} {Q : Qt} {S : AS} (hS : Sta R) (hM : MSt I S) (hA : AWF S) {x : Int32} (hQ : ∀ I2 L2, MSt I2 (op_trim S x).1 → fK I I2 → Q (some (vi (op_trim S x).2)) I2 L2 R Z) : AMet l E (d + 1) M_Mo_trim [vr 9 0, vi x] I L R Z Q := by
  have hC := hM.1
  have hW := hA.1.1
  have hnb := hW.1.2.1
  have hnp := hW.1.1
  have hnx := hW.1.2.2.1
  have hns := hW.1.2.2.2
  have hT6 := hA.2.2.2.1
  obtain ⟨m1, m2, m3, m4, m5, m6⟩ := hM.2
  refine AMet.of mf_Mo_trim rfl (Nat.le_of_ble_eq_true rfl) ?_
  refine aw_iload_n e_Mo_trim_0 rfl ?_
  refine aw_i2l e_Mo_trim_1 ?_
  refine aw_lconst (v := lN 0) e_Mo_trim_2 rfl ?_
  refine aw_aload_n e_Mo_trim_3 rfl ?_
  refine aw_getE e_Mo_trim_4 fl_Mo_229 m3.1 ?_
  first | refine awN_i2l e_Mo_trim_7 (by omega) ?_ | refine aw_i2l e_Mo_trim_7 ?_
  refine aw_cS3 e_Mo_trim_8 ml_Mo_75 mf_Mo_isIn ms_Mo_isIn (c_Mo_isInC (by decide) (by omega) ?_)
  refine awB_ne e_Mo_trim_11 (fun h11 => ?_) (fun h11 => ?_)
  · have hx2 : inR x ((sT S).1 + 1) := ⟨by omega, by omega⟩
    obtain ⟨n, hn, rfl⟩ := inR_nI hx2
    refine aw_aload_n e_Mo_trim_17 rfl ?_
    refine aw_iload_n e_Mo_trim_18 rfl ?_
    refine aw_putI e_Mo_trim_19 fl_Mo_229 ?_
    refine aw_iload_n e_Mo_trim_22 rfl ?_
    have e : ∀ t i, t ≠ 9 → sI I 9 0 16 (nI n) t i = I t i := fun t i h9 => sI_n (by omega)
    have e9 : ∀ f, f ≠ 16 → sI I 9 0 16 (nI n) 9 0 f = I 9 0 f := fun f hf => sI_ne hf
    have hq := hQ (sI I 9 0 16 (nI n)) L
    unfold op_trim at hq
    rw [if_pos hx2, ix_n (j := n) (by omega)] at hq
    refine aw_iret e_Mo_trim_23 rfl rfl (hq ⟨hC.keep (e 28 0 (by decide)), fun z => (m1 z).keep (e 28 1 (by decide)), (e9 3 (by decide)).trans m2, ⟨sI_eq _ _ _ _ _, fun j hj => by rw [e 39 0 (by decide)]; exact m3.2 j (Nat.lt_of_lt_of_le hj (by show n ≤ (sT S).1; omega))⟩, fun i hi => ?_, fun i hi => ?_, ⟨(e9 33 (by decide)).trans m6.1, by rw [e 45 0 (by decide)]; exact m6.2⟩⟩ (fun t i h1 h2 => e t i h1))
    · unfold MSh
      rw [e 29 0 (by decide), e 30 0 (by decide), e 31 0 (by decide)]
      exact m4 i hi
    · unfold MSl
      rw [e 32 0 (by decide), e 33 0 (by decide), e 34 0 (by decide), e 35 0 (by decide), e 36 0 (by decide)]
      exact m5 i hi
  · refine aw_ldc (v := -1000000001) e_Mo_trim_14 kc_Mo_89 ?_
    have hq := hQ I L
    unfold op_trim at hq
    first
      | (rw [if_neg (fun w => h11 ⟨w.1, by have := w.2; omega⟩)] at hq; exact aw_iret e_Mo_trim_16 rfl rfl (hq hM fK_0))
theorem c_Mo_stores {l : Launch} {E : En} {d : Nat} {I : It} {L : Lt} {R : Rt} {Z : Zt} {Q : Qt} {V : Mc} (hS : Sta R) (hC : MC I 0 V) (hW : WF V) (hQ : Q (some (vi (nI (cnt (fun p => pP V p 0 == 1) (nP V))))) I L R Z) : AMet l E (d + 2) M_Mo_stores [vr 9 0] I L R Z Q := by
  have hnb := hW.1.2.1
  have hnp := hW.1.1
  have hnx := hW.1.2.2.1
  have hns := hW.1.2.2.2
  refine AMet.of mf_Mo_stores rfl (Nat.le_of_ble_eq_true rfl) ?_
  refine aw_iconst (v := nI 0) e_Mo_stores_0 (by decide) ?_
  refine aw_ist1 e_Mo_stores_1 ?_
  refine aw_iconst (v := nI 0) e_Mo_stores_2 (by decide) ?_
  refine aw_ist2 e_Mo_stores_3 ?_
  refine up_loop (P := fun i => AWq l E (d + 2) M_Mo_stores Z 4 [some (vr 9 0), some (vi (nI (cnt (fun p => pP V p 0 == 1) i))), some (vi (nI i))] [] I L R Z Q) (N := nP V) (fun i hi ih => ?_) 0 (by omega)
  try dsimp only
  refine aw_iload_n e_Mo_stores_4 rfl ?_
  refine aw_aload_n e_Mo_stores_5 rfl ?_
  refine aw_getR e_Mo_stores_6 fl_Mo_7 (hS.1 _ _ _ _ rfl) ?_
  refine aw_iconst (v := nI 0) e_Mo_stores_9 (by decide) ?_
  refine aw_ialE e_Mo_stores_10 rfl (show _ < 3110 by omega) (by omega) (by first | exact hC.1.1 | exact hC.1.2.1 | exact hC.1.2.2.1 | exact hC.1.2.2.2 | exact hC.pk (by omega) | exact hC.2.1 _ _ (by omega) (by decide) | exact hC.2.2.1 _ (by omega) | exact hC.2.2.2.1 _ (by omega)) ?_
  refine awN_icmp_ge e_Mo_stores_11 (by omega) (by omega) (fun h11 => ?_) (fun h11 => ?_)
  · refine aw_iload_n e_Mo_stores_37 rfl ?_
    exact aw_iret e_Mo_stores_38 rfl rfl (by rw [show i = nP V by omega]; exact hQ)
  · have hv := hW.2.1 i h11
    refine aw_iload_n e_Mo_stores_14 rfl ?_
    refine aw_aload_n e_Mo_stores_15 rfl ?_
    refine aw_iload_n e_Mo_stores_16 rfl ?_
    refine aw_cV1 e_Mo_stores_17 ml_Mo_116 mf_Mo_kindOf mv_Mo_kindOf (c_Mo_kindOf hS hC hW h11 ?_)
    refine aw_iconst (v := nI 1) e_Mo_stores_20 (by decide) ?_
    refine awN_icmp_ne e_Mo_stores_21 (by omega) (by omega) (fun h21 => ?_) (fun h21 => ?_)
    · refine aw_iconst (v := nI 0) e_Mo_stores_28 (by decide) ?_
      first | refine awN_iadd e_Mo_stores_29 ?_ | refine aw_iadd e_Mo_stores_29 ?_
      first | rw [← cnt_t (P := fun p => pP V p 0 == 1) (n := i) (by simp [h21])] | rw [Nat.add_zero, ← cnt_f2 (P := fun p => pP V p 0 == 1) (n := i) (by simp [h21])]
      refine aw_ist1 e_Mo_stores_30 ?_
      refine aw_inc2 e_Mo_stores_31 (inc1 _) ?_
      refine aw_goto e_Mo_stores_34 ?_
      exact ih h11
    · refine aw_iconst (v := nI 1) e_Mo_stores_24 (by decide) ?_
      refine aw_goto e_Mo_stores_25 ?_
      first | refine awN_iadd e_Mo_stores_29 ?_ | refine aw_iadd e_Mo_stores_29 ?_
      first | rw [← cnt_t (P := fun p => pP V p 0 == 1) (n := i) (by simp [h21])] | rw [Nat.add_zero, ← cnt_f2 (P := fun p => pP V p 0 == 1) (n := i) (by simp [h21])]
      refine aw_ist1 e_Mo_stores_30 ?_
      refine aw_inc2 e_Mo_stores_31 (inc1 _) ?_
      refine aw_goto e_Mo_stores_34 ?_
      exact ih h11
def sumL (V : Mc) : Nat → Nat
  | 0 => 0
  | n + 1 => sumL V n + (if pP V n 0 = 1 then pP V n 4 else 0)
theorem sumL_S (V : Mc) : ∀ n, sumS V n = sumL V n % 1000003
  | 0 => rfl
  | n + 1 => by
    have ih := sumL_S V n
    unfold sumS sumL
    split
    · rw [ih, Nat.mod_add_mod]
    · rw [ih, Nat.add_zero]
theorem sumL_le {V : Mc} (hW : WF V) : ∀ n, n ≤ nP V → sumL V n ≤ 1000003 * n
  | 0, _ => Nat.zero_le _
  | n + 1, h => by
    have ih := sumL_le hW n (by omega)
    have hv := (hW.2.1 n (by omega)).2.2.2.2
    rw [Nat.mul_succ]
    unfold sumL
    split
    · exact Nat.add_le_add ih (Nat.le_of_lt hv)
    · exact Nat.le_trans ih (Nat.le_add_right _ _)
theorem c_Mo_holds {l : Launch} {E : En} {d : Nat} {I : It} {L : Lt} {R : Rt} {Z : Zt} {Q : Qt} {V : Mc} (hS : Sta R) (hC : MC I 0 V) (hW : WF V) (hQ : Q (some (vi (nI (sumS V (nP V))))) I L R Z) : AMet l E (d + 2) M_Mo_holds [vr 9 0] I L R Z Q := by
  have hnb := hW.1.2.1
  have hnp := hW.1.1
  have hnx := hW.1.2.2.1
  have hns := hW.1.2.2.2
  refine AMet.of mf_Mo_holds rfl (Nat.le_of_ble_eq_true rfl) ?_
  refine aw_lconst (v := lN 0) e_Mo_holds_0 rfl ?_
  refine aw_lst1 e_Mo_holds_1 ?_
  refine aw_iconst (v := nI 0) e_Mo_holds_2 (by decide) ?_
  refine aw_ist3 e_Mo_holds_3 ?_
  refine up_loop (P := fun i => AWq l E (d + 2) M_Mo_holds Z 4 [some (vr 9 0), some (vl (lN (sumL V i))), none, some (vi (nI i))] [] I L R Z Q) (N := nP V) (fun i hi ih => ?_) 0 (by omega)
  try dsimp only
  refine aw_iload_n e_Mo_holds_4 rfl ?_
  refine aw_aload_n e_Mo_holds_5 rfl ?_
  refine aw_getR e_Mo_holds_6 fl_Mo_7 (hS.1 _ _ _ _ rfl) ?_
  refine aw_iconst (v := nI 0) e_Mo_holds_9 (by decide) ?_
  refine aw_ialE e_Mo_holds_10 rfl (show _ < 3110 by omega) (by omega) (by first | exact hC.1.1 | exact hC.1.2.1 | exact hC.1.2.2.1 | exact hC.1.2.2.2 | exact hC.pk (by omega) | exact hC.2.1 _ _ (by omega) (by decide) | exact hC.2.2.1 _ (by omega) | exact hC.2.2.2.1 _ (by omega)) ?_
  refine awN_icmp_ge e_Mo_holds_11 (by omega) (by omega) (fun h11 => ?_) (fun h11 => ?_)
  · have hsl := sumL_le hW i hi
    have hsl2 := Nat.mul_le_mul_left 1000003 (show i ≤ 12 by omega)
    refine aw_lload_n e_Mo_holds_49 rfl ?_
    refine aw_ldc2 (v := lN 1000003) e_Mo_holds_50 kl_Mo_83 ?_
    refine awN_lrem e_Mo_holds_53 (by omega) (by omega) (by omega) ?_
    refine awN_l2i e_Mo_holds_54 ?_
    rw [show i = nP V by omega, ← sumL_S]
    exact aw_iret e_Mo_holds_55 rfl rfl hQ
  · have hv := hW.2.1 i h11
    refine aw_lload_n e_Mo_holds_14 rfl ?_
    refine aw_aload_n e_Mo_holds_15 rfl ?_
    refine aw_iload_n e_Mo_holds_16 rfl ?_
    refine aw_cV1 e_Mo_holds_17 ml_Mo_116 mf_Mo_kindOf mv_Mo_kindOf (c_Mo_kindOf hS hC hW h11 ?_)
    refine aw_iconst (v := nI 1) e_Mo_holds_20 (by decide) ?_
    refine awN_icmp_ne e_Mo_holds_21 (by omega) (by omega) (fun h21 => ?_) (fun h21 => ?_)
    · refine aw_lconst (v := lN 0) e_Mo_holds_40 rfl ?_
      refine awN_ladd e_Mo_holds_41 ?_
      refine aw_lst1 e_Mo_holds_42 ?_
      refine aw_inc3 e_Mo_holds_43 (inc1 _) ?_
      refine aw_goto e_Mo_holds_46 ?_
      have h := ih h11
      unfold sumL at h
      first
        | (rw [if_pos h21] at h; exact h)
        | (rw [if_neg h21] at h; exact h)
    · refine aw_aload_n e_Mo_holds_24 rfl ?_
      refine aw_getR e_Mo_holds_25 fl_Mo_7 (hS.1 _ _ _ _ rfl) ?_
      refine aw_aload_n e_Mo_holds_28 rfl ?_
      refine aw_iload_n e_Mo_holds_29 rfl ?_
      refine aw_cV1 e_Mo_holds_30 ml_Mo_79 mf_Mo_partAt mv_Mo_partAt (c_Mo_partAt ?_)
      refine aw_iconst (v := nI 4) e_Mo_holds_33 (by decide) ?_
      first | refine awN_iadd e_Mo_holds_34 ?_ | refine aw_iadd e_Mo_holds_34 ?_
      refine aw_ialE e_Mo_holds_35 rfl (show _ < 3110 by omega) (by omega) (by first | exact hC.1.1 | exact hC.1.2.1 | exact hC.1.2.2.1 | exact hC.1.2.2.2 | exact hC.pk (by omega) | exact hC.2.1 _ _ (by omega) (by decide) | exact hC.2.2.1 _ (by omega) | exact hC.2.2.2.1 _ (by omega)) ?_
      first | refine awN_i2l e_Mo_holds_36 (by omega) ?_ | refine aw_i2l e_Mo_holds_36 ?_
      refine aw_goto e_Mo_holds_37 ?_
      refine awN_ladd e_Mo_holds_41 ?_
      refine aw_lst1 e_Mo_holds_42 ?_
      refine aw_inc3 e_Mo_holds_43 (inc1 _) ?_
      refine aw_goto e_Mo_holds_46 ?_
      have h := ih h11
      unfold sumL at h
      first
        | (rw [if_pos h21] at h; exact h)
        | (rw [if_neg h21] at h; exact h)
theorem c_Mo_count {l : Launch} {E : En} {d : Nat} {I : It} {L : Lt} {R : Rt} {Z : Zt} {Q : Qt} {S : AS} (hS : Sta R) (hM : MSt I S) (hA : AWF S) {x : Int32} (hQ : ∀ I2 L2, MSt I2 (op_count S x).1 → fK I I2 → Q (some (vi (op_count S x).2)) I2 L2 R Z) : AMet l E (d + 3) M_Mo_count [vr 9 0, vi x] I L R Z Q := by
  have hC := hM.1
  have hW := hA.1.1
  have hnb := hW.1.2.1
  have hnp := hW.1.1
  have hnx := hW.1.2.2.1
  have hns := hW.1.2.2.2
  refine AMet.of mf_Mo_count rfl (Nat.le_of_ble_eq_true rfl) ?_
  refine aw_iload_n e_Mo_count_0 rfl ?_
  by_cases hts : inR x 8
  · obtain ⟨j, hj, rfl⟩ := inR_nI hts
    have hj7 : j = 0 ∨ j = 1 ∨ j = 2 ∨ j = 3 ∨ j = 4 ∨ j = 5 ∨ j = 6 ∨ j = 7 := by omega
    rcases hj7 with rfl | rfl | rfl | rfl | rfl | rfl | rfl | rfl
    · refine aw_tsIn e_Mo_count_1 (tgt := 48) (by decide) (by decide) rfl rfl ?_
      refine aw_aload_n e_Mo_count_48 rfl ?_
      refine aw_getR e_Mo_count_49 fl_Mo_7 (hS.1 _ _ _ _ rfl) ?_
      refine aw_iconst (v := nI 0) e_Mo_count_52 (by decide) ?_
      refine aw_ialE e_Mo_count_53 rfl (show _ < 3110 by omega) (by omega) (by first | exact hC.1.1 | exact hC.1.2.1 | exact hC.1.2.2.1 | exact hC.1.2.2.2 | exact hC.pk (by omega) | exact hC.2.1 _ _ (by omega) (by decide) | exact hC.2.2.1 _ (by omega) | exact hC.2.2.2.1 _ (by omega)) ?_
      have hq := hQ I L hM fK_0
      unfold op_count at hq
      rw [if_pos hts, ix_n (by decide)] at hq
      exact aw_iret e_Mo_count_54 rfl rfl hq
    · refine aw_tsIn e_Mo_count_1 (tgt := 55) (by decide) (by decide) rfl rfl ?_
      refine aw_aload_n e_Mo_count_55 rfl ?_
      refine aw_getR e_Mo_count_56 fl_Mo_7 (hS.1 _ _ _ _ rfl) ?_
      refine aw_iconst (v := nI 1) e_Mo_count_59 (by decide) ?_
      refine aw_ialE e_Mo_count_60 rfl (show _ < 3110 by omega) (by omega) (by first | exact hC.1.1 | exact hC.1.2.1 | exact hC.1.2.2.1 | exact hC.1.2.2.2 | exact hC.pk (by omega) | exact hC.2.1 _ _ (by omega) (by decide) | exact hC.2.2.1 _ (by omega) | exact hC.2.2.2.1 _ (by omega)) ?_
      have hq := hQ I L hM fK_0
      unfold op_count at hq
      rw [if_pos hts, ix_n (by decide)] at hq
      exact aw_iret e_Mo_count_61 rfl rfl hq
    · refine aw_tsIn e_Mo_count_1 (tgt := 62) (by decide) (by decide) rfl rfl ?_
      refine aw_aload_n e_Mo_count_62 rfl ?_
      refine aw_cV0 e_Mo_count_63 ml_Mo_355 mf_Mo_stores mv_Mo_stores (c_Mo_stores hS hC hW ?_)
      have hq := hQ I L hM fK_0
      unfold op_count at hq
      rw [if_pos hts, ix_n (by decide)] at hq
      exact aw_iret e_Mo_count_66 rfl rfl hq
    · refine aw_tsIn e_Mo_count_1 (tgt := 67) (by decide) (by decide) rfl rfl ?_
      refine aw_aload_n e_Mo_count_67 rfl ?_
      refine aw_cV0 e_Mo_count_68 ml_Mo_352 mf_Mo_holds mv_Mo_holds (c_Mo_holds hS hC hW ?_)
      have hq := hQ I L hM fK_0
      unfold op_count at hq
      rw [if_pos hts, ix_n (by decide)] at hq
      exact aw_iret e_Mo_count_71 rfl rfl hq
    · refine aw_tsIn e_Mo_count_1 (tgt := 72) (by decide) (by decide) rfl rfl ?_
      refine aw_aload_n e_Mo_count_72 rfl ?_
      refine aw_getR e_Mo_count_73 fl_Mo_7 (hS.1 _ _ _ _ rfl) ?_
      refine aw_iconst (v := nI 2) e_Mo_count_76 (by decide) ?_
      refine aw_ialE e_Mo_count_77 rfl (show _ < 3110 by omega) (by omega) (by first | exact hC.1.1 | exact hC.1.2.1 | exact hC.1.2.2.1 | exact hC.1.2.2.2 | exact hC.pk (by omega) | exact hC.2.1 _ _ (by omega) (by decide) | exact hC.2.2.1 _ (by omega) | exact hC.2.2.2.1 _ (by omega)) ?_
      have hq := hQ I L hM fK_0
      unfold op_count at hq
      rw [if_pos hts, ix_n (by decide)] at hq
      exact aw_iret e_Mo_count_78 rfl rfl hq
    · refine aw_tsIn e_Mo_count_1 (tgt := 79) (by decide) (by decide) rfl rfl ?_
      refine aw_aload_n e_Mo_count_79 rfl ?_
      refine aw_getE e_Mo_count_80 fl_Mo_343 hM.2.2.2.2.2.2.1 ?_
      have hq := hQ I L hM fK_0
      unfold op_count at hq
      rw [if_pos hts, ix_n (by decide)] at hq
      exact aw_iret e_Mo_count_83 rfl rfl hq
    · refine aw_tsIn e_Mo_count_1 (tgt := 84) (by decide) (by decide) rfl rfl ?_
      refine aw_aload_n e_Mo_count_84 rfl ?_
      refine aw_getE e_Mo_count_85 fl_Mo_229 hM.2.2.2.1.1 ?_
      have hq := hQ I L hM fK_0
      unfold op_count at hq
      rw [if_pos hts, ix_n (by decide)] at hq
      exact aw_iret e_Mo_count_88 rfl rfl hq
    · refine aw_tsIn e_Mo_count_1 (tgt := 89) (by decide) (by decide) rfl rfl ?_
      refine aw_aload_n e_Mo_count_89 rfl ?_
      refine aw_getR e_Mo_count_90 fl_Mo_7 (hS.1 _ _ _ _ rfl) ?_
      refine aw_iconst (v := nI 3) e_Mo_count_93 (by decide) ?_
      refine aw_ialE e_Mo_count_94 rfl (show _ < 3110 by omega) (by omega) (by first | exact hC.1.1 | exact hC.1.2.1 | exact hC.1.2.2.1 | exact hC.1.2.2.2 | exact hC.pk (by omega) | exact hC.2.1 _ _ (by omega) (by decide) | exact hC.2.2.1 _ (by omega) | exact hC.2.2.2.1 _ (by omega)) ?_
      have hq := hQ I L hM fK_0
      unfold op_count at hq
      rw [if_pos hts, ix_n (by decide)] at hq
      exact aw_iret e_Mo_count_95 rfl rfl hq
  · refine aw_tsOut e_Mo_count_1 (tgt := 96) (by unfold inR at hts; omega) rfl ?_
    refine aw_ldc (v := -1000000001) e_Mo_count_96 kc_Mo_89 ?_
    have hq := hQ I L hM fK_0
    unfold op_count at hq
    rw [if_neg hts] at hq
    exact aw_iret e_Mo_count_98 rfl rfl hq
