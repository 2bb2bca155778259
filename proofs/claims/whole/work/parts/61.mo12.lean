/-! ===== the model's calls, 3 ===== -/
theorem MC_ovr {I : It} {V : Mc} {p : Nat} (h : MC I 0 V) (hW : WF V) (hp : p < nP V) : MC (sI I 28 0 (10 + 5 * p + 2) (nI (pP V p 2 + 1))) 0 (ovr V p) := MC_setP h hW hp (fun n hn => by rw [sI_ne (by omega)]) (fun f hf => by
  by_cases e : f = 2
  · rw [if_pos e, e, sI_eq]
  · rw [if_neg e, sI_ne (by omega)]; exact h.2.1 p f hp hf)
theorem ovr_2 (V : Mc) (p : Nat) : pP (ovr V p) p 2 = pP V p 2 + 1 := by
  unfold ovr
  rw [setP_pP, if_pos rfl, if_pos rfl]
theorem dfB_y {V W : Mc} {n : Nat} (h : ansX V (2 * n) = ansX W (2 * n) ∧ ansX V (2 * n + 1) = ansX W (2 * n + 1)) : dfB V W (n + 1) = dfB V W n := by rw [dfB, if_pos h]
theorem dfB_n {V W : Mc} {n : Nat} (h : ¬ (ansX V (2 * n) = ansX W (2 * n) ∧ ansX V (2 * n + 1) = ansX W (2 * n + 1))) : dfB V W (n + 1) = dfB V W n ||| 2 ^ n := by rw [dfB, if_neg h]
theorem c_Mo_signs {l : Launch} {E : En} {d : Nat} {I : It} {L : Lt} {R : Rt} {Z : Zt} {Q : Qt} {V : Mc} (hS : Sta R) (hC : MC I 0 V) (hWS : WS V) {x : Int32} (hQ : ∀ I2 L2, MC I2 0 V → fG I I2 → Q (some (vi (if inR x (nP V) then sgnV V (ix x) else -1000000001))) I2 L2 R Z) : AMet l E (d + 5) M_Mo_signs [vr 9 0, vi x] I L R Z Q := by
  have hW := hWS.1
  have hnb := hW.1.2.1
  have hnp := hW.1.1
  have hnx := hW.1.2.2.1
  have hns := hW.1.2.2.2
  refine AMet.of mf_Mo_signs rfl (Nat.le_of_ble_eq_true rfl) ?_
  refine aw_aload_n e_Mo_signs_0 rfl ?_
  refine aw_iload_n e_Mo_signs_1 rfl ?_
  refine aw_cV1 e_Mo_signs_2 ml_Mo_122 mf_Mo_isPart mv_Mo_isPart (c_Mo_isPart hS hC hW ?_)
  refine awB_ne e_Mo_signs_5 (fun h5 => ?_) (fun h5 => ?_)
  · obtain ⟨p, hp, rfl⟩ := inR_nI h5
    have hv := hW.2.1 p hp
    refine aw_aload_n e_Mo_signs_11 rfl ?_
    refine aw_cV0 e_Mo_signs_12 ml_Mo_185 mf_Mo_solve mv_Mo_solve (c_Mo_solve hS hC hW (fun I1 L1 hfl1 ha1 hr1 => ?_))
    refine aw_ist2 e_Mo_signs_15 ?_
    refine aw_iload_n e_Mo_signs_16 rfl ?_
    refine aw_iconst (v := nI 1) e_Mo_signs_17 (by decide) ?_
    refine aw_icmp_eq e_Mo_signs_18 (fun h18 => ?_) (fun h18 => ?_)
    · have h1V := (ansV_iff _).1 h18
      have ha1x := ha1 h1V
      have hC1 : MC I1 0 V := hfl1.C hC
      refine aw_iconst (v := nI 0) e_Mo_signs_23 (by decide) ?_
      refine aw_ist3 e_Mo_signs_24 ?_
      refine up_loop (P := fun k => ∀ L2, (∀ c, c < k → L2 42 0 c = L1 38 0 c) → (∀ t i, t ≠ 42 → L2 t i = L1 t i) → AWq l E (d + 5) M_Mo_signs Z 25 [some (vr 9 0), some (vi (nI p)), some (vi (ansV V)), some (vi (nI k)), none] [] I1 L2 R Z Q) (N := 24) (fun k hk ih L2 hw2 hf2 => ?_) 0 (by decide) L1 (fun c hc => absurd hc (Nat.not_lt_zero c)) (fun _ _ _ => rfl)
      refine aw_iload_n e_Mo_signs_25 rfl ?_
      refine aw_bipush (v := nI 24) e_Mo_signs_26 (by decide) ?_
      refine awN_icmp_ge e_Mo_signs_28 (by omega) (by omega) (fun h28 => ?_) (fun h28 => ?_)
      · obtain rfl : k = 24 := by omega
        refine aw_drop 3 ?_
        have hC2 := MC_ovr hC1 hW hp
        refine aw_aload_n e_Mo_signs_49 rfl ?_
        refine aw_getR e_Mo_signs_50 fl_Mo_7 (hS.1 _ _ _ _ rfl) ?_
        refine aw_aload_n e_Mo_signs_53 rfl ?_
        refine aw_iload_n e_Mo_signs_54 rfl ?_
        refine aw_cV1 e_Mo_signs_55 ml_Mo_79 mf_Mo_partAt mv_Mo_partAt (c_Mo_partAt ?_)
        refine aw_iconst (v := nI 2) e_Mo_signs_58 (by decide) ?_
        first | refine awN_iadd e_Mo_signs_59 ?_ | refine aw_iadd e_Mo_signs_59 ?_
        refine aw_dup2 e_Mo_signs_60 rfl rfl ?_
        refine aw_ialE e_Mo_signs_61 rfl (show _ < 3110 by omega) (by omega) (hC1.2.1 p 2 hp (by decide)) ?_
        refine aw_iconst (v := nI 1) e_Mo_signs_62 (by decide) ?_
        first | refine awN_iadd e_Mo_signs_63 ?_ | refine aw_iadd e_Mo_signs_63 ?_
        refine aw_iast e_Mo_signs_64 rfl (show _ < 3110 by omega) (by omega) ?_
        refine aw_aload_n e_Mo_signs_65 rfl ?_
        refine aw_cV0 e_Mo_signs_66 ml_Mo_185 mf_Mo_solve mv_Mo_solve (c_Mo_solve hS hC2 (WF_ovr hWS hp) (fun I3 L3 hfl3 hb3 hr3 => ?_))
        refine aw_ist2 e_Mo_signs_69 ?_
        refine aw_aload_n e_Mo_signs_70 rfl ?_
        refine aw_getR e_Mo_signs_71 fl_Mo_7 (hS.1 _ _ _ _ rfl) ?_
        refine aw_aload_n e_Mo_signs_74 rfl ?_
        refine aw_iload_n e_Mo_signs_75 rfl ?_
        refine aw_cV1 e_Mo_signs_76 ml_Mo_79 mf_Mo_partAt mv_Mo_partAt (c_Mo_partAt ?_)
        refine aw_iconst (v := nI 2) e_Mo_signs_79 (by decide) ?_
        first | refine awN_iadd e_Mo_signs_80 ?_ | refine aw_iadd e_Mo_signs_80 ?_
        refine aw_dup2 e_Mo_signs_81 rfl rfl ?_
        refine aw_ialE e_Mo_signs_82 rfl (show _ < 3110 by omega) (by omega) (show _ = nI (pP V p 2 + 1) by rw [hfl3.1 28 0 (by decide), sI_eq]) ?_
        refine aw_iconst (v := nI 1) e_Mo_signs_83 (by decide) ?_
        refine awN_isub e_Mo_signs_84 (by omega) ?_
        rw [Nat.add_sub_cancel]
        refine aw_iast e_Mo_signs_85 rfl (show _ < 3110 by omega) (by omega) ?_
        have hC4 : MC (sI I3 28 0 (10 + 5 * p + 2) (nI (pP V p 2))) 0 V := hC1.cp hW (fun n hn => by
          by_cases e : n = 10 + 5 * p + 2
          · rw [e, sI_eq]; exact (hC1.2.1 p 2 hp (by decide)).symm
          · rw [sI_ne e, hfl3.1 28 0 (by decide), sI_ne e])
        have hG4 : fG I (sI I3 28 0 (10 + 5 * p + 2) (nI (pP V p 2))) := fG_s (fG_t (fG_s hfl1.G (by decide)) hfl3.G) (by decide)
        have hdd : ansC (ovr V p) = 1 → ∀ c, c < 2 * nB V → ((lg_cmp (L3 38 0 c) (L3 42 0 c)).toInt = 0 ↔ ansX V c = ansX (ovr V p) c) := fun h1 c hc => by
          have q1 := hb3 h1 c (show c < 2 * nB (ovr V p) from hc)
          have q2 := ha1x c hc
          rw [q1.1, hr3 42 0 (by decide) (by decide), hw2 c (by omega), q2.1, lgc_z, pk_lT (by omega), pk_lT (by omega)]
          omega
        refine aw_iconst (v := nI 0) e_Mo_signs_86 (by decide) ?_
        refine aw_ist3 e_Mo_signs_87 ?_
        refine aw_iconst (v := nI 0) e_Mo_signs_88 (by decide) ?_
        refine aw_ist4 e_Mo_signs_89 ?_
        refine up_loop (P := fun i => ∀ y : Int32, (ansC (ovr V p) = 1 → y = nI (dfB V (ovr V p) i)) → AWq l E (d + 5) M_Mo_signs Z 91 [some (vr 9 0), some (vi (nI p)), some (vi (ansV (ovr V p))), some (vi y), some (vi (nI i))] [] (sI I3 28 0 (10 + 5 * p + 2) (nI (pP V p 2))) L3 R Z Q) (N := nB V) (fun i hi ih y hy => ?_) 0 (Nat.zero_le _) _ (fun _ => rfl)
        refine aw_iload e_Mo_signs_91 rfl ?_
        refine aw_aload_n e_Mo_signs_93 rfl ?_
        refine aw_getR e_Mo_signs_94 fl_Mo_7 (hS.1 _ _ _ _ rfl) ?_
        refine aw_iconst (v := nI 1) e_Mo_signs_97 (by decide) ?_
        refine aw_ialE e_Mo_signs_98 rfl (show _ < 3110 by omega) (by omega) hC4.1.2.1 ?_
        refine awN_icmp_ge e_Mo_signs_99 (by omega) (by omega) (fun h99 => ?_) (fun h99 => ?_)
        · refine aw_iload_n e_Mo_signs_167 rfl ?_
          refine aw_iconst (v := nI 1) e_Mo_signs_168 (by decide) ?_
          refine aw_icmp_eq e_Mo_signs_169 (fun h169 => ?_) (fun h169 => ?_)
          · refine aw_iload_n e_Mo_signs_176 rfl ?_
            have hq := hQ _ L3 hC4 hG4
            rw [if_pos h5, ix_n (j := p) (by omega)] at hq
            unfold sgnV at hq
            rw [if_pos h1V] at hq
            first
              | (rw [if_pos ((ansV_iff _).1 h169)] at hq; rw [hy ((ansV_iff _).1 h169), show i = nB V by omega]; exact aw_iret e_Mo_signs_177 rfl rfl hq)
              | (rw [if_neg (fun z => h169 ((ansV_iff _).2 z))] at hq; exact aw_iret e_Mo_signs_177 rfl rfl hq)
          · refine aw_iload_n e_Mo_signs_172 rfl ?_
            refine aw_goto e_Mo_signs_173 ?_
            have hq := hQ _ L3 hC4 hG4
            rw [if_pos h5, ix_n (j := p) (by omega)] at hq
            unfold sgnV at hq
            rw [if_pos h1V] at hq
            first
              | (rw [if_pos ((ansV_iff _).1 h169)] at hq; rw [hy ((ansV_iff _).1 h169), show i = nB V by omega]; exact aw_iret e_Mo_signs_177 rfl rfl hq)
              | (rw [if_neg (fun z => h169 ((ansV_iff _).2 z))] at hq; exact aw_iret e_Mo_signs_177 rfl rfl hq)
        · refine aw_iload_n e_Mo_signs_102 rfl ?_
          refine aw_aload_n e_Mo_signs_103 rfl ?_
          refine aw_getR e_Mo_signs_104 fl_Mo_47 (hS.1 _ _ _ _ rfl) ?_
          refine aw_iconst (v := nI 2) e_Mo_signs_107 (by decide) ?_
          refine aw_iload e_Mo_signs_108 rfl ?_
          first | refine awN_imul e_Mo_signs_110 ?_ | refine aw_imul e_Mo_signs_110 ?_
          refine aw_lald e_Mo_signs_111 rfl (show _ < 24 by omega) (by omega) ?_
          refine aw_aload_n e_Mo_signs_112 rfl ?_
          refine aw_getR e_Mo_signs_113 fl_Mo_59 (hS.1 _ _ _ _ rfl) ?_
          refine aw_iconst (v := nI 2) e_Mo_signs_116 (by decide) ?_
          refine aw_iload e_Mo_signs_117 rfl ?_
          first | refine awN_imul e_Mo_signs_119 ?_ | refine aw_imul e_Mo_signs_119 ?_
          refine aw_lald e_Mo_signs_120 rfl (show _ < 24 by omega) (by omega) ?_
          refine aw_lcmp e_Mo_signs_121 ?_
          refine awZ_if_ne e_Mo_signs_122 (fun h122 => ?_) (fun h122 => ?_)
          · refine aw_iconst (v := nI 1) e_Mo_signs_151 (by decide) ?_
            refine aw_iload e_Mo_signs_152 rfl ?_
            refine aw_ishl e_Mo_signs_154 ?_
            rw [shlS (by omega) (by have := pow12 (f := i) (by omega); omega), Nat.one_mul]
            refine aw_goto e_Mo_signs_155 ?_
            refine aw_ior e_Mo_signs_159 ?_
            refine aw_ist3 e_Mo_signs_160 ?_
            refine aw_inc4 e_Mo_signs_161 (inc1 _) ?_
            refine aw_goto e_Mo_signs_164 ?_
            refine ih h99 _ (fun h1 => ?_)
            have d0 := hdd h1 (2 * i) (by omega)
            have d1 := hdd h1 (2 * i + 1) (by omega)
            rw [hy h1, fa_or]
            first
              | (rw [dfB_n (fun z => h122 (d0.2 z.1))])
              | (rw [dfB_n (fun z => h148 (d1.2 z.2))])
              | (rw [dfB_y ⟨d0.1 h122, d1.1 h148⟩, Nat.or_zero])
          · refine aw_aload_n e_Mo_signs_125 rfl ?_
            refine aw_getR e_Mo_signs_126 fl_Mo_47 (hS.1 _ _ _ _ rfl) ?_
            refine aw_iconst (v := nI 2) e_Mo_signs_129 (by decide) ?_
            refine aw_iload e_Mo_signs_130 rfl ?_
            first | refine awN_imul e_Mo_signs_132 ?_ | refine aw_imul e_Mo_signs_132 ?_
            refine aw_iconst (v := nI 1) e_Mo_signs_133 (by decide) ?_
            first | refine awN_iadd e_Mo_signs_134 ?_ | refine aw_iadd e_Mo_signs_134 ?_
            refine aw_lald e_Mo_signs_135 rfl (show _ < 24 by omega) (by omega) ?_
            refine aw_aload_n e_Mo_signs_136 rfl ?_
            refine aw_getR e_Mo_signs_137 fl_Mo_59 (hS.1 _ _ _ _ rfl) ?_
            refine aw_iconst (v := nI 2) e_Mo_signs_140 (by decide) ?_
            refine aw_iload e_Mo_signs_141 rfl ?_
            first | refine awN_imul e_Mo_signs_143 ?_ | refine aw_imul e_Mo_signs_143 ?_
            refine aw_iconst (v := nI 1) e_Mo_signs_144 (by decide) ?_
            first | refine awN_iadd e_Mo_signs_145 ?_ | refine aw_iadd e_Mo_signs_145 ?_
            refine aw_lald e_Mo_signs_146 rfl (show _ < 24 by omega) (by omega) ?_
            refine aw_lcmp e_Mo_signs_147 ?_
            refine awZ_if_eq e_Mo_signs_148 (fun h148 => ?_) (fun h148 => ?_)
            · refine aw_iconst (v := nI 0) e_Mo_signs_158 (by decide) ?_
              refine aw_ior e_Mo_signs_159 ?_
              refine aw_ist3 e_Mo_signs_160 ?_
              refine aw_inc4 e_Mo_signs_161 (inc1 _) ?_
              refine aw_goto e_Mo_signs_164 ?_
              refine ih h99 _ (fun h1 => ?_)
              have d0 := hdd h1 (2 * i) (by omega)
              have d1 := hdd h1 (2 * i + 1) (by omega)
              rw [hy h1, fa_or]
              first
                | (rw [dfB_n (fun z => h122 (d0.2 z.1))])
                | (rw [dfB_n (fun z => h148 (d1.2 z.2))])
                | (rw [dfB_y ⟨d0.1 h122, d1.1 h148⟩, Nat.or_zero])
            · refine aw_iconst (v := nI 1) e_Mo_signs_151 (by decide) ?_
              refine aw_iload e_Mo_signs_152 rfl ?_
              refine aw_ishl e_Mo_signs_154 ?_
              rw [shlS (by omega) (by have := pow12 (f := i) (by omega); omega), Nat.one_mul]
              refine aw_goto e_Mo_signs_155 ?_
              refine aw_ior e_Mo_signs_159 ?_
              refine aw_ist3 e_Mo_signs_160 ?_
              refine aw_inc4 e_Mo_signs_161 (inc1 _) ?_
              refine aw_goto e_Mo_signs_164 ?_
              refine ih h99 _ (fun h1 => ?_)
              have d0 := hdd h1 (2 * i) (by omega)
              have d1 := hdd h1 (2 * i + 1) (by omega)
              rw [hy h1, fa_or]
              first
                | (rw [dfB_n (fun z => h122 (d0.2 z.1))])
                | (rw [dfB_n (fun z => h148 (d1.2 z.2))])
                | (rw [dfB_y ⟨d0.1 h122, d1.1 h148⟩, Nat.or_zero])
      · refine aw_aload_n e_Mo_signs_31 rfl ?_
        refine aw_getR e_Mo_signs_32 fl_Mo_59 (hS.1 _ _ _ _ rfl) ?_
        refine aw_iload_n e_Mo_signs_35 rfl ?_
        refine aw_aload_n e_Mo_signs_36 rfl ?_
        refine aw_getR e_Mo_signs_37 fl_Mo_47 (hS.1 _ _ _ _ rfl) ?_
        refine aw_iload_n e_Mo_signs_40 rfl ?_
        refine aw_lald e_Mo_signs_41 rfl (show _ < 24 by omega) (by omega) ?_
        refine aw_last e_Mo_signs_42 rfl (show _ < 24 by omega) (by omega) ?_
        refine aw_inc3 e_Mo_signs_43 (inc1 _) ?_
        refine aw_goto e_Mo_signs_46 ?_
        refine ih h28 _ (fun c hc => ?_) (fun t i ht => by rw [sL_n (by omega)]; exact hf2 t i ht)
        by_cases e : c = k
        · rw [e, sL_eq, hf2 38 0 (by decide)]
        · rw [sL_ne e]; exact hw2 c (by omega)
    · refine aw_iload_n e_Mo_signs_21 rfl ?_
      have hq := hQ I1 L1 (hfl1.C hC) hfl1.G
      rw [if_pos h5, ix_n (j := p) (by omega)] at hq
      unfold sgnV at hq
      rw [if_neg (fun z => h18 ((ansV_iff _).2 z))] at hq
      exact aw_iret e_Mo_signs_22 rfl rfl hq
  · refine aw_ldc (v := -1000000001) e_Mo_signs_8 kc_Mo_89 ?_
    have hq := hQ I L hC fG_0
    rw [if_neg h5] at hq
    exact aw_iret e_Mo_signs_10 rfl rfl hq
theorem c_Mo_apart {l : Launch} {E : En} {d : Nat} {I : It} {L : Lt} {R : Rt} {Z : Zt} {Q : Qt} {S : AS} (hS : Sta R) (hM : MSt I S) (hA : AWF S) {x y : Int32} (hQ : ∀ I2 L2, MSt I2 (op_apart S x y).1 → fK I I2 → Q (some (vi (op_apart S x y).2)) I2 L2 R Z) : AMet l E (d + 6) M_Mo_apart [vr 9 0, vi x, vi y] I L R Z Q := by
  have hC := hM.1
  have hW := hA.1.1
  have hnb := hW.1.2.1
  have hnp := hW.1.1
  have hnx := hW.1.2.2.1
  have hns := hW.1.2.2.2
  refine AMet.of mf_Mo_apart rfl (Nat.le_of_ble_eq_true rfl) ?_
  refine aw_aload_n e_Mo_apart_0 rfl ?_
  refine aw_iload_n e_Mo_apart_1 rfl ?_
  refine aw_cV1 e_Mo_apart_2 ml_Mo_122 mf_Mo_isPart mv_Mo_isPart (c_Mo_isPart hS hC hW ?_)
  refine awB_eq e_Mo_apart_5 (fun h5 => ?_) (fun h5 => ?_)
  · refine aw_ldc (v := -1000000001) e_Mo_apart_21 kc_Mo_89 ?_
    have hq := hQ I L hM fK_0
    unfold op_apart at hq
    first
      | (rw [if_neg (fun z => h5 z.1)] at hq; exact aw_iret e_Mo_apart_23 rfl rfl hq)
      | (rw [if_neg (fun z => h13 z.2.1)] at hq; exact aw_iret e_Mo_apart_23 rfl rfl hq)
      | (rw [if_neg (fun z => z.2.2 h18)] at hq; exact aw_iret e_Mo_apart_23 rfl rfl hq)
  · refine aw_aload_n e_Mo_apart_8 rfl ?_
    refine aw_iload_n e_Mo_apart_9 rfl ?_
    refine aw_cV1 e_Mo_apart_10 ml_Mo_122 mf_Mo_isPart mv_Mo_isPart (c_Mo_isPart hS hC hW ?_)
    refine awB_eq e_Mo_apart_13 (fun h13 => ?_) (fun h13 => ?_)
    · refine aw_ldc (v := -1000000001) e_Mo_apart_21 kc_Mo_89 ?_
      have hq := hQ I L hM fK_0
      unfold op_apart at hq
      first
        | (rw [if_neg (fun z => h5 z.1)] at hq; exact aw_iret e_Mo_apart_23 rfl rfl hq)
        | (rw [if_neg (fun z => h13 z.2.1)] at hq; exact aw_iret e_Mo_apart_23 rfl rfl hq)
        | (rw [if_neg (fun z => z.2.2 h18)] at hq; exact aw_iret e_Mo_apart_23 rfl rfl hq)
    · refine aw_iload_n e_Mo_apart_16 rfl ?_
      refine aw_iload_n e_Mo_apart_17 rfl ?_
      refine aw_icmp_ne e_Mo_apart_18 (fun h18 => ?_) (fun h18 => ?_)
      · refine aw_aload_n e_Mo_apart_24 rfl ?_
        refine aw_iload_n e_Mo_apart_25 rfl ?_
        refine aw_cV1 e_Mo_apart_26 ml_Mo_326 mf_Mo_signs mv_Mo_signs (c_Mo_signs hS hC hA.1 (fun I2 L2 hC2 hf2 => ?_))
        rw [if_pos h5]
        refine aw_ist3 e_Mo_apart_29 ?_
        refine aw_aload_n e_Mo_apart_30 rfl ?_
        refine aw_iload_n e_Mo_apart_31 rfl ?_
        refine aw_cV1 e_Mo_apart_32 ml_Mo_326 mf_Mo_signs mv_Mo_signs (c_Mo_signs hS hC2 hA.1 (fun I3 L3 hC3 hf3 => ?_))
        rw [if_pos h13]
        refine aw_ist4 e_Mo_apart_35 ?_
        refine aw_iload_n e_Mo_apart_37 rfl ?_
        refine awZ_if_ge e_Mo_apart_38 (fun h38 => ?_) (fun h38 => ?_)
        · refine aw_iload e_Mo_apart_45 rfl ?_
          refine awZ_if_ge e_Mo_apart_47 (fun h47 => ?_) (fun h47 => ?_)
          · refine aw_iload_n e_Mo_apart_55 rfl ?_
            refine aw_iload e_Mo_apart_56 rfl ?_
            refine aw_icmp_ne e_Mo_apart_58 (fun h58 => ?_) (fun h58 => ?_)
            · refine aw_iconst (v := nI 1) e_Mo_apart_65 (by decide) ?_
              have hfm : fM I I3 := (fG_t hf2 hf3).M
              have hq := hQ I3 L3 ⟨hC3, hM.2.keep hfm⟩ hfm.K
              unfold op_apart at hq
              rw [if_pos ⟨h5, h13, h18⟩] at hq
              first
                | (rw [if_pos (by omega)] at hq; exact aw_iret e_Mo_apart_66 rfl rfl hq)
                | (rw [if_neg (by omega), if_pos (by omega)] at hq; exact aw_iret e_Mo_apart_66 rfl rfl hq)
                | (rw [if_neg (by omega), if_neg (by omega)] at hq; exact awB_1 e_Mo_apart_66 h58 hq)
                | (rw [if_neg (by omega), if_neg (by omega)] at hq; exact awB_0 e_Mo_apart_66 (not_not_intro h58) hq)
            · refine aw_iconst (v := nI 0) e_Mo_apart_61 (by decide) ?_
              refine aw_goto e_Mo_apart_62 ?_
              have hfm : fM I I3 := (fG_t hf2 hf3).M
              have hq := hQ I3 L3 ⟨hC3, hM.2.keep hfm⟩ hfm.K
              unfold op_apart at hq
              rw [if_pos ⟨h5, h13, h18⟩] at hq
              first
                | (rw [if_pos (by omega)] at hq; exact aw_iret e_Mo_apart_66 rfl rfl hq)
                | (rw [if_neg (by omega), if_pos (by omega)] at hq; exact aw_iret e_Mo_apart_66 rfl rfl hq)
                | (rw [if_neg (by omega), if_neg (by omega)] at hq; exact awB_1 e_Mo_apart_66 h58 hq)
                | (rw [if_neg (by omega), if_neg (by omega)] at hq; exact awB_0 e_Mo_apart_66 (not_not_intro h58) hq)
          · refine aw_iload e_Mo_apart_50 rfl ?_
            refine aw_goto e_Mo_apart_52 ?_
            have hfm : fM I I3 := (fG_t hf2 hf3).M
            have hq := hQ I3 L3 ⟨hC3, hM.2.keep hfm⟩ hfm.K
            unfold op_apart at hq
            rw [if_pos ⟨h5, h13, h18⟩] at hq
            first
              | (rw [if_pos (by omega)] at hq; exact aw_iret e_Mo_apart_66 rfl rfl hq)
              | (rw [if_neg (by omega), if_pos (by omega)] at hq; exact aw_iret e_Mo_apart_66 rfl rfl hq)
              | (rw [if_neg (by omega), if_neg (by omega)] at hq; exact awB_1 e_Mo_apart_66 h58 hq)
              | (rw [if_neg (by omega), if_neg (by omega)] at hq; exact awB_0 e_Mo_apart_66 (not_not_intro h58) hq)
        · refine aw_iload_n e_Mo_apart_41 rfl ?_
          refine aw_goto e_Mo_apart_42 ?_
          have hfm : fM I I3 := (fG_t hf2 hf3).M
          have hq := hQ I3 L3 ⟨hC3, hM.2.keep hfm⟩ hfm.K
          unfold op_apart at hq
          rw [if_pos ⟨h5, h13, h18⟩] at hq
          first
            | (rw [if_pos (by omega)] at hq; exact aw_iret e_Mo_apart_66 rfl rfl hq)
            | (rw [if_neg (by omega), if_pos (by omega)] at hq; exact aw_iret e_Mo_apart_66 rfl rfl hq)
            | (rw [if_neg (by omega), if_neg (by omega)] at hq; exact awB_1 e_Mo_apart_66 h58 hq)
            | (rw [if_neg (by omega), if_neg (by omega)] at hq; exact awB_0 e_Mo_apart_66 (not_not_intro h58) hq)
      · refine aw_ldc (v := -1000000001) e_Mo_apart_21 kc_Mo_89 ?_
        have hq := hQ I L hM fK_0
        unfold op_apart at hq
        first
          | (rw [if_neg (fun z => h5 z.1)] at hq; exact aw_iret e_Mo_apart_23 rfl rfl hq)
          | (rw [if_neg (fun z => h13 z.2.1)] at hq; exact aw_iret e_Mo_apart_23 rfl rfl hq)
          | (rw [if_neg (fun z => z.2.2 h18)] at hq; exact aw_iret e_Mo_apart_23 rfl rfl hq)
theorem c_Mo_signsO {l : Launch} {E : En} {d : Nat} {I : It} {L : Lt} {R : Rt} {Z : Zt} {Q : Qt} {S : AS} (hS : Sta R) (hM : MSt I S) (hA : AWF S) {x : Int32} (hQ : ∀ I2 L2, MSt I2 (op_signs S x).1 → fK I I2 → Q (some (vi (op_signs S x).2)) I2 L2 R Z) : AMet l E (d + 5) M_Mo_signs [vr 9 0, vi x] I L R Z Q :=
  c_Mo_signs hS hM.1 hA.1 (fun I2 L2 hC2 hf2 => hQ I2 L2 ⟨hC2, hM.2.keep hf2.M⟩ hf2.M.K)
theorem duV_s {V : Mc} {i : Nat} : setP (duV V i) i (duF (pP V i)) = duV V (i + 1) := by
  unfold setP
  refine Prod.ext rfl (Prod.ext rfl (Prod.ext rfl (Prod.ext rfl (Prod.ext ?_ rfl))))
  funext q f
  show (if q = i then duF (pP V i) f else pP (duV V i) q f) = pP (duV V (i + 1)) q f
  rw [duV_P, duV_P]
  by_cases e : q = i
  · rw [if_pos e, if_pos (by omega), e]
  · rw [if_neg e]
    by_cases e2 : q < i
    · rw [if_pos e2, if_pos (by omega)]
    · rw [if_neg e2, if_neg (by omega)]
theorem duV_i (V : Mc) (i f : Nat) : pP (duV V i) i f = pP V i f := by rw [duV_P, if_neg (Nat.lt_irrefl i)]
theorem duV_0 (V : Mc) : duV V 0 = V := by
  refine Prod.ext rfl (Prod.ext rfl (Prod.ext rfl (Prod.ext rfl (Prod.ext ?_ rfl))))
  funext q f
  show pP (duV V 0) q f = pP V q f
  rw [duV_P, if_neg (Nat.not_lt_zero q)]
theorem c_Mo_dual {l : Launch} {E : En} {d : Nat} {I : It} {L : Lt} {R : Rt} {Z : Zt} {Q : Qt} {S : AS} (hS : Sta R) (hM : MSt I S) (hA : AWF S) (hQ : ∀ I2 L2, MSt I2 (op_dual S).1 → fK I I2 → Q (some (vi (op_dual S).2)) I2 L2 R Z) : AMet l E (d + 1) M_Mo_dual [vr 9 0] I L R Z Q := by
  have hC := hM.1
  have hW := hA.1.1
  have hnb := hW.1.2.1
  have hnp := hW.1.1
  have hnx := hW.1.2.2.1
  have hns := hW.1.2.2.2
  refine AMet.of mf_Mo_dual rfl (Nat.le_of_ble_eq_true rfl) ?_
  refine aw_iconst (v := nI 0) e_Mo_dual_0 (by decide) ?_
  refine aw_ist1 e_Mo_dual_1 ?_
  refine aw_iconst (v := nI 0) e_Mo_dual_2 (by decide) ?_
  refine aw_ist2 e_Mo_dual_3 ?_
  refine up_loop (P := fun i => ∀ I2, MC I2 0 (duV (sM S) i) → fG I I2 → AWq l E (d + 1) M_Mo_dual Z 4 [some (vr 9 0), some (vi (nI (cnt (fun p => !(pP (sM S) p 0 == 4)) i))), some (vi (nI i)), none] [] I2 L R Z Q) (N := nP (sM S)) (fun i hi ih I2 hC2 hf2 => ?_) 0 (Nat.zero_le _) I (by rw [duV_0]; exact hC) fG_0
  refine aw_iload_n e_Mo_dual_4 rfl ?_
  refine aw_aload_n e_Mo_dual_5 rfl ?_
  refine aw_getR e_Mo_dual_6 fl_Mo_7 (hS.1 _ _ _ _ rfl) ?_
  refine aw_iconst (v := nI 0) e_Mo_dual_9 (by decide) ?_
  refine aw_ialE e_Mo_dual_10 rfl (show _ < 3110 by omega) (by omega) (show _ = nI (nP (sM S)) from hC2.1.1) ?_
  refine awN_icmp_ge e_Mo_dual_11 (by omega) (by omega) (fun h11 => ?_) (fun h11 => ?_)
  · refine aw_iload_n e_Mo_dual_83 rfl ?_
    obtain rfl : i = nP (sM S) := by omega
    exact aw_iret e_Mo_dual_84 rfl rfl (hQ I2 L (hM.mach hf2.M hC2) hf2.M.K)
  · have hv := hW.2.1 i h11
    refine aw_aload_n e_Mo_dual_14 rfl ?_
    refine aw_iload_n e_Mo_dual_15 rfl ?_
    refine aw_cV1 e_Mo_dual_16 ml_Mo_79 mf_Mo_partAt mv_Mo_partAt (c_Mo_partAt ?_)
    refine aw_ist3 e_Mo_dual_19 ?_
    refine aw_aload_n e_Mo_dual_20 rfl ?_
    refine aw_getR e_Mo_dual_21 fl_Mo_7 (hS.1 _ _ _ _ rfl) ?_
    refine aw_iload_n e_Mo_dual_24 rfl ?_
    refine aw_ialE e_Mo_dual_25 rfl (show _ < 3110 by omega) (by omega) (show _ = nI (pP (sM S) i 0) from duV_i (sM S) i 0 ▸ hC2.2.1 i 0 h11 (by decide)) ?_
    refine aw_iconst (v := nI 4) e_Mo_dual_26 (by decide) ?_
    refine awN_icmp_ne e_Mo_dual_27 (by omega) (by omega) (fun h27 => ?_) (fun h27 => ?_)
    · refine aw_aload_n e_Mo_dual_56 rfl ?_
      refine aw_getR e_Mo_dual_57 fl_Mo_7 (hS.1 _ _ _ _ rfl) ?_
      refine aw_iload_n e_Mo_dual_60 rfl ?_
      refine aw_iconst (v := nI 1) e_Mo_dual_61 (by decide) ?_
      first | refine awN_iadd e_Mo_dual_62 ?_ | refine aw_iadd e_Mo_dual_62 ?_
      refine aw_iconst (v := nI 1) e_Mo_dual_63 (by decide) ?_
      refine aw_aload_n e_Mo_dual_64 rfl ?_
      refine aw_getR e_Mo_dual_65 fl_Mo_7 (hS.1 _ _ _ _ rfl) ?_
      refine aw_iload_n e_Mo_dual_68 rfl ?_
      refine aw_iconst (v := nI 1) e_Mo_dual_69 (by decide) ?_
      first | refine awN_iadd e_Mo_dual_70 ?_ | refine aw_iadd e_Mo_dual_70 ?_
      refine aw_ialE e_Mo_dual_71 rfl (show _ < 3110 by omega) (by omega) (show _ = nI (pP (sM S) i 1) from duV_i (sM S) i 1 ▸ hC2.2.1 i 1 h11 (by decide)) ?_
      refine awN_isub e_Mo_dual_72 (by omega) ?_
      refine aw_iast e_Mo_dual_73 rfl (show _ < 3110 by omega) (by omega) ?_
      refine aw_inc1 e_Mo_dual_74 (inc1 _) ?_
      refine aw_inc2 e_Mo_dual_77 (inc1 _) ?_
      refine aw_goto e_Mo_dual_80 ?_
      refine aw_drop 3 ?_
      have hk := ih h11
      first
        | (rw [cnt_f2 (P := fun p => !(pP (sM S) p 0 == 4)) (n := i) (by simp [h27])] at hk
           refine hk _ ?_ (fG_s (fG_s hf2 (by decide)) (by decide))
           rw [← duV_s]
           refine MC_setP hC2 (WS_duV hA.1 i).1 h11 (fun n hn => by rw [sI_ne (by omega), sI_ne (by omega)]) (fun f hf => ?_)
           unfold duF
           rw [if_pos h27]
           by_cases e2 : f = 2
           · rw [if_pos e2, e2, sI_eq]
           · rw [if_neg e2, sI_ne (by omega)]
             by_cases e3 : f = 3
             · rw [if_pos e3, e3, sI_eq]
             · rw [if_neg e3, sI_ne (by omega), ← duV_i]; exact hC2.2.1 i f h11 hf)
        | (rw [cnt_t (P := fun p => !(pP (sM S) p 0 == 4)) (n := i) (by simp [h27])] at hk
           refine hk _ ?_ (fG_s hf2 (by decide))
           rw [← duV_s]
           refine MC_setP hC2 (WS_duV hA.1 i).1 h11 (fun n hn => by rw [sI_ne (by omega)]) (fun f hf => ?_)
           unfold duF
           rw [if_neg h27]
           by_cases e1 : f = 1
           · rw [if_pos e1, e1, sI_eq]
           · rw [if_neg e1, sI_ne (by omega), ← duV_i]; exact hC2.2.1 i f h11 hf)
    · refine aw_aload_n e_Mo_dual_30 rfl ?_
      refine aw_getR e_Mo_dual_31 fl_Mo_7 (hS.1 _ _ _ _ rfl) ?_
      refine aw_iload_n e_Mo_dual_34 rfl ?_
      refine aw_iconst (v := nI 2) e_Mo_dual_35 (by decide) ?_
      first | refine awN_iadd e_Mo_dual_36 ?_ | refine aw_iadd e_Mo_dual_36 ?_
      refine aw_aload_n e_Mo_dual_37 rfl ?_
      refine aw_iload_n e_Mo_dual_38 rfl ?_
      refine aw_iconst (v := nI 3) e_Mo_dual_39 (by decide) ?_
      first | refine awN_iadd e_Mo_dual_40 ?_ | refine aw_iadd e_Mo_dual_40 ?_
      refine aw_aload_n e_Mo_dual_41 rfl ?_
      refine aw_getR e_Mo_dual_42 fl_Mo_7 (hS.1 _ _ _ _ rfl) ?_
      refine aw_iload_n e_Mo_dual_45 rfl ?_
      refine aw_iconst (v := nI 2) e_Mo_dual_46 (by decide) ?_
      first | refine awN_iadd e_Mo_dual_47 ?_ | refine aw_iadd e_Mo_dual_47 ?_
      refine aw_ialE e_Mo_dual_48 rfl (show _ < 3110 by omega) (by omega) (show _ = nI (pP (sM S) i 2) from duV_i (sM S) i 2 ▸ hC2.2.1 i 2 h11 (by decide)) ?_
      refine aw_cV2 e_Mo_dual_49 ml_Mo_136 mf_Mo_becomes mv_Mo_becomes (c_Mo_becomes hS (by omega) (show _ = nI (pP (sM S) i 3) from duV_i (sM S) i 3 ▸ hC2.2.1 i 3 h11 (by decide)) ?_)
      refine aw_iast e_Mo_dual_52 rfl (show _ < 3110 by omega) (by omega) ?_
      refine aw_goto e_Mo_dual_53 ?_
      refine aw_inc2 e_Mo_dual_77 (inc1 _) ?_
      refine aw_goto e_Mo_dual_80 ?_
      refine aw_drop 3 ?_
      have hk := ih h11
      first
        | (rw [cnt_f2 (P := fun p => !(pP (sM S) p 0 == 4)) (n := i) (by simp [h27])] at hk
           refine hk _ ?_ (fG_s (fG_s hf2 (by decide)) (by decide))
           rw [← duV_s]
           refine MC_setP hC2 (WS_duV hA.1 i).1 h11 (fun n hn => by rw [sI_ne (by omega), sI_ne (by omega)]) (fun f hf => ?_)
           unfold duF
           rw [if_pos h27]
           by_cases e2 : f = 2
           · rw [if_pos e2, e2, sI_eq]
           · rw [if_neg e2, sI_ne (by omega)]
             by_cases e3 : f = 3
             · rw [if_pos e3, e3, sI_eq]
             · rw [if_neg e3, sI_ne (by omega), ← duV_i]; exact hC2.2.1 i f h11 hf)
        | (rw [cnt_t (P := fun p => !(pP (sM S) p 0 == 4)) (n := i) (by simp [h27])] at hk
           refine hk _ ?_ (fG_s hf2 (by decide))
           rw [← duV_s]
           refine MC_setP hC2 (WS_duV hA.1 i).1 h11 (fun n hn => by rw [sI_ne (by omega)]) (fun f hf => ?_)
           unfold duF
           rw [if_neg h27]
           by_cases e1 : f = 1
           · rw [if_pos e1, e1, sI_eq]
           · rw [if_neg e1, sI_ne (by omega), ← duV_i]; exact hC2.2.1 i f h11 hf)
theorem c_Mo_why {l : Launch} {E : En} {d : Nat} {I : It} {L : Lt} {R : Rt} {Z : Zt} {Q : Qt} {S : AS} (hS : Sta R) (hM : MSt I S) (hA : AWF S) {x y : Int32} (hQ : ∀ I2 L2, MSt I2 (op_why S x y).1 → fK I I2 → Q (some (vi (op_why S x y).2)) I2 L2 R Z) : AMet l E (d + 2) M_Mo_why [vr 9 0, vi x, vi y] I L R Z Q := by
  have hC := hM.1
  have hW := hA.1.1
  have hnb := hW.1.2.1
  have hnp := hW.1.1
  have hnx := hW.1.2.2.1
  have hns := hW.1.2.2.2
  refine AMet.of mf_Mo_why rfl (Nat.le_of_ble_eq_true rfl) ?_
  refine aw_iload_n e_Mo_why_0 rfl ?_
  refine aw_i2l e_Mo_why_1 ?_
  refine aw_lconst (v := lN 0) e_Mo_why_2 rfl ?_
  refine aw_lconst (v := lN 1) e_Mo_why_3 rfl ?_
  refine aw_cS3 e_Mo_why_4 ml_Mo_75 mf_Mo_isIn ms_Mo_isIn (c_Mo_isInC (by decide) (by decide) ?_)
  refine awB_eq e_Mo_why_7 (fun h7 => ?_) (fun h7 => ?_)
  · refine aw_ldc (v := -1000000001) e_Mo_why_38 kc_Mo_89 ?_
    have hq := hQ I L hM fK_0
    unfold op_why at hq
    first
      | (rw [if_pos hg, ix_n (j := k) (by omega), ix_n (j := o) (by omega)] at hq; exact aw_iret e_Mo_why_40 rfl rfl hq)
      | (rw [if_neg (fun w => h7 ⟨w.1.1, by have := w.1.2; omega⟩)] at hq; exact aw_iret e_Mo_why_40 rfl rfl hq)
      | (rw [if_neg (fun w => h19 ⟨w.2.1, by have := w.2.2; omega⟩)] at hq; exact aw_iret e_Mo_why_40 rfl rfl hq)
  · refine aw_iload_n e_Mo_why_10 rfl ?_
    refine aw_i2l e_Mo_why_11 ?_
    refine aw_lconst (v := lN 0) e_Mo_why_12 rfl ?_
    refine aw_ldc2 (v := lN 11) e_Mo_why_13 kl_Mo_98 ?_
    refine aw_cS3 e_Mo_why_16 ml_Mo_75 mf_Mo_isIn ms_Mo_isIn (c_Mo_isInC (by decide) (by decide) ?_)
    refine awB_eq e_Mo_why_19 (fun h19 => ?_) (fun h19 => ?_)
    · refine aw_ldc (v := -1000000001) e_Mo_why_38 kc_Mo_89 ?_
      have hq := hQ I L hM fK_0
      unfold op_why at hq
      first
        | (rw [if_pos hg, ix_n (j := k) (by omega), ix_n (j := o) (by omega)] at hq; exact aw_iret e_Mo_why_40 rfl rfl hq)
        | (rw [if_neg (fun w => h7 ⟨w.1.1, by have := w.1.2; omega⟩)] at hq; exact aw_iret e_Mo_why_40 rfl rfl hq)
        | (rw [if_neg (fun w => h19 ⟨w.2.1, by have := w.2.2; omega⟩)] at hq; exact aw_iret e_Mo_why_40 rfl rfl hq)
    · have hg : inR x 2 ∧ inR y 12 := ⟨⟨by omega, by omega⟩, by omega, by omega⟩
      obtain ⟨k, hk, rfl⟩ := inR_nI hg.1
      obtain ⟨o, ho, rfl⟩ := inR_nI hg.2
      refine aw_aload_n e_Mo_why_22 rfl ?_
      refine aw_bipush (v := nI 12) e_Mo_why_23 (by decide) ?_
      refine aw_iload_n e_Mo_why_25 rfl ?_
      first | refine awN_imul e_Mo_why_26 ?_ | refine aw_imul e_Mo_why_26 ?_
      refine aw_iload_n e_Mo_why_27 rfl ?_
      first | refine awN_iadd e_Mo_why_28 ?_ | refine aw_iadd e_Mo_why_28 ?_
      refine aw_cV1 e_Mo_why_29 ml_Mo_211 mf_Mo_counts mv_Mo_counts (c_Mo_countsG hS hC hW rfl hk ho ?_)
      refine aw_cS1 e_Mo_why_32 ml_Mo_319 mf_Mo_orNone ms_Mo_orNone (c_Mo_orNone ?_)
      refine aw_goto e_Mo_why_35 ?_
      have hq := hQ I L hM fK_0
      unfold op_why at hq
      first
        | (rw [if_pos hg, ix_n (j := k) (by omega), ix_n (j := o) (by omega)] at hq; exact aw_iret e_Mo_why_40 rfl rfl hq)
        | (rw [if_neg (fun w => h7 ⟨w.1.1, by have := w.1.2; omega⟩)] at hq; exact aw_iret e_Mo_why_40 rfl rfl hq)
        | (rw [if_neg (fun w => h19 ⟨w.2.1, by have := w.2.2; omega⟩)] at hq; exact aw_iret e_Mo_why_40 rfl rfl hq)
theorem c_Mo_textTold {l : Launch} {E : En} {d : Nat} {I : It} {L : Lt} {R : Rt} {Z : Zt} {Q : Qt} {S : AS} (hS : Sta R) (hM : MSt I S) (hA : AWF S) {x y : Int32} (hQ : ∀ I2 L2, MSt I2 (op_textTold S x y).1 → fK I I2 → Q (some (vi (op_textTold S x y).2)) I2 L2 R Z) : AMet l E (d + 2) M_Mo_textTold [vr 9 0, vi x, vi y] I L R Z Q := by
  have hC := hM.1
  have hW := hA.1.1
  have hnb := hW.1.2.1
  have hnp := hW.1.1
  have hnx := hW.1.2.2.1
  have hns := hW.1.2.2.2
  refine AMet.of mf_Mo_textTold rfl (Nat.le_of_ble_eq_true rfl) ?_
  refine aw_aload_n e_Mo_textTold_0 rfl ?_
  refine aw_iload_n e_Mo_textTold_1 rfl ?_
  refine aw_cV1 e_Mo_textTold_2 ml_Mo_316 mf_Mo_isText mv_Mo_isText (c_Mo_isText hS hC hW ?_)
  refine awB_eq e_Mo_textTold_5 (fun h5 => ?_) (fun h5 => ?_)
  · refine aw_ldc (v := -1000000001) e_Mo_textTold_20 kc_Mo_89 ?_
    have hq := hQ I L hM fK_0
    unfold op_textTold at hq
    first
      | (rw [if_neg (fun w => h5 w.1)] at hq; exact aw_iret e_Mo_textTold_22 rfl rfl hq)
      | (rw [if_neg (fun w => h17 ⟨w.2.1, by have := w.2.2; omega⟩)] at hq; exact aw_iret e_Mo_textTold_22 rfl rfl hq)
  · refine aw_iload_n e_Mo_textTold_8 rfl ?_
    refine aw_i2l e_Mo_textTold_9 ?_
    refine aw_lconst (v := lN 0) e_Mo_textTold_10 rfl ?_
    refine aw_ldc2 (v := lN 2) e_Mo_textTold_11 kl_Mo_87 ?_
    refine aw_cS3 e_Mo_textTold_14 ml_Mo_75 mf_Mo_isIn ms_Mo_isIn (c_Mo_isInC (by decide) (by decide) ?_)
    refine awB_ne e_Mo_textTold_17 (fun h17 => ?_) (fun h17 => ?_)
    · have hg : inR x (nX (sM S)) ∧ inR y 3 := ⟨h5, by omega, by omega⟩
      obtain ⟨t, ht, rfl⟩ := inR_nI hg.1
      obtain ⟨w, hw, rfl⟩ := inR_nI hg.2
      have hm := hC.2.2.2.2 t ht
      have hwt1 := (hW.2.2.2 t ht).1
      have hwt2 := (hW.2.2.2 t ht).2.1
      refine aw_aload_n e_Mo_textTold_23 rfl ?_
      refine aw_getR e_Mo_textTold_24 fl_Mo_7 (hS.1 _ _ _ _ rfl) ?_
      refine aw_aload_n e_Mo_textTold_27 rfl ?_
      refine aw_iload_n e_Mo_textTold_28 rfl ?_
      refine aw_cV1 e_Mo_textTold_29 ml_Mo_208 mf_Mo_textAt mv_Mo_textAt (c_Mo_textAt ?_)
      refine aw_ialE e_Mo_textTold_32 rfl (show _ < 3110 by omega) (by omega) hm.1 ?_
      refine aw_ist3 e_Mo_textTold_33 ?_
      refine aw_iload_n e_Mo_textTold_34 rfl ?_
      refine awN_if_ne e_Mo_textTold_35 (by omega) (fun h35 => ?_) (fun h35 => ?_)
      · refine aw_iload_n e_Mo_textTold_45 rfl ?_
        refine aw_iconst (v := nI 1) e_Mo_textTold_46 (by decide) ?_
        refine awN_icmp_ne e_Mo_textTold_47 (by omega) (by omega) (fun h47 => ?_) (fun h47 => ?_)
        · refine aw_aload_n e_Mo_textTold_57 rfl ?_
          refine aw_getR e_Mo_textTold_58 fl_Mo_7 (hS.1 _ _ _ _ rfl) ?_
          refine aw_aload_n e_Mo_textTold_61 rfl ?_
          refine aw_iload_n e_Mo_textTold_62 rfl ?_
          refine aw_cV1 e_Mo_textTold_63 ml_Mo_208 mf_Mo_textAt mv_Mo_textAt (c_Mo_textAt ?_)
          refine aw_iconst (v := nI 1) e_Mo_textTold_66 (by decide) ?_
          first | refine awN_iadd e_Mo_textTold_67 ?_ | refine aw_iadd e_Mo_textTold_67 ?_
          refine aw_ialE e_Mo_textTold_68 rfl (show _ < 3110 by omega) (by omega) hm.2.1 ?_
          have hq := hQ I L hM fK_0
          unfold op_textTold at hq
          first
            | (rw [if_pos hg, ix_n (j := t) (by omega), ix_n (j := w) (by omega), if_pos h35] at hq; exact aw_iret e_Mo_textTold_69 rfl rfl hq)
            | (rw [if_pos hg, ix_n (j := t) (by omega), ix_n (j := w) (by omega), if_neg h35, if_pos h47] at hq; exact aw_iret e_Mo_textTold_69 rfl rfl hq)
            | (rw [if_pos hg, ix_n (j := t) (by omega), ix_n (j := w) (by omega), if_neg h35, if_neg h47] at hq; exact aw_iret e_Mo_textTold_69 rfl rfl hq)
        · refine aw_iload_n e_Mo_textTold_50 rfl ?_
          refine aw_bipush (v := nI 12) e_Mo_textTold_51 (by decide) ?_
          refine awN_irem e_Mo_textTold_53 (by omega) (by decide) (by decide) ?_
          rw [show (12 * (tX (sM S) t).1 + (tX (sM S) t).2.1) % 12 = (tX (sM S) t).2.1 by omega]
          refine aw_goto e_Mo_textTold_54 ?_
          have hq := hQ I L hM fK_0
          unfold op_textTold at hq
          first
            | (rw [if_pos hg, ix_n (j := t) (by omega), ix_n (j := w) (by omega), if_pos h35] at hq; exact aw_iret e_Mo_textTold_69 rfl rfl hq)
            | (rw [if_pos hg, ix_n (j := t) (by omega), ix_n (j := w) (by omega), if_neg h35, if_pos h47] at hq; exact aw_iret e_Mo_textTold_69 rfl rfl hq)
            | (rw [if_pos hg, ix_n (j := t) (by omega), ix_n (j := w) (by omega), if_neg h35, if_neg h47] at hq; exact aw_iret e_Mo_textTold_69 rfl rfl hq)
      · refine aw_iload_n e_Mo_textTold_38 rfl ?_
        refine aw_bipush (v := nI 12) e_Mo_textTold_39 (by decide) ?_
        refine awN_idiv e_Mo_textTold_41 (by omega) (by decide) (by decide) ?_
        rw [show (12 * (tX (sM S) t).1 + (tX (sM S) t).2.1) / 12 = (tX (sM S) t).1 by omega]
        refine aw_goto e_Mo_textTold_42 ?_
        have hq := hQ I L hM fK_0
        unfold op_textTold at hq
        first
          | (rw [if_pos hg, ix_n (j := t) (by omega), ix_n (j := w) (by omega), if_pos h35] at hq; exact aw_iret e_Mo_textTold_69 rfl rfl hq)
          | (rw [if_pos hg, ix_n (j := t) (by omega), ix_n (j := w) (by omega), if_neg h35, if_pos h47] at hq; exact aw_iret e_Mo_textTold_69 rfl rfl hq)
          | (rw [if_pos hg, ix_n (j := t) (by omega), ix_n (j := w) (by omega), if_neg h35, if_neg h47] at hq; exact aw_iret e_Mo_textTold_69 rfl rfl hq)
    · refine aw_ldc (v := -1000000001) e_Mo_textTold_20 kc_Mo_89 ?_
      have hq := hQ I L hM fK_0
      unfold op_textTold at hq
      first
        | (rw [if_neg (fun w => h5 w.1)] at hq; exact aw_iret e_Mo_textTold_22 rfl rfl hq)
        | (rw [if_neg (fun w => h17 ⟨w.2.1, by have := w.2.2; omega⟩)] at hq; exact aw_iret e_Mo_textTold_22 rfl rfl hq)
