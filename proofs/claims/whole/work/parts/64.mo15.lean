/-! ===== the model: copies, slots ===== -/
theorem MSt_slot {I I2 : It} {S : AS} {s : Nat} {v : SlV} (h : MSt I S) (hA : AWF S) (e : ∀ t i, t < 32 ∨ 36 < t → I2 t i = I t i) (e2 : ∀ k, k < 5 → k ≠ s → I2 32 0 k = I 32 0 k ∧ I2 33 0 k = I 33 0 k ∧ I2 34 0 k = I 34 0 k ∧ I2 35 0 k = I 35 0 k ∧ ∀ j, j < 24 → I2 36 0 (24 * k + j) = I 36 0 (24 * k + j)) (hv : MSl I2 s v) : MSt I2 (setL S s v) ∧ fK I I2 := by
  obtain ⟨hC, m1, m2, m3, m4, m5, m6⟩ := h
  refine ⟨⟨hC.keep (e 28 0 (by decide)), fun z => (m1 z).keep (e 28 1 (by decide)), by rw [e 9 0 (by decide)]; exact m2, by rw [e 9 0 (by decide), e 39 0 (by decide)]; exact m3, fun i hi => ?_, fun i hi => ?_, by rw [e 9 0 (by decide), e 45 0 (by decide)]; exact m6⟩, fun t i a b => e t i (by omega)⟩
  · unfold MSh
    rw [e 29 0 (by decide), e 30 0 (by decide), e 31 0 (by decide)]
    exact m4 i hi
  · show MSl I2 i (if i = s then v else sL2 S i)
    by_cases z : i = s
    · rw [if_pos z, z]; exact hv
    · rw [if_neg z]
      obtain ⟨a, b, c, d, f⟩ := e2 i hi z
      obtain ⟨n1, n2, n3, n4⟩ := m5 i hi
      have hw := hA.2.2.2.2.2.1 i hi
      exact ⟨a.trans n1, fun q => b.trans (n2 q), fun q => ⟨b.trans (n3 q).1, c.trans (n3 q).2⟩, fun q => ⟨d.trans (n4 q).1, fun j hj => (f j (by have := (hw.2.2 q).1.1; omega)).trans ((n4 q).2 j hj)⟩⟩
theorem add_T {x y : Int32} : (x.toInt64 + y.toInt64).toInt = x.toInt + y.toInt := by
  have hx := i_rng x
  have hy := i_rng y
  rw [Int64.toInt_add, Int32.toInt_toInt64, Int32.toInt_toInt64]
  exact bm64 (by omega) (by omega)
theorem lgc_add {x y : Int32} {n : Nat} (hn : n < 1000) : 0 < (lg_cmp (x.toInt64 + y.toInt64) (lN n)).toInt ↔ (n : Int) < x.toInt + y.toInt := by rw [lgc_gt, add_T, pk_lT (by omega)]
theorem c_Mo_copy {l : Launch} {E : En} {d : Nat} {I : It} {L : Lt} {R : Rt} {Z : Zt} {Q : Qt} {S : AS} (hS : Sta R) (hM : MSt I S) (hA : AWF S) {x y z u v : Int32} (hQ : ∀ I2 L2, MSt I2 (op_copy S x y z u v).1 → fK I I2 → Q (some (vi (op_copy S x y z u v).2)) I2 L2 R Z) : AMet l E (d + 2) M_Mo_copy [vr 9 0, vi x, vi y, vi z, vi u, vi v] I L R Z Q := by
  have hC := hM.1
  have hW := hA.1.1
  have hnb := hW.1.2.1
  have hnp := hW.1.1
  have hnx := hW.1.2.2.1
  have hns := hW.1.2.2.2
  refine AMet.of mf_Mo_copy rfl (Nat.le_of_ble_eq_true rfl) ?_
  refine aw_iload_n e_Mo_copy_0 rfl ?_
  refine aw_cS1 e_Mo_copy_1 ml_Mo_332 mf_Mo_isSheet ms_Mo_isSheet (c_Mo_isSheet ?_)
  refine awB_eq e_Mo_copy_4 (fun h4 => ?_) (fun h4 => ?_)
  · refine aw_ldc (v := -1000000001) e_Mo_copy_14 kc_Mo_89 ?_
    have hq := hQ I L
    unfold op_copy at hq
    first
      | (rw [if_neg (fun w => h4 w.1)] at hq; exact aw_iret e_Mo_copy_16 rfl rfl (hq hM fK_0))
      | (rw [if_neg (fun w => h11 w.2)] at hq; exact aw_iret e_Mo_copy_16 rfl rfl (hq hM fK_0))
  · refine aw_iload_n e_Mo_copy_7 rfl ?_
    refine aw_cS1 e_Mo_copy_8 ml_Mo_332 mf_Mo_isSheet ms_Mo_isSheet (c_Mo_isSheet ?_)
    refine awB_ne e_Mo_copy_11 (fun h11 => ?_) (fun h11 => ?_)
    · obtain ⟨f, hfs, rfl⟩ := inR_nI h4
      obtain ⟨t, hts, rfl⟩ := inR_nI h11
      have hmf := hM.2.2.2.2.1 f hfs
      have hmt := hM.2.2.2.2.1 t hts
      have hwf := hA.2.2.2.2.1 f hfs
      have hwt := hA.2.2.2.2.1 t hts
      have hsf := so_neg hwf
      have hst := so_neg hwt
      have hzf := hwf.1
      have hzt := hwt.1
      have hg1 := @lgc_add y v (sH S f).2.1 (by omega)
      have hg2 := @lgc_add u v (sH S t).2.1 (by omega)
      refine aw_aload_n e_Mo_copy_17 rfl ?_
      refine aw_getR e_Mo_copy_18 fl_Mo_19 (hS.1 _ _ _ _ rfl) ?_
      refine aw_iload_n e_Mo_copy_21 rfl ?_
      refine aw_ialE e_Mo_copy_22 rfl (show _ < 4 by omega) (by omega) hmf.1 ?_
      refine awZ_if_lt e_Mo_copy_23 (fun h23 => ?_) (fun h23 => ?_)
      · refine aw_ldcw (v := -1000000011) e_Mo_copy_35 kc_Mo_336 ?_
        have hq := hQ I L
        unfold op_copy at hq
        first
          | (rw [if_pos ⟨h4, h11⟩, ix_n (j := f) (by omega), ix_n (j := t) (by omega), if_pos (Or.inl (hsf.1 (by omega)))] at hq; exact aw_iret e_Mo_copy_38 rfl rfl (hq hM fK_0))
          | (rw [if_pos ⟨h4, h11⟩, ix_n (j := f) (by omega), ix_n (j := t) (by omega), if_pos (Or.inr (hst.1 (by omega)))] at hq; exact aw_iret e_Mo_copy_38 rfl rfl (hq hM fK_0))
      · refine aw_aload_n e_Mo_copy_26 rfl ?_
        refine aw_getR e_Mo_copy_27 fl_Mo_19 (hS.1 _ _ _ _ rfl) ?_
        refine aw_iload_n e_Mo_copy_30 rfl ?_
        refine aw_ialE e_Mo_copy_31 rfl (show _ < 4 by omega) (by omega) hmt.1 ?_
        refine awZ_if_ge e_Mo_copy_32 (fun h32 => ?_) (fun h32 => ?_)
        · refine aw_aload_n e_Mo_copy_39 rfl ?_
          refine aw_getR e_Mo_copy_40 fl_Mo_19 (hS.1 _ _ _ _ rfl) ?_
          refine aw_iload_n e_Mo_copy_43 rfl ?_
          refine aw_ialE e_Mo_copy_44 rfl (show _ < 4 by omega) (by omega) hmf.1 ?_
          refine aw_aload_n e_Mo_copy_45 rfl ?_
          refine aw_getR e_Mo_copy_46 fl_Mo_19 (hS.1 _ _ _ _ rfl) ?_
          refine aw_iload_n e_Mo_copy_49 rfl ?_
          refine aw_ialE e_Mo_copy_50 rfl (show _ < 4 by omega) (by omega) hmt.1 ?_
          refine aw_icmp_eq e_Mo_copy_51 (fun h51 => ?_) (fun h51 => ?_)
          · refine aw_iload_n e_Mo_copy_57 rfl ?_
            refine awZ_if_lt e_Mo_copy_58 (fun h58 => ?_) (fun h58 => ?_)
            · refine aw_ldcw (v := -1000000013) e_Mo_copy_106 kc_Mo_337 ?_
              have hq := hQ I L
              unfold op_copy at hq
              first
                | (rw [if_pos ⟨h4, h11⟩, ix_n (j := f) (by omega), ix_n (j := t) (by omega), if_neg (fun q => by have := hsf.2; have := hst.2; rcases q with q | q; have := hsf.2 q; omega; have := hst.2 q; omega), if_neg (not_not_intro h51), if_neg (fun w => by have w1 := w.1; have w2 := w.2; unfold inRow at w1 w2; omega)] at hq; exact aw_iret e_Mo_copy_109 rfl rfl (hq hM fK_0))
            · refine aw_iload e_Mo_copy_61 rfl ?_
              refine awZ_if_lt e_Mo_copy_63 (fun h63 => ?_) (fun h63 => ?_)
              · refine aw_ldcw (v := -1000000013) e_Mo_copy_106 kc_Mo_337 ?_
                have hq := hQ I L
                unfold op_copy at hq
                first
                  | (rw [if_pos ⟨h4, h11⟩, ix_n (j := f) (by omega), ix_n (j := t) (by omega), if_neg (fun q => by have := hsf.2; have := hst.2; rcases q with q | q; have := hsf.2 q; omega; have := hst.2 q; omega), if_neg (not_not_intro h51), if_neg (fun w => by have w1 := w.1; have w2 := w.2; unfold inRow at w1 w2; omega)] at hq; exact aw_iret e_Mo_copy_109 rfl rfl (hq hM fK_0))
              · refine aw_iload e_Mo_copy_66 rfl ?_
                refine awZ_if_lt e_Mo_copy_68 (fun h68 => ?_) (fun h68 => ?_)
                · refine aw_ldcw (v := -1000000013) e_Mo_copy_106 kc_Mo_337 ?_
                  have hq := hQ I L
                  unfold op_copy at hq
                  first
                    | (rw [if_pos ⟨h4, h11⟩, ix_n (j := f) (by omega), ix_n (j := t) (by omega), if_neg (fun q => by have := hsf.2; have := hst.2; rcases q with q | q; have := hsf.2 q; omega; have := hst.2 q; omega), if_neg (not_not_intro h51), if_neg (fun w => by have w1 := w.1; have w2 := w.2; unfold inRow at w1 w2; omega)] at hq; exact aw_iret e_Mo_copy_109 rfl rfl (hq hM fK_0))
                · refine aw_iload_n e_Mo_copy_71 rfl ?_
                  refine aw_i2l e_Mo_copy_72 ?_
                  refine aw_iload e_Mo_copy_73 rfl ?_
                  refine aw_i2l e_Mo_copy_75 ?_
                  refine aw_ladd e_Mo_copy_76 ?_
                  refine aw_aload_n e_Mo_copy_77 rfl ?_
                  refine aw_getR e_Mo_copy_78 fl_Mo_22 (hS.1 _ _ _ _ rfl) ?_
                  refine aw_iload_n e_Mo_copy_81 rfl ?_
                  refine aw_ialE e_Mo_copy_82 rfl (show _ < 4 by omega) (by omega) hmf.2.1 ?_
                  first | refine awN_i2l e_Mo_copy_83 (by omega) ?_ | refine aw_i2l e_Mo_copy_83 ?_
                  refine aw_lcmp e_Mo_copy_84 ?_
                  refine awZ_if_gt e_Mo_copy_85 (fun h85 => ?_) (fun h85 => ?_)
                  · refine aw_ldcw (v := -1000000013) e_Mo_copy_106 kc_Mo_337 ?_
                    have hq := hQ I L
                    unfold op_copy at hq
                    first
                      | (rw [if_pos ⟨h4, h11⟩, ix_n (j := f) (by omega), ix_n (j := t) (by omega), if_neg (fun q => by have := hsf.2; have := hst.2; rcases q with q | q; have := hsf.2 q; omega; have := hst.2 q; omega), if_neg (not_not_intro h51), if_neg (fun w => by have w1 := w.1; have w2 := w.2; unfold inRow at w1 w2; omega)] at hq; exact aw_iret e_Mo_copy_109 rfl rfl (hq hM fK_0))
                  · refine aw_iload e_Mo_copy_88 rfl ?_
                    refine aw_i2l e_Mo_copy_90 ?_
                    refine aw_iload e_Mo_copy_91 rfl ?_
                    refine aw_i2l e_Mo_copy_93 ?_
                    refine aw_ladd e_Mo_copy_94 ?_
                    refine aw_aload_n e_Mo_copy_95 rfl ?_
                    refine aw_getR e_Mo_copy_96 fl_Mo_22 (hS.1 _ _ _ _ rfl) ?_
                    refine aw_iload_n e_Mo_copy_99 rfl ?_
                    refine aw_ialE e_Mo_copy_100 rfl (show _ < 4 by omega) (by omega) hmt.2.1 ?_
                    first | refine awN_i2l e_Mo_copy_101 (by omega) ?_ | refine aw_i2l e_Mo_copy_101 ?_
                    refine aw_lcmp e_Mo_copy_102 ?_
                    refine awZ_if_le e_Mo_copy_103 (fun h103 => ?_) (fun h103 => ?_)
                    · have hrw : inRow y v (sH S f).2.1 ∧ inRow u v (sH S t).2.1 := by unfold inRow; omega
                      obtain ⟨p, hp, rfl⟩ := inR_nI (x := y) (n := 25) ⟨by omega, by omega⟩
                      obtain ⟨a, ha, rfl⟩ := inR_nI (x := u) (n := 25) ⟨by omega, by omega⟩
                      obtain ⟨m, hm, rfl⟩ := inR_nI (x := v) (n := 25) ⟨by omega, by omega⟩
                      have hpT := nT (n := p) (by omega)
                      have haT := nT (n := a) (by omega)
                      have hmT := nT (n := m) (by omega)
                      have hpm : p + m ≤ (sH S f).2.1 ∧ a + m ≤ (sH S t).2.1 := by omega
                      refine aw_iconst (v := nI 0) e_Mo_copy_110 (by decide) ?_
                      refine aw_ist6 e_Mo_copy_111 ?_
                      refine up_loop (P := fun k => ∀ I2 : It, (∀ t i, t ≠ 44 → I2 t i = I t i) → (∀ c, c < k → I2 44 0 c = (sH S f).2.2 (p + c)) → AWq l E (d + 2) M_Mo_copy Z 113 [some (vr 9 0), some (vi (nI f)), some (vi (nI p)), some (vi (nI t)), some (vi (nI a)), some (vi (nI m)), some (vi (nI k))] [] I2 L R Z Q) (N := m) (fun k hk ih I2 hf2 hc2 => ?_) 0 (Nat.zero_le _) I (fun _ _ _ => rfl) (fun c hc => absurd hc (Nat.not_lt_zero c))
                      refine aw_iload e_Mo_copy_113 rfl ?_
                      refine aw_iload e_Mo_copy_115 rfl ?_
                      refine awN_icmp_ge e_Mo_copy_117 (by omega) (by omega) (fun h117 => ?_) (fun h117 => ?_)
                      · obtain rfl : k = m := by omega
                        refine aw_drop 6 ?_
                        refine aw_iconst (v := nI 0) e_Mo_copy_147 (by decide) ?_
                        refine aw_ist6 e_Mo_copy_148 ?_
                        refine up_loop (P := fun k2 => ∀ I4 : It, (∀ t i, t ≠ 31 → I4 t i = I2 t i) → (∀ n, n < 24 * t + a ∨ 24 * t + a + k2 ≤ n → I4 31 0 n = I2 31 0 n) → (∀ c, c < k2 → I4 31 0 (24 * t + a + c) = (sH S f).2.2 (p + c)) → AWq l E (d + 2) M_Mo_copy Z 150 [some (vr 9 0), some (vi (nI f)), some (vi (nI p)), some (vi (nI t)), some (vi (nI a)), some (vi (nI k)), some (vi (nI k2))] [] I4 L R Z Q) (N := k) (fun k2 hk2 ih2 I4 hf4 h4o h4i => ?_) 0 (Nat.zero_le _) I2 (fun _ _ _ => rfl) (fun _ _ => rfl) (fun c hc => absurd hc (Nat.not_lt_zero c))
                        refine aw_iload e_Mo_copy_150 rfl ?_
                        refine aw_iload e_Mo_copy_152 rfl ?_
                        refine awN_icmp_ge e_Mo_copy_154 (by omega) (by omega) (fun h154 => ?_) (fun h154 => ?_)
                        · refine aw_iload e_Mo_copy_185 rfl ?_
                          obtain rfl : k2 = k := by omega
                          have hms := MSt_sheet (I2 := I4) (s := t) (v := cpS (sH S f) (sH S t) p a k2) hM hA (fun t2 i2 h29 h30 h31 h44 => by rw [hf4 t2 i2 h31]; exact hf2 t2 i2 h44) (fun q hq hqs => ⟨by rw [hf4 29 0 (by decide), hf2 29 0 (by decide)], by rw [hf4 30 0 (by decide), hf2 30 0 (by decide)], fun j hj => by rw [h4o _ (by omega), hf2 31 0 (by decide)]⟩) ⟨by rw [hf4 29 0 (by decide), hf2 29 0 (by decide)]; exact hmt.1, by rw [hf4 30 0 (by decide), hf2 30 0 (by decide)]; exact hmt.2.1, fun j hj => by
                            have hj2 : j < (sH S t).2.1 := hj
                            show _ = if a ≤ j ∧ j < a + k2 then (sH S f).2.2 (p + (j - a)) else (sH S t).2.2 j
                            by_cases e : a ≤ j ∧ j < a + k2
                            · rw [if_pos e]
                              have h9 := h4i (j - a) (by omega)
                              rw [show 24 * t + a + (j - a) = 24 * t + j by omega] at h9
                              exact h9
                            · rw [if_neg e, h4o _ (by omega), hf2 31 0 (by decide)]
                              exact hmt.2.2 j hj⟩
                          have hq := hQ I4 L
                          unfold op_copy at hq
                          rw [if_pos ⟨h4, h11⟩, ix_n (j := f) (by omega), ix_n (j := t) (by omega), if_neg (fun q => by have := hsf.2; have := hst.2; rcases q with q | q; have := hsf.2 q; omega; have := hst.2 q; omega), if_neg (not_not_intro h51), if_pos hrw, ix_n (j := p) (by omega), ix_n (j := a) (by omega), ix_n (j := k2) (by omega)] at hq
                          exact aw_iret e_Mo_copy_187 rfl rfl (hq hms.1 hms.2)
                        · refine aw_aload_n e_Mo_copy_157 rfl ?_
                          refine aw_getR e_Mo_copy_158 fl_Mo_25 (hS.1 _ _ _ _ rfl) ?_
                          refine aw_bipush (v := nI 24) e_Mo_copy_161 (by decide) ?_
                          refine aw_iload_n e_Mo_copy_163 rfl ?_
                          first | refine awN_imul e_Mo_copy_164 ?_ | refine aw_imul e_Mo_copy_164 ?_
                          refine aw_iload e_Mo_copy_165 rfl ?_
                          first | refine awN_iadd e_Mo_copy_167 ?_ | refine aw_iadd e_Mo_copy_167 ?_
                          refine aw_iload e_Mo_copy_168 rfl ?_
                          first | refine awN_iadd e_Mo_copy_170 ?_ | refine aw_iadd e_Mo_copy_170 ?_
                          refine aw_aload_n e_Mo_copy_171 rfl ?_
                          refine aw_getR e_Mo_copy_172 fl_Mo_65 (hS.1 _ _ _ _ rfl) ?_
                          refine aw_iload e_Mo_copy_175 rfl ?_
                          refine aw_ialE e_Mo_copy_177 rfl (show _ < 24 by omega) (by omega) (show _ = (sH S f).2.2 (p + k2) by rw [hf4 44 0 (by decide)]; exact hc2 k2 (by omega)) ?_
                          refine aw_iast e_Mo_copy_178 rfl (show _ < 96 by omega) (by omega) ?_
                          refine aw_inc6 e_Mo_copy_179 (inc1 _) ?_
                          refine aw_goto e_Mo_copy_182 ?_
                          refine ih2 h154 _ (fun t2 i2 ht => by rw [sI_n (by omega)]; exact hf4 t2 i2 ht) (fun n hn => by rw [sI_ne (by omega)]; exact h4o n (by omega)) (fun c hc => ?_)
                          by_cases e : c = k2
                          · rw [e, sI_eq]
                          · rw [sI_ne (by omega)]; exact h4i c (by omega)
                      · refine aw_aload_n e_Mo_copy_120 rfl ?_
                        refine aw_getR e_Mo_copy_121 fl_Mo_65 (hS.1 _ _ _ _ rfl) ?_
                        refine aw_iload e_Mo_copy_124 rfl ?_
                        refine aw_aload_n e_Mo_copy_126 rfl ?_
                        refine aw_getR e_Mo_copy_127 fl_Mo_25 (hS.1 _ _ _ _ rfl) ?_
                        refine aw_bipush (v := nI 24) e_Mo_copy_130 (by decide) ?_
                        refine aw_iload_n e_Mo_copy_132 rfl ?_
                        first | refine awN_imul e_Mo_copy_133 ?_ | refine aw_imul e_Mo_copy_133 ?_
                        refine aw_iload_n e_Mo_copy_134 rfl ?_
                        first | refine awN_iadd e_Mo_copy_135 ?_ | refine aw_iadd e_Mo_copy_135 ?_
                        refine aw_iload e_Mo_copy_136 rfl ?_
                        first | refine awN_iadd e_Mo_copy_138 ?_ | refine aw_iadd e_Mo_copy_138 ?_
                        refine aw_ialE e_Mo_copy_139 rfl (show _ < 96 by omega) (by omega) (show _ = (sH S f).2.2 (p + k) by rw [hf2 31 0 (by decide), Nat.add_assoc]; exact hmf.2.2 _ (by omega)) ?_
                        refine aw_iast e_Mo_copy_140 rfl (show _ < 24 by omega) (by omega) ?_
                        refine aw_inc6 e_Mo_copy_141 (inc1 _) ?_
                        refine aw_goto e_Mo_copy_144 ?_
                        refine ih h117 _ (fun t i ht => by rw [sI_n (by omega)]; exact hf2 t i ht) (fun c hc => ?_)
                        by_cases e : c = k
                        · rw [e, sI_eq]
                        · rw [sI_ne e]; exact hc2 c (by omega)
                    · refine aw_ldcw (v := -1000000013) e_Mo_copy_106 kc_Mo_337 ?_
                      have hq := hQ I L
                      unfold op_copy at hq
                      first
                        | (rw [if_pos ⟨h4, h11⟩, ix_n (j := f) (by omega), ix_n (j := t) (by omega), if_neg (fun q => by have := hsf.2; have := hst.2; rcases q with q | q; have := hsf.2 q; omega; have := hst.2 q; omega), if_neg (not_not_intro h51), if_neg (fun w => by have w1 := w.1; have w2 := w.2; unfold inRow at w1 w2; omega)] at hq; exact aw_iret e_Mo_copy_109 rfl rfl (hq hM fK_0))
          · refine aw_ldc (v := -1000000012) e_Mo_copy_54 kc_Mo_133 ?_
            have hq := hQ I L
            unfold op_copy at hq
            first
              | (rw [if_pos ⟨h4, h11⟩, ix_n (j := f) (by omega), ix_n (j := t) (by omega), if_neg (fun q => by have := hsf.2; have := hst.2; rcases q with q | q; have := hsf.2 q; omega; have := hst.2 q; omega), if_pos h51] at hq; exact aw_iret e_Mo_copy_56 rfl rfl (hq hM fK_0))
        · refine aw_ldcw (v := -1000000011) e_Mo_copy_35 kc_Mo_336 ?_
          have hq := hQ I L
          unfold op_copy at hq
          first
            | (rw [if_pos ⟨h4, h11⟩, ix_n (j := f) (by omega), ix_n (j := t) (by omega), if_pos (Or.inl (hsf.1 (by omega)))] at hq; exact aw_iret e_Mo_copy_38 rfl rfl (hq hM fK_0))
            | (rw [if_pos ⟨h4, h11⟩, ix_n (j := f) (by omega), ix_n (j := t) (by omega), if_pos (Or.inr (hst.1 (by omega)))] at hq; exact aw_iret e_Mo_copy_38 rfl rfl (hq hM fK_0))
    · refine aw_ldc (v := -1000000001) e_Mo_copy_14 kc_Mo_89 ?_
      have hq := hQ I L
      unfold op_copy at hq
      first
        | (rw [if_neg (fun w => h4 w.1)] at hq; exact aw_iret e_Mo_copy_16 rfl rfl (hq hM fK_0))
        | (rw [if_neg (fun w => h11 w.2)] at hq; exact aw_iret e_Mo_copy_16 rfl rfl (hq hM fK_0))
theorem refV_z {th wn : Nat} (h : th = 0) : refV th wn = -1000000011 := by unfold refV; rw [if_pos h]
theorem refV_k {th wn : Nat} (h : ¬ th = 0) (h2 : ¬ th = wn) : refV th wn = -1000000012 := by unfold refV; rw [if_neg h, if_neg h2]
theorem c_Mo_ask {l : Launch} {E : En} {d : Nat} {I : It} {L : Lt} {R : Rt} {Z : Zt} {Q : Qt} {S : AS} (hS : Sta R) (hM : MSt I S) (hA : AWF S) {x y : Int32} (hQ : ∀ I2 L2, MSt I2 (op_ask S x y).1 → fK I I2 → Q (some (vi (op_ask S x y).2)) I2 L2 R Z) : AMet l E (d + 2) M_Mo_ask [vr 9 0, vi x, vi y] I L R Z Q := by
  have hC := hM.1
  have hW := hA.1.1
  have hnb := hW.1.2.1
  have hnp := hW.1.1
  have hnx := hW.1.2.2.1
  have hns := hW.1.2.2.2
  refine AMet.of mf_Mo_ask rfl (Nat.le_of_ble_eq_true rfl) ?_
  refine aw_iload_n e_Mo_ask_0 rfl ?_
  refine aw_cS1 e_Mo_ask_1 ml_Mo_340 mf_Mo_isSlot ms_Mo_isSlot (c_Mo_isSlot ?_)
  refine awB_eq e_Mo_ask_4 (fun h4 => ?_) (fun h4 => ?_)
  · refine aw_ldc (v := -1000000001) e_Mo_ask_19 kc_Mo_89 ?_
    have hq := hQ I L hM fK_0
    unfold op_ask at hq
    first
      | (rw [if_neg (fun w => h4 w.1)] at hq; exact aw_iret e_Mo_ask_21 rfl rfl hq)
      | (rw [if_neg (fun w => h16 ⟨w.2.1, by have := w.2.2; omega⟩)] at hq; exact aw_iret e_Mo_ask_21 rfl rfl hq)
  · refine aw_iload_n e_Mo_ask_7 rfl ?_
    refine aw_i2l e_Mo_ask_8 ?_
    refine aw_lconst (v := lN 0) e_Mo_ask_9 rfl ?_
    refine aw_ldc2 (v := lN 5) e_Mo_ask_10 kl_Mo_102 ?_
    refine aw_cS3 e_Mo_ask_13 ml_Mo_75 mf_Mo_isIn ms_Mo_isIn (c_Mo_isInC (by decide) (by decide) ?_)
    refine awB_ne e_Mo_ask_16 (fun h16 => ?_) (fun h16 => ?_)
    · have hg : inR x 5 ∧ inR y 6 := ⟨h4, by omega, by omega⟩
      obtain ⟨k, hk, rfl⟩ := inR_nI hg.2
      obtain ⟨s, hs, rfl⟩ := inR_nI h4
      have hm := hM.2.2.2.2.2.1 s hs
      have hw := hA.2.2.2.2.2.1 s hs
      have hth := hw.1
      refine aw_aload_n e_Mo_ask_22 rfl ?_
      refine aw_getR e_Mo_ask_23 fl_Mo_28 (hS.1 _ _ _ _ rfl) ?_
      refine aw_iload_n e_Mo_ask_26 rfl ?_
      refine aw_ialE e_Mo_ask_27 rfl (show _ < 5 by omega) (by omega) hm.1 ?_
      refine awN_if_ne e_Mo_ask_28 (by omega) (fun h28 => ?_) (fun h28 => ?_)
      · refine aw_aload_n e_Mo_ask_35 rfl ?_
        refine aw_getR e_Mo_ask_36 fl_Mo_28 (hS.1 _ _ _ _ rfl) ?_
        refine aw_iload_n e_Mo_ask_39 rfl ?_
        refine aw_ialE e_Mo_ask_40 rfl (show _ < 5 by omega) (by omega) hm.1 ?_
        refine aw_iconst (v := nI 1) e_Mo_ask_41 (by decide) ?_
        refine awN_icmp_ne e_Mo_ask_42 (by omega) (by omega) (fun h42 => ?_) (fun h42 => ?_)
        · refine aw_ldc (v := -1000000012) e_Mo_ask_67 kc_Mo_133 ?_
          have hq := hQ I L hM fK_0
          unfold op_ask at hq
          first
            | (rw [if_pos hg, ix_n (j := s) (by omega), ix_n (j := k) (by omega), if_pos h42, if_pos h55] at hq; exact aw_iret e_Mo_ask_69 rfl rfl hq)
            | (rw [if_pos hg, ix_n (j := s) (by omega), ix_n (j := k) (by omega), if_pos h42, if_neg h55] at hq; exact aw_iret e_Mo_ask_69 rfl rfl hq)
            | (rw [if_pos hg, ix_n (j := s) (by omega), ix_n (j := k) (by omega), if_neg h42, refV_k h28 h42] at hq; exact aw_iret e_Mo_ask_69 rfl rfl hq)
        · refine aw_aload_n e_Mo_ask_45 rfl ?_
          refine aw_getR e_Mo_ask_46 fl_Mo_31 (hS.1 _ _ _ _ rfl) ?_
          refine aw_iload_n e_Mo_ask_49 rfl ?_
          refine aw_ialE e_Mo_ask_50 rfl (show _ < 5 by omega) (by omega) (hm.2.2.1 h42).1 ?_
          refine aw_iload_n e_Mo_ask_51 rfl ?_
          refine aw_cS2 e_Mo_ask_52 ml_Mo_129 mf_Mo_isOf ms_Mo_isOf (c_Mo_isOf (hw.2.1 h42).1 hk ?_)
          refine awB_eq e_Mo_ask_55 (fun h55 => ?_) (fun h55 => ?_)
          · refine aw_ldc (v := -1000000012) e_Mo_ask_67 kc_Mo_133 ?_
            have hq := hQ I L hM fK_0
            unfold op_ask at hq
            first
              | (rw [if_pos hg, ix_n (j := s) (by omega), ix_n (j := k) (by omega), if_pos h42, if_pos h55] at hq; exact aw_iret e_Mo_ask_69 rfl rfl hq)
              | (rw [if_pos hg, ix_n (j := s) (by omega), ix_n (j := k) (by omega), if_pos h42, if_neg h55] at hq; exact aw_iret e_Mo_ask_69 rfl rfl hq)
              | (rw [if_pos hg, ix_n (j := s) (by omega), ix_n (j := k) (by omega), if_neg h42, refV_k h28 h42] at hq; exact aw_iret e_Mo_ask_69 rfl rfl hq)
          · refine aw_aload_n e_Mo_ask_58 rfl ?_
            refine aw_getR e_Mo_ask_59 fl_Mo_34 (hS.1 _ _ _ _ rfl) ?_
            refine aw_iload_n e_Mo_ask_62 rfl ?_
            refine aw_ialE e_Mo_ask_63 rfl (show _ < 5 by omega) (by omega) (hm.2.2.1 h42).2 ?_
            refine aw_goto e_Mo_ask_64 ?_
            have hq := hQ I L hM fK_0
            unfold op_ask at hq
            first
              | (rw [if_pos hg, ix_n (j := s) (by omega), ix_n (j := k) (by omega), if_pos h42, if_pos h55] at hq; exact aw_iret e_Mo_ask_69 rfl rfl hq)
              | (rw [if_pos hg, ix_n (j := s) (by omega), ix_n (j := k) (by omega), if_pos h42, if_neg h55] at hq; exact aw_iret e_Mo_ask_69 rfl rfl hq)
              | (rw [if_pos hg, ix_n (j := s) (by omega), ix_n (j := k) (by omega), if_neg h42, refV_k h28 h42] at hq; exact aw_iret e_Mo_ask_69 rfl rfl hq)
      · refine aw_ldcw (v := -1000000011) e_Mo_ask_31 kc_Mo_336 ?_
        have hq := hQ I L hM fK_0
        unfold op_ask at hq
        first
          | (rw [if_pos hg, ix_n (j := s) (by omega), ix_n (j := k) (by omega), if_neg (by omega), refV_z h28] at hq; exact aw_iret e_Mo_ask_34 rfl rfl hq)
    · refine aw_ldc (v := -1000000001) e_Mo_ask_19 kc_Mo_89 ?_
      have hq := hQ I L hM fK_0
      unfold op_ask at hq
      first
        | (rw [if_neg (fun w => h4 w.1)] at hq; exact aw_iret e_Mo_ask_21 rfl rfl hq)
        | (rw [if_neg (fun w => h16 ⟨w.2.1, by have := w.2.2; omega⟩)] at hq; exact aw_iret e_Mo_ask_21 rfl rfl hq)
theorem c_Mo_item {l : Launch} {E : En} {d : Nat} {I : It} {L : Lt} {R : Rt} {Z : Zt} {Q : Qt} {S : AS} (hS : Sta R) (hM : MSt I S) (hA : AWF S) {x y : Int32} (hQ : ∀ I2 L2, MSt I2 (op_item S x y).1 → fK I I2 → Q (some (vi (op_item S x y).2)) I2 L2 R Z) : AMet l E (d + 2) M_Mo_item [vr 9 0, vi x, vi y] I L R Z Q := by
  have hC := hM.1
  have hW := hA.1.1
  have hnb := hW.1.2.1
  have hnp := hW.1.1
  have hnx := hW.1.2.2.1
  have hns := hW.1.2.2.2
  refine AMet.of mf_Mo_item rfl (Nat.le_of_ble_eq_true rfl) ?_
  refine aw_iload_n e_Mo_item_0 rfl ?_
  refine aw_cS1 e_Mo_item_1 ml_Mo_340 mf_Mo_isSlot ms_Mo_isSlot (c_Mo_isSlot ?_)
  refine awB_ne e_Mo_item_4 (fun h4 => ?_) (fun h4 => ?_)
  · obtain ⟨s, hs, rfl⟩ := inR_nI h4
    have hm := hM.2.2.2.2.2.1 s hs
    have hw := hA.2.2.2.2.2.1 s hs
    have hth := hw.1
    refine aw_aload_n e_Mo_item_10 rfl ?_
    refine aw_getR e_Mo_item_11 fl_Mo_28 (hS.1 _ _ _ _ rfl) ?_
    refine aw_iload_n e_Mo_item_14 rfl ?_
    refine aw_ialE e_Mo_item_15 rfl (show _ < 5 by omega) (by omega) hm.1 ?_
    refine aw_iconst (v := nI 2) e_Mo_item_16 (by decide) ?_
    refine awN_icmp_eq e_Mo_item_17 (by omega) (by omega) (fun h17 => ?_) (fun h17 => ?_)
    · have hsz := (hw.2.2 h17).1.1
      refine aw_iload_n e_Mo_item_38 rfl ?_
      refine aw_i2l e_Mo_item_39 ?_
      refine aw_lconst (v := lN 0) e_Mo_item_40 rfl ?_
      refine aw_aload_n e_Mo_item_41 rfl ?_
      refine aw_getR e_Mo_item_42 fl_Mo_37 (hS.1 _ _ _ _ rfl) ?_
      refine aw_iload_n e_Mo_item_45 rfl ?_
      refine aw_ialE e_Mo_item_46 rfl (show _ < 5 by omega) (by omega) (hm.2.2.2 h17).1 ?_
      refine aw_iconst (v := nI 1) e_Mo_item_47 (by decide) ?_
      refine aw_isub e_Mo_item_48 ?_
      rw [pm_sub]
      refine aw_i2l e_Mo_item_49 ?_
      refine aw_cS3 e_Mo_item_50 ml_Mo_75 mf_Mo_isIn ms_Mo_isIn (c_Mo_isInP (by omega) ?_)
      refine awB_eq e_Mo_item_53 (fun h53 => ?_) (fun h53 => ?_)
      · refine aw_ldcw (v := -1000000013) e_Mo_item_70 kc_Mo_337 ?_
        have hq := hQ I L hM fK_0
        unfold op_item at hq
        first
          | (rw [if_pos h4, ix_n (j := s) (by omega), if_pos h17, if_pos h53, ix_n (j := k) (by omega)] at hq; exact aw_iret e_Mo_item_73 rfl rfl hq)
          | (rw [if_pos h4, ix_n (j := s) (by omega), if_pos h17, if_neg h53] at hq; exact aw_iret e_Mo_item_73 rfl rfl hq)
      · obtain ⟨k, hk, rfl⟩ := inR_nI h53
        refine aw_aload_n e_Mo_item_56 rfl ?_
        refine aw_getR e_Mo_item_57 fl_Mo_40 (hS.1 _ _ _ _ rfl) ?_
        refine aw_bipush (v := nI 24) e_Mo_item_60 (by decide) ?_
        refine aw_iload_n e_Mo_item_62 rfl ?_
        first | refine awN_imul e_Mo_item_63 ?_ | refine aw_imul e_Mo_item_63 ?_
        refine aw_iload_n e_Mo_item_64 rfl ?_
        first | refine awN_iadd e_Mo_item_65 ?_ | refine aw_iadd e_Mo_item_65 ?_
        refine aw_ialE e_Mo_item_66 rfl (show _ < 120 by omega) (by omega) ((hm.2.2.2 h17).2 _ hk) ?_
        refine aw_goto e_Mo_item_67 ?_
        have hq := hQ I L hM fK_0
        unfold op_item at hq
        first
          | (rw [if_pos h4, ix_n (j := s) (by omega), if_pos h17, if_pos h53, ix_n (j := k) (by omega)] at hq; exact aw_iret e_Mo_item_73 rfl rfl hq)
          | (rw [if_pos h4, ix_n (j := s) (by omega), if_pos h17, if_neg h53] at hq; exact aw_iret e_Mo_item_73 rfl rfl hq)
    · refine aw_aload_n e_Mo_item_20 rfl ?_
      refine aw_getR e_Mo_item_21 fl_Mo_28 (hS.1 _ _ _ _ rfl) ?_
      refine aw_iload_n e_Mo_item_24 rfl ?_
      refine aw_ialE e_Mo_item_25 rfl (show _ < 5 by omega) (by omega) hm.1 ?_
      refine awN_if_ne e_Mo_item_26 (by omega) (fun h26 => ?_) (fun h26 => ?_)
      · refine aw_ldc (v := -1000000012) e_Mo_item_35 kc_Mo_133 ?_
        have hq := hQ I L hM fK_0
        unfold op_item at hq
        first
          | (rw [if_pos h4, ix_n (j := s) (by omega), if_neg h17, refV_z h26] at hq; exact aw_iret e_Mo_item_37 rfl rfl hq)
          | (rw [if_pos h4, ix_n (j := s) (by omega), if_neg h17, refV_k h26 h17] at hq; exact aw_iret e_Mo_item_37 rfl rfl hq)
      · refine aw_ldcw (v := -1000000011) e_Mo_item_29 kc_Mo_336 ?_
        refine aw_goto e_Mo_item_32 ?_
        have hq := hQ I L hM fK_0
        unfold op_item at hq
        first
          | (rw [if_pos h4, ix_n (j := s) (by omega), if_neg h17, refV_z h26] at hq; exact aw_iret e_Mo_item_37 rfl rfl hq)
          | (rw [if_pos h4, ix_n (j := s) (by omega), if_neg h17, refV_k h26 h17] at hq; exact aw_iret e_Mo_item_37 rfl rfl hq)
  · refine aw_ldc (v := -1000000001) e_Mo_item_7 kc_Mo_89 ?_
    have hq := hQ I L hM fK_0
    unfold op_item at hq
    first
      | (rw [if_neg h4] at hq; exact aw_iret e_Mo_item_9 rfl rfl hq)
theorem c_Mo_rest {l : Launch} {E : En} {d : Nat} {I : It} {L : Lt} {R : Rt} {Z : Zt} {Q : Qt} {S : AS} (hS : Sta R) (hM : MSt I S) (hA : AWF S) {x y : Int32} (hQ : ∀ I2 L2, MSt I2 (op_rest S x y).1 → fK I I2 → Q (some (vi (op_rest S x y).2)) I2 L2 R Z) : AMet l E (d + 2) M_Mo_rest [vr 9 0, vi x, vi y] I L R Z Q := by
  have hC := hM.1
  have hW := hA.1.1
  have hnb := hW.1.2.1
  have hnp := hW.1.1
  have hnx := hW.1.2.2.1
  have hns := hW.1.2.2.2
  refine AMet.of mf_Mo_rest rfl (Nat.le_of_ble_eq_true rfl) ?_
  refine aw_iload_n e_Mo_rest_0 rfl ?_
  refine aw_cS1 e_Mo_rest_1 ml_Mo_340 mf_Mo_isSlot ms_Mo_isSlot (c_Mo_isSlot ?_)
  refine awB_ne e_Mo_rest_4 (fun h4 => ?_) (fun h4 => ?_)
  · obtain ⟨s, hs, rfl⟩ := inR_nI h4
    have hm := hM.2.2.2.2.2.1 s hs
    have hw := hA.2.2.2.2.2.1 s hs
    have hth := hw.1
    refine aw_aload_n e_Mo_rest_10 rfl ?_
    refine aw_getR e_Mo_rest_11 fl_Mo_28 (hS.1 _ _ _ _ rfl) ?_
    refine aw_iload_n e_Mo_rest_14 rfl ?_
    refine aw_ialE e_Mo_rest_15 rfl (show _ < 5 by omega) (by omega) hm.1 ?_
    refine aw_iconst (v := nI 3) e_Mo_rest_16 (by decide) ?_
    refine awN_icmp_eq e_Mo_rest_17 (by omega) (by omega) (fun h17 => ?_) (fun h17 => ?_)
    · refine aw_iload_n e_Mo_rest_38 rfl ?_
      refine aw_if_ne e_Mo_rest_39 (fun h39 => ?_) (fun h39 => ?_)
      · refine aw_aload_n e_Mo_rest_47 rfl ?_
        refine aw_getR e_Mo_rest_48 fl_Mo_31 (hS.1 _ _ _ _ rfl) ?_
        refine aw_iload_n e_Mo_rest_51 rfl ?_
        refine aw_ialE e_Mo_rest_52 rfl (show _ < 5 by omega) (by omega) (hm.2.1 h17) ?_
        refine aw_iload_n e_Mo_rest_53 rfl ?_
        refine aw_irem e_Mo_rest_54 h39 ?_
        have hq := hQ I L hM fK_0
        unfold op_rest at hq
        first
          | (rw [if_pos h4, ix_n (j := s) (by omega), if_pos h17, if_pos h39] at hq; exact aw_iret e_Mo_rest_55 rfl rfl hq)
          | (rw [if_pos h4, ix_n (j := s) (by omega), if_pos h17, if_neg h39] at hq; exact aw_iret e_Mo_rest_55 rfl rfl hq)
      · refine aw_ldc (v := -1000000002) e_Mo_rest_42 kc_Mo_94 ?_
        refine aw_goto e_Mo_rest_44 ?_
        have hq := hQ I L hM fK_0
        unfold op_rest at hq
        first
          | (rw [if_pos h4, ix_n (j := s) (by omega), if_pos h17, if_pos h39] at hq; exact aw_iret e_Mo_rest_55 rfl rfl hq)
          | (rw [if_pos h4, ix_n (j := s) (by omega), if_pos h17, if_neg h39] at hq; exact aw_iret e_Mo_rest_55 rfl rfl hq)
    · refine aw_aload_n e_Mo_rest_20 rfl ?_
      refine aw_getR e_Mo_rest_21 fl_Mo_28 (hS.1 _ _ _ _ rfl) ?_
      refine aw_iload_n e_Mo_rest_24 rfl ?_
      refine aw_ialE e_Mo_rest_25 rfl (show _ < 5 by omega) (by omega) hm.1 ?_
      refine awN_if_ne e_Mo_rest_26 (by omega) (fun h26 => ?_) (fun h26 => ?_)
      · refine aw_ldc (v := -1000000012) e_Mo_rest_35 kc_Mo_133 ?_
        have hq := hQ I L hM fK_0
        unfold op_rest at hq
        first
          | (rw [if_pos h4, ix_n (j := s) (by omega), if_neg h17, refV_z h26] at hq; exact aw_iret e_Mo_rest_37 rfl rfl hq)
          | (rw [if_pos h4, ix_n (j := s) (by omega), if_neg h17, refV_k h26 h17] at hq; exact aw_iret e_Mo_rest_37 rfl rfl hq)
      · refine aw_ldcw (v := -1000000011) e_Mo_rest_29 kc_Mo_336 ?_
        refine aw_goto e_Mo_rest_32 ?_
        have hq := hQ I L hM fK_0
        unfold op_rest at hq
        first
          | (rw [if_pos h4, ix_n (j := s) (by omega), if_neg h17, refV_z h26] at hq; exact aw_iret e_Mo_rest_37 rfl rfl hq)
          | (rw [if_pos h4, ix_n (j := s) (by omega), if_neg h17, refV_k h26 h17] at hq; exact aw_iret e_Mo_rest_37 rfl rfl hq)
  · refine aw_ldc (v := -1000000001) e_Mo_rest_7 kc_Mo_89 ?_
    have hq := hQ I L hM fK_0
    unfold op_rest at hq
    first
      | (rw [if_neg h4] at hq; exact aw_iret e_Mo_rest_9 rfl rfl hq)
theorem c_Mo_lay {l : Launch} {E : En} {d : Nat} {I : It} {L : Lt} {R : Rt} {Z : Zt} {Q : Qt} {S : AS} (hS : Sta R) (hM : MSt I S) (hA : AWF S) {x y z : Int32} (hQ : ∀ I2 L2, MSt I2 (op_lay S x y z).1 → fK I I2 → Q (some (vi (op_lay S x y z).2)) I2 L2 R Z) : AMet l E (d + 2) M_Mo_lay [vr 9 0, vi x, vi y, vi z] I L R Z Q := by
  have hC := hM.1
  have hW := hA.1.1
  have hnb := hW.1.2.1
  have hnp := hW.1.1
  have hnx := hW.1.2.2.1
  have hns := hW.1.2.2.2
  have hT3 : (nI 3).toInt = 3 := by decide
  have hT1 : (nI 1).toInt = 1 := by decide
  have hT2 : (nI 2).toInt = 2 := by decide
  refine AMet.of mf_Mo_lay rfl (Nat.le_of_ble_eq_true rfl) ?_
  have k41t : (y.toInt = 0 ∨ y.toInt = 3 ∨ (y.toInt = 1 ∧ inR z (nP (sM S))) ∨ (y.toInt = 2 ∧ inR z 4)) → AWq l E (d + 2) M_Mo_lay Z 41 [some (vr 9 0), some (vi x), some (vi y), some (vi z), some (vi (nI 1)), none, none] [] I L R Z Q := fun hG => by
    refine aw_iload_n e_Mo_lay_41 rfl ?_
    refine aw_cS1 e_Mo_lay_42 ml_Mo_340 mf_Mo_isSlot ms_Mo_isSlot (c_Mo_isSlot ?_)
    refine awB_eq e_Mo_lay_45 (fun h45 => ?_) (fun h45 => ?_)
    · refine aw_ldc (v := -1000000001) e_Mo_lay_53 kc_Mo_89 ?_
      have hq := hQ I L
      unfold op_lay at hq
      first
        | (rw [if_neg (fun w => h45 w.1)] at hq; exact aw_iret e_Mo_lay_55 rfl rfl (hq hM fK_0))
        | (rw [if_neg (fun w => hG (by have w1 := w.2.1; have w2 := w.2.2; obtain ⟨t, ht, rfl⟩ := inR_nI w1; rw [ix_n (by omega)] at w2; have hTt := nT (n := t) (by omega); by_cases e1 : t = 1; have w3 := w2.1 e1; omega; by_cases e2 : t = 2; have w3 := w2.2 e2; omega; omega))] at hq; exact aw_iret e_Mo_lay_55 rfl rfl (hq hM fK_0))
    · refine aw_iload e_Mo_lay_48 rfl ?_
      refine awN_if_ne e_Mo_lay_50 (by omega) (fun h50 => ?_) (fun h50 => ?_)
      · obtain ⟨s, hs, rfl⟩ := inR_nI h45
        have hms0 := hM.2.2.2.2.2.1 s hs
        have hg0 := hG
        obtain ⟨t, ht, rfl⟩ := inR_nI (x := y) (n := 4) ⟨by omega, by omega⟩
        have hTt := nT (n := t) (by omega)
        have hg : inR (nI s) 5 ∧ inR (nI t) 4 ∧ (ix (nI t) = 1 → inR z (nP (sM S))) ∧ (ix (nI t) = 2 → inR z 4) := by
          rw [ix_n (by omega)]
          exact ⟨h45, (nI_inR (by omega)).2 ht, fun q => ⟨by omega, by omega⟩, fun q => ⟨by omega, by omega⟩⟩
        have ht4 : t = 0 ∨ t = 1 ∨ t = 2 ∨ t = 3 := by omega
        rcases ht4 with rfl | rfl | rfl | rfl
        · skip
          refine aw_iload_n e_Mo_lay_56 rfl ?_
          refine aw_iconst (v := nI 2) e_Mo_lay_57 (by decide) ?_
          refine awN_icmp_ne e_Mo_lay_58 (by omega) (by omega) (fun h58 => ?_) (fun h58 => ?_)
          · refine aw_aload_n e_Mo_lay_74 rfl ?_
            refine aw_getR e_Mo_lay_75 fl_Mo_28 (hS.1 _ _ _ _ rfl) ?_
            refine aw_iload_n e_Mo_lay_78 rfl ?_
            refine aw_ialE e_Mo_lay_79 rfl (show _ < 5 by omega) (by omega) hms0.1 ?_
            refine aw_ist5 e_Mo_lay_80 ?_
            refine aw_aload_n e_Mo_lay_82 rfl ?_
            refine aw_getR e_Mo_lay_83 fl_Mo_28 (hS.1 _ _ _ _ rfl) ?_
            refine aw_iload_n e_Mo_lay_86 rfl ?_
            refine aw_iload_n e_Mo_lay_87 rfl ?_
            refine aw_iast e_Mo_lay_88 rfl (show _ < 5 by omega) (by omega) ?_
            refine aw_aload_n e_Mo_lay_89 rfl ?_
            refine aw_getR e_Mo_lay_90 fl_Mo_31 (hS.1 _ _ _ _ rfl) ?_
            refine aw_iload_n e_Mo_lay_93 rfl ?_
            refine aw_iload_n e_Mo_lay_94 rfl ?_
            refine aw_iconst (v := nI 1) e_Mo_lay_95 (by decide) ?_
            refine awN_icmp_ne e_Mo_lay_96 (by omega) (by omega) (fun h96 => ?_) (fun h96 => ?_)
            · refine aw_iload_n e_Mo_lay_107 rfl ?_
              refine aw_iast e_Mo_lay_108 rfl (show _ < 5 by omega) (by omega) ?_
              refine aw_aload_n e_Mo_lay_109 rfl ?_
              refine aw_getR e_Mo_lay_110 fl_Mo_34 (hS.1 _ _ _ _ rfl) ?_
              refine aw_iload_n e_Mo_lay_113 rfl ?_
              refine aw_iload_n e_Mo_lay_114 rfl ?_
              refine aw_iconst (v := nI 1) e_Mo_lay_115 (by decide) ?_
              refine awN_icmp_ne e_Mo_lay_116 (by omega) (by omega) (fun h116 => ?_) (fun h116 => ?_)
              · refine aw_iconst (v := nI 0) e_Mo_lay_150 (by decide) ?_
                refine aw_iast e_Mo_lay_151 rfl (show _ < 5 by omega) (by omega) ?_
                refine aw_iload_n e_Mo_lay_152 rfl ?_
                refine aw_iconst (v := nI 2) e_Mo_lay_153 (by decide) ?_
                refine awN_icmp_ne e_Mo_lay_154 (by omega) (by omega) (fun h154 => ?_) (fun h154 => ?_)
                · refine aw_iload e_Mo_lay_209 rfl ?_
                  have hms := MSt_slot (I2 := (sI (sI (sI I 32 0 s (nI 0)) 33 0 s z) 34 0 s (nI 0))) (v := (0, z, pP (sM S) (ix z), sH S (ix z))) hM hA (fun t2 i2 h => by (repeat (rw [sI_n (by omega)]))) (fun q hq hqs => ⟨by (repeat (first | rw [sI_n (by omega)] | rw [sI_ne (by omega)])), by (repeat (first | rw [sI_n (by omega)] | rw [sI_ne (by omega)])), by (repeat (first | rw [sI_n (by omega)] | rw [sI_ne (by omega)])), by (repeat (first | rw [sI_n (by omega)] | rw [sI_ne (by omega)])), fun j hj => by (repeat (first | rw [sI_n (by omega)] | rw [sI_ne (by omega)]))⟩) ⟨by (repeat (first | rw [sI_n (by omega)] | rw [sI_ne (by omega)])); rw [sI_eq], fun q => absurd q (show ¬ (0 : Nat) = 3 by decide), fun q => absurd q (show ¬ (0 : Nat) = 1 by decide), fun q => absurd q (show ¬ (0 : Nat) = 2 by decide)⟩
                  have hq := hQ (sI (sI (sI I 32 0 s (nI 0)) 33 0 s z) 34 0 s (nI 0)) L
                  unfold op_lay at hq
                  rw [if_pos hg, ix_n (j := s) (by omega), if_neg (fun w => absurd w.1 (by decide))] at hq
                  exact aw_iret e_Mo_lay_211 rfl rfl (hq hms.1 hms.2)
                · exact absurd h154 (by decide)
              · exact absurd h116 (by decide)
            · exact absurd h96 (by decide)
          · exact absurd h58 (by decide)
        · obtain ⟨k, hkk, rfl⟩ := inR_nI (hg.2.2.1 rfl)
          have hv := hW.2.1 k hkk
          refine aw_iload_n e_Mo_lay_56 rfl ?_
          refine aw_iconst (v := nI 2) e_Mo_lay_57 (by decide) ?_
          refine awN_icmp_ne e_Mo_lay_58 (by omega) (by omega) (fun h58 => ?_) (fun h58 => ?_)
          · refine aw_aload_n e_Mo_lay_74 rfl ?_
            refine aw_getR e_Mo_lay_75 fl_Mo_28 (hS.1 _ _ _ _ rfl) ?_
            refine aw_iload_n e_Mo_lay_78 rfl ?_
            refine aw_ialE e_Mo_lay_79 rfl (show _ < 5 by omega) (by omega) hms0.1 ?_
            refine aw_ist5 e_Mo_lay_80 ?_
            refine aw_aload_n e_Mo_lay_82 rfl ?_
            refine aw_getR e_Mo_lay_83 fl_Mo_28 (hS.1 _ _ _ _ rfl) ?_
            refine aw_iload_n e_Mo_lay_86 rfl ?_
            refine aw_iload_n e_Mo_lay_87 rfl ?_
            refine aw_iast e_Mo_lay_88 rfl (show _ < 5 by omega) (by omega) ?_
            refine aw_aload_n e_Mo_lay_89 rfl ?_
            refine aw_getR e_Mo_lay_90 fl_Mo_31 (hS.1 _ _ _ _ rfl) ?_
            refine aw_iload_n e_Mo_lay_93 rfl ?_
            refine aw_iload_n e_Mo_lay_94 rfl ?_
            refine aw_iconst (v := nI 1) e_Mo_lay_95 (by decide) ?_
            refine awN_icmp_ne e_Mo_lay_96 (by omega) (by omega) (fun h96 => ?_) (fun h96 => ?_)
            · exact absurd rfl h96
            · refine aw_aload_n e_Mo_lay_99 rfl ?_
              refine aw_iload_n e_Mo_lay_100 rfl ?_
              refine aw_cV1 e_Mo_lay_101 ml_Mo_116 mf_Mo_kindOf mv_Mo_kindOf (c_Mo_kindOf hS (MC.keep hC (by rw [sI_n (by decide)])) hW hkk ?_)
              refine aw_goto e_Mo_lay_104 ?_
              refine aw_iast e_Mo_lay_108 rfl (show _ < 5 by omega) (by omega) ?_
              refine aw_aload_n e_Mo_lay_109 rfl ?_
              refine aw_getR e_Mo_lay_110 fl_Mo_34 (hS.1 _ _ _ _ rfl) ?_
              refine aw_iload_n e_Mo_lay_113 rfl ?_
              refine aw_iload_n e_Mo_lay_114 rfl ?_
              refine aw_iconst (v := nI 1) e_Mo_lay_115 (by decide) ?_
              refine awN_icmp_ne e_Mo_lay_116 (by omega) (by omega) (fun h116 => ?_) (fun h116 => ?_)
              · exact absurd rfl h116
              · refine aw_aload_n e_Mo_lay_119 rfl ?_
                refine aw_getR e_Mo_lay_120 fl_Mo_7 (hS.1 _ _ _ _ rfl) ?_
                refine aw_aload_n e_Mo_lay_123 rfl ?_
                refine aw_iload_n e_Mo_lay_124 rfl ?_
                refine aw_cV1 e_Mo_lay_125 ml_Mo_79 mf_Mo_partAt mv_Mo_partAt (c_Mo_partAt ?_)
                refine aw_iconst (v := nI 2) e_Mo_lay_128 (by decide) ?_
                first | refine awN_iadd e_Mo_lay_129 ?_ | refine aw_iadd e_Mo_lay_129 ?_
                refine aw_ialE e_Mo_lay_130 rfl (show _ < 3110 by omega) (by omega) (show _ = nI (pP (sM S) k 2) by rw [sI_n (by decide), sI_n (by decide)]; exact hC.2.1 k 2 hkk (by decide)) ?_
                refine aw_aload_n e_Mo_lay_131 rfl ?_
                refine aw_getR e_Mo_lay_132 fl_Mo_7 (hS.1 _ _ _ _ rfl) ?_
                refine aw_aload_n e_Mo_lay_135 rfl ?_
                refine aw_iload_n e_Mo_lay_136 rfl ?_
                refine aw_cV1 e_Mo_lay_137 ml_Mo_79 mf_Mo_partAt mv_Mo_partAt (c_Mo_partAt ?_)
                refine aw_iconst (v := nI 3) e_Mo_lay_140 (by decide) ?_
                first | refine awN_iadd e_Mo_lay_141 ?_ | refine aw_iadd e_Mo_lay_141 ?_
                refine aw_ialE e_Mo_lay_142 rfl (show _ < 3110 by omega) (by omega) (show _ = nI (pP (sM S) k 3) by rw [sI_n (by decide), sI_n (by decide)]; exact hC.2.1 k 3 hkk (by decide)) ?_
                refine aw_cS2 e_Mo_lay_143 ml_Mo_125 mf_Mo_shareOf ms_Mo_shareOf (c_Mo_shareOf (by omega) (by omega) ?_)
                refine awN_l2i e_Mo_lay_146 ?_
                refine aw_goto e_Mo_lay_147 ?_
                refine aw_iast e_Mo_lay_151 rfl (show _ < 5 by omega) (by omega) ?_
                refine aw_iload_n e_Mo_lay_152 rfl ?_
                refine aw_iconst (v := nI 2) e_Mo_lay_153 (by decide) ?_
                refine awN_icmp_ne e_Mo_lay_154 (by omega) (by omega) (fun h154 => ?_) (fun h154 => ?_)
                · refine aw_iload e_Mo_lay_209 rfl ?_
                  have hik : ix (nI k) = k := ix_n (by omega)
                  have hms := MSt_slot (I2 := (sI (sI (sI I 32 0 s (nI 1)) 33 0 s (nI (pP (sM S) k 0))) 34 0 s (nI (shW (pP (sM S) k 2) (pP (sM S) k 3))))) (v := (1, (nI k), pP (sM S) k, sH S k)) hM hA (fun t2 i2 h => by (repeat (rw [sI_n (by omega)]))) (fun q hq hqs => ⟨by (repeat (first | rw [sI_n (by omega)] | rw [sI_ne (by omega)])), by (repeat (first | rw [sI_n (by omega)] | rw [sI_ne (by omega)])), by (repeat (first | rw [sI_n (by omega)] | rw [sI_ne (by omega)])), by (repeat (first | rw [sI_n (by omega)] | rw [sI_ne (by omega)])), fun j hj => by (repeat (first | rw [sI_n (by omega)] | rw [sI_ne (by omega)]))⟩) ⟨by (repeat (first | rw [sI_n (by omega)] | rw [sI_ne (by omega)])); rw [sI_eq], fun q => absurd q (show ¬ (1 : Nat) = 3 by decide), fun _ => ⟨by (repeat (first | rw [sI_n (by omega)] | rw [sI_ne (by omega)])); rw [sI_eq], by (repeat (first | rw [sI_n (by omega)] | rw [sI_ne (by omega)])); rw [sI_eq]⟩, fun q => absurd q (show ¬ (1 : Nat) = 2 by decide)⟩
                  have hq := hQ (sI (sI (sI I 32 0 s (nI 1)) 33 0 s (nI (pP (sM S) k 0))) 34 0 s (nI (shW (pP (sM S) k 2) (pP (sM S) k 3)))) L
                  unfold op_lay at hq
                  rw [if_pos hg, ix_n (j := s) (by omega), hik, if_neg (fun w => absurd w.1 (by decide))] at hq
                  exact aw_iret e_Mo_lay_211 rfl rfl (hq hms.1 hms.2)
                · exact absurd h154 (by decide)
          · exact absurd h58 (by decide)
        · obtain ⟨k, hk4, rfl⟩ := inR_nI (hg.2.2.2 rfl)
          have hmk := hM.2.2.2.2.1 k hk4
          have hwk := hA.2.2.2.2.1 k hk4
          have hsk := so_neg hwk
          have hzk := hwk.1
          have hik : ix (nI k) = k := ix_n (by omega)
          refine aw_iload_n e_Mo_lay_56 rfl ?_
          refine aw_iconst (v := nI 2) e_Mo_lay_57 (by decide) ?_
          refine awN_icmp_ne e_Mo_lay_58 (by omega) (by omega) (fun h58 => ?_) (fun h58 => ?_)
          · exact absurd rfl h58
          · refine aw_aload_n e_Mo_lay_61 rfl ?_
            refine aw_getR e_Mo_lay_62 fl_Mo_19 (hS.1 _ _ _ _ rfl) ?_
            refine aw_iload_n e_Mo_lay_65 rfl ?_
            refine aw_ialE e_Mo_lay_66 rfl (show _ < 4 by omega) (by omega) hmk.1 ?_
            refine awZ_if_ge e_Mo_lay_67 (fun h67 => ?_) (fun h67 => ?_)
            · refine aw_aload_n e_Mo_lay_74 rfl ?_
              refine aw_getR e_Mo_lay_75 fl_Mo_28 (hS.1 _ _ _ _ rfl) ?_
              refine aw_iload_n e_Mo_lay_78 rfl ?_
              refine aw_ialE e_Mo_lay_79 rfl (show _ < 5 by omega) (by omega) hms0.1 ?_
              refine aw_ist5 e_Mo_lay_80 ?_
              refine aw_aload_n e_Mo_lay_82 rfl ?_
              refine aw_getR e_Mo_lay_83 fl_Mo_28 (hS.1 _ _ _ _ rfl) ?_
              refine aw_iload_n e_Mo_lay_86 rfl ?_
              refine aw_iload_n e_Mo_lay_87 rfl ?_
              refine aw_iast e_Mo_lay_88 rfl (show _ < 5 by omega) (by omega) ?_
              refine aw_aload_n e_Mo_lay_89 rfl ?_
              refine aw_getR e_Mo_lay_90 fl_Mo_31 (hS.1 _ _ _ _ rfl) ?_
              refine aw_iload_n e_Mo_lay_93 rfl ?_
              refine aw_iload_n e_Mo_lay_94 rfl ?_
              refine aw_iconst (v := nI 1) e_Mo_lay_95 (by decide) ?_
              refine awN_icmp_ne e_Mo_lay_96 (by omega) (by omega) (fun h96 => ?_) (fun h96 => ?_)
              · refine aw_iload_n e_Mo_lay_107 rfl ?_
                refine aw_iast e_Mo_lay_108 rfl (show _ < 5 by omega) (by omega) ?_
                refine aw_aload_n e_Mo_lay_109 rfl ?_
                refine aw_getR e_Mo_lay_110 fl_Mo_34 (hS.1 _ _ _ _ rfl) ?_
                refine aw_iload_n e_Mo_lay_113 rfl ?_
                refine aw_iload_n e_Mo_lay_114 rfl ?_
                refine aw_iconst (v := nI 1) e_Mo_lay_115 (by decide) ?_
                refine awN_icmp_ne e_Mo_lay_116 (by omega) (by omega) (fun h116 => ?_) (fun h116 => ?_)
                · refine aw_iconst (v := nI 0) e_Mo_lay_150 (by decide) ?_
                  refine aw_iast e_Mo_lay_151 rfl (show _ < 5 by omega) (by omega) ?_
                  refine aw_iload_n e_Mo_lay_152 rfl ?_
                  refine aw_iconst (v := nI 2) e_Mo_lay_153 (by decide) ?_
                  refine awN_icmp_ne e_Mo_lay_154 (by omega) (by omega) (fun h154 => ?_) (fun h154 => ?_)
                  · exact absurd rfl h154
                  · refine aw_aload_n e_Mo_lay_157 rfl ?_
                    refine aw_getR e_Mo_lay_158 fl_Mo_37 (hS.1 _ _ _ _ rfl) ?_
                    refine aw_iload_n e_Mo_lay_161 rfl ?_
                    refine aw_aload_n e_Mo_lay_162 rfl ?_
                    refine aw_getR e_Mo_lay_163 fl_Mo_22 (hS.1 _ _ _ _ rfl) ?_
                    refine aw_iload_n e_Mo_lay_166 rfl ?_
                    refine aw_ialE e_Mo_lay_167 rfl (show _ < 4 by omega) (by omega) (show _ = nI (sH S k).2.1 by (repeat (rw [sI_n (by omega)])); exact hmk.2.1) ?_
                    refine aw_iast e_Mo_lay_168 rfl (show _ < 5 by omega) (by omega) ?_
                    refine aw_iconst (v := nI 0) e_Mo_lay_169 (by decide) ?_
                    refine aw_ist6 e_Mo_lay_170 ?_
                    refine up_loop (P := fun c => ∀ I5 : It, (∀ t i, t ≠ 36 → I5 t i = (sI (sI (sI (sI I 32 0 s (nI 2)) 33 0 s (nI k)) 34 0 s (nI 0)) 35 0 s (nI (sH S k).2.1)) t i) → (∀ n, n < 24 * s ∨ 24 * s + 24 ≤ n → I5 36 0 n = I 36 0 n) → (∀ j, j < c → I5 36 0 (24 * s + j) = I 31 0 (24 * k + j)) → AWq l E (d + 2) M_Mo_lay Z 172 [some (vr 9 0), some (vi (nI s)), some (vi (nI 2)), some (vi (nI k)), some (vi (nI 1)), some (vi (nI (sL2 S s).1)), some (vi (nI c))] [] I5 L R Z Q) (N := 24) (fun c hc ih I5 hf5 h5o hr5 => ?_) 0 (by decide) _ (fun _ _ _ => rfl) (fun n hn => by (repeat (rw [sI_n (by omega)]))) (fun j hj => absurd hj (Nat.not_lt_zero j))
                    refine aw_iload e_Mo_lay_172 rfl ?_
                    refine aw_bipush (v := nI 24) e_Mo_lay_174 (by decide) ?_
                    refine awN_icmp_ge e_Mo_lay_176 (by omega) (by omega) (fun h176 => ?_) (fun h176 => ?_)
                    · refine aw_iload e_Mo_lay_209 rfl ?_
                      have hik : ix (nI k) = k := ix_n (by omega)
                      have hms := MSt_slot (I2 := I5) (v := (2, (nI k), pP (sM S) k, sH S k)) hM hA (fun t2 i2 h => by rw [hf5 t2 i2 (by omega)]; (repeat (rw [sI_n (by omega)]))) (fun q hq hqs => ⟨by rw [hf5 32 0 (by decide)]; (repeat (first | rw [sI_n (by omega)] | rw [sI_ne (by omega)])), by rw [hf5 33 0 (by decide)]; (repeat (first | rw [sI_n (by omega)] | rw [sI_ne (by omega)])), by rw [hf5 34 0 (by decide)]; (repeat (first | rw [sI_n (by omega)] | rw [sI_ne (by omega)])), by rw [hf5 35 0 (by decide)]; (repeat (first | rw [sI_n (by omega)] | rw [sI_ne (by omega)])), fun j hj => h5o _ (by omega)⟩) ⟨by rw [hf5 32 0 (by decide)]; (repeat (first | rw [sI_n (by omega)] | rw [sI_ne (by omega)])); rw [sI_eq], fun q => absurd q (show ¬ (2 : Nat) = 3 by decide), fun q => absurd q (show ¬ (2 : Nat) = 1 by decide), fun _ => ⟨by rw [hf5 35 0 (by decide), sI_eq], fun j hj => (hr5 j (by have hj2 : j < (sH S k).2.1 := hj; omega)).trans (hmk.2.2 j hj)⟩⟩
                      have hq := hQ I5 L
                      unfold op_lay at hq
                      rw [if_pos hg, ix_n (j := s) (by omega), hik, if_neg (fun w => by have w2 := w.2; have := hsk.2 w2; omega)] at hq
                      exact aw_iret e_Mo_lay_211 rfl rfl (hq hms.1 hms.2)
                    · refine aw_aload_n e_Mo_lay_179 rfl ?_
                      refine aw_getR e_Mo_lay_180 fl_Mo_40 (hS.1 _ _ _ _ rfl) ?_
                      refine aw_bipush (v := nI 24) e_Mo_lay_183 (by decide) ?_
                      refine aw_iload_n e_Mo_lay_185 rfl ?_
                      first | refine awN_imul e_Mo_lay_186 ?_ | refine aw_imul e_Mo_lay_186 ?_
                      refine aw_iload e_Mo_lay_187 rfl ?_
                      first | refine awN_iadd e_Mo_lay_189 ?_ | refine aw_iadd e_Mo_lay_189 ?_
                      refine aw_aload_n e_Mo_lay_190 rfl ?_
                      refine aw_getR e_Mo_lay_191 fl_Mo_25 (hS.1 _ _ _ _ rfl) ?_
                      refine aw_bipush (v := nI 24) e_Mo_lay_194 (by decide) ?_
                      refine aw_iload_n e_Mo_lay_196 rfl ?_
                      first | refine awN_imul e_Mo_lay_197 ?_ | refine aw_imul e_Mo_lay_197 ?_
                      refine aw_iload e_Mo_lay_198 rfl ?_
                      first | refine awN_iadd e_Mo_lay_200 ?_ | refine aw_iadd e_Mo_lay_200 ?_
                      refine aw_ialE e_Mo_lay_201 rfl (show _ < 96 by omega) (by omega) (show _ = I 31 0 (24 * k + c) by rw [hf5 31 0 (by decide)]; (repeat (rw [sI_n (by omega)]))) ?_
                      refine aw_iast e_Mo_lay_202 rfl (show _ < 120 by omega) (by omega) ?_
                      refine aw_inc6 e_Mo_lay_203 (inc1 _) ?_
                      refine aw_goto e_Mo_lay_206 ?_
                      refine ih h176 _ (fun t i ht => by rw [sI_n (by omega)]; exact hf5 t i ht) (fun n hn => by rw [sI_ne (by omega)]; exact h5o n hn) (fun j hj => ?_)
                      by_cases e : j = c
                      · rw [e, sI_eq]
                      · rw [sI_ne (by omega)]; exact hr5 j (by omega)
                · exact absurd h116 (by decide)
              · exact absurd h96 (by decide)
            · refine aw_ldcw (v := -1000000011) e_Mo_lay_70 kc_Mo_336 ?_
              have hq := hQ I L
              unfold op_lay at hq
              first
                | (rw [if_pos hg, hik, if_pos ⟨rfl, hsk.1 (by omega)⟩] at hq; exact aw_iret e_Mo_lay_73 rfl rfl (hq hM fK_0))
        · skip
          refine aw_iload_n e_Mo_lay_56 rfl ?_
          refine aw_iconst (v := nI 2) e_Mo_lay_57 (by decide) ?_
          refine awN_icmp_ne e_Mo_lay_58 (by omega) (by omega) (fun h58 => ?_) (fun h58 => ?_)
          · refine aw_aload_n e_Mo_lay_74 rfl ?_
            refine aw_getR e_Mo_lay_75 fl_Mo_28 (hS.1 _ _ _ _ rfl) ?_
            refine aw_iload_n e_Mo_lay_78 rfl ?_
            refine aw_ialE e_Mo_lay_79 rfl (show _ < 5 by omega) (by omega) hms0.1 ?_
            refine aw_ist5 e_Mo_lay_80 ?_
            refine aw_aload_n e_Mo_lay_82 rfl ?_
            refine aw_getR e_Mo_lay_83 fl_Mo_28 (hS.1 _ _ _ _ rfl) ?_
            refine aw_iload_n e_Mo_lay_86 rfl ?_
            refine aw_iload_n e_Mo_lay_87 rfl ?_
            refine aw_iast e_Mo_lay_88 rfl (show _ < 5 by omega) (by omega) ?_
            refine aw_aload_n e_Mo_lay_89 rfl ?_
            refine aw_getR e_Mo_lay_90 fl_Mo_31 (hS.1 _ _ _ _ rfl) ?_
            refine aw_iload_n e_Mo_lay_93 rfl ?_
            refine aw_iload_n e_Mo_lay_94 rfl ?_
            refine aw_iconst (v := nI 1) e_Mo_lay_95 (by decide) ?_
            refine awN_icmp_ne e_Mo_lay_96 (by omega) (by omega) (fun h96 => ?_) (fun h96 => ?_)
            · refine aw_iload_n e_Mo_lay_107 rfl ?_
              refine aw_iast e_Mo_lay_108 rfl (show _ < 5 by omega) (by omega) ?_
              refine aw_aload_n e_Mo_lay_109 rfl ?_
              refine aw_getR e_Mo_lay_110 fl_Mo_34 (hS.1 _ _ _ _ rfl) ?_
              refine aw_iload_n e_Mo_lay_113 rfl ?_
              refine aw_iload_n e_Mo_lay_114 rfl ?_
              refine aw_iconst (v := nI 1) e_Mo_lay_115 (by decide) ?_
              refine awN_icmp_ne e_Mo_lay_116 (by omega) (by omega) (fun h116 => ?_) (fun h116 => ?_)
              · refine aw_iconst (v := nI 0) e_Mo_lay_150 (by decide) ?_
                refine aw_iast e_Mo_lay_151 rfl (show _ < 5 by omega) (by omega) ?_
                refine aw_iload_n e_Mo_lay_152 rfl ?_
                refine aw_iconst (v := nI 2) e_Mo_lay_153 (by decide) ?_
                refine awN_icmp_ne e_Mo_lay_154 (by omega) (by omega) (fun h154 => ?_) (fun h154 => ?_)
                · refine aw_iload e_Mo_lay_209 rfl ?_
                  have hms := MSt_slot (I2 := (sI (sI (sI I 32 0 s (nI 3)) 33 0 s z) 34 0 s (nI 0))) (v := (3, z, pP (sM S) (ix z), sH S (ix z))) hM hA (fun t2 i2 h => by (repeat (rw [sI_n (by omega)]))) (fun q hq hqs => ⟨by (repeat (first | rw [sI_n (by omega)] | rw [sI_ne (by omega)])), by (repeat (first | rw [sI_n (by omega)] | rw [sI_ne (by omega)])), by (repeat (first | rw [sI_n (by omega)] | rw [sI_ne (by omega)])), by (repeat (first | rw [sI_n (by omega)] | rw [sI_ne (by omega)])), fun j hj => by (repeat (first | rw [sI_n (by omega)] | rw [sI_ne (by omega)]))⟩) ⟨by (repeat (first | rw [sI_n (by omega)] | rw [sI_ne (by omega)])); rw [sI_eq], fun _ => by (repeat (first | rw [sI_n (by omega)] | rw [sI_ne (by omega)])); rw [sI_eq], fun q => absurd q (show ¬ (3 : Nat) = 1 by decide), fun q => absurd q (show ¬ (3 : Nat) = 2 by decide)⟩
                  have hq := hQ (sI (sI (sI I 32 0 s (nI 3)) 33 0 s z) 34 0 s (nI 0)) L
                  unfold op_lay at hq
                  rw [if_pos hg, ix_n (j := s) (by omega), if_neg (fun w => absurd w.1 (by decide))] at hq
                  exact aw_iret e_Mo_lay_211 rfl rfl (hq hms.1 hms.2)
                · exact absurd h154 (by decide)
              · exact absurd h116 (by decide)
            · exact absurd h96 (by decide)
          · exact absurd h58 (by decide)
      · exact absurd h50 (by decide)
  have k41f : ¬ (y.toInt = 0 ∨ y.toInt = 3 ∨ (y.toInt = 1 ∧ inR z (nP (sM S))) ∨ (y.toInt = 2 ∧ inR z 4)) → AWq l E (d + 2) M_Mo_lay Z 41 [some (vr 9 0), some (vi x), some (vi y), some (vi z), some (vi (nI 0)), none, none] [] I L R Z Q := fun hG => by
    refine aw_iload_n e_Mo_lay_41 rfl ?_
    refine aw_cS1 e_Mo_lay_42 ml_Mo_340 mf_Mo_isSlot ms_Mo_isSlot (c_Mo_isSlot ?_)
    refine awB_eq e_Mo_lay_45 (fun h45 => ?_) (fun h45 => ?_)
    · refine aw_ldc (v := -1000000001) e_Mo_lay_53 kc_Mo_89 ?_
      have hq := hQ I L
      unfold op_lay at hq
      first
        | (rw [if_neg (fun w => h45 w.1)] at hq; exact aw_iret e_Mo_lay_55 rfl rfl (hq hM fK_0))
        | (rw [if_neg (fun w => hG (by have w1 := w.2.1; have w2 := w.2.2; obtain ⟨t, ht, rfl⟩ := inR_nI w1; rw [ix_n (by omega)] at w2; have hTt := nT (n := t) (by omega); by_cases e1 : t = 1; have w3 := w2.1 e1; omega; by_cases e2 : t = 2; have w3 := w2.2 e2; omega; omega))] at hq; exact aw_iret e_Mo_lay_55 rfl rfl (hq hM fK_0))
    · refine aw_iload e_Mo_lay_48 rfl ?_
      refine awN_if_ne e_Mo_lay_50 (by omega) (fun h50 => ?_) (fun h50 => ?_)
      · exact absurd rfl h50
      · refine aw_ldc (v := -1000000001) e_Mo_lay_53 kc_Mo_89 ?_
        have hq := hQ I L
        unfold op_lay at hq
        first
          | (rw [if_neg (fun w => h45 w.1)] at hq; exact aw_iret e_Mo_lay_55 rfl rfl (hq hM fK_0))
          | (rw [if_neg (fun w => hG (by have w1 := w.2.1; have w2 := w.2.2; obtain ⟨t, ht, rfl⟩ := inR_nI w1; rw [ix_n (by omega)] at w2; have hTt := nT (n := t) (by omega); by_cases e1 : t = 1; have w3 := w2.1 e1; omega; by_cases e2 : t = 2; have w3 := w2.2 e2; omega; omega))] at hq; exact aw_iret e_Mo_lay_55 rfl rfl (hq hM fK_0))
  refine aw_iload_n e_Mo_lay_0 rfl ?_
  refine awZ_if_eq e_Mo_lay_1 (fun h1 => ?_) (fun h1 => ?_)
  · refine aw_iconst (v := nI 1) e_Mo_lay_34 (by decide) ?_
    refine aw_goto e_Mo_lay_35 ?_
    refine aw_ist4 e_Mo_lay_39 ?_
    first
      | exact k41t (by omega)
      | exact k41f (by omega)
  · refine aw_iload_n e_Mo_lay_4 rfl ?_
    refine aw_iconst (v := nI 3) e_Mo_lay_5 (by decide) ?_
    refine awZ_icmp_eq e_Mo_lay_6 (fun h6 => ?_) (fun h6 => ?_)
    · refine aw_iconst (v := nI 1) e_Mo_lay_34 (by decide) ?_
      refine aw_goto e_Mo_lay_35 ?_
      refine aw_ist4 e_Mo_lay_39 ?_
      first
        | exact k41t (by omega)
        | exact k41f (by omega)
    · refine aw_iload_n e_Mo_lay_9 rfl ?_
      refine aw_iconst (v := nI 1) e_Mo_lay_10 (by decide) ?_
      refine awZ_icmp_ne e_Mo_lay_11 (fun h11 => ?_) (fun h11 => ?_)
      · refine aw_iload_n e_Mo_lay_22 rfl ?_
        refine aw_iconst (v := nI 2) e_Mo_lay_23 (by decide) ?_
        refine awZ_icmp_ne e_Mo_lay_24 (fun h24 => ?_) (fun h24 => ?_)
        · refine aw_iconst (v := nI 0) e_Mo_lay_38 (by decide) ?_
          refine aw_ist4 e_Mo_lay_39 ?_
          first
            | exact k41t (by omega)
            | exact k41f (by omega)
        · refine aw_iload_n e_Mo_lay_27 rfl ?_
          refine aw_cS1 e_Mo_lay_28 ml_Mo_332 mf_Mo_isSheet ms_Mo_isSheet (c_Mo_isSheet ?_)
          refine awB_eq e_Mo_lay_31 (fun h31 => ?_) (fun h31 => ?_)
          · refine aw_iconst (v := nI 0) e_Mo_lay_38 (by decide) ?_
            refine aw_ist4 e_Mo_lay_39 ?_
            first
              | exact k41t (by omega)
              | exact k41f (by omega)
          · refine aw_iconst (v := nI 1) e_Mo_lay_34 (by decide) ?_
            refine aw_goto e_Mo_lay_35 ?_
            refine aw_ist4 e_Mo_lay_39 ?_
            first
              | exact k41t (by omega)
              | exact k41f (by omega)
      · refine aw_aload_n e_Mo_lay_14 rfl ?_
        refine aw_iload_n e_Mo_lay_15 rfl ?_
        refine aw_cV1 e_Mo_lay_16 ml_Mo_122 mf_Mo_isPart mv_Mo_isPart (c_Mo_isPart hS hC hW ?_)
        refine awB_ne e_Mo_lay_19 (fun h19 => ?_) (fun h19 => ?_)
        · refine aw_iconst (v := nI 1) e_Mo_lay_34 (by decide) ?_
          refine aw_goto e_Mo_lay_35 ?_
          refine aw_ist4 e_Mo_lay_39 ?_
          first
            | exact k41t (by omega)
            | exact k41f (by omega)
        · refine aw_iload_n e_Mo_lay_22 rfl ?_
          refine aw_iconst (v := nI 2) e_Mo_lay_23 (by decide) ?_
          refine awZ_icmp_ne e_Mo_lay_24 (fun h24 => ?_) (fun h24 => ?_)
          · refine aw_iconst (v := nI 0) e_Mo_lay_38 (by decide) ?_
            refine aw_ist4 e_Mo_lay_39 ?_
            first
              | exact k41t (by omega)
              | exact k41f (by omega)
          · refine aw_iload_n e_Mo_lay_27 rfl ?_
            refine aw_cS1 e_Mo_lay_28 ml_Mo_332 mf_Mo_isSheet ms_Mo_isSheet (c_Mo_isSheet ?_)
            refine awB_eq e_Mo_lay_31 (fun h31 => ?_) (fun h31 => ?_)
            · refine aw_iconst (v := nI 0) e_Mo_lay_38 (by decide) ?_
              refine aw_ist4 e_Mo_lay_39 ?_
              first
                | exact k41t (by omega)
                | exact k41f (by omega)
            · refine aw_iconst (v := nI 1) e_Mo_lay_34 (by decide) ?_
              refine aw_goto e_Mo_lay_35 ?_
              refine aw_ist4 e_Mo_lay_39 ?_
              first
                | exact k41t (by omega)
                | exact k41f (by omega)
