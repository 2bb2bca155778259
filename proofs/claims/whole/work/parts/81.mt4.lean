/-! ===== the model's tape: a piece, the whole reading ===== -/
theorem nm_K {key K : Nat} {t : TB} {x : Wd} (hKk : K < 12 ↔ key = 0) (h1 : x.2.2 = 1) (h2 : x.2.1 - x.1 = 1) : isNm key t x = true ↔ (lttr t x = 116 ∨ (if K < 12 then lttr t x = 104 else (lttr t x = 112 ∨ lttr t x = 102))) := by
  rw [isNm_iff]
  by_cases e : key = 0
  · rw [if_pos e, if_pos (hKk.2 e)]
    exact ⟨fun z => z.2, fun z => ⟨⟨h1, h2⟩, z⟩⟩
  · rw [if_neg e, if_neg (fun z => e (hKk.1 z))]
    exact ⟨fun z => z.2, fun z => ⟨⟨h1, h2⟩, z⟩⟩
theorem p0_step {l : Launch} {E : En} {L : Lt} {R : Rt} {Z : Zt} {t : TB} {key K la : Nat} (hS : Sta R) (hK : K < 24) (hKk : K < 12 ↔ key = 0) {F : Nat} (hP : CMd l E L R Z t key K la M_Mo_part0 5 F) (hL : CMd l E L R Z t key K la M_Mo_either 0 F) : CMd l E L R Z t key K la M_Mo_part0 5 (F + 1) := by
  intro o i x I D Q ho hi hD hTS hX hms hQ
  obtain ⟨D, rfl⟩ : ∃ D2, D = D2 + 4 := ⟨D - 4, by omega⟩
  have hT96 := hTS.1.2.1
  have hx1 := hX.1.1
  have hx2 := hX.1.2.1
  have htl := tok_le hX.1.2.2.1
  rw [rd_pc] at hQ
  refine AMet.of mf_Mo_part0 rfl (Nat.le_of_ble_eq_true rfl) ?_
  refine aw_aload_n e_Mo_part0_0 rfl ?_
  refine aw_getE e_Mo_part0_1 fl_Mo_243 hTS.2.1.2.2.1 ?_
  refine aw_iconst (v := nI 2) e_Mo_part0_4 (by decide) ?_
  refine awN_icmp_ne e_Mo_part0_5 (by omega) (by omega) (fun h5 => ?_) (fun h5 => ?_)
  · have hnn : ¬ isNb x.1 = true := fun z => h5 (tok_2.2 z)
    have hX0 := hX.2
    have hla := hTS.2.2.1.2
    have k84 : ¬ isNm key t x.1 = true → AWq l E (D + 4) M_Mo_part0 Z 84 [some (vr 9 0), some (vi (nI K))] [] I L R Z Q := fun hnm => by
      refine aw_aload_n e_Mo_part0_84 rfl ?_
      refine aw_bipush (v := nI 33) e_Mo_part0_85 (by decide) ?_
      refine aw_cV1 e_Mo_part0_87 ml_Mo_277 mf_Mo_isSign mv_Mo_isSign (c_Mo_isSign hS hTS.1 hTS.2.1 hX.1 (by decide) ?_)
      refine awB_eq e_Mo_part0_90 (fun h90 => ?_) (fun h90 => ?_)
      · refine aw_aload_n e_Mo_part0_145 rfl ?_
        refine aw_bipush (v := nI 40) e_Mo_part0_146 (by decide) ?_
        refine aw_cV1 e_Mo_part0_148 ml_Mo_277 mf_Mo_isSign mv_Mo_isSign (c_Mo_isSign hS hTS.1 hTS.2.1 hX.1 (by decide) ?_)
        refine awB_eq e_Mo_part0_151 (fun h151 => ?_) (fun h151 => ?_)
        · refine aw_iconst (v := nI 0) e_Mo_part0_163 (by decide) ?_
          first | rw [if_neg (fun z => h90 z.1)] at hQ | rw [if_neg (fun z => by have := z.2; omega)] at hQ
          first | rw [if_neg (fun z => h151 z.1)] at hQ | rw [if_neg (fun z => by have := z.2; omega)] at hQ
          rw [if_neg hnn, if_neg hnm] at hQ
          exact awB_0 e_Mo_part0_164 (show ¬ false = true by decide) (hQ I ⟨fP_0, fun z => absurd (show false = true from z) (by decide), fun _ => hTS.2.1.1⟩)
        · refine aw_aload_n e_Mo_part0_154 rfl ?_
          refine aw_getE e_Mo_part0_155 fl_Mo_304 hTS.2.2.2.2.1 ?_
          refine aw_bipush (v := nI 8) e_Mo_part0_158 (by decide) ?_
          refine awN_icmp_ne e_Mo_part0_160 (by omega) (by omega) (fun h160 => ?_) (fun h160 => ?_)
          · have ho8 : o < 8 := by omega
            refine aw_aload_n e_Mo_part0_165 rfl ?_
            refine aw_dup e_Mo_part0_166 rfl ?_
            refine aw_getE e_Mo_part0_167 fl_Mo_304 hTS.2.2.2.2.1 ?_
            refine aw_iconst (v := nI 1) e_Mo_part0_170 (by decide) ?_
            first | refine awN_iadd e_Mo_part0_171 ?_ | refine aw_iadd e_Mo_part0_171 ?_
            refine aw_putI e_Mo_part0_172 fl_Mo_304 ?_
            have hTD := hTS.dp (o2 := o + 1)
            refine aw_aload_n e_Mo_part0_175 rfl ?_
            refine aw_cV0 e_Mo_part0_176 ml_Mo_265 mf_Mo_next mv_Mo_next (c_Mo_next (x := x.1) (tk := tok x.1) hS hTD.1 hTD.2.1.2.1 hTD.2.1.2.2.1 (tok_le hX.1.2.2.1) (gl_3 hX.1 (sgn_iff.1 h151).1) hX.1.2.1 (fun I1 hl1 hf1 => ?_))
            have hTS1 := hTD.nx hl1 hf1
            have hX1 := XI_nx hX (by rw [(sgn_iff.1 h151).1]; decide)
            refine aw_aload_n e_Mo_part0_179 rfl ?_
            refine aw_iload_n e_Mo_part0_180 rfl ?_
            refine aw_cV1 e_Mo_part0_181 ml_Mo_307 mf_Mo_either mv_Mo_either (hL (o + 1) i (nxX t x) _ _ _ (by omega) hi (by omega) hTS1 hX1.1 (by omega) (fun I2 hr2 => ?_))
            refine awB_eq e_Mo_part0_184 (fun h184 => ?_) (fun h184 => ?_)
            · refine aw_iconst (v := nI 0) e_Mo_part0_196 (by decide) ?_
              first | rw [if_neg (fun z => h90 z.1)] at hQ | rw [if_neg (fun z => by have := z.2; omega)] at hQ
              rw [if_pos ⟨h151, ho8⟩] at hQ
              first
                | (rw [if_neg (fun z => h193 z.2)] at hQ
                   exact awB_0 e_Mo_part0_197 (show ¬ false = true by decide) (hQ I2 ⟨fP_t (fP_t (fP_s fP_0 (by decide)) hf1.P) hr2.1, fun z => absurd (show false = true from z) (by decide), fun _ => hT2.2.1.1⟩))
                | (rw [if_neg (fun z => h184 z.1)] at hQ
                   exact awB_0 e_Mo_part0_197 (show ¬ false = true by decide) (hQ I2 ⟨fP_t (fP_t (fP_s fP_0 (by decide)) hf1.P) hr2.1, fun z => absurd (show false = true from z) (by decide), fun _ => hr2.2.2 h184⟩))
            · have hT2 := hr2.2.1 h184
              have hX2 := XI_rd (by decide) hX1.1 h184
              refine aw_aload_n e_Mo_part0_187 rfl ?_
              refine aw_bipush (v := nI 41) e_Mo_part0_188 (by decide) ?_
              refine aw_cV1 e_Mo_part0_190 ml_Mo_277 mf_Mo_isSign mv_Mo_isSign (c_Mo_isSign hS hT2.1 hT2.2.1 hX2.1.1 (by decide) ?_)
              refine awB_ne e_Mo_part0_193 (fun h193 => ?_) (fun h193 => ?_)
              · refine aw_aload_n e_Mo_part0_198 rfl ?_
                refine aw_dup e_Mo_part0_199 rfl ?_
                refine aw_getE e_Mo_part0_200 fl_Mo_304 hT2.2.2.2.2.1 ?_
                refine aw_iconst (v := nI 1) e_Mo_part0_203 (by decide) ?_
                refine awN_isub e_Mo_part0_204 (by omega) ?_
                rw [Nat.add_sub_cancel]
                refine aw_putI e_Mo_part0_205 fl_Mo_304 ?_
                have hT3 := hT2.dp (o2 := o)
                refine aw_aload_n e_Mo_part0_208 rfl ?_
                refine aw_cV0 e_Mo_part0_209 ml_Mo_265 mf_Mo_next mv_Mo_next (c_Mo_next (x := (rd t key F 0 (o + 1) i (nxX t x)).2.1) (tk := tok (rd t key F 0 (o + 1) i (nxX t x)).2.1) hS hT3.1 hT3.2.1.2.1 hT3.2.1.2.2.1 (tok_le hX2.1.1.2.2.1) (gl_3 hX2.1.1 (sgn_iff.1 h193).1) hX2.1.1.2.1 (fun I3 hl3 hf3 => ?_))
                refine aw_iconst (v := nI 1) e_Mo_part0_212 (by decide) ?_
                first | rw [if_neg (fun z => h90 z.1)] at hQ | rw [if_neg (fun z => by have := z.2; omega)] at hQ
                rw [if_pos ⟨h151, ho8⟩, if_pos ⟨h184, h193⟩] at hQ
                exact awB_1 e_Mo_part0_213 rfl (hQ I3 ⟨fP_t (fP_s (fP_t (fP_t (fP_s fP_0 (by decide)) hf1.P) hr2.1) (by decide)) hf3.P, fun _ => hT3.nx hl3 hf3, fun z => absurd (show true = true from rfl) z⟩)
              · refine aw_iconst (v := nI 0) e_Mo_part0_196 (by decide) ?_
                first | rw [if_neg (fun z => h90 z.1)] at hQ | rw [if_neg (fun z => by have := z.2; omega)] at hQ
                rw [if_pos ⟨h151, ho8⟩] at hQ
                first
                  | (rw [if_neg (fun z => h193 z.2)] at hQ
                     exact awB_0 e_Mo_part0_197 (show ¬ false = true by decide) (hQ I2 ⟨fP_t (fP_t (fP_s fP_0 (by decide)) hf1.P) hr2.1, fun z => absurd (show false = true from z) (by decide), fun _ => hT2.2.1.1⟩))
                  | (rw [if_neg (fun z => h184 z.1)] at hQ
                     exact awB_0 e_Mo_part0_197 (show ¬ false = true by decide) (hQ I2 ⟨fP_t (fP_t (fP_s fP_0 (by decide)) hf1.P) hr2.1, fun z => absurd (show false = true from z) (by decide), fun _ => hr2.2.2 h184⟩))
          · refine aw_iconst (v := nI 0) e_Mo_part0_163 (by decide) ?_
            first | rw [if_neg (fun z => h90 z.1)] at hQ | rw [if_neg (fun z => by have := z.2; omega)] at hQ
            first | rw [if_neg (fun z => h151 z.1)] at hQ | rw [if_neg (fun z => by have := z.2; omega)] at hQ
            rw [if_neg hnn, if_neg hnm] at hQ
            exact awB_0 e_Mo_part0_164 (show ¬ false = true by decide) (hQ I ⟨fP_0, fun z => absurd (show false = true from z) (by decide), fun _ => hTS.2.1.1⟩)
      · refine aw_aload_n e_Mo_part0_93 rfl ?_
        refine aw_getE e_Mo_part0_94 fl_Mo_301 hTS.2.2.2.2.2 ?_
        refine aw_bipush (v := nI 8) e_Mo_part0_97 (by decide) ?_
        refine awN_icmp_ge e_Mo_part0_99 (by omega) (by omega) (fun h99 => ?_) (fun h99 => ?_)
        · refine aw_aload_n e_Mo_part0_145 rfl ?_
          refine aw_bipush (v := nI 40) e_Mo_part0_146 (by decide) ?_
          refine aw_cV1 e_Mo_part0_148 ml_Mo_277 mf_Mo_isSign mv_Mo_isSign (c_Mo_isSign hS hTS.1 hTS.2.1 hX.1 (by decide) ?_)
          refine awB_eq e_Mo_part0_151 (fun h151 => ?_) (fun h151 => ?_)
          · refine aw_iconst (v := nI 0) e_Mo_part0_163 (by decide) ?_
            first | rw [if_neg (fun z => h90 z.1)] at hQ | rw [if_neg (fun z => by have := z.2; omega)] at hQ
            first | rw [if_neg (fun z => h151 z.1)] at hQ | rw [if_neg (fun z => by have := z.2; omega)] at hQ
            rw [if_neg hnn, if_neg hnm] at hQ
            exact awB_0 e_Mo_part0_164 (show ¬ false = true by decide) (hQ I ⟨fP_0, fun z => absurd (show false = true from z) (by decide), fun _ => hTS.2.1.1⟩)
          · refine aw_aload_n e_Mo_part0_154 rfl ?_
            refine aw_getE e_Mo_part0_155 fl_Mo_304 hTS.2.2.2.2.1 ?_
            refine aw_bipush (v := nI 8) e_Mo_part0_158 (by decide) ?_
            refine awN_icmp_ne e_Mo_part0_160 (by omega) (by omega) (fun h160 => ?_) (fun h160 => ?_)
            · have ho8 : o < 8 := by omega
              refine aw_aload_n e_Mo_part0_165 rfl ?_
              refine aw_dup e_Mo_part0_166 rfl ?_
              refine aw_getE e_Mo_part0_167 fl_Mo_304 hTS.2.2.2.2.1 ?_
              refine aw_iconst (v := nI 1) e_Mo_part0_170 (by decide) ?_
              first | refine awN_iadd e_Mo_part0_171 ?_ | refine aw_iadd e_Mo_part0_171 ?_
              refine aw_putI e_Mo_part0_172 fl_Mo_304 ?_
              have hTD := hTS.dp (o2 := o + 1)
              refine aw_aload_n e_Mo_part0_175 rfl ?_
              refine aw_cV0 e_Mo_part0_176 ml_Mo_265 mf_Mo_next mv_Mo_next (c_Mo_next (x := x.1) (tk := tok x.1) hS hTD.1 hTD.2.1.2.1 hTD.2.1.2.2.1 (tok_le hX.1.2.2.1) (gl_3 hX.1 (sgn_iff.1 h151).1) hX.1.2.1 (fun I1 hl1 hf1 => ?_))
              have hTS1 := hTD.nx hl1 hf1
              have hX1 := XI_nx hX (by rw [(sgn_iff.1 h151).1]; decide)
              refine aw_aload_n e_Mo_part0_179 rfl ?_
              refine aw_iload_n e_Mo_part0_180 rfl ?_
              refine aw_cV1 e_Mo_part0_181 ml_Mo_307 mf_Mo_either mv_Mo_either (hL (o + 1) i (nxX t x) _ _ _ (by omega) hi (by omega) hTS1 hX1.1 (by omega) (fun I2 hr2 => ?_))
              refine awB_eq e_Mo_part0_184 (fun h184 => ?_) (fun h184 => ?_)
              · refine aw_iconst (v := nI 0) e_Mo_part0_196 (by decide) ?_
                first | rw [if_neg (fun z => h90 z.1)] at hQ | rw [if_neg (fun z => by have := z.2; omega)] at hQ
                rw [if_pos ⟨h151, ho8⟩] at hQ
                first
                  | (rw [if_neg (fun z => h193 z.2)] at hQ
                     exact awB_0 e_Mo_part0_197 (show ¬ false = true by decide) (hQ I2 ⟨fP_t (fP_t (fP_s fP_0 (by decide)) hf1.P) hr2.1, fun z => absurd (show false = true from z) (by decide), fun _ => hT2.2.1.1⟩))
                  | (rw [if_neg (fun z => h184 z.1)] at hQ
                     exact awB_0 e_Mo_part0_197 (show ¬ false = true by decide) (hQ I2 ⟨fP_t (fP_t (fP_s fP_0 (by decide)) hf1.P) hr2.1, fun z => absurd (show false = true from z) (by decide), fun _ => hr2.2.2 h184⟩))
              · have hT2 := hr2.2.1 h184
                have hX2 := XI_rd (by decide) hX1.1 h184
                refine aw_aload_n e_Mo_part0_187 rfl ?_
                refine aw_bipush (v := nI 41) e_Mo_part0_188 (by decide) ?_
                refine aw_cV1 e_Mo_part0_190 ml_Mo_277 mf_Mo_isSign mv_Mo_isSign (c_Mo_isSign hS hT2.1 hT2.2.1 hX2.1.1 (by decide) ?_)
                refine awB_ne e_Mo_part0_193 (fun h193 => ?_) (fun h193 => ?_)
                · refine aw_aload_n e_Mo_part0_198 rfl ?_
                  refine aw_dup e_Mo_part0_199 rfl ?_
                  refine aw_getE e_Mo_part0_200 fl_Mo_304 hT2.2.2.2.2.1 ?_
                  refine aw_iconst (v := nI 1) e_Mo_part0_203 (by decide) ?_
                  refine awN_isub e_Mo_part0_204 (by omega) ?_
                  rw [Nat.add_sub_cancel]
                  refine aw_putI e_Mo_part0_205 fl_Mo_304 ?_
                  have hT3 := hT2.dp (o2 := o)
                  refine aw_aload_n e_Mo_part0_208 rfl ?_
                  refine aw_cV0 e_Mo_part0_209 ml_Mo_265 mf_Mo_next mv_Mo_next (c_Mo_next (x := (rd t key F 0 (o + 1) i (nxX t x)).2.1) (tk := tok (rd t key F 0 (o + 1) i (nxX t x)).2.1) hS hT3.1 hT3.2.1.2.1 hT3.2.1.2.2.1 (tok_le hX2.1.1.2.2.1) (gl_3 hX2.1.1 (sgn_iff.1 h193).1) hX2.1.1.2.1 (fun I3 hl3 hf3 => ?_))
                  refine aw_iconst (v := nI 1) e_Mo_part0_212 (by decide) ?_
                  first | rw [if_neg (fun z => h90 z.1)] at hQ | rw [if_neg (fun z => by have := z.2; omega)] at hQ
                  rw [if_pos ⟨h151, ho8⟩, if_pos ⟨h184, h193⟩] at hQ
                  exact awB_1 e_Mo_part0_213 rfl (hQ I3 ⟨fP_t (fP_s (fP_t (fP_t (fP_s fP_0 (by decide)) hf1.P) hr2.1) (by decide)) hf3.P, fun _ => hT3.nx hl3 hf3, fun z => absurd (show true = true from rfl) z⟩)
                · refine aw_iconst (v := nI 0) e_Mo_part0_196 (by decide) ?_
                  first | rw [if_neg (fun z => h90 z.1)] at hQ | rw [if_neg (fun z => by have := z.2; omega)] at hQ
                  rw [if_pos ⟨h151, ho8⟩] at hQ
                  first
                    | (rw [if_neg (fun z => h193 z.2)] at hQ
                       exact awB_0 e_Mo_part0_197 (show ¬ false = true by decide) (hQ I2 ⟨fP_t (fP_t (fP_s fP_0 (by decide)) hf1.P) hr2.1, fun z => absurd (show false = true from z) (by decide), fun _ => hT2.2.1.1⟩))
                    | (rw [if_neg (fun z => h184 z.1)] at hQ
                       exact awB_0 e_Mo_part0_197 (show ¬ false = true by decide) (hQ I2 ⟨fP_t (fP_t (fP_s fP_0 (by decide)) hf1.P) hr2.1, fun z => absurd (show false = true from z) (by decide), fun _ => hr2.2.2 h184⟩))
            · refine aw_iconst (v := nI 0) e_Mo_part0_163 (by decide) ?_
              first | rw [if_neg (fun z => h90 z.1)] at hQ | rw [if_neg (fun z => by have := z.2; omega)] at hQ
              first | rw [if_neg (fun z => h151 z.1)] at hQ | rw [if_neg (fun z => by have := z.2; omega)] at hQ
              rw [if_neg hnn, if_neg hnm] at hQ
              exact awB_0 e_Mo_part0_164 (show ¬ false = true by decide) (hQ I ⟨fP_0, fun z => absurd (show false = true from z) (by decide), fun _ => hTS.2.1.1⟩)
        · refine aw_aload_n e_Mo_part0_102 rfl ?_
          refine aw_dup e_Mo_part0_103 rfl ?_
          refine aw_getE e_Mo_part0_104 fl_Mo_301 hTS.2.2.2.2.2 ?_
          refine aw_iconst (v := nI 1) e_Mo_part0_107 (by decide) ?_
          first | refine awN_iadd e_Mo_part0_108 ?_ | refine aw_iadd e_Mo_part0_108 ?_
          refine aw_putI e_Mo_part0_109 fl_Mo_301 ?_
          have hTN := hTS.tn (i2 := i + 1)
          refine aw_aload_n e_Mo_part0_112 rfl ?_
          refine aw_cV0 e_Mo_part0_113 ml_Mo_265 mf_Mo_next mv_Mo_next (c_Mo_next (x := x.1) (tk := tok x.1) hS hTN.1 hTN.2.1.2.1 hTN.2.1.2.2.1 (tok_le hX.1.2.2.1) (gl_3 hX.1 (sgn_iff.1 h90).1) hX.1.2.1 (fun I1 hl1 hf1 => ?_))
          have hTS1 := hTN.nx hl1 hf1
          have hX1 := XI_nx hX (by rw [(sgn_iff.1 h90).1]; decide)
          refine aw_aload_n e_Mo_part0_116 rfl ?_
          refine aw_iload_n e_Mo_part0_117 rfl ?_
          refine aw_cV1 e_Mo_part0_118 ml_Mo_292 mf_Mo_part0 mv_Mo_part0 (hP o (i + 1) (nxX t x) _ _ _ ho (by omega) (by omega) hTS1 hX1.1 (by omega) (fun I2 hr2 => ?_))
          refine awB_ne e_Mo_part0_121 (fun h121 => ?_) (fun h121 => ?_)
          · have hT2 := hr2.2.1 h121
            have hX2 := XI_rd (by decide) hX1.1 h121
            have hX2l : (rd t key F 5 o (i + 1) (nxX t x)).2.2.1.length + (nxX t x).1.1 ≤ x.2.1.length + (rd t key F 5 o (i + 1) (nxX t x)).2.1.1 := hX2.2.2.2
            have hX0 := hX.2
            have hla := hTS.2.2.1.2
            refine aw_aload_n e_Mo_part0_126 rfl ?_
            refine aw_dup e_Mo_part0_127 rfl ?_
            refine aw_getE e_Mo_part0_128 fl_Mo_301 hT2.2.2.2.2.2 ?_
            refine aw_iconst (v := nI 1) e_Mo_part0_131 (by decide) ?_
            refine awN_isub e_Mo_part0_132 (by omega) ?_
            rw [Nat.add_sub_cancel]
            refine aw_putI e_Mo_part0_133 fl_Mo_301 ?_
            have hT3 := hT2.tn (i2 := i)
            refine aw_aload_n e_Mo_part0_136 rfl ?_
            refine aw_iconst (v := nI 2) e_Mo_part0_137 (by decide) ?_
            refine aw_bipush (v := nI 33) e_Mo_part0_138 (by decide) ?_
            refine aw_cV2 e_Mo_part0_140 ml_Mo_280 mf_Mo_step mv_Mo_step (c_Mo_step (k := (rd t key F 5 o (i + 1) (nxX t x)).2.2.1.length) (la := la) hS hT3.2.2.2.1.1 hT3.2.2.1.1 (by omega) ?_)
            refine aw_iconst (v := nI 1) e_Mo_part0_143 (by decide) ?_
            rw [if_pos ⟨h90, h99⟩, if_pos h121] at hQ
            exact awB_1 e_Mo_part0_144 rfl (hQ _ ⟨fP_s (fP_r (fP_r (fP_s (fP_t (fP_t (fP_s fP_0 (by decide)) hf1.P) hr2.1) (by decide)) (by omega)) (by omega)) (by decide), fun _ => hT3.put (q := (2, 33)), fun z => absurd (show true = true from rfl) z⟩)
          · refine aw_iconst (v := nI 0) e_Mo_part0_124 (by decide) ?_
            rw [if_pos ⟨h90, h99⟩, if_neg h121] at hQ
            exact awB_0 e_Mo_part0_125 h121 (hQ I2 ⟨fP_t (fP_t (fP_s fP_0 (by decide)) hf1.P) hr2.1, fun z => absurd z h121, hr2.2.2⟩)
    refine aw_aload_n e_Mo_part0_33 rfl ?_
    refine aw_getE e_Mo_part0_34 fl_Mo_243 hTS.2.1.2.2.1 ?_
    refine aw_iconst (v := nI 1) e_Mo_part0_37 (by decide) ?_
    refine awN_icmp_ne e_Mo_part0_38 (by omega) (by omega) (fun h38 => ?_) (fun h38 => ?_)
    · exact k84 (fun z => h38 ((tok_n (by decide) (by decide)).2 (isNm_iff.1 z).1.1))
    · have hs1 := (tok_n (x := x.1) (c := 1) (by decide) (by decide)).1 h38
      have hw4 := hX.1.2.2.2.1 (by omega)
      have hlt0 := hTS.2.1.2.2.2.1 hs1
      by_cases hl1 : x.1.2.1 - x.1.1 = 1
      · have hlt1 : I 9 0 21 = nI (lttr t x.1) := by rw [hlt0, if_pos hl1]
        have hlv := (lt_v (t := t) (hX.1.2.2.2.2.1 hs1 x.1.1 (Nat.le_refl _) hw4)).2
        have hlu : lttr t x.1 = (t.2 x.1.1).toInt.toNat := rfl
        refine aw_aload_n e_Mo_part0_41 rfl ?_
        refine aw_getE e_Mo_part0_42 fl_Mo_252 hlt1 ?_
        refine awN_if_eq e_Mo_part0_45 (by omega) (fun h45 => ?_) (fun h45 => ?_)
        · exact absurd h45 (by omega)
        · refine aw_iload_n e_Mo_part0_48 rfl ?_
          refine aw_aload_n e_Mo_part0_49 rfl ?_
          refine aw_getE e_Mo_part0_50 fl_Mo_252 hlt1 ?_
          refine aw_cS2 e_Mo_part0_53 ml_Mo_298 mf_Mo_isName ms_Mo_isName (c_Mo_isName hK (by omega) ?_)
          refine awB_eq e_Mo_part0_56 (fun h56 => ?_) (fun h56 => ?_)
          · exact k84 (fun z => h56 ((nm_K hKk hs1 hl1).1 z))
          · have hnm := (nm_K hKk hs1 hl1).2 h56
            refine aw_aload_n e_Mo_part0_59 rfl ?_
            refine aw_iconst (v := nI 1) e_Mo_part0_60 (by decide) ?_
            refine aw_aload_n e_Mo_part0_61 rfl ?_
            refine aw_getE e_Mo_part0_62 fl_Mo_252 hlt1 ?_
            refine aw_cV2 e_Mo_part0_65 ml_Mo_280 mf_Mo_step mv_Mo_step (c_Mo_step (k := x.2.1.length) (la := la) hS hTS.2.2.2.1.1 hTS.2.2.1.1 (by omega) ?_)
            have hTP : MTS _ t la o i (ptX x (1, lttr t x.1)) := hTS.put
            refine aw_aload_n e_Mo_part0_68 rfl ?_
            refine aw_dup e_Mo_part0_69 rfl ?_
            refine aw_getE e_Mo_part0_70 fl_Mo_295 (show _ = nI x.2.2 from hTP.2.2.2.1.2.2) ?_
            refine aw_iconst (v := nI 1) e_Mo_part0_73 (by decide) ?_
            first | refine awN_iadd e_Mo_part0_74 ?_ | refine aw_iadd e_Mo_part0_74 ?_
            refine aw_putI e_Mo_part0_75 fl_Mo_295 ?_
            have hTO := hTP.op
            refine aw_aload_n e_Mo_part0_78 rfl ?_
            refine aw_cV0 e_Mo_part0_79 ml_Mo_265 mf_Mo_next mv_Mo_next (c_Mo_next (x := x.1) (tk := tok x.1) hS hTO.1 hTO.2.1.2.1 hTO.2.1.2.2.1 (tok_le hX.1.2.2.1) (gl_ok hX.1 (fun z => by omega)) hX.1.2.1 (fun I2 hl2 hf2 => ?_))
            refine aw_iconst (v := nI 1) e_Mo_part0_82 (by decide) ?_
            rw [if_neg (fun z => by have := (sgn_iff.1 z.1).1; omega), if_neg (fun z => by have := (sgn_iff.1 z.1).1; omega), if_neg hnn, if_pos hnm] at hQ
            exact awB_1 e_Mo_part0_83 rfl (hQ I2 ⟨fP_t (fP_s (fP_s (fP_r (fP_r fP_0 (by omega)) (by omega)) (by decide)) (by decide)) hf2.P, fun _ => hTO.nx hl2 hf2, fun z => absurd (show true = true from rfl) z⟩)
      · have hlt1 : I 9 0 21 = nI 0 := by rw [hlt0, if_neg hl1]
        refine aw_aload_n e_Mo_part0_41 rfl ?_
        refine aw_getE e_Mo_part0_42 fl_Mo_252 hlt1 ?_
        refine awN_if_eq e_Mo_part0_45 (by omega) (fun h45 => ?_) (fun h45 => ?_)
        · exact k84 (fun z => hl1 (isNm_iff.1 z).1.2)
        · exact absurd rfl h45
  · have hnb := isNb_iff.1 (tok_2.1 h5)
    have hw4 := hX.1.2.2.2.1 (by omega)
    have hX0 := hX.2
    have hla := hTS.2.2.1.2
    refine aw_aload_n e_Mo_part0_8 rfl ?_
    refine aw_iconst (v := nI 0) e_Mo_part0_9 (by decide) ?_
    refine aw_aload_n e_Mo_part0_10 rfl ?_
    refine aw_getE e_Mo_part0_11 fl_Mo_258 (hTS.2.1.2.2.2.2.2 hnb.1 hnb.2) ?_
    refine aw_cV2 e_Mo_part0_14 ml_Mo_280 mf_Mo_step mv_Mo_step (c_Mo_step (k := x.2.1.length) (la := la) hS hTS.2.2.2.1.1 hTS.2.2.1.1 (by omega) ?_)
    have hTP : MTS _ t la o i (ptX x (0, numV t x.1.1 (x.1.2.1 - x.1.1))) := hTS.put
    refine aw_aload_n e_Mo_part0_17 rfl ?_
    refine aw_dup e_Mo_part0_18 rfl ?_
    refine aw_getE e_Mo_part0_19 fl_Mo_295 (show _ = nI x.2.2 from hTP.2.2.2.1.2.2) ?_
    refine aw_iconst (v := nI 1) e_Mo_part0_22 (by decide) ?_
    first | refine awN_iadd e_Mo_part0_23 ?_ | refine aw_iadd e_Mo_part0_23 ?_
    refine aw_putI e_Mo_part0_24 fl_Mo_295 ?_
    have hTO := hTP.op
    refine aw_aload_n e_Mo_part0_27 rfl ?_
    refine aw_cV0 e_Mo_part0_28 ml_Mo_265 mf_Mo_next mv_Mo_next (c_Mo_next (x := x.1) (tk := tok x.1) hS hTO.1 hTO.2.1.2.1 hTO.2.1.2.2.1 (tok_le hX.1.2.2.1) (gl_ok hX.1 (fun z => by omega)) hX.1.2.1 (fun I2 hl2 hf2 => ?_))
    refine aw_iconst (v := nI 1) e_Mo_part0_31 (by decide) ?_
    rw [if_neg (fun z => by have := (sgn_iff.1 z.1).1; omega), if_neg (fun z => by have := (sgn_iff.1 z.1).1; omega), if_pos (tok_2.1 h5)] at hQ
    exact awB_1 e_Mo_part0_32 rfl (hQ I2 ⟨fP_t (fP_s (fP_s (fP_r (fP_r fP_0 (by omega)) (by omega)) (by decide)) (by decide)) hf2.P, fun _ => hTO.nx hl2 hf2, fun z => absurd (show true = true from rfl) z⟩)
theorem mo_all {l : Launch} {E : En} {L : Lt} {R : Rt} {Z : Zt} {t : TB} {key K la : Nat} (hS : Sta R) (hK : K < 24) (hKk : K < 12 ↔ key = 0) : ∀ F, CMd l E L R Z t key K la M_Mo_either 0 F ∧ CMd l E L R Z t key K la M_Mo_both (0 + 1) F ∧ CMd l E L R Z t key K la M_Mo_test (1 + 1) F ∧ CMd l E L R Z t key K la M_Mo_sum (2 + 1) F ∧ CMd l E L R Z t key K la M_Mo_term (3 + 1) F ∧ CMd l E L R Z t key K la M_Mo_part0 (4 + 1) F := by
  intro F
  induction F using Nat.strongRecOn with
  | _ F ih =>
    refine ⟨lv_Mo_either hS (fun G hG => (ih G hG).2.1), lv_Mo_both hS (fun G hG => (ih G hG).2.2.1), lv_Mo_test hS (fun G hG => (ih G hG).2.2.2.1), lv_Mo_sum hS (fun G hG => (ih G hG).2.2.2.2.1), lv_Mo_term hS (fun G hG => (ih G hG).2.2.2.2.2), ?_⟩
    cases F with
    | zero => intro o i x I D Q _ _ _ _ _ h; exact absurd h (by omega)
    | succ F => exact p0_step hS hK hKk (ih F (by omega)).2.2.2.2.2 (ih F (by omega)).1
theorem wd_4 {I : It} {t : TB} {x : Wd} {i : Nat} (hi : i < 2) (hT : MTP I t) (hO : WdO t x) (h1 : x.2.2 = 1) (h2 : x.2.1 - x.1 = 4) : wdB t x i = true ↔ byt (t.2 (x.1 + 0)) = chr i 0 ∧ byt (t.2 (x.1 + 1)) = chr i 1 ∧ byt (t.2 (x.1 + 2)) = chr i 2 ∧ byt (t.2 (x.1 + 3)) = chr i 3 := by
  have hO2 := hO.2.1
  have hcl : ∀ i, i < 2 → ∀ k, k < 4 → chr i k < 128 := by decide
  have hc : ∀ k, k < 4 → (byt (t.2 (x.1 + k)) = chr i k ↔ t.2 (x.1 + k) = nI (chr i k)) := fun k hk => byt_c hT (by omega) (hcl i hi k hk)
  rw [wdB_iff, hc 0 (by decide), hc 1 (by decide), hc 2 (by decide), hc 3 (by decide)]
  unfold allB allB allB allB allB
  simp only [Bool.and_eq_true, decide_eq_true_eq]
  constructor
  · intro z; exact ⟨z.2.1.1.1.2, z.2.1.1.2, z.2.1.2, z.2.2⟩
  · intro z; exact ⟨⟨h1, h2⟩, ⟨⟨⟨trivial, z.1⟩, z.2.1⟩, z.2.2.1⟩, z.2.2.2⟩
theorem c_Mo_isWordAt {l : Launch} {E : En} {d : Nat} {I : It} {L : Lt} {R : Rt} {Z : Zt} {Q : Qt} {t : TB} {x : Wd} (hS : Sta R) (hT : MTP I t) (hL : MW I t x) (hO : WdO t x) {i : Nat} (hi : i < 2) (hQ : Q (some (vi (bI (wdB t x i = true)))) I L R Z) : AMet l E d M_Mo_isWordAt [vr 9 0, vi (nI (chr i 0)), vi (nI (chr i 1)), vi (nI (chr i 2)), vi (nI (chr i 3))] I L R Z Q := by
  have htl := tok_le hO.2.2.1
  have hT1 := hT.2.1
  have hO1 := hO.1
  have hO2 := hO.2.1
  have hcl : ∀ i, i < 2 → ∀ k, k < 4 → chr i k < 128 := by decide
  have c0 := hcl i hi 0 (by decide)
  have c1 := hcl i hi 1 (by decide)
  have c2 := hcl i hi 2 (by decide)
  have c3 := hcl i hi 3 (by decide)
  refine AMet.of mf_Mo_isWordAt rfl (Nat.le_of_ble_eq_true rfl) ?_
  refine aw_aload_n e_Mo_isWordAt_0 rfl ?_
  refine aw_getE e_Mo_isWordAt_1 fl_Mo_243 hL.2.2.1 ?_
  refine aw_iconst (v := nI 1) e_Mo_isWordAt_4 (by decide) ?_
  refine awN_icmp_ne e_Mo_isWordAt_5 (by omega) (by omega) (fun h5 => ?_) (fun h5 => ?_)
  · refine aw_iconst (v := nI 0) e_Mo_isWordAt_84 (by decide) ?_
    first
      | exact awB_1 e_Mo_isWordAt_85 ((wd_4 hi hT hO hs1 h18).2 ⟨h31, h46, h61, h77⟩) hQ
      | exact awB_0 e_Mo_isWordAt_85 (fun z => h77 ((wd_4 hi hT hO hs1 h18).1 z).2.2.2) hQ
      | exact awB_0 e_Mo_isWordAt_85 (fun z => h61 ((wd_4 hi hT hO hs1 h18).1 z).2.2.1) hQ
      | exact awB_0 e_Mo_isWordAt_85 (fun z => h46 ((wd_4 hi hT hO hs1 h18).1 z).2.1) hQ
      | exact awB_0 e_Mo_isWordAt_85 (fun z => h31 ((wd_4 hi hT hO hs1 h18).1 z).1) hQ
      | exact awB_0 e_Mo_isWordAt_85 (fun z => h18 (wdB_iff.1 z).1.2) hQ
      | exact awB_0 e_Mo_isWordAt_85 (fun z => h5 ((tok_n (by decide) (by decide)).2 (wdB_iff.1 z).1.1)) hQ
  · refine aw_aload_n e_Mo_isWordAt_8 rfl ?_
    refine aw_getE e_Mo_isWordAt_9 fl_Mo_240 hL.2.1 ?_
    refine aw_aload_n e_Mo_isWordAt_12 rfl ?_
    refine aw_getE e_Mo_isWordAt_13 fl_Mo_246 hL.1 ?_
    refine awN_isub e_Mo_isWordAt_16 (by omega) ?_
    refine aw_iconst (v := nI 4) e_Mo_isWordAt_17 (by decide) ?_
    refine awN_icmp_ne e_Mo_isWordAt_18 (by omega) (by omega) (fun h18 => ?_) (fun h18 => ?_)
    · refine aw_iconst (v := nI 0) e_Mo_isWordAt_84 (by decide) ?_
      first
        | exact awB_1 e_Mo_isWordAt_85 ((wd_4 hi hT hO hs1 h18).2 ⟨h31, h46, h61, h77⟩) hQ
        | exact awB_0 e_Mo_isWordAt_85 (fun z => h77 ((wd_4 hi hT hO hs1 h18).1 z).2.2.2) hQ
        | exact awB_0 e_Mo_isWordAt_85 (fun z => h61 ((wd_4 hi hT hO hs1 h18).1 z).2.2.1) hQ
        | exact awB_0 e_Mo_isWordAt_85 (fun z => h46 ((wd_4 hi hT hO hs1 h18).1 z).2.1) hQ
        | exact awB_0 e_Mo_isWordAt_85 (fun z => h31 ((wd_4 hi hT hO hs1 h18).1 z).1) hQ
        | exact awB_0 e_Mo_isWordAt_85 (fun z => h18 (wdB_iff.1 z).1.2) hQ
        | exact awB_0 e_Mo_isWordAt_85 (fun z => h5 ((tok_n (by decide) (by decide)).2 (wdB_iff.1 z).1.1)) hQ
    · have hs1 := (tok_n (x := x) (c := 1) (by decide) (by decide)).1 h5
      have b0 := (hT.b (j := x.1 + 0) (by omega)).2.1
      have b1 := (hT.b (j := x.1 + 1) (by omega)).2.1
      have b2 := (hT.b (j := x.1 + 2) (by omega)).2.1
      have b3 := (hT.b (j := x.1 + 3) (by omega)).2.1
      refine aw_aload_n e_Mo_isWordAt_21 rfl ?_
      refine aw_getR e_Mo_isWordAt_22 fl_Mo_50 (hS.1 _ _ _ _ rfl) ?_
      refine aw_aload_n e_Mo_isWordAt_25 rfl ?_
      refine aw_getE e_Mo_isWordAt_26 fl_Mo_246 hL.1 ?_
      refine aw_ialE e_Mo_isWordAt_29 rfl (show _ < 96 by omega) (by omega) (hT.b (j := x.1 + 0) (by omega)).1 ?_
      refine aw_iload_n e_Mo_isWordAt_30 rfl ?_
      refine awN_icmp_ne e_Mo_isWordAt_31 (by omega) (by omega) (fun h31 => ?_) (fun h31 => ?_)
      · refine aw_iconst (v := nI 0) e_Mo_isWordAt_84 (by decide) ?_
        first
          | exact awB_1 e_Mo_isWordAt_85 ((wd_4 hi hT hO hs1 h18).2 ⟨h31, h46, h61, h77⟩) hQ
          | exact awB_0 e_Mo_isWordAt_85 (fun z => h77 ((wd_4 hi hT hO hs1 h18).1 z).2.2.2) hQ
          | exact awB_0 e_Mo_isWordAt_85 (fun z => h61 ((wd_4 hi hT hO hs1 h18).1 z).2.2.1) hQ
          | exact awB_0 e_Mo_isWordAt_85 (fun z => h46 ((wd_4 hi hT hO hs1 h18).1 z).2.1) hQ
          | exact awB_0 e_Mo_isWordAt_85 (fun z => h31 ((wd_4 hi hT hO hs1 h18).1 z).1) hQ
          | exact awB_0 e_Mo_isWordAt_85 (fun z => h18 (wdB_iff.1 z).1.2) hQ
          | exact awB_0 e_Mo_isWordAt_85 (fun z => h5 ((tok_n (by decide) (by decide)).2 (wdB_iff.1 z).1.1)) hQ
      · refine aw_aload_n e_Mo_isWordAt_34 rfl ?_
        refine aw_getR e_Mo_isWordAt_35 fl_Mo_50 (hS.1 _ _ _ _ rfl) ?_
        refine aw_aload_n e_Mo_isWordAt_38 rfl ?_
        refine aw_getE e_Mo_isWordAt_39 fl_Mo_246 hL.1 ?_
        refine aw_iconst (v := nI 1) e_Mo_isWordAt_42 (by decide) ?_
        first | refine awN_iadd e_Mo_isWordAt_43 ?_ | refine aw_iadd e_Mo_isWordAt_43 ?_
        refine aw_ialE e_Mo_isWordAt_44 rfl (show _ < 96 by omega) (by omega) (hT.b (j := x.1 + 1) (by omega)).1 ?_
        refine aw_iload_n e_Mo_isWordAt_45 rfl ?_
        refine awN_icmp_ne e_Mo_isWordAt_46 (by omega) (by omega) (fun h46 => ?_) (fun h46 => ?_)
        · refine aw_iconst (v := nI 0) e_Mo_isWordAt_84 (by decide) ?_
          first
            | exact awB_1 e_Mo_isWordAt_85 ((wd_4 hi hT hO hs1 h18).2 ⟨h31, h46, h61, h77⟩) hQ
            | exact awB_0 e_Mo_isWordAt_85 (fun z => h77 ((wd_4 hi hT hO hs1 h18).1 z).2.2.2) hQ
            | exact awB_0 e_Mo_isWordAt_85 (fun z => h61 ((wd_4 hi hT hO hs1 h18).1 z).2.2.1) hQ
            | exact awB_0 e_Mo_isWordAt_85 (fun z => h46 ((wd_4 hi hT hO hs1 h18).1 z).2.1) hQ
            | exact awB_0 e_Mo_isWordAt_85 (fun z => h31 ((wd_4 hi hT hO hs1 h18).1 z).1) hQ
            | exact awB_0 e_Mo_isWordAt_85 (fun z => h18 (wdB_iff.1 z).1.2) hQ
            | exact awB_0 e_Mo_isWordAt_85 (fun z => h5 ((tok_n (by decide) (by decide)).2 (wdB_iff.1 z).1.1)) hQ
        · refine aw_aload_n e_Mo_isWordAt_49 rfl ?_
          refine aw_getR e_Mo_isWordAt_50 fl_Mo_50 (hS.1 _ _ _ _ rfl) ?_
          refine aw_aload_n e_Mo_isWordAt_53 rfl ?_
          refine aw_getE e_Mo_isWordAt_54 fl_Mo_246 hL.1 ?_
          refine aw_iconst (v := nI 2) e_Mo_isWordAt_57 (by decide) ?_
          first | refine awN_iadd e_Mo_isWordAt_58 ?_ | refine aw_iadd e_Mo_isWordAt_58 ?_
          refine aw_ialE e_Mo_isWordAt_59 rfl (show _ < 96 by omega) (by omega) (hT.b (j := x.1 + 2) (by omega)).1 ?_
          refine aw_iload_n e_Mo_isWordAt_60 rfl ?_
          refine awN_icmp_ne e_Mo_isWordAt_61 (by omega) (by omega) (fun h61 => ?_) (fun h61 => ?_)
          · refine aw_iconst (v := nI 0) e_Mo_isWordAt_84 (by decide) ?_
            first
              | exact awB_1 e_Mo_isWordAt_85 ((wd_4 hi hT hO hs1 h18).2 ⟨h31, h46, h61, h77⟩) hQ
              | exact awB_0 e_Mo_isWordAt_85 (fun z => h77 ((wd_4 hi hT hO hs1 h18).1 z).2.2.2) hQ
              | exact awB_0 e_Mo_isWordAt_85 (fun z => h61 ((wd_4 hi hT hO hs1 h18).1 z).2.2.1) hQ
              | exact awB_0 e_Mo_isWordAt_85 (fun z => h46 ((wd_4 hi hT hO hs1 h18).1 z).2.1) hQ
              | exact awB_0 e_Mo_isWordAt_85 (fun z => h31 ((wd_4 hi hT hO hs1 h18).1 z).1) hQ
              | exact awB_0 e_Mo_isWordAt_85 (fun z => h18 (wdB_iff.1 z).1.2) hQ
              | exact awB_0 e_Mo_isWordAt_85 (fun z => h5 ((tok_n (by decide) (by decide)).2 (wdB_iff.1 z).1.1)) hQ
          · refine aw_aload_n e_Mo_isWordAt_64 rfl ?_
            refine aw_getR e_Mo_isWordAt_65 fl_Mo_50 (hS.1 _ _ _ _ rfl) ?_
            refine aw_aload_n e_Mo_isWordAt_68 rfl ?_
            refine aw_getE e_Mo_isWordAt_69 fl_Mo_246 hL.1 ?_
            refine aw_iconst (v := nI 3) e_Mo_isWordAt_72 (by decide) ?_
            first | refine awN_iadd e_Mo_isWordAt_73 ?_ | refine aw_iadd e_Mo_isWordAt_73 ?_
            refine aw_ialE e_Mo_isWordAt_74 rfl (show _ < 96 by omega) (by omega) (hT.b (j := x.1 + 3) (by omega)).1 ?_
            refine aw_iload e_Mo_isWordAt_75 rfl ?_
            refine awN_icmp_ne e_Mo_isWordAt_77 (by omega) (by omega) (fun h77 => ?_) (fun h77 => ?_)
            · refine aw_iconst (v := nI 0) e_Mo_isWordAt_84 (by decide) ?_
              first
                | exact awB_1 e_Mo_isWordAt_85 ((wd_4 hi hT hO hs1 h18).2 ⟨h31, h46, h61, h77⟩) hQ
                | exact awB_0 e_Mo_isWordAt_85 (fun z => h77 ((wd_4 hi hT hO hs1 h18).1 z).2.2.2) hQ
                | exact awB_0 e_Mo_isWordAt_85 (fun z => h61 ((wd_4 hi hT hO hs1 h18).1 z).2.2.1) hQ
                | exact awB_0 e_Mo_isWordAt_85 (fun z => h46 ((wd_4 hi hT hO hs1 h18).1 z).2.1) hQ
                | exact awB_0 e_Mo_isWordAt_85 (fun z => h31 ((wd_4 hi hT hO hs1 h18).1 z).1) hQ
                | exact awB_0 e_Mo_isWordAt_85 (fun z => h18 (wdB_iff.1 z).1.2) hQ
                | exact awB_0 e_Mo_isWordAt_85 (fun z => h5 ((tok_n (by decide) (by decide)).2 (wdB_iff.1 z).1.1)) hQ
            · refine aw_iconst (v := nI 1) e_Mo_isWordAt_80 (by decide) ?_
              refine aw_goto e_Mo_isWordAt_81 ?_
              first
                | exact awB_1 e_Mo_isWordAt_85 ((wd_4 hi hT hO hs1 h18).2 ⟨h31, h46, h61, h77⟩) hQ
                | exact awB_0 e_Mo_isWordAt_85 (fun z => h77 ((wd_4 hi hT hO hs1 h18).1 z).2.2.2) hQ
                | exact awB_0 e_Mo_isWordAt_85 (fun z => h61 ((wd_4 hi hT hO hs1 h18).1 z).2.2.1) hQ
                | exact awB_0 e_Mo_isWordAt_85 (fun z => h46 ((wd_4 hi hT hO hs1 h18).1 z).2.1) hQ
                | exact awB_0 e_Mo_isWordAt_85 (fun z => h31 ((wd_4 hi hT hO hs1 h18).1 z).1) hQ
                | exact awB_0 e_Mo_isWordAt_85 (fun z => h18 (wdB_iff.1 z).1.2) hQ
                | exact awB_0 e_Mo_isWordAt_85 (fun z => h5 ((tok_n (by decide) (by decide)).2 (wdB_iff.1 z).1.1)) hQ
