/-! ===== the calls, 14 ===== -/
theorem c_Pb_copy {l : Launch} {E : En} {d : Nat} {I : It} {L : Lt} {R : Rt} {Z : Zt} {Q : Qt} {S : AS} (hCS : CS I R Z S) {x y z u v : Int32} (hQ : ∀ I2 L2 R2, CS I2 R2 Z (op_copy S x y z u v).1 → KM I L R I2 L2 R2 → Q (some (vi (op_copy S x y z u v).2)) I2 L2 R2 Z) : AMet l E (d + 2) M_Pb_copy [vr 8 0, vi x, vi y, vi z, vi u, vi v] I L R Z Q := by
  have hS := hCS.1
  have hC := hCS.2.1
  have hW := hCS.2.2.1.1
  have hWn := hW.1
  refine AMet.of mf_Pb_copy rfl (Nat.le_of_ble_eq_true rfl) ?_
  refine aw_iload_n e_Pb_copy_0 rfl ?_
  refine aw_cS1 e_Pb_copy_1 ml_Pb_261 mf_Pb_isSheet ms_Pb_isSheet (c_Pb_isSheet ?_)
  refine awB_eq e_Pb_copy_4 (fun h4 => ?_) (fun h4 => ?_)
  · refine aw_ldc (v := -1000000001) e_Pb_copy_14 kc_Pb_74 ?_
    have hq := hQ I L R
    unfold op_copy at hq
    first
      | (rw [if_neg (fun w => h4 w.1)] at hq; exact aw_iret e_Pb_copy_16 rfl rfl (hq hCS KM_0))
      | (rw [if_neg (fun w => h11 w.2)] at hq; exact aw_iret e_Pb_copy_16 rfl rfl (hq hCS KM_0))
  · refine aw_iload_n e_Pb_copy_7 rfl ?_
    refine aw_cS1 e_Pb_copy_8 ml_Pb_261 mf_Pb_isSheet ms_Pb_isSheet (c_Pb_isSheet ?_)
    refine awB_ne e_Pb_copy_11 (fun h11 => ?_) (fun h11 => ?_)
    · obtain ⟨f, hfs, rfl⟩ := inR_nI h4
      obtain ⟨t, hts, rfl⟩ := inR_nI h11
      have hf := hCS.2.2.2.2.2.2.1 f hfs
      have ht := hCS.2.2.2.2.2.2.1 t hts
      have hzf := hf.2.2.1
      have hzt := ht.2.2.1
      refine aw_aload_n e_Pb_copy_17 rfl ?_
      refine aw_getR e_Pb_copy_18 fl_Pb_55 (hS.1 _ _ _ _ rfl) ?_
      refine aw_iload_n e_Pb_copy_21 rfl ?_
      refine aw_aald e_Pb_copy_22 rfl (show _ < 4 by omega) (by omega) (hS.2.2.1 _ (by omega)) ?_
      refine aw_ast6 e_Pb_copy_23 ?_
      refine aw_aload_n e_Pb_copy_25 rfl ?_
      refine aw_getR e_Pb_copy_26 fl_Pb_55 (hS.1 _ _ _ _ rfl) ?_
      refine aw_iload_n e_Pb_copy_29 rfl ?_
      refine aw_aald e_Pb_copy_30 rfl (show _ < 4 by omega) (by omega) (hS.2.2.1 _ (by omega)) ?_
      refine aw_ast7 e_Pb_copy_31 ?_
      refine aw_aload e_Pb_copy_33 rfl ?_
      refine aw_getE e_Pb_copy_35 fl_Pb_268 hf.1 ?_
      refine aw_iconst (v := -1) e_Pb_copy_38 (by decide) ?_
      refine aw_icmp_eq e_Pb_copy_39 (fun h39 => ?_) (fun h39 => ?_)
      · refine aw_ldcw (v := -1000000011) e_Pb_copy_51 kc_Pb_269 ?_
        have hq := hQ I L R
        unfold op_copy at hq
        first
          | (rw [if_pos ⟨h4, h11⟩, ix_n (j := f) (by omega), ix_n (j := t) (by omega), if_pos (Or.inl h39)] at hq; exact aw_iret e_Pb_copy_54 rfl rfl (hq hCS KM_0))
          | (rw [if_pos ⟨h4, h11⟩, ix_n (j := f) (by omega), ix_n (j := t) (by omega), if_pos (Or.inr h48)] at hq; exact aw_iret e_Pb_copy_54 rfl rfl (hq hCS KM_0))
      · refine aw_aload e_Pb_copy_42 rfl ?_
        refine aw_getE e_Pb_copy_44 fl_Pb_268 ht.1 ?_
        refine aw_iconst (v := -1) e_Pb_copy_47 (by decide) ?_
        refine aw_icmp_ne e_Pb_copy_48 (fun h48 => ?_) (fun h48 => ?_)
        · refine aw_aload e_Pb_copy_55 rfl ?_
          refine aw_getE e_Pb_copy_57 fl_Pb_268 hf.1 ?_
          refine aw_aload e_Pb_copy_60 rfl ?_
          refine aw_getE e_Pb_copy_62 fl_Pb_268 ht.1 ?_
          refine aw_icmp_eq e_Pb_copy_65 (fun h65 => ?_) (fun h65 => ?_)
          · refine aw_aload e_Pb_copy_71 rfl ?_
            refine aw_iload_n e_Pb_copy_73 rfl ?_
            refine aw_iload e_Pb_copy_74 rfl ?_
            refine aw_cV2 e_Pb_copy_76 ml_Pb_277 mf_Sh_hasRow mv_Sh_hasRow (c_Sh_hasRow hf.2.1 hzf ?_)
            refine awB_eq e_Pb_copy_79 (fun h79 => ?_) (fun h79 => ?_)
            · refine aw_ldcw (v := -1000000013) e_Pb_copy_94 kc_Pb_273 ?_
              have hq := hQ I L R
              unfold op_copy at hq
              first
                | (rw [if_pos ⟨h4, h11⟩, ix_n (j := f) (by omega), ix_n (j := t) (by omega), if_neg (fun q => q.elim h39 h48), if_neg (not_not_intro h65), if_neg (fun w => h79 w.1)] at hq; exact aw_iret e_Pb_copy_97 rfl rfl (hq hCS KM_0))
                | (rw [if_pos ⟨h4, h11⟩, ix_n (j := f) (by omega), ix_n (j := t) (by omega), if_neg (fun q => q.elim h39 h48), if_neg (not_not_intro h65), if_neg (fun w => h91 w.2)] at hq; exact aw_iret e_Pb_copy_97 rfl rfl (hq hCS KM_0))
            · refine aw_aload e_Pb_copy_82 rfl ?_
              refine aw_iload e_Pb_copy_84 rfl ?_
              refine aw_iload e_Pb_copy_86 rfl ?_
              refine aw_cV2 e_Pb_copy_88 ml_Pb_277 mf_Sh_hasRow mv_Sh_hasRow (c_Sh_hasRow ht.2.1 hzt ?_)
              refine awB_ne e_Pb_copy_91 (fun h91 => ?_) (fun h91 => ?_)
              · have hrw : inRow y v (sH S f).2.1 ∧ inRow u v (sH S t).2.1 := ⟨h79, h91⟩
                obtain ⟨⟨r1, r2, r3, r4⟩, r5, r6, r7, r8⟩ := hrw
                obtain ⟨p, hp, rfl⟩ := inR_nI (x := y) (n := 25) ⟨by omega, by omega⟩
                obtain ⟨a, ha, rfl⟩ := inR_nI (x := u) (n := 25) ⟨by omega, by omega⟩
                obtain ⟨m, hm, rfl⟩ := inR_nI (x := v) (n := 25) ⟨by omega, by omega⟩
                rw [nT (by omega)] at r1 r2 r3 r4 r5 r6 r7 r8
                rw [nT (by omega)] at r4 r8
                refine aw_aload e_Pb_copy_98 rfl ?_
                refine aw_getR e_Pb_copy_100 fl_Pb_274 (hS.1 _ _ _ _ rfl) ?_
                refine aw_iload_n e_Pb_copy_103 rfl ?_
                refine aw_aload e_Pb_copy_104 rfl ?_
                refine aw_getR e_Pb_copy_106 fl_Pb_274 (hS.1 _ _ _ _ rfl) ?_
                refine aw_iload e_Pb_copy_109 rfl ?_
                refine aw_iload e_Pb_copy_111 rfl ?_
                refine aw_acopy e_Pb_copy_113 ml_Pb_281 ay_n ay_s ii_Jy rfl rfl rfl (show _ ≤ 24 by omega) (show _ ≤ 24 by omega) (by omega) (by decide) ?_
                refine aw_iload e_Pb_copy_116 rfl ?_
                have hsh2 : SHo (cpI I 26 f p 26 t a m) t (cpS (sH S f) (sH S t) p a m) := by
                  refine ⟨by rw [cpI_n (by omega)]; exact ht.1, by rw [cpI_n (by omega)]; exact ht.2.1, ht.2.2.1, ht.2.2.2.1, ht.2.2.2.2.1, fun j hj => ?_⟩
                  have hj2 : j < (sH S t).2.1 := hj
                  show (if 26 = 26 ∧ t = t then va_cpy _ _ p a m j else _) = if a ≤ j ∧ j < a + m then (sH S f).2.2 (p + (j - a)) else (sH S t).2.2 j
                  rw [if_pos ⟨rfl, rfl⟩]
                  by_cases e : a ≤ j ∧ j < a + m
                  · rw [if_pos e, pk_cpy_in e.1 e.2]
                    exact hf.2.2.2.2.2 _ (by omega)
                  · rw [if_neg e, pk_cpy_out (by omega)]
                    exact ht.2.2.2.2.2 j hj2
                have hfr : ∀ t2 i2, ¬ ((t2 = 4 ∨ t2 = 26) ∧ i2 = t) → cpI I 26 f p 26 t a m t2 i2 = I t2 i2 := fun t2 i2 h => cpI_n (by omega)
                have hq := hQ (cpI I 26 f p 26 t a m) L R
                unfold op_copy at hq
                rw [if_pos ⟨h4, h11⟩, ix_n (j := f) (by omega), ix_n (j := t) (by omega), if_neg (fun q => q.elim h39 h48), if_neg (not_not_intro h65), if_pos ⟨h79, h91⟩, ix_n (j := p) (by omega), ix_n (j := a) (by omega), ix_n (j := m) (by omega)] at hq
                exact aw_iret e_Pb_copy_118 rfl rfl (hq (CS_sheet hCS hts hfr hsh2) (KM_sheet hfr))
              · refine aw_ldcw (v := -1000000013) e_Pb_copy_94 kc_Pb_273 ?_
                have hq := hQ I L R
                unfold op_copy at hq
                first
                  | (rw [if_pos ⟨h4, h11⟩, ix_n (j := f) (by omega), ix_n (j := t) (by omega), if_neg (fun q => q.elim h39 h48), if_neg (not_not_intro h65), if_neg (fun w => h79 w.1)] at hq; exact aw_iret e_Pb_copy_97 rfl rfl (hq hCS KM_0))
                  | (rw [if_pos ⟨h4, h11⟩, ix_n (j := f) (by omega), ix_n (j := t) (by omega), if_neg (fun q => q.elim h39 h48), if_neg (not_not_intro h65), if_neg (fun w => h91 w.2)] at hq; exact aw_iret e_Pb_copy_97 rfl rfl (hq hCS KM_0))
          · refine aw_ldc (v := -1000000012) e_Pb_copy_68 kc_Pb_119 ?_
            have hq := hQ I L R
            unfold op_copy at hq
            first
              | (rw [if_pos ⟨h4, h11⟩, ix_n (j := f) (by omega), ix_n (j := t) (by omega), if_neg (fun q => q.elim h39 h48), if_pos h65] at hq; exact aw_iret e_Pb_copy_70 rfl rfl (hq hCS KM_0))
        · refine aw_ldcw (v := -1000000011) e_Pb_copy_51 kc_Pb_269 ?_
          have hq := hQ I L R
          unfold op_copy at hq
          first
            | (rw [if_pos ⟨h4, h11⟩, ix_n (j := f) (by omega), ix_n (j := t) (by omega), if_pos (Or.inl h39)] at hq; exact aw_iret e_Pb_copy_54 rfl rfl (hq hCS KM_0))
            | (rw [if_pos ⟨h4, h11⟩, ix_n (j := f) (by omega), ix_n (j := t) (by omega), if_pos (Or.inr h48)] at hq; exact aw_iret e_Pb_copy_54 rfl rfl (hq hCS KM_0))
    · refine aw_ldc (v := -1000000001) e_Pb_copy_14 kc_Pb_74 ?_
      have hq := hQ I L R
      unfold op_copy at hq
      first
        | (rw [if_neg (fun w => h4 w.1)] at hq; exact aw_iret e_Pb_copy_16 rfl rfl (hq hCS KM_0))
        | (rw [if_neg (fun w => h11 w.2)] at hq; exact aw_iret e_Pb_copy_16 rfl rfl (hq hCS KM_0))
theorem CS_slot {I I2 : It} {R : Rt} {Z : Zt} {S : AS} {s : Nat} {v : SlV} (h : CS I R Z S) (hs : s < 5) (e : ∀ t i, ¬ ((t = 5 ∧ i = s) ∨ (t = 3 ∧ i = 36 + s) ∨ ((t = 4 ∨ t = 26) ∧ i = 4 + s)) → I2 t i = I t i) (hv : SLo I2 s v) : CS I2 R Z (setL S s v) := by
  obtain ⟨h1, h2, h3, h4, h5, h6, h7, h8, h9, h10, h11⟩ := h
  refine ⟨h1, h2.keep h3.1 (fun t i hti => e t i (by unfold own at hti; omega)) (fun _ _ _ => rfl), h3, fun z => ⟨(h4 z).1.keep (h4 z).2.1 (fun t i hti => e t i (by unfold own at hti; omega)) (fun _ _ _ => rfl), (h4 z).2⟩, by rw [e 8 0 (by omega)]; exact h5, by rw [e 6 0 (by omega), e 20 0 (by omega)]; exact h6, fun i hi => (h7 i hi).keep (e 4 i (by omega)) (e 26 i (by omega)), fun i hi => ?_, by rw [e 8 0 (by omega), e 23 0 (by omega)]; exact h9, h10, h11⟩
  show SLo I2 i (if i = s then v else sL2 S i)
  by_cases q : i = s
  · rw [if_pos q, q]; exact hv
  · rw [if_neg q]; exact (h8 i hi).keep (e 5 i (by omega)) (e 3 _ (by omega)) (e 4 _ (by omega)) (e 26 _ (by omega))
theorem KM_slot {I I2 : It} {L : Lt} {R : Rt} {s : Nat} (hs : s < 5) (e : ∀ t i, ¬ ((t = 5 ∧ i = s) ∨ (t = 3 ∧ i = 36 + s) ∨ ((t = 4 ∨ t = 26) ∧ i = 4 + s)) → I2 t i = I t i) : KM I L R I2 L R := fun t i ht => ⟨e t i (by omega), rfl, rfl⟩
theorem c_Pb_lay {l : Launch} {E : En} {d : Nat} {I : It} {L : Lt} {R : Rt} {Z : Zt} {Q : Qt} {S : AS} (hCS : CS I R Z S) {x y z : Int32} (hQ : ∀ I2 L2 R2, CS I2 R2 Z (op_lay S x y z).1 → KM I L R I2 L2 R2 → Q (some (vi (op_lay S x y z).2)) I2 L2 R2 Z) : AMet l E (d + 2) M_Pb_lay [vr 8 0, vi x, vi y, vi z] I L R Z Q := by
  have hS := hCS.1
  have hC := hCS.2.1
  have hW := hCS.2.2.1.1
  have hWn := hW.1
  have hT3 : (nI 3).toInt = 3 := by decide
  have hT1 : (nI 1).toInt = 1 := by decide
  have hT2 : (nI 2).toInt = 2 := by decide
  refine AMet.of mf_Pb_lay rfl (Nat.le_of_ble_eq_true rfl) ?_
  refine aw_iload_n e_Pb_lay_0 rfl ?_
  refine aw_cS1 e_Pb_lay_1 ml_Pb_287 mf_Pb_isSlot ms_Pb_isSlot (c_Pb_isSlot ?_)
  refine awB_eq e_Pb_lay_4 (fun h4 => ?_) (fun h4 => ?_)
  · refine aw_ldc (v := -1000000001) e_Pb_lay_16 kc_Pb_74 ?_
    have hq := hQ I L R
    unfold op_lay at hq
    first
      | (rw [if_neg (fun w => h4 w.1)] at hq; exact aw_iret e_Pb_lay_18 rfl rfl (hq hCS KM_0))
      | (rw [if_neg (fun w => by have w1 := w.2.1.1; have w2 := w.2.1.2; omega)] at hq; exact aw_iret e_Pb_lay_18 rfl rfl (hq hCS KM_0))
  · refine aw_iload_n e_Pb_lay_7 rfl ?_
    refine awZ_if_lt e_Pb_lay_8 (fun h8 => ?_) (fun h8 => ?_)
    · refine aw_ldc (v := -1000000001) e_Pb_lay_16 kc_Pb_74 ?_
      have hq := hQ I L R
      unfold op_lay at hq
      first
        | (rw [if_neg (fun w => h4 w.1)] at hq; exact aw_iret e_Pb_lay_18 rfl rfl (hq hCS KM_0))
        | (rw [if_neg (fun w => by have w1 := w.2.1.1; have w2 := w.2.1.2; omega)] at hq; exact aw_iret e_Pb_lay_18 rfl rfl (hq hCS KM_0))
    · refine aw_iload_n e_Pb_lay_11 rfl ?_
      refine aw_iconst (v := nI 3) e_Pb_lay_12 (by decide) ?_
      refine awZ_icmp_le e_Pb_lay_13 (fun h13 => ?_) (fun h13 => ?_)
      · refine aw_iload_n e_Pb_lay_19 rfl ?_
        refine aw_iconst (v := nI 1) e_Pb_lay_20 (by decide) ?_
        refine awZ_icmp_ne e_Pb_lay_21 (fun h21 => ?_) (fun h21 => ?_)
        · refine aw_iload_n e_Pb_lay_35 rfl ?_
          refine aw_iconst (v := nI 2) e_Pb_lay_36 (by decide) ?_
          refine awZ_icmp_ne e_Pb_lay_37 (fun h37 => ?_) (fun h37 => ?_)
          · obtain ⟨t, ht, rfl⟩ := inR_nI (x := y) (n := 4) ⟨by omega, by omega⟩
            have hTt := nT (n := t) (by omega)
            obtain ⟨s, hs, rfl⟩ := inR_nI h4
            have hslo := hCS.2.2.2.2.2.2.2.1 s hs
            have hg : inR (nI s) 5 ∧ inR (nI t) 4 ∧ (ix (nI t) = 1 → inR z (nP (sM S))) ∧ (ix (nI t) = 2 → inR z 4) := by
              rw [ix_n (j := t) (by omega)]
              refine ⟨h4, (nI_inR (by omega)).2 ht, fun q => ?_, fun q => ?_⟩
              · first | exact h32 | (exfalso; omega)
              · first | exact h44 | (exfalso; omega)
            have ht4 : t = 0 ∨ t = 1 ∨ t = 2 ∨ t = 3 := by omega
            rcases ht4 with rfl | rfl | rfl | rfl
            · skip
              refine aw_iload_n e_Pb_lay_50 rfl ?_
              refine aw_iconst (v := nI 2) e_Pb_lay_51 (by decide) ?_
              refine awN_icmp_ne e_Pb_lay_52 (by omega) (by omega) (fun h52 => ?_) (fun h52 => ?_)
              · refine aw_aload_n e_Pb_lay_72 rfl ?_
                refine aw_getR e_Pb_lay_73 fl_Pb_61 (hS.1 _ _ _ _ rfl) ?_
                refine aw_iload_n e_Pb_lay_76 rfl ?_
                refine aw_aald e_Pb_lay_77 rfl (show _ < 5 by omega) (by omega) (hS.2.2.2 _ (by omega)) ?_
                refine aw_ast4 e_Pb_lay_78 ?_
                refine aw_aload e_Pb_lay_80 rfl ?_
                refine aw_getE e_Pb_lay_82 fl_Pb_290 hslo.1 ?_
                refine aw_ist5 e_Pb_lay_85 ?_
                refine aw_aload e_Pb_lay_87 rfl ?_
                refine aw_iload_n e_Pb_lay_89 rfl ?_
                refine aw_putI e_Pb_lay_90 fl_Pb_290 ?_
                refine aw_iload_n e_Pb_lay_93 rfl ?_
                refine aw_iconst (v := nI 1) e_Pb_lay_94 (by decide) ?_
                refine awN_icmp_ne e_Pb_lay_95 (by omega) (by omega) (fun h95 => ?_) (fun h95 => ?_)
                · refine aw_iload_n e_Pb_lay_118 rfl ?_
                  refine aw_iconst (v := nI 2) e_Pb_lay_119 (by decide) ?_
                  refine awN_icmp_ne e_Pb_lay_120 (by omega) (by omega) (fun h120 => ?_) (fun h120 => ?_)
                  · refine aw_aload e_Pb_lay_140 rfl ?_
                    refine aw_iload_n e_Pb_lay_142 rfl ?_
                    refine aw_putI e_Pb_lay_143 fl_Pb_307 ?_
                    refine aw_iload e_Pb_lay_146 rfl ?_
                    have hsl : SLo (sI (sI I 5 s 0 (nI 0)) 5 s 1 z) s (0, z, pP (sM S) (ix z), sH S (ix z)) := ⟨by rw [sI_ne (by decide), sI_eq], show (0 : Nat) < 4 by decide, fun q => absurd q (show ¬ (0 : Nat) = 3 by decide), fun q => absurd q (show ¬ (0 : Nat) = 1 by decide), fun q => absurd q (show ¬ (0 : Nat) = 2 by decide)⟩
                    have hfr : ∀ t2 i2, ¬ ((t2 = 5 ∧ i2 = s) ∨ (t2 = 3 ∧ i2 = 36 + s) ∨ ((t2 = 4 ∨ t2 = 26) ∧ i2 = 4 + s)) → (sI (sI I 5 s 0 (nI 0)) 5 s 1 z) t2 i2 = I t2 i2 := fun t2 i2 h => by rw [sI_n (by omega), sI_n (by omega)]
                    have hq := hQ (sI (sI I 5 s 0 (nI 0)) 5 s 1 z) L R
                    unfold op_lay at hq
                    rw [if_pos hg, ix_n (j := s) (by omega), if_neg (fun w => absurd w.1 (show ¬ ix (nI 0) = 2 by rw [ix_n (by decide)]; decide))] at hq
                    exact aw_iret e_Pb_lay_148 rfl rfl (hq (CS_slot hCS hs hfr hsl) (KM_slot hs hfr))
                  · exact absurd h120 (by decide)
                · exact absurd h95 (by decide)
              · exact absurd h52 (by decide)
            · obtain ⟨k, hkk, rfl⟩ := inR_nI (hg.2.2.1 rfl)
              have hv := hW.2.1 k hkk
              have h9 := hCS.2.2.1.2.2 k hkk
              have hik : ix (nI k) = k := ix_n (by omega)
              refine aw_iload_n e_Pb_lay_50 rfl ?_
              refine aw_iconst (v := nI 2) e_Pb_lay_51 (by decide) ?_
              refine awN_icmp_ne e_Pb_lay_52 (by omega) (by omega) (fun h52 => ?_) (fun h52 => ?_)
              · refine aw_aload_n e_Pb_lay_72 rfl ?_
                refine aw_getR e_Pb_lay_73 fl_Pb_61 (hS.1 _ _ _ _ rfl) ?_
                refine aw_iload_n e_Pb_lay_76 rfl ?_
                refine aw_aald e_Pb_lay_77 rfl (show _ < 5 by omega) (by omega) (hS.2.2.2 _ (by omega)) ?_
                refine aw_ast4 e_Pb_lay_78 ?_
                refine aw_aload e_Pb_lay_80 rfl ?_
                refine aw_getE e_Pb_lay_82 fl_Pb_290 hslo.1 ?_
                refine aw_ist5 e_Pb_lay_85 ?_
                refine aw_aload e_Pb_lay_87 rfl ?_
                refine aw_iload_n e_Pb_lay_89 rfl ?_
                refine aw_putI e_Pb_lay_90 fl_Pb_290 ?_
                refine aw_iload_n e_Pb_lay_93 rfl ?_
                refine aw_iconst (v := nI 1) e_Pb_lay_94 (by decide) ?_
                refine awN_icmp_ne e_Pb_lay_95 (by omega) (by omega) (fun h95 => ?_) (fun h95 => ?_)
                · exact absurd rfl h95
                · refine aw_aload e_Pb_lay_98 rfl ?_
                  refine aw_getR e_Pb_lay_100 fl_Pb_293 (hS.1 _ _ _ _ rfl) ?_
                  refine aw_aload_n e_Pb_lay_103 rfl ?_
                  refine aw_getR e_Pb_lay_104 fl_Pb_10 (hS.1 _ _ _ _ rfl) ?_
                  refine aw_getR e_Pb_lay_107 fl_Pb_80 (hS.1 _ _ _ _ rfl) ?_
                  refine aw_iload_n e_Pb_lay_110 rfl ?_
                  refine aw_aald e_Pb_lay_111 rfl (show _ < 12 by omega) (by omega) (hS.2.1 _ _ (by omega) (by omega)) ?_
                  refine aw_cV1 e_Pb_lay_112 ml_Pb_297 mf_Pa_takeFrom mv_Pa_takeFrom (c_Pa_takeFrom (g := pP (sM S) k) (by omega) (fun f hf => (sI_n2 (by omega)).trans (hC.2.1 k f hkk hf)) ?_)
                  refine aw_goto e_Pb_lay_115 ?_
                  refine aw_iload e_Pb_lay_146 rfl ?_
                  have hsl : SLo (wP (sI I 5 s 0 (nI 1)) (36 + s) (pP (sM S) k)) s (1, (nI k), pP (sM S) k, sH S k) := ⟨by rw [wP_n (by omega), sI_eq], show (1 : Nat) < 4 by decide, fun q => absurd q (show ¬ (1 : Nat) = 3 by decide), fun _ => ⟨fun f hf => wP_s hf, hv.1, hv.2.1, ⟨hv.2.2.1.1, h9.1⟩, ⟨hv.2.2.2.1.1, h9.2⟩, hv.2.2.2.2⟩, fun q => absurd q (show ¬ (1 : Nat) = 2 by decide)⟩
                  have hfr : ∀ t2 i2, ¬ ((t2 = 5 ∧ i2 = s) ∨ (t2 = 3 ∧ i2 = 36 + s) ∨ ((t2 = 4 ∨ t2 = 26) ∧ i2 = 4 + s)) → (wP (sI I 5 s 0 (nI 1)) (36 + s) (pP (sM S) k)) t2 i2 = I t2 i2 := fun t2 i2 h => by rw [wP_n (by omega), sI_n (by omega)]
                  have hq := hQ (wP (sI I 5 s 0 (nI 1)) (36 + s) (pP (sM S) k)) L R
                  unfold op_lay at hq
                  rw [if_pos hg, ix_n (j := s) (by omega), hik, if_neg (fun w => absurd w.1 (show ¬ ix (nI 1) = 2 by rw [ix_n (by decide)]; decide))] at hq
                  exact aw_iret e_Pb_lay_148 rfl rfl (hq (CS_slot hCS hs hfr hsl) (KM_slot hs hfr))
              · exact absurd h52 (by decide)
            · obtain ⟨k, hk4, rfl⟩ := inR_nI (hg.2.2.2 rfl)
              have hsk := hCS.2.2.2.2.2.2.1 k hk4
              have hik : ix (nI k) = k := ix_n (by omega)
              refine aw_iload_n e_Pb_lay_50 rfl ?_
              refine aw_iconst (v := nI 2) e_Pb_lay_51 (by decide) ?_
              refine awN_icmp_ne e_Pb_lay_52 (by omega) (by omega) (fun h52 => ?_) (fun h52 => ?_)
              · exact absurd rfl h52
              · refine aw_aload_n e_Pb_lay_55 rfl ?_
                refine aw_getR e_Pb_lay_56 fl_Pb_55 (hS.1 _ _ _ _ rfl) ?_
                refine aw_iload_n e_Pb_lay_59 rfl ?_
                refine aw_aald e_Pb_lay_60 rfl (show _ < 4 by omega) (by omega) (hS.2.2.1 _ (by omega)) ?_
                refine aw_getE e_Pb_lay_61 fl_Pb_268 hsk.1 ?_
                refine aw_iconst (v := -1) e_Pb_lay_64 (by decide) ?_
                refine aw_icmp_ne e_Pb_lay_65 (fun h65 => ?_) (fun h65 => ?_)
                · have hnn : ¬ (sH S k).1 = -1 := h65
                  refine aw_aload_n e_Pb_lay_72 rfl ?_
                  refine aw_getR e_Pb_lay_73 fl_Pb_61 (hS.1 _ _ _ _ rfl) ?_
                  refine aw_iload_n e_Pb_lay_76 rfl ?_
                  refine aw_aald e_Pb_lay_77 rfl (show _ < 5 by omega) (by omega) (hS.2.2.2 _ (by omega)) ?_
                  refine aw_ast4 e_Pb_lay_78 ?_
                  refine aw_aload e_Pb_lay_80 rfl ?_
                  refine aw_getE e_Pb_lay_82 fl_Pb_290 hslo.1 ?_
                  refine aw_ist5 e_Pb_lay_85 ?_
                  refine aw_aload e_Pb_lay_87 rfl ?_
                  refine aw_iload_n e_Pb_lay_89 rfl ?_
                  refine aw_putI e_Pb_lay_90 fl_Pb_290 ?_
                  refine aw_iload_n e_Pb_lay_93 rfl ?_
                  refine aw_iconst (v := nI 1) e_Pb_lay_94 (by decide) ?_
                  refine awN_icmp_ne e_Pb_lay_95 (by omega) (by omega) (fun h95 => ?_) (fun h95 => ?_)
                  · refine aw_iload_n e_Pb_lay_118 rfl ?_
                    refine aw_iconst (v := nI 2) e_Pb_lay_119 (by decide) ?_
                    refine awN_icmp_ne e_Pb_lay_120 (by omega) (by omega) (fun h120 => ?_) (fun h120 => ?_)
                    · exact absurd rfl h120
                    · refine aw_aload e_Pb_lay_123 rfl ?_
                      refine aw_getR e_Pb_lay_125 fl_Pb_300 (hS.1 _ _ _ _ rfl) ?_
                      refine aw_aload_n e_Pb_lay_128 rfl ?_
                      refine aw_getR e_Pb_lay_129 fl_Pb_55 (hS.1 _ _ _ _ rfl) ?_
                      refine aw_iload_n e_Pb_lay_132 rfl ?_
                      refine aw_aald e_Pb_lay_133 rfl (show _ < 4 by omega) (by omega) (hS.2.2.1 _ (by omega)) ?_
                      refine aw_cV1 e_Pb_lay_134 ml_Pb_304 mf_Sh_takeFrom mv_Sh_takeFrom (c_Sh_takeFrom hS (by omega) (by omega) (fun I2 hf2 hs0 hs1 hs2 => ?_))
                      refine aw_goto e_Pb_lay_137 ?_
                      refine aw_iload e_Pb_lay_146 rfl ?_
                      have hsl : SLo I2 s (2, (nI k), pP (sM S) k, sH S k) := ⟨by rw [hf2 5 s (by omega), sI_eq], show (2 : Nat) < 4 by decide, fun q => absurd q (show ¬ (2 : Nat) = 3 by decide), fun q => absurd q (show ¬ (2 : Nat) = 1 by decide), fun _ => ⟨⟨hs0.trans ((sI_n2 (by omega)).trans hsk.1), hs1.trans ((sI_n2 (by omega)).trans hsk.2.1), hsk.2.2.1, hsk.2.2.2.1, hsk.2.2.2.2.1, fun j hj => (hs2 j (by have hj2 : j < (sH S k).2.1 := hj; have := hsk.2.2.1; omega)).trans ((sI_n2 (by omega)).trans (hsk.2.2.2.2.2 j hj))⟩, hnn⟩⟩
                      have hfr : ∀ t2 i2, ¬ ((t2 = 5 ∧ i2 = s) ∨ (t2 = 3 ∧ i2 = 36 + s) ∨ ((t2 = 4 ∨ t2 = 26) ∧ i2 = 4 + s)) → I2 t2 i2 = I t2 i2 := fun t2 i2 h => (hf2 t2 i2 (by omega)).trans (sI_n (by omega))
                      have hq := hQ I2 L R
                      unfold op_lay at hq
                      rw [if_pos hg, ix_n (j := s) (by omega), hik, if_neg (fun w => hnn w.2)] at hq
                      exact aw_iret e_Pb_lay_148 rfl rfl (hq (CS_slot hCS hs hfr hsl) (KM_slot hs hfr))
                  · exact absurd h95 (by decide)
                · refine aw_ldcw (v := -1000000011) e_Pb_lay_68 kc_Pb_269 ?_
                  have hq := hQ I L R
                  unfold op_lay at hq
                  first
                    | (rw [if_pos hg, hik, if_pos ⟨by rw [ix_n (by decide)], h65⟩] at hq; exact aw_iret e_Pb_lay_71 rfl rfl (hq hCS KM_0))
            · skip
              refine aw_iload_n e_Pb_lay_50 rfl ?_
              refine aw_iconst (v := nI 2) e_Pb_lay_51 (by decide) ?_
              refine awN_icmp_ne e_Pb_lay_52 (by omega) (by omega) (fun h52 => ?_) (fun h52 => ?_)
              · refine aw_aload_n e_Pb_lay_72 rfl ?_
                refine aw_getR e_Pb_lay_73 fl_Pb_61 (hS.1 _ _ _ _ rfl) ?_
                refine aw_iload_n e_Pb_lay_76 rfl ?_
                refine aw_aald e_Pb_lay_77 rfl (show _ < 5 by omega) (by omega) (hS.2.2.2 _ (by omega)) ?_
                refine aw_ast4 e_Pb_lay_78 ?_
                refine aw_aload e_Pb_lay_80 rfl ?_
                refine aw_getE e_Pb_lay_82 fl_Pb_290 hslo.1 ?_
                refine aw_ist5 e_Pb_lay_85 ?_
                refine aw_aload e_Pb_lay_87 rfl ?_
                refine aw_iload_n e_Pb_lay_89 rfl ?_
                refine aw_putI e_Pb_lay_90 fl_Pb_290 ?_
                refine aw_iload_n e_Pb_lay_93 rfl ?_
                refine aw_iconst (v := nI 1) e_Pb_lay_94 (by decide) ?_
                refine awN_icmp_ne e_Pb_lay_95 (by omega) (by omega) (fun h95 => ?_) (fun h95 => ?_)
                · refine aw_iload_n e_Pb_lay_118 rfl ?_
                  refine aw_iconst (v := nI 2) e_Pb_lay_119 (by decide) ?_
                  refine awN_icmp_ne e_Pb_lay_120 (by omega) (by omega) (fun h120 => ?_) (fun h120 => ?_)
                  · refine aw_aload e_Pb_lay_140 rfl ?_
                    refine aw_iload_n e_Pb_lay_142 rfl ?_
                    refine aw_putI e_Pb_lay_143 fl_Pb_307 ?_
                    refine aw_iload e_Pb_lay_146 rfl ?_
                    have hsl : SLo (sI (sI I 5 s 0 (nI 3)) 5 s 1 z) s (3, z, pP (sM S) (ix z), sH S (ix z)) := ⟨by rw [sI_ne (by decide), sI_eq], show (3 : Nat) < 4 by decide, fun q => sI_eq _ _ _ _ _, fun q => absurd q (show ¬ (3 : Nat) = 1 by decide), fun q => absurd q (show ¬ (3 : Nat) = 2 by decide)⟩
                    have hfr : ∀ t2 i2, ¬ ((t2 = 5 ∧ i2 = s) ∨ (t2 = 3 ∧ i2 = 36 + s) ∨ ((t2 = 4 ∨ t2 = 26) ∧ i2 = 4 + s)) → (sI (sI I 5 s 0 (nI 3)) 5 s 1 z) t2 i2 = I t2 i2 := fun t2 i2 h => by rw [sI_n (by omega), sI_n (by omega)]
                    have hq := hQ (sI (sI I 5 s 0 (nI 3)) 5 s 1 z) L R
                    unfold op_lay at hq
                    rw [if_pos hg, ix_n (j := s) (by omega), if_neg (fun w => absurd w.1 (show ¬ ix (nI 3) = 2 by rw [ix_n (by decide)]; decide))] at hq
                    exact aw_iret e_Pb_lay_148 rfl rfl (hq (CS_slot hCS hs hfr hsl) (KM_slot hs hfr))
                  · exact absurd h120 (by decide)
                · exact absurd h95 (by decide)
              · exact absurd h52 (by decide)
          · refine aw_iload_n e_Pb_lay_40 rfl ?_
            refine aw_cS1 e_Pb_lay_41 ml_Pb_261 mf_Pb_isSheet ms_Pb_isSheet (c_Pb_isSheet ?_)
            refine awB_ne e_Pb_lay_44 (fun h44 => ?_) (fun h44 => ?_)
            · obtain ⟨t, ht, rfl⟩ := inR_nI (x := y) (n := 4) ⟨by omega, by omega⟩
              have hTt := nT (n := t) (by omega)
              obtain ⟨s, hs, rfl⟩ := inR_nI h4
              have hslo := hCS.2.2.2.2.2.2.2.1 s hs
              have hg : inR (nI s) 5 ∧ inR (nI t) 4 ∧ (ix (nI t) = 1 → inR z (nP (sM S))) ∧ (ix (nI t) = 2 → inR z 4) := by
                rw [ix_n (j := t) (by omega)]
                refine ⟨h4, (nI_inR (by omega)).2 ht, fun q => ?_, fun q => ?_⟩
                · first | exact h32 | (exfalso; omega)
                · first | exact h44 | (exfalso; omega)
              have ht4 : t = 0 ∨ t = 1 ∨ t = 2 ∨ t = 3 := by omega
              rcases ht4 with rfl | rfl | rfl | rfl
              · skip
                refine aw_iload_n e_Pb_lay_50 rfl ?_
                refine aw_iconst (v := nI 2) e_Pb_lay_51 (by decide) ?_
                refine awN_icmp_ne e_Pb_lay_52 (by omega) (by omega) (fun h52 => ?_) (fun h52 => ?_)
                · refine aw_aload_n e_Pb_lay_72 rfl ?_
                  refine aw_getR e_Pb_lay_73 fl_Pb_61 (hS.1 _ _ _ _ rfl) ?_
                  refine aw_iload_n e_Pb_lay_76 rfl ?_
                  refine aw_aald e_Pb_lay_77 rfl (show _ < 5 by omega) (by omega) (hS.2.2.2 _ (by omega)) ?_
                  refine aw_ast4 e_Pb_lay_78 ?_
                  refine aw_aload e_Pb_lay_80 rfl ?_
                  refine aw_getE e_Pb_lay_82 fl_Pb_290 hslo.1 ?_
                  refine aw_ist5 e_Pb_lay_85 ?_
                  refine aw_aload e_Pb_lay_87 rfl ?_
                  refine aw_iload_n e_Pb_lay_89 rfl ?_
                  refine aw_putI e_Pb_lay_90 fl_Pb_290 ?_
                  refine aw_iload_n e_Pb_lay_93 rfl ?_
                  refine aw_iconst (v := nI 1) e_Pb_lay_94 (by decide) ?_
                  refine awN_icmp_ne e_Pb_lay_95 (by omega) (by omega) (fun h95 => ?_) (fun h95 => ?_)
                  · refine aw_iload_n e_Pb_lay_118 rfl ?_
                    refine aw_iconst (v := nI 2) e_Pb_lay_119 (by decide) ?_
                    refine awN_icmp_ne e_Pb_lay_120 (by omega) (by omega) (fun h120 => ?_) (fun h120 => ?_)
                    · refine aw_aload e_Pb_lay_140 rfl ?_
                      refine aw_iload_n e_Pb_lay_142 rfl ?_
                      refine aw_putI e_Pb_lay_143 fl_Pb_307 ?_
                      refine aw_iload e_Pb_lay_146 rfl ?_
                      have hsl : SLo (sI (sI I 5 s 0 (nI 0)) 5 s 1 z) s (0, z, pP (sM S) (ix z), sH S (ix z)) := ⟨by rw [sI_ne (by decide), sI_eq], show (0 : Nat) < 4 by decide, fun q => absurd q (show ¬ (0 : Nat) = 3 by decide), fun q => absurd q (show ¬ (0 : Nat) = 1 by decide), fun q => absurd q (show ¬ (0 : Nat) = 2 by decide)⟩
                      have hfr : ∀ t2 i2, ¬ ((t2 = 5 ∧ i2 = s) ∨ (t2 = 3 ∧ i2 = 36 + s) ∨ ((t2 = 4 ∨ t2 = 26) ∧ i2 = 4 + s)) → (sI (sI I 5 s 0 (nI 0)) 5 s 1 z) t2 i2 = I t2 i2 := fun t2 i2 h => by rw [sI_n (by omega), sI_n (by omega)]
                      have hq := hQ (sI (sI I 5 s 0 (nI 0)) 5 s 1 z) L R
                      unfold op_lay at hq
                      rw [if_pos hg, ix_n (j := s) (by omega), if_neg (fun w => absurd w.1 (show ¬ ix (nI 0) = 2 by rw [ix_n (by decide)]; decide))] at hq
                      exact aw_iret e_Pb_lay_148 rfl rfl (hq (CS_slot hCS hs hfr hsl) (KM_slot hs hfr))
                    · exact absurd h120 (by decide)
                  · exact absurd h95 (by decide)
                · exact absurd h52 (by decide)
              · obtain ⟨k, hkk, rfl⟩ := inR_nI (hg.2.2.1 rfl)
                have hv := hW.2.1 k hkk
                have h9 := hCS.2.2.1.2.2 k hkk
                have hik : ix (nI k) = k := ix_n (by omega)
                refine aw_iload_n e_Pb_lay_50 rfl ?_
                refine aw_iconst (v := nI 2) e_Pb_lay_51 (by decide) ?_
                refine awN_icmp_ne e_Pb_lay_52 (by omega) (by omega) (fun h52 => ?_) (fun h52 => ?_)
                · refine aw_aload_n e_Pb_lay_72 rfl ?_
                  refine aw_getR e_Pb_lay_73 fl_Pb_61 (hS.1 _ _ _ _ rfl) ?_
                  refine aw_iload_n e_Pb_lay_76 rfl ?_
                  refine aw_aald e_Pb_lay_77 rfl (show _ < 5 by omega) (by omega) (hS.2.2.2 _ (by omega)) ?_
                  refine aw_ast4 e_Pb_lay_78 ?_
                  refine aw_aload e_Pb_lay_80 rfl ?_
                  refine aw_getE e_Pb_lay_82 fl_Pb_290 hslo.1 ?_
                  refine aw_ist5 e_Pb_lay_85 ?_
                  refine aw_aload e_Pb_lay_87 rfl ?_
                  refine aw_iload_n e_Pb_lay_89 rfl ?_
                  refine aw_putI e_Pb_lay_90 fl_Pb_290 ?_
                  refine aw_iload_n e_Pb_lay_93 rfl ?_
                  refine aw_iconst (v := nI 1) e_Pb_lay_94 (by decide) ?_
                  refine awN_icmp_ne e_Pb_lay_95 (by omega) (by omega) (fun h95 => ?_) (fun h95 => ?_)
                  · exact absurd rfl h95
                  · refine aw_aload e_Pb_lay_98 rfl ?_
                    refine aw_getR e_Pb_lay_100 fl_Pb_293 (hS.1 _ _ _ _ rfl) ?_
                    refine aw_aload_n e_Pb_lay_103 rfl ?_
                    refine aw_getR e_Pb_lay_104 fl_Pb_10 (hS.1 _ _ _ _ rfl) ?_
                    refine aw_getR e_Pb_lay_107 fl_Pb_80 (hS.1 _ _ _ _ rfl) ?_
                    refine aw_iload_n e_Pb_lay_110 rfl ?_
                    refine aw_aald e_Pb_lay_111 rfl (show _ < 12 by omega) (by omega) (hS.2.1 _ _ (by omega) (by omega)) ?_
                    refine aw_cV1 e_Pb_lay_112 ml_Pb_297 mf_Pa_takeFrom mv_Pa_takeFrom (c_Pa_takeFrom (g := pP (sM S) k) (by omega) (fun f hf => (sI_n2 (by omega)).trans (hC.2.1 k f hkk hf)) ?_)
                    refine aw_goto e_Pb_lay_115 ?_
                    refine aw_iload e_Pb_lay_146 rfl ?_
                    have hsl : SLo (wP (sI I 5 s 0 (nI 1)) (36 + s) (pP (sM S) k)) s (1, (nI k), pP (sM S) k, sH S k) := ⟨by rw [wP_n (by omega), sI_eq], show (1 : Nat) < 4 by decide, fun q => absurd q (show ¬ (1 : Nat) = 3 by decide), fun _ => ⟨fun f hf => wP_s hf, hv.1, hv.2.1, ⟨hv.2.2.1.1, h9.1⟩, ⟨hv.2.2.2.1.1, h9.2⟩, hv.2.2.2.2⟩, fun q => absurd q (show ¬ (1 : Nat) = 2 by decide)⟩
                    have hfr : ∀ t2 i2, ¬ ((t2 = 5 ∧ i2 = s) ∨ (t2 = 3 ∧ i2 = 36 + s) ∨ ((t2 = 4 ∨ t2 = 26) ∧ i2 = 4 + s)) → (wP (sI I 5 s 0 (nI 1)) (36 + s) (pP (sM S) k)) t2 i2 = I t2 i2 := fun t2 i2 h => by rw [wP_n (by omega), sI_n (by omega)]
                    have hq := hQ (wP (sI I 5 s 0 (nI 1)) (36 + s) (pP (sM S) k)) L R
                    unfold op_lay at hq
                    rw [if_pos hg, ix_n (j := s) (by omega), hik, if_neg (fun w => absurd w.1 (show ¬ ix (nI 1) = 2 by rw [ix_n (by decide)]; decide))] at hq
                    exact aw_iret e_Pb_lay_148 rfl rfl (hq (CS_slot hCS hs hfr hsl) (KM_slot hs hfr))
                · exact absurd h52 (by decide)
              · obtain ⟨k, hk4, rfl⟩ := inR_nI (hg.2.2.2 rfl)
                have hsk := hCS.2.2.2.2.2.2.1 k hk4
                have hik : ix (nI k) = k := ix_n (by omega)
                refine aw_iload_n e_Pb_lay_50 rfl ?_
                refine aw_iconst (v := nI 2) e_Pb_lay_51 (by decide) ?_
                refine awN_icmp_ne e_Pb_lay_52 (by omega) (by omega) (fun h52 => ?_) (fun h52 => ?_)
                · exact absurd rfl h52
                · refine aw_aload_n e_Pb_lay_55 rfl ?_
                  refine aw_getR e_Pb_lay_56 fl_Pb_55 (hS.1 _ _ _ _ rfl) ?_
                  refine aw_iload_n e_Pb_lay_59 rfl ?_
                  refine aw_aald e_Pb_lay_60 rfl (show _ < 4 by omega) (by omega) (hS.2.2.1 _ (by omega)) ?_
                  refine aw_getE e_Pb_lay_61 fl_Pb_268 hsk.1 ?_
                  refine aw_iconst (v := -1) e_Pb_lay_64 (by decide) ?_
                  refine aw_icmp_ne e_Pb_lay_65 (fun h65 => ?_) (fun h65 => ?_)
                  · have hnn : ¬ (sH S k).1 = -1 := h65
                    refine aw_aload_n e_Pb_lay_72 rfl ?_
                    refine aw_getR e_Pb_lay_73 fl_Pb_61 (hS.1 _ _ _ _ rfl) ?_
                    refine aw_iload_n e_Pb_lay_76 rfl ?_
                    refine aw_aald e_Pb_lay_77 rfl (show _ < 5 by omega) (by omega) (hS.2.2.2 _ (by omega)) ?_
                    refine aw_ast4 e_Pb_lay_78 ?_
                    refine aw_aload e_Pb_lay_80 rfl ?_
                    refine aw_getE e_Pb_lay_82 fl_Pb_290 hslo.1 ?_
                    refine aw_ist5 e_Pb_lay_85 ?_
                    refine aw_aload e_Pb_lay_87 rfl ?_
                    refine aw_iload_n e_Pb_lay_89 rfl ?_
                    refine aw_putI e_Pb_lay_90 fl_Pb_290 ?_
                    refine aw_iload_n e_Pb_lay_93 rfl ?_
                    refine aw_iconst (v := nI 1) e_Pb_lay_94 (by decide) ?_
                    refine awN_icmp_ne e_Pb_lay_95 (by omega) (by omega) (fun h95 => ?_) (fun h95 => ?_)
                    · refine aw_iload_n e_Pb_lay_118 rfl ?_
                      refine aw_iconst (v := nI 2) e_Pb_lay_119 (by decide) ?_
                      refine awN_icmp_ne e_Pb_lay_120 (by omega) (by omega) (fun h120 => ?_) (fun h120 => ?_)
                      · exact absurd rfl h120
                      · refine aw_aload e_Pb_lay_123 rfl ?_
                        refine aw_getR e_Pb_lay_125 fl_Pb_300 (hS.1 _ _ _ _ rfl) ?_
                        refine aw_aload_n e_Pb_lay_128 rfl ?_
                        refine aw_getR e_Pb_lay_129 fl_Pb_55 (hS.1 _ _ _ _ rfl) ?_
                        refine aw_iload_n e_Pb_lay_132 rfl ?_
                        refine aw_aald e_Pb_lay_133 rfl (show _ < 4 by omega) (by omega) (hS.2.2.1 _ (by omega)) ?_
                        refine aw_cV1 e_Pb_lay_134 ml_Pb_304 mf_Sh_takeFrom mv_Sh_takeFrom (c_Sh_takeFrom hS (by omega) (by omega) (fun I2 hf2 hs0 hs1 hs2 => ?_))
                        refine aw_goto e_Pb_lay_137 ?_
                        refine aw_iload e_Pb_lay_146 rfl ?_
                        have hsl : SLo I2 s (2, (nI k), pP (sM S) k, sH S k) := ⟨by rw [hf2 5 s (by omega), sI_eq], show (2 : Nat) < 4 by decide, fun q => absurd q (show ¬ (2 : Nat) = 3 by decide), fun q => absurd q (show ¬ (2 : Nat) = 1 by decide), fun _ => ⟨⟨hs0.trans ((sI_n2 (by omega)).trans hsk.1), hs1.trans ((sI_n2 (by omega)).trans hsk.2.1), hsk.2.2.1, hsk.2.2.2.1, hsk.2.2.2.2.1, fun j hj => (hs2 j (by have hj2 : j < (sH S k).2.1 := hj; have := hsk.2.2.1; omega)).trans ((sI_n2 (by omega)).trans (hsk.2.2.2.2.2 j hj))⟩, hnn⟩⟩
                        have hfr : ∀ t2 i2, ¬ ((t2 = 5 ∧ i2 = s) ∨ (t2 = 3 ∧ i2 = 36 + s) ∨ ((t2 = 4 ∨ t2 = 26) ∧ i2 = 4 + s)) → I2 t2 i2 = I t2 i2 := fun t2 i2 h => (hf2 t2 i2 (by omega)).trans (sI_n (by omega))
                        have hq := hQ I2 L R
                        unfold op_lay at hq
                        rw [if_pos hg, ix_n (j := s) (by omega), hik, if_neg (fun w => hnn w.2)] at hq
                        exact aw_iret e_Pb_lay_148 rfl rfl (hq (CS_slot hCS hs hfr hsl) (KM_slot hs hfr))
                    · exact absurd h95 (by decide)
                  · refine aw_ldcw (v := -1000000011) e_Pb_lay_68 kc_Pb_269 ?_
                    have hq := hQ I L R
                    unfold op_lay at hq
                    first
                      | (rw [if_pos hg, hik, if_pos ⟨by rw [ix_n (by decide)], h65⟩] at hq; exact aw_iret e_Pb_lay_71 rfl rfl (hq hCS KM_0))
              · skip
                refine aw_iload_n e_Pb_lay_50 rfl ?_
                refine aw_iconst (v := nI 2) e_Pb_lay_51 (by decide) ?_
                refine awN_icmp_ne e_Pb_lay_52 (by omega) (by omega) (fun h52 => ?_) (fun h52 => ?_)
                · refine aw_aload_n e_Pb_lay_72 rfl ?_
                  refine aw_getR e_Pb_lay_73 fl_Pb_61 (hS.1 _ _ _ _ rfl) ?_
                  refine aw_iload_n e_Pb_lay_76 rfl ?_
                  refine aw_aald e_Pb_lay_77 rfl (show _ < 5 by omega) (by omega) (hS.2.2.2 _ (by omega)) ?_
                  refine aw_ast4 e_Pb_lay_78 ?_
                  refine aw_aload e_Pb_lay_80 rfl ?_
                  refine aw_getE e_Pb_lay_82 fl_Pb_290 hslo.1 ?_
                  refine aw_ist5 e_Pb_lay_85 ?_
                  refine aw_aload e_Pb_lay_87 rfl ?_
                  refine aw_iload_n e_Pb_lay_89 rfl ?_
                  refine aw_putI e_Pb_lay_90 fl_Pb_290 ?_
                  refine aw_iload_n e_Pb_lay_93 rfl ?_
                  refine aw_iconst (v := nI 1) e_Pb_lay_94 (by decide) ?_
                  refine awN_icmp_ne e_Pb_lay_95 (by omega) (by omega) (fun h95 => ?_) (fun h95 => ?_)
                  · refine aw_iload_n e_Pb_lay_118 rfl ?_
                    refine aw_iconst (v := nI 2) e_Pb_lay_119 (by decide) ?_
                    refine awN_icmp_ne e_Pb_lay_120 (by omega) (by omega) (fun h120 => ?_) (fun h120 => ?_)
                    · refine aw_aload e_Pb_lay_140 rfl ?_
                      refine aw_iload_n e_Pb_lay_142 rfl ?_
                      refine aw_putI e_Pb_lay_143 fl_Pb_307 ?_
                      refine aw_iload e_Pb_lay_146 rfl ?_
                      have hsl : SLo (sI (sI I 5 s 0 (nI 3)) 5 s 1 z) s (3, z, pP (sM S) (ix z), sH S (ix z)) := ⟨by rw [sI_ne (by decide), sI_eq], show (3 : Nat) < 4 by decide, fun q => sI_eq _ _ _ _ _, fun q => absurd q (show ¬ (3 : Nat) = 1 by decide), fun q => absurd q (show ¬ (3 : Nat) = 2 by decide)⟩
                      have hfr : ∀ t2 i2, ¬ ((t2 = 5 ∧ i2 = s) ∨ (t2 = 3 ∧ i2 = 36 + s) ∨ ((t2 = 4 ∨ t2 = 26) ∧ i2 = 4 + s)) → (sI (sI I 5 s 0 (nI 3)) 5 s 1 z) t2 i2 = I t2 i2 := fun t2 i2 h => by rw [sI_n (by omega), sI_n (by omega)]
                      have hq := hQ (sI (sI I 5 s 0 (nI 3)) 5 s 1 z) L R
                      unfold op_lay at hq
                      rw [if_pos hg, ix_n (j := s) (by omega), if_neg (fun w => absurd w.1 (show ¬ ix (nI 3) = 2 by rw [ix_n (by decide)]; decide))] at hq
                      exact aw_iret e_Pb_lay_148 rfl rfl (hq (CS_slot hCS hs hfr hsl) (KM_slot hs hfr))
                    · exact absurd h120 (by decide)
                  · exact absurd h95 (by decide)
                · exact absurd h52 (by decide)
            · refine aw_ldc (v := -1000000001) e_Pb_lay_47 kc_Pb_74 ?_
              have hq := hQ I L R
              unfold op_lay at hq
              first
                | (rw [if_neg (fun w => h32 (w.2.2.1 (by unfold ix; omega)))] at hq; exact aw_iret e_Pb_lay_49 rfl rfl (hq hCS KM_0))
                | (rw [if_neg (fun w => h44 (w.2.2.2 (by unfold ix; omega)))] at hq; exact aw_iret e_Pb_lay_49 rfl rfl (hq hCS KM_0))
        · refine aw_aload_n e_Pb_lay_24 rfl ?_
          refine aw_getR e_Pb_lay_25 fl_Pb_10 (hS.1 _ _ _ _ rfl) ?_
          refine aw_iload_n e_Pb_lay_28 rfl ?_
          refine aw_cV1 e_Pb_lay_29 ml_Pb_90 mf_Ma_hasPart mv_Ma_hasPart (c_Ma_hasPart hS (by decide) hC hW ?_)
          refine awB_eq e_Pb_lay_32 (fun h32 => ?_) (fun h32 => ?_)
          · refine aw_ldc (v := -1000000001) e_Pb_lay_47 kc_Pb_74 ?_
            have hq := hQ I L R
            unfold op_lay at hq
            first
              | (rw [if_neg (fun w => h32 (w.2.2.1 (by unfold ix; omega)))] at hq; exact aw_iret e_Pb_lay_49 rfl rfl (hq hCS KM_0))
              | (rw [if_neg (fun w => h44 (w.2.2.2 (by unfold ix; omega)))] at hq; exact aw_iret e_Pb_lay_49 rfl rfl (hq hCS KM_0))
          · refine aw_iload_n e_Pb_lay_35 rfl ?_
            refine aw_iconst (v := nI 2) e_Pb_lay_36 (by decide) ?_
            refine awZ_icmp_ne e_Pb_lay_37 (fun h37 => ?_) (fun h37 => ?_)
            · obtain ⟨t, ht, rfl⟩ := inR_nI (x := y) (n := 4) ⟨by omega, by omega⟩
              have hTt := nT (n := t) (by omega)
              obtain ⟨s, hs, rfl⟩ := inR_nI h4
              have hslo := hCS.2.2.2.2.2.2.2.1 s hs
              have hg : inR (nI s) 5 ∧ inR (nI t) 4 ∧ (ix (nI t) = 1 → inR z (nP (sM S))) ∧ (ix (nI t) = 2 → inR z 4) := by
                rw [ix_n (j := t) (by omega)]
                refine ⟨h4, (nI_inR (by omega)).2 ht, fun q => ?_, fun q => ?_⟩
                · first | exact h32 | (exfalso; omega)
                · first | exact h44 | (exfalso; omega)
              have ht4 : t = 0 ∨ t = 1 ∨ t = 2 ∨ t = 3 := by omega
              rcases ht4 with rfl | rfl | rfl | rfl
              · skip
                refine aw_iload_n e_Pb_lay_50 rfl ?_
                refine aw_iconst (v := nI 2) e_Pb_lay_51 (by decide) ?_
                refine awN_icmp_ne e_Pb_lay_52 (by omega) (by omega) (fun h52 => ?_) (fun h52 => ?_)
                · refine aw_aload_n e_Pb_lay_72 rfl ?_
                  refine aw_getR e_Pb_lay_73 fl_Pb_61 (hS.1 _ _ _ _ rfl) ?_
                  refine aw_iload_n e_Pb_lay_76 rfl ?_
                  refine aw_aald e_Pb_lay_77 rfl (show _ < 5 by omega) (by omega) (hS.2.2.2 _ (by omega)) ?_
                  refine aw_ast4 e_Pb_lay_78 ?_
                  refine aw_aload e_Pb_lay_80 rfl ?_
                  refine aw_getE e_Pb_lay_82 fl_Pb_290 hslo.1 ?_
                  refine aw_ist5 e_Pb_lay_85 ?_
                  refine aw_aload e_Pb_lay_87 rfl ?_
                  refine aw_iload_n e_Pb_lay_89 rfl ?_
                  refine aw_putI e_Pb_lay_90 fl_Pb_290 ?_
                  refine aw_iload_n e_Pb_lay_93 rfl ?_
                  refine aw_iconst (v := nI 1) e_Pb_lay_94 (by decide) ?_
                  refine awN_icmp_ne e_Pb_lay_95 (by omega) (by omega) (fun h95 => ?_) (fun h95 => ?_)
                  · refine aw_iload_n e_Pb_lay_118 rfl ?_
                    refine aw_iconst (v := nI 2) e_Pb_lay_119 (by decide) ?_
                    refine awN_icmp_ne e_Pb_lay_120 (by omega) (by omega) (fun h120 => ?_) (fun h120 => ?_)
                    · refine aw_aload e_Pb_lay_140 rfl ?_
                      refine aw_iload_n e_Pb_lay_142 rfl ?_
                      refine aw_putI e_Pb_lay_143 fl_Pb_307 ?_
                      refine aw_iload e_Pb_lay_146 rfl ?_
                      have hsl : SLo (sI (sI I 5 s 0 (nI 0)) 5 s 1 z) s (0, z, pP (sM S) (ix z), sH S (ix z)) := ⟨by rw [sI_ne (by decide), sI_eq], show (0 : Nat) < 4 by decide, fun q => absurd q (show ¬ (0 : Nat) = 3 by decide), fun q => absurd q (show ¬ (0 : Nat) = 1 by decide), fun q => absurd q (show ¬ (0 : Nat) = 2 by decide)⟩
                      have hfr : ∀ t2 i2, ¬ ((t2 = 5 ∧ i2 = s) ∨ (t2 = 3 ∧ i2 = 36 + s) ∨ ((t2 = 4 ∨ t2 = 26) ∧ i2 = 4 + s)) → (sI (sI I 5 s 0 (nI 0)) 5 s 1 z) t2 i2 = I t2 i2 := fun t2 i2 h => by rw [sI_n (by omega), sI_n (by omega)]
                      have hq := hQ (sI (sI I 5 s 0 (nI 0)) 5 s 1 z) L R
                      unfold op_lay at hq
                      rw [if_pos hg, ix_n (j := s) (by omega), if_neg (fun w => absurd w.1 (show ¬ ix (nI 0) = 2 by rw [ix_n (by decide)]; decide))] at hq
                      exact aw_iret e_Pb_lay_148 rfl rfl (hq (CS_slot hCS hs hfr hsl) (KM_slot hs hfr))
                    · exact absurd h120 (by decide)
                  · exact absurd h95 (by decide)
                · exact absurd h52 (by decide)
              · obtain ⟨k, hkk, rfl⟩ := inR_nI (hg.2.2.1 rfl)
                have hv := hW.2.1 k hkk
                have h9 := hCS.2.2.1.2.2 k hkk
                have hik : ix (nI k) = k := ix_n (by omega)
                refine aw_iload_n e_Pb_lay_50 rfl ?_
                refine aw_iconst (v := nI 2) e_Pb_lay_51 (by decide) ?_
                refine awN_icmp_ne e_Pb_lay_52 (by omega) (by omega) (fun h52 => ?_) (fun h52 => ?_)
                · refine aw_aload_n e_Pb_lay_72 rfl ?_
                  refine aw_getR e_Pb_lay_73 fl_Pb_61 (hS.1 _ _ _ _ rfl) ?_
                  refine aw_iload_n e_Pb_lay_76 rfl ?_
                  refine aw_aald e_Pb_lay_77 rfl (show _ < 5 by omega) (by omega) (hS.2.2.2 _ (by omega)) ?_
                  refine aw_ast4 e_Pb_lay_78 ?_
                  refine aw_aload e_Pb_lay_80 rfl ?_
                  refine aw_getE e_Pb_lay_82 fl_Pb_290 hslo.1 ?_
                  refine aw_ist5 e_Pb_lay_85 ?_
                  refine aw_aload e_Pb_lay_87 rfl ?_
                  refine aw_iload_n e_Pb_lay_89 rfl ?_
                  refine aw_putI e_Pb_lay_90 fl_Pb_290 ?_
                  refine aw_iload_n e_Pb_lay_93 rfl ?_
                  refine aw_iconst (v := nI 1) e_Pb_lay_94 (by decide) ?_
                  refine awN_icmp_ne e_Pb_lay_95 (by omega) (by omega) (fun h95 => ?_) (fun h95 => ?_)
                  · exact absurd rfl h95
                  · refine aw_aload e_Pb_lay_98 rfl ?_
                    refine aw_getR e_Pb_lay_100 fl_Pb_293 (hS.1 _ _ _ _ rfl) ?_
                    refine aw_aload_n e_Pb_lay_103 rfl ?_
                    refine aw_getR e_Pb_lay_104 fl_Pb_10 (hS.1 _ _ _ _ rfl) ?_
                    refine aw_getR e_Pb_lay_107 fl_Pb_80 (hS.1 _ _ _ _ rfl) ?_
                    refine aw_iload_n e_Pb_lay_110 rfl ?_
                    refine aw_aald e_Pb_lay_111 rfl (show _ < 12 by omega) (by omega) (hS.2.1 _ _ (by omega) (by omega)) ?_
                    refine aw_cV1 e_Pb_lay_112 ml_Pb_297 mf_Pa_takeFrom mv_Pa_takeFrom (c_Pa_takeFrom (g := pP (sM S) k) (by omega) (fun f hf => (sI_n2 (by omega)).trans (hC.2.1 k f hkk hf)) ?_)
                    refine aw_goto e_Pb_lay_115 ?_
                    refine aw_iload e_Pb_lay_146 rfl ?_
                    have hsl : SLo (wP (sI I 5 s 0 (nI 1)) (36 + s) (pP (sM S) k)) s (1, (nI k), pP (sM S) k, sH S k) := ⟨by rw [wP_n (by omega), sI_eq], show (1 : Nat) < 4 by decide, fun q => absurd q (show ¬ (1 : Nat) = 3 by decide), fun _ => ⟨fun f hf => wP_s hf, hv.1, hv.2.1, ⟨hv.2.2.1.1, h9.1⟩, ⟨hv.2.2.2.1.1, h9.2⟩, hv.2.2.2.2⟩, fun q => absurd q (show ¬ (1 : Nat) = 2 by decide)⟩
                    have hfr : ∀ t2 i2, ¬ ((t2 = 5 ∧ i2 = s) ∨ (t2 = 3 ∧ i2 = 36 + s) ∨ ((t2 = 4 ∨ t2 = 26) ∧ i2 = 4 + s)) → (wP (sI I 5 s 0 (nI 1)) (36 + s) (pP (sM S) k)) t2 i2 = I t2 i2 := fun t2 i2 h => by rw [wP_n (by omega), sI_n (by omega)]
                    have hq := hQ (wP (sI I 5 s 0 (nI 1)) (36 + s) (pP (sM S) k)) L R
                    unfold op_lay at hq
                    rw [if_pos hg, ix_n (j := s) (by omega), hik, if_neg (fun w => absurd w.1 (show ¬ ix (nI 1) = 2 by rw [ix_n (by decide)]; decide))] at hq
                    exact aw_iret e_Pb_lay_148 rfl rfl (hq (CS_slot hCS hs hfr hsl) (KM_slot hs hfr))
                · exact absurd h52 (by decide)
              · obtain ⟨k, hk4, rfl⟩ := inR_nI (hg.2.2.2 rfl)
                have hsk := hCS.2.2.2.2.2.2.1 k hk4
                have hik : ix (nI k) = k := ix_n (by omega)
                refine aw_iload_n e_Pb_lay_50 rfl ?_
                refine aw_iconst (v := nI 2) e_Pb_lay_51 (by decide) ?_
                refine awN_icmp_ne e_Pb_lay_52 (by omega) (by omega) (fun h52 => ?_) (fun h52 => ?_)
                · exact absurd rfl h52
                · refine aw_aload_n e_Pb_lay_55 rfl ?_
                  refine aw_getR e_Pb_lay_56 fl_Pb_55 (hS.1 _ _ _ _ rfl) ?_
                  refine aw_iload_n e_Pb_lay_59 rfl ?_
                  refine aw_aald e_Pb_lay_60 rfl (show _ < 4 by omega) (by omega) (hS.2.2.1 _ (by omega)) ?_
                  refine aw_getE e_Pb_lay_61 fl_Pb_268 hsk.1 ?_
                  refine aw_iconst (v := -1) e_Pb_lay_64 (by decide) ?_
                  refine aw_icmp_ne e_Pb_lay_65 (fun h65 => ?_) (fun h65 => ?_)
                  · have hnn : ¬ (sH S k).1 = -1 := h65
                    refine aw_aload_n e_Pb_lay_72 rfl ?_
                    refine aw_getR e_Pb_lay_73 fl_Pb_61 (hS.1 _ _ _ _ rfl) ?_
                    refine aw_iload_n e_Pb_lay_76 rfl ?_
                    refine aw_aald e_Pb_lay_77 rfl (show _ < 5 by omega) (by omega) (hS.2.2.2 _ (by omega)) ?_
                    refine aw_ast4 e_Pb_lay_78 ?_
                    refine aw_aload e_Pb_lay_80 rfl ?_
                    refine aw_getE e_Pb_lay_82 fl_Pb_290 hslo.1 ?_
                    refine aw_ist5 e_Pb_lay_85 ?_
                    refine aw_aload e_Pb_lay_87 rfl ?_
                    refine aw_iload_n e_Pb_lay_89 rfl ?_
                    refine aw_putI e_Pb_lay_90 fl_Pb_290 ?_
                    refine aw_iload_n e_Pb_lay_93 rfl ?_
                    refine aw_iconst (v := nI 1) e_Pb_lay_94 (by decide) ?_
                    refine awN_icmp_ne e_Pb_lay_95 (by omega) (by omega) (fun h95 => ?_) (fun h95 => ?_)
                    · refine aw_iload_n e_Pb_lay_118 rfl ?_
                      refine aw_iconst (v := nI 2) e_Pb_lay_119 (by decide) ?_
                      refine awN_icmp_ne e_Pb_lay_120 (by omega) (by omega) (fun h120 => ?_) (fun h120 => ?_)
                      · exact absurd rfl h120
                      · refine aw_aload e_Pb_lay_123 rfl ?_
                        refine aw_getR e_Pb_lay_125 fl_Pb_300 (hS.1 _ _ _ _ rfl) ?_
                        refine aw_aload_n e_Pb_lay_128 rfl ?_
                        refine aw_getR e_Pb_lay_129 fl_Pb_55 (hS.1 _ _ _ _ rfl) ?_
                        refine aw_iload_n e_Pb_lay_132 rfl ?_
                        refine aw_aald e_Pb_lay_133 rfl (show _ < 4 by omega) (by omega) (hS.2.2.1 _ (by omega)) ?_
                        refine aw_cV1 e_Pb_lay_134 ml_Pb_304 mf_Sh_takeFrom mv_Sh_takeFrom (c_Sh_takeFrom hS (by omega) (by omega) (fun I2 hf2 hs0 hs1 hs2 => ?_))
                        refine aw_goto e_Pb_lay_137 ?_
                        refine aw_iload e_Pb_lay_146 rfl ?_
                        have hsl : SLo I2 s (2, (nI k), pP (sM S) k, sH S k) := ⟨by rw [hf2 5 s (by omega), sI_eq], show (2 : Nat) < 4 by decide, fun q => absurd q (show ¬ (2 : Nat) = 3 by decide), fun q => absurd q (show ¬ (2 : Nat) = 1 by decide), fun _ => ⟨⟨hs0.trans ((sI_n2 (by omega)).trans hsk.1), hs1.trans ((sI_n2 (by omega)).trans hsk.2.1), hsk.2.2.1, hsk.2.2.2.1, hsk.2.2.2.2.1, fun j hj => (hs2 j (by have hj2 : j < (sH S k).2.1 := hj; have := hsk.2.2.1; omega)).trans ((sI_n2 (by omega)).trans (hsk.2.2.2.2.2 j hj))⟩, hnn⟩⟩
                        have hfr : ∀ t2 i2, ¬ ((t2 = 5 ∧ i2 = s) ∨ (t2 = 3 ∧ i2 = 36 + s) ∨ ((t2 = 4 ∨ t2 = 26) ∧ i2 = 4 + s)) → I2 t2 i2 = I t2 i2 := fun t2 i2 h => (hf2 t2 i2 (by omega)).trans (sI_n (by omega))
                        have hq := hQ I2 L R
                        unfold op_lay at hq
                        rw [if_pos hg, ix_n (j := s) (by omega), hik, if_neg (fun w => hnn w.2)] at hq
                        exact aw_iret e_Pb_lay_148 rfl rfl (hq (CS_slot hCS hs hfr hsl) (KM_slot hs hfr))
                    · exact absurd h95 (by decide)
                  · refine aw_ldcw (v := -1000000011) e_Pb_lay_68 kc_Pb_269 ?_
                    have hq := hQ I L R
                    unfold op_lay at hq
                    first
                      | (rw [if_pos hg, hik, if_pos ⟨by rw [ix_n (by decide)], h65⟩] at hq; exact aw_iret e_Pb_lay_71 rfl rfl (hq hCS KM_0))
              · skip
                refine aw_iload_n e_Pb_lay_50 rfl ?_
                refine aw_iconst (v := nI 2) e_Pb_lay_51 (by decide) ?_
                refine awN_icmp_ne e_Pb_lay_52 (by omega) (by omega) (fun h52 => ?_) (fun h52 => ?_)
                · refine aw_aload_n e_Pb_lay_72 rfl ?_
                  refine aw_getR e_Pb_lay_73 fl_Pb_61 (hS.1 _ _ _ _ rfl) ?_
                  refine aw_iload_n e_Pb_lay_76 rfl ?_
                  refine aw_aald e_Pb_lay_77 rfl (show _ < 5 by omega) (by omega) (hS.2.2.2 _ (by omega)) ?_
                  refine aw_ast4 e_Pb_lay_78 ?_
                  refine aw_aload e_Pb_lay_80 rfl ?_
                  refine aw_getE e_Pb_lay_82 fl_Pb_290 hslo.1 ?_
                  refine aw_ist5 e_Pb_lay_85 ?_
                  refine aw_aload e_Pb_lay_87 rfl ?_
                  refine aw_iload_n e_Pb_lay_89 rfl ?_
                  refine aw_putI e_Pb_lay_90 fl_Pb_290 ?_
                  refine aw_iload_n e_Pb_lay_93 rfl ?_
                  refine aw_iconst (v := nI 1) e_Pb_lay_94 (by decide) ?_
                  refine awN_icmp_ne e_Pb_lay_95 (by omega) (by omega) (fun h95 => ?_) (fun h95 => ?_)
                  · refine aw_iload_n e_Pb_lay_118 rfl ?_
                    refine aw_iconst (v := nI 2) e_Pb_lay_119 (by decide) ?_
                    refine awN_icmp_ne e_Pb_lay_120 (by omega) (by omega) (fun h120 => ?_) (fun h120 => ?_)
                    · refine aw_aload e_Pb_lay_140 rfl ?_
                      refine aw_iload_n e_Pb_lay_142 rfl ?_
                      refine aw_putI e_Pb_lay_143 fl_Pb_307 ?_
                      refine aw_iload e_Pb_lay_146 rfl ?_
                      have hsl : SLo (sI (sI I 5 s 0 (nI 3)) 5 s 1 z) s (3, z, pP (sM S) (ix z), sH S (ix z)) := ⟨by rw [sI_ne (by decide), sI_eq], show (3 : Nat) < 4 by decide, fun q => sI_eq _ _ _ _ _, fun q => absurd q (show ¬ (3 : Nat) = 1 by decide), fun q => absurd q (show ¬ (3 : Nat) = 2 by decide)⟩
                      have hfr : ∀ t2 i2, ¬ ((t2 = 5 ∧ i2 = s) ∨ (t2 = 3 ∧ i2 = 36 + s) ∨ ((t2 = 4 ∨ t2 = 26) ∧ i2 = 4 + s)) → (sI (sI I 5 s 0 (nI 3)) 5 s 1 z) t2 i2 = I t2 i2 := fun t2 i2 h => by rw [sI_n (by omega), sI_n (by omega)]
                      have hq := hQ (sI (sI I 5 s 0 (nI 3)) 5 s 1 z) L R
                      unfold op_lay at hq
                      rw [if_pos hg, ix_n (j := s) (by omega), if_neg (fun w => absurd w.1 (show ¬ ix (nI 3) = 2 by rw [ix_n (by decide)]; decide))] at hq
                      exact aw_iret e_Pb_lay_148 rfl rfl (hq (CS_slot hCS hs hfr hsl) (KM_slot hs hfr))
                    · exact absurd h120 (by decide)
                  · exact absurd h95 (by decide)
                · exact absurd h52 (by decide)
            · refine aw_iload_n e_Pb_lay_40 rfl ?_
              refine aw_cS1 e_Pb_lay_41 ml_Pb_261 mf_Pb_isSheet ms_Pb_isSheet (c_Pb_isSheet ?_)
              refine awB_ne e_Pb_lay_44 (fun h44 => ?_) (fun h44 => ?_)
              · obtain ⟨t, ht, rfl⟩ := inR_nI (x := y) (n := 4) ⟨by omega, by omega⟩
                have hTt := nT (n := t) (by omega)
                obtain ⟨s, hs, rfl⟩ := inR_nI h4
                have hslo := hCS.2.2.2.2.2.2.2.1 s hs
                have hg : inR (nI s) 5 ∧ inR (nI t) 4 ∧ (ix (nI t) = 1 → inR z (nP (sM S))) ∧ (ix (nI t) = 2 → inR z 4) := by
                  rw [ix_n (j := t) (by omega)]
                  refine ⟨h4, (nI_inR (by omega)).2 ht, fun q => ?_, fun q => ?_⟩
                  · first | exact h32 | (exfalso; omega)
                  · first | exact h44 | (exfalso; omega)
                have ht4 : t = 0 ∨ t = 1 ∨ t = 2 ∨ t = 3 := by omega
                rcases ht4 with rfl | rfl | rfl | rfl
                · skip
                  refine aw_iload_n e_Pb_lay_50 rfl ?_
                  refine aw_iconst (v := nI 2) e_Pb_lay_51 (by decide) ?_
                  refine awN_icmp_ne e_Pb_lay_52 (by omega) (by omega) (fun h52 => ?_) (fun h52 => ?_)
                  · refine aw_aload_n e_Pb_lay_72 rfl ?_
                    refine aw_getR e_Pb_lay_73 fl_Pb_61 (hS.1 _ _ _ _ rfl) ?_
                    refine aw_iload_n e_Pb_lay_76 rfl ?_
                    refine aw_aald e_Pb_lay_77 rfl (show _ < 5 by omega) (by omega) (hS.2.2.2 _ (by omega)) ?_
                    refine aw_ast4 e_Pb_lay_78 ?_
                    refine aw_aload e_Pb_lay_80 rfl ?_
                    refine aw_getE e_Pb_lay_82 fl_Pb_290 hslo.1 ?_
                    refine aw_ist5 e_Pb_lay_85 ?_
                    refine aw_aload e_Pb_lay_87 rfl ?_
                    refine aw_iload_n e_Pb_lay_89 rfl ?_
                    refine aw_putI e_Pb_lay_90 fl_Pb_290 ?_
                    refine aw_iload_n e_Pb_lay_93 rfl ?_
                    refine aw_iconst (v := nI 1) e_Pb_lay_94 (by decide) ?_
                    refine awN_icmp_ne e_Pb_lay_95 (by omega) (by omega) (fun h95 => ?_) (fun h95 => ?_)
                    · refine aw_iload_n e_Pb_lay_118 rfl ?_
                      refine aw_iconst (v := nI 2) e_Pb_lay_119 (by decide) ?_
                      refine awN_icmp_ne e_Pb_lay_120 (by omega) (by omega) (fun h120 => ?_) (fun h120 => ?_)
                      · refine aw_aload e_Pb_lay_140 rfl ?_
                        refine aw_iload_n e_Pb_lay_142 rfl ?_
                        refine aw_putI e_Pb_lay_143 fl_Pb_307 ?_
                        refine aw_iload e_Pb_lay_146 rfl ?_
                        have hsl : SLo (sI (sI I 5 s 0 (nI 0)) 5 s 1 z) s (0, z, pP (sM S) (ix z), sH S (ix z)) := ⟨by rw [sI_ne (by decide), sI_eq], show (0 : Nat) < 4 by decide, fun q => absurd q (show ¬ (0 : Nat) = 3 by decide), fun q => absurd q (show ¬ (0 : Nat) = 1 by decide), fun q => absurd q (show ¬ (0 : Nat) = 2 by decide)⟩
                        have hfr : ∀ t2 i2, ¬ ((t2 = 5 ∧ i2 = s) ∨ (t2 = 3 ∧ i2 = 36 + s) ∨ ((t2 = 4 ∨ t2 = 26) ∧ i2 = 4 + s)) → (sI (sI I 5 s 0 (nI 0)) 5 s 1 z) t2 i2 = I t2 i2 := fun t2 i2 h => by rw [sI_n (by omega), sI_n (by omega)]
                        have hq := hQ (sI (sI I 5 s 0 (nI 0)) 5 s 1 z) L R
                        unfold op_lay at hq
                        rw [if_pos hg, ix_n (j := s) (by omega), if_neg (fun w => absurd w.1 (show ¬ ix (nI 0) = 2 by rw [ix_n (by decide)]; decide))] at hq
                        exact aw_iret e_Pb_lay_148 rfl rfl (hq (CS_slot hCS hs hfr hsl) (KM_slot hs hfr))
                      · exact absurd h120 (by decide)
                    · exact absurd h95 (by decide)
                  · exact absurd h52 (by decide)
                · obtain ⟨k, hkk, rfl⟩ := inR_nI (hg.2.2.1 rfl)
                  have hv := hW.2.1 k hkk
                  have h9 := hCS.2.2.1.2.2 k hkk
                  have hik : ix (nI k) = k := ix_n (by omega)
                  refine aw_iload_n e_Pb_lay_50 rfl ?_
                  refine aw_iconst (v := nI 2) e_Pb_lay_51 (by decide) ?_
                  refine awN_icmp_ne e_Pb_lay_52 (by omega) (by omega) (fun h52 => ?_) (fun h52 => ?_)
                  · refine aw_aload_n e_Pb_lay_72 rfl ?_
                    refine aw_getR e_Pb_lay_73 fl_Pb_61 (hS.1 _ _ _ _ rfl) ?_
                    refine aw_iload_n e_Pb_lay_76 rfl ?_
                    refine aw_aald e_Pb_lay_77 rfl (show _ < 5 by omega) (by omega) (hS.2.2.2 _ (by omega)) ?_
                    refine aw_ast4 e_Pb_lay_78 ?_
                    refine aw_aload e_Pb_lay_80 rfl ?_
                    refine aw_getE e_Pb_lay_82 fl_Pb_290 hslo.1 ?_
                    refine aw_ist5 e_Pb_lay_85 ?_
                    refine aw_aload e_Pb_lay_87 rfl ?_
                    refine aw_iload_n e_Pb_lay_89 rfl ?_
                    refine aw_putI e_Pb_lay_90 fl_Pb_290 ?_
                    refine aw_iload_n e_Pb_lay_93 rfl ?_
                    refine aw_iconst (v := nI 1) e_Pb_lay_94 (by decide) ?_
                    refine awN_icmp_ne e_Pb_lay_95 (by omega) (by omega) (fun h95 => ?_) (fun h95 => ?_)
                    · exact absurd rfl h95
                    · refine aw_aload e_Pb_lay_98 rfl ?_
                      refine aw_getR e_Pb_lay_100 fl_Pb_293 (hS.1 _ _ _ _ rfl) ?_
                      refine aw_aload_n e_Pb_lay_103 rfl ?_
                      refine aw_getR e_Pb_lay_104 fl_Pb_10 (hS.1 _ _ _ _ rfl) ?_
                      refine aw_getR e_Pb_lay_107 fl_Pb_80 (hS.1 _ _ _ _ rfl) ?_
                      refine aw_iload_n e_Pb_lay_110 rfl ?_
                      refine aw_aald e_Pb_lay_111 rfl (show _ < 12 by omega) (by omega) (hS.2.1 _ _ (by omega) (by omega)) ?_
                      refine aw_cV1 e_Pb_lay_112 ml_Pb_297 mf_Pa_takeFrom mv_Pa_takeFrom (c_Pa_takeFrom (g := pP (sM S) k) (by omega) (fun f hf => (sI_n2 (by omega)).trans (hC.2.1 k f hkk hf)) ?_)
                      refine aw_goto e_Pb_lay_115 ?_
                      refine aw_iload e_Pb_lay_146 rfl ?_
                      have hsl : SLo (wP (sI I 5 s 0 (nI 1)) (36 + s) (pP (sM S) k)) s (1, (nI k), pP (sM S) k, sH S k) := ⟨by rw [wP_n (by omega), sI_eq], show (1 : Nat) < 4 by decide, fun q => absurd q (show ¬ (1 : Nat) = 3 by decide), fun _ => ⟨fun f hf => wP_s hf, hv.1, hv.2.1, ⟨hv.2.2.1.1, h9.1⟩, ⟨hv.2.2.2.1.1, h9.2⟩, hv.2.2.2.2⟩, fun q => absurd q (show ¬ (1 : Nat) = 2 by decide)⟩
                      have hfr : ∀ t2 i2, ¬ ((t2 = 5 ∧ i2 = s) ∨ (t2 = 3 ∧ i2 = 36 + s) ∨ ((t2 = 4 ∨ t2 = 26) ∧ i2 = 4 + s)) → (wP (sI I 5 s 0 (nI 1)) (36 + s) (pP (sM S) k)) t2 i2 = I t2 i2 := fun t2 i2 h => by rw [wP_n (by omega), sI_n (by omega)]
                      have hq := hQ (wP (sI I 5 s 0 (nI 1)) (36 + s) (pP (sM S) k)) L R
                      unfold op_lay at hq
                      rw [if_pos hg, ix_n (j := s) (by omega), hik, if_neg (fun w => absurd w.1 (show ¬ ix (nI 1) = 2 by rw [ix_n (by decide)]; decide))] at hq
                      exact aw_iret e_Pb_lay_148 rfl rfl (hq (CS_slot hCS hs hfr hsl) (KM_slot hs hfr))
                  · exact absurd h52 (by decide)
                · obtain ⟨k, hk4, rfl⟩ := inR_nI (hg.2.2.2 rfl)
                  have hsk := hCS.2.2.2.2.2.2.1 k hk4
                  have hik : ix (nI k) = k := ix_n (by omega)
                  refine aw_iload_n e_Pb_lay_50 rfl ?_
                  refine aw_iconst (v := nI 2) e_Pb_lay_51 (by decide) ?_
                  refine awN_icmp_ne e_Pb_lay_52 (by omega) (by omega) (fun h52 => ?_) (fun h52 => ?_)
                  · exact absurd rfl h52
                  · refine aw_aload_n e_Pb_lay_55 rfl ?_
                    refine aw_getR e_Pb_lay_56 fl_Pb_55 (hS.1 _ _ _ _ rfl) ?_
                    refine aw_iload_n e_Pb_lay_59 rfl ?_
                    refine aw_aald e_Pb_lay_60 rfl (show _ < 4 by omega) (by omega) (hS.2.2.1 _ (by omega)) ?_
                    refine aw_getE e_Pb_lay_61 fl_Pb_268 hsk.1 ?_
                    refine aw_iconst (v := -1) e_Pb_lay_64 (by decide) ?_
                    refine aw_icmp_ne e_Pb_lay_65 (fun h65 => ?_) (fun h65 => ?_)
                    · have hnn : ¬ (sH S k).1 = -1 := h65
                      refine aw_aload_n e_Pb_lay_72 rfl ?_
                      refine aw_getR e_Pb_lay_73 fl_Pb_61 (hS.1 _ _ _ _ rfl) ?_
                      refine aw_iload_n e_Pb_lay_76 rfl ?_
                      refine aw_aald e_Pb_lay_77 rfl (show _ < 5 by omega) (by omega) (hS.2.2.2 _ (by omega)) ?_
                      refine aw_ast4 e_Pb_lay_78 ?_
                      refine aw_aload e_Pb_lay_80 rfl ?_
                      refine aw_getE e_Pb_lay_82 fl_Pb_290 hslo.1 ?_
                      refine aw_ist5 e_Pb_lay_85 ?_
                      refine aw_aload e_Pb_lay_87 rfl ?_
                      refine aw_iload_n e_Pb_lay_89 rfl ?_
                      refine aw_putI e_Pb_lay_90 fl_Pb_290 ?_
                      refine aw_iload_n e_Pb_lay_93 rfl ?_
                      refine aw_iconst (v := nI 1) e_Pb_lay_94 (by decide) ?_
                      refine awN_icmp_ne e_Pb_lay_95 (by omega) (by omega) (fun h95 => ?_) (fun h95 => ?_)
                      · refine aw_iload_n e_Pb_lay_118 rfl ?_
                        refine aw_iconst (v := nI 2) e_Pb_lay_119 (by decide) ?_
                        refine awN_icmp_ne e_Pb_lay_120 (by omega) (by omega) (fun h120 => ?_) (fun h120 => ?_)
                        · exact absurd rfl h120
                        · refine aw_aload e_Pb_lay_123 rfl ?_
                          refine aw_getR e_Pb_lay_125 fl_Pb_300 (hS.1 _ _ _ _ rfl) ?_
                          refine aw_aload_n e_Pb_lay_128 rfl ?_
                          refine aw_getR e_Pb_lay_129 fl_Pb_55 (hS.1 _ _ _ _ rfl) ?_
                          refine aw_iload_n e_Pb_lay_132 rfl ?_
                          refine aw_aald e_Pb_lay_133 rfl (show _ < 4 by omega) (by omega) (hS.2.2.1 _ (by omega)) ?_
                          refine aw_cV1 e_Pb_lay_134 ml_Pb_304 mf_Sh_takeFrom mv_Sh_takeFrom (c_Sh_takeFrom hS (by omega) (by omega) (fun I2 hf2 hs0 hs1 hs2 => ?_))
                          refine aw_goto e_Pb_lay_137 ?_
                          refine aw_iload e_Pb_lay_146 rfl ?_
                          have hsl : SLo I2 s (2, (nI k), pP (sM S) k, sH S k) := ⟨by rw [hf2 5 s (by omega), sI_eq], show (2 : Nat) < 4 by decide, fun q => absurd q (show ¬ (2 : Nat) = 3 by decide), fun q => absurd q (show ¬ (2 : Nat) = 1 by decide), fun _ => ⟨⟨hs0.trans ((sI_n2 (by omega)).trans hsk.1), hs1.trans ((sI_n2 (by omega)).trans hsk.2.1), hsk.2.2.1, hsk.2.2.2.1, hsk.2.2.2.2.1, fun j hj => (hs2 j (by have hj2 : j < (sH S k).2.1 := hj; have := hsk.2.2.1; omega)).trans ((sI_n2 (by omega)).trans (hsk.2.2.2.2.2 j hj))⟩, hnn⟩⟩
                          have hfr : ∀ t2 i2, ¬ ((t2 = 5 ∧ i2 = s) ∨ (t2 = 3 ∧ i2 = 36 + s) ∨ ((t2 = 4 ∨ t2 = 26) ∧ i2 = 4 + s)) → I2 t2 i2 = I t2 i2 := fun t2 i2 h => (hf2 t2 i2 (by omega)).trans (sI_n (by omega))
                          have hq := hQ I2 L R
                          unfold op_lay at hq
                          rw [if_pos hg, ix_n (j := s) (by omega), hik, if_neg (fun w => hnn w.2)] at hq
                          exact aw_iret e_Pb_lay_148 rfl rfl (hq (CS_slot hCS hs hfr hsl) (KM_slot hs hfr))
                      · exact absurd h95 (by decide)
                    · refine aw_ldcw (v := -1000000011) e_Pb_lay_68 kc_Pb_269 ?_
                      have hq := hQ I L R
                      unfold op_lay at hq
                      first
                        | (rw [if_pos hg, hik, if_pos ⟨by rw [ix_n (by decide)], h65⟩] at hq; exact aw_iret e_Pb_lay_71 rfl rfl (hq hCS KM_0))
                · skip
                  refine aw_iload_n e_Pb_lay_50 rfl ?_
                  refine aw_iconst (v := nI 2) e_Pb_lay_51 (by decide) ?_
                  refine awN_icmp_ne e_Pb_lay_52 (by omega) (by omega) (fun h52 => ?_) (fun h52 => ?_)
                  · refine aw_aload_n e_Pb_lay_72 rfl ?_
                    refine aw_getR e_Pb_lay_73 fl_Pb_61 (hS.1 _ _ _ _ rfl) ?_
                    refine aw_iload_n e_Pb_lay_76 rfl ?_
                    refine aw_aald e_Pb_lay_77 rfl (show _ < 5 by omega) (by omega) (hS.2.2.2 _ (by omega)) ?_
                    refine aw_ast4 e_Pb_lay_78 ?_
                    refine aw_aload e_Pb_lay_80 rfl ?_
                    refine aw_getE e_Pb_lay_82 fl_Pb_290 hslo.1 ?_
                    refine aw_ist5 e_Pb_lay_85 ?_
                    refine aw_aload e_Pb_lay_87 rfl ?_
                    refine aw_iload_n e_Pb_lay_89 rfl ?_
                    refine aw_putI e_Pb_lay_90 fl_Pb_290 ?_
                    refine aw_iload_n e_Pb_lay_93 rfl ?_
                    refine aw_iconst (v := nI 1) e_Pb_lay_94 (by decide) ?_
                    refine awN_icmp_ne e_Pb_lay_95 (by omega) (by omega) (fun h95 => ?_) (fun h95 => ?_)
                    · refine aw_iload_n e_Pb_lay_118 rfl ?_
                      refine aw_iconst (v := nI 2) e_Pb_lay_119 (by decide) ?_
                      refine awN_icmp_ne e_Pb_lay_120 (by omega) (by omega) (fun h120 => ?_) (fun h120 => ?_)
                      · refine aw_aload e_Pb_lay_140 rfl ?_
                        refine aw_iload_n e_Pb_lay_142 rfl ?_
                        refine aw_putI e_Pb_lay_143 fl_Pb_307 ?_
                        refine aw_iload e_Pb_lay_146 rfl ?_
                        have hsl : SLo (sI (sI I 5 s 0 (nI 3)) 5 s 1 z) s (3, z, pP (sM S) (ix z), sH S (ix z)) := ⟨by rw [sI_ne (by decide), sI_eq], show (3 : Nat) < 4 by decide, fun q => sI_eq _ _ _ _ _, fun q => absurd q (show ¬ (3 : Nat) = 1 by decide), fun q => absurd q (show ¬ (3 : Nat) = 2 by decide)⟩
                        have hfr : ∀ t2 i2, ¬ ((t2 = 5 ∧ i2 = s) ∨ (t2 = 3 ∧ i2 = 36 + s) ∨ ((t2 = 4 ∨ t2 = 26) ∧ i2 = 4 + s)) → (sI (sI I 5 s 0 (nI 3)) 5 s 1 z) t2 i2 = I t2 i2 := fun t2 i2 h => by rw [sI_n (by omega), sI_n (by omega)]
                        have hq := hQ (sI (sI I 5 s 0 (nI 3)) 5 s 1 z) L R
                        unfold op_lay at hq
                        rw [if_pos hg, ix_n (j := s) (by omega), if_neg (fun w => absurd w.1 (show ¬ ix (nI 3) = 2 by rw [ix_n (by decide)]; decide))] at hq
                        exact aw_iret e_Pb_lay_148 rfl rfl (hq (CS_slot hCS hs hfr hsl) (KM_slot hs hfr))
                      · exact absurd h120 (by decide)
                    · exact absurd h95 (by decide)
                  · exact absurd h52 (by decide)
              · refine aw_ldc (v := -1000000001) e_Pb_lay_47 kc_Pb_74 ?_
                have hq := hQ I L R
                unfold op_lay at hq
                first
                  | (rw [if_neg (fun w => h32 (w.2.2.1 (by unfold ix; omega)))] at hq; exact aw_iret e_Pb_lay_49 rfl rfl (hq hCS KM_0))
                  | (rw [if_neg (fun w => h44 (w.2.2.2 (by unfold ix; omega)))] at hq; exact aw_iret e_Pb_lay_49 rfl rfl (hq hCS KM_0))
      · refine aw_ldc (v := -1000000001) e_Pb_lay_16 kc_Pb_74 ?_
        have hq := hQ I L R
        unfold op_lay at hq
        first
          | (rw [if_neg (fun w => h4 w.1)] at hq; exact aw_iret e_Pb_lay_18 rfl rfl (hq hCS KM_0))
          | (rw [if_neg (fun w => by have w1 := w.2.1.1; have w2 := w.2.1.2; omega)] at hq; exact aw_iret e_Pb_lay_18 rfl rfl (hq hCS KM_0))
def fdB (a b c : Int32) (k : Nat) : Int32 := ((if k < 4 then a else if k < 8 then b else c) >>> (nI (24 - 8 * (k % 4)) &&& 31)).toInt8.toInt32
def fdT (n : Nat) (w : Nat → Int32) (a b c : Int32) : Nat → Int32 := fun j => if j < n then w j else fdB a b c (j - n)
def op_feed (S : AS) (a b c : Int32) : AS × Int32 := if (sT S).1 + 12 ≤ 96 then ((sM S, sG S, sK S, ((sT S).1 + 12, fdT (sT S).1 (sT S).2 a b c), S.2.2.2.2), nI ((sT S).1 + 12)) else (S, -1000000003)
theorem t88 (y : Int32) : y.toInt8.toInt32.toInt8.toInt32 = y.toInt8.toInt32 := by simp
def pbB (x : Int32) (k : Nat) : Int32 := (x >>> (nI (24 - 8 * k) &&& 31)).toInt8.toInt32
theorem c_Ta_putBytes {l : Launch} {E : En} {d : Nat} {I : It} {L : Lt} {R : Rt} {Z : Zt} {Q : Qt} {n : Nat} {x : Int32} (hS : Sta R) (hn : I 6 0 0 = nI n) (hn2 : n + 4 ≤ 96) (hQ : ∀ I2, (∀ t i, ¬ ((t = 6 ∨ t = 20) ∧ i = 0) → I2 t i = I t i) → I2 6 0 0 = nI (n + 4) → (∀ j, j < n → I2 20 0 j = I 20 0 j) → (∀ k, k < 4 → I2 20 0 (n + k) = pbB x k) → Q none I2 L R Z) : AMet l E d M_Ta_putBytes [vr 6 0, vi x] I L R Z Q := by
  refine AMet.of mf_Ta_putBytes rfl (Nat.le_of_ble_eq_true rfl) ?_
  refine aw_bipush (v := nI 24) e_Ta_putBytes_0 (by decide) ?_
  refine aw_ist2 e_Ta_putBytes_2 ?_
  have shS : ∀ {k : Nat}, k < 4 → (nI 24 - nI (8 * k) : Int32) = nI (24 - 8 * k) := fun h => pk_sub (by omega)
  have shT : ∀ k, k ≤ 4 → (nI 24 - nI (8 * k) : Int32).toInt = 24 - 8 * (k : Int) := fun k hk => by rw [pk_sub_toInt (by omega) (by omega)]; omega
  refine up_loop (P := fun k => ∀ I2, (∀ t i, ¬ ((t = 6 ∨ t = 20) ∧ i = 0) → I2 t i = I t i) → I2 6 0 0 = nI (n + k) → (∀ j, j < n → I2 20 0 j = I 20 0 j) → (∀ q, q < k → I2 20 0 (n + q) = pbB x q) → AWq l E d M_Ta_putBytes Z 3 [some (vr 6 0), some (vi x), some (vi (nI 24 - nI (8 * k)))] [] I2 L R Z Q) (N := 4) (fun k hk ih I2 h2 h60 h2o h2b => ?_) 0 (by decide) I (fun _ _ _ => rfl) hn (fun _ _ => rfl) (fun q hq => absurd hq (Nat.not_lt_zero q))
  have hsT := shT k hk
  
  refine aw_iload_n e_Ta_putBytes_3 rfl ?_
  refine awZ_if_lt e_Ta_putBytes_4 (fun h4 => ?_) (fun h4 => ?_)
  · obtain rfl : k = 4 := by first | omega | (exfalso; omega)
    exact aw_vret e_Ta_putBytes_45 rfl (hQ _ h2 h60 h2o h2b)
  · have hk4 : k < 4 := by omega
    rw [shS hk4]
    refine aw_aload_n e_Ta_putBytes_7 rfl ?_
    refine aw_getE e_Ta_putBytes_8 fl_Ta_19 h60 ?_
    refine aw_bipush (v := nI 96) e_Ta_putBytes_11 (by decide) ?_
    refine awN_icmp_ge e_Ta_putBytes_13 (by omega) (by omega) (fun h13 => ?_) (fun h13 => ?_)
    · exact absurd h13 (by omega)
    · refine aw_aload_n e_Ta_putBytes_16 rfl ?_
      refine aw_getR e_Ta_putBytes_17 fl_Ta_9 (hS.1 _ _ _ _ rfl) ?_
      refine aw_aload_n e_Ta_putBytes_20 rfl ?_
      refine aw_getE e_Ta_putBytes_21 fl_Ta_19 h60 ?_
      refine aw_iload_n e_Ta_putBytes_24 rfl ?_
      refine aw_iload_n e_Ta_putBytes_25 rfl ?_
      refine aw_ishr e_Ta_putBytes_26 ?_
      refine aw_i2b e_Ta_putBytes_27 ?_
      refine aw_bast e_Ta_putBytes_28 rfl (show _ < 96 by omega) (by omega) ?_
      rw [t88]
      refine aw_aload_n e_Ta_putBytes_29 rfl ?_
      refine aw_dup e_Ta_putBytes_30 rfl ?_
      refine aw_getE e_Ta_putBytes_31 fl_Ta_19 ((sI_n2 (by decide)).trans h60) ?_
      refine aw_iconst (v := nI 1) e_Ta_putBytes_34 (by decide) ?_
      first | refine awN_iadd e_Ta_putBytes_35 ?_ | refine aw_iadd e_Ta_putBytes_35 ?_
      refine aw_putI e_Ta_putBytes_36 fl_Ta_19 ?_
      refine aw_inc2 e_Ta_putBytes_39 rfl ?_
      refine aw_goto e_Ta_putBytes_42 ?_
      have hkk := ih hk4
      rw [show (nI 24 - nI (8 * (k + 1)) : Int32) = nI (24 - 8 * k) + Int32.ofInt (-8) by
        have q : k = 0 ∨ k = 1 ∨ k = 2 ∨ k = 3 := by omega
        rcases q with rfl | rfl | rfl | rfl <;> decide] at hkk
      refine hkk _ (fun t i hti => by rw [sI_n (by omega), sI_n (by omega)]; exact h2 t i hti) (sI_eq _ _ _ _ _) (fun j hj => by rw [sI_n (by decide), sI_ne (by omega)]; exact h2o j hj) (fun q hq => ?_)
      rw [sI_n (by decide)]
      by_cases e : q = k
      · rw [e, sI_eq]; rfl
      · rw [sI_ne (by omega)]; exact h2b q (by omega)
theorem c_Pb_feed {l : Launch} {E : En} {d : Nat} {I : It} {L : Lt} {R : Rt} {Z : Zt} {Q : Qt} {S : AS} (hCS : CS I R Z S) {x y z : Int32} (hQ : ∀ I2 L2 R2, CS I2 R2 Z (op_feed S x y z).1 → KM I L R I2 L2 R2 → Q (some (vi (op_feed S x y z).2)) I2 L2 R2 Z) : AMet l E (d + 1) M_Pb_feed [vr 8 0, vi x, vi y, vi z] I L R Z Q := by
  have hS := hCS.1
  have hC := hCS.2.1
  have hW := hCS.2.2.1.1
  have hWn := hW.1
  have hTt := hCS.2.2.2.2.2.1
  have hT96 := hTt.2.1
  refine AMet.of mf_Pb_feed rfl (Nat.le_of_ble_eq_true rfl) ?_
  refine aw_aload_n e_Pb_feed_0 rfl ?_
  refine aw_getR e_Pb_feed_1 fl_Pb_42 (hS.1 _ _ _ _ rfl) ?_
  refine aw_getE e_Pb_feed_4 fl_Pb_192 hTt.1 ?_
  refine aw_bipush (v := nI 12) e_Pb_feed_7 (by decide) ?_
  first | refine awN_iadd e_Pb_feed_9 ?_ | refine aw_iadd e_Pb_feed_9 ?_
  refine aw_bipush (v := nI 96) e_Pb_feed_10 (by decide) ?_
  refine awN_icmp_le e_Pb_feed_12 (by omega) (by omega) (fun h12 => ?_) (fun h12 => ?_)
  · refine aw_aload_n e_Pb_feed_18 rfl ?_
    refine aw_getR e_Pb_feed_19 fl_Pb_42 (hS.1 _ _ _ _ rfl) ?_
    refine aw_iload_n e_Pb_feed_22 rfl ?_
    refine aw_cV1 e_Pb_feed_23 ml_Pb_195 mf_Ta_putBytes mv_Ta_putBytes (c_Ta_putBytes hS hTt.1 (by omega) (fun I1 f1 s1 o1 b1 => ?_))
    refine aw_aload_n e_Pb_feed_26 rfl ?_
    refine aw_getR e_Pb_feed_27 fl_Pb_42 (hS.1 _ _ _ _ rfl) ?_
    refine aw_iload_n e_Pb_feed_30 rfl ?_
    refine aw_cV1 e_Pb_feed_31 ml_Pb_195 mf_Ta_putBytes mv_Ta_putBytes (c_Ta_putBytes hS s1 (by omega) (fun I2 f2 s2 o2 b2 => ?_))
    refine aw_aload_n e_Pb_feed_34 rfl ?_
    refine aw_getR e_Pb_feed_35 fl_Pb_42 (hS.1 _ _ _ _ rfl) ?_
    refine aw_iload_n e_Pb_feed_38 rfl ?_
    refine aw_cV1 e_Pb_feed_39 ml_Pb_195 mf_Ta_putBytes mv_Ta_putBytes (c_Ta_putBytes hS s2 (by omega) (fun I3 f3 s3 o3 b3 => ?_))
    refine aw_aload_n e_Pb_feed_42 rfl ?_
    refine aw_getR e_Pb_feed_43 fl_Pb_42 (hS.1 _ _ _ _ rfl) ?_
    refine aw_getE e_Pb_feed_46 fl_Pb_192 (show _ = nI ((sT S).1 + 12) from s3) ?_
    have e : ∀ t i, ¬ ((t = 6 ∨ t = 20) ∧ i = 0) → I3 t i = I t i := fun t i h => ((f3 t i h).trans (f2 t i h)).trans (f1 t i h)
    obtain ⟨g1, g2, g3, g4, g5, g6, g7, g8, g9, g10, g11⟩ := hCS
    have hcs : CS I3 R Z (sM S, sG S, sK S, ((sT S).1 + 12, fdT (sT S).1 (sT S).2 x y z), S.2.2.2.2) := by
      refine ⟨g1, g2.keep g3.1 (fun t i hti => e t i (by unfold own at hti; omega)) (fun _ _ _ => rfl), g3, fun z => ⟨(g4 z).1.keep (g4 z).2.1 (fun t i hti => e t i (by unfold own at hti; omega)) (fun _ _ _ => rfl), (g4 z).2⟩, by rw [e 8 0 (by omega)]; exact g5, ⟨s3, h12, fun j hj => ?_⟩, fun i hi => (g7 i hi).keep (e 4 i (by omega)) (e 26 i (by omega)), fun i hi => (g8 i hi).keep (e 5 i (by omega)) (e 3 _ (by omega)) (e 4 _ (by omega)) (e 26 _ (by omega)), by rw [e 8 0 (by omega), e 23 0 (by omega)]; exact g9, g10, g11⟩
      have hj2 : j < (sT S).1 + 12 := hj
      show _ = if j < (sT S).1 then (sT S).2 j else fdB x y z (j - (sT S).1)
      by_cases c0 : j < (sT S).1
      · rw [if_pos c0, o3 j (by omega), o2 j (by omega), o1 j (by omega)]; exact hTt.2.2 j c0
      · rw [if_neg c0]
        unfold fdB
        by_cases c1 : j - (sT S).1 < 4
        · rw [if_pos c1, o3 j (by omega), o2 j (by omega)]
          have q := b1 (j - (sT S).1) c1
          rw [show (sT S).1 + (j - (sT S).1) = j by omega] at q
          rw [q, Nat.mod_eq_of_lt c1]; rfl
        · rw [if_neg c1]
          by_cases c2 : j - (sT S).1 < 8
          · rw [if_pos c2, o3 j (by omega)]
            have q := b2 (j - (sT S).1 - 4) (by omega)
            rw [show (sT S).1 + 4 + (j - (sT S).1 - 4) = j by omega] at q
            rw [q, show (j - (sT S).1) % 4 = j - (sT S).1 - 4 by omega]; rfl
          · rw [if_neg c2]
            have q := b3 (j - (sT S).1 - 8) (by omega)
            rw [show (sT S).1 + 4 + 4 + (j - (sT S).1 - 8) = j by omega] at q
            rw [q, show (j - (sT S).1) % 4 = j - (sT S).1 - 8 by omega]; rfl
    have hq := hQ I3 L R
    unfold op_feed at hq
    rw [if_pos h12] at hq
    exact aw_iret e_Pb_feed_49 rfl rfl (hq hcs (fun t i ht => ⟨e t i (by omega), rfl, rfl⟩))
  · refine aw_ldc (v := -1000000003) e_Pb_feed_15 kc_Pb_79 ?_
    have hq := hQ I L R
    unfold op_feed at hq
    first
      | (rw [if_neg (by omega)] at hq; exact aw_iret e_Pb_feed_17 rfl rfl (hq hCS KM_0))
