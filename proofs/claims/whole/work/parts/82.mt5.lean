/-! ===== the model's tape: a text read ===== -/
theorem c_Mo_key {l : Launch} {E : En} {d : Nat} {I : It} {L : Lt} {R : Rt} {Z : Zt} {Q : Qt} {t : TB} (hS : Sta R) (hT : MTP I t) (hL : MW I t (W1 t)) (hQ1 : ¬ pO1 t → Q (some (vi (-1))) I L R Z) (hQ2 : pO1 t → ∀ I2, MW I2 t (W2 t) → f9 I I2 → ¬ pO2 t → Q (some (vi (-1))) I2 L R Z) (hQ3 : pO1 t → ∀ I2, MW I2 t (W2 t) → f9 I I2 → pO2 t → Q (some (vi (nI (12 * pk t + nW t)))) I2 L R Z) : AMet l E (d + 3) M_Mo_key [vr 9 0] I L R Z Q := by
  refine AMet.of mf_Mo_key rfl (Nat.le_of_ble_eq_true rfl) ?_
  have k47 : pO1 t → AWq l E (d + 3) M_Mo_key Z 47 [some (vr 9 0), some (vi (nI (12 * pk t)))] [] I L R Z Q := fun ho1 => by
    refine aw_aload_n e_Mo_key_47 rfl ?_
    refine aw_cV0 e_Mo_key_48 ml_Mo_265 mf_Mo_next mv_Mo_next (c_Mo_next (x := W1 t) (tk := tok (W1 t)) hS hT hL.2.1 hL.2.2.1 (tok_le (W1_ok t).2.2.1) (gl_ok (W1_ok t) (fun z => by have := (pO1_w ho1).1; omega)) (W1_ok t).2.1 (fun I2 hl2 hf2 => ?_))
    replace hl2 : MW I2 t (W2 t) := hl2
    have htl := tok_le (W2_ok t).1.2.2.1
    refine aw_aload_n e_Mo_key_51 rfl ?_
    refine aw_getE e_Mo_key_52 fl_Mo_243 hl2.2.2.1 ?_
    refine aw_iconst (v := nI 2) e_Mo_key_55 (by decide) ?_
    refine awN_icmp_ne e_Mo_key_56 (by omega) (by omega) (fun h56 => ?_) (fun h56 => ?_)
    · refine aw_iconst (v := -1) e_Mo_key_77 (by decide) ?_
      first
        | exact aw_iret e_Mo_key_78 rfl rfl (hQ3 ho1 I2 hl2 hf2 ⟨tok_2.1 h56, h65⟩)
        | exact aw_iret e_Mo_key_78 rfl rfl (hQ2 ho1 I2 hl2 hf2 (fun z => by have z2 : numV t (W2 t).1 ((W2 t).2.1 - (W2 t).1) < 12 := z.2; omega))
        | exact aw_iret e_Mo_key_78 rfl rfl (hQ2 ho1 I2 hl2 hf2 (fun z => h56 (tok_2.2 z.1)))
    · have hnb := isNb_iff.1 (tok_2.1 h56)
      have hnl := num_b (W2_ok t).1 (tok_2.1 h56)
      have hpk := pK_lt t
      refine aw_aload_n e_Mo_key_59 rfl ?_
      refine aw_getE e_Mo_key_60 fl_Mo_258 (hl2.2.2.2.2.2 hnb.1 hnb.2) ?_
      refine aw_bipush (v := nI 12) e_Mo_key_63 (by decide) ?_
      refine awN_icmp_ge e_Mo_key_65 (by omega) (by omega) (fun h65 => ?_) (fun h65 => ?_)
      · refine aw_iconst (v := -1) e_Mo_key_77 (by decide) ?_
        first
          | exact aw_iret e_Mo_key_78 rfl rfl (hQ3 ho1 I2 hl2 hf2 ⟨tok_2.1 h56, h65⟩)
          | exact aw_iret e_Mo_key_78 rfl rfl (hQ2 ho1 I2 hl2 hf2 (fun z => by have z2 : numV t (W2 t).1 ((W2 t).2.1 - (W2 t).1) < 12 := z.2; omega))
          | exact aw_iret e_Mo_key_78 rfl rfl (hQ2 ho1 I2 hl2 hf2 (fun z => h56 (tok_2.2 z.1)))
      · refine aw_iload_n e_Mo_key_68 rfl ?_
        refine aw_aload_n e_Mo_key_69 rfl ?_
        refine aw_getE e_Mo_key_70 fl_Mo_258 (hl2.2.2.2.2.2 hnb.1 hnb.2) ?_
        first | refine awN_iadd e_Mo_key_73 ?_ | refine aw_iadd e_Mo_key_73 ?_
        refine aw_goto e_Mo_key_74 ?_
        first
          | exact aw_iret e_Mo_key_78 rfl rfl (hQ3 ho1 I2 hl2 hf2 ⟨tok_2.1 h56, h65⟩)
          | exact aw_iret e_Mo_key_78 rfl rfl (hQ2 ho1 I2 hl2 hf2 (fun z => by have z2 : numV t (W2 t).1 ((W2 t).2.1 - (W2 t).1) < 12 := z.2; omega))
          | exact aw_iret e_Mo_key_78 rfl rfl (hQ2 ho1 I2 hl2 hf2 (fun z => h56 (tok_2.2 z.1)))
  refine aw_aload_n e_Mo_key_0 rfl ?_
  refine aw_bipush (v := nI 103) e_Mo_key_1 (by decide) ?_
  refine aw_bipush (v := nI 105) e_Mo_key_3 (by decide) ?_
  refine aw_bipush (v := nI 118) e_Mo_key_5 (by decide) ?_
  refine aw_bipush (v := nI 101) e_Mo_key_7 (by decide) ?_
  refine aw_cV4 e_Mo_key_9 ml_Mo_261 mf_Mo_isWordAt mv_Mo_isWordAt (c_Mo_isWordAt (x := W1 t) (i := 0) hS hT hL (W1_ok t) (by decide) ?_)
  refine awB_eq e_Mo_key_12 (fun h12 => ?_) (fun h12 => ?_)
  · refine aw_aload_n e_Mo_key_19 rfl ?_
    refine aw_bipush (v := nI 114) e_Mo_key_20 (by decide) ?_
    refine aw_bipush (v := nI 101) e_Mo_key_22 (by decide) ?_
    refine aw_bipush (v := nI 97) e_Mo_key_24 (by decide) ?_
    refine aw_bipush (v := nI 100) e_Mo_key_26 (by decide) ?_
    refine aw_cV4 e_Mo_key_28 ml_Mo_261 mf_Mo_isWordAt mv_Mo_isWordAt (c_Mo_isWordAt (x := W1 t) (i := 1) hS hT hL (W1_ok t) (by decide) ?_)
    refine awB_eq e_Mo_key_31 (fun h31 => ?_) (fun h31 => ?_)
    · refine aw_iconst (v := -1) e_Mo_key_39 (by decide) ?_
      refine aw_ist1 e_Mo_key_40 ?_
      refine aw_iload_n e_Mo_key_41 rfl ?_
      refine awZ_if_ge e_Mo_key_42 (fun h42 => ?_) (fun h42 => ?_)
      · first
          | exact absurd h42 (by decide)
          | (have hp : pk t = 0 := if_pos h12
             rw [hp] at k47
             exact k47 (Or.inl h12))
          | (have hp : pk t = 1 := if_neg h12
             rw [hp] at k47
             exact k47 (Or.inr h31))
      · refine aw_iconst (v := -1) e_Mo_key_45 (by decide) ?_
        first
          | exact aw_iret e_Mo_key_46 rfl rfl (hQ1 (fun z => z.elim h12 h31))
          | exact absurd (by decide) h42
    · refine aw_bipush (v := nI 12) e_Mo_key_34 (by decide) ?_
      refine aw_goto e_Mo_key_36 ?_
      refine aw_ist1 e_Mo_key_40 ?_
      refine aw_iload_n e_Mo_key_41 rfl ?_
      refine awZ_if_ge e_Mo_key_42 (fun h42 => ?_) (fun h42 => ?_)
      · first
          | exact absurd h42 (by decide)
          | (have hp : pk t = 0 := if_pos h12
             rw [hp] at k47
             exact k47 (Or.inl h12))
          | (have hp : pk t = 1 := if_neg h12
             rw [hp] at k47
             exact k47 (Or.inr h31))
      · refine aw_iconst (v := -1) e_Mo_key_45 (by decide) ?_
        first
          | exact aw_iret e_Mo_key_46 rfl rfl (hQ1 (fun z => z.elim h12 h31))
          | exact absurd (by decide) h42
  · refine aw_iconst (v := nI 0) e_Mo_key_15 (by decide) ?_
    refine aw_goto e_Mo_key_16 ?_
    refine aw_ist1 e_Mo_key_40 ?_
    refine aw_iload_n e_Mo_key_41 rfl ?_
    refine awZ_if_ge e_Mo_key_42 (fun h42 => ?_) (fun h42 => ?_)
    · first
        | exact absurd h42 (by decide)
        | (have hp : pk t = 0 := if_pos h12
           rw [hp] at k47
           exact k47 (Or.inl h12))
        | (have hp : pk t = 1 := if_neg h12
           rw [hp] at k47
           exact k47 (Or.inr h31))
    · refine aw_iconst (v := -1) e_Mo_key_45 (by decide) ?_
      first
        | exact aw_iret e_Mo_key_46 rfl rfl (hQ1 (fun z => z.elim h12 h31))
        | exact absurd (by decide) h42
/-- how a reading leaves the model's cells -/
def fQ (la : Nat) (I I2 : It) : Prop := (∀ t i, ¬ (t = 9 ∧ i = 0) → ¬ (t = 28 ∧ i = 0) → I2 t i = I t i) ∧ (∀ f, ¬ (16 ≤ f ∧ f ≤ 26) → I2 9 0 f = I 9 0 f) ∧ I2 9 0 16 = nI 0 ∧ ∀ n, n < la → I2 28 0 n = I 28 0 n
theorem fP.Q {la : Nat} {I I2 : It} (h : fP la I I2) : fQ la I (sI I2 9 0 16 (nI 0)) := ⟨fun t i a b => (sI_n a).trans (h.1 t i a b), fun f hf => (sI_ne (by omega)).trans (h.2.1 f (by omega)), sI_eq _ _ _ _ _, fun n hn => (sI_n2 (by decide)).trans (h.2.2 n hn)⟩
def lay (n : Nat) : Nat := if n < 14 then 100 + 200 * n + 4 else 2910
theorem lay_le {n : Nat} (h : n ≤ 14) : lay n ≤ 2910 := by unfold lay; split <;> omega
theorem rd_wd {t : TB} (h : (rd t (pk t) 700 0 0 0 (W3 t, [], 0)).1 = true) : (rd t (pk t) 700 0 0 0 (W3 t, [], 0)).2.1.2.2 ≤ 4 := by
  obtain ⟨s, a, b, c, d, e, f, g, w, j⟩ := rd_ok (t := t) (key := pk t) 700 0 0 0 (W3 t, [], 0) (by omega) (W3_ok t).1 h
  exact w.2.2.1
theorem c_Mo_parse {l : Launch} {E : En} {d : Nat} {I : It} {L : Lt} {R : Rt} {Z : Zt} {Q : Qt} {t : TB} {n : Nat} (hS : Sta R) (hT : MTP I t) (hn : I 28 0 2 = nI n) (hn14 : n ≤ 14) (hQ1 : ¬ pG t → ∀ I2, fQ (lay n) I I2 → I2 9 0 17 = nI (pPl t) → Q (some (vi (-1))) I2 L R Z) (hQ2 : pG t → ∀ I2, fQ (lay n) I I2 → MCD I2 (lay n) (pR t).2.2.1 (pR t).2.2.2 → Q (some (vi (nI (12 * pk t + nW t)))) I2 L R Z) : AMet l E (d + 705) M_Mo_parse [vr 9 0] I L R Z Q := by
  have hT96 := hT.2.1
  refine AMet.of mf_Mo_parse rfl (Nat.le_of_ble_eq_true rfl) ?_
  refine aw_aload_n e_Mo_parse_0 rfl ?_
  refine aw_iconst (v := nI 0) e_Mo_parse_1 (by decide) ?_
  refine aw_putI e_Mo_parse_2 fl_Mo_240 ?_
  refine aw_aload_n e_Mo_parse_5 rfl ?_
  refine aw_iconst (v := nI 3) e_Mo_parse_6 (by decide) ?_
  refine aw_putI e_Mo_parse_7 fl_Mo_243 ?_
  refine aw_aload_n e_Mo_parse_10 rfl ?_
  refine aw_iconst (v := nI 0) e_Mo_parse_11 (by decide) ?_
  refine aw_putI e_Mo_parse_12 fl_Mo_304 ?_
  refine aw_aload_n e_Mo_parse_15 rfl ?_
  refine aw_iconst (v := nI 0) e_Mo_parse_16 (by decide) ?_
  refine aw_putI e_Mo_parse_17 fl_Mo_301 ?_
  refine aw_aload_n e_Mo_parse_20 rfl ?_
  refine aw_iconst (v := nI 0) e_Mo_parse_21 (by decide) ?_
  refine aw_putI e_Mo_parse_22 fl_Mo_271 ?_
  refine aw_aload_n e_Mo_parse_25 rfl ?_
  refine aw_iconst (v := nI 0) e_Mo_parse_26 (by decide) ?_
  refine aw_putI e_Mo_parse_27 fl_Mo_295 ?_
  have k60 : AWq l E (d + 705) M_Mo_parse Z 60 [some (vr 9 0), none, none] [vi (nI (lay n)), vr 9 0] (sI (sI (sI (sI (sI (sI I 9 0 18 (nI 0)) 9 0 19 (nI 3)) 9 0 22 (nI 0)) 9 0 23 (nI 0)) 9 0 24 (nI 0)) 9 0 26 (nI 0)) L R Z Q := by
    refine aw_putI e_Mo_parse_60 fl_Mo_268 ?_
    have hp1 : fP (lay n) I (sI (sI (sI (sI (sI (sI (sI I 9 0 18 (nI 0)) 9 0 19 (nI 3)) 9 0 22 (nI 0)) 9 0 23 (nI 0)) 9 0 24 (nI 0)) 9 0 26 (nI 0)) 9 0 25 (nI (lay n))) := fP_s (fP_s (fP_s (fP_s (fP_s (fP_s (fP_s fP_0 (by decide)) (by decide)) (by decide)) (by decide)) (by decide)) (by decide)) (by decide)
    have hT1 : MTP (sI (sI (sI (sI (sI (sI (sI I 9 0 18 (nI 0)) 9 0 19 (nI 3)) 9 0 22 (nI 0)) 9 0 23 (nI 0)) 9 0 24 (nI 0)) 9 0 26 (nI 0)) 9 0 25 (nI (lay n))) t := MTP.s (MTP.s (MTP.s (MTP.s (MTP.s (MTP.s (MTP.s hT (by decide)) (by decide)) (by decide)) (by decide)) (by decide)) (by decide)) (by decide)
    have p18 : (sI (sI (sI (sI (sI (sI (sI I 9 0 18 (nI 0)) 9 0 19 (nI 3)) 9 0 22 (nI 0)) 9 0 23 (nI 0)) 9 0 24 (nI 0)) 9 0 26 (nI 0)) 9 0 25 (nI (lay n))) 9 0 18 = nI 0 := by simp [sI]
    have p19 : (sI (sI (sI (sI (sI (sI (sI I 9 0 18 (nI 0)) 9 0 19 (nI 3)) 9 0 22 (nI 0)) 9 0 23 (nI 0)) 9 0 24 (nI 0)) 9 0 26 (nI 0)) 9 0 25 (nI (lay n))) 9 0 19 = nI 3 := by simp [sI]
    have p22 : (sI (sI (sI (sI (sI (sI (sI I 9 0 18 (nI 0)) 9 0 19 (nI 3)) 9 0 22 (nI 0)) 9 0 23 (nI 0)) 9 0 24 (nI 0)) 9 0 26 (nI 0)) 9 0 25 (nI (lay n))) 9 0 22 = nI 0 := by simp [sI]
    have p23 : (sI (sI (sI (sI (sI (sI (sI I 9 0 18 (nI 0)) 9 0 19 (nI 3)) 9 0 22 (nI 0)) 9 0 23 (nI 0)) 9 0 24 (nI 0)) 9 0 26 (nI 0)) 9 0 25 (nI (lay n))) 9 0 23 = nI 0 := by simp [sI]
    have p24 : (sI (sI (sI (sI (sI (sI (sI I 9 0 18 (nI 0)) 9 0 19 (nI 3)) 9 0 22 (nI 0)) 9 0 23 (nI 0)) 9 0 24 (nI 0)) 9 0 26 (nI 0)) 9 0 25 (nI (lay n))) 9 0 24 = nI 0 := by simp [sI]
    have p26 : (sI (sI (sI (sI (sI (sI (sI I 9 0 18 (nI 0)) 9 0 19 (nI 3)) 9 0 22 (nI 0)) 9 0 23 (nI 0)) 9 0 24 (nI 0)) 9 0 26 (nI 0)) 9 0 25 (nI (lay n))) 9 0 26 = nI 0 := by simp [sI]
    have p25 : (sI (sI (sI (sI (sI (sI (sI I 9 0 18 (nI 0)) 9 0 19 (nI 3)) 9 0 22 (nI 0)) 9 0 23 (nI 0)) 9 0 24 (nI 0)) 9 0 26 (nI 0)) 9 0 25 (nI (lay n))) 9 0 25 = nI (lay n) := by simp [sI]
    generalize hI1 : sI (sI (sI (sI (sI (sI (sI I 9 0 18 (nI 0)) 9 0 19 (nI 3)) 9 0 22 (nI 0)) 9 0 23 (nI 0)) 9 0 24 (nI 0)) 9 0 26 (nI 0)) 9 0 25 (nI (lay n)) = I1 at *
    refine aw_aload_n e_Mo_parse_63 rfl ?_
    refine aw_cV0 e_Mo_parse_64 ml_Mo_265 mf_Mo_next mv_Mo_next (c_Mo_next (x := (0, 0, 0)) (tk := 3) hS hT1 p18 p19 (by decide) ⟨fun z => absurd z.1 (Nat.lt_irrefl 0), fun z => z.elim (fun q => absurd q (show ¬ (0 : Nat) = 1 by decide)) (fun q => absurd q (show ¬ (0 : Nat) = 2 by decide))⟩ (Nat.zero_le _) (fun I2 hl2 hf2 => ?_))
    replace hl2 : MW I2 t (W1 t) := hl2
    have hT2 := hT1.f9 hf2
    have hp2 : fP (lay n) I I2 := fP_t hp1 hf2.P
    have q22 := (hf2.2 22 (by decide)).trans p22
    have q23 := (hf2.2 23 (by decide)).trans p23
    have q24 := (hf2.2 24 (by decide)).trans p24
    have q25 := (hf2.2 25 (by decide)).trans p25
    have q26 := (hf2.2 26 (by decide)).trans p26
    refine aw_aload_n e_Mo_parse_67 rfl ?_
    refine aw_cV0 e_Mo_parse_68 ml_Mo_310 mf_Mo_key mv_Mo_key (c_Mo_key hS hT2 hl2 (fun ho1 => ?_) (fun ho1 I3 hl3 hf3 ho2 => ?_) (fun ho1 I3 hl3 hf3 ho2 => ?_))
    · refine aw_ist1 e_Mo_parse_71 ?_
      refine aw_iload_n e_Mo_parse_72 rfl ?_
      refine awZ_if_lt e_Mo_parse_73 (fun h73 => ?_) (fun h73 => ?_)
      · refine aw_iconst (v := nI 0) e_Mo_parse_80 (by decide) ?_
        refine aw_ist2 e_Mo_parse_81 ?_
        refine aw_iload_n e_Mo_parse_82 rfl ?_
        refine awN_if_eq e_Mo_parse_83 (by omega) (fun h83 => ?_) (fun h83 => ?_)
        · refine aw_aload_n e_Mo_parse_111 rfl ?_
          refine aw_iconst (v := nI 0) e_Mo_parse_112 (by decide) ?_
          refine aw_putI e_Mo_parse_113 fl_Mo_229 ?_
          refine aw_iload_n e_Mo_parse_116 rfl ?_
          refine awN_if_eq e_Mo_parse_117 (by omega) (fun h117 => ?_) (fun h117 => ?_)
          · refine aw_iconst (v := -1) e_Mo_parse_124 (by decide) ?_
            exact aw_iret e_Mo_parse_125 rfl rfl (hQ1 (fun z => ho1 z.1) _ (fP.Q hp2) ((sI_ne (by decide)).trans (by rw [pPl_1 ho1]; exact hl2.1)))
          · exact absurd rfl h117
        · exact absurd rfl h83
      · exact absurd (by decide) h73
    · refine aw_ist1 e_Mo_parse_71 ?_
      refine aw_iload_n e_Mo_parse_72 rfl ?_
      refine awZ_if_lt e_Mo_parse_73 (fun h73 => ?_) (fun h73 => ?_)
      · refine aw_iconst (v := nI 0) e_Mo_parse_80 (by decide) ?_
        refine aw_ist2 e_Mo_parse_81 ?_
        refine aw_iload_n e_Mo_parse_82 rfl ?_
        refine awN_if_eq e_Mo_parse_83 (by omega) (fun h83 => ?_) (fun h83 => ?_)
        · refine aw_aload_n e_Mo_parse_111 rfl ?_
          refine aw_iconst (v := nI 0) e_Mo_parse_112 (by decide) ?_
          refine aw_putI e_Mo_parse_113 fl_Mo_229 ?_
          refine aw_iload_n e_Mo_parse_116 rfl ?_
          refine awN_if_eq e_Mo_parse_117 (by omega) (fun h117 => ?_) (fun h117 => ?_)
          · refine aw_iconst (v := -1) e_Mo_parse_124 (by decide) ?_
            exact aw_iret e_Mo_parse_125 rfl rfl (hQ1 (fun z => ho2 z.2.1) _ (fP.Q (fP_t hp2 hf3.P)) ((sI_ne (by decide)).trans (by rw [pPl_2 ho1 ho2]; exact hl3.1)))
          · exact absurd rfl h117
        · exact absurd rfl h83
      · exact absurd (by decide) h73
    · have hpkl := pK_lt t
      have hnwl := ho2.2
      refine aw_ist1 e_Mo_parse_71 ?_
      refine aw_iload_n e_Mo_parse_72 rfl ?_
      refine awN_if_lt e_Mo_parse_73 (by omega) ?_
      refine aw_iconst (v := nI 1) e_Mo_parse_76 (by decide) ?_
      refine aw_goto e_Mo_parse_77 ?_
      refine aw_ist2 e_Mo_parse_81 ?_
      refine aw_iload_n e_Mo_parse_82 rfl ?_
      refine awN_if_eq e_Mo_parse_83 (by omega) (fun h83 => ?_) (fun h83 => ?_)
      · exact absurd h83 (by decide)
      · have hnb := isNb_iff.1 ho2.1
        have hT3 := hT2.f9 hf3
        refine aw_aload_n e_Mo_parse_86 rfl ?_
        refine aw_cV0 e_Mo_parse_87 ml_Mo_265 mf_Mo_next mv_Mo_next (c_Mo_next (x := W2 t) (tk := tok (W2 t)) hS hT3 hl3.2.1 hl3.2.2.1 (tok_le (W2_ok t).1.2.2.1) (gl_ok (W2_ok t).1 (fun _ => hnb.2)) (W2_ok t).1.2.1 (fun I4 hl4 hf4 => ?_))
        replace hl4 : MW I4 t (W3 t) := hl4
        have hp4 := fP_t hp2 (fP_t hf3.P hf4.P)
        have hK : 12 * pk t + nW t < 24 := by have := ho2.2; have := pK_lt t; omega
        have hKk : 12 * pk t + nW t < 12 ↔ pk t = 0 := by have := ho2.2; omega
        have hT4 : MTS I4 t (lay n) 0 0 (W3 t, [], 0) := ⟨hT3.f9 hf4, hl4, ⟨by rw [hf4.2 25 (by decide), hf3.2 25 (by decide)]; exact q25, lay_le hn14⟩, ⟨by rw [hf4.2 24 (by decide), hf3.2 24 (by decide)]; exact q24, fun j q hq => absurd hq (by simp), by rw [hf4.2 26 (by decide), hf3.2 26 (by decide)]; exact q26⟩, by rw [hf4.2 22 (by decide), hf3.2 22 (by decide)]; exact q22, by rw [hf4.2 23 (by decide), hf3.2 23 (by decide)]; exact q23⟩
        have hX4 : XI t (W3 t, [], 0) := ⟨(W3_ok t).1, Nat.zero_le _⟩
        refine aw_aload_n e_Mo_parse_90 rfl ?_
        refine aw_iload_n e_Mo_parse_91 rfl ?_
        refine aw_cV1 e_Mo_parse_92 ml_Mo_307 mf_Mo_either mv_Mo_either ((mo_all (key := pk t) (la := lay n) hS hK hKk 700).1 0 0 (W3 t, [], 0) _ _ _ (by decide) (by decide) (by omega) hT4 hX4 (by show 7 * (t.1 - (W3 t).1) + 6 ≤ 700; omega) (fun I5 hr5 => ?_))
        have hp5 := fP_t hp4 hr5.1
        refine awB_eq e_Mo_parse_95 (fun h95 => ?_) (fun h95 => ?_)
        · refine aw_iconst (v := nI 0) e_Mo_parse_109 (by decide) ?_
          refine aw_ist2 e_Mo_parse_110 ?_
          refine aw_aload_n e_Mo_parse_111 rfl ?_
          refine aw_iconst (v := nI 0) e_Mo_parse_112 (by decide) ?_
          refine aw_putI e_Mo_parse_113 fl_Mo_229 ?_
          refine aw_iload_n e_Mo_parse_116 rfl ?_
          refine awN_if_eq e_Mo_parse_117 (by omega) (fun h117 => ?_) (fun h117 => ?_)
          · refine aw_iconst (v := -1) e_Mo_parse_124 (by decide) ?_
            first
              | exact aw_iret e_Mo_parse_125 rfl rfl (hQ1 (fun z => h102 ((tok_n (by decide) (by decide)).2 z.2.2.2)) _ (fP.Q hp5) ((sI_ne (by decide)).trans (by rw [pPl_3 ho1 ho2]; exact hT5.2.1.1)))
              | exact aw_iret e_Mo_parse_125 rfl rfl (hQ1 (fun z => h95 z.2.2.1) _ (fP.Q hp5) ((sI_ne (by decide)).trans (by rw [pPl_3 ho1 ho2]; exact hr5.2.2 h95)))
          · exact absurd rfl h117
        · have hT5 := hr5.2.1 h95
          have htl5 := tok_le (rd_wd h95)
          refine aw_aload_n e_Mo_parse_98 rfl ?_
          refine aw_getE e_Mo_parse_99 fl_Mo_243 hT5.2.1.2.2.1 ?_
          refine awN_if_ne e_Mo_parse_102 (by omega) (fun h102 => ?_) (fun h102 => ?_)
          · refine aw_iconst (v := nI 0) e_Mo_parse_109 (by decide) ?_
            refine aw_ist2 e_Mo_parse_110 ?_
            refine aw_aload_n e_Mo_parse_111 rfl ?_
            refine aw_iconst (v := nI 0) e_Mo_parse_112 (by decide) ?_
            refine aw_putI e_Mo_parse_113 fl_Mo_229 ?_
            refine aw_iload_n e_Mo_parse_116 rfl ?_
            refine awN_if_eq e_Mo_parse_117 (by omega) (fun h117 => ?_) (fun h117 => ?_)
            · refine aw_iconst (v := -1) e_Mo_parse_124 (by decide) ?_
              first
                | exact aw_iret e_Mo_parse_125 rfl rfl (hQ1 (fun z => h102 ((tok_n (by decide) (by decide)).2 z.2.2.2)) _ (fP.Q hp5) ((sI_ne (by decide)).trans (by rw [pPl_3 ho1 ho2]; exact hT5.2.1.1)))
                | exact aw_iret e_Mo_parse_125 rfl rfl (hQ1 (fun z => h95 z.2.2.1) _ (fP.Q hp5) ((sI_ne (by decide)).trans (by rw [pPl_3 ho1 ho2]; exact hr5.2.2 h95)))
            · exact absurd rfl h117
          · refine aw_iconst (v := nI 1) e_Mo_parse_105 (by decide) ?_
            refine aw_goto e_Mo_parse_106 ?_
            refine aw_ist2 e_Mo_parse_110 ?_
            refine aw_aload_n e_Mo_parse_111 rfl ?_
            refine aw_iconst (v := nI 0) e_Mo_parse_112 (by decide) ?_
            refine aw_putI e_Mo_parse_113 fl_Mo_229 ?_
            refine aw_iload_n e_Mo_parse_116 rfl ?_
            refine awN_if_eq e_Mo_parse_117 (by omega) (fun h117 => ?_) (fun h117 => ?_)
            · exact absurd h117 (by decide)
            · refine aw_iload_n e_Mo_parse_120 rfl ?_
              refine aw_goto e_Mo_parse_121 ?_
              have hg : pG t := ⟨ho1, ho2, h95, (tok_n (by decide) (by decide)).1 h102⟩
              exact aw_iret e_Mo_parse_125 rfl rfl (hQ2 hg _ (fP.Q hp5) ⟨(sI_ne (by decide)).trans hT5.2.2.2.1.1, fun j q hq => by rw [sI_n (by decide)]; exact hT5.2.2.2.1.2.1 j q hq, (sI_ne (by decide)).trans hT5.2.2.2.1.2.2⟩)
  refine aw_aload_n e_Mo_parse_30 rfl ?_
  refine aw_aload_n e_Mo_parse_31 rfl ?_
  refine aw_getR e_Mo_parse_32 fl_Mo_7 (hS.1 _ _ _ _ rfl) ?_
  refine aw_iconst (v := nI 2) e_Mo_parse_35 (by decide) ?_
  refine aw_ialE e_Mo_parse_36 rfl (show 2 < 3110 by decide) (by decide) (show _ = nI n by (repeat (rw [sI_n (show ¬ (28 = 9 ∧ 0 = 0) by decide)])); exact hn) ?_
  refine aw_bipush (v := nI 14) e_Mo_parse_37 (by decide) ?_
  refine awN_icmp_ge e_Mo_parse_39 (by omega) (by omega) (fun h39 => ?_) (fun h39 => ?_)
  · refine aw_sipush (v := nI 2910) e_Mo_parse_57 (by decide) ?_
    first
      | (rw [show lay n = 100 + 200 * n + 4 from if_pos h39] at k60; exact k60)
      | (rw [show lay n = 2910 from if_neg (by omega)] at k60; exact k60)
  · refine aw_aload_n e_Mo_parse_42 rfl ?_
    refine aw_aload_n e_Mo_parse_43 rfl ?_
    refine aw_getR e_Mo_parse_44 fl_Mo_7 (hS.1 _ _ _ _ rfl) ?_
    refine aw_iconst (v := nI 2) e_Mo_parse_47 (by decide) ?_
    refine aw_ialE e_Mo_parse_48 rfl (show 2 < 3110 by decide) (by decide) (show _ = nI n by (repeat (rw [sI_n (show ¬ (28 = 9 ∧ 0 = 0) by decide)])); exact hn) ?_
    refine aw_cV1 e_Mo_parse_49 ml_Mo_208 mf_Mo_textAt mv_Mo_textAt (c_Mo_textAt ?_)
    refine aw_iconst (v := nI 4) e_Mo_parse_52 (by decide) ?_
    first | refine awN_iadd e_Mo_parse_53 ?_ | refine aw_iadd e_Mo_parse_53 ?_
    refine aw_goto e_Mo_parse_54 ?_
    first
      | (rw [show lay n = 100 + 200 * n + 4 from if_pos h39] at k60; exact k60)
      | (rw [show lay n = 2910 from if_neg (by omega)] at k60; exact k60)
