/-! ===== the calls, 3 ===== -/
def toldV (V : Mc) (p w : Nat) : Int32 := if w = 0 then nI (pP V p 0) else if w = 1 then nI (pP V p 1) else if w = 2 then nI (10 * pP V p 2 + pP V p 3) else if w = 3 then nI (pP V p 4) else if w = 4 then nI (ends V p) else if w = 5 then bI (wantB (pP V p 0) (ends V p) = true) else nI (shW (pP V p 2) (pP V p 3))
def op_told (S : AS) (p w : Int32) : AS × Int32 := (S, if inR p (nP (sM S)) then (if inR w 7 then toldV (sM S) (ix p) (ix w) else -1000000001) else -1000000001)
theorem c_Pb_told {l : Launch} {E : En} {d : Nat} {I : It} {L : Lt} {R : Rt} {Z : Zt} {Q : Qt} {S : AS} (hCS : CS I R Z S) {x y : Int32} (hQ : ∀ I2 L2 R2, CS I2 R2 Z (op_told S x y).1 → KM I L R I2 L2 R2 → Q (some (vi (op_told S x y).2)) I2 L2 R2 Z) : AMet l E (d + 2) M_Pb_told [vr 8 0, vi x, vi y] I L R Z Q := by
  have hS := hCS.1
  have hC := hCS.2.1
  have hW := hCS.2.2.1.1
  have hWn := hW.1
  refine AMet.of mf_Pb_told rfl (Nat.le_of_ble_eq_true rfl) ?_
  refine aw_aload_n e_Pb_told_0 rfl ?_
  refine aw_getR e_Pb_told_1 fl_Pb_10 (hS.1 _ _ _ _ rfl) ?_
  refine aw_iload_n e_Pb_told_4 rfl ?_
  refine aw_cV1 e_Pb_told_5 ml_Pb_90 mf_Ma_hasPart mv_Ma_hasPart (c_Ma_hasPart hS (by decide) hC hW ?_)
  refine awB_ne e_Pb_told_8 (fun h8 => ?_) (fun h8 => ?_)
  · obtain ⟨p, hp, rfl⟩ := inR_nI h8
    have hv := hW.2.1 p hp
    have hen := ends_le (V := sM S) p
    refine aw_aload_n e_Pb_told_14 rfl ?_
    refine aw_getR e_Pb_told_15 fl_Pb_10 (hS.1 _ _ _ _ rfl) ?_
    refine aw_getR e_Pb_told_18 fl_Pb_80 (hS.1 _ _ _ _ rfl) ?_
    refine aw_iload_n e_Pb_told_21 rfl ?_
    refine aw_aald e_Pb_told_22 rfl (show _ < 12 by omega) (by omega) (hS.2.1 _ _ (by omega) (by omega)) ?_
    refine aw_ast3 e_Pb_told_23 ?_
    refine aw_iload_n e_Pb_told_24 rfl ?_
    by_cases hts : inR y 7
    · obtain ⟨j, hj, rfl⟩ := inR_nI hts
      have hj7 : j = 0 ∨ j = 1 ∨ j = 2 ∨ j = 3 ∨ j = 4 ∨ j = 5 ∨ j = 6 := by omega
      rcases hj7 with rfl | rfl | rfl | rfl | rfl | rfl | rfl
      · refine aw_tsIn e_Pb_told_25 (tgt := 68) (by decide) (by decide) rfl rfl ?_
        refine aw_aload_n e_Pb_told_68 rfl ?_
        refine aw_getE e_Pb_told_69 fl_Pb_93 (hC.2.1 _ _ (by omega) (by decide)) ?_
        have hq := hQ _ _ _ hCS KM_0
        unfold op_told at hq
        rw [if_pos h8, if_pos hts, ix_n (j := p) (by omega), ix_n (by decide)] at hq
        exact aw_iret e_Pb_told_72 rfl rfl hq
      · refine aw_tsIn e_Pb_told_25 (tgt := 73) (by decide) (by decide) rfl rfl ?_
        refine aw_aload_n e_Pb_told_73 rfl ?_
        refine aw_getE e_Pb_told_74 fl_Pb_96 (hC.2.1 _ _ (by omega) (by decide)) ?_
        have hq := hQ _ _ _ hCS KM_0
        unfold op_told at hq
        rw [if_pos h8, if_pos hts, ix_n (j := p) (by omega), ix_n (by decide)] at hq
        exact aw_iret e_Pb_told_77 rfl rfl hq
      · refine aw_tsIn e_Pb_told_25 (tgt := 78) (by decide) (by decide) rfl rfl ?_
        refine aw_aload_n e_Pb_told_78 rfl ?_
        refine aw_cV0 e_Pb_told_79 ml_Pb_99 mf_Pa_shareCode mv_Pa_shareCode (c_Pa_shareCode (hC.2.1 p 2 hp (by decide)) (hC.2.1 p 3 hp (by decide)) ?_)
        have hq := hQ _ _ _ hCS KM_0
        unfold op_told at hq
        rw [if_pos h8, if_pos hts, ix_n (j := p) (by omega), ix_n (by decide)] at hq
        exact aw_iret e_Pb_told_82 rfl rfl hq
      · refine aw_tsIn e_Pb_told_25 (tgt := 83) (by decide) (by decide) rfl rfl ?_
        refine aw_aload_n e_Pb_told_83 rfl ?_
        refine aw_getE e_Pb_told_84 fl_Pb_103 (hC.2.1 _ _ (by omega) (by decide)) ?_
        have hq := hQ _ _ _ hCS KM_0
        unfold op_told at hq
        rw [if_pos h8, if_pos hts, ix_n (j := p) (by omega), ix_n (by decide)] at hq
        exact aw_iret e_Pb_told_87 rfl rfl hq
      · refine aw_tsIn e_Pb_told_25 (tgt := 88) (by decide) (by decide) rfl rfl ?_
        refine aw_aload_n e_Pb_told_88 rfl ?_
        refine aw_getR e_Pb_told_89 fl_Pb_10 (hS.1 _ _ _ _ rfl) ?_
        refine aw_iload_n e_Pb_told_92 rfl ?_
        refine aw_cV1 e_Pb_told_93 ml_Pb_106 mf_Ma_endsOf mv_Ma_endsOf (c_Ma_endsOf hS (by decide) hC hW (by omega) ?_)
        have hq := hQ _ _ _ hCS KM_0
        unfold op_told at hq
        rw [if_pos h8, if_pos hts, ix_n (j := p) (by omega), ix_n (by decide)] at hq
        exact aw_iret e_Pb_told_96 rfl rfl hq
      · refine aw_tsIn e_Pb_told_25 (tgt := 97) (by decide) (by decide) rfl rfl ?_
        refine aw_aload_n e_Pb_told_97 rfl ?_
        refine aw_aload_n e_Pb_told_98 rfl ?_
        refine aw_getR e_Pb_told_99 fl_Pb_10 (hS.1 _ _ _ _ rfl) ?_
        refine aw_iload_n e_Pb_told_102 rfl ?_
        refine aw_cV1 e_Pb_told_103 ml_Pb_106 mf_Ma_endsOf mv_Ma_endsOf (c_Ma_endsOf hS (by decide) hC hW (p := p) (by omega) ?_)
        refine aw_cV1 e_Pb_told_106 ml_Pb_110 mf_Pa_wants mv_Pa_wants (c_Pa_wants (hC.2.1 p 0 hp (by decide)) hv.1 (by omega) ?_)
        refine awB_eq e_Pb_told_109 (fun h109 => ?_) (fun h109 => ?_)
        · refine aw_iconst (v := nI 0) e_Pb_told_116 (by decide) ?_
          have hq := hQ _ _ _ hCS KM_0
          unfold op_told at hq
          rw [if_pos h8, if_pos hts, ix_n (j := p) (by omega), ix_n (by decide)] at hq
          first
            | exact awB_1 e_Pb_told_117 h109 hq
            | exact awB_0 e_Pb_told_117 h109 hq
        · refine aw_iconst (v := nI 1) e_Pb_told_112 (by decide) ?_
          refine aw_goto e_Pb_told_113 ?_
          have hq := hQ _ _ _ hCS KM_0
          unfold op_told at hq
          rw [if_pos h8, if_pos hts, ix_n (j := p) (by omega), ix_n (by decide)] at hq
          first
            | exact awB_1 e_Pb_told_117 h109 hq
            | exact awB_0 e_Pb_told_117 h109 hq
      · refine aw_tsIn e_Pb_told_25 (tgt := 118) (by decide) (by decide) rfl rfl ?_
        refine aw_aload_n e_Pb_told_118 rfl ?_
        refine aw_cV0 e_Pb_told_119 ml_Pb_113 mf_Pa_shareWorth mv_Pa_shareWorth (c_Pa_shareWorth (hC.2.1 p 2 hp (by decide)) (hC.2.1 p 3 hp (by decide)) (by omega) (by omega) ?_)
        have hq := hQ _ _ _ hCS KM_0
        unfold op_told at hq
        rw [if_pos h8, if_pos hts, ix_n (j := p) (by omega), ix_n (by decide)] at hq
        exact aw_iret e_Pb_told_122 rfl rfl hq
    · refine aw_tsOut e_Pb_told_25 (tgt := 123) (by unfold inR at hts; omega) rfl ?_
      refine aw_ldc (v := -1000000001) e_Pb_told_123 kc_Pb_74 ?_
      have hq := hQ _ _ _ hCS KM_0
      unfold op_told at hq
      rw [if_pos h8, if_neg hts] at hq
      exact aw_iret e_Pb_told_125 rfl rfl hq
  · refine aw_ldc (v := -1000000001) e_Pb_told_11 kc_Pb_74 ?_
    have hq := hQ _ _ _ hCS KM_0
    unfold op_told at hq
    rw [if_neg h8] at hq
    exact aw_iret e_Pb_told_13 rfl rfl hq
def setP (V : Mc) (p : Nat) (g : Nat → Nat) : Mc := (nP V, nB V, nX V, nS V, (fun q f => if q = p then g f else pP V q f), V.2.2.2.2.2)
theorem setP_pP (V : Mc) (p : Nat) (g : Nat → Nat) (q f : Nat) : pP (setP V p g) q f = if q = p then g f else pP V q f := rfl
theorem CM_setP {I I2 : It} {R : Rt} {Z : Zt} {V : Mc} {p k : Nat} {g : Nat → Nat} (hk : k < 3) (h : CM I R Z k V) (hW : WF V) (h1 : ∀ t i, ¬ (t = 3 ∧ i = 12 * k + p) → I2 t i = I t i) (h2 : ∀ f, f < 5 → I2 3 (12 * k + p) f = nI (g f)) : CM I2 R Z k (setP V p g) := by
  obtain ⟨c1, c2, c3, c4, c5⟩ := h
  refine ⟨by rw [h1 2 k (by omega)]; exact c1, fun q f hq hf => ?_, fun b hb => by rw [h1 11 k (by omega)]; exact c3 b hb, fun b hb => by rw [h1 12 k (by omega)]; exact c4 b hb, fun j hj => ?_⟩
  · rw [setP_pP]
    by_cases e : q = p
    · rw [if_pos e, e]; exact h2 f hf
    · rw [if_neg e, h1 3 _ (by omega)]; exact c2 q f hq hf
  · obtain ⟨x, hx, ho⟩ := c5 j hj
    exact ⟨x, hx, ho.keep ⟨h1 7 x (by omega), h1 27 x (by omega)⟩ rfl rfl⟩
theorem WS_setP {V : Mc} (h : WS V) {p : Nat} {g : Nat → Nat} (hg : g 0 < 6 ∧ g 1 < 2 ∧ (1 ≤ g 2 ∧ g 2 ≤ 9) ∧ (1 ≤ g 3 ∧ g 3 ≤ 9) ∧ g 4 < 1000003) : WS (setP V p g) := by
  obtain ⟨⟨h1, h2, h3, h4⟩, h5, h6⟩ := h
  refine ⟨⟨h1, fun q hq => ?_, h3, h4⟩, h5, fun q hq => ?_⟩
  · simp only [setP_pP]
    by_cases e : q = p
    · simp only [if_pos e]; omega
    · simp only [if_neg e]; exact h2 q hq
  · simp only [setP_pP]
    by_cases e : q = p
    · simp only [if_pos e]; omega
    · simp only [if_neg e]; exact h6 q hq
def gSh (V : Mc) (p v : Nat) : Nat → Nat := fun f => if f = 2 then v / 10 else if f = 3 then v % 10 else pP V p f
def gHo (V : Mc) (p v : Nat) : Nat → Nat := fun f => if f = 4 then v else pP V p f
def op_set (S : AS) (p w v : Int32) : AS × Int32 := if inR p (nP (sM S)) then (if w = nI 2 ∧ isSh v then (setM S (setP (sM S) (ix p) (gSh (sM S) (ix p) (ix v))), nI (10 * pP (sM S) (ix p) 2 + pP (sM S) (ix p) 3)) else if w = nI 3 then (setM S (setP (sM S) (ix p) (gHo (sM S) (ix p) (wof v.toInt))), nI (pP (sM S) (ix p) 4)) else (S, -1000000001)) else (S, -1000000001)
theorem c_Pb_set {l : Launch} {E : En} {d : Nat} {I : It} {L : Lt} {R : Rt} {Z : Zt} {Q : Qt} {S : AS} (hCS : CS I R Z S) {x y z : Int32} (hQ : ∀ I2 L2 R2, CS I2 R2 Z (op_set S x y z).1 → KM I L R I2 L2 R2 → Q (some (vi (op_set S x y z).2)) I2 L2 R2 Z) : AMet l E (d + 2) M_Pb_set [vr 8 0, vi x, vi y, vi z] I L R Z Q := by
  have hS := hCS.1
  have hC := hCS.2.1
  have hW := hCS.2.2.1.1
  have hWn := hW.1
  refine AMet.of mf_Pb_set rfl (Nat.le_of_ble_eq_true rfl) ?_
  refine aw_aload_n e_Pb_set_0 rfl ?_
  refine aw_getR e_Pb_set_1 fl_Pb_10 (hS.1 _ _ _ _ rfl) ?_
  refine aw_iload_n e_Pb_set_4 rfl ?_
  refine aw_cV1 e_Pb_set_5 ml_Pb_90 mf_Ma_hasPart mv_Ma_hasPart (c_Ma_hasPart hS (by decide) hC hW ?_)
  refine awB_ne e_Pb_set_8 (fun h8 => ?_) (fun h8 => ?_)
  · obtain ⟨p, hp, rfl⟩ := inR_nI h8
    have hvv := hW.2.1 p hp
    refine aw_aload_n e_Pb_set_14 rfl ?_
    refine aw_getR e_Pb_set_15 fl_Pb_10 (hS.1 _ _ _ _ rfl) ?_
    refine aw_getR e_Pb_set_18 fl_Pb_80 (hS.1 _ _ _ _ rfl) ?_
    refine aw_iload_n e_Pb_set_21 rfl ?_
    refine aw_aald e_Pb_set_22 rfl (show _ < 12 by omega) (by omega) (hS.2.1 _ _ (by omega) (by omega)) ?_
    refine aw_ast4 e_Pb_set_23 ?_
    refine aw_iload_n e_Pb_set_25 rfl ?_
    refine aw_iconst (v := nI 2) e_Pb_set_26 (by decide) ?_
    refine aw_icmp_ne e_Pb_set_27 (fun h27 => ?_) (fun h27 => ?_)
    · refine aw_iload_n e_Pb_set_53 rfl ?_
      refine aw_iconst (v := nI 3) e_Pb_set_54 (by decide) ?_
      refine aw_icmp_ne e_Pb_set_55 (fun h55 => ?_) (fun h55 => ?_)
      · refine aw_ldc (v := -1000000001) e_Pb_set_77 kc_Pb_74 ?_
        have hq := hQ I L R
        unfold op_set at hq
        first
          | (rw [if_pos h8, if_neg (fun w => h27 w.1), if_neg h55] at hq; exact aw_iret e_Pb_set_79 rfl rfl (hq hCS KM_0))
          | (rw [if_pos h8, if_neg (fun w => h34 w.2), if_neg h55] at hq; exact aw_iret e_Pb_set_79 rfl rfl (hq hCS KM_0))
      · refine aw_aload e_Pb_set_58 rfl ?_
        refine aw_getE e_Pb_set_60 fl_Pb_103 (hC.2.1 _ _ (by omega) (by decide)) ?_
        refine aw_ist5 e_Pb_set_63 ?_
        refine aw_aload e_Pb_set_65 rfl ?_
        refine aw_iload_n e_Pb_set_67 rfl ?_
        refine aw_cS1 e_Pb_set_68 ml_Pb_124 mf_Pb_worthOf ms_Pb_worthOf (c_Pb_worthOf ?_)
        refine aw_putI e_Pb_set_71 fl_Pb_103 ?_
        refine aw_iload e_Pb_set_74 rfl ?_
        have hfr : ∀ t i, ¬ own 0 t i → (sI I 3 (12 * 0 + p) 4 (nI (wof z.toInt))) t i = I t i := fun t i hti => by
          unfold own at hti
          rw [sI_n (by omega)]
        have hC2 : CM (sI I 3 (12 * 0 + p) 4 (nI (wof z.toInt))) R Z 0 (setP (sM S) p (gHo (sM S) p (wof z.toInt))) := CM_setP (by decide) hC hW (fun t i hti => by rw [sI_n hti]) (fun f hf => by
          rw [sI_s]
          unfold upd gHo
          by_cases e3 : f = 4
          · rw [if_pos e3, if_pos e3]
          · rw [if_neg e3, if_neg e3]
            exact hC.2.1 p f hp hf)
        have hwl := wof_lt z.toInt
        have h9 := hCS.2.2.1.2.2 p hp
        have hws : WS (setP (sM S) p (gHo (sM S) p (wof z.toInt))) := WS_setP hCS.2.2.1 (show pP (sM S) p 0 < 6 ∧ pP (sM S) p 1 < 2 ∧ (1 ≤ pP (sM S) p 2 ∧ pP (sM S) p 2 ≤ 9) ∧ (1 ≤ pP (sM S) p 3 ∧ pP (sM S) p 3 ≤ 9) ∧ wof z.toInt < 1000003 by omega)
        have hq := hQ (sI I 3 (12 * 0 + p) 4 (nI (wof z.toInt))) L R
        unfold op_set at hq
        rw [if_pos h8, if_neg (fun w => absurd (w.1.symm.trans h55) (by decide)), if_pos h55, ix_n (j := p) (by omega)] at hq
        exact aw_iret e_Pb_set_76 rfl rfl (hq (CS_mach hCS hC2 hws hfr) (KM_own hfr))
    · refine aw_iload_n e_Pb_set_30 rfl ?_
      refine aw_cS1 e_Pb_set_31 ml_Pb_71 mf_Pb_isShare ms_Pb_isShare (c_Pb_isShare ?_)
      refine awB_eq e_Pb_set_34 (fun h34 => ?_) (fun h34 => ?_)
      · refine aw_iload_n e_Pb_set_53 rfl ?_
        refine aw_iconst (v := nI 3) e_Pb_set_54 (by decide) ?_
        refine aw_icmp_ne e_Pb_set_55 (fun h55 => ?_) (fun h55 => ?_)
        · refine aw_ldc (v := -1000000001) e_Pb_set_77 kc_Pb_74 ?_
          have hq := hQ I L R
          unfold op_set at hq
          first
            | (rw [if_pos h8, if_neg (fun w => h27 w.1), if_neg h55] at hq; exact aw_iret e_Pb_set_79 rfl rfl (hq hCS KM_0))
            | (rw [if_pos h8, if_neg (fun w => h34 w.2), if_neg h55] at hq; exact aw_iret e_Pb_set_79 rfl rfl (hq hCS KM_0))
        · refine aw_aload e_Pb_set_58 rfl ?_
          refine aw_getE e_Pb_set_60 fl_Pb_103 (hC.2.1 _ _ (by omega) (by decide)) ?_
          refine aw_ist5 e_Pb_set_63 ?_
          refine aw_aload e_Pb_set_65 rfl ?_
          refine aw_iload_n e_Pb_set_67 rfl ?_
          refine aw_cS1 e_Pb_set_68 ml_Pb_124 mf_Pb_worthOf ms_Pb_worthOf (c_Pb_worthOf ?_)
          refine aw_putI e_Pb_set_71 fl_Pb_103 ?_
          refine aw_iload e_Pb_set_74 rfl ?_
          have hfr : ∀ t i, ¬ own 0 t i → (sI I 3 (12 * 0 + p) 4 (nI (wof z.toInt))) t i = I t i := fun t i hti => by
            unfold own at hti
            rw [sI_n (by omega)]
          have hC2 : CM (sI I 3 (12 * 0 + p) 4 (nI (wof z.toInt))) R Z 0 (setP (sM S) p (gHo (sM S) p (wof z.toInt))) := CM_setP (by decide) hC hW (fun t i hti => by rw [sI_n hti]) (fun f hf => by
            rw [sI_s]
            unfold upd gHo
            by_cases e3 : f = 4
            · rw [if_pos e3, if_pos e3]
            · rw [if_neg e3, if_neg e3]
              exact hC.2.1 p f hp hf)
          have hwl := wof_lt z.toInt
          have h9 := hCS.2.2.1.2.2 p hp
          have hws : WS (setP (sM S) p (gHo (sM S) p (wof z.toInt))) := WS_setP hCS.2.2.1 (show pP (sM S) p 0 < 6 ∧ pP (sM S) p 1 < 2 ∧ (1 ≤ pP (sM S) p 2 ∧ pP (sM S) p 2 ≤ 9) ∧ (1 ≤ pP (sM S) p 3 ∧ pP (sM S) p 3 ≤ 9) ∧ wof z.toInt < 1000003 by omega)
          have hq := hQ (sI I 3 (12 * 0 + p) 4 (nI (wof z.toInt))) L R
          unfold op_set at hq
          rw [if_pos h8, if_neg (fun w => absurd (w.1.symm.trans h55) (by decide)), if_pos h55, ix_n (j := p) (by omega)] at hq
          exact aw_iret e_Pb_set_76 rfl rfl (hq (CS_mach hCS hC2 hws hfr) (KM_own hfr))
      · obtain ⟨v, hv0, rfl⟩ := inR_nI (x := z) (n := 100) ⟨by have := h34.1; omega, by have := h34.2.1; omega⟩
        have hT4 := nT (n := v) (by omega)
        have hv : 11 ≤ v ∧ v ≤ 99 ∧ ¬ v % 10 = 0 := by have q1 := h34.1; have q2 := h34.2.1; have q3 := h34.2.2; omega
        refine aw_aload e_Pb_set_37 rfl ?_
        refine aw_cV0 e_Pb_set_39 ml_Pb_99 mf_Pa_shareCode mv_Pa_shareCode (c_Pa_shareCode (hC.2.1 p 2 hp (by decide)) (hC.2.1 p 3 hp (by decide)) ?_)
        refine aw_ist5 e_Pb_set_42 ?_
        refine aw_aload e_Pb_set_44 rfl ?_
        refine aw_iload_n e_Pb_set_46 rfl ?_
        refine aw_cV1 e_Pb_set_47 ml_Pb_120 mf_Pa_takeShare mv_Pa_takeShare (c_Pa_takeShare (v := v) (by omega) ?_)
        refine aw_iload e_Pb_set_50 rfl ?_
        have hfr : ∀ t i, ¬ own 0 t i → (sI (sI I 3 (12 * 0 + p) 2 (nI (v / 10))) 3 (12 * 0 + p) 3 (nI (v % 10))) t i = I t i := fun t i hti => by
          unfold own at hti
          rw [sI_n (by omega), sI_n (by omega)]
        have hC2 : CM (sI (sI I 3 (12 * 0 + p) 2 (nI (v / 10))) 3 (12 * 0 + p) 3 (nI (v % 10))) R Z 0 (setP (sM S) p (gSh (sM S) p v)) := CM_setP (by decide) hC hW (fun t i hti => by rw [sI_n hti, sI_n hti]) (fun f hf => by
          rw [sI_s]
          unfold upd
          rw [sI_s]
          unfold upd gSh
          by_cases e3 : f = 3
          · rw [if_pos e3, if_neg (by omega), if_pos e3]
          · rw [if_neg e3]
            by_cases e2 : f = 2
            · rw [if_pos e2, if_pos e2]
            · rw [if_neg e2, if_neg e2, if_neg e3]
              exact hC.2.1 p f hp hf)
        have hws : WS (setP (sM S) p (gSh (sM S) p v)) := WS_setP hCS.2.2.1 (show pP (sM S) p 0 < 6 ∧ pP (sM S) p 1 < 2 ∧ (1 ≤ v / 10 ∧ v / 10 ≤ 9) ∧ (1 ≤ v % 10 ∧ v % 10 ≤ 9) ∧ pP (sM S) p 4 < 1000003 by omega)
        have hq := hQ (sI (sI I 3 (12 * 0 + p) 2 (nI (v / 10))) 3 (12 * 0 + p) 3 (nI (v % 10))) L R
        unfold op_set at hq
        rw [if_pos h8, if_pos ⟨h27, h34⟩, ix_n (j := p) (by omega), ix_n (j := v) (by omega)] at hq
        exact aw_iret e_Pb_set_52 rfl rfl (hq (CS_mach hCS hC2 hws hfr) (KM_own hfr))
  · refine aw_ldc (v := -1000000001) e_Pb_set_11 kc_Pb_74 ?_
    have hq := hQ I L R
    unfold op_set at hq
    first
      | (rw [if_neg h8] at hq; exact aw_iret e_Pb_set_13 rfl rfl (hq hCS KM_0))
