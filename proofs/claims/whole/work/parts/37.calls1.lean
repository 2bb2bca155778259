/-! ===== the calls, 1 ===== -/
theorem KM_0 {I : It} {L : Lt} {R : Rt} : KM I L R I L R := fun _ _ _ => ⟨rfl, rfl, rfl⟩
def op_whole (S : AS) : AS × Int32 := (S, bI (whole (sM S) = true))
noncomputable def op_answers (S : AS) : AS × Int32 := (S, ansV (sM S))
theorem KM_fr {I I2 : It} {L L2 : Lt} {R R2 : Rt} {a : Nat} (h1 : frJ a I I2) (h2 : frL a L L2) (h3 : frR a R R2) : KM I L R I2 L2 R2 := fun t i ht => ⟨h1 t i (by omega), h2 t i (by omega), h3 t i (by omega)⟩
theorem RG_fr {R R2 : Rt} {a b : Nat} {ρ : Nat → Nat} (h : RG R b ρ) (hf : frR a R R2) (hne : b ≠ a) : RG R2 b ρ := ⟨fun r hr => by rw [hf 16 b (by omega)]; exact h.1 r hr, h.2⟩
/-- after an answer was sought -/
theorem CS_ans {I I2 : It} {R R2 : Rt} {Z : Zt} {S : AS} {a : Nat} {ρ : Nat → Nat} (h : CS I R Z S) (ha : a < 2) (hG : RG R2 a ρ) (h1 : frJ a I I2) (h3 : frR a R R2) : CS I2 R2 Z S := by
  obtain ⟨ρ0, hG0⟩ := h.2.2.2.2.2.2.2.2.2.1
  obtain ⟨ρ1, hG1⟩ := h.2.2.2.2.2.2.2.2.2.2
  refine h.keep (fun t i hti => h1 t i (by unfold scr at hti; omega)) (fun t i hti => h3 t i (by omega)) (Sta_fr h.1 h3) ?_ ?_
  · by_cases e : a = 0
    · exact ⟨ρ, e ▸ hG⟩
    · exact ⟨ρ0, RG_fr hG0 h3 (by omega)⟩
  · by_cases e : a = 1
    · exact ⟨ρ, e ▸ hG⟩
    · exact ⟨ρ1, RG_fr hG1 h3 (by omega)⟩
theorem CS_G {I : It} {R : Rt} {Z : Zt} {S : AS} (h : CS I R Z S) : (∃ ρ, RG R 0 ρ) ∧ (∃ ρ, RG R 1 ρ) := ⟨h.2.2.2.2.2.2.2.2.2.1, h.2.2.2.2.2.2.2.2.2.2⟩
theorem c_Pb_whole {l : Launch} {E : En} {d : Nat} {I : It} {L : Lt} {R : Rt} {Z : Zt} {Q : Qt} {S : AS} (hCS : CS I R Z S) (hQ : ∀ I2 L2 R2, CS I2 R2 Z (op_whole S).1 → KM I L R I2 L2 R2 → Q (some (vi (op_whole S).2)) I2 L2 R2 Z) : AMet l E (d + 2) M_Pb_whole [vr 8 0] I L R Z Q := by
  have hS := hCS.1
  have hC := hCS.2.1
  have hW := hCS.2.2.1.1
  have hWn := hW.1
  refine AMet.of mf_Pb_whole rfl (Nat.le_of_ble_eq_true rfl) ?_
  refine aw_aload_n e_Pb_whole_0 rfl ?_
  refine aw_getR e_Pb_whole_1 fl_Pb_10 (hS.1 _ _ _ _ rfl) ?_
  refine aw_cV0 e_Pb_whole_4 ml_Pb_149 mf_Ma_isWhole mv_Ma_isWhole (c_Ma_isWhole hS (by decide) hC hW ?_)
  refine awB_eq e_Pb_whole_7 (fun h7 => ?_) (fun h7 => ?_)
  · refine aw_iconst (v := nI 0) e_Pb_whole_14 (by decide) ?_
    first
      | exact awB_1 e_Pb_whole_15 h7 (hQ _ _ _ hCS KM_0)
      | exact awB_0 e_Pb_whole_15 h7 (hQ _ _ _ hCS KM_0)
  · refine aw_iconst (v := nI 1) e_Pb_whole_10 (by decide) ?_
    refine aw_goto e_Pb_whole_11 ?_
    first
      | exact awB_1 e_Pb_whole_15 h7 (hQ _ _ _ hCS KM_0)
      | exact awB_0 e_Pb_whole_15 h7 (hQ _ _ _ hCS KM_0)
theorem c_Pb_answers {l : Launch} {E : En} {d : Nat} {I : It} {L : Lt} {R : Rt} {Z : Zt} {Q : Qt} {S : AS} (hCS : CS I R Z S) (hQ : ∀ I2 L2 R2, CS I2 R2 Z (op_answers S).1 → KM I L R I2 L2 R2 → Q (some (vi (op_answers S).2)) I2 L2 R2 Z) : AMet l E (d + 6) M_Pb_answers [vr 8 0] I L R Z Q := by
  have hS := hCS.1
  have hC := hCS.2.1
  have hW := hCS.2.2.1.1
  have hWn := hW.1
  obtain ⟨ρ0, hG0⟩ := (CS_G hCS).1
  refine AMet.of mf_Pb_answers rfl (Nat.le_of_ble_eq_true rfl) ?_
  refine aw_aload_n e_Pb_answers_0 rfl ?_
  refine aw_getR e_Pb_answers_1 fl_Pb_25 (hS.1 _ _ _ _ rfl) ?_
  refine aw_aload_n e_Pb_answers_4 rfl ?_
  refine aw_getR e_Pb_answers_5 fl_Pb_10 (hS.1 _ _ _ _ rfl) ?_
  refine aw_cV1 e_Pb_answers_8 ml_Pb_153 mf_An_solve mv_An_solve (c_An_solve hS hG0 (by decide) hC hW (fun I2 L2 R2 ρ2 hG2 hj2 hi2 ha2 hg2 hr2 => ?_))
  exact aw_iret e_Pb_answers_11 rfl rfl (hQ _ _ _ (CS_ans hCS (by decide) hG2 hj2 hr2) (KM_fr hj2 hg2 hr2))
def ix (x : Int32) : Nat := x.toInt.toNat
theorem ix_n {j : Nat} (h : j < 2147483648) : ix (nI j) = j := by unfold ix; rw [nT h]; rfl
theorem CS_mach {I I2 : It} {R : Rt} {Z : Zt} {S : AS} {V : Mc} (h : CS I R Z S) (hV : CM I2 R Z 0 V) (hW : WS V) (hI : ∀ t i, ¬ own 0 t i → I2 t i = I t i) : CS I2 R Z (setM S V) :=
  ⟨h.1, hV, hW, (h.2.2.2.keep (fun t i hti => hI t i (fun z => hti (Or.inr z))) (fun _ _ _ => rfl) (CS_G h).1 (CS_G h).2 : CO I2 R Z S)⟩
theorem KM_own {I I2 : It} {L : Lt} {R : Rt} (hI : ∀ t i, ¬ own 0 t i → I2 t i = I t i) : KM I L R I2 L R := fun t i ht => ⟨hI t i (by unfold own; omega), rfl, rfl⟩
def op_as (S : AS) (p k : Int32) : AS × Int32 := (S, if inR p (nP (sM S)) ∧ inR k 6 then (if isOfN (pP (sM S) (ix p) 0) (ix k) = true then nI (pP (sM S) (ix p) 4) else -1000000012) else -1000000001)
def addB (V : Mc) (f t : Nat) : Mc := (nP V, nB V + 1, nX V, nS V, V.2.2.2.2.1, (fun b => if b = nB V then f else bF V b), (fun b => if b = nB V then t else bT V b), V.2.2.2.2.2.2.2)
def op_bond (S : AS) (f t : Int32) : AS × Int32 := if inR f (nP (sM S)) ∧ inR t (nP (sM S)) ∧ ¬ f = t then (if nB (sM S) < 12 then (setM S (addB (sM S) (ix f) (ix t)), nI (nB (sM S))) else (S, -1000000003)) else (S, -1000000001)
theorem WS_addB {V : Mc} {f t : Nat} (h : WS V) (hf : f < nP V) (ht : t < nP V) (hne : f ≠ t) (hb : nB V < 12) : WS (addB V f t) := by
  obtain ⟨⟨h1, h2, h3, h4⟩, h5, h6⟩ := h
  refine ⟨⟨⟨h1.1, hb, h1.2.2⟩, h2, fun b hbb => ?_, h4⟩, h5, h6⟩
  show (if b = nB V then f else bF V b) < nP V ∧ (if b = nB V then t else bT V b) < nP V ∧ (if b = nB V then f else bF V b) ≠ (if b = nB V then t else bT V b)
  have hbb2 : b < nB V + 1 := hbb
  by_cases e : b = nB V
  · rw [if_pos e, if_pos e]
    exact ⟨hf, ht, hne⟩
  · rw [if_neg e, if_neg e]
    exact h3 b (by omega)
theorem CM_addB {I : It} {R : Rt} {Z : Zt} {V : Mc} {f t : Nat} (h : CM I R Z 0 V) : CM (sI (sI (sI I 11 0 (nB V) (nI f)) 12 0 (nB V) (nI t)) 2 0 5 (nI (nB V + 1))) R Z 0 (addB V f t) := by
  obtain ⟨h1, h2, h3, h4, h5⟩ := h
  refine ⟨⟨?_, ?_, ?_, ?_⟩, fun p g hp hg => ?_, fun b hb => ?_, fun b hb => ?_, fun j hj => ?_⟩
  · rw [sI_s, upd, if_neg (by decide), sI_n (by omega), sI_n (by omega)]; exact h1.1
  · rw [sI_s, upd, if_pos rfl]; rfl
  · rw [sI_s, upd, if_neg (by decide), sI_n (by omega), sI_n (by omega)]; exact h1.2.2.1
  · rw [sI_s, upd, if_neg (by decide), sI_n (by omega), sI_n (by omega)]; exact h1.2.2.2
  · rw [sI_n (by omega), sI_n (by omega), sI_n (by omega)]; exact h2 p g hp hg
  · rw [sI_n (by omega), sI_n (by omega), sI_s]
    unfold upd
    show _ = nI (if b = nB V then f else bF V b)
    have hbb2 : b < nB V + 1 := hb
    by_cases e : b = nB V
    · rw [if_pos e, if_pos e]
    · rw [if_neg e, if_neg e]; exact h3 b (by omega)
  · rw [sI_n (by omega), sI_s]
    unfold upd
    show _ = nI (if b = nB V then t else bT V b)
    have hbb2 : b < nB V + 1 := hb
    by_cases e : b = nB V
    · rw [if_pos e, if_pos e]
    · rw [if_neg e, if_neg e, sI_n (by omega)]; exact h4 b (by omega)
  · obtain ⟨x, hx, ho⟩ := h5 j hj
    exact ⟨x, hx, ho.keep ⟨by rw [sI_n (by omega), sI_n (by omega), sI_n (by omega)], by rw [sI_n (by omega), sI_n (by omega), sI_n (by omega)]⟩ rfl rfl⟩
theorem c_Pb_as {l : Launch} {E : En} {d : Nat} {I : It} {L : Lt} {R : Rt} {Z : Zt} {Q : Qt} {S : AS} (hCS : CS I R Z S) {x y : Int32} (hQ : ∀ I2 L2 R2, CS I2 R2 Z (op_as S x y).1 → KM I L R I2 L2 R2 → Q (some (vi (op_as S x y).2)) I2 L2 R2 Z) : AMet l E (d + 1) M_Pb_as [vr 8 0, vi x, vi y] I L R Z Q := by
  have hS := hCS.1
  have hC := hCS.2.1
  have hW := hCS.2.2.1.1
  have hWn := hW.1
  refine AMet.of mf_Pb_as rfl (Nat.le_of_ble_eq_true rfl) ?_
  refine aw_aload_n e_Pb_as_0 rfl ?_
  refine aw_getR e_Pb_as_1 fl_Pb_10 (hS.1 _ _ _ _ rfl) ?_
  refine aw_iload_n e_Pb_as_4 rfl ?_
  refine aw_cV1 e_Pb_as_5 ml_Pb_90 mf_Ma_hasPart mv_Ma_hasPart (c_Ma_hasPart hS (by decide) hC hW ?_)
  refine awB_eq e_Pb_as_8 (fun h8 => ?_) (fun h8 => ?_)
  · refine aw_ldc (v := -1000000001) e_Pb_as_18 kc_Pb_74 ?_
    have hq := hQ _ _ _ hCS KM_0
    unfold op_as at hq
    first
      | (rw [if_neg (fun z => h8 z.1)] at hq; exact aw_iret e_Pb_as_20 rfl rfl hq)
      | (rw [if_neg (fun z => h15 z.2)] at hq; exact aw_iret e_Pb_as_20 rfl rfl hq)
  · refine aw_iload_n e_Pb_as_11 rfl ?_
    refine aw_cS1 e_Pb_as_12 ml_Pb_67 mf_Pb_isKind ms_Pb_isKind (c_Pb_isKind ?_)
    refine awB_ne e_Pb_as_15 (fun h15 => ?_) (fun h15 => ?_)
    · obtain ⟨p, hp, rfl⟩ := inR_nI h8
      obtain ⟨k, hk, rfl⟩ := inR_nI h15
      have hv := hW.2.1 p hp
      refine aw_aload_n e_Pb_as_21 rfl ?_
      refine aw_getR e_Pb_as_22 fl_Pb_10 (hS.1 _ _ _ _ rfl) ?_
      refine aw_getR e_Pb_as_25 fl_Pb_80 (hS.1 _ _ _ _ rfl) ?_
      refine aw_iload_n e_Pb_as_28 rfl ?_
      refine aw_aald e_Pb_as_29 rfl (show _ < 12 by omega) (by omega) (hS.2.1 _ _ (by omega) (by omega)) ?_
      refine aw_ast3 e_Pb_as_30 ?_
      refine aw_aload_n e_Pb_as_31 rfl ?_
      refine aw_iload_n e_Pb_as_32 rfl ?_
      refine aw_cV1 e_Pb_as_33 ml_Pb_116 mf_Pa_isOf mv_Pa_isOf (c_Pa_isOf (hC.2.1 p 0 hp (by decide)) (by omega) hk ?_)
      refine awB_eq e_Pb_as_36 (fun h36 => ?_) (fun h36 => ?_)
      · refine aw_ldc (v := -1000000012) e_Pb_as_46 kc_Pb_119 ?_
        have hq := hQ _ _ _ hCS KM_0
        unfold op_as at hq
        rw [if_pos ⟨h8, h15⟩, ix_n (j := p) (by omega), ix_n (j := k) (by omega)] at hq
        first
          | (rw [if_pos h36] at hq; exact aw_iret e_Pb_as_48 rfl rfl hq)
          | (rw [if_neg h36] at hq; exact aw_iret e_Pb_as_48 rfl rfl hq)
      · refine aw_aload_n e_Pb_as_39 rfl ?_
        refine aw_getE e_Pb_as_40 fl_Pb_103 (hC.2.1 _ _ (by omega) (by decide)) ?_
        refine aw_goto e_Pb_as_43 ?_
        have hq := hQ _ _ _ hCS KM_0
        unfold op_as at hq
        rw [if_pos ⟨h8, h15⟩, ix_n (j := p) (by omega), ix_n (j := k) (by omega)] at hq
        first
          | (rw [if_pos h36] at hq; exact aw_iret e_Pb_as_48 rfl rfl hq)
          | (rw [if_neg h36] at hq; exact aw_iret e_Pb_as_48 rfl rfl hq)
    · refine aw_ldc (v := -1000000001) e_Pb_as_18 kc_Pb_74 ?_
      have hq := hQ _ _ _ hCS KM_0
      unfold op_as at hq
      first
        | (rw [if_neg (fun z => h8 z.1)] at hq; exact aw_iret e_Pb_as_20 rfl rfl hq)
        | (rw [if_neg (fun z => h15 z.2)] at hq; exact aw_iret e_Pb_as_20 rfl rfl hq)
theorem c_Pb_bond {l : Launch} {E : En} {d : Nat} {I : It} {L : Lt} {R : Rt} {Z : Zt} {Q : Qt} {S : AS} (hCS : CS I R Z S) {x y : Int32} (hQ : ∀ I2 L2 R2, CS I2 R2 Z (op_bond S x y).1 → KM I L R I2 L2 R2 → Q (some (vi (op_bond S x y).2)) I2 L2 R2 Z) : AMet l E (d + 1) M_Pb_bond [vr 8 0, vi x, vi y] I L R Z Q := by
  have hS := hCS.1
  have hC := hCS.2.1
  have hW := hCS.2.2.1.1
  have hWn := hW.1
  refine AMet.of mf_Pb_bond rfl (Nat.le_of_ble_eq_true rfl) ?_
  refine aw_aload_n e_Pb_bond_0 rfl ?_
  refine aw_getR e_Pb_bond_1 fl_Pb_10 (hS.1 _ _ _ _ rfl) ?_
  refine aw_iload_n e_Pb_bond_4 rfl ?_
  refine aw_cV1 e_Pb_bond_5 ml_Pb_90 mf_Ma_hasPart mv_Ma_hasPart (c_Ma_hasPart hS (by decide) hC hW ?_)
  refine awB_eq e_Pb_bond_8 (fun h8 => ?_) (fun h8 => ?_)
  · refine aw_ldc (v := -1000000001) e_Pb_bond_27 kc_Pb_74 ?_
    have hq := hQ I L R
    unfold op_bond at hq
    first
      | (rw [if_neg (fun z => h8 z.1)] at hq; exact aw_iret e_Pb_bond_29 rfl rfl (hq hCS KM_0))
      | (rw [if_neg (fun z => h19 z.2.1)] at hq; exact aw_iret e_Pb_bond_29 rfl rfl (hq hCS KM_0))
      | (rw [if_neg (fun z => z.2.2 h24)] at hq; exact aw_iret e_Pb_bond_29 rfl rfl (hq hCS KM_0))
  · refine aw_aload_n e_Pb_bond_11 rfl ?_
    refine aw_getR e_Pb_bond_12 fl_Pb_10 (hS.1 _ _ _ _ rfl) ?_
    refine aw_iload_n e_Pb_bond_15 rfl ?_
    refine aw_cV1 e_Pb_bond_16 ml_Pb_90 mf_Ma_hasPart mv_Ma_hasPart (c_Ma_hasPart hS (by decide) hC hW ?_)
    refine awB_eq e_Pb_bond_19 (fun h19 => ?_) (fun h19 => ?_)
    · refine aw_ldc (v := -1000000001) e_Pb_bond_27 kc_Pb_74 ?_
      have hq := hQ I L R
      unfold op_bond at hq
      first
        | (rw [if_neg (fun z => h8 z.1)] at hq; exact aw_iret e_Pb_bond_29 rfl rfl (hq hCS KM_0))
        | (rw [if_neg (fun z => h19 z.2.1)] at hq; exact aw_iret e_Pb_bond_29 rfl rfl (hq hCS KM_0))
        | (rw [if_neg (fun z => z.2.2 h24)] at hq; exact aw_iret e_Pb_bond_29 rfl rfl (hq hCS KM_0))
    · refine aw_iload_n e_Pb_bond_22 rfl ?_
      refine aw_iload_n e_Pb_bond_23 rfl ?_
      refine aw_icmp_ne e_Pb_bond_24 (fun h24 => ?_) (fun h24 => ?_)
      · obtain ⟨p, hp, rfl⟩ := inR_nI h8
        obtain ⟨q, hk, rfl⟩ := inR_nI h19
        refine aw_aload_n e_Pb_bond_30 rfl ?_
        refine aw_getR e_Pb_bond_31 fl_Pb_10 (hS.1 _ _ _ _ rfl) ?_
        refine aw_getE e_Pb_bond_34 fl_Pb_127 hC.1.2.1 ?_
        refine aw_bipush (v := nI 12) e_Pb_bond_37 (by decide) ?_
        refine awN_icmp_lt e_Pb_bond_39 (by omega) (by omega) (fun h39 => ?_) (fun h39 => ?_)
        · refine aw_aload_n e_Pb_bond_45 rfl ?_
          refine aw_getR e_Pb_bond_46 fl_Pb_10 (hS.1 _ _ _ _ rfl) ?_
          refine aw_getR e_Pb_bond_49 fl_Pb_130 (hS.1 _ _ _ _ rfl) ?_
          refine aw_aload_n e_Pb_bond_52 rfl ?_
          refine aw_getR e_Pb_bond_53 fl_Pb_10 (hS.1 _ _ _ _ rfl) ?_
          refine aw_getE e_Pb_bond_56 fl_Pb_127 hC.1.2.1 ?_
          refine aw_iload_n e_Pb_bond_59 rfl ?_
          refine aw_iast e_Pb_bond_60 rfl (show _ < 12 by omega) (by omega) ?_
          refine aw_aload_n e_Pb_bond_61 rfl ?_
          refine aw_getR e_Pb_bond_62 fl_Pb_10 (hS.1 _ _ _ _ rfl) ?_
          refine aw_getR e_Pb_bond_65 fl_Pb_133 (hS.1 _ _ _ _ rfl) ?_
          refine aw_aload_n e_Pb_bond_68 rfl ?_
          refine aw_getR e_Pb_bond_69 fl_Pb_10 (hS.1 _ _ _ _ rfl) ?_
          refine aw_getE e_Pb_bond_72 fl_Pb_127 hC.1.2.1 ?_
          refine aw_iload_n e_Pb_bond_75 rfl ?_
          refine aw_iast e_Pb_bond_76 rfl (show _ < 12 by omega) (by omega) ?_
          refine aw_aload_n e_Pb_bond_77 rfl ?_
          refine aw_getR e_Pb_bond_78 fl_Pb_10 (hS.1 _ _ _ _ rfl) ?_
          refine aw_dup e_Pb_bond_81 rfl ?_
          refine aw_getE e_Pb_bond_82 fl_Pb_127 hC.1.2.1 ?_
          refine aw_iconst (v := nI 1) e_Pb_bond_85 (by decide) ?_
          first | refine awN_iadd e_Pb_bond_86 ?_ | refine aw_iadd e_Pb_bond_86 ?_
          refine aw_putI e_Pb_bond_87 fl_Pb_127 ?_
          have hC2 := CM_addB (f := p) (t := q) hC
          have hC := hC2
          refine aw_aload_n e_Pb_bond_90 rfl ?_
          refine aw_getR e_Pb_bond_91 fl_Pb_10 (hS.1 _ _ _ _ rfl) ?_
          refine aw_getE e_Pb_bond_94 fl_Pb_127 hC.1.2.1 ?_
          refine aw_iconst (v := nI 1) e_Pb_bond_97 (by decide) ?_
          refine awN_isub e_Pb_bond_98 (show 1 ≤ nB (sM S) + 1 by omega) ?_
          have hq := hQ (sI (sI (sI I 11 0 (nB (sM S)) (nI p)) 12 0 (nB (sM S)) (nI q)) 2 0 5 (nI (nB (sM S) + 1))) L R
          unfold op_bond at hq
          rw [if_pos ⟨h8, h19, h24⟩, if_pos (by omega), ix_n (by omega), ix_n (by omega)] at hq
          have hfr : ∀ t i, ¬ own 0 t i → sI (sI (sI I 11 0 (nB (sM S)) (nI p)) 12 0 (nB (sM S)) (nI q)) 2 0 5 (nI (nB (sM S) + 1)) t i = I t i := fun t i hti => by
            unfold own at hti
            rw [sI_n (by omega), sI_n (by omega), sI_n (by omega)]
          exact aw_iret e_Pb_bond_99 rfl rfl (hq (CS_mach hCS hC2 (WS_addB hCS.2.2.1 hp hk (fun z => h24 (by rw [z])) (by omega)) hfr) (KM_own hfr))
        · refine aw_ldc (v := -1000000003) e_Pb_bond_42 kc_Pb_79 ?_
          have hq := hQ I L R
          unfold op_bond at hq
          rw [if_pos ⟨h8, h19, h24⟩, if_neg (by omega)] at hq
          exact aw_iret e_Pb_bond_44 rfl rfl (hq hCS KM_0)
      · refine aw_ldc (v := -1000000001) e_Pb_bond_27 kc_Pb_74 ?_
        have hq := hQ I L R
        unfold op_bond at hq
        first
          | (rw [if_neg (fun z => h8 z.1)] at hq; exact aw_iret e_Pb_bond_29 rfl rfl (hq hCS KM_0))
          | (rw [if_neg (fun z => h19 z.2.1)] at hq; exact aw_iret e_Pb_bond_29 rfl rfl (hq hCS KM_0))
          | (rw [if_neg (fun z => z.2.2 h24)] at hq; exact aw_iret e_Pb_bond_29 rfl rfl (hq hCS KM_0))
