/-! ===== the calls, 6 ===== -/
def countV (S : AS) (w : Nat) : Int32 := if w = 0 then nI (nP (sM S)) else if w = 1 then nI (nB (sM S)) else if w = 2 then nI (cnt (fun p => pP (sM S) p 0 == 1) (nP (sM S))) else if w = 3 then nI (sumS (sM S) (nP (sM S))) else if w = 4 then nI (nX (sM S)) else if w = 5 then nI (sW S).1 else if w = 6 then nI (sT S).1 else nI (nS (sM S))
def op_count (S : AS) (x : Int32) : AS × Int32 := (S, if inR x 8 then countV S (ix x) else -1000000001)
theorem fagI_can {V : Mc} (hW : WF V) (m : Nat) : fagI V m = -1 ↔ canB V m = true := by
  rw [← fag_can]
  unfold fagI
  have hn := hW.1.1
  by_cases h : fag V m < nP V
  · rw [if_pos h]
    refine ⟨fun z => ?_, fun z => absurd h z⟩
    have e := congrArg Int32.toInt z
    rw [nT (by omega)] at e
    exact absurd e (show ¬ ((fag V m : Nat) : Int) = -1 by omega)
  · rw [if_neg h]
    exact ⟨fun _ => h, fun _ => rfl⟩
def op_can (S : AS) (x : Int32) : AS × Int32 := (S, if inR x (2 ^ nB (sM S)) then (if whole (sM S) = true then bI (canB (sM S) (ix x) = true) else -1000000002) else -1000000001)
def op_trim (S : AS) (x : Int32) : AS × Int32 := if inR x ((sT S).1 + 1) then ((sM S, sG S, sK S, (ix x, (sT S).2), S.2.2.2.2), x) else (S, -1000000001)
def op_tell (S : AS) (x : Int32) : AS × Int32 := if (sW S).1 < 60 then ((sM S, sG S, sK S, sT S, sH S, sL2 S, ((sW S).1 + 1, fun j => if j = (sW S).1 then x else (sW S).2 j)), nI ((sW S).1 + 1)) else (S, -1000000003)
def op_back (S : AS) : AS × Int32 := if sK S = 1 then (setM S (sG S), nI (nS (sG S))) else (S, -1000000002)
theorem CS_machR {I I2 : It} {R R2 : Rt} {Z : Zt} {S : AS} {V : Mc} (h : CS I R Z S) (hV : CM I2 R2 Z 0 V) (hW : WS V) (hI : ∀ t i, ¬ own 0 t i → I2 t i = I t i) (hR : ∀ t i, ¬ (t = 13 ∧ i = 0) → R2 t i = R t i) : CS I2 R2 Z (setM S V) := by
  obtain ⟨ρ0, hG0⟩ := (CS_G h).1
  obtain ⟨ρ1, hG1⟩ := (CS_G h).2
  exact ⟨h.1.keep (fun t i h13 _ _ => hR t i (fun z => h13 z.1)), hV, hW, (h.2.2.2.keep (fun t i hti => hI t i (fun z => hti (Or.inr z))) (fun t i hti => hR t i (by omega)) ⟨ρ0, ⟨fun r hr => by rw [hR 16 0 (by omega)]; exact hG0.1 r hr, hG0.2⟩⟩ ⟨ρ1, ⟨fun r hr => by rw [hR 16 1 (by omega)]; exact hG1.1 r hr, hG1.2⟩⟩ : CO I2 R2 Z S)⟩
theorem KM_ownR {I I2 : It} {L : Lt} {R R2 : Rt} {k : Nat} (hI : ∀ t i, ¬ own k t i → I2 t i = I t i) (hR : ∀ t i, ¬ (t = 13 ∧ i = k) → R2 t i = R t i) : KM I L R I2 L R2 := fun t i ht => ⟨hI t i (by unfold own; omega), rfl, hR t i (by omega)⟩
theorem c_Pb_count {l : Launch} {E : En} {d : Nat} {I : It} {L : Lt} {R : Rt} {Z : Zt} {Q : Qt} {S : AS} (hCS : CS I R Z S) {x : Int32} (hQ : ∀ I2 L2 R2, CS I2 R2 Z (op_count S x).1 → KM I L R I2 L2 R2 → Q (some (vi (op_count S x).2)) I2 L2 R2 Z) : AMet l E (d + 3) M_Pb_count [vr 8 0, vi x] I L R Z Q := by
  have hS := hCS.1
  have hC := hCS.2.1
  have hW := hCS.2.2.1.1
  have hWn := hW.1
  refine AMet.of mf_Pb_count rfl (Nat.le_of_ble_eq_true rfl) ?_
  refine aw_iload_n e_Pb_count_0 rfl ?_
  by_cases hts : inR x 8
  · obtain ⟨j, hj, rfl⟩ := inR_nI hts
    have hj7 : j = 0 ∨ j = 1 ∨ j = 2 ∨ j = 3 ∨ j = 4 ∨ j = 5 ∨ j = 6 ∨ j = 7 := by omega
    rcases hj7 with rfl | rfl | rfl | rfl | rfl | rfl | rfl | rfl
    · refine aw_tsIn e_Pb_count_1 (tgt := 48) (by decide) (by decide) rfl rfl ?_
      refine aw_aload_n e_Pb_count_48 rfl ?_
      refine aw_getR e_Pb_count_49 fl_Pb_10 (hS.1 _ _ _ _ rfl) ?_
      refine aw_getE e_Pb_count_52 fl_Pb_75 hC.1.1 ?_
      have hq := hQ _ _ _ hCS KM_0
      unfold op_count at hq
      rw [if_pos hts, ix_n (by decide)] at hq
      exact aw_iret e_Pb_count_55 rfl rfl hq
    · refine aw_tsIn e_Pb_count_1 (tgt := 56) (by decide) (by decide) rfl rfl ?_
      refine aw_aload_n e_Pb_count_56 rfl ?_
      refine aw_getR e_Pb_count_57 fl_Pb_10 (hS.1 _ _ _ _ rfl) ?_
      refine aw_getE e_Pb_count_60 fl_Pb_127 hC.1.2.1 ?_
      have hq := hQ _ _ _ hCS KM_0
      unfold op_count at hq
      rw [if_pos hts, ix_n (by decide)] at hq
      exact aw_iret e_Pb_count_63 rfl rfl hq
    · refine aw_tsIn e_Pb_count_1 (tgt := 64) (by decide) (by decide) rfl rfl ?_
      refine aw_aload_n e_Pb_count_64 rfl ?_
      refine aw_getR e_Pb_count_65 fl_Pb_10 (hS.1 _ _ _ _ rfl) ?_
      refine aw_cV0 e_Pb_count_68 ml_Pb_323 mf_Ma_stores mv_Ma_stores (c_Ma_stores hS (by decide) hC hW ?_)
      have hq := hQ _ _ _ hCS KM_0
      unfold op_count at hq
      rw [if_pos hts, ix_n (by decide)] at hq
      exact aw_iret e_Pb_count_71 rfl rfl hq
    · refine aw_tsIn e_Pb_count_1 (tgt := 72) (by decide) (by decide) rfl rfl ?_
      refine aw_aload_n e_Pb_count_72 rfl ?_
      refine aw_getR e_Pb_count_73 fl_Pb_10 (hS.1 _ _ _ _ rfl) ?_
      refine aw_cV0 e_Pb_count_76 ml_Pb_320 mf_Ma_storesTogether mv_Ma_storesTogether (c_Ma_storesTogether hS (by decide) hC hW ?_)
      have hq := hQ _ _ _ hCS KM_0
      unfold op_count at hq
      rw [if_pos hts, ix_n (by decide)] at hq
      exact aw_iret e_Pb_count_79 rfl rfl hq
    · refine aw_tsIn e_Pb_count_1 (tgt := 80) (by decide) (by decide) rfl rfl ?_
      refine aw_aload_n e_Pb_count_80 rfl ?_
      refine aw_getR e_Pb_count_81 fl_Pb_10 (hS.1 _ _ _ _ rfl) ?_
      refine aw_getE e_Pb_count_84 fl_Pb_205 hC.1.2.2.1 ?_
      have hq := hQ _ _ _ hCS KM_0
      unfold op_count at hq
      rw [if_pos hts, ix_n (by decide)] at hq
      exact aw_iret e_Pb_count_87 rfl rfl hq
    · refine aw_tsIn e_Pb_count_1 (tgt := 88) (by decide) (by decide) rfl rfl ?_
      refine aw_aload_n e_Pb_count_88 rfl ?_
      refine aw_getE e_Pb_count_89 fl_Pb_313 hCS.2.2.2.2.2.2.2.2.1.1 ?_
      have hq := hQ _ _ _ hCS KM_0
      unfold op_count at hq
      rw [if_pos hts, ix_n (by decide)] at hq
      exact aw_iret e_Pb_count_92 rfl rfl hq
    · refine aw_tsIn e_Pb_count_1 (tgt := 93) (by decide) (by decide) rfl rfl ?_
      refine aw_aload_n e_Pb_count_93 rfl ?_
      refine aw_getR e_Pb_count_94 fl_Pb_42 (hS.1 _ _ _ _ rfl) ?_
      refine aw_getE e_Pb_count_97 fl_Pb_192 hCS.2.2.2.2.2.1.1 ?_
      have hq := hQ _ _ _ hCS KM_0
      unfold op_count at hq
      rw [if_pos hts, ix_n (by decide)] at hq
      exact aw_iret e_Pb_count_100 rfl rfl hq
    · refine aw_tsIn e_Pb_count_1 (tgt := 101) (by decide) (by decide) rfl rfl ?_
      refine aw_aload_n e_Pb_count_101 rfl ?_
      refine aw_getR e_Pb_count_102 fl_Pb_10 (hS.1 _ _ _ _ rfl) ?_
      refine aw_getE e_Pb_count_105 fl_Pb_182 hC.1.2.2.2 ?_
      have hq := hQ _ _ _ hCS KM_0
      unfold op_count at hq
      rw [if_pos hts, ix_n (by decide)] at hq
      exact aw_iret e_Pb_count_108 rfl rfl hq
  · refine aw_tsOut e_Pb_count_1 (tgt := 109) (by unfold inR at hts; omega) rfl ?_
    refine aw_ldc (v := -1000000001) e_Pb_count_109 kc_Pb_74 ?_
    have hq := hQ _ _ _ hCS KM_0
    unfold op_count at hq
    rw [if_neg hts] at hq
    exact aw_iret e_Pb_count_111 rfl rfl hq
theorem c_Pb_back {l : Launch} {E : En} {d : Nat} {I : It} {L : Lt} {R : Rt} {Z : Zt} {Q : Qt} {S : AS} (hCS : CS I R Z S) (hQ : ∀ I2 L2 R2, CS I2 R2 Z (op_back S).1 → KM I L R I2 L2 R2 → Q (some (vi (op_back S).2)) I2 L2 R2 Z) : AMet l E (d + 2) M_Pb_back [vr 8 0] I L R Z Q := by
  have hS := hCS.1
  have hC := hCS.2.1
  have hW := hCS.2.2.1.1
  have hWn := hW.1
  have hK := hCS.2.2.2.2.1.2
  refine AMet.of mf_Pb_back rfl (Nat.le_of_ble_eq_true rfl) ?_
  refine aw_aload_n e_Pb_back_0 rfl ?_
  refine aw_getE e_Pb_back_1 fl_Pb_316 hCS.2.2.2.2.1.1 ?_
  refine awN_if_ne e_Pb_back_4 (by omega) (fun h4 => ?_) (fun h4 => ?_)
  · have hk1 : sK S = 1 := by omega
    have hG := hCS.2.2.2.1 hk1
    refine aw_aload_n e_Pb_back_10 rfl ?_
    refine aw_getR e_Pb_back_11 fl_Pb_10 (hS.1 _ _ _ _ rfl) ?_
    refine aw_aload_n e_Pb_back_14 rfl ?_
    refine aw_getR e_Pb_back_15 fl_Pb_16 (hS.1 _ _ _ _ rfl) ?_
    refine aw_cV1 e_Pb_back_18 ml_Pb_185 mf_Ma_takeFrom mv_Ma_takeFrom (c_Ma_takeFrom hS (by decide) (by decide) (by decide) hG.1 hG.2.1 (fun I2 R2 hC2 hf2 hr2 => ?_))
    replace hS : Sta R2 := hS.keep (fun t i h13 _ _ => hr2 t i (fun z => h13 z.1))
    refine aw_aload_n e_Pb_back_21 rfl ?_
    refine aw_getR e_Pb_back_22 fl_Pb_10 (hS.1 _ _ _ _ rfl) ?_
    refine aw_getE e_Pb_back_25 fl_Pb_182 hC2.1.2.2.2 ?_
    have hq := hQ I2 L R2
    unfold op_back at hq
    first
      | (rw [if_pos hk1] at hq; exact aw_iret e_Pb_back_28 rfl rfl (hq (CS_machR hCS hC2 hG.2 hf2 hr2) (KM_ownR hf2 hr2)))
  · refine aw_ldc (v := -1000000002) e_Pb_back_7 kc_Pb_157 ?_
    have hq := hQ I L R
    unfold op_back at hq
    first
      | (rw [if_neg (by omega)] at hq; exact aw_iret e_Pb_back_9 rfl rfl (hq hCS KM_0))
