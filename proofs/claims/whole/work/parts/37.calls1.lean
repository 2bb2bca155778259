/-! ===== the calls, 1 ===== -/
theorem KM_0 {I : It} {L : Lt} {R : Rt} : KM I L R I L R := fun _ _ _ => ⟨rfl, rfl, rfl⟩
def op_whole (S : AS) : AS × Int32 := (S, bI (whole (sM S) = true))
noncomputable def op_answers (S : AS) : AS × Int32 := (S, ansV (sM S))
theorem KM_fr {I I2 : It} {L L2 : Lt} {R R2 : Rt} {a : Nat} (h1 : frJ a I I2) (h2 : frL a L L2) (h3 : frR a R R2) : KM I L R I2 L2 R2 := fun t i ht => ⟨h1 t i (by omega), h2 t i (by omega), h3 t i (by omega)⟩
theorem RG_fr {R R2 : Rt} {a b : Nat} {ρ : Nat → Nat} (h : RG R b ρ) (hf : frR a R R2) (hne : b ≠ a) : RG R2 b ρ := ⟨fun r hr => by rw [hf 16 b (by omega)]; exact h.1 r hr, h.2⟩
/-- after an answer was sought -/
theorem CS_ans {I I2 : It} {R R2 : Rt} {Z : Zt} {S : AS} {a : Nat} {ρ : Nat → Nat} (h : CS I R Z S) (ha : a < 2) (hG : RG R2 a ρ) (h1 : frJ a I I2) (h3 : frR a R R2) : CS I2 R2 Z S := by
  obtain ⟨ρ0, hG0⟩ := h.2.2.2.2.2.2.2.2.2.1
  obtain ⟨ρ1, hG1⟩ := h.2.2.2.2.2.2.2.2.2.2
  refine h.keep (fun t i hti => h1 t i (by unfold scr at hti; omega)) (fun t i hti => h3 t i (by omega)) (Sta_fr h.1 h3) ?_ ?_
  · by_cases e : a = 0
    · exact ⟨ρ, e ▸ hG⟩
    · exact ⟨ρ0, RG_fr hG0 h3 (by omega)⟩
  · by_cases e : a = 1
    · exact ⟨ρ, e ▸ hG⟩
    · exact ⟨ρ1, RG_fr hG1 h3 (by omega)⟩
theorem CS_G {I : It} {R : Rt} {Z : Zt} {S : AS} (h : CS I R Z S) : (∃ ρ, RG R 0 ρ) ∧ (∃ ρ, RG R 1 ρ) := ⟨h.2.2.2.2.2.2.2.2.2.1, h.2.2.2.2.2.2.2.2.2.2⟩
theorem c_Pb_whole {l : Launch} {E : En} {d : Nat} {I : It} {L : Lt} {R : Rt} {Z : Zt} {Q : Qt} {S : AS} (hCS : CS I R Z S) (hQ : ∀ I2 L2 R2, CS I2 R2 Z (op_whole S).1 → KM I L R I2 L2 R2 → Q (some (vi (op_whole S).2)) I2 L2 R2 Z) : AMet l E (d + 2) M_Pb_whole [vr 8 0] I L R Z Q := by
  have hS := hCS.1
  have hC := hCS.2.1
  have hW := hCS.2.2.1.1
  have hWn := hW.1
  refine AMet.of mf_Pb_whole rfl (Nat.le_of_ble_eq_true rfl) ?_
  refine aw_aload_n e_Pb_whole_0 rfl ?_
  refine aw_getR e_Pb_whole_1 fl_Pb_10 (hS.1 _ _ _ _ rfl) ?_
  refine aw_cV0 e_Pb_whole_4 ml_Pb_149 mf_Ma_isWhole mv_Ma_isWhole (c_Ma_isWhole hS (by decide) hC hW ?_)
  refine awB_eq e_Pb_whole_7 (fun h7 => ?_) (fun h7 => ?_)
  · refine aw_iconst (v := nI 0) e_Pb_whole_14 (by decide) ?_
    first
      | exact awB_1 e_Pb_whole_15 h7 (hQ _ _ _ hCS KM_0)
      | exact awB_0 e_Pb_whole_15 h7 (hQ _ _ _ hCS KM_0)
  · refine aw_iconst (v := nI 1) e_Pb_whole_10 (by decide) ?_
    refine aw_goto e_Pb_whole_11 ?_
    first
      | exact awB_1 e_Pb_whole_15 h7 (hQ _ _ _ hCS KM_0)
      | exact awB_0 e_Pb_whole_15 h7 (hQ _ _ _ hCS KM_0)
theorem c_Pb_answers {l : Launch} {E : En} {d : Nat} {I : It} {L : Lt} {R : Rt} {Z : Zt} {Q : Qt} {S : AS} (hCS : CS I R Z S) (hQ : ∀ I2 L2 R2, CS I2 R2 Z (op_answers S).1 → KM I L R I2 L2 R2 → Q (some (vi (op_answers S).2)) I2 L2 R2 Z) : AMet l E (d + 6) M_Pb_answers [vr 8 0] I L R Z Q := by
  have hS := hCS.1
  have hC := hCS.2.1
  have hW := hCS.2.2.1.1
  have hWn := hW.1
  obtain ⟨ρ0, hG0⟩ := (CS_G hCS).1
  refine AMet.of mf_Pb_answers rfl (Nat.le_of_ble_eq_true rfl) ?_
  refine aw_aload_n e_Pb_answers_0 rfl ?_
  refine aw_getR e_Pb_answers_1 fl_Pb_25 (hS.1 _ _ _ _ rfl) ?_
  refine aw_aload_n e_Pb_answers_4 rfl ?_
  refine aw_getR e_Pb_answers_5 fl_Pb_10 (hS.1 _ _ _ _ rfl) ?_
  refine aw_cV1 e_Pb_answers_8 ml_Pb_153 mf_An_solve mv_An_solve (c_An_solve hS hG0 (by decide) hC hW (fun I2 L2 R2 ρ2 hG2 hj2 hi2 ha2 hg2 hr2 => ?_))
  exact aw_iret e_Pb_answers_11 rfl rfl (hQ _ _ _ (CS_ans hCS (by decide) hG2 hj2 hr2) (KM_fr hj2 hg2 hr2))
