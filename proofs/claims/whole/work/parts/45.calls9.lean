/-! ===== the calls, 9 ===== -/
def op_keep (S : AS) : AS × Int32 := ((sM S, sM S, 1, S.2.2.2), nI (nS (sM S)))
theorem CS_keep {I I2 : It} {R R2 : Rt} {Z : Zt} {S : AS} (h : CS I R Z S) (hV : CM I2 R2 Z 1 (sM S)) (hI : ∀ t i, ¬ own 1 t i → I2 t i = I t i) (hR : ∀ t i, ¬ (t = 13 ∧ i = 1) → R2 t i = R t i) : CS (sI I2 8 0 12 (nI 1)) R2 Z (op_keep S).1 := by
  obtain ⟨h1, h2, h3, h4, h5, h6, h7, h8, h9, h10, h11⟩ := h
  obtain ⟨ρ0, hG0⟩ := h10
  obtain ⟨ρ1, hG1⟩ := h11
  have e : ∀ t i, ¬ (own 1 t i ∨ (t = 8 ∧ i = 0)) → sI I2 8 0 12 (nI 1) t i = I t i := fun t i hti => by rw [sI_n (fun z => hti (Or.inr z))]; exact hI t i (fun z => hti (Or.inl z))
  have e2 : ∀ t i, ¬ (t = 8 ∧ i = 0) → sI I2 8 0 12 (nI 1) t i = I2 t i := fun t i hti => sI_n hti
  refine ⟨h1.keep (fun t i h13 _ _ => hR t i (fun z => h13 z.1)), h2.keep h3.1 (fun t i hti => e t i (by unfold own at *; omega)) (fun t i hti => hR t i (by unfold own at hti; omega)), h3, fun _ => ⟨hV.keep h3.1 (fun t i hti => e2 t i (by unfold own at hti; omega)) (fun _ _ _ => rfl), h3⟩, ⟨by rw [sI_s, upd, if_pos rfl]; rfl, Nat.le_refl _⟩, by rw [e 6 0 (by unfold own; omega), e 20 0 (by unfold own; omega)]; exact h6, fun i hi => (h7 i hi).keep (e 4 i (by unfold own; omega)) (e 26 i (by unfold own; omega)), fun i hi => (h8 i hi).keep (e 5 i (by unfold own; omega)) (e 3 _ (by unfold own; omega)) (e 4 _ (by unfold own; omega)) (e 26 _ (by unfold own; omega)), ⟨?_, h9.2.1, fun j hj => by rw [e 23 0 (by unfold own; omega)]; exact h9.2.2 j hj⟩, ⟨ρ0, ⟨fun r hr => by rw [hR 16 0 (by omega)]; exact hG0.1 r hr, hG0.2⟩⟩, ⟨ρ1, ⟨fun r hr => by rw [hR 16 1 (by omega)]; exact hG1.1 r hr, hG1.2⟩⟩⟩
  rw [sI_s, upd, if_neg (by decide), hI 8 0 (by unfold own; omega)]
  exact h9.1
theorem c_Pb_keep {l : Launch} {E : En} {d : Nat} {I : It} {L : Lt} {R : Rt} {Z : Zt} {Q : Qt} {S : AS} (hCS : CS I R Z S) (hQ : ∀ I2 L2 R2, CS I2 R2 Z (op_keep S).1 → KM I L R I2 L2 R2 → Q (some (vi (op_keep S).2)) I2 L2 R2 Z) : AMet l E (d + 2) M_Pb_keep [vr 8 0] I L R Z Q := by
  have hS := hCS.1
  have hC := hCS.2.1
  have hW := hCS.2.2.1.1
  have hWn := hW.1
  refine AMet.of mf_Pb_keep rfl (Nat.le_of_ble_eq_true rfl) ?_
  refine aw_aload_n e_Pb_keep_0 rfl ?_
  refine aw_getR e_Pb_keep_1 fl_Pb_16 (hS.1 _ _ _ _ rfl) ?_
  refine aw_aload_n e_Pb_keep_4 rfl ?_
  refine aw_getR e_Pb_keep_5 fl_Pb_10 (hS.1 _ _ _ _ rfl) ?_
  refine aw_cV1 e_Pb_keep_8 ml_Pb_185 mf_Ma_takeFrom mv_Ma_takeFrom (c_Ma_takeFrom hS (by decide) (by decide) (by decide) hC hW (fun I2 R2 hC2 hf2 hr2 => ?_))
  replace hS : Sta R2 := hS.keep (fun t i h13 _ _ => hr2 t i (fun z => h13 z.1))
  refine aw_aload_n e_Pb_keep_11 rfl ?_
  refine aw_iconst (v := nI 1) e_Pb_keep_12 (by decide) ?_
  refine aw_putZ e_Pb_keep_13 fl_Pb_316 (by first | exact Or.inl rfl | exact Or.inr rfl) ?_
  have hst : sI I2 8 0 12 (nI 1) 2 1 7 = nI (nS (sM S)) := by rw [sI_n (by omega)]; exact hC2.1.2.2.2
  refine aw_aload_n e_Pb_keep_16 rfl ?_
  refine aw_getR e_Pb_keep_17 fl_Pb_16 (hS.1 _ _ _ _ rfl) ?_
  refine aw_getE e_Pb_keep_20 fl_Pb_182 hst ?_
  exact aw_iret e_Pb_keep_23 rfl rfl (hQ _ _ _ (CS_keep hCS hC2 hf2 hr2) (fun t i ht => ⟨by rw [sI_n (by omega)]; exact hf2 t i (by unfold own; omega), rfl, hr2 t i (by omega)⟩))
