/-! ===== the calls, 9 ===== -/
def op_keep (S : AS) : AS × Int32 := ((sM S, sM S, 1, S.2.2.2), nI (nS (sM S)))
theorem CS_keep {I I2 : It} {R R2 : Rt} {Z : Zt} {S : AS} (h : CS I R Z S) (hV : CM I2 R2 Z 1 (sM S)) (hI : ∀ t i, ¬ own 1 t i → I2 t i = I t i) (hR : ∀ t i, ¬ (t = 13 ∧ i = 1) → R2 t i = R t i) : CS (sI I2 8 0 12 (nI 1)) R2 Z (op_keep S).1 := by
  obtain ⟨h1, h2, h3, h4, h5, h6, h7, h8, h9, h10, h11⟩ := h
  obtain ⟨ρ0, hG0⟩ := h10
  obtain ⟨ρ1, hG1⟩ := h11
  have e : ∀ t i, ¬ (own 1 t i ∨ (t = 8 ∧ i = 0)) → sI I2 8 0 12 (nI 1) t i = I t i := fun t i hti => by rw [sI_n (fun z => hti (Or.inr z))]; exact hI t i (fun z => hti (Or.inl z))
  have e2 : ∀ t i, ¬ (t = 8 ∧ i = 0) → sI I2 8 0 12 (nI 1) t i = I2 t i := fun t i hti => sI_n hti
  refine ⟨h1.keep (fun t i h13 _ _ => hR t i (fun z => h13 z.1)), h2.keep h3.1 (fun t i hti => e t i (by unfold own at *; omega)) (fun t i hti => hR t i (by unfold own at hti; omega)), h3, fun _ => ⟨hV.keep h3.1 (fun t i hti => e2 t i (by unfold own at hti; omega)) (fun _ _ _ => rfl), h3⟩, ⟨by rw [sI_s, upd, if_pos rfl]; rfl, Nat.le_refl _⟩, by rw [e 6 0 (by unfold own; omega), e 20 0 (by unfold own; omega)]; exact h6, fun i hi => (h7 i hi).keep (e 4 i (by unfold own; omega)) (e 26 i (by unfold own; omega)), fun i hi => (h8 i hi).keep (e 5 i (by unfold own; omega)) (e 3 _ (by unfold own; omega)) (e 4 _ (by unfold own; omega)) (e 26 _ (by unfold own; omega)), ⟨?_, h9.2.1, fun j hj => by rw [e 23 0 (by unfold own; omega)]; exact h9.2.2 j hj⟩, ⟨ρ0, ⟨fun r hr => by rw [hR 16 0 (by omega)]; exact hG0.1 r hr, hG0.2⟩⟩, ⟨ρ1, ⟨fun r hr => by rw [hR 16 1 (by omega)]; exact hG1.1 r hr, hG1.2⟩⟩⟩
  rw [sI_s, upd, if_neg (by decide), hI 8 0 (by unfold own; omega)]
  exact h9.1
theorem c_Pb_keep {l : Launch} {E : En} {d : Nat} {I : It} {L : Lt} {R : Rt} {Z : Zt} {Q : Qt} {S : AS} (hCS : CS I R Z S) (hQ : ∀ I2 L2 R2, CS I2 R2 Z (op_keep S).1 → KM I L R I2 L2 R2 → Q (some (vi (op_keep S).2)) I2 L2 R2 Z) : AMet l E (d + 2) M_Pb_keep [vr 8 0] I L R Z Q := by
  have hS := hCS.1
  have hC := hCS.2.1
  have hW := hCS.2.2.1.1
  have hWn := hW.1
  refine AMet.of mf_Pb_keep rfl (Nat.le_of_ble_eq_true rfl) ?_
  refine aw_aload_n e_Pb_keep_0 rfl ?_
  refine aw_getR e_Pb_keep_1 fl_Pb_16 (hS.1 _ _ _ _ rfl) ?_
  refine aw_aload_n e_Pb_keep_4 rfl ?_
  refine aw_getR e_Pb_keep_5 fl_Pb_10 (hS.1 _ _ _ _ rfl) ?_
  refine aw_cV1 e_Pb_keep_8 ml_Pb_185 mf_Ma_takeFrom mv_Ma_takeFrom (c_Ma_takeFrom hS (by decide) (by decide) (by decide) hC hW (fun I2 R2 hC2 hf2 hr2 => ?_))
  replace hS : Sta R2 := hS.keep (fun t i h13 _ _ => hr2 t i (fun z => h13 z.1))
  refine aw_aload_n e_Pb_keep_11 rfl ?_
  refine aw_iconst (v := nI 1) e_Pb_keep_12 (by decide) ?_
  refine aw_putZ e_Pb_keep_13 fl_Pb_316 (by first | exact Or.inl rfl | exact Or.inr rfl) ?_
  have hst : sI I2 8 0 12 (nI 1) 2 1 7 = nI (nS (sM S)) := by rw [sI_n (by omega)]; exact hC2.1.2.2.2
  refine aw_aload_n e_Pb_keep_16 rfl ?_
  refine aw_getR e_Pb_keep_17 fl_Pb_16 (hS.1 _ _ _ _ rfl) ?_
  refine aw_getE e_Pb_keep_20 fl_Pb_182 hst ?_
  exact aw_iret e_Pb_keep_23 rfl rfl (hQ _ _ _ (CS_keep hCS hC2 hf2 hr2) (fun t i ht => ⟨by rw [sI_n (by omega)]; exact hf2 t i (by unfold own; omega), rfl, hr2 t i (by omega)⟩))
def op_worth (S : AS) (w a b : Int32) : AS × Int32 := (S, if inR w 2 then (if ix w = 0 then nI (wof a.toInt) else if wof b.toInt = 0 then -1000000002 else nI (wof a.toInt * ivP (wof b.toInt) % 1000003)) else -1000000001)
def refV (th wn : Nat) : Int32 := if th = 0 then -1000000011 else if th = wn then nI 0 else -1000000012
theorem refV_0 {th wn : Nat} (h : 0 < wn) : refV th wn = 0 ↔ th = wn := by
  unfold refV
  by_cases h0 : th = 0
  · rw [if_pos h0]
    exact ⟨fun z => absurd z (by decide), fun z => by omega⟩
  · rw [if_neg h0]
    by_cases h1 : th = wn
    · rw [if_pos h1]
      exact ⟨fun _ => h1, fun _ => rfl⟩
    · rw [if_neg h1]
      exact ⟨fun z => absurd z (by decide), fun z => absurd z h1⟩
def op_ask (S : AS) (s k : Int32) : AS × Int32 := (S, if inR s 5 ∧ inR k 6 then (if (sL2 S (ix s)).1 = 1 then (if isOfN ((sL2 S (ix s)).2.2.1 0) (ix k) = true then nI (shW ((sL2 S (ix s)).2.2.1 2) ((sL2 S (ix s)).2.2.1 3)) else -1000000012) else refV (sL2 S (ix s)).1 1) else -1000000001)
def op_item (S : AS) (s k : Int32) : AS × Int32 := (S, if inR s 5 then (if (sL2 S (ix s)).1 = 2 then (if inR k (sL2 S (ix s)).2.2.2.2.1 then (sL2 S (ix s)).2.2.2.2.2 (ix k) else -1000000013) else refV (sL2 S (ix s)).1 2) else -1000000001)
theorem c_Pb_worth {l : Launch} {E : En} {d : Nat} {I : It} {L : Lt} {R : Rt} {Z : Zt} {Q : Qt} {S : AS} (hCS : CS I R Z S) {w x y : Int32} (hQ : ∀ I2 L2 R2, CS I2 R2 Z (op_worth S w x y).1 → KM I L R I2 L2 R2 → Q (some (vi (op_worth S w x y).2)) I2 L2 R2 Z) : AMet l E (d + 2) M_Pb_worth [vr 8 0, vi w, vi x, vi y] I L R Z Q := by
  have hS := hCS.1
  have hC := hCS.2.1
  have hW := hCS.2.2.1.1
  have hWn := hW.1
  have hT1 : (nI 1).toInt = 1 := by decide
  have hx := wof_lt x.toInt
  have hy := wof_lt y.toInt
  refine AMet.of mf_Pb_worth rfl (Nat.le_of_ble_eq_true rfl) ?_
  refine aw_iload_n e_Pb_worth_0 rfl ?_
  refine awZ_if_lt e_Pb_worth_1 (fun h1 => ?_) (fun h1 => ?_)
  · refine aw_ldc (v := -1000000001) e_Pb_worth_9 kc_Pb_74 ?_
    have hq := hQ _ _ _ hCS KM_0
    unfold op_worth at hq
    first
      | (rw [if_neg (fun w => by have w1 := w.1; have w2 := w.2; omega)] at hq; exact aw_iret e_Pb_worth_11 rfl rfl hq)
  · refine aw_iload_n e_Pb_worth_4 rfl ?_
    refine aw_iconst (v := nI 1) e_Pb_worth_5 (by decide) ?_
    refine awZ_icmp_le e_Pb_worth_6 (fun h6 => ?_) (fun h6 => ?_)
    · have hw2 : inR w 2 := ⟨by omega, by omega⟩
      obtain ⟨j, hj, rfl⟩ := inR_nI hw2
      refine aw_iload_n e_Pb_worth_12 rfl ?_
      refine awN_if_ne e_Pb_worth_13 (by omega) (fun h13 => ?_) (fun h13 => ?_)
      · refine aw_iload_n e_Pb_worth_21 rfl ?_
        refine aw_cS1 e_Pb_worth_22 ml_Pb_124 mf_Pb_worthOf ms_Pb_worthOf (c_Pb_worthOf ?_)
        refine aw_ist4 e_Pb_worth_25 ?_
        refine aw_iload e_Pb_worth_27 rfl ?_
        refine awN_if_ne e_Pb_worth_29 (by omega) (fun h29 => ?_) (fun h29 => ?_)
        · refine aw_iload_n e_Pb_worth_37 rfl ?_
          refine aw_cS1 e_Pb_worth_38 ml_Pb_124 mf_Pb_worthOf ms_Pb_worthOf (c_Pb_worthOf ?_)
          refine awN_i2l e_Pb_worth_41 (by omega) ?_
          refine aw_iload e_Pb_worth_42 rfl ?_
          refine awN_i2l e_Pb_worth_44 (by omega) ?_
          refine aw_cS1 e_Pb_worth_45 ml_Pb_253 mf_Pb_inverse ms_Pb_inverse (c_Pb_inverse hy ?_)
          refine aw_cS2 e_Pb_worth_48 ml_Pb_257 mf_Pb_product ms_Pb_product (c_Pb_product hx (ivP_lt _) ?_)
          have hq := hQ _ _ _ hCS KM_0
          unfold op_worth at hq
          first
            | (rw [if_pos hw2, ix_n (j := j) (by omega), if_neg h13, if_pos h29] at hq; exact aw_iret e_Pb_worth_51 rfl rfl hq)
            | (rw [if_pos hw2, ix_n (j := j) (by omega), if_neg h13, if_neg h29] at hq; exact aw_iret e_Pb_worth_51 rfl rfl hq)
        · refine aw_ldc (v := -1000000002) e_Pb_worth_32 kc_Pb_157 ?_
          refine aw_goto e_Pb_worth_34 ?_
          have hq := hQ _ _ _ hCS KM_0
          unfold op_worth at hq
          first
            | (rw [if_pos hw2, ix_n (j := j) (by omega), if_neg h13, if_pos h29] at hq; exact aw_iret e_Pb_worth_51 rfl rfl hq)
            | (rw [if_pos hw2, ix_n (j := j) (by omega), if_neg h13, if_neg h29] at hq; exact aw_iret e_Pb_worth_51 rfl rfl hq)
      · refine aw_iload_n e_Pb_worth_16 rfl ?_
        refine aw_cS1 e_Pb_worth_17 ml_Pb_124 mf_Pb_worthOf ms_Pb_worthOf (c_Pb_worthOf ?_)
        have hq := hQ _ _ _ hCS KM_0
        unfold op_worth at hq
        first
          | (rw [if_pos hw2, ix_n (j := j) (by omega), if_pos h13] at hq; exact aw_iret e_Pb_worth_20 rfl rfl hq)
    · refine aw_ldc (v := -1000000001) e_Pb_worth_9 kc_Pb_74 ?_
      have hq := hQ _ _ _ hCS KM_0
      unfold op_worth at hq
      first
        | (rw [if_neg (fun w => by have w1 := w.1; have w2 := w.2; omega)] at hq; exact aw_iret e_Pb_worth_11 rfl rfl hq)
theorem c_Pb_ask {l : Launch} {E : En} {d : Nat} {I : It} {L : Lt} {R : Rt} {Z : Zt} {Q : Qt} {S : AS} (hCS : CS I R Z S) {x y : Int32} (hQ : ∀ I2 L2 R2, CS I2 R2 Z (op_ask S x y).1 → KM I L R I2 L2 R2 → Q (some (vi (op_ask S x y).2)) I2 L2 R2 Z) : AMet l E (d + 2) M_Pb_ask [vr 8 0, vi x, vi y] I L R Z Q := by
  have hS := hCS.1
  have hC := hCS.2.1
  have hW := hCS.2.2.1.1
  have hWn := hW.1
  refine AMet.of mf_Pb_ask rfl (Nat.le_of_ble_eq_true rfl) ?_
  refine aw_iload_n e_Pb_ask_0 rfl ?_
  refine aw_cS1 e_Pb_ask_1 ml_Pb_287 mf_Pb_isSlot ms_Pb_isSlot (c_Pb_isSlot ?_)
  refine awB_eq e_Pb_ask_4 (fun h4 => ?_) (fun h4 => ?_)
  · refine aw_ldc (v := -1000000001) e_Pb_ask_14 kc_Pb_74 ?_
    have hq := hQ _ _ _ hCS KM_0
    unfold op_ask at hq
    first
      | (rw [if_neg (fun w => h4 w.1)] at hq; exact aw_iret e_Pb_ask_16 rfl rfl hq)
      | (rw [if_neg (fun w => h11 w.2)] at hq; exact aw_iret e_Pb_ask_16 rfl rfl hq)
  · refine aw_iload_n e_Pb_ask_7 rfl ?_
    refine aw_cS1 e_Pb_ask_8 ml_Pb_67 mf_Pb_isKind ms_Pb_isKind (c_Pb_isKind ?_)
    refine awB_ne e_Pb_ask_11 (fun h11 => ?_) (fun h11 => ?_)
    · obtain ⟨s, hs, rfl⟩ := inR_nI h4
      obtain ⟨k, hk, rfl⟩ := inR_nI h11
      have hsl := hCS.2.2.2.2.2.2.2.1 s hs
      refine aw_aload_n e_Pb_ask_17 rfl ?_
      refine aw_getR e_Pb_ask_18 fl_Pb_61 (hS.1 _ _ _ _ rfl) ?_
      refine aw_iload_n e_Pb_ask_21 rfl ?_
      refine aw_aald e_Pb_ask_22 rfl (show _ < 5 by omega) (by omega) (hS.2.2.2 _ (by omega)) ?_
      refine aw_iconst (v := nI 1) e_Pb_ask_23 (by decide) ?_
      refine aw_cV1 e_Pb_ask_24 ml_Pb_310 mf_Sl_refusalFor mv_Sl_refusalFor (c_Sl_refusalFor (wn := 1) hsl.1 hsl.2.1 (by decide) ?_)
      refine aw_ist3 e_Pb_ask_27 ?_
      refine aw_iload_n e_Pb_ask_28 rfl ?_
      refine aw_if_eq e_Pb_ask_29 (fun h29 => ?_) (fun h29 => ?_)
      · have h1 := (refV_0 (wn := 1) (by decide)).1 h29
        have hpt := hsl.2.2.2.1 h1
        refine aw_aload_n e_Pb_ask_34 rfl ?_
        refine aw_getR e_Pb_ask_35 fl_Pb_61 (hS.1 _ _ _ _ rfl) ?_
        refine aw_iload_n e_Pb_ask_38 rfl ?_
        refine aw_aald e_Pb_ask_39 rfl (show _ < 5 by omega) (by omega) (hS.2.2.2 _ (by omega)) ?_
        refine aw_getR e_Pb_ask_40 fl_Pb_293 (hS.1 _ _ _ _ rfl) ?_
        refine aw_ast4 e_Pb_ask_43 ?_
        refine aw_aload e_Pb_ask_45 rfl ?_
        refine aw_iload_n e_Pb_ask_47 rfl ?_
        refine aw_cV1 e_Pb_ask_48 ml_Pb_116 mf_Pa_isOf mv_Pa_isOf (c_Pa_isOf (hpt.1 0 (by decide)) hpt.2.1 hk ?_)
        refine awB_eq e_Pb_ask_51 (fun h51 => ?_) (fun h51 => ?_)
        · refine aw_ldc (v := -1000000012) e_Pb_ask_62 kc_Pb_119 ?_
          have hq := hQ _ _ _ hCS KM_0
          unfold op_ask at hq
          first
            | (rw [if_pos ⟨h4, h11⟩, ix_n (j := s) (by omega), ix_n (j := k) (by omega), if_pos h1, if_pos h51] at hq; exact aw_iret e_Pb_ask_64 rfl rfl hq)
            | (rw [if_pos ⟨h4, h11⟩, ix_n (j := s) (by omega), ix_n (j := k) (by omega), if_pos h1, if_neg h51] at hq; exact aw_iret e_Pb_ask_64 rfl rfl hq)
        · refine aw_aload e_Pb_ask_54 rfl ?_
          refine aw_cV0 e_Pb_ask_56 ml_Pb_113 mf_Pa_shareWorth mv_Pa_shareWorth (c_Pa_shareWorth (hpt.1 2 (by decide)) (hpt.1 3 (by decide)) (by omega) (by omega) ?_)
          refine aw_goto e_Pb_ask_59 ?_
          have hq := hQ _ _ _ hCS KM_0
          unfold op_ask at hq
          first
            | (rw [if_pos ⟨h4, h11⟩, ix_n (j := s) (by omega), ix_n (j := k) (by omega), if_pos h1, if_pos h51] at hq; exact aw_iret e_Pb_ask_64 rfl rfl hq)
            | (rw [if_pos ⟨h4, h11⟩, ix_n (j := s) (by omega), ix_n (j := k) (by omega), if_pos h1, if_neg h51] at hq; exact aw_iret e_Pb_ask_64 rfl rfl hq)
      · refine aw_iload_n e_Pb_ask_32 rfl ?_
        have hq := hQ _ _ _ hCS KM_0
        unfold op_ask at hq
        first
          | (rw [if_pos ⟨h4, h11⟩, ix_n (j := s) (by omega), if_neg (fun w => h29 ((refV_0 (by decide)).2 w))] at hq; exact aw_iret e_Pb_ask_33 rfl rfl hq)
    · refine aw_ldc (v := -1000000001) e_Pb_ask_14 kc_Pb_74 ?_
      have hq := hQ _ _ _ hCS KM_0
      unfold op_ask at hq
      first
        | (rw [if_neg (fun w => h4 w.1)] at hq; exact aw_iret e_Pb_ask_16 rfl rfl hq)
        | (rw [if_neg (fun w => h11 w.2)] at hq; exact aw_iret e_Pb_ask_16 rfl rfl hq)
