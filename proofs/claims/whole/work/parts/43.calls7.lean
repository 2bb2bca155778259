/-! ===== the calls, 7 ===== -/
theorem CS_lk {I I2 : It} {R : Rt} {Z : Zt} {S : AS} (h : CS I R Z S) (hf : ∀ t i2, t ≠ 18 → t ≠ 19 → I2 t i2 = I t i2) : CS I2 R Z S := CS_lu h (fun t i h1 h2 _ => hf t i h1 h2)
/-- the tape's size alone changes -/
theorem CS_trim {I : It} {R : Rt} {Z : Zt} {S : AS} {n : Nat} (h : CS I R Z S) (hn : n ≤ (sT S).1) : CS (sI I 6 0 0 (nI n)) R Z (sM S, sG S, sK S, (n, (sT S).2), S.2.2.2.2) := by
  obtain ⟨h1, h2, h3, h4, h5, h6, h7, h8, h9, h10, h11⟩ := h
  have e : ∀ t i, ¬ (t = 6 ∧ i = 0) → sI I 6 0 0 (nI n) t i = I t i := fun t i hti => sI_n hti
  refine ⟨h1, h2.keep h3.1 (fun t i hti => e t i (by unfold own at hti; omega)) (fun _ _ _ => rfl), h3, fun z => ⟨(h4 z).1.keep (h4 z).2.1 (fun t i hti => e t i (by unfold own at hti; omega)) (fun _ _ _ => rfl), (h4 z).2⟩, by rw [e 8 0 (by omega)]; exact h5, ⟨by rw [sI_s, upd, if_pos rfl], Nat.le_trans hn h6.2.1, fun j hj => ?_⟩, fun i hi => (h7 i hi).keep (e 4 i (by omega)) (e 26 i (by omega)), fun i hi => (h8 i hi).keep (e 5 i (by omega)) (e 3 _ (by omega)) (e 4 _ (by omega)) (e 26 _ (by omega)), by rw [e 8 0 (by omega), e 23 0 (by omega)]; exact h9, h10, h11⟩
  rw [e 20 0 (by omega)]
  exact h6.2.2 j (Nat.lt_of_lt_of_le hj hn)
theorem c_Pb_can {l : Launch} {E : En} {d : Nat} {I : It} {L : Lt} {R : Rt} {Z : Zt} {Q : Qt} {S : AS} (hCS : CS I R Z S) {x : Int32} (hQ : ∀ I2 L2 R2, CS I2 R2 Z (op_can S x).1 → KM I L R I2 L2 R2 → Q (some (vi (op_can S x).2)) I2 L2 R2 Z) : AMet l E (d + 4) M_Pb_can [vr 8 0, vi x] I L R Z Q := by
  have hS := hCS.1
  have hC := hCS.2.1
  have hW := hCS.2.2.1.1
  have hWn := hW.1
  have hp2 := pow4096 hW
  have hT := nT (n := 1 * 2 ^ nB (sM S)) (by omega)
  refine AMet.of mf_Pb_can rfl (Nat.le_of_ble_eq_true rfl) ?_
  refine aw_iload_n e_Pb_can_0 rfl ?_
  refine awZ_if_lt e_Pb_can_1 (fun h1 => ?_) (fun h1 => ?_)
  · refine aw_ldc (v := -1000000001) e_Pb_can_17 kc_Pb_74 ?_
    have hq := hQ _ _ _ hCS KM_0
    unfold op_can at hq
    rw [if_neg (fun w => by have w1 := w.1; have w2 := w.2; omega)] at hq
    exact aw_iret e_Pb_can_19 rfl rfl hq
  · refine aw_iload_n e_Pb_can_4 rfl ?_
    refine aw_iconst (v := nI 1) e_Pb_can_5 (by decide) ?_
    refine aw_aload_n e_Pb_can_6 rfl ?_
    refine aw_getR e_Pb_can_7 fl_Pb_10 (hS.1 _ _ _ _ rfl) ?_
    refine aw_getE e_Pb_can_10 fl_Pb_127 hC.1.2.1 ?_
    refine aw_ishl e_Pb_can_13 ?_
    rw [shlS (by omega) (by omega)]
    refine awZ_icmp_lt e_Pb_can_14 (fun h14 => ?_) (fun h14 => ?_)
    · have hx2 : inR x (2 ^ nB (sM S)) := ⟨by omega, by omega⟩
      obtain ⟨m, hm, rfl⟩ := inR_nI hx2
      refine aw_aload_n e_Pb_can_20 rfl ?_
      refine aw_getR e_Pb_can_21 fl_Pb_10 (hS.1 _ _ _ _ rfl) ?_
      refine aw_cV0 e_Pb_can_24 ml_Pb_149 mf_Ma_isWhole mv_Ma_isWhole (c_Ma_isWhole hS (by decide) hC hW ?_)
      refine awB_ne e_Pb_can_27 (fun h27 => ?_) (fun h27 => ?_)
      · refine aw_aload_n e_Pb_can_33 rfl ?_
        refine aw_getR e_Pb_can_34 fl_Pb_35 (hS.1 _ _ _ _ rfl) ?_
        refine aw_aload_n e_Pb_can_37 rfl ?_
        refine aw_getR e_Pb_can_38 fl_Pb_10 (hS.1 _ _ _ _ rfl) ?_
        refine aw_cV1 e_Pb_can_41 ml_Pb_175 mf_Lu_lookAt mv_Lu_lookAt (c_Lu_lookAt hS (by decide) hC hW (fun I2 hLc hfr => ?_))
        replace hC := (CS_lk hCS hfr).2.1
        refine aw_aload_n e_Pb_can_44 rfl ?_
        refine aw_getR e_Pb_can_45 fl_Pb_35 (hS.1 _ _ _ _ rfl) ?_
        refine aw_aload_n e_Pb_can_48 rfl ?_
        refine aw_getR e_Pb_can_49 fl_Pb_10 (hS.1 _ _ _ _ rfl) ?_
        refine aw_iload_n e_Pb_can_52 rfl ?_
        refine aw_cV2 e_Pb_can_53 ml_Pb_178 mf_Lu_firstAgainst mv_Lu_firstAgainst (c_Lu_firstAgainst hS (by decide) hC hW hLc (fun p hp => want_p (whole_w h27 hp)) (by omega) ?_)
        refine aw_iconst (v := -1) e_Pb_can_56 (by decide) ?_
        refine aw_icmp_ne e_Pb_can_57 (fun h57 => ?_) (fun h57 => ?_)
        · refine aw_iconst (v := nI 0) e_Pb_can_64 (by decide) ?_
          have hq := hQ _ _ _ (CS_lk hCS hfr) (KM_lu (fun t i h1 h2 _ => hfr t i h1 h2))
          unfold op_can at hq
          rw [if_pos hx2, if_pos h27, ix_n (j := m) (by omega)] at hq
          first
            | exact awB_1 e_Pb_can_65 ((fagI_can hW m).1 h57) hq
            | exact awB_0 e_Pb_can_65 (fun w => h57 ((fagI_can hW m).2 w)) hq
        · refine aw_iconst (v := nI 1) e_Pb_can_60 (by decide) ?_
          refine aw_goto e_Pb_can_61 ?_
          have hq := hQ _ _ _ (CS_lk hCS hfr) (KM_lu (fun t i h1 h2 _ => hfr t i h1 h2))
          unfold op_can at hq
          rw [if_pos hx2, if_pos h27, ix_n (j := m) (by omega)] at hq
          first
            | exact awB_1 e_Pb_can_65 ((fagI_can hW m).1 h57) hq
            | exact awB_0 e_Pb_can_65 (fun w => h57 ((fagI_can hW m).2 w)) hq
      · refine aw_ldc (v := -1000000002) e_Pb_can_30 kc_Pb_157 ?_
        have hq := hQ _ _ _ hCS KM_0
        unfold op_can at hq
        rw [if_pos hx2, if_neg h27] at hq
        exact aw_iret e_Pb_can_32 rfl rfl hq
    · refine aw_ldc (v := -1000000001) e_Pb_can_17 kc_Pb_74 ?_
      have hq := hQ _ _ _ hCS KM_0
      unfold op_can at hq
      rw [if_neg (fun w => by have w1 := w.1; have w2 := w.2; omega)] at hq
      exact aw_iret e_Pb_can_19 rfl rfl hq
theorem c_Pb_trim {l : Launch} {E : En} {d : Nat} {I : It} {L : Lt} {R : Rt} {Z : Zt} {Q : Qt} {S : AS} (hCS : CS I R Z S) {x : Int32} (hQ : ∀ I2 L2 R2, CS I2 R2 Z (op_trim S x).1 → KM I L R I2 L2 R2 → Q (some (vi (op_trim S x).2)) I2 L2 R2 Z) : AMet l E d M_Pb_trim [vr 8 0, vi x] I L R Z Q := by
  have hS := hCS.1
  have hC := hCS.2.1
  have hW := hCS.2.2.1.1
  have hWn := hW.1
  have hTs := hCS.2.2.2.2.2.1
  have hT := nT (n := (sT S).1) (by omega)
  refine AMet.of mf_Pb_trim rfl (Nat.le_of_ble_eq_true rfl) ?_
  refine aw_iload_n e_Pb_trim_0 rfl ?_
  refine awZ_if_lt e_Pb_trim_1 (fun h1 => ?_) (fun h1 => ?_)
  · refine aw_ldc (v := -1000000001) e_Pb_trim_15 kc_Pb_74 ?_
    have hq := hQ I L R
    unfold op_trim at hq
    first
      | (rw [if_neg (fun w => by have w1 := w.1; have w2 := w.2; omega)] at hq; exact aw_iret e_Pb_trim_17 rfl rfl (hq hCS KM_0))
  · refine aw_iload_n e_Pb_trim_4 rfl ?_
    refine aw_aload_n e_Pb_trim_5 rfl ?_
    refine aw_getR e_Pb_trim_6 fl_Pb_42 (hS.1 _ _ _ _ rfl) ?_
    refine aw_getE e_Pb_trim_9 fl_Pb_192 hCS.2.2.2.2.2.1.1 ?_
    refine awZ_icmp_le e_Pb_trim_12 (fun h12 => ?_) (fun h12 => ?_)
    · have hx2 : inR x ((sT S).1 + 1) := ⟨by omega, by omega⟩
      obtain ⟨m, hm, rfl⟩ := inR_nI hx2
      refine aw_aload_n e_Pb_trim_18 rfl ?_
      refine aw_getR e_Pb_trim_19 fl_Pb_42 (hS.1 _ _ _ _ rfl) ?_
      refine aw_iload_n e_Pb_trim_22 rfl ?_
      refine aw_putI e_Pb_trim_23 fl_Pb_192 ?_
      refine aw_iload_n e_Pb_trim_26 rfl ?_
      have hq := hQ (sI I 6 0 0 (nI m)) L R
      unfold op_trim at hq
      first
        | (rw [if_pos hx2, ix_n (j := m) (by omega)] at hq; exact aw_iret e_Pb_trim_27 rfl rfl (hq (CS_trim hCS (by omega)) (fun t i ht => ⟨sI_n (by omega), rfl, rfl⟩)))
    · refine aw_ldc (v := -1000000001) e_Pb_trim_15 kc_Pb_74 ?_
      have hq := hQ I L R
      unfold op_trim at hq
      first
        | (rw [if_neg (fun w => by have w1 := w.1; have w2 := w.2; omega)] at hq; exact aw_iret e_Pb_trim_17 rfl rfl (hq hCS KM_0))
