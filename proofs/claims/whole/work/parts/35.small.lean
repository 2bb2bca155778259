/-! ===== small methods: sheets, slots, kinds ===== -/
theorem c_Pa_turnToDual {l : Launch} {E : En} {d : Nat} {I : It} {L : Lt} {R : Rt} {Z : Zt} {Q : Qt} {q kd so ov un : Nat} (h0 : I 3 q 0 = nI kd) (h1 : I 3 q 1 = nI so) (h2 : I 3 q 2 = nI ov) (h3 : I 3 q 3 = nI un) (hk : kd < 6) (hso : so < 2) (hQ1 : kd = 4 → Q (some (vi (bI (¬ kd = 4)))) (sI (sI I 3 q 2 (nI un)) 3 q 3 (nI ov)) L R Z) (hQ2 : ¬ kd = 4 → Q (some (vi (bI (¬ kd = 4)))) (sI I 3 q 1 (nI (1 - so))) L R Z) : AMet l E d M_Pa_turnToDual [vr 3 q] I L R Z Q := by
  refine AMet.of mf_Pa_turnToDual rfl (Nat.le_of_ble_eq_true rfl) ?_
  refine aw_aload_n e_Pa_turnToDual_0 rfl ?_
  refine aw_getE e_Pa_turnToDual_1 fl_Pa_9 h0 ?_
  refine aw_iconst (v := nI 4) e_Pa_turnToDual_4 (by decide) ?_
  refine awN_icmp_ne e_Pa_turnToDual_5 (by omega) (by omega) (fun h5 => ?_) (fun h5 => ?_)
  · refine aw_aload_n e_Pa_turnToDual_28 rfl ?_
    refine aw_iconst (v := nI 1) e_Pa_turnToDual_29 (by decide) ?_
    refine aw_aload_n e_Pa_turnToDual_30 rfl ?_
    refine aw_getE e_Pa_turnToDual_31 fl_Pa_15 h1 ?_
    refine awN_isub e_Pa_turnToDual_34 (by omega) ?_
    refine aw_putI e_Pa_turnToDual_35 fl_Pa_15 ?_
    refine aw_iconst (v := nI 1) e_Pa_turnToDual_38 (by decide) ?_
    exact awB_1 e_Pa_turnToDual_39 h5 (hQ2 h5)
  · refine aw_aload_n e_Pa_turnToDual_8 rfl ?_
    refine aw_getE e_Pa_turnToDual_9 fl_Pa_25 h2 ?_
    refine aw_ist1 e_Pa_turnToDual_12 ?_
    refine aw_aload_n e_Pa_turnToDual_13 rfl ?_
    refine aw_aload_n e_Pa_turnToDual_14 rfl ?_
    refine aw_getE e_Pa_turnToDual_15 fl_Pa_28 h3 ?_
    refine aw_putI e_Pa_turnToDual_18 fl_Pa_25 ?_
    refine aw_aload_n e_Pa_turnToDual_21 rfl ?_
    refine aw_iload_n e_Pa_turnToDual_22 rfl ?_
    refine aw_putI e_Pa_turnToDual_23 fl_Pa_28 ?_
    refine aw_iconst (v := nI 0) e_Pa_turnToDual_26 (by decide) ?_
    exact awB_0 e_Pa_turnToDual_27 (fun z => z h5) (hQ1 h5)
theorem c_Sh_hasPlace {l : Launch} {E : En} {d : Nat} {I : It} {L : Lt} {R : Rt} {Z : Zt} {Q : Qt} {q sz : Nat} (hz1 : I 4 q 1 = nI sz) (hs : sz ≤ 24) {x : Int32} (hQ : Q (some (vi (bI (inR x sz)))) I L R Z) : AMet l E d M_Sh_hasPlace [vr 4 q, vi x] I L R Z Q := by
  have hT := nT (n := sz) (by omega)
  refine AMet.of mf_Sh_hasPlace rfl (Nat.le_of_ble_eq_true rfl) ?_
  refine aw_iload_n e_Sh_hasPlace_0 rfl ?_
  refine awZ_if_lt e_Sh_hasPlace_1 (fun h1 => ?_) (fun h1 => ?_)
  · refine aw_iconst (v := nI 0) e_Sh_hasPlace_16 (by decide) ?_
    first
      | exact awB_1 e_Sh_hasPlace_17 (by unfold inR; omega) hQ
      | exact awB_0 e_Sh_hasPlace_17 (by unfold inR; omega) hQ
  · refine aw_iload_n e_Sh_hasPlace_4 rfl ?_
    refine aw_aload_n e_Sh_hasPlace_5 rfl ?_
    refine aw_getE e_Sh_hasPlace_6 fl_Sh_19 hz1 ?_
    refine awZ_icmp_ge e_Sh_hasPlace_9 (fun h9 => ?_) (fun h9 => ?_)
    · refine aw_iconst (v := nI 0) e_Sh_hasPlace_16 (by decide) ?_
      first
        | exact awB_1 e_Sh_hasPlace_17 (by unfold inR; omega) hQ
        | exact awB_0 e_Sh_hasPlace_17 (by unfold inR; omega) hQ
    · refine aw_iconst (v := nI 1) e_Sh_hasPlace_12 (by decide) ?_
      refine aw_goto e_Sh_hasPlace_13 ?_
      first
        | exact awB_1 e_Sh_hasPlace_17 (by unfold inR; omega) hQ
        | exact awB_0 e_Sh_hasPlace_17 (by unfold inR; omega) hQ
theorem c_Pb_isKind {l : Launch} {E : En} {d : Nat} {I : It} {L : Lt} {R : Rt} {Z : Zt} {Q : Qt} {x : Int32} (hQ : Q (some (vi (bI (inR x 6)))) I L R Z) : AMet l E d M_Pb_isKind [vi x] I L R Z Q := by
  have hT := nT (n := 6) (by decide)
  refine AMet.of mf_Pb_isKind rfl (Nat.le_of_ble_eq_true rfl) ?_
  refine aw_iload_n e_Pb_isKind_0 rfl ?_
  refine awZ_if_lt e_Pb_isKind_1 (fun h1 => ?_) (fun h1 => ?_)
  · refine aw_iconst (v := nI 0) e_Pb_isKind_14 (by decide) ?_
    first
      | exact awB_1 e_Pb_isKind_15 (by unfold inR; omega) hQ
      | exact awB_0 e_Pb_isKind_15 (by unfold inR; omega) hQ
  · refine aw_iload_n e_Pb_isKind_4 rfl ?_
    refine aw_bipush (v := nI 6) e_Pb_isKind_5 (by decide) ?_
    refine awZ_icmp_ge e_Pb_isKind_7 (fun h7 => ?_) (fun h7 => ?_)
    · refine aw_iconst (v := nI 0) e_Pb_isKind_14 (by decide) ?_
      first
        | exact awB_1 e_Pb_isKind_15 (by unfold inR; omega) hQ
        | exact awB_0 e_Pb_isKind_15 (by unfold inR; omega) hQ
    · refine aw_iconst (v := nI 1) e_Pb_isKind_10 (by decide) ?_
      refine aw_goto e_Pb_isKind_11 ?_
      first
        | exact awB_1 e_Pb_isKind_15 (by unfold inR; omega) hQ
        | exact awB_0 e_Pb_isKind_15 (by unfold inR; omega) hQ
theorem c_Pb_isSheet {l : Launch} {E : En} {d : Nat} {I : It} {L : Lt} {R : Rt} {Z : Zt} {Q : Qt} {x : Int32} (hQ : Q (some (vi (bI (inR x 4)))) I L R Z) : AMet l E d M_Pb_isSheet [vi x] I L R Z Q := by
  have hT := nT (n := 4) (by decide)
  refine AMet.of mf_Pb_isSheet rfl (Nat.le_of_ble_eq_true rfl) ?_
  refine aw_iload_n e_Pb_isSheet_0 rfl ?_
  refine awZ_if_lt e_Pb_isSheet_1 (fun h1 => ?_) (fun h1 => ?_)
  · refine aw_iconst (v := nI 0) e_Pb_isSheet_13 (by decide) ?_
    first
      | exact awB_1 e_Pb_isSheet_14 (by unfold inR; omega) hQ
      | exact awB_0 e_Pb_isSheet_14 (by unfold inR; omega) hQ
  · refine aw_iload_n e_Pb_isSheet_4 rfl ?_
    refine aw_iconst (v := nI 4) e_Pb_isSheet_5 (by decide) ?_
    refine awZ_icmp_ge e_Pb_isSheet_6 (fun h6 => ?_) (fun h6 => ?_)
    · refine aw_iconst (v := nI 0) e_Pb_isSheet_13 (by decide) ?_
      first
        | exact awB_1 e_Pb_isSheet_14 (by unfold inR; omega) hQ
        | exact awB_0 e_Pb_isSheet_14 (by unfold inR; omega) hQ
    · refine aw_iconst (v := nI 1) e_Pb_isSheet_9 (by decide) ?_
      refine aw_goto e_Pb_isSheet_10 ?_
      first
        | exact awB_1 e_Pb_isSheet_14 (by unfold inR; omega) hQ
        | exact awB_0 e_Pb_isSheet_14 (by unfold inR; omega) hQ
theorem c_Pb_isSlot {l : Launch} {E : En} {d : Nat} {I : It} {L : Lt} {R : Rt} {Z : Zt} {Q : Qt} {x : Int32} (hQ : Q (some (vi (bI (inR x 5)))) I L R Z) : AMet l E d M_Pb_isSlot [vi x] I L R Z Q := by
  have hT := nT (n := 5) (by decide)
  refine AMet.of mf_Pb_isSlot rfl (Nat.le_of_ble_eq_true rfl) ?_
  refine aw_iload_n e_Pb_isSlot_0 rfl ?_
  refine awZ_if_lt e_Pb_isSlot_1 (fun h1 => ?_) (fun h1 => ?_)
  · refine aw_iconst (v := nI 0) e_Pb_isSlot_13 (by decide) ?_
    first
      | exact awB_1 e_Pb_isSlot_14 (by unfold inR; omega) hQ
      | exact awB_0 e_Pb_isSlot_14 (by unfold inR; omega) hQ
  · refine aw_iload_n e_Pb_isSlot_4 rfl ?_
    refine aw_iconst (v := nI 5) e_Pb_isSlot_5 (by decide) ?_
    refine awZ_icmp_ge e_Pb_isSlot_6 (fun h6 => ?_) (fun h6 => ?_)
    · refine aw_iconst (v := nI 0) e_Pb_isSlot_13 (by decide) ?_
      first
        | exact awB_1 e_Pb_isSlot_14 (by unfold inR; omega) hQ
        | exact awB_0 e_Pb_isSlot_14 (by unfold inR; omega) hQ
    · refine aw_iconst (v := nI 1) e_Pb_isSlot_9 (by decide) ?_
      refine aw_goto e_Pb_isSlot_10 ?_
      first
        | exact awB_1 e_Pb_isSlot_14 (by unfold inR; omega) hQ
        | exact awB_0 e_Pb_isSlot_14 (by unfold inR; omega) hQ
theorem c_Ja_fill {l : Launch} {E : En} {d : Nat} {I : It} {L : Lt} {R : Rt} {Z : Zt} {Q : Qt} {x v : Nat} {t : Nat} (ht : t = 26) (hQ : ∀ I2, (∀ t i, ¬ (t = 26 ∧ i = x) → I2 t i = I t i) → (∀ c, c < 24 → I2 26 x c = nI v) → Q none I2 L R Z) : AMet l E d M_Ja_fill [vr 26 x, vi (nI v)] I L R Z Q := by
  refine AMet.of mf_Ja_fill rfl (Nat.le_of_ble_eq_true rfl) ?_
  refine aw_iconst (v := nI 0) e_Ja_fill_0 (by decide) ?_
  refine aw_ist2 e_Ja_fill_1 ?_
  refine aw_aload_n e_Ja_fill_2 rfl ?_
  refine aw_alen (v := nI 24) e_Ja_fill_3 rfl ?_
  refine aw_ist3 e_Ja_fill_4 ?_
  refine up_loop (P := fun i => ∀ I1, (∀ t j, ¬ (t = 26 ∧ j = x) → I1 t j = I t j) ∧ (∀ c, c < i → I1 26 x c = nI v) → AWq l E d M_Ja_fill Z 5 [some (vr 26 x), some (vi (nI v)), some (vi (nI i)), some (vi (nI 24))] [] I1 L R Z Q) (N := 24) (fun i hi ih I1 hv => ?_) 0 (by decide) I ⟨fun _ _ _ => rfl, fun c hc => absurd hc (Nat.not_lt_zero c)⟩
  refine aw_iload_n e_Ja_fill_5 rfl ?_
  refine aw_iload_n e_Ja_fill_6 rfl ?_
  refine awN_icmp_ge e_Ja_fill_7 (by omega) (by omega) (fun h7 => ?_) (fun h7 => ?_)
  · have hiN : i = 24 := by omega
    subst hiN
    exact aw_vret e_Ja_fill_20 rfl (hQ I1 hv.1 hv.2)
  · refine aw_aload_n e_Ja_fill_10 rfl ?_
    refine aw_iload_n e_Ja_fill_11 rfl ?_
    refine aw_iload_n e_Ja_fill_12 rfl ?_
    refine aw_iast e_Ja_fill_13 rfl (show _ < 24 by omega) (by omega) ?_
    refine aw_inc2 e_Ja_fill_14 (inc1 _) ?_
    refine aw_goto e_Ja_fill_17 ?_
    refine ih h7 _ ⟨fun t j hj => ?_, fun c hc => ?_⟩
    · rw [sI_n hj]
      exact hv.1 t j hj
    · rw [sI_s]
      unfold upd
      by_cases e : c = i
      · rw [if_pos e]
      · rw [if_neg e]
        exact hv.2 c (by omega)
theorem c_Sl_refusalFor {l : Launch} {E : En} {d : Nat} {I : It} {L : Lt} {R : Rt} {Z : Zt} {Q : Qt} {q th wn : Nat} (h0 : I 5 q 0 = nI th) (ht : th < 4) (hw : wn < 4) (hQ : Q (some (vi (if th = 0 then -1000000011 else if th = wn then nI 0 else -1000000012))) I L R Z) : AMet l E d M_Sl_refusalFor [vr 5 q, vi (nI wn)] I L R Z Q := by
  refine AMet.of mf_Sl_refusalFor rfl (Nat.le_of_ble_eq_true rfl) ?_
  refine aw_aload_n e_Sl_refusalFor_0 rfl ?_
  refine aw_getE e_Sl_refusalFor_1 fl_Sl_9 h0 ?_
  refine awN_if_ne e_Sl_refusalFor_4 (by omega) (fun h4 => ?_) (fun h4 => ?_)
  · refine aw_aload_n e_Sl_refusalFor_10 rfl ?_
    refine aw_getE e_Sl_refusalFor_11 fl_Sl_9 h0 ?_
    refine aw_iload_n e_Sl_refusalFor_14 rfl ?_
    refine awN_icmp_ne e_Sl_refusalFor_15 (by omega) (by omega) (fun h15 => ?_) (fun h15 => ?_)
    · refine aw_ldc (v := -1000000012) e_Sl_refusalFor_22 kc_Sl_30 ?_
      rw [if_neg h4] at hQ
      first
        | (rw [if_pos h15] at hQ; exact aw_iret e_Sl_refusalFor_24 rfl rfl hQ)
        | (rw [if_neg h15] at hQ; exact aw_iret e_Sl_refusalFor_24 rfl rfl hQ)
    · refine aw_iconst (v := nI 0) e_Sl_refusalFor_18 (by decide) ?_
      refine aw_goto e_Sl_refusalFor_19 ?_
      rw [if_neg h4] at hQ
      first
        | (rw [if_pos h15] at hQ; exact aw_iret e_Sl_refusalFor_24 rfl rfl hQ)
        | (rw [if_neg h15] at hQ; exact aw_iret e_Sl_refusalFor_24 rfl rfl hQ)
  · refine aw_ldc (v := -1000000011) e_Sl_refusalFor_7 kc_Sl_29 ?_
    rw [if_pos h4] at hQ
    exact aw_iret e_Sl_refusalFor_9 rfl rfl hQ
abbrev isSh (x : Int32) : Prop := 11 ≤ x.toInt ∧ x.toInt ≤ 99 ∧ ¬ x.toInt % 10 = 0
abbrev inRow (x y : Int32) (n : Nat) : Prop := 0 ≤ x.toInt ∧ 0 ≤ y.toInt ∧ y.toInt ≤ (n : Int) ∧ x.toInt ≤ (n : Int) - y.toInt
theorem c_Pb_isShare {l : Launch} {E : En} {d : Nat} {I : It} {L : Lt} {R : Rt} {Z : Zt} {Q : Qt} {x : Int32} (hQ : Q (some (vi (bI (isSh x)))) I L R Z) : AMet l E d M_Pb_isShare [vi x] I L R Z Q := by
  have hT1 : (nI 11).toInt = 11 := by decide
  have hT2 : (nI 99).toInt = 99 := by decide
  refine AMet.of mf_Pb_isShare rfl (Nat.le_of_ble_eq_true rfl) ?_
  refine aw_iload_n e_Pb_isShare_0 rfl ?_
  refine aw_bipush (v := nI 11) e_Pb_isShare_1 (by decide) ?_
  refine awZ_icmp_lt e_Pb_isShare_3 (fun h3 => ?_) (fun h3 => ?_)
  · refine aw_iconst (v := nI 0) e_Pb_isShare_23 (by decide) ?_
    first
      | exact awB_1 e_Pb_isShare_24 (by unfold isSh; omega) hQ
      | exact awB_0 e_Pb_isShare_24 (by unfold isSh; omega) hQ
  · refine aw_iload_n e_Pb_isShare_6 rfl ?_
    refine aw_bipush (v := nI 99) e_Pb_isShare_7 (by decide) ?_
    refine awZ_icmp_gt e_Pb_isShare_9 (fun h9 => ?_) (fun h9 => ?_)
    · refine aw_iconst (v := nI 0) e_Pb_isShare_23 (by decide) ?_
      first
        | exact awB_1 e_Pb_isShare_24 (by unfold isSh; omega) hQ
        | exact awB_0 e_Pb_isShare_24 (by unfold isSh; omega) hQ
    · obtain ⟨j, hj, rfl⟩ := inR_nI (x := x) (n := 100) ⟨by omega, by omega⟩
      have hT3 := nT (n := j) (by omega)
      refine aw_iload_n e_Pb_isShare_12 rfl ?_
      refine aw_bipush (v := nI 10) e_Pb_isShare_13 (by decide) ?_
      refine awN_irem e_Pb_isShare_15 (by omega) (by omega) (by omega) ?_
      refine awN_if_eq e_Pb_isShare_16 (by omega) (fun h16 => ?_) (fun h16 => ?_)
      · refine aw_iconst (v := nI 0) e_Pb_isShare_23 (by decide) ?_
        first
          | exact awB_1 e_Pb_isShare_24 (by unfold isSh; omega) hQ
          | exact awB_0 e_Pb_isShare_24 (by unfold isSh; omega) hQ
      · refine aw_iconst (v := nI 1) e_Pb_isShare_19 (by decide) ?_
        refine aw_goto e_Pb_isShare_20 ?_
        first
          | exact awB_1 e_Pb_isShare_24 (by unfold isSh; omega) hQ
          | exact awB_0 e_Pb_isShare_24 (by unfold isSh; omega) hQ
theorem c_Sh_hasRow {l : Launch} {E : En} {d : Nat} {I : It} {L : Lt} {R : Rt} {Z : Zt} {Q : Qt} {q sz : Nat} (hz1 : I 4 q 1 = nI sz) (hs : sz ≤ 24) {x y : Int32} (hQ : Q (some (vi (bI (inRow x y sz)))) I L R Z) : AMet l E d M_Sh_hasRow [vr 4 q, vi x, vi y] I L R Z Q := by
  have hT := nT (n := sz) (by omega)
  refine AMet.of mf_Sh_hasRow rfl (Nat.le_of_ble_eq_true rfl) ?_
  refine aw_iload_n e_Sh_hasRow_0 rfl ?_
  refine awZ_if_lt e_Sh_hasRow_1 (fun h1 => ?_) (fun h1 => ?_)
  · refine aw_iconst (v := nI 0) e_Sh_hasRow_30 (by decide) ?_
    first
      | exact awB_1 e_Sh_hasRow_31 (by unfold inRow; omega) hQ
      | exact awB_0 e_Sh_hasRow_31 (by unfold inRow; omega) hQ
  · refine aw_iload_n e_Sh_hasRow_4 rfl ?_
    refine awZ_if_lt e_Sh_hasRow_5 (fun h5 => ?_) (fun h5 => ?_)
    · refine aw_iconst (v := nI 0) e_Sh_hasRow_30 (by decide) ?_
      first
        | exact awB_1 e_Sh_hasRow_31 (by unfold inRow; omega) hQ
        | exact awB_0 e_Sh_hasRow_31 (by unfold inRow; omega) hQ
    · refine aw_iload_n e_Sh_hasRow_8 rfl ?_
      refine aw_aload_n e_Sh_hasRow_9 rfl ?_
      refine aw_getE e_Sh_hasRow_10 fl_Sh_19 hz1 ?_
      refine awZ_icmp_gt e_Sh_hasRow_13 (fun h13 => ?_) (fun h13 => ?_)
      · refine aw_iconst (v := nI 0) e_Sh_hasRow_30 (by decide) ?_
        first
          | exact awB_1 e_Sh_hasRow_31 (by unfold inRow; omega) hQ
          | exact awB_0 e_Sh_hasRow_31 (by unfold inRow; omega) hQ
      · obtain ⟨j, hj, rfl⟩ := inR_nI (x := y) (n := sz + 1) ⟨by omega, by omega⟩
        have hT3 := nT (n := j) (by omega)
        have hjs : j ≤ sz := by omega
        have hT4 := nT (n := sz - j) (by omega)
        refine aw_iload_n e_Sh_hasRow_16 rfl ?_
        refine aw_aload_n e_Sh_hasRow_17 rfl ?_
        refine aw_getE e_Sh_hasRow_18 fl_Sh_19 hz1 ?_
        refine aw_iload_n e_Sh_hasRow_21 rfl ?_
        refine awN_isub e_Sh_hasRow_22 (by omega) ?_
        refine awZ_icmp_gt e_Sh_hasRow_23 (fun h23 => ?_) (fun h23 => ?_)
        · refine aw_iconst (v := nI 0) e_Sh_hasRow_30 (by decide) ?_
          first
            | exact awB_1 e_Sh_hasRow_31 (by unfold inRow; omega) hQ
            | exact awB_0 e_Sh_hasRow_31 (by unfold inRow; omega) hQ
        · refine aw_iconst (v := nI 1) e_Sh_hasRow_26 (by decide) ?_
          refine aw_goto e_Sh_hasRow_27 ?_
          first
            | exact awB_1 e_Sh_hasRow_31 (by unfold inRow; omega) hQ
            | exact awB_0 e_Sh_hasRow_31 (by unfold inRow; omega) hQ
theorem c_Sh_become {l : Launch} {E : En} {d : Nat} {I : It} {L : Lt} {R : Rt} {Z : Zt} {Q : Qt} {q : Nat} {so sz : Int32} (hS : Sta R) (hq : q < 9) (hQ : ∀ I2, (∀ t i, ¬ ((t = 4 ∨ t = 26) ∧ i = q) → I2 t i = I t i) → I2 4 q 0 = so → I2 4 q 1 = sz → (∀ c, c < 24 → I2 26 q c = nI 0) → Q none I2 L R Z) : AMet l E (d + 1) M_Sh_become [vr 4 q, vi so, vi sz] I L R Z Q := by
  refine AMet.of mf_Sh_become rfl (Nat.le_of_ble_eq_true rfl) ?_
  refine aw_aload_n e_Sh_become_0 rfl ?_
  refine aw_iload_n e_Sh_become_1 rfl ?_
  refine aw_putI e_Sh_become_2 fl_Sh_9 ?_
  refine aw_aload_n e_Sh_become_5 rfl ?_
  refine aw_iload_n e_Sh_become_6 rfl ?_
  refine aw_putI e_Sh_become_7 fl_Sh_19 ?_
  refine aw_aload_n e_Sh_become_10 rfl ?_
  refine aw_getR e_Sh_become_11 fl_Sh_15 (hS.1 _ _ _ _ rfl) ?_
  refine aw_iconst (v := nI 0) e_Sh_become_14 (by decide) ?_
  refine aw_cS2 e_Sh_become_15 ml_Sh_22 mf_Ja_fill ms_Ja_fill (c_Ja_fill (v := 0) (t := 26) rfl (fun I2 hf2 hz2 => ?_))
  refine aw_vret e_Sh_become_18 rfl (hQ I2 (fun t i hti => ?_) ?_ ?_ hz2)
  · rw [hf2 t i (by omega), sI_n (by omega), sI_n (by omega)]
  · rw [hf2 4 q (by omega), sI_s, upd, if_neg (by decide), sI_s, upd, if_pos rfl]
  · rw [hf2 4 q (by omega), sI_s, upd, if_pos rfl]
theorem c_Jm_min {l : Launch} {E : En} {d : Nat} {I : It} {L : Lt} {R : Rt} {Z : Zt} {Q : Qt} {x y : Nat} (hx : x < 2147483648) (hy : y < 2147483648) (hQ : Q (some (vi (nI (if x ≤ y then x else y)))) I L R Z) : AMet l E d M_Jm_min [vi (nI x), vi (nI y)] I L R Z Q := by
  refine AMet.of mf_Jm_min rfl (Nat.le_of_ble_eq_true rfl) ?_
  refine aw_iload_n e_Jm_min_0 rfl ?_
  refine aw_iload_n e_Jm_min_1 rfl ?_
  refine awN_icmp_gt e_Jm_min_2 (by omega) (by omega) (fun h2 => ?_) (fun h2 => ?_)
  · refine aw_iload_n e_Jm_min_9 rfl ?_
    first
      | (rw [if_pos (by omega)] at hQ; exact aw_iret e_Jm_min_10 rfl rfl hQ)
      | (rw [if_neg (by omega)] at hQ; exact aw_iret e_Jm_min_10 rfl rfl hQ)
  · refine aw_iload_n e_Jm_min_5 rfl ?_
    refine aw_goto e_Jm_min_6 ?_
    first
      | (rw [if_pos (by omega)] at hQ; exact aw_iret e_Jm_min_10 rfl rfl hQ)
      | (rw [if_neg (by omega)] at hQ; exact aw_iret e_Jm_min_10 rfl rfl hQ)
theorem cpI_n {I : It} {t i sp t2 i2 dp n t3 i3 : Nat} (h : ¬ (t3 = t2 ∧ i3 = i2)) : cpI I t i sp t2 i2 dp n t3 i3 = I t3 i3 := by funext k; unfold cpI; rw [if_neg h]
theorem c_Sh_takeFrom {l : Launch} {E : En} {d : Nat} {I : It} {L : Lt} {R : Rt} {Z : Zt} {Q : Qt} {q p : Nat} (hS : Sta R) (hq : q < 9) (hp : p < 9) (hQ : ∀ I2, (∀ t i, ¬ ((t = 4 ∨ t = 26) ∧ i = q) → I2 t i = I t i) → I2 4 q 0 = I 4 p 0 → I2 4 q 1 = I 4 p 1 → (∀ c, c < 24 → I2 26 q c = I 26 p c) → Q none I2 L R Z) : AMet l E (d + 1) M_Sh_takeFrom [vr 4 q, vr 4 p] I L R Z Q := by
  refine AMet.of mf_Sh_takeFrom rfl (Nat.le_of_ble_eq_true rfl) ?_
  refine aw_aload_n e_Sh_takeFrom_0 rfl ?_
  refine aw_aload_n e_Sh_takeFrom_1 rfl ?_
  refine aw_getI e_Sh_takeFrom_2 fl_Sh_9 ?_
  refine aw_putI e_Sh_takeFrom_5 fl_Sh_9 ?_
  refine aw_aload_n e_Sh_takeFrom_8 rfl ?_
  refine aw_aload_n e_Sh_takeFrom_9 rfl ?_
  refine aw_getI e_Sh_takeFrom_10 fl_Sh_19 ?_
  refine aw_putI e_Sh_takeFrom_13 fl_Sh_19 ?_
  refine aw_aload_n e_Sh_takeFrom_16 rfl ?_
  refine aw_getR e_Sh_takeFrom_17 fl_Sh_15 (hS.1 _ _ _ _ rfl) ?_
  refine aw_iconst (v := nI 0) e_Sh_takeFrom_20 (by decide) ?_
  refine aw_aload_n e_Sh_takeFrom_21 rfl ?_
  refine aw_getR e_Sh_takeFrom_22 fl_Sh_15 (hS.1 _ _ _ _ rfl) ?_
  refine aw_iconst (v := nI 0) e_Sh_takeFrom_25 (by decide) ?_
  refine aw_bipush (v := nI 24) e_Sh_takeFrom_26 (by decide) ?_
  refine aw_acopy e_Sh_takeFrom_28 ml_Sh_28 ay_n ay_s ii_Jy rfl rfl rfl (show _ ≤ 24 by decide) (show _ ≤ 24 by decide) (by decide) (by decide) ?_
  refine aw_vret e_Sh_takeFrom_31 rfl (hQ _ (fun t i hti => ?_) ?_ ?_ (fun c hc => ?_))
  · rw [cpI_n (by omega), sI_n (by omega), sI_n (by omega)]
  · rw [cpI_n (by omega), sI_s, upd, if_neg (by decide), sI_s, upd, if_pos rfl]
  · rw [cpI_n (by omega), sI_s, upd, if_pos rfl]
    by_cases e : p = q
    · rw [e, sI_s, upd, if_neg (by decide)]
    · rw [sI_n (by omega)]
  · show (if 26 = 26 ∧ q = q then va_cpy _ _ 0 0 24 c else _) = _
    rw [if_pos ⟨rfl, rfl⟩, va_cpy, if_pos (by omega), sI_n (by omega), sI_n (by omega), Nat.zero_add, Nat.sub_zero]
