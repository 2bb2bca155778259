/-! ===== the tape: words told by strings, a text made ===== -/
def chr (i k : Nat) : Nat := (([[103, 105, 118, 101], [114, 101, 97, 100]] : List (List Nat)).getD i []).getD k 0
theorem chr_ok : ∀ i, i < 2 → ∀ k, k < 4 → (((sby.getD i []).getD k 0 &&& nI 255).toUInt32 % 65536).toInt32 = nI (chr i k) ∧ chr i k < 65536 := by decide +kernel
def wdB (t : TB) (x : Wd) (i : Nat) : Bool := (x.2.2 == 1 && decide (x.2.1 - x.1 = 4)) && allB (fun k => decide (t.2 (x.1 + k) = nI (chr i k))) 4
theorem wdB_iff {t : TB} {x : Wd} {i : Nat} : wdB t x i = true ↔ (x.2.2 = 1 ∧ x.2.1 - x.1 = 4) ∧ allB (fun k => decide (t.2 (x.1 + k) = nI (chr i k))) 4 = true := by unfold wdB; rw [Bool.and_eq_true, Bool.and_eq_true, beq_iff_eq, decide_eq_true_eq]
def kyI (t : TB) (x : Wd) : Int32 := if wdB t x 0 = true then nI 0 else if wdB t x 1 = true then nI 1 else -1
def W1 (t : TB) : Wd := nxW t (0, 0, 0)
def W2 (t : TB) : Wd := nxW t (W1 t)
def W3 (t : TB) : Wd := nxW t (W2 t)
def pk (t : TB) : Nat := if wdB t (W1 t) 0 = true then 0 else 1
def nW (t : TB) : Nat := numV t (W2 t).1 ((W2 t).2.1 - (W2 t).1)
def pR (t : TB) : Bool × Xs := rd t (pk t) 700 0 0 0 (W3 t, [], 0)
def pO1 (t : TB) : Prop := wdB t (W1 t) 0 = true ∨ wdB t (W1 t) 1 = true
def pO2 (t : TB) : Prop := isNb (W2 t) = true ∧ nW t < 12
def pO3 (t : TB) : Prop := (pR t).1 = true ∧ (pR t).2.1.2.2 = 0
def pG (t : TB) : Prop := pO1 t ∧ pO2 t ∧ pO3 t
def pV (t : TB) : TV := (pk t, nW t, (pR t).2.2.2, (pR t).2.2.1)
noncomputable def pPl (t : TB) : Nat := @ite _ (pO1 t) (Classical.propDecidable _) (@ite _ (pO2 t) (Classical.propDecidable _) (pR t).2.1.1 (W2 t).1) (W1 t).1
theorem pPl_1 {t : TB} (h : ¬ pO1 t) : pPl t = (W1 t).1 := by unfold pPl; exact if_neg h
theorem pPl_2 {t : TB} (h : pO1 t) (h2 : ¬ pO2 t) : pPl t = (W2 t).1 := by unfold pPl; rw [if_pos h, if_neg h2]
theorem pPl_3 {t : TB} (h : pO1 t) (h2 : pO2 t) : pPl t = (pR t).2.1.1 := by unfold pPl; rw [if_pos h, if_pos h2]
theorem pK_lt (t : TB) : pk t < 2 := by unfold pk; split <;> decide
theorem W1_ok (t : TB) : WdO t (W1 t) := (nxW_ok (x := (0, 0, 0)) (Nat.zero_le _)).1
theorem W2_ok (t : TB) : WdO t (W2 t) ∧ (W1 t).2.1 ≤ (W2 t).1 := nxW_ok (W1_ok t).2.1
theorem W3_ok (t : TB) : WdO t (W3 t) ∧ (W2 t).2.1 ≤ (W3 t).1 := nxW_ok (W2_ok t).1.2.1
theorem nx_gap {t : TB} {x : Wd} (h : x.2.2 = 1) (h2 : (nxW t x).2.2 = 2) (hb : x.2.1 ≤ t.1) : x.2.1 < (nxW t x).1 := by
  have hs := (skp_sp hb).1
  unfold nxW at *
  by_cases h0 : srt t (skp t x.2.1) = 0
  · rw [if_pos h0] at h2; exact absurd (show (0 : Nat) = 2 from h2) (by decide)
  · rw [if_neg h0] at h2 ⊢
    by_cases h3 : srt t (skp t x.2.1) = 3
    · rw [if_pos h3] at h2; exact absurd (show (3 : Nat) = 2 from h2) (by decide)
    · rw [if_neg h3] at h2 ⊢
      have h4 : (if (x.2.2 = 1 ∨ x.2.2 = 2) ∧ skp t x.2.1 = x.2.1 then 4 else srt t (skp t x.2.1)) = 2 := h2
      show x.2.1 < skp t x.2.1
      by_cases e : skp t x.2.1 = x.2.1
      · rw [if_pos ⟨Or.inl h, e⟩] at h4; omega
      · omega
theorem pO1_w {t : TB} (h : pO1 t) : (W1 t).2.2 = 1 ∧ (W1 t).2.1 - (W1 t).1 = 4 := h.elim (fun z => (wdB_iff.1 z).1) (fun z => (wdB_iff.1 z).1)
theorem WFT_p {t : TB} (ht : t.1 ≤ 96) (h : pG t) : WFT (pV t) := by
  obtain ⟨h1, h2, h3⟩ := h
  have hw := pO1_w h1
  have hn := isNb_iff.1 h2.1
  have hg : (W1 t).2.1 < (W2 t).1 := nx_gap hw.1 hn.1 (W1_ok t).2.1
  have h2l := (W2_ok t).1.2.2.2.1 (by rw [hn.1]; decide)
  have h3l := (W3_ok t).2
  obtain ⟨s, a, b, c, d, e, f, g, w, j⟩ := rd_ok (t := t) (key := pk t) 700 0 0 0 (W3 t, [], 0) (by omega) (W3_ok t).1 h3.1
  have hs : (pR t).2.2.1 = s := a
  have e2 : s.length + (W3 t).1 ≤ (pR t).2.1.1 := e
  have w1 : (pR t).2.1.1 ≤ (pR t).2.1.2.1 := w.1
  have w2 : (pR t).2.1.2.1 ≤ t.1 := w.2.1
  have g2 : (pR t).2.2.2 ≤ 0 + s.length := g
  refine ⟨pK_lt t, h2.2, by show (pR t).2.2.2 ≤ 96; omega, by show (pR t).2.2.1.length ≤ 90; rw [hs]; omega, fun q hq => ?_, by show hgt (pR t).2.2.1 0 = some 1; rw [hs]; exact c (by decide) 0, fun q hq => ?_⟩
  · have hq2 : q ∈ (pR t).2.2.1 := hq
    rw [hs] at hq2; exact (b q hq2).1
  · have hq2 : q ∈ (pR t).2.2.1 := hq
    rw [hs] at hq2; exact (b q hq2).2
theorem c_Js_coder {l : Launch} {E : En} {d : Nat} {I : It} {L : Lt} {R : Rt} {Z : Zt} {Q : Qt} {i : Nat} (hi : i < 2) (hQ : Q (some (vi 0)) I L R Z) : AMet l E d M_Js_coder [vr 51 i] I L R Z Q := by
  refine AMet.of mf_Js_coder rfl (Nat.le_of_ble_eq_true rfl) ?_
  refine aw_gsCS e_Js_coder_0 fx_Js_38 ?_
  refine aw_if_eq e_Js_coder_3 (fun h3 => ?_) (fun h3 => ?_)
  · exact absurd h3 (by decide)
  · refine aw_aload_n e_Js_coder_6 rfl ?_
    refine aw_strC e_Js_coder_7 fx_Js_15 (by omega) ?_
    refine aw_goto e_Js_coder_10 ?_
    exact aw_iret e_Js_coder_14 rfl rfl hQ
theorem c_Js_length {l : Launch} {E : En} {d : Nat} {I : It} {L : Lt} {R : Rt} {Z : Zt} {Q : Qt} {i : Nat} (hi : i < 2) (hQ : Q (some (vi (nI 4))) I L R Z) : AMet l E (d + 1) M_Js_length [vr 51 i] I L R Z Q := by
  refine AMet.of mf_Js_length rfl (Nat.le_of_ble_eq_true rfl) ?_
  refine aw_aload_n e_Js_length_0 rfl ?_
  refine aw_strV e_Js_length_1 fx_Js_9 (by omega) ?_
  refine aw_strLen e_Js_length_4 (by omega) ?_
  refine aw_aload_n e_Js_length_5 rfl ?_
  refine aw_cVS0 e_Js_length_6 ml_Js_335 mf_Js_coder mv_Js_coder (by omega) (c_Js_coder hi ?_)
  refine aw_ishr e_Js_length_9 ?_
  rw [show (nI 4 : Int32) >>> ((0 : Int32) &&& 31) = nI 4 by decide]
  exact aw_iret e_Js_length_10 rfl rfl hQ
theorem c_Js_isLatin1 {l : Launch} {E : En} {d : Nat} {I : It} {L : Lt} {R : Rt} {Z : Zt} {Q : Qt} {i : Nat} (hi : i < 2) (hQ : Q (some (vi (nI 1))) I L R Z) : AMet l E d M_Js_isLatin1 [vr 51 i] I L R Z Q := by
  refine AMet.of mf_Js_isLatin1 rfl (Nat.le_of_ble_eq_true rfl) ?_
  refine aw_gsCS e_Js_isLatin1_0 fx_Js_38 ?_
  refine aw_if_eq e_Js_isLatin1_3 (fun h3 => ?_) (fun h3 => ?_)
  · exact absurd h3 (by decide)
  · refine aw_aload_n e_Js_isLatin1_6 rfl ?_
    refine aw_strC e_Js_isLatin1_7 fx_Js_15 (by omega) ?_
    refine aw_if_ne e_Js_isLatin1_10 (fun h10 => ?_) (fun h10 => ?_)
    · exact absurd rfl h10
    · refine aw_iconst (v := nI 1) e_Js_isLatin1_13 (by decide) ?_
      refine aw_goto e_Js_isLatin1_14 ?_
      exact aw_iret e_Js_isLatin1_18 rfl rfl hQ
theorem c_Jp_checkIndex {l : Launch} {E : En} {d : Nat} {I : It} {L : Lt} {R : Rt} {Z : Zt} {Q : Qt} {a b : Nat} {r : Option (Nat × Nat)} (hb : b < 2147483648) (hab : a < b) (hQ : Q (some (vi (nI a))) I L R Z) : AMet l E d M_Jp_checkIndex [vi (nI a), vi (nI b), vo r] I L R Z Q := by
  refine AMet.of mf_Jp_checkIndex rfl (Nat.le_of_ble_eq_true rfl) ?_
  refine aw_iload_n e_Jp_checkIndex_0 rfl ?_
  refine awN_if_lt e_Jp_checkIndex_1 (by omega) ?_
  refine aw_iload_n e_Jp_checkIndex_4 rfl ?_
  refine aw_iload_n e_Jp_checkIndex_5 rfl ?_
  refine awN_icmp_lt e_Jp_checkIndex_6 (by omega) (by omega) (fun h6 => ?_) (fun h6 => ?_)
  · refine aw_iload_n e_Jp_checkIndex_16 rfl ?_
    exact aw_iret e_Jp_checkIndex_17 rfl rfl hQ
  · exact absurd h6 (by omega)
theorem c_Js_checkIndex {l : Launch} {E : En} {d : Nat} {I : It} {L : Lt} {R : Rt} {Z : Zt} {Q : Qt} {a b : Nat} (hb : b < 2147483648) (hab : a < b) (hQ : Q none I L R Z) : AMet l E (d + 1) M_Js_checkIndex [vi (nI a), vi (nI b)] I L R Z Q := by
  refine AMet.of mf_Js_checkIndex rfl (Nat.le_of_ble_eq_true rfl) ?_
  refine aw_iload_n e_Js_checkIndex_0 rfl ?_
  refine aw_iload_n e_Js_checkIndex_1 rfl ?_
  refine aw_gsFm e_Js_checkIndex_2 fx_Js_1053 (fun rf => ?_)
  refine aw_cS3 e_Js_checkIndex_5 ml_Js_1059 mf_Jp_checkIndex ms_Jp_checkIndex (c_Jp_checkIndex hb hab ?_)
  refine aw_pop e_Js_checkIndex_8 rfl ?_
  exact aw_vret e_Js_checkIndex_9 rfl hQ
theorem c_Jl_charAt {l : Launch} {E : En} {d : Nat} {I : It} {L : Lt} {R : Rt} {Z : Zt} {Q : Qt} {i k : Nat} (hi : i < 2) (hk : k < 4) (hQ : Q (some (vi (nI (chr i k)))) I L R Z) : AMet l E (d + 2) M_Jl_charAt [vr 52 i, vi (nI k)] I L R Z Q := by
  have hch := chr_ok i hi k hk
  refine AMet.of mf_Jl_charAt rfl (Nat.le_of_ble_eq_true rfl) ?_
  refine aw_iload_n e_Jl_charAt_0 rfl ?_
  refine aw_aload_n e_Jl_charAt_1 rfl ?_
  refine aw_strLen e_Jl_charAt_2 (by omega) ?_
  refine aw_cS2 e_Jl_charAt_3 ml_Jl_9 mf_Js_checkIndex ms_Js_checkIndex (c_Js_checkIndex (by decide) hk ?_)
  refine aw_aload_n e_Jl_charAt_6 rfl ?_
  refine aw_iload_n e_Jl_charAt_7 rfl ?_
  refine aw_strB e_Jl_charAt_8 (by omega) rfl (by omega) ?_
  refine aw_sipush (v := nI 255) e_Jl_charAt_9 (by decide) ?_
  refine aw_iand e_Jl_charAt_12 ?_
  refine aw_i2c e_Jl_charAt_13 ?_
  rw [hch.1]
  exact aw_iret e_Jl_charAt_14 rfl (pk_charN hch.2).1 hQ
theorem c_Js_charAt {l : Launch} {E : En} {d : Nat} {I : It} {L : Lt} {R : Rt} {Z : Zt} {Q : Qt} {i k : Nat} (hi : i < 2) (hk : k < 4) (hQ : Q (some (vi (nI (chr i k)))) I L R Z) : AMet l E (d + 3) M_Js_charAt [vr 51 i, vi (nI k)] I L R Z Q := by
  have hch := chr_ok i hi k hk
  refine AMet.of mf_Js_charAt rfl (Nat.le_of_ble_eq_true rfl) ?_
  refine aw_aload_n e_Js_charAt_0 rfl ?_
  refine aw_cVS0 e_Js_charAt_1 ml_Js_492 mf_Js_isLatin1 mv_Js_isLatin1 (by omega) (c_Js_isLatin1 hi ?_)
  refine awN_if_eq e_Js_charAt_4 (by omega) (fun h4 => ?_) (fun h4 => ?_)
  · exact absurd h4 (by decide)
  · refine aw_aload_n e_Js_charAt_7 rfl ?_
    refine aw_strV e_Js_charAt_8 fx_Js_9 (by omega) ?_
    refine aw_iload_n e_Js_charAt_11 rfl ?_
    refine aw_cS2 e_Js_charAt_12 ml_Js_495 mf_Jl_charAt ms_Jl_charAt (c_Jl_charAt hi hk ?_)
    exact aw_iret e_Js_charAt_15 rfl (pk_charN hch.2).1 hQ
theorem c_Ta_isWord {l : Launch} {E : En} {d : Nat} {I : It} {L : Lt} {R : Rt} {Z : Zt} {Q : Qt} {t : TB} {x : Wd} (hS : Sta R) (hT : TP I t) (hL : LW I x) (hO : WdO t x) {i : Nat} (hi : i < 2) (hQ : Q (some (vi (bI (wdB t x i = true)))) I L R Z) : AMet l E (d + 4) M_Ta_isWord [vr 6 0, vr 51 i] I L R Z Q := by
  have hT1 := hT.2.1
  have hO1 := hO.1
  have hO2 := hO.2.1
  have hO3 := hO.2.2.1
  refine AMet.of mf_Ta_isWord rfl (Nat.le_of_ble_eq_true rfl) ?_
  refine aw_aload_n e_Ta_isWord_0 rfl ?_
  refine aw_getE e_Ta_isWord_1 fl_Ta_26 hL.2.2 ?_
  refine aw_iconst (v := nI 1) e_Ta_isWord_4 (by decide) ?_
  refine awN_icmp_ne e_Ta_isWord_5 (by omega) (by omega) (fun h5 => ?_) (fun h5 => ?_)
  · refine aw_iconst (v := nI 0) e_Ta_isWord_24 (by decide) ?_
    first
      | exact awB_0 e_Ta_isWord_25 (fun z => h5 (wdB_iff.1 z).1.1) hQ
      | exact awB_0 e_Ta_isWord_25 (fun z => h21 (wdB_iff.1 z).1.2) hQ
  · refine aw_aload_n e_Ta_isWord_8 rfl ?_
    refine aw_getE e_Ta_isWord_9 fl_Ta_23 hL.2.1 ?_
    refine aw_aload_n e_Ta_isWord_12 rfl ?_
    refine aw_getE e_Ta_isWord_13 fl_Ta_63 hL.1 ?_
    refine awN_isub e_Ta_isWord_16 (by omega) ?_
    refine aw_aload_n e_Ta_isWord_17 rfl ?_
    refine aw_cVS0 e_Ta_isWord_18 ml_Ta_78 mf_Js_length mv_Js_length (by omega) (c_Js_length hi ?_)
    refine awN_icmp_eq e_Ta_isWord_21 (by omega) (by omega) (fun h21 => ?_) (fun h21 => ?_)
    · refine aw_iconst (v := nI 0) e_Ta_isWord_26 (by decide) ?_
      refine aw_ist2 e_Ta_isWord_27 ?_
      refine up_loop (P := fun k => allB (fun k => decide (t.2 (x.1 + k) = nI (chr i k))) k = true → AWq l E (d + 4) M_Ta_isWord Z 28 [some (vr 6 0), some (vr 51 i), some (vi (nI k))] [] I L R Z Q) (N := 4) (fun k hk ih ha => ?_) 0 (by decide) rfl
      refine aw_iload_n e_Ta_isWord_28 rfl ?_
      refine aw_aload_n e_Ta_isWord_29 rfl ?_
      refine aw_cVS0 e_Ta_isWord_30 ml_Ta_78 mf_Js_length mv_Js_length (by omega) (c_Js_length hi ?_)
      refine awN_icmp_ge e_Ta_isWord_33 (by omega) (by omega) (fun h33 => ?_) (fun h33 => ?_)
      · refine aw_iconst (v := nI 1) e_Ta_isWord_63 (by decide) ?_
        obtain rfl : k = 4 := by omega
        exact awB_1 e_Ta_isWord_64 (wdB_iff.2 ⟨⟨h5, h21⟩, ha⟩) hQ
      · refine aw_aload_n e_Ta_isWord_36 rfl ?_
        refine aw_getR e_Ta_isWord_37 fl_Ta_9 (hS.1 _ _ _ _ rfl) ?_
        refine aw_aload_n e_Ta_isWord_40 rfl ?_
        refine aw_getE e_Ta_isWord_41 fl_Ta_63 hL.1 ?_
        refine aw_iload_n e_Ta_isWord_44 rfl ?_
        first | refine awN_iadd e_Ta_isWord_45 ?_ | refine aw_iadd e_Ta_isWord_45 ?_
        refine aw_balE e_Ta_isWord_46 rfl (show _ < 96 by omega) (by omega) (hT.2.2 _ (by omega)) ?_
        refine aw_aload_n e_Ta_isWord_47 rfl ?_
        refine aw_iload_n e_Ta_isWord_48 rfl ?_
        refine aw_cVS1 e_Ta_isWord_49 ml_Ta_83 mf_Js_charAt mv_Js_charAt (by omega) (c_Js_charAt hi h33 ?_)
        refine aw_icmp_eq e_Ta_isWord_52 (fun h52 => ?_) (fun h52 => ?_)
        · refine aw_inc2 e_Ta_isWord_57 (inc1 _) ?_
          refine aw_goto e_Ta_isWord_60 ?_
          exact ih h33 (allB_s.2 ⟨ha, decide_eq_true h52⟩)
        · refine aw_iconst (v := nI 0) e_Ta_isWord_55 (by decide) ?_
          exact awB_0 e_Ta_isWord_56 (fun z => h52 (of_decide_eq_true ((allB_iff _ _).1 (wdB_iff.1 z).2 k (by omega)))) hQ
    · refine aw_iconst (v := nI 0) e_Ta_isWord_24 (by decide) ?_
      first
        | exact awB_0 e_Ta_isWord_25 (fun z => h5 (wdB_iff.1 z).1.1) hQ
        | exact awB_0 e_Ta_isWord_25 (fun z => h21 (wdB_iff.1 z).1.2) hQ
theorem c_Ta_keyHere {l : Launch} {E : En} {d : Nat} {I : It} {L : Lt} {R : Rt} {Z : Zt} {Q : Qt} {t : TB} {x : Wd} (hS : Sta R) (hT : TP I t) (hL : LW I x) (hO : WdO t x) (hQ : Q (some (vi (kyI t x))) I L R Z) : AMet l E (d + 5) M_Ta_keyHere [vr 6 0] I L R Z Q := by
  unfold kyI at hQ
  refine AMet.of mf_Ta_keyHere rfl (Nat.le_of_ble_eq_true rfl) ?_
  refine aw_aload_n e_Ta_keyHere_0 rfl ?_
  refine aw_ldcG e_Ta_keyHere_1 rfl ?_
  refine aw_cV1 e_Ta_keyHere_3 ml_Ta_72 mf_Ta_isWord mv_Ta_isWord (c_Ta_isWord hS hT hL hO (by decide) ?_)
  refine awB_eq e_Ta_keyHere_6 (fun h6 => ?_) (fun h6 => ?_)
  · refine aw_aload_n e_Ta_keyHere_11 rfl ?_
    refine aw_ldcR e_Ta_keyHere_12 rfl ?_
    refine aw_cV1 e_Ta_keyHere_14 ml_Ta_72 mf_Ta_isWord mv_Ta_isWord (c_Ta_isWord hS hT hL hO (by decide) ?_)
    refine awB_eq e_Ta_keyHere_17 (fun h17 => ?_) (fun h17 => ?_)
    · refine aw_iconst (v := -1) e_Ta_keyHere_24 (by decide) ?_
      first
        | (rw [if_neg h6, if_pos h17] at hQ; exact aw_iret e_Ta_keyHere_25 rfl rfl hQ)
        | (rw [if_neg h6, if_neg h17] at hQ; exact aw_iret e_Ta_keyHere_25 rfl rfl hQ)
    · refine aw_iconst (v := nI 1) e_Ta_keyHere_20 (by decide) ?_
      refine aw_goto e_Ta_keyHere_21 ?_
      first
        | (rw [if_neg h6, if_pos h17] at hQ; exact aw_iret e_Ta_keyHere_25 rfl rfl hQ)
        | (rw [if_neg h6, if_neg h17] at hQ; exact aw_iret e_Ta_keyHere_25 rfl rfl hQ)
  · refine aw_iconst (v := nI 0) e_Ta_keyHere_9 (by decide) ?_
    rw [if_pos h6] at hQ
    exact aw_iret e_Ta_keyHere_10 rfl rfl hQ
theorem c_Ja_copyOf {l : Launch} {E : En} {d : Nat} {I : It} {L : Lt} {R : Rt} {Z : Zt} {Q : Qt} {n xn : Nat} (hn : n ≤ 95) (hw : who Z.2.1 = (27, xn)) (hI : ∀ f, I 27 xn f = 0) (hL0 : ∀ f, L 27 xn f = 0) (hR : ∀ f, R 27 xn f = none) (hQ : Q (some (vr 27 xn)) (cpI I 21 0 0 27 xn 0 n) L R ((fun y => if y = xn then n else Z.1 y), Z.2.1 + 1, Z.2.2 + n)) : AMet l E (d + 1) M_Ja_copyOf [vr 21 0, vi (nI n)] I L R Z Q := by
  refine AMet.of mf_Ja_copyOf rfl (Nat.le_of_ble_eq_true rfl) ?_
  refine aw_iload_n e_Ja_copyOf_0 rfl ?_
  refine aw_aload_n e_Ja_copyOf_1 rfl ?_
  refine aw_alen (v := nI 96) e_Ja_copyOf_2 rfl ?_
  refine awN_icmp_ne e_Ja_copyOf_3 (by omega) (by omega) (fun h3 => ?_) (fun h3 => ?_)
  · refine aw_iload_n e_Ja_copyOf_14 rfl ?_
    refine aw_newa (len2 := (fun y => if y = xn then n else Z.1 y)) 27 xn n e_Ja_copyOf_15 ac_int rfl (by omega) hw hI hL0 hR (by show (if xn = xn then n else Z.1 xn) = n; rw [if_pos rfl]) (fun t2 i2 h2 => ?_) ?_
    · unfold alen
      by_cases e : t2 = 27
      · rw [if_pos e, if_pos e]
        show (if i2 = xn then n else Z.1 i2) = Z.1 i2
        rw [if_neg (fun z => h2 ⟨e, z⟩)]
      · rw [if_neg e, if_neg e]
    refine aw_ast2 e_Ja_copyOf_17 ?_
    refine aw_aload_n e_Ja_copyOf_18 rfl ?_
    refine aw_iconst (v := nI 0) e_Ja_copyOf_19 (by decide) ?_
    refine aw_aload_n e_Ja_copyOf_20 rfl ?_
    refine aw_iconst (v := nI 0) e_Ja_copyOf_21 (by decide) ?_
    refine aw_aload_n e_Ja_copyOf_22 rfl ?_
    refine aw_alen (v := nI 96) e_Ja_copyOf_23 rfl ?_
    refine aw_iload_n e_Ja_copyOf_24 rfl ?_
    refine aw_cS2 e_Ja_copyOf_25 ml_Ja_304 mf_Jm_min ms_Jm_min (c_Jm_min (by decide) (by omega) ?_)
    rw [show (if 96 ≤ n then 96 else n) = n from if_neg (by omega)]
    refine aw_acopy e_Ja_copyOf_28 ml_Ja_150 ay_n ay_s ii_Jy rfl rfl rfl (show _ ≤ 96 by omega) (show 0 + n ≤ (if xn = xn then n else Z.1 xn) by rw [if_pos rfl]; omega) (by omega) (by decide) ?_
    refine aw_aload_n e_Ja_copyOf_31 rfl ?_
    exact aw_aret (r := some (27, xn)) e_Ja_copyOf_32 rfl (Or.inr ⟨_, rfl⟩) hQ
  · exact absurd h3 (by omega)
theorem c_Tx_init {l : Launch} {E : En} {d : Nat} {I : It} {L : Lt} {R : Rt} {Z : Zt} {Q : Qt} {xn : Nat} {a b c : Int32} (hQ : Q none (sI (sI (sI I 7 xn 0 a) 7 xn 1 b) 7 xn 2 c) L (sR R 7 xn 3 (some (27, xn))) Z) : AMet l E (d + 1) M_Tx_init [vr 7 xn, vi a, vi b, vi c, vr 27 xn] I L R Z Q := by
  refine AMet.of mf_Tx_init rfl (Nat.le_of_ble_eq_true rfl) ?_
  refine aw_aload_n e_Tx_init_0 rfl ?_
  refine aw_objInit e_Tx_init_1 ml_Tx_1 oi_i oi_c (by decide) ?_
  refine aw_aload_n e_Tx_init_4 rfl ?_
  refine aw_iload_n e_Tx_init_5 rfl ?_
  refine aw_putI e_Tx_init_6 fl_Tx_7 ?_
  refine aw_aload_n e_Tx_init_9 rfl ?_
  refine aw_iload_n e_Tx_init_10 rfl ?_
  refine aw_putI e_Tx_init_11 fl_Tx_13 ?_
  refine aw_aload_n e_Tx_init_14 rfl ?_
  refine aw_iload_n e_Tx_init_15 rfl ?_
  refine aw_putI e_Tx_init_16 fl_Tx_16 ?_
  refine aw_aload_n e_Tx_init_19 rfl ?_
  refine aw_aload e_Tx_init_20 rfl ?_
  refine aw_putR e_Tx_init_22 fl_Tx_19 ?_
  exact aw_vret e_Tx_init_25 rfl hQ
