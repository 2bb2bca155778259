/-! ===== the tape: a text read ===== -/
theorem nbI_n {t : TB} {x : Wd} (h : ¬ isNb x = true) : nbI t x = -1 := if_neg h
theorem nbI_y {t : TB} {x : Wd} (h : isNb x = true) : nbI t x = nI (numV t x.1 (x.2.1 - x.1)) := if_pos h
theorem kyI_n {t : TB} (h : ¬ pO1 t) : kyI t (W1 t) = -1 := by unfold kyI; rw [if_neg (fun z => h (Or.inl z)), if_neg (fun z => h (Or.inr z))]
theorem kyI_y {t : TB} (h : pO1 t) : kyI t (W1 t) = nI (pk t) := by
  unfold kyI pk
  by_cases e : wdB t (W1 t) 0 = true
  · rw [if_pos e, if_pos e]
  · rw [if_neg e, if_neg e, if_pos (h.resolve_left e)]
theorem c_Ta_parse {l : Launch} {E : En} {d : Nat} {I : It} {L : Lt} {R : Rt} {Z : Zt} {Q : Qt} {t : TB} {xn : Nat} (hS : Sta R) (hT : TP I t) (hZ : Z.2.1 = 168 + 2 * xn) (hI7 : ∀ f, I 7 xn f = 0) (hR7 : ∀ f, R 7 xn f = none) (hI27 : ∀ f, I 27 xn f = 0) (hL27 : ∀ f, L 27 xn f = 0) (hR27 : ∀ f, R 27 xn f = none) (hQ1 : ¬ pG t → ∀ I2, fT I I2 → I2 6 0 1 = nI (pPl t) → Q (some vn) I2 L R Z) (hQ2 : pG t → ∀ I2, (∀ t i, ¬ ((t = 6 ∨ t = 21) ∧ i = 0) → ¬ ((t = 7 ∨ t = 27) ∧ i = xn) → I2 t i = I t i) → I2 6 0 0 = nI t.1 → TXo I2 (sR R 7 xn 3 (some (27, xn))) (fun y => if y = xn then (pR t).2.2.1.length else Z.1 y, Z.2.1 + 1 + 1, Z.2.2 + 4 + (pR t).2.2.1.length) xn (pV t) → Q (some (vr 7 xn)) I2 L (sR R 7 xn 3 (some (27, xn))) (fun y => if y = xn then (pR t).2.2.1.length else Z.1 y, Z.2.1 + 1 + 1, Z.2.2 + 4 + (pR t).2.2.1.length)) : AMet l E (d + 1410) M_Ta_parse [vr 6 0] I L R Z Q := by
  have hT96 := hT.2.1
  refine AMet.of mf_Ta_parse rfl (Nat.le_of_ble_eq_true rfl) ?_
  refine aw_aload_n e_Ta_parse_0 rfl ?_
  refine aw_iconst (v := nI 0) e_Ta_parse_1 (by decide) ?_
  refine aw_putI e_Ta_parse_2 fl_Ta_23 ?_
  refine aw_aload_n e_Ta_parse_5 rfl ?_
  refine aw_iconst (v := nI 0) e_Ta_parse_6 (by decide) ?_
  refine aw_putI e_Ta_parse_7 fl_Ta_26 ?_
  refine aw_aload_n e_Ta_parse_10 rfl ?_
  refine aw_iconst (v := nI 0) e_Ta_parse_11 (by decide) ?_
  refine aw_putI e_Ta_parse_12 fl_Ta_29 ?_
  refine aw_aload_n e_Ta_parse_15 rfl ?_
  refine aw_iconst (v := nI 0) e_Ta_parse_16 (by decide) ?_
  refine aw_putI e_Ta_parse_17 fl_Ta_32 ?_
  refine aw_aload_n e_Ta_parse_20 rfl ?_
  refine aw_cV0 e_Ta_parse_21 ml_Ta_35 mf_Ta_goOn mv_Ta_goOn (c_Ta_goOn (t := t) (x := (0, 0, 0)) hS ⟨by (repeat (rw [sI_ne (by decide)])); exact hT.1, hT.2.1, fun j hj => by (repeat (rw [sI_n (by decide)])); exact hT.2.2 j hj⟩ (by (repeat (rw [sI_ne (by decide)])); rw [sI_eq]) (by (repeat (rw [sI_ne (by decide)])); rw [sI_eq]) (Nat.zero_le _) (by decide) (fun I2 hl2 hf2 => ?_))
  replace hl2 : LW I2 (W1 t) := hl2
  have hf1 : fT I (sI (sI (sI (sI I 6 0 3 (nI 0)) 6 0 4 (nI 0)) 6 0 7 (nI 0)) 6 0 8 (nI 0)) := fT_s (fT_s (fT_s (fT_s fT_0 (by decide)) (by decide)) (by decide)) (by decide)
  have hT2 : TP I2 t := TP.fW (I := (sI (sI (sI (sI I 6 0 3 (nI 0)) 6 0 4 (nI 0)) 6 0 7 (nI 0)) 6 0 8 (nI 0))) ⟨by (repeat (rw [sI_ne (by decide)])); exact hT.1, hT.2.1, fun j hj => by (repeat (rw [sI_n (by decide)])); exact hT.2.2 j hj⟩ hf2
  refine aw_aload_n e_Ta_parse_24 rfl ?_
  refine aw_aload_n e_Ta_parse_25 rfl ?_
  refine aw_cV0 e_Ta_parse_26 ml_Ta_38 mf_Ta_keyHere mv_Ta_keyHere (c_Ta_keyHere hS hT2 hl2 (W1_ok t) ?_)
  by_cases hk1 : pO1 t
  · rw [kyI_y hk1]
    have hT3 : TP (sI I2 6 0 5 (nI (pk t))) t := ⟨(sI_ne (by decide)).trans hT2.1, hT2.2.1, fun j hj => (sI_n2 (by decide)).trans (hT2.2.2 j hj)⟩
    have h35 : sI I2 6 0 5 (nI (pk t)) 6 0 5 = nI (pk t) := sI_eq _ _ _ _ _
    have h37 : sI I2 6 0 5 (nI (pk t)) 6 0 7 = nI 0 := by rw [sI_ne (by decide), hf2.2 7 (by decide) (by decide) (by decide), sI_ne (by decide), sI_eq]
    have h38 : sI I2 6 0 5 (nI (pk t)) 6 0 8 = nI 0 := by rw [sI_ne (by decide), hf2.2 8 (by decide) (by decide) (by decide), sI_eq]
    have hf3 : fT I (sI I2 6 0 5 (nI (pk t))) := fT_s (fT_t hf1 hf2.T) (by decide)
    refine aw_putI e_Ta_parse_29 fl_Ta_42 ?_
    refine aw_aload_n e_Ta_parse_32 rfl ?_
    refine aw_getE e_Ta_parse_33 fl_Ta_42 h35 ?_
    refine aw_iconst (v := -1) e_Ta_parse_36 (by decide) ?_
    refine aw_icmp_ne e_Ta_parse_37 (fun h37b => ?_) (fun h37b => ?_)
    · refine aw_aload_n e_Ta_parse_42 rfl ?_
      refine aw_cV0 e_Ta_parse_43 ml_Ta_35 mf_Ta_goOn mv_Ta_goOn (c_Ta_goOn (x := W1 t) hS hT3 ((sI_ne (by decide)).trans hl2.2.1) ((sI_ne (by decide)).trans hl2.2.2) (W1_ok t).2.1 (W1_ok t).2.2.1 (fun I4 hl4 hf4 => ?_))
      replace hl4 : LW I4 (W2 t) := hl4
      refine aw_aload_n e_Ta_parse_46 rfl ?_
      refine aw_cV0 e_Ta_parse_47 ml_Ta_45 mf_Ta_numberHere mv_Ta_numberHere (c_Ta_numberHere hS (hT3.fW hf4) hl4 (W2_ok t).1 ?_)
      by_cases hnb : isNb (W2 t) = true
      · rw [nbI_y hnb]
        have hnv := num_b (W2_ok t).1 hnb
        have h45 : I4 6 0 5 = nI (pk t) := (hf4.2 5 (by decide) (by decide) (by decide)).trans h35
        have hpk := pK_lt t
        refine aw_ist1 e_Ta_parse_50 ?_
        refine aw_iload_n e_Ta_parse_51 rfl ?_
        refine aw_iconst (v := -1) e_Ta_parse_52 (by decide) ?_
        refine aw_icmp_eq e_Ta_parse_53 (fun h53 => ?_) (fun h53 => ?_)
        · exact absurd h53 (nI_m1 (by omega))
        · refine aw_iload_n e_Ta_parse_56 rfl ?_
          refine aw_aload_n e_Ta_parse_57 rfl ?_
          refine aw_getE e_Ta_parse_58 fl_Ta_42 h45 ?_
          refine awN_if_ne e_Ta_parse_61 (by omega) (fun h61 => ?_) (fun h61 => ?_)
          · refine aw_bipush (v := nI 12) e_Ta_parse_69 (by decide) ?_
            refine awN_icmp_lt e_Ta_parse_71 (by omega) (by omega) (fun h71 => ?_) (fun h71 => ?_)
            · have hn2 : pO2 t := ⟨hnb, h71⟩
              refine aw_aload_n e_Ta_parse_76 rfl ?_
              refine aw_cV0 e_Ta_parse_77 ml_Ta_35 mf_Ta_goOn mv_Ta_goOn (c_Ta_goOn (x := W2 t) hS (hT3.fW hf4) hl4.2.1 hl4.2.2 (W2_ok t).1.2.1 (W2_ok t).1.2.2.1 (fun I5 hl5 hf5w => ?_))
              replace hl5 : LW I5 (W3 t) := hl5
              have hTS5 : TS I5 t (pk t) (W3 t, [], 0) := by
                refine ⟨(hT3.fW hf4).fW hf5w, ?_, hl5, ?_, fun j q hq => (by cases hq), ?_⟩
                · rw [hf5w.2 5 (by decide) (by decide) (by decide), hf4.2 5 (by decide) (by decide) (by decide)]; exact h35
                · rw [hf5w.2 7 (by decide) (by decide) (by decide), hf4.2 7 (by decide) (by decide) (by decide)]; exact h37
                · rw [hf5w.2 8 (by decide) (by decide) (by decide), hf4.2 8 (by decide) (by decide) (by decide)]; exact h38
              have hf5 : fT I I5 := fT_t (fT_t hf3 hf4.T) hf5w.T
              refine aw_aload_n e_Ta_parse_80 rfl ?_
              refine aw_iconst (v := nI 0) e_Ta_parse_81 (by decide) ?_
              refine aw_iconst (v := nI 0) e_Ta_parse_82 (by decide) ?_
              refine aw_iconst (v := nI 0) e_Ta_parse_83 (by decide) ?_
              refine aw_cV3 e_Ta_parse_84 ml_Ta_48 mf_Ta_readLevel mv_Ta_readLevel ((rd_all hS (pK_lt t) 700).2 0 0 0 (W3 t, [], 0) _ _ _ (by decide) (by decide) (by decide) (by omega) hTS5 ⟨(W3_ok t).1, Nat.zero_le _⟩ (by show 7 * (t.1 - (W3 t).1) + (6 - 0) ≤ 700; omega) (fun I6 hr6 => ?_))
              refine awB_eq e_Ta_parse_87 (fun h87 => ?_) (fun h87 => ?_)
              · refine aw_anull e_Ta_parse_97 ?_
                first
                  | (have hng : ¬ pG t := fun z => h87 z.2.2.1
                     exact aw_aret (r := none) e_Ta_parse_98 rfl (Or.inl ⟨_, rfl⟩) (hQ1 hng I6 (fT_t hf5 hr6.1) (by rw [pPl_3 hk1 hn2]; exact (hr6.2.2 (Bool.eq_false_iff.2 h87)).1)))
                  | (have hng : ¬ pG t := fun z => h94 z.2.2.2
                     exact aw_aret (r := none) e_Ta_parse_98 rfl (Or.inl ⟨_, rfl⟩) (hQ1 hng I6 (fT_t hf5 hr6.1) (by rw [pPl_3 hk1 hn2]; exact (hr6.2.1 h87).2.2.1.1)))
              · have hTR : TS I6 t (pk t) (pR t).2 := hr6.2.1 h87
                have hTR96 := hTR.1.2.1
                have hxr := XI_rd (t := t) (key := pk t) (F := 700) (m := 0) (o := 0) (i := 0) (x := (W3 t, [], 0)) (by decide) ⟨(W3_ok t).1, Nat.zero_le _⟩ h87
                have hso4 : (pR t).2.1.2.2 ≤ 4 := hxr.1.1.2.2.1
                refine aw_aload_n e_Ta_parse_90 rfl ?_
                refine aw_getE e_Ta_parse_91 fl_Ta_26 hTR.2.2.1.2.2 ?_
                refine awN_if_eq e_Ta_parse_94 (by omega) (fun h94 => ?_) (fun h94 => ?_)
                · have hgo : (pR t).1 = true := h87
                  have hso : (pR t).2.1.2.2 = 0 := h94
                  have hlen : (pR t).2.2.1.length ≤ 90 := (WFT_p hT96 ⟨hk1, hn2, hgo, hso⟩).2.2.2.1
                  have hfa : ∀ t2 i2, ¬ ((t2 = 6 ∨ t2 = 21) ∧ i2 = 0) → I6 t2 i2 = I t2 i2 := fT_t hf5 hr6.1
                  refine aw_new 7 xn e_Ta_parse_99 cl_Ta_52 in_Tx ii_Tx (by rw [hZ]; exact who_T xn) (fun f => by rw [hfa 7 xn (by omega)]; exact hI7 f) hR7 (by decide) ?_
                  refine aw_dup e_Ta_parse_102 rfl ?_
                  refine aw_aload_n e_Ta_parse_103 rfl ?_
                  refine aw_getE e_Ta_parse_104 fl_Ta_42 hTR.2.1 ?_
                  refine aw_iload_n e_Ta_parse_107 rfl ?_
                  refine aw_aload_n e_Ta_parse_108 rfl ?_
                  refine aw_getE e_Ta_parse_109 fl_Ta_32 hTR.2.2.2.2.2 ?_
                  refine aw_aload_n e_Ta_parse_112 rfl ?_
                  refine aw_getR e_Ta_parse_113 fl_Ta_15 (hS.1 _ _ _ _ rfl) ?_
                  refine aw_aload_n e_Ta_parse_116 rfl ?_
                  refine aw_getE e_Ta_parse_117 fl_Ta_29 hTR.2.2.2.1 ?_
                  refine aw_cS2 e_Ta_parse_120 ml_Ta_54 mf_Ja_copyOf ms_Ja_copyOf (c_Ja_copyOf (xn := xn) (by omega) (by show who (Z.2.1 + 1) = _; rw [hZ, show 168 + 2 * xn + 1 = 169 + 2 * xn by omega]; exact who_C xn) (fun f => by rw [hfa 27 xn (by omega)]; exact hI27 f) hL27 hR27 ?_)
                  refine aw_cI4 e_Ta_parse_123 ml_Ta_60 mf_Tx_init mi_Tx_init (c_Tx_init ?_)
                  refine aw_aret (r := some (7, xn)) e_Ta_parse_126 rfl (Or.inl ⟨_, rfl⟩) (hQ2 ⟨hk1, hn2, hgo, hso⟩ _ (fun t2 i2 h1 h2 => ?_) (sI_n2 (by omega) |>.trans ((sI_n2 (by omega)).trans ((sI_n2 (by omega)).trans ((congrFun (cpI_n (by omega)) _).trans hTR.1.1)))) ?_)
                  · rw [sI_n (by omega), sI_n (by omega), sI_n (by omega), cpI_n (by omega)]
                    exact hfa t2 i2 h1
                  · refine ⟨by rw [sI_ne (by decide), sI_ne (by decide), sI_eq]; rfl, by rw [sI_ne (by decide), sI_eq]; rfl, by rw [sI_eq]; rfl, by rw [sR_s]; exact up_s _ _ _, if_pos rfl, fun j q hq => ?_⟩
                    have hq2 : (pR t).2.2.1[j]? = some q := hq
                    have hj := (List.getElem?_eq_some_iff.mp hq2).1
                    rw [sI_n (by omega), sI_n (by omega), sI_n (by omega)]
                    show (if 27 = 27 ∧ xn = xn then va_cpy _ _ 0 0 (pR t).2.2.1.length j else _) = _
                    rw [if_pos ⟨rfl, rfl⟩, pk_cpy_in (Nat.zero_le _) (by omega)]
                    show I6 21 0 (0 + (j - 0)) = encS q
                    rw [show 0 + (j - 0) = j by omega]
                    exact hTR.2.2.2.2.1 j q hq2
                · refine aw_anull e_Ta_parse_97 ?_
                  first
                    | (have hng : ¬ pG t := fun z => h87 z.2.2.1
                       exact aw_aret (r := none) e_Ta_parse_98 rfl (Or.inl ⟨_, rfl⟩) (hQ1 hng I6 (fT_t hf5 hr6.1) (by rw [pPl_3 hk1 hn2]; exact (hr6.2.2 (Bool.eq_false_iff.2 h87)).1)))
                    | (have hng : ¬ pG t := fun z => h94 z.2.2.2
                       exact aw_aret (r := none) e_Ta_parse_98 rfl (Or.inl ⟨_, rfl⟩) (hQ1 hng I6 (fT_t hf5 hr6.1) (by rw [pPl_3 hk1 hn2]; exact (hr6.2.1 h87).2.2.1.1)))
            · have h71n : ¬ nW t < 12 := Nat.not_lt.2 h71
              refine aw_anull e_Ta_parse_74 ?_
              exact aw_aret (r := none) e_Ta_parse_75 rfl (Or.inl ⟨_, rfl⟩) (hQ1 (fun z => h71n z.2.1.2) I4 (fT_t hf3 hf4.T) (by rw [pPl_2 hk1 (fun z => h71n z.2)]; exact hl4.1))
          · refine aw_bipush (v := nI 12) e_Ta_parse_64 (by decide) ?_
            refine aw_goto e_Ta_parse_66 ?_
            refine awN_icmp_lt e_Ta_parse_71 (by omega) (by omega) (fun h71 => ?_) (fun h71 => ?_)
            · have hn2 : pO2 t := ⟨hnb, h71⟩
              refine aw_aload_n e_Ta_parse_76 rfl ?_
              refine aw_cV0 e_Ta_parse_77 ml_Ta_35 mf_Ta_goOn mv_Ta_goOn (c_Ta_goOn (x := W2 t) hS (hT3.fW hf4) hl4.2.1 hl4.2.2 (W2_ok t).1.2.1 (W2_ok t).1.2.2.1 (fun I5 hl5 hf5w => ?_))
              replace hl5 : LW I5 (W3 t) := hl5
              have hTS5 : TS I5 t (pk t) (W3 t, [], 0) := by
                refine ⟨(hT3.fW hf4).fW hf5w, ?_, hl5, ?_, fun j q hq => (by cases hq), ?_⟩
                · rw [hf5w.2 5 (by decide) (by decide) (by decide), hf4.2 5 (by decide) (by decide) (by decide)]; exact h35
                · rw [hf5w.2 7 (by decide) (by decide) (by decide), hf4.2 7 (by decide) (by decide) (by decide)]; exact h37
                · rw [hf5w.2 8 (by decide) (by decide) (by decide), hf4.2 8 (by decide) (by decide) (by decide)]; exact h38
              have hf5 : fT I I5 := fT_t (fT_t hf3 hf4.T) hf5w.T
              refine aw_aload_n e_Ta_parse_80 rfl ?_
              refine aw_iconst (v := nI 0) e_Ta_parse_81 (by decide) ?_
              refine aw_iconst (v := nI 0) e_Ta_parse_82 (by decide) ?_
              refine aw_iconst (v := nI 0) e_Ta_parse_83 (by decide) ?_
              refine aw_cV3 e_Ta_parse_84 ml_Ta_48 mf_Ta_readLevel mv_Ta_readLevel ((rd_all hS (pK_lt t) 700).2 0 0 0 (W3 t, [], 0) _ _ _ (by decide) (by decide) (by decide) (by omega) hTS5 ⟨(W3_ok t).1, Nat.zero_le _⟩ (by show 7 * (t.1 - (W3 t).1) + (6 - 0) ≤ 700; omega) (fun I6 hr6 => ?_))
              refine awB_eq e_Ta_parse_87 (fun h87 => ?_) (fun h87 => ?_)
              · refine aw_anull e_Ta_parse_97 ?_
                first
                  | (have hng : ¬ pG t := fun z => h87 z.2.2.1
                     exact aw_aret (r := none) e_Ta_parse_98 rfl (Or.inl ⟨_, rfl⟩) (hQ1 hng I6 (fT_t hf5 hr6.1) (by rw [pPl_3 hk1 hn2]; exact (hr6.2.2 (Bool.eq_false_iff.2 h87)).1)))
                  | (have hng : ¬ pG t := fun z => h94 z.2.2.2
                     exact aw_aret (r := none) e_Ta_parse_98 rfl (Or.inl ⟨_, rfl⟩) (hQ1 hng I6 (fT_t hf5 hr6.1) (by rw [pPl_3 hk1 hn2]; exact (hr6.2.1 h87).2.2.1.1)))
              · have hTR : TS I6 t (pk t) (pR t).2 := hr6.2.1 h87
                have hTR96 := hTR.1.2.1
                have hxr := XI_rd (t := t) (key := pk t) (F := 700) (m := 0) (o := 0) (i := 0) (x := (W3 t, [], 0)) (by decide) ⟨(W3_ok t).1, Nat.zero_le _⟩ h87
                have hso4 : (pR t).2.1.2.2 ≤ 4 := hxr.1.1.2.2.1
                refine aw_aload_n e_Ta_parse_90 rfl ?_
                refine aw_getE e_Ta_parse_91 fl_Ta_26 hTR.2.2.1.2.2 ?_
                refine awN_if_eq e_Ta_parse_94 (by omega) (fun h94 => ?_) (fun h94 => ?_)
                · have hgo : (pR t).1 = true := h87
                  have hso : (pR t).2.1.2.2 = 0 := h94
                  have hlen : (pR t).2.2.1.length ≤ 90 := (WFT_p hT96 ⟨hk1, hn2, hgo, hso⟩).2.2.2.1
                  have hfa : ∀ t2 i2, ¬ ((t2 = 6 ∨ t2 = 21) ∧ i2 = 0) → I6 t2 i2 = I t2 i2 := fT_t hf5 hr6.1
                  refine aw_new 7 xn e_Ta_parse_99 cl_Ta_52 in_Tx ii_Tx (by rw [hZ]; exact who_T xn) (fun f => by rw [hfa 7 xn (by omega)]; exact hI7 f) hR7 (by decide) ?_
                  refine aw_dup e_Ta_parse_102 rfl ?_
                  refine aw_aload_n e_Ta_parse_103 rfl ?_
                  refine aw_getE e_Ta_parse_104 fl_Ta_42 hTR.2.1 ?_
                  refine aw_iload_n e_Ta_parse_107 rfl ?_
                  refine aw_aload_n e_Ta_parse_108 rfl ?_
                  refine aw_getE e_Ta_parse_109 fl_Ta_32 hTR.2.2.2.2.2 ?_
                  refine aw_aload_n e_Ta_parse_112 rfl ?_
                  refine aw_getR e_Ta_parse_113 fl_Ta_15 (hS.1 _ _ _ _ rfl) ?_
                  refine aw_aload_n e_Ta_parse_116 rfl ?_
                  refine aw_getE e_Ta_parse_117 fl_Ta_29 hTR.2.2.2.1 ?_
                  refine aw_cS2 e_Ta_parse_120 ml_Ta_54 mf_Ja_copyOf ms_Ja_copyOf (c_Ja_copyOf (xn := xn) (by omega) (by show who (Z.2.1 + 1) = _; rw [hZ, show 168 + 2 * xn + 1 = 169 + 2 * xn by omega]; exact who_C xn) (fun f => by rw [hfa 27 xn (by omega)]; exact hI27 f) hL27 hR27 ?_)
                  refine aw_cI4 e_Ta_parse_123 ml_Ta_60 mf_Tx_init mi_Tx_init (c_Tx_init ?_)
                  refine aw_aret (r := some (7, xn)) e_Ta_parse_126 rfl (Or.inl ⟨_, rfl⟩) (hQ2 ⟨hk1, hn2, hgo, hso⟩ _ (fun t2 i2 h1 h2 => ?_) (sI_n2 (by omega) |>.trans ((sI_n2 (by omega)).trans ((sI_n2 (by omega)).trans ((congrFun (cpI_n (by omega)) _).trans hTR.1.1)))) ?_)
                  · rw [sI_n (by omega), sI_n (by omega), sI_n (by omega), cpI_n (by omega)]
                    exact hfa t2 i2 h1
                  · refine ⟨by rw [sI_ne (by decide), sI_ne (by decide), sI_eq]; rfl, by rw [sI_ne (by decide), sI_eq]; rfl, by rw [sI_eq]; rfl, by rw [sR_s]; exact up_s _ _ _, if_pos rfl, fun j q hq => ?_⟩
                    have hq2 : (pR t).2.2.1[j]? = some q := hq
                    have hj := (List.getElem?_eq_some_iff.mp hq2).1
                    rw [sI_n (by omega), sI_n (by omega), sI_n (by omega)]
                    show (if 27 = 27 ∧ xn = xn then va_cpy _ _ 0 0 (pR t).2.2.1.length j else _) = _
                    rw [if_pos ⟨rfl, rfl⟩, pk_cpy_in (Nat.zero_le _) (by omega)]
                    show I6 21 0 (0 + (j - 0)) = encS q
                    rw [show 0 + (j - 0) = j by omega]
                    exact hTR.2.2.2.2.1 j q hq2
                · refine aw_anull e_Ta_parse_97 ?_
                  first
                    | (have hng : ¬ pG t := fun z => h87 z.2.2.1
                       exact aw_aret (r := none) e_Ta_parse_98 rfl (Or.inl ⟨_, rfl⟩) (hQ1 hng I6 (fT_t hf5 hr6.1) (by rw [pPl_3 hk1 hn2]; exact (hr6.2.2 (Bool.eq_false_iff.2 h87)).1)))
                    | (have hng : ¬ pG t := fun z => h94 z.2.2.2
                       exact aw_aret (r := none) e_Ta_parse_98 rfl (Or.inl ⟨_, rfl⟩) (hQ1 hng I6 (fT_t hf5 hr6.1) (by rw [pPl_3 hk1 hn2]; exact (hr6.2.1 h87).2.2.1.1)))
            · have h71n : ¬ nW t < 12 := Nat.not_lt.2 h71
              refine aw_anull e_Ta_parse_74 ?_
              exact aw_aret (r := none) e_Ta_parse_75 rfl (Or.inl ⟨_, rfl⟩) (hQ1 (fun z => h71n z.2.1.2) I4 (fT_t hf3 hf4.T) (by rw [pPl_2 hk1 (fun z => h71n z.2)]; exact hl4.1))
      · rw [nbI_n hnb]
        refine aw_ist1 e_Ta_parse_50 ?_
        refine aw_iload_n e_Ta_parse_51 rfl ?_
        refine aw_iconst (v := -1) e_Ta_parse_52 (by decide) ?_
        refine aw_icmp_eq e_Ta_parse_53 (fun h53 => ?_) (fun h53 => ?_)
        · refine aw_anull e_Ta_parse_74 ?_
          exact aw_aret (r := none) e_Ta_parse_75 rfl (Or.inl ⟨_, rfl⟩) (hQ1 (fun z => hnb z.2.1.1) I4 (fT_t hf3 hf4.T) (by rw [pPl_2 hk1 (fun z => hnb z.1)]; exact hl4.1))
        · exact absurd rfl h53
    · exact absurd h37b (nI_m1 (by have := pK_lt t; omega))
  · rw [kyI_n hk1]
    refine aw_putI e_Ta_parse_29 fl_Ta_42 ?_
    refine aw_aload_n e_Ta_parse_32 rfl ?_
    refine aw_getE e_Ta_parse_33 fl_Ta_42 (sI_eq _ _ _ _ _) ?_
    refine aw_iconst (v := -1) e_Ta_parse_36 (by decide) ?_
    refine aw_icmp_ne e_Ta_parse_37 (fun h37b => ?_) (fun h37b => ?_)
    · exact absurd rfl h37b
    · refine aw_anull e_Ta_parse_40 ?_
      exact aw_aret (r := none) e_Ta_parse_41 rfl (Or.inl ⟨_, rfl⟩) (hQ1 (fun z => hk1 z.1) _ (fT_s (fT_t hf1 hf2.T) (by decide)) (by rw [sI_ne (by decide), pPl_1 hk1]; exact hl2.1))
