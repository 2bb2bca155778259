/-! ===== the tape: signs, numbers, names, steps laid ===== -/
def CD (I : It) (c : List (Nat × Nat)) (k : Nat) : Prop := I 6 0 7 = nI c.length ∧ (∀ j q, c[j]? = some q → I 21 0 j = encS q) ∧ I 6 0 8 = nI k
def TS (I : It) (t : TB) (key : Nat) (x : Xs) : Prop := TP I t ∧ I 6 0 5 = nI key ∧ LW I x.1 ∧ CD I x.2.1 x.2.2
def XI (t : TB) (x : Xs) : Prop := WdO t x.1 ∧ x.2.1.length ≤ x.1.1
theorem TS.put {I : It} {t : TB} {key : Nat} {x : Xs} {q : Nat × Nat} (h : TS I t key x) : TS (sI (sI I 21 0 x.2.1.length (encS q)) 6 0 7 (nI (x.2.1.length + 1))) t key (ptX x q) := by
  obtain ⟨h1, h2, h3, h4⟩ := h
  refine ⟨⟨by rw [sI_ne (by decide), sI_n (by decide)]; exact h1.1, h1.2.1, fun j hj => by rw [sI_n (by decide), sI_n (by decide)]; exact h1.2.2 j hj⟩, by rw [sI_ne (by decide), sI_n (by decide)]; exact h2, ⟨by rw [sI_ne (by decide), sI_n (by decide)]; exact h3.1, by rw [sI_ne (by decide), sI_n (by decide)]; exact h3.2.1, by rw [sI_ne (by decide), sI_n (by decide)]; exact h3.2.2⟩, ⟨?_, fun j r hr => ?_, by rw [sI_ne (by decide), sI_n (by decide)]; exact h4.2.2⟩⟩
  · rw [sI_eq]
    show _ = nI (x.2.1 ++ [q]).length
    rw [List.length_append]; rfl
  · have hr2 : (x.2.1 ++ [q])[j]? = some r := hr
    rw [sI_n (by decide)]
    by_cases e : j = x.2.1.length
    · rw [e, sI_eq]
      rw [e, List.getElem?_append_right (Nat.le_refl _), Nat.sub_self] at hr2
      cases hr2
      rfl
    · have hj : j < (x.2.1 ++ [q]).length := (List.getElem?_eq_some_iff.mp hr2).1
      rw [List.length_append] at hj
      have hj2 : j < x.2.1.length + 1 := hj
      rw [List.getElem?_append_left (by omega)] at hr2
      rw [sI_ne e]
      exact h4.2.1 j r hr2
theorem TS.op {I : It} {t : TB} {key : Nat} {x : Xs} {q : Nat × Nat} (h : TS I t key (ptX x q)) : TS (sI I 6 0 8 (nI (x.2.2 + 1))) t key (opX x q) := by
  obtain ⟨h1, h2, h3, h4⟩ := h
  exact ⟨⟨by rw [sI_ne (by decide)]; exact h1.1, h1.2.1, fun j hj => by rw [sI_n (by decide)]; exact h1.2.2 j hj⟩, by rw [sI_ne (by decide)]; exact h2, ⟨by rw [sI_ne (by decide)]; exact h3.1, by rw [sI_ne (by decide)]; exact h3.2.1, by rw [sI_ne (by decide)]; exact h3.2.2⟩, ⟨by rw [sI_ne (by decide)]; exact h4.1, fun j r hr => by rw [sI_n (by decide)]; exact h4.2.1 j r hr, sI_eq _ _ _ _ _⟩⟩
theorem TS.nx {I I2 : It} {t : TB} {key : Nat} {x : Xs} (h : TS I t key x) (hl : LW I2 (nxW t x.1)) (hf : fW I I2) : TS I2 t key (nxX t x) := by
  obtain ⟨h1, h2, h3, h4⟩ := h
  exact ⟨h1.fW hf, (hf.2 5 (by decide) (by decide) (by decide)).trans h2, hl, ⟨(hf.2 7 (by decide) (by decide) (by decide)).trans h4.1, fun j r hr => by rw [hf.1 21 0 (by decide)]; exact h4.2.1 j r hr, (hf.2 8 (by decide) (by decide) (by decide)).trans h4.2.2⟩⟩
def fT (I I2 : It) : Prop := ∀ t i, ¬ ((t = 6 ∨ t = 21) ∧ i = 0) → I2 t i = I t i
theorem fT_0 {I : It} : fT I I := fun _ _ _ => rfl
theorem fT_t {I I2 I3 : It} (h : fT I I2) (h2 : fT I2 I3) : fT I I3 := fun t i hti => (h2 t i hti).trans (h t i hti)
theorem fT_s {I I1 : It} {t f : Nat} {x : Int32} (h : fT I I1) (hc : t = 6 ∨ t = 21) : fT I (sI I1 t 0 f x) := fun t2 i2 hti => (sI_n (by omega)).trans (h t2 i2 hti)
theorem fW.T {I I2 : It} (h : fW I I2) : fT I I2 := fun t i hti => h.1 t i (fun z => hti ⟨Or.inl z.1, z.2⟩)
def RS (t : TB) (key : Nat) (I I2 : It) (r : Bool × Xs) : Prop := fT I I2 ∧ (r.1 = true → TS I2 t key r.2) ∧ (r.1 = false → I2 6 0 1 = nI r.2.1.1 ∧ TP I2 t ∧ ∃ k, k ≤ 96 ∧ I2 6 0 7 = nI k)
def nbI (t : TB) (x : Wd) : Int32 := if isNb x = true then nI (numV t x.1 (x.2.1 - x.1)) else -1
theorem dg_v {t : TB} {j : Nat} (h : isDg (t.2 j) = true) : t.2 j = nI (t.2 j).toInt.toNat ∧ 48 ≤ (t.2 j).toInt.toNat ∧ (t.2 j).toInt.toNat ≤ 57 := by
  have h1 := isDg_iff.1 h
  exact ⟨i_eq.mpr (by rw [nT (by omega)]; omega), by omega, by omega⟩
theorem lt_v {t : TB} {j : Nat} (h : isLt (t.2 j) = true) : t.2 j = nI (t.2 j).toInt.toNat ∧ 97 ≤ (t.2 j).toInt.toNat ∧ (t.2 j).toInt.toNat ≤ 122 := by
  have h1 := isLt_iff.1 h
  exact ⟨i_eq.mpr (by rw [nT (by omega)]; omega), by omega, by omega⟩
theorem nI_m1 {v : Nat} (h : v < 2147483648) : ¬ nI v = -1 := fun z => by
  have e := congrArg Int32.toInt z
  rw [nT h] at e
  exact absurd e (show ¬ ((v : Nat) : Int) = -1 by omega)
theorem c_Ta_isSign {l : Launch} {E : En} {d : Nat} {I : It} {L : Lt} {R : Rt} {Z : Zt} {Q : Qt} {t : TB} {x : Wd} (hS : Sta R) (hT : TP I t) (hL : LW I x) (hO : WdO t x) {c : Nat} (hQ : Q (some (vi (bI (sgn t x c = true)))) I L R Z) : AMet l E d M_Ta_isSign [vr 6 0, vi (nI c)] I L R Z Q := by
  have hT1 := hT.2.1
  have hO1 := hO.1
  have hO2 := hO.2.1
  have hO3 := hO.2.2.1
  refine AMet.of mf_Ta_isSign rfl (Nat.le_of_ble_eq_true rfl) ?_
  refine aw_aload_n e_Ta_isSign_0 rfl ?_
  refine aw_getE e_Ta_isSign_1 fl_Ta_26 hL.2.2 ?_
  refine aw_iconst (v := nI 3) e_Ta_isSign_4 (by decide) ?_
  refine awN_icmp_ne e_Ta_isSign_5 (by omega) (by omega) (fun h5 => ?_) (fun h5 => ?_)
  · refine aw_iconst (v := nI 0) e_Ta_isSign_25 (by decide) ?_
    first
      | exact awB_1 e_Ta_isSign_26 (sgn_iff.2 ⟨h5, h18⟩) hQ
      | exact awB_0 e_Ta_isSign_26 (fun z => h18 (sgn_iff.1 z).2) hQ
      | exact awB_0 e_Ta_isSign_26 (fun z => h5 (sgn_iff.1 z).1) hQ
  · have hlt := hO.2.2.2.1 (by omega)
    refine aw_aload_n e_Ta_isSign_8 rfl ?_
    refine aw_getR e_Ta_isSign_9 fl_Ta_9 (hS.1 _ _ _ _ rfl) ?_
    refine aw_aload_n e_Ta_isSign_12 rfl ?_
    refine aw_getE e_Ta_isSign_13 fl_Ta_63 hL.1 ?_
    refine aw_balE e_Ta_isSign_16 rfl (show _ < 96 by omega) (by omega) (hT.2.2 _ (by omega)) ?_
    refine aw_iload_n e_Ta_isSign_17 rfl ?_
    refine aw_icmp_ne e_Ta_isSign_18 (fun h18 => ?_) (fun h18 => ?_)
    · refine aw_iconst (v := nI 0) e_Ta_isSign_25 (by decide) ?_
      first
        | exact awB_1 e_Ta_isSign_26 (sgn_iff.2 ⟨h5, h18⟩) hQ
        | exact awB_0 e_Ta_isSign_26 (fun z => h18 (sgn_iff.1 z).2) hQ
        | exact awB_0 e_Ta_isSign_26 (fun z => h5 (sgn_iff.1 z).1) hQ
    · refine aw_iconst (v := nI 1) e_Ta_isSign_21 (by decide) ?_
      refine aw_goto e_Ta_isSign_22 ?_
      first
        | exact awB_1 e_Ta_isSign_26 (sgn_iff.2 ⟨h5, h18⟩) hQ
        | exact awB_0 e_Ta_isSign_26 (fun z => h18 (sgn_iff.1 z).2) hQ
        | exact awB_0 e_Ta_isSign_26 (fun z => h5 (sgn_iff.1 z).1) hQ
theorem c_Ta_numberHere {l : Launch} {E : En} {d : Nat} {I : It} {L : Lt} {R : Rt} {Z : Zt} {Q : Qt} {t : TB} {x : Wd} (hS : Sta R) (hT : TP I t) (hL : LW I x) (hO : WdO t x) (hQ : Q (some (vi (nbI t x))) I L R Z) : AMet l E d M_Ta_numberHere [vr 6 0] I L R Z Q := by
  have hT1 := hT.2.1
  have hO1 := hO.1
  have hO2 := hO.2.1
  have hO3 := hO.2.2.1
  unfold nbI at hQ
  refine AMet.of mf_Ta_numberHere rfl (Nat.le_of_ble_eq_true rfl) ?_
  refine aw_aload_n e_Ta_numberHere_0 rfl ?_
  refine aw_getE e_Ta_numberHere_1 fl_Ta_26 hL.2.2 ?_
  refine aw_iconst (v := nI 2) e_Ta_numberHere_4 (by decide) ?_
  refine awN_icmp_ne e_Ta_numberHere_5 (by omega) (by omega) (fun h5 => ?_) (fun h5 => ?_)
  · refine aw_iconst (v := -1) e_Ta_numberHere_21 (by decide) ?_
    first
      | (rw [if_neg (fun z => h5 (isNb_iff.1 z).1)] at hQ; exact aw_iret e_Ta_numberHere_22 rfl rfl hQ)
      | (rw [if_neg (fun z => by have := (isNb_iff.1 z).2; omega)] at hQ; exact aw_iret e_Ta_numberHere_22 rfl rfl hQ)
  · refine aw_aload_n e_Ta_numberHere_8 rfl ?_
    refine aw_getE e_Ta_numberHere_9 fl_Ta_23 hL.2.1 ?_
    refine aw_aload_n e_Ta_numberHere_12 rfl ?_
    refine aw_getE e_Ta_numberHere_13 fl_Ta_63 hL.1 ?_
    refine awN_isub e_Ta_numberHere_16 (by omega) ?_
    refine aw_iconst (v := nI 4) e_Ta_numberHere_17 (by decide) ?_
    refine awN_icmp_le e_Ta_numberHere_18 (by omega) (by omega) (fun h18 => ?_) (fun h18 => ?_)
    · refine aw_iconst (v := nI 0) e_Ta_numberHere_23 (by decide) ?_
      refine aw_ist1 e_Ta_numberHere_24 ?_
      refine aw_aload_n e_Ta_numberHere_25 rfl ?_
      refine aw_getE e_Ta_numberHere_26 fl_Ta_63 hL.1 ?_
      refine aw_ist2 e_Ta_numberHere_29 ?_
      refine up_loop (P := fun k => AWq l E d M_Ta_numberHere Z 30 [some (vr 6 0), some (vi (nI (numV t x.1 k))), some (vi (nI (x.1 + k)))] [] I L R Z Q) (N := x.2.1 - x.1) (fun k hk ih => ?_) 0 (Nat.zero_le _)
      refine aw_iload_n e_Ta_numberHere_30 rfl ?_
      refine aw_aload_n e_Ta_numberHere_31 rfl ?_
      refine aw_getE e_Ta_numberHere_32 fl_Ta_23 hL.2.1 ?_
      refine awN_icmp_ge e_Ta_numberHere_35 (by omega) (by omega) (fun h35 => ?_) (fun h35 => ?_)
      · refine aw_iload_n e_Ta_numberHere_59 rfl ?_
        rw [if_pos (isNb_iff.2 ⟨h5, by omega⟩), show x.2.1 - x.1 = k by omega] at hQ
        exact aw_iret e_Ta_numberHere_60 rfl rfl hQ
      · have hd := dg_v (t := t) (hO.2.2.2.2.2 h5 (x.1 + k) (by omega) (by omega))
        refine aw_bipush (v := nI 10) e_Ta_numberHere_38 (by decide) ?_
        refine aw_iload_n e_Ta_numberHere_40 rfl ?_
        first | refine awN_imul e_Ta_numberHere_41 ?_ | refine aw_imul e_Ta_numberHere_41 ?_
        refine aw_aload_n e_Ta_numberHere_42 rfl ?_
        refine aw_getR e_Ta_numberHere_43 fl_Ta_9 (hS.1 _ _ _ _ rfl) ?_
        refine aw_iload_n e_Ta_numberHere_46 rfl ?_
        refine aw_balE e_Ta_numberHere_47 rfl (show _ < 96 by omega) (by omega) ((hT.2.2 _ (by omega)).trans hd.1) ?_
        first | refine awN_iadd e_Ta_numberHere_48 ?_ | refine aw_iadd e_Ta_numberHere_48 ?_
        refine aw_bipush (v := nI 48) e_Ta_numberHere_49 (by decide) ?_
        refine awN_isub e_Ta_numberHere_51 (by omega) ?_
        rw [show 10 * numV t x.1 k + (t.2 (x.1 + k)).toInt.toNat - 48 = numV t x.1 (k + 1) by show _ = 10 * numV t x.1 k + ((t.2 (x.1 + k)).toInt.toNat - 48); omega]
        refine aw_ist1 e_Ta_numberHere_52 ?_
        refine aw_inc2 e_Ta_numberHere_53 (inc1 _) ?_
        refine aw_goto e_Ta_numberHere_56 ?_
        exact ih (by omega)
    · refine aw_iconst (v := -1) e_Ta_numberHere_21 (by decide) ?_
      first
        | (rw [if_neg (fun z => h5 (isNb_iff.1 z).1)] at hQ; exact aw_iret e_Ta_numberHere_22 rfl rfl hQ)
        | (rw [if_neg (fun z => by have := (isNb_iff.1 z).2; omega)] at hQ; exact aw_iret e_Ta_numberHere_22 rfl rfl hQ)
theorem c_Ta_isName {l : Launch} {E : En} {d : Nat} {I : It} {L : Lt} {R : Rt} {Z : Zt} {Q : Qt} {t : TB} {x : Wd} (hS : Sta R) (hT : TP I t) (hL : LW I x) (hO : WdO t x) {key : Nat} (hK : I 6 0 5 = nI key) (hk2 : key < 2) (hQ : Q (some (vi (bI (isNm key t x = true)))) I L R Z) : AMet l E d M_Ta_isName [vr 6 0] I L R Z Q := by
  have hT1 := hT.2.1
  have hO1 := hO.1
  have hO2 := hO.2.1
  have hO3 := hO.2.2.1
  refine AMet.of mf_Ta_isName rfl (Nat.le_of_ble_eq_true rfl) ?_
  refine aw_aload_n e_Ta_isName_0 rfl ?_
  refine aw_getE e_Ta_isName_1 fl_Ta_26 hL.2.2 ?_
  refine aw_iconst (v := nI 1) e_Ta_isName_4 (by decide) ?_
  refine awN_icmp_ne e_Ta_isName_5 (by omega) (by omega) (fun h5 => ?_) (fun h5 => ?_)
  · refine aw_iconst (v := nI 0) e_Ta_isName_21 (by decide) ?_
    first
      | exact awB_0 e_Ta_isName_22 (fun z => h5 (isNm_iff.1 z).1.1) hQ
      | exact awB_0 e_Ta_isName_22 (fun z => h18 (isNm_iff.1 z).1.2) hQ
  · refine aw_aload_n e_Ta_isName_8 rfl ?_
    refine aw_getE e_Ta_isName_9 fl_Ta_23 hL.2.1 ?_
    refine aw_aload_n e_Ta_isName_12 rfl ?_
    refine aw_getE e_Ta_isName_13 fl_Ta_63 hL.1 ?_
    refine awN_isub e_Ta_isName_16 (by omega) ?_
    refine aw_iconst (v := nI 1) e_Ta_isName_17 (by decide) ?_
    refine awN_icmp_eq e_Ta_isName_18 (by omega) (by omega) (fun h18 => ?_) (fun h18 => ?_)
    · have hlt := hO.2.2.2.1 (by omega)
      have hd := lt_v (t := t) (hO.2.2.2.2.1 h5 x.1 (Nat.le_refl _) hlt)
      refine aw_aload_n e_Ta_isName_23 rfl ?_
      refine aw_getR e_Ta_isName_24 fl_Ta_9 (hS.1 _ _ _ _ rfl) ?_
      refine aw_aload_n e_Ta_isName_27 rfl ?_
      refine aw_getE e_Ta_isName_28 fl_Ta_63 hL.1 ?_
      refine aw_balE e_Ta_isName_31 rfl (show _ < 96 by omega) (by omega) ((hT.2.2 _ (by omega)).trans hd.1) ?_
      refine aw_ist1 e_Ta_isName_32 ?_
      refine aw_iload_n e_Ta_isName_33 rfl ?_
      refine aw_bipush (v := nI 116) e_Ta_isName_34 (by decide) ?_
      refine awN_icmp_eq e_Ta_isName_36 (by omega) (by omega) (fun h36 => ?_) (fun h36 => ?_)
      · refine aw_iconst (v := nI 1) e_Ta_isName_67 (by decide) ?_
        refine aw_goto e_Ta_isName_68 ?_
        have hlv : lttr t x = (t.2 x.1).toInt.toNat := rfl
        first
          | (refine awB_1 e_Ta_isName_72 (isNm_iff.2 ⟨⟨h5, h18⟩, Or.inl (by omega)⟩) hQ)
          | (refine awB_1 e_Ta_isName_72 (isNm_iff.2 ⟨⟨h5, h18⟩, Or.inr ?_⟩) hQ; first | (rw [if_pos h43]; omega) | (rw [if_neg h43]; omega))
          | (refine awB_0 e_Ta_isName_72 (fun z => ?_) hQ; have z2 := (isNm_iff.1 z).2; first | (rw [if_pos h43] at z2; omega) | (rw [if_neg h43] at z2; omega))
      · refine aw_aload_n e_Ta_isName_39 rfl ?_
        refine aw_getE e_Ta_isName_40 fl_Ta_42 hK ?_
        refine awN_if_ne e_Ta_isName_43 (by omega) (fun h43 => ?_) (fun h43 => ?_)
        · refine aw_iload_n e_Ta_isName_55 rfl ?_
          refine aw_bipush (v := nI 112) e_Ta_isName_56 (by decide) ?_
          refine awN_icmp_eq e_Ta_isName_58 (by omega) (by omega) (fun h58 => ?_) (fun h58 => ?_)
          · refine aw_iconst (v := nI 1) e_Ta_isName_67 (by decide) ?_
            refine aw_goto e_Ta_isName_68 ?_
            have hlv : lttr t x = (t.2 x.1).toInt.toNat := rfl
            first
              | (refine awB_1 e_Ta_isName_72 (isNm_iff.2 ⟨⟨h5, h18⟩, Or.inl (by omega)⟩) hQ)
              | (refine awB_1 e_Ta_isName_72 (isNm_iff.2 ⟨⟨h5, h18⟩, Or.inr ?_⟩) hQ; first | (rw [if_pos h43]; omega) | (rw [if_neg h43]; omega))
              | (refine awB_0 e_Ta_isName_72 (fun z => ?_) hQ; have z2 := (isNm_iff.1 z).2; first | (rw [if_pos h43] at z2; omega) | (rw [if_neg h43] at z2; omega))
          · refine aw_iload_n e_Ta_isName_61 rfl ?_
            refine aw_bipush (v := nI 102) e_Ta_isName_62 (by decide) ?_
            refine awN_icmp_ne e_Ta_isName_64 (by omega) (by omega) (fun h64 => ?_) (fun h64 => ?_)
            · refine aw_iconst (v := nI 0) e_Ta_isName_71 (by decide) ?_
              have hlv : lttr t x = (t.2 x.1).toInt.toNat := rfl
              first
                | (refine awB_1 e_Ta_isName_72 (isNm_iff.2 ⟨⟨h5, h18⟩, Or.inl (by omega)⟩) hQ)
                | (refine awB_1 e_Ta_isName_72 (isNm_iff.2 ⟨⟨h5, h18⟩, Or.inr ?_⟩) hQ; first | (rw [if_pos h43]; omega) | (rw [if_neg h43]; omega))
                | (refine awB_0 e_Ta_isName_72 (fun z => ?_) hQ; have z2 := (isNm_iff.1 z).2; first | (rw [if_pos h43] at z2; omega) | (rw [if_neg h43] at z2; omega))
            · refine aw_iconst (v := nI 1) e_Ta_isName_67 (by decide) ?_
              refine aw_goto e_Ta_isName_68 ?_
              have hlv : lttr t x = (t.2 x.1).toInt.toNat := rfl
              first
                | (refine awB_1 e_Ta_isName_72 (isNm_iff.2 ⟨⟨h5, h18⟩, Or.inl (by omega)⟩) hQ)
                | (refine awB_1 e_Ta_isName_72 (isNm_iff.2 ⟨⟨h5, h18⟩, Or.inr ?_⟩) hQ; first | (rw [if_pos h43]; omega) | (rw [if_neg h43]; omega))
                | (refine awB_0 e_Ta_isName_72 (fun z => ?_) hQ; have z2 := (isNm_iff.1 z).2; first | (rw [if_pos h43] at z2; omega) | (rw [if_neg h43] at z2; omega))
        · refine aw_iload_n e_Ta_isName_46 rfl ?_
          refine aw_bipush (v := nI 104) e_Ta_isName_47 (by decide) ?_
          refine awN_icmp_ne e_Ta_isName_49 (by omega) (by omega) (fun h49 => ?_) (fun h49 => ?_)
          · refine aw_iconst (v := nI 0) e_Ta_isName_71 (by decide) ?_
            have hlv : lttr t x = (t.2 x.1).toInt.toNat := rfl
            first
              | (refine awB_1 e_Ta_isName_72 (isNm_iff.2 ⟨⟨h5, h18⟩, Or.inl (by omega)⟩) hQ)
              | (refine awB_1 e_Ta_isName_72 (isNm_iff.2 ⟨⟨h5, h18⟩, Or.inr ?_⟩) hQ; first | (rw [if_pos h43]; omega) | (rw [if_neg h43]; omega))
              | (refine awB_0 e_Ta_isName_72 (fun z => ?_) hQ; have z2 := (isNm_iff.1 z).2; first | (rw [if_pos h43] at z2; omega) | (rw [if_neg h43] at z2; omega))
          · refine aw_goto e_Ta_isName_52 ?_
            refine aw_iconst (v := nI 1) e_Ta_isName_67 (by decide) ?_
            refine aw_goto e_Ta_isName_68 ?_
            have hlv : lttr t x = (t.2 x.1).toInt.toNat := rfl
            first
              | (refine awB_1 e_Ta_isName_72 (isNm_iff.2 ⟨⟨h5, h18⟩, Or.inl (by omega)⟩) hQ)
              | (refine awB_1 e_Ta_isName_72 (isNm_iff.2 ⟨⟨h5, h18⟩, Or.inr ?_⟩) hQ; first | (rw [if_pos h43]; omega) | (rw [if_neg h43]; omega))
              | (refine awB_0 e_Ta_isName_72 (fun z => ?_) hQ; have z2 := (isNm_iff.1 z).2; first | (rw [if_pos h43] at z2; omega) | (rw [if_neg h43] at z2; omega))
    · refine aw_iconst (v := nI 0) e_Ta_isName_21 (by decide) ?_
      first
        | exact awB_0 e_Ta_isName_22 (fun z => h5 (isNm_iff.1 z).1.1) hQ
        | exact awB_0 e_Ta_isName_22 (fun z => h18 (isNm_iff.1 z).1.2) hQ
theorem c_Ta_joinsAt {l : Launch} {E : En} {d : Nat} {I : It} {L : Lt} {R : Rt} {Z : Zt} {Q : Qt} {t : TB} {x : Wd} (hS : Sta R) (hT : TP I t) (hL : LW I x) (hO : WdO t x) {m : Nat} (hm : m < 5) (hQ : Q (some (vi (bI (jnB t m x = true)))) I L R Z) : AMet l E (d + 1) M_Ta_joinsAt [vr 6 0, vi (nI m)] I L R Z Q := by
  refine AMet.of mf_Ta_joinsAt rfl (Nat.le_of_ble_eq_true rfl) ?_
  refine aw_iload_n e_Ta_joinsAt_0 rfl ?_
  have hm5 : m = 0 ∨ m = 1 ∨ m = 2 ∨ m = 3 ∨ m = 4 := by omega
  rcases hm5 with rfl | rfl | rfl | rfl | rfl
  · have hQ : Q (some (vi (bI ((sgn t x 124) = true)))) I L R Z := hQ
    refine aw_tsIn (off := 31) (tgt := 32) e_Ta_joinsAt_1 (by decide) (by decide) (by decide) (by decide) ?_
    refine aw_aload_n e_Ta_joinsAt_32 rfl ?_
    refine aw_bipush (v := nI 124) e_Ta_joinsAt_33 (by decide) ?_
    refine aw_cV1 e_Ta_joinsAt_35 ml_Ta_87 mf_Ta_isSign mv_Ta_isSign (c_Ta_isSign hS hT hL hO ?_)
    exact awB_ret e_Ta_joinsAt_38 rfl hQ
  · have hQ : Q (some (vi (bI ((sgn t x 38) = true)))) I L R Z := hQ
    refine aw_tsIn (off := 38) (tgt := 39) e_Ta_joinsAt_1 (by decide) (by decide) (by decide) (by decide) ?_
    refine aw_aload_n e_Ta_joinsAt_39 rfl ?_
    refine aw_bipush (v := nI 38) e_Ta_joinsAt_40 (by decide) ?_
    refine aw_cV1 e_Ta_joinsAt_42 ml_Ta_87 mf_Ta_isSign mv_Ta_isSign (c_Ta_isSign hS hT hL hO ?_)
    exact awB_ret e_Ta_joinsAt_45 rfl hQ
  · have hQ : Q (some (vi (bI ((sgn t x 60 || sgn t x 61 || sgn t x 62) = true)))) I L R Z := hQ
    refine aw_tsIn (off := 45) (tgt := 46) e_Ta_joinsAt_1 (by decide) (by decide) (by decide) (by decide) ?_
    refine aw_aload_n e_Ta_joinsAt_46 rfl ?_
    refine aw_bipush (v := nI 60) e_Ta_joinsAt_47 (by decide) ?_
    refine aw_cV1 e_Ta_joinsAt_49 ml_Ta_87 mf_Ta_isSign mv_Ta_isSign (c_Ta_isSign hS hT hL hO ?_)
    refine awB_ne e_Ta_joinsAt_52 (fun h52 => ?_) (fun h52 => ?_)
    · refine aw_iconst (v := nI 1) e_Ta_joinsAt_73 (by decide) ?_
      refine aw_goto e_Ta_joinsAt_74 ?_
      first
        | exact awB_1 e_Ta_joinsAt_78 (by show (sgn t x 60 || sgn t x 61 || sgn t x 62) = true; rw [h52]; rfl) hQ
        | exact awB_1 e_Ta_joinsAt_78 (by show (sgn t x 60 || sgn t x 61 || sgn t x 62) = true; rw [h61, Bool.or_true]; rfl) hQ
        | exact awB_1 e_Ta_joinsAt_78 (by show (sgn t x 60 || sgn t x 61 || sgn t x 62) = true; rw [h70, Bool.or_true]) hQ
        | exact awB_0 e_Ta_joinsAt_78 (by show ¬ (sgn t x 60 || sgn t x 61 || sgn t x 62) = true; rw [Bool.eq_false_iff.2 h52, Bool.eq_false_iff.2 h61, Bool.eq_false_iff.2 h70]; decide) hQ
    · refine aw_aload_n e_Ta_joinsAt_55 rfl ?_
      refine aw_bipush (v := nI 61) e_Ta_joinsAt_56 (by decide) ?_
      refine aw_cV1 e_Ta_joinsAt_58 ml_Ta_87 mf_Ta_isSign mv_Ta_isSign (c_Ta_isSign hS hT hL hO ?_)
      refine awB_ne e_Ta_joinsAt_61 (fun h61 => ?_) (fun h61 => ?_)
      · refine aw_iconst (v := nI 1) e_Ta_joinsAt_73 (by decide) ?_
        refine aw_goto e_Ta_joinsAt_74 ?_
        first
          | exact awB_1 e_Ta_joinsAt_78 (by show (sgn t x 60 || sgn t x 61 || sgn t x 62) = true; rw [h52]; rfl) hQ
          | exact awB_1 e_Ta_joinsAt_78 (by show (sgn t x 60 || sgn t x 61 || sgn t x 62) = true; rw [h61, Bool.or_true]; rfl) hQ
          | exact awB_1 e_Ta_joinsAt_78 (by show (sgn t x 60 || sgn t x 61 || sgn t x 62) = true; rw [h70, Bool.or_true]) hQ
          | exact awB_0 e_Ta_joinsAt_78 (by show ¬ (sgn t x 60 || sgn t x 61 || sgn t x 62) = true; rw [Bool.eq_false_iff.2 h52, Bool.eq_false_iff.2 h61, Bool.eq_false_iff.2 h70]; decide) hQ
      · refine aw_aload_n e_Ta_joinsAt_64 rfl ?_
        refine aw_bipush (v := nI 62) e_Ta_joinsAt_65 (by decide) ?_
        refine aw_cV1 e_Ta_joinsAt_67 ml_Ta_87 mf_Ta_isSign mv_Ta_isSign (c_Ta_isSign hS hT hL hO ?_)
        refine awB_eq e_Ta_joinsAt_70 (fun h70 => ?_) (fun h70 => ?_)
        · refine aw_iconst (v := nI 0) e_Ta_joinsAt_77 (by decide) ?_
          first
            | exact awB_1 e_Ta_joinsAt_78 (by show (sgn t x 60 || sgn t x 61 || sgn t x 62) = true; rw [h52]; rfl) hQ
            | exact awB_1 e_Ta_joinsAt_78 (by show (sgn t x 60 || sgn t x 61 || sgn t x 62) = true; rw [h61, Bool.or_true]; rfl) hQ
            | exact awB_1 e_Ta_joinsAt_78 (by show (sgn t x 60 || sgn t x 61 || sgn t x 62) = true; rw [h70, Bool.or_true]) hQ
            | exact awB_0 e_Ta_joinsAt_78 (by show ¬ (sgn t x 60 || sgn t x 61 || sgn t x 62) = true; rw [Bool.eq_false_iff.2 h52, Bool.eq_false_iff.2 h61, Bool.eq_false_iff.2 h70]; decide) hQ
        · refine aw_iconst (v := nI 1) e_Ta_joinsAt_73 (by decide) ?_
          refine aw_goto e_Ta_joinsAt_74 ?_
          first
            | exact awB_1 e_Ta_joinsAt_78 (by show (sgn t x 60 || sgn t x 61 || sgn t x 62) = true; rw [h52]; rfl) hQ
            | exact awB_1 e_Ta_joinsAt_78 (by show (sgn t x 60 || sgn t x 61 || sgn t x 62) = true; rw [h61, Bool.or_true]; rfl) hQ
            | exact awB_1 e_Ta_joinsAt_78 (by show (sgn t x 60 || sgn t x 61 || sgn t x 62) = true; rw [h70, Bool.or_true]) hQ
            | exact awB_0 e_Ta_joinsAt_78 (by show ¬ (sgn t x 60 || sgn t x 61 || sgn t x 62) = true; rw [Bool.eq_false_iff.2 h52, Bool.eq_false_iff.2 h61, Bool.eq_false_iff.2 h70]; decide) hQ
  · have hQ : Q (some (vi (bI ((sgn t x 43 || sgn t x 45) = true)))) I L R Z := hQ
    refine aw_tsIn (off := 78) (tgt := 79) e_Ta_joinsAt_1 (by decide) (by decide) (by decide) (by decide) ?_
    refine aw_aload_n e_Ta_joinsAt_79 rfl ?_
    refine aw_bipush (v := nI 43) e_Ta_joinsAt_80 (by decide) ?_
    refine aw_cV1 e_Ta_joinsAt_82 ml_Ta_87 mf_Ta_isSign mv_Ta_isSign (c_Ta_isSign hS hT hL hO ?_)
    refine awB_ne e_Ta_joinsAt_85 (fun h85 => ?_) (fun h85 => ?_)
    · refine aw_iconst (v := nI 1) e_Ta_joinsAt_97 (by decide) ?_
      refine aw_goto e_Ta_joinsAt_98 ?_
      first
        | exact awB_1 e_Ta_joinsAt_102 (by show (sgn t x 43 || sgn t x 45) = true; rw [h85]; rfl) hQ
        | exact awB_1 e_Ta_joinsAt_102 (by show (sgn t x 43 || sgn t x 45) = true; rw [h94, Bool.or_true]) hQ
        | exact awB_0 e_Ta_joinsAt_102 (by show ¬ (sgn t x 43 || sgn t x 45) = true; rw [Bool.eq_false_iff.2 h85, Bool.eq_false_iff.2 h94]; decide) hQ
    · refine aw_aload_n e_Ta_joinsAt_88 rfl ?_
      refine aw_bipush (v := nI 45) e_Ta_joinsAt_89 (by decide) ?_
      refine aw_cV1 e_Ta_joinsAt_91 ml_Ta_87 mf_Ta_isSign mv_Ta_isSign (c_Ta_isSign hS hT hL hO ?_)
      refine awB_eq e_Ta_joinsAt_94 (fun h94 => ?_) (fun h94 => ?_)
      · refine aw_iconst (v := nI 0) e_Ta_joinsAt_101 (by decide) ?_
        first
          | exact awB_1 e_Ta_joinsAt_102 (by show (sgn t x 43 || sgn t x 45) = true; rw [h85]; rfl) hQ
          | exact awB_1 e_Ta_joinsAt_102 (by show (sgn t x 43 || sgn t x 45) = true; rw [h94, Bool.or_true]) hQ
          | exact awB_0 e_Ta_joinsAt_102 (by show ¬ (sgn t x 43 || sgn t x 45) = true; rw [Bool.eq_false_iff.2 h85, Bool.eq_false_iff.2 h94]; decide) hQ
      · refine aw_iconst (v := nI 1) e_Ta_joinsAt_97 (by decide) ?_
        refine aw_goto e_Ta_joinsAt_98 ?_
        first
          | exact awB_1 e_Ta_joinsAt_102 (by show (sgn t x 43 || sgn t x 45) = true; rw [h85]; rfl) hQ
          | exact awB_1 e_Ta_joinsAt_102 (by show (sgn t x 43 || sgn t x 45) = true; rw [h94, Bool.or_true]) hQ
          | exact awB_0 e_Ta_joinsAt_102 (by show ¬ (sgn t x 43 || sgn t x 45) = true; rw [Bool.eq_false_iff.2 h85, Bool.eq_false_iff.2 h94]; decide) hQ
  · have hQ : Q (some (vi (bI ((sgn t x 42 || sgn t x 47) = true)))) I L R Z := hQ
    refine aw_tsOut (tgt := 103) e_Ta_joinsAt_1 (Or.inr (by decide)) (by decide) ?_
    refine aw_aload_n e_Ta_joinsAt_103 rfl ?_
    refine aw_bipush (v := nI 42) e_Ta_joinsAt_104 (by decide) ?_
    refine aw_cV1 e_Ta_joinsAt_106 ml_Ta_87 mf_Ta_isSign mv_Ta_isSign (c_Ta_isSign hS hT hL hO ?_)
    refine awB_ne e_Ta_joinsAt_109 (fun h109 => ?_) (fun h109 => ?_)
    · refine aw_iconst (v := nI 1) e_Ta_joinsAt_121 (by decide) ?_
      refine aw_goto e_Ta_joinsAt_122 ?_
      first
        | exact awB_1 e_Ta_joinsAt_126 (by show (sgn t x 42 || sgn t x 47) = true; rw [h109]; rfl) hQ
        | exact awB_1 e_Ta_joinsAt_126 (by show (sgn t x 42 || sgn t x 47) = true; rw [h118, Bool.or_true]) hQ
        | exact awB_0 e_Ta_joinsAt_126 (by show ¬ (sgn t x 42 || sgn t x 47) = true; rw [Bool.eq_false_iff.2 h109, Bool.eq_false_iff.2 h118]; decide) hQ
    · refine aw_aload_n e_Ta_joinsAt_112 rfl ?_
      refine aw_bipush (v := nI 47) e_Ta_joinsAt_113 (by decide) ?_
      refine aw_cV1 e_Ta_joinsAt_115 ml_Ta_87 mf_Ta_isSign mv_Ta_isSign (c_Ta_isSign hS hT hL hO ?_)
      refine awB_eq e_Ta_joinsAt_118 (fun h118 => ?_) (fun h118 => ?_)
      · refine aw_iconst (v := nI 0) e_Ta_joinsAt_125 (by decide) ?_
        first
          | exact awB_1 e_Ta_joinsAt_126 (by show (sgn t x 42 || sgn t x 47) = true; rw [h109]; rfl) hQ
          | exact awB_1 e_Ta_joinsAt_126 (by show (sgn t x 42 || sgn t x 47) = true; rw [h118, Bool.or_true]) hQ
          | exact awB_0 e_Ta_joinsAt_126 (by show ¬ (sgn t x 42 || sgn t x 47) = true; rw [Bool.eq_false_iff.2 h109, Bool.eq_false_iff.2 h118]; decide) hQ
      · refine aw_iconst (v := nI 1) e_Ta_joinsAt_121 (by decide) ?_
        refine aw_goto e_Ta_joinsAt_122 ?_
        first
          | exact awB_1 e_Ta_joinsAt_126 (by show (sgn t x 42 || sgn t x 47) = true; rw [h109]; rfl) hQ
          | exact awB_1 e_Ta_joinsAt_126 (by show (sgn t x 42 || sgn t x 47) = true; rw [h118, Bool.or_true]) hQ
          | exact awB_0 e_Ta_joinsAt_126 (by show ¬ (sgn t x 42 || sgn t x 47) = true; rw [Bool.eq_false_iff.2 h109, Bool.eq_false_iff.2 h118]; decide) hQ
theorem c_Ta_put {l : Launch} {E : En} {d : Nat} {I : It} {L : Lt} {R : Rt} {Z : Zt} {Q : Qt} {k : Nat} {y : Int32} (hS : Sta R) (hk : I 6 0 7 = nI k) (hk2 : k ≤ 96) (hQ1 : k < 96 → Q none (sI (sI I 21 0 k y) 6 0 7 (nI (k + 1))) L R Z) (hQ2 : ¬ k < 96 → Q none I L R Z) : AMet l E d M_Ta_put [vr 6 0, vi y] I L R Z Q := by
  refine AMet.of mf_Ta_put rfl (Nat.le_of_ble_eq_true rfl) ?_
  refine aw_aload_n e_Ta_put_0 rfl ?_
  refine aw_getE e_Ta_put_1 fl_Ta_29 hk ?_
  refine aw_aload_n e_Ta_put_4 rfl ?_
  refine aw_getR e_Ta_put_5 fl_Ta_15 (hS.1 _ _ _ _ rfl) ?_
  refine aw_alen (v := nI 96) e_Ta_put_8 rfl ?_
  refine awN_icmp_ge e_Ta_put_9 (by omega) (by omega) (fun h9 => ?_) (fun h9 => ?_)
  · first
      | exact aw_vret e_Ta_put_32 rfl (hQ1 h9)
      | exact aw_vret e_Ta_put_32 rfl (hQ2 (by omega))
  · refine aw_aload_n e_Ta_put_12 rfl ?_
    refine aw_getR e_Ta_put_13 fl_Ta_15 (hS.1 _ _ _ _ rfl) ?_
    refine aw_aload_n e_Ta_put_16 rfl ?_
    refine aw_getE e_Ta_put_17 fl_Ta_29 hk ?_
    refine aw_iload_n e_Ta_put_20 rfl ?_
    refine aw_iast e_Ta_put_21 rfl (show _ < 96 by omega) (by omega) ?_
    refine aw_aload_n e_Ta_put_22 rfl ?_
    refine aw_dup e_Ta_put_23 rfl ?_
    refine aw_getE e_Ta_put_24 fl_Ta_29 ((sI_n2 (by decide)).trans hk) ?_
    refine aw_iconst (v := nI 1) e_Ta_put_27 (by decide) ?_
    first | refine awN_iadd e_Ta_put_28 ?_ | refine aw_iadd e_Ta_put_28 ?_
    refine aw_putI e_Ta_put_29 fl_Ta_29 ?_
    first
      | exact aw_vret e_Ta_put_32 rfl (hQ1 h9)
      | exact aw_vret e_Ta_put_32 rfl (hQ2 (by omega))
def opR (t : TB) (key : Nat) (x : Xs) : Bool × Xs := if isNb x.1 = true then (true, nxX t (opX x (0, numV t x.1.1 (x.1.2.1 - x.1.1)))) else if isNm key t x.1 = true then (true, nxX t (opX x (1, lttr t x.1))) else (false, x)
theorem num_b {t : TB} {x : Wd} (hO : WdO t x) (h : isNb x = true) : numV t x.1 (x.2.1 - x.1) < 10000 := by
  have h1 := isNb_iff.1 h
  have h2 := numV_lt (t := t) (hO.2.2.2.2.2 h1.1) (x.2.1 - x.1) (by have := hO.1; omega) h1.2
  have h3 : 10 ^ (x.2.1 - x.1) ≤ 10 ^ 4 := Nat.pow_le_pow_right (by decide) h1.2
  omega
theorem c_Ta_readOperand {l : Launch} {E : En} {d : Nat} {I : It} {L : Lt} {R : Rt} {Z : Zt} {Q : Qt} {t : TB} {key : Nat} {x : Xs} (hS : Sta R) (hTS : TS I t key x) (hX : XI t x) (hk2 : key < 2) (hQ : ∀ I2, RS t key I I2 (opR t key x) → Q (some (vi (bI ((opR t key x).1 = true)))) I2 L R Z) : AMet l E (d + 2) M_Ta_readOperand [vr 6 0] I L R Z Q := by
  have hT1 := hTS.1.2.1
  have hX1 := hX.1.1
  have hX2 := hX.1.2.1
  have hX3 := hX.1.2.2.1
  have hX4 := hX.2
  refine AMet.of mf_Ta_readOperand rfl (Nat.le_of_ble_eq_true rfl) ?_
  refine aw_aload_n e_Ta_readOperand_0 rfl ?_
  refine aw_cV0 e_Ta_readOperand_1 ml_Ta_45 mf_Ta_numberHere mv_Ta_numberHere (c_Ta_numberHere hS hTS.1 hTS.2.2.1 hX.1 ?_)
  by_cases hn : isNb x.1 = true
  · have hnv := num_b hX.1 hn
    have hnn := isNb_iff.1 hn
    have hlt := hX.1.2.2.2.1 (by omega)
    rw [show nbI t x.1 = nI (numV t x.1.1 (x.1.2.1 - x.1.1)) from if_pos hn]
    refine aw_ist1 e_Ta_readOperand_4 ?_
    refine aw_iload_n e_Ta_readOperand_5 rfl ?_
    refine aw_iconst (v := -1) e_Ta_readOperand_6 (by decide) ?_
    refine aw_icmp_ne e_Ta_readOperand_7 (fun h7 => ?_) (fun h7 => ?_)
    · refine aw_aload_n e_Ta_readOperand_19 rfl ?_
      refine aw_iload_n e_Ta_readOperand_20 rfl ?_
      refine aw_iconst (v := -1) e_Ta_readOperand_21 (by decide) ?_
      refine aw_icmp_ne e_Ta_readOperand_22 (fun h22 => ?_) (fun h22 => ?_)
      · refine aw_iload_n e_Ta_readOperand_38 rfl ?_
        refine aw_cV1 e_Ta_readOperand_39 ml_Ta_98 mf_Ta_put mv_Ta_put (c_Ta_put (k := x.2.1.length) hS hTS.2.2.2.1 (by omega) (fun hl => ?_) (fun hl => absurd (by omega) hl))
        have hTP : TS _ t key (ptX x (0, numV t x.1.1 (x.1.2.1 - x.1.1))) := hTS.put
        refine aw_aload_n e_Ta_readOperand_42 rfl ?_
        refine aw_dup e_Ta_readOperand_43 rfl ?_
        refine aw_getE e_Ta_readOperand_44 fl_Ta_32 (show _ = nI x.2.2 from hTP.2.2.2.2.2) ?_
        refine aw_iconst (v := nI 1) e_Ta_readOperand_47 (by decide) ?_
        first | refine awN_iadd e_Ta_readOperand_48 ?_ | refine aw_iadd e_Ta_readOperand_48 ?_
        refine aw_putI e_Ta_readOperand_49 fl_Ta_32 ?_
        have hTO := hTP.op
        refine aw_aload_n e_Ta_readOperand_52 rfl ?_
        refine aw_cV0 e_Ta_readOperand_53 ml_Ta_35 mf_Ta_goOn mv_Ta_goOn (c_Ta_goOn (t := t) (x := x.1) hS hTO.1 hTO.2.2.1.2.1 hTO.2.2.1.2.2 hX.1.2.1 hX.1.2.2.1 (fun I2 hl2 hf2 => ?_))
        refine aw_iconst (v := nI 1) e_Ta_readOperand_56 (by decide) ?_
        have hq := hQ I2
        unfold opR at hq
        rw [if_pos hn] at hq
        exact awB_1 e_Ta_readOperand_57 rfl (hq ⟨fT_t (fT_s (fT_s (fT_s fT_0 (by decide)) (by decide)) (by decide)) hf2.T, fun _ => hTO.nx hl2 hf2, fun z => absurd (show true = false from z) (by decide)⟩)
      · exact absurd h22 (nI_m1 (by omega))
    · exact absurd h7 (nI_m1 (by omega))
  · rw [show nbI t x.1 = -1 from if_neg hn]
    refine aw_ist1 e_Ta_readOperand_4 ?_
    refine aw_iload_n e_Ta_readOperand_5 rfl ?_
    refine aw_iconst (v := -1) e_Ta_readOperand_6 (by decide) ?_
    refine aw_icmp_ne e_Ta_readOperand_7 (fun h7 => ?_) (fun h7 => ?_)
    · exact absurd rfl h7
    · refine aw_aload_n e_Ta_readOperand_10 rfl ?_
      refine aw_cV0 e_Ta_readOperand_11 ml_Ta_106 mf_Ta_isName mv_Ta_isName (c_Ta_isName hS hTS.1 hTS.2.2.1 hX.1 hTS.2.1 hk2 ?_)
      refine awB_ne e_Ta_readOperand_14 (fun h14 => ?_) (fun h14 => ?_)
      · have hnm := h14
        have hnn := isNm_iff.1 hnm
        have hlt := hX.1.2.2.2.1 (by omega)
        have hlv : t.2 x.1.1 = nI (lttr t x.1) := (lt_v (hX.1.2.2.2.2.1 hnn.1.1 x.1.1 (Nat.le_refl _) hlt)).1
        have hnm2 := hnm
        refine aw_aload_n e_Ta_readOperand_19 rfl ?_
        refine aw_iload_n e_Ta_readOperand_20 rfl ?_
        refine aw_iconst (v := -1) e_Ta_readOperand_21 (by decide) ?_
        refine aw_icmp_ne e_Ta_readOperand_22 (fun h22 => ?_) (fun h22 => ?_)
        · exact absurd rfl h22
        · refine aw_aload_n e_Ta_readOperand_25 rfl ?_
          refine aw_getR e_Ta_readOperand_26 fl_Ta_9 (hS.1 _ _ _ _ rfl) ?_
          refine aw_aload_n e_Ta_readOperand_29 rfl ?_
          refine aw_getE e_Ta_readOperand_30 fl_Ta_63 hTS.2.2.1.1 ?_
          refine aw_balE e_Ta_readOperand_33 rfl (show _ < 96 by omega) (by omega) ((hTS.1.2.2 _ (by omega)).trans hlv) ?_
          refine aw_ineg e_Ta_readOperand_34 ?_
          refine aw_goto e_Ta_readOperand_35 ?_
          refine aw_cV1 e_Ta_readOperand_39 ml_Ta_98 mf_Ta_put mv_Ta_put (c_Ta_put (k := x.2.1.length) hS hTS.2.2.2.1 (by omega) (fun hl => ?_) (fun hl => absurd (by omega) hl))
          have hTP : TS _ t key (ptX x (1, lttr t x.1)) := hTS.put
          refine aw_aload_n e_Ta_readOperand_42 rfl ?_
          refine aw_dup e_Ta_readOperand_43 rfl ?_
          refine aw_getE e_Ta_readOperand_44 fl_Ta_32 (show _ = nI x.2.2 from hTP.2.2.2.2.2) ?_
          refine aw_iconst (v := nI 1) e_Ta_readOperand_47 (by decide) ?_
          first | refine awN_iadd e_Ta_readOperand_48 ?_ | refine aw_iadd e_Ta_readOperand_48 ?_
          refine aw_putI e_Ta_readOperand_49 fl_Ta_32 ?_
          have hTO := hTP.op
          refine aw_aload_n e_Ta_readOperand_52 rfl ?_
          refine aw_cV0 e_Ta_readOperand_53 ml_Ta_35 mf_Ta_goOn mv_Ta_goOn (c_Ta_goOn (t := t) (x := x.1) hS hTO.1 hTO.2.2.1.2.1 hTO.2.2.1.2.2 hX.1.2.1 hX.1.2.2.1 (fun I2 hl2 hf2 => ?_))
          refine aw_iconst (v := nI 1) e_Ta_readOperand_56 (by decide) ?_
          have hq := hQ I2
          unfold opR at hq
          rw [if_neg hn, if_pos hnm] at hq
          exact awB_1 e_Ta_readOperand_57 rfl (hq ⟨fT_t (fT_s (fT_s (fT_s fT_0 (by decide)) (by decide)) (by decide)) hf2.T, fun _ => hTO.nx hl2 hf2, fun z => absurd (show true = false from z) (by decide)⟩)
      · refine aw_iconst (v := nI 0) e_Ta_readOperand_17 (by decide) ?_
        have hq := hQ I
        unfold opR at hq
        rw [if_neg hn, if_neg h14] at hq
        exact awB_0 e_Ta_readOperand_18 (show ¬ false = true by decide) (hq ⟨fT_0, fun z => absurd (show false = true from z) (by decide), fun _ => ⟨hTS.2.2.1.1, hTS.1, _, by omega, hTS.2.2.2.1⟩⟩)
