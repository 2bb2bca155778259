/-! ===== the calls, 11: sheets ===== -/
def setS (S : AS) (s : Nat) (v : ShV) : AS := (sM S, sG S, sK S, sT S, (fun i => if i = s then v else sH S i), S.2.2.2.2.2)
theorem CS_sheet {I I2 : It} {R : Rt} {Z : Zt} {S : AS} {s : Nat} {v : ShV} (h : CS I R Z S) (hs : s < 4) (e : ∀ t i, ¬ ((t = 4 ∨ t = 26) ∧ i = s) → I2 t i = I t i) (hv : SHo I2 s v) : CS I2 R Z (setS S s v) := by
  obtain ⟨h1, h2, h3, h4, h5, h6, h7, h8, h9, h10, h11⟩ := h
  refine ⟨h1, h2.keep h3.1 (fun t i hti => e t i (by unfold own at hti; omega)) (fun _ _ _ => rfl), h3, fun z => ⟨(h4 z).1.keep (h4 z).2.1 (fun t i hti => e t i (by unfold own at hti; omega)) (fun _ _ _ => rfl), (h4 z).2⟩, by rw [e 8 0 (by omega)]; exact h5, by rw [e 6 0 (by omega), e 20 0 (by omega)]; exact h6, fun i hi => ?_, fun i hi => (h8 i hi).keep (e 5 i (by omega)) (e 3 _ (by omega)) (e 4 _ (by omega)) (e 26 _ (by omega)), by rw [e 8 0 (by omega), e 23 0 (by omega)]; exact h9, h10, h11⟩
  show SHo I2 i (if i = s then v else sH S i)
  by_cases q : i = s
  · rw [if_pos q, q]; exact hv
  · rw [if_neg q]; exact (h7 i hi).keep (e 4 i (by omega)) (e 26 i (by omega))
theorem KM_sheet {I I2 : It} {L : Lt} {R : Rt} {s : Nat} (e : ∀ t i, ¬ ((t = 4 ∨ t = 26) ∧ i = s) → I2 t i = I t i) : KM I L R I2 L R := fun t i ht => ⟨e t i (by omega), rfl, rfl⟩
def shN (so n : Int32) : Int32 := if so = -1 then nI 0 else n
def op_sheet (S : AS) (s so n : Int32) : AS × Int32 := if inR s 4 ∧ -1 ≤ so.toInt ∧ so.toInt ≤ 2 then (if 24 < (shN so n).toInt then (S, -1000000001) else if (shN so n).toInt < 0 then (S, -1000000014) else (setS S (ix s) (so, ix (shN so n), fun _ => nI 0), shN so n)) else (S, -1000000001)
theorem so_4 {so : Int32} (h1 : -1 ≤ so.toInt) (h2 : so.toInt ≤ 2) : so = -1 ∨ so = nI 0 ∨ so = nI 1 ∨ so = nI 2 := by
  have e1 : (-1 : Int32).toInt = -1 := by decide
  have e2 : (nI 0).toInt = 0 := by decide
  have e3 : (nI 1).toInt = 1 := by decide
  have e4 : (nI 2).toInt = 2 := by decide
  have h : so.toInt = -1 ∨ so.toInt = 0 ∨ so.toInt = 1 ∨ so.toInt = 2 := by omega
  rcases h with h | h | h | h
  · exact Or.inl (i_eq.mpr (by rw [h, e1]))
  · exact Or.inr (Or.inl (i_eq.mpr (by rw [h, e2])))
  · exact Or.inr (Or.inr (Or.inl (i_eq.mpr (by rw [h, e3]))))
  · exact Or.inr (Or.inr (Or.inr (i_eq.mpr (by rw [h, e4]))))
theorem c_Pb_sheet {l : Launch} {E : En} {d : Nat} {I : It} {L : Lt} {R : Rt} {Z : Zt} {Q : Qt} {S : AS} (hCS : CS I R Z S) {x y z : Int32} (hQ : ∀ I2 L2 R2, CS I2 R2 Z (op_sheet S x y z).1 → KM I L R I2 L2 R2 → Q (some (vi (op_sheet S x y z).2)) I2 L2 R2 Z) : AMet l E (d + 2) M_Pb_sheet [vr 8 0, vi x, vi y, vi z] I L R Z Q := by
  have hS := hCS.1
  have hC := hCS.2.1
  have hW := hCS.2.2.1.1
  have hWn := hW.1
  have hT1 : (-1 : Int32).toInt = -1 := by decide
  have hT2 : (nI 2).toInt = 2 := by decide
  have hT3 : (nI 24).toInt = 24 := by decide
  refine AMet.of mf_Pb_sheet rfl (Nat.le_of_ble_eq_true rfl) ?_
  refine aw_iload_n e_Pb_sheet_0 rfl ?_
  refine aw_cS1 e_Pb_sheet_1 ml_Pb_261 mf_Pb_isSheet ms_Pb_isSheet (c_Pb_isSheet ?_)
  refine awB_eq e_Pb_sheet_4 (fun h4 => ?_) (fun h4 => ?_)
  · refine aw_ldc (v := -1000000001) e_Pb_sheet_17 kc_Pb_74 ?_
    have hq := hQ I L R
    unfold op_sheet at hq
    first
      | (rw [if_neg (fun w => h4 w.1)] at hq; exact aw_iret e_Pb_sheet_19 rfl rfl (hq hCS KM_0))
      | (rw [if_neg (fun w => by have w1 := w.2.1; have w2 := w.2.2; omega)] at hq; exact aw_iret e_Pb_sheet_19 rfl rfl (hq hCS KM_0))
  · refine aw_iload_n e_Pb_sheet_7 rfl ?_
    refine aw_iconst (v := -1) e_Pb_sheet_8 (by decide) ?_
    refine awZ_icmp_lt e_Pb_sheet_9 (fun h9 => ?_) (fun h9 => ?_)
    · refine aw_ldc (v := -1000000001) e_Pb_sheet_17 kc_Pb_74 ?_
      have hq := hQ I L R
      unfold op_sheet at hq
      first
        | (rw [if_neg (fun w => h4 w.1)] at hq; exact aw_iret e_Pb_sheet_19 rfl rfl (hq hCS KM_0))
        | (rw [if_neg (fun w => by have w1 := w.2.1; have w2 := w.2.2; omega)] at hq; exact aw_iret e_Pb_sheet_19 rfl rfl (hq hCS KM_0))
    · refine aw_iload_n e_Pb_sheet_12 rfl ?_
      refine aw_iconst (v := nI 2) e_Pb_sheet_13 (by decide) ?_
      refine awZ_icmp_le e_Pb_sheet_14 (fun h14 => ?_) (fun h14 => ?_)
      · have hg : inR x 4 ∧ -1 ≤ y.toInt ∧ y.toInt ≤ 2 := ⟨h4, by omega, by omega⟩
        have k30 : AWq l E (d + 2) M_Pb_sheet Z 30 [some (vr 8 0), some (vi x), some (vi y), some (vi z), none] [vi (shN y z)] I L R Z Q := by
          refine aw_ist4 e_Pb_sheet_30 ?_
          refine aw_iload e_Pb_sheet_32 rfl ?_
          refine aw_bipush (v := nI 24) e_Pb_sheet_34 (by decide) ?_
          refine awZ_icmp_le e_Pb_sheet_36 (fun h36 => ?_) (fun h36 => ?_)
          · refine aw_iload e_Pb_sheet_42 rfl ?_
            refine awZ_if_ge e_Pb_sheet_44 (fun h44 => ?_) (fun h44 => ?_)
            · obtain ⟨m, hm, hmm⟩ := inR_nI (x := shN y z) (n := 25) ⟨by omega, by omega⟩
              obtain ⟨s, hs, rfl⟩ := inR_nI hg.1
              refine aw_aload_n e_Pb_sheet_51 rfl ?_
              refine aw_getR e_Pb_sheet_52 fl_Pb_55 (hS.1 _ _ _ _ rfl) ?_
              refine aw_iload_n e_Pb_sheet_55 rfl ?_
              refine aw_aald e_Pb_sheet_56 rfl (show _ < 4 by omega) (by omega) (hS.2.2.1 _ (by omega)) ?_
              refine aw_iload_n e_Pb_sheet_57 rfl ?_
              refine aw_iload e_Pb_sheet_58 rfl ?_
              refine aw_cV2 e_Pb_sheet_60 ml_Pb_265 mf_Sh_become mv_Sh_become (c_Sh_become hS (by omega) (fun I2 hf2 hs0 hs1 hz2 => ?_))
              refine aw_iload e_Pb_sheet_63 rfl ?_
              have hsh : SHo I2 s (y, m, fun _ => nI 0) := ⟨hs0, by rw [hs1, hmm], by show m ≤ 24; omega, so_4 hg.2.1 hg.2.2, fun hy => by
                show m = 0
                have e9 : shN y z = nI 0 := by unfold shN; rw [if_pos hy]
                have e10 := congrArg Int32.toInt (hmm.symm.trans e9)
                rw [nT (by omega), nT (by decide)] at e10
                omega, fun j hj => hz2 j (by have hj2 : j < m := hj; omega)⟩
              have hq := hQ I2 L R
              unfold op_sheet at hq
              rw [if_pos hg, if_neg (by omega), if_neg (by omega), ix_n (j := s) (by omega), show ix (shN y z) = m by rw [hmm]; exact ix_n (by omega)] at hq
              exact aw_iret e_Pb_sheet_65 rfl rfl (hq (CS_sheet hCS hs hf2 hsh) (KM_sheet hf2))
            · refine aw_ldcw (v := -1000000014) e_Pb_sheet_47 kc_Pb_264 ?_
              have hq := hQ I L R
              unfold op_sheet at hq
              first
                | (rw [if_pos hg, if_neg (by omega), if_pos (by omega)] at hq; exact aw_iret e_Pb_sheet_50 rfl rfl (hq hCS KM_0))
          · refine aw_ldc (v := -1000000001) e_Pb_sheet_39 kc_Pb_74 ?_
            have hq := hQ I L R
            unfold op_sheet at hq
            first
              | (rw [if_pos hg, if_pos (by omega)] at hq; exact aw_iret e_Pb_sheet_41 rfl rfl (hq hCS KM_0))
        refine aw_iload_n e_Pb_sheet_20 rfl ?_
        refine aw_iconst (v := -1) e_Pb_sheet_21 (by decide) ?_
        refine aw_icmp_ne e_Pb_sheet_22 (fun h22 => ?_) (fun h22 => ?_)
        · refine aw_iload_n e_Pb_sheet_29 rfl ?_
          unfold shN at k30
          first
            | (rw [if_pos h22] at k30; exact k30)
            | (rw [if_neg h22] at k30; exact k30)
        · refine aw_iconst (v := nI 0) e_Pb_sheet_25 (by decide) ?_
          refine aw_goto e_Pb_sheet_26 ?_
          unfold shN at k30
          first
            | (rw [if_pos h22] at k30; exact k30)
            | (rw [if_neg h22] at k30; exact k30)
      · refine aw_ldc (v := -1000000001) e_Pb_sheet_17 kc_Pb_74 ?_
        have hq := hQ I L R
        unfold op_sheet at hq
        first
          | (rw [if_neg (fun w => h4 w.1)] at hq; exact aw_iret e_Pb_sheet_19 rfl rfl (hq hCS KM_0))
          | (rw [if_neg (fun w => by have w1 := w.2.1; have w2 := w.2.2; omega)] at hq; exact aw_iret e_Pb_sheet_19 rfl rfl (hq hCS KM_0))
