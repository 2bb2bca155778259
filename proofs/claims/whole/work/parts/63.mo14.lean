/-! ===== the model's sheets ===== -/
theorem MSt_sheet {I I2 : It} {S : AS} {s : Nat} {v : ShV} (h : MSt I S) (hA : AWF S) (e : ∀ t i, t ≠ 29 → t ≠ 30 → t ≠ 31 → t ≠ 44 → I2 t i = I t i) (e2 : ∀ k, k < 4 → k ≠ s → I2 29 0 k = I 29 0 k ∧ I2 30 0 k = I 30 0 k ∧ ∀ j, j < 24 → I2 31 0 (24 * k + j) = I 31 0 (24 * k + j)) (hv : MSh I2 s v) : MSt I2 (setS S s v) ∧ fK I I2 := by
  obtain ⟨hC, m1, m2, m3, m4, m5, m6⟩ := h
  have q : ∀ t i, t < 29 ∨ 31 < t → t ≠ 44 → I2 t i = I t i := fun t i a b => e t i (by omega) (by omega) (by omega) b
  refine ⟨⟨hC.keep (q 28 0 (by decide) (by decide)), fun z => (m1 z).keep (q 28 1 (by decide) (by decide)), by rw [q 9 0 (by decide) (by decide)]; exact m2, by rw [q 9 0 (by decide) (by decide), q 39 0 (by decide) (by decide)]; exact m3, fun i hi => ?_, fun i hi => ?_, by rw [q 9 0 (by decide) (by decide), q 45 0 (by decide) (by decide)]; exact m6⟩, fun t i a b => q t i (by omega) (by omega)⟩
  · show MSh I2 i (if i = s then v else sH S i)
    by_cases z : i = s
    · rw [if_pos z, z]; exact hv
    · rw [if_neg z]
      obtain ⟨a, b, c⟩ := e2 i hi z
      have hw := (hA.2.2.2.2.1 i hi).1
      exact ⟨a.trans (m4 i hi).1, b.trans (m4 i hi).2.1, fun j hj => (c j (by omega)).trans ((m4 i hi).2.2 j hj)⟩
  · unfold MSl
    rw [q 32 0 (by decide) (by decide), q 33 0 (by decide) (by decide), q 34 0 (by decide) (by decide), q 35 0 (by decide) (by decide), q 36 0 (by decide) (by decide)]
    exact m5 i hi
theorem c_Mo_isInM {l : Launch} {E : En} {d : Nat} {I : It} {L : Lt} {R : Rt} {Z : Zt} {Q : Qt} {x : Int32} {b : Nat} (hb : b < 9223372036854775808) (hQ : Q (some (vi (bI (-1 ≤ x.toInt ∧ x.toInt ≤ (b : Int))))) I L R Z) : AMet l E d M_Mo_isIn [vl x.toInt64, vl (-1), vl (lN b)] I L R Z Q := by
  refine c_Mo_isIn ?_
  rw [bI_iff (e := -1 ≤ x.toInt ∧ x.toInt ≤ (b : Int)) (by rw [Int32.toInt_toInt64, pk_lT hb, show (-1 : Int64).toInt = -1 by decide])]
  exact hQ
theorem so_neg {v : ShV} (h : ShW v) : v.1.toInt < 0 ↔ v.1 = -1 := by
  rcases h.2.1 with e | e | e | e
  · rw [e]; decide
  · rw [e]; decide
  · rw [e]; decide
  · rw [e]; decide
theorem shN_n {so n : Int32} (h : so.toInt < 0) (h2 : -1 ≤ so.toInt) : shN so n = nI 0 := by
  unfold shN
  rw [if_pos (i_eq.mpr (by rw [show (-1 : Int32).toInt = -1 by decide]; omega))]
theorem shN_p {so n : Int32} (h : ¬ so.toInt < 0) : shN so n = n := by
  unfold shN
  rw [if_neg (fun z => h (by rw [z]; decide))]
theorem sh16 (v : Int32) : (v <<< (nI 16 &&& 31)) >>> (nI 16 &&& 31) = v.toInt16.toInt32 := by
  apply Int32.toInt_inj.mp
  rw [pk_shr _ _ 16 (by decide), Int.shiftRight_eq_div_pow, Int16.toInt_toInt32, Int32.toInt_toInt16]
  have h1 := pk_shl v (nI 16 &&& 31) 16 (by decide)
  have h2 : ∀ x : Int32, x.toInt = Int.bmod (x.toBitVec.toNat : Int) (2 ^ 32) := fun x => BitVec.toInt_eq_toNat_bmod _
  rw [h2, h1, h2]
  simp only [Int.bmod_def]
  omega
theorem c_Mo_isSheet {l : Launch} {E : En} {d : Nat} {I : It} {L : Lt} {R : Rt} {Z : Zt} {Q : Qt} {x : Int32} (hQ : Q (some (vi (bI (inR x 4)))) I L R Z) : AMet l E (d + 1) M_Mo_isSheet [vi x] I L R Z Q := by
  refine AMet.of mf_Mo_isSheet rfl (Nat.le_of_ble_eq_true rfl) ?_
  refine aw_iload_n e_Mo_isSheet_0 rfl ?_
  refine aw_i2l e_Mo_isSheet_1 ?_
  refine aw_lconst (v := lN 0) e_Mo_isSheet_2 rfl ?_
  refine aw_ldc2 (v := lN 3) e_Mo_isSheet_3 kl_Mo_134 ?_
  refine aw_cS3 e_Mo_isSheet_6 ml_Mo_75 mf_Mo_isIn ms_Mo_isIn (c_Mo_isInC (by decide) (by decide) ?_)
  refine awB_ret e_Mo_isSheet_9 rfl ?_
  rw [bI_iff (e := inR x 4) (by unfold inR; omega)]
  exact hQ
theorem c_Mo_isSlot {l : Launch} {E : En} {d : Nat} {I : It} {L : Lt} {R : Rt} {Z : Zt} {Q : Qt} {x : Int32} (hQ : Q (some (vi (bI (inR x 5)))) I L R Z) : AMet l E (d + 1) M_Mo_isSlot [vi x] I L R Z Q := by
  refine AMet.of mf_Mo_isSlot rfl (Nat.le_of_ble_eq_true rfl) ?_
  refine aw_iload_n e_Mo_isSlot_0 rfl ?_
  refine aw_i2l e_Mo_isSlot_1 ?_
  refine aw_lconst (v := lN 0) e_Mo_isSlot_2 rfl ?_
  refine aw_ldc2 (v := lN 4) e_Mo_isSlot_3 kl_Mo_338 ?_
  refine aw_cS3 e_Mo_isSlot_6 ml_Mo_75 mf_Mo_isIn ms_Mo_isIn (c_Mo_isInC (by decide) (by decide) ?_)
  refine awB_ret e_Mo_isSlot_9 rfl ?_
  rw [bI_iff (e := inR x 5) (by unfold inR; omega)]
  exact hQ
theorem c_Mo_sheet {l : Launch} {E : En} {d : Nat} {I : It} {L : Lt} {R : Rt} {Z : Zt} {Q : Qt} {S : AS} (hS : Sta R) (hM : MSt I S) (hA : AWF S) {x y z : Int32} (hQ : ∀ I2 L2, MSt I2 (op_sheet S x y z).1 → fK I I2 → Q (some (vi (op_sheet S x y z).2)) I2 L2 R Z) : AMet l E (d + 2) M_Mo_sheet [vr 9 0, vi x, vi y, vi z] I L R Z Q := by
  have hC := hM.1
  have hW := hA.1.1
  have hnb := hW.1.2.1
  have hnp := hW.1.1
  have hnx := hW.1.2.2.1
  have hns := hW.1.2.2.2
  refine AMet.of mf_Mo_sheet rfl (Nat.le_of_ble_eq_true rfl) ?_
  have hT24 : (nI 24).toInt = 24 := by decide
  refine aw_iload_n e_Mo_sheet_0 rfl ?_
  refine aw_cS1 e_Mo_sheet_1 ml_Mo_332 mf_Mo_isSheet ms_Mo_isSheet (c_Mo_isSheet ?_)
  refine awB_eq e_Mo_sheet_4 (fun h4 => ?_) (fun h4 => ?_)
  · refine aw_ldc (v := -1000000001) e_Mo_sheet_31 kc_Mo_89 ?_
    have hq := hQ I L
    unfold op_sheet at hq
    first
      | (rw [if_neg (fun w => h4 w.1)] at hq; exact aw_iret e_Mo_sheet_33 rfl rfl (hq hM fK_0))
      | (rw [if_neg (fun w => h18 w.2)] at hq; exact aw_iret e_Mo_sheet_33 rfl rfl (hq hM fK_0))
      | (rw [if_pos hg, if_pos (by rw [shN_p (by omega)]; omega)] at hq; exact aw_iret e_Mo_sheet_33 rfl rfl (hq hM fK_0))
  · refine aw_iload_n e_Mo_sheet_7 rfl ?_
    refine aw_i2l e_Mo_sheet_8 ?_
    refine aw_ldc2 (v := -1) e_Mo_sheet_9 kl_Mo_163 ?_
    refine aw_ldc2 (v := lN 2) e_Mo_sheet_12 kl_Mo_87 ?_
    refine aw_cS3 e_Mo_sheet_15 ml_Mo_75 mf_Mo_isIn ms_Mo_isIn (c_Mo_isInM (by decide) ?_)
    refine awB_eq e_Mo_sheet_18 (fun h18 => ?_) (fun h18 => ?_)
    · refine aw_ldc (v := -1000000001) e_Mo_sheet_31 kc_Mo_89 ?_
      have hq := hQ I L
      unfold op_sheet at hq
      first
        | (rw [if_neg (fun w => h4 w.1)] at hq; exact aw_iret e_Mo_sheet_33 rfl rfl (hq hM fK_0))
        | (rw [if_neg (fun w => h18 w.2)] at hq; exact aw_iret e_Mo_sheet_33 rfl rfl (hq hM fK_0))
        | (rw [if_pos hg, if_pos (by rw [shN_p (by omega)]; omega)] at hq; exact aw_iret e_Mo_sheet_33 rfl rfl (hq hM fK_0))
    · have hg : inR x 4 ∧ -1 ≤ y.toInt ∧ y.toInt ≤ 2 := ⟨h4, h18⟩
      obtain ⟨s, hs, rfl⟩ := inR_nI h4
      have k68 : (y.toInt < 0 ∨ (0 ≤ z.toInt ∧ z.toInt ≤ 24)) → AWq l E (d + 2) M_Mo_sheet Z 68 [some (vr 9 0), some (vi (nI s)), some (vi y), some (vi z), none] [] (sI (sI I 29 0 s y) 30 0 s (shN y z)) L R Z Q := fun hok => by
        have hT0 : (nI 0).toInt = 0 := by decide
        have hsT : (shN y z).toInt = if y.toInt < 0 then 0 else z.toInt := by
          by_cases q : y.toInt < 0
          · rw [if_pos q, shN_n q hg.2.1, hT0]
          · rw [if_neg q, shN_p q]
        have hsT2 : 0 ≤ (shN y z).toInt ∧ (shN y z).toInt ≤ 24 := by rw [hsT]; split <;> omega
        refine aw_iconst (v := nI 0) e_Mo_sheet_68 (by decide) ?_
        refine aw_ist4 e_Mo_sheet_69 ?_
        refine up_loop (P := fun k => ∀ I3 : It, (∀ t i, t ≠ 31 → I3 t i = (sI (sI I 29 0 s y) 30 0 s (shN y z)) t i) → (∀ n, n < 24 * s ∨ 24 * s + 24 ≤ n → I3 31 0 n = I 31 0 n) → (∀ c, c < k → I3 31 0 (24 * s + c) = nI 0) → AWq l E (d + 2) M_Mo_sheet Z 71 [some (vr 9 0), some (vi (nI s)), some (vi y), some (vi z), some (vi (nI k))] [] I3 L R Z Q) (N := 24) (fun k hk ih I3 hf3 h31 hz3 => ?_) 0 (by decide) _ (fun _ _ _ => rfl) (fun n hn => by rw [sI_n (by decide), sI_n (by decide)]) (fun c hc => absurd hc (Nat.not_lt_zero c))
        refine aw_iload e_Mo_sheet_71 rfl ?_
        refine aw_bipush (v := nI 24) e_Mo_sheet_73 (by decide) ?_
        refine awN_icmp_ge e_Mo_sheet_75 (by omega) (by omega) (fun h75 => ?_) (fun h75 => ?_)
        · refine aw_aload_n e_Mo_sheet_97 rfl ?_
          refine aw_getR e_Mo_sheet_98 fl_Mo_22 (hS.1 _ _ _ _ rfl) ?_
          refine aw_iload_n e_Mo_sheet_101 rfl ?_
          refine aw_ialE e_Mo_sheet_102 rfl (show _ < 4 by omega) (by omega) (show _ = shN y z by rw [hf3 30 0 (by decide), sI_eq]) ?_
          obtain rfl : k = 24 := by omega
          obtain ⟨m, hm, hmm⟩ := inR_nI (x := shN y z) (n := 25) ⟨by omega, by omega⟩
          have hms := MSt_sheet (I2 := I3) (v := (y, m, fun _ => nI 0)) hM hA (fun t i a b c _ => by rw [hf3 t i c, sI_n (by omega), sI_n (by omega)]) (fun k hk hks => ⟨by rw [hf3 29 0 (by decide), sI_n (by decide), sI_ne hks], by rw [hf3 30 0 (by decide), sI_ne hks, sI_n (by decide)], fun j hj => h31 _ (by omega)⟩) ⟨by rw [hf3 29 0 (by decide), sI_n (by decide), sI_eq], by rw [hf3 30 0 (by decide), sI_eq, hmm], fun j hj => hz3 j (by have hj2 : j < m := hj; omega)⟩
          have hq := hQ I3 L
          unfold op_sheet at hq
          rw [if_pos hg, if_neg (by omega), if_neg (by omega), ix_n (j := s) (by omega), show ix (shN y z) = m by rw [hmm]; exact ix_n (by omega)] at hq
          exact aw_iret e_Mo_sheet_103 rfl rfl (hq hms.1 hms.2)
        · refine aw_aload_n e_Mo_sheet_78 rfl ?_
          refine aw_getR e_Mo_sheet_79 fl_Mo_25 (hS.1 _ _ _ _ rfl) ?_
          refine aw_bipush (v := nI 24) e_Mo_sheet_82 (by decide) ?_
          refine aw_iload_n e_Mo_sheet_84 rfl ?_
          first | refine awN_imul e_Mo_sheet_85 ?_ | refine aw_imul e_Mo_sheet_85 ?_
          refine aw_iload e_Mo_sheet_86 rfl ?_
          first | refine awN_iadd e_Mo_sheet_88 ?_ | refine aw_iadd e_Mo_sheet_88 ?_
          refine aw_iconst (v := nI 0) e_Mo_sheet_89 (by decide) ?_
          refine aw_iast e_Mo_sheet_90 rfl (show _ < 96 by omega) (by omega) ?_
          refine aw_inc4 e_Mo_sheet_91 (inc1 _) ?_
          refine aw_goto e_Mo_sheet_94 ?_
          refine ih h75 _ (fun t i ht => by rw [sI_n (by omega)]; exact hf3 t i ht) (fun n hn => by rw [sI_ne (by omega)]; exact h31 n hn) (fun c hc => ?_)
          by_cases e : c = k
          · rw [e, sI_eq]
          · rw [sI_ne (by omega)]; exact hz3 c (by omega)
      refine aw_iload_n e_Mo_sheet_21 rfl ?_
      refine awZ_if_lt e_Mo_sheet_22 (fun h22 => ?_) (fun h22 => ?_)
      · refine aw_iload_n e_Mo_sheet_34 rfl ?_
        refine awZ_if_lt e_Mo_sheet_35 (fun h35 => ?_) (fun h35 => ?_)
        · refine aw_aload_n e_Mo_sheet_46 rfl ?_
          refine aw_getR e_Mo_sheet_47 fl_Mo_19 (hS.1 _ _ _ _ rfl) ?_
          refine aw_iload_n e_Mo_sheet_50 rfl ?_
          refine aw_iload_n e_Mo_sheet_51 rfl ?_
          refine aw_iast e_Mo_sheet_52 rfl (show _ < 4 by omega) (by omega) ?_
          refine aw_aload_n e_Mo_sheet_53 rfl ?_
          refine aw_getR e_Mo_sheet_54 fl_Mo_22 (hS.1 _ _ _ _ rfl) ?_
          refine aw_iload_n e_Mo_sheet_57 rfl ?_
          refine aw_iload_n e_Mo_sheet_58 rfl ?_
          refine awZ_if_ge e_Mo_sheet_59 (fun h59 => ?_) (fun h59 => ?_)
          · refine aw_iload_n e_Mo_sheet_66 rfl ?_
            refine aw_iast e_Mo_sheet_67 rfl (show _ < 4 by omega) (by omega) ?_
            have k := k68 (by omega)
            first
              | (rw [shN_p (by omega)] at k; exact k)
              | (rw [shN_n (by omega) hg.2.1] at k; exact k)
          · refine aw_iconst (v := nI 0) e_Mo_sheet_62 (by decide) ?_
            refine aw_goto e_Mo_sheet_63 ?_
            refine aw_iast e_Mo_sheet_67 rfl (show _ < 4 by omega) (by omega) ?_
            have k := k68 (by omega)
            first
              | (rw [shN_p (by omega)] at k; exact k)
              | (rw [shN_n (by omega) hg.2.1] at k; exact k)
        · refine aw_iload_n e_Mo_sheet_38 rfl ?_
          refine awZ_if_ge e_Mo_sheet_39 (fun h39 => ?_) (fun h39 => ?_)
          · refine aw_aload_n e_Mo_sheet_46 rfl ?_
            refine aw_getR e_Mo_sheet_47 fl_Mo_19 (hS.1 _ _ _ _ rfl) ?_
            refine aw_iload_n e_Mo_sheet_50 rfl ?_
            refine aw_iload_n e_Mo_sheet_51 rfl ?_
            refine aw_iast e_Mo_sheet_52 rfl (show _ < 4 by omega) (by omega) ?_
            refine aw_aload_n e_Mo_sheet_53 rfl ?_
            refine aw_getR e_Mo_sheet_54 fl_Mo_22 (hS.1 _ _ _ _ rfl) ?_
            refine aw_iload_n e_Mo_sheet_57 rfl ?_
            refine aw_iload_n e_Mo_sheet_58 rfl ?_
            refine awZ_if_ge e_Mo_sheet_59 (fun h59 => ?_) (fun h59 => ?_)
            · refine aw_iload_n e_Mo_sheet_66 rfl ?_
              refine aw_iast e_Mo_sheet_67 rfl (show _ < 4 by omega) (by omega) ?_
              have k := k68 (by omega)
              first
                | (rw [shN_p (by omega)] at k; exact k)
                | (rw [shN_n (by omega) hg.2.1] at k; exact k)
            · refine aw_iconst (v := nI 0) e_Mo_sheet_62 (by decide) ?_
              refine aw_goto e_Mo_sheet_63 ?_
              refine aw_iast e_Mo_sheet_67 rfl (show _ < 4 by omega) (by omega) ?_
              have k := k68 (by omega)
              first
                | (rw [shN_p (by omega)] at k; exact k)
                | (rw [shN_n (by omega) hg.2.1] at k; exact k)
          · refine aw_ldcw (v := -1000000014) e_Mo_sheet_42 kc_Mo_335 ?_
            have hq := hQ I L
            unfold op_sheet at hq
            first
              | (rw [if_pos hg, if_neg (by rw [shN_p (by omega)]; omega), if_pos (by rw [shN_p (by omega)]; omega)] at hq; exact aw_iret e_Mo_sheet_45 rfl rfl (hq hM fK_0))
      · refine aw_iload_n e_Mo_sheet_25 rfl ?_
        refine aw_bipush (v := nI 24) e_Mo_sheet_26 (by decide) ?_
        refine awZ_icmp_le e_Mo_sheet_28 (fun h28 => ?_) (fun h28 => ?_)
        · refine aw_iload_n e_Mo_sheet_34 rfl ?_
          refine awZ_if_lt e_Mo_sheet_35 (fun h35 => ?_) (fun h35 => ?_)
          · refine aw_aload_n e_Mo_sheet_46 rfl ?_
            refine aw_getR e_Mo_sheet_47 fl_Mo_19 (hS.1 _ _ _ _ rfl) ?_
            refine aw_iload_n e_Mo_sheet_50 rfl ?_
            refine aw_iload_n e_Mo_sheet_51 rfl ?_
            refine aw_iast e_Mo_sheet_52 rfl (show _ < 4 by omega) (by omega) ?_
            refine aw_aload_n e_Mo_sheet_53 rfl ?_
            refine aw_getR e_Mo_sheet_54 fl_Mo_22 (hS.1 _ _ _ _ rfl) ?_
            refine aw_iload_n e_Mo_sheet_57 rfl ?_
            refine aw_iload_n e_Mo_sheet_58 rfl ?_
            refine awZ_if_ge e_Mo_sheet_59 (fun h59 => ?_) (fun h59 => ?_)
            · refine aw_iload_n e_Mo_sheet_66 rfl ?_
              refine aw_iast e_Mo_sheet_67 rfl (show _ < 4 by omega) (by omega) ?_
              have k := k68 (by omega)
              first
                | (rw [shN_p (by omega)] at k; exact k)
                | (rw [shN_n (by omega) hg.2.1] at k; exact k)
            · refine aw_iconst (v := nI 0) e_Mo_sheet_62 (by decide) ?_
              refine aw_goto e_Mo_sheet_63 ?_
              refine aw_iast e_Mo_sheet_67 rfl (show _ < 4 by omega) (by omega) ?_
              have k := k68 (by omega)
              first
                | (rw [shN_p (by omega)] at k; exact k)
                | (rw [shN_n (by omega) hg.2.1] at k; exact k)
          · refine aw_iload_n e_Mo_sheet_38 rfl ?_
            refine awZ_if_ge e_Mo_sheet_39 (fun h39 => ?_) (fun h39 => ?_)
            · refine aw_aload_n e_Mo_sheet_46 rfl ?_
              refine aw_getR e_Mo_sheet_47 fl_Mo_19 (hS.1 _ _ _ _ rfl) ?_
              refine aw_iload_n e_Mo_sheet_50 rfl ?_
              refine aw_iload_n e_Mo_sheet_51 rfl ?_
              refine aw_iast e_Mo_sheet_52 rfl (show _ < 4 by omega) (by omega) ?_
              refine aw_aload_n e_Mo_sheet_53 rfl ?_
              refine aw_getR e_Mo_sheet_54 fl_Mo_22 (hS.1 _ _ _ _ rfl) ?_
              refine aw_iload_n e_Mo_sheet_57 rfl ?_
              refine aw_iload_n e_Mo_sheet_58 rfl ?_
              refine awZ_if_ge e_Mo_sheet_59 (fun h59 => ?_) (fun h59 => ?_)
              · refine aw_iload_n e_Mo_sheet_66 rfl ?_
                refine aw_iast e_Mo_sheet_67 rfl (show _ < 4 by omega) (by omega) ?_
                have k := k68 (by omega)
                first
                  | (rw [shN_p (by omega)] at k; exact k)
                  | (rw [shN_n (by omega) hg.2.1] at k; exact k)
              · refine aw_iconst (v := nI 0) e_Mo_sheet_62 (by decide) ?_
                refine aw_goto e_Mo_sheet_63 ?_
                refine aw_iast e_Mo_sheet_67 rfl (show _ < 4 by omega) (by omega) ?_
                have k := k68 (by omega)
                first
                  | (rw [shN_p (by omega)] at k; exact k)
                  | (rw [shN_n (by omega) hg.2.1] at k; exact k)
            · refine aw_ldcw (v := -1000000014) e_Mo_sheet_42 kc_Mo_335 ?_
              have hq := hQ I L
              unfold op_sheet at hq
              first
                | (rw [if_pos hg, if_neg (by rw [shN_p (by omega)]; omega), if_pos (by rw [shN_p (by omega)]; omega)] at hq; exact aw_iret e_Mo_sheet_45 rfl rfl (hq hM fK_0))
        · refine aw_ldc (v := -1000000001) e_Mo_sheet_31 kc_Mo_89 ?_
          have hq := hQ I L
          unfold op_sheet at hq
          first
            | (rw [if_neg (fun w => h4 w.1)] at hq; exact aw_iret e_Mo_sheet_33 rfl rfl (hq hM fK_0))
            | (rw [if_neg (fun w => h18 w.2)] at hq; exact aw_iret e_Mo_sheet_33 rfl rfl (hq hM fK_0))
            | (rw [if_pos hg, if_pos (by rw [shN_p (by omega)]; omega)] at hq; exact aw_iret e_Mo_sheet_33 rfl rfl (hq hM fK_0))
theorem c_Mo_mark {l : Launch} {E : En} {d : Nat} {I : It} {L : Lt} {R : Rt} {Z : Zt} {Q : Qt} {S : AS} (hS : Sta R) (hM : MSt I S) (hA : AWF S) {x y z : Int32} (hQ : ∀ I2 L2, MSt I2 (op_mark S x y z).1 → fK I I2 → Q (some (vi (op_mark S x y z).2)) I2 L2 R Z) : AMet l E (d + 2) M_Mo_mark [vr 9 0, vi x, vi y, vi z] I L R Z Q := by
  have hC := hM.1
  have hW := hA.1.1
  have hnb := hW.1.2.1
  have hnp := hW.1.1
  have hnx := hW.1.2.2.1
  have hns := hW.1.2.2.2
  refine AMet.of mf_Mo_mark rfl (Nat.le_of_ble_eq_true rfl) ?_
  refine aw_iload_n e_Mo_mark_0 rfl ?_
  refine aw_cS1 e_Mo_mark_1 ml_Mo_332 mf_Mo_isSheet ms_Mo_isSheet (c_Mo_isSheet ?_)
  refine awB_ne e_Mo_mark_4 (fun h4 => ?_) (fun h4 => ?_)
  · obtain ⟨s, hs, rfl⟩ := inR_nI h4
    have hm := hM.2.2.2.2.1 s hs
    have hsw := hA.2.2.2.2.1 s hs
    have hsn := so_neg hsw
    have hsz := hsw.1
    refine aw_aload_n e_Mo_mark_10 rfl ?_
    refine aw_getR e_Mo_mark_11 fl_Mo_19 (hS.1 _ _ _ _ rfl) ?_
    refine aw_iload_n e_Mo_mark_14 rfl ?_
    refine aw_ialE e_Mo_mark_15 rfl (show _ < 4 by omega) (by omega) hm.1 ?_
    refine awZ_if_ge e_Mo_mark_16 (fun h16 => ?_) (fun h16 => ?_)
    · refine aw_iload_n e_Mo_mark_23 rfl ?_
      refine aw_i2l e_Mo_mark_24 ?_
      refine aw_lconst (v := lN 0) e_Mo_mark_25 rfl ?_
      refine aw_aload_n e_Mo_mark_26 rfl ?_
      refine aw_getR e_Mo_mark_27 fl_Mo_22 (hS.1 _ _ _ _ rfl) ?_
      refine aw_iload_n e_Mo_mark_30 rfl ?_
      refine aw_ialE e_Mo_mark_31 rfl (show _ < 4 by omega) (by omega) hm.2.1 ?_
      refine aw_iconst (v := nI 1) e_Mo_mark_32 (by decide) ?_
      refine aw_isub e_Mo_mark_33 ?_
      rw [pm_sub]
      refine aw_i2l e_Mo_mark_34 ?_
      refine aw_cS3 e_Mo_mark_35 ml_Mo_75 mf_Mo_isIn ms_Mo_isIn (c_Mo_isInP (by omega) ?_)
      refine awB_ne e_Mo_mark_38 (fun h38 => ?_) (fun h38 => ?_)
      · obtain ⟨p, hp, rfl⟩ := inR_nI h38
        refine aw_aload_n e_Mo_mark_45 rfl ?_
        refine aw_getR e_Mo_mark_46 fl_Mo_25 (hS.1 _ _ _ _ rfl) ?_
        refine aw_bipush (v := nI 24) e_Mo_mark_49 (by decide) ?_
        refine aw_iload_n e_Mo_mark_51 rfl ?_
        first | refine awN_imul e_Mo_mark_52 ?_ | refine aw_imul e_Mo_mark_52 ?_
        refine aw_iload_n e_Mo_mark_53 rfl ?_
        first | refine awN_iadd e_Mo_mark_54 ?_ | refine aw_iadd e_Mo_mark_54 ?_
        refine aw_ialE e_Mo_mark_55 rfl (show _ < 96 by omega) (by omega) (hm.2.2 _ hp) ?_
        refine aw_ist4 e_Mo_mark_56 ?_
        refine aw_aload_n e_Mo_mark_58 rfl ?_
        refine aw_getR e_Mo_mark_59 fl_Mo_25 (hS.1 _ _ _ _ rfl) ?_
        refine aw_bipush (v := nI 24) e_Mo_mark_62 (by decide) ?_
        refine aw_iload_n e_Mo_mark_64 rfl ?_
        first | refine awN_imul e_Mo_mark_65 ?_ | refine aw_imul e_Mo_mark_65 ?_
        refine aw_iload_n e_Mo_mark_66 rfl ?_
        first | refine awN_iadd e_Mo_mark_67 ?_ | refine aw_iadd e_Mo_mark_67 ?_
        refine aw_aload_n e_Mo_mark_68 rfl ?_
        refine aw_getR e_Mo_mark_69 fl_Mo_19 (hS.1 _ _ _ _ rfl) ?_
        refine aw_iload_n e_Mo_mark_72 rfl ?_
        refine aw_ialE e_Mo_mark_73 rfl (show _ < 4 by omega) (by omega) hm.1 ?_
        refine aw_if_ne e_Mo_mark_74 (fun h74 => ?_) (fun h74 => ?_)
        · refine aw_iload_n e_Mo_mark_87 rfl ?_
          refine aw_iast e_Mo_mark_88 rfl (show _ < 96 by omega) (by omega) ?_
          refine aw_iload e_Mo_mark_89 rfl ?_
          have hkey : ∀ w, w = mkV (sH S s).1 z → Q (some (vi ((sH S s).2.2 p))) (sI I 31 0 (24 * s + p) w) L R Z := fun w hw => by
            have hms := MSt_sheet (I2 := sI I 31 0 (24 * s + p) w) (v := mkS (sH S s) p z) hM hA (fun t i a b c _ => sI_n (by omega)) (fun k hk hks => ⟨sI_n2 (by decide), sI_n2 (by decide), fun j hj => by rw [sI_ne (by omega)]⟩) ⟨(sI_n2 (by decide)).trans hm.1, (sI_n2 (by decide)).trans hm.2.1, fun j hj => by
              show _ = if j = p then mkV (sH S s).1 z else (sH S s).2.2 j
              by_cases e : j = p
              · rw [if_pos e, e, sI_eq, hw]
              · rw [if_neg e, sI_ne (by omega)]; exact hm.2.2 j hj⟩
            have hq := hQ (sI I 31 0 (24 * s + p) w) L
            unfold op_mark at hq
            rw [if_pos h4, ix_n (j := s) (by omega), if_neg (fun q => by have := hsn.2 q; omega), if_pos h38, ix_n (j := p) (by omega)] at hq
            exact hq hms.1 hms.2
          refine aw_iret e_Mo_mark_91 rfl rfl (hkey _ ?_)
          unfold mkV
          first
            | rw [if_pos h74]
            | rw [if_neg h74]
        · refine aw_iload_n e_Mo_mark_77 rfl ?_
          refine aw_bipush (v := nI 16) e_Mo_mark_78 (by decide) ?_
          refine aw_ishl e_Mo_mark_80 ?_
          refine aw_bipush (v := nI 16) e_Mo_mark_81 (by decide) ?_
          refine aw_ishr e_Mo_mark_83 ?_
          rw [sh16]
          refine aw_goto e_Mo_mark_84 ?_
          refine aw_iast e_Mo_mark_88 rfl (show _ < 96 by omega) (by omega) ?_
          refine aw_iload e_Mo_mark_89 rfl ?_
          have hkey : ∀ w, w = mkV (sH S s).1 z → Q (some (vi ((sH S s).2.2 p))) (sI I 31 0 (24 * s + p) w) L R Z := fun w hw => by
            have hms := MSt_sheet (I2 := sI I 31 0 (24 * s + p) w) (v := mkS (sH S s) p z) hM hA (fun t i a b c _ => sI_n (by omega)) (fun k hk hks => ⟨sI_n2 (by decide), sI_n2 (by decide), fun j hj => by rw [sI_ne (by omega)]⟩) ⟨(sI_n2 (by decide)).trans hm.1, (sI_n2 (by decide)).trans hm.2.1, fun j hj => by
              show _ = if j = p then mkV (sH S s).1 z else (sH S s).2.2 j
              by_cases e : j = p
              · rw [if_pos e, e, sI_eq, hw]
              · rw [if_neg e, sI_ne (by omega)]; exact hm.2.2 j hj⟩
            have hq := hQ (sI I 31 0 (24 * s + p) w) L
            unfold op_mark at hq
            rw [if_pos h4, ix_n (j := s) (by omega), if_neg (fun q => by have := hsn.2 q; omega), if_pos h38, ix_n (j := p) (by omega)] at hq
            exact hq hms.1 hms.2
          refine aw_iret e_Mo_mark_91 rfl rfl (hkey _ ?_)
          unfold mkV
          first
            | rw [if_pos h74]
            | rw [if_neg h74]
      · refine aw_ldcw (v := -1000000013) e_Mo_mark_41 kc_Mo_337 ?_
        have hq := hQ I L
        unfold op_mark at hq
        first
          | (rw [if_pos h4, ix_n (j := s) (by omega), if_neg (fun q => by have := hsn.2 q; omega), if_neg h38] at hq; exact aw_iret e_Mo_mark_44 rfl rfl (hq hM fK_0))
    · refine aw_ldcw (v := -1000000011) e_Mo_mark_19 kc_Mo_336 ?_
      have hq := hQ I L
      unfold op_mark at hq
      first
        | (rw [if_pos h4, ix_n (j := s) (by omega), if_pos (hsn.1 (by omega))] at hq; exact aw_iret e_Mo_mark_22 rfl rfl (hq hM fK_0))
  · refine aw_ldc (v := -1000000001) e_Mo_mark_7 kc_Mo_89 ?_
    have hq := hQ I L
    unfold op_mark at hq
    first
      | (rw [if_neg h4] at hq; exact aw_iret e_Mo_mark_9 rfl rfl (hq hM fK_0))
theorem c_Mo_pour {l : Launch} {E : En} {d : Nat} {I : It} {L : Lt} {R : Rt} {Z : Zt} {Q : Qt} {S : AS} (hS : Sta R) (hM : MSt I S) (hA : AWF S) {x : Int32} (hQ : ∀ I2 L2, MSt I2 (op_pour S x).1 → fK I I2 → Q (some (vi (op_pour S x).2)) I2 L2 R Z) : AMet l E (d + 2) M_Mo_pour [vr 9 0, vi x] I L R Z Q := by
  have hC := hM.1
  have hW := hA.1.1
  have hnb := hW.1.2.1
  have hnp := hW.1.1
  have hnx := hW.1.2.2.1
  have hns := hW.1.2.2.2
  refine AMet.of mf_Mo_pour rfl (Nat.le_of_ble_eq_true rfl) ?_
  refine aw_iload_n e_Mo_pour_0 rfl ?_
  refine aw_cS1 e_Mo_pour_1 ml_Mo_332 mf_Mo_isSheet ms_Mo_isSheet (c_Mo_isSheet ?_)
  refine awB_ne e_Mo_pour_4 (fun h4 => ?_) (fun h4 => ?_)
  · obtain ⟨s, hs, rfl⟩ := inR_nI h4
    have hm := hM.2.2.2.2.1 s hs
    have hsw := hA.2.2.2.2.1 s hs
    have hsn := so_neg hsw
    have hsz := hsw.1
    refine aw_aload_n e_Mo_pour_10 rfl ?_
    refine aw_getR e_Mo_pour_11 fl_Mo_19 (hS.1 _ _ _ _ rfl) ?_
    refine aw_iload_n e_Mo_pour_14 rfl ?_
    refine aw_ialE e_Mo_pour_15 rfl (show _ < 4 by omega) (by omega) hm.1 ?_
    refine awZ_if_ge e_Mo_pour_16 (fun h16 => ?_) (fun h16 => ?_)
    · refine aw_iconst (v := nI 0) e_Mo_pour_23 (by decide) ?_
      refine aw_ist2 e_Mo_pour_24 ?_
      refine aw_iconst (v := nI 0) e_Mo_pour_25 (by decide) ?_
      refine aw_ist3 e_Mo_pour_26 ?_
      refine up_loop (P := fun i => ∀ I2, MC I2 0 (porV (sM S) (sH S s) i).1 → fG I I2 → AWq l E (d + 2) M_Mo_pour Z 27 [some (vr 9 0), some (vi (nI s)), some (vi (nI (porV (sM S) (sH S s) i).2)), some (vi (nI i))] [] I2 L R Z Q) (N := nP (sM S)) (fun i hi ih I2 hC2 hf2 => ?_) 0 (Nat.zero_le _) I hC fG_0
      have hpl := porV_le (V := sM S) (v := sH S s) i
      refine aw_iload_n e_Mo_pour_27 rfl ?_
      refine aw_aload_n e_Mo_pour_28 rfl ?_
      refine aw_getR e_Mo_pour_29 fl_Mo_7 (hS.1 _ _ _ _ rfl) ?_
      refine aw_iconst (v := nI 0) e_Mo_pour_32 (by decide) ?_
      refine aw_ialE e_Mo_pour_33 rfl (show _ < 3110 by omega) (by omega) (show _ = nI (nP (sM S)) from (porV_n i).1 ▸ hC2.1.1) ?_
      refine awN_icmp_ge e_Mo_pour_34 (by omega) (by omega) (fun h34 => ?_) (fun h34 => ?_)
      · refine aw_iload_n e_Mo_pour_93 rfl ?_
        have hfull : porV (sM S) (sH S s) (nP (sM S)) = (porV (sM S) (sH S s) i) := by
          first
            | (rw [show nP (sM S) = i by omega])
            | (obtain ⟨k, hk⟩ : ∃ k, nP (sM S) = i + k := ⟨nP (sM S) - i, by omega⟩
               rw [hk]
               exact porV_full (by omega) k)
        have hq := hQ I2 L
        unfold op_pour at hq
        rw [if_pos h4, ix_n (j := s) (by omega), if_neg (fun q => by have := hsn.2 q; omega), hfull] at hq
        exact aw_iret e_Mo_pour_94 rfl rfl (hq (hM.mach hf2.M hC2) hf2.M.K)
      · refine aw_iload_n e_Mo_pour_37 rfl ?_
        refine aw_aload_n e_Mo_pour_38 rfl ?_
        refine aw_getR e_Mo_pour_39 fl_Mo_22 (hS.1 _ _ _ _ rfl) ?_
        refine aw_iload_n e_Mo_pour_42 rfl ?_
        refine aw_ialE e_Mo_pour_43 rfl (show _ < 4 by omega) (by omega) (show _ = nI (sH S s).2.1 by rw [hf2.1 30 0 (by decide) (by decide) (by decide) (by decide)]; exact hm.2.1) ?_
        refine awN_icmp_ge e_Mo_pour_44 (by omega) (by omega) (fun h44 => ?_) (fun h44 => ?_)
        · refine aw_iload_n e_Mo_pour_93 rfl ?_
          have hfull : porV (sM S) (sH S s) (nP (sM S)) = (porV (sM S) (sH S s) i) := by
            first
              | (rw [show nP (sM S) = i by omega])
              | (obtain ⟨k, hk⟩ : ∃ k, nP (sM S) = i + k := ⟨nP (sM S) - i, by omega⟩
                 rw [hk]
                 exact porV_full (by omega) k)
          have hq := hQ I2 L
          unfold op_pour at hq
          rw [if_pos h4, ix_n (j := s) (by omega), if_neg (fun q => by have := hsn.2 q; omega), hfull] at hq
          exact aw_iret e_Mo_pour_94 rfl rfl (hq (hM.mach hf2.M hC2) hf2.M.K)
        · have hv := hW.2.1 i h34
          refine aw_aload_n e_Mo_pour_47 rfl ?_
          refine aw_iload_n e_Mo_pour_48 rfl ?_
          refine aw_cV1 e_Mo_pour_49 ml_Mo_116 mf_Mo_kindOf mv_Mo_kindOf (c_Mo_kindOf hS hC2 (WF_porV hW i) (by have := (porV_n (V := sM S) (v := sH S s) i).1; omega) ?_)
          rw [(porV_n (V := sM S) (v := sH S s) i).2.2.2.2 i 0 (by decide)]
          refine aw_iconst (v := nI 1) e_Mo_pour_52 (by decide) ?_
          refine awN_icmp_ne e_Mo_pour_53 (by omega) (by omega) (fun h53 => ?_) (fun h53 => ?_)
          · refine aw_inc3 e_Mo_pour_87 (inc1 _) ?_
            refine aw_goto e_Mo_pour_90 ?_
            have hk := ih h34
            rw [porV] at hk
            first
              | (rw [if_neg (mt And.left h53)] at hk; exact hk I2 hC2 hf2)
              | (rw [if_pos ⟨h53, h44⟩] at hk
                 exact hk _ (MC_setH hC2 (WF_porV hW i) (by have := (porV_n (V := sM S) (v := sH S s) i).1; omega)) (fG_s hf2 (by decide)))
          · refine aw_aload_n e_Mo_pour_56 rfl ?_
            refine aw_getR e_Mo_pour_57 fl_Mo_7 (hS.1 _ _ _ _ rfl) ?_
            refine aw_aload_n e_Mo_pour_60 rfl ?_
            refine aw_iload_n e_Mo_pour_61 rfl ?_
            refine aw_cV1 e_Mo_pour_62 ml_Mo_79 mf_Mo_partAt mv_Mo_partAt (c_Mo_partAt ?_)
            refine aw_iconst (v := nI 4) e_Mo_pour_65 (by decide) ?_
            first | refine awN_iadd e_Mo_pour_66 ?_ | refine aw_iadd e_Mo_pour_66 ?_
            refine aw_aload_n e_Mo_pour_67 rfl ?_
            refine aw_getR e_Mo_pour_68 fl_Mo_25 (hS.1 _ _ _ _ rfl) ?_
            refine aw_bipush (v := nI 24) e_Mo_pour_71 (by decide) ?_
            refine aw_iload_n e_Mo_pour_73 rfl ?_
            first | refine awN_imul e_Mo_pour_74 ?_ | refine aw_imul e_Mo_pour_74 ?_
            refine aw_iload_n e_Mo_pour_75 rfl ?_
            first | refine awN_iadd e_Mo_pour_76 ?_ | refine aw_iadd e_Mo_pour_76 ?_
            refine aw_ialE e_Mo_pour_77 rfl (show _ < 96 by omega) (by omega) (show _ = (sH S s).2.2 (porV (sM S) (sH S s) i).2 by rw [hf2.1 31 0 (by decide) (by decide) (by decide) (by decide)]; exact hm.2.2 _ (by omega)) ?_
            refine aw_i2l e_Mo_pour_78 ?_
            refine aw_cS1 e_Mo_pour_79 ml_Mo_90 mf_Mo_worthOf ms_Mo_worthOf (c_Mo_worthI ?_)
            refine awN_l2i e_Mo_pour_82 ?_
            refine aw_iast e_Mo_pour_83 rfl (show _ < 3110 by omega) (by omega) ?_
            refine aw_inc2 e_Mo_pour_84 (inc1 _) ?_
            refine aw_inc3 e_Mo_pour_87 (inc1 _) ?_
            refine aw_goto e_Mo_pour_90 ?_
            have hk := ih h34
            rw [porV] at hk
            first
              | (rw [if_neg (mt And.left h53)] at hk; exact hk I2 hC2 hf2)
              | (rw [if_pos ⟨h53, h44⟩] at hk
                 exact hk _ (MC_setH hC2 (WF_porV hW i) (by have := (porV_n (V := sM S) (v := sH S s) i).1; omega)) (fG_s hf2 (by decide)))
    · refine aw_ldcw (v := -1000000011) e_Mo_pour_19 kc_Mo_336 ?_
      have hq := hQ I L
      unfold op_pour at hq
      first
        | (rw [if_pos h4, ix_n (j := s) (by omega), if_pos (hsn.1 (by omega))] at hq; exact aw_iret e_Mo_pour_22 rfl rfl (hq hM fK_0))
  · refine aw_ldc (v := -1000000001) e_Mo_pour_7 kc_Mo_89 ?_
    have hq := hQ I L
    unfold op_pour at hq
    first
      | (rw [if_neg h4] at hq; exact aw_iret e_Mo_pour_9 rfl rfl (hq hM fK_0))
