/-! ===== the model: bonds, line-ups ===== -/
def mB3 (I : It) (n p q : Nat) : It := sI (sI (sI I 28 0 (70 + 2 * n) (nI p)) 28 0 (70 + 2 * n + 1) (nI q)) 28 0 1 (nI (n + 1))
theorem MC_addB {I : It} {V : Mc} {f t : Nat} (h : MC I 0 V) (hW : WF V) (hn : nB V < 12) : MC (mB3 I (nB V) f t) 0 (addB V f t) := by
  obtain ⟨c1, c2, c3, c4, c5⟩ := h
  have hp := hW.1.1
  unfold mB3
  refine ⟨⟨?_, sI_eq _ _ _ _ _, ?_, ?_⟩, fun q g hq hg => ?_, fun b hb => ?_, fun b hb => ?_, fun j hj => ?_⟩
  · (repeat (first | rw [sI_n (by omega)] | rw [sI_ne (by omega)]))
    exact c1.1
  · (repeat (first | rw [sI_n (by omega)] | rw [sI_ne (by omega)]))
    exact c1.2.2.1
  · (repeat (first | rw [sI_n (by omega)] | rw [sI_ne (by omega)]))
    exact c1.2.2.2
  · have hq2 : q < nP V := hq
    (repeat (first | rw [sI_n (by omega)] | rw [sI_ne (by omega)]))
    exact c2 q g hq hg
  · have hb2 : b < nB V + 1 := hb
    show _ = nI (if b = nB V then f else bF V b)
    by_cases e : b = nB V
    · rw [if_pos e, e, sI_ne (by omega), sI_ne (by omega), sI_eq]
    · rw [if_neg e]
      (repeat (first | rw [sI_n (by omega)] | rw [sI_ne (by omega)]))
      exact c3 b (by omega)
  · have hb2 : b < nB V + 1 := hb
    show _ = nI (if b = nB V then t else bT V b)
    by_cases e : b = nB V
    · rw [if_pos e, e, sI_ne (by omega), sI_eq]
    · rw [if_neg e]
      (repeat (first | rw [sI_n (by omega)] | rw [sI_ne (by omega)]))
      exact c4 b (by omega)
  · refine (c5 j hj).keep (fun n a b => ?_) (hW.2.2.2 j hj).2.2.2.1
    (repeat (first | rw [sI_n (by omega)] | rw [sI_ne (by omega)]))
theorem MC_dropB {I I2 : It} {V : Mc} {b : Nat} (h : MC I 0 V) (hW : WF V) (hb : b < nB V) (h2 : ∀ n, I2 28 0 n = if n = 1 then nI (nB V - 1) else if 70 + 2 * b ≤ n ∧ n < 70 + 2 * (nB V - 1) then I 28 0 (n + 2) else I 28 0 n) : MC I2 0 (dropB V b) := by
  obtain ⟨c1, c2, c3, c4, c5⟩ := h
  have hp := hW.1.1
  have hbn := hW.1.2.1
  refine ⟨⟨?_, ?_, ?_, ?_⟩, fun q g hq hg => ?_, fun j hj => ?_, fun j hj => ?_, fun j hj => ?_⟩
  · rw [h2, if_neg (by omega), if_neg (by omega)]; exact c1.1
  · rw [h2, if_pos rfl]; rfl
  · rw [h2, if_neg (by omega), if_neg (by omega)]; exact c1.2.2.1
  · rw [h2, if_neg (by omega), if_neg (by omega)]; exact c1.2.2.2
  · have hq2 : q < nP V := hq
    rw [h2, if_neg (by omega), if_neg (by omega)]; exact c2 q g hq hg
  · have hj2 : j < nB V - 1 := hj
    show _ = nI (if j < b then bF V j else bF V (j + 1))
    rw [h2, if_neg (by omega)]
    by_cases e : j < b
    · rw [if_neg (by omega), if_pos e]; exact c3 j (by omega)
    · rw [if_pos (by omega), if_neg e]; exact c3 (j + 1) (by omega)
  · have hj2 : j < nB V - 1 := hj
    show _ = nI (if j < b then bT V j else bT V (j + 1))
    rw [h2, if_neg (by omega)]
    by_cases e : j < b
    · rw [if_neg (by omega), if_pos e]; exact c4 j (by omega)
    · rw [if_pos (by omega), if_neg e]; exact c4 (j + 1) (by omega)
  · refine (c5 j hj).keep (fun n a c => ?_) (hW.2.2.2 j hj).2.2.2.1
    rw [h2, if_neg (by omega), if_neg (by omega)]
theorem alw_iff {V : Mc} {p m : Nat} : alw V p m = true ↔ (pP V p 0 = 3 ∧ setl V p m = 1 - pP V p 1) ∨ (pP V p 0 = 4 ∧ ((pP V p 1 = 0 ∧ setl V p m = 1) ∨ (pP V p 1 ≠ 0 ∧ setl V p m ≠ 1))) ∨ (pP V p 0 = 5 ∧ ((pP V p 1 = 0 ∧ setl V p m = ends V p - 1) ∨ (pP V p 1 ≠ 0 ∧ setl V p m = 1))) ∨ (pP V p 0 ≠ 3 ∧ pP V p 0 ≠ 4 ∧ pP V p 0 ≠ 5) := by
  unfold alw
  by_cases h3 : pP V p 0 = 3
  · rw [if_pos h3, beq_iff_eq]; omega
  · rw [if_neg h3]
    by_cases h4 : pP V p 0 = 4
    · rw [if_pos h4]
      by_cases hs : pP V p 1 = 0
      · rw [if_pos hs, beq_iff_eq]; omega
      · rw [if_neg hs, bne_iff_ne]; omega
    · rw [if_neg h4]
      by_cases h5 : pP V p 0 = 5
      · rw [if_pos h5, beq_iff_eq]
        by_cases hs : pP V p 1 = 0
        · rw [if_pos hs]; omega
        · rw [if_neg hs]; omega
      · rw [if_neg h5]; exact ⟨fun _ => by omega, fun _ => rfl⟩
theorem allB_le {P : Nat → Bool} {i n : Nat} (h : i ≤ n) (ha : allB P n = true) : allB P i = true := (allB_iff P i).2 (fun j hj => (allB_iff P n).1 ha j (by omega))
theorem cnt_f2 {P : Nat → Bool} {n : Nat} (h : ¬ P n = true) : cnt P (n + 1) = cnt P n := cnt_f (Bool.eq_false_iff.2 h)
def smP (V : Mc) (m p : Nat) : Bool := pP V p 0 == 1 && decide (setl V p m = 1 - pP V p 1)
theorem smP_iff {V : Mc} {m p : Nat} : smP V m p = true ↔ pP V p 0 = 1 ∧ setl V p m = 1 - pP V p 1 := by
  unfold smP
  rw [Bool.and_eq_true, beq_iff_eq, decide_eq_true_eq]
theorem smg_c (V : Mc) (m : Nat) : smg V m = cnt (smP V m) (nP V) := rfl
theorem smg_le (V : Mc) (m : Nat) : smg V m ≤ nP V := cnt_le _ _
theorem tdS_lt (V : Mc) (b : Nat) : ∀ n, n ≤ 12 → tdS V b n < 4096
  | 0, _ => by show 0 < 4096; decide
  | n + 1, h => by
    have ih := tdS_lt V b n (by omega)
    unfold tdS
    split
    · exact or_lt ih (pow12 (by omega))
    · exact ih
def bestI (V : Mc) (m : Nat) : Int32 := if (svS V m).1 = 0 then -1 else nI (svS V m).2.1
theorem sv_t {V : Mc} {m : Nat} (h : canB V m = true) : svS V (m + 1) = wgh V m (svS V m) := by rw [svS, if_pos h]
theorem sv_f {V : Mc} {m : Nat} (h : ¬ canB V m = true) : svS V (m + 1) = svS V m := by rw [svS, if_neg h]
theorem svS_i (V : Mc) : ∀ m, ((svS V m).1 = 0 → (svS V m).2.2 = 0) ∧ ((svS V m).1 ≠ 0 → (svS V m).2.2 = smg V (svS V m).2.1 + 1)
  | 0 => ⟨fun _ => rfl, fun h => absurd rfl h⟩
  | m + 1 => by
    have ih := svS_i V m
    by_cases h : canB V m = true
    · rw [sv_t h]
      refine ⟨fun z => absurd z (Nat.succ_ne_zero _), fun _ => ?_⟩
      show (if (svS V m).2.2 ≤ smg V m then smg V m + 1 else (svS V m).2.2) = smg V (if (svS V m).2.2 ≤ smg V m then m else (svS V m).2.1) + 1
      by_cases q : (svS V m).2.2 ≤ smg V m
      · rw [if_pos q, if_pos q]
      · rw [if_neg q, if_neg q]
        exact ih.2 (fun z => q (by rw [ih.1 z]; exact Nat.zero_le _))
    · rw [sv_f h]; exact ih
theorem sv1_t {V : Mc} {m : Nat} (h : canB V m = true) : (svS V (m + 1)).1 = (svS V m).1 + 1 := by rw [sv_t h]; rfl
theorem be_t {V : Mc} {m : Nat} (h : canB V m = true) (q : (svS V m).2.2 ≤ smg V m) : bestI V (m + 1) = nI m := by
  unfold bestI
  rw [sv_t h, if_neg (show ¬ (wgh V m (svS V m)).1 = 0 from Nat.succ_ne_zero _)]
  show nI (if (svS V m).2.2 ≤ smg V m then m else (svS V m).2.1) = nI m
  rw [if_pos q]
theorem be_k {V : Mc} {m : Nat} (h : canB V m = true) (q : ¬ (svS V m).2.2 ≤ smg V m) : bestI V (m + 1) = nI (svS V m).2.1 := by
  unfold bestI
  rw [sv_t h, if_neg (show ¬ (wgh V m (svS V m)).1 = 0 from Nat.succ_ne_zero _)]
  show nI (if (svS V m).2.2 ≤ smg V m then m else (svS V m).2.1) = nI (svS V m).2.1
  rw [if_neg q]
theorem be_f {V : Mc} {m : Nat} (h : ¬ canB V m = true) : bestI V (m + 1) = bestI V m := by unfold bestI; rw [sv_f h]
theorem be_z {V : Mc} {m : Nat} (h : (svS V m).1 = 0) : bestI V m = -1 := if_pos h
theorem be_n {V : Mc} {m : Nat} (h : ¬ (svS V m).1 = 0) : bestI V m = nI (svS V m).2.1 := if_neg h
theorem be_neg {V : Mc} {m : Nat} (hm : m ≤ 4096) : (bestI V m).toInt < 0 ↔ (svS V m).1 = 0 := by
  have hb := svS_b V m
  by_cases h : (svS V m).1 = 0
  · rw [be_z h]; exact ⟨fun _ => h, fun _ => by decide⟩
  · rw [be_n h, nT (by omega)]; exact ⟨fun q => by omega, fun q => absurd q h⟩
theorem sv_lt {V : Mc} {m : Nat} (h : 0 < m) : (svS V m).2.1 < m := by
  obtain ⟨n, rfl⟩ : ∃ n, m = n + 1 := ⟨m - 1, by omega⟩
  exact svS_lt V n
theorem c_Mo_bond {l : Launch} {E : En} {d : Nat} {I : It} {L : Lt} {R : Rt} {Z : Zt} {Q : Qt} {S : AS} (hS : Sta R) (hM : MSt I S) (hA : AWF S) {x y : Int32} (hQ : ∀ I2 L2, MSt I2 (op_bond S x y).1 → fK I I2 → Q (some (vi (op_bond S x y).2)) I2 L2 R Z) : AMet l E (d + 2) M_Mo_bond [vr 9 0, vi x, vi y] I L R Z Q := by
  have hC := hM.1
  have hW := hA.1.1
  have hnb := hW.1.2.1
  have hnp := hW.1.1
  have hnx := hW.1.2.2.1
  have hns := hW.1.2.2.2
  refine AMet.of mf_Mo_bond rfl (Nat.le_of_ble_eq_true rfl) ?_
  refine aw_aload_n e_Mo_bond_0 rfl ?_
  refine aw_iload_n e_Mo_bond_1 rfl ?_
  refine aw_cV1 e_Mo_bond_2 ml_Mo_122 mf_Mo_isPart mv_Mo_isPart (c_Mo_isPart hS hC hW ?_)
  refine awB_eq e_Mo_bond_5 (fun h5 => ?_) (fun h5 => ?_)
  · refine aw_ldc (v := -1000000001) e_Mo_bond_21 kc_Mo_89 ?_
    have hq := hQ I L
    unfold op_bond at hq
    first
      | (rw [if_neg (fun z => h5 z.1)] at hq; exact aw_iret e_Mo_bond_23 rfl rfl (hq hM fK_0))
      | (rw [if_neg (fun z => h13 z.2.1)] at hq; exact aw_iret e_Mo_bond_23 rfl rfl (hq hM fK_0))
      | (rw [if_neg (fun z => z.2.2 h18)] at hq; exact aw_iret e_Mo_bond_23 rfl rfl (hq hM fK_0))
  · refine aw_aload_n e_Mo_bond_8 rfl ?_
    refine aw_iload_n e_Mo_bond_9 rfl ?_
    refine aw_cV1 e_Mo_bond_10 ml_Mo_122 mf_Mo_isPart mv_Mo_isPart (c_Mo_isPart hS hC hW ?_)
    refine awB_eq e_Mo_bond_13 (fun h13 => ?_) (fun h13 => ?_)
    · refine aw_ldc (v := -1000000001) e_Mo_bond_21 kc_Mo_89 ?_
      have hq := hQ I L
      unfold op_bond at hq
      first
        | (rw [if_neg (fun z => h5 z.1)] at hq; exact aw_iret e_Mo_bond_23 rfl rfl (hq hM fK_0))
        | (rw [if_neg (fun z => h13 z.2.1)] at hq; exact aw_iret e_Mo_bond_23 rfl rfl (hq hM fK_0))
        | (rw [if_neg (fun z => z.2.2 h18)] at hq; exact aw_iret e_Mo_bond_23 rfl rfl (hq hM fK_0))
    · refine aw_iload_n e_Mo_bond_16 rfl ?_
      refine aw_iload_n e_Mo_bond_17 rfl ?_
      refine aw_icmp_ne e_Mo_bond_18 (fun h18 => ?_) (fun h18 => ?_)
      · obtain ⟨p, hp, rfl⟩ := inR_nI h5
        obtain ⟨q, hk, rfl⟩ := inR_nI h13
        refine aw_aload_n e_Mo_bond_24 rfl ?_
        refine aw_getR e_Mo_bond_25 fl_Mo_7 (hS.1 _ _ _ _ rfl) ?_
        refine aw_iconst (v := nI 1) e_Mo_bond_28 (by decide) ?_
        refine aw_ialE e_Mo_bond_29 rfl (show _ < 3110 by omega) (by omega) (by first | exact hC.1.1 | exact hC.1.2.1 | exact hC.1.2.2.1 | exact hC.1.2.2.2 | exact hC.pk (by omega) | exact hC.2.1 _ _ (by omega) (by decide) | exact hC.2.2.1 _ (by omega) | exact hC.2.2.2.1 _ (by omega)) ?_
        refine aw_bipush (v := nI 12) e_Mo_bond_30 (by decide) ?_
        refine awN_icmp_ne e_Mo_bond_32 (by omega) (by omega) (fun h32 => ?_) (fun h32 => ?_)
        · refine aw_aload_n e_Mo_bond_38 rfl ?_
          refine aw_getR e_Mo_bond_39 fl_Mo_7 (hS.1 _ _ _ _ rfl) ?_
          refine aw_bipush (v := nI 70) e_Mo_bond_42 (by decide) ?_
          refine aw_iconst (v := nI 2) e_Mo_bond_44 (by decide) ?_
          refine aw_aload_n e_Mo_bond_45 rfl ?_
          refine aw_getR e_Mo_bond_46 fl_Mo_7 (hS.1 _ _ _ _ rfl) ?_
          refine aw_iconst (v := nI 1) e_Mo_bond_49 (by decide) ?_
          refine aw_ialE e_Mo_bond_50 rfl (show _ < 3110 by omega) (by omega) (by first | exact hC.1.1 | exact hC.1.2.1 | exact hC.1.2.2.1 | exact hC.1.2.2.2 | exact hC.pk (by omega) | exact hC.2.1 _ _ (by omega) (by decide) | exact hC.2.2.1 _ (by omega) | exact hC.2.2.2.1 _ (by omega)) ?_
          first | refine awN_imul e_Mo_bond_51 ?_ | refine aw_imul e_Mo_bond_51 ?_
          first | refine awN_iadd e_Mo_bond_52 ?_ | refine aw_iadd e_Mo_bond_52 ?_
          refine aw_iload_n e_Mo_bond_53 rfl ?_
          refine aw_iast e_Mo_bond_54 rfl (show _ < 3110 by omega) (by omega) ?_
          refine aw_aload_n e_Mo_bond_55 rfl ?_
          refine aw_getR e_Mo_bond_56 fl_Mo_7 (hS.1 _ _ _ _ rfl) ?_
          refine aw_bipush (v := nI 70) e_Mo_bond_59 (by decide) ?_
          refine aw_iconst (v := nI 2) e_Mo_bond_61 (by decide) ?_
          refine aw_aload_n e_Mo_bond_62 rfl ?_
          refine aw_getR e_Mo_bond_63 fl_Mo_7 (hS.1 _ _ _ _ rfl) ?_
          refine aw_iconst (v := nI 1) e_Mo_bond_66 (by decide) ?_
          refine aw_ialE e_Mo_bond_67 rfl (show _ < 3110 by omega) (by omega) (show _ = nI (nB (sM S)) by (repeat (first | rw [sI_n (by omega)] | rw [sI_ne (by omega)])); exact hC.1.2.1) ?_
          first | refine awN_imul e_Mo_bond_68 ?_ | refine aw_imul e_Mo_bond_68 ?_
          first | refine awN_iadd e_Mo_bond_69 ?_ | refine aw_iadd e_Mo_bond_69 ?_
          refine aw_iconst (v := nI 1) e_Mo_bond_70 (by decide) ?_
          first | refine awN_iadd e_Mo_bond_71 ?_ | refine aw_iadd e_Mo_bond_71 ?_
          refine aw_iload_n e_Mo_bond_72 rfl ?_
          refine aw_iast e_Mo_bond_73 rfl (show _ < 3110 by omega) (by omega) ?_
          refine aw_aload_n e_Mo_bond_74 rfl ?_
          refine aw_getR e_Mo_bond_75 fl_Mo_7 (hS.1 _ _ _ _ rfl) ?_
          refine aw_iconst (v := nI 1) e_Mo_bond_78 (by decide) ?_
          refine aw_dup2 e_Mo_bond_79 rfl rfl ?_
          refine aw_ialE e_Mo_bond_80 rfl (show _ < 3110 by omega) (by omega) (show _ = nI (nB (sM S)) by (repeat (first | rw [sI_n (by omega)] | rw [sI_ne (by omega)])); exact hC.1.2.1) ?_
          refine aw_iconst (v := nI 1) e_Mo_bond_81 (by decide) ?_
          first | refine awN_iadd e_Mo_bond_82 ?_ | refine aw_iadd e_Mo_bond_82 ?_
          refine aw_iast e_Mo_bond_83 rfl (show _ < 3110 by omega) (by omega) ?_
          refine aw_aload_n e_Mo_bond_84 rfl ?_
          refine aw_getR e_Mo_bond_85 fl_Mo_7 (hS.1 _ _ _ _ rfl) ?_
          refine aw_iconst (v := nI 1) e_Mo_bond_88 (by decide) ?_
          refine aw_ialE e_Mo_bond_89 rfl (show _ < 3110 by omega) (by omega) (sI_eq _ _ _ _ _) ?_
          refine aw_iconst (v := nI 1) e_Mo_bond_90 (by decide) ?_
          refine awN_isub e_Mo_bond_91 (show 1 ≤ nB (sM S) + 1 by omega) ?_
          have hq := hQ (mB3 I (nB (sM S)) p q) L
          unfold op_bond at hq
          rw [if_pos ⟨h5, h13, h18⟩, if_pos (by omega), ix_n (by omega), ix_n (by omega)] at hq
          have hf : fM I (mB3 I (nB (sM S)) p q) := fM_w (fM_w (fM_w fM_0 (by omega)) (by omega)) (by omega)
          exact aw_iret e_Mo_bond_92 rfl rfl (hq (hM.mach hf (MC_addB hC hW (by omega))) hf.K)
        · refine aw_ldc (v := -1000000003) e_Mo_bond_35 kc_Mo_108 ?_
          have hq := hQ I L
          unfold op_bond at hq
          first
            | (rw [if_pos ⟨h5, h13, h18⟩, if_neg (by omega)] at hq; exact aw_iret e_Mo_bond_37 rfl rfl (hq hM fK_0))
      · refine aw_ldc (v := -1000000001) e_Mo_bond_21 kc_Mo_89 ?_
        have hq := hQ I L
        unfold op_bond at hq
        first
          | (rw [if_neg (fun z => h5 z.1)] at hq; exact aw_iret e_Mo_bond_23 rfl rfl (hq hM fK_0))
          | (rw [if_neg (fun z => h13 z.2.1)] at hq; exact aw_iret e_Mo_bond_23 rfl rfl (hq hM fK_0))
          | (rw [if_neg (fun z => z.2.2 h18)] at hq; exact aw_iret e_Mo_bond_23 rfl rfl (hq hM fK_0))
theorem c_Mo_breaks {l : Launch} {E : En} {d : Nat} {I : It} {L : Lt} {R : Rt} {Z : Zt} {Q : Qt} {S : AS} (hS : Sta R) (hM : MSt I S) (hA : AWF S) {x : Int32} (hQ : ∀ I2 L2, MSt I2 (op_breaks S x).1 → fK I I2 → Q (some (vi (op_breaks S x).2)) I2 L2 R Z) : AMet l E (d + 2) M_Mo_breaks [vr 9 0, vi x] I L R Z Q := by
  have hC := hM.1
  have hW := hA.1.1
  have hnb := hW.1.2.1
  have hnp := hW.1.1
  have hnx := hW.1.2.2.1
  have hns := hW.1.2.2.2
  refine AMet.of mf_Mo_breaks rfl (Nat.le_of_ble_eq_true rfl) ?_
  refine aw_aload_n e_Mo_breaks_0 rfl ?_
  refine aw_iload_n e_Mo_breaks_1 rfl ?_
  refine aw_cV1 e_Mo_breaks_2 ml_Mo_139 mf_Mo_isBond mv_Mo_isBond (c_Mo_isBond hS hC hW ?_)
  refine awB_ne e_Mo_breaks_5 (fun h5 => ?_) (fun h5 => ?_)
  · obtain ⟨b, hb, rfl⟩ := inR_nI h5
    refine aw_aload_n e_Mo_breaks_11 rfl ?_
    refine aw_getR e_Mo_breaks_12 fl_Mo_7 (hS.1 _ _ _ _ rfl) ?_
    refine aw_iconst (v := nI 1) e_Mo_breaks_15 (by decide) ?_
    refine aw_dup2 e_Mo_breaks_16 rfl rfl ?_
    refine aw_ialE e_Mo_breaks_17 rfl (show _ < 3110 by omega) (by omega) (by first | exact hC.1.1 | exact hC.1.2.1 | exact hC.1.2.2.1 | exact hC.1.2.2.2 | exact hC.pk (by omega) | exact hC.2.1 _ _ (by omega) (by decide) | exact hC.2.2.1 _ (by omega) | exact hC.2.2.2.1 _ (by omega)) ?_
    refine aw_iconst (v := nI 1) e_Mo_breaks_18 (by decide) ?_
    refine awN_isub e_Mo_breaks_19 (by omega) ?_
    refine aw_iast e_Mo_breaks_20 rfl (show _ < 3110 by omega) (by omega) ?_
    refine aw_iconst (v := nI 2) e_Mo_breaks_21 (by decide) ?_
    refine aw_iload_n e_Mo_breaks_22 rfl ?_
    first | refine awN_imul e_Mo_breaks_23 ?_ | refine aw_imul e_Mo_breaks_23 ?_
    refine aw_ist2 e_Mo_breaks_24 ?_
    refine up_loop (P := fun k => 2 * b ≤ k → ∀ I2, (∀ n, I2 28 0 n = if n = 1 then nI (nB (sM S) - 1) else if 70 + 2 * b ≤ n ∧ n < 70 + k then I 28 0 (n + 2) else I 28 0 n) → (∀ t i, ¬ (t = 28 ∧ i = 0) → I2 t i = I t i) → AWq l E (d + 2) M_Mo_breaks Z 25 [some (vr 9 0), some (vi (nI b)), some (vi (nI k))] [] I2 L R Z Q) (N := 2 * (nB (sM S) - 1)) (fun k hk ih hbk I2 hr hfr => ?_) (2 * b) (by omega) (Nat.le_refl _) _ (fun n => ?_) (fun t i hti => sI_n hti)
    rotate_left
    · by_cases e : n = 1
      · rw [if_pos e, e, sI_eq]
      · rw [if_neg e, sI_ne e, if_neg (by omega)]
    
    refine aw_iload_n e_Mo_breaks_25 rfl ?_
    refine aw_iconst (v := nI 2) e_Mo_breaks_26 (by decide) ?_
    refine aw_aload_n e_Mo_breaks_27 rfl ?_
    refine aw_getR e_Mo_breaks_28 fl_Mo_7 (hS.1 _ _ _ _ rfl) ?_
    refine aw_iconst (v := nI 1) e_Mo_breaks_31 (by decide) ?_
    refine aw_ialE e_Mo_breaks_32 rfl (show _ < 3110 by omega) (by omega) (show _ = nI (nB (sM S) - 1) by rw [hr]; exact if_pos rfl) ?_
    first | refine awN_imul e_Mo_breaks_33 ?_ | refine aw_imul e_Mo_breaks_33 ?_
    refine awN_icmp_ge e_Mo_breaks_34 (by omega) (by omega) (fun h34 => ?_) (fun h34 => ?_)
    · refine aw_aload_n e_Mo_breaks_63 rfl ?_
      refine aw_getR e_Mo_breaks_64 fl_Mo_7 (hS.1 _ _ _ _ rfl) ?_
      refine aw_iconst (v := nI 1) e_Mo_breaks_67 (by decide) ?_
      refine aw_ialE e_Mo_breaks_68 rfl (show _ < 3110 by omega) (by omega) (show _ = nI (nB (sM S) - 1) by rw [hr]; exact if_pos rfl) ?_
      rw [show k = 2 * (nB (sM S) - 1) by omega] at hr
      have hf : fM I I2 := ⟨fun t i a b c d e f g => hfr t i (by omega), by rw [hfr 9 0 (by omega)], by rw [hfr 9 0 (by omega)], by rw [hfr 9 0 (by omega)]⟩
      have hq := hQ I2 L
      unfold op_breaks at hq
      rw [if_pos h5, ix_n (by omega)] at hq
      exact aw_iret e_Mo_breaks_69 rfl rfl (hq (hM.mach hf (MC_dropB hC hW hb hr)) hf.K)
    · refine aw_aload_n e_Mo_breaks_37 rfl ?_
      refine aw_getR e_Mo_breaks_38 fl_Mo_7 (hS.1 _ _ _ _ rfl) ?_
      refine aw_bipush (v := nI 70) e_Mo_breaks_41 (by decide) ?_
      refine aw_iload_n e_Mo_breaks_43 rfl ?_
      first | refine awN_iadd e_Mo_breaks_44 ?_ | refine aw_iadd e_Mo_breaks_44 ?_
      refine aw_aload_n e_Mo_breaks_45 rfl ?_
      refine aw_getR e_Mo_breaks_46 fl_Mo_7 (hS.1 _ _ _ _ rfl) ?_
      refine aw_bipush (v := nI 70) e_Mo_breaks_49 (by decide) ?_
      refine aw_iload_n e_Mo_breaks_51 rfl ?_
      first | refine awN_iadd e_Mo_breaks_52 ?_ | refine aw_iadd e_Mo_breaks_52 ?_
      refine aw_iconst (v := nI 2) e_Mo_breaks_53 (by decide) ?_
      first | refine awN_iadd e_Mo_breaks_54 ?_ | refine aw_iadd e_Mo_breaks_54 ?_
      refine aw_ialE e_Mo_breaks_55 rfl (show _ < 3110 by omega) (by omega) (show _ = I 28 0 (70 + k + 2) by rw [hr, if_neg (by omega), if_neg (by omega)]) ?_
      refine aw_iast e_Mo_breaks_56 rfl (show _ < 3110 by omega) (by omega) ?_
      refine aw_inc2 e_Mo_breaks_57 (inc1 _) ?_
      refine aw_goto e_Mo_breaks_60 ?_
      refine ih h34 (by omega) _ (fun n => ?_) (fun t i hti => by rw [sI_n hti]; exact hfr t i hti)
      by_cases e : n = 70 + k
      · rw [e, sI_eq, if_neg (by omega), if_pos (by omega)]
      · rw [sI_ne e, hr]
        by_cases e1 : n = 1
        · rw [if_pos e1, if_pos e1]
        · rw [if_neg e1, if_neg e1]
          by_cases e2 : 70 + 2 * b ≤ n ∧ n < 70 + k
          · rw [if_pos e2, if_pos (by omega)]
          · rw [if_neg e2, if_neg (by omega)]
  · refine aw_ldc (v := -1000000001) e_Mo_breaks_8 kc_Mo_89 ?_
    have hq := hQ I L
    unfold op_breaks at hq
    first
      | (rw [if_neg h5] at hq; exact aw_iret e_Mo_breaks_10 rfl rfl (hq hM fK_0))
theorem c_Mo_whole {l : Launch} {E : En} {d : Nat} {I : It} {L : Lt} {R : Rt} {Z : Zt} {Q : Qt} {S : AS} (hS : Sta R) (hM : MSt I S) (hA : AWF S) (hQ : ∀ I2 L2, MSt I2 (op_whole S).1 → fK I I2 → Q (some (vi (op_whole S).2)) I2 L2 R Z) : AMet l E (d + 4) M_Mo_whole [vr 9 0] I L R Z Q := by
  have hC := hM.1
  have hW := hA.1.1
  have hnb := hW.1.2.1
  have hnp := hW.1.1
  have hnx := hW.1.2.2.1
  have hns := hW.1.2.2.2
  refine AMet.of mf_Mo_whole rfl (Nat.le_of_ble_eq_true rfl) ?_
  refine aw_aload_n e_Mo_whole_0 rfl ?_
  refine aw_cV0 e_Mo_whole_1 ml_Mo_142 mf_Mo_isWhole mv_Mo_isWhole (c_Mo_isWhole hS hC hW ?_)
  refine awB_eq e_Mo_whole_4 (fun h4 => ?_) (fun h4 => ?_)
  · refine aw_iconst (v := nI 0) e_Mo_whole_11 (by decide) ?_
    have hq := hQ I L hM fK_0
    first
      | exact awB_1 e_Mo_whole_12 h4 hq
      | exact awB_0 e_Mo_whole_12 h4 hq
  · refine aw_iconst (v := nI 1) e_Mo_whole_7 (by decide) ?_
    refine aw_goto e_Mo_whole_8 ?_
    have hq := hQ I L hM fK_0
    first
      | exact awB_1 e_Mo_whole_12 h4 hq
      | exact awB_0 e_Mo_whole_12 h4 hq
theorem c_Mo_settles {l : Launch} {E : En} {d : Nat} {I : It} {L : Lt} {R : Rt} {Z : Zt} {Q : Qt} {V : Mc} (hS : Sta R) (hC : MC I 0 V) (hW : WF V) {p m : Nat} (hp : p < 12) (hm : m < 4096) (hQ : Q (some (vi (nI (setl V p m)))) I L R Z) : AMet l E d M_Mo_settles [vr 9 0, vi (nI p), vi (nI m)] I L R Z Q := by
  have hnb := hW.1.2.1
  have hnp := hW.1.1
  have hnx := hW.1.2.2.1
  have hns := hW.1.2.2.2
  refine AMet.of mf_Mo_settles rfl (Nat.le_of_ble_eq_true rfl) ?_
  refine aw_iconst (v := nI 0) e_Mo_settles_0 (by decide) ?_
  refine aw_ist3 e_Mo_settles_1 ?_
  refine aw_iconst (v := nI 0) e_Mo_settles_2 (by decide) ?_
  refine aw_ist4 e_Mo_settles_3 ?_
  refine up_loop (P := fun i => AWq l E d M_Mo_settles Z 5 [some (vr 9 0), some (vi (nI p)), some (vi (nI m)), some (vi (nI (cnt (fun b => (if m.testBit b then bT V b else bF V b) == p) i))), some (vi (nI i))] [] I L R Z Q) (N := nB V) (fun i hi ih => ?_) 0 (by omega)
  try dsimp only
  refine aw_iload e_Mo_settles_5 rfl ?_
  refine aw_aload_n e_Mo_settles_7 rfl ?_
  refine aw_getR e_Mo_settles_8 fl_Mo_7 (hS.1 _ _ _ _ rfl) ?_
  refine aw_iconst (v := nI 1) e_Mo_settles_11 (by decide) ?_
  refine aw_ialE e_Mo_settles_12 rfl (show _ < 3110 by omega) (by omega) (by first | exact hC.1.1 | exact hC.1.2.1 | exact hC.1.2.2.1 | exact hC.1.2.2.2 | exact hC.pk (by omega) | exact hC.2.1 _ _ (by omega) (by decide) | exact hC.2.2.1 _ (by omega) | exact hC.2.2.2.1 _ (by omega)) ?_
  refine awN_icmp_ge e_Mo_settles_13 (by omega) (by omega) (fun h13 => ?_) (fun h13 => ?_)
  · refine aw_iload_n e_Mo_settles_53 rfl ?_
    exact aw_iret e_Mo_settles_54 rfl rfl (by rw [show i = nB V by omega]; exact hQ)
  · have hbd := hW.2.2.1 i h13
    have hx : I 28 0 (70 + 2 * i + m / 2 ^ i % 2) = nI (if m.testBit i then bT V i else bF V i) := by
      by_cases q : m.testBit i = true
      · rw [if_pos q, (tbit m i).2 q]
        exact hC.2.2.2.1 i h13
      · rw [if_neg q, show m / 2 ^ i % 2 = 0 by have q2 : ¬ m / 2 ^ i % 2 = 1 := fun z => q ((tbit m i).1 z); omega]
        exact hC.2.2.1 i h13
    have hst : (if m.testBit i then bT V i else bF V i) < 12 := by split <;> omega
    refine aw_iload_n e_Mo_settles_16 rfl ?_
    refine aw_aload_n e_Mo_settles_17 rfl ?_
    refine aw_getR e_Mo_settles_18 fl_Mo_7 (hS.1 _ _ _ _ rfl) ?_
    refine aw_bipush (v := nI 70) e_Mo_settles_21 (by decide) ?_
    refine aw_iconst (v := nI 2) e_Mo_settles_23 (by decide) ?_
    refine aw_iload e_Mo_settles_24 rfl ?_
    first | refine awN_imul e_Mo_settles_26 ?_ | refine aw_imul e_Mo_settles_26 ?_
    first | refine awN_iadd e_Mo_settles_27 ?_ | refine aw_iadd e_Mo_settles_27 ?_
    refine aw_iload_n e_Mo_settles_28 rfl ?_
    refine aw_iload e_Mo_settles_29 rfl ?_
    refine aw_ishr e_Mo_settles_31 ?_
    rw [shrS (by omega) (by omega)]
    refine aw_iconst (v := nI 1) e_Mo_settles_32 (by decide) ?_
    refine aw_iand e_Mo_settles_33 ?_
    rw [and1 _ (Nat.lt_of_le_of_lt (Nat.div_le_self _ _) (by omega))]
    first | refine awN_iadd e_Mo_settles_34 ?_ | refine aw_iadd e_Mo_settles_34 ?_
    refine aw_ialE e_Mo_settles_35 rfl (show _ < 3110 by omega) (by omega) hx ?_
    refine aw_iload_n e_Mo_settles_36 rfl ?_
    refine awN_icmp_ne e_Mo_settles_37 (by omega) (by omega) (fun h37 => ?_) (fun h37 => ?_)
    · refine aw_iconst (v := nI 0) e_Mo_settles_44 (by decide) ?_
      first | refine awN_iadd e_Mo_settles_45 ?_ | refine aw_iadd e_Mo_settles_45 ?_
      first | rw [← cnt_t (P := fun b => (if m.testBit b then bT V b else bF V b) == p) (n := i) (beq_iff_eq.2 h37)] | rw [Nat.add_zero, ← cnt_f2 (P := fun b => (if m.testBit b then bT V b else bF V b) == p) (n := i) (fun z => h37 (beq_iff_eq.1 z))]
      refine aw_ist3 e_Mo_settles_46 ?_
      refine aw_inc4 e_Mo_settles_47 (inc1 _) ?_
      refine aw_goto e_Mo_settles_50 ?_
      exact ih h13
    · refine aw_iconst (v := nI 1) e_Mo_settles_40 (by decide) ?_
      refine aw_goto e_Mo_settles_41 ?_
      first | refine awN_iadd e_Mo_settles_45 ?_ | refine aw_iadd e_Mo_settles_45 ?_
      first | rw [← cnt_t (P := fun b => (if m.testBit b then bT V b else bF V b) == p) (n := i) (beq_iff_eq.2 h37)] | rw [Nat.add_zero, ← cnt_f2 (P := fun b => (if m.testBit b then bT V b else bF V b) == p) (n := i) (fun z => h37 (beq_iff_eq.1 z))]
      refine aw_ist3 e_Mo_settles_46 ?_
      refine aw_inc4 e_Mo_settles_47 (inc1 _) ?_
      refine aw_goto e_Mo_settles_50 ?_
      exact ih h13
theorem c_Mo_canBe {l : Launch} {E : En} {d : Nat} {I : It} {L : Lt} {R : Rt} {Z : Zt} {Q : Qt} {V : Mc} (hS : Sta R) (hC : MC I 0 V) (hW : WF V) (hE : ∀ p, p < nP V → 1 ≤ ends V p) {m : Nat} (hm : m < 4096) (hQ : Q (some (vi (bI (canB V m = true)))) I L R Z) : AMet l E (d + 2) M_Mo_canBe [vr 9 0, vi (nI m)] I L R Z Q := by
  have hnb := hW.1.2.1
  have hnp := hW.1.1
  have hnx := hW.1.2.2.1
  have hns := hW.1.2.2.2
  refine AMet.of mf_Mo_canBe rfl (Nat.le_of_ble_eq_true rfl) ?_
  have k4 : ∀ i, i ≤ nP V → AWq l E (d + 2) M_Mo_canBe Z 4 [some (vr 9 0), some (vi (nI m)), some (vi (bI (allB (fun p => alw V p m) i = true))), some (vi (nI i)), none, none] [] I L R Z Q := by
    refine up_loop (fun i hi ih => ?_)
    refine aw_iload_n e_Mo_canBe_4 rfl ?_
    refine aw_aload_n e_Mo_canBe_5 rfl ?_
    refine aw_getR e_Mo_canBe_6 fl_Mo_7 (hS.1 _ _ _ _ rfl) ?_
    refine aw_iconst (v := nI 0) e_Mo_canBe_9 (by decide) ?_
    refine aw_ialE e_Mo_canBe_10 rfl (show _ < 3110 by omega) (by omega) (by first | exact hC.1.1 | exact hC.1.2.1 | exact hC.1.2.2.1 | exact hC.1.2.2.2 | exact hC.pk (by omega) | exact hC.2.1 _ _ (by omega) (by decide) | exact hC.2.2.1 _ (by omega) | exact hC.2.2.2.1 _ (by omega)) ?_
    refine awN_icmp_ge e_Mo_canBe_11 (by omega) (by omega) (fun h11 => ?_) (fun h11 => ?_)
    · refine aw_iload_n e_Mo_canBe_152 rfl ?_
      first
        | (rw [show i = nP V by omega]; exact awB_ret e_Mo_canBe_153 rfl hQ)
        | (refine awB_ret e_Mo_canBe_153 rfl ?_
           rw [bI_iff (e := canB V m = true) ⟨fun z => absurd z h15, fun z => allB_le hi z⟩]
           exact hQ)
    · refine aw_iload_n e_Mo_canBe_14 rfl ?_
      refine awB_eq e_Mo_canBe_15 (fun h15 => ?_) (fun h15 => ?_)
      · refine aw_iload_n e_Mo_canBe_152 rfl ?_
        first
          | (rw [show i = nP V by omega]; exact awB_ret e_Mo_canBe_153 rfl hQ)
          | (refine awB_ret e_Mo_canBe_153 rfl ?_
             rw [bI_iff (e := canB V m = true) ⟨fun z => absurd z h15, fun z => allB_le hi z⟩]
             exact hQ)
      · have hv := hW.2.1 i h11
        have hel := ends_le (V := V) i
        have hel1 := hE i h11
        have hsl := setl_le V i m
        refine aw_aload_n e_Mo_canBe_18 rfl ?_
        refine aw_iload_n e_Mo_canBe_19 rfl ?_
        refine aw_iload_n e_Mo_canBe_20 rfl ?_
        refine aw_cV2 e_Mo_canBe_21 ml_Mo_192 mf_Mo_settles mv_Mo_settles (c_Mo_settles hS hC hW (by omega) hm ?_)
        refine aw_ist4 e_Mo_canBe_24 ?_
        refine aw_aload_n e_Mo_canBe_26 rfl ?_
        refine aw_iload_n e_Mo_canBe_27 rfl ?_
        refine aw_cV1 e_Mo_canBe_28 ml_Mo_153 mf_Mo_sortOf mv_Mo_sortOf (c_Mo_sortOf hS hC hW h11 ?_)
        refine aw_ist5 e_Mo_canBe_31 ?_
        refine aw_aload_n e_Mo_canBe_33 rfl ?_
        refine aw_iload_n e_Mo_canBe_34 rfl ?_
        refine aw_cV1 e_Mo_canBe_35 ml_Mo_116 mf_Mo_kindOf mv_Mo_kindOf (c_Mo_kindOf hS hC hW h11 ?_)
        have hkk : pP V i 0 = 3 ∨ pP V i 0 = 4 ∨ pP V i 0 = 5 ∨ pP V i 0 < 3 := by omega
        rcases hkk with hk0 | hk0 | hk0 | hk0
        · rw [hk0]
          refine aw_tsIn (off := 26) (tgt := 64) e_Mo_canBe_38 (by decide) (by decide) (by decide) (by decide) ?_
          refine aw_iload e_Mo_canBe_64 rfl ?_
          refine aw_iconst (v := nI 1) e_Mo_canBe_66 (by decide) ?_
          refine aw_iload e_Mo_canBe_67 rfl ?_
          first | refine awN_isub e_Mo_canBe_69 (by omega) ?_ | refine aw_isub e_Mo_canBe_69 ?_
          refine awN_icmp_ne e_Mo_canBe_70 (by omega) (by omega) (fun h70 => ?_) (fun h70 => ?_)
          · refine aw_iconst (v := nI 0) e_Mo_canBe_77 (by decide) ?_
            refine aw_ist2 e_Mo_canBe_78 ?_
            refine aw_goto e_Mo_canBe_79 ?_
            refine aw_inc3 e_Mo_canBe_146 (inc1 _) ?_
            refine aw_goto e_Mo_canBe_149 ?_
            refine aw_drop 4 ?_
            refine aw_drop 5 ?_
            have h := ih h11
            first
              | (rw [bI_t (c := allB (fun p => alw V p m) (i + 1) = true) (allB_s.2 ⟨h15, alw_iff.2 (by omega)⟩)] at h; exact h)
              | (rw [bI_f (c := allB (fun p => alw V p m) (i + 1) = true) (fun q => by have q2 := alw_iff.1 (allB_s.1 q).2; omega)] at h; exact h)
              | (rw [bI_t (c := allB (fun p => alw V p m) (i + 1) = true) (allB_s.2 ⟨h15, alw_iff.2 (by omega)⟩)] at h; rw [bI_t (c := allB (fun p => alw V p m) i = true) h15]; exact h)
          · refine aw_iconst (v := nI 1) e_Mo_canBe_73 (by decide) ?_
            refine aw_goto e_Mo_canBe_74 ?_
            refine aw_ist2 e_Mo_canBe_78 ?_
            refine aw_goto e_Mo_canBe_79 ?_
            refine aw_inc3 e_Mo_canBe_146 (inc1 _) ?_
            refine aw_goto e_Mo_canBe_149 ?_
            refine aw_drop 4 ?_
            refine aw_drop 5 ?_
            have h := ih h11
            first
              | (rw [bI_t (c := allB (fun p => alw V p m) (i + 1) = true) (allB_s.2 ⟨h15, alw_iff.2 (by omega)⟩)] at h; exact h)
              | (rw [bI_f (c := allB (fun p => alw V p m) (i + 1) = true) (fun q => by have q2 := alw_iff.1 (allB_s.1 q).2; omega)] at h; exact h)
              | (rw [bI_t (c := allB (fun p => alw V p m) (i + 1) = true) (allB_s.2 ⟨h15, alw_iff.2 (by omega)⟩)] at h; rw [bI_t (c := allB (fun p => alw V p m) i = true) h15]; exact h)
        · rw [hk0]
          refine aw_tsIn (off := 44) (tgt := 82) e_Mo_canBe_38 (by decide) (by decide) (by decide) (by decide) ?_
          refine aw_iload e_Mo_canBe_82 rfl ?_
          refine awN_if_ne e_Mo_canBe_84 (by omega) (fun h84 => ?_) (fun h84 => ?_)
          · refine aw_iload e_Mo_canBe_101 rfl ?_
            refine aw_iconst (v := nI 1) e_Mo_canBe_103 (by decide) ?_
            refine awN_icmp_eq e_Mo_canBe_104 (by omega) (by omega) (fun h104 => ?_) (fun h104 => ?_)
            · refine aw_iconst (v := nI 0) e_Mo_canBe_111 (by decide) ?_
              refine aw_ist2 e_Mo_canBe_112 ?_
              refine aw_goto e_Mo_canBe_113 ?_
              refine aw_inc3 e_Mo_canBe_146 (inc1 _) ?_
              refine aw_goto e_Mo_canBe_149 ?_
              refine aw_drop 4 ?_
              refine aw_drop 5 ?_
              have h := ih h11
              first
                | (rw [bI_t (c := allB (fun p => alw V p m) (i + 1) = true) (allB_s.2 ⟨h15, alw_iff.2 (by omega)⟩)] at h; exact h)
                | (rw [bI_f (c := allB (fun p => alw V p m) (i + 1) = true) (fun q => by have q2 := alw_iff.1 (allB_s.1 q).2; omega)] at h; exact h)
                | (rw [bI_t (c := allB (fun p => alw V p m) (i + 1) = true) (allB_s.2 ⟨h15, alw_iff.2 (by omega)⟩)] at h; rw [bI_t (c := allB (fun p => alw V p m) i = true) h15]; exact h)
            · refine aw_iconst (v := nI 1) e_Mo_canBe_107 (by decide) ?_
              refine aw_goto e_Mo_canBe_108 ?_
              refine aw_ist2 e_Mo_canBe_112 ?_
              refine aw_goto e_Mo_canBe_113 ?_
              refine aw_inc3 e_Mo_canBe_146 (inc1 _) ?_
              refine aw_goto e_Mo_canBe_149 ?_
              refine aw_drop 4 ?_
              refine aw_drop 5 ?_
              have h := ih h11
              first
                | (rw [bI_t (c := allB (fun p => alw V p m) (i + 1) = true) (allB_s.2 ⟨h15, alw_iff.2 (by omega)⟩)] at h; exact h)
                | (rw [bI_f (c := allB (fun p => alw V p m) (i + 1) = true) (fun q => by have q2 := alw_iff.1 (allB_s.1 q).2; omega)] at h; exact h)
                | (rw [bI_t (c := allB (fun p => alw V p m) (i + 1) = true) (allB_s.2 ⟨h15, alw_iff.2 (by omega)⟩)] at h; rw [bI_t (c := allB (fun p => alw V p m) i = true) h15]; exact h)
          · refine aw_iload e_Mo_canBe_87 rfl ?_
            refine aw_iconst (v := nI 1) e_Mo_canBe_89 (by decide) ?_
            refine awN_icmp_ne e_Mo_canBe_90 (by omega) (by omega) (fun h90 => ?_) (fun h90 => ?_)
            · refine aw_iconst (v := nI 0) e_Mo_canBe_97 (by decide) ?_
              refine aw_goto e_Mo_canBe_98 ?_
              refine aw_ist2 e_Mo_canBe_112 ?_
              refine aw_goto e_Mo_canBe_113 ?_
              refine aw_inc3 e_Mo_canBe_146 (inc1 _) ?_
              refine aw_goto e_Mo_canBe_149 ?_
              refine aw_drop 4 ?_
              refine aw_drop 5 ?_
              have h := ih h11
              first
                | (rw [bI_t (c := allB (fun p => alw V p m) (i + 1) = true) (allB_s.2 ⟨h15, alw_iff.2 (by omega)⟩)] at h; exact h)
                | (rw [bI_f (c := allB (fun p => alw V p m) (i + 1) = true) (fun q => by have q2 := alw_iff.1 (allB_s.1 q).2; omega)] at h; exact h)
                | (rw [bI_t (c := allB (fun p => alw V p m) (i + 1) = true) (allB_s.2 ⟨h15, alw_iff.2 (by omega)⟩)] at h; rw [bI_t (c := allB (fun p => alw V p m) i = true) h15]; exact h)
            · refine aw_iconst (v := nI 1) e_Mo_canBe_93 (by decide) ?_
              refine aw_goto e_Mo_canBe_94 ?_
              refine aw_ist2 e_Mo_canBe_112 ?_
              refine aw_goto e_Mo_canBe_113 ?_
              refine aw_inc3 e_Mo_canBe_146 (inc1 _) ?_
              refine aw_goto e_Mo_canBe_149 ?_
              refine aw_drop 4 ?_
              refine aw_drop 5 ?_
              have h := ih h11
              first
                | (rw [bI_t (c := allB (fun p => alw V p m) (i + 1) = true) (allB_s.2 ⟨h15, alw_iff.2 (by omega)⟩)] at h; exact h)
                | (rw [bI_f (c := allB (fun p => alw V p m) (i + 1) = true) (fun q => by have q2 := alw_iff.1 (allB_s.1 q).2; omega)] at h; exact h)
                | (rw [bI_t (c := allB (fun p => alw V p m) (i + 1) = true) (allB_s.2 ⟨h15, alw_iff.2 (by omega)⟩)] at h; rw [bI_t (c := allB (fun p => alw V p m) i = true) h15]; exact h)
        · rw [hk0]
          refine aw_tsIn (off := 78) (tgt := 116) e_Mo_canBe_38 (by decide) (by decide) (by decide) (by decide) ?_
          refine aw_iload e_Mo_canBe_116 rfl ?_
          refine aw_iload e_Mo_canBe_118 rfl ?_
          refine awN_if_ne e_Mo_canBe_120 (by omega) (fun h120 => ?_) (fun h120 => ?_)
          · refine aw_iconst (v := nI 1) e_Mo_canBe_133 (by decide) ?_
            refine awN_icmp_ne e_Mo_canBe_134 (by omega) (by omega) (fun h134 => ?_) (fun h134 => ?_)
            · refine aw_iconst (v := nI 0) e_Mo_canBe_141 (by decide) ?_
              refine aw_ist2 e_Mo_canBe_142 ?_
              refine aw_goto e_Mo_canBe_143 ?_
              refine aw_inc3 e_Mo_canBe_146 (inc1 _) ?_
              refine aw_goto e_Mo_canBe_149 ?_
              refine aw_drop 4 ?_
              refine aw_drop 5 ?_
              have h := ih h11
              first
                | (rw [bI_t (c := allB (fun p => alw V p m) (i + 1) = true) (allB_s.2 ⟨h15, alw_iff.2 (by omega)⟩)] at h; exact h)
                | (rw [bI_f (c := allB (fun p => alw V p m) (i + 1) = true) (fun q => by have q2 := alw_iff.1 (allB_s.1 q).2; omega)] at h; exact h)
                | (rw [bI_t (c := allB (fun p => alw V p m) (i + 1) = true) (allB_s.2 ⟨h15, alw_iff.2 (by omega)⟩)] at h; rw [bI_t (c := allB (fun p => alw V p m) i = true) h15]; exact h)
            · refine aw_iconst (v := nI 1) e_Mo_canBe_137 (by decide) ?_
              refine aw_goto e_Mo_canBe_138 ?_
              refine aw_ist2 e_Mo_canBe_142 ?_
              refine aw_goto e_Mo_canBe_143 ?_
              refine aw_inc3 e_Mo_canBe_146 (inc1 _) ?_
              refine aw_goto e_Mo_canBe_149 ?_
              refine aw_drop 4 ?_
              refine aw_drop 5 ?_
              have h := ih h11
              first
                | (rw [bI_t (c := allB (fun p => alw V p m) (i + 1) = true) (allB_s.2 ⟨h15, alw_iff.2 (by omega)⟩)] at h; exact h)
                | (rw [bI_f (c := allB (fun p => alw V p m) (i + 1) = true) (fun q => by have q2 := alw_iff.1 (allB_s.1 q).2; omega)] at h; exact h)
                | (rw [bI_t (c := allB (fun p => alw V p m) (i + 1) = true) (allB_s.2 ⟨h15, alw_iff.2 (by omega)⟩)] at h; rw [bI_t (c := allB (fun p => alw V p m) i = true) h15]; exact h)
          · refine aw_aload_n e_Mo_canBe_123 rfl ?_
            refine aw_iload_n e_Mo_canBe_124 rfl ?_
            refine aw_cV1 e_Mo_canBe_125 ml_Mo_113 mf_Mo_endsOf mv_Mo_endsOf (c_Mo_endsOf hS hC hW (by omega) ?_)
            refine aw_iconst (v := nI 1) e_Mo_canBe_128 (by decide) ?_
            refine awN_isub e_Mo_canBe_129 (by omega) ?_
            refine aw_goto e_Mo_canBe_130 ?_
            refine awN_icmp_ne e_Mo_canBe_134 (by omega) (by omega) (fun h134 => ?_) (fun h134 => ?_)
            · refine aw_iconst (v := nI 0) e_Mo_canBe_141 (by decide) ?_
              refine aw_ist2 e_Mo_canBe_142 ?_
              refine aw_goto e_Mo_canBe_143 ?_
              refine aw_inc3 e_Mo_canBe_146 (inc1 _) ?_
              refine aw_goto e_Mo_canBe_149 ?_
              refine aw_drop 4 ?_
              refine aw_drop 5 ?_
              have h := ih h11
              first
                | (rw [bI_t (c := allB (fun p => alw V p m) (i + 1) = true) (allB_s.2 ⟨h15, alw_iff.2 (by omega)⟩)] at h; exact h)
                | (rw [bI_f (c := allB (fun p => alw V p m) (i + 1) = true) (fun q => by have q2 := alw_iff.1 (allB_s.1 q).2; omega)] at h; exact h)
                | (rw [bI_t (c := allB (fun p => alw V p m) (i + 1) = true) (allB_s.2 ⟨h15, alw_iff.2 (by omega)⟩)] at h; rw [bI_t (c := allB (fun p => alw V p m) i = true) h15]; exact h)
            · refine aw_iconst (v := nI 1) e_Mo_canBe_137 (by decide) ?_
              refine aw_goto e_Mo_canBe_138 ?_
              refine aw_ist2 e_Mo_canBe_142 ?_
              refine aw_goto e_Mo_canBe_143 ?_
              refine aw_inc3 e_Mo_canBe_146 (inc1 _) ?_
              refine aw_goto e_Mo_canBe_149 ?_
              refine aw_drop 4 ?_
              refine aw_drop 5 ?_
              have h := ih h11
              first
                | (rw [bI_t (c := allB (fun p => alw V p m) (i + 1) = true) (allB_s.2 ⟨h15, alw_iff.2 (by omega)⟩)] at h; exact h)
                | (rw [bI_f (c := allB (fun p => alw V p m) (i + 1) = true) (fun q => by have q2 := alw_iff.1 (allB_s.1 q).2; omega)] at h; exact h)
                | (rw [bI_t (c := allB (fun p => alw V p m) (i + 1) = true) (allB_s.2 ⟨h15, alw_iff.2 (by omega)⟩)] at h; rw [bI_t (c := allB (fun p => alw V p m) i = true) h15]; exact h)
        · refine aw_tsOut (tgt := 146) e_Mo_canBe_38 (Or.inl (by rw [nT (by omega)]; omega)) (by decide) ?_
          refine aw_inc3 e_Mo_canBe_146 (inc1 _) ?_
          refine aw_goto e_Mo_canBe_149 ?_
          refine aw_drop 4 ?_
          refine aw_drop 5 ?_
          have h := ih h11
          first
            | (rw [bI_t (c := allB (fun p => alw V p m) (i + 1) = true) (allB_s.2 ⟨h15, alw_iff.2 (by omega)⟩)] at h; exact h)
            | (rw [bI_f (c := allB (fun p => alw V p m) (i + 1) = true) (fun q => by have q2 := alw_iff.1 (allB_s.1 q).2; omega)] at h; exact h)
            | (rw [bI_t (c := allB (fun p => alw V p m) (i + 1) = true) (allB_s.2 ⟨h15, alw_iff.2 (by omega)⟩)] at h; rw [bI_t (c := allB (fun p => alw V p m) i = true) h15]; exact h)
  refine aw_iconst (v := nI 1) e_Mo_canBe_0 (by decide) ?_
  refine aw_ist2 e_Mo_canBe_1 ?_
  refine aw_iconst (v := nI 0) e_Mo_canBe_2 (by decide) ?_
  refine aw_ist3 e_Mo_canBe_3 ?_
  have k0 := k4 0 (by omega)
  rw [bI_t (c := allB (fun p => alw V p m) 0 = true) rfl] at k0
  exact k0
theorem c_Mo_sums {l : Launch} {E : En} {d : Nat} {I : It} {L : Lt} {R : Rt} {Z : Zt} {Q : Qt} {V : Mc} (hS : Sta R) (hC : MC I 0 V) (hW : WF V) {p m : Nat} (hp : p < nP V) (hm : m < 4096) (hQ : Q (some (vi (bI (setl V p m = 1 - pP V p 1)))) I L R Z) : AMet l E (d + 2) M_Mo_sums [vr 9 0, vi (nI p), vi (nI m)] I L R Z Q := by
  have hnb := hW.1.2.1
  have hnp := hW.1.1
  have hnx := hW.1.2.2.1
  have hns := hW.1.2.2.2
  have hpw := hW.2.1 p hp
  have hsl := setl_le V p m
  refine AMet.of mf_Mo_sums rfl (Nat.le_of_ble_eq_true rfl) ?_
  refine aw_aload_n e_Mo_sums_0 rfl ?_
  refine aw_iload_n e_Mo_sums_1 rfl ?_
  refine aw_iload_n e_Mo_sums_2 rfl ?_
  refine aw_cV2 e_Mo_sums_3 ml_Mo_192 mf_Mo_settles mv_Mo_settles (c_Mo_settles hS hC hW (by omega) hm ?_)
  refine aw_iconst (v := nI 1) e_Mo_sums_6 (by decide) ?_
  refine aw_aload_n e_Mo_sums_7 rfl ?_
  refine aw_iload_n e_Mo_sums_8 rfl ?_
  refine aw_cV1 e_Mo_sums_9 ml_Mo_153 mf_Mo_sortOf mv_Mo_sortOf (c_Mo_sortOf hS hC hW hp ?_)
  refine awN_isub e_Mo_sums_12 (by omega) ?_
  refine awN_icmp_ne e_Mo_sums_13 (by omega) (by omega) (fun h13 => ?_) (fun h13 => ?_)
  · refine aw_iconst (v := nI 0) e_Mo_sums_20 (by decide) ?_
    first
      | exact awB_1 e_Mo_sums_21 (by omega) hQ
      | exact awB_0 e_Mo_sums_21 (by omega) hQ
  · refine aw_iconst (v := nI 1) e_Mo_sums_16 (by decide) ?_
    refine aw_goto e_Mo_sums_17 ?_
    first
      | exact awB_1 e_Mo_sums_21 (by omega) hQ
      | exact awB_0 e_Mo_sums_21 (by omega) hQ
theorem c_Mo_summing {l : Launch} {E : En} {d : Nat} {I : It} {L : Lt} {R : Rt} {Z : Zt} {Q : Qt} {V : Mc} (hS : Sta R) (hC : MC I 0 V) (hW : WF V) {m : Nat} (hm : m < 4096) (hQ : Q (some (vi (nI (smg V m)))) I L R Z) : AMet l E (d + 3) M_Mo_summing [vr 9 0, vi (nI m)] I L R Z Q := by
  have hnb := hW.1.2.1
  have hnp := hW.1.1
  have hnx := hW.1.2.2.1
  have hns := hW.1.2.2.2
  rw [smg_c] at hQ
  refine AMet.of mf_Mo_summing rfl (Nat.le_of_ble_eq_true rfl) ?_
  refine aw_iconst (v := nI 0) e_Mo_summing_0 (by decide) ?_
  refine aw_ist2 e_Mo_summing_1 ?_
  refine aw_iconst (v := nI 0) e_Mo_summing_2 (by decide) ?_
  refine aw_ist3 e_Mo_summing_3 ?_
  refine up_loop (P := fun i => AWq l E (d + 3) M_Mo_summing Z 4 [some (vr 9 0), some (vi (nI m)), some (vi (nI (cnt (smP V m) i))), some (vi (nI i))] [] I L R Z Q) (N := nP V) (fun i hi ih => ?_) 0 (by omega)
  try dsimp only
  refine aw_iload_n e_Mo_summing_4 rfl ?_
  refine aw_aload_n e_Mo_summing_5 rfl ?_
  refine aw_getR e_Mo_summing_6 fl_Mo_7 (hS.1 _ _ _ _ rfl) ?_
  refine aw_iconst (v := nI 0) e_Mo_summing_9 (by decide) ?_
  refine aw_ialE e_Mo_summing_10 rfl (show _ < 3110 by omega) (by omega) (by first | exact hC.1.1 | exact hC.1.2.1 | exact hC.1.2.2.1 | exact hC.1.2.2.2 | exact hC.pk (by omega) | exact hC.2.1 _ _ (by omega) (by decide) | exact hC.2.2.1 _ (by omega) | exact hC.2.2.2.1 _ (by omega)) ?_
  refine awN_icmp_ge e_Mo_summing_11 (by omega) (by omega) (fun h11 => ?_) (fun h11 => ?_)
  · refine aw_iload_n e_Mo_summing_46 rfl ?_
    exact aw_iret e_Mo_summing_47 rfl rfl (by rw [show i = nP V by omega]; exact hQ)
  · have hv := hW.2.1 i h11
    refine aw_iload_n e_Mo_summing_14 rfl ?_
    refine aw_aload_n e_Mo_summing_15 rfl ?_
    refine aw_iload_n e_Mo_summing_16 rfl ?_
    refine aw_cV1 e_Mo_summing_17 ml_Mo_116 mf_Mo_kindOf mv_Mo_kindOf (c_Mo_kindOf hS hC hW h11 ?_)
    refine aw_iconst (v := nI 1) e_Mo_summing_20 (by decide) ?_
    refine awN_icmp_ne e_Mo_summing_21 (by omega) (by omega) (fun h21 => ?_) (fun h21 => ?_)
    · refine aw_iconst (v := nI 0) e_Mo_summing_37 (by decide) ?_
      first | refine awN_iadd e_Mo_summing_38 ?_ | refine aw_iadd e_Mo_summing_38 ?_
      first | rw [← cnt_t (P := smP V m) (n := i) (smP_iff.2 ⟨h21, h30⟩)] | rw [Nat.add_zero, ← cnt_f2 (P := smP V m) (n := i) (fun z => h30 (smP_iff.1 z).2)] | rw [Nat.add_zero, ← cnt_f2 (P := smP V m) (n := i) (fun z => h21 (smP_iff.1 z).1)]
      refine aw_ist2 e_Mo_summing_39 ?_
      refine aw_inc3 e_Mo_summing_40 (inc1 _) ?_
      refine aw_goto e_Mo_summing_43 ?_
      exact ih h11
    · refine aw_aload_n e_Mo_summing_24 rfl ?_
      refine aw_iload_n e_Mo_summing_25 rfl ?_
      refine aw_iload_n e_Mo_summing_26 rfl ?_
      refine aw_cV2 e_Mo_summing_27 ml_Mo_195 mf_Mo_sums mv_Mo_sums (c_Mo_sums hS hC hW h11 hm ?_)
      refine awB_eq e_Mo_summing_30 (fun h30 => ?_) (fun h30 => ?_)
      · refine aw_iconst (v := nI 0) e_Mo_summing_37 (by decide) ?_
        first | refine awN_iadd e_Mo_summing_38 ?_ | refine aw_iadd e_Mo_summing_38 ?_
        first | rw [← cnt_t (P := smP V m) (n := i) (smP_iff.2 ⟨h21, h30⟩)] | rw [Nat.add_zero, ← cnt_f2 (P := smP V m) (n := i) (fun z => h30 (smP_iff.1 z).2)] | rw [Nat.add_zero, ← cnt_f2 (P := smP V m) (n := i) (fun z => h21 (smP_iff.1 z).1)]
        refine aw_ist2 e_Mo_summing_39 ?_
        refine aw_inc3 e_Mo_summing_40 (inc1 _) ?_
        refine aw_goto e_Mo_summing_43 ?_
        exact ih h11
      · refine aw_iconst (v := nI 1) e_Mo_summing_33 (by decide) ?_
        refine aw_goto e_Mo_summing_34 ?_
        first | refine awN_iadd e_Mo_summing_38 ?_ | refine aw_iadd e_Mo_summing_38 ?_
        first | rw [← cnt_t (P := smP V m) (n := i) (smP_iff.2 ⟨h21, h30⟩)] | rw [Nat.add_zero, ← cnt_f2 (P := smP V m) (n := i) (fun z => h30 (smP_iff.1 z).2)] | rw [Nat.add_zero, ← cnt_f2 (P := smP V m) (n := i) (fun z => h21 (smP_iff.1 z).1)]
        refine aw_ist2 e_Mo_summing_39 ?_
        refine aw_inc3 e_Mo_summing_40 (inc1 _) ?_
        refine aw_goto e_Mo_summing_43 ?_
        exact ih h11
theorem c_Mo_tied {l : Launch} {E : En} {d : Nat} {I : It} {L : Lt} {R : Rt} {Z : Zt} {Q : Qt} {V : Mc} (hS : Sta R) (hC : MC I 0 V) (hW : WF V) {m : Nat} (hm : m < 4096) (hQ : Q (some (vi (nI (tdS V m (nP V))))) I L R Z) : AMet l E (d + 3) M_Mo_tied [vr 9 0, vi (nI m)] I L R Z Q := by
  have hnb := hW.1.2.1
  have hnp := hW.1.1
  have hnx := hW.1.2.2.1
  have hns := hW.1.2.2.2
  refine AMet.of mf_Mo_tied rfl (Nat.le_of_ble_eq_true rfl) ?_
  refine aw_iconst (v := nI 0) e_Mo_tied_0 (by decide) ?_
  refine aw_ist2 e_Mo_tied_1 ?_
  refine aw_iconst (v := nI 0) e_Mo_tied_2 (by decide) ?_
  refine aw_ist3 e_Mo_tied_3 ?_
  refine up_loop (P := fun i => AWq l E (d + 3) M_Mo_tied Z 4 [some (vr 9 0), some (vi (nI m)), some (vi (nI (tdS V m i))), some (vi (nI i))] [] I L R Z Q) (N := nP V) (fun i hi ih => ?_) 0 (by omega)
  try dsimp only
  refine aw_iload_n e_Mo_tied_4 rfl ?_
  refine aw_aload_n e_Mo_tied_5 rfl ?_
  refine aw_getR e_Mo_tied_6 fl_Mo_7 (hS.1 _ _ _ _ rfl) ?_
  refine aw_iconst (v := nI 0) e_Mo_tied_9 (by decide) ?_
  refine aw_ialE e_Mo_tied_10 rfl (show _ < 3110 by omega) (by omega) (by first | exact hC.1.1 | exact hC.1.2.1 | exact hC.1.2.2.1 | exact hC.1.2.2.2 | exact hC.pk (by omega) | exact hC.2.1 _ _ (by omega) (by decide) | exact hC.2.2.1 _ (by omega) | exact hC.2.2.2.1 _ (by omega)) ?_
  refine awN_icmp_ge e_Mo_tied_11 (by omega) (by omega) (fun h11 => ?_) (fun h11 => ?_)
  · refine aw_iload_n e_Mo_tied_48 rfl ?_
    exact aw_iret e_Mo_tied_49 rfl rfl (by rw [show i = nP V by omega]; exact hQ)
  · have hv := hW.2.1 i h11
    refine aw_iload_n e_Mo_tied_14 rfl ?_
    refine aw_aload_n e_Mo_tied_15 rfl ?_
    refine aw_iload_n e_Mo_tied_16 rfl ?_
    refine aw_cV1 e_Mo_tied_17 ml_Mo_116 mf_Mo_kindOf mv_Mo_kindOf (c_Mo_kindOf hS hC hW h11 ?_)
    refine aw_iconst (v := nI 1) e_Mo_tied_20 (by decide) ?_
    refine awN_icmp_ne e_Mo_tied_21 (by omega) (by omega) (fun h21 => ?_) (fun h21 => ?_)
    · refine aw_iconst (v := nI 0) e_Mo_tied_39 (by decide) ?_
      refine aw_ior e_Mo_tied_40 ?_
      rw [fa_or]
      refine aw_ist2 e_Mo_tied_41 ?_
      refine aw_inc3 e_Mo_tied_42 (inc1 _) ?_
      refine aw_goto e_Mo_tied_45 ?_
      have h := ih h11
      unfold tdS at h
      first
        | (rw [if_pos ⟨h21, h30⟩] at h; exact h)
        | (rw [if_neg (mt And.right (not_not_intro h30))] at h; rw [Nat.or_zero]; exact h)
        | (rw [if_neg (mt And.left h21)] at h; rw [Nat.or_zero]; exact h)
    · refine aw_aload_n e_Mo_tied_24 rfl ?_
      refine aw_iload_n e_Mo_tied_25 rfl ?_
      refine aw_iload_n e_Mo_tied_26 rfl ?_
      refine aw_cV2 e_Mo_tied_27 ml_Mo_195 mf_Mo_sums mv_Mo_sums (c_Mo_sums hS hC hW h11 hm ?_)
      refine awB_ne e_Mo_tied_30 (fun h30 => ?_) (fun h30 => ?_)
      · refine aw_iconst (v := nI 0) e_Mo_tied_39 (by decide) ?_
        refine aw_ior e_Mo_tied_40 ?_
        rw [fa_or]
        refine aw_ist2 e_Mo_tied_41 ?_
        refine aw_inc3 e_Mo_tied_42 (inc1 _) ?_
        refine aw_goto e_Mo_tied_45 ?_
        have h := ih h11
        unfold tdS at h
        first
          | (rw [if_pos ⟨h21, h30⟩] at h; exact h)
          | (rw [if_neg (mt And.right (not_not_intro h30))] at h; rw [Nat.or_zero]; exact h)
          | (rw [if_neg (mt And.left h21)] at h; rw [Nat.or_zero]; exact h)
      · refine aw_iconst (v := nI 1) e_Mo_tied_33 (by decide) ?_
        refine aw_iload_n e_Mo_tied_34 rfl ?_
        refine aw_ishl e_Mo_tied_35 ?_
        rw [shlS (by omega) (by have := pow12 (f := i) (by omega); omega), Nat.one_mul]
        refine aw_goto e_Mo_tied_36 ?_
        refine aw_ior e_Mo_tied_40 ?_
        rw [fa_or]
        refine aw_ist2 e_Mo_tied_41 ?_
        refine aw_inc3 e_Mo_tied_42 (inc1 _) ?_
        refine aw_goto e_Mo_tied_45 ?_
        have h := ih h11
        unfold tdS at h
        first
          | (rw [if_pos ⟨h21, h30⟩] at h; exact h)
          | (rw [if_neg (mt And.right (not_not_intro h30))] at h; rw [Nat.or_zero]; exact h)
          | (rw [if_neg (mt And.left h21)] at h; rw [Nat.or_zero]; exact h)
theorem c_Mo_strokes {l : Launch} {E : En} {d : Nat} {I : It} {L : Lt} {R : Rt} {Z : Zt} {Q : Qt} {V : Mc} (hS : Sta R) (hC : MC I 0 V) (hW : WF V) {x : Int32} (hQ : Q (some (vi (if inR x 4 then strV V (ix x) else -1000000001))) I L R Z) : AMet l E (d + 4) M_Mo_strokes [vr 9 0, vi x] I L R Z Q := by
  have hnb := hW.1.2.1
  have hnp := hW.1.1
  have hnx := hW.1.2.2.1
  have hns := hW.1.2.2.2
  refine AMet.of mf_Mo_strokes rfl (Nat.le_of_ble_eq_true rfl) ?_
  refine aw_iload_n e_Mo_strokes_0 rfl ?_
  refine aw_i2l e_Mo_strokes_1 ?_
  refine aw_lconst (v := lN 0) e_Mo_strokes_2 rfl ?_
  refine aw_ldc2 (v := lN 3) e_Mo_strokes_3 kl_Mo_134 ?_
  refine aw_cS3 e_Mo_strokes_6 ml_Mo_75 mf_Mo_isIn ms_Mo_isIn (c_Mo_isInC (by decide) (by decide) ?_)
  refine awB_ne e_Mo_strokes_9 (fun h9 => ?_) (fun h9 => ?_)
  · have hy2 : inR x 4 := ⟨by omega, by omega⟩
    obtain ⟨j, hj, rfl⟩ := inR_nI hy2
    refine aw_aload_n e_Mo_strokes_15 rfl ?_
    refine aw_cV0 e_Mo_strokes_16 ml_Mo_142 mf_Mo_isWhole mv_Mo_isWhole (c_Mo_isWhole hS hC hW ?_)
    refine awB_ne e_Mo_strokes_19 (fun h19 => ?_) (fun h19 => ?_)
    · have hE : ∀ p, p < nP V → 1 ≤ ends V p := fun p hp => want_p (whole_w h19 hp)
      have hp2 : 2 ^ nB V ≤ 4096 := pow4096 hW
      refine aw_iconst (v := -1) e_Mo_strokes_25 (by decide) ?_
      refine aw_ist2 e_Mo_strokes_26 ?_
      refine aw_iconst (v := nI 0) e_Mo_strokes_27 (by decide) ?_
      refine aw_ist3 e_Mo_strokes_28 ?_
      refine aw_iconst (v := nI 0) e_Mo_strokes_29 (by decide) ?_
      refine aw_ist4 e_Mo_strokes_30 ?_
      have e0 : bestI V 0 = -1 := rfl
      rw [← e0]
      refine up_loop (P := fun m => AWq l E (d + 4) M_Mo_strokes Z 32 [some (vr 9 0), some (vi (nI j)), some (vi (bestI V m)), some (vi (nI (svS V m).1)), some (vi (nI m))] [] I L R Z Q) (N := 2 ^ nB V) (fun m hm ih => ?_) 0 (Nat.zero_le _)
      refine aw_iload e_Mo_strokes_32 rfl ?_
      refine aw_iconst (v := nI 1) e_Mo_strokes_34 (by decide) ?_
      refine aw_aload_n e_Mo_strokes_35 rfl ?_
      refine aw_getR e_Mo_strokes_36 fl_Mo_7 (hS.1 _ _ _ _ rfl) ?_
      refine aw_iconst (v := nI 1) e_Mo_strokes_39 (by decide) ?_
      refine aw_ialE e_Mo_strokes_40 rfl (show _ < 3110 by omega) (by omega) (by first | exact hC.1.1 | exact hC.1.2.1 | exact hC.1.2.2.1 | exact hC.1.2.2.2 | exact hC.pk (by omega) | exact hC.2.1 _ _ (by omega) (by decide) | exact hC.2.2.1 _ (by omega) | exact hC.2.2.2.1 _ (by omega)) ?_
      refine aw_ishl e_Mo_strokes_41 ?_
      rw [shlS (by omega) (by omega), Nat.one_mul]
      refine awN_icmp_ge e_Mo_strokes_42 (by omega) (by omega) (fun h42 => ?_) (fun h42 => ?_)
      · have hme : m = 2 ^ nB V := by omega
        subst hme
        have hsb := svS_b V (2 ^ nB V)
        have hpp : 0 < 2 ^ nB V := Nat.pow_pos (by decide)
        have hsl := sv_lt (V := V) hpp
        refine aw_iload_n e_Mo_strokes_91 rfl ?_
        refine aw_iconst (v := nI 3) e_Mo_strokes_92 (by decide) ?_
        refine awN_icmp_ne e_Mo_strokes_93 (by omega) (by omega) (fun h93 => ?_) (fun h93 => ?_)
        · refine aw_iload_n e_Mo_strokes_98 rfl ?_
          refine awZ_if_ge e_Mo_strokes_99 (fun h99 => ?_) (fun h99 => ?_)
          · have hz : ¬ (svS V (2 ^ nB V)).1 = 0 := fun z => by have := (be_neg (V := V) (m := 2 ^ nB V) (by omega)).2 z; omega
            rw [be_n hz]
            refine aw_iload_n e_Mo_strokes_107 rfl ?_
            refine awN_if_ne e_Mo_strokes_108 (by omega) (fun h108 => ?_) (fun h108 => ?_)
            · refine aw_iload_n e_Mo_strokes_115 rfl ?_
              refine aw_iconst (v := nI 1) e_Mo_strokes_116 (by decide) ?_
              refine awN_icmp_ne e_Mo_strokes_117 (by omega) (by omega) (fun h117 => ?_) (fun h117 => ?_)
              · refine aw_aload_n e_Mo_strokes_128 rfl ?_
                refine aw_iload_n e_Mo_strokes_129 rfl ?_
                refine aw_cV1 e_Mo_strokes_130 ml_Mo_205 mf_Mo_tied mv_Mo_tied (c_Mo_tied hS hC hW (by omega) ?_)
                rw [if_pos hy2, ix_n (j := j) (by omega)] at hQ
                unfold strV at hQ
                first
                  | (rw [if_pos h19, if_neg h93, if_pos hz] at hQ; exact aw_iret e_Mo_strokes_133 rfl rfl hQ)
                  | (rw [if_pos h19, if_neg h93, if_neg hz, if_pos h108] at hQ; exact aw_iret e_Mo_strokes_133 rfl rfl hQ)
                  | (rw [if_pos h19, if_neg h93, if_neg hz, if_neg h108, if_pos h117, (svS_i V (2 ^ nB V)).2 hz, pm_s] at hQ; exact aw_iret e_Mo_strokes_133 rfl rfl hQ)
                  | (rw [if_pos h19, if_neg h93, if_neg hz, if_neg h108, if_neg h117] at hQ; exact aw_iret e_Mo_strokes_133 rfl rfl hQ)
              · refine aw_aload_n e_Mo_strokes_120 rfl ?_
                refine aw_iload_n e_Mo_strokes_121 rfl ?_
                refine aw_cV1 e_Mo_strokes_122 ml_Mo_201 mf_Mo_summing mv_Mo_summing (c_Mo_summing hS hC hW (by omega) ?_)
                refine aw_goto e_Mo_strokes_125 ?_
                rw [if_pos hy2, ix_n (j := j) (by omega)] at hQ
                unfold strV at hQ
                first
                  | (rw [if_pos h19, if_neg h93, if_pos hz] at hQ; exact aw_iret e_Mo_strokes_133 rfl rfl hQ)
                  | (rw [if_pos h19, if_neg h93, if_neg hz, if_pos h108] at hQ; exact aw_iret e_Mo_strokes_133 rfl rfl hQ)
                  | (rw [if_pos h19, if_neg h93, if_neg hz, if_neg h108, if_pos h117, (svS_i V (2 ^ nB V)).2 hz, pm_s] at hQ; exact aw_iret e_Mo_strokes_133 rfl rfl hQ)
                  | (rw [if_pos h19, if_neg h93, if_neg hz, if_neg h108, if_neg h117] at hQ; exact aw_iret e_Mo_strokes_133 rfl rfl hQ)
            · refine aw_iload_n e_Mo_strokes_111 rfl ?_
              refine aw_goto e_Mo_strokes_112 ?_
              rw [if_pos hy2, ix_n (j := j) (by omega)] at hQ
              unfold strV at hQ
              first
                | (rw [if_pos h19, if_neg h93, if_pos hz] at hQ; exact aw_iret e_Mo_strokes_133 rfl rfl hQ)
                | (rw [if_pos h19, if_neg h93, if_neg hz, if_pos h108] at hQ; exact aw_iret e_Mo_strokes_133 rfl rfl hQ)
                | (rw [if_pos h19, if_neg h93, if_neg hz, if_neg h108, if_pos h117, (svS_i V (2 ^ nB V)).2 hz, pm_s] at hQ; exact aw_iret e_Mo_strokes_133 rfl rfl hQ)
                | (rw [if_pos h19, if_neg h93, if_neg hz, if_neg h108, if_neg h117] at hQ; exact aw_iret e_Mo_strokes_133 rfl rfl hQ)
          · have hz := (be_neg (V := V) (m := 2 ^ nB V) (by omega)).1 (by omega)
            refine aw_ldc (v := -1000000007) e_Mo_strokes_102 kc_Mo_204 ?_
            refine aw_goto e_Mo_strokes_104 ?_
            rw [if_pos hy2, ix_n (j := j) (by omega)] at hQ
            unfold strV at hQ
            first
              | (rw [if_pos h19, if_neg h93, if_pos hz] at hQ; exact aw_iret e_Mo_strokes_133 rfl rfl hQ)
              | (rw [if_pos h19, if_neg h93, if_neg hz, if_pos h108] at hQ; exact aw_iret e_Mo_strokes_133 rfl rfl hQ)
              | (rw [if_pos h19, if_neg h93, if_neg hz, if_neg h108, if_pos h117, (svS_i V (2 ^ nB V)).2 hz, pm_s] at hQ; exact aw_iret e_Mo_strokes_133 rfl rfl hQ)
              | (rw [if_pos h19, if_neg h93, if_neg hz, if_neg h108, if_neg h117] at hQ; exact aw_iret e_Mo_strokes_133 rfl rfl hQ)
        · refine aw_iload_n e_Mo_strokes_96 rfl ?_
          rw [if_pos hy2, ix_n (j := j) (by omega)] at hQ
          unfold strV at hQ
          first
            | (rw [if_pos h19, if_pos h93] at hQ; exact aw_iret e_Mo_strokes_97 rfl rfl hQ)
      · have hsb := svS_b V m
        refine aw_aload_n e_Mo_strokes_45 rfl ?_
        refine aw_iload e_Mo_strokes_46 rfl ?_
        refine aw_cV1 e_Mo_strokes_48 ml_Mo_198 mf_Mo_canBe mv_Mo_canBe (c_Mo_canBe hS hC hW hE (by omega) ?_)
        refine awB_ne e_Mo_strokes_51 (fun h51 => ?_) (fun h51 => ?_)
        · refine aw_inc3 e_Mo_strokes_57 (inc1 _) ?_
          refine aw_iload_n e_Mo_strokes_60 rfl ?_
          refine awZ_if_lt e_Mo_strokes_61 (fun h61 => ?_) (fun h61 => ?_)
          · have hz := (be_neg (V := V) (m := m) (by omega)).1 h61
            refine aw_iload e_Mo_strokes_78 rfl ?_
            refine aw_goto e_Mo_strokes_80 ?_
            refine aw_ist2 e_Mo_strokes_84 ?_
            refine aw_inc4 e_Mo_strokes_85 (inc1 _) ?_
            refine aw_goto e_Mo_strokes_88 ?_
            have h := ih h42
            first
              | (rw [sv_f h51, be_f h51] at h; exact h)
              | (rw [sv1_t h51, be_t h51 (by have := (svS_i V m).1 hz; omega)] at h; exact h)
              | (rw [sv1_t h51, be_t h51 (by omega)] at h; exact h)
              | (rw [sv1_t h51, be_k h51 (by omega)] at h; exact h)
          · have hz : ¬ (svS V m).1 = 0 := fun z => h61 ((be_neg (V := V) (m := m) (by omega)).2 z)
            rw [be_n hz]
            have hsi := (svS_i V m).2 hz
            have hsm1 := smg_le V m
            have hsm2 := smg_le V (svS V m).2.1
            refine aw_aload_n e_Mo_strokes_64 rfl ?_
            refine aw_iload e_Mo_strokes_65 rfl ?_
            refine aw_cV1 e_Mo_strokes_67 ml_Mo_201 mf_Mo_summing mv_Mo_summing (c_Mo_summing hS hC hW (by omega) ?_)
            refine aw_aload_n e_Mo_strokes_70 rfl ?_
            refine aw_iload_n e_Mo_strokes_71 rfl ?_
            refine aw_cV1 e_Mo_strokes_72 ml_Mo_201 mf_Mo_summing mv_Mo_summing (c_Mo_summing hS hC hW (by omega) ?_)
            refine awN_icmp_le e_Mo_strokes_75 (by omega) (by omega) (fun h75 => ?_) (fun h75 => ?_)
            · refine aw_iload_n e_Mo_strokes_83 rfl ?_
              refine aw_ist2 e_Mo_strokes_84 ?_
              refine aw_inc4 e_Mo_strokes_85 (inc1 _) ?_
              refine aw_goto e_Mo_strokes_88 ?_
              have h := ih h42
              first
                | (rw [sv_f h51, be_f h51] at h; exact h)
                | (rw [sv1_t h51, be_t h51 (by have := (svS_i V m).1 hz; omega)] at h; exact h)
                | (rw [sv1_t h51, be_t h51 (by omega)] at h; exact h)
                | (rw [sv1_t h51, be_k h51 (by omega)] at h; exact h)
            · refine aw_iload e_Mo_strokes_78 rfl ?_
              refine aw_goto e_Mo_strokes_80 ?_
              refine aw_ist2 e_Mo_strokes_84 ?_
              refine aw_inc4 e_Mo_strokes_85 (inc1 _) ?_
              refine aw_goto e_Mo_strokes_88 ?_
              have h := ih h42
              first
                | (rw [sv_f h51, be_f h51] at h; exact h)
                | (rw [sv1_t h51, be_t h51 (by have := (svS_i V m).1 hz; omega)] at h; exact h)
                | (rw [sv1_t h51, be_t h51 (by omega)] at h; exact h)
                | (rw [sv1_t h51, be_k h51 (by omega)] at h; exact h)
        · refine aw_goto e_Mo_strokes_54 ?_
          refine aw_inc4 e_Mo_strokes_85 (inc1 _) ?_
          refine aw_goto e_Mo_strokes_88 ?_
          have h := ih h42
          first
            | (rw [sv_f h51, be_f h51] at h; exact h)
            | (rw [sv1_t h51, be_t h51 (by have := (svS_i V m).1 hz; omega)] at h; exact h)
            | (rw [sv1_t h51, be_t h51 (by omega)] at h; exact h)
            | (rw [sv1_t h51, be_k h51 (by omega)] at h; exact h)
    · refine aw_ldc (v := -1000000002) e_Mo_strokes_22 kc_Mo_94 ?_
      rw [if_pos hy2, ix_n (j := j) (by omega)] at hQ
      unfold strV at hQ
      first
        | (rw [if_neg h19] at hQ; exact aw_iret e_Mo_strokes_24 rfl rfl hQ)
  · refine aw_ldc (v := -1000000001) e_Mo_strokes_12 kc_Mo_89 ?_
    rw [if_neg (fun w => h9 ⟨w.1, by have := w.2; omega⟩)] at hQ
    exact aw_iret e_Mo_strokes_14 rfl rfl hQ
theorem c_Mo_strokesO {l : Launch} {E : En} {d : Nat} {I : It} {L : Lt} {R : Rt} {Z : Zt} {Q : Qt} {S : AS} (hS : Sta R) (hM : MSt I S) (hA : AWF S) {x : Int32} (hQ : ∀ I2 L2, MSt I2 (op_strokes S x).1 → fK I I2 → Q (some (vi (op_strokes S x).2)) I2 L2 R Z) : AMet l E (d + 4) M_Mo_strokes [vr 9 0, vi x] I L R Z Q :=
  c_Mo_strokes hS hM.1 hA.1.1 (hQ I L hM fK_0)
theorem c_Mo_can {l : Launch} {E : En} {d : Nat} {I : It} {L : Lt} {R : Rt} {Z : Zt} {Q : Qt} {S : AS} (hS : Sta R) (hM : MSt I S) (hA : AWF S) {x : Int32} (hQ : ∀ I2 L2, MSt I2 (op_can S x).1 → fK I I2 → Q (some (vi (op_can S x).2)) I2 L2 R Z) : AMet l E (d + 4) M_Mo_can [vr 9 0, vi x] I L R Z Q := by
  have hC := hM.1
  have hW := hA.1.1
  have hnb := hW.1.2.1
  have hnp := hW.1.1
  have hnx := hW.1.2.2.1
  have hns := hW.1.2.2.2
  have hp2 : 2 ^ nB (sM S) ≤ 4096 := pow4096 hW
  have hpp : 0 < 2 ^ nB (sM S) := Nat.pow_pos (by decide)
  refine AMet.of mf_Mo_can rfl (Nat.le_of_ble_eq_true rfl) ?_
  refine aw_iload_n e_Mo_can_0 rfl ?_
  refine aw_i2l e_Mo_can_1 ?_
  refine aw_lconst (v := lN 0) e_Mo_can_2 rfl ?_
  refine aw_iconst (v := nI 1) e_Mo_can_3 (by decide) ?_
  refine aw_aload_n e_Mo_can_4 rfl ?_
  refine aw_getR e_Mo_can_5 fl_Mo_7 (hS.1 _ _ _ _ rfl) ?_
  refine aw_iconst (v := nI 1) e_Mo_can_8 (by decide) ?_
  refine aw_ialE e_Mo_can_9 rfl (show _ < 3110 by omega) (by omega) (by first | exact hC.1.1 | exact hC.1.2.1 | exact hC.1.2.2.1 | exact hC.1.2.2.2 | exact hC.pk (by omega) | exact hC.2.1 _ _ (by omega) (by decide) | exact hC.2.2.1 _ (by omega) | exact hC.2.2.2.1 _ (by omega)) ?_
  refine aw_ishl e_Mo_can_10 ?_
  rw [shlS (by omega) (by omega), Nat.one_mul]
  refine aw_iconst (v := nI 1) e_Mo_can_11 (by decide) ?_
  refine aw_isub e_Mo_can_12 ?_
  rw [pm_sub]
  refine aw_i2l e_Mo_can_13 ?_
  refine aw_cS3 e_Mo_can_14 ml_Mo_75 mf_Mo_isIn ms_Mo_isIn (c_Mo_isInP (by omega) ?_)
  refine awB_ne e_Mo_can_17 (fun h17 => ?_) (fun h17 => ?_)
  · obtain ⟨m, hm, rfl⟩ := inR_nI h17
    refine aw_aload_n e_Mo_can_23 rfl ?_
    refine aw_cV0 e_Mo_can_24 ml_Mo_142 mf_Mo_isWhole mv_Mo_isWhole (c_Mo_isWhole hS hC hW ?_)
    refine awB_ne e_Mo_can_27 (fun h27 => ?_) (fun h27 => ?_)
    · refine aw_aload_n e_Mo_can_35 rfl ?_
      refine aw_iload_n e_Mo_can_36 rfl ?_
      refine aw_cV1 e_Mo_can_37 ml_Mo_198 mf_Mo_canBe mv_Mo_canBe (c_Mo_canBe hS hC hW (fun p hp => want_p (whole_w h27 hp)) (by omega) ?_)
      refine awB_eq e_Mo_can_40 (fun h40 => ?_) (fun h40 => ?_)
      · refine aw_iconst (v := nI 0) e_Mo_can_47 (by decide) ?_
        have hq := hQ I L hM fK_0
        unfold op_can at hq
        first
          | (rw [if_pos h17, if_neg h27] at hq; exact aw_iret e_Mo_can_48 rfl rfl hq)
          | (rw [if_pos h17, if_pos h27, ix_n (j := m) (by omega)] at hq; exact awB_1 e_Mo_can_48 h40 hq)
          | (rw [if_pos h17, if_pos h27, ix_n (j := m) (by omega)] at hq; exact awB_0 e_Mo_can_48 h40 hq)
      · refine aw_iconst (v := nI 1) e_Mo_can_43 (by decide) ?_
        refine aw_goto e_Mo_can_44 ?_
        have hq := hQ I L hM fK_0
        unfold op_can at hq
        first
          | (rw [if_pos h17, if_neg h27] at hq; exact aw_iret e_Mo_can_48 rfl rfl hq)
          | (rw [if_pos h17, if_pos h27, ix_n (j := m) (by omega)] at hq; exact awB_1 e_Mo_can_48 h40 hq)
          | (rw [if_pos h17, if_pos h27, ix_n (j := m) (by omega)] at hq; exact awB_0 e_Mo_can_48 h40 hq)
    · refine aw_ldc (v := -1000000002) e_Mo_can_30 kc_Mo_94 ?_
      refine aw_goto e_Mo_can_32 ?_
      have hq := hQ I L hM fK_0
      unfold op_can at hq
      first
        | (rw [if_pos h17, if_neg h27] at hq; exact aw_iret e_Mo_can_48 rfl rfl hq)
        | (rw [if_pos h17, if_pos h27, ix_n (j := m) (by omega)] at hq; exact awB_1 e_Mo_can_48 h40 hq)
        | (rw [if_pos h17, if_pos h27, ix_n (j := m) (by omega)] at hq; exact awB_0 e_Mo_can_48 h40 hq)
  · refine aw_ldc (v := -1000000001) e_Mo_can_20 kc_Mo_89 ?_
    have hq := hQ I L hM fK_0
    unfold op_can at hq
    rw [if_neg h17] at hq
    exact aw_iret e_Mo_can_22 rfl rfl hq
