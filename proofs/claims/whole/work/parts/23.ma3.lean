/-! ===== Machine: copies, steps ===== -/
theorem Sta.keep {R R2 : Rt} (h : Sta R) (hR : ∀ t i, t ≠ 13 → t ≠ 16 → t ≠ 7 → R2 t i = R t i) : Sta R2 := by
  obtain ⟨h1, h2, h3, h4⟩ := h
  refine ⟨fun t i f q hq => ?_, fun k j hk hj => ?_, fun j hj => ?_, fun j hj => ?_⟩
  · have e : t ≠ 13 ∧ t ≠ 16 ∧ t ≠ 7 := by
      refine ⟨?_, ?_, ?_⟩ <;> (intro e; subst e; cases hq)
    rw [hR t i e.1 e.2.1 e.2.2]
    exact h1 t i f q hq
  · rw [hR 10 k (by decide) (by decide) (by decide)]; exact h2 k j hk hj
  · rw [hR 24 0 (by decide) (by decide) (by decide)]; exact h3 j hj
  · rw [hR 25 0 (by decide) (by decide) (by decide)]; exact h4 j hj
theorem own_ne {k k2 t i : Nat} (h : k ≠ k2) (h1 : own k t i) : ¬ own k2 t i := by unfold own at *; omega
theorem own_t {k t i : Nat} (h1 : own k t i) : t = 2 ∨ t = 3 ∨ t = 11 ∨ t = 12 ∨ t = 13 := by unfold own at h1; omega
theorem CM.off {I I2 : It} {R R2 : Rt} {Z : Zt} {k k2 : Nat} {V : Mc} (h : CM I R Z k2 V) (hW : WF V) (hne : k ≠ k2) (hI : ∀ t i, ¬ own k t i → I2 t i = I t i) (hR : ∀ t i, ¬ (t = 13 ∧ i = k) → R2 t i = R t i) : CM I2 R2 Z k2 V :=
  h.keep hW (fun t i hti => hI t i (fun q => hti.elim (own_ne hne q) (fun z => by have := own_t q; omega))) (fun t i hti => hR t i (fun q => by unfold own at hti; omega))
theorem c_Ma_takeFrom {l : Launch} {E : En} {d : Nat} {I : It} {L : Lt} {R : Rt} {Z : Zt} {Q : Qt} {k k2 : Nat} {V : Mc} (hS : Sta R) (hk : k < 3) (hk2 : k2 < 3) (hne : k ≠ k2) (hC : CM I R Z k2 V) (hW : WF V) (hQ : ∀ I2 R2, CM I2 R2 Z k V → (∀ t i, ¬ own k t i → I2 t i = I t i) → (∀ t i, ¬ (t = 13 ∧ i = k) → R2 t i = R t i) → Q none I2 L R2 Z) : AMet l E (d + 1) M_Ma_takeFrom [vr 2 k, vr 2 k2] I L R Z Q := by
  have hnb := hW.1.2.1
  have hnp := hW.1.1
  have hnx := hW.1.2.2.1
  have hns := hW.1.2.2.2
  refine AMet.of mf_Ma_takeFrom rfl (Nat.le_of_ble_eq_true rfl) ?_
  refine aw_iconst (v := nI 0) e_Ma_takeFrom_0 (by decide) ?_
  refine aw_ist2 e_Ma_takeFrom_1 ?_
  refine up_loop (P := fun i => ∀ I1, (∀ t j, ¬ own k t j → I1 t j = I t j) ∧ (∀ p f, p < i → f < 5 → I1 3 (12 * k + p) f = nI (pP V p f)) → AWq l E (d + 1) M_Ma_takeFrom Z 2 [some (vr 2 k), some (vr 2 k2), some (vi (nI i))] [] I1 L R Z Q) (N := nP V) (fun i hi ih I1 hv => ?_) 0 (Nat.zero_le _) I ⟨fun _ _ _ => rfl, fun p f hp => absurd hp (Nat.not_lt_zero p)⟩
  have hC1 : CM I1 R Z k2 V := hC.off hW hne hv.1 (fun _ _ _ => rfl)
  refine aw_iload_n e_Ma_takeFrom_2 rfl ?_
  refine aw_aload_n e_Ma_takeFrom_3 rfl ?_
  refine aw_getE e_Ma_takeFrom_4 fl_Ma_31 hC1.1.1 ?_
  refine awN_icmp_ge e_Ma_takeFrom_7 (by omega) (by omega) (fun h7 => ?_) (fun h7 => ?_)
  · refine aw_iconst (v := nI 0) e_Ma_takeFrom_31 (by decide) ?_
    refine aw_ist2 e_Ma_takeFrom_32 ?_
    have hiN : i = nP V := by omega
    clear ih
    subst hiN
    clear hC1
    refine up_loop (P := fun i => ∀ I1, (∀ t j, ¬ own k t j → I1 t j = I t j) ∧ (∀ p f, p < nP V → f < 5 → I1 3 (12 * k + p) f = nI (pP V p f)) ∧ (∀ b, b < i → I1 11 k b = nI (bF V b) ∧ I1 12 k b = nI (bT V b)) → AWq l E (d + 1) M_Ma_takeFrom Z 33 [some (vr 2 k), some (vr 2 k2), some (vi (nI i))] [] I1 L R Z Q) (N := nB V) (fun i hi ih I1 hv => ?_) 0 (Nat.zero_le _) I1 ⟨hv.1, hv.2, fun b hb => absurd hb (Nat.not_lt_zero b)⟩
    have hC1 : CM I1 R Z k2 V := hC.off hW hne hv.1 (fun _ _ _ => rfl)
    refine aw_iload_n e_Ma_takeFrom_33 rfl ?_
    refine aw_aload_n e_Ma_takeFrom_34 rfl ?_
    refine aw_getE e_Ma_takeFrom_35 fl_Ma_39 hC1.1.2.1 ?_
    refine awN_icmp_ge e_Ma_takeFrom_38 (by omega) (by omega) (fun h38 => ?_) (fun h38 => ?_)
    · refine aw_iconst (v := nI 0) e_Ma_takeFrom_71 (by decide) ?_
      refine aw_ist2 e_Ma_takeFrom_72 ?_
      have hiN : i = nB V := by omega
      clear ih
      subst hiN
      clear hC1
      refine up_loop (P := fun i => ∀ R1, (∀ t j, ¬ (t = 13 ∧ j = k) → R1 t j = R t j) ∧ (∀ j, j < i → R1 13 k j = R 13 k2 j) → AWq l E (d + 1) M_Ma_takeFrom Z 73 [some (vr 2 k), some (vr 2 k2), some (vi (nI i))] [] I1 L R1 Z Q) (N := nX V) (fun i hi ih R1 hr => ?_) 0 (Nat.zero_le _) R ⟨fun _ _ _ => rfl, fun j hj => absurd hj (Nat.not_lt_zero j)⟩
      have hC1 : CM I1 R1 Z k2 V := hC.off hW hne hv.1 hr.1
      have hS := hS.keep (fun t i h1 _ _ => hr.1 t i (fun z => h1 z.1))
      refine aw_iload_n e_Ma_takeFrom_73 rfl ?_
      refine aw_aload_n e_Ma_takeFrom_74 rfl ?_
      refine aw_getE e_Ma_takeFrom_75 fl_Ma_42 hC1.1.2.2.1 ?_
      refine awN_icmp_ge e_Ma_takeFrom_78 (by omega) (by omega) (fun h78 => ?_) (fun h78 => ?_)
      · refine aw_aload_n e_Ma_takeFrom_99 rfl ?_
        refine aw_aload_n e_Ma_takeFrom_100 rfl ?_
        refine aw_getE e_Ma_takeFrom_101 fl_Ma_31 hC1.1.1 ?_
        refine aw_putI e_Ma_takeFrom_104 fl_Ma_31 ?_
        refine aw_aload_n e_Ma_takeFrom_107 rfl ?_
        refine aw_aload_n e_Ma_takeFrom_108 rfl ?_
        refine aw_getE e_Ma_takeFrom_109 fl_Ma_39 (x := nI (nB V)) (by rw [sI_n (by omega)]; exact hC1.1.2.1) ?_
        refine aw_putI e_Ma_takeFrom_112 fl_Ma_39 ?_
        refine aw_aload_n e_Ma_takeFrom_115 rfl ?_
        refine aw_aload_n e_Ma_takeFrom_116 rfl ?_
        refine aw_getE e_Ma_takeFrom_117 fl_Ma_42 (x := nI (nX V)) (by rw [sI_n (by omega), sI_n (by omega)]; exact hC1.1.2.2.1) ?_
        refine aw_putI e_Ma_takeFrom_120 fl_Ma_42 ?_
        refine aw_aload_n e_Ma_takeFrom_123 rfl ?_
        refine aw_aload_n e_Ma_takeFrom_124 rfl ?_
        refine aw_getE e_Ma_takeFrom_125 fl_Ma_45 (x := nI (nS V)) (by rw [sI_n (by omega), sI_n (by omega), sI_n (by omega)]; exact hC1.1.2.2.2) ?_
        refine aw_putI e_Ma_takeFrom_128 fl_Ma_45 ?_
        refine aw_vret e_Ma_takeFrom_131 rfl (hQ _ R1 ⟨⟨?_, ?_, ?_, ?_⟩, fun p f hp hf => ?_, fun b hb => ?_, fun b hb => ?_, fun j hj => ?_⟩ (fun t j hj => ?_) hr.1)
        · rw [sI_s, upd, if_neg (by decide), sI_s, upd, if_neg (by decide), sI_s, upd, if_neg (by decide), sI_s, upd, if_pos rfl]
        · rw [sI_s, upd, if_neg (by decide), sI_s, upd, if_neg (by decide), sI_s, upd, if_pos rfl]
        · rw [sI_s, upd, if_neg (by decide), sI_s, upd, if_pos rfl]
        · rw [sI_s, upd, if_pos rfl]
        · rw [sI_n (by omega), sI_n (by omega), sI_n (by omega), sI_n (by omega)]
          exact hv.2.1 p f hp hf
        · rw [sI_n (by omega), sI_n (by omega), sI_n (by omega), sI_n (by omega)]
          exact (hv.2.2 b hb).1
        · rw [sI_n (by omega), sI_n (by omega), sI_n (by omega), sI_n (by omega)]
          exact (hv.2.2 b hb).2
        · obtain ⟨x, r1, r2⟩ := hC.2.2.2.2 j hj
          refine ⟨x, by rw [hr.2 j (by omega)]; exact r1, r2.keep ⟨?_, ?_⟩ (hr.1 7 x (by omega)) rfl⟩
          · rw [sI_n (by omega), sI_n (by omega), sI_n (by omega), sI_n (by omega)]
            exact hv.1 7 x (by unfold own; omega)
          · rw [sI_n (by omega), sI_n (by omega), sI_n (by omega), sI_n (by omega)]
            exact hv.1 27 x (by unfold own; omega)
        · rw [sI_n (fun z => hj (by unfold own; omega)), sI_n (fun z => hj (by unfold own; omega)), sI_n (fun z => hj (by unfold own; omega)), sI_n (fun z => hj (by unfold own; omega))]
          exact hv.1 t j hj
      · obtain ⟨x, r1, r2⟩ := hC1.2.2.2.2 i h78
        refine aw_aload_n e_Ma_takeFrom_81 rfl ?_
        refine aw_getR e_Ma_takeFrom_82 fl_Ma_26 (hS.1 _ _ _ _ rfl) ?_
        refine aw_iload_n e_Ma_takeFrom_85 rfl ?_
        refine aw_aload_n e_Ma_takeFrom_86 rfl ?_
        refine aw_getR e_Ma_takeFrom_87 fl_Ma_26 (hS.1 _ _ _ _ rfl) ?_
        refine aw_iload_n e_Ma_takeFrom_90 rfl ?_
        refine aw_aald e_Ma_takeFrom_91 rfl (show _ < 14 by omega) (by omega) r1 ?_
        refine aw_aast e_Ma_takeFrom_92 rfl (show _ < 14 by omega) (by omega) ?_
        refine aw_inc2 e_Ma_takeFrom_93 (inc1 _) ?_
        refine aw_goto e_Ma_takeFrom_96 ?_
        refine ih h78 _ ⟨fun t j hj => ?_, fun j hj => ?_⟩
        · rw [sR_n (fun z => hj z)]
          exact hr.1 t j hj
        · rw [sR_s]
          unfold va_up
          by_cases e : j = i
          · rw [if_pos e, e, ← r1]
            rw [hr.1 13 k2 (by omega)]
          · rw [if_neg e]
            exact hr.2 j (by omega)
    · refine aw_aload_n e_Ma_takeFrom_41 rfl ?_
      refine aw_getR e_Ma_takeFrom_42 fl_Ma_17 (hS.1 _ _ _ _ rfl) ?_
      refine aw_iload_n e_Ma_takeFrom_45 rfl ?_
      refine aw_aload_n e_Ma_takeFrom_46 rfl ?_
      refine aw_getR e_Ma_takeFrom_47 fl_Ma_17 (hS.1 _ _ _ _ rfl) ?_
      refine aw_iload_n e_Ma_takeFrom_50 rfl ?_
      refine aw_ialE e_Ma_takeFrom_51 rfl (show _ < 12 by omega) (by omega) (hC1.2.2.1 _ (by omega)) ?_
      refine aw_iast e_Ma_takeFrom_52 rfl (show _ < 12 by omega) (by omega) ?_
      refine aw_aload_n e_Ma_takeFrom_53 rfl ?_
      refine aw_getR e_Ma_takeFrom_54 fl_Ma_21 (hS.1 _ _ _ _ rfl) ?_
      refine aw_iload_n e_Ma_takeFrom_57 rfl ?_
      refine aw_aload_n e_Ma_takeFrom_58 rfl ?_
      refine aw_getR e_Ma_takeFrom_59 fl_Ma_21 (hS.1 _ _ _ _ rfl) ?_
      refine aw_iload_n e_Ma_takeFrom_62 rfl ?_
      refine aw_ialE e_Ma_takeFrom_63 rfl (show _ < 12 by omega) (by omega) (y := nI (bT V i)) (by rw [sI_n (by omega)]; exact hC1.2.2.2.1 i h38) ?_
      refine aw_iast e_Ma_takeFrom_64 rfl (show _ < 12 by omega) (by omega) ?_
      refine aw_inc2 e_Ma_takeFrom_65 (inc1 _) ?_
      refine aw_goto e_Ma_takeFrom_68 ?_
      refine ih h38 _ ⟨fun t j hj => ?_, fun p f hp hf => ?_, fun b hb => ⟨?_, ?_⟩⟩
      · rw [sI_n (fun z => hj (by unfold own; omega)), sI_n (fun z => hj (by unfold own; omega))]
        exact hv.1 t j hj
      · rw [sI_n (by omega), sI_n (by omega)]
        exact hv.2.1 p f hp hf
      · rw [sI_n (by omega), sI_s]
        unfold upd
        by_cases e : b = i
        · rw [if_pos e, e]
        · rw [if_neg e]
          exact (hv.2.2 b (by omega)).1
      · rw [sI_s]
        unfold upd
        by_cases e : b = i
        · rw [if_pos e, e]
        · rw [if_neg e, sI_n (by omega)]
          exact (hv.2.2 b (by omega)).2
  · refine aw_aload_n e_Ma_takeFrom_10 rfl ?_
    refine aw_getR e_Ma_takeFrom_11 fl_Ma_11 (hS.1 _ _ _ _ rfl) ?_
    refine aw_iload_n e_Ma_takeFrom_14 rfl ?_
    refine aw_aald e_Ma_takeFrom_15 rfl (show _ < 12 by omega) (by omega) (hS.2.1 _ _ (by omega) (by omega)) ?_
    refine aw_aload_n e_Ma_takeFrom_16 rfl ?_
    refine aw_getR e_Ma_takeFrom_17 fl_Ma_11 (hS.1 _ _ _ _ rfl) ?_
    refine aw_iload_n e_Ma_takeFrom_20 rfl ?_
    refine aw_aald e_Ma_takeFrom_21 rfl (show _ < 12 by omega) (by omega) (hS.2.1 _ _ (by omega) (by omega)) ?_
    refine aw_cV1 e_Ma_takeFrom_22 ml_Ma_35 mf_Pa_takeFrom mv_Pa_takeFrom (c_Pa_takeFrom (by omega) (fun f hf => hC1.2.1 i f h7 hf) ?_)
    refine aw_inc2 e_Ma_takeFrom_25 (inc1 _) ?_
    refine aw_goto e_Ma_takeFrom_28 ?_
    refine ih h7 _ ⟨fun t j hj => ?_, fun p f hp hf => ?_⟩
    · rw [wP_n (fun z => hj (by unfold own; omega))]
      exact hv.1 t j hj
    · by_cases e : p = i
      · subst e
        exact wP_s hf
      · rw [wP_n (by omega)]
        exact hv.2 p f (by omega) hf
