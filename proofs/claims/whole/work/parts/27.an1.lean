/-! ===== Answer: rows ===== -/
/-- where the 24 rows of answer a lie -/
def RG (R : Rt) (a : Nat) (ρ : Nat → Nat) : Prop := (∀ r, r < 24 → R 16 a r = some (17, ρ r)) ∧ (∀ r, r < 24 → 24 * a ≤ ρ r ∧ ρ r < 24 * a + 24) ∧ (∀ r s, r < 24 → s < 24 → ρ r = ρ s → r = s)
/-- answer a holds a matrix of n rows over w unknowns -/
def AM (I : It) (L : Lt) (R : Rt) (a w : Nat) (ρ : Nat → Nat) (n : Nat) (A : Nat → Nat → Nat) : Prop := RG R a ρ ∧ (I 0 a 3 = nI n ∧ I 0 a 4 = nI w ∧ w ≤ 24 ∧ n ≤ 24) ∧ ∀ r c, r < n → c ≤ w → L 17 (ρ r) c = lN (A r c) ∧ A r c < 1000003
def frL (a : Nat) (L L2 : Lt) : Prop := ∀ t i, ¬ (t = 17 ∧ 24 * a ≤ i ∧ i < 24 * a + 24) → L2 t i = L t i
def frI (a : Nat) (I I2 : It) : Prop := ∀ t i, ¬ (t = 0 ∧ i = a) → I2 t i = I t i
def addR (n : Nat) (A : Nat → Nat → Nat) (row : Nat → Nat) : Nat → Nat → Nat := fun r => if r = n then row else A r
theorem addR_s (n : Nat) (A : Nat → Nat → Nat) (row : Nat → Nat) : addR n A row n = row := if_pos rfl
theorem addR_n {n r : Nat} (A : Nat → Nat → Nat) (row : Nat → Nat) (h : ¬ r = n) : addR n A row r = A r := if_neg h
theorem AM_row {I : It} {L : Lt} {R : Rt} {a w n : Nat} {ρ : Nat → Nat} {A : Nat → Nat → Nat} {row : Nat → Nat} {c v : Nat} (h : AM I L R a w ρ (n + 1) (addR n A row)) (hc : c ≤ w) (hv : v < 1000003) : AM I (sL L 17 (ρ n) c (lN v)) R a w ρ (n + 1) (addR n A (fun j => if j = c then v else row j)) := by
  obtain ⟨h1, h2, h3⟩ := h
  refine ⟨h1, h2, fun r j hr hj => ?_⟩
  by_cases e : r = n
  · subst e
    have h4 := h3 r j hr hj
    rw [addR_s] at h4 ⊢
    rw [sL_s]
    unfold vp_updL
    by_cases e2 : j = c
    · rw [if_pos e2, if_pos e2]
      exact ⟨rfl, hv⟩
    · rw [if_neg e2, if_neg e2]
      exact h4
  · have h4 := h3 r j hr hj
    rw [addR_n _ _ e] at h4 ⊢
    rw [sL_n (fun z => e (h1.2.2 r n (by omega) (by omega) z.2))]
    exact h4
theorem frL_s {a : Nat} {L : Lt} {R : Rt} {ρ : Nat → Nat} {r c : Nat} {x : Int64} (h : RG R a ρ) (hr : r < 24) : frL a L (sL L 17 (ρ r) c x) := fun t i hti => sL_n (fun z => hti (by have := h.2.1 r hr; omega))
theorem frL_t {a : Nat} {L L2 L3 : Lt} (h : frL a L L2) (h2 : frL a L2 L3) : frL a L L3 := fun t i hti => (h2 t i hti).trans (h t i hti)
theorem frI_t {a : Nat} {I I2 I3 : It} (h : frI a I I2) (h2 : frI a I2 I3) : frI a I I3 := fun t i hti => (h2 t i hti).trans (h t i hti)
def rwT (o1 o2 t : Nat) : Nat → Nat := fun j => if j = o2 then 1000003 - t else if j = o1 then 1 else 0
theorem c_Ja_fillJ {l : Launch} {E : En} {d : Nat} {I : It} {L : Lt} {R : Rt} {Z : Zt} {Q : Qt} {x v : Nat} (hQ : ∀ L2, (∀ t i, ¬ (t = 17 ∧ i = x) → L2 t i = L t i) → (∀ c, c < 25 → L2 17 x c = lN v) → Q none I L2 R Z) : AMet l E d M_Ja_fillJ [vr 17 x, vl (lN v)] I L R Z Q := by
  refine AMet.of mf_Ja_fillJ rfl (Nat.le_of_ble_eq_true rfl) ?_
  refine aw_iconst (v := nI 0) e_Ja_fillJ_0 (by decide) ?_
  refine aw_ist3 e_Ja_fillJ_1 ?_
  refine aw_aload_n e_Ja_fillJ_2 rfl ?_
  refine aw_alen (v := nI 25) e_Ja_fillJ_3 rfl ?_
  refine aw_ist4 e_Ja_fillJ_4 ?_
  refine up_loop (P := fun i => ∀ L1, (∀ t j, ¬ (t = 17 ∧ j = x) → L1 t j = L t j) ∧ (∀ c, c < i → L1 17 x c = lN v) → AWq l E d M_Ja_fillJ Z 6 [some (vr 17 x), some (vl (lN v)), none, some (vi (nI i)), some (vi (nI 25))] [] I L1 R Z Q) (N := 25) (fun i hi ih L1 hv => ?_) 0 (by decide) L ⟨fun _ _ _ => rfl, fun c hc => absurd hc (Nat.not_lt_zero c)⟩
  refine aw_iload_n e_Ja_fillJ_6 rfl ?_
  refine aw_iload e_Ja_fillJ_7 rfl ?_
  refine awN_icmp_ge e_Ja_fillJ_9 (by omega) (by omega) (fun h9 => ?_) (fun h9 => ?_)
  · have hiN : i = 25 := by omega
    subst hiN
    exact aw_vret e_Ja_fillJ_22 rfl (hQ L1 hv.1 hv.2)
  · refine aw_aload_n e_Ja_fillJ_12 rfl ?_
    refine aw_iload_n e_Ja_fillJ_13 rfl ?_
    refine aw_lload_n e_Ja_fillJ_14 rfl ?_
    refine aw_last e_Ja_fillJ_15 rfl (show _ < 25 by omega) (by omega) ?_
    refine aw_inc3 e_Ja_fillJ_16 (inc1 _) ?_
    refine aw_goto e_Ja_fillJ_19 ?_
    refine ih h9 _ ⟨fun t j hj => ?_, fun c hc => ?_⟩
    · rw [sL_n hj]
      exact hv.1 t j hj
    · rw [sL_s]
      unfold vp_updL
      by_cases e : c = i
      · rw [if_pos e]
      · rw [if_neg e]
        exact hv.2 c (by omega)
theorem c_An_column {l : Launch} {E : En} {d : Nat} {I : It} {L : Lt} {R : Rt} {Z : Zt} {Q : Qt} {b q : Nat} (hQ : Q (some (vi (nI (2 * b + q)))) I L R Z) : AMet l E d M_An_column [vi (nI b), vi (nI q)] I L R Z Q := by
  refine AMet.of mf_An_column rfl (Nat.le_of_ble_eq_true rfl) ?_
  refine aw_iconst (v := nI 2) e_An_column_0 (by decide) ?_
  refine aw_iload_n e_An_column_1 rfl ?_
  first | refine awN_imul e_An_column_2 ?_ | refine aw_imul e_An_column_2 ?_
  refine aw_iload_n e_An_column_3 rfl ?_
  first | refine awN_iadd e_An_column_4 ?_ | refine aw_iadd e_An_column_4 ?_
  exact aw_iret e_An_column_5 rfl rfl hQ
theorem c_An_newRow {l : Launch} {E : En} {d : Nat} {I : It} {L : Lt} {R : Rt} {Z : Zt} {Q : Qt} {a w n : Nat} {ρ : Nat → Nat} {A : Nat → Nat → Nat} (hS : Sta R) (hA : AM I L R a w ρ n A) (hn : n < 24) (hQ : ∀ L2, AM (sI I 0 a 3 (nI (n + 1))) L2 R a w ρ (n + 1) (addR n A (fun _ => 0)) → frL a L L2 → Q (some (vr 17 (ρ n))) (sI I 0 a 3 (nI (n + 1))) L2 R Z) : AMet l E (d + 1) M_An_newRow [vr 0 a] I L R Z Q := by
  have hw := hA.2.1.2.2.1
  refine AMet.of mf_An_newRow rfl (Nat.le_of_ble_eq_true rfl) ?_
  refine aw_aload_n e_An_newRow_0 rfl ?_
  refine aw_getR e_An_newRow_1 fl_An_20 (hS.1 _ _ _ _ rfl) ?_
  refine aw_aload_n e_An_newRow_4 rfl ?_
  refine aw_getE e_An_newRow_5 fl_An_38 hA.2.1.1 ?_
  refine aw_aald e_An_newRow_8 rfl (show _ < 24 by omega) (by omega) (hA.1.1 _ (by omega)) ?_
  refine aw_ast1 e_An_newRow_9 ?_
  refine aw_aload_n e_An_newRow_10 rfl ?_
  refine aw_lconst (v := lN 0) e_An_newRow_11 rfl ?_
  refine aw_cS2 e_An_newRow_12 ml_An_80 mf_Ja_fillJ ms_Ja_fillJ (c_Ja_fillJ (fun L2 hv1 hv2 => ?_))
  refine aw_aload_n e_An_newRow_15 rfl ?_
  refine aw_dup e_An_newRow_16 rfl ?_
  refine aw_getE e_An_newRow_17 fl_An_38 hA.2.1.1 ?_
  refine aw_iconst (v := nI 1) e_An_newRow_20 (by decide) ?_
  first | refine awN_iadd e_An_newRow_21 ?_ | refine aw_iadd e_An_newRow_21 ?_
  refine aw_putI e_An_newRow_22 fl_An_38 ?_
  refine aw_aload_n e_An_newRow_25 rfl ?_
  refine aw_aret e_An_newRow_26 rfl (Or.inr ⟨_, rfl⟩) (hQ L2 ⟨hA.1, ⟨?_, ?_, hw, by omega⟩, fun r c hr hc => ?_⟩ (fun t i hti => hv1 t i (fun z => hti (by have := hA.1.2.1 n hn; omega))))
  · rw [sI_s, upd, if_pos rfl]
  · rw [sI_s, upd, if_neg (by decide)]; exact hA.2.1.2.1
  · by_cases e : r = n
    · subst e
      rw [addR_s]
      exact ⟨hv2 c (by omega), by decide⟩
    · rw [addR_n _ _ e, hv1 17 (ρ r) (fun z => e (hA.1.2.2 r n (by omega) hn z.2))]
      exact hA.2.2 r c (by omega) hc
theorem c_An_writeTimes {l : Launch} {E : En} {d : Nat} {I : It} {L : Lt} {R : Rt} {Z : Zt} {Q : Qt} {a w n : Nat} {ρ : Nat → Nat} {A : Nat → Nat → Nat} (hS : Sta R) (hA : AM I L R a w ρ n A) {o1 o2 t : Nat} (hn : n < 24) (h1 : o1 < w) (h2 : o2 < w) (ht : 0 < t ∧ t < 1000003) (hQ : ∀ I2 L2, AM I2 L2 R a w ρ (n + 1) (addR n A (rwT o1 o2 t)) → frI a I I2 → frL a L L2 → Q none I2 L2 R Z) : AMet l E (d + 2) M_An_writeTimes [vr 0 a, vi (nI o1), vi (nI o2), vi (nI t)] I L R Z Q := by
  have hw := hA.2.1.2.2.1
  refine AMet.of mf_An_writeTimes rfl (Nat.le_of_ble_eq_true rfl) ?_
  refine aw_aload_n e_An_writeTimes_0 rfl ?_
  refine aw_cV0 e_An_writeTimes_1 ml_An_86 mf_An_newRow mv_An_newRow (c_An_newRow hS hA hn (fun L2 hA2 hf2 => ?_))
  refine aw_ast4 e_An_writeTimes_4 ?_
  refine aw_aload e_An_writeTimes_6 rfl ?_
  refine aw_iload_n e_An_writeTimes_8 rfl ?_
  refine aw_lconst (v := lN 1) e_An_writeTimes_9 rfl ?_
  refine aw_last e_An_writeTimes_10 rfl (show _ < 25 by omega) (by omega) ?_
  refine aw_aload e_An_writeTimes_11 rfl ?_
  refine aw_iload_n e_An_writeTimes_13 rfl ?_
  refine aw_ldc (v := nI 1000003) e_An_writeTimes_14 kc_An_90 ?_
  refine aw_iload_n e_An_writeTimes_16 rfl ?_
  first | refine awN_isub e_An_writeTimes_17 (by omega) ?_ | refine aw_isub e_An_writeTimes_17 ?_
  refine awN_i2l e_An_writeTimes_18 (by omega) ?_
  refine aw_last e_An_writeTimes_19 rfl (show _ < 25 by omega) (by omega) ?_
  have hA3 := AM_row (c := o2) (v := 1000003 - t) (AM_row (c := o1) (v := 1) hA2 (by omega) (by decide)) (by omega) (by omega)
  exact aw_vret e_An_writeTimes_20 rfl (hQ _ _ hA3 (fun t i hti => sI_n hti) (frL_t hf2 (frL_t (frL_s hA.1 hn) (frL_s hA.1 hn))))
