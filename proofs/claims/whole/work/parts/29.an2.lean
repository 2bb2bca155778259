/-! ===== Answer: the laws' rows ===== -/
theorem AM_lt {I : It} {L : Lt} {R : Rt} {a w n : Nat} {ρ : Nat → Nat} {A : Nat → Nat → Nat} (h : AM I L R a w ρ n A) : w ≤ 24 ∧ n ≤ 24 := ⟨h.2.1.2.2.1, h.2.1.2.2.2⟩
def PT (I : It) (q : Nat) (v : Nat → Nat) : Prop := (∀ f, f < 5 → I 3 q f = nI (v f)) ∧ v 0 < 6 ∧ v 1 < 2 ∧ (1 ≤ v 2 ∧ v 2 ≤ 10) ∧ (1 ≤ v 3 ∧ v 3 ≤ 10) ∧ v 4 < 1000003
theorem PT_fr {I I2 : It} {q a : Nat} {v : Nat → Nat} (h : PT I q v) (hf : frI a I I2) : PT I2 q v := ⟨fun f hf5 => by rw [hf 3 q (by omega)]; exact h.1 f hf5, h.2⟩
theorem frI_s {a f : Nat} {I : It} {x : Int32} : frI a I (sI I 0 a f x) := fun _ _ h => sI_n h
def endRow (v : Nat → Nat) (b w : Nat) : Nat → Nat := if v 0 = 2 then rwT (2 * b + v 1) (2 * b + (1 - v 1)) (shW (v 2) (v 3)) else rwE (v 0) (v 1) (shW (v 2) (v 3)) (v 4) b w
theorem endRow_1 {v : Nat → Nat} {b w : Nat} (h : ¬ v 0 = 2) (h1 : v 0 = 1) : endRow v b w = fun j => if j = w then shW (v 2) (v 3) * v 4 % 1000003 else if j = 2 * b + v 1 then 1 else 0 := by
  unfold endRow rwE
  rw [if_neg h]
  funext j
  rw [if_pos h1]
theorem endRow_3 {v : Nat → Nat} {b w : Nat} (h1 : v 0 = 3) : endRow v b w = fun j => if j = w then v 4 else if j = 2 * b + v 1 then 1 else 0 := by
  unfold endRow rwE
  rw [if_neg (by omega)]
  funext j
  rw [if_neg (show ¬ v 0 = 1 by omega), if_pos h1]
theorem endRow_0 {v : Nat → Nat} {b w : Nat} (h : ¬ v 0 = 2) (h1 : ¬ v 0 = 1) (h3 : ¬ v 0 = 3) (hw : 2 * b + v 1 < w) : endRow v b w = fun j => if j = 2 * b + v 1 then 1 else 0 := by
  unfold endRow rwE
  rw [if_neg h]
  funext j
  rw [if_neg h1, if_neg h3]
  by_cases e : j = w
  · rw [if_pos e, if_neg (by omega)]
  · rw [if_neg e]
theorem c_An_writeEnd {l : Launch} {E : En} {d : Nat} {I : It} {L : Lt} {R : Rt} {Z : Zt} {Q : Qt} {a w n : Nat} {ρ : Nat → Nat} {A : Nat → Nat → Nat} (hS : Sta R) (hA : AM I L R a w ρ n A) {q : Nat} {v : Nat → Nat} (hP : PT I q v) {b : Nat} (hn : n < 24) (hb : 2 * b + 1 < w) (hQ : ∀ I2 L2, AM I2 L2 R a w ρ (n + 1) (addR n A (endRow v b w)) → frI a I I2 → frL a L L2 → Q none I2 L2 R Z) : AMet l E (d + 3) M_An_writeEnd [vr 0 a, vr 3 q, vi (nI b)] I L R Z Q := by
  have hw := AM_lt hA
  have hv := hP.2
  have hsw := shW_lt (v 2) (v 3)
  have hsp := shW_pos hv.2.2.1 hv.2.2.2.1
  refine AMet.of mf_An_writeEnd rfl (Nat.le_of_ble_eq_true rfl) ?_
  refine aw_iload_n e_An_writeEnd_0 rfl ?_
  refine aw_aload_n e_An_writeEnd_1 rfl ?_
  refine aw_getE e_An_writeEnd_2 fl_An_91 (hP.1 1 (by decide)) ?_
  refine aw_cS2 e_An_writeEnd_5 ml_An_49 mf_An_column ms_An_column (c_An_column ?_)
  refine aw_ist3 e_An_writeEnd_8 ?_
  refine aw_aload_n e_An_writeEnd_9 rfl ?_
  refine aw_getE e_An_writeEnd_10 fl_An_63 (hP.1 0 (by decide)) ?_
  refine aw_iconst (v := nI 2) e_An_writeEnd_13 (by decide) ?_
  refine awN_icmp_ne e_An_writeEnd_14 (by omega) (by omega) (fun h14 => ?_) (fun h14 => ?_)
  · refine aw_aload_n e_An_writeEnd_37 rfl ?_
    refine aw_cV0 e_An_writeEnd_38 ml_An_86 mf_An_newRow mv_An_newRow (c_An_newRow hS hA hn (fun L2 hA2 hf2 => ?_))
    refine aw_ast4 e_An_writeEnd_41 ?_
    refine aw_aload e_An_writeEnd_43 rfl ?_
    refine aw_iload_n e_An_writeEnd_45 rfl ?_
    refine aw_lconst (v := lN 1) e_An_writeEnd_46 rfl ?_
    refine aw_last e_An_writeEnd_47 rfl (show _ < 25 by omega) (by omega) ?_
    have hA3 := AM_row (c := 2 * b + v 1) (v := 1) hA2 (by omega) (by decide)
    replace hP := PT_fr hP (frI_s (a := a) (f := 3) (x := nI (n + 1)))
    refine aw_aload_n e_An_writeEnd_48 rfl ?_
    refine aw_getE e_An_writeEnd_49 fl_An_63 (hP.1 0 (by decide)) ?_
    refine aw_iconst (v := nI 1) e_An_writeEnd_52 (by decide) ?_
    refine awN_icmp_ne e_An_writeEnd_53 (by omega) (by omega) (fun h53 => ?_) (fun h53 => ?_)
    · refine aw_aload_n e_An_writeEnd_80 rfl ?_
      refine aw_getE e_An_writeEnd_81 fl_An_63 (hP.1 0 (by decide)) ?_
      refine aw_iconst (v := nI 3) e_An_writeEnd_84 (by decide) ?_
      refine awN_icmp_ne e_An_writeEnd_85 (by omega) (by omega) (fun h85 => ?_) (fun h85 => ?_)
      · first
          | exact aw_vret e_An_writeEnd_100 rfl (hQ _ _ ((endRow_1 h14 h53 (b := b) (w := w)).symm ▸ AM_row (c := w) (v := shW (v 2) (v 3) * v 4 % 1000003) hA3 (Nat.le_refl _) (Nat.mod_lt _ (by decide))) frI_s (frL_t hf2 (frL_t (frL_s hA.1 hn) (frL_s hA.1 hn))))
          | exact aw_vret e_An_writeEnd_100 rfl (hQ _ _ ((endRow_3 h85 (b := b) (w := w)).symm ▸ AM_row (c := w) (v := v 4) hA3 (Nat.le_refl _) hv.2.2.2.2) frI_s (frL_t hf2 (frL_t (frL_s hA.1 hn) (frL_s hA.1 hn))))
          | exact aw_vret e_An_writeEnd_100 rfl (hQ _ _ ((endRow_0 (b := b) (w := w) h14 h53 h85 (by omega)).symm ▸ hA3) frI_s (frL_t hf2 (frL_s hA.1 hn)))
      · refine aw_aload e_An_writeEnd_88 rfl ?_
        refine aw_aload_n e_An_writeEnd_90 rfl ?_
        refine aw_getE e_An_writeEnd_91 fl_An_42 hA2.2.1.2.1 ?_
        refine aw_aload_n e_An_writeEnd_94 rfl ?_
        refine aw_getE e_An_writeEnd_95 fl_An_101 (hP.1 4 (by decide)) ?_
        refine awN_i2l e_An_writeEnd_98 (by omega) ?_
        refine aw_last e_An_writeEnd_99 rfl (show _ < 25 by omega) (by omega) ?_
        first
          | exact aw_vret e_An_writeEnd_100 rfl (hQ _ _ ((endRow_1 h14 h53 (b := b) (w := w)).symm ▸ AM_row (c := w) (v := shW (v 2) (v 3) * v 4 % 1000003) hA3 (Nat.le_refl _) (Nat.mod_lt _ (by decide))) frI_s (frL_t hf2 (frL_t (frL_s hA.1 hn) (frL_s hA.1 hn))))
          | exact aw_vret e_An_writeEnd_100 rfl (hQ _ _ ((endRow_3 h85 (b := b) (w := w)).symm ▸ AM_row (c := w) (v := v 4) hA3 (Nat.le_refl _) hv.2.2.2.2) frI_s (frL_t hf2 (frL_t (frL_s hA.1 hn) (frL_s hA.1 hn))))
          | exact aw_vret e_An_writeEnd_100 rfl (hQ _ _ ((endRow_0 (b := b) (w := w) h14 h53 h85 (by omega)).symm ▸ hA3) frI_s (frL_t hf2 (frL_s hA.1 hn)))
    · refine aw_aload e_An_writeEnd_56 rfl ?_
      refine aw_aload_n e_An_writeEnd_58 rfl ?_
      refine aw_getE e_An_writeEnd_59 fl_An_42 hA2.2.1.2.1 ?_
      refine aw_aload_n e_An_writeEnd_62 rfl ?_
      refine aw_cV0 e_An_writeEnd_63 ml_An_94 mf_Pa_shareWorth mv_Pa_shareWorth (c_Pa_shareWorth (hP.1 2 (by decide)) (hP.1 3 (by decide)) (by omega) (by omega) ?_)
      refine awN_i2l e_An_writeEnd_66 (by omega) ?_
      refine aw_aload_n e_An_writeEnd_67 rfl ?_
      refine aw_getE e_An_writeEnd_68 fl_An_101 (hP.1 4 (by decide)) ?_
      refine awN_i2l e_An_writeEnd_71 (by omega) ?_
      refine aw_cSN2 e_An_writeEnd_72 mn_An_104 mf_Pb_product ms_Pb_product (c_Pb_product hsw hv.2.2.2.2 ?_)
      refine awN_i2l e_An_writeEnd_75 (by omega) ?_
      refine aw_last e_An_writeEnd_76 rfl (show _ < 25 by omega) (by omega) ?_
      refine aw_goto e_An_writeEnd_77 ?_
      first
        | exact aw_vret e_An_writeEnd_100 rfl (hQ _ _ ((endRow_1 h14 h53 (b := b) (w := w)).symm ▸ AM_row (c := w) (v := shW (v 2) (v 3) * v 4 % 1000003) hA3 (Nat.le_refl _) (Nat.mod_lt _ (by decide))) frI_s (frL_t hf2 (frL_t (frL_s hA.1 hn) (frL_s hA.1 hn))))
        | exact aw_vret e_An_writeEnd_100 rfl (hQ _ _ ((endRow_3 h85 (b := b) (w := w)).symm ▸ AM_row (c := w) (v := v 4) hA3 (Nat.le_refl _) hv.2.2.2.2) frI_s (frL_t hf2 (frL_t (frL_s hA.1 hn) (frL_s hA.1 hn))))
        | exact aw_vret e_An_writeEnd_100 rfl (hQ _ _ ((endRow_0 (b := b) (w := w) h14 h53 h85 (by omega)).symm ▸ hA3) frI_s (frL_t hf2 (frL_s hA.1 hn)))
  · refine aw_aload_n e_An_writeEnd_17 rfl ?_
    refine aw_iload_n e_An_writeEnd_18 rfl ?_
    refine aw_iload_n e_An_writeEnd_19 rfl ?_
    refine aw_iconst (v := nI 1) e_An_writeEnd_20 (by decide) ?_
    refine aw_aload_n e_An_writeEnd_21 rfl ?_
    refine aw_getE e_An_writeEnd_22 fl_An_91 (hP.1 1 (by decide)) ?_
    refine awN_isub e_An_writeEnd_25 (by omega) ?_
    refine aw_cS2 e_An_writeEnd_26 ml_An_49 mf_An_column ms_An_column (c_An_column ?_)
    refine aw_aload_n e_An_writeEnd_29 rfl ?_
    refine aw_cV0 e_An_writeEnd_30 ml_An_94 mf_Pa_shareWorth mv_Pa_shareWorth (c_Pa_shareWorth (hP.1 2 (by decide)) (hP.1 3 (by decide)) (by omega) (by omega) ?_)
    refine aw_cV3 e_An_writeEnd_33 ml_An_97 mf_An_writeTimes mv_An_writeTimes (c_An_writeTimes hS hA hn (by omega) (by omega) ⟨hsp, hsw⟩ (fun I2 L2 hA2 hf1 hf2 => ?_))
    refine aw_vret e_An_writeEnd_36 rfl (hQ _ _ ?_ hf1 hf2)
    unfold endRow
    rw [if_pos h14]
    exact hA2
def turnRow (v : Nat → Nat) (b c : Nat) : Nat → Nat → Nat := fun i => if v 1 = 0 then (if i = 0 then rwT (2 * b + 0) (2 * c + 0) (shW (v 2) (v 3)) else rwT (2 * c + 1) (2 * b + 1) (shW (v 2) (v 3))) else (if i = 0 then rwT (2 * b + 0) (2 * c + 1) (shW (v 2) (v 3)) else rwT (2 * c + 0) (2 * b + 1) (shW (v 2) (v 3)))
theorem c_An_writeTurn {l : Launch} {E : En} {d : Nat} {I : It} {L : Lt} {R : Rt} {Z : Zt} {Q : Qt} {a w n : Nat} {ρ : Nat → Nat} {A : Nat → Nat → Nat} (hS : Sta R) (hA : AM I L R a w ρ n A) {q : Nat} {v : Nat → Nat} (hP : PT I q v) {b c : Nat} (hn : n < 23) (hb : 2 * b + 1 < w) (hc : 2 * c + 1 < w) (hQ : ∀ I2 L2, AM I2 L2 R a w ρ (n + 2) (addR (n + 1) (addR n A (turnRow v b c 0)) (turnRow v b c 1)) → frI a I I2 → frL a L L2 → Q none I2 L2 R Z) : AMet l E (d + 3) M_An_writeTurn [vr 0 a, vr 3 q, vi (nI b), vi (nI c)] I L R Z Q := by
  have hw := AM_lt hA
  have hv := hP.2
  have hsw := shW_lt (v 2) (v 3)
  have hsp := shW_pos hv.2.2.1 hv.2.2.2.1
  refine AMet.of mf_An_writeTurn rfl (Nat.le_of_ble_eq_true rfl) ?_
  refine aw_aload_n e_An_writeTurn_0 rfl ?_
  refine aw_cV0 e_An_writeTurn_1 ml_An_94 mf_Pa_shareWorth mv_Pa_shareWorth (c_Pa_shareWorth (hP.1 2 (by decide)) (hP.1 3 (by decide)) (by omega) (by omega) ?_)
  refine aw_ist4 e_An_writeTurn_4 ?_
  refine aw_aload_n e_An_writeTurn_6 rfl ?_
  refine aw_getE e_An_writeTurn_7 fl_An_91 (hP.1 1 (by decide)) ?_
  refine awN_if_ne e_An_writeTurn_10 (by omega) (fun h10 => ?_) (fun h10 => ?_)
  · refine aw_aload_n e_An_writeTurn_48 rfl ?_
    refine aw_iload_n e_An_writeTurn_49 rfl ?_
    refine aw_iconst (v := nI 0) e_An_writeTurn_50 (by decide) ?_
    refine aw_cS2 e_An_writeTurn_51 ml_An_49 mf_An_column ms_An_column (c_An_column ?_)
    refine aw_iload_n e_An_writeTurn_54 rfl ?_
    refine aw_iconst (v := nI 1) e_An_writeTurn_55 (by decide) ?_
    refine aw_cS2 e_An_writeTurn_56 ml_An_49 mf_An_column ms_An_column (c_An_column ?_)
    refine aw_iload e_An_writeTurn_59 rfl ?_
    refine aw_cV3 e_An_writeTurn_61 ml_An_97 mf_An_writeTimes mv_An_writeTimes (c_An_writeTimes hS hA (by omega) (by omega) (by omega) ⟨hsp, hsw⟩ (fun I2 L2 hA2 hf2 hg2 => ?_))
    refine aw_aload_n e_An_writeTurn_64 rfl ?_
    refine aw_iload_n e_An_writeTurn_65 rfl ?_
    refine aw_iconst (v := nI 0) e_An_writeTurn_66 (by decide) ?_
    refine aw_cS2 e_An_writeTurn_67 ml_An_49 mf_An_column ms_An_column (c_An_column ?_)
    refine aw_iload_n e_An_writeTurn_70 rfl ?_
    refine aw_iconst (v := nI 1) e_An_writeTurn_71 (by decide) ?_
    refine aw_cS2 e_An_writeTurn_72 ml_An_49 mf_An_column ms_An_column (c_An_column ?_)
    refine aw_iload e_An_writeTurn_75 rfl ?_
    refine aw_cV3 e_An_writeTurn_77 ml_An_97 mf_An_writeTimes mv_An_writeTimes (c_An_writeTimes hS hA2 (by omega) (by omega) (by omega) ⟨hsp, hsw⟩ (fun I3 L3 hA3 hf3 hg3 => ?_))
    refine aw_vret e_An_writeTurn_80 rfl (hQ _ _ ?_ (frI_t hf2 hf3) (frL_t hg2 hg3))
    unfold turnRow
    simp only [h10, if_true, if_false]
    exact hA3
  · refine aw_aload_n e_An_writeTurn_13 rfl ?_
    refine aw_iload_n e_An_writeTurn_14 rfl ?_
    refine aw_iconst (v := nI 0) e_An_writeTurn_15 (by decide) ?_
    refine aw_cS2 e_An_writeTurn_16 ml_An_49 mf_An_column ms_An_column (c_An_column ?_)
    refine aw_iload_n e_An_writeTurn_19 rfl ?_
    refine aw_iconst (v := nI 0) e_An_writeTurn_20 (by decide) ?_
    refine aw_cS2 e_An_writeTurn_21 ml_An_49 mf_An_column ms_An_column (c_An_column ?_)
    refine aw_iload e_An_writeTurn_24 rfl ?_
    refine aw_cV3 e_An_writeTurn_26 ml_An_97 mf_An_writeTimes mv_An_writeTimes (c_An_writeTimes hS hA (by omega) (by omega) (by omega) ⟨hsp, hsw⟩ (fun I2 L2 hA2 hf2 hg2 => ?_))
    refine aw_aload_n e_An_writeTurn_29 rfl ?_
    refine aw_iload_n e_An_writeTurn_30 rfl ?_
    refine aw_iconst (v := nI 1) e_An_writeTurn_31 (by decide) ?_
    refine aw_cS2 e_An_writeTurn_32 ml_An_49 mf_An_column ms_An_column (c_An_column ?_)
    refine aw_iload_n e_An_writeTurn_35 rfl ?_
    refine aw_iconst (v := nI 1) e_An_writeTurn_36 (by decide) ?_
    refine aw_cS2 e_An_writeTurn_37 ml_An_49 mf_An_column ms_An_column (c_An_column ?_)
    refine aw_iload e_An_writeTurn_40 rfl ?_
    refine aw_cV3 e_An_writeTurn_42 ml_An_97 mf_An_writeTimes mv_An_writeTimes (c_An_writeTimes hS hA2 (by omega) (by omega) (by omega) ⟨hsp, hsw⟩ (fun I3 L3 hA3 hf3 hg3 => ?_))
    refine aw_goto e_An_writeTurn_45 ?_
    refine aw_vret e_An_writeTurn_80 rfl (hQ _ _ ?_ (frI_t hf2 hf3) (frL_t hg2 hg3))
    unfold turnRow
    simp only [h10, if_true, if_false]
    exact hA3
theorem CM_fr {I I2 : It} {R : Rt} {Z : Zt} {k a : Nat} {V : Mc} (h : CM I R Z k V) (hW : WF V) (hf : frI a I I2) : CM I2 R Z k V := h.keep hW (fun t i hti => hf t i (fun z => by unfold own at hti; omega)) (fun _ _ _ => rfl)
def setR (A : Nat → Nat → Nat) (r c v : Nat) : Nat → Nat → Nat := fun q => if q = r then (fun j => if j = c then v else A r j) else A q
theorem AM_set {I : It} {L : Lt} {R : Rt} {a w n : Nat} {ρ : Nat → Nat} {A : Nat → Nat → Nat} {s c v : Nat} (h : AM I L R a w ρ n A) (hs : s < n) (hv : v < 1000003) : AM I (sL L 17 (ρ s) c (lN v)) R a w ρ n (setR A s c v) := by
  obtain ⟨h1, h2, h3⟩ := h
  refine ⟨h1, h2, fun r j hr hj => ?_⟩
  have h4 := h3 r j hr hj
  unfold setR
  by_cases e : r = s
  · subst e
    rw [if_pos rfl, sL_s]
    unfold vp_updL
    by_cases e2 : j = c
    · rw [if_pos e2, if_pos e2]
      exact ⟨rfl, hv⟩
    · rw [if_neg e2, if_neg e2]
      exact h4
  · rw [if_neg e, sL_n (fun z => e (h1.2.2 r s (by omega) (by omega) z.2))]
    exact h4
theorem cnt_z {P : Nat → Bool} : ∀ n, (∀ j, j < n → P j = false) → cnt P n = 0
  | 0, _ => rfl
  | n + 1, h => by rw [cnt_f (h n (by omega))]; exact cnt_z n (fun j hj => h j (by omega))
theorem smR_z {V : Mc} {p so : Nat} : ∀ n, (∀ j, j < n → atB V p j = false) → smR V p so n = fun _ => 0
  | 0, _ => rfl
  | n + 1, h => by
    funext j
    unfold smR
    rw [if_neg (by rw [h n (by omega)]; simp)]
    exact congrFun (smR_z n (fun j hj => h j (by omega))) j
theorem cnt_mono {P : Nat → Bool} {a : Nat} : ∀ k, cnt P a ≤ cnt P (a + k)
  | 0 => Nat.le_refl _
  | k + 1 => Nat.le_trans (cnt_mono k) (Nat.le_add_right _ _)
def JI (V : Mc) (p so w n : Nat) (A : Nat → Nat → Nat) (f i m : Nat) (A1 : Nat → Nat → Nat) : Prop :=
  m = n + (if i = f then 1 else cnt (atB V p) i) ∧ A1 n = smR V p so i ∧ ∀ x, (∀ c, c < w → x c < 1000003) → ((∀ r, r < m → r ≠ n → eqn w (A1 r) x) ↔ (∀ r, r < n → eqn w (A r) x) ∧ ∀ b, b < i → atB V p b = true → x (2 * f + so) = x (2 * b + so))
theorem JI_0 {V : Mc} {p so w n : Nat} {A : Nat → Nat → Nat} {f : Nat} (h : ∀ j, j < f → atB V p j = false) : JI V p so w n A f f (n + 1) (addR n A (fun _ => 0)) := by
  refine ⟨by rw [if_pos rfl], by rw [addR_s, smR_z f h], fun x hx => ⟨fun hh => ⟨fun r hr => ?_, fun b hb hab => ?_⟩, fun hh r hr hrn => ?_⟩⟩
  · have := hh r (by omega) (by omega)
    rw [addR_n _ _ (by omega)] at this
    exact this
  · rw [h b hb] at hab
    exact absurd hab (by decide)
  · rw [addR_n _ _ hrn]
    exact hh.1 r (by omega)
theorem JI_no {V : Mc} {p so w n : Nat} {A A1 : Nat → Nat → Nat} {f i m : Nat} (hJ : JI V p so w n A f i m A1) (hi : f ≤ i) (hf : atB V p f = true) (hb : atB V p i = false) : JI V p so w n A f (i + 1) m A1 := by
  have hne : ¬ i = f := fun z => by rw [z, hf] at hb; exact absurd hb (by decide)
  obtain ⟨h1, h2, h3⟩ := hJ
  refine ⟨?_, ?_, fun x hx => (h3 x hx).trans ⟨fun hh => ⟨hh.1, fun b hb2 hab => ?_⟩, fun hh => ⟨hh.1, fun b hb2 hab => hh.2 b (by omega) hab⟩⟩⟩
  · rw [h1, if_neg hne, if_neg (by omega), cnt_f hb]
  · rw [h2]
    funext j
    show _ = (if atB V p i = true ∧ j = 2 * i + (1 - so) then (if bT V i = p then 1 else 1000002) else smR V p so i j)
    rw [if_neg (by rw [hb]; simp)]
  · by_cases e : b = i
    · rw [e, hb] at hab
      exact absurd hab (by decide)
    · exact hh.2 b (by omega) hab
theorem smR_y {V : Mc} {p so i : Nat} {A1 : Nat → Nat → Nat} {n : Nat} (hb : atB V p i = true) (h2 : A1 n = smR V p so i) : setR A1 n (2 * i + (1 - so)) (if bT V i = p then 1 else 1000002) n = smR V p so (i + 1) := by
  unfold setR
  rw [if_pos rfl, h2]
  funext j
  show _ = (if atB V p i = true ∧ j = 2 * i + (1 - so) then (if bT V i = p then 1 else 1000002) else smR V p so i j)
  by_cases e : j = 2 * i + (1 - so)
  · rw [if_pos e, if_pos (show atB V p i = true ∧ j = 2 * i + (1 - so) from ⟨hb, e⟩)]
  · rw [if_neg e, if_neg (show ¬ (atB V p i = true ∧ j = 2 * i + (1 - so)) from fun z => e z.2)]
theorem JI_first {V : Mc} {p so w n : Nat} {A A1 : Nat → Nat → Nat} {f m : Nat} (hJ : JI V p so w n A f f m A1) (h : ∀ j, j < f → atB V p j = false) (hf : atB V p f = true) : JI V p so w n A f (f + 1) m (setR A1 n (2 * f + (1 - so)) (if bT V f = p then 1 else 1000002)) := by
  obtain ⟨h1, h2, h3⟩ := hJ
  refine ⟨?_, smR_y hf h2, fun x hx => ?_⟩
  · rw [h1, if_pos rfl, if_neg (by omega), cnt_t hf, cnt_z f h]
  · have e : (∀ r, r < m → r ≠ n → eqn w (setR A1 n (2 * f + (1 - so)) (if bT V f = p then 1 else 1000002) r) x) ↔ (∀ r, r < m → r ≠ n → eqn w (A1 r) x) :=
      ⟨fun hh r hr hn => by have := hh r hr hn; unfold setR at this; rw [if_neg hn] at this; exact this, fun hh r hr hn => by unfold setR; rw [if_neg hn]; exact hh r hr hn⟩
    refine (e.trans (h3 x hx)).trans ⟨fun hh => ⟨hh.1, fun b hb2 hab => ?_⟩, fun hh => ⟨hh.1, fun b hb2 hab => hh.2 b (by omega) hab⟩⟩
    by_cases e : b = f
    · rw [e]
    · exact hh.2 b (by omega) hab
theorem JI_yes {V : Mc} {p so w n : Nat} {A A1 : Nat → Nat → Nat} {f i m : Nat} (hJ : JI V p so w n A f i m A1) (hi : f < i) (hnm : n < m) (hb : atB V p i = true) (hw : 2 * i + so < w) : JI V p so w n A f (i + 1) (m + 1) (addR m (setR A1 n (2 * i + (1 - so)) (if bT V i = p then 1 else 1000002)) (rwT (2 * f + so) (2 * i + so) 1)) := by
  obtain ⟨h1, h2, h3⟩ := hJ
  refine ⟨?_, ?_, fun x hx => ?_⟩
  · rw [h1, if_neg (by omega), if_neg (by omega), cnt_t hb]; omega
  · rw [addR_n _ _ (by omega), smR_y hb h2]
  · have hlast : eqn w (rwT (2 * f + so) (2 * i + so) 1) x ↔ x (2 * f + so) = x (2 * i + so) := by
      rw [rwT_eqn (by omega) hw (by omega) (by decide) hx, Nat.one_mul, Nat.mod_eq_of_lt (hx _ hw)]
    constructor
    · intro hh
      have e1 := (h3 x hx).1 (fun r hr hn => by
        have := hh r (by omega) hn
        rw [addR_n _ _ (by omega)] at this
        unfold setR at this
        rw [if_neg hn] at this
        exact this)
      refine ⟨e1.1, fun b hb2 hab => ?_⟩
      by_cases e : b = i
      · have := hh m (by omega) (by omega)
        rw [addR_s, hlast] at this
        rw [e]
        exact this
      · exact e1.2 b (by omega) hab
    · intro hh r hr hn
      by_cases e : r = m
      · rw [e, addR_s, hlast]
        exact hh.2 i (by omega) hb
      · rw [addR_n _ _ e]
        unfold setR
        rw [if_neg hn]
        exact (h3 x hx).2 ⟨hh.1, fun b hb2 hab => hh.2 b (by omega) hab⟩ r (by omega) hn
theorem JI_m {V : Mc} {p so w n : Nat} {A A1 : Nat → Nat → Nat} {f i m : Nat} (hJ : JI V p so w n A f i m A1) (hfi : f ≤ i) (hi : i < nB V) (hff : atB V p f = true) (hn0 : n + cnt (atB V p) f + 1 ≤ 24) (hbn : ∀ j, j < nB V → atB V p j = true → n + cnt (atB V p) j + 1 ≤ 24) (hat : atB V p i = true) : n < m ∧ m ≤ 24 ∧ (¬ i = f → m < 24) := by
  have h1 := hJ.1
  have h2 := hbn i hi hat
  by_cases e : i = f
  · rw [if_pos e] at h1
    omega
  · rw [if_neg e] at h1
    have h3 := cnt_mono (P := atB V p) (a := f + 1) (i - (f + 1))
    rw [show f + 1 + (i - (f + 1)) = i by omega, cnt_t hff] at h3
    omega
theorem c_An_writeJoin {l : Launch} {E : En} {d : Nat} {I : It} {L : Lt} {R : Rt} {Z : Zt} {Q : Qt} {a w n : Nat} {ρ : Nat → Nat} {A : Nat → Nat → Nat} (hS : Sta R) (hA : AM I L R a w ρ n A) {k : Nat} {V : Mc} (hk : k < 3) (hC : CM I R Z k V) (hW : WF V) {p f : Nat} (hp : p < nP V) (hwV : w = 2 * nB V) (hfn : f < nB V) (hff : atB V p f = true) (hf0 : ∀ j, j < f → atB V p j = false) (hn : n + ends V p ≤ 24) (hQ : ∀ I2 L2 A2, AM I2 L2 R a w ρ (n + ends V p) A2 → (∀ x, (∀ c, c < w → x c < 1000003) → ((∀ r, r < n + ends V p → eqn w (A2 r) x) ↔ (∀ r, r < n → eqn w (A r) x) ∧ eqn w (smR V p (pP V p 1) (nB V)) x ∧ ∀ b, b < nB V → atB V p b = true → x (2 * f + pP V p 1) = x (2 * b + pP V p 1))) → frI a I I2 → frL a L L2 → Q none I2 L2 R Z) : AMet l E (d + 3) M_An_writeJoin [vr 0 a, vr 2 k, vi (nI p), vi (nI f)] I L R Z Q := by
  have hw := AM_lt hA
  have hWn := hW.1
  have hv := hW.2.1 p hp
  have hbn : ∀ j, j < nB V → atB V p j = true → n + cnt (atB V p) j + 1 ≤ 24 := fun j hj hat => by
    have h1 := cnt_t hat
    have h2 := cnt_mono (P := atB V p) (a := j + 1) (nB V - (j + 1))
    rw [show j + 1 + (nB V - (j + 1)) = nB V by omega] at h2
    have h3 : ends V p = cnt (atB V p) (nB V) := rfl
    omega
  have hn0 := hbn f hfn hff
  refine AMet.of mf_An_writeJoin rfl (Nat.le_of_ble_eq_true rfl) ?_
  refine aw_aload_n e_An_writeJoin_0 rfl ?_
  refine aw_getR e_An_writeJoin_1 fl_An_56 (hS.1 _ _ _ _ rfl) ?_
  refine aw_iload_n e_An_writeJoin_4 rfl ?_
  refine aw_aald e_An_writeJoin_5 rfl (show _ < 12 by omega) (by omega) (hS.2.1 _ _ (by omega) (by omega)) ?_
  refine aw_getE e_An_writeJoin_6 fl_An_91 (hC.2.1 p 1 hp (by decide)) ?_
  refine aw_ist4 e_An_writeJoin_9 ?_
  refine aw_aload_n e_An_writeJoin_11 rfl ?_
  refine aw_cV0 e_An_writeJoin_12 ml_An_86 mf_An_newRow mv_An_newRow (c_An_newRow hS hA (by omega) (fun L2 hA2 hf2 => ?_))
  refine aw_ast5 e_An_writeJoin_15 ?_
  refine aw_iload_n e_An_writeJoin_17 rfl ?_
  refine aw_ist6 e_An_writeJoin_18 ?_
  refine up_loop (P := fun i => ∀ I1 L1 m A1, AM I1 L1 R a w ρ m A1 → JI V p (pP V p 1) w n A f i m A1 → frI a I I1 → frL a L L1 → f ≤ i → AWq l E (d + 3) M_An_writeJoin Z 20 [some (vr 0 a), some (vr 2 k), some (vi (nI p)), some (vi (nI f)), some (vi (nI (pP V p 1))), some (vr 17 (ρ n)), some (vi (nI i)), none] [] I1 L1 R Z Q) (N := nB V) (fun i hi ih I1 L1 m A1 hA1 hJ hf1 hg1 hfi => ?_) f (by omega) _ _ _ _ hA2 (JI_0 hf0) frI_s hf2 (Nat.le_refl _)
  have hC1 := CM_fr hC hW hf1
  refine aw_iload e_An_writeJoin_20 rfl ?_
  refine aw_aload_n e_An_writeJoin_22 rfl ?_
  refine aw_getE e_An_writeJoin_23 fl_An_46 hC1.1.2.1 ?_
  refine awN_icmp_ge e_An_writeJoin_26 (by omega) (by omega) (fun h26 => ?_) (fun h26 => ?_)
  · have hiN : i = nB V := by omega
    subst hiN
    have e1 := hJ.1
    rw [if_neg (by omega)] at e1
    have e2 : ends V p = cnt (atB V p) (nB V) := rfl
    have e3 : m = n + ends V p := by omega
    subst e3
    have hpos : 0 < ends V p := by
      have h3 := cnt_mono (P := atB V p) (a := f + 1) (nB V - (f + 1))
      rw [show f + 1 + (nB V - (f + 1)) = nB V by omega, cnt_t hff] at h3
      omega
    refine aw_vret e_An_writeJoin_117 rfl (hQ _ _ _ hA1 (fun x hx => ?_) hf1 hg1)
    have e4 := hJ.2.2 x hx
    rw [← hJ.2.1]
    constructor
    · intro hh
      have e5 := e4.1 (fun r hr _ => hh r hr)
      exact ⟨e5.1, hh n (by omega), e5.2⟩
    · intro hh r hr
      by_cases e : r = n
      · rw [e]; exact hh.2.1
      · exact e4.2 ⟨hh.1, hh.2.2⟩ r hr e
  · have hbd := hW.2.2.1 i h26
    have hW1 := hW
    have k86 : atB V p i = true → AWq l E (d + 3) M_An_writeJoin Z 86 [some (vr 0 a), some (vr 2 k), some (vi (nI p)), some (vi (nI f)), some (vi (nI (pP V p 1))), some (vr 17 (ρ n)), some (vi (nI i)), some (vi (bI (bT V i = p)))] [vl (lN (if bT V i = p then 1 else 1000002)), vi (nI (2 * i + (1 - pP V p 1))), vr 17 (ρ n)] I1 L1 R Z Q := by
      intro hat
      have hmm := JI_m hJ hfi h26 hff hn0 hbn hat
      refine aw_last e_An_writeJoin_86 rfl (show _ < 25 by omega) (by omega) ?_
      have hA2 := AM_set (c := 2 * i + (1 - pP V p 1)) (v := if bT V i = p then 1 else 1000002) hA1 (show n < m by omega) (by split <;> decide)
      refine aw_iload e_An_writeJoin_87 rfl ?_
      refine aw_iload_n e_An_writeJoin_89 rfl ?_
      refine awN_icmp_eq e_An_writeJoin_90 (by omega) (by omega) (fun h90 => ?_) (fun h90 => ?_)
      · refine aw_inc6 e_An_writeJoin_111 (inc1 _) ?_
        refine aw_goto e_An_writeJoin_114 ?_
        refine aw_drop 7 ?_
        first
          | exact ih h26 _ _ _ _ hA3 (JI_yes hJ (by omega) (by omega) hat (by omega)) (frI_t hf1 hf3) (frL_t hg1 (frL_t (frL_s hA.1 (by omega)) hg3)) (by omega)
          | exact ih h26 _ _ _ _ hA2 (by subst h90; exact JI_first hJ hf0 hat) hf1 (frL_t hg1 (frL_s hA.1 (by omega))) (by omega)
          | exact ih h26 _ _ _ _ hA1 (JI_no hJ hfi hff (atB_N h60 h49)) hf1 hg1 (by omega)
      · refine aw_aload_n e_An_writeJoin_93 rfl ?_
        refine aw_iload_n e_An_writeJoin_94 rfl ?_
        refine aw_iload e_An_writeJoin_95 rfl ?_
        refine aw_cS2 e_An_writeJoin_97 ml_An_49 mf_An_column ms_An_column (c_An_column ?_)
        refine aw_iload e_An_writeJoin_100 rfl ?_
        refine aw_iload e_An_writeJoin_102 rfl ?_
        refine aw_cS2 e_An_writeJoin_104 ml_An_49 mf_An_column ms_An_column (c_An_column ?_)
        refine aw_iconst (v := nI 1) e_An_writeJoin_107 (by decide) ?_
        refine aw_cV3 e_An_writeJoin_108 ml_An_97 mf_An_writeTimes mv_An_writeTimes (c_An_writeTimes hS hA2 (by omega) (by omega) (by omega) ⟨by decide, by decide⟩ (fun I3 L3 hA3 hf3 hg3 => ?_))
        refine aw_inc6 e_An_writeJoin_111 (inc1 _) ?_
        refine aw_goto e_An_writeJoin_114 ?_
        refine aw_drop 7 ?_
        first
          | exact ih h26 _ _ _ _ hA3 (JI_yes hJ (by omega) (by omega) hat (by omega)) (frI_t hf1 hf3) (frL_t hg1 (frL_t (frL_s hA.1 (by omega)) hg3)) (by omega)
          | exact ih h26 _ _ _ _ hA2 (by subst h90; exact JI_first hJ hf0 hat) hf1 (frL_t hg1 (frL_s hA.1 (by omega))) (by omega)
          | exact ih h26 _ _ _ _ hA1 (JI_no hJ hfi hff (atB_N h60 h49)) hf1 hg1 (by omega)
    have k63 : atB V p i = true → AWq l E (d + 3) M_An_writeJoin Z 63 [some (vr 0 a), some (vr 2 k), some (vi (nI p)), some (vi (nI f)), some (vi (nI (pP V p 1))), some (vr 17 (ρ n)), some (vi (nI i)), some (vi (bI (bT V i = p)))] [] I1 L1 R Z Q := by
      intro hat
      refine aw_aload e_An_writeJoin_63 rfl ?_
      refine aw_iload e_An_writeJoin_65 rfl ?_
      refine aw_iconst (v := nI 1) e_An_writeJoin_67 (by decide) ?_
      refine aw_iload e_An_writeJoin_68 rfl ?_
      refine awN_isub e_An_writeJoin_70 (by omega) ?_
      refine aw_cS2 e_An_writeJoin_71 ml_An_49 mf_An_column ms_An_column (c_An_column ?_)
      refine aw_iload e_An_writeJoin_74 rfl ?_
      refine awB_eq e_An_writeJoin_76 (fun h76 => ?_) (fun h76 => ?_)
      · refine aw_ldc2 (v := lN 1000002) e_An_writeJoin_83 kl_An_114 ?_
        have k86 := k86 hat
        first
          | (rw [if_pos h76] at k86; exact k86)
          | (rw [if_neg h76] at k86; exact k86)
      · refine aw_lconst (v := lN 1) e_An_writeJoin_79 rfl ?_
        refine aw_goto e_An_writeJoin_80 ?_
        have k86 := k86 hat
        first
          | (rw [if_pos h76] at k86; exact k86)
          | (rw [if_neg h76] at k86; exact k86)
    have k47 : AWq l E (d + 3) M_An_writeJoin Z 47 [some (vr 0 a), some (vr 2 k), some (vi (nI p)), some (vi (nI f)), some (vi (nI (pP V p 1))), some (vr 17 (ρ n)), some (vi (nI i)), some (vi (bI (bT V i = p)))] [] I1 L1 R Z Q := by
      refine aw_iload e_An_writeJoin_47 rfl ?_
      refine awB_ne e_An_writeJoin_49 (fun h49 => ?_) (fun h49 => ?_)
      · first
          | exact k63 (atB_T h49)
          | exact k63 (atB_F h60)
      · refine aw_aload_n e_An_writeJoin_52 rfl ?_
        refine aw_getR e_An_writeJoin_53 fl_An_111 (hS.1 _ _ _ _ rfl) ?_
        refine aw_iload e_An_writeJoin_56 rfl ?_
        refine aw_ialE e_An_writeJoin_58 rfl (show _ < 12 by omega) (by omega) (hC1.2.2.1 _ (by omega)) ?_
        refine aw_iload_n e_An_writeJoin_59 rfl ?_
        refine awN_icmp_ne e_An_writeJoin_60 (by omega) (by omega) (fun h60 => ?_) (fun h60 => ?_)
        · refine aw_inc6 e_An_writeJoin_111 (inc1 _) ?_
          refine aw_goto e_An_writeJoin_114 ?_
          refine aw_drop 7 ?_
          first
            | exact ih h26 _ _ _ _ hA3 (JI_yes hJ (by omega) (by omega) hat (by omega)) (frI_t hf1 hf3) (frL_t hg1 (frL_t (frL_s hA.1 (by omega)) hg3)) (by omega)
            | exact ih h26 _ _ _ _ hA2 (by subst h90; exact JI_first hJ hf0 hat) hf1 (frL_t hg1 (frL_s hA.1 (by omega))) (by omega)
            | exact ih h26 _ _ _ _ hA1 (JI_no hJ hfi hff (atB_N h60 h49)) hf1 hg1 (by omega)
        · first
            | exact k63 (atB_T h49)
            | exact k63 (atB_F h60)
    refine aw_aload_n e_An_writeJoin_29 rfl ?_
    refine aw_getR e_An_writeJoin_30 fl_An_108 (hS.1 _ _ _ _ rfl) ?_
    refine aw_iload e_An_writeJoin_33 rfl ?_
    refine aw_ialE e_An_writeJoin_35 rfl (show _ < 12 by omega) (by omega) (hC1.2.2.2.1 _ (by omega)) ?_
    refine aw_iload_n e_An_writeJoin_36 rfl ?_
    refine awN_icmp_ne e_An_writeJoin_37 (by omega) (by omega) (fun h37 => ?_) (fun h37 => ?_)
    · refine aw_iconst (v := nI 0) e_An_writeJoin_44 (by decide) ?_
      refine aw_ist7 e_An_writeJoin_45 ?_
      first
        | exact bI_t h37 ▸ k47
        | exact bI_f h37 ▸ k47
    · refine aw_iconst (v := nI 1) e_An_writeJoin_40 (by decide) ?_
      refine aw_goto e_An_writeJoin_41 ?_
      refine aw_ist7 e_An_writeJoin_45 ?_
      first
        | exact bI_t h37 ▸ k47
        | exact bI_f h37 ▸ k47
