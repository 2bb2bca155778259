/-! ===== Machine: a step, a bond that breaks, pieces ===== -/
theorem CM_P {I : It} {R : Rt} {Z : Zt} {k : Nat} {V : Mc} (h : CM I R Z k V) {g : Nat → Nat → Nat} (hg : ∀ p f, p < nP V → f < 5 → g p f = pP V p f) : CM I R Z k (nP V, nB V, nX V, nS V, g, V.2.2.2.2.2) := by
  obtain ⟨h1, h5, h6, h7, h8⟩ := h
  refine ⟨h1, fun p f hp hf => ?_, h6, h7, h8⟩
  show I 3 (12 * k + p) f = nI (g p f)
  rw [hg p f hp hf]
  exact h5 p f hp hf
theorem CM_setSt {I : It} {R : Rt} {Z : Zt} {k : Nat} {V : Mc} (h : CM I R Z k V) (s : Nat) : CM (sI I 2 k 7 (nI s)) R Z k (setSt V s) := by
  obtain ⟨⟨h1, h2, h3, h4⟩, h5, h6, h7, h8⟩ := h
  refine ⟨⟨?_, ?_, ?_, ?_⟩, fun p f hp hf => ?_, fun b hb => ?_, fun b hb => ?_, fun j hj => ?_⟩
  · rw [sI_s]; exact h1
  · rw [sI_s]; exact h2
  · rw [sI_s]; exact h3
  · rw [sI_s]; rfl
  · rw [sI_n (by omega)]; exact h5 p f hp hf
  · rw [sI_n (by omega)]; exact h6 b hb
  · rw [sI_n (by omega)]; exact h7 b hb
  · obtain ⟨x, r1, r2⟩ := h8 j hj
    exact ⟨x, r1, r2.keep ⟨sI_n (by omega), sI_n (by omega)⟩ rfl rfl⟩
theorem WF_setSt {V : Mc} (hW : WF V) {s : Nat} (hs : s ≤ 20000) : WF (setSt V s) := ⟨⟨hW.1.1, hW.1.2.1, hW.1.2.2.1, hs⟩, hW.2.1, hW.2.2.1, hW.2.2.2⟩
theorem stH_lt {V : Mc} (hW : WF V) {pu pa : Nat → Nat} {p : Nat} (hp : p < nP V) : stH V pu pa p < 1000003 := by
  unfold stH
  split
  · exact modP _
  · exact (hW.2.1 p hp).2.2.2.2
theorem bnd_1 {V : Mc} {p s : Nat} (hW : WF V) : (bnd V p s).toInt = -1 ↔ ¬ fst' (atB V p) (nB V) s < nB V := by
  have h12 := hW.1.2.1
  unfold bnd
  by_cases h : fst' (atB V p) (nB V) s < nB V
  · rw [if_pos h, nT (by omega)]
    omega
  · rw [if_neg h]
    exact ⟨fun _ => h, fun _ => rfl⟩
/-- holds up to i are those behind the step -/
def hI_ (V : Mc) (pu pa : Nat → Nat) (i p : Nat) : Nat := if p < i then stH V pu pa p else pP V p 4
theorem hI_lt {V : Mc} (hW : WF V) {pu pa : Nat → Nat} {i p : Nat} (hp : p < nP V) : hI_ V pu pa i p < 1000003 := by
  unfold hI_
  split
  · exact stH_lt hW hp
  · exact (hW.2.1 p hp).2.2.2.2
theorem hI_n {V : Mc} {pu pa : Nat → Nat} {i p : Nat} (h : ¬ p = i) : hI_ V pu pa (i + 1) p = hI_ V pu pa i p := by
  unfold hI_
  by_cases h2 : p < i
  · rw [if_pos h2, if_pos (by omega)]
  · rw [if_neg h2, if_neg (by omega)]
theorem hI_s (V : Mc) (pu pa : Nat → Nat) (i : Nat) : hI_ V pu pa (i + 1) i = stH V pu pa i := if_pos (Nat.lt_succ_self i)
theorem hI_o (V : Mc) (pu pa : Nat → Nat) (i : Nat) : hI_ V pu pa i i = pP V i 4 := if_neg (Nat.lt_irrefl i)
/-- one bond less -/
def dropB (V : Mc) (b : Nat) : Mc := (nP V, nB V - 1, nX V, nS V, V.2.2.2.2.1, fun j => if j < b then bF V j else bF V (j + 1), fun j => if j < b then bT V j else bT V (j + 1), V.2.2.2.2.2.2.2)
theorem WF_dropB {V : Mc} (hW : WF V) {b : Nat} (hb : b < nB V) : WF (dropB V b) := by
  obtain ⟨h1, h2, h3, h4⟩ := hW
  refine ⟨⟨h1.1, by show nB V - 1 ≤ 12; omega, h1.2.2⟩, h2, fun j hj => ?_, h4⟩
  have hj : j < nB V - 1 := hj
  show (if j < b then bF V j else bF V (j + 1)) < nP V ∧ (if j < b then bT V j else bT V (j + 1)) < nP V ∧ (if j < b then bF V j else bF V (j + 1)) ≠ (if j < b then bT V j else bT V (j + 1))
  by_cases e : j < b
  · rw [if_pos e, if_pos e]; exact h3 j (by omega)
  · rw [if_neg e, if_neg e]; exact h3 (j + 1) (by omega)
def iter (f : Nat → Nat) : Nat → Nat → Nat
  | 0, x => x
  | n + 1, x => iter f n (f x)
theorem iter_s (f : Nat → Nat) : ∀ n x, iter f (n + 1) x = f (iter f n x)
  | 0, _ => rfl
  | n + 1, x => iter_s f n (f x)
theorem iter_lt {V : Mc} (hW : WF V) : ∀ n x, x < 4096 → iter (fun m => nbL V m (nB V)) n x < 4096
  | 0, _, h => h
  | n + 1, x, h => iter_lt hW n _ (nbL_lt hW h _ (Nat.le_refl _))
def pcs (V : Mc) : Nat → Nat × Nat
  | 0 => (0, 0)
  | n + 1 => if (pcs V n).2.testBit n then pcs V n else ((pcs V n).1 + 1, iter (fun m => nbL V m (nB V)) (nP V) ((pcs V n).2 ||| 2 ^ n))
theorem pcs_lt {V : Mc} (hW : WF V) : ∀ n, n ≤ 12 → (pcs V n).2 < 4096 ∧ (pcs V n).1 ≤ n
  | 0, _ => ⟨by show 0 < 4096; decide, Nat.le_refl _⟩
  | n + 1, h => by
    have ih := pcs_lt hW n (by omega)
    unfold pcs
    split
    · exact ⟨ih.1, by omega⟩
    · exact ⟨iter_lt hW _ _ (or_lt ih.1 (pow12 (by omega))), by show (pcs V n).1 + 1 ≤ n + 1; omega⟩
theorem c_Ma_doStep {l : Launch} {E : En} {d : Nat} {I : It} {L : Lt} {R : Rt} {Z : Zt} {Q : Qt} {k : Nat} {V : Mc} (hS : Sta R) (hk : k < 3) (hC : CM I R Z k V) (hW : WF V) {a : Nat} {pu pa : Nat → Nat} (hs : nS V < 20000) (hA : ansI I a (nB V) pu pa) (hQ : ∀ I2, CM I2 R Z k (stepV V pu pa) → (∀ t i, ¬ own k t i → ¬ (t = 22 ∧ i = 0) → I2 t i = I t i) → Q none I2 L R Z) : AMet l E (d + 5) M_Ma_doStep [vr 2 k, vr 0 a, vr 22 0] I L R Z Q := by
  have hnb := hW.1.2.1
  have hnp := hW.1.1
  have hnx := hW.1.2.2.1
  have hns := hW.1.2.2.2
  have hC0 : CM I R Z k (mkH V (hI_ V pu pa 0)) := CM_P hC (fun p f hp hf => by
    show (if f = 4 then hI_ V pu pa 0 p else pP V p f) = pP V p f
    by_cases e : f = 4
    · rw [if_pos e, e]; rfl
    · rw [if_neg e])
  refine AMet.of mf_Ma_doStep rfl (Nat.le_of_ble_eq_true rfl) ?_
  refine aw_iconst (v := nI 0) e_Ma_doStep_0 (by decide) ?_
  refine aw_ist3 e_Ma_doStep_1 ?_
  refine up_loop (P := fun i => ∀ I1, (∀ t j, ¬ own k t j → I1 t j = I t j) → CM I1 R Z k (mkH V (hI_ V pu pa i)) → AWq l E (d + 5) M_Ma_doStep Z 2 [some (vr 2 k), some (vr 0 a), some (vr 22 0), some (vi (nI i)), none, none] [] I1 L R Z Q) (N := nP V) (fun i hi ih I1 hv1 hC1 => ?_) 0 (Nat.zero_le _) I (fun _ _ _ => rfl) hC0
  have hW1 : WF (mkH V (hI_ V pu pa i)) := WF_mkH hW (fun p hp => hI_lt hW hp)
  refine aw_iload_n e_Ma_doStep_2 rfl ?_
  refine aw_aload_n e_Ma_doStep_3 rfl ?_
  refine aw_getE e_Ma_doStep_4 fl_Ma_31 (x := nI (nP V)) hC1.1.1 ?_
  refine awN_icmp_ge e_Ma_doStep_7 (by omega) (by omega) (fun h7 => ?_) (fun h7 => ?_)
  · have hiN : i = nP V := by omega
    subst hiN
    refine aw_aload_n e_Ma_doStep_98 rfl ?_
    refine aw_dup e_Ma_doStep_99 rfl ?_
    refine aw_getE e_Ma_doStep_100 fl_Ma_45 (x := nI (nS V)) hC1.1.2.2.2 ?_
    refine aw_iconst (v := nI 1) e_Ma_doStep_103 (by decide) ?_
    first | refine awN_iadd e_Ma_doStep_104 ?_ | refine aw_iadd e_Ma_doStep_104 ?_
    refine aw_putI e_Ma_doStep_105 fl_Ma_45 ?_
    refine aw_iconst (v := nI 0) e_Ma_doStep_108 (by decide) ?_
    refine aw_ist3 e_Ma_doStep_109 ?_
    have hW2 : WF (setSt (mkH V (stH V pu pa)) (nS V + 1)) := WF_setSt (WF_mkH hW (fun p hp => stH_lt hW hp)) (by omega)
    have hC1b : CM I1 R Z k (mkH V (stH V pu pa)) := CM_P hC1 (fun p f hp hf => by
      have hp : p < nP V := hp
      show (if f = 4 then stH V pu pa p else pP V p f) = (if f = 4 then hI_ V pu pa (nP V) p else pP V p f)
      unfold hI_
      rw [if_pos hp])
    refine up_loop (P := fun i => ∀ I2, (∀ t j, ¬ own k t j → ¬ (t = 22 ∧ j = 0) → I2 t j = I t j) → CM I2 R Z k (folV (setSt (mkH V (stH V pu pa)) (nS V + 1)) i) → AWq l E (d + 5) M_Ma_doStep Z 110 [some (vr 2 k), some (vr 0 a), some (vr 22 0), some (vi (nI i)), none, none] [] I2 L R Z Q) (N := nP V) (fun i hi ih I2 hv2 hC2 => ?_) 0 (Nat.zero_le _) _ (fun t j h1 h2 => ?_) (CM_setSt hC1b (nS V + 1))
    rotate_left
    · rw [sI_n (fun z => h1 (by unfold own; omega))]
      exact hv1 t j h1
    have hfn := folV_n (setSt (mkH V (stH V pu pa)) (nS V + 1)) i
    refine aw_iload_n e_Ma_doStep_110 rfl ?_
    refine aw_aload_n e_Ma_doStep_111 rfl ?_
    refine aw_getE e_Ma_doStep_112 fl_Ma_31 (x := nI (nP V)) (hC2.1.1.trans (congrArg nI hfn.1)) ?_
    refine awN_icmp_ge e_Ma_doStep_115 (by omega) (by omega) (fun h115 => ?_) (fun h115 => ?_)
    · have hiN : i = nP V := by omega
      subst hiN
      exact aw_vret e_Ma_doStep_130 rfl (hQ I2 hC2 hv2)
    · refine aw_aload_n e_Ma_doStep_118 rfl ?_
      refine aw_iload_n e_Ma_doStep_119 rfl ?_
      refine aw_aload_n e_Ma_doStep_120 rfl ?_
      refine aw_cV2 e_Ma_doStep_121 ml_Ma_100 mf_Ma_followText mv_Ma_followText (c_Ma_followText hS hk hC2 (WF_folV hW2 i) (by omega) (fun I3 hC3 hv3 => ?_))
      refine aw_inc3 e_Ma_doStep_124 (inc1 _) ?_
      refine aw_goto e_Ma_doStep_127 ?_
      refine ih h115 I3 (fun t j h1 h2 => (hv3 t j h1 h2).trans (hv2 t j h1 h2)) hC3
  · have hpw := hW.2.1 i h7
    have hh4 : I1 3 (12 * k + i) 4 = nI (pP V i 4) := (hC1.2.1 i 4 h7 (by decide)).trans (congrArg nI (hI_o V pu pa i))
    refine aw_aload_n e_Ma_doStep_10 rfl ?_
    refine aw_iload_n e_Ma_doStep_11 rfl ?_
    refine aw_iconst (v := -1) e_Ma_doStep_12 (by decide) ?_
    refine aw_cV2 e_Ma_doStep_13 ml_Ma_86 mf_Ma_nextBondOf mv_Ma_nextBondOf (c_Ma_nextBondOf hS hk hC1 hW1 (by omega) (s := 0) rfl (Nat.zero_le _) ?_)
    refine aw_ist4 e_Ma_doStep_16 ?_
    refine aw_aload_n e_Ma_doStep_18 rfl ?_
    refine aw_getR e_Ma_doStep_19 fl_Ma_11 (hS.1 _ _ _ _ rfl) ?_
    refine aw_iload_n e_Ma_doStep_22 rfl ?_
    refine aw_aald e_Ma_doStep_23 rfl (show _ < 12 by omega) (by omega) (hS.2.1 _ _ (by omega) (by omega)) ?_
    refine aw_getE e_Ma_doStep_24 fl_Ma_56 (x := nI (pP V i 0)) (hC1.2.1 i 0 h7 (by decide)) ?_
    refine aw_iconst (v := nI 1) e_Ma_doStep_27 (by decide) ?_
    refine awN_icmp_ne e_Ma_doStep_28 (by omega) (by omega) (fun h28 => ?_) (fun h28 => ?_)
    · refine aw_inc3 e_Ma_doStep_92 (inc1 _) ?_
      refine aw_goto e_Ma_doStep_95 ?_
      refine aw_drop 4 ?_
      refine aw_drop 5 ?_
      have hst : stH V pu pa i = pP V i 4 := if_neg (by exact fun z => h28 z.1)
      refine ih h7 I1 hv1 (CM_P hC1 (fun p f hp hf => ?_))
      show (if f = 4 then hI_ V pu pa (i + 1) p else pP V p f) = (if f = 4 then hI_ V pu pa i p else pP V p f)
      by_cases e : p = i
      · subst e
        rw [hI_s, hI_o, hst]
      · rw [hI_n e]
    · refine aw_iload e_Ma_doStep_31 rfl ?_
      refine aw_iconst (v := -1) e_Ma_doStep_33 (by decide) ?_
      refine awZ_icmp_eq e_Ma_doStep_34 (fun h34 => ?_) (fun h34 => ?_)
      · refine aw_inc3 e_Ma_doStep_92 (inc1 _) ?_
        refine aw_goto e_Ma_doStep_95 ?_
        refine aw_drop 4 ?_
        refine aw_drop 5 ?_
        have hst : stH V pu pa i = pP V i 4 := if_neg (by exact fun z => (bnd_1 hW).mp h34 z.2)
        refine ih h7 I1 hv1 (CM_P hC1 (fun p f hp hf => ?_))
        show (if f = 4 then hI_ V pu pa (i + 1) p else pP V p f) = (if f = 4 then hI_ V pu pa i p else pP V p f)
        by_cases e : p = i
        · subst e
          rw [hI_s, hI_o, hst]
        · rw [hI_n e]
      · have hlt : fst' (atB V i) (nB V) 0 < nB V := Decidable.byContradiction (fun q => h34 ((bnd_1 hW).mpr q))
        obtain ⟨b, hbe⟩ : ∃ b, b = fst' (atB V i) (nB V) 0 := ⟨_, rfl⟩
        have hbn : bnd V i 0 = nI b := by unfold bnd; rw [if_pos hlt, hbe]
        have hab := hA b (by omega)
        refine aw_aload_n e_Ma_doStep_37 rfl ?_
        refine aw_getR e_Ma_doStep_38 fl_Ma_11 (hS.1 _ _ _ _ rfl) ?_
        refine aw_iload_n e_Ma_doStep_41 rfl ?_
        refine aw_aald e_Ma_doStep_42 rfl (show _ < 12 by omega) (by omega) (hS.2.1 _ _ (by omega) (by omega)) ?_
        refine aw_getE e_Ma_doStep_43 fl_Ma_89 (x := nI (pP V i 1)) (hC1.2.1 i 1 h7 (by decide)) ?_
        refine awN_if_ne e_Ma_doStep_46 (by omega) (fun h46 => ?_) (fun h46 => ?_)
        · refine aw_aload_n e_Ma_doStep_59 rfl ?_
          refine aw_getR e_Ma_doStep_60 fl_Ma_97 (hS.1 _ _ _ _ rfl) ?_
          refine aw_iload e_Ma_doStep_63 rfl ?_
          refine aw_ialE e_Ma_doStep_65 hbn (show _ < 12 by omega) (by omega) (y := nI (pu b)) (by rw [hv1 14 a (by unfold own; omega)]; exact hab.1) ?_
          refine aw_ist5 e_Ma_doStep_66 ?_
          refine aw_aload_n e_Ma_doStep_68 rfl ?_
          refine aw_getR e_Ma_doStep_69 fl_Ma_11 (hS.1 _ _ _ _ rfl) ?_
          refine aw_iload_n e_Ma_doStep_72 rfl ?_
          refine aw_aald e_Ma_doStep_73 rfl (show _ < 12 by omega) (by omega) (hS.2.1 _ _ (by omega) (by omega)) ?_
          refine aw_aload_n e_Ma_doStep_74 rfl ?_
          refine aw_getR e_Ma_doStep_75 fl_Ma_11 (hS.1 _ _ _ _ rfl) ?_
          refine aw_iload_n e_Ma_doStep_78 rfl ?_
          refine aw_aald e_Ma_doStep_79 rfl (show _ < 12 by omega) (by omega) (hS.2.1 _ _ (by omega) (by omega)) ?_
          refine aw_getE e_Ma_doStep_80 fl_Ma_59 hh4 ?_
          refine aw_iload e_Ma_doStep_83 rfl ?_
          first | refine awN_iadd e_Ma_doStep_85 ?_ | refine aw_iadd e_Ma_doStep_85 ?_
          refine aw_cSN1 e_Ma_doStep_86 mn_Ma_62 mf_Pb_worthOf ms_Pb_worthOf (c_Pb_worthOf ?_)
          rw [nT (by omega), wof_nat]
          refine aw_putI e_Ma_doStep_89 fl_Ma_59 ?_
          refine aw_inc3 e_Ma_doStep_92 (inc1 _) ?_
          refine aw_goto e_Ma_doStep_95 ?_
          refine aw_drop 4 ?_
          refine aw_drop 5 ?_
          have hst : stH V pu pa i = (pP V i 4 + pu b) % 1000003 := by
            unfold stH
            rw [if_pos ⟨h28, hlt⟩, if_neg h46, hbe]
          rw [← hst]
          refine ih h7 _ (fun t j hj => ?_) (CM_P (CM_setH hC1 hW1 (v := stH V pu pa i) h7) (fun p f hp hf => ?_))
          · rw [sI_n (fun z => hj (by unfold own; omega))]
            exact hv1 t j hj
          · show (if f = 4 then hI_ V pu pa (i + 1) p else pP V p f) = (if p = i ∧ f = 4 then stH V pu pa i else if f = 4 then hI_ V pu pa i p else pP V p f)
            by_cases e4 : f = 4
            · rw [if_pos e4, if_pos e4]
              by_cases e : p = i
              · rw [if_pos ⟨e, e4⟩, e, hI_s]
              · rw [if_neg (fun z => e z.1), hI_n e]
            · rw [if_neg e4, if_neg (fun z => e4 z.2), if_neg e4]
        · refine aw_aload_n e_Ma_doStep_49 rfl ?_
          refine aw_getR e_Ma_doStep_50 fl_Ma_92 (hS.1 _ _ _ _ rfl) ?_
          refine aw_iload e_Ma_doStep_53 rfl ?_
          refine aw_ialE e_Ma_doStep_55 hbn (show _ < 12 by omega) (by omega) (y := nI (pa b)) (by rw [hv1 15 a (by unfold own; omega)]; exact hab.2.1) ?_
          refine aw_goto e_Ma_doStep_56 ?_
          refine aw_ist5 e_Ma_doStep_66 ?_
          refine aw_aload_n e_Ma_doStep_68 rfl ?_
          refine aw_getR e_Ma_doStep_69 fl_Ma_11 (hS.1 _ _ _ _ rfl) ?_
          refine aw_iload_n e_Ma_doStep_72 rfl ?_
          refine aw_aald e_Ma_doStep_73 rfl (show _ < 12 by omega) (by omega) (hS.2.1 _ _ (by omega) (by omega)) ?_
          refine aw_aload_n e_Ma_doStep_74 rfl ?_
          refine aw_getR e_Ma_doStep_75 fl_Ma_11 (hS.1 _ _ _ _ rfl) ?_
          refine aw_iload_n e_Ma_doStep_78 rfl ?_
          refine aw_aald e_Ma_doStep_79 rfl (show _ < 12 by omega) (by omega) (hS.2.1 _ _ (by omega) (by omega)) ?_
          refine aw_getE e_Ma_doStep_80 fl_Ma_59 hh4 ?_
          refine aw_iload e_Ma_doStep_83 rfl ?_
          first | refine awN_iadd e_Ma_doStep_85 ?_ | refine aw_iadd e_Ma_doStep_85 ?_
          refine aw_cSN1 e_Ma_doStep_86 mn_Ma_62 mf_Pb_worthOf ms_Pb_worthOf (c_Pb_worthOf ?_)
          rw [nT (by omega), wof_nat]
          refine aw_putI e_Ma_doStep_89 fl_Ma_59 ?_
          refine aw_inc3 e_Ma_doStep_92 (inc1 _) ?_
          refine aw_goto e_Ma_doStep_95 ?_
          refine aw_drop 4 ?_
          refine aw_drop 5 ?_
          have hst : stH V pu pa i = (pP V i 4 + pa b) % 1000003 := by
            unfold stH
            rw [if_pos ⟨h28, hlt⟩, if_pos h46, hbe]
          rw [← hst]
          refine ih h7 _ (fun t j hj => ?_) (CM_P (CM_setH hC1 hW1 (v := stH V pu pa i) h7) (fun p f hp hf => ?_))
          · rw [sI_n (fun z => hj (by unfold own; omega))]
            exact hv1 t j hj
          · show (if f = 4 then hI_ V pu pa (i + 1) p else pP V p f) = (if p = i ∧ f = 4 then stH V pu pa i else if f = 4 then hI_ V pu pa i p else pP V p f)
            by_cases e4 : f = 4
            · rw [if_pos e4, if_pos e4]
              by_cases e : p = i
              · rw [if_pos ⟨e, e4⟩, e, hI_s]
              · rw [if_neg (fun z => e z.1), hI_n e]
            · rw [if_neg e4, if_neg (fun z => e4 z.2), if_neg e4]
theorem c_Ma_dropBond {l : Launch} {E : En} {d : Nat} {I : It} {L : Lt} {R : Rt} {Z : Zt} {Q : Qt} {k : Nat} {V : Mc} (hS : Sta R) (hk : k < 3) (hC : CM I R Z k V) (hW : WF V) {bo : Nat} (hb : bo < nB V) (hQ : ∀ I2, CM I2 R Z k (dropB V bo) → (∀ t i, ¬ own k t i → I2 t i = I t i) → Q none I2 L R Z) : AMet l E d M_Ma_dropBond [vr 2 k, vi (nI bo)] I L R Z Q := by
  have hnb := hW.1.2.1
  have hnp := hW.1.1
  have hnx := hW.1.2.2.1
  have hns := hW.1.2.2.2
  refine AMet.of mf_Ma_dropBond rfl (Nat.le_of_ble_eq_true rfl) ?_
  refine aw_iload_n e_Ma_dropBond_0 rfl ?_
  refine aw_ist2 e_Ma_dropBond_1 ?_
  refine up_loop (P := fun i => bo ≤ i → ∀ I1, (∀ t j, ¬ own k t j → I1 t j = I t j) ∧ I1 2 k = I 2 k ∧ (∀ p f, p < nP V → f < 5 → I1 3 (12 * k + p) f = nI (pP V p f)) ∧ (∀ b, b < nB V → I1 11 k b = nI (if bo ≤ b ∧ b < i then bF V (b + 1) else bF V b) ∧ I1 12 k b = nI (if bo ≤ b ∧ b < i then bT V (b + 1) else bT V b)) → AWq l E d M_Ma_dropBond Z 2 [some (vr 2 k), some (vi (nI bo)), some (vi (nI i))] [] I1 L R Z Q) (N := nB V - 1) (fun i hi ih hbi I1 hv => ?_) bo (by omega) (Nat.le_refl _) I ⟨fun _ _ _ => rfl, rfl, hC.2.1, fun b hb => ⟨by rw [if_neg (by omega)]; exact hC.2.2.1 b hb, by rw [if_neg (by omega)]; exact hC.2.2.2.1 b hb⟩⟩
  refine aw_iload_n e_Ma_dropBond_2 rfl ?_
  refine aw_aload_n e_Ma_dropBond_3 rfl ?_
  refine aw_getE e_Ma_dropBond_4 fl_Ma_39 (x := nI (nB V)) (by rw [hv.2.1]; exact hC.1.2.1) ?_
  refine aw_iconst (v := nI 1) e_Ma_dropBond_7 (by decide) ?_
  first | refine awN_isub e_Ma_dropBond_8 (by omega) ?_ | refine aw_isub e_Ma_dropBond_8 ?_
  refine awN_icmp_ge e_Ma_dropBond_9 (by omega) (by omega) (fun h9 => ?_) (fun h9 => ?_)
  · refine aw_aload_n e_Ma_dropBond_46 rfl ?_
    refine aw_dup e_Ma_dropBond_47 rfl ?_
    refine aw_getE e_Ma_dropBond_48 fl_Ma_39 (x := nI (nB V)) (by rw [hv.2.1]; exact hC.1.2.1) ?_
    refine aw_iconst (v := nI 1) e_Ma_dropBond_51 (by decide) ?_
    first | refine awN_isub e_Ma_dropBond_52 (by omega) ?_ | refine aw_isub e_Ma_dropBond_52 ?_
    refine aw_putI e_Ma_dropBond_53 fl_Ma_39 ?_
    have hiN : i = nB V - 1 := by omega
    refine aw_vret e_Ma_dropBond_56 rfl (hQ _ ⟨⟨?_, ?_, ?_, ?_⟩, fun p f hp hf => ?_, fun b hb => ?_, fun b hb => ?_, fun j hj => ?_⟩ (fun t j hj => ?_))
    · rw [sI_s, upd, if_neg (by decide), hv.2.1]; exact hC.1.1
    · rw [sI_s, upd, if_pos rfl]; rfl
    · rw [sI_s, upd, if_neg (by decide), hv.2.1]; exact hC.1.2.2.1
    · rw [sI_s, upd, if_neg (by decide), hv.2.1]; exact hC.1.2.2.2
    · rw [sI_n (by omega)]; exact hv.2.2.1 p f hp hf
    · have hb : b < nB V - 1 := hb
      rw [sI_n (by omega), (hv.2.2.2 b (by omega)).1]
      show _ = nI (if b < bo then bF V b else bF V (b + 1))
      congr 1
      by_cases e : b < bo
      · rw [if_pos e, if_neg (by omega)]
      · rw [if_neg e, if_pos (by omega)]
    · have hb : b < nB V - 1 := hb
      rw [sI_n (by omega), (hv.2.2.2 b (by omega)).2]
      show _ = nI (if b < bo then bT V b else bT V (b + 1))
      congr 1
      by_cases e : b < bo
      · rw [if_pos e, if_neg (by omega)]
      · rw [if_neg e, if_pos (by omega)]
    · obtain ⟨x, r1, r2⟩ := hC.2.2.2.2 j hj
      refine ⟨x, r1, r2.keep ⟨?_, ?_⟩ rfl rfl⟩
      · rw [sI_n (by omega)]; exact hv.1 7 x (by unfold own; omega)
      · rw [sI_n (by omega)]; exact hv.1 27 x (by unfold own; omega)
    · rw [sI_n (fun z => hj (by unfold own; omega))]
      exact hv.1 t j hj
  · refine aw_aload_n e_Ma_dropBond_12 rfl ?_
    refine aw_getR e_Ma_dropBond_13 fl_Ma_17 (hS.1 _ _ _ _ rfl) ?_
    refine aw_iload_n e_Ma_dropBond_16 rfl ?_
    refine aw_aload_n e_Ma_dropBond_17 rfl ?_
    refine aw_getR e_Ma_dropBond_18 fl_Ma_17 (hS.1 _ _ _ _ rfl) ?_
    refine aw_iload_n e_Ma_dropBond_21 rfl ?_
    refine aw_iconst (v := nI 1) e_Ma_dropBond_22 (by decide) ?_
    first | refine awN_iadd e_Ma_dropBond_23 ?_ | refine aw_iadd e_Ma_dropBond_23 ?_
    refine aw_ialE e_Ma_dropBond_24 rfl (show _ < 12 by omega) (by omega) (y := nI (bF V (i + 1))) (by rw [(hv.2.2.2 (i + 1) (by omega)).1, if_neg (by omega)]) ?_
    refine aw_iast e_Ma_dropBond_25 rfl (show _ < 12 by omega) (by omega) ?_
    refine aw_aload_n e_Ma_dropBond_26 rfl ?_
    refine aw_getR e_Ma_dropBond_27 fl_Ma_21 (hS.1 _ _ _ _ rfl) ?_
    refine aw_iload_n e_Ma_dropBond_30 rfl ?_
    refine aw_aload_n e_Ma_dropBond_31 rfl ?_
    refine aw_getR e_Ma_dropBond_32 fl_Ma_21 (hS.1 _ _ _ _ rfl) ?_
    refine aw_iload_n e_Ma_dropBond_35 rfl ?_
    refine aw_iconst (v := nI 1) e_Ma_dropBond_36 (by decide) ?_
    first | refine awN_iadd e_Ma_dropBond_37 ?_ | refine aw_iadd e_Ma_dropBond_37 ?_
    refine aw_ialE e_Ma_dropBond_38 rfl (show _ < 12 by omega) (by omega) (y := nI (bT V (i + 1))) (by rw [sI_n (by omega), (hv.2.2.2 (i + 1) (by omega)).2, if_neg (by omega)]) ?_
    refine aw_iast e_Ma_dropBond_39 rfl (show _ < 12 by omega) (by omega) ?_
    refine aw_inc2 e_Ma_dropBond_40 (inc1 _) ?_
    refine aw_goto e_Ma_dropBond_43 ?_
    refine ih h9 (by omega) _ ⟨fun t j hj => ?_, ?_, fun p f hp hf => ?_, fun b hb => ⟨?_, ?_⟩⟩
    · rw [sI_n (fun z => hj (by unfold own; omega)), sI_n (fun z => hj (by unfold own; omega))]
      exact hv.1 t j hj
    · rw [sI_n (by omega), sI_n (by omega)]
      exact hv.2.1
    · rw [sI_n (by omega), sI_n (by omega)]
      exact hv.2.2.1 p f hp hf
    · rw [sI_n (by omega), sI_s]
      unfold upd
      by_cases e : b = i
      · rw [if_pos e, if_pos (by omega), e]
      · rw [if_neg e, (hv.2.2.2 b hb).1]
        congr 1
        by_cases e2 : bo ≤ b ∧ b < i
        · rw [if_pos e2, if_pos (by omega)]
        · rw [if_neg e2, if_neg (by omega)]
    · rw [sI_s]
      unfold upd
      by_cases e : b = i
      · rw [if_pos e, if_pos (by omega), e]
      · rw [if_neg e, sI_n (by omega), (hv.2.2.2 b hb).2]
        congr 1
        by_cases e2 : bo ≤ b ∧ b < i
        · rw [if_pos e2, if_pos (by omega)]
        · rw [if_neg e2, if_neg (by omega)]
theorem c_Ma_pieces {l : Launch} {E : En} {d : Nat} {I : It} {L : Lt} {R : Rt} {Z : Zt} {Q : Qt} {k : Nat} {V : Mc} (hS : Sta R) (hk : k < 3) (hC : CM I R Z k V) (hW : WF V) (hQ : Q (some (vi (nI (pcs V (nP V)).1))) I L R Z) : AMet l E (d + 1) M_Ma_pieces [vr 2 k] I L R Z Q := by
  have hnb := hW.1.2.1
  have hnp := hW.1.1
  have hnx := hW.1.2.2.1
  have hns := hW.1.2.2.2
  refine AMet.of mf_Ma_pieces rfl (Nat.le_of_ble_eq_true rfl) ?_
  refine aw_iconst (v := nI 0) e_Ma_pieces_0 (by decide) ?_
  refine aw_ist1 e_Ma_pieces_1 ?_
  refine aw_iconst (v := nI 0) e_Ma_pieces_2 (by decide) ?_
  refine aw_ist2 e_Ma_pieces_3 ?_
  refine aw_iconst (v := nI 0) e_Ma_pieces_4 (by decide) ?_
  refine aw_ist3 e_Ma_pieces_5 ?_
  refine up_loop (P := fun i => AWq l E (d + 1) M_Ma_pieces Z 6 [some (vr 2 k), some (vi (nI (pcs V i).1)), some (vi (nI (pcs V i).2)), some (vi (nI i)), none] [] I L R Z Q) (N := nP V) (fun i hi ih => ?_) 0 (by omega)
  try dsimp only
  refine aw_iload_n e_Ma_pieces_6 rfl ?_
  refine aw_aload_n e_Ma_pieces_7 rfl ?_
  refine aw_getE e_Ma_pieces_8 fl_Ma_31 hC.1.1 ?_
  refine awN_icmp_ge e_Ma_pieces_11 (by omega) (by omega) (fun h11 => ?_) (fun h11 => ?_)
  · refine aw_iload_n e_Ma_pieces_61 rfl ?_
    exact aw_iret e_Ma_pieces_62 rfl rfl (by rw [show i = nP V by omega]; exact hQ)
  · have hpl := pcs_lt hW i (by omega)
    refine aw_iload_n e_Ma_pieces_14 rfl ?_
    refine aw_iload_n e_Ma_pieces_15 rfl ?_
    refine aw_ishr e_Ma_pieces_16 ?_
    rw [shrS (by omega) (by omega)]
    refine aw_iconst (v := nI 1) e_Ma_pieces_17 (by decide) ?_
    refine aw_iand e_Ma_pieces_18 ?_
    rw [and1 _ (Nat.lt_of_le_of_lt (Nat.div_le_self _ _) (by omega))]
    refine awN_if_ne e_Ma_pieces_19 (Nat.lt_of_lt_of_le (Nat.mod_lt _ (by decide)) (by decide)) (fun h19 => ?_) (fun h19 => ?_)
    · refine aw_inc3 e_Ma_pieces_55 (inc1 _) ?_
      refine aw_goto e_Ma_pieces_58 ?_
      have hnx2 := ih h11
      unfold pcs at hnx2
      first
        | (rw [if_pos ((tbit _ _).mp (by omega))] at hnx2; exact hnx2)
        | (rw [if_neg (fun z => by have := (tbit _ _).mpr z; omega)] at hnx2; rw [show j = nP V by omega]; exact aw_drop 4 hnx2)
    · refine aw_inc1 e_Ma_pieces_22 (inc1 _) ?_
      refine aw_iload_n e_Ma_pieces_25 rfl ?_
      refine aw_iconst (v := nI 1) e_Ma_pieces_26 (by decide) ?_
      refine aw_iload_n e_Ma_pieces_27 rfl ?_
      refine aw_ishl e_Ma_pieces_28 ?_
      rw [shlS (by omega) (by have := pow12 (f := i) (by omega); omega), Nat.one_mul]
      refine aw_ior e_Ma_pieces_29 ?_
      rw [fa_or]
      refine aw_ist2 e_Ma_pieces_30 ?_
      refine aw_iconst (v := nI 0) e_Ma_pieces_31 (by decide) ?_
      refine aw_ist4 e_Ma_pieces_32 ?_
      refine up_loop (P := fun j => AWq l E (d + 1) M_Ma_pieces Z 34 [some (vr 2 k), some (vi (nI ((pcs V i).1 + 1))), some (vi (nI (iter (fun m => nbL V m (nB V)) j ((pcs V i).2 ||| 2 ^ i)))), some (vi (nI i)), some (vi (nI j))] [] I L R Z Q) (N := nP V) (fun j hj2 ih2 => ?_) 0 (Nat.zero_le _)
      try dsimp only
      refine aw_iload e_Ma_pieces_34 rfl ?_
      refine aw_aload_n e_Ma_pieces_36 rfl ?_
      refine aw_getE e_Ma_pieces_37 fl_Ma_31 hC.1.1 ?_
      refine awN_icmp_ge e_Ma_pieces_40 (by omega) (by omega) (fun h40 => ?_) (fun h40 => ?_)
      · refine aw_inc3 e_Ma_pieces_55 (inc1 _) ?_
        refine aw_goto e_Ma_pieces_58 ?_
        have hnx2 := ih h11
        unfold pcs at hnx2
        first
          | (rw [if_pos ((tbit _ _).mp (by omega))] at hnx2; exact hnx2)
          | (rw [if_neg (fun z => by have := (tbit _ _).mpr z; omega)] at hnx2; rw [show j = nP V by omega]; exact aw_drop 4 hnx2)
      · refine aw_aload_n e_Ma_pieces_43 rfl ?_
        refine aw_iload_n e_Ma_pieces_44 rfl ?_
        refine aw_cV1 e_Ma_pieces_45 ml_Ma_104 mf_Ma_withNeighbours mv_Ma_withNeighbours (c_Ma_withNeighbours hS hk hC hW (iter_lt hW _ _ (or_lt hpl.1 (pow12 (by omega)))) ?_)
        rw [← iter_s (fun m => nbL V m (nB V))]
        refine aw_ist2 e_Ma_pieces_48 ?_
        refine aw_inc4 e_Ma_pieces_49 (inc1 _) ?_
        refine aw_goto e_Ma_pieces_52 ?_
        exact ih2 h40
