/-! ===== the model: gives, a step, rows set aside ===== -/
theorem fol_no {V : Mc} {p : Nat} (h : ¬ (p < nP V ∧ pP V p 0 = 3) ∨ lastT V 0 p (nX V) = none) : follow V p = V := by
  unfold follow
  split
  · rename_i j hj
    rw [if_neg (h.resolve_right (fun z => by rw [z] at hj; cases hj))]
  · rfl
theorem fol_yes {V : Mc} {p j : Nat} (h1 : p < nP V) (h2 : pP V p 0 = 3) (h3 : lastT V 0 p (nX V) = some j) : follow V p = setH V p (wof (evT (nmC (nI (nS V)) (nI (pP V p 4)) (nI 0)) (tX V j).2.2.2).toInt) := by
  unfold follow
  split
  · rename_i i hi
    rw [hi] at h3
    cases h3
    rw [if_pos ⟨h1, h2⟩]
  · rename_i hi
    rw [hi] at h3
    cases h3
theorem lastT_sp {V : Mc} {key tg : Nat} : ∀ {n j : Nat}, lastT V key tg n = some j → (tX V j).1 = key ∧ (tX V j).2.1 = tg
  | 0, j, h => by cases h
  | n + 1, j, h => by
    unfold lastT at h
    split at h
    · rename_i hq
      cases h
      exact hq
    · exact lastT_sp h
theorem oI_neg {V : Mc} {key tg n : Nat} (hn : n ≤ 14) : (oI (lastT V key tg n)).toInt < 0 ↔ lastT V key tg n = none := by
  cases q : lastT V key tg n with
  | none => exact ⟨fun _ => rfl, fun _ => by decide⟩
  | some j =>
    have := lastT_lt q
    refine ⟨fun z => ?_, fun z => by cases z⟩
    have e : (oI (some j)).toInt = (j : Int) := nT (by omega)
    omega
theorem fol_P {V : Mc} {p q f : Nat} (hf : f ≠ 4) : pP (follow V p) q f = pP V q f := by
  unfold follow
  split
  · split
    · exact if_neg (fun z => hf z.2)
    · rfl
  · rfl
theorem fol_S (V : Mc) (p : Nat) : nS (follow V p) = nS V := by
  unfold follow
  split
  · split <;> rfl
  · rfl
theorem folV_P {V : Mc} {q f : Nat} (hf : f ≠ 4) : ∀ n, pP (folV V n) q f = pP V q f
  | 0 => rfl
  | n + 1 => (fol_P hf).trans (folV_P hf n)
theorem folV_S (V : Mc) : ∀ n, nS (folV V n) = nS V
  | 0 => rfl
  | n + 1 => (fol_S _ _).trans (folV_S V n)
theorem stp_n (V : Mc) (pu pa : Nat → Nat) : nP (stepV V pu pa) = nP V ∧ nB (stepV V pu pa) = nB V ∧ nX (stepV V pu pa) = nX V ∧ nS (stepV V pu pa) = nS V + 1 :=
  ⟨(folV_n _ _).1, (folV_n _ _).2.1, (folV_n _ _).2.2, folV_S _ _⟩
theorem stp_P {V : Mc} {pu pa : Nat → Nat} {q f : Nat} (hf : f ≠ 4) : pP (stepV V pu pa) q f = pP V q f := (folV_P hf _).trans (if_neg hf)
theorem WF_stepV {V : Mc} {pu pa : Nat → Nat} (hW : WF V) (hs : nS V < 20000) : WF (stepV V pu pa) := WF_folV (WF_setSt (WF_mkH hW (fun p hp => stH_lt hW hp)) hs) _
theorem mkH_no {V : Mc} {pu pa : Nat → Nat} {i : Nat} (h : ¬ pP V i 0 = 1) : mkH V (hI_ V pu pa (i + 1)) = mkH V (hI_ V pu pa i) := by
  unfold mkH
  congr 5
  funext q f
  by_cases e : q = i
  · have e2 : stH V pu pa i = pP V i 4 := by
      unfold stH
      rw [if_neg (fun z => h z.1)]
    rw [e, hI_s, hI_o, e2]
  · rw [hI_n e]
theorem mkH_yes {V : Mc} {pu pa : Nat → Nat} {i : Nat} : setH (mkH V (hI_ V pu pa i)) i (stH V pu pa i) = mkH V (hI_ V pu pa (i + 1)) := by
  unfold setH mkH
  congr 5
  funext q f
  show (if q = i ∧ f = 4 then stH V pu pa i else if f = 4 then hI_ V pu pa i q else pP V q f) = if f = 4 then hI_ V pu pa (i + 1) q else pP V q f
  by_cases e4 : f = 4
  · by_cases e : q = i
    · rw [if_pos ⟨e, e4⟩, if_pos e4, e, hI_s]
    · rw [if_neg (fun z => e z.1), if_pos e4, if_pos e4, hI_n e]
  · rw [if_neg (fun z => e4 z.2), if_neg e4, if_neg e4]
theorem MC_mk {I : It} {V : Mc} {h h2 : Nat → Nat} {k : Nat} (hC : MC I k (mkH V h)) (e : ∀ p, p < nP V → h p = h2 p) : MC I k (mkH V h2) := by
  obtain ⟨c1, c2, c3, c4, c5⟩ := hC
  refine ⟨c1, fun p f hp hf => (c2 p f hp hf).trans ?_, c3, c4, c5⟩
  show nI (if f = 4 then h p else pP V p f) = nI (if f = 4 then h2 p else pP V p f)
  rw [e p hp]
theorem MC_setSt {I : It} {V : Mc} {s : Nat} (h : MC I 0 V) (hW : WF V) : MC (sI I 28 0 3 (nI s)) 0 (setSt V s) := by
  obtain ⟨c1, c2, c3, c4, c5⟩ := h
  refine ⟨⟨by rw [sI_ne (by decide)]; exact c1.1, by rw [sI_ne (by decide)]; exact c1.2.1, by rw [sI_ne (by decide)]; exact c1.2.2.1, sI_eq _ _ _ _ _⟩, fun p f hp hf => by rw [sI_ne (by omega)]; exact c2 p f hp hf, fun b hb => by rw [sI_ne (by omega)]; exact c3 b hb, fun b hb => by rw [sI_ne (by omega)]; exact c4 b hb, fun j hj => (c5 j hj).keep (fun n a b => by rw [sI_ne (by omega)]) (hW.2.2.2 j hj).2.2.2.1⟩
theorem MC.cp {I I2 : It} {k k2 : Nat} {V : Mc} (h : MC I k V) (hW : WF V) (e : ∀ n, n < 3110 → I2 28 k2 n = I 28 k n) : MC I2 k2 V := by
  obtain ⟨c1, c2, c3, c4, c5⟩ := h
  have h1 := hW.1
  refine ⟨⟨by rw [e _ (by decide)]; exact c1.1, by rw [e _ (by decide)]; exact c1.2.1, by rw [e _ (by decide)]; exact c1.2.2.1, by rw [e _ (by decide)]; exact c1.2.2.2⟩, fun p f hp hf => by rw [e _ (by omega)]; exact c2 p f hp hf, fun b hb => by rw [e _ (by omega)]; exact c3 b hb, fun b hb => by rw [e _ (by omega)]; exact c4 b hb, fun j hj => (c5 j hj).keep (fun n a b => e n (by omega)) (hW.2.2.2 j hj).2.2.2.1⟩
theorem c_Mo_countsG {l : Launch} {E : En} {d : Nat} {I : It} {L : Lt} {R : Rt} {Z : Zt} {Q : Qt} {V : Mc} (hS : Sta R) (hC : MC I 0 V) (hW : WF V) {n key tg : Nat} (hn : n = 12 * key + tg) (hkey : key < 2) (htg : tg < 12) (hQ : Q (some (vi (oI (lastT V key tg (nX V))))) I L R Z) : AMet l E (d + 1) M_Mo_counts [vr 9 0, vi (nI n)] I L R Z Q := by
  subst hn
  exact c_Mo_counts hS hC hW hkey htg hQ
theorem c_Mo_gives {l : Launch} {E : En} {d : Nat} {I : It} {L : Lt} {R : Rt} {Z : Zt} {Q : Qt} {V : Mc} (hS : Sta R) (hC : MC I 0 V) (hW : WF V) {p : Nat} (hp : p < 12) (hQ : ∀ I2, MC I2 0 (follow V p) → fG I I2 → Q none I2 L R Z) : AMet l E (d + 2) M_Mo_gives [vr 9 0, vi (nI p)] I L R Z Q := by
  have hnb := hW.1.2.1
  have hnp := hW.1.1
  have hnx := hW.1.2.2.1
  have hns := hW.1.2.2.2
  refine AMet.of mf_Mo_gives rfl (Nat.le_of_ble_eq_true rfl) ?_
  refine aw_aload_n e_Mo_gives_0 rfl ?_
  refine aw_iload_n e_Mo_gives_1 rfl ?_
  refine aw_cV1 e_Mo_gives_2 ml_Mo_211 mf_Mo_counts mv_Mo_counts (c_Mo_countsG (key := 0) (tg := p) hS hC hW (by omega) (by decide) hp ?_)
  refine aw_ist2 e_Mo_gives_5 ?_
  refine aw_aload_n e_Mo_gives_6 rfl ?_
  refine aw_iload_n e_Mo_gives_7 rfl ?_
  refine aw_cV1 e_Mo_gives_8 ml_Mo_122 mf_Mo_isPart mv_Mo_isPart (c_Mo_isPart hS hC hW ?_)
  refine awB_eq e_Mo_gives_11 (fun h11 => ?_) (fun h11 => ?_)
  · first
      | (refine aw_vret e_Mo_gives_81 rfl (hQ _ ?_ (fG_s (fG_p (fG_s (fG_s fG_0 (by decide)) (by decide))) (by decide)))
         rw [fol_yes hpn h20 hlt]
         exact MC_setH (MC.keep hC (by rw [pil_n (by decide), sI_n (by decide), sI_n (by decide)])) hW hpn)
      | exact aw_vret e_Mo_gives_81 rfl (hQ _ (by rw [fol_no (Or.inr hlt)]; exact hC) fG_0)
      | exact aw_vret e_Mo_gives_81 rfl (hQ _ (by rw [fol_no (Or.inl (fun z => h20 z.2))]; exact hC) fG_0)
      | exact aw_vret e_Mo_gives_81 rfl (hQ _ (by rw [fol_no (Or.inl (fun z => h11 ((nI_inR (by omega)).2 z.1)))]; exact hC) fG_0)
  · have hpn : p < nP V := (nI_inR (by omega)).1 h11
    have hv := hW.2.1 p hpn
    refine aw_aload_n e_Mo_gives_14 rfl ?_
    refine aw_iload_n e_Mo_gives_15 rfl ?_
    refine aw_cV1 e_Mo_gives_16 ml_Mo_116 mf_Mo_kindOf mv_Mo_kindOf (c_Mo_kindOf hS hC hW hpn ?_)
    refine aw_iconst (v := nI 3) e_Mo_gives_19 (by decide) ?_
    refine awN_icmp_ne e_Mo_gives_20 (by omega) (by omega) (fun h20 => ?_) (fun h20 => ?_)
    · first
        | (refine aw_vret e_Mo_gives_81 rfl (hQ _ ?_ (fG_s (fG_p (fG_s (fG_s fG_0 (by decide)) (by decide))) (by decide)))
           rw [fol_yes hpn h20 hlt]
           exact MC_setH (MC.keep hC (by rw [pil_n (by decide), sI_n (by decide), sI_n (by decide)])) hW hpn)
        | exact aw_vret e_Mo_gives_81 rfl (hQ _ (by rw [fol_no (Or.inr hlt)]; exact hC) fG_0)
        | exact aw_vret e_Mo_gives_81 rfl (hQ _ (by rw [fol_no (Or.inl (fun z => h20 z.2))]; exact hC) fG_0)
        | exact aw_vret e_Mo_gives_81 rfl (hQ _ (by rw [fol_no (Or.inl (fun z => h11 ((nI_inR (by omega)).2 z.1)))]; exact hC) fG_0)
    · refine aw_iload_n e_Mo_gives_23 rfl ?_
      refine awZ_if_lt e_Mo_gives_24 (fun h24 => ?_) (fun h24 => ?_)
      · have hlt := (oI_neg (by omega)).1 h24
        first
          | (refine aw_vret e_Mo_gives_81 rfl (hQ _ ?_ (fG_s (fG_p (fG_s (fG_s fG_0 (by decide)) (by decide))) (by decide)))
             rw [fol_yes hpn h20 hlt]
             exact MC_setH (MC.keep hC (by rw [pil_n (by decide), sI_n (by decide), sI_n (by decide)])) hW hpn)
          | exact aw_vret e_Mo_gives_81 rfl (hQ _ (by rw [fol_no (Or.inr hlt)]; exact hC) fG_0)
          | exact aw_vret e_Mo_gives_81 rfl (hQ _ (by rw [fol_no (Or.inl (fun z => h20 z.2))]; exact hC) fG_0)
          | exact aw_vret e_Mo_gives_81 rfl (hQ _ (by rw [fol_no (Or.inl (fun z => h11 ((nI_inR (by omega)).2 z.1)))]; exact hC) fG_0)
      · obtain ⟨j, hlt⟩ : ∃ j, lastT V 0 p (nX V) = some j := by
          cases q : lastT V 0 p (nX V) with
          | some j => exact ⟨j, rfl⟩
          | none => exact absurd ((oI_neg (by omega)).2 q) h24
        rw [hlt, show oI (some j) = nI j from rfl]
        have hjn := lastT_lt hlt
        have hN : ∀ q ∈ (tX V j).2.2.2, q.1 = 1 → (sI (sI I 40 0 116 (nI (nS V))) 40 0 104 (nI (pP V p 4))) 40 0 q.2 = nmC (nI (nS V)) (nI (pP V p 4)) (nI 0) q.2 := fun q hq h1 => by
          have hw := (hW.2.2.2 j hjn).2.2.2.2.2.2 q hq h1
          rw [if_pos (lastT_sp hlt).1] at hw
          rcases hw with e | e
          · rw [e, sI_ne (by decide), sI_eq]; rfl
          · rw [e, sI_eq]; rfl
        refine aw_aload_n e_Mo_gives_27 rfl ?_
        refine aw_getR e_Mo_gives_28 fl_Mo_53 (hS.1 _ _ _ _ rfl) ?_
        refine aw_bipush (v := nI 116) e_Mo_gives_31 (by decide) ?_
        refine aw_aload_n e_Mo_gives_33 rfl ?_
        refine aw_getR e_Mo_gives_34 fl_Mo_7 (hS.1 _ _ _ _ rfl) ?_
        refine aw_iconst (v := nI 3) e_Mo_gives_37 (by decide) ?_
        refine aw_ialE e_Mo_gives_38 rfl (show _ < 3110 by omega) (by omega) (by first | exact hC.1.1 | exact hC.1.2.1 | exact hC.1.2.2.1 | exact hC.1.2.2.2 | exact hC.pk (by omega) | exact hC.2.1 _ _ (by omega) (by decide) | exact hC.2.2.1 _ (by omega) | exact hC.2.2.2.1 _ (by omega)) ?_
        refine aw_iast e_Mo_gives_39 rfl (show _ < 128 by omega) (by omega) ?_
        refine aw_aload_n e_Mo_gives_40 rfl ?_
        refine aw_getR e_Mo_gives_41 fl_Mo_53 (hS.1 _ _ _ _ rfl) ?_
        refine aw_bipush (v := nI 104) e_Mo_gives_44 (by decide) ?_
        refine aw_aload_n e_Mo_gives_46 rfl ?_
        refine aw_getR e_Mo_gives_47 fl_Mo_7 (hS.1 _ _ _ _ rfl) ?_
        refine aw_aload_n e_Mo_gives_50 rfl ?_
        refine aw_iload_n e_Mo_gives_51 rfl ?_
        refine aw_cV1 e_Mo_gives_52 ml_Mo_79 mf_Mo_partAt mv_Mo_partAt (c_Mo_partAt ?_)
        refine aw_iconst (v := nI 4) e_Mo_gives_55 (by decide) ?_
        first | refine awN_iadd e_Mo_gives_56 ?_ | refine aw_iadd e_Mo_gives_56 ?_
        refine aw_ialE e_Mo_gives_57 rfl (show _ < 3110 by omega) (by omega) ((sI_n2 (by decide)).trans (hC.2.1 p 4 hpn (by decide))) ?_
        refine aw_iast e_Mo_gives_58 rfl (show _ < 128 by omega) (by omega) ?_
        refine aw_aload_n e_Mo_gives_59 rfl ?_
        refine aw_getR e_Mo_gives_60 fl_Mo_7 (hS.1 _ _ _ _ rfl) ?_
        refine aw_aload_n e_Mo_gives_63 rfl ?_
        refine aw_iload_n e_Mo_gives_64 rfl ?_
        refine aw_cV1 e_Mo_gives_65 ml_Mo_79 mf_Mo_partAt mv_Mo_partAt (c_Mo_partAt ?_)
        refine aw_iconst (v := nI 4) e_Mo_gives_68 (by decide) ?_
        first | refine awN_iadd e_Mo_gives_69 ?_ | refine aw_iadd e_Mo_gives_69 ?_
        refine aw_aload_n e_Mo_gives_70 rfl ?_
        refine aw_iload_n e_Mo_gives_71 rfl ?_
        refine aw_cV1 e_Mo_gives_72 ml_Mo_214 mf_Mo_worked mv_Mo_worked (c_Mo_worked (nm := nmC (nI (nS V)) (nI (pP V p 4)) (nI 0)) hS (MC.keep hC (by rw [sI_n (by decide), sI_n (by decide)])) hW hjn hN (fun f => ?_))
        refine aw_i2l e_Mo_gives_75 ?_
        refine aw_cS1 e_Mo_gives_76 ml_Mo_90 mf_Mo_worthOf ms_Mo_worthOf (c_Mo_worthI ?_)
        refine awN_l2i e_Mo_gives_79 ?_
        refine aw_iast e_Mo_gives_80 rfl (show _ < 3110 by omega) (by omega) ?_
        first
          | (refine aw_vret e_Mo_gives_81 rfl (hQ _ ?_ (fG_s (fG_p (fG_s (fG_s fG_0 (by decide)) (by decide))) (by decide)))
             rw [fol_yes hpn h20 hlt]
             exact MC_setH (MC.keep hC (by rw [pil_n (by decide), sI_n (by decide), sI_n (by decide)])) hW hpn)
          | exact aw_vret e_Mo_gives_81 rfl (hQ _ (by rw [fol_no (Or.inr hlt)]; exact hC) fG_0)
          | exact aw_vret e_Mo_gives_81 rfl (hQ _ (by rw [fol_no (Or.inl (fun z => h20 z.2))]; exact hC) fG_0)
          | exact aw_vret e_Mo_gives_81 rfl (hQ _ (by rw [fol_no (Or.inl (fun z => h11 ((nI_inR (by omega)).2 z.1)))]; exact hC) fG_0)
theorem c_Mo_oneStep {l : Launch} {E : En} {d : Nat} {I : It} {L : Lt} {R : Rt} {Z : Zt} {Q : Qt} {V : Mc} (hS : Sta R) (hC : MC I 0 V) (hW : WF V) (hs : nS V < 20000) (hQ : ∀ I2 L2, MC I2 0 (if ansC V = 1 then stpV V else V) → fG I I2 → Q (some (vi (ansV V))) I2 L2 R Z) : AMet l E (d + 5) M_Mo_oneStep [vr 9 0] I L R Z Q := by
  have hnb := hW.1.2.1
  have hnp := hW.1.1
  have hnx := hW.1.2.2.1
  have hns := hW.1.2.2.2
  refine AMet.of mf_Mo_oneStep rfl (Nat.le_of_ble_eq_true rfl) ?_
  refine aw_aload_n e_Mo_oneStep_0 rfl ?_
  refine aw_cV0 e_Mo_oneStep_1 ml_Mo_185 mf_Mo_solve mv_Mo_solve (c_Mo_solve hS hC hW (fun I1 L1 hfl1 ha1 hr1 => ?_))
  refine aw_ist1 e_Mo_oneStep_4 ?_
  refine aw_iload_n e_Mo_oneStep_5 rfl ?_
  refine aw_iconst (v := nI 1) e_Mo_oneStep_6 (by decide) ?_
  refine aw_icmp_eq e_Mo_oneStep_7 (fun h7 => ?_) (fun h7 => ?_)
  · have h1 := (ansV_iff V).1 h7
    have hA := ha1 h1
    have hwh : whole V = true := Decidable.byContradiction (fun z => absurd (ansC_w z) (by omega))
    refine aw_iconst (v := nI 0) e_Mo_oneStep_12 (by decide) ?_
    refine aw_ist2 e_Mo_oneStep_13 ?_
    refine up_loop (P := fun i => ∀ I2 V2, V2 = mkH V (hI_ V (fun b => ansX V (2 * b)) (fun b => ansX V (2 * b + 1)) i) → MC I2 0 V2 → fG I I2 → AWq l E (d + 5) M_Mo_oneStep Z 14 [some (vr 9 0), some (vi (ansV V)), some (vi (nI i)), none, none] [] I2 L1 R Z Q) (N := nP V) (fun i hi ih I2 V2 hV2 hC2 hf2 => ?_) 0 (Nat.zero_le _) I1 V ?_ (hfl1.C hC) hfl1.G
    rotate_left
    · unfold mkH
      refine Prod.ext rfl (Prod.ext rfl (Prod.ext rfl (Prod.ext rfl (Prod.ext ?_ rfl))))
      funext q f
      show pP V q f = if f = 4 then hI_ V _ _ 0 q else pP V q f
      by_cases e : f = 4
      · rw [if_pos e, e]; unfold hI_; rw [if_neg (Nat.not_lt_zero q)]
      · rw [if_neg e]
    have e1 : nP V2 = nP V := by rw [hV2]; rfl
    have e2 : pP V2 i 0 = pP V i 0 := by rw [hV2]; rfl
    have e3 : pP V2 i 1 = pP V i 1 := by rw [hV2]; rfl
    have e4 : bnd V2 i 0 = bnd V i 0 := by rw [hV2]; rfl
    have e5 : pP V2 i 4 = pP V i 4 := by rw [hV2]; exact hI_o V _ _ i
    have e6 : nS V2 = nS V := by rw [hV2]; rfl
    have e7 : nB V2 = nB V := by rw [hV2]; rfl
    have hW2 : WF V2 := by rw [hV2]; exact WF_mkH hW (fun p hp => hI_lt hW hp)
    refine aw_iload_n e_Mo_oneStep_14 rfl ?_
    refine aw_aload_n e_Mo_oneStep_15 rfl ?_
    refine aw_getR e_Mo_oneStep_16 fl_Mo_7 (hS.1 _ _ _ _ rfl) ?_
    refine aw_iconst (v := nI 0) e_Mo_oneStep_19 (by decide) ?_
    refine aw_ialE e_Mo_oneStep_20 rfl (show _ < 3110 by omega) (by omega) (show _ = nI (nP V) from e1 ▸ hC2.1.1) ?_
    refine awN_icmp_ge e_Mo_oneStep_21 (by omega) (by omega) (fun h21 => ?_) (fun h21 => ?_)
    · obtain rfl : i = nP V := by omega
      have hC3 : MC (sI I2 28 0 3 (nI (nS V + 1))) 0 (setSt (mkH V (stH V (fun b => ansX V (2 * b)) (fun b => ansX V (2 * b + 1)))) (nS V + 1)) := MC_setSt (MC_mk (by rw [hV2] at hC2; exact hC2) (fun p hp => by unfold hI_; rw [if_pos hp])) (WF_mkH hW (fun p hp => stH_lt hW hp))
      have hWf : WF (setSt (mkH V (stH V (fun b => ansX V (2 * b)) (fun b => ansX V (2 * b + 1)))) (nS V + 1)) := WF_setSt (WF_mkH hW (fun p hp => stH_lt hW hp)) hs
      refine aw_aload_n e_Mo_oneStep_92 rfl ?_
      refine aw_getR e_Mo_oneStep_93 fl_Mo_7 (hS.1 _ _ _ _ rfl) ?_
      refine aw_iconst (v := nI 3) e_Mo_oneStep_96 (by decide) ?_
      refine aw_dup2 e_Mo_oneStep_97 rfl rfl ?_
      refine aw_ialE e_Mo_oneStep_98 rfl (show _ < 3110 by omega) (by omega) (show _ = nI (nS V) from e6 ▸ hC2.1.2.2.2) ?_
      refine aw_iconst (v := nI 1) e_Mo_oneStep_99 (by decide) ?_
      first | refine awN_iadd e_Mo_oneStep_100 ?_ | refine aw_iadd e_Mo_oneStep_100 ?_
      refine aw_iast e_Mo_oneStep_101 rfl (show _ < 3110 by omega) (by omega) ?_
      refine aw_iconst (v := nI 0) e_Mo_oneStep_102 (by decide) ?_
      refine aw_ist2 e_Mo_oneStep_103 ?_
      refine up_loop (P := fun i => ∀ I4, MC I4 0 (folV (setSt (mkH V (stH V (fun b => ansX V (2 * b)) (fun b => ansX V (2 * b + 1)))) (nS V + 1)) i) → fG I I4 → AWq l E (d + 5) M_Mo_oneStep Z 104 [some (vr 9 0), some (vi (ansV V)), some (vi (nI i)), none, none] [] I4 L1 R Z Q) (N := nP V) (fun i hi ih I4 hC4 hf4 => ?_) 0 (Nat.zero_le _) _ hC3 (fG_s hf2 (by decide))
      have hfn : nP (folV (setSt (mkH V (stH V (fun b => ansX V (2 * b)) (fun b => ansX V (2 * b + 1)))) (nS V + 1)) i) = nP V := (folV_n _ _).1
      refine aw_iload_n e_Mo_oneStep_104 rfl ?_
      refine aw_aload_n e_Mo_oneStep_105 rfl ?_
      refine aw_getR e_Mo_oneStep_106 fl_Mo_7 (hS.1 _ _ _ _ rfl) ?_
      refine aw_iconst (v := nI 0) e_Mo_oneStep_109 (by decide) ?_
      refine aw_ialE e_Mo_oneStep_110 rfl (show _ < 3110 by omega) (by omega) (show _ = nI (nP V) from hfn ▸ hC4.1.1) ?_
      refine awN_icmp_ge e_Mo_oneStep_111 (by omega) (by omega) (fun h111 => ?_) (fun h111 => ?_)
      · 
        refine aw_iconst (v := nI 1) e_Mo_oneStep_125 (by decide) ?_
        have hq := hQ I4 L1
        rw [if_pos h1, h7] at hq
        obtain rfl : i = nP V := by omega
        exact aw_iret e_Mo_oneStep_126 rfl rfl (hq hC4 hf4)
      · refine aw_aload_n e_Mo_oneStep_114 rfl ?_
        refine aw_iload_n e_Mo_oneStep_115 rfl ?_
        refine aw_cV1 e_Mo_oneStep_116 ml_Mo_217 mf_Mo_gives mv_Mo_gives (c_Mo_gives hS hC4 (WF_folV hWf _) (by omega) (fun I5 hC5 hf5 => ?_))
        refine aw_inc2 e_Mo_oneStep_119 (inc1 _) ?_
        refine aw_goto e_Mo_oneStep_122 ?_
        exact ih h111 _ hC5 (fG_t hf4 hf5)
    · have hv := hW.2.1 i h21
      refine aw_aload_n e_Mo_oneStep_24 rfl ?_
      refine aw_iload_n e_Mo_oneStep_25 rfl ?_
      refine aw_cV1 e_Mo_oneStep_26 ml_Mo_116 mf_Mo_kindOf mv_Mo_kindOf (c_Mo_kindOf hS hC2 hW2 (by omega) ?_)
      rw [e2]
      refine aw_iconst (v := nI 1) e_Mo_oneStep_29 (by decide) ?_
      refine awN_icmp_ne e_Mo_oneStep_30 (by omega) (by omega) (fun h30 => ?_) (fun h30 => ?_)
      · refine aw_inc2 e_Mo_oneStep_86 (inc1 _) ?_
        refine aw_goto e_Mo_oneStep_89 ?_
        first
          | (refine ih h21 I2 V2 ?_ hC2 hf2
             rw [hV2, mkH_no h30])
          | (refine aw_drop 3 ?_
             refine ih h21 _ _ mkH_yes ?_ (fG_s hf2 (by decide))
             rw [← hV2]
             have hst : stH V (fun b => ansX V (2 * b)) (fun b => ansX V (2 * b + 1)) i = (pP V i 4 + ansX V (2 * fb V i 0 + 1 - pP V i 1)) % 1000003 := by
               unfold stH
               rw [if_pos ⟨h30, hfb.1⟩]
               show (pP V i 4 + (if pP V i 1 = 0 then ansX V (2 * fb V i 0 + 1) else ansX V (2 * fb V i 0))) % 1000003 = _
               by_cases z : pP V i 1 = 0
               · rw [if_pos z, z]; rfl
               · rw [if_neg z, show pP V i 1 = 1 by omega]; rfl
             rw [hst]
             exact MC_setH hC2 hW2 (by omega))
      · have hfb := fb_0 (V := V) (p := i) (want_p (whole_w hwh h21))
        have hax := (hA (2 * fb V i 0 + 1 - pP V i 1) (by omega)).2
        refine aw_aload_n e_Mo_oneStep_33 rfl ?_
        refine aw_getR e_Mo_oneStep_34 fl_Mo_47 (hS.1 _ _ _ _ rfl) ?_
        refine aw_iconst (v := nI 2) e_Mo_oneStep_37 (by decide) ?_
        refine aw_aload_n e_Mo_oneStep_38 rfl ?_
        refine aw_iload_n e_Mo_oneStep_39 rfl ?_
        refine aw_iconst (v := nI 0) e_Mo_oneStep_40 (by decide) ?_
        refine aw_cV2 e_Mo_oneStep_41 ml_Mo_150 mf_Mo_bondOf mv_Mo_bondOf (c_Mo_bondOf (s := 0) hS hC2 hW2 (by omega) (by omega) ?_)
        rw [e4, hfb.2.2.2]
        refine awN_imul e_Mo_oneStep_44 ?_
        refine aw_iconst (v := nI 1) e_Mo_oneStep_45 (by decide) ?_
        first | refine awN_iadd e_Mo_oneStep_46 ?_ | refine aw_iadd e_Mo_oneStep_46 ?_
        refine aw_aload_n e_Mo_oneStep_47 rfl ?_
        refine aw_iload_n e_Mo_oneStep_48 rfl ?_
        refine aw_cV1 e_Mo_oneStep_49 ml_Mo_153 mf_Mo_sortOf mv_Mo_sortOf (c_Mo_sortOf hS hC2 hW2 (by omega) ?_)
        rw [e3]
        refine awN_isub e_Mo_oneStep_52 (by omega) ?_
        refine aw_lalE e_Mo_oneStep_53 rfl (show _ < 24 by omega) (by omega) (hA _ (by omega)).1 ?_
        refine aw_lst3 e_Mo_oneStep_54 ?_
        refine aw_aload_n e_Mo_oneStep_55 rfl ?_
        refine aw_getR e_Mo_oneStep_56 fl_Mo_7 (hS.1 _ _ _ _ rfl) ?_
        refine aw_aload_n e_Mo_oneStep_59 rfl ?_
        refine aw_iload_n e_Mo_oneStep_60 rfl ?_
        refine aw_cV1 e_Mo_oneStep_61 ml_Mo_79 mf_Mo_partAt mv_Mo_partAt (c_Mo_partAt ?_)
        refine aw_iconst (v := nI 4) e_Mo_oneStep_64 (by decide) ?_
        first | refine awN_iadd e_Mo_oneStep_65 ?_ | refine aw_iadd e_Mo_oneStep_65 ?_
        refine aw_aload_n e_Mo_oneStep_66 rfl ?_
        refine aw_getR e_Mo_oneStep_67 fl_Mo_7 (hS.1 _ _ _ _ rfl) ?_
        refine aw_aload_n e_Mo_oneStep_70 rfl ?_
        refine aw_iload_n e_Mo_oneStep_71 rfl ?_
        refine aw_cV1 e_Mo_oneStep_72 ml_Mo_79 mf_Mo_partAt mv_Mo_partAt (c_Mo_partAt ?_)
        refine aw_iconst (v := nI 4) e_Mo_oneStep_75 (by decide) ?_
        first | refine awN_iadd e_Mo_oneStep_76 ?_ | refine aw_iadd e_Mo_oneStep_76 ?_
        refine aw_ialE e_Mo_oneStep_77 rfl (show _ < 3110 by omega) (by omega) (show _ = nI (pP V i 4) from e5 ▸ hC2.2.1 i 4 (by omega) (by decide)) ?_
        first | refine awN_i2l e_Mo_oneStep_78 (by omega) ?_ | refine aw_i2l e_Mo_oneStep_78 ?_
        refine aw_lload_n e_Mo_oneStep_79 rfl ?_
        refine awN_ladd e_Mo_oneStep_80 ?_
        refine aw_cS1 e_Mo_oneStep_81 ml_Mo_90 mf_Mo_worthOf ms_Mo_worthOf (c_Mo_worthN (by omega) ?_)
        refine awN_l2i e_Mo_oneStep_84 ?_
        refine aw_iast e_Mo_oneStep_85 rfl (show _ < 3110 by omega) (by omega) ?_
        refine aw_inc2 e_Mo_oneStep_86 (inc1 _) ?_
        refine aw_goto e_Mo_oneStep_89 ?_
        first
          | (refine ih h21 I2 V2 ?_ hC2 hf2
             rw [hV2, mkH_no h30])
          | (refine aw_drop 3 ?_
             refine ih h21 _ _ mkH_yes ?_ (fG_s hf2 (by decide))
             rw [← hV2]
             have hst : stH V (fun b => ansX V (2 * b)) (fun b => ansX V (2 * b + 1)) i = (pP V i 4 + ansX V (2 * fb V i 0 + 1 - pP V i 1)) % 1000003 := by
               unfold stH
               rw [if_pos ⟨h30, hfb.1⟩]
               show (pP V i 4 + (if pP V i 1 = 0 then ansX V (2 * fb V i 0 + 1) else ansX V (2 * fb V i 0))) % 1000003 = _
               by_cases z : pP V i 1 = 0
               · rw [if_pos z, z]; rfl
               · rw [if_neg z, show pP V i 1 = 1 by omega]; rfl
             rw [hst]
             exact MC_setH hC2 hW2 (by omega))
  · refine aw_iload_n e_Mo_oneStep_10 rfl ?_
    have hn1 : ¬ ansC V = 1 := fun z => h7 ((ansV_iff V).2 z)
    have hq := hQ I1 L1
    rw [if_neg hn1] at hq
    exact aw_iret e_Mo_oneStep_11 rfl rfl (hq (hfl1.C hC) hfl1.G)
theorem c_Mo_setAside {l : Launch} {E : En} {d : Nat} {I : It} {L : Lt} {R : Rt} {Z : Zt} {Q : Qt} {a b : Nat} (hab : a ≠ b) (hQ : ∀ I2, (∀ n, n < 3110 → I2 28 b n = I 28 a n) → (∀ t i, ¬ (t = 28 ∧ i = b) → I2 t i = I t i) → Q none I2 L R Z) : AMet l E d M_Mo_setAside [vr 9 0, vr 28 a, vr 28 b] I L R Z Q := by
  refine AMet.of mf_Mo_setAside rfl (Nat.le_of_ble_eq_true rfl) ?_
  refine aw_iconst (v := nI 0) e_Mo_setAside_0 (by decide) ?_
  refine aw_ist3 e_Mo_setAside_1 ?_
  refine up_loop (P := fun k => ∀ I2, (∀ n, n < k → I2 28 b n = I 28 a n) → (∀ t i, ¬ (t = 28 ∧ i = b) → I2 t i = I t i) → AWq l E d M_Mo_setAside Z 2 [some (vr 9 0), some (vr 28 a), some (vr 28 b), some (vi (nI k))] [] I2 L R Z Q) (N := 3110) (fun k hk ih I2 h2 hf => ?_) 0 (by decide) I (fun n hn => absurd hn (Nat.not_lt_zero n)) (fun _ _ _ => rfl)
  refine aw_iload_n e_Mo_setAside_2 rfl ?_
  refine aw_sipush (v := nI 3110) e_Mo_setAside_3 (by decide) ?_
  refine awN_icmp_ge e_Mo_setAside_6 (by omega) (by omega) (fun h6 => ?_) (fun h6 => ?_)
  · exact aw_vret e_Mo_setAside_21 rfl (hQ _ (fun n hn => h2 n (by omega)) hf)
  · refine aw_aload_n e_Mo_setAside_9 rfl ?_
    refine aw_iload_n e_Mo_setAside_10 rfl ?_
    refine aw_aload_n e_Mo_setAside_11 rfl ?_
    refine aw_iload_n e_Mo_setAside_12 rfl ?_
    refine aw_ialE e_Mo_setAside_13 rfl (show _ < 3110 by omega) (by omega) (congrFun (hf 28 a (by omega)) k) ?_
    refine aw_iast e_Mo_setAside_14 rfl (show _ < 3110 by omega) (by omega) ?_
    refine aw_inc3 e_Mo_setAside_15 (inc1 _) ?_
    refine aw_goto e_Mo_setAside_18 ?_
    refine ih h6 _ (fun n hn => ?_) (fun t i hti => by rw [sI_n hti]; exact hf t i hti)
    by_cases e : n = k
    · rw [e, sI_eq]
    · rw [sI_ne e]; exact h2 n (by omega)
