/-! ===== Machine: texts, steps, copies ===== -/
def own (k t i : Nat) : Prop := (t = 2 ∧ i = k) ∨ (t = 3 ∧ 12 * k ≤ i ∧ i < 12 * k + 12) ∨ ((t = 11 ∨ t = 12 ∨ t = 13) ∧ i = k)
theorem TXo.keep {I I2 : It} {R R2 : Rt} {Z Z2 : Zt} {x : Nat} {v : TV} (h : TXo I R Z x v) (hI : I2 7 x = I 7 x ∧ I2 27 x = I 27 x) (hR : R2 7 x = R 7 x) (hZ : Z2.1 x = Z.1 x) : TXo I2 R2 Z2 x v := by
  obtain ⟨h1, h2, h3, h4, h5, h6⟩ := h
  exact ⟨by rw [hI.1]; exact h1, by rw [hI.1]; exact h2, by rw [hI.1]; exact h3, by rw [hR]; exact h4, by rw [hZ]; exact h5, fun i q hq => by rw [hI.2]; exact h6 i q hq⟩
theorem CM.keep {I I2 : It} {R R2 : Rt} {Z : Zt} {k : Nat} {V : Mc} (h : CM I R Z k V) (hW : WF V) (hI : ∀ t i, own k t i ∨ t = 7 ∨ t = 27 → I2 t i = I t i) (hR : ∀ t i, own k t i ∨ t = 7 ∨ t = 27 → R2 t i = R t i) : CM I2 R2 Z k V := by
  obtain ⟨⟨h1, h2, h3, h4⟩, h5, h6, h7, h8⟩ := h
  have e2 := hI 2 k (Or.inl (Or.inl ⟨rfl, rfl⟩))
  have hp := hW.1.1
  refine ⟨⟨by rw [e2]; exact h1, by rw [e2]; exact h2, by rw [e2]; exact h3, by rw [e2]; exact h4⟩, fun p f hp2 hf => ?_, fun b hb => ?_, fun b hb => ?_, fun j hj => ?_⟩
  · rw [hI 3 (12 * k + p) (Or.inl (Or.inr (Or.inl ⟨rfl, by omega, by omega⟩)))]
    exact h5 p f hp2 hf
  · rw [hI 11 k (Or.inl (Or.inr (Or.inr ⟨Or.inl rfl, rfl⟩)))]
    exact h6 b hb
  · rw [hI 12 k (Or.inl (Or.inr (Or.inr ⟨Or.inr (Or.inl rfl), rfl⟩)))]
    exact h7 b hb
  · obtain ⟨x, r1, r2⟩ := h8 j hj
    refine ⟨x, by rw [hR 13 k (Or.inl (Or.inr (Or.inr ⟨Or.inr (Or.inr rfl), rfl⟩)))]; exact r1, r2.keep ⟨hI 7 x (Or.inr (Or.inl rfl)), hI 27 x (Or.inr (Or.inr rfl))⟩ (hR 7 x (Or.inr (Or.inl rfl))) rfl⟩
def lastT (V : Mc) (key tg : Nat) : Nat → Option Nat
  | 0 => none
  | n + 1 => if (tX V n).1 = key ∧ (tX V n).2.1 = tg then some n else lastT V key tg n
def oI : Option Nat → Int32
  | some j => nI j
  | none => -1
theorem lastT_lt {V : Mc} {key tg : Nat} : ∀ {n j : Nat}, lastT V key tg n = some j → j < n
  | 0, j, h => by cases h
  | n + 1, j, h => by
    unfold lastT at h
    split at h
    · cases h
      exact Nat.lt_succ_self _
    · have := lastT_lt h
      omega
def setH (V : Mc) (p h : Nat) : Mc := (nP V, nB V, nX V, nS V, fun q f => if q = p ∧ f = 4 then h else pP V q f, V.2.2.2.2.2)
def setSt (V : Mc) (s : Nat) : Mc := (nP V, nB V, nX V, s, V.2.2.2.2)
def mkH (V : Mc) (h : Nat → Nat) : Mc := (nP V, nB V, nX V, nS V, fun q f => if f = 4 then h q else pP V q f, V.2.2.2.2.2)
theorem WF_mkH {V : Mc} (hW : WF V) {h : Nat → Nat} (hh : ∀ p, p < nP V → h p < 1000003) : WF (mkH V h) := by
  obtain ⟨h1, h2, h3, h4⟩ := hW
  refine ⟨h1, fun p hp => ?_, h3, h4⟩
  have := h2 p hp
  refine ⟨this.1, this.2.1, this.2.2.1, this.2.2.2.1, ?_⟩
  show h p < 1000003
  exact hh p hp
theorem WF_setH {V : Mc} (hW : WF V) {p h : Nat} (hh : h < 1000003) : WF (setH V p h) := by
  obtain ⟨h1, h2, h3, h4⟩ := hW
  refine ⟨h1, fun q hq => ?_, h3, h4⟩
  have := h2 q hq
  refine ⟨?_, ?_, ?_, ?_, ?_⟩
  · show (if q = p ∧ 0 = 4 then h else _) < 6
    rw [if_neg (by omega)]; exact this.1
  · show (if q = p ∧ 1 = 4 then h else _) < 2
    rw [if_neg (by omega)]; exact this.2.1
  · show 1 ≤ (if q = p ∧ 2 = 4 then h else _) ∧ (if q = p ∧ 2 = 4 then h else _) ≤ 10
    rw [if_neg (by omega)]; exact this.2.2.1
  · show 1 ≤ (if q = p ∧ 3 = 4 then h else _) ∧ (if q = p ∧ 3 = 4 then h else _) ≤ 10
    rw [if_neg (by omega)]; exact this.2.2.2.1
  · show (if q = p ∧ 4 = 4 then h else pP V q 4) < 1000003
    split
    · exact hh
    · exact this.2.2.2.2
theorem CM_setH {I : It} {R : Rt} {Z : Zt} {k : Nat} {V : Mc} (h : CM I R Z k V) (hW : WF V) {p v : Nat} (hp : p < nP V) : CM (sI I 3 (12 * k + p) 4 (nI v)) R Z k (setH V p v) := by
  obtain ⟨h1, h5, h6, h7, h8⟩ := h
  refine ⟨h1, fun q f hq hf => ?_, h6, h7, h8⟩
  show sI I 3 (12 * k + p) 4 (nI v) 3 (12 * k + q) f = nI (if q = p ∧ f = 4 then v else pP V q f)
  unfold sI
  by_cases e : q = p
  · subst e
    rw [if_pos ⟨rfl, rfl⟩]
    by_cases e2 : f = 4
    · rw [if_pos e2, if_pos ⟨rfl, e2⟩]
    · rw [if_neg e2, if_neg (fun z => e2 z.2)]
      exact h5 q f hq hf
  · rw [if_neg (by omega), if_neg (fun z => e z.1)]
    exact h5 q f hq hf
/-- a give has the hold that its text gives, if there are both -/
def follow (V : Mc) (p : Nat) : Mc := match lastT V 0 p (nX V) with
  | some j => if p < nP V ∧ pP V p 0 = 3 then setH V p (wof (evT (nmC (nI (nS V)) (nI (pP V p 4)) (nI 0)) (tX V j).2.2.2).toInt) else V
  | none => V
theorem follow_n (V : Mc) (p : Nat) : nP (follow V p) = nP V ∧ nB (follow V p) = nB V ∧ nX (follow V p) = nX V := by
  unfold follow
  split
  · split <;> exact ⟨rfl, rfl, rfl⟩
  · exact ⟨rfl, rfl, rfl⟩
theorem WF_follow {V : Mc} (hW : WF V) (p : Nat) : WF (follow V p) := by
  unfold follow
  split
  · split
    · exact WF_setH hW (wof_lt _)
    · exact hW
  · exact hW
def folV (V : Mc) : Nat → Mc
  | 0 => V
  | n + 1 => follow (folV V n) n
theorem folV_n (V : Mc) : ∀ n, nP (folV V n) = nP V ∧ nB (folV V n) = nB V ∧ nX (folV V n) = nX V
  | 0 => ⟨rfl, rfl, rfl⟩
  | n + 1 => by
    have h1 := folV_n V n
    have h2 := follow_n (folV V n) n
    exact ⟨h2.1.trans h1.1, h2.2.1.trans h1.2.1, h2.2.2.trans h1.2.2⟩
theorem WF_folV {V : Mc} (hW : WF V) : ∀ n, WF (folV V n)
  | 0 => hW
  | n + 1 => WF_follow (WF_folV hW n) n
/-- the hold of a part behind a step, texts aside -/
def stH (V : Mc) (pu pa : Nat → Nat) (p : Nat) : Nat := if pP V p 0 = 1 ∧ fst' (atB V p) (nB V) 0 < nB V then (pP V p 4 + (if pP V p 1 = 0 then pa (fst' (atB V p) (nB V) 0) else pu (fst' (atB V p) (nB V) 0))) % 1000003 else pP V p 4
def stepV (V : Mc) (pu pa : Nat → Nat) : Mc := folV (setSt (mkH V (stH V pu pa)) (nS V + 1)) (nP V)
def ansI (I : It) (a n : Nat) (pu pa : Nat → Nat) : Prop := ∀ b, b < n → I 14 a b = nI (pu b) ∧ I 15 a b = nI (pa b) ∧ pu b < 1000003 ∧ pa b < 1000003
theorem dn2 {P : Nat → Prop} (h : ∀ n, (0 < n → P (n - 1)) → P n) : ∀ n, P n := fun n => by
  induction n with
  | zero => exact h 0 (fun q => absurd q (by omega))
  | succ n ih => exact h (n + 1) (fun _ => ih)
theorem pm_d (m : Nat) : nI m + Int32.ofInt (-1) = pm m := by
  have := pm_dec (n := m + 1) (by omega)
  rw [pm_s] at this
  exact this
theorem c_Ma_textFor {l : Launch} {E : En} {d : Nat} {I : It} {L : Lt} {R : Rt} {Z : Zt} {Q : Qt} {k : Nat} {V : Mc} (hS : Sta R) (hk : k < 3) (hC : CM I R Z k V) (hW : WF V) {key tg : Nat} (hkey : key < 2) (htg : tg < 12) (hQ : Q (some (vi (oI (lastT V key tg (nX V))))) I L R Z) : AMet l E d M_Ma_textFor [vr 2 k, vi (nI key), vi (nI tg)] I L R Z Q := by
  have hnb := hW.1.2.1
  have hnp := hW.1.1
  have hnx := hW.1.2.2.1
  have hns := hW.1.2.2.2
  refine AMet.of mf_Ma_textFor rfl (Nat.le_of_ble_eq_true rfl) ?_
  refine aw_aload_n e_Ma_textFor_0 rfl ?_
  refine aw_getE e_Ma_textFor_1 fl_Ma_42 hC.1.2.2.1 ?_
  refine aw_iconst (v := nI 1) e_Ma_textFor_4 (by decide) ?_
  refine aw_isub e_Ma_textFor_5 ?_
  rw [pm_sub]
  refine aw_ist3 e_Ma_textFor_6 ?_
  refine dn2 (P := fun n => n ≤ nX V → lastT V key tg n = lastT V key tg (nX V) → AWq l E d M_Ma_textFor Z 7 [some (vr 2 k), some (vi (nI key)), some (vi (nI tg)), some (vi (pm n))] [] I L R Z Q) (fun n ih hn hv => ?_) (nX V) (Nat.le_refl _) rfl
  have hpt := pm_T (n := n) (by omega)
  refine aw_iload_n e_Ma_textFor_7 rfl ?_
  refine awZ_if_lt e_Ma_textFor_8 (fun h8 => ?_) (fun h8 => ?_)
  · refine aw_iconst (v := -1) e_Ma_textFor_54 (by decide) ?_
    refine aw_iret e_Ma_textFor_55 rfl rfl ?_
    rw [← hv, show n = 0 by omega] at hQ
    exact hQ
  · obtain ⟨m, rfl⟩ : ∃ m, n = m + 1 := ⟨n - 1, by omega⟩
    rw [pm_s]
    obtain ⟨x, r1, r2⟩ := hC.2.2.2.2 m (by omega)
    have hwt := hW.2.2.2 m (by omega)
    have hw1 := hwt.1
    have hw2 := hwt.2.1
    refine aw_aload_n e_Ma_textFor_11 rfl ?_
    refine aw_getR e_Ma_textFor_12 fl_Ma_26 (hS.1 _ _ _ _ rfl) ?_
    refine aw_iload_n e_Ma_textFor_15 rfl ?_
    refine aw_aald e_Ma_textFor_16 rfl (show _ < 14 by omega) (by omega) r1 ?_
    refine aw_ifnull e_Ma_textFor_17 ?_
    refine aw_aload_n e_Ma_textFor_20 rfl ?_
    refine aw_getR e_Ma_textFor_21 fl_Ma_26 (hS.1 _ _ _ _ rfl) ?_
    refine aw_iload_n e_Ma_textFor_24 rfl ?_
    refine aw_aald e_Ma_textFor_25 rfl (show _ < 14 by omega) (by omega) r1 ?_
    refine aw_getE e_Ma_textFor_26 fl_Ma_65 r2.1 ?_
    refine aw_iload_n e_Ma_textFor_29 rfl ?_
    refine awN_icmp_ne e_Ma_textFor_30 (by omega) (by omega) (fun h30 => ?_) (fun h30 => ?_)
    · refine aw_inc3 e_Ma_textFor_48 (pm_d _) ?_
      refine aw_goto e_Ma_textFor_51 ?_
      refine ih (by omega) (by omega) ?_
      rw [← hv, lastT, if_neg (by omega)]
      rfl
    · refine aw_aload_n e_Ma_textFor_33 rfl ?_
      refine aw_getR e_Ma_textFor_34 fl_Ma_26 (hS.1 _ _ _ _ rfl) ?_
      refine aw_iload_n e_Ma_textFor_37 rfl ?_
      refine aw_aald e_Ma_textFor_38 rfl (show _ < 14 by omega) (by omega) r1 ?_
      refine aw_getE e_Ma_textFor_39 fl_Ma_68 r2.2.1 ?_
      refine aw_iload_n e_Ma_textFor_42 rfl ?_
      refine awN_icmp_ne e_Ma_textFor_43 (by omega) (by omega) (fun h43 => ?_) (fun h43 => ?_)
      · refine aw_inc3 e_Ma_textFor_48 (pm_d _) ?_
        refine aw_goto e_Ma_textFor_51 ?_
        refine ih (by omega) (by omega) ?_
        rw [← hv, lastT, if_neg (by omega)]
        rfl
      · refine aw_iload_n e_Ma_textFor_46 rfl ?_
        refine aw_iret e_Ma_textFor_47 rfl rfl ?_
        rw [← hv, lastT, if_pos ⟨h30, h43⟩] at hQ
        exact hQ
theorem c_Ma_textGives {l : Launch} {E : En} {d : Nat} {I : It} {L : Lt} {R : Rt} {Z : Zt} {Q : Qt} {k : Nat} {V : Mc} (hS : Sta R) (hk : k < 3) (hC : CM I R Z k V) (hW : WF V) {n : Nat} {a b : Int32} (hn : n < nX V) (hQ : ∀ f, Q (some (vi (evT (nmC (nI (nS V)) a b) (tX V n).2.2.2))) (dsk I f) L R Z) : AMet l E (d + 3) M_Ma_textGives [vr 2 k, vi (nI n), vr 22 0, vi a, vi b] I L R Z Q := by
  have hnb := hW.1.2.1
  have hnp := hW.1.1
  have hnx := hW.1.2.2.1
  have hns := hW.1.2.2.2
  obtain ⟨x, r1, r2⟩ := hC.2.2.2.2 n hn
  refine AMet.of mf_Ma_textGives rfl (Nat.le_of_ble_eq_true rfl) ?_
  refine aw_aload_n e_Ma_textGives_0 rfl ?_
  refine aw_getR e_Ma_textGives_1 fl_Ma_26 (hS.1 _ _ _ _ rfl) ?_
  refine aw_iload_n e_Ma_textGives_4 rfl ?_
  refine aw_aald e_Ma_textGives_5 rfl (show _ < 14 by omega) (by omega) r1 ?_
  refine aw_ast5 e_Ma_textGives_6 ?_
  refine aw_aload e_Ma_textGives_8 rfl ?_
  refine aw_ifnn e_Ma_textGives_10 ?_
  refine aw_aload e_Ma_textGives_17 rfl ?_
  refine aw_aload_n e_Ma_textGives_19 rfl ?_
  refine aw_aload_n e_Ma_textGives_20 rfl ?_
  refine aw_getE e_Ma_textGives_21 fl_Ma_45 hC.1.2.2.2 ?_
  refine aw_iload_n e_Ma_textGives_24 rfl ?_
  refine aw_iload e_Ma_textGives_25 rfl ?_
  refine aw_cV4 e_Ma_textGives_27 ml_Ma_71 mf_Tx_workOut mv_Tx_workOut (c_Tx_workOut r2 (hW.2.2.2 n hn) (fun f => ?_))
  exact aw_iret e_Ma_textGives_30 rfl rfl (hQ f)
theorem c_Ma_followText {l : Launch} {E : En} {d : Nat} {I : It} {L : Lt} {R : Rt} {Z : Zt} {Q : Qt} {k : Nat} {V : Mc} (hS : Sta R) (hk : k < 3) (hC : CM I R Z k V) (hW : WF V) {p : Nat} (hp : p < 12) (hQ : ∀ I2, CM I2 R Z k (follow V p) → (∀ t i, ¬ own k t i → ¬ (t = 22 ∧ i = 0) → I2 t i = I t i) → Q none I2 L R Z) : AMet l E (d + 4) M_Ma_followText [vr 2 k, vi (nI p), vr 22 0] I L R Z Q := by
  have hnb := hW.1.2.1
  have hnp := hW.1.1
  have hnx := hW.1.2.2.1
  have hns := hW.1.2.2.2
  refine AMet.of mf_Ma_followText rfl (Nat.le_of_ble_eq_true rfl) ?_
  refine aw_aload_n e_Ma_followText_0 rfl ?_
  refine aw_iconst (v := nI 0) e_Ma_followText_1 (by decide) ?_
  refine aw_iload_n e_Ma_followText_2 rfl ?_
  refine aw_cV2 e_Ma_followText_3 ml_Ma_75 mf_Ma_textFor mv_Ma_textFor (c_Ma_textFor hS hk hC hW (by decide) hp ?_)
  refine aw_ist3 e_Ma_followText_6 ?_
  refine aw_iload_n e_Ma_followText_7 rfl ?_
  refine aw_iconst (v := -1) e_Ma_followText_8 (by decide) ?_
  refine awZ_icmp_eq e_Ma_followText_9 (fun h9 => ?_) (fun h9 => ?_)
  · have e0 : follow V p = V := by
      unfold follow
      cases hl : lastT V 0 p (nX V) with
      | none => rfl
      | some j =>
        rw [hl] at h9
        have h8 : (nI j).toInt = -1 := h9
        have h7 := lastT_lt hl
        rw [nT (by omega)] at h8
        exact absurd h8 (by omega)
    exact aw_vret e_Ma_followText_61 rfl (hQ I (by rw [e0]; exact hC) (fun _ _ _ _ => rfl))
  · obtain ⟨j, hj0⟩ : ∃ j, lastT V 0 p (nX V) = some j := by
      cases hl : lastT V 0 p (nX V) with
      | none => rw [hl] at h9; exact absurd rfl h9
      | some j => exact ⟨j, rfl⟩
    have hj : j < nX V := lastT_lt hj0
    rw [hj0]
    refine aw_aload_n e_Ma_followText_12 rfl ?_
    refine aw_iload_n e_Ma_followText_13 rfl ?_
    refine aw_cV1 e_Ma_followText_14 ml_Ma_79 mf_Ma_hasPart mv_Ma_hasPart (c_Ma_hasPart hS hk hC hW ?_)
    refine awB_eq e_Ma_followText_17 (fun h17 => ?_) (fun h17 => ?_)
    · have e0 : follow V p = V := by
        unfold follow
        rw [hj0]
        exact if_neg (fun z => h17 ((nI_inR (by omega)).mpr z.1))
      exact aw_vret e_Ma_followText_61 rfl (hQ I (by rw [e0]; exact hC) (fun _ _ _ _ => rfl))
    · have hpn : p < nP V := (nI_inR (by omega)).mp h17
      have hpw := hW.2.1 p hpn
      refine aw_aload_n e_Ma_followText_20 rfl ?_
      refine aw_getR e_Ma_followText_21 fl_Ma_11 (hS.1 _ _ _ _ rfl) ?_
      refine aw_iload_n e_Ma_followText_24 rfl ?_
      refine aw_aald e_Ma_followText_25 rfl (show _ < 12 by omega) (by omega) (hS.2.1 _ _ (by omega) (by omega)) ?_
      refine aw_getE e_Ma_followText_26 fl_Ma_56 (hC.2.1 _ _ (by omega) (by decide)) ?_
      refine aw_iconst (v := nI 3) e_Ma_followText_29 (by decide) ?_
      refine awN_icmp_ne e_Ma_followText_30 (by omega) (by omega) (fun h30 => ?_) (fun h30 => ?_)
      · have e0 : follow V p = V := by
          unfold follow
          rw [hj0]
          exact if_neg (fun z => h30 z.2)
        exact aw_vret e_Ma_followText_61 rfl (hQ I (by rw [e0]; exact hC) (fun _ _ _ _ => rfl))
      · refine aw_aload_n e_Ma_followText_33 rfl ?_
        refine aw_getR e_Ma_followText_34 fl_Ma_11 (hS.1 _ _ _ _ rfl) ?_
        refine aw_iload_n e_Ma_followText_37 rfl ?_
        refine aw_aald e_Ma_followText_38 rfl (show _ < 12 by omega) (by omega) (hS.2.1 _ _ (by omega) (by omega)) ?_
        refine aw_aload_n e_Ma_followText_39 rfl ?_
        refine aw_iload_n e_Ma_followText_40 rfl ?_
        refine aw_aload_n e_Ma_followText_41 rfl ?_
        refine aw_aload_n e_Ma_followText_42 rfl ?_
        refine aw_getR e_Ma_followText_43 fl_Ma_11 (hS.1 _ _ _ _ rfl) ?_
        refine aw_iload_n e_Ma_followText_46 rfl ?_
        refine aw_aald e_Ma_followText_47 rfl (show _ < 12 by omega) (by omega) (hS.2.1 _ _ (by omega) (by omega)) ?_
        refine aw_getE e_Ma_followText_48 fl_Ma_59 (hC.2.1 _ _ (by omega) (by decide)) ?_
        refine aw_iconst (v := nI 0) e_Ma_followText_51 (by decide) ?_
        refine aw_cV4 e_Ma_followText_52 ml_Ma_82 mf_Ma_textGives mv_Ma_textGives (c_Ma_textGives hS hk hC hW hj (fun f => ?_))
        refine aw_cSN1 e_Ma_followText_55 mn_Ma_62 mf_Pb_worthOf ms_Pb_worthOf (c_Pb_worthOf ?_)
        refine aw_putI e_Ma_followText_58 fl_Ma_59 ?_
        have e0 : follow V p = setH V p (wof (evT (nmC (nI (nS V)) (nI (pP V p 4)) (nI 0)) (tX V j).2.2.2).toInt) := by
          unfold follow
          rw [hj0]
          exact if_pos ⟨hpn, h30⟩
        have hC2 : CM (dsk I f) R Z k V := hC.keep hW (fun t i hti => dsk_n (by unfold own at hti; omega)) (fun _ _ _ => rfl)
        refine aw_vret e_Ma_followText_61 rfl (hQ _ (by rw [e0]; exact CM_setH hC2 hW hpn) (fun t i h1 h2 => ?_))
        rw [sI_n (by unfold own at h1; omega), dsk_n h2]
