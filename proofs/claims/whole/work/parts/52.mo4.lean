/-! ===== the model: its table of laws ===== -/
def TM (I : It) (L : Lt) (n : Nat) (F : Nat → Nat → Nat) : Prop := I 9 0 13 = nI n ∧ n ≤ 24 ∧ ∀ r c, r < n → c < 25 → L 37 0 (25 * r + c) = lN (F r c) ∧ F r c < 1000003
def frT (L L2 : Lt) : Prop := ∀ t i, ¬ (t = 37 ∧ i = 0) → L2 t i = L t i
theorem frT_0 {L : Lt} : frT L L := fun _ _ _ => rfl
theorem frT_t {L L2 L3 : Lt} (h : frT L L2) (h2 : frT L2 L3) : frT L L3 := fun t i hti => (h2 t i hti).trans (h t i hti)
theorem frT_s {L L1 : Lt} {n : Nat} {x : Int64} (h : frT L L1) : frT L (sL L1 37 0 n x) := fun t i hti => (sL_n hti).trans (h t i hti)
def fl (I I2 : It) : Prop := (∀ t i, ¬ (t = 9 ∧ i = 0) → I2 t i = I t i) ∧ ∀ f, f ≠ 13 → I2 9 0 f = I 9 0 f
theorem fl_0 {I : It} : fl I I := ⟨fun _ _ _ => rfl, fun _ _ => rfl⟩
theorem fl_t {I I2 I3 : It} (h : fl I I2) (h2 : fl I2 I3) : fl I I3 := ⟨fun t i hti => (h2.1 t i hti).trans (h.1 t i hti), fun f hf => (h2.2 f hf).trans (h.2 f hf)⟩
theorem fl_s {I I1 : It} {x : Int32} (h : fl I I1) : fl I (sI I1 9 0 13 x) := ⟨fun t i hti => (sI_n hti).trans (h.1 t i hti), fun f hf => (sI_ne hf).trans (h.2 f hf)⟩
theorem fl.M {I I2 : It} (h : fl I I2) : fM I I2 := ⟨fun t i a _ _ _ _ _ _ => h.1 t i (fun z => a z.1), h.2 3 (by decide), h.2 16 (by decide), h.2 33 (by decide)⟩
theorem fl.C {I I2 : It} {k : Nat} {V : Mc} (h : fl I I2) (hC : MC I k V) : MC I2 k V := hC.keep (h.1 28 k (by omega))
theorem TM_cg {I : It} {L : Lt} {n : Nat} {F G : Nat → Nat → Nat} (h : TM I L n F) (e : ∀ r c, r < n → c < 25 → F r c = G r c) : TM I L n G := ⟨h.1, h.2.1, fun r c hr hc => by rw [← e r c hr hc]; exact h.2.2 r c hr hc⟩
theorem TM_set {I : It} {L : Lt} {n : Nat} {F : Nat → Nat → Nat} {r c v : Nat} (h : TM I L n F) (hr : r < n) (hc : c < 25) (hv : v < 1000003) : TM I (sL L 37 0 (25 * r + c) (lN v)) n (setR F r c v) := by
  refine ⟨h.1, h.2.1, fun q j hq hj => ?_⟩
  unfold setR
  by_cases e : q = r
  · rw [if_pos e]
    by_cases e2 : j = c
    · rw [if_pos e2, e, e2, sL_eq]; exact ⟨rfl, hv⟩
    · rw [if_neg e2, sL_ne (by omega), e]; exact h.2.2 r j hr hj
  · rw [if_neg e, sL_ne (by omega)]; exact h.2.2 q j hq hj
theorem TM_row {I : It} {L : Lt} {n c v : Nat} {F : Nat → Nat → Nat} {row row2 : Nat → Nat} (h : TM I L (n + 1) (addR n F row)) (hc : c < 25) (hv : v < 1000003) (hr : ∀ j, j < 25 → row2 j = if j = c then v else row j) : TM I (sL L 37 0 (25 * n + c) (lN v)) (n + 1) (addR n F row2) := by
  refine TM_cg (TM_set h (Nat.lt_succ_self n) hc hv) (fun q j hq hj => ?_)
  unfold setR
  by_cases e : q = n
  · rw [if_pos e, e, addR_s, addR_s, hr j hj]
  · rw [if_neg e, addR_n _ _ e, addR_n _ _ e]
/-- the laws' own columns, and what they come to behind them -/
def fwr (w : Nat) (row : Nat → Nat) : Nat → Nat := fun c => row (if c < w then c else 24)
def fw (w : Nat) (F : Nat → Nat → Nat) : Nat → Nat → Nat := fun r => fwr w (F r)
theorem fw_add (w n : Nat) (F : Nat → Nat → Nat) (row : Nat → Nat) : fw w (addR n F row) = addR n (fw w F) (fwr w row) := by
  funext r
  unfold fw addR
  split <;> rfl
theorem fwr_T {w o1 o2 t : Nat} (h1 : o1 < w) (h2 : o2 < w) (hw : w ≤ 24) : ∀ c, c ≤ w → fwr w (rwT o1 o2 t) c = rwT o1 o2 t c := fun c hc => by
  unfold fwr
  by_cases e : c < w
  · rw [if_pos e]
  · rw [if_neg e]
    unfold rwT
    rw [if_neg (by omega), if_neg (by omega), if_neg (by omega), if_neg (by omega)]
theorem fwr_E {w kd so sh ho b : Nat} (h1 : 2 * b + so < w) (hw : w ≤ 24) : ∀ c, c ≤ w → fwr w (rwE kd so sh ho b 24) c = rwE kd so sh ho b w c := fun c hc => by
  unfold fwr
  by_cases e : c < w
  · rw [if_pos e]
    unfold rwE
    rw [if_neg (show ¬ c = 24 by omega), if_neg (show ¬ c = w by omega)]
  · rw [if_neg e]
    unfold rwE
    rw [if_pos rfl, if_pos (show c = w by omega)]
theorem LWI_cg {V : Mc} {w p n : Nat} {A B : Nat → Nat → Nat} (h : LWI V w p n A) (e : ∀ r c, r < n → c ≤ w → A r c = B r c) : LWI V w p n B := by
  refine ⟨h.1, fun x hx => ?_⟩
  rw [← h.2 x hx]
  exact ⟨fun q r hr => (eqn_cg (e r · hr)).2 (q r hr), fun q r hr => (eqn_cg (e r · hr)).1 (q r hr)⟩
theorem addR_cg {w n m : Nat} {A B : Nat → Nat → Nat} {row row2 : Nat → Nat} (hm : m = n + 1) (h : ∀ r c, r < n → c ≤ w → A r c = B r c) (h2 : ∀ c, c ≤ w → row c = row2 c) : ∀ r c, r < m → c ≤ w → addR n A row r c = addR n B row2 r c := fun r c hr hc => by
  by_cases e : r = n
  · rw [e, addR_s, addR_s]; exact h2 c hc
  · rw [addR_n _ _ e, addR_n _ _ e]; exact h r c (by omega) hc
theorem wof_neg {s : Nat} (h : 0 < s ∧ s < 1000003) : wof (((0 : Nat) : Int) + -(s : Int)) = 1000003 - s := by unfold wof; omega
theorem wof_1 : wof (((0 : Nat) : Int) + 1) = 1 := by decide
theorem one_put {o : Nat} : ∀ j, j < 25 → (if j = o then 1 else 0) = if j = o then wof (((0 : Nat) : Int) + (lN 1).toInt) else 0 := fun j _ => by
  rw [pk_lT (by decide)]
  exact ite_congr rfl (fun _ => wof_1.symm) (fun _ => rfl)
theorem rwT_put {o1 o2 t : Nat} {v : Int64} (hv : v.toInt = -(t : Int)) (ht : 0 < t ∧ t < 1000003) (hne : o1 ≠ o2) : ∀ j, j < 25 → rwT o1 o2 t j = if j = o2 then wof (((if j = o1 then 1 else 0 : Nat) : Int) + v.toInt) else (if j = o1 then 1 else 0) := fun j _ => by
  unfold rwT
  rw [hv]
  by_cases e : j = o2
  · rw [if_pos e, if_pos e, if_neg (by omega)]
    exact (wof_neg ht).symm
  · rw [if_neg e, if_neg e]
theorem neg_lT {s : Nat} (h : s < 1000003) : (- lN s).toInt = -(s : Int) := by rw [Int64.toInt_neg, pk_lT (by omega)]; exact bm64 (by omega) (by omega)
theorem c_Mo_line {l : Launch} {E : En} {d : Nat} {I : It} {L : Lt} {R : Rt} {Z : Zt} {Q : Qt} {n : Nat} {F : Nat → Nat → Nat} (hS : Sta R) (hT : TM I L n F) (hn : n < 24) (hQ : ∀ L2, TM (sI I 9 0 13 (nI (n + 1))) L2 (n + 1) (addR n F (fun _ => 0)) → frT L L2 → Q none (sI I 9 0 13 (nI (n + 1))) L2 R Z) : AMet l E d M_Mo_line [vr 9 0] I L R Z Q := by
  refine AMet.of mf_Mo_line rfl (Nat.le_of_ble_eq_true rfl) ?_
  refine aw_iconst (v := nI 0) e_Mo_line_0 (by decide) ?_
  refine aw_ist1 e_Mo_line_1 ?_
  refine up_loop (P := fun j => ∀ L1, frT L L1 → (∀ m, m < 25 * n → L1 37 0 m = L 37 0 m) → (∀ c, c < j → L1 37 0 (25 * n + c) = lN 0) → AWq l E d M_Mo_line Z 2 [some (vr 9 0), some (vi (nI j))] [] I L1 R Z Q) (N := 25) (fun j hj ih L1 hf h1 h2 => ?_) 0 (by omega) L frT_0 (fun _ _ => rfl) (fun c hc => absurd hc (Nat.not_lt_zero c))
  refine aw_iload_n e_Mo_line_2 rfl ?_
  refine aw_bipush (v := nI 25) e_Mo_line_3 (by decide) ?_
  refine awN_icmp_ge e_Mo_line_5 (by omega) (by omega) (fun h5 => ?_) (fun h5 => ?_)
  · refine aw_aload_n e_Mo_line_29 rfl ?_
    refine aw_dup e_Mo_line_30 rfl ?_
    refine aw_getE e_Mo_line_31 fl_Mo_146 hT.1 ?_
    refine aw_iconst (v := nI 1) e_Mo_line_34 (by decide) ?_
    first | refine awN_iadd e_Mo_line_35 ?_ | refine aw_iadd e_Mo_line_35 ?_
    refine aw_putI e_Mo_line_36 fl_Mo_146 ?_
    refine aw_vret e_Mo_line_39 rfl (hQ _ ⟨sI_eq _ _ _ _ _, hn, fun r c hr hc => ?_⟩ hf)
    by_cases e : r = n
    · rw [e, addR_s, h2 c (by omega)]; exact ⟨rfl, by decide⟩
    · rw [addR_n _ _ e, h1 _ (by omega)]; exact hT.2.2 r c (by omega) hc
  · refine aw_aload_n e_Mo_line_8 rfl ?_
    refine aw_getR e_Mo_line_9 fl_Mo_43 (hS.1 _ _ _ _ rfl) ?_
    refine aw_bipush (v := nI 25) e_Mo_line_12 (by decide) ?_
    refine aw_aload_n e_Mo_line_14 rfl ?_
    refine aw_getE e_Mo_line_15 fl_Mo_146 hT.1 ?_
    first | refine awN_imul e_Mo_line_18 ?_ | refine aw_imul e_Mo_line_18 ?_
    refine aw_iload_n e_Mo_line_19 rfl ?_
    first | refine awN_iadd e_Mo_line_20 ?_ | refine aw_iadd e_Mo_line_20 ?_
    refine aw_lconst (v := lN 0) e_Mo_line_21 rfl ?_
    refine aw_last e_Mo_line_22 rfl (show _ < 600 by omega) (by omega) ?_
    refine aw_inc1 e_Mo_line_23 (inc1 _) ?_
    refine aw_goto e_Mo_line_26 ?_
    refine ih h5 _ (frT_s hf) (fun m hm => by rw [sL_ne (by omega)]; exact h1 m hm) (fun c hc => ?_)
    by_cases e : c = j
    · rw [e, sL_eq]
    · rw [sL_ne (by omega)]; exact h2 c (by omega)
theorem c_Mo_put {l : Launch} {E : En} {d : Nat} {I : It} {L : Lt} {R : Rt} {Z : Zt} {Q : Qt} {n : Nat} {F : Nat → Nat → Nat} {row row2 : Nat → Nat} {b wh : Nat} {v : Int64} (hS : Sta R) (hT : TM I L (n + 1) (addR n F row)) (hb : 2 * b + wh < 24) (hv : -1000003 ≤ v.toInt ∧ v.toInt ≤ 1000003) (hr : ∀ j, j < 25 → row2 j = if j = 2 * b + wh then wof ((row j : Int) + v.toInt) else row j) (hQ : ∀ L2, TM I L2 (n + 1) (addR n F row2) → frT L L2 → Q none I L2 R Z) : AMet l E (d + 1) M_Mo_put [vr 9 0, vi (nI b), vi (nI wh), vl v] I L R Z Q := by
  have hn := hT.2.1
  obtain ⟨hx, hxl⟩ := hT.2.2 n (2 * b + wh) (by omega) (by omega)
  rw [addR_s, ← Nat.add_assoc] at hx
  rw [addR_s] at hxl
  have hs : (lN (row (2 * b + wh)) + v).toInt = (row (2 * b + wh) : Int) + v.toInt := by rw [Int64.toInt_add, pk_lT (by omega), bm64 (by omega) (by omega)]
  refine AMet.of mf_Mo_put rfl (Nat.le_of_ble_eq_true rfl) ?_
  refine aw_bipush (v := nI 25) e_Mo_put_0 (by decide) ?_
  refine aw_aload_n e_Mo_put_2 rfl ?_
  refine aw_getE e_Mo_put_3 fl_Mo_146 hT.1 ?_
  refine aw_iconst (v := nI 1) e_Mo_put_6 (by decide) ?_
  refine awN_isub e_Mo_put_7 (by omega) ?_
  rw [Nat.add_sub_cancel]
  first | refine awN_imul e_Mo_put_8 ?_ | refine aw_imul e_Mo_put_8 ?_
  refine aw_iconst (v := nI 2) e_Mo_put_9 (by decide) ?_
  refine aw_iload_n e_Mo_put_10 rfl ?_
  first | refine awN_imul e_Mo_put_11 ?_ | refine aw_imul e_Mo_put_11 ?_
  first | refine awN_iadd e_Mo_put_12 ?_ | refine aw_iadd e_Mo_put_12 ?_
  refine aw_iload_n e_Mo_put_13 rfl ?_
  first | refine awN_iadd e_Mo_put_14 ?_ | refine aw_iadd e_Mo_put_14 ?_
  refine aw_ist5 e_Mo_put_15 ?_
  refine aw_aload_n e_Mo_put_17 rfl ?_
  refine aw_getR e_Mo_put_18 fl_Mo_43 (hS.1 _ _ _ _ rfl) ?_
  refine aw_iload e_Mo_put_21 rfl ?_
  refine aw_aload_n e_Mo_put_23 rfl ?_
  refine aw_getR e_Mo_put_24 fl_Mo_43 (hS.1 _ _ _ _ rfl) ?_
  refine aw_iload e_Mo_put_27 rfl ?_
  refine aw_lalE e_Mo_put_29 rfl (show _ < 600 by omega) (by omega) hx ?_
  refine aw_lload_n e_Mo_put_30 rfl ?_
  refine aw_ladd e_Mo_put_31 ?_
  refine aw_cS1 e_Mo_put_32 ml_Mo_90 mf_Mo_worthOf ms_Mo_worthOf (c_Mo_worthOf ?_)
  rw [hs, Nat.add_assoc]
  refine aw_last e_Mo_put_35 rfl (show _ < 600 by omega) (by omega) ?_
  refine aw_vret e_Mo_put_36 rfl (hQ _ (TM_row hT (by omega) (wof_lt _) (fun j hj => ?_)) (frT_s frT_0))
  rw [hr j hj]
  by_cases e : j = 2 * b + wh
  · rw [if_pos e, if_pos e, e]
  · rw [if_neg e, if_neg e]
theorem c_Mo_comesTo {l : Launch} {E : En} {d : Nat} {I : It} {L : Lt} {R : Rt} {Z : Zt} {Q : Qt} {n : Nat} {F : Nat → Nat → Nat} {row row2 : Nat → Nat} {v : Int64} (hS : Sta R) (hT : TM I L (n + 1) (addR n F row)) (hr : ∀ j, j < 25 → row2 j = if j = 24 then wof v.toInt else row j) (hQ : ∀ L2, TM I L2 (n + 1) (addR n F row2) → frT L L2 → Q none I L2 R Z) : AMet l E (d + 1) M_Mo_comesTo [vr 9 0, vl v] I L R Z Q := by
  have hn := hT.2.1
  refine AMet.of mf_Mo_comesTo rfl (Nat.le_of_ble_eq_true rfl) ?_
  refine aw_aload_n e_Mo_comesTo_0 rfl ?_
  refine aw_getR e_Mo_comesTo_1 fl_Mo_43 (hS.1 _ _ _ _ rfl) ?_
  refine aw_bipush (v := nI 25) e_Mo_comesTo_4 (by decide) ?_
  refine aw_aload_n e_Mo_comesTo_6 rfl ?_
  refine aw_getE e_Mo_comesTo_7 fl_Mo_146 hT.1 ?_
  refine aw_iconst (v := nI 1) e_Mo_comesTo_10 (by decide) ?_
  refine awN_isub e_Mo_comesTo_11 (by omega) ?_
  rw [Nat.add_sub_cancel]
  first | refine awN_imul e_Mo_comesTo_12 ?_ | refine aw_imul e_Mo_comesTo_12 ?_
  refine aw_bipush (v := nI 25) e_Mo_comesTo_13 (by decide) ?_
  first | refine awN_iadd e_Mo_comesTo_15 ?_ | refine aw_iadd e_Mo_comesTo_15 ?_
  refine aw_iconst (v := nI 1) e_Mo_comesTo_16 (by decide) ?_
  refine awN_isub e_Mo_comesTo_17 (by omega) ?_
  rw [show 25 * n + 25 - 1 = 25 * n + 24 by omega]
  refine aw_lload_n e_Mo_comesTo_18 rfl ?_
  refine aw_cS1 e_Mo_comesTo_19 ml_Mo_90 mf_Mo_worthOf ms_Mo_worthOf (c_Mo_worthOf ?_)
  refine aw_last e_Mo_comesTo_22 rfl (show _ < 600 by omega) (by omega) ?_
  exact aw_vret e_Mo_comesTo_23 rfl (hQ _ (TM_row hT (by omega) (wof_lt _) hr) (frT_s frT_0))
theorem c_Mo_bondOf {l : Launch} {E : En} {d : Nat} {I : It} {L : Lt} {R : Rt} {Z : Zt} {Q : Qt} {V : Mc} (hS : Sta R) (hC : MC I 0 V) (hW : WF V) {p s : Nat} (hp : p < 12) (hs : s ≤ nB V) (hQ : Q (some (vi (bnd V p s))) I L R Z) : AMet l E (d + 1) M_Mo_bondOf [vr 9 0, vi (nI p), vi (nI s)] I L R Z Q := by
  have hnb := hW.1.2.1
  have hnp := hW.1.1
  have hnx := hW.1.2.2.1
  have hns := hW.1.2.2.2
  refine AMet.of mf_Mo_bondOf rfl (Nat.le_of_ble_eq_true rfl) ?_
  refine aw_iload_n e_Mo_bondOf_0 rfl ?_
  refine aw_ist3 e_Mo_bondOf_1 ?_
  refine up_loop (P := fun i => s ≤ i → fst' (atB V p) (nB V) i = fst' (atB V p) (nB V) s → AWq l E (d + 1) M_Mo_bondOf Z 2 [some (vr 9 0), some (vi (nI p)), some (vi (nI s)), some (vi (nI i))] [] I L R Z Q) (N := nB V) (fun i hi ih hsi hv => ?_) s hs (Nat.le_refl _) rfl
  refine aw_iload_n e_Mo_bondOf_2 rfl ?_
  refine aw_aload_n e_Mo_bondOf_3 rfl ?_
  refine aw_getR e_Mo_bondOf_4 fl_Mo_7 (hS.1 _ _ _ _ rfl) ?_
  refine aw_iconst (v := nI 1) e_Mo_bondOf_7 (by decide) ?_
  refine aw_ialE e_Mo_bondOf_8 rfl (show _ < 3110 by omega) (by omega) (by first | exact hC.1.1 | exact hC.1.2.1 | exact hC.1.2.2.1 | exact hC.1.2.2.2 | exact hC.pk (by omega) | exact hC.2.1 _ _ (by omega) (by decide) | exact hC.2.2.1 _ (by omega) | exact hC.2.2.2.1 _ (by omega)) ?_
  refine awN_icmp_ge e_Mo_bondOf_9 (by omega) (by omega) (fun h9 => ?_) (fun h9 => ?_)
  · refine aw_iconst (v := -1) e_Mo_bondOf_29 (by decide) ?_
    refine aw_iret e_Mo_bondOf_30 rfl rfl ?_
    have e1 : fst' (atB V p) (nB V) s = nB V := by rw [← hv]; exact fst_ge h9
    have e2 : bnd V p s = -1 := by unfold bnd; rw [e1, if_neg (by omega)]
    rw [← e2]
    exact hQ
  · refine aw_aload_n e_Mo_bondOf_12 rfl ?_
    refine aw_iload_n e_Mo_bondOf_13 rfl ?_
    refine aw_iload_n e_Mo_bondOf_14 rfl ?_
    refine aw_cV2 e_Mo_bondOf_15 ml_Mo_109 mf_Mo_comes mv_Mo_comes (c_Mo_comes hS hC hW h9 (by omega) ?_)
    refine aw_if_eq e_Mo_bondOf_18 (fun h18 => ?_) (fun h18 => ?_)
    · refine aw_inc3 e_Mo_bondOf_23 (inc1 _) ?_
      refine aw_goto e_Mo_bondOf_26 ?_
      exact ih h9 (by omega) ((fst_f h9 (cmI_0.1 h18)).symm.trans hv)
    · refine aw_iload_n e_Mo_bondOf_21 rfl ?_
      refine aw_iret e_Mo_bondOf_22 rfl rfl ?_
      have hat : atB V p i = true := by
        cases q : atB V p i with
        | true => rfl
        | false => exact absurd (cmI_0.2 q) h18
      have e1 : fst' (atB V p) (nB V) s = i := by rw [← hv]; exact fst_t h9 hat
      have e2 : bnd V p s = nI i := by unfold bnd; rw [e1, if_pos h9]
      rw [← e2]
      exact hQ
theorem c_Mo_lawsOfTurn {l : Launch} {E : En} {d : Nat} {I : It} {L : Lt} {R : Rt} {Z : Zt} {Q : Qt} {V : Mc} (hS : Sta R) (hC : MC I 0 V) (hW : WF V) {n : Nat} {F : Nat → Nat → Nat} (hT : TM I L n F) {p t b c so : Nat} (hn : n < 23) (hp : p < nP V) (hb : bnd V p 0 = nI b) (hbn : b < nB V) (hc : bnd V p (b + 1) = nI c) (hcn : c < nB V) (hbc : b ≠ c) (hso : so = pP V p 1) (ht : 0 < t ∧ t < 1000003) (hQ : ∀ I2 L2, TM I2 L2 (n + 2) (addR (n + 1) (addR n F (rwT (2 * b + 0) (2 * c + so) t)) (rwT (2 * c + (1 - so)) (2 * b + 1) t)) → fl I I2 → frT L L2 → Q none I2 L2 R Z) : AMet l E (d + 2) M_Mo_lawsOfTurn [vr 9 0, vi (nI p), vl (lN t)] I L R Z Q := by
  have hnb := hW.1.2.1
  have hnp := hW.1.1
  have hnx := hW.1.2.2.1
  have hns := hW.1.2.2.2
  have hv := hW.2.1 p hp
  have hnt := neg_lT ht.2
  refine AMet.of mf_Mo_lawsOfTurn rfl (Nat.le_of_ble_eq_true rfl) ?_
  refine aw_aload_n e_Mo_lawsOfTurn_0 rfl ?_
  refine aw_iload_n e_Mo_lawsOfTurn_1 rfl ?_
  refine aw_iconst (v := nI 0) e_Mo_lawsOfTurn_2 (by decide) ?_
  refine aw_cV2 e_Mo_lawsOfTurn_3 ml_Mo_150 mf_Mo_bondOf mv_Mo_bondOf (c_Mo_bondOf hS hC hW (by omega) (by omega) ?_)
  rw [hb]
  refine aw_ist4 e_Mo_lawsOfTurn_6 ?_
  refine aw_aload_n e_Mo_lawsOfTurn_8 rfl ?_
  refine aw_iload_n e_Mo_lawsOfTurn_9 rfl ?_
  refine aw_iload e_Mo_lawsOfTurn_10 rfl ?_
  refine aw_iconst (v := nI 1) e_Mo_lawsOfTurn_12 (by decide) ?_
  first | refine awN_iadd e_Mo_lawsOfTurn_13 ?_ | refine aw_iadd e_Mo_lawsOfTurn_13 ?_
  refine aw_cV2 e_Mo_lawsOfTurn_14 ml_Mo_150 mf_Mo_bondOf mv_Mo_bondOf (c_Mo_bondOf hS hC hW (by omega) (by omega) ?_)
  rw [hc]
  refine aw_ist5 e_Mo_lawsOfTurn_17 ?_
  refine aw_aload_n e_Mo_lawsOfTurn_19 rfl ?_
  refine aw_iload_n e_Mo_lawsOfTurn_20 rfl ?_
  refine aw_cV1 e_Mo_lawsOfTurn_21 ml_Mo_153 mf_Mo_sortOf mv_Mo_sortOf (c_Mo_sortOf hS hC hW hp ?_)
  rw [← hso]
  refine aw_ist6 e_Mo_lawsOfTurn_24 ?_
  refine aw_aload_n e_Mo_lawsOfTurn_26 rfl ?_
  refine aw_cV0 e_Mo_lawsOfTurn_27 ml_Mo_156 mf_Mo_line mv_Mo_line (c_Mo_line hS hT (by omega) (fun L1 hT1 hf1 => ?_))
  refine aw_aload_n e_Mo_lawsOfTurn_30 rfl ?_
  refine aw_iload e_Mo_lawsOfTurn_31 rfl ?_
  refine aw_iconst (v := nI 0) e_Mo_lawsOfTurn_33 (by decide) ?_
  refine aw_lconst (v := lN 1) e_Mo_lawsOfTurn_34 rfl ?_
  refine aw_cV3 e_Mo_lawsOfTurn_35 ml_Mo_159 mf_Mo_put mv_Mo_put (c_Mo_put (row2 := fun j => if j = 2 * b + 0 then 1 else 0) hS hT1 (by omega) (by rw [pk_lT (by decide)]; decide) one_put (fun L2 hT2 hf2 => ?_))
  refine aw_aload_n e_Mo_lawsOfTurn_38 rfl ?_
  refine aw_iload e_Mo_lawsOfTurn_39 rfl ?_
  refine aw_iload e_Mo_lawsOfTurn_41 rfl ?_
  refine aw_lload_n e_Mo_lawsOfTurn_43 rfl ?_
  refine aw_lneg e_Mo_lawsOfTurn_44 ?_
  refine aw_cV3 e_Mo_lawsOfTurn_45 ml_Mo_159 mf_Mo_put mv_Mo_put (c_Mo_put (row2 := rwT (2 * b + 0) (2 * c + so) t) hS hT2 (by omega) (by rw [hnt]; omega) (rwT_put hnt ht (by omega)) (fun L3 hT3 hf3 => ?_))
  refine aw_aload_n e_Mo_lawsOfTurn_48 rfl ?_
  refine aw_cV0 e_Mo_lawsOfTurn_49 ml_Mo_156 mf_Mo_line mv_Mo_line (c_Mo_line hS hT3 (by omega) (fun L4 hT4 hf4 => ?_))
  refine aw_aload_n e_Mo_lawsOfTurn_52 rfl ?_
  refine aw_iload e_Mo_lawsOfTurn_53 rfl ?_
  refine aw_iload e_Mo_lawsOfTurn_55 rfl ?_
  refine awN_if_ne e_Mo_lawsOfTurn_57 (by omega) (fun h57 => ?_) (fun h57 => ?_)
  · refine aw_iconst (v := nI 0) e_Mo_lawsOfTurn_64 (by decide) ?_
    refine aw_lconst (v := lN 1) e_Mo_lawsOfTurn_65 rfl ?_
    refine aw_cV3 e_Mo_lawsOfTurn_66 ml_Mo_159 mf_Mo_put mv_Mo_put (c_Mo_put (row2 := fun j => if j = 2 * c + (1 - so) then 1 else 0) hS hT4 (by omega) (by rw [pk_lT (by decide)]; decide) (by first | (rw [show 1 - so = 1 by omega]; exact one_put) | (rw [show 1 - so = 0 by omega]; exact one_put)) (fun L5 hT5 hf5 => ?_))
    refine aw_aload_n e_Mo_lawsOfTurn_69 rfl ?_
    refine aw_iload e_Mo_lawsOfTurn_70 rfl ?_
    refine aw_iconst (v := nI 1) e_Mo_lawsOfTurn_72 (by decide) ?_
    refine aw_lload_n e_Mo_lawsOfTurn_73 rfl ?_
    refine aw_lneg e_Mo_lawsOfTurn_74 ?_
    refine aw_cV3 e_Mo_lawsOfTurn_75 ml_Mo_159 mf_Mo_put mv_Mo_put (c_Mo_put (row2 := rwT (2 * c + (1 - so)) (2 * b + 1) t) hS hT5 (by omega) (by rw [hnt]; omega) (rwT_put hnt ht (by omega)) (fun L6 hT6 hf6 => ?_))
    exact aw_vret e_Mo_lawsOfTurn_78 rfl (hQ _ _ hT6 (fl_s (fl_s fl_0)) (frT_t (frT_t (frT_t (frT_t (frT_t hf1 hf2) hf3) hf4) hf5) hf6))
  · refine aw_iconst (v := nI 1) e_Mo_lawsOfTurn_60 (by decide) ?_
    refine aw_goto e_Mo_lawsOfTurn_61 ?_
    refine aw_lconst (v := lN 1) e_Mo_lawsOfTurn_65 rfl ?_
    refine aw_cV3 e_Mo_lawsOfTurn_66 ml_Mo_159 mf_Mo_put mv_Mo_put (c_Mo_put (row2 := fun j => if j = 2 * c + (1 - so) then 1 else 0) hS hT4 (by omega) (by rw [pk_lT (by decide)]; decide) (by first | (rw [show 1 - so = 1 by omega]; exact one_put) | (rw [show 1 - so = 0 by omega]; exact one_put)) (fun L5 hT5 hf5 => ?_))
    refine aw_aload_n e_Mo_lawsOfTurn_69 rfl ?_
    refine aw_iload e_Mo_lawsOfTurn_70 rfl ?_
    refine aw_iconst (v := nI 1) e_Mo_lawsOfTurn_72 (by decide) ?_
    refine aw_lload_n e_Mo_lawsOfTurn_73 rfl ?_
    refine aw_lneg e_Mo_lawsOfTurn_74 ?_
    refine aw_cV3 e_Mo_lawsOfTurn_75 ml_Mo_159 mf_Mo_put mv_Mo_put (c_Mo_put (row2 := rwT (2 * c + (1 - so)) (2 * b + 1) t) hS hT5 (by omega) (by rw [hnt]; omega) (rwT_put hnt ht (by omega)) (fun L6 hT6 hf6 => ?_))
    exact aw_vret e_Mo_lawsOfTurn_78 rfl (hQ _ _ hT6 (fl_s (fl_s fl_0)) (frT_t (frT_t (frT_t (frT_t (frT_t hf1 hf2) hf3) hf4) hf5) hf6))
