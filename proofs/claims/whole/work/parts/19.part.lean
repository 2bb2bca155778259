/-! ===== Part ===== -/
def wantB (kd n : Nat) : Bool := if kd = 5 then decide (2 ≤ n) && decide (n ≤ 12) else n == (if kd = 4 then 2 else 1)
def isOfN (kd w : Nat) : Bool := w == 0 || kd == w || (w == 2 && kd == 3) || (w == 4 && kd == 5)
def shW (a b : Nat) : Nat := a * ivP b % 1000003
theorem shW_lt (a b : Nat) : shW a b < 1000003 := modP _
/-- the five fields of a part -/
def wP (I : It) (q : Nat) (g : Nat → Nat) : It := fun t i f => if t = 3 ∧ i = q ∧ f < 5 then nI (g f) else I t i f
theorem wP_s {I : It} {q : Nat} {g : Nat → Nat} {f : Nat} (h : f < 5) : wP I q g 3 q f = nI (g f) := if_pos ⟨rfl, rfl, h⟩
theorem wP_n {I : It} {q : Nat} {g : Nat → Nat} {t i : Nat} (h : ¬ (t = 3 ∧ i = q)) : wP I q g t i = I t i := by
  funext f
  unfold wP
  rw [if_neg (fun z => h ⟨z.1, z.2.1⟩)]
theorem wP_5 (I : It) (q a b c d e : Nat) : sI (sI (sI (sI (sI I 3 q 0 (nI a)) 3 q 1 (nI b)) 3 q 2 (nI c)) 3 q 3 (nI d)) 3 q 4 (nI e) = wP I q (fun f => ([a, b, c, d, e] : List Nat).getD f 0) := by
  funext t i f
  unfold wP sI
  by_cases h : t = 3 ∧ i = q
  · obtain ⟨rfl, rfl⟩ := h
    match f with
    | 0 => simp
    | 1 => simp
    | 2 => simp
    | 3 => simp
    | 4 => simp
    | n + 5 =>
      simp
      exact fun h => absurd h (by omega)
  · have h2 : ¬ (t = 3 ∧ i = q ∧ f < 5) := fun z => h ⟨z.1, z.2.1⟩
    simp only [if_neg h, if_neg h2]
theorem wP_cg {I : It} {q : Nat} {g g2 : Nat → Nat} (h : ∀ f, f < 5 → g f = g2 f) : wP I q g = wP I q g2 := by
  funext t i f
  unfold wP
  by_cases e : t = 3 ∧ i = q ∧ f < 5
  · rw [if_pos e, if_pos e, h f e.2.2]
  · rw [if_neg e, if_neg e]
theorem c_Pa_wants {l : Launch} {E : En} {d : Nat} {I : It} {L : Lt} {R : Rt} {Z : Zt} {Q : Qt} {q kd : Nat} (hk : I 3 q 0 = nI kd) (hk6 : kd < 6) {n : Nat} (hn : n < 1000) (hQ : Q (some (vi (bI (wantB kd n = true)))) I L R Z) : AMet l E d M_Pa_wants [vr 3 q, vi (nI n)] I L R Z Q := by
  refine AMet.of mf_Pa_wants rfl (Nat.le_of_ble_eq_true rfl) ?_
  refine aw_aload_n e_Pa_wants_0 rfl ?_
  refine aw_getE e_Pa_wants_1 fl_Pa_9 hk ?_
  refine aw_iconst (v := nI 5) e_Pa_wants_4 (by decide) ?_
  refine awN_icmp_ne e_Pa_wants_5 (by omega) (by omega) (fun h5 => ?_) (fun h5 => ?_)
  · refine aw_iload_n e_Pa_wants_25 rfl ?_
    refine aw_aload_n e_Pa_wants_26 rfl ?_
    refine aw_getE e_Pa_wants_27 fl_Pa_9 hk ?_
    refine aw_iconst (v := nI 4) e_Pa_wants_30 (by decide) ?_
    refine awN_icmp_ne e_Pa_wants_31 (by omega) (by omega) (fun h31 => ?_) (fun h31 => ?_)
    · refine aw_iconst (v := nI 1) e_Pa_wants_38 (by decide) ?_
      refine awN_icmp_ne e_Pa_wants_39 (by omega) (by omega) (fun h39 => ?_) (fun h39 => ?_)
      · refine aw_iconst (v := nI 0) e_Pa_wants_46 (by decide) ?_
        first
          | exact awB_1 e_Pa_wants_47 (by unfold wantB; simp [h5, h31, h39]) hQ
          | exact awB_0 e_Pa_wants_47 (by unfold wantB; simp [h5, h31, h39]) hQ
      · refine aw_iconst (v := nI 1) e_Pa_wants_42 (by decide) ?_
        refine aw_goto e_Pa_wants_43 ?_
        first
          | exact awB_1 e_Pa_wants_47 (by unfold wantB; simp [h5, h31, h39]) hQ
          | exact awB_0 e_Pa_wants_47 (by unfold wantB; simp [h5, h31, h39]) hQ
    · refine aw_iconst (v := nI 2) e_Pa_wants_34 (by decide) ?_
      refine aw_goto e_Pa_wants_35 ?_
      refine awN_icmp_ne e_Pa_wants_39 (by omega) (by omega) (fun h39 => ?_) (fun h39 => ?_)
      · refine aw_iconst (v := nI 0) e_Pa_wants_46 (by decide) ?_
        first
          | exact awB_1 e_Pa_wants_47 (by unfold wantB; simp [h5, h31, h39]) hQ
          | exact awB_0 e_Pa_wants_47 (by unfold wantB; simp [h5, h31, h39]) hQ
      · refine aw_iconst (v := nI 1) e_Pa_wants_42 (by decide) ?_
        refine aw_goto e_Pa_wants_43 ?_
        first
          | exact awB_1 e_Pa_wants_47 (by unfold wantB; simp [h5, h31, h39]) hQ
          | exact awB_0 e_Pa_wants_47 (by unfold wantB; simp [h5, h31, h39]) hQ
  · refine aw_iload_n e_Pa_wants_8 rfl ?_
    refine aw_iconst (v := nI 2) e_Pa_wants_9 (by decide) ?_
    refine awN_icmp_lt e_Pa_wants_10 (by omega) (by omega) (fun h10 => ?_) (fun h10 => ?_)
    · refine aw_iconst (v := nI 0) e_Pa_wants_23 (by decide) ?_
      first
        | exact awB_1 e_Pa_wants_24 (by unfold wantB; simp [h5]; omega) hQ
        | exact awB_0 e_Pa_wants_24 (by unfold wantB; simp [h5]; omega) hQ
    · refine aw_iload_n e_Pa_wants_13 rfl ?_
      refine aw_bipush (v := nI 12) e_Pa_wants_14 (by decide) ?_
      refine awN_icmp_gt e_Pa_wants_16 (by omega) (by omega) (fun h16 => ?_) (fun h16 => ?_)
      · refine aw_iconst (v := nI 0) e_Pa_wants_23 (by decide) ?_
        first
          | exact awB_1 e_Pa_wants_24 (by unfold wantB; simp [h5]; omega) hQ
          | exact awB_0 e_Pa_wants_24 (by unfold wantB; simp [h5]; omega) hQ
      · refine aw_iconst (v := nI 1) e_Pa_wants_19 (by decide) ?_
        refine aw_goto e_Pa_wants_20 ?_
        first
          | exact awB_1 e_Pa_wants_24 (by unfold wantB; simp [h5]; omega) hQ
          | exact awB_0 e_Pa_wants_24 (by unfold wantB; simp [h5]; omega) hQ
theorem c_Pa_shareCode {l : Launch} {E : En} {d : Nat} {I : It} {L : Lt} {R : Rt} {Z : Zt} {Q : Qt} {q a b : Nat} (ha : I 3 q 2 = nI a) (hb : I 3 q 3 = nI b) (hQ : Q (some (vi (nI (10 * a + b)))) I L R Z) : AMet l E d M_Pa_shareCode [vr 3 q] I L R Z Q := by
  refine AMet.of mf_Pa_shareCode rfl (Nat.le_of_ble_eq_true rfl) ?_
  refine aw_bipush (v := nI 10) e_Pa_shareCode_0 (by decide) ?_
  refine aw_aload_n e_Pa_shareCode_2 rfl ?_
  refine aw_getE e_Pa_shareCode_3 fl_Pa_25 ha ?_
  first | refine awN_imul e_Pa_shareCode_6 ?_ | refine aw_imul e_Pa_shareCode_6 ?_
  refine aw_aload_n e_Pa_shareCode_7 rfl ?_
  refine aw_getE e_Pa_shareCode_8 fl_Pa_28 hb ?_
  first | refine awN_iadd e_Pa_shareCode_11 ?_ | refine aw_iadd e_Pa_shareCode_11 ?_
  exact aw_iret e_Pa_shareCode_12 rfl rfl hQ
theorem c_Pa_shareWorth {l : Launch} {E : En} {d : Nat} {I : It} {L : Lt} {R : Rt} {Z : Zt} {Q : Qt} {q a b : Nat} (ha : I 3 q 2 = nI a) (hb : I 3 q 3 = nI b) (ha2 : a < 1000) (hb2 : b < 1000) (hQ : Q (some (vi (nI (shW a b)))) I L R Z) : AMet l E (d + 1) M_Pa_shareWorth [vr 3 q] I L R Z Q := by
  refine AMet.of mf_Pa_shareWorth rfl (Nat.le_of_ble_eq_true rfl) ?_
  refine aw_aload_n e_Pa_shareWorth_0 rfl ?_
  refine aw_getE e_Pa_shareWorth_1 fl_Pa_25 ha ?_
  refine awN_i2l e_Pa_shareWorth_4 (by omega) ?_
  refine aw_aload_n e_Pa_shareWorth_5 rfl ?_
  refine aw_getE e_Pa_shareWorth_6 fl_Pa_28 hb ?_
  refine awN_i2l e_Pa_shareWorth_9 (by omega) ?_
  refine aw_cSN1 e_Pa_shareWorth_10 mn_Pa_31 mf_Pb_inverse ms_Pb_inverse (c_Pb_inverse (by omega) ?_)
  refine aw_cSN2 e_Pa_shareWorth_13 mn_Pa_35 mf_Pb_product ms_Pb_product (c_Pb_product (by omega) (ivP_lt _) ?_)
  exact aw_iret e_Pa_shareWorth_16 rfl rfl hQ
theorem c_Pa_takeShare {l : Launch} {E : En} {d : Nat} {I : It} {L : Lt} {R : Rt} {Z : Zt} {Q : Qt} {q v : Nat} (hv : v < 1000) (hQ : Q none (sI (sI I 3 q 2 (nI (v / 10))) 3 q 3 (nI (v % 10))) L R Z) : AMet l E d M_Pa_takeShare [vr 3 q, vi (nI v)] I L R Z Q := by
  refine AMet.of mf_Pa_takeShare rfl (Nat.le_of_ble_eq_true rfl) ?_
  refine aw_aload_n e_Pa_takeShare_0 rfl ?_
  refine aw_iload_n e_Pa_takeShare_1 rfl ?_
  refine aw_bipush (v := nI 10) e_Pa_takeShare_2 (by decide) ?_
  refine awN_idiv e_Pa_takeShare_4 (by omega) (by omega) (by omega) ?_
  refine aw_putI e_Pa_takeShare_5 fl_Pa_25 ?_
  refine aw_aload_n e_Pa_takeShare_8 rfl ?_
  refine aw_iload_n e_Pa_takeShare_9 rfl ?_
  refine aw_bipush (v := nI 10) e_Pa_takeShare_10 (by decide) ?_
  refine awN_irem e_Pa_takeShare_12 (by omega) (by omega) (by omega) ?_
  refine aw_putI e_Pa_takeShare_13 fl_Pa_28 ?_
  exact aw_vret e_Pa_takeShare_16 rfl hQ
theorem c_Pa_become {l : Launch} {E : En} {d : Nat} {I : It} {L : Lt} {R : Rt} {Z : Zt} {Q : Qt} {q kd so v : Nat} (hv : v < 1000) (hQ : Q none (wP I q (fun f => ([kd, so, v / 10, v % 10, 0] : List Nat).getD f 0)) L R Z) : AMet l E (d + 1) M_Pa_become [vr 3 q, vi (nI kd), vi (nI so), vi (nI v)] I L R Z Q := by
  refine AMet.of mf_Pa_become rfl (Nat.le_of_ble_eq_true rfl) ?_
  refine aw_aload_n e_Pa_become_0 rfl ?_
  refine aw_iload_n e_Pa_become_1 rfl ?_
  refine aw_putI e_Pa_become_2 fl_Pa_9 ?_
  refine aw_aload_n e_Pa_become_5 rfl ?_
  refine aw_iload_n e_Pa_become_6 rfl ?_
  refine aw_putI e_Pa_become_7 fl_Pa_15 ?_
  refine aw_aload_n e_Pa_become_10 rfl ?_
  refine aw_iload_n e_Pa_become_11 rfl ?_
  refine aw_cV1 e_Pa_become_12 ml_Pa_18 mf_Pa_takeShare mv_Pa_takeShare (c_Pa_takeShare hv ?_)
  refine aw_aload_n e_Pa_become_15 rfl ?_
  refine aw_iconst (v := nI 0) e_Pa_become_16 (by decide) ?_
  refine aw_putI e_Pa_become_17 fl_Pa_22 ?_
  exact aw_vret e_Pa_become_20 rfl (by rw [wP_5]; exact hQ)
theorem c_Pa_takeFrom {l : Launch} {E : En} {d : Nat} {I : It} {L : Lt} {R : Rt} {Z : Zt} {Q : Qt} {q q2 : Nat} {g : Nat → Nat} (hne : ¬ (3 = 3 ∧ q2 = q)) (hg : ∀ f, f < 5 → I 3 q2 f = nI (g f)) (hQ : Q none (wP I q g) L R Z) : AMet l E d M_Pa_takeFrom [vr 3 q, vr 3 q2] I L R Z Q := by
  refine AMet.of mf_Pa_takeFrom rfl (Nat.le_of_ble_eq_true rfl) ?_
  refine aw_aload_n e_Pa_takeFrom_0 rfl ?_
  refine aw_aload_n e_Pa_takeFrom_1 rfl ?_
  refine aw_getE e_Pa_takeFrom_2 fl_Pa_9 (x := nI (g 0)) (by first | exact hg 0 (by decide) | (simp only [sI_n hne]; exact hg 0 (by decide))) ?_
  refine aw_putI e_Pa_takeFrom_5 fl_Pa_9 ?_
  refine aw_aload_n e_Pa_takeFrom_8 rfl ?_
  refine aw_aload_n e_Pa_takeFrom_9 rfl ?_
  refine aw_getE e_Pa_takeFrom_10 fl_Pa_15 (x := nI (g 1)) (by first | exact hg 1 (by decide) | (simp only [sI_n hne]; exact hg 1 (by decide))) ?_
  refine aw_putI e_Pa_takeFrom_13 fl_Pa_15 ?_
  refine aw_aload_n e_Pa_takeFrom_16 rfl ?_
  refine aw_aload_n e_Pa_takeFrom_17 rfl ?_
  refine aw_getE e_Pa_takeFrom_18 fl_Pa_25 (x := nI (g 2)) (by first | exact hg 2 (by decide) | (simp only [sI_n hne]; exact hg 2 (by decide))) ?_
  refine aw_putI e_Pa_takeFrom_21 fl_Pa_25 ?_
  refine aw_aload_n e_Pa_takeFrom_24 rfl ?_
  refine aw_aload_n e_Pa_takeFrom_25 rfl ?_
  refine aw_getE e_Pa_takeFrom_26 fl_Pa_28 (x := nI (g 3)) (by first | exact hg 3 (by decide) | (simp only [sI_n hne]; exact hg 3 (by decide))) ?_
  refine aw_putI e_Pa_takeFrom_29 fl_Pa_28 ?_
  refine aw_aload_n e_Pa_takeFrom_32 rfl ?_
  refine aw_aload_n e_Pa_takeFrom_33 rfl ?_
  refine aw_getE e_Pa_takeFrom_34 fl_Pa_22 (x := nI (g 4)) (by first | exact hg 4 (by decide) | (simp only [sI_n hne]; exact hg 4 (by decide))) ?_
  refine aw_putI e_Pa_takeFrom_37 fl_Pa_22 ?_
  refine aw_vret e_Pa_takeFrom_40 rfl ?_
  rw [wP_5, wP_cg (g2 := g)]
  · exact hQ
  · intro f hf
    match f, hf with
    | 0, _ => rfl
    | 1, _ => rfl
    | 2, _ => rfl
    | 3, _ => rfl
    | 4, _ => rfl
    | n + 5, h => omega
def dpt (a : Nat) : Nat := ([1, 2, 2, 3, 2, 3] : List Nat).getD a 0
theorem dpt_b : ∀ a, a < 6 → 1 ≤ dpt a ∧ dpt a ≤ 3 := by decide
theorem up0 : ∀ w, w < 6 → ¬ 0 = w → isOfN 0 w = false := by decide
theorem up1 : ∀ w, w < 6 → ¬ 1 = w → isOfN 0 w = isOfN 1 w := by decide
theorem up2 : ∀ w, w < 6 → ¬ 2 = w → isOfN 0 w = isOfN 2 w := by decide
theorem up3 : ∀ w, w < 6 → ¬ 3 = w → isOfN 2 w = isOfN 3 w := by decide
theorem up4 : ∀ w, w < 6 → ¬ 4 = w → isOfN 0 w = isOfN 4 w := by decide
theorem up5 : ∀ w, w < 6 → ¬ 5 = w → isOfN 4 w = isOfN 5 w := by decide
theorem c_Pa_isOf {l : Launch} {E : En} {d : Nat} {I : It} {L : Lt} {R : Rt} {Z : Zt} {Q : Qt} {q kd : Nat} (hk : I 3 q 0 = nI kd) (hk6 : kd < 6) {w : Nat} (hw : w < 6) (hQ : Q (some (vi (bI (isOfN kd w = true)))) I L R Z) : AMet l E d M_Pa_isOf [vr 3 q, vi (nI w)] I L R Z Q := by
  have fin : isOfN kd w = false → ∀ i, i < 6 → AWq l E d M_Pa_isOf Z 7 [some (vr 3 q), some (vi (nI w)), some (vi (-1)), some (vi (nI i))] [] I L R Z Q := by
    intro hf i hi
    refine aw_iload_n e_Pa_isOf_7 rfl ?_
    refine aw_bipush (v := nI 6) e_Pa_isOf_8 (by decide) ?_
    refine awN_icmp_ge e_Pa_isOf_10 (by omega) (by omega) (fun h => absurd h (by omega)) (fun h => ?_)
    refine aw_iload_n e_Pa_isOf_13 rfl ?_
    refine aw_if_lt e_Pa_isOf_14 (fun _ => ?_) (fun h => absurd h (by decide))
    refine aw_iconst (v := nI 0) e_Pa_isOf_36 (by decide) ?_
    exact awB_0 e_Pa_isOf_37 (by rw [hf]; decide) hQ
  refine AMet.of mf_Pa_isOf rfl (Nat.le_of_ble_eq_true rfl) ?_
  refine aw_aload_n e_Pa_isOf_0 rfl ?_
  refine aw_getE e_Pa_isOf_1 fl_Pa_9 hk ?_
  refine aw_ist2 e_Pa_isOf_4 ?_
  refine aw_iconst (v := nI 0) e_Pa_isOf_5 (by decide) ?_
  refine aw_ist3 e_Pa_isOf_6 ?_
  refine str_loop (P := fun n => ∀ a i, a < 6 → dpt a = n → i + n ≤ 4 → isOfN a w = isOfN kd w → AWq l E d M_Pa_isOf Z 7 [some (vr 3 q), some (vi (nI w)), some (vi (nI a)), some (vi (nI i))] [] I L R Z Q) (fun n ih a i ha6 hn hin hv => ?_) (dpt kd) kd 0 hk6 rfl (by have := (dpt_b kd hk6).2; omega) rfl
  have hp := dpt_b a ha6
  refine aw_iload_n e_Pa_isOf_7 rfl ?_
  refine aw_bipush (v := nI 6) e_Pa_isOf_8 (by decide) ?_
  refine awN_icmp_ge e_Pa_isOf_10 (by omega) (by omega) (fun h10 => ?_) (fun h10 => ?_)
  · exact absurd h10 (by omega)
  · refine aw_iload_n e_Pa_isOf_13 rfl ?_
    refine awN_if_lt e_Pa_isOf_14 (by omega) ?_
    refine aw_iload_n e_Pa_isOf_17 rfl ?_
    refine aw_iload_n e_Pa_isOf_18 rfl ?_
    refine awN_icmp_ne e_Pa_isOf_19 (by omega) (by omega) (fun h19 => ?_) (fun h19 => ?_)
    · refine aw_gsAbv e_Pa_isOf_24 fn_Pa_39 ?_
      refine aw_iload_n e_Pa_isOf_27 rfl ?_
      refine aw_abv e_Pa_isOf_28 rfl ha6 ?_
      refine aw_ist2 e_Pa_isOf_29 ?_
      refine aw_inc3 e_Pa_isOf_30 (inc1 _) ?_
      refine aw_goto e_Pa_isOf_33 ?_
      have hb : i + 1 < 6 := by omega
      rcases (by omega : a = 0 ∨ a = 1 ∨ a = 2 ∨ a = 3 ∨ a = 4 ∨ a = 5) with rfl | rfl | rfl | rfl | rfl | rfl
      · exact fin ((hv.symm).trans (up0 w hw h19)) _ hb
      · exact ih 1 (by have : dpt 1 = 2 := rfl; omega) 0 _ (by decide) rfl (by have : dpt 1 = 2 := rfl; omega) ((up1 w hw h19).trans hv)
      · exact ih 1 (by have : dpt 2 = 2 := rfl; omega) 0 _ (by decide) rfl (by have : dpt 2 = 2 := rfl; omega) ((up2 w hw h19).trans hv)
      · exact ih 2 (by have : dpt 3 = 3 := rfl; omega) 2 _ (by decide) rfl (by have : dpt 3 = 3 := rfl; omega) ((up3 w hw h19).trans hv)
      · exact ih 1 (by have : dpt 4 = 2 := rfl; omega) 0 _ (by decide) rfl (by have : dpt 4 = 2 := rfl; omega) ((up4 w hw h19).trans hv)
      · exact ih 2 (by have : dpt 5 = 3 := rfl; omega) 4 _ (by decide) rfl (by have : dpt 5 = 3 := rfl; omega) ((up5 w hw h19).trans hv)
    · refine aw_iconst (v := nI 1) e_Pa_isOf_22 (by decide) ?_
      exact awB_1 e_Pa_isOf_23 (by rw [← hv]; unfold isOfN; simp [h19]) hQ
