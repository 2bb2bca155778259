/-! ===== Answer: all laws ===== -/
theorem cnt_from {P : Nat → Bool} {a : Nat} : ∀ k, (∀ j, a ≤ j → j < a + k → P j = false) → cnt P (a + k) = cnt P a
  | 0, _ => rfl
  | k + 1, h => by
    show cnt P (a + k + 1) = _
    rw [cnt_f (h (a + k) (by omega) (by omega))]
    exact cnt_from k (fun j h1 h2 => h j h1 (by omega))
theorem fst_lt {P : Nat → Bool} {n a : Nat} (ha : a ≤ n) (h : cnt P a < cnt P n) : fst' P n a < n := by
  have hs := fst_spec P n a ha
  apply Classical.byContradiction
  intro hc
  have e : cnt P (a + (n - a)) = cnt P a := cnt_from (n - a) (fun j h1 h2 => hs.2.2.2 j h1 (by omega))
  rw [show a + (n - a) = n by omega] at e
  omega
theorem fb_0 {V : Mc} {p : Nat} (h : 0 < ends V p) : fb V p 0 < nB V ∧ atB V p (fb V p 0) = true ∧ (∀ j, j < fb V p 0 → atB V p j = false) ∧ bnd V p 0 = nI (fb V p 0) := by
  have h1 : fb V p 0 < nB V := fst_lt (Nat.zero_le _) h
  have hs := fst_spec (atB V p) (nB V) 0 (Nat.zero_le _)
  exact ⟨h1, hs.2.2.1 h1, fun j hj => hs.2.2.2 j (Nat.zero_le _) hj, if_pos h1⟩
theorem fb_1 {V : Mc} {p : Nat} (h : 2 ≤ ends V p) : fb V p 0 < fb V p (fb V p 0 + 1) ∧ fb V p (fb V p 0 + 1) < nB V ∧ bnd V p (fb V p 0 + 1) = nI (fb V p (fb V p 0 + 1)) := by
  have h0 := fb_0 (V := V) (p := p) (by omega)
  have h1 : fb V p (fb V p 0 + 1) < nB V := fst_lt (by omega) (by rw [cnt_t h0.2.1, cnt_z _ h0.2.2.1]; exact h)
  have hs := fst_spec (atB V p) (nB V) (fb V p 0 + 1) (by omega)
  exact ⟨hs.2.1, h1, if_pos h1⟩
theorem whole_w {V : Mc} (h : whole V = true) {p : Nat} (hp : p < nP V) : wantB (pP V p 0) (ends V p) = true := by
  unfold whole at h
  rw [Bool.and_eq_true] at h
  exact (allB_iff _ _).1 h.1 p hp
theorem want_5 {kd n : Nat} (h : wantB kd n = true) (h5 : kd = 5) : 2 ≤ n ∧ n ≤ 12 := by
  unfold wantB at h
  rw [if_pos h5, Bool.and_eq_true] at h
  exact ⟨of_decide_eq_true h.1, of_decide_eq_true h.2⟩
theorem want_4 {kd n : Nat} (h : wantB kd n = true) (h4 : kd = 4) : n = 2 := by
  unfold wantB at h
  rw [if_neg (by omega), if_pos h4] at h
  exact eq_of_beq h
theorem want_1 {kd n : Nat} (h : wantB kd n = true) (h4 : ¬ kd = 4) (h5 : ¬ kd = 5) : n = 1 := by
  unfold wantB at h
  rw [if_neg h5, if_neg h4] at h
  exact eq_of_beq h
theorem want_p {kd n : Nat} (h : wantB kd n = true) : 0 < n := by
  by_cases h5 : kd = 5
  · have := want_5 h h5
    omega
  · by_cases h4 : kd = 4
    · have := want_4 h h4
      omega
    · have := want_1 h h4 h5
      omega
def xb (w : Nat) (x : Nat → Nat) : Prop := ∀ c, c < w → x c < 1000003
/-- the rows below n hold as the laws of the parts below p -/
def LWI (V : Mc) (w p n : Nat) (A : Nat → Nat → Nat) : Prop := n = sumE V (nB V) p ∧ ∀ x, xb w x → ((∀ r, r < n → eqn w (A r) x) ↔ ∀ q, q < p → lawEq V q x)
theorem LWI_next {V : Mc} {w p n m : Nat} {A A2 : Nat → Nat → Nat} (h : LWI V w p n A) (hm : m = n + ends V p) (h2 : ∀ x, xb w x → ((∀ r, r < m → eqn w (A2 r) x) ↔ (∀ r, r < n → eqn w (A r) x) ∧ lawEq V p x)) : LWI V w (p + 1) m A2 := by
  refine ⟨by rw [hm, h.1]; rfl, fun x hx => (h2 x hx).trans ?_⟩
  rw [h.2 x hx]
  constructor
  · intro hh q hq
    by_cases e : q = p
    · rw [e]; exact hh.2
    · exact hh.1 q (by omega)
  · intro hh
    exact ⟨fun q hq => hh q (by omega), hh p (by omega)⟩
theorem one_row {w n : Nat} {A : Nat → Nat → Nat} {row x : Nat → Nat} : (∀ r, r < n + 1 → eqn w (addR n A row r) x) ↔ (∀ r, r < n → eqn w (A r) x) ∧ eqn w row x := by
  constructor
  · intro hh
    refine ⟨fun r hr => ?_, ?_⟩
    · have := hh r (by omega)
      rw [addR_n _ _ (by omega)] at this
      exact this
    · have := hh n (by omega)
      rw [addR_s] at this
      exact this
  · intro hh r hr
    by_cases e : r = n
    · rw [e, addR_s]; exact hh.2
    · rw [addR_n _ _ e]; exact hh.1 r (by omega)
theorem LWI_end {V : Mc} {w p n : Nat} {A : Nat → Nat → Nat} (hW : WF V) (hp : p < nP V) (h : LWI V w p n A) (hw : whole V = true) (hwV : w = 2 * nB V) (h4 : ¬ pP V p 0 = 4) (h5 : ¬ pP V p 0 = 5) : LWI V w (p + 1) (n + 1) (addR n A (endRow (pP V p) (fb V p 0) w)) := by
  have hww := whole_w hw hp
  have he := want_1 hww h4 h5
  have hf := fb_0 (want_p hww)
  have hv := hW.2.1 p hp
  refine LWI_next h (by omega) (fun x hx => one_row.trans ?_)
  unfold lawEq
  rw [if_neg h4, if_neg h5]
  unfold endRow
  by_cases e2 : pP V p 0 = 2
  · rw [if_pos e2, if_pos e2, rwT_eqn (by omega) (by omega) (by omega) (Nat.le_of_lt (shW_lt _ _)) hx]
  · rw [if_neg e2, if_neg e2, rwE_eqn (by omega) hx]
theorem LWI_turn {V : Mc} {w p n : Nat} {A : Nat → Nat → Nat} (hW : WF V) (hp : p < nP V) (h : LWI V w p n A) (hw : whole V = true) (hwV : w = 2 * nB V) (h4 : pP V p 0 = 4) : LWI V w (p + 1) (n + 2) (addR (n + 1) (addR n A (turnRow (pP V p) (fb V p 0) (fb V p (fb V p 0 + 1)) 0)) (turnRow (pP V p) (fb V p 0) (fb V p (fb V p 0 + 1)) 1)) := by
  have hww := whole_w hw hp
  have he := want_4 hww h4
  have hf := fb_0 (want_p hww)
  have hg := fb_1 (V := V) (p := p) (by omega)
  have hs := Nat.le_of_lt (shW_lt (pP V p 2) (pP V p 3))
  refine LWI_next h (by omega) (fun x hx => one_row.trans ?_)
  rw [one_row, and_assoc]
  unfold lawEq
  rw [if_pos h4]
  unfold turnRow
  by_cases e2 : pP V p 1 = 0
  · rw [if_pos e2, if_pos e2, if_pos e2, if_pos rfl, if_neg (by decide), rwT_eqn (by omega) (by omega) (by omega) hs hx, rwT_eqn (by omega) (by omega) (by omega) hs hx]
    rfl
  · rw [if_neg e2, if_neg e2, if_neg e2, if_pos rfl, if_neg (by decide), rwT_eqn (by omega) (by omega) (by omega) hs hx, rwT_eqn (by omega) (by omega) (by omega) hs hx]
    rfl
theorem LWI_join {V : Mc} {w p n : Nat} {A A2 : Nat → Nat → Nat} (h : LWI V w p n A) (hwV : w = 2 * nB V) (h5 : pP V p 0 = 5) (h2 : ∀ x, xb w x → ((∀ r, r < n + ends V p → eqn w (A2 r) x) ↔ (∀ r, r < n → eqn w (A r) x) ∧ eqn w (smR V p (pP V p 1) (nB V)) x ∧ ∀ b, b < nB V → atB V p b = true → x (2 * fb V p 0 + pP V p 1) = x (2 * b + pP V p 1))) : LWI V w (p + 1) (n + ends V p) A2 := by
  refine LWI_next h rfl (fun x hx => (h2 x hx).trans ?_)
  unfold lawEq
  rw [if_neg (by omega), if_pos h5, ← hwV]
theorem c_An_writeLaws {l : Launch} {E : En} {d : Nat} {I : It} {L : Lt} {R : Rt} {Z : Zt} {Q : Qt} {a : Nat} {ρ : Nat → Nat} (hS : Sta R) (hG : RG R a ρ) {k : Nat} {V : Mc} (hk : k < 3) (hC : CM I R Z k V) (hW : WF V) (hw : whole V = true) (hQ : ∀ I2 L2 A2, AM I2 L2 R a (2 * nB V) ρ (2 * nB V) A2 → LWI V (2 * nB V) (nP V) (2 * nB V) A2 → frI a I I2 → frL a L L2 → Q none I2 L2 R Z) : AMet l E (d + 4) M_An_writeLaws [vr 0 a, vr 2 k] I L R Z Q := by
  have hWn := hW.1
  have hC1 := hC
  refine AMet.of mf_An_writeLaws rfl (Nat.le_of_ble_eq_true rfl) ?_
  refine aw_aload_n e_An_writeLaws_0 rfl ?_
  refine aw_iconst (v := nI 2) e_An_writeLaws_1 (by decide) ?_
  refine aw_aload_n e_An_writeLaws_2 rfl ?_
  refine aw_getE e_An_writeLaws_3 fl_An_46 hC1.1.2.1 ?_
  first | refine awN_imul e_An_writeLaws_6 ?_ | refine aw_imul e_An_writeLaws_6 ?_
  refine aw_putI e_An_writeLaws_7 fl_An_42 ?_
  refine aw_aload_n e_An_writeLaws_10 rfl ?_
  refine aw_iconst (v := nI 0) e_An_writeLaws_11 (by decide) ?_
  refine aw_putI e_An_writeLaws_12 fl_An_38 ?_
  refine aw_iconst (v := nI 0) e_An_writeLaws_15 (by decide) ?_
  refine aw_ist2 e_An_writeLaws_16 ?_
  refine up_loop (P := fun i => ∀ I1 L1 m A1, AM I1 L1 R a (2 * nB V) ρ m A1 → LWI V (2 * nB V) i m A1 → frI a I I1 → frL a L L1 → AWq l E (d + 4) M_An_writeLaws Z 17 [some (vr 0 a), some (vr 2 k), some (vi (nI i)), none, none] [] I1 L1 R Z Q) (N := nP V) (fun i hi ih I1 L1 m A1 hA1 hL hf1 hg1 => ?_) 0 (Nat.zero_le _) _ _ 0 (fun _ _ => 0) ?_ ?_ ?_ ?_
  rotate_left
  · refine ⟨hG, ⟨?_, ?_, by omega, by decide⟩, fun r c hr => absurd hr (Nat.not_lt_zero r)⟩
    · rw [sI_s, upd, if_pos rfl]
    · rw [sI_s, upd, if_neg (by decide), sI_s, upd, if_pos rfl]
  · exact ⟨rfl, fun x _ => ⟨fun _ q hq => absurd hq (Nat.not_lt_zero q), fun _ r hr => absurd hr (Nat.not_lt_zero r)⟩⟩
  · exact frI_t frI_s frI_s
  · exact fun _ _ _ => rfl
  have hC1 := CM_fr hC hW hf1
  refine aw_iload_n e_An_writeLaws_17 rfl ?_
  refine aw_aload_n e_An_writeLaws_18 rfl ?_
  refine aw_getE e_An_writeLaws_19 fl_An_53 hC1.1.1 ?_
  refine awN_icmp_ge e_An_writeLaws_22 (by omega) (by omega) (fun h22 => ?_) (fun h22 => ?_)
  · have hiN : i = nP V := by omega
    subst hiN
    have e1 := hL.1
    rw [sumE_all hW _ (Nat.le_refl _)] at e1
    subst e1
    exact aw_vret e_An_writeLaws_97 rfl (hQ _ _ _ hA1 hL hf1 hg1)
  · have hv := hW.2.1 i h22
    have hww := whole_w hw h22
    have hf0 := fb_0 (want_p hww)
    have hle := sumE_le hW h22
    have hPT : PT I1 (12 * k + i) (pP V i) := ⟨fun f hf => hC1.2.1 i f h22 hf, hv⟩
    have hsn := hL.1
    refine aw_aload_n e_An_writeLaws_25 rfl ?_
    refine aw_getR e_An_writeLaws_26 fl_An_56 (hS.1 _ _ _ _ rfl) ?_
    refine aw_iload_n e_An_writeLaws_29 rfl ?_
    refine aw_aald e_An_writeLaws_30 rfl (show _ < 12 by omega) (by omega) (hS.2.1 _ _ (by omega) (by omega)) ?_
    refine aw_ast3 e_An_writeLaws_31 ?_
    refine aw_aload_n e_An_writeLaws_32 rfl ?_
    refine aw_iload_n e_An_writeLaws_33 rfl ?_
    refine aw_iconst (v := -1) e_An_writeLaws_34 (by decide) ?_
    refine aw_cV2 e_An_writeLaws_35 ml_An_60 mf_Ma_nextBondOf mv_Ma_nextBondOf (c_Ma_nextBondOf hS hk hC1 hW (p := i) (by omega) (s := 0) rfl (Nat.zero_le _) ?_)
    rw [hf0.2.2.2]
    refine aw_ist4 e_An_writeLaws_38 ?_
    refine aw_aload_n e_An_writeLaws_40 rfl ?_
    refine aw_getE e_An_writeLaws_41 fl_An_63 (hC1.2.1 _ _ (by omega) (by decide)) ?_
    refine aw_iconst (v := nI 4) e_An_writeLaws_44 (by decide) ?_
    refine awN_icmp_ne e_An_writeLaws_45 (by omega) (by omega) (fun h45 => ?_) (fun h45 => ?_)
    · refine aw_aload_n e_An_writeLaws_65 rfl ?_
      refine aw_getE e_An_writeLaws_66 fl_An_63 (hC1.2.1 _ _ (by omega) (by decide)) ?_
      refine aw_iconst (v := nI 5) e_An_writeLaws_69 (by decide) ?_
      refine awN_icmp_ne e_An_writeLaws_70 (by omega) (by omega) (fun h70 => ?_) (fun h70 => ?_)
      · have he1 := want_1 hww h45 h70
        refine aw_aload_n e_An_writeLaws_84 rfl ?_
        refine aw_aload_n e_An_writeLaws_85 rfl ?_
        refine aw_iload e_An_writeLaws_86 rfl ?_
        refine aw_cV2 e_An_writeLaws_88 ml_An_76 mf_An_writeEnd mv_An_writeEnd (c_An_writeEnd hS hA1 hPT (by omega) (by omega) (fun I2 L2 hA2 hf2 hg2 => ?_))
        refine aw_inc2 e_An_writeLaws_91 (inc1 _) ?_
        refine aw_goto e_An_writeLaws_94 ?_
        refine aw_drop 3 ?_
        refine aw_drop 4 ?_
        first
          | exact ih h22 _ _ _ _ hA2 (LWI_turn hW h22 hL hw rfl h45) (frI_t hf1 hf2) (frL_t hg1 hg2)
          | exact ih h22 _ _ _ _ hA2 (LWI_join hL rfl h70 hJ2) (frI_t hf1 hf2) (frL_t hg1 hg2)
          | exact ih h22 _ _ _ _ hA2 (LWI_end hW h22 hL hw rfl h45 h70) (frI_t hf1 hf2) (frL_t hg1 hg2)
      · refine aw_aload_n e_An_writeLaws_73 rfl ?_
        refine aw_aload_n e_An_writeLaws_74 rfl ?_
        refine aw_iload_n e_An_writeLaws_75 rfl ?_
        refine aw_iload e_An_writeLaws_76 rfl ?_
        refine aw_cV3 e_An_writeLaws_78 ml_An_72 mf_An_writeJoin mv_An_writeJoin (c_An_writeJoin hS hA1 hk hC1 hW h22 rfl hf0.1 hf0.2.1 hf0.2.2.1 (by omega) (fun I2 L2 A2 hA2 hJ2 hf2 hg2 => ?_))
        refine aw_goto e_An_writeLaws_81 ?_
        refine aw_inc2 e_An_writeLaws_91 (inc1 _) ?_
        refine aw_goto e_An_writeLaws_94 ?_
        refine aw_drop 3 ?_
        refine aw_drop 4 ?_
        first
          | exact ih h22 _ _ _ _ hA2 (LWI_turn hW h22 hL hw rfl h45) (frI_t hf1 hf2) (frL_t hg1 hg2)
          | exact ih h22 _ _ _ _ hA2 (LWI_join hL rfl h70 hJ2) (frI_t hf1 hf2) (frL_t hg1 hg2)
          | exact ih h22 _ _ _ _ hA2 (LWI_end hW h22 hL hw rfl h45 h70) (frI_t hf1 hf2) (frL_t hg1 hg2)
    · have he4 := want_4 hww h45
      have hf9 := fb_1 (V := V) (p := i) (by omega)
      refine aw_aload_n e_An_writeLaws_48 rfl ?_
      refine aw_aload_n e_An_writeLaws_49 rfl ?_
      refine aw_iload e_An_writeLaws_50 rfl ?_
      refine aw_aload_n e_An_writeLaws_52 rfl ?_
      refine aw_iload_n e_An_writeLaws_53 rfl ?_
      refine aw_iload e_An_writeLaws_54 rfl ?_
      refine aw_cV2 e_An_writeLaws_56 ml_An_60 mf_Ma_nextBondOf mv_Ma_nextBondOf (c_Ma_nextBondOf hS hk hC1 hW (p := i) (by omega) (s := fb V i 0 + 1) (nI_add _ _) (by omega) ?_)
      rw [hf9.2.2]
      refine aw_cV3 e_An_writeLaws_59 ml_An_68 mf_An_writeTurn mv_An_writeTurn (c_An_writeTurn hS hA1 (hPT) (by omega) (by omega) (by omega) (fun I2 L2 hA2 hf2 hg2 => ?_))
      refine aw_goto e_An_writeLaws_62 ?_
      refine aw_inc2 e_An_writeLaws_91 (inc1 _) ?_
      refine aw_goto e_An_writeLaws_94 ?_
      refine aw_drop 3 ?_
      refine aw_drop 4 ?_
      first
        | exact ih h22 _ _ _ _ hA2 (LWI_turn hW h22 hL hw rfl h45) (frI_t hf1 hf2) (frL_t hg1 hg2)
        | exact ih h22 _ _ _ _ hA2 (LWI_join hL rfl h70 hJ2) (frI_t hf1 hf2) (frL_t hg1 hg2)
        | exact ih h22 _ _ _ _ hA2 (LWI_end hW h22 hL hw rfl h45 h70) (frI_t hf1 hf2) (frL_t hg1 hg2)
