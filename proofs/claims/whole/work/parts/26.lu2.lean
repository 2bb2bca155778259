/-! ===== LineUps: the survey ===== -/
theorem bsT_s (V : Mc) (p n : Nat) : bsT V p (n + 1) = if bT V n = p then bsT V p n ||| 2 ^ n else bsT V p n := rfl
theorem bsF_s (V : Mc) (p n : Nat) : bsF V p (n + 1) = if bF V n = p then bsF V p n ||| 2 ^ n else bsF V p n := rfl
def canB (V : Mc) (m : Nat) : Bool := allB (fun p => alw V p m) (nP V)
def smg (V : Mc) (m : Nat) : Nat := cnt (fun p => pP V p 0 == 1 && decide (setl V p m = 1 - pP V p 1)) (nP V)
def wgh (V : Mc) (m : Nat) (x : Nat × Nat × Nat) : Nat × Nat × Nat := (x.1 + 1, if x.2.2 ≤ smg V m then m else x.2.1, if x.2.2 ≤ smg V m then smg V m + 1 else x.2.2)
def svS (V : Mc) : Nat → Nat × Nat × Nat
  | 0 => (0, 0, 0)
  | m + 1 => if canB V m then wgh V m (svS V m) else svS V m
theorem svS_b (V : Mc) : ∀ m, (svS V m).1 ≤ m ∧ (svS V m).2.1 ≤ m ∧ (svS V m).2.2 ≤ nP V + 1
  | 0 => ⟨Nat.le_refl _, Nat.le_refl _, Nat.zero_le _⟩
  | m + 1 => by
    obtain ⟨h1, h2, h3⟩ := svS_b V m
    have hs : smg V m ≤ nP V := cnt_le _ _
    unfold svS
    split
    · unfold wgh
      refine ⟨by show (svS V m).1 + 1 ≤ m + 1; omega, ?_, ?_⟩
      · show (if (svS V m).2.2 ≤ smg V m then m else (svS V m).2.1) ≤ m + 1
        split <;> omega
      · show (if (svS V m).2.2 ≤ smg V m then smg V m + 1 else (svS V m).2.2) ≤ nP V + 1
        split <;> omega
    · exact ⟨by omega, by omega, h3⟩
theorem svS_skip {V : Mc} {m : Nat} : ∀ n, (∀ x, m ≤ x → x < m + n → canB V x = false) → svS V (m + n) = svS V m
  | 0, _ => rfl
  | n + 1, h => by
    show (if canB V (m + n) then wgh V (m + n) (svS V (m + n)) else svS V (m + n)) = svS V m
    rw [if_neg (by rw [h (m + n) (by omega) (by omega)]; decide)]
    exact svS_skip n (fun x h1 h2 => h x h1 (by omega))
theorem fag_can {V : Mc} {m : Nat} : ¬ fag V m < nP V ↔ canB V m = true := by
  have hs := fst_spec (fun p => !(alw V p m)) (nP V) 0 (Nat.zero_le _)
  unfold canB fag
  rw [allB_iff]
  constructor
  · intro h i hi
    have := hs.2.2.2 i (Nat.zero_le _) (by omega)
    simpa using this
  · intro h q
    have := hs.2.2.1 q
    rw [h _ q] at this
    cases this
theorem or_low (m k : Nat) : m ||| (2 ^ k - 1) = 2 ^ k * (m / 2 ^ k) + (2 ^ k - 1) := by
  have hp : 0 < 2 ^ k := Nat.two_pow_pos k
  rw [Nat.two_pow_add_eq_or_of_lt (by omega)]
  apply Nat.eq_of_testBit_eq
  intro j
  rw [Nat.testBit_or, Nat.testBit_or, Nat.testBit_two_pow_sub_one]
  by_cases h : j < k
  · simp [h]
  · have e : (2 ^ k * (m / 2 ^ k)).testBit j = m.testBit j := by
      rw [Nat.testBit_two_pow_mul, Nat.testBit_div_two_pow]
      have : k + (j - k) = j := by omega
      rw [show j - k + k = j by omega]
      simp; omega
    rw [e]
theorem hi_bits {m x k j : Nat} (h1 : m ≤ x) (h2 : x < (m ||| (2 ^ k - 1)) + 1) (hj : k ≤ j) : x.testBit j = m.testBit j := by
  rw [or_low] at h2
  have hp : 0 < 2 ^ k := Nat.two_pow_pos k
  have e : x / 2 ^ k = m / 2 ^ k := by
    apply Nat.le_antisymm
    · apply Nat.le_of_lt_succ
      rw [Nat.div_lt_iff_lt_mul hp, Nat.succ_mul, Nat.mul_comm (m / 2 ^ k)]
      omega
    · exact Nat.div_le_div_right h1
  have e2 : ∀ y : Nat, y.testBit j = (y / 2 ^ k).testBit (j - k) := fun y => by
    rw [Nat.testBit_div_two_pow, show j - k + k = j by omega]
  rw [e2 x, e2 m, e]
theorem skip_ok {V : Mc} (hW : WF V) {p m : Nat} (hp : p < nP V) (hf : alw V p m = false) (ho : bsT V p (nB V) ||| bsF V p (nB V) ≠ 0) : ∀ x, m ≤ x → x < (m ||| (lowB (bsT V p (nB V) ||| bsF V p (nB V)) - 1)) + 1 → canB V x = false := by
  intro x h1 h2
  have h12 := hW.1.2.1
  have hlt := or_lt (bsT_lt V p (nB V) h12) (bsF_lt V p (nB V) h12)
  obtain ⟨l1, l2, l3⟩ := low_sp _ hlt ho
  unfold lowB at h2
  rw [if_neg ho] at h2
  have hs : setl V p x = setl V p m := by
    unfold setl
    refine cnt_congr _ (fun b hb => ?_)
    by_cases hb2 : bT V b = p ∨ bF V b = p
    · have ob : (bsT V p (nB V) ||| bsF V p (nB V)).testBit b = true := by
        rw [Nat.testBit_or, bsT_bit, bsF_bit]
        simp [hb]
        exact hb2
      have hge : lowI (bsT V p (nB V) ||| bsF V p (nB V)) 12 ≤ b := by
        apply Nat.le_of_not_lt
        intro q
        rw [l3 b q] at ob
        cases ob
      rw [hi_bits h1 h2 hge]
    · have e1 : ¬ bT V b = p := fun q => hb2 (Or.inl q)
      have e2 : ¬ bF V b = p := fun q => hb2 (Or.inr q)
      have f1 : (bT V b == p) = false := by simpa using e1
      have f2 : (bF V b == p) = false := by simpa using e2
      cases x.testBit b <;> cases m.testBit b <;> simp [f1, f2]
  have ha : alw V p x = false := by
    rw [← hf]
    unfold alw
    rw [hs]
  cases hc : canB V x with
  | false => rfl
  | true =>
    unfold canB at hc
    rw [(allB_iff _ _).mp hc p hp] at ha
    cases ha
def LUs (I : It) (x : Nat × Nat × Nat) : Prop := I 1 0 2 = nI x.1 ∧ I 1 0 3 = nI x.2.1 ∧ I 1 0 4 = pm x.2.2
theorem LUc.keep {I I2 : It} {V : Mc} (h : LUc I V) (h1 : I2 18 = I 18) (h2 : I2 19 = I 19) : LUc I2 V := fun p hp => by rw [h1, h2]; exact h p hp
theorem ends_own {V : Mc} (hW : WF V) {p : Nat} (h : 1 ≤ ends V p) : bsT V p (nB V) ||| bsF V p (nB V) ≠ 0 := fun q => by
  have := end_bits hW p
  rw [q] at this
  have e : cnt (fun j => (0 : Nat).testBit j) 12 = 0 := by decide
  omega
theorem c_Lu_lookAt {l : Launch} {E : En} {d : Nat} {I : It} {L : Lt} {R : Rt} {Z : Zt} {Q : Qt} {k : Nat} {V : Mc} (hS : Sta R) (hk : k < 3) (hC : CM I R Z k V) (hW : WF V) (hQ : ∀ I2, LUc I2 V → (∀ t i2, t ≠ 18 → t ≠ 19 → I2 t i2 = I t i2) → Q none I2 L R Z) : AMet l E d M_Lu_lookAt [vr 1 0, vr 2 k] I L R Z Q := by
  have hnb := hW.1.2.1
  have hnp := hW.1.1
  have hnx := hW.1.2.2.1
  have hns := hW.1.2.2.2
  refine AMet.of mf_Lu_lookAt rfl (Nat.le_of_ble_eq_true rfl) ?_
  refine aw_iconst (v := nI 0) e_Lu_lookAt_0 (by decide) ?_
  refine aw_ist2 e_Lu_lookAt_1 ?_
  refine up_loop (P := fun i => ∀ I1, (∀ t i2, t ≠ 18 → t ≠ 19 → I1 t i2 = I t i2) ∧ (∀ p, p < i → I1 18 0 p = nI 0 ∧ I1 19 0 p = nI 0) → AWq l E d M_Lu_lookAt Z 2 [some (vr 1 0), some (vr 2 k), some (vi (nI i))] [] I1 L R Z Q) (N := nP V) (fun i hi ih I1 hv => ?_) 0 (Nat.zero_le _) I ⟨fun _ _ _ _ => rfl, fun p hp => absurd hp (Nat.not_lt_zero p)⟩
  have hC1 : CM I1 R Z k V := hC.keep hW (fun t i2 hti => hv.1 t i2 (by unfold own at hti; omega) (by unfold own at hti; omega)) (fun _ _ _ => rfl)
  refine aw_iload_n e_Lu_lookAt_2 rfl ?_
  refine aw_aload_n e_Lu_lookAt_3 rfl ?_
  refine aw_getE e_Lu_lookAt_4 fl_Lu_18 hC1.1.1 ?_
  refine awN_icmp_ge e_Lu_lookAt_7 (by omega) (by omega) (fun h7 => ?_) (fun h7 => ?_)
  · refine aw_iconst (v := nI 0) e_Lu_lookAt_30 (by decide) ?_
    refine aw_ist2 e_Lu_lookAt_31 ?_
    have hiN : i = nP V := by omega
    clear ih
    subst hiN
    clear hC1
    refine up_loop (P := fun i => ∀ I1, (∀ t i2, t ≠ 18 → t ≠ 19 → I1 t i2 = I t i2) ∧ (∀ p, p < nP V → I1 18 0 p = nI (bsT V p i) ∧ I1 19 0 p = nI (bsF V p i)) → AWq l E d M_Lu_lookAt Z 32 [some (vr 1 0), some (vr 2 k), some (vi (nI i))] [] I1 L R Z Q) (N := nB V) (fun i hi ih I1 hv => ?_) 0 (Nat.zero_le _) I1 hv
    have hC1 : CM I1 R Z k V := hC.keep hW (fun t i2 hti => hv.1 t i2 (by unfold own at hti; omega) (by unfold own at hti; omega)) (fun _ _ _ => rfl)
    refine aw_iload_n e_Lu_lookAt_32 rfl ?_
    refine aw_aload_n e_Lu_lookAt_33 rfl ?_
    refine aw_getE e_Lu_lookAt_34 fl_Lu_24 hC1.1.2.1 ?_
    refine awN_icmp_ge e_Lu_lookAt_37 (by omega) (by omega) (fun h37 => ?_) (fun h37 => ?_)
    · have hiN : i = nB V := by omega
      subst hiN
      exact aw_vret e_Lu_lookAt_80 rfl (hQ I1 hv.2 hv.1)
    · have hbd := hW.2.2.1 i h37
      refine aw_aload_n e_Lu_lookAt_40 rfl ?_
      refine aw_getR e_Lu_lookAt_41 fl_Lu_9 (hS.1 _ _ _ _ rfl) ?_
      refine aw_aload_n e_Lu_lookAt_44 rfl ?_
      refine aw_getR e_Lu_lookAt_45 fl_Lu_27 (hS.1 _ _ _ _ rfl) ?_
      refine aw_iload_n e_Lu_lookAt_48 rfl ?_
      refine aw_ialE e_Lu_lookAt_49 rfl (show _ < 12 by omega) (by omega) (hC1.2.2.2.1 _ (by omega)) ?_
      refine aw_dup2 e_Lu_lookAt_50 rfl rfl ?_
      refine aw_ialE e_Lu_lookAt_51 rfl (show _ < 12 by omega) (by omega) ((hv.2 _ hbd.2.1).1) ?_
      refine aw_iconst (v := nI 1) e_Lu_lookAt_52 (by decide) ?_
      refine aw_iload_n e_Lu_lookAt_53 rfl ?_
      refine aw_ishl e_Lu_lookAt_54 ?_
      rw [shlS (by omega) (by have := pow12 (f := i) (by omega); omega), Nat.one_mul]
      refine aw_ior e_Lu_lookAt_55 ?_
      rw [fa_or]
      refine aw_iast e_Lu_lookAt_56 rfl (show _ < 12 by omega) (by omega) ?_
      refine aw_aload_n e_Lu_lookAt_57 rfl ?_
      refine aw_getR e_Lu_lookAt_58 fl_Lu_15 (hS.1 _ _ _ _ rfl) ?_
      refine aw_aload_n e_Lu_lookAt_61 rfl ?_
      refine aw_getR e_Lu_lookAt_62 fl_Lu_30 (hS.1 _ _ _ _ rfl) ?_
      refine aw_iload_n e_Lu_lookAt_65 rfl ?_
      refine aw_ialE e_Lu_lookAt_66 rfl (show _ < 12 by omega) (by omega) (y := nI (bF V i)) (by rw [sI_n (by omega)]; exact hC1.2.2.1 i h37) ?_
      refine aw_dup2 e_Lu_lookAt_67 rfl rfl ?_
      refine aw_ialE e_Lu_lookAt_68 rfl (show _ < 12 by omega) (by omega) (y := nI (bsF V (bF V i) i)) (by rw [sI_n (by omega)]; exact (hv.2 _ hbd.1).2) ?_
      refine aw_iconst (v := nI 1) e_Lu_lookAt_69 (by decide) ?_
      refine aw_iload_n e_Lu_lookAt_70 rfl ?_
      refine aw_ishl e_Lu_lookAt_71 ?_
      rw [shlS (by omega) (by have := pow12 (f := i) (by omega); omega), Nat.one_mul]
      refine aw_ior e_Lu_lookAt_72 ?_
      rw [fa_or]
      refine aw_iast e_Lu_lookAt_73 rfl (show _ < 12 by omega) (by omega) ?_
      refine aw_inc2 e_Lu_lookAt_74 (inc1 _) ?_
      refine aw_goto e_Lu_lookAt_77 ?_
      refine ih h37 _ ⟨fun t j h1 h2 => ?_, fun p hp => ⟨?_, ?_⟩⟩
      · rw [sI_n (by omega), sI_n (by omega)]
        exact hv.1 t j h1 h2
      · rw [sI_n (by omega), sI_s]
        unfold upd
        rw [bsT_s]
        by_cases e : p = bT V i
        · rw [if_pos e, if_pos e.symm, e]
        · rw [if_neg e, if_neg (Ne.symm e)]
          exact (hv.2 p hp).1
      · rw [sI_s]
        unfold upd
        rw [bsF_s]
        by_cases e : p = bF V i
        · rw [if_pos e, if_pos e.symm, e]
        · rw [if_neg e, if_neg (Ne.symm e), sI_n (by omega)]
          exact (hv.2 p hp).2
  · refine aw_aload_n e_Lu_lookAt_10 rfl ?_
    refine aw_getR e_Lu_lookAt_11 fl_Lu_9 (hS.1 _ _ _ _ rfl) ?_
    refine aw_iload_n e_Lu_lookAt_14 rfl ?_
    refine aw_iconst (v := nI 0) e_Lu_lookAt_15 (by decide) ?_
    refine aw_iast e_Lu_lookAt_16 rfl (show _ < 12 by omega) (by omega) ?_
    refine aw_aload_n e_Lu_lookAt_17 rfl ?_
    refine aw_getR e_Lu_lookAt_18 fl_Lu_15 (hS.1 _ _ _ _ rfl) ?_
    refine aw_iload_n e_Lu_lookAt_21 rfl ?_
    refine aw_iconst (v := nI 0) e_Lu_lookAt_22 (by decide) ?_
    refine aw_iast e_Lu_lookAt_23 rfl (show _ < 12 by omega) (by omega) ?_
    refine aw_inc2 e_Lu_lookAt_24 (inc1 _) ?_
    refine aw_goto e_Lu_lookAt_27 ?_
    refine ih h7 _ ⟨fun t j h1 h2 => ?_, fun p hp => ⟨?_, ?_⟩⟩
    · rw [sI_n (by omega), sI_n (by omega)]
      exact hv.1 t j h1 h2
    · rw [sI_n (by omega), sI_s]
      unfold upd
      by_cases e : p = i
      · rw [if_pos e]
      · rw [if_neg e]
        exact (hv.2 p (by omega)).1
    · rw [sI_s]
      unfold upd
      by_cases e : p = i
      · rw [if_pos e]
      · rw [if_neg e, sI_n (by omega)]
        exact (hv.2 p (by omega)).2
theorem c_Lu_weigh {l : Launch} {E : En} {d : Nat} {I : It} {L : Lt} {R : Rt} {Z : Zt} {Q : Qt} {k : Nat} {V : Mc} (hS : Sta R) (hk : k < 3) (hC : CM I R Z k V) (hW : WF V) (hL : LUc I V) (hE : ∀ p, p < nP V → 1 ≤ ends V p) {m : Nat} {x : Nat × Nat × Nat} (hm : m < 4096) (hx : LUs I x) (hxb : x.1 ≤ 5000 ∧ x.2.2 ≤ 100) (hQ : ∀ I2, LUs I2 (wgh V m x) → (∀ t i2, ¬ (t = 1 ∧ i2 = 0) → I2 t i2 = I t i2) → Q none I2 L R Z) : AMet l E (d + 3) M_Lu_weigh [vr 1 0, vr 2 k, vi (nI m)] I L R Z Q := by
  have hnb := hW.1.2.1
  have hnp := hW.1.1
  have hnx := hW.1.2.2.1
  have hns := hW.1.2.2.2
  have hsm : smg V m ≤ nP V := cnt_le _ _
  have hC1 : CM (sI I 1 0 2 (nI (x.1 + 1))) R Z k V := hC.keep hW (fun t i2 hti => sI_n (by unfold own at hti; omega)) (fun _ _ _ => rfl)
  have hL1 : LUc (sI I 1 0 2 (nI (x.1 + 1))) V := hL.keep (by funext i2; exact sI_n (by omega)) (by funext i2; exact sI_n (by omega))
  have h4 : sI I 1 0 2 (nI (x.1 + 1)) 1 0 4 = pm x.2.2 := by rw [sI_s, upd, if_neg (by decide)]; exact hx.2.2
  have h3 : sI I 1 0 2 (nI (x.1 + 1)) 1 0 3 = nI x.2.1 := by rw [sI_s, upd, if_neg (by decide)]; exact hx.2.1
  have h2 : sI I 1 0 2 (nI (x.1 + 1)) 1 0 2 = nI (x.1 + 1) := by rw [sI_s, upd, if_pos rfl]
  refine AMet.of mf_Lu_weigh rfl (Nat.le_of_ble_eq_true rfl) ?_
  refine aw_aload_n e_Lu_weigh_0 rfl ?_
  refine aw_dup e_Lu_weigh_1 rfl ?_
  refine aw_getE e_Lu_weigh_2 fl_Lu_37 hx.1 ?_
  refine aw_iconst (v := nI 1) e_Lu_weigh_5 (by decide) ?_
  first | refine awN_iadd e_Lu_weigh_6 ?_ | refine aw_iadd e_Lu_weigh_6 ?_
  refine aw_putI e_Lu_weigh_7 fl_Lu_37 ?_
  refine aw_iconst (v := nI 0) e_Lu_weigh_10 (by decide) ?_
  refine aw_ist3 e_Lu_weigh_11 ?_
  refine aw_iconst (v := nI 0) e_Lu_weigh_12 (by decide) ?_
  refine aw_ist4 e_Lu_weigh_13 ?_
  refine up_loop (P := fun i => AWq l E (d + 3) M_Lu_weigh Z 15 [some (vr 1 0), some (vr 2 k), some (vi (nI m)), some (vi (nI (cnt (fun p => pP V p 0 == 1 && decide (setl V p m = 1 - pP V p 1)) i))), some (vi (nI i))] [] (sI I 1 0 2 (nI (x.1 + 1))) L R Z Q) (N := nP V) (fun i hi ih => ?_) 0 (Nat.zero_le _)
  try dsimp only
  refine aw_iload e_Lu_weigh_15 rfl ?_
  refine aw_aload_n e_Lu_weigh_17 rfl ?_
  refine aw_getE e_Lu_weigh_18 fl_Lu_18 hC1.1.1 ?_
  refine awN_icmp_ge e_Lu_weigh_21 (by omega) (by omega) (fun h21 => ?_) (fun h21 => ?_)
  · have hiN : i = nP V := by omega
    subst hiN
    have hpt := pm_T (n := x.2.2) (by omega)
    have hst := nT (n := cnt (fun p => pP V p 0 == 1 && decide (setl V p m = 1 - pP V p 1)) (nP V)) (Nat.lt_of_le_of_lt hsm (by omega))
    have hse : smg V m = cnt (fun p => pP V p 0 == 1 && decide (setl V p m = 1 - pP V p 1)) (nP V) := rfl
    refine aw_iload_n e_Lu_weigh_58 rfl ?_
    refine aw_aload_n e_Lu_weigh_59 rfl ?_
    refine aw_getE e_Lu_weigh_60 fl_Lu_43 h4 ?_
    refine awZ_icmp_le e_Lu_weigh_63 (fun h63 => ?_) (fun h63 => ?_)
    · first
        | (refine aw_vret e_Lu_weigh_76 rfl (hQ _ ?_ (fun t i2 hne => sI_n hne))
           unfold wgh
           rw [if_neg (by omega), if_neg (by omega)]
           exact ⟨h2, h3, h4⟩)
        | (refine aw_vret e_Lu_weigh_76 rfl (hQ _ ?_ (fun t i2 hne => by rw [sI_n hne, sI_n hne, sI_n hne]))
           unfold wgh
           rw [if_pos (by omega), if_pos (by omega)]
           refine ⟨?_, ?_, ?_⟩
           · rw [sI_s, upd, if_neg (by decide), sI_s, upd, if_neg (by decide)]; exact h2
           · rw [sI_s, upd, if_neg (by decide), sI_s, upd, if_pos rfl]
           · rw [sI_s, upd, if_pos rfl]; exact (pm_s _).symm)
    · refine aw_aload_n e_Lu_weigh_66 rfl ?_
      refine aw_iload_n e_Lu_weigh_67 rfl ?_
      refine aw_putI e_Lu_weigh_68 fl_Lu_40 ?_
      refine aw_aload_n e_Lu_weigh_71 rfl ?_
      refine aw_iload_n e_Lu_weigh_72 rfl ?_
      refine aw_putI e_Lu_weigh_73 fl_Lu_43 ?_
      first
        | (refine aw_vret e_Lu_weigh_76 rfl (hQ _ ?_ (fun t i2 hne => sI_n hne))
           unfold wgh
           rw [if_neg (by omega), if_neg (by omega)]
           exact ⟨h2, h3, h4⟩)
        | (refine aw_vret e_Lu_weigh_76 rfl (hQ _ ?_ (fun t i2 hne => by rw [sI_n hne, sI_n hne, sI_n hne]))
           unfold wgh
           rw [if_pos (by omega), if_pos (by omega)]
           refine ⟨?_, ?_, ?_⟩
           · rw [sI_s, upd, if_neg (by decide), sI_s, upd, if_neg (by decide)]; exact h2
           · rw [sI_s, upd, if_neg (by decide), sI_s, upd, if_pos rfl]
           · rw [sI_s, upd, if_pos rfl]; exact (pm_s _).symm)
  · have hpw := hW.2.1 i h21
    refine aw_aload_n e_Lu_weigh_24 rfl ?_
    refine aw_getR e_Lu_weigh_25 fl_Lu_58 (hS.1 _ _ _ _ rfl) ?_
    refine aw_iload e_Lu_weigh_28 rfl ?_
    refine aw_aald e_Lu_weigh_30 rfl (show _ < 12 by omega) (by omega) (hS.2.1 _ _ (by omega) (by omega)) ?_
    refine aw_getE e_Lu_weigh_31 fl_Lu_62 (hC1.2.1 _ _ (by omega) (by decide)) ?_
    refine aw_iconst (v := nI 1) e_Lu_weigh_34 (by decide) ?_
    refine awN_icmp_ne e_Lu_weigh_35 (by omega) (by omega) (fun h35 => ?_) (fun h35 => ?_)
    · have hcf : (fun p => pP V p 0 == 1 && decide (setl V p m = 1 - pP V p 1)) i = false := by simp [h35]
      first | rw [← cnt_t hct] | rw [← cnt_f hcf]
      refine aw_inc4 e_Lu_weigh_52 (inc1 _) ?_
      refine aw_goto e_Lu_weigh_55 ?_
      exact ih h21
    · refine aw_aload_n e_Lu_weigh_38 rfl ?_
      refine aw_aload_n e_Lu_weigh_39 rfl ?_
      refine aw_iload e_Lu_weigh_40 rfl ?_
      refine aw_iload_n e_Lu_weigh_42 rfl ?_
      refine aw_cV3 e_Lu_weigh_43 ml_Lu_67 mf_Lu_sums mv_Lu_sums (c_Lu_sums hS hk hC1 hW hL1 hE h21 hm ?_)
      refine awB_eq e_Lu_weigh_46 (fun h46 => ?_) (fun h46 => ?_)
      · have hcf : (fun p => pP V p 0 == 1 && decide (setl V p m = 1 - pP V p 1)) i = false := by simp [h46]
        first | rw [← cnt_t hct] | rw [← cnt_f hcf]
        refine aw_inc4 e_Lu_weigh_52 (inc1 _) ?_
        refine aw_goto e_Lu_weigh_55 ?_
        exact ih h21
      · have hct : (fun p => pP V p 0 == 1 && decide (setl V p m = 1 - pP V p 1)) i = true := by simp [h35, h46]
        refine aw_inc3 e_Lu_weigh_49 (inc1 _) ?_
        first | rw [← cnt_t hct] | rw [← cnt_f hcf]
        refine aw_inc4 e_Lu_weigh_52 (inc1 _) ?_
        refine aw_goto e_Lu_weigh_55 ?_
        exact ih h21
theorem c_Lu_nextWithout {l : Launch} {E : En} {d : Nat} {I : It} {L : Lt} {R : Rt} {Z : Zt} {Q : Qt} {V : Mc} (hS : Sta R) (hW : WF V) (hL : LUc I V) {p m : Nat} (hp : p < nP V) (hm : m < 4096) (ho : bsT V p (nB V) ||| bsF V p (nB V) ≠ 0) (hQ : Q (some (vi (nI ((m ||| (lowB (bsT V p (nB V) ||| bsF V p (nB V)) - 1)) + 1)))) I L R Z) : AMet l E d M_Lu_nextWithout [vr 1 0, vi (nI p), vi (nI m)] I L R Z Q := by
  have hnb := hW.1.2.1
  have hnp := hW.1.1
  have hnx := hW.1.2.2.1
  have hns := hW.1.2.2.2
  have hlt := or_lt (bsT_lt V p (nB V) hnb) (bsF_lt V p (nB V) hnb)
  have hl1 : 1 ≤ lowB (bsT V p (nB V) ||| bsF V p (nB V)) ∧ lowB (bsT V p (nB V) ||| bsF V p (nB V)) < 4096 := by
    unfold lowB
    rw [if_neg ho]
    exact ⟨Nat.two_pow_pos _, pow12 (low_sp _ hlt ho).1⟩
  refine AMet.of mf_Lu_nextWithout rfl (Nat.le_of_ble_eq_true rfl) ?_
  refine aw_aload_n e_Lu_nextWithout_0 rfl ?_
  refine aw_getR e_Lu_nextWithout_1 fl_Lu_9 (hS.1 _ _ _ _ rfl) ?_
  refine aw_iload_n e_Lu_nextWithout_4 rfl ?_
  refine aw_ialE e_Lu_nextWithout_5 rfl (show _ < 12 by omega) (by omega) (hL p hp).1 ?_
  refine aw_aload_n e_Lu_nextWithout_6 rfl ?_
  refine aw_getR e_Lu_nextWithout_7 fl_Lu_15 (hS.1 _ _ _ _ rfl) ?_
  refine aw_iload_n e_Lu_nextWithout_10 rfl ?_
  refine aw_ialE e_Lu_nextWithout_11 rfl (show _ < 12 by omega) (by omega) (hL p hp).2 ?_
  refine aw_ior e_Lu_nextWithout_12 ?_
  rw [fa_or]
  refine aw_ist3 e_Lu_nextWithout_13 ?_
  refine aw_iload_n e_Lu_nextWithout_14 rfl ?_
  refine aw_iload_n e_Lu_nextWithout_15 rfl ?_
  refine aw_ineg e_Lu_nextWithout_16 ?_
  refine aw_iand e_Lu_nextWithout_17 ?_
  rw [low_ok _ hlt]
  refine aw_ist4 e_Lu_nextWithout_18 ?_
  refine aw_iload e_Lu_nextWithout_20 rfl ?_
  refine awN_if_ne e_Lu_nextWithout_22 (by omega) (fun h22 => ?_) (fun h22 => ?_)
  · refine aw_iload_n e_Lu_nextWithout_31 rfl ?_
    refine aw_iload e_Lu_nextWithout_32 rfl ?_
    refine aw_iconst (v := nI 1) e_Lu_nextWithout_34 (by decide) ?_
    first | refine awN_isub e_Lu_nextWithout_35 (by omega) ?_ | refine aw_isub e_Lu_nextWithout_35 ?_
    refine aw_ior e_Lu_nextWithout_36 ?_
    rw [fa_or]
    refine aw_iconst (v := nI 1) e_Lu_nextWithout_37 (by decide) ?_
    first | refine awN_iadd e_Lu_nextWithout_38 ?_ | refine aw_iadd e_Lu_nextWithout_38 ?_
    exact aw_iret e_Lu_nextWithout_39 rfl rfl hQ
  · exact absurd h22 (by omega)
def tdS (V : Mc) (b : Nat) : Nat → Nat
  | 0 => 0
  | n + 1 => if pP V n 0 = 1 ∧ ¬ setl V n b = 1 - pP V n 1 then tdS V b n ||| 2 ^ n else tdS V b n
theorem c_Lu_tiedStores {l : Launch} {E : En} {d : Nat} {I : It} {L : Lt} {R : Rt} {Z : Zt} {Q : Qt} {k : Nat} {V : Mc} (hS : Sta R) (hk : k < 3) (hC : CM I R Z k V) (hW : WF V) (hL : LUc I V) (hE : ∀ p, p < nP V → 1 ≤ ends V p) {b : Nat} (hb : I 1 0 3 = nI b) (hb2 : b < 4096) (hQ : Q (some (vi (nI (tdS V b (nP V))))) I L R Z) : AMet l E (d + 3) M_Lu_tiedStores [vr 1 0, vr 2 k] I L R Z Q := by
  have hnb := hW.1.2.1
  have hnp := hW.1.1
  have hnx := hW.1.2.2.1
  have hns := hW.1.2.2.2
  refine AMet.of mf_Lu_tiedStores rfl (Nat.le_of_ble_eq_true rfl) ?_
  refine aw_iconst (v := nI 0) e_Lu_tiedStores_0 (by decide) ?_
  refine aw_ist2 e_Lu_tiedStores_1 ?_
  refine aw_iconst (v := nI 0) e_Lu_tiedStores_2 (by decide) ?_
  refine aw_ist3 e_Lu_tiedStores_3 ?_
  refine up_loop (P := fun i => AWq l E (d + 3) M_Lu_tiedStores Z 4 [some (vr 1 0), some (vr 2 k), some (vi (nI (tdS V b i))), some (vi (nI i))] [] I L R Z Q) (N := nP V) (fun i hi ih => ?_) 0 (Nat.zero_le _)
  try dsimp only
  refine aw_iload_n e_Lu_tiedStores_4 rfl ?_
  refine aw_aload_n e_Lu_tiedStores_5 rfl ?_
  refine aw_getE e_Lu_tiedStores_6 fl_Lu_18 hC.1.1 ?_
  refine awN_icmp_ge e_Lu_tiedStores_9 (by omega) (by omega) (fun h9 => ?_) (fun h9 => ?_)
  · refine aw_iload_n e_Lu_tiedStores_50 rfl ?_
    exact aw_iret e_Lu_tiedStores_51 rfl rfl (by rw [show i = nP V by omega]; exact hQ)
  · have hpw := hW.2.1 i h9
    refine aw_aload_n e_Lu_tiedStores_12 rfl ?_
    refine aw_getR e_Lu_tiedStores_13 fl_Lu_58 (hS.1 _ _ _ _ rfl) ?_
    refine aw_iload_n e_Lu_tiedStores_16 rfl ?_
    refine aw_aald e_Lu_tiedStores_17 rfl (show _ < 12 by omega) (by omega) (hS.2.1 _ _ (by omega) (by omega)) ?_
    refine aw_getE e_Lu_tiedStores_18 fl_Lu_62 (hC.2.1 _ _ (by omega) (by decide)) ?_
    refine aw_iconst (v := nI 1) e_Lu_tiedStores_21 (by decide) ?_
    refine awN_icmp_ne e_Lu_tiedStores_22 (by omega) (by omega) (fun h22 => ?_) (fun h22 => ?_)
    · have hcf : ¬ (pP V i 0 = 1 ∧ ¬ setl V i b = 1 - pP V i 1) := fun z => h22 z.1
      refine aw_inc3 e_Lu_tiedStores_44 (inc1 _) ?_
      refine aw_goto e_Lu_tiedStores_47 ?_
      have h := ih h9
      unfold tdS at h
      first
        | (rw [if_pos hct] at h; exact h)
        | (rw [if_neg hcf] at h; exact h)
    · refine aw_aload_n e_Lu_tiedStores_25 rfl ?_
      refine aw_aload_n e_Lu_tiedStores_26 rfl ?_
      refine aw_iload_n e_Lu_tiedStores_27 rfl ?_
      refine aw_aload_n e_Lu_tiedStores_28 rfl ?_
      refine aw_getE e_Lu_tiedStores_29 fl_Lu_40 hb ?_
      refine aw_cV3 e_Lu_tiedStores_32 ml_Lu_67 mf_Lu_sums mv_Lu_sums (c_Lu_sums hS hk hC hW hL hE h9 hb2 ?_)
      refine awB_ne e_Lu_tiedStores_35 (fun h35 => ?_) (fun h35 => ?_)
      · have hcf : ¬ (pP V i 0 = 1 ∧ ¬ setl V i b = 1 - pP V i 1) := fun z => z.2 h35
        refine aw_inc3 e_Lu_tiedStores_44 (inc1 _) ?_
        refine aw_goto e_Lu_tiedStores_47 ?_
        have h := ih h9
        unfold tdS at h
        first
          | (rw [if_pos hct] at h; exact h)
          | (rw [if_neg hcf] at h; exact h)
      · have hct : pP V i 0 = 1 ∧ ¬ setl V i b = 1 - pP V i 1 := ⟨h22, h35⟩
        refine aw_iload_n e_Lu_tiedStores_38 rfl ?_
        refine aw_iconst (v := nI 1) e_Lu_tiedStores_39 (by decide) ?_
        refine aw_iload_n e_Lu_tiedStores_40 rfl ?_
        refine aw_ishl e_Lu_tiedStores_41 ?_
        rw [shlS (by omega) (by have := pow12 (f := i) (by omega); omega), Nat.one_mul]
        refine aw_ior e_Lu_tiedStores_42 ?_
        rw [fa_or]
        refine aw_ist2 e_Lu_tiedStores_43 ?_
        refine aw_inc3 e_Lu_tiedStores_44 (inc1 _) ?_
        refine aw_goto e_Lu_tiedStores_47 ?_
        have h := ih h9
        unfold tdS at h
        first
          | (rw [if_pos hct] at h; exact h)
          | (rw [if_neg hcf] at h; exact h)
theorem pw_nb {V : Mc} (hW : WF V) : 2 ^ nB V ≤ 4096 := Nat.pow_le_pow_right (by decide) hW.1.2.1
theorem nw_le {V : Mc} (hW : WF V) {p m : Nat} (hm : m < 2 ^ nB V) (ho : bsT V p (nB V) ||| bsF V p (nB V) ≠ 0) : (m ||| (lowB (bsT V p (nB V) ||| bsF V p (nB V)) - 1)) + 1 ≤ 2 ^ nB V ∧ m < (m ||| (lowB (bsT V p (nB V) ||| bsF V p (nB V)) - 1)) + 1 := by
  have h12 := hW.1.2.1
  have hlt := or_lt (bsT_lt V p (nB V) h12) (bsF_lt V p (nB V) h12)
  obtain ⟨l1, l2, l3⟩ := low_sp _ hlt ho
  have hb : lowI (bsT V p (nB V) ||| bsF V p (nB V)) 12 < nB V := by
    apply Nat.lt_of_not_le
    intro q
    rw [Nat.testBit_or, bsT_bit, bsF_bit] at l2
    simp [Nat.not_lt.mpr q] at l2
  unfold lowB
  rw [if_neg ho]
  have hp : 2 ^ lowI (bsT V p (nB V) ||| bsF V p (nB V)) 12 ≤ 2 ^ nB V := Nat.pow_le_pow_right (by decide) (by omega)
  have hp0 := Nat.two_pow_pos (lowI (bsT V p (nB V) ||| bsF V p (nB V)) 12)
  refine ⟨?_, Nat.lt_succ_of_le Nat.left_le_or⟩
  exact Nat.or_lt_two_pow hm (by omega)
theorem c_Lu_survey {l : Launch} {E : En} {d : Nat} {I : It} {L : Lt} {R : Rt} {Z : Zt} {Q : Qt} {k : Nat} {V : Mc} (hS : Sta R) (hk : k < 3) (hC : CM I R Z k V) (hW : WF V) (hE : ∀ p, p < nP V → 1 ≤ ends V p) (hQ : ∀ I2, LUc I2 V → LUs I2 (svS V (2 ^ nB V)) → (∀ t i2, t ≠ 18 → t ≠ 19 → ¬ (t = 1 ∧ i2 = 0) → I2 t i2 = I t i2) → Q none I2 L R Z) : AMet l E (d + 4) M_Lu_survey [vr 1 0, vr 2 k] I L R Z Q := by
  have hnb := hW.1.2.1
  have hnp := hW.1.1
  have hnx := hW.1.2.2.1
  have hns := hW.1.2.2.2
  have hpw := pw_nb hW
  have hp0 := Nat.two_pow_pos (nB V)
  refine AMet.of mf_Lu_survey rfl (Nat.le_of_ble_eq_true rfl) ?_
  refine aw_aload_n e_Lu_survey_0 rfl ?_
  refine aw_aload_n e_Lu_survey_1 rfl ?_
  refine aw_cV1 e_Lu_survey_2 ml_Lu_33 mf_Lu_lookAt mv_Lu_lookAt (c_Lu_lookAt hS hk hC hW (fun I0 hL0 hv0 => ?_))
  refine aw_aload_n e_Lu_survey_5 rfl ?_
  refine aw_iconst (v := nI 0) e_Lu_survey_6 (by decide) ?_
  refine aw_putI e_Lu_survey_7 fl_Lu_37 ?_
  refine aw_aload_n e_Lu_survey_10 rfl ?_
  refine aw_iconst (v := nI 0) e_Lu_survey_11 (by decide) ?_
  refine aw_putI e_Lu_survey_12 fl_Lu_40 ?_
  refine aw_aload_n e_Lu_survey_15 rfl ?_
  refine aw_iconst (v := -1) e_Lu_survey_16 (by decide) ?_
  refine aw_putI e_Lu_survey_17 fl_Lu_43 ?_
  refine aw_iconst (v := nI 1) e_Lu_survey_20 (by decide) ?_
  refine aw_aload_n e_Lu_survey_21 rfl ?_
  refine aw_getE e_Lu_survey_22 fl_Lu_24 (x := nI (nB V)) (by rw [sI_n (by omega), sI_n (by omega), sI_n (by omega), hv0 2 k (by decide) (by decide)]; exact hC.1.2.1) ?_
  refine aw_ishl e_Lu_survey_25 ?_
  rw [shlS (by omega) (by omega), Nat.one_mul]
  refine aw_ist2 e_Lu_survey_26 ?_
  refine aw_iconst (v := nI 0) e_Lu_survey_27 (by decide) ?_
  refine aw_ist3 e_Lu_survey_28 ?_
  refine aw_iconst (v := nI 0) e_Lu_survey_29 (by decide) ?_
  refine aw_ist4 e_Lu_survey_30 ?_
  refine str_loop (P := fun e => ∀ m tn I1, m ≤ 2 ^ nB V → 2 ^ nB V - m = e → tn ≤ m → (∀ t i2, t ≠ 18 → t ≠ 19 → ¬ (t = 1 ∧ i2 = 0) → I1 t i2 = I t i2) → LUc I1 V → LUs I1 (svS V m) → AWq l E (d + 4) M_Lu_survey Z 32 [some (vr 1 0), some (vr 2 k), some (vi (nI (2 ^ nB V))), some (vi (nI m)), some (vi (nI tn)), none] [] I1 L R Z Q) (fun e ih m tn I1 hm he htm hv1 hL1 hs1 => ?_) (2 ^ nB V) 0 0 _ (Nat.zero_le _) (Nat.sub_zero _) (Nat.le_refl _) (fun t i2 h1 h2 h3 => ?_) (hL0.keep (by funext i2; rw [sI_n (by omega), sI_n (by omega), sI_n (by omega)]) (by funext i2; rw [sI_n (by omega), sI_n (by omega), sI_n (by omega)])) ⟨?_, ?_, ?_⟩
  rotate_left
  · rw [sI_n h3, sI_n h3, sI_n h3]; exact hv0 t i2 h1 h2
  · rw [sI_s, upd, if_neg (by decide), sI_s, upd, if_neg (by decide), sI_s, upd, if_pos rfl]; rfl
  · rw [sI_s, upd, if_neg (by decide), sI_s, upd, if_pos rfl]; rfl
  · rw [sI_s, upd, if_pos rfl]; rfl
  have hC1 : CM I1 R Z k V := hC.keep hW (fun t i2 hti => hv1 t i2 (by unfold own at hti; omega) (by unfold own at hti; omega) (by unfold own at hti; omega)) (fun _ _ _ => rfl)
  refine aw_iload e_Lu_survey_32 rfl ?_
  refine aw_iload_n e_Lu_survey_34 rfl ?_
  refine awN_icmp_ge e_Lu_survey_35 (by omega) (by omega) (fun h35 => ?_) (fun h35 => ?_)
  · have hmN : m = 2 ^ nB V := by omega
    subst hmN
    exact aw_vret e_Lu_survey_83 rfl (hQ I1 hL1 hs1 hv1)
  · refine aw_iload_n e_Lu_survey_38 rfl ?_
    refine aw_iload_n e_Lu_survey_39 rfl ?_
    refine awN_icmp_ge e_Lu_survey_40 (by omega) (by omega) (fun h40 => ?_) (fun h40 => ?_)
    · have hmN : m = 2 ^ nB V := by omega
      subst hmN
      exact aw_vret e_Lu_survey_83 rfl (hQ I1 hL1 hs1 hv1)
    · refine aw_aload_n e_Lu_survey_43 rfl ?_
      refine aw_aload_n e_Lu_survey_44 rfl ?_
      refine aw_iload_n e_Lu_survey_45 rfl ?_
      refine aw_cV2 e_Lu_survey_46 ml_Lu_46 mf_Lu_firstAgainst mv_Lu_firstAgainst (c_Lu_firstAgainst hS hk hC1 hW hL1 hE (by omega) ?_)
      refine aw_ist5 e_Lu_survey_49 ?_
      refine aw_iload e_Lu_survey_51 rfl ?_
      refine aw_iconst (v := -1) e_Lu_survey_53 (by decide) ?_
      refine awZ_icmp_ne e_Lu_survey_54 (fun h54 => ?_) (fun h54 => ?_)
      · have hfp : fag V m < nP V := by
          apply Decidable.byContradiction
          intro q
          unfold fagI at h54
          rw [if_neg q] at h54
          exact h54 rfl
        rw [show fagI V m = nI (fag V m) from if_pos hfp]
        have hnw := nw_le hW (p := fag V m) (m := m) h40 (ends_own hW (hE _ hfp))
        refine aw_aload_n e_Lu_survey_69 rfl ?_
        refine aw_iload e_Lu_survey_70 rfl ?_
        refine aw_iload_n e_Lu_survey_72 rfl ?_
        refine aw_cV2 e_Lu_survey_73 ml_Lu_54 mf_Lu_nextWithout mv_Lu_nextWithout (c_Lu_nextWithout hS hW hL1 hfp (by omega) (ends_own hW (hE _ hfp)) ?_)
        refine aw_ist3 e_Lu_survey_76 ?_
        refine aw_inc4 e_Lu_survey_77 (inc1 _) ?_
        refine aw_goto e_Lu_survey_80 ?_
        refine aw_drop 5 ?_
        first
          | (refine ih _ ?_ (m + 1) (tn + 1) I2 (by omega) rfl (by omega) (fun t i2 h1 h2 h3 => (hv2 t i2 h3).trans (hv1 t i2 h1 h2 h3)) (hL1.keep (by funext i2; exact hv2 18 i2 (by omega)) (by funext i2; exact hv2 19 i2 (by omega))) ?_
             · omega
             · have e1 : svS V (m + 1) = wgh V m (svS V m) := if_pos hcn
               rw [e1]; exact hs2)
          | (refine ih _ ?_ _ (tn + 1) I1 hnw.1 rfl (by omega) hv1 hL1 ?_
             · omega
             · have hsp := fst_spec (fun p => !(alw V p m)) (nP V) 0 (Nat.zero_le _)
               have hal : alw V (fag V m) m = false := by
                 have h9 := hsp.2.2.1 hfp
                 rw [Bool.not_eq_true'] at h9
                 exact h9
               have hsk := skip_ok hW hfp hal (ends_own hW (hE _ hfp))
               have e1 := svS_skip (V := V) (m := m) ((m ||| (lowB (bsT V (fag V m) (nB V) ||| bsF V (fag V m) (nB V)) - 1)) + 1 - m) (fun x h1 h2 => hsk x h1 (by omega))
               rw [show m + ((m ||| (lowB (bsT V (fag V m) (nB V) ||| bsF V (fag V m) (nB V)) - 1)) + 1 - m) = (m ||| (lowB (bsT V (fag V m) (nB V) ||| bsF V (fag V m) (nB V)) - 1)) + 1 by omega] at e1
               rw [e1]; exact hs1)
      · have hcn : canB V m = true := by
          rw [← fag_can]
          intro q
          unfold fagI at h54
          rw [if_pos q, nT (by omega)] at h54
          have h54 : ((fag V m : Nat) : Int) = -1 := h54
          omega
        refine aw_aload_n e_Lu_survey_57 rfl ?_
        refine aw_aload_n e_Lu_survey_58 rfl ?_
        refine aw_iload_n e_Lu_survey_59 rfl ?_
        refine aw_cV2 e_Lu_survey_60 ml_Lu_50 mf_Lu_weigh mv_Lu_weigh (c_Lu_weigh hS hk hC1 hW hL1 hE (by omega) hs1 (by have := svS_b V m; omega) (fun I2 hs2 hv2 => ?_))
        refine aw_inc3 e_Lu_survey_63 (inc1 _) ?_
        refine aw_goto e_Lu_survey_66 ?_
        refine aw_inc4 e_Lu_survey_77 (inc1 _) ?_
        refine aw_goto e_Lu_survey_80 ?_
        refine aw_drop 5 ?_
        first
          | (refine ih _ ?_ (m + 1) (tn + 1) I2 (by omega) rfl (by omega) (fun t i2 h1 h2 h3 => (hv2 t i2 h3).trans (hv1 t i2 h1 h2 h3)) (hL1.keep (by funext i2; exact hv2 18 i2 (by omega)) (by funext i2; exact hv2 19 i2 (by omega))) ?_
             · omega
             · have e1 : svS V (m + 1) = wgh V m (svS V m) := if_pos hcn
               rw [e1]; exact hs2)
          | (refine ih _ ?_ _ (tn + 1) I1 hnw.1 rfl (by omega) hv1 hL1 ?_
             · omega
             · have hsp := fst_spec (fun p => !(alw V p m)) (nP V) 0 (Nat.zero_le _)
               have hal : alw V (fag V m) m = false := by
                 have h9 := hsp.2.2.1 hfp
                 rw [Bool.not_eq_true'] at h9
                 exact h9
               have hsk := skip_ok hW hfp hal (ends_own hW (hE _ hfp))
               have e1 := svS_skip (V := V) (m := m) ((m ||| (lowB (bsT V (fag V m) (nB V) ||| bsF V (fag V m) (nB V)) - 1)) + 1 - m) (fun x h1 h2 => hsk x h1 (by omega))
               rw [show m + ((m ||| (lowB (bsT V (fag V m) (nB V) ||| bsF V (fag V m) (nB V)) - 1)) + 1 - m) = (m ||| (lowB (bsT V (fag V m) (nB V) ||| bsF V (fag V m) (nB V)) - 1)) + 1 by omega] at e1
               rw [e1]; exact hs1)
