/-! ===== LineUps ===== -/
def bsT (V : Mc) (p : Nat) : Nat → Nat
  | 0 => 0
  | n + 1 => if bT V n = p then bsT V p n ||| 2 ^ n else bsT V p n
def bsF (V : Mc) (p : Nat) : Nat → Nat
  | 0 => 0
  | n + 1 => if bF V n = p then bsF V p n ||| 2 ^ n else bsF V p n
theorem bsT_bit (V : Mc) (p : Nat) : ∀ n j, (bsT V p n).testBit j = (decide (j < n) && (bT V j == p))
  | 0, j => by simp [bsT]
  | n + 1, j => by
    unfold bsT
    by_cases h : bT V n = p
    · rw [if_pos h, Nat.testBit_or, bsT_bit V p n j, Nat.testBit_two_pow]
      by_cases e : j = n
      · subst e; simp [h]
      · have e2 : ¬ n = j := fun q => e q.symm
        have e3 : (j < n + 1) ↔ j < n := by omega
        simp [e2, e3]
    · rw [if_neg h, bsT_bit V p n j]
      by_cases e : j = n
      · subst e; simp [h]
      · have e3 : (j < n + 1) ↔ j < n := by omega
        simp [e3]
theorem bsF_bit (V : Mc) (p : Nat) : ∀ n j, (bsF V p n).testBit j = (decide (j < n) && (bF V j == p))
  | 0, j => by simp [bsF]
  | n + 1, j => by
    unfold bsF
    by_cases h : bF V n = p
    · rw [if_pos h, Nat.testBit_or, bsF_bit V p n j, Nat.testBit_two_pow]
      by_cases e : j = n
      · subst e; simp [h]
      · have e2 : ¬ n = j := fun q => e q.symm
        have e3 : (j < n + 1) ↔ j < n := by omega
        simp [e2, e3]
    · rw [if_neg h, bsF_bit V p n j]
      by_cases e : j = n
      · subst e; simp [h]
      · have e3 : (j < n + 1) ↔ j < n := by omega
        simp [e3]
theorem bsT_lt (V : Mc) (p : Nat) : ∀ n, n ≤ 12 → bsT V p n < 4096
  | 0, _ => by show 0 < 4096; decide
  | n + 1, h => by
    have ih := bsT_lt V p n (by omega)
    unfold bsT
    split
    · exact or_lt ih (pow12 (by omega))
    · exact ih
theorem bsF_lt (V : Mc) (p : Nat) : ∀ n, n ≤ 12 → bsF V p n < 4096
  | 0, _ => by show 0 < 4096; decide
  | n + 1, h => by
    have ih := bsF_lt V p n (by omega)
    unfold bsF
    split
    · exact or_lt ih (pow12 (by omega))
    · exact ih
/-- of how many bonds a part settles the push -/
def setl (V : Mc) (p m : Nat) : Nat := cnt (fun b => (if m.testBit b then bT V b else bF V b) == p) (nB V)
theorem setl_le (V : Mc) (p m : Nat) : setl V p m ≤ nB V := cnt_le _ _
theorem cnt_12 {P : Nat → Bool} {n : Nat} (hn : n ≤ 12) (h : ∀ j, n ≤ j → j < 12 → P j = false) : cnt P 12 = cnt P n := by
  have key : ∀ k, n + k ≤ 12 → cnt P (n + k) = cnt P n := by
    intro k
    induction k with
    | zero => intro _; rfl
    | succ k ih =>
      intro hk
      rw [show n + (k + 1) = (n + k) + 1 from rfl, cnt_f (h (n + k) (by omega) (by omega))]
      exact ih (by omega)
  have := key (12 - n) (by omega)
  rwa [show n + (12 - n) = 12 by omega] at this
theorem xorI (m g : Nat) (hg : g < 4096) : (nI m ^^^ (-1)) &&& nI g = nI ((m ^^^ 4095) &&& g) := by
  apply Int32.toBitVec_inj.1
  show (BitVec.ofNat 32 m ^^^ BitVec.ofInt 32 (-1)) &&& BitVec.ofNat 32 g = BitVec.ofNat 32 ((m ^^^ 4095) &&& g)
  apply BitVec.eq_of_getLsbD_eq
  intro i hi
  have e : BitVec.ofInt 32 (-1) = BitVec.allOnes 32 := by decide
  rw [e]
  by_cases h : i < 12
  · have e4 : (4095 : Nat).testBit i = true := by
      have : ∀ i, i < 12 → (4095 : Nat).testBit i = true := by decide
      exact this i h
    simp only [BitVec.getLsbD_and, BitVec.getLsbD_xor, BitVec.getLsbD_ofNat, BitVec.getLsbD_allOnes, Nat.testBit_and, Nat.testBit_xor, e4, hi, decide_true, Bool.true_and]
  · have e4 : g.testBit i = false := Nat.testBit_lt_two_pow (Nat.lt_of_lt_of_le hg (by
      have : 2 ^ 12 ≤ 2 ^ i := Nat.pow_le_pow_right (by decide) (by omega)
      omega))
    simp only [BitVec.getLsbD_and, BitVec.getLsbD_xor, BitVec.getLsbD_ofNat, BitVec.getLsbD_allOnes, Nat.testBit_and, Nat.testBit_xor, e4, Bool.and_false]
theorem set_bits {V : Mc} (hW : WF V) (p m : Nat) : cnt (fun j => ((m &&& bsT V p (nB V)) ||| ((m ^^^ 4095) &&& bsF V p (nB V))).testBit j) 12 = setl V p m := by
  have h12 := hW.1.2.1
  have hb : ∀ j, j < 12 → ((m &&& bsT V p (nB V)) ||| ((m ^^^ 4095) &&& bsF V p (nB V))).testBit j = (decide (j < nB V) && ((if m.testBit j then bT V j else bF V j) == p)) := by
    intro j hj
    have e4 : (4095 : Nat).testBit j = true := by
      have : ∀ i, i < 12 → (4095 : Nat).testBit i = true := by decide
      exact this j hj
    rw [Nat.testBit_or, Nat.testBit_and, Nat.testBit_and, Nat.testBit_xor, bsT_bit, bsF_bit, e4]
    cases m.testBit j <;> simp
  rw [cnt_12 h12 (fun j h1 h2 => by rw [hb j h2]; simp [Nat.not_lt.mpr h1])]
  refine cnt_congr _ (fun j hj => ?_)
  rw [hb j (by omega)]
  simp [hj]
theorem end_bits {V : Mc} (hW : WF V) (p : Nat) : cnt (fun j => (bsT V p (nB V) ||| bsF V p (nB V)).testBit j) 12 = ends V p := by
  have h12 := hW.1.2.1
  rw [cnt_12 h12 (fun j h1 h2 => by rw [Nat.testBit_or, bsT_bit, bsF_bit]; simp [Nat.not_lt.mpr h1])]
  refine cnt_congr _ (fun j hj => ?_)
  rw [Nat.testBit_or, bsT_bit, bsF_bit]
  unfold atB
  simp [hj, Bool.or_comm]
def alw (V : Mc) (p m : Nat) : Bool :=
  if pP V p 0 = 3 then setl V p m == 1 - pP V p 1 else if pP V p 0 = 4 then (if pP V p 1 = 0 then setl V p m == 1 else setl V p m != 1)
  else if pP V p 0 = 5 then setl V p m == (if pP V p 1 = 0 then ends V p - 1 else 1) else true
def LUc (I : It) (V : Mc) : Prop := ∀ p, p < nP V → I 18 0 p = nI (bsT V p (nB V)) ∧ I 19 0 p = nI (bsF V p (nB V))
theorem c_Ji_bitCount {l : Launch} {E : En} {d : Nat} {I : It} {L : Lt} {R : Rt} {Z : Zt} {Q : Qt} {x : Int32} (hQ : Q (some (vi (bcF x))) I L R Z) : AMet l E d M_Ji_bitCount [vi x] I L R Z Q := by
  refine AMet.of mf_Ji_bitCount rfl (Nat.le_of_ble_eq_true rfl) ?_
  refine aw_iload_n e_Ji_bitCount_0 rfl ?_
  refine aw_iload_n e_Ji_bitCount_1 rfl ?_
  refine aw_iconst (v := nI 1) e_Ji_bitCount_2 (by decide) ?_
  refine aw_iushr e_Ji_bitCount_3 ?_
  refine aw_ldcw (v := nI 1431655765) e_Ji_bitCount_4 kc_Ji_265 ?_
  refine aw_iand e_Ji_bitCount_7 ?_
  refine aw_isub e_Ji_bitCount_8 ?_
  refine aw_ist0 e_Ji_bitCount_9 ?_
  refine aw_iload_n e_Ji_bitCount_10 rfl ?_
  refine aw_ldcw (v := nI 858993459) e_Ji_bitCount_11 kc_Ji_266 ?_
  refine aw_iand e_Ji_bitCount_14 ?_
  refine aw_iload_n e_Ji_bitCount_15 rfl ?_
  refine aw_iconst (v := nI 2) e_Ji_bitCount_16 (by decide) ?_
  refine aw_iushr e_Ji_bitCount_17 ?_
  refine aw_ldcw (v := nI 858993459) e_Ji_bitCount_18 kc_Ji_266 ?_
  refine aw_iand e_Ji_bitCount_21 ?_
  refine aw_iadd e_Ji_bitCount_22 ?_
  refine aw_ist0 e_Ji_bitCount_23 ?_
  refine aw_iload_n e_Ji_bitCount_24 rfl ?_
  refine aw_iload_n e_Ji_bitCount_25 rfl ?_
  refine aw_iconst (v := nI 4) e_Ji_bitCount_26 (by decide) ?_
  refine aw_iushr e_Ji_bitCount_27 ?_
  refine aw_iadd e_Ji_bitCount_28 ?_
  refine aw_ldcw (v := nI 252645135) e_Ji_bitCount_29 kc_Ji_267 ?_
  refine aw_iand e_Ji_bitCount_32 ?_
  refine aw_ist0 e_Ji_bitCount_33 ?_
  refine aw_iload_n e_Ji_bitCount_34 rfl ?_
  refine aw_iload_n e_Ji_bitCount_35 rfl ?_
  refine aw_bipush (v := nI 8) e_Ji_bitCount_36 (by decide) ?_
  refine aw_iushr e_Ji_bitCount_38 ?_
  refine aw_iadd e_Ji_bitCount_39 ?_
  refine aw_ist0 e_Ji_bitCount_40 ?_
  refine aw_iload_n e_Ji_bitCount_41 rfl ?_
  refine aw_iload_n e_Ji_bitCount_42 rfl ?_
  refine aw_bipush (v := nI 16) e_Ji_bitCount_43 (by decide) ?_
  refine aw_iushr e_Ji_bitCount_45 ?_
  refine aw_iadd e_Ji_bitCount_46 ?_
  refine aw_ist0 e_Ji_bitCount_47 ?_
  refine aw_iload_n e_Ji_bitCount_48 rfl ?_
  refine aw_bipush (v := nI 63) e_Ji_bitCount_49 (by decide) ?_
  refine aw_iand e_Ji_bitCount_51 ?_
  exact aw_iret e_Ji_bitCount_52 rfl rfl hQ
theorem c_Lu_settledBy {l : Launch} {E : En} {d : Nat} {I : It} {L : Lt} {R : Rt} {Z : Zt} {Q : Qt} {V : Mc} (hS : Sta R) (hW : WF V) (hL : LUc I V) {p m : Nat} (hp : p < nP V) (hm : m < 4096) (hQ : Q (some (vi (nI (setl V p m)))) I L R Z) : AMet l E (d + 1) M_Lu_settledBy [vr 1 0, vi (nI p), vi (nI m)] I L R Z Q := by
  have hnb := hW.1.2.1
  have hnp := hW.1.1
  have hnx := hW.1.2.2.1
  have hns := hW.1.2.2.2
  have hT := bsT_lt V p (nB V) hnb
  have hF := bsF_lt V p (nB V) hnb
  refine AMet.of mf_Lu_settledBy rfl (Nat.le_of_ble_eq_true rfl) ?_
  refine aw_iload_n e_Lu_settledBy_0 rfl ?_
  refine aw_aload_n e_Lu_settledBy_1 rfl ?_
  refine aw_getR e_Lu_settledBy_2 fl_Lu_9 (hS.1 _ _ _ _ rfl) ?_
  refine aw_iload_n e_Lu_settledBy_5 rfl ?_
  refine aw_ialE e_Lu_settledBy_6 rfl (show _ < 12 by omega) (by omega) (hL _ (by omega)).1 ?_
  refine aw_iand e_Lu_settledBy_7 ?_
  rw [fa_and]
  refine aw_iload_n e_Lu_settledBy_8 rfl ?_
  refine aw_iconst (v := -1) e_Lu_settledBy_9 (by decide) ?_
  refine aw_ixor e_Lu_settledBy_10 ?_
  refine aw_aload_n e_Lu_settledBy_11 rfl ?_
  refine aw_getR e_Lu_settledBy_12 fl_Lu_15 (hS.1 _ _ _ _ rfl) ?_
  refine aw_iload_n e_Lu_settledBy_15 rfl ?_
  refine aw_ialE e_Lu_settledBy_16 rfl (show _ < 12 by omega) (by omega) (hL _ (by omega)).2 ?_
  refine aw_iand e_Lu_settledBy_17 ?_
  rw [xorI _ _ hF]
  refine aw_ior e_Lu_settledBy_18 ?_
  rw [fa_or]
  refine aw_cS1 e_Lu_settledBy_19 ml_Lu_81 mf_Ji_bitCount ms_Ji_bitCount (c_Ji_bitCount ?_)
  refine aw_iret e_Lu_settledBy_22 rfl rfl ?_
  rw [bc_ok _ (or_lt (Nat.lt_of_le_of_lt Nat.and_le_right hT) (Nat.lt_of_le_of_lt Nat.and_le_right hF)), set_bits hW]
  exact hQ
theorem c_Lu_sums {l : Launch} {E : En} {d : Nat} {I : It} {L : Lt} {R : Rt} {Z : Zt} {Q : Qt} {k : Nat} {V : Mc} (hS : Sta R) (hk : k < 3) (hC : CM I R Z k V) (hW : WF V) (hL : LUc I V) (hE : ∀ p, p < nP V → 1 ≤ ends V p) {p m : Nat} (hp : p < nP V) (hm : m < 4096) (hQ : Q (some (vi (bI (setl V p m = 1 - pP V p 1)))) I L R Z) : AMet l E (d + 2) M_Lu_sums [vr 1 0, vr 2 k, vi (nI p), vi (nI m)] I L R Z Q := by
  have hnb := hW.1.2.1
  have hnp := hW.1.1
  have hnx := hW.1.2.2.1
  have hns := hW.1.2.2.2
  have hpw := hW.2.1 p hp
  have hsl := setl_le V p m
  refine AMet.of mf_Lu_sums rfl (Nat.le_of_ble_eq_true rfl) ?_
  refine aw_aload_n e_Lu_sums_0 rfl ?_
  refine aw_iload_n e_Lu_sums_1 rfl ?_
  refine aw_iload_n e_Lu_sums_2 rfl ?_
  refine aw_cV2 e_Lu_sums_3 ml_Lu_75 mf_Lu_settledBy mv_Lu_settledBy (c_Lu_settledBy hS hW hL hp hm ?_)
  refine aw_iconst (v := nI 1) e_Lu_sums_6 (by decide) ?_
  refine aw_aload_n e_Lu_sums_7 rfl ?_
  refine aw_getR e_Lu_sums_8 fl_Lu_58 (hS.1 _ _ _ _ rfl) ?_
  refine aw_iload_n e_Lu_sums_11 rfl ?_
  refine aw_aald e_Lu_sums_12 rfl (show _ < 12 by omega) (by omega) (hS.2.1 _ _ (by omega) (by omega)) ?_
  refine aw_getE e_Lu_sums_13 fl_Lu_78 (hC.2.1 _ _ (by omega) (by decide)) ?_
  first | refine awN_isub e_Lu_sums_16 (by omega) ?_ | refine aw_isub e_Lu_sums_16 ?_
  refine awN_icmp_ne e_Lu_sums_17 (by omega) (by omega) (fun h17 => ?_) (fun h17 => ?_)
  · refine aw_iconst (v := nI 0) e_Lu_sums_24 (by decide) ?_
    first
      | exact awB_1 e_Lu_sums_25 (by omega) hQ
      | exact awB_0 e_Lu_sums_25 (by omega) hQ
  · refine aw_iconst (v := nI 1) e_Lu_sums_20 (by decide) ?_
    refine aw_goto e_Lu_sums_21 ?_
    first
      | exact awB_1 e_Lu_sums_25 (by omega) hQ
      | exact awB_0 e_Lu_sums_25 (by omega) hQ
theorem c_Lu_allows {l : Launch} {E : En} {d : Nat} {I : It} {L : Lt} {R : Rt} {Z : Zt} {Q : Qt} {k : Nat} {V : Mc} (hS : Sta R) (hk : k < 3) (hC : CM I R Z k V) (hW : WF V) (hL : LUc I V) (hE : ∀ p, p < nP V → 1 ≤ ends V p) {p m : Nat} (hp : p < nP V) (hm : m < 4096) (hQ : Q (some (vi (bI (alw V p m = true)))) I L R Z) : AMet l E (d + 2) M_Lu_allows [vr 1 0, vr 3 (12 * k + p), vi (nI p), vi (nI m)] I L R Z Q := by
  have hnb := hW.1.2.1
  have hnp := hW.1.1
  have hnx := hW.1.2.2.1
  have hns := hW.1.2.2.2
  have hpw := hW.2.1 p hp
  have hsl := setl_le V p m
  have hel := ends_le (V := V) p
  have hel1 := hE p hp
  have hT := bsT_lt V p (nB V) hnb
  have hF := bsF_lt V p (nB V) hnb
  refine AMet.of mf_Lu_allows rfl (Nat.le_of_ble_eq_true rfl) ?_
  refine aw_aload_n e_Lu_allows_0 rfl ?_
  refine aw_iload_n e_Lu_allows_1 rfl ?_
  refine aw_iload_n e_Lu_allows_2 rfl ?_
  refine aw_cV2 e_Lu_allows_3 ml_Lu_75 mf_Lu_settledBy mv_Lu_settledBy (c_Lu_settledBy hS hW hL hp hm ?_)
  refine aw_ist4 e_Lu_allows_6 ?_
  refine aw_aload_n e_Lu_allows_8 rfl ?_
  refine aw_getE e_Lu_allows_9 fl_Lu_62 (hC.2.1 p 0 hp (by decide)) ?_
  have hkk : pP V p 0 = 3 ∨ pP V p 0 = 4 ∨ pP V p 0 = 5 ∨ pP V p 0 < 3 := by omega
  rcases hkk with hk0 | hk0 | hk0 | hk0
  · rw [hk0]
    refine aw_tsIn (off := 28) (tgt := 40) e_Lu_allows_12 (by decide) (by decide) (by decide) (by decide) ?_
    refine aw_iload e_Lu_allows_40 rfl ?_
    refine aw_iconst (v := nI 1) e_Lu_allows_42 (by decide) ?_
    refine aw_aload_n e_Lu_allows_43 rfl ?_
    refine aw_getE e_Lu_allows_44 fl_Lu_78 (hC.2.1 p 1 hp (by decide)) ?_
    first | refine awN_isub e_Lu_allows_47 (by omega) ?_ | refine aw_isub e_Lu_allows_47 ?_
    refine awN_icmp_ne e_Lu_allows_48 (by omega) (by omega) (fun h48 => ?_) (fun h48 => ?_)
    · refine aw_iconst (v := nI 0) e_Lu_allows_55 (by decide) ?_
      first
        | exact awB_1 e_Lu_allows_56 (by unfold alw; rw [if_pos hk0]; simp; omega) hQ
        | exact awB_0 e_Lu_allows_56 (by unfold alw; rw [if_pos hk0]; simp; omega) hQ
    · refine aw_iconst (v := nI 1) e_Lu_allows_51 (by decide) ?_
      refine aw_goto e_Lu_allows_52 ?_
      first
        | exact awB_1 e_Lu_allows_56 (by unfold alw; rw [if_pos hk0]; simp; omega) hQ
        | exact awB_0 e_Lu_allows_56 (by unfold alw; rw [if_pos hk0]; simp; omega) hQ
  · rw [hk0]
    refine aw_tsIn (off := 45) (tgt := 57) e_Lu_allows_12 (by decide) (by decide) (by decide) (by decide) ?_
    refine aw_aload_n e_Lu_allows_57 rfl ?_
    refine aw_getE e_Lu_allows_58 fl_Lu_78 (hC.2.1 p 1 hp (by decide)) ?_
    refine awN_if_ne e_Lu_allows_61 (by omega) (fun h61 => ?_) (fun h61 => ?_)
    · refine aw_iload e_Lu_allows_78 rfl ?_
      refine aw_iconst (v := nI 1) e_Lu_allows_80 (by decide) ?_
      refine awN_icmp_eq e_Lu_allows_81 (by omega) (by omega) (fun h81 => ?_) (fun h81 => ?_)
      · refine aw_iconst (v := nI 0) e_Lu_allows_88 (by decide) ?_
        first
          | exact awB_1 e_Lu_allows_89 (by unfold alw; rw [if_neg (by omega), if_pos hk0]; simp [h61]; omega) hQ
          | exact awB_0 e_Lu_allows_89 (by unfold alw; rw [if_neg (by omega), if_pos hk0]; simp [h61]; omega) hQ
      · refine aw_iconst (v := nI 1) e_Lu_allows_84 (by decide) ?_
        refine aw_goto e_Lu_allows_85 ?_
        first
          | exact awB_1 e_Lu_allows_89 (by unfold alw; rw [if_neg (by omega), if_pos hk0]; simp [h61]; omega) hQ
          | exact awB_0 e_Lu_allows_89 (by unfold alw; rw [if_neg (by omega), if_pos hk0]; simp [h61]; omega) hQ
    · refine aw_iload e_Lu_allows_64 rfl ?_
      refine aw_iconst (v := nI 1) e_Lu_allows_66 (by decide) ?_
      refine awN_icmp_ne e_Lu_allows_67 (by omega) (by omega) (fun h67 => ?_) (fun h67 => ?_)
      · refine aw_iconst (v := nI 0) e_Lu_allows_74 (by decide) ?_
        refine aw_goto e_Lu_allows_75 ?_
        first
          | exact awB_1 e_Lu_allows_89 (by unfold alw; rw [if_neg (by omega), if_pos hk0]; simp [h61]; omega) hQ
          | exact awB_0 e_Lu_allows_89 (by unfold alw; rw [if_neg (by omega), if_pos hk0]; simp [h61]; omega) hQ
      · refine aw_iconst (v := nI 1) e_Lu_allows_70 (by decide) ?_
        refine aw_goto e_Lu_allows_71 ?_
        first
          | exact awB_1 e_Lu_allows_89 (by unfold alw; rw [if_neg (by omega), if_pos hk0]; simp [h61]; omega) hQ
          | exact awB_0 e_Lu_allows_89 (by unfold alw; rw [if_neg (by omega), if_pos hk0]; simp [h61]; omega) hQ
  · rw [hk0]
    refine aw_tsIn (off := 78) (tgt := 90) e_Lu_allows_12 (by decide) (by decide) (by decide) (by decide) ?_
    refine aw_aload_n e_Lu_allows_90 rfl ?_
    refine aw_getR e_Lu_allows_91 fl_Lu_9 (hS.1 _ _ _ _ rfl) ?_
    refine aw_iload_n e_Lu_allows_94 rfl ?_
    refine aw_ialE e_Lu_allows_95 rfl (show _ < 12 by omega) (by omega) (hL p hp).1 ?_
    refine aw_aload_n e_Lu_allows_96 rfl ?_
    refine aw_getR e_Lu_allows_97 fl_Lu_15 (hS.1 _ _ _ _ rfl) ?_
    refine aw_iload_n e_Lu_allows_100 rfl ?_
    refine aw_ialE e_Lu_allows_101 rfl (show _ < 12 by omega) (by omega) (hL p hp).2 ?_
    refine aw_ior e_Lu_allows_102 ?_
    rw [fa_or]
    refine aw_cS1 e_Lu_allows_103 ml_Lu_81 mf_Ji_bitCount ms_Ji_bitCount (c_Ji_bitCount ?_)
    rw [bc_ok _ (or_lt hT hF), end_bits hW]
    refine aw_ist5 e_Lu_allows_106 ?_
    refine aw_iload e_Lu_allows_108 rfl ?_
    refine aw_aload_n e_Lu_allows_110 rfl ?_
    refine aw_getE e_Lu_allows_111 fl_Lu_78 (hC.2.1 p 1 hp (by decide)) ?_
    refine awN_if_ne e_Lu_allows_114 (by omega) (fun h114 => ?_) (fun h114 => ?_)
    · refine aw_iconst (v := nI 1) e_Lu_allows_124 (by decide) ?_
      refine awN_icmp_ne e_Lu_allows_125 (by omega) (by omega) (fun h125 => ?_) (fun h125 => ?_)
      · refine aw_iconst (v := nI 0) e_Lu_allows_132 (by decide) ?_
        first
          | exact awB_1 e_Lu_allows_133 (by unfold alw; rw [if_neg (by omega), if_neg (by omega), if_pos hk0]; simp [h114]; omega) hQ
          | exact awB_0 e_Lu_allows_133 (by unfold alw; rw [if_neg (by omega), if_neg (by omega), if_pos hk0]; simp [h114]; omega) hQ
      · refine aw_iconst (v := nI 1) e_Lu_allows_128 (by decide) ?_
        refine aw_goto e_Lu_allows_129 ?_
        first
          | exact awB_1 e_Lu_allows_133 (by unfold alw; rw [if_neg (by omega), if_neg (by omega), if_pos hk0]; simp [h114]; omega) hQ
          | exact awB_0 e_Lu_allows_133 (by unfold alw; rw [if_neg (by omega), if_neg (by omega), if_pos hk0]; simp [h114]; omega) hQ
    · refine aw_iload e_Lu_allows_117 rfl ?_
      refine aw_iconst (v := nI 1) e_Lu_allows_119 (by decide) ?_
      first | refine awN_isub e_Lu_allows_120 (by omega) ?_ | refine aw_isub e_Lu_allows_120 ?_
      refine aw_goto e_Lu_allows_121 ?_
      refine awN_icmp_ne e_Lu_allows_125 (by omega) (by omega) (fun h125 => ?_) (fun h125 => ?_)
      · refine aw_iconst (v := nI 0) e_Lu_allows_132 (by decide) ?_
        first
          | exact awB_1 e_Lu_allows_133 (by unfold alw; rw [if_neg (by omega), if_neg (by omega), if_pos hk0]; simp [h114]; omega) hQ
          | exact awB_0 e_Lu_allows_133 (by unfold alw; rw [if_neg (by omega), if_neg (by omega), if_pos hk0]; simp [h114]; omega) hQ
      · refine aw_iconst (v := nI 1) e_Lu_allows_128 (by decide) ?_
        refine aw_goto e_Lu_allows_129 ?_
        first
          | exact awB_1 e_Lu_allows_133 (by unfold alw; rw [if_neg (by omega), if_neg (by omega), if_pos hk0]; simp [h114]; omega) hQ
          | exact awB_0 e_Lu_allows_133 (by unfold alw; rw [if_neg (by omega), if_neg (by omega), if_pos hk0]; simp [h114]; omega) hQ
  · refine aw_tsOut (tgt := 134) e_Lu_allows_12 (Or.inl (by rw [nT (by omega)]; omega)) (by decide) ?_
    refine aw_iconst (v := nI 1) e_Lu_allows_134 (by decide) ?_
    exact awB_1 e_Lu_allows_135 (by unfold alw; rw [if_neg (by omega), if_neg (by omega), if_neg (by omega)]) hQ
def fag (V : Mc) (m : Nat) : Nat := fst' (fun p => !(alw V p m)) (nP V) 0
def fagI (V : Mc) (m : Nat) : Int32 := if fag V m < nP V then nI (fag V m) else -1
theorem c_Lu_firstAgainst {l : Launch} {E : En} {d : Nat} {I : It} {L : Lt} {R : Rt} {Z : Zt} {Q : Qt} {k : Nat} {V : Mc} (hS : Sta R) (hk : k < 3) (hC : CM I R Z k V) (hW : WF V) (hL : LUc I V) (hE : ∀ p, p < nP V → 1 ≤ ends V p) {m : Nat} (hm : m < 4096) (hQ : Q (some (vi (fagI V m))) I L R Z) : AMet l E (d + 3) M_Lu_firstAgainst [vr 1 0, vr 2 k, vi (nI m)] I L R Z Q := by
  have hnb := hW.1.2.1
  have hnp := hW.1.1
  have hnx := hW.1.2.2.1
  have hns := hW.1.2.2.2
  refine AMet.of mf_Lu_firstAgainst rfl (Nat.le_of_ble_eq_true rfl) ?_
  refine aw_iconst (v := nI 0) e_Lu_firstAgainst_0 (by decide) ?_
  refine aw_ist3 e_Lu_firstAgainst_1 ?_
  refine up_loop (P := fun i => fst' (fun p => !(alw V p m)) (nP V) i = fag V m → AWq l E (d + 3) M_Lu_firstAgainst Z 2 [some (vr 1 0), some (vr 2 k), some (vi (nI m)), some (vi (nI i))] [] I L R Z Q) (N := nP V) (fun i hi ih hv => ?_) 0 (Nat.zero_le _) rfl
  refine aw_iload_n e_Lu_firstAgainst_2 rfl ?_
  refine aw_aload_n e_Lu_firstAgainst_3 rfl ?_
  refine aw_getE e_Lu_firstAgainst_4 fl_Lu_18 hC.1.1 ?_
  refine awN_icmp_ge e_Lu_firstAgainst_7 (by omega) (by omega) (fun h7 => ?_) (fun h7 => ?_)
  · refine aw_iconst (v := -1) e_Lu_firstAgainst_33 (by decide) ?_
    refine aw_iret e_Lu_firstAgainst_34 rfl rfl ?_
    have e1 : fag V m = nP V := hv ▸ fst_ge h7
    have e2 : fagI V m = -1 := by unfold fagI; rw [e1, if_neg (by omega)]
    rw [← e2]
    exact hQ
  · refine aw_aload_n e_Lu_firstAgainst_10 rfl ?_
    refine aw_aload_n e_Lu_firstAgainst_11 rfl ?_
    refine aw_getR e_Lu_firstAgainst_12 fl_Lu_58 (hS.1 _ _ _ _ rfl) ?_
    refine aw_iload_n e_Lu_firstAgainst_15 rfl ?_
    refine aw_aald e_Lu_firstAgainst_16 rfl (show _ < 12 by omega) (by omega) (hS.2.1 _ _ (by omega) (by omega)) ?_
    refine aw_iload_n e_Lu_firstAgainst_17 rfl ?_
    refine aw_iload_n e_Lu_firstAgainst_18 rfl ?_
    refine aw_cV3 e_Lu_firstAgainst_19 ml_Lu_71 mf_Lu_allows mv_Lu_allows (c_Lu_allows hS hk hC hW hL hE h7 hm ?_)
    refine awB_ne e_Lu_firstAgainst_22 (fun h22 => ?_) (fun h22 => ?_)
    · refine aw_inc3 e_Lu_firstAgainst_27 (inc1 _) ?_
      refine aw_goto e_Lu_firstAgainst_30 ?_
      exact ih h7 ((fst_f h7 (by simp [h22])).symm.trans hv)
    · refine aw_iload_n e_Lu_firstAgainst_25 rfl ?_
      refine aw_iret e_Lu_firstAgainst_26 rfl rfl ?_
      have e1 : fag V m = i := hv ▸ fst_t h7 (by simp [h22])
      have e2 : fagI V m = nI i := by unfold fagI; rw [e1, if_pos h7]
      rw [← e2]
      exact hQ
