/-! ===== the model's tape: words ===== -/
def byt (y : Int32) : Nat := if y.toInt < 0 then (y.toInt + 256).toNat else y.toInt.toNat
theorem byt_k : ∀ k, k < 256 → (nI k - nI 128).toInt = (k : Int) - 128 ∧ (nI k - nI 128) &&& nI 255 = nI ((k + 128) % 256) := by decide +kernel
theorem byt_sp {y : Int32} (h : -128 ≤ y.toInt ∧ y.toInt ≤ 127) : y &&& nI 255 = nI (byt y) ∧ byt y < 256 ∧ (0 ≤ y.toInt → byt y = y.toInt.toNat) ∧ (y.toInt < 0 → 128 ≤ byt y) := by
  have hk := byt_k (y.toInt + 128).toNat (by omega)
  have e : y = nI (y.toInt + 128).toNat - nI 128 := i_eq.mpr (by rw [hk.1]; omega)
  have hb : byt y = ((y.toInt + 128).toNat + 128) % 256 := by unfold byt; split <;> omega
  refine ⟨?_, by omega, fun h => by unfold byt; rw [if_neg (by omega)], fun h => by unfold byt; rw [if_pos h]; omega⟩
  rw [hb, ← hk.2, ← e]
theorem and8 (y : Int32) : y.toInt8.toInt32 &&& nI 255 = y &&& nI 255 := by
  apply Int32.toBitVec_inj.1
  apply BitVec.eq_of_getLsbD_eq
  intro i hi
  show (BitVec.signExtend 32 (BitVec.signExtend 8 y.toBitVec) &&& 255#32).getLsbD i = (y.toBitVec &&& 255#32).getLsbD i
  rw [BitVec.getLsbD_and, BitVec.getLsbD_and]
  by_cases h : i < 8
  · rw [BitVec.getLsbD_signExtend, BitVec.getLsbD_signExtend]
    simp [h, hi, show i < 32 by omega]
  · have h255 : (255#32).getLsbD i = false := by
      rw [BitVec.getLsbD_ofNat]
      have h3 : Nat.testBit 255 i = false := Nat.testBit_lt_two_pow (Nat.lt_of_lt_of_le (by decide : 255 < 2 ^ 8) (Nat.pow_le_pow_right (by decide) (by omega)))
      rw [h3, Bool.and_false]
    rw [h255, Bool.and_false, Bool.and_false]
theorem rng8 (y : Int32) : -128 ≤ y.toInt8.toInt32.toInt ∧ y.toInt8.toInt32.toInt ≤ 127 := by
  rw [Int8.toInt_toInt32]
  exact ⟨Int8.le_toInt _, by have := Int8.toInt_lt y.toInt8; omega⟩
def MTP (I : It) (t : TB) : Prop := I 9 0 16 = nI t.1 ∧ t.1 ≤ 96 ∧ ∀ j, j < t.1 → I 39 0 j = t.2 j &&& nI 255 ∧ -128 ≤ (t.2 j).toInt ∧ (t.2 j).toInt ≤ 127
theorem MTP.b {I : It} {t : TB} (h : MTP I t) {j : Nat} (hj : j < t.1) : I 39 0 j = nI (byt (t.2 j)) ∧ byt (t.2 j) < 256 ∧ (0 ≤ (t.2 j).toInt → byt (t.2 j) = (t.2 j).toInt.toNat) ∧ ((t.2 j).toInt < 0 → 128 ≤ byt (t.2 j)) := by
  have a := h.2.2 j hj
  have b := byt_sp a.2
  exact ⟨a.1.trans b.1, b.2⟩
theorem srt_1b {I : It} {t : TB} {j : Nat} (h : MTP I t) (hj : j < t.1) : srt t j = 1 ↔ 97 ≤ byt (t.2 j) ∧ byt (t.2 j) ≤ 122 := by
  have b := h.b hj
  rw [srt_v hj]
  by_cases e : 0 ≤ (t.2 j).toInt
  · have b2 := b.2.2.1 e
    split
    · omega
    · split <;> omega
  · have b2 := b.2.2.2 (by omega)
    rw [if_neg (by omega), if_neg (by omega)]
    omega
theorem srt_2b {I : It} {t : TB} {j : Nat} (h : MTP I t) (hj : j < t.1) : srt t j = 2 ↔ 48 ≤ byt (t.2 j) ∧ byt (t.2 j) ≤ 57 := by
  have b := h.b hj
  rw [srt_v hj]
  by_cases e : 0 ≤ (t.2 j).toInt
  · have b2 := b.2.2.1 e
    split
    · omega
    · split <;> omega
  · have b2 := b.2.2.2 (by omega)
    rw [if_neg (by omega), if_neg (by omega)]
    omega
theorem byt_c {I : It} {t : TB} {j c : Nat} (h : MTP I t) (hj : j < t.1) (hc : c < 128) : byt (t.2 j) = c ↔ t.2 j = nI c := by
  have b := h.b hj
  have hT := nT (n := c) (by omega)
  constructor
  · intro e
    have e0 : 0 ≤ (t.2 j).toInt := Decidable.byContradiction (fun z => by have := b.2.2.2 (by omega); omega)
    have := b.2.2.1 e0
    exact i_eq.mpr (by omega)
  · intro e
    rw [e] at b ⊢
    have := b.2.2.1 (by omega)
    omega
theorem c_Mo_isLetter {l : Launch} {E : En} {d : Nat} {I : It} {L : Lt} {R : Rt} {Z : Zt} {Q : Qt} {t : TB} (hS : Sta R) (hT : MTP I t) {j : Nat} (hj : j ≤ 96) (hQ : Q (some (vi (bI (srt t j = 1)))) I L R Z) : AMet l E (d + 1) M_Mo_isLetter [vr 9 0, vi (nI j)] I L R Z Q := by
  have hT1 := hT.2.1
  refine AMet.of mf_Mo_isLetter rfl (Nat.le_of_ble_eq_true rfl) ?_
  refine aw_iload_n e_Mo_isLetter_0 rfl ?_
  refine aw_aload_n e_Mo_isLetter_1 rfl ?_
  refine aw_getE e_Mo_isLetter_2 fl_Mo_229 hT.1 ?_
  refine awN_icmp_ge e_Mo_isLetter_5 (by omega) (by omega) (fun h5 => ?_) (fun h5 => ?_)
  · refine aw_iconst (v := nI 0) e_Mo_isLetter_31 (by decide) ?_
    first
      | exact awB_1 e_Mo_isLetter_32 ((srt_1b hT h5).2 (by omega)) hQ
      | exact awB_0 e_Mo_isLetter_32 (fun z => h24 (by have := (srt_1b hT h5).1 z; omega)) hQ
      | exact awB_0 e_Mo_isLetter_32 (fun z => by have z2 := srt_n.2 (show ¬ j < t.1 by omega); omega) hQ
  · have hbt := nT (n := byt (t.2 j)) (by have := (hT.b h5).2.1; omega)
    refine aw_aload_n e_Mo_isLetter_8 rfl ?_
    refine aw_getR e_Mo_isLetter_9 fl_Mo_50 (hS.1 _ _ _ _ rfl) ?_
    refine aw_iload_n e_Mo_isLetter_12 rfl ?_
    refine aw_ialE e_Mo_isLetter_13 rfl (show _ < 96 by omega) (by omega) (hT.b h5).1 ?_
    refine aw_i2l e_Mo_isLetter_14 ?_
    refine aw_ldc2 (v := lN 97) e_Mo_isLetter_15 kl_Mo_232 ?_
    refine aw_ldc2 (v := lN 122) e_Mo_isLetter_18 kl_Mo_234 ?_
    refine aw_cS3 e_Mo_isLetter_21 ml_Mo_75 mf_Mo_isIn ms_Mo_isIn (c_Mo_isInC (by decide) (by decide) ?_)
    refine awB_eq e_Mo_isLetter_24 (fun h24 => ?_) (fun h24 => ?_)
    · refine aw_iconst (v := nI 0) e_Mo_isLetter_31 (by decide) ?_
      first
        | exact awB_1 e_Mo_isLetter_32 ((srt_1b hT h5).2 (by omega)) hQ
        | exact awB_0 e_Mo_isLetter_32 (fun z => h24 (by have := (srt_1b hT h5).1 z; omega)) hQ
        | exact awB_0 e_Mo_isLetter_32 (fun z => by have z2 := srt_n.2 (show ¬ j < t.1 by omega); omega) hQ
    · refine aw_iconst (v := nI 1) e_Mo_isLetter_27 (by decide) ?_
      refine aw_goto e_Mo_isLetter_28 ?_
      first
        | exact awB_1 e_Mo_isLetter_32 ((srt_1b hT h5).2 (by omega)) hQ
        | exact awB_0 e_Mo_isLetter_32 (fun z => h24 (by have := (srt_1b hT h5).1 z; omega)) hQ
        | exact awB_0 e_Mo_isLetter_32 (fun z => by have z2 := srt_n.2 (show ¬ j < t.1 by omega); omega) hQ
theorem c_Mo_isDigit {l : Launch} {E : En} {d : Nat} {I : It} {L : Lt} {R : Rt} {Z : Zt} {Q : Qt} {t : TB} (hS : Sta R) (hT : MTP I t) {j : Nat} (hj : j ≤ 96) (hQ : Q (some (vi (bI (srt t j = 2)))) I L R Z) : AMet l E (d + 1) M_Mo_isDigit [vr 9 0, vi (nI j)] I L R Z Q := by
  have hT1 := hT.2.1
  refine AMet.of mf_Mo_isDigit rfl (Nat.le_of_ble_eq_true rfl) ?_
  refine aw_iload_n e_Mo_isDigit_0 rfl ?_
  refine aw_aload_n e_Mo_isDigit_1 rfl ?_
  refine aw_getE e_Mo_isDigit_2 fl_Mo_229 hT.1 ?_
  refine awN_icmp_ge e_Mo_isDigit_5 (by omega) (by omega) (fun h5 => ?_) (fun h5 => ?_)
  · refine aw_iconst (v := nI 0) e_Mo_isDigit_31 (by decide) ?_
    first
      | exact awB_1 e_Mo_isDigit_32 ((srt_2b hT h5).2 (by omega)) hQ
      | exact awB_0 e_Mo_isDigit_32 (fun z => h24 (by have := (srt_2b hT h5).1 z; omega)) hQ
      | exact awB_0 e_Mo_isDigit_32 (fun z => by have z2 := srt_n.2 (show ¬ j < t.1 by omega); omega) hQ
  · have hbt := nT (n := byt (t.2 j)) (by have := (hT.b h5).2.1; omega)
    refine aw_aload_n e_Mo_isDigit_8 rfl ?_
    refine aw_getR e_Mo_isDigit_9 fl_Mo_50 (hS.1 _ _ _ _ rfl) ?_
    refine aw_iload_n e_Mo_isDigit_12 rfl ?_
    refine aw_ialE e_Mo_isDigit_13 rfl (show _ < 96 by omega) (by omega) (hT.b h5).1 ?_
    refine aw_i2l e_Mo_isDigit_14 ?_
    refine aw_ldc2 (v := lN 48) e_Mo_isDigit_15 kl_Mo_236 ?_
    refine aw_ldc2 (v := lN 57) e_Mo_isDigit_18 kl_Mo_238 ?_
    refine aw_cS3 e_Mo_isDigit_21 ml_Mo_75 mf_Mo_isIn ms_Mo_isIn (c_Mo_isInC (by decide) (by decide) ?_)
    refine awB_eq e_Mo_isDigit_24 (fun h24 => ?_) (fun h24 => ?_)
    · refine aw_iconst (v := nI 0) e_Mo_isDigit_31 (by decide) ?_
      first
        | exact awB_1 e_Mo_isDigit_32 ((srt_2b hT h5).2 (by omega)) hQ
        | exact awB_0 e_Mo_isDigit_32 (fun z => h24 (by have := (srt_2b hT h5).1 z; omega)) hQ
        | exact awB_0 e_Mo_isDigit_32 (fun z => by have z2 := srt_n.2 (show ¬ j < t.1 by omega); omega) hQ
    · refine aw_iconst (v := nI 1) e_Mo_isDigit_27 (by decide) ?_
      refine aw_goto e_Mo_isDigit_28 ?_
      first
        | exact awB_1 e_Mo_isDigit_32 ((srt_2b hT h5).2 (by omega)) hQ
        | exact awB_0 e_Mo_isDigit_32 (fun z => h24 (by have := (srt_2b hT h5).1 z; omega)) hQ
        | exact awB_0 e_Mo_isDigit_32 (fun z => by have z2 := srt_n.2 (show ¬ j < t.1 by omega); omega) hQ
theorem rem4 : ∀ k, k < 12 → nI 24 - nI 8 * nI (k % 4) = nI (24 - 8 * (k % 4)) := by decide
theorem MSt_tape {I I2 : It} {S : AS} {u : TB} (h : MSt I S) (e : ∀ t i, t ≠ 9 → t ≠ 39 → I2 t i = I t i) (e9 : I2 9 0 3 = I 9 0 3 ∧ I2 9 0 33 = I 9 0 33) (h16 : I2 9 0 16 = nI u.1) (hu : ∀ j, j < u.1 → I2 39 0 j = u.2 j &&& nI 255 ∧ -128 ≤ (u.2 j).toInt ∧ (u.2 j).toInt ≤ 127) : MSt I2 (sM S, sG S, sK S, u, S.2.2.2.2) := by
  obtain ⟨hC, m1, m2, m3, m4, m5, m6⟩ := h
  refine ⟨hC.keep (e 28 0 (by decide) (by decide)), fun z => (m1 z).keep (e 28 1 (by decide) (by decide)), e9.1.trans m2, ⟨h16, hu⟩, fun i hi => ?_, fun i hi => ?_, ⟨e9.2.trans m6.1, by rw [e 45 0 (by decide) (by decide)]; exact m6.2⟩⟩
  · unfold MSh
    rw [e 29 0 (by decide) (by decide), e 30 0 (by decide) (by decide), e 31 0 (by decide) (by decide)]
    exact m4 i hi
  · unfold MSl
    rw [e 32 0 (by decide) (by decide), e 33 0 (by decide) (by decide), e 34 0 (by decide) (by decide), e 35 0 (by decide) (by decide), e 36 0 (by decide) (by decide)]
    exact m5 i hi
theorem c_Mo_feed {l : Launch} {E : En} {d : Nat} {I : It} {L : Lt} {R : Rt} {Z : Zt} {Q : Qt} {S : AS} (hS : Sta R) (hM : MSt I S) (hA : AWF S) {x y z : Int32} (hQ : ∀ I2 L2, MSt I2 (op_feed S x y z).1 → fK I I2 → Q (some (vi (op_feed S x y z).2)) I2 L2 R Z) : AMet l E d M_Mo_feed [vr 9 0, vi x, vi y, vi z] I L R Z Q := by
  have hA96 := hA.2.2.2.1
  obtain ⟨m1, m2, m3, m4, m5, m6⟩ := hM.2
  refine AMet.of mf_Mo_feed rfl (Nat.le_of_ble_eq_true rfl) ?_
  refine aw_aload_n e_Mo_feed_0 rfl ?_
  refine aw_getE e_Mo_feed_1 fl_Mo_229 m3.1 ?_
  refine aw_bipush (v := nI 12) e_Mo_feed_4 (by decide) ?_
  first | refine awN_iadd e_Mo_feed_6 ?_ | refine aw_iadd e_Mo_feed_6 ?_
  refine aw_bipush (v := nI 96) e_Mo_feed_7 (by decide) ?_
  refine awN_icmp_le e_Mo_feed_9 (by omega) (by omega) (fun h9 => ?_) (fun h9 => ?_)
  · refine aw_iconst (v := nI 0) e_Mo_feed_15 (by decide) ?_
    refine aw_ist4 e_Mo_feed_16 ?_
    refine up_loop (P := fun k => ∀ I2 : It, (∀ t i, t ≠ 9 → t ≠ 39 → I2 t i = I t i) → (∀ f, f ≠ 16 → I2 9 0 f = I 9 0 f) → I2 9 0 16 = nI ((sT S).1 + k) → (∀ j, j < (sT S).1 → I2 39 0 j = I 39 0 j) → (∀ j, j < k → I2 39 0 ((sT S).1 + j) = fdB x y z j &&& nI 255 ∧ -128 ≤ (fdB x y z j).toInt ∧ (fdB x y z j).toInt ≤ 127) → AWq l E d M_Mo_feed Z 18 [some (vr 9 0), some (vi x), some (vi y), some (vi z), some (vi (nI k)), none] [] I2 L R Z Q) (N := 12) (fun k hk ih I2 e2 e9 h16 hlo hnw => ?_) 0 (Nat.zero_le _) I (fun _ _ _ _ => rfl) (fun _ _ => rfl) m3.1 (fun _ _ => rfl) (fun j hj => absurd hj (Nat.not_lt_zero j))
    refine aw_iload e_Mo_feed_18 rfl ?_
    refine aw_bipush (v := nI 12) e_Mo_feed_20 (by decide) ?_
    refine awN_icmp_ge e_Mo_feed_22 (by omega) (by omega) (fun h22 => ?_) (fun h22 => ?_)
    · refine aw_aload_n e_Mo_feed_91 rfl ?_
      refine aw_getE e_Mo_feed_92 fl_Mo_229 h16 ?_
      obtain rfl : k = 12 := by omega
      have hms : MSt I2 (sM S, sG S, sK S, ((sT S).1 + 12, fdT (sT S).1 (sT S).2 x y z), S.2.2.2.2) := MSt_tape hM e2 ⟨e9 3 (by decide), e9 33 (by decide)⟩ h16 (fun j hj => by
        have hj2 : j < (sT S).1 + 12 := hj
        show _ = (if j < (sT S).1 then (sT S).2 j else fdB x y z (j - (sT S).1)) &&& nI 255 ∧ -128 ≤ (if j < (sT S).1 then (sT S).2 j else fdB x y z (j - (sT S).1)).toInt ∧ (if j < (sT S).1 then (sT S).2 j else fdB x y z (j - (sT S).1)).toInt ≤ 127
        by_cases c0 : j < (sT S).1
        · rw [if_pos c0, hlo j c0]; exact m3.2 j c0
        · rw [if_neg c0]
          have q := hnw (j - (sT S).1) (by omega)
          rw [show (sT S).1 + (j - (sT S).1) = j by omega] at q
          exact q)
      have hq := hQ I2 L
      unfold op_feed at hq
      rw [if_pos h9] at hq
      exact aw_iret e_Mo_feed_95 rfl rfl (hq hms (fun t i a b => e2 t i a (by omega)))
    · have k47 : AWq l E d M_Mo_feed Z 47 [some (vr 9 0), some (vi x), some (vi y), some (vi z), some (vi (nI k)), none] [vi (if k < 4 then x else if k < 8 then y else z)] I2 L R Z Q := by
        refine aw_ist5 e_Mo_feed_47 ?_
        refine aw_aload_n e_Mo_feed_49 rfl ?_
        refine aw_getR e_Mo_feed_50 fl_Mo_50 (hS.1 _ _ _ _ rfl) ?_
        refine aw_aload_n e_Mo_feed_53 rfl ?_
        refine aw_getE e_Mo_feed_54 fl_Mo_229 h16 ?_
        refine aw_iload e_Mo_feed_57 rfl ?_
        refine aw_bipush (v := nI 24) e_Mo_feed_59 (by decide) ?_
        refine aw_bipush (v := nI 8) e_Mo_feed_61 (by decide) ?_
        refine aw_iload e_Mo_feed_63 rfl ?_
        refine aw_iconst (v := nI 4) e_Mo_feed_65 (by decide) ?_
        refine awN_irem e_Mo_feed_66 (by omega) (by decide) (by decide) ?_
        refine aw_imul e_Mo_feed_67 ?_
        refine aw_isub e_Mo_feed_68 ?_
        rw [rem4 k h22]
        refine aw_ishr e_Mo_feed_69 ?_
        refine aw_sipush (v := nI 255) e_Mo_feed_70 (by decide) ?_
        refine aw_iand e_Mo_feed_73 ?_
        refine aw_iast e_Mo_feed_74 rfl (show _ < 96 by omega) (by omega) ?_
        refine aw_aload_n e_Mo_feed_75 rfl ?_
        refine aw_dup e_Mo_feed_76 rfl ?_
        refine aw_getE e_Mo_feed_77 fl_Mo_229 ((sI_n2 (by decide)).trans h16) ?_
        refine aw_iconst (v := nI 1) e_Mo_feed_80 (by decide) ?_
        first | refine awN_iadd e_Mo_feed_81 ?_ | refine aw_iadd e_Mo_feed_81 ?_
        refine aw_putI e_Mo_feed_82 fl_Mo_229 ?_
        refine aw_inc4 e_Mo_feed_85 (inc1 _) ?_
        refine aw_goto e_Mo_feed_88 ?_
        refine aw_drop 5 ?_
        refine ih h22 _ (fun t i h9 h39 => by rw [sI_n (by omega), sI_n (by omega)]; exact e2 t i h9 h39) (fun f hf => by rw [sI_ne hf, sI_n (by decide)]; exact e9 f hf) (sI_eq _ _ _ _ _) (fun j hj => by rw [sI_n (by decide), sI_ne (by omega)]; exact hlo j hj) (fun j hj => ?_)
        rw [sI_n (by decide)]
        by_cases e : j = k
        · rw [e, sI_eq]
          unfold fdB
          exact ⟨(and8 _).symm, rng8 _⟩
        · rw [sI_ne (by omega)]; exact hnw j (by omega)
      refine aw_iload e_Mo_feed_25 rfl ?_
      refine aw_iconst (v := nI 4) e_Mo_feed_27 (by decide) ?_
      refine awN_icmp_ge e_Mo_feed_28 (by omega) (by omega) (fun h28 => ?_) (fun h28 => ?_)
      · refine aw_iload e_Mo_feed_35 rfl ?_
        refine aw_bipush (v := nI 8) e_Mo_feed_37 (by decide) ?_
        refine awN_icmp_ge e_Mo_feed_39 (by omega) (by omega) (fun h39 => ?_) (fun h39 => ?_)
        · refine aw_iload_n e_Mo_feed_46 rfl ?_
          first
            | (rw [if_pos h28] at k47; exact k47)
            | (rw [if_neg (by omega), if_pos h39] at k47; exact k47)
            | (rw [if_neg (by omega), if_neg (by omega)] at k47; exact k47)
        · refine aw_iload_n e_Mo_feed_42 rfl ?_
          refine aw_goto e_Mo_feed_43 ?_
          first
            | (rw [if_pos h28] at k47; exact k47)
            | (rw [if_neg (by omega), if_pos h39] at k47; exact k47)
            | (rw [if_neg (by omega), if_neg (by omega)] at k47; exact k47)
      · refine aw_iload_n e_Mo_feed_31 rfl ?_
        refine aw_goto e_Mo_feed_32 ?_
        first
          | (rw [if_pos h28] at k47; exact k47)
          | (rw [if_neg (by omega), if_pos h39] at k47; exact k47)
          | (rw [if_neg (by omega), if_neg (by omega)] at k47; exact k47)
  · refine aw_ldc (v := -1000000003) e_Mo_feed_12 kc_Mo_108 ?_
    have hq := hQ I L
    unfold op_feed at hq
    first
      | (rw [if_neg (by omega)] at hq; exact aw_iret e_Mo_feed_14 rfl rfl (hq hM fK_0))
theorem c_Mo_isName {l : Launch} {E : En} {d : Nat} {I : It} {L : Lt} {R : Rt} {Z : Zt} {Q : Qt} {K c : Nat} (hK : K < 24) (hc : c < 2147483648) (hQ : Q (some (vi (bI (c = 116 ∨ (if K < 12 then c = 104 else (c = 112 ∨ c = 102)))))) I L R Z) : AMet l E d M_Mo_isName [vi (nI K), vi (nI c)] I L R Z Q := by
  refine AMet.of mf_Mo_isName rfl (Nat.le_of_ble_eq_true rfl) ?_
  refine aw_iload_n e_Mo_isName_0 rfl ?_
  refine aw_bipush (v := nI 12) e_Mo_isName_1 (by decide) ?_
  refine awN_icmp_ge e_Mo_isName_3 (by omega) (by omega) (fun h3 => ?_) (fun h3 => ?_)
  · refine aw_iload_n e_Mo_isName_26 rfl ?_
    refine aw_bipush (v := nI 116) e_Mo_isName_27 (by decide) ?_
    refine awN_icmp_eq e_Mo_isName_29 (by omega) (by omega) (fun h29 => ?_) (fun h29 => ?_)
    · refine aw_iconst (v := nI 1) e_Mo_isName_44 (by decide) ?_
      refine aw_goto e_Mo_isName_45 ?_
      first
        | exact awB_1 e_Mo_isName_49 (by first | exact Or.inl h9 | exact Or.inl h29 | (refine Or.inr ?_; first | (rw [if_pos h3]; omega) | (rw [if_neg (by omega)]; omega))) hQ
        | (refine awB_0 e_Mo_isName_49 (fun z => ?_) hQ; first | (rw [if_pos h3] at z; omega) | (rw [if_neg (by omega)] at z; omega))
    · refine aw_iload_n e_Mo_isName_32 rfl ?_
      refine aw_bipush (v := nI 112) e_Mo_isName_33 (by decide) ?_
      refine awN_icmp_eq e_Mo_isName_35 (by omega) (by omega) (fun h35 => ?_) (fun h35 => ?_)
      · refine aw_iconst (v := nI 1) e_Mo_isName_44 (by decide) ?_
        refine aw_goto e_Mo_isName_45 ?_
        first
          | exact awB_1 e_Mo_isName_49 (by first | exact Or.inl h9 | exact Or.inl h29 | (refine Or.inr ?_; first | (rw [if_pos h3]; omega) | (rw [if_neg (by omega)]; omega))) hQ
          | (refine awB_0 e_Mo_isName_49 (fun z => ?_) hQ; first | (rw [if_pos h3] at z; omega) | (rw [if_neg (by omega)] at z; omega))
      · refine aw_iload_n e_Mo_isName_38 rfl ?_
        refine aw_bipush (v := nI 102) e_Mo_isName_39 (by decide) ?_
        refine awN_icmp_ne e_Mo_isName_41 (by omega) (by omega) (fun h41 => ?_) (fun h41 => ?_)
        · refine aw_iconst (v := nI 0) e_Mo_isName_48 (by decide) ?_
          first
            | exact awB_1 e_Mo_isName_49 (by first | exact Or.inl h9 | exact Or.inl h29 | (refine Or.inr ?_; first | (rw [if_pos h3]; omega) | (rw [if_neg (by omega)]; omega))) hQ
            | (refine awB_0 e_Mo_isName_49 (fun z => ?_) hQ; first | (rw [if_pos h3] at z; omega) | (rw [if_neg (by omega)] at z; omega))
        · refine aw_iconst (v := nI 1) e_Mo_isName_44 (by decide) ?_
          refine aw_goto e_Mo_isName_45 ?_
          first
            | exact awB_1 e_Mo_isName_49 (by first | exact Or.inl h9 | exact Or.inl h29 | (refine Or.inr ?_; first | (rw [if_pos h3]; omega) | (rw [if_neg (by omega)]; omega))) hQ
            | (refine awB_0 e_Mo_isName_49 (fun z => ?_) hQ; first | (rw [if_pos h3] at z; omega) | (rw [if_neg (by omega)] at z; omega))
  · refine aw_iload_n e_Mo_isName_6 rfl ?_
    refine aw_bipush (v := nI 116) e_Mo_isName_7 (by decide) ?_
    refine awN_icmp_eq e_Mo_isName_9 (by omega) (by omega) (fun h9 => ?_) (fun h9 => ?_)
    · refine aw_iconst (v := nI 1) e_Mo_isName_18 (by decide) ?_
      refine aw_goto e_Mo_isName_19 ?_
      first
        | exact awB_1 e_Mo_isName_49 (by first | exact Or.inl h9 | exact Or.inl h29 | (refine Or.inr ?_; first | (rw [if_pos h3]; omega) | (rw [if_neg (by omega)]; omega))) hQ
        | (refine awB_0 e_Mo_isName_49 (fun z => ?_) hQ; first | (rw [if_pos h3] at z; omega) | (rw [if_neg (by omega)] at z; omega))
    · refine aw_iload_n e_Mo_isName_12 rfl ?_
      refine aw_bipush (v := nI 104) e_Mo_isName_13 (by decide) ?_
      refine awN_icmp_ne e_Mo_isName_15 (by omega) (by omega) (fun h15 => ?_) (fun h15 => ?_)
      · refine aw_iconst (v := nI 0) e_Mo_isName_22 (by decide) ?_
        refine aw_goto e_Mo_isName_23 ?_
        first
          | exact awB_1 e_Mo_isName_49 (by first | exact Or.inl h9 | exact Or.inl h29 | (refine Or.inr ?_; first | (rw [if_pos h3]; omega) | (rw [if_neg (by omega)]; omega))) hQ
          | (refine awB_0 e_Mo_isName_49 (fun z => ?_) hQ; first | (rw [if_pos h3] at z; omega) | (rw [if_neg (by omega)] at z; omega))
      · refine aw_iconst (v := nI 1) e_Mo_isName_18 (by decide) ?_
        refine aw_goto e_Mo_isName_19 ?_
        first
          | exact awB_1 e_Mo_isName_49 (by first | exact Or.inl h9 | exact Or.inl h29 | (refine Or.inr ?_; first | (rw [if_pos h3]; omega) | (rw [if_neg (by omega)]; omega))) hQ
          | (refine awB_0 e_Mo_isName_49 (fun z => ?_) hQ; first | (rw [if_pos h3] at z; omega) | (rw [if_neg (by omega)] at z; omega))
