/-! ===== the model: its machine, small methods ===== -/
theorem sI_ne {I : It} {t i k : Nat} {x : Int32} {k2 : Nat} (h : ¬ k2 = k) : sI I t i k x t i k2 = I t i k2 := by unfold sI; rw [if_pos ⟨rfl, rfl⟩, if_neg h]
theorem sI_eq (I : It) (t i k : Nat) (x : Int32) : sI I t i k x t i k = x := by unfold sI; rw [if_pos ⟨rfl, rfl⟩, if_pos rfl]
theorem sL_ne {I : Lt} {t i k : Nat} {x : Int64} {k2 : Nat} (h : ¬ k2 = k) : sL I t i k x t i k2 = I t i k2 := by unfold sL; rw [if_pos ⟨rfl, rfl⟩, if_neg h]
theorem sL_eq (I : Lt) (t i k : Nat) (x : Int64) : sL I t i k x t i k = x := by unfold sL; rw [if_pos ⟨rfl, rfl⟩, if_pos rfl]
theorem lgc_T (x y : Int64) : (lg_cmp x y).toInt = if y.toInt < x.toInt then 1 else if x.toInt = y.toInt then 0 else -1 := by
  unfold lg_cmp
  by_cases h1 : x > y
  · rw [if_pos h1, if_pos (Int64.lt_iff_toInt_lt.mp h1)]; rfl
  · rw [if_neg h1, if_neg (fun q => h1 (Int64.lt_iff_toInt_lt.mpr q))]
    by_cases h2 : x = y
    · rw [if_pos h2, if_pos (by rw [h2])]; rfl
    · rw [if_neg h2, if_neg (fun q => h2 (Int64.toInt_inj.mp q))]; rfl
theorem lgc_lt {x y : Int64} : (lg_cmp x y).toInt < 0 ↔ x.toInt < y.toInt := by rw [lgc_T]; split <;> (try split) <;> omega
theorem lgc_gt {x y : Int64} : 0 < (lg_cmp x y).toInt ↔ y.toInt < x.toInt := by rw [lgc_T]; split <;> (try split) <;> omega
theorem lgc_z {x y : Int64} : (lg_cmp x y).toInt = 0 ↔ x.toInt = y.toInt := by rw [lgc_T]; split <;> (try split) <;> omega
/-- the text j of the model's row k -/
def MT (I : It) (k j : Nat) (v : TV) : Prop := I 28 k (100 + 200 * j) = nI (12 * v.1 + v.2.1) ∧ I 28 k (100 + 200 * j + 1) = nI v.2.2.1 ∧ I 28 k (100 + 200 * j + 2) = nI v.2.2.2.length ∧ ∀ i q, v.2.2.2[i]? = some q → I 28 k (100 + 200 * j + 4 + 2 * i) = nI q.1 ∧ I 28 k (100 + 200 * j + 4 + 2 * i + 1) = nI q.2
/-- the model's row k holds a machine -/
def MC (I : It) (k : Nat) (V : Mc) : Prop := (I 28 k 0 = nI (nP V) ∧ I 28 k 1 = nI (nB V) ∧ I 28 k 2 = nI (nX V) ∧ I 28 k 3 = nI (nS V)) ∧ (∀ p f, p < nP V → f < 5 → I 28 k (10 + 5 * p + f) = nI (pP V p f)) ∧ (∀ b, b < nB V → I 28 k (70 + 2 * b) = nI (bF V b)) ∧ (∀ b, b < nB V → I 28 k (70 + 2 * b + 1) = nI (bT V b)) ∧ ∀ j, j < nX V → MT I k j (tX V j)
theorem MC.pk {I : It} {k : Nat} {V : Mc} (h : MC I k V) {p : Nat} (hp : p < nP V) : I 28 k (10 + 5 * p) = nI (pP V p 0) := h.2.1 p 0 hp (by decide)
theorem MT.keep {I I2 : It} {k k2 j : Nat} {v : TV} (h : MT I k j v) (e : ∀ n, 100 + 200 * j ≤ n → n < 300 + 200 * j → I2 28 k2 n = I 28 k n) (hl : v.2.2.2.length ≤ 90) : MT I2 k2 j v := by
  obtain ⟨h1, h2, h3, h4⟩ := h
  refine ⟨by rw [e _ (by omega) (by omega)]; exact h1, by rw [e _ (by omega) (by omega)]; exact h2, by rw [e _ (by omega) (by omega)]; exact h3, fun i q hq => ?_⟩
  have hi := (List.getElem?_eq_some_iff.mp hq).1
  rw [e _ (by omega) (by omega), e _ (by omega) (by omega)]
  exact h4 i q hq
theorem MC.keep {I I2 : It} {k k2 : Nat} {V : Mc} (h : MC I k V) (e : I2 28 k2 = I 28 k) : MC I2 k2 V := by
  unfold MC MT at *
  rw [e]
  exact h
def MSh (I : It) (i : Nat) (v : ShV) : Prop := I 29 0 i = v.1 ∧ I 30 0 i = nI v.2.1 ∧ ∀ j, j < v.2.1 → I 31 0 (24 * i + j) = v.2.2 j
def MSl (I : It) (i : Nat) (v : SlV) : Prop := I 32 0 i = nI v.1 ∧ (v.1 = 3 → I 33 0 i = v.2.1) ∧ (v.1 = 1 → I 33 0 i = nI (v.2.2.1 0) ∧ I 34 0 i = nI (shW (v.2.2.1 2) (v.2.2.1 3))) ∧ (v.1 = 2 → I 35 0 i = nI v.2.2.2.2.1 ∧ ∀ j, j < v.2.2.2.2.1 → I 36 0 (24 * i + j) = v.2.2.2.2.2 j)
/-- all but the machine, as the model holds it -/
def MOt (I : It) (S : AS) : Prop := (sK S = 1 → MC I 1 (sG S)) ∧ I 9 0 3 = nI (sK S) ∧ (I 9 0 16 = nI (sT S).1 ∧ ∀ j, j < (sT S).1 → I 39 0 j = (sT S).2 j &&& nI 255 ∧ -128 ≤ ((sT S).2 j).toInt ∧ ((sT S).2 j).toInt ≤ 127) ∧ (∀ i, i < 4 → MSh I i (sH S i)) ∧ (∀ i, i < 5 → MSl I i (sL2 S i)) ∧ (I 9 0 33 = nI (sW S).1 ∧ ∀ j, j < (sW S).1 → I 45 0 j = (sW S).2 j)
def MSt (I : It) (S : AS) : Prop := MC I 0 (sM S) ∧ MOt I S
def ShW (v : ShV) : Prop := v.2.1 ≤ 24 ∧ (v.1 = -1 ∨ v.1 = nI 0 ∨ v.1 = nI 1 ∨ v.1 = nI 2) ∧ (v.1 = -1 → v.2.1 = 0)
def SlW (v : SlV) : Prop := v.1 < 4 ∧ (v.1 = 1 → v.2.2.1 0 < 6 ∧ v.2.2.1 1 < 2 ∧ (1 ≤ v.2.2.1 2 ∧ v.2.2.1 2 ≤ 9) ∧ (1 ≤ v.2.2.1 3 ∧ v.2.2.1 3 ≤ 9) ∧ v.2.2.1 4 < 1000003) ∧ (v.1 = 2 → ShW v.2.2.2 ∧ v.2.2.2.1 ≠ -1)
def AWF (S : AS) : Prop := WS (sM S) ∧ (sK S = 1 → WS (sG S)) ∧ sK S ≤ 1 ∧ (sT S).1 ≤ 96 ∧ (∀ i, i < 4 → ShW (sH S i)) ∧ (∀ i, i < 5 → SlW (sL2 S i)) ∧ (sW S).1 ≤ 60
theorem CS.awf {I : It} {R : Rt} {Z : Zt} {S : AS} (h : CS I R Z S) : AWF S := by
  obtain ⟨h1, h2, h3, h4, h5, h6, h7, h8, h9, h10, h11⟩ := h
  refine ⟨h3, fun z => (h4 z).2, h5.2, h6.2.1, fun i hi => ⟨(h7 i hi).2.2.1, (h7 i hi).2.2.2.1, (h7 i hi).2.2.2.2.1⟩, fun i hi => ?_, h9.2.1⟩
  have q := h8 i hi
  exact ⟨q.2.1, fun z => (q.2.2.2.1 z).2, fun z => ⟨⟨(q.2.2.2.2 z).1.2.2.1, (q.2.2.2.2 z).1.2.2.2.1, (q.2.2.2.2 z).1.2.2.2.2.1⟩, (q.2.2.2.2 z).2⟩⟩
/-- the component's cells stay -/
def fK (I I2 : It) : Prop := ∀ t i, t ≠ 9 → t < 28 → I2 t i = I t i
theorem fK_0 {I : It} : fK I I := fun _ _ _ _ => rfl
theorem CS.mo {I I2 : It} {R : Rt} {Z : Zt} {S : AS} (h : CS I R Z S) (hf : fK I I2) : CS I2 R Z S := h.keep (fun t i hti => hf t i (by unfold scr at hti; omega) (by unfold scr at hti; omega)) (fun _ _ _ => rfl) h.1 (CS_G h).1 (CS_G h).2
/-- the state but the machine stays -/
def fM (I I2 : It) : Prop := (∀ t i, t ≠ 9 → t ≠ 40 → t ≠ 41 → t ≠ 43 → t ≠ 44 → t ≠ 46 → ¬ (t = 28 ∧ i ≠ 1) → I2 t i = I t i) ∧ I2 9 0 3 = I 9 0 3 ∧ I2 9 0 16 = I 9 0 16 ∧ I2 9 0 33 = I 9 0 33
theorem fM_0 {I : It} : fM I I := ⟨fun _ _ _ _ _ _ _ _ _ => rfl, rfl, rfl, rfl⟩
theorem fM_t {I I2 I3 : It} (h : fM I I2) (h2 : fM I2 I3) : fM I I3 := ⟨fun t i a b c d e f g => (h2.1 t i a b c d e f g).trans (h.1 t i a b c d e f g), h2.2.1.trans h.2.1, h2.2.2.1.trans h.2.2.1, h2.2.2.2.trans h.2.2.2⟩
theorem fM_w {I I1 : It} {t i n : Nat} {x : Int32} (h : fM I I1) (hc : (t = 28 ∧ i ≠ 1) ∨ t = 40 ∨ t = 41 ∨ t = 43 ∨ t = 44 ∨ t = 46 ∨ (t = 9 ∧ i = 0 ∧ n ≠ 3 ∧ n ≠ 16 ∧ n ≠ 33)) : fM I (sI I1 t i n x) := by
  refine ⟨fun t2 i2 a b c d e f g => ?_, ?_, ?_, ?_⟩
  · rw [sI_n (by omega)]; exact h.1 t2 i2 a b c d e f g
  · by_cases q : t = 9 ∧ i = 0
    · obtain ⟨rfl, rfl⟩ := q
      rw [sI_ne (by omega)]; exact h.2.1
    · rw [sI_n (by omega)]; exact h.2.1
  · by_cases q : t = 9 ∧ i = 0
    · obtain ⟨rfl, rfl⟩ := q
      rw [sI_ne (by omega)]; exact h.2.2.1
    · rw [sI_n (by omega)]; exact h.2.2.1
  · by_cases q : t = 9 ∧ i = 0
    · obtain ⟨rfl, rfl⟩ := q
      rw [sI_ne (by omega)]; exact h.2.2.2
    · rw [sI_n (by omega)]; exact h.2.2.2
theorem fM.K {I I2 : It} (h : fM I I2) : fK I I2 := fun t i h1 h2 => h.1 t i h1 (by omega) (by omega) (by omega) (by omega) (by omega) (by omega)
theorem MOt.keep {I I2 : It} {S : AS} (h : MOt I S) (hf : fM I I2) : MOt I2 S := by
  obtain ⟨h1, h2, h3, h4, h5, h6⟩ := h
  have e : ∀ t i, t ≠ 9 → t ≠ 40 → t ≠ 41 → t ≠ 43 → t ≠ 44 → t ≠ 46 → ¬ (t = 28 ∧ i ≠ 1) → I2 t i = I t i := hf.1
  have e28 : I2 28 1 = I 28 1 := e 28 1 (by decide) (by decide) (by decide) (by decide) (by decide) (by decide) (by decide)
  have eo : ∀ t, 29 ≤ t → t < 40 → I2 t 0 = I t 0 := fun t a b => e t 0 (by omega) (by omega) (by omega) (by omega) (by omega) (by omega) (by omega)
  have e45 : I2 45 0 = I 45 0 := e 45 0 (by decide) (by decide) (by decide) (by decide) (by decide) (by decide) (by decide)
  refine ⟨fun z => (h1 z).keep e28, hf.2.1.trans h2, ⟨hf.2.2.1.trans h3.1, by rw [eo 39 (by decide) (by decide)]; exact h3.2⟩, fun i hi => ?_, fun i hi => ?_, ⟨hf.2.2.2.trans h6.1, by rw [e45]; exact h6.2⟩⟩
  · unfold MSh
    rw [eo 29 (by decide) (by decide), eo 30 (by decide) (by decide), eo 31 (by decide) (by decide)]
    exact h4 i hi
  · unfold MSl
    rw [eo 32 (by decide) (by decide), eo 33 (by decide) (by decide), eo 34 (by decide) (by decide), eo 35 (by decide) (by decide), eo 36 (by decide) (by decide)]
    exact h5 i hi
theorem MSt.mach {I I2 : It} {S : AS} {V : Mc} (h : MSt I S) (hf : fM I I2) (hV : MC I2 0 V) : MSt I2 (setM S V) := ⟨hV, (h.2.keep hf : MOt I2 S)⟩
theorem MSt.same {I I2 : It} {S : AS} (h : MSt I S) (hf : fM I I2) (e : I2 28 0 = I 28 0) : MSt I2 S := ⟨h.1.keep e, h.2.keep hf⟩
theorem c_Mo_isIn {l : Launch} {E : En} {d : Nat} {I : It} {L : Lt} {R : Rt} {Z : Zt} {Q : Qt} {x a b : Int64} (hQ : Q (some (vi (bI (a.toInt ≤ x.toInt ∧ x.toInt ≤ b.toInt)))) I L R Z) : AMet l E d M_Mo_isIn [vl x, vl a, vl b] I L R Z Q := by
  have g3 := @lgc_lt x a
  have g10 := @lgc_gt x b
  refine AMet.of mf_Mo_isIn rfl (Nat.le_of_ble_eq_true rfl) ?_
  refine aw_lload_n e_Mo_isIn_0 rfl ?_
  refine aw_lload_n e_Mo_isIn_1 rfl ?_
  refine aw_lcmp e_Mo_isIn_2 ?_
  refine awZ_if_lt e_Mo_isIn_3 (fun h3 => ?_) (fun h3 => ?_)
  · refine aw_iconst (v := nI 0) e_Mo_isIn_17 (by decide) ?_
    first
      | exact awB_1 e_Mo_isIn_18 ⟨by omega, by omega⟩ hQ
      | exact awB_0 e_Mo_isIn_18 (fun q => by omega) hQ
  · refine aw_lload_n e_Mo_isIn_6 rfl ?_
    refine aw_lload e_Mo_isIn_7 rfl ?_
    refine aw_lcmp e_Mo_isIn_9 ?_
    refine awZ_if_gt e_Mo_isIn_10 (fun h10 => ?_) (fun h10 => ?_)
    · refine aw_iconst (v := nI 0) e_Mo_isIn_17 (by decide) ?_
      first
        | exact awB_1 e_Mo_isIn_18 ⟨by omega, by omega⟩ hQ
        | exact awB_0 e_Mo_isIn_18 (fun q => by omega) hQ
    · refine aw_iconst (v := nI 1) e_Mo_isIn_13 (by decide) ?_
      refine aw_goto e_Mo_isIn_14 ?_
      first
        | exact awB_1 e_Mo_isIn_18 ⟨by omega, by omega⟩ hQ
        | exact awB_0 e_Mo_isIn_18 (fun q => by omega) hQ
theorem c_Mo_isInC {l : Launch} {E : En} {d : Nat} {I : It} {L : Lt} {R : Rt} {Z : Zt} {Q : Qt} {x : Int32} {a b : Nat} (ha : a < 9223372036854775808) (hb : b < 9223372036854775808) (hQ : Q (some (vi (bI ((a : Int) ≤ x.toInt ∧ x.toInt ≤ (b : Int))))) I L R Z) : AMet l E d M_Mo_isIn [vl x.toInt64, vl (lN a), vl (lN b)] I L R Z Q := by
  refine c_Mo_isIn ?_
  rw [bI_iff (e := (a : Int) ≤ x.toInt ∧ x.toInt ≤ (b : Int)) (by rw [Int32.toInt_toInt64, pk_lT ha, pk_lT hb])]
  exact hQ
theorem c_Mo_isInP {l : Launch} {E : En} {d : Nat} {I : It} {L : Lt} {R : Rt} {Z : Zt} {Q : Qt} {x : Int32} {n : Nat} (hn : n < 2147483648) (hQ : Q (some (vi (bI (inR x n)))) I L R Z) : AMet l E d M_Mo_isIn [vl x.toInt64, vl (lN 0), vl (pm n).toInt64] I L R Z Q := by
  refine c_Mo_isIn ?_
  rw [bI_iff (e := inR x n) (by rw [Int32.toInt_toInt64, Int32.toInt_toInt64, pk_lT (by decide), pm_T hn]; unfold inR; omega)]
  exact hQ
theorem c_Mo_orNone {l : Launch} {E : En} {d : Nat} {I : It} {L : Lt} {R : Rt} {Z : Zt} {Q : Qt} {x : Int32} (hQ : Q (some (vi (if x.toInt < 0 then -1000000005 else x))) I L R Z) : AMet l E d M_Mo_orNone [vi x] I L R Z Q := by
  refine AMet.of mf_Mo_orNone rfl (Nat.le_of_ble_eq_true rfl) ?_
  refine aw_iload_n e_Mo_orNone_0 rfl ?_
  refine awZ_if_ge e_Mo_orNone_1 (fun h1 => ?_) (fun h1 => ?_)
  · refine aw_iload_n e_Mo_orNone_9 rfl ?_
    first
      | (rw [if_neg (by omega)] at hQ; exact aw_iret e_Mo_orNone_10 rfl rfl hQ)
      | (rw [if_pos (by omega)] at hQ; exact aw_iret e_Mo_orNone_10 rfl rfl hQ)
  · refine aw_ldc (v := -1000000005) e_Mo_orNone_4 kc_Mo_74 ?_
    refine aw_goto e_Mo_orNone_6 ?_
    first
      | (rw [if_neg (by omega)] at hQ; exact aw_iret e_Mo_orNone_10 rfl rfl hQ)
      | (rw [if_pos (by omega)] at hQ; exact aw_iret e_Mo_orNone_10 rfl rfl hQ)
theorem c_Mo_becomes {l : Launch} {E : En} {d : Nat} {I : It} {L : Lt} {R : Rt} {Z : Zt} {Q : Qt} {n : Nat} {y v : Int32} (hS : Sta R) (hn : n < 3110) (hy : I 28 0 n = y) (hQ : Q (some (vi y)) (sI I 28 0 n v) L R Z) : AMet l E d M_Mo_becomes [vr 9 0, vi (nI n), vi v] I L R Z Q := by
  refine AMet.of mf_Mo_becomes rfl (Nat.le_of_ble_eq_true rfl) ?_
  refine aw_aload_n e_Mo_becomes_0 rfl ?_
  refine aw_getR e_Mo_becomes_1 fl_Mo_7 (hS.1 _ _ _ _ rfl) ?_
  refine aw_iload_n e_Mo_becomes_4 rfl ?_
  refine aw_ialE e_Mo_becomes_5 rfl (show _ < 3110 by omega) (by omega) hy ?_
  refine aw_ist3 e_Mo_becomes_6 ?_
  refine aw_aload_n e_Mo_becomes_7 rfl ?_
  refine aw_getR e_Mo_becomes_8 fl_Mo_7 (hS.1 _ _ _ _ rfl) ?_
  refine aw_iload_n e_Mo_becomes_11 rfl ?_
  refine aw_iload_n e_Mo_becomes_12 rfl ?_
  refine aw_iast e_Mo_becomes_13 rfl (show _ < 3110 by omega) (by omega) ?_
  refine aw_iload_n e_Mo_becomes_14 rfl ?_
  exact aw_iret e_Mo_becomes_15 rfl rfl hQ
theorem c_Mo_partAt {l : Launch} {E : En} {d : Nat} {I : It} {L : Lt} {R : Rt} {Z : Zt} {Q : Qt} {p : Nat} (hQ : Q (some (vi (nI (10 + 5 * p)))) I L R Z) : AMet l E d M_Mo_partAt [vr 9 0, vi (nI p)] I L R Z Q := by
  refine AMet.of mf_Mo_partAt rfl (Nat.le_of_ble_eq_true rfl) ?_
  refine aw_bipush (v := nI 10) e_Mo_partAt_0 (by decide) ?_
  refine aw_iconst (v := nI 5) e_Mo_partAt_2 (by decide) ?_
  refine aw_iload_n e_Mo_partAt_3 rfl ?_
  first | refine awN_imul e_Mo_partAt_4 ?_ | refine aw_imul e_Mo_partAt_4 ?_
  first | refine awN_iadd e_Mo_partAt_5 ?_ | refine aw_iadd e_Mo_partAt_5 ?_
  exact aw_iret e_Mo_partAt_6 rfl rfl hQ
theorem c_Mo_textAt {l : Launch} {E : En} {d : Nat} {I : It} {L : Lt} {R : Rt} {Z : Zt} {Q : Qt} {p : Nat} (hQ : Q (some (vi (nI (100 + 200 * p)))) I L R Z) : AMet l E d M_Mo_textAt [vr 9 0, vi (nI p)] I L R Z Q := by
  refine AMet.of mf_Mo_textAt rfl (Nat.le_of_ble_eq_true rfl) ?_
  refine aw_bipush (v := nI 100) e_Mo_textAt_0 (by decide) ?_
  refine aw_sipush (v := nI 200) e_Mo_textAt_2 (by decide) ?_
  refine aw_iload_n e_Mo_textAt_5 rfl ?_
  first | refine awN_imul e_Mo_textAt_6 ?_ | refine aw_imul e_Mo_textAt_6 ?_
  first | refine awN_iadd e_Mo_textAt_7 ?_ | refine aw_iadd e_Mo_textAt_7 ?_
  exact aw_iret e_Mo_textAt_8 rfl rfl hQ
theorem c_Mo_isPart {l : Launch} {E : En} {d : Nat} {I : It} {L : Lt} {R : Rt} {Z : Zt} {Q : Qt} {V : Mc} (hS : Sta R) (hC : MC I 0 V) (hW : WF V) {x : Int32} (hQ : Q (some (vi (bI (inR x (nP V))))) I L R Z) : AMet l E (d + 1) M_Mo_isPart [vr 9 0, vi x] I L R Z Q := by
  have hnb := hW.1.2.1
  have hnp := hW.1.1
  have hnx := hW.1.2.2.1
  have hns := hW.1.2.2.2
  refine AMet.of mf_Mo_isPart rfl (Nat.le_of_ble_eq_true rfl) ?_
  refine aw_iload_n e_Mo_isPart_0 rfl ?_
  refine aw_i2l e_Mo_isPart_1 ?_
  refine aw_lconst (v := lN 0) e_Mo_isPart_2 rfl ?_
  refine aw_aload_n e_Mo_isPart_3 rfl ?_
  refine aw_getR e_Mo_isPart_4 fl_Mo_7 (hS.1 _ _ _ _ rfl) ?_
  refine aw_iconst (v := nI 0) e_Mo_isPart_7 (by decide) ?_
  refine aw_ialE e_Mo_isPart_8 rfl (show _ < 3110 by omega) (by omega) (by first | exact hC.1.1 | exact hC.1.2.1 | exact hC.1.2.2.1 | exact hC.1.2.2.2 | exact hC.pk (by omega) | exact hC.2.1 _ _ (by omega) (by decide) | exact hC.2.2.1 _ (by omega) | exact hC.2.2.2.1 _ (by omega)) ?_
  refine aw_iconst (v := nI 1) e_Mo_isPart_9 (by decide) ?_
  refine aw_isub e_Mo_isPart_10 ?_
  rw [pm_sub]
  refine aw_i2l e_Mo_isPart_11 ?_
  refine aw_cS3 e_Mo_isPart_12 ml_Mo_75 mf_Mo_isIn ms_Mo_isIn (c_Mo_isInP (by omega) ?_)
  exact awB_ret e_Mo_isPart_15 rfl hQ
theorem c_Mo_isBond {l : Launch} {E : En} {d : Nat} {I : It} {L : Lt} {R : Rt} {Z : Zt} {Q : Qt} {V : Mc} (hS : Sta R) (hC : MC I 0 V) (hW : WF V) {x : Int32} (hQ : Q (some (vi (bI (inR x (nB V))))) I L R Z) : AMet l E (d + 1) M_Mo_isBond [vr 9 0, vi x] I L R Z Q := by
  have hnb := hW.1.2.1
  have hnp := hW.1.1
  have hnx := hW.1.2.2.1
  have hns := hW.1.2.2.2
  refine AMet.of mf_Mo_isBond rfl (Nat.le_of_ble_eq_true rfl) ?_
  refine aw_iload_n e_Mo_isBond_0 rfl ?_
  refine aw_i2l e_Mo_isBond_1 ?_
  refine aw_lconst (v := lN 0) e_Mo_isBond_2 rfl ?_
  refine aw_aload_n e_Mo_isBond_3 rfl ?_
  refine aw_getR e_Mo_isBond_4 fl_Mo_7 (hS.1 _ _ _ _ rfl) ?_
  refine aw_iconst (v := nI 1) e_Mo_isBond_7 (by decide) ?_
  refine aw_ialE e_Mo_isBond_8 rfl (show _ < 3110 by omega) (by omega) (by first | exact hC.1.1 | exact hC.1.2.1 | exact hC.1.2.2.1 | exact hC.1.2.2.2 | exact hC.pk (by omega) | exact hC.2.1 _ _ (by omega) (by decide) | exact hC.2.2.1 _ (by omega) | exact hC.2.2.2.1 _ (by omega)) ?_
  refine aw_iconst (v := nI 1) e_Mo_isBond_9 (by decide) ?_
  refine aw_isub e_Mo_isBond_10 ?_
  rw [pm_sub]
  refine aw_i2l e_Mo_isBond_11 ?_
  refine aw_cS3 e_Mo_isBond_12 ml_Mo_75 mf_Mo_isIn ms_Mo_isIn (c_Mo_isInP (by omega) ?_)
  exact awB_ret e_Mo_isBond_15 rfl hQ
theorem c_Mo_isText {l : Launch} {E : En} {d : Nat} {I : It} {L : Lt} {R : Rt} {Z : Zt} {Q : Qt} {V : Mc} (hS : Sta R) (hC : MC I 0 V) (hW : WF V) {x : Int32} (hQ : Q (some (vi (bI (inR x (nX V))))) I L R Z) : AMet l E (d + 1) M_Mo_isText [vr 9 0, vi x] I L R Z Q := by
  have hnb := hW.1.2.1
  have hnp := hW.1.1
  have hnx := hW.1.2.2.1
  have hns := hW.1.2.2.2
  refine AMet.of mf_Mo_isText rfl (Nat.le_of_ble_eq_true rfl) ?_
  refine aw_iload_n e_Mo_isText_0 rfl ?_
  refine aw_i2l e_Mo_isText_1 ?_
  refine aw_lconst (v := lN 0) e_Mo_isText_2 rfl ?_
  refine aw_aload_n e_Mo_isText_3 rfl ?_
  refine aw_getR e_Mo_isText_4 fl_Mo_7 (hS.1 _ _ _ _ rfl) ?_
  refine aw_iconst (v := nI 2) e_Mo_isText_7 (by decide) ?_
  refine aw_ialE e_Mo_isText_8 rfl (show _ < 3110 by omega) (by omega) (by first | exact hC.1.1 | exact hC.1.2.1 | exact hC.1.2.2.1 | exact hC.1.2.2.2 | exact hC.pk (by omega) | exact hC.2.1 _ _ (by omega) (by decide) | exact hC.2.2.1 _ (by omega) | exact hC.2.2.2.1 _ (by omega)) ?_
  refine aw_iconst (v := nI 1) e_Mo_isText_9 (by decide) ?_
  refine aw_isub e_Mo_isText_10 ?_
  rw [pm_sub]
  refine aw_i2l e_Mo_isText_11 ?_
  refine aw_cS3 e_Mo_isText_12 ml_Mo_75 mf_Mo_isIn ms_Mo_isIn (c_Mo_isInP (by omega) ?_)
  exact awB_ret e_Mo_isText_15 rfl hQ
theorem c_Mo_kindOf {l : Launch} {E : En} {d : Nat} {I : It} {L : Lt} {R : Rt} {Z : Zt} {Q : Qt} {V : Mc} (hS : Sta R) (hC : MC I 0 V) (hW : WF V) {p : Nat} (hp : p < nP V) (hQ : Q (some (vi (nI (pP V p 0)))) I L R Z) : AMet l E (d + 1) M_Mo_kindOf [vr 9 0, vi (nI p)] I L R Z Q := by
  have hnb := hW.1.2.1
  have hnp := hW.1.1
  have hnx := hW.1.2.2.1
  have hns := hW.1.2.2.2
  refine AMet.of mf_Mo_kindOf rfl (Nat.le_of_ble_eq_true rfl) ?_
  refine aw_aload_n e_Mo_kindOf_0 rfl ?_
  refine aw_getR e_Mo_kindOf_1 fl_Mo_7 (hS.1 _ _ _ _ rfl) ?_
  refine aw_aload_n e_Mo_kindOf_4 rfl ?_
  refine aw_iload_n e_Mo_kindOf_5 rfl ?_
  refine aw_cV1 e_Mo_kindOf_6 ml_Mo_79 mf_Mo_partAt mv_Mo_partAt (c_Mo_partAt ?_)
  refine aw_ialE e_Mo_kindOf_9 rfl (show _ < 3110 by omega) (by omega) (by first | exact hC.1.1 | exact hC.1.2.1 | exact hC.1.2.2.1 | exact hC.1.2.2.2 | exact hC.pk (by omega) | exact hC.2.1 _ _ (by omega) (by decide) | exact hC.2.2.1 _ (by omega) | exact hC.2.2.2.1 _ (by omega)) ?_
  exact aw_iret e_Mo_kindOf_10 rfl rfl hQ
theorem c_Mo_sortOf {l : Launch} {E : En} {d : Nat} {I : It} {L : Lt} {R : Rt} {Z : Zt} {Q : Qt} {V : Mc} (hS : Sta R) (hC : MC I 0 V) (hW : WF V) {p : Nat} (hp : p < nP V) (hQ : Q (some (vi (nI (pP V p 1)))) I L R Z) : AMet l E (d + 1) M_Mo_sortOf [vr 9 0, vi (nI p)] I L R Z Q := by
  have hnb := hW.1.2.1
  have hnp := hW.1.1
  have hnx := hW.1.2.2.1
  have hns := hW.1.2.2.2
  refine AMet.of mf_Mo_sortOf rfl (Nat.le_of_ble_eq_true rfl) ?_
  refine aw_aload_n e_Mo_sortOf_0 rfl ?_
  refine aw_getR e_Mo_sortOf_1 fl_Mo_7 (hS.1 _ _ _ _ rfl) ?_
  refine aw_aload_n e_Mo_sortOf_4 rfl ?_
  refine aw_iload_n e_Mo_sortOf_5 rfl ?_
  refine aw_cV1 e_Mo_sortOf_6 ml_Mo_79 mf_Mo_partAt mv_Mo_partAt (c_Mo_partAt ?_)
  refine aw_iconst (v := nI 1) e_Mo_sortOf_9 (by decide) ?_
  first | refine awN_iadd e_Mo_sortOf_10 ?_ | refine aw_iadd e_Mo_sortOf_10 ?_
  refine aw_ialE e_Mo_sortOf_11 rfl (show _ < 3110 by omega) (by omega) (by first | exact hC.1.1 | exact hC.1.2.1 | exact hC.1.2.2.1 | exact hC.1.2.2.2 | exact hC.pk (by omega) | exact hC.2.1 _ _ (by omega) (by decide) | exact hC.2.2.1 _ (by omega) | exact hC.2.2.2.1 _ (by omega)) ?_
  exact aw_iret e_Mo_sortOf_12 rfl rfl hQ
theorem c_Mo_worthOf {l : Launch} {E : En} {d : Nat} {I : It} {L : Lt} {R : Rt} {Z : Zt} {Q : Qt} {x : Int64} (hQ : Q (some (vl (lN (wof x.toInt)))) I L R Z) : AMet l E d M_Mo_worthOf [vl x] I L R Z Q := by
  have h0 : (lN 1000003).toInt = 1000003 := pk_lT (by decide)
  have hr := l_rem (x := x) (y := lN 1000003) (by rw [h0]; decide)
  rw [h0] at hr
  obtain ⟨t1, t2, t3, t4, t5⟩ := tdv x.toInt 1000003 (by decide)
  have hw := wof_tmod x.toInt
  have hwl := wof_lt x.toInt
  have g9 := @lgc_lt (x - x / lN 1000003 * lN 1000003) (lN 0)
  rw [hr, pk_lT (by decide)] at g9
  have ha : ∀ y : Int64, y.toInt = (wof x.toInt : Int) → Q (some (vl y)) I L R Z := fun y hy => by rw [show y = lN (wof x.toInt) from Int64.toInt_inj.mp (by rw [pk_lT (by omega)]; exact hy)]; exact hQ
  refine AMet.of mf_Mo_worthOf rfl (Nat.le_of_ble_eq_true rfl) ?_
  refine aw_lload_n e_Mo_worthOf_0 rfl ?_
  refine aw_ldc2 (v := lN 1000003) e_Mo_worthOf_1 kl_Mo_83 ?_
  refine aw_lrem e_Mo_worthOf_4 (by decide) ?_
  refine aw_lst2 e_Mo_worthOf_5 ?_
  refine aw_lload_n e_Mo_worthOf_6 rfl ?_
  refine aw_lconst (v := lN 0) e_Mo_worthOf_7 rfl ?_
  refine aw_lcmp e_Mo_worthOf_8 ?_
  refine awZ_if_ge e_Mo_worthOf_9 (fun h9 => ?_) (fun h9 => ?_)
  · refine aw_lload_n e_Mo_worthOf_20 rfl ?_
    refine aw_lret e_Mo_worthOf_21 rfl (ha _ ?_)
    first
      | (rw [if_neg (by omega)] at hw; rw [hr]; exact hw)
      | (rw [if_pos (by omega)] at hw; rw [Int64.toInt_add, hr, h0, bm64 (by omega) (by omega)]; exact hw)
  · refine aw_lload_n e_Mo_worthOf_12 rfl ?_
    refine aw_ldc2 (v := lN 1000003) e_Mo_worthOf_13 kl_Mo_83 ?_
    refine aw_ladd e_Mo_worthOf_16 ?_
    refine aw_goto e_Mo_worthOf_17 ?_
    refine aw_lret e_Mo_worthOf_21 rfl (ha _ ?_)
    first
      | (rw [if_neg (by omega)] at hw; rw [hr]; exact hw)
      | (rw [if_pos (by omega)] at hw; rw [Int64.toInt_add, hr, h0, bm64 (by omega) (by omega)]; exact hw)
section LLE
variable {l : Launch} {E : En} {d : Nat} {M : Mt} {Z0 : Zt} {pc pc2 tgt : Nat} {ls : List (Option AV)} {st : List AV} {I : It} {L : Lt} {R : Rt} {Z : Zt} {Q : Qt}
theorem awL_le {a b : Nat} {off : Int} (hd : Db M pc (.ifCond .le off) off tgt pc2) (ha : a < 9223372036854775808) (hb : b < 9223372036854775808) (kt : a ≤ b → AWq l E d M Z0 tgt ls st I L R Z Q) (kf : ¬ a ≤ b → AWq l E d M Z0 pc2 ls st I L R Z Q) : AWq l E d M Z0 pc ls (vi (lg_cmp (lN a) (lN b)) :: st) I L R Z Q := by
  have g := @lgc_gt (lN a) (lN b)
  rw [pk_lT ha, pk_lT hb] at g
  exact awZ_if_le hd (fun h => kt (by omega)) (fun h => kf (by omega))
end LLE
theorem c_Mo_over {l : Launch} {E : En} {d : Nat} {I : It} {L : Lt} {R : Rt} {Z : Zt} {Q : Qt} {w : Nat} (hw : w < 1000003) (hQ : Q (some (vl (lN (ivP w)))) I L R Z) : AMet l E d M_Mo_over [vl (lN w)] I L R Z Q := by
  refine AMet.of mf_Mo_over rfl (Nat.le_of_ble_eq_true rfl) ?_
  refine aw_lconst (v := lN 1) e_Mo_over_0 rfl ?_
  refine aw_lst2 e_Mo_over_1 ?_
  refine aw_lload_n e_Mo_over_2 rfl ?_
  refine aw_lst4 e_Mo_over_3 ?_
  refine aw_ldc2 (v := lN 1000001) e_Mo_over_5 kl_Mo_85 ?_
  refine aw_lst6 e_Mo_over_8 ?_
  refine str_loop (P := fun e => ∀ r q, e < 2000000 → r < 1000003 → q < 1000003 → r * q ^ e % 1000003 = ivP w → AWq l E d M_Mo_over Z 10 [some (vl (lN w)), none, some (vl (lN r)), none, some (vl (lN q)), none, some (vl (lN e)), none] [] I L R Z Q) (fun e ih r q he hr hq hv => ?_) 1000001 1 w (by decide) (by decide) hw (by unfold ivP; rw [Nat.one_mul])
  refine aw_lload e_Mo_over_10 rfl ?_
  refine aw_lconst (v := lN 0) e_Mo_over_12 rfl ?_
  refine aw_lcmp e_Mo_over_13 ?_
  refine awL_le e_Mo_over_14 (by omega) (by decide) (fun h14 => ?_) (fun h14 => ?_)
  · refine aw_lload_n e_Mo_over_63 rfl ?_
    exact aw_lret e_Mo_over_64 rfl (by rw [show r = ivP w by rw [← hv, show e = 0 by omega, Nat.pow_zero, Nat.mul_one, Nat.mod_eq_of_lt hr]]; exact hQ)
  · refine aw_lload e_Mo_over_17 rfl ?_
    refine aw_ldc2 (v := lN 2) e_Mo_over_19 kl_Mo_87 ?_
    refine awN_lrem e_Mo_over_22 (by omega) (by omega) (by omega) ?_
    refine aw_lconst (v := lN 1) e_Mo_over_23 rfl ?_
    refine aw_lcmp e_Mo_over_24 ?_
    refine awL_ne e_Mo_over_25 (by omega) (by decide) (fun h25 => ?_) (fun h25 => ?_)
    · refine aw_lload_n e_Mo_over_39 rfl ?_
      refine aw_lst2 e_Mo_over_40 ?_
      refine aw_lload e_Mo_over_41 rfl ?_
      refine aw_lload e_Mo_over_43 rfl ?_
      refine awN_lmul e_Mo_over_45 ?_
      have hm2 := mulP hq hq
      refine aw_ldc2 (v := lN 1000003) e_Mo_over_46 kl_Mo_83 ?_
      refine awN_lrem e_Mo_over_49 (by omega) (by omega) (by omega) ?_
      refine aw_lst4 e_Mo_over_50 ?_
      refine aw_lload e_Mo_over_52 rfl ?_
      refine aw_ldc2 (v := lN 2) e_Mo_over_54 kl_Mo_87 ?_
      refine awN_ldiv e_Mo_over_57 (by omega) (by omega) (by omega) ?_
      refine aw_lst6 e_Mo_over_58 ?_
      refine aw_goto e_Mo_over_60 ?_
      first
        | exact ih (e / 2) (by omega) _ _ (by omega) (modP _) (modP _) (iv_odd hv (by omega))
        | exact ih (e / 2) (by omega) _ _ (by omega) hr (modP _) (iv_even hv (by omega))
    · refine aw_lload_n e_Mo_over_28 rfl ?_
      refine aw_lload e_Mo_over_29 rfl ?_
      refine awN_lmul e_Mo_over_31 ?_
      have hm1 := mulP hr hq
      refine aw_ldc2 (v := lN 1000003) e_Mo_over_32 kl_Mo_83 ?_
      refine awN_lrem e_Mo_over_35 (by omega) (by omega) (by omega) ?_
      refine aw_goto e_Mo_over_36 ?_
      refine aw_lst2 e_Mo_over_40 ?_
      refine aw_lload e_Mo_over_41 rfl ?_
      refine aw_lload e_Mo_over_43 rfl ?_
      refine awN_lmul e_Mo_over_45 ?_
      have hm2 := mulP hq hq
      refine aw_ldc2 (v := lN 1000003) e_Mo_over_46 kl_Mo_83 ?_
      refine awN_lrem e_Mo_over_49 (by omega) (by omega) (by omega) ?_
      refine aw_lst4 e_Mo_over_50 ?_
      refine aw_lload e_Mo_over_52 rfl ?_
      refine aw_ldc2 (v := lN 2) e_Mo_over_54 kl_Mo_87 ?_
      refine awN_ldiv e_Mo_over_57 (by omega) (by omega) (by omega) ?_
      refine aw_lst6 e_Mo_over_58 ?_
      refine aw_goto e_Mo_over_60 ?_
      first
        | exact ih (e / 2) (by omega) _ _ (by omega) (modP _) (modP _) (iv_odd hv (by omega))
        | exact ih (e / 2) (by omega) _ _ (by omega) hr (modP _) (iv_even hv (by omega))
theorem c_Mo_isShare {l : Launch} {E : En} {d : Nat} {I : It} {L : Lt} {R : Rt} {Z : Zt} {Q : Qt} {x : Int32} (hQ : Q (some (vi (bI (isSh x)))) I L R Z) : AMet l E (d + 1) M_Mo_isShare [vi x] I L R Z Q := by
  refine AMet.of mf_Mo_isShare rfl (Nat.le_of_ble_eq_true rfl) ?_
  refine aw_iload_n e_Mo_isShare_0 rfl ?_
  refine aw_i2l e_Mo_isShare_1 ?_
  refine aw_ldc2 (v := lN 11) e_Mo_isShare_2 kl_Mo_98 ?_
  refine aw_ldc2 (v := lN 99) e_Mo_isShare_5 kl_Mo_100 ?_
  refine aw_cS3 e_Mo_isShare_8 ml_Mo_75 mf_Mo_isIn ms_Mo_isIn (c_Mo_isInC (by decide) (by decide) ?_)
  refine awB_eq e_Mo_isShare_11 (fun h11 => ?_) (fun h11 => ?_)
  · refine aw_iconst (v := nI 0) e_Mo_isShare_25 (by decide) ?_
    first
      | exact awB_1 e_Mo_isShare_26 (by unfold isSh; omega) hQ
      | exact awB_0 e_Mo_isShare_26 (by unfold isSh; omega) hQ
      | exact awB_0 e_Mo_isShare_26 (fun q => h11 ⟨q.1, q.2.1⟩) hQ
  · obtain ⟨n, hn, rfl⟩ := inR_nI (x := x) (n := 100) ⟨by omega, by omega⟩
    have hT := nT (n := n) (by omega)
    refine aw_iload_n e_Mo_isShare_14 rfl ?_
    refine aw_bipush (v := nI 10) e_Mo_isShare_15 (by decide) ?_
    refine awN_irem e_Mo_isShare_17 (by omega) (by omega) (by omega) ?_
    refine awN_if_le e_Mo_isShare_18 (by omega) (fun h18 => ?_) (fun h18 => ?_)
    · refine aw_iconst (v := nI 0) e_Mo_isShare_25 (by decide) ?_
      first
        | exact awB_1 e_Mo_isShare_26 (by unfold isSh; omega) hQ
        | exact awB_0 e_Mo_isShare_26 (by unfold isSh; omega) hQ
        | exact awB_0 e_Mo_isShare_26 (fun q => h11 ⟨q.1, q.2.1⟩) hQ
    · refine aw_iconst (v := nI 1) e_Mo_isShare_21 (by decide) ?_
      refine aw_goto e_Mo_isShare_22 ?_
      first
        | exact awB_1 e_Mo_isShare_26 (by unfold isSh; omega) hQ
        | exact awB_0 e_Mo_isShare_26 (by unfold isSh; omega) hQ
        | exact awB_0 e_Mo_isShare_26 (fun q => h11 ⟨q.1, q.2.1⟩) hQ
theorem c_Mo_shareOf {l : Launch} {E : En} {d : Nat} {I : It} {L : Lt} {R : Rt} {Z : Zt} {Q : Qt} {a b : Nat} (ha : a < 1000) (hb : b < 1000) (hQ : Q (some (vl (lN (shW a b)))) I L R Z) : AMet l E (d + 1) M_Mo_shareOf [vi (nI a), vi (nI b)] I L R Z Q := by
  have hm := mulP (show a < 1000003 by omega) (ivP_lt b)
  refine AMet.of mf_Mo_shareOf rfl (Nat.le_of_ble_eq_true rfl) ?_
  refine aw_iload_n e_Mo_shareOf_0 rfl ?_
  first | refine awN_i2l e_Mo_shareOf_1 (by omega) ?_ | refine aw_i2l e_Mo_shareOf_1 ?_
  refine aw_iload_n e_Mo_shareOf_2 rfl ?_
  first | refine awN_i2l e_Mo_shareOf_3 (by omega) ?_ | refine aw_i2l e_Mo_shareOf_3 ?_
  refine aw_cS1 e_Mo_shareOf_4 ml_Mo_95 mf_Mo_over ms_Mo_over (c_Mo_over (by omega) ?_)
  refine awN_lmul e_Mo_shareOf_7 ?_
  refine aw_ldc2 (v := lN 1000003) e_Mo_shareOf_8 kl_Mo_83 ?_
  refine awN_lrem e_Mo_shareOf_11 (by omega) (by omega) (by omega) ?_
  exact aw_lret e_Mo_shareOf_12 rfl hQ
def cmI (V : Mc) (b p : Nat) : Int32 := if bT V b = p then nI 1 else if bF V b = p then -1 else nI 0
theorem cmI_0 {V : Mc} {b p : Nat} : cmI V b p = 0 ↔ atB V p b = false := by
  unfold cmI
  by_cases h1 : bT V b = p
  · rw [if_pos h1, atB_T h1]; decide
  · rw [if_neg h1]
    by_cases h2 : bF V b = p
    · rw [if_pos h2, atB_F h2]; decide
    · rw [if_neg h2, atB_N h2 h1]; decide
theorem c_Mo_comes {l : Launch} {E : En} {d : Nat} {I : It} {L : Lt} {R : Rt} {Z : Zt} {Q : Qt} {V : Mc} (hS : Sta R) (hC : MC I 0 V) (hW : WF V) {b p : Nat} (hb : b < nB V) (hp : p < 2147483648) (hQ : Q (some (vi (cmI V b p))) I L R Z) : AMet l E d M_Mo_comes [vr 9 0, vi (nI b), vi (nI p)] I L R Z Q := by
  have hnb := hW.1.2.1
  have hnp := hW.1.1
  have hnx := hW.1.2.2.1
  have hns := hW.1.2.2.2
  have hbd := hW.2.2.1 b hb
  unfold cmI at hQ
  refine AMet.of mf_Mo_comes rfl (Nat.le_of_ble_eq_true rfl) ?_
  refine aw_aload_n e_Mo_comes_0 rfl ?_
  refine aw_getR e_Mo_comes_1 fl_Mo_7 (hS.1 _ _ _ _ rfl) ?_
  refine aw_bipush (v := nI 70) e_Mo_comes_4 (by decide) ?_
  refine aw_iconst (v := nI 2) e_Mo_comes_6 (by decide) ?_
  refine aw_iload_n e_Mo_comes_7 rfl ?_
  first | refine awN_imul e_Mo_comes_8 ?_ | refine aw_imul e_Mo_comes_8 ?_
  first | refine awN_iadd e_Mo_comes_9 ?_ | refine aw_iadd e_Mo_comes_9 ?_
  refine aw_iconst (v := nI 1) e_Mo_comes_10 (by decide) ?_
  first | refine awN_iadd e_Mo_comes_11 ?_ | refine aw_iadd e_Mo_comes_11 ?_
  refine aw_ialE e_Mo_comes_12 rfl (show _ < 3110 by omega) (by omega) (by first | exact hC.1.1 | exact hC.1.2.1 | exact hC.1.2.2.1 | exact hC.1.2.2.2 | exact hC.pk (by omega) | exact hC.2.1 _ _ (by omega) (by decide) | exact hC.2.2.1 _ (by omega) | exact hC.2.2.2.1 _ (by omega)) ?_
  refine aw_iload_n e_Mo_comes_13 rfl ?_
  refine awN_icmp_ne e_Mo_comes_14 (by omega) (by omega) (fun h14 => ?_) (fun h14 => ?_)
  · refine aw_aload_n e_Mo_comes_21 rfl ?_
    refine aw_getR e_Mo_comes_22 fl_Mo_7 (hS.1 _ _ _ _ rfl) ?_
    refine aw_bipush (v := nI 70) e_Mo_comes_25 (by decide) ?_
    refine aw_iconst (v := nI 2) e_Mo_comes_27 (by decide) ?_
    refine aw_iload_n e_Mo_comes_28 rfl ?_
    first | refine awN_imul e_Mo_comes_29 ?_ | refine aw_imul e_Mo_comes_29 ?_
    first | refine awN_iadd e_Mo_comes_30 ?_ | refine aw_iadd e_Mo_comes_30 ?_
    refine aw_ialE e_Mo_comes_31 rfl (show _ < 3110 by omega) (by omega) (by first | exact hC.1.1 | exact hC.1.2.1 | exact hC.1.2.2.1 | exact hC.1.2.2.2 | exact hC.pk (by omega) | exact hC.2.1 _ _ (by omega) (by decide) | exact hC.2.2.1 _ (by omega) | exact hC.2.2.2.1 _ (by omega)) ?_
    refine aw_iload_n e_Mo_comes_32 rfl ?_
    refine awN_icmp_ne e_Mo_comes_33 (by omega) (by omega) (fun h33 => ?_) (fun h33 => ?_)
    · refine aw_iconst (v := nI 0) e_Mo_comes_40 (by decide) ?_
      first
        | (rw [if_pos h14] at hQ; exact aw_iret e_Mo_comes_41 rfl rfl hQ)
        | (rw [if_neg h14, if_pos h33] at hQ; exact aw_iret e_Mo_comes_41 rfl rfl hQ)
        | (rw [if_neg h14, if_neg h33] at hQ; exact aw_iret e_Mo_comes_41 rfl rfl hQ)
    · refine aw_iconst (v := -1) e_Mo_comes_36 (by decide) ?_
      refine aw_goto e_Mo_comes_37 ?_
      first
        | (rw [if_pos h14] at hQ; exact aw_iret e_Mo_comes_41 rfl rfl hQ)
        | (rw [if_neg h14, if_pos h33] at hQ; exact aw_iret e_Mo_comes_41 rfl rfl hQ)
        | (rw [if_neg h14, if_neg h33] at hQ; exact aw_iret e_Mo_comes_41 rfl rfl hQ)
  · refine aw_iconst (v := nI 1) e_Mo_comes_17 (by decide) ?_
    refine aw_goto e_Mo_comes_18 ?_
    first
      | (rw [if_pos h14] at hQ; exact aw_iret e_Mo_comes_41 rfl rfl hQ)
      | (rw [if_neg h14, if_pos h33] at hQ; exact aw_iret e_Mo_comes_41 rfl rfl hQ)
      | (rw [if_neg h14, if_neg h33] at hQ; exact aw_iret e_Mo_comes_41 rfl rfl hQ)
theorem c_Mo_endsOf {l : Launch} {E : En} {d : Nat} {I : It} {L : Lt} {R : Rt} {Z : Zt} {Q : Qt} {V : Mc} (hS : Sta R) (hC : MC I 0 V) (hW : WF V) {p : Nat} (hp : p < 12) (hQ : Q (some (vi (nI (ends V p)))) I L R Z) : AMet l E (d + 1) M_Mo_endsOf [vr 9 0, vi (nI p)] I L R Z Q := by
  have hnb := hW.1.2.1
  have hnp := hW.1.1
  have hnx := hW.1.2.2.1
  have hns := hW.1.2.2.2
  refine AMet.of mf_Mo_endsOf rfl (Nat.le_of_ble_eq_true rfl) ?_
  refine aw_iconst (v := nI 0) e_Mo_endsOf_0 (by decide) ?_
  refine aw_ist2 e_Mo_endsOf_1 ?_
  refine aw_iconst (v := nI 0) e_Mo_endsOf_2 (by decide) ?_
  refine aw_ist3 e_Mo_endsOf_3 ?_
  refine up_loop (P := fun i => AWq l E (d + 1) M_Mo_endsOf Z 4 [some (vr 9 0), some (vi (nI p)), some (vi (nI (cnt (atB V p) i))), some (vi (nI i))] [] I L R Z Q) (N := nB V) (fun i hi ih => ?_) 0 (by omega)
  try dsimp only
  refine aw_iload_n e_Mo_endsOf_4 rfl ?_
  refine aw_aload_n e_Mo_endsOf_5 rfl ?_
  refine aw_getR e_Mo_endsOf_6 fl_Mo_7 (hS.1 _ _ _ _ rfl) ?_
  refine aw_iconst (v := nI 1) e_Mo_endsOf_9 (by decide) ?_
  refine aw_ialE e_Mo_endsOf_10 rfl (show _ < 3110 by omega) (by omega) (by first | exact hC.1.1 | exact hC.1.2.1 | exact hC.1.2.2.1 | exact hC.1.2.2.2 | exact hC.pk (by omega) | exact hC.2.1 _ _ (by omega) (by decide) | exact hC.2.2.1 _ (by omega) | exact hC.2.2.2.1 _ (by omega)) ?_
  refine awN_icmp_ge e_Mo_endsOf_11 (by omega) (by omega) (fun h11 => ?_) (fun h11 => ?_)
  · refine aw_iload_n e_Mo_endsOf_37 rfl ?_
    exact aw_iret e_Mo_endsOf_38 rfl rfl (by rw [show i = nB V by omega]; exact hQ)
  · refine aw_iload_n e_Mo_endsOf_14 rfl ?_
    refine aw_aload_n e_Mo_endsOf_15 rfl ?_
    refine aw_iload_n e_Mo_endsOf_16 rfl ?_
    refine aw_iload_n e_Mo_endsOf_17 rfl ?_
    refine aw_cV2 e_Mo_endsOf_18 ml_Mo_109 mf_Mo_comes mv_Mo_comes (c_Mo_comes hS hC hW h11 (by omega) ?_)
    refine aw_if_ne e_Mo_endsOf_21 (fun h21 => ?_) (fun h21 => ?_)
    · refine aw_iconst (v := nI 1) e_Mo_endsOf_28 (by decide) ?_
      first | refine awN_iadd e_Mo_endsOf_29 ?_ | refine aw_iadd e_Mo_endsOf_29 ?_
      first | rw [← cnt_t (P := atB V p) (n := i) (by cases q : atB V p i with | true => rfl | false => exact absurd (cmI_0.2 q) h21)] | rw [Nat.add_zero, ← cnt_f (P := atB V p) (n := i) (cmI_0.1 h21)]
      refine aw_ist2 e_Mo_endsOf_30 ?_
      refine aw_inc3 e_Mo_endsOf_31 (inc1 _) ?_
      refine aw_goto e_Mo_endsOf_34 ?_
      exact ih h11
    · refine aw_iconst (v := nI 0) e_Mo_endsOf_24 (by decide) ?_
      refine aw_goto e_Mo_endsOf_25 ?_
      first | refine awN_iadd e_Mo_endsOf_29 ?_ | refine aw_iadd e_Mo_endsOf_29 ?_
      first | rw [← cnt_t (P := atB V p) (n := i) (by cases q : atB V p i with | true => rfl | false => exact absurd (cmI_0.2 q) h21)] | rw [Nat.add_zero, ← cnt_f (P := atB V p) (n := i) (cmI_0.1 h21)]
      refine aw_ist2 e_Mo_endsOf_30 ?_
      refine aw_inc3 e_Mo_endsOf_31 (inc1 _) ?_
      refine aw_goto e_Mo_endsOf_34 ?_
      exact ih h11
theorem wantB_iff {kd n : Nat} : wantB kd n = true ↔ (kd = 5 ∧ 2 ≤ n ∧ n ≤ 12) ∨ (kd = 4 ∧ n = 2) ∨ (kd ≠ 5 ∧ kd ≠ 4 ∧ n = 1) := by
  unfold wantB
  by_cases h : kd = 5
  · rw [if_pos h, Bool.and_eq_true, decide_eq_true_eq, decide_eq_true_eq]; omega
  · rw [if_neg h, beq_iff_eq]
    by_cases h4 : kd = 4
    · rw [if_pos h4]; omega
    · rw [if_neg h4]; omega
theorem isOfN_iff {kd w : Nat} : isOfN kd w = true ↔ w = 0 ∨ kd = w ∨ (w = 2 ∧ kd = 3) ∨ (w = 4 ∧ kd = 5) := by
  unfold isOfN
  rw [Bool.or_eq_true, Bool.or_eq_true, Bool.or_eq_true, Bool.and_eq_true, Bool.and_eq_true, beq_iff_eq, beq_iff_eq, beq_iff_eq, beq_iff_eq, beq_iff_eq, beq_iff_eq]
  omega
theorem c_Mo_worthI {l : Launch} {E : En} {d : Nat} {I : It} {L : Lt} {R : Rt} {Z : Zt} {Q : Qt} {x : Int32} (hQ : Q (some (vl (lN (wof x.toInt)))) I L R Z) : AMet l E d M_Mo_worthOf [vl x.toInt64] I L R Z Q := by
  refine c_Mo_worthOf ?_
  rw [Int32.toInt_toInt64]
  exact hQ
theorem c_Mo_worthN {l : Launch} {E : En} {d : Nat} {I : It} {L : Lt} {R : Rt} {Z : Zt} {Q : Qt} {n : Nat} (hn : n < 9223372036854775808) (hQ : Q (some (vl (lN (n % 1000003)))) I L R Z) : AMet l E d M_Mo_worthOf [vl (lN n)] I L R Z Q := by
  refine c_Mo_worthOf ?_
  rw [pk_lT hn, wof_nat]
  exact hQ
theorem c_Mo_hasEnds {l : Launch} {E : En} {d : Nat} {I : It} {L : Lt} {R : Rt} {Z : Zt} {Q : Qt} {V : Mc} (hS : Sta R) (hC : MC I 0 V) (hW : WF V) {p : Nat} (hp : p < nP V) (hQ : Q (some (vi (bI (wantB (pP V p 0) (ends V p) = true)))) I L R Z) : AMet l E (d + 2) M_Mo_hasEnds [vr 9 0, vi (nI p)] I L R Z Q := by
  have hnb := hW.1.2.1
  have hnp := hW.1.1
  have hnx := hW.1.2.2.1
  have hns := hW.1.2.2.2
  have hel := ends_le (V := V) p
  have hv := hW.2.1 p hp
  refine AMet.of mf_Mo_hasEnds rfl (Nat.le_of_ble_eq_true rfl) ?_
  refine aw_aload_n e_Mo_hasEnds_0 rfl ?_
  refine aw_iload_n e_Mo_hasEnds_1 rfl ?_
  refine aw_cV1 e_Mo_hasEnds_2 ml_Mo_113 mf_Mo_endsOf mv_Mo_endsOf (c_Mo_endsOf hS hC hW (by omega) ?_)
  refine aw_ist2 e_Mo_hasEnds_5 ?_
  refine aw_aload_n e_Mo_hasEnds_6 rfl ?_
  refine aw_iload_n e_Mo_hasEnds_7 rfl ?_
  refine aw_cV1 e_Mo_hasEnds_8 ml_Mo_116 mf_Mo_kindOf mv_Mo_kindOf (c_Mo_kindOf hS hC hW hp ?_)
  refine aw_ist3 e_Mo_hasEnds_11 ?_
  refine aw_iload_n e_Mo_hasEnds_12 rfl ?_
  refine aw_iconst (v := nI 5) e_Mo_hasEnds_13 (by decide) ?_
  refine awN_icmp_ne e_Mo_hasEnds_14 (by omega) (by omega) (fun h14 => ?_) (fun h14 => ?_)
  · refine aw_iload_n e_Mo_hasEnds_30 rfl ?_
    refine aw_iconst (v := nI 4) e_Mo_hasEnds_31 (by decide) ?_
    refine awN_icmp_ne e_Mo_hasEnds_32 (by omega) (by omega) (fun h32 => ?_) (fun h32 => ?_)
    · refine aw_iload_n e_Mo_hasEnds_48 rfl ?_
      refine aw_iconst (v := nI 1) e_Mo_hasEnds_49 (by decide) ?_
      refine awN_icmp_ne e_Mo_hasEnds_50 (by omega) (by omega) (fun h50 => ?_) (fun h50 => ?_)
      · refine aw_iconst (v := nI 0) e_Mo_hasEnds_57 (by decide) ?_
        first
          | exact awB_1 e_Mo_hasEnds_58 (wantB_iff.2 (by omega)) hQ
          | exact awB_0 e_Mo_hasEnds_58 (fun q => by have q2 := wantB_iff.1 q; omega) hQ
      · refine aw_iconst (v := nI 1) e_Mo_hasEnds_53 (by decide) ?_
        refine aw_goto e_Mo_hasEnds_54 ?_
        first
          | exact awB_1 e_Mo_hasEnds_58 (wantB_iff.2 (by omega)) hQ
          | exact awB_0 e_Mo_hasEnds_58 (fun q => by have q2 := wantB_iff.1 q; omega) hQ
    · refine aw_iload_n e_Mo_hasEnds_35 rfl ?_
      refine aw_iconst (v := nI 2) e_Mo_hasEnds_36 (by decide) ?_
      refine awN_icmp_ne e_Mo_hasEnds_37 (by omega) (by omega) (fun h37 => ?_) (fun h37 => ?_)
      · refine aw_iconst (v := nI 0) e_Mo_hasEnds_44 (by decide) ?_
        refine aw_goto e_Mo_hasEnds_45 ?_
        first
          | exact awB_1 e_Mo_hasEnds_58 (wantB_iff.2 (by omega)) hQ
          | exact awB_0 e_Mo_hasEnds_58 (fun q => by have q2 := wantB_iff.1 q; omega) hQ
      · refine aw_iconst (v := nI 1) e_Mo_hasEnds_40 (by decide) ?_
        refine aw_goto e_Mo_hasEnds_41 ?_
        first
          | exact awB_1 e_Mo_hasEnds_58 (wantB_iff.2 (by omega)) hQ
          | exact awB_0 e_Mo_hasEnds_58 (fun q => by have q2 := wantB_iff.1 q; omega) hQ
  · refine aw_iload_n e_Mo_hasEnds_17 rfl ?_
    refine aw_iconst (v := nI 2) e_Mo_hasEnds_18 (by decide) ?_
    refine awN_icmp_lt e_Mo_hasEnds_19 (by omega) (by omega) (fun h19 => ?_) (fun h19 => ?_)
    · refine aw_iconst (v := nI 0) e_Mo_hasEnds_26 (by decide) ?_
      refine aw_goto e_Mo_hasEnds_27 ?_
      first
        | exact awB_1 e_Mo_hasEnds_58 (wantB_iff.2 (by omega)) hQ
        | exact awB_0 e_Mo_hasEnds_58 (fun q => by have q2 := wantB_iff.1 q; omega) hQ
    · refine aw_iconst (v := nI 1) e_Mo_hasEnds_22 (by decide) ?_
      refine aw_goto e_Mo_hasEnds_23 ?_
      first
        | exact awB_1 e_Mo_hasEnds_58 (wantB_iff.2 (by omega)) hQ
        | exact awB_0 e_Mo_hasEnds_58 (fun q => by have q2 := wantB_iff.1 q; omega) hQ
theorem allB_s {P : Nat → Bool} {n : Nat} : allB P (n + 1) = true ↔ allB P n = true ∧ P n = true := by
  show (allB P n && P n) = true ↔ _
  rw [Bool.and_eq_true]
theorem c_Mo_isWhole {l : Launch} {E : En} {d : Nat} {I : It} {L : Lt} {R : Rt} {Z : Zt} {Q : Qt} {V : Mc} (hS : Sta R) (hC : MC I 0 V) (hW : WF V) (hQ : Q (some (vi (bI (whole V = true)))) I L R Z) : AMet l E (d + 3) M_Mo_isWhole [vr 9 0] I L R Z Q := by
  have hnb := hW.1.2.1
  have hnp := hW.1.1
  have hnx := hW.1.2.2.1
  have hns := hW.1.2.2.2
  refine AMet.of mf_Mo_isWhole rfl (Nat.le_of_ble_eq_true rfl) ?_
  have k17 : ∀ i, i ≤ nP V → AWq l E (d + 3) M_Mo_isWhole Z 17 [some (vr 9 0), some (vi (bI (0 < nB V ∧ allB (fun p => wantB (pP V p 0) (ends V p)) i = true))), some (vi (nI i))] [] I L R Z Q := by
    refine up_loop (fun i hi ih => ?_)
    refine aw_iload_n e_Mo_isWhole_17 rfl ?_
    refine aw_aload_n e_Mo_isWhole_18 rfl ?_
    refine aw_getR e_Mo_isWhole_19 fl_Mo_7 (hS.1 _ _ _ _ rfl) ?_
    refine aw_iconst (v := nI 0) e_Mo_isWhole_22 (by decide) ?_
    refine aw_ialE e_Mo_isWhole_23 rfl (show _ < 3110 by omega) (by omega) (by first | exact hC.1.1 | exact hC.1.2.1 | exact hC.1.2.2.1 | exact hC.1.2.2.2 | exact hC.pk (by omega) | exact hC.2.1 _ _ (by omega) (by decide) | exact hC.2.2.1 _ (by omega) | exact hC.2.2.2.1 _ (by omega)) ?_
    refine awN_icmp_ge e_Mo_isWhole_24 (by omega) (by omega) (fun h24 => ?_) (fun h24 => ?_)
    · refine aw_iload_n e_Mo_isWhole_51 rfl ?_
      rw [show i = nP V by omega]
      refine awB_ret e_Mo_isWhole_52 rfl ?_
      rw [bI_iff (e := whole V = true) (by unfold whole; rw [Bool.and_eq_true, decide_eq_true_eq]; exact And.comm)]
      exact hQ
    · refine aw_iload_n e_Mo_isWhole_27 rfl ?_
      refine awB_eq e_Mo_isWhole_28 (fun h28 => ?_) (fun h28 => ?_)
      · refine aw_iconst (v := nI 0) e_Mo_isWhole_43 (by decide) ?_
        refine aw_ist1 e_Mo_isWhole_44 ?_
        refine aw_inc2 e_Mo_isWhole_45 (inc1 _) ?_
        refine aw_goto e_Mo_isWhole_48 ?_
        have h := ih h24
        first
          | (rw [bI_t (c := 0 < nB V ∧ allB (fun p => wantB (pP V p 0) (ends V p)) (i + 1) = true) ⟨h28.1, allB_s.2 ⟨h28.2, h36⟩⟩] at h; exact h)
          | (rw [bI_f (c := 0 < nB V ∧ allB (fun p => wantB (pP V p 0) (ends V p)) (i + 1) = true) (fun q => h36 (allB_s.1 q.2).2)] at h; exact h)
          | (rw [bI_f (c := 0 < nB V ∧ allB (fun p => wantB (pP V p 0) (ends V p)) (i + 1) = true) (fun q => h28 ⟨q.1, (allB_s.1 q.2).1⟩)] at h; exact h)
      · refine aw_aload_n e_Mo_isWhole_31 rfl ?_
        refine aw_iload_n e_Mo_isWhole_32 rfl ?_
        refine aw_cV1 e_Mo_isWhole_33 ml_Mo_119 mf_Mo_hasEnds mv_Mo_hasEnds (c_Mo_hasEnds hS hC hW h24 ?_)
        refine awB_eq e_Mo_isWhole_36 (fun h36 => ?_) (fun h36 => ?_)
        · refine aw_iconst (v := nI 0) e_Mo_isWhole_43 (by decide) ?_
          refine aw_ist1 e_Mo_isWhole_44 ?_
          refine aw_inc2 e_Mo_isWhole_45 (inc1 _) ?_
          refine aw_goto e_Mo_isWhole_48 ?_
          have h := ih h24
          first
            | (rw [bI_t (c := 0 < nB V ∧ allB (fun p => wantB (pP V p 0) (ends V p)) (i + 1) = true) ⟨h28.1, allB_s.2 ⟨h28.2, h36⟩⟩] at h; exact h)
            | (rw [bI_f (c := 0 < nB V ∧ allB (fun p => wantB (pP V p 0) (ends V p)) (i + 1) = true) (fun q => h36 (allB_s.1 q.2).2)] at h; exact h)
            | (rw [bI_f (c := 0 < nB V ∧ allB (fun p => wantB (pP V p 0) (ends V p)) (i + 1) = true) (fun q => h28 ⟨q.1, (allB_s.1 q.2).1⟩)] at h; exact h)
        · refine aw_iconst (v := nI 1) e_Mo_isWhole_39 (by decide) ?_
          refine aw_goto e_Mo_isWhole_40 ?_
          refine aw_ist1 e_Mo_isWhole_44 ?_
          refine aw_inc2 e_Mo_isWhole_45 (inc1 _) ?_
          refine aw_goto e_Mo_isWhole_48 ?_
          have h := ih h24
          first
            | (rw [bI_t (c := 0 < nB V ∧ allB (fun p => wantB (pP V p 0) (ends V p)) (i + 1) = true) ⟨h28.1, allB_s.2 ⟨h28.2, h36⟩⟩] at h; exact h)
            | (rw [bI_f (c := 0 < nB V ∧ allB (fun p => wantB (pP V p 0) (ends V p)) (i + 1) = true) (fun q => h36 (allB_s.1 q.2).2)] at h; exact h)
            | (rw [bI_f (c := 0 < nB V ∧ allB (fun p => wantB (pP V p 0) (ends V p)) (i + 1) = true) (fun q => h28 ⟨q.1, (allB_s.1 q.2).1⟩)] at h; exact h)
  refine aw_aload_n e_Mo_isWhole_0 rfl ?_
  refine aw_getR e_Mo_isWhole_1 fl_Mo_7 (hS.1 _ _ _ _ rfl) ?_
  refine aw_iconst (v := nI 1) e_Mo_isWhole_4 (by decide) ?_
  refine aw_ialE e_Mo_isWhole_5 rfl (show _ < 3110 by omega) (by omega) (by first | exact hC.1.1 | exact hC.1.2.1 | exact hC.1.2.2.1 | exact hC.1.2.2.2 | exact hC.pk (by omega) | exact hC.2.1 _ _ (by omega) (by decide) | exact hC.2.2.1 _ (by omega) | exact hC.2.2.2.1 _ (by omega)) ?_
  refine awN_if_le e_Mo_isWhole_6 (by omega) (fun h6 => ?_) (fun h6 => ?_)
  · refine aw_iconst (v := nI 0) e_Mo_isWhole_13 (by decide) ?_
    refine aw_ist1 e_Mo_isWhole_14 ?_
    refine aw_iconst (v := nI 0) e_Mo_isWhole_15 (by decide) ?_
    refine aw_ist2 e_Mo_isWhole_16 ?_
    have k0 := k17 0 (by omega)
    first
      | (rw [bI_t (c := 0 < nB V ∧ allB (fun p => wantB (pP V p 0) (ends V p)) 0 = true) ⟨h6, rfl⟩] at k0; exact k0)
      | (rw [bI_f (c := 0 < nB V ∧ allB (fun p => wantB (pP V p 0) (ends V p)) 0 = true) (fun q => by omega)] at k0; exact k0)
  · refine aw_iconst (v := nI 1) e_Mo_isWhole_9 (by decide) ?_
    refine aw_goto e_Mo_isWhole_10 ?_
    refine aw_ist1 e_Mo_isWhole_14 ?_
    refine aw_iconst (v := nI 0) e_Mo_isWhole_15 (by decide) ?_
    refine aw_ist2 e_Mo_isWhole_16 ?_
    have k0 := k17 0 (by omega)
    first
      | (rw [bI_t (c := 0 < nB V ∧ allB (fun p => wantB (pP V p 0) (ends V p)) 0 = true) ⟨h6, rfl⟩] at k0; exact k0)
      | (rw [bI_f (c := 0 < nB V ∧ allB (fun p => wantB (pP V p 0) (ends V p)) 0 = true) (fun q => by omega)] at k0; exact k0)
