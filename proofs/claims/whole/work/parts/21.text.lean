/-! ===== texts worked out ===== -/
def jn (c : Nat) (x y : Int32) : Int32 :=
  if c = 43 then x + y else if c = 45 then x - y else if c = 42 then x * y else if c = 47 then (if y.toInt = 0 then nI 0 else x / y)
  else if c = 60 then bI (x.toInt < y.toInt) else if c = 61 then bI (x.toInt = y.toInt) else if c = 62 then bI (y.toInt < x.toInt)
  else if c = 38 then bI (¬ x.toInt = 0 ∧ ¬ y.toInt = 0) else bI (¬ x.toInt = 0 ∨ ¬ y.toInt = 0)
def nt (x : Int32) : Int32 := bI (x.toInt = 0)
abbrev Sk : Type := (Nat → Int32) × Nat
def evs (nm : Nat → Int32) (q : Nat × Nat) (s : Sk) : Sk :=
  if q.1 = 0 then (upd s.1 s.2 (nI q.2), s.2 + 1)
  else if q.1 = 1 then (upd s.1 s.2 (nm q.2), s.2 + 1)
  else if q.2 = 33 then (upd s.1 (s.2 - 1) (nt (s.1 (s.2 - 1))), s.2)
  else (upd s.1 (s.2 - 2) (jn q.2 (s.1 (s.2 - 2)) (s.1 (s.2 - 1))), s.2 - 1)
def evl (nm : Nat → Int32) : List (Nat × Nat) → Sk → Sk
  | [], s => s
  | q :: t, s => evl nm t (evs nm q s)
def evT (nm : Nat → Int32) (c : List (Nat × Nat)) : Int32 := (evl nm c (fun _ => 0, 0)).1 0
theorem upd_agree {f g : Nat → Int32} {h k : Nat} {x : Int32} (ha : ∀ j, j < h → f j = g j) : ∀ j, j < h ∨ j = k → upd f k x j = upd g k x j := fun j hj => by
  unfold upd
  by_cases e : j = k
  · rw [if_pos e, if_pos e]
  · rw [if_neg e, if_neg e]
    exact ha j (hj.resolve_right e)
/-- what lies above the pile doesn't matter -/
theorem evl_agree (nm : Nat → Int32) : ∀ (c : List (Nat × Nat)) (f g : Nat → Int32) (h h2 : Nat), hgt c h = some h2 → (∀ j, j < h → f j = g j) → (evl nm c (f, h)).2 = h2 ∧ (evl nm c (g, h)).2 = h2 ∧ ∀ j, j < h2 → (evl nm c (f, h)).1 j = (evl nm c (g, h)).1 j
  | [], f, g, h, h2, he, ha => by
    cases he
    exact ⟨rfl, rfl, ha⟩
  | (a, v) :: t, f, g, h, h2, he, ha => by
    unfold hgt at he
    unfold evl evs
    dsimp only
    by_cases a0 : a = 0
    · rw [if_pos (by omega)] at he
      rw [if_pos a0, if_pos a0]
      exact evl_agree nm t _ _ _ _ he (fun j hj => upd_agree ha j (by omega))
    · rw [if_neg a0, if_neg a0]
      by_cases a1 : a = 1
      · rw [if_pos (by omega)] at he
        rw [if_pos a1, if_pos a1]
        exact evl_agree nm t _ _ _ _ he (fun j hj => upd_agree ha j (by omega))
      · rw [if_neg a1, if_neg a1]
        rw [if_neg (by omega)] at he
        by_cases v3 : v = 33
        · rw [if_pos v3] at he ⊢
          rw [if_pos v3]
          by_cases h1 : 1 ≤ h
          · rw [if_pos h1] at he
            rw [ha (h - 1) (by omega)]
            exact evl_agree nm t _ _ _ _ he (fun j hj => upd_agree ha j (by omega))
          · rw [if_neg h1] at he
            cases he
        · rw [if_neg v3] at he ⊢
          rw [if_neg v3]
          by_cases h1 : 2 ≤ h
          · rw [if_pos h1] at he
            rw [ha (h - 1) (by omega), ha (h - 2) (by omega)]
            exact evl_agree nm t _ _ _ _ he (fun j hj => upd_agree ha j (by omega))
          · rw [if_neg h1] at he
            cases he
theorem evT_any {nm : Nat → Int32} {c : List (Nat × Nat)} (f : Nat → Int32) (hc : hgt c 0 = some 1) : (evl nm c (f, 0)).2 = 1 ∧ (evl nm c (f, 0)).1 0 = evT nm c := by
  obtain ⟨h1, h2, h3⟩ := evl_agree nm c f (fun _ => 0) 0 1 hc (fun j hj => absurd hj (Nat.not_lt_zero j))
  exact ⟨h1, h3 0 (by decide)⟩
def pm (n : Nat) : Int32 := if n = 0 then -1 else nI (n - 1)
theorem pm_s (n : Nat) : pm (n + 1) = nI n := by unfold pm; rw [if_neg (by omega)]; rfl
theorem pm_sub {n : Nat} : nI n - nI 1 = pm n := by
  cases n with
  | zero => rfl
  | succ n => rw [pm_s]; exact nI_pred n
theorem pm_inc {n : Nat} : pm n + nI 1 = nI n := by
  cases n with
  | zero => rfl
  | succ n => rw [pm_s]; exact nI_1 n
theorem pm_dec {n : Nat} (h : 0 < n) : pm n + Int32.ofInt (-1) = pm (n - 1) := by
  cases n with
  | zero => omega
  | succ n =>
    rw [pm_s]
    cases n with
    | zero => rfl
    | succ n => rw [Nat.add_sub_cancel, pm_s]; exact pk_m1 n
theorem pm_T {n : Nat} (h : n < 2147483648) : (pm n).toInt = (n : Int) - 1 := by
  cases n with
  | zero => rfl
  | succ n => rw [pm_s, nT (by omega)]; omega
theorem neg_T {n : Nat} (h : n < 2147483648) : (- nI n).toInt = - (n : Int) := by
  rw [Int32.toInt_neg, nT h]
  exact bm32 (by omega) (by omega)
theorem neg_neg' (x : Int32) : - - x = x := Int32.neg_neg
theorem c_Tx_truth {l : Launch} {E : En} {d : Nat} {I : It} {L : Lt} {R : Rt} {Z : Zt} {Q : Qt} {b : Nat} (hb : b = 0 ∨ b = 1) (hQ : Q (some (vi (nI b))) I L R Z) : AMet l E d M_Tx_truth [vi (nI b)] I L R Z Q := by
  refine AMet.of mf_Tx_truth rfl (Nat.le_of_ble_eq_true rfl) ?_
  refine aw_iload_n e_Tx_truth_0 rfl ?_
  refine awN_if_eq e_Tx_truth_1 (by omega) (fun h1 => ?_) (fun h1 => ?_)
  · refine aw_iconst (v := nI 0) e_Tx_truth_8 (by decide) ?_
    first
      | exact aw_iret e_Tx_truth_9 rfl rfl (by rw [show b = 0 from h1] at hQ; exact hQ)
      | exact aw_iret e_Tx_truth_9 rfl rfl (by rw [show b = 1 by omega] at hQ; exact hQ)
  · refine aw_iconst (v := nI 1) e_Tx_truth_4 (by decide) ?_
    refine aw_goto e_Tx_truth_5 ?_
    first
      | exact aw_iret e_Tx_truth_9 rfl rfl (by rw [show b = 0 from h1] at hQ; exact hQ)
      | exact aw_iret e_Tx_truth_9 rfl rfl (by rw [show b = 1 by omega] at hQ; exact hQ)
theorem c_Tx_isOperand {l : Launch} {E : En} {d : Nat} {I : It} {L : Lt} {R : Rt} {Z : Zt} {Q : Qt} {x : Int32} (hQ : Q (some (vi (bI (x.toInt ≤ 0 ∨ (97 ≤ x.toInt ∧ x.toInt ≤ 122))))) I L R Z) : AMet l E d M_Tx_isOperand [vi x] I L R Z Q := by
  have t1 : (nI 97).toInt = 97 := nT (by decide)
  have t2 : (nI 122).toInt = 122 := nT (by decide)
  refine AMet.of mf_Tx_isOperand rfl (Nat.le_of_ble_eq_true rfl) ?_
  refine aw_iload_n e_Tx_isOperand_0 rfl ?_
  refine awZ_if_le e_Tx_isOperand_1 (fun h1 => ?_) (fun h1 => ?_)
  · refine aw_iconst (v := nI 1) e_Tx_isOperand_16 (by decide) ?_
    refine aw_goto e_Tx_isOperand_17 ?_
    first
      | exact awB_1 e_Tx_isOperand_21 (by omega) hQ
      | exact awB_0 e_Tx_isOperand_21 (by omega) hQ
  · refine aw_iload_n e_Tx_isOperand_4 rfl ?_
    refine aw_bipush (v := nI 97) e_Tx_isOperand_5 (by decide) ?_
    refine awZ_icmp_lt e_Tx_isOperand_7 (fun h7 => ?_) (fun h7 => ?_)
    · refine aw_iconst (v := nI 0) e_Tx_isOperand_20 (by decide) ?_
      first
        | exact awB_1 e_Tx_isOperand_21 (by omega) hQ
        | exact awB_0 e_Tx_isOperand_21 (by omega) hQ
    · refine aw_iload_n e_Tx_isOperand_10 rfl ?_
      refine aw_bipush (v := nI 122) e_Tx_isOperand_11 (by decide) ?_
      refine awZ_icmp_gt e_Tx_isOperand_13 (fun h13 => ?_) (fun h13 => ?_)
      · refine aw_iconst (v := nI 0) e_Tx_isOperand_20 (by decide) ?_
        first
          | exact awB_1 e_Tx_isOperand_21 (by omega) hQ
          | exact awB_0 e_Tx_isOperand_21 (by omega) hQ
      · refine aw_iconst (v := nI 1) e_Tx_isOperand_16 (by decide) ?_
        refine aw_goto e_Tx_isOperand_17 ?_
        first
          | exact awB_1 e_Tx_isOperand_21 (by omega) hQ
          | exact awB_0 e_Tx_isOperand_21 (by omega) hQ
theorem c_Tx_valueOf {l : Launch} {E : En} {d : Nat} {I : It} {L : Lt} {R : Rt} {Z : Zt} {Q : Qt} {x a b c : Int32} (hQ : Q (some (vi (if x.toInt ≤ 0 then -x else if x.toInt = 116 then a else if x.toInt = 102 then c else b))) I L R Z) : AMet l E d M_Tx_valueOf [vi x, vi a, vi b, vi c] I L R Z Q := by
  have t1 : (nI 116).toInt = 116 := nT (by decide)
  have t2 : (nI 102).toInt = 102 := nT (by decide)
  refine AMet.of mf_Tx_valueOf rfl (Nat.le_of_ble_eq_true rfl) ?_
  refine aw_iload_n e_Tx_valueOf_0 rfl ?_
  refine awZ_if_gt e_Tx_valueOf_1 (fun h1 => ?_) (fun h1 => ?_)
  · refine aw_iload_n e_Tx_valueOf_7 rfl ?_
    refine aw_bipush (v := nI 116) e_Tx_valueOf_8 (by decide) ?_
    refine awZ_icmp_ne e_Tx_valueOf_10 (fun h10 => ?_) (fun h10 => ?_)
    · refine aw_iload_n e_Tx_valueOf_15 rfl ?_
      refine aw_bipush (v := nI 102) e_Tx_valueOf_16 (by decide) ?_
      refine awZ_icmp_ne e_Tx_valueOf_18 (fun h18 => ?_) (fun h18 => ?_)
      · refine aw_iload_n e_Tx_valueOf_25 rfl ?_
        first
          | exact aw_iret e_Tx_valueOf_26 rfl rfl (by rw [if_neg (by omega), if_neg (by omega), if_pos (by omega)] at hQ; exact hQ)
          | exact aw_iret e_Tx_valueOf_26 rfl rfl (by rw [if_neg (by omega), if_neg (by omega), if_neg (by omega)] at hQ; exact hQ)
      · refine aw_iload_n e_Tx_valueOf_21 rfl ?_
        refine aw_goto e_Tx_valueOf_22 ?_
        first
          | exact aw_iret e_Tx_valueOf_26 rfl rfl (by rw [if_neg (by omega), if_neg (by omega), if_pos (by omega)] at hQ; exact hQ)
          | exact aw_iret e_Tx_valueOf_26 rfl rfl (by rw [if_neg (by omega), if_neg (by omega), if_neg (by omega)] at hQ; exact hQ)
    · refine aw_iload_n e_Tx_valueOf_13 rfl ?_
      exact aw_iret e_Tx_valueOf_14 rfl rfl (by rw [if_neg (by omega), if_pos (by omega)] at hQ; exact hQ)
  · refine aw_iload_n e_Tx_valueOf_4 rfl ?_
    refine aw_ineg e_Tx_valueOf_5 ?_
    exact aw_iret e_Tx_valueOf_6 rfl rfl (by rw [if_pos (by omega)] at hQ; exact hQ)
theorem c_Tx_join {l : Launch} {E : En} {d : Nat} {I : It} {L : Lt} {R : Rt} {Z : Zt} {Q : Qt} {c : Nat} {x y : Int32} (hc : c = 43 ∨ c = 45 ∨ c = 42 ∨ c = 47 ∨ c = 60 ∨ c = 61 ∨ c = 62 ∨ c = 38 ∨ c = 124) (hQ : Q (some (vi (jn c x y))) I L R Z) : AMet l E (d + 1) M_Tx_join [vi (nI c), vi x, vi y] I L R Z Q := by
  refine AMet.of mf_Tx_join rfl (Nat.le_of_ble_eq_true rfl) ?_
  refine aw_iload_n e_Tx_join_0 rfl ?_
  rcases hc with rfl | rfl | rfl | rfl | rfl | rfl | rfl | rfl | rfl
  · have hQ : Q (some (vi (x + y))) I L R Z := hQ
    refine aw_tsIn (off := 115) (tgt := 116) e_Tx_join_1 (by decide) (by decide) (by decide) (by decide) ?_
    refine aw_iload_n e_Tx_join_116 rfl ?_
    refine aw_iload_n e_Tx_join_117 rfl ?_
    refine aw_iadd e_Tx_join_118 ?_
    exact aw_iret e_Tx_join_119 rfl rfl hQ
  · have hQ : Q (some (vi (x - y))) I L R Z := hQ
    refine aw_tsIn (off := 119) (tgt := 120) e_Tx_join_1 (by decide) (by decide) (by decide) (by decide) ?_
    refine aw_iload_n e_Tx_join_120 rfl ?_
    refine aw_iload_n e_Tx_join_121 rfl ?_
    refine aw_isub e_Tx_join_122 ?_
    exact aw_iret e_Tx_join_123 rfl rfl hQ
  · have hQ : Q (some (vi (x * y))) I L R Z := hQ
    refine aw_tsIn (off := 123) (tgt := 124) e_Tx_join_1 (by decide) (by decide) (by decide) (by decide) ?_
    refine aw_iload_n e_Tx_join_124 rfl ?_
    refine aw_iload_n e_Tx_join_125 rfl ?_
    refine aw_imul e_Tx_join_126 ?_
    exact aw_iret e_Tx_join_127 rfl rfl hQ
  · have hQ : Q (some (vi (jn 47 x y))) I L R Z := hQ
    refine aw_tsIn (off := 127) (tgt := 128) e_Tx_join_1 (by decide) (by decide) (by decide) (by decide) ?_
    refine aw_iload_n e_Tx_join_128 rfl ?_
    refine awZ_if_ne e_Tx_join_129 (fun h129 => ?_) (fun h129 => ?_)
    · refine aw_iload_n e_Tx_join_136 rfl ?_
      refine aw_iload_n e_Tx_join_137 rfl ?_
      refine aw_idiv e_Tx_join_138 (fun q => h129 (by rw [q]; rfl)) ?_
      first
        | exact aw_iret e_Tx_join_139 rfl rfl (by have h : jn 47 x y = x / y := if_neg h129; rw [h] at hQ; exact hQ)
        | exact aw_iret e_Tx_join_139 rfl rfl (by have h : jn 47 x y = nI 0 := if_pos h129; rw [h] at hQ; exact hQ)
    · refine aw_iconst (v := nI 0) e_Tx_join_132 (by decide) ?_
      refine aw_goto e_Tx_join_133 ?_
      first
        | exact aw_iret e_Tx_join_139 rfl rfl (by have h : jn 47 x y = x / y := if_neg h129; rw [h] at hQ; exact hQ)
        | exact aw_iret e_Tx_join_139 rfl rfl (by have h : jn 47 x y = nI 0 := if_pos h129; rw [h] at hQ; exact hQ)
  · have hQ : Q (some (vi (bI (x.toInt < y.toInt)))) I L R Z := hQ
    refine aw_tsIn (off := 139) (tgt := 140) e_Tx_join_1 (by decide) (by decide) (by decide) (by decide) ?_
    refine aw_iload_n e_Tx_join_140 rfl ?_
    refine aw_iload_n e_Tx_join_141 rfl ?_
    refine awZ_icmp_ge e_Tx_join_142 (fun h142 => ?_) (fun h142 => ?_)
    · refine aw_iconst (v := nI 0) e_Tx_join_149 (by decide) ?_
      refine aw_cS1 e_Tx_join_150 ml_Tx_23 mf_Tx_truth ms_Tx_truth (c_Tx_truth (by decide) ?_)
      first
        | exact awB_1 e_Tx_join_153 (by omega) hQ
        | exact awB_0 e_Tx_join_153 (by omega) hQ
    · refine aw_iconst (v := nI 1) e_Tx_join_145 (by decide) ?_
      refine aw_goto e_Tx_join_146 ?_
      refine aw_cS1 e_Tx_join_150 ml_Tx_23 mf_Tx_truth ms_Tx_truth (c_Tx_truth (by decide) ?_)
      first
        | exact awB_1 e_Tx_join_153 (by omega) hQ
        | exact awB_0 e_Tx_join_153 (by omega) hQ
  · have hQ : Q (some (vi (bI (x.toInt = y.toInt)))) I L R Z := hQ
    refine aw_tsIn (off := 153) (tgt := 154) e_Tx_join_1 (by decide) (by decide) (by decide) (by decide) ?_
    refine aw_iload_n e_Tx_join_154 rfl ?_
    refine aw_iload_n e_Tx_join_155 rfl ?_
    refine awZ_icmp_ne e_Tx_join_156 (fun h156 => ?_) (fun h156 => ?_)
    · refine aw_iconst (v := nI 0) e_Tx_join_163 (by decide) ?_
      refine aw_cS1 e_Tx_join_164 ml_Tx_23 mf_Tx_truth ms_Tx_truth (c_Tx_truth (by decide) ?_)
      first
        | exact awB_1 e_Tx_join_167 (by omega) hQ
        | exact awB_0 e_Tx_join_167 (by omega) hQ
    · refine aw_iconst (v := nI 1) e_Tx_join_159 (by decide) ?_
      refine aw_goto e_Tx_join_160 ?_
      refine aw_cS1 e_Tx_join_164 ml_Tx_23 mf_Tx_truth ms_Tx_truth (c_Tx_truth (by decide) ?_)
      first
        | exact awB_1 e_Tx_join_167 (by omega) hQ
        | exact awB_0 e_Tx_join_167 (by omega) hQ
  · have hQ : Q (some (vi (bI (y.toInt < x.toInt)))) I L R Z := hQ
    refine aw_tsIn (off := 167) (tgt := 168) e_Tx_join_1 (by decide) (by decide) (by decide) (by decide) ?_
    refine aw_iload_n e_Tx_join_168 rfl ?_
    refine aw_iload_n e_Tx_join_169 rfl ?_
    refine awZ_icmp_le e_Tx_join_170 (fun h170 => ?_) (fun h170 => ?_)
    · refine aw_iconst (v := nI 0) e_Tx_join_177 (by decide) ?_
      refine aw_cS1 e_Tx_join_178 ml_Tx_23 mf_Tx_truth ms_Tx_truth (c_Tx_truth (by decide) ?_)
      first
        | exact awB_1 e_Tx_join_181 (by omega) hQ
        | exact awB_0 e_Tx_join_181 (by omega) hQ
    · refine aw_iconst (v := nI 1) e_Tx_join_173 (by decide) ?_
      refine aw_goto e_Tx_join_174 ?_
      refine aw_cS1 e_Tx_join_178 ml_Tx_23 mf_Tx_truth ms_Tx_truth (c_Tx_truth (by decide) ?_)
      first
        | exact awB_1 e_Tx_join_181 (by omega) hQ
        | exact awB_0 e_Tx_join_181 (by omega) hQ
  · have hQ : Q (some (vi (bI (¬ x.toInt = 0 ∧ ¬ y.toInt = 0)))) I L R Z := hQ
    refine aw_tsIn (off := 181) (tgt := 182) e_Tx_join_1 (by decide) (by decide) (by decide) (by decide) ?_
    refine aw_iload_n e_Tx_join_182 rfl ?_
    refine awZ_if_eq e_Tx_join_183 (fun h183 => ?_) (fun h183 => ?_)
    · refine aw_iconst (v := nI 0) e_Tx_join_194 (by decide) ?_
      refine aw_cS1 e_Tx_join_195 ml_Tx_23 mf_Tx_truth ms_Tx_truth (c_Tx_truth (by decide) ?_)
      first
        | exact awB_1 e_Tx_join_198 (by omega) hQ
        | exact awB_0 e_Tx_join_198 (by omega) hQ
    · refine aw_iload_n e_Tx_join_186 rfl ?_
      refine awZ_if_eq e_Tx_join_187 (fun h187 => ?_) (fun h187 => ?_)
      · refine aw_iconst (v := nI 0) e_Tx_join_194 (by decide) ?_
        refine aw_cS1 e_Tx_join_195 ml_Tx_23 mf_Tx_truth ms_Tx_truth (c_Tx_truth (by decide) ?_)
        first
          | exact awB_1 e_Tx_join_198 (by omega) hQ
          | exact awB_0 e_Tx_join_198 (by omega) hQ
      · refine aw_iconst (v := nI 1) e_Tx_join_190 (by decide) ?_
        refine aw_goto e_Tx_join_191 ?_
        refine aw_cS1 e_Tx_join_195 ml_Tx_23 mf_Tx_truth ms_Tx_truth (c_Tx_truth (by decide) ?_)
        first
          | exact awB_1 e_Tx_join_198 (by omega) hQ
          | exact awB_0 e_Tx_join_198 (by omega) hQ
  · have hQ : Q (some (vi (bI (¬ x.toInt = 0 ∨ ¬ y.toInt = 0)))) I L R Z := hQ
    refine aw_tsOut (tgt := 199) e_Tx_join_1 (Or.inr (by decide)) (by decide) ?_
    refine aw_iload_n e_Tx_join_199 rfl ?_
    refine awZ_if_ne e_Tx_join_200 (fun h200 => ?_) (fun h200 => ?_)
    · refine aw_iconst (v := nI 1) e_Tx_join_207 (by decide) ?_
      refine aw_goto e_Tx_join_208 ?_
      refine aw_cS1 e_Tx_join_212 ml_Tx_23 mf_Tx_truth ms_Tx_truth (c_Tx_truth (by decide) ?_)
      first
        | exact awB_1 e_Tx_join_215 (by omega) hQ
        | exact awB_0 e_Tx_join_215 (by omega) hQ
    · refine aw_iload_n e_Tx_join_203 rfl ?_
      refine awZ_if_eq e_Tx_join_204 (fun h204 => ?_) (fun h204 => ?_)
      · refine aw_iconst (v := nI 0) e_Tx_join_211 (by decide) ?_
        refine aw_cS1 e_Tx_join_212 ml_Tx_23 mf_Tx_truth ms_Tx_truth (c_Tx_truth (by decide) ?_)
        first
          | exact awB_1 e_Tx_join_215 (by omega) hQ
          | exact awB_0 e_Tx_join_215 (by omega) hQ
      · refine aw_iconst (v := nI 1) e_Tx_join_207 (by decide) ?_
        refine aw_goto e_Tx_join_208 ?_
        refine aw_cS1 e_Tx_join_212 ml_Tx_23 mf_Tx_truth ms_Tx_truth (c_Tx_truth (by decide) ?_)
        first
          | exact awB_1 e_Tx_join_215 (by omega) hQ
          | exact awB_0 e_Tx_join_215 (by omega) hQ

def nmC (s a b : Int32) (v : Nat) : Int32 := if v = 116 then s else if v = 102 then b else a
theorem evl_take (nm : Nat → Int32) : ∀ (c : List (Nat × Nat)) (i : Nat) (q : Nat × Nat) (s : Sk), c[i]? = some q → evl nm (c.take (i + 1)) s = evs nm q (evl nm (c.take i) s)
  | [], i, q, s, h => by simp at h
  | r :: t, 0, q, s, h => by
    have e : r = q := by simpa using h
    subst e
    rfl
  | r :: t, i + 1, q, s, h => by
    show evl nm (t.take (i + 1)) (evs nm r s) = evs nm q (evl nm (t.take i) (evs nm r s))
    exact evl_take nm t i q _ (by simpa using h)
theorem hgt_cons (a v h : Nat) (t : List (Nat × Nat)) : hgt ((a, v) :: t) h = if a < 2 then hgt t (h + 1) else if v = 33 then (if 1 ≤ h then hgt t h else none) else (if 2 ≤ h then hgt t (h - 1) else none) := rfl
theorem hgt_take : ∀ (c : List (Nat × Nat)) (i h h2 : Nat), hgt c h = some h2 → ∃ h3, hgt (c.take i) h = some h3 ∧ hgt (c.drop i) h3 = some h2
  | c, 0, h, h2, he => ⟨h, rfl, he⟩
  | [], i + 1, h, h2, he => ⟨h2, he, by cases he; rfl⟩
  | (a, v) :: t, i + 1, h, h2, he => by
    rw [hgt_cons] at he
    show ∃ h3, hgt ((a, v) :: t.take i) h = some h3 ∧ hgt (t.drop i) h3 = some h2
    rw [hgt_cons]
    by_cases c1 : a < 2
    · rw [if_pos c1] at he ⊢
      exact hgt_take t i _ _ he
    · rw [if_neg c1] at he ⊢
      by_cases c2 : v = 33
      · rw [if_pos c2] at he ⊢
        by_cases c3 : 1 ≤ h
        · rw [if_pos c3] at he ⊢
          exact hgt_take t i _ _ he
        · rw [if_neg c3] at he
          cases he
      · rw [if_neg c2] at he ⊢
        by_cases c3 : 2 ≤ h
        · rw [if_pos c3] at he ⊢
          exact hgt_take t i _ _ he
        · rw [if_neg c3] at he
          cases he
theorem hgt_le : ∀ (c : List (Nat × Nat)) (h h2 : Nat), hgt c h = some h2 → h2 ≤ h + c.length
  | [], h, h2, he => by cases he; exact Nat.le_refl _
  | (a, v) :: t, h, h2, he => by
    unfold hgt at he
    rw [List.length_cons]
    split at he
    · have := hgt_le t _ _ he
      omega
    · split at he
      · split at he
        · have := hgt_le t _ _ he
          omega
        · cases he
      · split at he
        · have := hgt_le t _ _ he
          omega
        · cases he
theorem hgt_drop {c : List (Nat × Nat)} {i : Nat} {q : Nat × Nat} {h h2 : Nat} (hq : c[i]? = some q) (he : hgt (c.drop i) h = some h2) : hgt (q :: c.drop (i + 1)) h = some h2 := by
  have hl := (List.getElem?_eq_some_iff.mp hq).1
  rw [List.drop_eq_getElem_cons hl] at he
  have e : c[i] = q := (List.getElem?_eq_some_iff.mp hq).2
  rw [e] at he
  exact he
/-- a step that may be done -/
theorem hgt_st {a v h h2 : Nat} {t : List (Nat × Nat)} (he : hgt ((a, v) :: t) h = some h2) : a < 2 ∨ (v = 33 ∧ 1 ≤ h) ∨ (v ≠ 33 ∧ 2 ≤ h) := by
  unfold hgt at he
  split at he
  · left; assumption
  · split at he
    · split at he
      · right; left; constructor <;> assumption
      · cases he
    · split at he
      · right; right; constructor <;> assumption
      · cases he
theorem evl_ht (nm : Nat → Int32) {c : List (Nat × Nat)} {f : Nat → Int32} {h h2 : Nat} (he : hgt c h = some h2) : (evl nm c (f, h)).2 = h2 := (evl_agree nm c f f h h2 he (fun _ _ => rfl)).1
theorem okS {q : Nat × Nat} (h : okStep q = true) : (q.1 = 0 ∧ q.2 < 10000) ∨ (q.1 = 1 ∧ (q.2 = 116 ∨ q.2 = 104 ∨ q.2 = 112 ∨ q.2 = 102)) ∨ (q.1 = 2 ∧ (q.2 = 33 ∨ q.2 = 124 ∨ q.2 = 38 ∨ q.2 = 60 ∨ q.2 = 61 ∨ q.2 = 62 ∨ q.2 = 43 ∨ q.2 = 45 ∨ q.2 = 42 ∨ q.2 = 47)) := by
  unfold okStep at h
  simp only [Bool.or_eq_true, Bool.and_eq_true, beq_iff_eq, decide_eq_true_eq] at h
  omega
section MEM
variable {l : Launch} {E : En} {d : Nat} {M : Mt} {Z0 : Zt} {pc : Nat} {ls : List (Option AV)} {st : List AV} {I I2 : It} {L L2 : Lt} {R R2 : Rt} {Z : Zt} {Q : Qt}
theorem AWq.memI (e : I = I2) (k : AWq l E d M Z0 pc ls st I2 L R Z Q) : AWq l E d M Z0 pc ls st I L R Z Q := e ▸ k
theorem AWq.memL (e : L = L2) (k : AWq l E d M Z0 pc ls st I L2 R Z Q) : AWq l E d M Z0 pc ls st I L R Z Q := e ▸ k
theorem AWq.memR (e : R = R2) (k : AWq l E d M Z0 pc ls st I L R2 Z Q) : AWq l E d M Z0 pc ls st I L R Z Q := e ▸ k
/-- a local is forgotten -/
theorem aw_drop (j : Nat) (k : AWq l E d M Z0 pc (ls.set j none) st I L R Z Q) : AWq l E d M Z0 pc ls st I L R Z Q := by
  refine k.lift (fun v1 v2 => ⟨v1, vsetN v2⟩) (fun p e Rm s m args below meth c cells slots Qs F als H locs hl v1 hW hS kk => kk als ?_)
  refine ⟨⟨hl.1.1, hl.1.2.1, fun q hq => ?_⟩, by rw [List.length_set]; exact hl.2⟩
  obtain ⟨⟨i, w⟩, h3, rfl⟩ := List.mem_map.mp hq
  obtain ⟨i2, h4, h5⟩ := (lvP_mem _ 0 i).mp h3
  have h4 : i = i2 := by omega
  subst h4
  by_cases e9 : i = j
  · subst e9
    have hl2 := (List.getElem?_eq_some_iff.mp h5).1
    rw [List.length_set] at hl2
    rw [List.getElem?_set_self hl2] at h5
    cases h5
  · rw [List.getElem?_set_ne (Ne.symm e9)] at h5
    exact hl.1.2.2 _ (List.mem_map.mpr ⟨(i, w), (lvP_mem _ 0 i).mpr ⟨i, by omega, h5⟩, rfl⟩)
end MEM
/-- the pile lies in the row (22, 0) -/
def dsk (I : It) (f : Nat → Int32) : It := fun t i k => if t = 22 ∧ i = 0 then f k else I t i k
theorem dsk_s (I : It) (f : Nat → Int32) : dsk I f 22 0 = f := by funext k; exact if_pos ⟨rfl, rfl⟩
theorem dsk_n {I : It} {f : Nat → Int32} {t i : Nat} (h : ¬ (t = 22 ∧ i = 0)) : dsk I f t i = I t i := by funext k; exact if_neg h
theorem dsk_0 (I : It) : dsk I (I 22 0) = I := by
  funext t i k
  unfold dsk
  by_cases h : t = 22 ∧ i = 0
  · rw [if_pos h, h.1, h.2]
  · rw [if_neg h]
theorem dsk_u (I : It) (f : Nat → Int32) (k : Nat) (x : Int32) : sI (dsk I f) 22 0 k x = dsk I (upd f k x) := by
  funext t i j
  unfold sI dsk upd
  by_cases h : t = 22 ∧ i = 0
  · rw [if_pos h, if_pos h, if_pos h]
  · rw [if_neg h, if_neg h, if_neg h]
theorem c_Tx_workOut {l : Launch} {E : En} {d : Nat} {I : It} {L : Lt} {R : Rt} {Z : Zt} {Q : Qt} {x : Nat} {v : TV} {s a b : Int32} (hX : TXo I R Z x v) (hV : WFT v) (hQ : ∀ f, Q (some (vi (evT (nmC s a b) v.2.2.2))) (dsk I f) L R Z) : AMet l E (d + 2) M_Tx_workOut [vr 7 x, vr 22 0, vi s, vi a, vi b] I L R Z Q := by
  obtain ⟨x1, x2, x3, x4, x5, x6⟩ := hX
  obtain ⟨w1, w2, w3, w4, w5, w6, w7⟩ := hV
  have t33 : (nI 33).toInt = 33 := nT (by decide)
  have t1 : (nI 1).toInt = 1 := nT (by decide)
  have t96 : (nI 96).toInt = 96 := nT (by decide)
  refine AMet.of mf_Tx_workOut rfl (Nat.le_of_ble_eq_true rfl) ?_
  refine aw_iconst (v := -1) e_Tx_workOut_0 (by decide) ?_
  refine aw_ist5 e_Tx_workOut_1 ?_
  refine aw_iconst (v := nI 0) e_Tx_workOut_3 (by decide) ?_
  refine aw_ist6 e_Tx_workOut_4 ?_
  refine AWq.memI (dsk_0 I).symm ?_
  refine up_loop (P := fun i => AWq l E (d + 2) M_Tx_workOut Z 6 [some (vr 7 x), some (vr 22 0), some (vi s), some (vi a), some (vi b), some (vi (pm (evl (nmC s a b) (v.2.2.2.take i) (I 22 0, 0)).2)), some (vi (nI i)), none] [] (dsk I (evl (nmC s a b) (v.2.2.2.take i) (I 22 0, 0)).1) L R Z Q) (N := v.2.2.2.length) (fun i hi ih => ?_) 0 (Nat.zero_le _)
  try dsimp only
  refine aw_iload e_Tx_workOut_6 rfl ?_
  refine aw_aload_n e_Tx_workOut_8 rfl ?_
  refine aw_getR e_Tx_workOut_9 fl_Tx_19 x4 ?_
  refine aw_alen (v := nI v.2.2.2.length) e_Tx_workOut_12 (congrArg nI x5) ?_
  refine awN_icmp_ge e_Tx_workOut_13 (by omega) (by omega) (fun h13 => ?_) (fun h13 => ?_)
  · have hi2 : i = v.2.2.2.length := by omega
    have he2 := evT_any (nm := nmC s a b) (I 22 0) w6
    rw [hi2, List.take_length]
    refine aw_iload e_Tx_workOut_130 rfl ?_
    refine awZ_if_lt e_Tx_workOut_132 (fun h132 => ?_) (fun h132 => ?_)
    · refine aw_iconst (v := nI 0) e_Tx_workOut_141 (by decide) ?_
      first
        | exact aw_iret e_Tx_workOut_142 rfl rfl (by rw [dsk_s, he2.2]; exact hQ _)
        | exact absurd h132 (by rw [he2.1, pm_T (by decide)]; decide)
    · refine aw_aload_n e_Tx_workOut_135 rfl ?_
      refine aw_iconst (v := nI 0) e_Tx_workOut_136 (by decide) ?_
      refine aw_iald e_Tx_workOut_137 rfl (show 0 < 96 by decide) (by decide) ?_
      refine aw_goto e_Tx_workOut_138 ?_
      first
        | exact aw_iret e_Tx_workOut_142 rfl rfl (by rw [dsk_s, he2.2]; exact hQ _)
        | exact absurd h132 (by rw [he2.1, pm_T (by decide)]; decide)
  · obtain ⟨q, hq⟩ : ∃ q, v.2.2.2[i]? = some q := ⟨_, List.getElem?_eq_getElem h13⟩
    have hok := okS (w5 q (List.mem_of_getElem? hq))
    obtain ⟨h3, g1, g2⟩ := hgt_take v.2.2.2 i 0 1 w6
    have g3 := hgt_st (hgt_drop hq g2)
    have g4 := hgt_le _ _ _ g1
    rw [List.length_take] at g4
    have g5 := evl_ht (nmC s a b) (f := I 22 0) g1
    have ihn := ih h13
    rw [evl_take _ _ _ _ _ hq] at ihn
    generalize hst : evl (nmC s a b) (v.2.2.2.take i) (I 22 0, 0) = S at g5 ihn ⊢
    obtain ⟨f, h⟩ := S
    dsimp only at g5 ihn ⊢
    subst g5
    refine aw_aload_n e_Tx_workOut_16 rfl ?_
    refine aw_getR e_Tx_workOut_17 fl_Tx_19 x4 ?_
    refine aw_iload e_Tx_workOut_20 rfl ?_
    refine aw_ialE e_Tx_workOut_22 rfl (show i < Z.1 x by rw [x5]; exact h13) (by omega) ((congrFun (dsk_n (t := 27) (i := x) (by omega)) _).trans (x6 i q hq)) ?_
    refine aw_ineg e_Tx_workOut_23 ?_
    refine aw_ist7 e_Tx_workOut_24 ?_
    have hsg : (q.1 = 0 ∧ (-(encS q)).toInt = - (q.2 : Int)) ∨ (q.1 ≠ 0 ∧ (-(encS q)).toInt = (q.2 : Int) ∧ -(encS q) = nI q.2) := by
      unfold encS
      by_cases c0 : q.1 = 0
      · left
        rw [if_pos c0]
        exact ⟨c0, neg_T (by omega)⟩
      · right
        rw [if_neg c0, neg_neg']
        exact ⟨c0, nT (by omega), rfl⟩
    have hpm := pm_T (n := h) (by omega)
    have ev3 : (-(encS q)).toInt = 33 → evs (nmC s a b) q (f, h) = (upd f (h - 1) (nt (f (h - 1))), h) := fun z => by
      unfold evs
      rw [if_neg (by omega), if_neg (by omega), if_pos (by omega)]
    have ev1 : ((-(encS q)).toInt ≤ 0 ∨ (97 ≤ (-(encS q)).toInt ∧ (-(encS q)).toInt ≤ 122)) → evs (nmC s a b) q (f, h) = (upd f h (if (-(encS q)).toInt ≤ 0 then -(-(encS q)) else if (-(encS q)).toInt = 116 then s else if (-(encS q)).toInt = 102 then b else a), h + 1) := fun z => by
      unfold evs
      by_cases c0 : q.1 = 0
      · rw [if_pos c0, if_pos (by omega), neg_neg']
        unfold encS
        rw [if_pos c0]
      · rw [if_neg c0, if_pos (by omega)]
        unfold nmC
        by_cases c4 : q.2 = 0
        · omega
        rw [if_neg (show ¬ (-(encS q)).toInt ≤ 0 by omega)]
        by_cases c1 : q.2 = 116
        · rw [if_pos c1, if_pos (show (-(encS q)).toInt = 116 by omega)]
        · rw [if_neg c1, if_neg (show ¬ (-(encS q)).toInt = 116 by omega)]
          by_cases c2 : q.2 = 102
          · rw [if_pos c2, if_pos (show (-(encS q)).toInt = 102 by omega)]
          · rw [if_neg c2, if_neg (show ¬ (-(encS q)).toInt = 102 by omega)]
    have ev4 : (¬ ((-(encS q)).toInt ≤ 0 ∨ (97 ≤ (-(encS q)).toInt ∧ (-(encS q)).toInt ≤ 122)) ∧ ¬ (-(encS q)).toInt = 33) → evs (nmC s a b) q (f, h) = (upd f (h - 2) (jn q.2 (f (h - 2)) (f (h - 1))), h - 1) := fun z => by
      unfold evs
      rw [if_neg (by omega), if_neg (by omega), if_neg (by omega)]
    
    refine aw_iload e_Tx_workOut_26 rfl ?_
    refine aw_bipush (v := nI 33) e_Tx_workOut_28 (by decide) ?_
    refine awZ_icmp_ne e_Tx_workOut_30 (fun h30 => ?_) (fun h30 => ?_)
    · refine aw_iload e_Tx_workOut_60 rfl ?_
      refine aw_cS1 e_Tx_workOut_62 ml_Tx_27 mf_Tx_isOperand ms_Tx_isOperand (c_Tx_isOperand ?_)
      refine awB_eq e_Tx_workOut_65 (fun h65 => ?_) (fun h65 => ?_)
      · refine aw_iload e_Tx_workOut_96 rfl ?_
        refine aw_iconst (v := nI 1) e_Tx_workOut_98 (by decide) ?_
        refine awZ_icmp_lt e_Tx_workOut_99 (fun h99 => ?_) (fun h99 => ?_)
        · exact absurd h99 (by omega)
        · refine aw_inc5 e_Tx_workOut_102 (pm_dec (by omega)) ?_
          refine aw_aload_n e_Tx_workOut_105 rfl ?_
          refine aw_iload e_Tx_workOut_106 rfl ?_
          refine aw_iload e_Tx_workOut_108 rfl ?_
          refine aw_aload_n e_Tx_workOut_110 rfl ?_
          refine aw_iload e_Tx_workOut_111 rfl ?_
          refine aw_ialE e_Tx_workOut_113 (n := h - 2) (by unfold pm; rw [if_neg (by omega)]; congr 1) (show _ < 96 by omega) (by omega) (congrFun (dsk_s I f) _) ?_
          refine aw_aload_n e_Tx_workOut_114 rfl ?_
          refine aw_iload e_Tx_workOut_115 rfl ?_
          refine aw_iconst (v := nI 1) e_Tx_workOut_117 (by decide) ?_
          refine aw_iadd e_Tx_workOut_118 ?_
          rw [pm_inc]
          refine aw_ialE e_Tx_workOut_119 rfl (show _ < 96 by omega) (by omega) (congrFun (dsk_s I f) _) ?_
          rw [(hsg.resolve_left (by omega)).2.2]
          refine aw_cS3 e_Tx_workOut_120 ml_Tx_35 mf_Tx_join ms_Tx_join (c_Tx_join (by omega) ?_)
          refine aw_iast e_Tx_workOut_123 (n := h - 2) (by unfold pm; rw [if_neg (by omega)]; congr 1) (show _ < 96 by omega) (by omega) ?_
          refine aw_inc6 e_Tx_workOut_124 (inc1 _) ?_
          refine aw_goto e_Tx_workOut_127 ?_
          refine aw_drop 7 ?_
          first
            | (rw [dsk_u, show nI 1 = nt (f (h - 1)) from (bI_t h45).symm]; rw [ev3 (by omega)] at ihn; exact ihn)
            | (rw [dsk_u, show nI 0 = nt (f (h - 1)) from (bI_f h45).symm]; rw [ev3 (by omega)] at ihn; exact ihn)
            | (rw [dsk_u]; rw [ev1 h65] at ihn; exact ihn)
            | (rw [dsk_u]; rw [ev4 (by omega)] at ihn; exact ihn)
      · refine aw_iload e_Tx_workOut_68 rfl ?_
        refine aw_iconst (v := nI 1) e_Tx_workOut_70 (by decide) ?_
        refine aw_iadd e_Tx_workOut_71 ?_
        rw [pm_inc]
        refine aw_aload_n e_Tx_workOut_72 rfl ?_
        refine aw_alen (v := nI 96) e_Tx_workOut_73 rfl ?_
        refine awZ_icmp_ge e_Tx_workOut_74 (fun h74 => ?_) (fun h74 => ?_)
        · have t9 := nT (n := h) (by omega)
          exact absurd h74 (by omega)
        · refine aw_inc5 e_Tx_workOut_77 (pm_inc (n := h)) ?_
          refine aw_aload_n e_Tx_workOut_80 rfl ?_
          refine aw_iload e_Tx_workOut_81 rfl ?_
          refine aw_iload e_Tx_workOut_83 rfl ?_
          refine aw_iload_n e_Tx_workOut_85 rfl ?_
          refine aw_iload_n e_Tx_workOut_86 rfl ?_
          refine aw_iload e_Tx_workOut_87 rfl ?_
          refine aw_cS4 e_Tx_workOut_89 ml_Tx_31 mf_Tx_valueOf ms_Tx_valueOf (c_Tx_valueOf ?_)
          refine aw_iast e_Tx_workOut_92 rfl (show _ < 96 by omega) (by omega) ?_
          rw [← pm_s]
          refine aw_goto e_Tx_workOut_93 ?_
          refine aw_inc6 e_Tx_workOut_124 (inc1 _) ?_
          refine aw_goto e_Tx_workOut_127 ?_
          refine aw_drop 7 ?_
          first
            | (rw [dsk_u, show nI 1 = nt (f (h - 1)) from (bI_t h45).symm]; rw [ev3 (by omega)] at ihn; exact ihn)
            | (rw [dsk_u, show nI 0 = nt (f (h - 1)) from (bI_f h45).symm]; rw [ev3 (by omega)] at ihn; exact ihn)
            | (rw [dsk_u]; rw [ev1 h65] at ihn; exact ihn)
            | (rw [dsk_u]; rw [ev4 (by omega)] at ihn; exact ihn)
    · refine aw_iload e_Tx_workOut_33 rfl ?_
      refine awZ_if_lt e_Tx_workOut_35 (fun h35 => ?_) (fun h35 => ?_)
      · exact absurd h35 (by omega)
      · refine aw_aload_n e_Tx_workOut_38 rfl ?_
        refine aw_iload e_Tx_workOut_39 rfl ?_
        refine aw_aload_n e_Tx_workOut_41 rfl ?_
        refine aw_iload e_Tx_workOut_42 rfl ?_
        refine aw_ialE e_Tx_workOut_44 (n := h - 1) (by unfold pm; rw [if_neg (by omega)]) (show _ < 96 by omega) (by omega) (congrFun (dsk_s I f) _) ?_
        refine awZ_if_ne e_Tx_workOut_45 (fun h45 => ?_) (fun h45 => ?_)
        · refine aw_iconst (v := nI 0) e_Tx_workOut_52 (by decide) ?_
          refine aw_cS1 e_Tx_workOut_53 ml_Tx_23 mf_Tx_truth ms_Tx_truth (c_Tx_truth (by decide) ?_)
          refine aw_iast e_Tx_workOut_56 (n := h - 1) (by unfold pm; rw [if_neg (by omega)]) (show _ < 96 by omega) (by omega) ?_
          refine aw_goto e_Tx_workOut_57 ?_
          refine aw_inc6 e_Tx_workOut_124 (inc1 _) ?_
          refine aw_goto e_Tx_workOut_127 ?_
          refine aw_drop 7 ?_
          first
            | (rw [dsk_u, show nI 1 = nt (f (h - 1)) from (bI_t h45).symm]; rw [ev3 (by omega)] at ihn; exact ihn)
            | (rw [dsk_u, show nI 0 = nt (f (h - 1)) from (bI_f h45).symm]; rw [ev3 (by omega)] at ihn; exact ihn)
            | (rw [dsk_u]; rw [ev1 h65] at ihn; exact ihn)
            | (rw [dsk_u]; rw [ev4 (by omega)] at ihn; exact ihn)
        · refine aw_iconst (v := nI 1) e_Tx_workOut_48 (by decide) ?_
          refine aw_goto e_Tx_workOut_49 ?_
          refine aw_cS1 e_Tx_workOut_53 ml_Tx_23 mf_Tx_truth ms_Tx_truth (c_Tx_truth (by decide) ?_)
          refine aw_iast e_Tx_workOut_56 (n := h - 1) (by unfold pm; rw [if_neg (by omega)]) (show _ < 96 by omega) (by omega) ?_
          refine aw_goto e_Tx_workOut_57 ?_
          refine aw_inc6 e_Tx_workOut_124 (inc1 _) ?_
          refine aw_goto e_Tx_workOut_127 ?_
          refine aw_drop 7 ?_
          first
            | (rw [dsk_u, show nI 1 = nt (f (h - 1)) from (bI_t h45).symm]; rw [ev3 (by omega)] at ihn; exact ihn)
            | (rw [dsk_u, show nI 0 = nt (f (h - 1)) from (bI_f h45).symm]; rw [ev3 (by omega)] at ihn; exact ihn)
            | (rw [dsk_u]; rw [ev1 h65] at ihn; exact ihn)
            | (rw [dsk_u]; rw [ev4 (by omega)] at ihn; exact ihn)
