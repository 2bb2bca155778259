/-! ===== making the objects, 3 ===== -/
def RP (R R2 : Rt) (n : Nat) : Prop := (∀ t i, ¬ (t = 9 ∧ i = 0) → R2 t i = R t i) ∧ ∀ f q, f < n → Rf 9 0 f = some q → R2 9 0 f = some q
theorem RP_0 {R : Rt} : RP R R 0 := ⟨fun _ _ _ => rfl, fun f q hf => absurd hf (Nat.not_lt_zero f)⟩
theorem RP_s {R R1 : Rt} {a b : Nat} {x : Nat × Nat} (h : RP R R1 a) (hb : b < 35) (hg : ∀ f, f < 35 → a ≤ f → f < b → Rf 9 0 f = none) (hx : Rf 9 0 b = some x) : RP R (sR R1 9 0 b (some x)) (b + 1) := ⟨fun t i hti => (sR_n hti).trans (h.1 t i hti), fun f q hf hq => by
  by_cases e : f = b
  · rw [e, sR_q, ← hx, ← e]; exact hq
  · rw [sR_k e]
    by_cases e2 : f < a
    · exact h.2 f q e2 hq
    · rw [hg f (by omega) (by omega) (by omega)] at hq; cases hq⟩
theorem Rf_9 {f : Nat} {q : Nat × Nat} (h : Rf 9 0 f = some q) : f < 34 + 1 := by
  refine Decidable.byContradiction (fun z => ?_)
  have e : Rf 9 0 f = none := by
    show (List.getD _ f none) = none
    rw [List.getD_eq_getElem?_getD, List.getElem?_eq_none (by show 35 ≤ f; omega)]
    rfl
  rw [e] at h
  cases h
theorem c_Mo_init {l : Launch} {E : En} {d : Nat} {R : Rt} {Z : Zt} {Q : Qt} (hZ : Z.2.1 = 147) (hF : Fr R 147) (hQ : ∀ I2 R2 Z2, Z2.1 = Z.1 → Z2.2.1 = 168 → Z2.2.2 = Z.2.2 + 10702 → RP R R2 35 → (∀ t i, ¬ (t = 29 ∧ i = 0) → I2 t i = iz 9 t i) → (∀ q, q < 4 → I2 29 0 q = -1) → Q none I2 lz R2 Z2) : AMet l E (d + 1) M_Mo_init [vr 9 0] (iz 9) lz R Z Q := by
  refine AMet.of mf_Mo_init rfl (Nat.le_of_ble_eq_true rfl) ?_
  refine aw_aload_n e_Mo_init_0 rfl ?_
  refine aw_objInit e_Mo_init_1 ml_Mo_1 oi_i oi_c (by decide) ?_
  have q0 : RP R R 0 := RP_0
  refine aw_aload_n e_Mo_init_4 rfl ?_
  refine aw_sipush (v := nI 3110) e_Mo_init_5 (by decide) ?_
  refine aw_newa (len2 := _) 28 0 3110 e_Mo_init_8 ac_int rfl (by decide) (by show who (Z.2.1 + 0) = _; rw [hZ]; decide) (fun f => iz_n (by omega)) (fun f => rfl) (fun f => by rw [q0.1 28 0 (by decide)]; exact hF.n 147 (by decide) (by decide) (by decide) f) rfl (fun _ _ _ => rfl) ?_
  refine aw_putR e_Mo_init_10 fl_Mo_7 ?_
  have q1 := RP_s (b := 0) (x := (28, 0)) q0 (by decide) (by decide) rfl
  refine aw_aload_n e_Mo_init_13 rfl ?_
  refine aw_sipush (v := nI 3110) e_Mo_init_14 (by decide) ?_
  refine aw_newa (len2 := _) 28 1 3110 e_Mo_init_17 ac_int rfl (by decide) (by show who (Z.2.1 + 1) = _; rw [hZ]; decide) (fun f => iz_n (by omega)) (fun f => rfl) (fun f => by rw [q1.1 28 1 (by decide)]; exact hF.n 148 (by decide) (by decide) (by decide) f) rfl (fun _ _ _ => rfl) ?_
  refine aw_putR e_Mo_init_19 fl_Mo_13 ?_
  have q2 := RP_s (b := 1) (x := (28, 1)) q1 (by decide) (by decide) rfl
  refine aw_aload_n e_Mo_init_22 rfl ?_
  refine aw_sipush (v := nI 3110) e_Mo_init_23 (by decide) ?_
  refine aw_newa (len2 := _) 28 2 3110 e_Mo_init_26 ac_int rfl (by decide) (by show who (Z.2.1 + 2) = _; rw [hZ]; decide) (fun f => iz_n (by omega)) (fun f => rfl) (fun f => by rw [q2.1 28 2 (by decide)]; exact hF.n 149 (by decide) (by decide) (by decide) f) rfl (fun _ _ _ => rfl) ?_
  refine aw_putR e_Mo_init_28 fl_Mo_16 ?_
  have q3 := RP_s (b := 2) (x := (28, 2)) q2 (by decide) (by decide) rfl
  refine aw_aload_n e_Mo_init_31 rfl ?_
  refine aw_iconst (v := nI 4) e_Mo_init_32 (by decide) ?_
  refine aw_newa (len2 := _) 29 0 4 e_Mo_init_33 ac_int rfl (by decide) (by show who (Z.2.1 + 3) = _; rw [hZ]; decide) (fun f => iz_n (by omega)) (fun f => rfl) (fun f => by rw [q3.1 29 0 (by decide)]; exact hF.n 150 (by decide) (by decide) (by decide) f) rfl (fun _ _ _ => rfl) ?_
  refine aw_putR e_Mo_init_35 fl_Mo_19 ?_
  have q4 := RP_s (b := 4) (x := (29, 0)) q3 (by decide) (by decide) rfl
  refine aw_aload_n e_Mo_init_38 rfl ?_
  refine aw_iconst (v := nI 4) e_Mo_init_39 (by decide) ?_
  refine aw_newa (len2 := _) 30 0 4 e_Mo_init_40 ac_int rfl (by decide) (by show who (Z.2.1 + 4) = _; rw [hZ]; decide) (fun f => iz_n (by omega)) (fun f => rfl) (fun f => by rw [q4.1 30 0 (by decide)]; exact hF.n 151 (by decide) (by decide) (by decide) f) rfl (fun _ _ _ => rfl) ?_
  refine aw_putR e_Mo_init_42 fl_Mo_22 ?_
  have q5 := RP_s (b := 5) (x := (30, 0)) q4 (by decide) (by decide) rfl
  refine aw_aload_n e_Mo_init_45 rfl ?_
  refine aw_bipush (v := nI 96) e_Mo_init_46 (by decide) ?_
  refine aw_newa (len2 := _) 31 0 96 e_Mo_init_48 ac_int rfl (by decide) (by show who (Z.2.1 + 5) = _; rw [hZ]; decide) (fun f => iz_n (by omega)) (fun f => rfl) (fun f => by rw [q5.1 31 0 (by decide)]; exact hF.n 152 (by decide) (by decide) (by decide) f) rfl (fun _ _ _ => rfl) ?_
  refine aw_putR e_Mo_init_50 fl_Mo_25 ?_
  have q6 := RP_s (b := 6) (x := (31, 0)) q5 (by decide) (by decide) rfl
  refine aw_aload_n e_Mo_init_53 rfl ?_
  refine aw_iconst (v := nI 5) e_Mo_init_54 (by decide) ?_
  refine aw_newa (len2 := _) 32 0 5 e_Mo_init_55 ac_int rfl (by decide) (by show who (Z.2.1 + 6) = _; rw [hZ]; decide) (fun f => iz_n (by omega)) (fun f => rfl) (fun f => by rw [q6.1 32 0 (by decide)]; exact hF.n 153 (by decide) (by decide) (by decide) f) rfl (fun _ _ _ => rfl) ?_
  refine aw_putR e_Mo_init_57 fl_Mo_28 ?_
  have q7 := RP_s (b := 7) (x := (32, 0)) q6 (by decide) (by decide) rfl
  refine aw_aload_n e_Mo_init_60 rfl ?_
  refine aw_iconst (v := nI 5) e_Mo_init_61 (by decide) ?_
  refine aw_newa (len2 := _) 33 0 5 e_Mo_init_62 ac_int rfl (by decide) (by show who (Z.2.1 + 7) = _; rw [hZ]; decide) (fun f => iz_n (by omega)) (fun f => rfl) (fun f => by rw [q7.1 33 0 (by decide)]; exact hF.n 154 (by decide) (by decide) (by decide) f) rfl (fun _ _ _ => rfl) ?_
  refine aw_putR e_Mo_init_64 fl_Mo_31 ?_
  have q8 := RP_s (b := 8) (x := (33, 0)) q7 (by decide) (by decide) rfl
  refine aw_aload_n e_Mo_init_67 rfl ?_
  refine aw_iconst (v := nI 5) e_Mo_init_68 (by decide) ?_
  refine aw_newa (len2 := _) 34 0 5 e_Mo_init_69 ac_int rfl (by decide) (by show who (Z.2.1 + 8) = _; rw [hZ]; decide) (fun f => iz_n (by omega)) (fun f => rfl) (fun f => by rw [q8.1 34 0 (by decide)]; exact hF.n 155 (by decide) (by decide) (by decide) f) rfl (fun _ _ _ => rfl) ?_
  refine aw_putR e_Mo_init_71 fl_Mo_34 ?_
  have q9 := RP_s (b := 9) (x := (34, 0)) q8 (by decide) (by decide) rfl
  refine aw_aload_n e_Mo_init_74 rfl ?_
  refine aw_iconst (v := nI 5) e_Mo_init_75 (by decide) ?_
  refine aw_newa (len2 := _) 35 0 5 e_Mo_init_76 ac_int rfl (by decide) (by show who (Z.2.1 + 9) = _; rw [hZ]; decide) (fun f => iz_n (by omega)) (fun f => rfl) (fun f => by rw [q9.1 35 0 (by decide)]; exact hF.n 156 (by decide) (by decide) (by decide) f) rfl (fun _ _ _ => rfl) ?_
  refine aw_putR e_Mo_init_78 fl_Mo_37 ?_
  have q10 := RP_s (b := 10) (x := (35, 0)) q9 (by decide) (by decide) rfl
  refine aw_aload_n e_Mo_init_81 rfl ?_
  refine aw_bipush (v := nI 120) e_Mo_init_82 (by decide) ?_
  refine aw_newa (len2 := _) 36 0 120 e_Mo_init_84 ac_int rfl (by decide) (by show who (Z.2.1 + 10) = _; rw [hZ]; decide) (fun f => iz_n (by omega)) (fun f => rfl) (fun f => by rw [q10.1 36 0 (by decide)]; exact hF.n 157 (by decide) (by decide) (by decide) f) rfl (fun _ _ _ => rfl) ?_
  refine aw_putR e_Mo_init_86 fl_Mo_40 ?_
  have q11 := RP_s (b := 11) (x := (36, 0)) q10 (by decide) (by decide) rfl
  refine aw_aload_n e_Mo_init_89 rfl ?_
  refine aw_sipush (v := nI 600) e_Mo_init_90 (by decide) ?_
  refine aw_newa (len2 := _) 37 0 600 e_Mo_init_93 ac_long rfl (by decide) (by show who (Z.2.1 + 11) = _; rw [hZ]; decide) (fun f => iz_n (by omega)) (fun f => rfl) (fun f => by rw [q11.1 37 0 (by decide)]; exact hF.n 158 (by decide) (by decide) (by decide) f) rfl (fun _ _ _ => rfl) ?_
  refine aw_putR e_Mo_init_95 fl_Mo_43 ?_
  have q12 := RP_s (b := 12) (x := (37, 0)) q11 (by decide) (by decide) rfl
  refine aw_aload_n e_Mo_init_98 rfl ?_
  refine aw_bipush (v := nI 24) e_Mo_init_99 (by decide) ?_
  refine aw_newa (len2 := _) 38 0 24 e_Mo_init_101 ac_long rfl (by decide) (by show who (Z.2.1 + 12) = _; rw [hZ]; decide) (fun f => iz_n (by omega)) (fun f => rfl) (fun f => by rw [q12.1 38 0 (by decide)]; exact hF.n 159 (by decide) (by decide) (by decide) f) rfl (fun _ _ _ => rfl) ?_
  refine aw_putR e_Mo_init_103 fl_Mo_47 ?_
  have q13 := RP_s (b := 14) (x := (38, 0)) q12 (by decide) (by decide) rfl
  refine aw_aload_n e_Mo_init_106 rfl ?_
  refine aw_bipush (v := nI 96) e_Mo_init_107 (by decide) ?_
  refine aw_newa (len2 := _) 39 0 96 e_Mo_init_109 ac_int rfl (by decide) (by show who (Z.2.1 + 13) = _; rw [hZ]; decide) (fun f => iz_n (by omega)) (fun f => rfl) (fun f => by rw [q13.1 39 0 (by decide)]; exact hF.n 160 (by decide) (by decide) (by decide) f) rfl (fun _ _ _ => rfl) ?_
  refine aw_putR e_Mo_init_111 fl_Mo_50 ?_
  have q14 := RP_s (b := 15) (x := (39, 0)) q13 (by decide) (by decide) rfl
  refine aw_aload_n e_Mo_init_114 rfl ?_
  refine aw_sipush (v := nI 128) e_Mo_init_115 (by decide) ?_
  refine aw_newa (len2 := _) 40 0 128 e_Mo_init_118 ac_int rfl (by decide) (by show who (Z.2.1 + 14) = _; rw [hZ]; decide) (fun f => iz_n (by omega)) (fun f => rfl) (fun f => by rw [q14.1 40 0 (by decide)]; exact hF.n 161 (by decide) (by decide) (by decide) f) rfl (fun _ _ _ => rfl) ?_
  refine aw_putR e_Mo_init_120 fl_Mo_53 ?_
  have q15 := RP_s (b := 27) (x := (40, 0)) q14 (by decide) (by decide) rfl
  refine aw_aload_n e_Mo_init_123 rfl ?_
  refine aw_bipush (v := nI 100) e_Mo_init_124 (by decide) ?_
  refine aw_newa (len2 := _) 41 0 100 e_Mo_init_126 ac_int rfl (by decide) (by show who (Z.2.1 + 15) = _; rw [hZ]; decide) (fun f => iz_n (by omega)) (fun f => rfl) (fun f => by rw [q15.1 41 0 (by decide)]; exact hF.n 162 (by decide) (by decide) (by decide) f) rfl (fun _ _ _ => rfl) ?_
  refine aw_putR e_Mo_init_128 fl_Mo_56 ?_
  have q16 := RP_s (b := 28) (x := (41, 0)) q15 (by decide) (by decide) rfl
  refine aw_aload_n e_Mo_init_131 rfl ?_
  refine aw_bipush (v := nI 24) e_Mo_init_132 (by decide) ?_
  refine aw_newa (len2 := _) 42 0 24 e_Mo_init_134 ac_long rfl (by decide) (by show who (Z.2.1 + 16) = _; rw [hZ]; decide) (fun f => iz_n (by omega)) (fun f => rfl) (fun f => by rw [q16.1 42 0 (by decide)]; exact hF.n 163 (by decide) (by decide) (by decide) f) rfl (fun _ _ _ => rfl) ?_
  refine aw_putR e_Mo_init_136 fl_Mo_59 ?_
  have q17 := RP_s (b := 29) (x := (42, 0)) q16 (by decide) (by decide) rfl
  refine aw_aload_n e_Mo_init_139 rfl ?_
  refine aw_bipush (v := nI 12) e_Mo_init_140 (by decide) ?_
  refine aw_newa (len2 := _) 43 0 12 e_Mo_init_142 ac_int rfl (by decide) (by show who (Z.2.1 + 17) = _; rw [hZ]; decide) (fun f => iz_n (by omega)) (fun f => rfl) (fun f => by rw [q17.1 43 0 (by decide)]; exact hF.n 164 (by decide) (by decide) (by decide) f) rfl (fun _ _ _ => rfl) ?_
  refine aw_putR e_Mo_init_144 fl_Mo_62 ?_
  have q18 := RP_s (b := 30) (x := (43, 0)) q17 (by decide) (by decide) rfl
  refine aw_aload_n e_Mo_init_147 rfl ?_
  refine aw_bipush (v := nI 24) e_Mo_init_148 (by decide) ?_
  refine aw_newa (len2 := _) 44 0 24 e_Mo_init_150 ac_int rfl (by decide) (by show who (Z.2.1 + 18) = _; rw [hZ]; decide) (fun f => iz_n (by omega)) (fun f => rfl) (fun f => by rw [q18.1 44 0 (by decide)]; exact hF.n 165 (by decide) (by decide) (by decide) f) rfl (fun _ _ _ => rfl) ?_
  refine aw_putR e_Mo_init_152 fl_Mo_65 ?_
  have q19 := RP_s (b := 31) (x := (44, 0)) q18 (by decide) (by decide) rfl
  refine aw_aload_n e_Mo_init_155 rfl ?_
  refine aw_bipush (v := nI 60) e_Mo_init_156 (by decide) ?_
  refine aw_newa (len2 := _) 45 0 60 e_Mo_init_158 ac_int rfl (by decide) (by show who (Z.2.1 + 19) = _; rw [hZ]; decide) (fun f => iz_n (by omega)) (fun f => rfl) (fun f => by rw [q19.1 45 0 (by decide)]; exact hF.n 166 (by decide) (by decide) (by decide) f) rfl (fun _ _ _ => rfl) ?_
  refine aw_putR e_Mo_init_160 fl_Mo_68 ?_
  have q20 := RP_s (b := 32) (x := (45, 0)) q19 (by decide) (by decide) rfl
  refine aw_aload_n e_Mo_init_163 rfl ?_
  refine aw_bipush (v := nI 60) e_Mo_init_164 (by decide) ?_
  refine aw_newa (len2 := _) 46 0 60 e_Mo_init_166 ac_int rfl (by decide) (by show who (Z.2.1 + 20) = _; rw [hZ]; decide) (fun f => iz_n (by omega)) (fun f => rfl) (fun f => by rw [q20.1 46 0 (by decide)]; exact hF.n 167 (by decide) (by decide) (by decide) f) rfl (fun _ _ _ => rfl) ?_
  refine aw_putR e_Mo_init_168 fl_Mo_71 ?_
  have q21 := RP_s (b := 34) (x := (46, 0)) q20 (by decide) (by decide) rfl
  refine aw_iconst (v := nI 0) e_Mo_init_171 (by decide) ?_
  refine aw_ist1 e_Mo_init_172 ?_
  refine up_loop (P := fun j => ∀ I2 : It, (∀ t i, ¬ (t = 29 ∧ i = 0) → I2 t i = iz 9 t i) → (∀ q, q < j → I2 29 0 q = -1) → AWq l E (d + 1) M_Mo_init Z 173 [some (vr 9 0), some (vi (nI j))] [] I2 lz _ _ Q) (N := 4) (fun j hj ih I2 hI2 h29 => ?_) 0 (Nat.zero_le _) (iz 9) (fun _ _ _ => rfl) (fun q hq => absurd hq (Nat.not_lt_zero q))
  refine aw_iload_n e_Mo_init_173 rfl ?_
  refine aw_iconst (v := nI 4) e_Mo_init_174 (by decide) ?_
  refine awN_icmp_ge e_Mo_init_175 (by omega) (by omega) (fun h175 => ?_) (fun h175 => ?_)
  · obtain rfl : j = 4 := by omega
    exact aw_vret e_Mo_init_191 rfl (hQ _ _ _ rfl (by show Z.2.1 + 1 + 1 + 1 + 1 + 1 + 1 + 1 + 1 + 1 + 1 + 1 + 1 + 1 + 1 + 1 + 1 + 1 + 1 + 1 + 1 + 1 = _; omega) (by show Z.2.2 + 3110 + 3110 + 3110 + 4 + 4 + 96 + 5 + 5 + 5 + 5 + 120 + 600 + 24 + 96 + 128 + 100 + 24 + 12 + 24 + 60 + 60 = _; omega) q21 hI2 h29)
  · refine aw_aload_n e_Mo_init_178 rfl ?_
    refine aw_getR e_Mo_init_179 fl_Mo_19 (q21.2 4 (29, 0) (by decide) rfl) ?_
    refine aw_iload_n e_Mo_init_182 rfl ?_
    refine aw_iconst (v := -1) e_Mo_init_183 (by decide) ?_
    refine aw_iast e_Mo_init_184 rfl (show _ < 4 by omega) (by omega) ?_
    refine aw_inc1 e_Mo_init_185 (inc1 _) ?_
    refine aw_goto e_Mo_init_188 ?_
    refine ih h175 _ (fun t i h => (sI_n h).trans (hI2 t i h)) (fun q hq => ?_)
    by_cases e : q = j
    · rw [e, sI_eq]
    · rw [sI_ne e]; exact h29 q (by omega)
/-- no reference at cells that will be made -/
noncomputable def R00 : Rt := fun t i f => @ite _ (Rl t i) (Classical.propDecidable _) none (Rf t i f)
theorem R00_y {t i : Nat} (h : Rl t i) : ∀ f, R00 t i f = none := fun f => if_pos h
theorem R00_n {t i : Nat} (h : ¬ Rl t i) : ∀ f, R00 t i f = Rf t i f := fun f => if_neg h
theorem Rl_who {c : Nat} (h : c < 168) : Rl (who c).1 (who c).2 := by
  unfold Rl
  rw [(adr_who_s c h).1]
theorem Fr_00 (n : Nat) : Fr R00 n := fun c _ h f => R00_y (Rl_who h) f
theorem INV_00 : INV R00 1 R00 := by
  refine ⟨fun t i f q hr ha hq => ?_, fun _ _ _ => rfl, fun j f => ?_⟩
  · have h0 : adr t i = 0 := by omega
    have hw : who 0 = (t, i) := by rw [← h0]; exact hr
    have e : (8, 0) = (t, i) := hw
    cases e
    cases hq
  · by_cases e : Rl 17 j
    · exact R00_y e f
    · exact R00_n e f
def V00 : Mc := (0, 0, 0, 0, fun _ _ => 0, fun _ => 0, fun _ => 0, fun _ => (0, 0, 0, []))
def S00 : AS := (V00, V00, 0, (0, fun _ => 0), fun _ => (-1, 0, fun _ => 0), fun _ => (0, 0, (fun _ => 0), (-1, 0, fun _ => 0)), (0, fun _ => 0))
theorem WF_00 : WS V00 := ⟨⟨⟨Nat.zero_le _, Nat.zero_le _, Nat.zero_le _, Nat.zero_le _⟩, fun p hp => absurd hp (Nat.not_lt_zero p), fun p hp => absurd hp (Nat.not_lt_zero p), fun p hp => absurd hp (Nat.not_lt_zero p)⟩, Nat.zero_le _, fun p hp => absurd hp (Nat.not_lt_zero p)⟩
theorem Sta_00 {R R2 : Rt} (hV : INV R00 146 R) (hP : P8 11 R) (h24 : ∀ j, j < 4 → R 24 0 j = some (4, j)) (h25 : ∀ j, j < 5 → R 25 0 j = some (5, j)) (hR : RP R R2 35) : Sta R2 := by
  have h8 : ∀ f q, Rf 8 0 f = some q → f < 11 := fun f q hq => by
    have hq2 : (([(2, 0), (2, 1), (2, 2), (0, 0), (0, 1), (1, 0), (6, 0), (22, 0), (23, 0), (24, 0), (25, 0)] : List (Nat × Nat))[f]?) = some q := hq
    exact (List.getElem?_eq_some_iff.mp hq2).1
  have hM := who_M
  refine ⟨fun t i f q hq => ?_, fun k j hk hj => ?_, fun j hj => ?_, fun j hj => ?_⟩
  · by_cases e9 : t = 9 ∧ i = 0
    · obtain ⟨rfl, rfl⟩ := e9
      exact hR.2 f q (Rf_9 hq) hq
    · rw [hR.1 t i e9]
      by_cases hr : Rl t i
      · have ht : t = 0 ∨ t = 1 ∨ t = 2 ∨ t = 4 ∨ t = 5 ∨ t = 6 ∨ t = 8 ∨ t = 9 := by
          refine Decidable.byContradiction (fun z => ?_)
          unfold Rf at hq
          rw [if_neg (by omega), if_neg (by omega), if_neg (by omega), if_neg (by omega), if_neg (by omega), if_neg (by omega), if_neg (by omega), if_neg (by omega)] at hq
          cases hq
        by_cases e8 : t = 8
        · subst e8
          have e : (8, 0) = (8, i) := (show who 0 = (8, i) from hr)
          cases e
          exact hP f q (h8 f q hq) hq
        · by_cases e99 : t = 9
          · subst e99
            have e : (9, 0) = (9, i) := (show who 146 = (9, i) from hr)
            cases e
            exact absurd ⟨rfl, rfl⟩ e9
          · have hT : Tg t i f = some q := by
              unfold Tg
              rw [if_neg (by omega), if_neg (by omega), if_neg (by omega)]
              exact hq
            refine hV.1 t i f q hr ?_ hT
            have hall : ∀ c, c < 168 → 146 ≤ c → ((who c).1 = 9 ∨ 28 ≤ (who c).1) := by decide +kernel
            refine Decidable.byContradiction (fun z => ?_)
            have hr2 : who (adr t i) = (t, i) := hr
            by_cases e168 : adr t i < 168
            · have := hall (adr t i) e168 (by omega)
              rw [hr2] at this
              have : t = 9 ∨ 28 ≤ t := this
              omega
            · by_cases e2 : adr t i % 2 = 0
              · obtain ⟨w, hw⟩ : ∃ w, adr t i = 168 + 2 * w := ⟨(adr t i - 168) / 2, by omega⟩
                rw [hw, who_T] at hr2
                cases hr2
                omega
              · obtain ⟨w, hw⟩ : ∃ w, adr t i = 169 + 2 * w := ⟨(adr t i - 169) / 2, by omega⟩
                rw [hw, who_C] at hr2
                cases hr2
                omega
      · rw [hV.2.1 t i hr, R00_n hr]; exact hq
  · rw [hR.1 10 k (by omega)]
    refine hV.1 10 k j _ (hM k hk).2.1 (by show 2 + 17 * k < 146; omega) ?_
    show (if k < 3 ∧ j < 12 then some (3, 12 * k + j) else none) = _
    rw [if_pos ⟨hk, hj⟩]
  · rw [hR.1 24 0 (by omega)]; exact h24 j hj
  · rw [hR.1 25 0 (by omega)]; exact h25 j hj
theorem RG_00 {R R2 : Rt} (hV : INV R00 146 R) (hR : RP R R2 35) {a : Nat} (ha : a < 2) : RG R2 a (fun r => 24 * a + r) := by
  refine ⟨fun r hr => ?_, fun r hr => ⟨(by show 24 * a ≤ 24 * a + r; omega), (by show 24 * a + r < 24 * a + 24; omega)⟩, fun r s _ _ h => by have h2 : 24 * a + r = 24 * a + s := h; omega⟩
  rw [hR.1 16 a (by omega)]
  refine hV.1 16 a r _ (who_A a ha).2.2.2.1 (by show 55 + 28 * a < 146; omega) ?_
  show (if a < 2 ∧ r < 24 then some (17, 24 * a + r) else none) = _
  rw [if_pos ⟨ha, hr⟩]
theorem CM_00 {I : It} {R : Rt} {Z : Zt} {k : Nat} (h : ∀ f, I 2 k f = 0) : CM I R Z k V00 := ⟨⟨h 4, h 5, h 6, h 7⟩, fun p f hp => absurd hp (Nat.not_lt_zero p), fun b hb => absurd hb (Nat.not_lt_zero b), fun b hb => absurd hb (Nat.not_lt_zero b), fun b hb => absurd hb (Nat.not_lt_zero b)⟩
theorem CS_00 {I : It} {R R2 : Rt} {Z : Zt} (hV : INV R00 146 R) (hP : P8 11 R) (h24 : ∀ j, j < 4 → R 24 0 j = some (4, j)) (h25 : ∀ j, j < 5 → R 25 0 j = some (5, j)) (hR : RP R R2 35) (hI : ∀ t i, ¬ (t = 29 ∧ i = 0) → I t i = iz 9 t i) : CS I R2 Z S00 := by
  have z : ∀ t i f, ¬ (t = 29 ∧ i = 0) → ¬ (t = 4 ∧ i < 9) → I t i f = 0 := fun t i f h h4 => by rw [hI t i h]; exact iz_n h4
  have hsh : ∀ i, i < 9 → SHo I i (-1, 0, fun _ => 0) := fun i hi => by
    refine ⟨?_, ?_, Nat.zero_le _, Or.inl rfl, fun _ => rfl, fun j hj => absurd hj (Nat.not_lt_zero j)⟩
    · rw [hI 4 i (by omega)]; exact if_pos ⟨rfl, hi, rfl⟩
    · rw [hI 4 i (by omega)]; exact if_neg (fun z => absurd z.2.2 (by decide))
  exact ⟨Sta_00 hV hP h24 h25 hR, CM_00 (fun f => z 2 0 f (by omega) (by omega)), WF_00, fun h => absurd (show (0 : Nat) = 1 from h) (by decide), ⟨z 8 0 12 (by omega) (by omega), Nat.zero_le _⟩, ⟨z 6 0 0 (by omega) (by omega), Nat.zero_le _, fun j hj => absurd hj (Nat.not_lt_zero j)⟩, fun i hi => hsh i (by omega), fun i hi => ⟨z 5 i 0 (by omega) (by omega), (by show (0 : Nat) < 4; decide), fun h => absurd (show (0 : Nat) = 3 from h) (by decide), fun h => absurd (show (0 : Nat) = 1 from h) (by decide), fun h => absurd (show (0 : Nat) = 2 from h) (by decide)⟩, ⟨z 8 0 11 (by omega) (by omega), Nat.zero_le _, fun j hj => absurd hj (Nat.not_lt_zero j)⟩, ⟨_, RG_00 hV hR (by decide)⟩, ⟨_, RG_00 hV hR (by decide)⟩⟩
theorem MSt_00 {I : It} (hI : ∀ t i, ¬ (t = 29 ∧ i = 0) → I t i = iz 9 t i) (h29 : ∀ q, q < 4 → I 29 0 q = -1) : MSt I S00 := by
  have z : ∀ t i f, ¬ (t = 29 ∧ i = 0) → ¬ (t = 4 ∧ i < 9) → I t i f = 0 := fun t i f h h4 => by rw [hI t i h]; exact iz_n h4
  exact ⟨⟨⟨z 28 0 0 (by omega) (by omega), z 28 0 1 (by omega) (by omega), z 28 0 2 (by omega) (by omega), z 28 0 3 (by omega) (by omega)⟩, fun p f hp => absurd hp (Nat.not_lt_zero p), fun b hb => absurd hb (Nat.not_lt_zero b), fun b hb => absurd hb (Nat.not_lt_zero b), fun b hb => absurd hb (Nat.not_lt_zero b)⟩, fun h => absurd (show (0 : Nat) = 1 from h) (by decide), z 9 0 3 (by omega) (by omega), ⟨z 9 0 16 (by omega) (by omega), fun j hj => absurd hj (Nat.not_lt_zero j)⟩, fun i hi => ⟨h29 i hi, z 30 0 i (by omega) (by omega), fun j hj => absurd hj (Nat.not_lt_zero j)⟩, fun i hi => ⟨z 32 0 i (by omega) (by omega), fun h => absurd (show (0 : Nat) = 3 from h) (by decide), fun h => absurd (show (0 : Nat) = 1 from h) (by decide), fun h => absurd (show (0 : Nat) = 2 from h) (by decide)⟩, ⟨z 9 0 33 (by omega) (by omega), fun j hj => absurd hj (Nat.not_lt_zero j)⟩⟩
