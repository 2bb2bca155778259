/-! ===== the model: texts worked out, steps ===== -/
noncomputable def stpV (V : Mc) : Mc := stepV V (fun b => ansX V (2 * b)) (fun b => ansX V (2 * b + 1))
def fG (I I2 : It) : Prop := (∀ t i, ¬ (t = 28 ∧ i = 0) → ¬ (t = 9 ∧ i = 0) → t ≠ 40 → t ≠ 41 → I2 t i = I t i) ∧ ∀ f, f ≠ 13 → I2 9 0 f = I 9 0 f
theorem fG_0 {I : It} : fG I I := ⟨fun _ _ _ _ _ _ => rfl, fun _ _ => rfl⟩
theorem fG_t {I I2 I3 : It} (h : fG I I2) (h2 : fG I2 I3) : fG I I3 := ⟨fun t i a b c d => (h2.1 t i a b c d).trans (h.1 t i a b c d), fun f hf => (h2.2 f hf).trans (h.2 f hf)⟩
theorem fl.G {I I2 : It} (h : fl I I2) : fG I I2 := ⟨fun t i _ b _ _ => h.1 t i b, h.2⟩
theorem fG.M {I I2 : It} (h : fG I I2) : fM I I2 := ⟨fun t i a b c _ _ _ g => h.1 t i (fun z => g ⟨z.1, by omega⟩) (fun z => a z.1) b c, h.2 3 (by decide), h.2 16 (by decide), h.2 33 (by decide)⟩
theorem fG_s {I I1 : It} {t i n : Nat} {x : Int32} (h : fG I I1) (hc : (t = 28 ∧ i = 0) ∨ t = 40 ∨ t = 41) : fG I (sI I1 t i n x) := ⟨fun t2 i2 a b c d => (sI_n (by omega)).trans (h.1 t2 i2 a b c d), fun f hf => (sI_n2 (by omega)).trans (h.2 f hf)⟩
def pil (I : It) (f : Nat → Int32) : It := fun t i k => if t = 41 ∧ i = 0 then f k else I t i k
theorem pil_s (I : It) (f : Nat → Int32) : pil I f 41 0 = f := by funext k; exact if_pos ⟨rfl, rfl⟩
theorem pil_n {I : It} {f : Nat → Int32} {t i : Nat} (h : ¬ (t = 41 ∧ i = 0)) : pil I f t i = I t i := by funext k; exact if_neg h
theorem pil_0 (I : It) : pil I (I 41 0) = I := by
  funext t i k
  unfold pil
  by_cases h : t = 41 ∧ i = 0
  · rw [if_pos h, h.1, h.2]
  · rw [if_neg h]
theorem pil_u (I : It) (f : Nat → Int32) (k : Nat) (x : Int32) : sI (pil I f) 41 0 k x = pil I (upd f k x) := by
  funext t i j
  unfold sI pil upd
  by_cases h : t = 41 ∧ i = 0
  · rw [if_pos h, if_pos h, if_pos h]
  · rw [if_neg h, if_neg h, if_neg h]
theorem fG_p {I I1 : It} {f : Nat → Int32} (h : fG I I1) : fG I (pil I1 f) := ⟨fun t i a b c d => (pil_n (by omega)).trans (h.1 t i a b c d), fun g hg => (congrFun (pil_n (by omega)) g).trans (h.2 g hg)⟩
theorem evl_cg {n1 n2 : Nat → Int32} : ∀ (c : List (Nat × Nat)) (s : Sk), (∀ q ∈ c, q.1 = 1 → n1 q.2 = n2 q.2) → evl n1 c s = evl n2 c s
  | [], s, _ => rfl
  | q :: t, s, h => by
    show evl n1 t (evs n1 q s) = evl n2 t (evs n2 q s)
    have e : evs n1 q s = evs n2 q s := by
      unfold evs
      by_cases h1 : q.1 = 1
      · rw [h q List.mem_cons_self h1]
      · rw [if_neg h1, if_neg h1]
    rw [e]
    exact evl_cg t _ (fun r hr => h r (List.mem_cons_of_mem _ hr))
theorem div_m1 (x : Int32) : x / (-1) = -x := by
  apply Int32.toInt_inj.mp
  rw [Int32.toInt_div, show (-1 : Int32).toInt = -1 by decide, Int.tdiv_neg, Int.tdiv_one, Int32.toInt_neg]
theorem jn_47 (x y : Int32) : jn 47 x y = if y.toInt = 0 then nI 0 else x / y := rfl
theorem c_Mo_joined {l : Launch} {E : En} {d : Nat} {I : It} {L : Lt} {R : Rt} {Z : Zt} {Q : Qt} {c : Nat} {x y : Int32} (hc : c = 43 ∨ c = 45 ∨ c = 42 ∨ c = 47 ∨ c = 60 ∨ c = 61 ∨ c = 62 ∨ c = 38 ∨ c = 124) (hQ : Q (some (vi (jn c x y))) I L R Z) : AMet l E d M_Mo_joined [vi (nI c), vi x, vi y] I L R Z Q := by
  refine AMet.of mf_Mo_joined rfl (Nat.le_of_ble_eq_true rfl) ?_
  refine aw_iload_n e_Mo_joined_0 rfl ?_
  rcases hc with rfl | rfl | rfl | rfl | rfl | rfl | rfl | rfl | rfl
  · have hQ : Q (some (vi (x + y))) I L R Z := hQ
    refine aw_tsIn (off := 115) (tgt := 116) e_Mo_joined_1 (by decide) (by decide) (by decide) (by decide) ?_
    refine aw_iload_n e_Mo_joined_116 rfl ?_
    refine aw_iload_n e_Mo_joined_117 rfl ?_
    refine aw_iadd e_Mo_joined_118 ?_
    exact aw_iret e_Mo_joined_119 rfl rfl hQ
  · have hQ : Q (some (vi (x - y))) I L R Z := hQ
    refine aw_tsIn (off := 119) (tgt := 120) e_Mo_joined_1 (by decide) (by decide) (by decide) (by decide) ?_
    refine aw_iload_n e_Mo_joined_120 rfl ?_
    refine aw_iload_n e_Mo_joined_121 rfl ?_
    refine aw_isub e_Mo_joined_122 ?_
    exact aw_iret e_Mo_joined_123 rfl rfl hQ
  · have hQ : Q (some (vi (x * y))) I L R Z := hQ
    refine aw_tsIn (off := 123) (tgt := 124) e_Mo_joined_1 (by decide) (by decide) (by decide) (by decide) ?_
    refine aw_iload_n e_Mo_joined_124 rfl ?_
    refine aw_iload_n e_Mo_joined_125 rfl ?_
    refine aw_imul e_Mo_joined_126 ?_
    exact aw_iret e_Mo_joined_127 rfl rfl hQ
  · have hQ : Q (some (vi (jn 47 x y))) I L R Z := hQ
    refine aw_tsIn (off := 127) (tgt := 128) e_Mo_joined_1 (by decide) (by decide) (by decide) (by decide) ?_
    refine aw_iload_n e_Mo_joined_128 rfl ?_
    refine awZ_if_ne e_Mo_joined_129 (fun h129 => ?_) (fun h129 => ?_)
    · refine aw_iload_n e_Mo_joined_136 rfl ?_
      refine aw_iconst (v := -1) e_Mo_joined_137 (by decide) ?_
      refine aw_icmp_ne e_Mo_joined_138 (fun h138 => ?_) (fun h138 => ?_)
      · refine aw_iload_n e_Mo_joined_146 rfl ?_
        refine aw_iload_n e_Mo_joined_147 rfl ?_
        refine aw_idiv e_Mo_joined_148 (fun q => h129 (by rw [q]; rfl)) ?_
        rw [jn_47] at hQ
        first
          | (rw [if_pos h129] at hQ; exact aw_iret e_Mo_joined_149 rfl rfl hQ)
          | (rw [if_neg h129, h138, div_m1] at hQ; exact aw_iret e_Mo_joined_149 rfl rfl hQ)
          | (rw [if_neg h129] at hQ; exact aw_iret e_Mo_joined_149 rfl rfl hQ)
      · refine aw_iload_n e_Mo_joined_141 rfl ?_
        refine aw_ineg e_Mo_joined_142 ?_
        refine aw_goto e_Mo_joined_143 ?_
        rw [jn_47] at hQ
        first
          | (rw [if_pos h129] at hQ; exact aw_iret e_Mo_joined_149 rfl rfl hQ)
          | (rw [if_neg h129, h138, div_m1] at hQ; exact aw_iret e_Mo_joined_149 rfl rfl hQ)
          | (rw [if_neg h129] at hQ; exact aw_iret e_Mo_joined_149 rfl rfl hQ)
    · refine aw_iconst (v := nI 0) e_Mo_joined_132 (by decide) ?_
      refine aw_goto e_Mo_joined_133 ?_
      rw [jn_47] at hQ
      first
        | (rw [if_pos h129] at hQ; exact aw_iret e_Mo_joined_149 rfl rfl hQ)
        | (rw [if_neg h129, h138, div_m1] at hQ; exact aw_iret e_Mo_joined_149 rfl rfl hQ)
        | (rw [if_neg h129] at hQ; exact aw_iret e_Mo_joined_149 rfl rfl hQ)
  · have hQ : Q (some (vi (bI (x.toInt < y.toInt)))) I L R Z := hQ
    refine aw_tsIn (off := 149) (tgt := 150) e_Mo_joined_1 (by decide) (by decide) (by decide) (by decide) ?_
    refine aw_iload_n e_Mo_joined_150 rfl ?_
    refine aw_iload_n e_Mo_joined_151 rfl ?_
    refine awZ_icmp_ge e_Mo_joined_152 (fun h152 => ?_) (fun h152 => ?_)
    · refine aw_iconst (v := nI 0) e_Mo_joined_159 (by decide) ?_
      first
        | exact awB_1 e_Mo_joined_160 (by omega) hQ
        | exact awB_0 e_Mo_joined_160 (by omega) hQ
    · refine aw_iconst (v := nI 1) e_Mo_joined_155 (by decide) ?_
      refine aw_goto e_Mo_joined_156 ?_
      first
        | exact awB_1 e_Mo_joined_160 (by omega) hQ
        | exact awB_0 e_Mo_joined_160 (by omega) hQ
  · have hQ : Q (some (vi (bI (x.toInt = y.toInt)))) I L R Z := hQ
    refine aw_tsIn (off := 171) (tgt := 172) e_Mo_joined_1 (by decide) (by decide) (by decide) (by decide) ?_
    refine aw_iload_n e_Mo_joined_172 rfl ?_
    refine aw_iload_n e_Mo_joined_173 rfl ?_
    refine awZ_icmp_ne e_Mo_joined_174 (fun h174 => ?_) (fun h174 => ?_)
    · refine aw_iconst (v := nI 0) e_Mo_joined_181 (by decide) ?_
      first
        | exact awB_1 e_Mo_joined_182 (by omega) hQ
        | exact awB_0 e_Mo_joined_182 (by omega) hQ
    · refine aw_iconst (v := nI 1) e_Mo_joined_177 (by decide) ?_
      refine aw_goto e_Mo_joined_178 ?_
      first
        | exact awB_1 e_Mo_joined_182 (by omega) hQ
        | exact awB_0 e_Mo_joined_182 (by omega) hQ
  · have hQ : Q (some (vi (bI (y.toInt < x.toInt)))) I L R Z := hQ
    refine aw_tsIn (off := 160) (tgt := 161) e_Mo_joined_1 (by decide) (by decide) (by decide) (by decide) ?_
    refine aw_iload_n e_Mo_joined_161 rfl ?_
    refine aw_iload_n e_Mo_joined_162 rfl ?_
    refine awZ_icmp_le e_Mo_joined_163 (fun h163 => ?_) (fun h163 => ?_)
    · refine aw_iconst (v := nI 0) e_Mo_joined_170 (by decide) ?_
      first
        | exact awB_1 e_Mo_joined_171 (by omega) hQ
        | exact awB_0 e_Mo_joined_171 (by omega) hQ
    · refine aw_iconst (v := nI 1) e_Mo_joined_166 (by decide) ?_
      refine aw_goto e_Mo_joined_167 ?_
      first
        | exact awB_1 e_Mo_joined_171 (by omega) hQ
        | exact awB_0 e_Mo_joined_171 (by omega) hQ
  · have hQ : Q (some (vi (bI (¬ x.toInt = 0 ∧ ¬ y.toInt = 0)))) I L R Z := hQ
    refine aw_tsIn (off := 182) (tgt := 183) e_Mo_joined_1 (by decide) (by decide) (by decide) (by decide) ?_
    refine aw_iload_n e_Mo_joined_183 rfl ?_
    refine awZ_if_eq e_Mo_joined_184 (fun h184 => ?_) (fun h184 => ?_)
    · refine aw_iconst (v := nI 0) e_Mo_joined_195 (by decide) ?_
      first
        | exact awB_1 e_Mo_joined_196 (by omega) hQ
        | exact awB_0 e_Mo_joined_196 (by omega) hQ
    · refine aw_iload_n e_Mo_joined_187 rfl ?_
      refine awZ_if_eq e_Mo_joined_188 (fun h188 => ?_) (fun h188 => ?_)
      · refine aw_iconst (v := nI 0) e_Mo_joined_195 (by decide) ?_
        first
          | exact awB_1 e_Mo_joined_196 (by omega) hQ
          | exact awB_0 e_Mo_joined_196 (by omega) hQ
      · refine aw_iconst (v := nI 1) e_Mo_joined_191 (by decide) ?_
        refine aw_goto e_Mo_joined_192 ?_
        first
          | exact awB_1 e_Mo_joined_196 (by omega) hQ
          | exact awB_0 e_Mo_joined_196 (by omega) hQ
  · have hQ : Q (some (vi (bI (¬ x.toInt = 0 ∨ ¬ y.toInt = 0)))) I L R Z := hQ
    refine aw_tsOut (tgt := 197) e_Mo_joined_1 (Or.inr (by decide)) (by decide) ?_
    refine aw_iload_n e_Mo_joined_197 rfl ?_
    refine awZ_if_ne e_Mo_joined_198 (fun h198 => ?_) (fun h198 => ?_)
    · refine aw_iconst (v := nI 1) e_Mo_joined_205 (by decide) ?_
      refine aw_goto e_Mo_joined_206 ?_
      first
        | exact awB_1 e_Mo_joined_210 (by omega) hQ
        | exact awB_0 e_Mo_joined_210 (by omega) hQ
    · refine aw_iload_n e_Mo_joined_201 rfl ?_
      refine awZ_if_eq e_Mo_joined_202 (fun h202 => ?_) (fun h202 => ?_)
      · refine aw_iconst (v := nI 0) e_Mo_joined_209 (by decide) ?_
        first
          | exact awB_1 e_Mo_joined_210 (by omega) hQ
          | exact awB_0 e_Mo_joined_210 (by omega) hQ
      · refine aw_iconst (v := nI 1) e_Mo_joined_205 (by decide) ?_
        refine aw_goto e_Mo_joined_206 ?_
        first
          | exact awB_1 e_Mo_joined_210 (by omega) hQ
          | exact awB_0 e_Mo_joined_210 (by omega) hQ
theorem c_Mo_worked {l : Launch} {E : En} {d : Nat} {I : It} {L : Lt} {R : Rt} {Z : Zt} {Q : Qt} {V : Mc} (hS : Sta R) (hC : MC I 0 V) (hW : WF V) {j : Nat} {nm : Nat → Int32} (hj : j < nX V) (hN : ∀ q ∈ (tX V j).2.2.2, q.1 = 1 → I 40 0 q.2 = nm q.2) (hQ : ∀ f, Q (some (vi (evT nm (tX V j).2.2.2))) (pil I f) L R Z) : AMet l E (d + 1) M_Mo_worked [vr 9 0, vi (nI j)] I L R Z Q := by
  have hnb := hW.1.2.1
  have hnp := hW.1.1
  have hnx := hW.1.2.2.1
  have hns := hW.1.2.2.2
  obtain ⟨x1, x2, x3, x4⟩ := hC.2.2.2.2 j hj
  obtain ⟨w1, w2, w3, w4, w5, w6, w7⟩ := hW.2.2.2 j hj
  refine AMet.of mf_Mo_worked rfl (Nat.le_of_ble_eq_true rfl) ?_
  refine aw_iconst (v := nI 0) e_Mo_worked_0 (by decide) ?_
  refine aw_ist2 e_Mo_worked_1 ?_
  refine aw_iconst (v := nI 0) e_Mo_worked_2 (by decide) ?_
  refine aw_ist3 e_Mo_worked_3 ?_
  refine AWq.memI (pil_0 I).symm ?_
  refine up_loop (P := fun i => AWq l E (d + 1) M_Mo_worked Z 4 [some (vr 9 0), some (vi (nI j)), some (vi (nI (evl nm ((tX V j).2.2.2.take i) (I 41 0, 0)).2)), some (vi (nI i)), none, none] [] (pil I (evl nm ((tX V j).2.2.2.take i) (I 41 0, 0)).1) L R Z Q) (N := (tX V j).2.2.2.length) (fun i hi ih => ?_) 0 (Nat.zero_le _)
  try dsimp only
  refine aw_iload_n e_Mo_worked_4 rfl ?_
  refine aw_aload_n e_Mo_worked_5 rfl ?_
  refine aw_getR e_Mo_worked_6 fl_Mo_7 (hS.1 _ _ _ _ rfl) ?_
  refine aw_aload_n e_Mo_worked_9 rfl ?_
  refine aw_iload_n e_Mo_worked_10 rfl ?_
  refine aw_cV1 e_Mo_worked_11 ml_Mo_208 mf_Mo_textAt mv_Mo_textAt (c_Mo_textAt ?_)
  refine aw_iconst (v := nI 2) e_Mo_worked_14 (by decide) ?_
  first | refine awN_iadd e_Mo_worked_15 ?_ | refine aw_iadd e_Mo_worked_15 ?_
  refine aw_ialE e_Mo_worked_16 rfl (show _ < 3110 by omega) (by omega) (show _ = nI (tX V j).2.2.2.length by rw [pil_n (by decide)]; exact x3) ?_
  refine awN_icmp_ge e_Mo_worked_17 (by omega) (by omega) (fun h17 => ?_) (fun h17 => ?_)
  · have hi2 : i = (tX V j).2.2.2.length := by omega
    have he2 := evT_any (nm := nm) (I 41 0) w6
    rw [hi2, List.take_length]
    refine aw_aload_n e_Mo_worked_163 rfl ?_
    refine aw_getR e_Mo_worked_164 fl_Mo_56 (hS.1 _ _ _ _ rfl) ?_
    refine aw_iconst (v := nI 0) e_Mo_worked_167 (by decide) ?_
    refine aw_ialE e_Mo_worked_168 rfl (show 0 < 100 by decide) (by decide) ((congrFun (pil_s I _) _).trans he2.2) ?_
    exact aw_iret e_Mo_worked_169 rfl rfl (hQ _)
  · obtain ⟨q, hq⟩ : ∃ q, (tX V j).2.2.2[i]? = some q := ⟨_, List.getElem?_eq_getElem h17⟩
    have hok := okS (w5 q (List.mem_of_getElem? hq))
    obtain ⟨h3, g1, g2⟩ := hgt_take (tX V j).2.2.2 i 0 1 w6
    have g3 := hgt_st (hgt_drop hq g2)
    have g4 := hgt_le _ _ _ g1
    rw [List.length_take] at g4
    have g5 := evl_ht nm (f := I 41 0) g1
    have ihn := ih h17
    rw [evl_take _ _ _ _ _ hq] at ihn
    generalize hst : evl nm ((tX V j).2.2.2.take i) (I 41 0, 0) = S at g5 ihn ⊢
    obtain ⟨f, h⟩ := S
    dsimp only at g5 ihn ⊢
    subst g5
    refine aw_aload_n e_Mo_worked_20 rfl ?_
    refine aw_getR e_Mo_worked_21 fl_Mo_7 (hS.1 _ _ _ _ rfl) ?_
    refine aw_aload_n e_Mo_worked_24 rfl ?_
    refine aw_iload_n e_Mo_worked_25 rfl ?_
    refine aw_cV1 e_Mo_worked_26 ml_Mo_208 mf_Mo_textAt mv_Mo_textAt (c_Mo_textAt ?_)
    refine aw_iconst (v := nI 4) e_Mo_worked_29 (by decide) ?_
    first | refine awN_iadd e_Mo_worked_30 ?_ | refine aw_iadd e_Mo_worked_30 ?_
    refine aw_iconst (v := nI 2) e_Mo_worked_31 (by decide) ?_
    refine aw_iload_n e_Mo_worked_32 rfl ?_
    first | refine awN_imul e_Mo_worked_33 ?_ | refine aw_imul e_Mo_worked_33 ?_
    first | refine awN_iadd e_Mo_worked_34 ?_ | refine aw_iadd e_Mo_worked_34 ?_
    refine aw_ialE e_Mo_worked_35 rfl (show _ < 3110 by omega) (by omega) (show _ = nI q.1 by rw [pil_n (by decide)]; exact (x4 i q hq).1) ?_
    refine aw_ist4 e_Mo_worked_36 ?_
    refine aw_aload_n e_Mo_worked_38 rfl ?_
    refine aw_getR e_Mo_worked_39 fl_Mo_7 (hS.1 _ _ _ _ rfl) ?_
    refine aw_aload_n e_Mo_worked_42 rfl ?_
    refine aw_iload_n e_Mo_worked_43 rfl ?_
    refine aw_cV1 e_Mo_worked_44 ml_Mo_208 mf_Mo_textAt mv_Mo_textAt (c_Mo_textAt ?_)
    refine aw_iconst (v := nI 4) e_Mo_worked_47 (by decide) ?_
    first | refine awN_iadd e_Mo_worked_48 ?_ | refine aw_iadd e_Mo_worked_48 ?_
    refine aw_iconst (v := nI 2) e_Mo_worked_49 (by decide) ?_
    refine aw_iload_n e_Mo_worked_50 rfl ?_
    first | refine awN_imul e_Mo_worked_51 ?_ | refine aw_imul e_Mo_worked_51 ?_
    first | refine awN_iadd e_Mo_worked_52 ?_ | refine aw_iadd e_Mo_worked_52 ?_
    refine aw_iconst (v := nI 1) e_Mo_worked_53 (by decide) ?_
    first | refine awN_iadd e_Mo_worked_54 ?_ | refine aw_iadd e_Mo_worked_54 ?_
    refine aw_ialE e_Mo_worked_55 rfl (show _ < 3110 by omega) (by omega) (show _ = nI q.2 by rw [pil_n (by decide)]; exact (x4 i q hq).2) ?_
    refine aw_ist5 e_Mo_worked_56 ?_
    refine aw_iload e_Mo_worked_58 rfl ?_
    refine aw_iconst (v := nI 2) e_Mo_worked_60 (by decide) ?_
    refine awN_icmp_eq e_Mo_worked_61 (by omega) (by omega) (fun h61 => ?_) (fun h61 => ?_)
    · refine aw_iload e_Mo_worked_93 rfl ?_
      refine aw_bipush (v := nI 33) e_Mo_worked_95 (by decide) ?_
      refine awN_icmp_ne e_Mo_worked_97 (by omega) (by omega) (fun h97 => ?_) (fun h97 => ?_)
      · refine aw_inc2 e_Mo_worked_127 (decm1 (by omega)) ?_
        refine aw_aload_n e_Mo_worked_130 rfl ?_
        refine aw_getR e_Mo_worked_131 fl_Mo_56 (hS.1 _ _ _ _ rfl) ?_
        refine aw_iload_n e_Mo_worked_134 rfl ?_
        refine aw_iconst (v := nI 1) e_Mo_worked_135 (by decide) ?_
        refine awN_isub e_Mo_worked_136 (by omega) ?_
        rw [show h - 1 - 1 = h - 2 by omega]
        refine aw_iload e_Mo_worked_137 rfl ?_
        refine aw_aload_n e_Mo_worked_139 rfl ?_
        refine aw_getR e_Mo_worked_140 fl_Mo_56 (hS.1 _ _ _ _ rfl) ?_
        refine aw_iload_n e_Mo_worked_143 rfl ?_
        refine aw_iconst (v := nI 1) e_Mo_worked_144 (by decide) ?_
        refine awN_isub e_Mo_worked_145 (by omega) ?_
        rw [show h - 1 - 1 = h - 2 by omega]
        refine aw_ialE e_Mo_worked_146 rfl (show _ < 100 by omega) (by omega) (congrFun (pil_s I f) _) ?_
        refine aw_aload_n e_Mo_worked_147 rfl ?_
        refine aw_getR e_Mo_worked_148 fl_Mo_56 (hS.1 _ _ _ _ rfl) ?_
        refine aw_iload_n e_Mo_worked_151 rfl ?_
        refine aw_ialE e_Mo_worked_152 rfl (show _ < 100 by omega) (by omega) (congrFun (pil_s I f) _) ?_
        refine aw_cS3 e_Mo_worked_153 ml_Mo_322 mf_Mo_joined ms_Mo_joined (c_Mo_joined (by omega) ?_)
        refine aw_iast e_Mo_worked_156 rfl (show _ < 100 by omega) (by omega) ?_
        refine aw_inc3 e_Mo_worked_157 (inc1 _) ?_
        refine aw_goto e_Mo_worked_160 ?_
        refine aw_drop 4 ?_
        refine aw_drop 5 ?_
        rw [pil_u]
        unfold evs at ihn
        first
          | (rw [if_pos h71] at ihn; exact ihn)
          | (rw [if_neg h71, if_pos (by omega)] at ihn; exact ihn)
          | (rw [if_neg (show ¬ q.1 = 0 by omega), if_neg (show ¬ q.1 = 1 by omega), if_pos h97] at ihn; rw [show nI 1 = nt (f (h - 1)) from (bI_t h115).symm]; exact ihn)
          | (rw [if_neg (show ¬ q.1 = 0 by omega), if_neg (show ¬ q.1 = 1 by omega), if_pos h97] at ihn; rw [show nI 0 = nt (f (h - 1)) from (bI_f h115).symm]; exact ihn)
          | (rw [if_neg (show ¬ q.1 = 0 by omega), if_neg (show ¬ q.1 = 1 by omega), if_neg h97] at ihn; exact ihn)
      · refine aw_aload_n e_Mo_worked_100 rfl ?_
        refine aw_getR e_Mo_worked_101 fl_Mo_56 (hS.1 _ _ _ _ rfl) ?_
        refine aw_iload_n e_Mo_worked_104 rfl ?_
        refine aw_iconst (v := nI 1) e_Mo_worked_105 (by decide) ?_
        refine awN_isub e_Mo_worked_106 (by omega) ?_
        refine aw_aload_n e_Mo_worked_107 rfl ?_
        refine aw_getR e_Mo_worked_108 fl_Mo_56 (hS.1 _ _ _ _ rfl) ?_
        refine aw_iload_n e_Mo_worked_111 rfl ?_
        refine aw_iconst (v := nI 1) e_Mo_worked_112 (by decide) ?_
        refine awN_isub e_Mo_worked_113 (by omega) ?_
        refine aw_ialE e_Mo_worked_114 rfl (show _ < 100 by omega) (by omega) (congrFun (pil_s I f) _) ?_
        refine awZ_if_ne e_Mo_worked_115 (fun h115 => ?_) (fun h115 => ?_)
        · refine aw_iconst (v := nI 0) e_Mo_worked_122 (by decide) ?_
          refine aw_iast e_Mo_worked_123 rfl (show _ < 100 by omega) (by omega) ?_
          refine aw_goto e_Mo_worked_124 ?_
          refine aw_inc3 e_Mo_worked_157 (inc1 _) ?_
          refine aw_goto e_Mo_worked_160 ?_
          refine aw_drop 4 ?_
          refine aw_drop 5 ?_
          rw [pil_u]
          unfold evs at ihn
          first
            | (rw [if_pos h71] at ihn; exact ihn)
            | (rw [if_neg h71, if_pos (by omega)] at ihn; exact ihn)
            | (rw [if_neg (show ¬ q.1 = 0 by omega), if_neg (show ¬ q.1 = 1 by omega), if_pos h97] at ihn; rw [show nI 1 = nt (f (h - 1)) from (bI_t h115).symm]; exact ihn)
            | (rw [if_neg (show ¬ q.1 = 0 by omega), if_neg (show ¬ q.1 = 1 by omega), if_pos h97] at ihn; rw [show nI 0 = nt (f (h - 1)) from (bI_f h115).symm]; exact ihn)
            | (rw [if_neg (show ¬ q.1 = 0 by omega), if_neg (show ¬ q.1 = 1 by omega), if_neg h97] at ihn; exact ihn)
        · refine aw_iconst (v := nI 1) e_Mo_worked_118 (by decide) ?_
          refine aw_goto e_Mo_worked_119 ?_
          refine aw_iast e_Mo_worked_123 rfl (show _ < 100 by omega) (by omega) ?_
          refine aw_goto e_Mo_worked_124 ?_
          refine aw_inc3 e_Mo_worked_157 (inc1 _) ?_
          refine aw_goto e_Mo_worked_160 ?_
          refine aw_drop 4 ?_
          refine aw_drop 5 ?_
          rw [pil_u]
          unfold evs at ihn
          first
            | (rw [if_pos h71] at ihn; exact ihn)
            | (rw [if_neg h71, if_pos (by omega)] at ihn; exact ihn)
            | (rw [if_neg (show ¬ q.1 = 0 by omega), if_neg (show ¬ q.1 = 1 by omega), if_pos h97] at ihn; rw [show nI 1 = nt (f (h - 1)) from (bI_t h115).symm]; exact ihn)
            | (rw [if_neg (show ¬ q.1 = 0 by omega), if_neg (show ¬ q.1 = 1 by omega), if_pos h97] at ihn; rw [show nI 0 = nt (f (h - 1)) from (bI_f h115).symm]; exact ihn)
            | (rw [if_neg (show ¬ q.1 = 0 by omega), if_neg (show ¬ q.1 = 1 by omega), if_neg h97] at ihn; exact ihn)
    · refine aw_aload_n e_Mo_worked_64 rfl ?_
      refine aw_getR e_Mo_worked_65 fl_Mo_56 (hS.1 _ _ _ _ rfl) ?_
      refine aw_iload_n e_Mo_worked_68 rfl ?_
      refine aw_iload e_Mo_worked_69 rfl ?_
      refine awN_if_ne e_Mo_worked_71 (by omega) (fun h71 => ?_) (fun h71 => ?_)
      · refine aw_aload_n e_Mo_worked_79 rfl ?_
        refine aw_getR e_Mo_worked_80 fl_Mo_53 (hS.1 _ _ _ _ rfl) ?_
        refine aw_iload e_Mo_worked_83 rfl ?_
        refine aw_ialE e_Mo_worked_85 rfl (show _ < 128 by omega) (by omega) (show _ = nm q.2 by rw [pil_n (by decide)]; exact hN q (List.mem_of_getElem? hq) (by omega)) ?_
        refine aw_iast e_Mo_worked_86 rfl (show _ < 100 by omega) (by omega) ?_
        refine aw_inc2 e_Mo_worked_87 (inc1 _) ?_
        refine aw_goto e_Mo_worked_90 ?_
        refine aw_inc3 e_Mo_worked_157 (inc1 _) ?_
        refine aw_goto e_Mo_worked_160 ?_
        refine aw_drop 4 ?_
        refine aw_drop 5 ?_
        rw [pil_u]
        unfold evs at ihn
        first
          | (rw [if_pos h71] at ihn; exact ihn)
          | (rw [if_neg h71, if_pos (by omega)] at ihn; exact ihn)
          | (rw [if_neg (show ¬ q.1 = 0 by omega), if_neg (show ¬ q.1 = 1 by omega), if_pos h97] at ihn; rw [show nI 1 = nt (f (h - 1)) from (bI_t h115).symm]; exact ihn)
          | (rw [if_neg (show ¬ q.1 = 0 by omega), if_neg (show ¬ q.1 = 1 by omega), if_pos h97] at ihn; rw [show nI 0 = nt (f (h - 1)) from (bI_f h115).symm]; exact ihn)
          | (rw [if_neg (show ¬ q.1 = 0 by omega), if_neg (show ¬ q.1 = 1 by omega), if_neg h97] at ihn; exact ihn)
      · refine aw_iload e_Mo_worked_74 rfl ?_
        refine aw_goto e_Mo_worked_76 ?_
        refine aw_iast e_Mo_worked_86 rfl (show _ < 100 by omega) (by omega) ?_
        refine aw_inc2 e_Mo_worked_87 (inc1 _) ?_
        refine aw_goto e_Mo_worked_90 ?_
        refine aw_inc3 e_Mo_worked_157 (inc1 _) ?_
        refine aw_goto e_Mo_worked_160 ?_
        refine aw_drop 4 ?_
        refine aw_drop 5 ?_
        rw [pil_u]
        unfold evs at ihn
        first
          | (rw [if_pos h71] at ihn; exact ihn)
          | (rw [if_neg h71, if_pos (by omega)] at ihn; exact ihn)
          | (rw [if_neg (show ¬ q.1 = 0 by omega), if_neg (show ¬ q.1 = 1 by omega), if_pos h97] at ihn; rw [show nI 1 = nt (f (h - 1)) from (bI_t h115).symm]; exact ihn)
          | (rw [if_neg (show ¬ q.1 = 0 by omega), if_neg (show ¬ q.1 = 1 by omega), if_pos h97] at ihn; rw [show nI 0 = nt (f (h - 1)) from (bI_f h115).symm]; exact ihn)
          | (rw [if_neg (show ¬ q.1 = 0 by omega), if_neg (show ¬ q.1 = 1 by omega), if_neg h97] at ihn; exact ihn)
theorem c_Mo_counts {l : Launch} {E : En} {d : Nat} {I : It} {L : Lt} {R : Rt} {Z : Zt} {Q : Qt} {V : Mc} (hS : Sta R) (hC : MC I 0 V) (hW : WF V) {key tg : Nat} (hkey : key < 2) (htg : tg < 12) (hQ : Q (some (vi (oI (lastT V key tg (nX V))))) I L R Z) : AMet l E (d + 1) M_Mo_counts [vr 9 0, vi (nI (12 * key + tg))] I L R Z Q := by
  have hnb := hW.1.2.1
  have hnp := hW.1.1
  have hnx := hW.1.2.2.1
  have hns := hW.1.2.2.2
  refine AMet.of mf_Mo_counts rfl (Nat.le_of_ble_eq_true rfl) ?_
  refine aw_iconst (v := -1) e_Mo_counts_0 (by decide) ?_
  refine aw_ist2 e_Mo_counts_1 ?_
  refine aw_iconst (v := nI 0) e_Mo_counts_2 (by decide) ?_
  refine aw_ist3 e_Mo_counts_3 ?_
  refine up_loop (P := fun i => AWq l E (d + 1) M_Mo_counts Z 4 [some (vr 9 0), some (vi (nI (12 * key + tg))), some (vi (oI (lastT V key tg i))), some (vi (nI i))] [] I L R Z Q) (N := nX V) (fun i hi ih => ?_) 0 (Nat.zero_le _)
  refine aw_iload_n e_Mo_counts_4 rfl ?_
  refine aw_aload_n e_Mo_counts_5 rfl ?_
  refine aw_getR e_Mo_counts_6 fl_Mo_7 (hS.1 _ _ _ _ rfl) ?_
  refine aw_iconst (v := nI 2) e_Mo_counts_9 (by decide) ?_
  refine aw_ialE e_Mo_counts_10 rfl (show _ < 3110 by omega) (by omega) (by first | exact hC.1.1 | exact hC.1.2.1 | exact hC.1.2.2.1 | exact hC.1.2.2.2 | exact hC.pk (by omega) | exact hC.2.1 _ _ (by omega) (by decide) | exact hC.2.2.1 _ (by omega) | exact hC.2.2.2.1 _ (by omega)) ?_
  refine awN_icmp_ge e_Mo_counts_11 (by omega) (by omega) (fun h11 => ?_) (fun h11 => ?_)
  · refine aw_iload_n e_Mo_counts_40 rfl ?_
    exact aw_iret e_Mo_counts_41 rfl rfl (by rw [show i = nX V by omega]; exact hQ)
  · have hwt := hW.2.2.2 i h11
    have hwt1 := hwt.1
    have hwt2 := hwt.2.1
    refine aw_aload_n e_Mo_counts_14 rfl ?_
    refine aw_getR e_Mo_counts_15 fl_Mo_7 (hS.1 _ _ _ _ rfl) ?_
    refine aw_aload_n e_Mo_counts_18 rfl ?_
    refine aw_iload_n e_Mo_counts_19 rfl ?_
    refine aw_cV1 e_Mo_counts_20 ml_Mo_208 mf_Mo_textAt mv_Mo_textAt (c_Mo_textAt ?_)
    refine aw_ialE e_Mo_counts_23 rfl (show _ < 3110 by omega) (by omega) (hC.2.2.2.2 i h11).1 ?_
    refine aw_iload_n e_Mo_counts_24 rfl ?_
    refine awN_icmp_ne e_Mo_counts_25 (by omega) (by omega) (fun h25 => ?_) (fun h25 => ?_)
    · refine aw_iload_n e_Mo_counts_32 rfl ?_
      refine aw_ist2 e_Mo_counts_33 ?_
      refine aw_inc3 e_Mo_counts_34 (inc1 _) ?_
      refine aw_goto e_Mo_counts_37 ?_
      have h := ih h11
      unfold lastT at h
      first
        | (rw [if_pos ⟨by omega, by omega⟩] at h; exact h)
        | (rw [if_neg (fun z => h25 (by omega))] at h; exact h)
    · refine aw_iload_n e_Mo_counts_28 rfl ?_
      refine aw_goto e_Mo_counts_29 ?_
      refine aw_ist2 e_Mo_counts_33 ?_
      refine aw_inc3 e_Mo_counts_34 (inc1 _) ?_
      refine aw_goto e_Mo_counts_37 ?_
      have h := ih h11
      unfold lastT at h
      first
        | (rw [if_pos ⟨by omega, by omega⟩] at h; exact h)
        | (rw [if_neg (fun z => h25 (by omega))] at h; exact h)
