/-! ===== the model: checks ===== -/
theorem it_w {W : Mc} (hW : WF W) : ∀ k, nS W + k ≤ 20000 → WF (itV W k) ∧ nS (itV W k) = nS W + k ∧ nP (itV W k) = nP W ∧ nB (itV W k) = nB W
  | 0, _ => ⟨hW, rfl, rfl, rfl⟩
  | k + 1, h => by
    have ih := it_w hW k (by omega)
    have hs := stp_n (itV W k) (fun b => ansX (itV W k) (2 * b)) (fun b => ansX (itV W k) (2 * b + 1))
    exact ⟨WF_stepV ih.1 (by omega), hs.2.2.2.trans (by omega), hs.1.trans ih.2.2.1, hs.2.1.trans ih.2.2.2⟩
def fC (I I2 : It) : Prop := (∀ t i, ¬ (t = 28 ∧ i = 0) → ¬ (t = 9 ∧ i = 0) → t ≠ 40 → t ≠ 41 → t ≠ 46 → I2 t i = I t i) ∧ ∀ f, f ≠ 13 → I2 9 0 f = I 9 0 f
theorem fC_0 {I : It} : fC I I := ⟨fun _ _ _ _ _ _ _ => rfl, fun _ _ => rfl⟩
theorem fC_t {I I2 I3 : It} (h : fC I I2) (h2 : fC I2 I3) : fC I I3 := ⟨fun t i a b c d e => (h2.1 t i a b c d e).trans (h.1 t i a b c d e), fun f hf => (h2.2 f hf).trans (h.2 f hf)⟩
theorem fG.C {I I2 : It} (h : fG I I2) : fC I I2 := ⟨fun t i a b c d _ => h.1 t i a b c d, h.2⟩
theorem fC_r {I I1 : It} {n : Nat} {x : Int32} (h : fC I I1) : fC I (sI I1 46 0 n x) := ⟨fun t i a b c d e => (sI_n (by omega)).trans (h.1 t i a b c d e), fun f hf => (sI_n2 (by omega)).trans (h.2 f hf)⟩
theorem fC.M {I I2 : It} (h : fC I I2) : fM I I2 := ⟨fun t i a b c _ _ d g => h.1 t i (fun z => g ⟨z.1, by omega⟩) (fun z => a z.1) b c d, h.2 3 (by decide), h.2 16 (by decide), h.2 33 (by decide)⟩
theorem row_e (V : Mc) (i : Nat) : rowV V (2 * i) = nI (sumS (itV V (i + 1)) (nP V)) := by unfold rowV; rw [if_pos (by omega), show 2 * i / 2 = i by omega]
theorem row_o (V : Mc) (i : Nat) : rowV V (2 * i + 1) = nI (ansX (itV V (i + 1)) 0) := by unfold rowV; rw [if_neg (by omega), show (2 * i + 1) / 2 = i by omega]
theorem chk_y {V : Mc} {c n : Nat} {w : Nat → Int32} (h : ∀ i, i ≤ n → ansC (itV V i) = 1) : chkV V c w n = if rgt V w (min c (2 * n)) = 2 * n ∧ c = 2 * n then nI 0 else nI (1 + rgt V w (min c (2 * n))) := by unfold chkV; exact if_pos h
theorem chk_n {V : Mc} {c n : Nat} {w : Nat → Int32} (h : ¬ ∀ i, i ≤ n → ansC (itV V i) = 1) : chkV V c w n = -1000000002 := by unfold chkV; exact if_neg h
theorem whole_B {V : Mc} (h : ansC V = 1) : 0 < nB V := by
  have hw : whole V = true := Decidable.byContradiction (fun z => absurd (ansC_w z) (by omega))
  unfold whole at hw
  rw [Bool.and_eq_true, decide_eq_true_eq] at hw
  exact hw.2
theorem MSt_w0 {I : It} {S : AS} (h : MSt I S) : MSt (sI I 9 0 33 (nI 0)) (sM S, sG S, sK S, sT S, sH S, sL2 S, (0, (sW S).2)) := by
  obtain ⟨hC, m1, m2, m3, m4, m5, m6⟩ := h
  have e : ∀ t i, t ≠ 9 → sI I 9 0 33 (nI 0) t i = I t i := fun t i h9 => sI_n (by omega)
  refine ⟨hC.keep (e 28 0 (by decide)), fun z => (m1 z).keep (e 28 1 (by decide)), (sI_ne (by decide)).trans m2, ⟨(sI_ne (by decide)).trans m3.1, by rw [e 39 0 (by decide)]; exact m3.2⟩, fun i hi => ?_, fun i hi => ?_, ⟨sI_eq _ _ _ _ _, fun j hj => absurd hj (Nat.not_lt_zero j)⟩⟩
  · unfold MSh
    rw [e 29 0 (by decide), e 30 0 (by decide), e 31 0 (by decide)]
    exact m4 i hi
  · unfold MSl
    rw [e 32 0 (by decide), e 33 0 (by decide), e 34 0 (by decide), e 35 0 (by decide), e 36 0 (by decide)]
    exact m5 i hi
theorem c_Mo_check {l : Launch} {E : En} {d : Nat} {I : It} {L : Lt} {R : Rt} {Z : Zt} {Q : Qt} {S : AS} (hS : Sta R) (hM : MSt I S) (hA : AWF S) {x : Int32} (hQ : ∀ I2 L2, MSt I2 (op_check S x).1 → fK I I2 → Q (some (vi (op_check S x).2)) I2 L2 R Z) : AMet l E (d + 6) M_Mo_check [vr 9 0, vi x] I L R Z Q := by
  have hC := hM.1
  have hW := hA.1.1
  have hnb := hW.1.2.1
  have hnp := hW.1.1
  have hnx := hW.1.2.2.1
  have hns := hW.1.2.2.2
  have hc60 := hA.2.2.2.2.2.2
  obtain ⟨m1, m2, m3, m4, m5, m6⟩ := hM.2
  have hM0 := MSt_w0 hM
  have hk01 := hA.2.2.1
  refine AMet.of mf_Mo_check rfl (Nat.le_of_ble_eq_true rfl) ?_
  refine aw_aload_n e_Mo_check_0 rfl ?_
  refine aw_getE e_Mo_check_1 fl_Mo_343 m6.1 ?_
  refine aw_ist2 e_Mo_check_4 ?_
  refine aw_aload_n e_Mo_check_5 rfl ?_
  refine aw_iconst (v := nI 0) e_Mo_check_6 (by decide) ?_
  refine aw_putI e_Mo_check_7 fl_Mo_343 ?_
  refine aw_iload_n e_Mo_check_10 rfl ?_
  refine aw_i2l e_Mo_check_11 ?_
  refine aw_lconst (v := lN 1) e_Mo_check_12 rfl ?_
  refine aw_ldc2 (v := lN 30) e_Mo_check_13 kl_Mo_346 ?_
  refine aw_cS3 e_Mo_check_16 ml_Mo_75 mf_Mo_isIn ms_Mo_isIn (c_Mo_isInC (by decide) (by decide) ?_)
  refine awB_ne e_Mo_check_19 (fun h19 => ?_) (fun h19 => ?_)
  · have hg : 1 ≤ x.toInt ∧ x.toInt ≤ 30 := ⟨by omega, by omega⟩
    obtain ⟨n, hn, rfl⟩ := inR_nI (x := x) (n := 31) ⟨by omega, by omega⟩
    have hT := nT (n := n) (by omega)
    have hn1 : 1 ≤ n := by omega
    refine aw_aload_n e_Mo_check_25 rfl ?_
    refine aw_getE e_Mo_check_26 fl_Mo_348 ((sI_ne (by decide)).trans m2) ?_
    refine awN_if_ne e_Mo_check_29 (by omega) (fun h29 => ?_) (fun h29 => ?_)
    · have hk1 : sK S = 1 := by omega
      have hWg := (hA.2.1 hk1).1
      have hSg := (hA.2.1 hk1).2.1
      generalize hI0 : sI I 9 0 33 (nI 0) = I0 at *
      obtain ⟨c, hc⟩ : ∃ c, c = (sW S).1 := ⟨_, rfl⟩
      rw [← hc]
      clear hn1
      have hn1 : 1 ≤ n := by omega
      refine aw_aload_n e_Mo_check_35 rfl ?_
      refine aw_aload_n e_Mo_check_36 rfl ?_
      refine aw_getR e_Mo_check_37 fl_Mo_7 (hS.1 _ _ _ _ rfl) ?_
      refine aw_aload_n e_Mo_check_40 rfl ?_
      refine aw_getR e_Mo_check_41 fl_Mo_16 (hS.1 _ _ _ _ rfl) ?_
      refine aw_cV2 e_Mo_check_44 ml_Mo_222 mf_Mo_setAside mv_Mo_setAside (c_Mo_setAside (a := 0) (b := 2) (by decide) (fun Ia hca hfa => ?_))
      refine aw_aload_n e_Mo_check_47 rfl ?_
      refine aw_aload_n e_Mo_check_48 rfl ?_
      refine aw_getR e_Mo_check_49 fl_Mo_13 (hS.1 _ _ _ _ rfl) ?_
      refine aw_aload_n e_Mo_check_52 rfl ?_
      refine aw_getR e_Mo_check_53 fl_Mo_7 (hS.1 _ _ _ _ rfl) ?_
      refine aw_cV2 e_Mo_check_56 ml_Mo_222 mf_Mo_setAside mv_Mo_setAside (c_Mo_setAside (a := 1) (b := 0) (by decide) (fun I1 hcb hfb => ?_))
      have hCg : MC I1 0 (sG S) := (hM0.2.1 hk1).cp hWg (fun q hq => by rw [hcb q hq, hfa 28 1 (by decide)])
      have k143f : ¬ (∀ k, k ≤ n → ansC (itV (sG S) k) = 1) → ∀ I2 L2, fC I1 I2 → AWq l E (d + 6) M_Mo_check Z 143 [some (vr 9 0), some (vi (nI n)), some (vi (nI c)), some (vi (nI 0)), none] [] I2 L2 R Z Q := fun hno I2 L2 hf2 => by
        refine aw_aload_n e_Mo_check_143 rfl ?_
        refine aw_aload_n e_Mo_check_144 rfl ?_
        refine aw_getR e_Mo_check_145 fl_Mo_16 (hS.1 _ _ _ _ rfl) ?_
        refine aw_aload_n e_Mo_check_148 rfl ?_
        refine aw_getR e_Mo_check_149 fl_Mo_7 (hS.1 _ _ _ _ rfl) ?_
        refine aw_cV2 e_Mo_check_152 ml_Mo_222 mf_Mo_setAside mv_Mo_setAside (c_Mo_setAside (a := 2) (b := 0) (by decide) (fun I4 hc4 hf4 => ?_))
        refine aw_iload_n e_Mo_check_155 rfl ?_
        refine awN_if_ne e_Mo_check_156 (by omega) (fun h156 => ?_) (fun h156 => ?_)
        · exact absurd rfl h156
        · refine aw_ldc (v := -1000000002) e_Mo_check_159 kc_Mo_94 ?_
          have hrow : ∀ q, q < 3110 → I4 28 0 q = I0 28 0 q := fun q hq => by rw [hc4 q hq, hf2.1 28 2 (by decide) (by decide) (by decide) (by decide) (by decide), hfb 28 2 (by decide), hca q hq]
          have hfm : fM I0 I4 := fM_t (fM_t (fM_t (fM_c (by decide) hfa) (fM_c (by decide) hfb)) hf2.M) (fM_c (by decide) hf4)
          have hms : MSt I4 (sM S, sG S, sK S, sT S, sH S, sL2 S, (0, (sW S).2)) := ⟨hM0.1.cp hW hrow, hM0.2.keep hfm⟩
          have hfk : fK I I4 := fun t i h1 h2 => (hfm.K t i h1 h2).trans (by rw [← hI0, sI_n (by omega)])
          have hq := hQ I4 L2
          unfold op_check at hq
          rw [if_pos hg, if_pos hk1, ix_n (j := n) (by omega), chk_n hno] at hq
          exact aw_iret e_Mo_check_161 rfl rfl (hq hms hfk)
      have k143t : (∀ k, k ≤ n → ansC (itV (sG S) k) = 1) → ∀ I2 L2, fC I1 I2 → (∀ j, j < 2 * n → I2 46 0 j = rowV (sG S) j) → AWq l E (d + 6) M_Mo_check Z 143 [some (vr 9 0), some (vi (nI n)), some (vi (nI c)), some (vi (nI 1)), none] [] I2 L2 R Z Q := fun hyes I2 L2 hf2 hr2 => by
        refine aw_aload_n e_Mo_check_143 rfl ?_
        refine aw_aload_n e_Mo_check_144 rfl ?_
        refine aw_getR e_Mo_check_145 fl_Mo_16 (hS.1 _ _ _ _ rfl) ?_
        refine aw_aload_n e_Mo_check_148 rfl ?_
        refine aw_getR e_Mo_check_149 fl_Mo_7 (hS.1 _ _ _ _ rfl) ?_
        refine aw_cV2 e_Mo_check_152 ml_Mo_222 mf_Mo_setAside mv_Mo_setAside (c_Mo_setAside (a := 2) (b := 0) (by decide) (fun I4 hc4 hf4 => ?_))
        refine aw_iload_n e_Mo_check_155 rfl ?_
        refine awN_if_ne e_Mo_check_156 (by omega) (fun h156 => ?_) (fun h156 => ?_)
        · have hrow : ∀ q, q < 3110 → I4 28 0 q = I0 28 0 q := fun q hq => by rw [hc4 q hq, hf2.1 28 2 (by decide) (by decide) (by decide) (by decide) (by decide), hfb 28 2 (by decide), hca q hq]
          have hfm : fM I0 I4 := fM_t (fM_t (fM_t (fM_c (by decide) hfa) (fM_c (by decide) hfb)) hf2.M) (fM_c (by decide) hf4)
          have hms : MSt I4 (sM S, sG S, sK S, sT S, sH S, sL2 S, (0, (sW S).2)) := ⟨hM0.1.cp hW hrow, hM0.2.keep hfm⟩
          have hfk : fK I I4 := fun t i h1 h2 => (hfm.K t i h1 h2).trans (by rw [← hI0, sI_n (by omega)])
          refine aw_iconst (v := nI 0) e_Mo_check_162 (by decide) ?_
          refine aw_ist4 e_Mo_check_163 ?_
          refine up_loop (P := fun k => fst' (fun j => !(decide ((sW S).2 j = rowV (sG S) j))) (min c (2 * n)) k = rgt (sG S) (sW S).2 (min c (2 * n)) → AWq l E (d + 6) M_Mo_check Z 165 [some (vr 9 0), some (vi (nI n)), some (vi (nI c)), some (vi (nI 1)), some (vi (nI k))] [] I4 L2 R Z Q) (N := min c (2 * n)) (fun k hk ih hv => ?_) 0 (Nat.zero_le _) rfl
          refine aw_iload e_Mo_check_165 rfl ?_
          refine aw_iload_n e_Mo_check_167 rfl ?_
          refine awN_icmp_ge e_Mo_check_168 (by omega) (by omega) (fun h168 => ?_) (fun h168 => ?_)
          · have hrg : k = rgt (sG S) (sW S).2 (min c (2 * n)) := by
              rw [← hv]
              first
                | (have hkm : k = min c (2 * n) := by omega
                   rw [fst_ge (by omega)]
                   exact hkm)
                | exact (fst_t (by omega) (by rw [decide_eq_false h193]; rfl)).symm
            refine aw_iload e_Mo_check_202 rfl ?_
            refine aw_iload_n e_Mo_check_204 rfl ?_
            refine awN_icmp_ne e_Mo_check_205 (by omega) (by omega) (fun h205 => ?_) (fun h205 => ?_)
            · refine aw_iconst (v := nI 1) e_Mo_check_220 (by decide) ?_
              refine aw_iload e_Mo_check_221 rfl ?_
              first | refine awN_iadd e_Mo_check_223 ?_ | refine aw_iadd e_Mo_check_223 ?_
              have hq := hQ I4 L2
              unfold op_check at hq
              rw [if_pos hg, if_pos hk1, ix_n (j := n) (by omega), chk_y hyes, ← hc, ← hrg] at hq
              first
                | (exfalso; omega)
                | (rw [if_pos ⟨by omega, by omega⟩] at hq; exact aw_iret e_Mo_check_224 rfl rfl (hq hms hfk))
                | (rw [if_neg (fun z => by omega)] at hq; exact aw_iret e_Mo_check_224 rfl rfl (hq hms hfk))
            · refine aw_iload e_Mo_check_208 rfl ?_
              refine aw_iconst (v := nI 2) e_Mo_check_210 (by decide) ?_
              refine aw_iload_n e_Mo_check_211 rfl ?_
              first | refine awN_imul e_Mo_check_212 ?_ | refine aw_imul e_Mo_check_212 ?_
              refine awN_icmp_ne e_Mo_check_213 (by omega) (by omega) (fun h213 => ?_) (fun h213 => ?_)
              · refine aw_iconst (v := nI 1) e_Mo_check_220 (by decide) ?_
                refine aw_iload e_Mo_check_221 rfl ?_
                first | refine awN_iadd e_Mo_check_223 ?_ | refine aw_iadd e_Mo_check_223 ?_
                have hq := hQ I4 L2
                unfold op_check at hq
                rw [if_pos hg, if_pos hk1, ix_n (j := n) (by omega), chk_y hyes, ← hc, ← hrg] at hq
                first
                  | (exfalso; omega)
                  | (rw [if_pos ⟨by omega, by omega⟩] at hq; exact aw_iret e_Mo_check_224 rfl rfl (hq hms hfk))
                  | (rw [if_neg (fun z => by omega)] at hq; exact aw_iret e_Mo_check_224 rfl rfl (hq hms hfk))
              · refine aw_iconst (v := nI 0) e_Mo_check_216 (by decide) ?_
                refine aw_goto e_Mo_check_217 ?_
                have hq := hQ I4 L2
                unfold op_check at hq
                rw [if_pos hg, if_pos hk1, ix_n (j := n) (by omega), chk_y hyes, ← hc, ← hrg] at hq
                first
                  | (exfalso; omega)
                  | (rw [if_pos ⟨by omega, by omega⟩] at hq; exact aw_iret e_Mo_check_224 rfl rfl (hq hms hfk))
                  | (rw [if_neg (fun z => by omega)] at hq; exact aw_iret e_Mo_check_224 rfl rfl (hq hms hfk))
          · refine aw_iload e_Mo_check_171 rfl ?_
            refine aw_iconst (v := nI 2) e_Mo_check_173 (by decide) ?_
            refine aw_iload_n e_Mo_check_174 rfl ?_
            first | refine awN_imul e_Mo_check_175 ?_ | refine aw_imul e_Mo_check_175 ?_
            refine awN_icmp_ge e_Mo_check_176 (by omega) (by omega) (fun h176 => ?_) (fun h176 => ?_)
            · have hrg : k = rgt (sG S) (sW S).2 (min c (2 * n)) := by
                rw [← hv]
                first
                  | (have hkm : k = min c (2 * n) := by omega
                     rw [fst_ge (by omega)]
                     exact hkm)
                  | exact (fst_t (by omega) (by rw [decide_eq_false h193]; rfl)).symm
              refine aw_iload e_Mo_check_202 rfl ?_
              refine aw_iload_n e_Mo_check_204 rfl ?_
              refine awN_icmp_ne e_Mo_check_205 (by omega) (by omega) (fun h205 => ?_) (fun h205 => ?_)
              · refine aw_iconst (v := nI 1) e_Mo_check_220 (by decide) ?_
                refine aw_iload e_Mo_check_221 rfl ?_
                first | refine awN_iadd e_Mo_check_223 ?_ | refine aw_iadd e_Mo_check_223 ?_
                have hq := hQ I4 L2
                unfold op_check at hq
                rw [if_pos hg, if_pos hk1, ix_n (j := n) (by omega), chk_y hyes, ← hc, ← hrg] at hq
                first
                  | (exfalso; omega)
                  | (rw [if_pos ⟨by omega, by omega⟩] at hq; exact aw_iret e_Mo_check_224 rfl rfl (hq hms hfk))
                  | (rw [if_neg (fun z => by omega)] at hq; exact aw_iret e_Mo_check_224 rfl rfl (hq hms hfk))
              · refine aw_iload e_Mo_check_208 rfl ?_
                refine aw_iconst (v := nI 2) e_Mo_check_210 (by decide) ?_
                refine aw_iload_n e_Mo_check_211 rfl ?_
                first | refine awN_imul e_Mo_check_212 ?_ | refine aw_imul e_Mo_check_212 ?_
                refine awN_icmp_ne e_Mo_check_213 (by omega) (by omega) (fun h213 => ?_) (fun h213 => ?_)
                · refine aw_iconst (v := nI 1) e_Mo_check_220 (by decide) ?_
                  refine aw_iload e_Mo_check_221 rfl ?_
                  first | refine awN_iadd e_Mo_check_223 ?_ | refine aw_iadd e_Mo_check_223 ?_
                  have hq := hQ I4 L2
                  unfold op_check at hq
                  rw [if_pos hg, if_pos hk1, ix_n (j := n) (by omega), chk_y hyes, ← hc, ← hrg] at hq
                  first
                    | (exfalso; omega)
                    | (rw [if_pos ⟨by omega, by omega⟩] at hq; exact aw_iret e_Mo_check_224 rfl rfl (hq hms hfk))
                    | (rw [if_neg (fun z => by omega)] at hq; exact aw_iret e_Mo_check_224 rfl rfl (hq hms hfk))
                · refine aw_iconst (v := nI 0) e_Mo_check_216 (by decide) ?_
                  refine aw_goto e_Mo_check_217 ?_
                  have hq := hQ I4 L2
                  unfold op_check at hq
                  rw [if_pos hg, if_pos hk1, ix_n (j := n) (by omega), chk_y hyes, ← hc, ← hrg] at hq
                  first
                    | (exfalso; omega)
                    | (rw [if_pos ⟨by omega, by omega⟩] at hq; exact aw_iret e_Mo_check_224 rfl rfl (hq hms hfk))
                    | (rw [if_neg (fun z => by omega)] at hq; exact aw_iret e_Mo_check_224 rfl rfl (hq hms hfk))
            · refine aw_aload_n e_Mo_check_179 rfl ?_
              refine aw_getR e_Mo_check_180 fl_Mo_68 (hS.1 _ _ _ _ rfl) ?_
              refine aw_iload e_Mo_check_183 rfl ?_
              refine aw_ialE e_Mo_check_185 rfl (show _ < 60 by omega) (by omega) (show _ = (sW S).2 k by rw [hf4 45 0 (by decide), hf2.1 45 0 (by decide) (by decide) (by decide) (by decide) (by decide), hfb 45 0 (by decide), hfa 45 0 (by decide), ← hI0, sI_n (by decide)]; exact m6.2 k (by omega)) ?_
              refine aw_aload_n e_Mo_check_186 rfl ?_
              refine aw_getR e_Mo_check_187 fl_Mo_71 (hS.1 _ _ _ _ rfl) ?_
              refine aw_iload e_Mo_check_190 rfl ?_
              refine aw_ialE e_Mo_check_192 rfl (show _ < 60 by omega) (by omega) (show _ = rowV (sG S) k by rw [hf4 46 0 (by decide)]; exact hr2 k (by omega)) ?_
              refine aw_icmp_ne e_Mo_check_193 (fun h193 => ?_) (fun h193 => ?_)
              · have hrg : k = rgt (sG S) (sW S).2 (min c (2 * n)) := by
                  rw [← hv]
                  first
                    | (have hkm : k = min c (2 * n) := by omega
                       rw [fst_ge (by omega)]
                       exact hkm)
                    | exact (fst_t (by omega) (by rw [decide_eq_false h193]; rfl)).symm
                refine aw_iload e_Mo_check_202 rfl ?_
                refine aw_iload_n e_Mo_check_204 rfl ?_
                refine awN_icmp_ne e_Mo_check_205 (by omega) (by omega) (fun h205 => ?_) (fun h205 => ?_)
                · refine aw_iconst (v := nI 1) e_Mo_check_220 (by decide) ?_
                  refine aw_iload e_Mo_check_221 rfl ?_
                  first | refine awN_iadd e_Mo_check_223 ?_ | refine aw_iadd e_Mo_check_223 ?_
                  have hq := hQ I4 L2
                  unfold op_check at hq
                  rw [if_pos hg, if_pos hk1, ix_n (j := n) (by omega), chk_y hyes, ← hc, ← hrg] at hq
                  first
                    | (exfalso; omega)
                    | (rw [if_pos ⟨by omega, by omega⟩] at hq; exact aw_iret e_Mo_check_224 rfl rfl (hq hms hfk))
                    | (rw [if_neg (fun z => by omega)] at hq; exact aw_iret e_Mo_check_224 rfl rfl (hq hms hfk))
                · refine aw_iload e_Mo_check_208 rfl ?_
                  refine aw_iconst (v := nI 2) e_Mo_check_210 (by decide) ?_
                  refine aw_iload_n e_Mo_check_211 rfl ?_
                  first | refine awN_imul e_Mo_check_212 ?_ | refine aw_imul e_Mo_check_212 ?_
                  refine awN_icmp_ne e_Mo_check_213 (by omega) (by omega) (fun h213 => ?_) (fun h213 => ?_)
                  · refine aw_iconst (v := nI 1) e_Mo_check_220 (by decide) ?_
                    refine aw_iload e_Mo_check_221 rfl ?_
                    first | refine awN_iadd e_Mo_check_223 ?_ | refine aw_iadd e_Mo_check_223 ?_
                    have hq := hQ I4 L2
                    unfold op_check at hq
                    rw [if_pos hg, if_pos hk1, ix_n (j := n) (by omega), chk_y hyes, ← hc, ← hrg] at hq
                    first
                      | (exfalso; omega)
                      | (rw [if_pos ⟨by omega, by omega⟩] at hq; exact aw_iret e_Mo_check_224 rfl rfl (hq hms hfk))
                      | (rw [if_neg (fun z => by omega)] at hq; exact aw_iret e_Mo_check_224 rfl rfl (hq hms hfk))
                  · refine aw_iconst (v := nI 0) e_Mo_check_216 (by decide) ?_
                    refine aw_goto e_Mo_check_217 ?_
                    have hq := hQ I4 L2
                    unfold op_check at hq
                    rw [if_pos hg, if_pos hk1, ix_n (j := n) (by omega), chk_y hyes, ← hc, ← hrg] at hq
                    first
                      | (exfalso; omega)
                      | (rw [if_pos ⟨by omega, by omega⟩] at hq; exact aw_iret e_Mo_check_224 rfl rfl (hq hms hfk))
                      | (rw [if_neg (fun z => by omega)] at hq; exact aw_iret e_Mo_check_224 rfl rfl (hq hms hfk))
              · refine aw_inc4 e_Mo_check_196 (inc1 _) ?_
                refine aw_goto e_Mo_check_199 ?_
                exact ih (by omega) ((fst_f (by omega) (by rw [decide_eq_true h193]; rfl)).symm.trans hv)
        · exact absurd h156 (by decide)
      have k64f : ¬ (∀ k, k ≤ n → ansC (itV (sG S) k) = 1) → ∀ i I2 L2, i ≤ n → fC I1 I2 → AWq l E (d + 6) M_Mo_check Z 64 [some (vr 9 0), some (vi (nI n)), some (vi (nI c)), some (vi (nI 0)), some (vi (nI i))] [] I2 L2 R Z Q := fun hno i I2 L2 hin hf2 => by
        refine aw_iload e_Mo_check_64 rfl ?_
        refine aw_iload_n e_Mo_check_66 rfl ?_
        refine awN_icmp_ge e_Mo_check_67 (by omega) (by omega) (fun h67 => ?_) (fun h67 => ?_)
        · refine aw_drop 4 ?_
          exact k143f hno I2 L2 hf2
        · refine aw_iload_n e_Mo_check_70 rfl ?_
          refine awN_if_eq e_Mo_check_71 (by omega) (fun h71 => ?_) (fun h71 => ?_)
          · refine aw_drop 4 ?_
            exact k143f hno I2 L2 hf2
          · exact absurd rfl h71
      have k64 : ∀ i, i ≤ n → ∀ I2 L2, MC I2 0 (itV (sG S) i) → fC I1 I2 → (0 < i → ∀ k, k ≤ i → ansC (itV (sG S) k) = 1) → (∀ j, j < 2 * i → I2 46 0 j = rowV (sG S) j) → AWq l E (d + 6) M_Mo_check Z 64 [some (vr 9 0), some (vi (nI n)), some (vi (nI c)), some (vi (nI 1)), some (vi (nI i))] [] I2 L2 R Z Q := by
        refine up_loop (fun i hi ih I2 L2 hC2 hf2 hok hr2 => ?_)
        have hit := it_w hWg i (by omega)
        refine aw_iload e_Mo_check_64 rfl ?_
        refine aw_iload_n e_Mo_check_66 rfl ?_
        refine awN_icmp_ge e_Mo_check_67 (by omega) (by omega) (fun h67 => ?_) (fun h67 => ?_)
        · refine aw_drop 4 ?_
          obtain rfl : i = n := by omega
          exact k143t (hok (by omega)) I2 L2 hf2 hr2
        · refine aw_iload_n e_Mo_check_70 rfl ?_
          refine awN_if_eq e_Mo_check_71 (by omega) (fun h71 => ?_) (fun h71 => ?_)
          · exact absurd h71 (by decide)
          · refine aw_aload_n e_Mo_check_74 rfl ?_
            refine aw_cV0 e_Mo_check_75 ml_Mo_226 mf_Mo_oneStep mv_Mo_oneStep (c_Mo_oneStep hS hC2 hit.1 (by omega) (fun I3 L3 hC3 hf3 => ?_))
            refine aw_iconst (v := nI 1) e_Mo_check_78 (by decide) ?_
            refine aw_icmp_ne e_Mo_check_79 (fun h79 => ?_) (fun h79 => ?_)
            · have hn1 : ¬ ansC (itV (sG S) i) = 1 := fun z => h79 ((ansV_iff _).2 z)
              rw [if_neg hn1] at hC3
              have hW3 := hit.1
              refine aw_iconst (v := nI 0) e_Mo_check_86 (by decide) ?_
              refine aw_ist3 e_Mo_check_87 ?_
              refine aw_aload_n e_Mo_check_88 rfl ?_
              refine aw_getR e_Mo_check_89 fl_Mo_71 (hS.1 _ _ _ _ rfl) ?_
              refine aw_iconst (v := nI 2) e_Mo_check_92 (by decide) ?_
              refine aw_iload e_Mo_check_93 rfl ?_
              first | refine awN_imul e_Mo_check_95 ?_ | refine aw_imul e_Mo_check_95 ?_
              refine aw_aload_n e_Mo_check_96 rfl ?_
              refine aw_cV0 e_Mo_check_97 ml_Mo_352 mf_Mo_holds mv_Mo_holds (c_Mo_holds hS hC3 hW3 ?_)
              refine aw_iast e_Mo_check_100 rfl (show _ < 60 by omega) (by omega) ?_
              refine aw_iload_n e_Mo_check_101 rfl ?_
              refine awN_if_eq e_Mo_check_102 (by omega) (fun h102 => ?_) (fun h102 => ?_)
              · refine aw_iconst (v := nI 0) e_Mo_check_117 (by decide) ?_
                refine aw_ist3 e_Mo_check_118 ?_
                refine aw_aload_n e_Mo_check_119 rfl ?_
                refine aw_getR e_Mo_check_120 fl_Mo_71 (hS.1 _ _ _ _ rfl) ?_
                refine aw_iconst (v := nI 2) e_Mo_check_123 (by decide) ?_
                refine aw_iload e_Mo_check_124 rfl ?_
                first | refine awN_imul e_Mo_check_126 ?_ | refine aw_imul e_Mo_check_126 ?_
                refine aw_iconst (v := nI 1) e_Mo_check_127 (by decide) ?_
                first | refine awN_iadd e_Mo_check_128 ?_ | refine aw_iadd e_Mo_check_128 ?_
                refine aw_aload_n e_Mo_check_129 rfl ?_
                refine aw_getR e_Mo_check_130 fl_Mo_47 (hS.1 _ _ _ _ rfl) ?_
                refine aw_iconst (v := nI 0) e_Mo_check_133 (by decide) ?_
                first
                  | refine aw_lalE e_Mo_check_134 rfl (show 0 < 24 by decide) (by decide) (ha5 ((ansV_iff _).1 h110) 0 (by have := whole_B ((ansV_iff _).1 h110); omega)).1 ?_
                  | refine aw_lald e_Mo_check_134 rfl (show 0 < 24 by decide) (by decide) ?_
                first
                  | refine awN_l2i e_Mo_check_135 ?_
                  | refine aw_l2i e_Mo_check_135 ?_
                refine aw_iast e_Mo_check_136 rfl (show _ < 60 by omega) (by omega) ?_
                refine aw_inc4 e_Mo_check_137 (inc1 _) ?_
                refine aw_goto e_Mo_check_140 ?_
                exact k64f (fun z => hn1 (z i (by omega))) _ _ _ (by omega) (fC_r (fC_r (fC_t hf2 hf3.C)))
              · exact absurd rfl h102
            · have hy1 := (ansV_iff _).1 h79
              rw [if_pos hy1] at hC3
              replace hC3 : MC I3 0 (itV (sG S) (i + 1)) := hC3
              have hit3 := it_w hWg (i + 1) (by omega)
              have hW3 := hit3.1
              refine aw_iconst (v := nI 1) e_Mo_check_82 (by decide) ?_
              refine aw_goto e_Mo_check_83 ?_
              refine aw_ist3 e_Mo_check_87 ?_
              refine aw_aload_n e_Mo_check_88 rfl ?_
              refine aw_getR e_Mo_check_89 fl_Mo_71 (hS.1 _ _ _ _ rfl) ?_
              refine aw_iconst (v := nI 2) e_Mo_check_92 (by decide) ?_
              refine aw_iload e_Mo_check_93 rfl ?_
              first | refine awN_imul e_Mo_check_95 ?_ | refine aw_imul e_Mo_check_95 ?_
              refine aw_aload_n e_Mo_check_96 rfl ?_
              refine aw_cV0 e_Mo_check_97 ml_Mo_352 mf_Mo_holds mv_Mo_holds (c_Mo_holds hS hC3 hW3 ?_)
              refine aw_iast e_Mo_check_100 rfl (show _ < 60 by omega) (by omega) ?_
              refine aw_iload_n e_Mo_check_101 rfl ?_
              refine awN_if_eq e_Mo_check_102 (by omega) (fun h102 => ?_) (fun h102 => ?_)
              · exact absurd h102 (by decide)
              · have hC4 : MC (sI I3 46 0 (2 * i) (nI (sumS (itV (sG S) (i + 1)) (nP (itV (sG S) (i + 1)))))) 0 (itV (sG S) (i + 1)) := MC.keep hC3 (sI_n (by decide))
                refine aw_aload_n e_Mo_check_105 rfl ?_
                refine aw_cV0 e_Mo_check_106 ml_Mo_185 mf_Mo_solve mv_Mo_solve (c_Mo_solve hS hC4 hW3 (fun I5 L5 hfl5 ha5 _ => ?_))
                refine aw_iconst (v := nI 1) e_Mo_check_109 (by decide) ?_
                refine aw_icmp_ne e_Mo_check_110 (fun h110 => ?_) (fun h110 => ?_)
                · refine aw_iconst (v := nI 0) e_Mo_check_117 (by decide) ?_
                  refine aw_ist3 e_Mo_check_118 ?_
                  refine aw_aload_n e_Mo_check_119 rfl ?_
                  refine aw_getR e_Mo_check_120 fl_Mo_71 (hS.1 _ _ _ _ rfl) ?_
                  refine aw_iconst (v := nI 2) e_Mo_check_123 (by decide) ?_
                  refine aw_iload e_Mo_check_124 rfl ?_
                  first | refine awN_imul e_Mo_check_126 ?_ | refine aw_imul e_Mo_check_126 ?_
                  refine aw_iconst (v := nI 1) e_Mo_check_127 (by decide) ?_
                  first | refine awN_iadd e_Mo_check_128 ?_ | refine aw_iadd e_Mo_check_128 ?_
                  refine aw_aload_n e_Mo_check_129 rfl ?_
                  refine aw_getR e_Mo_check_130 fl_Mo_47 (hS.1 _ _ _ _ rfl) ?_
                  refine aw_iconst (v := nI 0) e_Mo_check_133 (by decide) ?_
                  first
                    | refine aw_lalE e_Mo_check_134 rfl (show 0 < 24 by decide) (by decide) (ha5 ((ansV_iff _).1 h110) 0 (by have := whole_B ((ansV_iff _).1 h110); omega)).1 ?_
                    | refine aw_lald e_Mo_check_134 rfl (show 0 < 24 by decide) (by decide) ?_
                  first
                    | refine awN_l2i e_Mo_check_135 ?_
                    | refine aw_l2i e_Mo_check_135 ?_
                  refine aw_iast e_Mo_check_136 rfl (show _ < 60 by omega) (by omega) ?_
                  refine aw_inc4 e_Mo_check_137 (inc1 _) ?_
                  refine aw_goto e_Mo_check_140 ?_
                  first
                    | exact k64f (fun z => h110 ((ansV_iff _).2 (z (i + 1) (by omega)))) _ _ _ (by omega) (fC_r (fC_t (fC_r (fC_t hf2 hf3.C)) hfl5.G.C))
                    | (refine ih h67 _ _ (MC.keep (hfl5.C hC4) (sI_n (by decide))) (fC_r (fC_t (fC_r (fC_t hf2 hf3.C)) hfl5.G.C)) (fun _ k hk => ?_) (fun j hj => ?_)
                       · by_cases e : k = i + 1
                         · rw [e]; exact (ansV_iff _).1 h110
                         · by_cases e0 : k = i
                           · rw [e0]; exact hy1
                           · exact hok (by omega) k (by omega)
                       · by_cases e1 : j = 2 * i + 1
                         · rw [e1, sI_eq, row_o]
                         · rw [sI_ne e1, hfl5.1 46 0 (by decide)]
                           by_cases e2 : j = 2 * i
                           · rw [e2, sI_eq, row_e, hit3.2.2.1]
                           · rw [sI_ne e2, hf3.1 46 0 (by decide) (by decide) (by decide) (by decide)]
                             exact hr2 j (by omega))
                · refine aw_iconst (v := nI 1) e_Mo_check_113 (by decide) ?_
                  refine aw_goto e_Mo_check_114 ?_
                  refine aw_ist3 e_Mo_check_118 ?_
                  refine aw_aload_n e_Mo_check_119 rfl ?_
                  refine aw_getR e_Mo_check_120 fl_Mo_71 (hS.1 _ _ _ _ rfl) ?_
                  refine aw_iconst (v := nI 2) e_Mo_check_123 (by decide) ?_
                  refine aw_iload e_Mo_check_124 rfl ?_
                  first | refine awN_imul e_Mo_check_126 ?_ | refine aw_imul e_Mo_check_126 ?_
                  refine aw_iconst (v := nI 1) e_Mo_check_127 (by decide) ?_
                  first | refine awN_iadd e_Mo_check_128 ?_ | refine aw_iadd e_Mo_check_128 ?_
                  refine aw_aload_n e_Mo_check_129 rfl ?_
                  refine aw_getR e_Mo_check_130 fl_Mo_47 (hS.1 _ _ _ _ rfl) ?_
                  refine aw_iconst (v := nI 0) e_Mo_check_133 (by decide) ?_
                  first
                    | refine aw_lalE e_Mo_check_134 rfl (show 0 < 24 by decide) (by decide) (ha5 ((ansV_iff _).1 h110) 0 (by have := whole_B ((ansV_iff _).1 h110); omega)).1 ?_
                    | refine aw_lald e_Mo_check_134 rfl (show 0 < 24 by decide) (by decide) ?_
                  first
                    | refine awN_l2i e_Mo_check_135 ?_
                    | refine aw_l2i e_Mo_check_135 ?_
                  refine aw_iast e_Mo_check_136 rfl (show _ < 60 by omega) (by omega) ?_
                  refine aw_inc4 e_Mo_check_137 (inc1 _) ?_
                  refine aw_goto e_Mo_check_140 ?_
                  first
                    | exact k64f (fun z => h110 ((ansV_iff _).2 (z (i + 1) (by omega)))) _ _ _ (by omega) (fC_r (fC_t (fC_r (fC_t hf2 hf3.C)) hfl5.G.C))
                    | (refine ih h67 _ _ (MC.keep (hfl5.C hC4) (sI_n (by decide))) (fC_r (fC_t (fC_r (fC_t hf2 hf3.C)) hfl5.G.C)) (fun _ k hk => ?_) (fun j hj => ?_)
                       · by_cases e : k = i + 1
                         · rw [e]; exact (ansV_iff _).1 h110
                         · by_cases e0 : k = i
                           · rw [e0]; exact hy1
                           · exact hok (by omega) k (by omega)
                       · by_cases e1 : j = 2 * i + 1
                         · rw [e1, sI_eq, row_o]
                         · rw [sI_ne e1, hfl5.1 46 0 (by decide)]
                           by_cases e2 : j = 2 * i
                           · rw [e2, sI_eq, row_e, hit3.2.2.1]
                           · rw [sI_ne e2, hf3.1 46 0 (by decide) (by decide) (by decide) (by decide)]
                             exact hr2 j (by omega))
      refine aw_iconst (v := nI 1) e_Mo_check_59 (by decide) ?_
      refine aw_ist3 e_Mo_check_60 ?_
      refine aw_iconst (v := nI 0) e_Mo_check_61 (by decide) ?_
      refine aw_ist4 e_Mo_check_62 ?_
      exact k64 0 (Nat.zero_le _) I1 L hCg fC_0 (fun z => absurd z (Nat.lt_irrefl 0)) (fun j hj => absurd hj (Nat.not_lt_zero j))
    · refine aw_ldc (v := -1000000002) e_Mo_check_32 kc_Mo_94 ?_
      have hq := hQ (sI I 9 0 33 (nI 0)) L
      unfold op_check at hq
      first
        | (rw [if_pos hg, if_neg (by omega)] at hq; exact aw_iret e_Mo_check_34 rfl rfl (hq hM0 (fun t i h1 h2 => sI_n (by omega))))
  · refine aw_ldc (v := -1000000001) e_Mo_check_22 kc_Mo_89 ?_
    have hq := hQ (sI I 9 0 33 (nI 0)) L
    unfold op_check at hq
    first
      | (rw [if_neg (fun w => h19 ⟨by have := w.1; omega, by have := w.2; omega⟩)] at hq; exact aw_iret e_Mo_check_24 rfl rfl (hq hM0 (fun t i h1 h2 => sI_n (by omega))))
