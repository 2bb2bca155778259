/-! ===== the model's tape: the next word ===== -/
def tok (x : Wd) : Nat := if x.2.2 = 2 ∧ 4 < x.2.1 - x.1 then 4 else x.2.2
theorem tok_le {x : Wd} (h : x.2.2 ≤ 4) : tok x ≤ 4 := by unfold tok; split <;> omega
theorem tok_n {x : Wd} {c : Nat} (hc : c ≠ 2) (hc4 : c ≠ 4) : tok x = c ↔ x.2.2 = c := by unfold tok; split <;> omega
theorem tok_2 {x : Wd} : tok x = 2 ↔ isNb x = true := by
  rw [isNb_iff]
  unfold tok
  split <;> omega
/-- the word the model is at -/
def MW (I : It) (t : TB) (x : Wd) : Prop := I 9 0 17 = nI x.1 ∧ I 9 0 18 = nI x.2.1 ∧ I 9 0 19 = nI (tok x) ∧ (x.2.2 = 1 → I 9 0 21 = nI (if x.2.1 - x.1 = 1 then lttr t x else 0)) ∧ (x.2.2 = 3 → I 9 0 21 = nI (byt (t.2 x.1))) ∧ (x.2.2 = 2 → x.2.1 - x.1 ≤ 4 → I 9 0 20 = nI (numV t x.1 (x.2.1 - x.1)))
def f9 (I I2 : It) : Prop := (∀ t i, ¬ (t = 9 ∧ i = 0) → I2 t i = I t i) ∧ ∀ f, ¬ (17 ≤ f ∧ f ≤ 21) → I2 9 0 f = I 9 0 f
theorem f9_0 {I : It} : f9 I I := ⟨fun _ _ _ => rfl, fun _ _ => rfl⟩
theorem f9_s {I I1 : It} {f : Nat} {x : Int32} (h : f9 I I1) (hf : 17 ≤ f ∧ f ≤ 21) : f9 I (sI I1 9 0 f x) := ⟨fun t i hti => (sI_n hti).trans (h.1 t i hti), fun g hg => (sI_ne (by omega)).trans (h.2 g hg)⟩
theorem MTP.f9 {I I2 : It} {t : TB} (h : MTP I t) (hf : f9 I I2) : MTP I2 t := ⟨(hf.2 16 (by decide)).trans h.1, h.2.1, fun j hj => by rw [hf.1 39 0 (by decide)]; exact h.2.2 j hj⟩
theorem lt_b {I : It} {t : TB} {j : Nat} (h : MTP I t) (hj : srt t j = 1) : byt (t.2 j) = (t.2 j).toInt.toNat := by
  have a := srt_1 hj
  have b := h.b a.1
  exact b.2.2.1 (by have := isLt_iff.1 a.2; omega)
theorem dg_b {I : It} {t : TB} {j : Nat} (h : MTP I t) (hj : srt t j = 2) : byt (t.2 j) = (t.2 j).toInt.toNat ∧ 48 ≤ byt (t.2 j) ∧ byt (t.2 j) ≤ 57 := by
  have a := srt_2 hj
  have b := h.b a.1
  have c := isDg_iff.1 a.2
  have e := b.2.2.1 (by omega)
  exact ⟨e, by omega, by omega⟩
theorem c_Mo_next {l : Launch} {E : En} {d : Nat} {I : It} {L : Lt} {R : Rt} {Z : Zt} {Q : Qt} {t : TB} (hS : Sta R) (hT : MTP I t) {x : Wd} {tk : Nat} (h3 : I 9 0 18 = nI x.2.1) (htok : I 9 0 19 = nI tk) (htk : tk ≤ 4) (hgl : (0 < x.2.1 ∧ (tk = 1 ∨ tk = 2)) ↔ (x.2.2 = 1 ∨ x.2.2 = 2)) (hb : x.2.1 ≤ t.1) (hQ : ∀ I2, MW I2 t (nxW t x) → f9 I I2 → Q none I2 L R Z) : AMet l E (d + 2) M_Mo_next [vr 9 0] I L R Z Q := by
  have hT1 := hT.2.1
  refine AMet.of mf_Mo_next rfl (Nat.le_of_ble_eq_true rfl) ?_
  have k98 : ∀ p, p ≤ t.1 → x.2.1 ≤ p → skp t x.2.1 = p → ∀ I3 : It, f9 I I3 → I3 9 0 17 = nI p → I3 9 0 18 = nI p → AWq l E (d + 2) M_Mo_next Z 98 [some (vr 9 0), some (vi (bI ((x.2.2 = 1 ∨ x.2.2 = 2) ∧ p = x.2.1))), some (vi (nI x.2.1))] [] I3 L R Z Q := fun p hp hxp hps I3 hf3 h37 h38 => by
    have hT3 := hT.f9 hf3
    have hsl := srt_le t p
    have k128 : srt t p = 1 → AWq l E (d + 2) M_Mo_next Z 128 [some (vr 9 0), some (vi (bI ((x.2.2 = 1 ∨ x.2.2 = 2) ∧ p = x.2.1))), some (vi (nI x.2.1))] [] I3 L R Z Q := fun hs1 => by
      have hpl := (srt_1 hs1).1
      have k : ∀ j, j ≤ t.1 → p ≤ j → fst' (fun j => !(srt t j == srt t p)) t.1 j = xtd t (srt t p) (p + 1) → ∀ I5 : It, f9 I I5 → I5 9 0 17 = nI p → I5 9 0 18 = nI j → AWq l E (d + 2) M_Mo_next Z 128 [some (vr 9 0), some (vi (bI ((x.2.2 = 1 ∨ x.2.2 = 2) ∧ p = x.2.1))), some (vi (nI x.2.1))] [] I5 L R Z Q := by
        refine up_loop (fun j hj ih hpj hv I5 hf5 h57 h58 => ?_)
        have hT5 := hT.f9 hf5
        refine aw_aload_n e_Mo_next_128 rfl ?_
        refine aw_aload_n e_Mo_next_129 rfl ?_
        refine aw_getE e_Mo_next_130 fl_Mo_240 h58 ?_
        refine aw_cV1 e_Mo_next_133 ml_Mo_249 mf_Mo_isLetter mv_Mo_isLetter (c_Mo_isLetter hS hT5 (by omega) ?_)
        refine awB_eq e_Mo_next_136 (fun h136 => ?_) (fun h136 => ?_)
        · have hjx : j = xtd t (srt t p) (p + 1) := by
            rw [← hv]
            by_cases e : j < t.1
            · exact (fst_t e (by simp; intro z; exact h136 (z.trans hs1))).symm
            · rw [fst_ge (by omega)]; omega
          refine aw_aload_n e_Mo_next_152 rfl ?_
          refine aw_iload_n e_Mo_next_153 rfl ?_
          refine awB_eq e_Mo_next_154 (fun h154 => ?_) (fun h154 => ?_)
          · refine aw_iconst (v := nI 1) e_Mo_next_161 (by decide) ?_
            refine aw_putI e_Mo_next_162 fl_Mo_243 ?_
            refine aw_aload_n e_Mo_next_165 rfl ?_
            refine aw_aload_n e_Mo_next_166 rfl ?_
            refine aw_getE e_Mo_next_167 fl_Mo_240 ((sI_ne (by decide)).trans h58) ?_
            refine aw_aload_n e_Mo_next_170 rfl ?_
            refine aw_getE e_Mo_next_171 fl_Mo_246 ((sI_ne (by decide)).trans h57) ?_
            refine awN_isub e_Mo_next_174 (by omega) ?_
            refine aw_iconst (v := nI 1) e_Mo_next_175 (by decide) ?_
            refine awN_icmp_ne e_Mo_next_176 (by omega) (by omega) (fun h176 => ?_) (fun h176 => ?_)
            · refine aw_iconst (v := nI 0) e_Mo_next_191 (by decide) ?_
              refine aw_putI e_Mo_next_192 fl_Mo_252 ?_
              refine aw_goto e_Mo_next_195 ?_
              have hnx : nxW t x = (p, j, if ((x.2.2 = 1 ∨ x.2.2 = 2) ∧ p = x.2.1) then 4 else srt t p) := by
                unfold nxW
                rw [hps, if_neg (by omega), if_neg (by omega), ← hjx]
              refine aw_vret e_Mo_next_339 rfl (hQ _ ?_ (f9_s (f9_s hf5 (f := 19) (by decide)) (f := 21) (by decide)))
              rw [hnx]
              refine ⟨by rw [sI_ne (by decide), sI_ne (by decide)]; exact h57, by rw [sI_ne (by decide), sI_ne (by decide)]; exact h58, ?_, fun z => ?_, fun z => ?_, fun z => ?_⟩
              · rw [sI_ne (by decide), sI_eq]
                first
                  | rw [if_pos h154]; rfl
                  | (rw [if_neg h154, hs1]; rfl)
              · rw [sI_eq]
                first
                  | (rw [if_pos (show j - p = 1 from h176)]; rw [lt_b hT hs1]; rfl)
                  | (rw [if_neg (show ¬ j - p = 1 from h176)])
              · first
                  | (rw [if_pos h154] at z; exact absurd z (show ¬ (4 : Nat) = 3 by decide))
                  | (rw [if_neg h154, hs1] at z; exact absurd z (show ¬ (1 : Nat) = 3 by decide))
              · first
                  | (rw [if_pos h154] at z; exact absurd z (show ¬ (4 : Nat) = 2 by decide))
                  | (rw [if_neg h154, hs1] at z; exact absurd z (show ¬ (1 : Nat) = 2 by decide))
            · refine aw_aload_n e_Mo_next_179 rfl ?_
              refine aw_getR e_Mo_next_180 fl_Mo_50 (hS.1 _ _ _ _ rfl) ?_
              refine aw_aload_n e_Mo_next_183 rfl ?_
              refine aw_getE e_Mo_next_184 fl_Mo_246 ((sI_ne (by decide)).trans h57) ?_
              refine aw_ialE e_Mo_next_187 rfl (show _ < 96 by omega) (by omega) (show _ = nI (byt (t.2 p)) by rw [sI_n (by decide)]; exact (hT5.b (by omega)).1) ?_
              refine aw_goto e_Mo_next_188 ?_
              refine aw_putI e_Mo_next_192 fl_Mo_252 ?_
              refine aw_goto e_Mo_next_195 ?_
              have hnx : nxW t x = (p, j, if ((x.2.2 = 1 ∨ x.2.2 = 2) ∧ p = x.2.1) then 4 else srt t p) := by
                unfold nxW
                rw [hps, if_neg (by omega), if_neg (by omega), ← hjx]
              refine aw_vret e_Mo_next_339 rfl (hQ _ ?_ (f9_s (f9_s hf5 (f := 19) (by decide)) (f := 21) (by decide)))
              rw [hnx]
              refine ⟨by rw [sI_ne (by decide), sI_ne (by decide)]; exact h57, by rw [sI_ne (by decide), sI_ne (by decide)]; exact h58, ?_, fun z => ?_, fun z => ?_, fun z => ?_⟩
              · rw [sI_ne (by decide), sI_eq]
                first
                  | rw [if_pos h154]; rfl
                  | (rw [if_neg h154, hs1]; rfl)
              · rw [sI_eq]
                first
                  | (rw [if_pos (show j - p = 1 from h176)]; rw [lt_b hT hs1]; rfl)
                  | (rw [if_neg (show ¬ j - p = 1 from h176)])
              · first
                  | (rw [if_pos h154] at z; exact absurd z (show ¬ (4 : Nat) = 3 by decide))
                  | (rw [if_neg h154, hs1] at z; exact absurd z (show ¬ (1 : Nat) = 3 by decide))
              · first
                  | (rw [if_pos h154] at z; exact absurd z (show ¬ (4 : Nat) = 2 by decide))
                  | (rw [if_neg h154, hs1] at z; exact absurd z (show ¬ (1 : Nat) = 2 by decide))
          · refine aw_iconst (v := nI 4) e_Mo_next_157 (by decide) ?_
            refine aw_goto e_Mo_next_158 ?_
            refine aw_putI e_Mo_next_162 fl_Mo_243 ?_
            refine aw_aload_n e_Mo_next_165 rfl ?_
            refine aw_aload_n e_Mo_next_166 rfl ?_
            refine aw_getE e_Mo_next_167 fl_Mo_240 ((sI_ne (by decide)).trans h58) ?_
            refine aw_aload_n e_Mo_next_170 rfl ?_
            refine aw_getE e_Mo_next_171 fl_Mo_246 ((sI_ne (by decide)).trans h57) ?_
            refine awN_isub e_Mo_next_174 (by omega) ?_
            refine aw_iconst (v := nI 1) e_Mo_next_175 (by decide) ?_
            refine awN_icmp_ne e_Mo_next_176 (by omega) (by omega) (fun h176 => ?_) (fun h176 => ?_)
            · refine aw_iconst (v := nI 0) e_Mo_next_191 (by decide) ?_
              refine aw_putI e_Mo_next_192 fl_Mo_252 ?_
              refine aw_goto e_Mo_next_195 ?_
              have hnx : nxW t x = (p, j, if ((x.2.2 = 1 ∨ x.2.2 = 2) ∧ p = x.2.1) then 4 else srt t p) := by
                unfold nxW
                rw [hps, if_neg (by omega), if_neg (by omega), ← hjx]
              refine aw_vret e_Mo_next_339 rfl (hQ _ ?_ (f9_s (f9_s hf5 (f := 19) (by decide)) (f := 21) (by decide)))
              rw [hnx]
              refine ⟨by rw [sI_ne (by decide), sI_ne (by decide)]; exact h57, by rw [sI_ne (by decide), sI_ne (by decide)]; exact h58, ?_, fun z => ?_, fun z => ?_, fun z => ?_⟩
              · rw [sI_ne (by decide), sI_eq]
                first
                  | rw [if_pos h154]; rfl
                  | (rw [if_neg h154, hs1]; rfl)
              · rw [sI_eq]
                first
                  | (rw [if_pos (show j - p = 1 from h176)]; rw [lt_b hT hs1]; rfl)
                  | (rw [if_neg (show ¬ j - p = 1 from h176)])
              · first
                  | (rw [if_pos h154] at z; exact absurd z (show ¬ (4 : Nat) = 3 by decide))
                  | (rw [if_neg h154, hs1] at z; exact absurd z (show ¬ (1 : Nat) = 3 by decide))
              · first
                  | (rw [if_pos h154] at z; exact absurd z (show ¬ (4 : Nat) = 2 by decide))
                  | (rw [if_neg h154, hs1] at z; exact absurd z (show ¬ (1 : Nat) = 2 by decide))
            · refine aw_aload_n e_Mo_next_179 rfl ?_
              refine aw_getR e_Mo_next_180 fl_Mo_50 (hS.1 _ _ _ _ rfl) ?_
              refine aw_aload_n e_Mo_next_183 rfl ?_
              refine aw_getE e_Mo_next_184 fl_Mo_246 ((sI_ne (by decide)).trans h57) ?_
              refine aw_ialE e_Mo_next_187 rfl (show _ < 96 by omega) (by omega) (show _ = nI (byt (t.2 p)) by rw [sI_n (by decide)]; exact (hT5.b (by omega)).1) ?_
              refine aw_goto e_Mo_next_188 ?_
              refine aw_putI e_Mo_next_192 fl_Mo_252 ?_
              refine aw_goto e_Mo_next_195 ?_
              have hnx : nxW t x = (p, j, if ((x.2.2 = 1 ∨ x.2.2 = 2) ∧ p = x.2.1) then 4 else srt t p) := by
                unfold nxW
                rw [hps, if_neg (by omega), if_neg (by omega), ← hjx]
              refine aw_vret e_Mo_next_339 rfl (hQ _ ?_ (f9_s (f9_s hf5 (f := 19) (by decide)) (f := 21) (by decide)))
              rw [hnx]
              refine ⟨by rw [sI_ne (by decide), sI_ne (by decide)]; exact h57, by rw [sI_ne (by decide), sI_ne (by decide)]; exact h58, ?_, fun z => ?_, fun z => ?_, fun z => ?_⟩
              · rw [sI_ne (by decide), sI_eq]
                first
                  | rw [if_pos h154]; rfl
                  | (rw [if_neg h154, hs1]; rfl)
              · rw [sI_eq]
                first
                  | (rw [if_pos (show j - p = 1 from h176)]; rw [lt_b hT hs1]; rfl)
                  | (rw [if_neg (show ¬ j - p = 1 from h176)])
              · first
                  | (rw [if_pos h154] at z; exact absurd z (show ¬ (4 : Nat) = 3 by decide))
                  | (rw [if_neg h154, hs1] at z; exact absurd z (show ¬ (1 : Nat) = 3 by decide))
              · first
                  | (rw [if_pos h154] at z; exact absurd z (show ¬ (4 : Nat) = 2 by decide))
                  | (rw [if_neg h154, hs1] at z; exact absurd z (show ¬ (1 : Nat) = 2 by decide))
        · refine aw_aload_n e_Mo_next_139 rfl ?_
          refine aw_dup e_Mo_next_140 rfl ?_
          refine aw_getE e_Mo_next_141 fl_Mo_240 h58 ?_
          refine aw_iconst (v := nI 1) e_Mo_next_144 (by decide) ?_
          first | refine awN_iadd e_Mo_next_145 ?_ | refine aw_iadd e_Mo_next_145 ?_
          refine aw_putI e_Mo_next_146 fl_Mo_240 ?_
          refine aw_goto e_Mo_next_149 ?_
          have hjl := (srt_1 h136).1
          refine ih hjl (by omega) ((fst_f hjl (by simp [h136, hs1])).symm.trans hv) _ (f9_s hf5 (by decide)) ((sI_ne (by decide)).trans h57) (sI_eq _ _ _ _ _)
      exact k p (by omega) (Nat.le_refl _) (fst_f hpl (by simp)) I3 hf3 h37 h38
    have k214 : srt t p = 2 → AWq l E (d + 2) M_Mo_next Z 214 [some (vr 9 0), some (vi (bI ((x.2.2 = 1 ∨ x.2.2 = 2) ∧ p = x.2.1))), some (vi (nI x.2.1))] [] (sI I3 9 0 20 (nI 0)) L R Z Q := fun hs2 => by
      have hpl := (srt_2 hs2).1
      have k : ∀ j, j ≤ t.1 → p ≤ j → fst' (fun j => !(srt t j == srt t p)) t.1 j = xtd t (srt t p) (p + 1) → ∀ I5 : It, f9 I I5 → I5 9 0 17 = nI p → I5 9 0 18 = nI j → I5 9 0 20 = nI (numV t p (min (j - p) 4)) → AWq l E (d + 2) M_Mo_next Z 214 [some (vr 9 0), some (vi (bI ((x.2.2 = 1 ∨ x.2.2 = 2) ∧ p = x.2.1))), some (vi (nI x.2.1))] [] I5 L R Z Q := by
        refine up_loop (fun j hj ih hpj hv I5 hf5 h57 h58 h50 => ?_)
        have hT5 := hT.f9 hf5
        refine aw_aload_n e_Mo_next_214 rfl ?_
        refine aw_aload_n e_Mo_next_215 rfl ?_
        refine aw_getE e_Mo_next_216 fl_Mo_240 h58 ?_
        refine aw_cV1 e_Mo_next_219 ml_Mo_255 mf_Mo_isDigit mv_Mo_isDigit (c_Mo_isDigit hS hT5 (by omega) ?_)
        refine awB_eq e_Mo_next_222 (fun h222 => ?_) (fun h222 => ?_)
        · have hjx : j = xtd t (srt t p) (p + 1) := by
            rw [← hv]
            by_cases e : j < t.1
            · exact (fst_t e (by simp; intro z; exact h222 (z.trans hs2))).symm
            · rw [fst_ge (by omega)]; omega
          refine aw_aload_n e_Mo_next_282 rfl ?_
          refine aw_iload_n e_Mo_next_283 rfl ?_
          refine awB_ne e_Mo_next_284 (fun h284 => ?_) (fun h284 => ?_)
          · refine aw_iconst (v := nI 4) e_Mo_next_300 (by decide) ?_
            refine aw_goto e_Mo_next_301 ?_
            refine aw_putI e_Mo_next_305 fl_Mo_243 ?_
            refine aw_goto e_Mo_next_308 ?_
            have hnx : nxW t x = (p, j, if ((x.2.2 = 1 ∨ x.2.2 = 2) ∧ p = x.2.1) then 4 else srt t p) := by
              unfold nxW
              rw [hps, if_neg (by omega), if_neg (by omega), ← hjx]
            refine aw_vret e_Mo_next_339 rfl (hQ _ ?_ (f9_s hf5 (f := 19) (by decide)))
            rw [hnx]
            refine ⟨by rw [sI_ne (by decide)]; exact h57, by rw [sI_ne (by decide)]; exact h58, ?_, fun z => ?_, fun z => ?_, fun z hz => ?_⟩
            · rw [sI_eq]
              unfold tok
              first
                | (rw [if_pos h284]; rfl)
                | (rw [if_neg h284, if_pos ⟨hs2, show 4 < j - p by omega⟩])
                | (rw [if_neg h284, if_neg (fun z => by have z2 : 4 < j - p := z.2; omega), hs2])
            · first
                | (rw [if_pos h284] at z; exact absurd z (show ¬ (4 : Nat) = 1 by decide))
                | (rw [if_neg h284, hs2] at z; exact absurd z (show ¬ (2 : Nat) = 1 by decide))
            · first
                | (rw [if_pos h284] at z; exact absurd z (show ¬ (4 : Nat) = 3 by decide))
                | (rw [if_neg h284, hs2] at z; exact absurd z (show ¬ (2 : Nat) = 3 by decide))
            · rw [sI_ne (by decide)]
              have hz2 : j - p ≤ 4 := hz
              rw [h50, show min (j - p) 4 = j - p by omega]
          · refine aw_aload_n e_Mo_next_287 rfl ?_
            refine aw_getE e_Mo_next_288 fl_Mo_240 h58 ?_
            refine aw_aload_n e_Mo_next_291 rfl ?_
            refine aw_getE e_Mo_next_292 fl_Mo_246 h57 ?_
            refine awN_isub e_Mo_next_295 (by omega) ?_
            refine aw_iconst (v := nI 4) e_Mo_next_296 (by decide) ?_
            refine awN_icmp_le e_Mo_next_297 (by omega) (by omega) (fun h297 => ?_) (fun h297 => ?_)
            · refine aw_iconst (v := nI 2) e_Mo_next_304 (by decide) ?_
              refine aw_putI e_Mo_next_305 fl_Mo_243 ?_
              refine aw_goto e_Mo_next_308 ?_
              have hnx : nxW t x = (p, j, if ((x.2.2 = 1 ∨ x.2.2 = 2) ∧ p = x.2.1) then 4 else srt t p) := by
                unfold nxW
                rw [hps, if_neg (by omega), if_neg (by omega), ← hjx]
              refine aw_vret e_Mo_next_339 rfl (hQ _ ?_ (f9_s hf5 (f := 19) (by decide)))
              rw [hnx]
              refine ⟨by rw [sI_ne (by decide)]; exact h57, by rw [sI_ne (by decide)]; exact h58, ?_, fun z => ?_, fun z => ?_, fun z hz => ?_⟩
              · rw [sI_eq]
                unfold tok
                first
                  | (rw [if_pos h284]; rfl)
                  | (rw [if_neg h284, if_pos ⟨hs2, show 4 < j - p by omega⟩])
                  | (rw [if_neg h284, if_neg (fun z => by have z2 : 4 < j - p := z.2; omega), hs2])
              · first
                  | (rw [if_pos h284] at z; exact absurd z (show ¬ (4 : Nat) = 1 by decide))
                  | (rw [if_neg h284, hs2] at z; exact absurd z (show ¬ (2 : Nat) = 1 by decide))
              · first
                  | (rw [if_pos h284] at z; exact absurd z (show ¬ (4 : Nat) = 3 by decide))
                  | (rw [if_neg h284, hs2] at z; exact absurd z (show ¬ (2 : Nat) = 3 by decide))
              · rw [sI_ne (by decide)]
                have hz2 : j - p ≤ 4 := hz
                rw [h50, show min (j - p) 4 = j - p by omega]
            · refine aw_iconst (v := nI 4) e_Mo_next_300 (by decide) ?_
              refine aw_goto e_Mo_next_301 ?_
              refine aw_putI e_Mo_next_305 fl_Mo_243 ?_
              refine aw_goto e_Mo_next_308 ?_
              have hnx : nxW t x = (p, j, if ((x.2.2 = 1 ∨ x.2.2 = 2) ∧ p = x.2.1) then 4 else srt t p) := by
                unfold nxW
                rw [hps, if_neg (by omega), if_neg (by omega), ← hjx]
              refine aw_vret e_Mo_next_339 rfl (hQ _ ?_ (f9_s hf5 (f := 19) (by decide)))
              rw [hnx]
              refine ⟨by rw [sI_ne (by decide)]; exact h57, by rw [sI_ne (by decide)]; exact h58, ?_, fun z => ?_, fun z => ?_, fun z hz => ?_⟩
              · rw [sI_eq]
                unfold tok
                first
                  | (rw [if_pos h284]; rfl)
                  | (rw [if_neg h284, if_pos ⟨hs2, show 4 < j - p by omega⟩])
                  | (rw [if_neg h284, if_neg (fun z => by have z2 : 4 < j - p := z.2; omega), hs2])
              · first
                  | (rw [if_pos h284] at z; exact absurd z (show ¬ (4 : Nat) = 1 by decide))
                  | (rw [if_neg h284, hs2] at z; exact absurd z (show ¬ (2 : Nat) = 1 by decide))
              · first
                  | (rw [if_pos h284] at z; exact absurd z (show ¬ (4 : Nat) = 3 by decide))
                  | (rw [if_neg h284, hs2] at z; exact absurd z (show ¬ (2 : Nat) = 3 by decide))
              · rw [sI_ne (by decide)]
                have hz2 : j - p ≤ 4 := hz
                rw [h50, show min (j - p) 4 = j - p by omega]
        · have hjl := (srt_2 h222).1
          have hdb := dg_b hT h222
          refine aw_aload_n e_Mo_next_225 rfl ?_
          refine aw_aload_n e_Mo_next_226 rfl ?_
          refine aw_getE e_Mo_next_227 fl_Mo_240 h58 ?_
          refine aw_aload_n e_Mo_next_230 rfl ?_
          refine aw_getE e_Mo_next_231 fl_Mo_246 h57 ?_
          refine awN_isub e_Mo_next_234 (by omega) ?_
          refine aw_iconst (v := nI 4) e_Mo_next_235 (by decide) ?_
          refine awN_icmp_ge e_Mo_next_236 (by omega) (by omega) (fun h236 => ?_) (fun h236 => ?_)
          · refine aw_aload_n e_Mo_next_262 rfl ?_
            refine aw_getE e_Mo_next_263 fl_Mo_258 h50 ?_
            refine aw_putI e_Mo_next_266 fl_Mo_258 ?_
            refine aw_aload_n e_Mo_next_269 rfl ?_
            refine aw_dup e_Mo_next_270 rfl ?_
            refine aw_getE e_Mo_next_271 fl_Mo_240 ((sI_ne (by decide)).trans h58) ?_
            refine aw_iconst (v := nI 1) e_Mo_next_274 (by decide) ?_
            first | refine awN_iadd e_Mo_next_275 ?_ | refine aw_iadd e_Mo_next_275 ?_
            refine aw_putI e_Mo_next_276 fl_Mo_240 ?_
            refine aw_goto e_Mo_next_279 ?_
            refine ih hjl (by omega) ((fst_f hjl (by simp [h222, hs2])).symm.trans hv) _ (f9_s (f9_s hf5 (by decide)) (by decide)) (by rw [sI_ne (by decide), sI_ne (by decide)]; exact h57) (sI_eq _ _ _ _ _) ?_
            rw [sI_ne (by decide), sI_eq]
            first
              | (rw [show min (j - p) 4 = 4 by omega, show min (j + 1 - p) 4 = 4 by omega])
              | (rw [show min (j - p) 4 = j - p by omega, show min (j + 1 - p) 4 = j - p + 1 by omega]
                 show nI _ = nI (10 * numV t p (j - p) + ((t.2 (p + (j - p))).toInt.toNat - 48))
                 rw [show p + (j - p) = j by omega, ← hdb.1]
                 congr 1
                 omega)
          · refine aw_bipush (v := nI 10) e_Mo_next_239 (by decide) ?_
            refine aw_aload_n e_Mo_next_241 rfl ?_
            refine aw_getE e_Mo_next_242 fl_Mo_258 h50 ?_
            first | refine awN_imul e_Mo_next_245 ?_ | refine aw_imul e_Mo_next_245 ?_
            refine aw_aload_n e_Mo_next_246 rfl ?_
            refine aw_getR e_Mo_next_247 fl_Mo_50 (hS.1 _ _ _ _ rfl) ?_
            refine aw_aload_n e_Mo_next_250 rfl ?_
            refine aw_getE e_Mo_next_251 fl_Mo_240 h58 ?_
            refine aw_ialE e_Mo_next_254 rfl (show _ < 96 by omega) (by omega) (hT5.b hjl).1 ?_
            refine awN_iadd e_Mo_next_255 ?_
            refine aw_bipush (v := nI 48) e_Mo_next_256 (by decide) ?_
            refine awN_isub e_Mo_next_258 (by omega) ?_
            refine aw_goto e_Mo_next_259 ?_
            refine aw_putI e_Mo_next_266 fl_Mo_258 ?_
            refine aw_aload_n e_Mo_next_269 rfl ?_
            refine aw_dup e_Mo_next_270 rfl ?_
            refine aw_getE e_Mo_next_271 fl_Mo_240 ((sI_ne (by decide)).trans h58) ?_
            refine aw_iconst (v := nI 1) e_Mo_next_274 (by decide) ?_
            first | refine awN_iadd e_Mo_next_275 ?_ | refine aw_iadd e_Mo_next_275 ?_
            refine aw_putI e_Mo_next_276 fl_Mo_240 ?_
            refine aw_goto e_Mo_next_279 ?_
            refine ih hjl (by omega) ((fst_f hjl (by simp [h222, hs2])).symm.trans hv) _ (f9_s (f9_s hf5 (by decide)) (by decide)) (by rw [sI_ne (by decide), sI_ne (by decide)]; exact h57) (sI_eq _ _ _ _ _) ?_
            rw [sI_ne (by decide), sI_eq]
            first
              | (rw [show min (j - p) 4 = 4 by omega, show min (j + 1 - p) 4 = 4 by omega])
              | (rw [show min (j - p) 4 = j - p by omega, show min (j + 1 - p) 4 = j - p + 1 by omega]
                 show nI _ = nI (10 * numV t p (j - p) + ((t.2 (p + (j - p))).toInt.toNat - 48))
                 rw [show p + (j - p) = j by omega, ← hdb.1]
                 congr 1
                 omega)
      refine k p (by omega) (Nat.le_refl _) (fst_f hpl (by simp)) _ (f9_s hf3 (by decide)) ((sI_ne (by decide)).trans h37) ((sI_ne (by decide)).trans h38) ?_
      rw [sI_eq, Nat.sub_self]
      rfl
    refine aw_aload_n e_Mo_next_98 rfl ?_
    refine aw_getE e_Mo_next_99 fl_Mo_246 h37 ?_
    refine aw_aload_n e_Mo_next_102 rfl ?_
    refine aw_getE e_Mo_next_103 fl_Mo_229 hT3.1 ?_
    refine awN_icmp_ne e_Mo_next_106 (by omega) (by omega) (fun h106 => ?_) (fun h106 => ?_)
    · refine aw_aload_n e_Mo_next_117 rfl ?_
      refine aw_aload_n e_Mo_next_118 rfl ?_
      refine aw_getE e_Mo_next_119 fl_Mo_246 h37 ?_
      refine aw_cV1 e_Mo_next_122 ml_Mo_249 mf_Mo_isLetter mv_Mo_isLetter (c_Mo_isLetter hS hT3 (by omega) ?_)
      refine awB_eq e_Mo_next_125 (fun h125 => ?_) (fun h125 => ?_)
      · refine aw_aload_n e_Mo_next_198 rfl ?_
        refine aw_aload_n e_Mo_next_199 rfl ?_
        refine aw_getE e_Mo_next_200 fl_Mo_246 h37 ?_
        refine aw_cV1 e_Mo_next_203 ml_Mo_255 mf_Mo_isDigit mv_Mo_isDigit (c_Mo_isDigit hS hT3 (by omega) ?_)
        refine awB_eq e_Mo_next_206 (fun h206 => ?_) (fun h206 => ?_)
        · refine aw_aload_n e_Mo_next_311 rfl ?_
          refine aw_iconst (v := nI 3) e_Mo_next_312 (by decide) ?_
          refine aw_putI e_Mo_next_313 fl_Mo_243 ?_
          refine aw_aload_n e_Mo_next_316 rfl ?_
          refine aw_aload_n e_Mo_next_317 rfl ?_
          refine aw_getR e_Mo_next_318 fl_Mo_50 (hS.1 _ _ _ _ rfl) ?_
          refine aw_aload_n e_Mo_next_321 rfl ?_
          refine aw_getE e_Mo_next_322 fl_Mo_246 ((sI_ne (by decide)).trans h37) ?_
          refine aw_ialE e_Mo_next_325 rfl (show _ < 96 by omega) (by omega) (show _ = nI (byt (t.2 p)) by rw [sI_n (by decide)]; exact (hT3.b (by omega)).1) ?_
          refine aw_putI e_Mo_next_326 fl_Mo_252 ?_
          refine aw_aload_n e_Mo_next_329 rfl ?_
          refine aw_dup e_Mo_next_330 rfl ?_
          refine aw_getE e_Mo_next_331 fl_Mo_240 ((sI_ne (by decide)).trans ((sI_ne (by decide)).trans h38)) ?_
          refine aw_iconst (v := nI 1) e_Mo_next_334 (by decide) ?_
          first | refine awN_iadd e_Mo_next_335 ?_ | refine aw_iadd e_Mo_next_335 ?_
          refine aw_putI e_Mo_next_336 fl_Mo_240 ?_
          first
            | (have hs0 : ¬ srt t p = 0 := fun z => by have := srt_n.1 z; omega
               have hs3 : srt t p = 3 := by omega
               have hnx : nxW t x = (p, p + 1, 3) := by
                 unfold nxW
                 rw [hps, if_neg (by omega), if_pos (by omega)]
               refine aw_vret e_Mo_next_339 rfl (hQ _ ?_ (f9_s (f9_s (f9_s hf3 (f := 19) (by decide)) (f := 21) (by decide)) (f := 18) (by decide)))
               rw [hnx]
               refine ⟨by rw [sI_ne (by decide), sI_ne (by decide), sI_ne (by decide)]; exact h37, sI_eq _ _ _ _ _, by rw [sI_ne (by decide), sI_ne (by decide), sI_eq]; rfl, fun z => absurd z (show ¬ (3 : Nat) = 1 by decide), fun _ => by rw [sI_ne (by decide), sI_eq], fun z => absurd z (show ¬ (3 : Nat) = 2 by decide)⟩)
            | (have hnx : nxW t x = (p, p, 0) := by
                 unfold nxW
                 rw [hps, if_pos (srt_n.2 (by omega))]
               refine aw_vret e_Mo_next_339 rfl (hQ _ ?_ (f9_s hf3 (f := 19) (by decide)))
               rw [hnx]
               exact ⟨(sI_ne (by decide)).trans h37, (sI_ne (by decide)).trans h38, sI_eq _ _ _ _ _, fun z => absurd z (show ¬ (0 : Nat) = 1 by decide), fun z => absurd z (show ¬ (0 : Nat) = 3 by decide), fun z => absurd z (show ¬ (0 : Nat) = 2 by decide)⟩)
        · refine aw_aload_n e_Mo_next_209 rfl ?_
          refine aw_iconst (v := nI 0) e_Mo_next_210 (by decide) ?_
          refine aw_putI e_Mo_next_211 fl_Mo_258 ?_
          exact k214 h206
      · exact k128 h125
    · refine aw_aload_n e_Mo_next_109 rfl ?_
      refine aw_iconst (v := nI 0) e_Mo_next_110 (by decide) ?_
      refine aw_putI e_Mo_next_111 fl_Mo_243 ?_
      refine aw_goto e_Mo_next_114 ?_
      first
        | (have hs0 : ¬ srt t p = 0 := fun z => by have := srt_n.1 z; omega
           have hs3 : srt t p = 3 := by omega
           have hnx : nxW t x = (p, p + 1, 3) := by
             unfold nxW
             rw [hps, if_neg (by omega), if_pos (by omega)]
           refine aw_vret e_Mo_next_339 rfl (hQ _ ?_ (f9_s (f9_s (f9_s hf3 (f := 19) (by decide)) (f := 21) (by decide)) (f := 18) (by decide)))
           rw [hnx]
           refine ⟨by rw [sI_ne (by decide), sI_ne (by decide), sI_ne (by decide)]; exact h37, sI_eq _ _ _ _ _, by rw [sI_ne (by decide), sI_ne (by decide), sI_eq]; rfl, fun z => absurd z (show ¬ (3 : Nat) = 1 by decide), fun _ => by rw [sI_ne (by decide), sI_eq], fun z => absurd z (show ¬ (3 : Nat) = 2 by decide)⟩)
        | (have hnx : nxW t x = (p, p, 0) := by
             unfold nxW
             rw [hps, if_pos (srt_n.2 (by omega))]
           refine aw_vret e_Mo_next_339 rfl (hQ _ ?_ (f9_s hf3 (f := 19) (by decide)))
           rw [hnx]
           exact ⟨(sI_ne (by decide)).trans h37, (sI_ne (by decide)).trans h38, sI_eq _ _ _ _ _, fun z => absurd z (show ¬ (0 : Nat) = 1 by decide), fun z => absurd z (show ¬ (0 : Nat) = 3 by decide), fun z => absurd z (show ¬ (0 : Nat) = 2 by decide)⟩)
  have k34 : ∀ p, p ≤ t.1 → x.2.1 ≤ p → fst' (fun j => !(decide (t.2 j = nI 32))) t.1 p = skp t x.2.1 → ∀ I2 : It, f9 I I2 → I2 9 0 18 = nI p → AWq l E (d + 2) M_Mo_next Z 34 [some (vr 9 0), some (vi (bI (x.2.2 = 1 ∨ x.2.2 = 2))), some (vi (nI x.2.1))] [] I2 L R Z Q := by
    refine up_loop (fun p hp ih hxp hv I2 hf2 h28 => ?_)
    have hT2 := hT.f9 hf2
    refine aw_aload_n e_Mo_next_34 rfl ?_
    refine aw_getE e_Mo_next_35 fl_Mo_240 h28 ?_
    refine aw_aload_n e_Mo_next_38 rfl ?_
    refine aw_getE e_Mo_next_39 fl_Mo_229 hT2.1 ?_
    refine awN_icmp_ge e_Mo_next_42 (by omega) (by omega) (fun h42 => ?_) (fun h42 => ?_)
    · refine aw_iload_n e_Mo_next_72 rfl ?_
      refine awB_eq e_Mo_next_73 (fun h73 => ?_) (fun h73 => ?_)
      · refine aw_iconst (v := nI 0) e_Mo_next_88 (by decide) ?_
        refine aw_ist1 e_Mo_next_89 ?_
        refine aw_aload_n e_Mo_next_90 rfl ?_
        refine aw_aload_n e_Mo_next_91 rfl ?_
        refine aw_getE e_Mo_next_92 fl_Mo_240 h28 ?_
        refine aw_putI e_Mo_next_95 fl_Mo_246 ?_
        have hkk := k98 p hp hxp (by
          rw [← hv]
          first
            | (rw [fst_ge (by omega)]; omega)
            | exact fst_t h42 (by rw [decide_eq_false (fun z => h56 ((byt_c hT h42 (by decide)).2 z))]; rfl)) _ (f9_s hf2 (f := 17) (x := nI p) (by decide)) (sI_eq _ _ _ _ _) ((sI_ne (by decide)).trans h28)
        first
          | (rw [bI_t (c := ((x.2.2 = 1 ∨ x.2.2 = 2) ∧ p = x.2.1)) ⟨h73, by omega⟩] at hkk; exact hkk)
          | (rw [bI_f (c := ((x.2.2 = 1 ∨ x.2.2 = 2) ∧ p = x.2.1)) (fun z => h73 z.1)] at hkk; exact hkk)
          | (rw [bI_f (c := ((x.2.2 = 1 ∨ x.2.2 = 2) ∧ p = x.2.1)) (fun z => h81 z.2.symm)] at hkk; exact hkk)
      · refine aw_iload_n e_Mo_next_76 rfl ?_
        refine aw_aload_n e_Mo_next_77 rfl ?_
        refine aw_getE e_Mo_next_78 fl_Mo_240 h28 ?_
        refine awN_icmp_ne e_Mo_next_81 (by omega) (by omega) (fun h81 => ?_) (fun h81 => ?_)
        · refine aw_iconst (v := nI 0) e_Mo_next_88 (by decide) ?_
          refine aw_ist1 e_Mo_next_89 ?_
          refine aw_aload_n e_Mo_next_90 rfl ?_
          refine aw_aload_n e_Mo_next_91 rfl ?_
          refine aw_getE e_Mo_next_92 fl_Mo_240 h28 ?_
          refine aw_putI e_Mo_next_95 fl_Mo_246 ?_
          have hkk := k98 p hp hxp (by
            rw [← hv]
            first
              | (rw [fst_ge (by omega)]; omega)
              | exact fst_t h42 (by rw [decide_eq_false (fun z => h56 ((byt_c hT h42 (by decide)).2 z))]; rfl)) _ (f9_s hf2 (f := 17) (x := nI p) (by decide)) (sI_eq _ _ _ _ _) ((sI_ne (by decide)).trans h28)
          first
            | (rw [bI_t (c := ((x.2.2 = 1 ∨ x.2.2 = 2) ∧ p = x.2.1)) ⟨h73, by omega⟩] at hkk; exact hkk)
            | (rw [bI_f (c := ((x.2.2 = 1 ∨ x.2.2 = 2) ∧ p = x.2.1)) (fun z => h73 z.1)] at hkk; exact hkk)
            | (rw [bI_f (c := ((x.2.2 = 1 ∨ x.2.2 = 2) ∧ p = x.2.1)) (fun z => h81 z.2.symm)] at hkk; exact hkk)
        · refine aw_iconst (v := nI 1) e_Mo_next_84 (by decide) ?_
          refine aw_goto e_Mo_next_85 ?_
          refine aw_ist1 e_Mo_next_89 ?_
          refine aw_aload_n e_Mo_next_90 rfl ?_
          refine aw_aload_n e_Mo_next_91 rfl ?_
          refine aw_getE e_Mo_next_92 fl_Mo_240 h28 ?_
          refine aw_putI e_Mo_next_95 fl_Mo_246 ?_
          have hkk := k98 p hp hxp (by
            rw [← hv]
            first
              | (rw [fst_ge (by omega)]; omega)
              | exact fst_t h42 (by rw [decide_eq_false (fun z => h56 ((byt_c hT h42 (by decide)).2 z))]; rfl)) _ (f9_s hf2 (f := 17) (x := nI p) (by decide)) (sI_eq _ _ _ _ _) ((sI_ne (by decide)).trans h28)
          first
            | (rw [bI_t (c := ((x.2.2 = 1 ∨ x.2.2 = 2) ∧ p = x.2.1)) ⟨h73, by omega⟩] at hkk; exact hkk)
            | (rw [bI_f (c := ((x.2.2 = 1 ∨ x.2.2 = 2) ∧ p = x.2.1)) (fun z => h73 z.1)] at hkk; exact hkk)
            | (rw [bI_f (c := ((x.2.2 = 1 ∨ x.2.2 = 2) ∧ p = x.2.1)) (fun z => h81 z.2.symm)] at hkk; exact hkk)
    · have hbb := (hT2.b h42).2.1
      refine aw_aload_n e_Mo_next_45 rfl ?_
      refine aw_getR e_Mo_next_46 fl_Mo_50 (hS.1 _ _ _ _ rfl) ?_
      refine aw_aload_n e_Mo_next_49 rfl ?_
      refine aw_getE e_Mo_next_50 fl_Mo_240 h28 ?_
      refine aw_ialE e_Mo_next_53 rfl (show _ < 96 by omega) (by omega) (hT2.b h42).1 ?_
      refine aw_bipush (v := nI 32) e_Mo_next_54 (by decide) ?_
      refine awN_icmp_ne e_Mo_next_56 (by omega) (by omega) (fun h56 => ?_) (fun h56 => ?_)
      · refine aw_iload_n e_Mo_next_72 rfl ?_
        refine awB_eq e_Mo_next_73 (fun h73 => ?_) (fun h73 => ?_)
        · refine aw_iconst (v := nI 0) e_Mo_next_88 (by decide) ?_
          refine aw_ist1 e_Mo_next_89 ?_
          refine aw_aload_n e_Mo_next_90 rfl ?_
          refine aw_aload_n e_Mo_next_91 rfl ?_
          refine aw_getE e_Mo_next_92 fl_Mo_240 h28 ?_
          refine aw_putI e_Mo_next_95 fl_Mo_246 ?_
          have hkk := k98 p hp hxp (by
            rw [← hv]
            first
              | (rw [fst_ge (by omega)]; omega)
              | exact fst_t h42 (by rw [decide_eq_false (fun z => h56 ((byt_c hT h42 (by decide)).2 z))]; rfl)) _ (f9_s hf2 (f := 17) (x := nI p) (by decide)) (sI_eq _ _ _ _ _) ((sI_ne (by decide)).trans h28)
          first
            | (rw [bI_t (c := ((x.2.2 = 1 ∨ x.2.2 = 2) ∧ p = x.2.1)) ⟨h73, by omega⟩] at hkk; exact hkk)
            | (rw [bI_f (c := ((x.2.2 = 1 ∨ x.2.2 = 2) ∧ p = x.2.1)) (fun z => h73 z.1)] at hkk; exact hkk)
            | (rw [bI_f (c := ((x.2.2 = 1 ∨ x.2.2 = 2) ∧ p = x.2.1)) (fun z => h81 z.2.symm)] at hkk; exact hkk)
        · refine aw_iload_n e_Mo_next_76 rfl ?_
          refine aw_aload_n e_Mo_next_77 rfl ?_
          refine aw_getE e_Mo_next_78 fl_Mo_240 h28 ?_
          refine awN_icmp_ne e_Mo_next_81 (by omega) (by omega) (fun h81 => ?_) (fun h81 => ?_)
          · refine aw_iconst (v := nI 0) e_Mo_next_88 (by decide) ?_
            refine aw_ist1 e_Mo_next_89 ?_
            refine aw_aload_n e_Mo_next_90 rfl ?_
            refine aw_aload_n e_Mo_next_91 rfl ?_
            refine aw_getE e_Mo_next_92 fl_Mo_240 h28 ?_
            refine aw_putI e_Mo_next_95 fl_Mo_246 ?_
            have hkk := k98 p hp hxp (by
              rw [← hv]
              first
                | (rw [fst_ge (by omega)]; omega)
                | exact fst_t h42 (by rw [decide_eq_false (fun z => h56 ((byt_c hT h42 (by decide)).2 z))]; rfl)) _ (f9_s hf2 (f := 17) (x := nI p) (by decide)) (sI_eq _ _ _ _ _) ((sI_ne (by decide)).trans h28)
            first
              | (rw [bI_t (c := ((x.2.2 = 1 ∨ x.2.2 = 2) ∧ p = x.2.1)) ⟨h73, by omega⟩] at hkk; exact hkk)
              | (rw [bI_f (c := ((x.2.2 = 1 ∨ x.2.2 = 2) ∧ p = x.2.1)) (fun z => h73 z.1)] at hkk; exact hkk)
              | (rw [bI_f (c := ((x.2.2 = 1 ∨ x.2.2 = 2) ∧ p = x.2.1)) (fun z => h81 z.2.symm)] at hkk; exact hkk)
          · refine aw_iconst (v := nI 1) e_Mo_next_84 (by decide) ?_
            refine aw_goto e_Mo_next_85 ?_
            refine aw_ist1 e_Mo_next_89 ?_
            refine aw_aload_n e_Mo_next_90 rfl ?_
            refine aw_aload_n e_Mo_next_91 rfl ?_
            refine aw_getE e_Mo_next_92 fl_Mo_240 h28 ?_
            refine aw_putI e_Mo_next_95 fl_Mo_246 ?_
            have hkk := k98 p hp hxp (by
              rw [← hv]
              first
                | (rw [fst_ge (by omega)]; omega)
                | exact fst_t h42 (by rw [decide_eq_false (fun z => h56 ((byt_c hT h42 (by decide)).2 z))]; rfl)) _ (f9_s hf2 (f := 17) (x := nI p) (by decide)) (sI_eq _ _ _ _ _) ((sI_ne (by decide)).trans h28)
            first
              | (rw [bI_t (c := ((x.2.2 = 1 ∨ x.2.2 = 2) ∧ p = x.2.1)) ⟨h73, by omega⟩] at hkk; exact hkk)
              | (rw [bI_f (c := ((x.2.2 = 1 ∨ x.2.2 = 2) ∧ p = x.2.1)) (fun z => h73 z.1)] at hkk; exact hkk)
              | (rw [bI_f (c := ((x.2.2 = 1 ∨ x.2.2 = 2) ∧ p = x.2.1)) (fun z => h81 z.2.symm)] at hkk; exact hkk)
      · refine aw_aload_n e_Mo_next_59 rfl ?_
        refine aw_dup e_Mo_next_60 rfl ?_
        refine aw_getE e_Mo_next_61 fl_Mo_240 h28 ?_
        refine aw_iconst (v := nI 1) e_Mo_next_64 (by decide) ?_
        first | refine awN_iadd e_Mo_next_65 ?_ | refine aw_iadd e_Mo_next_65 ?_
        refine aw_putI e_Mo_next_66 fl_Mo_240 ?_
        refine aw_goto e_Mo_next_69 ?_
        exact ih h42 (by omega) ((fst_f h42 (by rw [decide_eq_true ((byt_c hT h42 (by decide)).1 h56)]; rfl)).symm.trans hv) _ (f9_s hf2 (by decide)) (sI_eq _ _ _ _ _)
  have k28 : AWq l E (d + 2) M_Mo_next Z 28 [some (vr 9 0), none, none] [vi (bI (x.2.2 = 1 ∨ x.2.2 = 2))] I L R Z Q := by
    refine aw_ist1 e_Mo_next_28 ?_
    refine aw_aload_n e_Mo_next_29 rfl ?_
    refine aw_getE e_Mo_next_30 fl_Mo_240 h3 ?_
    refine aw_ist2 e_Mo_next_33 ?_
    exact k34 x.2.1 hb (Nat.le_refl _) rfl I f9_0 h3
  refine aw_aload_n e_Mo_next_0 rfl ?_
  refine aw_getE e_Mo_next_1 fl_Mo_240 h3 ?_
  refine awN_if_le e_Mo_next_4 (by omega) (fun h4 => ?_) (fun h4 => ?_)
  · refine aw_iconst (v := nI 0) e_Mo_next_27 (by decide) ?_
    first
      | (rw [bI_t (c := (x.2.2 = 1 ∨ x.2.2 = 2)) (hgl.1 (by omega))] at k28; exact k28)
      | (rw [bI_f (c := (x.2.2 = 1 ∨ x.2.2 = 2)) (fun z => by have := hgl.2 z; omega)] at k28; exact k28)
  · refine aw_aload_n e_Mo_next_7 rfl ?_
    refine aw_getE e_Mo_next_8 fl_Mo_243 htok ?_
    refine aw_iconst (v := nI 1) e_Mo_next_11 (by decide) ?_
    refine awN_icmp_eq e_Mo_next_12 (by omega) (by omega) (fun h12 => ?_) (fun h12 => ?_)
    · refine aw_iconst (v := nI 1) e_Mo_next_23 (by decide) ?_
      refine aw_goto e_Mo_next_24 ?_
      first
        | (rw [bI_t (c := (x.2.2 = 1 ∨ x.2.2 = 2)) (hgl.1 (by omega))] at k28; exact k28)
        | (rw [bI_f (c := (x.2.2 = 1 ∨ x.2.2 = 2)) (fun z => by have := hgl.2 z; omega)] at k28; exact k28)
    · refine aw_aload_n e_Mo_next_15 rfl ?_
      refine aw_getE e_Mo_next_16 fl_Mo_243 htok ?_
      refine aw_iconst (v := nI 2) e_Mo_next_19 (by decide) ?_
      refine awN_icmp_ne e_Mo_next_20 (by omega) (by omega) (fun h20 => ?_) (fun h20 => ?_)
      · refine aw_iconst (v := nI 0) e_Mo_next_27 (by decide) ?_
        first
          | (rw [bI_t (c := (x.2.2 = 1 ∨ x.2.2 = 2)) (hgl.1 (by omega))] at k28; exact k28)
          | (rw [bI_f (c := (x.2.2 = 1 ∨ x.2.2 = 2)) (fun z => by have := hgl.2 z; omega)] at k28; exact k28)
      · refine aw_iconst (v := nI 1) e_Mo_next_23 (by decide) ?_
        refine aw_goto e_Mo_next_24 ?_
        first
          | (rw [bI_t (c := (x.2.2 = 1 ∨ x.2.2 = 2)) (hgl.1 (by omega))] at k28; exact k28)
          | (rw [bI_f (c := (x.2.2 = 1 ∨ x.2.2 = 2)) (fun z => by have := hgl.2 z; omega)] at k28; exact k28)
