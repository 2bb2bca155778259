/-! ===== the tape: words ===== -/
def TP (I : It) (t : TB) : Prop := I 6 0 0 = nI t.1 ∧ t.1 ≤ 96 ∧ ∀ j, j < t.1 → I 20 0 j = t.2 j
def LW (I : It) (x : Wd) : Prop := I 6 0 1 = nI x.1 ∧ I 6 0 3 = nI x.2.1 ∧ I 6 0 4 = nI x.2.2
def fW (I I2 : It) : Prop := (∀ t i, ¬ (t = 6 ∧ i = 0) → I2 t i = I t i) ∧ ∀ f, f ≠ 1 → f ≠ 3 → f ≠ 4 → I2 6 0 f = I 6 0 f
theorem TP.fW {I I2 : It} {t : TB} (h : TP I t) (hf : fW I I2) : TP I2 t := ⟨(hf.2 0 (by decide) (by decide) (by decide)).trans h.1, h.2.1, fun j hj => by rw [hf.1 20 0 (by decide)]; exact h.2.2 j hj⟩
section BAL
variable {l : Launch} {E : En} {d : Nat} {M : Mt} {Z0 : Zt} {pc pc2 : Nat} {ls : List (Option AV)} {st : List AV} {I : It} {L : Lt} {R : Rt} {Z : Zt} {Q : Qt}
theorem aw_balE {t i n : Nat} {x y : Int32} (hd : Dc M pc .baload 1 pc2) (hx : x = nI n) (hn : n < alen Z t i) (hb : n < 2147483648) (hy : I t i n = y) (k : AWq l E d M Z0 pc2 ls (vi y :: st) I L R Z Q) (ht : 10 ≤ t ∧ t < 50 ∧ tc t = 2 := by exact ⟨by decide, by decide, rfl⟩) : AWq l E d M Z0 pc ls (vi x :: vr t i :: st) I L R Z Q := by
  subst hy
  exact aw_bald hd hx hn hb k ht
end BAL
theorem srt_v {t : TB} {j : Nat} (h : j < t.1) : srt t j = if 97 ≤ (t.2 j).toInt ∧ (t.2 j).toInt ≤ 122 then 1 else if 48 ≤ (t.2 j).toInt ∧ (t.2 j).toInt ≤ 57 then 2 else 3 := by
  unfold srt
  rw [if_pos h]
  by_cases h1 : 97 ≤ (t.2 j).toInt ∧ (t.2 j).toInt ≤ 122
  · rw [if_pos h1, if_pos (isLt_iff.2 h1)]
  · rw [if_neg h1, if_neg (fun z => h1 (isLt_iff.1 z))]
    by_cases h2 : 48 ≤ (t.2 j).toInt ∧ (t.2 j).toInt ≤ 57
    · rw [if_pos h2, if_pos (isDg_iff.2 h2)]
    · rw [if_neg h2, if_neg (fun z => h2 (isDg_iff.1 z))]
theorem c_Ta_sortAt {l : Launch} {E : En} {d : Nat} {I : It} {L : Lt} {R : Rt} {Z : Zt} {Q : Qt} {t : TB} (hS : Sta R) (hT : TP I t) {j : Nat} (hj : j ≤ 96) (hQ : Q (some (vi (nI (srt t j)))) I L R Z) : AMet l E d M_Ta_sortAt [vr 6 0, vi (nI j)] I L R Z Q := by
  have hT97 : (nI 97).toInt = 97 := by decide
  have hT122 : (nI 122).toInt = 122 := by decide
  have hT48 : (nI 48).toInt = 48 := by decide
  have hT57 : (nI 57).toInt = 57 := by decide
  have hT1 := hT.2.1
  refine AMet.of mf_Ta_sortAt rfl (Nat.le_of_ble_eq_true rfl) ?_
  refine aw_iload_n e_Ta_sortAt_0 rfl ?_
  refine aw_aload_n e_Ta_sortAt_1 rfl ?_
  refine aw_getE e_Ta_sortAt_2 fl_Ta_19 hT.1 ?_
  refine awN_icmp_lt e_Ta_sortAt_5 (by omega) (by omega) (fun h5 => ?_) (fun h5 => ?_)
  · refine aw_aload_n e_Ta_sortAt_10 rfl ?_
    refine aw_getR e_Ta_sortAt_11 fl_Ta_9 (hS.1 _ _ _ _ rfl) ?_
    refine aw_iload_n e_Ta_sortAt_14 rfl ?_
    refine aw_balE e_Ta_sortAt_15 rfl (show _ < 96 by omega) (by omega) (hT.2.2 _ (by omega)) ?_
    refine aw_bipush (v := nI 97) e_Ta_sortAt_16 (by decide) ?_
    refine awZ_icmp_lt e_Ta_sortAt_18 (fun h18 => ?_) (fun h18 => ?_)
    · refine aw_aload_n e_Ta_sortAt_34 rfl ?_
      refine aw_getR e_Ta_sortAt_35 fl_Ta_9 (hS.1 _ _ _ _ rfl) ?_
      refine aw_iload_n e_Ta_sortAt_38 rfl ?_
      refine aw_balE e_Ta_sortAt_39 rfl (show _ < 96 by omega) (by omega) (hT.2.2 _ (by omega)) ?_
      refine aw_bipush (v := nI 48) e_Ta_sortAt_40 (by decide) ?_
      refine awZ_icmp_lt e_Ta_sortAt_42 (fun h42 => ?_) (fun h42 => ?_)
      · refine aw_iconst (v := nI 3) e_Ta_sortAt_60 (by decide) ?_
        rw [srt_v h5, if_neg (by omega)] at hQ
        first
          | (rw [if_pos (by omega)] at hQ; exact aw_iret e_Ta_sortAt_61 rfl rfl hQ)
          | (rw [if_neg (by omega)] at hQ; exact aw_iret e_Ta_sortAt_61 rfl rfl hQ)
      · refine aw_aload_n e_Ta_sortAt_45 rfl ?_
        refine aw_getR e_Ta_sortAt_46 fl_Ta_9 (hS.1 _ _ _ _ rfl) ?_
        refine aw_iload_n e_Ta_sortAt_49 rfl ?_
        refine aw_balE e_Ta_sortAt_50 rfl (show _ < 96 by omega) (by omega) (hT.2.2 _ (by omega)) ?_
        refine aw_bipush (v := nI 57) e_Ta_sortAt_51 (by decide) ?_
        refine awZ_icmp_gt e_Ta_sortAt_53 (fun h53 => ?_) (fun h53 => ?_)
        · refine aw_iconst (v := nI 3) e_Ta_sortAt_60 (by decide) ?_
          rw [srt_v h5, if_neg (by omega)] at hQ
          first
            | (rw [if_pos (by omega)] at hQ; exact aw_iret e_Ta_sortAt_61 rfl rfl hQ)
            | (rw [if_neg (by omega)] at hQ; exact aw_iret e_Ta_sortAt_61 rfl rfl hQ)
        · refine aw_iconst (v := nI 2) e_Ta_sortAt_56 (by decide) ?_
          refine aw_goto e_Ta_sortAt_57 ?_
          rw [srt_v h5, if_neg (by omega)] at hQ
          first
            | (rw [if_pos (by omega)] at hQ; exact aw_iret e_Ta_sortAt_61 rfl rfl hQ)
            | (rw [if_neg (by omega)] at hQ; exact aw_iret e_Ta_sortAt_61 rfl rfl hQ)
    · refine aw_aload_n e_Ta_sortAt_21 rfl ?_
      refine aw_getR e_Ta_sortAt_22 fl_Ta_9 (hS.1 _ _ _ _ rfl) ?_
      refine aw_iload_n e_Ta_sortAt_25 rfl ?_
      refine aw_balE e_Ta_sortAt_26 rfl (show _ < 96 by omega) (by omega) (hT.2.2 _ (by omega)) ?_
      refine aw_bipush (v := nI 122) e_Ta_sortAt_27 (by decide) ?_
      refine awZ_icmp_gt e_Ta_sortAt_29 (fun h29 => ?_) (fun h29 => ?_)
      · refine aw_aload_n e_Ta_sortAt_34 rfl ?_
        refine aw_getR e_Ta_sortAt_35 fl_Ta_9 (hS.1 _ _ _ _ rfl) ?_
        refine aw_iload_n e_Ta_sortAt_38 rfl ?_
        refine aw_balE e_Ta_sortAt_39 rfl (show _ < 96 by omega) (by omega) (hT.2.2 _ (by omega)) ?_
        refine aw_bipush (v := nI 48) e_Ta_sortAt_40 (by decide) ?_
        refine awZ_icmp_lt e_Ta_sortAt_42 (fun h42 => ?_) (fun h42 => ?_)
        · refine aw_iconst (v := nI 3) e_Ta_sortAt_60 (by decide) ?_
          rw [srt_v h5, if_neg (by omega)] at hQ
          first
            | (rw [if_pos (by omega)] at hQ; exact aw_iret e_Ta_sortAt_61 rfl rfl hQ)
            | (rw [if_neg (by omega)] at hQ; exact aw_iret e_Ta_sortAt_61 rfl rfl hQ)
        · refine aw_aload_n e_Ta_sortAt_45 rfl ?_
          refine aw_getR e_Ta_sortAt_46 fl_Ta_9 (hS.1 _ _ _ _ rfl) ?_
          refine aw_iload_n e_Ta_sortAt_49 rfl ?_
          refine aw_balE e_Ta_sortAt_50 rfl (show _ < 96 by omega) (by omega) (hT.2.2 _ (by omega)) ?_
          refine aw_bipush (v := nI 57) e_Ta_sortAt_51 (by decide) ?_
          refine awZ_icmp_gt e_Ta_sortAt_53 (fun h53 => ?_) (fun h53 => ?_)
          · refine aw_iconst (v := nI 3) e_Ta_sortAt_60 (by decide) ?_
            rw [srt_v h5, if_neg (by omega)] at hQ
            first
              | (rw [if_pos (by omega)] at hQ; exact aw_iret e_Ta_sortAt_61 rfl rfl hQ)
              | (rw [if_neg (by omega)] at hQ; exact aw_iret e_Ta_sortAt_61 rfl rfl hQ)
          · refine aw_iconst (v := nI 2) e_Ta_sortAt_56 (by decide) ?_
            refine aw_goto e_Ta_sortAt_57 ?_
            rw [srt_v h5, if_neg (by omega)] at hQ
            first
              | (rw [if_pos (by omega)] at hQ; exact aw_iret e_Ta_sortAt_61 rfl rfl hQ)
              | (rw [if_neg (by omega)] at hQ; exact aw_iret e_Ta_sortAt_61 rfl rfl hQ)
      · refine aw_iconst (v := nI 1) e_Ta_sortAt_32 (by decide) ?_
        rw [srt_v h5, if_pos (by omega)] at hQ
        exact aw_iret e_Ta_sortAt_33 rfl rfl hQ
  · refine aw_iconst (v := nI 0) e_Ta_sortAt_8 (by decide) ?_
    rw [srt_n.2 (by omega)] at hQ
    exact aw_iret e_Ta_sortAt_9 rfl rfl hQ
theorem c_Ta_goOn {l : Launch} {E : En} {d : Nat} {I : It} {L : Lt} {R : Rt} {Z : Zt} {Q : Qt} {t : TB} (hS : Sta R) (hT : TP I t) {x : Wd} (h3 : I 6 0 3 = nI x.2.1) (h4 : I 6 0 4 = nI x.2.2) (hb : x.2.1 ≤ t.1) (hso : x.2.2 ≤ 4) (hQ : ∀ I2, LW I2 (nxW t x) → fW I I2 → Q none I2 L R Z) : AMet l E (d + 1) M_Ta_goOn [vr 6 0] I L R Z Q := by
  have hT1 := hT.2.1
  refine AMet.of mf_Ta_goOn rfl (Nat.le_of_ble_eq_true rfl) ?_
  have k32 : ∀ p, p ≤ t.1 → x.2.1 ≤ p → fst' (fun j => !(decide (t.2 j = nI 32))) t.1 p = skp t x.2.1 → ∀ I2 : It, (∀ t i, ¬ (t = 6 ∧ i = 0) → I2 t i = I t i) → (∀ f, f ≠ 1 → I2 6 0 f = I 6 0 f) → I2 6 0 1 = nI p → AWq l E (d + 1) M_Ta_goOn Z 32 [some (vr 6 0), some (vi (bI (x.2.2 = 1 ∨ x.2.2 = 2))), some (vi (nI x.2.1))] [] I2 L R Z Q := by
    refine up_loop (fun p hp ih hxp hv I2 h2a h2b h21 => ?_)
    have hT2 : TP I2 t := hT.fW ⟨h2a, fun f a _ _ => h2b f a⟩
    refine aw_aload_n e_Ta_goOn_32 rfl ?_
    refine aw_getE e_Ta_goOn_33 fl_Ta_63 h21 ?_
    refine aw_aload_n e_Ta_goOn_36 rfl ?_
    refine aw_getE e_Ta_goOn_37 fl_Ta_19 hT2.1 ?_
    refine awN_icmp_ge e_Ta_goOn_40 (by omega) (by omega) (fun h40 => ?_) (fun h40 => ?_)
    · refine aw_aload_n e_Ta_goOn_70 rfl ?_
      refine aw_aload_n e_Ta_goOn_71 rfl ?_
      refine aw_getE e_Ta_goOn_72 fl_Ta_63 h21 ?_
      refine aw_putI e_Ta_goOn_75 fl_Ta_23 ?_
      refine aw_aload_n e_Ta_goOn_78 rfl ?_
      refine aw_aload_n e_Ta_goOn_79 rfl ?_
      refine aw_aload_n e_Ta_goOn_80 rfl ?_
      refine aw_getE e_Ta_goOn_81 fl_Ta_63 ((sI_ne (by decide)).trans h21) ?_
      refine aw_cV1 e_Ta_goOn_84 ml_Ta_66 mf_Ta_sortAt mv_Ta_sortAt (c_Ta_sortAt hS (hT.fW ⟨fun t i hti => (sI_n hti).trans (h2a t i hti), fun f a b c => (sI_ne b).trans (h2b f a)⟩) (by omega) ?_)
      refine aw_putI e_Ta_goOn_87 fl_Ta_26 ?_
      have hps : skp t x.2.1 = p := by
        rw [← hv]
        first
          | (rw [fst_ge (by omega)]; omega)
          | exact fst_t h40 (by rw [decide_eq_false h54]; rfl)
      have hsl := srt_le t p
      generalize hI3 : sI (sI I2 6 0 3 (nI p)) 6 0 4 (nI (srt t p)) = I3
      have h3a : ∀ t i, ¬ (t = 6 ∧ i = 0) → I3 t i = I t i := fun t i hti => by rw [← hI3, sI_n hti, sI_n hti]; exact h2a t i hti
      have h3b : ∀ f, f ≠ 1 → f ≠ 3 → f ≠ 4 → I3 6 0 f = I 6 0 f := fun f a b c => by rw [← hI3, sI_ne c, sI_ne b]; exact h2b f a
      have h31 : I3 6 0 1 = nI p := by rw [← hI3, sI_ne (by decide), sI_ne (by decide)]; exact h21
      have h33 : I3 6 0 3 = nI p := by rw [← hI3, sI_ne (by decide), sI_eq]
      have h34 : I3 6 0 4 = nI (srt t p) := by rw [← hI3, sI_eq]
      refine aw_aload_n e_Ta_goOn_90 rfl ?_
      refine aw_getE e_Ta_goOn_91 fl_Ta_26 h34 ?_
      refine awN_if_ne e_Ta_goOn_94 (by omega) (fun h94 => ?_) (fun h94 => ?_)
      · refine aw_aload_n e_Ta_goOn_98 rfl ?_
        refine aw_dup e_Ta_goOn_99 rfl ?_
        refine aw_getE e_Ta_goOn_100 fl_Ta_23 h33 ?_
        refine aw_iconst (v := nI 1) e_Ta_goOn_103 (by decide) ?_
        first | refine awN_iadd e_Ta_goOn_104 ?_ | refine aw_iadd e_Ta_goOn_104 ?_
        refine aw_putI e_Ta_goOn_105 fl_Ta_23 ?_
        refine aw_aload_n e_Ta_goOn_108 rfl ?_
        refine aw_getE e_Ta_goOn_109 fl_Ta_26 ((sI_ne (by decide)).trans h34) ?_
        refine aw_iconst (v := nI 3) e_Ta_goOn_112 (by decide) ?_
        refine awN_icmp_ne e_Ta_goOn_113 (by omega) (by omega) (fun h113 => ?_) (fun h113 => ?_)
        · have hs0 := h94
          have hs3 := h113
          have hpn : p < t.1 := Decidable.byContradiction (fun z => hs0 (srt_n.2 z))
          have k117 : ∀ j, j ≤ t.1 → p + 1 ≤ j → fst' (fun j => !(srt t j == srt t p)) t.1 j = xtd t (srt t p) (p + 1) → ∀ I5 : It, (∀ t i, ¬ (t = 6 ∧ i = 0) → I5 t i = I3 t i) → (∀ f, f ≠ 3 → I5 6 0 f = I3 6 0 f) → I5 6 0 3 = nI j → AWq l E (d + 1) M_Ta_goOn Z 117 [some (vr 6 0), some (vi (bI (x.2.2 = 1 ∨ x.2.2 = 2))), some (vi (nI x.2.1))] [] I5 L R Z Q := by
            refine up_loop (fun j hj ih hpj hv I5 h5a h5b h53 => ?_)
            have h51 : I5 6 0 1 = nI p := (h5b 1 (by decide)).trans h31
            have h54 : I5 6 0 4 = nI (srt t p) := (h5b 4 (by decide)).trans h34
            have hT5 : TP I5 t := hT.fW ⟨fun t i hti => (h5a t i hti).trans (h3a t i hti), fun f a b c => (h5b f b).trans (h3b f a b c)⟩
            have hsl := srt_le t j
            refine aw_aload_n e_Ta_goOn_117 rfl ?_
            refine aw_getE e_Ta_goOn_118 fl_Ta_23 h53 ?_
            refine aw_aload_n e_Ta_goOn_121 rfl ?_
            refine aw_getE e_Ta_goOn_122 fl_Ta_19 hT5.1 ?_
            refine awN_icmp_ge e_Ta_goOn_125 (by omega) (by omega) (fun h125 => ?_) (fun h125 => ?_)
            · refine aw_iload_n e_Ta_goOn_156 rfl ?_
              refine awB_eq e_Ta_goOn_157 (fun h157 => ?_) (fun h157 => ?_)
              · have hfw : fW I I5 := ⟨fun t i hti => (h5a t i hti).trans (h3a t i hti), fun f a b c => (h5b f b).trans (h3b f a b c)⟩
                have hjx : j = xtd t (srt t p) (p + 1) := by
                  rw [← hv]
                  first
                    | (rw [fst_ge (by omega)]; omega)
                    | exact (fst_t h125 (by simp; intro z; exact h140 (by rw [z]))).symm
                have hnx : nxW t x = (p, j, if (x.2.2 = 1 ∨ x.2.2 = 2) ∧ p = x.2.1 then 4 else srt t p) := by
                  unfold nxW
                  rw [hps, if_neg hs0, if_neg hs3, ← hjx]
                first
                  | (refine aw_vret e_Ta_goOn_173 rfl (hQ _ ?_ ⟨fun t i hti => (sI_n hti).trans (hfw.1 t i hti), fun f a b c => (sI_ne c).trans (hfw.2 f a b c)⟩)
                     rw [hnx, if_pos ⟨h157, h165⟩]
                     exact ⟨(sI_ne (by decide)).trans h51, (sI_ne (by decide)).trans h53, sI_eq _ _ _ _ _⟩)
                  | (refine aw_vret e_Ta_goOn_173 rfl (hQ _ ?_ hfw)
                     rw [hnx, if_neg (fun z => h165 z.2)]
                     exact ⟨h51, h53, h54⟩)
                  | (refine aw_vret e_Ta_goOn_173 rfl (hQ _ ?_ hfw)
                     rw [hnx, if_neg (fun z => h157 z.1)]
                     exact ⟨h51, h53, h54⟩)
              · refine aw_aload_n e_Ta_goOn_160 rfl ?_
                refine aw_getE e_Ta_goOn_161 fl_Ta_63 h51 ?_
                refine aw_iload_n e_Ta_goOn_164 rfl ?_
                refine awN_icmp_ne e_Ta_goOn_165 (by omega) (by omega) (fun h165 => ?_) (fun h165 => ?_)
                · have hfw : fW I I5 := ⟨fun t i hti => (h5a t i hti).trans (h3a t i hti), fun f a b c => (h5b f b).trans (h3b f a b c)⟩
                  have hjx : j = xtd t (srt t p) (p + 1) := by
                    rw [← hv]
                    first
                      | (rw [fst_ge (by omega)]; omega)
                      | exact (fst_t h125 (by simp; intro z; exact h140 (by rw [z]))).symm
                  have hnx : nxW t x = (p, j, if (x.2.2 = 1 ∨ x.2.2 = 2) ∧ p = x.2.1 then 4 else srt t p) := by
                    unfold nxW
                    rw [hps, if_neg hs0, if_neg hs3, ← hjx]
                  first
                    | (refine aw_vret e_Ta_goOn_173 rfl (hQ _ ?_ ⟨fun t i hti => (sI_n hti).trans (hfw.1 t i hti), fun f a b c => (sI_ne c).trans (hfw.2 f a b c)⟩)
                       rw [hnx, if_pos ⟨h157, h165⟩]
                       exact ⟨(sI_ne (by decide)).trans h51, (sI_ne (by decide)).trans h53, sI_eq _ _ _ _ _⟩)
                    | (refine aw_vret e_Ta_goOn_173 rfl (hQ _ ?_ hfw)
                       rw [hnx, if_neg (fun z => h165 z.2)]
                       exact ⟨h51, h53, h54⟩)
                    | (refine aw_vret e_Ta_goOn_173 rfl (hQ _ ?_ hfw)
                       rw [hnx, if_neg (fun z => h157 z.1)]
                       exact ⟨h51, h53, h54⟩)
                · refine aw_aload_n e_Ta_goOn_168 rfl ?_
                  refine aw_iconst (v := nI 4) e_Ta_goOn_169 (by decide) ?_
                  refine aw_putI e_Ta_goOn_170 fl_Ta_26 ?_
                  have hfw : fW I I5 := ⟨fun t i hti => (h5a t i hti).trans (h3a t i hti), fun f a b c => (h5b f b).trans (h3b f a b c)⟩
                  have hjx : j = xtd t (srt t p) (p + 1) := by
                    rw [← hv]
                    first
                      | (rw [fst_ge (by omega)]; omega)
                      | exact (fst_t h125 (by simp; intro z; exact h140 (by rw [z]))).symm
                  have hnx : nxW t x = (p, j, if (x.2.2 = 1 ∨ x.2.2 = 2) ∧ p = x.2.1 then 4 else srt t p) := by
                    unfold nxW
                    rw [hps, if_neg hs0, if_neg hs3, ← hjx]
                  first
                    | (refine aw_vret e_Ta_goOn_173 rfl (hQ _ ?_ ⟨fun t i hti => (sI_n hti).trans (hfw.1 t i hti), fun f a b c => (sI_ne c).trans (hfw.2 f a b c)⟩)
                       rw [hnx, if_pos ⟨h157, h165⟩]
                       exact ⟨(sI_ne (by decide)).trans h51, (sI_ne (by decide)).trans h53, sI_eq _ _ _ _ _⟩)
                    | (refine aw_vret e_Ta_goOn_173 rfl (hQ _ ?_ hfw)
                       rw [hnx, if_neg (fun z => h165 z.2)]
                       exact ⟨h51, h53, h54⟩)
                    | (refine aw_vret e_Ta_goOn_173 rfl (hQ _ ?_ hfw)
                       rw [hnx, if_neg (fun z => h157 z.1)]
                       exact ⟨h51, h53, h54⟩)
            · refine aw_aload_n e_Ta_goOn_128 rfl ?_
              refine aw_aload_n e_Ta_goOn_129 rfl ?_
              refine aw_getE e_Ta_goOn_130 fl_Ta_23 h53 ?_
              refine aw_cV1 e_Ta_goOn_133 ml_Ta_66 mf_Ta_sortAt mv_Ta_sortAt (c_Ta_sortAt hS hT5 (by omega) ?_)
              refine aw_aload_n e_Ta_goOn_136 rfl ?_
              refine aw_getE e_Ta_goOn_137 fl_Ta_26 h54 ?_
              refine awN_icmp_ne e_Ta_goOn_140 (by omega) (by omega) (fun h140 => ?_) (fun h140 => ?_)
              · refine aw_iload_n e_Ta_goOn_156 rfl ?_
                refine awB_eq e_Ta_goOn_157 (fun h157 => ?_) (fun h157 => ?_)
                · have hfw : fW I I5 := ⟨fun t i hti => (h5a t i hti).trans (h3a t i hti), fun f a b c => (h5b f b).trans (h3b f a b c)⟩
                  have hjx : j = xtd t (srt t p) (p + 1) := by
                    rw [← hv]
                    first
                      | (rw [fst_ge (by omega)]; omega)
                      | exact (fst_t h125 (by simp; intro z; exact h140 (by rw [z]))).symm
                  have hnx : nxW t x = (p, j, if (x.2.2 = 1 ∨ x.2.2 = 2) ∧ p = x.2.1 then 4 else srt t p) := by
                    unfold nxW
                    rw [hps, if_neg hs0, if_neg hs3, ← hjx]
                  first
                    | (refine aw_vret e_Ta_goOn_173 rfl (hQ _ ?_ ⟨fun t i hti => (sI_n hti).trans (hfw.1 t i hti), fun f a b c => (sI_ne c).trans (hfw.2 f a b c)⟩)
                       rw [hnx, if_pos ⟨h157, h165⟩]
                       exact ⟨(sI_ne (by decide)).trans h51, (sI_ne (by decide)).trans h53, sI_eq _ _ _ _ _⟩)
                    | (refine aw_vret e_Ta_goOn_173 rfl (hQ _ ?_ hfw)
                       rw [hnx, if_neg (fun z => h165 z.2)]
                       exact ⟨h51, h53, h54⟩)
                    | (refine aw_vret e_Ta_goOn_173 rfl (hQ _ ?_ hfw)
                       rw [hnx, if_neg (fun z => h157 z.1)]
                       exact ⟨h51, h53, h54⟩)
                · refine aw_aload_n e_Ta_goOn_160 rfl ?_
                  refine aw_getE e_Ta_goOn_161 fl_Ta_63 h51 ?_
                  refine aw_iload_n e_Ta_goOn_164 rfl ?_
                  refine awN_icmp_ne e_Ta_goOn_165 (by omega) (by omega) (fun h165 => ?_) (fun h165 => ?_)
                  · have hfw : fW I I5 := ⟨fun t i hti => (h5a t i hti).trans (h3a t i hti), fun f a b c => (h5b f b).trans (h3b f a b c)⟩
                    have hjx : j = xtd t (srt t p) (p + 1) := by
                      rw [← hv]
                      first
                        | (rw [fst_ge (by omega)]; omega)
                        | exact (fst_t h125 (by simp; intro z; exact h140 (by rw [z]))).symm
                    have hnx : nxW t x = (p, j, if (x.2.2 = 1 ∨ x.2.2 = 2) ∧ p = x.2.1 then 4 else srt t p) := by
                      unfold nxW
                      rw [hps, if_neg hs0, if_neg hs3, ← hjx]
                    first
                      | (refine aw_vret e_Ta_goOn_173 rfl (hQ _ ?_ ⟨fun t i hti => (sI_n hti).trans (hfw.1 t i hti), fun f a b c => (sI_ne c).trans (hfw.2 f a b c)⟩)
                         rw [hnx, if_pos ⟨h157, h165⟩]
                         exact ⟨(sI_ne (by decide)).trans h51, (sI_ne (by decide)).trans h53, sI_eq _ _ _ _ _⟩)
                      | (refine aw_vret e_Ta_goOn_173 rfl (hQ _ ?_ hfw)
                         rw [hnx, if_neg (fun z => h165 z.2)]
                         exact ⟨h51, h53, h54⟩)
                      | (refine aw_vret e_Ta_goOn_173 rfl (hQ _ ?_ hfw)
                         rw [hnx, if_neg (fun z => h157 z.1)]
                         exact ⟨h51, h53, h54⟩)
                  · refine aw_aload_n e_Ta_goOn_168 rfl ?_
                    refine aw_iconst (v := nI 4) e_Ta_goOn_169 (by decide) ?_
                    refine aw_putI e_Ta_goOn_170 fl_Ta_26 ?_
                    have hfw : fW I I5 := ⟨fun t i hti => (h5a t i hti).trans (h3a t i hti), fun f a b c => (h5b f b).trans (h3b f a b c)⟩
                    have hjx : j = xtd t (srt t p) (p + 1) := by
                      rw [← hv]
                      first
                        | (rw [fst_ge (by omega)]; omega)
                        | exact (fst_t h125 (by simp; intro z; exact h140 (by rw [z]))).symm
                    have hnx : nxW t x = (p, j, if (x.2.2 = 1 ∨ x.2.2 = 2) ∧ p = x.2.1 then 4 else srt t p) := by
                      unfold nxW
                      rw [hps, if_neg hs0, if_neg hs3, ← hjx]
                    first
                      | (refine aw_vret e_Ta_goOn_173 rfl (hQ _ ?_ ⟨fun t i hti => (sI_n hti).trans (hfw.1 t i hti), fun f a b c => (sI_ne c).trans (hfw.2 f a b c)⟩)
                         rw [hnx, if_pos ⟨h157, h165⟩]
                         exact ⟨(sI_ne (by decide)).trans h51, (sI_ne (by decide)).trans h53, sI_eq _ _ _ _ _⟩)
                      | (refine aw_vret e_Ta_goOn_173 rfl (hQ _ ?_ hfw)
                         rw [hnx, if_neg (fun z => h165 z.2)]
                         exact ⟨h51, h53, h54⟩)
                      | (refine aw_vret e_Ta_goOn_173 rfl (hQ _ ?_ hfw)
                         rw [hnx, if_neg (fun z => h157 z.1)]
                         exact ⟨h51, h53, h54⟩)
              · refine aw_aload_n e_Ta_goOn_143 rfl ?_
                refine aw_dup e_Ta_goOn_144 rfl ?_
                refine aw_getE e_Ta_goOn_145 fl_Ta_23 h53 ?_
                refine aw_iconst (v := nI 1) e_Ta_goOn_148 (by decide) ?_
                first | refine awN_iadd e_Ta_goOn_149 ?_ | refine aw_iadd e_Ta_goOn_149 ?_
                refine aw_putI e_Ta_goOn_150 fl_Ta_23 ?_
                refine aw_goto e_Ta_goOn_153 ?_
                refine ih h125 (by omega) ((fst_f h125 (by simp [h140])).symm.trans hv) _ (fun t i hti => (sI_n hti).trans (h5a t i hti)) (fun f hf => (sI_ne hf).trans (h5b f hf)) (sI_eq _ _ _ _ _)
          exact k117 (p + 1) hpn (Nat.le_refl _) rfl _ (fun t i hti => sI_n hti) (fun f hf => sI_ne hf) (sI_eq _ _ _ _ _)
        · refine aw_vret e_Ta_goOn_116 rfl (hQ _ ?_ ⟨fun t i hti => (sI_n hti).trans (h3a t i hti), fun f a b c => (sI_ne b).trans (h3b f a b c)⟩)
          have hnx : nxW t x = (p, p + 1, 3) := by
            unfold nxW
            rw [hps, if_neg h94, if_pos h113]
          rw [hnx]
          exact ⟨(sI_ne (by decide)).trans h31, sI_eq _ _ _ _ _, (sI_ne (by decide)).trans (by rw [h34, h113])⟩
      · refine aw_vret e_Ta_goOn_97 rfl (hQ I3 ?_ ⟨h3a, h3b⟩)
        have hnx : nxW t x = (p, p, 0) := by
          unfold nxW
          rw [hps, if_pos h94]
        rw [hnx]
        exact ⟨h31, h33, by rw [h34, h94]⟩
    · refine aw_aload_n e_Ta_goOn_43 rfl ?_
      refine aw_getR e_Ta_goOn_44 fl_Ta_9 (hS.1 _ _ _ _ rfl) ?_
      refine aw_aload_n e_Ta_goOn_47 rfl ?_
      refine aw_getE e_Ta_goOn_48 fl_Ta_63 h21 ?_
      refine aw_balE e_Ta_goOn_51 rfl (show _ < 96 by omega) (by omega) (hT2.2.2 p h40) ?_
      refine aw_bipush (v := nI 32) e_Ta_goOn_52 (by decide) ?_
      refine aw_icmp_ne e_Ta_goOn_54 (fun h54 => ?_) (fun h54 => ?_)
      · refine aw_aload_n e_Ta_goOn_70 rfl ?_
        refine aw_aload_n e_Ta_goOn_71 rfl ?_
        refine aw_getE e_Ta_goOn_72 fl_Ta_63 h21 ?_
        refine aw_putI e_Ta_goOn_75 fl_Ta_23 ?_
        refine aw_aload_n e_Ta_goOn_78 rfl ?_
        refine aw_aload_n e_Ta_goOn_79 rfl ?_
        refine aw_aload_n e_Ta_goOn_80 rfl ?_
        refine aw_getE e_Ta_goOn_81 fl_Ta_63 ((sI_ne (by decide)).trans h21) ?_
        refine aw_cV1 e_Ta_goOn_84 ml_Ta_66 mf_Ta_sortAt mv_Ta_sortAt (c_Ta_sortAt hS (hT.fW ⟨fun t i hti => (sI_n hti).trans (h2a t i hti), fun f a b c => (sI_ne b).trans (h2b f a)⟩) (by omega) ?_)
        refine aw_putI e_Ta_goOn_87 fl_Ta_26 ?_
        have hps : skp t x.2.1 = p := by
          rw [← hv]
          first
            | (rw [fst_ge (by omega)]; omega)
            | exact fst_t h40 (by rw [decide_eq_false h54]; rfl)
        have hsl := srt_le t p
        generalize hI3 : sI (sI I2 6 0 3 (nI p)) 6 0 4 (nI (srt t p)) = I3
        have h3a : ∀ t i, ¬ (t = 6 ∧ i = 0) → I3 t i = I t i := fun t i hti => by rw [← hI3, sI_n hti, sI_n hti]; exact h2a t i hti
        have h3b : ∀ f, f ≠ 1 → f ≠ 3 → f ≠ 4 → I3 6 0 f = I 6 0 f := fun f a b c => by rw [← hI3, sI_ne c, sI_ne b]; exact h2b f a
        have h31 : I3 6 0 1 = nI p := by rw [← hI3, sI_ne (by decide), sI_ne (by decide)]; exact h21
        have h33 : I3 6 0 3 = nI p := by rw [← hI3, sI_ne (by decide), sI_eq]
        have h34 : I3 6 0 4 = nI (srt t p) := by rw [← hI3, sI_eq]
        refine aw_aload_n e_Ta_goOn_90 rfl ?_
        refine aw_getE e_Ta_goOn_91 fl_Ta_26 h34 ?_
        refine awN_if_ne e_Ta_goOn_94 (by omega) (fun h94 => ?_) (fun h94 => ?_)
        · refine aw_aload_n e_Ta_goOn_98 rfl ?_
          refine aw_dup e_Ta_goOn_99 rfl ?_
          refine aw_getE e_Ta_goOn_100 fl_Ta_23 h33 ?_
          refine aw_iconst (v := nI 1) e_Ta_goOn_103 (by decide) ?_
          first | refine awN_iadd e_Ta_goOn_104 ?_ | refine aw_iadd e_Ta_goOn_104 ?_
          refine aw_putI e_Ta_goOn_105 fl_Ta_23 ?_
          refine aw_aload_n e_Ta_goOn_108 rfl ?_
          refine aw_getE e_Ta_goOn_109 fl_Ta_26 ((sI_ne (by decide)).trans h34) ?_
          refine aw_iconst (v := nI 3) e_Ta_goOn_112 (by decide) ?_
          refine awN_icmp_ne e_Ta_goOn_113 (by omega) (by omega) (fun h113 => ?_) (fun h113 => ?_)
          · have hs0 := h94
            have hs3 := h113
            have hpn : p < t.1 := Decidable.byContradiction (fun z => hs0 (srt_n.2 z))
            have k117 : ∀ j, j ≤ t.1 → p + 1 ≤ j → fst' (fun j => !(srt t j == srt t p)) t.1 j = xtd t (srt t p) (p + 1) → ∀ I5 : It, (∀ t i, ¬ (t = 6 ∧ i = 0) → I5 t i = I3 t i) → (∀ f, f ≠ 3 → I5 6 0 f = I3 6 0 f) → I5 6 0 3 = nI j → AWq l E (d + 1) M_Ta_goOn Z 117 [some (vr 6 0), some (vi (bI (x.2.2 = 1 ∨ x.2.2 = 2))), some (vi (nI x.2.1))] [] I5 L R Z Q := by
              refine up_loop (fun j hj ih hpj hv I5 h5a h5b h53 => ?_)
              have h51 : I5 6 0 1 = nI p := (h5b 1 (by decide)).trans h31
              have h54 : I5 6 0 4 = nI (srt t p) := (h5b 4 (by decide)).trans h34
              have hT5 : TP I5 t := hT.fW ⟨fun t i hti => (h5a t i hti).trans (h3a t i hti), fun f a b c => (h5b f b).trans (h3b f a b c)⟩
              have hsl := srt_le t j
              refine aw_aload_n e_Ta_goOn_117 rfl ?_
              refine aw_getE e_Ta_goOn_118 fl_Ta_23 h53 ?_
              refine aw_aload_n e_Ta_goOn_121 rfl ?_
              refine aw_getE e_Ta_goOn_122 fl_Ta_19 hT5.1 ?_
              refine awN_icmp_ge e_Ta_goOn_125 (by omega) (by omega) (fun h125 => ?_) (fun h125 => ?_)
              · refine aw_iload_n e_Ta_goOn_156 rfl ?_
                refine awB_eq e_Ta_goOn_157 (fun h157 => ?_) (fun h157 => ?_)
                · have hfw : fW I I5 := ⟨fun t i hti => (h5a t i hti).trans (h3a t i hti), fun f a b c => (h5b f b).trans (h3b f a b c)⟩
                  have hjx : j = xtd t (srt t p) (p + 1) := by
                    rw [← hv]
                    first
                      | (rw [fst_ge (by omega)]; omega)
                      | exact (fst_t h125 (by simp; intro z; exact h140 (by rw [z]))).symm
                  have hnx : nxW t x = (p, j, if (x.2.2 = 1 ∨ x.2.2 = 2) ∧ p = x.2.1 then 4 else srt t p) := by
                    unfold nxW
                    rw [hps, if_neg hs0, if_neg hs3, ← hjx]
                  first
                    | (refine aw_vret e_Ta_goOn_173 rfl (hQ _ ?_ ⟨fun t i hti => (sI_n hti).trans (hfw.1 t i hti), fun f a b c => (sI_ne c).trans (hfw.2 f a b c)⟩)
                       rw [hnx, if_pos ⟨h157, h165⟩]
                       exact ⟨(sI_ne (by decide)).trans h51, (sI_ne (by decide)).trans h53, sI_eq _ _ _ _ _⟩)
                    | (refine aw_vret e_Ta_goOn_173 rfl (hQ _ ?_ hfw)
                       rw [hnx, if_neg (fun z => h165 z.2)]
                       exact ⟨h51, h53, h54⟩)
                    | (refine aw_vret e_Ta_goOn_173 rfl (hQ _ ?_ hfw)
                       rw [hnx, if_neg (fun z => h157 z.1)]
                       exact ⟨h51, h53, h54⟩)
                · refine aw_aload_n e_Ta_goOn_160 rfl ?_
                  refine aw_getE e_Ta_goOn_161 fl_Ta_63 h51 ?_
                  refine aw_iload_n e_Ta_goOn_164 rfl ?_
                  refine awN_icmp_ne e_Ta_goOn_165 (by omega) (by omega) (fun h165 => ?_) (fun h165 => ?_)
                  · have hfw : fW I I5 := ⟨fun t i hti => (h5a t i hti).trans (h3a t i hti), fun f a b c => (h5b f b).trans (h3b f a b c)⟩
                    have hjx : j = xtd t (srt t p) (p + 1) := by
                      rw [← hv]
                      first
                        | (rw [fst_ge (by omega)]; omega)
                        | exact (fst_t h125 (by simp; intro z; exact h140 (by rw [z]))).symm
                    have hnx : nxW t x = (p, j, if (x.2.2 = 1 ∨ x.2.2 = 2) ∧ p = x.2.1 then 4 else srt t p) := by
                      unfold nxW
                      rw [hps, if_neg hs0, if_neg hs3, ← hjx]
                    first
                      | (refine aw_vret e_Ta_goOn_173 rfl (hQ _ ?_ ⟨fun t i hti => (sI_n hti).trans (hfw.1 t i hti), fun f a b c => (sI_ne c).trans (hfw.2 f a b c)⟩)
                         rw [hnx, if_pos ⟨h157, h165⟩]
                         exact ⟨(sI_ne (by decide)).trans h51, (sI_ne (by decide)).trans h53, sI_eq _ _ _ _ _⟩)
                      | (refine aw_vret e_Ta_goOn_173 rfl (hQ _ ?_ hfw)
                         rw [hnx, if_neg (fun z => h165 z.2)]
                         exact ⟨h51, h53, h54⟩)
                      | (refine aw_vret e_Ta_goOn_173 rfl (hQ _ ?_ hfw)
                         rw [hnx, if_neg (fun z => h157 z.1)]
                         exact ⟨h51, h53, h54⟩)
                  · refine aw_aload_n e_Ta_goOn_168 rfl ?_
                    refine aw_iconst (v := nI 4) e_Ta_goOn_169 (by decide) ?_
                    refine aw_putI e_Ta_goOn_170 fl_Ta_26 ?_
                    have hfw : fW I I5 := ⟨fun t i hti => (h5a t i hti).trans (h3a t i hti), fun f a b c => (h5b f b).trans (h3b f a b c)⟩
                    have hjx : j = xtd t (srt t p) (p + 1) := by
                      rw [← hv]
                      first
                        | (rw [fst_ge (by omega)]; omega)
                        | exact (fst_t h125 (by simp; intro z; exact h140 (by rw [z]))).symm
                    have hnx : nxW t x = (p, j, if (x.2.2 = 1 ∨ x.2.2 = 2) ∧ p = x.2.1 then 4 else srt t p) := by
                      unfold nxW
                      rw [hps, if_neg hs0, if_neg hs3, ← hjx]
                    first
                      | (refine aw_vret e_Ta_goOn_173 rfl (hQ _ ?_ ⟨fun t i hti => (sI_n hti).trans (hfw.1 t i hti), fun f a b c => (sI_ne c).trans (hfw.2 f a b c)⟩)
                         rw [hnx, if_pos ⟨h157, h165⟩]
                         exact ⟨(sI_ne (by decide)).trans h51, (sI_ne (by decide)).trans h53, sI_eq _ _ _ _ _⟩)
                      | (refine aw_vret e_Ta_goOn_173 rfl (hQ _ ?_ hfw)
                         rw [hnx, if_neg (fun z => h165 z.2)]
                         exact ⟨h51, h53, h54⟩)
                      | (refine aw_vret e_Ta_goOn_173 rfl (hQ _ ?_ hfw)
                         rw [hnx, if_neg (fun z => h157 z.1)]
                         exact ⟨h51, h53, h54⟩)
              · refine aw_aload_n e_Ta_goOn_128 rfl ?_
                refine aw_aload_n e_Ta_goOn_129 rfl ?_
                refine aw_getE e_Ta_goOn_130 fl_Ta_23 h53 ?_
                refine aw_cV1 e_Ta_goOn_133 ml_Ta_66 mf_Ta_sortAt mv_Ta_sortAt (c_Ta_sortAt hS hT5 (by omega) ?_)
                refine aw_aload_n e_Ta_goOn_136 rfl ?_
                refine aw_getE e_Ta_goOn_137 fl_Ta_26 h54 ?_
                refine awN_icmp_ne e_Ta_goOn_140 (by omega) (by omega) (fun h140 => ?_) (fun h140 => ?_)
                · refine aw_iload_n e_Ta_goOn_156 rfl ?_
                  refine awB_eq e_Ta_goOn_157 (fun h157 => ?_) (fun h157 => ?_)
                  · have hfw : fW I I5 := ⟨fun t i hti => (h5a t i hti).trans (h3a t i hti), fun f a b c => (h5b f b).trans (h3b f a b c)⟩
                    have hjx : j = xtd t (srt t p) (p + 1) := by
                      rw [← hv]
                      first
                        | (rw [fst_ge (by omega)]; omega)
                        | exact (fst_t h125 (by simp; intro z; exact h140 (by rw [z]))).symm
                    have hnx : nxW t x = (p, j, if (x.2.2 = 1 ∨ x.2.2 = 2) ∧ p = x.2.1 then 4 else srt t p) := by
                      unfold nxW
                      rw [hps, if_neg hs0, if_neg hs3, ← hjx]
                    first
                      | (refine aw_vret e_Ta_goOn_173 rfl (hQ _ ?_ ⟨fun t i hti => (sI_n hti).trans (hfw.1 t i hti), fun f a b c => (sI_ne c).trans (hfw.2 f a b c)⟩)
                         rw [hnx, if_pos ⟨h157, h165⟩]
                         exact ⟨(sI_ne (by decide)).trans h51, (sI_ne (by decide)).trans h53, sI_eq _ _ _ _ _⟩)
                      | (refine aw_vret e_Ta_goOn_173 rfl (hQ _ ?_ hfw)
                         rw [hnx, if_neg (fun z => h165 z.2)]
                         exact ⟨h51, h53, h54⟩)
                      | (refine aw_vret e_Ta_goOn_173 rfl (hQ _ ?_ hfw)
                         rw [hnx, if_neg (fun z => h157 z.1)]
                         exact ⟨h51, h53, h54⟩)
                  · refine aw_aload_n e_Ta_goOn_160 rfl ?_
                    refine aw_getE e_Ta_goOn_161 fl_Ta_63 h51 ?_
                    refine aw_iload_n e_Ta_goOn_164 rfl ?_
                    refine awN_icmp_ne e_Ta_goOn_165 (by omega) (by omega) (fun h165 => ?_) (fun h165 => ?_)
                    · have hfw : fW I I5 := ⟨fun t i hti => (h5a t i hti).trans (h3a t i hti), fun f a b c => (h5b f b).trans (h3b f a b c)⟩
                      have hjx : j = xtd t (srt t p) (p + 1) := by
                        rw [← hv]
                        first
                          | (rw [fst_ge (by omega)]; omega)
                          | exact (fst_t h125 (by simp; intro z; exact h140 (by rw [z]))).symm
                      have hnx : nxW t x = (p, j, if (x.2.2 = 1 ∨ x.2.2 = 2) ∧ p = x.2.1 then 4 else srt t p) := by
                        unfold nxW
                        rw [hps, if_neg hs0, if_neg hs3, ← hjx]
                      first
                        | (refine aw_vret e_Ta_goOn_173 rfl (hQ _ ?_ ⟨fun t i hti => (sI_n hti).trans (hfw.1 t i hti), fun f a b c => (sI_ne c).trans (hfw.2 f a b c)⟩)
                           rw [hnx, if_pos ⟨h157, h165⟩]
                           exact ⟨(sI_ne (by decide)).trans h51, (sI_ne (by decide)).trans h53, sI_eq _ _ _ _ _⟩)
                        | (refine aw_vret e_Ta_goOn_173 rfl (hQ _ ?_ hfw)
                           rw [hnx, if_neg (fun z => h165 z.2)]
                           exact ⟨h51, h53, h54⟩)
                        | (refine aw_vret e_Ta_goOn_173 rfl (hQ _ ?_ hfw)
                           rw [hnx, if_neg (fun z => h157 z.1)]
                           exact ⟨h51, h53, h54⟩)
                    · refine aw_aload_n e_Ta_goOn_168 rfl ?_
                      refine aw_iconst (v := nI 4) e_Ta_goOn_169 (by decide) ?_
                      refine aw_putI e_Ta_goOn_170 fl_Ta_26 ?_
                      have hfw : fW I I5 := ⟨fun t i hti => (h5a t i hti).trans (h3a t i hti), fun f a b c => (h5b f b).trans (h3b f a b c)⟩
                      have hjx : j = xtd t (srt t p) (p + 1) := by
                        rw [← hv]
                        first
                          | (rw [fst_ge (by omega)]; omega)
                          | exact (fst_t h125 (by simp; intro z; exact h140 (by rw [z]))).symm
                      have hnx : nxW t x = (p, j, if (x.2.2 = 1 ∨ x.2.2 = 2) ∧ p = x.2.1 then 4 else srt t p) := by
                        unfold nxW
                        rw [hps, if_neg hs0, if_neg hs3, ← hjx]
                      first
                        | (refine aw_vret e_Ta_goOn_173 rfl (hQ _ ?_ ⟨fun t i hti => (sI_n hti).trans (hfw.1 t i hti), fun f a b c => (sI_ne c).trans (hfw.2 f a b c)⟩)
                           rw [hnx, if_pos ⟨h157, h165⟩]
                           exact ⟨(sI_ne (by decide)).trans h51, (sI_ne (by decide)).trans h53, sI_eq _ _ _ _ _⟩)
                        | (refine aw_vret e_Ta_goOn_173 rfl (hQ _ ?_ hfw)
                           rw [hnx, if_neg (fun z => h165 z.2)]
                           exact ⟨h51, h53, h54⟩)
                        | (refine aw_vret e_Ta_goOn_173 rfl (hQ _ ?_ hfw)
                           rw [hnx, if_neg (fun z => h157 z.1)]
                           exact ⟨h51, h53, h54⟩)
                · refine aw_aload_n e_Ta_goOn_143 rfl ?_
                  refine aw_dup e_Ta_goOn_144 rfl ?_
                  refine aw_getE e_Ta_goOn_145 fl_Ta_23 h53 ?_
                  refine aw_iconst (v := nI 1) e_Ta_goOn_148 (by decide) ?_
                  first | refine awN_iadd e_Ta_goOn_149 ?_ | refine aw_iadd e_Ta_goOn_149 ?_
                  refine aw_putI e_Ta_goOn_150 fl_Ta_23 ?_
                  refine aw_goto e_Ta_goOn_153 ?_
                  refine ih h125 (by omega) ((fst_f h125 (by simp [h140])).symm.trans hv) _ (fun t i hti => (sI_n hti).trans (h5a t i hti)) (fun f hf => (sI_ne hf).trans (h5b f hf)) (sI_eq _ _ _ _ _)
            exact k117 (p + 1) hpn (Nat.le_refl _) rfl _ (fun t i hti => sI_n hti) (fun f hf => sI_ne hf) (sI_eq _ _ _ _ _)
          · refine aw_vret e_Ta_goOn_116 rfl (hQ _ ?_ ⟨fun t i hti => (sI_n hti).trans (h3a t i hti), fun f a b c => (sI_ne b).trans (h3b f a b c)⟩)
            have hnx : nxW t x = (p, p + 1, 3) := by
              unfold nxW
              rw [hps, if_neg h94, if_pos h113]
            rw [hnx]
            exact ⟨(sI_ne (by decide)).trans h31, sI_eq _ _ _ _ _, (sI_ne (by decide)).trans (by rw [h34, h113])⟩
        · refine aw_vret e_Ta_goOn_97 rfl (hQ I3 ?_ ⟨h3a, h3b⟩)
          have hnx : nxW t x = (p, p, 0) := by
            unfold nxW
            rw [hps, if_pos h94]
          rw [hnx]
          exact ⟨h31, h33, by rw [h34, h94]⟩
      · refine aw_aload_n e_Ta_goOn_57 rfl ?_
        refine aw_dup e_Ta_goOn_58 rfl ?_
        refine aw_getE e_Ta_goOn_59 fl_Ta_63 h21 ?_
        refine aw_iconst (v := nI 1) e_Ta_goOn_62 (by decide) ?_
        first | refine awN_iadd e_Ta_goOn_63 ?_ | refine aw_iadd e_Ta_goOn_63 ?_
        refine aw_putI e_Ta_goOn_64 fl_Ta_63 ?_
        refine aw_goto e_Ta_goOn_67 ?_
        exact ih h40 (by omega) ((fst_f h40 (by rw [decide_eq_true h54]; rfl)).symm.trans hv) _ (fun t i hti => (sI_n hti).trans (h2a t i hti)) (fun f hf => (sI_ne hf).trans (h2b f hf)) (sI_eq _ _ _ _ _)
  have k22 : AWq l E (d + 1) M_Ta_goOn Z 22 [some (vr 6 0), some (vi (bI (x.2.2 = 1 ∨ x.2.2 = 2))), none] [] I L R Z Q := by
    refine aw_aload_n e_Ta_goOn_22 rfl ?_
    refine aw_getE e_Ta_goOn_23 fl_Ta_23 h3 ?_
    refine aw_ist2 e_Ta_goOn_26 ?_
    refine aw_aload_n e_Ta_goOn_27 rfl ?_
    refine aw_iload_n e_Ta_goOn_28 rfl ?_
    refine aw_putI e_Ta_goOn_29 fl_Ta_63 ?_
    exact k32 x.2.1 hb (Nat.le_refl _) rfl _ (fun t i hti => sI_n hti) (fun f hf => sI_ne hf) (sI_eq _ _ _ _ _)
  refine aw_aload_n e_Ta_goOn_0 rfl ?_
  refine aw_getE e_Ta_goOn_1 fl_Ta_26 h4 ?_
  refine aw_iconst (v := nI 1) e_Ta_goOn_4 (by decide) ?_
  refine awN_icmp_eq e_Ta_goOn_5 (by omega) (by omega) (fun h5 => ?_) (fun h5 => ?_)
  · refine aw_iconst (v := nI 1) e_Ta_goOn_16 (by decide) ?_
    refine aw_goto e_Ta_goOn_17 ?_
    refine aw_ist1 e_Ta_goOn_21 ?_
    first
      | (rw [bI_t (c := x.2.2 = 1 ∨ x.2.2 = 2) (by omega)] at k22; exact k22)
      | (rw [bI_f (c := x.2.2 = 1 ∨ x.2.2 = 2) (by omega)] at k22; exact k22)
  · refine aw_aload_n e_Ta_goOn_8 rfl ?_
    refine aw_getE e_Ta_goOn_9 fl_Ta_26 h4 ?_
    refine aw_iconst (v := nI 2) e_Ta_goOn_12 (by decide) ?_
    refine awN_icmp_ne e_Ta_goOn_13 (by omega) (by omega) (fun h13 => ?_) (fun h13 => ?_)
    · refine aw_iconst (v := nI 0) e_Ta_goOn_20 (by decide) ?_
      refine aw_ist1 e_Ta_goOn_21 ?_
      first
        | (rw [bI_t (c := x.2.2 = 1 ∨ x.2.2 = 2) (by omega)] at k22; exact k22)
        | (rw [bI_f (c := x.2.2 = 1 ∨ x.2.2 = 2) (by omega)] at k22; exact k22)
    · refine aw_iconst (v := nI 1) e_Ta_goOn_16 (by decide) ?_
      refine aw_goto e_Ta_goOn_17 ?_
      refine aw_ist1 e_Ta_goOn_21 ?_
      first
        | (rw [bI_t (c := x.2.2 = 1 ∨ x.2.2 = 2) (by omega)] at k22; exact k22)
        | (rw [bI_f (c := x.2.2 = 1 ∨ x.2.2 = 2) (by omega)] at k22; exact k22)
