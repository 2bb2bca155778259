/-! ===== the tape: pieces and levels ===== -/
theorem c_Ta_putF {l : Launch} {E : En} {d : Nat} {I : It} {L : Lt} {R : Rt} {Z : Zt} {Q : Qt} {k : Nat} {y : Int32} (hS : Sta R) (hk : I 6 0 7 = nI k) (hk2 : k ≤ 96) (hQ : ∀ I3, fT I I3 → (∀ f, f ≠ 7 → I3 6 0 f = I 6 0 f) → (∃ k, k ≤ 96 ∧ I3 6 0 7 = nI k) → Q none I3 L R Z) : AMet l E d M_Ta_put [vr 6 0, vi y] I L R Z Q :=
  c_Ta_put hS hk hk2 (fun hl => hQ _ (fT_s (fT_s fT_0 (by decide)) (by decide)) (fun f hf => (sI_ne hf).trans (sI_n2 (by decide))) ⟨k + 1, hl, sI_eq _ _ _ _ _⟩) (fun _ => hQ _ fT_0 (fun _ _ => rfl) ⟨k, hk2, hk⟩)
def CPc (l : Launch) (E : En) (L : Lt) (R : Rt) (Z : Zt) (t : TB) (key F : Nat) : Prop := ∀ (o i : Nat) (x : Xs) (I : It) (D : Nat) (Q : Qt), o ≤ 8 → i ≤ 8 → 2 * F + 4 ≤ D → TS I t key x → XI t x → 7 * (t.1 - x.1.1) + 1 ≤ F → (∀ I2, RS t key I I2 (rd t key F 5 o i x) → Q (some (vi (bI ((rd t key F 5 o i x).1 = true)))) I2 L R Z) → AMet l E D M_Ta_readPiece [vr 6 0, vi (nI o), vi (nI i)] I L R Z Q
def CLv (l : Launch) (E : En) (L : Lt) (R : Rt) (Z : Zt) (t : TB) (key F : Nat) : Prop := ∀ (m o i : Nat) (x : Xs) (I : It) (D : Nat) (Q : Qt), m ≤ 5 → o ≤ 8 → i ≤ 8 → 2 * F + 5 ≤ D → TS I t key x → XI t x → 7 * (t.1 - x.1.1) + (6 - m) ≤ F → (∀ I2, RS t key I I2 (rd t key F m o i x) → Q (some (vi (bI ((rd t key F m o i x).1 = true)))) I2 L R Z) → AMet l E D M_Ta_readLevel [vr 6 0, vi (nI m), vi (nI o), vi (nI i)] I L R Z Q
theorem XI_nx {t : TB} {x : Xs} (h : XI t x) (hs : x.1.2.2 ≠ 0) : XI t (nxX t x) ∧ x.1.1 < (nxX t x).1.1 ∧ (nxX t x).1.1 ≤ t.1 := by
  have h1 := nxW_ok (t := t) (x := x.1) h.1.2.1
  have h2 := h.1.2.2.2.1 hs
  have h3 := h.2
  have h4 : x.1.2.1 ≤ (nxX t x).1.1 := h1.2
  have h5 : (nxX t x).1.1 ≤ (nxX t x).1.2.1 := h1.1.1
  have h6 : (nxX t x).1.2.1 ≤ t.1 := h1.1.2.1
  exact ⟨⟨h1.1, by show x.2.1.length ≤ _; omega⟩, by omega, by omega⟩
theorem XI_rd {t : TB} {key F m o i : Nat} {x : Xs} (hm : m ≤ 5) (h : XI t x) (hr : (rd t key F m o i x).1 = true) : XI t (rd t key F m o i x).2 ∧ x.1.1 < (rd t key F m o i x).2.1.1 ∧ (rd t key F m o i x).2.1.1 ≤ t.1 ∧ (rd t key F m o i x).2.2.1.length + x.1.1 ≤ x.2.1.length + (rd t key F m o i x).2.1.1 := by
  obtain ⟨s, a, b, c, d, e, f, g, w, j⟩ := rd_ok F m o i x (Or.inl hm) h.1 hr
  have hl : (rd t key F m o i x).2.2.1.length = x.2.1.length + s.length := by rw [a, List.length_append]
  have h2 := h.2
  have h3 := j hm
  have h4 := w.1
  have h5 := w.2.1
  exact ⟨⟨w, by omega⟩, h3, by omega, by omega⟩
theorem RS_f {t : TB} {key : Nat} {I I2 I3 : It} {r : Bool × Xs} {y : Xs} (h : RS t key I I2 r) (hr : ¬ r.1 = true) (hf : fT I2 I3) (hg : ∀ f, f ≠ 7 → I3 6 0 f = I2 6 0 f) (hk : ∃ k, k ≤ 96 ∧ I3 6 0 7 = nI k) (hy : y.1.1 = r.2.1.1) : RS t key I I3 (false, y) := by
  obtain ⟨a, b, c⟩ := h.2.2 (Bool.eq_false_iff.2 hr)
  exact ⟨fT_t h.1 hf, fun z => absurd (show false = true from z) (by decide), fun _ => ⟨by rw [hg 1 (by decide), a, hy], ⟨(hg 0 (by decide)).trans b.1, b.2.1, fun j hj => by rw [hf 20 0 (by decide)]; exact b.2.2 j hj⟩, hk⟩⟩
theorem pc_step {l : Launch} {E : En} {L : Lt} {R : Rt} {Z : Zt} {t : TB} {key F : Nat} (hS : Sta R) (hk2 : key < 2) (hP : CPc l E L R Z t key F) (hL : CLv l E L R Z t key F) : CPc l E L R Z t key (F + 1) := by
  intro o i x I D Q ho hi hD hTS hX hms hQ
  obtain ⟨D, rfl⟩ : ∃ D2, D = D2 + 4 := ⟨D - 4, by omega⟩
  have hT96 := hTS.1.2.1
  have hx1 := hX.1.1
  have hx2 := hX.1.2.1
  rw [rd_pc] at hQ
  refine AMet.of mf_Ta_readPiece rfl (Nat.le_of_ble_eq_true rfl) ?_
  refine aw_aload_n e_Ta_readPiece_0 rfl ?_
  refine aw_bipush (v := nI 33) e_Ta_readPiece_1 (by decide) ?_
  refine aw_cV1 e_Ta_readPiece_3 ml_Ta_87 mf_Ta_isSign mv_Ta_isSign (c_Ta_isSign hS hTS.1 hTS.2.2.1 hX.1 ?_)
  refine awB_eq e_Ta_readPiece_6 (fun h6 => ?_) (fun h6 => ?_)
  · refine aw_aload_n e_Ta_readPiece_36 rfl ?_
    refine aw_bipush (v := nI 40) e_Ta_readPiece_37 (by decide) ?_
    refine aw_cV1 e_Ta_readPiece_39 ml_Ta_87 mf_Ta_isSign mv_Ta_isSign (c_Ta_isSign hS hTS.1 hTS.2.2.1 hX.1 ?_)
    refine awB_eq e_Ta_readPiece_42 (fun h42 => ?_) (fun h42 => ?_)
    · refine aw_aload_n e_Ta_readPiece_84 rfl ?_
      refine aw_cV0 e_Ta_readPiece_85 ml_Ta_102 mf_Ta_readOperand mv_Ta_readOperand (c_Ta_readOperand hS hTS hX hk2 (fun I2 hr2 => ?_))
      first | rw [if_neg (fun z => h6 z.1)] at hQ | rw [if_neg (fun z => by have := z.2; omega)] at hQ
      first | rw [if_neg (fun z => h42 z.1)] at hQ | rw [if_neg (fun z => by have := z.2; omega)] at hQ
      exact awB_ret e_Ta_readPiece_88 rfl (hQ I2 hr2)
    · refine aw_iload_n e_Ta_readPiece_45 rfl ?_
      refine aw_bipush (v := nI 8) e_Ta_readPiece_46 (by decide) ?_
      refine awN_icmp_ge e_Ta_readPiece_48 (by omega) (by omega) (fun h48 => ?_) (fun h48 => ?_)
      · refine aw_aload_n e_Ta_readPiece_84 rfl ?_
        refine aw_cV0 e_Ta_readPiece_85 ml_Ta_102 mf_Ta_readOperand mv_Ta_readOperand (c_Ta_readOperand hS hTS hX hk2 (fun I2 hr2 => ?_))
        first | rw [if_neg (fun z => h6 z.1)] at hQ | rw [if_neg (fun z => by have := z.2; omega)] at hQ
        first | rw [if_neg (fun z => h42 z.1)] at hQ | rw [if_neg (fun z => by have := z.2; omega)] at hQ
        exact awB_ret e_Ta_readPiece_88 rfl (hQ I2 hr2)
      · refine aw_aload_n e_Ta_readPiece_51 rfl ?_
        refine aw_cV0 e_Ta_readPiece_52 ml_Ta_35 mf_Ta_goOn mv_Ta_goOn (c_Ta_goOn (x := x.1) hS hTS.1 hTS.2.2.1.2.1 hTS.2.2.1.2.2 hX.1.2.1 hX.1.2.2.1 (fun I1 hl1 hf1 => ?_))
        have hTS1 := hTS.nx hl1 hf1
        have hX1 := XI_nx hX (by rw [(sgn_iff.1 h42).1]; decide)
        refine aw_aload_n e_Ta_readPiece_55 rfl ?_
        refine aw_iconst (v := nI 0) e_Ta_readPiece_56 (by decide) ?_
        refine aw_iload_n e_Ta_readPiece_57 rfl ?_
        refine aw_iconst (v := nI 1) e_Ta_readPiece_58 (by decide) ?_
        first | refine awN_iadd e_Ta_readPiece_59 ?_ | refine aw_iadd e_Ta_readPiece_59 ?_
        refine aw_iload_n e_Ta_readPiece_60 rfl ?_
        refine aw_cV3 e_Ta_readPiece_61 ml_Ta_48 mf_Ta_readLevel mv_Ta_readLevel (hL 0 (o + 1) i (nxX t x) _ _ _ (by decide) (by omega) hi (by omega) hTS1 hX1.1 (by omega) (fun I2 hr2 => ?_))
        refine awB_eq e_Ta_readPiece_64 (fun h64 => ?_) (fun h64 => ?_)
        · refine aw_iconst (v := nI 0) e_Ta_readPiece_76 (by decide) ?_
          first | rw [if_neg (fun z => h6 z.1)] at hQ | rw [if_neg (fun z => by have := z.2; omega)] at hQ
          rw [if_pos ⟨h42, h48⟩] at hQ
          first
            | (rw [if_neg (fun z => h73 z.2)] at hQ
               exact awB_0 e_Ta_readPiece_77 (show ¬ false = true by decide) (hQ I2 ⟨fT_t hf1.T hr2.1, fun z => absurd (show false = true from z) (by decide), fun _ => ⟨hT2.2.2.1.1, hT2.1, _, by omega, hT2.2.2.2.1⟩⟩))
            | (rw [if_neg (fun z => h64 z.1)] at hQ
               exact awB_0 e_Ta_readPiece_77 (show ¬ false = true by decide) (hQ I2 (RS_f ⟨fT_t hf1.T hr2.1, hr2.2⟩ h64 fT_0 (fun _ _ => rfl) (hr2.2.2 (Bool.eq_false_iff.2 h64)).2.2 rfl)))
        · have hT2 := hr2.2.1 h64
          have hX2 := XI_rd (by decide) hX1.1 h64
          have hX22 := hX2.1.2
          have hX23 := hX2.2.2.1
          refine aw_aload_n e_Ta_readPiece_67 rfl ?_
          refine aw_bipush (v := nI 41) e_Ta_readPiece_68 (by decide) ?_
          refine aw_cV1 e_Ta_readPiece_70 ml_Ta_87 mf_Ta_isSign mv_Ta_isSign (c_Ta_isSign hS hT2.1 hT2.2.2.1 hX2.1.1 ?_)
          refine awB_ne e_Ta_readPiece_73 (fun h73 => ?_) (fun h73 => ?_)
          · refine aw_aload_n e_Ta_readPiece_78 rfl ?_
            refine aw_cV0 e_Ta_readPiece_79 ml_Ta_35 mf_Ta_goOn mv_Ta_goOn (c_Ta_goOn (x := (rd t key F 0 (o + 1) i (nxX t x)).2.1) hS hT2.1 hT2.2.2.1.2.1 hT2.2.2.1.2.2 hX2.1.1.2.1 hX2.1.1.2.2.1 (fun I3 hl3 hf3 => ?_))
            refine aw_iconst (v := nI 1) e_Ta_readPiece_82 (by decide) ?_
            first | rw [if_neg (fun z => h6 z.1)] at hQ | rw [if_neg (fun z => by have := z.2; omega)] at hQ
            rw [if_pos ⟨h42, h48⟩, if_pos ⟨h64, h73⟩] at hQ
            exact awB_1 e_Ta_readPiece_83 rfl (hQ I3 ⟨fT_t (fT_t hf1.T hr2.1) hf3.T, fun _ => hT2.nx hl3 hf3, fun z => absurd (show true = false from z) (by decide)⟩)
          · refine aw_iconst (v := nI 0) e_Ta_readPiece_76 (by decide) ?_
            first | rw [if_neg (fun z => h6 z.1)] at hQ | rw [if_neg (fun z => by have := z.2; omega)] at hQ
            rw [if_pos ⟨h42, h48⟩] at hQ
            first
              | (rw [if_neg (fun z => h73 z.2)] at hQ
                 exact awB_0 e_Ta_readPiece_77 (show ¬ false = true by decide) (hQ I2 ⟨fT_t hf1.T hr2.1, fun z => absurd (show false = true from z) (by decide), fun _ => ⟨hT2.2.2.1.1, hT2.1, _, by omega, hT2.2.2.2.1⟩⟩))
              | (rw [if_neg (fun z => h64 z.1)] at hQ
                 exact awB_0 e_Ta_readPiece_77 (show ¬ false = true by decide) (hQ I2 (RS_f ⟨fT_t hf1.T hr2.1, hr2.2⟩ h64 fT_0 (fun _ _ => rfl) (hr2.2.2 (Bool.eq_false_iff.2 h64)).2.2 rfl)))
  · refine aw_iload_n e_Ta_readPiece_9 rfl ?_
    refine aw_bipush (v := nI 8) e_Ta_readPiece_10 (by decide) ?_
    refine awN_icmp_ge e_Ta_readPiece_12 (by omega) (by omega) (fun h12 => ?_) (fun h12 => ?_)
    · refine aw_aload_n e_Ta_readPiece_36 rfl ?_
      refine aw_bipush (v := nI 40) e_Ta_readPiece_37 (by decide) ?_
      refine aw_cV1 e_Ta_readPiece_39 ml_Ta_87 mf_Ta_isSign mv_Ta_isSign (c_Ta_isSign hS hTS.1 hTS.2.2.1 hX.1 ?_)
      refine awB_eq e_Ta_readPiece_42 (fun h42 => ?_) (fun h42 => ?_)
      · refine aw_aload_n e_Ta_readPiece_84 rfl ?_
        refine aw_cV0 e_Ta_readPiece_85 ml_Ta_102 mf_Ta_readOperand mv_Ta_readOperand (c_Ta_readOperand hS hTS hX hk2 (fun I2 hr2 => ?_))
        first | rw [if_neg (fun z => h6 z.1)] at hQ | rw [if_neg (fun z => by have := z.2; omega)] at hQ
        first | rw [if_neg (fun z => h42 z.1)] at hQ | rw [if_neg (fun z => by have := z.2; omega)] at hQ
        exact awB_ret e_Ta_readPiece_88 rfl (hQ I2 hr2)
      · refine aw_iload_n e_Ta_readPiece_45 rfl ?_
        refine aw_bipush (v := nI 8) e_Ta_readPiece_46 (by decide) ?_
        refine awN_icmp_ge e_Ta_readPiece_48 (by omega) (by omega) (fun h48 => ?_) (fun h48 => ?_)
        · refine aw_aload_n e_Ta_readPiece_84 rfl ?_
          refine aw_cV0 e_Ta_readPiece_85 ml_Ta_102 mf_Ta_readOperand mv_Ta_readOperand (c_Ta_readOperand hS hTS hX hk2 (fun I2 hr2 => ?_))
          first | rw [if_neg (fun z => h6 z.1)] at hQ | rw [if_neg (fun z => by have := z.2; omega)] at hQ
          first | rw [if_neg (fun z => h42 z.1)] at hQ | rw [if_neg (fun z => by have := z.2; omega)] at hQ
          exact awB_ret e_Ta_readPiece_88 rfl (hQ I2 hr2)
        · refine aw_aload_n e_Ta_readPiece_51 rfl ?_
          refine aw_cV0 e_Ta_readPiece_52 ml_Ta_35 mf_Ta_goOn mv_Ta_goOn (c_Ta_goOn (x := x.1) hS hTS.1 hTS.2.2.1.2.1 hTS.2.2.1.2.2 hX.1.2.1 hX.1.2.2.1 (fun I1 hl1 hf1 => ?_))
          have hTS1 := hTS.nx hl1 hf1
          have hX1 := XI_nx hX (by rw [(sgn_iff.1 h42).1]; decide)
          refine aw_aload_n e_Ta_readPiece_55 rfl ?_
          refine aw_iconst (v := nI 0) e_Ta_readPiece_56 (by decide) ?_
          refine aw_iload_n e_Ta_readPiece_57 rfl ?_
          refine aw_iconst (v := nI 1) e_Ta_readPiece_58 (by decide) ?_
          first | refine awN_iadd e_Ta_readPiece_59 ?_ | refine aw_iadd e_Ta_readPiece_59 ?_
          refine aw_iload_n e_Ta_readPiece_60 rfl ?_
          refine aw_cV3 e_Ta_readPiece_61 ml_Ta_48 mf_Ta_readLevel mv_Ta_readLevel (hL 0 (o + 1) i (nxX t x) _ _ _ (by decide) (by omega) hi (by omega) hTS1 hX1.1 (by omega) (fun I2 hr2 => ?_))
          refine awB_eq e_Ta_readPiece_64 (fun h64 => ?_) (fun h64 => ?_)
          · refine aw_iconst (v := nI 0) e_Ta_readPiece_76 (by decide) ?_
            first | rw [if_neg (fun z => h6 z.1)] at hQ | rw [if_neg (fun z => by have := z.2; omega)] at hQ
            rw [if_pos ⟨h42, h48⟩] at hQ
            first
              | (rw [if_neg (fun z => h73 z.2)] at hQ
                 exact awB_0 e_Ta_readPiece_77 (show ¬ false = true by decide) (hQ I2 ⟨fT_t hf1.T hr2.1, fun z => absurd (show false = true from z) (by decide), fun _ => ⟨hT2.2.2.1.1, hT2.1, _, by omega, hT2.2.2.2.1⟩⟩))
              | (rw [if_neg (fun z => h64 z.1)] at hQ
                 exact awB_0 e_Ta_readPiece_77 (show ¬ false = true by decide) (hQ I2 (RS_f ⟨fT_t hf1.T hr2.1, hr2.2⟩ h64 fT_0 (fun _ _ => rfl) (hr2.2.2 (Bool.eq_false_iff.2 h64)).2.2 rfl)))
          · have hT2 := hr2.2.1 h64
            have hX2 := XI_rd (by decide) hX1.1 h64
            have hX22 := hX2.1.2
            have hX23 := hX2.2.2.1
            refine aw_aload_n e_Ta_readPiece_67 rfl ?_
            refine aw_bipush (v := nI 41) e_Ta_readPiece_68 (by decide) ?_
            refine aw_cV1 e_Ta_readPiece_70 ml_Ta_87 mf_Ta_isSign mv_Ta_isSign (c_Ta_isSign hS hT2.1 hT2.2.2.1 hX2.1.1 ?_)
            refine awB_ne e_Ta_readPiece_73 (fun h73 => ?_) (fun h73 => ?_)
            · refine aw_aload_n e_Ta_readPiece_78 rfl ?_
              refine aw_cV0 e_Ta_readPiece_79 ml_Ta_35 mf_Ta_goOn mv_Ta_goOn (c_Ta_goOn (x := (rd t key F 0 (o + 1) i (nxX t x)).2.1) hS hT2.1 hT2.2.2.1.2.1 hT2.2.2.1.2.2 hX2.1.1.2.1 hX2.1.1.2.2.1 (fun I3 hl3 hf3 => ?_))
              refine aw_iconst (v := nI 1) e_Ta_readPiece_82 (by decide) ?_
              first | rw [if_neg (fun z => h6 z.1)] at hQ | rw [if_neg (fun z => by have := z.2; omega)] at hQ
              rw [if_pos ⟨h42, h48⟩, if_pos ⟨h64, h73⟩] at hQ
              exact awB_1 e_Ta_readPiece_83 rfl (hQ I3 ⟨fT_t (fT_t hf1.T hr2.1) hf3.T, fun _ => hT2.nx hl3 hf3, fun z => absurd (show true = false from z) (by decide)⟩)
            · refine aw_iconst (v := nI 0) e_Ta_readPiece_76 (by decide) ?_
              first | rw [if_neg (fun z => h6 z.1)] at hQ | rw [if_neg (fun z => by have := z.2; omega)] at hQ
              rw [if_pos ⟨h42, h48⟩] at hQ
              first
                | (rw [if_neg (fun z => h73 z.2)] at hQ
                   exact awB_0 e_Ta_readPiece_77 (show ¬ false = true by decide) (hQ I2 ⟨fT_t hf1.T hr2.1, fun z => absurd (show false = true from z) (by decide), fun _ => ⟨hT2.2.2.1.1, hT2.1, _, by omega, hT2.2.2.2.1⟩⟩))
                | (rw [if_neg (fun z => h64 z.1)] at hQ
                   exact awB_0 e_Ta_readPiece_77 (show ¬ false = true by decide) (hQ I2 (RS_f ⟨fT_t hf1.T hr2.1, hr2.2⟩ h64 fT_0 (fun _ _ => rfl) (hr2.2.2 (Bool.eq_false_iff.2 h64)).2.2 rfl)))
    · refine aw_aload_n e_Ta_readPiece_15 rfl ?_
      refine aw_cV0 e_Ta_readPiece_16 ml_Ta_35 mf_Ta_goOn mv_Ta_goOn (c_Ta_goOn (x := x.1) hS hTS.1 hTS.2.2.1.2.1 hTS.2.2.1.2.2 hX.1.2.1 hX.1.2.2.1 (fun I1 hl1 hf1 => ?_))
      have hTS1 := hTS.nx hl1 hf1
      have hX1 := XI_nx hX (by rw [(sgn_iff.1 h6).1]; decide)
      refine aw_aload_n e_Ta_readPiece_19 rfl ?_
      refine aw_iload_n e_Ta_readPiece_20 rfl ?_
      refine aw_iload_n e_Ta_readPiece_21 rfl ?_
      refine aw_iconst (v := nI 1) e_Ta_readPiece_22 (by decide) ?_
      first | refine awN_iadd e_Ta_readPiece_23 ?_ | refine aw_iadd e_Ta_readPiece_23 ?_
      refine aw_cV2 e_Ta_readPiece_24 ml_Ta_91 mf_Ta_readPiece mv_Ta_readPiece (hP o (i + 1) (nxX t x) _ _ _ ho (by omega) (by omega) hTS1 hX1.1 (by omega) (fun I2 hr2 => ?_))
      by_cases hr : (rd t key F 5 o (i + 1) (nxX t x)).1 = true
      · have hT2 := hr2.2.1 hr
        have hX2 := XI_rd (by decide) hX1.1 hr
        have hX2l : (rd t key F 5 o (i + 1) (nxX t x)).2.2.1.length + (nxX t x).1.1 ≤ x.2.1.length + (rd t key F 5 o (i + 1) (nxX t x)).2.1.1 := hX2.2.2.2
        have hX0 := hX.2
        rw [bI_t (c := (rd t key F 5 o (i + 1) (nxX t x)).1 = true) hr]
        refine aw_ist3 e_Ta_readPiece_27 ?_
        refine aw_aload_n e_Ta_readPiece_28 rfl ?_
        refine aw_bipush (v := encS (2, 33)) e_Ta_readPiece_29 (by decide) ?_
        refine aw_cV1 e_Ta_readPiece_31 ml_Ta_98 mf_Ta_put mv_Ta_put (c_Ta_put (k := (rd t key F 5 o (i + 1) (nxX t x)).2.2.1.length) hS hT2.2.2.2.1 (by omega) (fun hl => ?_) (fun hl => absurd (by omega) hl))
        refine aw_iload_n e_Ta_readPiece_34 rfl ?_
        rw [if_pos ⟨h6, h12⟩, if_pos hr] at hQ
        exact awB_1 e_Ta_readPiece_35 rfl (hQ _ ⟨fT_s (fT_s (fT_t hf1.T hr2.1) (by decide)) (by decide), fun _ => hT2.put, fun z => absurd (show true = false from z) (by decide)⟩)
      · obtain ⟨hpl, hTPf, k, hk, h7⟩ := hr2.2.2 (Bool.eq_false_iff.2 hr)
        rw [bI_f (c := (rd t key F 5 o (i + 1) (nxX t x)).1 = true) hr]
        refine aw_ist3 e_Ta_readPiece_27 ?_
        refine aw_aload_n e_Ta_readPiece_28 rfl ?_
        refine aw_bipush (v := -33) e_Ta_readPiece_29 (by decide) ?_
        refine aw_cV1 e_Ta_readPiece_31 ml_Ta_98 mf_Ta_put mv_Ta_put (c_Ta_putF hS h7 hk (fun I3 hf3 hg3 hk3 => ?_))
        refine aw_iload_n e_Ta_readPiece_34 rfl ?_
        rw [if_pos ⟨h6, h12⟩, if_neg hr] at hQ
        have hrs := hQ I3
        have hre : (rd t key F 5 o (i + 1) (nxX t x)) = (false, (rd t key F 5 o (i + 1) (nxX t x)).2) := Prod.ext (Bool.eq_false_iff.2 hr) rfl
        rw [hre] at hrs
        exact awB_0 e_Ta_readPiece_35 (show ¬ false = true by decide) (hrs (RS_f ⟨fT_t hf1.T hr2.1, hr2.2⟩ hr hf3 hg3 hk3 rfl))
theorem lv_loop {l : Launch} {E : En} {L : Lt} {R : Rt} {Z : Zt} {t : TB} {key m o i mo D : Nat} (hS : Sta R) (hk2 : key < 2) (hm : m < 5) (ho : o ≤ 8) (hi : i ≤ 8) (hmo : mo = if m = 2 then 1 else 96) : ∀ G, (∀ G2, G2 < G → CLv l E L R Z t key G2) → 2 * G + 5 ≤ D + 6 → ∀ (x : Xs) (c : Nat) (I I2 : It) (Q : Qt), TS I2 t key x → XI t x → 7 * (t.1 - x.1.1) + 7 ≤ G → c ≤ x.1.1 → (m = 2 → c = 0) → fT I I2 → (∀ I3, RS t key I I3 (rd t key G (m + 10) o i x) → Q (some (vi (bI ((rd t key G (m + 10) o i x).1 = true)))) I3 L R Z) → AWq l E (D + 5) M_Ta_readLevel Z 39 [some (vr 6 0), some (vi (nI m)), some (vi (nI o)), some (vi (nI i)), some (vi (nI 1)), some (vi (nI mo)), some (vi (nI c)), none] [] I2 L R Z Q := by
  intro G
  induction G with
  | zero => intro _ _ x c I I2 Q _ _ h; exact absurd h (by omega)
  | succ G ih =>
    intro hall hD x c I I2 Q hTS hX hms hcp hc2 hf2 hQ
    have hT96 := hTS.1.2.1
    have hx1 := hX.1.1
    have hx2 := hX.1.2.1
    have hmo96 : mo ≤ 96 := by rw [hmo]; split <;> decide
    rw [rd_lp] at hQ
    refine aw_iload e_Ta_readLevel_39 rfl ?_
    refine aw_iload e_Ta_readLevel_41 rfl ?_
    refine awN_icmp_ge e_Ta_readLevel_43 (by omega) (by omega) (fun h43 => ?_) (fun h43 => ?_)
    · have hnj : ¬ jnB t m x.1 = true := by
        first
          | exact h56
          | (intro z
             have z2 := jn_sg z
             have z3 := hX.1.2.2.2.1 (by omega)
             rw [hmo] at h43
             split at h43
             · rename_i q; have := hc2 q; omega
             · omega)
      refine aw_iload e_Ta_readLevel_98 rfl ?_
      rw [if_neg hnj] at hQ
      exact awB_1 e_Ta_readLevel_100 rfl (hQ I2 ⟨hf2, fun _ => hTS, fun z => absurd (show true = false from z) (by decide)⟩)
    · refine aw_iload e_Ta_readLevel_46 rfl ?_
      refine awN_if_eq e_Ta_readLevel_48 (by omega) (fun h48 => ?_) (fun h48 => ?_)
      · exact absurd h48 (by decide)
      · refine aw_aload_n e_Ta_readLevel_51 rfl ?_
        refine aw_iload_n e_Ta_readLevel_52 rfl ?_
        refine aw_cV1 e_Ta_readLevel_53 ml_Ta_95 mf_Ta_joinsAt mv_Ta_joinsAt (c_Ta_joinsAt hS hTS.1 hTS.2.2.1 hX.1 hm ?_)
        refine awB_eq e_Ta_readLevel_56 (fun h56 => ?_) (fun h56 => ?_)
        · have hnj : ¬ jnB t m x.1 = true := by
            first
              | exact h56
              | (intro z
                 have z2 := jn_sg z
                 have z3 := hX.1.2.2.2.1 (by omega)
                 rw [hmo] at h43
                 split at h43
                 · rename_i q; have := hc2 q; omega
                 · omega)
          refine aw_iload e_Ta_readLevel_98 rfl ?_
          rw [if_neg hnj] at hQ
          exact awB_1 e_Ta_readLevel_100 rfl (hQ I2 ⟨hf2, fun _ => hTS, fun z => absurd (show true = false from z) (by decide)⟩)
        · have hj := jn_sg h56
          rw [if_pos h56] at hQ
          have hX1 := XI_nx hX (by rw [hj.1]; decide)
          refine aw_aload_n e_Ta_readLevel_59 rfl ?_
          refine aw_getR e_Ta_readLevel_60 fl_Ta_9 (hS.1 _ _ _ _ rfl) ?_
          refine aw_aload_n e_Ta_readLevel_63 rfl ?_
          refine aw_getE e_Ta_readLevel_64 fl_Ta_63 hTS.2.2.1.1 ?_
          refine aw_balE e_Ta_readLevel_67 rfl (show _ < 96 by omega) (by omega) ((hTS.1.2.2 _ (by omega)).trans hj.2.2) ?_
          refine aw_ist7 e_Ta_readLevel_68 ?_
          refine aw_aload_n e_Ta_readLevel_70 rfl ?_
          refine aw_cV0 e_Ta_readLevel_71 ml_Ta_35 mf_Ta_goOn mv_Ta_goOn (c_Ta_goOn (x := x.1) hS hTS.1 hTS.2.2.1.2.1 hTS.2.2.1.2.2 hX.1.2.1 hX.1.2.2.1 (fun I1 hl1 hf1 => ?_))
          refine aw_aload_n e_Ta_readLevel_74 rfl ?_
          refine aw_iload_n e_Ta_readLevel_75 rfl ?_
          refine aw_iconst (v := nI 1) e_Ta_readLevel_76 (by decide) ?_
          first | refine awN_iadd e_Ta_readLevel_77 ?_ | refine aw_iadd e_Ta_readLevel_77 ?_
          refine aw_iload_n e_Ta_readLevel_78 rfl ?_
          refine aw_iload_n e_Ta_readLevel_79 rfl ?_
          refine aw_cV3 e_Ta_readLevel_80 ml_Ta_48 mf_Ta_readLevel mv_Ta_readLevel (hall G (by omega) (m + 1) o i (nxX t x) _ _ _ (by omega) ho hi (by omega) (hTS.nx hl1 hf1) hX1.1 (by omega) (fun I3 hr3 => ?_))
          by_cases hr : (rd t key G (m + 1) o i (nxX t x)).1 = true
          · have hT3 := hr3.2.1 hr
            have hX3 := XI_rd (by omega) hX1.1 hr
            have hX3l : (rd t key G (m + 1) o i (nxX t x)).2.2.1.length + (nxX t x).1.1 ≤ x.2.1.length + (rd t key G (m + 1) o i (nxX t x)).2.1.1 := hX3.2.2.2
            have hX0 := hX.2
            rw [if_pos hr] at hQ
            rw [bI_t (c := (rd t key G (m + 1) o i (nxX t x)).1 = true) hr]
            refine aw_ist4 e_Ta_readLevel_83 ?_
            refine aw_aload_n e_Ta_readLevel_85 rfl ?_
            refine aw_iload e_Ta_readLevel_86 rfl ?_
            refine aw_ineg e_Ta_readLevel_88 ?_
            refine aw_cV1 e_Ta_readLevel_89 ml_Ta_98 mf_Ta_put mv_Ta_put (c_Ta_put (k := (rd t key G (m + 1) o i (nxX t x)).2.2.1.length) (y := encS (2, lttr t x.1)) hS hT3.2.2.2.1 (by omega) (fun hl => ?_) (fun hl => absurd (by omega) hl))
            refine aw_inc6 e_Ta_readLevel_92 (inc1 _) ?_
            refine aw_goto e_Ta_readLevel_95 ?_
            refine aw_drop 7 ?_
            by_cases h2m : m = 2
            · rw [if_pos h2m] at hQ
              have hmo1 : mo = 1 := by rw [hmo, if_pos h2m]
              refine aw_iload e_Ta_readLevel_39 rfl ?_
              refine aw_iload e_Ta_readLevel_41 rfl ?_
              refine awN_icmp_ge e_Ta_readLevel_43 (by omega) (by omega) (fun h43 => ?_) (fun h43 => ?_)
              · refine aw_iload e_Ta_readLevel_98 rfl ?_
                exact awB_1 e_Ta_readLevel_100 rfl (hQ _ ⟨fT_s (fT_s (fT_t (fT_t hf2 hf1.T) hr3.1) (by decide)) (by decide), fun _ => hT3.put, fun z => absurd (show true = false from z) (by decide)⟩)
              · exact absurd h43 (by omega)
            · rw [if_neg h2m] at hQ
              exact ih (fun G2 hG2 => hall G2 (by omega)) (by omega) _ (c + 1) I _ Q hT3.put (show XI t (ptX (rd t key G (m + 1) o i (nxX t x)).2 (2, lttr t x.1)) from ⟨hX3.1.1, by show ((rd t key G (m + 1) o i (nxX t x)).2.2.1 ++ [(2, lttr t x.1)]).length ≤ (rd t key G (m + 1) o i (nxX t x)).2.1.1; rw [List.length_append]; show (rd t key G (m + 1) o i (nxX t x)).2.2.1.length + 1 ≤ _; omega⟩) (by show 7 * (t.1 - (rd t key G (m + 1) o i (nxX t x)).2.1.1) + 7 ≤ G; omega) (by show c + 1 ≤ (rd t key G (m + 1) o i (nxX t x)).2.1.1; omega) (fun z => absurd z h2m) (fT_s (fT_s (fT_t (fT_t hf2 hf1.T) hr3.1) (by decide)) (by decide)) hQ
          · obtain ⟨hpl, hTPf, k, hk, h7⟩ := hr3.2.2 (Bool.eq_false_iff.2 hr)
            rw [if_neg hr] at hQ
            rw [bI_f (c := (rd t key G (m + 1) o i (nxX t x)).1 = true) hr]
            refine aw_ist4 e_Ta_readLevel_83 ?_
            refine aw_aload_n e_Ta_readLevel_85 rfl ?_
            refine aw_iload e_Ta_readLevel_86 rfl ?_
            refine aw_ineg e_Ta_readLevel_88 ?_
            refine aw_cV1 e_Ta_readLevel_89 ml_Ta_98 mf_Ta_put mv_Ta_put (c_Ta_putF hS h7 hk (fun I4 hf4 hg4 hk4 => ?_))
            refine aw_inc6 e_Ta_readLevel_92 (inc1 _) ?_
            refine aw_goto e_Ta_readLevel_95 ?_
            refine aw_drop 7 ?_
            refine aw_iload e_Ta_readLevel_39 rfl ?_
            refine aw_iload e_Ta_readLevel_41 rfl ?_
            refine awN_icmp_ge e_Ta_readLevel_43 (by omega) (by omega) (fun h43 => ?_) (fun h43 => ?_)
            · refine aw_iload e_Ta_readLevel_98 rfl ?_
              have hrs := hQ I4
              have hre : (rd t key G (m + 1) o i (nxX t x)) = (false, (rd t key G (m + 1) o i (nxX t x)).2) := Prod.ext (Bool.eq_false_iff.2 hr) rfl
              rw [hre] at hrs
              exact awB_0 e_Ta_readLevel_100 (show ¬ false = true by decide) (hrs (RS_f ⟨fT_t (fT_t hf2 hf1.T) hr3.1, hr3.2⟩ hr hf4 hg4 hk4 rfl))
            · refine aw_iload e_Ta_readLevel_46 rfl ?_
              refine awN_if_eq e_Ta_readLevel_48 (by omega) (fun h48 => ?_) (fun h48 => ?_)
              · refine aw_iload e_Ta_readLevel_98 rfl ?_
                have hrs := hQ I4
                have hre : (rd t key G (m + 1) o i (nxX t x)) = (false, (rd t key G (m + 1) o i (nxX t x)).2) := Prod.ext (Bool.eq_false_iff.2 hr) rfl
                rw [hre] at hrs
                exact awB_0 e_Ta_readLevel_100 (show ¬ false = true by decide) (hrs (RS_f ⟨fT_t (fT_t hf2 hf1.T) hr3.1, hr3.2⟩ hr hf4 hg4 hk4 rfl))
              · exact absurd rfl h48
theorem lv_step {l : Launch} {E : En} {L : Lt} {R : Rt} {Z : Zt} {t : TB} {key F : Nat} (hS : Sta R) (hk2 : key < 2) (hP : CPc l E L R Z t key F) (hall : ∀ G, G < F → CLv l E L R Z t key G) : CLv l E L R Z t key F := by
  intro m o i x I D Q hm ho hi hD hTS hX hms hQ
  obtain ⟨D, rfl⟩ : ∃ D2, D = D2 + 5 := ⟨D - 5, by omega⟩
  have hT96 := hTS.1.2.1
  have hx1 := hX.1.1
  have hx2 := hX.1.2.1
  by_cases hm5 : m < 5
  · obtain ⟨F, rfl⟩ : ∃ F2, F = F2 + 1 := ⟨F - 1, by omega⟩
    rw [rd_lv hm5] at hQ
    refine AMet.of mf_Ta_readLevel rfl (Nat.le_of_ble_eq_true rfl) ?_
    refine aw_iload_n e_Ta_readLevel_0 rfl ?_
    refine aw_iconst (v := nI 5) e_Ta_readLevel_1 (by decide) ?_
    refine awN_icmp_lt e_Ta_readLevel_2 (by omega) (by omega) (fun h2 => ?_) (fun h2 => ?_)
    · refine aw_aload_n e_Ta_readLevel_12 rfl ?_
      refine aw_iload_n e_Ta_readLevel_13 rfl ?_
      refine aw_iconst (v := nI 1) e_Ta_readLevel_14 (by decide) ?_
      first | refine awN_iadd e_Ta_readLevel_15 ?_ | refine aw_iadd e_Ta_readLevel_15 ?_
      refine aw_iload_n e_Ta_readLevel_16 rfl ?_
      refine aw_iload_n e_Ta_readLevel_17 rfl ?_
      refine aw_cV3 e_Ta_readLevel_18 ml_Ta_48 mf_Ta_readLevel mv_Ta_readLevel (hall F (by omega) (m + 1) o i x _ _ _ (by omega) ho hi (by omega) hTS hX (by omega) (fun I2 hr2 => ?_))
      by_cases hr : (rd t key F (m + 1) o i x).1 = true
      · have hT2 := hr2.2.1 hr
        have hX2 := XI_rd (by omega) hX hr
        rw [if_pos hr] at hQ
        rw [bI_t (c := (rd t key F (m + 1) o i x).1 = true) hr]
        refine aw_ist4 e_Ta_readLevel_21 ?_
        refine aw_iload_n e_Ta_readLevel_23 rfl ?_
        refine aw_iconst (v := nI 2) e_Ta_readLevel_24 (by decide) ?_
        refine awN_icmp_ne e_Ta_readLevel_25 (by omega) (by omega) (fun h25 => ?_) (fun h25 => ?_)
        · refine aw_bipush (v := nI 96) e_Ta_readLevel_32 (by decide) ?_
          refine aw_ist5 e_Ta_readLevel_34 ?_
          refine aw_iconst (v := nI 0) e_Ta_readLevel_36 (by decide) ?_
          refine aw_ist6 e_Ta_readLevel_37 ?_
          exact lv_loop (D := D) (mo := _) hS hk2 hm5 ho hi (by first | (rw [if_pos h25]) | (rw [if_neg h25])) F (fun G2 hG2 => hall G2 (by omega)) (by omega) (rd t key F (m + 1) o i x).2 0 I I2 Q hT2 hX2.1 (by omega) (Nat.zero_le _) (fun _ => rfl) hr2.1 hQ
        · refine aw_iconst (v := nI 1) e_Ta_readLevel_28 (by decide) ?_
          refine aw_goto e_Ta_readLevel_29 ?_
          refine aw_ist5 e_Ta_readLevel_34 ?_
          refine aw_iconst (v := nI 0) e_Ta_readLevel_36 (by decide) ?_
          refine aw_ist6 e_Ta_readLevel_37 ?_
          exact lv_loop (D := D) (mo := _) hS hk2 hm5 ho hi (by first | (rw [if_pos h25]) | (rw [if_neg h25])) F (fun G2 hG2 => hall G2 (by omega)) (by omega) (rd t key F (m + 1) o i x).2 0 I I2 Q hT2 hX2.1 (by omega) (Nat.zero_le _) (fun _ => rfl) hr2.1 hQ
      · rw [if_neg hr] at hQ
        rw [bI_f (c := (rd t key F (m + 1) o i x).1 = true) hr]
        refine aw_ist4 e_Ta_readLevel_21 ?_
        refine aw_iload_n e_Ta_readLevel_23 rfl ?_
        refine aw_iconst (v := nI 2) e_Ta_readLevel_24 (by decide) ?_
        refine awN_icmp_ne e_Ta_readLevel_25 (by omega) (by omega) (fun h25 => ?_) (fun h25 => ?_)
        · refine aw_bipush (v := nI 96) e_Ta_readLevel_32 (by decide) ?_
          refine aw_ist5 e_Ta_readLevel_34 ?_
          refine aw_iconst (v := nI 0) e_Ta_readLevel_36 (by decide) ?_
          refine aw_ist6 e_Ta_readLevel_37 ?_
          refine aw_iload e_Ta_readLevel_39 rfl ?_
          refine aw_iload e_Ta_readLevel_41 rfl ?_
          refine awN_icmp_ge e_Ta_readLevel_43 (by omega) (by omega) (fun h43 => ?_) (fun h43 => ?_)
          · exact absurd h43 (by decide)
          · refine aw_iload e_Ta_readLevel_46 rfl ?_
            refine awN_if_eq e_Ta_readLevel_48 (by omega) (fun h48 => ?_) (fun h48 => ?_)
            · refine aw_iload e_Ta_readLevel_98 rfl ?_
              have hrs := hQ I2
              have hre : (rd t key F (m + 1) o i x) = (false, (rd t key F (m + 1) o i x).2) := Prod.ext (Bool.eq_false_iff.2 hr) rfl
              rw [hre] at hrs
              exact awB_0 e_Ta_readLevel_100 (show ¬ false = true by decide) (hrs (RS_f hr2 hr fT_0 (fun _ _ => rfl) (hr2.2.2 (Bool.eq_false_iff.2 hr)).2.2 rfl))
            · exact absurd rfl h48
        · refine aw_iconst (v := nI 1) e_Ta_readLevel_28 (by decide) ?_
          refine aw_goto e_Ta_readLevel_29 ?_
          refine aw_ist5 e_Ta_readLevel_34 ?_
          refine aw_iconst (v := nI 0) e_Ta_readLevel_36 (by decide) ?_
          refine aw_ist6 e_Ta_readLevel_37 ?_
          refine aw_iload e_Ta_readLevel_39 rfl ?_
          refine aw_iload e_Ta_readLevel_41 rfl ?_
          refine awN_icmp_ge e_Ta_readLevel_43 (by omega) (by omega) (fun h43 => ?_) (fun h43 => ?_)
          · exact absurd h43 (by decide)
          · refine aw_iload e_Ta_readLevel_46 rfl ?_
            refine awN_if_eq e_Ta_readLevel_48 (by omega) (fun h48 => ?_) (fun h48 => ?_)
            · refine aw_iload e_Ta_readLevel_98 rfl ?_
              have hrs := hQ I2
              have hre : (rd t key F (m + 1) o i x) = (false, (rd t key F (m + 1) o i x).2) := Prod.ext (Bool.eq_false_iff.2 hr) rfl
              rw [hre] at hrs
              exact awB_0 e_Ta_readLevel_100 (show ¬ false = true by decide) (hrs (RS_f hr2 hr fT_0 (fun _ _ => rfl) (hr2.2.2 (Bool.eq_false_iff.2 hr)).2.2 rfl))
            · exact absurd rfl h48
    · exact absurd h2 (by omega)
  · obtain rfl : m = 5 := by omega
    refine AMet.of mf_Ta_readLevel rfl (Nat.le_of_ble_eq_true rfl) ?_
    refine aw_iload_n e_Ta_readLevel_0 rfl ?_
    refine aw_iconst (v := nI 5) e_Ta_readLevel_1 (by decide) ?_
    refine awN_icmp_lt e_Ta_readLevel_2 (by omega) (by omega) (fun h2 => ?_) (fun h2 => ?_)
    · exact absurd h2 (by decide)
    · refine aw_aload_n e_Ta_readLevel_5 rfl ?_
      refine aw_iload_n e_Ta_readLevel_6 rfl ?_
      refine aw_iload_n e_Ta_readLevel_7 rfl ?_
      refine aw_cV2 e_Ta_readLevel_8 ml_Ta_91 mf_Ta_readPiece mv_Ta_readPiece (hP o i x _ _ _ ho hi (by omega) hTS hX (by omega) (fun I2 hr2 => ?_))
      exact awB_ret e_Ta_readLevel_11 rfl (hQ I2 hr2)
theorem rd_all {l : Launch} {E : En} {L : Lt} {R : Rt} {Z : Zt} {t : TB} {key : Nat} (hS : Sta R) (hk2 : key < 2) : ∀ F, CPc l E L R Z t key F ∧ CLv l E L R Z t key F := by
  intro F
  induction F using Nat.strongRecOn with
  | _ F ih =>
    have hp : CPc l E L R Z t key F := by
      cases F with
      | zero => intro o i x I D Q _ _ _ _ _ h; exact absurd h (by omega)
      | succ F => exact pc_step hS hk2 (ih F (by omega)).1 (ih F (by omega)).2
    exact ⟨hp, lv_step hS hk2 hp (fun G hG => (ih G hG).2)⟩
