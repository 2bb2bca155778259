/-! ===== the calls, 13 ===== -/
def SC (I : It) (L : Lt) (R : Rt) (I2 : It) (L2 : Lt) (R2 : Rt) : Prop := (∀ t i, ¬ (t = 0 ∨ t = 1 ∨ t = 14 ∨ t = 15 ∨ t = 18 ∨ t = 19 ∨ t = 21 ∨ t = 22 ∨ own 2 t i) → I2 t i = I t i) ∧ (∀ t i, t ≠ 17 → L2 t i = L t i) ∧ (∀ t i, ¬ (t = 16 ∨ (t = 13 ∧ i = 2)) → R2 t i = R t i) ∧ (∃ ρ, RG R2 0 ρ) ∧ (∃ ρ, RG R2 1 ρ)
theorem SC_0 {I : It} {L : Lt} {R : Rt} {Z : Zt} {S : AS} (h : CS I R Z S) : SC I L R I L R := ⟨fun _ _ _ => rfl, fun _ _ _ => rfl, fun _ _ _ => rfl, (CS_G h).1, (CS_G h).2⟩
theorem SC_ans {I I1 I2 : It} {L L1 L2 : Lt} {R R1 R2 : Rt} {a : Nat} {ρ : Nat → Nat} (h : SC I L R I1 L1 R1) (ha : a < 2) (hG : RG R2 a ρ) (h1 : frJ a I1 I2) (h2 : frL a L1 L2) (h3 : frR a R1 R2) : SC I L R I2 L2 R2 := by
  obtain ⟨a1, a2, a3, ⟨ρ0, a4⟩, ⟨ρ1, a5⟩⟩ := h
  refine ⟨fun t i hti => (h1 t i (by omega)).trans (a1 t i hti), fun t i hti => (h2 t i (by omega)).trans (a2 t i hti), fun t i hti => (h3 t i (by omega)).trans (a3 t i hti), ?_, ?_⟩
  · by_cases e : a = 0
    · exact ⟨ρ, e ▸ hG⟩
    · exact ⟨ρ0, RG_fr a4 h3 (by omega)⟩
  · by_cases e : a = 1
    · exact ⟨ρ, e ▸ hG⟩
    · exact ⟨ρ1, RG_fr a5 h3 (by omega)⟩
theorem SC_I {I I1 I2 : It} {L L1 : Lt} {R R1 : Rt} (h : SC I L R I1 L1 R1) (hI : ∀ t i, ¬ own 2 t i → ¬ (t = 22 ∧ i = 0) → I2 t i = I1 t i) : SC I L R I2 L1 R1 := ⟨fun t i hti => (hI t i (fun z => hti (by simp [z])) (by omega)).trans (h.1 t i hti), h.2⟩
theorem SC_R {I I1 I2 : It} {L L1 : Lt} {R R1 R2 : Rt} (h : SC I L R I1 L1 R1) (hI : ∀ t i, ¬ own 2 t i → I2 t i = I1 t i) (hR : ∀ t i, ¬ (t = 13 ∧ i = 2) → R2 t i = R1 t i) : SC I L R I2 L1 R2 := by
  obtain ⟨a1, a2, a3, ⟨ρ0, a4⟩, ⟨ρ1, a5⟩⟩ := h
  exact ⟨fun t i hti => (hI t i (fun z => hti (by simp [z]))).trans (a1 t i hti), a2, fun t i hti => (hR t i (by omega)).trans (a3 t i hti), ⟨ρ0, ⟨fun r hr => by rw [hR 16 0 (by omega)]; exact a4.1 r hr, a4.2⟩⟩, ⟨ρ1, ⟨fun r hr => by rw [hR 16 1 (by omega)]; exact a5.1 r hr, a5.2⟩⟩⟩
theorem SC.cs {I I2 : It} {L L2 : Lt} {R R2 : Rt} {Z : Zt} {S : AS} (hs : SC I L R I2 L2 R2) (h : CS I R Z S) : CS I2 R2 Z S :=
  h.keep (fun t i hti => hs.1 t i (fun z => hti (by unfold scr; rcases z with z | z | z | z | z | z | z | z | z <;> simp [z]))) (fun t i hti => hs.2.2.1 t i (by omega)) (h.1.keep (fun t i h13 h16 _ => hs.2.2.1 t i (by omega))) hs.2.2.2.1 hs.2.2.2.2
theorem SC.km {I I2 : It} {L L2 : Lt} {R R2 : Rt} (hs : SC I L R I2 L2 R2) : KM I L R I2 L2 R2 := fun t i ht => ⟨hs.1 t i (by unfold own; omega), hs.2.1 t i (by omega), hs.2.2.1 t i (by omega)⟩
theorem oI_m1 {V : Mc} {key tg n : Nat} (hn : n ≤ 14) : oI (lastT V key tg n) = -1 ↔ lastT V key tg n = none := by
  cases q : lastT V key tg n with
  | none => exact ⟨fun _ => rfl, fun _ => rfl⟩
  | some j =>
    have hj := lastT_lt q
    exact ⟨fun z => absurd z (nI_m1 (show j < 2147483648 by omega)), fun z => by cases z⟩
theorem orN_n {x : Int32} (h : x = -1) : orN x = -1000000005 := by rw [h]; decide
theorem orN_o {V : Mc} {key tg n : Nat} (hn : n ≤ 14) (h : ¬ oI (lastT V key tg n) = -1) : orN (oI (lastT V key tg n)) = oI (lastT V key tg n) := by
  unfold orN
  rw [if_neg (fun z => h ((oI_m1 hn).2 ((oI_neg hn).1 z)))]
theorem c_Pb_why {l : Launch} {E : En} {d : Nat} {I : It} {L : Lt} {R : Rt} {Z : Zt} {Q : Qt} {S : AS} (hCS : CS I R Z S) {x y : Int32} (hQ : ∀ I2 L2 R2, CS I2 R2 Z (op_why S x y).1 → KM I L R I2 L2 R2 → Q (some (vi (op_why S x y).2)) I2 L2 R2 Z) : AMet l E (d + 1) M_Pb_why [vr 8 0, vi x, vi y] I L R Z Q := by
  have hS := hCS.1
  have hC := hCS.2.1
  have hW := hCS.2.2.1.1
  have hWn := hW.1
  have hT1 : (nI 1).toInt = 1 := by decide
  have hT12 : (nI 12).toInt = 12 := by decide
  refine AMet.of mf_Pb_why rfl (Nat.le_of_ble_eq_true rfl) ?_
  refine aw_iload_n e_Pb_why_0 rfl ?_
  refine awZ_if_ne e_Pb_why_1 (fun h1 => ?_) (fun h1 => ?_)
  · refine aw_iconst (v := nI 0) e_Pb_why_18 (by decide) ?_
    refine aw_ist3 e_Pb_why_19 ?_
    refine aw_iload_n e_Pb_why_20 rfl ?_
    refine aw_iconst (v := nI 1) e_Pb_why_21 (by decide) ?_
    refine awZ_icmp_ne e_Pb_why_22 (fun h22 => ?_) (fun h22 => ?_)
    · refine aw_iconst (v := nI 0) e_Pb_why_39 (by decide) ?_
      refine aw_ist4 e_Pb_why_40 ?_
      refine aw_iload_n e_Pb_why_42 rfl ?_
      refine awN_if_ne e_Pb_why_43 (by omega) (fun h43 => ?_) (fun h43 => ?_)
      · have hg : inR x 2 ∧ inR y 12 := by unfold inR; omega
        obtain ⟨k, hk, rfl⟩ := inR_nI hg.1
        obtain ⟨o, ho, rfl⟩ := inR_nI hg.2
        refine aw_aload_n e_Pb_why_54 rfl ?_
        refine aw_getR e_Pb_why_55 fl_Pb_10 (hS.1 _ _ _ _ rfl) ?_
        refine aw_iload_n e_Pb_why_58 rfl ?_
        refine aw_iload_n e_Pb_why_59 rfl ?_
        refine aw_cV2 e_Pb_why_60 ml_Pb_227 mf_Ma_textFor mv_Ma_textFor (c_Ma_textFor hS (by decide) hC hW hk ho ?_)
        refine aw_ist5 e_Pb_why_63 ?_
        refine aw_iload e_Pb_why_65 rfl ?_
        refine aw_iconst (v := -1) e_Pb_why_67 (by decide) ?_
        refine aw_icmp_ne e_Pb_why_68 (fun h68 => ?_) (fun h68 => ?_)
        · refine aw_iload e_Pb_why_76 rfl ?_
          have hq := hQ _ _ _ hCS KM_0
          unfold op_why at hq
          first
            | (rw [if_pos hg, ix_n (j := k) (by omega), ix_n (j := o) (by omega), orN_n h68] at hq; exact aw_iret e_Pb_why_78 rfl rfl hq)
            | (rw [if_pos hg, ix_n (j := k) (by omega), ix_n (j := o) (by omega), orN_o (by omega) h68] at hq; exact aw_iret e_Pb_why_78 rfl rfl hq)
        · refine aw_ldc (v := -1000000005) e_Pb_why_71 kc_Pb_230 ?_
          refine aw_goto e_Pb_why_73 ?_
          have hq := hQ _ _ _ hCS KM_0
          unfold op_why at hq
          first
            | (rw [if_pos hg, ix_n (j := k) (by omega), ix_n (j := o) (by omega), orN_n h68] at hq; exact aw_iret e_Pb_why_78 rfl rfl hq)
            | (rw [if_pos hg, ix_n (j := k) (by omega), ix_n (j := o) (by omega), orN_o (by omega) h68] at hq; exact aw_iret e_Pb_why_78 rfl rfl hq)
      · refine aw_iload e_Pb_why_46 rfl ?_
        refine awN_if_ne e_Pb_why_48 (by omega) (fun h48 => ?_) (fun h48 => ?_)
        · have hg : inR x 2 ∧ inR y 12 := by unfold inR; omega
          obtain ⟨k, hk, rfl⟩ := inR_nI hg.1
          obtain ⟨o, ho, rfl⟩ := inR_nI hg.2
          refine aw_aload_n e_Pb_why_54 rfl ?_
          refine aw_getR e_Pb_why_55 fl_Pb_10 (hS.1 _ _ _ _ rfl) ?_
          refine aw_iload_n e_Pb_why_58 rfl ?_
          refine aw_iload_n e_Pb_why_59 rfl ?_
          refine aw_cV2 e_Pb_why_60 ml_Pb_227 mf_Ma_textFor mv_Ma_textFor (c_Ma_textFor hS (by decide) hC hW hk ho ?_)
          refine aw_ist5 e_Pb_why_63 ?_
          refine aw_iload e_Pb_why_65 rfl ?_
          refine aw_iconst (v := -1) e_Pb_why_67 (by decide) ?_
          refine aw_icmp_ne e_Pb_why_68 (fun h68 => ?_) (fun h68 => ?_)
          · refine aw_iload e_Pb_why_76 rfl ?_
            have hq := hQ _ _ _ hCS KM_0
            unfold op_why at hq
            first
              | (rw [if_pos hg, ix_n (j := k) (by omega), ix_n (j := o) (by omega), orN_n h68] at hq; exact aw_iret e_Pb_why_78 rfl rfl hq)
              | (rw [if_pos hg, ix_n (j := k) (by omega), ix_n (j := o) (by omega), orN_o (by omega) h68] at hq; exact aw_iret e_Pb_why_78 rfl rfl hq)
          · refine aw_ldc (v := -1000000005) e_Pb_why_71 kc_Pb_230 ?_
            refine aw_goto e_Pb_why_73 ?_
            have hq := hQ _ _ _ hCS KM_0
            unfold op_why at hq
            first
              | (rw [if_pos hg, ix_n (j := k) (by omega), ix_n (j := o) (by omega), orN_n h68] at hq; exact aw_iret e_Pb_why_78 rfl rfl hq)
              | (rw [if_pos hg, ix_n (j := k) (by omega), ix_n (j := o) (by omega), orN_o (by omega) h68] at hq; exact aw_iret e_Pb_why_78 rfl rfl hq)
        · refine aw_ldc (v := -1000000001) e_Pb_why_51 kc_Pb_74 ?_
          have hq := hQ _ _ _ hCS KM_0
          unfold op_why at hq
          first
            | (rw [if_neg (fun w => by have w1 := w.1.1; have w2 := w.1.2; have w3 := w.2.1; have w4 := w.2.2; omega)] at hq; exact aw_iret e_Pb_why_53 rfl rfl hq)
    · refine aw_iload_n e_Pb_why_25 rfl ?_
      refine awZ_if_lt e_Pb_why_26 (fun h26 => ?_) (fun h26 => ?_)
      · refine aw_iconst (v := nI 0) e_Pb_why_39 (by decide) ?_
        refine aw_ist4 e_Pb_why_40 ?_
        refine aw_iload_n e_Pb_why_42 rfl ?_
        refine awN_if_ne e_Pb_why_43 (by omega) (fun h43 => ?_) (fun h43 => ?_)
        · have hg : inR x 2 ∧ inR y 12 := by unfold inR; omega
          obtain ⟨k, hk, rfl⟩ := inR_nI hg.1
          obtain ⟨o, ho, rfl⟩ := inR_nI hg.2
          refine aw_aload_n e_Pb_why_54 rfl ?_
          refine aw_getR e_Pb_why_55 fl_Pb_10 (hS.1 _ _ _ _ rfl) ?_
          refine aw_iload_n e_Pb_why_58 rfl ?_
          refine aw_iload_n e_Pb_why_59 rfl ?_
          refine aw_cV2 e_Pb_why_60 ml_Pb_227 mf_Ma_textFor mv_Ma_textFor (c_Ma_textFor hS (by decide) hC hW hk ho ?_)
          refine aw_ist5 e_Pb_why_63 ?_
          refine aw_iload e_Pb_why_65 rfl ?_
          refine aw_iconst (v := -1) e_Pb_why_67 (by decide) ?_
          refine aw_icmp_ne e_Pb_why_68 (fun h68 => ?_) (fun h68 => ?_)
          · refine aw_iload e_Pb_why_76 rfl ?_
            have hq := hQ _ _ _ hCS KM_0
            unfold op_why at hq
            first
              | (rw [if_pos hg, ix_n (j := k) (by omega), ix_n (j := o) (by omega), orN_n h68] at hq; exact aw_iret e_Pb_why_78 rfl rfl hq)
              | (rw [if_pos hg, ix_n (j := k) (by omega), ix_n (j := o) (by omega), orN_o (by omega) h68] at hq; exact aw_iret e_Pb_why_78 rfl rfl hq)
          · refine aw_ldc (v := -1000000005) e_Pb_why_71 kc_Pb_230 ?_
            refine aw_goto e_Pb_why_73 ?_
            have hq := hQ _ _ _ hCS KM_0
            unfold op_why at hq
            first
              | (rw [if_pos hg, ix_n (j := k) (by omega), ix_n (j := o) (by omega), orN_n h68] at hq; exact aw_iret e_Pb_why_78 rfl rfl hq)
              | (rw [if_pos hg, ix_n (j := k) (by omega), ix_n (j := o) (by omega), orN_o (by omega) h68] at hq; exact aw_iret e_Pb_why_78 rfl rfl hq)
        · refine aw_iload e_Pb_why_46 rfl ?_
          refine awN_if_ne e_Pb_why_48 (by omega) (fun h48 => ?_) (fun h48 => ?_)
          · have hg : inR x 2 ∧ inR y 12 := by unfold inR; omega
            obtain ⟨k, hk, rfl⟩ := inR_nI hg.1
            obtain ⟨o, ho, rfl⟩ := inR_nI hg.2
            refine aw_aload_n e_Pb_why_54 rfl ?_
            refine aw_getR e_Pb_why_55 fl_Pb_10 (hS.1 _ _ _ _ rfl) ?_
            refine aw_iload_n e_Pb_why_58 rfl ?_
            refine aw_iload_n e_Pb_why_59 rfl ?_
            refine aw_cV2 e_Pb_why_60 ml_Pb_227 mf_Ma_textFor mv_Ma_textFor (c_Ma_textFor hS (by decide) hC hW hk ho ?_)
            refine aw_ist5 e_Pb_why_63 ?_
            refine aw_iload e_Pb_why_65 rfl ?_
            refine aw_iconst (v := -1) e_Pb_why_67 (by decide) ?_
            refine aw_icmp_ne e_Pb_why_68 (fun h68 => ?_) (fun h68 => ?_)
            · refine aw_iload e_Pb_why_76 rfl ?_
              have hq := hQ _ _ _ hCS KM_0
              unfold op_why at hq
              first
                | (rw [if_pos hg, ix_n (j := k) (by omega), ix_n (j := o) (by omega), orN_n h68] at hq; exact aw_iret e_Pb_why_78 rfl rfl hq)
                | (rw [if_pos hg, ix_n (j := k) (by omega), ix_n (j := o) (by omega), orN_o (by omega) h68] at hq; exact aw_iret e_Pb_why_78 rfl rfl hq)
            · refine aw_ldc (v := -1000000005) e_Pb_why_71 kc_Pb_230 ?_
              refine aw_goto e_Pb_why_73 ?_
              have hq := hQ _ _ _ hCS KM_0
              unfold op_why at hq
              first
                | (rw [if_pos hg, ix_n (j := k) (by omega), ix_n (j := o) (by omega), orN_n h68] at hq; exact aw_iret e_Pb_why_78 rfl rfl hq)
                | (rw [if_pos hg, ix_n (j := k) (by omega), ix_n (j := o) (by omega), orN_o (by omega) h68] at hq; exact aw_iret e_Pb_why_78 rfl rfl hq)
          · refine aw_ldc (v := -1000000001) e_Pb_why_51 kc_Pb_74 ?_
            have hq := hQ _ _ _ hCS KM_0
            unfold op_why at hq
            first
              | (rw [if_neg (fun w => by have w1 := w.1.1; have w2 := w.1.2; have w3 := w.2.1; have w4 := w.2.2; omega)] at hq; exact aw_iret e_Pb_why_53 rfl rfl hq)
      · refine aw_iload_n e_Pb_why_29 rfl ?_
        refine aw_bipush (v := nI 12) e_Pb_why_30 (by decide) ?_
        refine awZ_icmp_ge e_Pb_why_32 (fun h32 => ?_) (fun h32 => ?_)
        · refine aw_iconst (v := nI 0) e_Pb_why_39 (by decide) ?_
          refine aw_ist4 e_Pb_why_40 ?_
          refine aw_iload_n e_Pb_why_42 rfl ?_
          refine awN_if_ne e_Pb_why_43 (by omega) (fun h43 => ?_) (fun h43 => ?_)
          · have hg : inR x 2 ∧ inR y 12 := by unfold inR; omega
            obtain ⟨k, hk, rfl⟩ := inR_nI hg.1
            obtain ⟨o, ho, rfl⟩ := inR_nI hg.2
            refine aw_aload_n e_Pb_why_54 rfl ?_
            refine aw_getR e_Pb_why_55 fl_Pb_10 (hS.1 _ _ _ _ rfl) ?_
            refine aw_iload_n e_Pb_why_58 rfl ?_
            refine aw_iload_n e_Pb_why_59 rfl ?_
            refine aw_cV2 e_Pb_why_60 ml_Pb_227 mf_Ma_textFor mv_Ma_textFor (c_Ma_textFor hS (by decide) hC hW hk ho ?_)
            refine aw_ist5 e_Pb_why_63 ?_
            refine aw_iload e_Pb_why_65 rfl ?_
            refine aw_iconst (v := -1) e_Pb_why_67 (by decide) ?_
            refine aw_icmp_ne e_Pb_why_68 (fun h68 => ?_) (fun h68 => ?_)
            · refine aw_iload e_Pb_why_76 rfl ?_
              have hq := hQ _ _ _ hCS KM_0
              unfold op_why at hq
              first
                | (rw [if_pos hg, ix_n (j := k) (by omega), ix_n (j := o) (by omega), orN_n h68] at hq; exact aw_iret e_Pb_why_78 rfl rfl hq)
                | (rw [if_pos hg, ix_n (j := k) (by omega), ix_n (j := o) (by omega), orN_o (by omega) h68] at hq; exact aw_iret e_Pb_why_78 rfl rfl hq)
            · refine aw_ldc (v := -1000000005) e_Pb_why_71 kc_Pb_230 ?_
              refine aw_goto e_Pb_why_73 ?_
              have hq := hQ _ _ _ hCS KM_0
              unfold op_why at hq
              first
                | (rw [if_pos hg, ix_n (j := k) (by omega), ix_n (j := o) (by omega), orN_n h68] at hq; exact aw_iret e_Pb_why_78 rfl rfl hq)
                | (rw [if_pos hg, ix_n (j := k) (by omega), ix_n (j := o) (by omega), orN_o (by omega) h68] at hq; exact aw_iret e_Pb_why_78 rfl rfl hq)
          · refine aw_iload e_Pb_why_46 rfl ?_
            refine awN_if_ne e_Pb_why_48 (by omega) (fun h48 => ?_) (fun h48 => ?_)
            · have hg : inR x 2 ∧ inR y 12 := by unfold inR; omega
              obtain ⟨k, hk, rfl⟩ := inR_nI hg.1
              obtain ⟨o, ho, rfl⟩ := inR_nI hg.2
              refine aw_aload_n e_Pb_why_54 rfl ?_
              refine aw_getR e_Pb_why_55 fl_Pb_10 (hS.1 _ _ _ _ rfl) ?_
              refine aw_iload_n e_Pb_why_58 rfl ?_
              refine aw_iload_n e_Pb_why_59 rfl ?_
              refine aw_cV2 e_Pb_why_60 ml_Pb_227 mf_Ma_textFor mv_Ma_textFor (c_Ma_textFor hS (by decide) hC hW hk ho ?_)
              refine aw_ist5 e_Pb_why_63 ?_
              refine aw_iload e_Pb_why_65 rfl ?_
              refine aw_iconst (v := -1) e_Pb_why_67 (by decide) ?_
              refine aw_icmp_ne e_Pb_why_68 (fun h68 => ?_) (fun h68 => ?_)
              · refine aw_iload e_Pb_why_76 rfl ?_
                have hq := hQ _ _ _ hCS KM_0
                unfold op_why at hq
                first
                  | (rw [if_pos hg, ix_n (j := k) (by omega), ix_n (j := o) (by omega), orN_n h68] at hq; exact aw_iret e_Pb_why_78 rfl rfl hq)
                  | (rw [if_pos hg, ix_n (j := k) (by omega), ix_n (j := o) (by omega), orN_o (by omega) h68] at hq; exact aw_iret e_Pb_why_78 rfl rfl hq)
              · refine aw_ldc (v := -1000000005) e_Pb_why_71 kc_Pb_230 ?_
                refine aw_goto e_Pb_why_73 ?_
                have hq := hQ _ _ _ hCS KM_0
                unfold op_why at hq
                first
                  | (rw [if_pos hg, ix_n (j := k) (by omega), ix_n (j := o) (by omega), orN_n h68] at hq; exact aw_iret e_Pb_why_78 rfl rfl hq)
                  | (rw [if_pos hg, ix_n (j := k) (by omega), ix_n (j := o) (by omega), orN_o (by omega) h68] at hq; exact aw_iret e_Pb_why_78 rfl rfl hq)
            · refine aw_ldc (v := -1000000001) e_Pb_why_51 kc_Pb_74 ?_
              have hq := hQ _ _ _ hCS KM_0
              unfold op_why at hq
              first
                | (rw [if_neg (fun w => by have w1 := w.1.1; have w2 := w.1.2; have w3 := w.2.1; have w4 := w.2.2; omega)] at hq; exact aw_iret e_Pb_why_53 rfl rfl hq)
        · refine aw_iconst (v := nI 1) e_Pb_why_35 (by decide) ?_
          refine aw_goto e_Pb_why_36 ?_
          refine aw_ist4 e_Pb_why_40 ?_
          refine aw_iload_n e_Pb_why_42 rfl ?_
          refine awN_if_ne e_Pb_why_43 (by omega) (fun h43 => ?_) (fun h43 => ?_)
          · have hg : inR x 2 ∧ inR y 12 := by unfold inR; omega
            obtain ⟨k, hk, rfl⟩ := inR_nI hg.1
            obtain ⟨o, ho, rfl⟩ := inR_nI hg.2
            refine aw_aload_n e_Pb_why_54 rfl ?_
            refine aw_getR e_Pb_why_55 fl_Pb_10 (hS.1 _ _ _ _ rfl) ?_
            refine aw_iload_n e_Pb_why_58 rfl ?_
            refine aw_iload_n e_Pb_why_59 rfl ?_
            refine aw_cV2 e_Pb_why_60 ml_Pb_227 mf_Ma_textFor mv_Ma_textFor (c_Ma_textFor hS (by decide) hC hW hk ho ?_)
            refine aw_ist5 e_Pb_why_63 ?_
            refine aw_iload e_Pb_why_65 rfl ?_
            refine aw_iconst (v := -1) e_Pb_why_67 (by decide) ?_
            refine aw_icmp_ne e_Pb_why_68 (fun h68 => ?_) (fun h68 => ?_)
            · refine aw_iload e_Pb_why_76 rfl ?_
              have hq := hQ _ _ _ hCS KM_0
              unfold op_why at hq
              first
                | (rw [if_pos hg, ix_n (j := k) (by omega), ix_n (j := o) (by omega), orN_n h68] at hq; exact aw_iret e_Pb_why_78 rfl rfl hq)
                | (rw [if_pos hg, ix_n (j := k) (by omega), ix_n (j := o) (by omega), orN_o (by omega) h68] at hq; exact aw_iret e_Pb_why_78 rfl rfl hq)
            · refine aw_ldc (v := -1000000005) e_Pb_why_71 kc_Pb_230 ?_
              refine aw_goto e_Pb_why_73 ?_
              have hq := hQ _ _ _ hCS KM_0
              unfold op_why at hq
              first
                | (rw [if_pos hg, ix_n (j := k) (by omega), ix_n (j := o) (by omega), orN_n h68] at hq; exact aw_iret e_Pb_why_78 rfl rfl hq)
                | (rw [if_pos hg, ix_n (j := k) (by omega), ix_n (j := o) (by omega), orN_o (by omega) h68] at hq; exact aw_iret e_Pb_why_78 rfl rfl hq)
          · refine aw_iload e_Pb_why_46 rfl ?_
            refine awN_if_ne e_Pb_why_48 (by omega) (fun h48 => ?_) (fun h48 => ?_)
            · have hg : inR x 2 ∧ inR y 12 := by unfold inR; omega
              obtain ⟨k, hk, rfl⟩ := inR_nI hg.1
              obtain ⟨o, ho, rfl⟩ := inR_nI hg.2
              refine aw_aload_n e_Pb_why_54 rfl ?_
              refine aw_getR e_Pb_why_55 fl_Pb_10 (hS.1 _ _ _ _ rfl) ?_
              refine aw_iload_n e_Pb_why_58 rfl ?_
              refine aw_iload_n e_Pb_why_59 rfl ?_
              refine aw_cV2 e_Pb_why_60 ml_Pb_227 mf_Ma_textFor mv_Ma_textFor (c_Ma_textFor hS (by decide) hC hW hk ho ?_)
              refine aw_ist5 e_Pb_why_63 ?_
              refine aw_iload e_Pb_why_65 rfl ?_
              refine aw_iconst (v := -1) e_Pb_why_67 (by decide) ?_
              refine aw_icmp_ne e_Pb_why_68 (fun h68 => ?_) (fun h68 => ?_)
              · refine aw_iload e_Pb_why_76 rfl ?_
                have hq := hQ _ _ _ hCS KM_0
                unfold op_why at hq
                first
                  | (rw [if_pos hg, ix_n (j := k) (by omega), ix_n (j := o) (by omega), orN_n h68] at hq; exact aw_iret e_Pb_why_78 rfl rfl hq)
                  | (rw [if_pos hg, ix_n (j := k) (by omega), ix_n (j := o) (by omega), orN_o (by omega) h68] at hq; exact aw_iret e_Pb_why_78 rfl rfl hq)
              · refine aw_ldc (v := -1000000005) e_Pb_why_71 kc_Pb_230 ?_
                refine aw_goto e_Pb_why_73 ?_
                have hq := hQ _ _ _ hCS KM_0
                unfold op_why at hq
                first
                  | (rw [if_pos hg, ix_n (j := k) (by omega), ix_n (j := o) (by omega), orN_n h68] at hq; exact aw_iret e_Pb_why_78 rfl rfl hq)
                  | (rw [if_pos hg, ix_n (j := k) (by omega), ix_n (j := o) (by omega), orN_o (by omega) h68] at hq; exact aw_iret e_Pb_why_78 rfl rfl hq)
            · refine aw_ldc (v := -1000000001) e_Pb_why_51 kc_Pb_74 ?_
              have hq := hQ _ _ _ hCS KM_0
              unfold op_why at hq
              first
                | (rw [if_neg (fun w => by have w1 := w.1.1; have w2 := w.1.2; have w3 := w.2.1; have w4 := w.2.2; omega)] at hq; exact aw_iret e_Pb_why_53 rfl rfl hq)
  · refine aw_iload_n e_Pb_why_4 rfl ?_
    refine awZ_if_lt e_Pb_why_5 (fun h5 => ?_) (fun h5 => ?_)
    · refine aw_iconst (v := nI 0) e_Pb_why_18 (by decide) ?_
      refine aw_ist3 e_Pb_why_19 ?_
      refine aw_iload_n e_Pb_why_20 rfl ?_
      refine aw_iconst (v := nI 1) e_Pb_why_21 (by decide) ?_
      refine awZ_icmp_ne e_Pb_why_22 (fun h22 => ?_) (fun h22 => ?_)
      · refine aw_iconst (v := nI 0) e_Pb_why_39 (by decide) ?_
        refine aw_ist4 e_Pb_why_40 ?_
        refine aw_iload_n e_Pb_why_42 rfl ?_
        refine awN_if_ne e_Pb_why_43 (by omega) (fun h43 => ?_) (fun h43 => ?_)
        · have hg : inR x 2 ∧ inR y 12 := by unfold inR; omega
          obtain ⟨k, hk, rfl⟩ := inR_nI hg.1
          obtain ⟨o, ho, rfl⟩ := inR_nI hg.2
          refine aw_aload_n e_Pb_why_54 rfl ?_
          refine aw_getR e_Pb_why_55 fl_Pb_10 (hS.1 _ _ _ _ rfl) ?_
          refine aw_iload_n e_Pb_why_58 rfl ?_
          refine aw_iload_n e_Pb_why_59 rfl ?_
          refine aw_cV2 e_Pb_why_60 ml_Pb_227 mf_Ma_textFor mv_Ma_textFor (c_Ma_textFor hS (by decide) hC hW hk ho ?_)
          refine aw_ist5 e_Pb_why_63 ?_
          refine aw_iload e_Pb_why_65 rfl ?_
          refine aw_iconst (v := -1) e_Pb_why_67 (by decide) ?_
          refine aw_icmp_ne e_Pb_why_68 (fun h68 => ?_) (fun h68 => ?_)
          · refine aw_iload e_Pb_why_76 rfl ?_
            have hq := hQ _ _ _ hCS KM_0
            unfold op_why at hq
            first
              | (rw [if_pos hg, ix_n (j := k) (by omega), ix_n (j := o) (by omega), orN_n h68] at hq; exact aw_iret e_Pb_why_78 rfl rfl hq)
              | (rw [if_pos hg, ix_n (j := k) (by omega), ix_n (j := o) (by omega), orN_o (by omega) h68] at hq; exact aw_iret e_Pb_why_78 rfl rfl hq)
          · refine aw_ldc (v := -1000000005) e_Pb_why_71 kc_Pb_230 ?_
            refine aw_goto e_Pb_why_73 ?_
            have hq := hQ _ _ _ hCS KM_0
            unfold op_why at hq
            first
              | (rw [if_pos hg, ix_n (j := k) (by omega), ix_n (j := o) (by omega), orN_n h68] at hq; exact aw_iret e_Pb_why_78 rfl rfl hq)
              | (rw [if_pos hg, ix_n (j := k) (by omega), ix_n (j := o) (by omega), orN_o (by omega) h68] at hq; exact aw_iret e_Pb_why_78 rfl rfl hq)
        · refine aw_iload e_Pb_why_46 rfl ?_
          refine awN_if_ne e_Pb_why_48 (by omega) (fun h48 => ?_) (fun h48 => ?_)
          · have hg : inR x 2 ∧ inR y 12 := by unfold inR; omega
            obtain ⟨k, hk, rfl⟩ := inR_nI hg.1
            obtain ⟨o, ho, rfl⟩ := inR_nI hg.2
            refine aw_aload_n e_Pb_why_54 rfl ?_
            refine aw_getR e_Pb_why_55 fl_Pb_10 (hS.1 _ _ _ _ rfl) ?_
            refine aw_iload_n e_Pb_why_58 rfl ?_
            refine aw_iload_n e_Pb_why_59 rfl ?_
            refine aw_cV2 e_Pb_why_60 ml_Pb_227 mf_Ma_textFor mv_Ma_textFor (c_Ma_textFor hS (by decide) hC hW hk ho ?_)
            refine aw_ist5 e_Pb_why_63 ?_
            refine aw_iload e_Pb_why_65 rfl ?_
            refine aw_iconst (v := -1) e_Pb_why_67 (by decide) ?_
            refine aw_icmp_ne e_Pb_why_68 (fun h68 => ?_) (fun h68 => ?_)
            · refine aw_iload e_Pb_why_76 rfl ?_
              have hq := hQ _ _ _ hCS KM_0
              unfold op_why at hq
              first
                | (rw [if_pos hg, ix_n (j := k) (by omega), ix_n (j := o) (by omega), orN_n h68] at hq; exact aw_iret e_Pb_why_78 rfl rfl hq)
                | (rw [if_pos hg, ix_n (j := k) (by omega), ix_n (j := o) (by omega), orN_o (by omega) h68] at hq; exact aw_iret e_Pb_why_78 rfl rfl hq)
            · refine aw_ldc (v := -1000000005) e_Pb_why_71 kc_Pb_230 ?_
              refine aw_goto e_Pb_why_73 ?_
              have hq := hQ _ _ _ hCS KM_0
              unfold op_why at hq
              first
                | (rw [if_pos hg, ix_n (j := k) (by omega), ix_n (j := o) (by omega), orN_n h68] at hq; exact aw_iret e_Pb_why_78 rfl rfl hq)
                | (rw [if_pos hg, ix_n (j := k) (by omega), ix_n (j := o) (by omega), orN_o (by omega) h68] at hq; exact aw_iret e_Pb_why_78 rfl rfl hq)
          · refine aw_ldc (v := -1000000001) e_Pb_why_51 kc_Pb_74 ?_
            have hq := hQ _ _ _ hCS KM_0
            unfold op_why at hq
            first
              | (rw [if_neg (fun w => by have w1 := w.1.1; have w2 := w.1.2; have w3 := w.2.1; have w4 := w.2.2; omega)] at hq; exact aw_iret e_Pb_why_53 rfl rfl hq)
      · refine aw_iload_n e_Pb_why_25 rfl ?_
        refine awZ_if_lt e_Pb_why_26 (fun h26 => ?_) (fun h26 => ?_)
        · refine aw_iconst (v := nI 0) e_Pb_why_39 (by decide) ?_
          refine aw_ist4 e_Pb_why_40 ?_
          refine aw_iload_n e_Pb_why_42 rfl ?_
          refine awN_if_ne e_Pb_why_43 (by omega) (fun h43 => ?_) (fun h43 => ?_)
          · have hg : inR x 2 ∧ inR y 12 := by unfold inR; omega
            obtain ⟨k, hk, rfl⟩ := inR_nI hg.1
            obtain ⟨o, ho, rfl⟩ := inR_nI hg.2
            refine aw_aload_n e_Pb_why_54 rfl ?_
            refine aw_getR e_Pb_why_55 fl_Pb_10 (hS.1 _ _ _ _ rfl) ?_
            refine aw_iload_n e_Pb_why_58 rfl ?_
            refine aw_iload_n e_Pb_why_59 rfl ?_
            refine aw_cV2 e_Pb_why_60 ml_Pb_227 mf_Ma_textFor mv_Ma_textFor (c_Ma_textFor hS (by decide) hC hW hk ho ?_)
            refine aw_ist5 e_Pb_why_63 ?_
            refine aw_iload e_Pb_why_65 rfl ?_
            refine aw_iconst (v := -1) e_Pb_why_67 (by decide) ?_
            refine aw_icmp_ne e_Pb_why_68 (fun h68 => ?_) (fun h68 => ?_)
            · refine aw_iload e_Pb_why_76 rfl ?_
              have hq := hQ _ _ _ hCS KM_0
              unfold op_why at hq
              first
                | (rw [if_pos hg, ix_n (j := k) (by omega), ix_n (j := o) (by omega), orN_n h68] at hq; exact aw_iret e_Pb_why_78 rfl rfl hq)
                | (rw [if_pos hg, ix_n (j := k) (by omega), ix_n (j := o) (by omega), orN_o (by omega) h68] at hq; exact aw_iret e_Pb_why_78 rfl rfl hq)
            · refine aw_ldc (v := -1000000005) e_Pb_why_71 kc_Pb_230 ?_
              refine aw_goto e_Pb_why_73 ?_
              have hq := hQ _ _ _ hCS KM_0
              unfold op_why at hq
              first
                | (rw [if_pos hg, ix_n (j := k) (by omega), ix_n (j := o) (by omega), orN_n h68] at hq; exact aw_iret e_Pb_why_78 rfl rfl hq)
                | (rw [if_pos hg, ix_n (j := k) (by omega), ix_n (j := o) (by omega), orN_o (by omega) h68] at hq; exact aw_iret e_Pb_why_78 rfl rfl hq)
          · refine aw_iload e_Pb_why_46 rfl ?_
            refine awN_if_ne e_Pb_why_48 (by omega) (fun h48 => ?_) (fun h48 => ?_)
            · have hg : inR x 2 ∧ inR y 12 := by unfold inR; omega
              obtain ⟨k, hk, rfl⟩ := inR_nI hg.1
              obtain ⟨o, ho, rfl⟩ := inR_nI hg.2
              refine aw_aload_n e_Pb_why_54 rfl ?_
              refine aw_getR e_Pb_why_55 fl_Pb_10 (hS.1 _ _ _ _ rfl) ?_
              refine aw_iload_n e_Pb_why_58 rfl ?_
              refine aw_iload_n e_Pb_why_59 rfl ?_
              refine aw_cV2 e_Pb_why_60 ml_Pb_227 mf_Ma_textFor mv_Ma_textFor (c_Ma_textFor hS (by decide) hC hW hk ho ?_)
              refine aw_ist5 e_Pb_why_63 ?_
              refine aw_iload e_Pb_why_65 rfl ?_
              refine aw_iconst (v := -1) e_Pb_why_67 (by decide) ?_
              refine aw_icmp_ne e_Pb_why_68 (fun h68 => ?_) (fun h68 => ?_)
              · refine aw_iload e_Pb_why_76 rfl ?_
                have hq := hQ _ _ _ hCS KM_0
                unfold op_why at hq
                first
                  | (rw [if_pos hg, ix_n (j := k) (by omega), ix_n (j := o) (by omega), orN_n h68] at hq; exact aw_iret e_Pb_why_78 rfl rfl hq)
                  | (rw [if_pos hg, ix_n (j := k) (by omega), ix_n (j := o) (by omega), orN_o (by omega) h68] at hq; exact aw_iret e_Pb_why_78 rfl rfl hq)
              · refine aw_ldc (v := -1000000005) e_Pb_why_71 kc_Pb_230 ?_
                refine aw_goto e_Pb_why_73 ?_
                have hq := hQ _ _ _ hCS KM_0
                unfold op_why at hq
                first
                  | (rw [if_pos hg, ix_n (j := k) (by omega), ix_n (j := o) (by omega), orN_n h68] at hq; exact aw_iret e_Pb_why_78 rfl rfl hq)
                  | (rw [if_pos hg, ix_n (j := k) (by omega), ix_n (j := o) (by omega), orN_o (by omega) h68] at hq; exact aw_iret e_Pb_why_78 rfl rfl hq)
            · refine aw_ldc (v := -1000000001) e_Pb_why_51 kc_Pb_74 ?_
              have hq := hQ _ _ _ hCS KM_0
              unfold op_why at hq
              first
                | (rw [if_neg (fun w => by have w1 := w.1.1; have w2 := w.1.2; have w3 := w.2.1; have w4 := w.2.2; omega)] at hq; exact aw_iret e_Pb_why_53 rfl rfl hq)
        · refine aw_iload_n e_Pb_why_29 rfl ?_
          refine aw_bipush (v := nI 12) e_Pb_why_30 (by decide) ?_
          refine awZ_icmp_ge e_Pb_why_32 (fun h32 => ?_) (fun h32 => ?_)
          · refine aw_iconst (v := nI 0) e_Pb_why_39 (by decide) ?_
            refine aw_ist4 e_Pb_why_40 ?_
            refine aw_iload_n e_Pb_why_42 rfl ?_
            refine awN_if_ne e_Pb_why_43 (by omega) (fun h43 => ?_) (fun h43 => ?_)
            · have hg : inR x 2 ∧ inR y 12 := by unfold inR; omega
              obtain ⟨k, hk, rfl⟩ := inR_nI hg.1
              obtain ⟨o, ho, rfl⟩ := inR_nI hg.2
              refine aw_aload_n e_Pb_why_54 rfl ?_
              refine aw_getR e_Pb_why_55 fl_Pb_10 (hS.1 _ _ _ _ rfl) ?_
              refine aw_iload_n e_Pb_why_58 rfl ?_
              refine aw_iload_n e_Pb_why_59 rfl ?_
              refine aw_cV2 e_Pb_why_60 ml_Pb_227 mf_Ma_textFor mv_Ma_textFor (c_Ma_textFor hS (by decide) hC hW hk ho ?_)
              refine aw_ist5 e_Pb_why_63 ?_
              refine aw_iload e_Pb_why_65 rfl ?_
              refine aw_iconst (v := -1) e_Pb_why_67 (by decide) ?_
              refine aw_icmp_ne e_Pb_why_68 (fun h68 => ?_) (fun h68 => ?_)
              · refine aw_iload e_Pb_why_76 rfl ?_
                have hq := hQ _ _ _ hCS KM_0
                unfold op_why at hq
                first
                  | (rw [if_pos hg, ix_n (j := k) (by omega), ix_n (j := o) (by omega), orN_n h68] at hq; exact aw_iret e_Pb_why_78 rfl rfl hq)
                  | (rw [if_pos hg, ix_n (j := k) (by omega), ix_n (j := o) (by omega), orN_o (by omega) h68] at hq; exact aw_iret e_Pb_why_78 rfl rfl hq)
              · refine aw_ldc (v := -1000000005) e_Pb_why_71 kc_Pb_230 ?_
                refine aw_goto e_Pb_why_73 ?_
                have hq := hQ _ _ _ hCS KM_0
                unfold op_why at hq
                first
                  | (rw [if_pos hg, ix_n (j := k) (by omega), ix_n (j := o) (by omega), orN_n h68] at hq; exact aw_iret e_Pb_why_78 rfl rfl hq)
                  | (rw [if_pos hg, ix_n (j := k) (by omega), ix_n (j := o) (by omega), orN_o (by omega) h68] at hq; exact aw_iret e_Pb_why_78 rfl rfl hq)
            · refine aw_iload e_Pb_why_46 rfl ?_
              refine awN_if_ne e_Pb_why_48 (by omega) (fun h48 => ?_) (fun h48 => ?_)
              · have hg : inR x 2 ∧ inR y 12 := by unfold inR; omega
                obtain ⟨k, hk, rfl⟩ := inR_nI hg.1
                obtain ⟨o, ho, rfl⟩ := inR_nI hg.2
                refine aw_aload_n e_Pb_why_54 rfl ?_
                refine aw_getR e_Pb_why_55 fl_Pb_10 (hS.1 _ _ _ _ rfl) ?_
                refine aw_iload_n e_Pb_why_58 rfl ?_
                refine aw_iload_n e_Pb_why_59 rfl ?_
                refine aw_cV2 e_Pb_why_60 ml_Pb_227 mf_Ma_textFor mv_Ma_textFor (c_Ma_textFor hS (by decide) hC hW hk ho ?_)
                refine aw_ist5 e_Pb_why_63 ?_
                refine aw_iload e_Pb_why_65 rfl ?_
                refine aw_iconst (v := -1) e_Pb_why_67 (by decide) ?_
                refine aw_icmp_ne e_Pb_why_68 (fun h68 => ?_) (fun h68 => ?_)
                · refine aw_iload e_Pb_why_76 rfl ?_
                  have hq := hQ _ _ _ hCS KM_0
                  unfold op_why at hq
                  first
                    | (rw [if_pos hg, ix_n (j := k) (by omega), ix_n (j := o) (by omega), orN_n h68] at hq; exact aw_iret e_Pb_why_78 rfl rfl hq)
                    | (rw [if_pos hg, ix_n (j := k) (by omega), ix_n (j := o) (by omega), orN_o (by omega) h68] at hq; exact aw_iret e_Pb_why_78 rfl rfl hq)
                · refine aw_ldc (v := -1000000005) e_Pb_why_71 kc_Pb_230 ?_
                  refine aw_goto e_Pb_why_73 ?_
                  have hq := hQ _ _ _ hCS KM_0
                  unfold op_why at hq
                  first
                    | (rw [if_pos hg, ix_n (j := k) (by omega), ix_n (j := o) (by omega), orN_n h68] at hq; exact aw_iret e_Pb_why_78 rfl rfl hq)
                    | (rw [if_pos hg, ix_n (j := k) (by omega), ix_n (j := o) (by omega), orN_o (by omega) h68] at hq; exact aw_iret e_Pb_why_78 rfl rfl hq)
              · refine aw_ldc (v := -1000000001) e_Pb_why_51 kc_Pb_74 ?_
                have hq := hQ _ _ _ hCS KM_0
                unfold op_why at hq
                first
                  | (rw [if_neg (fun w => by have w1 := w.1.1; have w2 := w.1.2; have w3 := w.2.1; have w4 := w.2.2; omega)] at hq; exact aw_iret e_Pb_why_53 rfl rfl hq)
          · refine aw_iconst (v := nI 1) e_Pb_why_35 (by decide) ?_
            refine aw_goto e_Pb_why_36 ?_
            refine aw_ist4 e_Pb_why_40 ?_
            refine aw_iload_n e_Pb_why_42 rfl ?_
            refine awN_if_ne e_Pb_why_43 (by omega) (fun h43 => ?_) (fun h43 => ?_)
            · have hg : inR x 2 ∧ inR y 12 := by unfold inR; omega
              obtain ⟨k, hk, rfl⟩ := inR_nI hg.1
              obtain ⟨o, ho, rfl⟩ := inR_nI hg.2
              refine aw_aload_n e_Pb_why_54 rfl ?_
              refine aw_getR e_Pb_why_55 fl_Pb_10 (hS.1 _ _ _ _ rfl) ?_
              refine aw_iload_n e_Pb_why_58 rfl ?_
              refine aw_iload_n e_Pb_why_59 rfl ?_
              refine aw_cV2 e_Pb_why_60 ml_Pb_227 mf_Ma_textFor mv_Ma_textFor (c_Ma_textFor hS (by decide) hC hW hk ho ?_)
              refine aw_ist5 e_Pb_why_63 ?_
              refine aw_iload e_Pb_why_65 rfl ?_
              refine aw_iconst (v := -1) e_Pb_why_67 (by decide) ?_
              refine aw_icmp_ne e_Pb_why_68 (fun h68 => ?_) (fun h68 => ?_)
              · refine aw_iload e_Pb_why_76 rfl ?_
                have hq := hQ _ _ _ hCS KM_0
                unfold op_why at hq
                first
                  | (rw [if_pos hg, ix_n (j := k) (by omega), ix_n (j := o) (by omega), orN_n h68] at hq; exact aw_iret e_Pb_why_78 rfl rfl hq)
                  | (rw [if_pos hg, ix_n (j := k) (by omega), ix_n (j := o) (by omega), orN_o (by omega) h68] at hq; exact aw_iret e_Pb_why_78 rfl rfl hq)
              · refine aw_ldc (v := -1000000005) e_Pb_why_71 kc_Pb_230 ?_
                refine aw_goto e_Pb_why_73 ?_
                have hq := hQ _ _ _ hCS KM_0
                unfold op_why at hq
                first
                  | (rw [if_pos hg, ix_n (j := k) (by omega), ix_n (j := o) (by omega), orN_n h68] at hq; exact aw_iret e_Pb_why_78 rfl rfl hq)
                  | (rw [if_pos hg, ix_n (j := k) (by omega), ix_n (j := o) (by omega), orN_o (by omega) h68] at hq; exact aw_iret e_Pb_why_78 rfl rfl hq)
            · refine aw_iload e_Pb_why_46 rfl ?_
              refine awN_if_ne e_Pb_why_48 (by omega) (fun h48 => ?_) (fun h48 => ?_)
              · have hg : inR x 2 ∧ inR y 12 := by unfold inR; omega
                obtain ⟨k, hk, rfl⟩ := inR_nI hg.1
                obtain ⟨o, ho, rfl⟩ := inR_nI hg.2
                refine aw_aload_n e_Pb_why_54 rfl ?_
                refine aw_getR e_Pb_why_55 fl_Pb_10 (hS.1 _ _ _ _ rfl) ?_
                refine aw_iload_n e_Pb_why_58 rfl ?_
                refine aw_iload_n e_Pb_why_59 rfl ?_
                refine aw_cV2 e_Pb_why_60 ml_Pb_227 mf_Ma_textFor mv_Ma_textFor (c_Ma_textFor hS (by decide) hC hW hk ho ?_)
                refine aw_ist5 e_Pb_why_63 ?_
                refine aw_iload e_Pb_why_65 rfl ?_
                refine aw_iconst (v := -1) e_Pb_why_67 (by decide) ?_
                refine aw_icmp_ne e_Pb_why_68 (fun h68 => ?_) (fun h68 => ?_)
                · refine aw_iload e_Pb_why_76 rfl ?_
                  have hq := hQ _ _ _ hCS KM_0
                  unfold op_why at hq
                  first
                    | (rw [if_pos hg, ix_n (j := k) (by omega), ix_n (j := o) (by omega), orN_n h68] at hq; exact aw_iret e_Pb_why_78 rfl rfl hq)
                    | (rw [if_pos hg, ix_n (j := k) (by omega), ix_n (j := o) (by omega), orN_o (by omega) h68] at hq; exact aw_iret e_Pb_why_78 rfl rfl hq)
                · refine aw_ldc (v := -1000000005) e_Pb_why_71 kc_Pb_230 ?_
                  refine aw_goto e_Pb_why_73 ?_
                  have hq := hQ _ _ _ hCS KM_0
                  unfold op_why at hq
                  first
                    | (rw [if_pos hg, ix_n (j := k) (by omega), ix_n (j := o) (by omega), orN_n h68] at hq; exact aw_iret e_Pb_why_78 rfl rfl hq)
                    | (rw [if_pos hg, ix_n (j := k) (by omega), ix_n (j := o) (by omega), orN_o (by omega) h68] at hq; exact aw_iret e_Pb_why_78 rfl rfl hq)
              · refine aw_ldc (v := -1000000001) e_Pb_why_51 kc_Pb_74 ?_
                have hq := hQ _ _ _ hCS KM_0
                unfold op_why at hq
                first
                  | (rw [if_neg (fun w => by have w1 := w.1.1; have w2 := w.1.2; have w3 := w.2.1; have w4 := w.2.2; omega)] at hq; exact aw_iret e_Pb_why_53 rfl rfl hq)
    · refine aw_iload_n e_Pb_why_8 rfl ?_
      refine aw_bipush (v := nI 12) e_Pb_why_9 (by decide) ?_
      refine awZ_icmp_ge e_Pb_why_11 (fun h11 => ?_) (fun h11 => ?_)
      · refine aw_iconst (v := nI 0) e_Pb_why_18 (by decide) ?_
        refine aw_ist3 e_Pb_why_19 ?_
        refine aw_iload_n e_Pb_why_20 rfl ?_
        refine aw_iconst (v := nI 1) e_Pb_why_21 (by decide) ?_
        refine awZ_icmp_ne e_Pb_why_22 (fun h22 => ?_) (fun h22 => ?_)
        · refine aw_iconst (v := nI 0) e_Pb_why_39 (by decide) ?_
          refine aw_ist4 e_Pb_why_40 ?_
          refine aw_iload_n e_Pb_why_42 rfl ?_
          refine awN_if_ne e_Pb_why_43 (by omega) (fun h43 => ?_) (fun h43 => ?_)
          · have hg : inR x 2 ∧ inR y 12 := by unfold inR; omega
            obtain ⟨k, hk, rfl⟩ := inR_nI hg.1
            obtain ⟨o, ho, rfl⟩ := inR_nI hg.2
            refine aw_aload_n e_Pb_why_54 rfl ?_
            refine aw_getR e_Pb_why_55 fl_Pb_10 (hS.1 _ _ _ _ rfl) ?_
            refine aw_iload_n e_Pb_why_58 rfl ?_
            refine aw_iload_n e_Pb_why_59 rfl ?_
            refine aw_cV2 e_Pb_why_60 ml_Pb_227 mf_Ma_textFor mv_Ma_textFor (c_Ma_textFor hS (by decide) hC hW hk ho ?_)
            refine aw_ist5 e_Pb_why_63 ?_
            refine aw_iload e_Pb_why_65 rfl ?_
            refine aw_iconst (v := -1) e_Pb_why_67 (by decide) ?_
            refine aw_icmp_ne e_Pb_why_68 (fun h68 => ?_) (fun h68 => ?_)
            · refine aw_iload e_Pb_why_76 rfl ?_
              have hq := hQ _ _ _ hCS KM_0
              unfold op_why at hq
              first
                | (rw [if_pos hg, ix_n (j := k) (by omega), ix_n (j := o) (by omega), orN_n h68] at hq; exact aw_iret e_Pb_why_78 rfl rfl hq)
                | (rw [if_pos hg, ix_n (j := k) (by omega), ix_n (j := o) (by omega), orN_o (by omega) h68] at hq; exact aw_iret e_Pb_why_78 rfl rfl hq)
            · refine aw_ldc (v := -1000000005) e_Pb_why_71 kc_Pb_230 ?_
              refine aw_goto e_Pb_why_73 ?_
              have hq := hQ _ _ _ hCS KM_0
              unfold op_why at hq
              first
                | (rw [if_pos hg, ix_n (j := k) (by omega), ix_n (j := o) (by omega), orN_n h68] at hq; exact aw_iret e_Pb_why_78 rfl rfl hq)
                | (rw [if_pos hg, ix_n (j := k) (by omega), ix_n (j := o) (by omega), orN_o (by omega) h68] at hq; exact aw_iret e_Pb_why_78 rfl rfl hq)
          · refine aw_iload e_Pb_why_46 rfl ?_
            refine awN_if_ne e_Pb_why_48 (by omega) (fun h48 => ?_) (fun h48 => ?_)
            · have hg : inR x 2 ∧ inR y 12 := by unfold inR; omega
              obtain ⟨k, hk, rfl⟩ := inR_nI hg.1
              obtain ⟨o, ho, rfl⟩ := inR_nI hg.2
              refine aw_aload_n e_Pb_why_54 rfl ?_
              refine aw_getR e_Pb_why_55 fl_Pb_10 (hS.1 _ _ _ _ rfl) ?_
              refine aw_iload_n e_Pb_why_58 rfl ?_
              refine aw_iload_n e_Pb_why_59 rfl ?_
              refine aw_cV2 e_Pb_why_60 ml_Pb_227 mf_Ma_textFor mv_Ma_textFor (c_Ma_textFor hS (by decide) hC hW hk ho ?_)
              refine aw_ist5 e_Pb_why_63 ?_
              refine aw_iload e_Pb_why_65 rfl ?_
              refine aw_iconst (v := -1) e_Pb_why_67 (by decide) ?_
              refine aw_icmp_ne e_Pb_why_68 (fun h68 => ?_) (fun h68 => ?_)
              · refine aw_iload e_Pb_why_76 rfl ?_
                have hq := hQ _ _ _ hCS KM_0
                unfold op_why at hq
                first
                  | (rw [if_pos hg, ix_n (j := k) (by omega), ix_n (j := o) (by omega), orN_n h68] at hq; exact aw_iret e_Pb_why_78 rfl rfl hq)
                  | (rw [if_pos hg, ix_n (j := k) (by omega), ix_n (j := o) (by omega), orN_o (by omega) h68] at hq; exact aw_iret e_Pb_why_78 rfl rfl hq)
              · refine aw_ldc (v := -1000000005) e_Pb_why_71 kc_Pb_230 ?_
                refine aw_goto e_Pb_why_73 ?_
                have hq := hQ _ _ _ hCS KM_0
                unfold op_why at hq
                first
                  | (rw [if_pos hg, ix_n (j := k) (by omega), ix_n (j := o) (by omega), orN_n h68] at hq; exact aw_iret e_Pb_why_78 rfl rfl hq)
                  | (rw [if_pos hg, ix_n (j := k) (by omega), ix_n (j := o) (by omega), orN_o (by omega) h68] at hq; exact aw_iret e_Pb_why_78 rfl rfl hq)
            · refine aw_ldc (v := -1000000001) e_Pb_why_51 kc_Pb_74 ?_
              have hq := hQ _ _ _ hCS KM_0
              unfold op_why at hq
              first
                | (rw [if_neg (fun w => by have w1 := w.1.1; have w2 := w.1.2; have w3 := w.2.1; have w4 := w.2.2; omega)] at hq; exact aw_iret e_Pb_why_53 rfl rfl hq)
        · refine aw_iload_n e_Pb_why_25 rfl ?_
          refine awZ_if_lt e_Pb_why_26 (fun h26 => ?_) (fun h26 => ?_)
          · refine aw_iconst (v := nI 0) e_Pb_why_39 (by decide) ?_
            refine aw_ist4 e_Pb_why_40 ?_
            refine aw_iload_n e_Pb_why_42 rfl ?_
            refine awN_if_ne e_Pb_why_43 (by omega) (fun h43 => ?_) (fun h43 => ?_)
            · have hg : inR x 2 ∧ inR y 12 := by unfold inR; omega
              obtain ⟨k, hk, rfl⟩ := inR_nI hg.1
              obtain ⟨o, ho, rfl⟩ := inR_nI hg.2
              refine aw_aload_n e_Pb_why_54 rfl ?_
              refine aw_getR e_Pb_why_55 fl_Pb_10 (hS.1 _ _ _ _ rfl) ?_
              refine aw_iload_n e_Pb_why_58 rfl ?_
              refine aw_iload_n e_Pb_why_59 rfl ?_
              refine aw_cV2 e_Pb_why_60 ml_Pb_227 mf_Ma_textFor mv_Ma_textFor (c_Ma_textFor hS (by decide) hC hW hk ho ?_)
              refine aw_ist5 e_Pb_why_63 ?_
              refine aw_iload e_Pb_why_65 rfl ?_
              refine aw_iconst (v := -1) e_Pb_why_67 (by decide) ?_
              refine aw_icmp_ne e_Pb_why_68 (fun h68 => ?_) (fun h68 => ?_)
              · refine aw_iload e_Pb_why_76 rfl ?_
                have hq := hQ _ _ _ hCS KM_0
                unfold op_why at hq
                first
                  | (rw [if_pos hg, ix_n (j := k) (by omega), ix_n (j := o) (by omega), orN_n h68] at hq; exact aw_iret e_Pb_why_78 rfl rfl hq)
                  | (rw [if_pos hg, ix_n (j := k) (by omega), ix_n (j := o) (by omega), orN_o (by omega) h68] at hq; exact aw_iret e_Pb_why_78 rfl rfl hq)
              · refine aw_ldc (v := -1000000005) e_Pb_why_71 kc_Pb_230 ?_
                refine aw_goto e_Pb_why_73 ?_
                have hq := hQ _ _ _ hCS KM_0
                unfold op_why at hq
                first
                  | (rw [if_pos hg, ix_n (j := k) (by omega), ix_n (j := o) (by omega), orN_n h68] at hq; exact aw_iret e_Pb_why_78 rfl rfl hq)
                  | (rw [if_pos hg, ix_n (j := k) (by omega), ix_n (j := o) (by omega), orN_o (by omega) h68] at hq; exact aw_iret e_Pb_why_78 rfl rfl hq)
            · refine aw_iload e_Pb_why_46 rfl ?_
              refine awN_if_ne e_Pb_why_48 (by omega) (fun h48 => ?_) (fun h48 => ?_)
              · have hg : inR x 2 ∧ inR y 12 := by unfold inR; omega
                obtain ⟨k, hk, rfl⟩ := inR_nI hg.1
                obtain ⟨o, ho, rfl⟩ := inR_nI hg.2
                refine aw_aload_n e_Pb_why_54 rfl ?_
                refine aw_getR e_Pb_why_55 fl_Pb_10 (hS.1 _ _ _ _ rfl) ?_
                refine aw_iload_n e_Pb_why_58 rfl ?_
                refine aw_iload_n e_Pb_why_59 rfl ?_
                refine aw_cV2 e_Pb_why_60 ml_Pb_227 mf_Ma_textFor mv_Ma_textFor (c_Ma_textFor hS (by decide) hC hW hk ho ?_)
                refine aw_ist5 e_Pb_why_63 ?_
                refine aw_iload e_Pb_why_65 rfl ?_
                refine aw_iconst (v := -1) e_Pb_why_67 (by decide) ?_
                refine aw_icmp_ne e_Pb_why_68 (fun h68 => ?_) (fun h68 => ?_)
                · refine aw_iload e_Pb_why_76 rfl ?_
                  have hq := hQ _ _ _ hCS KM_0
                  unfold op_why at hq
                  first
                    | (rw [if_pos hg, ix_n (j := k) (by omega), ix_n (j := o) (by omega), orN_n h68] at hq; exact aw_iret e_Pb_why_78 rfl rfl hq)
                    | (rw [if_pos hg, ix_n (j := k) (by omega), ix_n (j := o) (by omega), orN_o (by omega) h68] at hq; exact aw_iret e_Pb_why_78 rfl rfl hq)
                · refine aw_ldc (v := -1000000005) e_Pb_why_71 kc_Pb_230 ?_
                  refine aw_goto e_Pb_why_73 ?_
                  have hq := hQ _ _ _ hCS KM_0
                  unfold op_why at hq
                  first
                    | (rw [if_pos hg, ix_n (j := k) (by omega), ix_n (j := o) (by omega), orN_n h68] at hq; exact aw_iret e_Pb_why_78 rfl rfl hq)
                    | (rw [if_pos hg, ix_n (j := k) (by omega), ix_n (j := o) (by omega), orN_o (by omega) h68] at hq; exact aw_iret e_Pb_why_78 rfl rfl hq)
              · refine aw_ldc (v := -1000000001) e_Pb_why_51 kc_Pb_74 ?_
                have hq := hQ _ _ _ hCS KM_0
                unfold op_why at hq
                first
                  | (rw [if_neg (fun w => by have w1 := w.1.1; have w2 := w.1.2; have w3 := w.2.1; have w4 := w.2.2; omega)] at hq; exact aw_iret e_Pb_why_53 rfl rfl hq)
          · refine aw_iload_n e_Pb_why_29 rfl ?_
            refine aw_bipush (v := nI 12) e_Pb_why_30 (by decide) ?_
            refine awZ_icmp_ge e_Pb_why_32 (fun h32 => ?_) (fun h32 => ?_)
            · refine aw_iconst (v := nI 0) e_Pb_why_39 (by decide) ?_
              refine aw_ist4 e_Pb_why_40 ?_
              refine aw_iload_n e_Pb_why_42 rfl ?_
              refine awN_if_ne e_Pb_why_43 (by omega) (fun h43 => ?_) (fun h43 => ?_)
              · have hg : inR x 2 ∧ inR y 12 := by unfold inR; omega
                obtain ⟨k, hk, rfl⟩ := inR_nI hg.1
                obtain ⟨o, ho, rfl⟩ := inR_nI hg.2
                refine aw_aload_n e_Pb_why_54 rfl ?_
                refine aw_getR e_Pb_why_55 fl_Pb_10 (hS.1 _ _ _ _ rfl) ?_
                refine aw_iload_n e_Pb_why_58 rfl ?_
                refine aw_iload_n e_Pb_why_59 rfl ?_
                refine aw_cV2 e_Pb_why_60 ml_Pb_227 mf_Ma_textFor mv_Ma_textFor (c_Ma_textFor hS (by decide) hC hW hk ho ?_)
                refine aw_ist5 e_Pb_why_63 ?_
                refine aw_iload e_Pb_why_65 rfl ?_
                refine aw_iconst (v := -1) e_Pb_why_67 (by decide) ?_
                refine aw_icmp_ne e_Pb_why_68 (fun h68 => ?_) (fun h68 => ?_)
                · refine aw_iload e_Pb_why_76 rfl ?_
                  have hq := hQ _ _ _ hCS KM_0
                  unfold op_why at hq
                  first
                    | (rw [if_pos hg, ix_n (j := k) (by omega), ix_n (j := o) (by omega), orN_n h68] at hq; exact aw_iret e_Pb_why_78 rfl rfl hq)
                    | (rw [if_pos hg, ix_n (j := k) (by omega), ix_n (j := o) (by omega), orN_o (by omega) h68] at hq; exact aw_iret e_Pb_why_78 rfl rfl hq)
                · refine aw_ldc (v := -1000000005) e_Pb_why_71 kc_Pb_230 ?_
                  refine aw_goto e_Pb_why_73 ?_
                  have hq := hQ _ _ _ hCS KM_0
                  unfold op_why at hq
                  first
                    | (rw [if_pos hg, ix_n (j := k) (by omega), ix_n (j := o) (by omega), orN_n h68] at hq; exact aw_iret e_Pb_why_78 rfl rfl hq)
                    | (rw [if_pos hg, ix_n (j := k) (by omega), ix_n (j := o) (by omega), orN_o (by omega) h68] at hq; exact aw_iret e_Pb_why_78 rfl rfl hq)
              · refine aw_iload e_Pb_why_46 rfl ?_
                refine awN_if_ne e_Pb_why_48 (by omega) (fun h48 => ?_) (fun h48 => ?_)
                · have hg : inR x 2 ∧ inR y 12 := by unfold inR; omega
                  obtain ⟨k, hk, rfl⟩ := inR_nI hg.1
                  obtain ⟨o, ho, rfl⟩ := inR_nI hg.2
                  refine aw_aload_n e_Pb_why_54 rfl ?_
                  refine aw_getR e_Pb_why_55 fl_Pb_10 (hS.1 _ _ _ _ rfl) ?_
                  refine aw_iload_n e_Pb_why_58 rfl ?_
                  refine aw_iload_n e_Pb_why_59 rfl ?_
                  refine aw_cV2 e_Pb_why_60 ml_Pb_227 mf_Ma_textFor mv_Ma_textFor (c_Ma_textFor hS (by decide) hC hW hk ho ?_)
                  refine aw_ist5 e_Pb_why_63 ?_
                  refine aw_iload e_Pb_why_65 rfl ?_
                  refine aw_iconst (v := -1) e_Pb_why_67 (by decide) ?_
                  refine aw_icmp_ne e_Pb_why_68 (fun h68 => ?_) (fun h68 => ?_)
                  · refine aw_iload e_Pb_why_76 rfl ?_
                    have hq := hQ _ _ _ hCS KM_0
                    unfold op_why at hq
                    first
                      | (rw [if_pos hg, ix_n (j := k) (by omega), ix_n (j := o) (by omega), orN_n h68] at hq; exact aw_iret e_Pb_why_78 rfl rfl hq)
                      | (rw [if_pos hg, ix_n (j := k) (by omega), ix_n (j := o) (by omega), orN_o (by omega) h68] at hq; exact aw_iret e_Pb_why_78 rfl rfl hq)
                  · refine aw_ldc (v := -1000000005) e_Pb_why_71 kc_Pb_230 ?_
                    refine aw_goto e_Pb_why_73 ?_
                    have hq := hQ _ _ _ hCS KM_0
                    unfold op_why at hq
                    first
                      | (rw [if_pos hg, ix_n (j := k) (by omega), ix_n (j := o) (by omega), orN_n h68] at hq; exact aw_iret e_Pb_why_78 rfl rfl hq)
                      | (rw [if_pos hg, ix_n (j := k) (by omega), ix_n (j := o) (by omega), orN_o (by omega) h68] at hq; exact aw_iret e_Pb_why_78 rfl rfl hq)
                · refine aw_ldc (v := -1000000001) e_Pb_why_51 kc_Pb_74 ?_
                  have hq := hQ _ _ _ hCS KM_0
                  unfold op_why at hq
                  first
                    | (rw [if_neg (fun w => by have w1 := w.1.1; have w2 := w.1.2; have w3 := w.2.1; have w4 := w.2.2; omega)] at hq; exact aw_iret e_Pb_why_53 rfl rfl hq)
            · refine aw_iconst (v := nI 1) e_Pb_why_35 (by decide) ?_
              refine aw_goto e_Pb_why_36 ?_
              refine aw_ist4 e_Pb_why_40 ?_
              refine aw_iload_n e_Pb_why_42 rfl ?_
              refine awN_if_ne e_Pb_why_43 (by omega) (fun h43 => ?_) (fun h43 => ?_)
              · have hg : inR x 2 ∧ inR y 12 := by unfold inR; omega
                obtain ⟨k, hk, rfl⟩ := inR_nI hg.1
                obtain ⟨o, ho, rfl⟩ := inR_nI hg.2
                refine aw_aload_n e_Pb_why_54 rfl ?_
                refine aw_getR e_Pb_why_55 fl_Pb_10 (hS.1 _ _ _ _ rfl) ?_
                refine aw_iload_n e_Pb_why_58 rfl ?_
                refine aw_iload_n e_Pb_why_59 rfl ?_
                refine aw_cV2 e_Pb_why_60 ml_Pb_227 mf_Ma_textFor mv_Ma_textFor (c_Ma_textFor hS (by decide) hC hW hk ho ?_)
                refine aw_ist5 e_Pb_why_63 ?_
                refine aw_iload e_Pb_why_65 rfl ?_
                refine aw_iconst (v := -1) e_Pb_why_67 (by decide) ?_
                refine aw_icmp_ne e_Pb_why_68 (fun h68 => ?_) (fun h68 => ?_)
                · refine aw_iload e_Pb_why_76 rfl ?_
                  have hq := hQ _ _ _ hCS KM_0
                  unfold op_why at hq
                  first
                    | (rw [if_pos hg, ix_n (j := k) (by omega), ix_n (j := o) (by omega), orN_n h68] at hq; exact aw_iret e_Pb_why_78 rfl rfl hq)
                    | (rw [if_pos hg, ix_n (j := k) (by omega), ix_n (j := o) (by omega), orN_o (by omega) h68] at hq; exact aw_iret e_Pb_why_78 rfl rfl hq)
                · refine aw_ldc (v := -1000000005) e_Pb_why_71 kc_Pb_230 ?_
                  refine aw_goto e_Pb_why_73 ?_
                  have hq := hQ _ _ _ hCS KM_0
                  unfold op_why at hq
                  first
                    | (rw [if_pos hg, ix_n (j := k) (by omega), ix_n (j := o) (by omega), orN_n h68] at hq; exact aw_iret e_Pb_why_78 rfl rfl hq)
                    | (rw [if_pos hg, ix_n (j := k) (by omega), ix_n (j := o) (by omega), orN_o (by omega) h68] at hq; exact aw_iret e_Pb_why_78 rfl rfl hq)
              · refine aw_iload e_Pb_why_46 rfl ?_
                refine awN_if_ne e_Pb_why_48 (by omega) (fun h48 => ?_) (fun h48 => ?_)
                · have hg : inR x 2 ∧ inR y 12 := by unfold inR; omega
                  obtain ⟨k, hk, rfl⟩ := inR_nI hg.1
                  obtain ⟨o, ho, rfl⟩ := inR_nI hg.2
                  refine aw_aload_n e_Pb_why_54 rfl ?_
                  refine aw_getR e_Pb_why_55 fl_Pb_10 (hS.1 _ _ _ _ rfl) ?_
                  refine aw_iload_n e_Pb_why_58 rfl ?_
                  refine aw_iload_n e_Pb_why_59 rfl ?_
                  refine aw_cV2 e_Pb_why_60 ml_Pb_227 mf_Ma_textFor mv_Ma_textFor (c_Ma_textFor hS (by decide) hC hW hk ho ?_)
                  refine aw_ist5 e_Pb_why_63 ?_
                  refine aw_iload e_Pb_why_65 rfl ?_
                  refine aw_iconst (v := -1) e_Pb_why_67 (by decide) ?_
                  refine aw_icmp_ne e_Pb_why_68 (fun h68 => ?_) (fun h68 => ?_)
                  · refine aw_iload e_Pb_why_76 rfl ?_
                    have hq := hQ _ _ _ hCS KM_0
                    unfold op_why at hq
                    first
                      | (rw [if_pos hg, ix_n (j := k) (by omega), ix_n (j := o) (by omega), orN_n h68] at hq; exact aw_iret e_Pb_why_78 rfl rfl hq)
                      | (rw [if_pos hg, ix_n (j := k) (by omega), ix_n (j := o) (by omega), orN_o (by omega) h68] at hq; exact aw_iret e_Pb_why_78 rfl rfl hq)
                  · refine aw_ldc (v := -1000000005) e_Pb_why_71 kc_Pb_230 ?_
                    refine aw_goto e_Pb_why_73 ?_
                    have hq := hQ _ _ _ hCS KM_0
                    unfold op_why at hq
                    first
                      | (rw [if_pos hg, ix_n (j := k) (by omega), ix_n (j := o) (by omega), orN_n h68] at hq; exact aw_iret e_Pb_why_78 rfl rfl hq)
                      | (rw [if_pos hg, ix_n (j := k) (by omega), ix_n (j := o) (by omega), orN_o (by omega) h68] at hq; exact aw_iret e_Pb_why_78 rfl rfl hq)
                · refine aw_ldc (v := -1000000001) e_Pb_why_51 kc_Pb_74 ?_
                  have hq := hQ _ _ _ hCS KM_0
                  unfold op_why at hq
                  first
                    | (rw [if_neg (fun w => by have w1 := w.1.1; have w2 := w.1.2; have w3 := w.2.1; have w4 := w.2.2; omega)] at hq; exact aw_iret e_Pb_why_53 rfl rfl hq)
      · refine aw_iconst (v := nI 1) e_Pb_why_14 (by decide) ?_
        refine aw_goto e_Pb_why_15 ?_
        refine aw_ist3 e_Pb_why_19 ?_
        refine aw_iload_n e_Pb_why_20 rfl ?_
        refine aw_iconst (v := nI 1) e_Pb_why_21 (by decide) ?_
        refine awZ_icmp_ne e_Pb_why_22 (fun h22 => ?_) (fun h22 => ?_)
        · refine aw_iconst (v := nI 0) e_Pb_why_39 (by decide) ?_
          refine aw_ist4 e_Pb_why_40 ?_
          refine aw_iload_n e_Pb_why_42 rfl ?_
          refine awN_if_ne e_Pb_why_43 (by omega) (fun h43 => ?_) (fun h43 => ?_)
          · have hg : inR x 2 ∧ inR y 12 := by unfold inR; omega
            obtain ⟨k, hk, rfl⟩ := inR_nI hg.1
            obtain ⟨o, ho, rfl⟩ := inR_nI hg.2
            refine aw_aload_n e_Pb_why_54 rfl ?_
            refine aw_getR e_Pb_why_55 fl_Pb_10 (hS.1 _ _ _ _ rfl) ?_
            refine aw_iload_n e_Pb_why_58 rfl ?_
            refine aw_iload_n e_Pb_why_59 rfl ?_
            refine aw_cV2 e_Pb_why_60 ml_Pb_227 mf_Ma_textFor mv_Ma_textFor (c_Ma_textFor hS (by decide) hC hW hk ho ?_)
            refine aw_ist5 e_Pb_why_63 ?_
            refine aw_iload e_Pb_why_65 rfl ?_
            refine aw_iconst (v := -1) e_Pb_why_67 (by decide) ?_
            refine aw_icmp_ne e_Pb_why_68 (fun h68 => ?_) (fun h68 => ?_)
            · refine aw_iload e_Pb_why_76 rfl ?_
              have hq := hQ _ _ _ hCS KM_0
              unfold op_why at hq
              first
                | (rw [if_pos hg, ix_n (j := k) (by omega), ix_n (j := o) (by omega), orN_n h68] at hq; exact aw_iret e_Pb_why_78 rfl rfl hq)
                | (rw [if_pos hg, ix_n (j := k) (by omega), ix_n (j := o) (by omega), orN_o (by omega) h68] at hq; exact aw_iret e_Pb_why_78 rfl rfl hq)
            · refine aw_ldc (v := -1000000005) e_Pb_why_71 kc_Pb_230 ?_
              refine aw_goto e_Pb_why_73 ?_
              have hq := hQ _ _ _ hCS KM_0
              unfold op_why at hq
              first
                | (rw [if_pos hg, ix_n (j := k) (by omega), ix_n (j := o) (by omega), orN_n h68] at hq; exact aw_iret e_Pb_why_78 rfl rfl hq)
                | (rw [if_pos hg, ix_n (j := k) (by omega), ix_n (j := o) (by omega), orN_o (by omega) h68] at hq; exact aw_iret e_Pb_why_78 rfl rfl hq)
          · refine aw_iload e_Pb_why_46 rfl ?_
            refine awN_if_ne e_Pb_why_48 (by omega) (fun h48 => ?_) (fun h48 => ?_)
            · have hg : inR x 2 ∧ inR y 12 := by unfold inR; omega
              obtain ⟨k, hk, rfl⟩ := inR_nI hg.1
              obtain ⟨o, ho, rfl⟩ := inR_nI hg.2
              refine aw_aload_n e_Pb_why_54 rfl ?_
              refine aw_getR e_Pb_why_55 fl_Pb_10 (hS.1 _ _ _ _ rfl) ?_
              refine aw_iload_n e_Pb_why_58 rfl ?_
              refine aw_iload_n e_Pb_why_59 rfl ?_
              refine aw_cV2 e_Pb_why_60 ml_Pb_227 mf_Ma_textFor mv_Ma_textFor (c_Ma_textFor hS (by decide) hC hW hk ho ?_)
              refine aw_ist5 e_Pb_why_63 ?_
              refine aw_iload e_Pb_why_65 rfl ?_
              refine aw_iconst (v := -1) e_Pb_why_67 (by decide) ?_
              refine aw_icmp_ne e_Pb_why_68 (fun h68 => ?_) (fun h68 => ?_)
              · refine aw_iload e_Pb_why_76 rfl ?_
                have hq := hQ _ _ _ hCS KM_0
                unfold op_why at hq
                first
                  | (rw [if_pos hg, ix_n (j := k) (by omega), ix_n (j := o) (by omega), orN_n h68] at hq; exact aw_iret e_Pb_why_78 rfl rfl hq)
                  | (rw [if_pos hg, ix_n (j := k) (by omega), ix_n (j := o) (by omega), orN_o (by omega) h68] at hq; exact aw_iret e_Pb_why_78 rfl rfl hq)
              · refine aw_ldc (v := -1000000005) e_Pb_why_71 kc_Pb_230 ?_
                refine aw_goto e_Pb_why_73 ?_
                have hq := hQ _ _ _ hCS KM_0
                unfold op_why at hq
                first
                  | (rw [if_pos hg, ix_n (j := k) (by omega), ix_n (j := o) (by omega), orN_n h68] at hq; exact aw_iret e_Pb_why_78 rfl rfl hq)
                  | (rw [if_pos hg, ix_n (j := k) (by omega), ix_n (j := o) (by omega), orN_o (by omega) h68] at hq; exact aw_iret e_Pb_why_78 rfl rfl hq)
            · refine aw_ldc (v := -1000000001) e_Pb_why_51 kc_Pb_74 ?_
              have hq := hQ _ _ _ hCS KM_0
              unfold op_why at hq
              first
                | (rw [if_neg (fun w => by have w1 := w.1.1; have w2 := w.1.2; have w3 := w.2.1; have w4 := w.2.2; omega)] at hq; exact aw_iret e_Pb_why_53 rfl rfl hq)
        · refine aw_iload_n e_Pb_why_25 rfl ?_
          refine awZ_if_lt e_Pb_why_26 (fun h26 => ?_) (fun h26 => ?_)
          · refine aw_iconst (v := nI 0) e_Pb_why_39 (by decide) ?_
            refine aw_ist4 e_Pb_why_40 ?_
            refine aw_iload_n e_Pb_why_42 rfl ?_
            refine awN_if_ne e_Pb_why_43 (by omega) (fun h43 => ?_) (fun h43 => ?_)
            · have hg : inR x 2 ∧ inR y 12 := by unfold inR; omega
              obtain ⟨k, hk, rfl⟩ := inR_nI hg.1
              obtain ⟨o, ho, rfl⟩ := inR_nI hg.2
              refine aw_aload_n e_Pb_why_54 rfl ?_
              refine aw_getR e_Pb_why_55 fl_Pb_10 (hS.1 _ _ _ _ rfl) ?_
              refine aw_iload_n e_Pb_why_58 rfl ?_
              refine aw_iload_n e_Pb_why_59 rfl ?_
              refine aw_cV2 e_Pb_why_60 ml_Pb_227 mf_Ma_textFor mv_Ma_textFor (c_Ma_textFor hS (by decide) hC hW hk ho ?_)
              refine aw_ist5 e_Pb_why_63 ?_
              refine aw_iload e_Pb_why_65 rfl ?_
              refine aw_iconst (v := -1) e_Pb_why_67 (by decide) ?_
              refine aw_icmp_ne e_Pb_why_68 (fun h68 => ?_) (fun h68 => ?_)
              · refine aw_iload e_Pb_why_76 rfl ?_
                have hq := hQ _ _ _ hCS KM_0
                unfold op_why at hq
                first
                  | (rw [if_pos hg, ix_n (j := k) (by omega), ix_n (j := o) (by omega), orN_n h68] at hq; exact aw_iret e_Pb_why_78 rfl rfl hq)
                  | (rw [if_pos hg, ix_n (j := k) (by omega), ix_n (j := o) (by omega), orN_o (by omega) h68] at hq; exact aw_iret e_Pb_why_78 rfl rfl hq)
              · refine aw_ldc (v := -1000000005) e_Pb_why_71 kc_Pb_230 ?_
                refine aw_goto e_Pb_why_73 ?_
                have hq := hQ _ _ _ hCS KM_0
                unfold op_why at hq
                first
                  | (rw [if_pos hg, ix_n (j := k) (by omega), ix_n (j := o) (by omega), orN_n h68] at hq; exact aw_iret e_Pb_why_78 rfl rfl hq)
                  | (rw [if_pos hg, ix_n (j := k) (by omega), ix_n (j := o) (by omega), orN_o (by omega) h68] at hq; exact aw_iret e_Pb_why_78 rfl rfl hq)
            · refine aw_iload e_Pb_why_46 rfl ?_
              refine awN_if_ne e_Pb_why_48 (by omega) (fun h48 => ?_) (fun h48 => ?_)
              · have hg : inR x 2 ∧ inR y 12 := by unfold inR; omega
                obtain ⟨k, hk, rfl⟩ := inR_nI hg.1
                obtain ⟨o, ho, rfl⟩ := inR_nI hg.2
                refine aw_aload_n e_Pb_why_54 rfl ?_
                refine aw_getR e_Pb_why_55 fl_Pb_10 (hS.1 _ _ _ _ rfl) ?_
                refine aw_iload_n e_Pb_why_58 rfl ?_
                refine aw_iload_n e_Pb_why_59 rfl ?_
                refine aw_cV2 e_Pb_why_60 ml_Pb_227 mf_Ma_textFor mv_Ma_textFor (c_Ma_textFor hS (by decide) hC hW hk ho ?_)
                refine aw_ist5 e_Pb_why_63 ?_
                refine aw_iload e_Pb_why_65 rfl ?_
                refine aw_iconst (v := -1) e_Pb_why_67 (by decide) ?_
                refine aw_icmp_ne e_Pb_why_68 (fun h68 => ?_) (fun h68 => ?_)
                · refine aw_iload e_Pb_why_76 rfl ?_
                  have hq := hQ _ _ _ hCS KM_0
                  unfold op_why at hq
                  first
                    | (rw [if_pos hg, ix_n (j := k) (by omega), ix_n (j := o) (by omega), orN_n h68] at hq; exact aw_iret e_Pb_why_78 rfl rfl hq)
                    | (rw [if_pos hg, ix_n (j := k) (by omega), ix_n (j := o) (by omega), orN_o (by omega) h68] at hq; exact aw_iret e_Pb_why_78 rfl rfl hq)
                · refine aw_ldc (v := -1000000005) e_Pb_why_71 kc_Pb_230 ?_
                  refine aw_goto e_Pb_why_73 ?_
                  have hq := hQ _ _ _ hCS KM_0
                  unfold op_why at hq
                  first
                    | (rw [if_pos hg, ix_n (j := k) (by omega), ix_n (j := o) (by omega), orN_n h68] at hq; exact aw_iret e_Pb_why_78 rfl rfl hq)
                    | (rw [if_pos hg, ix_n (j := k) (by omega), ix_n (j := o) (by omega), orN_o (by omega) h68] at hq; exact aw_iret e_Pb_why_78 rfl rfl hq)
              · refine aw_ldc (v := -1000000001) e_Pb_why_51 kc_Pb_74 ?_
                have hq := hQ _ _ _ hCS KM_0
                unfold op_why at hq
                first
                  | (rw [if_neg (fun w => by have w1 := w.1.1; have w2 := w.1.2; have w3 := w.2.1; have w4 := w.2.2; omega)] at hq; exact aw_iret e_Pb_why_53 rfl rfl hq)
          · refine aw_iload_n e_Pb_why_29 rfl ?_
            refine aw_bipush (v := nI 12) e_Pb_why_30 (by decide) ?_
            refine awZ_icmp_ge e_Pb_why_32 (fun h32 => ?_) (fun h32 => ?_)
            · refine aw_iconst (v := nI 0) e_Pb_why_39 (by decide) ?_
              refine aw_ist4 e_Pb_why_40 ?_
              refine aw_iload_n e_Pb_why_42 rfl ?_
              refine awN_if_ne e_Pb_why_43 (by omega) (fun h43 => ?_) (fun h43 => ?_)
              · have hg : inR x 2 ∧ inR y 12 := by unfold inR; omega
                obtain ⟨k, hk, rfl⟩ := inR_nI hg.1
                obtain ⟨o, ho, rfl⟩ := inR_nI hg.2
                refine aw_aload_n e_Pb_why_54 rfl ?_
                refine aw_getR e_Pb_why_55 fl_Pb_10 (hS.1 _ _ _ _ rfl) ?_
                refine aw_iload_n e_Pb_why_58 rfl ?_
                refine aw_iload_n e_Pb_why_59 rfl ?_
                refine aw_cV2 e_Pb_why_60 ml_Pb_227 mf_Ma_textFor mv_Ma_textFor (c_Ma_textFor hS (by decide) hC hW hk ho ?_)
                refine aw_ist5 e_Pb_why_63 ?_
                refine aw_iload e_Pb_why_65 rfl ?_
                refine aw_iconst (v := -1) e_Pb_why_67 (by decide) ?_
                refine aw_icmp_ne e_Pb_why_68 (fun h68 => ?_) (fun h68 => ?_)
                · refine aw_iload e_Pb_why_76 rfl ?_
                  have hq := hQ _ _ _ hCS KM_0
                  unfold op_why at hq
                  first
                    | (rw [if_pos hg, ix_n (j := k) (by omega), ix_n (j := o) (by omega), orN_n h68] at hq; exact aw_iret e_Pb_why_78 rfl rfl hq)
                    | (rw [if_pos hg, ix_n (j := k) (by omega), ix_n (j := o) (by omega), orN_o (by omega) h68] at hq; exact aw_iret e_Pb_why_78 rfl rfl hq)
                · refine aw_ldc (v := -1000000005) e_Pb_why_71 kc_Pb_230 ?_
                  refine aw_goto e_Pb_why_73 ?_
                  have hq := hQ _ _ _ hCS KM_0
                  unfold op_why at hq
                  first
                    | (rw [if_pos hg, ix_n (j := k) (by omega), ix_n (j := o) (by omega), orN_n h68] at hq; exact aw_iret e_Pb_why_78 rfl rfl hq)
                    | (rw [if_pos hg, ix_n (j := k) (by omega), ix_n (j := o) (by omega), orN_o (by omega) h68] at hq; exact aw_iret e_Pb_why_78 rfl rfl hq)
              · refine aw_iload e_Pb_why_46 rfl ?_
                refine awN_if_ne e_Pb_why_48 (by omega) (fun h48 => ?_) (fun h48 => ?_)
                · have hg : inR x 2 ∧ inR y 12 := by unfold inR; omega
                  obtain ⟨k, hk, rfl⟩ := inR_nI hg.1
                  obtain ⟨o, ho, rfl⟩ := inR_nI hg.2
                  refine aw_aload_n e_Pb_why_54 rfl ?_
                  refine aw_getR e_Pb_why_55 fl_Pb_10 (hS.1 _ _ _ _ rfl) ?_
                  refine aw_iload_n e_Pb_why_58 rfl ?_
                  refine aw_iload_n e_Pb_why_59 rfl ?_
                  refine aw_cV2 e_Pb_why_60 ml_Pb_227 mf_Ma_textFor mv_Ma_textFor (c_Ma_textFor hS (by decide) hC hW hk ho ?_)
                  refine aw_ist5 e_Pb_why_63 ?_
                  refine aw_iload e_Pb_why_65 rfl ?_
                  refine aw_iconst (v := -1) e_Pb_why_67 (by decide) ?_
                  refine aw_icmp_ne e_Pb_why_68 (fun h68 => ?_) (fun h68 => ?_)
                  · refine aw_iload e_Pb_why_76 rfl ?_
                    have hq := hQ _ _ _ hCS KM_0
                    unfold op_why at hq
                    first
                      | (rw [if_pos hg, ix_n (j := k) (by omega), ix_n (j := o) (by omega), orN_n h68] at hq; exact aw_iret e_Pb_why_78 rfl rfl hq)
                      | (rw [if_pos hg, ix_n (j := k) (by omega), ix_n (j := o) (by omega), orN_o (by omega) h68] at hq; exact aw_iret e_Pb_why_78 rfl rfl hq)
                  · refine aw_ldc (v := -1000000005) e_Pb_why_71 kc_Pb_230 ?_
                    refine aw_goto e_Pb_why_73 ?_
                    have hq := hQ _ _ _ hCS KM_0
                    unfold op_why at hq
                    first
                      | (rw [if_pos hg, ix_n (j := k) (by omega), ix_n (j := o) (by omega), orN_n h68] at hq; exact aw_iret e_Pb_why_78 rfl rfl hq)
                      | (rw [if_pos hg, ix_n (j := k) (by omega), ix_n (j := o) (by omega), orN_o (by omega) h68] at hq; exact aw_iret e_Pb_why_78 rfl rfl hq)
                · refine aw_ldc (v := -1000000001) e_Pb_why_51 kc_Pb_74 ?_
                  have hq := hQ _ _ _ hCS KM_0
                  unfold op_why at hq
                  first
                    | (rw [if_neg (fun w => by have w1 := w.1.1; have w2 := w.1.2; have w3 := w.2.1; have w4 := w.2.2; omega)] at hq; exact aw_iret e_Pb_why_53 rfl rfl hq)
            · refine aw_iconst (v := nI 1) e_Pb_why_35 (by decide) ?_
              refine aw_goto e_Pb_why_36 ?_
              refine aw_ist4 e_Pb_why_40 ?_
              refine aw_iload_n e_Pb_why_42 rfl ?_
              refine awN_if_ne e_Pb_why_43 (by omega) (fun h43 => ?_) (fun h43 => ?_)
              · have hg : inR x 2 ∧ inR y 12 := by unfold inR; omega
                obtain ⟨k, hk, rfl⟩ := inR_nI hg.1
                obtain ⟨o, ho, rfl⟩ := inR_nI hg.2
                refine aw_aload_n e_Pb_why_54 rfl ?_
                refine aw_getR e_Pb_why_55 fl_Pb_10 (hS.1 _ _ _ _ rfl) ?_
                refine aw_iload_n e_Pb_why_58 rfl ?_
                refine aw_iload_n e_Pb_why_59 rfl ?_
                refine aw_cV2 e_Pb_why_60 ml_Pb_227 mf_Ma_textFor mv_Ma_textFor (c_Ma_textFor hS (by decide) hC hW hk ho ?_)
                refine aw_ist5 e_Pb_why_63 ?_
                refine aw_iload e_Pb_why_65 rfl ?_
                refine aw_iconst (v := -1) e_Pb_why_67 (by decide) ?_
                refine aw_icmp_ne e_Pb_why_68 (fun h68 => ?_) (fun h68 => ?_)
                · refine aw_iload e_Pb_why_76 rfl ?_
                  have hq := hQ _ _ _ hCS KM_0
                  unfold op_why at hq
                  first
                    | (rw [if_pos hg, ix_n (j := k) (by omega), ix_n (j := o) (by omega), orN_n h68] at hq; exact aw_iret e_Pb_why_78 rfl rfl hq)
                    | (rw [if_pos hg, ix_n (j := k) (by omega), ix_n (j := o) (by omega), orN_o (by omega) h68] at hq; exact aw_iret e_Pb_why_78 rfl rfl hq)
                · refine aw_ldc (v := -1000000005) e_Pb_why_71 kc_Pb_230 ?_
                  refine aw_goto e_Pb_why_73 ?_
                  have hq := hQ _ _ _ hCS KM_0
                  unfold op_why at hq
                  first
                    | (rw [if_pos hg, ix_n (j := k) (by omega), ix_n (j := o) (by omega), orN_n h68] at hq; exact aw_iret e_Pb_why_78 rfl rfl hq)
                    | (rw [if_pos hg, ix_n (j := k) (by omega), ix_n (j := o) (by omega), orN_o (by omega) h68] at hq; exact aw_iret e_Pb_why_78 rfl rfl hq)
              · refine aw_iload e_Pb_why_46 rfl ?_
                refine awN_if_ne e_Pb_why_48 (by omega) (fun h48 => ?_) (fun h48 => ?_)
                · have hg : inR x 2 ∧ inR y 12 := by unfold inR; omega
                  obtain ⟨k, hk, rfl⟩ := inR_nI hg.1
                  obtain ⟨o, ho, rfl⟩ := inR_nI hg.2
                  refine aw_aload_n e_Pb_why_54 rfl ?_
                  refine aw_getR e_Pb_why_55 fl_Pb_10 (hS.1 _ _ _ _ rfl) ?_
                  refine aw_iload_n e_Pb_why_58 rfl ?_
                  refine aw_iload_n e_Pb_why_59 rfl ?_
                  refine aw_cV2 e_Pb_why_60 ml_Pb_227 mf_Ma_textFor mv_Ma_textFor (c_Ma_textFor hS (by decide) hC hW hk ho ?_)
                  refine aw_ist5 e_Pb_why_63 ?_
                  refine aw_iload e_Pb_why_65 rfl ?_
                  refine aw_iconst (v := -1) e_Pb_why_67 (by decide) ?_
                  refine aw_icmp_ne e_Pb_why_68 (fun h68 => ?_) (fun h68 => ?_)
                  · refine aw_iload e_Pb_why_76 rfl ?_
                    have hq := hQ _ _ _ hCS KM_0
                    unfold op_why at hq
                    first
                      | (rw [if_pos hg, ix_n (j := k) (by omega), ix_n (j := o) (by omega), orN_n h68] at hq; exact aw_iret e_Pb_why_78 rfl rfl hq)
                      | (rw [if_pos hg, ix_n (j := k) (by omega), ix_n (j := o) (by omega), orN_o (by omega) h68] at hq; exact aw_iret e_Pb_why_78 rfl rfl hq)
                  · refine aw_ldc (v := -1000000005) e_Pb_why_71 kc_Pb_230 ?_
                    refine aw_goto e_Pb_why_73 ?_
                    have hq := hQ _ _ _ hCS KM_0
                    unfold op_why at hq
                    first
                      | (rw [if_pos hg, ix_n (j := k) (by omega), ix_n (j := o) (by omega), orN_n h68] at hq; exact aw_iret e_Pb_why_78 rfl rfl hq)
                      | (rw [if_pos hg, ix_n (j := k) (by omega), ix_n (j := o) (by omega), orN_o (by omega) h68] at hq; exact aw_iret e_Pb_why_78 rfl rfl hq)
                · refine aw_ldc (v := -1000000001) e_Pb_why_51 kc_Pb_74 ?_
                  have hq := hQ _ _ _ hCS KM_0
                  unfold op_why at hq
                  first
                    | (rw [if_neg (fun w => by have w1 := w.1.1; have w2 := w.1.2; have w3 := w.2.1; have w4 := w.2.2; omega)] at hq; exact aw_iret e_Pb_why_53 rfl rfl hq)
theorem c_Pb_textTold {l : Launch} {E : En} {d : Nat} {I : It} {L : Lt} {R : Rt} {Z : Zt} {Q : Qt} {S : AS} (hCS : CS I R Z S) {x y : Int32} (hQ : ∀ I2 L2 R2, CS I2 R2 Z (op_textTold S x y).1 → KM I L R I2 L2 R2 → Q (some (vi (op_textTold S x y).2)) I2 L2 R2 Z) : AMet l E d M_Pb_textTold [vr 8 0, vi x, vi y] I L R Z Q := by
  have hS := hCS.1
  have hC := hCS.2.1
  have hW := hCS.2.2.1.1
  have hWn := hW.1
  have hTn := nT (n := nX (sM S)) (by omega)
  refine AMet.of mf_Pb_textTold rfl (Nat.le_of_ble_eq_true rfl) ?_
  refine aw_iload_n e_Pb_textTold_0 rfl ?_
  refine awZ_if_lt e_Pb_textTold_1 (fun h1 => ?_) (fun h1 => ?_)
  · refine aw_ldc (v := -1000000001) e_Pb_textTold_15 kc_Pb_74 ?_
    have hq := hQ _ _ _ hCS KM_0
    unfold op_textTold at hq
    first
      | (rw [if_neg (fun w => by have w1 := w.1.1; have w2 := w.1.2; omega)] at hq; exact aw_iret e_Pb_textTold_17 rfl rfl hq)
  · refine aw_iload_n e_Pb_textTold_4 rfl ?_
    refine aw_aload_n e_Pb_textTold_5 rfl ?_
    refine aw_getR e_Pb_textTold_6 fl_Pb_10 (hS.1 _ _ _ _ rfl) ?_
    refine aw_getE e_Pb_textTold_9 fl_Pb_205 hC.1.2.2.1 ?_
    refine awZ_icmp_lt e_Pb_textTold_12 (fun h12 => ?_) (fun h12 => ?_)
    · have hgt : inR x (nX (sM S)) := ⟨by omega, by omega⟩
      obtain ⟨t, ht, rfl⟩ := inR_nI hgt
      obtain ⟨z, hr, hx⟩ := hC.2.2.2.2 t ht
      refine aw_aload_n e_Pb_textTold_18 rfl ?_
      refine aw_getR e_Pb_textTold_19 fl_Pb_10 (hS.1 _ _ _ _ rfl) ?_
      refine aw_getR e_Pb_textTold_22 fl_Pb_208 (hS.1 _ _ _ _ rfl) ?_
      refine aw_iload_n e_Pb_textTold_25 rfl ?_
      refine aw_aald e_Pb_textTold_26 rfl (show _ < 14 by omega) (by omega) hr ?_
      refine aw_ast3 e_Pb_textTold_27 ?_
      refine aw_aload_n e_Pb_textTold_28 rfl ?_
      refine aw_ifnn e_Pb_textTold_29 ?_
      refine aw_iload_n e_Pb_textTold_35 rfl ?_
      by_cases hts : inR y 3
      · obtain ⟨j, hj, rfl⟩ := inR_nI hts
        have hj7 : j = 0 ∨ j = 1 ∨ j = 2 := by omega
        rcases hj7 with rfl | rfl | rfl
        · refine aw_tsIn e_Pb_textTold_36 (tgt := 64) (by decide) (by decide) rfl rfl ?_
          refine aw_aload_n e_Pb_textTold_64 rfl ?_
          refine aw_getE e_Pb_textTold_65 fl_Pb_212 hx.1 ?_
          have hg : inR (nI t) (nX (sM S)) ∧ inR (nI 0) 3 := ⟨hgt, hts⟩
          have hq := hQ _ _ _ hCS KM_0
          unfold op_textTold at hq
          rw [if_pos hg, ix_n (j := t) (by omega), ix_n (by decide)] at hq
          exact aw_iret e_Pb_textTold_68 rfl rfl hq
        · refine aw_tsIn e_Pb_textTold_36 (tgt := 69) (by decide) (by decide) rfl rfl ?_
          refine aw_aload_n e_Pb_textTold_69 rfl ?_
          refine aw_getE e_Pb_textTold_70 fl_Pb_217 hx.2.1 ?_
          have hg : inR (nI t) (nX (sM S)) ∧ inR (nI 1) 3 := ⟨hgt, hts⟩
          have hq := hQ _ _ _ hCS KM_0
          unfold op_textTold at hq
          rw [if_pos hg, ix_n (j := t) (by omega), ix_n (by decide)] at hq
          exact aw_iret e_Pb_textTold_73 rfl rfl hq
        · refine aw_tsIn e_Pb_textTold_36 (tgt := 74) (by decide) (by decide) rfl rfl ?_
          refine aw_aload_n e_Pb_textTold_74 rfl ?_
          refine aw_getE e_Pb_textTold_75 fl_Pb_224 hx.2.2.1 ?_
          have hg : inR (nI t) (nX (sM S)) ∧ inR (nI 2) 3 := ⟨hgt, hts⟩
          have hq := hQ _ _ _ hCS KM_0
          unfold op_textTold at hq
          rw [if_pos hg, ix_n (j := t) (by omega), ix_n (by decide)] at hq
          exact aw_iret e_Pb_textTold_78 rfl rfl hq
      · refine aw_tsOut e_Pb_textTold_36 (tgt := 79) (by unfold inR at hts; omega) rfl ?_
        refine aw_ldc (v := -1000000001) e_Pb_textTold_79 kc_Pb_74 ?_
        have hq := hQ _ _ _ hCS KM_0
        unfold op_textTold at hq
        first
          | (rw [if_neg (fun w => hts w.2)] at hq; exact aw_iret e_Pb_textTold_81 rfl rfl hq)
    · refine aw_ldc (v := -1000000001) e_Pb_textTold_15 kc_Pb_74 ?_
      have hq := hQ _ _ _ hCS KM_0
      unfold op_textTold at hq
      first
        | (rw [if_neg (fun w => by have w1 := w.1.1; have w2 := w.1.2; omega)] at hq; exact aw_iret e_Pb_textTold_17 rfl rfl hq)
theorem CM_du {I I2 : It} {R : Rt} {Z : Zt} {V : Mc} {i : Nat} (h : CM I R Z 0 (duV V i)) (hW : WF (duV V i)) (h1 : ∀ t j, ¬ (t = 3 ∧ j = 12 * 0 + i) → I2 t j = I t j) (h2 : ∀ f, f < 5 → I2 3 (12 * 0 + i) f = nI (duF (pP V i) f)) : CM I2 R Z 0 (duV V (i + 1)) := by
  rw [← duV_s]
  exact CM_setP (by decide) h hW h1 h2
theorem c_Pb_dual {l : Launch} {E : En} {d : Nat} {I : It} {L : Lt} {R : Rt} {Z : Zt} {Q : Qt} {S : AS} (hCS : CS I R Z S) (hQ : ∀ I2 L2 R2, CS I2 R2 Z (op_dual S).1 → KM I L R I2 L2 R2 → Q (some (vi (op_dual S).2)) I2 L2 R2 Z) : AMet l E (d + 1) M_Pb_dual [vr 8 0] I L R Z Q := by
  have hS := hCS.1
  have hC := hCS.2.1
  have hW := hCS.2.2.1.1
  have hWn := hW.1
  refine AMet.of mf_Pb_dual rfl (Nat.le_of_ble_eq_true rfl) ?_
  refine aw_iconst (v := nI 0) e_Pb_dual_0 (by decide) ?_
  refine aw_ist1 e_Pb_dual_1 ?_
  refine aw_iconst (v := nI 0) e_Pb_dual_2 (by decide) ?_
  refine aw_ist2 e_Pb_dual_3 ?_
  refine up_loop (P := fun i => ∀ I2, CM I2 R Z 0 (duV (sM S) i) → (∀ t j, ¬ own 0 t j → I2 t j = I t j) → AWq l E (d + 1) M_Pb_dual Z 4 [some (vr 8 0), some (vi (nI (cnt (fun p => !(pP (sM S) p 0 == 4)) i))), some (vi (nI i))] [] I2 L R Z Q) (N := nP (sM S)) (fun i hi ih I2 hC2 hf2 => ?_) 0 (Nat.zero_le _) I (by rw [duV_0]; exact hC) (fun _ _ _ => rfl)
  refine aw_iload_n e_Pb_dual_4 rfl ?_
  refine aw_aload_n e_Pb_dual_5 rfl ?_
  refine aw_getR e_Pb_dual_6 fl_Pb_10 (hS.1 _ _ _ _ rfl) ?_
  refine aw_getE e_Pb_dual_9 fl_Pb_75 (show _ = nI (nP (sM S)) from hC2.1.1) ?_
  refine awN_icmp_ge e_Pb_dual_12 (by omega) (by omega) (fun h12 => ?_) (fun h12 => ?_)
  · refine aw_iload_n e_Pb_dual_39 rfl ?_
    obtain rfl : i = nP (sM S) := by omega
    exact aw_iret e_Pb_dual_40 rfl rfl (hQ I2 L R (CS_mach hCS hC2 (WS_duV hCS.2.2.1 _) hf2) (KM_own hf2))
  · have hv := hW.2.1 i h12
    refine aw_aload_n e_Pb_dual_15 rfl ?_
    refine aw_getR e_Pb_dual_16 fl_Pb_10 (hS.1 _ _ _ _ rfl) ?_
    refine aw_getR e_Pb_dual_19 fl_Pb_80 (hS.1 _ _ _ _ rfl) ?_
    refine aw_iload_n e_Pb_dual_22 rfl ?_
    refine aw_aald e_Pb_dual_23 rfl (show _ < 12 by omega) (by omega) (hS.2.1 _ _ (by omega) (by omega)) ?_
    have hk := ih h12
    refine aw_cV0 e_Pb_dual_24 ml_Pb_244 mf_Pa_turnToDual mv_Pa_turnToDual (c_Pa_turnToDual (show _ = nI (pP (sM S) i 0) from duV_i (sM S) i 0 ▸ hC2.2.1 i 0 h12 (by decide)) (show _ = nI (pP (sM S) i 1) from duV_i (sM S) i 1 ▸ hC2.2.1 i 1 h12 (by decide)) (show _ = nI (pP (sM S) i 2) from duV_i (sM S) i 2 ▸ hC2.2.1 i 2 h12 (by decide)) (show _ = nI (pP (sM S) i 3) from duV_i (sM S) i 3 ▸ hC2.2.1 i 3 h12 (by decide)) hv.1 hv.2.1 (fun h4 => ?_) (fun h4 => ?_))
    · refine awB_eq e_Pb_dual_27 (fun h27 => ?_) (fun h27 => ?_)
      · refine aw_inc2 e_Pb_dual_33 (inc1 _) ?_
        refine aw_goto e_Pb_dual_36 ?_
        rw [cnt_f2 (P := fun p => !(pP (sM S) p 0 == 4)) (n := i) (by simp [h4])] at hk
        refine hk _ (CM_du hC2 (WS_duV hCS.2.2.1 i).1 (fun t j hti => by rw [sI_n hti, sI_n hti]) (fun f hf => ?_)) (fun t j hti => by rw [sI_n (by unfold own at hti; omega), sI_n (by unfold own at hti; omega)]; exact hf2 t j hti)
        unfold duF
        rw [if_pos h4]
        by_cases e3 : f = 3
        · rw [if_neg (by omega), if_pos e3, e3, sI_eq]
        · rw [sI_ne e3]
          by_cases e2 : f = 2
          · rw [if_pos e2, e2, sI_eq]
          · rw [if_neg e2, if_neg e3, sI_ne e2, ← duV_i]; exact hC2.2.1 i f h12 hf
      · exact absurd h4 h27
    · refine awB_eq e_Pb_dual_27 (fun h27 => ?_) (fun h27 => ?_)
      · exact absurd h4 h27
      · refine aw_inc1 e_Pb_dual_30 (inc1 _) ?_
        refine aw_inc2 e_Pb_dual_33 (inc1 _) ?_
        refine aw_goto e_Pb_dual_36 ?_
        rw [cnt_t (P := fun p => !(pP (sM S) p 0 == 4)) (n := i) (by simp [h4])] at hk
        refine hk _ (CM_du hC2 (WS_duV hCS.2.2.1 i).1 (fun t j hti => by rw [sI_n hti]) (fun f hf => ?_)) (fun t j hti => by rw [sI_n (by unfold own at hti; omega)]; exact hf2 t j hti)
        unfold duF
        rw [if_neg h4]
        by_cases e1 : f = 1
        · rw [if_pos e1, e1, sI_eq]
        · rw [if_neg e1, sI_ne e1, ← duV_i]; exact hC2.2.1 i f h12 hf
theorem c_Pb_read {l : Launch} {E : En} {d : Nat} {I : It} {L : Lt} {R : Rt} {Z : Zt} {Q : Qt} {S : AS} (hCS : CS I R Z S) {x : Int32} (hQ : ∀ I2 L2 R2, CS I2 R2 Z (op_read S x).1 → KM I L R I2 L2 R2 → Q (some (vi (op_read S x).2)) I2 L2 R2 Z) : AMet l E (d + 6) M_Pb_read [vr 8 0, vi x] I L R Z Q := by
  have hS := hCS.1
  have hC := hCS.2.1
  have hW := hCS.2.2.1.1
  have hWn := hW.1
  obtain ⟨ρ0, hG0⟩ := (CS_G hCS).1
  refine AMet.of mf_Pb_read rfl (Nat.le_of_ble_eq_true rfl) ?_
  refine aw_aload_n e_Pb_read_0 rfl ?_
  refine aw_getR e_Pb_read_1 fl_Pb_10 (hS.1 _ _ _ _ rfl) ?_
  refine aw_iload_n e_Pb_read_4 rfl ?_
  refine aw_cV1 e_Pb_read_5 ml_Pb_136 mf_Ma_hasBond mv_Ma_hasBond (c_Ma_hasBond hS (by decide) hC hW ?_)
  refine awB_ne e_Pb_read_8 (fun h8 => ?_) (fun h8 => ?_)
  · obtain ⟨b, hb, rfl⟩ := inR_nI h8
    refine aw_aload_n e_Pb_read_14 rfl ?_
    refine aw_getR e_Pb_read_15 fl_Pb_10 (hS.1 _ _ _ _ rfl) ?_
    refine aw_iconst (v := nI 1) e_Pb_read_18 (by decide) ?_
    refine aw_iload_n e_Pb_read_19 rfl ?_
    refine aw_cV2 e_Pb_read_20 ml_Pb_227 mf_Ma_textFor mv_Ma_textFor (c_Ma_textFor hS (by decide) hC hW (by decide) (by omega) ?_)
    refine aw_ist2 e_Pb_read_23 ?_
    refine aw_iload_n e_Pb_read_24 rfl ?_
    refine aw_iconst (v := -1) e_Pb_read_25 (by decide) ?_
    refine aw_icmp_ne e_Pb_read_26 (fun h26 => ?_) (fun h26 => ?_)
    · obtain ⟨j, hlt⟩ := lj (fun z => h26 ((oI_m1 (by omega)).2 z))
      rw [hlt, show oI (some j) = nI j from rfl]
      have hjn := lastT_lt hlt
      refine aw_aload_n e_Pb_read_32 rfl ?_
      refine aw_getR e_Pb_read_33 fl_Pb_25 (hS.1 _ _ _ _ rfl) ?_
      refine aw_aload_n e_Pb_read_36 rfl ?_
      refine aw_getR e_Pb_read_37 fl_Pb_10 (hS.1 _ _ _ _ rfl) ?_
      refine aw_cV1 e_Pb_read_40 ml_Pb_153 mf_An_solve mv_An_solve (c_An_solve hS hG0 (by decide) hC hW (fun I2 L2 R2 ρ2 hG2 hj2 hi2 ha2 hg2 hr2 => ?_))
      have hsc : SC I L R I2 L2 R2 := SC_ans (SC_0 hCS) (by decide) hG2 hj2 hg2 hr2
      replace hS : Sta R2 := (hsc.cs hCS).1
      refine aw_ist3 e_Pb_read_43 ?_
      refine aw_iload_n e_Pb_read_44 rfl ?_
      refine aw_iconst (v := nI 1) e_Pb_read_45 (by decide) ?_
      refine aw_icmp_eq e_Pb_read_46 (fun h46 => ?_) (fun h46 => ?_)
      · have h1 := (ansV_iff _).1 h46
        refine aw_aload_n e_Pb_read_51 rfl ?_
        refine aw_getR e_Pb_read_52 fl_Pb_10 (hS.1 _ _ _ _ rfl) ?_
        refine aw_iload_n e_Pb_read_55 rfl ?_
        refine aw_aload_n e_Pb_read_56 rfl ?_
        refine aw_getR e_Pb_read_57 fl_Pb_46 (hS.1 _ _ _ _ rfl) ?_
        refine aw_aload_n e_Pb_read_60 rfl ?_
        refine aw_getR e_Pb_read_61 fl_Pb_25 (hS.1 _ _ _ _ rfl) ?_
        refine aw_getR e_Pb_read_64 fl_Pb_231 (hS.1 _ _ _ _ rfl) ?_
        refine aw_iload_n e_Pb_read_67 rfl ?_
        refine aw_ialE e_Pb_read_68 rfl (show _ < 12 by omega) (by omega) ((ha2 h1) b hb).1 ?_
        refine aw_aload_n e_Pb_read_69 rfl ?_
        refine aw_getR e_Pb_read_70 fl_Pb_25 (hS.1 _ _ _ _ rfl) ?_
        refine aw_getR e_Pb_read_73 fl_Pb_234 (hS.1 _ _ _ _ rfl) ?_
        refine aw_iload_n e_Pb_read_76 rfl ?_
        refine aw_ialE e_Pb_read_77 rfl (show _ < 12 by omega) (by omega) ((ha2 h1) b hb).2.1 ?_
        refine aw_cV4 e_Pb_read_78 ml_Pb_237 mf_Ma_textGives mv_Ma_textGives (c_Ma_textGives hS (by decide) (hsc.cs hCS).2.1 hW hjn (fun f => ?_))
        have hsc3 : SC I L R (dsk I2 f) L2 R2 := SC_I hsc (fun t i _ h => dsk_n h)
        have hq := hQ _ _ _ (hsc3.cs hCS) hsc3.km
        unfold op_read at hq
        rw [if_pos h8, ix_n (j := b) (by omega), readV_s hlt, if_pos h1] at hq
        exact aw_iret e_Pb_read_81 rfl rfl hq
      · refine aw_iload_n e_Pb_read_49 rfl ?_
        have hq := hQ _ _ _ (hsc.cs hCS) hsc.km
        unfold op_read at hq
        rw [if_pos h8, ix_n (j := b) (by omega), readV_s hlt, if_neg (fun z => h46 ((ansV_iff _).2 z))] at hq
        exact aw_iret e_Pb_read_50 rfl rfl hq
    · refine aw_ldc (v := -1000000005) e_Pb_read_29 kc_Pb_230 ?_
      have hq := hQ _ _ _ hCS KM_0
      unfold op_read at hq
      first
        | (rw [if_pos h8, ix_n (j := b) (by omega), readV_n ((oI_m1 (by omega)).1 h26)] at hq; exact aw_iret e_Pb_read_31 rfl rfl hq)
  · refine aw_ldc (v := -1000000001) e_Pb_read_11 kc_Pb_74 ?_
    have hq := hQ _ _ _ hCS KM_0
    unfold op_read at hq
    first
      | (rw [if_neg h8] at hq; exact aw_iret e_Pb_read_13 rfl rfl hq)
theorem c_Pb_pour {l : Launch} {E : En} {d : Nat} {I : It} {L : Lt} {R : Rt} {Z : Zt} {Q : Qt} {S : AS} (hCS : CS I R Z S) {x : Int32} (hQ : ∀ I2 L2 R2, CS I2 R2 Z (op_pour S x).1 → KM I L R I2 L2 R2 → Q (some (vi (op_pour S x).2)) I2 L2 R2 Z) : AMet l E (d + 2) M_Pb_pour [vr 8 0, vi x] I L R Z Q := by
  have hS := hCS.1
  have hC := hCS.2.1
  have hW := hCS.2.2.1.1
  have hWn := hW.1
  refine AMet.of mf_Pb_pour rfl (Nat.le_of_ble_eq_true rfl) ?_
  refine aw_iload_n e_Pb_pour_0 rfl ?_
  refine aw_cS1 e_Pb_pour_1 ml_Pb_261 mf_Pb_isSheet ms_Pb_isSheet (c_Pb_isSheet ?_)
  refine awB_ne e_Pb_pour_4 (fun h4 => ?_) (fun h4 => ?_)
  · obtain ⟨s, hs, rfl⟩ := inR_nI h4
    have hsh := hCS.2.2.2.2.2.2.1 s hs
    have hsz := hsh.2.2.1
    refine aw_aload_n e_Pb_pour_10 rfl ?_
    refine aw_getR e_Pb_pour_11 fl_Pb_55 (hS.1 _ _ _ _ rfl) ?_
    refine aw_iload_n e_Pb_pour_14 rfl ?_
    refine aw_aald e_Pb_pour_15 rfl (show _ < 4 by omega) (by omega) (hS.2.2.1 _ (by omega)) ?_
    refine aw_ast2 e_Pb_pour_16 ?_
    refine aw_aload_n e_Pb_pour_17 rfl ?_
    refine aw_getE e_Pb_pour_18 fl_Pb_268 hsh.1 ?_
    refine aw_iconst (v := -1) e_Pb_pour_21 (by decide) ?_
    refine aw_icmp_ne e_Pb_pour_22 (fun h22 => ?_) (fun h22 => ?_)
    · refine aw_iconst (v := nI 0) e_Pb_pour_29 (by decide) ?_
      refine aw_ist3 e_Pb_pour_30 ?_
      refine aw_iconst (v := nI 0) e_Pb_pour_31 (by decide) ?_
      refine aw_ist4 e_Pb_pour_32 ?_
      refine up_loop (P := fun i => ∀ I2, CM I2 R Z 0 (porV (sM S) (sH S s) i).1 → (∀ t j, ¬ own 0 t j → I2 t j = I t j) → AWq l E (d + 2) M_Pb_pour Z 34 [some (vr 8 0), some (vi (nI s)), some (vr 4 s), some (vi (nI (porV (sM S) (sH S s) i).2)), some (vi (nI i))] [] I2 L R Z Q) (N := nP (sM S)) (fun i hi ih I2 hC2 hf2 => ?_) 0 (Nat.zero_le _) I hC (fun _ _ _ => rfl)
      have hpl := porV_le (V := sM S) (v := sH S s) i
      refine aw_iload e_Pb_pour_34 rfl ?_
      refine aw_aload_n e_Pb_pour_36 rfl ?_
      refine aw_getR e_Pb_pour_37 fl_Pb_10 (hS.1 _ _ _ _ rfl) ?_
      refine aw_getE e_Pb_pour_40 fl_Pb_75 (show _ = nI (nP (sM S)) from (porV_n i).1 ▸ hC2.1.1) ?_
      refine awN_icmp_ge e_Pb_pour_43 (by omega) (by omega) (fun h43 => ?_) (fun h43 => ?_)
      · refine aw_iload_n e_Pb_pour_102 rfl ?_
        obtain rfl : i = nP (sM S) := by omega
        have hq := hQ I2 L R
        unfold op_pour at hq
        rw [if_pos h4, ix_n (j := s) (by omega), if_neg h22] at hq
        exact aw_iret e_Pb_pour_103 rfl rfl (hq (CS_mach hCS hC2 (WS_porV hCS.2.2.1 _) hf2) (KM_own hf2))
      · have hv := hW.2.1 i h43
        refine aw_aload_n e_Pb_pour_46 rfl ?_
        refine aw_getR e_Pb_pour_47 fl_Pb_10 (hS.1 _ _ _ _ rfl) ?_
        refine aw_getR e_Pb_pour_50 fl_Pb_80 (hS.1 _ _ _ _ rfl) ?_
        refine aw_iload e_Pb_pour_53 rfl ?_
        refine aw_aald e_Pb_pour_55 rfl (show _ < 12 by omega) (by omega) (hS.2.1 _ _ (by omega) (by omega)) ?_
        refine aw_getE e_Pb_pour_56 fl_Pb_93 (show _ = nI (pP (sM S) i 0) from (porV_n (V := sM S) (v := sH S s) i).2.2.2.2 i 0 (by decide) ▸ hC2.2.1 i 0 (by have := (porV_n (V := sM S) (v := sH S s) i).1; omega) (by decide)) ?_
        refine aw_iconst (v := nI 1) e_Pb_pour_59 (by decide) ?_
        refine awN_icmp_ne e_Pb_pour_60 (by omega) (by omega) (fun h60 => ?_) (fun h60 => ?_)
        · refine aw_inc4 e_Pb_pour_96 (inc1 _) ?_
          refine aw_goto e_Pb_pour_99 ?_
          have hk := ih h43
          rw [porV] at hk
          first
            | (rw [if_neg (mt And.left h60)] at hk; exact hk I2 hC2 hf2)
            | (rw [if_neg (mt And.right (fun z => h68 ((nI_inR (by omega)).2 z)))] at hk; exact hk I2 hC2 hf2)
            | (rw [if_pos ⟨h60, hlt⟩] at hk
               exact hk _ (CM_setH hC2 (WF_porV hW i) (by have := (porV_n (V := sM S) (v := sH S s) i).1; omega)) (fun t j hti => by rw [sI_n (by unfold own at hti; omega)]; exact hf2 t j hti))
        · refine aw_aload_n e_Pb_pour_63 rfl ?_
          refine aw_iload_n e_Pb_pour_64 rfl ?_
          refine aw_cV1 e_Pb_pour_65 ml_Pb_270 mf_Sh_hasPlace mv_Sh_hasPlace (c_Sh_hasPlace (show I2 4 s 1 = nI (sH S s).2.1 by rw [hf2 4 s (by unfold own; omega)]; exact hsh.2.1) hsz ?_)
          refine awB_eq e_Pb_pour_68 (fun h68 => ?_) (fun h68 => ?_)
          · refine aw_inc4 e_Pb_pour_96 (inc1 _) ?_
            refine aw_goto e_Pb_pour_99 ?_
            have hk := ih h43
            rw [porV] at hk
            first
              | (rw [if_neg (mt And.left h60)] at hk; exact hk I2 hC2 hf2)
              | (rw [if_neg (mt And.right (fun z => h68 ((nI_inR (by omega)).2 z)))] at hk; exact hk I2 hC2 hf2)
              | (rw [if_pos ⟨h60, hlt⟩] at hk
                 exact hk _ (CM_setH hC2 (WF_porV hW i) (by have := (porV_n (V := sM S) (v := sH S s) i).1; omega)) (fun t j hti => by rw [sI_n (by unfold own at hti; omega)]; exact hf2 t j hti))
          · have hlt : (porV (sM S) (sH S s) i).2 < (sH S s).2.1 := (nI_inR (by omega)).1 h68
            refine aw_aload_n e_Pb_pour_71 rfl ?_
            refine aw_getR e_Pb_pour_72 fl_Pb_10 (hS.1 _ _ _ _ rfl) ?_
            refine aw_getR e_Pb_pour_75 fl_Pb_80 (hS.1 _ _ _ _ rfl) ?_
            refine aw_iload e_Pb_pour_78 rfl ?_
            refine aw_aald e_Pb_pour_80 rfl (show _ < 12 by omega) (by omega) (hS.2.1 _ _ (by omega) (by omega)) ?_
            refine aw_aload_n e_Pb_pour_81 rfl ?_
            refine aw_getR e_Pb_pour_82 fl_Pb_274 (hS.1 _ _ _ _ rfl) ?_
            refine aw_iload_n e_Pb_pour_85 rfl ?_
            refine aw_ialE e_Pb_pour_86 rfl (show _ < 24 by omega) (by omega) (show _ = (sH S s).2.2 (porV (sM S) (sH S s) i).2 by rw [hf2 26 s (by unfold own; omega)]; exact hsh.2.2.2.2.2 _ hlt) ?_
            refine aw_cS1 e_Pb_pour_87 ml_Pb_124 mf_Pb_worthOf ms_Pb_worthOf (c_Pb_worthOf ?_)
            refine aw_putI e_Pb_pour_90 fl_Pb_103 ?_
            refine aw_inc3 e_Pb_pour_93 (inc1 _) ?_
            refine aw_inc4 e_Pb_pour_96 (inc1 _) ?_
            refine aw_goto e_Pb_pour_99 ?_
            have hk := ih h43
            rw [porV] at hk
            first
              | (rw [if_neg (mt And.left h60)] at hk; exact hk I2 hC2 hf2)
              | (rw [if_neg (mt And.right (fun z => h68 ((nI_inR (by omega)).2 z)))] at hk; exact hk I2 hC2 hf2)
              | (rw [if_pos ⟨h60, hlt⟩] at hk
                 exact hk _ (CM_setH hC2 (WF_porV hW i) (by have := (porV_n (V := sM S) (v := sH S s) i).1; omega)) (fun t j hti => by rw [sI_n (by unfold own at hti; omega)]; exact hf2 t j hti))
    · refine aw_ldcw (v := -1000000011) e_Pb_pour_25 kc_Pb_269 ?_
      have hq := hQ I L R
      unfold op_pour at hq
      first
        | (rw [if_pos h4, ix_n (j := s) (by omega), if_pos h22] at hq; exact aw_iret e_Pb_pour_28 rfl rfl (hq hCS KM_0))
  · refine aw_ldc (v := -1000000001) e_Pb_pour_7 kc_Pb_74 ?_
    have hq := hQ I L R
    unfold op_pour at hq
    first
      | (rw [if_neg h4] at hq; exact aw_iret e_Pb_pour_9 rfl rfl (hq hCS KM_0))
