/-! ===== Answer: reduce and solve ===== -/
def frR (a : Nat) (R R2 : Rt) : Prop := ∀ t i, ¬ (t = 16 ∧ i = a) → R2 t i = R t i
theorem frR_t {a : Nat} {R R2 R3 : Rt} (h : frR a R R2) (h2 : frR a R2 R3) : frR a R R3 := fun t i hti => (h2 t i hti).trans (h t i hti)
theorem frR_s {a r : Nat} {R : Rt} {x : Option (Nat × Nat)} : frR a R (sR R 16 a r x) := fun _ _ h => sR_n h
theorem Sta_fr {a : Nat} {R R2 : Rt} (h : Sta R) (hf : frR a R R2) : Sta R2 := h.keep (fun t i _ h16 _ => hf t i (fun z => h16 z.1))
theorem AMet_r {l : Launch} {E : En} {d : Nat} {M : Mt} {I : It} {L : Lt} {R : Rt} {Z : Zt} {Q : Qt} {v0 v2 : AV} {x y : Nat} (h : x = y) (k : AMet l E d M [v0, vr 17 x, v2] I L R Z Q) : AMet l E d M [v0, vr 17 y, v2] I L R Z Q := h ▸ k
theorem AM_swp {I : It} {L : Lt} {R : Rt} {a w n k f : Nat} {ρ : Nat → Nat} {A : Nat → Nat → Nat} (h : AM I L R a w ρ n A) (hk : k < n) (hf : f < n) : ∃ ρ2, ρ2 k = ρ f ∧ AM I L (sR (sR R 16 a f (some (17, ρ k))) 16 a k (some (17, ρ f))) a w ρ2 n (swp A k f) := by
  obtain ⟨⟨h1, h2, h3⟩, h4, h5⟩ := h
  have hn := h4.2.2.2
  refine ⟨fun r => if r = k then ρ f else if r = f then ρ k else ρ r, if_pos rfl, ⟨?_, ?_, ?_⟩, h4, ?_⟩
  · intro r hr
    rw [sR_s]
    unfold va_up
    rw [sR_s]
    unfold va_up
    dsimp only
    by_cases e1 : r = k
    · rw [if_pos e1, if_pos e1]
    · rw [if_neg e1, if_neg e1]
      by_cases e2 : r = f
      · rw [if_pos e2, if_pos e2]
      · rw [if_neg e2, if_neg e2]
        exact h1 r hr
  · intro r hr
    dsimp only
    split
    · exact h2 f (by omega)
    · split
      · exact h2 k (by omega)
      · exact h2 r hr
  · intro r s hr hs
    dsimp only
    have q1 := h3 r s hr hs
    have q2 := h3 f k (by omega) (by omega)
    have q3 := h3 f s (by omega) hs
    have q4 := h3 k s (by omega) hs
    have q5 := h3 r f hr (by omega)
    have q6 := h3 r k hr (by omega)
    have q7 := h3 k f (by omega) (by omega)
    split <;> split <;> (try split) <;> (try split) <;> intro z <;> (first | omega | (have := q1 z; omega) | (have := q2 z; omega) | (have := q3 z; omega) | (have := q4 z; omega) | (have := q5 z; omega) | (have := q6 z; omega) | (have := q7 z; omega))
  · intro r c hr hc
    unfold swp
    dsimp only
    split
    · exact h5 f c hf hc
    · split
      · exact h5 k c hk hc
      · exact h5 r c hr hc
theorem Bd_swp {n w k f : Nat} {A : Nat → Nat → Nat} (h : Bd n w A) (hk : k < n) (hf : f < n) : Bd n w (swp A k f) := by
  intro r c hr hc
  unfold swp
  split
  · exact h f c hf hc
  · split
    · exact h k c hk hc
    · exact h r c hr hc
theorem Bd_scl {n w k i u : Nat} {A : Nat → Nat → Nat} (h : Bd n w A) (hk : k < n) : Bd n w (scl A k i u) := by
  intro r c hr hc
  unfold scl
  split
  · dsimp only
    split
    · exact Nat.mod_lt _ (by decide)
    · exact h k c hk hc
  · exact h r c hr hc
theorem GI_sol {A : Nat → Nat → Nat} {n w i k f : Nat} {pv x : Nat → Nat} (h : GI A n w i k pv) (hi : i < w) (hB : Bd n w A) (hk : k ≤ f) (hf : f < n) (hne : A f i ≠ 0) : Sol n w (clr (scl (swp A k f) k i (ivP (A f i))) k i) x ↔ Sol n w A x := by
  have hkn : k < n := by omega
  have hinv := ivP_mul (w := A f i) (by omega) (hB f i hf (by omega))
  have hsk : swp A k f k = A f := by unfold swp; rw [if_pos rfl]
  have hz : ∀ c, c < i → swp A k f k c = 0 := fun c hc => by rw [hsk]; exact h.2.2.2.2 f c hk hf hc
  refine (Sol_clr hkn (Bd_scl (Bd_swp hB hkn hf) hkn) (fun c hc => ?_)).trans ((Sol_scl hkn (Bd_swp hB hkn hf) hz hinv).trans (Sol_swp hkn hf))
  unfold scl
  rw [if_pos rfl]
  show (if i ≤ c then _ else _) = 0
  rw [if_neg (by omega), hz c hc]
theorem c_An_reduce {l : Launch} {E : En} {d : Nat} {I : It} {L : Lt} {R : Rt} {Z : Zt} {Q : Qt} {a w n : Nat} {ρ : Nat → Nat} {A : Nat → Nat → Nat} (hS : Sta R) (hA : AM I L R a w ρ n A) (hQ : ∀ L2 R2 ρ2 A2 k i pv, AM I L2 R2 a w ρ2 n A2 → GI A2 n w i k pv → (i = w ∨ k = n) → (∀ x, Sol n w A2 x ↔ Sol n w A x) → frL a L L2 → frR a R R2 → Q (some (vi (nI k))) I L2 R2 Z) : AMet l E (d + 2) M_An_reduce [vr 0 a] I L R Z Q := by
  have hw := AM_lt hA
  refine AMet.of mf_An_reduce rfl (Nat.le_of_ble_eq_true rfl) ?_
  refine aw_iconst (v := nI 0) e_An_reduce_0 (by decide) ?_
  refine aw_ist1 e_An_reduce_1 ?_
  refine aw_iconst (v := nI 0) e_An_reduce_2 (by decide) ?_
  refine aw_ist2 e_An_reduce_3 ?_
  refine up_loop (P := fun i => ∀ k L1 R1 ρ1 A1 pv, AM I L1 R1 a w ρ1 n A1 → GI A1 n w i k pv → (∀ x, Sol n w A1 x ↔ Sol n w A x) → frL a L L1 → frR a R R1 → AWq l E (d + 2) M_An_reduce Z 4 [some (vr 0 a), some (vi (nI k)), some (vi (nI i)), none, none] [] I L1 R1 Z Q) (N := w) (fun i hi ih k L1 R1 ρ1 A1 pv hA1 hG hSol hg1 hr1 => ?_) 0 (Nat.zero_le _) 0 _ _ _ _ (fun _ => 0) hA (GI_0 _) (fun _ => Iff.rfl) (fun _ _ _ => rfl) (fun _ _ _ => rfl)
  have hG1 := hG.1
  have hBd := AM_Bd hA1
  replace hS := Sta_fr hS hr1
  refine aw_iload_n e_An_reduce_4 rfl ?_
  refine aw_aload_n e_An_reduce_5 rfl ?_
  refine aw_getE e_An_reduce_6 fl_An_42 hA1.2.1.2.1 ?_
  refine awN_icmp_ge e_An_reduce_9 (by omega) (by omega) (fun h9 => ?_) (fun h9 => ?_)
  · refine aw_iload_n e_An_reduce_82 rfl ?_
    exact aw_iret e_An_reduce_83 rfl rfl (hQ _ _ _ _ _ _ _ hA1 hG (by omega) hSol hg1 hr1)
  · refine aw_iload_n e_An_reduce_12 rfl ?_
    refine aw_aload_n e_An_reduce_13 rfl ?_
    refine aw_getE e_An_reduce_14 fl_An_38 hA1.2.1.1 ?_
    refine awN_icmp_ge e_An_reduce_17 (by omega) (by omega) (fun h17 => ?_) (fun h17 => ?_)
    · refine aw_iload_n e_An_reduce_82 rfl ?_
      exact aw_iret e_An_reduce_83 rfl rfl (hQ _ _ _ _ _ _ _ hA1 hG (by omega) hSol hg1 hr1)
    · refine aw_aload_n e_An_reduce_20 rfl ?_
      refine aw_iload_n e_An_reduce_21 rfl ?_
      refine aw_iload_n e_An_reduce_22 rfl ?_
      refine aw_cV2 e_An_reduce_23 ml_An_116 mf_An_rowWith mv_An_rowWith (c_An_rowWith hS hA1 h9 (by omega) (fun f hk1 hk2 hk3 => ?_) (fun hz => ?_))
      · refine aw_ist3 e_An_reduce_26 ?_
        refine aw_iload_n e_An_reduce_27 rfl ?_
        refine aw_iconst (v := -1) e_An_reduce_28 (by decide) ?_
        refine awZ_icmp_eq e_An_reduce_29 (fun h29 => ?_) (fun h29 => ?_)
        · exact absurd h29 (by rw [nT (n := f) (by omega)]; show ¬ (f : Int) = -1; omega)
        · refine aw_aload_n e_An_reduce_32 rfl ?_
          refine aw_getR e_An_reduce_33 fl_An_20 (hS.1 _ _ _ _ rfl) ?_
          refine aw_iload_n e_An_reduce_36 rfl ?_
          refine aw_aald e_An_reduce_37 rfl (show _ < 24 by omega) (by omega) (hA1.1.1 f (by omega)) ?_
          refine aw_ast4 e_An_reduce_38 ?_
          refine aw_aload_n e_An_reduce_40 rfl ?_
          refine aw_getR e_An_reduce_41 fl_An_20 (hS.1 _ _ _ _ rfl) ?_
          refine aw_iload_n e_An_reduce_44 rfl ?_
          refine aw_aload_n e_An_reduce_45 rfl ?_
          refine aw_getR e_An_reduce_46 fl_An_20 (hS.1 _ _ _ _ rfl) ?_
          refine aw_iload_n e_An_reduce_49 rfl ?_
          refine aw_aald e_An_reduce_50 rfl (show _ < 24 by omega) (by omega) (hA1.1.1 k (by omega)) ?_
          refine aw_aastL e_An_reduce_51 rfl (by omega) ?_
          replace hS := Sta_fr (a := a) hS (frR_s (r := f) (x := some (17, ρ1 k)))
          refine aw_aload_n e_An_reduce_52 rfl ?_
          refine aw_getR e_An_reduce_53 fl_An_20 (hS.1 _ _ _ _ rfl) ?_
          refine aw_iload_n e_An_reduce_56 rfl ?_
          refine aw_aload e_An_reduce_57 rfl ?_
          refine aw_aastL e_An_reduce_59 rfl (by omega) ?_
          replace hS := Sta_fr (a := a) hS (frR_s (r := k) (x := some (17, ρ1 f)))
          obtain ⟨ρ2, hρ, hA2⟩ := AM_swp hA1 (show k < n by omega) hk2
          refine aw_aload_n e_An_reduce_60 rfl ?_
          refine aw_aload e_An_reduce_61 rfl ?_
          refine aw_iload_n e_An_reduce_63 rfl ?_
          refine aw_cV2 e_An_reduce_64 ml_An_119 mf_An_scale mv_An_scale (AMet_r hρ (c_An_scale hS hA2 (r := k) (by omega) h9 (fun L3 hA3 hg3 => ?_)))
          refine aw_aload_n e_An_reduce_67 rfl ?_
          refine aw_iload_n e_An_reduce_68 rfl ?_
          refine aw_iload_n e_An_reduce_69 rfl ?_
          refine aw_cV2 e_An_reduce_70 ml_An_123 mf_An_clearOthers mv_An_clearOthers (c_An_clearOthers hS hA3 (by omega) h9 (fun L4 hA4 hg4 => ?_))
          refine aw_inc1 e_An_reduce_73 (inc1 _) ?_
          refine aw_inc2 e_An_reduce_76 (inc1 _) ?_
          refine aw_goto e_An_reduce_79 ?_
          refine aw_drop 3 ?_
          refine aw_drop 4 ?_
          rw [show swp A1 k f k i = A1 f i by unfold swp; rw [if_pos rfl]] at hA4
          exact ih h9 _ _ _ _ _ _ hA4 (GI_step hG h9 hBd hk1 hk2 hk3) (fun x => (GI_sol hG h9 hBd hk1 hk2 hk3).trans (hSol x)) (frL_t hg1 (frL_t hg3 hg4)) (frR_t hr1 (frR_t frR_s frR_s))
      · refine aw_ist3 e_An_reduce_26 ?_
        refine aw_iload_n e_An_reduce_27 rfl ?_
        refine aw_iconst (v := -1) e_An_reduce_28 (by decide) ?_
        refine awZ_icmp_eq e_An_reduce_29 (fun h29 => ?_) (fun h29 => ?_)
        · refine aw_inc2 e_An_reduce_76 (inc1 _) ?_
          refine aw_goto e_An_reduce_79 ?_
          refine aw_drop 3 ?_
          exact ih h9 _ _ _ _ _ _ hA1 (GI_skip hG h9 hz) hSol hg1 hr1
        · exact absurd rfl h29
theorem CM_frR {I : It} {R R2 : Rt} {Z : Zt} {k a : Nat} {V : Mc} (h : CM I R Z k V) (hW : WF V) (hf : frR a R R2) : CM I R2 Z k V := h.keep hW (fun _ _ _ => rfl) (fun t i hti => hf t i (fun z => by unfold own at hti; omega))
def frJ (a : Nat) (I I2 : It) : Prop := ∀ t i, ¬ ((t = 0 ∨ t = 14 ∨ t = 15) ∧ i = a) → I2 t i = I t i
theorem frI_J {a : Nat} {I I2 : It} (h : frI a I I2) : frJ a I I2 := fun t i hti => h t i (fun z => hti ⟨Or.inl z.1, z.2⟩)
theorem CM_frJ {I I2 : It} {R : Rt} {Z : Zt} {k a : Nat} {V : Mc} (h : CM I R Z k V) (hW : WF V) (hf : frJ a I I2) : CM I2 R Z k V := h.keep hW (fun t i hti => hf t i (fun z => by unfold own at hti; omega)) (fun _ _ _ => rfl)
noncomputable def ansV (V : Mc) : Int32 := if ansC V = 0 then -1000000002 else if ansC V = 1 then nI 1 else -1000000006
theorem ansV_0 {V : Mc} (h : ansC V = 0) : ansV V = -1000000002 := if_pos h
theorem ansV_1 {V : Mc} (h : ansC V = 1) : ansV V = nI 1 := by unfold ansV; rw [if_neg (by omega), if_pos h]
theorem ansV_2 {V : Mc} (h : ansC V = 2) : ansV V = -1000000006 := by unfold ansV; rw [if_neg (by omega), if_neg (by omega)]
theorem c_An_solve {l : Launch} {E : En} {d : Nat} {I : It} {L : Lt} {R : Rt} {Z : Zt} {Q : Qt} {a : Nat} {ρ : Nat → Nat} (hS : Sta R) (hG : RG R a ρ) {kk : Nat} {V : Mc} (hk : kk < 3) (hC : CM I R Z kk V) (hW : WF V) (hQ : ∀ I2 L2 R2 ρ2, RG R2 a ρ2 → frJ a I I2 → (ansC V ≠ 1 → frI a I I2) → (ansC V = 1 → ansI I2 a (nB V) (fun b => ansX V (2 * b)) (fun b => ansX V (2 * b + 1))) → frL a L L2 → frR a R R2 → Q (some (vi (ansV V))) I2 L2 R2 Z) : AMet l E (d + 5) M_An_solve [vr 0 a, vr 2 kk] I L R Z Q := by
  have hWn := hW.1
  refine AMet.of mf_An_solve rfl (Nat.le_of_ble_eq_true rfl) ?_
  refine aw_aload_n e_An_solve_0 rfl ?_
  refine aw_cV0 e_An_solve_1 ml_An_23 mf_Ma_isWhole mv_Ma_isWhole (c_Ma_isWhole hS hk hC hW ?_)
  refine awB_ne e_An_solve_4 (fun h4 => ?_) (fun h4 => ?_)
  · refine aw_aload_n e_An_solve_10 rfl ?_
    refine aw_aload_n e_An_solve_11 rfl ?_
    refine aw_cV1 e_An_solve_12 ml_An_30 mf_An_writeLaws mv_An_writeLaws (c_An_writeLaws hS hG hk hC hW h4 (fun I2 L2 A2 hA2 hL2 hf2 hg2 => ?_))
    refine aw_aload_n e_An_solve_15 rfl ?_
    refine aw_cV0 e_An_solve_16 ml_An_34 mf_An_reduce mv_An_reduce (c_An_reduce hS hA2 (fun L3 R3 ρ3 A3 k i pv hA3 hG3 hi3 hSol hg3 hr3 => ?_))
    replace hS := Sta_fr hS hr3
    have hC3 := CM_frR (CM_fr hC hW hf2) hW hr3
    have hBd3 := AM_Bd hA3
    have hG3b := hG3.1
    have hans := ans_G (A0 := A2) h4 (fun x hx => (hSol x).trans (hL2.2 x hx)) hG3 hi3 hBd3
    refine aw_ist2 e_An_solve_19 ?_
    refine aw_iload_n e_An_solve_20 rfl ?_
    refine aw_ist3 e_An_solve_21 ?_
    refine up_loop (P := fun j => k ≤ j → (∀ r, k ≤ r → r < j → A3 r (2 * nB V) = 0) → AWq l E (d + 5) M_An_solve Z 22 [some (vr 0 a), some (vr 2 kk), some (vi (nI k)), some (vi (nI j))] [] I2 L3 R3 Z Q) (N := 2 * nB V) (fun j hj ih hkj hz => ?_) k (by omega) (Nat.le_refl _) (fun r h1 h2 => absurd h2 (by omega))
    refine aw_iload_n e_An_solve_22 rfl ?_
    refine aw_aload_n e_An_solve_23 rfl ?_
    refine aw_getE e_An_solve_24 fl_An_38 hA3.2.1.1 ?_
    refine awN_icmp_ge e_An_solve_27 (by omega) (by omega) (fun h27 => ?_) (fun h27 => ?_)
    · refine aw_iload_n e_An_solve_55 rfl ?_
      refine aw_aload_n e_An_solve_56 rfl ?_
      refine aw_getE e_An_solve_57 fl_An_42 hA3.2.1.2.1 ?_
      refine awN_icmp_ge e_An_solve_60 (by omega) (by omega) (fun h60 => ?_) (fun h60 => ?_)
      · have h1 := hans.2.2 (fun r q1 q2 => hz r q1 (by omega)) (by omega)
        refine aw_iconst (v := nI 0) e_An_solve_66 (by decide) ?_
        refine aw_ist3 e_An_solve_67 ?_
        refine up_loop (P := fun b => ∀ I4, (∀ c, c < b → I4 14 a c = nI (A3 (2 * c) (2 * nB V)) ∧ I4 15 a c = nI (A3 (2 * c + 1) (2 * nB V))) → frJ a I I4 → I4 0 a 4 = nI (2 * nB V) → AWq l E (d + 5) M_An_solve Z 68 [some (vr 0 a), some (vr 2 kk), some (vi (nI k)), some (vi (nI b))] [] I4 L3 R3 Z Q) (N := nB V) (fun b hb ih I4 hv4 hj4 hw4 => ?_) 0 (Nat.zero_le _) I2 (fun c hc => absurd hc (Nat.not_lt_zero c)) (frI_J hf2) hA3.2.1.2.1
        have hC4 := CM_frR (CM_frJ hC hW hj4) hW hr3
        refine aw_iload_n e_An_solve_68 rfl ?_
        refine aw_aload_n e_An_solve_69 rfl ?_
        refine aw_getE e_An_solve_70 fl_An_46 hC4.1.2.1 ?_
        refine awN_icmp_ge e_An_solve_73 (by omega) (by omega) (fun h73 => ?_) (fun h73 => ?_)
        · refine aw_iconst (v := nI 1) e_An_solve_126 (by decide) ?_
          have hbN : b = nB V := by omega
          subst hbN
          exact aw_iret e_An_solve_127 rfl rfl (by
            rw [← ansV_1 h1.1]
            refine hQ _ _ _ _ hA3.1 hj4 (fun z => absurd h1.1 z) (fun _ c hc => ?_) (frL_t hg2 hg3) hr3
            dsimp only
            rw [h1.2 (2 * c) (by omega), h1.2 (2 * c + 1) (by omega)]
            exact ⟨(hv4 c hc).1, (hv4 c hc).2, hBd3 _ _ (by omega) (Nat.le_refl _), hBd3 _ _ (by omega) (Nat.le_refl _)⟩)
        · refine aw_aload_n e_An_solve_76 rfl ?_
          refine aw_getR e_An_solve_77 fl_An_9 (hS.1 _ _ _ _ rfl) ?_
          refine aw_iload_n e_An_solve_80 rfl ?_
          refine aw_aload_n e_An_solve_81 rfl ?_
          refine aw_getR e_An_solve_82 fl_An_20 (hS.1 _ _ _ _ rfl) ?_
          refine aw_iload_n e_An_solve_85 rfl ?_
          refine aw_iconst (v := nI 0) e_An_solve_86 (by decide) ?_
          refine aw_cS2 e_An_solve_87 ml_An_49 mf_An_column ms_An_column (c_An_column ?_)
          refine aw_aald e_An_solve_90 rfl (show _ < 24 by omega) (by omega) (hA3.1.1 _ (by omega)) ?_
          refine aw_aload_n e_An_solve_91 rfl ?_
          refine aw_getE e_An_solve_92 fl_An_42 hw4 ?_
          refine aw_lalE e_An_solve_95 rfl (show _ < 25 by omega) (by omega) (hA3.2.2 _ _ (by omega) (by omega)).1 ?_
          refine awN_l2i e_An_solve_96 ?_
          refine aw_iast e_An_solve_97 rfl (show _ < 12 by omega) (by omega) ?_
          refine aw_aload_n e_An_solve_98 rfl ?_
          refine aw_getR e_An_solve_99 fl_An_15 (hS.1 _ _ _ _ rfl) ?_
          refine aw_iload_n e_An_solve_102 rfl ?_
          refine aw_aload_n e_An_solve_103 rfl ?_
          refine aw_getR e_An_solve_104 fl_An_20 (hS.1 _ _ _ _ rfl) ?_
          refine aw_iload_n e_An_solve_107 rfl ?_
          refine aw_iconst (v := nI 1) e_An_solve_108 (by decide) ?_
          refine aw_cS2 e_An_solve_109 ml_An_49 mf_An_column ms_An_column (c_An_column ?_)
          refine aw_aald e_An_solve_112 rfl (show _ < 24 by omega) (by omega) (hA3.1.1 _ (by omega)) ?_
          refine aw_aload_n e_An_solve_113 rfl ?_
          refine aw_getE e_An_solve_114 fl_An_42 hw4 ?_
          refine aw_lalE e_An_solve_117 rfl (show _ < 25 by omega) (by omega) (hA3.2.2 _ _ (by omega) (by omega)).1 ?_
          refine awN_l2i e_An_solve_118 ?_
          refine aw_iast e_An_solve_119 rfl (show _ < 12 by omega) (by omega) ?_
          refine aw_inc3 e_An_solve_120 (inc1 _) ?_
          refine aw_goto e_An_solve_123 ?_
          refine ih h73 _ (fun c hc => ?_) (fun t i hti => ?_) ?_
          · by_cases e : c = b
            · subst e
              refine ⟨?_, ?_⟩
              · rw [sI_n (by omega), sI_s, upd, if_pos rfl]
                rfl
              · rw [sI_s, upd, if_pos rfl]
            · have := hv4 c (by omega)
              refine ⟨?_, ?_⟩
              · rw [sI_n (by omega), sI_s, upd, if_neg e]
                exact this.1
              · rw [sI_s, upd, if_neg e, sI_n (by omega)]
                exact this.2
          · rw [sI_n (by omega), sI_n (by omega)]
            exact hj4 t i hti
          · rw [sI_n (by omega), sI_n (by omega)]
            exact hw4
      · refine aw_ldc (v := -1000000006) e_An_solve_63 kc_An_45 ?_
        have h2 := hans.2.1 (fun r q1 q2 => hz r q1 (by omega)) h60
        exact aw_iret e_An_solve_65 rfl rfl (by rw [← ansV_2 h2]; exact hQ _ _ _ _ hA3.1 (frI_J hf2) (fun _ => hf2) (fun h => absurd h (by rw [h2]; decide)) (frL_t hg2 hg3) hr3)
    · refine aw_aload_n e_An_solve_30 rfl ?_
      refine aw_getR e_An_solve_31 fl_An_20 (hS.1 _ _ _ _ rfl) ?_
      refine aw_iload_n e_An_solve_34 rfl ?_
      refine aw_aald e_An_solve_35 rfl (show _ < 24 by omega) (by omega) (hA3.1.1 _ (by omega)) ?_
      refine aw_aload_n e_An_solve_36 rfl ?_
      refine aw_getE e_An_solve_37 fl_An_42 hA3.2.1.2.1 ?_
      refine aw_lalE e_An_solve_40 rfl (show _ < 25 by omega) (by omega) (hA3.2.2 _ _ (by omega) (by omega)).1 ?_
      have hb9 := hBd3 j _ h27 (Nat.le_refl _)
      refine aw_lconst (v := lN 0) e_An_solve_41 rfl ?_
      refine aw_lcmp e_An_solve_42 ?_
      refine awL_eq e_An_solve_43 (by omega) (by omega) (fun h43 => ?_) (fun h43 => ?_)
      · refine aw_inc3 e_An_solve_49 (inc1 _) ?_
        refine aw_goto e_An_solve_52 ?_
        refine ih h27 (by omega) (fun r h1 h2 => ?_)
        by_cases e : r = j
        · rw [e]; exact h43
        · exact hz r h1 (by omega)
      · refine aw_ldc (v := -1000000002) e_An_solve_46 kc_An_29 ?_
        have h0 := hans.1 ⟨j, hkj, h27, h43⟩
        exact aw_iret e_An_solve_48 rfl rfl (by rw [← ansV_0 h0]; exact hQ _ _ _ _ hA3.1 (frI_J hf2) (fun _ => hf2) (fun h => absurd h (by rw [h0]; decide)) (frL_t hg2 hg3) hr3)
  · refine aw_ldc (v := -1000000002) e_An_solve_7 kc_An_29 ?_
    exact aw_iret e_An_solve_9 rfl rfl (by rw [← ansV_0 (ansC_w h4)]; exact hQ _ _ _ _ hG (fun _ _ _ => rfl) (fun _ _ _ _ => rfl) (fun h => absurd h (by rw [ansC_w h4]; decide)) (fun _ _ _ => rfl) (fun _ _ _ => rfl))
