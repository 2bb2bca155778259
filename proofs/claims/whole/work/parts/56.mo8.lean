/-! ===== the model: its answer ===== -/
theorem so_main {l : Launch} {E : En} {d : Nat} {I : It} {L : Lt} {R : Rt} {Z Z0 : Zt} {Q : Qt} {n w : Nat} {F : Nat → Nat → Nat} (hS : Sta R) (hT : TM I L n F) (hw24 : w ≤ 24) (kend : ∀ L2 F2 k pv, TM I L2 n F2 → GI (fw w F2) n w w k pv → (∀ x, Sol n w (fw w F2) x ↔ Sol n w (fw w F) x) → frT L L2 → AWq l E (d + 4) M_Mo_solve Z0 281 [some (vr 9 0), some (vi (nI w)), some (vi (nI k)), some (vi (nI w)), none, none, none, none, none, none, none] [] I L2 R Z Q) : AWq l E (d + 4) M_Mo_solve Z0 51 [some (vr 9 0), some (vi (nI w)), some (vi (nI 0)), some (vi (nI 0)), none, none, none, none, none, none, none] [] I L R Z Q := by
  have hn := hT.2.1
  refine up_loop (P := fun c => ∀ L1 F1 k pv, TM I L1 n F1 → GI (fw w F1) n w c k pv → (∀ x, Sol n w (fw w F1) x ↔ Sol n w (fw w F) x) → frT L L1 → AWq l E (d + 4) M_Mo_solve Z0 51 [some (vr 9 0), some (vi (nI w)), some (vi (nI k)), some (vi (nI c)), none, none, none, none, none, none, none] [] I L1 R Z Q) (N := w) (fun c hc0 ih L1 F1 k pv hT1 hG hSo hf1 => ?_) 0 (Nat.zero_le _) L F 0 (fun _ => 0) hT (GI_0 _) (fun x => Iff.rfl) frT_0
  have hkn := hG.1
  refine aw_iload_n e_Mo_solve_51 rfl ?_
  refine aw_iload_n e_Mo_solve_52 rfl ?_
  refine awN_icmp_ge e_Mo_solve_53 (by omega) (by omega) (fun h53 => ?_) (fun h53 => ?_)
  · obtain rfl : c = w := by omega
    exact kend _ _ _ _ hT1 hG hSo hf1
  · refine aw_iload_n e_Mo_solve_56 rfl ?_
    refine aw_ist4 e_Mo_solve_57 ?_
    refine so_at hS hT1 h53 hw24 hG.1.2.1 (fun f hkf hfn hne => ?_) (fun hz => ?_) k hG.1.2.1 (Nat.le_refl _) (fun r h1 h2 => absurd h2 (by omega))
    · refine aw_aload_n e_Mo_solve_103 rfl ?_
      refine aw_iload e_Mo_solve_104 rfl ?_
      refine aw_iload_n e_Mo_solve_106 rfl ?_
      refine aw_cV2 e_Mo_solve_107 ml_Mo_180 mf_Mo_swap mv_Mo_swap (c_Mo_swap hS hT1 hfn (by omega) (fun L2 hT2 hf2 => ?_))
      refine aw_aload_n e_Mo_solve_110 rfl ?_
      refine aw_getR e_Mo_solve_111 fl_Mo_43 (hS.1 _ _ _ _ rfl) ?_
      refine aw_bipush (v := nI 25) e_Mo_solve_114 (by decide) ?_
      refine aw_iload_n e_Mo_solve_116 rfl ?_
      first | refine awN_imul e_Mo_solve_117 ?_ | refine aw_imul e_Mo_solve_117 ?_
      refine aw_iload_n e_Mo_solve_118 rfl ?_
      first | refine awN_iadd e_Mo_solve_119 ?_ | refine aw_iadd e_Mo_solve_119 ?_
      refine aw_lalE e_Mo_solve_120 rfl (show _ < 600 by omega) (by omega) ((TM_v hT2 (by omega) (by omega)).trans (show _ = lN (F1 f c) by unfold swp; rw [if_pos rfl])) ?_
      refine aw_cS1 e_Mo_solve_121 ml_Mo_95 mf_Mo_over ms_Mo_over (c_Mo_over (hT1.2.2 f c hfn (by omega)).2 ?_)
      refine aw_lst5 e_Mo_solve_124 ?_
      refine aw_iconst (v := nI 0) e_Mo_solve_126 (by decide) ?_
      refine aw_ist7 e_Mo_solve_127 ?_
      refine so_scl hS hT2 h53 hw24 (by omega) (ivP_lt _) (fun L3 hT3 hf3 => ?_)
      refine aw_iconst (v := nI 0) e_Mo_solve_173 (by decide) ?_
      refine aw_ist7 e_Mo_solve_174 ?_
      refine so_clr hS hT3 h53 hw24 (by omega) (fun L4 hT4 hf4 => ?_)
      refine aw_inc2 e_Mo_solve_272 (inc1 _) ?_
      refine aw_inc3 e_Mo_solve_275 (inc1 _) ?_
      refine aw_goto e_Mo_solve_278 ?_
      refine aw_drop 4 ?_
      refine aw_drop 5 ?_
      exact ih h53 _ _ _ _ hT4 (GI_mo (x := fun _ => 0) hG h53 (TM_Bd hT1 hw24) hkf hfn hne).1 (fun x => ((GI_mo hG h53 (TM_Bd hT1 hw24) hkf hfn hne).2).trans (hSo x)) (frT_t (frT_t (frT_t hf1 hf2) hf3) hf4)
    · refine aw_inc3 e_Mo_solve_275 (inc1 _) ?_
      refine aw_goto e_Mo_solve_278 ?_
      refine aw_drop 4 ?_
      exact ih h53 _ _ _ _ hT1 (GI_skip hG h53 (fun r a b => by rw [fw_lt _ _ h53]; exact hz r a b)) hSo hf1
theorem fw_w (w : Nat) (F : Nat → Nat → Nat) (r : Nat) : fw w F r w = F r 24 := by unfold fw fwr; rw [if_neg (Nat.lt_irrefl w)]
def aAns (L : Lt) (V : Mc) : Prop := ∀ c, c < 2 * nB V → L 38 0 c = lN (ansX V c) ∧ ansX V c < 1000003
section LEQ
variable {l : Launch} {E : En} {d : Nat} {M : Mt} {Z0 : Zt} {pc pc2 tgt : Nat} {ls : List (Option AV)} {st : List AV} {I : It} {L : Lt} {R : Rt} {Z : Zt} {Q : Qt}
end LEQ
theorem c_Mo_solve {l : Launch} {E : En} {d : Nat} {I : It} {L : Lt} {R : Rt} {Z : Zt} {Q : Qt} {V : Mc} (hS : Sta R) (hC : MC I 0 V) (hW : WF V) (hQ : ∀ I2 L2, fl I I2 → (ansC V = 1 → aAns L2 V) → (∀ t i, t ≠ 37 → t ≠ 38 → L2 t i = L t i) → Q (some (vi (ansV V))) I2 L2 R Z) : AMet l E (d + 4) M_Mo_solve [vr 9 0] I L R Z Q := by
  have hnb := hW.1.2.1
  have hnp := hW.1.1
  have hnx := hW.1.2.2.1
  have hns := hW.1.2.2.2
  refine AMet.of mf_Mo_solve rfl (Nat.le_of_ble_eq_true rfl) ?_
  refine aw_aload_n e_Mo_solve_0 rfl ?_
  refine aw_cV0 e_Mo_solve_1 ml_Mo_142 mf_Mo_isWhole mv_Mo_isWhole (c_Mo_isWhole hS hC hW ?_)
  refine awB_ne e_Mo_solve_4 (fun h4 => ?_) (fun h4 => ?_)
  · refine aw_aload_n e_Mo_solve_10 rfl ?_
    refine aw_iconst (v := nI 0) e_Mo_solve_11 (by decide) ?_
    refine aw_putI e_Mo_solve_12 fl_Mo_146 ?_
    refine aw_iconst (v := nI 0) e_Mo_solve_15 (by decide) ?_
    refine aw_ist1 e_Mo_solve_16 ?_
    have hT0 : TM (sI I 9 0 13 (nI 0)) L 0 (fun _ _ => 0) := ⟨sI_eq _ _ _ _ _, by decide, fun r c h => absurd h (Nat.not_lt_zero r)⟩
    have hL0 : LWI V (2 * nB V) 0 0 (fw (2 * nB V) (fun _ _ => 0)) := ⟨rfl, fun x _ => ⟨fun _ q hq => absurd hq (Nat.not_lt_zero q), fun _ r hr => absurd hr (Nat.not_lt_zero r)⟩⟩
    refine up_loop (P := fun p => ∀ I1 L1 F1 m, TM I1 L1 m F1 → LWI V (2 * nB V) p m (fw (2 * nB V) F1) → fl I I1 → frT L L1 → AWq l E (d + 4) M_Mo_solve Z 17 [some (vr 9 0), some (vi (nI p)), none, none, none, none, none, none, none, none, none] [] I1 L1 R Z Q) (N := nP V) (fun p hp0 ih I1 L1 F1 n hT1 hL1 hfl1 hf1 => ?_) 0 (Nat.zero_le _) _ L _ 0 hT0 hL0 (fl_s fl_0) frT_0
    have hC1 : MC I1 0 V := hfl1.C hC
    refine aw_iload_n e_Mo_solve_17 rfl ?_
    refine aw_aload_n e_Mo_solve_18 rfl ?_
    refine aw_getR e_Mo_solve_19 fl_Mo_7 (hS.1 _ _ _ _ rfl) ?_
    refine aw_iconst (v := nI 0) e_Mo_solve_22 (by decide) ?_
    refine aw_ialE e_Mo_solve_23 rfl (show _ < 3110 by omega) (by omega) (by first | exact hC1.1.1 | exact hC1.1.2.1 | exact hC1.1.2.2.1 | exact hC1.1.2.2.2 | exact hC1.pk (by omega) | exact hC1.2.1 _ _ (by omega) (by decide) | exact hC1.2.2.1 _ (by omega) | exact hC1.2.2.2.1 _ (by omega)) ?_
    refine awN_icmp_ge e_Mo_solve_24 (by omega) (by omega) (fun h24 => ?_) (fun h24 => ?_)
    · refine aw_iconst (v := nI 2) e_Mo_solve_38 (by decide) ?_
      refine aw_aload_n e_Mo_solve_39 rfl ?_
      refine aw_getR e_Mo_solve_40 fl_Mo_7 (hS.1 _ _ _ _ rfl) ?_
      refine aw_iconst (v := nI 1) e_Mo_solve_43 (by decide) ?_
      refine aw_ialE e_Mo_solve_44 rfl (show _ < 3110 by omega) (by omega) (by first | exact hC1.1.1 | exact hC1.1.2.1 | exact hC1.1.2.2.1 | exact hC1.1.2.2.2 | exact hC1.pk (by omega) | exact hC1.2.1 _ _ (by omega) (by decide) | exact hC1.2.2.1 _ (by omega) | exact hC1.2.2.2.1 _ (by omega)) ?_
      first | refine awN_imul e_Mo_solve_45 ?_ | refine aw_imul e_Mo_solve_45 ?_
      refine aw_ist1 e_Mo_solve_46 ?_
      refine aw_iconst (v := nI 0) e_Mo_solve_47 (by decide) ?_
      refine aw_ist2 e_Mo_solve_48 ?_
      refine aw_iconst (v := nI 0) e_Mo_solve_49 (by decide) ?_
      refine aw_ist3 e_Mo_solve_50 ?_
      obtain rfl : p = nP V := by omega
      have hn := hT1.2.1
      refine so_main hS hT1 (by omega) (fun L2 F2 k pv hT2 hG hSo hf2 => ?_)
      have hkn := hG.1
      have hAG := ans_G (A0 := fw (2 * nB V) F2) h4 (fun x hx => (hSo x).trans (hL1.2 x hx)) hG (Or.inl rfl) (TM_Bd hT2 (by omega))
      refine aw_iload_n e_Mo_solve_281 rfl ?_
      refine aw_ist3 e_Mo_solve_282 ?_
      have k283 : ∀ r, r ≤ n → k ≤ r → (∀ q, k ≤ q → q < r → F2 q 24 = 0) → AWq l E (d + 4) M_Mo_solve Z 283 [some (vr 9 0), some (vi (nI (2 * nB V))), some (vi (nI k)), some (vi (nI r)), none, none, none, none, none, none, none] [] I1 L2 R Z Q := by
        refine up_loop (fun r hr ih hkr hz => ?_)
        refine aw_iload_n e_Mo_solve_283 rfl ?_
        refine aw_aload_n e_Mo_solve_284 rfl ?_
        refine aw_getE e_Mo_solve_285 fl_Mo_146 hT2.1 ?_
        refine awN_icmp_ge e_Mo_solve_288 (by omega) (by omega) (fun h288 => ?_) (fun h288 => ?_)
        · have hz3 : ∀ q, k ≤ q → q < n → fw (2 * nB V) F2 q (2 * nB V) = 0 := fun q h1 h2 => by rw [fw_w]; exact hz q h1 (by omega)
          have k321 : ∀ i, i ≤ 2 * nB V → ∀ L3 : Lt, (k = 2 * nB V → ∀ c, c < i → L3 38 0 c = lN (F2 c 24)) → (∀ t i, t ≠ 38 → L3 t i = L2 t i) → AWq l E (d + 4) M_Mo_solve Z 321 [some (vr 9 0), some (vi (nI (2 * nB V))), some (vi (nI k)), some (vi (nI i)), none, none, none, none, none, none, none] [] I1 L3 R Z Q := by
            refine up_loop (fun i hi ih L3 hans hf3 => ?_)
            refine aw_iload_n e_Mo_solve_321 rfl ?_
            refine aw_iload_n e_Mo_solve_322 rfl ?_
            refine awN_icmp_ge e_Mo_solve_323 (by omega) (by omega) (fun h323 => ?_) (fun h323 => ?_)
            · refine aw_iload_n e_Mo_solve_357 rfl ?_
              refine aw_iload_n e_Mo_solve_358 rfl ?_
              refine awN_icmp_ne e_Mo_solve_359 (by omega) (by omega) (fun h359 => ?_) (fun h359 => ?_)
              · refine aw_ldc (v := -1000000006) e_Mo_solve_366 kc_Mo_184 ?_
                first
                  | (exfalso; omega)
                  | (have hc1 := hAG.2.2 hz3 h359
                     have hq := hQ I1 L3 hfl1 (fun _ c hc => by rw [hc1.2 c hc, fw_w, hans h359 c (by omega)]; exact ⟨rfl, (hT2.2.2 c 24 (by omega) (by decide)).2⟩) (fun t i h37 h38 => by rw [hf3 t i h38, hf2 t i (fun z => h37 z.1), hf1 t i (fun z => h37 z.1)])
                     rw [ansV_1 hc1.1] at hq
                     exact aw_iret e_Mo_solve_368 rfl rfl hq)
                  | (have hc2 := hAG.2.1 hz3 (by omega)
                     have hq := hQ I1 L3 hfl1 (fun h1 => absurd h1 (by omega)) (fun t i h37 h38 => by rw [hf3 t i h38, hf2 t i (fun z => h37 z.1), hf1 t i (fun z => h37 z.1)])
                     rw [ansV_2 hc2] at hq
                     exact aw_iret e_Mo_solve_368 rfl rfl hq)
              · refine aw_iconst (v := nI 1) e_Mo_solve_362 (by decide) ?_
                refine aw_goto e_Mo_solve_363 ?_
                first
                  | (exfalso; omega)
                  | (have hc1 := hAG.2.2 hz3 h359
                     have hq := hQ I1 L3 hfl1 (fun _ c hc => by rw [hc1.2 c hc, fw_w, hans h359 c (by omega)]; exact ⟨rfl, (hT2.2.2 c 24 (by omega) (by decide)).2⟩) (fun t i h37 h38 => by rw [hf3 t i h38, hf2 t i (fun z => h37 z.1), hf1 t i (fun z => h37 z.1)])
                     rw [ansV_1 hc1.1] at hq
                     exact aw_iret e_Mo_solve_368 rfl rfl hq)
                  | (have hc2 := hAG.2.1 hz3 (by omega)
                     have hq := hQ I1 L3 hfl1 (fun h1 => absurd h1 (by omega)) (fun t i h37 h38 => by rw [hf3 t i h38, hf2 t i (fun z => h37 z.1), hf1 t i (fun z => h37 z.1)])
                     rw [ansV_2 hc2] at hq
                     exact aw_iret e_Mo_solve_368 rfl rfl hq)
            · refine aw_iload_n e_Mo_solve_326 rfl ?_
              refine aw_iload_n e_Mo_solve_327 rfl ?_
              refine awN_icmp_ne e_Mo_solve_328 (by omega) (by omega) (fun h328 => ?_) (fun h328 => ?_)
              · refine aw_iload_n e_Mo_solve_357 rfl ?_
                refine aw_iload_n e_Mo_solve_358 rfl ?_
                refine awN_icmp_ne e_Mo_solve_359 (by omega) (by omega) (fun h359 => ?_) (fun h359 => ?_)
                · refine aw_ldc (v := -1000000006) e_Mo_solve_366 kc_Mo_184 ?_
                  first
                    | (exfalso; omega)
                    | (have hc1 := hAG.2.2 hz3 h359
                       have hq := hQ I1 L3 hfl1 (fun _ c hc => by rw [hc1.2 c hc, fw_w, hans h359 c (by omega)]; exact ⟨rfl, (hT2.2.2 c 24 (by omega) (by decide)).2⟩) (fun t i h37 h38 => by rw [hf3 t i h38, hf2 t i (fun z => h37 z.1), hf1 t i (fun z => h37 z.1)])
                       rw [ansV_1 hc1.1] at hq
                       exact aw_iret e_Mo_solve_368 rfl rfl hq)
                    | (have hc2 := hAG.2.1 hz3 (by omega)
                       have hq := hQ I1 L3 hfl1 (fun h1 => absurd h1 (by omega)) (fun t i h37 h38 => by rw [hf3 t i h38, hf2 t i (fun z => h37 z.1), hf1 t i (fun z => h37 z.1)])
                       rw [ansV_2 hc2] at hq
                       exact aw_iret e_Mo_solve_368 rfl rfl hq)
                · refine aw_iconst (v := nI 1) e_Mo_solve_362 (by decide) ?_
                  refine aw_goto e_Mo_solve_363 ?_
                  first
                    | (exfalso; omega)
                    | (have hc1 := hAG.2.2 hz3 h359
                       have hq := hQ I1 L3 hfl1 (fun _ c hc => by rw [hc1.2 c hc, fw_w, hans h359 c (by omega)]; exact ⟨rfl, (hT2.2.2 c 24 (by omega) (by decide)).2⟩) (fun t i h37 h38 => by rw [hf3 t i h38, hf2 t i (fun z => h37 z.1), hf1 t i (fun z => h37 z.1)])
                       rw [ansV_1 hc1.1] at hq
                       exact aw_iret e_Mo_solve_368 rfl rfl hq)
                    | (have hc2 := hAG.2.1 hz3 (by omega)
                       have hq := hQ I1 L3 hfl1 (fun h1 => absurd h1 (by omega)) (fun t i h37 h38 => by rw [hf3 t i h38, hf2 t i (fun z => h37 z.1), hf1 t i (fun z => h37 z.1)])
                       rw [ansV_2 hc2] at hq
                       exact aw_iret e_Mo_solve_368 rfl rfl hq)
              · refine aw_aload_n e_Mo_solve_331 rfl ?_
                refine aw_getR e_Mo_solve_332 fl_Mo_47 (hS.1 _ _ _ _ rfl) ?_
                refine aw_iload_n e_Mo_solve_335 rfl ?_
                refine aw_aload_n e_Mo_solve_336 rfl ?_
                refine aw_getR e_Mo_solve_337 fl_Mo_43 (hS.1 _ _ _ _ rfl) ?_
                refine aw_bipush (v := nI 25) e_Mo_solve_340 (by decide) ?_
                refine aw_iload_n e_Mo_solve_342 rfl ?_
                first | refine awN_imul e_Mo_solve_343 ?_ | refine aw_imul e_Mo_solve_343 ?_
                refine aw_bipush (v := nI 25) e_Mo_solve_344 (by decide) ?_
                first | refine awN_iadd e_Mo_solve_346 ?_ | refine aw_iadd e_Mo_solve_346 ?_
                refine aw_iconst (v := nI 1) e_Mo_solve_347 (by decide) ?_
                refine awN_isub e_Mo_solve_348 (by omega) ?_
                rw [show 25 * i + 25 - 1 = 25 * i + 24 by omega]
                refine aw_lalE e_Mo_solve_349 rfl (show _ < 600 by omega) (by omega) ((congrFun (hf3 37 0 (by decide)) _).trans (TM_v hT2 (by omega) (by decide))) ?_
                refine aw_last e_Mo_solve_350 rfl (show _ < 24 by omega) (by omega) ?_
                refine aw_inc3 e_Mo_solve_351 (inc1 _) ?_
                refine aw_goto e_Mo_solve_354 ?_
                refine ih h323 _ (fun hk c hc => ?_) (fun t i h => by rw [sL_n (by omega)]; exact hf3 t i h)
                by_cases e : c = i
                · rw [e, sL_eq]
                · rw [sL_ne e]; exact hans hk c (by omega)
          refine aw_iconst (v := nI 0) e_Mo_solve_319 (by decide) ?_
          refine aw_ist3 e_Mo_solve_320 ?_
          exact k321 0 (Nat.zero_le _) L2 (fun _ c hc => absurd hc (Nat.not_lt_zero c)) (fun _ _ _ => rfl)
        · refine aw_aload_n e_Mo_solve_291 rfl ?_
          refine aw_getR e_Mo_solve_292 fl_Mo_43 (hS.1 _ _ _ _ rfl) ?_
          refine aw_bipush (v := nI 25) e_Mo_solve_295 (by decide) ?_
          refine aw_iload_n e_Mo_solve_297 rfl ?_
          first | refine awN_imul e_Mo_solve_298 ?_ | refine aw_imul e_Mo_solve_298 ?_
          refine aw_bipush (v := nI 25) e_Mo_solve_299 (by decide) ?_
          first | refine awN_iadd e_Mo_solve_301 ?_ | refine aw_iadd e_Mo_solve_301 ?_
          refine aw_iconst (v := nI 1) e_Mo_solve_302 (by decide) ?_
          refine awN_isub e_Mo_solve_303 (by omega) ?_
          rw [show 25 * r + 25 - 1 = 25 * r + 24 by omega]
          refine aw_lalE e_Mo_solve_304 rfl (show _ < 600 by omega) (by omega) (TM_v hT2 (by omega) (by decide)) ?_
          refine aw_lconst (v := lN 0) e_Mo_solve_305 rfl ?_
          refine aw_lcmp e_Mo_solve_306 ?_
          refine awL_eq e_Mo_solve_307 (by have := (hT2.2.2 r 24 (by omega) (by decide)).2; omega) (by decide) (fun h307 => ?_) (fun h307 => ?_)
          · refine aw_inc3 e_Mo_solve_313 (inc1 _) ?_
            refine aw_goto e_Mo_solve_316 ?_
            exact ih h288 (by omega) (fun q h1 h2 => by by_cases e : q = r; exact e ▸ h307; exact hz q h1 (by omega))
          · refine aw_ldc (v := -1000000002) e_Mo_solve_310 kc_Mo_94 ?_
            have hc0 := hAG.1 ⟨r, hkr, h288, by rw [fw_w]; exact h307⟩
            have hq := hQ I1 L2 hfl1 (fun h1 => absurd h1 (by omega)) (fun t i h37 h38 => by rw [hf2 t i (fun z => h37 z.1), hf1 t i (fun z => h37 z.1)])
            rw [ansV_0 hc0] at hq
            exact aw_iret e_Mo_solve_312 rfl rfl hq
      exact k283 k hkn.2.1 (Nat.le_refl _) (fun q h1 h2 => absurd h2 (by omega))
    · refine aw_aload_n e_Mo_solve_27 rfl ?_
      refine aw_iload_n e_Mo_solve_28 rfl ?_
      refine aw_cV1 e_Mo_solve_29 ml_Mo_177 mf_Mo_lawsOf mv_Mo_lawsOf (c_Mo_lawsOf hS hC1 hW hT1 rfl h24 hL1 h4 (fun I2 L2 F2 m2 hT2 hL2 hfl2 hf2 => ?_))
      refine aw_inc1 e_Mo_solve_32 (inc1 _) ?_
      refine aw_goto e_Mo_solve_35 ?_
      exact ih h24 _ _ _ _ hT2 hL2 (fl_t hfl1 hfl2) (frT_t hf1 hf2)
  · refine aw_ldc (v := -1000000002) e_Mo_solve_7 kc_Mo_94 ?_
    have hq := hQ I L fl_0 (fun h => absurd (ansC_w h4) (by omega)) (fun _ _ _ _ => rfl)
    rw [ansV_0 (ansC_w h4)] at hq
    exact aw_iret e_Mo_solve_9 rfl rfl hq
theorem c_Mo_answers {l : Launch} {E : En} {d : Nat} {I : It} {L : Lt} {R : Rt} {Z : Zt} {Q : Qt} {S : AS} (hS : Sta R) (hM : MSt I S) (hA : AWF S) (hQ : ∀ I2 L2, MSt I2 (op_answers S).1 → fK I I2 → Q (some (vi (op_answers S).2)) I2 L2 R Z) : AMet l E (d + 5) M_Mo_answers [vr 9 0] I L R Z Q := by
  have hC := hM.1
  have hW := hA.1.1
  have hnb := hW.1.2.1
  have hnp := hW.1.1
  have hnx := hW.1.2.2.1
  have hns := hW.1.2.2.2
  refine AMet.of mf_Mo_answers rfl (Nat.le_of_ble_eq_true rfl) ?_
  refine aw_aload_n e_Mo_answers_0 rfl ?_
  refine aw_cV0 e_Mo_answers_1 ml_Mo_185 mf_Mo_solve mv_Mo_solve (c_Mo_solve hS hC hW (fun I2 L2 hfl _ _ => ?_))
  exact aw_iret e_Mo_answers_4 rfl rfl (hQ _ _ (hM.same hfl.M (hfl.1 28 0 (by decide))) hfl.M.K)
