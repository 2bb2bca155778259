/-! ===== the law: its loop ===== -/
theorem lw_loop {l : Launch} {E : En} {d : Nat} {Z0 : Zt} (hlen : E.2.2.2.2.1 ≤ 3072) : ∀ n, n ≤ E.2.2.2.2.1 / 6 → ∀ (I : It) (L : Lt) (R : Rt) (Z : Zt) (S : AS) (xn : Nat), CS I R Z S → MSt I S → Z.2.1 = 168 + 2 * xn → xn ≤ n → Z.2.2 ≤ 13093 + 100 * n → AWq l E (d + 1412) M_Lw_law Z0 18 [some (vr 53 0), some (vr 8 0), some (vr 9 0), some (vi (nI (6 * n)))] [] I L R Z lwQ := by
  refine up_loop (fun n hn ih I L R Z S xn hCS hMS hZ hxn hsl => ?_)
  refine aw_iload_n e_Lw_law_18 rfl ?_
  refine aw_aload_n e_Lw_law_19 rfl ?_
  refine aw_scLen e_Lw_law_20 ?_
  refine aw_bipush (v := nI 6) e_Lw_law_21 (by decide) ?_
  refine aw_isub e_Lw_law_23 ?_
  have hT1 := sub6 (n := E.2.2.2.2.1) (by omega)
  have hT2 := nT (n := 6 * n) (by omega)
  refine awZ_icmp_gt e_Lw_law_24 (fun h24 => ?_) (fun h24 => ?_)
  · refine aw_iconst (v := nI 1) e_Lw_law_1320 (by decide) ?_
    exact awB_1 (c := True) e_Lw_law_1321 trivial ⟨by rw [bI_t trivial], by omega, by omega⟩
  · have hn6 : 6 * n + 6 ≤ E.2.2.2.2.1 := by omega
    have k1314 : ∀ (I : It) (L : Lt) (R : Rt) (Z : Zt) (S : AS) (xn : Nat), CS I R Z S → MSt I S → Z.2.1 = 168 + 2 * xn → xn ≤ n + 1 → Z.2.2 ≤ 13093 + 100 * (n + 1) → AWq l E (d + 1412) M_Lw_law Z0 1314 [some (vr 53 0), some (vr 8 0), some (vr 9 0), some (vi (nI (6 * n)))] [] I L R Z lwQ := fun I L R Z S xn hCS hMS hZ hxn hsl => by
      refine aw_inc3 e_Lw_law_1314 (inc6 n) ?_
      refine aw_goto e_Lw_law_1317 ?_
      exact ih (by omega) I L R Z S xn hCS hMS hZ hxn hsl
    refine aw_aload_n e_Lw_law_27 rfl ?_
    refine aw_iload_n e_Lw_law_28 rfl ?_
    refine aw_scLd e_Lw_law_29 rfl (by omega) (by omega) ?_
    refine aw_bipush (v := nI 63) e_Lw_law_30 (by decide) ?_
    refine aw_iand e_Lw_law_32 ?_
    by_cases hts : inR (E.2.2.2.2.2 (6 * n) &&& nI 63) 38
    · obtain ⟨j, hj, hjx⟩ := inR_nI hts
      rw [hjx]
      have hj38 : j = 0 ∨ j = 1 ∨ j = 2 ∨ j = 3 ∨ j = 4 ∨ j = 5 ∨ j = 6 ∨ j = 7 ∨ j = 8 ∨ j = 9 ∨ j = 10 ∨ j = 11 ∨ j = 12 ∨ j = 13 ∨ j = 14 ∨ j = 15 ∨ j = 16 ∨ j = 17 ∨ j = 18 ∨ j = 19 ∨ j = 20 ∨ j = 21 ∨ j = 22 ∨ j = 23 ∨ j = 24 ∨ j = 25 ∨ j = 26 ∨ j = 27 ∨ j = 28 ∨ j = 29 ∨ j = 30 ∨ j = 31 ∨ j = 32 ∨ j = 33 ∨ j = 34 ∨ j = 35 ∨ j = 36 ∨ j = 37 := by omega
      rcases hj38 with rfl | rfl | rfl | rfl | rfl | rfl | rfl | rfl | rfl | rfl | rfl | rfl | rfl | rfl | rfl | rfl | rfl | rfl | rfl | rfl | rfl | rfl | rfl | rfl | rfl | rfl | rfl | rfl | rfl | rfl | rfl | rfl | rfl | rfl | rfl | rfl | rfl | rfl
      · refine aw_tsIn e_Lw_law_33 (tgt := 200) (by decide) (by decide) rfl rfl ?_
        exact lw_0 hlen hn6 hCS hMS hZ hxn hsl k1314
      · refine aw_tsIn e_Lw_law_33 (tgt := 243) (by decide) (by decide) rfl rfl ?_
        exact lw_1 hlen hn6 hCS hMS hZ hxn hsl k1314
      · refine aw_tsIn e_Lw_law_33 (tgt := 276) (by decide) (by decide) rfl rfl ?_
        exact lw_2 hlen hn6 hCS hMS hZ hxn hsl k1314
      · refine aw_tsIn e_Lw_law_33 (tgt := 309) (by decide) (by decide) rfl rfl ?_
        exact lw_3 hlen hn6 hCS hMS hZ hxn hsl k1314
      · refine aw_tsIn e_Lw_law_33 (tgt := 352) (by decide) (by decide) rfl rfl ?_
        exact lw_4 hlen hn6 hCS hMS hZ hxn hsl k1314
      · refine aw_tsIn e_Lw_law_33 (tgt := 385) (by decide) (by decide) rfl rfl ?_
        exact lw_5 hlen hn6 hCS hMS hZ hxn hsl k1314
      · refine aw_tsIn e_Lw_law_33 (tgt := 408) (by decide) (by decide) rfl rfl ?_
        exact lw_6 hlen hn6 hCS hMS hZ hxn hsl k1314
      · refine aw_tsIn e_Lw_law_33 (tgt := 441) (by decide) (by decide) rfl rfl ?_
        exact lw_7 hlen hn6 hCS hMS hZ hxn hsl k1314
      · refine aw_tsIn e_Lw_law_33 (tgt := 454) (by decide) (by decide) rfl rfl ?_
        exact lw_8 hlen hn6 hCS hMS hZ hxn hsl k1314
      · refine aw_tsIn e_Lw_law_33 (tgt := 467) (by decide) (by decide) rfl rfl ?_
        exact lw_9 hlen hn6 hCS hMS hZ hxn hsl k1314
      · refine aw_tsIn e_Lw_law_33 (tgt := 490) (by decide) (by decide) rfl rfl ?_
        exact lw_10 hlen hn6 hCS hMS hZ hxn hsl k1314
      · refine aw_tsIn e_Lw_law_33 (tgt := 513) (by decide) (by decide) rfl rfl ?_
        exact lw_11 hlen hn6 hCS hMS hZ hxn hsl k1314
      · refine aw_tsIn e_Lw_law_33 (tgt := 536) (by decide) (by decide) rfl rfl ?_
        exact lw_12 hlen hn6 hCS hMS hZ hxn hsl k1314
      · refine aw_tsIn e_Lw_law_33 (tgt := 579) (by decide) (by decide) rfl rfl ?_
        exact lw_13 hlen hn6 hCS hMS hZ hxn hsl k1314
      · refine aw_tsIn e_Lw_law_33 (tgt := 602) (by decide) (by decide) rfl rfl ?_
        exact lw_14 hlen hn6 hCS hMS hZ hxn hsl k1314
      · refine aw_tsIn e_Lw_law_33 (tgt := 615) (by decide) (by decide) rfl rfl ?_
        exact lw_15 hlen hn6 hCS hMS hZ hxn hsl k1314
      · refine aw_tsIn e_Lw_law_33 (tgt := 648) (by decide) (by decide) rfl rfl ?_
        exact lw_16 hlen hn6 hCS hMS hZ hxn hsl k1314
      · refine aw_tsIn e_Lw_law_33 (tgt := 681) (by decide) (by decide) rfl rfl ?_
        exact lw_17 hlen hn6 hCS hMS hZ hxn hsl k1314
      · refine aw_tsIn e_Lw_law_33 (tgt := 704) (by decide) (by decide) rfl rfl ?_
        exact lw_18 hlen hn6 hCS hMS hZ hxn hsl k1314
      · refine aw_tsIn e_Lw_law_33 (tgt := 747) (by decide) (by decide) rfl rfl ?_
        exact lw_19 hlen hn6 hCS hMS hZ hxn hsl k1314
      · refine aw_tsIn e_Lw_law_33 (tgt := 770) (by decide) (by decide) rfl rfl ?_
        exact lw_20 hlen hn6 hCS hMS hZ hxn hsl k1314
      · refine aw_tsIn e_Lw_law_33 (tgt := 803) (by decide) (by decide) rfl rfl ?_
        exact lw_21 hlen hn6 hCS hMS hZ hxn hsl k1314
      · refine aw_tsIn e_Lw_law_33 (tgt := 816) (by decide) (by decide) rfl rfl ?_
        exact lw_22 hlen hn6 hCS hMS hZ hxn hsl k1314
      · refine aw_tsIn e_Lw_law_33 (tgt := 829) (by decide) (by decide) rfl rfl ?_
        exact lw_23 hlen hn6 hCS hMS hZ hxn hsl k1314
      · refine aw_tsIn e_Lw_law_33 (tgt := 862) (by decide) (by decide) rfl rfl ?_
        exact lw_24 hlen hn6 hCS hMS hZ hxn hsl k1314
      · refine aw_tsIn e_Lw_law_33 (tgt := 905) (by decide) (by decide) rfl rfl ?_
        exact lw_25 hlen hn6 hCS hMS hZ hxn hsl k1314
      · refine aw_tsIn e_Lw_law_33 (tgt := 948) (by decide) (by decide) rfl rfl ?_
        exact lw_26 hlen hn6 hCS hMS hZ hxn hsl k1314
      · refine aw_tsIn e_Lw_law_33 (tgt := 991) (by decide) (by decide) rfl rfl ?_
        exact lw_27 hlen hn6 hCS hMS hZ hxn hsl k1314
      · refine aw_tsIn e_Lw_law_33 (tgt := 1014) (by decide) (by decide) rfl rfl ?_
        exact lw_28 hlen hn6 hCS hMS hZ hxn hsl k1314
      · refine aw_tsIn e_Lw_law_33 (tgt := 1077) (by decide) (by decide) rfl rfl ?_
        exact lw_29 hlen hn6 hCS hMS hZ hxn hsl k1314
      · refine aw_tsIn e_Lw_law_33 (tgt := 1120) (by decide) (by decide) rfl rfl ?_
        exact lw_30 hlen hn6 hCS hMS hZ hxn hsl k1314
      · refine aw_tsIn e_Lw_law_33 (tgt := 1153) (by decide) (by decide) rfl rfl ?_
        exact lw_31 hlen hn6 hCS hMS hZ hxn hsl k1314
      · refine aw_tsIn e_Lw_law_33 (tgt := 1186) (by decide) (by decide) rfl rfl ?_
        exact lw_32 hlen hn6 hCS hMS hZ hxn hsl k1314
      · refine aw_tsIn e_Lw_law_33 (tgt := 1219) (by decide) (by decide) rfl rfl ?_
        exact lw_33 hlen hn6 hCS hMS hZ hxn hsl k1314
      · refine aw_tsIn e_Lw_law_33 (tgt := 1242) (by decide) (by decide) rfl rfl ?_
        exact lw_34 hlen hn6 hCS hMS hZ hxn hsl k1314
      · refine aw_tsIn e_Lw_law_33 (tgt := 1265) (by decide) (by decide) rfl rfl ?_
        exact lw_35 hlen hn6 hCS hMS hZ hxn hsl k1314
      · refine aw_tsIn e_Lw_law_33 (tgt := 1278) (by decide) (by decide) rfl rfl ?_
        exact lw_36 hlen hn6 hCS hMS hZ hxn hsl k1314
      · refine aw_tsIn e_Lw_law_33 (tgt := 1291) (by decide) (by decide) rfl rfl ?_
        exact lw_37 hlen hn6 hCS hMS hZ hxn hsl k1314
    · refine aw_tsOut e_Lw_law_33 (tgt := 1314) (by unfold inR at hts; omega) rfl ?_
      exact k1314 _ _ _ _ _ xn hCS hMS hZ (by omega) (by omega)
theorem lw_all {l : Launch} {E : En} {d : Nat} {zl : Nat → Nat} (hlen : E.2.2.2.2.1 ≤ 3072) : AWq l E (d + 1412) M_Lw_law (zl, 0, 0) 0 [some (vr 53 0), none, none, none] [] (iz 0) lz R00 (zl, 0, 0) lwQ := by
  refine aw_new 8 0 e_Lw_law_0 cl_Lw_7 in_Pb ii_Pb (by show who 0 = _; decide) (fun f => iz_n (by omega)) (R00_y (by show who 0 = _; decide)) (by decide) ?_
  refine aw_dup e_Lw_law_3 rfl ?_
  refine aw_cI0 e_Lw_law_4 ml_Lw_9 mf_Pb_init mi_Pb_init (c_Pb_init (R0 := R00) rfl (Fr_00 1) INV_00 (fun R2 Z2 z0 z1 z2 hF2 hV2 hP2 h24 h25 => ?_))
  refine aw_ast1 e_Lw_law_7 ?_
  refine aw_new 9 0 e_Lw_law_8 cl_Lw_10 in_Mo ii_Mo (by rw [z1]; decide) (fun f => iz_n (by omega)) (hF2.n 146 (by decide) (by decide) (by decide)) (by decide) ?_
  refine aw_dup e_Lw_law_11 rfl ?_
  refine aw_cI0 e_Lw_law_12 ml_Lw_12 mf_Mo_init mi_Mo_init (c_Mo_init (by show Z2.2.1 + 1 = _; omega) (hF2.m (by decide)) (fun I3 R3 Z3 y0 y1 y2 hR3 hI3 h29 => ?_))
  refine aw_ast2 e_Lw_law_15 ?_
  refine aw_iconst (v := nI 0) e_Lw_law_16 (by decide) ?_
  refine aw_ist3 e_Lw_law_17 ?_
  exact lw_loop hlen 0 (Nat.zero_le _) I3 lz R3 Z3 S00 0 (CS_00 hV2 hP2 h24 h25 hR3 hI3) (MSt_00 hI3 h29) (by omega) (Nat.le_refl _) (by rw [y2]; show Z2.2.2 + 35 + 10702 ≤ _; rw [z2]; show 0 + 13 + 2343 + 35 + 10702 ≤ _; omega)
