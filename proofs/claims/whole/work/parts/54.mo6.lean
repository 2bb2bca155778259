/-! ===== the model: laws of a part, swaps ===== -/
theorem er_2 {v : Nat → Nat} {b so : Nat} (h : v 0 = 2) (hso : so = v 1) (hb : 2 * b + 1 < 24) (hv : v 1 < 2) : ∀ j, j < 25 → endRow v b 24 j = if j = 24 then wof (lN 0).toInt else rwT (2 * b + so) (2 * b + (1 - so)) (shW (v 2) (v 3)) j := fun j _ => by
  unfold endRow
  rw [if_pos h, hso]
  by_cases e : j = 24
  · rw [if_pos e, e]
    unfold rwT
    rw [if_neg (by omega), if_neg (by omega)]
    decide
  · rw [if_neg e]
theorem er_o {v : Nat → Nat} {b so x : Nat} {y : Int64} (h : ¬ v 0 = 2) (hso : so = v 1) (hx : wof y.toInt = x) (he : (if v 0 = 1 then shW (v 2) (v 3) * v 4 % 1000003 else if v 0 = 3 then v 4 else 0) = x) : ∀ j, j < 25 → endRow v b 24 j = if j = 24 then wof y.toInt else (if j = 2 * b + so then 1 else 0) := fun j _ => by
  unfold endRow
  rw [if_neg h, hso]
  unfold rwE
  rw [he, hx]
theorem fwr_end {v : Nat → Nat} {b w : Nat} (hb : 2 * b + 1 < w) (hw : w ≤ 24) (hv : v 1 < 2) : ∀ c, c ≤ w → fwr w (endRow v b 24) c = endRow v b w c := fun c hc => by
  unfold endRow
  by_cases e : v 0 = 2
  · rw [if_pos e, if_pos e]; exact fwr_T (by omega) (by omega) hw c hc
  · rw [if_neg e, if_neg e]; exact fwr_E (by omega) hw c hc
theorem tr_0 {v : Nat → Nat} {b c : Nat} (h : v 1 < 2) : turnRow v b c 0 = rwT (2 * b + 0) (2 * c + v 1) (shW (v 2) (v 3)) := by
  unfold turnRow
  by_cases e : v 1 = 0
  · rw [if_pos e, if_pos rfl, e]
  · rw [if_neg e, if_pos rfl, show v 1 = 1 by omega]
theorem tr_1 {v : Nat → Nat} {b c : Nat} (h : v 1 < 2) : turnRow v b c 1 = rwT (2 * c + (1 - v 1)) (2 * b + 1) (shW (v 2) (v 3)) := by
  unfold turnRow
  by_cases e : v 1 = 0
  · rw [if_pos e, if_neg (by decide), e]
  · rw [if_neg e, if_neg (by decide), show v 1 = 1 by omega]
theorem sI_n2 {I : It} {t i k : Nat} {x : Int32} {t2 i2 k2 : Nat} (h : ¬ (t2 = t ∧ i2 = i)) : sI I t i k x t2 i2 k2 = I t2 i2 k2 := by rw [sI_n h]
theorem mul_lt {a b : Nat} (ha : a < 1000003) (hb : b < 1000003) : a * b < 9223372036854775808 := by have := mulP ha hb; omega
theorem c_Mo_lawsOf {l : Launch} {E : En} {d : Nat} {I : It} {L : Lt} {R : Rt} {Z : Zt} {Q : Qt} {V : Mc} (hS : Sta R) (hC : MC I 0 V) (hW : WF V) {n w : Nat} {F : Nat → Nat → Nat} (hT : TM I L n F) (hwV : w = 2 * nB V) {p : Nat} (hp : p < nP V) (hL : LWI V w p n (fw w F)) (hwh : whole V = true) (hQ : ∀ I2 L2 F2 m, TM I2 L2 m F2 → LWI V w (p + 1) m (fw w F2) → fl I I2 → frT L L2 → Q none I2 L2 R Z) : AMet l E (d + 3) M_Mo_lawsOf [vr 9 0, vi (nI p)] I L R Z Q := by
  have hnb := hW.1.2.1
  have hnp := hW.1.1
  have hnx := hW.1.2.2.1
  have hns := hW.1.2.2.2
  have hv := hW.2.1 p hp
  have hw24 : w ≤ 24 := by omega
  have hww := whole_w hwh hp
  have hf := fb_0 (V := V) (p := p) (want_p hww)
  have hse := sumE_le hW hp
  have hnE := hL.1
  have hsh := shW_lt (pP V p 2) (pP V p 3)
  have hsp := shW_pos hv.2.2.1 hv.2.2.2.1
  have hnt := neg_lT hsh
  have hep := want_p hww
  refine AMet.of mf_Mo_lawsOf rfl (Nat.le_of_ble_eq_true rfl) ?_
  refine aw_aload_n e_Mo_lawsOf_0 rfl ?_
  refine aw_iload_n e_Mo_lawsOf_1 rfl ?_
  refine aw_cV1 e_Mo_lawsOf_2 ml_Mo_79 mf_Mo_partAt mv_Mo_partAt (c_Mo_partAt ?_)
  refine aw_ist2 e_Mo_lawsOf_5 ?_
  refine aw_aload_n e_Mo_lawsOf_6 rfl ?_
  refine aw_getR e_Mo_lawsOf_7 fl_Mo_7 (hS.1 _ _ _ _ rfl) ?_
  refine aw_iload_n e_Mo_lawsOf_10 rfl ?_
  refine aw_ialE e_Mo_lawsOf_11 rfl (show _ < 3110 by omega) (by omega) (by first | exact hC.1.1 | exact hC.1.2.1 | exact hC.1.2.2.1 | exact hC.1.2.2.2 | exact hC.pk (by omega) | exact hC.2.1 _ _ (by omega) (by decide) | exact hC.2.2.1 _ (by omega) | exact hC.2.2.2.1 _ (by omega)) ?_
  refine aw_ist3 e_Mo_lawsOf_12 ?_
  refine aw_aload_n e_Mo_lawsOf_13 rfl ?_
  refine aw_getR e_Mo_lawsOf_14 fl_Mo_7 (hS.1 _ _ _ _ rfl) ?_
  refine aw_iload_n e_Mo_lawsOf_17 rfl ?_
  refine aw_iconst (v := nI 2) e_Mo_lawsOf_18 (by decide) ?_
  first | refine awN_iadd e_Mo_lawsOf_19 ?_ | refine aw_iadd e_Mo_lawsOf_19 ?_
  refine aw_ialE e_Mo_lawsOf_20 rfl (show _ < 3110 by omega) (by omega) (by first | exact hC.1.1 | exact hC.1.2.1 | exact hC.1.2.2.1 | exact hC.1.2.2.2 | exact hC.pk (by omega) | exact hC.2.1 _ _ (by omega) (by decide) | exact hC.2.2.1 _ (by omega) | exact hC.2.2.2.1 _ (by omega)) ?_
  refine aw_aload_n e_Mo_lawsOf_21 rfl ?_
  refine aw_getR e_Mo_lawsOf_22 fl_Mo_7 (hS.1 _ _ _ _ rfl) ?_
  refine aw_iload_n e_Mo_lawsOf_25 rfl ?_
  refine aw_iconst (v := nI 3) e_Mo_lawsOf_26 (by decide) ?_
  first | refine awN_iadd e_Mo_lawsOf_27 ?_ | refine aw_iadd e_Mo_lawsOf_27 ?_
  refine aw_ialE e_Mo_lawsOf_28 rfl (show _ < 3110 by omega) (by omega) (by first | exact hC.1.1 | exact hC.1.2.1 | exact hC.1.2.2.1 | exact hC.1.2.2.2 | exact hC.pk (by omega) | exact hC.2.1 _ _ (by omega) (by decide) | exact hC.2.2.1 _ (by omega) | exact hC.2.2.2.1 _ (by omega)) ?_
  refine aw_cS2 e_Mo_lawsOf_29 ml_Mo_125 mf_Mo_shareOf ms_Mo_shareOf (c_Mo_shareOf (by omega) (by omega) ?_)
  refine aw_lst4 e_Mo_lawsOf_32 ?_
  refine aw_iload_n e_Mo_lawsOf_34 rfl ?_
  refine aw_iconst (v := nI 4) e_Mo_lawsOf_35 (by decide) ?_
  refine awN_icmp_ne e_Mo_lawsOf_36 (by omega) (by omega) (fun h36 => ?_) (fun h36 => ?_)
  · refine aw_iload_n e_Mo_lawsOf_49 rfl ?_
    refine aw_iconst (v := nI 5) e_Mo_lawsOf_50 (by decide) ?_
    refine awN_icmp_ne e_Mo_lawsOf_51 (by omega) (by omega) (fun h51 => ?_) (fun h51 => ?_)
    · refine aw_aload_n e_Mo_lawsOf_62 rfl ?_
      refine aw_iload_n e_Mo_lawsOf_63 rfl ?_
      refine aw_iconst (v := nI 0) e_Mo_lawsOf_64 (by decide) ?_
      refine aw_cV2 e_Mo_lawsOf_65 ml_Mo_150 mf_Mo_bondOf mv_Mo_bondOf (c_Mo_bondOf hS hC hW (by omega) (by omega) ?_)
      rw [hf.2.2.2]
      refine aw_ist6 e_Mo_lawsOf_68 ?_
      refine aw_aload_n e_Mo_lawsOf_70 rfl ?_
      refine aw_getR e_Mo_lawsOf_71 fl_Mo_7 (hS.1 _ _ _ _ rfl) ?_
      refine aw_iload_n e_Mo_lawsOf_74 rfl ?_
      refine aw_iconst (v := nI 1) e_Mo_lawsOf_75 (by decide) ?_
      first | refine awN_iadd e_Mo_lawsOf_76 ?_ | refine aw_iadd e_Mo_lawsOf_76 ?_
      refine aw_ialE e_Mo_lawsOf_77 rfl (show _ < 3110 by omega) (by omega) (by first | exact hC.1.1 | exact hC.1.2.1 | exact hC.1.2.2.1 | exact hC.1.2.2.2 | exact hC.pk (by omega) | exact hC.2.1 _ _ (by omega) (by decide) | exact hC.2.2.1 _ (by omega) | exact hC.2.2.2.1 _ (by omega)) ?_
      refine aw_ist7 e_Mo_lawsOf_78 ?_
      refine aw_aload_n e_Mo_lawsOf_80 rfl ?_
      refine aw_cV0 e_Mo_lawsOf_81 ml_Mo_156 mf_Mo_line mv_Mo_line (c_Mo_line hS hT (by omega) (fun L1 hT1 hf1 => ?_))
      refine aw_aload_n e_Mo_lawsOf_84 rfl ?_
      refine aw_iload e_Mo_lawsOf_85 rfl ?_
      refine aw_iload e_Mo_lawsOf_87 rfl ?_
      refine aw_lconst (v := lN 1) e_Mo_lawsOf_89 rfl ?_
      refine aw_cV3 e_Mo_lawsOf_90 ml_Mo_159 mf_Mo_put mv_Mo_put (c_Mo_put (row2 := fun j => if j = 2 * fb V p 0 + pP V p 1 then 1 else 0) hS hT1 (by omega) (by rw [pk_lT (by decide)]; decide) one_put (fun L2 hT2 hf2 => ?_))
      refine aw_iload_n e_Mo_lawsOf_93 rfl ?_
      refine aw_iconst (v := nI 2) e_Mo_lawsOf_94 (by decide) ?_
      refine awN_icmp_ne e_Mo_lawsOf_95 (by omega) (by omega) (fun h95 => ?_) (fun h95 => ?_)
      · have hT3 := hT2
        have hf3 : frT L2 L2 := frT_0
        refine aw_aload_n e_Mo_lawsOf_111 rfl ?_
        refine aw_iload_n e_Mo_lawsOf_112 rfl ?_
        refine aw_iconst (v := nI 1) e_Mo_lawsOf_113 (by decide) ?_
        refine awN_icmp_ne e_Mo_lawsOf_114 (by omega) (by omega) (fun h114 => ?_) (fun h114 => ?_)
        · refine aw_iload_n e_Mo_lawsOf_132 rfl ?_
          refine aw_iconst (v := nI 3) e_Mo_lawsOf_133 (by decide) ?_
          refine awN_icmp_ne e_Mo_lawsOf_134 (by omega) (by omega) (fun h134 => ?_) (fun h134 => ?_)
          · refine aw_lconst (v := lN 0) e_Mo_lawsOf_149 rfl ?_
            refine aw_cV1 e_Mo_lawsOf_150 ml_Mo_173 mf_Mo_comesTo mv_Mo_comesTo (c_Mo_comesTo (row2 := endRow (pP V p) (fb V p 0) 24) hS hT3 (by first | (exfalso; omega) | exact er_2 h95 rfl (by omega) hv.2.1 | exact er_o h95 rfl (x := shW (pP V p 2) (pP V p 3) * pP V p 4 % 1000003) (by rw [pk_lT (mul_lt hsh hv.2.2.2.2), wof_nat]) (if_pos h114) | exact er_o h95 rfl (x := pP V p 4) (by rw [pk_lT (by omega), wof_nat, Nat.mod_eq_of_lt hv.2.2.2.2]) (by rw [if_neg h114, if_pos h134]) | exact er_o h95 rfl (x := 0) (by decide) (by rw [if_neg h114, if_neg h134])) (fun L4 hT4 hf4 => ?_))
            first
              | (refine aw_vret e_Mo_lawsOf_153 rfl (hQ _ _ _ _ hT4 (LWI_cg (LWI_end hW hp hL hwh hwV h36 h51) ?_) (fl_s fl_0) (frT_t (frT_t (frT_t hf1 hf2) hf3) hf4))
                 rw [fw_add]
                 exact addR_cg rfl (fun _ _ _ _ => rfl) (fun c hc => (fwr_end (by omega) hw24 hv.2.1 c hc).symm))
              | exact aw_vret e_Mo_lawsOf_153 rfl (hQ _ _ _ _ hT2 hL2 hfl2 hf2)
              | (refine aw_vret e_Mo_lawsOf_153 rfl (hQ _ _ _ _ hT2 (LWI_cg (LWI_turn hW hp hL hwh hwV h36) ?_) hfl2 hf2)
                 rw [fw_add, fw_add, tr_0 hv.2.1, tr_1 hv.2.1]
                 exact addR_cg rfl (addR_cg rfl (fun _ _ _ _ => rfl) (fun c hc => (fwr_T (by omega) (by omega) hw24 c hc).symm)) (fun c hc => (fwr_T (by omega) (by omega) hw24 c hc).symm))
          · refine aw_aload_n e_Mo_lawsOf_137 rfl ?_
            refine aw_getR e_Mo_lawsOf_138 fl_Mo_7 (hS.1 _ _ _ _ rfl) ?_
            refine aw_iload_n e_Mo_lawsOf_141 rfl ?_
            refine aw_iconst (v := nI 4) e_Mo_lawsOf_142 (by decide) ?_
            first | refine awN_iadd e_Mo_lawsOf_143 ?_ | refine aw_iadd e_Mo_lawsOf_143 ?_
            refine aw_ialE e_Mo_lawsOf_144 rfl (show _ < 3110 by omega) (by omega) ((sI_n2 (by decide)).trans (hC.2.1 p 4 hp (by decide))) ?_
            first | refine awN_i2l e_Mo_lawsOf_145 (by omega) ?_ | refine aw_i2l e_Mo_lawsOf_145 ?_
            refine aw_goto e_Mo_lawsOf_146 ?_
            refine aw_cV1 e_Mo_lawsOf_150 ml_Mo_173 mf_Mo_comesTo mv_Mo_comesTo (c_Mo_comesTo (row2 := endRow (pP V p) (fb V p 0) 24) hS hT3 (by first | (exfalso; omega) | exact er_2 h95 rfl (by omega) hv.2.1 | exact er_o h95 rfl (x := shW (pP V p 2) (pP V p 3) * pP V p 4 % 1000003) (by rw [pk_lT (mul_lt hsh hv.2.2.2.2), wof_nat]) (if_pos h114) | exact er_o h95 rfl (x := pP V p 4) (by rw [pk_lT (by omega), wof_nat, Nat.mod_eq_of_lt hv.2.2.2.2]) (by rw [if_neg h114, if_pos h134]) | exact er_o h95 rfl (x := 0) (by decide) (by rw [if_neg h114, if_neg h134])) (fun L4 hT4 hf4 => ?_))
            first
              | (refine aw_vret e_Mo_lawsOf_153 rfl (hQ _ _ _ _ hT4 (LWI_cg (LWI_end hW hp hL hwh hwV h36 h51) ?_) (fl_s fl_0) (frT_t (frT_t (frT_t hf1 hf2) hf3) hf4))
                 rw [fw_add]
                 exact addR_cg rfl (fun _ _ _ _ => rfl) (fun c hc => (fwr_end (by omega) hw24 hv.2.1 c hc).symm))
              | exact aw_vret e_Mo_lawsOf_153 rfl (hQ _ _ _ _ hT2 hL2 hfl2 hf2)
              | (refine aw_vret e_Mo_lawsOf_153 rfl (hQ _ _ _ _ hT2 (LWI_cg (LWI_turn hW hp hL hwh hwV h36) ?_) hfl2 hf2)
                 rw [fw_add, fw_add, tr_0 hv.2.1, tr_1 hv.2.1]
                 exact addR_cg rfl (addR_cg rfl (fun _ _ _ _ => rfl) (fun c hc => (fwr_T (by omega) (by omega) hw24 c hc).symm)) (fun c hc => (fwr_T (by omega) (by omega) hw24 c hc).symm))
        · refine aw_lload e_Mo_lawsOf_117 rfl ?_
          refine aw_aload_n e_Mo_lawsOf_119 rfl ?_
          refine aw_getR e_Mo_lawsOf_120 fl_Mo_7 (hS.1 _ _ _ _ rfl) ?_
          refine aw_iload_n e_Mo_lawsOf_123 rfl ?_
          refine aw_iconst (v := nI 4) e_Mo_lawsOf_124 (by decide) ?_
          first | refine awN_iadd e_Mo_lawsOf_125 ?_ | refine aw_iadd e_Mo_lawsOf_125 ?_
          refine aw_ialE e_Mo_lawsOf_126 rfl (show _ < 3110 by omega) (by omega) ((sI_n2 (by decide)).trans (hC.2.1 p 4 hp (by decide))) ?_
          first | refine awN_i2l e_Mo_lawsOf_127 (by omega) ?_ | refine aw_i2l e_Mo_lawsOf_127 ?_
          refine awN_lmul e_Mo_lawsOf_128 ?_
          refine aw_goto e_Mo_lawsOf_129 ?_
          refine aw_cV1 e_Mo_lawsOf_150 ml_Mo_173 mf_Mo_comesTo mv_Mo_comesTo (c_Mo_comesTo (row2 := endRow (pP V p) (fb V p 0) 24) hS hT3 (by first | (exfalso; omega) | exact er_2 h95 rfl (by omega) hv.2.1 | exact er_o h95 rfl (x := shW (pP V p 2) (pP V p 3) * pP V p 4 % 1000003) (by rw [pk_lT (mul_lt hsh hv.2.2.2.2), wof_nat]) (if_pos h114) | exact er_o h95 rfl (x := pP V p 4) (by rw [pk_lT (by omega), wof_nat, Nat.mod_eq_of_lt hv.2.2.2.2]) (by rw [if_neg h114, if_pos h134]) | exact er_o h95 rfl (x := 0) (by decide) (by rw [if_neg h114, if_neg h134])) (fun L4 hT4 hf4 => ?_))
          first
            | (refine aw_vret e_Mo_lawsOf_153 rfl (hQ _ _ _ _ hT4 (LWI_cg (LWI_end hW hp hL hwh hwV h36 h51) ?_) (fl_s fl_0) (frT_t (frT_t (frT_t hf1 hf2) hf3) hf4))
               rw [fw_add]
               exact addR_cg rfl (fun _ _ _ _ => rfl) (fun c hc => (fwr_end (by omega) hw24 hv.2.1 c hc).symm))
            | exact aw_vret e_Mo_lawsOf_153 rfl (hQ _ _ _ _ hT2 hL2 hfl2 hf2)
            | (refine aw_vret e_Mo_lawsOf_153 rfl (hQ _ _ _ _ hT2 (LWI_cg (LWI_turn hW hp hL hwh hwV h36) ?_) hfl2 hf2)
               rw [fw_add, fw_add, tr_0 hv.2.1, tr_1 hv.2.1]
               exact addR_cg rfl (addR_cg rfl (fun _ _ _ _ => rfl) (fun c hc => (fwr_T (by omega) (by omega) hw24 c hc).symm)) (fun c hc => (fwr_T (by omega) (by omega) hw24 c hc).symm))
      · refine aw_aload_n e_Mo_lawsOf_98 rfl ?_
        refine aw_iload e_Mo_lawsOf_99 rfl ?_
        refine aw_iconst (v := nI 1) e_Mo_lawsOf_101 (by decide) ?_
        refine aw_iload e_Mo_lawsOf_102 rfl ?_
        refine awN_isub e_Mo_lawsOf_104 (by omega) ?_
        refine aw_lload e_Mo_lawsOf_105 rfl ?_
        refine aw_lneg e_Mo_lawsOf_107 ?_
        refine aw_cV3 e_Mo_lawsOf_108 ml_Mo_159 mf_Mo_put mv_Mo_put (c_Mo_put (row2 := rwT (2 * fb V p 0 + pP V p 1) (2 * fb V p 0 + (1 - pP V p 1)) (shW (pP V p 2) (pP V p 3))) hS hT2 (by omega) (by rw [hnt]; omega) (rwT_put hnt ⟨hsp, hsh⟩ (by omega)) (fun L3 hT3 hf3 => ?_))
        refine aw_aload_n e_Mo_lawsOf_111 rfl ?_
        refine aw_iload_n e_Mo_lawsOf_112 rfl ?_
        refine aw_iconst (v := nI 1) e_Mo_lawsOf_113 (by decide) ?_
        refine awN_icmp_ne e_Mo_lawsOf_114 (by omega) (by omega) (fun h114 => ?_) (fun h114 => ?_)
        · refine aw_iload_n e_Mo_lawsOf_132 rfl ?_
          refine aw_iconst (v := nI 3) e_Mo_lawsOf_133 (by decide) ?_
          refine awN_icmp_ne e_Mo_lawsOf_134 (by omega) (by omega) (fun h134 => ?_) (fun h134 => ?_)
          · refine aw_lconst (v := lN 0) e_Mo_lawsOf_149 rfl ?_
            refine aw_cV1 e_Mo_lawsOf_150 ml_Mo_173 mf_Mo_comesTo mv_Mo_comesTo (c_Mo_comesTo (row2 := endRow (pP V p) (fb V p 0) 24) hS hT3 (by first | (exfalso; omega) | exact er_2 h95 rfl (by omega) hv.2.1 | exact er_o h95 rfl (x := shW (pP V p 2) (pP V p 3) * pP V p 4 % 1000003) (by rw [pk_lT (mul_lt hsh hv.2.2.2.2), wof_nat]) (if_pos h114) | exact er_o h95 rfl (x := pP V p 4) (by rw [pk_lT (by omega), wof_nat, Nat.mod_eq_of_lt hv.2.2.2.2]) (by rw [if_neg h114, if_pos h134]) | exact er_o h95 rfl (x := 0) (by decide) (by rw [if_neg h114, if_neg h134])) (fun L4 hT4 hf4 => ?_))
            first
              | (refine aw_vret e_Mo_lawsOf_153 rfl (hQ _ _ _ _ hT4 (LWI_cg (LWI_end hW hp hL hwh hwV h36 h51) ?_) (fl_s fl_0) (frT_t (frT_t (frT_t hf1 hf2) hf3) hf4))
                 rw [fw_add]
                 exact addR_cg rfl (fun _ _ _ _ => rfl) (fun c hc => (fwr_end (by omega) hw24 hv.2.1 c hc).symm))
              | exact aw_vret e_Mo_lawsOf_153 rfl (hQ _ _ _ _ hT2 hL2 hfl2 hf2)
              | (refine aw_vret e_Mo_lawsOf_153 rfl (hQ _ _ _ _ hT2 (LWI_cg (LWI_turn hW hp hL hwh hwV h36) ?_) hfl2 hf2)
                 rw [fw_add, fw_add, tr_0 hv.2.1, tr_1 hv.2.1]
                 exact addR_cg rfl (addR_cg rfl (fun _ _ _ _ => rfl) (fun c hc => (fwr_T (by omega) (by omega) hw24 c hc).symm)) (fun c hc => (fwr_T (by omega) (by omega) hw24 c hc).symm))
          · refine aw_aload_n e_Mo_lawsOf_137 rfl ?_
            refine aw_getR e_Mo_lawsOf_138 fl_Mo_7 (hS.1 _ _ _ _ rfl) ?_
            refine aw_iload_n e_Mo_lawsOf_141 rfl ?_
            refine aw_iconst (v := nI 4) e_Mo_lawsOf_142 (by decide) ?_
            first | refine awN_iadd e_Mo_lawsOf_143 ?_ | refine aw_iadd e_Mo_lawsOf_143 ?_
            refine aw_ialE e_Mo_lawsOf_144 rfl (show _ < 3110 by omega) (by omega) ((sI_n2 (by decide)).trans (hC.2.1 p 4 hp (by decide))) ?_
            first | refine awN_i2l e_Mo_lawsOf_145 (by omega) ?_ | refine aw_i2l e_Mo_lawsOf_145 ?_
            refine aw_goto e_Mo_lawsOf_146 ?_
            refine aw_cV1 e_Mo_lawsOf_150 ml_Mo_173 mf_Mo_comesTo mv_Mo_comesTo (c_Mo_comesTo (row2 := endRow (pP V p) (fb V p 0) 24) hS hT3 (by first | (exfalso; omega) | exact er_2 h95 rfl (by omega) hv.2.1 | exact er_o h95 rfl (x := shW (pP V p 2) (pP V p 3) * pP V p 4 % 1000003) (by rw [pk_lT (mul_lt hsh hv.2.2.2.2), wof_nat]) (if_pos h114) | exact er_o h95 rfl (x := pP V p 4) (by rw [pk_lT (by omega), wof_nat, Nat.mod_eq_of_lt hv.2.2.2.2]) (by rw [if_neg h114, if_pos h134]) | exact er_o h95 rfl (x := 0) (by decide) (by rw [if_neg h114, if_neg h134])) (fun L4 hT4 hf4 => ?_))
            first
              | (refine aw_vret e_Mo_lawsOf_153 rfl (hQ _ _ _ _ hT4 (LWI_cg (LWI_end hW hp hL hwh hwV h36 h51) ?_) (fl_s fl_0) (frT_t (frT_t (frT_t hf1 hf2) hf3) hf4))
                 rw [fw_add]
                 exact addR_cg rfl (fun _ _ _ _ => rfl) (fun c hc => (fwr_end (by omega) hw24 hv.2.1 c hc).symm))
              | exact aw_vret e_Mo_lawsOf_153 rfl (hQ _ _ _ _ hT2 hL2 hfl2 hf2)
              | (refine aw_vret e_Mo_lawsOf_153 rfl (hQ _ _ _ _ hT2 (LWI_cg (LWI_turn hW hp hL hwh hwV h36) ?_) hfl2 hf2)
                 rw [fw_add, fw_add, tr_0 hv.2.1, tr_1 hv.2.1]
                 exact addR_cg rfl (addR_cg rfl (fun _ _ _ _ => rfl) (fun c hc => (fwr_T (by omega) (by omega) hw24 c hc).symm)) (fun c hc => (fwr_T (by omega) (by omega) hw24 c hc).symm))
        · refine aw_lload e_Mo_lawsOf_117 rfl ?_
          refine aw_aload_n e_Mo_lawsOf_119 rfl ?_
          refine aw_getR e_Mo_lawsOf_120 fl_Mo_7 (hS.1 _ _ _ _ rfl) ?_
          refine aw_iload_n e_Mo_lawsOf_123 rfl ?_
          refine aw_iconst (v := nI 4) e_Mo_lawsOf_124 (by decide) ?_
          first | refine awN_iadd e_Mo_lawsOf_125 ?_ | refine aw_iadd e_Mo_lawsOf_125 ?_
          refine aw_ialE e_Mo_lawsOf_126 rfl (show _ < 3110 by omega) (by omega) ((sI_n2 (by decide)).trans (hC.2.1 p 4 hp (by decide))) ?_
          first | refine awN_i2l e_Mo_lawsOf_127 (by omega) ?_ | refine aw_i2l e_Mo_lawsOf_127 ?_
          refine awN_lmul e_Mo_lawsOf_128 ?_
          refine aw_goto e_Mo_lawsOf_129 ?_
          refine aw_cV1 e_Mo_lawsOf_150 ml_Mo_173 mf_Mo_comesTo mv_Mo_comesTo (c_Mo_comesTo (row2 := endRow (pP V p) (fb V p 0) 24) hS hT3 (by first | (exfalso; omega) | exact er_2 h95 rfl (by omega) hv.2.1 | exact er_o h95 rfl (x := shW (pP V p 2) (pP V p 3) * pP V p 4 % 1000003) (by rw [pk_lT (mul_lt hsh hv.2.2.2.2), wof_nat]) (if_pos h114) | exact er_o h95 rfl (x := pP V p 4) (by rw [pk_lT (by omega), wof_nat, Nat.mod_eq_of_lt hv.2.2.2.2]) (by rw [if_neg h114, if_pos h134]) | exact er_o h95 rfl (x := 0) (by decide) (by rw [if_neg h114, if_neg h134])) (fun L4 hT4 hf4 => ?_))
          first
            | (refine aw_vret e_Mo_lawsOf_153 rfl (hQ _ _ _ _ hT4 (LWI_cg (LWI_end hW hp hL hwh hwV h36 h51) ?_) (fl_s fl_0) (frT_t (frT_t (frT_t hf1 hf2) hf3) hf4))
               rw [fw_add]
               exact addR_cg rfl (fun _ _ _ _ => rfl) (fun c hc => (fwr_end (by omega) hw24 hv.2.1 c hc).symm))
            | exact aw_vret e_Mo_lawsOf_153 rfl (hQ _ _ _ _ hT2 hL2 hfl2 hf2)
            | (refine aw_vret e_Mo_lawsOf_153 rfl (hQ _ _ _ _ hT2 (LWI_cg (LWI_turn hW hp hL hwh hwV h36) ?_) hfl2 hf2)
               rw [fw_add, fw_add, tr_0 hv.2.1, tr_1 hv.2.1]
               exact addR_cg rfl (addR_cg rfl (fun _ _ _ _ => rfl) (fun c hc => (fwr_T (by omega) (by omega) hw24 c hc).symm)) (fun c hc => (fwr_T (by omega) (by omega) hw24 c hc).symm))
    · refine aw_aload_n e_Mo_lawsOf_54 rfl ?_
      refine aw_iload_n e_Mo_lawsOf_55 rfl ?_
      refine aw_cV1 e_Mo_lawsOf_56 ml_Mo_169 mf_Mo_lawsOfJoin mv_Mo_lawsOfJoin (c_Mo_lawsOfJoin hS hC hW hT hwV hp hL h51 (want_5 hww h51).1 (by omega) (fun I2 L2 F2 m2 hT2 hL2 hfl2 hf2 => ?_))
      refine aw_goto e_Mo_lawsOf_59 ?_
      first
        | (refine aw_vret e_Mo_lawsOf_153 rfl (hQ _ _ _ _ hT4 (LWI_cg (LWI_end hW hp hL hwh hwV h36 h51) ?_) (fl_s fl_0) (frT_t (frT_t (frT_t hf1 hf2) hf3) hf4))
           rw [fw_add]
           exact addR_cg rfl (fun _ _ _ _ => rfl) (fun c hc => (fwr_end (by omega) hw24 hv.2.1 c hc).symm))
        | exact aw_vret e_Mo_lawsOf_153 rfl (hQ _ _ _ _ hT2 hL2 hfl2 hf2)
        | (refine aw_vret e_Mo_lawsOf_153 rfl (hQ _ _ _ _ hT2 (LWI_cg (LWI_turn hW hp hL hwh hwV h36) ?_) hfl2 hf2)
           rw [fw_add, fw_add, tr_0 hv.2.1, tr_1 hv.2.1]
           exact addR_cg rfl (addR_cg rfl (fun _ _ _ _ => rfl) (fun c hc => (fwr_T (by omega) (by omega) hw24 c hc).symm)) (fun c hc => (fwr_T (by omega) (by omega) hw24 c hc).symm))
  · have hg := fb_1 (V := V) (p := p) (by have := want_4 hww h36; omega)
    refine aw_aload_n e_Mo_lawsOf_39 rfl ?_
    refine aw_iload_n e_Mo_lawsOf_40 rfl ?_
    refine aw_lload e_Mo_lawsOf_41 rfl ?_
    refine aw_cV2 e_Mo_lawsOf_43 ml_Mo_165 mf_Mo_lawsOfTurn mv_Mo_lawsOfTurn (c_Mo_lawsOfTurn (so := pP V p 1) hS hC hW hT (by have := want_4 hww h36; omega) hp hf.2.2.2 hf.1 hg.2.2 hg.2.1 (by omega) rfl ⟨hsp, hsh⟩ (fun I2 L2 hT2 hfl2 hf2 => ?_))
    refine aw_goto e_Mo_lawsOf_46 ?_
    first
      | (refine aw_vret e_Mo_lawsOf_153 rfl (hQ _ _ _ _ hT4 (LWI_cg (LWI_end hW hp hL hwh hwV h36 h51) ?_) (fl_s fl_0) (frT_t (frT_t (frT_t hf1 hf2) hf3) hf4))
         rw [fw_add]
         exact addR_cg rfl (fun _ _ _ _ => rfl) (fun c hc => (fwr_end (by omega) hw24 hv.2.1 c hc).symm))
      | exact aw_vret e_Mo_lawsOf_153 rfl (hQ _ _ _ _ hT2 hL2 hfl2 hf2)
      | (refine aw_vret e_Mo_lawsOf_153 rfl (hQ _ _ _ _ hT2 (LWI_cg (LWI_turn hW hp hL hwh hwV h36) ?_) hfl2 hf2)
         rw [fw_add, fw_add, tr_0 hv.2.1, tr_1 hv.2.1]
         exact addR_cg rfl (addR_cg rfl (fun _ _ _ _ => rfl) (fun c hc => (fwr_T (by omega) (by omega) hw24 c hc).symm)) (fun c hc => (fwr_T (by omega) (by omega) hw24 c hc).symm))
def swQ (F : Nat → Nat → Nat) (a b j : Nat) : Nat → Nat → Nat := fun r c => if c < j then swp F b a r c else F r c
theorem swQ_s {F : Nat → Nat → Nat} {a b j r c : Nat} : setR (setR (swQ F a b j) a j (F b j)) b j (F a j) r c = swQ F a b (j + 1) r c := by
  unfold setR swQ swp
  rcases Nat.lt_trichotomy c j with h | h | h
  all_goals have h5 : (c < j + 1) = (c ≤ j) := propext ⟨fun z => by omega, fun z => by omega⟩
  · have h6 : ¬ c = j := by omega
    have h7 : c ≤ j := by omega
    by_cases h1 : r = b
    · subst h1
      by_cases h3 : r = a
      · subst h3; simp [h, h5, h6, h7]
      · simp [h, h5, h6, h7, h3]
    · by_cases h3 : r = a
      · subst h3; simp [h, h5, h6, h7, h1]
      · simp [h, h5, h6, h7, h1, h3]
  · subst h
    by_cases h1 : r = b
    · subst h1
      by_cases h3 : r = a
      · subst h3; simp
      · simp [h3]
    · by_cases h3 : r = a
      · subst h3; simp [h1]
      · simp [h1, h3]
  · have h6 : ¬ c = j := by omega
    have h7 : ¬ c ≤ j := by omega
    have h8 : ¬ c < j := by omega
    by_cases h1 : r = b
    · subst h1
      by_cases h3 : r = a
      · subst h3; simp [h8, h5, h6, h7]
      · simp [h8, h5, h6, h7, h3]
    · by_cases h3 : r = a
      · subst h3; simp [h8, h5, h6, h7, h1]
      · simp [h8, h5, h6, h7, h1, h3]
theorem swQ_j (F : Nat → Nat → Nat) (a b j r : Nat) : swQ F a b j r j = F r j := if_neg (Nat.lt_irrefl j)
theorem TM_v {I : It} {L : Lt} {n r c : Nat} {F : Nat → Nat → Nat} (h : TM I L n F) (hr : r < n) (hc : c < 25) : L 37 0 (25 * r + c) = lN (F r c) := (h.2.2 r c hr hc).1
theorem c_Mo_swap {l : Launch} {E : En} {d : Nat} {I : It} {L : Lt} {R : Rt} {Z : Zt} {Q : Qt} {n a b : Nat} {F : Nat → Nat → Nat} (hS : Sta R) (hT : TM I L n F) (ha : a < n) (hb : b < n) (hQ : ∀ L2, TM I L2 n (swp F b a) → frT L L2 → Q none I L2 R Z) : AMet l E d M_Mo_swap [vr 9 0, vi (nI a), vi (nI b)] I L R Z Q := by
  have hn := hT.2.1
  refine AMet.of mf_Mo_swap rfl (Nat.le_of_ble_eq_true rfl) ?_
  refine aw_iconst (v := nI 0) e_Mo_swap_0 (by decide) ?_
  refine aw_ist3 e_Mo_swap_1 ?_
  refine up_loop (P := fun j => ∀ L1, TM I L1 n (swQ F a b j) → frT L L1 → AWq l E d M_Mo_swap Z 2 [some (vr 9 0), some (vi (nI a)), some (vi (nI b)), some (vi (nI j)), none, none] [] I L1 R Z Q) (N := 25) (fun j hj ih L1 hT1 hf1 => ?_) 0 (by omega) L (TM_cg hT (fun r c hr hc => (if_neg (Nat.not_lt_zero c)).symm)) frT_0
  refine aw_iload_n e_Mo_swap_2 rfl ?_
  refine aw_bipush (v := nI 25) e_Mo_swap_3 (by decide) ?_
  refine awN_icmp_ge e_Mo_swap_5 (by omega) (by omega) (fun h5 => ?_) (fun h5 => ?_)
  · exact aw_vret e_Mo_swap_62 rfl (hQ _ (TM_cg hT1 (fun r c hr hc => if_pos (by omega))) hf1)
  · refine aw_aload_n e_Mo_swap_8 rfl ?_
    refine aw_getR e_Mo_swap_9 fl_Mo_43 (hS.1 _ _ _ _ rfl) ?_
    refine aw_bipush (v := nI 25) e_Mo_swap_12 (by decide) ?_
    refine aw_iload_n e_Mo_swap_14 rfl ?_
    first | refine awN_imul e_Mo_swap_15 ?_ | refine aw_imul e_Mo_swap_15 ?_
    refine aw_iload_n e_Mo_swap_16 rfl ?_
    first | refine awN_iadd e_Mo_swap_17 ?_ | refine aw_iadd e_Mo_swap_17 ?_
    refine aw_lalE e_Mo_swap_18 rfl (show _ < 600 by omega) (by omega) ((TM_v hT1 ha h5).trans (by rw [swQ_j])) ?_
    refine aw_lst4 e_Mo_swap_19 ?_
    refine aw_aload_n e_Mo_swap_21 rfl ?_
    refine aw_getR e_Mo_swap_22 fl_Mo_43 (hS.1 _ _ _ _ rfl) ?_
    refine aw_bipush (v := nI 25) e_Mo_swap_25 (by decide) ?_
    refine aw_iload_n e_Mo_swap_27 rfl ?_
    first | refine awN_imul e_Mo_swap_28 ?_ | refine aw_imul e_Mo_swap_28 ?_
    refine aw_iload_n e_Mo_swap_29 rfl ?_
    first | refine awN_iadd e_Mo_swap_30 ?_ | refine aw_iadd e_Mo_swap_30 ?_
    refine aw_aload_n e_Mo_swap_31 rfl ?_
    refine aw_getR e_Mo_swap_32 fl_Mo_43 (hS.1 _ _ _ _ rfl) ?_
    refine aw_bipush (v := nI 25) e_Mo_swap_35 (by decide) ?_
    refine aw_iload_n e_Mo_swap_37 rfl ?_
    first | refine awN_imul e_Mo_swap_38 ?_ | refine aw_imul e_Mo_swap_38 ?_
    refine aw_iload_n e_Mo_swap_39 rfl ?_
    first | refine awN_iadd e_Mo_swap_40 ?_ | refine aw_iadd e_Mo_swap_40 ?_
    refine aw_lalE e_Mo_swap_41 rfl (show _ < 600 by omega) (by omega) ((TM_v hT1 hb h5).trans (by rw [swQ_j])) ?_
    refine aw_last e_Mo_swap_42 rfl (show _ < 600 by omega) (by omega) ?_
    refine aw_aload_n e_Mo_swap_43 rfl ?_
    refine aw_getR e_Mo_swap_44 fl_Mo_43 (hS.1 _ _ _ _ rfl) ?_
    refine aw_bipush (v := nI 25) e_Mo_swap_47 (by decide) ?_
    refine aw_iload_n e_Mo_swap_49 rfl ?_
    first | refine awN_imul e_Mo_swap_50 ?_ | refine aw_imul e_Mo_swap_50 ?_
    refine aw_iload_n e_Mo_swap_51 rfl ?_
    first | refine awN_iadd e_Mo_swap_52 ?_ | refine aw_iadd e_Mo_swap_52 ?_
    refine aw_lload e_Mo_swap_53 rfl ?_
    refine aw_last e_Mo_swap_55 rfl (show _ < 600 by omega) (by omega) ?_
    refine aw_inc3 e_Mo_swap_56 (inc1 _) ?_
    refine aw_goto e_Mo_swap_59 ?_
    refine aw_drop 4 ?_
    exact ih h5 _ (TM_cg (TM_set (TM_set hT1 ha h5 (hT.2.2 b j hb h5).2) hb h5 (hT.2.2 a j ha h5).2) (fun r c hr hc => swQ_s)) (frT_s (frT_s hf1))
