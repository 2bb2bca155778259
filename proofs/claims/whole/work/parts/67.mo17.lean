/-! ===== the model: ways, rings, the tape fed ===== -/
theorem dsI_0 (V : Mc) (p q : Nat) : dsI V p q 0 = if q = p then nI 0 else -1 := by
  unfold dsI
  by_cases h : q = p
  · have h2 : (ms V p 0).testBit q = true := ms_0.2 h.symm
    rw [if_pos h2, if_pos h, Nat.le_zero.1 (dsN_sp h2).1]
  · rw [if_neg (fun z => h (ms_0.1 z).symm), if_neg h]
theorem c_Mo_findWays {l : Launch} {E : En} {d : Nat} {I : It} {L : Lt} {R : Rt} {Z : Zt} {Q : Qt} {V : Mc} (hS : Sta R) (hC : MC I 0 V) (hW : WF V) {p : Nat} (hp : p < nP V) (hQ : ∀ I2, (∀ q, q < 12 → I2 43 0 q = dsI V p q 12) → (∀ t i, ¬ (t = 43 ∧ i = 0) → I2 t i = I t i) → Q none I2 L R Z) : AMet l E d M_Mo_findWays [vr 9 0, vi (nI p)] I L R Z Q := by
  have hnb := hW.1.2.1
  have hnp := hW.1.1
  have hnx := hW.1.2.2.1
  have hns := hW.1.2.2.2
  refine AMet.of mf_Mo_findWays rfl (Nat.le_of_ble_eq_true rfl) ?_
  refine aw_iconst (v := nI 0) e_Mo_findWays_0 (by decide) ?_
  refine aw_ist2 e_Mo_findWays_1 ?_
  refine up_loop (P := fun k => ∀ I1, (∀ t i, ¬ (t = 43 ∧ i = 0) → I1 t i = I t i) → (∀ q, q < k → I1 43 0 q = dsI V p q 0) → AWq l E d M_Mo_findWays Z 2 [some (vr 9 0), some (vi (nI p)), some (vi (nI k)), none, none, none] [] I1 L R Z Q) (N := 12) (fun k hk ih I1 hf1 h1 => ?_) 0 (by decide) I (fun _ _ _ => rfl) (fun q hq => absurd hq (Nat.not_lt_zero q))
  refine aw_iload_n e_Mo_findWays_2 rfl ?_
  refine aw_bipush (v := nI 12) e_Mo_findWays_3 (by decide) ?_
  refine awN_icmp_ge e_Mo_findWays_5 (by omega) (by omega) (fun h5 => ?_) (fun h5 => ?_)
  · obtain rfl : k = 12 := by omega
    refine aw_drop 2 ?_
    refine aw_iconst (v := nI 0) e_Mo_findWays_30 (by decide) ?_
    refine aw_ist2 e_Mo_findWays_31 ?_
    refine up_loop (P := fun n => ∀ I2, (∀ t i, ¬ (t = 43 ∧ i = 0) → I2 t i = I t i) → (∀ q, q < 12 → I2 43 0 q = dsI V p q n) → AWq l E d M_Mo_findWays Z 32 [some (vr 9 0), some (vi (nI p)), some (vi (nI n)), none, none, none] [] I2 L R Z Q) (N := 12) (fun n hn ih2 I2 hf2 h2 => ?_) 0 (by decide) I1 hf1 h1
    refine aw_iload_n e_Mo_findWays_32 rfl ?_
    refine aw_bipush (v := nI 12) e_Mo_findWays_33 (by decide) ?_
    refine awN_icmp_ge e_Mo_findWays_35 (by omega) (by omega) (fun h35 => ?_) (fun h35 => ?_)
    · obtain rfl : n = 12 := by omega
      exact aw_vret e_Mo_findWays_172 rfl (hQ _ h2 hf2)
    · refine aw_iconst (v := nI 0) e_Mo_findWays_38 (by decide) ?_
      refine aw_ist3 e_Mo_findWays_39 ?_
      refine up_loop (P := fun b => ∀ I3, (∀ t i, ¬ (t = 43 ∧ i = 0) → I3 t i = I t i) → (∀ q, q < 12 → I3 43 0 q = stI V p n b q) → AWq l E d M_Mo_findWays Z 40 [some (vr 9 0), some (vi (nI p)), some (vi (nI n)), some (vi (nI b)), none, none] [] I3 L R Z Q) (N := nB V) (fun b hb ihb I3 hf3 h3 => ?_) 0 (Nat.zero_le _) I2 hf2 (fun q hq => by rw [stI_0]; exact h2 q hq)
      refine aw_iload_n e_Mo_findWays_40 rfl ?_
      refine aw_aload_n e_Mo_findWays_41 rfl ?_
      refine aw_getR e_Mo_findWays_42 fl_Mo_7 (hS.1 _ _ _ _ rfl) ?_
      refine aw_iconst (v := nI 1) e_Mo_findWays_45 (by decide) ?_
      refine aw_ialE e_Mo_findWays_46 rfl (show _ < 3110 by omega) (by omega) (show _ = nI (nB V) by rw [hf3 28 0 (by decide)]; exact hC.1.2.1) ?_
      refine awN_icmp_ge e_Mo_findWays_47 (by omega) (by omega) (fun h47 => ?_) (fun h47 => ?_)
      · obtain rfl : b = nB V := by omega
        refine aw_drop 3 ?_
        refine aw_inc2 e_Mo_findWays_166 (inc1 _) ?_
        refine aw_goto e_Mo_findWays_169 ?_
        exact ih2 h35 _ hf3 (fun q hq => by rw [h3 q hq, stI_e])
      · have hbd := hW.2.2.1 b h47
        refine aw_aload_n e_Mo_findWays_50 rfl ?_
        refine aw_getR e_Mo_findWays_51 fl_Mo_7 (hS.1 _ _ _ _ rfl) ?_
        refine aw_bipush (v := nI 70) e_Mo_findWays_54 (by decide) ?_
        refine aw_iconst (v := nI 2) e_Mo_findWays_56 (by decide) ?_
        refine aw_iload_n e_Mo_findWays_57 rfl ?_
        first | refine awN_imul e_Mo_findWays_58 ?_ | refine aw_imul e_Mo_findWays_58 ?_
        first | refine awN_iadd e_Mo_findWays_59 ?_ | refine aw_iadd e_Mo_findWays_59 ?_
        refine aw_ialE e_Mo_findWays_60 rfl (show _ < 3110 by omega) (by omega) (show _ = nI (bF V b) by rw [hf3 28 0 (by decide)]; exact hC.2.2.1 b h47) ?_
        refine aw_ist4 e_Mo_findWays_61 ?_
        refine aw_aload_n e_Mo_findWays_63 rfl ?_
        refine aw_getR e_Mo_findWays_64 fl_Mo_7 (hS.1 _ _ _ _ rfl) ?_
        refine aw_bipush (v := nI 70) e_Mo_findWays_67 (by decide) ?_
        refine aw_iconst (v := nI 2) e_Mo_findWays_69 (by decide) ?_
        refine aw_iload_n e_Mo_findWays_70 rfl ?_
        first | refine awN_imul e_Mo_findWays_71 ?_ | refine aw_imul e_Mo_findWays_71 ?_
        first | refine awN_iadd e_Mo_findWays_72 ?_ | refine aw_iadd e_Mo_findWays_72 ?_
        refine aw_iconst (v := nI 1) e_Mo_findWays_73 (by decide) ?_
        first | refine awN_iadd e_Mo_findWays_74 ?_ | refine aw_iadd e_Mo_findWays_74 ?_
        refine aw_ialE e_Mo_findWays_75 rfl (show _ < 3110 by omega) (by omega) (show _ = nI (bT V b) by rw [hf3 28 0 (by decide)]; exact hC.2.2.2.1 b h47) ?_
        refine aw_ist5 e_Mo_findWays_76 ?_
        have k159 : AWq l E d M_Mo_findWays Z 159 [some (vr 9 0), some (vi (nI p)), some (vi (nI n)), some (vi (nI b)), some (vi (nI (bF V b))), some (vi (nI (bT V b)))] [vi (stI V p n (b + 1) (bF V b)), vi (nI (bF V b)), vr 43 0] (sI I3 43 0 (bT V b) (stI V p n (b + 1) (bT V b))) L R Z Q := by
          refine aw_iast e_Mo_findWays_159 rfl (show _ < 12 by omega) (by omega) ?_
          refine aw_inc3 e_Mo_findWays_160 (inc1 _) ?_
          refine aw_goto e_Mo_findWays_163 ?_
          refine aw_drop 4 ?_
          refine aw_drop 5 ?_
          refine ihb h47 _ (fun t i hti => by rw [sI_n hti, sI_n hti]; exact hf3 t i hti) (fun q hq => ?_)
          by_cases e1 : q = bF V b
          · rw [e1, sI_eq]
          · rw [sI_ne e1]
            by_cases e2 : q = bT V b
            · rw [e2, sI_eq]
            · rw [sI_ne e2, h3 q hq, stI_o e1 e2]
        have k118 : AWq l E d M_Mo_findWays Z 118 [some (vr 9 0), some (vi (nI p)), some (vi (nI n)), some (vi (nI b)), some (vi (nI (bF V b))), some (vi (nI (bT V b)))] [vi (stI V p n (b + 1) (bT V b)), vi (nI (bT V b)), vr 43 0] I3 L R Z Q := by
          refine aw_iast e_Mo_findWays_118 rfl (show _ < 12 by omega) (by omega) ?_
          refine aw_aload_n e_Mo_findWays_119 rfl ?_
          refine aw_getR e_Mo_findWays_120 fl_Mo_62 (hS.1 _ _ _ _ rfl) ?_
          refine aw_iload e_Mo_findWays_123 rfl ?_
          refine aw_aload_n e_Mo_findWays_125 rfl ?_
          refine aw_getR e_Mo_findWays_126 fl_Mo_62 (hS.1 _ _ _ _ rfl) ?_
          refine aw_iload e_Mo_findWays_129 rfl ?_
          refine aw_ialE e_Mo_findWays_131 rfl (show _ < 12 by omega) (by omega) (sI_eq _ _ _ _ _) ?_
          refine aw_iload_n e_Mo_findWays_132 rfl ?_
          refine aw_icmp_ne e_Mo_findWays_133 (fun h133 => ?_) (fun h133 => ?_)
          · refine aw_aload_n e_Mo_findWays_152 rfl ?_
            refine aw_getR e_Mo_findWays_153 fl_Mo_62 (hS.1 _ _ _ _ rfl) ?_
            refine aw_iload e_Mo_findWays_156 rfl ?_
            refine aw_ialE e_Mo_findWays_158 rfl (show _ < 12 by omega) (by omega) ((sI_ne (by omega)).trans (h3 _ (by omega))) ?_
            first
              | (rw [(stI_u (V := V) (p := p) (n := n) (b := b) (x := bF V b) (y := bT V b) (by omega) h47 (Or.inl ⟨rfl, rfl⟩) (Or.inr rfl)).1 ⟨h133, by omega⟩] at k159; exact k159)
              | (rw [(stI_u (V := V) (p := p) (n := n) (b := b) (x := bF V b) (y := bT V b) (by omega) h47 (Or.inl ⟨rfl, rfl⟩) (Or.inr rfl)).2 (fun z => by have := z.2; omega)] at k159; exact k159)
              | (rw [(stI_u (V := V) (p := p) (n := n) (b := b) (x := bF V b) (y := bT V b) (by omega) h47 (Or.inl ⟨rfl, rfl⟩) (Or.inr rfl)).2 (fun z => h133 z.1)] at k159; exact k159)
          · refine aw_aload_n e_Mo_findWays_136 rfl ?_
            refine aw_getR e_Mo_findWays_137 fl_Mo_62 (hS.1 _ _ _ _ rfl) ?_
            refine aw_iload e_Mo_findWays_140 rfl ?_
            refine aw_ialE e_Mo_findWays_142 rfl (show _ < 12 by omega) (by omega) ((sI_ne (by omega)).trans (h3 _ (by omega))) ?_
            refine awZ_if_ge e_Mo_findWays_143 (fun h143 => ?_) (fun h143 => ?_)
            · refine aw_aload_n e_Mo_findWays_152 rfl ?_
              refine aw_getR e_Mo_findWays_153 fl_Mo_62 (hS.1 _ _ _ _ rfl) ?_
              refine aw_iload e_Mo_findWays_156 rfl ?_
              refine aw_ialE e_Mo_findWays_158 rfl (show _ < 12 by omega) (by omega) ((sI_ne (by omega)).trans (h3 _ (by omega))) ?_
              first
                | (rw [(stI_u (V := V) (p := p) (n := n) (b := b) (x := bF V b) (y := bT V b) (by omega) h47 (Or.inl ⟨rfl, rfl⟩) (Or.inr rfl)).1 ⟨h133, by omega⟩] at k159; exact k159)
                | (rw [(stI_u (V := V) (p := p) (n := n) (b := b) (x := bF V b) (y := bT V b) (by omega) h47 (Or.inl ⟨rfl, rfl⟩) (Or.inr rfl)).2 (fun z => by have := z.2; omega)] at k159; exact k159)
                | (rw [(stI_u (V := V) (p := p) (n := n) (b := b) (x := bF V b) (y := bT V b) (by omega) h47 (Or.inl ⟨rfl, rfl⟩) (Or.inr rfl)).2 (fun z => h133 z.1)] at k159; exact k159)
            · refine aw_iload_n e_Mo_findWays_146 rfl ?_
              refine aw_iconst (v := nI 1) e_Mo_findWays_147 (by decide) ?_
              first | refine awN_iadd e_Mo_findWays_148 ?_ | refine aw_iadd e_Mo_findWays_148 ?_
              refine aw_goto e_Mo_findWays_149 ?_
              first
                | (rw [(stI_u (V := V) (p := p) (n := n) (b := b) (x := bF V b) (y := bT V b) (by omega) h47 (Or.inl ⟨rfl, rfl⟩) (Or.inr rfl)).1 ⟨h133, by omega⟩] at k159; exact k159)
                | (rw [(stI_u (V := V) (p := p) (n := n) (b := b) (x := bF V b) (y := bT V b) (by omega) h47 (Or.inl ⟨rfl, rfl⟩) (Or.inr rfl)).2 (fun z => by have := z.2; omega)] at k159; exact k159)
                | (rw [(stI_u (V := V) (p := p) (n := n) (b := b) (x := bF V b) (y := bT V b) (by omega) h47 (Or.inl ⟨rfl, rfl⟩) (Or.inr rfl)).2 (fun z => h133 z.1)] at k159; exact k159)
        refine aw_aload_n e_Mo_findWays_78 rfl ?_
        refine aw_getR e_Mo_findWays_79 fl_Mo_62 (hS.1 _ _ _ _ rfl) ?_
        refine aw_iload e_Mo_findWays_82 rfl ?_
        refine aw_aload_n e_Mo_findWays_84 rfl ?_
        refine aw_getR e_Mo_findWays_85 fl_Mo_62 (hS.1 _ _ _ _ rfl) ?_
        refine aw_iload e_Mo_findWays_88 rfl ?_
        refine aw_ialE e_Mo_findWays_90 rfl (show _ < 12 by omega) (by omega) (h3 _ (by omega)) ?_
        refine aw_iload_n e_Mo_findWays_91 rfl ?_
        refine aw_icmp_ne e_Mo_findWays_92 (fun h92 => ?_) (fun h92 => ?_)
        · refine aw_aload_n e_Mo_findWays_111 rfl ?_
          refine aw_getR e_Mo_findWays_112 fl_Mo_62 (hS.1 _ _ _ _ rfl) ?_
          refine aw_iload e_Mo_findWays_115 rfl ?_
          refine aw_ialE e_Mo_findWays_117 rfl (show _ < 12 by omega) (by omega) (h3 _ (by omega)) ?_
          first
            | (rw [(stI_u (V := V) (p := p) (n := n) (b := b) (x := bT V b) (y := bF V b) (by omega) h47 (Or.inr ⟨rfl, rfl⟩) (Or.inl rfl)).1 ⟨h92, by omega⟩] at k118; exact k118)
            | (rw [(stI_u (V := V) (p := p) (n := n) (b := b) (x := bT V b) (y := bF V b) (by omega) h47 (Or.inr ⟨rfl, rfl⟩) (Or.inl rfl)).2 (fun z => by have := z.2; omega)] at k118; exact k118)
            | (rw [(stI_u (V := V) (p := p) (n := n) (b := b) (x := bT V b) (y := bF V b) (by omega) h47 (Or.inr ⟨rfl, rfl⟩) (Or.inl rfl)).2 (fun z => h92 z.1)] at k118; exact k118)
        · refine aw_aload_n e_Mo_findWays_95 rfl ?_
          refine aw_getR e_Mo_findWays_96 fl_Mo_62 (hS.1 _ _ _ _ rfl) ?_
          refine aw_iload e_Mo_findWays_99 rfl ?_
          refine aw_ialE e_Mo_findWays_101 rfl (show _ < 12 by omega) (by omega) (h3 _ (by omega)) ?_
          refine awZ_if_ge e_Mo_findWays_102 (fun h102 => ?_) (fun h102 => ?_)
          · refine aw_aload_n e_Mo_findWays_111 rfl ?_
            refine aw_getR e_Mo_findWays_112 fl_Mo_62 (hS.1 _ _ _ _ rfl) ?_
            refine aw_iload e_Mo_findWays_115 rfl ?_
            refine aw_ialE e_Mo_findWays_117 rfl (show _ < 12 by omega) (by omega) (h3 _ (by omega)) ?_
            first
              | (rw [(stI_u (V := V) (p := p) (n := n) (b := b) (x := bT V b) (y := bF V b) (by omega) h47 (Or.inr ⟨rfl, rfl⟩) (Or.inl rfl)).1 ⟨h92, by omega⟩] at k118; exact k118)
              | (rw [(stI_u (V := V) (p := p) (n := n) (b := b) (x := bT V b) (y := bF V b) (by omega) h47 (Or.inr ⟨rfl, rfl⟩) (Or.inl rfl)).2 (fun z => by have := z.2; omega)] at k118; exact k118)
              | (rw [(stI_u (V := V) (p := p) (n := n) (b := b) (x := bT V b) (y := bF V b) (by omega) h47 (Or.inr ⟨rfl, rfl⟩) (Or.inl rfl)).2 (fun z => h92 z.1)] at k118; exact k118)
          · refine aw_iload_n e_Mo_findWays_105 rfl ?_
            refine aw_iconst (v := nI 1) e_Mo_findWays_106 (by decide) ?_
            first | refine awN_iadd e_Mo_findWays_107 ?_ | refine aw_iadd e_Mo_findWays_107 ?_
            refine aw_goto e_Mo_findWays_108 ?_
            first
              | (rw [(stI_u (V := V) (p := p) (n := n) (b := b) (x := bT V b) (y := bF V b) (by omega) h47 (Or.inr ⟨rfl, rfl⟩) (Or.inl rfl)).1 ⟨h92, by omega⟩] at k118; exact k118)
              | (rw [(stI_u (V := V) (p := p) (n := n) (b := b) (x := bT V b) (y := bF V b) (by omega) h47 (Or.inr ⟨rfl, rfl⟩) (Or.inl rfl)).2 (fun z => by have := z.2; omega)] at k118; exact k118)
              | (rw [(stI_u (V := V) (p := p) (n := n) (b := b) (x := bT V b) (y := bF V b) (by omega) h47 (Or.inr ⟨rfl, rfl⟩) (Or.inl rfl)).2 (fun z => h92 z.1)] at k118; exact k118)
  · refine aw_aload_n e_Mo_findWays_8 rfl ?_
    refine aw_getR e_Mo_findWays_9 fl_Mo_62 (hS.1 _ _ _ _ rfl) ?_
    refine aw_iload_n e_Mo_findWays_12 rfl ?_
    refine aw_iload_n e_Mo_findWays_13 rfl ?_
    refine aw_iload_n e_Mo_findWays_14 rfl ?_
    refine awN_icmp_ne e_Mo_findWays_15 (by omega) (by omega) (fun h15 => ?_) (fun h15 => ?_)
    · refine aw_iconst (v := -1) e_Mo_findWays_22 (by decide) ?_
      refine aw_iast e_Mo_findWays_23 rfl (show _ < 12 by omega) (by omega) ?_
      refine aw_inc2 e_Mo_findWays_24 (inc1 _) ?_
      refine aw_goto e_Mo_findWays_27 ?_
      refine ih h5 _ (fun t i hti => by rw [sI_n hti]; exact hf1 t i hti) (fun q hq => ?_)
      by_cases e : q = k
      · rw [e, sI_eq, dsI_0]
        first
          | rw [if_pos h15]
          | rw [if_neg h15]
      · rw [sI_ne e]; exact h1 q (by omega)
    · refine aw_iconst (v := nI 0) e_Mo_findWays_18 (by decide) ?_
      refine aw_goto e_Mo_findWays_19 ?_
      refine aw_iast e_Mo_findWays_23 rfl (show _ < 12 by omega) (by omega) ?_
      refine aw_inc2 e_Mo_findWays_24 (inc1 _) ?_
      refine aw_goto e_Mo_findWays_27 ?_
      refine ih h5 _ (fun t i hti => by rw [sI_n hti]; exact hf1 t i hti) (fun q hq => ?_)
      by_cases e : q = k
      · rw [e, sI_eq, dsI_0]
        first
          | rw [if_pos h15]
          | rw [if_neg h15]
      · rw [sI_ne e]; exact h1 q (by omega)
theorem c_Mo_way {l : Launch} {E : En} {d : Nat} {I : It} {L : Lt} {R : Rt} {Z : Zt} {Q : Qt} {S : AS} (hS : Sta R) (hM : MSt I S) (hA : AWF S) {x y : Int32} (hQ : ∀ I2 L2, MSt I2 (op_way S x y).1 → fK I I2 → Q (some (vi (op_way S x y).2)) I2 L2 R Z) : AMet l E (d + 2) M_Mo_way [vr 9 0, vi x, vi y] I L R Z Q := by
  have hC := hM.1
  have hW := hA.1.1
  have hnb := hW.1.2.1
  have hnp := hW.1.1
  have hnx := hW.1.2.2.1
  have hns := hW.1.2.2.2
  refine AMet.of mf_Mo_way rfl (Nat.le_of_ble_eq_true rfl) ?_
  refine aw_aload_n e_Mo_way_0 rfl ?_
  refine aw_iload_n e_Mo_way_1 rfl ?_
  refine aw_cV1 e_Mo_way_2 ml_Mo_122 mf_Mo_isPart mv_Mo_isPart (c_Mo_isPart hS hC hW ?_)
  refine awB_eq e_Mo_way_5 (fun h5 => ?_) (fun h5 => ?_)
  · refine aw_ldc (v := -1000000001) e_Mo_way_16 kc_Mo_89 ?_
    have hq := hQ I L hM fK_0
    unfold op_way at hq
    first
      | (rw [if_neg (fun w => h5 w.1)] at hq; exact aw_iret e_Mo_way_18 rfl rfl hq)
      | (rw [if_neg (fun w => h13 w.2)] at hq; exact aw_iret e_Mo_way_18 rfl rfl hq)
  · refine aw_aload_n e_Mo_way_8 rfl ?_
    refine aw_iload_n e_Mo_way_9 rfl ?_
    refine aw_cV1 e_Mo_way_10 ml_Mo_122 mf_Mo_isPart mv_Mo_isPart (c_Mo_isPart hS hC hW ?_)
    refine awB_ne e_Mo_way_13 (fun h13 => ?_) (fun h13 => ?_)
    · obtain ⟨p, hp, rfl⟩ := inR_nI h5
      obtain ⟨q, hqn, rfl⟩ := inR_nI h13
      refine aw_aload_n e_Mo_way_19 rfl ?_
      refine aw_iload_n e_Mo_way_20 rfl ?_
      refine aw_cV1 e_Mo_way_21 ml_Mo_329 mf_Mo_findWays mv_Mo_findWays (c_Mo_findWays hS hC hW hp (fun I2 h2 hf2 => ?_))
      refine aw_aload_n e_Mo_way_24 rfl ?_
      refine aw_getR e_Mo_way_25 fl_Mo_62 (hS.1 _ _ _ _ rfl) ?_
      refine aw_iload_n e_Mo_way_28 rfl ?_
      refine aw_ialE e_Mo_way_29 rfl (show _ < 12 by omega) (by omega) (h2 q (by omega)) ?_
      refine aw_cS1 e_Mo_way_30 ml_Mo_319 mf_Mo_orNone ms_Mo_orNone (c_Mo_orNone ?_)
      have hfm : fM I I2 := ⟨fun t i a _ _ c _ _ _ => hf2 t i (fun z => c z.1), by rw [hf2 9 0 (by decide)], by rw [hf2 9 0 (by decide)], by rw [hf2 9 0 (by decide)]⟩
      have hq := hQ I2 L (hM.same hfm (hf2 28 0 (by decide))) hfm.K
      unfold op_way at hq
      rw [if_pos ⟨h5, h13⟩, ix_n (j := p) (by omega), ix_n (j := q) (by omega), way_ds hW hp] at hq
      exact aw_iret e_Mo_way_33 rfl rfl hq
    · refine aw_ldc (v := -1000000001) e_Mo_way_16 kc_Mo_89 ?_
      have hq := hQ I L hM fK_0
      unfold op_way at hq
      first
        | (rw [if_neg (fun w => h5 w.1)] at hq; exact aw_iret e_Mo_way_18 rfl rfl hq)
        | (rw [if_neg (fun w => h13 w.2)] at hq; exact aw_iret e_Mo_way_18 rfl rfl hq)
theorem c_Mo_rings {l : Launch} {E : En} {d : Nat} {I : It} {L : Lt} {R : Rt} {Z : Zt} {Q : Qt} {S : AS} (hS : Sta R) (hM : MSt I S) (hA : AWF S) (hQ : ∀ I2 L2, MSt I2 (op_rings S).1 → fK I I2 → Q (some (vi (op_rings S).2)) I2 L2 R Z) : AMet l E (d + 1) M_Mo_rings [vr 9 0] I L R Z Q := by
  have hC := hM.1
  have hW := hA.1.1
  have hnb := hW.1.2.1
  have hnp := hW.1.1
  have hnx := hW.1.2.2.1
  have hns := hW.1.2.2.2
  refine AMet.of mf_Mo_rings rfl (Nat.le_of_ble_eq_true rfl) ?_
  refine aw_iconst (v := nI 0) e_Mo_rings_0 (by decide) ?_
  refine aw_ist1 e_Mo_rings_1 ?_
  refine aw_iconst (v := nI 0) e_Mo_rings_2 (by decide) ?_
  refine aw_ist2 e_Mo_rings_3 ?_
  refine up_loop (P := fun i => ∀ I2, (∀ t i, ¬ (t = 43 ∧ i = 0) → I2 t i = I t i) → AWq l E (d + 1) M_Mo_rings Z 4 [some (vr 9 0), some (vi (nI (cnt (fpB (sM S)) i))), some (vi (nI i)), none, none] [] I2 L R Z Q) (N := nP (sM S)) (fun i hi ih I2 hf2 => ?_) 0 (Nat.zero_le _) I (fun _ _ _ => rfl)
  refine aw_iload_n e_Mo_rings_4 rfl ?_
  refine aw_aload_n e_Mo_rings_5 rfl ?_
  refine aw_getR e_Mo_rings_6 fl_Mo_7 (hS.1 _ _ _ _ rfl) ?_
  refine aw_iconst (v := nI 0) e_Mo_rings_9 (by decide) ?_
  refine aw_ialE e_Mo_rings_10 rfl (show _ < 3110 by omega) (by omega) (show _ = nI (nP (sM S)) by rw [hf2 28 0 (by decide)]; exact hC.1.1) ?_
  refine awN_icmp_ge e_Mo_rings_11 (by omega) (by omega) (fun h11 => ?_) (fun h11 => ?_)
  · refine aw_aload_n e_Mo_rings_74 rfl ?_
    refine aw_getR e_Mo_rings_75 fl_Mo_7 (hS.1 _ _ _ _ rfl) ?_
    refine aw_iconst (v := nI 1) e_Mo_rings_78 (by decide) ?_
    refine aw_ialE e_Mo_rings_79 rfl (show _ < 3110 by omega) (by omega) (show _ = nI (nB (sM S)) by rw [hf2 28 0 (by decide)]; exact hC.1.2.1) ?_
    refine aw_aload_n e_Mo_rings_80 rfl ?_
    refine aw_getR e_Mo_rings_81 fl_Mo_7 (hS.1 _ _ _ _ rfl) ?_
    refine aw_iconst (v := nI 0) e_Mo_rings_84 (by decide) ?_
    refine aw_ialE e_Mo_rings_85 rfl (show _ < 3110 by omega) (by omega) (show _ = nI (nP (sM S)) by rw [hf2 28 0 (by decide)]; exact hC.1.1) ?_
    refine aw_isub e_Mo_rings_86 ?_
    refine aw_iload_n e_Mo_rings_87 rfl ?_
    refine aw_iadd e_Mo_rings_88 ?_
    obtain rfl : i = nP (sM S) := by omega
    have hfm : fM I I2 := ⟨fun t i a _ _ c _ _ _ => hf2 t i (fun z => c z.1), by rw [hf2 9 0 (by decide)], by rw [hf2 9 0 (by decide)], by rw [hf2 9 0 (by decide)]⟩
    have hq := hQ I2 L (hM.same hfm (hf2 28 0 (by decide))) hfm.K
    unfold op_rings at hq
    rw [pcs_cnt hW _ (Nat.le_refl _)] at hq
    exact aw_iret e_Mo_rings_89 rfl rfl hq
  · 
    refine aw_aload_n e_Mo_rings_14 rfl ?_
    refine aw_iload_n e_Mo_rings_15 rfl ?_
    refine aw_cV1 e_Mo_rings_16 ml_Mo_329 mf_Mo_findWays mv_Mo_findWays (c_Mo_findWays hS (hC.keep (hf2 28 0 (by decide))) hW h11 (fun I3 h3 hf3 => ?_))
    refine aw_iconst (v := nI 1) e_Mo_rings_19 (by decide) ?_
    refine aw_ist3 e_Mo_rings_20 ?_
    refine aw_iconst (v := nI 0) e_Mo_rings_21 (by decide) ?_
    refine aw_ist4 e_Mo_rings_22 ?_
    rw [show (nI 1 : Int32) = bI (allB (fun q => !((ms (sM S) i 12).testBit q)) 0 = true) from (bI_t (c := allB (fun q => !((ms (sM S) i 12).testBit q)) 0 = true) rfl).symm]
    refine up_loop (P := fun q => AWq l E (d + 1) M_Mo_rings Z 24 [some (vr 9 0), some (vi (nI (cnt (fpB (sM S)) i))), some (vi (nI i)), some (vi (bI (allB (fun q => !((ms (sM S) i 12).testBit q)) q = true))), some (vi (nI q))] [] I3 L R Z Q) (N := i) (fun q hq ih24 => ?_) 0 (Nat.zero_le _)
    refine aw_iload e_Mo_rings_24 rfl ?_
    refine aw_iload_n e_Mo_rings_26 rfl ?_
    refine awN_icmp_ge e_Mo_rings_27 (by omega) (by omega) (fun h27 => ?_) (fun h27 => ?_)
    · obtain rfl : q = i := by omega
      refine aw_drop 4 ?_
      refine aw_iload_n e_Mo_rings_56 rfl ?_
      refine aw_iload_n e_Mo_rings_57 rfl ?_
      refine awB_eq e_Mo_rings_58 (fun h58 => ?_) (fun h58 => ?_)
      · refine aw_iconst (v := nI 0) e_Mo_rings_65 (by decide) ?_
        first | refine awN_iadd e_Mo_rings_66 ?_ | refine aw_iadd e_Mo_rings_66 ?_
        first | rw [← cnt_t (P := fpB (sM S)) (n := q) h58] | rw [Nat.add_zero, ← cnt_f2 (P := fpB (sM S)) (n := q) h58]
        refine aw_ist1 e_Mo_rings_67 ?_
        refine aw_inc2 e_Mo_rings_68 (inc1 _) ?_
        refine aw_goto e_Mo_rings_71 ?_
        refine aw_drop 3 ?_
        exact ih h11 _ (fun t j hti => (hf3 t j hti).trans (hf2 t j hti))
      · refine aw_iconst (v := nI 1) e_Mo_rings_61 (by decide) ?_
        refine aw_goto e_Mo_rings_62 ?_
        first | refine awN_iadd e_Mo_rings_66 ?_ | refine aw_iadd e_Mo_rings_66 ?_
        first | rw [← cnt_t (P := fpB (sM S)) (n := q) h58] | rw [Nat.add_zero, ← cnt_f2 (P := fpB (sM S)) (n := q) h58]
        refine aw_ist1 e_Mo_rings_67 ?_
        refine aw_inc2 e_Mo_rings_68 (inc1 _) ?_
        refine aw_goto e_Mo_rings_71 ?_
        refine aw_drop 3 ?_
        exact ih h11 _ (fun t j hti => (hf3 t j hti).trans (hf2 t j hti))
    · refine aw_iload_n e_Mo_rings_30 rfl ?_
      refine awB_eq e_Mo_rings_31 (fun h31 => ?_) (fun h31 => ?_)
      · refine aw_iconst (v := nI 0) e_Mo_rings_48 (by decide) ?_
        refine aw_ist3 e_Mo_rings_49 ?_
        refine aw_inc4 e_Mo_rings_50 (inc1 _) ?_
        refine aw_goto e_Mo_rings_53 ?_
        have h := ih24 h27
        have hT := (dsI_T (V := sM S) (p := i) (q := q) (n := 12) (by decide)).1
        first
          | (rw [bI_t (c := allB (fun q => !((ms (sM S) i 12).testBit q)) (q + 1) = true) (allB_s.2 ⟨h31, by rw [Bool.eq_false_iff.2 (hT.1 (by omega))]; rfl⟩)] at h; exact h)
          | (rw [bI_f (c := allB (fun q => !((ms (sM S) i 12).testBit q)) (q + 1) = true) (fun z => h31 (allB_s.1 z).1)] at h; exact h)
          | (rw [bI_f (c := allB (fun q => !((ms (sM S) i 12).testBit q)) (q + 1) = true) (fun z => by have z2 := (allB_s.1 z).2; have z3 : ¬ (ms (sM S) i 12).testBit q = true := (by intro w; rw [w] at z2; cases z2); have := hT.2 z3; omega)] at h; exact h)
      · refine aw_aload_n e_Mo_rings_34 rfl ?_
        refine aw_getR e_Mo_rings_35 fl_Mo_62 (hS.1 _ _ _ _ rfl) ?_
        refine aw_iload e_Mo_rings_38 rfl ?_
        refine aw_ialE e_Mo_rings_40 rfl (show _ < 12 by omega) (by omega) (h3 q (by omega)) ?_
        refine awZ_if_ge e_Mo_rings_41 (fun h41 => ?_) (fun h41 => ?_)
        · refine aw_iconst (v := nI 0) e_Mo_rings_48 (by decide) ?_
          refine aw_ist3 e_Mo_rings_49 ?_
          refine aw_inc4 e_Mo_rings_50 (inc1 _) ?_
          refine aw_goto e_Mo_rings_53 ?_
          have h := ih24 h27
          have hT := (dsI_T (V := sM S) (p := i) (q := q) (n := 12) (by decide)).1
          first
            | (rw [bI_t (c := allB (fun q => !((ms (sM S) i 12).testBit q)) (q + 1) = true) (allB_s.2 ⟨h31, by rw [Bool.eq_false_iff.2 (hT.1 (by omega))]; rfl⟩)] at h; exact h)
            | (rw [bI_f (c := allB (fun q => !((ms (sM S) i 12).testBit q)) (q + 1) = true) (fun z => h31 (allB_s.1 z).1)] at h; exact h)
            | (rw [bI_f (c := allB (fun q => !((ms (sM S) i 12).testBit q)) (q + 1) = true) (fun z => by have z2 := (allB_s.1 z).2; have z3 : ¬ (ms (sM S) i 12).testBit q = true := (by intro w; rw [w] at z2; cases z2); have := hT.2 z3; omega)] at h; exact h)
        · refine aw_iconst (v := nI 1) e_Mo_rings_44 (by decide) ?_
          refine aw_goto e_Mo_rings_45 ?_
          refine aw_ist3 e_Mo_rings_49 ?_
          refine aw_inc4 e_Mo_rings_50 (inc1 _) ?_
          refine aw_goto e_Mo_rings_53 ?_
          have h := ih24 h27
          have hT := (dsI_T (V := sM S) (p := i) (q := q) (n := 12) (by decide)).1
          first
            | (rw [bI_t (c := allB (fun q => !((ms (sM S) i 12).testBit q)) (q + 1) = true) (allB_s.2 ⟨h31, by rw [Bool.eq_false_iff.2 (hT.1 (by omega))]; rfl⟩)] at h; exact h)
            | (rw [bI_f (c := allB (fun q => !((ms (sM S) i 12).testBit q)) (q + 1) = true) (fun z => h31 (allB_s.1 z).1)] at h; exact h)
            | (rw [bI_f (c := allB (fun q => !((ms (sM S) i 12).testBit q)) (q + 1) = true) (fun z => by have z2 := (allB_s.1 z).2; have z3 : ¬ (ms (sM S) i 12).testBit q = true := (by intro w; rw [w] at z2; cases z2); have := hT.2 z3; omega)] at h; exact h)
