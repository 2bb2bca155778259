/-! ===== the calls, 12: mark ===== -/
def mkV (so v : Int32) : Int32 := if so = 0 then v.toInt16.toInt32 else v
def mkS (w : ShV) (p : Nat) (v : Int32) : ShV := (w.1, w.2.1, fun j => if j = p then mkV w.1 v else w.2.2 j)
def op_mark (S : AS) (s p v : Int32) : AS × Int32 := if inR s 4 then (if (sH S (ix s)).1 = -1 then (S, -1000000011) else if inR p (sH S (ix s)).2.1 then (setS S (ix s) (mkS (sH S (ix s)) (ix p) v), (sH S (ix s)).2.2 (ix p)) else (S, -1000000013)) else (S, -1000000001)
theorem c_Pb_mark {l : Launch} {E : En} {d : Nat} {I : It} {L : Lt} {R : Rt} {Z : Zt} {Q : Qt} {S : AS} (hCS : CS I R Z S) {x y z : Int32} (hQ : ∀ I2 L2 R2, CS I2 R2 Z (op_mark S x y z).1 → KM I L R I2 L2 R2 → Q (some (vi (op_mark S x y z).2)) I2 L2 R2 Z) : AMet l E (d + 1) M_Pb_mark [vr 8 0, vi x, vi y, vi z] I L R Z Q := by
  have hS := hCS.1
  have hC := hCS.2.1
  have hW := hCS.2.2.1.1
  have hWn := hW.1
  refine AMet.of mf_Pb_mark rfl (Nat.le_of_ble_eq_true rfl) ?_
  refine aw_iload_n e_Pb_mark_0 rfl ?_
  refine aw_cS1 e_Pb_mark_1 ml_Pb_261 mf_Pb_isSheet ms_Pb_isSheet (c_Pb_isSheet ?_)
  refine awB_ne e_Pb_mark_4 (fun h4 => ?_) (fun h4 => ?_)
  · obtain ⟨s, hs, rfl⟩ := inR_nI h4
    have hsh := hCS.2.2.2.2.2.2.1 s hs
    have hsz := hsh.2.2.1
    refine aw_aload_n e_Pb_mark_10 rfl ?_
    refine aw_getR e_Pb_mark_11 fl_Pb_55 (hS.1 _ _ _ _ rfl) ?_
    refine aw_iload_n e_Pb_mark_14 rfl ?_
    refine aw_aald e_Pb_mark_15 rfl (show _ < 4 by omega) (by omega) (hS.2.2.1 _ (by omega)) ?_
    refine aw_ast4 e_Pb_mark_16 ?_
    refine aw_aload e_Pb_mark_18 rfl ?_
    refine aw_getE e_Pb_mark_20 fl_Pb_268 hsh.1 ?_
    refine aw_iconst (v := -1) e_Pb_mark_23 (by decide) ?_
    refine aw_icmp_ne e_Pb_mark_24 (fun h24 => ?_) (fun h24 => ?_)
    · refine aw_aload e_Pb_mark_31 rfl ?_
      refine aw_iload_n e_Pb_mark_33 rfl ?_
      refine aw_cV1 e_Pb_mark_34 ml_Pb_270 mf_Sh_hasPlace mv_Sh_hasPlace (c_Sh_hasPlace hsh.2.1 hsz ?_)
      refine awB_ne e_Pb_mark_37 (fun h37 => ?_) (fun h37 => ?_)
      · obtain ⟨p, hp, rfl⟩ := inR_nI h37
        have k73 : AWq l E (d + 1) M_Pb_mark Z 73 [some (vr 8 0), some (vi (nI s)), some (vi (nI p)), some (vi z), some (vr 4 s), some (vi ((sH S s).2.2 p))] [vi (mkV (sH S s).1 z), vi (nI p), vr 26 s] I L R Z Q := by
          refine aw_iast e_Pb_mark_73 rfl (show _ < 24 by omega) (by omega) ?_
          refine aw_iload e_Pb_mark_74 rfl ?_
          have hf2 : ∀ t i, ¬ ((t = 4 ∨ t = 26) ∧ i = s) → sI I 26 s p (mkV (sH S s).1 z) t i = I t i := fun t i hti => sI_n (by omega)
          have hsh2 : SHo (sI I 26 s p (mkV (sH S s).1 z)) s (mkS (sH S s) p z) := by
            refine ⟨by rw [sI_n (by omega)]; exact hsh.1, by rw [sI_n (by omega)]; exact hsh.2.1, hsh.2.2.1, hsh.2.2.2.1, hsh.2.2.2.2.1, fun j hj => ?_⟩
            show _ = if j = p then mkV (sH S s).1 z else (sH S s).2.2 j
            rw [sI_s]
            unfold upd
            by_cases e : j = p
            · rw [if_pos e, if_pos e]
            · rw [if_neg e, if_neg e]
              exact hsh.2.2.2.2.2 j hj
          have hq := hQ (sI I 26 s p (mkV (sH S s).1 z)) L R
          unfold op_mark at hq
          rw [if_pos h4, ix_n (j := s) (by omega), if_neg h24, if_pos h37, ix_n (j := p) (by omega)] at hq
          exact aw_iret e_Pb_mark_76 rfl rfl (hq (CS_sheet hCS hs hf2 hsh2) (KM_sheet hf2))
        refine aw_aload e_Pb_mark_44 rfl ?_
        refine aw_getR e_Pb_mark_46 fl_Pb_274 (hS.1 _ _ _ _ rfl) ?_
        refine aw_iload_n e_Pb_mark_49 rfl ?_
        refine aw_ialE e_Pb_mark_50 rfl (show _ < 24 by omega) (by omega) (hsh.2.2.2.2.2 _ hp) ?_
        refine aw_ist5 e_Pb_mark_51 ?_
        refine aw_aload e_Pb_mark_53 rfl ?_
        refine aw_getR e_Pb_mark_55 fl_Pb_274 (hS.1 _ _ _ _ rfl) ?_
        refine aw_iload_n e_Pb_mark_58 rfl ?_
        refine aw_aload e_Pb_mark_59 rfl ?_
        refine aw_getE e_Pb_mark_61 fl_Pb_268 hsh.1 ?_
        refine aw_if_ne e_Pb_mark_64 (fun h64 => ?_) (fun h64 => ?_)
        · refine aw_iload_n e_Pb_mark_72 rfl ?_
          unfold mkV at k73
          first
            | (rw [if_pos h64] at k73; exact k73)
            | (rw [if_neg h64] at k73; exact k73)
        · refine aw_iload_n e_Pb_mark_67 rfl ?_
          refine aw_i2s e_Pb_mark_68 ?_
          refine aw_goto e_Pb_mark_69 ?_
          unfold mkV at k73
          first
            | (rw [if_pos h64] at k73; exact k73)
            | (rw [if_neg h64] at k73; exact k73)
      · refine aw_ldcw (v := -1000000013) e_Pb_mark_40 kc_Pb_273 ?_
        have hq := hQ I L R
        unfold op_mark at hq
        first
          | (rw [if_pos h4, ix_n (j := s) (by omega), if_neg h24, if_neg h37] at hq; exact aw_iret e_Pb_mark_43 rfl rfl (hq hCS KM_0))
    · refine aw_ldcw (v := -1000000011) e_Pb_mark_27 kc_Pb_269 ?_
      have hq := hQ I L R
      unfold op_mark at hq
      first
        | (rw [if_pos h4, ix_n (j := s) (by omega), if_pos h24] at hq; exact aw_iret e_Pb_mark_30 rfl rfl (hq hCS KM_0))
  · refine aw_ldc (v := -1000000001) e_Pb_mark_7 kc_Pb_74 ?_
    have hq := hQ I L R
    unfold op_mark at hq
    first
      | (rw [if_neg h4] at hq; exact aw_iret e_Pb_mark_9 rfl rfl (hq hCS KM_0))
