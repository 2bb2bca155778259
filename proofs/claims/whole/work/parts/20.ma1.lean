/-! ===== Machine: what it tells ===== -/
theorem fa_and (a b : Nat) : nI a &&& nI b = nI (a &&& b) := by
  apply Int32.toBitVec_inj.1
  show BitVec.ofNat 32 a &&& BitVec.ofNat 32 b = BitVec.ofNat 32 (a &&& b)
  apply BitVec.eq_of_getLsbD_eq
  intro i hi
  simp [hi]
theorem fa_or (a b : Nat) : nI a ||| nI b = nI (a ||| b) := by
  apply Int32.toBitVec_inj.1
  show BitVec.ofNat 32 a ||| BitVec.ofNat 32 b = BitVec.ofNat 32 (a ||| b)
  apply BitVec.eq_of_getLsbD_eq
  intro i hi
  simp [hi]
theorem sm31 : ∀ f, f < 31 → ((nI f &&& 31).toBitVec.smod 32).toNat = f := by decide +kernel
theorem shrS {m f : Nat} (hm : m < 2147483648) (hf : f < 31) : nI m >>> (nI f &&& 31) = nI (m / 2 ^ f) := pk_shrN hm _ f (sm31 f hf)
theorem shlS {m f : Nat} (hf : f < 31) (h : m * 2 ^ f < 4294967296) : nI m <<< (nI f &&& 31) = nI (m * 2 ^ f) := pk_shlN _ f (sm31 f hf) h
theorem and1 (a : Nat) (h : a < 4294967296) : nI a &&& nI 1 = nI (a % 2) := pk_andN h 1 (by decide)
theorem tbit (m f : Nat) : m / 2 ^ f % 2 = 1 ↔ m.testBit f = true := by rw [Nat.testBit_eq_decide_div_mod_eq]; simp
theorem pow12 {f : Nat} (h : f < 12) : 2 ^ f < 4096 := Nat.pow_lt_pow_right (by decide) h
def allB (P : Nat → Bool) : Nat → Bool
  | 0 => true
  | n + 1 => allB P n && P n
theorem allB_iff (P : Nat → Bool) : ∀ n, allB P n = true ↔ ∀ i, i < n → P i = true
  | 0 => ⟨fun _ i h => absurd h (Nat.not_lt_zero i), fun _ => rfl⟩
  | n + 1 => by
    show (allB P n && P n) = true ↔ _
    rw [Bool.and_eq_true, allB_iff P n]
    constructor
    · rintro ⟨h1, h2⟩ i hi
      by_cases e : i = n
      · rw [e]; exact h2
      · exact h1 i (by omega)
    · intro h
      exact ⟨fun i hi => h i (by omega), h n (by omega)⟩
def whole (V : Mc) : Bool := allB (fun p => wantB (pP V p 0) (ends V p)) (nP V) && decide (0 < nB V)
def bnd (V : Mc) (p s : Nat) : Int32 := if fst' (atB V p) (nB V) s < nB V then nI (fst' (atB V p) (nB V) s) else -1
def sumS (V : Mc) : Nat → Nat
  | 0 => 0
  | n + 1 => if pP V n 0 = 1 then (sumS V n + pP V n 4) % 1000003 else sumS V n
theorem sumS_lt (V : Mc) : ∀ n, sumS V n < 1000003
  | 0 => by show 0 < 1000003; decide
  | n + 1 => by
    unfold sumS
    split
    · exact modP _
    · exact sumS_lt V n
def nbL (V : Mc) (m : Nat) : Nat → Nat
  | 0 => m
  | n + 1 => if m.testBit (bF V n) || m.testBit (bT V n) then nbL V m n ||| (2 ^ bF V n ||| 2 ^ bT V n) else nbL V m n
theorem or_lt {a b : Nat} (ha : a < 4096) (hb : b < 4096) : a ||| b < 4096 := Nat.or_lt_two_pow (n := 12) ha hb
theorem nbL_lt {V : Mc} (hW : WF V) {m : Nat} (hm : m < 4096) : ∀ n, n ≤ nB V → nbL V m n < 4096
  | 0, _ => hm
  | n + 1, h => by
    have ih := nbL_lt hW hm n (by omega)
    have hb := hW.2.2.1 n (by omega)
    have hp := hW.1.1
    unfold nbL
    split
    · exact or_lt ih (or_lt (pow12 (by omega)) (pow12 (by omega)))
    · exact ih
theorem c_Ma_hasPart {l : Launch} {E : En} {d : Nat} {I : It} {L : Lt} {R : Rt} {Z : Zt} {Q : Qt} {k : Nat} {V : Mc} (hS : Sta R) (hk : k < 3) (hC : CM I R Z k V) (hW : WF V) {x : Int32} (hQ : Q (some (vi (bI (inR x (nP V))))) I L R Z) : AMet l E d M_Ma_hasPart [vr 2 k, vi x] I L R Z Q := by
  have hnb := hW.1.2.1
  have hnp := hW.1.1
  have hnx := hW.1.2.2.1
  have hT := nT (n := nP V) (by omega)
  refine AMet.of mf_Ma_hasPart rfl (Nat.le_of_ble_eq_true rfl) ?_
  refine aw_iload_n e_Ma_hasPart_0 rfl ?_
  refine awZ_if_lt e_Ma_hasPart_1 (fun h1 => ?_) (fun h1 => ?_)
  · refine aw_iconst (v := nI 0) e_Ma_hasPart_16 (by decide) ?_
    first
      | exact awB_1 e_Ma_hasPart_17 (by unfold inR; omega) hQ
      | exact awB_0 e_Ma_hasPart_17 (by unfold inR; omega) hQ
  · refine aw_iload_n e_Ma_hasPart_4 rfl ?_
    refine aw_aload_n e_Ma_hasPart_5 rfl ?_
    refine aw_getE e_Ma_hasPart_6 fl_Ma_31 hC.1.1 ?_
    refine awZ_icmp_ge e_Ma_hasPart_9 (fun h9 => ?_) (fun h9 => ?_)
    · refine aw_iconst (v := nI 0) e_Ma_hasPart_16 (by decide) ?_
      first
        | exact awB_1 e_Ma_hasPart_17 (by unfold inR; omega) hQ
        | exact awB_0 e_Ma_hasPart_17 (by unfold inR; omega) hQ
    · refine aw_iconst (v := nI 1) e_Ma_hasPart_12 (by decide) ?_
      refine aw_goto e_Ma_hasPart_13 ?_
      first
        | exact awB_1 e_Ma_hasPart_17 (by unfold inR; omega) hQ
        | exact awB_0 e_Ma_hasPart_17 (by unfold inR; omega) hQ
theorem c_Ma_hasBond {l : Launch} {E : En} {d : Nat} {I : It} {L : Lt} {R : Rt} {Z : Zt} {Q : Qt} {k : Nat} {V : Mc} (hS : Sta R) (hk : k < 3) (hC : CM I R Z k V) (hW : WF V) {x : Int32} (hQ : Q (some (vi (bI (inR x (nB V))))) I L R Z) : AMet l E d M_Ma_hasBond [vr 2 k, vi x] I L R Z Q := by
  have hnb := hW.1.2.1
  have hnp := hW.1.1
  have hnx := hW.1.2.2.1
  have hT := nT (n := nB V) (by omega)
  refine AMet.of mf_Ma_hasBond rfl (Nat.le_of_ble_eq_true rfl) ?_
  refine aw_iload_n e_Ma_hasBond_0 rfl ?_
  refine awZ_if_lt e_Ma_hasBond_1 (fun h1 => ?_) (fun h1 => ?_)
  · refine aw_iconst (v := nI 0) e_Ma_hasBond_16 (by decide) ?_
    first
      | exact awB_1 e_Ma_hasBond_17 (by unfold inR; omega) hQ
      | exact awB_0 e_Ma_hasBond_17 (by unfold inR; omega) hQ
  · refine aw_iload_n e_Ma_hasBond_4 rfl ?_
    refine aw_aload_n e_Ma_hasBond_5 rfl ?_
    refine aw_getE e_Ma_hasBond_6 fl_Ma_39 hC.1.2.1 ?_
    refine awZ_icmp_ge e_Ma_hasBond_9 (fun h9 => ?_) (fun h9 => ?_)
    · refine aw_iconst (v := nI 0) e_Ma_hasBond_16 (by decide) ?_
      first
        | exact awB_1 e_Ma_hasBond_17 (by unfold inR; omega) hQ
        | exact awB_0 e_Ma_hasBond_17 (by unfold inR; omega) hQ
    · refine aw_iconst (v := nI 1) e_Ma_hasBond_12 (by decide) ?_
      refine aw_goto e_Ma_hasBond_13 ?_
      first
        | exact awB_1 e_Ma_hasBond_17 (by unfold inR; omega) hQ
        | exact awB_0 e_Ma_hasBond_17 (by unfold inR; omega) hQ
theorem c_Ma_endsOf {l : Launch} {E : En} {d : Nat} {I : It} {L : Lt} {R : Rt} {Z : Zt} {Q : Qt} {k : Nat} {V : Mc} (hS : Sta R) (hk : k < 3) (hC : CM I R Z k V) (hW : WF V) {p : Nat} (hp : p < 12) (hQ : Q (some (vi (nI (ends V p)))) I L R Z) : AMet l E d M_Ma_endsOf [vr 2 k, vi (nI p)] I L R Z Q := by
  have hnb := hW.1.2.1
  have hnp := hW.1.1
  have hnx := hW.1.2.2.1
  refine AMet.of mf_Ma_endsOf rfl (Nat.le_of_ble_eq_true rfl) ?_
  refine aw_iconst (v := nI 0) e_Ma_endsOf_0 (by decide) ?_
  refine aw_ist2 e_Ma_endsOf_1 ?_
  refine aw_iconst (v := nI 0) e_Ma_endsOf_2 (by decide) ?_
  refine aw_ist3 e_Ma_endsOf_3 ?_
  refine up_loop (P := fun i => AWq l E d M_Ma_endsOf Z 4 [some (vr 2 k), some (vi (nI p)), some (vi (nI (cnt (atB V p) i))), some (vi (nI i))] [] I L R Z Q) (N := nB V) (fun i hi ih => ?_) 0 (by omega)
  try dsimp only
  refine aw_iload_n e_Ma_endsOf_4 rfl ?_
  refine aw_aload_n e_Ma_endsOf_5 rfl ?_
  refine aw_getE e_Ma_endsOf_6 fl_Ma_39 hC.1.2.1 ?_
  refine awN_icmp_ge e_Ma_endsOf_9 (by omega) (by omega) (fun h9 => ?_) (fun h9 => ?_)
  · refine aw_iload_n e_Ma_endsOf_41 rfl ?_
    exact aw_iret e_Ma_endsOf_42 rfl rfl (by rw [show i = nB V by omega]; exact hQ)
  · have hbd := hW.2.2.1 i h9
    refine aw_aload_n e_Ma_endsOf_12 rfl ?_
    refine aw_getR e_Ma_endsOf_13 fl_Ma_17 (hS.1 _ _ _ _ rfl) ?_
    refine aw_iload_n e_Ma_endsOf_16 rfl ?_
    refine aw_ialE e_Ma_endsOf_17 rfl (show _ < 12 by omega) (by omega) (hC.2.2.1 _ (by omega)) ?_
    refine aw_iload_n e_Ma_endsOf_18 rfl ?_
    refine awN_icmp_eq e_Ma_endsOf_19 (by omega) (by omega) (fun h19 => ?_) (fun h19 => ?_)
    · refine aw_inc2 e_Ma_endsOf_32 (inc1 _) ?_
      first | rw [← cnt_t (atB_F h19)] | rw [← cnt_t (atB_T h29)] | rw [← cnt_f (atB_N h19 h29)]
      refine aw_inc3 e_Ma_endsOf_35 (inc1 _) ?_
      refine aw_goto e_Ma_endsOf_38 ?_
      exact ih h9
    · refine aw_aload_n e_Ma_endsOf_22 rfl ?_
      refine aw_getR e_Ma_endsOf_23 fl_Ma_21 (hS.1 _ _ _ _ rfl) ?_
      refine aw_iload_n e_Ma_endsOf_26 rfl ?_
      refine aw_ialE e_Ma_endsOf_27 rfl (show _ < 12 by omega) (by omega) (hC.2.2.2.1 _ (by omega)) ?_
      refine aw_iload_n e_Ma_endsOf_28 rfl ?_
      refine awN_icmp_ne e_Ma_endsOf_29 (by omega) (by omega) (fun h29 => ?_) (fun h29 => ?_)
      · first | rw [← cnt_t (atB_F h19)] | rw [← cnt_t (atB_T h29)] | rw [← cnt_f (atB_N h19 h29)]
        refine aw_inc3 e_Ma_endsOf_35 (inc1 _) ?_
        refine aw_goto e_Ma_endsOf_38 ?_
        exact ih h9
      · refine aw_inc2 e_Ma_endsOf_32 (inc1 _) ?_
        first | rw [← cnt_t (atB_F h19)] | rw [← cnt_t (atB_T h29)] | rw [← cnt_f (atB_N h19 h29)]
        refine aw_inc3 e_Ma_endsOf_35 (inc1 _) ?_
        refine aw_goto e_Ma_endsOf_38 ?_
        exact ih h9
theorem c_Ma_nextBondOf {l : Launch} {E : En} {d : Nat} {I : It} {L : Lt} {R : Rt} {Z : Zt} {Q : Qt} {k : Nat} {V : Mc} (hS : Sta R) (hk : k < 3) (hC : CM I R Z k V) (hW : WF V) {p s : Nat} {y : Int32} (hp : p < 12) (hy : y + nI 1 = nI s) (hs : s ≤ nB V) (hQ : Q (some (vi (bnd V p s))) I L R Z) : AMet l E d M_Ma_nextBondOf [vr 2 k, vi (nI p), vi y] I L R Z Q := by
  have hnb := hW.1.2.1
  have hnp := hW.1.1
  have hnx := hW.1.2.2.1
  refine AMet.of mf_Ma_nextBondOf rfl (Nat.le_of_ble_eq_true rfl) ?_
  refine aw_iload_n e_Ma_nextBondOf_0 rfl ?_
  refine aw_iconst (v := nI 1) e_Ma_nextBondOf_1 (by decide) ?_
  refine aw_iadd e_Ma_nextBondOf_2 ?_
  rw [hy]
  refine aw_ist3 e_Ma_nextBondOf_3 ?_
  refine up_loop (P := fun i => s ≤ i → fst' (atB V p) (nB V) i = fst' (atB V p) (nB V) s → AWq l E d M_Ma_nextBondOf Z 4 [some (vr 2 k), some (vi (nI p)), some (vi y), some (vi (nI i))] [] I L R Z Q) (N := nB V) (fun i hi ih hsi hv => ?_) s hs (Nat.le_refl _) rfl
  refine aw_iload_n e_Ma_nextBondOf_4 rfl ?_
  refine aw_aload_n e_Ma_nextBondOf_5 rfl ?_
  refine aw_getE e_Ma_nextBondOf_6 fl_Ma_39 hC.1.2.1 ?_
  refine awN_icmp_ge e_Ma_nextBondOf_9 (by omega) (by omega) (fun h9 => ?_) (fun h9 => ?_)
  · refine aw_iconst (v := -1) e_Ma_nextBondOf_40 (by decide) ?_
    refine aw_iret e_Ma_nextBondOf_41 rfl rfl ?_
    have e1 : fst' (atB V p) (nB V) s = nB V := by rw [← hv]; exact fst_ge h9
    have e2 : bnd V p s = -1 := by unfold bnd; rw [e1, if_neg (by omega)]
    rw [← e2]
    exact hQ
  · have hbd := hW.2.2.1 i h9
    refine aw_aload_n e_Ma_nextBondOf_12 rfl ?_
    refine aw_getR e_Ma_nextBondOf_13 fl_Ma_17 (hS.1 _ _ _ _ rfl) ?_
    refine aw_iload_n e_Ma_nextBondOf_16 rfl ?_
    refine aw_ialE e_Ma_nextBondOf_17 rfl (show _ < 12 by omega) (by omega) (hC.2.2.1 _ (by omega)) ?_
    refine aw_iload_n e_Ma_nextBondOf_18 rfl ?_
    refine awN_icmp_eq e_Ma_nextBondOf_19 (by omega) (by omega) (fun h19 => ?_) (fun h19 => ?_)
    · refine aw_iload_n e_Ma_nextBondOf_32 rfl ?_
      refine aw_iret e_Ma_nextBondOf_33 rfl rfl ?_
      have e1 : fst' (atB V p) (nB V) s = i := by
        rw [← hv]
        first | exact fst_t h9 (atB_F h19) | exact fst_t h9 (atB_T h29)
      have e2 : bnd V p s = nI i := by unfold bnd; rw [e1, if_pos h9]
      rw [← e2]
      exact hQ
    · refine aw_aload_n e_Ma_nextBondOf_22 rfl ?_
      refine aw_getR e_Ma_nextBondOf_23 fl_Ma_21 (hS.1 _ _ _ _ rfl) ?_
      refine aw_iload_n e_Ma_nextBondOf_26 rfl ?_
      refine aw_ialE e_Ma_nextBondOf_27 rfl (show _ < 12 by omega) (by omega) (hC.2.2.2.1 _ (by omega)) ?_
      refine aw_iload_n e_Ma_nextBondOf_28 rfl ?_
      refine awN_icmp_ne e_Ma_nextBondOf_29 (by omega) (by omega) (fun h29 => ?_) (fun h29 => ?_)
      · refine aw_inc3 e_Ma_nextBondOf_34 (inc1 _) ?_
        refine aw_goto e_Ma_nextBondOf_37 ?_
        exact ih h9 (by omega) ((fst_f h9 (atB_N h19 h29)).symm.trans hv)
      · refine aw_iload_n e_Ma_nextBondOf_32 rfl ?_
        refine aw_iret e_Ma_nextBondOf_33 rfl rfl ?_
        have e1 : fst' (atB V p) (nB V) s = i := by
          rw [← hv]
          first | exact fst_t h9 (atB_F h19) | exact fst_t h9 (atB_T h29)
        have e2 : bnd V p s = nI i := by unfold bnd; rw [e1, if_pos h9]
        rw [← e2]
        exact hQ
theorem c_Ma_isWhole {l : Launch} {E : En} {d : Nat} {I : It} {L : Lt} {R : Rt} {Z : Zt} {Q : Qt} {k : Nat} {V : Mc} (hS : Sta R) (hk : k < 3) (hC : CM I R Z k V) (hW : WF V) (hQ : Q (some (vi (bI (whole V = true)))) I L R Z) : AMet l E (d + 1) M_Ma_isWhole [vr 2 k] I L R Z Q := by
  have hnb := hW.1.2.1
  have hnp := hW.1.1
  have hnx := hW.1.2.2.1
  refine AMet.of mf_Ma_isWhole rfl (Nat.le_of_ble_eq_true rfl) ?_
  refine aw_iconst (v := nI 0) e_Ma_isWhole_0 (by decide) ?_
  refine aw_ist1 e_Ma_isWhole_1 ?_
  refine up_loop (P := fun i => allB (fun p => wantB (pP V p 0) (ends V p)) i = true → AWq l E (d + 1) M_Ma_isWhole Z 2 [some (vr 2 k), some (vi (nI i))] [] I L R Z Q) (N := nP V) (fun i hi ih hv => ?_) 0 (Nat.zero_le _) rfl
  refine aw_iload_n e_Ma_isWhole_2 rfl ?_
  refine aw_aload_n e_Ma_isWhole_3 rfl ?_
  refine aw_getE e_Ma_isWhole_4 fl_Ma_31 hC.1.1 ?_
  refine awN_icmp_ge e_Ma_isWhole_7 (by omega) (by omega) (fun h7 => ?_) (fun h7 => ?_)
  · refine aw_aload_n e_Ma_isWhole_35 rfl ?_
    refine aw_getE e_Ma_isWhole_36 fl_Ma_39 hC.1.2.1 ?_
    refine awN_if_le e_Ma_isWhole_39 (by omega) (fun h39 => ?_) (fun h39 => ?_)
    · refine aw_iconst (v := nI 0) e_Ma_isWhole_46 (by decide) ?_
      have hi2 : i = nP V := by omega
      subst hi2
      first
        | exact awB_1 e_Ma_isWhole_47 (by unfold whole; rw [hv, Bool.true_and]; exact decide_eq_true (by omega)) hQ
        | exact awB_0 e_Ma_isWhole_47 (by unfold whole; rw [hv, Bool.true_and]; intro q; have := of_decide_eq_true q; omega) hQ
    · refine aw_iconst (v := nI 1) e_Ma_isWhole_42 (by decide) ?_
      refine aw_goto e_Ma_isWhole_43 ?_
      have hi2 : i = nP V := by omega
      subst hi2
      first
        | exact awB_1 e_Ma_isWhole_47 (by unfold whole; rw [hv, Bool.true_and]; exact decide_eq_true (by omega)) hQ
        | exact awB_0 e_Ma_isWhole_47 (by unfold whole; rw [hv, Bool.true_and]; intro q; have := of_decide_eq_true q; omega) hQ
  · refine aw_aload_n e_Ma_isWhole_10 rfl ?_
    refine aw_getR e_Ma_isWhole_11 fl_Ma_11 (hS.1 _ _ _ _ rfl) ?_
    refine aw_iload_n e_Ma_isWhole_14 rfl ?_
    refine aw_aald e_Ma_isWhole_15 rfl (show _ < 12 by omega) (by omega) (hS.2.1 _ _ (by omega) (by omega)) ?_
    refine aw_aload_n e_Ma_isWhole_16 rfl ?_
    refine aw_iload_n e_Ma_isWhole_17 rfl ?_
    refine aw_cV1 e_Ma_isWhole_18 ml_Ma_48 mf_Ma_endsOf mv_Ma_endsOf (c_Ma_endsOf hS hk hC hW (by omega) ?_)
    refine aw_cV1 e_Ma_isWhole_21 ml_Ma_52 mf_Pa_wants mv_Pa_wants (c_Pa_wants (hC.2.1 _ 0 h7 (by decide)) (hW.2.1 _ h7).1 (by have := ends_le (V := V) i; omega) ?_)
    refine awB_ne e_Ma_isWhole_24 (fun h24 => ?_) (fun h24 => ?_)
    · refine aw_inc1 e_Ma_isWhole_29 (inc1 _) ?_
      refine aw_goto e_Ma_isWhole_32 ?_
      exact ih h7 (by show (allB _ i && _) = true; rw [hv]; exact h24)
    · refine aw_iconst (v := nI 0) e_Ma_isWhole_27 (by decide) ?_
      refine awB_0 e_Ma_isWhole_28 (fun q => h24 ?_) hQ
      unfold whole at q
      rw [Bool.and_eq_true] at q
      exact (allB_iff _ _).mp q.1 i h7
theorem c_Ma_stores {l : Launch} {E : En} {d : Nat} {I : It} {L : Lt} {R : Rt} {Z : Zt} {Q : Qt} {k : Nat} {V : Mc} (hS : Sta R) (hk : k < 3) (hC : CM I R Z k V) (hW : WF V) (hQ : Q (some (vi (nI (cnt (fun p => pP V p 0 == 1) (nP V))))) I L R Z) : AMet l E d M_Ma_stores [vr 2 k] I L R Z Q := by
  have hnb := hW.1.2.1
  have hnp := hW.1.1
  have hnx := hW.1.2.2.1
  refine AMet.of mf_Ma_stores rfl (Nat.le_of_ble_eq_true rfl) ?_
  refine aw_iconst (v := nI 0) e_Ma_stores_0 (by decide) ?_
  refine aw_ist1 e_Ma_stores_1 ?_
  refine aw_iconst (v := nI 0) e_Ma_stores_2 (by decide) ?_
  refine aw_ist2 e_Ma_stores_3 ?_
  refine up_loop (P := fun i => AWq l E d M_Ma_stores Z 4 [some (vr 2 k), some (vi (nI (cnt (fun p => pP V p 0 == 1) i))), some (vi (nI i))] [] I L R Z Q) (N := nP V) (fun i hi ih => ?_) 0 (by omega)
  try dsimp only
  refine aw_iload_n e_Ma_stores_4 rfl ?_
  refine aw_aload_n e_Ma_stores_5 rfl ?_
  refine aw_getE e_Ma_stores_6 fl_Ma_31 hC.1.1 ?_
  refine awN_icmp_ge e_Ma_stores_9 (by omega) (by omega) (fun h9 => ?_) (fun h9 => ?_)
  · refine aw_iload_n e_Ma_stores_34 rfl ?_
    exact aw_iret e_Ma_stores_35 rfl rfl (by rw [show i = nP V by omega]; exact hQ)
  · have hpw := hW.2.1 i h9
    refine aw_aload_n e_Ma_stores_12 rfl ?_
    refine aw_getR e_Ma_stores_13 fl_Ma_11 (hS.1 _ _ _ _ rfl) ?_
    refine aw_iload_n e_Ma_stores_16 rfl ?_
    refine aw_aald e_Ma_stores_17 rfl (show _ < 12 by omega) (by omega) (hS.2.1 _ _ (by omega) (by omega)) ?_
    refine aw_getE e_Ma_stores_18 fl_Ma_56 (hC.2.1 _ _ (by omega) (by decide)) ?_
    refine aw_iconst (v := nI 1) e_Ma_stores_21 (by decide) ?_
    refine awN_icmp_ne e_Ma_stores_22 (by omega) (by omega) (fun h22 => ?_) (fun h22 => ?_)
    · first | rw [← cnt_t (P := fun p => pP V p 0 == 1) (by simp [h22])] | rw [← cnt_f (P := fun p => pP V p 0 == 1) (by simp [h22])]
      refine aw_inc2 e_Ma_stores_28 (inc1 _) ?_
      refine aw_goto e_Ma_stores_31 ?_
      exact ih h9
    · refine aw_inc1 e_Ma_stores_25 (inc1 _) ?_
      first | rw [← cnt_t (P := fun p => pP V p 0 == 1) (by simp [h22])] | rw [← cnt_f (P := fun p => pP V p 0 == 1) (by simp [h22])]
      refine aw_inc2 e_Ma_stores_28 (inc1 _) ?_
      refine aw_goto e_Ma_stores_31 ?_
      exact ih h9
theorem c_Ma_storesTogether {l : Launch} {E : En} {d : Nat} {I : It} {L : Lt} {R : Rt} {Z : Zt} {Q : Qt} {k : Nat} {V : Mc} (hS : Sta R) (hk : k < 3) (hC : CM I R Z k V) (hW : WF V) (hQ : Q (some (vi (nI (sumS V (nP V))))) I L R Z) : AMet l E (d + 2) M_Ma_storesTogether [vr 2 k] I L R Z Q := by
  have hnb := hW.1.2.1
  have hnp := hW.1.1
  have hnx := hW.1.2.2.1
  refine AMet.of mf_Ma_storesTogether rfl (Nat.le_of_ble_eq_true rfl) ?_
  refine aw_iconst (v := nI 0) e_Ma_storesTogether_0 (by decide) ?_
  refine aw_ist1 e_Ma_storesTogether_1 ?_
  refine aw_iconst (v := nI 0) e_Ma_storesTogether_2 (by decide) ?_
  refine aw_ist2 e_Ma_storesTogether_3 ?_
  refine up_loop (P := fun i => AWq l E (d + 2) M_Ma_storesTogether Z 4 [some (vr 2 k), some (vi (nI (sumS V i))), some (vi (nI i))] [] I L R Z Q) (N := nP V) (fun i hi ih => ?_) 0 (by omega)
  try dsimp only
  refine aw_iload_n e_Ma_storesTogether_4 rfl ?_
  refine aw_aload_n e_Ma_storesTogether_5 rfl ?_
  refine aw_getE e_Ma_storesTogether_6 fl_Ma_31 hC.1.1 ?_
  refine awN_icmp_ge e_Ma_storesTogether_9 (by omega) (by omega) (fun h9 => ?_) (fun h9 => ?_)
  · refine aw_iload_n e_Ma_storesTogether_46 rfl ?_
    exact aw_iret e_Ma_storesTogether_47 rfl rfl (by rw [show i = nP V by omega]; exact hQ)
  · have hpw := hW.2.1 i h9
    have hsl := sumS_lt V i
    refine aw_aload_n e_Ma_storesTogether_12 rfl ?_
    refine aw_getR e_Ma_storesTogether_13 fl_Ma_11 (hS.1 _ _ _ _ rfl) ?_
    refine aw_iload_n e_Ma_storesTogether_16 rfl ?_
    refine aw_aald e_Ma_storesTogether_17 rfl (show _ < 12 by omega) (by omega) (hS.2.1 _ _ (by omega) (by omega)) ?_
    refine aw_getE e_Ma_storesTogether_18 fl_Ma_56 (hC.2.1 _ _ (by omega) (by decide)) ?_
    refine aw_iconst (v := nI 1) e_Ma_storesTogether_21 (by decide) ?_
    refine awN_icmp_ne e_Ma_storesTogether_22 (by omega) (by omega) (fun h22 => ?_) (fun h22 => ?_)
    · refine aw_inc2 e_Ma_storesTogether_40 (inc1 _) ?_
      refine aw_goto e_Ma_storesTogether_43 ?_
      have h := ih h9
      unfold sumS at h
      first | (rw [if_pos h22] at h; exact h) | (rw [if_neg h22] at h; exact h)
    · refine aw_iload_n e_Ma_storesTogether_25 rfl ?_
      refine aw_aload_n e_Ma_storesTogether_26 rfl ?_
      refine aw_getR e_Ma_storesTogether_27 fl_Ma_11 (hS.1 _ _ _ _ rfl) ?_
      refine aw_iload_n e_Ma_storesTogether_30 rfl ?_
      refine aw_aald e_Ma_storesTogether_31 rfl (show _ < 12 by omega) (by omega) (hS.2.1 _ _ (by omega) (by omega)) ?_
      refine aw_getE e_Ma_storesTogether_32 fl_Ma_59 (hC.2.1 _ _ (by omega) (by decide)) ?_
      first | refine awN_iadd e_Ma_storesTogether_35 ?_ | refine aw_iadd e_Ma_storesTogether_35 ?_
      refine aw_cSN1 e_Ma_storesTogether_36 mn_Ma_62 mf_Pb_worthOf ms_Pb_worthOf (c_Pb_worthOf ?_)
      rw [nT (by omega), wof_nat]
      refine aw_ist1 e_Ma_storesTogether_39 ?_
      refine aw_inc2 e_Ma_storesTogether_40 (inc1 _) ?_
      refine aw_goto e_Ma_storesTogether_43 ?_
      have h := ih h9
      unfold sumS at h
      first | (rw [if_pos h22] at h; exact h) | (rw [if_neg h22] at h; exact h)
theorem c_Ma_withNeighbours {l : Launch} {E : En} {d : Nat} {I : It} {L : Lt} {R : Rt} {Z : Zt} {Q : Qt} {k : Nat} {V : Mc} (hS : Sta R) (hk : k < 3) (hC : CM I R Z k V) (hW : WF V) {m : Nat} (hm : m < 4096) (hQ : Q (some (vi (nI (nbL V m (nB V))))) I L R Z) : AMet l E d M_Ma_withNeighbours [vr 2 k, vi (nI m)] I L R Z Q := by
  have hnb := hW.1.2.1
  have hnp := hW.1.1
  have hnx := hW.1.2.2.1
  refine AMet.of mf_Ma_withNeighbours rfl (Nat.le_of_ble_eq_true rfl) ?_
  refine aw_iload_n e_Ma_withNeighbours_0 rfl ?_
  refine aw_ist2 e_Ma_withNeighbours_1 ?_
  refine aw_iconst (v := nI 0) e_Ma_withNeighbours_2 (by decide) ?_
  refine aw_ist3 e_Ma_withNeighbours_3 ?_
  refine up_loop (P := fun i => AWq l E d M_Ma_withNeighbours Z 4 [some (vr 2 k), some (vi (nI m)), some (vi (nI (nbL V m i))), some (vi (nI i))] [] I L R Z Q) (N := nB V) (fun i hi ih => ?_) 0 (by omega)
  try dsimp only
  refine aw_iload_n e_Ma_withNeighbours_4 rfl ?_
  refine aw_aload_n e_Ma_withNeighbours_5 rfl ?_
  refine aw_getE e_Ma_withNeighbours_6 fl_Ma_39 hC.1.2.1 ?_
  refine awN_icmp_ge e_Ma_withNeighbours_9 (by omega) (by omega) (fun h9 => ?_) (fun h9 => ?_)
  · refine aw_iload_n e_Ma_withNeighbours_66 rfl ?_
    exact aw_iret e_Ma_withNeighbours_67 rfl rfl (by rw [show i = nB V by omega]; exact hQ)
  · have hbd := hW.2.2.1 i h9
    have hnl := nbL_lt hW hm i (by omega)
    refine aw_iload_n e_Ma_withNeighbours_12 rfl ?_
    refine aw_aload_n e_Ma_withNeighbours_13 rfl ?_
    refine aw_getR e_Ma_withNeighbours_14 fl_Ma_17 (hS.1 _ _ _ _ rfl) ?_
    refine aw_iload_n e_Ma_withNeighbours_17 rfl ?_
    refine aw_ialE e_Ma_withNeighbours_18 rfl (show _ < 12 by omega) (by omega) (hC.2.2.1 _ (by omega)) ?_
    refine aw_ishr e_Ma_withNeighbours_19 ?_
    rw [shrS (by omega) (by omega)]
    refine aw_iconst (v := nI 1) e_Ma_withNeighbours_20 (by decide) ?_
    refine aw_iand e_Ma_withNeighbours_21 ?_
    rw [and1 _ (Nat.lt_of_le_of_lt (Nat.div_le_self _ _) (by omega))]
    refine aw_iconst (v := nI 1) e_Ma_withNeighbours_22 (by decide) ?_
    refine awN_icmp_eq e_Ma_withNeighbours_23 (by omega) (by omega) (fun h23 => ?_) (fun h23 => ?_)
    · refine aw_iload_n e_Ma_withNeighbours_40 rfl ?_
      refine aw_iconst (v := nI 1) e_Ma_withNeighbours_41 (by decide) ?_
      refine aw_aload_n e_Ma_withNeighbours_42 rfl ?_
      refine aw_getR e_Ma_withNeighbours_43 fl_Ma_17 (hS.1 _ _ _ _ rfl) ?_
      refine aw_iload_n e_Ma_withNeighbours_46 rfl ?_
      refine aw_ialE e_Ma_withNeighbours_47 rfl (show _ < 12 by omega) (by omega) (hC.2.2.1 _ (by omega)) ?_
      refine aw_ishl e_Ma_withNeighbours_48 ?_
      rw [shlS (by omega) (by have := pow12 (f := bF V i) (by omega); omega), Nat.one_mul]
      refine aw_iconst (v := nI 1) e_Ma_withNeighbours_49 (by decide) ?_
      refine aw_aload_n e_Ma_withNeighbours_50 rfl ?_
      refine aw_getR e_Ma_withNeighbours_51 fl_Ma_21 (hS.1 _ _ _ _ rfl) ?_
      refine aw_iload_n e_Ma_withNeighbours_54 rfl ?_
      refine aw_ialE e_Ma_withNeighbours_55 rfl (show _ < 12 by omega) (by omega) (hC.2.2.2.1 _ (by omega)) ?_
      refine aw_ishl e_Ma_withNeighbours_56 ?_
      rw [shlS (by omega) (by have := pow12 (f := bT V i) (by omega); omega), Nat.one_mul]
      refine aw_ior e_Ma_withNeighbours_57 ?_
      rw [fa_or]
      refine aw_ior e_Ma_withNeighbours_58 ?_
      rw [fa_or]
      refine aw_ist2 e_Ma_withNeighbours_59 ?_
      refine aw_inc3 e_Ma_withNeighbours_60 (inc1 _) ?_
      refine aw_goto e_Ma_withNeighbours_63 ?_
      have h := ih h9
      unfold nbL at h
      first
        | (rw [if_pos (by rw [(tbit _ _).mp h23]; rfl)] at h; exact h)
        | (rw [if_pos (by rw [(tbit _ _).mp h37, Bool.or_true])] at h; exact h)
        | (rw [if_neg (by rw [Bool.or_eq_true]; exact fun q => q.elim (fun q => h23 ((tbit _ _).mpr q)) (fun q => h37 ((tbit _ _).mpr q)))] at h; exact h)
    · refine aw_iload_n e_Ma_withNeighbours_26 rfl ?_
      refine aw_aload_n e_Ma_withNeighbours_27 rfl ?_
      refine aw_getR e_Ma_withNeighbours_28 fl_Ma_21 (hS.1 _ _ _ _ rfl) ?_
      refine aw_iload_n e_Ma_withNeighbours_31 rfl ?_
      refine aw_ialE e_Ma_withNeighbours_32 rfl (show _ < 12 by omega) (by omega) (hC.2.2.2.1 _ (by omega)) ?_
      refine aw_ishr e_Ma_withNeighbours_33 ?_
      rw [shrS (by omega) (by omega)]
      refine aw_iconst (v := nI 1) e_Ma_withNeighbours_34 (by decide) ?_
      refine aw_iand e_Ma_withNeighbours_35 ?_
      rw [and1 _ (Nat.lt_of_le_of_lt (Nat.div_le_self _ _) (by omega))]
      refine aw_iconst (v := nI 1) e_Ma_withNeighbours_36 (by decide) ?_
      refine awN_icmp_ne e_Ma_withNeighbours_37 (by omega) (by omega) (fun h37 => ?_) (fun h37 => ?_)
      · refine aw_inc3 e_Ma_withNeighbours_60 (inc1 _) ?_
        refine aw_goto e_Ma_withNeighbours_63 ?_
        have h := ih h9
        unfold nbL at h
        first
          | (rw [if_pos (by rw [(tbit _ _).mp h23]; rfl)] at h; exact h)
          | (rw [if_pos (by rw [(tbit _ _).mp h37, Bool.or_true])] at h; exact h)
          | (rw [if_neg (by rw [Bool.or_eq_true]; exact fun q => q.elim (fun q => h23 ((tbit _ _).mpr q)) (fun q => h37 ((tbit _ _).mpr q)))] at h; exact h)
      · refine aw_iload_n e_Ma_withNeighbours_40 rfl ?_
        refine aw_iconst (v := nI 1) e_Ma_withNeighbours_41 (by decide) ?_
        refine aw_aload_n e_Ma_withNeighbours_42 rfl ?_
        refine aw_getR e_Ma_withNeighbours_43 fl_Ma_17 (hS.1 _ _ _ _ rfl) ?_
        refine aw_iload_n e_Ma_withNeighbours_46 rfl ?_
        refine aw_ialE e_Ma_withNeighbours_47 rfl (show _ < 12 by omega) (by omega) (hC.2.2.1 _ (by omega)) ?_
        refine aw_ishl e_Ma_withNeighbours_48 ?_
        rw [shlS (by omega) (by have := pow12 (f := bF V i) (by omega); omega), Nat.one_mul]
        refine aw_iconst (v := nI 1) e_Ma_withNeighbours_49 (by decide) ?_
        refine aw_aload_n e_Ma_withNeighbours_50 rfl ?_
        refine aw_getR e_Ma_withNeighbours_51 fl_Ma_21 (hS.1 _ _ _ _ rfl) ?_
        refine aw_iload_n e_Ma_withNeighbours_54 rfl ?_
        refine aw_ialE e_Ma_withNeighbours_55 rfl (show _ < 12 by omega) (by omega) (hC.2.2.2.1 _ (by omega)) ?_
        refine aw_ishl e_Ma_withNeighbours_56 ?_
        rw [shlS (by omega) (by have := pow12 (f := bT V i) (by omega); omega), Nat.one_mul]
        refine aw_ior e_Ma_withNeighbours_57 ?_
        rw [fa_or]
        refine aw_ior e_Ma_withNeighbours_58 ?_
        rw [fa_or]
        refine aw_ist2 e_Ma_withNeighbours_59 ?_
        refine aw_inc3 e_Ma_withNeighbours_60 (inc1 _) ?_
        refine aw_goto e_Ma_withNeighbours_63 ?_
        have h := ih h9
        unfold nbL at h
        first
          | (rw [if_pos (by rw [(tbit _ _).mp h23]; rfl)] at h; exact h)
          | (rw [if_pos (by rw [(tbit _ _).mp h37, Bool.or_true])] at h; exact h)
          | (rw [if_neg (by rw [Bool.or_eq_true]; exact fun q => q.elim (fun q => h23 ((tbit _ _).mpr q)) (fun q => h37 ((tbit _ _).mpr q)))] at h; exact h)
