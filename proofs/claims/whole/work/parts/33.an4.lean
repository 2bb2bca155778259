/-! ===== Answer: elimination ===== -/
section
variable {l : Launch} {E : En} {d : Nat} {M : Mt} {Z0 : Zt} {pc pc2 tgt : Nat} {ls : List (Option AV)} {st : List AV} {I : It} {L : Lt} {R : Rt} {Z : Zt} {Q : Qt}
theorem aw_lalE {t i n : Nat} {x : Int32} {v : Int64} (hd : Dc M pc .laload 1 pc2) (hx : x = nI n) (hn : n < alen Z t i) (hb : n < 2147483648) (hv : L t i n = v) (k : AWq l E d M Z0 pc2 ls (vl v :: st) I L R Z Q) (ht : 10 ≤ t ∧ t < 50 ∧ tc t = 1 := by exact ⟨by decide, by decide, rfl⟩) : AWq l E d M Z0 pc ls (vi x :: vr t i :: st) I L R Z Q := by
  subst hv
  exact aw_lald hd hx hn hb k ht
theorem lgc0 {a b : Nat} (ha : a < 9223372036854775808) (hb : b < 9223372036854775808) : lg_cmp (lN a) (lN b) = 0 ↔ a = b := by
  rw [cmpN ha hb]
  by_cases h1 : a < b
  · rw [if_pos h1]
    exact ⟨fun h => absurd h (by decide), fun h => by omega⟩
  · rw [if_neg h1]
    by_cases h2 : a = b
    · rw [if_pos h2]
      exact ⟨fun _ => h2, fun _ => rfl⟩
    · rw [if_neg h2]
      exact ⟨fun h => absurd h (by decide), fun h => absurd h h2⟩
theorem awL_eq {a b : Nat} {off : Int} (hd : Db M pc (.ifCond .eq off) off tgt pc2) (ha : a < 9223372036854775808) (hb : b < 9223372036854775808) (kt : a = b → AWq l E d M Z0 tgt ls st I L R Z Q) (kf : ¬ a = b → AWq l E d M Z0 pc2 ls st I L R Z Q) : AWq l E d M Z0 pc ls (vi (lg_cmp (lN a) (lN b)) :: st) I L R Z Q :=
  aw_if_eq hd (fun h => kt ((lgc0 ha hb).mp h)) (fun h => kf (fun q => h ((lgc0 ha hb).mpr q)))
theorem awL_ne {a b : Nat} {off : Int} (hd : Db M pc (.ifCond .ne off) off tgt pc2) (ha : a < 9223372036854775808) (hb : b < 9223372036854775808) (kt : ¬ a = b → AWq l E d M Z0 tgt ls st I L R Z Q) (kf : a = b → AWq l E d M Z0 pc2 ls st I L R Z Q) : AWq l E d M Z0 pc ls (vi (lg_cmp (lN a) (lN b)) :: st) I L R Z Q :=
  aw_if_ne hd (fun h => kt (fun q => h ((lgc0 ha hb).mpr q))) (fun h => kf ((lgc0 ha hb).mp h))
end
theorem AM_Bd {I : It} {L : Lt} {R : Rt} {a w n : Nat} {ρ : Nat → Nat} {A : Nat → Nat → Nat} (h : AM I L R a w ρ n A) : Bd n w A := fun r c hr hc => (h.2.2 r c hr hc).2
theorem AM_cg {I : It} {L : Lt} {R : Rt} {a w n : Nat} {ρ : Nat → Nat} {A B : Nat → Nat → Nat} (h : AM I L R a w ρ n A) (he : ∀ r c, r < n → c ≤ w → A r c = B r c) : AM I L R a w ρ n B := ⟨h.1, h.2.1, fun r c hr hc => by rw [← he r c hr hc]; exact h.2.2 r c hr hc⟩
theorem c_An_rowWith {l : Launch} {E : En} {d : Nat} {I : It} {L : Lt} {R : Rt} {Z : Zt} {Q : Qt} {a w n : Nat} {ρ : Nat → Nat} {A : Nat → Nat → Nat} (hS : Sta R) (hA : AM I L R a w ρ n A) {c k : Nat} (hc : c < w) (hk : k ≤ n) (hQ1 : ∀ f, k ≤ f → f < n → A f c ≠ 0 → Q (some (vi (nI f))) I L R Z) (hQ2 : (∀ r, k ≤ r → r < n → A r c = 0) → Q (some (vi (-1))) I L R Z) : AMet l E d M_An_rowWith [vr 0 a, vi (nI c), vi (nI k)] I L R Z Q := by
  have hw := AM_lt hA
  have hBd := AM_Bd hA
  refine AMet.of mf_An_rowWith rfl (Nat.le_of_ble_eq_true rfl) ?_
  refine aw_iload_n e_An_rowWith_0 rfl ?_
  refine aw_ist3 e_An_rowWith_1 ?_
  refine up_loop (P := fun i => k ≤ i → (∀ r, k ≤ r → r < i → A r c = 0) → AWq l E d M_An_rowWith Z 2 [some (vr 0 a), some (vi (nI c)), some (vi (nI k)), some (vi (nI i))] [] I L R Z Q) (N := n) (fun i hi ih hki hz => ?_) k hk (Nat.le_refl _) (fun r h1 h2 => absurd h2 (by omega))
  refine aw_iload_n e_An_rowWith_2 rfl ?_
  refine aw_aload_n e_An_rowWith_3 rfl ?_
  refine aw_getE e_An_rowWith_4 fl_An_38 hA.2.1.1 ?_
  refine awN_icmp_ge e_An_rowWith_7 (by omega) (by omega) (fun h7 => ?_) (fun h7 => ?_)
  · refine aw_iconst (v := -1) e_An_rowWith_31 (by decide) ?_
    exact aw_iret e_An_rowWith_32 rfl rfl (hQ2 (fun r h1 h2 => hz r h1 (by omega)))
  · refine aw_aload_n e_An_rowWith_10 rfl ?_
    refine aw_getR e_An_rowWith_11 fl_An_20 (hS.1 _ _ _ _ rfl) ?_
    refine aw_iload_n e_An_rowWith_14 rfl ?_
    refine aw_aald e_An_rowWith_15 rfl (show _ < 24 by omega) (by omega) (hA.1.1 _ (by omega)) ?_
    refine aw_iload_n e_An_rowWith_16 rfl ?_
    refine aw_lalE e_An_rowWith_17 rfl (show _ < 25 by omega) (by omega) (hA.2.2 _ _ (by omega) (by omega)).1 ?_
    have hb9 := hBd i c h7 (by omega)
    refine aw_lconst (v := lN 0) e_An_rowWith_18 rfl ?_
    refine aw_lcmp e_An_rowWith_19 ?_
    refine awL_eq e_An_rowWith_20 (by omega) (by omega) (fun h20 => ?_) (fun h20 => ?_)
    · refine aw_inc3 e_An_rowWith_25 (inc1 _) ?_
      refine aw_goto e_An_rowWith_28 ?_
      refine ih h7 (by omega) (fun r h1 h2 => ?_)
      by_cases e : r = i
      · rw [e]; exact h20
      · exact hz r h1 (by omega)
    · refine aw_iload_n e_An_rowWith_23 rfl ?_
      exact aw_iret e_An_rowWith_24 rfl rfl (hQ1 i hki h7 h20)
def sclP (A : Nat → Nat → Nat) (k i u j : Nat) : Nat → Nat → Nat := fun r => if r = k then (fun c => if i ≤ c ∧ c < j then A k c * u % 1000003 else A k c) else A r
theorem sclP_k (A : Nat → Nat → Nat) (k i u j c : Nat) : sclP A k i u j k c = if i ≤ c ∧ c < j then A k c * u % 1000003 else A k c := by unfold sclP; rw [if_pos rfl]
theorem sclP_0 {A : Nat → Nat → Nat} {k i u r c : Nat} : A r c = sclP A k i u i r c := by
  unfold sclP
  by_cases e : r = k
  · rw [if_pos e]; (try dsimp only); rw [if_neg (by omega), e]
  · rw [if_neg e]
theorem sclP_s {A : Nat → Nat → Nat} {k i u j r c : Nat} (hij : i ≤ j) : setR (sclP A k i u j) k j (A k j * u % 1000003) r c = sclP A k i u (j + 1) r c := by
  unfold setR
  by_cases e : r = k
  · rw [if_pos e, e, sclP_k]
    try dsimp only
    by_cases e2 : c = j
    · rw [if_pos e2, sclP_k, if_pos (by omega), e2]
    · rw [if_neg e2, sclP_k]
      by_cases e3 : i ≤ c ∧ c < j
      · rw [if_pos e3, if_pos (by omega)]
      · rw [if_neg e3, if_neg (by omega)]
  · rw [if_neg e]
    unfold sclP
    rw [if_neg e, if_neg e]
theorem sclP_e {A : Nat → Nat → Nat} {k i u w r c : Nat} (hc : c ≤ w) : sclP A k i u (w + 1) r c = scl A k i u r c := by
  unfold sclP scl
  by_cases e : r = k
  · rw [if_pos e, if_pos e]
    try dsimp only
    by_cases e3 : i ≤ c
    · rw [if_pos e3, if_pos (by omega)]
    · rw [if_neg e3, if_neg (by omega)]
  · rw [if_neg e, if_neg e]
theorem scl_1 {A : Nat → Nat → Nat} {n w k i r c : Nat} (hB : Bd n w A) (h1 : A k i = 1) (hr : r < n) (hc : c ≤ w) : A r c = scl A k i (ivP (A k i)) r c := by
  have e : ivP 1 = 1 := by unfold ivP; rw [Nat.one_pow]
  unfold scl
  by_cases e2 : r = k
  · rw [if_pos e2, h1, e]
    try dsimp only
    split
    · rw [Nat.mul_one, e2, Nat.mod_eq_of_lt (e2 ▸ hB r c hr hc)]
    · rw [e2]
  · rw [if_neg e2]
theorem mulQ {a b : Nat} (ha : a ≤ 1000003) (hb : b ≤ 1000003) : a * b ≤ 1000006000009 := Nat.mul_le_mul ha hb
def clrP (A : Nat → Nat → Nat) (k i m : Nat) : Nat → Nat → Nat := fun r => if r < m then clr A k i r else A r
def clrQ (A : Nat → Nat → Nat) (k i m j : Nat) : Nat → Nat → Nat := fun r => if r < m then clr A k i r else if r = m then (fun c => if i ≤ c ∧ c < j then (A m c + (1000003 - A m i) * A k c) % 1000003 else A m c) else A r
theorem clr_k (A : Nat → Nat → Nat) (k i : Nat) : clr A k i k = A k := by unfold clr; rw [if_pos (Or.inl rfl)]
theorem clrP_k (A : Nat → Nat → Nat) (k i m : Nat) : clrP A k i m k = A k := by unfold clrP; split; exact clr_k A k i; rfl
theorem clrP_m (A : Nat → Nat → Nat) (k i m : Nat) : clrP A k i m m = A m := by unfold clrP; rw [if_neg (Nat.lt_irrefl _)]
theorem clrQ_k {A : Nat → Nat → Nat} {k i m j : Nat} (h : ¬ m = k) : clrQ A k i m j k = A k := by
  unfold clrQ
  split
  · exact clr_k A k i
  · rw [if_neg (fun z => h z.symm)]
theorem clrQ_m (A : Nat → Nat → Nat) (k i m j c : Nat) : clrQ A k i m j m c = if i ≤ c ∧ c < j then (A m c + (1000003 - A m i) * A k c) % 1000003 else A m c := by unfold clrQ; rw [if_neg (Nat.lt_irrefl _), if_pos rfl]
theorem clrP_skip {A : Nat → Nat → Nat} {k i m : Nat} (h : m = k ∨ A m i = 0) : clrP A k i m = clrP A k i (m + 1) := by
  funext r
  unfold clrP
  by_cases e : r = m
  · rw [if_neg (by omega), if_pos (by omega), e]
    unfold clr
    rw [if_pos h]
  · by_cases e2 : r < m
    · rw [if_pos e2, if_pos (by omega)]
    · rw [if_neg e2, if_neg (by omega)]
theorem clrQ_0 {A : Nat → Nat → Nat} {k i m : Nat} : clrP A k i m = clrQ A k i m i := by
  funext r c
  unfold clrP clrQ
  by_cases e2 : r < m
  · rw [if_pos e2, if_pos e2]
  · rw [if_neg e2, if_neg e2]
    by_cases e : r = m
    · rw [if_pos e]; (try dsimp only); rw [if_neg (by omega), e]
    · rw [if_neg e]
theorem clrQ_s {A : Nat → Nat → Nat} {k i m j r c : Nat} (hij : i ≤ j) : setR (clrQ A k i m j) m j ((A m j + (1000003 - A m i) * A k j) % 1000003) r c = clrQ A k i m (j + 1) r c := by
  unfold setR
  by_cases e : r = m
  · rw [if_pos e, e, clrQ_m]
    try dsimp only
    by_cases e2 : c = j
    · rw [if_pos e2, clrQ_m, if_pos (by omega), e2]
    · rw [if_neg e2, clrQ_m]
      by_cases e3 : i ≤ c ∧ c < j
      · rw [if_pos e3, if_pos (by omega)]
      · rw [if_neg e3, if_neg (by omega)]
  · rw [if_neg e]
    unfold clrQ
    rw [if_neg e, if_neg e]
theorem clrQ_e {A : Nat → Nat → Nat} {k i m w r c : Nat} (h : ¬ (m = k ∨ A m i = 0)) (hc : c ≤ w) : clrQ A k i m (w + 1) r c = clrP A k i (m + 1) r c := by
  unfold clrQ clrP
  by_cases e2 : r < m
  · rw [if_pos e2, if_pos (by omega)]
  · rw [if_neg e2]
    by_cases e : r = m
    · rw [if_pos e, if_pos (show r < m + 1 by omega), e]
      unfold clr
      rw [if_neg h]
      try dsimp only
      by_cases e3 : i ≤ c
      · rw [if_pos e3, if_pos (by omega)]
      · rw [if_neg e3, if_neg (by omega)]
    · rw [if_neg e, if_neg (show ¬ r < m + 1 by omega)]
theorem c_An_scale {l : Launch} {E : En} {d : Nat} {I : It} {L : Lt} {R : Rt} {Z : Zt} {Q : Qt} {a w n : Nat} {ρ : Nat → Nat} {A : Nat → Nat → Nat} (hS : Sta R) (hA : AM I L R a w ρ n A) {r i : Nat} (hr : r < n) (hi : i < w) (hQ : ∀ L2, AM I L2 R a w ρ n (scl A r i (ivP (A r i))) → frL a L L2 → Q none I L2 R Z) : AMet l E (d + 1) M_An_scale [vr 0 a, vr 17 (ρ r), vi (nI i)] I L R Z Q := by
  have hw := AM_lt hA
  have hBd := AM_Bd hA
  have hb0 := hBd r i hr (by omega)
  have hu := ivP_lt (A r i)
  refine AMet.of mf_An_scale rfl (Nat.le_of_ble_eq_true rfl) ?_
  refine aw_aload_n e_An_scale_0 rfl ?_
  refine aw_iload_n e_An_scale_1 rfl ?_
  refine aw_lalE e_An_scale_2 rfl (show _ < 25 by omega) (by omega) (hA.2.2 r i hr (by omega)).1 ?_
  refine aw_lconst (v := lN 1) e_An_scale_3 rfl ?_
  refine aw_lcmp e_An_scale_4 ?_
  refine awL_ne e_An_scale_5 (by omega) (by omega) (fun h5 => ?_) (fun h5 => ?_)
  · refine aw_aload_n e_An_scale_9 rfl ?_
    refine aw_iload_n e_An_scale_10 rfl ?_
    refine aw_lalE e_An_scale_11 rfl (show _ < 25 by omega) (by omega) (hA.2.2 r i hr (by omega)).1 ?_
    refine aw_cSN1 e_An_scale_12 mn_An_127 mf_Pb_inverse ms_Pb_inverse (c_Pb_inverse hb0 ?_)
    refine aw_lst3 e_An_scale_15 ?_
    refine aw_iload_n e_An_scale_16 rfl ?_
    refine aw_ist5 e_An_scale_17 ?_
    refine up_loop (P := fun j => i ≤ j → ∀ L1, AM I L1 R a w ρ n (sclP A r i (ivP (A r i)) j) → frL a L L1 → AWq l E (d + 1) M_An_scale Z 19 [some (vr 0 a), some (vr 17 (ρ r)), some (vi (nI i)), some (vl (lN (ivP (A r i)))), none, some (vi (nI j))] [] I L1 R Z Q) (N := w + 1) (fun j hj ih hij L1 hA1 hg1 => ?_) i (by omega) (Nat.le_refl _) L (AM_cg hA (fun q c _ _ => sclP_0)) (fun _ _ _ => rfl)
    refine aw_iload e_An_scale_19 rfl ?_
    refine aw_aload_n e_An_scale_21 rfl ?_
    refine aw_getE e_An_scale_22 fl_An_42 hA.2.1.2.1 ?_
    refine awN_icmp_gt e_An_scale_25 (by omega) (by omega) (fun h25 => ?_) (fun h25 => ?_)
    · have hjN : j = w + 1 := by omega
      subst hjN
      exact aw_vret e_An_scale_48 rfl (hQ _ (AM_cg hA1 (fun q c _ hc => sclP_e hc)) hg1)
    · have hbj := hBd r j hr (by omega)
      have hmm := mulQ (Nat.le_of_lt hbj) (Nat.le_of_lt hu)
      have rd : L1 17 (ρ r) j = lN (A r j) := by
        have := (hA1.2.2 r j hr (by omega)).1
        rw [sclP_k, if_neg (by omega)] at this
        exact this
      refine aw_aload_n e_An_scale_28 rfl ?_
      refine aw_iload e_An_scale_29 rfl ?_
      refine aw_aload_n e_An_scale_31 rfl ?_
      refine aw_iload e_An_scale_32 rfl ?_
      refine aw_lalE e_An_scale_34 rfl (show _ < 25 by omega) (by omega) rd ?_
      refine aw_lload_n e_An_scale_35 rfl ?_
      refine awN_lmul e_An_scale_36 ?_
      refine aw_ldc2 (v := lN 1000003) e_An_scale_37 kl_An_131 ?_
      refine awN_lrem e_An_scale_40 (by omega) (by omega) (by omega) ?_
      refine aw_last e_An_scale_41 rfl (show _ < 25 by omega) (by omega) ?_
      have hA2 := AM_cg (AM_set (c := j) (v := A r j * ivP (A r i) % 1000003) hA1 hr (Nat.mod_lt _ (by decide))) (fun q c _ _ => sclP_s hij)
      refine aw_inc5 e_An_scale_42 (inc1 _) ?_
      refine aw_goto e_An_scale_45 ?_
      exact ih (by omega) (by omega) _ hA2 (frL_t hg1 (frL_s hA.1 (by omega)))
  · exact aw_vret e_An_scale_8 rfl (hQ _ (AM_cg hA (fun q c hq hc => scl_1 hBd h5 hq hc)) (fun _ _ _ => rfl))
theorem c_An_clearOthers {l : Launch} {E : En} {d : Nat} {I : It} {L : Lt} {R : Rt} {Z : Zt} {Q : Qt} {a w n : Nat} {ρ : Nat → Nat} {A : Nat → Nat → Nat} (hS : Sta R) (hA : AM I L R a w ρ n A) {k i : Nat} (hk : k < n) (hi : i < w) (hQ : ∀ L2, AM I L2 R a w ρ n (clr A k i) → frL a L L2 → Q none I L2 R Z) : AMet l E d M_An_clearOthers [vr 0 a, vi (nI k), vi (nI i)] I L R Z Q := by
  have hw := AM_lt hA
  have hBd := AM_Bd hA
  refine AMet.of mf_An_clearOthers rfl (Nat.le_of_ble_eq_true rfl) ?_
  refine aw_iconst (v := nI 0) e_An_clearOthers_0 (by decide) ?_
  refine aw_ist3 e_An_clearOthers_1 ?_
  refine up_loop (P := fun m => ∀ L1, AM I L1 R a w ρ n (clrP A k i m) → frL a L L1 → AWq l E d M_An_clearOthers Z 2 [some (vr 0 a), some (vi (nI k)), some (vi (nI i)), some (vi (nI m)), none, none, none] [] I L1 R Z Q) (N := n) (fun m hm ih L1 hA1 hg1 => ?_) 0 (Nat.zero_le _) L (AM_cg hA (fun q c _ _ => by unfold clrP; rw [if_neg (Nat.not_lt_zero q)])) (fun _ _ _ => rfl)
  refine aw_iload_n e_An_clearOthers_2 rfl ?_
  refine aw_aload_n e_An_clearOthers_3 rfl ?_
  refine aw_getE e_An_clearOthers_4 fl_An_38 hA.2.1.1 ?_
  refine awN_icmp_ge e_An_clearOthers_7 (by omega) (by omega) (fun h7 => ?_) (fun h7 => ?_)
  · have hmN : m = n := by omega
    subst hmN
    exact aw_vret e_An_clearOthers_97 rfl (hQ _ (AM_cg hA1 (fun q c hq _ => by unfold clrP; rw [if_pos hq])) hg1)
  · have hbm := hBd m i h7 (by omega)
    have rd : L1 17 (ρ m) i = lN (A m i) := by
      have := (hA1.2.2 m i h7 (by omega)).1
      rw [clrP_m] at this
      exact this
    refine aw_ldc2 (v := lN 1000003) e_An_clearOthers_10 kl_An_131 ?_
    refine aw_aload_n e_An_clearOthers_13 rfl ?_
    refine aw_getR e_An_clearOthers_14 fl_An_20 (hS.1 _ _ _ _ rfl) ?_
    refine aw_iload_n e_An_clearOthers_17 rfl ?_
    refine aw_aald e_An_clearOthers_18 rfl (show _ < 24 by omega) (by omega) (hA.1.1 _ (by omega)) ?_
    refine aw_iload_n e_An_clearOthers_19 rfl ?_
    refine aw_lalE e_An_clearOthers_20 rfl (show _ < 25 by omega) (by omega) rd ?_
    refine awN_lsub e_An_clearOthers_21 (by omega) ?_
    refine aw_lst4 e_An_clearOthers_22 ?_
    refine aw_iload_n e_An_clearOthers_24 rfl ?_
    refine aw_iload_n e_An_clearOthers_25 rfl ?_
    refine awN_icmp_eq e_An_clearOthers_26 (by omega) (by omega) (fun h26 => ?_) (fun h26 => ?_)
    · refine aw_inc3 e_An_clearOthers_91 (inc1 _) ?_
      refine aw_goto e_An_clearOthers_94 ?_
      refine aw_drop 4 ?_
      refine aw_drop 5 ?_
      refine aw_drop 6 ?_
      first
        | exact ih h7 _ (AM_cg (show AM I L2 R a w ρ n (clrQ A k i m (w + 1)) from (show j = w + 1 by omega) ▸ hA2) (fun q c _ hc => clrQ_e (fun z => z.elim h26 (by omega)) hc)) hg2
        | exact ih h7 _ (clrP_skip (A := A) (k := k) (i := i) (m := m) (Or.inl h26) ▸ hA1) hg1
        | exact ih h7 _ (clrP_skip (A := A) (k := k) (i := i) (m := m) (Or.inr (by omega)) ▸ hA1) hg1
    · refine aw_lload e_An_clearOthers_29 rfl ?_
      refine aw_ldc2 (v := lN 1000003) e_An_clearOthers_31 kl_An_131 ?_
      refine aw_lcmp e_An_clearOthers_34 ?_
      refine awL_eq e_An_clearOthers_35 (by omega) (by omega) (fun h35 => ?_) (fun h35 => ?_)
      · refine aw_inc3 e_An_clearOthers_91 (inc1 _) ?_
        refine aw_goto e_An_clearOthers_94 ?_
        refine aw_drop 4 ?_
        refine aw_drop 5 ?_
        refine aw_drop 6 ?_
        first
          | exact ih h7 _ (AM_cg (show AM I L2 R a w ρ n (clrQ A k i m (w + 1)) from (show j = w + 1 by omega) ▸ hA2) (fun q c _ hc => clrQ_e (fun z => z.elim h26 (by omega)) hc)) hg2
          | exact ih h7 _ (clrP_skip (A := A) (k := k) (i := i) (m := m) (Or.inl h26) ▸ hA1) hg1
          | exact ih h7 _ (clrP_skip (A := A) (k := k) (i := i) (m := m) (Or.inr (by omega)) ▸ hA1) hg1
      · refine aw_iload_n e_An_clearOthers_38 rfl ?_
        refine aw_ist6 e_An_clearOthers_39 ?_
        refine up_loop (P := fun j => i ≤ j → ∀ L2, AM I L2 R a w ρ n (clrQ A k i m j) → frL a L L2 → AWq l E d M_An_clearOthers Z 41 [some (vr 0 a), some (vi (nI k)), some (vi (nI i)), some (vi (nI m)), some (vl (lN (1000003 - A m i))), none, some (vi (nI j))] [] I L2 R Z Q) (N := w + 1) (fun j hj ih2 hij L2 hA2 hg2 => ?_) i (by omega) (Nat.le_refl _) L1 (clrQ_0 ▸ hA1) hg1
        refine aw_iload e_An_clearOthers_41 rfl ?_
        refine aw_aload_n e_An_clearOthers_43 rfl ?_
        refine aw_getE e_An_clearOthers_44 fl_An_42 hA.2.1.2.1 ?_
        refine awN_icmp_gt e_An_clearOthers_47 (by omega) (by omega) (fun h47 => ?_) (fun h47 => ?_)
        · refine aw_inc3 e_An_clearOthers_91 (inc1 _) ?_
          refine aw_goto e_An_clearOthers_94 ?_
          refine aw_drop 4 ?_
          refine aw_drop 5 ?_
          refine aw_drop 6 ?_
          first
            | exact ih h7 _ (AM_cg (show AM I L2 R a w ρ n (clrQ A k i m (w + 1)) from (show j = w + 1 by omega) ▸ hA2) (fun q c _ hc => clrQ_e (fun z => z.elim h26 (by omega)) hc)) hg2
            | exact ih h7 _ (clrP_skip (A := A) (k := k) (i := i) (m := m) (Or.inl h26) ▸ hA1) hg1
            | exact ih h7 _ (clrP_skip (A := A) (k := k) (i := i) (m := m) (Or.inr (by omega)) ▸ hA1) hg1
        · have hbj := hBd m j h7 (by omega)
          have hbk := hBd k j hk (by omega)
          have hmm := mulQ (a := 1000003 - A m i) (b := A k j) (by omega) (by omega)
          have rdm : L2 17 (ρ m) j = lN (A m j) := by
            have := (hA2.2.2 m j h7 (by omega)).1
            rw [clrQ_m, if_neg (by omega)] at this
            exact this
          have rdk : L2 17 (ρ k) j = lN (A k j) := by
            have := (hA2.2.2 k j hk (by omega)).1
            rw [clrQ_k h26] at this
            exact this
          refine aw_aload_n e_An_clearOthers_50 rfl ?_
          refine aw_getR e_An_clearOthers_51 fl_An_20 (hS.1 _ _ _ _ rfl) ?_
          refine aw_iload_n e_An_clearOthers_54 rfl ?_
          refine aw_aald e_An_clearOthers_55 rfl (show _ < 24 by omega) (by omega) (hA.1.1 _ (by omega)) ?_
          refine aw_iload e_An_clearOthers_56 rfl ?_
          refine aw_aload_n e_An_clearOthers_58 rfl ?_
          refine aw_getR e_An_clearOthers_59 fl_An_20 (hS.1 _ _ _ _ rfl) ?_
          refine aw_iload_n e_An_clearOthers_62 rfl ?_
          refine aw_aald e_An_clearOthers_63 rfl (show _ < 24 by omega) (by omega) (hA.1.1 _ (by omega)) ?_
          refine aw_iload e_An_clearOthers_64 rfl ?_
          refine aw_lalE e_An_clearOthers_66 rfl (show _ < 25 by omega) (by omega) rdm ?_
          refine aw_lload e_An_clearOthers_67 rfl ?_
          refine aw_aload_n e_An_clearOthers_69 rfl ?_
          refine aw_getR e_An_clearOthers_70 fl_An_20 (hS.1 _ _ _ _ rfl) ?_
          refine aw_iload_n e_An_clearOthers_73 rfl ?_
          refine aw_aald e_An_clearOthers_74 rfl (show _ < 24 by omega) (by omega) (hA.1.1 _ (by omega)) ?_
          refine aw_iload e_An_clearOthers_75 rfl ?_
          refine aw_lalE e_An_clearOthers_77 rfl (show _ < 25 by omega) (by omega) rdk ?_
          refine awN_lmul e_An_clearOthers_78 ?_
          refine awN_ladd e_An_clearOthers_79 ?_
          refine aw_ldc2 (v := lN 1000003) e_An_clearOthers_80 kl_An_131 ?_
          refine awN_lrem e_An_clearOthers_83 (by omega) (by omega) (by omega) ?_
          refine aw_last e_An_clearOthers_84 rfl (show _ < 25 by omega) (by omega) ?_
          have hA3 := AM_cg (AM_set (c := j) (v := (A m j + (1000003 - A m i) * A k j) % 1000003) hA2 h7 (Nat.mod_lt _ (by decide))) (fun q c _ _ => clrQ_s hij)
          refine aw_inc6 e_An_clearOthers_85 (inc1 _) ?_
          refine aw_goto e_An_clearOthers_88 ?_
          exact ih2 (by omega) (by omega) _ hA3 (frL_t hg2 (frL_s hA.1 (by omega)))
