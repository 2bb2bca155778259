/-! ===== the model's tape: pieces and levels ===== -/
def MCD (I : It) (la : Nat) (c : List (Nat × Nat)) (k : Nat) : Prop := I 9 0 24 = nI c.length ∧ (∀ j q, c[j]? = some q → I 28 0 (la + 2 * j) = nI q.1 ∧ I 28 0 (la + 2 * j + 1) = nI q.2) ∧ I 9 0 26 = nI k
def MTS (I : It) (t : TB) (la o i : Nat) (x : Xs) : Prop := MTP I t ∧ MW I t x.1 ∧ (I 9 0 25 = nI la ∧ la ≤ 2910) ∧ MCD I la x.2.1 x.2.2 ∧ I 9 0 22 = nI o ∧ I 9 0 23 = nI i
def fP (la : Nat) (I I2 : It) : Prop := (∀ t i, ¬ (t = 9 ∧ i = 0) → ¬ (t = 28 ∧ i = 0) → I2 t i = I t i) ∧ (∀ f, ¬ (17 ≤ f ∧ f ≤ 26) → I2 9 0 f = I 9 0 f) ∧ ∀ n, n < la → I2 28 0 n = I 28 0 n
theorem fP_0 {la : Nat} {I : It} : fP la I I := ⟨fun _ _ _ _ => rfl, fun _ _ => rfl, fun _ _ => rfl⟩
theorem fP_t {la : Nat} {I I2 I3 : It} (h : fP la I I2) (h2 : fP la I2 I3) : fP la I I3 := ⟨fun t i a b => (h2.1 t i a b).trans (h.1 t i a b), fun f a => (h2.2.1 f a).trans (h.2.1 f a), fun n hn => (h2.2.2 n hn).trans (h.2.2 n hn)⟩
theorem fP_s {la : Nat} {I I1 : It} {f : Nat} {x : Int32} (h : fP la I I1) (hf : 17 ≤ f ∧ f ≤ 26) : fP la I (sI I1 9 0 f x) := ⟨fun t i a b => (sI_n a).trans (h.1 t i a b), fun g hg => (sI_ne (by omega)).trans (h.2.1 g hg), fun n hn => by rw [sI_n (by decide)]; exact h.2.2 n hn⟩
theorem fP_r {la : Nat} {I I1 : It} {n : Nat} {x : Int32} (h : fP la I I1) (hn : la ≤ n) : fP la I (sI I1 28 0 n x) := ⟨fun t i a b => (sI_n b).trans (h.1 t i a b), fun g hg => by rw [sI_n (by decide)]; exact h.2.1 g hg, fun k hk => (sI_ne (by omega)).trans (h.2.2 k hk)⟩
theorem f9.P {la : Nat} {I I2 : It} (h : f9 I I2) : fP la I I2 := ⟨fun t i a _ => h.1 t i a, fun f a => h.2 f (by omega), fun n _ => by rw [h.1 28 0 (by decide)]⟩
def MRS (t : TB) (la o i : Nat) (I I2 : It) (r : Bool × Xs) : Prop := fP la I I2 ∧ (r.1 = true → MTS I2 t la o i r.2) ∧ (¬ r.1 = true → I2 9 0 17 = nI r.2.1.1)
theorem MTS.nx {I I2 : It} {t : TB} {la o i : Nat} {x : Xs} (h : MTS I t la o i x) (hl : MW I2 t (nxW t x.1)) (hf : f9 I I2) : MTS I2 t la o i (nxX t x) := by
  obtain ⟨h1, h2, h3, h4, h5, h6⟩ := h
  exact ⟨h1.f9 hf, hl, ⟨(hf.2 25 (by decide)).trans h3.1, h3.2⟩, ⟨(hf.2 24 (by decide)).trans h4.1, fun j q hq => by rw [hf.1 28 0 (by decide)]; exact h4.2.1 j q hq, (hf.2 26 (by decide)).trans h4.2.2⟩, (hf.2 22 (by decide)).trans h5, (hf.2 23 (by decide)).trans h6⟩
theorem MW.s {I : It} {t : TB} {x : Wd} {f : Nat} {v : Int32} (h : MW I t x) (hf : 22 ≤ f) : MW (sI I 9 0 f v) t x := by
  unfold MW
  rw [sI_ne (by omega), sI_ne (by omega), sI_ne (by omega), sI_ne (by omega), sI_ne (by omega)]
  exact h
theorem MW.r {I : It} {t : TB} {x : Wd} {n : Nat} {v : Int32} (h : MW I t x) : MW (sI I 28 0 n v) t x := by
  unfold MW
  rw [sI_n2 (by decide), sI_n2 (by decide), sI_n2 (by decide), sI_n2 (by decide), sI_n2 (by decide)]
  exact h
theorem MTP.s {I : It} {t : TB} {f : Nat} {v : Int32} (h : MTP I t) (hf : f ≠ 16) : MTP (sI I 9 0 f v) t := ⟨(sI_ne (Ne.symm hf)).trans h.1, h.2.1, fun j hj => by rw [sI_n (by decide)]; exact h.2.2 j hj⟩
theorem MTP.r {I : It} {t : TB} {n : Nat} {v : Int32} (h : MTP I t) : MTP (sI I 28 0 n v) t := ⟨(sI_n2 (by decide)).trans h.1, h.2.1, fun j hj => by rw [sI_n (by decide)]; exact h.2.2 j hj⟩
theorem MTS.put {I : It} {t : TB} {la o i : Nat} {x : Xs} {q : Nat × Nat} (h : MTS I t la o i x) : MTS (sI (sI (sI I 28 0 (la + 2 * x.2.1.length) (nI q.1)) 28 0 (la + 2 * x.2.1.length + 1) (nI q.2)) 9 0 24 (nI (x.2.1.length + 1))) t la o i (ptX x q) := by
  obtain ⟨h1, h2, h3, h4, h5, h6⟩ := h
  refine ⟨(h1.r.r).s (by decide), (h2.r.r).s (by decide), ⟨by rw [sI_ne (by decide), sI_n2 (by decide), sI_n2 (by decide)]; exact h3.1, h3.2⟩, ⟨?_, fun j r hr => ?_, by rw [sI_ne (by decide), sI_n2 (by decide), sI_n2 (by decide)]; exact h4.2.2⟩, by rw [sI_ne (by decide), sI_n2 (by decide), sI_n2 (by decide)]; exact h5, by rw [sI_ne (by decide), sI_n2 (by decide), sI_n2 (by decide)]; exact h6⟩
  · rw [sI_eq]
    show _ = nI (x.2.1 ++ [q]).length
    rw [List.length_append]; rfl
  · have hr2 : (x.2.1 ++ [q])[j]? = some r := hr
    rw [sI_n (show ¬ (28 = 9 ∧ 0 = 0) by decide)]
    by_cases e : j = x.2.1.length
    · rw [e, List.getElem?_append_right (Nat.le_refl _), Nat.sub_self] at hr2
      cases hr2
      rw [e]
      exact ⟨(sI_ne (by omega)).trans (sI_eq _ _ _ _ _), sI_eq _ _ _ _ _⟩
    · have hj : j < (x.2.1 ++ [q]).length := (List.getElem?_eq_some_iff.mp hr2).1
      rw [List.length_append] at hj
      have hj2 : j < x.2.1.length + 1 := hj
      rw [List.getElem?_append_left (by omega)] at hr2
      have hh := h4.2.1 j r hr2
      exact ⟨(sI_ne (by omega)).trans ((sI_ne (by omega)).trans hh.1), (sI_ne (by omega)).trans ((sI_ne (by omega)).trans hh.2)⟩
theorem MTS.op {I : It} {t : TB} {la o i : Nat} {x : Xs} {q : Nat × Nat} (h : MTS I t la o i (ptX x q)) : MTS (sI I 9 0 26 (nI (x.2.2 + 1))) t la o i (opX x q) := by
  obtain ⟨h1, h2, h3, h4, h5, h6⟩ := h
  exact ⟨h1.s (by decide), h2.s (by decide), ⟨(sI_ne (by decide)).trans h3.1, h3.2⟩, ⟨(sI_ne (by decide)).trans h4.1, fun j q hq => by rw [sI_n2 (by decide), sI_n2 (by decide)]; exact h4.2.1 j q hq, sI_eq _ _ _ _ _⟩, (sI_ne (by decide)).trans h5, (sI_ne (by decide)).trans h6⟩
theorem MTS.dp {I : It} {t : TB} {la o o2 i : Nat} {x : Xs} (h : MTS I t la o i x) : MTS (sI I 9 0 22 (nI o2)) t la o2 i x := by
  obtain ⟨h1, h2, h3, h4, h5, h6⟩ := h
  exact ⟨h1.s (by decide), h2.s (by decide), ⟨(sI_ne (by decide)).trans h3.1, h3.2⟩, ⟨(sI_ne (by decide)).trans h4.1, fun j q hq => by rw [sI_n2 (by decide), sI_n2 (by decide)]; exact h4.2.1 j q hq, (sI_ne (by decide)).trans h4.2.2⟩, sI_eq _ _ _ _ _, (sI_ne (by decide)).trans h6⟩
theorem MTS.tn {I : It} {t : TB} {la o i i2 : Nat} {x : Xs} (h : MTS I t la o i x) : MTS (sI I 9 0 23 (nI i2)) t la o i2 x := by
  obtain ⟨h1, h2, h3, h4, h5, h6⟩ := h
  exact ⟨h1.s (by decide), h2.s (by decide), ⟨(sI_ne (by decide)).trans h3.1, h3.2⟩, ⟨(sI_ne (by decide)).trans h4.1, fun j q hq => by rw [sI_n2 (by decide), sI_n2 (by decide)]; exact h4.2.1 j q hq, (sI_ne (by decide)).trans h4.2.2⟩, (sI_ne (by decide)).trans h5, sI_eq _ _ _ _ _⟩
theorem gl_ok {t : TB} {x : Wd} (hO : WdO t x) (h : x.2.2 = 2 → x.2.1 - x.1 ≤ 4) : (0 < x.2.1 ∧ (tok x = 1 ∨ tok x = 2)) ↔ (x.2.2 = 1 ∨ x.2.2 = 2) := by
  have h4 := hO.2.2.2.1
  unfold tok
  constructor
  · intro z
    split at z <;> omega
  · intro z
    have := h4 (by omega)
    rw [if_neg (fun q => by have := h q.1; omega)]
    exact ⟨by omega, z⟩
theorem gl_3 {t : TB} {x : Wd} (hO : WdO t x) (h : x.2.2 = 3) : (0 < x.2.1 ∧ (tok x = 1 ∨ tok x = 2)) ↔ (x.2.2 = 1 ∨ x.2.2 = 2) := gl_ok hO (fun z => by omega)
theorem MW.sg {I : It} {t : TB} {x : Wd} (hT : MTP I t) (hW : MW I t x) (hO : WdO t x) (h3 : x.2.2 = 3) (hb : lttr t x < 128) (hl : t.2 x.1 = nI (lttr t x)) : I 9 0 21 = nI (lttr t x) := by
  rw [hW.2.2.2.2.1 h3, (byt_c hT (by have := hO.2.2.2.1 (by omega); have := hO.2.1; omega) hb).2 hl]
theorem sg_l {t : TB} {x : Wd} {c : Nat} (hc : c < 128) (h : sgn t x c = true) : lttr t x = c := by
  unfold lttr; rw [(sgn_iff.1 h).2, nT (by omega)]; rfl
theorem c_Mo_isSign {l : Launch} {E : En} {d : Nat} {I : It} {L : Lt} {R : Rt} {Z : Zt} {Q : Qt} {t : TB} {x : Wd} (hS : Sta R) (hT : MTP I t) (hL : MW I t x) (hO : WdO t x) {c : Nat} (hc : c < 128) (hQ : Q (some (vi (bI (sgn t x c = true)))) I L R Z) : AMet l E d M_Mo_isSign [vr 9 0, vi (nI c)] I L R Z Q := by
  have htl := tok_le hO.2.2.1
  refine AMet.of mf_Mo_isSign rfl (Nat.le_of_ble_eq_true rfl) ?_
  refine aw_aload_n e_Mo_isSign_0 rfl ?_
  refine aw_getE e_Mo_isSign_1 fl_Mo_243 hL.2.2.1 ?_
  refine aw_iconst (v := nI 3) e_Mo_isSign_4 (by decide) ?_
  refine awN_icmp_ne e_Mo_isSign_5 (by omega) (by omega) (fun h5 => ?_) (fun h5 => ?_)
  · refine aw_iconst (v := nI 0) e_Mo_isSign_20 (by decide) ?_
    first
      | exact awB_1 e_Mo_isSign_21 (sgn_iff.2 ⟨hs3, (byt_c hT hlt hc).1 h13⟩) hQ
      | exact awB_0 e_Mo_isSign_21 (fun z => h13 ((byt_c hT hlt hc).2 (sgn_iff.1 z).2)) hQ
      | exact awB_0 e_Mo_isSign_21 (fun z => h5 ((tok_n (by decide) (by decide)).2 (sgn_iff.1 z).1)) hQ
  · have hs3 := (tok_n (x := x) (c := 3) (by decide) (by decide)).1 h5
    have hlt : x.1 < t.1 := by have := hO.2.2.2.1 (by omega); have := hO.2.1; omega
    have hbb := (hT.b hlt).2.1
    refine aw_aload_n e_Mo_isSign_8 rfl ?_
    refine aw_getE e_Mo_isSign_9 fl_Mo_252 (hL.2.2.2.2.1 hs3) ?_
    refine aw_iload_n e_Mo_isSign_12 rfl ?_
    refine awN_icmp_ne e_Mo_isSign_13 (by omega) (by omega) (fun h13 => ?_) (fun h13 => ?_)
    · refine aw_iconst (v := nI 0) e_Mo_isSign_20 (by decide) ?_
      first
        | exact awB_1 e_Mo_isSign_21 (sgn_iff.2 ⟨hs3, (byt_c hT hlt hc).1 h13⟩) hQ
        | exact awB_0 e_Mo_isSign_21 (fun z => h13 ((byt_c hT hlt hc).2 (sgn_iff.1 z).2)) hQ
        | exact awB_0 e_Mo_isSign_21 (fun z => h5 ((tok_n (by decide) (by decide)).2 (sgn_iff.1 z).1)) hQ
    · refine aw_iconst (v := nI 1) e_Mo_isSign_16 (by decide) ?_
      refine aw_goto e_Mo_isSign_17 ?_
      first
        | exact awB_1 e_Mo_isSign_21 (sgn_iff.2 ⟨hs3, (byt_c hT hlt hc).1 h13⟩) hQ
        | exact awB_0 e_Mo_isSign_21 (fun z => h13 ((byt_c hT hlt hc).2 (sgn_iff.1 z).2)) hQ
        | exact awB_0 e_Mo_isSign_21 (fun z => h5 ((tok_n (by decide) (by decide)).2 (sgn_iff.1 z).1)) hQ
theorem c_Mo_step {l : Launch} {E : En} {d : Nat} {I : It} {L : Lt} {R : Rt} {Z : Zt} {Q : Qt} {a b : Int32} {k la : Nat} (hS : Sta R) (hk : I 9 0 24 = nI k) (hla : I 9 0 25 = nI la) (hb : la + 2 * k + 1 < 3110) (hQ : Q none (sI (sI (sI I 28 0 (la + 2 * k) a) 28 0 (la + 2 * k + 1) b) 9 0 24 (nI (k + 1))) L R Z) : AMet l E d M_Mo_step [vr 9 0, vi a, vi b] I L R Z Q := by
  refine AMet.of mf_Mo_step rfl (Nat.le_of_ble_eq_true rfl) ?_
  refine aw_aload_n e_Mo_step_0 rfl ?_
  refine aw_getR e_Mo_step_1 fl_Mo_7 (hS.1 _ _ _ _ rfl) ?_
  refine aw_aload_n e_Mo_step_4 rfl ?_
  refine aw_getE e_Mo_step_5 fl_Mo_268 hla ?_
  refine aw_iconst (v := nI 2) e_Mo_step_8 (by decide) ?_
  refine aw_aload_n e_Mo_step_9 rfl ?_
  refine aw_getE e_Mo_step_10 fl_Mo_271 hk ?_
  first | refine awN_imul e_Mo_step_13 ?_ | refine aw_imul e_Mo_step_13 ?_
  first | refine awN_iadd e_Mo_step_14 ?_ | refine aw_iadd e_Mo_step_14 ?_
  refine aw_iload_n e_Mo_step_15 rfl ?_
  refine aw_iast e_Mo_step_16 rfl (show _ < 3110 by omega) (by omega) ?_
  refine aw_aload_n e_Mo_step_17 rfl ?_
  refine aw_getR e_Mo_step_18 fl_Mo_7 (hS.1 _ _ _ _ rfl) ?_
  refine aw_aload_n e_Mo_step_21 rfl ?_
  refine aw_getE e_Mo_step_22 fl_Mo_268 ((sI_n2 (by decide)).trans hla) ?_
  refine aw_iconst (v := nI 2) e_Mo_step_25 (by decide) ?_
  refine aw_aload_n e_Mo_step_26 rfl ?_
  refine aw_getE e_Mo_step_27 fl_Mo_271 ((sI_n2 (by decide)).trans hk) ?_
  first | refine awN_imul e_Mo_step_30 ?_ | refine aw_imul e_Mo_step_30 ?_
  first | refine awN_iadd e_Mo_step_31 ?_ | refine aw_iadd e_Mo_step_31 ?_
  refine aw_iconst (v := nI 1) e_Mo_step_32 (by decide) ?_
  first | refine awN_iadd e_Mo_step_33 ?_ | refine aw_iadd e_Mo_step_33 ?_
  refine aw_iload_n e_Mo_step_34 rfl ?_
  refine aw_iast e_Mo_step_35 rfl (show _ < 3110 by omega) (by omega) ?_
  refine aw_aload_n e_Mo_step_36 rfl ?_
  refine aw_dup e_Mo_step_37 rfl ?_
  refine aw_getE e_Mo_step_38 fl_Mo_271 ((sI_n2 (by decide)).trans ((sI_n2 (by decide)).trans hk)) ?_
  refine aw_iconst (v := nI 1) e_Mo_step_41 (by decide) ?_
  first | refine awN_iadd e_Mo_step_42 ?_ | refine aw_iadd e_Mo_step_42 ?_
  refine aw_putI e_Mo_step_43 fl_Mo_271 ?_
  exact aw_vret e_Mo_step_46 rfl hQ
def CMd (l : Launch) (E : En) (L : Lt) (R : Rt) (Z : Zt) (t : TB) (key K la : Nat) (M : Mt) (m F : Nat) : Prop := ∀ (o i : Nat) (x : Xs) (I : It) (D : Nat) (Q : Qt), o ≤ 8 → i ≤ 8 → F + 4 ≤ D → MTS I t la o i x → XI t x → 7 * (t.1 - x.1.1) + (6 - m) ≤ F → (∀ I2, MRS t la o i I I2 (rd t key F m o i x) → Q (some (vi (bI ((rd t key F m o i x).1 = true)))) I2 L R Z) → AMet l E D M [vr 9 0, vi (nI K)] I L R Z Q
theorem lp_Mo_term {l : Launch} {E : En} {L : Lt} {R : Rt} {Z : Zt} {t : TB} {key K la : Nat} (hS : Sta R) {o i D : Nat} (ho : o ≤ 8) (hi : i ≤ 8) : ∀ G, (∀ G2, G2 < G → CMd l E L R Z t key K la M_Mo_part0 (4 + 1) G2) → G ≤ D → ∀ (x : Xs) (I I2 : It) (Q : Qt), MTS I2 t la o i x → XI t x → 7 * (t.1 - x.1.1) + 7 ≤ G → fP la I I2 → (∀ I3, MRS t la o i I I3 (rd t key G (4 + 10) o i x) → Q (some (vi (bI ((rd t key G (4 + 10) o i x).1 = true)))) I3 L R Z) → AWq l E (D + 4) M_Mo_term Z 10 [some (vr 9 0), some (vi (nI K)), none] [] I2 L R Z Q := by
  intro G
  induction G with
  | zero => intro _ _ x I I2 Q _ _ h; exact absurd h (by omega)
  | succ G ih =>
    intro hall hD x I I2 Q hTS hX hms hf2 hQ
    have hT96 := hTS.1.2.1
    have hx1 := hX.1.1
    have hx2 := hX.1.2.1
    rw [rd_lp] at hQ
    refine aw_aload_n e_Mo_term_10 rfl ?_
    refine aw_bipush (v := nI 42) e_Mo_term_11 (by decide) ?_
    refine aw_cV1 e_Mo_term_13 ml_Mo_277 mf_Mo_isSign mv_Mo_isSign (c_Mo_isSign hS hTS.1 hTS.2.1 hX.1 (by decide) ?_)
    refine awB_ne e_Mo_term_16 (fun h16 => ?_) (fun h16 => ?_)
    · have hj : jnB t 4 x.1 = true := by
        show (sgn t x.1 42 || sgn t x.1 47) = true
        first
          | (rw [h16]; rfl)
          | (rw [h25, Bool.or_true])
      have hjs := jn_sg hj
      have hjl : lttr t x.1 < 128 := by omega
      rw [if_pos hj] at hQ
      have hX1 := XI_nx hX (by rw [hjs.1]; decide)
      have hlet := MW.sg hTS.1 hTS.2.1 hX.1 hjs.1 hjl hjs.2.2
      refine aw_aload_n e_Mo_term_28 rfl ?_
      refine aw_getE e_Mo_term_29 fl_Mo_252 hlet ?_
      refine aw_ist2 e_Mo_term_32 ?_
      refine aw_aload_n e_Mo_term_33 rfl ?_
      refine aw_cV0 e_Mo_term_34 ml_Mo_265 mf_Mo_next mv_Mo_next (c_Mo_next (x := x.1) (tk := tok x.1) hS hTS.1 hTS.2.1.2.1 hTS.2.1.2.2.1 (tok_le hX.1.2.2.1) (gl_3 hX.1 hjs.1) hX.1.2.1 (fun I1 hl1 hf1 => ?_))
      refine aw_aload_n e_Mo_term_37 rfl ?_
      refine aw_iload_n e_Mo_term_38 rfl ?_
      refine aw_cV1 e_Mo_term_39 ml_Mo_292 mf_Mo_part0 mv_Mo_part0 (hall G (by omega) o i (nxX t x) _ _ _ ho hi (by omega) (hTS.nx hl1 hf1) hX1.1 (by omega) (fun I3 hr3 => ?_))
      refine awB_ne e_Mo_term_42 (fun h42 => ?_) (fun h42 => ?_)
      · have hT3 := hr3.2.1 h42
        have hX3 := XI_rd (by decide) hX1.1 h42
        have hX3l : (rd t key G (4 + 1) o i (nxX t x)).2.2.1.length + (nxX t x).1.1 ≤ x.2.1.length + (rd t key G (4 + 1) o i (nxX t x)).2.1.1 := hX3.2.2.2
        have hX0 := hX.2
        have hla := hTS.2.2.1.2
        rw [if_pos h42] at hQ
        rw [if_neg (by decide)] at hQ
        refine aw_aload_n e_Mo_term_47 rfl ?_
        refine aw_iconst (v := nI 2) e_Mo_term_48 (by decide) ?_
        refine aw_iload_n e_Mo_term_49 rfl ?_
        refine aw_cV2 e_Mo_term_50 ml_Mo_280 mf_Mo_step mv_Mo_step (c_Mo_step (k := (rd t key G (4 + 1) o i (nxX t x)).2.2.1.length) (la := la) hS hT3.2.2.2.1.1 hT3.2.2.1.1 (by omega) ?_)
        refine aw_goto e_Mo_term_53 ?_
        refine aw_drop 2 ?_
        exact ih (fun G2 hG2 => hall G2 (by omega)) (by omega) _ I _ Q (hT3.put (q := (2, lttr t x.1))) (show XI t (ptX (rd t key G (4 + 1) o i (nxX t x)).2 (2, lttr t x.1)) from ⟨hX3.1.1, by show ((rd t key G (4 + 1) o i (nxX t x)).2.2.1 ++ [(2, lttr t x.1)]).length ≤ (rd t key G (4 + 1) o i (nxX t x)).2.1.1; rw [List.length_append]; show (rd t key G (4 + 1) o i (nxX t x)).2.2.1.length + 1 ≤ _; omega⟩) (by show 7 * (t.1 - (rd t key G (4 + 1) o i (nxX t x)).2.1.1) + 7 ≤ G; omega) (fP_s (fP_r (fP_r (fP_t (fP_t hf2 hf1.P) hr3.1) (by omega)) (by omega)) (by decide)) hQ
      · refine aw_iconst (v := nI 0) e_Mo_term_45 (by decide) ?_
        rw [if_neg h42] at hQ
        exact awB_0 e_Mo_term_46 h42 (hQ I3 ⟨fP_t (fP_t hf2 hf1.P) hr3.1, fun z => absurd z h42, hr3.2.2⟩)
    · refine aw_aload_n e_Mo_term_19 rfl ?_
      refine aw_bipush (v := nI 47) e_Mo_term_20 (by decide) ?_
      refine aw_cV1 e_Mo_term_22 ml_Mo_277 mf_Mo_isSign mv_Mo_isSign (c_Mo_isSign hS hTS.1 hTS.2.1 hX.1 (by decide) ?_)
      refine awB_eq e_Mo_term_25 (fun h25 => ?_) (fun h25 => ?_)
      · refine aw_iconst (v := nI 1) e_Mo_term_56 (by decide) ?_
        have hnj : ¬ jnB t 4 x.1 = true := by
          show ¬ (sgn t x.1 42 || sgn t x.1 47) = true
          rw [Bool.eq_false_iff.2 h16, Bool.eq_false_iff.2 h25]
          decide
        rw [if_neg hnj] at hQ
        exact awB_1 e_Mo_term_57 rfl (hQ I2 ⟨hf2, fun _ => hTS, fun z => absurd (show true = true from rfl) z⟩)
      · have hj : jnB t 4 x.1 = true := by
          show (sgn t x.1 42 || sgn t x.1 47) = true
          first
            | (rw [h16]; rfl)
            | (rw [h25, Bool.or_true])
        have hjs := jn_sg hj
        have hjl : lttr t x.1 < 128 := by omega
        rw [if_pos hj] at hQ
        have hX1 := XI_nx hX (by rw [hjs.1]; decide)
        have hlet := MW.sg hTS.1 hTS.2.1 hX.1 hjs.1 hjl hjs.2.2
        refine aw_aload_n e_Mo_term_28 rfl ?_
        refine aw_getE e_Mo_term_29 fl_Mo_252 hlet ?_
        refine aw_ist2 e_Mo_term_32 ?_
        refine aw_aload_n e_Mo_term_33 rfl ?_
        refine aw_cV0 e_Mo_term_34 ml_Mo_265 mf_Mo_next mv_Mo_next (c_Mo_next (x := x.1) (tk := tok x.1) hS hTS.1 hTS.2.1.2.1 hTS.2.1.2.2.1 (tok_le hX.1.2.2.1) (gl_3 hX.1 hjs.1) hX.1.2.1 (fun I1 hl1 hf1 => ?_))
        refine aw_aload_n e_Mo_term_37 rfl ?_
        refine aw_iload_n e_Mo_term_38 rfl ?_
        refine aw_cV1 e_Mo_term_39 ml_Mo_292 mf_Mo_part0 mv_Mo_part0 (hall G (by omega) o i (nxX t x) _ _ _ ho hi (by omega) (hTS.nx hl1 hf1) hX1.1 (by omega) (fun I3 hr3 => ?_))
        refine awB_ne e_Mo_term_42 (fun h42 => ?_) (fun h42 => ?_)
        · have hT3 := hr3.2.1 h42
          have hX3 := XI_rd (by decide) hX1.1 h42
          have hX3l : (rd t key G (4 + 1) o i (nxX t x)).2.2.1.length + (nxX t x).1.1 ≤ x.2.1.length + (rd t key G (4 + 1) o i (nxX t x)).2.1.1 := hX3.2.2.2
          have hX0 := hX.2
          have hla := hTS.2.2.1.2
          rw [if_pos h42] at hQ
          rw [if_neg (by decide)] at hQ
          refine aw_aload_n e_Mo_term_47 rfl ?_
          refine aw_iconst (v := nI 2) e_Mo_term_48 (by decide) ?_
          refine aw_iload_n e_Mo_term_49 rfl ?_
          refine aw_cV2 e_Mo_term_50 ml_Mo_280 mf_Mo_step mv_Mo_step (c_Mo_step (k := (rd t key G (4 + 1) o i (nxX t x)).2.2.1.length) (la := la) hS hT3.2.2.2.1.1 hT3.2.2.1.1 (by omega) ?_)
          refine aw_goto e_Mo_term_53 ?_
          refine aw_drop 2 ?_
          exact ih (fun G2 hG2 => hall G2 (by omega)) (by omega) _ I _ Q (hT3.put (q := (2, lttr t x.1))) (show XI t (ptX (rd t key G (4 + 1) o i (nxX t x)).2 (2, lttr t x.1)) from ⟨hX3.1.1, by show ((rd t key G (4 + 1) o i (nxX t x)).2.2.1 ++ [(2, lttr t x.1)]).length ≤ (rd t key G (4 + 1) o i (nxX t x)).2.1.1; rw [List.length_append]; show (rd t key G (4 + 1) o i (nxX t x)).2.2.1.length + 1 ≤ _; omega⟩) (by show 7 * (t.1 - (rd t key G (4 + 1) o i (nxX t x)).2.1.1) + 7 ≤ G; omega) (fP_s (fP_r (fP_r (fP_t (fP_t hf2 hf1.P) hr3.1) (by omega)) (by omega)) (by decide)) hQ
        · refine aw_iconst (v := nI 0) e_Mo_term_45 (by decide) ?_
          rw [if_neg h42] at hQ
          exact awB_0 e_Mo_term_46 h42 (hQ I3 ⟨fP_t (fP_t hf2 hf1.P) hr3.1, fun z => absurd z h42, hr3.2.2⟩)
theorem lv_Mo_term {l : Launch} {E : En} {L : Lt} {R : Rt} {Z : Zt} {t : TB} {key K la : Nat} (hS : Sta R) {F : Nat} (hall : ∀ G, G < F → CMd l E L R Z t key K la M_Mo_part0 (4 + 1) G) : CMd l E L R Z t key K la M_Mo_term 4 F := by
  intro o i x I D Q ho hi hD hTS hX hms hQ
  obtain ⟨D, rfl⟩ : ∃ D2, D = D2 + 4 := ⟨D - 4, by omega⟩
  have hT96 := hTS.1.2.1
  have hx1 := hX.1.1
  have hx2 := hX.1.2.1
  obtain ⟨F, rfl⟩ : ∃ F2, F = F2 + 1 := ⟨F - 1, by omega⟩
  rw [rd_lv (by decide)] at hQ
  refine AMet.of mf_Mo_term rfl (Nat.le_of_ble_eq_true rfl) ?_
  refine aw_aload_n e_Mo_term_0 rfl ?_
  refine aw_iload_n e_Mo_term_1 rfl ?_
  refine aw_cV1 e_Mo_term_2 ml_Mo_292 mf_Mo_part0 mv_Mo_part0 (hall F (by omega) o i x _ _ _ ho hi (by omega) hTS hX (by omega) (fun I2 hr2 => ?_))
  refine awB_ne e_Mo_term_5 (fun h5 => ?_) (fun h5 => ?_)
  · have hT2 := hr2.2.1 h5
    have hX2 := XI_rd (by decide) hX h5
    rw [if_pos h5] at hQ
    exact lp_Mo_term (D := D) hS ho hi F (fun G2 hG2 => hall G2 (by omega)) (by omega) (rd t key F (4 + 1) o i x).2 I I2 Q hT2 hX2.1 (by omega) hr2.1 hQ
  · refine aw_iconst (v := nI 0) e_Mo_term_8 (by decide) ?_
    rw [if_neg h5] at hQ
    exact awB_0 e_Mo_term_9 h5 (hQ I2 ⟨hr2.1, fun z => absurd z h5, hr2.2.2⟩)
theorem lp_Mo_sum {l : Launch} {E : En} {L : Lt} {R : Rt} {Z : Zt} {t : TB} {key K la : Nat} (hS : Sta R) {o i D : Nat} (ho : o ≤ 8) (hi : i ≤ 8) : ∀ G, (∀ G2, G2 < G → CMd l E L R Z t key K la M_Mo_term (3 + 1) G2) → G ≤ D → ∀ (x : Xs) (I I2 : It) (Q : Qt), MTS I2 t la o i x → XI t x → 7 * (t.1 - x.1.1) + 7 ≤ G → fP la I I2 → (∀ I3, MRS t la o i I I3 (rd t key G (3 + 10) o i x) → Q (some (vi (bI ((rd t key G (3 + 10) o i x).1 = true)))) I3 L R Z) → AWq l E (D + 4) M_Mo_sum Z 10 [some (vr 9 0), some (vi (nI K)), none] [] I2 L R Z Q := by
  intro G
  induction G with
  | zero => intro _ _ x I I2 Q _ _ h; exact absurd h (by omega)
  | succ G ih =>
    intro hall hD x I I2 Q hTS hX hms hf2 hQ
    have hT96 := hTS.1.2.1
    have hx1 := hX.1.1
    have hx2 := hX.1.2.1
    rw [rd_lp] at hQ
    refine aw_aload_n e_Mo_sum_10 rfl ?_
    refine aw_bipush (v := nI 43) e_Mo_sum_11 (by decide) ?_
    refine aw_cV1 e_Mo_sum_13 ml_Mo_277 mf_Mo_isSign mv_Mo_isSign (c_Mo_isSign hS hTS.1 hTS.2.1 hX.1 (by decide) ?_)
    refine awB_ne e_Mo_sum_16 (fun h16 => ?_) (fun h16 => ?_)
    · have hj : jnB t 3 x.1 = true := by
        show (sgn t x.1 43 || sgn t x.1 45) = true
        first
          | (rw [h16]; rfl)
          | (rw [h25, Bool.or_true])
      have hjs := jn_sg hj
      have hjl : lttr t x.1 < 128 := by omega
      rw [if_pos hj] at hQ
      have hX1 := XI_nx hX (by rw [hjs.1]; decide)
      have hlet := MW.sg hTS.1 hTS.2.1 hX.1 hjs.1 hjl hjs.2.2
      refine aw_aload_n e_Mo_sum_28 rfl ?_
      refine aw_getE e_Mo_sum_29 fl_Mo_252 hlet ?_
      refine aw_ist2 e_Mo_sum_32 ?_
      refine aw_aload_n e_Mo_sum_33 rfl ?_
      refine aw_cV0 e_Mo_sum_34 ml_Mo_265 mf_Mo_next mv_Mo_next (c_Mo_next (x := x.1) (tk := tok x.1) hS hTS.1 hTS.2.1.2.1 hTS.2.1.2.2.1 (tok_le hX.1.2.2.1) (gl_3 hX.1 hjs.1) hX.1.2.1 (fun I1 hl1 hf1 => ?_))
      refine aw_aload_n e_Mo_sum_37 rfl ?_
      refine aw_iload_n e_Mo_sum_38 rfl ?_
      refine aw_cV1 e_Mo_sum_39 ml_Mo_289 mf_Mo_term mv_Mo_term (hall G (by omega) o i (nxX t x) _ _ _ ho hi (by omega) (hTS.nx hl1 hf1) hX1.1 (by omega) (fun I3 hr3 => ?_))
      refine awB_ne e_Mo_sum_42 (fun h42 => ?_) (fun h42 => ?_)
      · have hT3 := hr3.2.1 h42
        have hX3 := XI_rd (by decide) hX1.1 h42
        have hX3l : (rd t key G (3 + 1) o i (nxX t x)).2.2.1.length + (nxX t x).1.1 ≤ x.2.1.length + (rd t key G (3 + 1) o i (nxX t x)).2.1.1 := hX3.2.2.2
        have hX0 := hX.2
        have hla := hTS.2.2.1.2
        rw [if_pos h42] at hQ
        rw [if_neg (by decide)] at hQ
        refine aw_aload_n e_Mo_sum_47 rfl ?_
        refine aw_iconst (v := nI 2) e_Mo_sum_48 (by decide) ?_
        refine aw_iload_n e_Mo_sum_49 rfl ?_
        refine aw_cV2 e_Mo_sum_50 ml_Mo_280 mf_Mo_step mv_Mo_step (c_Mo_step (k := (rd t key G (3 + 1) o i (nxX t x)).2.2.1.length) (la := la) hS hT3.2.2.2.1.1 hT3.2.2.1.1 (by omega) ?_)
        refine aw_goto e_Mo_sum_53 ?_
        refine aw_drop 2 ?_
        exact ih (fun G2 hG2 => hall G2 (by omega)) (by omega) _ I _ Q (hT3.put (q := (2, lttr t x.1))) (show XI t (ptX (rd t key G (3 + 1) o i (nxX t x)).2 (2, lttr t x.1)) from ⟨hX3.1.1, by show ((rd t key G (3 + 1) o i (nxX t x)).2.2.1 ++ [(2, lttr t x.1)]).length ≤ (rd t key G (3 + 1) o i (nxX t x)).2.1.1; rw [List.length_append]; show (rd t key G (3 + 1) o i (nxX t x)).2.2.1.length + 1 ≤ _; omega⟩) (by show 7 * (t.1 - (rd t key G (3 + 1) o i (nxX t x)).2.1.1) + 7 ≤ G; omega) (fP_s (fP_r (fP_r (fP_t (fP_t hf2 hf1.P) hr3.1) (by omega)) (by omega)) (by decide)) hQ
      · refine aw_iconst (v := nI 0) e_Mo_sum_45 (by decide) ?_
        rw [if_neg h42] at hQ
        exact awB_0 e_Mo_sum_46 h42 (hQ I3 ⟨fP_t (fP_t hf2 hf1.P) hr3.1, fun z => absurd z h42, hr3.2.2⟩)
    · refine aw_aload_n e_Mo_sum_19 rfl ?_
      refine aw_bipush (v := nI 45) e_Mo_sum_20 (by decide) ?_
      refine aw_cV1 e_Mo_sum_22 ml_Mo_277 mf_Mo_isSign mv_Mo_isSign (c_Mo_isSign hS hTS.1 hTS.2.1 hX.1 (by decide) ?_)
      refine awB_eq e_Mo_sum_25 (fun h25 => ?_) (fun h25 => ?_)
      · refine aw_iconst (v := nI 1) e_Mo_sum_56 (by decide) ?_
        have hnj : ¬ jnB t 3 x.1 = true := by
          show ¬ (sgn t x.1 43 || sgn t x.1 45) = true
          rw [Bool.eq_false_iff.2 h16, Bool.eq_false_iff.2 h25]
          decide
        rw [if_neg hnj] at hQ
        exact awB_1 e_Mo_sum_57 rfl (hQ I2 ⟨hf2, fun _ => hTS, fun z => absurd (show true = true from rfl) z⟩)
      · have hj : jnB t 3 x.1 = true := by
          show (sgn t x.1 43 || sgn t x.1 45) = true
          first
            | (rw [h16]; rfl)
            | (rw [h25, Bool.or_true])
        have hjs := jn_sg hj
        have hjl : lttr t x.1 < 128 := by omega
        rw [if_pos hj] at hQ
        have hX1 := XI_nx hX (by rw [hjs.1]; decide)
        have hlet := MW.sg hTS.1 hTS.2.1 hX.1 hjs.1 hjl hjs.2.2
        refine aw_aload_n e_Mo_sum_28 rfl ?_
        refine aw_getE e_Mo_sum_29 fl_Mo_252 hlet ?_
        refine aw_ist2 e_Mo_sum_32 ?_
        refine aw_aload_n e_Mo_sum_33 rfl ?_
        refine aw_cV0 e_Mo_sum_34 ml_Mo_265 mf_Mo_next mv_Mo_next (c_Mo_next (x := x.1) (tk := tok x.1) hS hTS.1 hTS.2.1.2.1 hTS.2.1.2.2.1 (tok_le hX.1.2.2.1) (gl_3 hX.1 hjs.1) hX.1.2.1 (fun I1 hl1 hf1 => ?_))
        refine aw_aload_n e_Mo_sum_37 rfl ?_
        refine aw_iload_n e_Mo_sum_38 rfl ?_
        refine aw_cV1 e_Mo_sum_39 ml_Mo_289 mf_Mo_term mv_Mo_term (hall G (by omega) o i (nxX t x) _ _ _ ho hi (by omega) (hTS.nx hl1 hf1) hX1.1 (by omega) (fun I3 hr3 => ?_))
        refine awB_ne e_Mo_sum_42 (fun h42 => ?_) (fun h42 => ?_)
        · have hT3 := hr3.2.1 h42
          have hX3 := XI_rd (by decide) hX1.1 h42
          have hX3l : (rd t key G (3 + 1) o i (nxX t x)).2.2.1.length + (nxX t x).1.1 ≤ x.2.1.length + (rd t key G (3 + 1) o i (nxX t x)).2.1.1 := hX3.2.2.2
          have hX0 := hX.2
          have hla := hTS.2.2.1.2
          rw [if_pos h42] at hQ
          rw [if_neg (by decide)] at hQ
          refine aw_aload_n e_Mo_sum_47 rfl ?_
          refine aw_iconst (v := nI 2) e_Mo_sum_48 (by decide) ?_
          refine aw_iload_n e_Mo_sum_49 rfl ?_
          refine aw_cV2 e_Mo_sum_50 ml_Mo_280 mf_Mo_step mv_Mo_step (c_Mo_step (k := (rd t key G (3 + 1) o i (nxX t x)).2.2.1.length) (la := la) hS hT3.2.2.2.1.1 hT3.2.2.1.1 (by omega) ?_)
          refine aw_goto e_Mo_sum_53 ?_
          refine aw_drop 2 ?_
          exact ih (fun G2 hG2 => hall G2 (by omega)) (by omega) _ I _ Q (hT3.put (q := (2, lttr t x.1))) (show XI t (ptX (rd t key G (3 + 1) o i (nxX t x)).2 (2, lttr t x.1)) from ⟨hX3.1.1, by show ((rd t key G (3 + 1) o i (nxX t x)).2.2.1 ++ [(2, lttr t x.1)]).length ≤ (rd t key G (3 + 1) o i (nxX t x)).2.1.1; rw [List.length_append]; show (rd t key G (3 + 1) o i (nxX t x)).2.2.1.length + 1 ≤ _; omega⟩) (by show 7 * (t.1 - (rd t key G (3 + 1) o i (nxX t x)).2.1.1) + 7 ≤ G; omega) (fP_s (fP_r (fP_r (fP_t (fP_t hf2 hf1.P) hr3.1) (by omega)) (by omega)) (by decide)) hQ
        · refine aw_iconst (v := nI 0) e_Mo_sum_45 (by decide) ?_
          rw [if_neg h42] at hQ
          exact awB_0 e_Mo_sum_46 h42 (hQ I3 ⟨fP_t (fP_t hf2 hf1.P) hr3.1, fun z => absurd z h42, hr3.2.2⟩)
theorem lv_Mo_sum {l : Launch} {E : En} {L : Lt} {R : Rt} {Z : Zt} {t : TB} {key K la : Nat} (hS : Sta R) {F : Nat} (hall : ∀ G, G < F → CMd l E L R Z t key K la M_Mo_term (3 + 1) G) : CMd l E L R Z t key K la M_Mo_sum 3 F := by
  intro o i x I D Q ho hi hD hTS hX hms hQ
  obtain ⟨D, rfl⟩ : ∃ D2, D = D2 + 4 := ⟨D - 4, by omega⟩
  have hT96 := hTS.1.2.1
  have hx1 := hX.1.1
  have hx2 := hX.1.2.1
  obtain ⟨F, rfl⟩ : ∃ F2, F = F2 + 1 := ⟨F - 1, by omega⟩
  rw [rd_lv (by decide)] at hQ
  refine AMet.of mf_Mo_sum rfl (Nat.le_of_ble_eq_true rfl) ?_
  refine aw_aload_n e_Mo_sum_0 rfl ?_
  refine aw_iload_n e_Mo_sum_1 rfl ?_
  refine aw_cV1 e_Mo_sum_2 ml_Mo_289 mf_Mo_term mv_Mo_term (hall F (by omega) o i x _ _ _ ho hi (by omega) hTS hX (by omega) (fun I2 hr2 => ?_))
  refine awB_ne e_Mo_sum_5 (fun h5 => ?_) (fun h5 => ?_)
  · have hT2 := hr2.2.1 h5
    have hX2 := XI_rd (by decide) hX h5
    rw [if_pos h5] at hQ
    exact lp_Mo_sum (D := D) hS ho hi F (fun G2 hG2 => hall G2 (by omega)) (by omega) (rd t key F (3 + 1) o i x).2 I I2 Q hT2 hX2.1 (by omega) hr2.1 hQ
  · refine aw_iconst (v := nI 0) e_Mo_sum_8 (by decide) ?_
    rw [if_neg h5] at hQ
    exact awB_0 e_Mo_sum_9 h5 (hQ I2 ⟨hr2.1, fun z => absurd z h5, hr2.2.2⟩)
theorem lp_Mo_test {l : Launch} {E : En} {L : Lt} {R : Rt} {Z : Zt} {t : TB} {key K la : Nat} (hS : Sta R) {o i D : Nat} (ho : o ≤ 8) (hi : i ≤ 8) : ∀ G, (∀ G2, G2 < G → CMd l E L R Z t key K la M_Mo_sum (2 + 1) G2) → G ≤ D → ∀ (x : Xs) (I I2 : It) (Q : Qt), MTS I2 t la o i x → XI t x → 7 * (t.1 - x.1.1) + 7 ≤ G → fP la I I2 → (∀ I3, MRS t la o i I I3 (rd t key G (2 + 10) o i x) → Q (some (vi (bI ((rd t key G (2 + 10) o i x).1 = true)))) I3 L R Z) → AWq l E (D + 4) M_Mo_test Z 10 [some (vr 9 0), some (vi (nI K)), none] [] I2 L R Z Q := by
  intro G
  induction G with
  | zero => intro _ _ x I I2 Q _ _ h; exact absurd h (by omega)
  | succ G ih =>
    intro hall hD x I I2 Q hTS hX hms hf2 hQ
    have hT96 := hTS.1.2.1
    have hx1 := hX.1.1
    have hx2 := hX.1.2.1
    rw [rd_lp] at hQ
    refine aw_aload_n e_Mo_test_10 rfl ?_
    refine aw_bipush (v := nI 60) e_Mo_test_11 (by decide) ?_
    refine aw_cV1 e_Mo_test_13 ml_Mo_277 mf_Mo_isSign mv_Mo_isSign (c_Mo_isSign hS hTS.1 hTS.2.1 hX.1 (by decide) ?_)
    refine awB_ne e_Mo_test_16 (fun h16 => ?_) (fun h16 => ?_)
    · have hj : jnB t 2 x.1 = true := by
        show (sgn t x.1 60 || sgn t x.1 61 || sgn t x.1 62) = true
        first
          | (rw [h16]; rfl)
          | (rw [h25, Bool.or_true]; rfl)
          | (rw [h34, Bool.or_true])
      have hjs := jn_sg hj
      have hjl : lttr t x.1 < 128 := by omega
      rw [if_pos hj] at hQ
      have hX1 := XI_nx hX (by rw [hjs.1]; decide)
      have hlet := MW.sg hTS.1 hTS.2.1 hX.1 hjs.1 hjl hjs.2.2
      refine aw_aload_n e_Mo_test_37 rfl ?_
      refine aw_getE e_Mo_test_38 fl_Mo_252 hlet ?_
      refine aw_ist2 e_Mo_test_41 ?_
      refine aw_aload_n e_Mo_test_42 rfl ?_
      refine aw_cV0 e_Mo_test_43 ml_Mo_265 mf_Mo_next mv_Mo_next (c_Mo_next (x := x.1) (tk := tok x.1) hS hTS.1 hTS.2.1.2.1 hTS.2.1.2.2.1 (tok_le hX.1.2.2.1) (gl_3 hX.1 hjs.1) hX.1.2.1 (fun I1 hl1 hf1 => ?_))
      refine aw_aload_n e_Mo_test_46 rfl ?_
      refine aw_iload_n e_Mo_test_47 rfl ?_
      refine aw_cV1 e_Mo_test_48 ml_Mo_286 mf_Mo_sum mv_Mo_sum (hall G (by omega) o i (nxX t x) _ _ _ ho hi (by omega) (hTS.nx hl1 hf1) hX1.1 (by omega) (fun I3 hr3 => ?_))
      refine awB_ne e_Mo_test_51 (fun h51 => ?_) (fun h51 => ?_)
      · have hT3 := hr3.2.1 h51
        have hX3 := XI_rd (by decide) hX1.1 h51
        have hX3l : (rd t key G (2 + 1) o i (nxX t x)).2.2.1.length + (nxX t x).1.1 ≤ x.2.1.length + (rd t key G (2 + 1) o i (nxX t x)).2.1.1 := hX3.2.2.2
        have hX0 := hX.2
        have hla := hTS.2.2.1.2
        rw [if_pos h51] at hQ
        rw [if_pos rfl] at hQ
        refine aw_aload_n e_Mo_test_56 rfl ?_
        refine aw_iconst (v := nI 2) e_Mo_test_57 (by decide) ?_
        refine aw_iload_n e_Mo_test_58 rfl ?_
        refine aw_cV2 e_Mo_test_59 ml_Mo_280 mf_Mo_step mv_Mo_step (c_Mo_step (k := (rd t key G (2 + 1) o i (nxX t x)).2.2.1.length) (la := la) hS hT3.2.2.2.1.1 hT3.2.2.1.1 (by omega) ?_)
        refine aw_iconst (v := nI 1) e_Mo_test_62 (by decide) ?_
        first
          | (refine awB_1 e_Mo_test_63 ?_ (hQ _ ?_)
             · rfl
             · exact ⟨fP_s (fP_r (fP_r (fP_t (fP_t hf2 hf1.P) hr3.1) (by omega)) (by omega)) (by decide), fun _ => hT3.put (q := (2, lttr t x.1)), fun z => absurd (show true = true from rfl) z⟩)
          | (have hnj : ¬ jnB t 2 x.1 = true := by
               show ¬ (sgn t x.1 60 || sgn t x.1 61 || sgn t x.1 62) = true
               rw [Bool.eq_false_iff.2 h16, Bool.eq_false_iff.2 h25, Bool.eq_false_iff.2 h34]
               decide
             rw [if_neg hnj] at hQ
             exact awB_1 e_Mo_test_63 rfl (hQ I2 ⟨hf2, fun _ => hTS, fun z => absurd (show true = true from rfl) z⟩))
      · refine aw_iconst (v := nI 0) e_Mo_test_54 (by decide) ?_
        rw [if_neg h51] at hQ
        exact awB_0 e_Mo_test_55 h51 (hQ I3 ⟨fP_t (fP_t hf2 hf1.P) hr3.1, fun z => absurd z h51, hr3.2.2⟩)
    · refine aw_aload_n e_Mo_test_19 rfl ?_
      refine aw_bipush (v := nI 61) e_Mo_test_20 (by decide) ?_
      refine aw_cV1 e_Mo_test_22 ml_Mo_277 mf_Mo_isSign mv_Mo_isSign (c_Mo_isSign hS hTS.1 hTS.2.1 hX.1 (by decide) ?_)
      refine awB_ne e_Mo_test_25 (fun h25 => ?_) (fun h25 => ?_)
      · have hj : jnB t 2 x.1 = true := by
          show (sgn t x.1 60 || sgn t x.1 61 || sgn t x.1 62) = true
          first
            | (rw [h16]; rfl)
            | (rw [h25, Bool.or_true]; rfl)
            | (rw [h34, Bool.or_true])
        have hjs := jn_sg hj
        have hjl : lttr t x.1 < 128 := by omega
        rw [if_pos hj] at hQ
        have hX1 := XI_nx hX (by rw [hjs.1]; decide)
        have hlet := MW.sg hTS.1 hTS.2.1 hX.1 hjs.1 hjl hjs.2.2
        refine aw_aload_n e_Mo_test_37 rfl ?_
        refine aw_getE e_Mo_test_38 fl_Mo_252 hlet ?_
        refine aw_ist2 e_Mo_test_41 ?_
        refine aw_aload_n e_Mo_test_42 rfl ?_
        refine aw_cV0 e_Mo_test_43 ml_Mo_265 mf_Mo_next mv_Mo_next (c_Mo_next (x := x.1) (tk := tok x.1) hS hTS.1 hTS.2.1.2.1 hTS.2.1.2.2.1 (tok_le hX.1.2.2.1) (gl_3 hX.1 hjs.1) hX.1.2.1 (fun I1 hl1 hf1 => ?_))
        refine aw_aload_n e_Mo_test_46 rfl ?_
        refine aw_iload_n e_Mo_test_47 rfl ?_
        refine aw_cV1 e_Mo_test_48 ml_Mo_286 mf_Mo_sum mv_Mo_sum (hall G (by omega) o i (nxX t x) _ _ _ ho hi (by omega) (hTS.nx hl1 hf1) hX1.1 (by omega) (fun I3 hr3 => ?_))
        refine awB_ne e_Mo_test_51 (fun h51 => ?_) (fun h51 => ?_)
        · have hT3 := hr3.2.1 h51
          have hX3 := XI_rd (by decide) hX1.1 h51
          have hX3l : (rd t key G (2 + 1) o i (nxX t x)).2.2.1.length + (nxX t x).1.1 ≤ x.2.1.length + (rd t key G (2 + 1) o i (nxX t x)).2.1.1 := hX3.2.2.2
          have hX0 := hX.2
          have hla := hTS.2.2.1.2
          rw [if_pos h51] at hQ
          rw [if_pos rfl] at hQ
          refine aw_aload_n e_Mo_test_56 rfl ?_
          refine aw_iconst (v := nI 2) e_Mo_test_57 (by decide) ?_
          refine aw_iload_n e_Mo_test_58 rfl ?_
          refine aw_cV2 e_Mo_test_59 ml_Mo_280 mf_Mo_step mv_Mo_step (c_Mo_step (k := (rd t key G (2 + 1) o i (nxX t x)).2.2.1.length) (la := la) hS hT3.2.2.2.1.1 hT3.2.2.1.1 (by omega) ?_)
          refine aw_iconst (v := nI 1) e_Mo_test_62 (by decide) ?_
          first
            | (refine awB_1 e_Mo_test_63 ?_ (hQ _ ?_)
               · rfl
               · exact ⟨fP_s (fP_r (fP_r (fP_t (fP_t hf2 hf1.P) hr3.1) (by omega)) (by omega)) (by decide), fun _ => hT3.put (q := (2, lttr t x.1)), fun z => absurd (show true = true from rfl) z⟩)
            | (have hnj : ¬ jnB t 2 x.1 = true := by
                 show ¬ (sgn t x.1 60 || sgn t x.1 61 || sgn t x.1 62) = true
                 rw [Bool.eq_false_iff.2 h16, Bool.eq_false_iff.2 h25, Bool.eq_false_iff.2 h34]
                 decide
               rw [if_neg hnj] at hQ
               exact awB_1 e_Mo_test_63 rfl (hQ I2 ⟨hf2, fun _ => hTS, fun z => absurd (show true = true from rfl) z⟩))
        · refine aw_iconst (v := nI 0) e_Mo_test_54 (by decide) ?_
          rw [if_neg h51] at hQ
          exact awB_0 e_Mo_test_55 h51 (hQ I3 ⟨fP_t (fP_t hf2 hf1.P) hr3.1, fun z => absurd z h51, hr3.2.2⟩)
      · refine aw_aload_n e_Mo_test_28 rfl ?_
        refine aw_bipush (v := nI 62) e_Mo_test_29 (by decide) ?_
        refine aw_cV1 e_Mo_test_31 ml_Mo_277 mf_Mo_isSign mv_Mo_isSign (c_Mo_isSign hS hTS.1 hTS.2.1 hX.1 (by decide) ?_)
        refine awB_eq e_Mo_test_34 (fun h34 => ?_) (fun h34 => ?_)
        · refine aw_iconst (v := nI 1) e_Mo_test_62 (by decide) ?_
          first
            | (refine awB_1 e_Mo_test_63 ?_ (hQ _ ?_)
               · rfl
               · exact ⟨fP_s (fP_r (fP_r (fP_t (fP_t hf2 hf1.P) hr3.1) (by omega)) (by omega)) (by decide), fun _ => hT3.put (q := (2, lttr t x.1)), fun z => absurd (show true = true from rfl) z⟩)
            | (have hnj : ¬ jnB t 2 x.1 = true := by
                 show ¬ (sgn t x.1 60 || sgn t x.1 61 || sgn t x.1 62) = true
                 rw [Bool.eq_false_iff.2 h16, Bool.eq_false_iff.2 h25, Bool.eq_false_iff.2 h34]
                 decide
               rw [if_neg hnj] at hQ
               exact awB_1 e_Mo_test_63 rfl (hQ I2 ⟨hf2, fun _ => hTS, fun z => absurd (show true = true from rfl) z⟩))
        · have hj : jnB t 2 x.1 = true := by
            show (sgn t x.1 60 || sgn t x.1 61 || sgn t x.1 62) = true
            first
              | (rw [h16]; rfl)
              | (rw [h25, Bool.or_true]; rfl)
              | (rw [h34, Bool.or_true])
          have hjs := jn_sg hj
          have hjl : lttr t x.1 < 128 := by omega
          rw [if_pos hj] at hQ
          have hX1 := XI_nx hX (by rw [hjs.1]; decide)
          have hlet := MW.sg hTS.1 hTS.2.1 hX.1 hjs.1 hjl hjs.2.2
          refine aw_aload_n e_Mo_test_37 rfl ?_
          refine aw_getE e_Mo_test_38 fl_Mo_252 hlet ?_
          refine aw_ist2 e_Mo_test_41 ?_
          refine aw_aload_n e_Mo_test_42 rfl ?_
          refine aw_cV0 e_Mo_test_43 ml_Mo_265 mf_Mo_next mv_Mo_next (c_Mo_next (x := x.1) (tk := tok x.1) hS hTS.1 hTS.2.1.2.1 hTS.2.1.2.2.1 (tok_le hX.1.2.2.1) (gl_3 hX.1 hjs.1) hX.1.2.1 (fun I1 hl1 hf1 => ?_))
          refine aw_aload_n e_Mo_test_46 rfl ?_
          refine aw_iload_n e_Mo_test_47 rfl ?_
          refine aw_cV1 e_Mo_test_48 ml_Mo_286 mf_Mo_sum mv_Mo_sum (hall G (by omega) o i (nxX t x) _ _ _ ho hi (by omega) (hTS.nx hl1 hf1) hX1.1 (by omega) (fun I3 hr3 => ?_))
          refine awB_ne e_Mo_test_51 (fun h51 => ?_) (fun h51 => ?_)
          · have hT3 := hr3.2.1 h51
            have hX3 := XI_rd (by decide) hX1.1 h51
            have hX3l : (rd t key G (2 + 1) o i (nxX t x)).2.2.1.length + (nxX t x).1.1 ≤ x.2.1.length + (rd t key G (2 + 1) o i (nxX t x)).2.1.1 := hX3.2.2.2
            have hX0 := hX.2
            have hla := hTS.2.2.1.2
            rw [if_pos h51] at hQ
            rw [if_pos rfl] at hQ
            refine aw_aload_n e_Mo_test_56 rfl ?_
            refine aw_iconst (v := nI 2) e_Mo_test_57 (by decide) ?_
            refine aw_iload_n e_Mo_test_58 rfl ?_
            refine aw_cV2 e_Mo_test_59 ml_Mo_280 mf_Mo_step mv_Mo_step (c_Mo_step (k := (rd t key G (2 + 1) o i (nxX t x)).2.2.1.length) (la := la) hS hT3.2.2.2.1.1 hT3.2.2.1.1 (by omega) ?_)
            refine aw_iconst (v := nI 1) e_Mo_test_62 (by decide) ?_
            first
              | (refine awB_1 e_Mo_test_63 ?_ (hQ _ ?_)
                 · rfl
                 · exact ⟨fP_s (fP_r (fP_r (fP_t (fP_t hf2 hf1.P) hr3.1) (by omega)) (by omega)) (by decide), fun _ => hT3.put (q := (2, lttr t x.1)), fun z => absurd (show true = true from rfl) z⟩)
              | (have hnj : ¬ jnB t 2 x.1 = true := by
                   show ¬ (sgn t x.1 60 || sgn t x.1 61 || sgn t x.1 62) = true
                   rw [Bool.eq_false_iff.2 h16, Bool.eq_false_iff.2 h25, Bool.eq_false_iff.2 h34]
                   decide
                 rw [if_neg hnj] at hQ
                 exact awB_1 e_Mo_test_63 rfl (hQ I2 ⟨hf2, fun _ => hTS, fun z => absurd (show true = true from rfl) z⟩))
          · refine aw_iconst (v := nI 0) e_Mo_test_54 (by decide) ?_
            rw [if_neg h51] at hQ
            exact awB_0 e_Mo_test_55 h51 (hQ I3 ⟨fP_t (fP_t hf2 hf1.P) hr3.1, fun z => absurd z h51, hr3.2.2⟩)
theorem lv_Mo_test {l : Launch} {E : En} {L : Lt} {R : Rt} {Z : Zt} {t : TB} {key K la : Nat} (hS : Sta R) {F : Nat} (hall : ∀ G, G < F → CMd l E L R Z t key K la M_Mo_sum (2 + 1) G) : CMd l E L R Z t key K la M_Mo_test 2 F := by
  intro o i x I D Q ho hi hD hTS hX hms hQ
  obtain ⟨D, rfl⟩ : ∃ D2, D = D2 + 4 := ⟨D - 4, by omega⟩
  have hT96 := hTS.1.2.1
  have hx1 := hX.1.1
  have hx2 := hX.1.2.1
  obtain ⟨F, rfl⟩ : ∃ F2, F = F2 + 1 := ⟨F - 1, by omega⟩
  rw [rd_lv (by decide)] at hQ
  refine AMet.of mf_Mo_test rfl (Nat.le_of_ble_eq_true rfl) ?_
  refine aw_aload_n e_Mo_test_0 rfl ?_
  refine aw_iload_n e_Mo_test_1 rfl ?_
  refine aw_cV1 e_Mo_test_2 ml_Mo_286 mf_Mo_sum mv_Mo_sum (hall F (by omega) o i x _ _ _ ho hi (by omega) hTS hX (by omega) (fun I2 hr2 => ?_))
  refine awB_ne e_Mo_test_5 (fun h5 => ?_) (fun h5 => ?_)
  · have hT2 := hr2.2.1 h5
    have hX2 := XI_rd (by decide) hX h5
    rw [if_pos h5] at hQ
    exact lp_Mo_test (D := D) hS ho hi F (fun G2 hG2 => hall G2 (by omega)) (by omega) (rd t key F (2 + 1) o i x).2 I I2 Q hT2 hX2.1 (by omega) hr2.1 hQ
  · refine aw_iconst (v := nI 0) e_Mo_test_8 (by decide) ?_
    rw [if_neg h5] at hQ
    exact awB_0 e_Mo_test_9 h5 (hQ I2 ⟨hr2.1, fun z => absurd z h5, hr2.2.2⟩)
theorem lp_Mo_both {l : Launch} {E : En} {L : Lt} {R : Rt} {Z : Zt} {t : TB} {key K la : Nat} (hS : Sta R) {o i D : Nat} (ho : o ≤ 8) (hi : i ≤ 8) : ∀ G, (∀ G2, G2 < G → CMd l E L R Z t key K la M_Mo_test (1 + 1) G2) → G ≤ D → ∀ (x : Xs) (I I2 : It) (Q : Qt), MTS I2 t la o i x → XI t x → 7 * (t.1 - x.1.1) + 7 ≤ G → fP la I I2 → (∀ I3, MRS t la o i I I3 (rd t key G (1 + 10) o i x) → Q (some (vi (bI ((rd t key G (1 + 10) o i x).1 = true)))) I3 L R Z) → AWq l E (D + 4) M_Mo_both Z 10 [some (vr 9 0), some (vi (nI K))] [] I2 L R Z Q := by
  intro G
  induction G with
  | zero => intro _ _ x I I2 Q _ _ h; exact absurd h (by omega)
  | succ G ih =>
    intro hall hD x I I2 Q hTS hX hms hf2 hQ
    have hT96 := hTS.1.2.1
    have hx1 := hX.1.1
    have hx2 := hX.1.2.1
    rw [rd_lp] at hQ
    refine aw_aload_n e_Mo_both_10 rfl ?_
    refine aw_bipush (v := nI 38) e_Mo_both_11 (by decide) ?_
    refine aw_cV1 e_Mo_both_13 ml_Mo_277 mf_Mo_isSign mv_Mo_isSign (c_Mo_isSign hS hTS.1 hTS.2.1 hX.1 (by decide) ?_)
    refine awB_eq e_Mo_both_16 (fun h16 => ?_) (fun h16 => ?_)
    · refine aw_iconst (v := nI 1) e_Mo_both_43 (by decide) ?_
      have hnj : ¬ jnB t 1 x.1 = true := by
        show ¬ (sgn t x.1 38) = true
        rw [Bool.eq_false_iff.2 h16]
        decide
      rw [if_neg hnj] at hQ
      exact awB_1 e_Mo_both_44 rfl (hQ I2 ⟨hf2, fun _ => hTS, fun z => absurd (show true = true from rfl) z⟩)
    · have hj : jnB t 1 x.1 = true := by
        show (sgn t x.1 38) = true
        first
          | exact h16
      have hjs := jn_sg hj
      have hjl : lttr t x.1 < 128 := by omega
      rw [if_pos hj] at hQ
      have hX1 := XI_nx hX (by rw [hjs.1]; decide)
      have hlet := MW.sg hTS.1 hTS.2.1 hX.1 hjs.1 hjl hjs.2.2
      have hlv := sg_l (c := 38) (by decide) h16
      refine aw_aload_n e_Mo_both_19 rfl ?_
      refine aw_cV0 e_Mo_both_20 ml_Mo_265 mf_Mo_next mv_Mo_next (c_Mo_next (x := x.1) (tk := tok x.1) hS hTS.1 hTS.2.1.2.1 hTS.2.1.2.2.1 (tok_le hX.1.2.2.1) (gl_3 hX.1 hjs.1) hX.1.2.1 (fun I1 hl1 hf1 => ?_))
      refine aw_aload_n e_Mo_both_23 rfl ?_
      refine aw_iload_n e_Mo_both_24 rfl ?_
      refine aw_cV1 e_Mo_both_25 ml_Mo_283 mf_Mo_test mv_Mo_test (hall G (by omega) o i (nxX t x) _ _ _ ho hi (by omega) (hTS.nx hl1 hf1) hX1.1 (by omega) (fun I3 hr3 => ?_))
      refine awB_ne e_Mo_both_28 (fun h28 => ?_) (fun h28 => ?_)
      · have hT3 := hr3.2.1 h28
        have hX3 := XI_rd (by decide) hX1.1 h28
        have hX3l : (rd t key G (1 + 1) o i (nxX t x)).2.2.1.length + (nxX t x).1.1 ≤ x.2.1.length + (rd t key G (1 + 1) o i (nxX t x)).2.1.1 := hX3.2.2.2
        have hX0 := hX.2
        have hla := hTS.2.2.1.2
        rw [if_pos h28] at hQ
        rw [if_neg (by decide)] at hQ
        refine aw_aload_n e_Mo_both_33 rfl ?_
        refine aw_iconst (v := nI 2) e_Mo_both_34 (by decide) ?_
        refine aw_bipush (v := nI 38) e_Mo_both_35 (by decide) ?_
        refine aw_cV2 e_Mo_both_37 ml_Mo_280 mf_Mo_step mv_Mo_step (c_Mo_step (k := (rd t key G (1 + 1) o i (nxX t x)).2.2.1.length) (la := la) hS hT3.2.2.2.1.1 hT3.2.2.1.1 (by omega) ?_)
        refine aw_goto e_Mo_both_40 ?_
        rw [← hlv]
        exact ih (fun G2 hG2 => hall G2 (by omega)) (by omega) _ I _ Q (hT3.put (q := (2, lttr t x.1))) (show XI t (ptX (rd t key G (1 + 1) o i (nxX t x)).2 (2, lttr t x.1)) from ⟨hX3.1.1, by show ((rd t key G (1 + 1) o i (nxX t x)).2.2.1 ++ [(2, lttr t x.1)]).length ≤ (rd t key G (1 + 1) o i (nxX t x)).2.1.1; rw [List.length_append]; show (rd t key G (1 + 1) o i (nxX t x)).2.2.1.length + 1 ≤ _; omega⟩) (by show 7 * (t.1 - (rd t key G (1 + 1) o i (nxX t x)).2.1.1) + 7 ≤ G; omega) (fP_s (fP_r (fP_r (fP_t (fP_t hf2 hf1.P) hr3.1) (by omega)) (by omega)) (by decide)) hQ
      · refine aw_iconst (v := nI 0) e_Mo_both_31 (by decide) ?_
        rw [if_neg h28] at hQ
        exact awB_0 e_Mo_both_32 h28 (hQ I3 ⟨fP_t (fP_t hf2 hf1.P) hr3.1, fun z => absurd z h28, hr3.2.2⟩)
theorem lv_Mo_both {l : Launch} {E : En} {L : Lt} {R : Rt} {Z : Zt} {t : TB} {key K la : Nat} (hS : Sta R) {F : Nat} (hall : ∀ G, G < F → CMd l E L R Z t key K la M_Mo_test (1 + 1) G) : CMd l E L R Z t key K la M_Mo_both 1 F := by
  intro o i x I D Q ho hi hD hTS hX hms hQ
  obtain ⟨D, rfl⟩ : ∃ D2, D = D2 + 4 := ⟨D - 4, by omega⟩
  have hT96 := hTS.1.2.1
  have hx1 := hX.1.1
  have hx2 := hX.1.2.1
  obtain ⟨F, rfl⟩ : ∃ F2, F = F2 + 1 := ⟨F - 1, by omega⟩
  rw [rd_lv (by decide)] at hQ
  refine AMet.of mf_Mo_both rfl (Nat.le_of_ble_eq_true rfl) ?_
  refine aw_aload_n e_Mo_both_0 rfl ?_
  refine aw_iload_n e_Mo_both_1 rfl ?_
  refine aw_cV1 e_Mo_both_2 ml_Mo_283 mf_Mo_test mv_Mo_test (hall F (by omega) o i x _ _ _ ho hi (by omega) hTS hX (by omega) (fun I2 hr2 => ?_))
  refine awB_ne e_Mo_both_5 (fun h5 => ?_) (fun h5 => ?_)
  · have hT2 := hr2.2.1 h5
    have hX2 := XI_rd (by decide) hX h5
    rw [if_pos h5] at hQ
    exact lp_Mo_both (D := D) hS ho hi F (fun G2 hG2 => hall G2 (by omega)) (by omega) (rd t key F (1 + 1) o i x).2 I I2 Q hT2 hX2.1 (by omega) hr2.1 hQ
  · refine aw_iconst (v := nI 0) e_Mo_both_8 (by decide) ?_
    rw [if_neg h5] at hQ
    exact awB_0 e_Mo_both_9 h5 (hQ I2 ⟨hr2.1, fun z => absurd z h5, hr2.2.2⟩)
theorem lp_Mo_either {l : Launch} {E : En} {L : Lt} {R : Rt} {Z : Zt} {t : TB} {key K la : Nat} (hS : Sta R) {o i D : Nat} (ho : o ≤ 8) (hi : i ≤ 8) : ∀ G, (∀ G2, G2 < G → CMd l E L R Z t key K la M_Mo_both (0 + 1) G2) → G ≤ D → ∀ (x : Xs) (I I2 : It) (Q : Qt), MTS I2 t la o i x → XI t x → 7 * (t.1 - x.1.1) + 7 ≤ G → fP la I I2 → (∀ I3, MRS t la o i I I3 (rd t key G (0 + 10) o i x) → Q (some (vi (bI ((rd t key G (0 + 10) o i x).1 = true)))) I3 L R Z) → AWq l E (D + 4) M_Mo_either Z 10 [some (vr 9 0), some (vi (nI K))] [] I2 L R Z Q := by
  intro G
  induction G with
  | zero => intro _ _ x I I2 Q _ _ h; exact absurd h (by omega)
  | succ G ih =>
    intro hall hD x I I2 Q hTS hX hms hf2 hQ
    have hT96 := hTS.1.2.1
    have hx1 := hX.1.1
    have hx2 := hX.1.2.1
    rw [rd_lp] at hQ
    refine aw_aload_n e_Mo_either_10 rfl ?_
    refine aw_bipush (v := nI 124) e_Mo_either_11 (by decide) ?_
    refine aw_cV1 e_Mo_either_13 ml_Mo_277 mf_Mo_isSign mv_Mo_isSign (c_Mo_isSign hS hTS.1 hTS.2.1 hX.1 (by decide) ?_)
    refine awB_eq e_Mo_either_16 (fun h16 => ?_) (fun h16 => ?_)
    · refine aw_iconst (v := nI 1) e_Mo_either_43 (by decide) ?_
      have hnj : ¬ jnB t 0 x.1 = true := by
        show ¬ (sgn t x.1 124) = true
        rw [Bool.eq_false_iff.2 h16]
        decide
      rw [if_neg hnj] at hQ
      exact awB_1 e_Mo_either_44 rfl (hQ I2 ⟨hf2, fun _ => hTS, fun z => absurd (show true = true from rfl) z⟩)
    · have hj : jnB t 0 x.1 = true := by
        show (sgn t x.1 124) = true
        first
          | exact h16
      have hjs := jn_sg hj
      have hjl : lttr t x.1 < 128 := by omega
      rw [if_pos hj] at hQ
      have hX1 := XI_nx hX (by rw [hjs.1]; decide)
      have hlet := MW.sg hTS.1 hTS.2.1 hX.1 hjs.1 hjl hjs.2.2
      have hlv := sg_l (c := 124) (by decide) h16
      refine aw_aload_n e_Mo_either_19 rfl ?_
      refine aw_cV0 e_Mo_either_20 ml_Mo_265 mf_Mo_next mv_Mo_next (c_Mo_next (x := x.1) (tk := tok x.1) hS hTS.1 hTS.2.1.2.1 hTS.2.1.2.2.1 (tok_le hX.1.2.2.1) (gl_3 hX.1 hjs.1) hX.1.2.1 (fun I1 hl1 hf1 => ?_))
      refine aw_aload_n e_Mo_either_23 rfl ?_
      refine aw_iload_n e_Mo_either_24 rfl ?_
      refine aw_cV1 e_Mo_either_25 ml_Mo_274 mf_Mo_both mv_Mo_both (hall G (by omega) o i (nxX t x) _ _ _ ho hi (by omega) (hTS.nx hl1 hf1) hX1.1 (by omega) (fun I3 hr3 => ?_))
      refine awB_ne e_Mo_either_28 (fun h28 => ?_) (fun h28 => ?_)
      · have hT3 := hr3.2.1 h28
        have hX3 := XI_rd (by decide) hX1.1 h28
        have hX3l : (rd t key G (0 + 1) o i (nxX t x)).2.2.1.length + (nxX t x).1.1 ≤ x.2.1.length + (rd t key G (0 + 1) o i (nxX t x)).2.1.1 := hX3.2.2.2
        have hX0 := hX.2
        have hla := hTS.2.2.1.2
        rw [if_pos h28] at hQ
        rw [if_neg (by decide)] at hQ
        refine aw_aload_n e_Mo_either_33 rfl ?_
        refine aw_iconst (v := nI 2) e_Mo_either_34 (by decide) ?_
        refine aw_bipush (v := nI 124) e_Mo_either_35 (by decide) ?_
        refine aw_cV2 e_Mo_either_37 ml_Mo_280 mf_Mo_step mv_Mo_step (c_Mo_step (k := (rd t key G (0 + 1) o i (nxX t x)).2.2.1.length) (la := la) hS hT3.2.2.2.1.1 hT3.2.2.1.1 (by omega) ?_)
        refine aw_goto e_Mo_either_40 ?_
        rw [← hlv]
        exact ih (fun G2 hG2 => hall G2 (by omega)) (by omega) _ I _ Q (hT3.put (q := (2, lttr t x.1))) (show XI t (ptX (rd t key G (0 + 1) o i (nxX t x)).2 (2, lttr t x.1)) from ⟨hX3.1.1, by show ((rd t key G (0 + 1) o i (nxX t x)).2.2.1 ++ [(2, lttr t x.1)]).length ≤ (rd t key G (0 + 1) o i (nxX t x)).2.1.1; rw [List.length_append]; show (rd t key G (0 + 1) o i (nxX t x)).2.2.1.length + 1 ≤ _; omega⟩) (by show 7 * (t.1 - (rd t key G (0 + 1) o i (nxX t x)).2.1.1) + 7 ≤ G; omega) (fP_s (fP_r (fP_r (fP_t (fP_t hf2 hf1.P) hr3.1) (by omega)) (by omega)) (by decide)) hQ
      · refine aw_iconst (v := nI 0) e_Mo_either_31 (by decide) ?_
        rw [if_neg h28] at hQ
        exact awB_0 e_Mo_either_32 h28 (hQ I3 ⟨fP_t (fP_t hf2 hf1.P) hr3.1, fun z => absurd z h28, hr3.2.2⟩)
theorem lv_Mo_either {l : Launch} {E : En} {L : Lt} {R : Rt} {Z : Zt} {t : TB} {key K la : Nat} (hS : Sta R) {F : Nat} (hall : ∀ G, G < F → CMd l E L R Z t key K la M_Mo_both (0 + 1) G) : CMd l E L R Z t key K la M_Mo_either 0 F := by
  intro o i x I D Q ho hi hD hTS hX hms hQ
  obtain ⟨D, rfl⟩ : ∃ D2, D = D2 + 4 := ⟨D - 4, by omega⟩
  have hT96 := hTS.1.2.1
  have hx1 := hX.1.1
  have hx2 := hX.1.2.1
  obtain ⟨F, rfl⟩ : ∃ F2, F = F2 + 1 := ⟨F - 1, by omega⟩
  rw [rd_lv (by decide)] at hQ
  refine AMet.of mf_Mo_either rfl (Nat.le_of_ble_eq_true rfl) ?_
  refine aw_aload_n e_Mo_either_0 rfl ?_
  refine aw_iload_n e_Mo_either_1 rfl ?_
  refine aw_cV1 e_Mo_either_2 ml_Mo_274 mf_Mo_both mv_Mo_both (hall F (by omega) o i x _ _ _ ho hi (by omega) hTS hX (by omega) (fun I2 hr2 => ?_))
  refine awB_ne e_Mo_either_5 (fun h5 => ?_) (fun h5 => ?_)
  · have hT2 := hr2.2.1 h5
    have hX2 := XI_rd (by decide) hX h5
    rw [if_pos h5] at hQ
    exact lp_Mo_either (D := D) hS ho hi F (fun G2 hG2 => hall G2 (by omega)) (by omega) (rd t key F (0 + 1) o i x).2 I I2 Q hT2 hX2.1 (by omega) hr2.1 hQ
  · refine aw_iconst (v := nI 0) e_Mo_either_8 (by decide) ?_
    rw [if_neg h5] at hQ
    exact awB_0 e_Mo_either_9 h5 (hQ I2 ⟨hr2.1, fun z => absurd z h5, hr2.2.2⟩)
