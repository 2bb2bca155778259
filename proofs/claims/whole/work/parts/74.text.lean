/-! ===== text, feed ===== -/
def addT (V : Mc) (v : TV) : Mc := (nP V, nB V, nX V + 1, nS V, V.2.2.2.2.1, V.2.2.2.2.2.1, V.2.2.2.2.2.2.1, fun j => if j = nX V then v else tX V j)
theorem WS_addT {V : Mc} {v : TV} (h : WS V) (hv : WFT v) (hn : nX V < 14) : WS (addT V v) := by
  obtain ⟨⟨h1, h2, h3, h4⟩, h5, h6⟩ := h
  refine ⟨⟨⟨h1.1, h1.2.1, hn, h1.2.2.2⟩, h2, h3, fun j hj => ?_⟩, h5, h6⟩
  show WFT (if j = nX V then v else tX V j)
  have hj2 : j < nX V + 1 := hj
  by_cases e : j = nX V
  · rw [if_pos e]; exact hv
  · rw [if_neg e]; exact h4 j (by omega)
theorem WS_follow {V : Mc} (h : WS V) (p : Nat) : WS (follow V p) := ⟨WF_follow h.1 p, by rw [fol_S]; exact h.2.1, fun q hq => by rw [fol_P (by decide), fol_P (by decide)]; exact h.2.2 q (by rw [← (follow_n V p).1]; exact hq)⟩
def tx0 (S : AS) : AS := (sM S, sG S, sK S, (0, (sT S).2), S.2.2.2.2)
def txV (S : AS) : Mc := if pk (sT S) = 0 then follow (addT (sM S) (pV (sT S))) (nW (sT S)) else addT (sM S) (pV (sT S))
noncomputable def op_text (S : AS) : AS × Int32 := @ite _ (pG (sT S)) (Classical.propDecidable _) (if nX (sM S) < 14 then (setM (tx0 S) (txV S), nI (nX (sM S))) else (tx0 S, -1000000003)) (tx0 S, (-100) - nI (pPl (sT S)))
theorem op_text_n {S : AS} (h : ¬ pG (sT S)) : op_text S = (tx0 S, (-100) - nI (pPl (sT S))) := by unfold op_text; exact if_neg h
theorem op_text_f {S : AS} (h : pG (sT S)) (h2 : ¬ nX (sM S) < 14) : op_text S = (tx0 S, -1000000003) := by unfold op_text; rw [if_pos h, if_neg h2]
theorem op_text_y {S : AS} (h : pG (sT S)) (h2 : nX (sM S) < 14) : op_text S = (setM (tx0 S) (txV S), nI (nX (sM S))) := by unfold op_text; rw [if_pos h, if_pos h2]
/-- machines stay when a text is made -/
theorem CM.grow {I I2 : It} {R R2 : Rt} {Z Z2 : Zt} {k xn : Nat} {V : Mc} (h : CM I R Z k V) (hW : WF V) (hx : ∀ j x, R 13 k j = some (7, x) → x < xn) (hI : ∀ t i, own k t i → I2 t i = I t i) (h7 : ∀ x, x < xn → I2 7 x = I 7 x ∧ I2 27 x = I 27 x) (h13 : ∀ j, j < nX V → R2 13 k j = R 13 k j) (hR : ∀ x, x < xn → R2 7 x = R 7 x) (hZ : ∀ x, x < xn → Z2.1 x = Z.1 x) : CM I2 R2 Z2 k V := by
  obtain ⟨c1, c2, c3, c4, c5⟩ := h
  have hp := hW.1.1
  refine ⟨by rw [hI 2 k (by unfold own; omega)]; exact c1, fun p f hpp hf => by rw [hI 3 _ (by unfold own; omega)]; exact c2 p f hpp hf, fun b hb => by rw [hI 11 k (by unfold own; omega)]; exact c3 b hb, fun b hb => by rw [hI 12 k (by unfold own; omega)]; exact c4 b hb, fun j hj => ?_⟩
  obtain ⟨x, hx1, ho⟩ := c5 j hj
  have hlt := hx j x hx1
  exact ⟨x, (h13 j hj).trans hx1, ho.keep (h7 x hlt) (hR x hlt) (hZ x hlt)⟩
theorem CM_addT {I : It} {R : Rt} {Z : Zt} {V : Mc} {xn : Nat} {v : TV} (h : CM I R Z 0 V) (hW : WF V) (hv : TXo I R Z xn v) : CM (sI I 2 0 6 (nI (nX V + 1))) (sR R 13 0 (nX V) (some (7, xn))) Z 0 (addT V v) := by
  obtain ⟨c1, c2, c3, c4, c5⟩ := h
  have hp := hW.1.1
  refine ⟨⟨by rw [sI_ne (by decide)]; exact c1.1, by rw [sI_ne (by decide)]; exact c1.2.1, sI_eq _ _ _ _ _, by rw [sI_ne (by decide)]; exact c1.2.2.2⟩, fun p f hpp hf => by rw [sI_n (by omega)]; exact c2 p f hpp hf, fun b hb => by rw [sI_n (by omega)]; exact c3 b hb, fun b hb => by rw [sI_n (by omega)]; exact c4 b hb, fun j hj => ?_⟩
  have hj2 : j < nX V + 1 := hj
  show ∃ x, _ ∧ TXo _ _ Z x (if j = nX V then v else tX V j)
  by_cases e : j = nX V
  · rw [if_pos e]
    exact ⟨xn, by rw [e, sR_s]; exact up_s _ _ _, hv.keep ⟨by rw [sI_n (by omega)], by rw [sI_n (by omega)]⟩ (by rw [sR_n (by omega)]) rfl⟩
  · rw [if_neg e]
    obtain ⟨x, hx, ho⟩ := c5 j (by omega)
    exact ⟨x, by rw [sR_s]; exact (up_n e).trans hx, ho.keep ⟨by rw [sI_n (by omega)], by rw [sI_n (by omega)]⟩ (by rw [sR_n (by omega)]) rfl⟩
theorem CO.grow {I I2 : It} {R R2 : Rt} {Z Z2 : Zt} {S : AS} {xn : Nat} (h : CO I R Z S) (hx : ∀ j x, R 13 1 j = some (7, x) → x < xn) (hI : ∀ t i, t ≠ 6 → t ≠ 21 → t ≠ 22 → ¬ own 0 t i → ¬ ((t = 7 ∨ t = 27) ∧ i = xn) → I2 t i = I t i) (h60 : I2 6 0 0 = nI 0) (h13 : R2 13 1 = R 13 1) (hR : ∀ x, x < xn → R2 7 x = R 7 x) (h16 : R2 16 = R 16) (hZ : ∀ x, x < xn → Z2.1 x = Z.1 x) : CO I2 R2 Z2 (tx0 S) := by
  obtain ⟨h1, h2, h3, h4, h5, h6, ⟨ρ0, h7⟩, ⟨ρ1, h8⟩⟩ := h
  have e8 : I2 8 0 = I 8 0 := hI 8 0 (by omega) (by omega) (by omega) (by unfold own; omega) (by omega)
  refine ⟨fun z => ⟨(h1 z).1.grow (h1 z).2.1 hx (fun t i hti => hI t i (by unfold own at hti; omega) (by unfold own at hti; omega) (by unfold own at hti; omega) (by unfold own at *; omega) (by unfold own at hti; omega)) (fun x hxx => ⟨hI 7 x (by omega) (by omega) (by omega) (by unfold own; omega) (by omega), hI 27 x (by omega) (by omega) (by omega) (by unfold own; omega) (by omega)⟩) (fun j _ => by rw [h13]) hR hZ, (h1 z).2⟩, by rw [e8]; exact h2, ⟨h60, Nat.zero_le _, fun j hj => absurd hj (Nat.not_lt_zero j)⟩, fun i hi => (h4 i hi).keep (hI 4 i (by omega) (by omega) (by omega) (by unfold own; omega) (by omega)) (hI 26 i (by omega) (by omega) (by omega) (by unfold own; omega) (by omega)), fun i hi => (h5 i hi).keep (hI 5 i (by omega) (by omega) (by omega) (by unfold own; omega) (by omega)) (hI 3 (36 + i) (by omega) (by omega) (by omega) (by unfold own; omega) (by omega)) (hI 4 _ (by omega) (by omega) (by omega) (by unfold own; omega) (by omega)) (hI 26 _ (by omega) (by omega) (by omega) (by unfold own; omega) (by omega)), by rw [e8, hI 23 0 (by omega) (by omega) (by omega) (by unfold own; omega) (by omega)]; exact h6, ⟨ρ0, ?_⟩, ⟨ρ1, ?_⟩⟩
  · unfold RG at *; rw [h16]; exact h7
  · unfold RG at *; rw [h16]; exact h8
theorem c_Pb_text {l : Launch} {E : En} {d : Nat} {I : It} {L : Lt} {R : Rt} {Z : Zt} {Q : Qt} {S : AS} (hCS : CS I R Z S) {xn : Nat} (hZ : Z.2.1 = 168 + 2 * xn) (hcl : ∀ k j x, k < 3 → R 13 k j = some (7, x) → x < xn) (hI7 : ∀ f, I 7 xn f = 0) (hR7 : ∀ f, R 7 xn f = none) (hI27 : ∀ f, I 27 xn f = 0) (hL27 : ∀ f, L 27 xn f = 0) (hR27 : ∀ f, R 27 xn f = none) (hQ : ∀ I2 L2 R2 Z2, CS I2 R2 Z2 (op_text S).1 → KM I L R I2 L2 R2 → (Z2 = Z ∨ (Z2.2.1 = Z.2.1 + 2 ∧ Z2.2.2 ≤ Z.2.2 + 100)) → Q (some (vi (op_text S).2)) I2 L2 R2 Z2) : AMet l E (d + 1411) M_Pb_text [vr 8 0] I L R Z Q := by
  have hS := hCS.1
  have hC := hCS.2.1
  have hW := hCS.2.2.1.1
  have hWn := hW.1
  have hTt := hCS.2.2.2.2.2.1
  have hT96 := hTt.2.1
  refine AMet.of mf_Pb_text rfl (Nat.le_of_ble_eq_true rfl) ?_
  refine aw_aload_n e_Pb_text_0 rfl ?_
  refine aw_getR e_Pb_text_1 fl_Pb_42 (hS.1 _ _ _ _ rfl) ?_
  refine aw_cV0 e_Pb_text_4 ml_Pb_198 mf_Ta_parse mv_Ta_parse (c_Ta_parse (t := sT S) (xn := xn) hS hTt hZ hI7 hR7 hI27 hL27 hR27 (fun hng I2 hf2 hpl => ?_) (fun hgd I2 hf2 h60 hTX => ?_))
  · refine aw_astoreN (j := 1) e_Pb_text_7 (by decide) (fun q hq => by have h0 : q = 0 := Nat.succ.inj (show q + 1 = 0 + 1 from hq); rw [h0]; rfl) ?_
    refine aw_aload_n e_Pb_text_8 rfl ?_
    refine aw_getR e_Pb_text_9 fl_Pb_42 (hS.1 _ _ _ _ rfl) ?_
    refine aw_iconst (v := nI 0) e_Pb_text_12 (by decide) ?_
    refine aw_putI e_Pb_text_13 fl_Pb_192 ?_
    refine aw_aloadN e_Pb_text_16 rfl ?_
    refine aw_ifnnN e_Pb_text_17 ?_
    refine aw_bipush (v := -100) e_Pb_text_20 (by decide) ?_
    refine aw_aload_n e_Pb_text_22 rfl ?_
    refine aw_getR e_Pb_text_23 fl_Pb_42 (hS.1 _ _ _ _ rfl) ?_
    refine aw_getE e_Pb_text_26 fl_Pb_202 ((sI_ne (by decide)).trans hpl) ?_
    refine aw_isub e_Pb_text_29 ?_
    have hcs : CS (sI I2 6 0 0 (nI 0)) R Z (tx0 S) := ⟨hS, hC.keep hW (fun t i hti => by rw [sI_n (by unfold own at hti; omega)]; exact hf2 t i (by unfold own at hti; omega)) (fun _ _ _ => rfl), hCS.2.2.1, hCS.2.2.2.grow (xn := xn) (fun j x h => hcl 1 j x (by decide) h) (fun t i a b _ _ _ => by rw [sI_n (by omega)]; exact hf2 t i (by omega)) (sI_eq _ _ _ _ _) rfl (fun _ _ => rfl) rfl (fun _ _ => rfl)⟩
    have hq := hQ (sI I2 6 0 0 (nI 0)) L R Z
    rw [op_text_n hng] at hq
    exact aw_iret e_Pb_text_30 rfl rfl (hq hcs (fun t i ht => ⟨by rw [sI_n (by omega)]; exact hf2 t i (by omega), rfl, rfl⟩) (Or.inl rfl))
  · have hS2y : Sta (sR R 7 xn 3 (some (27, xn))) := hS.keep (fun t i _ _ h7 => sR_n (by omega))
    refine aw_ast1 e_Pb_text_7 ?_
    refine aw_aload_n e_Pb_text_8 rfl ?_
    refine aw_getR e_Pb_text_9 fl_Pb_42 (hS2y.1 _ _ _ _ rfl) ?_
    refine aw_iconst (v := nI 0) e_Pb_text_12 (by decide) ?_
    refine aw_putI e_Pb_text_13 fl_Pb_192 ?_
    refine aw_aload_n e_Pb_text_16 rfl ?_
    refine aw_ifnn e_Pb_text_17 ?_
    have hZn : ∀ x, x < xn → (fun y => if y = xn then (pR (sT S)).2.2.1.length else Z.1 y, Z.2.1 + 1 + 1, Z.2.2 + 4 + (pR (sT S)).2.2.1.length).1 x = Z.1 x := fun x hx => if_neg (by omega)
    have hR7n : ∀ x, x < xn → (sR R 7 xn 3 (some (27, xn))) 7 x = R 7 x := fun x hx => sR_n (by omega)
    have hlen : (pR (sT S)).2.2.1.length ≤ 90 := (WFT_p hT96 hgd).2.2.2.1
    have hS2 : Sta (sR R 7 xn 3 (some (27, xn))) := hS.keep (fun t i _ _ h7 => sR_n (by omega))
    generalize hI3 : sI I2 6 0 0 (nI 0) = I3
    have h3 : ∀ t i, ¬ (t = 6 ∨ t = 21 ∨ ((t = 7 ∨ t = 27) ∧ i = xn)) → I3 t i = I t i := fun t i hti => by rw [← hI3, sI_n (by omega)]; exact hf2 t i (by omega) (by omega)
    have hC3 : CM I3 (sR R 7 xn 3 (some (27, xn))) (fun y => if y = xn then (pR (sT S)).2.2.1.length else Z.1 y, Z.2.1 + 1 + 1, Z.2.2 + 4 + (pR (sT S)).2.2.1.length) 0 (sM S) := hC.grow hW (fun j x h => hcl 0 j x (by decide) h) (fun t i hti => h3 t i (by unfold own at hti; omega)) (fun x hx => ⟨h3 7 x (by omega), h3 27 x (by omega)⟩) (fun j _ => by rw [sR_n (by omega)]) hR7n hZn
    have hTX3 : TXo I3 (sR R 7 xn 3 (some (27, xn))) (fun y => if y = xn then (pR (sT S)).2.2.1.length else Z.1 y, Z.2.1 + 1 + 1, Z.2.2 + 4 + (pR (sT S)).2.2.1.length) xn (pV (sT S)) := hTX.keep ⟨by rw [← hI3, sI_n (by omega)], by rw [← hI3, sI_n (by omega)]⟩ rfl rfl
    have h360 : I3 6 0 0 = nI 0 := by rw [← hI3, sI_eq]
    refine aw_aload_n e_Pb_text_31 rfl ?_
    refine aw_getR e_Pb_text_32 fl_Pb_10 (hS2.1 _ _ _ _ rfl) ?_
    refine aw_getE e_Pb_text_35 fl_Pb_205 hC3.1.2.2.1 ?_
    refine aw_bipush (v := nI 14) e_Pb_text_38 (by decide) ?_
    refine awN_icmp_lt e_Pb_text_40 (by omega) (by omega) (fun h40 => ?_) (fun h40 => ?_)
    · refine aw_aload_n e_Pb_text_46 rfl ?_
      refine aw_getR e_Pb_text_47 fl_Pb_10 (hS2.1 _ _ _ _ rfl) ?_
      refine aw_getR e_Pb_text_50 fl_Pb_208 (hS2.1 _ _ _ _ rfl) ?_
      refine aw_aload_n e_Pb_text_53 rfl ?_
      refine aw_getR e_Pb_text_54 fl_Pb_10 (hS2.1 _ _ _ _ rfl) ?_
      refine aw_getE e_Pb_text_57 fl_Pb_205 hC3.1.2.2.1 ?_
      refine aw_aload_n e_Pb_text_60 rfl ?_
      refine aw_aast e_Pb_text_61 rfl (show _ < 14 by omega) (by omega) ?_
      have hS3 : Sta (sR (sR R 7 xn 3 (some (27, xn))) 13 0 (nX (sM S)) (some (7, xn))) := hS2.keep (fun t i h13 _ _ => sR_n (fun z => h13 z.1))
      have hC4 : CM (sI I3 2 0 6 (nI (nX (sM S) + 1))) (sR (sR R 7 xn 3 (some (27, xn))) 13 0 (nX (sM S)) (some (7, xn))) (fun y => if y = xn then (pR (sT S)).2.2.1.length else Z.1 y, Z.2.1 + 1 + 1, Z.2.2 + 4 + (pR (sT S)).2.2.1.length) 0 (addT (sM S) (pV (sT S))) := CM_addT hC3 hW hTX3
      have hW4 : WS (addT (sM S) (pV (sT S))) := WS_addT hCS.2.2.1 (WFT_p hT96 hgd) h40
      have hnw : nW (sT S) < 12 := hgd.2.1.2
      have hpkl := pK_lt (sT S)
      refine aw_aload_n e_Pb_text_62 rfl ?_
      refine aw_getR e_Pb_text_63 fl_Pb_10 (hS3.1 _ _ _ _ rfl) ?_
      refine aw_dup e_Pb_text_66 rfl ?_
      refine aw_getE e_Pb_text_67 fl_Pb_205 hC3.1.2.2.1 ?_
      refine aw_iconst (v := nI 1) e_Pb_text_70 (by decide) ?_
      first | refine awN_iadd e_Pb_text_71 ?_ | refine aw_iadd e_Pb_text_71 ?_
      refine aw_putI e_Pb_text_72 fl_Pb_205 ?_
      by_cases hpk : pk (sT S) = 0
      · have htv : txV S = follow (addT (sM S) (pV (sT S))) (nW (sT S)) := if_pos hpk
        have hW5 : WS (txV S) := by rw [htv]; exact WS_follow hW4 _
        refine aw_aload_n e_Pb_text_75 rfl ?_
        refine aw_getE e_Pb_text_76 fl_Pb_212 (show _ = nI (pk (sT S)) from (sI_n2 (by omega)).trans hTX3.1) ?_
        refine awN_if_ne e_Pb_text_79 (by omega) (fun h79 => ?_) (fun h79 => ?_)
        · exact absurd hpk h79
        · refine aw_aload_n e_Pb_text_82 rfl ?_
          refine aw_getR e_Pb_text_83 fl_Pb_10 (hS3.1 _ _ _ _ rfl) ?_
          refine aw_aload_n e_Pb_text_86 rfl ?_
          refine aw_getE e_Pb_text_87 fl_Pb_217 (show _ = nI (nW (sT S)) from (sI_n2 (by omega)).trans hTX3.2.1) ?_
          refine aw_aload_n e_Pb_text_90 rfl ?_
          refine aw_getR e_Pb_text_91 fl_Pb_46 (hS3.1 _ _ _ _ rfl) ?_
          refine aw_cV2 e_Pb_text_94 ml_Pb_220 mf_Ma_followText mv_Ma_followText (c_Ma_followText hS3 (by decide) hC4 hW4.1 hnw (fun I5 hC5f hf5 => ?_))
          have h5 : ∀ t i, ¬ own 0 t i → t ≠ 22 → I5 t i = I3 t i := fun t i h1 h2 => (hf5 t i h1 (fun z => h2 z.1)).trans (sI_n (by unfold own at h1; omega))
          have hC5 : CM I5 (sR (sR R 7 xn 3 (some (27, xn))) 13 0 (nX (sM S)) (some (7, xn))) (fun y => if y = xn then (pR (sT S)).2.2.1.length else Z.1 y, Z.2.1 + 1 + 1, Z.2.2 + 4 + (pR (sT S)).2.2.1.length) 0 (txV S) := by rw [htv]; exact hC5f
          have hnx5 : I5 2 0 6 = nI (nX (sM S) + 1) := by have q := hC5.1.2.2.1; rw [htv, (follow_n _ _).2.2] at q; exact q
          refine aw_aload_n e_Pb_text_97 rfl ?_
          refine aw_getR e_Pb_text_98 fl_Pb_10 (hS3.1 _ _ _ _ rfl) ?_
          refine aw_getE e_Pb_text_101 fl_Pb_205 (show _ = nI (nX (sM S) + 1) from hnx5) ?_
          refine aw_iconst (v := nI 1) e_Pb_text_104 (by decide) ?_
          refine awN_isub e_Pb_text_105 (by omega) ?_
          rw [Nat.add_sub_cancel]
          have hcs : CS I5 (sR (sR R 7 xn 3 (some (27, xn))) 13 0 (nX (sM S)) (some (7, xn))) (fun y => if y = xn then (pR (sT S)).2.2.1.length else Z.1 y, Z.2.1 + 1 + 1, Z.2.2 + 4 + (pR (sT S)).2.2.1.length) (setM (tx0 S) (txV S)) := ⟨hS3, hC5, hW5, (hCS.2.2.2.grow (xn := xn) (fun j x h => hcl 1 j x (by decide) h) (fun t i a b c d e => (h5 t i d c).trans (h3 t i (by omega))) ((congrFun (h5 6 0 (by unfold own; omega) (by omega)) 0).trans h360) (by rw [sR_n (by omega), sR_n (by omega)]) (fun x hx => by rw [sR_n (by omega)]; exact hR7n x hx) (by funext i; rw [sR_n (by omega), sR_n (by omega)]) hZn : CO I5 (sR (sR R 7 xn 3 (some (27, xn))) 13 0 (nX (sM S)) (some (7, xn))) (fun y => if y = xn then (pR (sT S)).2.2.1.length else Z.1 y, Z.2.1 + 1 + 1, Z.2.2 + 4 + (pR (sT S)).2.2.1.length) (tx0 S))⟩
          have hq := hQ I5 L (sR (sR R 7 xn 3 (some (27, xn))) 13 0 (nX (sM S)) (some (7, xn))) (fun y => if y = xn then (pR (sT S)).2.2.1.length else Z.1 y, Z.2.1 + 1 + 1, Z.2.2 + 4 + (pR (sT S)).2.2.1.length)
          rw [op_text_y hgd h40] at hq
          exact aw_iret e_Pb_text_106 rfl rfl (hq hcs (fun t i ht => ⟨(h5 t i (by unfold own; omega) (by omega)).trans (h3 t i (by omega)), rfl, by rw [sR_n (by omega), sR_n (by omega)]⟩) (Or.inr ⟨rfl, by show Z.2.2 + 4 + _ ≤ _; omega⟩))
      · have htv : txV S = addT (sM S) (pV (sT S)) := if_neg hpk
        have hW5 : WS (txV S) := by rw [htv]; exact hW4
        refine aw_aload_n e_Pb_text_75 rfl ?_
        refine aw_getE e_Pb_text_76 fl_Pb_212 (show _ = nI (pk (sT S)) from (sI_n2 (by omega)).trans hTX3.1) ?_
        refine awN_if_ne e_Pb_text_79 (by omega) (fun h79 => ?_) (fun h79 => ?_)
        · generalize hI5 : (sI I3 2 0 6 (nI (nX (sM S) + 1))) = I5
          have h5 : ∀ t i, ¬ own 0 t i → t ≠ 22 → I5 t i = I3 t i := fun t i h1 h2 => by rw [← hI5]; exact sI_n (by unfold own at h1; omega)
          have hC5 : CM I5 (sR (sR R 7 xn 3 (some (27, xn))) 13 0 (nX (sM S)) (some (7, xn))) (fun y => if y = xn then (pR (sT S)).2.2.1.length else Z.1 y, Z.2.1 + 1 + 1, Z.2.2 + 4 + (pR (sT S)).2.2.1.length) 0 (txV S) := by rw [htv, ← hI5]; exact hC4
          have hnx5 : I5 2 0 6 = nI (nX (sM S) + 1) := by rw [← hI5, sI_eq]
          refine aw_aload_n e_Pb_text_97 rfl ?_
          refine aw_getR e_Pb_text_98 fl_Pb_10 (hS3.1 _ _ _ _ rfl) ?_
          refine aw_getE e_Pb_text_101 fl_Pb_205 (show _ = nI (nX (sM S) + 1) from hnx5) ?_
          refine aw_iconst (v := nI 1) e_Pb_text_104 (by decide) ?_
          refine awN_isub e_Pb_text_105 (by omega) ?_
          rw [Nat.add_sub_cancel]
          have hcs : CS I5 (sR (sR R 7 xn 3 (some (27, xn))) 13 0 (nX (sM S)) (some (7, xn))) (fun y => if y = xn then (pR (sT S)).2.2.1.length else Z.1 y, Z.2.1 + 1 + 1, Z.2.2 + 4 + (pR (sT S)).2.2.1.length) (setM (tx0 S) (txV S)) := ⟨hS3, hC5, hW5, (hCS.2.2.2.grow (xn := xn) (fun j x h => hcl 1 j x (by decide) h) (fun t i a b c d e => (h5 t i d c).trans (h3 t i (by omega))) ((congrFun (h5 6 0 (by unfold own; omega) (by omega)) 0).trans h360) (by rw [sR_n (by omega), sR_n (by omega)]) (fun x hx => by rw [sR_n (by omega)]; exact hR7n x hx) (by funext i; rw [sR_n (by omega), sR_n (by omega)]) hZn : CO I5 (sR (sR R 7 xn 3 (some (27, xn))) 13 0 (nX (sM S)) (some (7, xn))) (fun y => if y = xn then (pR (sT S)).2.2.1.length else Z.1 y, Z.2.1 + 1 + 1, Z.2.2 + 4 + (pR (sT S)).2.2.1.length) (tx0 S))⟩
          have hq := hQ I5 L (sR (sR R 7 xn 3 (some (27, xn))) 13 0 (nX (sM S)) (some (7, xn))) (fun y => if y = xn then (pR (sT S)).2.2.1.length else Z.1 y, Z.2.1 + 1 + 1, Z.2.2 + 4 + (pR (sT S)).2.2.1.length)
          rw [op_text_y hgd h40] at hq
          exact aw_iret e_Pb_text_106 rfl rfl (hq hcs (fun t i ht => ⟨(h5 t i (by unfold own; omega) (by omega)).trans (h3 t i (by omega)), rfl, by rw [sR_n (by omega), sR_n (by omega)]⟩) (Or.inr ⟨rfl, by show Z.2.2 + 4 + _ ≤ _; omega⟩))
        · exact absurd h79 hpk
    · refine aw_ldc (v := -1000000003) e_Pb_text_43 kc_Pb_79 ?_
      have hcs : CS I3 (sR R 7 xn 3 (some (27, xn))) (fun y => if y = xn then (pR (sT S)).2.2.1.length else Z.1 y, Z.2.1 + 1 + 1, Z.2.2 + 4 + (pR (sT S)).2.2.1.length) (tx0 S) := ⟨hS2, hC3, hCS.2.2.1, hCS.2.2.2.grow (xn := xn) (fun j x h => hcl 1 j x (by decide) h) (fun t i a b _ _ e => h3 t i (by omega)) h360 (sR_n (by omega)) hR7n (by funext i; exact sR_n (by omega)) hZn⟩
      have hq := hQ I3 L (sR R 7 xn 3 (some (27, xn))) (fun y => if y = xn then (pR (sT S)).2.2.1.length else Z.1 y, Z.2.1 + 1 + 1, Z.2.2 + 4 + (pR (sT S)).2.2.1.length)
      rw [op_text_f hgd (by omega)] at hq
      exact aw_iret e_Pb_text_45 rfl rfl (hq hcs (fun t i ht => ⟨h3 t i (by omega), rfl, sR_n (by omega)⟩) (Or.inr ⟨rfl, by show Z.2.2 + 4 + _ ≤ _; omega⟩))
