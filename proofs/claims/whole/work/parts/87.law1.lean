/-! ===== the law ===== -/
section LAWR
variable {l : Launch} {E : En} {d : Nat} {M : Mt} {Z0 : Zt} {pc : Nat} {ls : List (Option AV)} {st : List AV} {I : It} {L : Lt} {R : Rt} {Z : Zt} {Q : Qt}
/-- the references held may be used -/
theorem aw_cl {r0 : Option AV} (hq : Q r0 I L R Z) (hk : (∀ t i k q, R t i k = some q → VD Z t i → vv Z (vr q.1 q.2)) → AWq l E d M Z0 pc ls st I L R Z Q) : AWq l E d M Z0 pc ls st I L R Z Q := by
  by_cases h : ∀ t i k q, R t i k = some q → VD Z t i → vv Z (vr q.1 q.2)
  · exact hk h
  · exact ⟨r0, I, L, R, Z, hq, ⟨Nat.le_refl _, Nat.le_refl _⟩, fun p e Rm s m args below meth c F h1 h2 h3 h4 als H locs hl v1 v2 hW hS => absurd hW.2.2 h⟩
theorem cellE_c {E : En} {I I2 : It} {L L2 : Lt} {R R2 : Rt} {Z : Zt} {t i : Nat} (hI : I2 t i = I t i) (hL : L2 t i = L t i) (hR : R2 t i = R t i) : cellE E I2 L2 R2 Z t i = cellE E I L R Z t i := by
  unfold cellE
  have hf : fV E I2 R2 t i = fV E I R t i := by
    funext k
    unfold fV
    rw [hI, hR]
  rw [hf, hI, hL, hR]
/-- cells not made may hold anything -/
theorem aw_fresh {I2 : It} {L2 : Lt} {R2 : Rt} (hI : ∀ t i, VD Z t i → I2 t i = I t i ∧ L2 t i = L t i ∧ R2 t i = R t i) (k : AWq l E d M Z0 pc ls st I2 L2 R2 Z Q) : AWq l E d M Z0 pc ls st I L R Z Q := by
  obtain ⟨r, I3, L3, R3, Z3, hq, hz, k⟩ := k
  refine ⟨r, I3, L3, R3, Z3, hq, hz, fun p e Rm s m args below meth c F h1 h2 h3 h4 als H locs hl v1 v2 hW hS => k p e Rm s m args below meth c F h1 h2 h3 h4 als H locs hl v1 v2 ⟨hW.1, fun j hj => ?_, fun t i f q hr hv => ?_⟩ hS⟩
  · have ha := adr_who j
    have hv : VD Z (who j).1 (who j).2 := ⟨ha.2, by rw [ha.1]; exact hj, by rw [ha.1]⟩
    have hh := hI _ _ hv
    rw [cellE_c hh.1 hh.2.1 hh.2.2]
    exact hW.2.1 j hj
  · rw [(hI t i hv).2.2] at hr
    exact hW.2.2 t i f q hr hv
end LAWR
theorem MSt.km {I I2 : It} {L L2 : Lt} {R R2 : Rt} {S : AS} (h : MSt I S) (hk : KM I L R I2 L2 R2) : MSt I2 S := by
  have e : ∀ t i, t = 9 ∨ (28 ≤ t ∧ t < 50) → I2 t i = I t i := fun t i ht => (hk t i ht).1
  obtain ⟨hC, m1, m2, m3, m4, m5, m6⟩ := h
  refine ⟨hC.keep (e 28 0 (by omega)), fun z => (m1 z).keep (e 28 1 (by omega)), by rw [e 9 0 (by omega)]; exact m2, by rw [e 9 0 (by omega), e 39 0 (by omega)]; exact m3, fun i hi => ?_, fun i hi => ?_, by rw [e 9 0 (by omega), e 45 0 (by omega)]; exact m6⟩
  · unfold MSh
    rw [e 29 0 (by omega), e 30 0 (by omega), e 31 0 (by omega)]
    exact m4 i hi
  · unfold MSl
    rw [e 32 0 (by omega), e 33 0 (by omega), e 34 0 (by omega), e 35 0 (by omega), e 36 0 (by omega)]
    exact m5 i hi
def zI (I : It) (xn : Nat) : It := fun t i f => if (t = 7 ∨ t = 27) ∧ i = xn then 0 else I t i f
def zL (L : Lt) (xn : Nat) : Lt := fun t i f => if (t = 7 ∨ t = 27) ∧ i = xn then 0 else L t i f
def zR (R : Rt) (xn : Nat) : Rt := fun t i f => if (t = 7 ∨ t = 27) ∧ i = xn then none else R t i f
theorem zI_n {I : It} {xn t i : Nat} (h : ¬ ((t = 7 ∨ t = 27) ∧ i = xn)) : zI I xn t i = I t i := by funext f; exact if_neg h
theorem zL_n {I : Lt} {xn t i : Nat} (h : ¬ ((t = 7 ∨ t = 27) ∧ i = xn)) : zL I xn t i = I t i := by funext f; exact if_neg h
theorem zR_n {I : Rt} {xn t i : Nat} (h : ¬ ((t = 7 ∨ t = 27) ∧ i = xn)) : zR I xn t i = I t i := by funext f; exact if_neg h
theorem CS_z {I : It} {R : Rt} {Z : Zt} {S : AS} {xn : Nat} (h : CS I R Z S) (hx : ∀ k j x, k < 3 → R 13 k j = some (7, x) → x < xn) : CS (zI I xn) (zR R xn) Z S := by
  obtain ⟨h1, h2, h3, h4, h5, h6, h7, h8, h9, ⟨ρ0, h10⟩, ⟨ρ1, h11⟩⟩ := h
  have e : ∀ t i, t ≠ 7 → t ≠ 27 → zI I xn t i = I t i := fun t i a b => zI_n (by omega)
  have r : ∀ t i, t ≠ 7 → t ≠ 27 → zR R xn t i = R t i := fun t i a b => zR_n (by omega)
  have hg : ∀ k V, k < 3 → WF V → CM I R Z k V → CM (zI I xn) (zR R xn) Z k V := fun k V hk hW hC => hC.grow hW (fun j x => hx k j x hk) (fun t i hti => e t i (by unfold own at hti; omega) (by unfold own at hti; omega)) (fun x hxx => ⟨zI_n (by omega), zI_n (by omega)⟩) (fun j _ => by rw [r 13 k (by decide) (by decide)]) (fun x hxx => zR_n (by omega)) (fun _ _ => rfl)
  refine ⟨⟨fun t i f q hq => ?_, fun k j hk hj => by rw [r 10 k (by decide) (by decide)]; exact h1.2.1 k j hk hj, fun j hj => by rw [r 24 0 (by decide) (by decide)]; exact h1.2.2.1 j hj, fun j hj => by rw [r 25 0 (by decide) (by decide)]; exact h1.2.2.2 j hj⟩, hg 0 _ (by decide) h3.1 h2, h3, fun z => ⟨hg 1 _ (by decide) (h4 z).2.1 (h4 z).1, (h4 z).2⟩, by rw [e 8 0 (by decide) (by decide)]; exact h5, by rw [e 6 0 (by decide) (by decide), e 20 0 (by decide) (by decide)]; exact h6, fun i hi => (h7 i hi).keep (e 4 i (by decide) (by decide)) (e 26 i (by decide) (by decide)), fun i hi => (h8 i hi).keep (e 5 i (by decide) (by decide)) (e 3 _ (by decide) (by decide)) (e 4 _ (by decide) (by decide)) (e 26 _ (by decide) (by decide)), by rw [e 8 0 (by decide) (by decide), e 23 0 (by decide) (by decide)]; exact h9, ⟨ρ0, ?_⟩, ⟨ρ1, ?_⟩⟩
  · rw [r t i (fun z => by rw [z] at hq; cases hq) (fun z => by rw [z] at hq; cases hq)]
    exact h1.1 t i f q hq
  · unfold RG at *; rw [r 16 0 (by decide) (by decide)]; exact h10
  · unfold RG at *; rw [r 16 1 (by decide) (by decide)]; exact h11
theorem hcl_x {R : Rt} {Z : Zt} {xn : Nat} (hZ : Z.2.1 = 168 + 2 * xn) (h : ∀ t i k q, R t i k = some q → VD Z t i → vv Z (vr q.1 q.2)) : ∀ k j x, k < 3 → R 13 k j = some (7, x) → x < xn := fun k j x hk hr => by
  have hv : VD Z 13 k := ⟨by decide, by show 5 + 17 * k < _; omega, (who_M k hk).2.2.2.2.1⟩
  have h2 := h 13 k j (7, x) hr hv
  have h3 : 50 ≤ 7 ∨ VD Z 7 x := h2
  rcases h3 with h3 | h3
  · exact absurd h3 (by decide)
  · have h4 : 168 + 2 * x < Z.2.1 := h3.2.1
    omega
theorem VD_xn {Z : Zt} {xn t i : Nat} (hZ : Z.2.1 = 168 + 2 * xn) (h : VD Z t i) : ¬ ((t = 7 ∨ t = 27) ∧ i = xn) := fun z => by
  obtain ⟨rfl | rfl, rfl⟩ := z
  · have h4 : 168 + 2 * i < Z.2.1 := h.2.1
    omega
  · have h4 : 169 + 2 * i < Z.2.1 := h.2.1
    omega
def lwQ : Qt := fun r _ _ _ Z => r = some (vi (nI 1)) ∧ Z.2.1 ≤ 600000 ∧ Z.2.2 ≤ 7302250
theorem sub6 {n : Nat} (h : n < 2147483648) : (nI n - nI 6).toInt = (n : Int) - 6 := by
  by_cases h6 : n < 6
  · have q : n = 0 ∨ n = 1 ∨ n = 2 ∨ n = 3 ∨ n = 4 ∨ n = 5 := by omega
    rcases q with rfl | rfl | rfl | rfl | rfl | rfl <;> decide
  · rw [show nI n - nI 6 = nI (n - 6) by
      apply Int32.toBitVec_inj.1
      show BitVec.ofNat 32 n - BitVec.ofNat 32 6 = BitVec.ofNat 32 (n - 6)
      apply BitVec.eq_of_toNat_eq
      rw [BitVec.toNat_sub, BitVec.toNat_ofNat, BitVec.toNat_ofNat, BitVec.toNat_ofNat]
      omega, nT (by omega)]
    omega
theorem inc6 (a : Nat) : nI (6 * a) + Int32.ofInt 6 = nI (6 * (a + 1)) := by
  rw [show 6 * (a + 1) = 6 * a + 6 by omega]
  rw [show (Int32.ofInt 6) = nI 6 by decide]
  exact nI_add (6 * a) 6
theorem lw_0 {l : Launch} {E : En} {d : Nat} (hlen : E.2.2.2.2.1 ≤ 3072) {n xn : Nat} {I : It} {L : Lt} {R : Rt} {Z Z0 : Zt} {S : AS} (hn : 6 * n + 6 ≤ E.2.2.2.2.1) (hCS : CS I R Z S) (hMS : MSt I S) (hZ : Z.2.1 = 168 + 2 * xn) (hxn : xn ≤ n) (hsl : Z.2.2 ≤ 13093 + 100 * n) (k1314 : ∀ (I : It) (L : Lt) (R : Rt) (Z : Zt) (S : AS) (xn : Nat), CS I R Z S → MSt I S → Z.2.1 = 168 + 2 * xn → xn ≤ n + 1 → Z.2.2 ≤ 13093 + 100 * (n + 1) → AWq l E (d + 1412) M_Lw_law Z0 1314 [some (vr 53 0), some (vr 8 0), some (vr 9 0), some (vi (nI (6 * n)))] [] I L R Z lwQ) : AWq l E (d + 1412) M_Lw_law Z0 200 [some (vr 53 0), some (vr 8 0), some (vr 9 0), some (vi (nI (6 * n)))] [] I L R Z lwQ := by
  refine aw_aload_n e_Lw_law_200 rfl ?_
  refine aw_aload_n e_Lw_law_201 rfl ?_
  refine aw_iload_n e_Lw_law_202 rfl ?_
  refine aw_iconst (v := nI 1) e_Lw_law_203 (by decide) ?_
  first | refine awN_iadd e_Lw_law_204 ?_ | refine aw_iadd e_Lw_law_204 ?_
  refine aw_scLd e_Lw_law_205 rfl (by omega) (by omega) ?_
  refine aw_aload_n e_Lw_law_206 rfl ?_
  refine aw_iload_n e_Lw_law_207 rfl ?_
  refine aw_iconst (v := nI 2) e_Lw_law_208 (by decide) ?_
  first | refine awN_iadd e_Lw_law_209 ?_ | refine aw_iadd e_Lw_law_209 ?_
  refine aw_scLd e_Lw_law_210 rfl (by omega) (by omega) ?_
  refine aw_aload_n e_Lw_law_211 rfl ?_
  refine aw_iload_n e_Lw_law_212 rfl ?_
  refine aw_iconst (v := nI 3) e_Lw_law_213 (by decide) ?_
  first | refine awN_iadd e_Lw_law_214 ?_ | refine aw_iadd e_Lw_law_214 ?_
  refine aw_scLd e_Lw_law_215 rfl (by omega) (by omega) ?_
  refine aw_cV3 e_Lw_law_216 ml_Lw_13 mf_Pb_part mv_Pb_part (c_Pb_part hCS (fun I2 L2 R2 hCS2 hkm2 => ?_))
  refine aw_aload_n e_Lw_law_219 rfl ?_
  refine aw_aload_n e_Lw_law_220 rfl ?_
  refine aw_iload_n e_Lw_law_221 rfl ?_
  refine aw_iconst (v := nI 1) e_Lw_law_222 (by decide) ?_
  first | refine awN_iadd e_Lw_law_223 ?_ | refine aw_iadd e_Lw_law_223 ?_
  refine aw_scLd e_Lw_law_224 rfl (by omega) (by omega) ?_
  refine aw_aload_n e_Lw_law_225 rfl ?_
  refine aw_iload_n e_Lw_law_226 rfl ?_
  refine aw_iconst (v := nI 2) e_Lw_law_227 (by decide) ?_
  first | refine awN_iadd e_Lw_law_228 ?_ | refine aw_iadd e_Lw_law_228 ?_
  refine aw_scLd e_Lw_law_229 rfl (by omega) (by omega) ?_
  refine aw_aload_n e_Lw_law_230 rfl ?_
  refine aw_iload_n e_Lw_law_231 rfl ?_
  refine aw_iconst (v := nI 3) e_Lw_law_232 (by decide) ?_
  first | refine awN_iadd e_Lw_law_233 ?_ | refine aw_iadd e_Lw_law_233 ?_
  refine aw_scLd e_Lw_law_234 rfl (by omega) (by omega) ?_
  refine aw_cV3 e_Lw_law_235 ml_Lw_17 mf_Mo_part mv_Mo_part (c_Mo_part hCS2.1 (hMS.km hkm2) hCS.awf (fun I3 L3 hMS3 hfk3 => ?_))
  refine aw_icmp_eq e_Lw_law_238 (fun hh => ?_) (fun hh => ?_)
  · exact k1314 _ _ _ _ _ xn (hCS2.mo hfk3) hMS3 hZ (by omega) (by omega)
  · exact absurd rfl hh
theorem lw_1 {l : Launch} {E : En} {d : Nat} (hlen : E.2.2.2.2.1 ≤ 3072) {n xn : Nat} {I : It} {L : Lt} {R : Rt} {Z Z0 : Zt} {S : AS} (hn : 6 * n + 6 ≤ E.2.2.2.2.1) (hCS : CS I R Z S) (hMS : MSt I S) (hZ : Z.2.1 = 168 + 2 * xn) (hxn : xn ≤ n) (hsl : Z.2.2 ≤ 13093 + 100 * n) (k1314 : ∀ (I : It) (L : Lt) (R : Rt) (Z : Zt) (S : AS) (xn : Nat), CS I R Z S → MSt I S → Z.2.1 = 168 + 2 * xn → xn ≤ n + 1 → Z.2.2 ≤ 13093 + 100 * (n + 1) → AWq l E (d + 1412) M_Lw_law Z0 1314 [some (vr 53 0), some (vr 8 0), some (vr 9 0), some (vi (nI (6 * n)))] [] I L R Z lwQ) : AWq l E (d + 1412) M_Lw_law Z0 243 [some (vr 53 0), some (vr 8 0), some (vr 9 0), some (vi (nI (6 * n)))] [] I L R Z lwQ := by
  refine aw_aload_n e_Lw_law_243 rfl ?_
  refine aw_aload_n e_Lw_law_244 rfl ?_
  refine aw_iload_n e_Lw_law_245 rfl ?_
  refine aw_iconst (v := nI 1) e_Lw_law_246 (by decide) ?_
  first | refine awN_iadd e_Lw_law_247 ?_ | refine aw_iadd e_Lw_law_247 ?_
  refine aw_scLd e_Lw_law_248 rfl (by omega) (by omega) ?_
  refine aw_aload_n e_Lw_law_249 rfl ?_
  refine aw_iload_n e_Lw_law_250 rfl ?_
  refine aw_iconst (v := nI 2) e_Lw_law_251 (by decide) ?_
  first | refine awN_iadd e_Lw_law_252 ?_ | refine aw_iadd e_Lw_law_252 ?_
  refine aw_scLd e_Lw_law_253 rfl (by omega) (by omega) ?_
  refine aw_cV2 e_Lw_law_254 ml_Lw_18 mf_Pb_told mv_Pb_told (c_Pb_told hCS (fun I2 L2 R2 hCS2 hkm2 => ?_))
  refine aw_aload_n e_Lw_law_257 rfl ?_
  refine aw_aload_n e_Lw_law_258 rfl ?_
  refine aw_iload_n e_Lw_law_259 rfl ?_
  refine aw_iconst (v := nI 1) e_Lw_law_260 (by decide) ?_
  first | refine awN_iadd e_Lw_law_261 ?_ | refine aw_iadd e_Lw_law_261 ?_
  refine aw_scLd e_Lw_law_262 rfl (by omega) (by omega) ?_
  refine aw_aload_n e_Lw_law_263 rfl ?_
  refine aw_iload_n e_Lw_law_264 rfl ?_
  refine aw_iconst (v := nI 2) e_Lw_law_265 (by decide) ?_
  first | refine awN_iadd e_Lw_law_266 ?_ | refine aw_iadd e_Lw_law_266 ?_
  refine aw_scLd e_Lw_law_267 rfl (by omega) (by omega) ?_
  refine aw_cV2 e_Lw_law_268 ml_Lw_22 mf_Mo_told mv_Mo_told (c_Mo_told hCS2.1 (hMS.km hkm2) hCS.awf (fun I3 L3 hMS3 hfk3 => ?_))
  refine aw_icmp_eq e_Lw_law_271 (fun hh => ?_) (fun hh => ?_)
  · exact k1314 _ _ _ _ _ xn (hCS2.mo hfk3) hMS3 hZ (by omega) (by omega)
  · exact absurd rfl hh
theorem lw_2 {l : Launch} {E : En} {d : Nat} (hlen : E.2.2.2.2.1 ≤ 3072) {n xn : Nat} {I : It} {L : Lt} {R : Rt} {Z Z0 : Zt} {S : AS} (hn : 6 * n + 6 ≤ E.2.2.2.2.1) (hCS : CS I R Z S) (hMS : MSt I S) (hZ : Z.2.1 = 168 + 2 * xn) (hxn : xn ≤ n) (hsl : Z.2.2 ≤ 13093 + 100 * n) (k1314 : ∀ (I : It) (L : Lt) (R : Rt) (Z : Zt) (S : AS) (xn : Nat), CS I R Z S → MSt I S → Z.2.1 = 168 + 2 * xn → xn ≤ n + 1 → Z.2.2 ≤ 13093 + 100 * (n + 1) → AWq l E (d + 1412) M_Lw_law Z0 1314 [some (vr 53 0), some (vr 8 0), some (vr 9 0), some (vi (nI (6 * n)))] [] I L R Z lwQ) : AWq l E (d + 1412) M_Lw_law Z0 276 [some (vr 53 0), some (vr 8 0), some (vr 9 0), some (vi (nI (6 * n)))] [] I L R Z lwQ := by
  refine aw_aload_n e_Lw_law_276 rfl ?_
  refine aw_aload_n e_Lw_law_277 rfl ?_
  refine aw_iload_n e_Lw_law_278 rfl ?_
  refine aw_iconst (v := nI 1) e_Lw_law_279 (by decide) ?_
  first | refine awN_iadd e_Lw_law_280 ?_ | refine aw_iadd e_Lw_law_280 ?_
  refine aw_scLd e_Lw_law_281 rfl (by omega) (by omega) ?_
  refine aw_aload_n e_Lw_law_282 rfl ?_
  refine aw_iload_n e_Lw_law_283 rfl ?_
  refine aw_iconst (v := nI 2) e_Lw_law_284 (by decide) ?_
  first | refine awN_iadd e_Lw_law_285 ?_ | refine aw_iadd e_Lw_law_285 ?_
  refine aw_scLd e_Lw_law_286 rfl (by omega) (by omega) ?_
  refine aw_cV2 e_Lw_law_287 ml_Lw_23 mf_Pb_as mv_Pb_as (c_Pb_as hCS (fun I2 L2 R2 hCS2 hkm2 => ?_))
  refine aw_aload_n e_Lw_law_290 rfl ?_
  refine aw_aload_n e_Lw_law_291 rfl ?_
  refine aw_iload_n e_Lw_law_292 rfl ?_
  refine aw_iconst (v := nI 1) e_Lw_law_293 (by decide) ?_
  first | refine awN_iadd e_Lw_law_294 ?_ | refine aw_iadd e_Lw_law_294 ?_
  refine aw_scLd e_Lw_law_295 rfl (by omega) (by omega) ?_
  refine aw_aload_n e_Lw_law_296 rfl ?_
  refine aw_iload_n e_Lw_law_297 rfl ?_
  refine aw_iconst (v := nI 2) e_Lw_law_298 (by decide) ?_
  first | refine awN_iadd e_Lw_law_299 ?_ | refine aw_iadd e_Lw_law_299 ?_
  refine aw_scLd e_Lw_law_300 rfl (by omega) (by omega) ?_
  refine aw_cV2 e_Lw_law_301 ml_Lw_26 mf_Mo_as mv_Mo_as (c_Mo_as hCS2.1 (hMS.km hkm2) hCS.awf (fun I3 L3 hMS3 hfk3 => ?_))
  refine aw_icmp_eq e_Lw_law_304 (fun hh => ?_) (fun hh => ?_)
  · exact k1314 _ _ _ _ _ xn (hCS2.mo hfk3) hMS3 hZ (by omega) (by omega)
  · exact absurd rfl hh
theorem lw_3 {l : Launch} {E : En} {d : Nat} (hlen : E.2.2.2.2.1 ≤ 3072) {n xn : Nat} {I : It} {L : Lt} {R : Rt} {Z Z0 : Zt} {S : AS} (hn : 6 * n + 6 ≤ E.2.2.2.2.1) (hCS : CS I R Z S) (hMS : MSt I S) (hZ : Z.2.1 = 168 + 2 * xn) (hxn : xn ≤ n) (hsl : Z.2.2 ≤ 13093 + 100 * n) (k1314 : ∀ (I : It) (L : Lt) (R : Rt) (Z : Zt) (S : AS) (xn : Nat), CS I R Z S → MSt I S → Z.2.1 = 168 + 2 * xn → xn ≤ n + 1 → Z.2.2 ≤ 13093 + 100 * (n + 1) → AWq l E (d + 1412) M_Lw_law Z0 1314 [some (vr 53 0), some (vr 8 0), some (vr 9 0), some (vi (nI (6 * n)))] [] I L R Z lwQ) : AWq l E (d + 1412) M_Lw_law Z0 309 [some (vr 53 0), some (vr 8 0), some (vr 9 0), some (vi (nI (6 * n)))] [] I L R Z lwQ := by
  refine aw_aload_n e_Lw_law_309 rfl ?_
  refine aw_aload_n e_Lw_law_310 rfl ?_
  refine aw_iload_n e_Lw_law_311 rfl ?_
  refine aw_iconst (v := nI 1) e_Lw_law_312 (by decide) ?_
  first | refine awN_iadd e_Lw_law_313 ?_ | refine aw_iadd e_Lw_law_313 ?_
  refine aw_scLd e_Lw_law_314 rfl (by omega) (by omega) ?_
  refine aw_aload_n e_Lw_law_315 rfl ?_
  refine aw_iload_n e_Lw_law_316 rfl ?_
  refine aw_iconst (v := nI 2) e_Lw_law_317 (by decide) ?_
  first | refine awN_iadd e_Lw_law_318 ?_ | refine aw_iadd e_Lw_law_318 ?_
  refine aw_scLd e_Lw_law_319 rfl (by omega) (by omega) ?_
  refine aw_aload_n e_Lw_law_320 rfl ?_
  refine aw_iload_n e_Lw_law_321 rfl ?_
  refine aw_iconst (v := nI 3) e_Lw_law_322 (by decide) ?_
  first | refine awN_iadd e_Lw_law_323 ?_ | refine aw_iadd e_Lw_law_323 ?_
  refine aw_scLd e_Lw_law_324 rfl (by omega) (by omega) ?_
  refine aw_cV3 e_Lw_law_325 ml_Lw_27 mf_Pb_set mv_Pb_set (c_Pb_set hCS (fun I2 L2 R2 hCS2 hkm2 => ?_))
  refine aw_aload_n e_Lw_law_328 rfl ?_
  refine aw_aload_n e_Lw_law_329 rfl ?_
  refine aw_iload_n e_Lw_law_330 rfl ?_
  refine aw_iconst (v := nI 1) e_Lw_law_331 (by decide) ?_
  first | refine awN_iadd e_Lw_law_332 ?_ | refine aw_iadd e_Lw_law_332 ?_
  refine aw_scLd e_Lw_law_333 rfl (by omega) (by omega) ?_
  refine aw_aload_n e_Lw_law_334 rfl ?_
  refine aw_iload_n e_Lw_law_335 rfl ?_
  refine aw_iconst (v := nI 2) e_Lw_law_336 (by decide) ?_
  first | refine awN_iadd e_Lw_law_337 ?_ | refine aw_iadd e_Lw_law_337 ?_
  refine aw_scLd e_Lw_law_338 rfl (by omega) (by omega) ?_
  refine aw_aload_n e_Lw_law_339 rfl ?_
  refine aw_iload_n e_Lw_law_340 rfl ?_
  refine aw_iconst (v := nI 3) e_Lw_law_341 (by decide) ?_
  first | refine awN_iadd e_Lw_law_342 ?_ | refine aw_iadd e_Lw_law_342 ?_
  refine aw_scLd e_Lw_law_343 rfl (by omega) (by omega) ?_
  refine aw_cV3 e_Lw_law_344 ml_Lw_30 mf_Mo_set mv_Mo_set (c_Mo_set hCS2.1 (hMS.km hkm2) hCS.awf (fun I3 L3 hMS3 hfk3 => ?_))
  refine aw_icmp_eq e_Lw_law_347 (fun hh => ?_) (fun hh => ?_)
  · exact k1314 _ _ _ _ _ xn (hCS2.mo hfk3) hMS3 hZ (by omega) (by omega)
  · exact absurd rfl hh
theorem lw_4 {l : Launch} {E : En} {d : Nat} (hlen : E.2.2.2.2.1 ≤ 3072) {n xn : Nat} {I : It} {L : Lt} {R : Rt} {Z Z0 : Zt} {S : AS} (hn : 6 * n + 6 ≤ E.2.2.2.2.1) (hCS : CS I R Z S) (hMS : MSt I S) (hZ : Z.2.1 = 168 + 2 * xn) (hxn : xn ≤ n) (hsl : Z.2.2 ≤ 13093 + 100 * n) (k1314 : ∀ (I : It) (L : Lt) (R : Rt) (Z : Zt) (S : AS) (xn : Nat), CS I R Z S → MSt I S → Z.2.1 = 168 + 2 * xn → xn ≤ n + 1 → Z.2.2 ≤ 13093 + 100 * (n + 1) → AWq l E (d + 1412) M_Lw_law Z0 1314 [some (vr 53 0), some (vr 8 0), some (vr 9 0), some (vi (nI (6 * n)))] [] I L R Z lwQ) : AWq l E (d + 1412) M_Lw_law Z0 352 [some (vr 53 0), some (vr 8 0), some (vr 9 0), some (vi (nI (6 * n)))] [] I L R Z lwQ := by
  refine aw_aload_n e_Lw_law_352 rfl ?_
  refine aw_aload_n e_Lw_law_353 rfl ?_
  refine aw_iload_n e_Lw_law_354 rfl ?_
  refine aw_iconst (v := nI 1) e_Lw_law_355 (by decide) ?_
  first | refine awN_iadd e_Lw_law_356 ?_ | refine aw_iadd e_Lw_law_356 ?_
  refine aw_scLd e_Lw_law_357 rfl (by omega) (by omega) ?_
  refine aw_aload_n e_Lw_law_358 rfl ?_
  refine aw_iload_n e_Lw_law_359 rfl ?_
  refine aw_iconst (v := nI 2) e_Lw_law_360 (by decide) ?_
  first | refine awN_iadd e_Lw_law_361 ?_ | refine aw_iadd e_Lw_law_361 ?_
  refine aw_scLd e_Lw_law_362 rfl (by omega) (by omega) ?_
  refine aw_cV2 e_Lw_law_363 ml_Lw_31 mf_Pb_bond mv_Pb_bond (c_Pb_bond hCS (fun I2 L2 R2 hCS2 hkm2 => ?_))
  refine aw_aload_n e_Lw_law_366 rfl ?_
  refine aw_aload_n e_Lw_law_367 rfl ?_
  refine aw_iload_n e_Lw_law_368 rfl ?_
  refine aw_iconst (v := nI 1) e_Lw_law_369 (by decide) ?_
  first | refine awN_iadd e_Lw_law_370 ?_ | refine aw_iadd e_Lw_law_370 ?_
  refine aw_scLd e_Lw_law_371 rfl (by omega) (by omega) ?_
  refine aw_aload_n e_Lw_law_372 rfl ?_
  refine aw_iload_n e_Lw_law_373 rfl ?_
  refine aw_iconst (v := nI 2) e_Lw_law_374 (by decide) ?_
  first | refine awN_iadd e_Lw_law_375 ?_ | refine aw_iadd e_Lw_law_375 ?_
  refine aw_scLd e_Lw_law_376 rfl (by omega) (by omega) ?_
  refine aw_cV2 e_Lw_law_377 ml_Lw_34 mf_Mo_bond mv_Mo_bond (c_Mo_bond hCS2.1 (hMS.km hkm2) hCS.awf (fun I3 L3 hMS3 hfk3 => ?_))
  refine aw_icmp_eq e_Lw_law_380 (fun hh => ?_) (fun hh => ?_)
  · exact k1314 _ _ _ _ _ xn (hCS2.mo hfk3) hMS3 hZ (by omega) (by omega)
  · exact absurd rfl hh
theorem lw_5 {l : Launch} {E : En} {d : Nat} (hlen : E.2.2.2.2.1 ≤ 3072) {n xn : Nat} {I : It} {L : Lt} {R : Rt} {Z Z0 : Zt} {S : AS} (hn : 6 * n + 6 ≤ E.2.2.2.2.1) (hCS : CS I R Z S) (hMS : MSt I S) (hZ : Z.2.1 = 168 + 2 * xn) (hxn : xn ≤ n) (hsl : Z.2.2 ≤ 13093 + 100 * n) (k1314 : ∀ (I : It) (L : Lt) (R : Rt) (Z : Zt) (S : AS) (xn : Nat), CS I R Z S → MSt I S → Z.2.1 = 168 + 2 * xn → xn ≤ n + 1 → Z.2.2 ≤ 13093 + 100 * (n + 1) → AWq l E (d + 1412) M_Lw_law Z0 1314 [some (vr 53 0), some (vr 8 0), some (vr 9 0), some (vi (nI (6 * n)))] [] I L R Z lwQ) : AWq l E (d + 1412) M_Lw_law Z0 385 [some (vr 53 0), some (vr 8 0), some (vr 9 0), some (vi (nI (6 * n)))] [] I L R Z lwQ := by
  refine aw_aload_n e_Lw_law_385 rfl ?_
  refine aw_aload_n e_Lw_law_386 rfl ?_
  refine aw_iload_n e_Lw_law_387 rfl ?_
  refine aw_iconst (v := nI 1) e_Lw_law_388 (by decide) ?_
  first | refine awN_iadd e_Lw_law_389 ?_ | refine aw_iadd e_Lw_law_389 ?_
  refine aw_scLd e_Lw_law_390 rfl (by omega) (by omega) ?_
  refine aw_cV1 e_Lw_law_391 ml_Lw_35 mf_Pb_breaks mv_Pb_breaks (c_Pb_breaks hCS (fun I2 L2 R2 hCS2 hkm2 => ?_))
  refine aw_aload_n e_Lw_law_394 rfl ?_
  refine aw_aload_n e_Lw_law_395 rfl ?_
  refine aw_iload_n e_Lw_law_396 rfl ?_
  refine aw_iconst (v := nI 1) e_Lw_law_397 (by decide) ?_
  first | refine awN_iadd e_Lw_law_398 ?_ | refine aw_iadd e_Lw_law_398 ?_
  refine aw_scLd e_Lw_law_399 rfl (by omega) (by omega) ?_
  refine aw_cV1 e_Lw_law_400 ml_Lw_39 mf_Mo_breaks mv_Mo_breaks (c_Mo_breaks hCS2.1 (hMS.km hkm2) hCS.awf (fun I3 L3 hMS3 hfk3 => ?_))
  refine aw_icmp_eq e_Lw_law_403 (fun hh => ?_) (fun hh => ?_)
  · exact k1314 _ _ _ _ _ xn (hCS2.mo hfk3) hMS3 hZ (by omega) (by omega)
  · exact absurd rfl hh
theorem lw_6 {l : Launch} {E : En} {d : Nat} (hlen : E.2.2.2.2.1 ≤ 3072) {n xn : Nat} {I : It} {L : Lt} {R : Rt} {Z Z0 : Zt} {S : AS} (hn : 6 * n + 6 ≤ E.2.2.2.2.1) (hCS : CS I R Z S) (hMS : MSt I S) (hZ : Z.2.1 = 168 + 2 * xn) (hxn : xn ≤ n) (hsl : Z.2.2 ≤ 13093 + 100 * n) (k1314 : ∀ (I : It) (L : Lt) (R : Rt) (Z : Zt) (S : AS) (xn : Nat), CS I R Z S → MSt I S → Z.2.1 = 168 + 2 * xn → xn ≤ n + 1 → Z.2.2 ≤ 13093 + 100 * (n + 1) → AWq l E (d + 1412) M_Lw_law Z0 1314 [some (vr 53 0), some (vr 8 0), some (vr 9 0), some (vi (nI (6 * n)))] [] I L R Z lwQ) : AWq l E (d + 1412) M_Lw_law Z0 408 [some (vr 53 0), some (vr 8 0), some (vr 9 0), some (vi (nI (6 * n)))] [] I L R Z lwQ := by
  refine aw_aload_n e_Lw_law_408 rfl ?_
  refine aw_aload_n e_Lw_law_409 rfl ?_
  refine aw_iload_n e_Lw_law_410 rfl ?_
  refine aw_iconst (v := nI 1) e_Lw_law_411 (by decide) ?_
  first | refine awN_iadd e_Lw_law_412 ?_ | refine aw_iadd e_Lw_law_412 ?_
  refine aw_scLd e_Lw_law_413 rfl (by omega) (by omega) ?_
  refine aw_aload_n e_Lw_law_414 rfl ?_
  refine aw_iload_n e_Lw_law_415 rfl ?_
  refine aw_iconst (v := nI 2) e_Lw_law_416 (by decide) ?_
  first | refine awN_iadd e_Lw_law_417 ?_ | refine aw_iadd e_Lw_law_417 ?_
  refine aw_scLd e_Lw_law_418 rfl (by omega) (by omega) ?_
  refine aw_cV2 e_Lw_law_419 ml_Lw_40 mf_Pb_of mv_Pb_of (c_Pb_of hCS (fun I2 L2 R2 hCS2 hkm2 => ?_))
  refine aw_aload_n e_Lw_law_422 rfl ?_
  refine aw_aload_n e_Lw_law_423 rfl ?_
  refine aw_iload_n e_Lw_law_424 rfl ?_
  refine aw_iconst (v := nI 1) e_Lw_law_425 (by decide) ?_
  first | refine awN_iadd e_Lw_law_426 ?_ | refine aw_iadd e_Lw_law_426 ?_
  refine aw_scLd e_Lw_law_427 rfl (by omega) (by omega) ?_
  refine aw_aload_n e_Lw_law_428 rfl ?_
  refine aw_iload_n e_Lw_law_429 rfl ?_
  refine aw_iconst (v := nI 2) e_Lw_law_430 (by decide) ?_
  first | refine awN_iadd e_Lw_law_431 ?_ | refine aw_iadd e_Lw_law_431 ?_
  refine aw_scLd e_Lw_law_432 rfl (by omega) (by omega) ?_
  refine aw_cV2 e_Lw_law_433 ml_Lw_43 mf_Mo_of mv_Mo_of (c_Mo_of hCS2.1 (hMS.km hkm2) hCS.awf (fun I3 L3 hMS3 hfk3 => ?_))
  refine aw_icmp_eq e_Lw_law_436 (fun hh => ?_) (fun hh => ?_)
  · exact k1314 _ _ _ _ _ xn (hCS2.mo hfk3) hMS3 hZ (by omega) (by omega)
  · exact absurd rfl hh
theorem lw_7 {l : Launch} {E : En} {d : Nat} (hlen : E.2.2.2.2.1 ≤ 3072) {n xn : Nat} {I : It} {L : Lt} {R : Rt} {Z Z0 : Zt} {S : AS} (hn : 6 * n + 6 ≤ E.2.2.2.2.1) (hCS : CS I R Z S) (hMS : MSt I S) (hZ : Z.2.1 = 168 + 2 * xn) (hxn : xn ≤ n) (hsl : Z.2.2 ≤ 13093 + 100 * n) (k1314 : ∀ (I : It) (L : Lt) (R : Rt) (Z : Zt) (S : AS) (xn : Nat), CS I R Z S → MSt I S → Z.2.1 = 168 + 2 * xn → xn ≤ n + 1 → Z.2.2 ≤ 13093 + 100 * (n + 1) → AWq l E (d + 1412) M_Lw_law Z0 1314 [some (vr 53 0), some (vr 8 0), some (vr 9 0), some (vi (nI (6 * n)))] [] I L R Z lwQ) : AWq l E (d + 1412) M_Lw_law Z0 441 [some (vr 53 0), some (vr 8 0), some (vr 9 0), some (vi (nI (6 * n)))] [] I L R Z lwQ := by
  refine aw_aload_n e_Lw_law_441 rfl ?_
  refine aw_cV0 e_Lw_law_442 ml_Lw_44 mf_Pb_whole mv_Pb_whole (c_Pb_whole hCS (fun I2 L2 R2 hCS2 hkm2 => ?_))
  refine aw_aload_n e_Lw_law_445 rfl ?_
  refine aw_cV0 e_Lw_law_446 ml_Lw_48 mf_Mo_whole mv_Mo_whole (c_Mo_whole hCS2.1 (hMS.km hkm2) hCS.awf (fun I3 L3 hMS3 hfk3 => ?_))
  refine aw_icmp_eq e_Lw_law_449 (fun hh => ?_) (fun hh => ?_)
  · exact k1314 _ _ _ _ _ xn (hCS2.mo hfk3) hMS3 hZ (by omega) (by omega)
  · exact absurd rfl hh
theorem lw_8 {l : Launch} {E : En} {d : Nat} (hlen : E.2.2.2.2.1 ≤ 3072) {n xn : Nat} {I : It} {L : Lt} {R : Rt} {Z Z0 : Zt} {S : AS} (hn : 6 * n + 6 ≤ E.2.2.2.2.1) (hCS : CS I R Z S) (hMS : MSt I S) (hZ : Z.2.1 = 168 + 2 * xn) (hxn : xn ≤ n) (hsl : Z.2.2 ≤ 13093 + 100 * n) (k1314 : ∀ (I : It) (L : Lt) (R : Rt) (Z : Zt) (S : AS) (xn : Nat), CS I R Z S → MSt I S → Z.2.1 = 168 + 2 * xn → xn ≤ n + 1 → Z.2.2 ≤ 13093 + 100 * (n + 1) → AWq l E (d + 1412) M_Lw_law Z0 1314 [some (vr 53 0), some (vr 8 0), some (vr 9 0), some (vi (nI (6 * n)))] [] I L R Z lwQ) : AWq l E (d + 1412) M_Lw_law Z0 454 [some (vr 53 0), some (vr 8 0), some (vr 9 0), some (vi (nI (6 * n)))] [] I L R Z lwQ := by
  refine aw_aload_n e_Lw_law_454 rfl ?_
  refine aw_cV0 e_Lw_law_455 ml_Lw_49 mf_Pb_answers mv_Pb_answers (c_Pb_answers hCS (fun I2 L2 R2 hCS2 hkm2 => ?_))
  refine aw_aload_n e_Lw_law_458 rfl ?_
  refine aw_cV0 e_Lw_law_459 ml_Lw_52 mf_Mo_answers mv_Mo_answers (c_Mo_answers hCS2.1 (hMS.km hkm2) hCS.awf (fun I3 L3 hMS3 hfk3 => ?_))
  refine aw_icmp_eq e_Lw_law_462 (fun hh => ?_) (fun hh => ?_)
  · exact k1314 _ _ _ _ _ xn (hCS2.mo hfk3) hMS3 hZ (by omega) (by omega)
  · exact absurd rfl hh
theorem lw_9 {l : Launch} {E : En} {d : Nat} (hlen : E.2.2.2.2.1 ≤ 3072) {n xn : Nat} {I : It} {L : Lt} {R : Rt} {Z Z0 : Zt} {S : AS} (hn : 6 * n + 6 ≤ E.2.2.2.2.1) (hCS : CS I R Z S) (hMS : MSt I S) (hZ : Z.2.1 = 168 + 2 * xn) (hxn : xn ≤ n) (hsl : Z.2.2 ≤ 13093 + 100 * n) (k1314 : ∀ (I : It) (L : Lt) (R : Rt) (Z : Zt) (S : AS) (xn : Nat), CS I R Z S → MSt I S → Z.2.1 = 168 + 2 * xn → xn ≤ n + 1 → Z.2.2 ≤ 13093 + 100 * (n + 1) → AWq l E (d + 1412) M_Lw_law Z0 1314 [some (vr 53 0), some (vr 8 0), some (vr 9 0), some (vi (nI (6 * n)))] [] I L R Z lwQ) : AWq l E (d + 1412) M_Lw_law Z0 467 [some (vr 53 0), some (vr 8 0), some (vr 9 0), some (vi (nI (6 * n)))] [] I L R Z lwQ := by
  refine aw_aload_n e_Lw_law_467 rfl ?_
  refine aw_aload_n e_Lw_law_468 rfl ?_
  refine aw_iload_n e_Lw_law_469 rfl ?_
  refine aw_iconst (v := nI 1) e_Lw_law_470 (by decide) ?_
  first | refine awN_iadd e_Lw_law_471 ?_ | refine aw_iadd e_Lw_law_471 ?_
  refine aw_scLd e_Lw_law_472 rfl (by omega) (by omega) ?_
  refine aw_cV1 e_Lw_law_473 ml_Lw_53 mf_Pb_strokes mv_Pb_strokes (c_Pb_strokes hCS (fun I2 L2 R2 hCS2 hkm2 => ?_))
  refine aw_aload_n e_Lw_law_476 rfl ?_
  refine aw_aload_n e_Lw_law_477 rfl ?_
  refine aw_iload_n e_Lw_law_478 rfl ?_
  refine aw_iconst (v := nI 1) e_Lw_law_479 (by decide) ?_
  first | refine awN_iadd e_Lw_law_480 ?_ | refine aw_iadd e_Lw_law_480 ?_
  refine aw_scLd e_Lw_law_481 rfl (by omega) (by omega) ?_
  refine aw_cV1 e_Lw_law_482 ml_Lw_56 mf_Mo_strokes mv_Mo_strokes (c_Mo_strokesO hCS2.1 (hMS.km hkm2) hCS.awf (fun I3 L3 hMS3 hfk3 => ?_))
  refine aw_icmp_eq e_Lw_law_485 (fun hh => ?_) (fun hh => ?_)
  · exact k1314 _ _ _ _ _ xn (hCS2.mo hfk3) hMS3 hZ (by omega) (by omega)
  · exact absurd rfl hh
theorem lw_10 {l : Launch} {E : En} {d : Nat} (hlen : E.2.2.2.2.1 ≤ 3072) {n xn : Nat} {I : It} {L : Lt} {R : Rt} {Z Z0 : Zt} {S : AS} (hn : 6 * n + 6 ≤ E.2.2.2.2.1) (hCS : CS I R Z S) (hMS : MSt I S) (hZ : Z.2.1 = 168 + 2 * xn) (hxn : xn ≤ n) (hsl : Z.2.2 ≤ 13093 + 100 * n) (k1314 : ∀ (I : It) (L : Lt) (R : Rt) (Z : Zt) (S : AS) (xn : Nat), CS I R Z S → MSt I S → Z.2.1 = 168 + 2 * xn → xn ≤ n + 1 → Z.2.2 ≤ 13093 + 100 * (n + 1) → AWq l E (d + 1412) M_Lw_law Z0 1314 [some (vr 53 0), some (vr 8 0), some (vr 9 0), some (vi (nI (6 * n)))] [] I L R Z lwQ) : AWq l E (d + 1412) M_Lw_law Z0 490 [some (vr 53 0), some (vr 8 0), some (vr 9 0), some (vi (nI (6 * n)))] [] I L R Z lwQ := by
  refine aw_aload_n e_Lw_law_490 rfl ?_
  refine aw_aload_n e_Lw_law_491 rfl ?_
  refine aw_iload_n e_Lw_law_492 rfl ?_
  refine aw_iconst (v := nI 1) e_Lw_law_493 (by decide) ?_
  first | refine awN_iadd e_Lw_law_494 ?_ | refine aw_iadd e_Lw_law_494 ?_
  refine aw_scLd e_Lw_law_495 rfl (by omega) (by omega) ?_
  refine aw_cV1 e_Lw_law_496 ml_Lw_57 mf_Pb_can mv_Pb_can (c_Pb_can hCS (fun I2 L2 R2 hCS2 hkm2 => ?_))
  refine aw_aload_n e_Lw_law_499 rfl ?_
  refine aw_aload_n e_Lw_law_500 rfl ?_
  refine aw_iload_n e_Lw_law_501 rfl ?_
  refine aw_iconst (v := nI 1) e_Lw_law_502 (by decide) ?_
  first | refine awN_iadd e_Lw_law_503 ?_ | refine aw_iadd e_Lw_law_503 ?_
  refine aw_scLd e_Lw_law_504 rfl (by omega) (by omega) ?_
  refine aw_cV1 e_Lw_law_505 ml_Lw_60 mf_Mo_can mv_Mo_can (c_Mo_can hCS2.1 (hMS.km hkm2) hCS.awf (fun I3 L3 hMS3 hfk3 => ?_))
  refine aw_icmp_eq e_Lw_law_508 (fun hh => ?_) (fun hh => ?_)
  · exact k1314 _ _ _ _ _ xn (hCS2.mo hfk3) hMS3 hZ (by omega) (by omega)
  · exact absurd rfl hh
theorem lw_11 {l : Launch} {E : En} {d : Nat} (hlen : E.2.2.2.2.1 ≤ 3072) {n xn : Nat} {I : It} {L : Lt} {R : Rt} {Z Z0 : Zt} {S : AS} (hn : 6 * n + 6 ≤ E.2.2.2.2.1) (hCS : CS I R Z S) (hMS : MSt I S) (hZ : Z.2.1 = 168 + 2 * xn) (hxn : xn ≤ n) (hsl : Z.2.2 ≤ 13093 + 100 * n) (k1314 : ∀ (I : It) (L : Lt) (R : Rt) (Z : Zt) (S : AS) (xn : Nat), CS I R Z S → MSt I S → Z.2.1 = 168 + 2 * xn → xn ≤ n + 1 → Z.2.2 ≤ 13093 + 100 * (n + 1) → AWq l E (d + 1412) M_Lw_law Z0 1314 [some (vr 53 0), some (vr 8 0), some (vr 9 0), some (vi (nI (6 * n)))] [] I L R Z lwQ) : AWq l E (d + 1412) M_Lw_law Z0 513 [some (vr 53 0), some (vr 8 0), some (vr 9 0), some (vi (nI (6 * n)))] [] I L R Z lwQ := by
  refine aw_aload_n e_Lw_law_513 rfl ?_
  refine aw_aload_n e_Lw_law_514 rfl ?_
  refine aw_iload_n e_Lw_law_515 rfl ?_
  refine aw_iconst (v := nI 1) e_Lw_law_516 (by decide) ?_
  first | refine awN_iadd e_Lw_law_517 ?_ | refine aw_iadd e_Lw_law_517 ?_
  refine aw_scLd e_Lw_law_518 rfl (by omega) (by omega) ?_
  refine aw_cV1 e_Lw_law_519 ml_Lw_61 mf_Pb_run mv_Pb_run (c_Pb_run hCS (fun I2 L2 R2 hCS2 hkm2 => ?_))
  refine aw_aload_n e_Lw_law_522 rfl ?_
  refine aw_aload_n e_Lw_law_523 rfl ?_
  refine aw_iload_n e_Lw_law_524 rfl ?_
  refine aw_iconst (v := nI 1) e_Lw_law_525 (by decide) ?_
  first | refine awN_iadd e_Lw_law_526 ?_ | refine aw_iadd e_Lw_law_526 ?_
  refine aw_scLd e_Lw_law_527 rfl (by omega) (by omega) ?_
  refine aw_cV1 e_Lw_law_528 ml_Lw_64 mf_Mo_run mv_Mo_run (c_Mo_run hCS2.1 (hMS.km hkm2) hCS.awf (fun I3 L3 hMS3 hfk3 => ?_))
  refine aw_icmp_eq e_Lw_law_531 (fun hh => ?_) (fun hh => ?_)
  · exact k1314 _ _ _ _ _ xn (hCS2.mo hfk3) hMS3 hZ (by omega) (by omega)
  · exact absurd rfl hh
theorem lw_12 {l : Launch} {E : En} {d : Nat} (hlen : E.2.2.2.2.1 ≤ 3072) {n xn : Nat} {I : It} {L : Lt} {R : Rt} {Z Z0 : Zt} {S : AS} (hn : 6 * n + 6 ≤ E.2.2.2.2.1) (hCS : CS I R Z S) (hMS : MSt I S) (hZ : Z.2.1 = 168 + 2 * xn) (hxn : xn ≤ n) (hsl : Z.2.2 ≤ 13093 + 100 * n) (k1314 : ∀ (I : It) (L : Lt) (R : Rt) (Z : Zt) (S : AS) (xn : Nat), CS I R Z S → MSt I S → Z.2.1 = 168 + 2 * xn → xn ≤ n + 1 → Z.2.2 ≤ 13093 + 100 * (n + 1) → AWq l E (d + 1412) M_Lw_law Z0 1314 [some (vr 53 0), some (vr 8 0), some (vr 9 0), some (vi (nI (6 * n)))] [] I L R Z lwQ) : AWq l E (d + 1412) M_Lw_law Z0 536 [some (vr 53 0), some (vr 8 0), some (vr 9 0), some (vi (nI (6 * n)))] [] I L R Z lwQ := by
  refine aw_aload_n e_Lw_law_536 rfl ?_
  refine aw_aload_n e_Lw_law_537 rfl ?_
  refine aw_iload_n e_Lw_law_538 rfl ?_
  refine aw_iconst (v := nI 1) e_Lw_law_539 (by decide) ?_
  first | refine awN_iadd e_Lw_law_540 ?_ | refine aw_iadd e_Lw_law_540 ?_
  refine aw_scLd e_Lw_law_541 rfl (by omega) (by omega) ?_
  refine aw_aload_n e_Lw_law_542 rfl ?_
  refine aw_iload_n e_Lw_law_543 rfl ?_
  refine aw_iconst (v := nI 2) e_Lw_law_544 (by decide) ?_
  first | refine awN_iadd e_Lw_law_545 ?_ | refine aw_iadd e_Lw_law_545 ?_
  refine aw_scLd e_Lw_law_546 rfl (by omega) (by omega) ?_
  refine aw_aload_n e_Lw_law_547 rfl ?_
  refine aw_iload_n e_Lw_law_548 rfl ?_
  refine aw_iconst (v := nI 3) e_Lw_law_549 (by decide) ?_
  first | refine awN_iadd e_Lw_law_550 ?_ | refine aw_iadd e_Lw_law_550 ?_
  refine aw_scLd e_Lw_law_551 rfl (by omega) (by omega) ?_
  refine aw_cV3 e_Lw_law_552 ml_Lw_65 mf_Pb_feed mv_Pb_feed (c_Pb_feed hCS (fun I2 L2 R2 hCS2 hkm2 => ?_))
  refine aw_aload_n e_Lw_law_555 rfl ?_
  refine aw_aload_n e_Lw_law_556 rfl ?_
  refine aw_iload_n e_Lw_law_557 rfl ?_
  refine aw_iconst (v := nI 1) e_Lw_law_558 (by decide) ?_
  first | refine awN_iadd e_Lw_law_559 ?_ | refine aw_iadd e_Lw_law_559 ?_
  refine aw_scLd e_Lw_law_560 rfl (by omega) (by omega) ?_
  refine aw_aload_n e_Lw_law_561 rfl ?_
  refine aw_iload_n e_Lw_law_562 rfl ?_
  refine aw_iconst (v := nI 2) e_Lw_law_563 (by decide) ?_
  first | refine awN_iadd e_Lw_law_564 ?_ | refine aw_iadd e_Lw_law_564 ?_
  refine aw_scLd e_Lw_law_565 rfl (by omega) (by omega) ?_
  refine aw_aload_n e_Lw_law_566 rfl ?_
  refine aw_iload_n e_Lw_law_567 rfl ?_
  refine aw_iconst (v := nI 3) e_Lw_law_568 (by decide) ?_
  first | refine awN_iadd e_Lw_law_569 ?_ | refine aw_iadd e_Lw_law_569 ?_
  refine aw_scLd e_Lw_law_570 rfl (by omega) (by omega) ?_
  refine aw_cV3 e_Lw_law_571 ml_Lw_68 mf_Mo_feed mv_Mo_feed (c_Mo_feed hCS2.1 (hMS.km hkm2) hCS.awf (fun I3 L3 hMS3 hfk3 => ?_))
  refine aw_icmp_eq e_Lw_law_574 (fun hh => ?_) (fun hh => ?_)
  · exact k1314 _ _ _ _ _ xn (hCS2.mo hfk3) hMS3 hZ (by omega) (by omega)
  · exact absurd rfl hh
theorem lw_13 {l : Launch} {E : En} {d : Nat} (hlen : E.2.2.2.2.1 ≤ 3072) {n xn : Nat} {I : It} {L : Lt} {R : Rt} {Z Z0 : Zt} {S : AS} (hn : 6 * n + 6 ≤ E.2.2.2.2.1) (hCS : CS I R Z S) (hMS : MSt I S) (hZ : Z.2.1 = 168 + 2 * xn) (hxn : xn ≤ n) (hsl : Z.2.2 ≤ 13093 + 100 * n) (k1314 : ∀ (I : It) (L : Lt) (R : Rt) (Z : Zt) (S : AS) (xn : Nat), CS I R Z S → MSt I S → Z.2.1 = 168 + 2 * xn → xn ≤ n + 1 → Z.2.2 ≤ 13093 + 100 * (n + 1) → AWq l E (d + 1412) M_Lw_law Z0 1314 [some (vr 53 0), some (vr 8 0), some (vr 9 0), some (vi (nI (6 * n)))] [] I L R Z lwQ) : AWq l E (d + 1412) M_Lw_law Z0 579 [some (vr 53 0), some (vr 8 0), some (vr 9 0), some (vi (nI (6 * n)))] [] I L R Z lwQ := by
  refine aw_aload_n e_Lw_law_579 rfl ?_
  refine aw_aload_n e_Lw_law_580 rfl ?_
  refine aw_iload_n e_Lw_law_581 rfl ?_
  refine aw_iconst (v := nI 1) e_Lw_law_582 (by decide) ?_
  first | refine awN_iadd e_Lw_law_583 ?_ | refine aw_iadd e_Lw_law_583 ?_
  refine aw_scLd e_Lw_law_584 rfl (by omega) (by omega) ?_
  refine aw_cV1 e_Lw_law_585 ml_Lw_69 mf_Pb_trim mv_Pb_trim (c_Pb_trim hCS (fun I2 L2 R2 hCS2 hkm2 => ?_))
  refine aw_aload_n e_Lw_law_588 rfl ?_
  refine aw_aload_n e_Lw_law_589 rfl ?_
  refine aw_iload_n e_Lw_law_590 rfl ?_
  refine aw_iconst (v := nI 1) e_Lw_law_591 (by decide) ?_
  first | refine awN_iadd e_Lw_law_592 ?_ | refine aw_iadd e_Lw_law_592 ?_
  refine aw_scLd e_Lw_law_593 rfl (by omega) (by omega) ?_
  refine aw_cV1 e_Lw_law_594 ml_Lw_72 mf_Mo_trim mv_Mo_trim (c_Mo_trim hCS2.1 (hMS.km hkm2) hCS.awf (fun I3 L3 hMS3 hfk3 => ?_))
  refine aw_icmp_eq e_Lw_law_597 (fun hh => ?_) (fun hh => ?_)
  · exact k1314 _ _ _ _ _ xn (hCS2.mo hfk3) hMS3 hZ (by omega) (by omega)
  · exact absurd rfl hh
theorem lw_14 {l : Launch} {E : En} {d : Nat} (hlen : E.2.2.2.2.1 ≤ 3072) {n xn : Nat} {I : It} {L : Lt} {R : Rt} {Z Z0 : Zt} {S : AS} (hn : 6 * n + 6 ≤ E.2.2.2.2.1) (hCS : CS I R Z S) (hMS : MSt I S) (hZ : Z.2.1 = 168 + 2 * xn) (hxn : xn ≤ n) (hsl : Z.2.2 ≤ 13093 + 100 * n) (k1314 : ∀ (I : It) (L : Lt) (R : Rt) (Z : Zt) (S : AS) (xn : Nat), CS I R Z S → MSt I S → Z.2.1 = 168 + 2 * xn → xn ≤ n + 1 → Z.2.2 ≤ 13093 + 100 * (n + 1) → AWq l E (d + 1412) M_Lw_law Z0 1314 [some (vr 53 0), some (vr 8 0), some (vr 9 0), some (vi (nI (6 * n)))] [] I L R Z lwQ) : AWq l E (d + 1412) M_Lw_law Z0 602 [some (vr 53 0), some (vr 8 0), some (vr 9 0), some (vi (nI (6 * n)))] [] I L R Z lwQ := by
  refine aw_cl (r0 := some (vi (nI 1))) ⟨rfl, by omega, by omega⟩ (fun hcl => ?_)
  have hcx0 := hcl_x hZ hcl
  have hcx : ∀ k j x, k < 3 → zR R xn 13 k j = some (7, x) → x < xn := fun k j x hk hr => hcx0 k j x hk (by rw [zR_n (by omega)] at hr; exact hr)
  refine aw_fresh (I2 := zI I xn) (L2 := zL L xn) (R2 := zR R xn) (fun t i hv => ⟨zI_n (VD_xn hZ hv), zL_n (VD_xn hZ hv), zR_n (VD_xn hZ hv)⟩) ?_
  have hCSz := CS_z hCS hcx0
  have hMSz : MSt (zI I xn) S := MSt.km (L := L) (L2 := L) (R := R) (R2 := R) hMS (fun t i ht => ⟨zI_n (by omega), rfl, rfl⟩)
  refine aw_aload_n e_Lw_law_602 rfl ?_
  refine aw_cV0 e_Lw_law_603 ml_Lw_73 mf_Pb_text mv_Pb_text (c_Pb_text hCSz hZ hcx (fun f => if_pos ⟨Or.inl rfl, rfl⟩) (fun f => if_pos ⟨Or.inl rfl, rfl⟩) (fun f => if_pos ⟨Or.inr rfl, rfl⟩) (fun f => if_pos ⟨Or.inr rfl, rfl⟩) (fun f => if_pos ⟨Or.inr rfl, rfl⟩) (fun I2 L2 R2 Z2 hCS2 hkm2 hz2 => ?_))
  refine aw_aload_n e_Lw_law_606 rfl ?_
  refine aw_cV0 e_Lw_law_607 ml_Lw_76 mf_Mo_text mv_Mo_text (c_Mo_text hCS2.1 (hMSz.km hkm2) hCS.awf (fun I3 L3 hMS3 hfk3 => ?_))
  refine aw_icmp_eq e_Lw_law_610 (fun hh => ?_) (fun hh => ?_)
  · rcases hz2 with rfl | ⟨z1, z2⟩
    · exact k1314 _ _ _ _ _ xn (hCS2.mo hfk3) hMS3 hZ (by omega) (by omega)
    · exact k1314 _ _ _ _ _ (xn + 1) (hCS2.mo hfk3) hMS3 (by omega) (by omega) (by omega)
  · exact absurd rfl hh
theorem lw_15 {l : Launch} {E : En} {d : Nat} (hlen : E.2.2.2.2.1 ≤ 3072) {n xn : Nat} {I : It} {L : Lt} {R : Rt} {Z Z0 : Zt} {S : AS} (hn : 6 * n + 6 ≤ E.2.2.2.2.1) (hCS : CS I R Z S) (hMS : MSt I S) (hZ : Z.2.1 = 168 + 2 * xn) (hxn : xn ≤ n) (hsl : Z.2.2 ≤ 13093 + 100 * n) (k1314 : ∀ (I : It) (L : Lt) (R : Rt) (Z : Zt) (S : AS) (xn : Nat), CS I R Z S → MSt I S → Z.2.1 = 168 + 2 * xn → xn ≤ n + 1 → Z.2.2 ≤ 13093 + 100 * (n + 1) → AWq l E (d + 1412) M_Lw_law Z0 1314 [some (vr 53 0), some (vr 8 0), some (vr 9 0), some (vi (nI (6 * n)))] [] I L R Z lwQ) : AWq l E (d + 1412) M_Lw_law Z0 615 [some (vr 53 0), some (vr 8 0), some (vr 9 0), some (vi (nI (6 * n)))] [] I L R Z lwQ := by
  refine aw_aload_n e_Lw_law_615 rfl ?_
  refine aw_aload_n e_Lw_law_616 rfl ?_
  refine aw_iload_n e_Lw_law_617 rfl ?_
  refine aw_iconst (v := nI 1) e_Lw_law_618 (by decide) ?_
  first | refine awN_iadd e_Lw_law_619 ?_ | refine aw_iadd e_Lw_law_619 ?_
  refine aw_scLd e_Lw_law_620 rfl (by omega) (by omega) ?_
  refine aw_aload_n e_Lw_law_621 rfl ?_
  refine aw_iload_n e_Lw_law_622 rfl ?_
  refine aw_iconst (v := nI 2) e_Lw_law_623 (by decide) ?_
  first | refine awN_iadd e_Lw_law_624 ?_ | refine aw_iadd e_Lw_law_624 ?_
  refine aw_scLd e_Lw_law_625 rfl (by omega) (by omega) ?_
  refine aw_cV2 e_Lw_law_626 ml_Lw_77 mf_Pb_textTold mv_Pb_textTold (c_Pb_textTold hCS (fun I2 L2 R2 hCS2 hkm2 => ?_))
  refine aw_aload_n e_Lw_law_629 rfl ?_
  refine aw_aload_n e_Lw_law_630 rfl ?_
  refine aw_iload_n e_Lw_law_631 rfl ?_
  refine aw_iconst (v := nI 1) e_Lw_law_632 (by decide) ?_
  first | refine awN_iadd e_Lw_law_633 ?_ | refine aw_iadd e_Lw_law_633 ?_
  refine aw_scLd e_Lw_law_634 rfl (by omega) (by omega) ?_
  refine aw_aload_n e_Lw_law_635 rfl ?_
  refine aw_iload_n e_Lw_law_636 rfl ?_
  refine aw_iconst (v := nI 2) e_Lw_law_637 (by decide) ?_
  first | refine awN_iadd e_Lw_law_638 ?_ | refine aw_iadd e_Lw_law_638 ?_
  refine aw_scLd e_Lw_law_639 rfl (by omega) (by omega) ?_
  refine aw_cV2 e_Lw_law_640 ml_Lw_80 mf_Mo_textTold mv_Mo_textTold (c_Mo_textTold hCS2.1 (hMS.km hkm2) hCS.awf (fun I3 L3 hMS3 hfk3 => ?_))
  refine aw_icmp_eq e_Lw_law_643 (fun hh => ?_) (fun hh => ?_)
  · exact k1314 _ _ _ _ _ xn (hCS2.mo hfk3) hMS3 hZ (by omega) (by omega)
  · exact absurd rfl hh
theorem lw_16 {l : Launch} {E : En} {d : Nat} (hlen : E.2.2.2.2.1 ≤ 3072) {n xn : Nat} {I : It} {L : Lt} {R : Rt} {Z Z0 : Zt} {S : AS} (hn : 6 * n + 6 ≤ E.2.2.2.2.1) (hCS : CS I R Z S) (hMS : MSt I S) (hZ : Z.2.1 = 168 + 2 * xn) (hxn : xn ≤ n) (hsl : Z.2.2 ≤ 13093 + 100 * n) (k1314 : ∀ (I : It) (L : Lt) (R : Rt) (Z : Zt) (S : AS) (xn : Nat), CS I R Z S → MSt I S → Z.2.1 = 168 + 2 * xn → xn ≤ n + 1 → Z.2.2 ≤ 13093 + 100 * (n + 1) → AWq l E (d + 1412) M_Lw_law Z0 1314 [some (vr 53 0), some (vr 8 0), some (vr 9 0), some (vi (nI (6 * n)))] [] I L R Z lwQ) : AWq l E (d + 1412) M_Lw_law Z0 648 [some (vr 53 0), some (vr 8 0), some (vr 9 0), some (vi (nI (6 * n)))] [] I L R Z lwQ := by
  refine aw_aload_n e_Lw_law_648 rfl ?_
  refine aw_aload_n e_Lw_law_649 rfl ?_
  refine aw_iload_n e_Lw_law_650 rfl ?_
  refine aw_iconst (v := nI 1) e_Lw_law_651 (by decide) ?_
  first | refine awN_iadd e_Lw_law_652 ?_ | refine aw_iadd e_Lw_law_652 ?_
  refine aw_scLd e_Lw_law_653 rfl (by omega) (by omega) ?_
  refine aw_aload_n e_Lw_law_654 rfl ?_
  refine aw_iload_n e_Lw_law_655 rfl ?_
  refine aw_iconst (v := nI 2) e_Lw_law_656 (by decide) ?_
  first | refine awN_iadd e_Lw_law_657 ?_ | refine aw_iadd e_Lw_law_657 ?_
  refine aw_scLd e_Lw_law_658 rfl (by omega) (by omega) ?_
  refine aw_cV2 e_Lw_law_659 ml_Lw_81 mf_Pb_why mv_Pb_why (c_Pb_why hCS (fun I2 L2 R2 hCS2 hkm2 => ?_))
  refine aw_aload_n e_Lw_law_662 rfl ?_
  refine aw_aload_n e_Lw_law_663 rfl ?_
  refine aw_iload_n e_Lw_law_664 rfl ?_
  refine aw_iconst (v := nI 1) e_Lw_law_665 (by decide) ?_
  first | refine awN_iadd e_Lw_law_666 ?_ | refine aw_iadd e_Lw_law_666 ?_
  refine aw_scLd e_Lw_law_667 rfl (by omega) (by omega) ?_
  refine aw_aload_n e_Lw_law_668 rfl ?_
  refine aw_iload_n e_Lw_law_669 rfl ?_
  refine aw_iconst (v := nI 2) e_Lw_law_670 (by decide) ?_
  first | refine awN_iadd e_Lw_law_671 ?_ | refine aw_iadd e_Lw_law_671 ?_
  refine aw_scLd e_Lw_law_672 rfl (by omega) (by omega) ?_
  refine aw_cV2 e_Lw_law_673 ml_Lw_84 mf_Mo_why mv_Mo_why (c_Mo_why hCS2.1 (hMS.km hkm2) hCS.awf (fun I3 L3 hMS3 hfk3 => ?_))
  refine aw_icmp_eq e_Lw_law_676 (fun hh => ?_) (fun hh => ?_)
  · exact k1314 _ _ _ _ _ xn (hCS2.mo hfk3) hMS3 hZ (by omega) (by omega)
  · exact absurd rfl hh
theorem lw_17 {l : Launch} {E : En} {d : Nat} (hlen : E.2.2.2.2.1 ≤ 3072) {n xn : Nat} {I : It} {L : Lt} {R : Rt} {Z Z0 : Zt} {S : AS} (hn : 6 * n + 6 ≤ E.2.2.2.2.1) (hCS : CS I R Z S) (hMS : MSt I S) (hZ : Z.2.1 = 168 + 2 * xn) (hxn : xn ≤ n) (hsl : Z.2.2 ≤ 13093 + 100 * n) (k1314 : ∀ (I : It) (L : Lt) (R : Rt) (Z : Zt) (S : AS) (xn : Nat), CS I R Z S → MSt I S → Z.2.1 = 168 + 2 * xn → xn ≤ n + 1 → Z.2.2 ≤ 13093 + 100 * (n + 1) → AWq l E (d + 1412) M_Lw_law Z0 1314 [some (vr 53 0), some (vr 8 0), some (vr 9 0), some (vi (nI (6 * n)))] [] I L R Z lwQ) : AWq l E (d + 1412) M_Lw_law Z0 681 [some (vr 53 0), some (vr 8 0), some (vr 9 0), some (vi (nI (6 * n)))] [] I L R Z lwQ := by
  refine aw_aload_n e_Lw_law_681 rfl ?_
  refine aw_aload_n e_Lw_law_682 rfl ?_
  refine aw_iload_n e_Lw_law_683 rfl ?_
  refine aw_iconst (v := nI 1) e_Lw_law_684 (by decide) ?_
  first | refine awN_iadd e_Lw_law_685 ?_ | refine aw_iadd e_Lw_law_685 ?_
  refine aw_scLd e_Lw_law_686 rfl (by omega) (by omega) ?_
  refine aw_cV1 e_Lw_law_687 ml_Lw_85 mf_Pb_read mv_Pb_read (c_Pb_read hCS (fun I2 L2 R2 hCS2 hkm2 => ?_))
  refine aw_aload_n e_Lw_law_690 rfl ?_
  refine aw_aload_n e_Lw_law_691 rfl ?_
  refine aw_iload_n e_Lw_law_692 rfl ?_
  refine aw_iconst (v := nI 1) e_Lw_law_693 (by decide) ?_
  first | refine awN_iadd e_Lw_law_694 ?_ | refine aw_iadd e_Lw_law_694 ?_
  refine aw_scLd e_Lw_law_695 rfl (by omega) (by omega) ?_
  refine aw_cV1 e_Lw_law_696 ml_Lw_88 mf_Mo_read mv_Mo_read (c_Mo_read hCS2.1 (hMS.km hkm2) hCS.awf (fun I3 L3 hMS3 hfk3 => ?_))
  refine aw_icmp_eq e_Lw_law_699 (fun hh => ?_) (fun hh => ?_)
  · exact k1314 _ _ _ _ _ xn (hCS2.mo hfk3) hMS3 hZ (by omega) (by omega)
  · exact absurd rfl hh
theorem lw_18 {l : Launch} {E : En} {d : Nat} (hlen : E.2.2.2.2.1 ≤ 3072) {n xn : Nat} {I : It} {L : Lt} {R : Rt} {Z Z0 : Zt} {S : AS} (hn : 6 * n + 6 ≤ E.2.2.2.2.1) (hCS : CS I R Z S) (hMS : MSt I S) (hZ : Z.2.1 = 168 + 2 * xn) (hxn : xn ≤ n) (hsl : Z.2.2 ≤ 13093 + 100 * n) (k1314 : ∀ (I : It) (L : Lt) (R : Rt) (Z : Zt) (S : AS) (xn : Nat), CS I R Z S → MSt I S → Z.2.1 = 168 + 2 * xn → xn ≤ n + 1 → Z.2.2 ≤ 13093 + 100 * (n + 1) → AWq l E (d + 1412) M_Lw_law Z0 1314 [some (vr 53 0), some (vr 8 0), some (vr 9 0), some (vi (nI (6 * n)))] [] I L R Z lwQ) : AWq l E (d + 1412) M_Lw_law Z0 704 [some (vr 53 0), some (vr 8 0), some (vr 9 0), some (vi (nI (6 * n)))] [] I L R Z lwQ := by
  refine aw_aload_n e_Lw_law_704 rfl ?_
  refine aw_aload_n e_Lw_law_705 rfl ?_
  refine aw_iload_n e_Lw_law_706 rfl ?_
  refine aw_iconst (v := nI 1) e_Lw_law_707 (by decide) ?_
  first | refine awN_iadd e_Lw_law_708 ?_ | refine aw_iadd e_Lw_law_708 ?_
  refine aw_scLd e_Lw_law_709 rfl (by omega) (by omega) ?_
  refine aw_aload_n e_Lw_law_710 rfl ?_
  refine aw_iload_n e_Lw_law_711 rfl ?_
  refine aw_iconst (v := nI 2) e_Lw_law_712 (by decide) ?_
  first | refine awN_iadd e_Lw_law_713 ?_ | refine aw_iadd e_Lw_law_713 ?_
  refine aw_scLd e_Lw_law_714 rfl (by omega) (by omega) ?_
  refine aw_aload_n e_Lw_law_715 rfl ?_
  refine aw_iload_n e_Lw_law_716 rfl ?_
  refine aw_iconst (v := nI 3) e_Lw_law_717 (by decide) ?_
  first | refine awN_iadd e_Lw_law_718 ?_ | refine aw_iadd e_Lw_law_718 ?_
  refine aw_scLd e_Lw_law_719 rfl (by omega) (by omega) ?_
  refine aw_cV3 e_Lw_law_720 ml_Lw_89 mf_Pb_moves mv_Pb_moves (c_Pb_moves hCS (fun I2 L2 R2 hCS2 hkm2 => ?_))
  refine aw_aload_n e_Lw_law_723 rfl ?_
  refine aw_aload_n e_Lw_law_724 rfl ?_
  refine aw_iload_n e_Lw_law_725 rfl ?_
  refine aw_iconst (v := nI 1) e_Lw_law_726 (by decide) ?_
  first | refine awN_iadd e_Lw_law_727 ?_ | refine aw_iadd e_Lw_law_727 ?_
  refine aw_scLd e_Lw_law_728 rfl (by omega) (by omega) ?_
  refine aw_aload_n e_Lw_law_729 rfl ?_
  refine aw_iload_n e_Lw_law_730 rfl ?_
  refine aw_iconst (v := nI 2) e_Lw_law_731 (by decide) ?_
  first | refine awN_iadd e_Lw_law_732 ?_ | refine aw_iadd e_Lw_law_732 ?_
  refine aw_scLd e_Lw_law_733 rfl (by omega) (by omega) ?_
  refine aw_aload_n e_Lw_law_734 rfl ?_
  refine aw_iload_n e_Lw_law_735 rfl ?_
  refine aw_iconst (v := nI 3) e_Lw_law_736 (by decide) ?_
  first | refine awN_iadd e_Lw_law_737 ?_ | refine aw_iadd e_Lw_law_737 ?_
  refine aw_scLd e_Lw_law_738 rfl (by omega) (by omega) ?_
  refine aw_cV3 e_Lw_law_739 ml_Lw_92 mf_Mo_moves mv_Mo_moves (c_Mo_moves hCS2.1 (hMS.km hkm2) hCS.awf (fun I3 L3 hMS3 hfk3 => ?_))
  refine aw_icmp_eq e_Lw_law_742 (fun hh => ?_) (fun hh => ?_)
  · exact k1314 _ _ _ _ _ xn (hCS2.mo hfk3) hMS3 hZ (by omega) (by omega)
  · exact absurd rfl hh
theorem lw_19 {l : Launch} {E : En} {d : Nat} (hlen : E.2.2.2.2.1 ≤ 3072) {n xn : Nat} {I : It} {L : Lt} {R : Rt} {Z Z0 : Zt} {S : AS} (hn : 6 * n + 6 ≤ E.2.2.2.2.1) (hCS : CS I R Z S) (hMS : MSt I S) (hZ : Z.2.1 = 168 + 2 * xn) (hxn : xn ≤ n) (hsl : Z.2.2 ≤ 13093 + 100 * n) (k1314 : ∀ (I : It) (L : Lt) (R : Rt) (Z : Zt) (S : AS) (xn : Nat), CS I R Z S → MSt I S → Z.2.1 = 168 + 2 * xn → xn ≤ n + 1 → Z.2.2 ≤ 13093 + 100 * (n + 1) → AWq l E (d + 1412) M_Lw_law Z0 1314 [some (vr 53 0), some (vr 8 0), some (vr 9 0), some (vi (nI (6 * n)))] [] I L R Z lwQ) : AWq l E (d + 1412) M_Lw_law Z0 747 [some (vr 53 0), some (vr 8 0), some (vr 9 0), some (vi (nI (6 * n)))] [] I L R Z lwQ := by
  refine aw_aload_n e_Lw_law_747 rfl ?_
  refine aw_aload_n e_Lw_law_748 rfl ?_
  refine aw_iload_n e_Lw_law_749 rfl ?_
  refine aw_iconst (v := nI 1) e_Lw_law_750 (by decide) ?_
  first | refine awN_iadd e_Lw_law_751 ?_ | refine aw_iadd e_Lw_law_751 ?_
  refine aw_scLd e_Lw_law_752 rfl (by omega) (by omega) ?_
  refine aw_cV1 e_Lw_law_753 ml_Lw_93 mf_Pb_signs mv_Pb_signs (c_Pb_signs hCS (fun I2 L2 R2 hCS2 hkm2 => ?_))
  refine aw_aload_n e_Lw_law_756 rfl ?_
  refine aw_aload_n e_Lw_law_757 rfl ?_
  refine aw_iload_n e_Lw_law_758 rfl ?_
  refine aw_iconst (v := nI 1) e_Lw_law_759 (by decide) ?_
  first | refine awN_iadd e_Lw_law_760 ?_ | refine aw_iadd e_Lw_law_760 ?_
  refine aw_scLd e_Lw_law_761 rfl (by omega) (by omega) ?_
  refine aw_cV1 e_Lw_law_762 ml_Lw_96 mf_Mo_signs mv_Mo_signs (c_Mo_signsO hCS2.1 (hMS.km hkm2) hCS.awf (fun I3 L3 hMS3 hfk3 => ?_))
  refine aw_icmp_eq e_Lw_law_765 (fun hh => ?_) (fun hh => ?_)
  · exact k1314 _ _ _ _ _ xn (hCS2.mo hfk3) hMS3 hZ (by omega) (by omega)
  · exact absurd rfl hh
theorem lw_20 {l : Launch} {E : En} {d : Nat} (hlen : E.2.2.2.2.1 ≤ 3072) {n xn : Nat} {I : It} {L : Lt} {R : Rt} {Z Z0 : Zt} {S : AS} (hn : 6 * n + 6 ≤ E.2.2.2.2.1) (hCS : CS I R Z S) (hMS : MSt I S) (hZ : Z.2.1 = 168 + 2 * xn) (hxn : xn ≤ n) (hsl : Z.2.2 ≤ 13093 + 100 * n) (k1314 : ∀ (I : It) (L : Lt) (R : Rt) (Z : Zt) (S : AS) (xn : Nat), CS I R Z S → MSt I S → Z.2.1 = 168 + 2 * xn → xn ≤ n + 1 → Z.2.2 ≤ 13093 + 100 * (n + 1) → AWq l E (d + 1412) M_Lw_law Z0 1314 [some (vr 53 0), some (vr 8 0), some (vr 9 0), some (vi (nI (6 * n)))] [] I L R Z lwQ) : AWq l E (d + 1412) M_Lw_law Z0 770 [some (vr 53 0), some (vr 8 0), some (vr 9 0), some (vi (nI (6 * n)))] [] I L R Z lwQ := by
  refine aw_aload_n e_Lw_law_770 rfl ?_
  refine aw_aload_n e_Lw_law_771 rfl ?_
  refine aw_iload_n e_Lw_law_772 rfl ?_
  refine aw_iconst (v := nI 1) e_Lw_law_773 (by decide) ?_
  first | refine awN_iadd e_Lw_law_774 ?_ | refine aw_iadd e_Lw_law_774 ?_
  refine aw_scLd e_Lw_law_775 rfl (by omega) (by omega) ?_
  refine aw_aload_n e_Lw_law_776 rfl ?_
  refine aw_iload_n e_Lw_law_777 rfl ?_
  refine aw_iconst (v := nI 2) e_Lw_law_778 (by decide) ?_
  first | refine awN_iadd e_Lw_law_779 ?_ | refine aw_iadd e_Lw_law_779 ?_
  refine aw_scLd e_Lw_law_780 rfl (by omega) (by omega) ?_
  refine aw_cV2 e_Lw_law_781 ml_Lw_97 mf_Pb_apart mv_Pb_apart (c_Pb_apart hCS (fun I2 L2 R2 hCS2 hkm2 => ?_))
  refine aw_aload_n e_Lw_law_784 rfl ?_
  refine aw_aload_n e_Lw_law_785 rfl ?_
  refine aw_iload_n e_Lw_law_786 rfl ?_
  refine aw_iconst (v := nI 1) e_Lw_law_787 (by decide) ?_
  first | refine awN_iadd e_Lw_law_788 ?_ | refine aw_iadd e_Lw_law_788 ?_
  refine aw_scLd e_Lw_law_789 rfl (by omega) (by omega) ?_
  refine aw_aload_n e_Lw_law_790 rfl ?_
  refine aw_iload_n e_Lw_law_791 rfl ?_
  refine aw_iconst (v := nI 2) e_Lw_law_792 (by decide) ?_
  first | refine awN_iadd e_Lw_law_793 ?_ | refine aw_iadd e_Lw_law_793 ?_
  refine aw_scLd e_Lw_law_794 rfl (by omega) (by omega) ?_
  refine aw_cV2 e_Lw_law_795 ml_Lw_100 mf_Mo_apart mv_Mo_apart (c_Mo_apart hCS2.1 (hMS.km hkm2) hCS.awf (fun I3 L3 hMS3 hfk3 => ?_))
  refine aw_icmp_eq e_Lw_law_798 (fun hh => ?_) (fun hh => ?_)
  · exact k1314 _ _ _ _ _ xn (hCS2.mo hfk3) hMS3 hZ (by omega) (by omega)
  · exact absurd rfl hh
theorem lw_21 {l : Launch} {E : En} {d : Nat} (hlen : E.2.2.2.2.1 ≤ 3072) {n xn : Nat} {I : It} {L : Lt} {R : Rt} {Z Z0 : Zt} {S : AS} (hn : 6 * n + 6 ≤ E.2.2.2.2.1) (hCS : CS I R Z S) (hMS : MSt I S) (hZ : Z.2.1 = 168 + 2 * xn) (hxn : xn ≤ n) (hsl : Z.2.2 ≤ 13093 + 100 * n) (k1314 : ∀ (I : It) (L : Lt) (R : Rt) (Z : Zt) (S : AS) (xn : Nat), CS I R Z S → MSt I S → Z.2.1 = 168 + 2 * xn → xn ≤ n + 1 → Z.2.2 ≤ 13093 + 100 * (n + 1) → AWq l E (d + 1412) M_Lw_law Z0 1314 [some (vr 53 0), some (vr 8 0), some (vr 9 0), some (vi (nI (6 * n)))] [] I L R Z lwQ) : AWq l E (d + 1412) M_Lw_law Z0 803 [some (vr 53 0), some (vr 8 0), some (vr 9 0), some (vi (nI (6 * n)))] [] I L R Z lwQ := by
  refine aw_aload_n e_Lw_law_803 rfl ?_
  refine aw_cV0 e_Lw_law_804 ml_Lw_101 mf_Pb_dual mv_Pb_dual (c_Pb_dual hCS (fun I2 L2 R2 hCS2 hkm2 => ?_))
  refine aw_aload_n e_Lw_law_807 rfl ?_
  refine aw_cV0 e_Lw_law_808 ml_Lw_104 mf_Mo_dual mv_Mo_dual (c_Mo_dual hCS2.1 (hMS.km hkm2) hCS.awf (fun I3 L3 hMS3 hfk3 => ?_))
  refine aw_icmp_eq e_Lw_law_811 (fun hh => ?_) (fun hh => ?_)
  · exact k1314 _ _ _ _ _ xn (hCS2.mo hfk3) hMS3 hZ (by omega) (by omega)
  · exact absurd rfl hh
theorem lw_22 {l : Launch} {E : En} {d : Nat} (hlen : E.2.2.2.2.1 ≤ 3072) {n xn : Nat} {I : It} {L : Lt} {R : Rt} {Z Z0 : Zt} {S : AS} (hn : 6 * n + 6 ≤ E.2.2.2.2.1) (hCS : CS I R Z S) (hMS : MSt I S) (hZ : Z.2.1 = 168 + 2 * xn) (hxn : xn ≤ n) (hsl : Z.2.2 ≤ 13093 + 100 * n) (k1314 : ∀ (I : It) (L : Lt) (R : Rt) (Z : Zt) (S : AS) (xn : Nat), CS I R Z S → MSt I S → Z.2.1 = 168 + 2 * xn → xn ≤ n + 1 → Z.2.2 ≤ 13093 + 100 * (n + 1) → AWq l E (d + 1412) M_Lw_law Z0 1314 [some (vr 53 0), some (vr 8 0), some (vr 9 0), some (vi (nI (6 * n)))] [] I L R Z lwQ) : AWq l E (d + 1412) M_Lw_law Z0 816 [some (vr 53 0), some (vr 8 0), some (vr 9 0), some (vi (nI (6 * n)))] [] I L R Z lwQ := by
  refine aw_aload_n e_Lw_law_816 rfl ?_
  refine aw_cV0 e_Lw_law_817 ml_Lw_105 mf_Pb_rings mv_Pb_rings (c_Pb_rings hCS (fun I2 L2 R2 hCS2 hkm2 => ?_))
  refine aw_aload_n e_Lw_law_820 rfl ?_
  refine aw_cV0 e_Lw_law_821 ml_Lw_108 mf_Mo_rings mv_Mo_rings (c_Mo_rings hCS2.1 (hMS.km hkm2) hCS.awf (fun I3 L3 hMS3 hfk3 => ?_))
  refine aw_icmp_eq e_Lw_law_824 (fun hh => ?_) (fun hh => ?_)
  · exact k1314 _ _ _ _ _ xn (hCS2.mo hfk3) hMS3 hZ (by omega) (by omega)
  · exact absurd rfl hh
theorem lw_23 {l : Launch} {E : En} {d : Nat} (hlen : E.2.2.2.2.1 ≤ 3072) {n xn : Nat} {I : It} {L : Lt} {R : Rt} {Z Z0 : Zt} {S : AS} (hn : 6 * n + 6 ≤ E.2.2.2.2.1) (hCS : CS I R Z S) (hMS : MSt I S) (hZ : Z.2.1 = 168 + 2 * xn) (hxn : xn ≤ n) (hsl : Z.2.2 ≤ 13093 + 100 * n) (k1314 : ∀ (I : It) (L : Lt) (R : Rt) (Z : Zt) (S : AS) (xn : Nat), CS I R Z S → MSt I S → Z.2.1 = 168 + 2 * xn → xn ≤ n + 1 → Z.2.2 ≤ 13093 + 100 * (n + 1) → AWq l E (d + 1412) M_Lw_law Z0 1314 [some (vr 53 0), some (vr 8 0), some (vr 9 0), some (vi (nI (6 * n)))] [] I L R Z lwQ) : AWq l E (d + 1412) M_Lw_law Z0 829 [some (vr 53 0), some (vr 8 0), some (vr 9 0), some (vi (nI (6 * n)))] [] I L R Z lwQ := by
  refine aw_aload_n e_Lw_law_829 rfl ?_
  refine aw_aload_n e_Lw_law_830 rfl ?_
  refine aw_iload_n e_Lw_law_831 rfl ?_
  refine aw_iconst (v := nI 1) e_Lw_law_832 (by decide) ?_
  first | refine awN_iadd e_Lw_law_833 ?_ | refine aw_iadd e_Lw_law_833 ?_
  refine aw_scLd e_Lw_law_834 rfl (by omega) (by omega) ?_
  refine aw_aload_n e_Lw_law_835 rfl ?_
  refine aw_iload_n e_Lw_law_836 rfl ?_
  refine aw_iconst (v := nI 2) e_Lw_law_837 (by decide) ?_
  first | refine awN_iadd e_Lw_law_838 ?_ | refine aw_iadd e_Lw_law_838 ?_
  refine aw_scLd e_Lw_law_839 rfl (by omega) (by omega) ?_
  refine aw_cV2 e_Lw_law_840 ml_Lw_109 mf_Pb_way mv_Pb_way (c_Pb_way hCS (fun I2 L2 R2 hCS2 hkm2 => ?_))
  refine aw_aload_n e_Lw_law_843 rfl ?_
  refine aw_aload_n e_Lw_law_844 rfl ?_
  refine aw_iload_n e_Lw_law_845 rfl ?_
  refine aw_iconst (v := nI 1) e_Lw_law_846 (by decide) ?_
  first | refine awN_iadd e_Lw_law_847 ?_ | refine aw_iadd e_Lw_law_847 ?_
  refine aw_scLd e_Lw_law_848 rfl (by omega) (by omega) ?_
  refine aw_aload_n e_Lw_law_849 rfl ?_
  refine aw_iload_n e_Lw_law_850 rfl ?_
  refine aw_iconst (v := nI 2) e_Lw_law_851 (by decide) ?_
  first | refine awN_iadd e_Lw_law_852 ?_ | refine aw_iadd e_Lw_law_852 ?_
  refine aw_scLd e_Lw_law_853 rfl (by omega) (by omega) ?_
  refine aw_cV2 e_Lw_law_854 ml_Lw_112 mf_Mo_way mv_Mo_way (c_Mo_way hCS2.1 (hMS.km hkm2) hCS.awf (fun I3 L3 hMS3 hfk3 => ?_))
  refine aw_icmp_eq e_Lw_law_857 (fun hh => ?_) (fun hh => ?_)
  · exact k1314 _ _ _ _ _ xn (hCS2.mo hfk3) hMS3 hZ (by omega) (by omega)
  · exact absurd rfl hh
theorem lw_24 {l : Launch} {E : En} {d : Nat} (hlen : E.2.2.2.2.1 ≤ 3072) {n xn : Nat} {I : It} {L : Lt} {R : Rt} {Z Z0 : Zt} {S : AS} (hn : 6 * n + 6 ≤ E.2.2.2.2.1) (hCS : CS I R Z S) (hMS : MSt I S) (hZ : Z.2.1 = 168 + 2 * xn) (hxn : xn ≤ n) (hsl : Z.2.2 ≤ 13093 + 100 * n) (k1314 : ∀ (I : It) (L : Lt) (R : Rt) (Z : Zt) (S : AS) (xn : Nat), CS I R Z S → MSt I S → Z.2.1 = 168 + 2 * xn → xn ≤ n + 1 → Z.2.2 ≤ 13093 + 100 * (n + 1) → AWq l E (d + 1412) M_Lw_law Z0 1314 [some (vr 53 0), some (vr 8 0), some (vr 9 0), some (vi (nI (6 * n)))] [] I L R Z lwQ) : AWq l E (d + 1412) M_Lw_law Z0 862 [some (vr 53 0), some (vr 8 0), some (vr 9 0), some (vi (nI (6 * n)))] [] I L R Z lwQ := by
  refine aw_aload_n e_Lw_law_862 rfl ?_
  refine aw_aload_n e_Lw_law_863 rfl ?_
  refine aw_iload_n e_Lw_law_864 rfl ?_
  refine aw_iconst (v := nI 1) e_Lw_law_865 (by decide) ?_
  first | refine awN_iadd e_Lw_law_866 ?_ | refine aw_iadd e_Lw_law_866 ?_
  refine aw_scLd e_Lw_law_867 rfl (by omega) (by omega) ?_
  refine aw_aload_n e_Lw_law_868 rfl ?_
  refine aw_iload_n e_Lw_law_869 rfl ?_
  refine aw_iconst (v := nI 2) e_Lw_law_870 (by decide) ?_
  first | refine awN_iadd e_Lw_law_871 ?_ | refine aw_iadd e_Lw_law_871 ?_
  refine aw_scLd e_Lw_law_872 rfl (by omega) (by omega) ?_
  refine aw_aload_n e_Lw_law_873 rfl ?_
  refine aw_iload_n e_Lw_law_874 rfl ?_
  refine aw_iconst (v := nI 3) e_Lw_law_875 (by decide) ?_
  first | refine awN_iadd e_Lw_law_876 ?_ | refine aw_iadd e_Lw_law_876 ?_
  refine aw_scLd e_Lw_law_877 rfl (by omega) (by omega) ?_
  refine aw_cV3 e_Lw_law_878 ml_Lw_113 mf_Pb_worth mv_Pb_worth (c_Pb_worth hCS (fun I2 L2 R2 hCS2 hkm2 => ?_))
  refine aw_aload_n e_Lw_law_881 rfl ?_
  refine aw_aload_n e_Lw_law_882 rfl ?_
  refine aw_iload_n e_Lw_law_883 rfl ?_
  refine aw_iconst (v := nI 1) e_Lw_law_884 (by decide) ?_
  first | refine awN_iadd e_Lw_law_885 ?_ | refine aw_iadd e_Lw_law_885 ?_
  refine aw_scLd e_Lw_law_886 rfl (by omega) (by omega) ?_
  refine aw_aload_n e_Lw_law_887 rfl ?_
  refine aw_iload_n e_Lw_law_888 rfl ?_
  refine aw_iconst (v := nI 2) e_Lw_law_889 (by decide) ?_
  first | refine awN_iadd e_Lw_law_890 ?_ | refine aw_iadd e_Lw_law_890 ?_
  refine aw_scLd e_Lw_law_891 rfl (by omega) (by omega) ?_
  refine aw_aload_n e_Lw_law_892 rfl ?_
  refine aw_iload_n e_Lw_law_893 rfl ?_
  refine aw_iconst (v := nI 3) e_Lw_law_894 (by decide) ?_
  first | refine awN_iadd e_Lw_law_895 ?_ | refine aw_iadd e_Lw_law_895 ?_
  refine aw_scLd e_Lw_law_896 rfl (by omega) (by omega) ?_
  refine aw_cV3 e_Lw_law_897 ml_Lw_116 mf_Mo_worth mv_Mo_worth (c_Mo_worth hCS2.1 (hMS.km hkm2) hCS.awf (fun I3 L3 hMS3 hfk3 => ?_))
  refine aw_icmp_eq e_Lw_law_900 (fun hh => ?_) (fun hh => ?_)
  · exact k1314 _ _ _ _ _ xn (hCS2.mo hfk3) hMS3 hZ (by omega) (by omega)
  · exact absurd rfl hh
theorem lw_25 {l : Launch} {E : En} {d : Nat} (hlen : E.2.2.2.2.1 ≤ 3072) {n xn : Nat} {I : It} {L : Lt} {R : Rt} {Z Z0 : Zt} {S : AS} (hn : 6 * n + 6 ≤ E.2.2.2.2.1) (hCS : CS I R Z S) (hMS : MSt I S) (hZ : Z.2.1 = 168 + 2 * xn) (hxn : xn ≤ n) (hsl : Z.2.2 ≤ 13093 + 100 * n) (k1314 : ∀ (I : It) (L : Lt) (R : Rt) (Z : Zt) (S : AS) (xn : Nat), CS I R Z S → MSt I S → Z.2.1 = 168 + 2 * xn → xn ≤ n + 1 → Z.2.2 ≤ 13093 + 100 * (n + 1) → AWq l E (d + 1412) M_Lw_law Z0 1314 [some (vr 53 0), some (vr 8 0), some (vr 9 0), some (vi (nI (6 * n)))] [] I L R Z lwQ) : AWq l E (d + 1412) M_Lw_law Z0 905 [some (vr 53 0), some (vr 8 0), some (vr 9 0), some (vi (nI (6 * n)))] [] I L R Z lwQ := by
  refine aw_aload_n e_Lw_law_905 rfl ?_
  refine aw_aload_n e_Lw_law_906 rfl ?_
  refine aw_iload_n e_Lw_law_907 rfl ?_
  refine aw_iconst (v := nI 1) e_Lw_law_908 (by decide) ?_
  first | refine awN_iadd e_Lw_law_909 ?_ | refine aw_iadd e_Lw_law_909 ?_
  refine aw_scLd e_Lw_law_910 rfl (by omega) (by omega) ?_
  refine aw_aload_n e_Lw_law_911 rfl ?_
  refine aw_iload_n e_Lw_law_912 rfl ?_
  refine aw_iconst (v := nI 2) e_Lw_law_913 (by decide) ?_
  first | refine awN_iadd e_Lw_law_914 ?_ | refine aw_iadd e_Lw_law_914 ?_
  refine aw_scLd e_Lw_law_915 rfl (by omega) (by omega) ?_
  refine aw_aload_n e_Lw_law_916 rfl ?_
  refine aw_iload_n e_Lw_law_917 rfl ?_
  refine aw_iconst (v := nI 3) e_Lw_law_918 (by decide) ?_
  first | refine awN_iadd e_Lw_law_919 ?_ | refine aw_iadd e_Lw_law_919 ?_
  refine aw_scLd e_Lw_law_920 rfl (by omega) (by omega) ?_
  refine aw_cV3 e_Lw_law_921 ml_Lw_117 mf_Pb_sheet mv_Pb_sheet (c_Pb_sheet hCS (fun I2 L2 R2 hCS2 hkm2 => ?_))
  refine aw_aload_n e_Lw_law_924 rfl ?_
  refine aw_aload_n e_Lw_law_925 rfl ?_
  refine aw_iload_n e_Lw_law_926 rfl ?_
  refine aw_iconst (v := nI 1) e_Lw_law_927 (by decide) ?_
  first | refine awN_iadd e_Lw_law_928 ?_ | refine aw_iadd e_Lw_law_928 ?_
  refine aw_scLd e_Lw_law_929 rfl (by omega) (by omega) ?_
  refine aw_aload_n e_Lw_law_930 rfl ?_
  refine aw_iload_n e_Lw_law_931 rfl ?_
  refine aw_iconst (v := nI 2) e_Lw_law_932 (by decide) ?_
  first | refine awN_iadd e_Lw_law_933 ?_ | refine aw_iadd e_Lw_law_933 ?_
  refine aw_scLd e_Lw_law_934 rfl (by omega) (by omega) ?_
  refine aw_aload_n e_Lw_law_935 rfl ?_
  refine aw_iload_n e_Lw_law_936 rfl ?_
  refine aw_iconst (v := nI 3) e_Lw_law_937 (by decide) ?_
  first | refine awN_iadd e_Lw_law_938 ?_ | refine aw_iadd e_Lw_law_938 ?_
  refine aw_scLd e_Lw_law_939 rfl (by omega) (by omega) ?_
  refine aw_cV3 e_Lw_law_940 ml_Lw_120 mf_Mo_sheet mv_Mo_sheet (c_Mo_sheet hCS2.1 (hMS.km hkm2) hCS.awf (fun I3 L3 hMS3 hfk3 => ?_))
  refine aw_icmp_eq e_Lw_law_943 (fun hh => ?_) (fun hh => ?_)
  · exact k1314 _ _ _ _ _ xn (hCS2.mo hfk3) hMS3 hZ (by omega) (by omega)
  · exact absurd rfl hh
theorem lw_26 {l : Launch} {E : En} {d : Nat} (hlen : E.2.2.2.2.1 ≤ 3072) {n xn : Nat} {I : It} {L : Lt} {R : Rt} {Z Z0 : Zt} {S : AS} (hn : 6 * n + 6 ≤ E.2.2.2.2.1) (hCS : CS I R Z S) (hMS : MSt I S) (hZ : Z.2.1 = 168 + 2 * xn) (hxn : xn ≤ n) (hsl : Z.2.2 ≤ 13093 + 100 * n) (k1314 : ∀ (I : It) (L : Lt) (R : Rt) (Z : Zt) (S : AS) (xn : Nat), CS I R Z S → MSt I S → Z.2.1 = 168 + 2 * xn → xn ≤ n + 1 → Z.2.2 ≤ 13093 + 100 * (n + 1) → AWq l E (d + 1412) M_Lw_law Z0 1314 [some (vr 53 0), some (vr 8 0), some (vr 9 0), some (vi (nI (6 * n)))] [] I L R Z lwQ) : AWq l E (d + 1412) M_Lw_law Z0 948 [some (vr 53 0), some (vr 8 0), some (vr 9 0), some (vi (nI (6 * n)))] [] I L R Z lwQ := by
  refine aw_aload_n e_Lw_law_948 rfl ?_
  refine aw_aload_n e_Lw_law_949 rfl ?_
  refine aw_iload_n e_Lw_law_950 rfl ?_
  refine aw_iconst (v := nI 1) e_Lw_law_951 (by decide) ?_
  first | refine awN_iadd e_Lw_law_952 ?_ | refine aw_iadd e_Lw_law_952 ?_
  refine aw_scLd e_Lw_law_953 rfl (by omega) (by omega) ?_
  refine aw_aload_n e_Lw_law_954 rfl ?_
  refine aw_iload_n e_Lw_law_955 rfl ?_
  refine aw_iconst (v := nI 2) e_Lw_law_956 (by decide) ?_
  first | refine awN_iadd e_Lw_law_957 ?_ | refine aw_iadd e_Lw_law_957 ?_
  refine aw_scLd e_Lw_law_958 rfl (by omega) (by omega) ?_
  refine aw_aload_n e_Lw_law_959 rfl ?_
  refine aw_iload_n e_Lw_law_960 rfl ?_
  refine aw_iconst (v := nI 3) e_Lw_law_961 (by decide) ?_
  first | refine awN_iadd e_Lw_law_962 ?_ | refine aw_iadd e_Lw_law_962 ?_
  refine aw_scLd e_Lw_law_963 rfl (by omega) (by omega) ?_
  refine aw_cV3 e_Lw_law_964 ml_Lw_121 mf_Pb_mark mv_Pb_mark (c_Pb_mark hCS (fun I2 L2 R2 hCS2 hkm2 => ?_))
  refine aw_aload_n e_Lw_law_967 rfl ?_
  refine aw_aload_n e_Lw_law_968 rfl ?_
  refine aw_iload_n e_Lw_law_969 rfl ?_
  refine aw_iconst (v := nI 1) e_Lw_law_970 (by decide) ?_
  first | refine awN_iadd e_Lw_law_971 ?_ | refine aw_iadd e_Lw_law_971 ?_
  refine aw_scLd e_Lw_law_972 rfl (by omega) (by omega) ?_
  refine aw_aload_n e_Lw_law_973 rfl ?_
  refine aw_iload_n e_Lw_law_974 rfl ?_
  refine aw_iconst (v := nI 2) e_Lw_law_975 (by decide) ?_
  first | refine awN_iadd e_Lw_law_976 ?_ | refine aw_iadd e_Lw_law_976 ?_
  refine aw_scLd e_Lw_law_977 rfl (by omega) (by omega) ?_
  refine aw_aload_n e_Lw_law_978 rfl ?_
  refine aw_iload_n e_Lw_law_979 rfl ?_
  refine aw_iconst (v := nI 3) e_Lw_law_980 (by decide) ?_
  first | refine awN_iadd e_Lw_law_981 ?_ | refine aw_iadd e_Lw_law_981 ?_
  refine aw_scLd e_Lw_law_982 rfl (by omega) (by omega) ?_
  refine aw_cV3 e_Lw_law_983 ml_Lw_124 mf_Mo_mark mv_Mo_mark (c_Mo_mark hCS2.1 (hMS.km hkm2) hCS.awf (fun I3 L3 hMS3 hfk3 => ?_))
  refine aw_icmp_eq e_Lw_law_986 (fun hh => ?_) (fun hh => ?_)
  · exact k1314 _ _ _ _ _ xn (hCS2.mo hfk3) hMS3 hZ (by omega) (by omega)
  · exact absurd rfl hh
theorem lw_27 {l : Launch} {E : En} {d : Nat} (hlen : E.2.2.2.2.1 ≤ 3072) {n xn : Nat} {I : It} {L : Lt} {R : Rt} {Z Z0 : Zt} {S : AS} (hn : 6 * n + 6 ≤ E.2.2.2.2.1) (hCS : CS I R Z S) (hMS : MSt I S) (hZ : Z.2.1 = 168 + 2 * xn) (hxn : xn ≤ n) (hsl : Z.2.2 ≤ 13093 + 100 * n) (k1314 : ∀ (I : It) (L : Lt) (R : Rt) (Z : Zt) (S : AS) (xn : Nat), CS I R Z S → MSt I S → Z.2.1 = 168 + 2 * xn → xn ≤ n + 1 → Z.2.2 ≤ 13093 + 100 * (n + 1) → AWq l E (d + 1412) M_Lw_law Z0 1314 [some (vr 53 0), some (vr 8 0), some (vr 9 0), some (vi (nI (6 * n)))] [] I L R Z lwQ) : AWq l E (d + 1412) M_Lw_law Z0 991 [some (vr 53 0), some (vr 8 0), some (vr 9 0), some (vi (nI (6 * n)))] [] I L R Z lwQ := by
  refine aw_aload_n e_Lw_law_991 rfl ?_
  refine aw_aload_n e_Lw_law_992 rfl ?_
  refine aw_iload_n e_Lw_law_993 rfl ?_
  refine aw_iconst (v := nI 1) e_Lw_law_994 (by decide) ?_
  first | refine awN_iadd e_Lw_law_995 ?_ | refine aw_iadd e_Lw_law_995 ?_
  refine aw_scLd e_Lw_law_996 rfl (by omega) (by omega) ?_
  refine aw_cV1 e_Lw_law_997 ml_Lw_125 mf_Pb_pour mv_Pb_pour (c_Pb_pour hCS (fun I2 L2 R2 hCS2 hkm2 => ?_))
  refine aw_aload_n e_Lw_law_1000 rfl ?_
  refine aw_aload_n e_Lw_law_1001 rfl ?_
  refine aw_iload_n e_Lw_law_1002 rfl ?_
  refine aw_iconst (v := nI 1) e_Lw_law_1003 (by decide) ?_
  first | refine awN_iadd e_Lw_law_1004 ?_ | refine aw_iadd e_Lw_law_1004 ?_
  refine aw_scLd e_Lw_law_1005 rfl (by omega) (by omega) ?_
  refine aw_cV1 e_Lw_law_1006 ml_Lw_128 mf_Mo_pour mv_Mo_pour (c_Mo_pour hCS2.1 (hMS.km hkm2) hCS.awf (fun I3 L3 hMS3 hfk3 => ?_))
  refine aw_icmp_eq e_Lw_law_1009 (fun hh => ?_) (fun hh => ?_)
  · exact k1314 _ _ _ _ _ xn (hCS2.mo hfk3) hMS3 hZ (by omega) (by omega)
  · exact absurd rfl hh
theorem lw_28 {l : Launch} {E : En} {d : Nat} (hlen : E.2.2.2.2.1 ≤ 3072) {n xn : Nat} {I : It} {L : Lt} {R : Rt} {Z Z0 : Zt} {S : AS} (hn : 6 * n + 6 ≤ E.2.2.2.2.1) (hCS : CS I R Z S) (hMS : MSt I S) (hZ : Z.2.1 = 168 + 2 * xn) (hxn : xn ≤ n) (hsl : Z.2.2 ≤ 13093 + 100 * n) (k1314 : ∀ (I : It) (L : Lt) (R : Rt) (Z : Zt) (S : AS) (xn : Nat), CS I R Z S → MSt I S → Z.2.1 = 168 + 2 * xn → xn ≤ n + 1 → Z.2.2 ≤ 13093 + 100 * (n + 1) → AWq l E (d + 1412) M_Lw_law Z0 1314 [some (vr 53 0), some (vr 8 0), some (vr 9 0), some (vi (nI (6 * n)))] [] I L R Z lwQ) : AWq l E (d + 1412) M_Lw_law Z0 1014 [some (vr 53 0), some (vr 8 0), some (vr 9 0), some (vi (nI (6 * n)))] [] I L R Z lwQ := by
  refine aw_aload_n e_Lw_law_1014 rfl ?_
  refine aw_aload_n e_Lw_law_1015 rfl ?_
  refine aw_iload_n e_Lw_law_1016 rfl ?_
  refine aw_iconst (v := nI 1) e_Lw_law_1017 (by decide) ?_
  first | refine awN_iadd e_Lw_law_1018 ?_ | refine aw_iadd e_Lw_law_1018 ?_
  refine aw_scLd e_Lw_law_1019 rfl (by omega) (by omega) ?_
  refine aw_aload_n e_Lw_law_1020 rfl ?_
  refine aw_iload_n e_Lw_law_1021 rfl ?_
  refine aw_iconst (v := nI 2) e_Lw_law_1022 (by decide) ?_
  first | refine awN_iadd e_Lw_law_1023 ?_ | refine aw_iadd e_Lw_law_1023 ?_
  refine aw_scLd e_Lw_law_1024 rfl (by omega) (by omega) ?_
  refine aw_aload_n e_Lw_law_1025 rfl ?_
  refine aw_iload_n e_Lw_law_1026 rfl ?_
  refine aw_iconst (v := nI 3) e_Lw_law_1027 (by decide) ?_
  first | refine awN_iadd e_Lw_law_1028 ?_ | refine aw_iadd e_Lw_law_1028 ?_
  refine aw_scLd e_Lw_law_1029 rfl (by omega) (by omega) ?_
  refine aw_aload_n e_Lw_law_1030 rfl ?_
  refine aw_iload_n e_Lw_law_1031 rfl ?_
  refine aw_iconst (v := nI 4) e_Lw_law_1032 (by decide) ?_
  first | refine awN_iadd e_Lw_law_1033 ?_ | refine aw_iadd e_Lw_law_1033 ?_
  refine aw_scLd e_Lw_law_1034 rfl (by omega) (by omega) ?_
  refine aw_aload_n e_Lw_law_1035 rfl ?_
  refine aw_iload_n e_Lw_law_1036 rfl ?_
  refine aw_iconst (v := nI 5) e_Lw_law_1037 (by decide) ?_
  first | refine awN_iadd e_Lw_law_1038 ?_ | refine aw_iadd e_Lw_law_1038 ?_
  refine aw_scLd e_Lw_law_1039 rfl (by omega) (by omega) ?_
  refine aw_cV5 e_Lw_law_1040 ml_Lw_129 mf_Pb_copy mv_Pb_copy (c_Pb_copy hCS (fun I2 L2 R2 hCS2 hkm2 => ?_))
  refine aw_aload_n e_Lw_law_1043 rfl ?_
  refine aw_aload_n e_Lw_law_1044 rfl ?_
  refine aw_iload_n e_Lw_law_1045 rfl ?_
  refine aw_iconst (v := nI 1) e_Lw_law_1046 (by decide) ?_
  first | refine awN_iadd e_Lw_law_1047 ?_ | refine aw_iadd e_Lw_law_1047 ?_
  refine aw_scLd e_Lw_law_1048 rfl (by omega) (by omega) ?_
  refine aw_aload_n e_Lw_law_1049 rfl ?_
  refine aw_iload_n e_Lw_law_1050 rfl ?_
  refine aw_iconst (v := nI 2) e_Lw_law_1051 (by decide) ?_
  first | refine awN_iadd e_Lw_law_1052 ?_ | refine aw_iadd e_Lw_law_1052 ?_
  refine aw_scLd e_Lw_law_1053 rfl (by omega) (by omega) ?_
  refine aw_aload_n e_Lw_law_1054 rfl ?_
  refine aw_iload_n e_Lw_law_1055 rfl ?_
  refine aw_iconst (v := nI 3) e_Lw_law_1056 (by decide) ?_
  first | refine awN_iadd e_Lw_law_1057 ?_ | refine aw_iadd e_Lw_law_1057 ?_
  refine aw_scLd e_Lw_law_1058 rfl (by omega) (by omega) ?_
  refine aw_aload_n e_Lw_law_1059 rfl ?_
  refine aw_iload_n e_Lw_law_1060 rfl ?_
  refine aw_iconst (v := nI 4) e_Lw_law_1061 (by decide) ?_
  first | refine awN_iadd e_Lw_law_1062 ?_ | refine aw_iadd e_Lw_law_1062 ?_
  refine aw_scLd e_Lw_law_1063 rfl (by omega) (by omega) ?_
  refine aw_aload_n e_Lw_law_1064 rfl ?_
  refine aw_iload_n e_Lw_law_1065 rfl ?_
  refine aw_iconst (v := nI 5) e_Lw_law_1066 (by decide) ?_
  first | refine awN_iadd e_Lw_law_1067 ?_ | refine aw_iadd e_Lw_law_1067 ?_
  refine aw_scLd e_Lw_law_1068 rfl (by omega) (by omega) ?_
  refine aw_cV5 e_Lw_law_1069 ml_Lw_133 mf_Mo_copy mv_Mo_copy (c_Mo_copy hCS2.1 (hMS.km hkm2) hCS.awf (fun I3 L3 hMS3 hfk3 => ?_))
  refine aw_icmp_eq e_Lw_law_1072 (fun hh => ?_) (fun hh => ?_)
  · exact k1314 _ _ _ _ _ xn (hCS2.mo hfk3) hMS3 hZ (by omega) (by omega)
  · exact absurd rfl hh
theorem lw_29 {l : Launch} {E : En} {d : Nat} (hlen : E.2.2.2.2.1 ≤ 3072) {n xn : Nat} {I : It} {L : Lt} {R : Rt} {Z Z0 : Zt} {S : AS} (hn : 6 * n + 6 ≤ E.2.2.2.2.1) (hCS : CS I R Z S) (hMS : MSt I S) (hZ : Z.2.1 = 168 + 2 * xn) (hxn : xn ≤ n) (hsl : Z.2.2 ≤ 13093 + 100 * n) (k1314 : ∀ (I : It) (L : Lt) (R : Rt) (Z : Zt) (S : AS) (xn : Nat), CS I R Z S → MSt I S → Z.2.1 = 168 + 2 * xn → xn ≤ n + 1 → Z.2.2 ≤ 13093 + 100 * (n + 1) → AWq l E (d + 1412) M_Lw_law Z0 1314 [some (vr 53 0), some (vr 8 0), some (vr 9 0), some (vi (nI (6 * n)))] [] I L R Z lwQ) : AWq l E (d + 1412) M_Lw_law Z0 1077 [some (vr 53 0), some (vr 8 0), some (vr 9 0), some (vi (nI (6 * n)))] [] I L R Z lwQ := by
  refine aw_aload_n e_Lw_law_1077 rfl ?_
  refine aw_aload_n e_Lw_law_1078 rfl ?_
  refine aw_iload_n e_Lw_law_1079 rfl ?_
  refine aw_iconst (v := nI 1) e_Lw_law_1080 (by decide) ?_
  first | refine awN_iadd e_Lw_law_1081 ?_ | refine aw_iadd e_Lw_law_1081 ?_
  refine aw_scLd e_Lw_law_1082 rfl (by omega) (by omega) ?_
  refine aw_aload_n e_Lw_law_1083 rfl ?_
  refine aw_iload_n e_Lw_law_1084 rfl ?_
  refine aw_iconst (v := nI 2) e_Lw_law_1085 (by decide) ?_
  first | refine awN_iadd e_Lw_law_1086 ?_ | refine aw_iadd e_Lw_law_1086 ?_
  refine aw_scLd e_Lw_law_1087 rfl (by omega) (by omega) ?_
  refine aw_aload_n e_Lw_law_1088 rfl ?_
  refine aw_iload_n e_Lw_law_1089 rfl ?_
  refine aw_iconst (v := nI 3) e_Lw_law_1090 (by decide) ?_
  first | refine awN_iadd e_Lw_law_1091 ?_ | refine aw_iadd e_Lw_law_1091 ?_
  refine aw_scLd e_Lw_law_1092 rfl (by omega) (by omega) ?_
  refine aw_cV3 e_Lw_law_1093 ml_Lw_134 mf_Pb_lay mv_Pb_lay (c_Pb_lay hCS (fun I2 L2 R2 hCS2 hkm2 => ?_))
  refine aw_aload_n e_Lw_law_1096 rfl ?_
  refine aw_aload_n e_Lw_law_1097 rfl ?_
  refine aw_iload_n e_Lw_law_1098 rfl ?_
  refine aw_iconst (v := nI 1) e_Lw_law_1099 (by decide) ?_
  first | refine awN_iadd e_Lw_law_1100 ?_ | refine aw_iadd e_Lw_law_1100 ?_
  refine aw_scLd e_Lw_law_1101 rfl (by omega) (by omega) ?_
  refine aw_aload_n e_Lw_law_1102 rfl ?_
  refine aw_iload_n e_Lw_law_1103 rfl ?_
  refine aw_iconst (v := nI 2) e_Lw_law_1104 (by decide) ?_
  first | refine awN_iadd e_Lw_law_1105 ?_ | refine aw_iadd e_Lw_law_1105 ?_
  refine aw_scLd e_Lw_law_1106 rfl (by omega) (by omega) ?_
  refine aw_aload_n e_Lw_law_1107 rfl ?_
  refine aw_iload_n e_Lw_law_1108 rfl ?_
  refine aw_iconst (v := nI 3) e_Lw_law_1109 (by decide) ?_
  first | refine awN_iadd e_Lw_law_1110 ?_ | refine aw_iadd e_Lw_law_1110 ?_
  refine aw_scLd e_Lw_law_1111 rfl (by omega) (by omega) ?_
  refine aw_cV3 e_Lw_law_1112 ml_Lw_137 mf_Mo_lay mv_Mo_lay (c_Mo_lay hCS2.1 (hMS.km hkm2) hCS.awf (fun I3 L3 hMS3 hfk3 => ?_))
  refine aw_icmp_eq e_Lw_law_1115 (fun hh => ?_) (fun hh => ?_)
  · exact k1314 _ _ _ _ _ xn (hCS2.mo hfk3) hMS3 hZ (by omega) (by omega)
  · exact absurd rfl hh
theorem lw_30 {l : Launch} {E : En} {d : Nat} (hlen : E.2.2.2.2.1 ≤ 3072) {n xn : Nat} {I : It} {L : Lt} {R : Rt} {Z Z0 : Zt} {S : AS} (hn : 6 * n + 6 ≤ E.2.2.2.2.1) (hCS : CS I R Z S) (hMS : MSt I S) (hZ : Z.2.1 = 168 + 2 * xn) (hxn : xn ≤ n) (hsl : Z.2.2 ≤ 13093 + 100 * n) (k1314 : ∀ (I : It) (L : Lt) (R : Rt) (Z : Zt) (S : AS) (xn : Nat), CS I R Z S → MSt I S → Z.2.1 = 168 + 2 * xn → xn ≤ n + 1 → Z.2.2 ≤ 13093 + 100 * (n + 1) → AWq l E (d + 1412) M_Lw_law Z0 1314 [some (vr 53 0), some (vr 8 0), some (vr 9 0), some (vi (nI (6 * n)))] [] I L R Z lwQ) : AWq l E (d + 1412) M_Lw_law Z0 1120 [some (vr 53 0), some (vr 8 0), some (vr 9 0), some (vi (nI (6 * n)))] [] I L R Z lwQ := by
  refine aw_aload_n e_Lw_law_1120 rfl ?_
  refine aw_aload_n e_Lw_law_1121 rfl ?_
  refine aw_iload_n e_Lw_law_1122 rfl ?_
  refine aw_iconst (v := nI 1) e_Lw_law_1123 (by decide) ?_
  first | refine awN_iadd e_Lw_law_1124 ?_ | refine aw_iadd e_Lw_law_1124 ?_
  refine aw_scLd e_Lw_law_1125 rfl (by omega) (by omega) ?_
  refine aw_aload_n e_Lw_law_1126 rfl ?_
  refine aw_iload_n e_Lw_law_1127 rfl ?_
  refine aw_iconst (v := nI 2) e_Lw_law_1128 (by decide) ?_
  first | refine awN_iadd e_Lw_law_1129 ?_ | refine aw_iadd e_Lw_law_1129 ?_
  refine aw_scLd e_Lw_law_1130 rfl (by omega) (by omega) ?_
  refine aw_cV2 e_Lw_law_1131 ml_Lw_138 mf_Pb_ask mv_Pb_ask (c_Pb_ask hCS (fun I2 L2 R2 hCS2 hkm2 => ?_))
  refine aw_aload_n e_Lw_law_1134 rfl ?_
  refine aw_aload_n e_Lw_law_1135 rfl ?_
  refine aw_iload_n e_Lw_law_1136 rfl ?_
  refine aw_iconst (v := nI 1) e_Lw_law_1137 (by decide) ?_
  first | refine awN_iadd e_Lw_law_1138 ?_ | refine aw_iadd e_Lw_law_1138 ?_
  refine aw_scLd e_Lw_law_1139 rfl (by omega) (by omega) ?_
  refine aw_aload_n e_Lw_law_1140 rfl ?_
  refine aw_iload_n e_Lw_law_1141 rfl ?_
  refine aw_iconst (v := nI 2) e_Lw_law_1142 (by decide) ?_
  first | refine awN_iadd e_Lw_law_1143 ?_ | refine aw_iadd e_Lw_law_1143 ?_
  refine aw_scLd e_Lw_law_1144 rfl (by omega) (by omega) ?_
  refine aw_cV2 e_Lw_law_1145 ml_Lw_141 mf_Mo_ask mv_Mo_ask (c_Mo_ask hCS2.1 (hMS.km hkm2) hCS.awf (fun I3 L3 hMS3 hfk3 => ?_))
  refine aw_icmp_eq e_Lw_law_1148 (fun hh => ?_) (fun hh => ?_)
  · exact k1314 _ _ _ _ _ xn (hCS2.mo hfk3) hMS3 hZ (by omega) (by omega)
  · exact absurd rfl hh
theorem lw_31 {l : Launch} {E : En} {d : Nat} (hlen : E.2.2.2.2.1 ≤ 3072) {n xn : Nat} {I : It} {L : Lt} {R : Rt} {Z Z0 : Zt} {S : AS} (hn : 6 * n + 6 ≤ E.2.2.2.2.1) (hCS : CS I R Z S) (hMS : MSt I S) (hZ : Z.2.1 = 168 + 2 * xn) (hxn : xn ≤ n) (hsl : Z.2.2 ≤ 13093 + 100 * n) (k1314 : ∀ (I : It) (L : Lt) (R : Rt) (Z : Zt) (S : AS) (xn : Nat), CS I R Z S → MSt I S → Z.2.1 = 168 + 2 * xn → xn ≤ n + 1 → Z.2.2 ≤ 13093 + 100 * (n + 1) → AWq l E (d + 1412) M_Lw_law Z0 1314 [some (vr 53 0), some (vr 8 0), some (vr 9 0), some (vi (nI (6 * n)))] [] I L R Z lwQ) : AWq l E (d + 1412) M_Lw_law Z0 1153 [some (vr 53 0), some (vr 8 0), some (vr 9 0), some (vi (nI (6 * n)))] [] I L R Z lwQ := by
  refine aw_aload_n e_Lw_law_1153 rfl ?_
  refine aw_aload_n e_Lw_law_1154 rfl ?_
  refine aw_iload_n e_Lw_law_1155 rfl ?_
  refine aw_iconst (v := nI 1) e_Lw_law_1156 (by decide) ?_
  first | refine awN_iadd e_Lw_law_1157 ?_ | refine aw_iadd e_Lw_law_1157 ?_
  refine aw_scLd e_Lw_law_1158 rfl (by omega) (by omega) ?_
  refine aw_aload_n e_Lw_law_1159 rfl ?_
  refine aw_iload_n e_Lw_law_1160 rfl ?_
  refine aw_iconst (v := nI 2) e_Lw_law_1161 (by decide) ?_
  first | refine awN_iadd e_Lw_law_1162 ?_ | refine aw_iadd e_Lw_law_1162 ?_
  refine aw_scLd e_Lw_law_1163 rfl (by omega) (by omega) ?_
  refine aw_cV2 e_Lw_law_1164 ml_Lw_142 mf_Pb_item mv_Pb_item (c_Pb_item hCS (fun I2 L2 R2 hCS2 hkm2 => ?_))
  refine aw_aload_n e_Lw_law_1167 rfl ?_
  refine aw_aload_n e_Lw_law_1168 rfl ?_
  refine aw_iload_n e_Lw_law_1169 rfl ?_
  refine aw_iconst (v := nI 1) e_Lw_law_1170 (by decide) ?_
  first | refine awN_iadd e_Lw_law_1171 ?_ | refine aw_iadd e_Lw_law_1171 ?_
  refine aw_scLd e_Lw_law_1172 rfl (by omega) (by omega) ?_
  refine aw_aload_n e_Lw_law_1173 rfl ?_
  refine aw_iload_n e_Lw_law_1174 rfl ?_
  refine aw_iconst (v := nI 2) e_Lw_law_1175 (by decide) ?_
  first | refine awN_iadd e_Lw_law_1176 ?_ | refine aw_iadd e_Lw_law_1176 ?_
  refine aw_scLd e_Lw_law_1177 rfl (by omega) (by omega) ?_
  refine aw_cV2 e_Lw_law_1178 ml_Lw_145 mf_Mo_item mv_Mo_item (c_Mo_item hCS2.1 (hMS.km hkm2) hCS.awf (fun I3 L3 hMS3 hfk3 => ?_))
  refine aw_icmp_eq e_Lw_law_1181 (fun hh => ?_) (fun hh => ?_)
  · exact k1314 _ _ _ _ _ xn (hCS2.mo hfk3) hMS3 hZ (by omega) (by omega)
  · exact absurd rfl hh
theorem lw_32 {l : Launch} {E : En} {d : Nat} (hlen : E.2.2.2.2.1 ≤ 3072) {n xn : Nat} {I : It} {L : Lt} {R : Rt} {Z Z0 : Zt} {S : AS} (hn : 6 * n + 6 ≤ E.2.2.2.2.1) (hCS : CS I R Z S) (hMS : MSt I S) (hZ : Z.2.1 = 168 + 2 * xn) (hxn : xn ≤ n) (hsl : Z.2.2 ≤ 13093 + 100 * n) (k1314 : ∀ (I : It) (L : Lt) (R : Rt) (Z : Zt) (S : AS) (xn : Nat), CS I R Z S → MSt I S → Z.2.1 = 168 + 2 * xn → xn ≤ n + 1 → Z.2.2 ≤ 13093 + 100 * (n + 1) → AWq l E (d + 1412) M_Lw_law Z0 1314 [some (vr 53 0), some (vr 8 0), some (vr 9 0), some (vi (nI (6 * n)))] [] I L R Z lwQ) : AWq l E (d + 1412) M_Lw_law Z0 1186 [some (vr 53 0), some (vr 8 0), some (vr 9 0), some (vi (nI (6 * n)))] [] I L R Z lwQ := by
  refine aw_aload_n e_Lw_law_1186 rfl ?_
  refine aw_aload_n e_Lw_law_1187 rfl ?_
  refine aw_iload_n e_Lw_law_1188 rfl ?_
  refine aw_iconst (v := nI 1) e_Lw_law_1189 (by decide) ?_
  first | refine awN_iadd e_Lw_law_1190 ?_ | refine aw_iadd e_Lw_law_1190 ?_
  refine aw_scLd e_Lw_law_1191 rfl (by omega) (by omega) ?_
  refine aw_aload_n e_Lw_law_1192 rfl ?_
  refine aw_iload_n e_Lw_law_1193 rfl ?_
  refine aw_iconst (v := nI 2) e_Lw_law_1194 (by decide) ?_
  first | refine awN_iadd e_Lw_law_1195 ?_ | refine aw_iadd e_Lw_law_1195 ?_
  refine aw_scLd e_Lw_law_1196 rfl (by omega) (by omega) ?_
  refine aw_cV2 e_Lw_law_1197 ml_Lw_146 mf_Pb_rest mv_Pb_rest (c_Pb_rest hCS (fun I2 L2 R2 hCS2 hkm2 => ?_))
  refine aw_aload_n e_Lw_law_1200 rfl ?_
  refine aw_aload_n e_Lw_law_1201 rfl ?_
  refine aw_iload_n e_Lw_law_1202 rfl ?_
  refine aw_iconst (v := nI 1) e_Lw_law_1203 (by decide) ?_
  first | refine awN_iadd e_Lw_law_1204 ?_ | refine aw_iadd e_Lw_law_1204 ?_
  refine aw_scLd e_Lw_law_1205 rfl (by omega) (by omega) ?_
  refine aw_aload_n e_Lw_law_1206 rfl ?_
  refine aw_iload_n e_Lw_law_1207 rfl ?_
  refine aw_iconst (v := nI 2) e_Lw_law_1208 (by decide) ?_
  first | refine awN_iadd e_Lw_law_1209 ?_ | refine aw_iadd e_Lw_law_1209 ?_
  refine aw_scLd e_Lw_law_1210 rfl (by omega) (by omega) ?_
  refine aw_cV2 e_Lw_law_1211 ml_Lw_149 mf_Mo_rest mv_Mo_rest (c_Mo_rest hCS2.1 (hMS.km hkm2) hCS.awf (fun I3 L3 hMS3 hfk3 => ?_))
  refine aw_icmp_eq e_Lw_law_1214 (fun hh => ?_) (fun hh => ?_)
  · exact k1314 _ _ _ _ _ xn (hCS2.mo hfk3) hMS3 hZ (by omega) (by omega)
  · exact absurd rfl hh
theorem lw_33 {l : Launch} {E : En} {d : Nat} (hlen : E.2.2.2.2.1 ≤ 3072) {n xn : Nat} {I : It} {L : Lt} {R : Rt} {Z Z0 : Zt} {S : AS} (hn : 6 * n + 6 ≤ E.2.2.2.2.1) (hCS : CS I R Z S) (hMS : MSt I S) (hZ : Z.2.1 = 168 + 2 * xn) (hxn : xn ≤ n) (hsl : Z.2.2 ≤ 13093 + 100 * n) (k1314 : ∀ (I : It) (L : Lt) (R : Rt) (Z : Zt) (S : AS) (xn : Nat), CS I R Z S → MSt I S → Z.2.1 = 168 + 2 * xn → xn ≤ n + 1 → Z.2.2 ≤ 13093 + 100 * (n + 1) → AWq l E (d + 1412) M_Lw_law Z0 1314 [some (vr 53 0), some (vr 8 0), some (vr 9 0), some (vi (nI (6 * n)))] [] I L R Z lwQ) : AWq l E (d + 1412) M_Lw_law Z0 1219 [some (vr 53 0), some (vr 8 0), some (vr 9 0), some (vi (nI (6 * n)))] [] I L R Z lwQ := by
  refine aw_aload_n e_Lw_law_1219 rfl ?_
  refine aw_aload_n e_Lw_law_1220 rfl ?_
  refine aw_iload_n e_Lw_law_1221 rfl ?_
  refine aw_iconst (v := nI 1) e_Lw_law_1222 (by decide) ?_
  first | refine awN_iadd e_Lw_law_1223 ?_ | refine aw_iadd e_Lw_law_1223 ?_
  refine aw_scLd e_Lw_law_1224 rfl (by omega) (by omega) ?_
  refine aw_cV1 e_Lw_law_1225 ml_Lw_150 mf_Pb_tell mv_Pb_tell (c_Pb_tell hCS (fun I2 L2 R2 hCS2 hkm2 => ?_))
  refine aw_aload_n e_Lw_law_1228 rfl ?_
  refine aw_aload_n e_Lw_law_1229 rfl ?_
  refine aw_iload_n e_Lw_law_1230 rfl ?_
  refine aw_iconst (v := nI 1) e_Lw_law_1231 (by decide) ?_
  first | refine awN_iadd e_Lw_law_1232 ?_ | refine aw_iadd e_Lw_law_1232 ?_
  refine aw_scLd e_Lw_law_1233 rfl (by omega) (by omega) ?_
  refine aw_cV1 e_Lw_law_1234 ml_Lw_153 mf_Mo_tell mv_Mo_tell (c_Mo_tell hCS2.1 (hMS.km hkm2) hCS.awf (fun I3 L3 hMS3 hfk3 => ?_))
  refine aw_icmp_eq e_Lw_law_1237 (fun hh => ?_) (fun hh => ?_)
  · exact k1314 _ _ _ _ _ xn (hCS2.mo hfk3) hMS3 hZ (by omega) (by omega)
  · exact absurd rfl hh
theorem lw_34 {l : Launch} {E : En} {d : Nat} (hlen : E.2.2.2.2.1 ≤ 3072) {n xn : Nat} {I : It} {L : Lt} {R : Rt} {Z Z0 : Zt} {S : AS} (hn : 6 * n + 6 ≤ E.2.2.2.2.1) (hCS : CS I R Z S) (hMS : MSt I S) (hZ : Z.2.1 = 168 + 2 * xn) (hxn : xn ≤ n) (hsl : Z.2.2 ≤ 13093 + 100 * n) (k1314 : ∀ (I : It) (L : Lt) (R : Rt) (Z : Zt) (S : AS) (xn : Nat), CS I R Z S → MSt I S → Z.2.1 = 168 + 2 * xn → xn ≤ n + 1 → Z.2.2 ≤ 13093 + 100 * (n + 1) → AWq l E (d + 1412) M_Lw_law Z0 1314 [some (vr 53 0), some (vr 8 0), some (vr 9 0), some (vi (nI (6 * n)))] [] I L R Z lwQ) : AWq l E (d + 1412) M_Lw_law Z0 1242 [some (vr 53 0), some (vr 8 0), some (vr 9 0), some (vi (nI (6 * n)))] [] I L R Z lwQ := by
  refine aw_aload_n e_Lw_law_1242 rfl ?_
  refine aw_aload_n e_Lw_law_1243 rfl ?_
  refine aw_iload_n e_Lw_law_1244 rfl ?_
  refine aw_iconst (v := nI 1) e_Lw_law_1245 (by decide) ?_
  first | refine awN_iadd e_Lw_law_1246 ?_ | refine aw_iadd e_Lw_law_1246 ?_
  refine aw_scLd e_Lw_law_1247 rfl (by omega) (by omega) ?_
  refine aw_cV1 e_Lw_law_1248 ml_Lw_154 mf_Pb_check mv_Pb_check (c_Pb_check hCS (fun I2 L2 R2 hCS2 hkm2 => ?_))
  refine aw_aload_n e_Lw_law_1251 rfl ?_
  refine aw_aload_n e_Lw_law_1252 rfl ?_
  refine aw_iload_n e_Lw_law_1253 rfl ?_
  refine aw_iconst (v := nI 1) e_Lw_law_1254 (by decide) ?_
  first | refine awN_iadd e_Lw_law_1255 ?_ | refine aw_iadd e_Lw_law_1255 ?_
  refine aw_scLd e_Lw_law_1256 rfl (by omega) (by omega) ?_
  refine aw_cV1 e_Lw_law_1257 ml_Lw_157 mf_Mo_check mv_Mo_check (c_Mo_check hCS2.1 (hMS.km hkm2) hCS.awf (fun I3 L3 hMS3 hfk3 => ?_))
  refine aw_icmp_eq e_Lw_law_1260 (fun hh => ?_) (fun hh => ?_)
  · exact k1314 _ _ _ _ _ xn (hCS2.mo hfk3) hMS3 hZ (by omega) (by omega)
  · exact absurd rfl hh
theorem lw_35 {l : Launch} {E : En} {d : Nat} (hlen : E.2.2.2.2.1 ≤ 3072) {n xn : Nat} {I : It} {L : Lt} {R : Rt} {Z Z0 : Zt} {S : AS} (hn : 6 * n + 6 ≤ E.2.2.2.2.1) (hCS : CS I R Z S) (hMS : MSt I S) (hZ : Z.2.1 = 168 + 2 * xn) (hxn : xn ≤ n) (hsl : Z.2.2 ≤ 13093 + 100 * n) (k1314 : ∀ (I : It) (L : Lt) (R : Rt) (Z : Zt) (S : AS) (xn : Nat), CS I R Z S → MSt I S → Z.2.1 = 168 + 2 * xn → xn ≤ n + 1 → Z.2.2 ≤ 13093 + 100 * (n + 1) → AWq l E (d + 1412) M_Lw_law Z0 1314 [some (vr 53 0), some (vr 8 0), some (vr 9 0), some (vi (nI (6 * n)))] [] I L R Z lwQ) : AWq l E (d + 1412) M_Lw_law Z0 1265 [some (vr 53 0), some (vr 8 0), some (vr 9 0), some (vi (nI (6 * n)))] [] I L R Z lwQ := by
  refine aw_aload_n e_Lw_law_1265 rfl ?_
  refine aw_cV0 e_Lw_law_1266 ml_Lw_158 mf_Pb_keep mv_Pb_keep (c_Pb_keep hCS (fun I2 L2 R2 hCS2 hkm2 => ?_))
  refine aw_aload_n e_Lw_law_1269 rfl ?_
  refine aw_cV0 e_Lw_law_1270 ml_Lw_161 mf_Mo_keep mv_Mo_keep (c_Mo_keep hCS2.1 (hMS.km hkm2) hCS.awf (fun I3 L3 hMS3 hfk3 => ?_))
  refine aw_icmp_eq e_Lw_law_1273 (fun hh => ?_) (fun hh => ?_)
  · exact k1314 _ _ _ _ _ xn (hCS2.mo hfk3) hMS3 hZ (by omega) (by omega)
  · exact absurd rfl hh
theorem lw_36 {l : Launch} {E : En} {d : Nat} (hlen : E.2.2.2.2.1 ≤ 3072) {n xn : Nat} {I : It} {L : Lt} {R : Rt} {Z Z0 : Zt} {S : AS} (hn : 6 * n + 6 ≤ E.2.2.2.2.1) (hCS : CS I R Z S) (hMS : MSt I S) (hZ : Z.2.1 = 168 + 2 * xn) (hxn : xn ≤ n) (hsl : Z.2.2 ≤ 13093 + 100 * n) (k1314 : ∀ (I : It) (L : Lt) (R : Rt) (Z : Zt) (S : AS) (xn : Nat), CS I R Z S → MSt I S → Z.2.1 = 168 + 2 * xn → xn ≤ n + 1 → Z.2.2 ≤ 13093 + 100 * (n + 1) → AWq l E (d + 1412) M_Lw_law Z0 1314 [some (vr 53 0), some (vr 8 0), some (vr 9 0), some (vi (nI (6 * n)))] [] I L R Z lwQ) : AWq l E (d + 1412) M_Lw_law Z0 1278 [some (vr 53 0), some (vr 8 0), some (vr 9 0), some (vi (nI (6 * n)))] [] I L R Z lwQ := by
  refine aw_aload_n e_Lw_law_1278 rfl ?_
  refine aw_cV0 e_Lw_law_1279 ml_Lw_162 mf_Pb_back mv_Pb_back (c_Pb_back hCS (fun I2 L2 R2 hCS2 hkm2 => ?_))
  refine aw_aload_n e_Lw_law_1282 rfl ?_
  refine aw_cV0 e_Lw_law_1283 ml_Lw_165 mf_Mo_back mv_Mo_back (c_Mo_back hCS2.1 (hMS.km hkm2) hCS.awf (fun I3 L3 hMS3 hfk3 => ?_))
  refine aw_icmp_eq e_Lw_law_1286 (fun hh => ?_) (fun hh => ?_)
  · exact k1314 _ _ _ _ _ xn (hCS2.mo hfk3) hMS3 hZ (by omega) (by omega)
  · exact absurd rfl hh
theorem lw_37 {l : Launch} {E : En} {d : Nat} (hlen : E.2.2.2.2.1 ≤ 3072) {n xn : Nat} {I : It} {L : Lt} {R : Rt} {Z Z0 : Zt} {S : AS} (hn : 6 * n + 6 ≤ E.2.2.2.2.1) (hCS : CS I R Z S) (hMS : MSt I S) (hZ : Z.2.1 = 168 + 2 * xn) (hxn : xn ≤ n) (hsl : Z.2.2 ≤ 13093 + 100 * n) (k1314 : ∀ (I : It) (L : Lt) (R : Rt) (Z : Zt) (S : AS) (xn : Nat), CS I R Z S → MSt I S → Z.2.1 = 168 + 2 * xn → xn ≤ n + 1 → Z.2.2 ≤ 13093 + 100 * (n + 1) → AWq l E (d + 1412) M_Lw_law Z0 1314 [some (vr 53 0), some (vr 8 0), some (vr 9 0), some (vi (nI (6 * n)))] [] I L R Z lwQ) : AWq l E (d + 1412) M_Lw_law Z0 1291 [some (vr 53 0), some (vr 8 0), some (vr 9 0), some (vi (nI (6 * n)))] [] I L R Z lwQ := by
  refine aw_aload_n e_Lw_law_1291 rfl ?_
  refine aw_aload_n e_Lw_law_1292 rfl ?_
  refine aw_iload_n e_Lw_law_1293 rfl ?_
  refine aw_iconst (v := nI 1) e_Lw_law_1294 (by decide) ?_
  first | refine awN_iadd e_Lw_law_1295 ?_ | refine aw_iadd e_Lw_law_1295 ?_
  refine aw_scLd e_Lw_law_1296 rfl (by omega) (by omega) ?_
  refine aw_cV1 e_Lw_law_1297 ml_Lw_166 mf_Pb_count mv_Pb_count (c_Pb_count hCS (fun I2 L2 R2 hCS2 hkm2 => ?_))
  refine aw_aload_n e_Lw_law_1300 rfl ?_
  refine aw_aload_n e_Lw_law_1301 rfl ?_
  refine aw_iload_n e_Lw_law_1302 rfl ?_
  refine aw_iconst (v := nI 1) e_Lw_law_1303 (by decide) ?_
  first | refine awN_iadd e_Lw_law_1304 ?_ | refine aw_iadd e_Lw_law_1304 ?_
  refine aw_scLd e_Lw_law_1305 rfl (by omega) (by omega) ?_
  refine aw_cV1 e_Lw_law_1306 ml_Lw_169 mf_Mo_count mv_Mo_count (c_Mo_count hCS2.1 (hMS.km hkm2) hCS.awf (fun I3 L3 hMS3 hfk3 => ?_))
  refine aw_icmp_eq e_Lw_law_1309 (fun hh => ?_) (fun hh => ?_)
  · exact k1314 _ _ _ _ _ xn (hCS2.mo hfk3) hMS3 hZ (by omega) (by omega)
  · exact absurd rfl hh
