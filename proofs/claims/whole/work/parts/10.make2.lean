section MAKE2
variable {l : Launch} {E : En} {d : Nat} {M M2 : Mt} {Z0 : Zt} {pc pc2 tgt n : Nat} {ls : List (Option AV)} {st : List AV} {I : It} {L : Lt} {R : Rt} {Z : Zt} {Q : Qt}
/-- the outer row and its 24 rows -/
def mR (R : Rt) (a : Nat) : Rt := fun t i k => if t = 16 ∧ i = a then (if k < 24 then some (17, 24 * a + k) else none) else R t i k
theorem aw_mna {idx : Nat} (a : Nat) (hd : Dc M pc (.multianewarray idx 2) 4 pc2) (hcl : Cond.classLink M.1.cls idx "[[J" ∈ G) (hac : Cond.arrayClass .long ∈ G) (hw : who Z.2.1 = (16, a)) (hw2 : ∀ j, j < 24 → who (Z.2.1 + 1 + j) = (17, 24 * a + j)) (hL : ∀ j, j < 24 → ∀ k, L 17 (24 * a + j) k = 0) (hR : ∀ j k, R 17 j k = none)
    (k : AWq l E d M Z0 pc2 ls (vr 16 a :: st) I L (mR R a) (Z.1, Z.2.1 + 25, Z.2.2 + 624) Q) : AWq l E d M Z0 pc ls (vi (nI 25) :: vi (nI 24) :: st) I L R Z Q := by
  obtain ⟨hd, rfl⟩ := hd
  obtain ⟨r, I2, L2, R2, Z2, hq, hz, k⟩ := k
  have hz1 : Z.2.1 + 25 ≤ Z2.2.1 := hz.1
  have hz3 : Z.2.2 + 624 ≤ Z2.2.2 := hz.2
  refine ⟨r, I2, L2, R2, Z2, hq, ⟨by omega, by omega⟩, fun p e Rm s m args below meth c F h1 h2' h3 h4 als H locs hl v1 v2 hW hS => ?_⟩
  have h2 := hW
  have hts := F.2.2.2.2.1
  have hK := F.2.2.2.2.2.1.1
  intro T hT Xs
  obtain ⟨vm₁, cA, comp, fA, fC, X', step⟩ := gd_step Xs F.1 F.2.2.2.1 (hts _ hcl) F.2.2.2.2.2.1.2.2.1.2.2.2.2.1 (hts _ hac) (g := F0 m pc als ((vi (nI 25) :: vi (nI 24) :: st).map (cv E))) rfl (by rw [F.2.1]; exact hd) rfl (by omega) (by omega)
  have hra := (hK.2 7 _ (tys_at E (by decide))).2
  have hcA : cA = E.2.1 7 := Option.some.inj (fA.symm.trans hra)
  have hrb := (hK.2 1 _ (tys_at E (by decide))).2
  have hcm : comp = E.2.1 1 := Option.some.inj (fC.symm.trans hrb)
  subst hcA
  subst hcm
  generalize hF : gdS (E.2.1 7) (E.2.1 1) (T.setVm vm₁) 24 = F1 at X' step
  have hFh : F1.heap = gdH (E.2.1 7) (E.2.1 1) H 24 := by
    rw [← hF, ← hT]
    rfl
  have hold : ∀ x : Nat, x < H.size → F1.heap[x]? = H[x]? := fun x hx => by
    rw [hFh]
    exact gdH_old hx
  have hrow : ∀ j : Nat, j < 24 → F1.heap[H.size + 1 + j]? = some (arrV (E.2.1 1) 25 (fun _ => .long 0)) := fun j hj => by
    rw [hFh]
    exact gdH_row hj
  have f2 : F1.heap[H.size]? = some (arrV (E.2.1 7) 24 (fun j => va_rf (if j < 24 then some (H.size + 1 + j) else none))) := by
    rw [hFh]
    exact gdH_mid _ _ _ _
  have hsz : F1.heap.size = H.size + 25 := by rw [hFh, gdH_size]
  have ea : ∀ j, j < 24 → ad E 17 (24 * a + j) = H.size + 1 + j := fun j hj => by
    have h5 := (adr_who (Z.2.1 + 1 + j)).1
    rw [hw2 j hj] at h5
    show (if 17 < 50 then E.2.2.1 + adr 17 (24 * a + j) else _) = _
    rw [if_pos (by decide), hW.1]
    have h6 : adr 17 (24 * a + j) = Z.2.1 + 1 + j := h5
    omega
  have hmR : ∀ t i, ¬ (t = 16 ∧ i = a) → mR R a t i = R t i := fun t i hne => by
    funext j
    unfold mR
    rw [if_neg hne]
  have hmRa : ∀ j, mR R a 16 a j = if j < 24 then some (17, 24 * a + j) else none := fun j => by
    unfold mR
    rw [if_pos ⟨rfl, rfl⟩]
  have hvd17 : ∀ j, j < 24 → VD (Z.1, Z.2.1 + 25, Z.2.2 + 624) 17 (24 * a + j) := fun j hj => by
    have h5 := (adr_who (Z.2.1 + 1 + j)).1
    rw [hw2 j hj] at h5
    have h6 : adr 17 (24 * a + j) = Z.2.1 + 1 + j := h5
    refine ⟨by decide, ?_, by rw [h6]; exact hw2 j hj⟩
    show adr 17 (24 * a + j) < Z.2.1 + 25
    omega
  have hW2 : Wo E I L (mR R a) (Z.1, Z.2.1 + 25, Z.2.2 + 624) F1.heap := by
    refine ⟨by rw [hsz, hW.1]; show _ = E.2.2.1 + (Z.2.1 + 25); omega, fun k9 hk9 => ?_, fun t i k9 q hq hv => ?_⟩
    · have hk9 : k9 < Z.2.1 + 25 := hk9
      by_cases e0 : k9 < Z.2.1
      · have hne : ¬ ((who k9).1 = 16 ∧ (who k9).2 = a) := fun q => by
          have h5 := (adr_who k9).1
          have h6 := (adr_who Z.2.1).1
          rw [q.1, q.2] at h5
          rw [hw] at h6
          have h6 : adr 16 a = Z.2.1 := h6
          omega
        have e4 : cellE E I L (mR R a) (Z.1, Z.2.1 + 25, Z.2.2 + 624) (who k9).1 (who k9).2 = cellE E I L R Z (who k9).1 (who k9).2 := by
          have e6 : cellE E I L (mR R a) (Z.1, Z.2.1 + 25, Z.2.2 + 624) (who k9).1 (who k9).2 = cellE E I L (mR R a) Z (who k9).1 (who k9).2 := cellE_len rfl
          rw [e6]
          have e5 : fV E I (mR R a) (who k9).1 (who k9).2 = fV E I R (who k9).1 (who k9).2 := by
            funext j
            unfold fV
            rw [hmR _ _ hne]
          unfold cellE
          rw [hmR _ _ hne, e5]
        rw [e4]
        exact (h2.2.1 k9 e0).kept (hold _ (by show E.2.2.1 + k9 < _; rw [hW.1]; omega))
      · by_cases e1 : k9 = Z.2.1
        · subst e1
          rw [hw]
          show va_at E.1 classes (_, cellE E I L (mR R a) _ 16 a) _
          rw [cell_r E I L _ _ (by decide) (by decide)]
          show F1.heap[_]? = some (vp_cell _ _)
          rw [vp_cell_q, ← hW.1, f2]
          congr 2
          funext j
          show _ = va_rf (cR E (mR R a 16 a j))
          rw [hmRa]
          by_cases e2 : j < 24
          · rw [if_pos e2, if_pos e2]
            show _ = va_rf (some (ad E 17 (24 * a + j)))
            rw [ea j e2]
          · rw [if_neg e2, if_neg e2]
            rfl
        · obtain ⟨j, rfl⟩ : ∃ j, k9 = Z.2.1 + 1 + j := ⟨k9 - Z.2.1 - 1, by omega⟩
          have hj : j < 24 := by omega
          rw [hw2 j hj]
          show va_at E.1 classes (_, cellE E I L (mR R a) _ 17 (24 * a + j)) _
          rw [cell_l E I L _ _ (by decide) rfl]
          show F1.heap[_]? = some (vp_cell _ _)
          rw [vp_cell_l, show E.2.2.1 + (Z.2.1 + 1 + j) = H.size + 1 + j by rw [hW.1]; omega, hrow j hj]
          congr 2
          funext q
          rw [hL j hj]
    · by_cases e0 : t = 16 ∧ i = a
      · obtain ⟨rfl, rfl⟩ := e0
        rw [hmRa] at hq
        by_cases e2 : k9 < 24
        · rw [if_pos e2] at hq
          cases hq
          exact Or.inr (hvd17 k9 e2)
        · rw [if_neg e2] at hq
          cases hq
      · rw [hmR _ _ e0] at hq
        by_cases e1 : adr t i < Z.2.1
        · exact (hW.2.2 t i k9 q hq ⟨hv.1, e1, hv.2.2⟩).mono (Nat.le_add_right _ _)
        · have e3 : adr t i < Z.2.1 + 25 := hv.2.1
          by_cases e2 : adr t i = Z.2.1
          · have := hv.2.2
            rw [e2, hw] at this
            exact absurd ⟨(Prod.mk.inj this).1.symm, (Prod.mk.inj this).2.symm⟩ e0
          · obtain ⟨j, e5⟩ : ∃ j, adr t i = Z.2.1 + 1 + j := ⟨adr t i - Z.2.1 - 1, by omega⟩
            have := hv.2.2
            rw [e5, hw2 j (by omega)] at this
            obtain ⟨rfl, rfl⟩ := Prod.mk.inj this
            rw [hR] at hq
            cases hq
  have e3 : Value.ref H.size = cv E (vr 16 a) := by
    show _ = Value.ref (ad E 16 a)
    rw [ad_new hw, hW.1]
  have hvd16 : VD (Z.1, Z.2.1 + 25, Z.2.2 + 624) 16 a := (vd_new (Z2 := (Z.1, Z.2.1 + 1, Z.2.2)) hw rfl).mono (by show Z.2.1 + 1 ≤ Z.2.1 + 25; omega)
  have hk := k p e Rm s m args below meth c F h1 h2' (Nat.le_trans h3 (Nat.le_add_right _ _)) (Nat.le_trans h4 (Nat.le_add_right _ _)) als F1.heap locs hl (vc1 (Or.inr hvd16) (fun v hv => (vt1 (vt1 v1) v hv).mono (Nat.le_add_right _ _))) (fun v hv => (v2 v hv).mono (Nat.le_add_right _ _)) hW2 (hS.push (by rw [hsz]; omega) hold)
  rw [List.map_cons, ← e3] at hk
  have e6 : Z.2.1 - Z0.2.1 + 25 = Z.2.1 + 25 - Z0.2.1 := by omega
  have e7 : Z.2.2 - Z0.2.2 + 624 = Z.2.2 + 624 - Z0.2.2 := by omega
  rw [e6, e7] at X'
  obtain ⟨t9, a1, b1⟩ := hk F1 rfl X'
  refine ⟨t9, step t9 ?_, b1⟩
  have e8 : T.heap.size = H.size := by rw [hT]
  rw [e8]
  exact a1
/-- a row of longs comes to a row of rows -/
theorem aw_aastL {i n i2 : Nat} {x : Int32} (hd : Dc M pc .aastore 1 pc2) (hx : x = nI n) (hn : n < 24) (k : AWq l E d M Z0 pc2 ls st I L (sR R 16 i n (some (17, i2))) Z Q) : AWq l E d M Z0 pc ls (vr 17 i2 :: vi x :: vr 16 i :: st) I L R Z Q := by
  obtain ⟨hd, rfl⟩ := hd
  subst hx
  obtain ⟨r, I2, L2, R2, Z2, hq, hz, k⟩ := k
  refine ⟨r, I2, L2, R2, Z2, hq, hz, fun p e Rm s m args below meth c F h1 h2 h3 h4 als H locs hl v1 v2 hW hS => ?_⟩
  have hb : n < 2147483648 := by omega
  have hvd : VD Z 16 i := vd_of (vh1 (vt1 (vt1 v1))) (by decide)
  have hat := hW.at hvd
  have hvd2 : VD Z 17 i2 := vd_of (vh1 v1) (by decide)
  have hat2 := hW.at hvd2
  have hK := F.2.2.2.2.2.1.1
  have htc : tc 16 = 7 := rfl
  have hal : alen Z 16 i = 24 := rfl
  rw [cell_r E I L R Z (by decide) (by decide), htc] at hat
  rw [cell_l E I L R Z (by decide) rfl] at hat2
  have hn2 : n < alen Z 16 i := hal ▸ hn
  generalize hNN : alen Z 16 i = NN at hat hn2
  generalize alen Z 17 i2 = N2 at hat2
  obtain ⟨comp, cA, kA, g1, g2, g3, g4, g5⟩ := arrayOverA_spec F.2.2.2.2.2.1.2.2.1.2.2.2.2.1
  have hra := (hK.2 7 _ (tys_at E (by decide))).2
  have hrb := (hK.2 1 _ (tys_at E (by decide))).2
  have hcA : cA = E.2.1 7 := Option.some.inj (g5.symm.trans hra)
  have hcm : comp = E.2.1 1 := Option.some.inj (g1.symm.trans hrb)
  subst hcA
  subst hcm
  obtain ⟨-, k9, hk9, cm9, hkk9⟩ := (hK.2 1 _ (tys_at E (by decide))).1 25 (fun _ => .null)
  have hin := in_nI (N := NN) hn2 hb
  refine W.aast F.1 F.2.1 hat (fun q h => by cases h) (fun h => by cases h) g3 g4 rfl hk9 ⟨fun q => hin (Or.inl q), by show _ < (arrV _ _ _).slots.size; rw [arrV_size, nI_clamp hb]; exact hn2⟩ hat2 (fun q h => by cases h) hk9 (va_asg _ _) rfl rfl hd fun H1 e1 e2 e3 => ?_
  refine k p e Rm s m args below meth c F h1 h2 h3 h4 als H1 _ hl (vt1 (vt1 (vt1 v1))) v2 (hW.put hvd e2 e3 ?_ (fun t2 i2 hne => ⟨rfl, rfl, sR_n hne⟩) (fun k q hq => ?_)) (hS.put e2 e3 (af_ad (t := 16) (by decide)))
  · rw [cell_r E I L _ Z (by decide) (by decide), sR_s, htc, hNN]
    show H1[_]? = some (vp_cell _ _)
    have e4 : (fun j => cR E (va_up (R 16 i) n (some (17, i2)) j)) = va_up (fun j => cR E (R 16 i j)) n (some (ad E 17 i2)) := by
      funext j
      by_cases e : j = n
      · subst e
        rw [up_s, up_s]
        rfl
      · rw [up_n e, up_n e]
    rw [e1, nI_clamp hb, e4, ← arr_updR, ← arrV_store]
    rfl
  · rw [sR_s] at hq
    by_cases e : k = n
    · subst e
      rw [up_s] at hq
      cases hq
      exact Or.inr hvd2
    · rw [up_n e] at hq
      exact hW.2.2 16 i k q hq hvd
/-- places of one row of ints come to another one, or the same -/
def cpI (I : It) (t i sp t2 i2 dp n : Nat) : It := fun t3 i3 k => if t3 = t2 ∧ i3 = i2 then va_cpy (I t i) (I t2 i2) sp dp n k else I t3 i3 k
theorem aw_acopy {idx t i t2 i2 sp dp n : Nat} {xs xd xn : Int32} (hd : Dc M pc (.invokestatic idx) 3 pc2) (hlk : Cond.methodLink M.1.cls idx arraycopyName ∈ G) (hnat : Cond.native arraycopyName ∈ G) (hst : Cond.static arraycopyName ∈ G) (hini : Cond.initialized "java/lang/System" ∈ G) (h1 : xs = nI sp) (h2 : xd = nI dp) (h3 : xn = nI n) (h4 : sp + n ≤ alen Z t i) (h5 : dp + n ≤ alen Z t2 i2) (hb : sp < 10000 ∧ dp < 10000 ∧ n < 10000) (hw : (st.map wd).sum ≤ 8)
    (k : AWq l E (d + 1) M Z0 pc2 ls st (cpI I t i sp t2 i2 dp n) L R Z Q) (ht : (10 ≤ t ∧ t < 50 ∧ tc t = 0) ∧ (10 ≤ t2 ∧ t2 < 50 ∧ tc t2 = 0) := by exact ⟨⟨by decide, by decide, rfl⟩, ⟨by decide, by decide, rfl⟩⟩) : AWq l E (d + 1) M Z0 pc ls (vi xn :: vi xd :: vr t2 i2 :: vi xs :: vr t i :: st) I L R Z Q := by
  obtain ⟨hd, rfl⟩ := hd
  subst h1
  subst h2
  subst h3
  obtain ⟨⟨ta, tb, tcc⟩, ua, ub, uc⟩ := ht
  obtain ⟨r, I2, L2, R2, Z2, hq, hz, k⟩ := k
  refine ⟨r, I2, L2, R2, Z2, hq, hz, fun p e Rm s m args below meth c F g1 g2 g3 g4 als H locs hl v1 v2 hW hS => ?_⟩
  have hts := F.2.2.2.2.1
  have hK := F.2.2.2.2.2.1.1
  have f1 := F.2.2.2.2.2.2.2.2.2.1
  have f2 := F.2.2.2.2.2.2.2.2.2.2.1
  have hvd : VD Z t i := vd_of (vh1 (vt1 (vt1 (vt1 (vt1 v1))))) tb
  have hvd2 : VD Z t2 i2 := vd_of (vh1 (vt1 (vt1 v1))) ub
  have hat := hW.at hvd
  have hat2 := hW.at hvd2
  rw [cell_i E I L R Z ta (by omega) (by omega), tcc] at hat
  rw [cell_i E I L R Z ua (by omega) (by omega), uc] at hat2
  have nn : ∀ z, z < 10000 → (nI z).toInt = (z : Int) := fun z hz => nI_toInt (by omega)
  have nc : ∀ z, z < 10000 → (nI z).toNatClampNeg = z := fun z hz => nI_clamp (by omega)
  intro T hT X
  obtain ⟨-, k0, hk0, cm0, hkk0⟩ := (hK.2 0 _ (tys_at E (by decide))).1 (alen Z t i) (fun j => .int (I t i j))
  obtain ⟨vm', X', step⟩ := X.arraycopy F.1 F.2.2.2.1 (hts _ hlk) (hts _ hnat) (hts _ hst) (hts _ hini) (src := ad E t i) (dst := ad E t2 i2) (cs := vp_cell (E.2.1 0) (alen Z t i, .inl (I t i))) (cd := vp_cell (E.2.1 0) (alen Z t2 i2, .inl (I t2 i2))) (srcPos := nI sp) (destPos := nI dp) (n := nI n) (by rw [hT]; exact hat) (by rw [hT]; exact hat2)
    (fun _ h => by cases h) (fun _ h => by cases h) (fun h => by cases h) (fun h => by cases h) hk0 hk0 hkk0 hkk0 (by rfl) (nI_pos (by omega)) (nI_pos (by omega)) (nI_pos (by omega))
    (by rw [nn sp hb.1, nn n hb.2.2]; show ¬ _ > ((arrV _ _ (fun j => .int (I t i j))).slots.size : Int); rw [arrV_size]; omega)
    (by rw [nn dp hb.2.1, nn n hb.2.2]; show ¬ _ > ((arrV _ _ (fun j => .int (I t2 i2 j))).slots.size : Int); rw [arrV_size]; omega)
    (fun vm₁ _ j hj => by
      rw [nc n hb.2.2] at hj
      have e : (vp_cell (E.2.1 0) (alen Z t i, .inl (I t i))).slots.getD ((nI sp).toNatClampNeg + j) .null = .int (I t i (sp + j)) := by
        show (arrV _ _ (fun j => .int (I t i j))).slots.getD _ _ = _
        rw [Array.getD_eq_getD_getElem?, nc sp hb.1, arrV_read _ _ (by omega)]
        rfl
      refine ⟨?_, ?_⟩
      · rw [e]
        rfl
      · rw [e]
        exact trivial)
    (g := F0 m pc als ((vi (nI n) :: vi (nI dp) :: vr t2 i2 :: vi (nI sp) :: vr t i :: st).map (cv E))) rfl (by show als.size = _; rw [F.2.2.1]; exact hl.1.1) (rest := st.map (cv E)) rfl (by rw [F.2.1]; exact hd) (by omega) (by
      show 2 * 0 + ((st.map (cv E)).map fun v => v.category).sum + _ ≤ _
      rw [wd_sum]
      have e9 : nativeFrameWords "java/lang/System" "arraycopy" 5 + 11 ≤ 30 := by decide
      omega)
  have e1 : copied (vp_cell (E.2.1 0) (alen Z t i, .inl (I t i))) (vp_cell (E.2.1 0) (alen Z t2 i2, .inl (I t2 i2))) (nI sp) (nI dp) (nI n) = vp_cell (E.2.1 0) (alen Z t2 i2, .inl (va_cpy (I t i) (I t2 i2) sp dp n)) := by
    have := va_copied (fun z => .int z) (E.2.1 0) (E.2.1 0) (n1 := alen Z t2 i2) (sp := (nI sp).toNatClampNeg) (dp := (nI dp).toNatClampNeg) (n := (nI n).toNatClampNeg) (n0 := alen Z t i) (I t i) (I t2 i2) (by rw [nc sp hb.1, nc n hb.2.2]; exact h4)
    rw [nc sp hb.1, nc dp hb.2.1, nc n hb.2.2] at this
    rw [vp_cell_i, vp_cell_i, vp_cell_i, ← this]
    unfold copied
    rw [nc sp hb.1, nc dp hb.2.1, nc n hb.2.2]
  rw [e1] at X' step
  have hl2 : ad E t2 i2 < H.size := (Array.getElem?_eq_some_iff.mp hat2).1
  generalize hC : vp_cell (E.2.1 0) (alen Z t2 i2, .inl (va_cpy (I t i) (I t2 i2) sp dp n)) = C at X' step
  have hheap : ((T.setVm vm').setCell (ad E t2 i2) C).heap = H.setIfInBounds (ad E t2 i2) C := by rw [← hT]; rfl
  have e2 : (H.setIfInBounds (ad E t2 i2) C).size = H.size := by simp
  have e3 : ∀ q : Nat, q ≠ ad E t2 i2 → (H.setIfInBounds (ad E t2 i2) C)[q]? = H[q]? := fun q hq => by simp [Array.getElem?_setIfInBounds, Ne.symm hq]
  have e4 : (H.setIfInBounds (ad E t2 i2) C)[ad E t2 i2]? = some C := by simp [Array.getElem?_setIfInBounds, hl2]
  have hself : cpI I t i sp t2 i2 dp n t2 i2 = va_cpy (I t i) (I t2 i2) sp dp n := by
    funext j
    unfold cpI
    rw [if_pos ⟨rfl, rfl⟩]
  have hW2 : Wo E (cpI I t i sp t2 i2 dp n) L R Z (H.setIfInBounds (ad E t2 i2) C) := by
    refine hW.put hvd2 e2 e3 ?_ (fun t3 i3 hne => ⟨by funext j; unfold cpI; rw [if_neg hne], rfl, rfl⟩) (fun k q hq => hW.2.2 t2 i2 k q hq hvd2)
    rw [cell_i E _ L R Z ua (by omega) (by omega), uc, hself]
    show (H.setIfInBounds (ad E t2 i2) C)[_]? = some (vp_cell _ _)
    rw [e4, hC]
  obtain ⟨t9, a1, b1⟩ := k p e Rm s m args below meth c F g1 g2 g3 g4 als _ _ hl (vt1 (vt1 (vt1 (vt1 (vt1 v1))))) v2 hW2 ⟨by rw [e2]; exact hS.1, fun q x1 x2 => by
      rw [e3 q (fun e => x2 (by rw [e]; exact af_ad ub))]
      exact hS.2.1 q x1 x2, fun q hq => by
      rcases List.mem_append.mp hq with h | h
      · exact hS.2.2 q h
      · obtain ⟨z, -, hz⟩ := List.mem_map.mp h
        rw [← hz]
        exact af_ad ub⟩ _ hheap X'
  exact ⟨t9, step t9 a1, b1⟩
end MAKE2
