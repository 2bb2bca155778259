/-! ===== new cells ===== -/
theorem cellE_len {E : En} {I : It} {L : Lt} {R : Rt} {Z Z2 : Zt} {t i : Nat} (h : alen Z2 t i = alen Z t i) : cellE E I L R Z2 t i = cellE E I L R Z t i := by
  unfold cellE
  rw [h]
theorem Wo.grow {E : En} {I : It} {L : Lt} {R : Rt} {Z Z2 : Zt} {H H2 : Heap} {t i : Nat} (h : Wo E I L R Z H) (hw : who Z.2.1 = (t, i)) (hz2 : Z2.2.1 = Z.2.1 + 1) (hz : H2.size = H.size + 1) (ho : ∀ q, q < H.size → H2[q]? = H[q]?)
    (hc : va_at E.1 classes (E.2.2.1 + Z.2.1, cellE E I L R Z2 t i) H2) (ha : ∀ t2 i2, ¬ (t2 = t ∧ i2 = i) → alen Z2 t2 i2 = alen Z t2 i2) (hr : ∀ k, R t i k = none) : Wo E I L R Z2 H2 := by
  have hn : adr t i = Z.2.1 := by have := (adr_who Z.2.1).1; rwa [hw] at this
  refine ⟨by rw [hz, hz2, h.1]; omega, fun k hk => ?_, fun t2 i2 k q hq hv => ?_⟩
  · by_cases e : k = Z.2.1
    · subst e
      rw [hw]
      exact hc
    · have hk2 : k < Z.2.1 := by omega
      have hne : ¬ ((who k).1 = t ∧ (who k).2 = i) := fun q => e (by rw [← (adr_who k).1, q.1, q.2]; exact hn)
      rw [cellE_len (ha _ _ hne)]
      refine (h.2.1 k hk2).kept (ho _ ?_)
      show E.2.2.1 + k < H.size
      rw [h.1]
      omega
  · by_cases e : t2 = t ∧ i2 = i
    · obtain ⟨rfl, rfl⟩ := e
      rw [hr k] at hq
      cases hq
    · have hv2 : VD Z t2 i2 := by
        refine ⟨hv.1, ?_, hv.2.2⟩
        have h1 := hv.2.1
        by_cases e2 : adr t2 i2 = Z.2.1
        · exfalso
          have h3 := hv.2.2
          rw [e2, hw] at h3
          exact e ⟨(Prod.mk.inj h3).1.symm, (Prod.mk.inj h3).2.symm⟩
        · omega
      exact (h.2.2 t2 i2 k q hq hv2).mono (by omega)
theorem vd_new {Z Z2 : Zt} {t i : Nat} (hw : who Z.2.1 = (t, i)) (hz2 : Z2.2.1 = Z.2.1 + 1) : VD Z2 t i := by
  have hn := (adr_who Z.2.1)
  rw [hw] at hn
  have h5 : adr t i = Z.2.1 := hn.1
  exact ⟨hn.2, by omega, by rw [h5]; exact hw⟩
theorem ad_new {E : En} {Z : Zt} {t i : Nat} (hw : who Z.2.1 = (t, i)) : ad E t i = E.2.2.1 + Z.2.1 := by
  have hn := (adr_who Z.2.1)
  rw [hw] at hn
  unfold ad
  rw [if_pos hn.2, hn.1]
theorem va_S.push {A : Nat → Prop} {H0 H H1 : Heap} {locs : List Loc} (h : va_S A H0 H locs) (z : H.size ≤ H1.size) (oq : ∀ q : Nat, q < H.size → H1[q]? = H[q]?) : va_S A H0 H1 locs :=
  ⟨Nat.le_trans h.1 z, fun q h1 h2 => (oq q (Nat.lt_of_lt_of_le h1 h.1)).trans (h.2.1 q h1 h2), h.2.2⟩
section MAKE
variable {l : Launch} {E : En} {d : Nat} {M M2 : Mt} {Z0 : Zt} {pc pc2 tgt n : Nat} {ls : List (Option AV)} {st : List AV} {I : It} {L : Lt} {R : Rt} {Z : Zt} {Q : Qt}
theorem aw_new {idx : Nat} (t i : Nat) (hd : Dc M pc (.new idx) 3 pc2) (hcl : Cond.classLink M.1.cls idx (Rn t) ∈ G) (hin : Cond.instantiable (Rn t) (nf t) ∈ G) (hini : Cond.initialized (Rn t) ∈ G) (hw : who Z.2.1 = (t, i)) (hI : ∀ f, I t i f = 0) (hR : ∀ f, R t i f = none) (ht : t < 10)
    (k : AWq l E d M Z0 pc2 ls (vr t i :: st) I L R (Z.1, Z.2.1 + 1, Z.2.2 + nf t) Q) : AWq l E d M Z0 pc ls st I L R Z Q := by
  obtain ⟨hd, rfl⟩ := hd
  obtain ⟨r, I2, L2, R2, Z2, hq, hz, k⟩ := k
  have hz1 : Z.2.1 + 1 ≤ Z2.2.1 := hz.1
  have hz3 : Z.2.2 + nf t ≤ Z2.2.2 := hz.2
  refine ⟨r, I2, L2, R2, Z2, hq, ⟨by omega, by omega⟩, fun p e Rm s m args below meth c F h1 h2 h3 h4 als H locs hl v1 v2 hW hS => ?_⟩
  have hts := F.2.2.2.2.1
  have hK := F.2.2.2.2.2.1.1
  refine W.newc F.1 F.2.1 F.2.2.2.1 (hts _ hcl) (hts _ hin) (hts _ hini) rfl hd (by omega) (by omega) (fun cC kC g1 g2 g3 g4 => ?_)
  have e1 : Z.2.1 - Z0.2.1 + 1 = Z.2.1 + 1 - Z0.2.1 := by omega
  have e2 : Z.2.2 - Z0.2.2 + nf t = Z.2.2 + nf t - Z0.2.2 := by omega
  rw [e1, e2]
  have hKn := hK.1 t _ (cl_at t ht)
  have hcc : cC = E.1.1 t := Option.some.inj (g1.symm.trans hKn.2.1)
  subst hcc
  have hcell : (H.push { cls := E.1.1 t, slots := kC.instanceTypes.map defaultValue, vm := .none })[H.size]? = some (blank (E.1.1 t) kC) := by simp [blank]
  have hob := u_born (Ty t) hts (cl_in t ht) hKn g2 hcell (cl_ty t ht)
  have hW2 : Wo E I L R (Z.1, Z.2.1 + 1, Z.2.2 + nf t) (H.push { cls := E.1.1 t, slots := kC.instanceTypes.map defaultValue, vm := .none }) := by
    refine hW.grow (t := t) (i := i) hw rfl (by simp) (fun q hq => by rw [Array.getElem?_push, if_neg (Nat.ne_of_lt hq)]) ?_ (fun _ _ _ => rfl) hR
    rw [cell_o E I L R _ ht, ← hW.1]
    refine ⟨_, cl_at t ht, hob.to (fun j hj => ?_)⟩
    show defaultValue (Ty t j) = vp_V _ j
    rw [fV_V E I R t i hj, cl_df t ht j hj]
    unfold fV
    rw [hI, hR]
    rfl
  have e3 : Value.ref H.size = cv E (vr t i) := by
    show _ = Value.ref (ad E t i)
    rw [ad_new hw, hW.1]
  have h := k p e Rm s m args below meth c F h1 h2 (Nat.le_succ_of_le h3) (Nat.le_trans h4 (Nat.le_add_right _ _)) als _ locs hl (vc1 (Or.inr (vd_new hw rfl)) (fun v hv => (v1 v hv).mono (Nat.le_succ _))) (fun v hv => (v2 v hv).mono (Nat.le_succ _)) hW2 (hS.push (by simp) (fun q hq => by rw [Array.getElem?_push, if_neg (Nat.ne_of_lt hq)]))
  rw [List.map_cons, ← e3] at h
  exact h
/-- a new row of numbers -/
theorem aw_newa {x : Int32} {at0 : ArrayType} {len2 : Nat → Nat} (t i N : Nat) (hd : Dc M pc (.newarray at0) 2 pc2) (hac : Cond.arrayClass (newarray.typeOf at0) ∈ G) (hx : x = nI N) (hN : N ≤ 10000) (hw : who Z.2.1 = (t, i)) (hI : ∀ f, I t i f = 0) (hL : ∀ f, L t i f = 0) (hR : ∀ f, R t i f = none)
    (hlen : alen (len2, Z.2.1 + 1, Z.2.2 + N) t i = N) (ho : ∀ t2 i2, ¬ (t2 = t ∧ i2 = i) → alen (len2, Z.2.1 + 1, Z.2.2 + N) t2 i2 = alen Z t2 i2)
    (k : AWq l E d M Z0 pc2 ls (vr t i :: st) I L R (len2, Z.2.1 + 1, Z.2.2 + N) Q) (ht : 10 ≤ t ∧ t < 50 ∧ tc t < 3 ∧ tcT (tc t) = newarray.typeOf at0 := by exact ⟨by decide, by decide, by decide, rfl⟩) (hby : componentBytes (newarray.typeOf at0) ≤ 8 := by decide) : AWq l E d M Z0 pc ls (vi x :: st) I L R Z Q := by
  obtain ⟨hd, rfl⟩ := hd
  subst hx
  obtain ⟨r, I2, L2, R2, Z2, hq, hz, k⟩ := k
  have hz1 : Z.2.1 + 1 ≤ Z2.2.1 := hz.1
  have hz3 : Z.2.2 + N ≤ Z2.2.2 := hz.2
  refine ⟨r, I2, L2, R2, Z2, hq, ⟨by omega, by omega⟩, fun p e Rm s m args below meth c F h1 h2 h3 h4 als H locs hl v1 v2 hW hS => ?_⟩
  have hts := F.2.2.2.2.1
  have hK := F.2.2.2.2.2.1.1
  have hNb : N < 2147483648 := by omega
  refine va_newaK F.1 F.2.1 (hts _ hac) rfl hd rfl (nI_pos hNb) (nI_clamp hNb) (by
    have : N * componentBytes (newarray.typeOf at0) ≤ 10000 * 8 := Nat.mul_le_mul hN hby
    omega) (by omega) (by omega) rfl (fun H1 cA q1 q2 q3 q4 q5 => ?_)
  have e1 : Z.2.1 - Z0.2.1 + 1 = Z.2.1 + 1 - Z0.2.1 := by omega
  have e2 : Z.2.2 - Z0.2.2 + N = Z.2.2 + N - Z0.2.2 := by omega
  rw [e1, e2]
  obtain ⟨t1, t2, t3, t4⟩ := ht
  have hra := (hK.2 (tc t) _ (tys_at E (by omega))).2
  have hcA : cA = E.2.1 (tc t) := by
    have h5 : s.vm.findClass ("[" ++ (tcT (tc t)).toString) = some (E.2.1 (tc t)) := by
      have t5 : tc t = 0 ∨ tc t = 1 ∨ tc t = 2 := by omega
      rcases t5 with e | e | e <;> rw [e] at hra ⊢ <;> exact hra
    rw [t4] at h5
    exact Option.some.inj (q5.symm.trans h5)
  subst hcA
  have hW2 : Wo E I L R (len2, Z.2.1 + 1, Z.2.2 + N) H1 := by
    refine hW.grow (t := t) (i := i) hw rfl q2 q3 ?_ ho hR
    rw [← hW.1]
    by_cases e : tc t = 1
    · rw [cell_l E I L R _ t1 e, hlen]
      show H1[_]? = some (vp_cell _ _)
      rw [q1, vp_cell_l, ← t4, e]
      congr 2
      funext j
      rw [hL]
      rfl
    · rw [cell_i E I L R _ t1 t3 e, hlen]
      show H1[_]? = some (vp_cell _ _)
      rw [q1, vp_cell_i, ← t4]
      congr 2
      funext j
      rw [hI]
      have t5 : tc t = 0 ∨ tc t = 2 := by omega
      rcases t5 with e | e <;> rw [e] <;> rfl
  have e3 : Value.ref H.size = cv E (vr t i) := by
    show _ = Value.ref (ad E t i)
    rw [ad_new hw, hW.1]
  have h := k p e Rm s m args below meth c F h1 h2 (Nat.le_succ_of_le h3) (Nat.le_trans h4 (Nat.le_add_right _ _)) als _ locs hl (vc1 (Or.inr (vd_new hw rfl)) (fun v hv => (vt1 v1 v hv).mono (Nat.le_succ _))) (fun v hv => (v2 v hv).mono (Nat.le_succ _)) hW2 (hS.push (by rw [q2]; omega) q3)
  rw [List.map_cons, ← e3] at h
  exact h
/-- a new row of objects -/
theorem aw_anew {x : Int32} {idx : Nat} (t i N : Nat) {C : String} (hd : Dc M pc (.anewarray idx) 3 pc2) (hcl : Cond.classLink M.1.cls idx C ∈ G) (hao : ∀ (s : State), StF E s s.heap → va_AO C s) (hx : x = nI N) (hN : N ≤ 10000) (hw : who Z.2.1 = (t, i)) (hR : ∀ f, R t i f = none) (hlen : alen Z t i = N)
    (k : AWq l E d M Z0 pc2 ls (vr t i :: st) I L R (Z.1, Z.2.1 + 1, Z.2.2 + N) Q) (ht : 10 ≤ t ∧ t < 50 ∧ 3 ≤ tc t ∧ tc t < 8 ∧ tcT (tc t) = .object C := by exact ⟨by decide, by decide, by decide, by decide, rfl⟩) : AWq l E d M Z0 pc ls (vi x :: st) I L R Z Q := by
  obtain ⟨hd, rfl⟩ := hd
  subst hx
  obtain ⟨r, I2, L2, R2, Z2, hq, hz, k⟩ := k
  have hz1 : Z.2.1 + 1 ≤ Z2.2.1 := hz.1
  have hz3 : Z.2.2 + N ≤ Z2.2.2 := hz.2
  refine ⟨r, I2, L2, R2, Z2, hq, ⟨by omega, by omega⟩, fun p e Rm s m args below meth c F h1 h2 h3 h4 als H locs hl v1 v2 hW hS => ?_⟩
  have hts := F.2.2.2.2.1
  have hK := F.2.2.2.2.2.1.1
  have hNb : N < 2147483648 := by omega
  have hnn : (nI N).toNatClampNeg = N := nI_clamp hNb
  refine W.anew F.1 F.2.1 F.2.2.2.1 (hts _ hcl) (hao s F.2.2.2.2.2.1).use rfl hd rfl (nI_pos hNb) (by rw [hnn]; omega) (by omega) (by rw [hnn]; omega) (fun cA kA comp q1 q2 q3 q4 => ?_)
  rw [hnn]
  have e1 : Z.2.1 - Z0.2.1 + 1 = Z.2.1 + 1 - Z0.2.1 := by omega
  have e2 : Z.2.2 - Z0.2.2 + N = Z.2.2 + N - Z0.2.2 := by omega
  rw [e1, e2]
  obtain ⟨t1, t2, t3, t4, t5⟩ := ht
  have hra := (hK.2 (tc t) _ (tys_at E t4)).2
  rw [t5] at hra
  obtain ⟨kA', comp', r1, r2, r3, r4⟩ := hra
  have hcA : cA = E.2.1 (tc t) := Option.some.inj (q1.symm.trans r4)
  subst hcA
  have hH : ∀ q, q < H.size → (H.push { cls := E.2.1 (tc t), slots := Array.replicate N .null, vm := .none })[q]? = H[q]? := fun q hq => by rw [Array.getElem?_push, if_neg (Nat.ne_of_lt hq)]
  have hW2 : Wo E I L R (Z.1, Z.2.1 + 1, Z.2.2 + N) (H.push { cls := E.2.1 (tc t), slots := Array.replicate N .null, vm := .none }) := by
    refine hW.grow (t := t) (i := i) hw rfl (by simp) hH ?_ (fun _ _ _ => rfl) hR
    rw [← hW.1, cell_r E I L R _ t1 t3]
    have hlen2 : alen (Z.1, Z.2.1 + 1, Z.2.2 + N) t i = N := hlen
    rw [hlen2]
    show (H.push _)[H.size]? = some (vp_cell _ _)
    rw [vp_cell_q, Array.getElem?_push, if_pos rfl, arrV_new]
    congr 2
    funext j
    rw [hR]
    rfl
  have e3 : Value.ref H.size = cv E (vr t i) := by
    show _ = Value.ref (ad E t i)
    rw [ad_new hw, hW.1]
  have h := k p e Rm s m args below meth c F h1 h2 (Nat.le_succ_of_le h3) (Nat.le_trans h4 (Nat.le_add_right _ _)) als _ locs hl (vc1 (Or.inr (vd_new hw rfl)) (fun v hv => (vt1 v1 v hv).mono (Nat.le_succ _))) (fun v hv => (v2 v hv).mono (Nat.le_succ _)) hW2 (hS.push (by simp) hH)
  rw [List.map_cons, ← e3] at h
  exact h
theorem aw_objInit {idx t i : Nat} (hd : Dc M pc (.invokespecial idx) 3 pc2) (hlk : Cond.methodLink M.1.cls idx Lib.objectInit ∈ G) (hi : Cond.instanceMethod Lib.objectInit ∈ G) (hc : Cond.code Lib.objectInit ⟨#[0xb1]⟩ 1 none ∈ G) (hw : (st.map wd).sum ≤ 8) (k : AWq l E (d + 1) M Z0 pc2 ls st I L R Z Q) : AWq l E (d + 1) M Z0 pc ls (vr t i :: st) I L R Z Q := by
  obtain ⟨hd, rfl⟩ := hd
  refine k.lift (fun v1 v2 => ⟨vt1 v1, v2⟩) (fun p e Rm s m args below meth c cells slots Qs F als H locs hl v1 hW hS kk => ?_)
  have hts := F.2.2.2.2.1
  have f1 := F.2.2.2.2.2.2.2.2.2.1
  have f2 := F.2.2.2.2.2.2.2.2.2.2.1
  refine W.objInit F.1 F.2.1 F.2.2.2.1 (hts _ hlk) (hts _ hi) (hts _ hc) rfl (by show als.size = _; rw [F.2.2.1]; exact hl.1.1) rfl hd (by omega) ?_ (kk als hl)
  have := lv_room (m := m) (pc := pc) (ls := als) (rest := []) (st := st.map (cv E)) (by rw [wd_sum]; exact hw)
  have e0 : (F0 m pc als ((vr t i :: st).map (cv E))).monitorRoom = (F0 m pc als []).monitorRoom := rfl
  rw [e0]
  omega
end MAKE
