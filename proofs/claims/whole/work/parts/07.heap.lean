/-! ===== classes by tag ===== -/
def Rn (t : Nat) : String := match t with
  | 0 => RX0 | 1 => RX1 | 2 => RX2 | 3 => RX3 | 4 => RX4 | 5 => RX5 | 6 => RX6 | 7 => RX7 | 8 => RX8 | _ => RX9
def Tt (t : Nat) : u_T := match t with
  | 0 => TX0 | 1 => TX1 | 2 => TX2 | 3 => TX3 | 4 => TX4 | 5 => TX5 | 6 => TX6 | 7 => TX7 | 8 => TX8 | _ => TX9
def Ty (t : Nat) : Nat → FieldType := match t with
  | 0 => tyX0 | 1 => tyX1 | 2 => tyX2 | 3 => tyX3 | 4 => tyX4 | 5 => tyX5 | 6 => tyX6 | 7 => tyX7 | 8 => tyX8 | _ => tyX9
theorem by10 {P : Nat → Prop} (h0 : P 0) (h1 : P 1) (h2 : P 2) (h3 : P 3) (h4 : P 4) (h5 : P 5) (h6 : P 6) (h7 : P 7) (h8 : P 8) (h9 : P 9) : ∀ t, t < 10 → P t := fun t ht =>
  match t, ht with
  | 0, _ => h0 | 1, _ => h1 | 2, _ => h2 | 3, _ => h3 | 4, _ => h4 | 5, _ => h5 | 6, _ => h6 | 7, _ => h7 | 8, _ => h8 | 9, _ => h9
  | n + 10, h => absurd h (by omega)
theorem cl_at : ∀ t, t < 10 → classes[t]? = some (Rn t, Tt t, nf t) := by10 rfl rfl rfl rfl rfl rfl rfl rfl rfl rfl
theorem mem_G {ws : List Cond} (h : ws.all (fun w => decide (w ∈ lw_tbl) && goodWord w) = true) : ∀ w ∈ ws, w ∈ G := fun w hw => by
  have h1 := List.all_eq_true.mp h w hw
  simp only [Bool.and_eq_true, decide_eq_true_eq] at h1
  exact List.mem_filter.mpr h1
set_option maxRecDepth 100000 in
theorem cl_in : ∀ t, t < 10 → ∀ w ∈ u_ws (Rn t) (Tt t) (nf t), w ∈ G := by10 (mem_G (by decide +kernel)) (mem_G (by decide +kernel)) (mem_G (by decide +kernel)) (mem_G (by decide +kernel)) (mem_G (by decide +kernel)) (mem_G (by decide +kernel)) (mem_G (by decide +kernel)) (mem_G (by decide +kernel)) (mem_G (by decide +kernel)) (mem_G (by decide +kernel))
theorem cl_nm : ∀ t, t < 10 → ∀ a, a < nf t → ∀ b, b < nf t → a ≠ b → (Tt t a).2.1 ≠ (Tt t b).2.1 := by10 nmX0 nmX1 nmX2 nmX3 nmX4 nmX5 nmX6 nmX7 nmX8 nmX9
theorem cl_ty : ∀ t, t < 10 → ∀ k, k < nf t → parseFieldDescriptor (Tt t k).2.2.1 = some (Ty t k) := by10 tyX0_ok tyX1_ok tyX2_ok tyX3_ok tyX4_ok tyX5_ok tyX6_ok tyX7_ok tyX8_ok tyX9_ok
theorem cl_df : ∀ t, t < 10 → ∀ k, k < nf t → defaultValue (Ty t k) = if fr t k then Value.null else .int 0 := by
  refine by10 ?_ ?_ ?_ ?_ ?_ ?_ ?_ ?_ ?_ ?_ <;> decide +kernel
/-- a field by its link -/
def FL (own : String) (idx t f : Nat) : Prop := (t < 10 ∧ f < nf t) ∧ Cond.fieldLink own idx (Tt t f).1 (Tt t f).2.1 (Tt t f).2.2.1 ∈ G
theorem vd_of {Z : Zt} {t i : Nat} (h : vv Z (vr t i)) (ht : t < 50) : VD Z t i := h.elim (fun q => absurd q (Nat.not_le.mpr ht)) id
theorem cell_o (E : En) (I : It) (L : Lt) (R : Rt) (Z : Zt) {t i : Nat} (h : t < 10) : cellE E I L R Z t i = .inr (t, (List.range (nf t)).map (fV E I R t i)) := if_pos h
theorem cell_i (E : En) (I : It) (L : Lt) (R : Rt) (Z : Zt) {t i : Nat} (h : 10 ≤ t) (h1 : tc t < 3) (h2 : tc t ≠ 1) : cellE E I L R Z t i = .inl (E.2.1 (tc t), alen Z t i, .inl (I t i)) := by
  unfold cellE
  rw [if_neg (Nat.not_lt.mpr h), if_neg h2, if_pos h1]
theorem cell_l (E : En) (I : It) (L : Lt) (R : Rt) (Z : Zt) {t i : Nat} (h : 10 ≤ t) (h2 : tc t = 1) : cellE E I L R Z t i = .inl (E.2.1 1, alen Z t i, .inr (.inl (L t i))) := by
  unfold cellE
  rw [if_neg (Nat.not_lt.mpr h), if_pos h2]
theorem cell_r (E : En) (I : It) (L : Lt) (R : Rt) (Z : Zt) {t i : Nat} (h : 10 ≤ t) (h1 : 3 ≤ tc t) : cellE E I L R Z t i = .inl (E.2.1 (tc t), alen Z t i, .inr (.inr (.inr (.inr (fun j => cR E (R t i j)))))) := by
  unfold cellE
  rw [if_neg (Nat.not_lt.mpr h), if_neg (by omega), if_neg (by omega)]
theorem va_one {D : va_G} {cl : List vw_C} {q : Nat × va_E} {H : Heap} (h : va_at D cl q H) : va_P D cl [q] H := fun k q2 hk => by
  have h0 : k < 1 := (List.getElem?_eq_some_iff.mp hk).1
  rw [show k = 0 by omega] at hk
  cases hk
  exact h
theorem fV_V (E : En) (I : It) (R : Rt) (t i : Nat) {k n : Nat} (h : k < n) : vp_V ((List.range n).map (fV E I R t i)) k = fV E I R t i k := by
  unfold vp_V
  rw [List.getD_eq_getElem?_getD, List.getElem?_map, List.getElem?_range h]
  rfl
section HEAP
variable {l : Launch} {E : En} {d : Nat} {M : Mt} {Z0 : Zt} {pc pc2 tgt : Nat} {ls : List (Option AV)} {st : List AV} {I : It} {L : Lt} {R : Rt} {Z : Zt} {Q : Qt}
theorem aw_getf {idx t i f : Nat} {v : AV} (hd : Dc M pc (.getfield idx) 3 pc2) (hl : FL M.1.cls idx t f) (hv : cv E v = fV E I R t i f) (hvv : ∀ H, Wo E I L R Z H → VD Z t i → vv Z v) (k : AWq l E d M Z0 pc2 ls (v :: st) I L R Z Q) : AWq l E d M Z0 pc ls (vr t i :: st) I L R Z Q := by
  obtain ⟨hd, rfl⟩ := hd
  obtain ⟨⟨ht, hf⟩, hlk⟩ := hl
  obtain ⟨r, I2, L2, R2, Z2, hq, hz, k⟩ := k
  refine ⟨r, I2, L2, R2, Z2, hq, hz, fun p e Rm s m args below meth c F h1 h2 h3 h4 als H locs hl v1 v2 hW hS => ?_⟩
  have hvd : VD Z t i := vd_of (vh1 v1) (by omega)
  have hat := hW.at hvd
  rw [cell_o E I L R Z ht] at hat
  refine va_get F.1 F.2.1 F.2.2.2.2.1 (cl_in t ht) F.2.2.2.1 F.2.2.2.2.2.1.1 (va_one hat) 0 rfl (cl_at t ht) f hf (F.2.2.2.2.1 _ hlk) (fun _ h => h) (v := cv E v) ?_ hd (k p e Rm s m args below meth c F h1 h2 h3 h4 als H locs hl (vc1 (hvv H hW hvd) (vt1 v1)) v2 hW hS)
  rw [List.getElem?_map, List.getElem?_range hf, hv]
  rfl
theorem aw_getI {idx t i f : Nat} (hd : Dc M pc (.getfield idx) 3 pc2) (hl : FL M.1.cls idx t f) (k : AWq l E d M Z0 pc2 ls (vi (I t i f) :: st) I L R Z Q) (hf : fr t f = false := by rfl) : AWq l E d M Z0 pc ls (vr t i :: st) I L R Z Q :=
  aw_getf (v := vi (I t i f)) hd hl (by unfold fV; rw [hf]; rfl) (fun _ _ _ => trivial) k
theorem aw_getR {idx t i f t2 i2 : Nat} (hd : Dc M pc (.getfield idx) 3 pc2) (hl : FL M.1.cls idx t f) (hr : R t i f = some (t2, i2)) (k : AWq l E d M Z0 pc2 ls (vr t2 i2 :: st) I L R Z Q) (hf : fr t f = true := by rfl) : AWq l E d M Z0 pc ls (vr t i :: st) I L R Z Q :=
  aw_getf (v := vr t2 i2) hd hl (by unfold fV; rw [hf, hr]; rfl) (fun _ hW hvd => hW.2.2 t i f (t2, i2) hr hvd) k
/-- a field is written -/
theorem aw_putf {idx t i f : Nat} {v : AV} {I1 : It} {R1 : Rt} (hd : Dc M pc (.putfield idx) 3 pc2) (hl : FL M.1.cls idx t f) (hfin : (Tt t f).2.2.2 = false ∨ ((Tt t f).2.2.2 = true ∧ M.1.name = "<init>" ∧ (Tt t f).1 = M.1.cls)) (hn : narrow (Ty t f) (cv E v) = cv E v) (hfit : fits (Ty t f) (cv E v) = true)
    (hV : ∀ j, j < nf t → updV (fV E I R t i) f (cv E v) j = fV E I1 R1 t i j) (ho : ∀ t2 i2, ¬ (t2 = t ∧ i2 = i) → I1 t2 i2 = I t2 i2 ∧ R1 t2 i2 = R t2 i2) (hr : ∀ H, Wo E I L R Z H → VD Z t i → vv Z v → ∀ k q, R1 t i k = some q → vv Z (vr q.1 q.2))
    (k : AWq l E d M Z0 pc2 ls st I1 L R1 Z Q) : AWq l E d M Z0 pc ls (v :: vr t i :: st) I L R Z Q := by
  obtain ⟨hd, rfl⟩ := hd
  obtain ⟨⟨ht, hf⟩, hlk⟩ := hl
  obtain ⟨r, I2, L2, R2, Z2, hq, hz, k⟩ := k
  refine ⟨r, I2, L2, R2, Z2, hq, hz, fun p e Rm s m args below meth c F h1 h2 h3 h4 als H locs hl v1 v2 hW hS => ?_⟩
  have hvd : VD Z t i := vd_of (vh1 (vt1 v1)) (by omega)
  have hat := hW.at hvd
  rw [cell_o E I L R Z ht] at hat
  have hK := F.2.2.2.2.2.1.1
  have hts := F.2.2.2.2.1
  have hap := va_apart (own := M.1.cls) hts (cl_in t ht) (Ty t) (cl_ty t ht) (cl_nm t ht) hK (cl_at t ht)
  obtain ⟨r1, e1, cell, q1, q2, q3, q4⟩ := hat
  have hr1 : r1 = (Rn t, Tt t, nf t) := Option.some.inj (e1.symm.trans (cl_at t ht))
  subst hr1
  obtain ⟨hSl, hfc, kC, hkC, hkind⟩ := hK.1 t _ (cl_at t ht)
  obtain ⟨cf, kf, fi, fd, hi, hsl⟩ := hSl f hf
  have hst := (u_facts hfc hkC (u_lays hts (cl_in t ht) hf) hi).1
  obtain ⟨g1, g2⟩ := u_fits hfc hkC hkind (u_lays hts (cl_in t ht) hf) hi (cl_ty t ht f hf) hn hfit
  have hAa : Af E (ad E t i) := by unfold Af ad; rw [if_pos (by omega)]; omega
  have hfin2 : hasFlag fd.accessFlags Acc.final = false ∨ (m.cls = cf ∧ meth.name = "<init>") := by
    have hlay := hts _ (cl_in t ht _ (u_in_lay hf))
    unfold u_lay at hlay
    rcases hfin with h | ⟨h, h5, h6⟩
    · rw [if_neg (by rw [h]; decide)] at hlay
      obtain ⟨c', k', cf', kf', fi', fd', r1, r2, hi', -, hfn, -⟩ := Cond.lays_spec hlay
      cases hi.symm.trans hi'
      exact Or.inl hfn
    · right
      refine ⟨?_, by rw [F.2.2.2.2.2.2.2.2.1]; exact h5⟩
      rw [if_pos h] at hlay
      obtain ⟨_, _, c', _, _, _, -, -, hf', -, -, -, hown2, -⟩ := Cond.laysFinal_spec hlay
      have e1 : c' = cf := by have := hi.symm.trans hf'; simp at this; exact this.1.symm
      rw [h6] at hown2
      rw [← e1]
      exact Option.some.inj (F.2.2.2.1.symm.trans hown2)
  have hal : ad E t i < H.size := (Array.getElem?_eq_some_iff.mp q1).1
  have eq1 : (H.setIfInBounds (ad E t i) (cell.setSlot fd.slot (cv E v)))[ad E t i]? = some (cell.setSlot fd.slot (cv E v)) := by simp [Array.getElem?_setIfInBounds, hal]
  have eq2 : (H.setIfInBounds (ad E t i) (cell.setSlot fd.slot (cv E v))).size = H.size := by simp
  have eq3 : ∀ q, q ≠ ad E t i → (H.setIfInBounds (ad E t i) (cell.setSlot fd.slot (cv E v)))[q]? = H[q]? := fun q hq => by simp [Array.getElem?_setIfInBounds, Ne.symm hq]
  refine W.putf F.1 F.2.1 F.2.2.2.1 (F.2.2.2.2.1 _ hlk) hi hst hfin2 q1 (by rw [q3]; exact fun h => by cases h) (by rw [hsl]; exact k2_hasslot (q4 f hf)) g1 (by rw [q2, q3]; exact g2) rfl rfl hd ?_
  generalize H.setIfInBounds (ad E t i) (cell.setSlot fd.slot (cv E v)) = H1 at eq1 eq2 eq3 ⊢
  refine k p e Rm s m args below meth c F h1 h2 h3 h4 als H1 _ hl (vt1 (vt1 v1)) v2 (hW.put hvd eq2 eq3 ?_ (fun t2 i2 hne => ⟨(ho t2 i2 hne).1, rfl, (ho t2 i2 hne).2⟩) (hr H hW hvd (vh1 v1))) (hS.put eq2 eq3 hAa)
  rw [cell_o E I1 L R1 Z ht]
  rw [hsl] at eq1
  refine ⟨_, cl_at t ht, t_OB.to (V := updV (fV E I R t i) f (cv E v)) ⟨_, eq1, q2, q3, ?_⟩ (fun j hj => (hV j hj).trans (fV_V E I1 R1 t i hj).symm)⟩
  exact t_set (fun k2 hk2 => by rw [q4 k2 hk2, fV_V E I R t i hk2]) hap hf (cv E v)
theorem aw_putI {idx t i f : Nat} {x : Int32} (hd : Dc M pc (.putfield idx) 3 pc2) (hl : FL M.1.cls idx t f) (k : AWq l E d M Z0 pc2 ls st (sI I t i f x) L R Z Q) (hf : fr t f = false := by rfl) (hty : Ty t f = .int := by rfl) (hfin : (Tt t f).2.2.2 = false ∨ ((Tt t f).2.2.2 = true ∧ M.1.name = "<init>" ∧ (Tt t f).1 = M.1.cls) := by first | exact Or.inl rfl | exact Or.inr ⟨rfl, rfl, rfl⟩) : AWq l E d M Z0 pc ls (vi x :: vr t i :: st) I L R Z Q := by
  refine aw_putf (v := vi x) (I1 := sI I t i f x) (R1 := R) hd hl hfin (by rw [hty]; rfl) (by rw [hty]; rfl) (fun j hj => ?_) (fun t2 i2 hne => ⟨sI_n hne, rfl⟩) (fun H hW hvd _ k q hq => hW.2.2 t i k q hq hvd) k
  unfold updV fV
  rw [sI_s]
  by_cases e : j = f
  · subst e
    rw [if_pos rfl, hf]
    simp [upd, cv]
  · rw [if_neg e]
    simp [upd, e]
theorem aw_putZ {idx t i f : Nat} {x : Int32} (hd : Dc M pc (.putfield idx) 3 pc2) (hl : FL M.1.cls idx t f) (hx : x = 0 ∨ x = 1) (k : AWq l E d M Z0 pc2 ls st (sI I t i f x) L R Z Q) (hf : fr t f = false := by rfl) (hty : Ty t f = .boolean := by rfl) (hfin : (Tt t f).2.2.2 = false := by rfl) : AWq l E d M Z0 pc ls (vi x :: vr t i :: st) I L R Z Q := by
  refine aw_putf (v := vi x) (I1 := sI I t i f x) (R1 := R) hd hl (Or.inl hfin) (by rw [hty]; rcases hx with rfl | rfl <;> rfl) (by rw [hty]; rcases hx with rfl | rfl <;> rfl) (fun j hj => ?_) (fun t2 i2 hne => ⟨sI_n hne, rfl⟩) (fun H hW hvd _ k q hq => hW.2.2 t i k q hq hvd) k
  unfold updV fV
  rw [sI_s]
  by_cases e : j = f
  · subst e
    rw [if_pos rfl, hf]
    simp [upd, cv]
  · rw [if_neg e]
    simp [upd, e]
theorem up_s {α : Type} (f : Nat → α) (k : Nat) (v : α) : va_up f k v k = v := if_pos rfl
theorem up_n {α : Type} {f : Nat → α} {k j : Nat} {v : α} (h : ¬ j = k) : va_up f k v j = f j := if_neg h
/-- a final reference, in a constructor -/
theorem aw_putR {idx t i f t2 i2 : Nat} (hd : Dc M pc (.putfield idx) 3 pc2) (hl : FL M.1.cls idx t f) (k : AWq l E d M Z0 pc2 ls st I L (sR R t i f (some (t2, i2))) Z Q) (hf : fr t f = true := by rfl) (hty : refKind (Ty t f) = true := by rfl) (hfin : (Tt t f).2.2.2 = true ∧ M.1.name = "<init>" ∧ (Tt t f).1 = M.1.cls := by exact ⟨rfl, rfl, rfl⟩) : AWq l E d M Z0 pc ls (vr t2 i2 :: vr t i :: st) I L R Z Q := by
  have h0 : narrow (Ty t f) (.ref (ad E t2 i2)) = .ref (ad E t2 i2) ∧ fits (Ty t f) (.ref (ad E t2 i2)) = true := by
    revert hty
    cases Ty t f <;> intro h <;> first | exact ⟨rfl, rfl⟩ | cases h
  refine aw_putf (v := vr t2 i2) (I1 := I) (R1 := sR R t i f (some (t2, i2))) hd hl (Or.inr hfin) h0.1 h0.2 (fun j hj => ?_) (fun t2 i2 hne => ⟨rfl, sR_n hne⟩) (fun H hW hvd hv k q hq => ?_) k
  · unfold updV fV
    rw [sR_s]
    by_cases e : j = f
    · subst e
      rw [if_pos rfl, hf]
      simp [va_up, cv, cR, va_rf]
    · rw [if_neg e]
      simp [va_up, e]
  · rw [sR_s] at hq
    by_cases e : k = f
    · subst e
      rw [up_s] at hq
      cases hq
      exact hv
    · rw [up_n e] at hq
      exact hW.2.2 t i k q hq hvd
/-! ===== arrays ===== -/
theorem in_nI {n N : Nat} (h : n < N) (h2 : n < 2147483648) : ¬ (nI n < 0 ∨ N ≤ (nI n).toNatClampNeg) := by
  rw [nI_clamp h2]
  rintro (q | q)
  · exact nI_pos h2 q
  · omega
theorem af_ad {E : En} {t i : Nat} (h : t < 50) : Af E (ad E t i) := by unfold Af ad; rw [if_pos h]; omega
theorem aw_iald {t i n : Nat} {x : Int32} (hd : Dc M pc .iaload 1 pc2) (hx : x = nI n) (hn : n < alen Z t i) (hb : n < 2147483648) (k : AWq l E d M Z0 pc2 ls (vi (I t i n) :: st) I L R Z Q) (ht : 10 ≤ t ∧ t < 50 ∧ tc t = 0 := by exact ⟨by decide, by decide, rfl⟩) : AWq l E d M Z0 pc ls (vi x :: vr t i :: st) I L R Z Q := by
  obtain ⟨hd, rfl⟩ := hd
  subst hx
  refine k.lift (fun v1 v2 => ⟨vc1 trivial (vt1 (vt1 v1)), v2⟩) (fun p e Rm s m args below meth c cells slots Qs F als H locs hl v1 hW hS kk => ?_)
  have hat := hW.at (vd_of (vh1 (vt1 v1)) ht.2.1)
  rw [cell_i E I L R Z ht.1 (by omega) (by omega), ht.2.2] at hat
  refine W.iald F.1 F.2.1 hat ((F.2.2.2.2.2.1.1.2 0 _ (tys_at E (by decide))).1 _ (fun j => .int (I t i j))) (fun q => by cases q) (by show ¬ (_ ∨ (arrV _ _ _).slots.size ≤ _); rw [arrV_size]; exact in_nI hn hb) (v := .int (I t i n)) ?_ rfl rfl hd (kk als hl)
  show (arrV _ _ _).slots[_]? = _
  rw [nI_clamp hb, arrV_read _ _ hn]
theorem aw_bald {t i n : Nat} {x : Int32} (hd : Dc M pc .baload 1 pc2) (hx : x = nI n) (hn : n < alen Z t i) (hb : n < 2147483648) (k : AWq l E d M Z0 pc2 ls (vi (I t i n) :: st) I L R Z Q) (ht : 10 ≤ t ∧ t < 50 ∧ tc t = 2 := by exact ⟨by decide, by decide, rfl⟩) : AWq l E d M Z0 pc ls (vi x :: vr t i :: st) I L R Z Q := by
  obtain ⟨hd, rfl⟩ := hd
  subst hx
  refine k.lift (fun v1 v2 => ⟨vc1 trivial (vt1 (vt1 v1)), v2⟩) (fun p e Rm s m args below meth c cells slots Qs F als H locs hl v1 hW hS kk => ?_)
  have hat := hW.at (vd_of (vh1 (vt1 v1)) ht.2.1)
  rw [cell_i E I L R Z ht.1 (by omega) (by omega), ht.2.2] at hat
  refine W.bald F.1 F.2.1 hat ((F.2.2.2.2.2.1.1.2 2 _ (tys_at E (by decide))).1 _ (fun j => .int (I t i j))) (fun q => by cases q) (by show ¬ (_ ∨ (arrV _ _ _).slots.size ≤ _); rw [arrV_size]; exact in_nI hn hb) (v := .int (I t i n)) ?_ rfl rfl hd (kk als hl)
  show (arrV _ _ _).slots[_]? = _
  rw [nI_clamp hb, arrV_read _ _ hn]
theorem aw_lald {t i n : Nat} {x : Int32} (hd : Dc M pc .laload 1 pc2) (hx : x = nI n) (hn : n < alen Z t i) (hb : n < 2147483648) (k : AWq l E d M Z0 pc2 ls (vl (L t i n) :: st) I L R Z Q) (ht : 10 ≤ t ∧ t < 50 ∧ tc t = 1 := by exact ⟨by decide, by decide, rfl⟩) : AWq l E d M Z0 pc ls (vi x :: vr t i :: st) I L R Z Q := by
  obtain ⟨hd, rfl⟩ := hd
  subst hx
  refine k.lift (fun v1 v2 => ⟨vc1 trivial (vt1 (vt1 v1)), v2⟩) (fun p e Rm s m args below meth c cells slots Qs F als H locs hl v1 hW hS kk => ?_)
  have hat := hW.at (vd_of (vh1 (vt1 v1)) ht.2.1)
  rw [cell_l E I L R Z ht.1 ht.2.2] at hat
  refine W.lald F.1 F.2.1 hat ((F.2.2.2.2.2.1.1.2 1 _ (tys_at E (by decide))).1 _ (fun j => .long (L t i j))) (fun q => by cases q) (by show ¬ (_ ∨ (arrV _ _ _).slots.size ≤ _); rw [arrV_size]; exact in_nI hn hb) (v := .long (L t i n)) ?_ rfl rfl hd (kk als hl)
  show (arrV _ _ _).slots[_]? = _
  rw [nI_clamp hb, arrV_read _ _ hn]
theorem aw_aald {t i n : Nat} {x : Int32} {r : Option (Nat × Nat)} (hd : Dc M pc .aaload 1 pc2) (hx : x = nI n) (hn : n < alen Z t i) (hb : n < 2147483648) (hr : R t i n = r) (k : AWq l E d M Z0 pc2 ls (vo r :: st) I L R Z Q) (ht : 10 ≤ t ∧ t < 50 ∧ 3 ≤ tc t ∧ tc t < 8 ∧ (tcT (tc t)).isReference = true := by exact ⟨by decide, by decide, by decide, by decide, rfl⟩) : AWq l E d M Z0 pc ls (vi x :: vr t i :: st) I L R Z Q := by
  obtain ⟨hd, rfl⟩ := hd
  subst hx
  obtain ⟨r1, I2, L2, R2, Z2, hq, hz, k⟩ := k
  refine ⟨r1, I2, L2, R2, Z2, hq, hz, fun p e Rm s m args below meth c F h1 h2 h3 h4 als H locs hl v1 v2 hW hS => ?_⟩
  have hvd : VD Z t i := vd_of (vh1 (vt1 v1)) ht.2.1
  have hat := hW.at hvd
  rw [cell_r E I L R Z ht.1 ht.2.2.1] at hat
  have hvr : vv Z (vo r) := by
    cases hr2 : r with
    | none => trivial
    | some q => exact hW.2.2 t i n q (hr.trans hr2) hvd
  refine W.aald F.1 F.2.1 hat ((F.2.2.2.2.2.1.1.2 (tc t) _ (tys_at E ht.2.2.2.1)).1 _ (fun j => va_rf (cR E (R t i j)))) ht.2.2.2.2 (fun q => by cases q) (by show ¬ (_ ∨ (arrV _ _ _).slots.size ≤ _); rw [arrV_size]; exact in_nI hn hb) (v := cv E (vo r)) ?_ rfl rfl hd (k p e Rm s m args below meth c F h1 h2 h3 h4 als H locs hl (vc1 hvr (vt1 (vt1 v1))) v2 hW hS)
  show (arrV _ _ _).slots[_]? = _
  rw [nI_clamp hb, arrV_read _ _ hn, cv_o, ← hr]
theorem aw_alen {t i : Nat} {v : Int32} (hd : Dc M pc .arraylength 1 pc2) (hv : nI (alen Z t i) = v) (k : AWq l E d M Z0 pc2 ls (vi v :: st) I L R Z Q) (ht : 10 ≤ t ∧ t < 50 ∧ tc t < 8 := by exact ⟨by decide, by decide, by decide⟩) : AWq l E d M Z0 pc ls (vr t i :: st) I L R Z Q := by
  obtain ⟨hd, rfl⟩ := hd
  refine k.lift (fun v1 v2 => ⟨vc1 trivial (vt1 v1), v2⟩) (fun p e Rm s m args below meth c cells slots Qs F als H locs hl v1 hW hS kk => ?_)
  have hat := hW.at (vd_of (vh1 v1) ht.2.1)
  have hK := F.2.2.2.2.2.1.1
  by_cases h1 : tc t = 1
  · rw [cell_l E I L R Z ht.1 h1] at hat
    exact va_alen F.1 F.2.1 hK (va_one hat) 0 1 rfl (tys_at E (by decide)) hv hd (kk als hl)
  · by_cases h2 : tc t < 3
    · rw [cell_i E I L R Z ht.1 h2 h1] at hat
      exact va_alen F.1 F.2.1 hK (va_one hat) 0 (tc t) rfl (tys_at E ht.2.2) hv hd (kk als hl)
    · rw [cell_r E I L R Z ht.1 (by omega)] at hat
      exact va_alen F.1 F.2.1 hK (va_one hat) 0 (tc t) rfl (tys_at E ht.2.2) hv hd (kk als hl)
theorem arr_upd (cA : ClassId) (n k : Nat) (f : Nat → Int32) (x : Int32) : arrV cA n (updV (fun j => .int (f j)) k (.int x)) = vp_cell cA (n, .inl (upd f k x)) := by
  rw [vp_cell_i]
  congr 1
  funext q
  by_cases hq : q = k
  · subst hq
    simp [updV, upd]
  · simp [updV, upd, hq]
theorem arr_updL (cA : ClassId) (n k : Nat) (f : Nat → Int64) (x : Int64) : arrV cA n (updV (fun j => .long (f j)) k (.long x)) = vp_cell cA (n, .inr (.inl (vp_updL f k x))) := by
  rw [vp_cell_l]
  congr 1
  funext q
  by_cases hq : q = k
  · subst hq
    simp [updV, vp_updL]
  · simp [updV, vp_updL, hq]
theorem arr_updR (cA : ClassId) (n k : Nat) (f : Nat → Option Nat) (x : Option Nat) : arrV cA n (updV (fun j => va_rf (f j)) k (va_rf x)) = vp_cell cA (n, .inr (.inr (.inr (.inr (va_up f k x))))) := by
  rw [vp_cell_q]
  congr 1
  funext q
  by_cases hq : q = k
  · subst hq
    simp [updV, va_up]
  · simp [updV, va_up, hq]
theorem aw_iast {t i n : Nat} {x y : Int32} (hd : Dc M pc .iastore 1 pc2) (hx : x = nI n) (hn : n < alen Z t i) (hb : n < 2147483648) (k : AWq l E d M Z0 pc2 ls st (sI I t i n y) L R Z Q) (ht : 10 ≤ t ∧ t < 50 ∧ tc t = 0 := by exact ⟨by decide, by decide, rfl⟩) : AWq l E d M Z0 pc ls (vi y :: vi x :: vr t i :: st) I L R Z Q := by
  obtain ⟨hd, rfl⟩ := hd
  subst hx
  obtain ⟨r, I2, L2, R2, Z2, hq, hz, k⟩ := k
  refine ⟨r, I2, L2, R2, Z2, hq, hz, fun p e Rm s m args below meth c F h1 h2 h3 h4 als H locs hl v1 v2 hW hS => ?_⟩
  have hvd : VD Z t i := vd_of (vh1 (vt1 (vt1 v1))) ht.2.1
  have hat := hW.at hvd
  rw [cell_i E I L R Z ht.1 (by omega) (by omega), ht.2.2] at hat
  refine W.iast F.1 F.2.1 hat ((F.2.2.2.2.2.1.1.2 0 _ (tys_at E (by decide))).1 _ (fun j => .int (I t i j))) (fun q => by cases q) (by show ¬ (_ ∨ (arrV _ _ _).slots.size ≤ _); rw [arrV_size]; exact in_nI hn hb) rfl rfl hd fun H1 e1 e2 e3 => ?_
  refine k p e Rm s m args below meth c F h1 h2 h3 h4 als H1 _ hl (vt1 (vt1 (vt1 v1))) v2 (hW.put hvd e2 e3 ?_ (fun t2 i2 hne => ⟨sI_n hne, rfl, rfl⟩) (fun k q hq => hW.2.2 t i k q hq hvd)) (hS.put e2 e3 (af_ad ht.2.1))
  rw [cell_i E _ L R Z ht.1 (by omega) (by omega), ht.2.2, sI_s]
  show H1[_]? = some (vp_cell _ _)
  rw [e1, nI_clamp hb, ← arr_upd, ← arrV_store]
  rfl
theorem aw_bast {t i n : Nat} {x y : Int32} (hd : Dc M pc .bastore 1 pc2) (hx : x = nI n) (hn : n < alen Z t i) (hb : n < 2147483648) (k : AWq l E d M Z0 pc2 ls st (sI I t i n y.toInt8.toInt32) L R Z Q) (ht : 10 ≤ t ∧ t < 50 ∧ tc t = 2 := by exact ⟨by decide, by decide, rfl⟩) : AWq l E d M Z0 pc ls (vi y :: vi x :: vr t i :: st) I L R Z Q := by
  obtain ⟨hd, rfl⟩ := hd
  subst hx
  obtain ⟨r, I2, L2, R2, Z2, hq, hz, k⟩ := k
  refine ⟨r, I2, L2, R2, Z2, hq, hz, fun p e Rm s m args below meth c F h1 h2 h3 h4 als H locs hl v1 v2 hW hS => ?_⟩
  have hvd : VD Z t i := vd_of (vh1 (vt1 (vt1 v1))) ht.2.1
  have hat := hW.at hvd
  rw [cell_i E I L R Z ht.1 (by omega) (by omega), ht.2.2] at hat
  refine W.bast F.1 F.2.1 hat ((F.2.2.2.2.2.1.1.2 2 _ (tys_at E (by decide))).1 _ (fun j => .int (I t i j))) (fun q => by cases q) (by show ¬ (_ ∨ (arrV _ _ _).slots.size ≤ _); rw [arrV_size]; exact in_nI hn hb) rfl rfl hd fun H1 e1 e2 e3 => ?_
  refine k p e Rm s m args below meth c F h1 h2 h3 h4 als H1 _ hl (vt1 (vt1 (vt1 v1))) v2 (hW.put hvd e2 e3 ?_ (fun t2 i2 hne => ⟨sI_n hne, rfl, rfl⟩) (fun k q hq => hW.2.2 t i k q hq hvd)) (hS.put e2 e3 (af_ad ht.2.1))
  rw [cell_i E _ L R Z ht.1 (by omega) (by omega), ht.2.2, sI_s]
  show H1[_]? = some (vp_cell _ _)
  rw [e1, nI_clamp hb, ← arr_upd, ← arrV_store]
  rfl
theorem aw_last {t i n : Nat} {x : Int32} {y : Int64} (hd : Dc M pc .lastore 1 pc2) (hx : x = nI n) (hn : n < alen Z t i) (hb : n < 2147483648) (k : AWq l E d M Z0 pc2 ls st I (sL L t i n y) R Z Q) (ht : 10 ≤ t ∧ t < 50 ∧ tc t = 1 := by exact ⟨by decide, by decide, rfl⟩) : AWq l E d M Z0 pc ls (vl y :: vi x :: vr t i :: st) I L R Z Q := by
  obtain ⟨hd, rfl⟩ := hd
  subst hx
  obtain ⟨r, I2, L2, R2, Z2, hq, hz, k⟩ := k
  refine ⟨r, I2, L2, R2, Z2, hq, hz, fun p e Rm s m args below meth c F h1 h2 h3 h4 als H locs hl v1 v2 hW hS => ?_⟩
  have hvd : VD Z t i := vd_of (vh1 (vt1 (vt1 v1))) ht.2.1
  have hat := hW.at hvd
  rw [cell_l E I L R Z ht.1 ht.2.2] at hat
  refine W.last F.1 F.2.1 hat ((F.2.2.2.2.2.1.1.2 1 _ (tys_at E (by decide))).1 _ (fun j => .long (L t i j))) (fun q => by cases q) (by show ¬ (_ ∨ (arrV _ _ _).slots.size ≤ _); rw [arrV_size]; exact in_nI hn hb) rfl rfl hd fun H1 e1 e2 e3 => ?_
  refine k p e Rm s m args below meth c F h1 h2 h3 h4 als H1 _ hl (vt1 (vt1 (vt1 v1))) v2 (hW.put hvd e2 e3 ?_ (fun t2 i2 hne => ⟨rfl, sL_n hne, rfl⟩) (fun k q hq => hW.2.2 t i k q hq hvd)) (hS.put e2 e3 (af_ad ht.2.1))
  rw [cell_l E I _ R Z ht.1 ht.2.2, sL_s]
  show H1[_]? = some (vp_cell _ _)
  rw [e1, nI_clamp hb, ← arr_updL, ← arrV_store]
  rfl
/-- an object comes to a row of objects of its class -/
theorem aw_aast {t i n t2 i2 : Nat} {x : Int32} (hd : Dc M pc .aastore 1 pc2) (hx : x = nI n) (hn : n < alen Z t i) (hb : n < 2147483648) (k : AWq l E d M Z0 pc2 ls st I L (sR R t i n (some (t2, i2))) Z Q) (ht : 10 ≤ t ∧ t < 50 ∧ 3 ≤ tc t ∧ tc t < 8 ∧ t2 < 10 ∧ tcT (tc t) = .object (Rn t2) := by exact ⟨by decide, by decide, by decide, by decide, by decide, rfl⟩) : AWq l E d M Z0 pc ls (vr t2 i2 :: vi x :: vr t i :: st) I L R Z Q := by
  obtain ⟨hd, rfl⟩ := hd
  subst hx
  obtain ⟨r, I2, L2, R2, Z2, hq, hz, k⟩ := k
  refine ⟨r, I2, L2, R2, Z2, hq, hz, fun p e Rm s m args below meth c F h1 h2 h3 h4 als H locs hl v1 v2 hW hS => ?_⟩
  obtain ⟨ht1, ht2, ht3, ht4, ht5, ht6⟩ := ht
  have hvd : VD Z t i := vd_of (vh1 (vt1 (vt1 v1))) ht2
  have hat := hW.at hvd
  have hvd2 : VD Z t2 i2 := vd_of (vh1 v1) (by omega)
  have hat2 := hW.at hvd2
  have hK := F.2.2.2.2.2.1.1
  rw [cell_r E I L R Z ht1 ht3] at hat
  rw [cell_o E I L R Z ht5] at hat2
  obtain ⟨r', hr', cellV, g1, g2, g3, -⟩ := hat2
  have hcls := (hK.1 t2 _ (cl_at t2 ht5)).2
  have hra := (hK.2 (tc t) _ (tys_at E ht4)).2
  rw [ht6] at hra
  obtain ⟨kA, comp, k1, k2, k3, -⟩ := hra
  have hcomp : comp = E.1.1 t2 := Option.some.inj (k3.symm.trans hcls.1)
  subst hcomp
  obtain ⟨kC, hkC, -⟩ := hcls.2
  have hin := in_nI hn hb
  refine W.aast F.1 F.2.1 hat (fun q h => by cases h) (fun h => by cases h) k1 k2 rfl hkC ⟨fun q => hin (Or.inl q), by show _ < (arrV _ _ _).slots.size; rw [arrV_size, nI_clamp hb]; exact hn⟩ g1 (fun q h => by rw [g3] at h; cases h) (by rw [g2]; exact hkC) (by rw [g2]; exact va_assign hcls) rfl rfl hd fun H1 e1 e2 e3 => ?_
  refine k p e Rm s m args below meth c F h1 h2 h3 h4 als H1 _ hl (vt1 (vt1 (vt1 v1))) v2 (hW.put hvd e2 e3 ?_ (fun t2 i2 hne => ⟨rfl, rfl, sR_n hne⟩) (fun k q hq => ?_)) (hS.put e2 e3 (af_ad ht2))
  · rw [cell_r E I L _ Z ht1 ht3, sR_s]
    show H1[_]? = some (vp_cell _ _)
    have e4 : (fun j => cR E (va_up (R t i) n (some (t2, i2)) j)) = va_up (fun j => cR E (R t i j)) n (some (ad E t2 i2)) := by
      funext j
      by_cases e : j = n
      · subst e
        rw [up_s, up_s]
        rfl
      · rw [up_n e, up_n e]
    rw [e1, nI_clamp hb, e4, ← arr_updR, ← arrV_store]
    rfl
  · rw [sR_s] at hq
    by_cases e : k = n
    · subst e
      rw [up_s] at hq
      cases hq
      exact Or.inr hvd2
    · rw [up_n e] at hq
      exact hW.2.2 t i k q hq hvd
/-! ===== ends ===== -/
theorem aw_iret {x : Int32} {ty : FieldType} (hd : Dc M pc .ireturn 1 pc2) (hr : M.2.2.2 = some ty) (hn : narrow ty (.int x) = .int x) (hq : Q (some (vi x)) I L R Z) : AWq l E d M Z0 pc ls [vi x] I L R Z Q := by
  obtain ⟨hd, -⟩ := hd
  refine ⟨some (vi x), I, L, R, Z, hq, ⟨Nat.le_refl _, Nat.le_refl _⟩, fun p e Rm s m args below meth c F h1 h2 h3 h4 als H locs hl v1 v2 hW hS => ?_⟩
  exact W.zret F.1 F.2.1 (F.2.2.2.2.2.2.1.trans hr) hn (fun t ht hwm => ⟨rfl, by rw [ht]; exact hW, fun v hv => by cases hv; trivial, hS.F ht⟩) hS.2.2 hd F.2.2.2.2.2.2.2.1
theorem aw_lret {x : Int64} (hd : Dc M pc .lreturn 1 pc2) (hr : M.2.2.2 = some .long) (hq : Q (some (vl x)) I L R Z) : AWq l E d M Z0 pc ls [vl x] I L R Z Q := by
  obtain ⟨hd, -⟩ := hd
  refine ⟨some (vl x), I, L, R, Z, hq, ⟨Nat.le_refl _, Nat.le_refl _⟩, fun p e Rm s m args below meth c F h1 h2 h3 h4 als H locs hl v1 v2 hW hS => ?_⟩
  exact W.lret F.1 F.2.1 (F.2.2.2.2.2.2.1.trans hr) (fun t ht hwm => ⟨rfl, by rw [ht]; exact hW, fun v hv => by cases hv; trivial, hS.F ht⟩) hS.2.2 hd F.2.2.2.2.2.2.2.1
theorem aw_vret (hd : Dc M pc .return_ 1 pc2) (hr : M.2.2.2 = none) (hq : Q none I L R Z) : AWq l E d M Z0 pc ls [] I L R Z Q := by
  obtain ⟨hd, -⟩ := hd
  refine ⟨none, I, L, R, Z, hq, ⟨Nat.le_refl _, Nat.le_refl _⟩, fun p e Rm s m args below meth c F h1 h2 h3 h4 als H locs hl v1 v2 hW hS => ?_⟩
  exact W.vret F.1 F.2.1 (F.2.2.2.2.2.2.1.trans hr) (fun t ht hwm => ⟨rfl, by rw [ht]; exact hW, fun v hv => (by cases hv), hS.F ht⟩) hS.2.2 hd F.2.2.2.2.2.2.2.1
theorem aw_aret {r : Option (Nat × Nat)} {rt : FieldType} (hd : Dc M pc .areturn 1 pc2) (hr : M.2.2.2 = some rt) (hrt : (∃ n, rt = .object n) ∨ ∃ t, rt = .array t) (hq : Q (some (vo r)) I L R Z) : AWq l E d M Z0 pc ls [vo r] I L R Z Q := by
  obtain ⟨hd, -⟩ := hd
  refine ⟨some (vo r), I, L, R, Z, hq, ⟨Nat.le_refl _, Nat.le_refl _⟩, fun p e Rm s m args below meth c F h1 h2 h3 h4 als H locs hl v1 v2 hW hS => ?_⟩
  exact W.aret F.1 F.2.1 (F.2.2.2.2.2.2.1.trans hr) hrt (by cases r with
    | none => exact Or.inl rfl
    | some q => exact Or.inr ⟨_, rfl⟩) (fun t ht hwm => ⟨rfl, by rw [ht]; exact hW, fun v hv => by cases hv; exact vh1 v1, hS.F ht⟩) hS.2.2 hd F.2.2.2.2.2.2.2.1
end HEAP
