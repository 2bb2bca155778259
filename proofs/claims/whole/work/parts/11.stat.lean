section STAT
variable {l : Launch} {E : En} {d : Nat} {M M2 : Mt} {Z0 : Zt} {pc pc2 tgt n : Nat} {ls : List (Option AV)} {st : List AV} {I : It} {L : Lt} {R : Rt} {Z : Zt} {Q : Qt}
theorem ad_hi {E : En} {t i : Nat} (h : ¬ t < 50) : ad E t i = E.2.2.2.1 t i := if_neg h
theorem aw_gsAbv {idx : Nat} {host : String} (hd : Dc M pc (.getstatic idx) 3 pc2) (hlk : Cond.fieldLinkNest M.1.cls idx "PowerBonds" "ABOVE" "[I" host ∈ Gn) (k : AWq l E d M Z0 pc2 ls (vr 50 0 :: st) I L R Z Q) : AWq l E d M Z0 pc ls st I L R Z Q := by
  obtain ⟨hd, rfl⟩ := hd
  refine k.lift (fun v1 v2 => ⟨vc1 (Or.inl (Nat.le_refl 50)) v1, v2⟩) (fun p e Rm s m args below meth c cells slots Qs F als H locs hl v1 hW hS kk => ?_)
  have h := kk als hl
  rw [List.map_cons] at h
  exact va_getsN F.1 F.2.1 F.2.2.2.2.2.1.2.2.2.2.1.1 hS F.2.2.2.1 ((F.2.2.2.2.2.1.2.1 _ hlk).use rfl) (fun _ h => h) hd h
def abI (n : Nat) : Int32 := ([-1, 0, 0, 2, 0, 4] : List Int32).getD n 0
theorem aw_abv {x : Int32} {n : Nat} (hd : Dc M pc .iaload 1 pc2) (hx : x = nI n) (hn : n < 6) (k : AWq l E d M Z0 pc2 ls (vi (abI n) :: st) I L R Z Q) : AWq l E d M Z0 pc ls (vi x :: vr 50 0 :: st) I L R Z Q := by
  obtain ⟨hd, rfl⟩ := hd
  subst hx
  refine k.lift (fun v1 v2 => ⟨vc1 trivial (vt1 (vt1 v1)), v2⟩) (fun p e Rm s m args below meth c cells slots Qs F als H locs hl v1 hW hS kk => ?_)
  exact va_ti F.1 F.2.1 F.2.2.2.2.2.1.2.2.2.2.1.2 hS (in_nI hn (by omega)) (v := .int (abI n)) (by rw [nI_clamp (by omega)]; rfl) hd (kk als hl)
theorem aw_ldcG (hd : Dc M pc (.ldc 70) 2 pc2) (hc : M.1.cls = "PowerBonds$Tape") (k : AWq l E d M Z0 pc2 ls (vr 51 0 :: st) I L R Z Q) : AWq l E d M Z0 pc ls st I L R Z Q := by
  obtain ⟨hd, rfl⟩ := hd
  refine k.lift (fun v1 v2 => ⟨vc1 (Or.inl (by decide)) v1, v2⟩) (fun p e Rm s m args below meth c cells slots Qs F als H locs hl v1 hW hS kk => ?_)
  exact va_ldcS F.1 F.2.1 F.2.2.2.1 (by rw [hc]; exact F.2.2.2.2.2.1.2.2.2.1.1) hd (kk als hl)
theorem aw_ldcR (hd : Dc M pc (.ldc 76) 2 pc2) (hc : M.1.cls = "PowerBonds$Tape") (k : AWq l E d M Z0 pc2 ls (vr 51 1 :: st) I L R Z Q) : AWq l E d M Z0 pc ls st I L R Z Q := by
  obtain ⟨hd, rfl⟩ := hd
  refine k.lift (fun v1 v2 => ⟨vc1 (Or.inl (by decide)) v1, v2⟩) (fun p e Rm s m args below meth c cells slots Qs F als H locs hl v1 hW hS kk => ?_)
  exact va_ldcS F.1 F.2.1 F.2.2.2.1 (by rw [hc]; exact F.2.2.2.2.2.1.2.2.2.1.2) hd (kk als hl)
theorem aw_strV {idx i : Nat} (hd : Dc M pc (.getfield idx) 3 pc2) (hlk : Cond.fieldLink M.1.cls idx "java/lang/String" "value" "[B" ∈ G) (hi : i < 2) (k : AWq l E d M Z0 pc2 ls (vr 52 i :: st) I L R Z Q) : AWq l E d M Z0 pc ls (vr 51 i :: st) I L R Z Q := by
  obtain ⟨hd, rfl⟩ := hd
  refine k.lift (fun v1 v2 => ⟨vc1 (Or.inl (Nat.le_of_ble_eq_true rfl)) (vt1 v1), v2⟩) (fun p e Rm s m args below meth c cells slots Qs F als H locs hl v1 hW hS kk => ?_)
  exact vk_getf F.1 F.2.1 (F.2.2.2.2.2.1.2.2.2.2.2.1.1 i hi).2.2.1 hS F.2.2.2.1 (F.2.2.2.2.1 _ hlk) (fun _ h => h) hd (kk als hl)
theorem aw_strC {idx i : Nat} (hd : Dc M pc (.getfield idx) 3 pc2) (hlk : Cond.fieldLink M.1.cls idx "java/lang/String" "coder" "B" ∈ G) (hi : i < 2) (k : AWq l E d M Z0 pc2 ls (vi 0 :: st) I L R Z Q) : AWq l E d M Z0 pc ls (vr 51 i :: st) I L R Z Q := by
  obtain ⟨hd, rfl⟩ := hd
  refine k.lift (fun v1 v2 => ⟨vc1 trivial (vt1 v1), v2⟩) (fun p e Rm s m args below meth c cells slots Qs F als H locs hl v1 hW hS kk => ?_)
  exact vk_getf F.1 F.2.1 (F.2.2.2.2.2.1.2.2.2.2.2.1.1 i hi).2.1 hS F.2.2.2.1 (F.2.2.2.2.1 _ hlk) (fun _ h => h) hd (kk als hl)
theorem aw_gsCS {idx : Nat} (hd : Dc M pc (.getstatic idx) 3 pc2) (hlk : Cond.fieldLink M.1.cls idx "java/lang/String" "COMPACT_STRINGS" "Z" ∈ G) (k : AWq l E d M Z0 pc2 ls (vi 1 :: st) I L R Z Q) : AWq l E d M Z0 pc ls st I L R Z Q := by
  obtain ⟨hd, rfl⟩ := hd
  refine k.lift (fun v1 v2 => ⟨vc1 trivial v1, v2⟩) (fun p e Rm s m args below meth c cells slots Qs F als H locs hl v1 hW hS kk => ?_)
  exact va_gets F.1 F.2.1 F.2.2.2.2.2.1.2.2.2.2.2.2.1.1 hS F.2.2.2.1 (F.2.2.2.2.1 _ hlk) (fun _ h => h) hd (kk als hl)
theorem aw_gsFm {idx : Nat} (hd : Dc M pc (.getstatic idx) 3 pc2) (hlk : Cond.fieldLink M.1.cls idx "jdk/internal/util/Preconditions" "SIOOBE_FORMATTER" "Ljava/util/function/BiFunction;" ∈ G) (k : ∀ r, AWq l E d M Z0 pc2 ls (vo r :: st) I L R Z Q) : AWq l E d M Z0 pc ls st I L R Z Q := by
  obtain ⟨hd, rfl⟩ := hd
  by_cases h0 : E.2.2.2.1 55 0 = 0
  · refine (k none).lift (fun v1 v2 => ⟨vc1 trivial v1, v2⟩) (fun p e Rm s m args below meth c cells slots Qs F als H locs hl v1 hW hS kk => ?_)
    have hz := F.2.2.2.2.2.1.2.2.2.2.2.2.1.2
    rw [if_pos h0] at hz
    exact va_gets F.1 F.2.1 hz hS F.2.2.2.1 (F.2.2.2.2.1 _ hlk) (fun _ h => h) hd (kk als hl)
  · refine (k (some (54, 0))).lift (fun v1 v2 => ⟨vc1 (Or.inl (by decide)) v1, v2⟩) (fun p e Rm s m args below meth c cells slots Qs F als H locs hl v1 hW hS kk => ?_)
    have hz := F.2.2.2.2.2.1.2.2.2.2.2.2.1.2
    rw [if_neg h0] at hz
    exact va_gets F.1 F.2.1 hz hS F.2.2.2.1 (F.2.2.2.2.1 _ hlk) (fun _ h => h) hd (kk als hl)
theorem slen4 {i : Nat} (h : i < 2) : ([4, 4] : List Nat).getD i 0 = 4 := by
  rcases (by omega : i = 0 ∨ i = 1) with rfl | rfl <;> rfl
theorem aw_strLen {i : Nat} (hd : Dc M pc .arraylength 1 pc2) (hi : i < 2) (k : AWq l E d M Z0 pc2 ls (vi (nI 4) :: st) I L R Z Q) : AWq l E d M Z0 pc ls (vr 52 i :: st) I L R Z Q := by
  obtain ⟨hd, rfl⟩ := hd
  refine k.lift (fun v1 v2 => ⟨vc1 trivial (vt1 v1), v2⟩) (fun p e Rm s m args below meth c cells slots Qs F als H locs hl v1 hW hS kk => ?_)
  have hT := (F.2.2.2.2.2.1.2.2.2.2.2.1.1 i hi).2.2.2
  rw [slen4 hi] at hT
  exact va_tlen F.1 F.2.1 hT hS rfl hd (kk als hl)
theorem aw_strB {x : Int32} {i n : Nat} (hd : Dc M pc .baload 1 pc2) (hi : i < 2) (hx : x = nI n) (hn : n < 4) (k : AWq l E d M Z0 pc2 ls (vi ((sby.getD i []).getD n 0) :: st) I L R Z Q) : AWq l E d M Z0 pc ls (vi x :: vr 52 i :: st) I L R Z Q := by
  obtain ⟨hd, rfl⟩ := hd
  subst hx
  refine k.lift (fun v1 v2 => ⟨vc1 trivial (vt1 (vt1 v1)), v2⟩) (fun p e Rm s m args below meth c cells slots Qs F als H locs hl v1 hW hS kk => ?_)
  have hT := (F.2.2.2.2.2.1.2.2.2.2.2.1.1 i hi).2.2.2
  rw [slen4 hi] at hT
  exact va_tb F.1 F.2.1 hT hS (in_nI hn (by omega)) (v := .int ((sby.getD i []).getD n 0)) (by rw [nI_clamp (by omega)]) hd (kk als hl)
theorem aw_scLen (hd : Dc M pc .arraylength 1 pc2) (k : AWq l E d M Z0 pc2 ls (vi (nI E.2.2.2.2.1) :: st) I L R Z Q) : AWq l E d M Z0 pc ls (vr 53 0 :: st) I L R Z Q := by
  obtain ⟨hd, rfl⟩ := hd
  refine k.lift (fun v1 v2 => ⟨vc1 trivial (vt1 v1), v2⟩) (fun p e Rm s m args below meth c cells slots Qs F als H locs hl v1 hW hS kk => ?_)
  obtain ⟨hx, hlt⟩ := F.2.2.2.2.2.1.2.2.2.2.2.2.2
  exact va_slen F.1 F.2.1 hx (Nat.lt_of_lt_of_le hlt F.2.2.2.2.2.2.2.2.2.2.2) (Nat.not_le.mpr hlt) hS hd (kk als hl)
theorem aw_scLd {x : Int32} {n : Nat} (hd : Dc M pc .iaload 1 pc2) (hx : x = nI n) (hn : n < E.2.2.2.2.1) (hb : n < 2147483648) (k : AWq l E d M Z0 pc2 ls (vi (E.2.2.2.2.2 n) :: st) I L R Z Q) : AWq l E d M Z0 pc ls (vi x :: vr 53 0 :: st) I L R Z Q := by
  obtain ⟨hd, rfl⟩ := hd
  subst hx
  refine k.lift (fun v1 v2 => ⟨vc1 trivial (vt1 (vt1 v1)), v2⟩) (fun p e Rm s m args below meth c cells slots Qs F als H locs hl v1 hW hS kk => ?_)
  obtain ⟨hx, hlt⟩ := F.2.2.2.2.2.1.2.2.2.2.2.2.2
  refine va_sld F.1 F.2.1 hx (Nat.lt_of_lt_of_le hlt F.2.2.2.2.2.2.2.2.2.2.2) (Nat.not_le.mpr hlt) hS (in_nI hn hb) hd ?_
  rw [nI_clamp hb]
  exact kk als hl
theorem aw_callVS {idx i : Nat} {as : List AV} (hd : Dc M pc (.invokevirtual idx) 3 pc2) (hlk : Cond.methodLink M.1.cls idx M2.1 ∈ G) (hf : MF M2 n) (hv : MV M2) (ht : M2.1.cls = "java/lang/String") (hi : i < 2) (hn : as.length = n) (hw : (st.map wd).sum ≤ 8)
    (hm : AMet l E d M2 (vr 51 i :: as) I L R Z (fun r I1 L1 R1 Z1 => AWq l E (d + 1) M Z0 pc2 ls (rst r st) I1 L1 R1 Z1 Q)) : AWq l E (d + 1) M Z0 pc ls (as.reverse ++ vr 51 i :: st) I L R Z Q := by
  obtain ⟨hd, rfl⟩ := hd
  refine AWq.call hm (fun v h1 h2 => h1 v (List.mem_append_right _ (List.mem_cons_of_mem _ h2))) (fun p e Rm s m args below meth c F als H locs cells slots mc ms Qc hsz v1 hW hS hr hM => ?_)
  have hts := F.2.2.2.2.1
  have cw : CallW Rm s args M.1.cls M2.1.cls idx M2.1 M2.2.1 M2.2.2.1 M2.2.2.2 (wsM M2) (rmM d mc ms) mc ms n :=
    ⟨callB_of n hts (goodM hf) rfl rfl rfl (hts _ hf.2.1) (hts _ hlk) hf.2.2.1 (roomM hf.2.2.2.1 F.2.2.2.2.2.2.2.2.2.1 F.2.2.2.2.2.2.2.2.2.2.1), hts _ hv.1, hts _ hv.2⟩
  refine va_runV (As := as.map (cv E)) (b := ad E 51 i) ⟨F.1, F.2.1, F.2.2.1, F.2.2.2.1, hts⟩ hM cw ⟨PcM.blind, by rw [ht]; exact vk_recv F.2.2.2.2.2.1.2.2.2.2.2.1 hi hS, fun U hU hw => ⟨rfl, F.2.2.2.2.2.1.at F.2.2.2.2.2.2.2.2.2.2.2 hS hU hw, by rw [hU]; exact hW, ?_⟩⟩ rfl (by rw [List.length_map]; exact hn) hsz ?_ (lv_room (by rw [wd_sum]; exact hw)) hd hr
  · intro v hv
    rcases List.mem_cons.mp hv with e | hv
    · rw [e]; exact Or.inl (Nat.le_of_ble_eq_true rfl)
    · exact v1 v (List.mem_append_left _ (List.mem_reverse.mpr hv))
  · show (as.reverse ++ vr 51 i :: st).map (cv E) = _
    rw [List.map_append, List.map_reverse, List.map_cons]
    rfl
end STAT
